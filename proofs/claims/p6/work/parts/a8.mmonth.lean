/-! Safety of the reference, choose and act: by program (spec.py). -/
set_option maxHeartbeats 4000000 in
set_option maxRecDepth 20000 in
theorem yc_Model_weigh2 {D : va_G} {cA : FieldType → ClassId} {b : Nat} {E : State → Prop} {R : qRg} {o n : Nat} {sh : Nat → qC} {Rf : Nat → Nat → Option Nat} {I0 : Nat → Nat → Int32} {L0 : Nat → Nat → Int64} {post : Option Value → qS → Prop} {p1 : Int32} {p2 : Int32} {p3 : Int32} {p4 : Int32} {p5 : Int32} {p6 : Int64} (hok : q_ok (qGG D cA b E)) (hw : WfModel (qGG D cA b E) n sh Rf o) (ra : RAModel R o) (hz132 : R.2 132 = true) (hz133 : R.2 133 = true) (hz134 : R.2 134 = true) (hz135 : R.2 135 = true) (hz136 : R.2 136 = true) (hZ : Fz R I0 o wModel_weigh) (hR0 : RI R I0) (hq0 : (0 : Int) ≤ p1.toInt ∧ p1.toInt ≤ 4) (hq1 : (-1 : Int) ≤ p2.toInt ∧ p2.toInt ≤ 2) (hq2 : (-1 : Int) ≤ p3.toInt ∧ p3.toInt ≤ 4) (hq3 : Im (p1.toInt = 1) (0 ≤ p2.toInt ∧ 0 ≤ p3.toInt)) (hq4 : Im (p1.toInt = 2 ∨ p1.toInt = 3) (0 ≤ p2.toInt)) (hq5 : MWy I0 o) (hR : RI R I0) (hp : ∀ (I' : Nat → Nat → Int32) (L' : Nat → Nat → Int64), RI R I' → Fm (fun c => c = o) I0 I' → (MWy I' o) → post none (n, sh, Rf, I', L')) : Ev (qGG D cA b E) mModel_weigh 0 (0, 0) 0 (lv_args 0 [.ref o, .int p1, .int p2, .int p3, .int p4, .int p5, .long p6]) [] (n, sh, Rf, I0, L0) post := by
  have hf : Fm (fun c => c = o) I0 I0 := Fm.rf
  have g_1 : (0 : Int) ≤ (I0 o 122).toInt ∧ (I0 o 122).toInt ≤ 4 := hR.at0 ra 122 (by decide)
  have g_2 : (-1 : Int) ≤ (I0 o 123).toInt ∧ (I0 o 123).toInt ≤ 2 := hR.at0 ra 123 (by decide)
  have g_3 : (-1 : Int) ≤ (I0 o 124).toInt ∧ (I0 o 124).toInt ≤ 4 := hR.at0 ra 124 (by decide)
  refine sModel_weigh_0 o n sh Rf I0 L0 post p1 p2 p3 p4 p5 p6 hok hw ?_
  unfold fModel_weigh_0
  have l_4 : (0 : Int32).toInt = 0 := rfl
  refine ⟨fun c_5 => ?_, fun c_5 => ?_⟩
  · have d_6 := iEq c_5
    exact (hp _ _ hR hf  hq5)
  · have d_7 := iNe c_5
    refine ⟨fun c_8 => ?_, fun c_8 => ?_⟩
    · have d_9 := iLt c_8
      refine fun I_10 e_11 => ?_
      have hR_12 : RI R I_10 := hR.up0 (k := 122) ra (by decide) (Or.inr hz132) e_11 (show (0 : Int) ≤ p1.toInt by omega) (show p1.toInt ≤ (4 : Int) by omega)
      have hf_13 : Fm (fun c => c = o) I0 I_10 := hf.set (by first | rfl | omega | (dsimp only; omega)) e_11
      have t_14 : (I_10 o 122).toInt = p1.toInt := by rw [← e_11, q_u_at]
      have t_15 : (I_10 o 123).toInt = (I0 o 123).toInt := by rw [← e_11, q_u_k (by decide)]
      have t_16 : (I_10 o 124).toInt = (I0 o 124).toInt := by rw [← e_11, q_u_k (by decide)]
      refine fun I_18 e_19 => ?_
      have hR_20 : RI R I_18 := hR_12.up0 (k := 123) ra (by decide) (Or.inr hz133) e_19 (show (-1 : Int) ≤ p2.toInt by omega) (show p2.toInt ≤ (2 : Int) by omega)
      have hf_21 : Fm (fun c => c = o) I0 I_18 := hf_13.set (by first | rfl | omega | (dsimp only; omega)) e_19
      have t_22 : (I_18 o 122).toInt = (I_10 o 122).toInt := by rw [← e_19, q_u_k (by decide)]
      have t_23 : (I_18 o 123).toInt = p2.toInt := by rw [← e_19, q_u_at]
      have t_24 : (I_18 o 124).toInt = (I_10 o 124).toInt := by rw [← e_19, q_u_k (by decide)]
      refine fun I_25 e_26 => ?_
      have hR_27 : RI R I_25 := hR_20.up0 (k := 124) ra (by decide) (Or.inr hz134) e_26 (show (-1 : Int) ≤ p3.toInt by omega) (show p3.toInt ≤ (4 : Int) by omega)
      have hf_28 : Fm (fun c => c = o) I0 I_25 := hf_21.set (by first | rfl | omega | (dsimp only; omega)) e_26
      have t_29 : (I_25 o 122).toInt = (I_18 o 122).toInt := by rw [← e_26, q_u_k (by decide)]
      have t_30 : (I_25 o 123).toInt = (I_18 o 123).toInt := by rw [← e_26, q_u_k (by decide)]
      have t_31 : (I_25 o 124).toInt = p3.toInt := by rw [← e_26, q_u_at]
      refine fun I_32 e_33 => ?_
      have hR_34 : RI R I_32 := hR_27.up0 (k := 125) ra (by decide) (Or.inr hz135) e_33 (i_lo _) (i_hi _)
      have hf_35 : Fm (fun c => c = o) I0 I_32 := hf_28.set (by first | rfl | omega | (dsimp only; omega)) e_33
      have t_36 : (I_32 o 122).toInt = (I_25 o 122).toInt := by rw [← e_33, q_u_k (by decide)]
      have t_37 : (I_32 o 123).toInt = (I_25 o 123).toInt := by rw [← e_33, q_u_k (by decide)]
      have t_38 : (I_32 o 124).toInt = (I_25 o 124).toInt := by rw [← e_33, q_u_k (by decide)]
      refine fun I_39 e_40 => ?_
      have hR_41 : RI R I_39 := hR_34.up0 (k := 126) ra (by decide) (Or.inr hz136) e_40 (i_lo _) (i_hi _)
      have hf_42 : Fm (fun c => c = o) I0 I_39 := hf_35.set (by first | rfl | omega | (dsimp only; omega)) e_40
      have t_43 : (I_39 o 122).toInt = (I_32 o 122).toInt := by rw [← e_40, q_u_k (by decide)]
      have t_44 : (I_39 o 123).toInt = (I_32 o 123).toInt := by rw [← e_40, q_u_k (by decide)]
      have t_45 : (I_39 o 124).toInt = (I_32 o 124).toInt := by rw [← e_40, q_u_k (by decide)]
      refine fun L_46 e_47 => ?_
      exact (hp _ _ hR_41 hf_42  (by unfold MWy; exact ⟨fun h => (by have q := hq3 (by omega); omega), fun h => (by have q := hq4 (by omega); omega), fun h => (by have q := hq4 (by omega); omega)⟩))
    · have d_48 := iNlt c_8
      exact (hp _ _ hR hf  hq5)
theorem y_Model_weigh2 {D : va_G} {cA : FieldType → ClassId} {b : Nat} {E : State → Prop} {R : qRg} {o n : Nat} {sh : Nat → qC} {Rf : Nat → Nat → Option Nat} {I0 : Nat → Nat → Int32} {L0 : Nat → Nat → Int64} {post : Option Value → qS → Prop} {p1 : Int32} {p2 : Int32} {p3 : Int32} {p4 : Int32} {p5 : Int32} {p6 : Int64} (hok : q_ok (qGG D cA b E)) (hw : WfModel (qGG D cA b E) n sh Rf o) (ra : RAModel R o) (hz132 : R.2 132 = true) (hz133 : R.2 133 = true) (hz134 : R.2 134 = true) (hz135 : R.2 135 = true) (hz136 : R.2 136 = true) (hq0 : (0 : Int) ≤ p1.toInt ∧ p1.toInt ≤ 4) (hq1 : (-1 : Int) ≤ p2.toInt ∧ p2.toInt ≤ 2) (hq2 : (-1 : Int) ≤ p3.toInt ∧ p3.toInt ≤ 4) (hq3 : Im (p1.toInt = 1) (0 ≤ p2.toInt ∧ 0 ≤ p3.toInt)) (hq4 : Im (p1.toInt = 2 ∨ p1.toInt = 3) (0 ≤ p2.toInt)) (hq5 : MWy I0 o) (hR : RI R I0) (hp : ∀ (I' : Nat → Nat → Int32) (L' : Nat → Nat → Int64), RI R I' → Fm (fun c => c = o) I0 I' → Kp wModel_weigh I0 I' o → (MWy I' o) → post none (n, sh, Rf, I', L')) : Ev (qGG D cA b E) mModel_weigh 0 (0, 0) 0 (lv_args 0 [.ref o, .int p1, .int p2, .int p3, .int p4, .int p5, .long p6]) [] (n, sh, Rf, I0, L0) post :=
  yc_Model_weigh2 (R := fzR R I0 o wModel_weigh) hok hw (fzA ra hR _) (fzT hz132 rfl) (fzT hz133 rfl) (fzT hz134 rfl) (fzT hz135 rfl) (fzT hz136 rfl) fzZ (fzI hR) hq0 hq1 hq2 hq3 hq4 hq5 (fzI hR) (fun I' L' h1 h2 u0 => hp I' L' (fzB hR h1) h2 (fzP h1) u0)
def wModel_choose : Nat → Bool := fun j => Nat.beq j 61 || Nat.beq j 62 || Nat.beq j 63 || Nat.beq j 130 || Nat.beq j 132 || Nat.beq j 133 || Nat.beq j 134 || Nat.beq j 135 || Nat.beq j 136 || Nat.beq j 137 || false
set_option maxHeartbeats 4000000 in
set_option maxRecDepth 20000 in
theorem yModel_choose_302 {D : va_G} {cA : FieldType → ClassId} {b : Nat} {E : State → Prop} {R : qRg} {o n : Nat} {sh : Nat → qC} {Rf : Nat → Nat → Option Nat} {I0 : Nat → Nat → Int32} {L0 : Nat → Nat → Int64} {post : Option Value → qS → Prop} {p1 : Int32} (hok : q_ok (qGG D cA b E)) (hw : WfModel (qGG D cA b E) n sh Rf o) (ra : RAModel R o) (hz61 : R.2 61 = true) (hz62 : R.2 62 = true) (hz63 : R.2 63 = true) (hz130 : R.2 130 = true) (hz132 : R.2 132 = true) (hz133 : R.2 133 = true) (hz134 : R.2 134 = true) (hz135 : R.2 135 = true) (hz136 : R.2 136 = true) (hz137 : R.2 137 = true) (hZ : Fz R I0 o wModel_choose) (hR0 : RI R I0) (hq0 : (0 : Int) ≤ p1.toInt ∧ p1.toInt ≤ 5) (hq1 : (I0 o 106).toInt ≠ 4) (hq2 : MTd I0 o) (hp : ∀ (I' : Nat → Nat → Int32) (L' : Nat → Nat → Int64), RI R I' → Fm (fun c => c = o ∨ c = o + 34) I0 I' → (MTd I' o) → (MWy I' o) → post none (n, sh, Rf, I', L')) : ∀ (k : Nat) {x1 : Int32} {x2 : Int32} {I : Nat → Nat → Int32} {L : Nat → Nat → Int64}, RI R I → Fm (fun c => c = o ∨ c = o + 34) I0 I → ((0 : Int) ≤ x1.toInt ∧ x1.toInt ≤ 5) → ((0 : Int) ≤ x2.toInt ∧ x2.toInt ≤ 3) → (MTd I o) → (MWy I o) → (3 - x2.toInt).toNat < k → Ev (qGG D cA b E) mModel_choose 7 (0, 0) 302 [(0, .ref o), (1, .int x1), (2, .int x2)] [] (n, sh, Rf, I, L) post := by
  intro k
  induction k with
  | zero =>
    intro x1 x2 I L hR hf hi0 hi1 hi2 hi3 hm
    exact absurd hm (Nat.not_lt_zero _)
  | succ k ih =>
    intro x1 x2 I L hR hf hi0 hi1 hi2 hi3 hm
    have g_1 : (0 : Int) ≤ (I o 106).toInt ∧ (I o 106).toInt ≤ 5 := hR.at0 ra 106 (by decide)
    have z_2 : (I o 106).toInt = (I0 o 106).toInt := by rw [hZ I 106 rfl hR]
    have g_3 : (0 : Int) ≤ (I o 122).toInt ∧ (I o 122).toInt ≤ 4 := hR.at0 ra 122 (by decide)
    have g_4 : (0 : Int) ≤ (I0 o 122).toInt ∧ (I0 o 122).toInt ≤ 4 := hR0.at0 ra 122 (by decide)
    have g_5 : (-1 : Int) ≤ (I o 123).toInt ∧ (I o 123).toInt ≤ 2 := hR.at0 ra 123 (by decide)
    have g_6 : (-1 : Int) ≤ (I0 o 123).toInt ∧ (I0 o 123).toInt ≤ 2 := hR0.at0 ra 123 (by decide)
    have g_7 : (-1 : Int) ≤ (I o 124).toInt ∧ (I o 124).toInt ≤ 4 := hR.at0 ra 124 (by decide)
    have g_8 : (-1 : Int) ≤ (I0 o 124).toInt ∧ (I0 o 124).toInt ≤ 4 := hR0.at0 ra 124 (by decide)
    refine sModel_choose_302 o n sh Rf I L post x1 x2 hok hw ?_
    unfold fModel_choose_302
    refine y_Model_forts hok hw ra hR (fun r_9 u_10 => ⟨r_9, I, L, rfl, rfl, ?_⟩)
    refine ⟨fun c_11 => ?_, fun c_11 => ?_⟩
    · have d_12 := iLe c_11
      have l_13 : (0 : Int32).toInt = 0 := rfl
      refine ⟨fun c_14 => ?_, fun c_14 => ?_⟩
      · have d_15 := iLe c_14
        exact (hp _ _ hR hf  hi2 hi3)
      · have d_16 := iNle c_14
        refine y_Model_least hok hR (fun r_17  => ⟨r_17, I, L, rfl, rfl, ?_⟩)
        refine ⟨tIn (by omega) (by omega), ?_⟩
        refine y_Model_affordable hok hw ra hR (fun r_18  => ⟨r_18, I, L, rfl, rfl, ?_⟩)
        have l_19 : (4 : Int32).toInt = 4 := rfl
        have l_20 : (-1 : Int32).toInt = -1 := rfl
        refine y_Model_weigh2 hok hw ra hz132 hz133 hz134 hz135 hz136 (by first | omega | (intro h; omega) | exact Or.inl rfl | exact Or.inr rfl) (by first | omega | (intro h; omega) | exact Or.inl rfl | exact Or.inr rfl) (by first | omega | (intro h; omega) | exact Or.inl rfl | exact Or.inr rfl) (by exact fun h => absurd h (by omega)) (by exact fun h => absurd h (by omega)) hi3 hR (fun I_23 L_24 hR_25 fr_26 kp_27 u_22 => ⟨I_23, L_24, rfl, rfl, ?_⟩)
        have hf_28 : Fm (fun c => c = o ∨ c = o + 34) I0 I_23 := hf.call fr_26 (fun c hc => by first | exact hc | (dsimp only at hc ⊢; omega) | omega)
        have t_29 : (I_23 o 106).toInt = (I o 106).toInt := by rw [kp_27 106 rfl]
        have g_30 : (0 : Int) ≤ (I_23 o 122).toInt ∧ (I_23 o 122).toInt ≤ 4 := hR_25.at0 ra 122 (by decide)
        have g_31 : (-1 : Int) ≤ (I_23 o 123).toInt ∧ (I_23 o 123).toInt ≤ 2 := hR_25.at0 ra 123 (by decide)
        have g_32 : (-1 : Int) ≤ (I_23 o 124).toInt ∧ (I_23 o 124).toInt ≤ 4 := hR_25.at0 ra 124 (by decide)
        have k_33 : MTd I_23 o := hi2.fr (fr_26 _ (by first | omega | (dsimp only; omega))) (fr_26 _ (by first | omega | (dsimp only; omega))) (fr_26 _ (by first | omega | (dsimp only; omega)))
        exact (hp _ _ hR_25 hf_28  k_33 u_22)
    · have d_34 := iNle c_11
      have l_35 : (3 : Int32).toInt = 3 := rfl
      have a_36 : (3 * x1).toInt = 3 * x1.toInt := tMulL rfl (by omega) (by omega)
      have a_37 : ((3 * x1) + x2).toInt = (3 * x1).toInt + x2.toInt := tAdd (by omega) (by omega)
      refine ⟨tIn (by omega) (by omega), ?_⟩
      have l_38 : (0 : Int32).toInt = 0 := rfl
      refine ⟨fun c_39 => ?_, fun c_39 => ?_⟩
      · have d_40 := iLe c_39
        unfold fModel_choose_382
        have a_42 : (x2 + Int32.ofInt 1).toInt = x2.toInt + (1) := tIc (by omega) (by omega) (by decide) (by decide)
        generalize ez_41 : (x2 + Int32.ofInt 1) = z_41 at a_42 ⊢
        exact ih hR hf (by first | omega | (intro h; omega) | exact Or.inl rfl | exact Or.inr rfl) (by first | omega | (intro h; omega) | exact Or.inl rfl | exact Or.inr rfl) hi2 hi3 (by omega)
      · have d_43 := iNle c_39
        refine ⟨tIn (by omega) (by omega), ?_⟩
        refine ⟨fun c_44 => ?_, fun c_44 => ?_⟩
        · have d_45 := iLe c_44
          refine y_Model_rateFor hok hw ra hz61 hz62 hz63 (by first | omega | (intro h; omega) | exact Or.inl rfl | exact Or.inr rfl) (by first | omega | (intro h; omega) | exact Or.inl rfl | exact Or.inr rfl) hi2 hR (fun r_46 I_48 L_49 hR_50 fr_51 kp_52 u_47 => ⟨r_46, I_48, L_49, rfl, rfl, ?_⟩)
          have hf_53 : Fm (fun c => c = o ∨ c = o + 34) I0 I_48 := hf.call fr_51 (fun c hc => by first | exact hc | (dsimp only at hc ⊢; omega) | omega)
          have t_54 : (I_48 o 106).toInt = (I o 106).toInt := by rw [kp_52 106 rfl]
          have t_55 : (I_48 o 122).toInt = (I o 122).toInt := by rw [kp_52 122 rfl]
          have t_56 : (I_48 o 123).toInt = (I o 123).toInt := by rw [kp_52 123 rfl]
          have t_57 : (I_48 o 124).toInt = (I o 124).toInt := by rw [kp_52 124 rfl]
          have k_58 : MWy I_48 o := hi3.fr (kp_52 122 rfl) (kp_52 123 rfl) (kp_52 124 rfl)
          have l_59 : (-1 : Int32).toInt = -1 := rfl
          have l_60 : (1 : Int32).toInt = 1 := rfl
          refine y_Model_weigh2 hok hw ra hz132 hz133 hz134 hz135 hz136 (by first | omega | (intro h; omega) | exact Or.inl rfl | exact Or.inr rfl) (by first | omega | (intro h; omega) | exact Or.inl rfl | exact Or.inr rfl) (by first | omega | (intro h; omega) | exact Or.inl rfl | exact Or.inr rfl) (by exact fun h => absurd h (by omega)) (by exact fun _ => by omega) k_58 hR_50 (fun I_63 L_64 hR_65 fr_66 kp_67 u_62 => ⟨I_63, L_64, rfl, rfl, ?_⟩)
          have hf_68 : Fm (fun c => c = o ∨ c = o + 34) I0 I_63 := hf_53.call fr_66 (fun c hc => by first | exact hc | (dsimp only at hc ⊢; omega) | omega)
          have t_69 : (I_63 o 106).toInt = (I_48 o 106).toInt := by rw [kp_67 106 rfl]
          have g_70 : (0 : Int) ≤ (I_63 o 122).toInt ∧ (I_63 o 122).toInt ≤ 4 := hR_65.at0 ra 122 (by decide)
          have g_71 : (-1 : Int) ≤ (I_63 o 123).toInt ∧ (I_63 o 123).toInt ≤ 2 := hR_65.at0 ra 123 (by decide)
          have g_72 : (-1 : Int) ≤ (I_63 o 124).toInt ∧ (I_63 o 124).toInt ≤ 4 := hR_65.at0 ra 124 (by decide)
          have k_73 : MTd I_63 o := u_47.fr (fr_66 _ (by first | omega | (dsimp only; omega))) (fr_66 _ (by first | omega | (dsimp only; omega))) (fr_66 _ (by first | omega | (dsimp only; omega)))
          unfold fModel_choose_382
          have a_75 : (x2 + Int32.ofInt 1).toInt = x2.toInt + (1) := tIc (by omega) (by omega) (by decide) (by decide)
          generalize ez_74 : (x2 + Int32.ofInt 1) = z_74 at a_75 ⊢
          exact ih hR_65 hf_68 (by first | omega | (intro h; omega) | exact Or.inl rfl | exact Or.inr rfl) (by first | omega | (intro h; omega) | exact Or.inl rfl | exact Or.inr rfl) k_73 u_62 (by omega)
        · have d_76 := iNle c_44
          unfold fModel_choose_382
          have a_78 : (x2 + Int32.ofInt 1).toInt = x2.toInt + (1) := tIc (by omega) (by omega) (by decide) (by decide)
          generalize ez_77 : (x2 + Int32.ofInt 1) = z_77 at a_78 ⊢
          exact ih hR hf (by first | omega | (intro h; omega) | exact Or.inl rfl | exact Or.inr rfl) (by first | omega | (intro h; omega) | exact Or.inl rfl | exact Or.inr rfl) hi2 hi3 (by omega)
set_option maxHeartbeats 4000000 in
set_option maxRecDepth 20000 in
theorem yModel_choose_200 {D : va_G} {cA : FieldType → ClassId} {b : Nat} {E : State → Prop} {R : qRg} {o n : Nat} {sh : Nat → qC} {Rf : Nat → Nat → Option Nat} {I0 : Nat → Nat → Int32} {L0 : Nat → Nat → Int64} {post : Option Value → qS → Prop} {p1 : Int32} (hok : q_ok (qGG D cA b E)) (hw : WfModel (qGG D cA b E) n sh Rf o) (ra : RAModel R o) (hz61 : R.2 61 = true) (hz62 : R.2 62 = true) (hz63 : R.2 63 = true) (hz130 : R.2 130 = true) (hz132 : R.2 132 = true) (hz133 : R.2 133 = true) (hz134 : R.2 134 = true) (hz135 : R.2 135 = true) (hz136 : R.2 136 = true) (hz137 : R.2 137 = true) (hZ : Fz R I0 o wModel_choose) (hR0 : RI R I0) (hq0 : (0 : Int) ≤ p1.toInt ∧ p1.toInt ≤ 5) (hq1 : (I0 o 106).toInt ≠ 4) (hq2 : MTd I0 o) (hp : ∀ (I' : Nat → Nat → Int32) (L' : Nat → Nat → Int64), RI R I' → Fm (fun c => c = o ∨ c = o + 34) I0 I' → (MTd I' o) → (MWy I' o) → post none (n, sh, Rf, I', L')) : ∀ (k : Nat) {x1 : Int32} {x2 : Int32} {I : Nat → Nat → Int32} {L : Nat → Nat → Int64}, RI R I → Fm (fun c => c = o ∨ c = o + 34) I0 I → ((0 : Int) ≤ x1.toInt ∧ x1.toInt ≤ 5) → ((0 : Int) ≤ x2.toInt ∧ x2.toInt ≤ 3) → (MTd I o) → (MWy I o) → (3 - x2.toInt).toNat < k → Ev (qGG D cA b E) mModel_choose 7 (0, 0) 200 [(0, .ref o), (1, .int x1), (2, .int x2)] [] (n, sh, Rf, I, L) post := by
  intro k
  induction k with
  | zero =>
    intro x1 x2 I L hR hf hi0 hi1 hi2 hi3 hm
    exact absurd hm (Nat.not_lt_zero _)
  | succ k ih =>
    intro x1 x2 I L hR hf hi0 hi1 hi2 hi3 hm
    have g_79 : (0 : Int) ≤ (I o 106).toInt ∧ (I o 106).toInt ≤ 5 := hR.at0 ra 106 (by decide)
    have z_80 : (I o 106).toInt = (I0 o 106).toInt := by rw [hZ I 106 rfl hR]
    have g_81 : (0 : Int) ≤ (I o 122).toInt ∧ (I o 122).toInt ≤ 4 := hR.at0 ra 122 (by decide)
    have g_82 : (0 : Int) ≤ (I0 o 122).toInt ∧ (I0 o 122).toInt ≤ 4 := hR0.at0 ra 122 (by decide)
    have g_83 : (-1 : Int) ≤ (I o 123).toInt ∧ (I o 123).toInt ≤ 2 := hR.at0 ra 123 (by decide)
    have g_84 : (-1 : Int) ≤ (I0 o 123).toInt ∧ (I0 o 123).toInt ≤ 2 := hR0.at0 ra 123 (by decide)
    have g_85 : (-1 : Int) ≤ (I o 124).toInt ∧ (I o 124).toInt ≤ 4 := hR.at0 ra 124 (by decide)
    have g_86 : (-1 : Int) ≤ (I0 o 124).toInt ∧ (I0 o 124).toInt ≤ 4 := hR0.at0 ra 124 (by decide)
    refine sModel_choose_200 o n sh Rf I L post x1 x2 hok hw ?_
    unfold fModel_choose_200
    refine y_Model_forts hok hw ra hR (fun r_87 u_88 => ⟨r_87, I, L, rfl, rfl, ?_⟩)
    refine ⟨fun c_89 => ?_, fun c_89 => ?_⟩
    · have d_90 := iLe c_89
      have l_91 : (0 : Int32).toInt = 0 := rfl
      exact yModel_choose_302 (I0 := I0) (L0 := L0) (p1 := p1) hok hw ra hz61 hz62 hz63 hz130 hz132 hz133 hz134 hz135 hz136 hz137 hZ hR0 hq0 hq1 hq2 hp  _ hR hf (by first | omega | (intro h; omega) | exact Or.inl rfl | exact Or.inr rfl) (by first | omega | (intro h; omega) | exact Or.inl rfl | exact Or.inr rfl) hi2 hi3 (Nat.lt_succ_self _)
    · have d_92 := iNle c_89
      have l_93 : (3 : Int32).toInt = 3 := rfl
      have a_94 : (3 * x1).toInt = 3 * x1.toInt := tMulL rfl (by omega) (by omega)
      have a_95 : ((3 * x1) + x2).toInt = (3 * x1).toInt + x2.toInt := tAdd (by omega) (by omega)
      refine ⟨tIn (by omega) (by omega), ?_⟩
      have l_96 : (0 : Int32).toInt = 0 := rfl
      refine ⟨fun c_97 => ?_, fun c_97 => ?_⟩
      · have d_98 := iLt c_97
        unfold fModel_choose_294
        have a_100 : (x2 + Int32.ofInt 1).toInt = x2.toInt + (1) := tIc (by omega) (by omega) (by decide) (by decide)
        generalize ez_99 : (x2 + Int32.ofInt 1) = z_99 at a_100 ⊢
        exact ih hR hf (by first | omega | (intro h; omega) | exact Or.inl rfl | exact Or.inr rfl) (by first | omega | (intro h; omega) | exact Or.inl rfl | exact Or.inr rfl) hi2 hi3 (by omega)
      · have d_101 := iNlt c_97
        have g_102 : (0 : Int) ≤ (I o 57).toInt ∧ (I o 57).toInt ≤ 240 := hR.at0 ra 57 (by decide)
        have h_103 := i_hi (I (o + 48) (((3 * x1) + x2) : Int32).toNatClampNeg)
        have a_104 : ((I o 57) - (I (o + 48) (((3 * x1) + x2) : Int32).toNatClampNeg)).toInt = (I o 57).toInt - (I (o + 48) (((3 * x1) + x2) : Int32).toNatClampNeg).toInt := tSub (by omega) (by omega)
        have l_105 : (12 : Int32).toInt = 12 := rfl
        refine ⟨fun c_106 => ?_, fun c_106 => ?_⟩
        · have d_107 := iLe c_106
          refine ⟨tIn (by omega) (by omega), ?_⟩
          refine y_Model_affordable hok hw ra hR (fun r_108  => ⟨r_108, I, L, rfl, rfl, ?_⟩)
          refine y_Model_rateFor hok hw ra hz61 hz62 hz63 (by first | omega | (intro h; omega) | exact Or.inl rfl | exact Or.inr rfl) (by first | omega | (intro h; omega) | exact Or.inl rfl | exact Or.inr rfl) hi2 hR (fun r_109 I_111 L_112 hR_113 fr_114 kp_115 u_110 => ⟨r_109, I_111, L_112, rfl, rfl, ?_⟩)
          have hf_116 : Fm (fun c => c = o ∨ c = o + 34) I0 I_111 := hf.call fr_114 (fun c hc => by first | exact hc | (dsimp only at hc ⊢; omega) | omega)
          have t_117 : (I_111 o 106).toInt = (I o 106).toInt := by rw [kp_115 106 rfl]
          have t_118 : (I_111 o 122).toInt = (I o 122).toInt := by rw [kp_115 122 rfl]
          have t_119 : (I_111 o 123).toInt = (I o 123).toInt := by rw [kp_115 123 rfl]
          have t_120 : (I_111 o 124).toInt = (I o 124).toInt := by rw [kp_115 124 rfl]
          have t_121 : (I_111 o 57).toInt = (I o 57).toInt := by rw [kp_115 57 rfl]
          have k_122 : MWy I_111 o := hi3.fr (kp_115 122 rfl) (kp_115 123 rfl) (kp_115 124 rfl)
          have l_123 : (2 : Int32).toInt = 2 := rfl
          have l_124 : (-1 : Int32).toInt = -1 := rfl
          refine y_Model_weigh2 hok hw ra hz132 hz133 hz134 hz135 hz136 (by first | omega | (intro h; omega) | exact Or.inl rfl | exact Or.inr rfl) (by first | omega | (intro h; omega) | exact Or.inl rfl | exact Or.inr rfl) (by first | omega | (intro h; omega) | exact Or.inl rfl | exact Or.inr rfl) (by exact fun h => absurd h (by omega)) (by exact fun _ => by omega) k_122 hR_113 (fun I_127 L_128 hR_129 fr_130 kp_131 u_126 => ⟨I_127, L_128, rfl, rfl, ?_⟩)
          have hf_132 : Fm (fun c => c = o ∨ c = o + 34) I0 I_127 := hf_116.call fr_130 (fun c hc => by first | exact hc | (dsimp only at hc ⊢; omega) | omega)
          have t_133 : (I_127 o 106).toInt = (I_111 o 106).toInt := by rw [kp_131 106 rfl]
          have g_134 : (0 : Int) ≤ (I_127 o 122).toInt ∧ (I_127 o 122).toInt ≤ 4 := hR_129.at0 ra 122 (by decide)
          have g_135 : (-1 : Int) ≤ (I_127 o 123).toInt ∧ (I_127 o 123).toInt ≤ 2 := hR_129.at0 ra 123 (by decide)
          have g_136 : (-1 : Int) ≤ (I_127 o 124).toInt ∧ (I_127 o 124).toInt ≤ 4 := hR_129.at0 ra 124 (by decide)
          have t_137 : (I_127 o 57).toInt = (I_111 o 57).toInt := by rw [kp_131 57 rfl]
          have k_138 : MTd I_127 o := u_110.fr (fr_130 _ (by first | omega | (dsimp only; omega))) (fr_130 _ (by first | omega | (dsimp only; omega))) (fr_130 _ (by first | omega | (dsimp only; omega)))
          unfold fModel_choose_294
          have a_140 : (x2 + Int32.ofInt 1).toInt = x2.toInt + (1) := tIc (by omega) (by omega) (by decide) (by decide)
          generalize ez_139 : (x2 + Int32.ofInt 1) = z_139 at a_140 ⊢
          exact ih hR_129 hf_132 (by first | omega | (intro h; omega) | exact Or.inl rfl | exact Or.inr rfl) (by first | omega | (intro h; omega) | exact Or.inl rfl | exact Or.inr rfl) k_138 u_126 (by omega)
        · have d_141 := iNle c_106
          unfold fModel_choose_294
          have a_143 : (x2 + Int32.ofInt 1).toInt = x2.toInt + (1) := tIc (by omega) (by omega) (by decide) (by decide)
          generalize ez_142 : (x2 + Int32.ofInt 1) = z_142 at a_143 ⊢
          exact ih hR hf (by first | omega | (intro h; omega) | exact Or.inl rfl | exact Or.inr rfl) (by first | omega | (intro h; omega) | exact Or.inl rfl | exact Or.inr rfl) hi2 hi3 (by omega)
set_option maxHeartbeats 4000000 in
set_option maxRecDepth 20000 in
theorem yModel_choose_53 {D : va_G} {cA : FieldType → ClassId} {b : Nat} {E : State → Prop} {R : qRg} {o n : Nat} {sh : Nat → qC} {Rf : Nat → Nat → Option Nat} {I0 : Nat → Nat → Int32} {L0 : Nat → Nat → Int64} {post : Option Value → qS → Prop} {p1 : Int32} (hok : q_ok (qGG D cA b E)) (hw : WfModel (qGG D cA b E) n sh Rf o) (ra : RAModel R o) (hz61 : R.2 61 = true) (hz62 : R.2 62 = true) (hz63 : R.2 63 = true) (hz130 : R.2 130 = true) (hz132 : R.2 132 = true) (hz133 : R.2 133 = true) (hz134 : R.2 134 = true) (hz135 : R.2 135 = true) (hz136 : R.2 136 = true) (hz137 : R.2 137 = true) (hZ : Fz R I0 o wModel_choose) (hR0 : RI R I0) (hq0 : (0 : Int) ≤ p1.toInt ∧ p1.toInt ≤ 5) (hq1 : (I0 o 106).toInt ≠ 4) (hq2 : MTd I0 o) (hp : ∀ (I' : Nat → Nat → Int32) (L' : Nat → Nat → Int64), RI R I' → Fm (fun c => c = o ∨ c = o + 34) I0 I' → (MTd I' o) → (MWy I' o) → post none (n, sh, Rf, I', L')) {k43 : Nat} (ho43 : ∀ {x1 : Int32} {x2 : Int32} {I : Nat → Nat → Int32} {L : Nat → Nat → Int64}, RI R I → Fm (fun c => c = o ∨ c = o + 34) I0 I → ((0 : Int) ≤ x1.toInt ∧ x1.toInt ≤ 5) → ((0 : Int) ≤ x2.toInt ∧ x2.toInt ≤ 3) → (MTd I o) → (MWy I o) → (3 - x2.toInt).toNat < k43 → Ev (qGG D cA b E) mModel_choose 7 (0, 0) 43 [(0, .ref o), (1, .int x1), (2, .int x2)] [] (n, sh, Rf, I, L) post) : ∀ (k : Nat) {x1 : Int32} {x2 : Int32} {x3 : Int32} {I : Nat → Nat → Int32} {L : Nat → Nat → Int64}, RI R I → Fm (fun c => c = o ∨ c = o + 34) I0 I → ((0 : Int) ≤ x1.toInt ∧ x1.toInt ≤ 5) → ((0 : Int) ≤ x2.toInt ∧ x2.toInt ≤ 2) → ((0 : Int) ≤ x3.toInt ∧ x3.toInt ≤ 5) → ((3 - x2.toInt).toNat < k43 + 1) → (MTd I o) → (MWy I o) → (5 - x3.toInt).toNat < k → Ev (qGG D cA b E) mModel_choose 7 (0, 0) 53 [(0, .ref o), (1, .int x1), (2, .int x2), (3, .int x3)] [] (n, sh, Rf, I, L) post := by
  intro k
  induction k with
  | zero =>
    intro x1 x2 x3 I L hR hf hi0 hi1 hi2 hi3 hi4 hi5 hm
    exact absurd hm (Nat.not_lt_zero _)
  | succ k ih =>
    intro x1 x2 x3 I L hR hf hi0 hi1 hi2 hi3 hi4 hi5 hm
    have g_144 : (0 : Int) ≤ (I o 106).toInt ∧ (I o 106).toInt ≤ 5 := hR.at0 ra 106 (by decide)
    have z_145 : (I o 106).toInt = (I0 o 106).toInt := by rw [hZ I 106 rfl hR]
    have g_146 : (0 : Int) ≤ (I o 122).toInt ∧ (I o 122).toInt ≤ 4 := hR.at0 ra 122 (by decide)
    have g_147 : (0 : Int) ≤ (I0 o 122).toInt ∧ (I0 o 122).toInt ≤ 4 := hR0.at0 ra 122 (by decide)
    have g_148 : (-1 : Int) ≤ (I o 123).toInt ∧ (I o 123).toInt ≤ 2 := hR.at0 ra 123 (by decide)
    have g_149 : (-1 : Int) ≤ (I0 o 123).toInt ∧ (I0 o 123).toInt ≤ 2 := hR0.at0 ra 123 (by decide)
    have g_150 : (-1 : Int) ≤ (I o 124).toInt ∧ (I o 124).toInt ≤ 4 := hR.at0 ra 124 (by decide)
    have g_151 : (-1 : Int) ≤ (I0 o 124).toInt ∧ (I0 o 124).toInt ≤ 4 := hR0.at0 ra 124 (by decide)
    refine sModel_choose_53 o n sh Rf I L post x1 x2 x3 hok hw ?_
    unfold fModel_choose_53
    refine y_Model_towns hok hw ra hR (fun r_152 u_153 => ⟨r_152, I, L, rfl, rfl, ?_⟩)
    refine ⟨fun c_154 => ?_, fun c_154 => ?_⟩
    · have d_155 := iLe c_154
      have a_157 : (x2 + Int32.ofInt 1).toInt = x2.toInt + (1) := tIc (by omega) (by omega) (by decide) (by decide)
      generalize ez_156 : (x2 + Int32.ofInt 1) = z_156 at a_157 ⊢
      exact ho43 hR hf (by first | omega | (intro h; omega) | exact Or.inl rfl | exact Or.inr rfl) (by first | omega | (intro h; omega) | exact Or.inl rfl | exact Or.inr rfl) hi4 hi5 (by omega)
    · have d_158 := iNle c_154
      refine y_Model_townAt hok hw ra (by first | omega | (intro h; omega) | exact Or.inl rfl | exact Or.inr rfl) hR (fun r_159 u_160 => ⟨r_159, I, L, rfl, rfl, ?_⟩)
      have l_161 : (16 : Int32).toInt = 16 := rfl
      have a_162 : (16 * r_159).toInt = 16 * r_159.toInt := tMulL rfl (by omega) (by omega)
      refine y_Model_fortAt hok hw ra (by first | omega | (intro h; omega) | exact Or.inl rfl | exact Or.inr rfl) hR (fun r_163 u_164 => ⟨r_163, I, L, rfl, rfl, ?_⟩)
      have a_165 : ((16 * r_159) + r_163).toInt = (16 * r_159).toInt + r_163.toInt := tAdd (by omega) (by omega)
      refine ⟨tIn (by omega) (by omega), ?_⟩
      have l_166 : (1000000 : Int32).toInt = 1000000 := rfl
      refine ⟨fun c_167 => ?_, fun c_167 => ?_⟩
      · have d_168 := iLt c_167
        have g_169 : (0 : Int) ≤ (I o 34).toInt ∧ (I o 34).toInt ≤ 1 := hR.at0 ra 34 (by decide)
        have l_170 : (5 : Int32).toInt = 5 := rfl
        have a_171 : (5 * (I o 34)).toInt = 5 * (I o 34).toInt := tMulL rfl (by omega) (by omega)
        have a_172 : ((5 * (I o 34)) + x3).toInt = (5 * (I o 34)).toInt + x3.toInt := tAdd (by omega) (by omega)
        refine ⟨tIn (by omega) (by omega), ?_⟩
        refine ⟨tIn (by omega) (by omega), ?_⟩
        refine y_Model_least hok hR (fun r_173  => ⟨r_173, I, L, rfl, rfl, ?_⟩)
        refine ⟨tIn (by omega) (by omega), ?_⟩
        refine y_Model_affordable hok hw ra hR (fun r_174  => ⟨r_174, I, L, rfl, rfl, ?_⟩)
        refine y_Model_rateFor hok hw ra hz61 hz62 hz63 (by first | omega | (intro h; omega) | exact Or.inl rfl | exact Or.inr rfl) (by first | omega | (intro h; omega) | exact Or.inl rfl | exact Or.inr rfl) hi4 hR (fun r_175 I_177 L_178 hR_179 fr_180 kp_181 u_176 => ⟨r_175, I_177, L_178, rfl, rfl, ?_⟩)
        have hf_182 : Fm (fun c => c = o ∨ c = o + 34) I0 I_177 := hf.call fr_180 (fun c hc => by first | exact hc | (dsimp only at hc ⊢; omega) | omega)
        have t_183 : (I_177 o 106).toInt = (I o 106).toInt := by rw [kp_181 106 rfl]
        have t_184 : (I_177 o 122).toInt = (I o 122).toInt := by rw [kp_181 122 rfl]
        have t_185 : (I_177 o 123).toInt = (I o 123).toInt := by rw [kp_181 123 rfl]
        have t_186 : (I_177 o 124).toInt = (I o 124).toInt := by rw [kp_181 124 rfl]
        have t_187 : (I_177 o 34).toInt = (I o 34).toInt := by rw [kp_181 34 rfl]
        have k_188 : MWy I_177 o := hi5.fr (kp_181 122 rfl) (kp_181 123 rfl) (kp_181 124 rfl)
        have l_189 : (1 : Int32).toInt = 1 := rfl
        refine y_Model_weigh2 hok hw ra hz132 hz133 hz134 hz135 hz136 (by first | omega | (intro h; omega) | exact Or.inl rfl | exact Or.inr rfl) (by first | omega | (intro h; omega) | exact Or.inl rfl | exact Or.inr rfl) (by first | omega | (intro h; omega) | exact Or.inl rfl | exact Or.inr rfl) (by exact fun _ => by omega) (by exact fun h => absurd h (by omega)) k_188 hR_179 (fun I_192 L_193 hR_194 fr_195 kp_196 u_191 => ⟨I_192, L_193, rfl, rfl, ?_⟩)
        have hf_197 : Fm (fun c => c = o ∨ c = o + 34) I0 I_192 := hf_182.call fr_195 (fun c hc => by first | exact hc | (dsimp only at hc ⊢; omega) | omega)
        have t_198 : (I_192 o 106).toInt = (I_177 o 106).toInt := by rw [kp_196 106 rfl]
        have g_199 : (0 : Int) ≤ (I_192 o 122).toInt ∧ (I_192 o 122).toInt ≤ 4 := hR_194.at0 ra 122 (by decide)
        have g_200 : (-1 : Int) ≤ (I_192 o 123).toInt ∧ (I_192 o 123).toInt ≤ 2 := hR_194.at0 ra 123 (by decide)
        have g_201 : (-1 : Int) ≤ (I_192 o 124).toInt ∧ (I_192 o 124).toInt ≤ 4 := hR_194.at0 ra 124 (by decide)
        have t_202 : (I_192 o 34).toInt = (I_177 o 34).toInt := by rw [kp_196 34 rfl]
        have k_203 : MTd I_192 o := u_176.fr (fr_195 _ (by first | omega | (dsimp only; omega))) (fr_195 _ (by first | omega | (dsimp only; omega))) (fr_195 _ (by first | omega | (dsimp only; omega)))
        unfold fModel_choose_186
        have a_205 : (x3 + Int32.ofInt 1).toInt = x3.toInt + (1) := tIc (by omega) (by omega) (by decide) (by decide)
        generalize ez_204 : (x3 + Int32.ofInt 1) = z_204 at a_205 ⊢
        exact ih hR_194 hf_197 (by first | omega | (intro h; omega) | exact Or.inl rfl | exact Or.inr rfl) (by first | omega | (intro h; omega) | exact Or.inl rfl | exact Or.inr rfl) (by first | omega | (intro h; omega) | exact Or.inl rfl | exact Or.inr rfl) (by first | omega | (intro h; omega) | exact Or.inl rfl | exact Or.inr rfl) k_203 u_191 (by omega)
      · have d_206 := iNlt c_167
        unfold fModel_choose_186
        have a_208 : (x3 + Int32.ofInt 1).toInt = x3.toInt + (1) := tIc (by omega) (by omega) (by decide) (by decide)
        generalize ez_207 : (x3 + Int32.ofInt 1) = z_207 at a_208 ⊢
        exact ih hR hf (by first | omega | (intro h; omega) | exact Or.inl rfl | exact Or.inr rfl) (by first | omega | (intro h; omega) | exact Or.inl rfl | exact Or.inr rfl) (by first | omega | (intro h; omega) | exact Or.inl rfl | exact Or.inr rfl) (by first | omega | (intro h; omega) | exact Or.inl rfl | exact Or.inr rfl) hi4 hi5 (by omega)
set_option maxHeartbeats 4000000 in
set_option maxRecDepth 20000 in
theorem yModel_choose_43 {D : va_G} {cA : FieldType → ClassId} {b : Nat} {E : State → Prop} {R : qRg} {o n : Nat} {sh : Nat → qC} {Rf : Nat → Nat → Option Nat} {I0 : Nat → Nat → Int32} {L0 : Nat → Nat → Int64} {post : Option Value → qS → Prop} {p1 : Int32} (hok : q_ok (qGG D cA b E)) (hw : WfModel (qGG D cA b E) n sh Rf o) (ra : RAModel R o) (hz61 : R.2 61 = true) (hz62 : R.2 62 = true) (hz63 : R.2 63 = true) (hz130 : R.2 130 = true) (hz132 : R.2 132 = true) (hz133 : R.2 133 = true) (hz134 : R.2 134 = true) (hz135 : R.2 135 = true) (hz136 : R.2 136 = true) (hz137 : R.2 137 = true) (hZ : Fz R I0 o wModel_choose) (hR0 : RI R I0) (hq0 : (0 : Int) ≤ p1.toInt ∧ p1.toInt ≤ 5) (hq1 : (I0 o 106).toInt ≠ 4) (hq2 : MTd I0 o) (hp : ∀ (I' : Nat → Nat → Int32) (L' : Nat → Nat → Int64), RI R I' → Fm (fun c => c = o ∨ c = o + 34) I0 I' → (MTd I' o) → (MWy I' o) → post none (n, sh, Rf, I', L')) : ∀ (k : Nat) {x1 : Int32} {x2 : Int32} {I : Nat → Nat → Int32} {L : Nat → Nat → Int64}, RI R I → Fm (fun c => c = o ∨ c = o + 34) I0 I → ((0 : Int) ≤ x1.toInt ∧ x1.toInt ≤ 5) → ((0 : Int) ≤ x2.toInt ∧ x2.toInt ≤ 3) → (MTd I o) → (MWy I o) → (3 - x2.toInt).toNat < k → Ev (qGG D cA b E) mModel_choose 7 (0, 0) 43 [(0, .ref o), (1, .int x1), (2, .int x2)] [] (n, sh, Rf, I, L) post := by
  intro k
  induction k with
  | zero =>
    intro x1 x2 I L hR hf hi0 hi1 hi2 hi3 hm
    exact absurd hm (Nat.not_lt_zero _)
  | succ k ih =>
    intro x1 x2 I L hR hf hi0 hi1 hi2 hi3 hm
    have g_209 : (0 : Int) ≤ (I o 106).toInt ∧ (I o 106).toInt ≤ 5 := hR.at0 ra 106 (by decide)
    have z_210 : (I o 106).toInt = (I0 o 106).toInt := by rw [hZ I 106 rfl hR]
    have g_211 : (0 : Int) ≤ (I o 122).toInt ∧ (I o 122).toInt ≤ 4 := hR.at0 ra 122 (by decide)
    have g_212 : (0 : Int) ≤ (I0 o 122).toInt ∧ (I0 o 122).toInt ≤ 4 := hR0.at0 ra 122 (by decide)
    have g_213 : (-1 : Int) ≤ (I o 123).toInt ∧ (I o 123).toInt ≤ 2 := hR.at0 ra 123 (by decide)
    have g_214 : (-1 : Int) ≤ (I0 o 123).toInt ∧ (I0 o 123).toInt ≤ 2 := hR0.at0 ra 123 (by decide)
    have g_215 : (-1 : Int) ≤ (I o 124).toInt ∧ (I o 124).toInt ≤ 4 := hR.at0 ra 124 (by decide)
    have g_216 : (-1 : Int) ≤ (I0 o 124).toInt ∧ (I0 o 124).toInt ≤ 4 := hR0.at0 ra 124 (by decide)
    refine sModel_choose_43 o n sh Rf I L post x1 x2 hok hw ?_
    unfold fModel_choose_43
    refine y_Model_forts hok hw ra hR (fun r_217 u_218 => ⟨r_217, I, L, rfl, rfl, ?_⟩)
    refine ⟨fun c_219 => ?_, fun c_219 => ?_⟩
    · have d_220 := iLe c_219
      have l_221 : (0 : Int32).toInt = 0 := rfl
      exact yModel_choose_200 (I0 := I0) (L0 := L0) (p1 := p1) hok hw ra hz61 hz62 hz63 hz130 hz132 hz133 hz134 hz135 hz136 hz137 hZ hR0 hq0 hq1 hq2 hp  _ hR hf (by first | omega | (intro h; omega) | exact Or.inl rfl | exact Or.inr rfl) (by first | omega | (intro h; omega) | exact Or.inl rfl | exact Or.inr rfl) hi2 hi3 (Nat.lt_succ_self _)
    · have d_222 := iNle c_219
      have l_223 : (0 : Int32).toInt = 0 := rfl
      exact yModel_choose_53 (I0 := I0) (L0 := L0) (p1 := p1) hok hw ra hz61 hz62 hz63 hz130 hz132 hz133 hz134 hz135 hz136 hz137 hZ hR0 hq0 hq1 hq2 hp ih _ hR hf (by first | omega | (intro h; omega) | exact Or.inl rfl | exact Or.inr rfl) (by first | omega | (intro h; omega) | exact Or.inl rfl | exact Or.inr rfl) (by first | omega | (intro h; omega) | exact Or.inl rfl | exact Or.inr rfl) (by first | omega | (intro h; omega) | exact Or.inl rfl | exact Or.inr rfl) hi2 hi3 (Nat.lt_succ_self _)
set_option maxHeartbeats 4000000 in
set_option maxRecDepth 20000 in
theorem yc_Model_choose {D : va_G} {cA : FieldType → ClassId} {b : Nat} {E : State → Prop} {R : qRg} {o n : Nat} {sh : Nat → qC} {Rf : Nat → Nat → Option Nat} {I0 : Nat → Nat → Int32} {L0 : Nat → Nat → Int64} {post : Option Value → qS → Prop} {p1 : Int32} (hok : q_ok (qGG D cA b E)) (hw : WfModel (qGG D cA b E) n sh Rf o) (ra : RAModel R o) (hz61 : R.2 61 = true) (hz62 : R.2 62 = true) (hz63 : R.2 63 = true) (hz130 : R.2 130 = true) (hz132 : R.2 132 = true) (hz133 : R.2 133 = true) (hz134 : R.2 134 = true) (hz135 : R.2 135 = true) (hz136 : R.2 136 = true) (hz137 : R.2 137 = true) (hZ : Fz R I0 o wModel_choose) (hR0 : RI R I0) (hq0 : (0 : Int) ≤ p1.toInt ∧ p1.toInt ≤ 5) (hq1 : (I0 o 106).toInt ≠ 4) (hq2 : MTd I0 o) (hR : RI R I0) (hp : ∀ (I' : Nat → Nat → Int32) (L' : Nat → Nat → Int64), RI R I' → Fm (fun c => c = o ∨ c = o + 34) I0 I' → (MTd I' o) → (MWy I' o) → post none (n, sh, Rf, I', L')) : Ev (qGG D cA b E) mModel_choose 7 (0, 0) 0 (lv_args 0 [.ref o, .int p1]) [] (n, sh, Rf, I0, L0) post := by
  have hf : Fm (fun c => c = o ∨ c = o + 34) I0 I0 := Fm.rf
  have g_224 : (0 : Int) ≤ (I0 o 106).toInt ∧ (I0 o 106).toInt ≤ 5 := hR.at0 ra 106 (by decide)
  have g_225 : (0 : Int) ≤ (I0 o 122).toInt ∧ (I0 o 122).toInt ≤ 4 := hR.at0 ra 122 (by decide)
  have g_226 : (-1 : Int) ≤ (I0 o 123).toInt ∧ (I0 o 123).toInt ≤ 2 := hR.at0 ra 123 (by decide)
  have g_227 : (-1 : Int) ≤ (I0 o 124).toInt ∧ (I0 o 124).toInt ≤ 4 := hR.at0 ra 124 (by decide)
  refine sModel_choose_0 o n sh Rf I0 L0 post p1 hok hw ?_
  unfold fModel_choose_0
  have l_228 : (0 : Int32).toInt = 0 := rfl
  refine fun I_229 e_230 => ?_
  have hR_231 : RI R I_229 := hR.up0 (k := 122) ra (by decide) (Or.inr hz132) e_230 (show (0 : Int) ≤ (0 : Int32).toInt by omega) (show (0 : Int32).toInt ≤ (4 : Int) by omega)
  have hf_232 : Fm (fun c => c = o ∨ c = o + 34) I0 I_229 := hf.set (by first | rfl | omega | (dsimp only; omega)) e_230
  have t_233 : (I_229 o 106).toInt = (I0 o 106).toInt := by rw [← e_230, q_u_k (by decide)]
  have t_234 : (I_229 o 122).toInt = (0 : Int32).toInt := by rw [← e_230, q_u_at]
  have t_235 : (I_229 o 123).toInt = (I0 o 123).toInt := by rw [← e_230, q_u_k (by decide)]
  have t_236 : (I_229 o 124).toInt = (I0 o 124).toInt := by rw [← e_230, q_u_k (by decide)]
  have k_237 : MTd I_229 o := hq2.fr (by rw [← e_230]; exact q_u_ne (by omega)) (by rw [← e_230]; exact q_u_ne (by omega)) (by rw [← e_230]; exact q_u_ne (by omega))
  have l_238 : (-1 : Int32).toInt = -1 := rfl
  refine fun I_239 e_240 => ?_
  have hR_241 : RI R I_239 := hR_231.up0 (k := 123) ra (by decide) (Or.inr hz133) e_240 (show (-1 : Int) ≤ ((-1) : Int32).toInt by omega) (show ((-1) : Int32).toInt ≤ (2 : Int) by omega)
  have hf_242 : Fm (fun c => c = o ∨ c = o + 34) I0 I_239 := hf_232.set (by first | rfl | omega | (dsimp only; omega)) e_240
  have t_243 : (I_239 o 106).toInt = (I_229 o 106).toInt := by rw [← e_240, q_u_k (by decide)]
  have t_244 : (I_239 o 122).toInt = (I_229 o 122).toInt := by rw [← e_240, q_u_k (by decide)]
  have t_245 : (I_239 o 123).toInt = ((-1) : Int32).toInt := by rw [← e_240, q_u_at]
  have t_246 : (I_239 o 124).toInt = (I_229 o 124).toInt := by rw [← e_240, q_u_k (by decide)]
  have k_247 : MTd I_239 o := k_237.fr (by rw [← e_240]; exact q_u_ne (by omega)) (by rw [← e_240]; exact q_u_ne (by omega)) (by rw [← e_240]; exact q_u_ne (by omega))
  refine fun I_248 e_249 => ?_
  have hR_250 : RI R I_248 := hR_241.up0 (k := 124) ra (by decide) (Or.inr hz134) e_249 (show (-1 : Int) ≤ ((-1) : Int32).toInt by omega) (show ((-1) : Int32).toInt ≤ (4 : Int) by omega)
  have hf_251 : Fm (fun c => c = o ∨ c = o + 34) I0 I_248 := hf_242.set (by first | rfl | omega | (dsimp only; omega)) e_249
  have t_252 : (I_248 o 106).toInt = (I_239 o 106).toInt := by rw [← e_249, q_u_k (by decide)]
  have t_253 : (I_248 o 122).toInt = (I_239 o 122).toInt := by rw [← e_249, q_u_k (by decide)]
  have t_254 : (I_248 o 123).toInt = (I_239 o 123).toInt := by rw [← e_249, q_u_k (by decide)]
  have t_255 : (I_248 o 124).toInt = ((-1) : Int32).toInt := by rw [← e_249, q_u_at]
  have k_256 : MTd I_248 o := k_247.fr (by rw [← e_249]; exact q_u_ne (by omega)) (by rw [← e_249]; exact q_u_ne (by omega)) (by rw [← e_249]; exact q_u_ne (by omega))
  have k_257 : MWy I_248 o := by unfold MWy; refine ⟨fun h => ?_, fun h => ?_, fun h => ?_⟩ <;> omega
  refine fun I_258 e_259 => ?_
  have hR_260 : RI R I_258 := hR_250.up0 (k := 125) ra (by decide) (Or.inr hz135) e_259 (i_lo _) (i_hi _)
  have hf_261 : Fm (fun c => c = o ∨ c = o + 34) I0 I_258 := hf_251.set (by first | rfl | omega | (dsimp only; omega)) e_259
  have t_262 : (I_258 o 106).toInt = (I_248 o 106).toInt := by rw [← e_259, q_u_k (by decide)]
  have t_263 : (I_258 o 122).toInt = (I_248 o 122).toInt := by rw [← e_259, q_u_k (by decide)]
  have t_264 : (I_258 o 123).toInt = (I_248 o 123).toInt := by rw [← e_259, q_u_k (by decide)]
  have t_265 : (I_258 o 124).toInt = (I_248 o 124).toInt := by rw [← e_259, q_u_k (by decide)]
  have k_266 : MTd I_258 o := k_256.fr (by rw [← e_259]; exact q_u_ne (by omega)) (by rw [← e_259]; exact q_u_ne (by omega)) (by rw [← e_259]; exact q_u_ne (by omega))
  have k_267 : MWy I_258 o := k_257.fr (by rw [← e_259, q_u_k (by decide)]) (by rw [← e_259, q_u_k (by decide)]) (by rw [← e_259, q_u_k (by decide)])
  refine fun L_268 e_269 => ?_
  refine y_Model_bestPan hok hw ra hz130 hR_260 (fun r_270 I_272 L_273 hR_274 fr_275 kp_276 u_271 => ⟨r_270, I_272, L_273, rfl, rfl, ?_⟩)
  have hf_277 : Fm (fun c => c = o ∨ c = o + 34) I0 I_272 := hf_261.call fr_275 (fun c hc => by first | exact hc | (dsimp only at hc ⊢; omega) | omega)
  have t_278 : (I_272 o 106).toInt = (I_258 o 106).toInt := by rw [kp_276 106 rfl]
  have t_279 : (I_272 o 122).toInt = (I_258 o 122).toInt := by rw [kp_276 122 rfl]
  have t_280 : (I_272 o 123).toInt = (I_258 o 123).toInt := by rw [kp_276 123 rfl]
  have t_281 : (I_272 o 124).toInt = (I_258 o 124).toInt := by rw [kp_276 124 rfl]
  have k_282 : MTd I_272 o := k_266.fr (fr_275 _ (by first | omega | (dsimp only; omega))) (fr_275 _ (by first | omega | (dsimp only; omega))) (fr_275 _ (by first | omega | (dsimp only; omega)))
  have k_283 : MWy I_272 o := k_267.fr (kp_276 122 rfl) (kp_276 123 rfl) (kp_276 124 rfl)
  refine fun I_284 e_285 => ?_
  have hR_286 : RI R I_284 := hR_274.up0 (k := 127) ra (by decide) (Or.inr hz137) e_285 (show (-1 : Int) ≤ r_270.toInt by omega) (show r_270.toInt ≤ (2 : Int) by omega)
  have hf_287 : Fm (fun c => c = o ∨ c = o + 34) I0 I_284 := hf_277.set (by first | rfl | omega | (dsimp only; omega)) e_285
  have t_288 : (I_284 o 106).toInt = (I_272 o 106).toInt := by rw [← e_285, q_u_k (by decide)]
  have t_289 : (I_284 o 122).toInt = (I_272 o 122).toInt := by rw [← e_285, q_u_k (by decide)]
  have t_290 : (I_284 o 123).toInt = (I_272 o 123).toInt := by rw [← e_285, q_u_k (by decide)]
  have t_291 : (I_284 o 124).toInt = (I_272 o 124).toInt := by rw [← e_285, q_u_k (by decide)]
  have t_292 : (I_284 o 127).toInt = r_270.toInt := by rw [← e_285, q_u_at]
  have k_293 : MTd I_284 o := k_282.fr (by rw [← e_285]; exact q_u_ne (by omega)) (by rw [← e_285]; exact q_u_ne (by omega)) (by rw [← e_285]; exact q_u_ne (by omega))
  have k_294 : MWy I_284 o := k_283.fr (by rw [← e_285, q_u_k (by decide)]) (by rw [← e_285, q_u_k (by decide)]) (by rw [← e_285, q_u_k (by decide)])
  have g_295 : (-1 : Int) ≤ (I_284 o 127).toInt ∧ (I_284 o 127).toInt ≤ 2 := hR_286.at0 ra 127 (by decide)
  refine ⟨fun c_296 => ?_, fun c_296 => ?_⟩
  · have d_297 := iLe c_296
    exact yModel_choose_43 (I0 := I0) (L0 := L0) (p1 := p1) hok hw ra hz61 hz62 hz63 hz130 hz132 hz133 hz134 hz135 hz136 hz137 hZ hR0 hq0 hq1 hq2 hp  _ hR_286 hf_287 (by first | omega | (intro h; omega) | exact Or.inl rfl | exact Or.inr rfl) (by first | omega | (intro h; omega) | exact Or.inl rfl | exact Or.inr rfl) k_293 k_294 (Nat.lt_succ_self _)
  · have d_298 := iNle c_296
    exact (hp _ _ hR_286 hf_287  k_293 k_294)
theorem y_Model_choose {D : va_G} {cA : FieldType → ClassId} {b : Nat} {E : State → Prop} {R : qRg} {o n : Nat} {sh : Nat → qC} {Rf : Nat → Nat → Option Nat} {I0 : Nat → Nat → Int32} {L0 : Nat → Nat → Int64} {post : Option Value → qS → Prop} {p1 : Int32} (hok : q_ok (qGG D cA b E)) (hw : WfModel (qGG D cA b E) n sh Rf o) (ra : RAModel R o) (hz61 : R.2 61 = true) (hz62 : R.2 62 = true) (hz63 : R.2 63 = true) (hz130 : R.2 130 = true) (hz132 : R.2 132 = true) (hz133 : R.2 133 = true) (hz134 : R.2 134 = true) (hz135 : R.2 135 = true) (hz136 : R.2 136 = true) (hz137 : R.2 137 = true) (hq0 : (0 : Int) ≤ p1.toInt ∧ p1.toInt ≤ 5) (hq1 : (I0 o 106).toInt ≠ 4) (hq2 : MTd I0 o) (hR : RI R I0) (hp : ∀ (I' : Nat → Nat → Int32) (L' : Nat → Nat → Int64), RI R I' → Fm (fun c => c = o ∨ c = o + 34) I0 I' → Kp wModel_choose I0 I' o → (MTd I' o) → (MWy I' o) → post none (n, sh, Rf, I', L')) : Ev (qGG D cA b E) mModel_choose 7 (0, 0) 0 (lv_args 0 [.ref o, .int p1]) [] (n, sh, Rf, I0, L0) post :=
  yc_Model_choose (R := fzR R I0 o wModel_choose) hok hw (fzA ra hR _) (fzT hz61 rfl) (fzT hz62 rfl) (fzT hz63 rfl) (fzT hz130 rfl) (fzT hz132 rfl) (fzT hz133 rfl) (fzT hz134 rfl) (fzT hz135 rfl) (fzT hz136 rfl) (fzT hz137 rfl) fzZ (fzI hR) hq0 hq1 hq2 (fzI hR) (fun I' L' h1 h2 u0 u1 => hp I' L' (fzB hR h1) h2 (fzP h1) u0 u1)
def wModel_act : Nat → Bool := fun j => Nat.beq j 61 || Nat.beq j 62 || Nat.beq j 63 || Nat.beq j 114 || Nat.beq j 115 || Nat.beq j 121 || Nat.beq j 130 || Nat.beq j 132 || Nat.beq j 133 || Nat.beq j 134 || Nat.beq j 135 || Nat.beq j 136 || Nat.beq j 137 || false
set_option maxHeartbeats 4000000 in
set_option maxRecDepth 20000 in
theorem yc_Model_act {D : va_G} {cA : FieldType → ClassId} {b : Nat} {E : State → Prop} {R : qRg} {o n : Nat} {sh : Nat → qC} {Rf : Nat → Nat → Option Nat} {I0 : Nat → Nat → Int32} {L0 : Nat → Nat → Int64} {post : Option Value → qS → Prop} {p1 : Int32} {f0 : Int} (hok : q_ok (qGG D cA b E)) (hw : WfModel (qGG D cA b E) n sh Rf o) (ra : RAModel R o) (hz61 : R.2 61 = true) (hz62 : R.2 62 = true) (hz63 : R.2 63 = true) (hz114 : R.2 114 = true) (hz115 : R.2 115 = true) (hz121 : R.2 121 = true) (hz130 : R.2 130 = true) (hz132 : R.2 132 = true) (hz133 : R.2 133 = true) (hz134 : R.2 134 = true) (hz135 : R.2 135 = true) (hz136 : R.2 136 = true) (hz137 : R.2 137 = true) (hZ : Fz R I0 o wModel_act) (hR0 : RI R I0) (hq0 : (0 : Int) ≤ p1.toInt ∧ p1.toInt ≤ 5) (hq1 : (I0 o 106).toInt ≠ 4) (hq2 : (I0 o 57).toInt ≤ 239) (hq3 : 0 ≤ f0 ∧ f0 ≤ 5) (hq4 : MTd I0 o) (hq5 : Pap I0 o) (hq6 : Lot I0 o) (hq7 : JB I0 o f0) (hR : RI R I0) (hp : ∀ (I' : Nat → Nat → Int32) (L' : Nat → Nat → Int64), RI R I' → Fm (fun c => c = o ∨ c = o + 34 ∨ c = o + 42 ∨ c = o + 46 ∨ c = o + 48 ∨ (o + 51 ≤ c ∧ c < o + 57) ∨ (o + 58 ≤ c ∧ c < o + 68) ∨ c = o + 70) I0 I' → (MTd I' o) → (Pap I' o) → (Lot I' o) → (JB I' o (f0 + 1)) → post none (n, sh, Rf, I', L')) : Ev (qGG D cA b E) mModel_act 8 (0, 0) 0 (lv_args 0 [.ref o, .int p1]) [] (n, sh, Rf, I0, L0) post := by
  have hf : Fm (fun c => c = o ∨ c = o + 34 ∨ c = o + 42 ∨ c = o + 46 ∨ c = o + 48 ∨ (o + 51 ≤ c ∧ c < o + 57) ∨ (o + 58 ≤ c ∧ c < o + 68) ∨ c = o + 70) I0 I0 := Fm.rf
  have g_1 : (0 : Int) ≤ (I0 o 106).toInt ∧ (I0 o 106).toInt ≤ 5 := hR.at0 ra 106 (by decide)
  have g_2 : (0 : Int) ≤ (I0 o 57).toInt ∧ (I0 o 57).toInt ≤ 240 := hR.at0 ra 57 (by decide)
  have g_3 : (0 : Int) ≤ (I0 o 104).toInt ∧ (I0 o 104).toInt ≤ 2000 := hR.at0 ra 104 (by decide)
  have g_4 : (0 : Int) ≤ (I0 o 105).toInt ∧ (I0 o 105).toInt ≤ 4000 := hR.at0 ra 105 (by decide)
  have g_5 : (0 : Int) ≤ (I0 o 122).toInt ∧ (I0 o 122).toInt ≤ 4 := hR.at0 ra 122 (by decide)
  have g_6 : (-1 : Int) ≤ (I0 o 123).toInt ∧ (I0 o 123).toInt ≤ 2 := hR.at0 ra 123 (by decide)
  have g_7 : (-1 : Int) ≤ (I0 o 124).toInt ∧ (I0 o 124).toInt ≤ 4 := hR.at0 ra 124 (by decide)
  refine sModel_act_0 o n sh Rf I0 L0 post p1 hok hw ?_
  unfold fModel_act_0
  have bd := JX.bd hq7 (by omega)
  refine y_Model_choose hok hw ra hz61 hz62 hz63 hz130 hz132 hz133 hz134 hz135 hz136 hz137 (by first | omega | (intro h; omega) | exact Or.inl rfl | exact Or.inr rfl) (by first | omega | (intro h; omega) | exact Or.inl rfl | exact Or.inr rfl) hq4 hR (fun I_11 L_12 hR_13 fr_14 kp_15 u_9 u_10 => ⟨I_11, L_12, rfl, rfl, ?_⟩)
  have hf_16 : Fm (fun c => c = o ∨ c = o + 34 ∨ c = o + 42 ∨ c = o + 46 ∨ c = o + 48 ∨ (o + 51 ≤ c ∧ c < o + 57) ∨ (o + 58 ≤ c ∧ c < o + 68) ∨ c = o + 70) I0 I_11 := hf.call fr_14 (fun c hc => by first | exact hc | (dsimp only at hc ⊢; omega) | omega)
  have t_17 : (I_11 o 106).toInt = (I0 o 106).toInt := by rw [kp_15 106 rfl]
  have t_18 : (I_11 o 57).toInt = (I0 o 57).toInt := by rw [kp_15 57 rfl]
  have t_19 : (I_11 o 104).toInt = (I0 o 104).toInt := by rw [kp_15 104 rfl]
  have t_20 : (I_11 o 105).toInt = (I0 o 105).toInt := by rw [kp_15 105 rfl]
  have g_21 : (0 : Int) ≤ (I_11 o 122).toInt ∧ (I_11 o 122).toInt ≤ 4 := hR_13.at0 ra 122 (by decide)
  have g_22 : (-1 : Int) ≤ (I_11 o 123).toInt ∧ (I_11 o 123).toInt ≤ 2 := hR_13.at0 ra 123 (by decide)
  have g_23 : (-1 : Int) ≤ (I_11 o 124).toInt ∧ (I_11 o 124).toInt ≤ 4 := hR_13.at0 ra 124 (by decide)
  have k_24 : Pap I_11 o := hq5.fr (fr_14 _ (by first | omega | (dsimp only; omega))) (fr_14 _ (by first | omega | (dsimp only; omega))) (fr_14 _ (by first | omega | (dsimp only; omega))) (kp_15 104 rfl)
  have k_25 : Lot I_11 o := hq6.fr (fr_14 _ (by first | omega | (dsimp only; omega))) (fr_14 _ (by first | omega | (dsimp only; omega))) (kp_15 105 rfl)
  have k_26 : JB I_11 o f0 := hq7.fr (fr_14 _ (by first | omega | (dsimp only; omega))) (fr_14 _ (by first | omega | (dsimp only; omega))) (fr_14 _ (by first | omega | (dsimp only; omega))) (kp_15 57 rfl) (kp_15 104 rfl) (kp_15 105 rfl)
  have g_27 : (0 : Int) ≤ (I_11 o 122).toInt ∧ (I_11 o 122).toInt ≤ 4 := hR_13.at0 ra 122 (by decide)
  refine ⟨tIn (by omega) (by omega), fun I_28 e_29 => ?_⟩
  have hR_30 : RI R I_28 := hR_13.up ra 70 (by decide) (Or.inl rfl) e_29 (i_lo _) (i_hi _)
  have hf_31 : Fm (fun c => c = o ∨ c = o + 34 ∨ c = o + 42 ∨ c = o + 46 ∨ c = o + 48 ∨ (o + 51 ≤ c ∧ c < o + 57) ∨ (o + 58 ≤ c ∧ c < o + 68) ∨ c = o + 70) I0 I_28 := hf_16.set (by first | rfl | omega | (dsimp only; omega)) e_29
  have t_32 : (I_28 o 106).toInt = (I_11 o 106).toInt := by rw [← e_29, q_u_ne (by omega)]
  have t_33 : (I_28 o 57).toInt = (I_11 o 57).toInt := by rw [← e_29, q_u_ne (by omega)]
  have t_34 : (I_28 o 104).toInt = (I_11 o 104).toInt := by rw [← e_29, q_u_ne (by omega)]
  have t_35 : (I_28 o 105).toInt = (I_11 o 105).toInt := by rw [← e_29, q_u_ne (by omega)]
  have t_36 : (I_28 o 122).toInt = (I_11 o 122).toInt := by rw [← e_29, q_u_ne (by omega)]
  have t_37 : (I_28 o 123).toInt = (I_11 o 123).toInt := by rw [← e_29, q_u_ne (by omega)]
  have t_38 : (I_28 o 124).toInt = (I_11 o 124).toInt := by rw [← e_29, q_u_ne (by omega)]
  have k_39 : MTd I_28 o := u_9.fr (by rw [← e_29]; exact q_u_ne (by omega)) (by rw [← e_29]; exact q_u_ne (by omega)) (by rw [← e_29]; exact q_u_ne (by omega))
  have k_40 : Pap I_28 o := k_24.fr (by rw [← e_29]; exact q_u_ne (by omega)) (by rw [← e_29]; exact q_u_ne (by omega)) (by rw [← e_29]; exact q_u_ne (by omega)) (by rw [← e_29, q_u_ne (by omega)])
  have k_41 : Lot I_28 o := k_25.fr (by rw [← e_29]; exact q_u_ne (by omega)) (by rw [← e_29]; exact q_u_ne (by omega)) (by rw [← e_29, q_u_ne (by omega)])
  have k_42 : JB I_28 o f0 := k_26.fr (by rw [← e_29]; exact q_u_ne (by omega)) (by rw [← e_29]; exact q_u_ne (by omega)) (by rw [← e_29]; exact q_u_ne (by omega)) (by rw [← e_29, q_u_ne (by omega)]) (by rw [← e_29, q_u_ne (by omega)]) (by rw [← e_29, q_u_ne (by omega)])
  have k_43 : MWy I_28 o := u_10.fr (by rw [← e_29, q_u_ne (by omega)]) (by rw [← e_29, q_u_ne (by omega)]) (by rw [← e_29, q_u_ne (by omega)])
  refine ⟨tIn (by omega) (by omega), fun L_44 e_45 => ?_⟩
  have g_46 : (0 : Int) ≤ (I_28 o 122).toInt ∧ (I_28 o 122).toInt ≤ 4 := hR_30.at0 ra 122 (by decide)
  have l_48 : (1 : Int32).toInt = 1 := rfl
  refine ⟨fun c_47 => ?_, fun c_47 => ?_⟩
  · have d_49 := iEq c_47
    have wy := k_43.1 (by omega)
    have g_50 : (-1 : Int) ≤ (I_28 o 124).toInt ∧ (I_28 o 124).toInt ≤ 4 := hR_30.at0 ra 124 (by decide)
    refine y_Model_townAt hok hw ra (by first | omega | (intro h; omega) | exact Or.inl rfl | exact Or.inr rfl) hR_30 (fun r_51 u_52 => ⟨r_51, I_28, L_44, rfl, rfl, ?_⟩)
    have l_53 : (16 : Int32).toInt = 16 := rfl
    have a_54 : (16 * r_51).toInt = 16 * r_51.toInt := tMulL rfl (by omega) (by omega)
    have g_55 : (-1 : Int) ≤ (I_28 o 123).toInt ∧ (I_28 o 123).toInt ≤ 2 := hR_30.at0 ra 123 (by decide)
    refine y_Model_fortAt hok hw ra (by first | omega | (intro h; omega) | exact Or.inl rfl | exact Or.inr rfl) hR_30 (fun r_56 u_57 => ⟨r_56, I_28, L_44, rfl, rfl, ?_⟩)
    have a_58 : ((16 * r_51) + r_56).toInt = (16 * r_51).toInt + r_56.toInt := tAdd (by omega) (by omega)
    refine ⟨tIn (by omega) (by omega), ?_⟩
    refine ⟨tIn (by omega) (by omega), ?_⟩
    have g_59 : (0 : Int) ≤ (I_28 o 34).toInt ∧ (I_28 o 34).toInt ≤ 1 := hR_30.at0 ra 34 (by decide)
    have l_60 : (5 : Int32).toInt = 5 := rfl
    have a_61 : (5 * (I_28 o 34)).toInt = 5 * (I_28 o 34).toInt := tMulL rfl (by omega) (by omega)
    have g_62 : (-1 : Int) ≤ (I_28 o 124).toInt ∧ (I_28 o 124).toInt ≤ 4 := hR_30.at0 ra 124 (by decide)
    have a_63 : ((5 * (I_28 o 34)) + (I_28 o 124)).toInt = (5 * (I_28 o 34)).toInt + (I_28 o 124).toInt := tAdd (by omega) (by omega)
    refine ⟨tIn (by omega) (by omega), ?_⟩
    refine ⟨tIn (by omega) (by omega), fun L_64 e_65 => ?_⟩
    have g_66 : (-1 : Int) ≤ (I_28 o 124).toInt ∧ (I_28 o 124).toInt ≤ 4 := hR_30.at0 ra 124 (by decide)
    refine ⟨tIn (by omega) (by omega), ?_⟩
    refine ⟨tIn (by omega) (by omega), fun I_67 e_68 => ?_⟩
    have hR_69 : RI R I_67 := hR_30.up ra 46 (by decide) (Or.inl rfl) e_68 (i_lo _) (i_hi _)
    have hf_70 : Fm (fun c => c = o ∨ c = o + 34 ∨ c = o + 42 ∨ c = o + 46 ∨ c = o + 48 ∨ (o + 51 ≤ c ∧ c < o + 57) ∨ (o + 58 ≤ c ∧ c < o + 68) ∨ c = o + 70) I0 I_67 := hf_31.set (by first | rfl | omega | (dsimp only; omega)) e_68
    have t_71 : (I_67 o 106).toInt = (I_28 o 106).toInt := by rw [← e_68, q_u_ne (by omega)]
    have t_72 : (I_67 o 57).toInt = (I_28 o 57).toInt := by rw [← e_68, q_u_ne (by omega)]
    have t_73 : (I_67 o 104).toInt = (I_28 o 104).toInt := by rw [← e_68, q_u_ne (by omega)]
    have t_74 : (I_67 o 105).toInt = (I_28 o 105).toInt := by rw [← e_68, q_u_ne (by omega)]
    have t_75 : (I_67 o 122).toInt = (I_28 o 122).toInt := by rw [← e_68, q_u_ne (by omega)]
    have t_76 : (I_67 o 123).toInt = (I_28 o 123).toInt := by rw [← e_68, q_u_ne (by omega)]
    have t_77 : (I_67 o 124).toInt = (I_28 o 124).toInt := by rw [← e_68, q_u_ne (by omega)]
    have t_78 : (I_67 o 34).toInt = (I_28 o 34).toInt := by rw [← e_68, q_u_ne (by omega)]
    have k_79 : MTd I_67 o := k_39.fr (by rw [← e_68]; exact q_u_ne (by omega)) (by rw [← e_68]; exact q_u_ne (by omega)) (by rw [← e_68]; exact q_u_ne (by omega))
    have k_80 : Pap I_67 o := k_40.fr (by rw [← e_68]; exact q_u_ne (by omega)) (by rw [← e_68]; exact q_u_ne (by omega)) (by rw [← e_68]; exact q_u_ne (by omega)) (by rw [← e_68, q_u_ne (by omega)])
    have k_81 : Lot I_67 o := k_41.fr (by rw [← e_68]; exact q_u_ne (by omega)) (by rw [← e_68]; exact q_u_ne (by omega)) (by rw [← e_68, q_u_ne (by omega)])
    have k_82 : JB I_67 o f0 := k_42.fr (by rw [← e_68]; exact q_u_ne (by omega)) (by rw [← e_68]; exact q_u_ne (by omega)) (by rw [← e_68]; exact q_u_ne (by omega)) (by rw [← e_68, q_u_ne (by omega)]) (by rw [← e_68, q_u_ne (by omega)]) (by rw [← e_68, q_u_ne (by omega)])
    have k_83 : MWy I_67 o := k_43.fr (by rw [← e_68, q_u_ne (by omega)]) (by rw [← e_68, q_u_ne (by omega)]) (by rw [← e_68, q_u_ne (by omega)])
    have g_84 : (-1 : Int) ≤ (I_67 o 123).toInt ∧ (I_67 o 123).toInt ≤ 2 := hR_69.at0 ra 123 (by decide)
    have g_85 : (-1 : Int) ≤ (I_67 o 127).toInt ∧ (I_67 o 127).toInt ≤ 2 := hR_69.at0 ra 127 (by decide)
    have l_86 : (0 : Int32).toInt = 0 := rfl
    refine y_Model_send2 hok hw ra hz115 (by first | omega | (intro h; omega) | exact Or.inl rfl | exact Or.inr rfl) (by first | omega | (intro h; omega) | exact Or.inl rfl | exact Or.inr rfl) hR_69 (fun I_92 L_93 hR_94 fr_95 kp_96 u_88 u_89 u_90 u_91 => ⟨I_92, L_93, rfl, rfl, ?_⟩)
    have hf_97 : Fm (fun c => c = o ∨ c = o + 34 ∨ c = o + 42 ∨ c = o + 46 ∨ c = o + 48 ∨ (o + 51 ≤ c ∧ c < o + 57) ∨ (o + 58 ≤ c ∧ c < o + 68) ∨ c = o + 70) I0 I_92 := hf_70.call fr_95 (fun c hc => by first | exact hc | (dsimp only at hc ⊢; omega) | omega)
    have t_98 : (I_92 o 106).toInt = (I_67 o 106).toInt := by rw [kp_96 106 rfl]
    have t_99 : (I_92 o 57).toInt = (I_67 o 57).toInt := by rw [kp_96 57 rfl]
    have t_100 : (I_92 o 104).toInt = (I_67 o 104).toInt := by rw [kp_96 104 rfl]
    have g_101 : (0 : Int) ≤ (I_92 o 105).toInt ∧ (I_92 o 105).toInt ≤ 4000 := hR_94.at0 ra 105 (by decide)
    have t_102 : (I_92 o 122).toInt = (I_67 o 122).toInt := by rw [kp_96 122 rfl]
    have t_103 : (I_92 o 123).toInt = (I_67 o 123).toInt := by rw [kp_96 123 rfl]
    have t_104 : (I_92 o 124).toInt = (I_67 o 124).toInt := by rw [kp_96 124 rfl]
    have t_105 : (I_92 o 34).toInt = (I_67 o 34).toInt := by rw [kp_96 34 rfl]
    have t_106 : (I_92 o 127).toInt = (I_67 o 127).toInt := by rw [kp_96 127 rfl]
    have k_107 : MTd I_92 o := k_79.fr (fr_95 _ (by first | omega | (dsimp only; omega))) (fr_95 _ (by first | omega | (dsimp only; omega))) (fr_95 _ (by first | omega | (dsimp only; omega)))
    have k_108 : Pap I_92 o := k_80.fr (fr_95 _ (by first | omega | (dsimp only; omega))) (fr_95 _ (by first | omega | (dsimp only; omega))) (fr_95 _ (by first | omega | (dsimp only; omega))) (kp_96 104 rfl)
    have k_109 : MWy I_92 o := k_83.fr (kp_96 122 rfl) (kp_96 123 rfl) (kp_96 124 rfl)
    have k_110 : JB I_92 o (f0 + 1) := by obtain ⟨w, hw9⟩ := u_88; have q := JX.sndG k_82 (by omega) (fr_95 (o + 56) (by first | omega | (dsimp only; omega))) hw9 u_89 (kp_96 57 rfl) (kp_96 104 rfl) u_91; unfold JB; rw [kp_96 57 rfl]; exact q
    have k_111 : Lot I_92 o := by exact Lot.snd k_81 (by omega) ⟨fun _ => ⟨by omega, by omega⟩, fun h => absurd rfl h⟩ u_90 u_89 u_91
    exact (hp _ _ hR_94 hf_97  k_107 k_108 k_111 k_110)
  have d_112 := iNe c_47
  have l_114 : (2 : Int32).toInt = 2 := rfl
  refine ⟨fun c_113 => ?_, fun c_113 => ?_⟩
  · have d_115 := iEq c_113
    have wy := k_43.2.1 (by omega)
    refine ⟨tIn (by omega) (by omega), ?_⟩
    refine ⟨tIn (by omega) (by omega), fun L_116 e_117 => ?_⟩
    have g_118 : (-1 : Int) ≤ (I_28 o 123).toInt ∧ (I_28 o 123).toInt ≤ 2 := hR_30.at0 ra 123 (by decide)
    refine ⟨tIn (by omega) (by omega), ?_⟩
    refine ⟨tIn (by omega) (by omega), fun I_119 e_120 => ?_⟩
    have hR_121 : RI R I_119 := hR_30.up ra 42 (by decide) (Or.inl rfl) e_120 (i_lo _) (i_hi _)
    have hf_122 : Fm (fun c => c = o ∨ c = o + 34 ∨ c = o + 42 ∨ c = o + 46 ∨ c = o + 48 ∨ (o + 51 ≤ c ∧ c < o + 57) ∨ (o + 58 ≤ c ∧ c < o + 68) ∨ c = o + 70) I0 I_119 := hf_31.set (by first | rfl | omega | (dsimp only; omega)) e_120
    have t_123 : (I_119 o 106).toInt = (I_28 o 106).toInt := by rw [← e_120, q_u_ne (by omega)]
    have t_124 : (I_119 o 57).toInt = (I_28 o 57).toInt := by rw [← e_120, q_u_ne (by omega)]
    have t_125 : (I_119 o 104).toInt = (I_28 o 104).toInt := by rw [← e_120, q_u_ne (by omega)]
    have t_126 : (I_119 o 105).toInt = (I_28 o 105).toInt := by rw [← e_120, q_u_ne (by omega)]
    have t_127 : (I_119 o 122).toInt = (I_28 o 122).toInt := by rw [← e_120, q_u_ne (by omega)]
    have t_128 : (I_119 o 123).toInt = (I_28 o 123).toInt := by rw [← e_120, q_u_ne (by omega)]
    have t_129 : (I_119 o 124).toInt = (I_28 o 124).toInt := by rw [← e_120, q_u_ne (by omega)]
    have k_130 : MTd I_119 o := k_39.fr (by rw [← e_120]; exact q_u_ne (by omega)) (by rw [← e_120]; exact q_u_ne (by omega)) (by rw [← e_120]; exact q_u_ne (by omega))
    have k_131 : Pap I_119 o := k_40.fr (by rw [← e_120]; exact q_u_ne (by omega)) (by rw [← e_120]; exact q_u_ne (by omega)) (by rw [← e_120]; exact q_u_ne (by omega)) (by rw [← e_120, q_u_ne (by omega)])
    have k_132 : Lot I_119 o := k_41.fr (by rw [← e_120]; exact q_u_ne (by omega)) (by rw [← e_120]; exact q_u_ne (by omega)) (by rw [← e_120, q_u_ne (by omega)])
    have k_133 : JB I_119 o f0 := k_42.fr (by rw [← e_120]; exact q_u_ne (by omega)) (by rw [← e_120]; exact q_u_ne (by omega)) (by rw [← e_120]; exact q_u_ne (by omega)) (by rw [← e_120, q_u_ne (by omega)]) (by rw [← e_120, q_u_ne (by omega)]) (by rw [← e_120, q_u_ne (by omega)])
    have k_134 : MWy I_119 o := k_43.fr (by rw [← e_120, q_u_ne (by omega)]) (by rw [← e_120, q_u_ne (by omega)]) (by rw [← e_120, q_u_ne (by omega)])
    have g_135 : (-1 : Int) ≤ (I_119 o 127).toInt ∧ (I_119 o 127).toInt ≤ 2 := hR_121.at0 ra 127 (by decide)
    have l_136 : (0 : Int32).toInt = 0 := rfl
    refine y_Model_give2 hok hw ra hz114 (by first | omega | (intro h; omega) | exact Or.inl rfl | exact Or.inr rfl) (by first | omega | (intro h; omega) | exact Or.inl rfl | exact Or.inr rfl) k_131 hR_121 (fun I_142 L_143 hR_144 fr_145 kp_146 u_138 u_139 u_140 u_141 => ⟨I_142, L_143, rfl, rfl, ?_⟩)
    have hf_147 : Fm (fun c => c = o ∨ c = o + 34 ∨ c = o + 42 ∨ c = o + 46 ∨ c = o + 48 ∨ (o + 51 ≤ c ∧ c < o + 57) ∨ (o + 58 ≤ c ∧ c < o + 68) ∨ c = o + 70) I0 I_142 := hf_122.call fr_145 (fun c hc => by first | exact hc | (dsimp only at hc ⊢; omega) | omega)
    have t_148 : (I_142 o 106).toInt = (I_119 o 106).toInt := by rw [kp_146 106 rfl]
    have t_149 : (I_142 o 57).toInt = (I_119 o 57).toInt := by rw [kp_146 57 rfl]
    have g_150 : (0 : Int) ≤ (I_142 o 104).toInt ∧ (I_142 o 104).toInt ≤ 2000 := hR_144.at0 ra 104 (by decide)
    have t_151 : (I_142 o 105).toInt = (I_119 o 105).toInt := by rw [kp_146 105 rfl]
    have t_152 : (I_142 o 122).toInt = (I_119 o 122).toInt := by rw [kp_146 122 rfl]
    have t_153 : (I_142 o 123).toInt = (I_119 o 123).toInt := by rw [kp_146 123 rfl]
    have t_154 : (I_142 o 124).toInt = (I_119 o 124).toInt := by rw [kp_146 124 rfl]
    have t_155 : (I_142 o 127).toInt = (I_119 o 127).toInt := by rw [kp_146 127 rfl]
    have k_156 : MTd I_142 o := k_130.fr (fr_145 _ (by first | omega | (dsimp only; omega))) (fr_145 _ (by first | omega | (dsimp only; omega))) (fr_145 _ (by first | omega | (dsimp only; omega)))
    have k_157 : Lot I_142 o := k_132.fr (fr_145 _ (by first | omega | (dsimp only; omega))) (fr_145 _ (by first | omega | (dsimp only; omega))) (kp_146 105 rfl)
    have k_158 : MWy I_142 o := k_134.fr (kp_146 122 rfl) (kp_146 123 rfl) (kp_146 124 rfl)
    have k_159 : JB I_142 o (f0 + 1) := by have q := JX.give (a' := f0 + 1) k_133 (fr_145 (o + 59) (by first | omega | (dsimp only; omega))) (fr_145 (o + 67) (by first | omega | (dsimp only; omega))) (kp_146 57 rfl) (kp_146 105 rfl) (by omega) (by omega) u_140; unfold JB; rw [kp_146 57 rfl]; exact q
    exact (hp _ _ hR_144 hf_147  k_156 u_141 k_157 k_159)
  have d_160 := iNe c_113
  have l_162 : (3 : Int32).toInt = 3 := rfl
  refine ⟨fun c_161 => ?_, fun c_161 => ?_⟩
  · have d_163 := iEq c_161
    have wy := k_43.2.2 (by omega)
    refine ⟨tIn (by omega) (by omega), ?_⟩
    refine ⟨tIn (by omega) (by omega), fun L_164 e_165 => ?_⟩
    have a_166 : (3 * p1).toInt = 3 * p1.toInt := tMulL rfl (by omega) (by omega)
    have g_167 : (-1 : Int) ≤ (I_28 o 123).toInt ∧ (I_28 o 123).toInt ≤ 2 := hR_30.at0 ra 123 (by decide)
    have a_168 : ((3 * p1) + (I_28 o 123)).toInt = (3 * p1).toInt + (I_28 o 123).toInt := tAdd (by omega) (by omega)
    have g_169 : (0 : Int) ≤ (I_28 o 57).toInt ∧ (I_28 o 57).toInt ≤ 240 := hR_30.at0 ra 57 (by decide)
    refine ⟨tIn (by omega) (by omega), fun I_170 e_171 => ?_⟩
    have hR_172 : RI R I_170 := hR_30.up ra 48 (by decide) (Or.inl rfl) e_171 (i_lo _) (i_hi _)
    have hf_173 : Fm (fun c => c = o ∨ c = o + 34 ∨ c = o + 42 ∨ c = o + 46 ∨ c = o + 48 ∨ (o + 51 ≤ c ∧ c < o + 57) ∨ (o + 58 ≤ c ∧ c < o + 68) ∨ c = o + 70) I0 I_170 := hf_31.set (by first | rfl | omega | (dsimp only; omega)) e_171
    have t_174 : (I_170 o 106).toInt = (I_28 o 106).toInt := by rw [← e_171, q_u_ne (by omega)]
    have t_175 : (I_170 o 57).toInt = (I_28 o 57).toInt := by rw [← e_171, q_u_ne (by omega)]
    have t_176 : (I_170 o 104).toInt = (I_28 o 104).toInt := by rw [← e_171, q_u_ne (by omega)]
    have t_177 : (I_170 o 105).toInt = (I_28 o 105).toInt := by rw [← e_171, q_u_ne (by omega)]
    have t_178 : (I_170 o 122).toInt = (I_28 o 122).toInt := by rw [← e_171, q_u_ne (by omega)]
    have t_179 : (I_170 o 123).toInt = (I_28 o 123).toInt := by rw [← e_171, q_u_ne (by omega)]
    have t_180 : (I_170 o 124).toInt = (I_28 o 124).toInt := by rw [← e_171, q_u_ne (by omega)]
    have k_181 : MTd I_170 o := k_39.fr (by rw [← e_171]; exact q_u_ne (by omega)) (by rw [← e_171]; exact q_u_ne (by omega)) (by rw [← e_171]; exact q_u_ne (by omega))
    have k_182 : Pap I_170 o := k_40.fr (by rw [← e_171]; exact q_u_ne (by omega)) (by rw [← e_171]; exact q_u_ne (by omega)) (by rw [← e_171]; exact q_u_ne (by omega)) (by rw [← e_171, q_u_ne (by omega)])
    have k_183 : Lot I_170 o := k_41.fr (by rw [← e_171]; exact q_u_ne (by omega)) (by rw [← e_171]; exact q_u_ne (by omega)) (by rw [← e_171, q_u_ne (by omega)])
    have k_184 : JB I_170 o f0 := k_42.fr (by rw [← e_171]; exact q_u_ne (by omega)) (by rw [← e_171]; exact q_u_ne (by omega)) (by rw [← e_171]; exact q_u_ne (by omega)) (by rw [← e_171, q_u_ne (by omega)]) (by rw [← e_171, q_u_ne (by omega)]) (by rw [← e_171, q_u_ne (by omega)])
    have k_185 : MWy I_170 o := k_43.fr (by rw [← e_171, q_u_ne (by omega)]) (by rw [← e_171, q_u_ne (by omega)]) (by rw [← e_171, q_u_ne (by omega)])
    have k_186 : JB I_170 o (f0 + 1) := by exact JX.up k_184 (by omega)
    exact (hp _ _ hR_172 hf_173  k_181 k_182 k_183 k_186)
  have d_187 := iNe c_161
  have l_189 : (4 : Int32).toInt = 4 := rfl
  refine ⟨fun c_188 => ?_, fun c_188 => ?_⟩
  · have d_190 := iEq c_188
    refine ⟨tIn (by omega) (by omega), ?_⟩
    refine ⟨tIn (by omega) (by omega), fun L_191 e_192 => ?_⟩
    refine fun L_193 e_194 => ?_
    refine fun I_195 e_196 => ?_
    have hR_197 : RI R I_195 := hR_30.up0 (k := 111) ra (by decide) (Or.inr hz121) e_196 (i_lo _) (i_hi _)
    have hf_198 : Fm (fun c => c = o ∨ c = o + 34 ∨ c = o + 42 ∨ c = o + 46 ∨ c = o + 48 ∨ (o + 51 ≤ c ∧ c < o + 57) ∨ (o + 58 ≤ c ∧ c < o + 68) ∨ c = o + 70) I0 I_195 := hf_31.set (by first | rfl | omega | (dsimp only; omega)) e_196
    have t_199 : (I_195 o 106).toInt = (I_28 o 106).toInt := by rw [← e_196, q_u_k (by decide)]
    have t_200 : (I_195 o 57).toInt = (I_28 o 57).toInt := by rw [← e_196, q_u_k (by decide)]
    have t_201 : (I_195 o 104).toInt = (I_28 o 104).toInt := by rw [← e_196, q_u_k (by decide)]
    have t_202 : (I_195 o 105).toInt = (I_28 o 105).toInt := by rw [← e_196, q_u_k (by decide)]
    have t_203 : (I_195 o 122).toInt = (I_28 o 122).toInt := by rw [← e_196, q_u_k (by decide)]
    have t_204 : (I_195 o 123).toInt = (I_28 o 123).toInt := by rw [← e_196, q_u_k (by decide)]
    have t_205 : (I_195 o 124).toInt = (I_28 o 124).toInt := by rw [← e_196, q_u_k (by decide)]
    have k_206 : MTd I_195 o := k_39.fr (by rw [← e_196]; exact q_u_ne (by omega)) (by rw [← e_196]; exact q_u_ne (by omega)) (by rw [← e_196]; exact q_u_ne (by omega))
    have k_207 : Pap I_195 o := k_40.fr (by rw [← e_196]; exact q_u_ne (by omega)) (by rw [← e_196]; exact q_u_ne (by omega)) (by rw [← e_196]; exact q_u_ne (by omega)) (by rw [← e_196, q_u_k (by decide)])
    have k_208 : Lot I_195 o := k_41.fr (by rw [← e_196]; exact q_u_ne (by omega)) (by rw [← e_196]; exact q_u_ne (by omega)) (by rw [← e_196, q_u_k (by decide)])
    have k_209 : JB I_195 o f0 := k_42.fr (by rw [← e_196]; exact q_u_ne (by omega)) (by rw [← e_196]; exact q_u_ne (by omega)) (by rw [← e_196]; exact q_u_ne (by omega)) (by rw [← e_196, q_u_k (by decide)]) (by rw [← e_196, q_u_k (by decide)]) (by rw [← e_196, q_u_k (by decide)])
    have k_210 : MWy I_195 o := k_43.fr (by rw [← e_196, q_u_k (by decide)]) (by rw [← e_196, q_u_k (by decide)]) (by rw [← e_196, q_u_k (by decide)])
    have g_211 : (-1 : Int) ≤ (I_195 o 127).toInt ∧ (I_195 o 127).toInt ≤ 2 := hR_197.at0 ra 127 (by decide)
    have l_212 : (0 : Int32).toInt = 0 := rfl
    refine y_Model_give2 hok hw ra hz114 (by first | omega | (intro h; omega) | exact Or.inl rfl | exact Or.inr rfl) (by first | omega | (intro h; omega) | exact Or.inl rfl | exact Or.inr rfl) k_207 hR_197 (fun I_218 L_219 hR_220 fr_221 kp_222 u_214 u_215 u_216 u_217 => ⟨I_218, L_219, rfl, rfl, ?_⟩)
    have hf_223 : Fm (fun c => c = o ∨ c = o + 34 ∨ c = o + 42 ∨ c = o + 46 ∨ c = o + 48 ∨ (o + 51 ≤ c ∧ c < o + 57) ∨ (o + 58 ≤ c ∧ c < o + 68) ∨ c = o + 70) I0 I_218 := hf_198.call fr_221 (fun c hc => by first | exact hc | (dsimp only at hc ⊢; omega) | omega)
    have t_224 : (I_218 o 106).toInt = (I_195 o 106).toInt := by rw [kp_222 106 rfl]
    have t_225 : (I_218 o 57).toInt = (I_195 o 57).toInt := by rw [kp_222 57 rfl]
    have g_226 : (0 : Int) ≤ (I_218 o 104).toInt ∧ (I_218 o 104).toInt ≤ 2000 := hR_220.at0 ra 104 (by decide)
    have t_227 : (I_218 o 105).toInt = (I_195 o 105).toInt := by rw [kp_222 105 rfl]
    have t_228 : (I_218 o 122).toInt = (I_195 o 122).toInt := by rw [kp_222 122 rfl]
    have t_229 : (I_218 o 123).toInt = (I_195 o 123).toInt := by rw [kp_222 123 rfl]
    have t_230 : (I_218 o 124).toInt = (I_195 o 124).toInt := by rw [kp_222 124 rfl]
    have t_231 : (I_218 o 127).toInt = (I_195 o 127).toInt := by rw [kp_222 127 rfl]
    have k_232 : MTd I_218 o := k_206.fr (fr_221 _ (by first | omega | (dsimp only; omega))) (fr_221 _ (by first | omega | (dsimp only; omega))) (fr_221 _ (by first | omega | (dsimp only; omega)))
    have k_233 : Lot I_218 o := k_208.fr (fr_221 _ (by first | omega | (dsimp only; omega))) (fr_221 _ (by first | omega | (dsimp only; omega))) (kp_222 105 rfl)
    have k_234 : MWy I_218 o := k_210.fr (kp_222 122 rfl) (kp_222 123 rfl) (kp_222 124 rfl)
    have k_235 : JB I_218 o (f0 + 1) := by have q := JX.give (a' := f0 + 1) k_209 (fr_221 (o + 59) (by first | omega | (dsimp only; omega))) (fr_221 (o + 67) (by first | omega | (dsimp only; omega))) (kp_222 57 rfl) (kp_222 105 rfl) (by omega) (by omega) u_216; unfold JB; rw [kp_222 57 rfl]; exact q
    exact (hp _ _ hR_220 hf_223  k_232 u_217 k_233 k_235)
  have d_236 := iNe c_188
  have k_237 : JB I_28 o (f0 + 1) := by exact JX.up k_42 (by omega)
  exact (hp _ _ hR_30 hf_31  k_39 k_40 k_41 k_237)
theorem y_Model_act {D : va_G} {cA : FieldType → ClassId} {b : Nat} {E : State → Prop} {R : qRg} {o n : Nat} {sh : Nat → qC} {Rf : Nat → Nat → Option Nat} {I0 : Nat → Nat → Int32} {L0 : Nat → Nat → Int64} {post : Option Value → qS → Prop} {p1 : Int32} {f0 : Int} (hok : q_ok (qGG D cA b E)) (hw : WfModel (qGG D cA b E) n sh Rf o) (ra : RAModel R o) (hz61 : R.2 61 = true) (hz62 : R.2 62 = true) (hz63 : R.2 63 = true) (hz114 : R.2 114 = true) (hz115 : R.2 115 = true) (hz121 : R.2 121 = true) (hz130 : R.2 130 = true) (hz132 : R.2 132 = true) (hz133 : R.2 133 = true) (hz134 : R.2 134 = true) (hz135 : R.2 135 = true) (hz136 : R.2 136 = true) (hz137 : R.2 137 = true) (hq0 : (0 : Int) ≤ p1.toInt ∧ p1.toInt ≤ 5) (hq1 : (I0 o 106).toInt ≠ 4) (hq2 : (I0 o 57).toInt ≤ 239) (hq3 : 0 ≤ f0 ∧ f0 ≤ 5) (hq4 : MTd I0 o) (hq5 : Pap I0 o) (hq6 : Lot I0 o) (hq7 : JB I0 o f0) (hR : RI R I0) (hp : ∀ (I' : Nat → Nat → Int32) (L' : Nat → Nat → Int64), RI R I' → Fm (fun c => c = o ∨ c = o + 34 ∨ c = o + 42 ∨ c = o + 46 ∨ c = o + 48 ∨ (o + 51 ≤ c ∧ c < o + 57) ∨ (o + 58 ≤ c ∧ c < o + 68) ∨ c = o + 70) I0 I' → Kp wModel_act I0 I' o → (MTd I' o) → (Pap I' o) → (Lot I' o) → (JB I' o (f0 + 1)) → post none (n, sh, Rf, I', L')) : Ev (qGG D cA b E) mModel_act 8 (0, 0) 0 (lv_args 0 [.ref o, .int p1]) [] (n, sh, Rf, I0, L0) post :=
  yc_Model_act (R := fzR R I0 o wModel_act) hok hw (fzA ra hR _) (fzT hz61 rfl) (fzT hz62 rfl) (fzT hz63 rfl) (fzT hz114 rfl) (fzT hz115 rfl) (fzT hz121 rfl) (fzT hz130 rfl) (fzT hz132 rfl) (fzT hz133 rfl) (fzT hz134 rfl) (fzT hz135 rfl) (fzT hz136 rfl) (fzT hz137 rfl) fzZ (fzI hR) hq0 hq1 hq2 hq3 hq4 hq5 hq6 hq7 (fzI hR) (fun I' L' h1 h2 u0 u1 u2 u3 => hp I' L' (fzB hR h1) h2 (fzP h1) u0 u1 u2 u3)
