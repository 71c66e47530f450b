/-! The class's methods once more, with what they leave of the long rows: l4. By program (lrun.py). -/
set_option maxHeartbeats 4000000 in
set_option maxRecDepth 20000 in
theorem y_Way_affordablel {D : va_G} {cA : FieldType → ClassId} {b : Nat} {E : State → Prop} {R : qRg} {n : Nat} {sh : Nat → qC} {Rf : Nat → Nat → Option Nat} {I0 : Nat → Nat → Int32} {L0 : Nat → Nat → Int64} {post : Option Value → qS → Prop} {x0 : Nat} {ux0_1 : Nat} {p1 : Int32} {p2 : Int32} (hok : q_ok (qGG D cA b E)) (hw0 : WfRun (qGG D cA b E) n sh Rf x0) (ra0 : RARun R x0) (hwux0_1 : WfTrade (qGG D cA b E) n sh Rf ux0_1) (raux0_1 : RATrade R ux0_1) (hux0_1 : Rf x0 1 = some ux0_1) (hq0 : (0 : Int) ≤ p1.toInt ∧ p1.toInt ≤ 5) (hR : RI R I0) (hp : ∀ (r : Int32) , post (some (.int r)) (n, sh, Rf, I0, L0)) : Ev (qGG D cA b E) mWay_affordable 1 (0, 0) 0 (lv_args 0 [.ref x0, .int p1, .int p2]) [] (n, sh, Rf, I0, L0) post := by
  refine sWay_affordable_0 n sh Rf I0 L0 post x0 p1 p2 ux0_1 hok hw0 hux0_1 hwux0_1 ?_
  unfold fWay_affordable_0
  have l_1 : (0 : Int32).toInt = 0 := rfl
  refine ⟨fun c_2 => ?_, fun c_2 => ?_⟩
  · have d_3 := iLt c_2
    refine ⟨tIn (by omega) (by omega), ?_⟩
    refine ⟨(tL0 (by omega)), ?_⟩
    refine fun y_4 e_5 => ?_
    exact (hp _ )
  · have d_6 := iNlt c_2
    exact (hp _ )
set_option maxHeartbeats 4000000 in
set_option maxRecDepth 20000 in
theorem y_Way_weighl {D : va_G} {cA : FieldType → ClassId} {b : Nat} {E : State → Prop} {R : qRg} {o n : Nat} {sh : Nat → qC} {Rf : Nat → Nat → Option Nat} {I0 : Nat → Nat → Int32} {L0 : Nat → Nat → Int64} {post : Option Value → qS → Prop} {p1 : Int32} {p2 : Int32} {p3 : Int32} {p4 : Int32} {p5 : Int32} {p6 : Int64} (hok : q_ok (qGG D cA b E)) (hw : WfWay (qGG D cA b E) n sh Rf o) (ra : RAWay R o) (hq0 : (1 : Int) ≤ p1.toInt ∧ p1.toInt ≤ 4) (hq1 : (-1 : Int) ≤ p2.toInt ∧ p2.toInt ≤ 2) (hq2 : (-1 : Int) ≤ p3.toInt ∧ p3.toInt ≤ 4) (hq3 : 0 ≤ (I0 o 6).toInt) (hq4 : Im (p1.toInt = 1) (0 ≤ p2.toInt ∧ 0 ≤ p3.toInt)) (hq5 : Im (p1.toInt = 2) (0 ≤ p2.toInt)) (hq6 : Im (p1.toInt = 3) (0 ≤ p2.toInt)) (hq7 : WyOK I0 o) (hR : RI R I0) (hp : ∀ (I' : Nat → Nat → Int32) (L' : Nat → Nat → Int64), RI R I' → Fm (fun c => (o ≤ c ∧ c < o + 1)) I0 I' → ((I' o 6).toInt = (I0 o 6).toInt) → (WyOK I' o) → (FmL (fun c => c = o) L0 L') → post none (n, sh, Rf, I', L')) : Ev (qGG D cA b E) mWay_weigh 0 (0, 0) 0 (lv_args 0 [.ref o, .int p1, .int p2, .int p3, .int p4, .int p5, .long p6]) [] (n, sh, Rf, I0, L0) post := by
  have hf : Fm (fun c => (o ≤ c ∧ c < o + 1)) I0 I0 := Fm.rf
  have g_1 : (0 : Int) ≤ (I0 o 0).toInt ∧ (I0 o 0).toInt ≤ 4 := hR.at0 ra 0 (by decide)
  have g_2 : (-1 : Int) ≤ (I0 o 1).toInt ∧ (I0 o 1).toInt ≤ 2 := hR.at0 ra 1 (by decide)
  have g_3 : (-1 : Int) ≤ (I0 o 2).toInt ∧ (I0 o 2).toInt ≤ 4 := hR.at0 ra 2 (by decide)
  have g_4 : (-1 : Int) ≤ (I0 o 6).toInt ∧ (I0 o 6).toInt ≤ 2 := hR.at0 ra 6 (by decide)
  refine sWay_weigh_0 o n sh Rf I0 L0 post p1 p2 p3 p4 p5 p6 hok hw ?_
  unfold fWay_weigh_0
  have hl : FmL (fun c => c = o) L0 L0 := FmL.rf
  have l_5 : (0 : Int32).toInt = 0 := rfl
  refine ⟨fun c_6 => ?_, fun c_6 => ?_⟩
  · have d_7 := iLe c_6
    exact (hp _ _ hR hf (by first | omega | (intro h; omega) | exact Or.inl rfl | exact Or.inr rfl) hq7 hl)
  · have d_8 := iNle c_6
    refine ⟨fun c_9 => ?_, fun c_9 => ?_⟩
    · have d_10 := iLe c_9
      exact (hp _ _ hR hf (by first | omega | (intro h; omega) | exact Or.inl rfl | exact Or.inr rfl) hq7 hl)
    · have d_11 := iNle c_9
      refine fun I_12 e_13 => ?_
      have hR_14 : RI R I_12 := hR.up0 (k := 0) ra (by decide) (Or.inl rfl) e_13 (show (0 : Int) ≤ p1.toInt by omega) (show p1.toInt ≤ (4 : Int) by omega)
      have hf_15 : Fm (fun c => (o ≤ c ∧ c < o + 1)) I0 I_12 := hf.set (by first | rfl | omega | (dsimp only; omega)) e_13
      have t_16 : (I_12 o 0).toInt = p1.toInt := by rw [← e_13, q_u_at]
      have t_17 : (I_12 o 1).toInt = (I0 o 1).toInt := by rw [← e_13, q_u_k (by decide)]
      have t_18 : (I_12 o 2).toInt = (I0 o 2).toInt := by rw [← e_13, q_u_k (by decide)]
      have t_19 : (I_12 o 6).toInt = (I0 o 6).toInt := by rw [← e_13, q_u_k (by decide)]
      refine fun I_21 e_22 => ?_
      have hR_23 : RI R I_21 := hR_14.up0 (k := 1) ra (by decide) (Or.inl rfl) e_22 (show (-1 : Int) ≤ p2.toInt by omega) (show p2.toInt ≤ (2 : Int) by omega)
      have hf_24 : Fm (fun c => (o ≤ c ∧ c < o + 1)) I0 I_21 := hf_15.set (by first | rfl | omega | (dsimp only; omega)) e_22
      have t_25 : (I_21 o 0).toInt = (I_12 o 0).toInt := by rw [← e_22, q_u_k (by decide)]
      have t_26 : (I_21 o 1).toInt = p2.toInt := by rw [← e_22, q_u_at]
      have t_27 : (I_21 o 2).toInt = (I_12 o 2).toInt := by rw [← e_22, q_u_k (by decide)]
      have t_28 : (I_21 o 6).toInt = (I_12 o 6).toInt := by rw [← e_22, q_u_k (by decide)]
      refine fun I_29 e_30 => ?_
      have hR_31 : RI R I_29 := hR_23.up0 (k := 2) ra (by decide) (Or.inl rfl) e_30 (show (-1 : Int) ≤ p3.toInt by omega) (show p3.toInt ≤ (4 : Int) by omega)
      have hf_32 : Fm (fun c => (o ≤ c ∧ c < o + 1)) I0 I_29 := hf_24.set (by first | rfl | omega | (dsimp only; omega)) e_30
      have t_33 : (I_29 o 0).toInt = (I_21 o 0).toInt := by rw [← e_30, q_u_k (by decide)]
      have t_34 : (I_29 o 1).toInt = (I_21 o 1).toInt := by rw [← e_30, q_u_k (by decide)]
      have t_35 : (I_29 o 2).toInt = p3.toInt := by rw [← e_30, q_u_at]
      have t_36 : (I_29 o 6).toInt = (I_21 o 6).toInt := by rw [← e_30, q_u_k (by decide)]
      refine fun I_37 e_38 => ?_
      have hR_39 : RI R I_37 := hR_31.up0 (k := 3) ra (by decide) (Or.inl rfl) e_38 (i_lo _) (i_hi _)
      have hf_40 : Fm (fun c => (o ≤ c ∧ c < o + 1)) I0 I_37 := hf_32.set (by first | rfl | omega | (dsimp only; omega)) e_38
      have t_41 : (I_37 o 0).toInt = (I_29 o 0).toInt := by rw [← e_38, q_u_k (by decide)]
      have t_42 : (I_37 o 1).toInt = (I_29 o 1).toInt := by rw [← e_38, q_u_k (by decide)]
      have t_43 : (I_37 o 2).toInt = (I_29 o 2).toInt := by rw [← e_38, q_u_k (by decide)]
      have t_44 : (I_37 o 6).toInt = (I_29 o 6).toInt := by rw [← e_38, q_u_k (by decide)]
      refine fun I_45 e_46 => ?_
      have hR_47 : RI R I_45 := hR_39.up0 (k := 4) ra (by decide) (Or.inl rfl) e_46 (i_lo _) (i_hi _)
      have hf_48 : Fm (fun c => (o ≤ c ∧ c < o + 1)) I0 I_45 := hf_40.set (by first | rfl | omega | (dsimp only; omega)) e_46
      have t_49 : (I_45 o 0).toInt = (I_37 o 0).toInt := by rw [← e_46, q_u_k (by decide)]
      have t_50 : (I_45 o 1).toInt = (I_37 o 1).toInt := by rw [← e_46, q_u_k (by decide)]
      have t_51 : (I_45 o 2).toInt = (I_37 o 2).toInt := by rw [← e_46, q_u_k (by decide)]
      have t_52 : (I_45 o 6).toInt = (I_37 o 6).toInt := by rw [← e_46, q_u_k (by decide)]
      refine fun L_53 e_54 => ?_
      replace hl := hl.set (by first | rfl | omega | (dsimp only; omega)) e_54
      exact (hp _ _ hR_47 hf_48 (by first | omega | (intro h; omega) | exact Or.inl rfl | exact Or.inr rfl) (by have a1 : p1.toInt = 1 → 0 ≤ p2.toInt ∧ 0 ≤ p3.toInt := hq4; have a2 : p1.toInt = 2 → 0 ≤ p2.toInt := hq5; have a3 : p1.toInt = 3 → 0 ≤ p2.toInt := hq6; unfold WyOK; refine ⟨fun h => ?_, fun h => ?_, fun h => ?_, fun h => ?_⟩ <;> omega) hl)
set_option maxHeartbeats 4000000 in
set_option maxRecDepth 20000 in
theorem yWay_weighCarrying_16l {D : va_G} {cA : FieldType → ClassId} {b : Nat} {E : State → Prop} {R : qRg} {o n : Nat} {sh : Nat → qC} {Rf : Nat → Nat → Option Nat} {I0 : Nat → Nat → Int32} {L0 : Nat → Nat → Int64} {post : Option Value → qS → Prop} {x1 : Nat} {ux1_0 : Nat} {ux1_1 : Nat} {p2 : Int32} (hok : q_ok (qGG D cA b E)) (hw : WfWay (qGG D cA b E) n sh Rf o) (ra : RAWay R o) (hw1 : WfRun (qGG D cA b E) n sh Rf x1) (ra1 : RARun R x1) (hwux1_0 : WfLand (qGG D cA b E) n sh Rf ux1_0) (raux1_0 : RALand R ux1_0) (hwux1_1 : WfTrade (qGG D cA b E) n sh Rf ux1_1) (raux1_1 : RATrade R ux1_1) (hux1_0 : Rf x1 0 = some ux1_0) (hux1_1 : Rf x1 1 = some ux1_1) (hs0 : o = x1 + 58) (hq0 : (0 : Int) ≤ p2.toInt ∧ p2.toInt ≤ 5) (hq1 : 0 ≤ (I0 o 6).toInt) (hq2 : WyOK I0 o) (hp : ∀ (I' : Nat → Nat → Int32) (L' : Nat → Nat → Int64), RI R I' → Fm (fun c => c = o ∨ c = x1 + 59 ∨ (x1 + 19 ≤ c ∧ c < x1 + 24)) I0 I' → ((I' o 6).toInt = (I0 o 6).toInt) → (WyOK I' o) → (FmL (fun c => c = o) L0 L') → post none (n, sh, Rf, I', L')) {k2 : Nat} (ho2 : ∀ {x2 : Int32} {x3 : Int32} {I : Nat → Nat → Int32} {L : Nat → Nat → Int64}, RI R I → Fm (fun c => c = o ∨ c = x1 + 59 ∨ (x1 + 19 ≤ c ∧ c < x1 + 24)) I0 I → ((0 : Int) ≤ x2.toInt ∧ x2.toInt ≤ 5) → ((0 : Int) ≤ x3.toInt ∧ x3.toInt ≤ 3) → (0 ≤ (I o 6).toInt) → ((I o 6).toInt = (I0 o 6).toInt) → (WyOK I o) → (FmL (fun c => c = o) L0 L) → (3 - x3.toInt).toNat < k2 → Ev (qGG D cA b E) mWay_weighCarrying 3 (0, 0) 2 [(0, .ref o), (1, .ref x1), (2, .int x2), (3, .int x3)] [] (n, sh, Rf, I, L) post) : ∀ (k : Nat) {x2 : Int32} {x3 : Int32} {x4 : Int32} {I : Nat → Nat → Int32} {L : Nat → Nat → Int64}, RI R I → Fm (fun c => c = o ∨ c = x1 + 59 ∨ (x1 + 19 ≤ c ∧ c < x1 + 24)) I0 I → ((0 : Int) ≤ x2.toInt ∧ x2.toInt ≤ 5) → ((0 : Int) ≤ x3.toInt ∧ x3.toInt ≤ 2) → ((0 : Int) ≤ x4.toInt ∧ x4.toInt ≤ 5) → (0 ≤ (I o 6).toInt) → ((I o 6).toInt = (I0 o 6).toInt) → ((3 - x3.toInt).toNat < k2 + 1) → (WyOK I o) → (FmL (fun c => c = o) L0 L) → (5 - x4.toInt).toNat < k → Ev (qGG D cA b E) mWay_weighCarrying 3 (0, 0) 16 [(0, .ref o), (1, .ref x1), (2, .int x2), (3, .int x3), (4, .int x4)] [] (n, sh, Rf, I, L) post := by
  intro k
  induction k with
  | zero =>
    intro x2 x3 x4 I L hR hf hi0 hi1 hi2 hi3 hi4 hi5 hi6 hl hm
    exact absurd hm (Nat.not_lt_zero _)
  | succ k ih =>
    intro x2 x3 x4 I L hR hf hi0 hi1 hi2 hi3 hi4 hi5 hi6 hl hm
    have g_1 : (-1 : Int) ≤ (I o 6).toInt ∧ (I o 6).toInt ≤ 2 := hR.at0 ra 6 (by decide)
    refine sWay_weighCarrying_16 o n sh Rf I L post x1 x2 x3 x4 ux1_0 hok hw hw1 hux1_0 hwux1_0 ?_
    unfold fWay_weighCarrying_16
    have g_2 : (0 : Int) ≤ (I ux1_0 3).toInt ∧ (I ux1_0 3).toInt ≤ 5 := hR.at0 raux1_0 3 (by decide)
    refine ⟨fun c_3 => ?_, fun c_3 => ?_⟩
    · have d_4 := iLe c_3
      have a_6 : (x3 + Int32.ofInt 1).toInt = x3.toInt + (1) := tIc (by omega) (by omega) (by decide) (by decide)
      generalize ez_5 : (x3 + Int32.ofInt 1) = z_5 at a_6 ⊢
      exact ho2 hR hf (by first | omega | (intro h; omega) | exact Or.inl rfl | exact Or.inr rfl) (by first | omega | (intro h; omega) | exact Or.inl rfl | exact Or.inr rfl) (by first | omega | (intro h; omega) | exact Or.inl rfl | exact Or.inr rfl) (by first | omega | (intro h; omega) | exact Or.inl rfl | exact Or.inr rfl) hi6 hl (by omega)
    · have d_7 := iNle c_3
      refine ⟨tIn (by omega) (by omega), ?_⟩
      refine ⟨tIn (by omega) (by omega), ?_⟩
      refine y_Land_daysBetweeng hok hwux1_0 raux1_0 hR (fun r_8 gn_9 => ⟨r_8, I, L, rfl, rfl, ?_⟩)
      clear gn_9
      refine y_Run_carryingCostl hok hw1 ra1 hwux1_0 raux1_0 hwux1_1 raux1_1 hux1_0 hux1_1 (by first | omega | (intro h; omega) | exact Or.inl rfl | exact Or.inr rfl) hR (fun r_10  => ⟨r_10, I, L, rfl, rfl, ?_⟩)
      refine y_Way_affordablel hok hw1 ra1 hwux1_1 raux1_1 hux1_1 (by first | omega | (intro h; omega) | exact Or.inl rfl | exact Or.inr rfl) hR (fun r_11  => ⟨r_11, I, L, rfl, rfl, ?_⟩)
      refine ⟨tIn (by omega) (by omega), ?_⟩
      refine fun y_12 e_13 => ?_
      have m_14 := tMin e_13
      have l_15 : (-1 : Int32).toInt = -1 := rfl
      refine ⟨fun c_16 => ?_, fun c_16 => ?_⟩
      · have d_17 := iEq c_16
        unfold fWay_weighCarrying_142
        have a_19 : (x4 + Int32.ofInt 1).toInt = x4.toInt + (1) := tIc (by omega) (by omega) (by decide) (by decide)
        generalize ez_18 : (x4 + Int32.ofInt 1) = z_18 at a_19 ⊢
        exact ih hR hf (by first | omega | (intro h; omega) | exact Or.inl rfl | exact Or.inr rfl) (by first | omega | (intro h; omega) | exact Or.inl rfl | exact Or.inr rfl) (by first | omega | (intro h; omega) | exact Or.inl rfl | exact Or.inr rfl) (by first | omega | (intro h; omega) | exact Or.inl rfl | exact Or.inr rfl) (by first | omega | (intro h; omega) | exact Or.inl rfl | exact Or.inr rfl) (by first | omega | (intro h; omega) | exact Or.inl rfl | exact Or.inr rfl) hi6 hl (by omega)
      · have d_20 := iNe c_16
        have l_21 : (0 : Int32).toInt = 0 := rfl
        refine ⟨fun c_22 => ?_, fun c_22 => ?_⟩
        · have d_23 := iLe c_22
          unfold fWay_weighCarrying_142
          have a_25 : (x4 + Int32.ofInt 1).toInt = x4.toInt + (1) := tIc (by omega) (by omega) (by decide) (by decide)
          generalize ez_24 : (x4 + Int32.ofInt 1) = z_24 at a_25 ⊢
          exact ih hR hf (by first | omega | (intro h; omega) | exact Or.inl rfl | exact Or.inr rfl) (by first | omega | (intro h; omega) | exact Or.inl rfl | exact Or.inr rfl) (by first | omega | (intro h; omega) | exact Or.inl rfl | exact Or.inr rfl) (by first | omega | (intro h; omega) | exact Or.inl rfl | exact Or.inr rfl) (by first | omega | (intro h; omega) | exact Or.inl rfl | exact Or.inr rfl) (by first | omega | (intro h; omega) | exact Or.inl rfl | exact Or.inr rfl) hi6 hl (by omega)
        · have d_26 := iNle c_22
          refine y_Run_rateAtl hok hw1 ra1 hwux1_0 raux1_0 hwux1_1 raux1_1 hux1_0 hux1_1 (by first | omega | (intro h; omega) | exact Or.inl rfl | exact Or.inr rfl) hR (fun r_27 I_29 L_30 hR_31 fr_32 ln_28 => ⟨r_27, I_29, L_30, rfl, rfl, ?_⟩)
          replace hl := hl.call ln_28 (fun c hc => by first | exact hc | exact False.elim hc | (dsimp only at hc ⊢; omega) | omega)
          have hf_33 : Fm (fun c => c = o ∨ c = x1 + 59 ∨ (x1 + 19 ≤ c ∧ c < x1 + 24)) I0 I_29 := hf.call fr_32 (fun c hc => by first | exact hc | (dsimp only at hc ⊢; omega) | omega)
          have t_34 : (I_29 o 6).toInt = (I o 6).toInt := by rw [fr_32 o (by first | omega | (dsimp only; omega))]
          have g_35 : (0 : Int) ≤ (I_29 ux1_0 3).toInt ∧ (I_29 ux1_0 3).toInt ≤ 5 := hR_31.at0 raux1_0 3 (by decide)
          have k_36 : WyOK I_29 o := hi6.fr (by rw [fr_32 o (by first | omega | (dsimp only; omega))]) (by rw [fr_32 o (by first | omega | (dsimp only; omega))]) (by rw [fr_32 o (by first | omega | (dsimp only; omega))]) (by rw [fr_32 o (by first | omega | (dsimp only; omega))])
          have l_37 : (1 : Int32).toInt = 1 := rfl
          refine y_Way_weighl hok hw ra (by first | omega | (intro h; omega) | exact Or.inl rfl | exact Or.inr rfl) (by first | omega | (intro h; omega) | exact Or.inl rfl | exact Or.inr rfl) (by first | omega | (intro h; omega) | exact Or.inl rfl | exact Or.inr rfl) (by first | omega | (intro h; omega) | exact Or.inl rfl | exact Or.inr rfl) (by first | omega | (intro h; omega) | exact Or.inl rfl | exact Or.inr rfl) (by first | omega | (intro h; omega) | exact Or.inl rfl | exact Or.inr rfl) (by first | omega | (intro h; omega) | exact Or.inl rfl | exact Or.inr rfl) k_36 hR_31 (fun I_42 L_43 hR_44 fr_45 u_39 u_40 ln_41 => ⟨I_42, L_43, rfl, rfl, ?_⟩)
          replace hl := hl.call ln_41 (fun c hc => by first | exact hc | exact False.elim hc | (dsimp only at hc ⊢; omega) | omega)
          have hf_46 : Fm (fun c => c = o ∨ c = x1 + 59 ∨ (x1 + 19 ≤ c ∧ c < x1 + 24)) I0 I_42 := hf_33.call fr_45 (fun c hc => by first | exact hc | (dsimp only at hc ⊢; omega) | omega)
          have g_47 : (-1 : Int) ≤ (I_42 o 6).toInt ∧ (I_42 o 6).toInt ≤ 2 := hR_44.at0 ra 6 (by decide)
          have g_48 : (0 : Int) ≤ (I_42 ux1_0 3).toInt ∧ (I_42 ux1_0 3).toInt ≤ 5 := hR_44.at0 raux1_0 3 (by decide)
          unfold fWay_weighCarrying_142
          have a_50 : (x4 + Int32.ofInt 1).toInt = x4.toInt + (1) := tIc (by omega) (by omega) (by decide) (by decide)
          generalize ez_49 : (x4 + Int32.ofInt 1) = z_49 at a_50 ⊢
          exact ih hR_44 hf_46 (by first | omega | (intro h; omega) | exact Or.inl rfl | exact Or.inr rfl) (by first | omega | (intro h; omega) | exact Or.inl rfl | exact Or.inr rfl) (by first | omega | (intro h; omega) | exact Or.inl rfl | exact Or.inr rfl) (by first | omega | (intro h; omega) | exact Or.inl rfl | exact Or.inr rfl) (by first | omega | (intro h; omega) | exact Or.inl rfl | exact Or.inr rfl) (by first | omega | (intro h; omega) | exact Or.inl rfl | exact Or.inr rfl) u_40 hl (by omega)
set_option maxHeartbeats 4000000 in
set_option maxRecDepth 20000 in
theorem yWay_weighCarrying_2l {D : va_G} {cA : FieldType → ClassId} {b : Nat} {E : State → Prop} {R : qRg} {o n : Nat} {sh : Nat → qC} {Rf : Nat → Nat → Option Nat} {I0 : Nat → Nat → Int32} {L0 : Nat → Nat → Int64} {post : Option Value → qS → Prop} {x1 : Nat} {ux1_0 : Nat} {ux1_1 : Nat} {p2 : Int32} (hok : q_ok (qGG D cA b E)) (hw : WfWay (qGG D cA b E) n sh Rf o) (ra : RAWay R o) (hw1 : WfRun (qGG D cA b E) n sh Rf x1) (ra1 : RARun R x1) (hwux1_0 : WfLand (qGG D cA b E) n sh Rf ux1_0) (raux1_0 : RALand R ux1_0) (hwux1_1 : WfTrade (qGG D cA b E) n sh Rf ux1_1) (raux1_1 : RATrade R ux1_1) (hux1_0 : Rf x1 0 = some ux1_0) (hux1_1 : Rf x1 1 = some ux1_1) (hs0 : o = x1 + 58) (hq0 : (0 : Int) ≤ p2.toInt ∧ p2.toInt ≤ 5) (hq1 : 0 ≤ (I0 o 6).toInt) (hq2 : WyOK I0 o) (hp : ∀ (I' : Nat → Nat → Int32) (L' : Nat → Nat → Int64), RI R I' → Fm (fun c => c = o ∨ c = x1 + 59 ∨ (x1 + 19 ≤ c ∧ c < x1 + 24)) I0 I' → ((I' o 6).toInt = (I0 o 6).toInt) → (WyOK I' o) → (FmL (fun c => c = o) L0 L') → post none (n, sh, Rf, I', L')) : ∀ (k : Nat) {x2 : Int32} {x3 : Int32} {I : Nat → Nat → Int32} {L : Nat → Nat → Int64}, RI R I → Fm (fun c => c = o ∨ c = x1 + 59 ∨ (x1 + 19 ≤ c ∧ c < x1 + 24)) I0 I → ((0 : Int) ≤ x2.toInt ∧ x2.toInt ≤ 5) → ((0 : Int) ≤ x3.toInt ∧ x3.toInt ≤ 3) → (0 ≤ (I o 6).toInt) → ((I o 6).toInt = (I0 o 6).toInt) → (WyOK I o) → (FmL (fun c => c = o) L0 L) → (3 - x3.toInt).toNat < k → Ev (qGG D cA b E) mWay_weighCarrying 3 (0, 0) 2 [(0, .ref o), (1, .ref x1), (2, .int x2), (3, .int x3)] [] (n, sh, Rf, I, L) post := by
  intro k
  induction k with
  | zero =>
    intro x2 x3 I L hR hf hi0 hi1 hi2 hi3 hi4 hl hm
    exact absurd hm (Nat.not_lt_zero _)
  | succ k ih =>
    intro x2 x3 I L hR hf hi0 hi1 hi2 hi3 hi4 hl hm
    have g_51 : (-1 : Int) ≤ (I o 6).toInt ∧ (I o 6).toInt ≤ 2 := hR.at0 ra 6 (by decide)
    refine sWay_weighCarrying_2 o n sh Rf I L post x1 x2 x3 ux1_0 hok hw hw1 hux1_0 hwux1_0 ?_
    unfold fWay_weighCarrying_2
    have g_52 : (0 : Int) ≤ (I ux1_0 1).toInt ∧ (I ux1_0 1).toInt ≤ 3 := hR.at0 raux1_0 1 (by decide)
    refine ⟨fun c_53 => ?_, fun c_53 => ?_⟩
    · have d_54 := iLe c_53
      exact (hp _ _ hR hf (by first | omega | (intro h; omega) | exact Or.inl rfl | exact Or.inr rfl) hi4 hl)
    · have d_55 := iNle c_53
      have l_56 : (0 : Int32).toInt = 0 := rfl
      exact yWay_weighCarrying_16l (I0 := I0) (L0 := L0) (p2 := p2) hok hw ra hw1 ra1 hwux1_0 raux1_0 hwux1_1 raux1_1 hux1_0 hux1_1 hs0 hq0 hq1 hq2 hp ih _ hR hf (by first | omega | (intro h; omega) | exact Or.inl rfl | exact Or.inr rfl) (by first | omega | (intro h; omega) | exact Or.inl rfl | exact Or.inr rfl) (by first | omega | (intro h; omega) | exact Or.inl rfl | exact Or.inr rfl) (by first | omega | (intro h; omega) | exact Or.inl rfl | exact Or.inr rfl) (by first | omega | (intro h; omega) | exact Or.inl rfl | exact Or.inr rfl) (by first | omega | (intro h; omega) | exact Or.inl rfl | exact Or.inr rfl) hi4 hl (Nat.lt_succ_self _)
set_option maxHeartbeats 4000000 in
set_option maxRecDepth 20000 in
theorem y_Way_weighCarryingl {D : va_G} {cA : FieldType → ClassId} {b : Nat} {E : State → Prop} {R : qRg} {o n : Nat} {sh : Nat → qC} {Rf : Nat → Nat → Option Nat} {I0 : Nat → Nat → Int32} {L0 : Nat → Nat → Int64} {post : Option Value → qS → Prop} {x1 : Nat} {ux1_0 : Nat} {ux1_1 : Nat} {p2 : Int32} (hok : q_ok (qGG D cA b E)) (hw : WfWay (qGG D cA b E) n sh Rf o) (ra : RAWay R o) (hw1 : WfRun (qGG D cA b E) n sh Rf x1) (ra1 : RARun R x1) (hwux1_0 : WfLand (qGG D cA b E) n sh Rf ux1_0) (raux1_0 : RALand R ux1_0) (hwux1_1 : WfTrade (qGG D cA b E) n sh Rf ux1_1) (raux1_1 : RATrade R ux1_1) (hux1_0 : Rf x1 0 = some ux1_0) (hux1_1 : Rf x1 1 = some ux1_1) (hs0 : o = x1 + 58) (hq0 : (0 : Int) ≤ p2.toInt ∧ p2.toInt ≤ 5) (hq1 : 0 ≤ (I0 o 6).toInt) (hq2 : WyOK I0 o) (hR : RI R I0) (hp : ∀ (I' : Nat → Nat → Int32) (L' : Nat → Nat → Int64), RI R I' → Fm (fun c => c = o ∨ c = x1 + 59 ∨ (x1 + 19 ≤ c ∧ c < x1 + 24)) I0 I' → ((I' o 6).toInt = (I0 o 6).toInt) → (WyOK I' o) → (FmL (fun c => c = o) L0 L') → post none (n, sh, Rf, I', L')) : Ev (qGG D cA b E) mWay_weighCarrying 3 (0, 0) 0 (lv_args 0 [.ref o, .ref x1, .int p2]) [] (n, sh, Rf, I0, L0) post := by
  have hf : Fm (fun c => c = o ∨ c = x1 + 59 ∨ (x1 + 19 ≤ c ∧ c < x1 + 24)) I0 I0 := Fm.rf
  have g_57 : (-1 : Int) ≤ (I0 o 6).toInt ∧ (I0 o 6).toInt ≤ 2 := hR.at0 ra 6 (by decide)
  refine sWay_weighCarrying_0 o n sh Rf I0 L0 post x1 p2 ux1_0 hok hw hw1 hux1_0 hwux1_0 ?_
  unfold fWay_weighCarrying_0
  have hl : FmL (fun c => c = o) L0 L0 := FmL.rf
  have l_58 : (0 : Int32).toInt = 0 := rfl
  exact yWay_weighCarrying_2l (I0 := I0) (L0 := L0) (p2 := p2) hok hw ra hw1 ra1 hwux1_0 raux1_0 hwux1_1 raux1_1 hux1_0 hux1_1 hs0 hq0 hq1 hq2 hp  _ hR hf (by first | omega | (intro h; omega) | exact Or.inl rfl | exact Or.inr rfl) (by first | omega | (intro h; omega) | exact Or.inl rfl | exact Or.inr rfl) (by first | omega | (intro h; omega) | exact Or.inl rfl | exact Or.inr rfl) (by first | omega | (intro h; omega) | exact Or.inl rfl | exact Or.inr rfl) hq2 hl (Nat.lt_succ_self _)
set_option maxHeartbeats 4000000 in
set_option maxRecDepth 20000 in
theorem yWay_weighFarming_19l {D : va_G} {cA : FieldType → ClassId} {b : Nat} {E : State → Prop} {R : qRg} {o n : Nat} {sh : Nat → qC} {Rf : Nat → Nat → Option Nat} {I0 : Nat → Nat → Int32} {L0 : Nat → Nat → Int64} {post : Option Value → qS → Prop} {x1 : Nat} {ux1_1 : Nat} {ux1_0 : Nat} {p2 : Int32} (hok : q_ok (qGG D cA b E)) (hw : WfWay (qGG D cA b E) n sh Rf o) (ra : RAWay R o) (hw1 : WfRun (qGG D cA b E) n sh Rf x1) (ra1 : RARun R x1) (hwux1_1 : WfTrade (qGG D cA b E) n sh Rf ux1_1) (raux1_1 : RATrade R ux1_1) (hwux1_0 : WfLand (qGG D cA b E) n sh Rf ux1_0) (raux1_0 : RALand R ux1_0) (hux1_1 : Rf x1 1 = some ux1_1) (hux1_0 : Rf x1 0 = some ux1_0) (hs0 : o = x1 + 58) (hq0 : (0 : Int) ≤ p2.toInt ∧ p2.toInt ≤ 5) (hq1 : 0 ≤ (I0 o 6).toInt) (hq2 : WyOK I0 o) (hp : ∀ (I' : Nat → Nat → Int32) (L' : Nat → Nat → Int64), RI R I' → Fm (fun c => c = o ∨ c = x1 + 59 ∨ (x1 + 19 ≤ c ∧ c < x1 + 24)) I0 I' → ((I' o 6).toInt = (I0 o 6).toInt) → (WyOK I' o) → (FmL (fun c => c = o) L0 L') → post none (n, sh, Rf, I', L')) : ∀ (k : Nat) {x2 : Int32} {x3 : Int32} {x4 : Int32} {x5 : Int32} {I : Nat → Nat → Int32} {L : Nat → Nat → Int64}, RI R I → Fm (fun c => c = o ∨ c = x1 + 59 ∨ (x1 + 19 ≤ c ∧ c < x1 + 24)) I0 I → ((0 : Int) ≤ x2.toInt ∧ x2.toInt ≤ 5) → ((0 : Int) ≤ x5.toInt ∧ x5.toInt ≤ 3) → (0 ≤ (I o 6).toInt) → ((I o 6).toInt = (I0 o 6).toInt) → (WyOK I o) → (FmL (fun c => c = o) L0 L) → (3 - x5.toInt).toNat < k → Ev (qGG D cA b E) mWay_weighFarming 3 (0, 0) 19 [(0, .ref o), (1, .ref x1), (2, .int x2), (3, .int x3), (4, .int x4), (5, .int x5)] [] (n, sh, Rf, I, L) post := by
  intro k
  induction k with
  | zero =>
    intro x2 x3 x4 x5 I L hR hf hi0 hi1 hi2 hi3 hi4 hl hm
    exact absurd hm (Nat.not_lt_zero _)
  | succ k ih =>
    intro x2 x3 x4 x5 I L hR hf hi0 hi1 hi2 hi3 hi4 hl hm
    have g_1 : (-1 : Int) ≤ (I o 6).toInt ∧ (I o 6).toInt ≤ 2 := hR.at0 ra 6 (by decide)
    refine sWay_weighFarming_19 o n sh Rf I L post x1 x2 x3 x4 x5 ux1_1 ux1_0 hok hw hw1 hux1_1 hwux1_1 hux1_0 hwux1_0 ?_
    unfold fWay_weighFarming_19
    have g_2 : (0 : Int) ≤ (I ux1_0 1).toInt ∧ (I ux1_0 1).toInt ≤ 3 := hR.at0 raux1_0 1 (by decide)
    refine ⟨fun c_3 => ?_, fun c_3 => ?_⟩
    · have d_4 := iLe c_3
      exact (hp _ _ hR hf (by first | omega | (intro h; omega) | exact Or.inl rfl | exact Or.inr rfl) hi4 hl)
    · have d_5 := iNle c_3
      refine y_Run_hasRipeFarml hok hw1 ra1 (by first | omega | (intro h; omega) | exact Or.inl rfl | exact Or.inr rfl) (by first | omega | (intro h; omega) | exact Or.inl rfl | exact Or.inr rfl) hR (fun r_6 u_7 => ⟨r_6, I, L, rfl, rfl, ?_⟩)
      have b_8 : 0 ≤ r_6.toInt ∧ r_6.toInt ≤ 1 := u_7.rg
      have l_9 : (0 : Int32).toInt = 0 := rfl
      refine ⟨fun c_10 => ?_, fun c_10 => ?_⟩
      · have d_11 := iEq c_10
        unfold fWay_weighFarming_85
        have a_13 : (x5 + Int32.ofInt 1).toInt = x5.toInt + (1) := tIc (by omega) (by omega) (by decide) (by decide)
        generalize ez_12 : (x5 + Int32.ofInt 1) = z_12 at a_13 ⊢
        exact ih hR hf (by first | omega | (intro h; omega) | exact Or.inl rfl | exact Or.inr rfl) (by first | omega | (intro h; omega) | exact Or.inl rfl | exact Or.inr rfl) (by first | omega | (intro h; omega) | exact Or.inl rfl | exact Or.inr rfl) (by first | omega | (intro h; omega) | exact Or.inl rfl | exact Or.inr rfl) hi4 hl (by omega)
      · have d_14 := iNe c_10
        refine ⟨fun c_15 => ?_, fun c_15 => ?_⟩
        · have d_16 := iLe c_15
          unfold fWay_weighFarming_85
          have a_18 : (x5 + Int32.ofInt 1).toInt = x5.toInt + (1) := tIc (by omega) (by omega) (by decide) (by decide)
          generalize ez_17 : (x5 + Int32.ofInt 1) = z_17 at a_18 ⊢
          exact ih hR hf (by first | omega | (intro h; omega) | exact Or.inl rfl | exact Or.inr rfl) (by first | omega | (intro h; omega) | exact Or.inl rfl | exact Or.inr rfl) (by first | omega | (intro h; omega) | exact Or.inl rfl | exact Or.inr rfl) (by first | omega | (intro h; omega) | exact Or.inl rfl | exact Or.inr rfl) hi4 hl (by omega)
        · have d_19 := iNle c_15
          refine y_Run_rateAtl hok hw1 ra1 hwux1_0 raux1_0 hwux1_1 raux1_1 hux1_0 hux1_1 (by first | omega | (intro h; omega) | exact Or.inl rfl | exact Or.inr rfl) hR (fun r_20 I_22 L_23 hR_24 fr_25 ln_21 => ⟨r_20, I_22, L_23, rfl, rfl, ?_⟩)
          replace hl := hl.call ln_21 (fun c hc => by first | exact hc | exact False.elim hc | (dsimp only at hc ⊢; omega) | omega)
          have hf_26 : Fm (fun c => c = o ∨ c = x1 + 59 ∨ (x1 + 19 ≤ c ∧ c < x1 + 24)) I0 I_22 := hf.call fr_25 (fun c hc => by first | exact hc | (dsimp only at hc ⊢; omega) | omega)
          have t_27 : (I_22 o 6).toInt = (I o 6).toInt := by rw [fr_25 o (by first | omega | (dsimp only; omega))]
          have g_28 : (0 : Int) ≤ (I_22 ux1_0 1).toInt ∧ (I_22 ux1_0 1).toInt ≤ 3 := hR_24.at0 raux1_0 1 (by decide)
          have k_29 : WyOK I_22 o := hi4.fr (by rw [fr_25 o (by first | omega | (dsimp only; omega))]) (by rw [fr_25 o (by first | omega | (dsimp only; omega))]) (by rw [fr_25 o (by first | omega | (dsimp only; omega))]) (by rw [fr_25 o (by first | omega | (dsimp only; omega))])
          have l_30 : (2 : Int32).toInt = 2 := rfl
          have l_31 : (-1 : Int32).toInt = -1 := rfl
          refine y_Way_weighl hok hw ra (by first | omega | (intro h; omega) | exact Or.inl rfl | exact Or.inr rfl) (by first | omega | (intro h; omega) | exact Or.inl rfl | exact Or.inr rfl) (by first | omega | (intro h; omega) | exact Or.inl rfl | exact Or.inr rfl) (by first | omega | (intro h; omega) | exact Or.inl rfl | exact Or.inr rfl) (by first | omega | (intro h; omega) | exact Or.inl rfl | exact Or.inr rfl) (by first | omega | (intro h; omega) | exact Or.inl rfl | exact Or.inr rfl) (by first | omega | (intro h; omega) | exact Or.inl rfl | exact Or.inr rfl) k_29 hR_24 (fun I_36 L_37 hR_38 fr_39 u_33 u_34 ln_35 => ⟨I_36, L_37, rfl, rfl, ?_⟩)
          replace hl := hl.call ln_35 (fun c hc => by first | exact hc | exact False.elim hc | (dsimp only at hc ⊢; omega) | omega)
          have hf_40 : Fm (fun c => c = o ∨ c = x1 + 59 ∨ (x1 + 19 ≤ c ∧ c < x1 + 24)) I0 I_36 := hf_26.call fr_39 (fun c hc => by first | exact hc | (dsimp only at hc ⊢; omega) | omega)
          have g_41 : (-1 : Int) ≤ (I_36 o 6).toInt ∧ (I_36 o 6).toInt ≤ 2 := hR_38.at0 ra 6 (by decide)
          have g_42 : (0 : Int) ≤ (I_36 ux1_0 1).toInt ∧ (I_36 ux1_0 1).toInt ≤ 3 := hR_38.at0 raux1_0 1 (by decide)
          unfold fWay_weighFarming_85
          have a_44 : (x5 + Int32.ofInt 1).toInt = x5.toInt + (1) := tIc (by omega) (by omega) (by decide) (by decide)
          generalize ez_43 : (x5 + Int32.ofInt 1) = z_43 at a_44 ⊢
          exact ih hR_38 hf_40 (by first | omega | (intro h; omega) | exact Or.inl rfl | exact Or.inr rfl) (by first | omega | (intro h; omega) | exact Or.inl rfl | exact Or.inr rfl) (by first | omega | (intro h; omega) | exact Or.inl rfl | exact Or.inr rfl) (by first | omega | (intro h; omega) | exact Or.inl rfl | exact Or.inr rfl) u_34 hl (by omega)
set_option maxHeartbeats 4000000 in
set_option maxRecDepth 20000 in
theorem y_Way_weighFarmingl {D : va_G} {cA : FieldType → ClassId} {b : Nat} {E : State → Prop} {R : qRg} {o n : Nat} {sh : Nat → qC} {Rf : Nat → Nat → Option Nat} {I0 : Nat → Nat → Int32} {L0 : Nat → Nat → Int64} {post : Option Value → qS → Prop} {x1 : Nat} {ux1_1 : Nat} {ux1_0 : Nat} {p2 : Int32} (hok : q_ok (qGG D cA b E)) (hw : WfWay (qGG D cA b E) n sh Rf o) (ra : RAWay R o) (hw1 : WfRun (qGG D cA b E) n sh Rf x1) (ra1 : RARun R x1) (hwux1_1 : WfTrade (qGG D cA b E) n sh Rf ux1_1) (raux1_1 : RATrade R ux1_1) (hwux1_0 : WfLand (qGG D cA b E) n sh Rf ux1_0) (raux1_0 : RALand R ux1_0) (hux1_1 : Rf x1 1 = some ux1_1) (hux1_0 : Rf x1 0 = some ux1_0) (hs0 : o = x1 + 58) (hq0 : (0 : Int) ≤ p2.toInt ∧ p2.toInt ≤ 5) (hq1 : 0 ≤ (I0 o 6).toInt) (hq2 : WyOK I0 o) (hR : RI R I0) (hp : ∀ (I' : Nat → Nat → Int32) (L' : Nat → Nat → Int64), RI R I' → Fm (fun c => c = o ∨ c = x1 + 59 ∨ (x1 + 19 ≤ c ∧ c < x1 + 24)) I0 I' → ((I' o 6).toInt = (I0 o 6).toInt) → (WyOK I' o) → (FmL (fun c => c = o) L0 L') → post none (n, sh, Rf, I', L')) : Ev (qGG D cA b E) mWay_weighFarming 3 (0, 0) 0 (lv_args 0 [.ref o, .ref x1, .int p2]) [] (n, sh, Rf, I0, L0) post := by
  have hf : Fm (fun c => c = o ∨ c = x1 + 59 ∨ (x1 + 19 ≤ c ∧ c < x1 + 24)) I0 I0 := Fm.rf
  have g_45 : (-1 : Int) ≤ (I0 o 6).toInt ∧ (I0 o 6).toInt ≤ 2 := hR.at0 ra 6 (by decide)
  refine sWay_weighFarming_0 o n sh Rf I0 L0 post x1 p2 ux1_1 ux1_0 hok hw hw1 hux1_1 hwux1_1 hux1_0 hwux1_0 ?_
  unfold fWay_weighFarming_0
  have hl : FmL (fun c => c = o) L0 L0 := FmL.rf
  refine y_Way_affordablel hok hw1 ra1 hwux1_1 raux1_1 hux1_1 (by first | omega | (intro h; omega) | exact Or.inl rfl | exact Or.inr rfl) hR (fun r_46  => ⟨r_46, I0, L0, rfl, rfl, ?_⟩)
  have l_47 : (0 : Int32).toInt = 0 := rfl
  exact yWay_weighFarming_19l (I0 := I0) (L0 := L0) (p2 := p2) hok hw ra hw1 ra1 hwux1_1 raux1_1 hwux1_0 raux1_0 hux1_1 hux1_0 hs0 hq0 hq1 hq2 hp  _ hR hf (by first | omega | (intro h; omega) | exact Or.inl rfl | exact Or.inr rfl) (by first | omega | (intro h; omega) | exact Or.inl rfl | exact Or.inr rfl) (by first | omega | (intro h; omega) | exact Or.inl rfl | exact Or.inr rfl) (by first | omega | (intro h; omega) | exact Or.inl rfl | exact Or.inr rfl) hq2 hl (Nat.lt_succ_self _)
set_option maxHeartbeats 4000000 in
set_option maxRecDepth 20000 in
theorem yWay_weighFounding_2l {D : va_G} {cA : FieldType → ClassId} {b : Nat} {E : State → Prop} {R : qRg} {o n : Nat} {sh : Nat → qC} {Rf : Nat → Nat → Option Nat} {I0 : Nat → Nat → Int32} {L0 : Nat → Nat → Int64} {post : Option Value → qS → Prop} {x1 : Nat} {ux1_0 : Nat} {ux1_1 : Nat} {p2 : Int32} (hok : q_ok (qGG D cA b E)) (hw : WfWay (qGG D cA b E) n sh Rf o) (ra : RAWay R o) (hw1 : WfRun (qGG D cA b E) n sh Rf x1) (ra1 : RARun R x1) (hwux1_0 : WfLand (qGG D cA b E) n sh Rf ux1_0) (raux1_0 : RALand R ux1_0) (hwux1_1 : WfTrade (qGG D cA b E) n sh Rf ux1_1) (raux1_1 : RATrade R ux1_1) (hux1_0 : Rf x1 0 = some ux1_0) (hux1_1 : Rf x1 1 = some ux1_1) (hs0 : o = x1 + 58) (hq0 : (0 : Int) ≤ p2.toInt ∧ p2.toInt ≤ 5) (hq1 : 0 ≤ (I0 o 6).toInt) (hq2 : WyOK I0 o) (hp : ∀ (I' : Nat → Nat → Int32) (L' : Nat → Nat → Int64), RI R I' → Fm (fun c => c = o ∨ c = x1 + 59 ∨ (x1 + 19 ≤ c ∧ c < x1 + 24)) I0 I' → ((I' o 6).toInt = (I0 o 6).toInt) → (WyOK I' o) → (FmL (fun c => c = o) L0 L') → post none (n, sh, Rf, I', L')) : ∀ (k : Nat) {x2 : Int32} {x3 : Int32} {I : Nat → Nat → Int32} {L : Nat → Nat → Int64}, RI R I → Fm (fun c => c = o ∨ c = x1 + 59 ∨ (x1 + 19 ≤ c ∧ c < x1 + 24)) I0 I → ((0 : Int) ≤ x2.toInt ∧ x2.toInt ≤ 5) → ((0 : Int) ≤ x3.toInt ∧ x3.toInt ≤ 3) → (0 ≤ (I o 6).toInt) → ((I o 6).toInt = (I0 o 6).toInt) → (WyOK I o) → (FmL (fun c => c = o) L0 L) → (3 - x3.toInt).toNat < k → Ev (qGG D cA b E) mWay_weighFounding 3 (0, 0) 2 [(0, .ref o), (1, .ref x1), (2, .int x2), (3, .int x3)] [] (n, sh, Rf, I, L) post := by
  intro k
  induction k with
  | zero =>
    intro x2 x3 I L hR hf hi0 hi1 hi2 hi3 hi4 hl hm
    exact absurd hm (Nat.not_lt_zero _)
  | succ k ih =>
    intro x2 x3 I L hR hf hi0 hi1 hi2 hi3 hi4 hl hm
    have g_1 : (-1 : Int) ≤ (I o 6).toInt ∧ (I o 6).toInt ≤ 2 := hR.at0 ra 6 (by decide)
    refine sWay_weighFounding_2 o n sh Rf I L post x1 x2 x3 ux1_0 ux1_1 hok hw hw1 hux1_0 hwux1_0 hux1_1 hwux1_1 ?_
    unfold fWay_weighFounding_2
    have g_2 : (0 : Int) ≤ (I ux1_0 1).toInt ∧ (I ux1_0 1).toInt ≤ 3 := hR.at0 raux1_0 1 (by decide)
    refine ⟨fun c_3 => ?_, fun c_3 => ?_⟩
    · have d_4 := iLe c_3
      exact (hp _ _ hR hf (by first | omega | (intro h; omega) | exact Or.inl rfl | exact Or.inr rfl) hi4 hl)
    · have d_5 := iNle c_3
      refine y_Run_hasFarml hok hw1 ra1 (by first | omega | (intro h; omega) | exact Or.inl rfl | exact Or.inr rfl) (by first | omega | (intro h; omega) | exact Or.inl rfl | exact Or.inr rfl) hR (fun r_6 u_7 => ⟨r_6, I, L, rfl, rfl, ?_⟩)
      have b_8 : 0 ≤ r_6.toInt ∧ r_6.toInt ≤ 1 := u_7.rg
      have l_9 : (0 : Int32).toInt = 0 := rfl
      refine ⟨fun c_10 => ?_, fun c_10 => ?_⟩
      · have d_11 := iNe c_10
        unfold fWay_weighFounding_91
        have a_13 : (x3 + Int32.ofInt 1).toInt = x3.toInt + (1) := tIc (by omega) (by omega) (by decide) (by decide)
        generalize ez_12 : (x3 + Int32.ofInt 1) = z_12 at a_13 ⊢
        exact ih hR hf (by first | omega | (intro h; omega) | exact Or.inl rfl | exact Or.inr rfl) (by first | omega | (intro h; omega) | exact Or.inl rfl | exact Or.inr rfl) (by first | omega | (intro h; omega) | exact Or.inl rfl | exact Or.inr rfl) (by first | omega | (intro h; omega) | exact Or.inl rfl | exact Or.inr rfl) hi4 hl (by omega)
      · have d_14 := iEq c_10
        refine ⟨tIn (by omega) (by omega), ?_⟩
        refine ⟨fun c_15 => ?_, fun c_15 => ?_⟩
        · have d_16 := iLt c_15
          unfold fWay_weighFounding_91
          have a_18 : (x3 + Int32.ofInt 1).toInt = x3.toInt + (1) := tIc (by omega) (by omega) (by decide) (by decide)
          generalize ez_17 : (x3 + Int32.ofInt 1) = z_17 at a_18 ⊢
          exact ih hR hf (by first | omega | (intro h; omega) | exact Or.inl rfl | exact Or.inr rfl) (by first | omega | (intro h; omega) | exact Or.inl rfl | exact Or.inr rfl) (by first | omega | (intro h; omega) | exact Or.inl rfl | exact Or.inr rfl) (by first | omega | (intro h; omega) | exact Or.inl rfl | exact Or.inr rfl) hi4 hl (by omega)
        · have d_19 := iNlt c_15
          refine y_Run_rateAtl hok hw1 ra1 hwux1_0 raux1_0 hwux1_1 raux1_1 hux1_0 hux1_1 (by first | omega | (intro h; omega) | exact Or.inl rfl | exact Or.inr rfl) hR (fun r_20 I_22 L_23 hR_24 fr_25 ln_21 => ⟨r_20, I_22, L_23, rfl, rfl, ?_⟩)
          replace hl := hl.call ln_21 (fun c hc => by first | exact hc | exact False.elim hc | (dsimp only at hc ⊢; omega) | omega)
          have hf_26 : Fm (fun c => c = o ∨ c = x1 + 59 ∨ (x1 + 19 ≤ c ∧ c < x1 + 24)) I0 I_22 := hf.call fr_25 (fun c hc => by first | exact hc | (dsimp only at hc ⊢; omega) | omega)
          have t_27 : (I_22 o 6).toInt = (I o 6).toInt := by rw [fr_25 o (by first | omega | (dsimp only; omega))]
          have g_28 : (0 : Int) ≤ (I_22 ux1_0 1).toInt ∧ (I_22 ux1_0 1).toInt ≤ 3 := hR_24.at0 raux1_0 1 (by decide)
          have k_29 : WyOK I_22 o := hi4.fr (by rw [fr_25 o (by first | omega | (dsimp only; omega))]) (by rw [fr_25 o (by first | omega | (dsimp only; omega))]) (by rw [fr_25 o (by first | omega | (dsimp only; omega))]) (by rw [fr_25 o (by first | omega | (dsimp only; omega))])
          have l_30 : (3 : Int32).toInt = 3 := rfl
          have l_31 : (-1 : Int32).toInt = -1 := rfl
          have l_32 : (1 : Int32).toInt = 1 := rfl
          refine y_Way_weighl hok hw ra (by first | omega | (intro h; omega) | exact Or.inl rfl | exact Or.inr rfl) (by first | omega | (intro h; omega) | exact Or.inl rfl | exact Or.inr rfl) (by first | omega | (intro h; omega) | exact Or.inl rfl | exact Or.inr rfl) (by first | omega | (intro h; omega) | exact Or.inl rfl | exact Or.inr rfl) (by first | omega | (intro h; omega) | exact Or.inl rfl | exact Or.inr rfl) (by first | omega | (intro h; omega) | exact Or.inl rfl | exact Or.inr rfl) (by first | omega | (intro h; omega) | exact Or.inl rfl | exact Or.inr rfl) k_29 hR_24 (fun I_37 L_38 hR_39 fr_40 u_34 u_35 ln_36 => ⟨I_37, L_38, rfl, rfl, ?_⟩)
          replace hl := hl.call ln_36 (fun c hc => by first | exact hc | exact False.elim hc | (dsimp only at hc ⊢; omega) | omega)
          have hf_41 : Fm (fun c => c = o ∨ c = x1 + 59 ∨ (x1 + 19 ≤ c ∧ c < x1 + 24)) I0 I_37 := hf_26.call fr_40 (fun c hc => by first | exact hc | (dsimp only at hc ⊢; omega) | omega)
          have g_42 : (-1 : Int) ≤ (I_37 o 6).toInt ∧ (I_37 o 6).toInt ≤ 2 := hR_39.at0 ra 6 (by decide)
          have g_43 : (0 : Int) ≤ (I_37 ux1_0 1).toInt ∧ (I_37 ux1_0 1).toInt ≤ 3 := hR_39.at0 raux1_0 1 (by decide)
          unfold fWay_weighFounding_91
          have a_45 : (x3 + Int32.ofInt 1).toInt = x3.toInt + (1) := tIc (by omega) (by omega) (by decide) (by decide)
          generalize ez_44 : (x3 + Int32.ofInt 1) = z_44 at a_45 ⊢
          exact ih hR_39 hf_41 (by first | omega | (intro h; omega) | exact Or.inl rfl | exact Or.inr rfl) (by first | omega | (intro h; omega) | exact Or.inl rfl | exact Or.inr rfl) (by first | omega | (intro h; omega) | exact Or.inl rfl | exact Or.inr rfl) (by first | omega | (intro h; omega) | exact Or.inl rfl | exact Or.inr rfl) u_35 hl (by omega)
set_option maxHeartbeats 4000000 in
set_option maxRecDepth 20000 in
theorem y_Way_weighFoundingl {D : va_G} {cA : FieldType → ClassId} {b : Nat} {E : State → Prop} {R : qRg} {o n : Nat} {sh : Nat → qC} {Rf : Nat → Nat → Option Nat} {I0 : Nat → Nat → Int32} {L0 : Nat → Nat → Int64} {post : Option Value → qS → Prop} {x1 : Nat} {ux1_0 : Nat} {ux1_1 : Nat} {p2 : Int32} (hok : q_ok (qGG D cA b E)) (hw : WfWay (qGG D cA b E) n sh Rf o) (ra : RAWay R o) (hw1 : WfRun (qGG D cA b E) n sh Rf x1) (ra1 : RARun R x1) (hwux1_0 : WfLand (qGG D cA b E) n sh Rf ux1_0) (raux1_0 : RALand R ux1_0) (hwux1_1 : WfTrade (qGG D cA b E) n sh Rf ux1_1) (raux1_1 : RATrade R ux1_1) (hux1_0 : Rf x1 0 = some ux1_0) (hux1_1 : Rf x1 1 = some ux1_1) (hs0 : o = x1 + 58) (hq0 : (0 : Int) ≤ p2.toInt ∧ p2.toInt ≤ 5) (hq1 : 0 ≤ (I0 o 6).toInt) (hq2 : WyOK I0 o) (hR : RI R I0) (hp : ∀ (I' : Nat → Nat → Int32) (L' : Nat → Nat → Int64), RI R I' → Fm (fun c => c = o ∨ c = x1 + 59 ∨ (x1 + 19 ≤ c ∧ c < x1 + 24)) I0 I' → ((I' o 6).toInt = (I0 o 6).toInt) → (WyOK I' o) → (FmL (fun c => c = o) L0 L') → post none (n, sh, Rf, I', L')) : Ev (qGG D cA b E) mWay_weighFounding 3 (0, 0) 0 (lv_args 0 [.ref o, .ref x1, .int p2]) [] (n, sh, Rf, I0, L0) post := by
  have hf : Fm (fun c => c = o ∨ c = x1 + 59 ∨ (x1 + 19 ≤ c ∧ c < x1 + 24)) I0 I0 := Fm.rf
  have g_46 : (-1 : Int) ≤ (I0 o 6).toInt ∧ (I0 o 6).toInt ≤ 2 := hR.at0 ra 6 (by decide)
  refine sWay_weighFounding_0 o n sh Rf I0 L0 post x1 p2 ux1_0 ux1_1 hok hw hw1 hux1_0 hwux1_0 hux1_1 hwux1_1 ?_
  unfold fWay_weighFounding_0
  have hl : FmL (fun c => c = o) L0 L0 := FmL.rf
  have l_47 : (0 : Int32).toInt = 0 := rfl
  exact yWay_weighFounding_2l (I0 := I0) (L0 := L0) (p2 := p2) hok hw ra hw1 ra1 hwux1_0 raux1_0 hwux1_1 raux1_1 hux1_0 hux1_1 hs0 hq0 hq1 hq2 hp  _ hR hf (by first | omega | (intro h; omega) | exact Or.inl rfl | exact Or.inr rfl) (by first | omega | (intro h; omega) | exact Or.inl rfl | exact Or.inr rfl) (by first | omega | (intro h; omega) | exact Or.inl rfl | exact Or.inr rfl) (by first | omega | (intro h; omega) | exact Or.inl rfl | exact Or.inr rfl) hq2 hl (Nat.lt_succ_self _)
set_option maxHeartbeats 4000000 in
set_option maxRecDepth 20000 in
theorem y_Way_weighBuyingl {D : va_G} {cA : FieldType → ClassId} {b : Nat} {E : State → Prop} {R : qRg} {o n : Nat} {sh : Nat → qC} {Rf : Nat → Nat → Option Nat} {I0 : Nat → Nat → Int32} {L0 : Nat → Nat → Int64} {post : Option Value → qS → Prop} {x1 : Nat} {ux1_0 : Nat} {ux1_1 : Nat} {p2 : Int32} (hok : q_ok (qGG D cA b E)) (hw : WfWay (qGG D cA b E) n sh Rf o) (ra : RAWay R o) (hw1 : WfRun (qGG D cA b E) n sh Rf x1) (ra1 : RARun R x1) (hwux1_0 : WfLand (qGG D cA b E) n sh Rf ux1_0) (raux1_0 : RALand R ux1_0) (hwux1_1 : WfTrade (qGG D cA b E) n sh Rf ux1_1) (raux1_1 : RATrade R ux1_1) (hux1_0 : Rf x1 0 = some ux1_0) (hux1_1 : Rf x1 1 = some ux1_1) (hs0 : o = x1 + 58) (hq0 : (0 : Int) ≤ p2.toInt ∧ p2.toInt ≤ 5) (hq1 : 0 ≤ (I0 o 6).toInt) (hq2 : WyOK I0 o) (hR : RI R I0) (hp : ∀ (I' : Nat → Nat → Int32) (L' : Nat → Nat → Int64), RI R I' → Fm (fun c => c = o ∨ c = x1 + 59 ∨ (x1 + 19 ≤ c ∧ c < x1 + 24)) I0 I' → ((I' o 6).toInt = (I0 o 6).toInt) → (WyOK I' o) → (FmL (fun c => c = o) L0 L') → post none (n, sh, Rf, I', L')) : Ev (qGG D cA b E) mWay_weighBuying 2 (0, 0) 0 (lv_args 0 [.ref o, .ref x1, .int p2]) [] (n, sh, Rf, I0, L0) post := by
  have hf : Fm (fun c => c = o ∨ c = x1 + 59 ∨ (x1 + 19 ≤ c ∧ c < x1 + 24)) I0 I0 := Fm.rf
  have g_1 : (-1 : Int) ≤ (I0 o 6).toInt ∧ (I0 o 6).toInt ≤ 2 := hR.at0 ra 6 (by decide)
  refine sWay_weighBuying_0 o n sh Rf I0 L0 post x1 p2 hok hw hw1 ?_
  unfold fWay_weighBuying_0
  have hl : FmL (fun c => c = o) L0 L0 := FmL.rf
  have l_2 : (2 : Int32).toInt = 2 := rfl
  have l_3 : (0 : Int32).toInt = 0 := rfl
  refine ⟨fun c_4 => ?_, fun c_4 => ?_⟩
  · have d_5 := iLe c_4
    exact (hp _ _ hR hf (by first | omega | (intro h; omega) | exact Or.inl rfl | exact Or.inr rfl) hq2 hl)
  · have d_6 := iNle c_4
    refine y_Way_affordablel hok hw1 ra1 hwux1_1 raux1_1 hux1_1 (by first | omega | (intro h; omega) | exact Or.inl rfl | exact Or.inr rfl) hR (fun r_7  => ⟨r_7, I0, L0, rfl, rfl, ?_⟩)
    refine fun y_8 e_9 => ?_
    have m_10 := tMin e_9
    have l_11 : (4 : Int32).toInt = 4 := rfl
    have l_12 : (-1 : Int32).toInt = -1 := rfl
    refine y_Way_weighl hok hw ra (by first | omega | (intro h; omega) | exact Or.inl rfl | exact Or.inr rfl) (by first | omega | (intro h; omega) | exact Or.inl rfl | exact Or.inr rfl) (by first | omega | (intro h; omega) | exact Or.inl rfl | exact Or.inr rfl) (by first | omega | (intro h; omega) | exact Or.inl rfl | exact Or.inr rfl) (by first | omega | (intro h; omega) | exact Or.inl rfl | exact Or.inr rfl) (by first | omega | (intro h; omega) | exact Or.inl rfl | exact Or.inr rfl) (by first | omega | (intro h; omega) | exact Or.inl rfl | exact Or.inr rfl) hq2 hR (fun I_17 L_18 hR_19 fr_20 u_14 u_15 ln_16 => ⟨I_17, L_18, rfl, rfl, ?_⟩)
    replace hl := hl.call ln_16 (fun c hc => by first | exact hc | exact False.elim hc | (dsimp only at hc ⊢; omega) | omega)
    have hf_21 : Fm (fun c => c = o ∨ c = x1 + 59 ∨ (x1 + 19 ≤ c ∧ c < x1 + 24)) I0 I_17 := hf.call fr_20 (fun c hc => by first | exact hc | (dsimp only at hc ⊢; omega) | omega)
    have g_22 : (-1 : Int) ≤ (I_17 o 6).toInt ∧ (I_17 o 6).toInt ≤ 2 := hR_19.at0 ra 6 (by decide)
    exact (hp _ _ hR_19 hf_21 (by first | omega | (intro h; omega) | exact Or.inl rfl | exact Or.inr rfl) u_15 hl)
set_option maxHeartbeats 4000000 in
set_option maxRecDepth 20000 in
theorem yWay_choose_44l {D : va_G} {cA : FieldType → ClassId} {b : Nat} {E : State → Prop} {R : qRg} {o n : Nat} {sh : Nat → qC} {Rf : Nat → Nat → Option Nat} {I0 : Nat → Nat → Int32} {L0 : Nat → Nat → Int64} {post : Option Value → qS → Prop} {x1 : Nat} {ux1_0 : Nat} {ux1_1 : Nat} {p2 : Int32} (hok : q_ok (qGG D cA b E)) (hw : WfWay (qGG D cA b E) n sh Rf o) (ra : RAWay R o) (hw1 : WfRun (qGG D cA b E) n sh Rf x1) (ra1 : RARun R x1) (hwux1_0 : WfLand (qGG D cA b E) n sh Rf ux1_0) (raux1_0 : RALand R ux1_0) (hwux1_1 : WfTrade (qGG D cA b E) n sh Rf ux1_1) (raux1_1 : RATrade R ux1_1) (hux1_0 : Rf x1 0 = some ux1_0) (hux1_1 : Rf x1 1 = some ux1_1) (hEN : qEN E) (hs0 : o = x1 + 58) (hq0 : (0 : Int) ≤ p2.toInt ∧ p2.toInt ≤ 5) (hp : ∀ (I' : Nat → Nat → Int32) (L' : Nat → Nat → Int64), RI R I' → Fm (fun c => c = o ∨ c = x1 + 59 ∨ (x1 + 19 ≤ c ∧ c < x1 + 24)) I0 I' → (WyOK I' o) → (FmL (fun c => c = o ∨ c = x1) L0 L') → post none (n, sh, Rf, I', L')) : ∀ (k : Nat) {x2 : Int32} {x3 : Int32} {I : Nat → Nat → Int32} {L : Nat → Nat → Int64}, RI R I → Fm (fun c => c = o ∨ c = x1 + 59 ∨ (x1 + 19 ≤ c ∧ c < x1 + 24)) I0 I → ((0 : Int) ≤ x2.toInt ∧ x2.toInt ≤ 5) → ((0 : Int) ≤ x3.toInt ∧ x3.toInt ≤ 3) → ((I o 0).toInt = 0) → (FmL (fun c => c = o ∨ c = x1) L0 L) → (3 - x3.toInt).toNat < k → Ev (qGG D cA b E) mWay_choose 4 (0, 0) 44 [(0, .ref o), (1, .ref x1), (2, .int x2), (3, .int x3)] [] (n, sh, Rf, I, L) post := by
  intro k
  induction k with
  | zero =>
    intro x2 x3 I L hR hf hi0 hi1 hi2 hl hm
    exact absurd hm (Nat.not_lt_zero _)
  | succ k ih =>
    intro x2 x3 I L hR hf hi0 hi1 hi2 hl hm
    have g_1 : (0 : Int) ≤ (I o 0).toInt ∧ (I o 0).toInt ≤ 4 := hR.at0 ra 0 (by decide)
    have g_2 : (-1 : Int) ≤ (I o 6).toInt ∧ (I o 6).toInt ≤ 2 := hR.at0 ra 6 (by decide)
    refine sWay_choose_44 o n sh Rf I L post x1 x2 x3 ux1_0 hok hw hw1 hux1_0 hwux1_0 ?_
    unfold fWay_choose_44
    have g_3 : (0 : Int) ≤ (I ux1_0 2).toInt ∧ (I ux1_0 2).toInt ≤ 3 := hR.at0 raux1_0 2 (by decide)
    refine ⟨fun c_4 => ?_, fun c_4 => ?_⟩
    · have d_5 := iLe c_4
      have g_6 : (-1 : Int) ≤ (I o 6).toInt ∧ (I o 6).toInt ≤ 2 := hR.at0 ra 6 (by decide)
      have l_7 : (-1 : Int32).toInt = -1 := rfl
      refine ⟨fun c_8 => ?_, fun c_8 => ?_⟩
      · have d_9 := iEq c_8
        exact (hp _ _ hR hf  (by unfold WyOK; refine ⟨fun h => ?_, fun h => ?_, fun h => ?_, fun h => ?_⟩ <;> omega) hl)
      · have d_10 := iNe c_8
        have k_11 : WyOK I o := by unfold WyOK; refine ⟨fun h => ?_, fun h => ?_, fun h => ?_, fun h => ?_⟩ <;> omega
        refine y_Way_weighCarryingl hok hw ra hw1 ra1 hwux1_0 raux1_0 hwux1_1 raux1_1 hux1_0 hux1_1 (by first | omega | (intro h; omega) | exact Or.inl rfl | exact Or.inr rfl) (by first | omega | (intro h; omega) | exact Or.inl rfl | exact Or.inr rfl) (by first | omega | (intro h; omega) | exact Or.inl rfl | exact Or.inr rfl) k_11 hR (fun I_16 L_17 hR_18 fr_19 u_13 u_14 ln_15 => ⟨I_16, L_17, rfl, rfl, ?_⟩)
        replace hl := hl.call ln_15 (fun c hc => by first | exact hc | exact False.elim hc | (dsimp only at hc ⊢; omega) | omega)
        have hf_20 : Fm (fun c => c = o ∨ c = x1 + 59 ∨ (x1 + 19 ≤ c ∧ c < x1 + 24)) I0 I_16 := hf.call fr_19 (fun c hc => by first | exact hc | (dsimp only at hc ⊢; omega) | omega)
        have g_21 : (0 : Int) ≤ (I_16 o 0).toInt ∧ (I_16 o 0).toInt ≤ 4 := hR_18.at0 ra 0 (by decide)
        have g_22 : (-1 : Int) ≤ (I_16 o 6).toInt ∧ (I_16 o 6).toInt ≤ 2 := hR_18.at0 ra 6 (by decide)
        have g_23 : (0 : Int) ≤ (I_16 ux1_0 2).toInt ∧ (I_16 ux1_0 2).toInt ≤ 3 := hR_18.at0 raux1_0 2 (by decide)
        refine y_Way_weighFarmingl hok hw ra hw1 ra1 hwux1_1 raux1_1 hwux1_0 raux1_0 hux1_1 hux1_0 (by first | omega | (intro h; omega) | exact Or.inl rfl | exact Or.inr rfl) (by first | omega | (intro h; omega) | exact Or.inl rfl | exact Or.inr rfl) (by first | omega | (intro h; omega) | exact Or.inl rfl | exact Or.inr rfl) u_14 hR_18 (fun I_28 L_29 hR_30 fr_31 u_25 u_26 ln_27 => ⟨I_28, L_29, rfl, rfl, ?_⟩)
        replace hl := hl.call ln_27 (fun c hc => by first | exact hc | exact False.elim hc | (dsimp only at hc ⊢; omega) | omega)
        have hf_32 : Fm (fun c => c = o ∨ c = x1 + 59 ∨ (x1 + 19 ≤ c ∧ c < x1 + 24)) I0 I_28 := hf_20.call fr_31 (fun c hc => by first | exact hc | (dsimp only at hc ⊢; omega) | omega)
        have g_33 : (0 : Int) ≤ (I_28 o 0).toInt ∧ (I_28 o 0).toInt ≤ 4 := hR_30.at0 ra 0 (by decide)
        have g_34 : (-1 : Int) ≤ (I_28 o 6).toInt ∧ (I_28 o 6).toInt ≤ 2 := hR_30.at0 ra 6 (by decide)
        have g_35 : (0 : Int) ≤ (I_28 ux1_0 2).toInt ∧ (I_28 ux1_0 2).toInt ≤ 3 := hR_30.at0 raux1_0 2 (by decide)
        refine y_Way_weighFoundingl hok hw ra hw1 ra1 hwux1_0 raux1_0 hwux1_1 raux1_1 hux1_0 hux1_1 (by first | omega | (intro h; omega) | exact Or.inl rfl | exact Or.inr rfl) (by first | omega | (intro h; omega) | exact Or.inl rfl | exact Or.inr rfl) (by first | omega | (intro h; omega) | exact Or.inl rfl | exact Or.inr rfl) u_26 hR_30 (fun I_40 L_41 hR_42 fr_43 u_37 u_38 ln_39 => ⟨I_40, L_41, rfl, rfl, ?_⟩)
        replace hl := hl.call ln_39 (fun c hc => by first | exact hc | exact False.elim hc | (dsimp only at hc ⊢; omega) | omega)
        have hf_44 : Fm (fun c => c = o ∨ c = x1 + 59 ∨ (x1 + 19 ≤ c ∧ c < x1 + 24)) I0 I_40 := hf_32.call fr_43 (fun c hc => by first | exact hc | (dsimp only at hc ⊢; omega) | omega)
        have g_45 : (0 : Int) ≤ (I_40 o 0).toInt ∧ (I_40 o 0).toInt ≤ 4 := hR_42.at0 ra 0 (by decide)
        have g_46 : (-1 : Int) ≤ (I_40 o 6).toInt ∧ (I_40 o 6).toInt ≤ 2 := hR_42.at0 ra 6 (by decide)
        have g_47 : (0 : Int) ≤ (I_40 ux1_0 2).toInt ∧ (I_40 ux1_0 2).toInt ≤ 3 := hR_42.at0 raux1_0 2 (by decide)
        refine y_Way_weighBuyingl hok hw ra hw1 ra1 hwux1_0 raux1_0 hwux1_1 raux1_1 hux1_0 hux1_1 (by first | omega | (intro h; omega) | exact Or.inl rfl | exact Or.inr rfl) (by first | omega | (intro h; omega) | exact Or.inl rfl | exact Or.inr rfl) (by first | omega | (intro h; omega) | exact Or.inl rfl | exact Or.inr rfl) u_38 hR_42 (fun I_52 L_53 hR_54 fr_55 u_49 u_50 ln_51 => ⟨I_52, L_53, rfl, rfl, ?_⟩)
        replace hl := hl.call ln_51 (fun c hc => by first | exact hc | exact False.elim hc | (dsimp only at hc ⊢; omega) | omega)
        have hf_56 : Fm (fun c => c = o ∨ c = x1 + 59 ∨ (x1 + 19 ≤ c ∧ c < x1 + 24)) I0 I_52 := hf_44.call fr_55 (fun c hc => by first | exact hc | (dsimp only at hc ⊢; omega) | omega)
        have g_57 : (0 : Int) ≤ (I_52 o 0).toInt ∧ (I_52 o 0).toInt ≤ 4 := hR_54.at0 ra 0 (by decide)
        have g_58 : (-1 : Int) ≤ (I_52 o 6).toInt ∧ (I_52 o 6).toInt ≤ 2 := hR_54.at0 ra 6 (by decide)
        have g_59 : (0 : Int) ≤ (I_52 ux1_0 2).toInt ∧ (I_52 ux1_0 2).toInt ≤ 3 := hR_54.at0 raux1_0 2 (by decide)
        exact (hp _ _ hR_54 hf_56  u_50 hl)
    · have d_60 := iNle c_4
      refine y_Run_townForl hok hw1 ra1 hwux1_0 raux1_0 hwux1_1 raux1_1 hux1_0 hux1_1 hEN (by first | omega | (intro h; omega) | exact Or.inl rfl | exact Or.inr rfl) hR (fun r_61 L_64 u_62 ln_63 => ⟨r_61, I, L_64, rfl, rfl, ?_⟩)
      replace hl := hl.call ln_63 (fun c hc => by first | exact hc | exact False.elim hc | (dsimp only at hc ⊢; omega) | omega)
      have l_65 : (-1 : Int32).toInt = -1 := rfl
      refine ⟨fun c_66 => ?_, fun c_66 => ?_⟩
      · have d_67 := iEq c_66
        unfold fWay_choose_89
        have a_69 : (x3 + Int32.ofInt 1).toInt = x3.toInt + (1) := tIc (by omega) (by omega) (by decide) (by decide)
        generalize ez_68 : (x3 + Int32.ofInt 1) = z_68 at a_69 ⊢
        exact ih hR hf (by first | omega | (intro h; omega) | exact Or.inl rfl | exact Or.inr rfl) (by first | omega | (intro h; omega) | exact Or.inl rfl | exact Or.inr rfl) (by first | omega | (intro h; omega) | exact Or.inl rfl | exact Or.inr rfl) hl (by omega)
      · have d_70 := iNe c_66
        have l_71 : (0 : Int32).toInt = 0 := rfl
        refine ⟨fun c_72 => ?_, fun c_72 => ?_⟩
        · have d_73 := iLe c_72
          unfold fWay_choose_89
          have a_75 : (x3 + Int32.ofInt 1).toInt = x3.toInt + (1) := tIc (by omega) (by omega) (by decide) (by decide)
          generalize ez_74 : (x3 + Int32.ofInt 1) = z_74 at a_75 ⊢
          exact ih hR hf (by first | omega | (intro h; omega) | exact Or.inl rfl | exact Or.inr rfl) (by first | omega | (intro h; omega) | exact Or.inl rfl | exact Or.inr rfl) (by first | omega | (intro h; omega) | exact Or.inl rfl | exact Or.inr rfl) hl (by omega)
        · have d_76 := iNle c_72
          refine fun I_77 e_78 => ?_
          have hR_79 : RI R I_77 := hR.up0 (k := 6) ra (by decide) (Or.inl rfl) e_78 (show (-1 : Int) ≤ x3.toInt by omega) (show x3.toInt ≤ (2 : Int) by omega)
          have hf_80 : Fm (fun c => c = o ∨ c = x1 + 59 ∨ (x1 + 19 ≤ c ∧ c < x1 + 24)) I0 I_77 := hf.set (by first | rfl | omega | (dsimp only; omega)) e_78
          have t_81 : (I_77 o 0).toInt = (I o 0).toInt := by rw [← e_78, q_u_k (by decide)]
          have t_82 : (I_77 o 6).toInt = x3.toInt := by rw [← e_78, q_u_at]
          have t_83 : (I_77 ux1_0 2).toInt = (I ux1_0 2).toInt := by rw [← e_78, q_u_ne (sh_ne_o (hwux1_0).1.2.2 (hw).1.2.2 (by decide))]
          refine fun L_84 e_85 => ?_
          replace hl := hl.set (by first | rfl | omega | (dsimp only; omega)) e_85
          unfold fWay_choose_89
          have a_87 : (x3 + Int32.ofInt 1).toInt = x3.toInt + (1) := tIc (by omega) (by omega) (by decide) (by decide)
          generalize ez_86 : (x3 + Int32.ofInt 1) = z_86 at a_87 ⊢
          exact ih hR_79 hf_80 (by first | omega | (intro h; omega) | exact Or.inl rfl | exact Or.inr rfl) (by first | omega | (intro h; omega) | exact Or.inl rfl | exact Or.inr rfl) (by first | omega | (intro h; omega) | exact Or.inl rfl | exact Or.inr rfl) hl (by omega)
set_option maxHeartbeats 4000000 in
set_option maxRecDepth 20000 in
theorem y_Way_choosel {D : va_G} {cA : FieldType → ClassId} {b : Nat} {E : State → Prop} {R : qRg} {o n : Nat} {sh : Nat → qC} {Rf : Nat → Nat → Option Nat} {I0 : Nat → Nat → Int32} {L0 : Nat → Nat → Int64} {post : Option Value → qS → Prop} {x1 : Nat} {ux1_0 : Nat} {ux1_1 : Nat} {p2 : Int32} (hok : q_ok (qGG D cA b E)) (hw : WfWay (qGG D cA b E) n sh Rf o) (ra : RAWay R o) (hw1 : WfRun (qGG D cA b E) n sh Rf x1) (ra1 : RARun R x1) (hwux1_0 : WfLand (qGG D cA b E) n sh Rf ux1_0) (raux1_0 : RALand R ux1_0) (hwux1_1 : WfTrade (qGG D cA b E) n sh Rf ux1_1) (raux1_1 : RATrade R ux1_1) (hux1_0 : Rf x1 0 = some ux1_0) (hux1_1 : Rf x1 1 = some ux1_1) (hEN : qEN E) (hs0 : o = x1 + 58) (hq0 : (0 : Int) ≤ p2.toInt ∧ p2.toInt ≤ 5) (hR : RI R I0) (hp : ∀ (I' : Nat → Nat → Int32) (L' : Nat → Nat → Int64), RI R I' → Fm (fun c => c = o ∨ c = x1 + 59 ∨ (x1 + 19 ≤ c ∧ c < x1 + 24)) I0 I' → (WyOK I' o) → (FmL (fun c => c = o ∨ c = x1) L0 L') → post none (n, sh, Rf, I', L')) : Ev (qGG D cA b E) mWay_choose 4 (0, 0) 0 (lv_args 0 [.ref o, .ref x1, .int p2]) [] (n, sh, Rf, I0, L0) post := by
  have hf : Fm (fun c => c = o ∨ c = x1 + 59 ∨ (x1 + 19 ≤ c ∧ c < x1 + 24)) I0 I0 := Fm.rf
  have g_88 : (0 : Int) ≤ (I0 o 0).toInt ∧ (I0 o 0).toInt ≤ 4 := hR.at0 ra 0 (by decide)
  have g_89 : (-1 : Int) ≤ (I0 o 6).toInt ∧ (I0 o 6).toInt ≤ 2 := hR.at0 ra 6 (by decide)
  refine sWay_choose_0 o n sh Rf I0 L0 post x1 p2 ux1_0 hok hw hw1 hux1_0 hwux1_0 ?_
  unfold fWay_choose_0
  have hl : FmL (fun c => c = o ∨ c = x1) L0 L0 := FmL.rf
  have l_90 : (0 : Int32).toInt = 0 := rfl
  refine fun I_91 e_92 => ?_
  have hR_93 : RI R I_91 := hR.up0 (k := 0) ra (by decide) (Or.inl rfl) e_92 (show (0 : Int) ≤ (0 : Int32).toInt by omega) (show (0 : Int32).toInt ≤ (4 : Int) by omega)
  have hf_94 : Fm (fun c => c = o ∨ c = x1 + 59 ∨ (x1 + 19 ≤ c ∧ c < x1 + 24)) I0 I_91 := hf.set (by first | rfl | omega | (dsimp only; omega)) e_92
  have t_95 : (I_91 o 0).toInt = (0 : Int32).toInt := by rw [← e_92, q_u_at]
  have t_96 : (I_91 o 6).toInt = (I0 o 6).toInt := by rw [← e_92, q_u_k (by decide)]
  have l_97 : (-1 : Int32).toInt = -1 := rfl
  refine fun I_98 e_99 => ?_
  have hR_100 : RI R I_98 := hR_93.up0 (k := 1) ra (by decide) (Or.inl rfl) e_99 (show (-1 : Int) ≤ ((-1) : Int32).toInt by omega) (show ((-1) : Int32).toInt ≤ (2 : Int) by omega)
  have hf_101 : Fm (fun c => c = o ∨ c = x1 + 59 ∨ (x1 + 19 ≤ c ∧ c < x1 + 24)) I0 I_98 := hf_94.set (by first | rfl | omega | (dsimp only; omega)) e_99
  have t_102 : (I_98 o 0).toInt = (I_91 o 0).toInt := by rw [← e_99, q_u_k (by decide)]
  have t_103 : (I_98 o 6).toInt = (I_91 o 6).toInt := by rw [← e_99, q_u_k (by decide)]
  have t_104 : (I_98 o 1).toInt = ((-1) : Int32).toInt := by rw [← e_99, q_u_at]
  refine fun I_105 e_106 => ?_
  have hR_107 : RI R I_105 := hR_100.up0 (k := 2) ra (by decide) (Or.inl rfl) e_106 (show (-1 : Int) ≤ ((-1) : Int32).toInt by omega) (show ((-1) : Int32).toInt ≤ (4 : Int) by omega)
  have hf_108 : Fm (fun c => c = o ∨ c = x1 + 59 ∨ (x1 + 19 ≤ c ∧ c < x1 + 24)) I0 I_105 := hf_101.set (by first | rfl | omega | (dsimp only; omega)) e_106
  have t_109 : (I_105 o 0).toInt = (I_98 o 0).toInt := by rw [← e_106, q_u_k (by decide)]
  have t_110 : (I_105 o 6).toInt = (I_98 o 6).toInt := by rw [← e_106, q_u_k (by decide)]
  have t_111 : (I_105 o 1).toInt = (I_98 o 1).toInt := by rw [← e_106, q_u_k (by decide)]
  have t_112 : (I_105 o 2).toInt = ((-1) : Int32).toInt := by rw [← e_106, q_u_at]
  refine fun I_113 e_114 => ?_
  have hR_115 : RI R I_113 := hR_107.up0 (k := 3) ra (by decide) (Or.inl rfl) e_114 (i_lo _) (i_hi _)
  have hf_116 : Fm (fun c => c = o ∨ c = x1 + 59 ∨ (x1 + 19 ≤ c ∧ c < x1 + 24)) I0 I_113 := hf_108.set (by first | rfl | omega | (dsimp only; omega)) e_114
  have t_117 : (I_113 o 0).toInt = (I_105 o 0).toInt := by rw [← e_114, q_u_k (by decide)]
  have t_118 : (I_113 o 6).toInt = (I_105 o 6).toInt := by rw [← e_114, q_u_k (by decide)]
  have t_119 : (I_113 o 1).toInt = (I_105 o 1).toInt := by rw [← e_114, q_u_k (by decide)]
  have t_120 : (I_113 o 2).toInt = (I_105 o 2).toInt := by rw [← e_114, q_u_k (by decide)]
  refine fun I_121 e_122 => ?_
  have hR_123 : RI R I_121 := hR_115.up0 (k := 4) ra (by decide) (Or.inl rfl) e_122 (i_lo _) (i_hi _)
  have hf_124 : Fm (fun c => c = o ∨ c = x1 + 59 ∨ (x1 + 19 ≤ c ∧ c < x1 + 24)) I0 I_121 := hf_116.set (by first | rfl | omega | (dsimp only; omega)) e_122
  have t_125 : (I_121 o 0).toInt = (I_113 o 0).toInt := by rw [← e_122, q_u_k (by decide)]
  have t_126 : (I_121 o 6).toInt = (I_113 o 6).toInt := by rw [← e_122, q_u_k (by decide)]
  have t_127 : (I_121 o 1).toInt = (I_113 o 1).toInt := by rw [← e_122, q_u_k (by decide)]
  have t_128 : (I_121 o 2).toInt = (I_113 o 2).toInt := by rw [← e_122, q_u_k (by decide)]
  refine fun L_129 e_130 => ?_
  replace hl := hl.set (by first | rfl | omega | (dsimp only; omega)) e_130
  refine fun I_131 e_132 => ?_
  have hR_133 : RI R I_131 := hR_123.up0 (k := 6) ra (by decide) (Or.inl rfl) e_132 (show (-1 : Int) ≤ ((-1) : Int32).toInt by omega) (show ((-1) : Int32).toInt ≤ (2 : Int) by omega)
  have hf_134 : Fm (fun c => c = o ∨ c = x1 + 59 ∨ (x1 + 19 ≤ c ∧ c < x1 + 24)) I0 I_131 := hf_124.set (by first | rfl | omega | (dsimp only; omega)) e_132
  have t_135 : (I_131 o 0).toInt = (I_121 o 0).toInt := by rw [← e_132, q_u_k (by decide)]
  have t_136 : (I_131 o 6).toInt = ((-1) : Int32).toInt := by rw [← e_132, q_u_at]
  have t_137 : (I_131 o 1).toInt = (I_121 o 1).toInt := by rw [← e_132, q_u_k (by decide)]
  have t_138 : (I_131 o 2).toInt = (I_121 o 2).toInt := by rw [← e_132, q_u_k (by decide)]
  refine fun L_139 e_140 => ?_
  replace hl := hl.set (by first | rfl | omega | (dsimp only; omega)) e_140
  exact yWay_choose_44l (I0 := I0) (L0 := L0) (p2 := p2) hok hw ra hw1 ra1 hwux1_0 raux1_0 hwux1_1 raux1_1 hux1_0 hux1_1 hEN hs0 hq0 hp  _ hR_133 hf_134 (by first | omega | (intro h; omega) | exact Or.inl rfl | exact Or.inr rfl) (by first | omega | (intro h; omega) | exact Or.inl rfl | exact Or.inr rfl) (by first | omega | (intro h; omega) | exact Or.inl rfl | exact Or.inr rfl) hl (Nat.lt_succ_self _)
