/-! Safety of Way: by program (spec.py). -/
set_option maxHeartbeats 4000000 in
set_option maxRecDepth 20000 in
theorem y_Way_affordable {D : va_G} {cA : FieldType → ClassId} {b : Nat} {E : State → Prop} {R : qRg} {n : Nat} {sh : Nat → qC} {Rf : Nat → Nat → Option Nat} {I0 : Nat → Nat → Int32} {L0 : Nat → Nat → Int64} {post : Option Value → qS → Prop} {x0 : Nat} {ux0_1 : Nat} {p1 : Int32} {p2 : Int32} (hok : q_ok (qGG D cA b E)) (hw0 : WfRun (qGG D cA b E) n sh Rf x0) (ra0 : RARun R x0) (hwux0_1 : WfTrade (qGG D cA b E) n sh Rf ux0_1) (raux0_1 : RATrade R ux0_1) (hux0_1 : Rf x0 1 = some ux0_1) (hq0 : (0 : Int) ≤ p1.toInt ∧ p1.toInt ≤ 5) (hR : RI R I0) (hp : ∀ (r : Int32) , post (some (.int r)) (n, sh, Rf, I0, L0)) : Ev (qGG D cA b E) mWay_affordable 1 (0, 0) 0 (lv_args 0 [.ref x0, .int p1, .int p2]) [] (n, sh, Rf, I0, L0) post := by
  refine sWay_affordable_0 n sh Rf I0 L0 post x0 p1 p2 ux0_1 hok hw0 hux0_1 hwux0_1 ?_
  unfold fWay_affordable_0
  have l_1 : (0 : Int32).toInt = 0 := rfl
  refine ⟨fun c_2 => ?_, fun c_2 => ?_⟩
  · have d_3 := iLt c_2
    refine ⟨tIn (by omega) (by omega), ?_⟩
    refine ⟨(tL0 (by omega)), ?_⟩
    refine fun y_4 e_5 => ?_
    exact (hp _ )
  · have d_6 := iNlt c_2
    exact (hp _ )
set_option maxHeartbeats 4000000 in
set_option maxRecDepth 20000 in
theorem y_Way_weigh {D : va_G} {cA : FieldType → ClassId} {b : Nat} {E : State → Prop} {R : qRg} {o n : Nat} {sh : Nat → qC} {Rf : Nat → Nat → Option Nat} {I0 : Nat → Nat → Int32} {L0 : Nat → Nat → Int64} {post : Option Value → qS → Prop} {p1 : Int32} {p2 : Int32} {p3 : Int32} {p4 : Int32} {p5 : Int32} {p6 : Int64} (hok : q_ok (qGG D cA b E)) (hw : WfWay (qGG D cA b E) n sh Rf o) (ra : RAWay R o) (hq0 : (1 : Int) ≤ p1.toInt ∧ p1.toInt ≤ 4) (hq1 : (-1 : Int) ≤ p2.toInt ∧ p2.toInt ≤ 2) (hq2 : (-1 : Int) ≤ p3.toInt ∧ p3.toInt ≤ 4) (hq3 : 0 ≤ (I0 o 6).toInt) (hq4 : Im (p1.toInt = 1) (0 ≤ p2.toInt ∧ 0 ≤ p3.toInt)) (hq5 : Im (p1.toInt = 2) (0 ≤ p2.toInt)) (hq6 : Im (p1.toInt = 3) (0 ≤ p2.toInt)) (hq7 : WyOK I0 o) (hR : RI R I0) (hp : ∀ (I' : Nat → Nat → Int32) (L' : Nat → Nat → Int64), RI R I' → Fm (fun c => (o ≤ c ∧ c < o + 1)) I0 I' → ((I' o 6).toInt = (I0 o 6).toInt) → (WyOK I' o) → post none (n, sh, Rf, I', L')) : Ev (qGG D cA b E) mWay_weigh 0 (0, 0) 0 (lv_args 0 [.ref o, .int p1, .int p2, .int p3, .int p4, .int p5, .long p6]) [] (n, sh, Rf, I0, L0) post := by
  have hf : Fm (fun c => (o ≤ c ∧ c < o + 1)) I0 I0 := Fm.rf
  have g_1 : (0 : Int) ≤ (I0 o 0).toInt ∧ (I0 o 0).toInt ≤ 4 := hR.at0 ra 0 (by decide)
  have g_2 : (-1 : Int) ≤ (I0 o 1).toInt ∧ (I0 o 1).toInt ≤ 2 := hR.at0 ra 1 (by decide)
  have g_3 : (-1 : Int) ≤ (I0 o 2).toInt ∧ (I0 o 2).toInt ≤ 4 := hR.at0 ra 2 (by decide)
  have g_4 : (-1 : Int) ≤ (I0 o 6).toInt ∧ (I0 o 6).toInt ≤ 2 := hR.at0 ra 6 (by decide)
  refine sWay_weigh_0 o n sh Rf I0 L0 post p1 p2 p3 p4 p5 p6 hok hw ?_
  unfold fWay_weigh_0
  have l_5 : (0 : Int32).toInt = 0 := rfl
  refine ⟨fun c_6 => ?_, fun c_6 => ?_⟩
  · have d_7 := iLe c_6
    exact (hp _ _ hR hf (by first | omega | (intro h; omega) | exact Or.inl rfl | exact Or.inr rfl) hq7)
  · have d_8 := iNle c_6
    refine ⟨fun c_9 => ?_, fun c_9 => ?_⟩
    · have d_10 := iLe c_9
      exact (hp _ _ hR hf (by first | omega | (intro h; omega) | exact Or.inl rfl | exact Or.inr rfl) hq7)
    · have d_11 := iNle c_9
      refine fun I_12 e_13 => ?_
      have hR_14 : RI R I_12 := hR.up0 (k := 0) ra (by decide) (Or.inl rfl) e_13 (show (0 : Int) ≤ p1.toInt by omega) (show p1.toInt ≤ (4 : Int) by omega)
      have hf_15 : Fm (fun c => (o ≤ c ∧ c < o + 1)) I0 I_12 := hf.set (by first | rfl | omega | (dsimp only; omega)) e_13
      have t_16 : (I_12 o 0).toInt = p1.toInt := by rw [← e_13, q_u_at]
      have t_17 : (I_12 o 1).toInt = (I0 o 1).toInt := by rw [← e_13, q_u_k (by decide)]
      have t_18 : (I_12 o 2).toInt = (I0 o 2).toInt := by rw [← e_13, q_u_k (by decide)]
      have t_19 : (I_12 o 6).toInt = (I0 o 6).toInt := by rw [← e_13, q_u_k (by decide)]
      refine fun I_21 e_22 => ?_
      have hR_23 : RI R I_21 := hR_14.up0 (k := 1) ra (by decide) (Or.inl rfl) e_22 (show (-1 : Int) ≤ p2.toInt by omega) (show p2.toInt ≤ (2 : Int) by omega)
      have hf_24 : Fm (fun c => (o ≤ c ∧ c < o + 1)) I0 I_21 := hf_15.set (by first | rfl | omega | (dsimp only; omega)) e_22
      have t_25 : (I_21 o 0).toInt = (I_12 o 0).toInt := by rw [← e_22, q_u_k (by decide)]
      have t_26 : (I_21 o 1).toInt = p2.toInt := by rw [← e_22, q_u_at]
      have t_27 : (I_21 o 2).toInt = (I_12 o 2).toInt := by rw [← e_22, q_u_k (by decide)]
      have t_28 : (I_21 o 6).toInt = (I_12 o 6).toInt := by rw [← e_22, q_u_k (by decide)]
      refine fun I_29 e_30 => ?_
      have hR_31 : RI R I_29 := hR_23.up0 (k := 2) ra (by decide) (Or.inl rfl) e_30 (show (-1 : Int) ≤ p3.toInt by omega) (show p3.toInt ≤ (4 : Int) by omega)
      have hf_32 : Fm (fun c => (o ≤ c ∧ c < o + 1)) I0 I_29 := hf_24.set (by first | rfl | omega | (dsimp only; omega)) e_30
      have t_33 : (I_29 o 0).toInt = (I_21 o 0).toInt := by rw [← e_30, q_u_k (by decide)]
      have t_34 : (I_29 o 1).toInt = (I_21 o 1).toInt := by rw [← e_30, q_u_k (by decide)]
      have t_35 : (I_29 o 2).toInt = p3.toInt := by rw [← e_30, q_u_at]
      have t_36 : (I_29 o 6).toInt = (I_21 o 6).toInt := by rw [← e_30, q_u_k (by decide)]
      refine fun I_37 e_38 => ?_
      have hR_39 : RI R I_37 := hR_31.up0 (k := 3) ra (by decide) (Or.inl rfl) e_38 (i_lo _) (i_hi _)
      have hf_40 : Fm (fun c => (o ≤ c ∧ c < o + 1)) I0 I_37 := hf_32.set (by first | rfl | omega | (dsimp only; omega)) e_38
      have t_41 : (I_37 o 0).toInt = (I_29 o 0).toInt := by rw [← e_38, q_u_k (by decide)]
      have t_42 : (I_37 o 1).toInt = (I_29 o 1).toInt := by rw [← e_38, q_u_k (by decide)]
      have t_43 : (I_37 o 2).toInt = (I_29 o 2).toInt := by rw [← e_38, q_u_k (by decide)]
      have t_44 : (I_37 o 6).toInt = (I_29 o 6).toInt := by rw [← e_38, q_u_k (by decide)]
      refine fun I_45 e_46 => ?_
      have hR_47 : RI R I_45 := hR_39.up0 (k := 4) ra (by decide) (Or.inl rfl) e_46 (i_lo _) (i_hi _)
      have hf_48 : Fm (fun c => (o ≤ c ∧ c < o + 1)) I0 I_45 := hf_40.set (by first | rfl | omega | (dsimp only; omega)) e_46
      have t_49 : (I_45 o 0).toInt = (I_37 o 0).toInt := by rw [← e_46, q_u_k (by decide)]
      have t_50 : (I_45 o 1).toInt = (I_37 o 1).toInt := by rw [← e_46, q_u_k (by decide)]
      have t_51 : (I_45 o 2).toInt = (I_37 o 2).toInt := by rw [← e_46, q_u_k (by decide)]
      have t_52 : (I_45 o 6).toInt = (I_37 o 6).toInt := by rw [← e_46, q_u_k (by decide)]
      refine fun L_53 e_54 => ?_
      exact (hp _ _ hR_47 hf_48 (by first | omega | (intro h; omega) | exact Or.inl rfl | exact Or.inr rfl) (by have a1 : p1.toInt = 1 → 0 ≤ p2.toInt ∧ 0 ≤ p3.toInt := hq4; have a2 : p1.toInt = 2 → 0 ≤ p2.toInt := hq5; have a3 : p1.toInt = 3 → 0 ≤ p2.toInt := hq6; unfold WyOK; refine ⟨fun h => ?_, fun h => ?_, fun h => ?_, fun h => ?_⟩ <;> omega))
set_option maxHeartbeats 4000000 in
set_option maxRecDepth 20000 in
theorem yWay_weighCarrying_16 {D : va_G} {cA : FieldType → ClassId} {b : Nat} {E : State → Prop} {R : qRg} {o n : Nat} {sh : Nat → qC} {Rf : Nat → Nat → Option Nat} {I0 : Nat → Nat → Int32} {L0 : Nat → Nat → Int64} {post : Option Value → qS → Prop} {x1 : Nat} {ux1_0 : Nat} {ux1_1 : Nat} {p2 : Int32} (hok : q_ok (qGG D cA b E)) (hw : WfWay (qGG D cA b E) n sh Rf o) (ra : RAWay R o) (hw1 : WfRun (qGG D cA b E) n sh Rf x1) (ra1 : RARun R x1) (hwux1_0 : WfLand (qGG D cA b E) n sh Rf ux1_0) (raux1_0 : RALand R ux1_0) (hwux1_1 : WfTrade (qGG D cA b E) n sh Rf ux1_1) (raux1_1 : RATrade R ux1_1) (hux1_0 : Rf x1 0 = some ux1_0) (hux1_1 : Rf x1 1 = some ux1_1) (hs0 : o = x1 + 58) (hq0 : (0 : Int) ≤ p2.toInt ∧ p2.toInt ≤ 5) (hq1 : 0 ≤ (I0 o 6).toInt) (hq2 : WyOK I0 o) (hp : ∀ (I' : Nat → Nat → Int32) (L' : Nat → Nat → Int64), RI R I' → Fm (fun c => c = o ∨ c = x1 + 59 ∨ (x1 + 19 ≤ c ∧ c < x1 + 24)) I0 I' → ((I' o 6).toInt = (I0 o 6).toInt) → (WyOK I' o) → post none (n, sh, Rf, I', L')) {k2 : Nat} (ho2 : ∀ {x2 : Int32} {x3 : Int32} {I : Nat → Nat → Int32} {L : Nat → Nat → Int64}, RI R I → Fm (fun c => c = o ∨ c = x1 + 59 ∨ (x1 + 19 ≤ c ∧ c < x1 + 24)) I0 I → ((0 : Int) ≤ x2.toInt ∧ x2.toInt ≤ 5) → ((0 : Int) ≤ x3.toInt ∧ x3.toInt ≤ 3) → (0 ≤ (I o 6).toInt) → ((I o 6).toInt = (I0 o 6).toInt) → (WyOK I o) → (3 - x3.toInt).toNat < k2 → Ev (qGG D cA b E) mWay_weighCarrying 3 (0, 0) 2 [(0, .ref o), (1, .ref x1), (2, .int x2), (3, .int x3)] [] (n, sh, Rf, I, L) post) : ∀ (k : Nat) {x2 : Int32} {x3 : Int32} {x4 : Int32} {I : Nat → Nat → Int32} {L : Nat → Nat → Int64}, RI R I → Fm (fun c => c = o ∨ c = x1 + 59 ∨ (x1 + 19 ≤ c ∧ c < x1 + 24)) I0 I → ((0 : Int) ≤ x2.toInt ∧ x2.toInt ≤ 5) → ((0 : Int) ≤ x3.toInt ∧ x3.toInt ≤ 2) → ((0 : Int) ≤ x4.toInt ∧ x4.toInt ≤ 5) → (0 ≤ (I o 6).toInt) → ((I o 6).toInt = (I0 o 6).toInt) → ((3 - x3.toInt).toNat < k2 + 1) → (WyOK I o) → (5 - x4.toInt).toNat < k → Ev (qGG D cA b E) mWay_weighCarrying 3 (0, 0) 16 [(0, .ref o), (1, .ref x1), (2, .int x2), (3, .int x3), (4, .int x4)] [] (n, sh, Rf, I, L) post := by
  intro k
  induction k with
  | zero =>
    intro x2 x3 x4 I L hR hf hi0 hi1 hi2 hi3 hi4 hi5 hi6 hm
    exact absurd hm (Nat.not_lt_zero _)
  | succ k ih =>
    intro x2 x3 x4 I L hR hf hi0 hi1 hi2 hi3 hi4 hi5 hi6 hm
    have g_1 : (-1 : Int) ≤ (I o 6).toInt ∧ (I o 6).toInt ≤ 2 := hR.at0 ra 6 (by decide)
    refine sWay_weighCarrying_16 o n sh Rf I L post x1 x2 x3 x4 ux1_0 hok hw hw1 hux1_0 hwux1_0 ?_
    unfold fWay_weighCarrying_16
    have g_2 : (0 : Int) ≤ (I ux1_0 3).toInt ∧ (I ux1_0 3).toInt ≤ 5 := hR.at0 raux1_0 3 (by decide)
    refine ⟨fun c_3 => ?_, fun c_3 => ?_⟩
    · have d_4 := iLe c_3
      have a_6 : (x3 + Int32.ofInt 1).toInt = x3.toInt + (1) := tIc (by omega) (by omega) (by decide) (by decide)
      generalize ez_5 : (x3 + Int32.ofInt 1) = z_5 at a_6 ⊢
      exact ho2 hR hf (by first | omega | (intro h; omega) | exact Or.inl rfl | exact Or.inr rfl) (by first | omega | (intro h; omega) | exact Or.inl rfl | exact Or.inr rfl) (by first | omega | (intro h; omega) | exact Or.inl rfl | exact Or.inr rfl) (by first | omega | (intro h; omega) | exact Or.inl rfl | exact Or.inr rfl) hi6 (by omega)
    · have d_7 := iNle c_3
      refine ⟨tIn (by omega) (by omega), ?_⟩
      refine ⟨tIn (by omega) (by omega), ?_⟩
      refine y_Land_daysBetween hok hwux1_0 raux1_0 hR (fun r_8  => ⟨r_8, I, L, rfl, rfl, ?_⟩)
      refine y_Run_carryingCost hok hw1 ra1 hwux1_0 raux1_0 hwux1_1 raux1_1 hux1_0 hux1_1 (by first | omega | (intro h; omega) | exact Or.inl rfl | exact Or.inr rfl) hR (fun r_9  => ⟨r_9, I, L, rfl, rfl, ?_⟩)
      refine y_Way_affordable hok hw1 ra1 hwux1_1 raux1_1 hux1_1 (by first | omega | (intro h; omega) | exact Or.inl rfl | exact Or.inr rfl) hR (fun r_10  => ⟨r_10, I, L, rfl, rfl, ?_⟩)
      refine ⟨tIn (by omega) (by omega), ?_⟩
      refine fun y_11 e_12 => ?_
      have m_13 := tMin e_12
      have l_14 : (-1 : Int32).toInt = -1 := rfl
      refine ⟨fun c_15 => ?_, fun c_15 => ?_⟩
      · have d_16 := iEq c_15
        unfold fWay_weighCarrying_142
        have a_18 : (x4 + Int32.ofInt 1).toInt = x4.toInt + (1) := tIc (by omega) (by omega) (by decide) (by decide)
        generalize ez_17 : (x4 + Int32.ofInt 1) = z_17 at a_18 ⊢
        exact ih hR hf (by first | omega | (intro h; omega) | exact Or.inl rfl | exact Or.inr rfl) (by first | omega | (intro h; omega) | exact Or.inl rfl | exact Or.inr rfl) (by first | omega | (intro h; omega) | exact Or.inl rfl | exact Or.inr rfl) (by first | omega | (intro h; omega) | exact Or.inl rfl | exact Or.inr rfl) (by first | omega | (intro h; omega) | exact Or.inl rfl | exact Or.inr rfl) (by first | omega | (intro h; omega) | exact Or.inl rfl | exact Or.inr rfl) hi6 (by omega)
      · have d_19 := iNe c_15
        have l_20 : (0 : Int32).toInt = 0 := rfl
        refine ⟨fun c_21 => ?_, fun c_21 => ?_⟩
        · have d_22 := iLe c_21
          unfold fWay_weighCarrying_142
          have a_24 : (x4 + Int32.ofInt 1).toInt = x4.toInt + (1) := tIc (by omega) (by omega) (by decide) (by decide)
          generalize ez_23 : (x4 + Int32.ofInt 1) = z_23 at a_24 ⊢
          exact ih hR hf (by first | omega | (intro h; omega) | exact Or.inl rfl | exact Or.inr rfl) (by first | omega | (intro h; omega) | exact Or.inl rfl | exact Or.inr rfl) (by first | omega | (intro h; omega) | exact Or.inl rfl | exact Or.inr rfl) (by first | omega | (intro h; omega) | exact Or.inl rfl | exact Or.inr rfl) (by first | omega | (intro h; omega) | exact Or.inl rfl | exact Or.inr rfl) (by first | omega | (intro h; omega) | exact Or.inl rfl | exact Or.inr rfl) hi6 (by omega)
        · have d_25 := iNle c_21
          refine y_Run_rateAt hok hw1 ra1 hwux1_0 raux1_0 hwux1_1 raux1_1 hux1_0 hux1_1 (by first | omega | (intro h; omega) | exact Or.inl rfl | exact Or.inr rfl) hR (fun r_26 I_27 L_28 hR_29 fr_30  => ⟨r_26, I_27, L_28, rfl, rfl, ?_⟩)
          have hf_31 : Fm (fun c => c = o ∨ c = x1 + 59 ∨ (x1 + 19 ≤ c ∧ c < x1 + 24)) I0 I_27 := hf.call fr_30 (fun c hc => by first | exact hc | (dsimp only at hc ⊢; omega) | omega)
          have t_32 : (I_27 o 6).toInt = (I o 6).toInt := by rw [fr_30 o (by first | omega | (dsimp only; omega))]
          have g_33 : (0 : Int) ≤ (I_27 ux1_0 3).toInt ∧ (I_27 ux1_0 3).toInt ≤ 5 := hR_29.at0 raux1_0 3 (by decide)
          have k_34 : WyOK I_27 o := hi6.fr (by rw [fr_30 o (by first | omega | (dsimp only; omega))]) (by rw [fr_30 o (by first | omega | (dsimp only; omega))]) (by rw [fr_30 o (by first | omega | (dsimp only; omega))]) (by rw [fr_30 o (by first | omega | (dsimp only; omega))])
          have l_35 : (1 : Int32).toInt = 1 := rfl
          refine y_Way_weigh hok hw ra (by first | omega | (intro h; omega) | exact Or.inl rfl | exact Or.inr rfl) (by first | omega | (intro h; omega) | exact Or.inl rfl | exact Or.inr rfl) (by first | omega | (intro h; omega) | exact Or.inl rfl | exact Or.inr rfl) (by first | omega | (intro h; omega) | exact Or.inl rfl | exact Or.inr rfl) (by first | omega | (intro h; omega) | exact Or.inl rfl | exact Or.inr rfl) (by first | omega | (intro h; omega) | exact Or.inl rfl | exact Or.inr rfl) (by first | omega | (intro h; omega) | exact Or.inl rfl | exact Or.inr rfl) k_34 hR_29 (fun I_39 L_40 hR_41 fr_42 u_37 u_38 => ⟨I_39, L_40, rfl, rfl, ?_⟩)
          have hf_43 : Fm (fun c => c = o ∨ c = x1 + 59 ∨ (x1 + 19 ≤ c ∧ c < x1 + 24)) I0 I_39 := hf_31.call fr_42 (fun c hc => by first | exact hc | (dsimp only at hc ⊢; omega) | omega)
          have g_44 : (-1 : Int) ≤ (I_39 o 6).toInt ∧ (I_39 o 6).toInt ≤ 2 := hR_41.at0 ra 6 (by decide)
          have g_45 : (0 : Int) ≤ (I_39 ux1_0 3).toInt ∧ (I_39 ux1_0 3).toInt ≤ 5 := hR_41.at0 raux1_0 3 (by decide)
          unfold fWay_weighCarrying_142
          have a_47 : (x4 + Int32.ofInt 1).toInt = x4.toInt + (1) := tIc (by omega) (by omega) (by decide) (by decide)
          generalize ez_46 : (x4 + Int32.ofInt 1) = z_46 at a_47 ⊢
          exact ih hR_41 hf_43 (by first | omega | (intro h; omega) | exact Or.inl rfl | exact Or.inr rfl) (by first | omega | (intro h; omega) | exact Or.inl rfl | exact Or.inr rfl) (by first | omega | (intro h; omega) | exact Or.inl rfl | exact Or.inr rfl) (by first | omega | (intro h; omega) | exact Or.inl rfl | exact Or.inr rfl) (by first | omega | (intro h; omega) | exact Or.inl rfl | exact Or.inr rfl) (by first | omega | (intro h; omega) | exact Or.inl rfl | exact Or.inr rfl) u_38 (by omega)
set_option maxHeartbeats 4000000 in
set_option maxRecDepth 20000 in
theorem yWay_weighCarrying_2 {D : va_G} {cA : FieldType → ClassId} {b : Nat} {E : State → Prop} {R : qRg} {o n : Nat} {sh : Nat → qC} {Rf : Nat → Nat → Option Nat} {I0 : Nat → Nat → Int32} {L0 : Nat → Nat → Int64} {post : Option Value → qS → Prop} {x1 : Nat} {ux1_0 : Nat} {ux1_1 : Nat} {p2 : Int32} (hok : q_ok (qGG D cA b E)) (hw : WfWay (qGG D cA b E) n sh Rf o) (ra : RAWay R o) (hw1 : WfRun (qGG D cA b E) n sh Rf x1) (ra1 : RARun R x1) (hwux1_0 : WfLand (qGG D cA b E) n sh Rf ux1_0) (raux1_0 : RALand R ux1_0) (hwux1_1 : WfTrade (qGG D cA b E) n sh Rf ux1_1) (raux1_1 : RATrade R ux1_1) (hux1_0 : Rf x1 0 = some ux1_0) (hux1_1 : Rf x1 1 = some ux1_1) (hs0 : o = x1 + 58) (hq0 : (0 : Int) ≤ p2.toInt ∧ p2.toInt ≤ 5) (hq1 : 0 ≤ (I0 o 6).toInt) (hq2 : WyOK I0 o) (hp : ∀ (I' : Nat → Nat → Int32) (L' : Nat → Nat → Int64), RI R I' → Fm (fun c => c = o ∨ c = x1 + 59 ∨ (x1 + 19 ≤ c ∧ c < x1 + 24)) I0 I' → ((I' o 6).toInt = (I0 o 6).toInt) → (WyOK I' o) → post none (n, sh, Rf, I', L')) : ∀ (k : Nat) {x2 : Int32} {x3 : Int32} {I : Nat → Nat → Int32} {L : Nat → Nat → Int64}, RI R I → Fm (fun c => c = o ∨ c = x1 + 59 ∨ (x1 + 19 ≤ c ∧ c < x1 + 24)) I0 I → ((0 : Int) ≤ x2.toInt ∧ x2.toInt ≤ 5) → ((0 : Int) ≤ x3.toInt ∧ x3.toInt ≤ 3) → (0 ≤ (I o 6).toInt) → ((I o 6).toInt = (I0 o 6).toInt) → (WyOK I o) → (3 - x3.toInt).toNat < k → Ev (qGG D cA b E) mWay_weighCarrying 3 (0, 0) 2 [(0, .ref o), (1, .ref x1), (2, .int x2), (3, .int x3)] [] (n, sh, Rf, I, L) post := by
  intro k
  induction k with
  | zero =>
    intro x2 x3 I L hR hf hi0 hi1 hi2 hi3 hi4 hm
    exact absurd hm (Nat.not_lt_zero _)
  | succ k ih =>
    intro x2 x3 I L hR hf hi0 hi1 hi2 hi3 hi4 hm
    have g_48 : (-1 : Int) ≤ (I o 6).toInt ∧ (I o 6).toInt ≤ 2 := hR.at0 ra 6 (by decide)
    refine sWay_weighCarrying_2 o n sh Rf I L post x1 x2 x3 ux1_0 hok hw hw1 hux1_0 hwux1_0 ?_
    unfold fWay_weighCarrying_2
    have g_49 : (0 : Int) ≤ (I ux1_0 1).toInt ∧ (I ux1_0 1).toInt ≤ 3 := hR.at0 raux1_0 1 (by decide)
    refine ⟨fun c_50 => ?_, fun c_50 => ?_⟩
    · have d_51 := iLe c_50
      exact (hp _ _ hR hf (by first | omega | (intro h; omega) | exact Or.inl rfl | exact Or.inr rfl) hi4)
    · have d_52 := iNle c_50
      have l_53 : (0 : Int32).toInt = 0 := rfl
      exact yWay_weighCarrying_16 (I0 := I0) (L0 := L0) (p2 := p2) hok hw ra hw1 ra1 hwux1_0 raux1_0 hwux1_1 raux1_1 hux1_0 hux1_1 hs0 hq0 hq1 hq2 hp ih _ hR hf (by first | omega | (intro h; omega) | exact Or.inl rfl | exact Or.inr rfl) (by first | omega | (intro h; omega) | exact Or.inl rfl | exact Or.inr rfl) (by first | omega | (intro h; omega) | exact Or.inl rfl | exact Or.inr rfl) (by first | omega | (intro h; omega) | exact Or.inl rfl | exact Or.inr rfl) (by first | omega | (intro h; omega) | exact Or.inl rfl | exact Or.inr rfl) (by first | omega | (intro h; omega) | exact Or.inl rfl | exact Or.inr rfl) hi4 (Nat.lt_succ_self _)
set_option maxHeartbeats 4000000 in
set_option maxRecDepth 20000 in
theorem y_Way_weighCarrying {D : va_G} {cA : FieldType → ClassId} {b : Nat} {E : State → Prop} {R : qRg} {o n : Nat} {sh : Nat → qC} {Rf : Nat → Nat → Option Nat} {I0 : Nat → Nat → Int32} {L0 : Nat → Nat → Int64} {post : Option Value → qS → Prop} {x1 : Nat} {ux1_0 : Nat} {ux1_1 : Nat} {p2 : Int32} (hok : q_ok (qGG D cA b E)) (hw : WfWay (qGG D cA b E) n sh Rf o) (ra : RAWay R o) (hw1 : WfRun (qGG D cA b E) n sh Rf x1) (ra1 : RARun R x1) (hwux1_0 : WfLand (qGG D cA b E) n sh Rf ux1_0) (raux1_0 : RALand R ux1_0) (hwux1_1 : WfTrade (qGG D cA b E) n sh Rf ux1_1) (raux1_1 : RATrade R ux1_1) (hux1_0 : Rf x1 0 = some ux1_0) (hux1_1 : Rf x1 1 = some ux1_1) (hs0 : o = x1 + 58) (hq0 : (0 : Int) ≤ p2.toInt ∧ p2.toInt ≤ 5) (hq1 : 0 ≤ (I0 o 6).toInt) (hq2 : WyOK I0 o) (hR : RI R I0) (hp : ∀ (I' : Nat → Nat → Int32) (L' : Nat → Nat → Int64), RI R I' → Fm (fun c => c = o ∨ c = x1 + 59 ∨ (x1 + 19 ≤ c ∧ c < x1 + 24)) I0 I' → ((I' o 6).toInt = (I0 o 6).toInt) → (WyOK I' o) → post none (n, sh, Rf, I', L')) : Ev (qGG D cA b E) mWay_weighCarrying 3 (0, 0) 0 (lv_args 0 [.ref o, .ref x1, .int p2]) [] (n, sh, Rf, I0, L0) post := by
  have hf : Fm (fun c => c = o ∨ c = x1 + 59 ∨ (x1 + 19 ≤ c ∧ c < x1 + 24)) I0 I0 := Fm.rf
  have g_54 : (-1 : Int) ≤ (I0 o 6).toInt ∧ (I0 o 6).toInt ≤ 2 := hR.at0 ra 6 (by decide)
  refine sWay_weighCarrying_0 o n sh Rf I0 L0 post x1 p2 ux1_0 hok hw hw1 hux1_0 hwux1_0 ?_
  unfold fWay_weighCarrying_0
  have l_55 : (0 : Int32).toInt = 0 := rfl
  exact yWay_weighCarrying_2 (I0 := I0) (L0 := L0) (p2 := p2) hok hw ra hw1 ra1 hwux1_0 raux1_0 hwux1_1 raux1_1 hux1_0 hux1_1 hs0 hq0 hq1 hq2 hp  _ hR hf (by first | omega | (intro h; omega) | exact Or.inl rfl | exact Or.inr rfl) (by first | omega | (intro h; omega) | exact Or.inl rfl | exact Or.inr rfl) (by first | omega | (intro h; omega) | exact Or.inl rfl | exact Or.inr rfl) (by first | omega | (intro h; omega) | exact Or.inl rfl | exact Or.inr rfl) hq2 (Nat.lt_succ_self _)
set_option maxHeartbeats 4000000 in
set_option maxRecDepth 20000 in
theorem yWay_weighFarming_19 {D : va_G} {cA : FieldType → ClassId} {b : Nat} {E : State → Prop} {R : qRg} {o n : Nat} {sh : Nat → qC} {Rf : Nat → Nat → Option Nat} {I0 : Nat → Nat → Int32} {L0 : Nat → Nat → Int64} {post : Option Value → qS → Prop} {x1 : Nat} {ux1_1 : Nat} {ux1_0 : Nat} {p2 : Int32} (hok : q_ok (qGG D cA b E)) (hw : WfWay (qGG D cA b E) n sh Rf o) (ra : RAWay R o) (hw1 : WfRun (qGG D cA b E) n sh Rf x1) (ra1 : RARun R x1) (hwux1_1 : WfTrade (qGG D cA b E) n sh Rf ux1_1) (raux1_1 : RATrade R ux1_1) (hwux1_0 : WfLand (qGG D cA b E) n sh Rf ux1_0) (raux1_0 : RALand R ux1_0) (hux1_1 : Rf x1 1 = some ux1_1) (hux1_0 : Rf x1 0 = some ux1_0) (hs0 : o = x1 + 58) (hq0 : (0 : Int) ≤ p2.toInt ∧ p2.toInt ≤ 5) (hq1 : 0 ≤ (I0 o 6).toInt) (hq2 : WyOK I0 o) (hp : ∀ (I' : Nat → Nat → Int32) (L' : Nat → Nat → Int64), RI R I' → Fm (fun c => c = o ∨ c = x1 + 59 ∨ (x1 + 19 ≤ c ∧ c < x1 + 24)) I0 I' → ((I' o 6).toInt = (I0 o 6).toInt) → (WyOK I' o) → post none (n, sh, Rf, I', L')) : ∀ (k : Nat) {x2 : Int32} {x3 : Int32} {x4 : Int32} {x5 : Int32} {I : Nat → Nat → Int32} {L : Nat → Nat → Int64}, RI R I → Fm (fun c => c = o ∨ c = x1 + 59 ∨ (x1 + 19 ≤ c ∧ c < x1 + 24)) I0 I → ((0 : Int) ≤ x2.toInt ∧ x2.toInt ≤ 5) → ((0 : Int) ≤ x5.toInt ∧ x5.toInt ≤ 3) → (0 ≤ (I o 6).toInt) → ((I o 6).toInt = (I0 o 6).toInt) → (WyOK I o) → (3 - x5.toInt).toNat < k → Ev (qGG D cA b E) mWay_weighFarming 3 (0, 0) 19 [(0, .ref o), (1, .ref x1), (2, .int x2), (3, .int x3), (4, .int x4), (5, .int x5)] [] (n, sh, Rf, I, L) post := by
  intro k
  induction k with
  | zero =>
    intro x2 x3 x4 x5 I L hR hf hi0 hi1 hi2 hi3 hi4 hm
    exact absurd hm (Nat.not_lt_zero _)
  | succ k ih =>
    intro x2 x3 x4 x5 I L hR hf hi0 hi1 hi2 hi3 hi4 hm
    have g_1 : (-1 : Int) ≤ (I o 6).toInt ∧ (I o 6).toInt ≤ 2 := hR.at0 ra 6 (by decide)
    refine sWay_weighFarming_19 o n sh Rf I L post x1 x2 x3 x4 x5 ux1_1 ux1_0 hok hw hw1 hux1_1 hwux1_1 hux1_0 hwux1_0 ?_
    unfold fWay_weighFarming_19
    have g_2 : (0 : Int) ≤ (I ux1_0 1).toInt ∧ (I ux1_0 1).toInt ≤ 3 := hR.at0 raux1_0 1 (by decide)
    refine ⟨fun c_3 => ?_, fun c_3 => ?_⟩
    · have d_4 := iLe c_3
      exact (hp _ _ hR hf (by first | omega | (intro h; omega) | exact Or.inl rfl | exact Or.inr rfl) hi4)
    · have d_5 := iNle c_3
      refine y_Run_hasRipeFarm hok hw1 ra1 (by first | omega | (intro h; omega) | exact Or.inl rfl | exact Or.inr rfl) (by first | omega | (intro h; omega) | exact Or.inl rfl | exact Or.inr rfl) hR (fun r_6 u_7 => ⟨r_6, I, L, rfl, rfl, ?_⟩)
      have b_8 : 0 ≤ r_6.toInt ∧ r_6.toInt ≤ 1 := u_7.rg
      have l_9 : (0 : Int32).toInt = 0 := rfl
      refine ⟨fun c_10 => ?_, fun c_10 => ?_⟩
      · have d_11 := iEq c_10
        unfold fWay_weighFarming_85
        have a_13 : (x5 + Int32.ofInt 1).toInt = x5.toInt + (1) := tIc (by omega) (by omega) (by decide) (by decide)
        generalize ez_12 : (x5 + Int32.ofInt 1) = z_12 at a_13 ⊢
        exact ih hR hf (by first | omega | (intro h; omega) | exact Or.inl rfl | exact Or.inr rfl) (by first | omega | (intro h; omega) | exact Or.inl rfl | exact Or.inr rfl) (by first | omega | (intro h; omega) | exact Or.inl rfl | exact Or.inr rfl) (by first | omega | (intro h; omega) | exact Or.inl rfl | exact Or.inr rfl) hi4 (by omega)
      · have d_14 := iNe c_10
        refine ⟨fun c_15 => ?_, fun c_15 => ?_⟩
        · have d_16 := iLe c_15
          unfold fWay_weighFarming_85
          have a_18 : (x5 + Int32.ofInt 1).toInt = x5.toInt + (1) := tIc (by omega) (by omega) (by decide) (by decide)
          generalize ez_17 : (x5 + Int32.ofInt 1) = z_17 at a_18 ⊢
          exact ih hR hf (by first | omega | (intro h; omega) | exact Or.inl rfl | exact Or.inr rfl) (by first | omega | (intro h; omega) | exact Or.inl rfl | exact Or.inr rfl) (by first | omega | (intro h; omega) | exact Or.inl rfl | exact Or.inr rfl) (by first | omega | (intro h; omega) | exact Or.inl rfl | exact Or.inr rfl) hi4 (by omega)
        · have d_19 := iNle c_15
          refine y_Run_rateAt hok hw1 ra1 hwux1_0 raux1_0 hwux1_1 raux1_1 hux1_0 hux1_1 (by first | omega | (intro h; omega) | exact Or.inl rfl | exact Or.inr rfl) hR (fun r_20 I_21 L_22 hR_23 fr_24  => ⟨r_20, I_21, L_22, rfl, rfl, ?_⟩)
          have hf_25 : Fm (fun c => c = o ∨ c = x1 + 59 ∨ (x1 + 19 ≤ c ∧ c < x1 + 24)) I0 I_21 := hf.call fr_24 (fun c hc => by first | exact hc | (dsimp only at hc ⊢; omega) | omega)
          have t_26 : (I_21 o 6).toInt = (I o 6).toInt := by rw [fr_24 o (by first | omega | (dsimp only; omega))]
          have g_27 : (0 : Int) ≤ (I_21 ux1_0 1).toInt ∧ (I_21 ux1_0 1).toInt ≤ 3 := hR_23.at0 raux1_0 1 (by decide)
          have k_28 : WyOK I_21 o := hi4.fr (by rw [fr_24 o (by first | omega | (dsimp only; omega))]) (by rw [fr_24 o (by first | omega | (dsimp only; omega))]) (by rw [fr_24 o (by first | omega | (dsimp only; omega))]) (by rw [fr_24 o (by first | omega | (dsimp only; omega))])
          have l_29 : (2 : Int32).toInt = 2 := rfl
          have l_30 : (-1 : Int32).toInt = -1 := rfl
          refine y_Way_weigh hok hw ra (by first | omega | (intro h; omega) | exact Or.inl rfl | exact Or.inr rfl) (by first | omega | (intro h; omega) | exact Or.inl rfl | exact Or.inr rfl) (by first | omega | (intro h; omega) | exact Or.inl rfl | exact Or.inr rfl) (by first | omega | (intro h; omega) | exact Or.inl rfl | exact Or.inr rfl) (by first | omega | (intro h; omega) | exact Or.inl rfl | exact Or.inr rfl) (by first | omega | (intro h; omega) | exact Or.inl rfl | exact Or.inr rfl) (by first | omega | (intro h; omega) | exact Or.inl rfl | exact Or.inr rfl) k_28 hR_23 (fun I_34 L_35 hR_36 fr_37 u_32 u_33 => ⟨I_34, L_35, rfl, rfl, ?_⟩)
          have hf_38 : Fm (fun c => c = o ∨ c = x1 + 59 ∨ (x1 + 19 ≤ c ∧ c < x1 + 24)) I0 I_34 := hf_25.call fr_37 (fun c hc => by first | exact hc | (dsimp only at hc ⊢; omega) | omega)
          have g_39 : (-1 : Int) ≤ (I_34 o 6).toInt ∧ (I_34 o 6).toInt ≤ 2 := hR_36.at0 ra 6 (by decide)
          have g_40 : (0 : Int) ≤ (I_34 ux1_0 1).toInt ∧ (I_34 ux1_0 1).toInt ≤ 3 := hR_36.at0 raux1_0 1 (by decide)
          unfold fWay_weighFarming_85
          have a_42 : (x5 + Int32.ofInt 1).toInt = x5.toInt + (1) := tIc (by omega) (by omega) (by decide) (by decide)
          generalize ez_41 : (x5 + Int32.ofInt 1) = z_41 at a_42 ⊢
          exact ih hR_36 hf_38 (by first | omega | (intro h; omega) | exact Or.inl rfl | exact Or.inr rfl) (by first | omega | (intro h; omega) | exact Or.inl rfl | exact Or.inr rfl) (by first | omega | (intro h; omega) | exact Or.inl rfl | exact Or.inr rfl) (by first | omega | (intro h; omega) | exact Or.inl rfl | exact Or.inr rfl) u_33 (by omega)
set_option maxHeartbeats 4000000 in
set_option maxRecDepth 20000 in
theorem y_Way_weighFarming {D : va_G} {cA : FieldType → ClassId} {b : Nat} {E : State → Prop} {R : qRg} {o n : Nat} {sh : Nat → qC} {Rf : Nat → Nat → Option Nat} {I0 : Nat → Nat → Int32} {L0 : Nat → Nat → Int64} {post : Option Value → qS → Prop} {x1 : Nat} {ux1_1 : Nat} {ux1_0 : Nat} {p2 : Int32} (hok : q_ok (qGG D cA b E)) (hw : WfWay (qGG D cA b E) n sh Rf o) (ra : RAWay R o) (hw1 : WfRun (qGG D cA b E) n sh Rf x1) (ra1 : RARun R x1) (hwux1_1 : WfTrade (qGG D cA b E) n sh Rf ux1_1) (raux1_1 : RATrade R ux1_1) (hwux1_0 : WfLand (qGG D cA b E) n sh Rf ux1_0) (raux1_0 : RALand R ux1_0) (hux1_1 : Rf x1 1 = some ux1_1) (hux1_0 : Rf x1 0 = some ux1_0) (hs0 : o = x1 + 58) (hq0 : (0 : Int) ≤ p2.toInt ∧ p2.toInt ≤ 5) (hq1 : 0 ≤ (I0 o 6).toInt) (hq2 : WyOK I0 o) (hR : RI R I0) (hp : ∀ (I' : Nat → Nat → Int32) (L' : Nat → Nat → Int64), RI R I' → Fm (fun c => c = o ∨ c = x1 + 59 ∨ (x1 + 19 ≤ c ∧ c < x1 + 24)) I0 I' → ((I' o 6).toInt = (I0 o 6).toInt) → (WyOK I' o) → post none (n, sh, Rf, I', L')) : Ev (qGG D cA b E) mWay_weighFarming 3 (0, 0) 0 (lv_args 0 [.ref o, .ref x1, .int p2]) [] (n, sh, Rf, I0, L0) post := by
  have hf : Fm (fun c => c = o ∨ c = x1 + 59 ∨ (x1 + 19 ≤ c ∧ c < x1 + 24)) I0 I0 := Fm.rf
  have g_43 : (-1 : Int) ≤ (I0 o 6).toInt ∧ (I0 o 6).toInt ≤ 2 := hR.at0 ra 6 (by decide)
  refine sWay_weighFarming_0 o n sh Rf I0 L0 post x1 p2 ux1_1 ux1_0 hok hw hw1 hux1_1 hwux1_1 hux1_0 hwux1_0 ?_
  unfold fWay_weighFarming_0
  refine y_Way_affordable hok hw1 ra1 hwux1_1 raux1_1 hux1_1 (by first | omega | (intro h; omega) | exact Or.inl rfl | exact Or.inr rfl) hR (fun r_44  => ⟨r_44, I0, L0, rfl, rfl, ?_⟩)
  have l_45 : (0 : Int32).toInt = 0 := rfl
  exact yWay_weighFarming_19 (I0 := I0) (L0 := L0) (p2 := p2) hok hw ra hw1 ra1 hwux1_1 raux1_1 hwux1_0 raux1_0 hux1_1 hux1_0 hs0 hq0 hq1 hq2 hp  _ hR hf (by first | omega | (intro h; omega) | exact Or.inl rfl | exact Or.inr rfl) (by first | omega | (intro h; omega) | exact Or.inl rfl | exact Or.inr rfl) (by first | omega | (intro h; omega) | exact Or.inl rfl | exact Or.inr rfl) (by first | omega | (intro h; omega) | exact Or.inl rfl | exact Or.inr rfl) hq2 (Nat.lt_succ_self _)
set_option maxHeartbeats 4000000 in
set_option maxRecDepth 20000 in
theorem yWay_weighFounding_2 {D : va_G} {cA : FieldType → ClassId} {b : Nat} {E : State → Prop} {R : qRg} {o n : Nat} {sh : Nat → qC} {Rf : Nat → Nat → Option Nat} {I0 : Nat → Nat → Int32} {L0 : Nat → Nat → Int64} {post : Option Value → qS → Prop} {x1 : Nat} {ux1_0 : Nat} {ux1_1 : Nat} {p2 : Int32} (hok : q_ok (qGG D cA b E)) (hw : WfWay (qGG D cA b E) n sh Rf o) (ra : RAWay R o) (hw1 : WfRun (qGG D cA b E) n sh Rf x1) (ra1 : RARun R x1) (hwux1_0 : WfLand (qGG D cA b E) n sh Rf ux1_0) (raux1_0 : RALand R ux1_0) (hwux1_1 : WfTrade (qGG D cA b E) n sh Rf ux1_1) (raux1_1 : RATrade R ux1_1) (hux1_0 : Rf x1 0 = some ux1_0) (hux1_1 : Rf x1 1 = some ux1_1) (hs0 : o = x1 + 58) (hq0 : (0 : Int) ≤ p2.toInt ∧ p2.toInt ≤ 5) (hq1 : 0 ≤ (I0 o 6).toInt) (hq2 : WyOK I0 o) (hp : ∀ (I' : Nat → Nat → Int32) (L' : Nat → Nat → Int64), RI R I' → Fm (fun c => c = o ∨ c = x1 + 59 ∨ (x1 + 19 ≤ c ∧ c < x1 + 24)) I0 I' → ((I' o 6).toInt = (I0 o 6).toInt) → (WyOK I' o) → post none (n, sh, Rf, I', L')) : ∀ (k : Nat) {x2 : Int32} {x3 : Int32} {I : Nat → Nat → Int32} {L : Nat → Nat → Int64}, RI R I → Fm (fun c => c = o ∨ c = x1 + 59 ∨ (x1 + 19 ≤ c ∧ c < x1 + 24)) I0 I → ((0 : Int) ≤ x2.toInt ∧ x2.toInt ≤ 5) → ((0 : Int) ≤ x3.toInt ∧ x3.toInt ≤ 3) → (0 ≤ (I o 6).toInt) → ((I o 6).toInt = (I0 o 6).toInt) → (WyOK I o) → (3 - x3.toInt).toNat < k → Ev (qGG D cA b E) mWay_weighFounding 3 (0, 0) 2 [(0, .ref o), (1, .ref x1), (2, .int x2), (3, .int x3)] [] (n, sh, Rf, I, L) post := by
  intro k
  induction k with
  | zero =>
    intro x2 x3 I L hR hf hi0 hi1 hi2 hi3 hi4 hm
    exact absurd hm (Nat.not_lt_zero _)
  | succ k ih =>
    intro x2 x3 I L hR hf hi0 hi1 hi2 hi3 hi4 hm
    have g_1 : (-1 : Int) ≤ (I o 6).toInt ∧ (I o 6).toInt ≤ 2 := hR.at0 ra 6 (by decide)
    refine sWay_weighFounding_2 o n sh Rf I L post x1 x2 x3 ux1_0 ux1_1 hok hw hw1 hux1_0 hwux1_0 hux1_1 hwux1_1 ?_
    unfold fWay_weighFounding_2
    have g_2 : (0 : Int) ≤ (I ux1_0 1).toInt ∧ (I ux1_0 1).toInt ≤ 3 := hR.at0 raux1_0 1 (by decide)
    refine ⟨fun c_3 => ?_, fun c_3 => ?_⟩
    · have d_4 := iLe c_3
      exact (hp _ _ hR hf (by first | omega | (intro h; omega) | exact Or.inl rfl | exact Or.inr rfl) hi4)
    · have d_5 := iNle c_3
      refine y_Run_hasFarm hok hw1 ra1 (by first | omega | (intro h; omega) | exact Or.inl rfl | exact Or.inr rfl) (by first | omega | (intro h; omega) | exact Or.inl rfl | exact Or.inr rfl) hR (fun r_6 u_7 => ⟨r_6, I, L, rfl, rfl, ?_⟩)
      have b_8 : 0 ≤ r_6.toInt ∧ r_6.toInt ≤ 1 := u_7.rg
      have l_9 : (0 : Int32).toInt = 0 := rfl
      refine ⟨fun c_10 => ?_, fun c_10 => ?_⟩
      · have d_11 := iNe c_10
        unfold fWay_weighFounding_91
        have a_13 : (x3 + Int32.ofInt 1).toInt = x3.toInt + (1) := tIc (by omega) (by omega) (by decide) (by decide)
        generalize ez_12 : (x3 + Int32.ofInt 1) = z_12 at a_13 ⊢
        exact ih hR hf (by first | omega | (intro h; omega) | exact Or.inl rfl | exact Or.inr rfl) (by first | omega | (intro h; omega) | exact Or.inl rfl | exact Or.inr rfl) (by first | omega | (intro h; omega) | exact Or.inl rfl | exact Or.inr rfl) (by first | omega | (intro h; omega) | exact Or.inl rfl | exact Or.inr rfl) hi4 (by omega)
      · have d_14 := iEq c_10
        refine ⟨tIn (by omega) (by omega), ?_⟩
        refine ⟨fun c_15 => ?_, fun c_15 => ?_⟩
        · have d_16 := iLt c_15
          unfold fWay_weighFounding_91
          have a_18 : (x3 + Int32.ofInt 1).toInt = x3.toInt + (1) := tIc (by omega) (by omega) (by decide) (by decide)
          generalize ez_17 : (x3 + Int32.ofInt 1) = z_17 at a_18 ⊢
          exact ih hR hf (by first | omega | (intro h; omega) | exact Or.inl rfl | exact Or.inr rfl) (by first | omega | (intro h; omega) | exact Or.inl rfl | exact Or.inr rfl) (by first | omega | (intro h; omega) | exact Or.inl rfl | exact Or.inr rfl) (by first | omega | (intro h; omega) | exact Or.inl rfl | exact Or.inr rfl) hi4 (by omega)
        · have d_19 := iNlt c_15
          refine y_Run_rateAt hok hw1 ra1 hwux1_0 raux1_0 hwux1_1 raux1_1 hux1_0 hux1_1 (by first | omega | (intro h; omega) | exact Or.inl rfl | exact Or.inr rfl) hR (fun r_20 I_21 L_22 hR_23 fr_24  => ⟨r_20, I_21, L_22, rfl, rfl, ?_⟩)
          have hf_25 : Fm (fun c => c = o ∨ c = x1 + 59 ∨ (x1 + 19 ≤ c ∧ c < x1 + 24)) I0 I_21 := hf.call fr_24 (fun c hc => by first | exact hc | (dsimp only at hc ⊢; omega) | omega)
          have t_26 : (I_21 o 6).toInt = (I o 6).toInt := by rw [fr_24 o (by first | omega | (dsimp only; omega))]
          have g_27 : (0 : Int) ≤ (I_21 ux1_0 1).toInt ∧ (I_21 ux1_0 1).toInt ≤ 3 := hR_23.at0 raux1_0 1 (by decide)
          have k_28 : WyOK I_21 o := hi4.fr (by rw [fr_24 o (by first | omega | (dsimp only; omega))]) (by rw [fr_24 o (by first | omega | (dsimp only; omega))]) (by rw [fr_24 o (by first | omega | (dsimp only; omega))]) (by rw [fr_24 o (by first | omega | (dsimp only; omega))])
          have l_29 : (3 : Int32).toInt = 3 := rfl
          have l_30 : (-1 : Int32).toInt = -1 := rfl
          have l_31 : (1 : Int32).toInt = 1 := rfl
          refine y_Way_weigh hok hw ra (by first | omega | (intro h; omega) | exact Or.inl rfl | exact Or.inr rfl) (by first | omega | (intro h; omega) | exact Or.inl rfl | exact Or.inr rfl) (by first | omega | (intro h; omega) | exact Or.inl rfl | exact Or.inr rfl) (by first | omega | (intro h; omega) | exact Or.inl rfl | exact Or.inr rfl) (by first | omega | (intro h; omega) | exact Or.inl rfl | exact Or.inr rfl) (by first | omega | (intro h; omega) | exact Or.inl rfl | exact Or.inr rfl) (by first | omega | (intro h; omega) | exact Or.inl rfl | exact Or.inr rfl) k_28 hR_23 (fun I_35 L_36 hR_37 fr_38 u_33 u_34 => ⟨I_35, L_36, rfl, rfl, ?_⟩)
          have hf_39 : Fm (fun c => c = o ∨ c = x1 + 59 ∨ (x1 + 19 ≤ c ∧ c < x1 + 24)) I0 I_35 := hf_25.call fr_38 (fun c hc => by first | exact hc | (dsimp only at hc ⊢; omega) | omega)
          have g_40 : (-1 : Int) ≤ (I_35 o 6).toInt ∧ (I_35 o 6).toInt ≤ 2 := hR_37.at0 ra 6 (by decide)
          have g_41 : (0 : Int) ≤ (I_35 ux1_0 1).toInt ∧ (I_35 ux1_0 1).toInt ≤ 3 := hR_37.at0 raux1_0 1 (by decide)
          unfold fWay_weighFounding_91
          have a_43 : (x3 + Int32.ofInt 1).toInt = x3.toInt + (1) := tIc (by omega) (by omega) (by decide) (by decide)
          generalize ez_42 : (x3 + Int32.ofInt 1) = z_42 at a_43 ⊢
          exact ih hR_37 hf_39 (by first | omega | (intro h; omega) | exact Or.inl rfl | exact Or.inr rfl) (by first | omega | (intro h; omega) | exact Or.inl rfl | exact Or.inr rfl) (by first | omega | (intro h; omega) | exact Or.inl rfl | exact Or.inr rfl) (by first | omega | (intro h; omega) | exact Or.inl rfl | exact Or.inr rfl) u_34 (by omega)
set_option maxHeartbeats 4000000 in
set_option maxRecDepth 20000 in
theorem y_Way_weighFounding {D : va_G} {cA : FieldType → ClassId} {b : Nat} {E : State → Prop} {R : qRg} {o n : Nat} {sh : Nat → qC} {Rf : Nat → Nat → Option Nat} {I0 : Nat → Nat → Int32} {L0 : Nat → Nat → Int64} {post : Option Value → qS → Prop} {x1 : Nat} {ux1_0 : Nat} {ux1_1 : Nat} {p2 : Int32} (hok : q_ok (qGG D cA b E)) (hw : WfWay (qGG D cA b E) n sh Rf o) (ra : RAWay R o) (hw1 : WfRun (qGG D cA b E) n sh Rf x1) (ra1 : RARun R x1) (hwux1_0 : WfLand (qGG D cA b E) n sh Rf ux1_0) (raux1_0 : RALand R ux1_0) (hwux1_1 : WfTrade (qGG D cA b E) n sh Rf ux1_1) (raux1_1 : RATrade R ux1_1) (hux1_0 : Rf x1 0 = some ux1_0) (hux1_1 : Rf x1 1 = some ux1_1) (hs0 : o = x1 + 58) (hq0 : (0 : Int) ≤ p2.toInt ∧ p2.toInt ≤ 5) (hq1 : 0 ≤ (I0 o 6).toInt) (hq2 : WyOK I0 o) (hR : RI R I0) (hp : ∀ (I' : Nat → Nat → Int32) (L' : Nat → Nat → Int64), RI R I' → Fm (fun c => c = o ∨ c = x1 + 59 ∨ (x1 + 19 ≤ c ∧ c < x1 + 24)) I0 I' → ((I' o 6).toInt = (I0 o 6).toInt) → (WyOK I' o) → post none (n, sh, Rf, I', L')) : Ev (qGG D cA b E) mWay_weighFounding 3 (0, 0) 0 (lv_args 0 [.ref o, .ref x1, .int p2]) [] (n, sh, Rf, I0, L0) post := by
  have hf : Fm (fun c => c = o ∨ c = x1 + 59 ∨ (x1 + 19 ≤ c ∧ c < x1 + 24)) I0 I0 := Fm.rf
  have g_44 : (-1 : Int) ≤ (I0 o 6).toInt ∧ (I0 o 6).toInt ≤ 2 := hR.at0 ra 6 (by decide)
  refine sWay_weighFounding_0 o n sh Rf I0 L0 post x1 p2 ux1_0 ux1_1 hok hw hw1 hux1_0 hwux1_0 hux1_1 hwux1_1 ?_
  unfold fWay_weighFounding_0
  have l_45 : (0 : Int32).toInt = 0 := rfl
  exact yWay_weighFounding_2 (I0 := I0) (L0 := L0) (p2 := p2) hok hw ra hw1 ra1 hwux1_0 raux1_0 hwux1_1 raux1_1 hux1_0 hux1_1 hs0 hq0 hq1 hq2 hp  _ hR hf (by first | omega | (intro h; omega) | exact Or.inl rfl | exact Or.inr rfl) (by first | omega | (intro h; omega) | exact Or.inl rfl | exact Or.inr rfl) (by first | omega | (intro h; omega) | exact Or.inl rfl | exact Or.inr rfl) (by first | omega | (intro h; omega) | exact Or.inl rfl | exact Or.inr rfl) hq2 (Nat.lt_succ_self _)
set_option maxHeartbeats 4000000 in
set_option maxRecDepth 20000 in
theorem y_Way_weighBuying {D : va_G} {cA : FieldType → ClassId} {b : Nat} {E : State → Prop} {R : qRg} {o n : Nat} {sh : Nat → qC} {Rf : Nat → Nat → Option Nat} {I0 : Nat → Nat → Int32} {L0 : Nat → Nat → Int64} {post : Option Value → qS → Prop} {x1 : Nat} {ux1_0 : Nat} {ux1_1 : Nat} {p2 : Int32} (hok : q_ok (qGG D cA b E)) (hw : WfWay (qGG D cA b E) n sh Rf o) (ra : RAWay R o) (hw1 : WfRun (qGG D cA b E) n sh Rf x1) (ra1 : RARun R x1) (hwux1_0 : WfLand (qGG D cA b E) n sh Rf ux1_0) (raux1_0 : RALand R ux1_0) (hwux1_1 : WfTrade (qGG D cA b E) n sh Rf ux1_1) (raux1_1 : RATrade R ux1_1) (hux1_0 : Rf x1 0 = some ux1_0) (hux1_1 : Rf x1 1 = some ux1_1) (hs0 : o = x1 + 58) (hq0 : (0 : Int) ≤ p2.toInt ∧ p2.toInt ≤ 5) (hq1 : 0 ≤ (I0 o 6).toInt) (hq2 : WyOK I0 o) (hR : RI R I0) (hp : ∀ (I' : Nat → Nat → Int32) (L' : Nat → Nat → Int64), RI R I' → Fm (fun c => c = o ∨ c = x1 + 59 ∨ (x1 + 19 ≤ c ∧ c < x1 + 24)) I0 I' → ((I' o 6).toInt = (I0 o 6).toInt) → (WyOK I' o) → post none (n, sh, Rf, I', L')) : Ev (qGG D cA b E) mWay_weighBuying 2 (0, 0) 0 (lv_args 0 [.ref o, .ref x1, .int p2]) [] (n, sh, Rf, I0, L0) post := by
  have hf : Fm (fun c => c = o ∨ c = x1 + 59 ∨ (x1 + 19 ≤ c ∧ c < x1 + 24)) I0 I0 := Fm.rf
  have g_1 : (-1 : Int) ≤ (I0 o 6).toInt ∧ (I0 o 6).toInt ≤ 2 := hR.at0 ra 6 (by decide)
  refine sWay_weighBuying_0 o n sh Rf I0 L0 post x1 p2 hok hw hw1 ?_
  unfold fWay_weighBuying_0
  have l_2 : (2 : Int32).toInt = 2 := rfl
  have l_3 : (0 : Int32).toInt = 0 := rfl
  refine ⟨fun c_4 => ?_, fun c_4 => ?_⟩
  · have d_5 := iLe c_4
    exact (hp _ _ hR hf (by first | omega | (intro h; omega) | exact Or.inl rfl | exact Or.inr rfl) hq2)
  · have d_6 := iNle c_4
    refine y_Way_affordable hok hw1 ra1 hwux1_1 raux1_1 hux1_1 (by first | omega | (intro h; omega) | exact Or.inl rfl | exact Or.inr rfl) hR (fun r_7  => ⟨r_7, I0, L0, rfl, rfl, ?_⟩)
    refine fun y_8 e_9 => ?_
    have m_10 := tMin e_9
    have l_11 : (4 : Int32).toInt = 4 := rfl
    have l_12 : (-1 : Int32).toInt = -1 := rfl
    refine y_Way_weigh hok hw ra (by first | omega | (intro h; omega) | exact Or.inl rfl | exact Or.inr rfl) (by first | omega | (intro h; omega) | exact Or.inl rfl | exact Or.inr rfl) (by first | omega | (intro h; omega) | exact Or.inl rfl | exact Or.inr rfl) (by first | omega | (intro h; omega) | exact Or.inl rfl | exact Or.inr rfl) (by first | omega | (intro h; omega) | exact Or.inl rfl | exact Or.inr rfl) (by first | omega | (intro h; omega) | exact Or.inl rfl | exact Or.inr rfl) (by first | omega | (intro h; omega) | exact Or.inl rfl | exact Or.inr rfl) hq2 hR (fun I_16 L_17 hR_18 fr_19 u_14 u_15 => ⟨I_16, L_17, rfl, rfl, ?_⟩)
    have hf_20 : Fm (fun c => c = o ∨ c = x1 + 59 ∨ (x1 + 19 ≤ c ∧ c < x1 + 24)) I0 I_16 := hf.call fr_19 (fun c hc => by first | exact hc | (dsimp only at hc ⊢; omega) | omega)
    have g_21 : (-1 : Int) ≤ (I_16 o 6).toInt ∧ (I_16 o 6).toInt ≤ 2 := hR_18.at0 ra 6 (by decide)
    exact (hp _ _ hR_18 hf_20 (by first | omega | (intro h; omega) | exact Or.inl rfl | exact Or.inr rfl) u_15)
set_option maxHeartbeats 4000000 in
set_option maxRecDepth 20000 in
theorem yWay_choose_44 {D : va_G} {cA : FieldType → ClassId} {b : Nat} {E : State → Prop} {R : qRg} {o n : Nat} {sh : Nat → qC} {Rf : Nat → Nat → Option Nat} {I0 : Nat → Nat → Int32} {L0 : Nat → Nat → Int64} {post : Option Value → qS → Prop} {x1 : Nat} {ux1_0 : Nat} {ux1_1 : Nat} {p2 : Int32} (hok : q_ok (qGG D cA b E)) (hw : WfWay (qGG D cA b E) n sh Rf o) (ra : RAWay R o) (hw1 : WfRun (qGG D cA b E) n sh Rf x1) (ra1 : RARun R x1) (hwux1_0 : WfLand (qGG D cA b E) n sh Rf ux1_0) (raux1_0 : RALand R ux1_0) (hwux1_1 : WfTrade (qGG D cA b E) n sh Rf ux1_1) (raux1_1 : RATrade R ux1_1) (hux1_0 : Rf x1 0 = some ux1_0) (hux1_1 : Rf x1 1 = some ux1_1) (hEN : qEN E) (hs0 : o = x1 + 58) (hq0 : (0 : Int) ≤ p2.toInt ∧ p2.toInt ≤ 5) (hp : ∀ (I' : Nat → Nat → Int32) (L' : Nat → Nat → Int64), RI R I' → Fm (fun c => c = o ∨ c = x1 + 59 ∨ (x1 + 19 ≤ c ∧ c < x1 + 24)) I0 I' → (WyOK I' o) → post none (n, sh, Rf, I', L')) : ∀ (k : Nat) {x2 : Int32} {x3 : Int32} {I : Nat → Nat → Int32} {L : Nat → Nat → Int64}, RI R I → Fm (fun c => c = o ∨ c = x1 + 59 ∨ (x1 + 19 ≤ c ∧ c < x1 + 24)) I0 I → ((0 : Int) ≤ x2.toInt ∧ x2.toInt ≤ 5) → ((0 : Int) ≤ x3.toInt ∧ x3.toInt ≤ 3) → ((I o 0).toInt = 0) → (3 - x3.toInt).toNat < k → Ev (qGG D cA b E) mWay_choose 4 (0, 0) 44 [(0, .ref o), (1, .ref x1), (2, .int x2), (3, .int x3)] [] (n, sh, Rf, I, L) post := by
  intro k
  induction k with
  | zero =>
    intro x2 x3 I L hR hf hi0 hi1 hi2 hm
    exact absurd hm (Nat.not_lt_zero _)
  | succ k ih =>
    intro x2 x3 I L hR hf hi0 hi1 hi2 hm
    have g_1 : (0 : Int) ≤ (I o 0).toInt ∧ (I o 0).toInt ≤ 4 := hR.at0 ra 0 (by decide)
    have g_2 : (-1 : Int) ≤ (I o 6).toInt ∧ (I o 6).toInt ≤ 2 := hR.at0 ra 6 (by decide)
    refine sWay_choose_44 o n sh Rf I L post x1 x2 x3 ux1_0 hok hw hw1 hux1_0 hwux1_0 ?_
    unfold fWay_choose_44
    have g_3 : (0 : Int) ≤ (I ux1_0 2).toInt ∧ (I ux1_0 2).toInt ≤ 3 := hR.at0 raux1_0 2 (by decide)
    refine ⟨fun c_4 => ?_, fun c_4 => ?_⟩
    · have d_5 := iLe c_4
      have g_6 : (-1 : Int) ≤ (I o 6).toInt ∧ (I o 6).toInt ≤ 2 := hR.at0 ra 6 (by decide)
      have l_7 : (-1 : Int32).toInt = -1 := rfl
      refine ⟨fun c_8 => ?_, fun c_8 => ?_⟩
      · have d_9 := iEq c_8
        exact (hp _ _ hR hf  (by unfold WyOK; refine ⟨fun h => ?_, fun h => ?_, fun h => ?_, fun h => ?_⟩ <;> omega))
      · have d_10 := iNe c_8
        have k_11 : WyOK I o := by unfold WyOK; refine ⟨fun h => ?_, fun h => ?_, fun h => ?_, fun h => ?_⟩ <;> omega
        refine y_Way_weighCarrying hok hw ra hw1 ra1 hwux1_0 raux1_0 hwux1_1 raux1_1 hux1_0 hux1_1 (by first | omega | (intro h; omega) | exact Or.inl rfl | exact Or.inr rfl) (by first | omega | (intro h; omega) | exact Or.inl rfl | exact Or.inr rfl) (by first | omega | (intro h; omega) | exact Or.inl rfl | exact Or.inr rfl) k_11 hR (fun I_15 L_16 hR_17 fr_18 u_13 u_14 => ⟨I_15, L_16, rfl, rfl, ?_⟩)
        have hf_19 : Fm (fun c => c = o ∨ c = x1 + 59 ∨ (x1 + 19 ≤ c ∧ c < x1 + 24)) I0 I_15 := hf.call fr_18 (fun c hc => by first | exact hc | (dsimp only at hc ⊢; omega) | omega)
        have g_20 : (0 : Int) ≤ (I_15 o 0).toInt ∧ (I_15 o 0).toInt ≤ 4 := hR_17.at0 ra 0 (by decide)
        have g_21 : (-1 : Int) ≤ (I_15 o 6).toInt ∧ (I_15 o 6).toInt ≤ 2 := hR_17.at0 ra 6 (by decide)
        have g_22 : (0 : Int) ≤ (I_15 ux1_0 2).toInt ∧ (I_15 ux1_0 2).toInt ≤ 3 := hR_17.at0 raux1_0 2 (by decide)
        refine y_Way_weighFarming hok hw ra hw1 ra1 hwux1_1 raux1_1 hwux1_0 raux1_0 hux1_1 hux1_0 (by first | omega | (intro h; omega) | exact Or.inl rfl | exact Or.inr rfl) (by first | omega | (intro h; omega) | exact Or.inl rfl | exact Or.inr rfl) (by first | omega | (intro h; omega) | exact Or.inl rfl | exact Or.inr rfl) u_14 hR_17 (fun I_26 L_27 hR_28 fr_29 u_24 u_25 => ⟨I_26, L_27, rfl, rfl, ?_⟩)
        have hf_30 : Fm (fun c => c = o ∨ c = x1 + 59 ∨ (x1 + 19 ≤ c ∧ c < x1 + 24)) I0 I_26 := hf_19.call fr_29 (fun c hc => by first | exact hc | (dsimp only at hc ⊢; omega) | omega)
        have g_31 : (0 : Int) ≤ (I_26 o 0).toInt ∧ (I_26 o 0).toInt ≤ 4 := hR_28.at0 ra 0 (by decide)
        have g_32 : (-1 : Int) ≤ (I_26 o 6).toInt ∧ (I_26 o 6).toInt ≤ 2 := hR_28.at0 ra 6 (by decide)
        have g_33 : (0 : Int) ≤ (I_26 ux1_0 2).toInt ∧ (I_26 ux1_0 2).toInt ≤ 3 := hR_28.at0 raux1_0 2 (by decide)
        refine y_Way_weighFounding hok hw ra hw1 ra1 hwux1_0 raux1_0 hwux1_1 raux1_1 hux1_0 hux1_1 (by first | omega | (intro h; omega) | exact Or.inl rfl | exact Or.inr rfl) (by first | omega | (intro h; omega) | exact Or.inl rfl | exact Or.inr rfl) (by first | omega | (intro h; omega) | exact Or.inl rfl | exact Or.inr rfl) u_25 hR_28 (fun I_37 L_38 hR_39 fr_40 u_35 u_36 => ⟨I_37, L_38, rfl, rfl, ?_⟩)
        have hf_41 : Fm (fun c => c = o ∨ c = x1 + 59 ∨ (x1 + 19 ≤ c ∧ c < x1 + 24)) I0 I_37 := hf_30.call fr_40 (fun c hc => by first | exact hc | (dsimp only at hc ⊢; omega) | omega)
        have g_42 : (0 : Int) ≤ (I_37 o 0).toInt ∧ (I_37 o 0).toInt ≤ 4 := hR_39.at0 ra 0 (by decide)
        have g_43 : (-1 : Int) ≤ (I_37 o 6).toInt ∧ (I_37 o 6).toInt ≤ 2 := hR_39.at0 ra 6 (by decide)
        have g_44 : (0 : Int) ≤ (I_37 ux1_0 2).toInt ∧ (I_37 ux1_0 2).toInt ≤ 3 := hR_39.at0 raux1_0 2 (by decide)
        refine y_Way_weighBuying hok hw ra hw1 ra1 hwux1_0 raux1_0 hwux1_1 raux1_1 hux1_0 hux1_1 (by first | omega | (intro h; omega) | exact Or.inl rfl | exact Or.inr rfl) (by first | omega | (intro h; omega) | exact Or.inl rfl | exact Or.inr rfl) (by first | omega | (intro h; omega) | exact Or.inl rfl | exact Or.inr rfl) u_36 hR_39 (fun I_48 L_49 hR_50 fr_51 u_46 u_47 => ⟨I_48, L_49, rfl, rfl, ?_⟩)
        have hf_52 : Fm (fun c => c = o ∨ c = x1 + 59 ∨ (x1 + 19 ≤ c ∧ c < x1 + 24)) I0 I_48 := hf_41.call fr_51 (fun c hc => by first | exact hc | (dsimp only at hc ⊢; omega) | omega)
        have g_53 : (0 : Int) ≤ (I_48 o 0).toInt ∧ (I_48 o 0).toInt ≤ 4 := hR_50.at0 ra 0 (by decide)
        have g_54 : (-1 : Int) ≤ (I_48 o 6).toInt ∧ (I_48 o 6).toInt ≤ 2 := hR_50.at0 ra 6 (by decide)
        have g_55 : (0 : Int) ≤ (I_48 ux1_0 2).toInt ∧ (I_48 ux1_0 2).toInt ≤ 3 := hR_50.at0 raux1_0 2 (by decide)
        exact (hp _ _ hR_50 hf_52  u_47)
    · have d_56 := iNle c_4
      refine y_Run_townFor hok hw1 ra1 hwux1_0 raux1_0 hwux1_1 raux1_1 hux1_0 hux1_1 hEN (by first | omega | (intro h; omega) | exact Or.inl rfl | exact Or.inr rfl) hR (fun r_57 L_59 u_58 => ⟨r_57, I, L_59, rfl, rfl, ?_⟩)
      have l_60 : (-1 : Int32).toInt = -1 := rfl
      refine ⟨fun c_61 => ?_, fun c_61 => ?_⟩
      · have d_62 := iEq c_61
        unfold fWay_choose_89
        have a_64 : (x3 + Int32.ofInt 1).toInt = x3.toInt + (1) := tIc (by omega) (by omega) (by decide) (by decide)
        generalize ez_63 : (x3 + Int32.ofInt 1) = z_63 at a_64 ⊢
        exact ih hR hf (by first | omega | (intro h; omega) | exact Or.inl rfl | exact Or.inr rfl) (by first | omega | (intro h; omega) | exact Or.inl rfl | exact Or.inr rfl) (by first | omega | (intro h; omega) | exact Or.inl rfl | exact Or.inr rfl) (by omega)
      · have d_65 := iNe c_61
        have l_66 : (0 : Int32).toInt = 0 := rfl
        refine ⟨fun c_67 => ?_, fun c_67 => ?_⟩
        · have d_68 := iLe c_67
          unfold fWay_choose_89
          have a_70 : (x3 + Int32.ofInt 1).toInt = x3.toInt + (1) := tIc (by omega) (by omega) (by decide) (by decide)
          generalize ez_69 : (x3 + Int32.ofInt 1) = z_69 at a_70 ⊢
          exact ih hR hf (by first | omega | (intro h; omega) | exact Or.inl rfl | exact Or.inr rfl) (by first | omega | (intro h; omega) | exact Or.inl rfl | exact Or.inr rfl) (by first | omega | (intro h; omega) | exact Or.inl rfl | exact Or.inr rfl) (by omega)
        · have d_71 := iNle c_67
          refine fun I_72 e_73 => ?_
          have hR_74 : RI R I_72 := hR.up0 (k := 6) ra (by decide) (Or.inl rfl) e_73 (show (-1 : Int) ≤ x3.toInt by omega) (show x3.toInt ≤ (2 : Int) by omega)
          have hf_75 : Fm (fun c => c = o ∨ c = x1 + 59 ∨ (x1 + 19 ≤ c ∧ c < x1 + 24)) I0 I_72 := hf.set (by first | rfl | omega | (dsimp only; omega)) e_73
          have t_76 : (I_72 o 0).toInt = (I o 0).toInt := by rw [← e_73, q_u_k (by decide)]
          have t_77 : (I_72 o 6).toInt = x3.toInt := by rw [← e_73, q_u_at]
          have t_78 : (I_72 ux1_0 2).toInt = (I ux1_0 2).toInt := by rw [← e_73, q_u_ne (sh_ne_o (hwux1_0).1.2.2 (hw).1.2.2 (by decide))]
          refine fun L_79 e_80 => ?_
          unfold fWay_choose_89
          have a_82 : (x3 + Int32.ofInt 1).toInt = x3.toInt + (1) := tIc (by omega) (by omega) (by decide) (by decide)
          generalize ez_81 : (x3 + Int32.ofInt 1) = z_81 at a_82 ⊢
          exact ih hR_74 hf_75 (by first | omega | (intro h; omega) | exact Or.inl rfl | exact Or.inr rfl) (by first | omega | (intro h; omega) | exact Or.inl rfl | exact Or.inr rfl) (by first | omega | (intro h; omega) | exact Or.inl rfl | exact Or.inr rfl) (by omega)
set_option maxHeartbeats 4000000 in
set_option maxRecDepth 20000 in
theorem y_Way_choose {D : va_G} {cA : FieldType → ClassId} {b : Nat} {E : State → Prop} {R : qRg} {o n : Nat} {sh : Nat → qC} {Rf : Nat → Nat → Option Nat} {I0 : Nat → Nat → Int32} {L0 : Nat → Nat → Int64} {post : Option Value → qS → Prop} {x1 : Nat} {ux1_0 : Nat} {ux1_1 : Nat} {p2 : Int32} (hok : q_ok (qGG D cA b E)) (hw : WfWay (qGG D cA b E) n sh Rf o) (ra : RAWay R o) (hw1 : WfRun (qGG D cA b E) n sh Rf x1) (ra1 : RARun R x1) (hwux1_0 : WfLand (qGG D cA b E) n sh Rf ux1_0) (raux1_0 : RALand R ux1_0) (hwux1_1 : WfTrade (qGG D cA b E) n sh Rf ux1_1) (raux1_1 : RATrade R ux1_1) (hux1_0 : Rf x1 0 = some ux1_0) (hux1_1 : Rf x1 1 = some ux1_1) (hEN : qEN E) (hs0 : o = x1 + 58) (hq0 : (0 : Int) ≤ p2.toInt ∧ p2.toInt ≤ 5) (hR : RI R I0) (hp : ∀ (I' : Nat → Nat → Int32) (L' : Nat → Nat → Int64), RI R I' → Fm (fun c => c = o ∨ c = x1 + 59 ∨ (x1 + 19 ≤ c ∧ c < x1 + 24)) I0 I' → (WyOK I' o) → post none (n, sh, Rf, I', L')) : Ev (qGG D cA b E) mWay_choose 4 (0, 0) 0 (lv_args 0 [.ref o, .ref x1, .int p2]) [] (n, sh, Rf, I0, L0) post := by
  have hf : Fm (fun c => c = o ∨ c = x1 + 59 ∨ (x1 + 19 ≤ c ∧ c < x1 + 24)) I0 I0 := Fm.rf
  have g_83 : (0 : Int) ≤ (I0 o 0).toInt ∧ (I0 o 0).toInt ≤ 4 := hR.at0 ra 0 (by decide)
  have g_84 : (-1 : Int) ≤ (I0 o 6).toInt ∧ (I0 o 6).toInt ≤ 2 := hR.at0 ra 6 (by decide)
  refine sWay_choose_0 o n sh Rf I0 L0 post x1 p2 ux1_0 hok hw hw1 hux1_0 hwux1_0 ?_
  unfold fWay_choose_0
  have l_85 : (0 : Int32).toInt = 0 := rfl
  refine fun I_86 e_87 => ?_
  have hR_88 : RI R I_86 := hR.up0 (k := 0) ra (by decide) (Or.inl rfl) e_87 (show (0 : Int) ≤ (0 : Int32).toInt by omega) (show (0 : Int32).toInt ≤ (4 : Int) by omega)
  have hf_89 : Fm (fun c => c = o ∨ c = x1 + 59 ∨ (x1 + 19 ≤ c ∧ c < x1 + 24)) I0 I_86 := hf.set (by first | rfl | omega | (dsimp only; omega)) e_87
  have t_90 : (I_86 o 0).toInt = (0 : Int32).toInt := by rw [← e_87, q_u_at]
  have t_91 : (I_86 o 6).toInt = (I0 o 6).toInt := by rw [← e_87, q_u_k (by decide)]
  have l_92 : (-1 : Int32).toInt = -1 := rfl
  refine fun I_93 e_94 => ?_
  have hR_95 : RI R I_93 := hR_88.up0 (k := 1) ra (by decide) (Or.inl rfl) e_94 (show (-1 : Int) ≤ ((-1) : Int32).toInt by omega) (show ((-1) : Int32).toInt ≤ (2 : Int) by omega)
  have hf_96 : Fm (fun c => c = o ∨ c = x1 + 59 ∨ (x1 + 19 ≤ c ∧ c < x1 + 24)) I0 I_93 := hf_89.set (by first | rfl | omega | (dsimp only; omega)) e_94
  have t_97 : (I_93 o 0).toInt = (I_86 o 0).toInt := by rw [← e_94, q_u_k (by decide)]
  have t_98 : (I_93 o 6).toInt = (I_86 o 6).toInt := by rw [← e_94, q_u_k (by decide)]
  have t_99 : (I_93 o 1).toInt = ((-1) : Int32).toInt := by rw [← e_94, q_u_at]
  refine fun I_100 e_101 => ?_
  have hR_102 : RI R I_100 := hR_95.up0 (k := 2) ra (by decide) (Or.inl rfl) e_101 (show (-1 : Int) ≤ ((-1) : Int32).toInt by omega) (show ((-1) : Int32).toInt ≤ (4 : Int) by omega)
  have hf_103 : Fm (fun c => c = o ∨ c = x1 + 59 ∨ (x1 + 19 ≤ c ∧ c < x1 + 24)) I0 I_100 := hf_96.set (by first | rfl | omega | (dsimp only; omega)) e_101
  have t_104 : (I_100 o 0).toInt = (I_93 o 0).toInt := by rw [← e_101, q_u_k (by decide)]
  have t_105 : (I_100 o 6).toInt = (I_93 o 6).toInt := by rw [← e_101, q_u_k (by decide)]
  have t_106 : (I_100 o 1).toInt = (I_93 o 1).toInt := by rw [← e_101, q_u_k (by decide)]
  have t_107 : (I_100 o 2).toInt = ((-1) : Int32).toInt := by rw [← e_101, q_u_at]
  refine fun I_108 e_109 => ?_
  have hR_110 : RI R I_108 := hR_102.up0 (k := 3) ra (by decide) (Or.inl rfl) e_109 (i_lo _) (i_hi _)
  have hf_111 : Fm (fun c => c = o ∨ c = x1 + 59 ∨ (x1 + 19 ≤ c ∧ c < x1 + 24)) I0 I_108 := hf_103.set (by first | rfl | omega | (dsimp only; omega)) e_109
  have t_112 : (I_108 o 0).toInt = (I_100 o 0).toInt := by rw [← e_109, q_u_k (by decide)]
  have t_113 : (I_108 o 6).toInt = (I_100 o 6).toInt := by rw [← e_109, q_u_k (by decide)]
  have t_114 : (I_108 o 1).toInt = (I_100 o 1).toInt := by rw [← e_109, q_u_k (by decide)]
  have t_115 : (I_108 o 2).toInt = (I_100 o 2).toInt := by rw [← e_109, q_u_k (by decide)]
  refine fun I_116 e_117 => ?_
  have hR_118 : RI R I_116 := hR_110.up0 (k := 4) ra (by decide) (Or.inl rfl) e_117 (i_lo _) (i_hi _)
  have hf_119 : Fm (fun c => c = o ∨ c = x1 + 59 ∨ (x1 + 19 ≤ c ∧ c < x1 + 24)) I0 I_116 := hf_111.set (by first | rfl | omega | (dsimp only; omega)) e_117
  have t_120 : (I_116 o 0).toInt = (I_108 o 0).toInt := by rw [← e_117, q_u_k (by decide)]
  have t_121 : (I_116 o 6).toInt = (I_108 o 6).toInt := by rw [← e_117, q_u_k (by decide)]
  have t_122 : (I_116 o 1).toInt = (I_108 o 1).toInt := by rw [← e_117, q_u_k (by decide)]
  have t_123 : (I_116 o 2).toInt = (I_108 o 2).toInt := by rw [← e_117, q_u_k (by decide)]
  refine fun L_124 e_125 => ?_
  refine fun I_126 e_127 => ?_
  have hR_128 : RI R I_126 := hR_118.up0 (k := 6) ra (by decide) (Or.inl rfl) e_127 (show (-1 : Int) ≤ ((-1) : Int32).toInt by omega) (show ((-1) : Int32).toInt ≤ (2 : Int) by omega)
  have hf_129 : Fm (fun c => c = o ∨ c = x1 + 59 ∨ (x1 + 19 ≤ c ∧ c < x1 + 24)) I0 I_126 := hf_119.set (by first | rfl | omega | (dsimp only; omega)) e_127
  have t_130 : (I_126 o 0).toInt = (I_116 o 0).toInt := by rw [← e_127, q_u_k (by decide)]
  have t_131 : (I_126 o 6).toInt = ((-1) : Int32).toInt := by rw [← e_127, q_u_at]
  have t_132 : (I_126 o 1).toInt = (I_116 o 1).toInt := by rw [← e_127, q_u_k (by decide)]
  have t_133 : (I_126 o 2).toInt = (I_116 o 2).toInt := by rw [← e_127, q_u_k (by decide)]
  refine fun L_134 e_135 => ?_
  exact yWay_choose_44 (I0 := I0) (L0 := L0) (p2 := p2) hok hw ra hw1 ra1 hwux1_0 raux1_0 hwux1_1 raux1_1 hux1_0 hux1_1 hEN hs0 hq0 hp  _ hR_128 hf_129 (by first | omega | (intro h; omega) | exact Or.inl rfl | exact Or.inr rfl) (by first | omega | (intro h; omega) | exact Or.inl rfl | exact Or.inr rfl) (by first | omega | (intro h; omega) | exact Or.inl rfl | exact Or.inr rfl) (Nat.lt_succ_self _)
