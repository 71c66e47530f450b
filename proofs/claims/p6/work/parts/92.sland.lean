/-! Safety of Land: by program (spec.py). -/
set_option maxHeartbeats 4000000 in
set_option maxRecDepth 20000 in
theorem yLand_clear_43 {D : va_G} {cA : FieldType → ClassId} {b : Nat} {E : State → Prop} {R : qRg} {o n : Nat} {sh : Nat → qC} {Rf : Nat → Nat → Option Nat} {I0 : Nat → Nat → Int32} {L0 : Nat → Nat → Int64} {post : Option Value → qS → Prop} (hok : q_ok (qGG D cA b E)) (hw : WfLand (qGG D cA b E) n sh Rf o) (ra : RALand R o) (hp : ∀ (I' : Nat → Nat → Int32) (L' : Nat → Nat → Int64), RI R I' → Fm (fun c => (o ≤ c ∧ c < o + 16)) I0 I' → post none (n, sh, Rf, I', L')) : ∀ (k : Nat) {x1 : Int32} {I : Nat → Nat → Int32} {L : Nat → Nat → Int64}, RI R I → Fm (fun c => (o ≤ c ∧ c < o + 16)) I0 I → ((0 : Int) ≤ x1.toInt ∧ x1.toInt ≤ 16) → (16 - x1.toInt).toNat < k → Ev (qGG D cA b E) mLand_clear 1 (0, 0) 43 [(0, .ref o), (1, .int x1)] [] (n, sh, Rf, I, L) post := by
  intro k
  induction k with
  | zero =>
    intro x1 I L hR hf hi0 hm
    exact absurd hm (Nat.not_lt_zero _)
  | succ k ih =>
    intro x1 I L hR hf hi0 hm
    refine sLand_clear_43 o n sh Rf I L post x1 hok hw ?_
    unfold fLand_clear_43
    have l_1 : (16 : Int32).toInt = 16 := rfl
    refine ⟨fun c_2 => ?_, fun c_2 => ?_⟩
    · have d_3 := iLe c_2
      exact (hp _ _ hR hf )
    · have d_4 := iNle c_2
      have a_5 : (x1 * 16).toInt = x1.toInt * 16 := tMul rfl (by omega) (by omega)
      have a_6 : ((x1 * 16) + x1).toInt = (x1 * 16).toInt + x1.toInt := tAdd (by omega) (by omega)
      have l_7 : (0 : Int32).toInt = 0 := rfl
      refine ⟨tIn (by omega) (by omega), fun I_8 e_9 => ?_⟩
      have hR_10 : RI R I_8 := hR.up ra 2 (by decide) (Or.inl rfl) e_9 (i_lo _) (i_hi _)
      have hf_11 : Fm (fun c => (o ≤ c ∧ c < o + 16)) I0 I_8 := hf.set (by first | rfl | omega | (dsimp only; omega)) e_9
      have a_13 : (x1 + Int32.ofInt 1).toInt = x1.toInt + (1) := tIc (by omega) (by omega) (by decide) (by decide)
      generalize ez_12 : (x1 + Int32.ofInt 1) = z_12 at a_13 ⊢
      exact ih hR_10 hf_11 (by first | omega | (intro h; omega) | exact Or.inl rfl | exact Or.inr rfl) (by omega)
set_option maxHeartbeats 4000000 in
set_option maxRecDepth 20000 in
theorem y_Land_clear {D : va_G} {cA : FieldType → ClassId} {b : Nat} {E : State → Prop} {R : qRg} {o n : Nat} {sh : Nat → qC} {Rf : Nat → Nat → Option Nat} {I0 : Nat → Nat → Int32} {L0 : Nat → Nat → Int64} {post : Option Value → qS → Prop} (hok : q_ok (qGG D cA b E)) (hw : WfLand (qGG D cA b E) n sh Rf o) (ra : RALand R o) (hR : RI R I0) (hp : ∀ (I' : Nat → Nat → Int32) (L' : Nat → Nat → Int64), RI R I' → Fm (fun c => (o ≤ c ∧ c < o + 16)) I0 I' → post none (n, sh, Rf, I', L')) : Ev (qGG D cA b E) mLand_clear 1 (0, 0) 0 (lv_args 0 [.ref o]) [] (n, sh, Rf, I0, L0) post := by
  have hf : Fm (fun c => (o ≤ c ∧ c < o + 16)) I0 I0 := Fm.rf
  refine sLand_clear_0 o n sh Rf I0 L0 post  hok hw ?_
  unfold fLand_clear_0
  have l_14 : (0 : Int32).toInt = 0 := rfl
  refine fun I_15 e_16 => ?_
  have hR_17 : RI R I_15 := hR.up0 (k := 0) ra (by decide) (Or.inl rfl) e_16 (show (0 : Int) ≤ (0 : Int32).toInt by omega) (show (0 : Int32).toInt ≤ (24 : Int) by omega)
  have hf_18 : Fm (fun c => (o ≤ c ∧ c < o + 16)) I0 I_15 := hf.set (by first | rfl | omega | (dsimp only; omega)) e_16
  have t_19 : (I_15 o 0).toInt = (0 : Int32).toInt := by rw [← e_16, q_u_at]
  refine fun I_20 e_21 => ?_
  have hR_22 : RI R I_20 := hR_17.up0 (k := 1) ra (by decide) (Or.inl rfl) e_21 (show (0 : Int) ≤ (0 : Int32).toInt by omega) (show (0 : Int32).toInt ≤ (3 : Int) by omega)
  have hf_23 : Fm (fun c => (o ≤ c ∧ c < o + 16)) I0 I_20 := hf_18.set (by first | rfl | omega | (dsimp only; omega)) e_21
  have t_24 : (I_20 o 0).toInt = (I_15 o 0).toInt := by rw [← e_21, q_u_k (by decide)]
  have t_25 : (I_20 o 1).toInt = (0 : Int32).toInt := by rw [← e_21, q_u_at]
  refine fun I_26 e_27 => ?_
  have hR_28 : RI R I_26 := hR_22.up0 (k := 2) ra (by decide) (Or.inl rfl) e_27 (show (0 : Int) ≤ (0 : Int32).toInt by omega) (show (0 : Int32).toInt ≤ (3 : Int) by omega)
  have hf_29 : Fm (fun c => (o ≤ c ∧ c < o + 16)) I0 I_26 := hf_23.set (by first | rfl | omega | (dsimp only; omega)) e_27
  have t_30 : (I_26 o 0).toInt = (I_20 o 0).toInt := by rw [← e_27, q_u_k (by decide)]
  have t_31 : (I_26 o 1).toInt = (I_20 o 1).toInt := by rw [← e_27, q_u_k (by decide)]
  have t_32 : (I_26 o 2).toInt = (0 : Int32).toInt := by rw [← e_27, q_u_at]
  refine fun I_33 e_34 => ?_
  have hR_35 : RI R I_33 := hR_28.up0 (k := 3) ra (by decide) (Or.inl rfl) e_34 (show (0 : Int) ≤ (0 : Int32).toInt by omega) (show (0 : Int32).toInt ≤ (5 : Int) by omega)
  have hf_36 : Fm (fun c => (o ≤ c ∧ c < o + 16)) I0 I_33 := hf_29.set (by first | rfl | omega | (dsimp only; omega)) e_34
  have t_37 : (I_33 o 0).toInt = (I_26 o 0).toInt := by rw [← e_34, q_u_k (by decide)]
  have t_38 : (I_33 o 1).toInt = (I_26 o 1).toInt := by rw [← e_34, q_u_k (by decide)]
  have t_39 : (I_33 o 2).toInt = (I_26 o 2).toInt := by rw [← e_34, q_u_k (by decide)]
  have t_40 : (I_33 o 3).toInt = (0 : Int32).toInt := by rw [← e_34, q_u_at]
  refine fun I_41 e_42 => ?_
  have hR_43 : RI R I_41 := hR_35.up0 (k := 4) ra (by decide) (Or.inl rfl) e_42 (show (0 : Int) ≤ (0 : Int32).toInt by omega) (show (0 : Int32).toInt ≤ (11 : Int) by omega)
  have hf_44 : Fm (fun c => (o ≤ c ∧ c < o + 16)) I0 I_41 := hf_36.set (by first | rfl | omega | (dsimp only; omega)) e_42
  have t_45 : (I_41 o 0).toInt = (I_33 o 0).toInt := by rw [← e_42, q_u_k (by decide)]
  have t_46 : (I_41 o 1).toInt = (I_33 o 1).toInt := by rw [← e_42, q_u_k (by decide)]
  have t_47 : (I_41 o 2).toInt = (I_33 o 2).toInt := by rw [← e_42, q_u_k (by decide)]
  have t_48 : (I_41 o 3).toInt = (I_33 o 3).toInt := by rw [← e_42, q_u_k (by decide)]
  have t_49 : (I_41 o 4).toInt = (0 : Int32).toInt := by rw [← e_42, q_u_at]
  refine y_fill hok (fun _ _ => waLand_12 hw) (by omega) (fun I_50 ne_51 _ eq_52 => ⟨I_50, L0, rfl, rfl, ?_⟩)
  have hR_53 : RI R I_50 := hR_43.row ra 8 (by decide) (fun _ => rfl) (fun _ => ⟨(i_lo _), (i_hi _)⟩) ne_51 eq_52
  have hf_54 : Fm (fun c => (o ≤ c ∧ c < o + 16)) I0 I_50 := hf_44.call (M' := fun c => c = (o + 8)) ne_51 (fun c hc => by first | exact hc | (dsimp only at hc ⊢; omega) | omega)
  have t_55 : (I_50 o 0).toInt = (I_41 o 0).toInt := by rw [ne_51 o (by omega)]
  have t_56 : (I_50 o 1).toInt = (I_41 o 1).toInt := by rw [ne_51 o (by omega)]
  have t_57 : (I_50 o 2).toInt = (I_41 o 2).toInt := by rw [ne_51 o (by omega)]
  have t_58 : (I_50 o 3).toInt = (I_41 o 3).toInt := by rw [ne_51 o (by omega)]
  have t_59 : (I_50 o 4).toInt = (I_41 o 4).toInt := by rw [ne_51 o (by omega)]
  have l_60 : (-1 : Int32).toInt = -1 := rfl
  refine y_fill hok (fun _ _ => waLand_6 hw) (by omega) (fun I_61 ne_62 _ eq_63 => ⟨I_61, L0, rfl, rfl, ?_⟩)
  have hR_64 : RI R I_61 := hR_53.row ra 2 (by decide) (fun _ => rfl) (fun _ => ⟨(i_lo _), (i_hi _)⟩) ne_62 eq_63
  have hf_65 : Fm (fun c => (o ≤ c ∧ c < o + 16)) I0 I_61 := hf_54.call (M' := fun c => c = (o + 2)) ne_62 (fun c hc => by first | exact hc | (dsimp only at hc ⊢; omega) | omega)
  have t_66 : (I_61 o 0).toInt = (I_50 o 0).toInt := by rw [ne_62 o (by omega)]
  have t_67 : (I_61 o 1).toInt = (I_50 o 1).toInt := by rw [ne_62 o (by omega)]
  have t_68 : (I_61 o 2).toInt = (I_50 o 2).toInt := by rw [ne_62 o (by omega)]
  have t_69 : (I_61 o 3).toInt = (I_50 o 3).toInt := by rw [ne_62 o (by omega)]
  have t_70 : (I_61 o 4).toInt = (I_50 o 4).toInt := by rw [ne_62 o (by omega)]
  exact yLand_clear_43 (I0 := I0) (L0 := L0) hok hw ra hp  _ hR_64 hf_65 (by first | omega | (intro h; omega) | exact Or.inl rfl | exact Or.inr rfl) (Nat.lt_succ_self _)
set_option maxHeartbeats 4000000 in
set_option maxRecDepth 20000 in
theorem y_Land_daysBetween {D : va_G} {cA : FieldType → ClassId} {b : Nat} {E : State → Prop} {R : qRg} {o n : Nat} {sh : Nat → qC} {Rf : Nat → Nat → Option Nat} {I0 : Nat → Nat → Int32} {L0 : Nat → Nat → Int64} {post : Option Value → qS → Prop} {p1 : Int32} {p2 : Int32} (hok : q_ok (qGG D cA b E)) (hw : WfLand (qGG D cA b E) n sh Rf o) (ra : RALand R o) (hR : RI R I0) (hp : ∀ (r : Int32) , post (some (.int r)) (n, sh, Rf, I0, L0)) : Ev (qGG D cA b E) mLand_daysBetween 0 (0, 0) 0 (lv_args 0 [.ref o, .int p1, .int p2]) [] (n, sh, Rf, I0, L0) post := by
  refine sLand_daysBetween_0 o n sh Rf I0 L0 post p1 p2 hok hw ?_
  unfold fLand_daysBetween_0
  have l_1 : (0 : Int32).toInt = 0 := rfl
  refine ⟨fun c_2 => ?_, fun c_2 => ?_⟩
  · have d_3 := iLt c_2
    have l_4 : (-1 : Int32).toInt = -1 := rfl
    exact (hp _ )
  · have d_5 := iNlt c_2
    have l_6 : (16 : Int32).toInt = 16 := rfl
    refine ⟨fun c_7 => ?_, fun c_7 => ?_⟩
    · have d_8 := iLe c_7
      have l_9 : (-1 : Int32).toInt = -1 := rfl
      exact (hp _ )
    · have d_10 := iNle c_7
      refine ⟨fun c_11 => ?_, fun c_11 => ?_⟩
      · have d_12 := iLt c_11
        have l_13 : (-1 : Int32).toInt = -1 := rfl
        exact (hp _ )
      · have d_14 := iNlt c_11
        refine ⟨fun c_15 => ?_, fun c_15 => ?_⟩
        · have d_16 := iLt c_15
          have a_17 : (p1 * 16).toInt = p1.toInt * 16 := tMul rfl (by omega) (by omega)
          have a_18 : ((p1 * 16) + p2).toInt = (p1 * 16).toInt + p2.toInt := tAdd (by omega) (by omega)
          refine ⟨tIn (by omega) (by omega), ?_⟩
          exact (hp _ )
        · have d_19 := iNlt c_15
          have l_20 : (-1 : Int32).toInt = -1 := rfl
          exact (hp _ )
set_option maxHeartbeats 4000000 in
set_option maxRecDepth 20000 in
theorem y_Land_serves {D : va_G} {cA : FieldType → ClassId} {b : Nat} {E : State → Prop} {R : qRg} {o n : Nat} {sh : Nat → qC} {Rf : Nat → Nat → Option Nat} {I0 : Nat → Nat → Int32} {L0 : Nat → Nat → Int64} {post : Option Value → qS → Prop} {p1 : Int32} {p2 : Int32} (hok : q_ok (qGG D cA b E)) (hw : WfLand (qGG D cA b E) n sh Rf o) (ra : RALand R o) (hq0 : (0 : Int) ≤ p1.toInt ∧ p1.toInt ≤ 2) (hR : RI R I0) (hp : ∀ (r : Int32) , (Bz r) → post (some (.int r)) (n, sh, Rf, I0, L0)) : Ev (qGG D cA b E) mLand_serves 0 (0, 0) 0 (lv_args 0 [.ref o, .int p1, .int p2]) [] (n, sh, Rf, I0, L0) post := by
  refine sLand_serves_0 o n sh Rf I0 L0 post p1 p2 hok hw ?_
  unfold fLand_serves_0
  have l_1 : (0 : Int32).toInt = 0 := rfl
  refine ⟨fun c_2 => ?_, fun c_2 => ?_⟩
  · have d_3 := iLt c_2
    exact (hp _ (Or.inl rfl))
  · have d_4 := iNlt c_2
    have l_5 : (5 : Int32).toInt = 5 := rfl
    refine ⟨fun c_6 => ?_, fun c_6 => ?_⟩
    · have d_7 := iLe c_6
      exact (hp _ (Or.inl rfl))
    · have d_8 := iNle c_6
      have a_9 : (p1 * 5).toInt = p1.toInt * 5 := tMul rfl (by omega) (by omega)
      have a_10 : ((p1 * 5) + p2).toInt = (p1 * 5).toInt + p2.toInt := tAdd (by omega) (by omega)
      refine ⟨tIn (by omega) (by omega), ?_⟩
      refine ⟨fun c_11 => ?_, fun c_11 => ?_⟩
      · have d_12 := iEq c_11
        exact (hp _ (Or.inl rfl))
      · have d_13 := iNe c_11
        have l_14 : (1 : Int32).toInt = 1 := rfl
        exact (hp _ (Or.inr rfl))
set_option maxHeartbeats 4000000 in
set_option maxRecDepth 20000 in
theorem y_Land_shorten {D : va_G} {cA : FieldType → ClassId} {b : Nat} {E : State → Prop} {R : qRg} {o n : Nat} {sh : Nat → qC} {Rf : Nat → Nat → Option Nat} {I0 : Nat → Nat → Int32} {L0 : Nat → Nat → Int64} {post : Option Value → qS → Prop} {p1 : Int32} {p2 : Int32} {p3 : Int32} (hok : q_ok (qGG D cA b E)) (hw : WfLand (qGG D cA b E) n sh Rf o) (ra : RALand R o) (hq0 : (0 : Int) ≤ p1.toInt ∧ p1.toInt ≤ 15) (hq1 : (0 : Int) ≤ p2.toInt ∧ p2.toInt ≤ 15) (hR : RI R I0) (hp : ∀ (I' : Nat → Nat → Int32) (L' : Nat → Nat → Int64), RI R I' → Fm (fun c => (o ≤ c ∧ c < o + 16)) I0 I' → ((I' o 0).toInt = (I0 o 0).toInt) → ((I' o 1).toInt = (I0 o 1).toInt) → ((I' o 2).toInt = (I0 o 2).toInt) → ((I' o 3).toInt = (I0 o 3).toInt) → ((I' o 4).toInt = (I0 o 4).toInt) → post none (n, sh, Rf, I', L')) : Ev (qGG D cA b E) mLand_shorten 1 (0, 0) 0 (lv_args 0 [.ref o, .int p1, .int p2, .int p3]) [] (n, sh, Rf, I0, L0) post := by
  have hf : Fm (fun c => (o ≤ c ∧ c < o + 16)) I0 I0 := Fm.rf
  have g_1 : (0 : Int) ≤ (I0 o 0).toInt ∧ (I0 o 0).toInt ≤ 24 := hR.at0 ra 0 (by decide)
  have g_2 : (0 : Int) ≤ (I0 o 1).toInt ∧ (I0 o 1).toInt ≤ 3 := hR.at0 ra 1 (by decide)
  have g_3 : (0 : Int) ≤ (I0 o 2).toInt ∧ (I0 o 2).toInt ≤ 3 := hR.at0 ra 2 (by decide)
  have g_4 : (0 : Int) ≤ (I0 o 3).toInt ∧ (I0 o 3).toInt ≤ 5 := hR.at0 ra 3 (by decide)
  have g_5 : (0 : Int) ≤ (I0 o 4).toInt ∧ (I0 o 4).toInt ≤ 11 := hR.at0 ra 4 (by decide)
  refine sLand_shorten_0 o n sh Rf I0 L0 post p1 p2 p3 hok hw ?_
  unfold fLand_shorten_0
  refine y_Land_daysBetween hok hw ra hR (fun r_6  => ⟨r_6, I0, L0, rfl, rfl, ?_⟩)
  have l_7 : (-1 : Int32).toInt = -1 := rfl
  refine ⟨fun c_8 => ?_, fun c_8 => ?_⟩
  · have d_9 := iEq c_8
    unfold fLand_shorten_20
    have l_10 : (16 : Int32).toInt = 16 := rfl
    have a_11 : (p1 * 16).toInt = p1.toInt * 16 := tMul rfl (by omega) (by omega)
    have a_12 : ((p1 * 16) + p2).toInt = (p1 * 16).toInt + p2.toInt := tAdd (by omega) (by omega)
    refine ⟨tIn (by omega) (by omega), fun I_13 e_14 => ?_⟩
    have hR_15 : RI R I_13 := hR.up ra 2 (by decide) (Or.inl rfl) e_14 (i_lo _) (i_hi _)
    have hf_16 : Fm (fun c => (o ≤ c ∧ c < o + 16)) I0 I_13 := hf.set (by first | rfl | omega | (dsimp only; omega)) e_14
    have t_17 : (I_13 o 0).toInt = (I0 o 0).toInt := by rw [← e_14, q_u_ne (by omega)]
    have t_18 : (I_13 o 1).toInt = (I0 o 1).toInt := by rw [← e_14, q_u_ne (by omega)]
    have t_19 : (I_13 o 2).toInt = (I0 o 2).toInt := by rw [← e_14, q_u_ne (by omega)]
    have t_20 : (I_13 o 3).toInt = (I0 o 3).toInt := by rw [← e_14, q_u_ne (by omega)]
    have t_21 : (I_13 o 4).toInt = (I0 o 4).toInt := by rw [← e_14, q_u_ne (by omega)]
    exact (hp _ _ hR_15 hf_16 (by first | omega | (intro h; omega) | exact Or.inl rfl | exact Or.inr rfl) (by first | omega | (intro h; omega) | exact Or.inl rfl | exact Or.inr rfl) (by first | omega | (intro h; omega) | exact Or.inl rfl | exact Or.inr rfl) (by first | omega | (intro h; omega) | exact Or.inl rfl | exact Or.inr rfl) (by first | omega | (intro h; omega) | exact Or.inl rfl | exact Or.inr rfl))
  · have d_22 := iNe c_8
    refine ⟨fun c_23 => ?_, fun c_23 => ?_⟩
    · have d_24 := iLe c_23
      exact (hp _ _ hR hf (by first | omega | (intro h; omega) | exact Or.inl rfl | exact Or.inr rfl) (by first | omega | (intro h; omega) | exact Or.inl rfl | exact Or.inr rfl) (by first | omega | (intro h; omega) | exact Or.inl rfl | exact Or.inr rfl) (by first | omega | (intro h; omega) | exact Or.inl rfl | exact Or.inr rfl) (by first | omega | (intro h; omega) | exact Or.inl rfl | exact Or.inr rfl))
    · have d_25 := iNle c_23
      unfold fLand_shorten_20
      have l_26 : (16 : Int32).toInt = 16 := rfl
      have a_27 : (p1 * 16).toInt = p1.toInt * 16 := tMul rfl (by omega) (by omega)
      have a_28 : ((p1 * 16) + p2).toInt = (p1 * 16).toInt + p2.toInt := tAdd (by omega) (by omega)
      refine ⟨tIn (by omega) (by omega), fun I_29 e_30 => ?_⟩
      have hR_31 : RI R I_29 := hR.up ra 2 (by decide) (Or.inl rfl) e_30 (i_lo _) (i_hi _)
      have hf_32 : Fm (fun c => (o ≤ c ∧ c < o + 16)) I0 I_29 := hf.set (by first | rfl | omega | (dsimp only; omega)) e_30
      have t_33 : (I_29 o 0).toInt = (I0 o 0).toInt := by rw [← e_30, q_u_ne (by omega)]
      have t_34 : (I_29 o 1).toInt = (I0 o 1).toInt := by rw [← e_30, q_u_ne (by omega)]
      have t_35 : (I_29 o 2).toInt = (I0 o 2).toInt := by rw [← e_30, q_u_ne (by omega)]
      have t_36 : (I_29 o 3).toInt = (I0 o 3).toInt := by rw [← e_30, q_u_ne (by omega)]
      have t_37 : (I_29 o 4).toInt = (I0 o 4).toInt := by rw [← e_30, q_u_ne (by omega)]
      exact (hp _ _ hR_31 hf_32 (by first | omega | (intro h; omega) | exact Or.inl rfl | exact Or.inr rfl) (by first | omega | (intro h; omega) | exact Or.inl rfl | exact Or.inr rfl) (by first | omega | (intro h; omega) | exact Or.inl rfl | exact Or.inr rfl) (by first | omega | (intro h; omega) | exact Or.inl rfl | exact Or.inr rfl) (by first | omega | (intro h; omega) | exact Or.inl rfl | exact Or.inr rfl))
set_option maxHeartbeats 4000000 in
set_option maxRecDepth 20000 in
theorem yLand_shortenWays_26 {D : va_G} {cA : FieldType → ClassId} {b : Nat} {E : State → Prop} {R : qRg} {o n : Nat} {sh : Nat → qC} {Rf : Nat → Nat → Option Nat} {I0 : Nat → Nat → Int32} {L0 : Nat → Nat → Int64} {post : Option Value → qS → Prop} (hok : q_ok (qGG D cA b E)) (hw : WfLand (qGG D cA b E) n sh Rf o) (ra : RALand R o) (hp : ∀ (I' : Nat → Nat → Int32) (L' : Nat → Nat → Int64), RI R I' → Fm (fun c => (o ≤ c ∧ c < o + 16)) I0 I' → post none (n, sh, Rf, I', L')) {k2 : Nat} {k10 : Nat} (ho10 : ∀ {x1 : Int32} {x2 : Int32} {I : Nat → Nat → Int32} {L : Nat → Nat → Int64}, RI R I → Fm (fun c => (o ≤ c ∧ c < o + 16)) I0 I → ((0 : Int) ≤ x1.toInt ∧ x1.toInt ≤ 15) → ((0 : Int) ≤ x2.toInt ∧ x2.toInt ≤ 16) → ((16 - x1.toInt).toNat < k2 + 1) → (16 - x2.toInt).toNat < k10 → Ev (qGG D cA b E) mLand_shortenWays 2 (0, 0) 10 [(0, .ref o), (1, .int x1), (2, .int x2)] [] (n, sh, Rf, I, L) post) : ∀ (k : Nat) {x1 : Int32} {x2 : Int32} {x3 : Int32} {x4 : Int32} {I : Nat → Nat → Int32} {L : Nat → Nat → Int64}, RI R I → Fm (fun c => (o ≤ c ∧ c < o + 16)) I0 I → ((0 : Int) ≤ x1.toInt ∧ x1.toInt ≤ 15) → ((0 : Int) ≤ x2.toInt ∧ x2.toInt ≤ 15) → ((0 : Int) ≤ x4.toInt ∧ x4.toInt ≤ 16) → ((16 - x2.toInt).toNat < k10 + 1) → ((16 - x1.toInt).toNat < k2 + 1) → (16 - x4.toInt).toNat < k → Ev (qGG D cA b E) mLand_shortenWays 2 (0, 0) 26 [(0, .ref o), (1, .int x1), (2, .int x2), (3, .int x3), (4, .int x4)] [] (n, sh, Rf, I, L) post := by
  intro k
  induction k with
  | zero =>
    intro x1 x2 x3 x4 I L hR hf hi0 hi1 hi2 hi3 hi4 hm
    exact absurd hm (Nat.not_lt_zero _)
  | succ k ih =>
    intro x1 x2 x3 x4 I L hR hf hi0 hi1 hi2 hi3 hi4 hm
    refine sLand_shortenWays_26 o n sh Rf I L post x1 x2 x3 x4 hok hw ?_
    unfold fLand_shortenWays_26
    have l_1 : (16 : Int32).toInt = 16 := rfl
    refine ⟨fun c_2 => ?_, fun c_2 => ?_⟩
    · have d_3 := iLe c_2
      unfold fLand_shortenWays_70
      have a_5 : (x2 + Int32.ofInt 1).toInt = x2.toInt + (1) := tIc (by omega) (by omega) (by decide) (by decide)
      generalize ez_4 : (x2 + Int32.ofInt 1) = z_4 at a_5 ⊢
      exact ho10 hR hf (by first | omega | (intro h; omega) | exact Or.inl rfl | exact Or.inr rfl) (by first | omega | (intro h; omega) | exact Or.inl rfl | exact Or.inr rfl) (by first | omega | (intro h; omega) | exact Or.inl rfl | exact Or.inr rfl) (by omega)
    · have d_6 := iNle c_2
      have l_7 : (-1 : Int32).toInt = -1 := rfl
      refine ⟨fun c_8 => ?_, fun c_8 => ?_⟩
      · have d_9 := iEq c_8
        unfold fLand_shortenWays_70
        have a_11 : (x2 + Int32.ofInt 1).toInt = x2.toInt + (1) := tIc (by omega) (by omega) (by decide) (by decide)
        generalize ez_10 : (x2 + Int32.ofInt 1) = z_10 at a_11 ⊢
        exact ho10 hR hf (by first | omega | (intro h; omega) | exact Or.inl rfl | exact Or.inr rfl) (by first | omega | (intro h; omega) | exact Or.inl rfl | exact Or.inr rfl) (by first | omega | (intro h; omega) | exact Or.inl rfl | exact Or.inr rfl) (by omega)
      · have d_12 := iNe c_8
        refine y_Land_daysBetween hok hw ra hR (fun r_13  => ⟨r_13, I, L, rfl, rfl, ?_⟩)
        refine ⟨fun c_14 => ?_, fun c_14 => ?_⟩
        · have d_15 := iEq c_14
          unfold fLand_shortenWays_64
          have a_17 : (x4 + Int32.ofInt 1).toInt = x4.toInt + (1) := tIc (by omega) (by omega) (by decide) (by decide)
          generalize ez_16 : (x4 + Int32.ofInt 1) = z_16 at a_17 ⊢
          exact ih hR hf (by first | omega | (intro h; omega) | exact Or.inl rfl | exact Or.inr rfl) (by first | omega | (intro h; omega) | exact Or.inl rfl | exact Or.inr rfl) (by first | omega | (intro h; omega) | exact Or.inl rfl | exact Or.inr rfl) (by first | omega | (intro h; omega) | exact Or.inl rfl | exact Or.inr rfl) (by first | omega | (intro h; omega) | exact Or.inl rfl | exact Or.inr rfl) (by omega)
        · have d_18 := iNe c_14
          refine y_Land_shorten hok hw ra (by first | omega | (intro h; omega) | exact Or.inl rfl | exact Or.inr rfl) (by first | omega | (intro h; omega) | exact Or.inl rfl | exact Or.inr rfl) hR (fun I_25 L_26 hR_27 fr_28 u_20 u_21 u_22 u_23 u_24 => ⟨I_25, L_26, rfl, rfl, ?_⟩)
          have hf_29 : Fm (fun c => (o ≤ c ∧ c < o + 16)) I0 I_25 := hf.call fr_28 (fun c hc => by first | exact hc | (dsimp only at hc ⊢; omega) | omega)
          unfold fLand_shortenWays_64
          have a_31 : (x4 + Int32.ofInt 1).toInt = x4.toInt + (1) := tIc (by omega) (by omega) (by decide) (by decide)
          generalize ez_30 : (x4 + Int32.ofInt 1) = z_30 at a_31 ⊢
          exact ih hR_27 hf_29 (by first | omega | (intro h; omega) | exact Or.inl rfl | exact Or.inr rfl) (by first | omega | (intro h; omega) | exact Or.inl rfl | exact Or.inr rfl) (by first | omega | (intro h; omega) | exact Or.inl rfl | exact Or.inr rfl) (by first | omega | (intro h; omega) | exact Or.inl rfl | exact Or.inr rfl) (by first | omega | (intro h; omega) | exact Or.inl rfl | exact Or.inr rfl) (by omega)
set_option maxHeartbeats 4000000 in
set_option maxRecDepth 20000 in
theorem yLand_shortenWays_10 {D : va_G} {cA : FieldType → ClassId} {b : Nat} {E : State → Prop} {R : qRg} {o n : Nat} {sh : Nat → qC} {Rf : Nat → Nat → Option Nat} {I0 : Nat → Nat → Int32} {L0 : Nat → Nat → Int64} {post : Option Value → qS → Prop} (hok : q_ok (qGG D cA b E)) (hw : WfLand (qGG D cA b E) n sh Rf o) (ra : RALand R o) (hp : ∀ (I' : Nat → Nat → Int32) (L' : Nat → Nat → Int64), RI R I' → Fm (fun c => (o ≤ c ∧ c < o + 16)) I0 I' → post none (n, sh, Rf, I', L')) {k2 : Nat} (ho2 : ∀ {x1 : Int32} {I : Nat → Nat → Int32} {L : Nat → Nat → Int64}, RI R I → Fm (fun c => (o ≤ c ∧ c < o + 16)) I0 I → ((0 : Int) ≤ x1.toInt ∧ x1.toInt ≤ 16) → (16 - x1.toInt).toNat < k2 → Ev (qGG D cA b E) mLand_shortenWays 2 (0, 0) 2 [(0, .ref o), (1, .int x1)] [] (n, sh, Rf, I, L) post) : ∀ (k : Nat) {x1 : Int32} {x2 : Int32} {I : Nat → Nat → Int32} {L : Nat → Nat → Int64}, RI R I → Fm (fun c => (o ≤ c ∧ c < o + 16)) I0 I → ((0 : Int) ≤ x1.toInt ∧ x1.toInt ≤ 15) → ((0 : Int) ≤ x2.toInt ∧ x2.toInt ≤ 16) → ((16 - x1.toInt).toNat < k2 + 1) → (16 - x2.toInt).toNat < k → Ev (qGG D cA b E) mLand_shortenWays 2 (0, 0) 10 [(0, .ref o), (1, .int x1), (2, .int x2)] [] (n, sh, Rf, I, L) post := by
  intro k
  induction k with
  | zero =>
    intro x1 x2 I L hR hf hi0 hi1 hi2 hm
    exact absurd hm (Nat.not_lt_zero _)
  | succ k ih =>
    intro x1 x2 I L hR hf hi0 hi1 hi2 hm
    refine sLand_shortenWays_10 o n sh Rf I L post x1 x2 hok hw ?_
    unfold fLand_shortenWays_10
    have l_32 : (16 : Int32).toInt = 16 := rfl
    refine ⟨fun c_33 => ?_, fun c_33 => ?_⟩
    · have d_34 := iLe c_33
      have a_36 : (x1 + Int32.ofInt 1).toInt = x1.toInt + (1) := tIc (by omega) (by omega) (by decide) (by decide)
      generalize ez_35 : (x1 + Int32.ofInt 1) = z_35 at a_36 ⊢
      exact ho2 hR hf (by first | omega | (intro h; omega) | exact Or.inl rfl | exact Or.inr rfl) (by omega)
    · have d_37 := iNle c_33
      refine y_Land_daysBetween hok hw ra hR (fun r_38  => ⟨r_38, I, L, rfl, rfl, ?_⟩)
      have l_39 : (0 : Int32).toInt = 0 := rfl
      exact yLand_shortenWays_26 (I0 := I0) (L0 := L0) hok hw ra hp ih _ hR hf (by first | omega | (intro h; omega) | exact Or.inl rfl | exact Or.inr rfl) (by first | omega | (intro h; omega) | exact Or.inl rfl | exact Or.inr rfl) (by first | omega | (intro h; omega) | exact Or.inl rfl | exact Or.inr rfl) (by first | omega | (intro h; omega) | exact Or.inl rfl | exact Or.inr rfl) (by first | omega | (intro h; omega) | exact Or.inl rfl | exact Or.inr rfl) (Nat.lt_succ_self _)
set_option maxHeartbeats 4000000 in
set_option maxRecDepth 20000 in
theorem yLand_shortenWays_2 {D : va_G} {cA : FieldType → ClassId} {b : Nat} {E : State → Prop} {R : qRg} {o n : Nat} {sh : Nat → qC} {Rf : Nat → Nat → Option Nat} {I0 : Nat → Nat → Int32} {L0 : Nat → Nat → Int64} {post : Option Value → qS → Prop} (hok : q_ok (qGG D cA b E)) (hw : WfLand (qGG D cA b E) n sh Rf o) (ra : RALand R o) (hp : ∀ (I' : Nat → Nat → Int32) (L' : Nat → Nat → Int64), RI R I' → Fm (fun c => (o ≤ c ∧ c < o + 16)) I0 I' → post none (n, sh, Rf, I', L')) : ∀ (k : Nat) {x1 : Int32} {I : Nat → Nat → Int32} {L : Nat → Nat → Int64}, RI R I → Fm (fun c => (o ≤ c ∧ c < o + 16)) I0 I → ((0 : Int) ≤ x1.toInt ∧ x1.toInt ≤ 16) → (16 - x1.toInt).toNat < k → Ev (qGG D cA b E) mLand_shortenWays 2 (0, 0) 2 [(0, .ref o), (1, .int x1)] [] (n, sh, Rf, I, L) post := by
  intro k
  induction k with
  | zero =>
    intro x1 I L hR hf hi0 hm
    exact absurd hm (Nat.not_lt_zero _)
  | succ k ih =>
    intro x1 I L hR hf hi0 hm
    refine sLand_shortenWays_2 o n sh Rf I L post x1 hok hw ?_
    unfold fLand_shortenWays_2
    have l_40 : (16 : Int32).toInt = 16 := rfl
    refine ⟨fun c_41 => ?_, fun c_41 => ?_⟩
    · have d_42 := iLe c_41
      exact (hp _ _ hR hf )
    · have d_43 := iNle c_41
      have l_44 : (0 : Int32).toInt = 0 := rfl
      exact yLand_shortenWays_10 (I0 := I0) (L0 := L0) hok hw ra hp ih _ hR hf (by first | omega | (intro h; omega) | exact Or.inl rfl | exact Or.inr rfl) (by first | omega | (intro h; omega) | exact Or.inl rfl | exact Or.inr rfl) (by first | omega | (intro h; omega) | exact Or.inl rfl | exact Or.inr rfl) (Nat.lt_succ_self _)
set_option maxHeartbeats 4000000 in
set_option maxRecDepth 20000 in
theorem y_Land_shortenWays {D : va_G} {cA : FieldType → ClassId} {b : Nat} {E : State → Prop} {R : qRg} {o n : Nat} {sh : Nat → qC} {Rf : Nat → Nat → Option Nat} {I0 : Nat → Nat → Int32} {L0 : Nat → Nat → Int64} {post : Option Value → qS → Prop} (hok : q_ok (qGG D cA b E)) (hw : WfLand (qGG D cA b E) n sh Rf o) (ra : RALand R o) (hR : RI R I0) (hp : ∀ (I' : Nat → Nat → Int32) (L' : Nat → Nat → Int64), RI R I' → Fm (fun c => (o ≤ c ∧ c < o + 16)) I0 I' → post none (n, sh, Rf, I', L')) : Ev (qGG D cA b E) mLand_shortenWays 2 (0, 0) 0 (lv_args 0 [.ref o]) [] (n, sh, Rf, I0, L0) post := by
  have hf : Fm (fun c => (o ≤ c ∧ c < o + 16)) I0 I0 := Fm.rf
  refine sLand_shortenWays_0 o n sh Rf I0 L0 post  hok hw ?_
  unfold fLand_shortenWays_0
  have l_45 : (0 : Int32).toInt = 0 := rfl
  exact yLand_shortenWays_2 (I0 := I0) (L0 := L0) hok hw ra hp  _ hR hf (by first | omega | (intro h; omega) | exact Or.inl rfl | exact Or.inr rfl) (Nat.lt_succ_self _)
set_option maxHeartbeats 4000000 in
set_option maxRecDepth 20000 in
theorem yLand_readName_33 {D : va_G} {cA : FieldType → ClassId} {b : Nat} {E : State → Prop} {R : qRg} {o n : Nat} {sh : Nat → qC} {Rf : Nat → Nat → Option Nat} {I0 : Nat → Nat → Int32} {L0 : Nat → Nat → Int64} {post : Option Value → qS → Prop} {x1 : Nat} (hok : q_ok (qGG D cA b E)) (hw : WfLand (qGG D cA b E) n sh Rf o) (ra : RALand R o) (hw1 : WfTape (qGG D cA b E) n sh Rf x1) (ra1 : RATape R x1) (hs0 : o + 16 ≤ x1 ∨ x1 + 7 ≤ o) (hp : ∀ (I' : Nat → Nat → Int32) (L' : Nat → Nat → Int64), RI R I' → Fm (fun c => (o ≤ c ∧ c < o + 16) ∨ c = x1) I0 I' → ((I0 x1 7).toInt ≤ (I' x1 7).toInt) → ((I' o 0).toInt = (I0 o 0).toInt) → ((I' o 1).toInt = (I0 o 1).toInt) → ((I' o 2).toInt = (I0 o 2).toInt) → ((I' o 3).toInt = (I0 o 3).toInt) → post none (n, sh, Rf, I', L')) : ∀ (k : Nat) {x2 : Int32} {I : Nat → Nat → Int32} {L : Nat → Nat → Int64}, RI R I → Fm (fun c => (o ≤ c ∧ c < o + 16) ∨ c = x1) I0 I → ((0 : Int) ≤ x2.toInt ∧ x2.toInt ≤ 11) → ((I o 4).toInt ≤ 10) → ((I o 0).toInt = (I0 o 0).toInt) → ((I o 1).toInt = (I0 o 1).toInt) → ((I o 2).toInt = (I0 o 2).toInt) → ((I o 3).toInt = (I0 o 3).toInt) → ((I0 x1 7).toInt ≤ (I x1 7).toInt) → (11 - x2.toInt).toNat < k → Ev (qGG D cA b E) mLand_readName 1 (0, 0) 33 [(0, .ref o), (1, .ref x1), (2, .int x2)] [] (n, sh, Rf, I, L) post := by
  intro k
  induction k with
  | zero =>
    intro x2 I L hR hf hi0 hi1 hi2 hi3 hi4 hi5 hi6 hm
    exact absurd hm (Nat.not_lt_zero _)
  | succ k ih =>
    intro x2 I L hR hf hi0 hi1 hi2 hi3 hi4 hi5 hi6 hm
    have g_1 : (0 : Int) ≤ (I o 0).toInt ∧ (I o 0).toInt ≤ 24 := hR.at0 ra 0 (by decide)
    have g_2 : (0 : Int) ≤ (I o 1).toInt ∧ (I o 1).toInt ≤ 3 := hR.at0 ra 1 (by decide)
    have g_3 : (0 : Int) ≤ (I o 2).toInt ∧ (I o 2).toInt ≤ 3 := hR.at0 ra 2 (by decide)
    have g_4 : (0 : Int) ≤ (I o 3).toInt ∧ (I o 3).toInt ≤ 5 := hR.at0 ra 3 (by decide)
    have g_5 : (0 : Int) ≤ (I x1 7).toInt ∧ (I x1 7).toInt ≤ 5 := hR.at0 ra1 7 (by decide)
    refine sLand_readName_33 o n sh Rf I L post x1 x2 hok hw hw1 ?_
    unfold fLand_readName_33
    have g_6 : (0 : Int) ≤ (I o 4).toInt ∧ (I o 4).toInt ≤ 11 := hR.at0 ra 4 (by decide)
    refine ⟨fun c_7 => ?_, fun c_7 => ?_⟩
    · have d_8 := iLe c_7
      have g_9 : (0 : Int) ≤ (I o 4).toInt ∧ (I o 4).toInt ≤ 11 := hR.at0 ra 4 (by decide)
      refine y_Tape_name hok hw1 ra1 hR (fun r_10  => ⟨r_10, I, L, rfl, rfl, ?_⟩)
      refine ⟨tIn (by omega) (by omega), fun L_11 e_12 => ?_⟩
      have g_13 : (0 : Int) ≤ (I o 4).toInt ∧ (I o 4).toInt ≤ 11 := hR.at0 ra 4 (by decide)
      have l_14 : (1 : Int32).toInt = 1 := rfl
      have a_15 : ((I o 4) + 1).toInt = (I o 4).toInt + (1 : Int32).toInt := tAdd (by omega) (by omega)
      refine fun I_16 e_17 => ?_
      have hR_18 : RI R I_16 := hR.up0 (k := 4) ra (by decide) (Or.inl rfl) e_17 (show (0 : Int) ≤ ((I o 4) + 1).toInt by omega) (show ((I o 4) + 1).toInt ≤ (11 : Int) by omega)
      have hf_19 : Fm (fun c => (o ≤ c ∧ c < o + 16) ∨ c = x1) I0 I_16 := hf.set (by first | rfl | omega | (dsimp only; omega)) e_17
      have t_20 : (I_16 o 0).toInt = (I o 0).toInt := by rw [← e_17, q_u_k (by decide)]
      have t_21 : (I_16 o 1).toInt = (I o 1).toInt := by rw [← e_17, q_u_k (by decide)]
      have t_22 : (I_16 o 2).toInt = (I o 2).toInt := by rw [← e_17, q_u_k (by decide)]
      have t_23 : (I_16 o 3).toInt = (I o 3).toInt := by rw [← e_17, q_u_k (by decide)]
      have t_24 : (I_16 x1 7).toInt = (I x1 7).toInt := by rw [← e_17, q_u_ne (sh_ne_o (hw1).1.2.2 (hw).1.2.2 (by decide))]
      have t_25 : (I_16 o 4).toInt = ((I o 4) + 1).toInt := by rw [← e_17, q_u_at]
      refine y_Tape_step hok hw1 ra1 hR_18 (fun I_28 L_29 hR_30 fr_31 u_27 => ⟨I_28, L_29, rfl, rfl, ?_⟩)
      have hf_32 : Fm (fun c => (o ≤ c ∧ c < o + 16) ∨ c = x1) I0 I_28 := hf_19.call fr_31 (fun c hc => by first | exact hc | (dsimp only at hc ⊢; omega) | omega)
      have t_33 : (I_28 o 0).toInt = (I_16 o 0).toInt := by rw [fr_31 o (by first | omega | (dsimp only; omega))]
      have t_34 : (I_28 o 1).toInt = (I_16 o 1).toInt := by rw [fr_31 o (by first | omega | (dsimp only; omega))]
      have t_35 : (I_28 o 2).toInt = (I_16 o 2).toInt := by rw [fr_31 o (by first | omega | (dsimp only; omega))]
      have t_36 : (I_28 o 3).toInt = (I_16 o 3).toInt := by rw [fr_31 o (by first | omega | (dsimp only; omega))]
      have g_37 : (0 : Int) ≤ (I_28 x1 7).toInt ∧ (I_28 x1 7).toInt ≤ 5 := hR_30.at0 ra1 7 (by decide)
      have t_38 : (I_28 o 4).toInt = (I_16 o 4).toInt := by rw [fr_31 o (by first | omega | (dsimp only; omega))]
      exact (hp _ _ hR_30 hf_32 (by first | omega | (intro h; omega) | exact Or.inl rfl | exact Or.inr rfl) (by first | omega | (intro h; omega) | exact Or.inl rfl | exact Or.inr rfl) (by first | omega | (intro h; omega) | exact Or.inl rfl | exact Or.inr rfl) (by first | omega | (intro h; omega) | exact Or.inl rfl | exact Or.inr rfl) (by first | omega | (intro h; omega) | exact Or.inl rfl | exact Or.inr rfl))
    · have d_39 := iNle c_7
      refine ⟨tIn (by omega) (by omega), ?_⟩
      refine y_Tape_name hok hw1 ra1 hR (fun r_40  => ⟨r_40, I, L, rfl, rfl, ?_⟩)
      have l_41 : (0 : Int32).toInt = 0 := rfl
      refine ⟨fun c_42 => ?_, fun c_42 => ?_⟩
      · have d_43 := iNe c_42
        have a_45 : (x2 + Int32.ofInt 1).toInt = x2.toInt + (1) := tIc (by omega) (by omega) (by decide) (by decide)
        generalize ez_44 : (x2 + Int32.ofInt 1) = z_44 at a_45 ⊢
        exact ih hR hf (by first | omega | (intro h; omega) | exact Or.inl rfl | exact Or.inr rfl) (by first | omega | (intro h; omega) | exact Or.inl rfl | exact Or.inr rfl) (by first | omega | (intro h; omega) | exact Or.inl rfl | exact Or.inr rfl) (by first | omega | (intro h; omega) | exact Or.inl rfl | exact Or.inr rfl) (by first | omega | (intro h; omega) | exact Or.inl rfl | exact Or.inr rfl) (by first | omega | (intro h; omega) | exact Or.inl rfl | exact Or.inr rfl) (by first | omega | (intro h; omega) | exact Or.inl rfl | exact Or.inr rfl) (by omega)
      · have d_46 := iEq c_42
        have l_47 : (3 : Int32).toInt = 3 := rfl
        refine y_Tape_refuse hok hw1 ra1 (by first | omega | (intro h; omega) | exact Or.inl rfl | exact Or.inr rfl) hR (fun I_51 L_52 hR_53 fr_54 u_49 u_50 => ⟨I_51, L_52, rfl, rfl, ?_⟩)
        have hf_55 : Fm (fun c => (o ≤ c ∧ c < o + 16) ∨ c = x1) I0 I_51 := hf.call fr_54 (fun c hc => by first | exact hc | (dsimp only at hc ⊢; omega) | omega)
        have t_56 : (I_51 o 0).toInt = (I o 0).toInt := by rw [fr_54 o (by first | omega | (dsimp only; omega))]
        have t_57 : (I_51 o 1).toInt = (I o 1).toInt := by rw [fr_54 o (by first | omega | (dsimp only; omega))]
        have t_58 : (I_51 o 2).toInt = (I o 2).toInt := by rw [fr_54 o (by first | omega | (dsimp only; omega))]
        have t_59 : (I_51 o 3).toInt = (I o 3).toInt := by rw [fr_54 o (by first | omega | (dsimp only; omega))]
        have g_60 : (0 : Int) ≤ (I_51 x1 7).toInt ∧ (I_51 x1 7).toInt ≤ 5 := hR_53.at0 ra1 7 (by decide)
        have t_61 : (I_51 o 4).toInt = (I o 4).toInt := by rw [fr_54 o (by first | omega | (dsimp only; omega))]
        exact (hp _ _ hR_53 hf_55 (by first | omega | (intro h; omega) | exact Or.inl rfl | exact Or.inr rfl) (by first | omega | (intro h; omega) | exact Or.inl rfl | exact Or.inr rfl) (by first | omega | (intro h; omega) | exact Or.inl rfl | exact Or.inr rfl) (by first | omega | (intro h; omega) | exact Or.inl rfl | exact Or.inr rfl) (by first | omega | (intro h; omega) | exact Or.inl rfl | exact Or.inr rfl))
set_option maxHeartbeats 4000000 in
set_option maxRecDepth 20000 in
theorem y_Land_readName {D : va_G} {cA : FieldType → ClassId} {b : Nat} {E : State → Prop} {R : qRg} {o n : Nat} {sh : Nat → qC} {Rf : Nat → Nat → Option Nat} {I0 : Nat → Nat → Int32} {L0 : Nat → Nat → Int64} {post : Option Value → qS → Prop} {x1 : Nat} (hok : q_ok (qGG D cA b E)) (hw : WfLand (qGG D cA b E) n sh Rf o) (ra : RALand R o) (hw1 : WfTape (qGG D cA b E) n sh Rf x1) (ra1 : RATape R x1) (hs0 : o + 16 ≤ x1 ∨ x1 + 7 ≤ o) (hR : RI R I0) (hp : ∀ (I' : Nat → Nat → Int32) (L' : Nat → Nat → Int64), RI R I' → Fm (fun c => (o ≤ c ∧ c < o + 16) ∨ c = x1) I0 I' → ((I0 x1 7).toInt ≤ (I' x1 7).toInt) → ((I' o 0).toInt = (I0 o 0).toInt) → ((I' o 1).toInt = (I0 o 1).toInt) → ((I' o 2).toInt = (I0 o 2).toInt) → ((I' o 3).toInt = (I0 o 3).toInt) → post none (n, sh, Rf, I', L')) : Ev (qGG D cA b E) mLand_readName 1 (0, 0) 0 (lv_args 0 [.ref o, .ref x1]) [] (n, sh, Rf, I0, L0) post := by
  have hf : Fm (fun c => (o ≤ c ∧ c < o + 16) ∨ c = x1) I0 I0 := Fm.rf
  have g_62 : (0 : Int) ≤ (I0 o 0).toInt ∧ (I0 o 0).toInt ≤ 24 := hR.at0 ra 0 (by decide)
  have g_63 : (0 : Int) ≤ (I0 o 1).toInt ∧ (I0 o 1).toInt ≤ 3 := hR.at0 ra 1 (by decide)
  have g_64 : (0 : Int) ≤ (I0 o 2).toInt ∧ (I0 o 2).toInt ≤ 3 := hR.at0 ra 2 (by decide)
  have g_65 : (0 : Int) ≤ (I0 o 3).toInt ∧ (I0 o 3).toInt ≤ 5 := hR.at0 ra 3 (by decide)
  have g_66 : (0 : Int) ≤ (I0 x1 7).toInt ∧ (I0 x1 7).toInt ≤ 5 := hR.at0 ra1 7 (by decide)
  refine sLand_readName_0 o n sh Rf I0 L0 post x1 hok hw hw1 ?_
  unfold fLand_readName_0
  refine y_Tape_kind hok hw1 ra1 hR (fun r_67 u_68 => ⟨r_67, I0, L0, rfl, rfl, ?_⟩)
  have l_69 : (1 : Int32).toInt = 1 := rfl
  refine ⟨fun c_70 => ?_, fun c_70 => ?_⟩
  · have d_71 := iNe c_70
    have l_72 : (2 : Int32).toInt = 2 := rfl
    refine y_Tape_refuse hok hw1 ra1 (by first | omega | (intro h; omega) | exact Or.inl rfl | exact Or.inr rfl) hR (fun I_76 L_77 hR_78 fr_79 u_74 u_75 => ⟨I_76, L_77, rfl, rfl, ?_⟩)
    have hf_80 : Fm (fun c => (o ≤ c ∧ c < o + 16) ∨ c = x1) I0 I_76 := hf.call fr_79 (fun c hc => by first | exact hc | (dsimp only at hc ⊢; omega) | omega)
    have t_81 : (I_76 o 0).toInt = (I0 o 0).toInt := by rw [fr_79 o (by first | omega | (dsimp only; omega))]
    have t_82 : (I_76 o 1).toInt = (I0 o 1).toInt := by rw [fr_79 o (by first | omega | (dsimp only; omega))]
    have t_83 : (I_76 o 2).toInt = (I0 o 2).toInt := by rw [fr_79 o (by first | omega | (dsimp only; omega))]
    have t_84 : (I_76 o 3).toInt = (I0 o 3).toInt := by rw [fr_79 o (by first | omega | (dsimp only; omega))]
    have g_85 : (0 : Int) ≤ (I_76 x1 7).toInt ∧ (I_76 x1 7).toInt ≤ 5 := hR_78.at0 ra1 7 (by decide)
    exact (hp _ _ hR_78 hf_80 (by first | omega | (intro h; omega) | exact Or.inl rfl | exact Or.inr rfl) (by first | omega | (intro h; omega) | exact Or.inl rfl | exact Or.inr rfl) (by first | omega | (intro h; omega) | exact Or.inl rfl | exact Or.inr rfl) (by first | omega | (intro h; omega) | exact Or.inl rfl | exact Or.inr rfl) (by first | omega | (intro h; omega) | exact Or.inl rfl | exact Or.inr rfl))
  · have d_86 := iEq c_70
    refine y_Tape_value hok hw1 ra1 hR (fun r_87 u_88 => ⟨r_87, I0, L0, rfl, rfl, ?_⟩)
    have l_89 : (-1 : Int32).toInt = -1 := rfl
    refine ⟨fun c_90 => ?_, fun c_90 => ?_⟩
    · have d_91 := iNe c_90
      have l_92 : (2 : Int32).toInt = 2 := rfl
      refine y_Tape_refuse hok hw1 ra1 (by first | omega | (intro h; omega) | exact Or.inl rfl | exact Or.inr rfl) hR (fun I_96 L_97 hR_98 fr_99 u_94 u_95 => ⟨I_96, L_97, rfl, rfl, ?_⟩)
      have hf_100 : Fm (fun c => (o ≤ c ∧ c < o + 16) ∨ c = x1) I0 I_96 := hf.call fr_99 (fun c hc => by first | exact hc | (dsimp only at hc ⊢; omega) | omega)
      have t_101 : (I_96 o 0).toInt = (I0 o 0).toInt := by rw [fr_99 o (by first | omega | (dsimp only; omega))]
      have t_102 : (I_96 o 1).toInt = (I0 o 1).toInt := by rw [fr_99 o (by first | omega | (dsimp only; omega))]
      have t_103 : (I_96 o 2).toInt = (I0 o 2).toInt := by rw [fr_99 o (by first | omega | (dsimp only; omega))]
      have t_104 : (I_96 o 3).toInt = (I0 o 3).toInt := by rw [fr_99 o (by first | omega | (dsimp only; omega))]
      have g_105 : (0 : Int) ≤ (I_96 x1 7).toInt ∧ (I_96 x1 7).toInt ≤ 5 := hR_98.at0 ra1 7 (by decide)
      exact (hp _ _ hR_98 hf_100 (by first | omega | (intro h; omega) | exact Or.inl rfl | exact Or.inr rfl) (by first | omega | (intro h; omega) | exact Or.inl rfl | exact Or.inr rfl) (by first | omega | (intro h; omega) | exact Or.inl rfl | exact Or.inr rfl) (by first | omega | (intro h; omega) | exact Or.inl rfl | exact Or.inr rfl) (by first | omega | (intro h; omega) | exact Or.inl rfl | exact Or.inr rfl))
    · have d_106 := iEq c_90
      have g_107 : (0 : Int) ≤ (I0 o 4).toInt ∧ (I0 o 4).toInt ≤ 11 := hR.at0 ra 4 (by decide)
      have l_108 : (11 : Int32).toInt = 11 := rfl
      refine ⟨fun c_109 => ?_, fun c_109 => ?_⟩
      · have d_110 := iLt c_109
        have l_111 : (0 : Int32).toInt = 0 := rfl
        exact yLand_readName_33 (I0 := I0) (L0 := L0) hok hw ra hw1 ra1 hs0 hp  _ hR hf (by first | omega | (intro h; omega) | exact Or.inl rfl | exact Or.inr rfl) (by first | omega | (intro h; omega) | exact Or.inl rfl | exact Or.inr rfl) (by first | omega | (intro h; omega) | exact Or.inl rfl | exact Or.inr rfl) (by first | omega | (intro h; omega) | exact Or.inl rfl | exact Or.inr rfl) (by first | omega | (intro h; omega) | exact Or.inl rfl | exact Or.inr rfl) (by first | omega | (intro h; omega) | exact Or.inl rfl | exact Or.inr rfl) (by first | omega | (intro h; omega) | exact Or.inl rfl | exact Or.inr rfl) (Nat.lt_succ_self _)
      · have d_112 := iNlt c_109
        have l_113 : (2 : Int32).toInt = 2 := rfl
        refine y_Tape_refuse hok hw1 ra1 (by first | omega | (intro h; omega) | exact Or.inl rfl | exact Or.inr rfl) hR (fun I_117 L_118 hR_119 fr_120 u_115 u_116 => ⟨I_117, L_118, rfl, rfl, ?_⟩)
        have hf_121 : Fm (fun c => (o ≤ c ∧ c < o + 16) ∨ c = x1) I0 I_117 := hf.call fr_120 (fun c hc => by first | exact hc | (dsimp only at hc ⊢; omega) | omega)
        have t_122 : (I_117 o 0).toInt = (I0 o 0).toInt := by rw [fr_120 o (by first | omega | (dsimp only; omega))]
        have t_123 : (I_117 o 1).toInt = (I0 o 1).toInt := by rw [fr_120 o (by first | omega | (dsimp only; omega))]
        have t_124 : (I_117 o 2).toInt = (I0 o 2).toInt := by rw [fr_120 o (by first | omega | (dsimp only; omega))]
        have t_125 : (I_117 o 3).toInt = (I0 o 3).toInt := by rw [fr_120 o (by first | omega | (dsimp only; omega))]
        have g_126 : (0 : Int) ≤ (I_117 x1 7).toInt ∧ (I_117 x1 7).toInt ≤ 5 := hR_119.at0 ra1 7 (by decide)
        have t_127 : (I_117 o 4).toInt = (I0 o 4).toInt := by rw [fr_120 o (by first | omega | (dsimp only; omega))]
        exact (hp _ _ hR_119 hf_121 (by first | omega | (intro h; omega) | exact Or.inl rfl | exact Or.inr rfl) (by first | omega | (intro h; omega) | exact Or.inl rfl | exact Or.inr rfl) (by first | omega | (intro h; omega) | exact Or.inl rfl | exact Or.inr rfl) (by first | omega | (intro h; omega) | exact Or.inl rfl | exact Or.inr rfl) (by first | omega | (intro h; omega) | exact Or.inl rfl | exact Or.inr rfl))
set_option maxHeartbeats 4000000 in
set_option maxRecDepth 20000 in
theorem y_Land_readSite {D : va_G} {cA : FieldType → ClassId} {b : Nat} {E : State → Prop} {R : qRg} {o n : Nat} {sh : Nat → qC} {Rf : Nat → Nat → Option Nat} {I0 : Nat → Nat → Int32} {L0 : Nat → Nat → Int64} {post : Option Value → qS → Prop} {x1 : Nat} (hok : q_ok (qGG D cA b E)) (hw : WfLand (qGG D cA b E) n sh Rf o) (ra : RALand R o) (hw1 : WfTape (qGG D cA b E) n sh Rf x1) (ra1 : RATape R x1) (hq0 : TokOK I0 x1) (hR : RI R I0) (hp : ∀ (r : Int32) (I' : Nat → Nat → Int32) (L' : Nat → Nat → Int64), RI R I' → Fm (fun c => c = x1) I0 I' → (((-1 : Int) ≤ r.toInt ∧ r.toInt ≤ 15)) → ((I0 x1 7).toInt ≤ (I' x1 7).toInt) → (0 ≤ r.toInt + (I' x1 7).toInt) → post (some (.int r)) (n, sh, Rf, I', L')) : Ev (qGG D cA b E) mLand_readSite 2 (0, 0) 0 (lv_args 0 [.ref o, .ref x1]) [] (n, sh, Rf, I0, L0) post := by
  have hf : Fm (fun c => c = x1) I0 I0 := Fm.rf
  have g_1 : (0 : Int) ≤ (I0 x1 7).toInt ∧ (I0 x1 7).toInt ≤ 5 := hR.at0 ra1 7 (by decide)
  refine sLand_readSite_0 o n sh Rf I0 L0 post x1 hok hw hw1 ?_
  unfold fLand_readSite_0
  have l_2 : (2 : Int32).toInt = 2 := rfl
  refine y_Tape_isWord hok hw1 ra1 hR (fun r_3 u_4 => ⟨r_3, I0, L0, rfl, rfl, ?_⟩)
  have b_5 : 0 ≤ r_3.toInt ∧ r_3.toInt ≤ 1 := u_4.rg
  refine y_Tape_passIf hok hw1 ra1 hR (fun I_8 L_9 hR_10 fr_11 u_7 => ⟨I_8, L_9, rfl, rfl, ?_⟩)
  have hf_12 : Fm (fun c => c = x1) I0 I_8 := hf.call fr_11 (fun c hc => by first | exact hc | (dsimp only at hc ⊢; omega) | omega)
  have g_13 : (0 : Int) ≤ (I_8 x1 7).toInt ∧ (I_8 x1 7).toInt ≤ 5 := hR_10.at0 ra1 7 (by decide)
  have k_14 : TokOK I_8 x1 := hq0.fr (fr_11 _ (by first | omega | (dsimp only; omega))) (fr_11 _ (by first | omega | (dsimp only; omega)))
  have l_15 : (-1 : Int32).toInt = -1 := rfl
  refine y_Tape_takePlaceUnlike hok hw1 ra1 k_14 hR_10 (fun r_16 I_20 L_21 hR_22 fr_23 u_17 u_18 u_19 => ⟨r_16, I_20, L_21, rfl, rfl, ?_⟩)
  have hf_24 : Fm (fun c => c = x1) I0 I_20 := hf_12.call fr_23 (fun c hc => by first | exact hc | (dsimp only at hc ⊢; omega) | omega)
  have g_25 : (0 : Int) ≤ (I_20 x1 7).toInt ∧ (I_20 x1 7).toInt ≤ 5 := hR_22.at0 ra1 7 (by decide)
  have k_26 : TokOK I_20 x1 := k_14.fr (fr_23 _ (by first | omega | (dsimp only; omega))) (fr_23 _ (by first | omega | (dsimp only; omega)))
  exact (hp _ _ _ hR_22 hf_24 (by first | omega | (intro h; omega) | exact Or.inl rfl | exact Or.inr rfl) (by first | omega | (intro h; omega) | exact Or.inl rfl | exact Or.inr rfl) (by first | omega | (intro h; omega) | exact Or.inl rfl | exact Or.inr rfl))
set_option maxHeartbeats 4000000 in
set_option maxRecDepth 20000 in
theorem y_Land_readRoad {D : va_G} {cA : FieldType → ClassId} {b : Nat} {E : State → Prop} {R : qRg} {o n : Nat} {sh : Nat → qC} {Rf : Nat → Nat → Option Nat} {I0 : Nat → Nat → Int32} {L0 : Nat → Nat → Int64} {post : Option Value → qS → Prop} {x1 : Nat} (hok : q_ok (qGG D cA b E)) (hw : WfLand (qGG D cA b E) n sh Rf o) (ra : RALand R o) (hw1 : WfTape (qGG D cA b E) n sh Rf x1) (ra1 : RATape R x1) (hs0 : o + 16 ≤ x1 ∨ x1 + 7 ≤ o) (hq0 : (I0 o 0).toInt ≤ 23) (hq1 : TokOK I0 x1) (hR : RI R I0) (hp : ∀ (r : Int32) (I' : Nat → Nat → Int32) (L' : Nat → Nat → Int64), RI R I' → Fm (fun c => (o ≤ c ∧ c < o + 16) ∨ c = x1) I0 I' → (Bz r) → post (some (.int r)) (n, sh, Rf, I', L')) : Ev (qGG D cA b E) mLand_readRoad 3 (0, 0) 0 (lv_args 0 [.ref o, .ref x1]) [] (n, sh, Rf, I0, L0) post := by
  have hf : Fm (fun c => (o ≤ c ∧ c < o + 16) ∨ c = x1) I0 I0 := Fm.rf
  have g_1 : (0 : Int) ≤ (I0 o 0).toInt ∧ (I0 o 0).toInt ≤ 24 := hR.at0 ra 0 (by decide)
  have g_2 : (0 : Int) ≤ (I0 x1 7).toInt ∧ (I0 x1 7).toInt ≤ 5 := hR.at0 ra1 7 (by decide)
  refine sLand_readRoad_0 o n sh Rf I0 L0 post x1 hok hw hw1 ?_
  unfold fLand_readRoad_0
  refine y_Tape_step hok hw1 ra1 hR (fun I_5 L_6 hR_7 fr_8 u_4 => ⟨I_5, L_6, rfl, rfl, ?_⟩)
  have hf_9 : Fm (fun c => (o ≤ c ∧ c < o + 16) ∨ c = x1) I0 I_5 := hf.call fr_8 (fun c hc => by first | exact hc | (dsimp only at hc ⊢; omega) | omega)
  have t_10 : (I_5 o 0).toInt = (I0 o 0).toInt := by rw [fr_8 o (by first | omega | (dsimp only; omega))]
  have g_11 : (0 : Int) ≤ (I_5 x1 7).toInt ∧ (I_5 x1 7).toInt ≤ 5 := hR_7.at0 ra1 7 (by decide)
  have k_12 : TokOK I_5 x1 := hq1.fr (fr_8 _ (by first | omega | (dsimp only; omega))) (fr_8 _ (by first | omega | (dsimp only; omega)))
  have l_13 : (-1 : Int32).toInt = -1 := rfl
  refine y_Tape_takePlaceUnlike hok hw1 ra1 k_12 hR_7 (fun r_14 I_18 L_19 hR_20 fr_21 u_15 u_16 u_17 => ⟨r_14, I_18, L_19, rfl, rfl, ?_⟩)
  have hf_22 : Fm (fun c => (o ≤ c ∧ c < o + 16) ∨ c = x1) I0 I_18 := hf_9.call fr_21 (fun c hc => by first | exact hc | (dsimp only at hc ⊢; omega) | omega)
  have t_23 : (I_18 o 0).toInt = (I_5 o 0).toInt := by rw [fr_21 o (by first | omega | (dsimp only; omega))]
  have g_24 : (0 : Int) ≤ (I_18 x1 7).toInt ∧ (I_18 x1 7).toInt ≤ 5 := hR_20.at0 ra1 7 (by decide)
  have k_25 : TokOK I_18 x1 := k_12.fr (fr_21 _ (by first | omega | (dsimp only; omega))) (fr_21 _ (by first | omega | (dsimp only; omega)))
  refine y_Tape_takePlaceUnlike hok hw1 ra1 k_25 hR_20 (fun r_26 I_30 L_31 hR_32 fr_33 u_27 u_28 u_29 => ⟨r_26, I_30, L_31, rfl, rfl, ?_⟩)
  have hf_34 : Fm (fun c => (o ≤ c ∧ c < o + 16) ∨ c = x1) I0 I_30 := hf_22.call fr_33 (fun c hc => by first | exact hc | (dsimp only at hc ⊢; omega) | omega)
  have t_35 : (I_30 o 0).toInt = (I_18 o 0).toInt := by rw [fr_33 o (by first | omega | (dsimp only; omega))]
  have g_36 : (0 : Int) ≤ (I_30 x1 7).toInt ∧ (I_30 x1 7).toInt ≤ 5 := hR_32.at0 ra1 7 (by decide)
  have k_37 : TokOK I_30 x1 := k_25.fr (fr_33 _ (by first | omega | (dsimp only; omega))) (fr_33 _ (by first | omega | (dsimp only; omega)))
  have l_38 : (1 : Int32).toInt = 1 := rfl
  have l_39 : (90 : Int32).toInt = 90 := rfl
  refine y_Tape_takeNumber hok hw1 ra1 (by first | omega | (intro h; omega) | exact Or.inl rfl | exact Or.inr rfl) (by first | omega | (intro h; omega) | exact Or.inl rfl | exact Or.inr rfl) hR_32 (fun r_40 I_44 L_45 hR_46 fr_47 u_41 u_42 u_43 => ⟨r_40, I_44, L_45, rfl, rfl, ?_⟩)
  have hf_48 : Fm (fun c => (o ≤ c ∧ c < o + 16) ∨ c = x1) I0 I_44 := hf_34.call fr_47 (fun c hc => by first | exact hc | (dsimp only at hc ⊢; omega) | omega)
  have t_49 : (I_44 o 0).toInt = (I_30 o 0).toInt := by rw [fr_47 o (by first | omega | (dsimp only; omega))]
  have g_50 : (0 : Int) ≤ (I_44 x1 7).toInt ∧ (I_44 x1 7).toInt ≤ 5 := hR_46.at0 ra1 7 (by decide)
  have k_51 : TokOK I_44 x1 := k_37.fr (fr_47 _ (by first | omega | (dsimp only; omega))) (fr_47 _ (by first | omega | (dsimp only; omega)))
  refine y_Tape_closeLine hok hw1 ra1 hR_46 (fun r_52 I_56 L_57 hR_58 fr_59 u_53 u_54 u_55 => ⟨r_52, I_56, L_57, rfl, rfl, ?_⟩)
  have hf_60 : Fm (fun c => (o ≤ c ∧ c < o + 16) ∨ c = x1) I0 I_56 := hf_48.call fr_59 (fun c hc => by first | exact hc | (dsimp only at hc ⊢; omega) | omega)
  have t_61 : (I_56 o 0).toInt = (I_44 o 0).toInt := by rw [fr_59 o (by first | omega | (dsimp only; omega))]
  have g_62 : (0 : Int) ≤ (I_56 x1 7).toInt ∧ (I_56 x1 7).toInt ≤ 5 := hR_58.at0 ra1 7 (by decide)
  have k_63 : TokOK I_56 x1 := k_51.fr (fr_59 _ (by first | omega | (dsimp only; omega))) (fr_59 _ (by first | omega | (dsimp only; omega)))
  have b_64 : 0 ≤ r_52.toInt ∧ r_52.toInt ≤ 1 := u_53.rg
  have l_65 : (0 : Int32).toInt = 0 := rfl
  refine ⟨fun c_66 => ?_, fun c_66 => ?_⟩
  · have d_67 := iNe c_66
    refine y_Land_shorten hok hw ra (by first | omega | (intro h; omega) | exact Or.inl rfl | exact Or.inr rfl) (by first | omega | (intro h; omega) | exact Or.inl rfl | exact Or.inr rfl) hR_58 (fun I_74 L_75 hR_76 fr_77 u_69 u_70 u_71 u_72 u_73 => ⟨I_74, L_75, rfl, rfl, ?_⟩)
    have hf_78 : Fm (fun c => (o ≤ c ∧ c < o + 16) ∨ c = x1) I0 I_74 := hf_60.call fr_77 (fun c hc => by first | exact hc | (dsimp only at hc ⊢; omega) | omega)
    have g_79 : (0 : Int) ≤ (I_74 o 0).toInt ∧ (I_74 o 0).toInt ≤ 24 := hR_76.at0 ra 0 (by decide)
    have t_80 : (I_74 x1 7).toInt = (I_56 x1 7).toInt := by rw [fr_77 x1 (by first | omega | (dsimp only; omega))]
    have k_81 : TokOK I_74 x1 := k_63.fr (fr_77 _ (by first | omega | (dsimp only; omega))) (fr_77 _ (by first | omega | (dsimp only; omega)))
    refine y_Land_shorten hok hw ra (by first | omega | (intro h; omega) | exact Or.inl rfl | exact Or.inr rfl) (by first | omega | (intro h; omega) | exact Or.inl rfl | exact Or.inr rfl) hR_76 (fun I_88 L_89 hR_90 fr_91 u_83 u_84 u_85 u_86 u_87 => ⟨I_88, L_89, rfl, rfl, ?_⟩)
    have hf_92 : Fm (fun c => (o ≤ c ∧ c < o + 16) ∨ c = x1) I0 I_88 := hf_78.call fr_91 (fun c hc => by first | exact hc | (dsimp only at hc ⊢; omega) | omega)
    have g_93 : (0 : Int) ≤ (I_88 o 0).toInt ∧ (I_88 o 0).toInt ≤ 24 := hR_90.at0 ra 0 (by decide)
    have t_94 : (I_88 x1 7).toInt = (I_74 x1 7).toInt := by rw [fr_91 x1 (by first | omega | (dsimp only; omega))]
    have k_95 : TokOK I_88 x1 := k_81.fr (fr_91 _ (by first | omega | (dsimp only; omega))) (fr_91 _ (by first | omega | (dsimp only; omega)))
    have g_96 : (0 : Int) ≤ (I_88 o 0).toInt ∧ (I_88 o 0).toInt ≤ 24 := hR_90.at0 ra 0 (by decide)
    have a_97 : ((I_88 o 0) + 1).toInt = (I_88 o 0).toInt + (1 : Int32).toInt := tAdd (by omega) (by omega)
    refine fun I_98 e_99 => ?_
    have hR_100 : RI R I_98 := hR_90.up0 (k := 0) ra (by decide) (Or.inl rfl) e_99 (show (0 : Int) ≤ ((I_88 o 0) + 1).toInt by omega) (show ((I_88 o 0) + 1).toInt ≤ (24 : Int) by omega)
    have hf_101 : Fm (fun c => (o ≤ c ∧ c < o + 16) ∨ c = x1) I0 I_98 := hf_92.set (by first | rfl | omega | (dsimp only; omega)) e_99
    have t_102 : (I_98 o 0).toInt = ((I_88 o 0) + 1).toInt := by rw [← e_99, q_u_at]
    have t_103 : (I_98 x1 7).toInt = (I_88 x1 7).toInt := by rw [← e_99, q_u_ne (sh_ne_o (hw1).1.2.2 (hw).1.2.2 (by decide))]
    have k_104 : TokOK I_98 x1 := k_95.fr (by rw [← e_99]; exact q_u_ne (by omega)) (by rw [← e_99]; exact q_u_ne (by omega))
    exact (hp _ _ _ hR_100 hf_101 (Or.inr rfl))
  · have d_105 := iEq c_66
    exact (hp _ _ _ hR_58 hf_60 (Or.inl rfl))
set_option maxHeartbeats 4000000 in
set_option maxRecDepth 20000 in
theorem y_Land_readFort {D : va_G} {cA : FieldType → ClassId} {b : Nat} {E : State → Prop} {R : qRg} {o n : Nat} {sh : Nat → qC} {Rf : Nat → Nat → Option Nat} {I0 : Nat → Nat → Int32} {L0 : Nat → Nat → Int64} {post : Option Value → qS → Prop} {x1 : Nat} (hok : q_ok (qGG D cA b E)) (hw : WfLand (qGG D cA b E) n sh Rf o) (ra : RALand R o) (hw1 : WfTape (qGG D cA b E) n sh Rf x1) (ra1 : RATape R x1) (hs0 : o + 16 ≤ x1 ∨ x1 + 7 ≤ o) (hq0 : (I0 o 1).toInt ≤ 2) (hq1 : TokOK I0 x1) (hR : RI R I0) (hp : ∀ (r : Int32) (I' : Nat → Nat → Int32) (L' : Nat → Nat → Int64), RI R I' → Fm (fun c => (o ≤ c ∧ c < o + 16) ∨ c = x1) I0 I' → (Bz r) → post (some (.int r)) (n, sh, Rf, I', L')) : Ev (qGG D cA b E) mLand_readFort 3 (0, 0) 0 (lv_args 0 [.ref o, .ref x1]) [] (n, sh, Rf, I0, L0) post := by
  have hf : Fm (fun c => (o ≤ c ∧ c < o + 16) ∨ c = x1) I0 I0 := Fm.rf
  have g_1 : (0 : Int) ≤ (I0 o 1).toInt ∧ (I0 o 1).toInt ≤ 3 := hR.at0 ra 1 (by decide)
  have g_2 : (0 : Int) ≤ (I0 x1 7).toInt ∧ (I0 x1 7).toInt ≤ 5 := hR.at0 ra1 7 (by decide)
  refine sLand_readFort_0 o n sh Rf I0 L0 post x1 hok hw hw1 ?_
  unfold fLand_readFort_0
  refine y_Tape_step hok hw1 ra1 hR (fun I_5 L_6 hR_7 fr_8 u_4 => ⟨I_5, L_6, rfl, rfl, ?_⟩)
  have hf_9 : Fm (fun c => (o ≤ c ∧ c < o + 16) ∨ c = x1) I0 I_5 := hf.call fr_8 (fun c hc => by first | exact hc | (dsimp only at hc ⊢; omega) | omega)
  have t_10 : (I_5 o 1).toInt = (I0 o 1).toInt := by rw [fr_8 o (by first | omega | (dsimp only; omega))]
  have g_11 : (0 : Int) ≤ (I_5 x1 7).toInt ∧ (I_5 x1 7).toInt ≤ 5 := hR_7.at0 ra1 7 (by decide)
  have k_12 : TokOK I_5 x1 := hq1.fr (fr_8 _ (by first | omega | (dsimp only; omega))) (fr_8 _ (by first | omega | (dsimp only; omega)))
  refine y_Land_readName hok hw ra hw1 ra1 (by first | omega | (intro h; omega) | exact Or.inl rfl | exact Or.inr rfl) hR_7 (fun I_19 L_20 hR_21 fr_22 u_14 u_15 u_16 u_17 u_18 => ⟨I_19, L_20, rfl, rfl, ?_⟩)
  have hf_23 : Fm (fun c => (o ≤ c ∧ c < o + 16) ∨ c = x1) I0 I_19 := hf_9.call fr_22 (fun c hc => by first | exact hc | (dsimp only at hc ⊢; omega) | omega)
  have g_24 : (0 : Int) ≤ (I_19 o 1).toInt ∧ (I_19 o 1).toInt ≤ 3 := hR_21.at0 ra 1 (by decide)
  have g_25 : (0 : Int) ≤ (I_19 x1 7).toInt ∧ (I_19 x1 7).toInt ≤ 5 := hR_21.at0 ra1 7 (by decide)
  have k_26 : TokOK I_19 x1 := k_12.fr (fr_22 _ (by first | omega | (dsimp only; omega))) (fr_22 _ (by first | omega | (dsimp only; omega)))
  have g_27 : (0 : Int) ≤ (I_19 o 1).toInt ∧ (I_19 o 1).toInt ≤ 3 := hR_21.at0 ra 1 (by decide)
  refine y_Land_readSite hok hw ra hw1 ra1 k_26 hR_21 (fun r_28 I_32 L_33 hR_34 fr_35 u_29 u_30 u_31 => ⟨r_28, I_32, L_33, rfl, rfl, ?_⟩)
  have hf_36 : Fm (fun c => (o ≤ c ∧ c < o + 16) ∨ c = x1) I0 I_32 := hf_23.call fr_35 (fun c hc => by first | exact hc | (dsimp only at hc ⊢; omega) | omega)
  have t_37 : (I_32 o 1).toInt = (I_19 o 1).toInt := by rw [fr_35 o (by first | omega | (dsimp only; omega))]
  have g_38 : (0 : Int) ≤ (I_32 x1 7).toInt ∧ (I_32 x1 7).toInt ≤ 5 := hR_34.at0 ra1 7 (by decide)
  have k_39 : TokOK I_32 x1 := k_26.fr (fr_35 _ (by first | omega | (dsimp only; omega))) (fr_35 _ (by first | omega | (dsimp only; omega)))
  refine ⟨tIn (by omega) (by omega), fun I_40 e_41 => ?_⟩
  have hR_42 : RI R I_40 := hR_34.up ra 3 (by decide) (Or.inl rfl) e_41 (i_lo _) (i_hi _)
  have hf_43 : Fm (fun c => (o ≤ c ∧ c < o + 16) ∨ c = x1) I0 I_40 := hf_36.set (by first | rfl | omega | (dsimp only; omega)) e_41
  have t_44 : (I_40 o 1).toInt = (I_32 o 1).toInt := by rw [← e_41, q_u_ne (by omega)]
  have t_45 : (I_40 x1 7).toInt = (I_32 x1 7).toInt := by rw [← e_41, q_u_ne (sh_ne_a (hw1).1.2.2 (waLand_7 (I := I0) (L := L0) hw).2.2)]
  have k_46 : TokOK I_40 x1 := k_39.fr (by rw [← e_41]; exact q_u_ne (by omega)) (by rw [← e_41]; exact q_u_ne (by omega))
  have g_47 : (0 : Int) ≤ (I_40 o 1).toInt ∧ (I_40 o 1).toInt ≤ 3 := hR_42.at0 ra 1 (by decide)
  have l_48 : (3 : Int32).toInt = 3 := rfl
  have l_49 : (0 : Int32).toInt = 0 := rfl
  have l_50 : (999 : Int32).toInt = 999 := rfl
  refine y_Tape_takeNumberBehind hok hw1 ra1 (by first | omega | (intro h; omega) | exact Or.inl rfl | exact Or.inr rfl) (by first | omega | (intro h; omega) | exact Or.inl rfl | exact Or.inr rfl) hR_42 (fun r_51 I_55 L_56 hR_57 fr_58 u_52 u_53 u_54 => ⟨r_51, I_55, L_56, rfl, rfl, ?_⟩)
  have hf_59 : Fm (fun c => (o ≤ c ∧ c < o + 16) ∨ c = x1) I0 I_55 := hf_43.call fr_58 (fun c hc => by first | exact hc | (dsimp only at hc ⊢; omega) | omega)
  have t_60 : (I_55 o 1).toInt = (I_40 o 1).toInt := by rw [fr_58 o (by first | omega | (dsimp only; omega))]
  have g_61 : (0 : Int) ≤ (I_55 x1 7).toInt ∧ (I_55 x1 7).toInt ≤ 5 := hR_57.at0 ra1 7 (by decide)
  have k_62 : TokOK I_55 x1 := k_46.fr (fr_58 _ (by first | omega | (dsimp only; omega))) (fr_58 _ (by first | omega | (dsimp only; omega)))
  refine ⟨tIn (by omega) (by omega), fun I_63 e_64 => ?_⟩
  have hR_65 : RI R I_63 := hR_57.up ra 4 (by decide) (Or.inl rfl) e_64 (i_lo _) (i_hi _)
  have hf_66 : Fm (fun c => (o ≤ c ∧ c < o + 16) ∨ c = x1) I0 I_63 := hf_59.set (by first | rfl | omega | (dsimp only; omega)) e_64
  have t_67 : (I_63 o 1).toInt = (I_55 o 1).toInt := by rw [← e_64, q_u_ne (by omega)]
  have t_68 : (I_63 x1 7).toInt = (I_55 x1 7).toInt := by rw [← e_64, q_u_ne (sh_ne_a (hw1).1.2.2 (waLand_8 (I := I0) (L := L0) hw).2.2)]
  have k_69 : TokOK I_63 x1 := k_62.fr (by rw [← e_64]; exact q_u_ne (by omega)) (by rw [← e_64]; exact q_u_ne (by omega))
  have g_70 : (0 : Int) ≤ (I_63 o 1).toInt ∧ (I_63 o 1).toInt ≤ 3 := hR_65.at0 ra 1 (by decide)
  have l_71 : (4 : Int32).toInt = 4 := rfl
  have l_72 : (9999 : Int32).toInt = 9999 := rfl
  refine y_Tape_takeNumberBehind hok hw1 ra1 (by first | omega | (intro h; omega) | exact Or.inl rfl | exact Or.inr rfl) (by first | omega | (intro h; omega) | exact Or.inl rfl | exact Or.inr rfl) hR_65 (fun r_73 I_77 L_78 hR_79 fr_80 u_74 u_75 u_76 => ⟨r_73, I_77, L_78, rfl, rfl, ?_⟩)
  have hf_81 : Fm (fun c => (o ≤ c ∧ c < o + 16) ∨ c = x1) I0 I_77 := hf_66.call fr_80 (fun c hc => by first | exact hc | (dsimp only at hc ⊢; omega) | omega)
  have t_82 : (I_77 o 1).toInt = (I_63 o 1).toInt := by rw [fr_80 o (by first | omega | (dsimp only; omega))]
  have g_83 : (0 : Int) ≤ (I_77 x1 7).toInt ∧ (I_77 x1 7).toInt ≤ 5 := hR_79.at0 ra1 7 (by decide)
  have k_84 : TokOK I_77 x1 := k_69.fr (fr_80 _ (by first | omega | (dsimp only; omega))) (fr_80 _ (by first | omega | (dsimp only; omega)))
  refine ⟨tIn (by omega) (by omega), fun I_85 e_86 => ?_⟩
  have hR_87 : RI R I_85 := hR_79.up ra 5 (by decide) (Or.inl rfl) e_86 (i_lo _) (i_hi _)
  have hf_88 : Fm (fun c => (o ≤ c ∧ c < o + 16) ∨ c = x1) I0 I_85 := hf_81.set (by first | rfl | omega | (dsimp only; omega)) e_86
  have t_89 : (I_85 o 1).toInt = (I_77 o 1).toInt := by rw [← e_86, q_u_ne (by omega)]
  have t_90 : (I_85 x1 7).toInt = (I_77 x1 7).toInt := by rw [← e_86, q_u_ne (sh_ne_a (hw1).1.2.2 (waLand_9 (I := I0) (L := L0) hw).2.2)]
  have k_91 : TokOK I_85 x1 := k_84.fr (by rw [← e_86]; exact q_u_ne (by omega)) (by rw [← e_86]; exact q_u_ne (by omega))
  refine y_Tape_closeLine hok hw1 ra1 hR_87 (fun r_92 I_96 L_97 hR_98 fr_99 u_93 u_94 u_95 => ⟨r_92, I_96, L_97, rfl, rfl, ?_⟩)
  have hf_100 : Fm (fun c => (o ≤ c ∧ c < o + 16) ∨ c = x1) I0 I_96 := hf_88.call fr_99 (fun c hc => by first | exact hc | (dsimp only at hc ⊢; omega) | omega)
  have t_101 : (I_96 o 1).toInt = (I_85 o 1).toInt := by rw [fr_99 o (by first | omega | (dsimp only; omega))]
  have g_102 : (0 : Int) ≤ (I_96 x1 7).toInt ∧ (I_96 x1 7).toInt ≤ 5 := hR_98.at0 ra1 7 (by decide)
  have k_103 : TokOK I_96 x1 := k_91.fr (fr_99 _ (by first | omega | (dsimp only; omega))) (fr_99 _ (by first | omega | (dsimp only; omega)))
  have b_104 : 0 ≤ r_92.toInt ∧ r_92.toInt ≤ 1 := u_93.rg
  refine ⟨fun c_105 => ?_, fun c_105 => ?_⟩
  · have d_106 := iNe c_105
    have g_107 : (0 : Int) ≤ (I_96 o 1).toInt ∧ (I_96 o 1).toInt ≤ 3 := hR_98.at0 ra 1 (by decide)
    have l_108 : (1 : Int32).toInt = 1 := rfl
    have a_109 : ((I_96 o 1) + 1).toInt = (I_96 o 1).toInt + (1 : Int32).toInt := tAdd (by omega) (by omega)
    refine fun I_110 e_111 => ?_
    have hR_112 : RI R I_110 := hR_98.up0 (k := 1) ra (by decide) (Or.inl rfl) e_111 (show (0 : Int) ≤ ((I_96 o 1) + 1).toInt by omega) (show ((I_96 o 1) + 1).toInt ≤ (3 : Int) by omega)
    have hf_113 : Fm (fun c => (o ≤ c ∧ c < o + 16) ∨ c = x1) I0 I_110 := hf_100.set (by first | rfl | omega | (dsimp only; omega)) e_111
    have t_114 : (I_110 o 1).toInt = ((I_96 o 1) + 1).toInt := by rw [← e_111, q_u_at]
    have t_115 : (I_110 x1 7).toInt = (I_96 x1 7).toInt := by rw [← e_111, q_u_ne (sh_ne_o (hw1).1.2.2 (hw).1.2.2 (by decide))]
    have k_116 : TokOK I_110 x1 := k_103.fr (by rw [← e_111]; exact q_u_ne (by omega)) (by rw [← e_111]; exact q_u_ne (by omega))
    exact (hp _ _ _ hR_112 hf_113 (Or.inr rfl))
  · have d_117 := iEq c_105
    exact (hp _ _ _ hR_98 hf_100 (Or.inl rfl))
set_option maxHeartbeats 4000000 in
set_option maxRecDepth 20000 in
theorem y_Land_readDistrict {D : va_G} {cA : FieldType → ClassId} {b : Nat} {E : State → Prop} {R : qRg} {o n : Nat} {sh : Nat → qC} {Rf : Nat → Nat → Option Nat} {I0 : Nat → Nat → Int32} {L0 : Nat → Nat → Int64} {post : Option Value → qS → Prop} {x1 : Nat} (hok : q_ok (qGG D cA b E)) (hw : WfLand (qGG D cA b E) n sh Rf o) (ra : RALand R o) (hw1 : WfTape (qGG D cA b E) n sh Rf x1) (ra1 : RATape R x1) (hs0 : o + 16 ≤ x1 ∨ x1 + 7 ≤ o) (hq0 : (I0 o 2).toInt ≤ 2) (hR : RI R I0) (hp : ∀ (I' : Nat → Nat → Int32) (L' : Nat → Nat → Int64), RI R I' → Fm (fun c => (o ≤ c ∧ c < o + 16) ∨ c = x1) I0 I' → ((I' o 2).toInt = (I0 o 2).toInt) → post none (n, sh, Rf, I', L')) : Ev (qGG D cA b E) mLand_readDistrict 2 (0, 0) 0 (lv_args 0 [.ref o, .ref x1]) [] (n, sh, Rf, I0, L0) post := by
  have hf : Fm (fun c => (o ≤ c ∧ c < o + 16) ∨ c = x1) I0 I0 := Fm.rf
  have g_1 : (0 : Int) ≤ (I0 o 2).toInt ∧ (I0 o 2).toInt ≤ 3 := hR.at0 ra 2 (by decide)
  refine sLand_readDistrict_0 o n sh Rf I0 L0 post x1 hok hw hw1 ?_
  unfold fLand_readDistrict_0
  refine y_Tape_isNumber hok hw1 ra1 hR (fun r_2 u_3 u_4 => ⟨r_2, I0, L0, rfl, rfl, ?_⟩)
  have b_5 : 0 ≤ r_2.toInt ∧ r_2.toInt ≤ 1 := u_3.rg
  have l_6 : (0 : Int32).toInt = 0 := rfl
  refine ⟨fun c_7 => ?_, fun c_7 => ?_⟩
  · have d_8 := iEq c_7
    unfold fLand_readDistrict_27
    have l_9 : (4 : Int32).toInt = 4 := rfl
    refine y_Tape_takeNumber hok hw1 ra1 (by first | omega | (intro h; omega) | exact Or.inl rfl | exact Or.inr rfl) (by first | omega | (intro h; omega) | exact Or.inl rfl | exact Or.inr rfl) hR (fun r_10 I_14 L_15 hR_16 fr_17 u_11 u_12 u_13 => ⟨r_10, I_14, L_15, rfl, rfl, ?_⟩)
    have hf_18 : Fm (fun c => (o ≤ c ∧ c < o + 16) ∨ c = x1) I0 I_14 := hf.call fr_17 (fun c hc => by first | exact hc | (dsimp only at hc ⊢; omega) | omega)
    have t_19 : (I_14 o 2).toInt = (I0 o 2).toInt := by rw [fr_17 o (by first | omega | (dsimp only; omega))]
    have v_20 : (-1 : Int) ≤ r_10.toInt ∧ r_10.toInt ≤ 4 := by omega
    have l_21 : (-1 : Int32).toInt = -1 := rfl
    refine ⟨fun c_22 => ?_, fun c_22 => ?_⟩
    · have d_23 := iEq c_22
      exact (hp _ _ hR_16 hf_18 (by first | omega | (intro h; omega) | exact Or.inl rfl | exact Or.inr rfl))
    · have d_24 := iNe c_22
      have g_25 : (0 : Int) ≤ (I_14 o 2).toInt ∧ (I_14 o 2).toInt ≤ 3 := hR_16.at0 ra 2 (by decide)
      have l_26 : (5 : Int32).toInt = 5 := rfl
      have a_27 : ((I_14 o 2) * 5).toInt = (I_14 o 2).toInt * 5 := tMul rfl (by omega) (by omega)
      have a_28 : (((I_14 o 2) * 5) + r_10).toInt = ((I_14 o 2) * 5).toInt + r_10.toInt := tAdd (by omega) (by omega)
      have l_29 : (1 : Int32).toInt = 1 := rfl
      refine ⟨tIn (by omega) (by omega), fun I_30 e_31 => ?_⟩
      have hR_32 : RI R I_30 := hR_16.up ra 8 (by decide) (Or.inl rfl) e_31 (i_lo _) (i_hi _)
      have hf_33 : Fm (fun c => (o ≤ c ∧ c < o + 16) ∨ c = x1) I0 I_30 := hf_18.set (by first | rfl | omega | (dsimp only; omega)) e_31
      have t_34 : (I_30 o 2).toInt = (I_14 o 2).toInt := by rw [← e_31, q_u_ne (by omega)]
      exact (hp _ _ hR_32 hf_33 (by first | omega | (intro h; omega) | exact Or.inl rfl | exact Or.inr rfl))
  · have d_35 := iNe c_7
    have g_36 : (0 : Int) ≤ (I0 o 2).toInt ∧ (I0 o 2).toInt ≤ 3 := hR.at0 ra 2 (by decide)
    refine y_Tape_value hok hw1 ra1 hR (fun r_37 u_38 => ⟨r_37, I0, L0, rfl, rfl, ?_⟩)
    refine y_Land_serves hok hw ra (by first | omega | (intro h; omega) | exact Or.inl rfl | exact Or.inr rfl) hR (fun r_39 u_40 => ⟨r_39, I0, L0, rfl, rfl, ?_⟩)
    have b_41 : 0 ≤ r_39.toInt ∧ r_39.toInt ≤ 1 := u_40.rg
    refine ⟨fun c_42 => ?_, fun c_42 => ?_⟩
    · have d_43 := iEq c_42
      unfold fLand_readDistrict_27
      have l_44 : (4 : Int32).toInt = 4 := rfl
      refine y_Tape_takeNumber hok hw1 ra1 (by first | omega | (intro h; omega) | exact Or.inl rfl | exact Or.inr rfl) (by first | omega | (intro h; omega) | exact Or.inl rfl | exact Or.inr rfl) hR (fun r_45 I_49 L_50 hR_51 fr_52 u_46 u_47 u_48 => ⟨r_45, I_49, L_50, rfl, rfl, ?_⟩)
      have hf_53 : Fm (fun c => (o ≤ c ∧ c < o + 16) ∨ c = x1) I0 I_49 := hf.call fr_52 (fun c hc => by first | exact hc | (dsimp only at hc ⊢; omega) | omega)
      have t_54 : (I_49 o 2).toInt = (I0 o 2).toInt := by rw [fr_52 o (by first | omega | (dsimp only; omega))]
      have v_55 : (-1 : Int) ≤ r_45.toInt ∧ r_45.toInt ≤ 4 := by omega
      have l_56 : (-1 : Int32).toInt = -1 := rfl
      refine ⟨fun c_57 => ?_, fun c_57 => ?_⟩
      · have d_58 := iEq c_57
        exact (hp _ _ hR_51 hf_53 (by first | omega | (intro h; omega) | exact Or.inl rfl | exact Or.inr rfl))
      · have d_59 := iNe c_57
        have g_60 : (0 : Int) ≤ (I_49 o 2).toInt ∧ (I_49 o 2).toInt ≤ 3 := hR_51.at0 ra 2 (by decide)
        have l_61 : (5 : Int32).toInt = 5 := rfl
        have a_62 : ((I_49 o 2) * 5).toInt = (I_49 o 2).toInt * 5 := tMul rfl (by omega) (by omega)
        have a_63 : (((I_49 o 2) * 5) + r_45).toInt = ((I_49 o 2) * 5).toInt + r_45.toInt := tAdd (by omega) (by omega)
        have l_64 : (1 : Int32).toInt = 1 := rfl
        refine ⟨tIn (by omega) (by omega), fun I_65 e_66 => ?_⟩
        have hR_67 : RI R I_65 := hR_51.up ra 8 (by decide) (Or.inl rfl) e_66 (i_lo _) (i_hi _)
        have hf_68 : Fm (fun c => (o ≤ c ∧ c < o + 16) ∨ c = x1) I0 I_65 := hf_53.set (by first | rfl | omega | (dsimp only; omega)) e_66
        have t_69 : (I_65 o 2).toInt = (I_49 o 2).toInt := by rw [← e_66, q_u_ne (by omega)]
        exact (hp _ _ hR_67 hf_68 (by first | omega | (intro h; omega) | exact Or.inl rfl | exact Or.inr rfl))
    · have d_70 := iNe c_42
      have l_71 : (4 : Int32).toInt = 4 := rfl
      refine y_Tape_refuse hok hw1 ra1 (by first | omega | (intro h; omega) | exact Or.inl rfl | exact Or.inr rfl) hR (fun I_75 L_76 hR_77 fr_78 u_73 u_74 => ⟨I_75, L_76, rfl, rfl, ?_⟩)
      have hf_79 : Fm (fun c => (o ≤ c ∧ c < o + 16) ∨ c = x1) I0 I_75 := hf.call fr_78 (fun c hc => by first | exact hc | (dsimp only at hc ⊢; omega) | omega)
      have t_80 : (I_75 o 2).toInt = (I0 o 2).toInt := by rw [fr_78 o (by first | omega | (dsimp only; omega))]
      unfold fLand_readDistrict_27
      refine y_Tape_takeNumber hok hw1 ra1 (by first | omega | (intro h; omega) | exact Or.inl rfl | exact Or.inr rfl) (by first | omega | (intro h; omega) | exact Or.inl rfl | exact Or.inr rfl) hR_77 (fun r_81 I_85 L_86 hR_87 fr_88 u_82 u_83 u_84 => ⟨r_81, I_85, L_86, rfl, rfl, ?_⟩)
      have hf_89 : Fm (fun c => (o ≤ c ∧ c < o + 16) ∨ c = x1) I0 I_85 := hf_79.call fr_88 (fun c hc => by first | exact hc | (dsimp only at hc ⊢; omega) | omega)
      have t_90 : (I_85 o 2).toInt = (I_75 o 2).toInt := by rw [fr_88 o (by first | omega | (dsimp only; omega))]
      have v_91 : (-1 : Int) ≤ r_81.toInt ∧ r_81.toInt ≤ 4 := by omega
      have l_92 : (-1 : Int32).toInt = -1 := rfl
      refine ⟨fun c_93 => ?_, fun c_93 => ?_⟩
      · have d_94 := iEq c_93
        exact (hp _ _ hR_87 hf_89 (by first | omega | (intro h; omega) | exact Or.inl rfl | exact Or.inr rfl))
      · have d_95 := iNe c_93
        have g_96 : (0 : Int) ≤ (I_85 o 2).toInt ∧ (I_85 o 2).toInt ≤ 3 := hR_87.at0 ra 2 (by decide)
        have l_97 : (5 : Int32).toInt = 5 := rfl
        have a_98 : ((I_85 o 2) * 5).toInt = (I_85 o 2).toInt * 5 := tMul rfl (by omega) (by omega)
        have a_99 : (((I_85 o 2) * 5) + r_81).toInt = ((I_85 o 2) * 5).toInt + r_81.toInt := tAdd (by omega) (by omega)
        have l_100 : (1 : Int32).toInt = 1 := rfl
        refine ⟨tIn (by omega) (by omega), fun I_101 e_102 => ?_⟩
        have hR_103 : RI R I_101 := hR_87.up ra 8 (by decide) (Or.inl rfl) e_102 (i_lo _) (i_hi _)
        have hf_104 : Fm (fun c => (o ≤ c ∧ c < o + 16) ∨ c = x1) I0 I_101 := hf_89.set (by first | rfl | omega | (dsimp only; omega)) e_102
        have t_105 : (I_101 o 2).toInt = (I_85 o 2).toInt := by rw [← e_102, q_u_ne (by omega)]
        exact (hp _ _ hR_103 hf_104 (by first | omega | (intro h; omega) | exact Or.inl rfl | exact Or.inr rfl))
set_option maxHeartbeats 4000000 in
set_option maxRecDepth 20000 in
theorem yLand_readPan_122 {D : va_G} {cA : FieldType → ClassId} {b : Nat} {E : State → Prop} {R : qRg} {o n : Nat} {sh : Nat → qC} {Rf : Nat → Nat → Option Nat} {I0 : Nat → Nat → Int32} {L0 : Nat → Nat → Int64} {post : Option Value → qS → Prop} {x1 : Nat} (hok : q_ok (qGG D cA b E)) (hw : WfLand (qGG D cA b E) n sh Rf o) (ra : RALand R o) (hw1 : WfTape (qGG D cA b E) n sh Rf x1) (ra1 : RATape R x1) (hs0 : o + 16 ≤ x1 ∨ x1 + 7 ≤ o) (hq0 : (I0 o 2).toInt ≤ 2) (hq1 : TokOK I0 x1) (hp : ∀ (r : Int32) (I' : Nat → Nat → Int32) (L' : Nat → Nat → Int64), RI R I' → Fm (fun c => (o ≤ c ∧ c < o + 16) ∨ c = x1) I0 I' → (Bz r) → post (some (.int r)) (n, sh, Rf, I', L')) : ∀ (k : Nat) {x2 : Int32} {x3 : Int32} {I : Nat → Nat → Int32} {L : Nat → Nat → Int64}, RI R I → Fm (fun c => (o ≤ c ∧ c < o + 16) ∨ c = x1) I0 I → ((0 : Int) ≤ x3.toInt ∧ x3.toInt ≤ 5) → ((I o 2).toInt ≤ 2) → (5 - x3.toInt).toNat < k → Ev (qGG D cA b E) mLand_readPan 3 (0, 0) 122 [(0, .ref o), (1, .ref x1), (2, .int x2), (3, .int x3)] [] (n, sh, Rf, I, L) post := by
  intro k
  induction k with
  | zero =>
    intro x2 x3 I L hR hf hi0 hi1 hm
    exact absurd hm (Nat.not_lt_zero _)
  | succ k ih =>
    intro x2 x3 I L hR hf hi0 hi1 hm
    have g_1 : (0 : Int) ≤ (I o 2).toInt ∧ (I o 2).toInt ≤ 3 := hR.at0 ra 2 (by decide)
    refine sLand_readPan_122 o n sh Rf I L post x1 x2 x3 hok hw hw1 ?_
    unfold fLand_readPan_122
    have l_2 : (5 : Int32).toInt = 5 := rfl
    refine ⟨fun c_3 => ?_, fun c_3 => ?_⟩
    · have d_4 := iLe c_3
      refine y_Tape_closeLine hok hw1 ra1 hR (fun r_5 I_9 L_10 hR_11 fr_12 u_6 u_7 u_8 => ⟨r_5, I_9, L_10, rfl, rfl, ?_⟩)
      have hf_13 : Fm (fun c => (o ≤ c ∧ c < o + 16) ∨ c = x1) I0 I_9 := hf.call fr_12 (fun c hc => by first | exact hc | (dsimp only at hc ⊢; omega) | omega)
      have t_14 : (I_9 o 2).toInt = (I o 2).toInt := by rw [fr_12 o (by first | omega | (dsimp only; omega))]
      have b_15 : 0 ≤ r_5.toInt ∧ r_5.toInt ≤ 1 := u_6.rg
      have l_16 : (0 : Int32).toInt = 0 := rfl
      refine ⟨fun c_17 => ?_, fun c_17 => ?_⟩
      · have d_18 := iNe c_17
        have g_19 : (0 : Int) ≤ (I_9 o 2).toInt ∧ (I_9 o 2).toInt ≤ 3 := hR_11.at0 ra 2 (by decide)
        have l_20 : (1 : Int32).toInt = 1 := rfl
        have a_21 : ((I_9 o 2) + 1).toInt = (I_9 o 2).toInt + (1 : Int32).toInt := tAdd (by omega) (by omega)
        refine fun I_22 e_23 => ?_
        have hR_24 : RI R I_22 := hR_11.up0 (k := 2) ra (by decide) (Or.inl rfl) e_23 (show (0 : Int) ≤ ((I_9 o 2) + 1).toInt by omega) (show ((I_9 o 2) + 1).toInt ≤ (3 : Int) by omega)
        have hf_25 : Fm (fun c => (o ≤ c ∧ c < o + 16) ∨ c = x1) I0 I_22 := hf_13.set (by first | rfl | omega | (dsimp only; omega)) e_23
        have t_26 : (I_22 o 2).toInt = ((I_9 o 2) + 1).toInt := by rw [← e_23, q_u_at]
        exact (hp _ _ _ hR_24 hf_25 (Or.inr rfl))
      · have d_27 := iEq c_17
        exact (hp _ _ _ hR_11 hf_13 (Or.inl rfl))
    · have d_28 := iNle c_3
      refine y_Tape_isNumber hok hw1 ra1 hR (fun r_29 u_30 u_31 => ⟨r_29, I, L, rfl, rfl, ?_⟩)
      have b_32 : 0 ≤ r_29.toInt ∧ r_29.toInt ≤ 1 := u_30.rg
      have l_33 : (0 : Int32).toInt = 0 := rfl
      refine ⟨fun c_34 => ?_, fun c_34 => ?_⟩
      · have d_35 := iEq c_34
        refine y_Tape_closeLine hok hw1 ra1 hR (fun r_36 I_40 L_41 hR_42 fr_43 u_37 u_38 u_39 => ⟨r_36, I_40, L_41, rfl, rfl, ?_⟩)
        have hf_44 : Fm (fun c => (o ≤ c ∧ c < o + 16) ∨ c = x1) I0 I_40 := hf.call fr_43 (fun c hc => by first | exact hc | (dsimp only at hc ⊢; omega) | omega)
        have t_45 : (I_40 o 2).toInt = (I o 2).toInt := by rw [fr_43 o (by first | omega | (dsimp only; omega))]
        have b_46 : 0 ≤ r_36.toInt ∧ r_36.toInt ≤ 1 := u_37.rg
        refine ⟨fun c_47 => ?_, fun c_47 => ?_⟩
        · have d_48 := iNe c_47
          have g_49 : (0 : Int) ≤ (I_40 o 2).toInt ∧ (I_40 o 2).toInt ≤ 3 := hR_42.at0 ra 2 (by decide)
          have l_50 : (1 : Int32).toInt = 1 := rfl
          have a_51 : ((I_40 o 2) + 1).toInt = (I_40 o 2).toInt + (1 : Int32).toInt := tAdd (by omega) (by omega)
          refine fun I_52 e_53 => ?_
          have hR_54 : RI R I_52 := hR_42.up0 (k := 2) ra (by decide) (Or.inl rfl) e_53 (show (0 : Int) ≤ ((I_40 o 2) + 1).toInt by omega) (show ((I_40 o 2) + 1).toInt ≤ (3 : Int) by omega)
          have hf_55 : Fm (fun c => (o ≤ c ∧ c < o + 16) ∨ c = x1) I0 I_52 := hf_44.set (by first | rfl | omega | (dsimp only; omega)) e_53
          have t_56 : (I_52 o 2).toInt = ((I_40 o 2) + 1).toInt := by rw [← e_53, q_u_at]
          exact (hp _ _ _ hR_54 hf_55 (Or.inr rfl))
        · have d_57 := iEq c_47
          exact (hp _ _ _ hR_42 hf_44 (Or.inl rfl))
      · have d_58 := iNe c_34
        refine y_Land_readDistrict hok hw ra hw1 ra1 (by first | omega | (intro h; omega) | exact Or.inl rfl | exact Or.inr rfl) (by first | omega | (intro h; omega) | exact Or.inl rfl | exact Or.inr rfl) hR (fun I_61 L_62 hR_63 fr_64 u_60 => ⟨I_61, L_62, rfl, rfl, ?_⟩)
        have hf_65 : Fm (fun c => (o ≤ c ∧ c < o + 16) ∨ c = x1) I0 I_61 := hf.call fr_64 (fun c hc => by first | exact hc | (dsimp only at hc ⊢; omega) | omega)
        have g_66 : (0 : Int) ≤ (I_61 o 2).toInt ∧ (I_61 o 2).toInt ≤ 3 := hR_63.at0 ra 2 (by decide)
        have a_68 : (x3 + Int32.ofInt 1).toInt = x3.toInt + (1) := tIc (by omega) (by omega) (by decide) (by decide)
        generalize ez_67 : (x3 + Int32.ofInt 1) = z_67 at a_68 ⊢
        exact ih hR_63 hf_65 (by first | omega | (intro h; omega) | exact Or.inl rfl | exact Or.inr rfl) (by first | omega | (intro h; omega) | exact Or.inl rfl | exact Or.inr rfl) (by omega)
set_option maxHeartbeats 4000000 in
set_option maxRecDepth 20000 in
theorem yLand_readPan_37 {D : va_G} {cA : FieldType → ClassId} {b : Nat} {E : State → Prop} {R : qRg} {o n : Nat} {sh : Nat → qC} {Rf : Nat → Nat → Option Nat} {I0 : Nat → Nat → Int32} {L0 : Nat → Nat → Int64} {post : Option Value → qS → Prop} {x1 : Nat} (hok : q_ok (qGG D cA b E)) (hw : WfLand (qGG D cA b E) n sh Rf o) (ra : RALand R o) (hw1 : WfTape (qGG D cA b E) n sh Rf x1) (ra1 : RATape R x1) (hs0 : o + 16 ≤ x1 ∨ x1 + 7 ≤ o) (hq0 : (I0 o 2).toInt ≤ 2) (hq1 : TokOK I0 x1) (hp : ∀ (r : Int32) (I' : Nat → Nat → Int32) (L' : Nat → Nat → Int64), RI R I' → Fm (fun c => (o ≤ c ∧ c < o + 16) ∨ c = x1) I0 I' → (Bz r) → post (some (.int r)) (n, sh, Rf, I', L')) : ∀ (k : Nat) {x2 : Int32} {x3 : Int32} {I : Nat → Nat → Int32} {L : Nat → Nat → Int64}, RI R I → Fm (fun c => (o ≤ c ∧ c < o + 16) ∨ c = x1) I0 I → ((0 : Int) ≤ x3.toInt ∧ x3.toInt ≤ 12) → ((I o 2).toInt ≤ 2) → (12 - x3.toInt).toNat < k → Ev (qGG D cA b E) mLand_readPan 3 (0, 0) 37 [(0, .ref o), (1, .ref x1), (2, .int x2), (3, .int x3)] [] (n, sh, Rf, I, L) post := by
  intro k
  induction k with
  | zero =>
    intro x2 x3 I L hR hf hi0 hi1 hm
    exact absurd hm (Nat.not_lt_zero _)
  | succ k ih =>
    intro x2 x3 I L hR hf hi0 hi1 hm
    have g_69 : (0 : Int) ≤ (I o 2).toInt ∧ (I o 2).toInt ≤ 3 := hR.at0 ra 2 (by decide)
    refine sLand_readPan_37 o n sh Rf I L post x1 x2 x3 hok hw hw1 ?_
    unfold fLand_readPan_37
    have l_70 : (12 : Int32).toInt = 12 := rfl
    refine ⟨fun c_71 => ?_, fun c_71 => ?_⟩
    · have d_72 := iLe c_71
      have g_73 : (0 : Int) ≤ (I o 2).toInt ∧ (I o 2).toInt ≤ 3 := hR.at0 ra 2 (by decide)
      refine fun y_74 e_75 => ?_
      have l_76 : (1 : Int32).toInt = 1 := rfl
      have m_77 := tMax e_75
      refine ⟨tIn (by omega) (by omega), fun I_78 e_79 => ?_⟩
      have hR_80 : RI R I_78 := hR.up ra 9 (by decide) (Or.inl rfl) e_79 (i_lo _) (i_hi _)
      have hf_81 : Fm (fun c => (o ≤ c ∧ c < o + 16) ∨ c = x1) I0 I_78 := hf.set (by first | rfl | omega | (dsimp only; omega)) e_79
      have t_82 : (I_78 o 2).toInt = (I o 2).toInt := by rw [← e_79, q_u_ne (by omega)]
      have l_83 : (7 : Int32).toInt = 7 := rfl
      refine y_Tape_isWord hok hw1 ra1 hR_80 (fun r_84 u_85 => ⟨r_84, I_78, L, rfl, rfl, ?_⟩)
      have b_86 : 0 ≤ r_84.toInt ∧ r_84.toInt ≤ 1 := u_85.rg
      refine y_Tape_passIf hok hw1 ra1 hR_80 (fun I_89 L_90 hR_91 fr_92 u_88 => ⟨I_89, L_90, rfl, rfl, ?_⟩)
      have hf_93 : Fm (fun c => (o ≤ c ∧ c < o + 16) ∨ c = x1) I0 I_89 := hf_81.call fr_92 (fun c hc => by first | exact hc | (dsimp only at hc ⊢; omega) | omega)
      have t_94 : (I_89 o 2).toInt = (I_78 o 2).toInt := by rw [fr_92 o (by first | omega | (dsimp only; omega))]
      refine y_Land_readDistrict hok hw ra hw1 ra1 (by first | omega | (intro h; omega) | exact Or.inl rfl | exact Or.inr rfl) (by first | omega | (intro h; omega) | exact Or.inl rfl | exact Or.inr rfl) hR_91 (fun I_97 L_98 hR_99 fr_100 u_96 => ⟨I_97, L_98, rfl, rfl, ?_⟩)
      have hf_101 : Fm (fun c => (o ≤ c ∧ c < o + 16) ∨ c = x1) I0 I_97 := hf_93.call fr_100 (fun c hc => by first | exact hc | (dsimp only at hc ⊢; omega) | omega)
      have g_102 : (0 : Int) ≤ (I_97 o 2).toInt ∧ (I_97 o 2).toInt ≤ 3 := hR_99.at0 ra 2 (by decide)
      have l_103 : (0 : Int32).toInt = 0 := rfl
      exact yLand_readPan_122 (I0 := I0) (L0 := L0) hok hw ra hw1 ra1 hs0 hq0 hq1 hp  _ hR_99 hf_101 (by first | omega | (intro h; omega) | exact Or.inl rfl | exact Or.inr rfl) (by first | omega | (intro h; omega) | exact Or.inl rfl | exact Or.inr rfl) (Nat.lt_succ_self _)
    · have d_104 := iNle c_71
      have g_105 : (0 : Int) ≤ (I o 2).toInt ∧ (I o 2).toInt ≤ 3 := hR.at0 ra 2 (by decide)
      have a_106 : ((I o 2) * 12).toInt = (I o 2).toInt * 12 := tMul rfl (by omega) (by omega)
      have a_107 : (((I o 2) * 12) + x3).toInt = ((I o 2) * 12).toInt + x3.toInt := tAdd (by omega) (by omega)
      have l_108 : (0 : Int32).toInt = 0 := rfl
      have l_109 : (999 : Int32).toInt = 999 := rfl
      refine y_Tape_takeNumber hok hw1 ra1 (by first | omega | (intro h; omega) | exact Or.inl rfl | exact Or.inr rfl) (by first | omega | (intro h; omega) | exact Or.inl rfl | exact Or.inr rfl) hR (fun r_110 I_114 L_115 hR_116 fr_117 u_111 u_112 u_113 => ⟨r_110, I_114, L_115, rfl, rfl, ?_⟩)
      have hf_118 : Fm (fun c => (o ≤ c ∧ c < o + 16) ∨ c = x1) I0 I_114 := hf.call fr_117 (fun c hc => by first | exact hc | (dsimp only at hc ⊢; omega) | omega)
      have t_119 : (I_114 o 2).toInt = (I o 2).toInt := by rw [fr_117 o (by first | omega | (dsimp only; omega))]
      refine ⟨tIn (by omega) (by omega), fun I_120 e_121 => ?_⟩
      have hR_122 : RI R I_120 := hR_116.up ra 7 (by decide) (Or.inl rfl) e_121 (i_lo _) (i_hi _)
      have hf_123 : Fm (fun c => (o ≤ c ∧ c < o + 16) ∨ c = x1) I0 I_120 := hf_118.set (by first | rfl | omega | (dsimp only; omega)) e_121
      have t_124 : (I_120 o 2).toInt = (I_114 o 2).toInt := by rw [← e_121, q_u_ne (by omega)]
      have g_125 : (0 : Int) ≤ (I_120 o 2).toInt ∧ (I_120 o 2).toInt ≤ 3 := hR_122.at0 ra 2 (by decide)
      have a_126 : ((I_120 o 2) * 12).toInt = (I_120 o 2).toInt * 12 := tMul rfl (by omega) (by omega)
      have a_127 : (((I_120 o 2) * 12) + x3).toInt = ((I_120 o 2) * 12).toInt + x3.toInt := tAdd (by omega) (by omega)
      refine ⟨tIn (by omega) (by omega), ?_⟩
      have a_129 : (x3 + Int32.ofInt 1).toInt = x3.toInt + (1) := tIc (by omega) (by omega) (by decide) (by decide)
      generalize ez_128 : (x3 + Int32.ofInt 1) = z_128 at a_129 ⊢
      exact ih hR_122 hf_123 (by first | omega | (intro h; omega) | exact Or.inl rfl | exact Or.inr rfl) (by first | omega | (intro h; omega) | exact Or.inl rfl | exact Or.inr rfl) (by omega)
set_option maxHeartbeats 4000000 in
set_option maxRecDepth 20000 in
theorem y_Land_readPan {D : va_G} {cA : FieldType → ClassId} {b : Nat} {E : State → Prop} {R : qRg} {o n : Nat} {sh : Nat → qC} {Rf : Nat → Nat → Option Nat} {I0 : Nat → Nat → Int32} {L0 : Nat → Nat → Int64} {post : Option Value → qS → Prop} {x1 : Nat} (hok : q_ok (qGG D cA b E)) (hw : WfLand (qGG D cA b E) n sh Rf o) (ra : RALand R o) (hw1 : WfTape (qGG D cA b E) n sh Rf x1) (ra1 : RATape R x1) (hs0 : o + 16 ≤ x1 ∨ x1 + 7 ≤ o) (hq0 : (I0 o 2).toInt ≤ 2) (hq1 : TokOK I0 x1) (hR : RI R I0) (hp : ∀ (r : Int32) (I' : Nat → Nat → Int32) (L' : Nat → Nat → Int64), RI R I' → Fm (fun c => (o ≤ c ∧ c < o + 16) ∨ c = x1) I0 I' → (Bz r) → post (some (.int r)) (n, sh, Rf, I', L')) : Ev (qGG D cA b E) mLand_readPan 3 (0, 0) 0 (lv_args 0 [.ref o, .ref x1]) [] (n, sh, Rf, I0, L0) post := by
  have hf : Fm (fun c => (o ≤ c ∧ c < o + 16) ∨ c = x1) I0 I0 := Fm.rf
  have g_130 : (0 : Int) ≤ (I0 o 2).toInt ∧ (I0 o 2).toInt ≤ 3 := hR.at0 ra 2 (by decide)
  refine sLand_readPan_0 o n sh Rf I0 L0 post x1 hok hw hw1 ?_
  unfold fLand_readPan_0
  refine y_Tape_step hok hw1 ra1 hR (fun I_133 L_134 hR_135 fr_136 u_132 => ⟨I_133, L_134, rfl, rfl, ?_⟩)
  have hf_137 : Fm (fun c => (o ≤ c ∧ c < o + 16) ∨ c = x1) I0 I_133 := hf.call fr_136 (fun c hc => by first | exact hc | (dsimp only at hc ⊢; omega) | omega)
  have t_138 : (I_133 o 2).toInt = (I0 o 2).toInt := by rw [fr_136 o (by first | omega | (dsimp only; omega))]
  have k_139 : TokOK I_133 x1 := hq1.fr (fr_136 _ (by first | omega | (dsimp only; omega))) (fr_136 _ (by first | omega | (dsimp only; omega)))
  refine y_Land_readName hok hw ra hw1 ra1 (by first | omega | (intro h; omega) | exact Or.inl rfl | exact Or.inr rfl) hR_135 (fun I_146 L_147 hR_148 fr_149 u_141 u_142 u_143 u_144 u_145 => ⟨I_146, L_147, rfl, rfl, ?_⟩)
  have hf_150 : Fm (fun c => (o ≤ c ∧ c < o + 16) ∨ c = x1) I0 I_146 := hf_137.call fr_149 (fun c hc => by first | exact hc | (dsimp only at hc ⊢; omega) | omega)
  have g_151 : (0 : Int) ≤ (I_146 o 2).toInt ∧ (I_146 o 2).toInt ≤ 3 := hR_148.at0 ra 2 (by decide)
  have k_152 : TokOK I_146 x1 := k_139.fr (fr_149 _ (by first | omega | (dsimp only; omega))) (fr_149 _ (by first | omega | (dsimp only; omega)))
  have g_153 : (0 : Int) ≤ (I_146 o 2).toInt ∧ (I_146 o 2).toInt ≤ 3 := hR_148.at0 ra 2 (by decide)
  refine y_Land_readSite hok hw ra hw1 ra1 k_152 hR_148 (fun r_154 I_158 L_159 hR_160 fr_161 u_155 u_156 u_157 => ⟨r_154, I_158, L_159, rfl, rfl, ?_⟩)
  have hf_162 : Fm (fun c => (o ≤ c ∧ c < o + 16) ∨ c = x1) I0 I_158 := hf_150.call fr_161 (fun c hc => by first | exact hc | (dsimp only at hc ⊢; omega) | omega)
  have t_163 : (I_158 o 2).toInt = (I_146 o 2).toInt := by rw [fr_161 o (by first | omega | (dsimp only; omega))]
  have k_164 : TokOK I_158 x1 := k_152.fr (fr_161 _ (by first | omega | (dsimp only; omega))) (fr_161 _ (by first | omega | (dsimp only; omega)))
  refine ⟨tIn (by omega) (by omega), fun I_165 e_166 => ?_⟩
  have hR_167 : RI R I_165 := hR_160.up ra 6 (by decide) (Or.inl rfl) e_166 (i_lo _) (i_hi _)
  have hf_168 : Fm (fun c => (o ≤ c ∧ c < o + 16) ∨ c = x1) I0 I_165 := hf_162.set (by first | rfl | omega | (dsimp only; omega)) e_166
  have t_169 : (I_165 o 2).toInt = (I_158 o 2).toInt := by rw [← e_166, q_u_ne (by omega)]
  have k_170 : TokOK I_165 x1 := k_164.fr (by rw [← e_166]; exact q_u_ne (by omega)) (by rw [← e_166]; exact q_u_ne (by omega))
  have l_171 : (6 : Int32).toInt = 6 := rfl
  refine y_Tape_isWord hok hw1 ra1 hR_167 (fun r_172 u_173 => ⟨r_172, I_165, L_159, rfl, rfl, ?_⟩)
  have b_174 : 0 ≤ r_172.toInt ∧ r_172.toInt ≤ 1 := u_173.rg
  refine y_Tape_passIf hok hw1 ra1 hR_167 (fun I_177 L_178 hR_179 fr_180 u_176 => ⟨I_177, L_178, rfl, rfl, ?_⟩)
  have hf_181 : Fm (fun c => (o ≤ c ∧ c < o + 16) ∨ c = x1) I0 I_177 := hf_168.call fr_180 (fun c hc => by first | exact hc | (dsimp only at hc ⊢; omega) | omega)
  have t_182 : (I_177 o 2).toInt = (I_165 o 2).toInt := by rw [fr_180 o (by first | omega | (dsimp only; omega))]
  have k_183 : TokOK I_177 x1 := k_170.fr (fr_180 _ (by first | omega | (dsimp only; omega))) (fr_180 _ (by first | omega | (dsimp only; omega)))
  have l_184 : (0 : Int32).toInt = 0 := rfl
  exact yLand_readPan_37 (I0 := I0) (L0 := L0) hok hw ra hw1 ra1 hs0 hq0 hq1 hp  _ hR_179 hf_181 (by first | omega | (intro h; omega) | exact Or.inl rfl | exact Or.inr rfl) (by first | omega | (intro h; omega) | exact Or.inl rfl | exact Or.inr rfl) (Nat.lt_succ_self _)
set_option maxHeartbeats 4000000 in
set_option maxRecDepth 20000 in
theorem y_Land_readTown {D : va_G} {cA : FieldType → ClassId} {b : Nat} {E : State → Prop} {R : qRg} {o n : Nat} {sh : Nat → qC} {Rf : Nat → Nat → Option Nat} {I0 : Nat → Nat → Int32} {L0 : Nat → Nat → Int64} {post : Option Value → qS → Prop} {x1 : Nat} (hok : q_ok (qGG D cA b E)) (hw : WfLand (qGG D cA b E) n sh Rf o) (ra : RALand R o) (hw1 : WfTape (qGG D cA b E) n sh Rf x1) (ra1 : RATape R x1) (hs0 : o + 16 ≤ x1 ∨ x1 + 7 ≤ o) (hq0 : (I0 o 3).toInt ≤ 4) (hq1 : TokOK I0 x1) (hR : RI R I0) (hp : ∀ (r : Int32) (I' : Nat → Nat → Int32) (L' : Nat → Nat → Int64), RI R I' → Fm (fun c => (o ≤ c ∧ c < o + 16) ∨ c = x1) I0 I' → (Bz r) → post (some (.int r)) (n, sh, Rf, I', L')) : Ev (qGG D cA b E) mLand_readTown 3 (0, 0) 0 (lv_args 0 [.ref o, .ref x1]) [] (n, sh, Rf, I0, L0) post := by
  have hf : Fm (fun c => (o ≤ c ∧ c < o + 16) ∨ c = x1) I0 I0 := Fm.rf
  have g_1 : (0 : Int) ≤ (I0 o 3).toInt ∧ (I0 o 3).toInt ≤ 5 := hR.at0 ra 3 (by decide)
  have g_2 : (0 : Int) ≤ (I0 x1 7).toInt ∧ (I0 x1 7).toInt ≤ 5 := hR.at0 ra1 7 (by decide)
  refine sLand_readTown_0 o n sh Rf I0 L0 post x1 hok hw hw1 ?_
  unfold fLand_readTown_0
  refine y_Tape_step hok hw1 ra1 hR (fun I_5 L_6 hR_7 fr_8 u_4 => ⟨I_5, L_6, rfl, rfl, ?_⟩)
  have hf_9 : Fm (fun c => (o ≤ c ∧ c < o + 16) ∨ c = x1) I0 I_5 := hf.call fr_8 (fun c hc => by first | exact hc | (dsimp only at hc ⊢; omega) | omega)
  have t_10 : (I_5 o 3).toInt = (I0 o 3).toInt := by rw [fr_8 o (by first | omega | (dsimp only; omega))]
  have g_11 : (0 : Int) ≤ (I_5 x1 7).toInt ∧ (I_5 x1 7).toInt ≤ 5 := hR_7.at0 ra1 7 (by decide)
  have k_12 : TokOK I_5 x1 := hq1.fr (fr_8 _ (by first | omega | (dsimp only; omega))) (fr_8 _ (by first | omega | (dsimp only; omega)))
  refine y_Land_readName hok hw ra hw1 ra1 (by first | omega | (intro h; omega) | exact Or.inl rfl | exact Or.inr rfl) hR_7 (fun I_19 L_20 hR_21 fr_22 u_14 u_15 u_16 u_17 u_18 => ⟨I_19, L_20, rfl, rfl, ?_⟩)
  have hf_23 : Fm (fun c => (o ≤ c ∧ c < o + 16) ∨ c = x1) I0 I_19 := hf_9.call fr_22 (fun c hc => by first | exact hc | (dsimp only at hc ⊢; omega) | omega)
  have g_24 : (0 : Int) ≤ (I_19 o 3).toInt ∧ (I_19 o 3).toInt ≤ 5 := hR_21.at0 ra 3 (by decide)
  have g_25 : (0 : Int) ≤ (I_19 x1 7).toInt ∧ (I_19 x1 7).toInt ≤ 5 := hR_21.at0 ra1 7 (by decide)
  have k_26 : TokOK I_19 x1 := k_12.fr (fr_22 _ (by first | omega | (dsimp only; omega))) (fr_22 _ (by first | omega | (dsimp only; omega)))
  have g_27 : (0 : Int) ≤ (I_19 o 3).toInt ∧ (I_19 o 3).toInt ≤ 5 := hR_21.at0 ra 3 (by decide)
  refine y_Land_readSite hok hw ra hw1 ra1 k_26 hR_21 (fun r_28 I_32 L_33 hR_34 fr_35 u_29 u_30 u_31 => ⟨r_28, I_32, L_33, rfl, rfl, ?_⟩)
  have hf_36 : Fm (fun c => (o ≤ c ∧ c < o + 16) ∨ c = x1) I0 I_32 := hf_23.call fr_35 (fun c hc => by first | exact hc | (dsimp only at hc ⊢; omega) | omega)
  have t_37 : (I_32 o 3).toInt = (I_19 o 3).toInt := by rw [fr_35 o (by first | omega | (dsimp only; omega))]
  have g_38 : (0 : Int) ≤ (I_32 x1 7).toInt ∧ (I_32 x1 7).toInt ≤ 5 := hR_34.at0 ra1 7 (by decide)
  have k_39 : TokOK I_32 x1 := k_26.fr (fr_35 _ (by first | omega | (dsimp only; omega))) (fr_35 _ (by first | omega | (dsimp only; omega)))
  refine ⟨tIn (by omega) (by omega), fun I_40 e_41 => ?_⟩
  have hR_42 : RI R I_40 := hR_34.up ra 10 (by decide) (Or.inl rfl) e_41 (i_lo _) (i_hi _)
  have hf_43 : Fm (fun c => (o ≤ c ∧ c < o + 16) ∨ c = x1) I0 I_40 := hf_36.set (by first | rfl | omega | (dsimp only; omega)) e_41
  have t_44 : (I_40 o 3).toInt = (I_32 o 3).toInt := by rw [← e_41, q_u_ne (by omega)]
  have t_45 : (I_40 x1 7).toInt = (I_32 x1 7).toInt := by rw [← e_41, q_u_ne (sh_ne_a (hw1).1.2.2 (waLand_14 (I := I0) (L := L0) hw).2.2)]
  have k_46 : TokOK I_40 x1 := k_39.fr (by rw [← e_41]; exact q_u_ne (by omega)) (by rw [← e_41]; exact q_u_ne (by omega))
  have g_47 : (0 : Int) ≤ (I_40 o 3).toInt ∧ (I_40 o 3).toInt ≤ 5 := hR_42.at0 ra 3 (by decide)
  have l_48 : (9 : Int32).toInt = 9 := rfl
  have l_49 : (0 : Int32).toInt = 0 := rfl
  have l_50 : (4 : Int32).toInt = 4 := rfl
  refine y_Tape_takeNumberBehind hok hw1 ra1 (by first | omega | (intro h; omega) | exact Or.inl rfl | exact Or.inr rfl) (by first | omega | (intro h; omega) | exact Or.inl rfl | exact Or.inr rfl) hR_42 (fun r_51 I_55 L_56 hR_57 fr_58 u_52 u_53 u_54 => ⟨r_51, I_55, L_56, rfl, rfl, ?_⟩)
  have hf_59 : Fm (fun c => (o ≤ c ∧ c < o + 16) ∨ c = x1) I0 I_55 := hf_43.call fr_58 (fun c hc => by first | exact hc | (dsimp only at hc ⊢; omega) | omega)
  have t_60 : (I_55 o 3).toInt = (I_40 o 3).toInt := by rw [fr_58 o (by first | omega | (dsimp only; omega))]
  have g_61 : (0 : Int) ≤ (I_55 x1 7).toInt ∧ (I_55 x1 7).toInt ≤ 5 := hR_57.at0 ra1 7 (by decide)
  have k_62 : TokOK I_55 x1 := k_46.fr (fr_58 _ (by first | omega | (dsimp only; omega))) (fr_58 _ (by first | omega | (dsimp only; omega)))
  refine ⟨tIn (by omega) (by omega), fun I_63 e_64 => ?_⟩
  have hR_65 : RI R I_63 := hR_57.up ra 11 (by decide) (Or.inl rfl) e_64 (i_lo _) (i_hi _)
  have hf_66 : Fm (fun c => (o ≤ c ∧ c < o + 16) ∨ c = x1) I0 I_63 := hf_59.set (by first | rfl | omega | (dsimp only; omega)) e_64
  have t_67 : (I_63 o 3).toInt = (I_55 o 3).toInt := by rw [← e_64, q_u_ne (by omega)]
  have t_68 : (I_63 x1 7).toInt = (I_55 x1 7).toInt := by rw [← e_64, q_u_ne (sh_ne_a (hw1).1.2.2 (waLand_15 (I := I0) (L := L0) hw).2.2)]
  have k_69 : TokOK I_63 x1 := k_62.fr (by rw [← e_64]; exact q_u_ne (by omega)) (by rw [← e_64]; exact q_u_ne (by omega))
  have g_70 : (0 : Int) ≤ (I_63 o 3).toInt ∧ (I_63 o 3).toInt ≤ 5 := hR_65.at0 ra 3 (by decide)
  have l_71 : (10 : Int32).toInt = 10 := rfl
  have l_72 : (999 : Int32).toInt = 999 := rfl
  refine y_Tape_takeNumberBehind hok hw1 ra1 (by first | omega | (intro h; omega) | exact Or.inl rfl | exact Or.inr rfl) (by first | omega | (intro h; omega) | exact Or.inl rfl | exact Or.inr rfl) hR_65 (fun r_73 I_77 L_78 hR_79 fr_80 u_74 u_75 u_76 => ⟨r_73, I_77, L_78, rfl, rfl, ?_⟩)
  have hf_81 : Fm (fun c => (o ≤ c ∧ c < o + 16) ∨ c = x1) I0 I_77 := hf_66.call fr_80 (fun c hc => by first | exact hc | (dsimp only at hc ⊢; omega) | omega)
  have t_82 : (I_77 o 3).toInt = (I_63 o 3).toInt := by rw [fr_80 o (by first | omega | (dsimp only; omega))]
  have g_83 : (0 : Int) ≤ (I_77 x1 7).toInt ∧ (I_77 x1 7).toInt ≤ 5 := hR_79.at0 ra1 7 (by decide)
  have k_84 : TokOK I_77 x1 := k_69.fr (fr_80 _ (by first | omega | (dsimp only; omega))) (fr_80 _ (by first | omega | (dsimp only; omega)))
  refine ⟨tIn (by omega) (by omega), fun I_85 e_86 => ?_⟩
  have hR_87 : RI R I_85 := hR_79.up ra 12 (by decide) (Or.inl rfl) e_86 (i_lo _) (i_hi _)
  have hf_88 : Fm (fun c => (o ≤ c ∧ c < o + 16) ∨ c = x1) I0 I_85 := hf_81.set (by first | rfl | omega | (dsimp only; omega)) e_86
  have t_89 : (I_85 o 3).toInt = (I_77 o 3).toInt := by rw [← e_86, q_u_ne (by omega)]
  have t_90 : (I_85 x1 7).toInt = (I_77 x1 7).toInt := by rw [← e_86, q_u_ne (sh_ne_a (hw1).1.2.2 (waLand_16 (I := I0) (L := L0) hw).2.2)]
  have k_91 : TokOK I_85 x1 := k_84.fr (by rw [← e_86]; exact q_u_ne (by omega)) (by rw [← e_86]; exact q_u_ne (by omega))
  have g_92 : (0 : Int) ≤ (I_85 o 3).toInt ∧ (I_85 o 3).toInt ≤ 5 := hR_87.at0 ra 3 (by decide)
  have l_93 : (11 : Int32).toInt = 11 := rfl
  have l_94 : (1 : Int32).toInt = 1 := rfl
  refine y_Tape_takeNumberBehind hok hw1 ra1 (by first | omega | (intro h; omega) | exact Or.inl rfl | exact Or.inr rfl) (by first | omega | (intro h; omega) | exact Or.inl rfl | exact Or.inr rfl) hR_87 (fun r_95 I_99 L_100 hR_101 fr_102 u_96 u_97 u_98 => ⟨r_95, I_99, L_100, rfl, rfl, ?_⟩)
  have hf_103 : Fm (fun c => (o ≤ c ∧ c < o + 16) ∨ c = x1) I0 I_99 := hf_88.call fr_102 (fun c hc => by first | exact hc | (dsimp only at hc ⊢; omega) | omega)
  have t_104 : (I_99 o 3).toInt = (I_85 o 3).toInt := by rw [fr_102 o (by first | omega | (dsimp only; omega))]
  have g_105 : (0 : Int) ≤ (I_99 x1 7).toInt ∧ (I_99 x1 7).toInt ≤ 5 := hR_101.at0 ra1 7 (by decide)
  have k_106 : TokOK I_99 x1 := k_91.fr (fr_102 _ (by first | omega | (dsimp only; omega))) (fr_102 _ (by first | omega | (dsimp only; omega)))
  refine ⟨tIn (by omega) (by omega), fun I_107 e_108 => ?_⟩
  have hR_109 : RI R I_107 := hR_101.up ra 13 (by decide) (Or.inl rfl) e_108 (i_lo _) (i_hi _)
  have hf_110 : Fm (fun c => (o ≤ c ∧ c < o + 16) ∨ c = x1) I0 I_107 := hf_103.set (by first | rfl | omega | (dsimp only; omega)) e_108
  have t_111 : (I_107 o 3).toInt = (I_99 o 3).toInt := by rw [← e_108, q_u_ne (by omega)]
  have t_112 : (I_107 x1 7).toInt = (I_99 x1 7).toInt := by rw [← e_108, q_u_ne (sh_ne_a (hw1).1.2.2 (waLand_17 (I := I0) (L := L0) hw).2.2)]
  have k_113 : TokOK I_107 x1 := k_106.fr (by rw [← e_108]; exact q_u_ne (by omega)) (by rw [← e_108]; exact q_u_ne (by omega))
  have g_114 : (0 : Int) ≤ (I_107 o 3).toInt ∧ (I_107 o 3).toInt ≤ 5 := hR_109.at0 ra 3 (by decide)
  have l_115 : (12 : Int32).toInt = 12 := rfl
  refine y_Tape_takeNumberBehind hok hw1 ra1 (by first | omega | (intro h; omega) | exact Or.inl rfl | exact Or.inr rfl) (by first | omega | (intro h; omega) | exact Or.inl rfl | exact Or.inr rfl) hR_109 (fun r_116 I_120 L_121 hR_122 fr_123 u_117 u_118 u_119 => ⟨r_116, I_120, L_121, rfl, rfl, ?_⟩)
  have hf_124 : Fm (fun c => (o ≤ c ∧ c < o + 16) ∨ c = x1) I0 I_120 := hf_110.call fr_123 (fun c hc => by first | exact hc | (dsimp only at hc ⊢; omega) | omega)
  have t_125 : (I_120 o 3).toInt = (I_107 o 3).toInt := by rw [fr_123 o (by first | omega | (dsimp only; omega))]
  have g_126 : (0 : Int) ≤ (I_120 x1 7).toInt ∧ (I_120 x1 7).toInt ≤ 5 := hR_122.at0 ra1 7 (by decide)
  have k_127 : TokOK I_120 x1 := k_113.fr (fr_123 _ (by first | omega | (dsimp only; omega))) (fr_123 _ (by first | omega | (dsimp only; omega)))
  refine ⟨tIn (by omega) (by omega), fun I_128 e_129 => ?_⟩
  have hR_130 : RI R I_128 := hR_122.up ra 14 (by decide) (Or.inl rfl) e_129 (i_lo _) (i_hi _)
  have hf_131 : Fm (fun c => (o ≤ c ∧ c < o + 16) ∨ c = x1) I0 I_128 := hf_124.set (by first | rfl | omega | (dsimp only; omega)) e_129
  have t_132 : (I_128 o 3).toInt = (I_120 o 3).toInt := by rw [← e_129, q_u_ne (by omega)]
  have t_133 : (I_128 x1 7).toInt = (I_120 x1 7).toInt := by rw [← e_129, q_u_ne (sh_ne_a (hw1).1.2.2 (waLand_18 (I := I0) (L := L0) hw).2.2)]
  have k_134 : TokOK I_128 x1 := k_127.fr (by rw [← e_129]; exact q_u_ne (by omega)) (by rw [← e_129]; exact q_u_ne (by omega))
  have g_135 : (0 : Int) ≤ (I_128 o 3).toInt ∧ (I_128 o 3).toInt ≤ 5 := hR_130.at0 ra 3 (by decide)
  have l_136 : (13 : Int32).toInt = 13 := rfl
  have l_137 : (99 : Int32).toInt = 99 := rfl
  refine y_Tape_takeNumberBehind hok hw1 ra1 (by first | omega | (intro h; omega) | exact Or.inl rfl | exact Or.inr rfl) (by first | omega | (intro h; omega) | exact Or.inl rfl | exact Or.inr rfl) hR_130 (fun r_138 I_142 L_143 hR_144 fr_145 u_139 u_140 u_141 => ⟨r_138, I_142, L_143, rfl, rfl, ?_⟩)
  have hf_146 : Fm (fun c => (o ≤ c ∧ c < o + 16) ∨ c = x1) I0 I_142 := hf_131.call fr_145 (fun c hc => by first | exact hc | (dsimp only at hc ⊢; omega) | omega)
  have t_147 : (I_142 o 3).toInt = (I_128 o 3).toInt := by rw [fr_145 o (by first | omega | (dsimp only; omega))]
  have g_148 : (0 : Int) ≤ (I_142 x1 7).toInt ∧ (I_142 x1 7).toInt ≤ 5 := hR_144.at0 ra1 7 (by decide)
  have k_149 : TokOK I_142 x1 := k_134.fr (fr_145 _ (by first | omega | (dsimp only; omega))) (fr_145 _ (by first | omega | (dsimp only; omega)))
  refine ⟨tIn (by omega) (by omega), fun I_150 e_151 => ?_⟩
  have hR_152 : RI R I_150 := hR_144.up ra 15 (by decide) (Or.inl rfl) e_151 (i_lo _) (i_hi _)
  have hf_153 : Fm (fun c => (o ≤ c ∧ c < o + 16) ∨ c = x1) I0 I_150 := hf_146.set (by first | rfl | omega | (dsimp only; omega)) e_151
  have t_154 : (I_150 o 3).toInt = (I_142 o 3).toInt := by rw [← e_151, q_u_ne (by omega)]
  have t_155 : (I_150 x1 7).toInt = (I_142 x1 7).toInt := by rw [← e_151, q_u_ne (sh_ne_a (hw1).1.2.2 (waLand_19 (I := I0) (L := L0) hw).2.2)]
  have k_156 : TokOK I_150 x1 := k_149.fr (by rw [← e_151]; exact q_u_ne (by omega)) (by rw [← e_151]; exact q_u_ne (by omega))
  refine y_Tape_closeLine hok hw1 ra1 hR_152 (fun r_157 I_161 L_162 hR_163 fr_164 u_158 u_159 u_160 => ⟨r_157, I_161, L_162, rfl, rfl, ?_⟩)
  have hf_165 : Fm (fun c => (o ≤ c ∧ c < o + 16) ∨ c = x1) I0 I_161 := hf_153.call fr_164 (fun c hc => by first | exact hc | (dsimp only at hc ⊢; omega) | omega)
  have t_166 : (I_161 o 3).toInt = (I_150 o 3).toInt := by rw [fr_164 o (by first | omega | (dsimp only; omega))]
  have g_167 : (0 : Int) ≤ (I_161 x1 7).toInt ∧ (I_161 x1 7).toInt ≤ 5 := hR_163.at0 ra1 7 (by decide)
  have k_168 : TokOK I_161 x1 := k_156.fr (fr_164 _ (by first | omega | (dsimp only; omega))) (fr_164 _ (by first | omega | (dsimp only; omega)))
  have b_169 : 0 ≤ r_157.toInt ∧ r_157.toInt ≤ 1 := u_158.rg
  refine ⟨fun c_170 => ?_, fun c_170 => ?_⟩
  · have d_171 := iNe c_170
    have g_172 : (0 : Int) ≤ (I_161 o 3).toInt ∧ (I_161 o 3).toInt ≤ 5 := hR_163.at0 ra 3 (by decide)
    have a_173 : ((I_161 o 3) + 1).toInt = (I_161 o 3).toInt + (1 : Int32).toInt := tAdd (by omega) (by omega)
    refine fun I_174 e_175 => ?_
    have hR_176 : RI R I_174 := hR_163.up0 (k := 3) ra (by decide) (Or.inl rfl) e_175 (show (0 : Int) ≤ ((I_161 o 3) + 1).toInt by omega) (show ((I_161 o 3) + 1).toInt ≤ (5 : Int) by omega)
    have hf_177 : Fm (fun c => (o ≤ c ∧ c < o + 16) ∨ c = x1) I0 I_174 := hf_165.set (by first | rfl | omega | (dsimp only; omega)) e_175
    have t_178 : (I_174 o 3).toInt = ((I_161 o 3) + 1).toInt := by rw [← e_175, q_u_at]
    have t_179 : (I_174 x1 7).toInt = (I_161 x1 7).toInt := by rw [← e_175, q_u_ne (sh_ne_o (hw1).1.2.2 (hw).1.2.2 (by decide))]
    have k_180 : TokOK I_174 x1 := k_168.fr (by rw [← e_175]; exact q_u_ne (by omega)) (by rw [← e_175]; exact q_u_ne (by omega))
    exact (hp _ _ _ hR_176 hf_177 (Or.inr rfl))
  · have d_181 := iEq c_170
    exact (hp _ _ _ hR_163 hf_165 (Or.inl rfl))
set_option maxHeartbeats 4000000 in
set_option maxRecDepth 20000 in
theorem y_Land_readLine {D : va_G} {cA : FieldType → ClassId} {b : Nat} {E : State → Prop} {R : qRg} {o n : Nat} {sh : Nat → qC} {Rf : Nat → Nat → Option Nat} {I0 : Nat → Nat → Int32} {L0 : Nat → Nat → Int64} {post : Option Value → qS → Prop} {x1 : Nat} (hok : q_ok (qGG D cA b E)) (hw : WfLand (qGG D cA b E) n sh Rf o) (ra : RALand R o) (hw1 : WfTape (qGG D cA b E) n sh Rf x1) (ra1 : RATape R x1) (hs0 : o + 16 ≤ x1 ∨ x1 + 7 ≤ o) (hq0 : TokOK I0 x1) (hR : RI R I0) (hp : ∀ (r : Int32) (I' : Nat → Nat → Int32) (L' : Nat → Nat → Int64), RI R I' → Fm (fun c => (o ≤ c ∧ c < o + 16) ∨ c = x1) I0 I' → (Bz r) → post (some (.int r)) (n, sh, Rf, I', L')) : Ev (qGG D cA b E) mLand_readLine 4 (0, 0) 0 (lv_args 0 [.ref o, .ref x1]) [] (n, sh, Rf, I0, L0) post := by
  have hf : Fm (fun c => (o ≤ c ∧ c < o + 16) ∨ c = x1) I0 I0 := Fm.rf
  refine sLand_readLine_0 o n sh Rf I0 L0 post x1 hok hw hw1 ?_
  unfold fLand_readLine_0
  have l_1 : (0 : Int32).toInt = 0 := rfl
  refine y_Tape_isWord hok hw1 ra1 hR (fun r_2 u_3 => ⟨r_2, I0, L0, rfl, rfl, ?_⟩)
  have b_4 : 0 ≤ r_2.toInt ∧ r_2.toInt ≤ 1 := u_3.rg
  refine ⟨fun c_5 => ?_, fun c_5 => ?_⟩
  · have d_6 := iEq c_5
    unfold fLand_readLine_23
    have l_7 : (1 : Int32).toInt = 1 := rfl
    refine y_Tape_isWord hok hw1 ra1 hR (fun r_8 u_9 => ⟨r_8, I0, L0, rfl, rfl, ?_⟩)
    have b_10 : 0 ≤ r_8.toInt ∧ r_8.toInt ≤ 1 := u_9.rg
    refine ⟨fun c_11 => ?_, fun c_11 => ?_⟩
    · have d_12 := iEq c_11
      unfold fLand_readLine_45
      have l_13 : (5 : Int32).toInt = 5 := rfl
      refine y_Tape_isWord hok hw1 ra1 hR (fun r_14 u_15 => ⟨r_14, I0, L0, rfl, rfl, ?_⟩)
      have b_16 : 0 ≤ r_14.toInt ∧ r_14.toInt ≤ 1 := u_15.rg
      refine ⟨fun c_17 => ?_, fun c_17 => ?_⟩
      · have d_18 := iEq c_17
        unfold fLand_readLine_67
        have l_19 : (8 : Int32).toInt = 8 := rfl
        refine y_Tape_isWord hok hw1 ra1 hR (fun r_20 u_21 => ⟨r_20, I0, L0, rfl, rfl, ?_⟩)
        have b_22 : 0 ≤ r_20.toInt ∧ r_20.toInt ≤ 1 := u_21.rg
        refine ⟨fun c_23 => ?_, fun c_23 => ?_⟩
        · have d_24 := iEq c_23
          have l_25 : (2 : Int32).toInt = 2 := rfl
          refine y_Tape_refuse hok hw1 ra1 (by first | omega | (intro h; omega) | exact Or.inl rfl | exact Or.inr rfl) hR (fun I_29 L_30 hR_31 fr_32 u_27 u_28 => ⟨I_29, L_30, rfl, rfl, ?_⟩)
          have hf_33 : Fm (fun c => (o ≤ c ∧ c < o + 16) ∨ c = x1) I0 I_29 := hf.call fr_32 (fun c hc => by first | exact hc | (dsimp only at hc ⊢; omega) | omega)
          have k_34 : TokOK I_29 x1 := hq0.fr (fr_32 _ (by first | omega | (dsimp only; omega))) (fr_32 _ (by first | omega | (dsimp only; omega)))
          exact (hp _ _ _ hR_31 hf_33 (Or.inl rfl))
        · have d_35 := iNe c_23
          have g_36 : (0 : Int) ≤ (I0 o 3).toInt ∧ (I0 o 3).toInt ≤ 5 := hR.at0 ra 3 (by decide)
          refine ⟨fun c_37 => ?_, fun c_37 => ?_⟩
          · have d_38 := iLe c_37
            have l_39 : (2 : Int32).toInt = 2 := rfl
            refine y_Tape_refuse hok hw1 ra1 (by first | omega | (intro h; omega) | exact Or.inl rfl | exact Or.inr rfl) hR (fun I_43 L_44 hR_45 fr_46 u_41 u_42 => ⟨I_43, L_44, rfl, rfl, ?_⟩)
            have hf_47 : Fm (fun c => (o ≤ c ∧ c < o + 16) ∨ c = x1) I0 I_43 := hf.call fr_46 (fun c hc => by first | exact hc | (dsimp only at hc ⊢; omega) | omega)
            have t_48 : (I_43 o 3).toInt = (I0 o 3).toInt := by rw [fr_46 o (by first | omega | (dsimp only; omega))]
            have k_49 : TokOK I_43 x1 := hq0.fr (fr_46 _ (by first | omega | (dsimp only; omega))) (fr_46 _ (by first | omega | (dsimp only; omega)))
            exact (hp _ _ _ hR_45 hf_47 (Or.inl rfl))
          · have d_50 := iNle c_37
            refine y_Land_readTown hok hw ra hw1 ra1 (by first | omega | (intro h; omega) | exact Or.inl rfl | exact Or.inr rfl) (by first | omega | (intro h; omega) | exact Or.inl rfl | exact Or.inr rfl) hq0 hR (fun r_51 I_53 L_54 hR_55 fr_56 u_52 => ⟨r_51, I_53, L_54, rfl, rfl, ?_⟩)
            have hf_57 : Fm (fun c => (o ≤ c ∧ c < o + 16) ∨ c = x1) I0 I_53 := hf.call fr_56 (fun c hc => by first | exact hc | (dsimp only at hc ⊢; omega) | omega)
            have g_58 : (0 : Int) ≤ (I_53 o 3).toInt ∧ (I_53 o 3).toInt ≤ 5 := hR_55.at0 ra 3 (by decide)
            have k_59 : TokOK I_53 x1 := hq0.fr (fr_56 _ (by first | omega | (dsimp only; omega))) (fr_56 _ (by first | omega | (dsimp only; omega)))
            have b_60 : 0 ≤ r_51.toInt ∧ r_51.toInt ≤ 1 := u_52.rg
            exact ⟨u_52, (hp _ _ _ hR_55 hf_57 (u_52))⟩
      · have d_61 := iNe c_17
        have g_62 : (0 : Int) ≤ (I0 o 2).toInt ∧ (I0 o 2).toInt ≤ 3 := hR.at0 ra 2 (by decide)
        have l_63 : (3 : Int32).toInt = 3 := rfl
        refine ⟨fun c_64 => ?_, fun c_64 => ?_⟩
        · have d_65 := iLe c_64
          unfold fLand_readLine_67
          have l_66 : (8 : Int32).toInt = 8 := rfl
          refine y_Tape_isWord hok hw1 ra1 hR (fun r_67 u_68 => ⟨r_67, I0, L0, rfl, rfl, ?_⟩)
          have b_69 : 0 ≤ r_67.toInt ∧ r_67.toInt ≤ 1 := u_68.rg
          refine ⟨fun c_70 => ?_, fun c_70 => ?_⟩
          · have d_71 := iEq c_70
            have l_72 : (2 : Int32).toInt = 2 := rfl
            refine y_Tape_refuse hok hw1 ra1 (by first | omega | (intro h; omega) | exact Or.inl rfl | exact Or.inr rfl) hR (fun I_76 L_77 hR_78 fr_79 u_74 u_75 => ⟨I_76, L_77, rfl, rfl, ?_⟩)
            have hf_80 : Fm (fun c => (o ≤ c ∧ c < o + 16) ∨ c = x1) I0 I_76 := hf.call fr_79 (fun c hc => by first | exact hc | (dsimp only at hc ⊢; omega) | omega)
            have t_81 : (I_76 o 2).toInt = (I0 o 2).toInt := by rw [fr_79 o (by first | omega | (dsimp only; omega))]
            have k_82 : TokOK I_76 x1 := hq0.fr (fr_79 _ (by first | omega | (dsimp only; omega))) (fr_79 _ (by first | omega | (dsimp only; omega)))
            exact (hp _ _ _ hR_78 hf_80 (Or.inl rfl))
          · have d_83 := iNe c_70
            have g_84 : (0 : Int) ≤ (I0 o 3).toInt ∧ (I0 o 3).toInt ≤ 5 := hR.at0 ra 3 (by decide)
            refine ⟨fun c_85 => ?_, fun c_85 => ?_⟩
            · have d_86 := iLe c_85
              have l_87 : (2 : Int32).toInt = 2 := rfl
              refine y_Tape_refuse hok hw1 ra1 (by first | omega | (intro h; omega) | exact Or.inl rfl | exact Or.inr rfl) hR (fun I_91 L_92 hR_93 fr_94 u_89 u_90 => ⟨I_91, L_92, rfl, rfl, ?_⟩)
              have hf_95 : Fm (fun c => (o ≤ c ∧ c < o + 16) ∨ c = x1) I0 I_91 := hf.call fr_94 (fun c hc => by first | exact hc | (dsimp only at hc ⊢; omega) | omega)
              have t_96 : (I_91 o 2).toInt = (I0 o 2).toInt := by rw [fr_94 o (by first | omega | (dsimp only; omega))]
              have t_97 : (I_91 o 3).toInt = (I0 o 3).toInt := by rw [fr_94 o (by first | omega | (dsimp only; omega))]
              have k_98 : TokOK I_91 x1 := hq0.fr (fr_94 _ (by first | omega | (dsimp only; omega))) (fr_94 _ (by first | omega | (dsimp only; omega)))
              exact (hp _ _ _ hR_93 hf_95 (Or.inl rfl))
            · have d_99 := iNle c_85
              refine y_Land_readTown hok hw ra hw1 ra1 (by first | omega | (intro h; omega) | exact Or.inl rfl | exact Or.inr rfl) (by first | omega | (intro h; omega) | exact Or.inl rfl | exact Or.inr rfl) hq0 hR (fun r_100 I_102 L_103 hR_104 fr_105 u_101 => ⟨r_100, I_102, L_103, rfl, rfl, ?_⟩)
              have hf_106 : Fm (fun c => (o ≤ c ∧ c < o + 16) ∨ c = x1) I0 I_102 := hf.call fr_105 (fun c hc => by first | exact hc | (dsimp only at hc ⊢; omega) | omega)
              have g_107 : (0 : Int) ≤ (I_102 o 2).toInt ∧ (I_102 o 2).toInt ≤ 3 := hR_104.at0 ra 2 (by decide)
              have g_108 : (0 : Int) ≤ (I_102 o 3).toInt ∧ (I_102 o 3).toInt ≤ 5 := hR_104.at0 ra 3 (by decide)
              have k_109 : TokOK I_102 x1 := hq0.fr (fr_105 _ (by first | omega | (dsimp only; omega))) (fr_105 _ (by first | omega | (dsimp only; omega)))
              have b_110 : 0 ≤ r_100.toInt ∧ r_100.toInt ≤ 1 := u_101.rg
              exact ⟨u_101, (hp _ _ _ hR_104 hf_106 (u_101))⟩
        · have d_111 := iNle c_64
          refine y_Land_readPan hok hw ra hw1 ra1 (by first | omega | (intro h; omega) | exact Or.inl rfl | exact Or.inr rfl) (by first | omega | (intro h; omega) | exact Or.inl rfl | exact Or.inr rfl) hq0 hR (fun r_112 I_114 L_115 hR_116 fr_117 u_113 => ⟨r_112, I_114, L_115, rfl, rfl, ?_⟩)
          have hf_118 : Fm (fun c => (o ≤ c ∧ c < o + 16) ∨ c = x1) I0 I_114 := hf.call fr_117 (fun c hc => by first | exact hc | (dsimp only at hc ⊢; omega) | omega)
          have g_119 : (0 : Int) ≤ (I_114 o 2).toInt ∧ (I_114 o 2).toInt ≤ 3 := hR_116.at0 ra 2 (by decide)
          have k_120 : TokOK I_114 x1 := hq0.fr (fr_117 _ (by first | omega | (dsimp only; omega))) (fr_117 _ (by first | omega | (dsimp only; omega)))
          have b_121 : 0 ≤ r_112.toInt ∧ r_112.toInt ≤ 1 := u_113.rg
          exact ⟨u_113, (hp _ _ _ hR_116 hf_118 (u_113))⟩
    · have d_122 := iNe c_11
      have g_123 : (0 : Int) ≤ (I0 o 1).toInt ∧ (I0 o 1).toInt ≤ 3 := hR.at0 ra 1 (by decide)
      have l_124 : (3 : Int32).toInt = 3 := rfl
      refine ⟨fun c_125 => ?_, fun c_125 => ?_⟩
      · have d_126 := iLe c_125
        unfold fLand_readLine_45
        have l_127 : (5 : Int32).toInt = 5 := rfl
        refine y_Tape_isWord hok hw1 ra1 hR (fun r_128 u_129 => ⟨r_128, I0, L0, rfl, rfl, ?_⟩)
        have b_130 : 0 ≤ r_128.toInt ∧ r_128.toInt ≤ 1 := u_129.rg
        refine ⟨fun c_131 => ?_, fun c_131 => ?_⟩
        · have d_132 := iEq c_131
          unfold fLand_readLine_67
          have l_133 : (8 : Int32).toInt = 8 := rfl
          refine y_Tape_isWord hok hw1 ra1 hR (fun r_134 u_135 => ⟨r_134, I0, L0, rfl, rfl, ?_⟩)
          have b_136 : 0 ≤ r_134.toInt ∧ r_134.toInt ≤ 1 := u_135.rg
          refine ⟨fun c_137 => ?_, fun c_137 => ?_⟩
          · have d_138 := iEq c_137
            have l_139 : (2 : Int32).toInt = 2 := rfl
            refine y_Tape_refuse hok hw1 ra1 (by first | omega | (intro h; omega) | exact Or.inl rfl | exact Or.inr rfl) hR (fun I_143 L_144 hR_145 fr_146 u_141 u_142 => ⟨I_143, L_144, rfl, rfl, ?_⟩)
            have hf_147 : Fm (fun c => (o ≤ c ∧ c < o + 16) ∨ c = x1) I0 I_143 := hf.call fr_146 (fun c hc => by first | exact hc | (dsimp only at hc ⊢; omega) | omega)
            have t_148 : (I_143 o 1).toInt = (I0 o 1).toInt := by rw [fr_146 o (by first | omega | (dsimp only; omega))]
            have k_149 : TokOK I_143 x1 := hq0.fr (fr_146 _ (by first | omega | (dsimp only; omega))) (fr_146 _ (by first | omega | (dsimp only; omega)))
            exact (hp _ _ _ hR_145 hf_147 (Or.inl rfl))
          · have d_150 := iNe c_137
            have g_151 : (0 : Int) ≤ (I0 o 3).toInt ∧ (I0 o 3).toInt ≤ 5 := hR.at0 ra 3 (by decide)
            refine ⟨fun c_152 => ?_, fun c_152 => ?_⟩
            · have d_153 := iLe c_152
              have l_154 : (2 : Int32).toInt = 2 := rfl
              refine y_Tape_refuse hok hw1 ra1 (by first | omega | (intro h; omega) | exact Or.inl rfl | exact Or.inr rfl) hR (fun I_158 L_159 hR_160 fr_161 u_156 u_157 => ⟨I_158, L_159, rfl, rfl, ?_⟩)
              have hf_162 : Fm (fun c => (o ≤ c ∧ c < o + 16) ∨ c = x1) I0 I_158 := hf.call fr_161 (fun c hc => by first | exact hc | (dsimp only at hc ⊢; omega) | omega)
              have t_163 : (I_158 o 1).toInt = (I0 o 1).toInt := by rw [fr_161 o (by first | omega | (dsimp only; omega))]
              have t_164 : (I_158 o 3).toInt = (I0 o 3).toInt := by rw [fr_161 o (by first | omega | (dsimp only; omega))]
              have k_165 : TokOK I_158 x1 := hq0.fr (fr_161 _ (by first | omega | (dsimp only; omega))) (fr_161 _ (by first | omega | (dsimp only; omega)))
              exact (hp _ _ _ hR_160 hf_162 (Or.inl rfl))
            · have d_166 := iNle c_152
              refine y_Land_readTown hok hw ra hw1 ra1 (by first | omega | (intro h; omega) | exact Or.inl rfl | exact Or.inr rfl) (by first | omega | (intro h; omega) | exact Or.inl rfl | exact Or.inr rfl) hq0 hR (fun r_167 I_169 L_170 hR_171 fr_172 u_168 => ⟨r_167, I_169, L_170, rfl, rfl, ?_⟩)
              have hf_173 : Fm (fun c => (o ≤ c ∧ c < o + 16) ∨ c = x1) I0 I_169 := hf.call fr_172 (fun c hc => by first | exact hc | (dsimp only at hc ⊢; omega) | omega)
              have g_174 : (0 : Int) ≤ (I_169 o 1).toInt ∧ (I_169 o 1).toInt ≤ 3 := hR_171.at0 ra 1 (by decide)
              have g_175 : (0 : Int) ≤ (I_169 o 3).toInt ∧ (I_169 o 3).toInt ≤ 5 := hR_171.at0 ra 3 (by decide)
              have k_176 : TokOK I_169 x1 := hq0.fr (fr_172 _ (by first | omega | (dsimp only; omega))) (fr_172 _ (by first | omega | (dsimp only; omega)))
              have b_177 : 0 ≤ r_167.toInt ∧ r_167.toInt ≤ 1 := u_168.rg
              exact ⟨u_168, (hp _ _ _ hR_171 hf_173 (u_168))⟩
        · have d_178 := iNe c_131
          have g_179 : (0 : Int) ≤ (I0 o 2).toInt ∧ (I0 o 2).toInt ≤ 3 := hR.at0 ra 2 (by decide)
          refine ⟨fun c_180 => ?_, fun c_180 => ?_⟩
          · have d_181 := iLe c_180
            unfold fLand_readLine_67
            have l_182 : (8 : Int32).toInt = 8 := rfl
            refine y_Tape_isWord hok hw1 ra1 hR (fun r_183 u_184 => ⟨r_183, I0, L0, rfl, rfl, ?_⟩)
            have b_185 : 0 ≤ r_183.toInt ∧ r_183.toInt ≤ 1 := u_184.rg
            refine ⟨fun c_186 => ?_, fun c_186 => ?_⟩
            · have d_187 := iEq c_186
              have l_188 : (2 : Int32).toInt = 2 := rfl
              refine y_Tape_refuse hok hw1 ra1 (by first | omega | (intro h; omega) | exact Or.inl rfl | exact Or.inr rfl) hR (fun I_192 L_193 hR_194 fr_195 u_190 u_191 => ⟨I_192, L_193, rfl, rfl, ?_⟩)
              have hf_196 : Fm (fun c => (o ≤ c ∧ c < o + 16) ∨ c = x1) I0 I_192 := hf.call fr_195 (fun c hc => by first | exact hc | (dsimp only at hc ⊢; omega) | omega)
              have t_197 : (I_192 o 1).toInt = (I0 o 1).toInt := by rw [fr_195 o (by first | omega | (dsimp only; omega))]
              have t_198 : (I_192 o 2).toInt = (I0 o 2).toInt := by rw [fr_195 o (by first | omega | (dsimp only; omega))]
              have k_199 : TokOK I_192 x1 := hq0.fr (fr_195 _ (by first | omega | (dsimp only; omega))) (fr_195 _ (by first | omega | (dsimp only; omega)))
              exact (hp _ _ _ hR_194 hf_196 (Or.inl rfl))
            · have d_200 := iNe c_186
              have g_201 : (0 : Int) ≤ (I0 o 3).toInt ∧ (I0 o 3).toInt ≤ 5 := hR.at0 ra 3 (by decide)
              refine ⟨fun c_202 => ?_, fun c_202 => ?_⟩
              · have d_203 := iLe c_202
                have l_204 : (2 : Int32).toInt = 2 := rfl
                refine y_Tape_refuse hok hw1 ra1 (by first | omega | (intro h; omega) | exact Or.inl rfl | exact Or.inr rfl) hR (fun I_208 L_209 hR_210 fr_211 u_206 u_207 => ⟨I_208, L_209, rfl, rfl, ?_⟩)
                have hf_212 : Fm (fun c => (o ≤ c ∧ c < o + 16) ∨ c = x1) I0 I_208 := hf.call fr_211 (fun c hc => by first | exact hc | (dsimp only at hc ⊢; omega) | omega)
                have t_213 : (I_208 o 1).toInt = (I0 o 1).toInt := by rw [fr_211 o (by first | omega | (dsimp only; omega))]
                have t_214 : (I_208 o 2).toInt = (I0 o 2).toInt := by rw [fr_211 o (by first | omega | (dsimp only; omega))]
                have t_215 : (I_208 o 3).toInt = (I0 o 3).toInt := by rw [fr_211 o (by first | omega | (dsimp only; omega))]
                have k_216 : TokOK I_208 x1 := hq0.fr (fr_211 _ (by first | omega | (dsimp only; omega))) (fr_211 _ (by first | omega | (dsimp only; omega)))
                exact (hp _ _ _ hR_210 hf_212 (Or.inl rfl))
              · have d_217 := iNle c_202
                refine y_Land_readTown hok hw ra hw1 ra1 (by first | omega | (intro h; omega) | exact Or.inl rfl | exact Or.inr rfl) (by first | omega | (intro h; omega) | exact Or.inl rfl | exact Or.inr rfl) hq0 hR (fun r_218 I_220 L_221 hR_222 fr_223 u_219 => ⟨r_218, I_220, L_221, rfl, rfl, ?_⟩)
                have hf_224 : Fm (fun c => (o ≤ c ∧ c < o + 16) ∨ c = x1) I0 I_220 := hf.call fr_223 (fun c hc => by first | exact hc | (dsimp only at hc ⊢; omega) | omega)
                have g_225 : (0 : Int) ≤ (I_220 o 1).toInt ∧ (I_220 o 1).toInt ≤ 3 := hR_222.at0 ra 1 (by decide)
                have g_226 : (0 : Int) ≤ (I_220 o 2).toInt ∧ (I_220 o 2).toInt ≤ 3 := hR_222.at0 ra 2 (by decide)
                have g_227 : (0 : Int) ≤ (I_220 o 3).toInt ∧ (I_220 o 3).toInt ≤ 5 := hR_222.at0 ra 3 (by decide)
                have k_228 : TokOK I_220 x1 := hq0.fr (fr_223 _ (by first | omega | (dsimp only; omega))) (fr_223 _ (by first | omega | (dsimp only; omega)))
                have b_229 : 0 ≤ r_218.toInt ∧ r_218.toInt ≤ 1 := u_219.rg
                exact ⟨u_219, (hp _ _ _ hR_222 hf_224 (u_219))⟩
          · have d_230 := iNle c_180
            refine y_Land_readPan hok hw ra hw1 ra1 (by first | omega | (intro h; omega) | exact Or.inl rfl | exact Or.inr rfl) (by first | omega | (intro h; omega) | exact Or.inl rfl | exact Or.inr rfl) hq0 hR (fun r_231 I_233 L_234 hR_235 fr_236 u_232 => ⟨r_231, I_233, L_234, rfl, rfl, ?_⟩)
            have hf_237 : Fm (fun c => (o ≤ c ∧ c < o + 16) ∨ c = x1) I0 I_233 := hf.call fr_236 (fun c hc => by first | exact hc | (dsimp only at hc ⊢; omega) | omega)
            have g_238 : (0 : Int) ≤ (I_233 o 1).toInt ∧ (I_233 o 1).toInt ≤ 3 := hR_235.at0 ra 1 (by decide)
            have g_239 : (0 : Int) ≤ (I_233 o 2).toInt ∧ (I_233 o 2).toInt ≤ 3 := hR_235.at0 ra 2 (by decide)
            have k_240 : TokOK I_233 x1 := hq0.fr (fr_236 _ (by first | omega | (dsimp only; omega))) (fr_236 _ (by first | omega | (dsimp only; omega)))
            have b_241 : 0 ≤ r_231.toInt ∧ r_231.toInt ≤ 1 := u_232.rg
            exact ⟨u_232, (hp _ _ _ hR_235 hf_237 (u_232))⟩
      · have d_242 := iNle c_125
        refine y_Land_readFort hok hw ra hw1 ra1 (by first | omega | (intro h; omega) | exact Or.inl rfl | exact Or.inr rfl) (by first | omega | (intro h; omega) | exact Or.inl rfl | exact Or.inr rfl) hq0 hR (fun r_243 I_245 L_246 hR_247 fr_248 u_244 => ⟨r_243, I_245, L_246, rfl, rfl, ?_⟩)
        have hf_249 : Fm (fun c => (o ≤ c ∧ c < o + 16) ∨ c = x1) I0 I_245 := hf.call fr_248 (fun c hc => by first | exact hc | (dsimp only at hc ⊢; omega) | omega)
        have g_250 : (0 : Int) ≤ (I_245 o 1).toInt ∧ (I_245 o 1).toInt ≤ 3 := hR_247.at0 ra 1 (by decide)
        have k_251 : TokOK I_245 x1 := hq0.fr (fr_248 _ (by first | omega | (dsimp only; omega))) (fr_248 _ (by first | omega | (dsimp only; omega)))
        have b_252 : 0 ≤ r_243.toInt ∧ r_243.toInt ≤ 1 := u_244.rg
        exact ⟨u_244, (hp _ _ _ hR_247 hf_249 (u_244))⟩
  · have d_253 := iNe c_5
    have g_254 : (0 : Int) ≤ (I0 o 0).toInt ∧ (I0 o 0).toInt ≤ 24 := hR.at0 ra 0 (by decide)
    have l_255 : (24 : Int32).toInt = 24 := rfl
    refine ⟨fun c_256 => ?_, fun c_256 => ?_⟩
    · have d_257 := iLe c_256
      unfold fLand_readLine_23
      have l_258 : (1 : Int32).toInt = 1 := rfl
      refine y_Tape_isWord hok hw1 ra1 hR (fun r_259 u_260 => ⟨r_259, I0, L0, rfl, rfl, ?_⟩)
      have b_261 : 0 ≤ r_259.toInt ∧ r_259.toInt ≤ 1 := u_260.rg
      refine ⟨fun c_262 => ?_, fun c_262 => ?_⟩
      · have d_263 := iEq c_262
        unfold fLand_readLine_45
        have l_264 : (5 : Int32).toInt = 5 := rfl
        refine y_Tape_isWord hok hw1 ra1 hR (fun r_265 u_266 => ⟨r_265, I0, L0, rfl, rfl, ?_⟩)
        have b_267 : 0 ≤ r_265.toInt ∧ r_265.toInt ≤ 1 := u_266.rg
        refine ⟨fun c_268 => ?_, fun c_268 => ?_⟩
        · have d_269 := iEq c_268
          unfold fLand_readLine_67
          have l_270 : (8 : Int32).toInt = 8 := rfl
          refine y_Tape_isWord hok hw1 ra1 hR (fun r_271 u_272 => ⟨r_271, I0, L0, rfl, rfl, ?_⟩)
          have b_273 : 0 ≤ r_271.toInt ∧ r_271.toInt ≤ 1 := u_272.rg
          refine ⟨fun c_274 => ?_, fun c_274 => ?_⟩
          · have d_275 := iEq c_274
            have l_276 : (2 : Int32).toInt = 2 := rfl
            refine y_Tape_refuse hok hw1 ra1 (by first | omega | (intro h; omega) | exact Or.inl rfl | exact Or.inr rfl) hR (fun I_280 L_281 hR_282 fr_283 u_278 u_279 => ⟨I_280, L_281, rfl, rfl, ?_⟩)
            have hf_284 : Fm (fun c => (o ≤ c ∧ c < o + 16) ∨ c = x1) I0 I_280 := hf.call fr_283 (fun c hc => by first | exact hc | (dsimp only at hc ⊢; omega) | omega)
            have t_285 : (I_280 o 0).toInt = (I0 o 0).toInt := by rw [fr_283 o (by first | omega | (dsimp only; omega))]
            have k_286 : TokOK I_280 x1 := hq0.fr (fr_283 _ (by first | omega | (dsimp only; omega))) (fr_283 _ (by first | omega | (dsimp only; omega)))
            exact (hp _ _ _ hR_282 hf_284 (Or.inl rfl))
          · have d_287 := iNe c_274
            have g_288 : (0 : Int) ≤ (I0 o 3).toInt ∧ (I0 o 3).toInt ≤ 5 := hR.at0 ra 3 (by decide)
            refine ⟨fun c_289 => ?_, fun c_289 => ?_⟩
            · have d_290 := iLe c_289
              have l_291 : (2 : Int32).toInt = 2 := rfl
              refine y_Tape_refuse hok hw1 ra1 (by first | omega | (intro h; omega) | exact Or.inl rfl | exact Or.inr rfl) hR (fun I_295 L_296 hR_297 fr_298 u_293 u_294 => ⟨I_295, L_296, rfl, rfl, ?_⟩)
              have hf_299 : Fm (fun c => (o ≤ c ∧ c < o + 16) ∨ c = x1) I0 I_295 := hf.call fr_298 (fun c hc => by first | exact hc | (dsimp only at hc ⊢; omega) | omega)
              have t_300 : (I_295 o 0).toInt = (I0 o 0).toInt := by rw [fr_298 o (by first | omega | (dsimp only; omega))]
              have t_301 : (I_295 o 3).toInt = (I0 o 3).toInt := by rw [fr_298 o (by first | omega | (dsimp only; omega))]
              have k_302 : TokOK I_295 x1 := hq0.fr (fr_298 _ (by first | omega | (dsimp only; omega))) (fr_298 _ (by first | omega | (dsimp only; omega)))
              exact (hp _ _ _ hR_297 hf_299 (Or.inl rfl))
            · have d_303 := iNle c_289
              refine y_Land_readTown hok hw ra hw1 ra1 (by first | omega | (intro h; omega) | exact Or.inl rfl | exact Or.inr rfl) (by first | omega | (intro h; omega) | exact Or.inl rfl | exact Or.inr rfl) hq0 hR (fun r_304 I_306 L_307 hR_308 fr_309 u_305 => ⟨r_304, I_306, L_307, rfl, rfl, ?_⟩)
              have hf_310 : Fm (fun c => (o ≤ c ∧ c < o + 16) ∨ c = x1) I0 I_306 := hf.call fr_309 (fun c hc => by first | exact hc | (dsimp only at hc ⊢; omega) | omega)
              have g_311 : (0 : Int) ≤ (I_306 o 0).toInt ∧ (I_306 o 0).toInt ≤ 24 := hR_308.at0 ra 0 (by decide)
              have g_312 : (0 : Int) ≤ (I_306 o 3).toInt ∧ (I_306 o 3).toInt ≤ 5 := hR_308.at0 ra 3 (by decide)
              have k_313 : TokOK I_306 x1 := hq0.fr (fr_309 _ (by first | omega | (dsimp only; omega))) (fr_309 _ (by first | omega | (dsimp only; omega)))
              have b_314 : 0 ≤ r_304.toInt ∧ r_304.toInt ≤ 1 := u_305.rg
              exact ⟨u_305, (hp _ _ _ hR_308 hf_310 (u_305))⟩
        · have d_315 := iNe c_268
          have g_316 : (0 : Int) ≤ (I0 o 2).toInt ∧ (I0 o 2).toInt ≤ 3 := hR.at0 ra 2 (by decide)
          have l_317 : (3 : Int32).toInt = 3 := rfl
          refine ⟨fun c_318 => ?_, fun c_318 => ?_⟩
          · have d_319 := iLe c_318
            unfold fLand_readLine_67
            have l_320 : (8 : Int32).toInt = 8 := rfl
            refine y_Tape_isWord hok hw1 ra1 hR (fun r_321 u_322 => ⟨r_321, I0, L0, rfl, rfl, ?_⟩)
            have b_323 : 0 ≤ r_321.toInt ∧ r_321.toInt ≤ 1 := u_322.rg
            refine ⟨fun c_324 => ?_, fun c_324 => ?_⟩
            · have d_325 := iEq c_324
              have l_326 : (2 : Int32).toInt = 2 := rfl
              refine y_Tape_refuse hok hw1 ra1 (by first | omega | (intro h; omega) | exact Or.inl rfl | exact Or.inr rfl) hR (fun I_330 L_331 hR_332 fr_333 u_328 u_329 => ⟨I_330, L_331, rfl, rfl, ?_⟩)
              have hf_334 : Fm (fun c => (o ≤ c ∧ c < o + 16) ∨ c = x1) I0 I_330 := hf.call fr_333 (fun c hc => by first | exact hc | (dsimp only at hc ⊢; omega) | omega)
              have t_335 : (I_330 o 0).toInt = (I0 o 0).toInt := by rw [fr_333 o (by first | omega | (dsimp only; omega))]
              have t_336 : (I_330 o 2).toInt = (I0 o 2).toInt := by rw [fr_333 o (by first | omega | (dsimp only; omega))]
              have k_337 : TokOK I_330 x1 := hq0.fr (fr_333 _ (by first | omega | (dsimp only; omega))) (fr_333 _ (by first | omega | (dsimp only; omega)))
              exact (hp _ _ _ hR_332 hf_334 (Or.inl rfl))
            · have d_338 := iNe c_324
              have g_339 : (0 : Int) ≤ (I0 o 3).toInt ∧ (I0 o 3).toInt ≤ 5 := hR.at0 ra 3 (by decide)
              refine ⟨fun c_340 => ?_, fun c_340 => ?_⟩
              · have d_341 := iLe c_340
                have l_342 : (2 : Int32).toInt = 2 := rfl
                refine y_Tape_refuse hok hw1 ra1 (by first | omega | (intro h; omega) | exact Or.inl rfl | exact Or.inr rfl) hR (fun I_346 L_347 hR_348 fr_349 u_344 u_345 => ⟨I_346, L_347, rfl, rfl, ?_⟩)
                have hf_350 : Fm (fun c => (o ≤ c ∧ c < o + 16) ∨ c = x1) I0 I_346 := hf.call fr_349 (fun c hc => by first | exact hc | (dsimp only at hc ⊢; omega) | omega)
                have t_351 : (I_346 o 0).toInt = (I0 o 0).toInt := by rw [fr_349 o (by first | omega | (dsimp only; omega))]
                have t_352 : (I_346 o 2).toInt = (I0 o 2).toInt := by rw [fr_349 o (by first | omega | (dsimp only; omega))]
                have t_353 : (I_346 o 3).toInt = (I0 o 3).toInt := by rw [fr_349 o (by first | omega | (dsimp only; omega))]
                have k_354 : TokOK I_346 x1 := hq0.fr (fr_349 _ (by first | omega | (dsimp only; omega))) (fr_349 _ (by first | omega | (dsimp only; omega)))
                exact (hp _ _ _ hR_348 hf_350 (Or.inl rfl))
              · have d_355 := iNle c_340
                refine y_Land_readTown hok hw ra hw1 ra1 (by first | omega | (intro h; omega) | exact Or.inl rfl | exact Or.inr rfl) (by first | omega | (intro h; omega) | exact Or.inl rfl | exact Or.inr rfl) hq0 hR (fun r_356 I_358 L_359 hR_360 fr_361 u_357 => ⟨r_356, I_358, L_359, rfl, rfl, ?_⟩)
                have hf_362 : Fm (fun c => (o ≤ c ∧ c < o + 16) ∨ c = x1) I0 I_358 := hf.call fr_361 (fun c hc => by first | exact hc | (dsimp only at hc ⊢; omega) | omega)
                have g_363 : (0 : Int) ≤ (I_358 o 0).toInt ∧ (I_358 o 0).toInt ≤ 24 := hR_360.at0 ra 0 (by decide)
                have g_364 : (0 : Int) ≤ (I_358 o 2).toInt ∧ (I_358 o 2).toInt ≤ 3 := hR_360.at0 ra 2 (by decide)
                have g_365 : (0 : Int) ≤ (I_358 o 3).toInt ∧ (I_358 o 3).toInt ≤ 5 := hR_360.at0 ra 3 (by decide)
                have k_366 : TokOK I_358 x1 := hq0.fr (fr_361 _ (by first | omega | (dsimp only; omega))) (fr_361 _ (by first | omega | (dsimp only; omega)))
                have b_367 : 0 ≤ r_356.toInt ∧ r_356.toInt ≤ 1 := u_357.rg
                exact ⟨u_357, (hp _ _ _ hR_360 hf_362 (u_357))⟩
          · have d_368 := iNle c_318
            refine y_Land_readPan hok hw ra hw1 ra1 (by first | omega | (intro h; omega) | exact Or.inl rfl | exact Or.inr rfl) (by first | omega | (intro h; omega) | exact Or.inl rfl | exact Or.inr rfl) hq0 hR (fun r_369 I_371 L_372 hR_373 fr_374 u_370 => ⟨r_369, I_371, L_372, rfl, rfl, ?_⟩)
            have hf_375 : Fm (fun c => (o ≤ c ∧ c < o + 16) ∨ c = x1) I0 I_371 := hf.call fr_374 (fun c hc => by first | exact hc | (dsimp only at hc ⊢; omega) | omega)
            have g_376 : (0 : Int) ≤ (I_371 o 0).toInt ∧ (I_371 o 0).toInt ≤ 24 := hR_373.at0 ra 0 (by decide)
            have g_377 : (0 : Int) ≤ (I_371 o 2).toInt ∧ (I_371 o 2).toInt ≤ 3 := hR_373.at0 ra 2 (by decide)
            have k_378 : TokOK I_371 x1 := hq0.fr (fr_374 _ (by first | omega | (dsimp only; omega))) (fr_374 _ (by first | omega | (dsimp only; omega)))
            have b_379 : 0 ≤ r_369.toInt ∧ r_369.toInt ≤ 1 := u_370.rg
            exact ⟨u_370, (hp _ _ _ hR_373 hf_375 (u_370))⟩
      · have d_380 := iNe c_262
        have g_381 : (0 : Int) ≤ (I0 o 1).toInt ∧ (I0 o 1).toInt ≤ 3 := hR.at0 ra 1 (by decide)
        have l_382 : (3 : Int32).toInt = 3 := rfl
        refine ⟨fun c_383 => ?_, fun c_383 => ?_⟩
        · have d_384 := iLe c_383
          unfold fLand_readLine_45
          have l_385 : (5 : Int32).toInt = 5 := rfl
          refine y_Tape_isWord hok hw1 ra1 hR (fun r_386 u_387 => ⟨r_386, I0, L0, rfl, rfl, ?_⟩)
          have b_388 : 0 ≤ r_386.toInt ∧ r_386.toInt ≤ 1 := u_387.rg
          refine ⟨fun c_389 => ?_, fun c_389 => ?_⟩
          · have d_390 := iEq c_389
            unfold fLand_readLine_67
            have l_391 : (8 : Int32).toInt = 8 := rfl
            refine y_Tape_isWord hok hw1 ra1 hR (fun r_392 u_393 => ⟨r_392, I0, L0, rfl, rfl, ?_⟩)
            have b_394 : 0 ≤ r_392.toInt ∧ r_392.toInt ≤ 1 := u_393.rg
            refine ⟨fun c_395 => ?_, fun c_395 => ?_⟩
            · have d_396 := iEq c_395
              have l_397 : (2 : Int32).toInt = 2 := rfl
              refine y_Tape_refuse hok hw1 ra1 (by first | omega | (intro h; omega) | exact Or.inl rfl | exact Or.inr rfl) hR (fun I_401 L_402 hR_403 fr_404 u_399 u_400 => ⟨I_401, L_402, rfl, rfl, ?_⟩)
              have hf_405 : Fm (fun c => (o ≤ c ∧ c < o + 16) ∨ c = x1) I0 I_401 := hf.call fr_404 (fun c hc => by first | exact hc | (dsimp only at hc ⊢; omega) | omega)
              have t_406 : (I_401 o 0).toInt = (I0 o 0).toInt := by rw [fr_404 o (by first | omega | (dsimp only; omega))]
              have t_407 : (I_401 o 1).toInt = (I0 o 1).toInt := by rw [fr_404 o (by first | omega | (dsimp only; omega))]
              have k_408 : TokOK I_401 x1 := hq0.fr (fr_404 _ (by first | omega | (dsimp only; omega))) (fr_404 _ (by first | omega | (dsimp only; omega)))
              exact (hp _ _ _ hR_403 hf_405 (Or.inl rfl))
            · have d_409 := iNe c_395
              have g_410 : (0 : Int) ≤ (I0 o 3).toInt ∧ (I0 o 3).toInt ≤ 5 := hR.at0 ra 3 (by decide)
              refine ⟨fun c_411 => ?_, fun c_411 => ?_⟩
              · have d_412 := iLe c_411
                have l_413 : (2 : Int32).toInt = 2 := rfl
                refine y_Tape_refuse hok hw1 ra1 (by first | omega | (intro h; omega) | exact Or.inl rfl | exact Or.inr rfl) hR (fun I_417 L_418 hR_419 fr_420 u_415 u_416 => ⟨I_417, L_418, rfl, rfl, ?_⟩)
                have hf_421 : Fm (fun c => (o ≤ c ∧ c < o + 16) ∨ c = x1) I0 I_417 := hf.call fr_420 (fun c hc => by first | exact hc | (dsimp only at hc ⊢; omega) | omega)
                have t_422 : (I_417 o 0).toInt = (I0 o 0).toInt := by rw [fr_420 o (by first | omega | (dsimp only; omega))]
                have t_423 : (I_417 o 1).toInt = (I0 o 1).toInt := by rw [fr_420 o (by first | omega | (dsimp only; omega))]
                have t_424 : (I_417 o 3).toInt = (I0 o 3).toInt := by rw [fr_420 o (by first | omega | (dsimp only; omega))]
                have k_425 : TokOK I_417 x1 := hq0.fr (fr_420 _ (by first | omega | (dsimp only; omega))) (fr_420 _ (by first | omega | (dsimp only; omega)))
                exact (hp _ _ _ hR_419 hf_421 (Or.inl rfl))
              · have d_426 := iNle c_411
                refine y_Land_readTown hok hw ra hw1 ra1 (by first | omega | (intro h; omega) | exact Or.inl rfl | exact Or.inr rfl) (by first | omega | (intro h; omega) | exact Or.inl rfl | exact Or.inr rfl) hq0 hR (fun r_427 I_429 L_430 hR_431 fr_432 u_428 => ⟨r_427, I_429, L_430, rfl, rfl, ?_⟩)
                have hf_433 : Fm (fun c => (o ≤ c ∧ c < o + 16) ∨ c = x1) I0 I_429 := hf.call fr_432 (fun c hc => by first | exact hc | (dsimp only at hc ⊢; omega) | omega)
                have g_434 : (0 : Int) ≤ (I_429 o 0).toInt ∧ (I_429 o 0).toInt ≤ 24 := hR_431.at0 ra 0 (by decide)
                have g_435 : (0 : Int) ≤ (I_429 o 1).toInt ∧ (I_429 o 1).toInt ≤ 3 := hR_431.at0 ra 1 (by decide)
                have g_436 : (0 : Int) ≤ (I_429 o 3).toInt ∧ (I_429 o 3).toInt ≤ 5 := hR_431.at0 ra 3 (by decide)
                have k_437 : TokOK I_429 x1 := hq0.fr (fr_432 _ (by first | omega | (dsimp only; omega))) (fr_432 _ (by first | omega | (dsimp only; omega)))
                have b_438 : 0 ≤ r_427.toInt ∧ r_427.toInt ≤ 1 := u_428.rg
                exact ⟨u_428, (hp _ _ _ hR_431 hf_433 (u_428))⟩
          · have d_439 := iNe c_389
            have g_440 : (0 : Int) ≤ (I0 o 2).toInt ∧ (I0 o 2).toInt ≤ 3 := hR.at0 ra 2 (by decide)
            refine ⟨fun c_441 => ?_, fun c_441 => ?_⟩
            · have d_442 := iLe c_441
              unfold fLand_readLine_67
              have l_443 : (8 : Int32).toInt = 8 := rfl
              refine y_Tape_isWord hok hw1 ra1 hR (fun r_444 u_445 => ⟨r_444, I0, L0, rfl, rfl, ?_⟩)
              have b_446 : 0 ≤ r_444.toInt ∧ r_444.toInt ≤ 1 := u_445.rg
              refine ⟨fun c_447 => ?_, fun c_447 => ?_⟩
              · have d_448 := iEq c_447
                have l_449 : (2 : Int32).toInt = 2 := rfl
                refine y_Tape_refuse hok hw1 ra1 (by first | omega | (intro h; omega) | exact Or.inl rfl | exact Or.inr rfl) hR (fun I_453 L_454 hR_455 fr_456 u_451 u_452 => ⟨I_453, L_454, rfl, rfl, ?_⟩)
                have hf_457 : Fm (fun c => (o ≤ c ∧ c < o + 16) ∨ c = x1) I0 I_453 := hf.call fr_456 (fun c hc => by first | exact hc | (dsimp only at hc ⊢; omega) | omega)
                have t_458 : (I_453 o 0).toInt = (I0 o 0).toInt := by rw [fr_456 o (by first | omega | (dsimp only; omega))]
                have t_459 : (I_453 o 1).toInt = (I0 o 1).toInt := by rw [fr_456 o (by first | omega | (dsimp only; omega))]
                have t_460 : (I_453 o 2).toInt = (I0 o 2).toInt := by rw [fr_456 o (by first | omega | (dsimp only; omega))]
                have k_461 : TokOK I_453 x1 := hq0.fr (fr_456 _ (by first | omega | (dsimp only; omega))) (fr_456 _ (by first | omega | (dsimp only; omega)))
                exact (hp _ _ _ hR_455 hf_457 (Or.inl rfl))
              · have d_462 := iNe c_447
                have g_463 : (0 : Int) ≤ (I0 o 3).toInt ∧ (I0 o 3).toInt ≤ 5 := hR.at0 ra 3 (by decide)
                refine ⟨fun c_464 => ?_, fun c_464 => ?_⟩
                · have d_465 := iLe c_464
                  have l_466 : (2 : Int32).toInt = 2 := rfl
                  refine y_Tape_refuse hok hw1 ra1 (by first | omega | (intro h; omega) | exact Or.inl rfl | exact Or.inr rfl) hR (fun I_470 L_471 hR_472 fr_473 u_468 u_469 => ⟨I_470, L_471, rfl, rfl, ?_⟩)
                  have hf_474 : Fm (fun c => (o ≤ c ∧ c < o + 16) ∨ c = x1) I0 I_470 := hf.call fr_473 (fun c hc => by first | exact hc | (dsimp only at hc ⊢; omega) | omega)
                  have t_475 : (I_470 o 0).toInt = (I0 o 0).toInt := by rw [fr_473 o (by first | omega | (dsimp only; omega))]
                  have t_476 : (I_470 o 1).toInt = (I0 o 1).toInt := by rw [fr_473 o (by first | omega | (dsimp only; omega))]
                  have t_477 : (I_470 o 2).toInt = (I0 o 2).toInt := by rw [fr_473 o (by first | omega | (dsimp only; omega))]
                  have t_478 : (I_470 o 3).toInt = (I0 o 3).toInt := by rw [fr_473 o (by first | omega | (dsimp only; omega))]
                  have k_479 : TokOK I_470 x1 := hq0.fr (fr_473 _ (by first | omega | (dsimp only; omega))) (fr_473 _ (by first | omega | (dsimp only; omega)))
                  exact (hp _ _ _ hR_472 hf_474 (Or.inl rfl))
                · have d_480 := iNle c_464
                  refine y_Land_readTown hok hw ra hw1 ra1 (by first | omega | (intro h; omega) | exact Or.inl rfl | exact Or.inr rfl) (by first | omega | (intro h; omega) | exact Or.inl rfl | exact Or.inr rfl) hq0 hR (fun r_481 I_483 L_484 hR_485 fr_486 u_482 => ⟨r_481, I_483, L_484, rfl, rfl, ?_⟩)
                  have hf_487 : Fm (fun c => (o ≤ c ∧ c < o + 16) ∨ c = x1) I0 I_483 := hf.call fr_486 (fun c hc => by first | exact hc | (dsimp only at hc ⊢; omega) | omega)
                  have g_488 : (0 : Int) ≤ (I_483 o 0).toInt ∧ (I_483 o 0).toInt ≤ 24 := hR_485.at0 ra 0 (by decide)
                  have g_489 : (0 : Int) ≤ (I_483 o 1).toInt ∧ (I_483 o 1).toInt ≤ 3 := hR_485.at0 ra 1 (by decide)
                  have g_490 : (0 : Int) ≤ (I_483 o 2).toInt ∧ (I_483 o 2).toInt ≤ 3 := hR_485.at0 ra 2 (by decide)
                  have g_491 : (0 : Int) ≤ (I_483 o 3).toInt ∧ (I_483 o 3).toInt ≤ 5 := hR_485.at0 ra 3 (by decide)
                  have k_492 : TokOK I_483 x1 := hq0.fr (fr_486 _ (by first | omega | (dsimp only; omega))) (fr_486 _ (by first | omega | (dsimp only; omega)))
                  have b_493 : 0 ≤ r_481.toInt ∧ r_481.toInt ≤ 1 := u_482.rg
                  exact ⟨u_482, (hp _ _ _ hR_485 hf_487 (u_482))⟩
            · have d_494 := iNle c_441
              refine y_Land_readPan hok hw ra hw1 ra1 (by first | omega | (intro h; omega) | exact Or.inl rfl | exact Or.inr rfl) (by first | omega | (intro h; omega) | exact Or.inl rfl | exact Or.inr rfl) hq0 hR (fun r_495 I_497 L_498 hR_499 fr_500 u_496 => ⟨r_495, I_497, L_498, rfl, rfl, ?_⟩)
              have hf_501 : Fm (fun c => (o ≤ c ∧ c < o + 16) ∨ c = x1) I0 I_497 := hf.call fr_500 (fun c hc => by first | exact hc | (dsimp only at hc ⊢; omega) | omega)
              have g_502 : (0 : Int) ≤ (I_497 o 0).toInt ∧ (I_497 o 0).toInt ≤ 24 := hR_499.at0 ra 0 (by decide)
              have g_503 : (0 : Int) ≤ (I_497 o 1).toInt ∧ (I_497 o 1).toInt ≤ 3 := hR_499.at0 ra 1 (by decide)
              have g_504 : (0 : Int) ≤ (I_497 o 2).toInt ∧ (I_497 o 2).toInt ≤ 3 := hR_499.at0 ra 2 (by decide)
              have k_505 : TokOK I_497 x1 := hq0.fr (fr_500 _ (by first | omega | (dsimp only; omega))) (fr_500 _ (by first | omega | (dsimp only; omega)))
              have b_506 : 0 ≤ r_495.toInt ∧ r_495.toInt ≤ 1 := u_496.rg
              exact ⟨u_496, (hp _ _ _ hR_499 hf_501 (u_496))⟩
        · have d_507 := iNle c_383
          refine y_Land_readFort hok hw ra hw1 ra1 (by first | omega | (intro h; omega) | exact Or.inl rfl | exact Or.inr rfl) (by first | omega | (intro h; omega) | exact Or.inl rfl | exact Or.inr rfl) hq0 hR (fun r_508 I_510 L_511 hR_512 fr_513 u_509 => ⟨r_508, I_510, L_511, rfl, rfl, ?_⟩)
          have hf_514 : Fm (fun c => (o ≤ c ∧ c < o + 16) ∨ c = x1) I0 I_510 := hf.call fr_513 (fun c hc => by first | exact hc | (dsimp only at hc ⊢; omega) | omega)
          have g_515 : (0 : Int) ≤ (I_510 o 0).toInt ∧ (I_510 o 0).toInt ≤ 24 := hR_512.at0 ra 0 (by decide)
          have g_516 : (0 : Int) ≤ (I_510 o 1).toInt ∧ (I_510 o 1).toInt ≤ 3 := hR_512.at0 ra 1 (by decide)
          have k_517 : TokOK I_510 x1 := hq0.fr (fr_513 _ (by first | omega | (dsimp only; omega))) (fr_513 _ (by first | omega | (dsimp only; omega)))
          have b_518 : 0 ≤ r_508.toInt ∧ r_508.toInt ≤ 1 := u_509.rg
          exact ⟨u_509, (hp _ _ _ hR_512 hf_514 (u_509))⟩
    · have d_519 := iNle c_256
      refine y_Land_readRoad hok hw ra hw1 ra1 (by first | omega | (intro h; omega) | exact Or.inl rfl | exact Or.inr rfl) (by first | omega | (intro h; omega) | exact Or.inl rfl | exact Or.inr rfl) hq0 hR (fun r_520 I_522 L_523 hR_524 fr_525 u_521 => ⟨r_520, I_522, L_523, rfl, rfl, ?_⟩)
      have hf_526 : Fm (fun c => (o ≤ c ∧ c < o + 16) ∨ c = x1) I0 I_522 := hf.call fr_525 (fun c hc => by first | exact hc | (dsimp only at hc ⊢; omega) | omega)
      have g_527 : (0 : Int) ≤ (I_522 o 0).toInt ∧ (I_522 o 0).toInt ≤ 24 := hR_524.at0 ra 0 (by decide)
      have k_528 : TokOK I_522 x1 := hq0.fr (fr_525 _ (by first | omega | (dsimp only; omega))) (fr_525 _ (by first | omega | (dsimp only; omega)))
      have b_529 : 0 ≤ r_520.toInt ∧ r_520.toInt ≤ 1 := u_521.rg
      exact ⟨u_521, (hp _ _ _ hR_524 hf_526 (u_521))⟩
