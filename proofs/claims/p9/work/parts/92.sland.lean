/-! Safety of Land: by program (spec.py). -/
set_option maxHeartbeats 4000000 in
set_option maxRecDepth 20000 in
theorem yLand_clear_43 {D : va_G} {cA : FieldType → ClassId} {b : Nat} {E : State → Prop} {R : qRg} {o n : Nat} {sh : Nat → qC} {Rf : Nat → Nat → Option Nat} {I0 : Nat → Nat → Int32} {L0 : Nat → Nat → Int64} {post : Option Value → qS → Prop} (hok : q_ok (qGG D cA b E)) (hw : WfLand (qGG D cA b E) n sh Rf o) (ra : RALand R o) (hp : ∀ (I' : Nat → Nat → Int32) (L' : Nat → Nat → Int64), RI R I' → Fm (fun c => (o ≤ c ∧ c < o + 16)) I0 I' → post none (n, sh, Rf, I', L')) : ∀ (k : Nat) {x1 : Int32} {I : Nat → Nat → Int32} {L : Nat → Nat → Int64}, RI R I → Fm (fun c => (o ≤ c ∧ c < o + 16)) I0 I → ((0 : Int) ≤ x1.toInt ∧ x1.toInt ≤ 16) → (16 - x1.toInt).toNat < k → Ev (qGG D cA b E) mLand_clear 1 (0, 0) 43 [(0, .ref o), (1, .int x1)] [] (n, sh, Rf, I, L) post := by
  intro k
  induction k with
  | zero =>
    intro x1 I L hR hf hi0 hm
    exact absurd hm (Nat.not_lt_zero _)
  | succ k ih =>
    intro x1 I L hR hf hi0 hm
    refine sLand_clear_43 o n sh Rf I L post x1 hok hw ?_
    unfold fLand_clear_43
    have l_1 : (16 : Int32).toInt = 16 := rfl
    refine ⟨fun c_2 => ?_, fun c_2 => ?_⟩
    · have d_3 := iLe c_2
      exact (hp _ _ hR hf )
    · have d_4 := iNle c_2
      have a_5 : (x1 * 16).toInt = x1.toInt * 16 := tMul rfl (by omega) (by omega)
      have a_6 : ((x1 * 16) + x1).toInt = (x1 * 16).toInt + x1.toInt := tAdd (by omega) (by omega)
      have l_7 : (0 : Int32).toInt = 0 := rfl
      refine ⟨tIn (by omega) (by omega), fun I_8 e_9 => ?_⟩
      have hR_10 : RI R I_8 := hR.up ra 2 (by decide) e_9 (i_lo _) (i_hi _)
      have hf_11 : Fm (fun c => (o ≤ c ∧ c < o + 16)) I0 I_8 := hf.set (by first | rfl | omega | (dsimp only; omega)) e_9
      have a_13 : (x1 + Int32.ofInt 1).toInt = x1.toInt + (1) := tIc (by omega) (by omega) (by decide) (by decide)
      generalize (x1 + Int32.ofInt 1) = z_12 at a_13 ⊢
      exact ih hR_10 hf_11 (by omega) (by omega)
set_option maxHeartbeats 4000000 in
set_option maxRecDepth 20000 in
theorem y_Land_clear {D : va_G} {cA : FieldType → ClassId} {b : Nat} {E : State → Prop} {R : qRg} {o n : Nat} {sh : Nat → qC} {Rf : Nat → Nat → Option Nat} {I0 : Nat → Nat → Int32} {L0 : Nat → Nat → Int64} {post : Option Value → qS → Prop} (hok : q_ok (qGG D cA b E)) (hw : WfLand (qGG D cA b E) n sh Rf o) (ra : RALand R o) (hR : RI R I0) (hp : ∀ (I' : Nat → Nat → Int32) (L' : Nat → Nat → Int64), RI R I' → Fm (fun c => (o ≤ c ∧ c < o + 16)) I0 I' → post none (n, sh, Rf, I', L')) : Ev (qGG D cA b E) mLand_clear 1 (0, 0) 0 (lv_args 0 [.ref o]) [] (n, sh, Rf, I0, L0) post := by
  have hf : Fm (fun c => (o ≤ c ∧ c < o + 16)) I0 I0 := Fm.rf
  refine sLand_clear_0 o n sh Rf I0 L0 post  hok hw ?_
  unfold fLand_clear_0
  have l_14 : (0 : Int32).toInt = 0 := rfl
  refine fun I_15 e_16 => ?_
  have hR_17 : RI R I_15 := hR.up0 ra (by decide) e_16 (show (0 : Int) ≤ (0 : Int32).toInt by omega) (show (0 : Int32).toInt ≤ (24 : Int) by omega)
  have hf_18 : Fm (fun c => (o ≤ c ∧ c < o + 16)) I0 I_15 := hf.set (by first | rfl | omega | (dsimp only; omega)) e_16
  have t_19 : (I_15 o 0).toInt = (0 : Int32).toInt := by rw [← e_16, q_u_at]
  refine fun I_20 e_21 => ?_
  have hR_22 : RI R I_20 := hR_17.up0 ra (by decide) e_21 (show (0 : Int) ≤ (0 : Int32).toInt by omega) (show (0 : Int32).toInt ≤ (3 : Int) by omega)
  have hf_23 : Fm (fun c => (o ≤ c ∧ c < o + 16)) I0 I_20 := hf_18.set (by first | rfl | omega | (dsimp only; omega)) e_21
  have t_24 : (I_20 o 0).toInt = (I_15 o 0).toInt := by rw [← e_21, q_u_k (by decide)]
  have t_25 : (I_20 o 1).toInt = (0 : Int32).toInt := by rw [← e_21, q_u_at]
  refine fun I_26 e_27 => ?_
  have hR_28 : RI R I_26 := hR_22.up0 ra (by decide) e_27 (show (0 : Int) ≤ (0 : Int32).toInt by omega) (show (0 : Int32).toInt ≤ (3 : Int) by omega)
  have hf_29 : Fm (fun c => (o ≤ c ∧ c < o + 16)) I0 I_26 := hf_23.set (by first | rfl | omega | (dsimp only; omega)) e_27
  have t_30 : (I_26 o 0).toInt = (I_20 o 0).toInt := by rw [← e_27, q_u_k (by decide)]
  have t_31 : (I_26 o 1).toInt = (I_20 o 1).toInt := by rw [← e_27, q_u_k (by decide)]
  have t_32 : (I_26 o 2).toInt = (0 : Int32).toInt := by rw [← e_27, q_u_at]
  refine fun I_33 e_34 => ?_
  have hR_35 : RI R I_33 := hR_28.up0 ra (by decide) e_34 (show (0 : Int) ≤ (0 : Int32).toInt by omega) (show (0 : Int32).toInt ≤ (5 : Int) by omega)
  have hf_36 : Fm (fun c => (o ≤ c ∧ c < o + 16)) I0 I_33 := hf_29.set (by first | rfl | omega | (dsimp only; omega)) e_34
  have t_37 : (I_33 o 0).toInt = (I_26 o 0).toInt := by rw [← e_34, q_u_k (by decide)]
  have t_38 : (I_33 o 1).toInt = (I_26 o 1).toInt := by rw [← e_34, q_u_k (by decide)]
  have t_39 : (I_33 o 2).toInt = (I_26 o 2).toInt := by rw [← e_34, q_u_k (by decide)]
  have t_40 : (I_33 o 3).toInt = (0 : Int32).toInt := by rw [← e_34, q_u_at]
  refine fun I_41 e_42 => ?_
  have hR_43 : RI R I_41 := hR_35.up0 ra (by decide) e_42 (show (0 : Int) ≤ (0 : Int32).toInt by omega) (show (0 : Int32).toInt ≤ (11 : Int) by omega)
  have hf_44 : Fm (fun c => (o ≤ c ∧ c < o + 16)) I0 I_41 := hf_36.set (by first | rfl | omega | (dsimp only; omega)) e_42
  have t_45 : (I_41 o 0).toInt = (I_33 o 0).toInt := by rw [← e_42, q_u_k (by decide)]
  have t_46 : (I_41 o 1).toInt = (I_33 o 1).toInt := by rw [← e_42, q_u_k (by decide)]
  have t_47 : (I_41 o 2).toInt = (I_33 o 2).toInt := by rw [← e_42, q_u_k (by decide)]
  have t_48 : (I_41 o 3).toInt = (I_33 o 3).toInt := by rw [← e_42, q_u_k (by decide)]
  have t_49 : (I_41 o 4).toInt = (0 : Int32).toInt := by rw [← e_42, q_u_at]
  refine y_fill hok (fun _ _ => waLand_12 hw) (by omega) (fun I_50 ne_51 _ eq_52 => ⟨I_50, L0, rfl, rfl, ?_⟩)
  have hR_53 : RI R I_50 := hR_43.row ra 8 (by decide) (fun _ => ⟨(i_lo _), (i_hi _)⟩) ne_51 eq_52
  have hf_54 : Fm (fun c => (o ≤ c ∧ c < o + 16)) I0 I_50 := hf_44.call (M' := fun c => c = (o + 8)) ne_51 (fun c hc => by first | exact hc | (dsimp only at hc ⊢; omega) | omega)
  have t_55 : (I_50 o 0).toInt = (I_41 o 0).toInt := by rw [ne_51 o (by omega)]
  have t_56 : (I_50 o 1).toInt = (I_41 o 1).toInt := by rw [ne_51 o (by omega)]
  have t_57 : (I_50 o 2).toInt = (I_41 o 2).toInt := by rw [ne_51 o (by omega)]
  have t_58 : (I_50 o 3).toInt = (I_41 o 3).toInt := by rw [ne_51 o (by omega)]
  have t_59 : (I_50 o 4).toInt = (I_41 o 4).toInt := by rw [ne_51 o (by omega)]
  have l_60 : (-1 : Int32).toInt = -1 := rfl
  refine y_fill hok (fun _ _ => waLand_6 hw) (by omega) (fun I_61 ne_62 _ eq_63 => ⟨I_61, L0, rfl, rfl, ?_⟩)
  have hR_64 : RI R I_61 := hR_53.row ra 2 (by decide) (fun _ => ⟨(i_lo _), (i_hi _)⟩) ne_62 eq_63
  have hf_65 : Fm (fun c => (o ≤ c ∧ c < o + 16)) I0 I_61 := hf_54.call (M' := fun c => c = (o + 2)) ne_62 (fun c hc => by first | exact hc | (dsimp only at hc ⊢; omega) | omega)
  have t_66 : (I_61 o 0).toInt = (I_50 o 0).toInt := by rw [ne_62 o (by omega)]
  have t_67 : (I_61 o 1).toInt = (I_50 o 1).toInt := by rw [ne_62 o (by omega)]
  have t_68 : (I_61 o 2).toInt = (I_50 o 2).toInt := by rw [ne_62 o (by omega)]
  have t_69 : (I_61 o 3).toInt = (I_50 o 3).toInt := by rw [ne_62 o (by omega)]
  have t_70 : (I_61 o 4).toInt = (I_50 o 4).toInt := by rw [ne_62 o (by omega)]
  exact yLand_clear_43 (I0 := I0) (L0 := L0) hok hw ra hp  _ hR_64 hf_65 (by omega) (Nat.lt_succ_self _)
set_option maxHeartbeats 4000000 in
set_option maxRecDepth 20000 in
theorem y_Land_daysBetween {D : va_G} {cA : FieldType → ClassId} {b : Nat} {E : State → Prop} {R : qRg} {o n : Nat} {sh : Nat → qC} {Rf : Nat → Nat → Option Nat} {I0 : Nat → Nat → Int32} {L0 : Nat → Nat → Int64} {post : Option Value → qS → Prop} {p1 : Int32} {p2 : Int32} (hok : q_ok (qGG D cA b E)) (hw : WfLand (qGG D cA b E) n sh Rf o) (ra : RALand R o) (hR : RI R I0) (hp : ∀ (r : Int32) , post (some (.int r)) (n, sh, Rf, I0, L0)) : Ev (qGG D cA b E) mLand_daysBetween 0 (0, 0) 0 (lv_args 0 [.ref o, .int p1, .int p2]) [] (n, sh, Rf, I0, L0) post := by
  refine sLand_daysBetween_0 o n sh Rf I0 L0 post p1 p2 hok hw ?_
  unfold fLand_daysBetween_0
  have l_1 : (0 : Int32).toInt = 0 := rfl
  refine ⟨fun c_2 => ?_, fun c_2 => ?_⟩
  · have d_3 := iLt c_2
    have l_4 : (-1 : Int32).toInt = -1 := rfl
    exact (hp _ )
  · have d_5 := iNlt c_2
    have l_6 : (16 : Int32).toInt = 16 := rfl
    refine ⟨fun c_7 => ?_, fun c_7 => ?_⟩
    · have d_8 := iLe c_7
      have l_9 : (-1 : Int32).toInt = -1 := rfl
      exact (hp _ )
    · have d_10 := iNle c_7
      refine ⟨fun c_11 => ?_, fun c_11 => ?_⟩
      · have d_12 := iLt c_11
        have l_13 : (-1 : Int32).toInt = -1 := rfl
        exact (hp _ )
      · have d_14 := iNlt c_11
        refine ⟨fun c_15 => ?_, fun c_15 => ?_⟩
        · have d_16 := iLt c_15
          have a_17 : (p1 * 16).toInt = p1.toInt * 16 := tMul rfl (by omega) (by omega)
          have a_18 : ((p1 * 16) + p2).toInt = (p1 * 16).toInt + p2.toInt := tAdd (by omega) (by omega)
          refine ⟨tIn (by omega) (by omega), ?_⟩
          exact (hp _ )
        · have d_19 := iNlt c_15
          have l_20 : (-1 : Int32).toInt = -1 := rfl
          exact (hp _ )
set_option maxHeartbeats 4000000 in
set_option maxRecDepth 20000 in
theorem y_Land_serves {D : va_G} {cA : FieldType → ClassId} {b : Nat} {E : State → Prop} {R : qRg} {o n : Nat} {sh : Nat → qC} {Rf : Nat → Nat → Option Nat} {I0 : Nat → Nat → Int32} {L0 : Nat → Nat → Int64} {post : Option Value → qS → Prop} {p1 : Int32} {p2 : Int32} (hok : q_ok (qGG D cA b E)) (hw : WfLand (qGG D cA b E) n sh Rf o) (ra : RALand R o) (hq0 : (0 : Int) ≤ p1.toInt ∧ p1.toInt ≤ 2) (hR : RI R I0) (hp : ∀ (r : Int32) , (Bz r) → post (some (.int r)) (n, sh, Rf, I0, L0)) : Ev (qGG D cA b E) mLand_serves 0 (0, 0) 0 (lv_args 0 [.ref o, .int p1, .int p2]) [] (n, sh, Rf, I0, L0) post := by
  refine sLand_serves_0 o n sh Rf I0 L0 post p1 p2 hok hw ?_
  unfold fLand_serves_0
  have l_1 : (0 : Int32).toInt = 0 := rfl
  refine ⟨fun c_2 => ?_, fun c_2 => ?_⟩
  · have d_3 := iLt c_2
    exact (hp _ (Or.inl rfl))
  · have d_4 := iNlt c_2
    have l_5 : (5 : Int32).toInt = 5 := rfl
    refine ⟨fun c_6 => ?_, fun c_6 => ?_⟩
    · have d_7 := iLe c_6
      exact (hp _ (Or.inl rfl))
    · have d_8 := iNle c_6
      have a_9 : (p1 * 5).toInt = p1.toInt * 5 := tMul rfl (by omega) (by omega)
      have a_10 : ((p1 * 5) + p2).toInt = (p1 * 5).toInt + p2.toInt := tAdd (by omega) (by omega)
      refine ⟨tIn (by omega) (by omega), ?_⟩
      refine ⟨fun c_11 => ?_, fun c_11 => ?_⟩
      · have d_12 := iEq c_11
        exact (hp _ (Or.inl rfl))
      · have d_13 := iNe c_11
        have l_14 : (1 : Int32).toInt = 1 := rfl
        exact (hp _ (Or.inr rfl))
set_option maxHeartbeats 4000000 in
set_option maxRecDepth 20000 in
theorem y_Land_shorten {D : va_G} {cA : FieldType → ClassId} {b : Nat} {E : State → Prop} {R : qRg} {o n : Nat} {sh : Nat → qC} {Rf : Nat → Nat → Option Nat} {I0 : Nat → Nat → Int32} {L0 : Nat → Nat → Int64} {post : Option Value → qS → Prop} {p1 : Int32} {p2 : Int32} {p3 : Int32} (hok : q_ok (qGG D cA b E)) (hw : WfLand (qGG D cA b E) n sh Rf o) (ra : RALand R o) (hq0 : (0 : Int) ≤ p1.toInt ∧ p1.toInt ≤ 15) (hq1 : (0 : Int) ≤ p2.toInt ∧ p2.toInt ≤ 15) (hR : RI R I0) (hp : ∀ (I' : Nat → Nat → Int32) (L' : Nat → Nat → Int64), RI R I' → Fm (fun c => (o ≤ c ∧ c < o + 16)) I0 I' → ((I' o 0).toInt = (I0 o 0).toInt) → ((I' o 1).toInt = (I0 o 1).toInt) → ((I' o 2).toInt = (I0 o 2).toInt) → ((I' o 3).toInt = (I0 o 3).toInt) → ((I' o 4).toInt = (I0 o 4).toInt) → post none (n, sh, Rf, I', L')) : Ev (qGG D cA b E) mLand_shorten 1 (0, 0) 0 (lv_args 0 [.ref o, .int p1, .int p2, .int p3]) [] (n, sh, Rf, I0, L0) post := by
  have hf : Fm (fun c => (o ≤ c ∧ c < o + 16)) I0 I0 := Fm.rf
  refine sLand_shorten_0 o n sh Rf I0 L0 post p1 p2 p3 hok hw ?_
  unfold fLand_shorten_0
  refine y_Land_daysBetween hok hw ra hR (fun r_1  => ⟨r_1, I0, L0, rfl, rfl, ?_⟩)
  have l_2 : (-1 : Int32).toInt = -1 := rfl
  refine ⟨fun c_3 => ?_, fun c_3 => ?_⟩
  · have d_4 := iEq c_3
    unfold fLand_shorten_20
    have l_5 : (16 : Int32).toInt = 16 := rfl
    have a_6 : (p1 * 16).toInt = p1.toInt * 16 := tMul rfl (by omega) (by omega)
    have a_7 : ((p1 * 16) + p2).toInt = (p1 * 16).toInt + p2.toInt := tAdd (by omega) (by omega)
    refine ⟨tIn (by omega) (by omega), fun I_8 e_9 => ?_⟩
    have hR_10 : RI R I_8 := hR.up ra 2 (by decide) e_9 (i_lo _) (i_hi _)
    have hf_11 : Fm (fun c => (o ≤ c ∧ c < o + 16)) I0 I_8 := hf.set (by first | rfl | omega | (dsimp only; omega)) e_9
    have t_12 : (I_8 o 0).toInt = (I0 o 0).toInt := by rw [← e_9, q_u_ne (by omega)]
    have t_13 : (I_8 o 1).toInt = (I0 o 1).toInt := by rw [← e_9, q_u_ne (by omega)]
    have t_14 : (I_8 o 2).toInt = (I0 o 2).toInt := by rw [← e_9, q_u_ne (by omega)]
    have t_15 : (I_8 o 3).toInt = (I0 o 3).toInt := by rw [← e_9, q_u_ne (by omega)]
    have t_16 : (I_8 o 4).toInt = (I0 o 4).toInt := by rw [← e_9, q_u_ne (by omega)]
    exact (hp _ _ hR_10 hf_11 (by omega) (by omega) (by omega) (by omega) (by omega))
  · have d_17 := iNe c_3
    refine ⟨fun c_18 => ?_, fun c_18 => ?_⟩
    · have d_19 := iLe c_18
      exact (hp _ _ hR hf (by omega) (by omega) (by omega) (by omega) (by omega))
    · have d_20 := iNle c_18
      unfold fLand_shorten_20
      have l_21 : (16 : Int32).toInt = 16 := rfl
      have a_22 : (p1 * 16).toInt = p1.toInt * 16 := tMul rfl (by omega) (by omega)
      have a_23 : ((p1 * 16) + p2).toInt = (p1 * 16).toInt + p2.toInt := tAdd (by omega) (by omega)
      refine ⟨tIn (by omega) (by omega), fun I_24 e_25 => ?_⟩
      have hR_26 : RI R I_24 := hR.up ra 2 (by decide) e_25 (i_lo _) (i_hi _)
      have hf_27 : Fm (fun c => (o ≤ c ∧ c < o + 16)) I0 I_24 := hf.set (by first | rfl | omega | (dsimp only; omega)) e_25
      have t_28 : (I_24 o 0).toInt = (I0 o 0).toInt := by rw [← e_25, q_u_ne (by omega)]
      have t_29 : (I_24 o 1).toInt = (I0 o 1).toInt := by rw [← e_25, q_u_ne (by omega)]
      have t_30 : (I_24 o 2).toInt = (I0 o 2).toInt := by rw [← e_25, q_u_ne (by omega)]
      have t_31 : (I_24 o 3).toInt = (I0 o 3).toInt := by rw [← e_25, q_u_ne (by omega)]
      have t_32 : (I_24 o 4).toInt = (I0 o 4).toInt := by rw [← e_25, q_u_ne (by omega)]
      exact (hp _ _ hR_26 hf_27 (by omega) (by omega) (by omega) (by omega) (by omega))
set_option maxHeartbeats 4000000 in
set_option maxRecDepth 20000 in
theorem yLand_shortenWays_26 {D : va_G} {cA : FieldType → ClassId} {b : Nat} {E : State → Prop} {R : qRg} {o n : Nat} {sh : Nat → qC} {Rf : Nat → Nat → Option Nat} {I0 : Nat → Nat → Int32} {L0 : Nat → Nat → Int64} {post : Option Value → qS → Prop} (hok : q_ok (qGG D cA b E)) (hw : WfLand (qGG D cA b E) n sh Rf o) (ra : RALand R o) (hp : ∀ (I' : Nat → Nat → Int32) (L' : Nat → Nat → Int64), RI R I' → Fm (fun c => (o ≤ c ∧ c < o + 16)) I0 I' → post none (n, sh, Rf, I', L')) {k2 : Nat} {k10 : Nat} (ho10 : ∀ {x1 : Int32} {x2 : Int32} {I : Nat → Nat → Int32} {L : Nat → Nat → Int64}, RI R I → Fm (fun c => (o ≤ c ∧ c < o + 16)) I0 I → ((0 : Int) ≤ x1.toInt ∧ x1.toInt ≤ 15) → ((0 : Int) ≤ x2.toInt ∧ x2.toInt ≤ 16) → ((16 - x1.toInt).toNat < k2 + 1) → (16 - x2.toInt).toNat < k10 → Ev (qGG D cA b E) mLand_shortenWays 2 (0, 0) 10 [(0, .ref o), (1, .int x1), (2, .int x2)] [] (n, sh, Rf, I, L) post) : ∀ (k : Nat) {x1 : Int32} {x2 : Int32} {x3 : Int32} {x4 : Int32} {I : Nat → Nat → Int32} {L : Nat → Nat → Int64}, RI R I → Fm (fun c => (o ≤ c ∧ c < o + 16)) I0 I → ((0 : Int) ≤ x1.toInt ∧ x1.toInt ≤ 15) → ((0 : Int) ≤ x2.toInt ∧ x2.toInt ≤ 15) → ((0 : Int) ≤ x4.toInt ∧ x4.toInt ≤ 16) → ((16 - x2.toInt).toNat < k10 + 1) → ((16 - x1.toInt).toNat < k2 + 1) → (16 - x4.toInt).toNat < k → Ev (qGG D cA b E) mLand_shortenWays 2 (0, 0) 26 [(0, .ref o), (1, .int x1), (2, .int x2), (3, .int x3), (4, .int x4)] [] (n, sh, Rf, I, L) post := by
  intro k
  induction k with
  | zero =>
    intro x1 x2 x3 x4 I L hR hf hi0 hi1 hi2 hi3 hi4 hm
    exact absurd hm (Nat.not_lt_zero _)
  | succ k ih =>
    intro x1 x2 x3 x4 I L hR hf hi0 hi1 hi2 hi3 hi4 hm
    refine sLand_shortenWays_26 o n sh Rf I L post x1 x2 x3 x4 hok hw ?_
    unfold fLand_shortenWays_26
    have l_1 : (16 : Int32).toInt = 16 := rfl
    refine ⟨fun c_2 => ?_, fun c_2 => ?_⟩
    · have d_3 := iLe c_2
      unfold fLand_shortenWays_70
      have a_5 : (x2 + Int32.ofInt 1).toInt = x2.toInt + (1) := tIc (by omega) (by omega) (by decide) (by decide)
      generalize (x2 + Int32.ofInt 1) = z_4 at a_5 ⊢
      exact ho10 hR hf (by omega) (by omega) (by omega) (by omega)
    · have d_6 := iNle c_2
      have l_7 : (-1 : Int32).toInt = -1 := rfl
      refine ⟨fun c_8 => ?_, fun c_8 => ?_⟩
      · have d_9 := iEq c_8
        unfold fLand_shortenWays_70
        have a_11 : (x2 + Int32.ofInt 1).toInt = x2.toInt + (1) := tIc (by omega) (by omega) (by decide) (by decide)
        generalize (x2 + Int32.ofInt 1) = z_10 at a_11 ⊢
        exact ho10 hR hf (by omega) (by omega) (by omega) (by omega)
      · have d_12 := iNe c_8
        refine y_Land_daysBetween hok hw ra hR (fun r_13  => ⟨r_13, I, L, rfl, rfl, ?_⟩)
        refine ⟨fun c_14 => ?_, fun c_14 => ?_⟩
        · have d_15 := iEq c_14
          unfold fLand_shortenWays_64
          have a_17 : (x4 + Int32.ofInt 1).toInt = x4.toInt + (1) := tIc (by omega) (by omega) (by decide) (by decide)
          generalize (x4 + Int32.ofInt 1) = z_16 at a_17 ⊢
          exact ih hR hf (by omega) (by omega) (by omega) (by omega) (by omega) (by omega)
        · have d_18 := iNe c_14
          refine y_Land_shorten hok hw ra (by omega) (by omega) hR (fun I_25 L_26 hR_27 fr_28 u_20 u_21 u_22 u_23 u_24 => ⟨I_25, L_26, rfl, rfl, ?_⟩)
          have hf_29 : Fm (fun c => (o ≤ c ∧ c < o + 16)) I0 I_25 := hf.call fr_28 (fun c hc => by first | exact hc | (dsimp only at hc ⊢; omega) | omega)
          unfold fLand_shortenWays_64
          have a_31 : (x4 + Int32.ofInt 1).toInt = x4.toInt + (1) := tIc (by omega) (by omega) (by decide) (by decide)
          generalize (x4 + Int32.ofInt 1) = z_30 at a_31 ⊢
          exact ih hR_27 hf_29 (by omega) (by omega) (by omega) (by omega) (by omega) (by omega)
set_option maxHeartbeats 4000000 in
set_option maxRecDepth 20000 in
theorem yLand_shortenWays_10 {D : va_G} {cA : FieldType → ClassId} {b : Nat} {E : State → Prop} {R : qRg} {o n : Nat} {sh : Nat → qC} {Rf : Nat → Nat → Option Nat} {I0 : Nat → Nat → Int32} {L0 : Nat → Nat → Int64} {post : Option Value → qS → Prop} (hok : q_ok (qGG D cA b E)) (hw : WfLand (qGG D cA b E) n sh Rf o) (ra : RALand R o) (hp : ∀ (I' : Nat → Nat → Int32) (L' : Nat → Nat → Int64), RI R I' → Fm (fun c => (o ≤ c ∧ c < o + 16)) I0 I' → post none (n, sh, Rf, I', L')) {k2 : Nat} (ho2 : ∀ {x1 : Int32} {I : Nat → Nat → Int32} {L : Nat → Nat → Int64}, RI R I → Fm (fun c => (o ≤ c ∧ c < o + 16)) I0 I → ((0 : Int) ≤ x1.toInt ∧ x1.toInt ≤ 16) → (16 - x1.toInt).toNat < k2 → Ev (qGG D cA b E) mLand_shortenWays 2 (0, 0) 2 [(0, .ref o), (1, .int x1)] [] (n, sh, Rf, I, L) post) : ∀ (k : Nat) {x1 : Int32} {x2 : Int32} {I : Nat → Nat → Int32} {L : Nat → Nat → Int64}, RI R I → Fm (fun c => (o ≤ c ∧ c < o + 16)) I0 I → ((0 : Int) ≤ x1.toInt ∧ x1.toInt ≤ 15) → ((0 : Int) ≤ x2.toInt ∧ x2.toInt ≤ 16) → ((16 - x1.toInt).toNat < k2 + 1) → (16 - x2.toInt).toNat < k → Ev (qGG D cA b E) mLand_shortenWays 2 (0, 0) 10 [(0, .ref o), (1, .int x1), (2, .int x2)] [] (n, sh, Rf, I, L) post := by
  intro k
  induction k with
  | zero =>
    intro x1 x2 I L hR hf hi0 hi1 hi2 hm
    exact absurd hm (Nat.not_lt_zero _)
  | succ k ih =>
    intro x1 x2 I L hR hf hi0 hi1 hi2 hm
    refine sLand_shortenWays_10 o n sh Rf I L post x1 x2 hok hw ?_
    unfold fLand_shortenWays_10
    have l_32 : (16 : Int32).toInt = 16 := rfl
    refine ⟨fun c_33 => ?_, fun c_33 => ?_⟩
    · have d_34 := iLe c_33
      have a_36 : (x1 + Int32.ofInt 1).toInt = x1.toInt + (1) := tIc (by omega) (by omega) (by decide) (by decide)
      generalize (x1 + Int32.ofInt 1) = z_35 at a_36 ⊢
      exact ho2 hR hf (by omega) (by omega)
    · have d_37 := iNle c_33
      refine y_Land_daysBetween hok hw ra hR (fun r_38  => ⟨r_38, I, L, rfl, rfl, ?_⟩)
      have l_39 : (0 : Int32).toInt = 0 := rfl
      exact yLand_shortenWays_26 (I0 := I0) (L0 := L0) hok hw ra hp ih _ hR hf (by omega) (by omega) (by omega) (by omega) (by omega) (Nat.lt_succ_self _)
set_option maxHeartbeats 4000000 in
set_option maxRecDepth 20000 in
theorem yLand_shortenWays_2 {D : va_G} {cA : FieldType → ClassId} {b : Nat} {E : State → Prop} {R : qRg} {o n : Nat} {sh : Nat → qC} {Rf : Nat → Nat → Option Nat} {I0 : Nat → Nat → Int32} {L0 : Nat → Nat → Int64} {post : Option Value → qS → Prop} (hok : q_ok (qGG D cA b E)) (hw : WfLand (qGG D cA b E) n sh Rf o) (ra : RALand R o) (hp : ∀ (I' : Nat → Nat → Int32) (L' : Nat → Nat → Int64), RI R I' → Fm (fun c => (o ≤ c ∧ c < o + 16)) I0 I' → post none (n, sh, Rf, I', L')) : ∀ (k : Nat) {x1 : Int32} {I : Nat → Nat → Int32} {L : Nat → Nat → Int64}, RI R I → Fm (fun c => (o ≤ c ∧ c < o + 16)) I0 I → ((0 : Int) ≤ x1.toInt ∧ x1.toInt ≤ 16) → (16 - x1.toInt).toNat < k → Ev (qGG D cA b E) mLand_shortenWays 2 (0, 0) 2 [(0, .ref o), (1, .int x1)] [] (n, sh, Rf, I, L) post := by
  intro k
  induction k with
  | zero =>
    intro x1 I L hR hf hi0 hm
    exact absurd hm (Nat.not_lt_zero _)
  | succ k ih =>
    intro x1 I L hR hf hi0 hm
    refine sLand_shortenWays_2 o n sh Rf I L post x1 hok hw ?_
    unfold fLand_shortenWays_2
    have l_40 : (16 : Int32).toInt = 16 := rfl
    refine ⟨fun c_41 => ?_, fun c_41 => ?_⟩
    · have d_42 := iLe c_41
      exact (hp _ _ hR hf )
    · have d_43 := iNle c_41
      have l_44 : (0 : Int32).toInt = 0 := rfl
      exact yLand_shortenWays_10 (I0 := I0) (L0 := L0) hok hw ra hp ih _ hR hf (by omega) (by omega) (by omega) (Nat.lt_succ_self _)
set_option maxHeartbeats 4000000 in
set_option maxRecDepth 20000 in
theorem y_Land_shortenWays {D : va_G} {cA : FieldType → ClassId} {b : Nat} {E : State → Prop} {R : qRg} {o n : Nat} {sh : Nat → qC} {Rf : Nat → Nat → Option Nat} {I0 : Nat → Nat → Int32} {L0 : Nat → Nat → Int64} {post : Option Value → qS → Prop} (hok : q_ok (qGG D cA b E)) (hw : WfLand (qGG D cA b E) n sh Rf o) (ra : RALand R o) (hR : RI R I0) (hp : ∀ (I' : Nat → Nat → Int32) (L' : Nat → Nat → Int64), RI R I' → Fm (fun c => (o ≤ c ∧ c < o + 16)) I0 I' → post none (n, sh, Rf, I', L')) : Ev (qGG D cA b E) mLand_shortenWays 2 (0, 0) 0 (lv_args 0 [.ref o]) [] (n, sh, Rf, I0, L0) post := by
  have hf : Fm (fun c => (o ≤ c ∧ c < o + 16)) I0 I0 := Fm.rf
  refine sLand_shortenWays_0 o n sh Rf I0 L0 post  hok hw ?_
  unfold fLand_shortenWays_0
  have l_45 : (0 : Int32).toInt = 0 := rfl
  exact yLand_shortenWays_2 (I0 := I0) (L0 := L0) hok hw ra hp  _ hR hf (by omega) (Nat.lt_succ_self _)
set_option maxHeartbeats 4000000 in
set_option maxRecDepth 20000 in
theorem yLand_readName_33 {D : va_G} {cA : FieldType → ClassId} {b : Nat} {E : State → Prop} {R : qRg} {o n : Nat} {sh : Nat → qC} {Rf : Nat → Nat → Option Nat} {I0 : Nat → Nat → Int32} {L0 : Nat → Nat → Int64} {post : Option Value → qS → Prop} {x1 : Nat} (hok : q_ok (qGG D cA b E)) (hw : WfLand (qGG D cA b E) n sh Rf o) (ra : RALand R o) (hw1 : WfTape (qGG D cA b E) n sh Rf x1) (ra1 : RATape R x1) (hs0 : o + 16 ≤ x1 ∨ x1 + 7 ≤ o) (hp : ∀ (I' : Nat → Nat → Int32) (L' : Nat → Nat → Int64), RI R I' → Fm (fun c => (o ≤ c ∧ c < o + 16) ∨ c = x1) I0 I' → ((I0 x1 7).toInt ≤ (I' x1 7).toInt) → ((I' o 0).toInt = (I0 o 0).toInt) → ((I' o 1).toInt = (I0 o 1).toInt) → ((I' o 2).toInt = (I0 o 2).toInt) → ((I' o 3).toInt = (I0 o 3).toInt) → post none (n, sh, Rf, I', L')) : ∀ (k : Nat) {x2 : Int32} {I : Nat → Nat → Int32} {L : Nat → Nat → Int64}, RI R I → Fm (fun c => (o ≤ c ∧ c < o + 16) ∨ c = x1) I0 I → ((0 : Int) ≤ x2.toInt ∧ x2.toInt ≤ 11) → ((I o 4).toInt ≤ 10) → ((I o 0).toInt = (I0 o 0).toInt) → ((I o 1).toInt = (I0 o 1).toInt) → ((I o 2).toInt = (I0 o 2).toInt) → ((I o 3).toInt = (I0 o 3).toInt) → ((I0 x1 7).toInt ≤ (I x1 7).toInt) → (11 - x2.toInt).toNat < k → Ev (qGG D cA b E) mLand_readName 1 (0, 0) 33 [(0, .ref o), (1, .ref x1), (2, .int x2)] [] (n, sh, Rf, I, L) post := by
  intro k
  induction k with
  | zero =>
    intro x2 I L hR hf hi0 hi1 hi2 hi3 hi4 hi5 hi6 hm
    exact absurd hm (Nat.not_lt_zero _)
  | succ k ih =>
    intro x2 I L hR hf hi0 hi1 hi2 hi3 hi4 hi5 hi6 hm
    refine sLand_readName_33 o n sh Rf I L post x1 x2 hok hw hw1 ?_
    unfold fLand_readName_33
    have g_1 : (0 : Int) ≤ (I o 4).toInt ∧ (I o 4).toInt ≤ 11 := hR.at0 ra 4 (by decide)
    refine ⟨fun c_2 => ?_, fun c_2 => ?_⟩
    · have d_3 := iLe c_2
      have g_4 : (0 : Int) ≤ (I o 4).toInt ∧ (I o 4).toInt ≤ 11 := hR.at0 ra 4 (by decide)
      refine y_Tape_name hok hw1 ra1 hR (fun r_5  => ⟨r_5, I, L, rfl, rfl, ?_⟩)
      refine ⟨tIn (by omega) (by omega), fun L_6 e_7 => ?_⟩
      have g_8 : (0 : Int) ≤ (I o 4).toInt ∧ (I o 4).toInt ≤ 11 := hR.at0 ra 4 (by decide)
      have l_9 : (1 : Int32).toInt = 1 := rfl
      have a_10 : ((I o 4) + 1).toInt = (I o 4).toInt + (1 : Int32).toInt := tAdd (by omega) (by omega)
      refine fun I_11 e_12 => ?_
      have hR_13 : RI R I_11 := hR.up0 ra (by decide) e_12 (show (0 : Int) ≤ ((I o 4) + 1).toInt by omega) (show ((I o 4) + 1).toInt ≤ (11 : Int) by omega)
      have hf_14 : Fm (fun c => (o ≤ c ∧ c < o + 16) ∨ c = x1) I0 I_11 := hf.set (by first | rfl | omega | (dsimp only; omega)) e_12
      have t_15 : (I_11 o 0).toInt = (I o 0).toInt := by rw [← e_12, q_u_k (by decide)]
      have t_16 : (I_11 o 1).toInt = (I o 1).toInt := by rw [← e_12, q_u_k (by decide)]
      have t_17 : (I_11 o 2).toInt = (I o 2).toInt := by rw [← e_12, q_u_k (by decide)]
      have t_18 : (I_11 o 3).toInt = (I o 3).toInt := by rw [← e_12, q_u_k (by decide)]
      have t_19 : (I_11 x1 7).toInt = (I x1 7).toInt := by rw [← e_12, q_u_ne (by omega)]
      have t_20 : (I_11 o 4).toInt = ((I o 4) + 1).toInt := by rw [← e_12, q_u_at]
      refine y_Tape_step hok hw1 ra1 hR_13 (fun I_23 L_24 hR_25 fr_26 u_22 => ⟨I_23, L_24, rfl, rfl, ?_⟩)
      have hf_27 : Fm (fun c => (o ≤ c ∧ c < o + 16) ∨ c = x1) I0 I_23 := hf_14.call fr_26 (fun c hc => by first | exact hc | (dsimp only at hc ⊢; omega) | omega)
      have t_28 : (I_23 o 0).toInt = (I_11 o 0).toInt := by rw [fr_26 o (by first | omega | (dsimp only; omega))]
      have t_29 : (I_23 o 1).toInt = (I_11 o 1).toInt := by rw [fr_26 o (by first | omega | (dsimp only; omega))]
      have t_30 : (I_23 o 2).toInt = (I_11 o 2).toInt := by rw [fr_26 o (by first | omega | (dsimp only; omega))]
      have t_31 : (I_23 o 3).toInt = (I_11 o 3).toInt := by rw [fr_26 o (by first | omega | (dsimp only; omega))]
      have t_32 : (I_23 o 4).toInt = (I_11 o 4).toInt := by rw [fr_26 o (by first | omega | (dsimp only; omega))]
      exact (hp _ _ hR_25 hf_27 (by omega) (by omega) (by omega) (by omega) (by omega))
    · have d_33 := iNle c_2
      refine ⟨tIn (by omega) (by omega), ?_⟩
      refine y_Tape_name hok hw1 ra1 hR (fun r_34  => ⟨r_34, I, L, rfl, rfl, ?_⟩)
      have l_35 : (0 : Int32).toInt = 0 := rfl
      refine ⟨fun c_36 => ?_, fun c_36 => ?_⟩
      · have d_37 := iNe c_36
        have a_39 : (x2 + Int32.ofInt 1).toInt = x2.toInt + (1) := tIc (by omega) (by omega) (by decide) (by decide)
        generalize (x2 + Int32.ofInt 1) = z_38 at a_39 ⊢
        exact ih hR hf (by omega) (by omega) (by omega) (by omega) (by omega) (by omega) (by omega) (by omega)
      · have d_40 := iEq c_36
        have l_41 : (3 : Int32).toInt = 3 := rfl
        refine y_Tape_refuse hok hw1 ra1 (by omega) hR (fun I_45 L_46 hR_47 fr_48 u_43 u_44 => ⟨I_45, L_46, rfl, rfl, ?_⟩)
        have hf_49 : Fm (fun c => (o ≤ c ∧ c < o + 16) ∨ c = x1) I0 I_45 := hf.call fr_48 (fun c hc => by first | exact hc | (dsimp only at hc ⊢; omega) | omega)
        have t_50 : (I_45 o 0).toInt = (I o 0).toInt := by rw [fr_48 o (by first | omega | (dsimp only; omega))]
        have t_51 : (I_45 o 1).toInt = (I o 1).toInt := by rw [fr_48 o (by first | omega | (dsimp only; omega))]
        have t_52 : (I_45 o 2).toInt = (I o 2).toInt := by rw [fr_48 o (by first | omega | (dsimp only; omega))]
        have t_53 : (I_45 o 3).toInt = (I o 3).toInt := by rw [fr_48 o (by first | omega | (dsimp only; omega))]
        have t_54 : (I_45 o 4).toInt = (I o 4).toInt := by rw [fr_48 o (by first | omega | (dsimp only; omega))]
        exact (hp _ _ hR_47 hf_49 (by omega) (by omega) (by omega) (by omega) (by omega))
set_option maxHeartbeats 4000000 in
set_option maxRecDepth 20000 in
theorem y_Land_readName {D : va_G} {cA : FieldType → ClassId} {b : Nat} {E : State → Prop} {R : qRg} {o n : Nat} {sh : Nat → qC} {Rf : Nat → Nat → Option Nat} {I0 : Nat → Nat → Int32} {L0 : Nat → Nat → Int64} {post : Option Value → qS → Prop} {x1 : Nat} (hok : q_ok (qGG D cA b E)) (hw : WfLand (qGG D cA b E) n sh Rf o) (ra : RALand R o) (hw1 : WfTape (qGG D cA b E) n sh Rf x1) (ra1 : RATape R x1) (hs0 : o + 16 ≤ x1 ∨ x1 + 7 ≤ o) (hR : RI R I0) (hp : ∀ (I' : Nat → Nat → Int32) (L' : Nat → Nat → Int64), RI R I' → Fm (fun c => (o ≤ c ∧ c < o + 16) ∨ c = x1) I0 I' → ((I0 x1 7).toInt ≤ (I' x1 7).toInt) → ((I' o 0).toInt = (I0 o 0).toInt) → ((I' o 1).toInt = (I0 o 1).toInt) → ((I' o 2).toInt = (I0 o 2).toInt) → ((I' o 3).toInt = (I0 o 3).toInt) → post none (n, sh, Rf, I', L')) : Ev (qGG D cA b E) mLand_readName 1 (0, 0) 0 (lv_args 0 [.ref o, .ref x1]) [] (n, sh, Rf, I0, L0) post := by
  have hf : Fm (fun c => (o ≤ c ∧ c < o + 16) ∨ c = x1) I0 I0 := Fm.rf
  refine sLand_readName_0 o n sh Rf I0 L0 post x1 hok hw hw1 ?_
  unfold fLand_readName_0
  refine y_Tape_kind hok hw1 ra1 hR (fun r_55 u_56 => ⟨r_55, I0, L0, rfl, rfl, ?_⟩)
  have l_57 : (1 : Int32).toInt = 1 := rfl
  refine ⟨fun c_58 => ?_, fun c_58 => ?_⟩
  · have d_59 := iNe c_58
    have l_60 : (2 : Int32).toInt = 2 := rfl
    refine y_Tape_refuse hok hw1 ra1 (by omega) hR (fun I_64 L_65 hR_66 fr_67 u_62 u_63 => ⟨I_64, L_65, rfl, rfl, ?_⟩)
    have hf_68 : Fm (fun c => (o ≤ c ∧ c < o + 16) ∨ c = x1) I0 I_64 := hf.call fr_67 (fun c hc => by first | exact hc | (dsimp only at hc ⊢; omega) | omega)
    have t_69 : (I_64 o 0).toInt = (I0 o 0).toInt := by rw [fr_67 o (by first | omega | (dsimp only; omega))]
    have t_70 : (I_64 o 1).toInt = (I0 o 1).toInt := by rw [fr_67 o (by first | omega | (dsimp only; omega))]
    have t_71 : (I_64 o 2).toInt = (I0 o 2).toInt := by rw [fr_67 o (by first | omega | (dsimp only; omega))]
    have t_72 : (I_64 o 3).toInt = (I0 o 3).toInt := by rw [fr_67 o (by first | omega | (dsimp only; omega))]
    exact (hp _ _ hR_66 hf_68 (by omega) (by omega) (by omega) (by omega) (by omega))
  · have d_73 := iEq c_58
    refine y_Tape_value hok hw1 ra1 hR (fun r_74 u_75 => ⟨r_74, I0, L0, rfl, rfl, ?_⟩)
    have l_76 : (-1 : Int32).toInt = -1 := rfl
    refine ⟨fun c_77 => ?_, fun c_77 => ?_⟩
    · have d_78 := iNe c_77
      have l_79 : (2 : Int32).toInt = 2 := rfl
      refine y_Tape_refuse hok hw1 ra1 (by omega) hR (fun I_83 L_84 hR_85 fr_86 u_81 u_82 => ⟨I_83, L_84, rfl, rfl, ?_⟩)
      have hf_87 : Fm (fun c => (o ≤ c ∧ c < o + 16) ∨ c = x1) I0 I_83 := hf.call fr_86 (fun c hc => by first | exact hc | (dsimp only at hc ⊢; omega) | omega)
      have t_88 : (I_83 o 0).toInt = (I0 o 0).toInt := by rw [fr_86 o (by first | omega | (dsimp only; omega))]
      have t_89 : (I_83 o 1).toInt = (I0 o 1).toInt := by rw [fr_86 o (by first | omega | (dsimp only; omega))]
      have t_90 : (I_83 o 2).toInt = (I0 o 2).toInt := by rw [fr_86 o (by first | omega | (dsimp only; omega))]
      have t_91 : (I_83 o 3).toInt = (I0 o 3).toInt := by rw [fr_86 o (by first | omega | (dsimp only; omega))]
      exact (hp _ _ hR_85 hf_87 (by omega) (by omega) (by omega) (by omega) (by omega))
    · have d_92 := iEq c_77
      have g_93 : (0 : Int) ≤ (I0 o 4).toInt ∧ (I0 o 4).toInt ≤ 11 := hR.at0 ra 4 (by decide)
      have l_94 : (11 : Int32).toInt = 11 := rfl
      refine ⟨fun c_95 => ?_, fun c_95 => ?_⟩
      · have d_96 := iLt c_95
        have l_97 : (0 : Int32).toInt = 0 := rfl
        exact yLand_readName_33 (I0 := I0) (L0 := L0) hok hw ra hw1 ra1 hs0 hp  _ hR hf (by omega) (by omega) (by omega) (by omega) (by omega) (by omega) (by omega) (Nat.lt_succ_self _)
      · have d_98 := iNlt c_95
        have l_99 : (2 : Int32).toInt = 2 := rfl
        refine y_Tape_refuse hok hw1 ra1 (by omega) hR (fun I_103 L_104 hR_105 fr_106 u_101 u_102 => ⟨I_103, L_104, rfl, rfl, ?_⟩)
        have hf_107 : Fm (fun c => (o ≤ c ∧ c < o + 16) ∨ c = x1) I0 I_103 := hf.call fr_106 (fun c hc => by first | exact hc | (dsimp only at hc ⊢; omega) | omega)
        have t_108 : (I_103 o 0).toInt = (I0 o 0).toInt := by rw [fr_106 o (by first | omega | (dsimp only; omega))]
        have t_109 : (I_103 o 1).toInt = (I0 o 1).toInt := by rw [fr_106 o (by first | omega | (dsimp only; omega))]
        have t_110 : (I_103 o 2).toInt = (I0 o 2).toInt := by rw [fr_106 o (by first | omega | (dsimp only; omega))]
        have t_111 : (I_103 o 3).toInt = (I0 o 3).toInt := by rw [fr_106 o (by first | omega | (dsimp only; omega))]
        have t_112 : (I_103 o 4).toInt = (I0 o 4).toInt := by rw [fr_106 o (by first | omega | (dsimp only; omega))]
        exact (hp _ _ hR_105 hf_107 (by omega) (by omega) (by omega) (by omega) (by omega))
set_option maxHeartbeats 4000000 in
set_option maxRecDepth 20000 in
theorem y_Land_readSite {D : va_G} {cA : FieldType → ClassId} {b : Nat} {E : State → Prop} {R : qRg} {o n : Nat} {sh : Nat → qC} {Rf : Nat → Nat → Option Nat} {I0 : Nat → Nat → Int32} {L0 : Nat → Nat → Int64} {post : Option Value → qS → Prop} {x1 : Nat} (hok : q_ok (qGG D cA b E)) (hw : WfLand (qGG D cA b E) n sh Rf o) (ra : RALand R o) (hw1 : WfTape (qGG D cA b E) n sh Rf x1) (ra1 : RATape R x1) (hq0 : TokOK I0 x1) (hR : RI R I0) (hp : ∀ (r : Int32) (I' : Nat → Nat → Int32) (L' : Nat → Nat → Int64), RI R I' → Fm (fun c => c = x1) I0 I' → (((-1 : Int) ≤ r.toInt ∧ r.toInt ≤ 15)) → ((I0 x1 7).toInt ≤ (I' x1 7).toInt) → (0 ≤ r.toInt + (I' x1 7).toInt) → post (some (.int r)) (n, sh, Rf, I', L')) : Ev (qGG D cA b E) mLand_readSite 2 (0, 0) 0 (lv_args 0 [.ref o, .ref x1]) [] (n, sh, Rf, I0, L0) post := by
  have hf : Fm (fun c => c = x1) I0 I0 := Fm.rf
  refine sLand_readSite_0 o n sh Rf I0 L0 post x1 hok hw hw1 ?_
  unfold fLand_readSite_0
  have l_1 : (2 : Int32).toInt = 2 := rfl
  refine y_Tape_isWord hok hw1 ra1 hR (fun r_2 u_3 => ⟨r_2, I0, L0, rfl, rfl, ?_⟩)
  have b_4 : 0 ≤ r_2.toInt ∧ r_2.toInt ≤ 1 := u_3.rg
  refine y_Tape_passIf hok hw1 ra1 hR (fun I_7 L_8 hR_9 fr_10 u_6 => ⟨I_7, L_8, rfl, rfl, ?_⟩)
  have hf_11 : Fm (fun c => c = x1) I0 I_7 := hf.call fr_10 (fun c hc => by first | exact hc | (dsimp only at hc ⊢; omega) | omega)
  have k_12 : TokOK I_7 x1 := hq0.fr (fr_10 _ (by first | omega | (dsimp only; omega))) (fr_10 _ (by first | omega | (dsimp only; omega)))
  have l_13 : (-1 : Int32).toInt = -1 := rfl
  refine y_Tape_takePlaceUnlike hok hw1 ra1 k_12 hR_9 (fun r_14 I_18 L_19 hR_20 fr_21 u_15 u_16 u_17 => ⟨r_14, I_18, L_19, rfl, rfl, ?_⟩)
  have hf_22 : Fm (fun c => c = x1) I0 I_18 := hf_11.call fr_21 (fun c hc => by first | exact hc | (dsimp only at hc ⊢; omega) | omega)
  have k_23 : TokOK I_18 x1 := k_12.fr (fr_21 _ (by first | omega | (dsimp only; omega))) (fr_21 _ (by first | omega | (dsimp only; omega)))
  exact (hp _ _ _ hR_20 hf_22 (by omega) (by omega) (by omega))
set_option maxHeartbeats 4000000 in
set_option maxRecDepth 20000 in
theorem y_Land_readRoad {D : va_G} {cA : FieldType → ClassId} {b : Nat} {E : State → Prop} {R : qRg} {o n : Nat} {sh : Nat → qC} {Rf : Nat → Nat → Option Nat} {I0 : Nat → Nat → Int32} {L0 : Nat → Nat → Int64} {post : Option Value → qS → Prop} {x1 : Nat} (hok : q_ok (qGG D cA b E)) (hw : WfLand (qGG D cA b E) n sh Rf o) (ra : RALand R o) (hw1 : WfTape (qGG D cA b E) n sh Rf x1) (ra1 : RATape R x1) (hs0 : o + 16 ≤ x1 ∨ x1 + 7 ≤ o) (hq0 : (I0 o 0).toInt ≤ 23) (hq1 : TokOK I0 x1) (hR : RI R I0) (hp : ∀ (r : Int32) (I' : Nat → Nat → Int32) (L' : Nat → Nat → Int64), RI R I' → Fm (fun c => (o ≤ c ∧ c < o + 16) ∨ c = x1) I0 I' → (Bz r) → post (some (.int r)) (n, sh, Rf, I', L')) : Ev (qGG D cA b E) mLand_readRoad 3 (0, 0) 0 (lv_args 0 [.ref o, .ref x1]) [] (n, sh, Rf, I0, L0) post := by
  have hf : Fm (fun c => (o ≤ c ∧ c < o + 16) ∨ c = x1) I0 I0 := Fm.rf
  refine sLand_readRoad_0 o n sh Rf I0 L0 post x1 hok hw hw1 ?_
  unfold fLand_readRoad_0
  refine y_Tape_step hok hw1 ra1 hR (fun I_3 L_4 hR_5 fr_6 u_2 => ⟨I_3, L_4, rfl, rfl, ?_⟩)
  have hf_7 : Fm (fun c => (o ≤ c ∧ c < o + 16) ∨ c = x1) I0 I_3 := hf.call fr_6 (fun c hc => by first | exact hc | (dsimp only at hc ⊢; omega) | omega)
  have t_8 : (I_3 o 0).toInt = (I0 o 0).toInt := by rw [fr_6 o (by first | omega | (dsimp only; omega))]
  have k_9 : TokOK I_3 x1 := hq1.fr (fr_6 _ (by first | omega | (dsimp only; omega))) (fr_6 _ (by first | omega | (dsimp only; omega)))
  have l_10 : (-1 : Int32).toInt = -1 := rfl
  refine y_Tape_takePlaceUnlike hok hw1 ra1 k_9 hR_5 (fun r_11 I_15 L_16 hR_17 fr_18 u_12 u_13 u_14 => ⟨r_11, I_15, L_16, rfl, rfl, ?_⟩)
  have hf_19 : Fm (fun c => (o ≤ c ∧ c < o + 16) ∨ c = x1) I0 I_15 := hf_7.call fr_18 (fun c hc => by first | exact hc | (dsimp only at hc ⊢; omega) | omega)
  have t_20 : (I_15 o 0).toInt = (I_3 o 0).toInt := by rw [fr_18 o (by first | omega | (dsimp only; omega))]
  have k_21 : TokOK I_15 x1 := k_9.fr (fr_18 _ (by first | omega | (dsimp only; omega))) (fr_18 _ (by first | omega | (dsimp only; omega)))
  refine y_Tape_takePlaceUnlike hok hw1 ra1 k_21 hR_17 (fun r_22 I_26 L_27 hR_28 fr_29 u_23 u_24 u_25 => ⟨r_22, I_26, L_27, rfl, rfl, ?_⟩)
  have hf_30 : Fm (fun c => (o ≤ c ∧ c < o + 16) ∨ c = x1) I0 I_26 := hf_19.call fr_29 (fun c hc => by first | exact hc | (dsimp only at hc ⊢; omega) | omega)
  have t_31 : (I_26 o 0).toInt = (I_15 o 0).toInt := by rw [fr_29 o (by first | omega | (dsimp only; omega))]
  have k_32 : TokOK I_26 x1 := k_21.fr (fr_29 _ (by first | omega | (dsimp only; omega))) (fr_29 _ (by first | omega | (dsimp only; omega)))
  have l_33 : (1 : Int32).toInt = 1 := rfl
  have l_34 : (90 : Int32).toInt = 90 := rfl
  refine y_Tape_takeNumber hok hw1 ra1 (by omega) (by omega) hR_28 (fun r_35 I_39 L_40 hR_41 fr_42 u_36 u_37 u_38 => ⟨r_35, I_39, L_40, rfl, rfl, ?_⟩)
  have hf_43 : Fm (fun c => (o ≤ c ∧ c < o + 16) ∨ c = x1) I0 I_39 := hf_30.call fr_42 (fun c hc => by first | exact hc | (dsimp only at hc ⊢; omega) | omega)
  have t_44 : (I_39 o 0).toInt = (I_26 o 0).toInt := by rw [fr_42 o (by first | omega | (dsimp only; omega))]
  have k_45 : TokOK I_39 x1 := k_32.fr (fr_42 _ (by first | omega | (dsimp only; omega))) (fr_42 _ (by first | omega | (dsimp only; omega)))
  refine y_Tape_closeLine hok hw1 ra1 hR_41 (fun r_46 I_50 L_51 hR_52 fr_53 u_47 u_48 u_49 => ⟨r_46, I_50, L_51, rfl, rfl, ?_⟩)
  have hf_54 : Fm (fun c => (o ≤ c ∧ c < o + 16) ∨ c = x1) I0 I_50 := hf_43.call fr_53 (fun c hc => by first | exact hc | (dsimp only at hc ⊢; omega) | omega)
  have t_55 : (I_50 o 0).toInt = (I_39 o 0).toInt := by rw [fr_53 o (by first | omega | (dsimp only; omega))]
  have k_56 : TokOK I_50 x1 := k_45.fr (fr_53 _ (by first | omega | (dsimp only; omega))) (fr_53 _ (by first | omega | (dsimp only; omega)))
  have b_57 : 0 ≤ r_46.toInt ∧ r_46.toInt ≤ 1 := u_47.rg
  have l_58 : (0 : Int32).toInt = 0 := rfl
  refine ⟨fun c_59 => ?_, fun c_59 => ?_⟩
  · have d_60 := iNe c_59
    refine y_Land_shorten hok hw ra (by omega) (by omega) hR_52 (fun I_67 L_68 hR_69 fr_70 u_62 u_63 u_64 u_65 u_66 => ⟨I_67, L_68, rfl, rfl, ?_⟩)
    have hf_71 : Fm (fun c => (o ≤ c ∧ c < o + 16) ∨ c = x1) I0 I_67 := hf_54.call fr_70 (fun c hc => by first | exact hc | (dsimp only at hc ⊢; omega) | omega)
    have k_72 : TokOK I_67 x1 := k_56.fr (fr_70 _ (by first | omega | (dsimp only; omega))) (fr_70 _ (by first | omega | (dsimp only; omega)))
    refine y_Land_shorten hok hw ra (by omega) (by omega) hR_69 (fun I_79 L_80 hR_81 fr_82 u_74 u_75 u_76 u_77 u_78 => ⟨I_79, L_80, rfl, rfl, ?_⟩)
    have hf_83 : Fm (fun c => (o ≤ c ∧ c < o + 16) ∨ c = x1) I0 I_79 := hf_71.call fr_82 (fun c hc => by first | exact hc | (dsimp only at hc ⊢; omega) | omega)
    have k_84 : TokOK I_79 x1 := k_72.fr (fr_82 _ (by first | omega | (dsimp only; omega))) (fr_82 _ (by first | omega | (dsimp only; omega)))
    have g_85 : (0 : Int) ≤ (I_79 o 0).toInt ∧ (I_79 o 0).toInt ≤ 24 := hR_81.at0 ra 0 (by decide)
    have a_86 : ((I_79 o 0) + 1).toInt = (I_79 o 0).toInt + (1 : Int32).toInt := tAdd (by omega) (by omega)
    refine fun I_87 e_88 => ?_
    have hR_89 : RI R I_87 := hR_81.up0 ra (by decide) e_88 (show (0 : Int) ≤ ((I_79 o 0) + 1).toInt by omega) (show ((I_79 o 0) + 1).toInt ≤ (24 : Int) by omega)
    have hf_90 : Fm (fun c => (o ≤ c ∧ c < o + 16) ∨ c = x1) I0 I_87 := hf_83.set (by first | rfl | omega | (dsimp only; omega)) e_88
    have t_91 : (I_87 o 0).toInt = ((I_79 o 0) + 1).toInt := by rw [← e_88, q_u_at]
    have k_92 : TokOK I_87 x1 := k_84.fr (by rw [← e_88]; exact q_u_ne (by omega)) (by rw [← e_88]; exact q_u_ne (by omega))
    exact (hp _ _ _ hR_89 hf_90 (Or.inr rfl))
  · have d_93 := iEq c_59
    exact (hp _ _ _ hR_52 hf_54 (Or.inl rfl))
set_option maxHeartbeats 4000000 in
set_option maxRecDepth 20000 in
theorem y_Land_readFort {D : va_G} {cA : FieldType → ClassId} {b : Nat} {E : State → Prop} {R : qRg} {o n : Nat} {sh : Nat → qC} {Rf : Nat → Nat → Option Nat} {I0 : Nat → Nat → Int32} {L0 : Nat → Nat → Int64} {post : Option Value → qS → Prop} {x1 : Nat} (hok : q_ok (qGG D cA b E)) (hw : WfLand (qGG D cA b E) n sh Rf o) (ra : RALand R o) (hw1 : WfTape (qGG D cA b E) n sh Rf x1) (ra1 : RATape R x1) (hs0 : o + 16 ≤ x1 ∨ x1 + 7 ≤ o) (hq0 : (I0 o 1).toInt ≤ 2) (hq1 : TokOK I0 x1) (hR : RI R I0) (hp : ∀ (r : Int32) (I' : Nat → Nat → Int32) (L' : Nat → Nat → Int64), RI R I' → Fm (fun c => (o ≤ c ∧ c < o + 16) ∨ c = x1) I0 I' → (Bz r) → post (some (.int r)) (n, sh, Rf, I', L')) : Ev (qGG D cA b E) mLand_readFort 3 (0, 0) 0 (lv_args 0 [.ref o, .ref x1]) [] (n, sh, Rf, I0, L0) post := by
  have hf : Fm (fun c => (o ≤ c ∧ c < o + 16) ∨ c = x1) I0 I0 := Fm.rf
  refine sLand_readFort_0 o n sh Rf I0 L0 post x1 hok hw hw1 ?_
  unfold fLand_readFort_0
  refine y_Tape_step hok hw1 ra1 hR (fun I_3 L_4 hR_5 fr_6 u_2 => ⟨I_3, L_4, rfl, rfl, ?_⟩)
  have hf_7 : Fm (fun c => (o ≤ c ∧ c < o + 16) ∨ c = x1) I0 I_3 := hf.call fr_6 (fun c hc => by first | exact hc | (dsimp only at hc ⊢; omega) | omega)
  have t_8 : (I_3 o 1).toInt = (I0 o 1).toInt := by rw [fr_6 o (by first | omega | (dsimp only; omega))]
  have k_9 : TokOK I_3 x1 := hq1.fr (fr_6 _ (by first | omega | (dsimp only; omega))) (fr_6 _ (by first | omega | (dsimp only; omega)))
  refine y_Land_readName hok hw ra hw1 ra1 (by omega) hR_5 (fun I_16 L_17 hR_18 fr_19 u_11 u_12 u_13 u_14 u_15 => ⟨I_16, L_17, rfl, rfl, ?_⟩)
  have hf_20 : Fm (fun c => (o ≤ c ∧ c < o + 16) ∨ c = x1) I0 I_16 := hf_7.call fr_19 (fun c hc => by first | exact hc | (dsimp only at hc ⊢; omega) | omega)
  have k_21 : TokOK I_16 x1 := k_9.fr (fr_19 _ (by first | omega | (dsimp only; omega))) (fr_19 _ (by first | omega | (dsimp only; omega)))
  have g_22 : (0 : Int) ≤ (I_16 o 1).toInt ∧ (I_16 o 1).toInt ≤ 3 := hR_18.at0 ra 1 (by decide)
  refine y_Land_readSite hok hw ra hw1 ra1 k_21 hR_18 (fun r_23 I_27 L_28 hR_29 fr_30 u_24 u_25 u_26 => ⟨r_23, I_27, L_28, rfl, rfl, ?_⟩)
  have hf_31 : Fm (fun c => (o ≤ c ∧ c < o + 16) ∨ c = x1) I0 I_27 := hf_20.call fr_30 (fun c hc => by first | exact hc | (dsimp only at hc ⊢; omega) | omega)
  have t_32 : (I_27 o 1).toInt = (I_16 o 1).toInt := by rw [fr_30 o (by first | omega | (dsimp only; omega))]
  have k_33 : TokOK I_27 x1 := k_21.fr (fr_30 _ (by first | omega | (dsimp only; omega))) (fr_30 _ (by first | omega | (dsimp only; omega)))
  refine ⟨tIn (by omega) (by omega), fun I_34 e_35 => ?_⟩
  have hR_36 : RI R I_34 := hR_29.up ra 3 (by decide) e_35 (i_lo _) (i_hi _)
  have hf_37 : Fm (fun c => (o ≤ c ∧ c < o + 16) ∨ c = x1) I0 I_34 := hf_31.set (by first | rfl | omega | (dsimp only; omega)) e_35
  have t_38 : (I_34 o 1).toInt = (I_27 o 1).toInt := by rw [← e_35, q_u_ne (by omega)]
  have k_39 : TokOK I_34 x1 := k_33.fr (by rw [← e_35]; exact q_u_ne (by omega)) (by rw [← e_35]; exact q_u_ne (by omega))
  have g_40 : (0 : Int) ≤ (I_34 o 1).toInt ∧ (I_34 o 1).toInt ≤ 3 := hR_36.at0 ra 1 (by decide)
  have l_41 : (3 : Int32).toInt = 3 := rfl
  have l_42 : (0 : Int32).toInt = 0 := rfl
  have l_43 : (999 : Int32).toInt = 999 := rfl
  refine y_Tape_takeNumberBehind hok hw1 ra1 (by omega) (by omega) hR_36 (fun r_44 I_48 L_49 hR_50 fr_51 u_45 u_46 u_47 => ⟨r_44, I_48, L_49, rfl, rfl, ?_⟩)
  have hf_52 : Fm (fun c => (o ≤ c ∧ c < o + 16) ∨ c = x1) I0 I_48 := hf_37.call fr_51 (fun c hc => by first | exact hc | (dsimp only at hc ⊢; omega) | omega)
  have t_53 : (I_48 o 1).toInt = (I_34 o 1).toInt := by rw [fr_51 o (by first | omega | (dsimp only; omega))]
  have k_54 : TokOK I_48 x1 := k_39.fr (fr_51 _ (by first | omega | (dsimp only; omega))) (fr_51 _ (by first | omega | (dsimp only; omega)))
  refine ⟨tIn (by omega) (by omega), fun I_55 e_56 => ?_⟩
  have hR_57 : RI R I_55 := hR_50.up ra 4 (by decide) e_56 (i_lo _) (i_hi _)
  have hf_58 : Fm (fun c => (o ≤ c ∧ c < o + 16) ∨ c = x1) I0 I_55 := hf_52.set (by first | rfl | omega | (dsimp only; omega)) e_56
  have t_59 : (I_55 o 1).toInt = (I_48 o 1).toInt := by rw [← e_56, q_u_ne (by omega)]
  have k_60 : TokOK I_55 x1 := k_54.fr (by rw [← e_56]; exact q_u_ne (by omega)) (by rw [← e_56]; exact q_u_ne (by omega))
  have g_61 : (0 : Int) ≤ (I_55 o 1).toInt ∧ (I_55 o 1).toInt ≤ 3 := hR_57.at0 ra 1 (by decide)
  have l_62 : (4 : Int32).toInt = 4 := rfl
  have l_63 : (9999 : Int32).toInt = 9999 := rfl
  refine y_Tape_takeNumberBehind hok hw1 ra1 (by omega) (by omega) hR_57 (fun r_64 I_68 L_69 hR_70 fr_71 u_65 u_66 u_67 => ⟨r_64, I_68, L_69, rfl, rfl, ?_⟩)
  have hf_72 : Fm (fun c => (o ≤ c ∧ c < o + 16) ∨ c = x1) I0 I_68 := hf_58.call fr_71 (fun c hc => by first | exact hc | (dsimp only at hc ⊢; omega) | omega)
  have t_73 : (I_68 o 1).toInt = (I_55 o 1).toInt := by rw [fr_71 o (by first | omega | (dsimp only; omega))]
  have k_74 : TokOK I_68 x1 := k_60.fr (fr_71 _ (by first | omega | (dsimp only; omega))) (fr_71 _ (by first | omega | (dsimp only; omega)))
  refine ⟨tIn (by omega) (by omega), fun I_75 e_76 => ?_⟩
  have hR_77 : RI R I_75 := hR_70.up ra 5 (by decide) e_76 (i_lo _) (i_hi _)
  have hf_78 : Fm (fun c => (o ≤ c ∧ c < o + 16) ∨ c = x1) I0 I_75 := hf_72.set (by first | rfl | omega | (dsimp only; omega)) e_76
  have t_79 : (I_75 o 1).toInt = (I_68 o 1).toInt := by rw [← e_76, q_u_ne (by omega)]
  have k_80 : TokOK I_75 x1 := k_74.fr (by rw [← e_76]; exact q_u_ne (by omega)) (by rw [← e_76]; exact q_u_ne (by omega))
  refine y_Tape_closeLine hok hw1 ra1 hR_77 (fun r_81 I_85 L_86 hR_87 fr_88 u_82 u_83 u_84 => ⟨r_81, I_85, L_86, rfl, rfl, ?_⟩)
  have hf_89 : Fm (fun c => (o ≤ c ∧ c < o + 16) ∨ c = x1) I0 I_85 := hf_78.call fr_88 (fun c hc => by first | exact hc | (dsimp only at hc ⊢; omega) | omega)
  have t_90 : (I_85 o 1).toInt = (I_75 o 1).toInt := by rw [fr_88 o (by first | omega | (dsimp only; omega))]
  have k_91 : TokOK I_85 x1 := k_80.fr (fr_88 _ (by first | omega | (dsimp only; omega))) (fr_88 _ (by first | omega | (dsimp only; omega)))
  have b_92 : 0 ≤ r_81.toInt ∧ r_81.toInt ≤ 1 := u_82.rg
  refine ⟨fun c_93 => ?_, fun c_93 => ?_⟩
  · have d_94 := iNe c_93
    have g_95 : (0 : Int) ≤ (I_85 o 1).toInt ∧ (I_85 o 1).toInt ≤ 3 := hR_87.at0 ra 1 (by decide)
    have l_96 : (1 : Int32).toInt = 1 := rfl
    have a_97 : ((I_85 o 1) + 1).toInt = (I_85 o 1).toInt + (1 : Int32).toInt := tAdd (by omega) (by omega)
    refine fun I_98 e_99 => ?_
    have hR_100 : RI R I_98 := hR_87.up0 ra (by decide) e_99 (show (0 : Int) ≤ ((I_85 o 1) + 1).toInt by omega) (show ((I_85 o 1) + 1).toInt ≤ (3 : Int) by omega)
    have hf_101 : Fm (fun c => (o ≤ c ∧ c < o + 16) ∨ c = x1) I0 I_98 := hf_89.set (by first | rfl | omega | (dsimp only; omega)) e_99
    have t_102 : (I_98 o 1).toInt = ((I_85 o 1) + 1).toInt := by rw [← e_99, q_u_at]
    have k_103 : TokOK I_98 x1 := k_91.fr (by rw [← e_99]; exact q_u_ne (by omega)) (by rw [← e_99]; exact q_u_ne (by omega))
    exact (hp _ _ _ hR_100 hf_101 (Or.inr rfl))
  · have d_104 := iEq c_93
    exact (hp _ _ _ hR_87 hf_89 (Or.inl rfl))
set_option maxHeartbeats 4000000 in
set_option maxRecDepth 20000 in
theorem y_Land_readDistrict {D : va_G} {cA : FieldType → ClassId} {b : Nat} {E : State → Prop} {R : qRg} {o n : Nat} {sh : Nat → qC} {Rf : Nat → Nat → Option Nat} {I0 : Nat → Nat → Int32} {L0 : Nat → Nat → Int64} {post : Option Value → qS → Prop} {x1 : Nat} (hok : q_ok (qGG D cA b E)) (hw : WfLand (qGG D cA b E) n sh Rf o) (ra : RALand R o) (hw1 : WfTape (qGG D cA b E) n sh Rf x1) (ra1 : RATape R x1) (hs0 : o + 16 ≤ x1 ∨ x1 + 7 ≤ o) (hq0 : (I0 o 2).toInt ≤ 2) (hR : RI R I0) (hp : ∀ (I' : Nat → Nat → Int32) (L' : Nat → Nat → Int64), RI R I' → Fm (fun c => (o ≤ c ∧ c < o + 16) ∨ c = x1) I0 I' → ((I' o 2).toInt = (I0 o 2).toInt) → post none (n, sh, Rf, I', L')) : Ev (qGG D cA b E) mLand_readDistrict 2 (0, 0) 0 (lv_args 0 [.ref o, .ref x1]) [] (n, sh, Rf, I0, L0) post := by
  have hf : Fm (fun c => (o ≤ c ∧ c < o + 16) ∨ c = x1) I0 I0 := Fm.rf
  refine sLand_readDistrict_0 o n sh Rf I0 L0 post x1 hok hw hw1 ?_
  unfold fLand_readDistrict_0
  refine y_Tape_isNumber hok hw1 ra1 hR (fun r_1 u_2 u_3 => ⟨r_1, I0, L0, rfl, rfl, ?_⟩)
  have b_4 : 0 ≤ r_1.toInt ∧ r_1.toInt ≤ 1 := u_2.rg
  have l_5 : (0 : Int32).toInt = 0 := rfl
  refine ⟨fun c_6 => ?_, fun c_6 => ?_⟩
  · have d_7 := iEq c_6
    unfold fLand_readDistrict_27
    have l_8 : (4 : Int32).toInt = 4 := rfl
    refine y_Tape_takeNumber hok hw1 ra1 (by omega) (by omega) hR (fun r_9 I_13 L_14 hR_15 fr_16 u_10 u_11 u_12 => ⟨r_9, I_13, L_14, rfl, rfl, ?_⟩)
    have hf_17 : Fm (fun c => (o ≤ c ∧ c < o + 16) ∨ c = x1) I0 I_13 := hf.call fr_16 (fun c hc => by first | exact hc | (dsimp only at hc ⊢; omega) | omega)
    have t_18 : (I_13 o 2).toInt = (I0 o 2).toInt := by rw [fr_16 o (by first | omega | (dsimp only; omega))]
    have v_19 : (-1 : Int) ≤ r_9.toInt ∧ r_9.toInt ≤ 4 := by omega
    have l_20 : (-1 : Int32).toInt = -1 := rfl
    refine ⟨fun c_21 => ?_, fun c_21 => ?_⟩
    · have d_22 := iEq c_21
      exact (hp _ _ hR_15 hf_17 (by omega))
    · have d_23 := iNe c_21
      have g_24 : (0 : Int) ≤ (I_13 o 2).toInt ∧ (I_13 o 2).toInt ≤ 3 := hR_15.at0 ra 2 (by decide)
      have l_25 : (5 : Int32).toInt = 5 := rfl
      have a_26 : ((I_13 o 2) * 5).toInt = (I_13 o 2).toInt * 5 := tMul rfl (by omega) (by omega)
      have a_27 : (((I_13 o 2) * 5) + r_9).toInt = ((I_13 o 2) * 5).toInt + r_9.toInt := tAdd (by omega) (by omega)
      have l_28 : (1 : Int32).toInt = 1 := rfl
      refine ⟨tIn (by omega) (by omega), fun I_29 e_30 => ?_⟩
      have hR_31 : RI R I_29 := hR_15.up ra 8 (by decide) e_30 (i_lo _) (i_hi _)
      have hf_32 : Fm (fun c => (o ≤ c ∧ c < o + 16) ∨ c = x1) I0 I_29 := hf_17.set (by first | rfl | omega | (dsimp only; omega)) e_30
      have t_33 : (I_29 o 2).toInt = (I_13 o 2).toInt := by rw [← e_30, q_u_ne (by omega)]
      exact (hp _ _ hR_31 hf_32 (by omega))
  · have d_34 := iNe c_6
    have g_35 : (0 : Int) ≤ (I0 o 2).toInt ∧ (I0 o 2).toInt ≤ 3 := hR.at0 ra 2 (by decide)
    refine y_Tape_value hok hw1 ra1 hR (fun r_36 u_37 => ⟨r_36, I0, L0, rfl, rfl, ?_⟩)
    refine y_Land_serves hok hw ra (by omega) hR (fun r_38 u_39 => ⟨r_38, I0, L0, rfl, rfl, ?_⟩)
    have b_40 : 0 ≤ r_38.toInt ∧ r_38.toInt ≤ 1 := u_39.rg
    refine ⟨fun c_41 => ?_, fun c_41 => ?_⟩
    · have d_42 := iEq c_41
      unfold fLand_readDistrict_27
      have l_43 : (4 : Int32).toInt = 4 := rfl
      refine y_Tape_takeNumber hok hw1 ra1 (by omega) (by omega) hR (fun r_44 I_48 L_49 hR_50 fr_51 u_45 u_46 u_47 => ⟨r_44, I_48, L_49, rfl, rfl, ?_⟩)
      have hf_52 : Fm (fun c => (o ≤ c ∧ c < o + 16) ∨ c = x1) I0 I_48 := hf.call fr_51 (fun c hc => by first | exact hc | (dsimp only at hc ⊢; omega) | omega)
      have t_53 : (I_48 o 2).toInt = (I0 o 2).toInt := by rw [fr_51 o (by first | omega | (dsimp only; omega))]
      have v_54 : (-1 : Int) ≤ r_44.toInt ∧ r_44.toInt ≤ 4 := by omega
      have l_55 : (-1 : Int32).toInt = -1 := rfl
      refine ⟨fun c_56 => ?_, fun c_56 => ?_⟩
      · have d_57 := iEq c_56
        exact (hp _ _ hR_50 hf_52 (by omega))
      · have d_58 := iNe c_56
        have g_59 : (0 : Int) ≤ (I_48 o 2).toInt ∧ (I_48 o 2).toInt ≤ 3 := hR_50.at0 ra 2 (by decide)
        have l_60 : (5 : Int32).toInt = 5 := rfl
        have a_61 : ((I_48 o 2) * 5).toInt = (I_48 o 2).toInt * 5 := tMul rfl (by omega) (by omega)
        have a_62 : (((I_48 o 2) * 5) + r_44).toInt = ((I_48 o 2) * 5).toInt + r_44.toInt := tAdd (by omega) (by omega)
        have l_63 : (1 : Int32).toInt = 1 := rfl
        refine ⟨tIn (by omega) (by omega), fun I_64 e_65 => ?_⟩
        have hR_66 : RI R I_64 := hR_50.up ra 8 (by decide) e_65 (i_lo _) (i_hi _)
        have hf_67 : Fm (fun c => (o ≤ c ∧ c < o + 16) ∨ c = x1) I0 I_64 := hf_52.set (by first | rfl | omega | (dsimp only; omega)) e_65
        have t_68 : (I_64 o 2).toInt = (I_48 o 2).toInt := by rw [← e_65, q_u_ne (by omega)]
        exact (hp _ _ hR_66 hf_67 (by omega))
    · have d_69 := iNe c_41
      have l_70 : (4 : Int32).toInt = 4 := rfl
      refine y_Tape_refuse hok hw1 ra1 (by omega) hR (fun I_74 L_75 hR_76 fr_77 u_72 u_73 => ⟨I_74, L_75, rfl, rfl, ?_⟩)
      have hf_78 : Fm (fun c => (o ≤ c ∧ c < o + 16) ∨ c = x1) I0 I_74 := hf.call fr_77 (fun c hc => by first | exact hc | (dsimp only at hc ⊢; omega) | omega)
      have t_79 : (I_74 o 2).toInt = (I0 o 2).toInt := by rw [fr_77 o (by first | omega | (dsimp only; omega))]
      unfold fLand_readDistrict_27
      refine y_Tape_takeNumber hok hw1 ra1 (by omega) (by omega) hR_76 (fun r_80 I_84 L_85 hR_86 fr_87 u_81 u_82 u_83 => ⟨r_80, I_84, L_85, rfl, rfl, ?_⟩)
      have hf_88 : Fm (fun c => (o ≤ c ∧ c < o + 16) ∨ c = x1) I0 I_84 := hf_78.call fr_87 (fun c hc => by first | exact hc | (dsimp only at hc ⊢; omega) | omega)
      have t_89 : (I_84 o 2).toInt = (I_74 o 2).toInt := by rw [fr_87 o (by first | omega | (dsimp only; omega))]
      have v_90 : (-1 : Int) ≤ r_80.toInt ∧ r_80.toInt ≤ 4 := by omega
      have l_91 : (-1 : Int32).toInt = -1 := rfl
      refine ⟨fun c_92 => ?_, fun c_92 => ?_⟩
      · have d_93 := iEq c_92
        exact (hp _ _ hR_86 hf_88 (by omega))
      · have d_94 := iNe c_92
        have g_95 : (0 : Int) ≤ (I_84 o 2).toInt ∧ (I_84 o 2).toInt ≤ 3 := hR_86.at0 ra 2 (by decide)
        have l_96 : (5 : Int32).toInt = 5 := rfl
        have a_97 : ((I_84 o 2) * 5).toInt = (I_84 o 2).toInt * 5 := tMul rfl (by omega) (by omega)
        have a_98 : (((I_84 o 2) * 5) + r_80).toInt = ((I_84 o 2) * 5).toInt + r_80.toInt := tAdd (by omega) (by omega)
        have l_99 : (1 : Int32).toInt = 1 := rfl
        refine ⟨tIn (by omega) (by omega), fun I_100 e_101 => ?_⟩
        have hR_102 : RI R I_100 := hR_86.up ra 8 (by decide) e_101 (i_lo _) (i_hi _)
        have hf_103 : Fm (fun c => (o ≤ c ∧ c < o + 16) ∨ c = x1) I0 I_100 := hf_88.set (by first | rfl | omega | (dsimp only; omega)) e_101
        have t_104 : (I_100 o 2).toInt = (I_84 o 2).toInt := by rw [← e_101, q_u_ne (by omega)]
        exact (hp _ _ hR_102 hf_103 (by omega))
set_option maxHeartbeats 4000000 in
set_option maxRecDepth 20000 in
theorem yLand_readPan_122 {D : va_G} {cA : FieldType → ClassId} {b : Nat} {E : State → Prop} {R : qRg} {o n : Nat} {sh : Nat → qC} {Rf : Nat → Nat → Option Nat} {I0 : Nat → Nat → Int32} {L0 : Nat → Nat → Int64} {post : Option Value → qS → Prop} {x1 : Nat} (hok : q_ok (qGG D cA b E)) (hw : WfLand (qGG D cA b E) n sh Rf o) (ra : RALand R o) (hw1 : WfTape (qGG D cA b E) n sh Rf x1) (ra1 : RATape R x1) (hs0 : o + 16 ≤ x1 ∨ x1 + 7 ≤ o) (hq0 : (I0 o 2).toInt ≤ 2) (hq1 : TokOK I0 x1) (hp : ∀ (r : Int32) (I' : Nat → Nat → Int32) (L' : Nat → Nat → Int64), RI R I' → Fm (fun c => (o ≤ c ∧ c < o + 16) ∨ c = x1) I0 I' → (Bz r) → post (some (.int r)) (n, sh, Rf, I', L')) : ∀ (k : Nat) {x2 : Int32} {x3 : Int32} {I : Nat → Nat → Int32} {L : Nat → Nat → Int64}, RI R I → Fm (fun c => (o ≤ c ∧ c < o + 16) ∨ c = x1) I0 I → ((0 : Int) ≤ x3.toInt ∧ x3.toInt ≤ 5) → ((I o 2).toInt ≤ 2) → (5 - x3.toInt).toNat < k → Ev (qGG D cA b E) mLand_readPan 3 (0, 0) 122 [(0, .ref o), (1, .ref x1), (2, .int x2), (3, .int x3)] [] (n, sh, Rf, I, L) post := by
  intro k
  induction k with
  | zero =>
    intro x2 x3 I L hR hf hi0 hi1 hm
    exact absurd hm (Nat.not_lt_zero _)
  | succ k ih =>
    intro x2 x3 I L hR hf hi0 hi1 hm
    refine sLand_readPan_122 o n sh Rf I L post x1 x2 x3 hok hw hw1 ?_
    unfold fLand_readPan_122
    have l_1 : (5 : Int32).toInt = 5 := rfl
    refine ⟨fun c_2 => ?_, fun c_2 => ?_⟩
    · have d_3 := iLe c_2
      refine y_Tape_closeLine hok hw1 ra1 hR (fun r_4 I_8 L_9 hR_10 fr_11 u_5 u_6 u_7 => ⟨r_4, I_8, L_9, rfl, rfl, ?_⟩)
      have hf_12 : Fm (fun c => (o ≤ c ∧ c < o + 16) ∨ c = x1) I0 I_8 := hf.call fr_11 (fun c hc => by first | exact hc | (dsimp only at hc ⊢; omega) | omega)
      have t_13 : (I_8 o 2).toInt = (I o 2).toInt := by rw [fr_11 o (by first | omega | (dsimp only; omega))]
      have b_14 : 0 ≤ r_4.toInt ∧ r_4.toInt ≤ 1 := u_5.rg
      have l_15 : (0 : Int32).toInt = 0 := rfl
      refine ⟨fun c_16 => ?_, fun c_16 => ?_⟩
      · have d_17 := iNe c_16
        have g_18 : (0 : Int) ≤ (I_8 o 2).toInt ∧ (I_8 o 2).toInt ≤ 3 := hR_10.at0 ra 2 (by decide)
        have l_19 : (1 : Int32).toInt = 1 := rfl
        have a_20 : ((I_8 o 2) + 1).toInt = (I_8 o 2).toInt + (1 : Int32).toInt := tAdd (by omega) (by omega)
        refine fun I_21 e_22 => ?_
        have hR_23 : RI R I_21 := hR_10.up0 ra (by decide) e_22 (show (0 : Int) ≤ ((I_8 o 2) + 1).toInt by omega) (show ((I_8 o 2) + 1).toInt ≤ (3 : Int) by omega)
        have hf_24 : Fm (fun c => (o ≤ c ∧ c < o + 16) ∨ c = x1) I0 I_21 := hf_12.set (by first | rfl | omega | (dsimp only; omega)) e_22
        have t_25 : (I_21 o 2).toInt = ((I_8 o 2) + 1).toInt := by rw [← e_22, q_u_at]
        exact (hp _ _ _ hR_23 hf_24 (Or.inr rfl))
      · have d_26 := iEq c_16
        exact (hp _ _ _ hR_10 hf_12 (Or.inl rfl))
    · have d_27 := iNle c_2
      refine y_Tape_isNumber hok hw1 ra1 hR (fun r_28 u_29 u_30 => ⟨r_28, I, L, rfl, rfl, ?_⟩)
      have b_31 : 0 ≤ r_28.toInt ∧ r_28.toInt ≤ 1 := u_29.rg
      have l_32 : (0 : Int32).toInt = 0 := rfl
      refine ⟨fun c_33 => ?_, fun c_33 => ?_⟩
      · have d_34 := iEq c_33
        refine y_Tape_closeLine hok hw1 ra1 hR (fun r_35 I_39 L_40 hR_41 fr_42 u_36 u_37 u_38 => ⟨r_35, I_39, L_40, rfl, rfl, ?_⟩)
        have hf_43 : Fm (fun c => (o ≤ c ∧ c < o + 16) ∨ c = x1) I0 I_39 := hf.call fr_42 (fun c hc => by first | exact hc | (dsimp only at hc ⊢; omega) | omega)
        have t_44 : (I_39 o 2).toInt = (I o 2).toInt := by rw [fr_42 o (by first | omega | (dsimp only; omega))]
        have b_45 : 0 ≤ r_35.toInt ∧ r_35.toInt ≤ 1 := u_36.rg
        refine ⟨fun c_46 => ?_, fun c_46 => ?_⟩
        · have d_47 := iNe c_46
          have g_48 : (0 : Int) ≤ (I_39 o 2).toInt ∧ (I_39 o 2).toInt ≤ 3 := hR_41.at0 ra 2 (by decide)
          have l_49 : (1 : Int32).toInt = 1 := rfl
          have a_50 : ((I_39 o 2) + 1).toInt = (I_39 o 2).toInt + (1 : Int32).toInt := tAdd (by omega) (by omega)
          refine fun I_51 e_52 => ?_
          have hR_53 : RI R I_51 := hR_41.up0 ra (by decide) e_52 (show (0 : Int) ≤ ((I_39 o 2) + 1).toInt by omega) (show ((I_39 o 2) + 1).toInt ≤ (3 : Int) by omega)
          have hf_54 : Fm (fun c => (o ≤ c ∧ c < o + 16) ∨ c = x1) I0 I_51 := hf_43.set (by first | rfl | omega | (dsimp only; omega)) e_52
          have t_55 : (I_51 o 2).toInt = ((I_39 o 2) + 1).toInt := by rw [← e_52, q_u_at]
          exact (hp _ _ _ hR_53 hf_54 (Or.inr rfl))
        · have d_56 := iEq c_46
          exact (hp _ _ _ hR_41 hf_43 (Or.inl rfl))
      · have d_57 := iNe c_33
        refine y_Land_readDistrict hok hw ra hw1 ra1 (by omega) (by omega) hR (fun I_60 L_61 hR_62 fr_63 u_59 => ⟨I_60, L_61, rfl, rfl, ?_⟩)
        have hf_64 : Fm (fun c => (o ≤ c ∧ c < o + 16) ∨ c = x1) I0 I_60 := hf.call fr_63 (fun c hc => by first | exact hc | (dsimp only at hc ⊢; omega) | omega)
        have a_66 : (x3 + Int32.ofInt 1).toInt = x3.toInt + (1) := tIc (by omega) (by omega) (by decide) (by decide)
        generalize (x3 + Int32.ofInt 1) = z_65 at a_66 ⊢
        exact ih hR_62 hf_64 (by omega) (by omega) (by omega)
set_option maxHeartbeats 4000000 in
set_option maxRecDepth 20000 in
theorem yLand_readPan_37 {D : va_G} {cA : FieldType → ClassId} {b : Nat} {E : State → Prop} {R : qRg} {o n : Nat} {sh : Nat → qC} {Rf : Nat → Nat → Option Nat} {I0 : Nat → Nat → Int32} {L0 : Nat → Nat → Int64} {post : Option Value → qS → Prop} {x1 : Nat} (hok : q_ok (qGG D cA b E)) (hw : WfLand (qGG D cA b E) n sh Rf o) (ra : RALand R o) (hw1 : WfTape (qGG D cA b E) n sh Rf x1) (ra1 : RATape R x1) (hs0 : o + 16 ≤ x1 ∨ x1 + 7 ≤ o) (hq0 : (I0 o 2).toInt ≤ 2) (hq1 : TokOK I0 x1) (hp : ∀ (r : Int32) (I' : Nat → Nat → Int32) (L' : Nat → Nat → Int64), RI R I' → Fm (fun c => (o ≤ c ∧ c < o + 16) ∨ c = x1) I0 I' → (Bz r) → post (some (.int r)) (n, sh, Rf, I', L')) : ∀ (k : Nat) {x2 : Int32} {x3 : Int32} {I : Nat → Nat → Int32} {L : Nat → Nat → Int64}, RI R I → Fm (fun c => (o ≤ c ∧ c < o + 16) ∨ c = x1) I0 I → ((0 : Int) ≤ x3.toInt ∧ x3.toInt ≤ 12) → ((I o 2).toInt ≤ 2) → (12 - x3.toInt).toNat < k → Ev (qGG D cA b E) mLand_readPan 3 (0, 0) 37 [(0, .ref o), (1, .ref x1), (2, .int x2), (3, .int x3)] [] (n, sh, Rf, I, L) post := by
  intro k
  induction k with
  | zero =>
    intro x2 x3 I L hR hf hi0 hi1 hm
    exact absurd hm (Nat.not_lt_zero _)
  | succ k ih =>
    intro x2 x3 I L hR hf hi0 hi1 hm
    refine sLand_readPan_37 o n sh Rf I L post x1 x2 x3 hok hw hw1 ?_
    unfold fLand_readPan_37
    have l_67 : (12 : Int32).toInt = 12 := rfl
    refine ⟨fun c_68 => ?_, fun c_68 => ?_⟩
    · have d_69 := iLe c_68
      have g_70 : (0 : Int) ≤ (I o 2).toInt ∧ (I o 2).toInt ≤ 3 := hR.at0 ra 2 (by decide)
      refine fun y_71 e_72 => ?_
      have l_73 : (1 : Int32).toInt = 1 := rfl
      have m_74 := tMax e_72
      refine ⟨tIn (by omega) (by omega), fun I_75 e_76 => ?_⟩
      have hR_77 : RI R I_75 := hR.up ra 9 (by decide) e_76 (i_lo _) (i_hi _)
      have hf_78 : Fm (fun c => (o ≤ c ∧ c < o + 16) ∨ c = x1) I0 I_75 := hf.set (by first | rfl | omega | (dsimp only; omega)) e_76
      have t_79 : (I_75 o 2).toInt = (I o 2).toInt := by rw [← e_76, q_u_ne (by omega)]
      have l_80 : (7 : Int32).toInt = 7 := rfl
      refine y_Tape_isWord hok hw1 ra1 hR_77 (fun r_81 u_82 => ⟨r_81, I_75, L, rfl, rfl, ?_⟩)
      have b_83 : 0 ≤ r_81.toInt ∧ r_81.toInt ≤ 1 := u_82.rg
      refine y_Tape_passIf hok hw1 ra1 hR_77 (fun I_86 L_87 hR_88 fr_89 u_85 => ⟨I_86, L_87, rfl, rfl, ?_⟩)
      have hf_90 : Fm (fun c => (o ≤ c ∧ c < o + 16) ∨ c = x1) I0 I_86 := hf_78.call fr_89 (fun c hc => by first | exact hc | (dsimp only at hc ⊢; omega) | omega)
      have t_91 : (I_86 o 2).toInt = (I_75 o 2).toInt := by rw [fr_89 o (by first | omega | (dsimp only; omega))]
      refine y_Land_readDistrict hok hw ra hw1 ra1 (by omega) (by omega) hR_88 (fun I_94 L_95 hR_96 fr_97 u_93 => ⟨I_94, L_95, rfl, rfl, ?_⟩)
      have hf_98 : Fm (fun c => (o ≤ c ∧ c < o + 16) ∨ c = x1) I0 I_94 := hf_90.call fr_97 (fun c hc => by first | exact hc | (dsimp only at hc ⊢; omega) | omega)
      have l_99 : (0 : Int32).toInt = 0 := rfl
      exact yLand_readPan_122 (I0 := I0) (L0 := L0) hok hw ra hw1 ra1 hs0 hq0 hq1 hp  _ hR_96 hf_98 (by omega) (by omega) (Nat.lt_succ_self _)
    · have d_100 := iNle c_68
      have g_101 : (0 : Int) ≤ (I o 2).toInt ∧ (I o 2).toInt ≤ 3 := hR.at0 ra 2 (by decide)
      have a_102 : ((I o 2) * 12).toInt = (I o 2).toInt * 12 := tMul rfl (by omega) (by omega)
      have a_103 : (((I o 2) * 12) + x3).toInt = ((I o 2) * 12).toInt + x3.toInt := tAdd (by omega) (by omega)
      have l_104 : (0 : Int32).toInt = 0 := rfl
      have l_105 : (999 : Int32).toInt = 999 := rfl
      refine y_Tape_takeNumber hok hw1 ra1 (by omega) (by omega) hR (fun r_106 I_110 L_111 hR_112 fr_113 u_107 u_108 u_109 => ⟨r_106, I_110, L_111, rfl, rfl, ?_⟩)
      have hf_114 : Fm (fun c => (o ≤ c ∧ c < o + 16) ∨ c = x1) I0 I_110 := hf.call fr_113 (fun c hc => by first | exact hc | (dsimp only at hc ⊢; omega) | omega)
      have t_115 : (I_110 o 2).toInt = (I o 2).toInt := by rw [fr_113 o (by first | omega | (dsimp only; omega))]
      refine ⟨tIn (by omega) (by omega), fun I_116 e_117 => ?_⟩
      have hR_118 : RI R I_116 := hR_112.up ra 7 (by decide) e_117 (i_lo _) (i_hi _)
      have hf_119 : Fm (fun c => (o ≤ c ∧ c < o + 16) ∨ c = x1) I0 I_116 := hf_114.set (by first | rfl | omega | (dsimp only; omega)) e_117
      have t_120 : (I_116 o 2).toInt = (I_110 o 2).toInt := by rw [← e_117, q_u_ne (by omega)]
      have g_121 : (0 : Int) ≤ (I_116 o 2).toInt ∧ (I_116 o 2).toInt ≤ 3 := hR_118.at0 ra 2 (by decide)
      have a_122 : ((I_116 o 2) * 12).toInt = (I_116 o 2).toInt * 12 := tMul rfl (by omega) (by omega)
      have a_123 : (((I_116 o 2) * 12) + x3).toInt = ((I_116 o 2) * 12).toInt + x3.toInt := tAdd (by omega) (by omega)
      refine ⟨tIn (by omega) (by omega), ?_⟩
      have a_125 : (x3 + Int32.ofInt 1).toInt = x3.toInt + (1) := tIc (by omega) (by omega) (by decide) (by decide)
      generalize (x3 + Int32.ofInt 1) = z_124 at a_125 ⊢
      exact ih hR_118 hf_119 (by omega) (by omega) (by omega)
set_option maxHeartbeats 4000000 in
set_option maxRecDepth 20000 in
theorem y_Land_readPan {D : va_G} {cA : FieldType → ClassId} {b : Nat} {E : State → Prop} {R : qRg} {o n : Nat} {sh : Nat → qC} {Rf : Nat → Nat → Option Nat} {I0 : Nat → Nat → Int32} {L0 : Nat → Nat → Int64} {post : Option Value → qS → Prop} {x1 : Nat} (hok : q_ok (qGG D cA b E)) (hw : WfLand (qGG D cA b E) n sh Rf o) (ra : RALand R o) (hw1 : WfTape (qGG D cA b E) n sh Rf x1) (ra1 : RATape R x1) (hs0 : o + 16 ≤ x1 ∨ x1 + 7 ≤ o) (hq0 : (I0 o 2).toInt ≤ 2) (hq1 : TokOK I0 x1) (hR : RI R I0) (hp : ∀ (r : Int32) (I' : Nat → Nat → Int32) (L' : Nat → Nat → Int64), RI R I' → Fm (fun c => (o ≤ c ∧ c < o + 16) ∨ c = x1) I0 I' → (Bz r) → post (some (.int r)) (n, sh, Rf, I', L')) : Ev (qGG D cA b E) mLand_readPan 3 (0, 0) 0 (lv_args 0 [.ref o, .ref x1]) [] (n, sh, Rf, I0, L0) post := by
  have hf : Fm (fun c => (o ≤ c ∧ c < o + 16) ∨ c = x1) I0 I0 := Fm.rf
  refine sLand_readPan_0 o n sh Rf I0 L0 post x1 hok hw hw1 ?_
  unfold fLand_readPan_0
  refine y_Tape_step hok hw1 ra1 hR (fun I_128 L_129 hR_130 fr_131 u_127 => ⟨I_128, L_129, rfl, rfl, ?_⟩)
  have hf_132 : Fm (fun c => (o ≤ c ∧ c < o + 16) ∨ c = x1) I0 I_128 := hf.call fr_131 (fun c hc => by first | exact hc | (dsimp only at hc ⊢; omega) | omega)
  have t_133 : (I_128 o 2).toInt = (I0 o 2).toInt := by rw [fr_131 o (by first | omega | (dsimp only; omega))]
  have k_134 : TokOK I_128 x1 := hq1.fr (fr_131 _ (by first | omega | (dsimp only; omega))) (fr_131 _ (by first | omega | (dsimp only; omega)))
  refine y_Land_readName hok hw ra hw1 ra1 (by omega) hR_130 (fun I_141 L_142 hR_143 fr_144 u_136 u_137 u_138 u_139 u_140 => ⟨I_141, L_142, rfl, rfl, ?_⟩)
  have hf_145 : Fm (fun c => (o ≤ c ∧ c < o + 16) ∨ c = x1) I0 I_141 := hf_132.call fr_144 (fun c hc => by first | exact hc | (dsimp only at hc ⊢; omega) | omega)
  have k_146 : TokOK I_141 x1 := k_134.fr (fr_144 _ (by first | omega | (dsimp only; omega))) (fr_144 _ (by first | omega | (dsimp only; omega)))
  have g_147 : (0 : Int) ≤ (I_141 o 2).toInt ∧ (I_141 o 2).toInt ≤ 3 := hR_143.at0 ra 2 (by decide)
  refine y_Land_readSite hok hw ra hw1 ra1 k_146 hR_143 (fun r_148 I_152 L_153 hR_154 fr_155 u_149 u_150 u_151 => ⟨r_148, I_152, L_153, rfl, rfl, ?_⟩)
  have hf_156 : Fm (fun c => (o ≤ c ∧ c < o + 16) ∨ c = x1) I0 I_152 := hf_145.call fr_155 (fun c hc => by first | exact hc | (dsimp only at hc ⊢; omega) | omega)
  have t_157 : (I_152 o 2).toInt = (I_141 o 2).toInt := by rw [fr_155 o (by first | omega | (dsimp only; omega))]
  have k_158 : TokOK I_152 x1 := k_146.fr (fr_155 _ (by first | omega | (dsimp only; omega))) (fr_155 _ (by first | omega | (dsimp only; omega)))
  refine ⟨tIn (by omega) (by omega), fun I_159 e_160 => ?_⟩
  have hR_161 : RI R I_159 := hR_154.up ra 6 (by decide) e_160 (i_lo _) (i_hi _)
  have hf_162 : Fm (fun c => (o ≤ c ∧ c < o + 16) ∨ c = x1) I0 I_159 := hf_156.set (by first | rfl | omega | (dsimp only; omega)) e_160
  have t_163 : (I_159 o 2).toInt = (I_152 o 2).toInt := by rw [← e_160, q_u_ne (by omega)]
  have k_164 : TokOK I_159 x1 := k_158.fr (by rw [← e_160]; exact q_u_ne (by omega)) (by rw [← e_160]; exact q_u_ne (by omega))
  have l_165 : (6 : Int32).toInt = 6 := rfl
  refine y_Tape_isWord hok hw1 ra1 hR_161 (fun r_166 u_167 => ⟨r_166, I_159, L_153, rfl, rfl, ?_⟩)
  have b_168 : 0 ≤ r_166.toInt ∧ r_166.toInt ≤ 1 := u_167.rg
  refine y_Tape_passIf hok hw1 ra1 hR_161 (fun I_171 L_172 hR_173 fr_174 u_170 => ⟨I_171, L_172, rfl, rfl, ?_⟩)
  have hf_175 : Fm (fun c => (o ≤ c ∧ c < o + 16) ∨ c = x1) I0 I_171 := hf_162.call fr_174 (fun c hc => by first | exact hc | (dsimp only at hc ⊢; omega) | omega)
  have t_176 : (I_171 o 2).toInt = (I_159 o 2).toInt := by rw [fr_174 o (by first | omega | (dsimp only; omega))]
  have k_177 : TokOK I_171 x1 := k_164.fr (fr_174 _ (by first | omega | (dsimp only; omega))) (fr_174 _ (by first | omega | (dsimp only; omega)))
  have l_178 : (0 : Int32).toInt = 0 := rfl
  exact yLand_readPan_37 (I0 := I0) (L0 := L0) hok hw ra hw1 ra1 hs0 hq0 hq1 hp  _ hR_173 hf_175 (by omega) (by omega) (Nat.lt_succ_self _)
set_option maxHeartbeats 4000000 in
set_option maxRecDepth 20000 in
theorem y_Land_readTown {D : va_G} {cA : FieldType → ClassId} {b : Nat} {E : State → Prop} {R : qRg} {o n : Nat} {sh : Nat → qC} {Rf : Nat → Nat → Option Nat} {I0 : Nat → Nat → Int32} {L0 : Nat → Nat → Int64} {post : Option Value → qS → Prop} {x1 : Nat} (hok : q_ok (qGG D cA b E)) (hw : WfLand (qGG D cA b E) n sh Rf o) (ra : RALand R o) (hw1 : WfTape (qGG D cA b E) n sh Rf x1) (ra1 : RATape R x1) (hs0 : o + 16 ≤ x1 ∨ x1 + 7 ≤ o) (hq0 : (I0 o 3).toInt ≤ 4) (hq1 : TokOK I0 x1) (hR : RI R I0) (hp : ∀ (r : Int32) (I' : Nat → Nat → Int32) (L' : Nat → Nat → Int64), RI R I' → Fm (fun c => (o ≤ c ∧ c < o + 16) ∨ c = x1) I0 I' → (Bz r) → post (some (.int r)) (n, sh, Rf, I', L')) : Ev (qGG D cA b E) mLand_readTown 3 (0, 0) 0 (lv_args 0 [.ref o, .ref x1]) [] (n, sh, Rf, I0, L0) post := by
  have hf : Fm (fun c => (o ≤ c ∧ c < o + 16) ∨ c = x1) I0 I0 := Fm.rf
  refine sLand_readTown_0 o n sh Rf I0 L0 post x1 hok hw hw1 ?_
  unfold fLand_readTown_0
  refine y_Tape_step hok hw1 ra1 hR (fun I_3 L_4 hR_5 fr_6 u_2 => ⟨I_3, L_4, rfl, rfl, ?_⟩)
  have hf_7 : Fm (fun c => (o ≤ c ∧ c < o + 16) ∨ c = x1) I0 I_3 := hf.call fr_6 (fun c hc => by first | exact hc | (dsimp only at hc ⊢; omega) | omega)
  have t_8 : (I_3 o 3).toInt = (I0 o 3).toInt := by rw [fr_6 o (by first | omega | (dsimp only; omega))]
  have k_9 : TokOK I_3 x1 := hq1.fr (fr_6 _ (by first | omega | (dsimp only; omega))) (fr_6 _ (by first | omega | (dsimp only; omega)))
  refine y_Land_readName hok hw ra hw1 ra1 (by omega) hR_5 (fun I_16 L_17 hR_18 fr_19 u_11 u_12 u_13 u_14 u_15 => ⟨I_16, L_17, rfl, rfl, ?_⟩)
  have hf_20 : Fm (fun c => (o ≤ c ∧ c < o + 16) ∨ c = x1) I0 I_16 := hf_7.call fr_19 (fun c hc => by first | exact hc | (dsimp only at hc ⊢; omega) | omega)
  have k_21 : TokOK I_16 x1 := k_9.fr (fr_19 _ (by first | omega | (dsimp only; omega))) (fr_19 _ (by first | omega | (dsimp only; omega)))
  have g_22 : (0 : Int) ≤ (I_16 o 3).toInt ∧ (I_16 o 3).toInt ≤ 5 := hR_18.at0 ra 3 (by decide)
  refine y_Land_readSite hok hw ra hw1 ra1 k_21 hR_18 (fun r_23 I_27 L_28 hR_29 fr_30 u_24 u_25 u_26 => ⟨r_23, I_27, L_28, rfl, rfl, ?_⟩)
  have hf_31 : Fm (fun c => (o ≤ c ∧ c < o + 16) ∨ c = x1) I0 I_27 := hf_20.call fr_30 (fun c hc => by first | exact hc | (dsimp only at hc ⊢; omega) | omega)
  have t_32 : (I_27 o 3).toInt = (I_16 o 3).toInt := by rw [fr_30 o (by first | omega | (dsimp only; omega))]
  have k_33 : TokOK I_27 x1 := k_21.fr (fr_30 _ (by first | omega | (dsimp only; omega))) (fr_30 _ (by first | omega | (dsimp only; omega)))
  refine ⟨tIn (by omega) (by omega), fun I_34 e_35 => ?_⟩
  have hR_36 : RI R I_34 := hR_29.up ra 10 (by decide) e_35 (i_lo _) (i_hi _)
  have hf_37 : Fm (fun c => (o ≤ c ∧ c < o + 16) ∨ c = x1) I0 I_34 := hf_31.set (by first | rfl | omega | (dsimp only; omega)) e_35
  have t_38 : (I_34 o 3).toInt = (I_27 o 3).toInt := by rw [← e_35, q_u_ne (by omega)]
  have k_39 : TokOK I_34 x1 := k_33.fr (by rw [← e_35]; exact q_u_ne (by omega)) (by rw [← e_35]; exact q_u_ne (by omega))
  have g_40 : (0 : Int) ≤ (I_34 o 3).toInt ∧ (I_34 o 3).toInt ≤ 5 := hR_36.at0 ra 3 (by decide)
  have l_41 : (9 : Int32).toInt = 9 := rfl
  have l_42 : (0 : Int32).toInt = 0 := rfl
  have l_43 : (4 : Int32).toInt = 4 := rfl
  refine y_Tape_takeNumberBehind hok hw1 ra1 (by omega) (by omega) hR_36 (fun r_44 I_48 L_49 hR_50 fr_51 u_45 u_46 u_47 => ⟨r_44, I_48, L_49, rfl, rfl, ?_⟩)
  have hf_52 : Fm (fun c => (o ≤ c ∧ c < o + 16) ∨ c = x1) I0 I_48 := hf_37.call fr_51 (fun c hc => by first | exact hc | (dsimp only at hc ⊢; omega) | omega)
  have t_53 : (I_48 o 3).toInt = (I_34 o 3).toInt := by rw [fr_51 o (by first | omega | (dsimp only; omega))]
  have k_54 : TokOK I_48 x1 := k_39.fr (fr_51 _ (by first | omega | (dsimp only; omega))) (fr_51 _ (by first | omega | (dsimp only; omega)))
  refine ⟨tIn (by omega) (by omega), fun I_55 e_56 => ?_⟩
  have hR_57 : RI R I_55 := hR_50.up ra 11 (by decide) e_56 (i_lo _) (i_hi _)
  have hf_58 : Fm (fun c => (o ≤ c ∧ c < o + 16) ∨ c = x1) I0 I_55 := hf_52.set (by first | rfl | omega | (dsimp only; omega)) e_56
  have t_59 : (I_55 o 3).toInt = (I_48 o 3).toInt := by rw [← e_56, q_u_ne (by omega)]
  have k_60 : TokOK I_55 x1 := k_54.fr (by rw [← e_56]; exact q_u_ne (by omega)) (by rw [← e_56]; exact q_u_ne (by omega))
  have g_61 : (0 : Int) ≤ (I_55 o 3).toInt ∧ (I_55 o 3).toInt ≤ 5 := hR_57.at0 ra 3 (by decide)
  have l_62 : (10 : Int32).toInt = 10 := rfl
  have l_63 : (999 : Int32).toInt = 999 := rfl
  refine y_Tape_takeNumberBehind hok hw1 ra1 (by omega) (by omega) hR_57 (fun r_64 I_68 L_69 hR_70 fr_71 u_65 u_66 u_67 => ⟨r_64, I_68, L_69, rfl, rfl, ?_⟩)
  have hf_72 : Fm (fun c => (o ≤ c ∧ c < o + 16) ∨ c = x1) I0 I_68 := hf_58.call fr_71 (fun c hc => by first | exact hc | (dsimp only at hc ⊢; omega) | omega)
  have t_73 : (I_68 o 3).toInt = (I_55 o 3).toInt := by rw [fr_71 o (by first | omega | (dsimp only; omega))]
  have k_74 : TokOK I_68 x1 := k_60.fr (fr_71 _ (by first | omega | (dsimp only; omega))) (fr_71 _ (by first | omega | (dsimp only; omega)))
  refine ⟨tIn (by omega) (by omega), fun I_75 e_76 => ?_⟩
  have hR_77 : RI R I_75 := hR_70.up ra 12 (by decide) e_76 (i_lo _) (i_hi _)
  have hf_78 : Fm (fun c => (o ≤ c ∧ c < o + 16) ∨ c = x1) I0 I_75 := hf_72.set (by first | rfl | omega | (dsimp only; omega)) e_76
  have t_79 : (I_75 o 3).toInt = (I_68 o 3).toInt := by rw [← e_76, q_u_ne (by omega)]
  have k_80 : TokOK I_75 x1 := k_74.fr (by rw [← e_76]; exact q_u_ne (by omega)) (by rw [← e_76]; exact q_u_ne (by omega))
  have g_81 : (0 : Int) ≤ (I_75 o 3).toInt ∧ (I_75 o 3).toInt ≤ 5 := hR_77.at0 ra 3 (by decide)
  have l_82 : (11 : Int32).toInt = 11 := rfl
  have l_83 : (1 : Int32).toInt = 1 := rfl
  refine y_Tape_takeNumberBehind hok hw1 ra1 (by omega) (by omega) hR_77 (fun r_84 I_88 L_89 hR_90 fr_91 u_85 u_86 u_87 => ⟨r_84, I_88, L_89, rfl, rfl, ?_⟩)
  have hf_92 : Fm (fun c => (o ≤ c ∧ c < o + 16) ∨ c = x1) I0 I_88 := hf_78.call fr_91 (fun c hc => by first | exact hc | (dsimp only at hc ⊢; omega) | omega)
  have t_93 : (I_88 o 3).toInt = (I_75 o 3).toInt := by rw [fr_91 o (by first | omega | (dsimp only; omega))]
  have k_94 : TokOK I_88 x1 := k_80.fr (fr_91 _ (by first | omega | (dsimp only; omega))) (fr_91 _ (by first | omega | (dsimp only; omega)))
  refine ⟨tIn (by omega) (by omega), fun I_95 e_96 => ?_⟩
  have hR_97 : RI R I_95 := hR_90.up ra 13 (by decide) e_96 (i_lo _) (i_hi _)
  have hf_98 : Fm (fun c => (o ≤ c ∧ c < o + 16) ∨ c = x1) I0 I_95 := hf_92.set (by first | rfl | omega | (dsimp only; omega)) e_96
  have t_99 : (I_95 o 3).toInt = (I_88 o 3).toInt := by rw [← e_96, q_u_ne (by omega)]
  have k_100 : TokOK I_95 x1 := k_94.fr (by rw [← e_96]; exact q_u_ne (by omega)) (by rw [← e_96]; exact q_u_ne (by omega))
  have g_101 : (0 : Int) ≤ (I_95 o 3).toInt ∧ (I_95 o 3).toInt ≤ 5 := hR_97.at0 ra 3 (by decide)
  have l_102 : (12 : Int32).toInt = 12 := rfl
  refine y_Tape_takeNumberBehind hok hw1 ra1 (by omega) (by omega) hR_97 (fun r_103 I_107 L_108 hR_109 fr_110 u_104 u_105 u_106 => ⟨r_103, I_107, L_108, rfl, rfl, ?_⟩)
  have hf_111 : Fm (fun c => (o ≤ c ∧ c < o + 16) ∨ c = x1) I0 I_107 := hf_98.call fr_110 (fun c hc => by first | exact hc | (dsimp only at hc ⊢; omega) | omega)
  have t_112 : (I_107 o 3).toInt = (I_95 o 3).toInt := by rw [fr_110 o (by first | omega | (dsimp only; omega))]
  have k_113 : TokOK I_107 x1 := k_100.fr (fr_110 _ (by first | omega | (dsimp only; omega))) (fr_110 _ (by first | omega | (dsimp only; omega)))
  refine ⟨tIn (by omega) (by omega), fun I_114 e_115 => ?_⟩
  have hR_116 : RI R I_114 := hR_109.up ra 14 (by decide) e_115 (i_lo _) (i_hi _)
  have hf_117 : Fm (fun c => (o ≤ c ∧ c < o + 16) ∨ c = x1) I0 I_114 := hf_111.set (by first | rfl | omega | (dsimp only; omega)) e_115
  have t_118 : (I_114 o 3).toInt = (I_107 o 3).toInt := by rw [← e_115, q_u_ne (by omega)]
  have k_119 : TokOK I_114 x1 := k_113.fr (by rw [← e_115]; exact q_u_ne (by omega)) (by rw [← e_115]; exact q_u_ne (by omega))
  have g_120 : (0 : Int) ≤ (I_114 o 3).toInt ∧ (I_114 o 3).toInt ≤ 5 := hR_116.at0 ra 3 (by decide)
  have l_121 : (13 : Int32).toInt = 13 := rfl
  have l_122 : (99 : Int32).toInt = 99 := rfl
  refine y_Tape_takeNumberBehind hok hw1 ra1 (by omega) (by omega) hR_116 (fun r_123 I_127 L_128 hR_129 fr_130 u_124 u_125 u_126 => ⟨r_123, I_127, L_128, rfl, rfl, ?_⟩)
  have hf_131 : Fm (fun c => (o ≤ c ∧ c < o + 16) ∨ c = x1) I0 I_127 := hf_117.call fr_130 (fun c hc => by first | exact hc | (dsimp only at hc ⊢; omega) | omega)
  have t_132 : (I_127 o 3).toInt = (I_114 o 3).toInt := by rw [fr_130 o (by first | omega | (dsimp only; omega))]
  have k_133 : TokOK I_127 x1 := k_119.fr (fr_130 _ (by first | omega | (dsimp only; omega))) (fr_130 _ (by first | omega | (dsimp only; omega)))
  refine ⟨tIn (by omega) (by omega), fun I_134 e_135 => ?_⟩
  have hR_136 : RI R I_134 := hR_129.up ra 15 (by decide) e_135 (i_lo _) (i_hi _)
  have hf_137 : Fm (fun c => (o ≤ c ∧ c < o + 16) ∨ c = x1) I0 I_134 := hf_131.set (by first | rfl | omega | (dsimp only; omega)) e_135
  have t_138 : (I_134 o 3).toInt = (I_127 o 3).toInt := by rw [← e_135, q_u_ne (by omega)]
  have k_139 : TokOK I_134 x1 := k_133.fr (by rw [← e_135]; exact q_u_ne (by omega)) (by rw [← e_135]; exact q_u_ne (by omega))
  refine y_Tape_closeLine hok hw1 ra1 hR_136 (fun r_140 I_144 L_145 hR_146 fr_147 u_141 u_142 u_143 => ⟨r_140, I_144, L_145, rfl, rfl, ?_⟩)
  have hf_148 : Fm (fun c => (o ≤ c ∧ c < o + 16) ∨ c = x1) I0 I_144 := hf_137.call fr_147 (fun c hc => by first | exact hc | (dsimp only at hc ⊢; omega) | omega)
  have t_149 : (I_144 o 3).toInt = (I_134 o 3).toInt := by rw [fr_147 o (by first | omega | (dsimp only; omega))]
  have k_150 : TokOK I_144 x1 := k_139.fr (fr_147 _ (by first | omega | (dsimp only; omega))) (fr_147 _ (by first | omega | (dsimp only; omega)))
  have b_151 : 0 ≤ r_140.toInt ∧ r_140.toInt ≤ 1 := u_141.rg
  refine ⟨fun c_152 => ?_, fun c_152 => ?_⟩
  · have d_153 := iNe c_152
    have g_154 : (0 : Int) ≤ (I_144 o 3).toInt ∧ (I_144 o 3).toInt ≤ 5 := hR_146.at0 ra 3 (by decide)
    have a_155 : ((I_144 o 3) + 1).toInt = (I_144 o 3).toInt + (1 : Int32).toInt := tAdd (by omega) (by omega)
    refine fun I_156 e_157 => ?_
    have hR_158 : RI R I_156 := hR_146.up0 ra (by decide) e_157 (show (0 : Int) ≤ ((I_144 o 3) + 1).toInt by omega) (show ((I_144 o 3) + 1).toInt ≤ (5 : Int) by omega)
    have hf_159 : Fm (fun c => (o ≤ c ∧ c < o + 16) ∨ c = x1) I0 I_156 := hf_148.set (by first | rfl | omega | (dsimp only; omega)) e_157
    have t_160 : (I_156 o 3).toInt = ((I_144 o 3) + 1).toInt := by rw [← e_157, q_u_at]
    have k_161 : TokOK I_156 x1 := k_150.fr (by rw [← e_157]; exact q_u_ne (by omega)) (by rw [← e_157]; exact q_u_ne (by omega))
    exact (hp _ _ _ hR_158 hf_159 (Or.inr rfl))
  · have d_162 := iEq c_152
    exact (hp _ _ _ hR_146 hf_148 (Or.inl rfl))
set_option maxHeartbeats 4000000 in
set_option maxRecDepth 20000 in
theorem y_Land_readLine {D : va_G} {cA : FieldType → ClassId} {b : Nat} {E : State → Prop} {R : qRg} {o n : Nat} {sh : Nat → qC} {Rf : Nat → Nat → Option Nat} {I0 : Nat → Nat → Int32} {L0 : Nat → Nat → Int64} {post : Option Value → qS → Prop} {x1 : Nat} (hok : q_ok (qGG D cA b E)) (hw : WfLand (qGG D cA b E) n sh Rf o) (ra : RALand R o) (hw1 : WfTape (qGG D cA b E) n sh Rf x1) (ra1 : RATape R x1) (hs0 : o + 16 ≤ x1 ∨ x1 + 7 ≤ o) (hq0 : TokOK I0 x1) (hR : RI R I0) (hp : ∀ (r : Int32) (I' : Nat → Nat → Int32) (L' : Nat → Nat → Int64), RI R I' → Fm (fun c => (o ≤ c ∧ c < o + 16) ∨ c = x1) I0 I' → (Bz r) → post (some (.int r)) (n, sh, Rf, I', L')) : Ev (qGG D cA b E) mLand_readLine 4 (0, 0) 0 (lv_args 0 [.ref o, .ref x1]) [] (n, sh, Rf, I0, L0) post := by
  have hf : Fm (fun c => (o ≤ c ∧ c < o + 16) ∨ c = x1) I0 I0 := Fm.rf
  refine sLand_readLine_0 o n sh Rf I0 L0 post x1 hok hw hw1 ?_
  unfold fLand_readLine_0
  have l_1 : (0 : Int32).toInt = 0 := rfl
  refine y_Tape_isWord hok hw1 ra1 hR (fun r_2 u_3 => ⟨r_2, I0, L0, rfl, rfl, ?_⟩)
  have b_4 : 0 ≤ r_2.toInt ∧ r_2.toInt ≤ 1 := u_3.rg
  refine ⟨fun c_5 => ?_, fun c_5 => ?_⟩
  · have d_6 := iEq c_5
    unfold fLand_readLine_23
    have l_7 : (1 : Int32).toInt = 1 := rfl
    refine y_Tape_isWord hok hw1 ra1 hR (fun r_8 u_9 => ⟨r_8, I0, L0, rfl, rfl, ?_⟩)
    have b_10 : 0 ≤ r_8.toInt ∧ r_8.toInt ≤ 1 := u_9.rg
    refine ⟨fun c_11 => ?_, fun c_11 => ?_⟩
    · have d_12 := iEq c_11
      unfold fLand_readLine_45
      have l_13 : (5 : Int32).toInt = 5 := rfl
      refine y_Tape_isWord hok hw1 ra1 hR (fun r_14 u_15 => ⟨r_14, I0, L0, rfl, rfl, ?_⟩)
      have b_16 : 0 ≤ r_14.toInt ∧ r_14.toInt ≤ 1 := u_15.rg
      refine ⟨fun c_17 => ?_, fun c_17 => ?_⟩
      · have d_18 := iEq c_17
        unfold fLand_readLine_67
        have l_19 : (8 : Int32).toInt = 8 := rfl
        refine y_Tape_isWord hok hw1 ra1 hR (fun r_20 u_21 => ⟨r_20, I0, L0, rfl, rfl, ?_⟩)
        have b_22 : 0 ≤ r_20.toInt ∧ r_20.toInt ≤ 1 := u_21.rg
        refine ⟨fun c_23 => ?_, fun c_23 => ?_⟩
        · have d_24 := iEq c_23
          have l_25 : (2 : Int32).toInt = 2 := rfl
          refine y_Tape_refuse hok hw1 ra1 (by omega) hR (fun I_29 L_30 hR_31 fr_32 u_27 u_28 => ⟨I_29, L_30, rfl, rfl, ?_⟩)
          have hf_33 : Fm (fun c => (o ≤ c ∧ c < o + 16) ∨ c = x1) I0 I_29 := hf.call fr_32 (fun c hc => by first | exact hc | (dsimp only at hc ⊢; omega) | omega)
          have k_34 : TokOK I_29 x1 := hq0.fr (fr_32 _ (by first | omega | (dsimp only; omega))) (fr_32 _ (by first | omega | (dsimp only; omega)))
          exact (hp _ _ _ hR_31 hf_33 (Or.inl rfl))
        · have d_35 := iNe c_23
          have g_36 : (0 : Int) ≤ (I0 o 3).toInt ∧ (I0 o 3).toInt ≤ 5 := hR.at0 ra 3 (by decide)
          refine ⟨fun c_37 => ?_, fun c_37 => ?_⟩
          · have d_38 := iLe c_37
            have l_39 : (2 : Int32).toInt = 2 := rfl
            refine y_Tape_refuse hok hw1 ra1 (by omega) hR (fun I_43 L_44 hR_45 fr_46 u_41 u_42 => ⟨I_43, L_44, rfl, rfl, ?_⟩)
            have hf_47 : Fm (fun c => (o ≤ c ∧ c < o + 16) ∨ c = x1) I0 I_43 := hf.call fr_46 (fun c hc => by first | exact hc | (dsimp only at hc ⊢; omega) | omega)
            have t_48 : (I_43 o 3).toInt = (I0 o 3).toInt := by rw [fr_46 o (by first | omega | (dsimp only; omega))]
            have k_49 : TokOK I_43 x1 := hq0.fr (fr_46 _ (by first | omega | (dsimp only; omega))) (fr_46 _ (by first | omega | (dsimp only; omega)))
            exact (hp _ _ _ hR_45 hf_47 (Or.inl rfl))
          · have d_50 := iNle c_37
            refine y_Land_readTown hok hw ra hw1 ra1 (by omega) (by omega) hq0 hR (fun r_51 I_53 L_54 hR_55 fr_56 u_52 => ⟨r_51, I_53, L_54, rfl, rfl, ?_⟩)
            have hf_57 : Fm (fun c => (o ≤ c ∧ c < o + 16) ∨ c = x1) I0 I_53 := hf.call fr_56 (fun c hc => by first | exact hc | (dsimp only at hc ⊢; omega) | omega)
            have k_58 : TokOK I_53 x1 := hq0.fr (fr_56 _ (by first | omega | (dsimp only; omega))) (fr_56 _ (by first | omega | (dsimp only; omega)))
            have b_59 : 0 ≤ r_51.toInt ∧ r_51.toInt ≤ 1 := u_52.rg
            exact ⟨u_52, (hp _ _ _ hR_55 hf_57 (u_52))⟩
      · have d_60 := iNe c_17
        have g_61 : (0 : Int) ≤ (I0 o 2).toInt ∧ (I0 o 2).toInt ≤ 3 := hR.at0 ra 2 (by decide)
        have l_62 : (3 : Int32).toInt = 3 := rfl
        refine ⟨fun c_63 => ?_, fun c_63 => ?_⟩
        · have d_64 := iLe c_63
          unfold fLand_readLine_67
          have l_65 : (8 : Int32).toInt = 8 := rfl
          refine y_Tape_isWord hok hw1 ra1 hR (fun r_66 u_67 => ⟨r_66, I0, L0, rfl, rfl, ?_⟩)
          have b_68 : 0 ≤ r_66.toInt ∧ r_66.toInt ≤ 1 := u_67.rg
          refine ⟨fun c_69 => ?_, fun c_69 => ?_⟩
          · have d_70 := iEq c_69
            have l_71 : (2 : Int32).toInt = 2 := rfl
            refine y_Tape_refuse hok hw1 ra1 (by omega) hR (fun I_75 L_76 hR_77 fr_78 u_73 u_74 => ⟨I_75, L_76, rfl, rfl, ?_⟩)
            have hf_79 : Fm (fun c => (o ≤ c ∧ c < o + 16) ∨ c = x1) I0 I_75 := hf.call fr_78 (fun c hc => by first | exact hc | (dsimp only at hc ⊢; omega) | omega)
            have t_80 : (I_75 o 2).toInt = (I0 o 2).toInt := by rw [fr_78 o (by first | omega | (dsimp only; omega))]
            have k_81 : TokOK I_75 x1 := hq0.fr (fr_78 _ (by first | omega | (dsimp only; omega))) (fr_78 _ (by first | omega | (dsimp only; omega)))
            exact (hp _ _ _ hR_77 hf_79 (Or.inl rfl))
          · have d_82 := iNe c_69
            have g_83 : (0 : Int) ≤ (I0 o 3).toInt ∧ (I0 o 3).toInt ≤ 5 := hR.at0 ra 3 (by decide)
            refine ⟨fun c_84 => ?_, fun c_84 => ?_⟩
            · have d_85 := iLe c_84
              have l_86 : (2 : Int32).toInt = 2 := rfl
              refine y_Tape_refuse hok hw1 ra1 (by omega) hR (fun I_90 L_91 hR_92 fr_93 u_88 u_89 => ⟨I_90, L_91, rfl, rfl, ?_⟩)
              have hf_94 : Fm (fun c => (o ≤ c ∧ c < o + 16) ∨ c = x1) I0 I_90 := hf.call fr_93 (fun c hc => by first | exact hc | (dsimp only at hc ⊢; omega) | omega)
              have t_95 : (I_90 o 2).toInt = (I0 o 2).toInt := by rw [fr_93 o (by first | omega | (dsimp only; omega))]
              have t_96 : (I_90 o 3).toInt = (I0 o 3).toInt := by rw [fr_93 o (by first | omega | (dsimp only; omega))]
              have k_97 : TokOK I_90 x1 := hq0.fr (fr_93 _ (by first | omega | (dsimp only; omega))) (fr_93 _ (by first | omega | (dsimp only; omega)))
              exact (hp _ _ _ hR_92 hf_94 (Or.inl rfl))
            · have d_98 := iNle c_84
              refine y_Land_readTown hok hw ra hw1 ra1 (by omega) (by omega) hq0 hR (fun r_99 I_101 L_102 hR_103 fr_104 u_100 => ⟨r_99, I_101, L_102, rfl, rfl, ?_⟩)
              have hf_105 : Fm (fun c => (o ≤ c ∧ c < o + 16) ∨ c = x1) I0 I_101 := hf.call fr_104 (fun c hc => by first | exact hc | (dsimp only at hc ⊢; omega) | omega)
              have k_106 : TokOK I_101 x1 := hq0.fr (fr_104 _ (by first | omega | (dsimp only; omega))) (fr_104 _ (by first | omega | (dsimp only; omega)))
              have b_107 : 0 ≤ r_99.toInt ∧ r_99.toInt ≤ 1 := u_100.rg
              exact ⟨u_100, (hp _ _ _ hR_103 hf_105 (u_100))⟩
        · have d_108 := iNle c_63
          refine y_Land_readPan hok hw ra hw1 ra1 (by omega) (by omega) hq0 hR (fun r_109 I_111 L_112 hR_113 fr_114 u_110 => ⟨r_109, I_111, L_112, rfl, rfl, ?_⟩)
          have hf_115 : Fm (fun c => (o ≤ c ∧ c < o + 16) ∨ c = x1) I0 I_111 := hf.call fr_114 (fun c hc => by first | exact hc | (dsimp only at hc ⊢; omega) | omega)
          have k_116 : TokOK I_111 x1 := hq0.fr (fr_114 _ (by first | omega | (dsimp only; omega))) (fr_114 _ (by first | omega | (dsimp only; omega)))
          have b_117 : 0 ≤ r_109.toInt ∧ r_109.toInt ≤ 1 := u_110.rg
          exact ⟨u_110, (hp _ _ _ hR_113 hf_115 (u_110))⟩
    · have d_118 := iNe c_11
      have g_119 : (0 : Int) ≤ (I0 o 1).toInt ∧ (I0 o 1).toInt ≤ 3 := hR.at0 ra 1 (by decide)
      have l_120 : (3 : Int32).toInt = 3 := rfl
      refine ⟨fun c_121 => ?_, fun c_121 => ?_⟩
      · have d_122 := iLe c_121
        unfold fLand_readLine_45
        have l_123 : (5 : Int32).toInt = 5 := rfl
        refine y_Tape_isWord hok hw1 ra1 hR (fun r_124 u_125 => ⟨r_124, I0, L0, rfl, rfl, ?_⟩)
        have b_126 : 0 ≤ r_124.toInt ∧ r_124.toInt ≤ 1 := u_125.rg
        refine ⟨fun c_127 => ?_, fun c_127 => ?_⟩
        · have d_128 := iEq c_127
          unfold fLand_readLine_67
          have l_129 : (8 : Int32).toInt = 8 := rfl
          refine y_Tape_isWord hok hw1 ra1 hR (fun r_130 u_131 => ⟨r_130, I0, L0, rfl, rfl, ?_⟩)
          have b_132 : 0 ≤ r_130.toInt ∧ r_130.toInt ≤ 1 := u_131.rg
          refine ⟨fun c_133 => ?_, fun c_133 => ?_⟩
          · have d_134 := iEq c_133
            have l_135 : (2 : Int32).toInt = 2 := rfl
            refine y_Tape_refuse hok hw1 ra1 (by omega) hR (fun I_139 L_140 hR_141 fr_142 u_137 u_138 => ⟨I_139, L_140, rfl, rfl, ?_⟩)
            have hf_143 : Fm (fun c => (o ≤ c ∧ c < o + 16) ∨ c = x1) I0 I_139 := hf.call fr_142 (fun c hc => by first | exact hc | (dsimp only at hc ⊢; omega) | omega)
            have t_144 : (I_139 o 1).toInt = (I0 o 1).toInt := by rw [fr_142 o (by first | omega | (dsimp only; omega))]
            have k_145 : TokOK I_139 x1 := hq0.fr (fr_142 _ (by first | omega | (dsimp only; omega))) (fr_142 _ (by first | omega | (dsimp only; omega)))
            exact (hp _ _ _ hR_141 hf_143 (Or.inl rfl))
          · have d_146 := iNe c_133
            have g_147 : (0 : Int) ≤ (I0 o 3).toInt ∧ (I0 o 3).toInt ≤ 5 := hR.at0 ra 3 (by decide)
            refine ⟨fun c_148 => ?_, fun c_148 => ?_⟩
            · have d_149 := iLe c_148
              have l_150 : (2 : Int32).toInt = 2 := rfl
              refine y_Tape_refuse hok hw1 ra1 (by omega) hR (fun I_154 L_155 hR_156 fr_157 u_152 u_153 => ⟨I_154, L_155, rfl, rfl, ?_⟩)
              have hf_158 : Fm (fun c => (o ≤ c ∧ c < o + 16) ∨ c = x1) I0 I_154 := hf.call fr_157 (fun c hc => by first | exact hc | (dsimp only at hc ⊢; omega) | omega)
              have t_159 : (I_154 o 1).toInt = (I0 o 1).toInt := by rw [fr_157 o (by first | omega | (dsimp only; omega))]
              have t_160 : (I_154 o 3).toInt = (I0 o 3).toInt := by rw [fr_157 o (by first | omega | (dsimp only; omega))]
              have k_161 : TokOK I_154 x1 := hq0.fr (fr_157 _ (by first | omega | (dsimp only; omega))) (fr_157 _ (by first | omega | (dsimp only; omega)))
              exact (hp _ _ _ hR_156 hf_158 (Or.inl rfl))
            · have d_162 := iNle c_148
              refine y_Land_readTown hok hw ra hw1 ra1 (by omega) (by omega) hq0 hR (fun r_163 I_165 L_166 hR_167 fr_168 u_164 => ⟨r_163, I_165, L_166, rfl, rfl, ?_⟩)
              have hf_169 : Fm (fun c => (o ≤ c ∧ c < o + 16) ∨ c = x1) I0 I_165 := hf.call fr_168 (fun c hc => by first | exact hc | (dsimp only at hc ⊢; omega) | omega)
              have k_170 : TokOK I_165 x1 := hq0.fr (fr_168 _ (by first | omega | (dsimp only; omega))) (fr_168 _ (by first | omega | (dsimp only; omega)))
              have b_171 : 0 ≤ r_163.toInt ∧ r_163.toInt ≤ 1 := u_164.rg
              exact ⟨u_164, (hp _ _ _ hR_167 hf_169 (u_164))⟩
        · have d_172 := iNe c_127
          have g_173 : (0 : Int) ≤ (I0 o 2).toInt ∧ (I0 o 2).toInt ≤ 3 := hR.at0 ra 2 (by decide)
          refine ⟨fun c_174 => ?_, fun c_174 => ?_⟩
          · have d_175 := iLe c_174
            unfold fLand_readLine_67
            have l_176 : (8 : Int32).toInt = 8 := rfl
            refine y_Tape_isWord hok hw1 ra1 hR (fun r_177 u_178 => ⟨r_177, I0, L0, rfl, rfl, ?_⟩)
            have b_179 : 0 ≤ r_177.toInt ∧ r_177.toInt ≤ 1 := u_178.rg
            refine ⟨fun c_180 => ?_, fun c_180 => ?_⟩
            · have d_181 := iEq c_180
              have l_182 : (2 : Int32).toInt = 2 := rfl
              refine y_Tape_refuse hok hw1 ra1 (by omega) hR (fun I_186 L_187 hR_188 fr_189 u_184 u_185 => ⟨I_186, L_187, rfl, rfl, ?_⟩)
              have hf_190 : Fm (fun c => (o ≤ c ∧ c < o + 16) ∨ c = x1) I0 I_186 := hf.call fr_189 (fun c hc => by first | exact hc | (dsimp only at hc ⊢; omega) | omega)
              have t_191 : (I_186 o 1).toInt = (I0 o 1).toInt := by rw [fr_189 o (by first | omega | (dsimp only; omega))]
              have t_192 : (I_186 o 2).toInt = (I0 o 2).toInt := by rw [fr_189 o (by first | omega | (dsimp only; omega))]
              have k_193 : TokOK I_186 x1 := hq0.fr (fr_189 _ (by first | omega | (dsimp only; omega))) (fr_189 _ (by first | omega | (dsimp only; omega)))
              exact (hp _ _ _ hR_188 hf_190 (Or.inl rfl))
            · have d_194 := iNe c_180
              have g_195 : (0 : Int) ≤ (I0 o 3).toInt ∧ (I0 o 3).toInt ≤ 5 := hR.at0 ra 3 (by decide)
              refine ⟨fun c_196 => ?_, fun c_196 => ?_⟩
              · have d_197 := iLe c_196
                have l_198 : (2 : Int32).toInt = 2 := rfl
                refine y_Tape_refuse hok hw1 ra1 (by omega) hR (fun I_202 L_203 hR_204 fr_205 u_200 u_201 => ⟨I_202, L_203, rfl, rfl, ?_⟩)
                have hf_206 : Fm (fun c => (o ≤ c ∧ c < o + 16) ∨ c = x1) I0 I_202 := hf.call fr_205 (fun c hc => by first | exact hc | (dsimp only at hc ⊢; omega) | omega)
                have t_207 : (I_202 o 1).toInt = (I0 o 1).toInt := by rw [fr_205 o (by first | omega | (dsimp only; omega))]
                have t_208 : (I_202 o 2).toInt = (I0 o 2).toInt := by rw [fr_205 o (by first | omega | (dsimp only; omega))]
                have t_209 : (I_202 o 3).toInt = (I0 o 3).toInt := by rw [fr_205 o (by first | omega | (dsimp only; omega))]
                have k_210 : TokOK I_202 x1 := hq0.fr (fr_205 _ (by first | omega | (dsimp only; omega))) (fr_205 _ (by first | omega | (dsimp only; omega)))
                exact (hp _ _ _ hR_204 hf_206 (Or.inl rfl))
              · have d_211 := iNle c_196
                refine y_Land_readTown hok hw ra hw1 ra1 (by omega) (by omega) hq0 hR (fun r_212 I_214 L_215 hR_216 fr_217 u_213 => ⟨r_212, I_214, L_215, rfl, rfl, ?_⟩)
                have hf_218 : Fm (fun c => (o ≤ c ∧ c < o + 16) ∨ c = x1) I0 I_214 := hf.call fr_217 (fun c hc => by first | exact hc | (dsimp only at hc ⊢; omega) | omega)
                have k_219 : TokOK I_214 x1 := hq0.fr (fr_217 _ (by first | omega | (dsimp only; omega))) (fr_217 _ (by first | omega | (dsimp only; omega)))
                have b_220 : 0 ≤ r_212.toInt ∧ r_212.toInt ≤ 1 := u_213.rg
                exact ⟨u_213, (hp _ _ _ hR_216 hf_218 (u_213))⟩
          · have d_221 := iNle c_174
            refine y_Land_readPan hok hw ra hw1 ra1 (by omega) (by omega) hq0 hR (fun r_222 I_224 L_225 hR_226 fr_227 u_223 => ⟨r_222, I_224, L_225, rfl, rfl, ?_⟩)
            have hf_228 : Fm (fun c => (o ≤ c ∧ c < o + 16) ∨ c = x1) I0 I_224 := hf.call fr_227 (fun c hc => by first | exact hc | (dsimp only at hc ⊢; omega) | omega)
            have k_229 : TokOK I_224 x1 := hq0.fr (fr_227 _ (by first | omega | (dsimp only; omega))) (fr_227 _ (by first | omega | (dsimp only; omega)))
            have b_230 : 0 ≤ r_222.toInt ∧ r_222.toInt ≤ 1 := u_223.rg
            exact ⟨u_223, (hp _ _ _ hR_226 hf_228 (u_223))⟩
      · have d_231 := iNle c_121
        refine y_Land_readFort hok hw ra hw1 ra1 (by omega) (by omega) hq0 hR (fun r_232 I_234 L_235 hR_236 fr_237 u_233 => ⟨r_232, I_234, L_235, rfl, rfl, ?_⟩)
        have hf_238 : Fm (fun c => (o ≤ c ∧ c < o + 16) ∨ c = x1) I0 I_234 := hf.call fr_237 (fun c hc => by first | exact hc | (dsimp only at hc ⊢; omega) | omega)
        have k_239 : TokOK I_234 x1 := hq0.fr (fr_237 _ (by first | omega | (dsimp only; omega))) (fr_237 _ (by first | omega | (dsimp only; omega)))
        have b_240 : 0 ≤ r_232.toInt ∧ r_232.toInt ≤ 1 := u_233.rg
        exact ⟨u_233, (hp _ _ _ hR_236 hf_238 (u_233))⟩
  · have d_241 := iNe c_5
    have g_242 : (0 : Int) ≤ (I0 o 0).toInt ∧ (I0 o 0).toInt ≤ 24 := hR.at0 ra 0 (by decide)
    have l_243 : (24 : Int32).toInt = 24 := rfl
    refine ⟨fun c_244 => ?_, fun c_244 => ?_⟩
    · have d_245 := iLe c_244
      unfold fLand_readLine_23
      have l_246 : (1 : Int32).toInt = 1 := rfl
      refine y_Tape_isWord hok hw1 ra1 hR (fun r_247 u_248 => ⟨r_247, I0, L0, rfl, rfl, ?_⟩)
      have b_249 : 0 ≤ r_247.toInt ∧ r_247.toInt ≤ 1 := u_248.rg
      refine ⟨fun c_250 => ?_, fun c_250 => ?_⟩
      · have d_251 := iEq c_250
        unfold fLand_readLine_45
        have l_252 : (5 : Int32).toInt = 5 := rfl
        refine y_Tape_isWord hok hw1 ra1 hR (fun r_253 u_254 => ⟨r_253, I0, L0, rfl, rfl, ?_⟩)
        have b_255 : 0 ≤ r_253.toInt ∧ r_253.toInt ≤ 1 := u_254.rg
        refine ⟨fun c_256 => ?_, fun c_256 => ?_⟩
        · have d_257 := iEq c_256
          unfold fLand_readLine_67
          have l_258 : (8 : Int32).toInt = 8 := rfl
          refine y_Tape_isWord hok hw1 ra1 hR (fun r_259 u_260 => ⟨r_259, I0, L0, rfl, rfl, ?_⟩)
          have b_261 : 0 ≤ r_259.toInt ∧ r_259.toInt ≤ 1 := u_260.rg
          refine ⟨fun c_262 => ?_, fun c_262 => ?_⟩
          · have d_263 := iEq c_262
            have l_264 : (2 : Int32).toInt = 2 := rfl
            refine y_Tape_refuse hok hw1 ra1 (by omega) hR (fun I_268 L_269 hR_270 fr_271 u_266 u_267 => ⟨I_268, L_269, rfl, rfl, ?_⟩)
            have hf_272 : Fm (fun c => (o ≤ c ∧ c < o + 16) ∨ c = x1) I0 I_268 := hf.call fr_271 (fun c hc => by first | exact hc | (dsimp only at hc ⊢; omega) | omega)
            have t_273 : (I_268 o 0).toInt = (I0 o 0).toInt := by rw [fr_271 o (by first | omega | (dsimp only; omega))]
            have k_274 : TokOK I_268 x1 := hq0.fr (fr_271 _ (by first | omega | (dsimp only; omega))) (fr_271 _ (by first | omega | (dsimp only; omega)))
            exact (hp _ _ _ hR_270 hf_272 (Or.inl rfl))
          · have d_275 := iNe c_262
            have g_276 : (0 : Int) ≤ (I0 o 3).toInt ∧ (I0 o 3).toInt ≤ 5 := hR.at0 ra 3 (by decide)
            refine ⟨fun c_277 => ?_, fun c_277 => ?_⟩
            · have d_278 := iLe c_277
              have l_279 : (2 : Int32).toInt = 2 := rfl
              refine y_Tape_refuse hok hw1 ra1 (by omega) hR (fun I_283 L_284 hR_285 fr_286 u_281 u_282 => ⟨I_283, L_284, rfl, rfl, ?_⟩)
              have hf_287 : Fm (fun c => (o ≤ c ∧ c < o + 16) ∨ c = x1) I0 I_283 := hf.call fr_286 (fun c hc => by first | exact hc | (dsimp only at hc ⊢; omega) | omega)
              have t_288 : (I_283 o 0).toInt = (I0 o 0).toInt := by rw [fr_286 o (by first | omega | (dsimp only; omega))]
              have t_289 : (I_283 o 3).toInt = (I0 o 3).toInt := by rw [fr_286 o (by first | omega | (dsimp only; omega))]
              have k_290 : TokOK I_283 x1 := hq0.fr (fr_286 _ (by first | omega | (dsimp only; omega))) (fr_286 _ (by first | omega | (dsimp only; omega)))
              exact (hp _ _ _ hR_285 hf_287 (Or.inl rfl))
            · have d_291 := iNle c_277
              refine y_Land_readTown hok hw ra hw1 ra1 (by omega) (by omega) hq0 hR (fun r_292 I_294 L_295 hR_296 fr_297 u_293 => ⟨r_292, I_294, L_295, rfl, rfl, ?_⟩)
              have hf_298 : Fm (fun c => (o ≤ c ∧ c < o + 16) ∨ c = x1) I0 I_294 := hf.call fr_297 (fun c hc => by first | exact hc | (dsimp only at hc ⊢; omega) | omega)
              have k_299 : TokOK I_294 x1 := hq0.fr (fr_297 _ (by first | omega | (dsimp only; omega))) (fr_297 _ (by first | omega | (dsimp only; omega)))
              have b_300 : 0 ≤ r_292.toInt ∧ r_292.toInt ≤ 1 := u_293.rg
              exact ⟨u_293, (hp _ _ _ hR_296 hf_298 (u_293))⟩
        · have d_301 := iNe c_256
          have g_302 : (0 : Int) ≤ (I0 o 2).toInt ∧ (I0 o 2).toInt ≤ 3 := hR.at0 ra 2 (by decide)
          have l_303 : (3 : Int32).toInt = 3 := rfl
          refine ⟨fun c_304 => ?_, fun c_304 => ?_⟩
          · have d_305 := iLe c_304
            unfold fLand_readLine_67
            have l_306 : (8 : Int32).toInt = 8 := rfl
            refine y_Tape_isWord hok hw1 ra1 hR (fun r_307 u_308 => ⟨r_307, I0, L0, rfl, rfl, ?_⟩)
            have b_309 : 0 ≤ r_307.toInt ∧ r_307.toInt ≤ 1 := u_308.rg
            refine ⟨fun c_310 => ?_, fun c_310 => ?_⟩
            · have d_311 := iEq c_310
              have l_312 : (2 : Int32).toInt = 2 := rfl
              refine y_Tape_refuse hok hw1 ra1 (by omega) hR (fun I_316 L_317 hR_318 fr_319 u_314 u_315 => ⟨I_316, L_317, rfl, rfl, ?_⟩)
              have hf_320 : Fm (fun c => (o ≤ c ∧ c < o + 16) ∨ c = x1) I0 I_316 := hf.call fr_319 (fun c hc => by first | exact hc | (dsimp only at hc ⊢; omega) | omega)
              have t_321 : (I_316 o 0).toInt = (I0 o 0).toInt := by rw [fr_319 o (by first | omega | (dsimp only; omega))]
              have t_322 : (I_316 o 2).toInt = (I0 o 2).toInt := by rw [fr_319 o (by first | omega | (dsimp only; omega))]
              have k_323 : TokOK I_316 x1 := hq0.fr (fr_319 _ (by first | omega | (dsimp only; omega))) (fr_319 _ (by first | omega | (dsimp only; omega)))
              exact (hp _ _ _ hR_318 hf_320 (Or.inl rfl))
            · have d_324 := iNe c_310
              have g_325 : (0 : Int) ≤ (I0 o 3).toInt ∧ (I0 o 3).toInt ≤ 5 := hR.at0 ra 3 (by decide)
              refine ⟨fun c_326 => ?_, fun c_326 => ?_⟩
              · have d_327 := iLe c_326
                have l_328 : (2 : Int32).toInt = 2 := rfl
                refine y_Tape_refuse hok hw1 ra1 (by omega) hR (fun I_332 L_333 hR_334 fr_335 u_330 u_331 => ⟨I_332, L_333, rfl, rfl, ?_⟩)
                have hf_336 : Fm (fun c => (o ≤ c ∧ c < o + 16) ∨ c = x1) I0 I_332 := hf.call fr_335 (fun c hc => by first | exact hc | (dsimp only at hc ⊢; omega) | omega)
                have t_337 : (I_332 o 0).toInt = (I0 o 0).toInt := by rw [fr_335 o (by first | omega | (dsimp only; omega))]
                have t_338 : (I_332 o 2).toInt = (I0 o 2).toInt := by rw [fr_335 o (by first | omega | (dsimp only; omega))]
                have t_339 : (I_332 o 3).toInt = (I0 o 3).toInt := by rw [fr_335 o (by first | omega | (dsimp only; omega))]
                have k_340 : TokOK I_332 x1 := hq0.fr (fr_335 _ (by first | omega | (dsimp only; omega))) (fr_335 _ (by first | omega | (dsimp only; omega)))
                exact (hp _ _ _ hR_334 hf_336 (Or.inl rfl))
              · have d_341 := iNle c_326
                refine y_Land_readTown hok hw ra hw1 ra1 (by omega) (by omega) hq0 hR (fun r_342 I_344 L_345 hR_346 fr_347 u_343 => ⟨r_342, I_344, L_345, rfl, rfl, ?_⟩)
                have hf_348 : Fm (fun c => (o ≤ c ∧ c < o + 16) ∨ c = x1) I0 I_344 := hf.call fr_347 (fun c hc => by first | exact hc | (dsimp only at hc ⊢; omega) | omega)
                have k_349 : TokOK I_344 x1 := hq0.fr (fr_347 _ (by first | omega | (dsimp only; omega))) (fr_347 _ (by first | omega | (dsimp only; omega)))
                have b_350 : 0 ≤ r_342.toInt ∧ r_342.toInt ≤ 1 := u_343.rg
                exact ⟨u_343, (hp _ _ _ hR_346 hf_348 (u_343))⟩
          · have d_351 := iNle c_304
            refine y_Land_readPan hok hw ra hw1 ra1 (by omega) (by omega) hq0 hR (fun r_352 I_354 L_355 hR_356 fr_357 u_353 => ⟨r_352, I_354, L_355, rfl, rfl, ?_⟩)
            have hf_358 : Fm (fun c => (o ≤ c ∧ c < o + 16) ∨ c = x1) I0 I_354 := hf.call fr_357 (fun c hc => by first | exact hc | (dsimp only at hc ⊢; omega) | omega)
            have k_359 : TokOK I_354 x1 := hq0.fr (fr_357 _ (by first | omega | (dsimp only; omega))) (fr_357 _ (by first | omega | (dsimp only; omega)))
            have b_360 : 0 ≤ r_352.toInt ∧ r_352.toInt ≤ 1 := u_353.rg
            exact ⟨u_353, (hp _ _ _ hR_356 hf_358 (u_353))⟩
      · have d_361 := iNe c_250
        have g_362 : (0 : Int) ≤ (I0 o 1).toInt ∧ (I0 o 1).toInt ≤ 3 := hR.at0 ra 1 (by decide)
        have l_363 : (3 : Int32).toInt = 3 := rfl
        refine ⟨fun c_364 => ?_, fun c_364 => ?_⟩
        · have d_365 := iLe c_364
          unfold fLand_readLine_45
          have l_366 : (5 : Int32).toInt = 5 := rfl
          refine y_Tape_isWord hok hw1 ra1 hR (fun r_367 u_368 => ⟨r_367, I0, L0, rfl, rfl, ?_⟩)
          have b_369 : 0 ≤ r_367.toInt ∧ r_367.toInt ≤ 1 := u_368.rg
          refine ⟨fun c_370 => ?_, fun c_370 => ?_⟩
          · have d_371 := iEq c_370
            unfold fLand_readLine_67
            have l_372 : (8 : Int32).toInt = 8 := rfl
            refine y_Tape_isWord hok hw1 ra1 hR (fun r_373 u_374 => ⟨r_373, I0, L0, rfl, rfl, ?_⟩)
            have b_375 : 0 ≤ r_373.toInt ∧ r_373.toInt ≤ 1 := u_374.rg
            refine ⟨fun c_376 => ?_, fun c_376 => ?_⟩
            · have d_377 := iEq c_376
              have l_378 : (2 : Int32).toInt = 2 := rfl
              refine y_Tape_refuse hok hw1 ra1 (by omega) hR (fun I_382 L_383 hR_384 fr_385 u_380 u_381 => ⟨I_382, L_383, rfl, rfl, ?_⟩)
              have hf_386 : Fm (fun c => (o ≤ c ∧ c < o + 16) ∨ c = x1) I0 I_382 := hf.call fr_385 (fun c hc => by first | exact hc | (dsimp only at hc ⊢; omega) | omega)
              have t_387 : (I_382 o 0).toInt = (I0 o 0).toInt := by rw [fr_385 o (by first | omega | (dsimp only; omega))]
              have t_388 : (I_382 o 1).toInt = (I0 o 1).toInt := by rw [fr_385 o (by first | omega | (dsimp only; omega))]
              have k_389 : TokOK I_382 x1 := hq0.fr (fr_385 _ (by first | omega | (dsimp only; omega))) (fr_385 _ (by first | omega | (dsimp only; omega)))
              exact (hp _ _ _ hR_384 hf_386 (Or.inl rfl))
            · have d_390 := iNe c_376
              have g_391 : (0 : Int) ≤ (I0 o 3).toInt ∧ (I0 o 3).toInt ≤ 5 := hR.at0 ra 3 (by decide)
              refine ⟨fun c_392 => ?_, fun c_392 => ?_⟩
              · have d_393 := iLe c_392
                have l_394 : (2 : Int32).toInt = 2 := rfl
                refine y_Tape_refuse hok hw1 ra1 (by omega) hR (fun I_398 L_399 hR_400 fr_401 u_396 u_397 => ⟨I_398, L_399, rfl, rfl, ?_⟩)
                have hf_402 : Fm (fun c => (o ≤ c ∧ c < o + 16) ∨ c = x1) I0 I_398 := hf.call fr_401 (fun c hc => by first | exact hc | (dsimp only at hc ⊢; omega) | omega)
                have t_403 : (I_398 o 0).toInt = (I0 o 0).toInt := by rw [fr_401 o (by first | omega | (dsimp only; omega))]
                have t_404 : (I_398 o 1).toInt = (I0 o 1).toInt := by rw [fr_401 o (by first | omega | (dsimp only; omega))]
                have t_405 : (I_398 o 3).toInt = (I0 o 3).toInt := by rw [fr_401 o (by first | omega | (dsimp only; omega))]
                have k_406 : TokOK I_398 x1 := hq0.fr (fr_401 _ (by first | omega | (dsimp only; omega))) (fr_401 _ (by first | omega | (dsimp only; omega)))
                exact (hp _ _ _ hR_400 hf_402 (Or.inl rfl))
              · have d_407 := iNle c_392
                refine y_Land_readTown hok hw ra hw1 ra1 (by omega) (by omega) hq0 hR (fun r_408 I_410 L_411 hR_412 fr_413 u_409 => ⟨r_408, I_410, L_411, rfl, rfl, ?_⟩)
                have hf_414 : Fm (fun c => (o ≤ c ∧ c < o + 16) ∨ c = x1) I0 I_410 := hf.call fr_413 (fun c hc => by first | exact hc | (dsimp only at hc ⊢; omega) | omega)
                have k_415 : TokOK I_410 x1 := hq0.fr (fr_413 _ (by first | omega | (dsimp only; omega))) (fr_413 _ (by first | omega | (dsimp only; omega)))
                have b_416 : 0 ≤ r_408.toInt ∧ r_408.toInt ≤ 1 := u_409.rg
                exact ⟨u_409, (hp _ _ _ hR_412 hf_414 (u_409))⟩
          · have d_417 := iNe c_370
            have g_418 : (0 : Int) ≤ (I0 o 2).toInt ∧ (I0 o 2).toInt ≤ 3 := hR.at0 ra 2 (by decide)
            refine ⟨fun c_419 => ?_, fun c_419 => ?_⟩
            · have d_420 := iLe c_419
              unfold fLand_readLine_67
              have l_421 : (8 : Int32).toInt = 8 := rfl
              refine y_Tape_isWord hok hw1 ra1 hR (fun r_422 u_423 => ⟨r_422, I0, L0, rfl, rfl, ?_⟩)
              have b_424 : 0 ≤ r_422.toInt ∧ r_422.toInt ≤ 1 := u_423.rg
              refine ⟨fun c_425 => ?_, fun c_425 => ?_⟩
              · have d_426 := iEq c_425
                have l_427 : (2 : Int32).toInt = 2 := rfl
                refine y_Tape_refuse hok hw1 ra1 (by omega) hR (fun I_431 L_432 hR_433 fr_434 u_429 u_430 => ⟨I_431, L_432, rfl, rfl, ?_⟩)
                have hf_435 : Fm (fun c => (o ≤ c ∧ c < o + 16) ∨ c = x1) I0 I_431 := hf.call fr_434 (fun c hc => by first | exact hc | (dsimp only at hc ⊢; omega) | omega)
                have t_436 : (I_431 o 0).toInt = (I0 o 0).toInt := by rw [fr_434 o (by first | omega | (dsimp only; omega))]
                have t_437 : (I_431 o 1).toInt = (I0 o 1).toInt := by rw [fr_434 o (by first | omega | (dsimp only; omega))]
                have t_438 : (I_431 o 2).toInt = (I0 o 2).toInt := by rw [fr_434 o (by first | omega | (dsimp only; omega))]
                have k_439 : TokOK I_431 x1 := hq0.fr (fr_434 _ (by first | omega | (dsimp only; omega))) (fr_434 _ (by first | omega | (dsimp only; omega)))
                exact (hp _ _ _ hR_433 hf_435 (Or.inl rfl))
              · have d_440 := iNe c_425
                have g_441 : (0 : Int) ≤ (I0 o 3).toInt ∧ (I0 o 3).toInt ≤ 5 := hR.at0 ra 3 (by decide)
                refine ⟨fun c_442 => ?_, fun c_442 => ?_⟩
                · have d_443 := iLe c_442
                  have l_444 : (2 : Int32).toInt = 2 := rfl
                  refine y_Tape_refuse hok hw1 ra1 (by omega) hR (fun I_448 L_449 hR_450 fr_451 u_446 u_447 => ⟨I_448, L_449, rfl, rfl, ?_⟩)
                  have hf_452 : Fm (fun c => (o ≤ c ∧ c < o + 16) ∨ c = x1) I0 I_448 := hf.call fr_451 (fun c hc => by first | exact hc | (dsimp only at hc ⊢; omega) | omega)
                  have t_453 : (I_448 o 0).toInt = (I0 o 0).toInt := by rw [fr_451 o (by first | omega | (dsimp only; omega))]
                  have t_454 : (I_448 o 1).toInt = (I0 o 1).toInt := by rw [fr_451 o (by first | omega | (dsimp only; omega))]
                  have t_455 : (I_448 o 2).toInt = (I0 o 2).toInt := by rw [fr_451 o (by first | omega | (dsimp only; omega))]
                  have t_456 : (I_448 o 3).toInt = (I0 o 3).toInt := by rw [fr_451 o (by first | omega | (dsimp only; omega))]
                  have k_457 : TokOK I_448 x1 := hq0.fr (fr_451 _ (by first | omega | (dsimp only; omega))) (fr_451 _ (by first | omega | (dsimp only; omega)))
                  exact (hp _ _ _ hR_450 hf_452 (Or.inl rfl))
                · have d_458 := iNle c_442
                  refine y_Land_readTown hok hw ra hw1 ra1 (by omega) (by omega) hq0 hR (fun r_459 I_461 L_462 hR_463 fr_464 u_460 => ⟨r_459, I_461, L_462, rfl, rfl, ?_⟩)
                  have hf_465 : Fm (fun c => (o ≤ c ∧ c < o + 16) ∨ c = x1) I0 I_461 := hf.call fr_464 (fun c hc => by first | exact hc | (dsimp only at hc ⊢; omega) | omega)
                  have k_466 : TokOK I_461 x1 := hq0.fr (fr_464 _ (by first | omega | (dsimp only; omega))) (fr_464 _ (by first | omega | (dsimp only; omega)))
                  have b_467 : 0 ≤ r_459.toInt ∧ r_459.toInt ≤ 1 := u_460.rg
                  exact ⟨u_460, (hp _ _ _ hR_463 hf_465 (u_460))⟩
            · have d_468 := iNle c_419
              refine y_Land_readPan hok hw ra hw1 ra1 (by omega) (by omega) hq0 hR (fun r_469 I_471 L_472 hR_473 fr_474 u_470 => ⟨r_469, I_471, L_472, rfl, rfl, ?_⟩)
              have hf_475 : Fm (fun c => (o ≤ c ∧ c < o + 16) ∨ c = x1) I0 I_471 := hf.call fr_474 (fun c hc => by first | exact hc | (dsimp only at hc ⊢; omega) | omega)
              have k_476 : TokOK I_471 x1 := hq0.fr (fr_474 _ (by first | omega | (dsimp only; omega))) (fr_474 _ (by first | omega | (dsimp only; omega)))
              have b_477 : 0 ≤ r_469.toInt ∧ r_469.toInt ≤ 1 := u_470.rg
              exact ⟨u_470, (hp _ _ _ hR_473 hf_475 (u_470))⟩
        · have d_478 := iNle c_364
          refine y_Land_readFort hok hw ra hw1 ra1 (by omega) (by omega) hq0 hR (fun r_479 I_481 L_482 hR_483 fr_484 u_480 => ⟨r_479, I_481, L_482, rfl, rfl, ?_⟩)
          have hf_485 : Fm (fun c => (o ≤ c ∧ c < o + 16) ∨ c = x1) I0 I_481 := hf.call fr_484 (fun c hc => by first | exact hc | (dsimp only at hc ⊢; omega) | omega)
          have k_486 : TokOK I_481 x1 := hq0.fr (fr_484 _ (by first | omega | (dsimp only; omega))) (fr_484 _ (by first | omega | (dsimp only; omega)))
          have b_487 : 0 ≤ r_479.toInt ∧ r_479.toInt ≤ 1 := u_480.rg
          exact ⟨u_480, (hp _ _ _ hR_483 hf_485 (u_480))⟩
    · have d_488 := iNle c_244
      refine y_Land_readRoad hok hw ra hw1 ra1 (by omega) (by omega) hq0 hR (fun r_489 I_491 L_492 hR_493 fr_494 u_490 => ⟨r_489, I_491, L_492, rfl, rfl, ?_⟩)
      have hf_495 : Fm (fun c => (o ≤ c ∧ c < o + 16) ∨ c = x1) I0 I_491 := hf.call fr_494 (fun c hc => by first | exact hc | (dsimp only at hc ⊢; omega) | omega)
      have k_496 : TokOK I_491 x1 := hq0.fr (fr_494 _ (by first | omega | (dsimp only; omega))) (fr_494 _ (by first | omega | (dsimp only; omega)))
      have b_497 : 0 ≤ r_489.toInt ∧ r_489.toInt ≤ 1 := u_490.rg
      exact ⟨u_490, (hp _ _ _ hR_493 hf_495 (u_490))⟩
