/-! TOKENS, the rest. By program (mspec.py). -/
def wModel_fails : Nat → Bool := fun j => Nat.beq j 14 || Nat.beq j 15 || false
set_option maxHeartbeats 4000000 in
set_option maxRecDepth 20000 in
theorem yc_Model_fails {D : va_G} {cA : FieldType → ClassId} {b : Nat} {E : State → Prop} {R : qRg} {o n : Nat} {sh : Nat → qC} {Rf : Nat → Nat → Option Nat} {I0 : Nat → Nat → Int32} {L0 : Nat → Nat → Int64} {post : Option Value → qS → Prop} {p1 : Int32} {p2 : Int32} (hok : q_ok (qGG D cA b E)) (hw : WfModel (qGG D cA b E) n sh Rf o) (ra : RAModel R o) (hz14 : R.2 14 = true) (hz15 : R.2 15 = true) (hZ : Fz R I0 o wModel_fails) (hR0 : RI R I0) (hq0 : (1 : Int) ≤ p1.toInt ∧ p1.toInt ≤ 5) (hR : RI R I0) (hp : ∀ (I' : Nat → Nat → Int32) (L' : Nat → Nat → Int64), RI R I' → Fm (fun c => c = o) I0 I' → (1 ≤ (I' o 4).toInt) → ((I0 o 4).toInt ≤ (I' o 4).toInt) → post none (n, sh, Rf, I', L')) : Ev (qGG D cA b E) mModel_fails 0 (0, 0) 0 (lv_args 0 [.ref o, .int p1, .int p2]) [] (n, sh, Rf, I0, L0) post := by
  have hf : Fm (fun c => c = o) I0 I0 := Fm.rf
  have g_1 : (0 : Int) ≤ (I0 o 4).toInt ∧ (I0 o 4).toInt ≤ 5 := hR.at0 ra 4 (by decide)
  refine sModel_fails_0 o n sh Rf I0 L0 post p1 p2 hok hw ?_
  unfold fModel_fails_0
  have g_2 : (0 : Int) ≤ (I0 o 4).toInt ∧ (I0 o 4).toInt ≤ 5 := hR.at0 ra 4 (by decide)
  have l_3 : (0 : Int32).toInt = 0 := rfl
  refine ⟨fun c_4 => ?_, fun c_4 => ?_⟩
  · have d_5 := iLe c_4
    refine fun I_6 e_7 => ?_
    have hR_8 : RI R I_6 := hR.up0 (k := 4) ra (by decide) (Or.inr hz14) e_7 (show (0 : Int) ≤ p1.toInt by omega) (show p1.toInt ≤ (5 : Int) by omega)
    have hf_9 : Fm (fun c => c = o) I0 I_6 := hf.set (by first | rfl | omega | (dsimp only; omega)) e_7
    have t_10 : (I_6 o 4).toInt = p1.toInt := by rw [← e_7, q_u_at]
    refine fun I_11 e_12 => ?_
    have hR_13 : RI R I_11 := hR_8.up0 (k := 5) ra (by decide) (Or.inr hz15) e_12 (i_lo _) (i_hi _)
    have hf_14 : Fm (fun c => c = o) I0 I_11 := hf_9.set (by first | rfl | omega | (dsimp only; omega)) e_12
    have t_15 : (I_11 o 4).toInt = (I_6 o 4).toInt := by rw [← e_12, q_u_k (by decide)]
    exact (hp _ _ hR_13 hf_14 (by first | omega | (intro h; omega) | exact Or.inl rfl | exact Or.inr rfl) (by first | omega | (intro h; omega) | exact Or.inl rfl | exact Or.inr rfl))
  · have d_16 := iNle c_4
    exact (hp _ _ hR hf (by first | omega | (intro h; omega) | exact Or.inl rfl | exact Or.inr rfl) (by first | omega | (intro h; omega) | exact Or.inl rfl | exact Or.inr rfl))
theorem y_Model_fails {D : va_G} {cA : FieldType → ClassId} {b : Nat} {E : State → Prop} {R : qRg} {o n : Nat} {sh : Nat → qC} {Rf : Nat → Nat → Option Nat} {I0 : Nat → Nat → Int32} {L0 : Nat → Nat → Int64} {post : Option Value → qS → Prop} {p1 : Int32} {p2 : Int32} (hok : q_ok (qGG D cA b E)) (hw : WfModel (qGG D cA b E) n sh Rf o) (ra : RAModel R o) (hz14 : R.2 14 = true) (hz15 : R.2 15 = true) (hq0 : (1 : Int) ≤ p1.toInt ∧ p1.toInt ≤ 5) (hR : RI R I0) (hp : ∀ (I' : Nat → Nat → Int32) (L' : Nat → Nat → Int64), RI R I' → Fm (fun c => c = o) I0 I' → Kp wModel_fails I0 I' o → (1 ≤ (I' o 4).toInt) → ((I0 o 4).toInt ≤ (I' o 4).toInt) → post none (n, sh, Rf, I', L')) : Ev (qGG D cA b E) mModel_fails 0 (0, 0) 0 (lv_args 0 [.ref o, .int p1, .int p2]) [] (n, sh, Rf, I0, L0) post :=
  yc_Model_fails (R := fzR R I0 o wModel_fails) hok hw (fzA ra hR _) (fzT hz14 rfl) (fzT hz15 rfl) fzZ (fzI hR) hq0 (fzI hR) (fun I' L' h1 h2 u0 u1 => hp I' L' (fzB hR h1) h2 (fzP h1) u0 u1)
set_option maxHeartbeats 4000000 in
set_option maxRecDepth 20000 in
theorem y_Model_is {D : va_G} {cA : FieldType → ClassId} {b : Nat} {E : State → Prop} {R : qRg} {o n : Nat} {sh : Nat → qC} {Rf : Nat → Nat → Option Nat} {I0 : Nat → Nat → Int32} {L0 : Nat → Nat → Int64} {post : Option Value → qS → Prop} {p1 : Int32} (hok : q_ok (qGG D cA b E)) (hw : WfModel (qGG D cA b E) n sh Rf o) (ra : RAModel R o) (hR : RI R I0) (hp : ∀ (r : Int32) , (Bz r) → (Im (r.toInt ≠ 0) ((I0 o 8).toInt = 6)) → (Im (r.toInt ≠ 0) (sgF (I0 (o + 2)) (I0 o 3) (I0 o 6) = p1)) → post (some (.int r)) (n, sh, Rf, I0, L0)) : Ev (qGG D cA b E) mModel_is 1 (0, 0) 0 (lv_args 0 [.ref o, .int p1]) [] (n, sh, Rf, I0, L0) post := by
  refine sModel_is_0 o n sh Rf I0 L0 post p1 hok hw ?_
  unfold fModel_is_0
  have g_1 : (0 : Int) ≤ (I0 o 8).toInt ∧ (I0 o 8).toInt ≤ 6 := hR.at0 ra 8 (by decide)
  have l_2 : (6 : Int32).toInt = 6 := rfl
  refine ⟨fun c_3 => ?_, fun c_3 => ?_⟩
  · have d_4 := iNe c_3
    have l_5 : (0 : Int32).toInt = 0 := rfl
    exact (hp _ (Or.inl rfl) (by intro _; omega) (by first | (intro h; exfalso; omega) | (intro _; subst_vars; first | rfl | assumption | (apply Eq.symm; assumption))))
  · have d_6 := iEq c_3
    have g_7 : (0 : Int) ≤ (I0 o 6).toInt ∧ (I0 o 6).toInt ≤ 1600 := hR.at0 ra 6 (by decide)
    refine y_Model_sign hok hw ra (by first | omega | (intro h; omega) | exact Or.inl rfl | exact Or.inr rfl) hR (fun r_8 u_9 u_10 => ⟨r_8, I0, L0, rfl, rfl, ?_⟩)
    refine ⟨fun c_11 => ?_, fun c_11 => ?_⟩
    · have d_12 := iNe c_11
      have l_13 : (0 : Int32).toInt = 0 := rfl
      exact (hp _ (Or.inl rfl) (by intro _; omega) (by first | (intro h; exfalso; omega) | (intro _; subst_vars; first | rfl | assumption | (apply Eq.symm; assumption))))
    · have d_14 := iEq c_11
      have l_15 : (1 : Int32).toInt = 1 := rfl
      exact (hp _ (Or.inr rfl) (by intro _; omega) (by first | (intro h; exfalso; omega) | (intro _; subst_vars; first | rfl | assumption | (apply Eq.symm; assumption))))
set_option maxHeartbeats 4000000 in
set_option maxRecDepth 20000 in
theorem y_Model_isWord {D : va_G} {cA : FieldType → ClassId} {b : Nat} {E : State → Prop} {R : qRg} {o n : Nat} {sh : Nat → qC} {Rf : Nat → Nat → Option Nat} {I0 : Nat → Nat → Int32} {L0 : Nat → Nat → Int64} {post : Option Value → qS → Prop} {p1 : Int64} (hok : q_ok (qGG D cA b E)) (hw : WfModel (qGG D cA b E) n sh Rf o) (ra : RAModel R o) (hR : RI R I0) (hp : ∀ (r : Int32) , (Bz r) → (Im (r.toInt ≠ 0) ((I0 o 8).toInt = 3)) → post (some (.int r)) (n, sh, Rf, I0, L0)) : Ev (qGG D cA b E) mModel_isWord 0 (0, 0) 0 (lv_args 0 [.ref o, .long p1]) [] (n, sh, Rf, I0, L0) post := by
  refine sModel_isWord_0 o n sh Rf I0 L0 post p1 hok hw ?_
  unfold fModel_isWord_0
  have g_1 : (0 : Int) ≤ (I0 o 8).toInt ∧ (I0 o 8).toInt ≤ 6 := hR.at0 ra 8 (by decide)
  have l_2 : (3 : Int32).toInt = 3 := rfl
  refine ⟨fun c_3 => ?_, fun c_3 => ?_⟩
  · have d_4 := iNe c_3
    have l_5 : (0 : Int32).toInt = 0 := rfl
    exact (hp _ (Or.inl rfl) (by intro _; omega))
  · have d_6 := iEq c_3
    have l_7 : (0 : Int32).toInt = 0 := rfl
    refine ⟨fun c_8 => ?_, fun c_8 => ?_⟩
    · have d_9 := iNe c_8
      exact (hp _ (Or.inl rfl) (by intro _; omega))
    · have d_10 := iEq c_8
      have l_11 : (1 : Int32).toInt = 1 := rfl
      exact (hp _ (Or.inr rfl) (by intro _; omega))
def wModel_takeTape : Nat → Bool := fun j => Nat.beq j 12 || Nat.beq j 13 || Nat.beq j 14 || Nat.beq j 15 || Nat.beq j 17 || Nat.beq j 21 || false
set_option maxHeartbeats 4000000 in
set_option maxRecDepth 20000 in
theorem yModel_takeTape_25 {D : va_G} {cA : FieldType → ClassId} {b : Nat} {E : State → Prop} {R : qRg} {o n : Nat} {sh : Nat → qC} {Rf : Nat → Nat → Option Nat} {I0 : Nat → Nat → Int32} {L0 : Nat → Nat → Int64} {post : Option Value → qS → Prop} {p1 : Int32} (hok : q_ok (qGG D cA b E)) (hw : WfModel (qGG D cA b E) n sh Rf o) (ra : RAModel R o) (hz12 : R.2 12 = true) (hz13 : R.2 13 = true) (hz14 : R.2 14 = true) (hz15 : R.2 15 = true) (hz17 : R.2 17 = true) (hz21 : R.2 21 = true) (hZ : Fz R I0 o wModel_takeTape) (hR0 : RI R I0) (hq0 : p1 = 0 ∨ p1 = 1) (hp : ∀ (I' : Nat → Nat → Int32) (L' : Nat → Nat → Int64), RI R I' → Fm (fun c => c = o ∨ c = o + 2) I0 I' → ((I' o 7).toInt = 0) → ((I' o 4).toInt = 0) → ((I' o 3).toInt = (I0 o 2).toInt) → ((I' o 2).toInt = 0) → post none (n, sh, Rf, I', L')) : ∀ (k : Nat) {x1 : Int32} {x2 : Int32} {I : Nat → Nat → Int32} {L : Nat → Nat → Int64}, RI R I → Fm (fun c => c = o ∨ c = o + 2) I0 I → ((0 : Int) ≤ x2.toInt ∧ x2.toInt ≤ 1600) → ((I o 4).toInt = 0) → ((I o 3).toInt = (I0 o 2).toInt) → ((I o 2).toInt = (I0 o 2).toInt) → (1600 - x2.toInt).toNat < k → Ev (qGG D cA b E) mModel_takeTape 0 (0, 0) 25 [(0, .ref o), (1, .int x1), (2, .int x2)] [] (n, sh, Rf, I, L) post := by
  intro k
  induction k with
  | zero =>
    intro x1 x2 I L hR hf hi0 hi1 hi2 hi3 hm
    exact absurd hm (Nat.not_lt_zero _)
  | succ k ih =>
    intro x1 x2 I L hR hf hi0 hi1 hi2 hi3 hm
    have g_1 : (0 : Int) ≤ (I o 2).toInt ∧ (I o 2).toInt ≤ 1600 := hR.at0 ra 2 (by decide)
    have g_2 : (0 : Int) ≤ (I0 o 2).toInt ∧ (I0 o 2).toInt ≤ 1600 := hR0.at0 ra 2 (by decide)
    have g_3 : (0 : Int) ≤ (I o 3).toInt ∧ (I o 3).toInt ≤ 1600 := hR.at0 ra 3 (by decide)
    have g_4 : (0 : Int) ≤ (I0 o 3).toInt ∧ (I0 o 3).toInt ≤ 1600 := hR0.at0 ra 3 (by decide)
    have g_5 : (0 : Int) ≤ (I o 4).toInt ∧ (I o 4).toInt ≤ 5 := hR.at0 ra 4 (by decide)
    have g_6 : (0 : Int) ≤ (I0 o 4).toInt ∧ (I0 o 4).toInt ≤ 5 := hR0.at0 ra 4 (by decide)
    have g_7 : (0 : Int) ≤ (I o 7).toInt ∧ (I o 7).toInt ≤ 1601 := hR.at0 ra 7 (by decide)
    have g_8 : (0 : Int) ≤ (I0 o 7).toInt ∧ (I0 o 7).toInt ≤ 1601 := hR0.at0 ra 7 (by decide)
    refine sModel_takeTape_25 o n sh Rf I L post x1 x2 hok hw ?_
    unfold fModel_takeTape_25
    have g_9 : (0 : Int) ≤ (I o 3).toInt ∧ (I o 3).toInt ≤ 1600 := hR.at0 ra 3 (by decide)
    refine ⟨fun c_10 => ?_, fun c_10 => ?_⟩
    · have d_11 := iLe c_10
      have l_12 : (0 : Int32).toInt = 0 := rfl
      refine fun I_13 e_14 => ?_
      have hR_15 : RI R I_13 := hR.up0 (k := 2) ra (by decide) (Or.inr hz12) e_14 (show (0 : Int) ≤ (0 : Int32).toInt by omega) (show (0 : Int32).toInt ≤ (1600 : Int) by omega)
      have hf_16 : Fm (fun c => c = o ∨ c = o + 2) I0 I_13 := hf.set (by first | rfl | omega | (dsimp only; omega)) e_14
      have t_17 : (I_13 o 2).toInt = (0 : Int32).toInt := by rw [← e_14, q_u_at]
      have t_18 : (I_13 o 3).toInt = (I o 3).toInt := by rw [← e_14, q_u_k (by decide)]
      have t_19 : (I_13 o 4).toInt = (I o 4).toInt := by rw [← e_14, q_u_k (by decide)]
      have t_20 : (I_13 o 7).toInt = (I o 7).toInt := by rw [← e_14, q_u_k (by decide)]
      refine fun I_21 e_22 => ?_
      have hR_23 : RI R I_21 := hR_15.up0 (k := 7) ra (by decide) (Or.inr hz17) e_22 (show (0 : Int) ≤ (0 : Int32).toInt by omega) (show (0 : Int32).toInt ≤ (1601 : Int) by omega)
      have hf_24 : Fm (fun c => c = o ∨ c = o + 2) I0 I_21 := hf_16.set (by first | rfl | omega | (dsimp only; omega)) e_22
      have t_25 : (I_21 o 2).toInt = (I_13 o 2).toInt := by rw [← e_22, q_u_k (by decide)]
      have t_26 : (I_21 o 3).toInt = (I_13 o 3).toInt := by rw [← e_22, q_u_k (by decide)]
      have t_27 : (I_21 o 4).toInt = (I_13 o 4).toInt := by rw [← e_22, q_u_k (by decide)]
      have t_28 : (I_21 o 7).toInt = (0 : Int32).toInt := by rw [← e_22, q_u_at]
      exact (hp _ _ hR_23 hf_24 (by first | omega | (intro h; omega) | exact Or.inl rfl | exact Or.inr rfl) (by first | omega | (intro h; omega) | exact Or.inl rfl | exact Or.inr rfl) (by first | omega | (intro h; omega) | exact Or.inl rfl | exact Or.inr rfl) (by first | omega | (intro h; omega) | exact Or.inl rfl | exact Or.inr rfl))
    · have d_29 := iNle c_10
      refine ⟨tIn (by omega) (by omega), ?_⟩
      refine ⟨tIn (by omega) (by omega), fun I_30 e_31 => ?_⟩
      have hR_32 : RI R I_30 := hR.up ra 2 (by decide) (Or.inl rfl) e_31 (i_lo _) (i_hi _)
      have hf_33 : Fm (fun c => c = o ∨ c = o + 2) I0 I_30 := hf.set (by first | rfl | omega | (dsimp only; omega)) e_31
      have t_34 : (I_30 o 2).toInt = (I o 2).toInt := by rw [← e_31, q_u_ne (by omega)]
      have t_35 : (I_30 o 3).toInt = (I o 3).toInt := by rw [← e_31, q_u_ne (by omega)]
      have t_36 : (I_30 o 4).toInt = (I o 4).toInt := by rw [← e_31, q_u_ne (by omega)]
      have t_37 : (I_30 o 7).toInt = (I o 7).toInt := by rw [← e_31, q_u_ne (by omega)]
      have a_39 : (x2 + Int32.ofInt 1).toInt = x2.toInt + (1) := tIc (by omega) (by omega) (by decide) (by decide)
      generalize ez_38 : (x2 + Int32.ofInt 1) = z_38 at a_39 ⊢
      exact ih hR_32 hf_33 (by first | omega | (intro h; omega) | exact Or.inl rfl | exact Or.inr rfl) (by first | omega | (intro h; omega) | exact Or.inl rfl | exact Or.inr rfl) (by first | omega | (intro h; omega) | exact Or.inl rfl | exact Or.inr rfl) (by first | omega | (intro h; omega) | exact Or.inl rfl | exact Or.inr rfl) (by omega)
set_option maxHeartbeats 4000000 in
set_option maxRecDepth 20000 in
theorem yc_Model_takeTape {D : va_G} {cA : FieldType → ClassId} {b : Nat} {E : State → Prop} {R : qRg} {o n : Nat} {sh : Nat → qC} {Rf : Nat → Nat → Option Nat} {I0 : Nat → Nat → Int32} {L0 : Nat → Nat → Int64} {post : Option Value → qS → Prop} {p1 : Int32} (hok : q_ok (qGG D cA b E)) (hw : WfModel (qGG D cA b E) n sh Rf o) (ra : RAModel R o) (hz12 : R.2 12 = true) (hz13 : R.2 13 = true) (hz14 : R.2 14 = true) (hz15 : R.2 15 = true) (hz17 : R.2 17 = true) (hz21 : R.2 21 = true) (hZ : Fz R I0 o wModel_takeTape) (hR0 : RI R I0) (hq0 : p1 = 0 ∨ p1 = 1) (hR : RI R I0) (hp : ∀ (I' : Nat → Nat → Int32) (L' : Nat → Nat → Int64), RI R I' → Fm (fun c => c = o ∨ c = o + 2) I0 I' → ((I' o 7).toInt = 0) → ((I' o 4).toInt = 0) → ((I' o 3).toInt = (I0 o 2).toInt) → ((I' o 2).toInt = 0) → post none (n, sh, Rf, I', L')) : Ev (qGG D cA b E) mModel_takeTape 0 (0, 0) 0 (lv_args 0 [.ref o, .int p1]) [] (n, sh, Rf, I0, L0) post := by
  have hf : Fm (fun c => c = o ∨ c = o + 2) I0 I0 := Fm.rf
  have g_40 : (0 : Int) ≤ (I0 o 2).toInt ∧ (I0 o 2).toInt ≤ 1600 := hR.at0 ra 2 (by decide)
  have g_41 : (0 : Int) ≤ (I0 o 3).toInt ∧ (I0 o 3).toInt ≤ 1600 := hR.at0 ra 3 (by decide)
  have g_42 : (0 : Int) ≤ (I0 o 4).toInt ∧ (I0 o 4).toInt ≤ 5 := hR.at0 ra 4 (by decide)
  have g_43 : (0 : Int) ≤ (I0 o 7).toInt ∧ (I0 o 7).toInt ≤ 1601 := hR.at0 ra 7 (by decide)
  refine sModel_takeTape_0 o n sh Rf I0 L0 post p1 hok hw ?_
  unfold fModel_takeTape_0
  refine ⟨hq0, fun I_44 e_45 => ?_⟩
  have hR_46 : RI R I_44 := hR.up0 (k := 11) ra (by decide) (Or.inr hz21) e_45 (i_lo _) (i_hi _)
  have hf_47 : Fm (fun c => c = o ∨ c = o + 2) I0 I_44 := hf.set (by first | rfl | omega | (dsimp only; omega)) e_45
  have t_48 : (I_44 o 2).toInt = (I0 o 2).toInt := by rw [← e_45, q_u_k (by decide)]
  have t_49 : (I_44 o 3).toInt = (I0 o 3).toInt := by rw [← e_45, q_u_k (by decide)]
  have t_50 : (I_44 o 4).toInt = (I0 o 4).toInt := by rw [← e_45, q_u_k (by decide)]
  have t_51 : (I_44 o 7).toInt = (I0 o 7).toInt := by rw [← e_45, q_u_k (by decide)]
  have l_52 : (0 : Int32).toInt = 0 := rfl
  refine fun I_53 e_54 => ?_
  have hR_55 : RI R I_53 := hR_46.up0 (k := 4) ra (by decide) (Or.inr hz14) e_54 (show (0 : Int) ≤ (0 : Int32).toInt by omega) (show (0 : Int32).toInt ≤ (5 : Int) by omega)
  have hf_56 : Fm (fun c => c = o ∨ c = o + 2) I0 I_53 := hf_47.set (by first | rfl | omega | (dsimp only; omega)) e_54
  have t_57 : (I_53 o 2).toInt = (I_44 o 2).toInt := by rw [← e_54, q_u_k (by decide)]
  have t_58 : (I_53 o 3).toInt = (I_44 o 3).toInt := by rw [← e_54, q_u_k (by decide)]
  have t_59 : (I_53 o 4).toInt = (0 : Int32).toInt := by rw [← e_54, q_u_at]
  have t_60 : (I_53 o 7).toInt = (I_44 o 7).toInt := by rw [← e_54, q_u_k (by decide)]
  have l_61 : (-1 : Int32).toInt = -1 := rfl
  refine fun I_62 e_63 => ?_
  have hR_64 : RI R I_62 := hR_55.up0 (k := 5) ra (by decide) (Or.inr hz15) e_63 (i_lo _) (i_hi _)
  have hf_65 : Fm (fun c => c = o ∨ c = o + 2) I0 I_62 := hf_56.set (by first | rfl | omega | (dsimp only; omega)) e_63
  have t_66 : (I_62 o 2).toInt = (I_53 o 2).toInt := by rw [← e_63, q_u_k (by decide)]
  have t_67 : (I_62 o 3).toInt = (I_53 o 3).toInt := by rw [← e_63, q_u_k (by decide)]
  have t_68 : (I_62 o 4).toInt = (I_53 o 4).toInt := by rw [← e_63, q_u_k (by decide)]
  have t_69 : (I_62 o 7).toInt = (I_53 o 7).toInt := by rw [← e_63, q_u_k (by decide)]
  have g_70 : (0 : Int) ≤ (I_62 o 2).toInt ∧ (I_62 o 2).toInt ≤ 1600 := hR_64.at0 ra 2 (by decide)
  refine fun I_71 e_72 => ?_
  have hR_73 : RI R I_71 := hR_64.up0 (k := 3) ra (by decide) (Or.inr hz13) e_72 (show (0 : Int) ≤ (I_62 o 2).toInt by omega) (show (I_62 o 2).toInt ≤ (1600 : Int) by omega)
  have hf_74 : Fm (fun c => c = o ∨ c = o + 2) I0 I_71 := hf_65.set (by first | rfl | omega | (dsimp only; omega)) e_72
  have t_75 : (I_71 o 2).toInt = (I_62 o 2).toInt := by rw [← e_72, q_u_k (by decide)]
  have t_76 : (I_71 o 3).toInt = (I_62 o 2).toInt := by rw [← e_72, q_u_at]
  have t_77 : (I_71 o 4).toInt = (I_62 o 4).toInt := by rw [← e_72, q_u_k (by decide)]
  have t_78 : (I_71 o 7).toInt = (I_62 o 7).toInt := by rw [← e_72, q_u_k (by decide)]
  exact yModel_takeTape_25 (I0 := I0) (L0 := L0) (p1 := p1) hok hw ra hz12 hz13 hz14 hz15 hz17 hz21 hZ hR0 hq0 hp  _ hR_73 hf_74 (by first | omega | (intro h; omega) | exact Or.inl rfl | exact Or.inr rfl) (by first | omega | (intro h; omega) | exact Or.inl rfl | exact Or.inr rfl) (by first | omega | (intro h; omega) | exact Or.inl rfl | exact Or.inr rfl) (by first | omega | (intro h; omega) | exact Or.inl rfl | exact Or.inr rfl) (Nat.lt_succ_self _)
theorem y_Model_takeTape {D : va_G} {cA : FieldType → ClassId} {b : Nat} {E : State → Prop} {R : qRg} {o n : Nat} {sh : Nat → qC} {Rf : Nat → Nat → Option Nat} {I0 : Nat → Nat → Int32} {L0 : Nat → Nat → Int64} {post : Option Value → qS → Prop} {p1 : Int32} (hok : q_ok (qGG D cA b E)) (hw : WfModel (qGG D cA b E) n sh Rf o) (ra : RAModel R o) (hz12 : R.2 12 = true) (hz13 : R.2 13 = true) (hz14 : R.2 14 = true) (hz15 : R.2 15 = true) (hz17 : R.2 17 = true) (hz21 : R.2 21 = true) (hq0 : p1 = 0 ∨ p1 = 1) (hR : RI R I0) (hp : ∀ (I' : Nat → Nat → Int32) (L' : Nat → Nat → Int64), RI R I' → Fm (fun c => c = o ∨ c = o + 2) I0 I' → Kp wModel_takeTape I0 I' o → ((I' o 7).toInt = 0) → ((I' o 4).toInt = 0) → ((I' o 3).toInt = (I0 o 2).toInt) → ((I' o 2).toInt = 0) → post none (n, sh, Rf, I', L')) : Ev (qGG D cA b E) mModel_takeTape 0 (0, 0) 0 (lv_args 0 [.ref o, .int p1]) [] (n, sh, Rf, I0, L0) post :=
  yc_Model_takeTape (R := fzR R I0 o wModel_takeTape) hok hw (fzA ra hR _) (fzT hz12 rfl) (fzT hz13 rfl) (fzT hz14 rfl) (fzT hz15 rfl) (fzT hz17 rfl) (fzT hz21 rfl) fzZ (fzI hR) hq0 (fzI hR) (fun I' L' h1 h2 u0 u1 u2 u3 => hp I' L' (fzB hR h1) h2 (fzP h1) u0 u1 u2 u3)
