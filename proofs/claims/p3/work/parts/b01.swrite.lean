/-! The calls that write it. By program (lawr.py). -/
def feF (t : Int) : Int := if 1580 < t then -1 else t + 20
def feT (t : Int) : Int := if 1580 < t then t else t + 20
def enF (t b : Int) : Int := if b < 0 ∨ t < b then -1 else b
def enT (t b : Int) : Int := if b < 0 ∨ t < b then t else b
def reT (t b : Int) : Int := if t ≤ 700 ∧ 0 ≤ b ∧ b ≤ 3 then 0 else t
set_option maxHeartbeats 4000000 in
set_option maxRecDepth 20000 in
theorem yModel_feed_182 {D : va_G} {cA : FieldType → ClassId} {b : Nat} {E : State → Prop} {R : qRg} {o n : Nat} {sh : Nat → qC} {Rf : Nat → Nat → Option Nat} {I0 : Nat → Nat → Int32} {L0 : Nat → Nat → Int64} {post : Option Value → qS → Prop} {p1 : Int32} {p2 : Int32} {p3 : Int32} {p4 : Int32} {p5 : Int32} (hok : q_ok (qGG D cA b E)) (hw : WfModel (qGG D cA b E) n sh Rf o) (ra : RAModel R o) (hz12 : R.2 12 = true) (hZ : Fz R I0 o wModel_feed) (hR0 : RI R I0) (hp : ∀ (r : Int32) (I' : Nat → Nat → Int32) (L' : Nat → Nat → Int64), RI R I' → Fm (fun c => c = o ∨ c = o + 1) I0 I' → (r.toInt = feF (I0 o 2).toInt) → ((I' o 2).toInt = feT (I0 o 2).toInt) → post (some (.int r)) (n, sh, Rf, I', L')) : ∀ (k : Nat) {x1 : Int32} {x2 : Int32} {x3 : Int32} {x4 : Int32} {x5 : Int32} {x6 : Int32} {I : Nat → Nat → Int32} {L : Nat → Nat → Int64}, RI R I → Fm (fun c => c = o ∨ c = o + 1) I0 I → ((0 : Int) ≤ x6.toInt ∧ x6.toInt ≤ 20) → ((I o 2).toInt ≤ 1580) → ((I o 2).toInt = (I0 o 2).toInt) → (20 - x6.toInt).toNat < k → Ev (qGG D cA b E) mModel_feed 0 (0, 0) 18 [(0, .ref o), (1, .int x1), (2, .int x2), (3, .int x3), (4, .int x4), (5, .int x5), (6, .int x6)] [] (n, sh, Rf, I, L) post := by
  intro k
  induction k with
  | zero =>
    intro x1 x2 x3 x4 x5 x6 I L hR hf hi0 hi1 hi2 hm
    exact absurd hm (Nat.not_lt_zero _)
  | succ k ih =>
    intro x1 x2 x3 x4 x5 x6 I L hR hf hi0 hi1 hi2 hm
    have g_1 : (0 : Int) ≤ (I o 2).toInt ∧ (I o 2).toInt ≤ 1600 := hR.at0 ra 2 (by decide)
    have g_2 : (0 : Int) ≤ (I0 o 2).toInt ∧ (I0 o 2).toInt ≤ 1600 := hR0.at0 ra 2 (by decide)
    have g_3 : (0 : Int) ≤ (I o 2).toInt ∧ (I o 2).toInt ≤ 1600 := hR.at0 ra 2 (by decide)
    have g_4 : (0 : Int) ≤ (I0 o 2).toInt ∧ (I0 o 2).toInt ≤ 1600 := hR0.at0 ra 2 (by decide)
    refine sModel_feed_18 o n sh Rf I L post x1 x2 x3 x4 x5 x6 hok hw ?_
    unfold fModel_feed_18
    have l_5 : (20 : Int32).toInt = 20 := rfl
    refine ⟨fun c_6 => ?_, fun c_6 => ?_⟩
    · have d_7 := iLe c_6
      have g_8 : (0 : Int) ≤ (I o 2).toInt ∧ (I o 2).toInt ≤ 1600 := hR.at0 ra 2 (by decide)
      have a_9 : ((I o 2) + 20).toInt = (I o 2).toInt + (20 : Int32).toInt := tAdd (by omega) (by omega)
      refine fun I_10 e_11 => ?_
      have hR_12 : RI R I_10 := hR.up0 (k := 2) ra (by decide) (Or.inr hz12) e_11 (show (0 : Int) ≤ ((I o 2) + 20).toInt by omega) (show ((I o 2) + 20).toInt ≤ (1600 : Int) by omega)
      have hf_13 : Fm (fun c => c = o ∨ c = o + 1) I0 I_10 := hf.set (by first | rfl | omega | (dsimp only; omega)) e_11
      have t_14 : (I_10 o 2).toInt = ((I o 2) + 20).toInt := by rw [← e_11, q_u_at]
      have g_15 : (0 : Int) ≤ (I_10 o 2).toInt ∧ (I_10 o 2).toInt ≤ 1600 := hR_12.at0 ra 2 (by decide)
      exact (hp _ _ _ hR_12 hf_13 (by unfold feF; split <;> omega) (by unfold feT; split <;> omega))
    · have d_16 := iNle c_6
      have l_17 : (4 : Int32).toInt = 4 := rfl
      refine ⟨fun c_18 => ?_, fun c_18 => ?_⟩
      · have d_19 := iLe c_18
        have l_20 : (8 : Int32).toInt = 8 := rfl
        refine ⟨fun c_21 => ?_, fun c_21 => ?_⟩
        · have d_22 := iLe c_21
          have l_23 : (12 : Int32).toInt = 12 := rfl
          refine ⟨fun c_24 => ?_, fun c_24 => ?_⟩
          · have d_25 := iLe c_24
            have l_26 : (16 : Int32).toInt = 16 := rfl
            refine ⟨fun c_27 => ?_, fun c_27 => ?_⟩
            · have d_28 := iLe c_27
              unfold fModel_feed_71
              have g_29 : (0 : Int) ≤ (I o 2).toInt ∧ (I o 2).toInt ≤ 1600 := hR.at0 ra 2 (by decide)
              have a_30 : ((I o 2) + x6).toInt = (I o 2).toInt + x6.toInt := tAdd (by omega) (by omega)
              refine ⟨tIn (by omega) (by omega), fun I_31 e_32 => ?_⟩
              have hR_33 : RI R I_31 := hR.up ra 1 (by decide) (Or.inl rfl) e_32 (i_lo _) (i_hi _)
              have hf_34 : Fm (fun c => c = o ∨ c = o + 1) I0 I_31 := hf.set (by first | rfl | omega | (dsimp only; omega)) e_32
              have t_35 : (I_31 o 2).toInt = (I o 2).toInt := by rw [← e_32, q_u_ne (by omega)]
              have a_37 : (x6 + Int32.ofInt 1).toInt = x6.toInt + (1) := tIc (by omega) (by omega) (by decide) (by decide)
              generalize ez_36 : (x6 + Int32.ofInt 1) = z_36 at a_37 ⊢
              exact ih hR_33 hf_34 (by first | omega | (intro h; omega) | exact Or.inl rfl | exact Or.inr rfl) (by first | omega | (intro h; omega) | exact Or.inl rfl | exact Or.inr rfl) (by first | omega | (intro h; omega) | exact Or.inl rfl | exact Or.inr rfl) (by omega)
            · have d_38 := iNle c_27
              unfold fModel_feed_71
              have g_39 : (0 : Int) ≤ (I o 2).toInt ∧ (I o 2).toInt ≤ 1600 := hR.at0 ra 2 (by decide)
              have a_40 : ((I o 2) + x6).toInt = (I o 2).toInt + x6.toInt := tAdd (by omega) (by omega)
              refine ⟨tIn (by omega) (by omega), fun I_41 e_42 => ?_⟩
              have hR_43 : RI R I_41 := hR.up ra 1 (by decide) (Or.inl rfl) e_42 (i_lo _) (i_hi _)
              have hf_44 : Fm (fun c => c = o ∨ c = o + 1) I0 I_41 := hf.set (by first | rfl | omega | (dsimp only; omega)) e_42
              have t_45 : (I_41 o 2).toInt = (I o 2).toInt := by rw [← e_42, q_u_ne (by omega)]
              have a_47 : (x6 + Int32.ofInt 1).toInt = x6.toInt + (1) := tIc (by omega) (by omega) (by decide) (by decide)
              generalize ez_46 : (x6 + Int32.ofInt 1) = z_46 at a_47 ⊢
              exact ih hR_43 hf_44 (by first | omega | (intro h; omega) | exact Or.inl rfl | exact Or.inr rfl) (by first | omega | (intro h; omega) | exact Or.inl rfl | exact Or.inr rfl) (by first | omega | (intro h; omega) | exact Or.inl rfl | exact Or.inr rfl) (by omega)
          · have d_48 := iNle c_24
            unfold fModel_feed_71
            have g_49 : (0 : Int) ≤ (I o 2).toInt ∧ (I o 2).toInt ≤ 1600 := hR.at0 ra 2 (by decide)
            have a_50 : ((I o 2) + x6).toInt = (I o 2).toInt + x6.toInt := tAdd (by omega) (by omega)
            refine ⟨tIn (by omega) (by omega), fun I_51 e_52 => ?_⟩
            have hR_53 : RI R I_51 := hR.up ra 1 (by decide) (Or.inl rfl) e_52 (i_lo _) (i_hi _)
            have hf_54 : Fm (fun c => c = o ∨ c = o + 1) I0 I_51 := hf.set (by first | rfl | omega | (dsimp only; omega)) e_52
            have t_55 : (I_51 o 2).toInt = (I o 2).toInt := by rw [← e_52, q_u_ne (by omega)]
            have a_57 : (x6 + Int32.ofInt 1).toInt = x6.toInt + (1) := tIc (by omega) (by omega) (by decide) (by decide)
            generalize ez_56 : (x6 + Int32.ofInt 1) = z_56 at a_57 ⊢
            exact ih hR_53 hf_54 (by first | omega | (intro h; omega) | exact Or.inl rfl | exact Or.inr rfl) (by first | omega | (intro h; omega) | exact Or.inl rfl | exact Or.inr rfl) (by first | omega | (intro h; omega) | exact Or.inl rfl | exact Or.inr rfl) (by omega)
        · have d_58 := iNle c_21
          unfold fModel_feed_71
          have g_59 : (0 : Int) ≤ (I o 2).toInt ∧ (I o 2).toInt ≤ 1600 := hR.at0 ra 2 (by decide)
          have a_60 : ((I o 2) + x6).toInt = (I o 2).toInt + x6.toInt := tAdd (by omega) (by omega)
          refine ⟨tIn (by omega) (by omega), fun I_61 e_62 => ?_⟩
          have hR_63 : RI R I_61 := hR.up ra 1 (by decide) (Or.inl rfl) e_62 (i_lo _) (i_hi _)
          have hf_64 : Fm (fun c => c = o ∨ c = o + 1) I0 I_61 := hf.set (by first | rfl | omega | (dsimp only; omega)) e_62
          have t_65 : (I_61 o 2).toInt = (I o 2).toInt := by rw [← e_62, q_u_ne (by omega)]
          have a_67 : (x6 + Int32.ofInt 1).toInt = x6.toInt + (1) := tIc (by omega) (by omega) (by decide) (by decide)
          generalize ez_66 : (x6 + Int32.ofInt 1) = z_66 at a_67 ⊢
          exact ih hR_63 hf_64 (by first | omega | (intro h; omega) | exact Or.inl rfl | exact Or.inr rfl) (by first | omega | (intro h; omega) | exact Or.inl rfl | exact Or.inr rfl) (by first | omega | (intro h; omega) | exact Or.inl rfl | exact Or.inr rfl) (by omega)
      · have d_68 := iNle c_18
        unfold fModel_feed_71
        have g_69 : (0 : Int) ≤ (I o 2).toInt ∧ (I o 2).toInt ≤ 1600 := hR.at0 ra 2 (by decide)
        have a_70 : ((I o 2) + x6).toInt = (I o 2).toInt + x6.toInt := tAdd (by omega) (by omega)
        refine ⟨tIn (by omega) (by omega), fun I_71 e_72 => ?_⟩
        have hR_73 : RI R I_71 := hR.up ra 1 (by decide) (Or.inl rfl) e_72 (i_lo _) (i_hi _)
        have hf_74 : Fm (fun c => c = o ∨ c = o + 1) I0 I_71 := hf.set (by first | rfl | omega | (dsimp only; omega)) e_72
        have t_75 : (I_71 o 2).toInt = (I o 2).toInt := by rw [← e_72, q_u_ne (by omega)]
        have a_77 : (x6 + Int32.ofInt 1).toInt = x6.toInt + (1) := tIc (by omega) (by omega) (by decide) (by decide)
        generalize ez_76 : (x6 + Int32.ofInt 1) = z_76 at a_77 ⊢
        exact ih hR_73 hf_74 (by first | omega | (intro h; omega) | exact Or.inl rfl | exact Or.inr rfl) (by first | omega | (intro h; omega) | exact Or.inl rfl | exact Or.inr rfl) (by first | omega | (intro h; omega) | exact Or.inl rfl | exact Or.inr rfl) (by omega)
set_option maxHeartbeats 4000000 in
set_option maxRecDepth 20000 in
theorem yc_Model_feed2 {D : va_G} {cA : FieldType → ClassId} {b : Nat} {E : State → Prop} {R : qRg} {o n : Nat} {sh : Nat → qC} {Rf : Nat → Nat → Option Nat} {I0 : Nat → Nat → Int32} {L0 : Nat → Nat → Int64} {post : Option Value → qS → Prop} {p1 : Int32} {p2 : Int32} {p3 : Int32} {p4 : Int32} {p5 : Int32} (hok : q_ok (qGG D cA b E)) (hw : WfModel (qGG D cA b E) n sh Rf o) (ra : RAModel R o) (hz12 : R.2 12 = true) (hZ : Fz R I0 o wModel_feed) (hR0 : RI R I0) (hR : RI R I0) (hp : ∀ (r : Int32) (I' : Nat → Nat → Int32) (L' : Nat → Nat → Int64), RI R I' → Fm (fun c => c = o ∨ c = o + 1) I0 I' → (r.toInt = feF (I0 o 2).toInt) → ((I' o 2).toInt = feT (I0 o 2).toInt) → post (some (.int r)) (n, sh, Rf, I', L')) : Ev (qGG D cA b E) mModel_feed 0 (0, 0) 0 (lv_args 0 [.ref o, .int p1, .int p2, .int p3, .int p4, .int p5]) [] (n, sh, Rf, I0, L0) post := by
  have hf : Fm (fun c => c = o ∨ c = o + 1) I0 I0 := Fm.rf
  have g_78 : (0 : Int) ≤ (I0 o 2).toInt ∧ (I0 o 2).toInt ≤ 1600 := hR.at0 ra 2 (by decide)
  have g_79 : (0 : Int) ≤ (I0 o 2).toInt ∧ (I0 o 2).toInt ≤ 1600 := hR.at0 ra 2 (by decide)
  refine sModel_feed_0 o n sh Rf I0 L0 post p1 p2 p3 p4 p5 hok hw ?_
  unfold fModel_feed_0
  have g_80 : (0 : Int) ≤ (I0 o 2).toInt ∧ (I0 o 2).toInt ≤ 1600 := hR.at0 ra 2 (by decide)
  have l_81 : (20 : Int32).toInt = 20 := rfl
  have a_82 : ((I0 o 2) + 20).toInt = (I0 o 2).toInt + (20 : Int32).toInt := tAdd (by omega) (by omega)
  have l_83 : (1600 : Int32).toInt = 1600 := rfl
  refine ⟨fun c_84 => ?_, fun c_84 => ?_⟩
  · have d_85 := iLe c_84
    have l_86 : (0 : Int32).toInt = 0 := rfl
    exact yModel_feed_182 (I0 := I0) (L0 := L0) (p1 := p1) (p2 := p2) (p3 := p3) (p4 := p4) (p5 := p5) hok hw ra hz12 hZ hR0 hp  _ hR hf (by first | omega | (intro h; omega) | exact Or.inl rfl | exact Or.inr rfl) (by first | omega | (intro h; omega) | exact Or.inl rfl | exact Or.inr rfl) (by first | omega | (intro h; omega) | exact Or.inl rfl | exact Or.inr rfl) (Nat.lt_succ_self _)
  · have d_87 := iNle c_84
    have l_88 : (-1 : Int32).toInt = -1 := rfl
    exact (hp _ _ _ hR hf (by unfold feF; split <;> omega) (by unfold feT; split <;> omega))
theorem y_Model_feed2 {D : va_G} {cA : FieldType → ClassId} {b : Nat} {E : State → Prop} {R : qRg} {o n : Nat} {sh : Nat → qC} {Rf : Nat → Nat → Option Nat} {I0 : Nat → Nat → Int32} {L0 : Nat → Nat → Int64} {post : Option Value → qS → Prop} {p1 : Int32} {p2 : Int32} {p3 : Int32} {p4 : Int32} {p5 : Int32} (hok : q_ok (qGG D cA b E)) (hw : WfModel (qGG D cA b E) n sh Rf o) (ra : RAModel R o) (hz12 : R.2 12 = true) (hR : RI R I0) (hp : ∀ (r : Int32) (I' : Nat → Nat → Int32) (L' : Nat → Nat → Int64), RI R I' → Fm (fun c => c = o ∨ c = o + 1) I0 I' → Kp wModel_feed I0 I' o → (r.toInt = feF (I0 o 2).toInt) → ((I' o 2).toInt = feT (I0 o 2).toInt) → post (some (.int r)) (n, sh, Rf, I', L')) : Ev (qGG D cA b E) mModel_feed 0 (0, 0) 0 (lv_args 0 [.ref o, .int p1, .int p2, .int p3, .int p4, .int p5]) [] (n, sh, Rf, I0, L0) post :=
  yc_Model_feed2 (R := fzR R I0 o wModel_feed) hok hw (fzA ra hR _) (fzT hz12 rfl) fzZ (fzI hR) (fzI hR) (fun r I' L' h1 h2 u0 u1 => hp r I' L' (fzB hR h1) h2 (fzP h1) u0 u1)
set_option maxHeartbeats 4000000 in
set_option maxRecDepth 20000 in
theorem yc_Model_end2 {D : va_G} {cA : FieldType → ClassId} {b : Nat} {E : State → Prop} {R : qRg} {o n : Nat} {sh : Nat → qC} {Rf : Nat → Nat → Option Nat} {I0 : Nat → Nat → Int32} {L0 : Nat → Nat → Int64} {post : Option Value → qS → Prop} {p1 : Int32} (hok : q_ok (qGG D cA b E)) (hw : WfModel (qGG D cA b E) n sh Rf o) (ra : RAModel R o) (hz12 : R.2 12 = true) (hZ : Fz R I0 o wModel_end) (hR0 : RI R I0) (hR : RI R I0) (hp : ∀ (r : Int32) (I' : Nat → Nat → Int32) (L' : Nat → Nat → Int64), RI R I' → Fm (fun c => c = o) I0 I' → (r.toInt = enF (I0 o 2).toInt p1.toInt) → ((I' o 2).toInt = enT (I0 o 2).toInt p1.toInt) → post (some (.int r)) (n, sh, Rf, I', L')) : Ev (qGG D cA b E) mModel_end 0 (0, 0) 0 (lv_args 0 [.ref o, .int p1]) [] (n, sh, Rf, I0, L0) post := by
  have hf : Fm (fun c => c = o) I0 I0 := Fm.rf
  have g_1 : (0 : Int) ≤ (I0 o 2).toInt ∧ (I0 o 2).toInt ≤ 1600 := hR.at0 ra 2 (by decide)
  refine sModel_end_0 o n sh Rf I0 L0 post p1 hok hw ?_
  unfold fModel_end_0
  have l_2 : (0 : Int32).toInt = 0 := rfl
  refine ⟨fun c_3 => ?_, fun c_3 => ?_⟩
  · have d_4 := iLt c_3
    have l_5 : (-1 : Int32).toInt = -1 := rfl
    exact (hp _ _ _ hR hf (by unfold enF; split <;> omega) (by unfold enT; split <;> omega))
  · have d_6 := iNlt c_3
    have g_7 : (0 : Int) ≤ (I0 o 2).toInt ∧ (I0 o 2).toInt ≤ 1600 := hR.at0 ra 2 (by decide)
    refine ⟨fun c_8 => ?_, fun c_8 => ?_⟩
    · have d_9 := iLe c_8
      refine fun I_10 e_11 => ?_
      have hR_12 : RI R I_10 := hR.up0 (k := 2) ra (by decide) (Or.inr hz12) e_11 (show (0 : Int) ≤ p1.toInt by omega) (show p1.toInt ≤ (1600 : Int) by omega)
      have hf_13 : Fm (fun c => c = o) I0 I_10 := hf.set (by first | rfl | omega | (dsimp only; omega)) e_11
      have t_14 : (I_10 o 2).toInt = p1.toInt := by rw [← e_11, q_u_at]
      exact (hp _ _ _ hR_12 hf_13 (by unfold enF; split <;> omega) (by unfold enT; split <;> omega))
    · have d_15 := iNle c_8
      have l_16 : (-1 : Int32).toInt = -1 := rfl
      exact (hp _ _ _ hR hf (by unfold enF; split <;> omega) (by unfold enT; split <;> omega))
theorem y_Model_end2 {D : va_G} {cA : FieldType → ClassId} {b : Nat} {E : State → Prop} {R : qRg} {o n : Nat} {sh : Nat → qC} {Rf : Nat → Nat → Option Nat} {I0 : Nat → Nat → Int32} {L0 : Nat → Nat → Int64} {post : Option Value → qS → Prop} {p1 : Int32} (hok : q_ok (qGG D cA b E)) (hw : WfModel (qGG D cA b E) n sh Rf o) (ra : RAModel R o) (hz12 : R.2 12 = true) (hR : RI R I0) (hp : ∀ (r : Int32) (I' : Nat → Nat → Int32) (L' : Nat → Nat → Int64), RI R I' → Fm (fun c => c = o) I0 I' → Kp wModel_end I0 I' o → (r.toInt = enF (I0 o 2).toInt p1.toInt) → ((I' o 2).toInt = enT (I0 o 2).toInt p1.toInt) → post (some (.int r)) (n, sh, Rf, I', L')) : Ev (qGG D cA b E) mModel_end 0 (0, 0) 0 (lv_args 0 [.ref o, .int p1]) [] (n, sh, Rf, I0, L0) post :=
  yc_Model_end2 (R := fzR R I0 o wModel_end) hok hw (fzA ra hR _) (fzT hz12 rfl) fzZ (fzI hR) (fzI hR) (fun r I' L' h1 h2 u0 u1 => hp r I' L' (fzB hR h1) h2 (fzP h1) u0 u1)
set_option maxHeartbeats 4000000 in
set_option maxRecDepth 20000 in
theorem yTape_append_32 {D : va_G} {cA : FieldType → ClassId} {b : Nat} {E : State → Prop} {R : qRg} {o n : Nat} {sh : Nat → qC} {Rf : Nat → Nat → Option Nat} {I0 : Nat → Nat → Int32} {L0 : Nat → Nat → Int64} {post : Option Value → qS → Prop} {p1 : Int32} (hok : q_ok (qGG D cA b E)) (hw : WfTape (qGG D cA b E) n sh Rf o) (ra : RATape R o) (hz3 : R.2 3 = true) (hq0 : (I0 o 6).toInt ≤ 1596) (hp : ∀ (I' : Nat → Nat → Int32) (L' : Nat → Nat → Int64), RI R I' → Fm (fun c => c = o ∨ c = o + 1) I0 I' → ((I' o 6).toInt = (I0 o 6).toInt + 4) → post none (n, sh, Rf, I', L')) : ∀ (k : Nat) {x1 : Int32} {x2 : Int32} {I : Nat → Nat → Int32} {L : Nat → Nat → Int64}, RI R I → Fm (fun c => c = o ∨ c = o + 1) I0 I → ((-8 : Int) ≤ x2.toInt ∧ x2.toInt ≤ 24) → (8 * ((I o 6).toInt - (I0 o 6).toInt) + x2.toInt = 24) → (x2.toInt + 8).toNat < k → Ev (qGG D cA b E) mTape_append 0 (0, 0) 3 [(0, .ref o), (1, .int x1), (2, .int x2)] [] (n, sh, Rf, I, L) post := by
  intro k
  induction k with
  | zero =>
    intro x1 x2 I L hR hf hi0 hi1 hm
    exact absurd hm (Nat.not_lt_zero _)
  | succ k ih =>
    intro x1 x2 I L hR hf hi0 hi1 hm
    have g_1 : (0 : Int) ≤ (I o 6).toInt ∧ (I o 6).toInt ≤ 1600 := hR.at0 ra 6 (by decide)
    refine sTape_append_3 o n sh Rf I L post x1 x2 hok hw ?_
    unfold fTape_append_3
    have l_2 : (0 : Int32).toInt = 0 := rfl
    refine ⟨fun c_3 => ?_, fun c_3 => ?_⟩
    · have d_4 := iLt c_3
      exact (hp _ _ hR hf (by first | omega | (intro h; omega) | exact Or.inl rfl | exact Or.inr rfl))
    · have d_5 := iNlt c_3
      have g_6 : (0 : Int) ≤ (I o 6).toInt ∧ (I o 6).toInt ≤ 1600 := hR.at0 ra 6 (by decide)
      have l_7 : (1600 : Int32).toInt = 1600 := rfl
      refine ⟨fun c_8 => ?_, fun c_8 => ?_⟩
      · have d_9 := iLe c_8
        exact (hp _ _ hR hf (by first | omega | (intro h; omega) | exact Or.inl rfl | exact Or.inr rfl))
      · have d_10 := iNle c_8
        have g_11 : (0 : Int) ≤ (I o 6).toInt ∧ (I o 6).toInt ≤ 1600 := hR.at0 ra 6 (by decide)
        refine ⟨tIn (by omega) (by omega), fun I_12 e_13 => ?_⟩
        have hR_14 : RI R I_12 := hR.up ra 1 (by decide) (Or.inl rfl) e_13 (i_lo _) (i_hi _)
        have hf_15 : Fm (fun c => c = o ∨ c = o + 1) I0 I_12 := hf.set (by first | rfl | omega | (dsimp only; omega)) e_13
        have t_16 : (I_12 o 6).toInt = (I o 6).toInt := by rw [← e_13, q_u_ne (by omega)]
        have g_17 : (0 : Int) ≤ (I_12 o 6).toInt ∧ (I_12 o 6).toInt ≤ 1600 := hR_14.at0 ra 6 (by decide)
        have l_18 : (1 : Int32).toInt = 1 := rfl
        have a_19 : ((I_12 o 6) + 1).toInt = (I_12 o 6).toInt + (1 : Int32).toInt := tAdd (by omega) (by omega)
        refine fun I_20 e_21 => ?_
        have hR_22 : RI R I_20 := hR_14.up0 (k := 6) ra (by decide) (Or.inr hz3) e_21 (show (0 : Int) ≤ ((I_12 o 6) + 1).toInt by omega) (show ((I_12 o 6) + 1).toInt ≤ (1600 : Int) by omega)
        have hf_23 : Fm (fun c => c = o ∨ c = o + 1) I0 I_20 := hf_15.set (by first | rfl | omega | (dsimp only; omega)) e_21
        have t_24 : (I_20 o 6).toInt = ((I_12 o 6) + 1).toInt := by rw [← e_21, q_u_at]
        have a_26 : (x2 + Int32.ofInt (-8)).toInt = x2.toInt + (-8) := tIc (by omega) (by omega) (by decide) (by decide)
        generalize ez_25 : (x2 + Int32.ofInt (-8)) = z_25 at a_26 ⊢
        exact ih hR_22 hf_23 (by first | omega | (intro h; omega) | exact Or.inl rfl | exact Or.inr rfl) (by first | omega | (intro h; omega) | exact Or.inl rfl | exact Or.inr rfl) (by omega)
set_option maxHeartbeats 4000000 in
set_option maxRecDepth 20000 in
theorem y_Tape_append2 {D : va_G} {cA : FieldType → ClassId} {b : Nat} {E : State → Prop} {R : qRg} {o n : Nat} {sh : Nat → qC} {Rf : Nat → Nat → Option Nat} {I0 : Nat → Nat → Int32} {L0 : Nat → Nat → Int64} {post : Option Value → qS → Prop} {p1 : Int32} (hok : q_ok (qGG D cA b E)) (hw : WfTape (qGG D cA b E) n sh Rf o) (ra : RATape R o) (hz3 : R.2 3 = true) (hq0 : (I0 o 6).toInt ≤ 1596) (hR : RI R I0) (hp : ∀ (I' : Nat → Nat → Int32) (L' : Nat → Nat → Int64), RI R I' → Fm (fun c => c = o ∨ c = o + 1) I0 I' → ((I' o 6).toInt = (I0 o 6).toInt + 4) → post none (n, sh, Rf, I', L')) : Ev (qGG D cA b E) mTape_append 0 (0, 0) 0 (lv_args 0 [.ref o, .int p1]) [] (n, sh, Rf, I0, L0) post := by
  have hf : Fm (fun c => c = o ∨ c = o + 1) I0 I0 := Fm.rf
  have g_27 : (0 : Int) ≤ (I0 o 6).toInt ∧ (I0 o 6).toInt ≤ 1600 := hR.at0 ra 6 (by decide)
  refine sTape_append_0 o n sh Rf I0 L0 post p1 hok hw ?_
  unfold fTape_append_0
  have l_28 : (24 : Int32).toInt = 24 := rfl
  exact yTape_append_32 (I0 := I0) (L0 := L0) (p1 := p1) hok hw ra hz3 hq0 hp  _ hR hf (by first | omega | (intro h; omega) | exact Or.inl rfl | exact Or.inr rfl) (by first | omega | (intro h; omega) | exact Or.inl rfl | exact Or.inr rfl) (Nat.lt_succ_self _)
set_option maxHeartbeats 4000000 in
set_option maxRecDepth 20000 in
theorem y_Office_feed2 {D : va_G} {cA : FieldType → ClassId} {b : Nat} {E : State → Prop} {R : qRg} {o n : Nat} {sh : Nat → qC} {Rf : Nat → Nat → Option Nat} {I0 : Nat → Nat → Int32} {L0 : Nat → Nat → Int64} {post : Option Value → qS → Prop} {p1 : Int32} {p2 : Int32} {p3 : Int32} {p4 : Int32} {p5 : Int32} (hok : q_ok (qGG D cA b E)) (hw : WfOffice (qGG D cA b E) n sh Rf o) (ra : RAOffice R o) (hz3 : R.2 3 = true) (hR : RI R I0) (hp : ∀ (r : Int32) (I' : Nat → Nat → Int32) (L' : Nat → Nat → Int64), RI R I' → Fm (fun c => c = o + 1 ∨ c = o + 2) I0 I' → (r.toInt = feF (I0 (o + 1) 6).toInt) → ((I' (o + 1) 6).toInt = feT (I0 (o + 1) 6).toInt) → post (some (.int r)) (n, sh, Rf, I', L')) : Ev (qGG D cA b E) mOffice_feed 1 (0, 0) 0 (lv_args 0 [.ref o, .int p1, .int p2, .int p3, .int p4, .int p5]) [] (n, sh, Rf, I0, L0) post := by
  have hf : Fm (fun c => c = o + 1 ∨ c = o + 2) I0 I0 := Fm.rf
  have g_1 : (0 : Int) ≤ (I0 (o + 1) 6).toInt ∧ (I0 (o + 1) 6).toInt ≤ 1600 := hR.at0 (rsOffice_0 ra) 6 (by decide)
  refine sOffice_feed_0 o n sh Rf I0 L0 post p1 p2 p3 p4 p5 hok hw ?_
  unfold fOffice_feed_0
  have g_2 : (0 : Int) ≤ (I0 (o + 1) 6).toInt ∧ (I0 (o + 1) 6).toInt ≤ 1600 := hR.at0 (rsOffice_0 ra) 6 (by decide)
  have l_3 : (20 : Int32).toInt = 20 := rfl
  have a_4 : ((I0 (o + 1) 6) + 20).toInt = (I0 (o + 1) 6).toInt + (20 : Int32).toInt := tAdd (by omega) (by omega)
  have l_5 : (1600 : Int32).toInt = 1600 := rfl
  refine ⟨fun c_6 => ?_, fun c_6 => ?_⟩
  · have d_7 := iLe c_6
    refine y_Tape_append2 hok (wsOffice_0 hw) (rsOffice_0 ra) hz3 (by first | omega | (intro h; omega) | exact Or.inl rfl | exact Or.inr rfl) hR (fun I_10 L_11 hR_12 fr_13 u_9 => ⟨I_10, L_11, rfl, rfl, ?_⟩)
    have hf_14 : Fm (fun c => c = o + 1 ∨ c = o + 2) I0 I_10 := hf.call fr_13 (fun c hc => by first | exact hc | (dsimp only at hc ⊢; omega) | omega)
    have g_15 : (0 : Int) ≤ (I_10 (o + 1) 6).toInt ∧ (I_10 (o + 1) 6).toInt ≤ 1600 := hR_12.at0 (rsOffice_0 ra) 6 (by decide)
    refine y_Tape_append2 hok (wsOffice_0 hw) (rsOffice_0 ra) hz3 (by first | omega | (intro h; omega) | exact Or.inl rfl | exact Or.inr rfl) hR_12 (fun I_18 L_19 hR_20 fr_21 u_17 => ⟨I_18, L_19, rfl, rfl, ?_⟩)
    have hf_22 : Fm (fun c => c = o + 1 ∨ c = o + 2) I0 I_18 := hf_14.call fr_21 (fun c hc => by first | exact hc | (dsimp only at hc ⊢; omega) | omega)
    have g_23 : (0 : Int) ≤ (I_18 (o + 1) 6).toInt ∧ (I_18 (o + 1) 6).toInt ≤ 1600 := hR_20.at0 (rsOffice_0 ra) 6 (by decide)
    refine y_Tape_append2 hok (wsOffice_0 hw) (rsOffice_0 ra) hz3 (by first | omega | (intro h; omega) | exact Or.inl rfl | exact Or.inr rfl) hR_20 (fun I_26 L_27 hR_28 fr_29 u_25 => ⟨I_26, L_27, rfl, rfl, ?_⟩)
    have hf_30 : Fm (fun c => c = o + 1 ∨ c = o + 2) I0 I_26 := hf_22.call fr_29 (fun c hc => by first | exact hc | (dsimp only at hc ⊢; omega) | omega)
    have g_31 : (0 : Int) ≤ (I_26 (o + 1) 6).toInt ∧ (I_26 (o + 1) 6).toInt ≤ 1600 := hR_28.at0 (rsOffice_0 ra) 6 (by decide)
    refine y_Tape_append2 hok (wsOffice_0 hw) (rsOffice_0 ra) hz3 (by first | omega | (intro h; omega) | exact Or.inl rfl | exact Or.inr rfl) hR_28 (fun I_34 L_35 hR_36 fr_37 u_33 => ⟨I_34, L_35, rfl, rfl, ?_⟩)
    have hf_38 : Fm (fun c => c = o + 1 ∨ c = o + 2) I0 I_34 := hf_30.call fr_37 (fun c hc => by first | exact hc | (dsimp only at hc ⊢; omega) | omega)
    have g_39 : (0 : Int) ≤ (I_34 (o + 1) 6).toInt ∧ (I_34 (o + 1) 6).toInt ≤ 1600 := hR_36.at0 (rsOffice_0 ra) 6 (by decide)
    refine y_Tape_append2 hok (wsOffice_0 hw) (rsOffice_0 ra) hz3 (by first | omega | (intro h; omega) | exact Or.inl rfl | exact Or.inr rfl) hR_36 (fun I_42 L_43 hR_44 fr_45 u_41 => ⟨I_42, L_43, rfl, rfl, ?_⟩)
    have hf_46 : Fm (fun c => c = o + 1 ∨ c = o + 2) I0 I_42 := hf_38.call fr_45 (fun c hc => by first | exact hc | (dsimp only at hc ⊢; omega) | omega)
    have g_47 : (0 : Int) ≤ (I_42 (o + 1) 6).toInt ∧ (I_42 (o + 1) 6).toInt ≤ 1600 := hR_44.at0 (rsOffice_0 ra) 6 (by decide)
    have g_48 : (0 : Int) ≤ (I_42 (o + 1) 6).toInt ∧ (I_42 (o + 1) 6).toInt ≤ 1600 := hR_44.at0 (rsOffice_0 ra) 6 (by decide)
    exact (hp _ _ _ hR_44 hf_46 (by unfold feF; split <;> omega) (by unfold feT; split <;> omega))
  · have d_49 := iNle c_6
    have l_50 : (-1 : Int32).toInt = -1 := rfl
    exact (hp _ _ _ hR hf (by unfold feF; split <;> omega) (by unfold feT; split <;> omega))
set_option maxHeartbeats 4000000 in
set_option maxRecDepth 20000 in
theorem y_Office_end2 {D : va_G} {cA : FieldType → ClassId} {b : Nat} {E : State → Prop} {R : qRg} {o n : Nat} {sh : Nat → qC} {Rf : Nat → Nat → Option Nat} {I0 : Nat → Nat → Int32} {L0 : Nat → Nat → Int64} {post : Option Value → qS → Prop} {p1 : Int32} (hok : q_ok (qGG D cA b E)) (hw : WfOffice (qGG D cA b E) n sh Rf o) (ra : RAOffice R o) (hz3 : R.2 3 = true) (hR : RI R I0) (hp : ∀ (r : Int32) (I' : Nat → Nat → Int32) (L' : Nat → Nat → Int64), RI R I' → Fm (fun c => c = o + 1) I0 I' → (r.toInt = enF (I0 (o + 1) 6).toInt p1.toInt) → ((I' (o + 1) 6).toInt = enT (I0 (o + 1) 6).toInt p1.toInt) → post (some (.int r)) (n, sh, Rf, I', L')) : Ev (qGG D cA b E) mOffice_end 0 (0, 0) 0 (lv_args 0 [.ref o, .int p1]) [] (n, sh, Rf, I0, L0) post := by
  have hf : Fm (fun c => c = o + 1) I0 I0 := Fm.rf
  have g_1 : (0 : Int) ≤ (I0 (o + 1) 6).toInt ∧ (I0 (o + 1) 6).toInt ≤ 1600 := hR.at0 (rsOffice_0 ra) 6 (by decide)
  refine sOffice_end_0 o n sh Rf I0 L0 post p1 hok hw ?_
  unfold fOffice_end_0
  have l_2 : (0 : Int32).toInt = 0 := rfl
  refine ⟨fun c_3 => ?_, fun c_3 => ?_⟩
  · have d_4 := iLt c_3
    have l_5 : (-1 : Int32).toInt = -1 := rfl
    exact (hp _ _ _ hR hf (by unfold enF; split <;> omega) (by unfold enT; split <;> omega))
  · have d_6 := iNlt c_3
    have g_7 : (0 : Int) ≤ (I0 (o + 1) 6).toInt ∧ (I0 (o + 1) 6).toInt ≤ 1600 := hR.at0 (rsOffice_0 ra) 6 (by decide)
    refine ⟨fun c_8 => ?_, fun c_8 => ?_⟩
    · have d_9 := iLe c_8
      refine fun I_10 e_11 => ?_
      have hR_12 : RI R I_10 := hR.up0 (k := 6) (rsOffice_0 ra) (by decide) (Or.inr hz3) e_11 (show (0 : Int) ≤ p1.toInt by omega) (show p1.toInt ≤ (1600 : Int) by omega)
      have hf_13 : Fm (fun c => c = o + 1) I0 I_10 := hf.set (by first | rfl | omega | (dsimp only; omega)) e_11
      have t_14 : (I_10 (o + 1) 6).toInt = p1.toInt := by rw [← e_11, q_u_at]
      exact (hp _ _ _ hR_12 hf_13 (by unfold enF; split <;> omega) (by unfold enT; split <;> omega))
    · have d_15 := iNle c_8
      have l_16 : (-1 : Int32).toInt = -1 := rfl
      exact (hp _ _ _ hR hf (by unfold enF; split <;> omega) (by unfold enT; split <;> omega))
section YW
variable {D : va_G} {cA : FieldType → ClassId} {b : Nat} {kS vS : Nat → Nat} {xb xl : Nat} {xs : Nat → Int32} {R : qRg} {o n : Nat} {sh : Nat → qC} {Rf Rf' : Nat → Nat → Option Nat} {I I' : Nat → Nat → Int32} {L : Nat → Nat → Int64} {post : Option Value → qS → Prop}
theorem yw_feed {p1 : Int32} {p2 : Int32} {p3 : Int32} {p4 : Int32} {p5 : Int32} (hA : ∀ i, R.2 i = true) (h : OI (qGG D cA b (qEx b kS vS xb xl xs)) R n sh Rf I o) (hp : ∀ (r : Int32) (Rf' : Nat → Nat → Option Nat) (I' : Nat → Nat → Int32) (L' : Nat → Nat → Int64), r.toInt = feF (I (o + 1) 6).toInt → (I' (o + 1) 6).toInt = feT (I (o + 1) 6).toInt → OI (qGG D cA b (qEx b kS vS xb xl xs)) R n sh Rf' I' o → (∀ a, o + 207 ≤ a → Rf' a = Rf a ∧ I' a = I a) → post (some (.int r)) (n, sh, Rf', I', L')) : Ev (qGG D cA b (qEx b kS vS xb xl xs)) mOffice_feed 1 (0, 0) 0 (lv_args 0 [.ref o, .int p1, .int p2, .int p3, .int p4, .int p5]) [] (n, sh, Rf, I, L) post :=
  y_Office_feed2 qEx_ok h.1 h.2.1 (hA 3) h.2.2.1 (fun r I' L' hR hf u0 u1 => hp r Rf I' L' u0 u1 (h.fm hR hf (fun c hc => by first | (dsimp only; omega) | omega) (h.tok hf (fun c hc => by first | (dsimp only; omega) | omega)) (h.fac hf (fun c hc => by first | (dsimp only; omega) | omega))) (fun a ha => ⟨rfl, hf a (by first | omega | (dsimp only; omega))⟩))
theorem ymw_feed {p1 : Int32} {p2 : Int32} {p3 : Int32} {p4 : Int32} {p5 : Int32} (hok : q_ok (qGG D cA b (qEx b kS vS xb xl xs))) (hA : ∀ j, R.2 j = true) (h : MI (qGG D cA b (qEx b kS vS xb xl xs)) R n sh Rf I o) (hp : ∀ (r : Int32) (I' : Nat → Nat → Int32) (L' : Nat → Nat → Int64), MI (qGG D cA b (qEx b kS vS xb xl xs)) R n sh Rf I' o → (∀ a, a < o → I' a = I a) → (r.toInt = feF (I o 2).toInt) → ((I' o 2).toInt = feT (I o 2).toInt) → post (some (.int r)) (n, sh, Rf, I', L')) : Ev (qGG D cA b (qEx b kS vS xb xl xs)) mModel_feed 0 (0, 0) 0 (lv_args 0 [.ref o, .int p1, .int p2, .int p3, .int p4, .int p5]) [] (n, sh, Rf, I, L) post :=
  y_Model_feed2 hok h.1 h.2.1 (hA 12) h.2.2.1 (fun r I' L' hR fr kp u0 u1 => hp r I' L' ⟨h.1, h.2.1, hR, (h.2.2.2.1.fr (fr _ (by first | omega | (dsimp only; omega))) (fr _ (by first | omega | (dsimp only; omega))) (fr _ (by first | omega | (dsimp only; omega)))), (h.2.2.2.2.fr (fr _ (by first | omega | (dsimp only; omega))) (fr _ (by first | omega | (dsimp only; omega))) (kp 67 rfl))⟩ (fun a ha => fr a (by first | omega | (dsimp only; omega))) u0 u1)
theorem yw_end {p1 : Int32} (hA : ∀ i, R.2 i = true) (h : OI (qGG D cA b (qEx b kS vS xb xl xs)) R n sh Rf I o) (hp : ∀ (r : Int32) (Rf' : Nat → Nat → Option Nat) (I' : Nat → Nat → Int32) (L' : Nat → Nat → Int64), r.toInt = enF (I (o + 1) 6).toInt p1.toInt → (I' (o + 1) 6).toInt = enT (I (o + 1) 6).toInt p1.toInt → OI (qGG D cA b (qEx b kS vS xb xl xs)) R n sh Rf' I' o → (∀ a, o + 207 ≤ a → Rf' a = Rf a ∧ I' a = I a) → post (some (.int r)) (n, sh, Rf', I', L')) : Ev (qGG D cA b (qEx b kS vS xb xl xs)) mOffice_end 0 (0, 0) 0 (lv_args 0 [.ref o, .int p1]) [] (n, sh, Rf, I, L) post :=
  y_Office_end2 qEx_ok h.1 h.2.1 (hA 3) h.2.2.1 (fun r I' L' hR hf u0 u1 => hp r Rf I' L' u0 u1 (h.fm hR hf (fun c hc => by first | (dsimp only; omega) | omega) (h.tok hf (fun c hc => by first | (dsimp only; omega) | omega)) (h.fac hf (fun c hc => by first | (dsimp only; omega) | omega))) (fun a ha => ⟨rfl, hf a (by first | omega | (dsimp only; omega))⟩))
theorem ymw_end {p1 : Int32} (hok : q_ok (qGG D cA b (qEx b kS vS xb xl xs))) (hA : ∀ j, R.2 j = true) (h : MI (qGG D cA b (qEx b kS vS xb xl xs)) R n sh Rf I o) (hp : ∀ (r : Int32) (I' : Nat → Nat → Int32) (L' : Nat → Nat → Int64), MI (qGG D cA b (qEx b kS vS xb xl xs)) R n sh Rf I' o → (∀ a, a < o → I' a = I a) → (r.toInt = enF (I o 2).toInt p1.toInt) → ((I' o 2).toInt = enT (I o 2).toInt p1.toInt) → post (some (.int r)) (n, sh, Rf, I', L')) : Ev (qGG D cA b (qEx b kS vS xb xl xs)) mModel_end 0 (0, 0) 0 (lv_args 0 [.ref o, .int p1]) [] (n, sh, Rf, I, L) post :=
  y_Model_end2 hok h.1 h.2.1 (hA 12) h.2.2.1 (fun r I' L' hR fr kp u0 u1 => hp r I' L' ⟨h.1, h.2.1, hR, (h.2.2.2.1.fr (fr _ (by first | omega | (dsimp only; omega))) (fr _ (by first | omega | (dsimp only; omega))) (fr _ (by first | omega | (dsimp only; omega)))), (h.2.2.2.2.fr (fr _ (by first | omega | (dsimp only; omega))) (fr _ (by first | omega | (dsimp only; omega))) (kp 67 rfl))⟩ (fun a ha => fr a (by first | omega | (dsimp only; omega))) u0 u1)
theorem yw_land (hA : ∀ i, R.2 i = true) (h : OI (qGG D cA b (qEx b kS vS xb xl xs)) R n sh Rf I o) (hp : ∀ (r : Int32) (Rf' : Nat → Nat → Option Nat) (I' : Nat → Nat → Int32) (L' : Nat → Nat → Int64), (I' (o + 1) 6).toInt = 0 → OI (qGG D cA b (qEx b kS vS xb xl xs)) R n sh Rf' I' o → (∀ a, o + 207 ≤ a → Rf' a = Rf a ∧ I' a = I a) → post (some (.int r)) (n, sh, Rf', I', L')) : Ev (qGG D cA b (qEx b kS vS xb xl xs)) mOffice_land 11 (0, 0) 0 (lv_args 0 [.ref o]) [] (n, sh, Rf, I, L) post := by
  have hz3 : R.2 3 = true := hA 3
  obtain ⟨l1, a1, b1⟩ := h.2.2.2.1
  obtain ⟨l2, a2, b2⟩ := h.2.2.2.2.1
  have hs : sh o = .inr 11 := h.1.1.2.2
  have z0 : (0 : Int32).toInt = 0 := rfl
  have lo2 := b2.2.2
  refine sOffice_land_0 o n sh Rf I L post l2 l1 qEx_ok h.1 a2 b2.1 a1 b1.1 (y_Land_read qEx_ok b2.1 b2.2.1 (wsOffice_0 h.1) (rsOffice_0 h.2.1) (by omega) h.2.2.2.2.2.2.2.2.2.1 h.2.2.1 (fun r I1 L1 hR1 hf1 _ tk1 => ⟨r, I1, L1, rfl, rfl, fun I2 e2 => ?_⟩))
  have hR2 : RI R I2 := hR1.up0 (rsOffice_0 h.2.1) (by decide) (Or.inr (by exact hz3)) e2 (show (0 : Int) ≤ (0 : Int32).toInt by omega) (show (0 : Int32).toInt ≤ (1600 : Int) by omega)
  have z2 : (I2 (o + 1) 6).toInt = 0 := by rw [← e2, q_u_at]; rfl
  have hf2 : Fm (fun c => (l2 ≤ c ∧ c < l2 + 16) ∨ (o + 1 ≤ c ∧ c < o + 1 + 7)) I I2 := hf1.set (by first | (dsimp only; omega) | omega) e2
  have tk2 : TokOK I2 (o + 1) := tk1.fr (by rw [← e2]; exact q_u_ne (by omega)) (by rw [← e2]; exact q_u_ne (by omega))
  have h2 : OI (qGG D cA b (qEx b kS vS xb xl xs)) R n sh Rf I2 o := h.fm hR2 hf2 (fun c hc => by first | (dsimp only; omega) | omega) tk2 (h.fac hf2 (fun c hc => by first | (dsimp only; omega) | omega))
  refine ⟨fun _ => ?_, fun _ => hp _ Rf I2 L1 z2 h2 (fun a ha => ⟨rfl, hf2 a (by first | (dsimp only; omega) | omega)⟩)⟩
  have e1 : Eo sh Rf (q_u Rf o 1 (some l2)) := Eo.o hs
  have w1 := wgOffice e1 (fun k k1 _ _ => q_u_k k1) h.1
  have e2' : Eo sh (q_u Rf o 1 (some l2)) (q_u (q_u Rf o 1 (some l2)) o 2 (some l1)) := Eo.o hs
  have w2 := wgOffice e2' (fun k _ k2 _ => q_u_k k2) w1
  refine sOffice_land_39 o n sh _ I2 L1 post r l1 l2 l2 qEx_ok w1 (wgLand e1 b1.1) (by rw [q_u_k (by decide)]; exact a2) (wgLand e1 b2.1) q_u_at (wgLand e1 b2.1) ?_
  refine sOffice_land_44 o n sh _ I2 L1 post r l1 l1 l2 qEx_ok w2 (wgLand e2' (wgLand e1 b1.1)) q_u_at (wgLand e2' (wgLand e1 b1.1)) (by rw [q_u_k (by decide)]; exact q_u_at) (wgLand e2' (wgLand e1 b2.1)) (fun I3 e3 I4 e4 => ?_)
  have hR3 : RI R I3 := hR2.up0 (rsOffice_6 h.2.1) (by decide) (Or.inl rfl) e3 (show (0 : Int) ≤ (0 : Int32).toInt by omega) (show (0 : Int32).toInt ≤ (40 : Int) by omega)
  have hR4 : RI R I4 := hR3.up0 (rsOffice_8 h.2.1) (by decide) (Or.inl rfl) e4 (i_lo _) (i_hi _)
  have f4 : Fm (fun c => c = o + 48 ∨ c = o + 55) I2 I4 := ((Fm.rf (M := fun c => c = o + 48 ∨ c = o + 55)).set (Or.inl rfl) e3).set (Or.inr rfl) e4
  have fa : FacOK I4 (o + 48) := fun j hj => absurd hj (by
    have q : I4 (o + 48) 6 = 0 := by rw [← e4, q_u_ne (by omega), ← e3, q_u_at]
    rw [q]
    omega)
  have h3 : OI (qGG D cA b (qEx b kS vS xb xl xs)) R n sh (q_u (q_u Rf o 1 (some l2)) o 2 (some l1)) I2 o := h2.own (e1.trans e2') (fun k k1 k2 _ => by rw [q_u_k k2, q_u_k k1]) ⟨l2, by rw [q_u_k (by decide)]; exact q_u_at, b2⟩ ⟨l1, q_u_at, b1⟩ (by rw [q_u_k (by decide), q_u_k (by decide)]; exact h.2.2.2.2.2.1) (fun i hi => by rw [q_u_ne (show o + 40 ≠ o by omega), q_u_ne (show o + 40 ≠ o by omega)]; exact h.2.2.2.2.2.2.1 i hi)
  have h4 : OI (qGG D cA b (qEx b kS vS xb xl xs)) R n sh (q_u (q_u Rf o 1 (some l2)) o 2 (some l1)) I4 o := h3.fm hR4 f4 (fun c hc => by first | (dsimp only; omega) | omega) (h3.tok f4 (fun c hc => by first | (dsimp only; omega) | omega)) fa
  exact hp _ _ I4 L1 (by rw [f4 (o + 1) (by first | (dsimp only; omega) | omega)]; exact z2) h4 (fun a ha => ⟨by rw [q_u_ne (by omega), q_u_ne (by omega)], (f4 a (by first | (dsimp only; omega) | omega)).trans (hf2 a (by first | (dsimp only; omega) | omega))⟩)
theorem yw_reform {p1 : Int32} (hA : ∀ i, R.2 i = true) (h : OI (qGG D cA b (qEx b kS vS xb xl xs)) R n sh Rf I o) (hp : ∀ (r : Int32) (Rf' : Nat → Nat → Option Nat) (I' : Nat → Nat → Int32) (L' : Nat → Nat → Int64), (I' (o + 1) 6).toInt = reT (I (o + 1) 6).toInt p1.toInt → OI (qGG D cA b (qEx b kS vS xb xl xs)) R n sh Rf' I' o → (∀ a, o + 207 ≤ a → Rf' a = Rf a ∧ I' a = I a) → post (some (.int r)) (n, sh, Rf', I', L')) : Ev (qGG D cA b (qEx b kS vS xb xl xs)) mOffice_reform 103 (0, 0) 0 (lv_args 0 [.ref o, .int p1]) [] (n, sh, Rf, I, L) post := by
  have hz3 : R.2 3 = true := hA 3
  obtain ⟨r4, a4, b4⟩ := h.2.2.2.2.2.1
  have hs : sh o = .inr 11 := h.1.1.2.2
  have ha : sh (o + 40) = .inl (.object "SaltOffice$Reform", 4) := (waOffice_3 (I := I) (L := L) h.1).2.2
  have no : ¬ ((I (o + 1) 6).toInt ≤ 700 ∧ 0 ≤ p1.toInt ∧ p1.toInt ≤ 3) → post (some (.int (-2))) (n, sh, Rf, I, L) := fun q => hp _ Rf I L (by unfold reT; rw [if_neg q]) h (fun a _ => ⟨rfl, rfl⟩)
  have z7 : (700 : Int32).toInt = 700 := rfl
  have z0 : (0 : Int32).toInt = 0 := rfl
  have z4 : (4 : Int32).toInt = 4 := rfl
  have pos := b4.2.2
  refine sOffice_reform_0 o n sh Rf I L post p1 r4 qEx_ok h.1 a4 b4.1 ⟨fun c => no (by have q := iLt c; omega), fun h0 => ⟨fun c => no (by have q := iLe c; omega), fun h1 => ⟨fun h7 => ?_, fun c => no (by have q := iNle c; omega)⟩⟩⟩
  have g0 := iNlt h0
  have g1 := iNle h1
  have cl := tCl (x := p1) (by omega)
  have vin : vp_in p1 4 := tIn (by omega) (by omega)
  obtain ⟨rs, as, bs⟩ := h.2.2.2.2.2.2.1 p1.toNatClampNeg (by omega)
  refine y_Reform_read qEx_ok b4.1 b4.2.1 (wsOffice_0 h.1) (rsOffice_0 h.2.1) (by omega) h.2.2.2.2.2.2.2.2.2.1 h.2.2.1 (fun r I1 L1 hR1 hf1 _ tk1 => ⟨r, I1, L1, rfl, rfl, fun I2 e2 => ?_⟩)
  have hR2 : RI R I2 := hR1.up0 (rsOffice_0 h.2.1) (by decide) (Or.inr (by exact hz3)) e2 (show (0 : Int) ≤ (0 : Int32).toInt by omega) (show (0 : Int32).toInt ≤ (1600 : Int) by omega)
  have z2 : (I2 (o + 1) 6).toInt = reT (I (o + 1) 6).toInt p1.toInt := by have q7 := iLe h7; unfold reT; rw [if_pos (by omega), ← e2, q_u_at]; rfl
  have hf2 : Fm (fun c => (r4 ≤ c ∧ c < r4 + 5) ∨ (o + 1 ≤ c ∧ c < o + 1 + 7)) I I2 := hf1.set (by first | (dsimp only; omega) | omega) e2
  have tk2 : TokOK I2 (o + 1) := tk1.fr (by rw [← e2]; exact q_u_ne (by omega)) (by rw [← e2]; exact q_u_ne (by omega))
  have h2 : OI (qGG D cA b (qEx b kS vS xb xl xs)) R n sh Rf I2 o := h.fm hR2 hf2 (fun c hc => by first | (dsimp only; omega) | omega) tk2 (h.fac hf2 (fun c hc => by first | (dsimp only; omega) | omega))
  refine ⟨fun _ => ⟨vin, rs, as, bs.1, vin, ?_⟩, fun _ => hp _ Rf I2 L1 z2 h2 (fun a ha => ⟨rfl, hf2 a (by first | (dsimp only; omega) | omega)⟩)⟩
  have e1 : Eo sh Rf (q_u Rf (o + 40) p1.toNatClampNeg (some r4)) := Eo.a ha
  have w1 := wgOffice e1 (fun k _ _ _ => by rw [q_u_ne (show o ≠ o + 40 by omega)]) h.1
  have e2' : Eo sh (q_u Rf (o + 40) p1.toNatClampNeg (some r4)) (q_u (q_u Rf (o + 40) p1.toNatClampNeg (some r4)) o 4 (some rs)) := Eo.o hs
  have w2 := wgOffice e2' (fun k _ _ k4 => q_u_k k4) w1
  refine sOffice_reform_77 o n sh _ I2 L1 post p1 r _ rs r4 qEx_ok w1 (wgReform e1 bs.1) (by rw [q_u_ne (show o ≠ o + 40 by omega)]; exact a4) (wgReform e1 b4.1) ?_
  refine sOffice_reform_83 o n sh _ I2 L1 post p1 r _ rs rs qEx_ok w2 (wgReform e2' (wgReform e1 bs.1)) q_u_at (wgReform e2' (wgReform e1 bs.1)) ?_
  have h3 : OI (qGG D cA b (qEx b kS vS xb xl xs)) R n sh (q_u (q_u Rf (o + 40) p1.toNatClampNeg (some r4)) o 4 (some rs)) I2 o := h2.own (e1.trans e2') (fun k k1 k2 k4 => by rw [q_u_k k4, q_u_ne (show o ≠ o + 40 by omega)]) (by rw [q_u_k (by decide), q_u_ne (show o ≠ o + 40 by omega)]; exact h.2.2.2.1) (by rw [q_u_k (by decide), q_u_ne (show o ≠ o + 40 by omega)]; exact h.2.2.2.2.1) ⟨rs, q_u_at, bs⟩ (fun i hi => by
    rw [q_u_ne (show o + 40 ≠ o by omega)]
    by_cases hi' : i = p1.toNatClampNeg
    · subst hi'; exact ⟨r4, q_u_at, b4⟩
    · rw [q_u_k hi']; exact h.2.2.2.2.2.2.1 i hi)
  exact hp _ _ I2 L1 z2 h3 (fun a ha => ⟨by rw [q_u_ne (by omega), q_u_ne (by omega)], hf2 a (by first | (dsimp only; omega) | omega)⟩)
theorem ymw_land (hok : q_ok (qGG D cA b (qEx b kS vS xb xl xs))) (hA : ∀ j, R.2 j = true) (h : MI (qGG D cA b (qEx b kS vS xb xl xs)) R n sh Rf I o) (hp : ∀ (r : Int32) (I' : Nat → Nat → Int32) (L' : Nat → Nat → Int64), MI (qGG D cA b (qEx b kS vS xb xl xs)) R n sh Rf I' o → (∀ a, a < o → I' a = I a) → (I' o 2).toInt = 0 → post (some (.int r)) (n, sh, Rf, I', L')) : Ev (qGG D cA b (qEx b kS vS xb xl xs)) mModel_land 7 (0, 0) 0 (lv_args 0 [.ref o]) [] (n, sh, Rf, I, L) post := ym_land hok hA h (fun r I' L' mi f2 kp u0 => hp r I' L' mi f2 u0)
theorem ymw_reform {p1 : Int32} (hok : q_ok (qGG D cA b (qEx b kS vS xb xl xs))) (hA : ∀ j, R.2 j = true) (h : MI (qGG D cA b (qEx b kS vS xb xl xs)) R n sh Rf I o) (hp : ∀ (r : Int32) (I' : Nat → Nat → Int32) (L' : Nat → Nat → Int64), MI (qGG D cA b (qEx b kS vS xb xl xs)) R n sh Rf I' o → (∀ a, a < o → I' a = I a) → (I' o 2).toInt = reT (I o 2).toInt p1.toInt → post (some (.int r)) (n, sh, Rf, I', L')) : Ev (qGG D cA b (qEx b kS vS xb xl xs)) mModel_reform 7 (0, 0) 0 (lv_args 0 [.ref o, .int p1]) [] (n, sh, Rf, I, L) post := ym_reform hok hA h (fun r I' L' mi f2 kp u0 u1 => hp r I' L' mi f2 (by unfold reT; split; (next q => exact u0 q); (next q => exact u1 q)))
theorem yk_fault {p1 : Int32} (hA : ∀ i, R.2 i = true) (h : OI (qGG D cA b (qEx b kS vS xb xl xs)) R n sh Rf I o) (hp : ∀ (r : Int32) (Rf' : Nat → Nat → Option Nat) (I' : Nat → Nat → Int32) (L' : Nat → Nat → Int64), I' (o + 1) 6 = I (o + 1) 6 → OI (qGG D cA b (qEx b kS vS xb xl xs)) R n sh Rf' I' o → (∀ a, o + 207 ≤ a → Rf' a = Rf a ∧ I' a = I a) → post (some (.int r)) (n, sh, Rf', I', L')) : Ev (qGG D cA b (qEx b kS vS xb xl xs)) mOffice_fault 0 (0, 0) 0 (lv_args 0 [.ref o, .int p1]) [] (n, sh, Rf, I, L) post :=
  yo_fault (R := fz1 R I (o + 1) 6 3)  (h.f1 hA) (fun r Rf' I' L' hX e => hp r Rf' I' L' (f1_K hX.2.2.1) (OI.u1 hA h hX) e)
theorem yk_days {p1 : Int32} {p2 : Int32} (hA : ∀ i, R.2 i = true) (h : OI (qGG D cA b (qEx b kS vS xb xl xs)) R n sh Rf I o) (hp : ∀ (r : Int32) (Rf' : Nat → Nat → Option Nat) (I' : Nat → Nat → Int32) (L' : Nat → Nat → Int64), I' (o + 1) 6 = I (o + 1) 6 → OI (qGG D cA b (qEx b kS vS xb xl xs)) R n sh Rf' I' o → (∀ a, o + 207 ≤ a → Rf' a = Rf a ∧ I' a = I a) → post (some (.int r)) (n, sh, Rf', I', L')) : Ev (qGG D cA b (qEx b kS vS xb xl xs)) mOffice_days 1 (0, 0) 0 (lv_args 0 [.ref o, .int p1, .int p2]) [] (n, sh, Rf, I, L) post :=
  yo_days (R := fz1 R I (o + 1) 6 3)  (h.f1 hA) (fun r Rf' I' L' hX e => hp r Rf' I' L' (f1_K hX.2.2.1) (OI.u1 hA h hX) e)
theorem yk_merchant {p1 : Int32} (hA : ∀ i, R.2 i = true) (h : OI (qGG D cA b (qEx b kS vS xb xl xs)) R n sh Rf I o) (hp : ∀ (r : Int32) (Rf' : Nat → Nat → Option Nat) (I' : Nat → Nat → Int32) (L' : Nat → Nat → Int64), I' (o + 1) 6 = I (o + 1) 6 → OI (qGG D cA b (qEx b kS vS xb xl xs)) R n sh Rf' I' o → (∀ a, o + 207 ≤ a → Rf' a = Rf a ∧ I' a = I a) → post (some (.int r)) (n, sh, Rf', I', L')) : Ev (qGG D cA b (qEx b kS vS xb xl xs)) mOffice_merchant 0 (0, 0) 0 (lv_args 0 [.ref o, .int p1]) [] (n, sh, Rf, I, L) post :=
  yo_merchant (R := fz1 R I (o + 1) 6 3) (f1_t hA rfl) (h.f1 hA) (fun r Rf' I' L' hX e => hp r Rf' I' L' (f1_K hX.2.2.1) (OI.u1 hA h hX) e)
theorem yk_costs {p1 : Int32} {p2 : Int32} {p3 : Int32} {p4 : Int32} {p5 : Int32} (hA : ∀ i, R.2 i = true) (h : OI (qGG D cA b (qEx b kS vS xb xl xs)) R n sh Rf I o) (hp : ∀ (r : Int32) (Rf' : Nat → Nat → Option Nat) (I' : Nat → Nat → Int32) (L' : Nat → Nat → Int64), r = aCosts p1 p2 p3 p4 p5 → I' (o + 1) 6 = I (o + 1) 6 → OI (qGG D cA b (qEx b kS vS xb xl xs)) R n sh Rf' I' o → (∀ a, o + 207 ≤ a → Rf' a = Rf a ∧ I' a = I a) → post (some (.int r)) (n, sh, Rf', I', L')) : Ev (qGG D cA b (qEx b kS vS xb xl xs)) mOffice_costs 1 (0, 0) 0 (lv_args 0 [.ref o, .int p1, .int p2, .int p3, .int p4, .int p5]) [] (n, sh, Rf, I, L) post :=
  yo_costs (R := fz1 R I (o + 1) 6 3)  (h.f1 hA) (fun r Rf' I' L' fe hX e => hp r Rf' I' L' fe (f1_K hX.2.2.1) (OI.u1 hA h hX) e)
theorem yk_weather {p1 : Int32} {p2 : Int32} {p3 : Int32} (hA : ∀ i, R.2 i = true) (h : OI (qGG D cA b (qEx b kS vS xb xl xs)) R n sh Rf I o) (hp : ∀ (r : Int32) (Rf' : Nat → Nat → Option Nat) (I' : Nat → Nat → Int32) (L' : Nat → Nat → Int64), I' (o + 1) 6 = I (o + 1) 6 → OI (qGG D cA b (qEx b kS vS xb xl xs)) R n sh Rf' I' o → (∀ a, o + 207 ≤ a → Rf' a = Rf a ∧ I' a = I a) → post (some (.int r)) (n, sh, Rf', I', L')) : Ev (qGG D cA b (qEx b kS vS xb xl xs)) mOffice_weather 2 (0, 0) 0 (lv_args 0 [.ref o, .int p1, .int p2, .int p3]) [] (n, sh, Rf, I, L) post :=
  yo_weather (R := fz1 R I (o + 1) 6 3)  (h.f1 hA) (fun r Rf' I' L' hX e => hp r Rf' I' L' (f1_K hX.2.2.1) (OI.u1 hA h hX) e)
theorem yk_forged {p1 : Int32} {p2 : Int32} (hA : ∀ i, R.2 i = true) (h : OI (qGG D cA b (qEx b kS vS xb xl xs)) R n sh Rf I o) (hp : ∀ (r : Int32) (Rf' : Nat → Nat → Option Nat) (I' : Nat → Nat → Int32) (L' : Nat → Nat → Int64), I' (o + 1) 6 = I (o + 1) 6 → OI (qGG D cA b (qEx b kS vS xb xl xs)) R n sh Rf' I' o → (∀ a, o + 207 ≤ a → Rf' a = Rf a ∧ I' a = I a) → post (some (.int r)) (n, sh, Rf', I', L')) : Ev (qGG D cA b (qEx b kS vS xb xl xs)) mOffice_forged 2 (0, 0) 0 (lv_args 0 [.ref o, .int p1, .int p2]) [] (n, sh, Rf, I, L) post :=
  yo_forged (R := fz1 R I (o + 1) 6 3)  (h.f1 hA) (fun r Rf' I' L' hX e => hp r Rf' I' L' (f1_K hX.2.2.1) (OI.u1 hA h hX) e)
theorem yk_dead {p1 : Int32} {p2 : Int32} {p3 : Int32} (hA : ∀ i, R.2 i = true) (h : OI (qGG D cA b (qEx b kS vS xb xl xs)) R n sh Rf I o) (hp : ∀ (r : Int32) (Rf' : Nat → Nat → Option Nat) (I' : Nat → Nat → Int32) (L' : Nat → Nat → Int64), I' (o + 1) 6 = I (o + 1) 6 → OI (qGG D cA b (qEx b kS vS xb xl xs)) R n sh Rf' I' o → (∀ a, o + 207 ≤ a → Rf' a = Rf a ∧ I' a = I a) → post (some (.int r)) (n, sh, Rf', I', L')) : Ev (qGG D cA b (qEx b kS vS xb xl xs)) mOffice_dead 2 (0, 0) 0 (lv_args 0 [.ref o, .int p1, .int p2, .int p3]) [] (n, sh, Rf, I, L) post :=
  yo_dead (R := fz1 R I (o + 1) 6 3)  (h.f1 hA) (fun r Rf' I' L' hX e => hp r Rf' I' L' (f1_K hX.2.2.1) (OI.u1 hA h hX) e)
theorem yk_untell {p1 : Int32} (hA : ∀ i, R.2 i = true) (h : OI (qGG D cA b (qEx b kS vS xb xl xs)) R n sh Rf I o) (hp : ∀ (r : Int32) (Rf' : Nat → Nat → Option Nat) (I' : Nat → Nat → Int32) (L' : Nat → Nat → Int64), I' (o + 1) 6 = I (o + 1) 6 → OI (qGG D cA b (qEx b kS vS xb xl xs)) R n sh Rf' I' o → (∀ a, o + 207 ≤ a → Rf' a = Rf a ∧ I' a = I a) → post (some (.int r)) (n, sh, Rf', I', L')) : Ev (qGG D cA b (qEx b kS vS xb xl xs)) mOffice_untell 0 (0, 0) 0 (lv_args 0 [.ref o, .int p1]) [] (n, sh, Rf, I, L) post :=
  yo_untell (R := fz1 R I (o + 1) 6 3)  (h.f1 hA) (fun r Rf' I' L' hX e => hp r Rf' I' L' (f1_K hX.2.2.1) (OI.u1 hA h hX) e)
theorem yk_later {p1 : Int32} (hA : ∀ i, R.2 i = true) (h : OI (qGG D cA b (qEx b kS vS xb xl xs)) R n sh Rf I o) (hp : ∀ (r : Int32) (Rf' : Nat → Nat → Option Nat) (I' : Nat → Nat → Int32) (L' : Nat → Nat → Int64), I' (o + 1) 6 = I (o + 1) 6 → OI (qGG D cA b (qEx b kS vS xb xl xs)) R n sh Rf' I' o → (∀ a, o + 207 ≤ a → Rf' a = Rf a ∧ I' a = I a) → post (some (.int r)) (n, sh, Rf', I', L')) : Ev (qGG D cA b (qEx b kS vS xb xl xs)) mOffice_later 0 (0, 0) 0 (lv_args 0 [.ref o, .int p1]) [] (n, sh, Rf, I, L) post :=
  yo_later (R := fz1 R I (o + 1) 6 3) (f1_t hA rfl) (h.f1 hA) (fun r Rf' I' L' hX e => hp r Rf' I' L' (f1_K hX.2.2.1) (OI.u1 hA h hX) e)
theorem yk_run {p1 p2 p3 : Int32} (hA : ∀ i, R.2 i = true) (h : OI (qGG D cA b (qEx b kS vS xb xl xs)) R n sh Rf I o) (hp : ∀ (r : Int32) (Rf' : Nat → Nat → Option Nat) (I' : Nat → Nat → Int32) (L' : Nat → Nat → Int64), I' (o + 1) 6 = I (o + 1) 6 → OI (qGG D cA b (qEx b kS vS xb xl xs)) R n sh Rf' I' o → (∀ a, o + 207 ≤ a → Rf' a = Rf a ∧ I' a = I a) → post (some (.int r)) (n, sh, Rf', I', L')) : Ev (qGG D cA b (qEx b kS vS xb xl xs)) mOffice_run 7 (0, 0) 0 (lv_args 0 [.ref o, .int p1, .int p2, .int p3]) [] (n, sh, Rf, I, L) post :=
  yo_run (R := fz1 R I (o + 1) 6 3)  (h.f1 hA) (fun r Rf' I' L' hX e => hp r Rf' I' L' (f1_K hX.2.2.1) (OI.u1 hA h hX) e)
theorem yk_ran {p1 : Int32} (hA : ∀ i, R.2 i = true) (h : OI (qGG D cA b (qEx b kS vS xb xl xs)) R n sh Rf I o) (hp : ∀ (r : Int64) (Rf' : Nat → Nat → Option Nat) (I' : Nat → Nat → Int32) (L' : Nat → Nat → Int64), I' (o + 1) 6 = I (o + 1) 6 → OI (qGG D cA b (qEx b kS vS xb xl xs)) R n sh Rf' I' o → (∀ a, o + 207 ≤ a → Rf' a = Rf a ∧ I' a = I a) → post (some (.long r)) (n, sh, Rf', I', L')) : Ev (qGG D cA b (qEx b kS vS xb xl xs)) mOffice_ran 0 (0, 0) 0 (lv_args 0 [.ref o, .int p1]) [] (n, sh, Rf, I, L) post :=
  yo_ran (R := fz1 R I (o + 1) 6 3)  (h.f1 hA) (fun r Rf' I' L' hX e => hp r Rf' I' L' (f1_K hX.2.2.1) (OI.u1 hA h hX) e)
theorem yk_fort {p1 : Int32} {p2 : Int32} {p3 : Int32} (hA : ∀ i, R.2 i = true) (h : OI (qGG D cA b (qEx b kS vS xb xl xs)) R n sh Rf I o) (hp : ∀ (r : Int32) (Rf' : Nat → Nat → Option Nat) (I' : Nat → Nat → Int32) (L' : Nat → Nat → Int64), I' (o + 1) 6 = I (o + 1) 6 → OI (qGG D cA b (qEx b kS vS xb xl xs)) R n sh Rf' I' o → (∀ a, o + 207 ≤ a → Rf' a = Rf a ∧ I' a = I a) → post (some (.int r)) (n, sh, Rf', I', L')) : Ev (qGG D cA b (qEx b kS vS xb xl xs)) mOffice_fort 1 (0, 0) 0 (lv_args 0 [.ref o, .int p1, .int p2, .int p3]) [] (n, sh, Rf, I, L) post :=
  yo_fort (R := fz1 R I (o + 1) 6 3)  (h.f1 hA) (fun r Rf' I' L' hX e => hp r Rf' I' L' (f1_K hX.2.2.1) (OI.u1 hA h hX) e)
theorem yk_pan {p1 : Int32} {p2 : Int32} {p3 : Int32} (hA : ∀ i, R.2 i = true) (h : OI (qGG D cA b (qEx b kS vS xb xl xs)) R n sh Rf I o) (hp : ∀ (r : Int32) (Rf' : Nat → Nat → Option Nat) (I' : Nat → Nat → Int32) (L' : Nat → Nat → Int64), I' (o + 1) 6 = I (o + 1) 6 → OI (qGG D cA b (qEx b kS vS xb xl xs)) R n sh Rf' I' o → (∀ a, o + 207 ≤ a → Rf' a = Rf a ∧ I' a = I a) → post (some (.int r)) (n, sh, Rf', I', L')) : Ev (qGG D cA b (qEx b kS vS xb xl xs)) mOffice_pan 1 (0, 0) 0 (lv_args 0 [.ref o, .int p1, .int p2, .int p3]) [] (n, sh, Rf, I, L) post :=
  yo_pan (R := fz1 R I (o + 1) 6 3)  (h.f1 hA) (fun r Rf' I' L' hX e => hp r Rf' I' L' (f1_K hX.2.2.1) (OI.u1 hA h hX) e)
theorem yk_town {p1 : Int32} {p2 : Int32} {p3 : Int32} (hA : ∀ i, R.2 i = true) (h : OI (qGG D cA b (qEx b kS vS xb xl xs)) R n sh Rf I o) (hp : ∀ (r : Int32) (Rf' : Nat → Nat → Option Nat) (I' : Nat → Nat → Int32) (L' : Nat → Nat → Int64), I' (o + 1) 6 = I (o + 1) 6 → OI (qGG D cA b (qEx b kS vS xb xl xs)) R n sh Rf' I' o → (∀ a, o + 207 ≤ a → Rf' a = Rf a ∧ I' a = I a) → post (some (.int r)) (n, sh, Rf', I', L')) : Ev (qGG D cA b (qEx b kS vS xb xl xs)) mOffice_town 1 (0, 0) 0 (lv_args 0 [.ref o, .int p1, .int p2, .int p3]) [] (n, sh, Rf, I, L) post :=
  yo_town (R := fz1 R I (o + 1) 6 3)  (h.f1 hA) (fun r Rf' I' L' hX e => hp r Rf' I' L' (f1_K hX.2.2.1) (OI.u1 hA h hX) e)
theorem yk_book {p1 : Int32} {p2 : Int32} {p3 : Int32} (hA : ∀ i, R.2 i = true) (h : OI (qGG D cA b (qEx b kS vS xb xl xs)) R n sh Rf I o) (hp : ∀ (r : Int64) (Rf' : Nat → Nat → Option Nat) (I' : Nat → Nat → Int32) (L' : Nat → Nat → Int64), I' (o + 1) 6 = I (o + 1) 6 → OI (qGG D cA b (qEx b kS vS xb xl xs)) R n sh Rf' I' o → (∀ a, o + 207 ≤ a → Rf' a = Rf a ∧ I' a = I a) → post (some (.long r)) (n, sh, Rf', I', L')) : Ev (qGG D cA b (qEx b kS vS xb xl xs)) mOffice_book 1 (0, 0) 0 (lv_args 0 [.ref o, .int p1, .int p2, .int p3]) [] (n, sh, Rf, I, L) post :=
  yo_book (R := fz1 R I (o + 1) 6 3)  (h.f1 hA) (fun r Rf' I' L' hX e => hp r Rf' I' L' (f1_K hX.2.2.1) (OI.u1 hA h hX) e)
theorem yk_paper {p1 : Int32} {p2 : Int32} (hA : ∀ i, R.2 i = true) (h : OI (qGG D cA b (qEx b kS vS xb xl xs)) R n sh Rf I o) (hp : ∀ (r : Int32) (Rf' : Nat → Nat → Option Nat) (I' : Nat → Nat → Int32) (L' : Nat → Nat → Int64), I' (o + 1) 6 = I (o + 1) 6 → OI (qGG D cA b (qEx b kS vS xb xl xs)) R n sh Rf' I' o → (∀ a, o + 207 ≤ a → Rf' a = Rf a ∧ I' a = I a) → post (some (.int r)) (n, sh, Rf', I', L')) : Ev (qGG D cA b (qEx b kS vS xb xl xs)) mOffice_paper 1 (0, 0) 0 (lv_args 0 [.ref o, .int p1, .int p2]) [] (n, sh, Rf, I, L) post :=
  yo_paper (R := fz1 R I (o + 1) 6 3)  (h.f1 hA) (fun r Rf' I' L' hX e => hp r Rf' I' L' (f1_K hX.2.2.1) (OI.u1 hA h hX) e)
theorem yk_way {p1 : Int32} {p2 : Int32} (hA : ∀ i, R.2 i = true) (h : OI (qGG D cA b (qEx b kS vS xb xl xs)) R n sh Rf I o) (hp : ∀ (r : Int64) (Rf' : Nat → Nat → Option Nat) (I' : Nat → Nat → Int32) (L' : Nat → Nat → Int64), I' (o + 1) 6 = I (o + 1) 6 → OI (qGG D cA b (qEx b kS vS xb xl xs)) R n sh Rf' I' o → (∀ a, o + 207 ≤ a → Rf' a = Rf a ∧ I' a = I a) → post (some (.long r)) (n, sh, Rf', I', L')) : Ev (qGG D cA b (qEx b kS vS xb xl xs)) mOffice_way 5 (0, 0) 0 (lv_args 0 [.ref o, .int p1, .int p2]) [] (n, sh, Rf, I, L) post :=
  yo_way (R := fz1 R I (o + 1) 6 3)  (h.f1 hA) (fun r Rf' I' L' hX e => hp r Rf' I' L' (f1_K hX.2.2.1) (OI.u1 hA h hX) e)
theorem yk_worth {p1 : Int32} (hA : ∀ i, R.2 i = true) (h : OI (qGG D cA b (qEx b kS vS xb xl xs)) R n sh Rf I o) (hp : ∀ (r : Int64) (Rf' : Nat → Nat → Option Nat) (I' : Nat → Nat → Int32) (L' : Nat → Nat → Int64), I' (o + 1) 6 = I (o + 1) 6 → OI (qGG D cA b (qEx b kS vS xb xl xs)) R n sh Rf' I' o → (∀ a, o + 207 ≤ a → Rf' a = Rf a ∧ I' a = I a) → post (some (.long r)) (n, sh, Rf', I', L')) : Ev (qGG D cA b (qEx b kS vS xb xl xs)) mOffice_worth 4 (0, 0) 0 (lv_args 0 [.ref o, .int p1]) [] (n, sh, Rf, I, L) post :=
  yo_worth (R := fz1 R I (o + 1) 6 3)  (h.f1 hA) (fun r Rf' I' L' hX e => hp r Rf' I' L' (f1_K hX.2.2.1) (OI.u1 hA h hX) e)
theorem yk_judge {p1 p2 p3 p4 : Int32} (hA : ∀ i, R.2 i = true) (h : OI (qGG D cA b (qEx b kS vS xb xl xs)) R n sh Rf I o) (hp : ∀ (r : Int32) (Rf' : Nat → Nat → Option Nat) (I' : Nat → Nat → Int32) (L' : Nat → Nat → Int64), I' (o + 1) 6 = I (o + 1) 6 → OI (qGG D cA b (qEx b kS vS xb xl xs)) R n sh Rf' I' o → (∀ a, o + 207 ≤ a → Rf' a = Rf a ∧ I' a = I a) → post (some (.int r)) (n, sh, Rf', I', L')) : Ev (qGG D cA b (qEx b kS vS xb xl xs)) mOffice_judge 7 (0, 0) 0 (lv_args 0 [.ref o, .int p1, .int p2, .int p3, .int p4]) [] (n, sh, Rf, I, L) post :=
  yo_judge (R := fz1 R I (o + 1) 6 3)  (h.f1 hA) (fun r Rf' I' L' hX e => hp r Rf' I' L' (f1_K hX.2.2.1) (OI.u1 hA h hX) e)
theorem yk_about {p1 : Int32} (hA : ∀ i, R.2 i = true) (h : OI (qGG D cA b (qEx b kS vS xb xl xs)) R n sh Rf I o) (hp : ∀ (r : Int32) (Rf' : Nat → Nat → Option Nat) (I' : Nat → Nat → Int32) (L' : Nat → Nat → Int64), I' (o + 1) 6 = I (o + 1) 6 → OI (qGG D cA b (qEx b kS vS xb xl xs)) R n sh Rf' I' o → (∀ a, o + 207 ≤ a → Rf' a = Rf a ∧ I' a = I a) → post (some (.int r)) (n, sh, Rf', I', L')) : Ev (qGG D cA b (qEx b kS vS xb xl xs)) mOffice_about 1 (0, 0) 0 (lv_args 0 [.ref o, .int p1]) [] (n, sh, Rf, I, L) post :=
  yo_about (R := fz1 R I (o + 1) 6 3)  (h.f1 hA) (fun r Rf' I' L' hX e => hp r Rf' I' L' (f1_K hX.2.2.1) (OI.u1 hA h hX) e)
end YW
