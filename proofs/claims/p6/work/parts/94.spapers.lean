/-! Safety of Facts and Papers: by program (spec.py). -/
set_option maxHeartbeats 4000000 in
set_option maxRecDepth 20000 in
theorem y_Facts_isKnown {D : va_G} {cA : FieldType → ClassId} {b : Nat} {E : State → Prop} {R : qRg} {o n : Nat} {sh : Nat → qC} {Rf : Nat → Nat → Option Nat} {I0 : Nat → Nat → Int32} {L0 : Nat → Nat → Int64} {post : Option Value → qS → Prop} {p1 : Int32} {p2 : Int32} {p3 : Int32} (hok : q_ok (qGG D cA b E)) (hw : WfFacts (qGG D cA b E) n sh Rf o) (ra : RAFacts R o) (hq0 : (0 : Int) ≤ p1.toInt ∧ p1.toInt ≤ 39) (hR : RI R I0) (hp : ∀ (r : Int32) , (Bz r) → (Im (r.toInt ≠ 0) ((I0 (o + 1) p1.toNatClampNeg).toInt = p2.toInt)) → post (some (.int r)) (n, sh, Rf, I0, L0)) : Ev (qGG D cA b E) mFacts_isKnown 0 (0, 0) 0 (lv_args 0 [.ref o, .int p1, .int p2, .int p3]) [] (n, sh, Rf, I0, L0) post := by
  refine sFacts_isKnown_0 o n sh Rf I0 L0 post p1 p2 p3 hok hw ?_
  unfold fFacts_isKnown_0
  refine ⟨tIn (by omega) (by omega), ?_⟩
  refine ⟨fun c_1 => ?_, fun c_1 => ?_⟩
  · have d_2 := iNe c_1
    have l_3 : (0 : Int32).toInt = 0 := rfl
    exact (hp _ (Or.inl rfl) (by intro _; omega))
  · have d_4 := iEq c_1
    refine ⟨tIn (by omega) (by omega), ?_⟩
    refine ⟨fun c_5 => ?_, fun c_5 => ?_⟩
    · have d_6 := iLt c_5
      have l_7 : (0 : Int32).toInt = 0 := rfl
      exact (hp _ (Or.inl rfl) (by intro _; omega))
    · have d_8 := iNlt c_5
      refine ⟨tIn (by omega) (by omega), ?_⟩
      have l_9 : (-1 : Int32).toInt = -1 := rfl
      refine ⟨fun c_10 => ?_, fun c_10 => ?_⟩
      · have d_11 := iEq c_10
        unfold fFacts_isKnown_40
        have l_12 : (1 : Int32).toInt = 1 := rfl
        exact (hp _ (Or.inr rfl) (by intro _; omega))
      · have d_13 := iNe c_10
        refine ⟨tIn (by omega) (by omega), ?_⟩
        refine ⟨fun c_14 => ?_, fun c_14 => ?_⟩
        · have d_15 := iLe c_14
          have l_16 : (0 : Int32).toInt = 0 := rfl
          exact (hp _ (Or.inl rfl) (by intro _; omega))
        · have d_17 := iNle c_14
          unfold fFacts_isKnown_40
          have l_18 : (1 : Int32).toInt = 1 := rfl
          exact (hp _ (Or.inr rfl) (by intro _; omega))
set_option maxHeartbeats 4000000 in
set_option maxRecDepth 20000 in
theorem yFacts_saltByWeather_6 {D : va_G} {cA : FieldType → ClassId} {b : Nat} {E : State → Prop} {R : qRg} {o n : Nat} {sh : Nat → qC} {Rf : Nat → Nat → Option Nat} {I0 : Nat → Nat → Int32} {L0 : Nat → Nat → Int64} {post : Option Value → qS → Prop} {p1 : Int32} {p2 : Int32} {p3 : Int32} {p4 : Int32} (hok : q_ok (qGG D cA b E)) (hw : WfFacts (qGG D cA b E) n sh Rf o) (ra : RAFacts R o) (hR : RI R I0) (hp : ∀ (r : Int32) , post (some (.int r)) (n, sh, Rf, I0, L0)) : ∀ (k : Nat) {x1 : Int32} {x2 : Int32} {x3 : Int32} {x4 : Int32} {x5 : Int32} {x6 : Int32} , ((0 : Int) ≤ x6.toInt ∧ x6.toInt ≤ 40) → (40 - x6.toInt).toNat < k → Ev (qGG D cA b E) mFacts_saltByWeather 1 (0, 0) 6 [(0, .ref o), (1, .int x1), (2, .int x2), (3, .int x3), (4, .int x4), (5, .int x5), (6, .int x6)] [] (n, sh, Rf, I0, L0) post := by
  intro k
  induction k with
  | zero =>
    intro x1 x2 x3 x4 x5 x6 hi0 hm
    exact absurd hm (Nat.not_lt_zero _)
  | succ k ih =>
    intro x1 x2 x3 x4 x5 x6 hi0 hm
    refine sFacts_saltByWeather_6 o n sh Rf I0 L0 post x1 x2 x3 x4 x5 x6 hok hw ?_
    unfold fFacts_saltByWeather_6
    have g_1 : (0 : Int) ≤ (I0 o 6).toInt ∧ (I0 o 6).toInt ≤ 40 := hR.at0 ra 6 (by decide)
    refine ⟨fun c_2 => ?_, fun c_2 => ?_⟩
    · have d_3 := iLe c_2
      exact (hp _ )
    · have d_4 := iNle c_2
      refine ⟨tIn (by omega) (by omega), ?_⟩
      refine ⟨fun c_5 => ?_, fun c_5 => ?_⟩
      · have d_6 := iNe c_5
        unfold fFacts_saltByWeather_78
        have a_8 : (x6 + Int32.ofInt 1).toInt = x6.toInt + (1) := tIc (by omega) (by omega) (by decide) (by decide)
        generalize ez_7 : (x6 + Int32.ofInt 1) = z_7 at a_8 ⊢
        exact ih (by first | omega | (intro h; omega) | exact Or.inl rfl | exact Or.inr rfl) (by omega)
      · have d_9 := iEq c_5
        refine ⟨tIn (by omega) (by omega), ?_⟩
        refine ⟨fun c_10 => ?_, fun c_10 => ?_⟩
        · have d_11 := iNe c_10
          unfold fFacts_saltByWeather_78
          have a_13 : (x6 + Int32.ofInt 1).toInt = x6.toInt + (1) := tIc (by omega) (by omega) (by decide) (by decide)
          generalize ez_12 : (x6 + Int32.ofInt 1) = z_12 at a_13 ⊢
          exact ih (by first | omega | (intro h; omega) | exact Or.inl rfl | exact Or.inr rfl) (by omega)
        · have d_14 := iEq c_10
          have l_15 : (0 : Int32).toInt = 0 := rfl
          refine y_Facts_isKnown hok hw ra (by first | omega | (intro h; omega) | exact Or.inl rfl | exact Or.inr rfl) hR (fun r_16 u_17 u_18 => ⟨r_16, I0, L0, rfl, rfl, ?_⟩)
          have b_19 : 0 ≤ r_16.toInt ∧ r_16.toInt ≤ 1 := u_17.rg
          refine ⟨fun c_20 => ?_, fun c_20 => ?_⟩
          · have d_21 := iEq c_20
            unfold fFacts_saltByWeather_78
            have a_23 : (x6 + Int32.ofInt 1).toInt = x6.toInt + (1) := tIc (by omega) (by omega) (by decide) (by decide)
            generalize ez_22 : (x6 + Int32.ofInt 1) = z_22 at a_23 ⊢
            exact ih (by first | omega | (intro h; omega) | exact Or.inl rfl | exact Or.inr rfl) (by omega)
          · have d_24 := iNe c_20
            refine ⟨tIn (by omega) (by omega), ?_⟩
            refine fun y_25 e_26 => ?_
            have l_27 : (999999 : Int32).toInt = 999999 := rfl
            unfold fFacts_saltByWeather_78
            have a_29 : (x6 + Int32.ofInt 1).toInt = x6.toInt + (1) := tIc (by omega) (by omega) (by decide) (by decide)
            generalize ez_28 : (x6 + Int32.ofInt 1) = z_28 at a_29 ⊢
            exact ih (by first | omega | (intro h; omega) | exact Or.inl rfl | exact Or.inr rfl) (by omega)
set_option maxHeartbeats 4000000 in
set_option maxRecDepth 20000 in
theorem y_Facts_saltByWeather {D : va_G} {cA : FieldType → ClassId} {b : Nat} {E : State → Prop} {R : qRg} {o n : Nat} {sh : Nat → qC} {Rf : Nat → Nat → Option Nat} {I0 : Nat → Nat → Int32} {L0 : Nat → Nat → Int64} {post : Option Value → qS → Prop} {p1 : Int32} {p2 : Int32} {p3 : Int32} {p4 : Int32} (hok : q_ok (qGG D cA b E)) (hw : WfFacts (qGG D cA b E) n sh Rf o) (ra : RAFacts R o) (hR : RI R I0) (hp : ∀ (r : Int32) , post (some (.int r)) (n, sh, Rf, I0, L0)) : Ev (qGG D cA b E) mFacts_saltByWeather 1 (0, 0) 0 (lv_args 0 [.ref o, .int p1, .int p2, .int p3, .int p4]) [] (n, sh, Rf, I0, L0) post := by
  refine sFacts_saltByWeather_0 o n sh Rf I0 L0 post p1 p2 p3 p4 hok hw ?_
  unfold fFacts_saltByWeather_0
  have l_30 : (0 : Int32).toInt = 0 := rfl
  exact yFacts_saltByWeather_6 (I0 := I0) (L0 := L0) (p1 := p1) (p2 := p2) (p3 := p3) (p4 := p4) hok hw ra hR hp  _ (by first | omega | (intro h; omega) | exact Or.inl rfl | exact Or.inr rfl) (Nat.lt_succ_self _)
set_option maxHeartbeats 4000000 in
set_option maxRecDepth 20000 in
theorem yPapers_start_34 {D : va_G} {cA : FieldType → ClassId} {b : Nat} {E : State → Prop} {R : qRg} {o n : Nat} {sh : Nat → qC} {Rf : Nat → Nat → Option Nat} {I0 : Nat → Nat → Int32} {L0 : Nat → Nat → Int64} {post : Option Value → qS → Prop} {x1 : Nat} {p2 : Int32} (hok : q_ok (qGG D cA b E)) (hw : WfPapers (qGG D cA b E) n sh Rf o) (ra : RAPapers R o) (hw1 : WfFacts (qGG D cA b E) n sh Rf x1) (ra1 : RAFacts R x1) (hp : ∀ (I' : Nat → Nat → Int32) (L' : Nat → Nat → Int64), RI R I' → Fm (fun c => (o ≤ c ∧ c < o + 13)) I0 I' → ((I' o 13).toInt ≤ (I' o 12).toInt) → post none (n, sh, Rf, I', L')) : ∀ (k : Nat) {x2 : Int32} {x3 : Int32} {I : Nat → Nat → Int32} {L : Nat → Nat → Int64}, RI R I → Fm (fun c => (o ≤ c ∧ c < o + 13)) I0 I → ((0 : Int) ≤ x3.toInt ∧ x3.toInt ≤ 40) → ((I o 13).toInt ≤ (I o 12).toInt) → (40 - x3.toInt).toNat < k → Ev (qGG D cA b E) mPapers_start 1 (0, 0) 34 [(0, .ref o), (1, .ref x1), (2, .int x2), (3, .int x3)] [] (n, sh, Rf, I, L) post := by
  intro k
  induction k with
  | zero =>
    intro x2 x3 I L hR hf hi0 hi1 hm
    exact absurd hm (Nat.not_lt_zero _)
  | succ k ih =>
    intro x2 x3 I L hR hf hi0 hi1 hm
    have g_1 : (0 : Int) ≤ (I o 12).toInt ∧ (I o 12).toInt ≤ 1440 := hR.at0 ra 12 (by decide)
    have g_2 : (0 : Int) ≤ (I o 13).toInt ∧ (I o 13).toInt ≤ 1440 := hR.at0 ra 13 (by decide)
    refine sPapers_start_34 o n sh Rf I L post x1 x2 x3 hok hw hw1 ?_
    unfold fPapers_start_34
    have g_3 : (0 : Int) ≤ (I x1 6).toInt ∧ (I x1 6).toInt ≤ 40 := hR.at0 ra1 6 (by decide)
    refine ⟨fun c_4 => ?_, fun c_4 => ?_⟩
    · have d_5 := iLe c_4
      exact (hp _ _ hR hf (by first | omega | (intro h; omega) | exact Or.inl rfl | exact Or.inr rfl))
    · have d_6 := iNle c_4
      refine ⟨tIn (by omega) (by omega), ?_⟩
      have l_7 : (1 : Int32).toInt = 1 := rfl
      refine y_Facts_isKnown hok hw1 ra1 (by first | omega | (intro h; omega) | exact Or.inl rfl | exact Or.inr rfl) hR (fun r_8 u_9 u_10 => ⟨r_8, I, L, rfl, rfl, ?_⟩)
      have b_11 : 0 ≤ r_8.toInt ∧ r_8.toInt ≤ 1 := u_9.rg
      have l_12 : (0 : Int32).toInt = 0 := rfl
      refine ⟨fun c_13 => ?_, fun c_13 => ?_⟩
      · have d_14 := iEq c_13
        unfold fPapers_start_96
        have a_16 : (x3 + Int32.ofInt 1).toInt = x3.toInt + (1) := tIc (by omega) (by omega) (by decide) (by decide)
        generalize ez_15 : (x3 + Int32.ofInt 1) = z_15 at a_16 ⊢
        exact ih hR hf (by first | omega | (intro h; omega) | exact Or.inl rfl | exact Or.inr rfl) (by first | omega | (intro h; omega) | exact Or.inl rfl | exact Or.inr rfl) (by omega)
      · have d_17 := iNe c_13
        refine ⟨fun c_18 => ?_, fun c_18 => ?_⟩
        · have d_19 := iLt c_18
          unfold fPapers_start_96
          have a_21 : (x3 + Int32.ofInt 1).toInt = x3.toInt + (1) := tIc (by omega) (by omega) (by decide) (by decide)
          generalize ez_20 : (x3 + Int32.ofInt 1) = z_20 at a_21 ⊢
          exact ih hR hf (by first | omega | (intro h; omega) | exact Or.inl rfl | exact Or.inr rfl) (by first | omega | (intro h; omega) | exact Or.inl rfl | exact Or.inr rfl) (by omega)
        · have d_22 := iNlt c_18
          have l_23 : (1440 : Int32).toInt = 1440 := rfl
          refine ⟨fun c_24 => ?_, fun c_24 => ?_⟩
          · have d_25 := iLe c_24
            unfold fPapers_start_96
            have a_27 : (x3 + Int32.ofInt 1).toInt = x3.toInt + (1) := tIc (by omega) (by omega) (by decide) (by decide)
            generalize ez_26 : (x3 + Int32.ofInt 1) = z_26 at a_27 ⊢
            exact ih hR hf (by first | omega | (intro h; omega) | exact Or.inl rfl | exact Or.inr rfl) (by first | omega | (intro h; omega) | exact Or.inl rfl | exact Or.inr rfl) (by omega)
          · have d_28 := iNle c_24
            refine ⟨tIn (by omega) (by omega), ?_⟩
            refine ⟨tIn (by omega) (by omega), ?_⟩
            refine fun y_29 e_30 => ?_
            have m_31 := tMin e_30
            refine ⟨tIn (by omega) (by omega), fun I_32 e_33 => ?_⟩
            have hR_34 : RI R I_32 := hR.up ra 10 (by decide) (Or.inl rfl) e_33 (i_lo _) (i_hi _)
            have hf_35 : Fm (fun c => (o ≤ c ∧ c < o + 13)) I0 I_32 := hf.set (by first | rfl | omega | (dsimp only; omega)) e_33
            have t_36 : (I_32 o 12).toInt = (I o 12).toInt := by rw [← e_33, q_u_ne (by omega)]
            have t_37 : (I_32 o 13).toInt = (I o 13).toInt := by rw [← e_33, q_u_ne (by omega)]
            have t_38 : (I_32 x1 6).toInt = (I x1 6).toInt := by rw [← e_33, q_u_ne (sh_ne_a (hw1).1.2.2 (waPapers_9 (I := I0) (L := L0) hw).2.2)]
            unfold fPapers_start_96
            have a_40 : (x3 + Int32.ofInt 1).toInt = x3.toInt + (1) := tIc (by omega) (by omega) (by decide) (by decide)
            generalize ez_39 : (x3 + Int32.ofInt 1) = z_39 at a_40 ⊢
            exact ih hR_34 hf_35 (by first | omega | (intro h; omega) | exact Or.inl rfl | exact Or.inr rfl) (by first | omega | (intro h; omega) | exact Or.inl rfl | exact Or.inr rfl) (by omega)
set_option maxHeartbeats 4000000 in
set_option maxRecDepth 20000 in
theorem y_Papers_start {D : va_G} {cA : FieldType → ClassId} {b : Nat} {E : State → Prop} {R : qRg} {o n : Nat} {sh : Nat → qC} {Rf : Nat → Nat → Option Nat} {I0 : Nat → Nat → Int32} {L0 : Nat → Nat → Int64} {post : Option Value → qS → Prop} {x1 : Nat} {p2 : Int32} (hok : q_ok (qGG D cA b E)) (hw : WfPapers (qGG D cA b E) n sh Rf o) (ra : RAPapers R o) (hw1 : WfFacts (qGG D cA b E) n sh Rf x1) (ra1 : RAFacts R x1) (hR : RI R I0) (hp : ∀ (I' : Nat → Nat → Int32) (L' : Nat → Nat → Int64), RI R I' → Fm (fun c => (o ≤ c ∧ c < o + 13)) I0 I' → ((I' o 13).toInt ≤ (I' o 12).toInt) → post none (n, sh, Rf, I', L')) : Ev (qGG D cA b E) mPapers_start 1 (0, 0) 0 (lv_args 0 [.ref o, .ref x1, .int p2]) [] (n, sh, Rf, I0, L0) post := by
  have hf : Fm (fun c => (o ≤ c ∧ c < o + 13)) I0 I0 := Fm.rf
  have g_41 : (0 : Int) ≤ (I0 o 12).toInt ∧ (I0 o 12).toInt ≤ 1440 := hR.at0 ra 12 (by decide)
  have g_42 : (0 : Int) ≤ (I0 o 13).toInt ∧ (I0 o 13).toInt ≤ 1440 := hR.at0 ra 13 (by decide)
  refine sPapers_start_0 o n sh Rf I0 L0 post x1 p2 hok hw hw1 ?_
  unfold fPapers_start_0
  have l_43 : (0 : Int32).toInt = 0 := rfl
  refine fun I_44 e_45 => ?_
  have hR_46 : RI R I_44 := hR.up0 (k := 12) ra (by decide) (Or.inl rfl) e_45 (show (0 : Int) ≤ (0 : Int32).toInt by omega) (show (0 : Int32).toInt ≤ (1440 : Int) by omega)
  have hf_47 : Fm (fun c => (o ≤ c ∧ c < o + 13)) I0 I_44 := hf.set (by first | rfl | omega | (dsimp only; omega)) e_45
  have t_48 : (I_44 o 12).toInt = (0 : Int32).toInt := by rw [← e_45, q_u_at]
  have t_49 : (I_44 o 13).toInt = (I0 o 13).toInt := by rw [← e_45, q_u_k (by decide)]
  refine fun I_50 e_51 => ?_
  have hR_52 : RI R I_50 := hR_46.up0 (k := 13) ra (by decide) (Or.inl rfl) e_51 (show (0 : Int) ≤ (0 : Int32).toInt by omega) (show (0 : Int32).toInt ≤ (1440 : Int) by omega)
  have hf_53 : Fm (fun c => (o ≤ c ∧ c < o + 13)) I0 I_50 := hf_47.set (by first | rfl | omega | (dsimp only; omega)) e_51
  have t_54 : (I_50 o 12).toInt = (I_44 o 12).toInt := by rw [← e_51, q_u_k (by decide)]
  have t_55 : (I_50 o 13).toInt = (0 : Int32).toInt := by rw [← e_51, q_u_at]
  refine fun I_56 e_57 => ?_
  have hR_58 : RI R I_56 := hR_52.up0 (k := 14) ra (by decide) (Or.inl rfl) e_57 (i_lo _) (i_hi _)
  have hf_59 : Fm (fun c => (o ≤ c ∧ c < o + 13)) I0 I_56 := hf_53.set (by first | rfl | omega | (dsimp only; omega)) e_57
  have t_60 : (I_56 o 12).toInt = (I_50 o 12).toInt := by rw [← e_57, q_u_k (by decide)]
  have t_61 : (I_56 o 13).toInt = (I_50 o 13).toInt := by rw [← e_57, q_u_k (by decide)]
  refine y_fill hok (fun _ _ => waPapers_11 hw) (by omega) (fun I_62 ne_63 _ eq_64 => ⟨I_62, L0, rfl, rfl, ?_⟩)
  have hR_65 : RI R I_62 := hR_58.row ra 12 (by decide) (fun _ => rfl) (fun _ => ⟨(i_lo _), (i_hi _)⟩) ne_63 eq_64
  have hf_66 : Fm (fun c => (o ≤ c ∧ c < o + 13)) I0 I_62 := hf_59.call (M' := fun c => c = (o + 12)) ne_63 (fun c hc => by first | exact hc | (dsimp only at hc ⊢; omega) | omega)
  have t_67 : (I_62 o 12).toInt = (I_56 o 12).toInt := by rw [ne_63 o (by omega)]
  have t_68 : (I_62 o 13).toInt = (I_56 o 13).toInt := by rw [ne_63 o (by omega)]
  have l_69 : (1000000 : Int32).toInt = 1000000 := rfl
  refine y_fill hok (fun _ _ => waPapers_9 hw) (by omega) (fun I_70 ne_71 _ eq_72 => ⟨I_70, L0, rfl, rfl, ?_⟩)
  have hR_73 : RI R I_70 := hR_65.row ra 10 (by decide) (fun _ => rfl) (fun _ => ⟨(i_lo _), (i_hi _)⟩) ne_71 eq_72
  have hf_74 : Fm (fun c => (o ≤ c ∧ c < o + 13)) I0 I_70 := hf_66.call (M' := fun c => c = (o + 10)) ne_71 (fun c hc => by first | exact hc | (dsimp only at hc ⊢; omega) | omega)
  have t_75 : (I_70 o 12).toInt = (I_62 o 12).toInt := by rw [ne_71 o (by omega)]
  have t_76 : (I_70 o 13).toInt = (I_62 o 13).toInt := by rw [ne_71 o (by omega)]
  exact yPapers_start_34 (I0 := I0) (L0 := L0) (p2 := p2) hok hw ra hw1 ra1 hp  _ hR_73 hf_74 (by first | omega | (intro h; omega) | exact Or.inl rfl | exact Or.inr rfl) (by first | omega | (intro h; omega) | exact Or.inl rfl | exact Or.inr rfl) (Nat.lt_succ_self _)
set_option maxHeartbeats 4000000 in
set_option maxRecDepth 20000 in
theorem y_Papers_give {D : va_G} {cA : FieldType → ClassId} {b : Nat} {E : State → Prop} {R : qRg} {o n : Nat} {sh : Nat → qC} {Rf : Nat → Nat → Option Nat} {I0 : Nat → Nat → Int32} {L0 : Nat → Nat → Int64} {post : Option Value → qS → Prop} {p1 : Int32} {p2 : Int32} {p3 : Int32} {p4 : Int32} {p5 : Int32} {p6 : Int32} (hok : q_ok (qGG D cA b E)) (hw : WfPapers (qGG D cA b E) n sh Rf o) (ra : RAPapers R o) (hq0 : (-1 : Int) ≤ p1.toInt ∧ p1.toInt ≤ 5) (hq1 : (0 : Int) ≤ p2.toInt ∧ p2.toInt ≤ 2) (hq2 : (I0 o 13).toInt ≤ (I0 o 12).toInt) (hR : RI R I0) (hp : ∀ (I' : Nat → Nat → Int32) (L' : Nat → Nat → Int64), RI R I' → Fm (fun c => (o ≤ c ∧ c < o + 13)) I0 I' → ((I' o 13).toInt ≤ (I' o 12).toInt) → post none (n, sh, Rf, I', L')) : Ev (qGG D cA b E) mPapers_give 0 (0, 0) 0 (lv_args 0 [.ref o, .int p1, .int p2, .int p3, .int p4, .int p5, .int p6]) [] (n, sh, Rf, I0, L0) post := by
  have hf : Fm (fun c => (o ≤ c ∧ c < o + 13)) I0 I0 := Fm.rf
  have g_1 : (0 : Int) ≤ (I0 o 12).toInt ∧ (I0 o 12).toInt ≤ 1440 := hR.at0 ra 12 (by decide)
  have g_2 : (0 : Int) ≤ (I0 o 13).toInt ∧ (I0 o 13).toInt ≤ 1440 := hR.at0 ra 13 (by decide)
  refine sPapers_give_0 o n sh Rf I0 L0 post p1 p2 p3 p4 p5 p6 hok hw ?_
  unfold fPapers_give_0
  have g_3 : (0 : Int) ≤ (I0 o 12).toInt ∧ (I0 o 12).toInt ≤ 1440 := hR.at0 ra 12 (by decide)
  have l_4 : (1440 : Int32).toInt = 1440 := rfl
  refine ⟨fun c_5 => ?_, fun c_5 => ?_⟩
  · have d_6 := iLt c_5
    have g_7 : (0 : Int) ≤ (I0 o 12).toInt ∧ (I0 o 12).toInt ≤ 1440 := hR.at0 ra 12 (by decide)
    have g_8 : (0 : Int) ≤ (I0 o 12).toInt ∧ (I0 o 12).toInt ≤ 1440 := hR.at0 ra 12 (by decide)
    have l_9 : (1 : Int32).toInt = 1 := rfl
    have a_10 : ((I0 o 12) + 1).toInt = (I0 o 12).toInt + (1 : Int32).toInt := tAdd (by omega) (by omega)
    refine fun I_11 e_12 => ?_
    have hR_13 : RI R I_11 := hR.up0 (k := 12) ra (by decide) (Or.inl rfl) e_12 (show (0 : Int) ≤ ((I0 o 12) + 1).toInt by omega) (show ((I0 o 12) + 1).toInt ≤ (1440 : Int) by omega)
    have hf_14 : Fm (fun c => (o ≤ c ∧ c < o + 13)) I0 I_11 := hf.set (by first | rfl | omega | (dsimp only; omega)) e_12
    have t_15 : (I_11 o 12).toInt = ((I0 o 12) + 1).toInt := by rw [← e_12, q_u_at]
    have t_16 : (I_11 o 13).toInt = (I0 o 13).toInt := by rw [← e_12, q_u_k (by decide)]
    refine ⟨tIn (by omega) (by omega), fun I_17 e_18 => ?_⟩
    have hR_19 : RI R I_17 := hR_13.up ra 1 (by decide) (Or.inl rfl) e_18 (show (-1 : Int) ≤ p1.toInt by omega) (show p1.toInt ≤ (5 : Int) by omega)
    have hf_20 : Fm (fun c => (o ≤ c ∧ c < o + 13)) I0 I_17 := hf_14.set (by first | rfl | omega | (dsimp only; omega)) e_18
    have t_21 : (I_17 o 12).toInt = (I_11 o 12).toInt := by rw [← e_18, q_u_ne (by omega)]
    have t_22 : (I_17 o 13).toInt = (I_11 o 13).toInt := by rw [← e_18, q_u_ne (by omega)]
    refine ⟨tIn (by omega) (by omega), fun I_23 e_24 => ?_⟩
    have hR_25 : RI R I_23 := hR_19.up ra 2 (by decide) (Or.inl rfl) e_24 (show (0 : Int) ≤ p2.toInt by omega) (show p2.toInt ≤ (2 : Int) by omega)
    have hf_26 : Fm (fun c => (o ≤ c ∧ c < o + 13)) I0 I_23 := hf_20.set (by first | rfl | omega | (dsimp only; omega)) e_24
    have t_27 : (I_23 o 12).toInt = (I_17 o 12).toInt := by rw [← e_24, q_u_ne (by omega)]
    have t_28 : (I_23 o 13).toInt = (I_17 o 13).toInt := by rw [← e_24, q_u_ne (by omega)]
    refine ⟨tIn (by omega) (by omega), fun I_29 e_30 => ?_⟩
    have hR_31 : RI R I_29 := hR_25.up ra 3 (by decide) (Or.inl rfl) e_30 (i_lo _) (i_hi _)
    have hf_32 : Fm (fun c => (o ≤ c ∧ c < o + 13)) I0 I_29 := hf_26.set (by first | rfl | omega | (dsimp only; omega)) e_30
    have t_33 : (I_29 o 12).toInt = (I_23 o 12).toInt := by rw [← e_30, q_u_ne (by omega)]
    have t_34 : (I_29 o 13).toInt = (I_23 o 13).toInt := by rw [← e_30, q_u_ne (by omega)]
    refine ⟨tIn (by omega) (by omega), fun I_35 e_36 => ?_⟩
    have hR_37 : RI R I_35 := hR_31.up ra 4 (by decide) (Or.inl rfl) e_36 (i_lo _) (i_hi _)
    have hf_38 : Fm (fun c => (o ≤ c ∧ c < o + 13)) I0 I_35 := hf_32.set (by first | rfl | omega | (dsimp only; omega)) e_36
    have t_39 : (I_35 o 12).toInt = (I_29 o 12).toInt := by rw [← e_36, q_u_ne (by omega)]
    have t_40 : (I_35 o 13).toInt = (I_29 o 13).toInt := by rw [← e_36, q_u_ne (by omega)]
    refine ⟨tIn (by omega) (by omega), fun I_41 e_42 => ?_⟩
    have hR_43 : RI R I_41 := hR_37.up ra 5 (by decide) (Or.inl rfl) e_42 (i_lo _) (i_hi _)
    have hf_44 : Fm (fun c => (o ≤ c ∧ c < o + 13)) I0 I_41 := hf_38.set (by first | rfl | omega | (dsimp only; omega)) e_42
    have t_45 : (I_41 o 12).toInt = (I_35 o 12).toInt := by rw [← e_42, q_u_ne (by omega)]
    have t_46 : (I_41 o 13).toInt = (I_35 o 13).toInt := by rw [← e_42, q_u_ne (by omega)]
    refine ⟨tIn (by omega) (by omega), fun I_47 e_48 => ?_⟩
    have hR_49 : RI R I_47 := hR_43.up ra 6 (by decide) (Or.inl rfl) e_48 (i_lo _) (i_hi _)
    have hf_50 : Fm (fun c => (o ≤ c ∧ c < o + 13)) I0 I_47 := hf_44.set (by first | rfl | omega | (dsimp only; omega)) e_48
    have t_51 : (I_47 o 12).toInt = (I_41 o 12).toInt := by rw [← e_48, q_u_ne (by omega)]
    have t_52 : (I_47 o 13).toInt = (I_41 o 13).toInt := by rw [← e_48, q_u_ne (by omega)]
    have l_53 : (-1 : Int32).toInt = -1 := rfl
    refine ⟨tIn (by omega) (by omega), fun I_54 e_55 => ?_⟩
    have hR_56 : RI R I_54 := hR_49.up ra 7 (by decide) (Or.inl rfl) e_55 (i_lo _) (i_hi _)
    have hf_57 : Fm (fun c => (o ≤ c ∧ c < o + 13)) I0 I_54 := hf_50.set (by first | rfl | omega | (dsimp only; omega)) e_55
    have t_58 : (I_54 o 12).toInt = (I_47 o 12).toInt := by rw [← e_55, q_u_ne (by omega)]
    have t_59 : (I_54 o 13).toInt = (I_47 o 13).toInt := by rw [← e_55, q_u_ne (by omega)]
    refine ⟨tIn (by omega) (by omega), ?_⟩
    refine ⟨fun c_60 => ?_, fun c_60 => ?_⟩
    · have d_61 := iLt c_60
      unfold fPapers_give_109
      have l_62 : (0 : Int32).toInt = 0 := rfl
      refine ⟨tIn (by omega) (by omega), fun I_63 e_64 => ?_⟩
      have hR_65 : RI R I_63 := hR_56.up ra 8 (by decide) (Or.inl rfl) e_64 (i_lo _) (i_hi _)
      have hf_66 : Fm (fun c => (o ≤ c ∧ c < o + 13)) I0 I_63 := hf_57.set (by first | rfl | omega | (dsimp only; omega)) e_64
      have t_67 : (I_63 o 12).toInt = (I_54 o 12).toInt := by rw [← e_64, q_u_ne (by omega)]
      have t_68 : (I_63 o 13).toInt = (I_54 o 13).toInt := by rw [← e_64, q_u_ne (by omega)]
      refine ⟨tIn (by omega) (by omega), ?_⟩
      refine ⟨fun c_69 => ?_, fun c_69 => ?_⟩
      · have d_70 := iNe c_69
        exact (hp _ _ hR_65 hf_66 (by first | omega | (intro h; omega) | exact Or.inl rfl | exact Or.inr rfl))
      · have d_71 := iEq c_69
        have g_72 : (0 : Int) ≤ (I_63 o 13).toInt ∧ (I_63 o 13).toInt ≤ 1440 := hR_65.at0 ra 13 (by decide)
        refine ⟨tIn (by omega) (by omega), fun I_73 e_74 => ?_⟩
        have hR_75 : RI R I_73 := hR_65.up ra 11 (by decide) (Or.inl rfl) e_74 (show (0 : Int) ≤ (I0 o 12).toInt by omega) (show (I0 o 12).toInt ≤ (1439 : Int) by omega)
        have hf_76 : Fm (fun c => (o ≤ c ∧ c < o + 13)) I0 I_73 := hf_66.set (by first | rfl | omega | (dsimp only; omega)) e_74
        have t_77 : (I_73 o 12).toInt = (I_63 o 12).toInt := by rw [← e_74, q_u_ne (by omega)]
        have t_78 : (I_73 o 13).toInt = (I_63 o 13).toInt := by rw [← e_74, q_u_ne (by omega)]
        have g_79 : (0 : Int) ≤ (I_73 o 13).toInt ∧ (I_73 o 13).toInt ≤ 1440 := hR_75.at0 ra 13 (by decide)
        have a_80 : ((I_73 o 13) + 1).toInt = (I_73 o 13).toInt + (1 : Int32).toInt := tAdd (by omega) (by omega)
        refine fun I_81 e_82 => ?_
        have hR_83 : RI R I_81 := hR_75.up0 (k := 13) ra (by decide) (Or.inl rfl) e_82 (show (0 : Int) ≤ ((I_73 o 13) + 1).toInt by omega) (show ((I_73 o 13) + 1).toInt ≤ (1440 : Int) by omega)
        have hf_84 : Fm (fun c => (o ≤ c ∧ c < o + 13)) I0 I_81 := hf_76.set (by first | rfl | omega | (dsimp only; omega)) e_82
        have t_85 : (I_81 o 12).toInt = (I_73 o 12).toInt := by rw [← e_82, q_u_k (by decide)]
        have t_86 : (I_81 o 13).toInt = ((I_73 o 13) + 1).toInt := by rw [← e_82, q_u_at]
        refine fun I_87 e_88 => ?_
        have hR_89 : RI R I_87 := hR_83.up0 (k := 14) ra (by decide) (Or.inl rfl) e_88 (i_lo _) (i_hi _)
        have hf_90 : Fm (fun c => (o ≤ c ∧ c < o + 13)) I0 I_87 := hf_84.set (by first | rfl | omega | (dsimp only; omega)) e_88
        have t_91 : (I_87 o 12).toInt = (I_81 o 12).toInt := by rw [← e_88, q_u_k (by decide)]
        have t_92 : (I_87 o 13).toInt = (I_81 o 13).toInt := by rw [← e_88, q_u_k (by decide)]
        refine ⟨tIn (by omega) (by omega), ?_⟩
        refine ⟨tIn (by omega) (by omega), fun I_93 e_94 => ?_⟩
        have hR_95 : RI R I_93 := hR_89.up ra 12 (by decide) (Or.inl rfl) e_94 (i_lo _) (i_hi _)
        have hf_96 : Fm (fun c => (o ≤ c ∧ c < o + 13)) I0 I_93 := hf_90.set (by first | rfl | omega | (dsimp only; omega)) e_94
        have t_97 : (I_93 o 12).toInt = (I_87 o 12).toInt := by rw [← e_94, q_u_ne (by omega)]
        have t_98 : (I_93 o 13).toInt = (I_87 o 13).toInt := by rw [← e_94, q_u_ne (by omega)]
        exact (hp _ _ hR_95 hf_96 (by first | omega | (intro h; omega) | exact Or.inl rfl | exact Or.inr rfl))
    · have d_99 := iNlt c_60
      unfold fPapers_give_109
      refine ⟨tIn (by omega) (by omega), fun I_100 e_101 => ?_⟩
      have hR_102 : RI R I_100 := hR_56.up ra 8 (by decide) (Or.inl rfl) e_101 (i_lo _) (i_hi _)
      have hf_103 : Fm (fun c => (o ≤ c ∧ c < o + 13)) I0 I_100 := hf_57.set (by first | rfl | omega | (dsimp only; omega)) e_101
      have t_104 : (I_100 o 12).toInt = (I_54 o 12).toInt := by rw [← e_101, q_u_ne (by omega)]
      have t_105 : (I_100 o 13).toInt = (I_54 o 13).toInt := by rw [← e_101, q_u_ne (by omega)]
      refine ⟨tIn (by omega) (by omega), ?_⟩
      have l_106 : (0 : Int32).toInt = 0 := rfl
      refine ⟨fun c_107 => ?_, fun c_107 => ?_⟩
      · have d_108 := iNe c_107
        exact (hp _ _ hR_102 hf_103 (by first | omega | (intro h; omega) | exact Or.inl rfl | exact Or.inr rfl))
      · have d_109 := iEq c_107
        have g_110 : (0 : Int) ≤ (I_100 o 13).toInt ∧ (I_100 o 13).toInt ≤ 1440 := hR_102.at0 ra 13 (by decide)
        refine ⟨tIn (by omega) (by omega), fun I_111 e_112 => ?_⟩
        have hR_113 : RI R I_111 := hR_102.up ra 11 (by decide) (Or.inl rfl) e_112 (show (0 : Int) ≤ (I0 o 12).toInt by omega) (show (I0 o 12).toInt ≤ (1439 : Int) by omega)
        have hf_114 : Fm (fun c => (o ≤ c ∧ c < o + 13)) I0 I_111 := hf_103.set (by first | rfl | omega | (dsimp only; omega)) e_112
        have t_115 : (I_111 o 12).toInt = (I_100 o 12).toInt := by rw [← e_112, q_u_ne (by omega)]
        have t_116 : (I_111 o 13).toInt = (I_100 o 13).toInt := by rw [← e_112, q_u_ne (by omega)]
        have g_117 : (0 : Int) ≤ (I_111 o 13).toInt ∧ (I_111 o 13).toInt ≤ 1440 := hR_113.at0 ra 13 (by decide)
        have a_118 : ((I_111 o 13) + 1).toInt = (I_111 o 13).toInt + (1 : Int32).toInt := tAdd (by omega) (by omega)
        refine fun I_119 e_120 => ?_
        have hR_121 : RI R I_119 := hR_113.up0 (k := 13) ra (by decide) (Or.inl rfl) e_120 (show (0 : Int) ≤ ((I_111 o 13) + 1).toInt by omega) (show ((I_111 o 13) + 1).toInt ≤ (1440 : Int) by omega)
        have hf_122 : Fm (fun c => (o ≤ c ∧ c < o + 13)) I0 I_119 := hf_114.set (by first | rfl | omega | (dsimp only; omega)) e_120
        have t_123 : (I_119 o 12).toInt = (I_111 o 12).toInt := by rw [← e_120, q_u_k (by decide)]
        have t_124 : (I_119 o 13).toInt = ((I_111 o 13) + 1).toInt := by rw [← e_120, q_u_at]
        refine fun I_125 e_126 => ?_
        have hR_127 : RI R I_125 := hR_121.up0 (k := 14) ra (by decide) (Or.inl rfl) e_126 (i_lo _) (i_hi _)
        have hf_128 : Fm (fun c => (o ≤ c ∧ c < o + 13)) I0 I_125 := hf_122.set (by first | rfl | omega | (dsimp only; omega)) e_126
        have t_129 : (I_125 o 12).toInt = (I_119 o 12).toInt := by rw [← e_126, q_u_k (by decide)]
        have t_130 : (I_125 o 13).toInt = (I_119 o 13).toInt := by rw [← e_126, q_u_k (by decide)]
        refine ⟨tIn (by omega) (by omega), ?_⟩
        refine ⟨tIn (by omega) (by omega), fun I_131 e_132 => ?_⟩
        have hR_133 : RI R I_131 := hR_127.up ra 12 (by decide) (Or.inl rfl) e_132 (i_lo _) (i_hi _)
        have hf_134 : Fm (fun c => (o ≤ c ∧ c < o + 13)) I0 I_131 := hf_128.set (by first | rfl | omega | (dsimp only; omega)) e_132
        have t_135 : (I_131 o 12).toInt = (I_125 o 12).toInt := by rw [← e_132, q_u_ne (by omega)]
        have t_136 : (I_131 o 13).toInt = (I_125 o 13).toInt := by rw [← e_132, q_u_ne (by omega)]
        exact (hp _ _ hR_133 hf_134 (by first | omega | (intro h; omega) | exact Or.inl rfl | exact Or.inr rfl))
  · have d_137 := iNlt c_5
    exact (hp _ _ hR hf (by first | omega | (intro h; omega) | exact Or.inl rfl | exact Or.inr rfl))
set_option maxHeartbeats 4000000 in
set_option maxRecDepth 20000 in
theorem y_Papers_isWaiting {D : va_G} {cA : FieldType → ClassId} {b : Nat} {E : State → Prop} {R : qRg} {o n : Nat} {sh : Nat → qC} {Rf : Nat → Nat → Option Nat} {I0 : Nat → Nat → Int32} {L0 : Nat → Nat → Int64} {post : Option Value → qS → Prop} {p1 : Int32} (hok : q_ok (qGG D cA b E)) (hw : WfPapers (qGG D cA b E) n sh Rf o) (ra : RAPapers R o) (hq0 : (0 : Int) ≤ p1.toInt ∧ p1.toInt ≤ 1439) (hR : RI R I0) (hp : ∀ (r : Int32) , (Bz r) → post (some (.int r)) (n, sh, Rf, I0, L0)) : Ev (qGG D cA b E) mPapers_isWaiting 0 (0, 0) 0 (lv_args 0 [.ref o, .int p1]) [] (n, sh, Rf, I0, L0) post := by
  refine sPapers_isWaiting_0 o n sh Rf I0 L0 post p1 hok hw ?_
  unfold fPapers_isWaiting_0
  refine ⟨tIn (by omega) (by omega), ?_⟩
  have l_1 : (0 : Int32).toInt = 0 := rfl
  refine ⟨fun c_2 => ?_, fun c_2 => ?_⟩
  · have d_3 := iNe c_2
    exact (hp _ (Or.inl rfl))
  · have d_4 := iEq c_2
    refine ⟨tIn (by omega) (by omega), ?_⟩
    have l_5 : (-1 : Int32).toInt = -1 := rfl
    refine ⟨fun c_6 => ?_, fun c_6 => ?_⟩
    · have d_7 := iNe c_6
      exact (hp _ (Or.inl rfl))
    · have d_8 := iEq c_6
      have l_9 : (1 : Int32).toInt = 1 := rfl
      exact (hp _ (Or.inr rfl))
set_option maxHeartbeats 4000000 in
set_option maxRecDepth 20000 in
theorem y_Papers_stopWaiting {D : va_G} {cA : FieldType → ClassId} {b : Nat} {E : State → Prop} {R : qRg} {o n : Nat} {sh : Nat → qC} {Rf : Nat → Nat → Option Nat} {I0 : Nat → Nat → Int32} {L0 : Nat → Nat → Int64} {post : Option Value → qS → Prop} {p1 : Int32} (hok : q_ok (qGG D cA b E)) (hw : WfPapers (qGG D cA b E) n sh Rf o) (ra : RAPapers R o) (hq0 : (0 : Int) ≤ p1.toInt ∧ p1.toInt ≤ 1439) (hR : RI R I0) (hp : ∀ (I' : Nat → Nat → Int32) (L' : Nat → Nat → Int64), RI R I' → Fm (fun c => (o ≤ c ∧ c < o + 13)) I0 I' → ((I' o 12).toInt = (I0 o 12).toInt) → ((I' o 13).toInt = (I0 o 13).toInt) → post none (n, sh, Rf, I', L')) : Ev (qGG D cA b E) mPapers_stopWaiting 0 (0, 0) 0 (lv_args 0 [.ref o, .int p1]) [] (n, sh, Rf, I0, L0) post := by
  have hf : Fm (fun c => (o ≤ c ∧ c < o + 13)) I0 I0 := Fm.rf
  have g_1 : (0 : Int) ≤ (I0 o 12).toInt ∧ (I0 o 12).toInt ≤ 1440 := hR.at0 ra 12 (by decide)
  have g_2 : (0 : Int) ≤ (I0 o 13).toInt ∧ (I0 o 13).toInt ≤ 1440 := hR.at0 ra 13 (by decide)
  refine sPapers_stopWaiting_0 o n sh Rf I0 L0 post p1 hok hw ?_
  unfold fPapers_stopWaiting_0
  refine ⟨tIn (by omega) (by omega), ?_⟩
  refine fun I_3 e_4 => ?_
  have hR_5 : RI R I_3 := hR.up0 (k := 14) ra (by decide) (Or.inl rfl) e_4 (i_lo _) (i_hi _)
  have hf_6 : Fm (fun c => (o ≤ c ∧ c < o + 13)) I0 I_3 := hf.set (by first | rfl | omega | (dsimp only; omega)) e_4
  have t_7 : (I_3 o 12).toInt = (I0 o 12).toInt := by rw [← e_4, q_u_k (by decide)]
  have t_8 : (I_3 o 13).toInt = (I0 o 13).toInt := by rw [← e_4, q_u_k (by decide)]
  refine ⟨tIn (by omega) (by omega), ?_⟩
  have g_9 : (0 : Int) ≤ (I_3 (o + 2) (p1 : Int32).toNatClampNeg).toInt ∧ (I_3 (o + 2) (p1 : Int32).toNatClampNeg).toInt ≤ 2 := hR_5.at ra 2 _ (by decide)
  refine ⟨tIn (by omega) (by omega), ?_⟩
  refine ⟨tIn (by omega) (by omega), ?_⟩
  refine ⟨tIn (by omega) (by omega), fun I_10 e_11 => ?_⟩
  have hR_12 : RI R I_10 := hR_5.up ra 12 (by decide) (Or.inl rfl) e_11 (i_lo _) (i_hi _)
  have hf_13 : Fm (fun c => (o ≤ c ∧ c < o + 13)) I0 I_10 := hf_6.set (by first | rfl | omega | (dsimp only; omega)) e_11
  have t_14 : (I_10 o 12).toInt = (I_3 o 12).toInt := by rw [← e_11, q_u_ne (by omega)]
  have t_15 : (I_10 o 13).toInt = (I_3 o 13).toInt := by rw [← e_11, q_u_ne (by omega)]
  exact (hp _ _ hR_12 hf_13 (by first | omega | (intro h; omega) | exact Or.inl rfl | exact Or.inr rfl) (by first | omega | (intro h; omega) | exact Or.inl rfl | exact Or.inr rfl))
set_option maxHeartbeats 4000000 in
set_option maxRecDepth 20000 in
theorem y_Papers_lose {D : va_G} {cA : FieldType → ClassId} {b : Nat} {E : State → Prop} {R : qRg} {o n : Nat} {sh : Nat → qC} {Rf : Nat → Nat → Option Nat} {I0 : Nat → Nat → Int32} {L0 : Nat → Nat → Int64} {post : Option Value → qS → Prop} {p1 : Int32} (hok : q_ok (qGG D cA b E)) (hw : WfPapers (qGG D cA b E) n sh Rf o) (ra : RAPapers R o) (hq0 : (0 : Int) ≤ p1.toInt ∧ p1.toInt ≤ 1439) (hR : RI R I0) (hp : ∀ (I' : Nat → Nat → Int32) (L' : Nat → Nat → Int64), RI R I' → Fm (fun c => (o ≤ c ∧ c < o + 13)) I0 I' → ((I' o 12).toInt = (I0 o 12).toInt) → ((I' o 13).toInt = (I0 o 13).toInt) → post none (n, sh, Rf, I', L')) : Ev (qGG D cA b E) mPapers_lose 1 (0, 0) 0 (lv_args 0 [.ref o, .int p1]) [] (n, sh, Rf, I0, L0) post := by
  have hf : Fm (fun c => (o ≤ c ∧ c < o + 13)) I0 I0 := Fm.rf
  have g_1 : (0 : Int) ≤ (I0 o 12).toInt ∧ (I0 o 12).toInt ≤ 1440 := hR.at0 ra 12 (by decide)
  have g_2 : (0 : Int) ≤ (I0 o 13).toInt ∧ (I0 o 13).toInt ≤ 1440 := hR.at0 ra 13 (by decide)
  refine sPapers_lose_0 o n sh Rf I0 L0 post p1 hok hw ?_
  unfold fPapers_lose_0
  refine y_Papers_isWaiting hok hw ra (by first | omega | (intro h; omega) | exact Or.inl rfl | exact Or.inr rfl) hR (fun r_3 u_4 => ⟨r_3, I0, L0, rfl, rfl, ?_⟩)
  have b_5 : 0 ≤ r_3.toInt ∧ r_3.toInt ≤ 1 := u_4.rg
  have l_6 : (0 : Int32).toInt = 0 := rfl
  refine ⟨fun c_7 => ?_, fun c_7 => ?_⟩
  · have d_8 := iEq c_7
    exact (hp _ _ hR hf (by first | omega | (intro h; omega) | exact Or.inl rfl | exact Or.inr rfl) (by first | omega | (intro h; omega) | exact Or.inl rfl | exact Or.inr rfl))
  · have d_9 := iNe c_7
    refine y_Papers_stopWaiting hok hw ra (by first | omega | (intro h; omega) | exact Or.inl rfl | exact Or.inr rfl) hR (fun I_13 L_14 hR_15 fr_16 u_11 u_12 => ⟨I_13, L_14, rfl, rfl, ?_⟩)
    have hf_17 : Fm (fun c => (o ≤ c ∧ c < o + 13)) I0 I_13 := hf.call fr_16 (fun c hc => by first | exact hc | (dsimp only at hc ⊢; omega) | omega)
    have g_18 : (0 : Int) ≤ (I_13 o 12).toInt ∧ (I_13 o 12).toInt ≤ 1440 := hR_15.at0 ra 12 (by decide)
    have g_19 : (0 : Int) ≤ (I_13 o 13).toInt ∧ (I_13 o 13).toInt ≤ 1440 := hR_15.at0 ra 13 (by decide)
    have l_20 : (1 : Int32).toInt = 1 := rfl
    refine ⟨tIn (by omega) (by omega), fun I_21 e_22 => ?_⟩
    have hR_23 : RI R I_21 := hR_15.up ra 8 (by decide) (Or.inl rfl) e_22 (i_lo _) (i_hi _)
    have hf_24 : Fm (fun c => (o ≤ c ∧ c < o + 13)) I0 I_21 := hf_17.set (by first | rfl | omega | (dsimp only; omega)) e_22
    have t_25 : (I_21 o 12).toInt = (I_13 o 12).toInt := by rw [← e_22, q_u_ne (by omega)]
    have t_26 : (I_21 o 13).toInt = (I_13 o 13).toInt := by rw [← e_22, q_u_ne (by omega)]
    exact (hp _ _ hR_23 hf_24 (by first | omega | (intro h; omega) | exact Or.inl rfl | exact Or.inr rfl) (by first | omega | (intro h; omega) | exact Or.inl rfl | exact Or.inr rfl))
set_option maxHeartbeats 4000000 in
set_option maxRecDepth 20000 in
theorem y_Papers_draw {D : va_G} {cA : FieldType → ClassId} {b : Nat} {E : State → Prop} {R : qRg} {o n : Nat} {sh : Nat → qC} {Rf : Nat → Nat → Option Nat} {I0 : Nat → Nat → Int32} {L0 : Nat → Nat → Int64} {post : Option Value → qS → Prop} {p1 : Int32} {p2 : Int32} (hok : q_ok (qGG D cA b E)) (hw : WfPapers (qGG D cA b E) n sh Rf o) (ra : RAPapers R o) (hq0 : (0 : Int) ≤ p1.toInt ∧ p1.toInt ≤ 1439) (hR : RI R I0) (hp : ∀ (I' : Nat → Nat → Int32) (L' : Nat → Nat → Int64), RI R I' → Fm (fun c => (o ≤ c ∧ c < o + 13)) I0 I' → ((I' o 12).toInt = (I0 o 12).toInt) → ((I' o 13).toInt = (I0 o 13).toInt) → post none (n, sh, Rf, I', L')) : Ev (qGG D cA b E) mPapers_draw 1 (0, 0) 0 (lv_args 0 [.ref o, .int p1, .int p2]) [] (n, sh, Rf, I0, L0) post := by
  have hf : Fm (fun c => (o ≤ c ∧ c < o + 13)) I0 I0 := Fm.rf
  have g_1 : (0 : Int) ≤ (I0 o 12).toInt ∧ (I0 o 12).toInt ≤ 1440 := hR.at0 ra 12 (by decide)
  have g_2 : (0 : Int) ≤ (I0 o 13).toInt ∧ (I0 o 13).toInt ≤ 1440 := hR.at0 ra 13 (by decide)
  refine sPapers_draw_0 o n sh Rf I0 L0 post p1 p2 hok hw ?_
  unfold fPapers_draw_0
  refine y_Papers_stopWaiting hok hw ra (by first | omega | (intro h; omega) | exact Or.inl rfl | exact Or.inr rfl) hR (fun I_6 L_7 hR_8 fr_9 u_4 u_5 => ⟨I_6, L_7, rfl, rfl, ?_⟩)
  have hf_10 : Fm (fun c => (o ≤ c ∧ c < o + 13)) I0 I_6 := hf.call fr_9 (fun c hc => by first | exact hc | (dsimp only at hc ⊢; omega) | omega)
  have g_11 : (0 : Int) ≤ (I_6 o 12).toInt ∧ (I_6 o 12).toInt ≤ 1440 := hR_8.at0 ra 12 (by decide)
  have g_12 : (0 : Int) ≤ (I_6 o 13).toInt ∧ (I_6 o 13).toInt ≤ 1440 := hR_8.at0 ra 13 (by decide)
  refine ⟨tIn (by omega) (by omega), fun I_13 e_14 => ?_⟩
  have hR_15 : RI R I_13 := hR_8.up ra 7 (by decide) (Or.inl rfl) e_14 (i_lo _) (i_hi _)
  have hf_16 : Fm (fun c => (o ≤ c ∧ c < o + 13)) I0 I_13 := hf_10.set (by first | rfl | omega | (dsimp only; omega)) e_14
  have t_17 : (I_13 o 12).toInt = (I_6 o 12).toInt := by rw [← e_14, q_u_ne (by omega)]
  have t_18 : (I_13 o 13).toInt = (I_6 o 13).toInt := by rw [← e_14, q_u_ne (by omega)]
  exact (hp _ _ hR_15 hf_16 (by first | omega | (intro h; omega) | exact Or.inl rfl | exact Or.inr rfl) (by first | omega | (intro h; omega) | exact Or.inl rfl | exact Or.inr rfl))
set_option maxHeartbeats 4000000 in
set_option maxRecDepth 20000 in
theorem yPapers_loseForged_2 {D : va_G} {cA : FieldType → ClassId} {b : Nat} {E : State → Prop} {R : qRg} {o n : Nat} {sh : Nat → qC} {Rf : Nat → Nat → Option Nat} {I0 : Nat → Nat → Int32} {L0 : Nat → Nat → Int64} {post : Option Value → qS → Prop} {p1 : Int32} (hok : q_ok (qGG D cA b E)) (hw : WfPapers (qGG D cA b E) n sh Rf o) (ra : RAPapers R o) (hq0 : (I0 o 13).toInt ≤ (I0 o 12).toInt) (hp : ∀ (I' : Nat → Nat → Int32) (L' : Nat → Nat → Int64), RI R I' → Fm (fun c => (o ≤ c ∧ c < o + 13)) I0 I' → ((I' o 13).toInt ≤ (I' o 12).toInt) → post none (n, sh, Rf, I', L')) : ∀ (k : Nat) {x1 : Int32} {x2 : Int32} {I : Nat → Nat → Int32} {L : Nat → Nat → Int64}, RI R I → Fm (fun c => (o ≤ c ∧ c < o + 13)) I0 I → ((0 : Int) ≤ x2.toInt ∧ x2.toInt ≤ 1440) → ((I o 13).toInt ≤ (I o 12).toInt) → (1440 - x2.toInt).toNat < k → Ev (qGG D cA b E) mPapers_loseForged 2 (0, 0) 2 [(0, .ref o), (1, .int x1), (2, .int x2)] [] (n, sh, Rf, I, L) post := by
  intro k
  induction k with
  | zero =>
    intro x1 x2 I L hR hf hi0 hi1 hm
    exact absurd hm (Nat.not_lt_zero _)
  | succ k ih =>
    intro x1 x2 I L hR hf hi0 hi1 hm
    have g_1 : (0 : Int) ≤ (I o 12).toInt ∧ (I o 12).toInt ≤ 1440 := hR.at0 ra 12 (by decide)
    have g_2 : (0 : Int) ≤ (I o 13).toInt ∧ (I o 13).toInt ≤ 1440 := hR.at0 ra 13 (by decide)
    refine sPapers_loseForged_2 o n sh Rf I L post x1 x2 hok hw ?_
    unfold fPapers_loseForged_2
    have g_3 : (0 : Int) ≤ (I o 13).toInt ∧ (I o 13).toInt ≤ 1440 := hR.at0 ra 13 (by decide)
    refine ⟨fun c_4 => ?_, fun c_4 => ?_⟩
    · have d_5 := iLe c_4
      exact (hp _ _ hR hf (by first | omega | (intro h; omega) | exact Or.inl rfl | exact Or.inr rfl))
    · have d_6 := iNle c_4
      refine ⟨tIn (by omega) (by omega), ?_⟩
      have g_7 : (0 : Int) ≤ (I (o + 11) (x2 : Int32).toNatClampNeg).toInt ∧ (I (o + 11) (x2 : Int32).toNatClampNeg).toInt ≤ 1439 := hR.at ra 11 _ (by decide)
      refine ⟨tIn (by omega) (by omega), ?_⟩
      refine ⟨fun c_8 => ?_, fun c_8 => ?_⟩
      · have d_9 := iLt c_8
        unfold fPapers_loseForged_35
        have a_11 : (x2 + Int32.ofInt 1).toInt = x2.toInt + (1) := tIc (by omega) (by omega) (by decide) (by decide)
        generalize ez_10 : (x2 + Int32.ofInt 1) = z_10 at a_11 ⊢
        exact ih hR hf (by first | omega | (intro h; omega) | exact Or.inl rfl | exact Or.inr rfl) (by first | omega | (intro h; omega) | exact Or.inl rfl | exact Or.inr rfl) (by omega)
      · have d_12 := iNlt c_8
        refine ⟨tIn (by omega) (by omega), ?_⟩
        have g_13 : (0 : Int) ≤ (I (o + 11) (x2 : Int32).toNatClampNeg).toInt ∧ (I (o + 11) (x2 : Int32).toNatClampNeg).toInt ≤ 1439 := hR.at ra 11 _ (by decide)
        refine y_Papers_lose hok hw ra (by first | omega | (intro h; omega) | exact Or.inl rfl | exact Or.inr rfl) hR (fun I_17 L_18 hR_19 fr_20 u_15 u_16 => ⟨I_17, L_18, rfl, rfl, ?_⟩)
        have hf_21 : Fm (fun c => (o ≤ c ∧ c < o + 13)) I0 I_17 := hf.call fr_20 (fun c hc => by first | exact hc | (dsimp only at hc ⊢; omega) | omega)
        have g_22 : (0 : Int) ≤ (I_17 o 12).toInt ∧ (I_17 o 12).toInt ≤ 1440 := hR_19.at0 ra 12 (by decide)
        have g_23 : (0 : Int) ≤ (I_17 o 13).toInt ∧ (I_17 o 13).toInt ≤ 1440 := hR_19.at0 ra 13 (by decide)
        unfold fPapers_loseForged_35
        have a_25 : (x2 + Int32.ofInt 1).toInt = x2.toInt + (1) := tIc (by omega) (by omega) (by decide) (by decide)
        generalize ez_24 : (x2 + Int32.ofInt 1) = z_24 at a_25 ⊢
        exact ih hR_19 hf_21 (by first | omega | (intro h; omega) | exact Or.inl rfl | exact Or.inr rfl) (by first | omega | (intro h; omega) | exact Or.inl rfl | exact Or.inr rfl) (by omega)
set_option maxHeartbeats 4000000 in
set_option maxRecDepth 20000 in
theorem y_Papers_loseForged {D : va_G} {cA : FieldType → ClassId} {b : Nat} {E : State → Prop} {R : qRg} {o n : Nat} {sh : Nat → qC} {Rf : Nat → Nat → Option Nat} {I0 : Nat → Nat → Int32} {L0 : Nat → Nat → Int64} {post : Option Value → qS → Prop} {p1 : Int32} (hok : q_ok (qGG D cA b E)) (hw : WfPapers (qGG D cA b E) n sh Rf o) (ra : RAPapers R o) (hq0 : (I0 o 13).toInt ≤ (I0 o 12).toInt) (hR : RI R I0) (hp : ∀ (I' : Nat → Nat → Int32) (L' : Nat → Nat → Int64), RI R I' → Fm (fun c => (o ≤ c ∧ c < o + 13)) I0 I' → ((I' o 13).toInt ≤ (I' o 12).toInt) → post none (n, sh, Rf, I', L')) : Ev (qGG D cA b E) mPapers_loseForged 2 (0, 0) 0 (lv_args 0 [.ref o, .int p1]) [] (n, sh, Rf, I0, L0) post := by
  have hf : Fm (fun c => (o ≤ c ∧ c < o + 13)) I0 I0 := Fm.rf
  have g_26 : (0 : Int) ≤ (I0 o 12).toInt ∧ (I0 o 12).toInt ≤ 1440 := hR.at0 ra 12 (by decide)
  have g_27 : (0 : Int) ≤ (I0 o 13).toInt ∧ (I0 o 13).toInt ≤ 1440 := hR.at0 ra 13 (by decide)
  refine sPapers_loseForged_0 o n sh Rf I0 L0 post p1 hok hw ?_
  unfold fPapers_loseForged_0
  have l_28 : (0 : Int32).toInt = 0 := rfl
  exact yPapers_loseForged_2 (I0 := I0) (L0 := L0) (p1 := p1) hok hw ra hq0 hp  _ hR hf (by first | omega | (intro h; omega) | exact Or.inl rfl | exact Or.inr rfl) (by first | omega | (intro h; omega) | exact Or.inl rfl | exact Or.inr rfl) (Nat.lt_succ_self _)
set_option maxHeartbeats 4000000 in
set_option maxRecDepth 20000 in
theorem yPapers_leaveTo_2 {D : va_G} {cA : FieldType → ClassId} {b : Nat} {E : State → Prop} {R : qRg} {o n : Nat} {sh : Nat → qC} {Rf : Nat → Nat → Option Nat} {I0 : Nat → Nat → Int32} {L0 : Nat → Nat → Int64} {post : Option Value → qS → Prop} {p1 : Int32} {p2 : Int32} (hok : q_ok (qGG D cA b E)) (hw : WfPapers (qGG D cA b E) n sh Rf o) (ra : RAPapers R o) (hq0 : (-1 : Int) ≤ p1.toInt ∧ p1.toInt ≤ 5) (hq1 : (I0 o 13).toInt ≤ (I0 o 12).toInt) (hp : ∀ (I' : Nat → Nat → Int32) (L' : Nat → Nat → Int64), RI R I' → Fm (fun c => (o ≤ c ∧ c < o + 13)) I0 I' → ((I' o 13).toInt ≤ (I' o 12).toInt) → post none (n, sh, Rf, I', L')) : ∀ (k : Nat) {x1 : Int32} {x2 : Int32} {x3 : Int32} {I : Nat → Nat → Int32} {L : Nat → Nat → Int64}, RI R I → Fm (fun c => (o ≤ c ∧ c < o + 13)) I0 I → ((-1 : Int) ≤ x1.toInt ∧ x1.toInt ≤ 5) → ((0 : Int) ≤ x3.toInt ∧ x3.toInt ≤ 1440) → ((I o 13).toInt ≤ (I o 12).toInt) → (1440 - x3.toInt).toNat < k → Ev (qGG D cA b E) mPapers_leaveTo 2 (0, 0) 2 [(0, .ref o), (1, .int x1), (2, .int x2), (3, .int x3)] [] (n, sh, Rf, I, L) post := by
  intro k
  induction k with
  | zero =>
    intro x1 x2 x3 I L hR hf hi0 hi1 hi2 hm
    exact absurd hm (Nat.not_lt_zero _)
  | succ k ih =>
    intro x1 x2 x3 I L hR hf hi0 hi1 hi2 hm
    have g_1 : (0 : Int) ≤ (I o 12).toInt ∧ (I o 12).toInt ≤ 1440 := hR.at0 ra 12 (by decide)
    have g_2 : (0 : Int) ≤ (I o 13).toInt ∧ (I o 13).toInt ≤ 1440 := hR.at0 ra 13 (by decide)
    refine sPapers_leaveTo_2 o n sh Rf I L post x1 x2 x3 hok hw ?_
    unfold fPapers_leaveTo_2
    have g_3 : (0 : Int) ≤ (I o 13).toInt ∧ (I o 13).toInt ≤ 1440 := hR.at0 ra 13 (by decide)
    refine ⟨fun c_4 => ?_, fun c_4 => ?_⟩
    · have d_5 := iLe c_4
      exact (hp _ _ hR hf (by first | omega | (intro h; omega) | exact Or.inl rfl | exact Or.inr rfl))
    · have d_6 := iNle c_4
      refine ⟨tIn (by omega) (by omega), ?_⟩
      have g_7 : (0 : Int) ≤ (I (o + 11) (x3 : Int32).toNatClampNeg).toInt ∧ (I (o + 11) (x3 : Int32).toNatClampNeg).toInt ≤ 1439 := hR.at ra 11 _ (by decide)
      refine ⟨tIn (by omega) (by omega), ?_⟩
      have g_8 : (-1 : Int) ≤ (I (o + 1) ((I (o + 11) (x3 : Int32).toNatClampNeg) : Int32).toNatClampNeg).toInt ∧ (I (o + 1) ((I (o + 11) (x3 : Int32).toNatClampNeg) : Int32).toNatClampNeg).toInt ≤ 5 := hR.at ra 1 _ (by decide)
      refine ⟨fun c_9 => ?_, fun c_9 => ?_⟩
      · have d_10 := iNe c_9
        unfold fPapers_leaveTo_57
        have a_12 : (x3 + Int32.ofInt 1).toInt = x3.toInt + (1) := tIc (by omega) (by omega) (by decide) (by decide)
        generalize ez_11 : (x3 + Int32.ofInt 1) = z_11 at a_12 ⊢
        exact ih hR hf (by first | omega | (intro h; omega) | exact Or.inl rfl | exact Or.inr rfl) (by first | omega | (intro h; omega) | exact Or.inl rfl | exact Or.inr rfl) (by first | omega | (intro h; omega) | exact Or.inl rfl | exact Or.inr rfl) (by omega)
      · have d_13 := iEq c_9
        refine y_Papers_isWaiting hok hw ra (by first | omega | (intro h; omega) | exact Or.inl rfl | exact Or.inr rfl) hR (fun r_14 u_15 => ⟨r_14, I, L, rfl, rfl, ?_⟩)
        have b_16 : 0 ≤ r_14.toInt ∧ r_14.toInt ≤ 1 := u_15.rg
        have l_17 : (0 : Int32).toInt = 0 := rfl
        refine ⟨fun c_18 => ?_, fun c_18 => ?_⟩
        · have d_19 := iEq c_18
          unfold fPapers_leaveTo_57
          have a_21 : (x3 + Int32.ofInt 1).toInt = x3.toInt + (1) := tIc (by omega) (by omega) (by decide) (by decide)
          generalize ez_20 : (x3 + Int32.ofInt 1) = z_20 at a_21 ⊢
          exact ih hR hf (by first | omega | (intro h; omega) | exact Or.inl rfl | exact Or.inr rfl) (by first | omega | (intro h; omega) | exact Or.inl rfl | exact Or.inr rfl) (by first | omega | (intro h; omega) | exact Or.inl rfl | exact Or.inr rfl) (by omega)
        · have d_22 := iNe c_18
          refine ⟨tIn (by omega) (by omega), fun I_23 e_24 => ?_⟩
          have hR_25 : RI R I_23 := hR.up ra 1 (by decide) (Or.inl rfl) e_24 (show (-1 : Int) ≤ x1.toInt by omega) (show x1.toInt ≤ (5 : Int) by omega)
          have hf_26 : Fm (fun c => (o ≤ c ∧ c < o + 13)) I0 I_23 := hf.set (by first | rfl | omega | (dsimp only; omega)) e_24
          have t_27 : (I_23 o 12).toInt = (I o 12).toInt := by rw [← e_24, q_u_ne (by omega)]
          have t_28 : (I_23 o 13).toInt = (I o 13).toInt := by rw [← e_24, q_u_ne (by omega)]
          have l_29 : (-1 : Int32).toInt = -1 := rfl
          refine ⟨fun c_30 => ?_, fun c_30 => ?_⟩
          · have d_31 := iNe c_30
            unfold fPapers_leaveTo_57
            have a_33 : (x3 + Int32.ofInt 1).toInt = x3.toInt + (1) := tIc (by omega) (by omega) (by decide) (by decide)
            generalize ez_32 : (x3 + Int32.ofInt 1) = z_32 at a_33 ⊢
            exact ih hR_25 hf_26 (by first | omega | (intro h; omega) | exact Or.inl rfl | exact Or.inr rfl) (by first | omega | (intro h; omega) | exact Or.inl rfl | exact Or.inr rfl) (by first | omega | (intro h; omega) | exact Or.inl rfl | exact Or.inr rfl) (by omega)
          · have d_34 := iEq c_30
            refine y_Papers_lose hok hw ra (by first | omega | (intro h; omega) | exact Or.inl rfl | exact Or.inr rfl) hR_25 (fun I_38 L_39 hR_40 fr_41 u_36 u_37 => ⟨I_38, L_39, rfl, rfl, ?_⟩)
            have hf_42 : Fm (fun c => (o ≤ c ∧ c < o + 13)) I0 I_38 := hf_26.call fr_41 (fun c hc => by first | exact hc | (dsimp only at hc ⊢; omega) | omega)
            have g_43 : (0 : Int) ≤ (I_38 o 12).toInt ∧ (I_38 o 12).toInt ≤ 1440 := hR_40.at0 ra 12 (by decide)
            have g_44 : (0 : Int) ≤ (I_38 o 13).toInt ∧ (I_38 o 13).toInt ≤ 1440 := hR_40.at0 ra 13 (by decide)
            unfold fPapers_leaveTo_57
            have a_46 : (x3 + Int32.ofInt 1).toInt = x3.toInt + (1) := tIc (by omega) (by omega) (by decide) (by decide)
            generalize ez_45 : (x3 + Int32.ofInt 1) = z_45 at a_46 ⊢
            exact ih hR_40 hf_42 (by first | omega | (intro h; omega) | exact Or.inl rfl | exact Or.inr rfl) (by first | omega | (intro h; omega) | exact Or.inl rfl | exact Or.inr rfl) (by first | omega | (intro h; omega) | exact Or.inl rfl | exact Or.inr rfl) (by omega)
set_option maxHeartbeats 4000000 in
set_option maxRecDepth 20000 in
theorem y_Papers_leaveTo {D : va_G} {cA : FieldType → ClassId} {b : Nat} {E : State → Prop} {R : qRg} {o n : Nat} {sh : Nat → qC} {Rf : Nat → Nat → Option Nat} {I0 : Nat → Nat → Int32} {L0 : Nat → Nat → Int64} {post : Option Value → qS → Prop} {p1 : Int32} {p2 : Int32} (hok : q_ok (qGG D cA b E)) (hw : WfPapers (qGG D cA b E) n sh Rf o) (ra : RAPapers R o) (hq0 : (-1 : Int) ≤ p1.toInt ∧ p1.toInt ≤ 5) (hq1 : (I0 o 13).toInt ≤ (I0 o 12).toInt) (hR : RI R I0) (hp : ∀ (I' : Nat → Nat → Int32) (L' : Nat → Nat → Int64), RI R I' → Fm (fun c => (o ≤ c ∧ c < o + 13)) I0 I' → ((I' o 13).toInt ≤ (I' o 12).toInt) → post none (n, sh, Rf, I', L')) : Ev (qGG D cA b E) mPapers_leaveTo 2 (0, 0) 0 (lv_args 0 [.ref o, .int p1, .int p2]) [] (n, sh, Rf, I0, L0) post := by
  have hf : Fm (fun c => (o ≤ c ∧ c < o + 13)) I0 I0 := Fm.rf
  have g_47 : (0 : Int) ≤ (I0 o 12).toInt ∧ (I0 o 12).toInt ≤ 1440 := hR.at0 ra 12 (by decide)
  have g_48 : (0 : Int) ≤ (I0 o 13).toInt ∧ (I0 o 13).toInt ≤ 1440 := hR.at0 ra 13 (by decide)
  refine sPapers_leaveTo_0 o n sh Rf I0 L0 post p1 p2 hok hw ?_
  unfold fPapers_leaveTo_0
  have l_49 : (0 : Int32).toInt = 0 := rfl
  exact yPapers_leaveTo_2 (I0 := I0) (L0 := L0) (p1 := p1) (p2 := p2) hok hw ra hq0 hq1 hp  _ hR hf (by first | omega | (intro h; omega) | exact Or.inl rfl | exact Or.inr rfl) (by first | omega | (intro h; omega) | exact Or.inl rfl | exact Or.inr rfl) (by first | omega | (intro h; omega) | exact Or.inl rfl | exact Or.inr rfl) (Nat.lt_succ_self _)
set_option maxHeartbeats 4000000 in
set_option maxRecDepth 20000 in
theorem yPapers_closeQueue_4 {D : va_G} {cA : FieldType → ClassId} {b : Nat} {E : State → Prop} {R : qRg} {o n : Nat} {sh : Nat → qC} {Rf : Nat → Nat → Option Nat} {I0 : Nat → Nat → Int32} {L0 : Nat → Nat → Int64} {post : Option Value → qS → Prop} (hok : q_ok (qGG D cA b E)) (hw : WfPapers (qGG D cA b E) n sh Rf o) (ra : RAPapers R o) (hq0 : (I0 o 13).toInt ≤ (I0 o 12).toInt) (hp : ∀ (I' : Nat → Nat → Int32) (L' : Nat → Nat → Int64), RI R I' → Fm (fun c => (o ≤ c ∧ c < o + 13)) I0 I' → ((I' o 13).toInt ≤ (I' o 12).toInt) → post none (n, sh, Rf, I', L')) : ∀ (k : Nat) {x1 : Int32} {x2 : Int32} {I : Nat → Nat → Int32} {L : Nat → Nat → Int64}, RI R I → Fm (fun c => (o ≤ c ∧ c < o + 13)) I0 I → ((0 : Int) ≤ x1.toInt ∧ x1.toInt ≤ 1440) → ((0 : Int) ≤ x2.toInt ∧ x2.toInt ≤ 1440) → ((I o 13).toInt ≤ (I o 12).toInt) → (x1.toInt ≤ x2.toInt) → (x1.toInt ≤ (I o 13).toInt) → (1440 - x2.toInt).toNat < k → Ev (qGG D cA b E) mPapers_closeQueue 1 (0, 0) 4 [(0, .ref o), (1, .int x1), (2, .int x2)] [] (n, sh, Rf, I, L) post := by
  intro k
  induction k with
  | zero =>
    intro x1 x2 I L hR hf hi0 hi1 hi2 hi3 hi4 hm
    exact absurd hm (Nat.not_lt_zero _)
  | succ k ih =>
    intro x1 x2 I L hR hf hi0 hi1 hi2 hi3 hi4 hm
    have g_1 : (0 : Int) ≤ (I o 12).toInt ∧ (I o 12).toInt ≤ 1440 := hR.at0 ra 12 (by decide)
    have g_2 : (0 : Int) ≤ (I o 13).toInt ∧ (I o 13).toInt ≤ 1440 := hR.at0 ra 13 (by decide)
    refine sPapers_closeQueue_4 o n sh Rf I L post x1 x2 hok hw ?_
    unfold fPapers_closeQueue_4
    have g_3 : (0 : Int) ≤ (I o 13).toInt ∧ (I o 13).toInt ≤ 1440 := hR.at0 ra 13 (by decide)
    refine ⟨fun c_4 => ?_, fun c_4 => ?_⟩
    · have d_5 := iLe c_4
      refine fun I_6 e_7 => ?_
      have hR_8 : RI R I_6 := hR.up0 (k := 13) ra (by decide) (Or.inl rfl) e_7 (show (0 : Int) ≤ x1.toInt by omega) (show x1.toInt ≤ (1440 : Int) by omega)
      have hf_9 : Fm (fun c => (o ≤ c ∧ c < o + 13)) I0 I_6 := hf.set (by first | rfl | omega | (dsimp only; omega)) e_7
      have t_10 : (I_6 o 12).toInt = (I o 12).toInt := by rw [← e_7, q_u_k (by decide)]
      have t_11 : (I_6 o 13).toInt = x1.toInt := by rw [← e_7, q_u_at]
      exact (hp _ _ hR_8 hf_9 (by first | omega | (intro h; omega) | exact Or.inl rfl | exact Or.inr rfl))
    · have d_12 := iNle c_4
      refine ⟨tIn (by omega) (by omega), ?_⟩
      have g_13 : (0 : Int) ≤ (I (o + 11) (x2 : Int32).toNatClampNeg).toInt ∧ (I (o + 11) (x2 : Int32).toNatClampNeg).toInt ≤ 1439 := hR.at ra 11 _ (by decide)
      refine y_Papers_isWaiting hok hw ra (by first | omega | (intro h; omega) | exact Or.inl rfl | exact Or.inr rfl) hR (fun r_14 u_15 => ⟨r_14, I, L, rfl, rfl, ?_⟩)
      have b_16 : 0 ≤ r_14.toInt ∧ r_14.toInt ≤ 1 := u_15.rg
      have l_17 : (0 : Int32).toInt = 0 := rfl
      refine ⟨fun c_18 => ?_, fun c_18 => ?_⟩
      · have d_19 := iEq c_18
        unfold fPapers_closeQueue_40
        have a_21 : (x2 + Int32.ofInt 1).toInt = x2.toInt + (1) := tIc (by omega) (by omega) (by decide) (by decide)
        generalize ez_20 : (x2 + Int32.ofInt 1) = z_20 at a_21 ⊢
        exact ih hR hf (by first | omega | (intro h; omega) | exact Or.inl rfl | exact Or.inr rfl) (by first | omega | (intro h; omega) | exact Or.inl rfl | exact Or.inr rfl) (by first | omega | (intro h; omega) | exact Or.inl rfl | exact Or.inr rfl) (by first | omega | (intro h; omega) | exact Or.inl rfl | exact Or.inr rfl) (by first | omega | (intro h; omega) | exact Or.inl rfl | exact Or.inr rfl) (by omega)
      · have d_22 := iNe c_18
        refine ⟨tIn (by omega) (by omega), ?_⟩
        have g_23 : (0 : Int) ≤ (I (o + 11) (x2 : Int32).toNatClampNeg).toInt ∧ (I (o + 11) (x2 : Int32).toNatClampNeg).toInt ≤ 1439 := hR.at ra 11 _ (by decide)
        refine ⟨tIn (by omega) (by omega), fun I_24 e_25 => ?_⟩
        have hR_26 : RI R I_24 := hR.up ra 11 (by decide) (Or.inl rfl) e_25 (show (0 : Int) ≤ (I (o + 11) (x2 : Int32).toNatClampNeg).toInt by omega) (show (I (o + 11) (x2 : Int32).toNatClampNeg).toInt ≤ (1439 : Int) by omega)
        have hf_27 : Fm (fun c => (o ≤ c ∧ c < o + 13)) I0 I_24 := hf.set (by first | rfl | omega | (dsimp only; omega)) e_25
        have t_28 : (I_24 o 12).toInt = (I o 12).toInt := by rw [← e_25, q_u_ne (by omega)]
        have t_29 : (I_24 o 13).toInt = (I o 13).toInt := by rw [← e_25, q_u_ne (by omega)]
        have a_31 : (x1 + Int32.ofInt 1).toInt = x1.toInt + (1) := tIc (by omega) (by omega) (by decide) (by decide)
        generalize ez_30 : (x1 + Int32.ofInt 1) = z_30 at a_31 ⊢
        unfold fPapers_closeQueue_40
        have a_33 : (x2 + Int32.ofInt 1).toInt = x2.toInt + (1) := tIc (by omega) (by omega) (by decide) (by decide)
        generalize ez_32 : (x2 + Int32.ofInt 1) = z_32 at a_33 ⊢
        exact ih hR_26 hf_27 (by first | omega | (intro h; omega) | exact Or.inl rfl | exact Or.inr rfl) (by first | omega | (intro h; omega) | exact Or.inl rfl | exact Or.inr rfl) (by first | omega | (intro h; omega) | exact Or.inl rfl | exact Or.inr rfl) (by first | omega | (intro h; omega) | exact Or.inl rfl | exact Or.inr rfl) (by first | omega | (intro h; omega) | exact Or.inl rfl | exact Or.inr rfl) (by omega)
set_option maxHeartbeats 4000000 in
set_option maxRecDepth 20000 in
theorem y_Papers_closeQueue {D : va_G} {cA : FieldType → ClassId} {b : Nat} {E : State → Prop} {R : qRg} {o n : Nat} {sh : Nat → qC} {Rf : Nat → Nat → Option Nat} {I0 : Nat → Nat → Int32} {L0 : Nat → Nat → Int64} {post : Option Value → qS → Prop} (hok : q_ok (qGG D cA b E)) (hw : WfPapers (qGG D cA b E) n sh Rf o) (ra : RAPapers R o) (hq0 : (I0 o 13).toInt ≤ (I0 o 12).toInt) (hR : RI R I0) (hp : ∀ (I' : Nat → Nat → Int32) (L' : Nat → Nat → Int64), RI R I' → Fm (fun c => (o ≤ c ∧ c < o + 13)) I0 I' → ((I' o 13).toInt ≤ (I' o 12).toInt) → post none (n, sh, Rf, I', L')) : Ev (qGG D cA b E) mPapers_closeQueue 1 (0, 0) 0 (lv_args 0 [.ref o]) [] (n, sh, Rf, I0, L0) post := by
  have hf : Fm (fun c => (o ≤ c ∧ c < o + 13)) I0 I0 := Fm.rf
  have g_34 : (0 : Int) ≤ (I0 o 12).toInt ∧ (I0 o 12).toInt ≤ 1440 := hR.at0 ra 12 (by decide)
  have g_35 : (0 : Int) ≤ (I0 o 13).toInt ∧ (I0 o 13).toInt ≤ 1440 := hR.at0 ra 13 (by decide)
  refine sPapers_closeQueue_0 o n sh Rf I0 L0 post  hok hw ?_
  unfold fPapers_closeQueue_0
  have l_36 : (0 : Int32).toInt = 0 := rfl
  exact yPapers_closeQueue_4 (I0 := I0) (L0 := L0) hok hw ra hq0 hp  _ hR hf (by first | omega | (intro h; omega) | exact Or.inl rfl | exact Or.inr rfl) (by first | omega | (intro h; omega) | exact Or.inl rfl | exact Or.inr rfl) (by first | omega | (intro h; omega) | exact Or.inl rfl | exact Or.inr rfl) (by first | omega | (intro h; omega) | exact Or.inl rfl | exact Or.inr rfl) (by first | omega | (intro h; omega) | exact Or.inl rfl | exact Or.inr rfl) (Nat.lt_succ_self _)
set_option maxHeartbeats 4000000 in
set_option maxRecDepth 20000 in
theorem y_Papers_detail {D : va_G} {cA : FieldType → ClassId} {b : Nat} {E : State → Prop} {R : qRg} {o n : Nat} {sh : Nat → qC} {Rf : Nat → Nat → Option Nat} {I0 : Nat → Nat → Int32} {L0 : Nat → Nat → Int64} {post : Option Value → qS → Prop} {p1 : Int32} {p2 : Int32} (hok : q_ok (qGG D cA b E)) (hw : WfPapers (qGG D cA b E) n sh Rf o) (ra : RAPapers R o) (hq0 : (0 : Int) ≤ p1.toInt ∧ p1.toInt ≤ 1439) (hR : RI R I0) (hp : ∀ (r : Int32) , post (some (.int r)) (n, sh, Rf, I0, L0)) : Ev (qGG D cA b E) mPapers_detail 0 (0, 0) 0 (lv_args 0 [.ref o, .int p1, .int p2]) [] (n, sh, Rf, I0, L0) post := by
  refine sPapers_detail_0 o n sh Rf I0 L0 post p1 p2 hok hw ?_
  unfold fPapers_detail_0
  have l_2 : (0 : Int32).toInt = 0 := rfl
  refine ⟨fun c_1 => ?_, fun c_1 => ?_⟩
  · have d_3 := iEq c_1
    refine ⟨tIn (by omega) (by omega), ?_⟩
    have g_4 : (-1 : Int) ≤ (I0 (o + 1) (p1 : Int32).toNatClampNeg).toInt ∧ (I0 (o + 1) (p1 : Int32).toNatClampNeg).toInt ≤ 5 := hR.at ra 1 _ (by decide)
    exact (hp _ )
  have d_5 := iNe c_1
  have l_7 : (1 : Int32).toInt = 1 := rfl
  refine ⟨fun c_6 => ?_, fun c_6 => ?_⟩
  · have d_8 := iEq c_6
    refine ⟨tIn (by omega) (by omega), ?_⟩
    have g_9 : (0 : Int) ≤ (I0 (o + 2) (p1 : Int32).toNatClampNeg).toInt ∧ (I0 (o + 2) (p1 : Int32).toNatClampNeg).toInt ≤ 2 := hR.at ra 2 _ (by decide)
    exact (hp _ )
  have d_10 := iNe c_6
  have l_12 : (2 : Int32).toInt = 2 := rfl
  refine ⟨fun c_11 => ?_, fun c_11 => ?_⟩
  · have d_13 := iEq c_11
    refine ⟨tIn (by omega) (by omega), ?_⟩
    exact (hp _ )
  have d_14 := iNe c_11
  have l_16 : (3 : Int32).toInt = 3 := rfl
  refine ⟨fun c_15 => ?_, fun c_15 => ?_⟩
  · have d_17 := iEq c_15
    refine ⟨tIn (by omega) (by omega), ?_⟩
    exact (hp _ )
  have d_18 := iNe c_15
  have l_20 : (4 : Int32).toInt = 4 := rfl
  refine ⟨fun c_19 => ?_, fun c_19 => ?_⟩
  · have d_21 := iEq c_19
    refine ⟨tIn (by omega) (by omega), ?_⟩
    exact (hp _ )
  have d_22 := iNe c_19
  have l_24 : (5 : Int32).toInt = 5 := rfl
  refine ⟨fun c_23 => ?_, fun c_23 => ?_⟩
  · have d_25 := iEq c_23
    refine ⟨tIn (by omega) (by omega), ?_⟩
    exact (hp _ )
  have d_26 := iNe c_23
  have l_28 : (6 : Int32).toInt = 6 := rfl
  refine ⟨fun c_27 => ?_, fun c_27 => ?_⟩
  · have d_29 := iEq c_27
    refine ⟨tIn (by omega) (by omega), ?_⟩
    exact (hp _ )
  have d_30 := iNe c_27
  have l_32 : (7 : Int32).toInt = 7 := rfl
  refine ⟨fun c_31 => ?_, fun c_31 => ?_⟩
  · have d_33 := iEq c_31
    refine ⟨tIn (by omega) (by omega), ?_⟩
    exact (hp _ )
  have d_34 := iNe c_31
  have l_35 : (-1 : Int32).toInt = -1 := rfl
  exact (hp _ )
