/-! Safety of Run.play: by program (spec.py). -/
set_option maxHeartbeats 4000000 in
set_option maxRecDepth 20000 in
theorem yRun_readDeaths_19 {D : va_G} {cA : FieldType → ClassId} {b : Nat} {E : State → Prop} {R : qRg} {o n : Nat} {sh : Nat → qC} {Rf : Nat → Nat → Option Nat} {I0 : Nat → Nat → Int32} {L0 : Nat → Nat → Int64} {post : Option Value → qS → Prop} {x1 : Nat} {p2 : Int32} (hok : q_ok (qGG D cA b E)) (hw : WfRun (qGG D cA b E) n sh Rf o) (ra : RARun R o) (hw1 : WfFacts (qGG D cA b E) n sh Rf x1) (ra1 : RAFacts R x1) (hs0 : x1 + 7 ≤ o) (hq0 : FacOK I0 x1) (hp : ∀ (I' : Nat → Nat → Int32) (L' : Nat → Nat → Int64), RI R I' → Fm (fun c => c = o + 63 ∨ c = o + 64) I0 I' → post none (n, sh, Rf, I', L')) : ∀ (k : Nat) {x2 : Int32} {x3 : Int32} {I : Nat → Nat → Int32} {L : Nat → Nat → Int64}, RI R I → Fm (fun c => c = o + 63 ∨ c = o + 64) I0 I → ((0 : Int) ≤ x3.toInt ∧ x3.toInt ≤ 40) → (FacOK I x1) → (40 - x3.toInt).toNat < k → Ev (qGG D cA b E) mRun_readDeaths 1 (0, 0) 19 [(0, .ref o), (1, .ref x1), (2, .int x2), (3, .int x3)] [] (n, sh, Rf, I, L) post := by
  intro k
  induction k with
  | zero =>
    intro x2 x3 I L hR hf hi0 hi1 hm
    exact absurd hm (Nat.not_lt_zero _)
  | succ k ih =>
    intro x2 x3 I L hR hf hi0 hi1 hm
    refine sRun_readDeaths_19 o n sh Rf I L post x1 x2 x3 hok hw hw1 ?_
    unfold fRun_readDeaths_19
    have g_1 : (0 : Int) ≤ (I x1 6).toInt ∧ (I x1 6).toInt ≤ 40 := hR.at0 ra1 6 (by decide)
    refine ⟨fun c_2 => ?_, fun c_2 => ?_⟩
    · have d_3 := iLe c_2
      exact (hp _ _ hR hf )
    · have d_4 := iNle c_2
      refine ⟨tIn (by omega) (by omega), ?_⟩
      have l_5 : (2 : Int32).toInt = 2 := rfl
      refine y_Facts_isKnown hok hw1 ra1 (by first | omega | (intro h; omega) | exact Or.inl rfl | exact Or.inr rfl) hR (fun r_6 u_7 u_8 => ⟨r_6, I, L, rfl, rfl, ?_⟩)
      have b_9 : 0 ≤ r_6.toInt ∧ r_6.toInt ≤ 1 := u_7.rg
      have l_10 : (0 : Int32).toInt = 0 := rfl
      refine ⟨fun c_11 => ?_, fun c_11 => ?_⟩
      · have d_12 := iEq c_11
        unfold fRun_readDeaths_87
        have a_14 : (x3 + Int32.ofInt 1).toInt = x3.toInt + (1) := tIc (by omega) (by omega) (by decide) (by decide)
        generalize ez_13 : (x3 + Int32.ofInt 1) = z_13 at a_14 ⊢
        exact ih hR hf (by first | omega | (intro h; omega) | exact Or.inl rfl | exact Or.inr rfl) hi1 (by omega)
      · have d_15 := iNe c_11
        have cl := tCl (x := x3) (by omega)
        have fk := (hi1 x3.toNatClampNeg (by omega)) (by have := u_8 (by omega); omega)
        refine ⟨tIn (by omega) (by omega), ?_⟩
        refine ⟨tIn (by omega) (by omega), ?_⟩
        refine ⟨fun c_16 => ?_, fun c_16 => ?_⟩
        · have d_17 := iLt c_16
          unfold fRun_readDeaths_87
          have a_19 : (x3 + Int32.ofInt 1).toInt = x3.toInt + (1) := tIc (by omega) (by omega) (by decide) (by decide)
          generalize ez_18 : (x3 + Int32.ofInt 1) = z_18 at a_19 ⊢
          exact ih hR hf (by first | omega | (intro h; omega) | exact Or.inl rfl | exact Or.inr rfl) hi1 (by omega)
        · have d_20 := iNlt c_16
          refine ⟨tIn (by omega) (by omega), ?_⟩
          refine ⟨tIn (by omega) (by omega), fun I_21 e_22 => ?_⟩
          have hR_23 : RI R I_21 := hR.up ra 63 (by decide) (Or.inl rfl) e_22 (i_lo _) (i_hi _)
          have hf_24 : Fm (fun c => c = o + 63 ∨ c = o + 64) I0 I_21 := hf.set (by first | rfl | omega | (dsimp only; omega)) e_22
          have t_25 : (I_21 x1 6).toInt = (I x1 6).toInt := by rw [← e_22, q_u_ne (sh_ne_a (hw1).1.2.2 (waRun_12 (I := I0) (L := L0) hw).2.2)]
          have k_26 : FacOK I_21 x1 := hi1.fr (by rw [← e_22]; exact q_u_ne (by omega)) (by rw [← e_22]; exact q_u_ne (by omega)) (by rw [← e_22]; exact q_u_ne (by omega)) (by rw [← e_22, q_u_ne (by omega)])
          refine ⟨tIn (by omega) (by omega), ?_⟩
          have v2 : (I_21 (x1 + 4) x3.toNatClampNeg).toInt = (I (x1 + 4) x3.toNatClampNeg).toInt := by rw [hf_24 (x1 + 4) (by first | omega | (dsimp only; omega)), hf (x1 + 4) (by first | omega | (dsimp only; omega))]
          refine ⟨tIn (by omega) (by omega), fun I_27 e_28 => ?_⟩
          have hR_29 : RI R I_27 := hR_23.up ra 64 (by decide) (Or.inl rfl) e_28 (show (-1 : Int) ≤ (I_21 (x1 + 4) (x3 : Int32).toNatClampNeg).toInt by omega) (show (I_21 (x1 + 4) (x3 : Int32).toNatClampNeg).toInt ≤ (5 : Int) by omega)
          have hf_30 : Fm (fun c => c = o + 63 ∨ c = o + 64) I0 I_27 := hf_24.set (by first | rfl | omega | (dsimp only; omega)) e_28
          have t_31 : (I_27 x1 6).toInt = (I_21 x1 6).toInt := by rw [← e_28, q_u_ne (sh_ne_a (hw1).1.2.2 (waRun_13 (I := I0) (L := L0) hw).2.2)]
          have k_32 : FacOK I_27 x1 := k_26.fr (by rw [← e_28]; exact q_u_ne (by omega)) (by rw [← e_28]; exact q_u_ne (by omega)) (by rw [← e_28]; exact q_u_ne (by omega)) (by rw [← e_28, q_u_ne (by omega)])
          unfold fRun_readDeaths_87
          have a_34 : (x3 + Int32.ofInt 1).toInt = x3.toInt + (1) := tIc (by omega) (by omega) (by decide) (by decide)
          generalize ez_33 : (x3 + Int32.ofInt 1) = z_33 at a_34 ⊢
          exact ih hR_29 hf_30 (by first | omega | (intro h; omega) | exact Or.inl rfl | exact Or.inr rfl) k_32 (by omega)
set_option maxHeartbeats 4000000 in
set_option maxRecDepth 20000 in
theorem y_Run_readDeaths {D : va_G} {cA : FieldType → ClassId} {b : Nat} {E : State → Prop} {R : qRg} {o n : Nat} {sh : Nat → qC} {Rf : Nat → Nat → Option Nat} {I0 : Nat → Nat → Int32} {L0 : Nat → Nat → Int64} {post : Option Value → qS → Prop} {x1 : Nat} {p2 : Int32} (hok : q_ok (qGG D cA b E)) (hw : WfRun (qGG D cA b E) n sh Rf o) (ra : RARun R o) (hw1 : WfFacts (qGG D cA b E) n sh Rf x1) (ra1 : RAFacts R x1) (hs0 : x1 + 7 ≤ o) (hq0 : FacOK I0 x1) (hR : RI R I0) (hp : ∀ (I' : Nat → Nat → Int32) (L' : Nat → Nat → Int64), RI R I' → Fm (fun c => c = o + 63 ∨ c = o + 64) I0 I' → post none (n, sh, Rf, I', L')) : Ev (qGG D cA b E) mRun_readDeaths 1 (0, 0) 0 (lv_args 0 [.ref o, .ref x1, .int p2]) [] (n, sh, Rf, I0, L0) post := by
  have hf : Fm (fun c => c = o + 63 ∨ c = o + 64) I0 I0 := Fm.rf
  refine sRun_readDeaths_0 o n sh Rf I0 L0 post x1 p2 hok hw hw1 ?_
  unfold fRun_readDeaths_0
  have l_35 : (1000000 : Int32).toInt = 1000000 := rfl
  refine y_fill hok (fun _ _ => waRun_12 hw) (by omega) (fun I_36 ne_37 _ eq_38 => ⟨I_36, L0, rfl, rfl, ?_⟩)
  have hR_39 : RI R I_36 := hR.row ra 63 (by decide) (fun _ => rfl) (fun _ => ⟨(i_lo _), (i_hi _)⟩) ne_37 eq_38
  have hf_40 : Fm (fun c => c = o + 63 ∨ c = o + 64) I0 I_36 := hf.call (M' := fun c => c = (o + 63)) ne_37 (fun c hc => by first | exact hc | (dsimp only at hc ⊢; omega) | omega)
  have k_41 : FacOK I_36 x1 := hq0.fr (ne_37 _ (by omega)) (ne_37 _ (by omega)) (ne_37 _ (by omega)) (by rw [ne_37 x1 (by omega)])
  have l_42 : (-1 : Int32).toInt = -1 := rfl
  refine y_fill hok (fun _ _ => waRun_13 hw) (by omega) (fun I_43 ne_44 _ eq_45 => ⟨I_43, L0, rfl, rfl, ?_⟩)
  have hR_46 : RI R I_43 := hR_39.row ra 64 (by decide) (fun _ => rfl) (fun _ => ⟨(show (-1 : Int) ≤ ((-1) : Int32).toInt by omega), (show ((-1) : Int32).toInt ≤ (5 : Int) by omega)⟩) ne_44 eq_45
  have hf_47 : Fm (fun c => c = o + 63 ∨ c = o + 64) I0 I_43 := hf_40.call (M' := fun c => c = (o + 64)) ne_44 (fun c hc => by first | exact hc | (dsimp only at hc ⊢; omega) | omega)
  have k_48 : FacOK I_43 x1 := k_41.fr (ne_44 _ (by omega)) (ne_44 _ (by omega)) (ne_44 _ (by omega)) (by rw [ne_44 x1 (by omega)])
  have l_49 : (0 : Int32).toInt = 0 := rfl
  exact yRun_readDeaths_19 (I0 := I0) (L0 := L0) (p2 := p2) hok hw ra hw1 ra1 hs0 hq0 hp  _ hR_46 hf_47 (by first | omega | (intro h; omega) | exact Or.inl rfl | exact Or.inr rfl) k_48 (Nat.lt_succ_self _)
set_option maxHeartbeats 4000000 in
set_option maxRecDepth 20000 in
theorem yRun_begin_45 {D : va_G} {cA : FieldType → ClassId} {b : Nat} {E : State → Prop} {R : qRg} {o n : Nat} {sh : Nat → qC} {Rf : Nat → Nat → Option Nat} {I0 : Nat → Nat → Int32} {L0 : Nat → Nat → Int64} {post : Option Value → qS → Prop} {x1 : Nat} {uo_0 : Nat} {uo_1 : Nat} {p2 : Int32} (hok : q_ok (qGG D cA b E)) (hw : WfRun (qGG D cA b E) n sh Rf o) (ra : RARun R o) (hw1 : WfFacts (qGG D cA b E) n sh Rf x1) (ra1 : RAFacts R x1) (hwuo_0 : WfLand (qGG D cA b E) n sh Rf uo_0) (rauo_0 : RALand R uo_0) (hwuo_1 : WfTrade (qGG D cA b E) n sh Rf uo_1) (rauo_1 : RATrade R uo_1) (huo_0 : Rf o 0 = some uo_0) (huo_1 : Rf o 1 = some uo_1) (hs0 : x1 + 7 ≤ o) (hq0 : FacOK I0 x1) (hp : ∀ (I' : Nat → Nat → Int32) (L' : Nat → Nat → Int64), RI R I' → Fm (fun c => (o + 24 ≤ c ∧ c < o + 53) ∨ (o + 62 ≤ c ∧ c < o + 65)) I0 I' → ((I' (o + 31) 13).toInt ≤ (I' (o + 31) 12).toInt) → (LodOK I' (o + 44)) → post none (n, sh, Rf, I', L')) : ∀ (k : Nat) {x2 : Int32} {x3 : Int32} {I : Nat → Nat → Int32} {L : Nat → Nat → Int64}, RI R I → Fm (fun c => (o + 24 ≤ c ∧ c < o + 53) ∨ (o + 62 ≤ c ∧ c < o + 65)) I0 I → ((0 : Int) ≤ x3.toInt ∧ x3.toInt ≤ 6) → ((I (o + 31) 13).toInt ≤ (I (o + 31) 12).toInt) → (FacOK I x1) → (LodOK I (o + 44)) → (6 - x3.toInt).toNat < k → Ev (qGG D cA b E) mRun_begin 2 (0, 0) 45 [(0, .ref o), (1, .ref x1), (2, .int x2), (3, .int x3)] [] (n, sh, Rf, I, L) post := by
  intro k
  induction k with
  | zero =>
    intro x2 x3 I L hR hf hi0 hi1 hi2 hi3 hm
    exact absurd hm (Nat.not_lt_zero _)
  | succ k ih =>
    intro x2 x3 I L hR hf hi0 hi1 hi2 hi3 hm
    have g_1 : (0 : Int) ≤ (I (o + 31) 12).toInt ∧ (I (o + 31) 12).toInt ≤ 1440 := hR.at0 (rsRun_4 ra) 12 (by decide)
    have g_2 : (0 : Int) ≤ (I (o + 31) 13).toInt ∧ (I (o + 31) 13).toInt ≤ 1440 := hR.at0 (rsRun_4 ra) 13 (by decide)
    refine sRun_begin_45 o n sh Rf I L post x1 x2 x3 uo_0 uo_1 hok hw hw1 huo_0 hwuo_0 huo_1 hwuo_1 ?_
    unfold fRun_begin_45
    have g_3 : (0 : Int) ≤ (I uo_1 1).toInt ∧ (I uo_1 1).toInt ≤ 6 := hR.at0 rauo_1 1 (by decide)
    refine ⟨fun c_4 => ?_, fun c_4 => ?_⟩
    · have d_5 := iLe c_4
      refine y_Run_readDeaths hok hw ra hw1 ra1 (by first | omega | (intro h; omega) | exact Or.inl rfl | exact Or.inr rfl) hi2 hR (fun I_7 L_8 hR_9 fr_10  => ⟨I_7, L_8, rfl, rfl, ?_⟩)
      have hf_11 : Fm (fun c => (o + 24 ≤ c ∧ c < o + 53) ∨ (o + 62 ≤ c ∧ c < o + 65)) I0 I_7 := hf.call fr_10 (fun c hc => by first | exact hc | (dsimp only at hc ⊢; omega) | omega)
      have t_12 : (I_7 (o + 31) 12).toInt = (I (o + 31) 12).toInt := by rw [fr_10 (o + 31) (by first | omega | (dsimp only; omega))]
      have t_13 : (I_7 (o + 31) 13).toInt = (I (o + 31) 13).toInt := by rw [fr_10 (o + 31) (by first | omega | (dsimp only; omega))]
      have g_14 : (0 : Int) ≤ (I_7 uo_1 1).toInt ∧ (I_7 uo_1 1).toInt ≤ 6 := hR_9.at0 rauo_1 1 (by decide)
      have k_15 : FacOK I_7 x1 := hi2.fr (fr_10 _ (by first | omega | (dsimp only; omega))) (fr_10 _ (by first | omega | (dsimp only; omega))) (fr_10 _ (by first | omega | (dsimp only; omega))) (by rw [fr_10 x1 (by first | omega | (dsimp only; omega))])
      have k_16 : LodOK I_7 (o + 44) := hi3.fr (fr_10 _ (by first | omega | (dsimp only; omega))) (fr_10 _ (by first | omega | (dsimp only; omega))) (fr_10 _ (by first | omega | (dsimp only; omega))) (by rw [fr_10 (o + 44) (by first | omega | (dsimp only; omega))])
      exact (hp _ _ hR_9 hf_11 (by first | omega | (intro h; omega) | exact Or.inl rfl | exact Or.inr rfl) k_16)
    · have d_17 := iNle c_4
      refine ⟨tIn (by omega) (by omega), ?_⟩
      refine ⟨tIn (by omega) (by omega), fun L_18 e_19 => ?_⟩
      have a_21 : (x3 + Int32.ofInt 1).toInt = x3.toInt + (1) := tIc (by omega) (by omega) (by decide) (by decide)
      generalize ez_20 : (x3 + Int32.ofInt 1) = z_20 at a_21 ⊢
      exact ih hR hf (by first | omega | (intro h; omega) | exact Or.inl rfl | exact Or.inr rfl) (by first | omega | (intro h; omega) | exact Or.inl rfl | exact Or.inr rfl) hi2 hi3 (by omega)
set_option maxHeartbeats 4000000 in
set_option maxRecDepth 20000 in
theorem y_Run_begin {D : va_G} {cA : FieldType → ClassId} {b : Nat} {E : State → Prop} {R : qRg} {o n : Nat} {sh : Nat → qC} {Rf : Nat → Nat → Option Nat} {I0 : Nat → Nat → Int32} {L0 : Nat → Nat → Int64} {post : Option Value → qS → Prop} {x1 : Nat} {uo_0 : Nat} {uo_1 : Nat} {p2 : Int32} (hok : q_ok (qGG D cA b E)) (hw : WfRun (qGG D cA b E) n sh Rf o) (ra : RARun R o) (hw1 : WfFacts (qGG D cA b E) n sh Rf x1) (ra1 : RAFacts R x1) (hwuo_0 : WfLand (qGG D cA b E) n sh Rf uo_0) (rauo_0 : RALand R uo_0) (hwuo_1 : WfTrade (qGG D cA b E) n sh Rf uo_1) (rauo_1 : RATrade R uo_1) (huo_0 : Rf o 0 = some uo_0) (huo_1 : Rf o 1 = some uo_1) (hs0 : x1 + 7 ≤ o) (hq0 : FacOK I0 x1) (hR : RI R I0) (hp : ∀ (I' : Nat → Nat → Int32) (L' : Nat → Nat → Int64), RI R I' → Fm (fun c => (o + 24 ≤ c ∧ c < o + 53) ∨ (o + 62 ≤ c ∧ c < o + 65)) I0 I' → ((I' (o + 31) 13).toInt ≤ (I' (o + 31) 12).toInt) → (LodOK I' (o + 44)) → post none (n, sh, Rf, I', L')) : Ev (qGG D cA b E) mRun_begin 2 (0, 0) 0 (lv_args 0 [.ref o, .ref x1, .int p2]) [] (n, sh, Rf, I0, L0) post := by
  have hf : Fm (fun c => (o + 24 ≤ c ∧ c < o + 53) ∨ (o + 62 ≤ c ∧ c < o + 65)) I0 I0 := Fm.rf
  have g_22 : (0 : Int) ≤ (I0 (o + 31) 12).toInt ∧ (I0 (o + 31) 12).toInt ≤ 1440 := hR.at0 (rsRun_4 ra) 12 (by decide)
  have g_23 : (0 : Int) ≤ (I0 (o + 31) 13).toInt ∧ (I0 (o + 31) 13).toInt ≤ 1440 := hR.at0 (rsRun_4 ra) 13 (by decide)
  refine sRun_begin_0 o n sh Rf I0 L0 post x1 p2 uo_0 uo_1 hok hw hw1 huo_0 hwuo_0 huo_1 hwuo_1 ?_
  unfold fRun_begin_0
  refine y_Realm_start hok (wsRun_3 hw) (rsRun_3 ra) hwuo_0 rauo_0 hR (fun I_25 L_26 hR_27 fr_28  => ⟨I_25, L_26, rfl, rfl, ?_⟩)
  have hf_29 : Fm (fun c => (o + 24 ≤ c ∧ c < o + 53) ∨ (o + 62 ≤ c ∧ c < o + 65)) I0 I_25 := hf.call fr_28 (fun c hc => by first | exact hc | (dsimp only at hc ⊢; omega) | omega)
  have t_30 : (I_25 (o + 31) 12).toInt = (I0 (o + 31) 12).toInt := by rw [fr_28 (o + 31) (by first | omega | (dsimp only; omega))]
  have t_31 : (I_25 (o + 31) 13).toInt = (I0 (o + 31) 13).toInt := by rw [fr_28 (o + 31) (by first | omega | (dsimp only; omega))]
  have k_32 : FacOK I_25 x1 := hq0.fr (fr_28 _ (by first | omega | (dsimp only; omega))) (fr_28 _ (by first | omega | (dsimp only; omega))) (fr_28 _ (by first | omega | (dsimp only; omega))) (by rw [fr_28 x1 (by first | omega | (dsimp only; omega))])
  refine y_Papers_start hok (wsRun_4 hw) (rsRun_4 ra) hw1 ra1 hR_27 (fun I_35 L_36 hR_37 fr_38 u_34 => ⟨I_35, L_36, rfl, rfl, ?_⟩)
  have hf_39 : Fm (fun c => (o + 24 ≤ c ∧ c < o + 53) ∨ (o + 62 ≤ c ∧ c < o + 65)) I0 I_35 := hf_29.call fr_38 (fun c hc => by first | exact hc | (dsimp only at hc ⊢; omega) | omega)
  have g_40 : (0 : Int) ≤ (I_35 (o + 31) 12).toInt ∧ (I_35 (o + 31) 12).toInt ≤ 1440 := hR_37.at0 (rsRun_4 ra) 12 (by decide)
  have g_41 : (0 : Int) ≤ (I_35 (o + 31) 13).toInt ∧ (I_35 (o + 31) 13).toInt ≤ 1440 := hR_37.at0 (rsRun_4 ra) 13 (by decide)
  have k_42 : FacOK I_35 x1 := k_32.fr (fr_38 _ (by first | omega | (dsimp only; omega))) (fr_38 _ (by first | omega | (dsimp only; omega))) (fr_38 _ (by first | omega | (dsimp only; omega))) (by rw [fr_38 x1 (by first | omega | (dsimp only; omega))])
  refine y_Loads_start hok (wsRun_5 hw) (rsRun_5 ra) hR_37 (fun I_45 L_46 hR_47 fr_48 u_44 => ⟨I_45, L_46, rfl, rfl, ?_⟩)
  have hf_49 : Fm (fun c => (o + 24 ≤ c ∧ c < o + 53) ∨ (o + 62 ≤ c ∧ c < o + 65)) I0 I_45 := hf_39.call fr_48 (fun c hc => by first | exact hc | (dsimp only at hc ⊢; omega) | omega)
  have t_50 : (I_45 (o + 31) 12).toInt = (I_35 (o + 31) 12).toInt := by rw [fr_48 (o + 31) (by first | omega | (dsimp only; omega))]
  have t_51 : (I_45 (o + 31) 13).toInt = (I_35 (o + 31) 13).toInt := by rw [fr_48 (o + 31) (by first | omega | (dsimp only; omega))]
  have k_52 : FacOK I_45 x1 := k_42.fr (fr_48 _ (by first | omega | (dsimp only; omega))) (fr_48 _ (by first | omega | (dsimp only; omega))) (fr_48 _ (by first | omega | (dsimp only; omega))) (by rw [fr_48 x1 (by first | omega | (dsimp only; omega))])
  have l_53 : (0 : Int32).toInt = 0 := rfl
  refine l_fillL hok (fun _ _ => waRun_14 hw) (by omega) (fun L_54 _ _ => ⟨I_45, L_54, rfl, rfl, ?_⟩)
  have l_55 : (-1 : Int32).toInt = -1 := rfl
  refine y_fill hok (fun _ _ => waRun_11 hw) (by omega) (fun I_56 ne_57 _ eq_58 => ⟨I_56, L_54, rfl, rfl, ?_⟩)
  have hR_59 : RI R I_56 := hR_47.row ra 62 (by decide) (fun _ => rfl) (fun _ => ⟨(i_lo _), (i_hi _)⟩) ne_57 eq_58
  have hf_60 : Fm (fun c => (o + 24 ≤ c ∧ c < o + 53) ∨ (o + 62 ≤ c ∧ c < o + 65)) I0 I_56 := hf_49.call (M' := fun c => c = (o + 62)) ne_57 (fun c hc => by first | exact hc | (dsimp only at hc ⊢; omega) | omega)
  have t_61 : (I_56 (o + 31) 12).toInt = (I_45 (o + 31) 12).toInt := by rw [ne_57 (o + 31) (by omega)]
  have t_62 : (I_56 (o + 31) 13).toInt = (I_45 (o + 31) 13).toInt := by rw [ne_57 (o + 31) (by omega)]
  have k_63 : FacOK I_56 x1 := k_52.fr (ne_57 _ (by omega)) (ne_57 _ (by omega)) (ne_57 _ (by omega)) (by rw [ne_57 x1 (by omega)])
  have k_64 : LodOK I_56 (o + 44) := u_44.fr (ne_57 _ (by omega)) (ne_57 _ (by omega)) (ne_57 _ (by omega)) (by rw [ne_57 (o + 44) (by omega)])
  exact yRun_begin_45 (I0 := I0) (L0 := L0) (p2 := p2) hok hw ra hw1 ra1 hwuo_0 rauo_0 hwuo_1 rauo_1 huo_0 huo_1 hs0 hq0 hp  _ hR_59 hf_60 (by first | omega | (intro h; omega) | exact Or.inl rfl | exact Or.inr rfl) (by first | omega | (intro h; omega) | exact Or.inl rfl | exact Or.inr rfl) k_63 k_64 (Nat.lt_succ_self _)
set_option maxHeartbeats 4000000 in
set_option maxRecDepth 20000 in
theorem y_Run_finish {D : va_G} {cA : FieldType → ClassId} {b : Nat} {E : State → Prop} {R : qRg} {o n : Nat} {sh : Nat → qC} {Rf : Nat → Nat → Option Nat} {I0 : Nat → Nat → Int32} {L0 : Nat → Nat → Int64} {post : Option Value → qS → Prop} {uo_0 : Nat} {uo_1 : Nat} (hok : q_ok (qGG D cA b E)) (hw : WfRun (qGG D cA b E) n sh Rf o) (ra : RARun R o) (hwuo_0 : WfLand (qGG D cA b E) n sh Rf uo_0) (rauo_0 : RALand R uo_0) (hwuo_1 : WfTrade (qGG D cA b E) n sh Rf uo_1) (rauo_1 : RATrade R uo_1) (huo_0 : Rf o 0 = some uo_0) (huo_1 : Rf o 1 = some uo_1) (hq0 : (I0 (o + 31) 13).toInt ≤ (I0 (o + 31) 12).toInt) (hq1 : LodOK I0 (o + 44)) (hR : RI R I0) (hp : ∀ (I' : Nat → Nat → Int32) (L' : Nat → Nat → Int64), RI R I' → Fm (fun c => c = o ∨ (o + 19 ≤ c ∧ c < o + 61)) I0 I' → ((I' (o + 31) 13).toInt ≤ (I' (o + 31) 12).toInt) → (LodOK I' (o + 44)) → post none (n, sh, Rf, I', L')) : Ev (qGG D cA b E) mRun_finish 3 (0, 0) 0 (lv_args 0 [.ref o]) [] (n, sh, Rf, I0, L0) post := by
  have hf : Fm (fun c => c = o ∨ (o + 19 ≤ c ∧ c < o + 61)) I0 I0 := Fm.rf
  have g_1 : (0 : Int) ≤ (I0 (o + 31) 12).toInt ∧ (I0 (o + 31) 12).toInt ≤ 1440 := hR.at0 (rsRun_4 ra) 12 (by decide)
  have g_2 : (0 : Int) ≤ (I0 (o + 31) 13).toInt ∧ (I0 (o + 31) 13).toInt ≤ 1440 := hR.at0 (rsRun_4 ra) 13 (by decide)
  refine sRun_finish_0 o n sh Rf I0 L0 post  hok hw ?_
  unfold fRun_finish_0
  have g_3 : (0 : Int) ≤ (I0 o 16).toInt ∧ (I0 o 16).toInt ≤ 240 := hR.at0 ra 16 (by decide)
  refine fun I_4 e_5 => ?_
  have hR_6 : RI R I_4 := hR.up0 (k := 17) ra (by decide) (Or.inl rfl) e_5 (show (0 : Int) ≤ (I0 o 16).toInt by omega) (show (I0 o 16).toInt ≤ (240 : Int) by omega)
  have hf_7 : Fm (fun c => c = o ∨ (o + 19 ≤ c ∧ c < o + 61)) I0 I_4 := hf.set (by first | rfl | omega | (dsimp only; omega)) e_5
  have t_8 : (I_4 (o + 31) 12).toInt = (I0 (o + 31) 12).toInt := by rw [← e_5, q_u_ne (by omega)]
  have t_9 : (I_4 (o + 31) 13).toInt = (I0 (o + 31) 13).toInt := by rw [← e_5, q_u_ne (by omega)]
  have t_10 : (I_4 o 16).toInt = (I0 o 16).toInt := by rw [← e_5, q_u_k (by decide)]
  have t_11 : (I_4 o 17).toInt = (I0 o 16).toInt := by rw [← e_5, q_u_at]
  have k_12 : LodOK I_4 (o + 44) := hq1.fr (by rw [← e_5]; exact q_u_ne (by omega)) (by rw [← e_5]; exact q_u_ne (by omega)) (by rw [← e_5]; exact q_u_ne (by omega)) (by rw [← e_5, q_u_ne (by omega)])
  refine y_Run_tellMonth hok hw ra hwuo_0 rauo_0 hwuo_1 rauo_1 huo_0 huo_1 hR_6 (fun I_15 L_16 hR_17 fr_18 u_14 => ⟨I_15, L_16, rfl, rfl, ?_⟩)
  have hf_19 : Fm (fun c => c = o ∨ (o + 19 ≤ c ∧ c < o + 61)) I0 I_15 := hf_7.call fr_18 (fun c hc => by first | exact hc | (dsimp only at hc ⊢; omega) | omega)
  have t_20 : (I_15 (o + 31) 12).toInt = (I_4 (o + 31) 12).toInt := by rw [fr_18 (o + 31) (by first | omega | (dsimp only; omega))]
  have t_21 : (I_15 (o + 31) 13).toInt = (I_4 (o + 31) 13).toInt := by rw [fr_18 (o + 31) (by first | omega | (dsimp only; omega))]
  have g_22 : (0 : Int) ≤ (I_15 o 16).toInt ∧ (I_15 o 16).toInt ≤ 240 := hR_17.at0 ra 16 (by decide)
  have g_23 : (0 : Int) ≤ (I_15 o 17).toInt ∧ (I_15 o 17).toInt ≤ 240 := hR_17.at0 ra 17 (by decide)
  have k_24 : LodOK I_15 (o + 44) := k_12.fr (fr_18 _ (by first | omega | (dsimp only; omega))) (fr_18 _ (by first | omega | (dsimp only; omega))) (fr_18 _ (by first | omega | (dsimp only; omega))) (by rw [fr_18 (o + 44) (by first | omega | (dsimp only; omega))])
  refine y_Papers_closeQueue hok (wsRun_4 hw) (rsRun_4 ra) (by first | omega | (intro h; omega) | exact Or.inl rfl | exact Or.inr rfl) hR_17 (fun I_27 L_28 hR_29 fr_30 u_26 => ⟨I_27, L_28, rfl, rfl, ?_⟩)
  have hf_31 : Fm (fun c => c = o ∨ (o + 19 ≤ c ∧ c < o + 61)) I0 I_27 := hf_19.call fr_30 (fun c hc => by first | exact hc | (dsimp only at hc ⊢; omega) | omega)
  have g_32 : (0 : Int) ≤ (I_27 (o + 31) 12).toInt ∧ (I_27 (o + 31) 12).toInt ≤ 1440 := hR_29.at0 (rsRun_4 ra) 12 (by decide)
  have g_33 : (0 : Int) ≤ (I_27 (o + 31) 13).toInt ∧ (I_27 (o + 31) 13).toInt ≤ 1440 := hR_29.at0 (rsRun_4 ra) 13 (by decide)
  have t_34 : (I_27 o 16).toInt = (I_15 o 16).toInt := by rw [fr_30 o (by first | omega | (dsimp only; omega))]
  have t_35 : (I_27 o 17).toInt = (I_15 o 17).toInt := by rw [fr_30 o (by first | omega | (dsimp only; omega))]
  have k_36 : LodOK I_27 (o + 44) := k_24.fr (fr_30 _ (by first | omega | (dsimp only; omega))) (fr_30 _ (by first | omega | (dsimp only; omega))) (fr_30 _ (by first | omega | (dsimp only; omega))) (by rw [fr_30 (o + 44) (by first | omega | (dsimp only; omega))])
  have g_37 : (0 : Int) ≤ (I_27 (o + 31) 13).toInt ∧ (I_27 (o + 31) 13).toInt ≤ 1440 := hR_29.at0 (rsRun_4 ra) 13 (by decide)
  have l_38 : (6 : Int32).toInt = 6 := rfl
  refine fun L_39 e_40 => ?_
  have l_41 : (7 : Int32).toInt = 7 := rfl
  refine fun L_42 e_43 => ?_
  have g_44 : (0 : Int) ≤ (I_27 o 16).toInt ∧ (I_27 o 16).toInt ≤ 240 := hR_29.at0 ra 16 (by decide)
  have l_45 : (10 : Int32).toInt = 10 := rfl
  refine fun L_46 e_47 => ?_
  have l_48 : (1 : Int32).toInt = 1 := rfl
  refine fun I_49 e_50 => ?_
  have hR_51 : RI R I_49 := hR_29.up0 (k := 15) ra (by decide) (Or.inl rfl) e_50 (i_lo _) (i_hi _)
  have hf_52 : Fm (fun c => c = o ∨ (o + 19 ≤ c ∧ c < o + 61)) I0 I_49 := hf_31.set (by first | rfl | omega | (dsimp only; omega)) e_50
  have t_53 : (I_49 (o + 31) 12).toInt = (I_27 (o + 31) 12).toInt := by rw [← e_50, q_u_ne (by omega)]
  have t_54 : (I_49 (o + 31) 13).toInt = (I_27 (o + 31) 13).toInt := by rw [← e_50, q_u_ne (by omega)]
  have t_55 : (I_49 o 16).toInt = (I_27 o 16).toInt := by rw [← e_50, q_u_k (by decide)]
  have t_56 : (I_49 o 17).toInt = (I_27 o 17).toInt := by rw [← e_50, q_u_k (by decide)]
  have k_57 : LodOK I_49 (o + 44) := k_36.fr (by rw [← e_50]; exact q_u_ne (by omega)) (by rw [← e_50]; exact q_u_ne (by omega)) (by rw [← e_50]; exact q_u_ne (by omega)) (by rw [← e_50, q_u_ne (by omega)])
  exact (hp _ _ hR_51 hf_52 (by first | omega | (intro h; omega) | exact Or.inl rfl | exact Or.inr rfl) k_57)
set_option maxHeartbeats 4000000 in
set_option maxRecDepth 20000 in
theorem yRun_play_37 {D : va_G} {cA : FieldType → ClassId} {b : Nat} {E : State → Prop} {R : qRg} {o n : Nat} {sh : Nat → qC} {Rf : Nat → Nat → Option Nat} {I0 : Nat → Nat → Int32} {L0 : Nat → Nat → Int64} {post : Option Value → qS → Prop} {x1 : Nat} {x2 : Nat} {x3 : Nat} {x4 : Nat} {uo_0 : Nat} {uo_1 : Nat} {p5 : Int32} {p6 : Int32} (hok : q_ok (qGG D cA b E)) (hw : WfRun (qGG D cA b E) n sh Rf o) (ra : RARun R o) (hw1 : WfLand (qGG D cA b E) n sh Rf x1) (ra1 : RALand R x1) (hw2 : WfTrade (qGG D cA b E) n sh Rf x2) (ra2 : RATrade R x2) (hw3 : WfReform (qGG D cA b E) n sh Rf x3) (ra3 : RAReform R x3) (hw4 : WfFacts (qGG D cA b E) n sh Rf x4) (ra4 : RAFacts R x4) (hwuo_0 : WfLand (qGG D cA b E) n sh Rf uo_0) (rauo_0 : RALand R uo_0) (hwuo_1 : WfTrade (qGG D cA b E) n sh Rf uo_1) (rauo_1 : RATrade R uo_1) (huo_0 : Rf o 0 = some uo_0) (huo_1 : Rf o 1 = some uo_1) (hEN : qEN E) (hs0 : x4 + 7 ≤ o) (hq0 : (0 : Int) ≤ p5.toInt ∧ p5.toInt ≤ 240) (hq1 : FacOK I0 x4) (hp : ∀ (I' : Nat → Nat → Int32) (L' : Nat → Nat → Int64), RI R I' → Fm (fun c => c = o ∨ (o + 19 ≤ c ∧ c < o + 66)) I0 I' → ((I' (o + 31) 13).toInt ≤ (I' (o + 31) 12).toInt) → (LodOK I' (o + 44)) → post none (n, sh, Rf, I', L')) : ∀ (k : Nat) {x5 : Int32} {x6 : Int32} {I : Nat → Nat → Int32} {L : Nat → Nat → Int64}, RI R I → Fm (fun c => c = o ∨ (o + 19 ≤ c ∧ c < o + 66)) I0 I → ((0 : Int) ≤ x5.toInt ∧ x5.toInt ≤ 240) → ((I (o + 31) 13).toInt ≤ (I (o + 31) 12).toInt) → (LodOK I (o + 44)) → (240 - (I o 17).toInt).toNat < k → Ev (qGG D cA b E) mRun_play 6 (0, 0) 37 [(0, .ref o), (1, .ref x1), (2, .ref x2), (3, .ref x3), (4, .ref x4), (5, .int x5), (6, .int x6)] [] (n, sh, Rf, I, L) post := by
  intro k
  induction k with
  | zero =>
    intro x5 x6 I L hR hf hi0 hi1 hi2 hm
    exact absurd hm (Nat.not_lt_zero _)
  | succ k ih =>
    intro x5 x6 I L hR hf hi0 hi1 hi2 hm
    have g_1 : (0 : Int) ≤ (I (o + 31) 12).toInt ∧ (I (o + 31) 12).toInt ≤ 1440 := hR.at0 (rsRun_4 ra) 12 (by decide)
    have g_2 : (0 : Int) ≤ (I (o + 31) 13).toInt ∧ (I (o + 31) 13).toInt ≤ 1440 := hR.at0 (rsRun_4 ra) 13 (by decide)
    have g_3 : (0 : Int) ≤ (I o 17).toInt ∧ (I o 17).toInt ≤ 240 := hR.at0 ra 17 (by decide)
    refine sRun_play_37 o n sh Rf I L post x1 x2 x3 x4 x5 x6 uo_0 hok hw hw1 hw2 hw3 hw4 huo_0 hwuo_0 ?_
    unfold fRun_play_37
    have g_4 : (0 : Int) ≤ (I o 17).toInt ∧ (I o 17).toInt ≤ 240 := hR.at0 ra 17 (by decide)
    refine ⟨fun c_5 => ?_, fun c_5 => ?_⟩
    · have d_6 := iLe c_5
      refine y_Run_finish hok hw ra hwuo_0 rauo_0 hwuo_1 rauo_1 huo_0 huo_1 (by first | omega | (intro h; omega) | exact Or.inl rfl | exact Or.inr rfl) hi2 hR (fun I_10 L_11 hR_12 fr_13 u_8 u_9 => ⟨I_10, L_11, rfl, rfl, ?_⟩)
      have hf_14 : Fm (fun c => c = o ∨ (o + 19 ≤ c ∧ c < o + 66)) I0 I_10 := hf.call fr_13 (fun c hc => by first | exact hc | (dsimp only at hc ⊢; omega) | omega)
      have g_15 : (0 : Int) ≤ (I_10 (o + 31) 12).toInt ∧ (I_10 (o + 31) 12).toInt ≤ 1440 := hR_12.at0 (rsRun_4 ra) 12 (by decide)
      have g_16 : (0 : Int) ≤ (I_10 (o + 31) 13).toInt ∧ (I_10 (o + 31) 13).toInt ≤ 1440 := hR_12.at0 (rsRun_4 ra) 13 (by decide)
      have g_17 : (0 : Int) ≤ (I_10 o 17).toInt ∧ (I_10 o 17).toInt ≤ 240 := hR_12.at0 ra 17 (by decide)
      exact (hp _ _ hR_12 hf_14 (by first | omega | (intro h; omega) | exact Or.inl rfl | exact Or.inr rfl) u_9)
    · have d_18 := iNle c_5
      have g_19 : (0 : Int) ≤ (I o 17).toInt ∧ (I o 17).toInt ≤ 240 := hR.at0 ra 17 (by decide)
      refine y_Papers_loseForged hok (wsRun_4 hw) (rsRun_4 ra) (by first | omega | (intro h; omega) | exact Or.inl rfl | exact Or.inr rfl) hR (fun I_22 L_23 hR_24 fr_25 u_21 => ⟨I_22, L_23, rfl, rfl, ?_⟩)
      have hf_26 : Fm (fun c => c = o ∨ (o + 19 ≤ c ∧ c < o + 66)) I0 I_22 := hf.call fr_25 (fun c hc => by first | exact hc | (dsimp only at hc ⊢; omega) | omega)
      have g_27 : (0 : Int) ≤ (I_22 (o + 31) 12).toInt ∧ (I_22 (o + 31) 12).toInt ≤ 1440 := hR_24.at0 (rsRun_4 ra) 12 (by decide)
      have g_28 : (0 : Int) ≤ (I_22 (o + 31) 13).toInt ∧ (I_22 (o + 31) 13).toInt ≤ 1440 := hR_24.at0 (rsRun_4 ra) 13 (by decide)
      have t_29 : (I_22 o 17).toInt = (I o 17).toInt := by rw [fr_25 o (by first | omega | (dsimp only; omega))]
      have k_30 : LodOK I_22 (o + 44) := hi2.fr (fr_25 _ (by first | omega | (dsimp only; omega))) (fr_25 _ (by first | omega | (dsimp only; omega))) (fr_25 _ (by first | omega | (dsimp only; omega))) (by rw [fr_25 (o + 44) (by first | omega | (dsimp only; omega))])
      refine y_Run_buryDead hok hw ra hwuo_1 rauo_1 hwuo_0 rauo_0 huo_1 huo_0 (by first | omega | (intro h; omega) | exact Or.inl rfl | exact Or.inr rfl) k_30 hR_24 (fun I_34 L_35 hR_36 fr_37 u_32 u_33 => ⟨I_34, L_35, rfl, rfl, ?_⟩)
      have hf_38 : Fm (fun c => c = o ∨ (o + 19 ≤ c ∧ c < o + 66)) I0 I_34 := hf_26.call fr_37 (fun c hc => by first | exact hc | (dsimp only at hc ⊢; omega) | omega)
      have g_39 : (0 : Int) ≤ (I_34 (o + 31) 12).toInt ∧ (I_34 (o + 31) 12).toInt ≤ 1440 := hR_36.at0 (rsRun_4 ra) 12 (by decide)
      have g_40 : (0 : Int) ≤ (I_34 (o + 31) 13).toInt ∧ (I_34 (o + 31) 13).toInt ≤ 1440 := hR_36.at0 (rsRun_4 ra) 13 (by decide)
      have t_41 : (I_34 o 17).toInt = (I_22 o 17).toInt := by rw [fr_37 o (by first | omega | (dsimp only; omega))]
      refine y_Run_makeSalt hok hw ra hw4 ra4 hwuo_0 rauo_0 hwuo_1 rauo_1 huo_0 huo_1 hR_36 (fun I_43 L_44 hR_45 fr_46  => ⟨I_43, L_44, rfl, rfl, ?_⟩)
      have hf_47 : Fm (fun c => c = o ∨ (o + 19 ≤ c ∧ c < o + 66)) I0 I_43 := hf_38.call fr_46 (fun c hc => by first | exact hc | (dsimp only at hc ⊢; omega) | omega)
      have t_48 : (I_43 (o + 31) 12).toInt = (I_34 (o + 31) 12).toInt := by rw [fr_46 (o + 31) (by first | omega | (dsimp only; omega))]
      have t_49 : (I_43 (o + 31) 13).toInt = (I_34 (o + 31) 13).toInt := by rw [fr_46 (o + 31) (by first | omega | (dsimp only; omega))]
      have t_50 : (I_43 o 17).toInt = (I_34 o 17).toInt := by rw [fr_46 o (by first | omega | (dsimp only; omega))]
      have k_51 : LodOK I_43 (o + 44) := u_33.fr (fr_46 _ (by first | omega | (dsimp only; omega))) (fr_46 _ (by first | omega | (dsimp only; omega))) (fr_46 _ (by first | omega | (dsimp only; omega))) (by rw [fr_46 (o + 44) (by first | omega | (dsimp only; omega))])
      refine y_Run_tellMonth hok hw ra hwuo_0 rauo_0 hwuo_1 rauo_1 huo_0 huo_1 hR_45 (fun I_54 L_55 hR_56 fr_57 u_53 => ⟨I_54, L_55, rfl, rfl, ?_⟩)
      have hf_58 : Fm (fun c => c = o ∨ (o + 19 ≤ c ∧ c < o + 66)) I0 I_54 := hf_47.call fr_57 (fun c hc => by first | exact hc | (dsimp only at hc ⊢; omega) | omega)
      have t_59 : (I_54 (o + 31) 12).toInt = (I_43 (o + 31) 12).toInt := by rw [fr_57 (o + 31) (by first | omega | (dsimp only; omega))]
      have t_60 : (I_54 (o + 31) 13).toInt = (I_43 (o + 31) 13).toInt := by rw [fr_57 (o + 31) (by first | omega | (dsimp only; omega))]
      have g_61 : (0 : Int) ≤ (I_54 o 17).toInt ∧ (I_54 o 17).toInt ≤ 240 := hR_56.at0 ra 17 (by decide)
      have k_62 : LodOK I_54 (o + 44) := k_51.fr (fr_57 _ (by first | omega | (dsimp only; omega))) (fr_57 _ (by first | omega | (dsimp only; omega))) (fr_57 _ (by first | omega | (dsimp only; omega))) (by rw [fr_57 (o + 44) (by first | omega | (dsimp only; omega))])
      refine y_Run_bringLoads hok hw ra hwuo_0 rauo_0 hwuo_1 rauo_1 huo_0 huo_1 (by first | omega | (intro h; omega) | exact Or.inl rfl | exact Or.inr rfl) k_62 hR_56 (fun I_66 L_67 hR_68 fr_69 u_64 u_65 => ⟨I_66, L_67, rfl, rfl, ?_⟩)
      have hf_70 : Fm (fun c => c = o ∨ (o + 19 ≤ c ∧ c < o + 66)) I0 I_66 := hf_58.call fr_69 (fun c hc => by first | exact hc | (dsimp only at hc ⊢; omega) | omega)
      have g_71 : (0 : Int) ≤ (I_66 (o + 31) 12).toInt ∧ (I_66 (o + 31) 12).toInt ≤ 1440 := hR_68.at0 (rsRun_4 ra) 12 (by decide)
      have g_72 : (0 : Int) ≤ (I_66 (o + 31) 13).toInt ∧ (I_66 (o + 31) 13).toInt ≤ 1440 := hR_68.at0 (rsRun_4 ra) 13 (by decide)
      have t_73 : (I_66 o 17).toInt = (I_54 o 17).toInt := by rw [fr_69 o (by first | omega | (dsimp only; omega))]
      refine y_Run_drawPapers hok hw ra hwuo_0 rauo_0 hwuo_1 rauo_1 huo_0 huo_1 hEN (by first | omega | (intro h; omega) | exact Or.inl rfl | exact Or.inr rfl) u_65 hR_68 (fun I_77 L_78 hR_79 fr_80 u_75 u_76 => ⟨I_77, L_78, rfl, rfl, ?_⟩)
      have hf_81 : Fm (fun c => c = o ∨ (o + 19 ≤ c ∧ c < o + 66)) I0 I_77 := hf_70.call fr_80 (fun c hc => by first | exact hc | (dsimp only at hc ⊢; omega) | omega)
      have g_82 : (0 : Int) ≤ (I_77 (o + 31) 12).toInt ∧ (I_77 (o + 31) 12).toInt ≤ 1440 := hR_79.at0 (rsRun_4 ra) 12 (by decide)
      have g_83 : (0 : Int) ≤ (I_77 (o + 31) 13).toInt ∧ (I_77 (o + 31) 13).toInt ≤ 1440 := hR_79.at0 (rsRun_4 ra) 13 (by decide)
      have t_84 : (I_77 o 17).toInt = (I_66 o 17).toInt := by rw [fr_80 o (by first | omega | (dsimp only; omega))]
      have l_85 : (0 : Int32).toInt = 0 := rfl
      refine y_Realm_eat hok (wsRun_3 hw) (rsRun_3 ra) hwuo_0 rauo_0 hR_79 (fun r_86 I_87 L_88 hR_89 fr_90  => ⟨r_86, I_87, L_88, rfl, rfl, ?_⟩)
      have hf_91 : Fm (fun c => c = o ∨ (o + 19 ≤ c ∧ c < o + 66)) I0 I_87 := hf_81.call fr_90 (fun c hc => by first | exact hc | (dsimp only at hc ⊢; omega) | omega)
      have t_92 : (I_87 (o + 31) 12).toInt = (I_77 (o + 31) 12).toInt := by rw [fr_90 (o + 31) (by first | omega | (dsimp only; omega))]
      have t_93 : (I_87 (o + 31) 13).toInt = (I_77 (o + 31) 13).toInt := by rw [fr_90 (o + 31) (by first | omega | (dsimp only; omega))]
      have t_94 : (I_87 o 17).toInt = (I_77 o 17).toInt := by rw [fr_90 o (by first | omega | (dsimp only; omega))]
      have k_95 : LodOK I_87 (o + 44) := u_76.fr (fr_90 _ (by first | omega | (dsimp only; omega))) (fr_90 _ (by first | omega | (dsimp only; omega))) (fr_90 _ (by first | omega | (dsimp only; omega))) (by rw [fr_90 (o + 44) (by first | omega | (dsimp only; omega))])
      refine fun L_96 e_97 => ?_
      refine y_Realm_use hok (wsRun_3 hw) (rsRun_3 ra) hwuo_0 rauo_0 hR_89 (fun I_99 L_100 hR_101 fr_102  => ⟨I_99, L_100, rfl, rfl, ?_⟩)
      have hf_103 : Fm (fun c => c = o ∨ (o + 19 ≤ c ∧ c < o + 66)) I0 I_99 := hf_91.call fr_102 (fun c hc => by first | exact hc | (dsimp only at hc ⊢; omega) | omega)
      have t_104 : (I_99 (o + 31) 12).toInt = (I_87 (o + 31) 12).toInt := by rw [fr_102 (o + 31) (by first | omega | (dsimp only; omega))]
      have t_105 : (I_99 (o + 31) 13).toInt = (I_87 (o + 31) 13).toInt := by rw [fr_102 (o + 31) (by first | omega | (dsimp only; omega))]
      have t_106 : (I_99 o 17).toInt = (I_87 o 17).toInt := by rw [fr_102 o (by first | omega | (dsimp only; omega))]
      have k_107 : LodOK I_99 (o + 44) := k_95.fr (fr_102 _ (by first | omega | (dsimp only; omega))) (fr_102 _ (by first | omega | (dsimp only; omega))) (fr_102 _ (by first | omega | (dsimp only; omega))) (by rw [fr_102 (o + 44) (by first | omega | (dsimp only; omega))])
      refine y_Run_takeWays hok hw ra hwuo_1 rauo_1 hwuo_0 rauo_0 huo_1 huo_0 hEN (by first | omega | (intro h; omega) | exact Or.inl rfl | exact Or.inr rfl) (by first | omega | (intro h; omega) | exact Or.inl rfl | exact Or.inr rfl) k_107 hR_101 (fun I_112 L_113 hR_114 fr_115 u_109 u_110 u_111 => ⟨I_112, L_113, rfl, rfl, ?_⟩)
      have hf_116 : Fm (fun c => c = o ∨ (o + 19 ≤ c ∧ c < o + 66)) I0 I_112 := hf_103.call fr_115 (fun c hc => by first | exact hc | (dsimp only at hc ⊢; omega) | omega)
      have g_117 : (0 : Int) ≤ (I_112 (o + 31) 12).toInt ∧ (I_112 (o + 31) 12).toInt ≤ 1440 := hR_114.at0 (rsRun_4 ra) 12 (by decide)
      have g_118 : (0 : Int) ≤ (I_112 (o + 31) 13).toInt ∧ (I_112 (o + 31) 13).toInt ≤ 1440 := hR_114.at0 (rsRun_4 ra) 13 (by decide)
      have g_119 : (0 : Int) ≤ (I_112 o 17).toInt ∧ (I_112 o 17).toInt ≤ 240 := hR_114.at0 ra 17 (by decide)
      refine y_Run_smuggleAll hok hw ra hwuo_0 rauo_0 hwuo_1 rauo_1 huo_0 huo_1 hR_114 (fun I_121 L_122 hR_123 fr_124  => ⟨I_121, L_122, rfl, rfl, ?_⟩)
      have hf_125 : Fm (fun c => c = o ∨ (o + 19 ≤ c ∧ c < o + 66)) I0 I_121 := hf_116.call fr_124 (fun c hc => by first | exact hc | (dsimp only at hc ⊢; omega) | omega)
      have t_126 : (I_121 (o + 31) 12).toInt = (I_112 (o + 31) 12).toInt := by rw [fr_124 (o + 31) (by first | omega | (dsimp only; omega))]
      have t_127 : (I_121 (o + 31) 13).toInt = (I_112 (o + 31) 13).toInt := by rw [fr_124 (o + 31) (by first | omega | (dsimp only; omega))]
      have t_128 : (I_121 o 17).toInt = (I_112 o 17).toInt := by rw [fr_124 o (by first | omega | (dsimp only; omega))]
      have k_129 : LodOK I_121 (o + 44) := u_111.fr (fr_124 _ (by first | omega | (dsimp only; omega))) (fr_124 _ (by first | omega | (dsimp only; omega))) (fr_124 _ (by first | omega | (dsimp only; omega))) (by rw [fr_124 (o + 44) (by first | omega | (dsimp only; omega))])
      have g_130 : (0 : Int) ≤ (I_121 o 17).toInt ∧ (I_121 o 17).toInt ≤ 240 := hR_123.at0 ra 17 (by decide)
      refine y_Records_keepRealm hok (wsRun_6 hw) (rsRun_6 ra) (wsRun_3 hw) (rsRun_3 ra) hwuo_0 rauo_0 (wsRun_4 hw) (rsRun_4 ra) (by first | omega | (intro h; omega) | exact Or.inl rfl | exact Or.inr rfl) hR_123 (fun I_132 L_133 hR_134 fr_135  => ⟨I_132, L_133, rfl, rfl, ?_⟩)
      have hf_136 : Fm (fun c => c = o ∨ (o + 19 ≤ c ∧ c < o + 66)) I0 I_132 := hf_125.call fr_135 (fun c hc => by first | exact hc | (dsimp only at hc ⊢; omega) | omega)
      have t_137 : (I_132 (o + 31) 12).toInt = (I_121 (o + 31) 12).toInt := by rw [fr_135 (o + 31) (by first | omega | (dsimp only; omega))]
      have t_138 : (I_132 (o + 31) 13).toInt = (I_121 (o + 31) 13).toInt := by rw [fr_135 (o + 31) (by first | omega | (dsimp only; omega))]
      have t_139 : (I_132 o 17).toInt = (I_121 o 17).toInt := by rw [fr_135 o (by first | omega | (dsimp only; omega))]
      have k_140 : LodOK I_132 (o + 44) := k_129.fr (fr_135 _ (by first | omega | (dsimp only; omega))) (fr_135 _ (by first | omega | (dsimp only; omega))) (fr_135 _ (by first | omega | (dsimp only; omega))) (by rw [fr_135 (o + 44) (by first | omega | (dsimp only; omega))])
      have g_141 : (0 : Int) ≤ (I_132 o 17).toInt ∧ (I_132 o 17).toInt ≤ 240 := hR_134.at0 ra 17 (by decide)
      have l_142 : (1 : Int32).toInt = 1 := rfl
      have a_143 : ((I_132 o 17) + 1).toInt = (I_132 o 17).toInt + (1 : Int32).toInt := tAdd (by omega) (by omega)
      refine fun I_144 e_145 => ?_
      have hR_146 : RI R I_144 := hR_134.up0 (k := 17) ra (by decide) (Or.inl rfl) e_145 (show (0 : Int) ≤ ((I_132 o 17) + 1).toInt by omega) (show ((I_132 o 17) + 1).toInt ≤ (240 : Int) by omega)
      have hf_147 : Fm (fun c => c = o ∨ (o + 19 ≤ c ∧ c < o + 66)) I0 I_144 := hf_136.set (by first | rfl | omega | (dsimp only; omega)) e_145
      have t_148 : (I_144 (o + 31) 12).toInt = (I_132 (o + 31) 12).toInt := by rw [← e_145, q_u_ne (by omega)]
      have t_149 : (I_144 (o + 31) 13).toInt = (I_132 (o + 31) 13).toInt := by rw [← e_145, q_u_ne (by omega)]
      have t_150 : (I_144 o 17).toInt = ((I_132 o 17) + 1).toInt := by rw [← e_145, q_u_at]
      have k_151 : LodOK I_144 (o + 44) := k_140.fr (by rw [← e_145]; exact q_u_ne (by omega)) (by rw [← e_145]; exact q_u_ne (by omega)) (by rw [← e_145]; exact q_u_ne (by omega)) (by rw [← e_145, q_u_ne (by omega)])
      exact ih hR_146 hf_147 (by first | omega | (intro h; omega) | exact Or.inl rfl | exact Or.inr rfl) (by first | omega | (intro h; omega) | exact Or.inl rfl | exact Or.inr rfl) k_151 (by omega)
set_option maxHeartbeats 4000000 in
set_option maxRecDepth 20000 in
theorem y_Run_play_at10 {D : va_G} {cA : FieldType → ClassId} {b : Nat} {E : State → Prop} {R : qRg} {o n : Nat} {sh : Nat → qC} {Rf : Nat → Nat → Option Nat} {I0 : Nat → Nat → Int32} {L0 : Nat → Nat → Int64} {post : Option Value → qS → Prop} {x1 : Nat} {x2 : Nat} {x3 : Nat} {x4 : Nat} {uo_0 : Nat} {uo_1 : Nat} {p5 : Int32} {p6 : Int32} (hok : q_ok (qGG D cA b E)) (hw : WfRun (qGG D cA b E) n sh Rf o) (ra : RARun R o) (hw1 : WfLand (qGG D cA b E) n sh Rf x1) (ra1 : RALand R x1) (hw2 : WfTrade (qGG D cA b E) n sh Rf x2) (ra2 : RATrade R x2) (hw3 : WfReform (qGG D cA b E) n sh Rf x3) (ra3 : RAReform R x3) (hw4 : WfFacts (qGG D cA b E) n sh Rf x4) (ra4 : RAFacts R x4) (hwuo_0 : WfLand (qGG D cA b E) n sh Rf uo_0) (rauo_0 : RALand R uo_0) (hwuo_1 : WfTrade (qGG D cA b E) n sh Rf uo_1) (rauo_1 : RATrade R uo_1) (huo_0 : Rf o 0 = some uo_0) (huo_1 : Rf o 1 = some uo_1) (hEN : qEN E) (hs0 : x4 + 7 ≤ o) (hq0 : (0 : Int) ≤ p5.toInt ∧ p5.toInt ≤ 240) (hq1 : FacOK I0 x4) (hR : RI R I0) (hp : ∀ (I' : Nat → Nat → Int32) (L' : Nat → Nat → Int64), RI R I' → Fm (fun c => c = o ∨ (o + 19 ≤ c ∧ c < o + 66)) I0 I' → ((I' (o + 31) 13).toInt ≤ (I' (o + 31) 12).toInt) → (LodOK I' (o + 44)) → post none (n, sh, Rf, I', L')) : Ev (qGG D cA b E) mRun_play 6 (0, 0) 10 [(0, .ref o), (1, .ref x1), (2, .ref x2), (3, .ref x3), (4, .ref x4), (5, .int p5), (6, .int p6)] [] (n, sh, Rf, I0, L0) post := by
  have hf : Fm (fun c => c = o ∨ (o + 19 ≤ c ∧ c < o + 66)) I0 I0 := Fm.rf
  have g_152 : (0 : Int) ≤ (I0 (o + 31) 12).toInt ∧ (I0 (o + 31) 12).toInt ≤ 1440 := hR.at0 (rsRun_4 ra) 12 (by decide)
  have g_153 : (0 : Int) ≤ (I0 (o + 31) 13).toInt ∧ (I0 (o + 31) 13).toInt ≤ 1440 := hR.at0 (rsRun_4 ra) 13 (by decide)
  have g_154 : (0 : Int) ≤ (I0 o 17).toInt ∧ (I0 o 17).toInt ≤ 240 := hR.at0 ra 17 (by decide)
  refine sRun_play_10 o n sh Rf I0 L0 post x1 x2 x3 x4 p5 p6 uo_0 hok hw hw1 hw2 hw3 hw4 huo_0 hwuo_0 ?_
  unfold fRun_play_10
  refine fun I_155 e_156 => ?_
  have hR_157 : RI R I_155 := hR.up0 (k := 16) ra (by decide) (Or.inl rfl) e_156 (show (0 : Int) ≤ p5.toInt by omega) (show p5.toInt ≤ (240 : Int) by omega)
  have hf_158 : Fm (fun c => c = o ∨ (o + 19 ≤ c ∧ c < o + 66)) I0 I_155 := hf.set (by first | rfl | omega | (dsimp only; omega)) e_156
  have t_159 : (I_155 (o + 31) 12).toInt = (I0 (o + 31) 12).toInt := by rw [← e_156, q_u_ne (by omega)]
  have t_160 : (I_155 (o + 31) 13).toInt = (I0 (o + 31) 13).toInt := by rw [← e_156, q_u_ne (by omega)]
  have t_161 : (I_155 o 17).toInt = (I0 o 17).toInt := by rw [← e_156, q_u_k (by decide)]
  have t_162 : (I_155 o 16).toInt = p5.toInt := by rw [← e_156, q_u_at]
  have k_163 : FacOK I_155 x4 := hq1.fr (by rw [← e_156]; exact q_u_ne (by omega)) (by rw [← e_156]; exact q_u_ne (by omega)) (by rw [← e_156]; exact q_u_ne (by omega)) (by rw [← e_156, q_u_ne (by omega)])
  refine y_Reform_copyFrom hok (wsRun_2 hw) (rsRun_2 ra) hw3 ra3 hR_157 (fun I_165 L_166 hR_167 fr_168  => ⟨I_165, L_166, rfl, rfl, ?_⟩)
  have hf_169 : Fm (fun c => c = o ∨ (o + 19 ≤ c ∧ c < o + 66)) I0 I_165 := hf_158.call fr_168 (fun c hc => by first | exact hc | (dsimp only at hc ⊢; omega) | omega)
  have t_170 : (I_165 (o + 31) 12).toInt = (I_155 (o + 31) 12).toInt := by rw [fr_168 (o + 31) (by first | omega | (dsimp only; omega))]
  have t_171 : (I_165 (o + 31) 13).toInt = (I_155 (o + 31) 13).toInt := by rw [fr_168 (o + 31) (by first | omega | (dsimp only; omega))]
  have t_172 : (I_165 o 17).toInt = (I_155 o 17).toInt := by rw [fr_168 o (by first | omega | (dsimp only; omega))]
  have t_173 : (I_165 o 16).toInt = (I_155 o 16).toInt := by rw [fr_168 o (by first | omega | (dsimp only; omega))]
  have k_174 : FacOK I_165 x4 := k_163.fr (fr_168 _ (by first | omega | (dsimp only; omega))) (fr_168 _ (by first | omega | (dsimp only; omega))) (fr_168 _ (by first | omega | (dsimp only; omega))) (by rw [fr_168 x4 (by first | omega | (dsimp only; omega))])
  refine y_Run_begin hok hw ra hw4 ra4 hwuo_0 rauo_0 hwuo_1 rauo_1 huo_0 huo_1 (by first | omega | (intro h; omega) | exact Or.inl rfl | exact Or.inr rfl) k_174 hR_167 (fun I_178 L_179 hR_180 fr_181 u_176 u_177 => ⟨I_178, L_179, rfl, rfl, ?_⟩)
  have hf_182 : Fm (fun c => c = o ∨ (o + 19 ≤ c ∧ c < o + 66)) I0 I_178 := hf_169.call fr_181 (fun c hc => by first | exact hc | (dsimp only at hc ⊢; omega) | omega)
  have g_183 : (0 : Int) ≤ (I_178 (o + 31) 12).toInt ∧ (I_178 (o + 31) 12).toInt ≤ 1440 := hR_180.at0 (rsRun_4 ra) 12 (by decide)
  have g_184 : (0 : Int) ≤ (I_178 (o + 31) 13).toInt ∧ (I_178 (o + 31) 13).toInt ≤ 1440 := hR_180.at0 (rsRun_4 ra) 13 (by decide)
  have t_185 : (I_178 o 17).toInt = (I_165 o 17).toInt := by rw [fr_181 o (by first | omega | (dsimp only; omega))]
  have t_186 : (I_178 o 16).toInt = (I_165 o 16).toInt := by rw [fr_181 o (by first | omega | (dsimp only; omega))]
  have k_187 : FacOK I_178 x4 := k_174.fr (fr_181 _ (by first | omega | (dsimp only; omega))) (fr_181 _ (by first | omega | (dsimp only; omega))) (fr_181 _ (by first | omega | (dsimp only; omega))) (by rw [fr_181 x4 (by first | omega | (dsimp only; omega))])
  have l_188 : (0 : Int32).toInt = 0 := rfl
  refine fun I_189 e_190 => ?_
  have hR_191 : RI R I_189 := hR_180.up0 (k := 17) ra (by decide) (Or.inl rfl) e_190 (show (0 : Int) ≤ (0 : Int32).toInt by omega) (show (0 : Int32).toInt ≤ (240 : Int) by omega)
  have hf_192 : Fm (fun c => c = o ∨ (o + 19 ≤ c ∧ c < o + 66)) I0 I_189 := hf_182.set (by first | rfl | omega | (dsimp only; omega)) e_190
  have t_193 : (I_189 (o + 31) 12).toInt = (I_178 (o + 31) 12).toInt := by rw [← e_190, q_u_ne (by omega)]
  have t_194 : (I_189 (o + 31) 13).toInt = (I_178 (o + 31) 13).toInt := by rw [← e_190, q_u_ne (by omega)]
  have t_195 : (I_189 o 17).toInt = (0 : Int32).toInt := by rw [← e_190, q_u_at]
  have t_196 : (I_189 o 16).toInt = (I_178 o 16).toInt := by rw [← e_190, q_u_k (by decide)]
  have k_197 : FacOK I_189 x4 := k_187.fr (by rw [← e_190]; exact q_u_ne (by omega)) (by rw [← e_190]; exact q_u_ne (by omega)) (by rw [← e_190]; exact q_u_ne (by omega)) (by rw [← e_190, q_u_ne (by omega)])
  have k_198 : LodOK I_189 (o + 44) := u_177.fr (by rw [← e_190]; exact q_u_ne (by omega)) (by rw [← e_190]; exact q_u_ne (by omega)) (by rw [← e_190]; exact q_u_ne (by omega)) (by rw [← e_190, q_u_ne (by omega)])
  exact yRun_play_37 (I0 := I0) (L0 := L0) (p5 := p5) (p6 := p6) hok hw ra hw1 ra1 hw2 ra2 hw3 ra3 hw4 ra4 hwuo_0 rauo_0 hwuo_1 rauo_1 huo_0 huo_1 hEN hs0 hq0 hq1 hp  _ hR_191 hf_192 (by first | omega | (intro h; omega) | exact Or.inl rfl | exact Or.inr rfl) (by first | omega | (intro h; omega) | exact Or.inl rfl | exact Or.inr rfl) k_198 (Nat.lt_succ_self _)
