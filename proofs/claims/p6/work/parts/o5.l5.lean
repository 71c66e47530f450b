/-! The class's methods once more, with what they leave of the long rows: l5. By program (lrun.py). -/
set_option maxHeartbeats 4000000 in
set_option maxRecDepth 20000 in
theorem y_Run_bringGrainl {D : va_G} {cA : FieldType → ClassId} {b : Nat} {E : State → Prop} {R : qRg} {o n : Nat} {sh : Nat → qC} {Rf : Nat → Nat → Option Nat} {I0 : Nat → Nat → Int32} {L0 : Nat → Nat → Int64} {post : Option Value → qS → Prop} {uo_0 : Nat} {uo_1 : Nat} {p1 : Int32} (hok : q_ok (qGG D cA b E)) (hw : WfRun (qGG D cA b E) n sh Rf o) (ra : RARun R o) (hwuo_0 : WfLand (qGG D cA b E) n sh Rf uo_0) (rauo_0 : RALand R uo_0) (hwuo_1 : WfTrade (qGG D cA b E) n sh Rf uo_1) (rauo_1 : RATrade R uo_1) (huo_0 : Rf o 0 = some uo_0) (huo_1 : Rf o 1 = some uo_1) (hq0 : (0 : Int) ≤ p1.toInt ∧ p1.toInt ≤ 2879) (hq1 : (I0 (o + 31) 13).toInt ≤ (I0 (o + 31) 12).toInt) (hq2 : p1.toInt < (I0 (o + 44) 9).toInt) (hq3 : (I0 (o + 44 + 1) p1.toNatClampNeg).toInt = 0) (hq4 : LodOK I0 (o + 44)) (hR : RI R I0) (hp : ∀ (I' : Nat → Nat → Int32) (L' : Nat → Nat → Int64), RI R I' → Fm (fun c => (o + 24 ≤ c ∧ c < o + 44)) I0 I' → ((I' (o + 31) 13).toInt ≤ (I' (o + 31) 12).toInt) → (LodOK I' (o + 44)) → (FmL (fun c => False) L0 L') → post none (n, sh, Rf, I', L')) : Ev (qGG D cA b E) mRun_bringGrain 1 (0, 0) 0 (lv_args 0 [.ref o, .int p1]) [] (n, sh, Rf, I0, L0) post := by
  have hf : Fm (fun c => (o + 24 ≤ c ∧ c < o + 44)) I0 I0 := Fm.rf
  have g_1 : (0 : Int) ≤ (I0 (o + 31) 12).toInt ∧ (I0 (o + 31) 12).toInt ≤ 1440 := hR.at0 (rsRun_4 ra) 12 (by decide)
  have g_2 : (0 : Int) ≤ (I0 (o + 31) 13).toInt ∧ (I0 (o + 31) 13).toInt ≤ 1440 := hR.at0 (rsRun_4 ra) 13 (by decide)
  refine sRun_bringGrain_0 o n sh Rf I0 L0 post p1 hok hw ?_
  unfold fRun_bringGrain_0
  have hl : FmL (fun c => False) L0 L0 := FmL.rf
  have cl := tCl (x := p1) (by omega)
  have lo := (hq4 p1.toNatClampNeg (by omega)).1 hq3
  refine ⟨tIn (by omega) (by omega), ?_⟩
  refine ⟨tIn (by omega) (by omega), ?_⟩
  refine ⟨tIn (by omega) (by omega), ?_⟩
  refine ⟨tIn (by omega) (by omega), fun I_3 e_4 => ?_⟩
  have hR_5 : RI R I_3 := hR.up (rsRun_3 ra) 1 (by decide) (Or.inl rfl) e_4 (i_lo _) (i_hi _)
  have hf_6 : Fm (fun c => (o + 24 ≤ c ∧ c < o + 44)) I0 I_3 := hf.set (by first | rfl | omega | (dsimp only; omega)) e_4
  have t_7 : (I_3 (o + 31) 12).toInt = (I0 (o + 31) 12).toInt := by rw [← e_4, q_u_ne (by omega)]
  have t_8 : (I_3 (o + 31) 13).toInt = (I0 (o + 31) 13).toInt := by rw [← e_4, q_u_ne (by omega)]
  have k_9 : LodOK I_3 (o + 44) := hq4.fr (by rw [← e_4]; exact q_u_ne (by omega)) (by rw [← e_4]; exact q_u_ne (by omega)) (by rw [← e_4]; exact q_u_ne (by omega)) (by rw [← e_4, q_u_ne (by omega)])
  have w_10 : I_3 ((o + 44) + 7) = I0 ((o + 44) + 7) := by rw [← e_4, q_u_ne (by omega)]
  refine ⟨tIn (by omega) (by omega), ?_⟩
  have g_11 : (-1 : Int) ≤ (I_3 ((o + 44) + 2) (p1 : Int32).toNatClampNeg).toInt ∧ (I_3 ((o + 44) + 2) (p1 : Int32).toNatClampNeg).toInt ≤ 5 := hR_5.at (rsRun_5 ra) 2 _ (by decide)
  have l_12 : (-1 : Int32).toInt = -1 := rfl
  refine ⟨fun c_13 => ?_, fun c_13 => ?_⟩
  · have d_14 := iEq c_13
    exact (hp _ _ hR_5 hf_6 (by first | omega | (intro h; omega) | exact Or.inl rfl | exact Or.inr rfl) k_9 hl)
  · have d_15 := iNe c_13
    refine ⟨tIn (by omega) (by omega), ?_⟩
    have l_16 : (0 : Int32).toInt = 0 := rfl
    refine ⟨fun c_17 => ?_, fun c_17 => ?_⟩
    · have d_18 := iLe c_17
      exact (hp _ _ hR_5 hf_6 (by first | omega | (intro h; omega) | exact Or.inl rfl | exact Or.inr rfl) k_9 hl)
    · have d_19 := iNle c_17
      refine ⟨tIn (by omega) (by omega), ?_⟩
      have g_20 : (-1 : Int) ≤ (I_3 ((o + 44) + 2) (p1 : Int32).toNatClampNeg).toInt ∧ (I_3 ((o + 44) + 2) (p1 : Int32).toNatClampNeg).toInt ≤ 5 := hR_5.at (rsRun_5 ra) 2 _ (by decide)
      refine ⟨tIn (by omega) (by omega), ?_⟩
      refine ⟨tIn (by omega) (by omega), ?_⟩
      have g_21 : (0 : Int) ≤ (I_3 o 17).toInt ∧ (I_3 o 17).toInt ≤ 240 := hR_5.at0 ra 17 (by decide)
      refine ⟨tIn (by omega) (by omega), ?_⟩
      have lo2 : 0 ≤ (I_3 (o + 44 + 7) p1.toNatClampNeg).toInt ∧ (I_3 (o + 44 + 7) p1.toNatClampNeg).toInt ≤ 2 := by rw [w_10]; exact lo.2.2
      refine y_Papers_givel hok (wsRun_4 hw) (rsRun_4 ra) (by first | omega | (intro h; omega) | exact Or.inl rfl | exact Or.inr rfl) (by first | omega | (intro h; omega) | exact Or.inl rfl | exact Or.inr rfl) (by first | omega | (intro h; omega) | exact Or.inl rfl | exact Or.inr rfl) hR_5 (fun I_25 L_26 hR_27 fr_28 u_23 ln_24 => ⟨I_25, L_26, rfl, rfl, ?_⟩)
      replace hl := hl.call ln_24 (fun c hc => by first | exact hc | exact False.elim hc | (dsimp only at hc ⊢; omega) | omega)
      have hf_29 : Fm (fun c => (o + 24 ≤ c ∧ c < o + 44)) I0 I_25 := hf_6.call fr_28 (fun c hc => by first | exact hc | (dsimp only at hc ⊢; omega) | omega)
      have g_30 : (0 : Int) ≤ (I_25 (o + 31) 12).toInt ∧ (I_25 (o + 31) 12).toInt ≤ 1440 := hR_27.at0 (rsRun_4 ra) 12 (by decide)
      have g_31 : (0 : Int) ≤ (I_25 (o + 31) 13).toInt ∧ (I_25 (o + 31) 13).toInt ≤ 1440 := hR_27.at0 (rsRun_4 ra) 13 (by decide)
      have t_32 : (I_25 o 17).toInt = (I_3 o 17).toInt := by rw [fr_28 o (by first | omega | (dsimp only; omega))]
      have k_33 : LodOK I_25 (o + 44) := k_9.fr (fr_28 _ (by first | omega | (dsimp only; omega))) (fr_28 _ (by first | omega | (dsimp only; omega))) (fr_28 _ (by first | omega | (dsimp only; omega))) (by rw [fr_28 (o + 44) (by first | omega | (dsimp only; omega))])
      exact (hp _ _ hR_27 hf_29 (by first | omega | (intro h; omega) | exact Or.inl rfl | exact Or.inr rfl) k_33 hl)
set_option maxHeartbeats 4000000 in
set_option maxRecDepth 20000 in
theorem y_Run_sellSaltl {D : va_G} {cA : FieldType → ClassId} {b : Nat} {E : State → Prop} {R : qRg} {o n : Nat} {sh : Nat → qC} {Rf : Nat → Nat → Option Nat} {I0 : Nat → Nat → Int32} {L0 : Nat → Nat → Int64} {post : Option Value → qS → Prop} {uo_0 : Nat} {uo_1 : Nat} {p1 : Int32} (hok : q_ok (qGG D cA b E)) (hw : WfRun (qGG D cA b E) n sh Rf o) (ra : RARun R o) (hwuo_0 : WfLand (qGG D cA b E) n sh Rf uo_0) (rauo_0 : RALand R uo_0) (hwuo_1 : WfTrade (qGG D cA b E) n sh Rf uo_1) (rauo_1 : RATrade R uo_1) (huo_0 : Rf o 0 = some uo_0) (huo_1 : Rf o 1 = some uo_1) (hq0 : (0 : Int) ≤ p1.toInt ∧ p1.toInt ≤ 2879) (hq1 : p1.toInt < (I0 (o + 44) 9).toInt) (hq2 : (I0 (o + 44 + 1) p1.toNatClampNeg).toInt ≠ 0) (hq3 : LodOK I0 (o + 44)) (hR : RI R I0) (hp : ∀ (I' : Nat → Nat → Int32) (L' : Nat → Nat → Int64), RI R I' → Fm (fun c => (o + 24 ≤ c ∧ c < o + 31)) I0 I' → (LodOK I' (o + 44)) → (FmL (fun c => c = (o + 61) ∨ c = (o + 65)) L0 L') → post none (n, sh, Rf, I', L')) : Ev (qGG D cA b E) mRun_sellSalt 2 (0, 0) 0 (lv_args 0 [.ref o, .int p1]) [] (n, sh, Rf, I0, L0) post := by
  have hf : Fm (fun c => (o + 24 ≤ c ∧ c < o + 31)) I0 I0 := Fm.rf
  refine sRun_sellSalt_0 o n sh Rf I0 L0 post p1 uo_0 hok hw huo_0 hwuo_0 ?_
  unfold fRun_sellSalt_0
  have hl : FmL (fun c => c = (o + 61) ∨ c = (o + 65)) L0 L0 := FmL.rf
  have cl := tCl (x := p1) (by omega)
  have lo := (hq3 p1.toNatClampNeg (by omega)).2 hq2
  refine ⟨tIn (by omega) (by omega), ?_⟩
  refine ⟨tIn (by omega) (by omega), ?_⟩
  refine y_Realm_priceInl hok (wsRun_3 hw) (rsRun_3 ra) hwuo_0 rauo_0 (by first | omega | (intro h; omega) | exact Or.inl rfl | exact Or.inr rfl) hR (fun r_1  => ⟨r_1, I0, L0, rfl, rfl, ?_⟩)
  have l_2 : (4 : Int32).toInt = 4 := rfl
  refine fun y_3 e_4 => ?_
  have l_5 : (0 : Int32).toInt = 0 := rfl
  have m_6 := tMax e_4
  refine ⟨tIn (by omega) (by omega), ?_⟩
  have g_7 : (-1 : Int) ≤ (I0 ((o + 44) + 2) (p1 : Int32).toNatClampNeg).toInt ∧ (I0 ((o + 44) + 2) (p1 : Int32).toNatClampNeg).toInt ≤ 5 := hR.at (rsRun_5 ra) 2 _ (by decide)
  refine y_Run_payTol hok hw ra (by first | omega | (intro h; omega) | exact Or.inl rfl | exact Or.inr rfl) hR (fun L_10 ln_9 => ⟨I0, L_10, rfl, rfl, ?_⟩)
  replace hl := hl.call ln_9 (fun c hc => by first | exact hc | exact False.elim hc | (dsimp only at hc ⊢; omega) | omega)
  have l_11 : (2 : Int32).toInt = 2 := rfl
  refine fun L_12 e_13 => ?_
  replace hl := hl.set (by first | rfl | omega | (dsimp only; omega)) e_13
  have l_14 : (1 : Int32).toInt = 1 := rfl
  refine fun L_15 e_16 => ?_
  replace hl := hl.set (by first | rfl | omega | (dsimp only; omega)) e_16
  refine ⟨tIn (by omega) (by omega), ?_⟩
  refine ⟨tIn (by omega) (by omega), ?_⟩
  refine ⟨tIn (by omega) (by omega), fun I_17 e_18 => ?_⟩
  have hR_19 : RI R I_17 := hR.up (rsRun_3 ra) 4 (by decide) (Or.inl rfl) e_18 (i_lo _) (i_hi _)
  have hf_20 : Fm (fun c => (o + 24 ≤ c ∧ c < o + 31)) I0 I_17 := hf.set (by first | rfl | omega | (dsimp only; omega)) e_18
  have k_21 : LodOK I_17 (o + 44) := hq3.fr (by rw [← e_18]; exact q_u_ne (by omega)) (by rw [← e_18]; exact q_u_ne (by omega)) (by rw [← e_18]; exact q_u_ne (by omega)) (by rw [← e_18, q_u_ne (by omega)])
  exact (hp _ _ hR_19 hf_20  k_21 hl)
set_option maxHeartbeats 4000000 in
set_option maxRecDepth 20000 in
theorem yRun_bringLoads_8l {D : va_G} {cA : FieldType → ClassId} {b : Nat} {E : State → Prop} {R : qRg} {o n : Nat} {sh : Nat → qC} {Rf : Nat → Nat → Option Nat} {I0 : Nat → Nat → Int32} {L0 : Nat → Nat → Int64} {post : Option Value → qS → Prop} {uo_0 : Nat} {uo_1 : Nat} (hok : q_ok (qGG D cA b E)) (hw : WfRun (qGG D cA b E) n sh Rf o) (ra : RARun R o) (hwuo_0 : WfLand (qGG D cA b E) n sh Rf uo_0) (rauo_0 : RALand R uo_0) (hwuo_1 : WfTrade (qGG D cA b E) n sh Rf uo_1) (rauo_1 : RATrade R uo_1) (huo_0 : Rf o 0 = some uo_0) (huo_1 : Rf o 1 = some uo_1) (hq0 : (I0 (o + 31) 13).toInt ≤ (I0 (o + 31) 12).toInt) (hq1 : LodOK I0 (o + 44)) (hp : ∀ (I' : Nat → Nat → Int32) (L' : Nat → Nat → Int64), RI R I' → Fm (fun c => (o + 24 ≤ c ∧ c < o + 53)) I0 I' → ((I' (o + 31) 13).toInt ≤ (I' (o + 31) 12).toInt) → (LodOK I' (o + 44)) → (FmL (fun c => c = (o + 61) ∨ c = (o + 65)) L0 L') → post none (n, sh, Rf, I', L')) : ∀ (k : Nat) {x1 : Int32} {I : Nat → Nat → Int32} {L : Nat → Nat → Int64}, RI R I → Fm (fun c => (o + 24 ≤ c ∧ c < o + 53)) I0 I → ((0 : Int) ≤ x1.toInt ∧ x1.toInt ≤ 2880) → ((I (o + 31) 13).toInt ≤ (I (o + 31) 12).toInt) → (LodOK I (o + 44)) → (FmL (fun c => c = (o + 61) ∨ c = (o + 65)) L0 L) → (2880 - x1.toInt).toNat < k → Ev (qGG D cA b E) mRun_bringLoads 3 (0, 0) 8 [(0, .ref o), (1, .int x1)] [] (n, sh, Rf, I, L) post := by
  intro k
  induction k with
  | zero =>
    intro x1 I L hR hf hi0 hi1 hi2 hl hm
    exact absurd hm (Nat.not_lt_zero _)
  | succ k ih =>
    intro x1 I L hR hf hi0 hi1 hi2 hl hm
    have g_1 : (0 : Int) ≤ (I (o + 31) 12).toInt ∧ (I (o + 31) 12).toInt ≤ 1440 := hR.at0 (rsRun_4 ra) 12 (by decide)
    have g_2 : (0 : Int) ≤ (I (o + 31) 13).toInt ∧ (I (o + 31) 13).toInt ≤ 1440 := hR.at0 (rsRun_4 ra) 13 (by decide)
    refine sRun_bringLoads_8 o n sh Rf I L post x1 hok hw ?_
    unfold fRun_bringLoads_8
    have g_3 : (0 : Int) ≤ (I (o + 44) 9).toInt ∧ (I (o + 44) 9).toInt ≤ 2880 := hR.at0 (rsRun_5 ra) 9 (by decide)
    refine ⟨fun c_4 => ?_, fun c_4 => ?_⟩
    · have d_5 := iLe c_4
      have g_6 : (0 : Int) ≤ (I o 17).toInt ∧ (I o 17).toInt ≤ 240 := hR.at0 ra 17 (by decide)
      refine y_Loads_forgetComel hok (wsRun_5 hw) (rsRun_5 ra) hi2 hR (fun I_10 L_11 hR_12 fr_13 u_8 ln_9 => ⟨I_10, L_11, rfl, rfl, ?_⟩)
      replace hl := hl.call ln_9 (fun c hc => by first | exact hc | exact False.elim hc | (dsimp only at hc ⊢; omega) | omega)
      have hf_14 : Fm (fun c => (o + 24 ≤ c ∧ c < o + 53)) I0 I_10 := hf.call fr_13 (fun c hc => by first | exact hc | (dsimp only at hc ⊢; omega) | omega)
      have t_15 : (I_10 (o + 31) 12).toInt = (I (o + 31) 12).toInt := by rw [fr_13 (o + 31) (by first | omega | (dsimp only; omega))]
      have t_16 : (I_10 (o + 31) 13).toInt = (I (o + 31) 13).toInt := by rw [fr_13 (o + 31) (by first | omega | (dsimp only; omega))]
      have g_17 : (0 : Int) ≤ (I_10 (o + 44) 9).toInt ∧ (I_10 (o + 44) 9).toInt ≤ 2880 := hR_12.at0 (rsRun_5 ra) 9 (by decide)
      have t_18 : (I_10 o 17).toInt = (I o 17).toInt := by rw [fr_13 o (by first | omega | (dsimp only; omega))]
      exact (hp _ _ hR_12 hf_14 (by first | omega | (intro h; omega) | exact Or.inl rfl | exact Or.inr rfl) u_8 hl)
    · have d_19 := iNle c_4
      refine ⟨tIn (by omega) (by omega), ?_⟩
      have g_20 : (0 : Int) ≤ (I o 17).toInt ∧ (I o 17).toInt ≤ 240 := hR.at0 ra 17 (by decide)
      refine ⟨fun c_21 => ?_, fun c_21 => ?_⟩
      · have d_22 := iNe c_21
        unfold fRun_bringLoads_55
        refine ⟨tIn (by omega) (by omega), ?_⟩
        have g_23 : (0 : Int) ≤ (I o 17).toInt ∧ (I o 17).toInt ≤ 240 := hR.at0 ra 17 (by decide)
        refine ⟨fun c_24 => ?_, fun c_24 => ?_⟩
        · have d_25 := iNe c_24
          unfold fRun_bringLoads_76
          have a_27 : (x1 + Int32.ofInt 1).toInt = x1.toInt + (1) := tIc (by omega) (by omega) (by decide) (by decide)
          generalize ez_26 : (x1 + Int32.ofInt 1) = z_26 at a_27 ⊢
          exact ih hR hf (by first | omega | (intro h; omega) | exact Or.inl rfl | exact Or.inr rfl) (by first | omega | (intro h; omega) | exact Or.inl rfl | exact Or.inr rfl) hi2 hl (by omega)
        · have d_28 := iEq c_24
          refine y_Run_sellSaltl hok hw ra hwuo_0 rauo_0 hwuo_1 rauo_1 huo_0 huo_1 (by first | omega | (intro h; omega) | exact Or.inl rfl | exact Or.inr rfl) (by first | omega | (intro h; omega) | exact Or.inl rfl | exact Or.inr rfl) (by first | omega | (intro h; omega) | exact Or.inl rfl | exact Or.inr rfl) hi2 hR (fun I_32 L_33 hR_34 fr_35 u_30 ln_31 => ⟨I_32, L_33, rfl, rfl, ?_⟩)
          replace hl := hl.call ln_31 (fun c hc => by first | exact hc | exact False.elim hc | (dsimp only at hc ⊢; omega) | omega)
          have hf_36 : Fm (fun c => (o + 24 ≤ c ∧ c < o + 53)) I0 I_32 := hf.call fr_35 (fun c hc => by first | exact hc | (dsimp only at hc ⊢; omega) | omega)
          have t_37 : (I_32 (o + 31) 12).toInt = (I (o + 31) 12).toInt := by rw [fr_35 (o + 31) (by first | omega | (dsimp only; omega))]
          have t_38 : (I_32 (o + 31) 13).toInt = (I (o + 31) 13).toInt := by rw [fr_35 (o + 31) (by first | omega | (dsimp only; omega))]
          have t_39 : (I_32 (o + 44) 9).toInt = (I (o + 44) 9).toInt := by rw [fr_35 (o + 44) (by first | omega | (dsimp only; omega))]
          have t_40 : (I_32 o 17).toInt = (I o 17).toInt := by rw [fr_35 o (by first | omega | (dsimp only; omega))]
          unfold fRun_bringLoads_76
          have a_42 : (x1 + Int32.ofInt 1).toInt = x1.toInt + (1) := tIc (by omega) (by omega) (by decide) (by decide)
          generalize ez_41 : (x1 + Int32.ofInt 1) = z_41 at a_42 ⊢
          exact ih hR_34 hf_36 (by first | omega | (intro h; omega) | exact Or.inl rfl | exact Or.inr rfl) (by first | omega | (intro h; omega) | exact Or.inl rfl | exact Or.inr rfl) u_30 hl (by omega)
      · have d_43 := iEq c_21
        refine ⟨tIn (by omega) (by omega), ?_⟩
        have l_44 : (0 : Int32).toInt = 0 := rfl
        refine ⟨fun c_45 => ?_, fun c_45 => ?_⟩
        · have d_46 := iNe c_45
          unfold fRun_bringLoads_55
          refine ⟨tIn (by omega) (by omega), ?_⟩
          have g_47 : (0 : Int) ≤ (I o 17).toInt ∧ (I o 17).toInt ≤ 240 := hR.at0 ra 17 (by decide)
          refine ⟨fun c_48 => ?_, fun c_48 => ?_⟩
          · have d_49 := iNe c_48
            unfold fRun_bringLoads_76
            have a_51 : (x1 + Int32.ofInt 1).toInt = x1.toInt + (1) := tIc (by omega) (by omega) (by decide) (by decide)
            generalize ez_50 : (x1 + Int32.ofInt 1) = z_50 at a_51 ⊢
            exact ih hR hf (by first | omega | (intro h; omega) | exact Or.inl rfl | exact Or.inr rfl) (by first | omega | (intro h; omega) | exact Or.inl rfl | exact Or.inr rfl) hi2 hl (by omega)
          · have d_52 := iEq c_48
            refine y_Run_sellSaltl hok hw ra hwuo_0 rauo_0 hwuo_1 rauo_1 huo_0 huo_1 (by first | omega | (intro h; omega) | exact Or.inl rfl | exact Or.inr rfl) (by first | omega | (intro h; omega) | exact Or.inl rfl | exact Or.inr rfl) (by first | omega | (intro h; omega) | exact Or.inl rfl | exact Or.inr rfl) hi2 hR (fun I_56 L_57 hR_58 fr_59 u_54 ln_55 => ⟨I_56, L_57, rfl, rfl, ?_⟩)
            replace hl := hl.call ln_55 (fun c hc => by first | exact hc | exact False.elim hc | (dsimp only at hc ⊢; omega) | omega)
            have hf_60 : Fm (fun c => (o + 24 ≤ c ∧ c < o + 53)) I0 I_56 := hf.call fr_59 (fun c hc => by first | exact hc | (dsimp only at hc ⊢; omega) | omega)
            have t_61 : (I_56 (o + 31) 12).toInt = (I (o + 31) 12).toInt := by rw [fr_59 (o + 31) (by first | omega | (dsimp only; omega))]
            have t_62 : (I_56 (o + 31) 13).toInt = (I (o + 31) 13).toInt := by rw [fr_59 (o + 31) (by first | omega | (dsimp only; omega))]
            have t_63 : (I_56 (o + 44) 9).toInt = (I (o + 44) 9).toInt := by rw [fr_59 (o + 44) (by first | omega | (dsimp only; omega))]
            have t_64 : (I_56 o 17).toInt = (I o 17).toInt := by rw [fr_59 o (by first | omega | (dsimp only; omega))]
            unfold fRun_bringLoads_76
            have a_66 : (x1 + Int32.ofInt 1).toInt = x1.toInt + (1) := tIc (by omega) (by omega) (by decide) (by decide)
            generalize ez_65 : (x1 + Int32.ofInt 1) = z_65 at a_66 ⊢
            exact ih hR_58 hf_60 (by first | omega | (intro h; omega) | exact Or.inl rfl | exact Or.inr rfl) (by first | omega | (intro h; omega) | exact Or.inl rfl | exact Or.inr rfl) u_54 hl (by omega)
        · have d_67 := iEq c_45
          refine y_Run_bringGrainl hok hw ra hwuo_0 rauo_0 hwuo_1 rauo_1 huo_0 huo_1 (by first | omega | (intro h; omega) | exact Or.inl rfl | exact Or.inr rfl) (by first | omega | (intro h; omega) | exact Or.inl rfl | exact Or.inr rfl) (by first | omega | (intro h; omega) | exact Or.inl rfl | exact Or.inr rfl) (by first | omega | (intro h; omega) | exact Or.inl rfl | exact Or.inr rfl) hi2 hR (fun I_72 L_73 hR_74 fr_75 u_69 u_70 ln_71 => ⟨I_72, L_73, rfl, rfl, ?_⟩)
          replace hl := hl.call ln_71 (fun c hc => by first | exact hc | exact False.elim hc | (dsimp only at hc ⊢; omega) | omega)
          have hf_76 : Fm (fun c => (o + 24 ≤ c ∧ c < o + 53)) I0 I_72 := hf.call fr_75 (fun c hc => by first | exact hc | (dsimp only at hc ⊢; omega) | omega)
          have g_77 : (0 : Int) ≤ (I_72 (o + 31) 12).toInt ∧ (I_72 (o + 31) 12).toInt ≤ 1440 := hR_74.at0 (rsRun_4 ra) 12 (by decide)
          have g_78 : (0 : Int) ≤ (I_72 (o + 31) 13).toInt ∧ (I_72 (o + 31) 13).toInt ≤ 1440 := hR_74.at0 (rsRun_4 ra) 13 (by decide)
          have t_79 : (I_72 (o + 44) 9).toInt = (I (o + 44) 9).toInt := by rw [fr_75 (o + 44) (by first | omega | (dsimp only; omega))]
          have t_80 : (I_72 o 17).toInt = (I o 17).toInt := by rw [fr_75 o (by first | omega | (dsimp only; omega))]
          unfold fRun_bringLoads_76
          have a_82 : (x1 + Int32.ofInt 1).toInt = x1.toInt + (1) := tIc (by omega) (by omega) (by decide) (by decide)
          generalize ez_81 : (x1 + Int32.ofInt 1) = z_81 at a_82 ⊢
          exact ih hR_74 hf_76 (by first | omega | (intro h; omega) | exact Or.inl rfl | exact Or.inr rfl) (by first | omega | (intro h; omega) | exact Or.inl rfl | exact Or.inr rfl) u_70 hl (by omega)
set_option maxHeartbeats 4000000 in
set_option maxRecDepth 20000 in
theorem y_Run_bringLoadsl {D : va_G} {cA : FieldType → ClassId} {b : Nat} {E : State → Prop} {R : qRg} {o n : Nat} {sh : Nat → qC} {Rf : Nat → Nat → Option Nat} {I0 : Nat → Nat → Int32} {L0 : Nat → Nat → Int64} {post : Option Value → qS → Prop} {uo_0 : Nat} {uo_1 : Nat} (hok : q_ok (qGG D cA b E)) (hw : WfRun (qGG D cA b E) n sh Rf o) (ra : RARun R o) (hwuo_0 : WfLand (qGG D cA b E) n sh Rf uo_0) (rauo_0 : RALand R uo_0) (hwuo_1 : WfTrade (qGG D cA b E) n sh Rf uo_1) (rauo_1 : RATrade R uo_1) (huo_0 : Rf o 0 = some uo_0) (huo_1 : Rf o 1 = some uo_1) (hq0 : (I0 (o + 31) 13).toInt ≤ (I0 (o + 31) 12).toInt) (hq1 : LodOK I0 (o + 44)) (hR : RI R I0) (hp : ∀ (I' : Nat → Nat → Int32) (L' : Nat → Nat → Int64), RI R I' → Fm (fun c => (o + 24 ≤ c ∧ c < o + 53)) I0 I' → ((I' (o + 31) 13).toInt ≤ (I' (o + 31) 12).toInt) → (LodOK I' (o + 44)) → (FmL (fun c => c = (o + 61) ∨ c = (o + 65)) L0 L') → post none (n, sh, Rf, I', L')) : Ev (qGG D cA b E) mRun_bringLoads 3 (0, 0) 0 (lv_args 0 [.ref o]) [] (n, sh, Rf, I0, L0) post := by
  have hf : Fm (fun c => (o + 24 ≤ c ∧ c < o + 53)) I0 I0 := Fm.rf
  have g_83 : (0 : Int) ≤ (I0 (o + 31) 12).toInt ∧ (I0 (o + 31) 12).toInt ≤ 1440 := hR.at0 (rsRun_4 ra) 12 (by decide)
  have g_84 : (0 : Int) ≤ (I0 (o + 31) 13).toInt ∧ (I0 (o + 31) 13).toInt ≤ 1440 := hR.at0 (rsRun_4 ra) 13 (by decide)
  refine sRun_bringLoads_0 o n sh Rf I0 L0 post  hok hw ?_
  unfold fRun_bringLoads_0
  have hl : FmL (fun c => c = (o + 61) ∨ c = (o + 65)) L0 L0 := FmL.rf
  have g_85 : (0 : Int) ≤ (I0 (o + 44) 8).toInt ∧ (I0 (o + 44) 8).toInt ≤ 2880 := hR.at0 (rsRun_5 ra) 8 (by decide)
  exact yRun_bringLoads_8l (I0 := I0) (L0 := L0) hok hw ra hwuo_0 rauo_0 hwuo_1 rauo_1 huo_0 huo_1 hq0 hq1 hp  _ hR hf (by first | omega | (intro h; omega) | exact Or.inl rfl | exact Or.inr rfl) (by first | omega | (intro h; omega) | exact Or.inl rfl | exact Or.inr rfl) hq1 hl (Nat.lt_succ_self _)
set_option maxHeartbeats 4000000 in
set_option maxRecDepth 20000 in
theorem yRun_classAll_98l {D : va_G} {cA : FieldType → ClassId} {b : Nat} {E : State → Prop} {R : qRg} {o n : Nat} {sh : Nat → qC} {Rf : Nat → Nat → Option Nat} {I0 : Nat → Nat → Int32} {L0 : Nat → Nat → Int64} {post : Option Value → qS → Prop} {uo_0 : Nat} {uo_1 : Nat} (hok : q_ok (qGG D cA b E)) (hw : WfRun (qGG D cA b E) n sh Rf o) (ra : RARun R o) (hwuo_0 : WfLand (qGG D cA b E) n sh Rf uo_0) (rauo_0 : RALand R uo_0) (hwuo_1 : WfTrade (qGG D cA b E) n sh Rf uo_1) (rauo_1 : RATrade R uo_1) (huo_0 : Rf o 0 = some uo_0) (huo_1 : Rf o 1 = some uo_1) (hp : ∀ (I' : Nat → Nat → Int32) (L' : Nat → Nat → Int64), RI R I' → Fm (fun c => c = o + 59 ∨ (o + 19 ≤ c ∧ c < o + 24) ∨ c = o + 31 + 9) I0 I' → (FmL (fun c => False) L0 L') → post none (n, sh, Rf, I', L')) {k6 : Nat} (ho6 : ∀ {x1 : Int32} {I : Nat → Nat → Int32} {L : Nat → Nat → Int64}, RI R I → Fm (fun c => c = o + 59 ∨ (o + 19 ≤ c ∧ c < o + 24) ∨ c = o + 31 + 9) I0 I → ((0 : Int) ≤ x1.toInt ∧ x1.toInt ≤ 1440) → (FmL (fun c => False) L0 L) → (1440 - x1.toInt).toNat < k6 → Ev (qGG D cA b E) mRun_classAll 2 (0, 0) 6 [(0, .ref o), (1, .int x1)] [] (n, sh, Rf, I, L) post) : ∀ (k : Nat) {x1 : Int32} {x2 : Int32} {x3 : Int32} {I : Nat → Nat → Int32} {L : Nat → Nat → Int64}, RI R I → Fm (fun c => c = o + 59 ∨ (o + 19 ≤ c ∧ c < o + 24) ∨ c = o + 31 + 9) I0 I → ((0 : Int) ≤ x1.toInt ∧ x1.toInt ≤ 1439) → ((0 : Int) ≤ x2.toInt ∧ x2.toInt ≤ 1439) → ((0 : Int) ≤ x3.toInt ∧ x3.toInt ≤ 5) → ((1440 - x1.toInt).toNat < k6 + 1) → (FmL (fun c => False) L0 L) → (5 - x3.toInt).toNat < k → Ev (qGG D cA b E) mRun_classAll 2 (0, 0) 98 [(0, .ref o), (1, .int x1), (2, .int x2), (3, .int x3)] [] (n, sh, Rf, I, L) post := by
  intro k
  induction k with
  | zero =>
    intro x1 x2 x3 I L hR hf hi0 hi1 hi2 hi3 hl hm
    exact absurd hm (Nat.not_lt_zero _)
  | succ k ih =>
    intro x1 x2 x3 I L hR hf hi0 hi1 hi2 hi3 hl hm
    refine sRun_classAll_98 o n sh Rf I L post x1 x2 x3 hok hw ?_
    unfold fRun_classAll_98
    have g_1 : (0 : Int) ≤ (I (o + 19) 6).toInt ∧ (I (o + 19) 6).toInt ≤ 5 := hR.at0 (rsRun_2 ra) 6 (by decide)
    refine ⟨fun c_2 => ?_, fun c_2 => ?_⟩
    · have d_3 := iLe c_2
      unfold fRun_classAll_133
      refine ⟨tIn (by omega) (by omega), fun I_4 e_5 => ?_⟩
      have hR_6 : RI R I_4 := hR.up (rsRun_4 ra) 9 (by decide) (Or.inl rfl) e_5 (i_lo _) (i_hi _)
      have hf_7 : Fm (fun c => c = o + 59 ∨ (o + 19 ≤ c ∧ c < o + 24) ∨ c = o + 31 + 9) I0 I_4 := hf.set (by first | rfl | omega | (dsimp only; omega)) e_5
      have t_8 : (I_4 (o + 19) 6).toInt = (I (o + 19) 6).toInt := by rw [← e_5, q_u_ne (by omega)]
      have a_10 : (x1 + Int32.ofInt 1).toInt = x1.toInt + (1) := tIc (by omega) (by omega) (by decide) (by decide)
      generalize ez_9 : (x1 + Int32.ofInt 1) = z_9 at a_10 ⊢
      exact ho6 hR_6 hf_7 (by first | omega | (intro h; omega) | exact Or.inl rfl | exact Or.inr rfl) hl (by omega)
    · have d_11 := iNle c_2
      have l_12 : (6 : Int32).toInt = 6 := rfl
      have a_13 : (6 + x3).toInt = (6 : Int32).toInt + x3.toInt := tAdd (by omega) (by omega)
      refine y_Reform_telll hok (wsRun_2 hw) (rsRun_2 ra) (fun _ _ => waRun_8 hw) (by first | omega | (intro h; omega) | exact Or.inl rfl | exact Or.inr rfl) hR (fun r_14 I_16 L_17 hR_18 fr_19 ln_15 => ⟨r_14, I_16, L_17, rfl, rfl, ?_⟩)
      replace hl := hl.call ln_15 (fun c hc => by first | exact hc | exact False.elim hc | (dsimp only at hc ⊢; omega) | omega)
      have hf_20 : Fm (fun c => c = o + 59 ∨ (o + 19 ≤ c ∧ c < o + 24) ∨ c = o + 31 + 9) I0 I_16 := hf.call fr_19 (fun c hc => by first | exact hc | (dsimp only at hc ⊢; omega) | omega)
      have g_21 : (0 : Int) ≤ (I_16 (o + 19) 6).toInt ∧ (I_16 (o + 19) 6).toInt ≤ 5 := hR_18.at0 (rsRun_2 ra) 6 (by decide)
      have l_22 : (0 : Int32).toInt = 0 := rfl
      refine ⟨fun c_23 => ?_, fun c_23 => ?_⟩
      · have d_24 := iNe c_23
        unfold fRun_classAll_133
        refine ⟨tIn (by omega) (by omega), fun I_25 e_26 => ?_⟩
        have hR_27 : RI R I_25 := hR_18.up (rsRun_4 ra) 9 (by decide) (Or.inl rfl) e_26 (i_lo _) (i_hi _)
        have hf_28 : Fm (fun c => c = o + 59 ∨ (o + 19 ≤ c ∧ c < o + 24) ∨ c = o + 31 + 9) I0 I_25 := hf_20.set (by first | rfl | omega | (dsimp only; omega)) e_26
        have t_29 : (I_25 (o + 19) 6).toInt = (I_16 (o + 19) 6).toInt := by rw [← e_26, q_u_ne (by omega)]
        have a_31 : (x1 + Int32.ofInt 1).toInt = x1.toInt + (1) := tIc (by omega) (by omega) (by decide) (by decide)
        generalize ez_30 : (x1 + Int32.ofInt 1) = z_30 at a_31 ⊢
        exact ho6 hR_27 hf_28 (by first | omega | (intro h; omega) | exact Or.inl rfl | exact Or.inr rfl) hl (by omega)
      · have d_32 := iEq c_23
        have a_34 : (x3 + Int32.ofInt 1).toInt = x3.toInt + (1) := tIc (by omega) (by omega) (by decide) (by decide)
        generalize ez_33 : (x3 + Int32.ofInt 1) = z_33 at a_34 ⊢
        exact ih hR_18 hf_20 (by first | omega | (intro h; omega) | exact Or.inl rfl | exact Or.inr rfl) (by first | omega | (intro h; omega) | exact Or.inl rfl | exact Or.inr rfl) (by first | omega | (intro h; omega) | exact Or.inl rfl | exact Or.inr rfl) (by first | omega | (intro h; omega) | exact Or.inl rfl | exact Or.inr rfl) hl (by omega)
set_option maxHeartbeats 4000000 in
set_option maxRecDepth 20000 in
theorem yRun_classAll_6l {D : va_G} {cA : FieldType → ClassId} {b : Nat} {E : State → Prop} {R : qRg} {o n : Nat} {sh : Nat → qC} {Rf : Nat → Nat → Option Nat} {I0 : Nat → Nat → Int32} {L0 : Nat → Nat → Int64} {post : Option Value → qS → Prop} {uo_0 : Nat} {uo_1 : Nat} (hok : q_ok (qGG D cA b E)) (hw : WfRun (qGG D cA b E) n sh Rf o) (ra : RARun R o) (hwuo_0 : WfLand (qGG D cA b E) n sh Rf uo_0) (rauo_0 : RALand R uo_0) (hwuo_1 : WfTrade (qGG D cA b E) n sh Rf uo_1) (rauo_1 : RATrade R uo_1) (huo_0 : Rf o 0 = some uo_0) (huo_1 : Rf o 1 = some uo_1) (hp : ∀ (I' : Nat → Nat → Int32) (L' : Nat → Nat → Int64), RI R I' → Fm (fun c => c = o + 59 ∨ (o + 19 ≤ c ∧ c < o + 24) ∨ c = o + 31 + 9) I0 I' → (FmL (fun c => False) L0 L') → post none (n, sh, Rf, I', L')) : ∀ (k : Nat) {x1 : Int32} {I : Nat → Nat → Int32} {L : Nat → Nat → Int64}, RI R I → Fm (fun c => c = o + 59 ∨ (o + 19 ≤ c ∧ c < o + 24) ∨ c = o + 31 + 9) I0 I → ((0 : Int) ≤ x1.toInt ∧ x1.toInt ≤ 1440) → (FmL (fun c => False) L0 L) → (1440 - x1.toInt).toNat < k → Ev (qGG D cA b E) mRun_classAll 2 (0, 0) 6 [(0, .ref o), (1, .int x1)] [] (n, sh, Rf, I, L) post := by
  intro k
  induction k with
  | zero =>
    intro x1 I L hR hf hi0 hl hm
    exact absurd hm (Nat.not_lt_zero _)
  | succ k ih =>
    intro x1 I L hR hf hi0 hl hm
    refine sRun_classAll_6 o n sh Rf I L post x1 hok hw ?_
    unfold fRun_classAll_6
    have g_35 : (0 : Int) ≤ (I (o + 31) 13).toInt ∧ (I (o + 31) 13).toInt ≤ 1440 := hR.at0 (rsRun_4 ra) 13 (by decide)
    refine ⟨fun c_36 => ?_, fun c_36 => ?_⟩
    · have d_37 := iLe c_36
      exact (hp _ _ hR hf  hl)
    · have d_38 := iNle c_36
      refine ⟨tIn (by omega) (by omega), ?_⟩
      have g_39 : (0 : Int) ≤ (I ((o + 31) + 11) (x1 : Int32).toNatClampNeg).toInt ∧ (I ((o + 31) + 11) (x1 : Int32).toNatClampNeg).toInt ≤ 1439 := hR.at (rsRun_4 ra) 11 _ (by decide)
      have g_40 : (0 : Int) ≤ (I o 17).toInt ∧ (I o 17).toInt ≤ 240 := hR.at0 ra 17 (by decide)
      refine ⟨tIn (by omega) (by omega), ?_⟩
      have l_41 : (28 : Int32).toInt = 28 := rfl
      refine fun I_42 e_43 => ?_
      have hR_44 : RI R I_42 := hR.up ra 59 (by decide) (Or.inl rfl) e_43 (i_lo _) (i_hi _)
      have hf_45 : Fm (fun c => c = o + 59 ∨ (o + 19 ≤ c ∧ c < o + 24) ∨ c = o + 31 + 9) I0 I_42 := hf.set (by first | rfl | omega | (dsimp only; omega)) e_43
      have t_46 : (I_42 (o + 31) 13).toInt = (I (o + 31) 13).toInt := by rw [← e_43, q_u_ne (by omega)]
      have t_47 : (I_42 o 17).toInt = (I o 17).toInt := by rw [← e_43, q_u_ne (by omega)]
      refine ⟨tIn (by omega) (by omega), ?_⟩
      have l_48 : (29 : Int32).toInt = 29 := rfl
      refine fun I_49 e_50 => ?_
      have hR_51 : RI R I_49 := hR_44.up ra 59 (by decide) (Or.inl rfl) e_50 (i_lo _) (i_hi _)
      have hf_52 : Fm (fun c => c = o + 59 ∨ (o + 19 ≤ c ∧ c < o + 24) ∨ c = o + 31 + 9) I0 I_49 := hf_45.set (by first | rfl | omega | (dsimp only; omega)) e_50
      have t_53 : (I_49 (o + 31) 13).toInt = (I_42 (o + 31) 13).toInt := by rw [← e_50, q_u_ne (by omega)]
      have t_54 : (I_49 o 17).toInt = (I_42 o 17).toInt := by rw [← e_50, q_u_ne (by omega)]
      refine ⟨tIn (by omega) (by omega), ?_⟩
      have l_55 : (30 : Int32).toInt = 30 := rfl
      refine fun I_56 e_57 => ?_
      have hR_58 : RI R I_56 := hR_51.up ra 59 (by decide) (Or.inl rfl) e_57 (i_lo _) (i_hi _)
      have hf_59 : Fm (fun c => c = o + 59 ∨ (o + 19 ≤ c ∧ c < o + 24) ∨ c = o + 31 + 9) I0 I_56 := hf_52.set (by first | rfl | omega | (dsimp only; omega)) e_57
      have t_60 : (I_56 (o + 31) 13).toInt = (I_49 (o + 31) 13).toInt := by rw [← e_57, q_u_ne (by omega)]
      have t_61 : (I_56 o 17).toInt = (I_49 o 17).toInt := by rw [← e_57, q_u_ne (by omega)]
      refine ⟨tIn (by omega) (by omega), ?_⟩
      have l_62 : (26 : Int32).toInt = 26 := rfl
      refine fun I_63 e_64 => ?_
      have hR_65 : RI R I_63 := hR_58.up ra 59 (by decide) (Or.inl rfl) e_64 (i_lo _) (i_hi _)
      have hf_66 : Fm (fun c => c = o + 59 ∨ (o + 19 ≤ c ∧ c < o + 24) ∨ c = o + 31 + 9) I0 I_63 := hf_59.set (by first | rfl | omega | (dsimp only; omega)) e_64
      have t_67 : (I_63 (o + 31) 13).toInt = (I_56 (o + 31) 13).toInt := by rw [← e_64, q_u_ne (by omega)]
      have t_68 : (I_63 o 17).toInt = (I_56 o 17).toInt := by rw [← e_64, q_u_ne (by omega)]
      have l_69 : (0 : Int32).toInt = 0 := rfl
      exact yRun_classAll_98l (I0 := I0) (L0 := L0) hok hw ra hwuo_0 rauo_0 hwuo_1 rauo_1 huo_0 huo_1 hp ih _ hR_65 hf_66 (by first | omega | (intro h; omega) | exact Or.inl rfl | exact Or.inr rfl) (by first | omega | (intro h; omega) | exact Or.inl rfl | exact Or.inr rfl) (by first | omega | (intro h; omega) | exact Or.inl rfl | exact Or.inr rfl) (by first | omega | (intro h; omega) | exact Or.inl rfl | exact Or.inr rfl) hl (Nat.lt_succ_self _)
set_option maxHeartbeats 4000000 in
set_option maxRecDepth 20000 in
theorem y_Run_classAlll {D : va_G} {cA : FieldType → ClassId} {b : Nat} {E : State → Prop} {R : qRg} {o n : Nat} {sh : Nat → qC} {Rf : Nat → Nat → Option Nat} {I0 : Nat → Nat → Int32} {L0 : Nat → Nat → Int64} {post : Option Value → qS → Prop} {uo_0 : Nat} {uo_1 : Nat} (hok : q_ok (qGG D cA b E)) (hw : WfRun (qGG D cA b E) n sh Rf o) (ra : RARun R o) (hwuo_0 : WfLand (qGG D cA b E) n sh Rf uo_0) (rauo_0 : RALand R uo_0) (hwuo_1 : WfTrade (qGG D cA b E) n sh Rf uo_1) (rauo_1 : RATrade R uo_1) (huo_0 : Rf o 0 = some uo_0) (huo_1 : Rf o 1 = some uo_1) (hR : RI R I0) (hp : ∀ (I' : Nat → Nat → Int32) (L' : Nat → Nat → Int64), RI R I' → Fm (fun c => c = o + 59 ∨ (o + 19 ≤ c ∧ c < o + 24) ∨ c = o + 31 + 9) I0 I' → (FmL (fun c => False) L0 L') → post none (n, sh, Rf, I', L')) : Ev (qGG D cA b E) mRun_classAll 2 (0, 0) 0 (lv_args 0 [.ref o]) [] (n, sh, Rf, I0, L0) post := by
  have hf : Fm (fun c => c = o + 59 ∨ (o + 19 ≤ c ∧ c < o + 24) ∨ c = o + 31 + 9) I0 I0 := Fm.rf
  refine sRun_classAll_0 o n sh Rf I0 L0 post  hok hw ?_
  unfold fRun_classAll_0
  have hl : FmL (fun c => False) L0 L0 := FmL.rf
  refine y_Run_askCommonl hok hw ra hwuo_0 rauo_0 hwuo_1 rauo_1 huo_0 huo_1 hR (fun I_72 L_73 hR_74 fr_75 ln_71 => ⟨I_72, L_73, rfl, rfl, ?_⟩)
  replace hl := hl.call ln_71 (fun c hc => by first | exact hc | exact False.elim hc | (dsimp only at hc ⊢; omega) | omega)
  have hf_76 : Fm (fun c => c = o + 59 ∨ (o + 19 ≤ c ∧ c < o + 24) ∨ c = o + 31 + 9) I0 I_72 := hf.call fr_75 (fun c hc => by first | exact hc | (dsimp only at hc ⊢; omega) | omega)
  have l_77 : (0 : Int32).toInt = 0 := rfl
  exact yRun_classAll_6l (I0 := I0) (L0 := L0) hok hw ra hwuo_0 rauo_0 hwuo_1 rauo_1 huo_0 huo_1 hp  _ hR_74 hf_76 (by first | omega | (intro h; omega) | exact Or.inl rfl | exact Or.inr rfl) hl (Nat.lt_succ_self _)
set_option maxHeartbeats 4000000 in
set_option maxRecDepth 20000 in
theorem y_Run_drawPaperl {D : va_G} {cA : FieldType → ClassId} {b : Nat} {E : State → Prop} {R : qRg} {o n : Nat} {sh : Nat → qC} {Rf : Nat → Nat → Option Nat} {I0 : Nat → Nat → Int32} {L0 : Nat → Nat → Int64} {post : Option Value → qS → Prop} {uo_0 : Nat} {uo_1 : Nat} {p1 : Int32} {p2 : Int32} {p3 : Int32} (hok : q_ok (qGG D cA b E)) (hw : WfRun (qGG D cA b E) n sh Rf o) (ra : RARun R o) (hwuo_0 : WfLand (qGG D cA b E) n sh Rf uo_0) (rauo_0 : RALand R uo_0) (hwuo_1 : WfTrade (qGG D cA b E) n sh Rf uo_1) (rauo_1 : RATrade R uo_1) (huo_0 : Rf o 0 = some uo_0) (huo_1 : Rf o 1 = some uo_1) (hEN : qEN E) (hq0 : (0 : Int) ≤ p1.toInt ∧ p1.toInt ≤ 1439) (hq1 : (0 : Int) ≤ p2.toInt ∧ p2.toInt ≤ 2) (hq2 : (-1 : Int) ≤ p3.toInt ∧ p3.toInt ≤ 4) (hq3 : (I0 (o + 31) 13).toInt ≤ (I0 (o + 31) 12).toInt) (hq4 : LodOK I0 (o + 44)) (hR : RI R I0) (hp : ∀ (I' : Nat → Nat → Int32) (L' : Nat → Nat → Int64), RI R I' → Fm (fun c => (o + 24 ≤ c ∧ c < o + 53)) I0 I' → ((I' (o + 31) 13).toInt ≤ (I' (o + 31) 12).toInt) → (LodOK I' (o + 44)) → (FmL (fun c => c = (o + 61) ∨ c = (o + 65)) L0 L') → post none (n, sh, Rf, I', L')) : Ev (qGG D cA b E) mRun_drawPaper 3 (0, 0) 0 (lv_args 0 [.ref o, .int p1, .int p2, .int p3]) [] (n, sh, Rf, I0, L0) post := by
  have hf : Fm (fun c => (o + 24 ≤ c ∧ c < o + 53)) I0 I0 := Fm.rf
  have g_1 : (0 : Int) ≤ (I0 (o + 31) 12).toInt ∧ (I0 (o + 31) 12).toInt ≤ 1440 := hR.at0 (rsRun_4 ra) 12 (by decide)
  have g_2 : (0 : Int) ≤ (I0 (o + 31) 13).toInt ∧ (I0 (o + 31) 13).toInt ≤ 1440 := hR.at0 (rsRun_4 ra) 13 (by decide)
  refine sRun_drawPaper_0 o n sh Rf I0 L0 post p1 p2 p3 uo_0 uo_1 hok hw huo_0 hwuo_0 huo_1 hwuo_1 ?_
  unfold fRun_drawPaper_0
  have hl : FmL (fun c => c = (o + 61) ∨ c = (o + 65)) L0 L0 := FmL.rf
  refine ⟨tIn (by omega) (by omega), ?_⟩
  refine ⟨tIn (by omega) (by omega), ?_⟩
  have g_3 : (-1 : Int) ≤ (I0 ((o + 31) + 1) (p1 : Int32).toNatClampNeg).toInt ∧ (I0 ((o + 31) + 1) (p1 : Int32).toNatClampNeg).toInt ≤ 5 := hR.at (rsRun_4 ra) 1 _ (by decide)
  refine ⟨tIn (by omega) (by omega), ?_⟩
  refine ⟨tIn (by omega) (by omega), fun I_4 e_5 => ?_⟩
  have hR_6 : RI R I_4 := hR.up (rsRun_3 ra) 3 (by decide) (Or.inl rfl) e_5 (i_lo _) (i_hi _)
  have hf_7 : Fm (fun c => (o + 24 ≤ c ∧ c < o + 53)) I0 I_4 := hf.set (by first | rfl | omega | (dsimp only; omega)) e_5
  have t_8 : (I_4 (o + 31) 12).toInt = (I0 (o + 31) 12).toInt := by rw [← e_5, q_u_ne (by omega)]
  have t_9 : (I_4 (o + 31) 13).toInt = (I0 (o + 31) 13).toInt := by rw [← e_5, q_u_ne (by omega)]
  have k_10 : LodOK I_4 (o + 44) := hq4.fr (by rw [← e_5]; exact q_u_ne (by omega)) (by rw [← e_5]; exact q_u_ne (by omega)) (by rw [← e_5]; exact q_u_ne (by omega)) (by rw [← e_5, q_u_ne (by omega)])
  have g_11 : (0 : Int) ≤ (I_4 o 17).toInt ∧ (I_4 o 17).toInt ≤ 240 := hR_6.at0 ra 17 (by decide)
  refine y_Papers_drawl hok (wsRun_4 hw) (rsRun_4 ra) (by first | omega | (intro h; omega) | exact Or.inl rfl | exact Or.inr rfl) hR_6 (fun I_16 L_17 hR_18 fr_19 u_13 u_14 ln_15 => ⟨I_16, L_17, rfl, rfl, ?_⟩)
  replace hl := hl.call ln_15 (fun c hc => by first | exact hc | exact False.elim hc | (dsimp only at hc ⊢; omega) | omega)
  have hf_20 : Fm (fun c => (o + 24 ≤ c ∧ c < o + 53)) I0 I_16 := hf_7.call fr_19 (fun c hc => by first | exact hc | (dsimp only at hc ⊢; omega) | omega)
  have g_21 : (0 : Int) ≤ (I_16 (o + 31) 12).toInt ∧ (I_16 (o + 31) 12).toInt ≤ 1440 := hR_18.at0 (rsRun_4 ra) 12 (by decide)
  have g_22 : (0 : Int) ≤ (I_16 (o + 31) 13).toInt ∧ (I_16 (o + 31) 13).toInt ≤ 1440 := hR_18.at0 (rsRun_4 ra) 13 (by decide)
  have t_23 : (I_16 o 17).toInt = (I_4 o 17).toInt := by rw [fr_19 o (by first | omega | (dsimp only; omega))]
  have k_24 : LodOK I_16 (o + 44) := k_10.fr (fr_19 _ (by first | omega | (dsimp only; omega))) (fr_19 _ (by first | omega | (dsimp only; omega))) (fr_19 _ (by first | omega | (dsimp only; omega))) (by rw [fr_19 (o + 44) (by first | omega | (dsimp only; omega))])
  have l_25 : (9 : Int32).toInt = 9 := rfl
  refine fun L_26 e_27 => ?_
  replace hl := hl.set (by first | rfl | omega | (dsimp only; omega)) e_27
  have l_28 : (8 : Int32).toInt = 8 := rfl
  have g_29 : (0 : Int) ≤ (I_16 o 17).toInt ∧ (I_16 o 17).toInt ≤ 240 := hR_18.at0 ra 17 (by decide)
  refine ⟨tIn (by omega) (by omega), ?_⟩
  refine fun L_30 e_31 => ?_
  replace hl := hl.set (by first | rfl | omega | (dsimp only; omega)) e_31
  have l_32 : (-1 : Int32).toInt = -1 := rfl
  refine ⟨fun c_33 => ?_, fun c_33 => ?_⟩
  · have d_34 := iEq c_33
    unfold fRun_drawPaper_95
    have l_35 : (5 : Int32).toInt = 5 := rfl
    refine fun L_36 e_37 => ?_
    replace hl := hl.set (by first | rfl | omega | (dsimp only; omega)) e_37
    exact (hp _ _ hR_18 hf_20 (by first | omega | (intro h; omega) | exact Or.inl rfl | exact Or.inr rfl) k_24 hl)
  · have d_38 := iNe c_33
    refine ⟨fun c_39 => ?_, fun c_39 => ?_⟩
    · have d_40 := iNe c_39
      refine ⟨tIn (by omega) (by omega), ?_⟩
      refine ⟨tIn (by omega) (by omega), ?_⟩
      refine y_Land_daysBetweeng hok hwuo_0 rauo_0 hR_18 (fun r_41 gn_42 => ⟨r_41, I_16, L_30, rfl, rfl, ?_⟩)
      clear gn_42
      refine ⟨tIn (by omega) (by omega), ?_⟩
      refine ⟨tIn (by omega) (by omega), ?_⟩
      refine fun y_43 e_44 => ?_
      refine ⟨tIn (by omega) (by omega), fun L_45 e_46 => ?_⟩
      replace hl := hl.set (by first | rfl | omega | (dsimp only; omega)) e_46
      have g_47 : (0 : Int) ≤ (I_16 o 17).toInt ∧ (I_16 o 17).toInt ≤ 240 := hR_18.at0 ra 17 (by decide)
      refine y_Loads_sendSaltl hok (wsRun_5 hw) (rsRun_5 ra) hEN (by first | omega | (intro h; omega) | exact Or.inl rfl | exact Or.inr rfl) (by first | omega | (intro h; omega) | exact Or.inl rfl | exact Or.inr rfl) k_24 hR_18 (fun I_51 L_52 hR_53 fr_54 u_49 ln_50 => ⟨I_51, L_52, rfl, rfl, ?_⟩)
      replace hl := hl.call ln_50 (fun c hc => by first | exact hc | exact False.elim hc | (dsimp only at hc ⊢; omega) | omega)
      have hf_55 : Fm (fun c => (o + 24 ≤ c ∧ c < o + 53)) I0 I_51 := hf_20.call fr_54 (fun c hc => by first | exact hc | (dsimp only at hc ⊢; omega) | omega)
      have t_56 : (I_51 (o + 31) 12).toInt = (I_16 (o + 31) 12).toInt := by rw [fr_54 (o + 31) (by first | omega | (dsimp only; omega))]
      have t_57 : (I_51 (o + 31) 13).toInt = (I_16 (o + 31) 13).toInt := by rw [fr_54 (o + 31) (by first | omega | (dsimp only; omega))]
      have t_58 : (I_51 o 17).toInt = (I_16 o 17).toInt := by rw [fr_54 o (by first | omega | (dsimp only; omega))]
      exact (hp _ _ hR_53 hf_55 (by first | omega | (intro h; omega) | exact Or.inl rfl | exact Or.inr rfl) u_49 hl)
    · have d_59 := iEq c_39
      unfold fRun_drawPaper_95
      have l_60 : (5 : Int32).toInt = 5 := rfl
      refine fun L_61 e_62 => ?_
      replace hl := hl.set (by first | rfl | omega | (dsimp only; omega)) e_62
      exact (hp _ _ hR_18 hf_20 (by first | omega | (intro h; omega) | exact Or.inl rfl | exact Or.inr rfl) k_24 hl)
set_option maxHeartbeats 4000000 in
set_option maxRecDepth 20000 in
theorem yRun_drawAt_22l {D : va_G} {cA : FieldType → ClassId} {b : Nat} {E : State → Prop} {R : qRg} {o n : Nat} {sh : Nat → qC} {Rf : Nat → Nat → Option Nat} {I0 : Nat → Nat → Int32} {L0 : Nat → Nat → Int64} {post : Option Value → qS → Prop} {uo_0 : Nat} {uo_1 : Nat} {p1 : Int32} (hok : q_ok (qGG D cA b E)) (hw : WfRun (qGG D cA b E) n sh Rf o) (ra : RARun R o) (hwuo_0 : WfLand (qGG D cA b E) n sh Rf uo_0) (rauo_0 : RALand R uo_0) (hwuo_1 : WfTrade (qGG D cA b E) n sh Rf uo_1) (rauo_1 : RATrade R uo_1) (huo_0 : Rf o 0 = some uo_0) (huo_1 : Rf o 1 = some uo_1) (hEN : qEN E) (hq0 : (0 : Int) ≤ p1.toInt ∧ p1.toInt ≤ 2) (hq1 : (I0 (o + 31) 13).toInt ≤ (I0 (o + 31) 12).toInt) (hq2 : LodOK I0 (o + 44)) (hp : ∀ (I' : Nat → Nat → Int32) (L' : Nat → Nat → Int64), RI R I' → Fm (fun c => (o + 24 ≤ c ∧ c < o + 53)) I0 I' → ((I' (o + 31) 13).toInt ≤ (I' (o + 31) 12).toInt) → (LodOK I' (o + 44)) → (FmL (fun c => c = (o + 61) ∨ c = (o + 65) ∨ c = o) L0 L') → post none (n, sh, Rf, I', L')) {k8 : Nat} (ho8 : ∀ {x1 : Int32} {x2 : Int32} {x3 : Int32} {I : Nat → Nat → Int32} {L : Nat → Nat → Int64}, RI R I → Fm (fun c => (o + 24 ≤ c ∧ c < o + 53)) I0 I → ((0 : Int) ≤ x1.toInt ∧ x1.toInt ≤ 2) → ((-1 : Int) ≤ x2.toInt ∧ x2.toInt ≤ 4) → ((0 : Int) ≤ x3.toInt ∧ x3.toInt ≤ 6) → ((I (o + 31) 13).toInt ≤ (I (o + 31) 12).toInt) → (LodOK I (o + 44)) → (FmL (fun c => c = (o + 61) ∨ c = (o + 65) ∨ c = o) L0 L) → (6 - x3.toInt).toNat < k8 → Ev (qGG D cA b E) mRun_drawAt 4 (0, 0) 8 [(0, .ref o), (1, .int x1), (2, .int x2), (3, .int x3)] [] (n, sh, Rf, I, L) post) : ∀ (k : Nat) {x1 : Int32} {x2 : Int32} {x3 : Int32} {x4 : Int32} {I : Nat → Nat → Int32} {L : Nat → Nat → Int64}, RI R I → Fm (fun c => (o + 24 ≤ c ∧ c < o + 53)) I0 I → ((0 : Int) ≤ x1.toInt ∧ x1.toInt ≤ 2) → ((-1 : Int) ≤ x2.toInt ∧ x2.toInt ≤ 4) → ((0 : Int) ≤ x3.toInt ∧ x3.toInt ≤ 5) → ((0 : Int) ≤ x4.toInt ∧ x4.toInt ≤ 1440) → ((I (o + 31) 13).toInt ≤ (I (o + 31) 12).toInt) → ((6 - x3.toInt).toNat < k8 + 1) → (LodOK I (o + 44)) → (FmL (fun c => c = (o + 61) ∨ c = (o + 65) ∨ c = o) L0 L) → (1440 - x4.toInt).toNat < k → Ev (qGG D cA b E) mRun_drawAt 4 (0, 0) 22 [(0, .ref o), (1, .int x1), (2, .int x2), (3, .int x3), (4, .int x4)] [] (n, sh, Rf, I, L) post := by
  intro k
  induction k with
  | zero =>
    intro x1 x2 x3 x4 I L hR hf hi0 hi1 hi2 hi3 hi4 hi5 hi6 hl hm
    exact absurd hm (Nat.not_lt_zero _)
  | succ k ih =>
    intro x1 x2 x3 x4 I L hR hf hi0 hi1 hi2 hi3 hi4 hi5 hi6 hl hm
    have g_1 : (0 : Int) ≤ (I (o + 31) 12).toInt ∧ (I (o + 31) 12).toInt ≤ 1440 := hR.at0 (rsRun_4 ra) 12 (by decide)
    have g_2 : (0 : Int) ≤ (I (o + 31) 13).toInt ∧ (I (o + 31) 13).toInt ≤ 1440 := hR.at0 (rsRun_4 ra) 13 (by decide)
    refine sRun_drawAt_22 o n sh Rf I L post x1 x2 x3 x4 hok hw ?_
    unfold fRun_drawAt_22
    have g_3 : (0 : Int) ≤ (I (o + 31) 13).toInt ∧ (I (o + 31) 13).toInt ≤ 1440 := hR.at0 (rsRun_4 ra) 13 (by decide)
    refine ⟨fun c_4 => ?_, fun c_4 => ?_⟩
    · have d_5 := iLe c_4
      have a_7 : (x3 + Int32.ofInt 1).toInt = x3.toInt + (1) := tIc (by omega) (by omega) (by decide) (by decide)
      generalize ez_6 : (x3 + Int32.ofInt 1) = z_6 at a_7 ⊢
      exact ho8 hR hf (by first | omega | (intro h; omega) | exact Or.inl rfl | exact Or.inr rfl) (by first | omega | (intro h; omega) | exact Or.inl rfl | exact Or.inr rfl) (by first | omega | (intro h; omega) | exact Or.inl rfl | exact Or.inr rfl) (by first | omega | (intro h; omega) | exact Or.inl rfl | exact Or.inr rfl) hi6 hl (by omega)
    · have d_8 := iNle c_4
      refine ⟨tIn (by omega) (by omega), ?_⟩
      have g_9 : (0 : Int) ≤ (I ((o + 31) + 11) (x4 : Int32).toNatClampNeg).toInt ∧ (I ((o + 31) + 11) (x4 : Int32).toNatClampNeg).toInt ≤ 1439 := hR.at (rsRun_4 ra) 11 _ (by decide)
      refine ⟨tIn (by omega) (by omega), ?_⟩
      have g_10 : (0 : Int) ≤ (I ((o + 31) + 2) ((I ((o + 31) + 11) (x4 : Int32).toNatClampNeg) : Int32).toNatClampNeg).toInt ∧ (I ((o + 31) + 2) ((I ((o + 31) + 11) (x4 : Int32).toNatClampNeg) : Int32).toNatClampNeg).toInt ≤ 2 := hR.at (rsRun_4 ra) 2 _ (by decide)
      refine ⟨fun c_11 => ?_, fun c_11 => ?_⟩
      · have d_12 := iNe c_11
        unfold fRun_drawAt_105
        have a_14 : (x4 + Int32.ofInt 1).toInt = x4.toInt + (1) := tIc (by omega) (by omega) (by decide) (by decide)
        generalize ez_13 : (x4 + Int32.ofInt 1) = z_13 at a_14 ⊢
        exact ih hR hf (by first | omega | (intro h; omega) | exact Or.inl rfl | exact Or.inr rfl) (by first | omega | (intro h; omega) | exact Or.inl rfl | exact Or.inr rfl) (by first | omega | (intro h; omega) | exact Or.inl rfl | exact Or.inr rfl) (by first | omega | (intro h; omega) | exact Or.inl rfl | exact Or.inr rfl) (by first | omega | (intro h; omega) | exact Or.inl rfl | exact Or.inr rfl) (by first | omega | (intro h; omega) | exact Or.inl rfl | exact Or.inr rfl) hi6 hl (by omega)
      · have d_15 := iEq c_11
        refine ⟨tIn (by omega) (by omega), ?_⟩
        refine ⟨fun c_16 => ?_, fun c_16 => ?_⟩
        · have d_17 := iNe c_16
          unfold fRun_drawAt_105
          have a_19 : (x4 + Int32.ofInt 1).toInt = x4.toInt + (1) := tIc (by omega) (by omega) (by decide) (by decide)
          generalize ez_18 : (x4 + Int32.ofInt 1) = z_18 at a_19 ⊢
          exact ih hR hf (by first | omega | (intro h; omega) | exact Or.inl rfl | exact Or.inr rfl) (by first | omega | (intro h; omega) | exact Or.inl rfl | exact Or.inr rfl) (by first | omega | (intro h; omega) | exact Or.inl rfl | exact Or.inr rfl) (by first | omega | (intro h; omega) | exact Or.inl rfl | exact Or.inr rfl) (by first | omega | (intro h; omega) | exact Or.inl rfl | exact Or.inr rfl) (by first | omega | (intro h; omega) | exact Or.inl rfl | exact Or.inr rfl) hi6 hl (by omega)
        · have d_20 := iEq c_16
          refine ⟨tIn (by omega) (by omega), ?_⟩
          refine ⟨tIn (by omega) (by omega), ?_⟩
          refine ⟨fun c_21 => ?_, fun c_21 => ?_⟩
          · have d_22 := iLe c_21
            refine y_Run_drawPaperl hok hw ra hwuo_0 rauo_0 hwuo_1 rauo_1 huo_0 huo_1 hEN (by first | omega | (intro h; omega) | exact Or.inl rfl | exact Or.inr rfl) (by first | omega | (intro h; omega) | exact Or.inl rfl | exact Or.inr rfl) (by first | omega | (intro h; omega) | exact Or.inl rfl | exact Or.inr rfl) (by first | omega | (intro h; omega) | exact Or.inl rfl | exact Or.inr rfl) hi6 hR (fun I_27 L_28 hR_29 fr_30 u_24 u_25 ln_26 => ⟨I_27, L_28, rfl, rfl, ?_⟩)
            replace hl := hl.call ln_26 (fun c hc => by first | exact hc | exact False.elim hc | (dsimp only at hc ⊢; omega) | omega)
            have hf_31 : Fm (fun c => (o + 24 ≤ c ∧ c < o + 53)) I0 I_27 := hf.call fr_30 (fun c hc => by first | exact hc | (dsimp only at hc ⊢; omega) | omega)
            have g_32 : (0 : Int) ≤ (I_27 (o + 31) 12).toInt ∧ (I_27 (o + 31) 12).toInt ≤ 1440 := hR_29.at0 (rsRun_4 ra) 12 (by decide)
            have g_33 : (0 : Int) ≤ (I_27 (o + 31) 13).toInt ∧ (I_27 (o + 31) 13).toInt ≤ 1440 := hR_29.at0 (rsRun_4 ra) 13 (by decide)
            unfold fRun_drawAt_105
            have a_35 : (x4 + Int32.ofInt 1).toInt = x4.toInt + (1) := tIc (by omega) (by omega) (by decide) (by decide)
            generalize ez_34 : (x4 + Int32.ofInt 1) = z_34 at a_35 ⊢
            exact ih hR_29 hf_31 (by first | omega | (intro h; omega) | exact Or.inl rfl | exact Or.inr rfl) (by first | omega | (intro h; omega) | exact Or.inl rfl | exact Or.inr rfl) (by first | omega | (intro h; omega) | exact Or.inl rfl | exact Or.inr rfl) (by first | omega | (intro h; omega) | exact Or.inl rfl | exact Or.inr rfl) (by first | omega | (intro h; omega) | exact Or.inl rfl | exact Or.inr rfl) (by first | omega | (intro h; omega) | exact Or.inl rfl | exact Or.inr rfl) u_25 hl (by omega)
          · have d_36 := iNle c_21
            exact (hp _ _ hR hf (by first | omega | (intro h; omega) | exact Or.inl rfl | exact Or.inr rfl) hi6 hl)
set_option maxHeartbeats 4000000 in
set_option maxRecDepth 20000 in
theorem yRun_drawAt_8l {D : va_G} {cA : FieldType → ClassId} {b : Nat} {E : State → Prop} {R : qRg} {o n : Nat} {sh : Nat → qC} {Rf : Nat → Nat → Option Nat} {I0 : Nat → Nat → Int32} {L0 : Nat → Nat → Int64} {post : Option Value → qS → Prop} {uo_0 : Nat} {uo_1 : Nat} {p1 : Int32} (hok : q_ok (qGG D cA b E)) (hw : WfRun (qGG D cA b E) n sh Rf o) (ra : RARun R o) (hwuo_0 : WfLand (qGG D cA b E) n sh Rf uo_0) (rauo_0 : RALand R uo_0) (hwuo_1 : WfTrade (qGG D cA b E) n sh Rf uo_1) (rauo_1 : RATrade R uo_1) (huo_0 : Rf o 0 = some uo_0) (huo_1 : Rf o 1 = some uo_1) (hEN : qEN E) (hq0 : (0 : Int) ≤ p1.toInt ∧ p1.toInt ≤ 2) (hq1 : (I0 (o + 31) 13).toInt ≤ (I0 (o + 31) 12).toInt) (hq2 : LodOK I0 (o + 44)) (hp : ∀ (I' : Nat → Nat → Int32) (L' : Nat → Nat → Int64), RI R I' → Fm (fun c => (o + 24 ≤ c ∧ c < o + 53)) I0 I' → ((I' (o + 31) 13).toInt ≤ (I' (o + 31) 12).toInt) → (LodOK I' (o + 44)) → (FmL (fun c => c = (o + 61) ∨ c = (o + 65) ∨ c = o) L0 L') → post none (n, sh, Rf, I', L')) : ∀ (k : Nat) {x1 : Int32} {x2 : Int32} {x3 : Int32} {I : Nat → Nat → Int32} {L : Nat → Nat → Int64}, RI R I → Fm (fun c => (o + 24 ≤ c ∧ c < o + 53)) I0 I → ((0 : Int) ≤ x1.toInt ∧ x1.toInt ≤ 2) → ((-1 : Int) ≤ x2.toInt ∧ x2.toInt ≤ 4) → ((0 : Int) ≤ x3.toInt ∧ x3.toInt ≤ 6) → ((I (o + 31) 13).toInt ≤ (I (o + 31) 12).toInt) → (LodOK I (o + 44)) → (FmL (fun c => c = (o + 61) ∨ c = (o + 65) ∨ c = o) L0 L) → (6 - x3.toInt).toNat < k → Ev (qGG D cA b E) mRun_drawAt 4 (0, 0) 8 [(0, .ref o), (1, .int x1), (2, .int x2), (3, .int x3)] [] (n, sh, Rf, I, L) post := by
  intro k
  induction k with
  | zero =>
    intro x1 x2 x3 I L hR hf hi0 hi1 hi2 hi3 hi4 hl hm
    exact absurd hm (Nat.not_lt_zero _)
  | succ k ih =>
    intro x1 x2 x3 I L hR hf hi0 hi1 hi2 hi3 hi4 hl hm
    have g_37 : (0 : Int) ≤ (I (o + 31) 12).toInt ∧ (I (o + 31) 12).toInt ≤ 1440 := hR.at0 (rsRun_4 ra) 12 (by decide)
    have g_38 : (0 : Int) ≤ (I (o + 31) 13).toInt ∧ (I (o + 31) 13).toInt ≤ 1440 := hR.at0 (rsRun_4 ra) 13 (by decide)
    refine sRun_drawAt_8 o n sh Rf I L post x1 x2 x3 hok hw ?_
    unfold fRun_drawAt_8
    have g_39 : (0 : Int) ≤ (I (o + 19) 6).toInt ∧ (I (o + 19) 6).toInt ≤ 5 := hR.at0 (rsRun_2 ra) 6 (by decide)
    refine ⟨fun c_40 => ?_, fun c_40 => ?_⟩
    · have d_41 := iLt c_40
      exact (hp _ _ hR hf (by first | omega | (intro h; omega) | exact Or.inl rfl | exact Or.inr rfl) hi4 hl)
    · have d_42 := iNlt c_40
      have l_43 : (0 : Int32).toInt = 0 := rfl
      exact yRun_drawAt_22l (I0 := I0) (L0 := L0) (p1 := p1) hok hw ra hwuo_0 rauo_0 hwuo_1 rauo_1 huo_0 huo_1 hEN hq0 hq1 hq2 hp ih _ hR hf (by first | omega | (intro h; omega) | exact Or.inl rfl | exact Or.inr rfl) (by first | omega | (intro h; omega) | exact Or.inl rfl | exact Or.inr rfl) (by first | omega | (intro h; omega) | exact Or.inl rfl | exact Or.inr rfl) (by first | omega | (intro h; omega) | exact Or.inl rfl | exact Or.inr rfl) (by first | omega | (intro h; omega) | exact Or.inl rfl | exact Or.inr rfl) (by first | omega | (intro h; omega) | exact Or.inl rfl | exact Or.inr rfl) hi4 hl (Nat.lt_succ_self _)
set_option maxHeartbeats 4000000 in
set_option maxRecDepth 20000 in
theorem y_Run_drawAtl {D : va_G} {cA : FieldType → ClassId} {b : Nat} {E : State → Prop} {R : qRg} {o n : Nat} {sh : Nat → qC} {Rf : Nat → Nat → Option Nat} {I0 : Nat → Nat → Int32} {L0 : Nat → Nat → Int64} {post : Option Value → qS → Prop} {uo_0 : Nat} {uo_1 : Nat} {p1 : Int32} (hok : q_ok (qGG D cA b E)) (hw : WfRun (qGG D cA b E) n sh Rf o) (ra : RARun R o) (hwuo_0 : WfLand (qGG D cA b E) n sh Rf uo_0) (rauo_0 : RALand R uo_0) (hwuo_1 : WfTrade (qGG D cA b E) n sh Rf uo_1) (rauo_1 : RATrade R uo_1) (huo_0 : Rf o 0 = some uo_0) (huo_1 : Rf o 1 = some uo_1) (hEN : qEN E) (hq0 : (0 : Int) ≤ p1.toInt ∧ p1.toInt ≤ 2) (hq1 : (I0 (o + 31) 13).toInt ≤ (I0 (o + 31) 12).toInt) (hq2 : LodOK I0 (o + 44)) (hR : RI R I0) (hp : ∀ (I' : Nat → Nat → Int32) (L' : Nat → Nat → Int64), RI R I' → Fm (fun c => (o + 24 ≤ c ∧ c < o + 53)) I0 I' → ((I' (o + 31) 13).toInt ≤ (I' (o + 31) 12).toInt) → (LodOK I' (o + 44)) → (FmL (fun c => c = (o + 61) ∨ c = (o + 65) ∨ c = o) L0 L') → post none (n, sh, Rf, I', L')) : Ev (qGG D cA b E) mRun_drawAt 4 (0, 0) 0 (lv_args 0 [.ref o, .int p1]) [] (n, sh, Rf, I0, L0) post := by
  have hf : Fm (fun c => (o + 24 ≤ c ∧ c < o + 53)) I0 I0 := Fm.rf
  have g_44 : (0 : Int) ≤ (I0 (o + 31) 12).toInt ∧ (I0 (o + 31) 12).toInt ≤ 1440 := hR.at0 (rsRun_4 ra) 12 (by decide)
  have g_45 : (0 : Int) ≤ (I0 (o + 31) 13).toInt ∧ (I0 (o + 31) 13).toInt ≤ 1440 := hR.at0 (rsRun_4 ra) 13 (by decide)
  refine sRun_drawAt_0 o n sh Rf I0 L0 post p1 hok hw ?_
  unfold fRun_drawAt_0
  have hl : FmL (fun c => c = (o + 61) ∨ c = (o + 65) ∨ c = o) L0 L0 := FmL.rf
  refine y_Run_townForl hok hw ra hwuo_0 rauo_0 hwuo_1 rauo_1 huo_0 huo_1 hEN (by first | omega | (intro h; omega) | exact Or.inl rfl | exact Or.inr rfl) hR (fun r_46 L_49 u_47 ln_48 => ⟨r_46, I0, L_49, rfl, rfl, ?_⟩)
  replace hl := hl.call ln_48 (fun c hc => by first | exact hc | exact False.elim hc | (dsimp only at hc ⊢; omega) | omega)
  have l_50 : (0 : Int32).toInt = 0 := rfl
  exact yRun_drawAt_8l (I0 := I0) (L0 := L0) (p1 := p1) hok hw ra hwuo_0 rauo_0 hwuo_1 rauo_1 huo_0 huo_1 hEN hq0 hq1 hq2 hp  _ hR hf (by first | omega | (intro h; omega) | exact Or.inl rfl | exact Or.inr rfl) (by first | omega | (intro h; omega) | exact Or.inl rfl | exact Or.inr rfl) (by first | omega | (intro h; omega) | exact Or.inl rfl | exact Or.inr rfl) (by first | omega | (intro h; omega) | exact Or.inl rfl | exact Or.inr rfl) hq2 hl (Nat.lt_succ_self _)
set_option maxHeartbeats 4000000 in
set_option maxRecDepth 20000 in
theorem yRun_drawPapers_13l {D : va_G} {cA : FieldType → ClassId} {b : Nat} {E : State → Prop} {R : qRg} {o n : Nat} {sh : Nat → qC} {Rf : Nat → Nat → Option Nat} {I0 : Nat → Nat → Int32} {L0 : Nat → Nat → Int64} {post : Option Value → qS → Prop} {uo_0 : Nat} {uo_1 : Nat} (hok : q_ok (qGG D cA b E)) (hw : WfRun (qGG D cA b E) n sh Rf o) (ra : RARun R o) (hwuo_0 : WfLand (qGG D cA b E) n sh Rf uo_0) (rauo_0 : RALand R uo_0) (hwuo_1 : WfTrade (qGG D cA b E) n sh Rf uo_1) (rauo_1 : RATrade R uo_1) (huo_0 : Rf o 0 = some uo_0) (huo_1 : Rf o 1 = some uo_1) (hEN : qEN E) (hq0 : (I0 (o + 31) 13).toInt ≤ (I0 (o + 31) 12).toInt) (hq1 : LodOK I0 (o + 44)) (hp : ∀ (I' : Nat → Nat → Int32) (L' : Nat → Nat → Int64), RI R I' → Fm (fun c => c = o + 59 ∨ (o + 19 ≤ c ∧ c < o + 53)) I0 I' → ((I' (o + 31) 13).toInt ≤ (I' (o + 31) 12).toInt) → (LodOK I' (o + 44)) → (FmL (fun c => c = (o + 61) ∨ c = (o + 65) ∨ c = o) L0 L') → post none (n, sh, Rf, I', L')) : ∀ (k : Nat) {x1 : Int32} {I : Nat → Nat → Int32} {L : Nat → Nat → Int64}, RI R I → Fm (fun c => c = o + 59 ∨ (o + 19 ≤ c ∧ c < o + 53)) I0 I → ((0 : Int) ≤ x1.toInt ∧ x1.toInt ≤ 3) → ((I (o + 31) 13).toInt ≤ (I (o + 31) 12).toInt) → (LodOK I (o + 44)) → (FmL (fun c => c = (o + 61) ∨ c = (o + 65) ∨ c = o) L0 L) → (3 - x1.toInt).toNat < k → Ev (qGG D cA b E) mRun_drawPapers 5 (0, 0) 13 [(0, .ref o), (1, .int x1)] [] (n, sh, Rf, I, L) post := by
  intro k
  induction k with
  | zero =>
    intro x1 I L hR hf hi0 hi1 hi2 hl hm
    exact absurd hm (Nat.not_lt_zero _)
  | succ k ih =>
    intro x1 I L hR hf hi0 hi1 hi2 hl hm
    have g_1 : (0 : Int) ≤ (I (o + 31) 12).toInt ∧ (I (o + 31) 12).toInt ≤ 1440 := hR.at0 (rsRun_4 ra) 12 (by decide)
    have g_2 : (0 : Int) ≤ (I (o + 31) 13).toInt ∧ (I (o + 31) 13).toInt ≤ 1440 := hR.at0 (rsRun_4 ra) 13 (by decide)
    refine sRun_drawPapers_13 o n sh Rf I L post x1 uo_0 hok hw huo_0 hwuo_0 ?_
    unfold fRun_drawPapers_13
    have g_3 : (0 : Int) ≤ (I uo_0 2).toInt ∧ (I uo_0 2).toInt ≤ 3 := hR.at0 rauo_0 2 (by decide)
    refine ⟨fun c_4 => ?_, fun c_4 => ?_⟩
    · have d_5 := iLe c_4
      exact (hp _ _ hR hf (by first | omega | (intro h; omega) | exact Or.inl rfl | exact Or.inr rfl) hi2 hl)
    · have d_6 := iNle c_4
      refine ⟨tIn (by omega) (by omega), ?_⟩
      have l_7 : (0 : Int32).toInt = 0 := rfl
      refine ⟨fun c_8 => ?_, fun c_8 => ?_⟩
      · have d_9 := iLe c_8
        unfold fRun_drawPapers_41
        have a_11 : (x1 + Int32.ofInt 1).toInt = x1.toInt + (1) := tIc (by omega) (by omega) (by decide) (by decide)
        generalize ez_10 : (x1 + Int32.ofInt 1) = z_10 at a_11 ⊢
        exact ih hR hf (by first | omega | (intro h; omega) | exact Or.inl rfl | exact Or.inr rfl) (by first | omega | (intro h; omega) | exact Or.inl rfl | exact Or.inr rfl) hi2 hl (by omega)
      · have d_12 := iNle c_8
        refine y_Run_drawAtl hok hw ra hwuo_0 rauo_0 hwuo_1 rauo_1 huo_0 huo_1 hEN (by first | omega | (intro h; omega) | exact Or.inl rfl | exact Or.inr rfl) (by first | omega | (intro h; omega) | exact Or.inl rfl | exact Or.inr rfl) hi2 hR (fun I_17 L_18 hR_19 fr_20 u_14 u_15 ln_16 => ⟨I_17, L_18, rfl, rfl, ?_⟩)
        replace hl := hl.call ln_16 (fun c hc => by first | exact hc | exact False.elim hc | (dsimp only at hc ⊢; omega) | omega)
        have hf_21 : Fm (fun c => c = o + 59 ∨ (o + 19 ≤ c ∧ c < o + 53)) I0 I_17 := hf.call fr_20 (fun c hc => by first | exact hc | (dsimp only at hc ⊢; omega) | omega)
        have g_22 : (0 : Int) ≤ (I_17 (o + 31) 12).toInt ∧ (I_17 (o + 31) 12).toInt ≤ 1440 := hR_19.at0 (rsRun_4 ra) 12 (by decide)
        have g_23 : (0 : Int) ≤ (I_17 (o + 31) 13).toInt ∧ (I_17 (o + 31) 13).toInt ≤ 1440 := hR_19.at0 (rsRun_4 ra) 13 (by decide)
        have g_24 : (0 : Int) ≤ (I_17 uo_0 2).toInt ∧ (I_17 uo_0 2).toInt ≤ 3 := hR_19.at0 rauo_0 2 (by decide)
        unfold fRun_drawPapers_41
        have a_26 : (x1 + Int32.ofInt 1).toInt = x1.toInt + (1) := tIc (by omega) (by omega) (by decide) (by decide)
        generalize ez_25 : (x1 + Int32.ofInt 1) = z_25 at a_26 ⊢
        exact ih hR_19 hf_21 (by first | omega | (intro h; omega) | exact Or.inl rfl | exact Or.inr rfl) (by first | omega | (intro h; omega) | exact Or.inl rfl | exact Or.inr rfl) u_15 hl (by omega)
set_option maxHeartbeats 4000000 in
set_option maxRecDepth 20000 in
theorem y_Run_drawPapersl {D : va_G} {cA : FieldType → ClassId} {b : Nat} {E : State → Prop} {R : qRg} {o n : Nat} {sh : Nat → qC} {Rf : Nat → Nat → Option Nat} {I0 : Nat → Nat → Int32} {L0 : Nat → Nat → Int64} {post : Option Value → qS → Prop} {uo_0 : Nat} {uo_1 : Nat} (hok : q_ok (qGG D cA b E)) (hw : WfRun (qGG D cA b E) n sh Rf o) (ra : RARun R o) (hwuo_0 : WfLand (qGG D cA b E) n sh Rf uo_0) (rauo_0 : RALand R uo_0) (hwuo_1 : WfTrade (qGG D cA b E) n sh Rf uo_1) (rauo_1 : RATrade R uo_1) (huo_0 : Rf o 0 = some uo_0) (huo_1 : Rf o 1 = some uo_1) (hEN : qEN E) (hq0 : (I0 (o + 31) 13).toInt ≤ (I0 (o + 31) 12).toInt) (hq1 : LodOK I0 (o + 44)) (hR : RI R I0) (hp : ∀ (I' : Nat → Nat → Int32) (L' : Nat → Nat → Int64), RI R I' → Fm (fun c => c = o + 59 ∨ (o + 19 ≤ c ∧ c < o + 53)) I0 I' → ((I' (o + 31) 13).toInt ≤ (I' (o + 31) 12).toInt) → (LodOK I' (o + 44)) → (FmL (fun c => c = (o + 61) ∨ c = (o + 65) ∨ c = o) L0 L') → post none (n, sh, Rf, I', L')) : Ev (qGG D cA b E) mRun_drawPapers 5 (0, 0) 0 (lv_args 0 [.ref o]) [] (n, sh, Rf, I0, L0) post := by
  have hf : Fm (fun c => c = o + 59 ∨ (o + 19 ≤ c ∧ c < o + 53)) I0 I0 := Fm.rf
  have g_27 : (0 : Int) ≤ (I0 (o + 31) 12).toInt ∧ (I0 (o + 31) 12).toInt ≤ 1440 := hR.at0 (rsRun_4 ra) 12 (by decide)
  have g_28 : (0 : Int) ≤ (I0 (o + 31) 13).toInt ∧ (I0 (o + 31) 13).toInt ≤ 1440 := hR.at0 (rsRun_4 ra) 13 (by decide)
  refine sRun_drawPapers_0 o n sh Rf I0 L0 post uo_0 hok hw huo_0 hwuo_0 ?_
  unfold fRun_drawPapers_0
  have hl : FmL (fun c => c = (o + 61) ∨ c = (o + 65) ∨ c = o) L0 L0 := FmL.rf
  refine y_Papers_closeQueuel hok (wsRun_4 hw) (rsRun_4 ra) (by first | omega | (intro h; omega) | exact Or.inl rfl | exact Or.inr rfl) hR (fun I_32 L_33 hR_34 fr_35 u_30 ln_31 => ⟨I_32, L_33, rfl, rfl, ?_⟩)
  replace hl := hl.call ln_31 (fun c hc => by first | exact hc | exact False.elim hc | (dsimp only at hc ⊢; omega) | omega)
  have hf_36 : Fm (fun c => c = o + 59 ∨ (o + 19 ≤ c ∧ c < o + 53)) I0 I_32 := hf.call fr_35 (fun c hc => by first | exact hc | (dsimp only at hc ⊢; omega) | omega)
  have g_37 : (0 : Int) ≤ (I_32 (o + 31) 12).toInt ∧ (I_32 (o + 31) 12).toInt ≤ 1440 := hR_34.at0 (rsRun_4 ra) 12 (by decide)
  have g_38 : (0 : Int) ≤ (I_32 (o + 31) 13).toInt ∧ (I_32 (o + 31) 13).toInt ≤ 1440 := hR_34.at0 (rsRun_4 ra) 13 (by decide)
  have k_39 : LodOK I_32 (o + 44) := hq1.fr (fr_35 _ (by first | omega | (dsimp only; omega))) (fr_35 _ (by first | omega | (dsimp only; omega))) (fr_35 _ (by first | omega | (dsimp only; omega))) (by rw [fr_35 (o + 44) (by first | omega | (dsimp only; omega))])
  refine y_Run_classAlll hok hw ra hwuo_0 rauo_0 hwuo_1 rauo_1 huo_0 huo_1 hR_34 (fun I_42 L_43 hR_44 fr_45 ln_41 => ⟨I_42, L_43, rfl, rfl, ?_⟩)
  replace hl := hl.call ln_41 (fun c hc => by first | exact hc | exact False.elim hc | (dsimp only at hc ⊢; omega) | omega)
  have hf_46 : Fm (fun c => c = o + 59 ∨ (o + 19 ≤ c ∧ c < o + 53)) I0 I_42 := hf_36.call fr_45 (fun c hc => by first | exact hc | (dsimp only at hc ⊢; omega) | omega)
  have t_47 : (I_42 (o + 31) 12).toInt = (I_32 (o + 31) 12).toInt := by rw [fr_45 (o + 31) (by first | omega | (dsimp only; omega))]
  have t_48 : (I_42 (o + 31) 13).toInt = (I_32 (o + 31) 13).toInt := by rw [fr_45 (o + 31) (by first | omega | (dsimp only; omega))]
  have k_49 : LodOK I_42 (o + 44) := k_39.fr (fr_45 _ (by first | omega | (dsimp only; omega))) (fr_45 _ (by first | omega | (dsimp only; omega))) (fr_45 _ (by first | omega | (dsimp only; omega))) (by rw [fr_45 (o + 44) (by first | omega | (dsimp only; omega))])
  have l_50 : (0 : Int32).toInt = 0 := rfl
  exact yRun_drawPapers_13l (I0 := I0) (L0 := L0) hok hw ra hwuo_0 rauo_0 hwuo_1 rauo_1 huo_0 huo_1 hEN hq0 hq1 hp  _ hR_44 hf_46 (by first | omega | (intro h; omega) | exact Or.inl rfl | exact Or.inr rfl) (by first | omega | (intro h; omega) | exact Or.inl rfl | exact Or.inr rfl) k_49 hl (Nat.lt_succ_self _)
set_option maxHeartbeats 4000000 in
set_option maxRecDepth 20000 in
theorem yRun_bury_60l {D : va_G} {cA : FieldType → ClassId} {b : Nat} {E : State → Prop} {R : qRg} {o n : Nat} {sh : Nat → qC} {Rf : Nat → Nat → Option Nat} {I0 : Nat → Nat → Int32} {L0 : Nat → Nat → Int64} {post : Option Value → qS → Prop} {uo_0 : Nat} {uo_1 : Nat} {p1 : Int32} (hok : q_ok (qGG D cA b E)) (hw : WfRun (qGG D cA b E) n sh Rf o) (ra : RARun R o) (hwuo_0 : WfLand (qGG D cA b E) n sh Rf uo_0) (rauo_0 : RALand R uo_0) (hwuo_1 : WfTrade (qGG D cA b E) n sh Rf uo_1) (rauo_1 : RATrade R uo_1) (huo_0 : Rf o 0 = some uo_0) (huo_1 : Rf o 1 = some uo_1) (hq0 : (0 : Int) ≤ p1.toInt ∧ p1.toInt ≤ 5) (hq1 : (I0 (o + 31) 13).toInt ≤ (I0 (o + 31) 12).toInt) (hq2 : LodOK I0 (o + 44)) (hp : ∀ (I' : Nat → Nat → Int32) (L' : Nat → Nat → Int64), RI R I' → Fm (fun c => (o + 31 ≤ c ∧ c < o + 53) ∨ c = o + 62) I0 I' → ((I' (o + 31) 13).toInt ≤ (I' (o + 31) 12).toInt) → (LodOK I' (o + 44)) → (FmL (fun c => c = (o + 61) ∨ c = (o + 65)) L0 L') → post none (n, sh, Rf, I', L')) : ∀ (k : Nat) {x1 : Int32} {x2 : Int32} {x3 : Int32} {I : Nat → Nat → Int32} {L : Nat → Nat → Int64}, RI R I → Fm (fun c => (o + 31 ≤ c ∧ c < o + 53) ∨ c = o + 62) I0 I → ((0 : Int) ≤ x1.toInt ∧ x1.toInt ≤ 5) → ((0 : Int) ≤ x3.toInt ∧ x3.toInt ≤ 3) → ((I (o + 31) 13).toInt ≤ (I (o + 31) 12).toInt) → (LodOK I (o + 44)) → (FmL (fun c => c = (o + 61) ∨ c = (o + 65)) L0 L) → (3 - x3.toInt).toNat < k → Ev (qGG D cA b E) mRun_bury 3 (0, 0) 60 [(0, .ref o), (1, .int x1), (2, .int x2), (3, .int x3)] [] (n, sh, Rf, I, L) post := by
  intro k
  induction k with
  | zero =>
    intro x1 x2 x3 I L hR hf hi0 hi1 hi2 hi3 hl hm
    exact absurd hm (Nat.not_lt_zero _)
  | succ k ih =>
    intro x1 x2 x3 I L hR hf hi0 hi1 hi2 hi3 hl hm
    have g_1 : (0 : Int) ≤ (I (o + 31) 12).toInt ∧ (I (o + 31) 12).toInt ≤ 1440 := hR.at0 (rsRun_4 ra) 12 (by decide)
    have g_2 : (0 : Int) ≤ (I (o + 31) 13).toInt ∧ (I (o + 31) 13).toInt ≤ 1440 := hR.at0 (rsRun_4 ra) 13 (by decide)
    refine sRun_bury_60 o n sh Rf I L post x1 x2 x3 hok hw ?_
    unfold fRun_bury_60
    have l_3 : (3 : Int32).toInt = 3 := rfl
    refine ⟨fun c_4 => ?_, fun c_4 => ?_⟩
    · have d_5 := iLe c_4
      exact (hp _ _ hR hf (by first | omega | (intro h; omega) | exact Or.inl rfl | exact Or.inr rfl) hi3 hl)
    · have d_6 := iNle c_4
      have a_7 : (x1 * 3).toInt = x1.toInt * 3 := tMul rfl (by omega) (by omega)
      have a_8 : ((x1 * 3) + x3).toInt = (x1 * 3).toInt + x3.toInt := tAdd (by omega) (by omega)
      have l_9 : (-1 : Int32).toInt = -1 := rfl
      refine ⟨tIn (by omega) (by omega), fun I_10 e_11 => ?_⟩
      have hR_12 : RI R I_10 := hR.up ra 62 (by decide) (Or.inl rfl) e_11 (i_lo _) (i_hi _)
      have hf_13 : Fm (fun c => (o + 31 ≤ c ∧ c < o + 53) ∨ c = o + 62) I0 I_10 := hf.set (by first | rfl | omega | (dsimp only; omega)) e_11
      have t_14 : (I_10 (o + 31) 12).toInt = (I (o + 31) 12).toInt := by rw [← e_11, q_u_ne (by omega)]
      have t_15 : (I_10 (o + 31) 13).toInt = (I (o + 31) 13).toInt := by rw [← e_11, q_u_ne (by omega)]
      have k_16 : LodOK I_10 (o + 44) := hi3.fr (by rw [← e_11]; exact q_u_ne (by omega)) (by rw [← e_11]; exact q_u_ne (by omega)) (by rw [← e_11]; exact q_u_ne (by omega)) (by rw [← e_11, q_u_ne (by omega)])
      have a_18 : (x3 + Int32.ofInt 1).toInt = x3.toInt + (1) := tIc (by omega) (by omega) (by decide) (by decide)
      generalize ez_17 : (x3 + Int32.ofInt 1) = z_17 at a_18 ⊢
      exact ih hR_12 hf_13 (by first | omega | (intro h; omega) | exact Or.inl rfl | exact Or.inr rfl) (by first | omega | (intro h; omega) | exact Or.inl rfl | exact Or.inr rfl) (by first | omega | (intro h; omega) | exact Or.inl rfl | exact Or.inr rfl) k_16 hl (by omega)
set_option maxHeartbeats 4000000 in
set_option maxRecDepth 20000 in
theorem y_Run_buryl {D : va_G} {cA : FieldType → ClassId} {b : Nat} {E : State → Prop} {R : qRg} {o n : Nat} {sh : Nat → qC} {Rf : Nat → Nat → Option Nat} {I0 : Nat → Nat → Int32} {L0 : Nat → Nat → Int64} {post : Option Value → qS → Prop} {uo_0 : Nat} {uo_1 : Nat} {p1 : Int32} (hok : q_ok (qGG D cA b E)) (hw : WfRun (qGG D cA b E) n sh Rf o) (ra : RARun R o) (hwuo_0 : WfLand (qGG D cA b E) n sh Rf uo_0) (rauo_0 : RALand R uo_0) (hwuo_1 : WfTrade (qGG D cA b E) n sh Rf uo_1) (rauo_1 : RATrade R uo_1) (huo_0 : Rf o 0 = some uo_0) (huo_1 : Rf o 1 = some uo_1) (hq0 : (0 : Int) ≤ p1.toInt ∧ p1.toInt ≤ 5) (hq1 : (I0 (o + 31) 13).toInt ≤ (I0 (o + 31) 12).toInt) (hq2 : LodOK I0 (o + 44)) (hR : RI R I0) (hp : ∀ (I' : Nat → Nat → Int32) (L' : Nat → Nat → Int64), RI R I' → Fm (fun c => (o + 31 ≤ c ∧ c < o + 53) ∨ c = o + 62) I0 I' → ((I' (o + 31) 13).toInt ≤ (I' (o + 31) 12).toInt) → (LodOK I' (o + 44)) → (FmL (fun c => c = (o + 61) ∨ c = (o + 65)) L0 L') → post none (n, sh, Rf, I', L')) : Ev (qGG D cA b E) mRun_bury 3 (0, 0) 0 (lv_args 0 [.ref o, .int p1]) [] (n, sh, Rf, I0, L0) post := by
  have hf : Fm (fun c => (o + 31 ≤ c ∧ c < o + 53) ∨ c = o + 62) I0 I0 := Fm.rf
  have g_19 : (0 : Int) ≤ (I0 (o + 31) 12).toInt ∧ (I0 (o + 31) 12).toInt ≤ 1440 := hR.at0 (rsRun_4 ra) 12 (by decide)
  have g_20 : (0 : Int) ≤ (I0 (o + 31) 13).toInt ∧ (I0 (o + 31) 13).toInt ≤ 1440 := hR.at0 (rsRun_4 ra) 13 (by decide)
  refine sRun_bury_0 o n sh Rf I0 L0 post p1 hok hw ?_
  unfold fRun_bury_0
  have hl : FmL (fun c => c = (o + 61) ∨ c = (o + 65)) L0 L0 := FmL.rf
  refine ⟨tIn (by omega) (by omega), ?_⟩
  have g_21 : (-1 : Int) ≤ (I0 (o + 64) (p1 : Int32).toNatClampNeg).toInt ∧ (I0 (o + 64) (p1 : Int32).toNatClampNeg).toInt ≤ 5 := hR.at ra 64 _ (by decide)
  have l_22 : (-1 : Int32).toInt = -1 := rfl
  refine ⟨fun c_23 => ?_, fun c_23 => ?_⟩
  · have d_24 := iEq c_23
    unfold fRun_bury_22
    refine ⟨tIn (by omega) (by omega), ?_⟩
    refine y_Run_payTol hok hw ra (by first | omega | (intro h; omega) | exact Or.inl rfl | exact Or.inr rfl) hR (fun L_27 ln_26 => ⟨I0, L_27, rfl, rfl, ?_⟩)
    replace hl := hl.call ln_26 (fun c hc => by first | exact hc | exact False.elim hc | (dsimp only at hc ⊢; omega) | omega)
    have l_28 : (0 : Int32).toInt = 0 := rfl
    refine ⟨tIn (by omega) (by omega), fun L_29 e_30 => ?_⟩
    replace hl := hl.set (by first | rfl | omega | (dsimp only; omega)) e_30
    refine y_Papers_leaveTol hok (wsRun_4 hw) (rsRun_4 ra) (by first | omega | (intro h; omega) | exact Or.inl rfl | exact Or.inr rfl) (by first | omega | (intro h; omega) | exact Or.inl rfl | exact Or.inr rfl) hR (fun I_34 L_35 hR_36 fr_37 u_32 ln_33 => ⟨I_34, L_35, rfl, rfl, ?_⟩)
    replace hl := hl.call ln_33 (fun c hc => by first | exact hc | exact False.elim hc | (dsimp only at hc ⊢; omega) | omega)
    have hf_38 : Fm (fun c => (o + 31 ≤ c ∧ c < o + 53) ∨ c = o + 62) I0 I_34 := hf.call fr_37 (fun c hc => by first | exact hc | (dsimp only at hc ⊢; omega) | omega)
    have g_39 : (0 : Int) ≤ (I_34 (o + 31) 12).toInt ∧ (I_34 (o + 31) 12).toInt ≤ 1440 := hR_36.at0 (rsRun_4 ra) 12 (by decide)
    have g_40 : (0 : Int) ≤ (I_34 (o + 31) 13).toInt ∧ (I_34 (o + 31) 13).toInt ≤ 1440 := hR_36.at0 (rsRun_4 ra) 13 (by decide)
    have k_41 : LodOK I_34 (o + 44) := hq2.fr (fr_37 _ (by first | omega | (dsimp only; omega))) (fr_37 _ (by first | omega | (dsimp only; omega))) (fr_37 _ (by first | omega | (dsimp only; omega))) (by rw [fr_37 (o + 44) (by first | omega | (dsimp only; omega))])
    refine y_Loads_leaveTol hok (wsRun_5 hw) (rsRun_5 ra) (by first | omega | (intro h; omega) | exact Or.inl rfl | exact Or.inr rfl) k_41 hR_36 (fun I_45 L_46 hR_47 fr_48 u_43 ln_44 => ⟨I_45, L_46, rfl, rfl, ?_⟩)
    replace hl := hl.call ln_44 (fun c hc => by first | exact hc | exact False.elim hc | (dsimp only at hc ⊢; omega) | omega)
    have hf_49 : Fm (fun c => (o + 31 ≤ c ∧ c < o + 53) ∨ c = o + 62) I0 I_45 := hf_38.call fr_48 (fun c hc => by first | exact hc | (dsimp only at hc ⊢; omega) | omega)
    have t_50 : (I_45 (o + 31) 12).toInt = (I_34 (o + 31) 12).toInt := by rw [fr_48 (o + 31) (by first | omega | (dsimp only; omega))]
    have t_51 : (I_45 (o + 31) 13).toInt = (I_34 (o + 31) 13).toInt := by rw [fr_48 (o + 31) (by first | omega | (dsimp only; omega))]
    exact yRun_bury_60l (I0 := I0) (L0 := L0) (p1 := p1) hok hw ra hwuo_0 rauo_0 hwuo_1 rauo_1 huo_0 huo_1 hq0 hq1 hq2 hp  _ hR_47 hf_49 (by first | omega | (intro h; omega) | exact Or.inl rfl | exact Or.inr rfl) (by first | omega | (intro h; omega) | exact Or.inl rfl | exact Or.inr rfl) (by first | omega | (intro h; omega) | exact Or.inl rfl | exact Or.inr rfl) u_43 hl (Nat.lt_succ_self _)
  · have d_52 := iNe c_23
    refine y_Run_isDeadl hok hw ra (by first | omega | (intro h; omega) | exact Or.inl rfl | exact Or.inr rfl) hR (fun r_53 u_54 => ⟨r_53, I0, L0, rfl, rfl, ?_⟩)
    have b_55 : 0 ≤ r_53.toInt ∧ r_53.toInt ≤ 1 := u_54.rg
    have l_56 : (0 : Int32).toInt = 0 := rfl
    refine ⟨fun c_57 => ?_, fun c_57 => ?_⟩
    · have d_58 := iEq c_57
      unfold fRun_bury_22
      refine ⟨tIn (by omega) (by omega), ?_⟩
      refine y_Run_payTol hok hw ra (by first | omega | (intro h; omega) | exact Or.inl rfl | exact Or.inr rfl) hR (fun L_61 ln_60 => ⟨I0, L_61, rfl, rfl, ?_⟩)
      replace hl := hl.call ln_60 (fun c hc => by first | exact hc | exact False.elim hc | (dsimp only at hc ⊢; omega) | omega)
      refine ⟨tIn (by omega) (by omega), fun L_62 e_63 => ?_⟩
      replace hl := hl.set (by first | rfl | omega | (dsimp only; omega)) e_63
      refine y_Papers_leaveTol hok (wsRun_4 hw) (rsRun_4 ra) (by first | omega | (intro h; omega) | exact Or.inl rfl | exact Or.inr rfl) (by first | omega | (intro h; omega) | exact Or.inl rfl | exact Or.inr rfl) hR (fun I_67 L_68 hR_69 fr_70 u_65 ln_66 => ⟨I_67, L_68, rfl, rfl, ?_⟩)
      replace hl := hl.call ln_66 (fun c hc => by first | exact hc | exact False.elim hc | (dsimp only at hc ⊢; omega) | omega)
      have hf_71 : Fm (fun c => (o + 31 ≤ c ∧ c < o + 53) ∨ c = o + 62) I0 I_67 := hf.call fr_70 (fun c hc => by first | exact hc | (dsimp only at hc ⊢; omega) | omega)
      have g_72 : (0 : Int) ≤ (I_67 (o + 31) 12).toInt ∧ (I_67 (o + 31) 12).toInt ≤ 1440 := hR_69.at0 (rsRun_4 ra) 12 (by decide)
      have g_73 : (0 : Int) ≤ (I_67 (o + 31) 13).toInt ∧ (I_67 (o + 31) 13).toInt ≤ 1440 := hR_69.at0 (rsRun_4 ra) 13 (by decide)
      have k_74 : LodOK I_67 (o + 44) := hq2.fr (fr_70 _ (by first | omega | (dsimp only; omega))) (fr_70 _ (by first | omega | (dsimp only; omega))) (fr_70 _ (by first | omega | (dsimp only; omega))) (by rw [fr_70 (o + 44) (by first | omega | (dsimp only; omega))])
      refine y_Loads_leaveTol hok (wsRun_5 hw) (rsRun_5 ra) (by first | omega | (intro h; omega) | exact Or.inl rfl | exact Or.inr rfl) k_74 hR_69 (fun I_78 L_79 hR_80 fr_81 u_76 ln_77 => ⟨I_78, L_79, rfl, rfl, ?_⟩)
      replace hl := hl.call ln_77 (fun c hc => by first | exact hc | exact False.elim hc | (dsimp only at hc ⊢; omega) | omega)
      have hf_82 : Fm (fun c => (o + 31 ≤ c ∧ c < o + 53) ∨ c = o + 62) I0 I_78 := hf_71.call fr_81 (fun c hc => by first | exact hc | (dsimp only at hc ⊢; omega) | omega)
      have t_83 : (I_78 (o + 31) 12).toInt = (I_67 (o + 31) 12).toInt := by rw [fr_81 (o + 31) (by first | omega | (dsimp only; omega))]
      have t_84 : (I_78 (o + 31) 13).toInt = (I_67 (o + 31) 13).toInt := by rw [fr_81 (o + 31) (by first | omega | (dsimp only; omega))]
      exact yRun_bury_60l (I0 := I0) (L0 := L0) (p1 := p1) hok hw ra hwuo_0 rauo_0 hwuo_1 rauo_1 huo_0 huo_1 hq0 hq1 hq2 hp  _ hR_80 hf_82 (by first | omega | (intro h; omega) | exact Or.inl rfl | exact Or.inr rfl) (by first | omega | (intro h; omega) | exact Or.inl rfl | exact Or.inr rfl) (by first | omega | (intro h; omega) | exact Or.inl rfl | exact Or.inr rfl) u_76 hl (Nat.lt_succ_self _)
    · have d_85 := iNe c_57
      unfold fRun_bury_22
      refine ⟨tIn (by omega) (by omega), ?_⟩
      refine y_Run_payTol hok hw ra (by first | omega | (intro h; omega) | exact Or.inl rfl | exact Or.inr rfl) hR (fun L_88 ln_87 => ⟨I0, L_88, rfl, rfl, ?_⟩)
      replace hl := hl.call ln_87 (fun c hc => by first | exact hc | exact False.elim hc | (dsimp only at hc ⊢; omega) | omega)
      refine ⟨tIn (by omega) (by omega), fun L_89 e_90 => ?_⟩
      replace hl := hl.set (by first | rfl | omega | (dsimp only; omega)) e_90
      refine y_Papers_leaveTol hok (wsRun_4 hw) (rsRun_4 ra) (by first | omega | (intro h; omega) | exact Or.inl rfl | exact Or.inr rfl) (by first | omega | (intro h; omega) | exact Or.inl rfl | exact Or.inr rfl) hR (fun I_94 L_95 hR_96 fr_97 u_92 ln_93 => ⟨I_94, L_95, rfl, rfl, ?_⟩)
      replace hl := hl.call ln_93 (fun c hc => by first | exact hc | exact False.elim hc | (dsimp only at hc ⊢; omega) | omega)
      have hf_98 : Fm (fun c => (o + 31 ≤ c ∧ c < o + 53) ∨ c = o + 62) I0 I_94 := hf.call fr_97 (fun c hc => by first | exact hc | (dsimp only at hc ⊢; omega) | omega)
      have g_99 : (0 : Int) ≤ (I_94 (o + 31) 12).toInt ∧ (I_94 (o + 31) 12).toInt ≤ 1440 := hR_96.at0 (rsRun_4 ra) 12 (by decide)
      have g_100 : (0 : Int) ≤ (I_94 (o + 31) 13).toInt ∧ (I_94 (o + 31) 13).toInt ≤ 1440 := hR_96.at0 (rsRun_4 ra) 13 (by decide)
      have k_101 : LodOK I_94 (o + 44) := hq2.fr (fr_97 _ (by first | omega | (dsimp only; omega))) (fr_97 _ (by first | omega | (dsimp only; omega))) (fr_97 _ (by first | omega | (dsimp only; omega))) (by rw [fr_97 (o + 44) (by first | omega | (dsimp only; omega))])
      refine y_Loads_leaveTol hok (wsRun_5 hw) (rsRun_5 ra) (by first | omega | (intro h; omega) | exact Or.inl rfl | exact Or.inr rfl) k_101 hR_96 (fun I_105 L_106 hR_107 fr_108 u_103 ln_104 => ⟨I_105, L_106, rfl, rfl, ?_⟩)
      replace hl := hl.call ln_104 (fun c hc => by first | exact hc | exact False.elim hc | (dsimp only at hc ⊢; omega) | omega)
      have hf_109 : Fm (fun c => (o + 31 ≤ c ∧ c < o + 53) ∨ c = o + 62) I0 I_105 := hf_98.call fr_108 (fun c hc => by first | exact hc | (dsimp only at hc ⊢; omega) | omega)
      have t_110 : (I_105 (o + 31) 12).toInt = (I_94 (o + 31) 12).toInt := by rw [fr_108 (o + 31) (by first | omega | (dsimp only; omega))]
      have t_111 : (I_105 (o + 31) 13).toInt = (I_94 (o + 31) 13).toInt := by rw [fr_108 (o + 31) (by first | omega | (dsimp only; omega))]
      exact yRun_bury_60l (I0 := I0) (L0 := L0) (p1 := p1) hok hw ra hwuo_0 rauo_0 hwuo_1 rauo_1 huo_0 huo_1 hq0 hq1 hq2 hp  _ hR_107 hf_109 (by first | omega | (intro h; omega) | exact Or.inl rfl | exact Or.inr rfl) (by first | omega | (intro h; omega) | exact Or.inl rfl | exact Or.inr rfl) (by first | omega | (intro h; omega) | exact Or.inl rfl | exact Or.inr rfl) u_103 hl (Nat.lt_succ_self _)
set_option maxHeartbeats 4000000 in
set_option maxRecDepth 20000 in
theorem yRun_buryDead_2l {D : va_G} {cA : FieldType → ClassId} {b : Nat} {E : State → Prop} {R : qRg} {o n : Nat} {sh : Nat → qC} {Rf : Nat → Nat → Option Nat} {I0 : Nat → Nat → Int32} {L0 : Nat → Nat → Int64} {post : Option Value → qS → Prop} {uo_1 : Nat} {uo_0 : Nat} (hok : q_ok (qGG D cA b E)) (hw : WfRun (qGG D cA b E) n sh Rf o) (ra : RARun R o) (hwuo_1 : WfTrade (qGG D cA b E) n sh Rf uo_1) (rauo_1 : RATrade R uo_1) (hwuo_0 : WfLand (qGG D cA b E) n sh Rf uo_0) (rauo_0 : RALand R uo_0) (huo_1 : Rf o 1 = some uo_1) (huo_0 : Rf o 0 = some uo_0) (hq0 : (I0 (o + 31) 13).toInt ≤ (I0 (o + 31) 12).toInt) (hq1 : LodOK I0 (o + 44)) (hp : ∀ (I' : Nat → Nat → Int32) (L' : Nat → Nat → Int64), RI R I' → Fm (fun c => (o + 31 ≤ c ∧ c < o + 53) ∨ c = o + 62) I0 I' → ((I' (o + 31) 13).toInt ≤ (I' (o + 31) 12).toInt) → (LodOK I' (o + 44)) → (FmL (fun c => c = (o + 61) ∨ c = (o + 65)) L0 L') → post none (n, sh, Rf, I', L')) : ∀ (k : Nat) {x1 : Int32} {I : Nat → Nat → Int32} {L : Nat → Nat → Int64}, RI R I → Fm (fun c => (o + 31 ≤ c ∧ c < o + 53) ∨ c = o + 62) I0 I → ((0 : Int) ≤ x1.toInt ∧ x1.toInt ≤ 6) → ((I (o + 31) 13).toInt ≤ (I (o + 31) 12).toInt) → (LodOK I (o + 44)) → (FmL (fun c => c = (o + 61) ∨ c = (o + 65)) L0 L) → (6 - x1.toInt).toNat < k → Ev (qGG D cA b E) mRun_buryDead 4 (0, 0) 2 [(0, .ref o), (1, .int x1)] [] (n, sh, Rf, I, L) post := by
  intro k
  induction k with
  | zero =>
    intro x1 I L hR hf hi0 hi1 hi2 hl hm
    exact absurd hm (Nat.not_lt_zero _)
  | succ k ih =>
    intro x1 I L hR hf hi0 hi1 hi2 hl hm
    have g_1 : (0 : Int) ≤ (I (o + 31) 12).toInt ∧ (I (o + 31) 12).toInt ≤ 1440 := hR.at0 (rsRun_4 ra) 12 (by decide)
    have g_2 : (0 : Int) ≤ (I (o + 31) 13).toInt ∧ (I (o + 31) 13).toInt ≤ 1440 := hR.at0 (rsRun_4 ra) 13 (by decide)
    refine sRun_buryDead_2 o n sh Rf I L post x1 uo_1 hok hw huo_1 hwuo_1 ?_
    unfold fRun_buryDead_2
    have g_3 : (0 : Int) ≤ (I uo_1 1).toInt ∧ (I uo_1 1).toInt ≤ 6 := hR.at0 rauo_1 1 (by decide)
    refine ⟨fun c_4 => ?_, fun c_4 => ?_⟩
    · have d_5 := iLe c_4
      exact (hp _ _ hR hf (by first | omega | (intro h; omega) | exact Or.inl rfl | exact Or.inr rfl) hi2 hl)
    · have d_6 := iNle c_4
      refine ⟨tIn (by omega) (by omega), ?_⟩
      have g_7 : (0 : Int) ≤ (I o 17).toInt ∧ (I o 17).toInt ≤ 240 := hR.at0 ra 17 (by decide)
      refine ⟨fun c_8 => ?_, fun c_8 => ?_⟩
      · have d_9 := iNe c_8
        unfold fRun_buryDead_31
        have a_11 : (x1 + Int32.ofInt 1).toInt = x1.toInt + (1) := tIc (by omega) (by omega) (by decide) (by decide)
        generalize ez_10 : (x1 + Int32.ofInt 1) = z_10 at a_11 ⊢
        exact ih hR hf (by first | omega | (intro h; omega) | exact Or.inl rfl | exact Or.inr rfl) (by first | omega | (intro h; omega) | exact Or.inl rfl | exact Or.inr rfl) hi2 hl (by omega)
      · have d_12 := iEq c_8
        refine y_Run_buryl hok hw ra hwuo_0 rauo_0 hwuo_1 rauo_1 huo_0 huo_1 (by first | omega | (intro h; omega) | exact Or.inl rfl | exact Or.inr rfl) (by first | omega | (intro h; omega) | exact Or.inl rfl | exact Or.inr rfl) hi2 hR (fun I_17 L_18 hR_19 fr_20 u_14 u_15 ln_16 => ⟨I_17, L_18, rfl, rfl, ?_⟩)
        replace hl := hl.call ln_16 (fun c hc => by first | exact hc | exact False.elim hc | (dsimp only at hc ⊢; omega) | omega)
        have hf_21 : Fm (fun c => (o + 31 ≤ c ∧ c < o + 53) ∨ c = o + 62) I0 I_17 := hf.call fr_20 (fun c hc => by first | exact hc | (dsimp only at hc ⊢; omega) | omega)
        have g_22 : (0 : Int) ≤ (I_17 (o + 31) 12).toInt ∧ (I_17 (o + 31) 12).toInt ≤ 1440 := hR_19.at0 (rsRun_4 ra) 12 (by decide)
        have g_23 : (0 : Int) ≤ (I_17 (o + 31) 13).toInt ∧ (I_17 (o + 31) 13).toInt ≤ 1440 := hR_19.at0 (rsRun_4 ra) 13 (by decide)
        have g_24 : (0 : Int) ≤ (I_17 uo_1 1).toInt ∧ (I_17 uo_1 1).toInt ≤ 6 := hR_19.at0 rauo_1 1 (by decide)
        have t_25 : (I_17 o 17).toInt = (I o 17).toInt := by rw [fr_20 o (by first | omega | (dsimp only; omega))]
        unfold fRun_buryDead_31
        have a_27 : (x1 + Int32.ofInt 1).toInt = x1.toInt + (1) := tIc (by omega) (by omega) (by decide) (by decide)
        generalize ez_26 : (x1 + Int32.ofInt 1) = z_26 at a_27 ⊢
        exact ih hR_19 hf_21 (by first | omega | (intro h; omega) | exact Or.inl rfl | exact Or.inr rfl) (by first | omega | (intro h; omega) | exact Or.inl rfl | exact Or.inr rfl) u_15 hl (by omega)
set_option maxHeartbeats 4000000 in
set_option maxRecDepth 20000 in
theorem y_Run_buryDeadl {D : va_G} {cA : FieldType → ClassId} {b : Nat} {E : State → Prop} {R : qRg} {o n : Nat} {sh : Nat → qC} {Rf : Nat → Nat → Option Nat} {I0 : Nat → Nat → Int32} {L0 : Nat → Nat → Int64} {post : Option Value → qS → Prop} {uo_1 : Nat} {uo_0 : Nat} (hok : q_ok (qGG D cA b E)) (hw : WfRun (qGG D cA b E) n sh Rf o) (ra : RARun R o) (hwuo_1 : WfTrade (qGG D cA b E) n sh Rf uo_1) (rauo_1 : RATrade R uo_1) (hwuo_0 : WfLand (qGG D cA b E) n sh Rf uo_0) (rauo_0 : RALand R uo_0) (huo_1 : Rf o 1 = some uo_1) (huo_0 : Rf o 0 = some uo_0) (hq0 : (I0 (o + 31) 13).toInt ≤ (I0 (o + 31) 12).toInt) (hq1 : LodOK I0 (o + 44)) (hR : RI R I0) (hp : ∀ (I' : Nat → Nat → Int32) (L' : Nat → Nat → Int64), RI R I' → Fm (fun c => (o + 31 ≤ c ∧ c < o + 53) ∨ c = o + 62) I0 I' → ((I' (o + 31) 13).toInt ≤ (I' (o + 31) 12).toInt) → (LodOK I' (o + 44)) → (FmL (fun c => c = (o + 61) ∨ c = (o + 65)) L0 L') → post none (n, sh, Rf, I', L')) : Ev (qGG D cA b E) mRun_buryDead 4 (0, 0) 0 (lv_args 0 [.ref o]) [] (n, sh, Rf, I0, L0) post := by
  have hf : Fm (fun c => (o + 31 ≤ c ∧ c < o + 53) ∨ c = o + 62) I0 I0 := Fm.rf
  have g_28 : (0 : Int) ≤ (I0 (o + 31) 12).toInt ∧ (I0 (o + 31) 12).toInt ≤ 1440 := hR.at0 (rsRun_4 ra) 12 (by decide)
  have g_29 : (0 : Int) ≤ (I0 (o + 31) 13).toInt ∧ (I0 (o + 31) 13).toInt ≤ 1440 := hR.at0 (rsRun_4 ra) 13 (by decide)
  refine sRun_buryDead_0 o n sh Rf I0 L0 post uo_1 hok hw huo_1 hwuo_1 ?_
  unfold fRun_buryDead_0
  have hl : FmL (fun c => c = (o + 61) ∨ c = (o + 65)) L0 L0 := FmL.rf
  have l_30 : (0 : Int32).toInt = 0 := rfl
  exact yRun_buryDead_2l (I0 := I0) (L0 := L0) hok hw ra hwuo_1 rauo_1 hwuo_0 rauo_0 huo_1 huo_0 hq0 hq1 hp  _ hR hf (by first | omega | (intro h; omega) | exact Or.inl rfl | exact Or.inr rfl) (by first | omega | (intro h; omega) | exact Or.inl rfl | exact Or.inr rfl) hq1 hl (Nat.lt_succ_self _)
set_option maxHeartbeats 4000000 in
set_option maxRecDepth 20000 in
theorem yRun_makeSalt_2l {D : va_G} {cA : FieldType → ClassId} {b : Nat} {E : State → Prop} {R : qRg} {o n : Nat} {sh : Nat → qC} {Rf : Nat → Nat → Option Nat} {I0 : Nat → Nat → Int32} {L0 : Nat → Nat → Int64} {post : Option Value → qS → Prop} {x1 : Nat} {uo_0 : Nat} {uo_1 : Nat} {p2 : Int32} (hok : q_ok (qGG D cA b E)) (hw : WfRun (qGG D cA b E) n sh Rf o) (ra : RARun R o) (hw1 : WfFacts (qGG D cA b E) n sh Rf x1) (ra1 : RAFacts R x1) (hwuo_0 : WfLand (qGG D cA b E) n sh Rf uo_0) (rauo_0 : RALand R uo_0) (hwuo_1 : WfTrade (qGG D cA b E) n sh Rf uo_1) (rauo_1 : RATrade R uo_1) (huo_0 : Rf o 0 = some uo_0) (huo_1 : Rf o 1 = some uo_1) (hp : ∀ (I' : Nat → Nat → Int32) (L' : Nat → Nat → Int64), RI R I' → Fm (fun c => (o + 24 ≤ c ∧ c < o + 31)) I0 I' → (FmL (fun c => False) L0 L') → post none (n, sh, Rf, I', L')) : ∀ (k : Nat) {x2 : Int32} {x3 : Int32} {I : Nat → Nat → Int32} {L : Nat → Nat → Int64}, RI R I → Fm (fun c => (o + 24 ≤ c ∧ c < o + 31)) I0 I → ((0 : Int) ≤ x3.toInt ∧ x3.toInt ≤ 3) → (FmL (fun c => False) L0 L) → (3 - x3.toInt).toNat < k → Ev (qGG D cA b E) mRun_makeSalt 2 (0, 0) 2 [(0, .ref o), (1, .ref x1), (2, .int x2), (3, .int x3)] [] (n, sh, Rf, I, L) post := by
  intro k
  induction k with
  | zero =>
    intro x2 x3 I L hR hf hi0 hl hm
    exact absurd hm (Nat.not_lt_zero _)
  | succ k ih =>
    intro x2 x3 I L hR hf hi0 hl hm
    refine sRun_makeSalt_2 o n sh Rf I L post x1 x2 x3 uo_0 hok hw hw1 huo_0 hwuo_0 ?_
    unfold fRun_makeSalt_2
    have g_1 : (0 : Int) ≤ (I uo_0 2).toInt ∧ (I uo_0 2).toInt ≤ 3 := hR.at0 rauo_0 2 (by decide)
    refine ⟨fun c_2 => ?_, fun c_2 => ?_⟩
    · have d_3 := iLe c_2
      exact (hp _ _ hR hf  hl)
    · have d_4 := iNle c_2
      have l_5 : (12 : Int32).toInt = 12 := rfl
      have a_6 : (x3 * 12).toInt = x3.toInt * 12 := tMul rfl (by omega) (by omega)
      have g_7 : (0 : Int) ≤ (I o 17).toInt ∧ (I o 17).toInt ≤ 240 := hR.at0 ra 17 (by decide)
      have q_8 : ((I o 17) / 12 : Int32).toInt = (I o 17).toInt / 12 := tDiv rfl (by decide) (by omega)
      have q_9 : ((I o 17) / 12 * 12 : Int32).toInt = (I o 17).toInt / 12 * 12 := (tMul (c := 12) rfl (by omega) (by omega)).trans (by omega)
      have q_10 : ((I o 17) - (I o 17) / 12 * 12).toInt = (I o 17).toInt - (I o 17).toInt / 12 * 12 := (tSub (by omega) (by omega)).trans (by omega)
      have a_11 : ((x3 * 12) + ((I o 17) - (I o 17) / 12 * 12)).toInt = (x3 * 12).toInt + ((I o 17) - (I o 17) / 12 * 12).toInt := tAdd (by omega) (by omega)
      refine ⟨tIn (by omega) (by omega), ?_⟩
      refine ⟨tIn (by omega) (by omega), ?_⟩
      have g_12 : (0 : Int) ≤ (I o 17).toInt ∧ (I o 17).toInt ≤ 240 := hR.at0 ra 17 (by decide)
      refine y_Facts_saltByWeatherl hok hw1 ra1 hR (fun r_13  => ⟨r_13, I, L, rfl, rfl, ?_⟩)
      refine ⟨tIn (by omega) (by omega), fun I_14 e_15 => ?_⟩
      have hR_16 : RI R I_14 := hR.up (rsRun_3 ra) 3 (by decide) (Or.inl rfl) e_15 (i_lo _) (i_hi _)
      have hf_17 : Fm (fun c => (o + 24 ≤ c ∧ c < o + 31)) I0 I_14 := hf.set (by first | rfl | omega | (dsimp only; omega)) e_15
      have t_18 : (I_14 uo_0 2).toInt = (I uo_0 2).toInt := by rw [← e_15, q_u_ne (sh_ne_a (hwuo_0).1.2.2 (waRealm_2 (I := I0) (L := L0) (wsRun_3 hw)).2.2)]
      have t_19 : (I_14 o 17).toInt = (I o 17).toInt := by rw [← e_15, q_u_ne (by omega)]
      have a_21 : (x3 + Int32.ofInt 1).toInt = x3.toInt + (1) := tIc (by omega) (by omega) (by decide) (by decide)
      generalize ez_20 : (x3 + Int32.ofInt 1) = z_20 at a_21 ⊢
      exact ih hR_16 hf_17 (by first | omega | (intro h; omega) | exact Or.inl rfl | exact Or.inr rfl) hl (by omega)
set_option maxHeartbeats 4000000 in
set_option maxRecDepth 20000 in
theorem y_Run_makeSaltl {D : va_G} {cA : FieldType → ClassId} {b : Nat} {E : State → Prop} {R : qRg} {o n : Nat} {sh : Nat → qC} {Rf : Nat → Nat → Option Nat} {I0 : Nat → Nat → Int32} {L0 : Nat → Nat → Int64} {post : Option Value → qS → Prop} {x1 : Nat} {uo_0 : Nat} {uo_1 : Nat} {p2 : Int32} (hok : q_ok (qGG D cA b E)) (hw : WfRun (qGG D cA b E) n sh Rf o) (ra : RARun R o) (hw1 : WfFacts (qGG D cA b E) n sh Rf x1) (ra1 : RAFacts R x1) (hwuo_0 : WfLand (qGG D cA b E) n sh Rf uo_0) (rauo_0 : RALand R uo_0) (hwuo_1 : WfTrade (qGG D cA b E) n sh Rf uo_1) (rauo_1 : RATrade R uo_1) (huo_0 : Rf o 0 = some uo_0) (huo_1 : Rf o 1 = some uo_1) (hR : RI R I0) (hp : ∀ (I' : Nat → Nat → Int32) (L' : Nat → Nat → Int64), RI R I' → Fm (fun c => (o + 24 ≤ c ∧ c < o + 31)) I0 I' → (FmL (fun c => False) L0 L') → post none (n, sh, Rf, I', L')) : Ev (qGG D cA b E) mRun_makeSalt 2 (0, 0) 0 (lv_args 0 [.ref o, .ref x1, .int p2]) [] (n, sh, Rf, I0, L0) post := by
  have hf : Fm (fun c => (o + 24 ≤ c ∧ c < o + 31)) I0 I0 := Fm.rf
  refine sRun_makeSalt_0 o n sh Rf I0 L0 post x1 p2 uo_0 hok hw hw1 huo_0 hwuo_0 ?_
  unfold fRun_makeSalt_0
  have hl : FmL (fun c => False) L0 L0 := FmL.rf
  have l_22 : (0 : Int32).toInt = 0 := rfl
  exact yRun_makeSalt_2l (I0 := I0) (L0 := L0) (p2 := p2) hok hw ra hw1 ra1 hwuo_0 rauo_0 hwuo_1 rauo_1 huo_0 huo_1 hp  _ hR hf (by first | omega | (intro h; omega) | exact Or.inl rfl | exact Or.inr rfl) hl (Nat.lt_succ_self _)
set_option maxHeartbeats 4000000 in
set_option maxRecDepth 20000 in
theorem y_Run_smuggleBetweenl {D : va_G} {cA : FieldType → ClassId} {b : Nat} {E : State → Prop} {R : qRg} {o n : Nat} {sh : Nat → qC} {Rf : Nat → Nat → Option Nat} {I0 : Nat → Nat → Int32} {L0 : Nat → Nat → Int64} {post : Option Value → qS → Prop} {uo_0 : Nat} {uo_1 : Nat} {p1 : Int32} {p2 : Int32} (hok : q_ok (qGG D cA b E)) (hw : WfRun (qGG D cA b E) n sh Rf o) (ra : RARun R o) (hwuo_0 : WfLand (qGG D cA b E) n sh Rf uo_0) (rauo_0 : RALand R uo_0) (hwuo_1 : WfTrade (qGG D cA b E) n sh Rf uo_1) (rauo_1 : RATrade R uo_1) (huo_0 : Rf o 0 = some uo_0) (huo_1 : Rf o 1 = some uo_1) (hq0 : (0 : Int) ≤ p1.toInt ∧ p1.toInt ≤ 4) (hq1 : (0 : Int) ≤ p2.toInt ∧ p2.toInt ≤ 4) (hR : RI R I0) (hp : ∀ (I' : Nat → Nat → Int32) (L' : Nat → Nat → Int64), RI R I' → Fm (fun c => (o + 24 ≤ c ∧ c < o + 31)) I0 I' → (FmL (fun c => c = (o + 65)) L0 L') → post none (n, sh, Rf, I', L')) : Ev (qGG D cA b E) mRun_smuggleBetween 2 (0, 0) 0 (lv_args 0 [.ref o, .int p1, .int p2]) [] (n, sh, Rf, I0, L0) post := by
  have hf : Fm (fun c => (o + 24 ≤ c ∧ c < o + 31)) I0 I0 := Fm.rf
  refine sRun_smuggleBetween_0 o n sh Rf I0 L0 post p1 p2 uo_0 hok hw huo_0 hwuo_0 ?_
  unfold fRun_smuggleBetween_0
  have hl : FmL (fun c => c = (o + 65)) L0 L0 := FmL.rf
  refine y_Realm_priceInl hok (wsRun_3 hw) (rsRun_3 ra) hwuo_0 rauo_0 (by first | omega | (intro h; omega) | exact Or.inl rfl | exact Or.inr rfl) hR (fun r_1  => ⟨r_1, I0, L0, rfl, rfl, ?_⟩)
  refine y_Realm_priceInl hok (wsRun_3 hw) (rsRun_3 ra) hwuo_0 rauo_0 (by first | omega | (intro h; omega) | exact Or.inl rfl | exact Or.inr rfl) hR (fun r_2  => ⟨r_2, I0, L0, rfl, rfl, ?_⟩)
  refine ⟨tIn (by omega) (by omega), ?_⟩
  refine ⟨tIn (by omega) (by omega), ?_⟩
  refine y_Land_daysBetweeng hok hwuo_0 rauo_0 hR (fun r_3 gn_4 => ⟨r_3, I0, L0, rfl, rfl, ?_⟩)
  clear gn_4
  have l_5 : (-1 : Int32).toInt = -1 := rfl
  refine ⟨fun c_6 => ?_, fun c_6 => ?_⟩
  · have d_7 := iEq c_6
    exact (hp _ _ hR hf  hl)
  · have d_8 := iNe c_6
    refine fun y_9 e_10 => ?_
    refine ⟨fun c_11 => ?_, fun c_11 => ?_⟩
    · have d_12 := iLt c_11
      refine ⟨fun c_13 => ?_, fun c_13 => ?_⟩
      · have d_14 := iLe c_13
        unfold fRun_smuggleBetween_84
        refine ⟨fun c_15 => ?_, fun c_15 => ?_⟩
        · have d_16 := iLe c_15
          unfold fRun_smuggleBetween_97
          refine ⟨tIn (by omega) (by omega), ?_⟩
          refine ⟨tIn (by omega) (by omega), ?_⟩
          refine fun y_17 e_18 => ?_
          have m_19 := tMin e_18
          have l_20 : (5 : Int32).toInt = 5 := rfl
          refine ⟨tIn (by omega) (by omega), ?_⟩
          refine ⟨tIn (by omega) (by omega), fun I_21 e_22 => ?_⟩
          have hR_23 : RI R I_21 := hR.up (rsRun_3 ra) 4 (by decide) (Or.inl rfl) e_22 (i_lo _) (i_hi _)
          have hf_24 : Fm (fun c => (o + 24 ≤ c ∧ c < o + 31)) I0 I_21 := hf.set (by first | rfl | omega | (dsimp only; omega)) e_22
          refine ⟨tIn (by omega) (by omega), ?_⟩
          refine ⟨tIn (by omega) (by omega), fun I_25 e_26 => ?_⟩
          have hR_27 : RI R I_25 := hR_23.up (rsRun_3 ra) 4 (by decide) (Or.inl rfl) e_26 (i_lo _) (i_hi _)
          have hf_28 : Fm (fun c => (o + 24 ≤ c ∧ c < o + 31)) I0 I_25 := hf_24.set (by first | rfl | omega | (dsimp only; omega)) e_26
          refine ⟨tIn (by omega) (by omega), ?_⟩
          refine ⟨tIn (by omega) (by omega), fun I_29 e_30 => ?_⟩
          have hR_31 : RI R I_29 := hR_27.up (rsRun_3 ra) 5 (by decide) (Or.inl rfl) e_30 (i_lo _) (i_hi _)
          have hf_32 : Fm (fun c => (o + 24 ≤ c ∧ c < o + 31)) I0 I_29 := hf_28.set (by first | rfl | omega | (dsimp only; omega)) e_30
          have l_33 : (3 : Int32).toInt = 3 := rfl
          refine fun L_34 e_35 => ?_
          replace hl := hl.set (by first | rfl | omega | (dsimp only; omega)) e_35
          have l_36 : (4 : Int32).toInt = 4 := rfl
          refine fun L_37 e_38 => ?_
          replace hl := hl.set (by first | rfl | omega | (dsimp only; omega)) e_38
          exact (hp _ _ hR_31 hf_32  hl)
        · have d_39 := iNle c_15
          unfold fRun_smuggleBetween_97
          refine ⟨tIn (by omega) (by omega), ?_⟩
          refine ⟨tIn (by omega) (by omega), ?_⟩
          refine fun y_40 e_41 => ?_
          have m_42 := tMin e_41
          have l_43 : (5 : Int32).toInt = 5 := rfl
          refine ⟨tIn (by omega) (by omega), ?_⟩
          refine ⟨tIn (by omega) (by omega), fun I_44 e_45 => ?_⟩
          have hR_46 : RI R I_44 := hR.up (rsRun_3 ra) 4 (by decide) (Or.inl rfl) e_45 (i_lo _) (i_hi _)
          have hf_47 : Fm (fun c => (o + 24 ≤ c ∧ c < o + 31)) I0 I_44 := hf.set (by first | rfl | omega | (dsimp only; omega)) e_45
          refine ⟨tIn (by omega) (by omega), ?_⟩
          refine ⟨tIn (by omega) (by omega), fun I_48 e_49 => ?_⟩
          have hR_50 : RI R I_48 := hR_46.up (rsRun_3 ra) 4 (by decide) (Or.inl rfl) e_49 (i_lo _) (i_hi _)
          have hf_51 : Fm (fun c => (o + 24 ≤ c ∧ c < o + 31)) I0 I_48 := hf_47.set (by first | rfl | omega | (dsimp only; omega)) e_49
          refine ⟨tIn (by omega) (by omega), ?_⟩
          refine ⟨tIn (by omega) (by omega), fun I_52 e_53 => ?_⟩
          have hR_54 : RI R I_52 := hR_50.up (rsRun_3 ra) 5 (by decide) (Or.inl rfl) e_53 (i_lo _) (i_hi _)
          have hf_55 : Fm (fun c => (o + 24 ≤ c ∧ c < o + 31)) I0 I_52 := hf_51.set (by first | rfl | omega | (dsimp only; omega)) e_53
          have l_56 : (3 : Int32).toInt = 3 := rfl
          refine fun L_57 e_58 => ?_
          replace hl := hl.set (by first | rfl | omega | (dsimp only; omega)) e_58
          have l_59 : (4 : Int32).toInt = 4 := rfl
          refine fun L_60 e_61 => ?_
          replace hl := hl.set (by first | rfl | omega | (dsimp only; omega)) e_61
          exact (hp _ _ hR_54 hf_55  hl)
      · have d_62 := iNle c_13
        unfold fRun_smuggleBetween_84
        refine ⟨fun c_63 => ?_, fun c_63 => ?_⟩
        · have d_64 := iLe c_63
          unfold fRun_smuggleBetween_97
          refine ⟨tIn (by omega) (by omega), ?_⟩
          refine ⟨tIn (by omega) (by omega), ?_⟩
          refine fun y_65 e_66 => ?_
          have m_67 := tMin e_66
          have l_68 : (5 : Int32).toInt = 5 := rfl
          refine ⟨tIn (by omega) (by omega), ?_⟩
          refine ⟨tIn (by omega) (by omega), fun I_69 e_70 => ?_⟩
          have hR_71 : RI R I_69 := hR.up (rsRun_3 ra) 4 (by decide) (Or.inl rfl) e_70 (i_lo _) (i_hi _)
          have hf_72 : Fm (fun c => (o + 24 ≤ c ∧ c < o + 31)) I0 I_69 := hf.set (by first | rfl | omega | (dsimp only; omega)) e_70
          refine ⟨tIn (by omega) (by omega), ?_⟩
          refine ⟨tIn (by omega) (by omega), fun I_73 e_74 => ?_⟩
          have hR_75 : RI R I_73 := hR_71.up (rsRun_3 ra) 4 (by decide) (Or.inl rfl) e_74 (i_lo _) (i_hi _)
          have hf_76 : Fm (fun c => (o + 24 ≤ c ∧ c < o + 31)) I0 I_73 := hf_72.set (by first | rfl | omega | (dsimp only; omega)) e_74
          refine ⟨tIn (by omega) (by omega), ?_⟩
          refine ⟨tIn (by omega) (by omega), fun I_77 e_78 => ?_⟩
          have hR_79 : RI R I_77 := hR_75.up (rsRun_3 ra) 5 (by decide) (Or.inl rfl) e_78 (i_lo _) (i_hi _)
          have hf_80 : Fm (fun c => (o + 24 ≤ c ∧ c < o + 31)) I0 I_77 := hf_76.set (by first | rfl | omega | (dsimp only; omega)) e_78
          have l_81 : (3 : Int32).toInt = 3 := rfl
          refine fun L_82 e_83 => ?_
          replace hl := hl.set (by first | rfl | omega | (dsimp only; omega)) e_83
          have l_84 : (4 : Int32).toInt = 4 := rfl
          refine fun L_85 e_86 => ?_
          replace hl := hl.set (by first | rfl | omega | (dsimp only; omega)) e_86
          exact (hp _ _ hR_79 hf_80  hl)
        · have d_87 := iNle c_63
          unfold fRun_smuggleBetween_97
          refine ⟨tIn (by omega) (by omega), ?_⟩
          refine ⟨tIn (by omega) (by omega), ?_⟩
          refine fun y_88 e_89 => ?_
          have m_90 := tMin e_89
          have l_91 : (5 : Int32).toInt = 5 := rfl
          refine ⟨tIn (by omega) (by omega), ?_⟩
          refine ⟨tIn (by omega) (by omega), fun I_92 e_93 => ?_⟩
          have hR_94 : RI R I_92 := hR.up (rsRun_3 ra) 4 (by decide) (Or.inl rfl) e_93 (i_lo _) (i_hi _)
          have hf_95 : Fm (fun c => (o + 24 ≤ c ∧ c < o + 31)) I0 I_92 := hf.set (by first | rfl | omega | (dsimp only; omega)) e_93
          refine ⟨tIn (by omega) (by omega), ?_⟩
          refine ⟨tIn (by omega) (by omega), fun I_96 e_97 => ?_⟩
          have hR_98 : RI R I_96 := hR_94.up (rsRun_3 ra) 4 (by decide) (Or.inl rfl) e_97 (i_lo _) (i_hi _)
          have hf_99 : Fm (fun c => (o + 24 ≤ c ∧ c < o + 31)) I0 I_96 := hf_95.set (by first | rfl | omega | (dsimp only; omega)) e_97
          refine ⟨tIn (by omega) (by omega), ?_⟩
          refine ⟨tIn (by omega) (by omega), fun I_100 e_101 => ?_⟩
          have hR_102 : RI R I_100 := hR_98.up (rsRun_3 ra) 5 (by decide) (Or.inl rfl) e_101 (i_lo _) (i_hi _)
          have hf_103 : Fm (fun c => (o + 24 ≤ c ∧ c < o + 31)) I0 I_100 := hf_99.set (by first | rfl | omega | (dsimp only; omega)) e_101
          have l_104 : (3 : Int32).toInt = 3 := rfl
          refine fun L_105 e_106 => ?_
          replace hl := hl.set (by first | rfl | omega | (dsimp only; omega)) e_106
          have l_107 : (4 : Int32).toInt = 4 := rfl
          refine fun L_108 e_109 => ?_
          replace hl := hl.set (by first | rfl | omega | (dsimp only; omega)) e_109
          exact (hp _ _ hR_102 hf_103  hl)
    · have d_110 := iNlt c_11
      exact (hp _ _ hR hf  hl)
set_option maxHeartbeats 4000000 in
set_option maxRecDepth 20000 in
theorem yRun_smuggleAll_28l {D : va_G} {cA : FieldType → ClassId} {b : Nat} {E : State → Prop} {R : qRg} {o n : Nat} {sh : Nat → qC} {Rf : Nat → Nat → Option Nat} {I0 : Nat → Nat → Int32} {L0 : Nat → Nat → Int64} {post : Option Value → qS → Prop} {uo_0 : Nat} {uo_1 : Nat} (hok : q_ok (qGG D cA b E)) (hw : WfRun (qGG D cA b E) n sh Rf o) (ra : RARun R o) (hwuo_0 : WfLand (qGG D cA b E) n sh Rf uo_0) (rauo_0 : RALand R uo_0) (hwuo_1 : WfTrade (qGG D cA b E) n sh Rf uo_1) (rauo_1 : RATrade R uo_1) (huo_0 : Rf o 0 = some uo_0) (huo_1 : Rf o 1 = some uo_1) (hp : ∀ (I' : Nat → Nat → Int32) (L' : Nat → Nat → Int64), RI R I' → Fm (fun c => (o + 24 ≤ c ∧ c < o + 31)) I0 I' → (FmL (fun c => c = (o + 65)) L0 L') → post none (n, sh, Rf, I', L')) {k13 : Nat} (ho13 : ∀ {x1 : Int32} {I : Nat → Nat → Int32} {L : Nat → Nat → Int64}, RI R I → Fm (fun c => (o + 24 ≤ c ∧ c < o + 31)) I0 I → ((0 : Int) ≤ x1.toInt ∧ x1.toInt ≤ 5) → (FmL (fun c => c = (o + 65)) L0 L) → (5 - x1.toInt).toNat < k13 → Ev (qGG D cA b E) mRun_smuggleAll 3 (0, 0) 13 [(0, .ref o), (1, .int x1)] [] (n, sh, Rf, I, L) post) : ∀ (k : Nat) {x1 : Int32} {x2 : Int32} {I : Nat → Nat → Int32} {L : Nat → Nat → Int64}, RI R I → Fm (fun c => (o + 24 ≤ c ∧ c < o + 31)) I0 I → ((0 : Int) ≤ x1.toInt ∧ x1.toInt ≤ 4) → ((0 : Int) ≤ x2.toInt ∧ x2.toInt ≤ 5) → ((5 - x1.toInt).toNat < k13 + 1) → (FmL (fun c => c = (o + 65)) L0 L) → (5 - x2.toInt).toNat < k → Ev (qGG D cA b E) mRun_smuggleAll 3 (0, 0) 28 [(0, .ref o), (1, .int x1), (2, .int x2)] [] (n, sh, Rf, I, L) post := by
  intro k
  induction k with
  | zero =>
    intro x1 x2 I L hR hf hi0 hi1 hi2 hl hm
    exact absurd hm (Nat.not_lt_zero _)
  | succ k ih =>
    intro x1 x2 I L hR hf hi0 hi1 hi2 hl hm
    refine sRun_smuggleAll_28 o n sh Rf I L post x1 x2 uo_0 hok hw huo_0 hwuo_0 ?_
    unfold fRun_smuggleAll_28
    have g_1 : (0 : Int) ≤ (I uo_0 3).toInt ∧ (I uo_0 3).toInt ≤ 5 := hR.at0 rauo_0 3 (by decide)
    refine ⟨fun c_2 => ?_, fun c_2 => ?_⟩
    · have d_3 := iLe c_2
      have a_5 : (x1 + Int32.ofInt 1).toInt = x1.toInt + (1) := tIc (by omega) (by omega) (by decide) (by decide)
      generalize ez_4 : (x1 + Int32.ofInt 1) = z_4 at a_5 ⊢
      exact ho13 hR hf (by first | omega | (intro h; omega) | exact Or.inl rfl | exact Or.inr rfl) hl (by omega)
    · have d_6 := iNle c_2
      refine ⟨tIn (by omega) (by omega), ?_⟩
      refine ⟨tIn (by omega) (by omega), ?_⟩
      refine ⟨fun c_7 => ?_, fun c_7 => ?_⟩
      · have d_8 := iEq c_7
        unfold fRun_smuggleAll_66
        have a_10 : (x2 + Int32.ofInt 1).toInt = x2.toInt + (1) := tIc (by omega) (by omega) (by decide) (by decide)
        generalize ez_9 : (x2 + Int32.ofInt 1) = z_9 at a_10 ⊢
        exact ih hR hf (by first | omega | (intro h; omega) | exact Or.inl rfl | exact Or.inr rfl) (by first | omega | (intro h; omega) | exact Or.inl rfl | exact Or.inr rfl) (by first | omega | (intro h; omega) | exact Or.inl rfl | exact Or.inr rfl) hl (by omega)
      · have d_11 := iNe c_7
        refine y_Run_smuggleBetweenl hok hw ra hwuo_0 rauo_0 hwuo_1 rauo_1 huo_0 huo_1 (by first | omega | (intro h; omega) | exact Or.inl rfl | exact Or.inr rfl) (by first | omega | (intro h; omega) | exact Or.inl rfl | exact Or.inr rfl) hR (fun I_14 L_15 hR_16 fr_17 ln_13 => ⟨I_14, L_15, rfl, rfl, ?_⟩)
        replace hl := hl.call ln_13 (fun c hc => by first | exact hc | exact False.elim hc | (dsimp only at hc ⊢; omega) | omega)
        have hf_18 : Fm (fun c => (o + 24 ≤ c ∧ c < o + 31)) I0 I_14 := hf.call fr_17 (fun c hc => by first | exact hc | (dsimp only at hc ⊢; omega) | omega)
        have g_19 : (0 : Int) ≤ (I_14 uo_0 3).toInt ∧ (I_14 uo_0 3).toInt ≤ 5 := hR_16.at0 rauo_0 3 (by decide)
        unfold fRun_smuggleAll_66
        have a_21 : (x2 + Int32.ofInt 1).toInt = x2.toInt + (1) := tIc (by omega) (by omega) (by decide) (by decide)
        generalize ez_20 : (x2 + Int32.ofInt 1) = z_20 at a_21 ⊢
        exact ih hR_16 hf_18 (by first | omega | (intro h; omega) | exact Or.inl rfl | exact Or.inr rfl) (by first | omega | (intro h; omega) | exact Or.inl rfl | exact Or.inr rfl) (by first | omega | (intro h; omega) | exact Or.inl rfl | exact Or.inr rfl) hl (by omega)
set_option maxHeartbeats 4000000 in
set_option maxRecDepth 20000 in
theorem yRun_smuggleAll_13l {D : va_G} {cA : FieldType → ClassId} {b : Nat} {E : State → Prop} {R : qRg} {o n : Nat} {sh : Nat → qC} {Rf : Nat → Nat → Option Nat} {I0 : Nat → Nat → Int32} {L0 : Nat → Nat → Int64} {post : Option Value → qS → Prop} {uo_0 : Nat} {uo_1 : Nat} (hok : q_ok (qGG D cA b E)) (hw : WfRun (qGG D cA b E) n sh Rf o) (ra : RARun R o) (hwuo_0 : WfLand (qGG D cA b E) n sh Rf uo_0) (rauo_0 : RALand R uo_0) (hwuo_1 : WfTrade (qGG D cA b E) n sh Rf uo_1) (rauo_1 : RATrade R uo_1) (huo_0 : Rf o 0 = some uo_0) (huo_1 : Rf o 1 = some uo_1) (hp : ∀ (I' : Nat → Nat → Int32) (L' : Nat → Nat → Int64), RI R I' → Fm (fun c => (o + 24 ≤ c ∧ c < o + 31)) I0 I' → (FmL (fun c => c = (o + 65)) L0 L') → post none (n, sh, Rf, I', L')) : ∀ (k : Nat) {x1 : Int32} {I : Nat → Nat → Int32} {L : Nat → Nat → Int64}, RI R I → Fm (fun c => (o + 24 ≤ c ∧ c < o + 31)) I0 I → ((0 : Int) ≤ x1.toInt ∧ x1.toInt ≤ 5) → (FmL (fun c => c = (o + 65)) L0 L) → (5 - x1.toInt).toNat < k → Ev (qGG D cA b E) mRun_smuggleAll 3 (0, 0) 13 [(0, .ref o), (1, .int x1)] [] (n, sh, Rf, I, L) post := by
  intro k
  induction k with
  | zero =>
    intro x1 I L hR hf hi0 hl hm
    exact absurd hm (Nat.not_lt_zero _)
  | succ k ih =>
    intro x1 I L hR hf hi0 hl hm
    refine sRun_smuggleAll_13 o n sh Rf I L post x1 uo_0 hok hw huo_0 hwuo_0 ?_
    unfold fRun_smuggleAll_13
    have g_22 : (0 : Int) ≤ (I uo_0 3).toInt ∧ (I uo_0 3).toInt ≤ 5 := hR.at0 rauo_0 3 (by decide)
    refine ⟨fun c_23 => ?_, fun c_23 => ?_⟩
    · have d_24 := iLe c_23
      exact (hp _ _ hR hf  hl)
    · have d_25 := iNle c_23
      have l_26 : (1 : Int32).toInt = 1 := rfl
      have a_27 : (x1 + 1).toInt = x1.toInt + (1 : Int32).toInt := tAdd (by omega) (by omega)
      exact yRun_smuggleAll_28l (I0 := I0) (L0 := L0) hok hw ra hwuo_0 rauo_0 hwuo_1 rauo_1 huo_0 huo_1 hp ih _ hR hf (by first | omega | (intro h; omega) | exact Or.inl rfl | exact Or.inr rfl) (by first | omega | (intro h; omega) | exact Or.inl rfl | exact Or.inr rfl) (by first | omega | (intro h; omega) | exact Or.inl rfl | exact Or.inr rfl) hl (Nat.lt_succ_self _)
set_option maxHeartbeats 4000000 in
set_option maxRecDepth 20000 in
theorem y_Run_smuggleAlll {D : va_G} {cA : FieldType → ClassId} {b : Nat} {E : State → Prop} {R : qRg} {o n : Nat} {sh : Nat → qC} {Rf : Nat → Nat → Option Nat} {I0 : Nat → Nat → Int32} {L0 : Nat → Nat → Int64} {post : Option Value → qS → Prop} {uo_0 : Nat} {uo_1 : Nat} (hok : q_ok (qGG D cA b E)) (hw : WfRun (qGG D cA b E) n sh Rf o) (ra : RARun R o) (hwuo_0 : WfLand (qGG D cA b E) n sh Rf uo_0) (rauo_0 : RALand R uo_0) (hwuo_1 : WfTrade (qGG D cA b E) n sh Rf uo_1) (rauo_1 : RATrade R uo_1) (huo_0 : Rf o 0 = some uo_0) (huo_1 : Rf o 1 = some uo_1) (hR : RI R I0) (hp : ∀ (I' : Nat → Nat → Int32) (L' : Nat → Nat → Int64), RI R I' → Fm (fun c => (o + 24 ≤ c ∧ c < o + 31)) I0 I' → (FmL (fun c => c = (o + 65)) L0 L') → post none (n, sh, Rf, I', L')) : Ev (qGG D cA b E) mRun_smuggleAll 3 (0, 0) 0 (lv_args 0 [.ref o]) [] (n, sh, Rf, I0, L0) post := by
  have hf : Fm (fun c => (o + 24 ≤ c ∧ c < o + 31)) I0 I0 := Fm.rf
  refine sRun_smuggleAll_0 o n sh Rf I0 L0 post uo_0 hok hw huo_0 hwuo_0 ?_
  unfold fRun_smuggleAll_0
  have hl : FmL (fun c => c = (o + 65)) L0 L0 := FmL.rf
  have l_28 : (0 : Int32).toInt = 0 := rfl
  refine y_fill hok (fun _ _ => waRealm_4 (wsRun_3 hw)) (by omega) (fun I_29 ne_30 _ eq_31 => ⟨I_29, L0, rfl, rfl, ?_⟩)
  have hR_32 : RI R I_29 := hR.row (rsRun_3 ra) 5 (by decide) (fun _ => rfl) (fun _ => ⟨(i_lo _), (i_hi _)⟩) ne_30 eq_31
  have hf_33 : Fm (fun c => (o + 24 ≤ c ∧ c < o + 31)) I0 I_29 := hf.call (M' := fun c => c = ((o + 24) + 5)) ne_30 (fun c hc => by first | exact hc | (dsimp only at hc ⊢; omega) | omega)
  exact yRun_smuggleAll_13l (I0 := I0) (L0 := L0) hok hw ra hwuo_0 rauo_0 hwuo_1 rauo_1 huo_0 huo_1 hp  _ hR_32 hf_33 (by first | omega | (intro h; omega) | exact Or.inl rfl | exact Or.inr rfl) hl (Nat.lt_succ_self _)
set_option maxHeartbeats 4000000 in
set_option maxRecDepth 20000 in
theorem y_Run_carryGrainl {D : va_G} {cA : FieldType → ClassId} {b : Nat} {E : State → Prop} {R : qRg} {o n : Nat} {sh : Nat → qC} {Rf : Nat → Nat → Option Nat} {I0 : Nat → Nat → Int32} {L0 : Nat → Nat → Int64} {post : Option Value → qS → Prop} {uo_0 : Nat} {uo_1 : Nat} {p1 : Int32} (hok : q_ok (qGG D cA b E)) (hw : WfRun (qGG D cA b E) n sh Rf o) (ra : RARun R o) (hwuo_0 : WfLand (qGG D cA b E) n sh Rf uo_0) (rauo_0 : RALand R uo_0) (hwuo_1 : WfTrade (qGG D cA b E) n sh Rf uo_1) (rauo_1 : RATrade R uo_1) (huo_0 : Rf o 0 = some uo_0) (huo_1 : Rf o 1 = some uo_1) (hEN : qEN E) (hq0 : (0 : Int) ≤ p1.toInt ∧ p1.toInt ≤ 5) (hq1 : 0 ≤ (I0 (o + 58) 1).toInt) (hq2 : 0 ≤ (I0 (o + 58) 2).toInt) (hq3 : 0 ≤ (I0 (o + 58) 6).toInt) (hq4 : LodOK I0 (o + 44)) (hR : RI R I0) (hp : ∀ (I' : Nat → Nat → Int32) (L' : Nat → Nat → Int64), RI R I' → Fm (fun c => (o + 24 ≤ c ∧ c < o + 31) ∨ (o + 44 ≤ c ∧ c < o + 53)) I0 I' → (LodOK I' (o + 44)) → (FmL (fun c => c = (o + 61)) L0 L') → post none (n, sh, Rf, I', L')) : Ev (qGG D cA b E) mRun_carryGrain 3 (0, 0) 0 (lv_args 0 [.ref o, .int p1]) [] (n, sh, Rf, I0, L0) post := by
  have hf : Fm (fun c => (o + 24 ≤ c ∧ c < o + 31) ∨ (o + 44 ≤ c ∧ c < o + 53)) I0 I0 := Fm.rf
  have g_1 : (-1 : Int) ≤ (I0 (o + 58) 1).toInt ∧ (I0 (o + 58) 1).toInt ≤ 2 := hR.at0 (rsRun_7 ra) 1 (by decide)
  have g_2 : (-1 : Int) ≤ (I0 (o + 58) 2).toInt ∧ (I0 (o + 58) 2).toInt ≤ 4 := hR.at0 (rsRun_7 ra) 2 (by decide)
  have g_3 : (-1 : Int) ≤ (I0 (o + 58) 6).toInt ∧ (I0 (o + 58) 6).toInt ≤ 2 := hR.at0 (rsRun_7 ra) 6 (by decide)
  refine sRun_carryGrain_0 o n sh Rf I0 L0 post p1 uo_0 hok hw huo_0 hwuo_0 ?_
  unfold fRun_carryGrain_0
  have hl : FmL (fun c => c = (o + 61)) L0 L0 := FmL.rf
  have g_4 : (-1 : Int) ≤ (I0 (o + 58) 2).toInt ∧ (I0 (o + 58) 2).toInt ≤ 4 := hR.at0 (rsRun_7 ra) 2 (by decide)
  refine ⟨tIn (by omega) (by omega), ?_⟩
  have g_5 : (-1 : Int) ≤ (I0 (o + 58) 1).toInt ∧ (I0 (o + 58) 1).toInt ≤ 2 := hR.at0 (rsRun_7 ra) 1 (by decide)
  refine ⟨tIn (by omega) (by omega), ?_⟩
  refine y_Land_daysBetweeng hok hwuo_0 rauo_0 hR (fun r_6 gn_7 => ⟨r_6, I0, L0, rfl, rfl, ?_⟩)
  clear gn_7
  refine ⟨tIn (by omega) (by omega), ?_⟩
  have g_8 : (-1 : Int) ≤ (I0 (o + 58) 2).toInt ∧ (I0 (o + 58) 2).toInt ≤ 4 := hR.at0 (rsRun_7 ra) 2 (by decide)
  refine y_Run_carryingCostl hok hw ra hwuo_0 rauo_0 hwuo_1 rauo_1 huo_0 huo_1 (by first | omega | (intro h; omega) | exact Or.inl rfl | exact Or.inr rfl) hR (fun r_9  => ⟨r_9, I0, L0, rfl, rfl, ?_⟩)
  refine ⟨tIn (by omega) (by omega), fun L_10 e_11 => ?_⟩
  replace hl := hl.set (by first | rfl | omega | (dsimp only; omega)) e_11
  have g_12 : (-1 : Int) ≤ (I0 (o + 58) 2).toInt ∧ (I0 (o + 58) 2).toInt ≤ 4 := hR.at0 (rsRun_7 ra) 2 (by decide)
  refine ⟨tIn (by omega) (by omega), ?_⟩
  refine ⟨tIn (by omega) (by omega), fun I_13 e_14 => ?_⟩
  have hR_15 : RI R I_13 := hR.up (rsRun_3 ra) 6 (by decide) (Or.inl rfl) e_14 (i_lo _) (i_hi _)
  have hf_16 : Fm (fun c => (o + 24 ≤ c ∧ c < o + 31) ∨ (o + 44 ≤ c ∧ c < o + 53)) I0 I_13 := hf.set (by first | rfl | omega | (dsimp only; omega)) e_14
  have t_17 : (I_13 (o + 58) 1).toInt = (I0 (o + 58) 1).toInt := by rw [← e_14, q_u_ne (by omega)]
  have t_18 : (I_13 (o + 58) 2).toInt = (I0 (o + 58) 2).toInt := by rw [← e_14, q_u_ne (by omega)]
  have t_19 : (I_13 (o + 58) 6).toInt = (I0 (o + 58) 6).toInt := by rw [← e_14, q_u_ne (by omega)]
  have k_20 : LodOK I_13 (o + 44) := hq4.fr (by rw [← e_14]; exact q_u_ne (by omega)) (by rw [← e_14]; exact q_u_ne (by omega)) (by rw [← e_14]; exact q_u_ne (by omega)) (by rw [← e_14, q_u_ne (by omega)])
  have g_21 : (0 : Int) ≤ (I_13 o 17).toInt ∧ (I_13 o 17).toInt ≤ 240 := hR_15.at0 ra 17 (by decide)
  refine y_Loads_sendGrainl hok (wsRun_5 hw) (rsRun_5 ra) (wsRun_7 hw) (rsRun_7 ra) hEN (by first | omega | (intro h; omega) | exact Or.inl rfl | exact Or.inr rfl) (by first | omega | (intro h; omega) | exact Or.inl rfl | exact Or.inr rfl) (by first | omega | (intro h; omega) | exact Or.inl rfl | exact Or.inr rfl) k_20 hR_15 (fun I_25 L_26 hR_27 fr_28 u_23 ln_24 => ⟨I_25, L_26, rfl, rfl, ?_⟩)
  replace hl := hl.call ln_24 (fun c hc => by first | exact hc | exact False.elim hc | (dsimp only at hc ⊢; omega) | omega)
  have hf_29 : Fm (fun c => (o + 24 ≤ c ∧ c < o + 31) ∨ (o + 44 ≤ c ∧ c < o + 53)) I0 I_25 := hf_16.call fr_28 (fun c hc => by first | exact hc | (dsimp only at hc ⊢; omega) | omega)
  have t_30 : (I_25 (o + 58) 1).toInt = (I_13 (o + 58) 1).toInt := by rw [fr_28 (o + 58) (by first | omega | (dsimp only; omega))]
  have t_31 : (I_25 (o + 58) 2).toInt = (I_13 (o + 58) 2).toInt := by rw [fr_28 (o + 58) (by first | omega | (dsimp only; omega))]
  have t_32 : (I_25 (o + 58) 6).toInt = (I_13 (o + 58) 6).toInt := by rw [fr_28 (o + 58) (by first | omega | (dsimp only; omega))]
  have t_33 : (I_25 o 17).toInt = (I_13 o 17).toInt := by rw [fr_28 o (by first | omega | (dsimp only; omega))]
  exact (hp _ _ hR_27 hf_29  u_23 hl)
set_option maxHeartbeats 4000000 in
set_option maxRecDepth 20000 in
theorem y_Run_takeWayl {D : va_G} {cA : FieldType → ClassId} {b : Nat} {E : State → Prop} {R : qRg} {o n : Nat} {sh : Nat → qC} {Rf : Nat → Nat → Option Nat} {I0 : Nat → Nat → Int32} {L0 : Nat → Nat → Int64} {post : Option Value → qS → Prop} {uo_1 : Nat} {uo_0 : Nat} {p1 : Int32} (hok : q_ok (qGG D cA b E)) (hw : WfRun (qGG D cA b E) n sh Rf o) (ra : RARun R o) (hwuo_1 : WfTrade (qGG D cA b E) n sh Rf uo_1) (rauo_1 : RATrade R uo_1) (hwuo_0 : WfLand (qGG D cA b E) n sh Rf uo_0) (rauo_0 : RALand R uo_0) (huo_1 : Rf o 1 = some uo_1) (huo_0 : Rf o 0 = some uo_0) (hEN : qEN E) (hq0 : (0 : Int) ≤ p1.toInt ∧ p1.toInt ≤ 5) (hq1 : (I0 (o + 31) 13).toInt ≤ (I0 (o + 31) 12).toInt) (hq2 : LodOK I0 (o + 44)) (hq3 : WyOK I0 (o + 58)) (hR : RI R I0) (hp : ∀ (I' : Nat → Nat → Int32) (L' : Nat → Nat → Int64), RI R I' → Fm (fun c => c = o ∨ (o + 24 ≤ c ∧ c < o + 53) ∨ c = o + 62) I0 I' → ((I' (o + 31) 13).toInt ≤ (I' (o + 31) 12).toInt) → ((I' o 17).toInt = (I0 o 17).toInt) → (LodOK I' (o + 44)) → (FmL (fun c => c = (o + 61) ∨ c = (o + 65)) L0 L') → post none (n, sh, Rf, I', L')) : Ev (qGG D cA b E) mRun_takeWay 4 (0, 0) 0 (lv_args 0 [.ref o, .int p1]) [] (n, sh, Rf, I0, L0) post := by
  have hf : Fm (fun c => c = o ∨ (o + 24 ≤ c ∧ c < o + 53) ∨ c = o + 62) I0 I0 := Fm.rf
  have g_1 : (0 : Int) ≤ (I0 (o + 31) 12).toInt ∧ (I0 (o + 31) 12).toInt ≤ 1440 := hR.at0 (rsRun_4 ra) 12 (by decide)
  have g_2 : (0 : Int) ≤ (I0 (o + 31) 13).toInt ∧ (I0 (o + 31) 13).toInt ≤ 1440 := hR.at0 (rsRun_4 ra) 13 (by decide)
  have g_3 : (0 : Int) ≤ (I0 o 17).toInt ∧ (I0 o 17).toInt ≤ 240 := hR.at0 ra 17 (by decide)
  have g_4 : (0 : Int) ≤ (I0 (o + 58) 0).toInt ∧ (I0 (o + 58) 0).toInt ≤ 4 := hR.at0 (rsRun_7 ra) 0 (by decide)
  have g_5 : (-1 : Int) ≤ (I0 (o + 58) 1).toInt ∧ (I0 (o + 58) 1).toInt ≤ 2 := hR.at0 (rsRun_7 ra) 1 (by decide)
  have g_6 : (-1 : Int) ≤ (I0 (o + 58) 2).toInt ∧ (I0 (o + 58) 2).toInt ≤ 4 := hR.at0 (rsRun_7 ra) 2 (by decide)
  have g_7 : (-1 : Int) ≤ (I0 (o + 58) 6).toInt ∧ (I0 (o + 58) 6).toInt ≤ 2 := hR.at0 (rsRun_7 ra) 6 (by decide)
  refine sRun_takeWay_0 o n sh Rf I0 L0 post p1 uo_1 hok hw huo_1 hwuo_1 ?_
  unfold fRun_takeWay_0
  have hl : FmL (fun c => c = (o + 61) ∨ c = (o + 65)) L0 L0 := FmL.rf
  have wy := hq3
  unfold WyOK at wy
  have g_8 : (0 : Int) ≤ (I0 (o + 58) 0).toInt ∧ (I0 (o + 58) 0).toInt ≤ 4 := hR.at0 (rsRun_7 ra) 0 (by decide)
  have l_10 : (1 : Int32).toInt = 1 := rfl
  refine ⟨fun c_9 => ?_, fun c_9 => ?_⟩
  · have d_11 := iEq c_9
    refine y_Run_carryGrainl hok hw ra hwuo_0 rauo_0 hwuo_1 rauo_1 huo_0 huo_1 hEN (by first | omega | (intro h; omega) | exact Or.inl rfl | exact Or.inr rfl) (by first | omega | (intro h; omega) | exact Or.inl rfl | exact Or.inr rfl) (by first | omega | (intro h; omega) | exact Or.inl rfl | exact Or.inr rfl) (by first | omega | (intro h; omega) | exact Or.inl rfl | exact Or.inr rfl) hq2 hR (fun I_15 L_16 hR_17 fr_18 u_13 ln_14 => ⟨I_15, L_16, rfl, rfl, ?_⟩)
    replace hl := hl.call ln_14 (fun c hc => by first | exact hc | exact False.elim hc | (dsimp only at hc ⊢; omega) | omega)
    have hf_19 : Fm (fun c => c = o ∨ (o + 24 ≤ c ∧ c < o + 53) ∨ c = o + 62) I0 I_15 := hf.call fr_18 (fun c hc => by first | exact hc | (dsimp only at hc ⊢; omega) | omega)
    have t_20 : (I_15 (o + 31) 12).toInt = (I0 (o + 31) 12).toInt := by rw [fr_18 (o + 31) (by first | omega | (dsimp only; omega))]
    have t_21 : (I_15 (o + 31) 13).toInt = (I0 (o + 31) 13).toInt := by rw [fr_18 (o + 31) (by first | omega | (dsimp only; omega))]
    have t_22 : (I_15 o 17).toInt = (I0 o 17).toInt := by rw [fr_18 o (by first | omega | (dsimp only; omega))]
    have t_23 : (I_15 (o + 58) 0).toInt = (I0 (o + 58) 0).toInt := by rw [fr_18 (o + 58) (by first | omega | (dsimp only; omega))]
    have t_24 : (I_15 (o + 58) 1).toInt = (I0 (o + 58) 1).toInt := by rw [fr_18 (o + 58) (by first | omega | (dsimp only; omega))]
    have t_25 : (I_15 (o + 58) 2).toInt = (I0 (o + 58) 2).toInt := by rw [fr_18 (o + 58) (by first | omega | (dsimp only; omega))]
    have t_26 : (I_15 (o + 58) 6).toInt = (I0 (o + 58) 6).toInt := by rw [fr_18 (o + 58) (by first | omega | (dsimp only; omega))]
    have k_27 : WyOK I_15 (o + 58) := hq3.fr (by rw [fr_18 (o + 58) (by first | omega | (dsimp only; omega))]) (by rw [fr_18 (o + 58) (by first | omega | (dsimp only; omega))]) (by rw [fr_18 (o + 58) (by first | omega | (dsimp only; omega))]) (by rw [fr_18 (o + 58) (by first | omega | (dsimp only; omega))])
    exact (hp _ _ hR_17 hf_19 (by first | omega | (intro h; omega) | exact Or.inl rfl | exact Or.inr rfl) (by first | omega | (intro h; omega) | exact Or.inl rfl | exact Or.inr rfl) u_13 hl)
  have d_28 := iNe c_9
  have l_30 : (2 : Int32).toInt = 2 := rfl
  refine ⟨fun c_29 => ?_, fun c_29 => ?_⟩
  · have d_31 := iEq c_29
    refine ⟨tIn (by omega) (by omega), ?_⟩
    refine ⟨tIn (by omega) (by omega), fun L_32 e_33 => ?_⟩
    replace hl := hl.set (by first | rfl | omega | (dsimp only; omega)) e_33
    have g_34 : (-1 : Int) ≤ (I0 (o + 58) 1).toInt ∧ (I0 (o + 58) 1).toInt ≤ 2 := hR.at0 (rsRun_7 ra) 1 (by decide)
    refine ⟨tIn (by omega) (by omega), ?_⟩
    refine ⟨tIn (by omega) (by omega), fun I_35 e_36 => ?_⟩
    have hR_37 : RI R I_35 := hR.up (rsRun_3 ra) 1 (by decide) (Or.inl rfl) e_36 (i_lo _) (i_hi _)
    have hf_38 : Fm (fun c => c = o ∨ (o + 24 ≤ c ∧ c < o + 53) ∨ c = o + 62) I0 I_35 := hf.set (by first | rfl | omega | (dsimp only; omega)) e_36
    have t_39 : (I_35 (o + 31) 12).toInt = (I0 (o + 31) 12).toInt := by rw [← e_36, q_u_ne (by omega)]
    have t_40 : (I_35 (o + 31) 13).toInt = (I0 (o + 31) 13).toInt := by rw [← e_36, q_u_ne (by omega)]
    have t_41 : (I_35 o 17).toInt = (I0 o 17).toInt := by rw [← e_36, q_u_ne (by omega)]
    have t_42 : (I_35 (o + 58) 0).toInt = (I0 (o + 58) 0).toInt := by rw [← e_36, q_u_ne (by omega)]
    have t_43 : (I_35 (o + 58) 1).toInt = (I0 (o + 58) 1).toInt := by rw [← e_36, q_u_ne (by omega)]
    have t_44 : (I_35 (o + 58) 2).toInt = (I0 (o + 58) 2).toInt := by rw [← e_36, q_u_ne (by omega)]
    have t_45 : (I_35 (o + 58) 6).toInt = (I0 (o + 58) 6).toInt := by rw [← e_36, q_u_ne (by omega)]
    have k_46 : LodOK I_35 (o + 44) := hq2.fr (by rw [← e_36]; exact q_u_ne (by omega)) (by rw [← e_36]; exact q_u_ne (by omega)) (by rw [← e_36]; exact q_u_ne (by omega)) (by rw [← e_36, q_u_ne (by omega)])
    have k_47 : WyOK I_35 (o + 58) := hq3.fr (by rw [← e_36, q_u_ne (by omega)]) (by rw [← e_36, q_u_ne (by omega)]) (by rw [← e_36, q_u_ne (by omega)]) (by rw [← e_36, q_u_ne (by omega)])
    have l_48 : (0 : Int32).toInt = 0 := rfl
    refine ⟨fun c_49 => ?_, fun c_49 => ?_⟩
    · have d_50 := iLe c_49
      exact (hp _ _ hR_37 hf_38 (by first | omega | (intro h; omega) | exact Or.inl rfl | exact Or.inr rfl) (by first | omega | (intro h; omega) | exact Or.inl rfl | exact Or.inr rfl) k_46 hl)
    · have d_51 := iNle c_49
      have g_52 : (-1 : Int) ≤ (I_35 (o + 58) 6).toInt ∧ (I_35 (o + 58) 6).toInt ≤ 2 := hR_37.at0 (rsRun_7 ra) 6 (by decide)
      have g_53 : (0 : Int) ≤ (I_35 o 17).toInt ∧ (I_35 o 17).toInt ≤ 240 := hR_37.at0 ra 17 (by decide)
      refine y_Papers_givel hok (wsRun_4 hw) (rsRun_4 ra) (by first | omega | (intro h; omega) | exact Or.inl rfl | exact Or.inr rfl) (by first | omega | (intro h; omega) | exact Or.inl rfl | exact Or.inr rfl) (by first | omega | (intro h; omega) | exact Or.inl rfl | exact Or.inr rfl) hR_37 (fun I_57 L_58 hR_59 fr_60 u_55 ln_56 => ⟨I_57, L_58, rfl, rfl, ?_⟩)
      replace hl := hl.call ln_56 (fun c hc => by first | exact hc | exact False.elim hc | (dsimp only at hc ⊢; omega) | omega)
      have hf_61 : Fm (fun c => c = o ∨ (o + 24 ≤ c ∧ c < o + 53) ∨ c = o + 62) I0 I_57 := hf_38.call fr_60 (fun c hc => by first | exact hc | (dsimp only at hc ⊢; omega) | omega)
      have g_62 : (0 : Int) ≤ (I_57 (o + 31) 12).toInt ∧ (I_57 (o + 31) 12).toInt ≤ 1440 := hR_59.at0 (rsRun_4 ra) 12 (by decide)
      have g_63 : (0 : Int) ≤ (I_57 (o + 31) 13).toInt ∧ (I_57 (o + 31) 13).toInt ≤ 1440 := hR_59.at0 (rsRun_4 ra) 13 (by decide)
      have t_64 : (I_57 o 17).toInt = (I_35 o 17).toInt := by rw [fr_60 o (by first | omega | (dsimp only; omega))]
      have t_65 : (I_57 (o + 58) 0).toInt = (I_35 (o + 58) 0).toInt := by rw [fr_60 (o + 58) (by first | omega | (dsimp only; omega))]
      have t_66 : (I_57 (o + 58) 1).toInt = (I_35 (o + 58) 1).toInt := by rw [fr_60 (o + 58) (by first | omega | (dsimp only; omega))]
      have t_67 : (I_57 (o + 58) 2).toInt = (I_35 (o + 58) 2).toInt := by rw [fr_60 (o + 58) (by first | omega | (dsimp only; omega))]
      have t_68 : (I_57 (o + 58) 6).toInt = (I_35 (o + 58) 6).toInt := by rw [fr_60 (o + 58) (by first | omega | (dsimp only; omega))]
      have k_69 : LodOK I_57 (o + 44) := k_46.fr (fr_60 _ (by first | omega | (dsimp only; omega))) (fr_60 _ (by first | omega | (dsimp only; omega))) (fr_60 _ (by first | omega | (dsimp only; omega))) (by rw [fr_60 (o + 44) (by first | omega | (dsimp only; omega))])
      have k_70 : WyOK I_57 (o + 58) := k_47.fr (by rw [fr_60 (o + 58) (by first | omega | (dsimp only; omega))]) (by rw [fr_60 (o + 58) (by first | omega | (dsimp only; omega))]) (by rw [fr_60 (o + 58) (by first | omega | (dsimp only; omega))]) (by rw [fr_60 (o + 58) (by first | omega | (dsimp only; omega))])
      exact (hp _ _ hR_59 hf_61 (by first | omega | (intro h; omega) | exact Or.inl rfl | exact Or.inr rfl) (by first | omega | (intro h; omega) | exact Or.inl rfl | exact Or.inr rfl) k_69 hl)
  have d_71 := iNe c_29
  have l_73 : (3 : Int32).toInt = 3 := rfl
  refine ⟨fun c_72 => ?_, fun c_72 => ?_⟩
  · have d_74 := iEq c_72
    refine ⟨tIn (by omega) (by omega), ?_⟩
    refine ⟨tIn (by omega) (by omega), fun L_75 e_76 => ?_⟩
    replace hl := hl.set (by first | rfl | omega | (dsimp only; omega)) e_76
    have a_77 : (p1 * 3).toInt = p1.toInt * 3 := tMul rfl (by omega) (by omega)
    have g_78 : (-1 : Int) ≤ (I0 (o + 58) 1).toInt ∧ (I0 (o + 58) 1).toInt ≤ 2 := hR.at0 (rsRun_7 ra) 1 (by decide)
    have a_79 : ((p1 * 3) + (I0 (o + 58) 1)).toInt = (p1 * 3).toInt + (I0 (o + 58) 1).toInt := tAdd (by omega) (by omega)
    have g_80 : (0 : Int) ≤ (I0 o 17).toInt ∧ (I0 o 17).toInt ≤ 240 := hR.at0 ra 17 (by decide)
    refine ⟨tIn (by omega) (by omega), fun I_81 e_82 => ?_⟩
    have hR_83 : RI R I_81 := hR.up ra 62 (by decide) (Or.inl rfl) e_82 (i_lo _) (i_hi _)
    have hf_84 : Fm (fun c => c = o ∨ (o + 24 ≤ c ∧ c < o + 53) ∨ c = o + 62) I0 I_81 := hf.set (by first | rfl | omega | (dsimp only; omega)) e_82
    have t_85 : (I_81 (o + 31) 12).toInt = (I0 (o + 31) 12).toInt := by rw [← e_82, q_u_ne (by omega)]
    have t_86 : (I_81 (o + 31) 13).toInt = (I0 (o + 31) 13).toInt := by rw [← e_82, q_u_ne (by omega)]
    have t_87 : (I_81 o 17).toInt = (I0 o 17).toInt := by rw [← e_82, q_u_ne (by omega)]
    have t_88 : (I_81 (o + 58) 0).toInt = (I0 (o + 58) 0).toInt := by rw [← e_82, q_u_ne (by omega)]
    have t_89 : (I_81 (o + 58) 1).toInt = (I0 (o + 58) 1).toInt := by rw [← e_82, q_u_ne (by omega)]
    have t_90 : (I_81 (o + 58) 2).toInt = (I0 (o + 58) 2).toInt := by rw [← e_82, q_u_ne (by omega)]
    have t_91 : (I_81 (o + 58) 6).toInt = (I0 (o + 58) 6).toInt := by rw [← e_82, q_u_ne (by omega)]
    have k_92 : LodOK I_81 (o + 44) := hq2.fr (by rw [← e_82]; exact q_u_ne (by omega)) (by rw [← e_82]; exact q_u_ne (by omega)) (by rw [← e_82]; exact q_u_ne (by omega)) (by rw [← e_82, q_u_ne (by omega)])
    have k_93 : WyOK I_81 (o + 58) := hq3.fr (by rw [← e_82, q_u_ne (by omega)]) (by rw [← e_82, q_u_ne (by omega)]) (by rw [← e_82, q_u_ne (by omega)]) (by rw [← e_82, q_u_ne (by omega)])
    exact (hp _ _ hR_83 hf_84 (by first | omega | (intro h; omega) | exact Or.inl rfl | exact Or.inr rfl) (by first | omega | (intro h; omega) | exact Or.inl rfl | exact Or.inr rfl) k_92 hl)
  have d_94 := iNe c_72
  have l_96 : (4 : Int32).toInt = 4 := rfl
  refine ⟨fun c_95 => ?_, fun c_95 => ?_⟩
  · have d_97 := iEq c_95
    refine ⟨tIn (by omega) (by omega), ?_⟩
    refine ⟨tIn (by omega) (by omega), fun L_98 e_99 => ?_⟩
    replace hl := hl.set (by first | rfl | omega | (dsimp only; omega)) e_99
    refine fun L_100 e_101 => ?_
    replace hl := hl.set (by first | rfl | omega | (dsimp only; omega)) e_101
    refine fun I_102 e_103 => ?_
    have hR_104 : RI R I_102 := hR.up0 (k := 18) ra (by decide) (Or.inl rfl) e_103 (i_lo _) (i_hi _)
    have hf_105 : Fm (fun c => c = o ∨ (o + 24 ≤ c ∧ c < o + 53) ∨ c = o + 62) I0 I_102 := hf.set (by first | rfl | omega | (dsimp only; omega)) e_103
    have t_106 : (I_102 (o + 31) 12).toInt = (I0 (o + 31) 12).toInt := by rw [← e_103, q_u_ne (by omega)]
    have t_107 : (I_102 (o + 31) 13).toInt = (I0 (o + 31) 13).toInt := by rw [← e_103, q_u_ne (by omega)]
    have t_108 : (I_102 o 17).toInt = (I0 o 17).toInt := by rw [← e_103, q_u_k (by decide)]
    have t_109 : (I_102 (o + 58) 0).toInt = (I0 (o + 58) 0).toInt := by rw [← e_103, q_u_ne (by omega)]
    have t_110 : (I_102 (o + 58) 1).toInt = (I0 (o + 58) 1).toInt := by rw [← e_103, q_u_ne (by omega)]
    have t_111 : (I_102 (o + 58) 2).toInt = (I0 (o + 58) 2).toInt := by rw [← e_103, q_u_ne (by omega)]
    have t_112 : (I_102 (o + 58) 6).toInt = (I0 (o + 58) 6).toInt := by rw [← e_103, q_u_ne (by omega)]
    have k_113 : LodOK I_102 (o + 44) := hq2.fr (by rw [← e_103]; exact q_u_ne (by omega)) (by rw [← e_103]; exact q_u_ne (by omega)) (by rw [← e_103]; exact q_u_ne (by omega)) (by rw [← e_103, q_u_ne (by omega)])
    have k_114 : WyOK I_102 (o + 58) := hq3.fr (by rw [← e_103, q_u_ne (by omega)]) (by rw [← e_103, q_u_ne (by omega)]) (by rw [← e_103, q_u_ne (by omega)]) (by rw [← e_103, q_u_ne (by omega)])
    have g_115 : (-1 : Int) ≤ (I_102 (o + 58) 6).toInt ∧ (I_102 (o + 58) 6).toInt ≤ 2 := hR_104.at0 (rsRun_7 ra) 6 (by decide)
    have g_116 : (0 : Int) ≤ (I_102 o 17).toInt ∧ (I_102 o 17).toInt ≤ 240 := hR_104.at0 ra 17 (by decide)
    have l_117 : (0 : Int32).toInt = 0 := rfl
    refine y_Papers_givel hok (wsRun_4 hw) (rsRun_4 ra) (by first | omega | (intro h; omega) | exact Or.inl rfl | exact Or.inr rfl) (by first | omega | (intro h; omega) | exact Or.inl rfl | exact Or.inr rfl) (by first | omega | (intro h; omega) | exact Or.inl rfl | exact Or.inr rfl) hR_104 (fun I_121 L_122 hR_123 fr_124 u_119 ln_120 => ⟨I_121, L_122, rfl, rfl, ?_⟩)
    replace hl := hl.call ln_120 (fun c hc => by first | exact hc | exact False.elim hc | (dsimp only at hc ⊢; omega) | omega)
    have hf_125 : Fm (fun c => c = o ∨ (o + 24 ≤ c ∧ c < o + 53) ∨ c = o + 62) I0 I_121 := hf_105.call fr_124 (fun c hc => by first | exact hc | (dsimp only at hc ⊢; omega) | omega)
    have g_126 : (0 : Int) ≤ (I_121 (o + 31) 12).toInt ∧ (I_121 (o + 31) 12).toInt ≤ 1440 := hR_123.at0 (rsRun_4 ra) 12 (by decide)
    have g_127 : (0 : Int) ≤ (I_121 (o + 31) 13).toInt ∧ (I_121 (o + 31) 13).toInt ≤ 1440 := hR_123.at0 (rsRun_4 ra) 13 (by decide)
    have t_128 : (I_121 o 17).toInt = (I_102 o 17).toInt := by rw [fr_124 o (by first | omega | (dsimp only; omega))]
    have t_129 : (I_121 (o + 58) 0).toInt = (I_102 (o + 58) 0).toInt := by rw [fr_124 (o + 58) (by first | omega | (dsimp only; omega))]
    have t_130 : (I_121 (o + 58) 1).toInt = (I_102 (o + 58) 1).toInt := by rw [fr_124 (o + 58) (by first | omega | (dsimp only; omega))]
    have t_131 : (I_121 (o + 58) 2).toInt = (I_102 (o + 58) 2).toInt := by rw [fr_124 (o + 58) (by first | omega | (dsimp only; omega))]
    have t_132 : (I_121 (o + 58) 6).toInt = (I_102 (o + 58) 6).toInt := by rw [fr_124 (o + 58) (by first | omega | (dsimp only; omega))]
    have k_133 : LodOK I_121 (o + 44) := k_113.fr (fr_124 _ (by first | omega | (dsimp only; omega))) (fr_124 _ (by first | omega | (dsimp only; omega))) (fr_124 _ (by first | omega | (dsimp only; omega))) (by rw [fr_124 (o + 44) (by first | omega | (dsimp only; omega))])
    have k_134 : WyOK I_121 (o + 58) := k_114.fr (by rw [fr_124 (o + 58) (by first | omega | (dsimp only; omega))]) (by rw [fr_124 (o + 58) (by first | omega | (dsimp only; omega))]) (by rw [fr_124 (o + 58) (by first | omega | (dsimp only; omega))]) (by rw [fr_124 (o + 58) (by first | omega | (dsimp only; omega))])
    exact (hp _ _ hR_123 hf_125 (by first | omega | (intro h; omega) | exact Or.inl rfl | exact Or.inr rfl) (by first | omega | (intro h; omega) | exact Or.inl rfl | exact Or.inr rfl) k_133 hl)
  have d_135 := iNe c_95
  exact (hp _ _ hR hf (by first | omega | (intro h; omega) | exact Or.inl rfl | exact Or.inr rfl) (by first | omega | (intro h; omega) | exact Or.inl rfl | exact Or.inr rfl) hq2 hl)
set_option maxHeartbeats 4000000 in
set_option maxRecDepth 20000 in
theorem yRun_takeWays_2l {D : va_G} {cA : FieldType → ClassId} {b : Nat} {E : State → Prop} {R : qRg} {o n : Nat} {sh : Nat → qC} {Rf : Nat → Nat → Option Nat} {I0 : Nat → Nat → Int32} {L0 : Nat → Nat → Int64} {post : Option Value → qS → Prop} {uo_1 : Nat} {uo_0 : Nat} (hok : q_ok (qGG D cA b E)) (hw : WfRun (qGG D cA b E) n sh Rf o) (ra : RARun R o) (hwuo_1 : WfTrade (qGG D cA b E) n sh Rf uo_1) (rauo_1 : RATrade R uo_1) (hwuo_0 : WfLand (qGG D cA b E) n sh Rf uo_0) (rauo_0 : RALand R uo_0) (huo_1 : Rf o 1 = some uo_1) (huo_0 : Rf o 0 = some uo_0) (hEN : qEN E) (hq0 : (I0 (o + 31) 13).toInt ≤ (I0 (o + 31) 12).toInt) (hq1 : (I0 o 17).toInt ≤ 239) (hq2 : LodOK I0 (o + 44)) (hp : ∀ (I' : Nat → Nat → Int32) (L' : Nat → Nat → Int64), RI R I' → Fm (fun c => c = o ∨ (o + 19 ≤ c ∧ c < o + 60) ∨ c = o + 62) I0 I' → ((I' (o + 31) 13).toInt ≤ (I' (o + 31) 12).toInt) → ((I' o 17).toInt = (I0 o 17).toInt) → (LodOK I' (o + 44)) → (FmL (fun c => c = ((o + 53) + 4) ∨ c = (o + 58) ∨ c = (o + 61) ∨ c = (o + 65) ∨ c = o) L0 L') → post none (n, sh, Rf, I', L')) : ∀ (k : Nat) {x1 : Int32} {I : Nat → Nat → Int32} {L : Nat → Nat → Int64}, RI R I → Fm (fun c => c = o ∨ (o + 19 ≤ c ∧ c < o + 60) ∨ c = o + 62) I0 I → ((0 : Int) ≤ x1.toInt ∧ x1.toInt ≤ 6) → ((I (o + 31) 13).toInt ≤ (I (o + 31) 12).toInt) → ((I o 17).toInt ≤ 239) → ((I o 17).toInt = (I0 o 17).toInt) → (LodOK I (o + 44)) → (FmL (fun c => c = ((o + 53) + 4) ∨ c = (o + 58) ∨ c = (o + 61) ∨ c = (o + 65) ∨ c = o) L0 L) → (6 - x1.toInt).toNat < k → Ev (qGG D cA b E) mRun_takeWays 5 (0, 0) 2 [(0, .ref o), (1, .int x1)] [] (n, sh, Rf, I, L) post := by
  intro k
  induction k with
  | zero =>
    intro x1 I L hR hf hi0 hi1 hi2 hi3 hi4 hl hm
    exact absurd hm (Nat.not_lt_zero _)
  | succ k ih =>
    intro x1 I L hR hf hi0 hi1 hi2 hi3 hi4 hl hm
    have g_1 : (0 : Int) ≤ (I (o + 31) 12).toInt ∧ (I (o + 31) 12).toInt ≤ 1440 := hR.at0 (rsRun_4 ra) 12 (by decide)
    have g_2 : (0 : Int) ≤ (I (o + 31) 13).toInt ∧ (I (o + 31) 13).toInt ≤ 1440 := hR.at0 (rsRun_4 ra) 13 (by decide)
    have g_3 : (0 : Int) ≤ (I o 17).toInt ∧ (I o 17).toInt ≤ 240 := hR.at0 ra 17 (by decide)
    refine sRun_takeWays_2 o n sh Rf I L post x1 uo_1 hok hw huo_1 hwuo_1 ?_
    unfold fRun_takeWays_2
    have g_4 : (0 : Int) ≤ (I uo_1 1).toInt ∧ (I uo_1 1).toInt ≤ 6 := hR.at0 rauo_1 1 (by decide)
    refine ⟨fun c_5 => ?_, fun c_5 => ?_⟩
    · have d_6 := iLe c_5
      exact (hp _ _ hR hf (by first | omega | (intro h; omega) | exact Or.inl rfl | exact Or.inr rfl) (by first | omega | (intro h; omega) | exact Or.inl rfl | exact Or.inr rfl) hi4 hl)
    · have d_7 := iNle c_5
      refine y_Run_isDeadl hok hw ra (by first | omega | (intro h; omega) | exact Or.inl rfl | exact Or.inr rfl) hR (fun r_8 u_9 => ⟨r_8, I, L, rfl, rfl, ?_⟩)
      have b_10 : 0 ≤ r_8.toInt ∧ r_8.toInt ≤ 1 := u_9.rg
      have l_11 : (0 : Int32).toInt = 0 := rfl
      refine ⟨fun c_12 => ?_, fun c_12 => ?_⟩
      · have d_13 := iEq c_12
        refine y_Way_choosel hok (wsRun_7 hw) (rsRun_7 ra) hw ra hwuo_0 rauo_0 hwuo_1 rauo_1 huo_0 huo_1 hEN (by first | omega | (intro h; omega) | exact Or.inl rfl | exact Or.inr rfl) (by first | omega | (intro h; omega) | exact Or.inl rfl | exact Or.inr rfl) hR (fun I_17 L_18 hR_19 fr_20 u_15 ln_16 => ⟨I_17, L_18, rfl, rfl, ?_⟩)
        replace hl := hl.call ln_16 (fun c hc => by first | exact hc | exact False.elim hc | (dsimp only at hc ⊢; omega) | omega)
        have hf_21 : Fm (fun c => c = o ∨ (o + 19 ≤ c ∧ c < o + 60) ∨ c = o + 62) I0 I_17 := hf.call fr_20 (fun c hc => by first | exact hc | (dsimp only at hc ⊢; omega) | omega)
        have t_22 : (I_17 (o + 31) 12).toInt = (I (o + 31) 12).toInt := by rw [fr_20 (o + 31) (by first | omega | (dsimp only; omega))]
        have t_23 : (I_17 (o + 31) 13).toInt = (I (o + 31) 13).toInt := by rw [fr_20 (o + 31) (by first | omega | (dsimp only; omega))]
        have t_24 : (I_17 o 17).toInt = (I o 17).toInt := by rw [fr_20 o (by first | omega | (dsimp only; omega))]
        have g_25 : (0 : Int) ≤ (I_17 uo_1 1).toInt ∧ (I_17 uo_1 1).toInt ≤ 6 := hR_19.at0 rauo_1 1 (by decide)
        have k_26 : LodOK I_17 (o + 44) := hi4.fr (fr_20 _ (by first | omega | (dsimp only; omega))) (fr_20 _ (by first | omega | (dsimp only; omega))) (fr_20 _ (by first | omega | (dsimp only; omega))) (by rw [fr_20 (o + 44) (by first | omega | (dsimp only; omega))])
        refine y_Run_takeWayl hok hw ra hwuo_1 rauo_1 hwuo_0 rauo_0 huo_1 huo_0 hEN (by first | omega | (intro h; omega) | exact Or.inl rfl | exact Or.inr rfl) (by first | omega | (intro h; omega) | exact Or.inl rfl | exact Or.inr rfl) k_26 u_15 hR_19 (fun I_32 L_33 hR_34 fr_35 u_28 u_29 u_30 ln_31 => ⟨I_32, L_33, rfl, rfl, ?_⟩)
        replace hl := hl.call ln_31 (fun c hc => by first | exact hc | exact False.elim hc | (dsimp only at hc ⊢; omega) | omega)
        have hf_36 : Fm (fun c => c = o ∨ (o + 19 ≤ c ∧ c < o + 60) ∨ c = o + 62) I0 I_32 := hf_21.call fr_35 (fun c hc => by first | exact hc | (dsimp only at hc ⊢; omega) | omega)
        have g_37 : (0 : Int) ≤ (I_32 (o + 31) 12).toInt ∧ (I_32 (o + 31) 12).toInt ≤ 1440 := hR_34.at0 (rsRun_4 ra) 12 (by decide)
        have g_38 : (0 : Int) ≤ (I_32 (o + 31) 13).toInt ∧ (I_32 (o + 31) 13).toInt ≤ 1440 := hR_34.at0 (rsRun_4 ra) 13 (by decide)
        have g_39 : (0 : Int) ≤ (I_32 o 17).toInt ∧ (I_32 o 17).toInt ≤ 240 := hR_34.at0 ra 17 (by decide)
        have g_40 : (0 : Int) ≤ (I_32 uo_1 1).toInt ∧ (I_32 uo_1 1).toInt ≤ 6 := hR_34.at0 rauo_1 1 (by decide)
        have k_41 : WyOK I_32 (o + 58) := u_15.fr (by rw [fr_35 (o + 58) (by first | omega | (dsimp only; omega))]) (by rw [fr_35 (o + 58) (by first | omega | (dsimp only; omega))]) (by rw [fr_35 (o + 58) (by first | omega | (dsimp only; omega))]) (by rw [fr_35 (o + 58) (by first | omega | (dsimp only; omega))])
        have g_42 : (0 : Int) ≤ (I_32 o 17).toInt ∧ (I_32 o 17).toInt ≤ 240 := hR_34.at0 ra 17 (by decide)
        refine ⟨tIn (by omega) (by omega), ?_⟩
        have g_43 : (0 : Int) ≤ (I_32 (o + 58) 0).toInt ∧ (I_32 (o + 58) 0).toInt ≤ 4 := hR_34.at0 (rsRun_7 ra) 0 (by decide)
        refine y_Records_keepBookl hok (wsRun_6 hw) (rsRun_6 ra) (by first | omega | (intro h; omega) | exact Or.inl rfl | exact Or.inr rfl) (by first | omega | (intro h; omega) | exact Or.inl rfl | exact Or.inr rfl) hR_34 (fun L_46 ln_45 => ⟨I_32, L_46, rfl, rfl, ?_⟩)
        replace hl := hl.call ln_45 (fun c hc => by first | exact hc | exact False.elim hc | (dsimp only at hc ⊢; omega) | omega)
        unfold fRun_takeWays_90
        have a_48 : (x1 + Int32.ofInt 1).toInt = x1.toInt + (1) := tIc (by omega) (by omega) (by decide) (by decide)
        generalize ez_47 : (x1 + Int32.ofInt 1) = z_47 at a_48 ⊢
        exact ih hR_34 hf_36 (by first | omega | (intro h; omega) | exact Or.inl rfl | exact Or.inr rfl) (by first | omega | (intro h; omega) | exact Or.inl rfl | exact Or.inr rfl) (by first | omega | (intro h; omega) | exact Or.inl rfl | exact Or.inr rfl) (by first | omega | (intro h; omega) | exact Or.inl rfl | exact Or.inr rfl) u_30 hl (by omega)
      · have d_49 := iNe c_12
        have g_50 : (0 : Int) ≤ (I o 17).toInt ∧ (I o 17).toInt ≤ 240 := hR.at0 ra 17 (by decide)
        refine ⟨tIn (by omega) (by omega), ?_⟩
        have l_51 : (-1 : Int32).toInt = -1 := rfl
        refine y_Records_keepBookl hok (wsRun_6 hw) (rsRun_6 ra) (by first | omega | (intro h; omega) | exact Or.inl rfl | exact Or.inr rfl) (by first | omega | (intro h; omega) | exact Or.inl rfl | exact Or.inr rfl) hR (fun L_54 ln_53 => ⟨I, L_54, rfl, rfl, ?_⟩)
        replace hl := hl.call ln_53 (fun c hc => by first | exact hc | exact False.elim hc | (dsimp only at hc ⊢; omega) | omega)
        unfold fRun_takeWays_90
        have a_56 : (x1 + Int32.ofInt 1).toInt = x1.toInt + (1) := tIc (by omega) (by omega) (by decide) (by decide)
        generalize ez_55 : (x1 + Int32.ofInt 1) = z_55 at a_56 ⊢
        exact ih hR hf (by first | omega | (intro h; omega) | exact Or.inl rfl | exact Or.inr rfl) (by first | omega | (intro h; omega) | exact Or.inl rfl | exact Or.inr rfl) (by first | omega | (intro h; omega) | exact Or.inl rfl | exact Or.inr rfl) (by first | omega | (intro h; omega) | exact Or.inl rfl | exact Or.inr rfl) hi4 hl (by omega)
set_option maxHeartbeats 4000000 in
set_option maxRecDepth 20000 in
theorem y_Run_takeWaysl {D : va_G} {cA : FieldType → ClassId} {b : Nat} {E : State → Prop} {R : qRg} {o n : Nat} {sh : Nat → qC} {Rf : Nat → Nat → Option Nat} {I0 : Nat → Nat → Int32} {L0 : Nat → Nat → Int64} {post : Option Value → qS → Prop} {uo_1 : Nat} {uo_0 : Nat} (hok : q_ok (qGG D cA b E)) (hw : WfRun (qGG D cA b E) n sh Rf o) (ra : RARun R o) (hwuo_1 : WfTrade (qGG D cA b E) n sh Rf uo_1) (rauo_1 : RATrade R uo_1) (hwuo_0 : WfLand (qGG D cA b E) n sh Rf uo_0) (rauo_0 : RALand R uo_0) (huo_1 : Rf o 1 = some uo_1) (huo_0 : Rf o 0 = some uo_0) (hEN : qEN E) (hq0 : (I0 (o + 31) 13).toInt ≤ (I0 (o + 31) 12).toInt) (hq1 : (I0 o 17).toInt ≤ 239) (hq2 : LodOK I0 (o + 44)) (hR : RI R I0) (hp : ∀ (I' : Nat → Nat → Int32) (L' : Nat → Nat → Int64), RI R I' → Fm (fun c => c = o ∨ (o + 19 ≤ c ∧ c < o + 60) ∨ c = o + 62) I0 I' → ((I' (o + 31) 13).toInt ≤ (I' (o + 31) 12).toInt) → ((I' o 17).toInt = (I0 o 17).toInt) → (LodOK I' (o + 44)) → (FmL (fun c => c = ((o + 53) + 4) ∨ c = (o + 58) ∨ c = (o + 61) ∨ c = (o + 65) ∨ c = o) L0 L') → post none (n, sh, Rf, I', L')) : Ev (qGG D cA b E) mRun_takeWays 5 (0, 0) 0 (lv_args 0 [.ref o]) [] (n, sh, Rf, I0, L0) post := by
  have hf : Fm (fun c => c = o ∨ (o + 19 ≤ c ∧ c < o + 60) ∨ c = o + 62) I0 I0 := Fm.rf
  have g_57 : (0 : Int) ≤ (I0 (o + 31) 12).toInt ∧ (I0 (o + 31) 12).toInt ≤ 1440 := hR.at0 (rsRun_4 ra) 12 (by decide)
  have g_58 : (0 : Int) ≤ (I0 (o + 31) 13).toInt ∧ (I0 (o + 31) 13).toInt ≤ 1440 := hR.at0 (rsRun_4 ra) 13 (by decide)
  have g_59 : (0 : Int) ≤ (I0 o 17).toInt ∧ (I0 o 17).toInt ≤ 240 := hR.at0 ra 17 (by decide)
  refine sRun_takeWays_0 o n sh Rf I0 L0 post uo_1 hok hw huo_1 hwuo_1 ?_
  unfold fRun_takeWays_0
  have hl : FmL (fun c => c = ((o + 53) + 4) ∨ c = (o + 58) ∨ c = (o + 61) ∨ c = (o + 65) ∨ c = o) L0 L0 := FmL.rf
  have l_60 : (0 : Int32).toInt = 0 := rfl
  exact yRun_takeWays_2l (I0 := I0) (L0 := L0) hok hw ra hwuo_1 rauo_1 hwuo_0 rauo_0 huo_1 huo_0 hEN hq0 hq1 hq2 hp  _ hR hf (by first | omega | (intro h; omega) | exact Or.inl rfl | exact Or.inr rfl) (by first | omega | (intro h; omega) | exact Or.inl rfl | exact Or.inr rfl) (by first | omega | (intro h; omega) | exact Or.inl rfl | exact Or.inr rfl) (by first | omega | (intro h; omega) | exact Or.inl rfl | exact Or.inr rfl) hq2 hl (Nat.lt_succ_self _)
set_option maxHeartbeats 4000000 in
set_option maxRecDepth 20000 in
theorem yRun_readDeaths_19l {D : va_G} {cA : FieldType → ClassId} {b : Nat} {E : State → Prop} {R : qRg} {o n : Nat} {sh : Nat → qC} {Rf : Nat → Nat → Option Nat} {I0 : Nat → Nat → Int32} {L0 : Nat → Nat → Int64} {post : Option Value → qS → Prop} {x1 : Nat} {p2 : Int32} (hok : q_ok (qGG D cA b E)) (hw : WfRun (qGG D cA b E) n sh Rf o) (ra : RARun R o) (hw1 : WfFacts (qGG D cA b E) n sh Rf x1) (ra1 : RAFacts R x1) (hs0 : x1 + 7 ≤ o) (hq0 : FacOK I0 x1) (hp : ∀ (I' : Nat → Nat → Int32) (L' : Nat → Nat → Int64), RI R I' → Fm (fun c => c = o + 63 ∨ c = o + 64) I0 I' → (FmL (fun c => False) L0 L') → post none (n, sh, Rf, I', L')) : ∀ (k : Nat) {x2 : Int32} {x3 : Int32} {I : Nat → Nat → Int32} {L : Nat → Nat → Int64}, RI R I → Fm (fun c => c = o + 63 ∨ c = o + 64) I0 I → ((0 : Int) ≤ x3.toInt ∧ x3.toInt ≤ 40) → (FacOK I x1) → (FmL (fun c => False) L0 L) → (40 - x3.toInt).toNat < k → Ev (qGG D cA b E) mRun_readDeaths 1 (0, 0) 19 [(0, .ref o), (1, .ref x1), (2, .int x2), (3, .int x3)] [] (n, sh, Rf, I, L) post := by
  intro k
  induction k with
  | zero =>
    intro x2 x3 I L hR hf hi0 hi1 hl hm
    exact absurd hm (Nat.not_lt_zero _)
  | succ k ih =>
    intro x2 x3 I L hR hf hi0 hi1 hl hm
    refine sRun_readDeaths_19 o n sh Rf I L post x1 x2 x3 hok hw hw1 ?_
    unfold fRun_readDeaths_19
    have g_1 : (0 : Int) ≤ (I x1 6).toInt ∧ (I x1 6).toInt ≤ 40 := hR.at0 ra1 6 (by decide)
    refine ⟨fun c_2 => ?_, fun c_2 => ?_⟩
    · have d_3 := iLe c_2
      exact (hp _ _ hR hf  hl)
    · have d_4 := iNle c_2
      refine ⟨tIn (by omega) (by omega), ?_⟩
      have l_5 : (2 : Int32).toInt = 2 := rfl
      refine y_Facts_isKnownl hok hw1 ra1 (by first | omega | (intro h; omega) | exact Or.inl rfl | exact Or.inr rfl) hR (fun r_6 u_7 u_8 => ⟨r_6, I, L, rfl, rfl, ?_⟩)
      have b_9 : 0 ≤ r_6.toInt ∧ r_6.toInt ≤ 1 := u_7.rg
      have l_10 : (0 : Int32).toInt = 0 := rfl
      refine ⟨fun c_11 => ?_, fun c_11 => ?_⟩
      · have d_12 := iEq c_11
        unfold fRun_readDeaths_87
        have a_14 : (x3 + Int32.ofInt 1).toInt = x3.toInt + (1) := tIc (by omega) (by omega) (by decide) (by decide)
        generalize ez_13 : (x3 + Int32.ofInt 1) = z_13 at a_14 ⊢
        exact ih hR hf (by first | omega | (intro h; omega) | exact Or.inl rfl | exact Or.inr rfl) hi1 hl (by omega)
      · have d_15 := iNe c_11
        have cl := tCl (x := x3) (by omega)
        have fk := (hi1 x3.toNatClampNeg (by omega)) (by have := u_8 (by omega); omega)
        refine ⟨tIn (by omega) (by omega), ?_⟩
        refine ⟨tIn (by omega) (by omega), ?_⟩
        refine ⟨fun c_16 => ?_, fun c_16 => ?_⟩
        · have d_17 := iLt c_16
          unfold fRun_readDeaths_87
          have a_19 : (x3 + Int32.ofInt 1).toInt = x3.toInt + (1) := tIc (by omega) (by omega) (by decide) (by decide)
          generalize ez_18 : (x3 + Int32.ofInt 1) = z_18 at a_19 ⊢
          exact ih hR hf (by first | omega | (intro h; omega) | exact Or.inl rfl | exact Or.inr rfl) hi1 hl (by omega)
        · have d_20 := iNlt c_16
          refine ⟨tIn (by omega) (by omega), ?_⟩
          refine ⟨tIn (by omega) (by omega), fun I_21 e_22 => ?_⟩
          have hR_23 : RI R I_21 := hR.up ra 63 (by decide) (Or.inl rfl) e_22 (i_lo _) (i_hi _)
          have hf_24 : Fm (fun c => c = o + 63 ∨ c = o + 64) I0 I_21 := hf.set (by first | rfl | omega | (dsimp only; omega)) e_22
          have t_25 : (I_21 x1 6).toInt = (I x1 6).toInt := by rw [← e_22, q_u_ne (sh_ne_a (hw1).1.2.2 (waRun_12 (I := I0) (L := L0) hw).2.2)]
          have k_26 : FacOK I_21 x1 := hi1.fr (by rw [← e_22]; exact q_u_ne (by omega)) (by rw [← e_22]; exact q_u_ne (by omega)) (by rw [← e_22]; exact q_u_ne (by omega)) (by rw [← e_22, q_u_ne (by omega)])
          refine ⟨tIn (by omega) (by omega), ?_⟩
          have v2 : (I_21 (x1 + 4) x3.toNatClampNeg).toInt = (I (x1 + 4) x3.toNatClampNeg).toInt := by rw [hf_24 (x1 + 4) (by first | omega | (dsimp only; omega)), hf (x1 + 4) (by first | omega | (dsimp only; omega))]
          refine ⟨tIn (by omega) (by omega), fun I_27 e_28 => ?_⟩
          have hR_29 : RI R I_27 := hR_23.up ra 64 (by decide) (Or.inl rfl) e_28 (show (-1 : Int) ≤ (I_21 (x1 + 4) (x3 : Int32).toNatClampNeg).toInt by omega) (show (I_21 (x1 + 4) (x3 : Int32).toNatClampNeg).toInt ≤ (5 : Int) by omega)
          have hf_30 : Fm (fun c => c = o + 63 ∨ c = o + 64) I0 I_27 := hf_24.set (by first | rfl | omega | (dsimp only; omega)) e_28
          have t_31 : (I_27 x1 6).toInt = (I_21 x1 6).toInt := by rw [← e_28, q_u_ne (sh_ne_a (hw1).1.2.2 (waRun_13 (I := I0) (L := L0) hw).2.2)]
          have k_32 : FacOK I_27 x1 := k_26.fr (by rw [← e_28]; exact q_u_ne (by omega)) (by rw [← e_28]; exact q_u_ne (by omega)) (by rw [← e_28]; exact q_u_ne (by omega)) (by rw [← e_28, q_u_ne (by omega)])
          unfold fRun_readDeaths_87
          have a_34 : (x3 + Int32.ofInt 1).toInt = x3.toInt + (1) := tIc (by omega) (by omega) (by decide) (by decide)
          generalize ez_33 : (x3 + Int32.ofInt 1) = z_33 at a_34 ⊢
          exact ih hR_29 hf_30 (by first | omega | (intro h; omega) | exact Or.inl rfl | exact Or.inr rfl) k_32 hl (by omega)
set_option maxHeartbeats 4000000 in
set_option maxRecDepth 20000 in
theorem y_Run_readDeathsl {D : va_G} {cA : FieldType → ClassId} {b : Nat} {E : State → Prop} {R : qRg} {o n : Nat} {sh : Nat → qC} {Rf : Nat → Nat → Option Nat} {I0 : Nat → Nat → Int32} {L0 : Nat → Nat → Int64} {post : Option Value → qS → Prop} {x1 : Nat} {p2 : Int32} (hok : q_ok (qGG D cA b E)) (hw : WfRun (qGG D cA b E) n sh Rf o) (ra : RARun R o) (hw1 : WfFacts (qGG D cA b E) n sh Rf x1) (ra1 : RAFacts R x1) (hs0 : x1 + 7 ≤ o) (hq0 : FacOK I0 x1) (hR : RI R I0) (hp : ∀ (I' : Nat → Nat → Int32) (L' : Nat → Nat → Int64), RI R I' → Fm (fun c => c = o + 63 ∨ c = o + 64) I0 I' → (FmL (fun c => False) L0 L') → post none (n, sh, Rf, I', L')) : Ev (qGG D cA b E) mRun_readDeaths 1 (0, 0) 0 (lv_args 0 [.ref o, .ref x1, .int p2]) [] (n, sh, Rf, I0, L0) post := by
  have hf : Fm (fun c => c = o + 63 ∨ c = o + 64) I0 I0 := Fm.rf
  refine sRun_readDeaths_0 o n sh Rf I0 L0 post x1 p2 hok hw hw1 ?_
  unfold fRun_readDeaths_0
  have hl : FmL (fun c => False) L0 L0 := FmL.rf
  have l_35 : (1000000 : Int32).toInt = 1000000 := rfl
  refine y_fill hok (fun _ _ => waRun_12 hw) (by omega) (fun I_36 ne_37 _ eq_38 => ⟨I_36, L0, rfl, rfl, ?_⟩)
  have hR_39 : RI R I_36 := hR.row ra 63 (by decide) (fun _ => rfl) (fun _ => ⟨(i_lo _), (i_hi _)⟩) ne_37 eq_38
  have hf_40 : Fm (fun c => c = o + 63 ∨ c = o + 64) I0 I_36 := hf.call (M' := fun c => c = (o + 63)) ne_37 (fun c hc => by first | exact hc | (dsimp only at hc ⊢; omega) | omega)
  have k_41 : FacOK I_36 x1 := hq0.fr (ne_37 _ (by omega)) (ne_37 _ (by omega)) (ne_37 _ (by omega)) (by rw [ne_37 x1 (by omega)])
  have l_42 : (-1 : Int32).toInt = -1 := rfl
  refine y_fill hok (fun _ _ => waRun_13 hw) (by omega) (fun I_43 ne_44 _ eq_45 => ⟨I_43, L0, rfl, rfl, ?_⟩)
  have hR_46 : RI R I_43 := hR_39.row ra 64 (by decide) (fun _ => rfl) (fun _ => ⟨(show (-1 : Int) ≤ ((-1) : Int32).toInt by omega), (show ((-1) : Int32).toInt ≤ (5 : Int) by omega)⟩) ne_44 eq_45
  have hf_47 : Fm (fun c => c = o + 63 ∨ c = o + 64) I0 I_43 := hf_40.call (M' := fun c => c = (o + 64)) ne_44 (fun c hc => by first | exact hc | (dsimp only at hc ⊢; omega) | omega)
  have k_48 : FacOK I_43 x1 := k_41.fr (ne_44 _ (by omega)) (ne_44 _ (by omega)) (ne_44 _ (by omega)) (by rw [ne_44 x1 (by omega)])
  have l_49 : (0 : Int32).toInt = 0 := rfl
  exact yRun_readDeaths_19l (I0 := I0) (L0 := L0) (p2 := p2) hok hw ra hw1 ra1 hs0 hq0 hp  _ hR_46 hf_47 (by first | omega | (intro h; omega) | exact Or.inl rfl | exact Or.inr rfl) k_48 hl (Nat.lt_succ_self _)
set_option maxHeartbeats 4000000 in
set_option maxRecDepth 20000 in
theorem yRun_begin_45l {D : va_G} {cA : FieldType → ClassId} {b : Nat} {E : State → Prop} {R : qRg} {o n : Nat} {sh : Nat → qC} {Rf : Nat → Nat → Option Nat} {I0 : Nat → Nat → Int32} {L0 : Nat → Nat → Int64} {post : Option Value → qS → Prop} {x1 : Nat} {uo_0 : Nat} {uo_1 : Nat} {p2 : Int32} (hok : q_ok (qGG D cA b E)) (hw : WfRun (qGG D cA b E) n sh Rf o) (ra : RARun R o) (hw1 : WfFacts (qGG D cA b E) n sh Rf x1) (ra1 : RAFacts R x1) (hwuo_0 : WfLand (qGG D cA b E) n sh Rf uo_0) (rauo_0 : RALand R uo_0) (hwuo_1 : WfTrade (qGG D cA b E) n sh Rf uo_1) (rauo_1 : RATrade R uo_1) (huo_0 : Rf o 0 = some uo_0) (huo_1 : Rf o 1 = some uo_1) (hs0 : x1 + 7 ≤ o) (hq0 : FacOK I0 x1) (hp : ∀ (I' : Nat → Nat → Int32) (L' : Nat → Nat → Int64), RI R I' → Fm (fun c => (o + 24 ≤ c ∧ c < o + 53) ∨ (o + 62 ≤ c ∧ c < o + 65)) I0 I' → ((I' (o + 31) 13).toInt ≤ (I' (o + 31) 12).toInt) → (LodOK I' (o + 44)) → (FmL (fun c => c = (o + 61) ∨ c = (o + 65)) L0 L') → post none (n, sh, Rf, I', L')) : ∀ (k : Nat) {x2 : Int32} {x3 : Int32} {I : Nat → Nat → Int32} {L : Nat → Nat → Int64}, RI R I → Fm (fun c => (o + 24 ≤ c ∧ c < o + 53) ∨ (o + 62 ≤ c ∧ c < o + 65)) I0 I → ((0 : Int) ≤ x3.toInt ∧ x3.toInt ≤ 6) → ((I (o + 31) 13).toInt ≤ (I (o + 31) 12).toInt) → (FacOK I x1) → (LodOK I (o + 44)) → (FmL (fun c => c = (o + 61) ∨ c = (o + 65)) L0 L) → (6 - x3.toInt).toNat < k → Ev (qGG D cA b E) mRun_begin 2 (0, 0) 45 [(0, .ref o), (1, .ref x1), (2, .int x2), (3, .int x3)] [] (n, sh, Rf, I, L) post := by
  intro k
  induction k with
  | zero =>
    intro x2 x3 I L hR hf hi0 hi1 hi2 hi3 hl hm
    exact absurd hm (Nat.not_lt_zero _)
  | succ k ih =>
    intro x2 x3 I L hR hf hi0 hi1 hi2 hi3 hl hm
    have g_1 : (0 : Int) ≤ (I (o + 31) 12).toInt ∧ (I (o + 31) 12).toInt ≤ 1440 := hR.at0 (rsRun_4 ra) 12 (by decide)
    have g_2 : (0 : Int) ≤ (I (o + 31) 13).toInt ∧ (I (o + 31) 13).toInt ≤ 1440 := hR.at0 (rsRun_4 ra) 13 (by decide)
    refine sRun_begin_45 o n sh Rf I L post x1 x2 x3 uo_0 uo_1 hok hw hw1 huo_0 hwuo_0 huo_1 hwuo_1 ?_
    unfold fRun_begin_45
    have g_3 : (0 : Int) ≤ (I uo_1 1).toInt ∧ (I uo_1 1).toInt ≤ 6 := hR.at0 rauo_1 1 (by decide)
    refine ⟨fun c_4 => ?_, fun c_4 => ?_⟩
    · have d_5 := iLe c_4
      refine y_Run_readDeathsl hok hw ra hw1 ra1 (by first | omega | (intro h; omega) | exact Or.inl rfl | exact Or.inr rfl) hi2 hR (fun I_8 L_9 hR_10 fr_11 ln_7 => ⟨I_8, L_9, rfl, rfl, ?_⟩)
      replace hl := hl.call ln_7 (fun c hc => by first | exact hc | exact False.elim hc | (dsimp only at hc ⊢; omega) | omega)
      have hf_12 : Fm (fun c => (o + 24 ≤ c ∧ c < o + 53) ∨ (o + 62 ≤ c ∧ c < o + 65)) I0 I_8 := hf.call fr_11 (fun c hc => by first | exact hc | (dsimp only at hc ⊢; omega) | omega)
      have t_13 : (I_8 (o + 31) 12).toInt = (I (o + 31) 12).toInt := by rw [fr_11 (o + 31) (by first | omega | (dsimp only; omega))]
      have t_14 : (I_8 (o + 31) 13).toInt = (I (o + 31) 13).toInt := by rw [fr_11 (o + 31) (by first | omega | (dsimp only; omega))]
      have g_15 : (0 : Int) ≤ (I_8 uo_1 1).toInt ∧ (I_8 uo_1 1).toInt ≤ 6 := hR_10.at0 rauo_1 1 (by decide)
      have k_16 : FacOK I_8 x1 := hi2.fr (fr_11 _ (by first | omega | (dsimp only; omega))) (fr_11 _ (by first | omega | (dsimp only; omega))) (fr_11 _ (by first | omega | (dsimp only; omega))) (by rw [fr_11 x1 (by first | omega | (dsimp only; omega))])
      have k_17 : LodOK I_8 (o + 44) := hi3.fr (fr_11 _ (by first | omega | (dsimp only; omega))) (fr_11 _ (by first | omega | (dsimp only; omega))) (fr_11 _ (by first | omega | (dsimp only; omega))) (by rw [fr_11 (o + 44) (by first | omega | (dsimp only; omega))])
      exact (hp _ _ hR_10 hf_12 (by first | omega | (intro h; omega) | exact Or.inl rfl | exact Or.inr rfl) k_17 hl)
    · have d_18 := iNle c_4
      refine ⟨tIn (by omega) (by omega), ?_⟩
      refine ⟨tIn (by omega) (by omega), fun L_19 e_20 => ?_⟩
      replace hl := hl.set (by first | rfl | omega | (dsimp only; omega)) e_20
      have a_22 : (x3 + Int32.ofInt 1).toInt = x3.toInt + (1) := tIc (by omega) (by omega) (by decide) (by decide)
      generalize ez_21 : (x3 + Int32.ofInt 1) = z_21 at a_22 ⊢
      exact ih hR hf (by first | omega | (intro h; omega) | exact Or.inl rfl | exact Or.inr rfl) (by first | omega | (intro h; omega) | exact Or.inl rfl | exact Or.inr rfl) hi2 hi3 hl (by omega)
set_option maxHeartbeats 4000000 in
set_option maxRecDepth 20000 in
theorem y_Run_beginl {D : va_G} {cA : FieldType → ClassId} {b : Nat} {E : State → Prop} {R : qRg} {o n : Nat} {sh : Nat → qC} {Rf : Nat → Nat → Option Nat} {I0 : Nat → Nat → Int32} {L0 : Nat → Nat → Int64} {post : Option Value → qS → Prop} {x1 : Nat} {uo_0 : Nat} {uo_1 : Nat} {p2 : Int32} (hok : q_ok (qGG D cA b E)) (hw : WfRun (qGG D cA b E) n sh Rf o) (ra : RARun R o) (hw1 : WfFacts (qGG D cA b E) n sh Rf x1) (ra1 : RAFacts R x1) (hwuo_0 : WfLand (qGG D cA b E) n sh Rf uo_0) (rauo_0 : RALand R uo_0) (hwuo_1 : WfTrade (qGG D cA b E) n sh Rf uo_1) (rauo_1 : RATrade R uo_1) (huo_0 : Rf o 0 = some uo_0) (huo_1 : Rf o 1 = some uo_1) (hs0 : x1 + 7 ≤ o) (hq0 : FacOK I0 x1) (hR : RI R I0) (hp : ∀ (I' : Nat → Nat → Int32) (L' : Nat → Nat → Int64), RI R I' → Fm (fun c => (o + 24 ≤ c ∧ c < o + 53) ∨ (o + 62 ≤ c ∧ c < o + 65)) I0 I' → ((I' (o + 31) 13).toInt ≤ (I' (o + 31) 12).toInt) → (LodOK I' (o + 44)) → (FmL (fun c => c = (o + 61) ∨ c = (o + 65)) L0 L') → post none (n, sh, Rf, I', L')) : Ev (qGG D cA b E) mRun_begin 2 (0, 0) 0 (lv_args 0 [.ref o, .ref x1, .int p2]) [] (n, sh, Rf, I0, L0) post := by
  have hf : Fm (fun c => (o + 24 ≤ c ∧ c < o + 53) ∨ (o + 62 ≤ c ∧ c < o + 65)) I0 I0 := Fm.rf
  have g_23 : (0 : Int) ≤ (I0 (o + 31) 12).toInt ∧ (I0 (o + 31) 12).toInt ≤ 1440 := hR.at0 (rsRun_4 ra) 12 (by decide)
  have g_24 : (0 : Int) ≤ (I0 (o + 31) 13).toInt ∧ (I0 (o + 31) 13).toInt ≤ 1440 := hR.at0 (rsRun_4 ra) 13 (by decide)
  refine sRun_begin_0 o n sh Rf I0 L0 post x1 p2 uo_0 uo_1 hok hw hw1 huo_0 hwuo_0 huo_1 hwuo_1 ?_
  unfold fRun_begin_0
  have hl : FmL (fun c => c = (o + 61) ∨ c = (o + 65)) L0 L0 := FmL.rf
  refine y_Realm_startl hok (wsRun_3 hw) (rsRun_3 ra) hwuo_0 rauo_0 hR (fun I_27 L_28 hR_29 fr_30 ln_26 => ⟨I_27, L_28, rfl, rfl, ?_⟩)
  replace hl := hl.call ln_26 (fun c hc => by first | exact hc | exact False.elim hc | (dsimp only at hc ⊢; omega) | omega)
  have hf_31 : Fm (fun c => (o + 24 ≤ c ∧ c < o + 53) ∨ (o + 62 ≤ c ∧ c < o + 65)) I0 I_27 := hf.call fr_30 (fun c hc => by first | exact hc | (dsimp only at hc ⊢; omega) | omega)
  have t_32 : (I_27 (o + 31) 12).toInt = (I0 (o + 31) 12).toInt := by rw [fr_30 (o + 31) (by first | omega | (dsimp only; omega))]
  have t_33 : (I_27 (o + 31) 13).toInt = (I0 (o + 31) 13).toInt := by rw [fr_30 (o + 31) (by first | omega | (dsimp only; omega))]
  have k_34 : FacOK I_27 x1 := hq0.fr (fr_30 _ (by first | omega | (dsimp only; omega))) (fr_30 _ (by first | omega | (dsimp only; omega))) (fr_30 _ (by first | omega | (dsimp only; omega))) (by rw [fr_30 x1 (by first | omega | (dsimp only; omega))])
  refine y_Papers_startl hok (wsRun_4 hw) (rsRun_4 ra) hw1 ra1 hR_29 (fun I_38 L_39 hR_40 fr_41 u_36 ln_37 => ⟨I_38, L_39, rfl, rfl, ?_⟩)
  replace hl := hl.call ln_37 (fun c hc => by first | exact hc | exact False.elim hc | (dsimp only at hc ⊢; omega) | omega)
  have hf_42 : Fm (fun c => (o + 24 ≤ c ∧ c < o + 53) ∨ (o + 62 ≤ c ∧ c < o + 65)) I0 I_38 := hf_31.call fr_41 (fun c hc => by first | exact hc | (dsimp only at hc ⊢; omega) | omega)
  have g_43 : (0 : Int) ≤ (I_38 (o + 31) 12).toInt ∧ (I_38 (o + 31) 12).toInt ≤ 1440 := hR_40.at0 (rsRun_4 ra) 12 (by decide)
  have g_44 : (0 : Int) ≤ (I_38 (o + 31) 13).toInt ∧ (I_38 (o + 31) 13).toInt ≤ 1440 := hR_40.at0 (rsRun_4 ra) 13 (by decide)
  have k_45 : FacOK I_38 x1 := k_34.fr (fr_41 _ (by first | omega | (dsimp only; omega))) (fr_41 _ (by first | omega | (dsimp only; omega))) (fr_41 _ (by first | omega | (dsimp only; omega))) (by rw [fr_41 x1 (by first | omega | (dsimp only; omega))])
  refine y_Loads_startl hok (wsRun_5 hw) (rsRun_5 ra) hR_40 (fun I_49 L_50 hR_51 fr_52 u_47 ln_48 => ⟨I_49, L_50, rfl, rfl, ?_⟩)
  replace hl := hl.call ln_48 (fun c hc => by first | exact hc | exact False.elim hc | (dsimp only at hc ⊢; omega) | omega)
  have hf_53 : Fm (fun c => (o + 24 ≤ c ∧ c < o + 53) ∨ (o + 62 ≤ c ∧ c < o + 65)) I0 I_49 := hf_42.call fr_52 (fun c hc => by first | exact hc | (dsimp only at hc ⊢; omega) | omega)
  have t_54 : (I_49 (o + 31) 12).toInt = (I_38 (o + 31) 12).toInt := by rw [fr_52 (o + 31) (by first | omega | (dsimp only; omega))]
  have t_55 : (I_49 (o + 31) 13).toInt = (I_38 (o + 31) 13).toInt := by rw [fr_52 (o + 31) (by first | omega | (dsimp only; omega))]
  have k_56 : FacOK I_49 x1 := k_45.fr (fr_52 _ (by first | omega | (dsimp only; omega))) (fr_52 _ (by first | omega | (dsimp only; omega))) (fr_52 _ (by first | omega | (dsimp only; omega))) (by rw [fr_52 x1 (by first | omega | (dsimp only; omega))])
  have l_57 : (0 : Int32).toInt = 0 := rfl
  refine l_fillL hok (fun _ _ => waRun_14 hw) (by omega) (fun L_58 lg_59 _ => ⟨I_49, L_58, rfl, rfl, ?_⟩)
  replace hl := hl.call (M' := fun c => c = (o + 65)) lg_59 (fun c hc => by first | exact hc | (dsimp only at hc ⊢; omega) | omega)
  have l_60 : (-1 : Int32).toInt = -1 := rfl
  refine y_fill hok (fun _ _ => waRun_11 hw) (by omega) (fun I_61 ne_62 _ eq_63 => ⟨I_61, L_58, rfl, rfl, ?_⟩)
  have hR_64 : RI R I_61 := hR_51.row ra 62 (by decide) (fun _ => rfl) (fun _ => ⟨(i_lo _), (i_hi _)⟩) ne_62 eq_63
  have hf_65 : Fm (fun c => (o + 24 ≤ c ∧ c < o + 53) ∨ (o + 62 ≤ c ∧ c < o + 65)) I0 I_61 := hf_53.call (M' := fun c => c = (o + 62)) ne_62 (fun c hc => by first | exact hc | (dsimp only at hc ⊢; omega) | omega)
  have t_66 : (I_61 (o + 31) 12).toInt = (I_49 (o + 31) 12).toInt := by rw [ne_62 (o + 31) (by omega)]
  have t_67 : (I_61 (o + 31) 13).toInt = (I_49 (o + 31) 13).toInt := by rw [ne_62 (o + 31) (by omega)]
  have k_68 : FacOK I_61 x1 := k_56.fr (ne_62 _ (by omega)) (ne_62 _ (by omega)) (ne_62 _ (by omega)) (by rw [ne_62 x1 (by omega)])
  have k_69 : LodOK I_61 (o + 44) := u_47.fr (ne_62 _ (by omega)) (ne_62 _ (by omega)) (ne_62 _ (by omega)) (by rw [ne_62 (o + 44) (by omega)])
  exact yRun_begin_45l (I0 := I0) (L0 := L0) (p2 := p2) hok hw ra hw1 ra1 hwuo_0 rauo_0 hwuo_1 rauo_1 huo_0 huo_1 hs0 hq0 hp  _ hR_64 hf_65 (by first | omega | (intro h; omega) | exact Or.inl rfl | exact Or.inr rfl) (by first | omega | (intro h; omega) | exact Or.inl rfl | exact Or.inr rfl) k_68 k_69 hl (Nat.lt_succ_self _)
set_option maxHeartbeats 4000000 in
set_option maxRecDepth 20000 in
theorem y_Run_finishl {D : va_G} {cA : FieldType → ClassId} {b : Nat} {E : State → Prop} {R : qRg} {o n : Nat} {sh : Nat → qC} {Rf : Nat → Nat → Option Nat} {I0 : Nat → Nat → Int32} {L0 : Nat → Nat → Int64} {post : Option Value → qS → Prop} {uo_0 : Nat} {uo_1 : Nat} (hok : q_ok (qGG D cA b E)) (hw : WfRun (qGG D cA b E) n sh Rf o) (ra : RARun R o) (hwuo_0 : WfLand (qGG D cA b E) n sh Rf uo_0) (rauo_0 : RALand R uo_0) (hwuo_1 : WfTrade (qGG D cA b E) n sh Rf uo_1) (rauo_1 : RATrade R uo_1) (huo_0 : Rf o 0 = some uo_0) (huo_1 : Rf o 1 = some uo_1) (hq0 : (I0 (o + 31) 13).toInt ≤ (I0 (o + 31) 12).toInt) (hq1 : LodOK I0 (o + 44)) (hR : RI R I0) (hp : ∀ (I' : Nat → Nat → Int32) (L' : Nat → Nat → Int64), RI R I' → Fm (fun c => c = o ∨ (o + 19 ≤ c ∧ c < o + 61)) I0 I' → ((I' (o + 31) 13).toInt ≤ (I' (o + 31) 12).toInt) → (LodOK I' (o + 44)) → (FmL (fun c => c = (o + 65)) L0 L') → post none (n, sh, Rf, I', L')) : Ev (qGG D cA b E) mRun_finish 3 (0, 0) 0 (lv_args 0 [.ref o]) [] (n, sh, Rf, I0, L0) post := by
  have hf : Fm (fun c => c = o ∨ (o + 19 ≤ c ∧ c < o + 61)) I0 I0 := Fm.rf
  have g_1 : (0 : Int) ≤ (I0 (o + 31) 12).toInt ∧ (I0 (o + 31) 12).toInt ≤ 1440 := hR.at0 (rsRun_4 ra) 12 (by decide)
  have g_2 : (0 : Int) ≤ (I0 (o + 31) 13).toInt ∧ (I0 (o + 31) 13).toInt ≤ 1440 := hR.at0 (rsRun_4 ra) 13 (by decide)
  refine sRun_finish_0 o n sh Rf I0 L0 post  hok hw ?_
  unfold fRun_finish_0
  have hl : FmL (fun c => c = (o + 65)) L0 L0 := FmL.rf
  have g_3 : (0 : Int) ≤ (I0 o 16).toInt ∧ (I0 o 16).toInt ≤ 240 := hR.at0 ra 16 (by decide)
  refine fun I_4 e_5 => ?_
  have hR_6 : RI R I_4 := hR.up0 (k := 17) ra (by decide) (Or.inl rfl) e_5 (show (0 : Int) ≤ (I0 o 16).toInt by omega) (show (I0 o 16).toInt ≤ (240 : Int) by omega)
  have hf_7 : Fm (fun c => c = o ∨ (o + 19 ≤ c ∧ c < o + 61)) I0 I_4 := hf.set (by first | rfl | omega | (dsimp only; omega)) e_5
  have t_8 : (I_4 (o + 31) 12).toInt = (I0 (o + 31) 12).toInt := by rw [← e_5, q_u_ne (by omega)]
  have t_9 : (I_4 (o + 31) 13).toInt = (I0 (o + 31) 13).toInt := by rw [← e_5, q_u_ne (by omega)]
  have t_10 : (I_4 o 16).toInt = (I0 o 16).toInt := by rw [← e_5, q_u_k (by decide)]
  have t_11 : (I_4 o 17).toInt = (I0 o 16).toInt := by rw [← e_5, q_u_at]
  have k_12 : LodOK I_4 (o + 44) := hq1.fr (by rw [← e_5]; exact q_u_ne (by omega)) (by rw [← e_5]; exact q_u_ne (by omega)) (by rw [← e_5]; exact q_u_ne (by omega)) (by rw [← e_5, q_u_ne (by omega)])
  refine y_Run_tellMonthl hok hw ra hwuo_0 rauo_0 hwuo_1 rauo_1 huo_0 huo_1 hR_6 (fun I_16 L_17 hR_18 fr_19 u_14 ln_15 => ⟨I_16, L_17, rfl, rfl, ?_⟩)
  replace hl := hl.call ln_15 (fun c hc => by first | exact hc | exact False.elim hc | (dsimp only at hc ⊢; omega) | omega)
  have hf_20 : Fm (fun c => c = o ∨ (o + 19 ≤ c ∧ c < o + 61)) I0 I_16 := hf_7.call fr_19 (fun c hc => by first | exact hc | (dsimp only at hc ⊢; omega) | omega)
  have t_21 : (I_16 (o + 31) 12).toInt = (I_4 (o + 31) 12).toInt := by rw [fr_19 (o + 31) (by first | omega | (dsimp only; omega))]
  have t_22 : (I_16 (o + 31) 13).toInt = (I_4 (o + 31) 13).toInt := by rw [fr_19 (o + 31) (by first | omega | (dsimp only; omega))]
  have g_23 : (0 : Int) ≤ (I_16 o 16).toInt ∧ (I_16 o 16).toInt ≤ 240 := hR_18.at0 ra 16 (by decide)
  have g_24 : (0 : Int) ≤ (I_16 o 17).toInt ∧ (I_16 o 17).toInt ≤ 240 := hR_18.at0 ra 17 (by decide)
  have k_25 : LodOK I_16 (o + 44) := k_12.fr (fr_19 _ (by first | omega | (dsimp only; omega))) (fr_19 _ (by first | omega | (dsimp only; omega))) (fr_19 _ (by first | omega | (dsimp only; omega))) (by rw [fr_19 (o + 44) (by first | omega | (dsimp only; omega))])
  refine y_Papers_closeQueuel hok (wsRun_4 hw) (rsRun_4 ra) (by first | omega | (intro h; omega) | exact Or.inl rfl | exact Or.inr rfl) hR_18 (fun I_29 L_30 hR_31 fr_32 u_27 ln_28 => ⟨I_29, L_30, rfl, rfl, ?_⟩)
  replace hl := hl.call ln_28 (fun c hc => by first | exact hc | exact False.elim hc | (dsimp only at hc ⊢; omega) | omega)
  have hf_33 : Fm (fun c => c = o ∨ (o + 19 ≤ c ∧ c < o + 61)) I0 I_29 := hf_20.call fr_32 (fun c hc => by first | exact hc | (dsimp only at hc ⊢; omega) | omega)
  have g_34 : (0 : Int) ≤ (I_29 (o + 31) 12).toInt ∧ (I_29 (o + 31) 12).toInt ≤ 1440 := hR_31.at0 (rsRun_4 ra) 12 (by decide)
  have g_35 : (0 : Int) ≤ (I_29 (o + 31) 13).toInt ∧ (I_29 (o + 31) 13).toInt ≤ 1440 := hR_31.at0 (rsRun_4 ra) 13 (by decide)
  have t_36 : (I_29 o 16).toInt = (I_16 o 16).toInt := by rw [fr_32 o (by first | omega | (dsimp only; omega))]
  have t_37 : (I_29 o 17).toInt = (I_16 o 17).toInt := by rw [fr_32 o (by first | omega | (dsimp only; omega))]
  have k_38 : LodOK I_29 (o + 44) := k_25.fr (fr_32 _ (by first | omega | (dsimp only; omega))) (fr_32 _ (by first | omega | (dsimp only; omega))) (fr_32 _ (by first | omega | (dsimp only; omega))) (by rw [fr_32 (o + 44) (by first | omega | (dsimp only; omega))])
  have g_39 : (0 : Int) ≤ (I_29 (o + 31) 13).toInt ∧ (I_29 (o + 31) 13).toInt ≤ 1440 := hR_31.at0 (rsRun_4 ra) 13 (by decide)
  have l_40 : (6 : Int32).toInt = 6 := rfl
  refine fun L_41 e_42 => ?_
  replace hl := hl.set (by first | rfl | omega | (dsimp only; omega)) e_42
  have l_43 : (7 : Int32).toInt = 7 := rfl
  refine fun L_44 e_45 => ?_
  replace hl := hl.set (by first | rfl | omega | (dsimp only; omega)) e_45
  have g_46 : (0 : Int) ≤ (I_29 o 16).toInt ∧ (I_29 o 16).toInt ≤ 240 := hR_31.at0 ra 16 (by decide)
  have l_47 : (10 : Int32).toInt = 10 := rfl
  refine fun L_48 e_49 => ?_
  replace hl := hl.set (by first | rfl | omega | (dsimp only; omega)) e_49
  have l_50 : (1 : Int32).toInt = 1 := rfl
  refine fun I_51 e_52 => ?_
  have hR_53 : RI R I_51 := hR_31.up0 (k := 15) ra (by decide) (Or.inl rfl) e_52 (i_lo _) (i_hi _)
  have hf_54 : Fm (fun c => c = o ∨ (o + 19 ≤ c ∧ c < o + 61)) I0 I_51 := hf_33.set (by first | rfl | omega | (dsimp only; omega)) e_52
  have t_55 : (I_51 (o + 31) 12).toInt = (I_29 (o + 31) 12).toInt := by rw [← e_52, q_u_ne (by omega)]
  have t_56 : (I_51 (o + 31) 13).toInt = (I_29 (o + 31) 13).toInt := by rw [← e_52, q_u_ne (by omega)]
  have t_57 : (I_51 o 16).toInt = (I_29 o 16).toInt := by rw [← e_52, q_u_k (by decide)]
  have t_58 : (I_51 o 17).toInt = (I_29 o 17).toInt := by rw [← e_52, q_u_k (by decide)]
  have k_59 : LodOK I_51 (o + 44) := k_38.fr (by rw [← e_52]; exact q_u_ne (by omega)) (by rw [← e_52]; exact q_u_ne (by omega)) (by rw [← e_52]; exact q_u_ne (by omega)) (by rw [← e_52, q_u_ne (by omega)])
  exact (hp _ _ hR_53 hf_54 (by first | omega | (intro h; omega) | exact Or.inl rfl | exact Or.inr rfl) k_59 hl)
set_option maxHeartbeats 4000000 in
set_option maxRecDepth 20000 in
theorem yRun_play_37l {D : va_G} {cA : FieldType → ClassId} {b : Nat} {E : State → Prop} {R : qRg} {o n : Nat} {sh : Nat → qC} {Rf : Nat → Nat → Option Nat} {I0 : Nat → Nat → Int32} {L0 : Nat → Nat → Int64} {post : Option Value → qS → Prop} {x1 : Nat} {x2 : Nat} {x3 : Nat} {x4 : Nat} {uo_0 : Nat} {uo_1 : Nat} {p5 : Int32} {p6 : Int32} (hok : q_ok (qGG D cA b E)) (hw : WfRun (qGG D cA b E) n sh Rf o) (ra : RARun R o) (hw1 : WfLand (qGG D cA b E) n sh Rf x1) (ra1 : RALand R x1) (hw2 : WfTrade (qGG D cA b E) n sh Rf x2) (ra2 : RATrade R x2) (hw3 : WfReform (qGG D cA b E) n sh Rf x3) (ra3 : RAReform R x3) (hw4 : WfFacts (qGG D cA b E) n sh Rf x4) (ra4 : RAFacts R x4) (hwuo_0 : WfLand (qGG D cA b E) n sh Rf uo_0) (rauo_0 : RALand R uo_0) (hwuo_1 : WfTrade (qGG D cA b E) n sh Rf uo_1) (rauo_1 : RATrade R uo_1) (huo_0 : Rf o 0 = some uo_0) (huo_1 : Rf o 1 = some uo_1) (hEN : qEN E) (hs0 : x4 + 7 ≤ o) (hq0 : (0 : Int) ≤ p5.toInt ∧ p5.toInt ≤ 240) (hq1 : FacOK I0 x4) (hp : ∀ (I' : Nat → Nat → Int32) (L' : Nat → Nat → Int64), RI R I' → Fm (fun c => c = o ∨ (o + 19 ≤ c ∧ c < o + 66)) I0 I' → ((I' (o + 31) 13).toInt ≤ (I' (o + 31) 12).toInt) → (LodOK I' (o + 44)) → (FmL (fun c => c = ((o + 53) + 4) ∨ c = (o + 58) ∨ c = (o + 61) ∨ c = (o + 65) ∨ c = o) L0 L') → post none (n, sh, Rf, I', L')) : ∀ (k : Nat) {x5 : Int32} {x6 : Int32} {I : Nat → Nat → Int32} {L : Nat → Nat → Int64}, RI R I → Fm (fun c => c = o ∨ (o + 19 ≤ c ∧ c < o + 66)) I0 I → ((0 : Int) ≤ x5.toInt ∧ x5.toInt ≤ 240) → ((I (o + 31) 13).toInt ≤ (I (o + 31) 12).toInt) → (LodOK I (o + 44)) → (FmL (fun c => c = ((o + 53) + 4) ∨ c = (o + 58) ∨ c = (o + 61) ∨ c = (o + 65) ∨ c = o) L0 L) → (240 - (I o 17).toInt).toNat < k → Ev (qGG D cA b E) mRun_play 6 (0, 0) 37 [(0, .ref o), (1, .ref x1), (2, .ref x2), (3, .ref x3), (4, .ref x4), (5, .int x5), (6, .int x6)] [] (n, sh, Rf, I, L) post := by
  intro k
  induction k with
  | zero =>
    intro x5 x6 I L hR hf hi0 hi1 hi2 hl hm
    exact absurd hm (Nat.not_lt_zero _)
  | succ k ih =>
    intro x5 x6 I L hR hf hi0 hi1 hi2 hl hm
    have g_1 : (0 : Int) ≤ (I (o + 31) 12).toInt ∧ (I (o + 31) 12).toInt ≤ 1440 := hR.at0 (rsRun_4 ra) 12 (by decide)
    have g_2 : (0 : Int) ≤ (I (o + 31) 13).toInt ∧ (I (o + 31) 13).toInt ≤ 1440 := hR.at0 (rsRun_4 ra) 13 (by decide)
    have g_3 : (0 : Int) ≤ (I o 17).toInt ∧ (I o 17).toInt ≤ 240 := hR.at0 ra 17 (by decide)
    refine sRun_play_37 o n sh Rf I L post x1 x2 x3 x4 x5 x6 uo_0 hok hw hw1 hw2 hw3 hw4 huo_0 hwuo_0 ?_
    unfold fRun_play_37
    have g_4 : (0 : Int) ≤ (I o 17).toInt ∧ (I o 17).toInt ≤ 240 := hR.at0 ra 17 (by decide)
    refine ⟨fun c_5 => ?_, fun c_5 => ?_⟩
    · have d_6 := iLe c_5
      refine y_Run_finishl hok hw ra hwuo_0 rauo_0 hwuo_1 rauo_1 huo_0 huo_1 (by first | omega | (intro h; omega) | exact Or.inl rfl | exact Or.inr rfl) hi2 hR (fun I_11 L_12 hR_13 fr_14 u_8 u_9 ln_10 => ⟨I_11, L_12, rfl, rfl, ?_⟩)
      replace hl := hl.call ln_10 (fun c hc => by first | exact hc | exact False.elim hc | (dsimp only at hc ⊢; omega) | omega)
      have hf_15 : Fm (fun c => c = o ∨ (o + 19 ≤ c ∧ c < o + 66)) I0 I_11 := hf.call fr_14 (fun c hc => by first | exact hc | (dsimp only at hc ⊢; omega) | omega)
      have g_16 : (0 : Int) ≤ (I_11 (o + 31) 12).toInt ∧ (I_11 (o + 31) 12).toInt ≤ 1440 := hR_13.at0 (rsRun_4 ra) 12 (by decide)
      have g_17 : (0 : Int) ≤ (I_11 (o + 31) 13).toInt ∧ (I_11 (o + 31) 13).toInt ≤ 1440 := hR_13.at0 (rsRun_4 ra) 13 (by decide)
      have g_18 : (0 : Int) ≤ (I_11 o 17).toInt ∧ (I_11 o 17).toInt ≤ 240 := hR_13.at0 ra 17 (by decide)
      exact (hp _ _ hR_13 hf_15 (by first | omega | (intro h; omega) | exact Or.inl rfl | exact Or.inr rfl) u_9 hl)
    · have d_19 := iNle c_5
      have g_20 : (0 : Int) ≤ (I o 17).toInt ∧ (I o 17).toInt ≤ 240 := hR.at0 ra 17 (by decide)
      refine y_Papers_loseForgedl hok (wsRun_4 hw) (rsRun_4 ra) (by first | omega | (intro h; omega) | exact Or.inl rfl | exact Or.inr rfl) hR (fun I_24 L_25 hR_26 fr_27 u_22 ln_23 => ⟨I_24, L_25, rfl, rfl, ?_⟩)
      replace hl := hl.call ln_23 (fun c hc => by first | exact hc | exact False.elim hc | (dsimp only at hc ⊢; omega) | omega)
      have hf_28 : Fm (fun c => c = o ∨ (o + 19 ≤ c ∧ c < o + 66)) I0 I_24 := hf.call fr_27 (fun c hc => by first | exact hc | (dsimp only at hc ⊢; omega) | omega)
      have g_29 : (0 : Int) ≤ (I_24 (o + 31) 12).toInt ∧ (I_24 (o + 31) 12).toInt ≤ 1440 := hR_26.at0 (rsRun_4 ra) 12 (by decide)
      have g_30 : (0 : Int) ≤ (I_24 (o + 31) 13).toInt ∧ (I_24 (o + 31) 13).toInt ≤ 1440 := hR_26.at0 (rsRun_4 ra) 13 (by decide)
      have t_31 : (I_24 o 17).toInt = (I o 17).toInt := by rw [fr_27 o (by first | omega | (dsimp only; omega))]
      have k_32 : LodOK I_24 (o + 44) := hi2.fr (fr_27 _ (by first | omega | (dsimp only; omega))) (fr_27 _ (by first | omega | (dsimp only; omega))) (fr_27 _ (by first | omega | (dsimp only; omega))) (by rw [fr_27 (o + 44) (by first | omega | (dsimp only; omega))])
      refine y_Run_buryDeadl hok hw ra hwuo_1 rauo_1 hwuo_0 rauo_0 huo_1 huo_0 (by first | omega | (intro h; omega) | exact Or.inl rfl | exact Or.inr rfl) k_32 hR_26 (fun I_37 L_38 hR_39 fr_40 u_34 u_35 ln_36 => ⟨I_37, L_38, rfl, rfl, ?_⟩)
      replace hl := hl.call ln_36 (fun c hc => by first | exact hc | exact False.elim hc | (dsimp only at hc ⊢; omega) | omega)
      have hf_41 : Fm (fun c => c = o ∨ (o + 19 ≤ c ∧ c < o + 66)) I0 I_37 := hf_28.call fr_40 (fun c hc => by first | exact hc | (dsimp only at hc ⊢; omega) | omega)
      have g_42 : (0 : Int) ≤ (I_37 (o + 31) 12).toInt ∧ (I_37 (o + 31) 12).toInt ≤ 1440 := hR_39.at0 (rsRun_4 ra) 12 (by decide)
      have g_43 : (0 : Int) ≤ (I_37 (o + 31) 13).toInt ∧ (I_37 (o + 31) 13).toInt ≤ 1440 := hR_39.at0 (rsRun_4 ra) 13 (by decide)
      have t_44 : (I_37 o 17).toInt = (I_24 o 17).toInt := by rw [fr_40 o (by first | omega | (dsimp only; omega))]
      refine y_Run_makeSaltl hok hw ra hw4 ra4 hwuo_0 rauo_0 hwuo_1 rauo_1 huo_0 huo_1 hR_39 (fun I_47 L_48 hR_49 fr_50 ln_46 => ⟨I_47, L_48, rfl, rfl, ?_⟩)
      replace hl := hl.call ln_46 (fun c hc => by first | exact hc | exact False.elim hc | (dsimp only at hc ⊢; omega) | omega)
      have hf_51 : Fm (fun c => c = o ∨ (o + 19 ≤ c ∧ c < o + 66)) I0 I_47 := hf_41.call fr_50 (fun c hc => by first | exact hc | (dsimp only at hc ⊢; omega) | omega)
      have t_52 : (I_47 (o + 31) 12).toInt = (I_37 (o + 31) 12).toInt := by rw [fr_50 (o + 31) (by first | omega | (dsimp only; omega))]
      have t_53 : (I_47 (o + 31) 13).toInt = (I_37 (o + 31) 13).toInt := by rw [fr_50 (o + 31) (by first | omega | (dsimp only; omega))]
      have t_54 : (I_47 o 17).toInt = (I_37 o 17).toInt := by rw [fr_50 o (by first | omega | (dsimp only; omega))]
      have k_55 : LodOK I_47 (o + 44) := u_35.fr (fr_50 _ (by first | omega | (dsimp only; omega))) (fr_50 _ (by first | omega | (dsimp only; omega))) (fr_50 _ (by first | omega | (dsimp only; omega))) (by rw [fr_50 (o + 44) (by first | omega | (dsimp only; omega))])
      refine y_Run_tellMonthl hok hw ra hwuo_0 rauo_0 hwuo_1 rauo_1 huo_0 huo_1 hR_49 (fun I_59 L_60 hR_61 fr_62 u_57 ln_58 => ⟨I_59, L_60, rfl, rfl, ?_⟩)
      replace hl := hl.call ln_58 (fun c hc => by first | exact hc | exact False.elim hc | (dsimp only at hc ⊢; omega) | omega)
      have hf_63 : Fm (fun c => c = o ∨ (o + 19 ≤ c ∧ c < o + 66)) I0 I_59 := hf_51.call fr_62 (fun c hc => by first | exact hc | (dsimp only at hc ⊢; omega) | omega)
      have t_64 : (I_59 (o + 31) 12).toInt = (I_47 (o + 31) 12).toInt := by rw [fr_62 (o + 31) (by first | omega | (dsimp only; omega))]
      have t_65 : (I_59 (o + 31) 13).toInt = (I_47 (o + 31) 13).toInt := by rw [fr_62 (o + 31) (by first | omega | (dsimp only; omega))]
      have g_66 : (0 : Int) ≤ (I_59 o 17).toInt ∧ (I_59 o 17).toInt ≤ 240 := hR_61.at0 ra 17 (by decide)
      have k_67 : LodOK I_59 (o + 44) := k_55.fr (fr_62 _ (by first | omega | (dsimp only; omega))) (fr_62 _ (by first | omega | (dsimp only; omega))) (fr_62 _ (by first | omega | (dsimp only; omega))) (by rw [fr_62 (o + 44) (by first | omega | (dsimp only; omega))])
      refine y_Run_bringLoadsl hok hw ra hwuo_0 rauo_0 hwuo_1 rauo_1 huo_0 huo_1 (by first | omega | (intro h; omega) | exact Or.inl rfl | exact Or.inr rfl) k_67 hR_61 (fun I_72 L_73 hR_74 fr_75 u_69 u_70 ln_71 => ⟨I_72, L_73, rfl, rfl, ?_⟩)
      replace hl := hl.call ln_71 (fun c hc => by first | exact hc | exact False.elim hc | (dsimp only at hc ⊢; omega) | omega)
      have hf_76 : Fm (fun c => c = o ∨ (o + 19 ≤ c ∧ c < o + 66)) I0 I_72 := hf_63.call fr_75 (fun c hc => by first | exact hc | (dsimp only at hc ⊢; omega) | omega)
      have g_77 : (0 : Int) ≤ (I_72 (o + 31) 12).toInt ∧ (I_72 (o + 31) 12).toInt ≤ 1440 := hR_74.at0 (rsRun_4 ra) 12 (by decide)
      have g_78 : (0 : Int) ≤ (I_72 (o + 31) 13).toInt ∧ (I_72 (o + 31) 13).toInt ≤ 1440 := hR_74.at0 (rsRun_4 ra) 13 (by decide)
      have t_79 : (I_72 o 17).toInt = (I_59 o 17).toInt := by rw [fr_75 o (by first | omega | (dsimp only; omega))]
      refine y_Run_drawPapersl hok hw ra hwuo_0 rauo_0 hwuo_1 rauo_1 huo_0 huo_1 hEN (by first | omega | (intro h; omega) | exact Or.inl rfl | exact Or.inr rfl) u_70 hR_74 (fun I_84 L_85 hR_86 fr_87 u_81 u_82 ln_83 => ⟨I_84, L_85, rfl, rfl, ?_⟩)
      replace hl := hl.call ln_83 (fun c hc => by first | exact hc | exact False.elim hc | (dsimp only at hc ⊢; omega) | omega)
      have hf_88 : Fm (fun c => c = o ∨ (o + 19 ≤ c ∧ c < o + 66)) I0 I_84 := hf_76.call fr_87 (fun c hc => by first | exact hc | (dsimp only at hc ⊢; omega) | omega)
      have g_89 : (0 : Int) ≤ (I_84 (o + 31) 12).toInt ∧ (I_84 (o + 31) 12).toInt ≤ 1440 := hR_86.at0 (rsRun_4 ra) 12 (by decide)
      have g_90 : (0 : Int) ≤ (I_84 (o + 31) 13).toInt ∧ (I_84 (o + 31) 13).toInt ≤ 1440 := hR_86.at0 (rsRun_4 ra) 13 (by decide)
      have t_91 : (I_84 o 17).toInt = (I_72 o 17).toInt := by rw [fr_87 o (by first | omega | (dsimp only; omega))]
      have l_92 : (0 : Int32).toInt = 0 := rfl
      refine y_Realm_eatl hok (wsRun_3 hw) (rsRun_3 ra) hwuo_0 rauo_0 hR_86 (fun r_93 I_95 L_96 hR_97 fr_98 ln_94 => ⟨r_93, I_95, L_96, rfl, rfl, ?_⟩)
      replace hl := hl.call ln_94 (fun c hc => by first | exact hc | exact False.elim hc | (dsimp only at hc ⊢; omega) | omega)
      have hf_99 : Fm (fun c => c = o ∨ (o + 19 ≤ c ∧ c < o + 66)) I0 I_95 := hf_88.call fr_98 (fun c hc => by first | exact hc | (dsimp only at hc ⊢; omega) | omega)
      have t_100 : (I_95 (o + 31) 12).toInt = (I_84 (o + 31) 12).toInt := by rw [fr_98 (o + 31) (by first | omega | (dsimp only; omega))]
      have t_101 : (I_95 (o + 31) 13).toInt = (I_84 (o + 31) 13).toInt := by rw [fr_98 (o + 31) (by first | omega | (dsimp only; omega))]
      have t_102 : (I_95 o 17).toInt = (I_84 o 17).toInt := by rw [fr_98 o (by first | omega | (dsimp only; omega))]
      have k_103 : LodOK I_95 (o + 44) := u_82.fr (fr_98 _ (by first | omega | (dsimp only; omega))) (fr_98 _ (by first | omega | (dsimp only; omega))) (fr_98 _ (by first | omega | (dsimp only; omega))) (by rw [fr_98 (o + 44) (by first | omega | (dsimp only; omega))])
      refine fun L_104 e_105 => ?_
      replace hl := hl.set (by first | rfl | omega | (dsimp only; omega)) e_105
      refine y_Realm_usel hok (wsRun_3 hw) (rsRun_3 ra) hwuo_0 rauo_0 hR_97 (fun I_108 L_109 hR_110 fr_111 ln_107 => ⟨I_108, L_109, rfl, rfl, ?_⟩)
      replace hl := hl.call ln_107 (fun c hc => by first | exact hc | exact False.elim hc | (dsimp only at hc ⊢; omega) | omega)
      have hf_112 : Fm (fun c => c = o ∨ (o + 19 ≤ c ∧ c < o + 66)) I0 I_108 := hf_99.call fr_111 (fun c hc => by first | exact hc | (dsimp only at hc ⊢; omega) | omega)
      have t_113 : (I_108 (o + 31) 12).toInt = (I_95 (o + 31) 12).toInt := by rw [fr_111 (o + 31) (by first | omega | (dsimp only; omega))]
      have t_114 : (I_108 (o + 31) 13).toInt = (I_95 (o + 31) 13).toInt := by rw [fr_111 (o + 31) (by first | omega | (dsimp only; omega))]
      have t_115 : (I_108 o 17).toInt = (I_95 o 17).toInt := by rw [fr_111 o (by first | omega | (dsimp only; omega))]
      have k_116 : LodOK I_108 (o + 44) := k_103.fr (fr_111 _ (by first | omega | (dsimp only; omega))) (fr_111 _ (by first | omega | (dsimp only; omega))) (fr_111 _ (by first | omega | (dsimp only; omega))) (by rw [fr_111 (o + 44) (by first | omega | (dsimp only; omega))])
      refine y_Run_takeWaysl hok hw ra hwuo_1 rauo_1 hwuo_0 rauo_0 huo_1 huo_0 hEN (by first | omega | (intro h; omega) | exact Or.inl rfl | exact Or.inr rfl) (by first | omega | (intro h; omega) | exact Or.inl rfl | exact Or.inr rfl) k_116 hR_110 (fun I_122 L_123 hR_124 fr_125 u_118 u_119 u_120 ln_121 => ⟨I_122, L_123, rfl, rfl, ?_⟩)
      replace hl := hl.call ln_121 (fun c hc => by first | exact hc | exact False.elim hc | (dsimp only at hc ⊢; omega) | omega)
      have hf_126 : Fm (fun c => c = o ∨ (o + 19 ≤ c ∧ c < o + 66)) I0 I_122 := hf_112.call fr_125 (fun c hc => by first | exact hc | (dsimp only at hc ⊢; omega) | omega)
      have g_127 : (0 : Int) ≤ (I_122 (o + 31) 12).toInt ∧ (I_122 (o + 31) 12).toInt ≤ 1440 := hR_124.at0 (rsRun_4 ra) 12 (by decide)
      have g_128 : (0 : Int) ≤ (I_122 (o + 31) 13).toInt ∧ (I_122 (o + 31) 13).toInt ≤ 1440 := hR_124.at0 (rsRun_4 ra) 13 (by decide)
      have g_129 : (0 : Int) ≤ (I_122 o 17).toInt ∧ (I_122 o 17).toInt ≤ 240 := hR_124.at0 ra 17 (by decide)
      refine y_Run_smuggleAlll hok hw ra hwuo_0 rauo_0 hwuo_1 rauo_1 huo_0 huo_1 hR_124 (fun I_132 L_133 hR_134 fr_135 ln_131 => ⟨I_132, L_133, rfl, rfl, ?_⟩)
      replace hl := hl.call ln_131 (fun c hc => by first | exact hc | exact False.elim hc | (dsimp only at hc ⊢; omega) | omega)
      have hf_136 : Fm (fun c => c = o ∨ (o + 19 ≤ c ∧ c < o + 66)) I0 I_132 := hf_126.call fr_135 (fun c hc => by first | exact hc | (dsimp only at hc ⊢; omega) | omega)
      have t_137 : (I_132 (o + 31) 12).toInt = (I_122 (o + 31) 12).toInt := by rw [fr_135 (o + 31) (by first | omega | (dsimp only; omega))]
      have t_138 : (I_132 (o + 31) 13).toInt = (I_122 (o + 31) 13).toInt := by rw [fr_135 (o + 31) (by first | omega | (dsimp only; omega))]
      have t_139 : (I_132 o 17).toInt = (I_122 o 17).toInt := by rw [fr_135 o (by first | omega | (dsimp only; omega))]
      have k_140 : LodOK I_132 (o + 44) := u_120.fr (fr_135 _ (by first | omega | (dsimp only; omega))) (fr_135 _ (by first | omega | (dsimp only; omega))) (fr_135 _ (by first | omega | (dsimp only; omega))) (by rw [fr_135 (o + 44) (by first | omega | (dsimp only; omega))])
      have g_141 : (0 : Int) ≤ (I_132 o 17).toInt ∧ (I_132 o 17).toInt ≤ 240 := hR_134.at0 ra 17 (by decide)
      refine y_Records_keepRealml hok (wsRun_6 hw) (rsRun_6 ra) (wsRun_3 hw) (rsRun_3 ra) hwuo_0 rauo_0 (wsRun_4 hw) (rsRun_4 ra) (by first | omega | (intro h; omega) | exact Or.inl rfl | exact Or.inr rfl) hR_134 (fun I_144 L_145 hR_146 fr_147 ln_143 => ⟨I_144, L_145, rfl, rfl, ?_⟩)
      replace hl := hl.call ln_143 (fun c hc => by first | exact hc | exact False.elim hc | (dsimp only at hc ⊢; omega) | omega)
      have hf_148 : Fm (fun c => c = o ∨ (o + 19 ≤ c ∧ c < o + 66)) I0 I_144 := hf_136.call fr_147 (fun c hc => by first | exact hc | (dsimp only at hc ⊢; omega) | omega)
      have t_149 : (I_144 (o + 31) 12).toInt = (I_132 (o + 31) 12).toInt := by rw [fr_147 (o + 31) (by first | omega | (dsimp only; omega))]
      have t_150 : (I_144 (o + 31) 13).toInt = (I_132 (o + 31) 13).toInt := by rw [fr_147 (o + 31) (by first | omega | (dsimp only; omega))]
      have t_151 : (I_144 o 17).toInt = (I_132 o 17).toInt := by rw [fr_147 o (by first | omega | (dsimp only; omega))]
      have k_152 : LodOK I_144 (o + 44) := k_140.fr (fr_147 _ (by first | omega | (dsimp only; omega))) (fr_147 _ (by first | omega | (dsimp only; omega))) (fr_147 _ (by first | omega | (dsimp only; omega))) (by rw [fr_147 (o + 44) (by first | omega | (dsimp only; omega))])
      have g_153 : (0 : Int) ≤ (I_144 o 17).toInt ∧ (I_144 o 17).toInt ≤ 240 := hR_146.at0 ra 17 (by decide)
      have l_154 : (1 : Int32).toInt = 1 := rfl
      have a_155 : ((I_144 o 17) + 1).toInt = (I_144 o 17).toInt + (1 : Int32).toInt := tAdd (by omega) (by omega)
      refine fun I_156 e_157 => ?_
      have hR_158 : RI R I_156 := hR_146.up0 (k := 17) ra (by decide) (Or.inl rfl) e_157 (show (0 : Int) ≤ ((I_144 o 17) + 1).toInt by omega) (show ((I_144 o 17) + 1).toInt ≤ (240 : Int) by omega)
      have hf_159 : Fm (fun c => c = o ∨ (o + 19 ≤ c ∧ c < o + 66)) I0 I_156 := hf_148.set (by first | rfl | omega | (dsimp only; omega)) e_157
      have t_160 : (I_156 (o + 31) 12).toInt = (I_144 (o + 31) 12).toInt := by rw [← e_157, q_u_ne (by omega)]
      have t_161 : (I_156 (o + 31) 13).toInt = (I_144 (o + 31) 13).toInt := by rw [← e_157, q_u_ne (by omega)]
      have t_162 : (I_156 o 17).toInt = ((I_144 o 17) + 1).toInt := by rw [← e_157, q_u_at]
      have k_163 : LodOK I_156 (o + 44) := k_152.fr (by rw [← e_157]; exact q_u_ne (by omega)) (by rw [← e_157]; exact q_u_ne (by omega)) (by rw [← e_157]; exact q_u_ne (by omega)) (by rw [← e_157, q_u_ne (by omega)])
      exact ih hR_158 hf_159 (by first | omega | (intro h; omega) | exact Or.inl rfl | exact Or.inr rfl) (by first | omega | (intro h; omega) | exact Or.inl rfl | exact Or.inr rfl) k_163 hl (by omega)
set_option maxHeartbeats 4000000 in
set_option maxRecDepth 20000 in
theorem y_Run_play_at10l {D : va_G} {cA : FieldType → ClassId} {b : Nat} {E : State → Prop} {R : qRg} {o n : Nat} {sh : Nat → qC} {Rf : Nat → Nat → Option Nat} {I0 : Nat → Nat → Int32} {L0 : Nat → Nat → Int64} {post : Option Value → qS → Prop} {x1 : Nat} {x2 : Nat} {x3 : Nat} {x4 : Nat} {uo_0 : Nat} {uo_1 : Nat} {p5 : Int32} {p6 : Int32} (hok : q_ok (qGG D cA b E)) (hw : WfRun (qGG D cA b E) n sh Rf o) (ra : RARun R o) (hw1 : WfLand (qGG D cA b E) n sh Rf x1) (ra1 : RALand R x1) (hw2 : WfTrade (qGG D cA b E) n sh Rf x2) (ra2 : RATrade R x2) (hw3 : WfReform (qGG D cA b E) n sh Rf x3) (ra3 : RAReform R x3) (hw4 : WfFacts (qGG D cA b E) n sh Rf x4) (ra4 : RAFacts R x4) (hwuo_0 : WfLand (qGG D cA b E) n sh Rf uo_0) (rauo_0 : RALand R uo_0) (hwuo_1 : WfTrade (qGG D cA b E) n sh Rf uo_1) (rauo_1 : RATrade R uo_1) (huo_0 : Rf o 0 = some uo_0) (huo_1 : Rf o 1 = some uo_1) (hEN : qEN E) (hs0 : x4 + 7 ≤ o) (hq0 : (0 : Int) ≤ p5.toInt ∧ p5.toInt ≤ 240) (hq1 : FacOK I0 x4) (hR : RI R I0) (hp : ∀ (I' : Nat → Nat → Int32) (L' : Nat → Nat → Int64), RI R I' → Fm (fun c => c = o ∨ (o + 19 ≤ c ∧ c < o + 66)) I0 I' → ((I' (o + 31) 13).toInt ≤ (I' (o + 31) 12).toInt) → (LodOK I' (o + 44)) → (FmL (fun c => c = ((o + 53) + 4) ∨ c = (o + 58) ∨ c = (o + 61) ∨ c = (o + 65) ∨ c = o) L0 L') → post none (n, sh, Rf, I', L')) : Ev (qGG D cA b E) mRun_play 6 (0, 0) 10 [(0, .ref o), (1, .ref x1), (2, .ref x2), (3, .ref x3), (4, .ref x4), (5, .int p5), (6, .int p6)] [] (n, sh, Rf, I0, L0) post := by
  have hf : Fm (fun c => c = o ∨ (o + 19 ≤ c ∧ c < o + 66)) I0 I0 := Fm.rf
  have g_164 : (0 : Int) ≤ (I0 (o + 31) 12).toInt ∧ (I0 (o + 31) 12).toInt ≤ 1440 := hR.at0 (rsRun_4 ra) 12 (by decide)
  have g_165 : (0 : Int) ≤ (I0 (o + 31) 13).toInt ∧ (I0 (o + 31) 13).toInt ≤ 1440 := hR.at0 (rsRun_4 ra) 13 (by decide)
  have g_166 : (0 : Int) ≤ (I0 o 17).toInt ∧ (I0 o 17).toInt ≤ 240 := hR.at0 ra 17 (by decide)
  refine sRun_play_10 o n sh Rf I0 L0 post x1 x2 x3 x4 p5 p6 uo_0 hok hw hw1 hw2 hw3 hw4 huo_0 hwuo_0 ?_
  unfold fRun_play_10
  have hl : FmL (fun c => c = ((o + 53) + 4) ∨ c = (o + 58) ∨ c = (o + 61) ∨ c = (o + 65) ∨ c = o) L0 L0 := FmL.rf
  refine fun I_167 e_168 => ?_
  have hR_169 : RI R I_167 := hR.up0 (k := 16) ra (by decide) (Or.inl rfl) e_168 (show (0 : Int) ≤ p5.toInt by omega) (show p5.toInt ≤ (240 : Int) by omega)
  have hf_170 : Fm (fun c => c = o ∨ (o + 19 ≤ c ∧ c < o + 66)) I0 I_167 := hf.set (by first | rfl | omega | (dsimp only; omega)) e_168
  have t_171 : (I_167 (o + 31) 12).toInt = (I0 (o + 31) 12).toInt := by rw [← e_168, q_u_ne (by omega)]
  have t_172 : (I_167 (o + 31) 13).toInt = (I0 (o + 31) 13).toInt := by rw [← e_168, q_u_ne (by omega)]
  have t_173 : (I_167 o 17).toInt = (I0 o 17).toInt := by rw [← e_168, q_u_k (by decide)]
  have t_174 : (I_167 o 16).toInt = p5.toInt := by rw [← e_168, q_u_at]
  have k_175 : FacOK I_167 x4 := hq1.fr (by rw [← e_168]; exact q_u_ne (by omega)) (by rw [← e_168]; exact q_u_ne (by omega)) (by rw [← e_168]; exact q_u_ne (by omega)) (by rw [← e_168, q_u_ne (by omega)])
  refine y_Reform_copyFroml hok (wsRun_2 hw) (rsRun_2 ra) hw3 ra3 hR_169 (fun I_178 L_179 hR_180 fr_181 ln_177 => ⟨I_178, L_179, rfl, rfl, ?_⟩)
  replace hl := hl.call ln_177 (fun c hc => by first | exact hc | exact False.elim hc | (dsimp only at hc ⊢; omega) | omega)
  have hf_182 : Fm (fun c => c = o ∨ (o + 19 ≤ c ∧ c < o + 66)) I0 I_178 := hf_170.call fr_181 (fun c hc => by first | exact hc | (dsimp only at hc ⊢; omega) | omega)
  have t_183 : (I_178 (o + 31) 12).toInt = (I_167 (o + 31) 12).toInt := by rw [fr_181 (o + 31) (by first | omega | (dsimp only; omega))]
  have t_184 : (I_178 (o + 31) 13).toInt = (I_167 (o + 31) 13).toInt := by rw [fr_181 (o + 31) (by first | omega | (dsimp only; omega))]
  have t_185 : (I_178 o 17).toInt = (I_167 o 17).toInt := by rw [fr_181 o (by first | omega | (dsimp only; omega))]
  have t_186 : (I_178 o 16).toInt = (I_167 o 16).toInt := by rw [fr_181 o (by first | omega | (dsimp only; omega))]
  have k_187 : FacOK I_178 x4 := k_175.fr (fr_181 _ (by first | omega | (dsimp only; omega))) (fr_181 _ (by first | omega | (dsimp only; omega))) (fr_181 _ (by first | omega | (dsimp only; omega))) (by rw [fr_181 x4 (by first | omega | (dsimp only; omega))])
  refine y_Run_beginl hok hw ra hw4 ra4 hwuo_0 rauo_0 hwuo_1 rauo_1 huo_0 huo_1 (by first | omega | (intro h; omega) | exact Or.inl rfl | exact Or.inr rfl) k_187 hR_180 (fun I_192 L_193 hR_194 fr_195 u_189 u_190 ln_191 => ⟨I_192, L_193, rfl, rfl, ?_⟩)
  replace hl := hl.call ln_191 (fun c hc => by first | exact hc | exact False.elim hc | (dsimp only at hc ⊢; omega) | omega)
  have hf_196 : Fm (fun c => c = o ∨ (o + 19 ≤ c ∧ c < o + 66)) I0 I_192 := hf_182.call fr_195 (fun c hc => by first | exact hc | (dsimp only at hc ⊢; omega) | omega)
  have g_197 : (0 : Int) ≤ (I_192 (o + 31) 12).toInt ∧ (I_192 (o + 31) 12).toInt ≤ 1440 := hR_194.at0 (rsRun_4 ra) 12 (by decide)
  have g_198 : (0 : Int) ≤ (I_192 (o + 31) 13).toInt ∧ (I_192 (o + 31) 13).toInt ≤ 1440 := hR_194.at0 (rsRun_4 ra) 13 (by decide)
  have t_199 : (I_192 o 17).toInt = (I_178 o 17).toInt := by rw [fr_195 o (by first | omega | (dsimp only; omega))]
  have t_200 : (I_192 o 16).toInt = (I_178 o 16).toInt := by rw [fr_195 o (by first | omega | (dsimp only; omega))]
  have k_201 : FacOK I_192 x4 := k_187.fr (fr_195 _ (by first | omega | (dsimp only; omega))) (fr_195 _ (by first | omega | (dsimp only; omega))) (fr_195 _ (by first | omega | (dsimp only; omega))) (by rw [fr_195 x4 (by first | omega | (dsimp only; omega))])
  have l_202 : (0 : Int32).toInt = 0 := rfl
  refine fun I_203 e_204 => ?_
  have hR_205 : RI R I_203 := hR_194.up0 (k := 17) ra (by decide) (Or.inl rfl) e_204 (show (0 : Int) ≤ (0 : Int32).toInt by omega) (show (0 : Int32).toInt ≤ (240 : Int) by omega)
  have hf_206 : Fm (fun c => c = o ∨ (o + 19 ≤ c ∧ c < o + 66)) I0 I_203 := hf_196.set (by first | rfl | omega | (dsimp only; omega)) e_204
  have t_207 : (I_203 (o + 31) 12).toInt = (I_192 (o + 31) 12).toInt := by rw [← e_204, q_u_ne (by omega)]
  have t_208 : (I_203 (o + 31) 13).toInt = (I_192 (o + 31) 13).toInt := by rw [← e_204, q_u_ne (by omega)]
  have t_209 : (I_203 o 17).toInt = (0 : Int32).toInt := by rw [← e_204, q_u_at]
  have t_210 : (I_203 o 16).toInt = (I_192 o 16).toInt := by rw [← e_204, q_u_k (by decide)]
  have k_211 : FacOK I_203 x4 := k_201.fr (by rw [← e_204]; exact q_u_ne (by omega)) (by rw [← e_204]; exact q_u_ne (by omega)) (by rw [← e_204]; exact q_u_ne (by omega)) (by rw [← e_204, q_u_ne (by omega)])
  have k_212 : LodOK I_203 (o + 44) := u_190.fr (by rw [← e_204]; exact q_u_ne (by omega)) (by rw [← e_204]; exact q_u_ne (by omega)) (by rw [← e_204]; exact q_u_ne (by omega)) (by rw [← e_204, q_u_ne (by omega)])
  exact yRun_play_37l (I0 := I0) (L0 := L0) (p5 := p5) (p6 := p6) hok hw ra hw1 ra1 hw2 ra2 hw3 ra3 hw4 ra4 hwuo_0 rauo_0 hwuo_1 rauo_1 huo_0 huo_1 hEN hs0 hq0 hq1 hp  _ hR_205 hf_206 (by first | omega | (intro h; omega) | exact Or.inl rfl | exact Or.inr rfl) (by first | omega | (intro h; omega) | exact Or.inl rfl | exact Or.inr rfl) k_212 hl (Nat.lt_succ_self _)
