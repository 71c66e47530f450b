/-! Safety of Run, its MONTHS: by program (spec.py). -/
set_option maxHeartbeats 4000000 in
set_option maxRecDepth 20000 in
theorem y_Run_bringGrain {D : va_G} {cA : FieldType → ClassId} {b : Nat} {E : State → Prop} {R : qRg} {o n : Nat} {sh : Nat → qC} {Rf : Nat → Nat → Option Nat} {I0 : Nat → Nat → Int32} {L0 : Nat → Nat → Int64} {post : Option Value → qS → Prop} {uo_0 : Nat} {uo_1 : Nat} {p1 : Int32} (hok : q_ok (qGG D cA b E)) (hw : WfRun (qGG D cA b E) n sh Rf o) (ra : RARun R o) (hwuo_0 : WfLand (qGG D cA b E) n sh Rf uo_0) (rauo_0 : RALand R uo_0) (hwuo_1 : WfTrade (qGG D cA b E) n sh Rf uo_1) (rauo_1 : RATrade R uo_1) (huo_0 : Rf o 0 = some uo_0) (huo_1 : Rf o 1 = some uo_1) (hq0 : (0 : Int) ≤ p1.toInt ∧ p1.toInt ≤ 2879) (hq1 : (I0 (o + 31) 13).toInt ≤ (I0 (o + 31) 12).toInt) (hq2 : p1.toInt < (I0 (o + 44) 9).toInt) (hq3 : (I0 (o + 44 + 1) p1.toNatClampNeg).toInt = 0) (hq4 : LodOK I0 (o + 44)) (hR : RI R I0) (hp : ∀ (I' : Nat → Nat → Int32) (L' : Nat → Nat → Int64), RI R I' → Fm (fun c => (o + 24 ≤ c ∧ c < o + 44)) I0 I' → ((I' (o + 31) 13).toInt ≤ (I' (o + 31) 12).toInt) → (LodOK I' (o + 44)) → post none (n, sh, Rf, I', L')) : Ev (qGG D cA b E) mRun_bringGrain 1 (0, 0) 0 (lv_args 0 [.ref o, .int p1]) [] (n, sh, Rf, I0, L0) post := by
  have hf : Fm (fun c => (o + 24 ≤ c ∧ c < o + 44)) I0 I0 := Fm.rf
  have g_1 : (0 : Int) ≤ (I0 (o + 31) 12).toInt ∧ (I0 (o + 31) 12).toInt ≤ 1440 := hR.at0 (rsRun_4 ra) 12 (by decide)
  have g_2 : (0 : Int) ≤ (I0 (o + 31) 13).toInt ∧ (I0 (o + 31) 13).toInt ≤ 1440 := hR.at0 (rsRun_4 ra) 13 (by decide)
  refine sRun_bringGrain_0 o n sh Rf I0 L0 post p1 hok hw ?_
  unfold fRun_bringGrain_0
  have cl := tCl (x := p1) (by omega)
  have lo := (hq4 p1.toNatClampNeg (by omega)).1 hq3
  refine ⟨tIn (by omega) (by omega), ?_⟩
  refine ⟨tIn (by omega) (by omega), ?_⟩
  refine ⟨tIn (by omega) (by omega), ?_⟩
  refine ⟨tIn (by omega) (by omega), fun I_3 e_4 => ?_⟩
  have hR_5 : RI R I_3 := hR.up (rsRun_3 ra) 1 (by decide) (Or.inl rfl) e_4 (i_lo _) (i_hi _)
  have hf_6 : Fm (fun c => (o + 24 ≤ c ∧ c < o + 44)) I0 I_3 := hf.set (by first | rfl | omega | (dsimp only; omega)) e_4
  have t_7 : (I_3 (o + 31) 12).toInt = (I0 (o + 31) 12).toInt := by rw [← e_4, q_u_ne (by omega)]
  have t_8 : (I_3 (o + 31) 13).toInt = (I0 (o + 31) 13).toInt := by rw [← e_4, q_u_ne (by omega)]
  have k_9 : LodOK I_3 (o + 44) := hq4.fr (by rw [← e_4]; exact q_u_ne (by omega)) (by rw [← e_4]; exact q_u_ne (by omega)) (by rw [← e_4]; exact q_u_ne (by omega)) (by rw [← e_4, q_u_ne (by omega)])
  have w_10 : I_3 ((o + 44) + 7) = I0 ((o + 44) + 7) := by rw [← e_4, q_u_ne (by omega)]
  refine ⟨tIn (by omega) (by omega), ?_⟩
  have g_11 : (-1 : Int) ≤ (I_3 ((o + 44) + 2) (p1 : Int32).toNatClampNeg).toInt ∧ (I_3 ((o + 44) + 2) (p1 : Int32).toNatClampNeg).toInt ≤ 5 := hR_5.at (rsRun_5 ra) 2 _ (by decide)
  have l_12 : (-1 : Int32).toInt = -1 := rfl
  refine ⟨fun c_13 => ?_, fun c_13 => ?_⟩
  · have d_14 := iEq c_13
    exact (hp _ _ hR_5 hf_6 (by first | omega | (intro h; omega) | exact Or.inl rfl | exact Or.inr rfl) k_9)
  · have d_15 := iNe c_13
    refine ⟨tIn (by omega) (by omega), ?_⟩
    have l_16 : (0 : Int32).toInt = 0 := rfl
    refine ⟨fun c_17 => ?_, fun c_17 => ?_⟩
    · have d_18 := iLe c_17
      exact (hp _ _ hR_5 hf_6 (by first | omega | (intro h; omega) | exact Or.inl rfl | exact Or.inr rfl) k_9)
    · have d_19 := iNle c_17
      refine ⟨tIn (by omega) (by omega), ?_⟩
      have g_20 : (-1 : Int) ≤ (I_3 ((o + 44) + 2) (p1 : Int32).toNatClampNeg).toInt ∧ (I_3 ((o + 44) + 2) (p1 : Int32).toNatClampNeg).toInt ≤ 5 := hR_5.at (rsRun_5 ra) 2 _ (by decide)
      refine ⟨tIn (by omega) (by omega), ?_⟩
      refine ⟨tIn (by omega) (by omega), ?_⟩
      have g_21 : (0 : Int) ≤ (I_3 o 17).toInt ∧ (I_3 o 17).toInt ≤ 240 := hR_5.at0 ra 17 (by decide)
      refine ⟨tIn (by omega) (by omega), ?_⟩
      have lo2 : 0 ≤ (I_3 (o + 44 + 7) p1.toNatClampNeg).toInt ∧ (I_3 (o + 44 + 7) p1.toNatClampNeg).toInt ≤ 2 := by rw [w_10]; exact lo.2.2
      refine y_Papers_give hok (wsRun_4 hw) (rsRun_4 ra) (by first | omega | (intro h; omega) | exact Or.inl rfl | exact Or.inr rfl) (by first | omega | (intro h; omega) | exact Or.inl rfl | exact Or.inr rfl) (by first | omega | (intro h; omega) | exact Or.inl rfl | exact Or.inr rfl) hR_5 (fun I_24 L_25 hR_26 fr_27 u_23 => ⟨I_24, L_25, rfl, rfl, ?_⟩)
      have hf_28 : Fm (fun c => (o + 24 ≤ c ∧ c < o + 44)) I0 I_24 := hf_6.call fr_27 (fun c hc => by first | exact hc | (dsimp only at hc ⊢; omega) | omega)
      have g_29 : (0 : Int) ≤ (I_24 (o + 31) 12).toInt ∧ (I_24 (o + 31) 12).toInt ≤ 1440 := hR_26.at0 (rsRun_4 ra) 12 (by decide)
      have g_30 : (0 : Int) ≤ (I_24 (o + 31) 13).toInt ∧ (I_24 (o + 31) 13).toInt ≤ 1440 := hR_26.at0 (rsRun_4 ra) 13 (by decide)
      have t_31 : (I_24 o 17).toInt = (I_3 o 17).toInt := by rw [fr_27 o (by first | omega | (dsimp only; omega))]
      have k_32 : LodOK I_24 (o + 44) := k_9.fr (fr_27 _ (by first | omega | (dsimp only; omega))) (fr_27 _ (by first | omega | (dsimp only; omega))) (fr_27 _ (by first | omega | (dsimp only; omega))) (by rw [fr_27 (o + 44) (by first | omega | (dsimp only; omega))])
      exact (hp _ _ hR_26 hf_28 (by first | omega | (intro h; omega) | exact Or.inl rfl | exact Or.inr rfl) k_32)
set_option maxHeartbeats 4000000 in
set_option maxRecDepth 20000 in
theorem y_Run_sellSalt {D : va_G} {cA : FieldType → ClassId} {b : Nat} {E : State → Prop} {R : qRg} {o n : Nat} {sh : Nat → qC} {Rf : Nat → Nat → Option Nat} {I0 : Nat → Nat → Int32} {L0 : Nat → Nat → Int64} {post : Option Value → qS → Prop} {uo_0 : Nat} {uo_1 : Nat} {p1 : Int32} (hok : q_ok (qGG D cA b E)) (hw : WfRun (qGG D cA b E) n sh Rf o) (ra : RARun R o) (hwuo_0 : WfLand (qGG D cA b E) n sh Rf uo_0) (rauo_0 : RALand R uo_0) (hwuo_1 : WfTrade (qGG D cA b E) n sh Rf uo_1) (rauo_1 : RATrade R uo_1) (huo_0 : Rf o 0 = some uo_0) (huo_1 : Rf o 1 = some uo_1) (hq0 : (0 : Int) ≤ p1.toInt ∧ p1.toInt ≤ 2879) (hq1 : p1.toInt < (I0 (o + 44) 9).toInt) (hq2 : (I0 (o + 44 + 1) p1.toNatClampNeg).toInt ≠ 0) (hq3 : LodOK I0 (o + 44)) (hR : RI R I0) (hp : ∀ (I' : Nat → Nat → Int32) (L' : Nat → Nat → Int64), RI R I' → Fm (fun c => (o + 24 ≤ c ∧ c < o + 31)) I0 I' → (LodOK I' (o + 44)) → post none (n, sh, Rf, I', L')) : Ev (qGG D cA b E) mRun_sellSalt 2 (0, 0) 0 (lv_args 0 [.ref o, .int p1]) [] (n, sh, Rf, I0, L0) post := by
  have hf : Fm (fun c => (o + 24 ≤ c ∧ c < o + 31)) I0 I0 := Fm.rf
  refine sRun_sellSalt_0 o n sh Rf I0 L0 post p1 uo_0 hok hw huo_0 hwuo_0 ?_
  unfold fRun_sellSalt_0
  have cl := tCl (x := p1) (by omega)
  have lo := (hq3 p1.toNatClampNeg (by omega)).2 hq2
  refine ⟨tIn (by omega) (by omega), ?_⟩
  refine ⟨tIn (by omega) (by omega), ?_⟩
  refine y_Realm_priceIn hok (wsRun_3 hw) (rsRun_3 ra) hwuo_0 rauo_0 (by first | omega | (intro h; omega) | exact Or.inl rfl | exact Or.inr rfl) hR (fun r_1  => ⟨r_1, I0, L0, rfl, rfl, ?_⟩)
  have l_2 : (4 : Int32).toInt = 4 := rfl
  refine fun y_3 e_4 => ?_
  have l_5 : (0 : Int32).toInt = 0 := rfl
  have m_6 := tMax e_4
  refine ⟨tIn (by omega) (by omega), ?_⟩
  have g_7 : (-1 : Int) ≤ (I0 ((o + 44) + 2) (p1 : Int32).toNatClampNeg).toInt ∧ (I0 ((o + 44) + 2) (p1 : Int32).toNatClampNeg).toInt ≤ 5 := hR.at (rsRun_5 ra) 2 _ (by decide)
  refine y_Run_payTo hok hw ra (by first | omega | (intro h; omega) | exact Or.inl rfl | exact Or.inr rfl) hR (fun L_9  => ⟨I0, L_9, rfl, rfl, ?_⟩)
  have l_10 : (2 : Int32).toInt = 2 := rfl
  refine fun L_11 e_12 => ?_
  have l_13 : (1 : Int32).toInt = 1 := rfl
  refine fun L_14 e_15 => ?_
  refine ⟨tIn (by omega) (by omega), ?_⟩
  refine ⟨tIn (by omega) (by omega), ?_⟩
  refine ⟨tIn (by omega) (by omega), fun I_16 e_17 => ?_⟩
  have hR_18 : RI R I_16 := hR.up (rsRun_3 ra) 4 (by decide) (Or.inl rfl) e_17 (i_lo _) (i_hi _)
  have hf_19 : Fm (fun c => (o + 24 ≤ c ∧ c < o + 31)) I0 I_16 := hf.set (by first | rfl | omega | (dsimp only; omega)) e_17
  have k_20 : LodOK I_16 (o + 44) := hq3.fr (by rw [← e_17]; exact q_u_ne (by omega)) (by rw [← e_17]; exact q_u_ne (by omega)) (by rw [← e_17]; exact q_u_ne (by omega)) (by rw [← e_17, q_u_ne (by omega)])
  exact (hp _ _ hR_18 hf_19  k_20)
set_option maxHeartbeats 4000000 in
set_option maxRecDepth 20000 in
theorem yRun_bringLoads_8 {D : va_G} {cA : FieldType → ClassId} {b : Nat} {E : State → Prop} {R : qRg} {o n : Nat} {sh : Nat → qC} {Rf : Nat → Nat → Option Nat} {I0 : Nat → Nat → Int32} {L0 : Nat → Nat → Int64} {post : Option Value → qS → Prop} {uo_0 : Nat} {uo_1 : Nat} (hok : q_ok (qGG D cA b E)) (hw : WfRun (qGG D cA b E) n sh Rf o) (ra : RARun R o) (hwuo_0 : WfLand (qGG D cA b E) n sh Rf uo_0) (rauo_0 : RALand R uo_0) (hwuo_1 : WfTrade (qGG D cA b E) n sh Rf uo_1) (rauo_1 : RATrade R uo_1) (huo_0 : Rf o 0 = some uo_0) (huo_1 : Rf o 1 = some uo_1) (hq0 : (I0 (o + 31) 13).toInt ≤ (I0 (o + 31) 12).toInt) (hq1 : LodOK I0 (o + 44)) (hp : ∀ (I' : Nat → Nat → Int32) (L' : Nat → Nat → Int64), RI R I' → Fm (fun c => (o + 24 ≤ c ∧ c < o + 53)) I0 I' → ((I' (o + 31) 13).toInt ≤ (I' (o + 31) 12).toInt) → (LodOK I' (o + 44)) → post none (n, sh, Rf, I', L')) : ∀ (k : Nat) {x1 : Int32} {I : Nat → Nat → Int32} {L : Nat → Nat → Int64}, RI R I → Fm (fun c => (o + 24 ≤ c ∧ c < o + 53)) I0 I → ((0 : Int) ≤ x1.toInt ∧ x1.toInt ≤ 2880) → ((I (o + 31) 13).toInt ≤ (I (o + 31) 12).toInt) → (LodOK I (o + 44)) → (2880 - x1.toInt).toNat < k → Ev (qGG D cA b E) mRun_bringLoads 3 (0, 0) 8 [(0, .ref o), (1, .int x1)] [] (n, sh, Rf, I, L) post := by
  intro k
  induction k with
  | zero =>
    intro x1 I L hR hf hi0 hi1 hi2 hm
    exact absurd hm (Nat.not_lt_zero _)
  | succ k ih =>
    intro x1 I L hR hf hi0 hi1 hi2 hm
    have g_1 : (0 : Int) ≤ (I (o + 31) 12).toInt ∧ (I (o + 31) 12).toInt ≤ 1440 := hR.at0 (rsRun_4 ra) 12 (by decide)
    have g_2 : (0 : Int) ≤ (I (o + 31) 13).toInt ∧ (I (o + 31) 13).toInt ≤ 1440 := hR.at0 (rsRun_4 ra) 13 (by decide)
    refine sRun_bringLoads_8 o n sh Rf I L post x1 hok hw ?_
    unfold fRun_bringLoads_8
    have g_3 : (0 : Int) ≤ (I (o + 44) 9).toInt ∧ (I (o + 44) 9).toInt ≤ 2880 := hR.at0 (rsRun_5 ra) 9 (by decide)
    refine ⟨fun c_4 => ?_, fun c_4 => ?_⟩
    · have d_5 := iLe c_4
      have g_6 : (0 : Int) ≤ (I o 17).toInt ∧ (I o 17).toInt ≤ 240 := hR.at0 ra 17 (by decide)
      refine y_Loads_forgetCome hok (wsRun_5 hw) (rsRun_5 ra) hi2 hR (fun I_9 L_10 hR_11 fr_12 u_8 => ⟨I_9, L_10, rfl, rfl, ?_⟩)
      have hf_13 : Fm (fun c => (o + 24 ≤ c ∧ c < o + 53)) I0 I_9 := hf.call fr_12 (fun c hc => by first | exact hc | (dsimp only at hc ⊢; omega) | omega)
      have t_14 : (I_9 (o + 31) 12).toInt = (I (o + 31) 12).toInt := by rw [fr_12 (o + 31) (by first | omega | (dsimp only; omega))]
      have t_15 : (I_9 (o + 31) 13).toInt = (I (o + 31) 13).toInt := by rw [fr_12 (o + 31) (by first | omega | (dsimp only; omega))]
      have g_16 : (0 : Int) ≤ (I_9 (o + 44) 9).toInt ∧ (I_9 (o + 44) 9).toInt ≤ 2880 := hR_11.at0 (rsRun_5 ra) 9 (by decide)
      have t_17 : (I_9 o 17).toInt = (I o 17).toInt := by rw [fr_12 o (by first | omega | (dsimp only; omega))]
      exact (hp _ _ hR_11 hf_13 (by first | omega | (intro h; omega) | exact Or.inl rfl | exact Or.inr rfl) u_8)
    · have d_18 := iNle c_4
      refine ⟨tIn (by omega) (by omega), ?_⟩
      have g_19 : (0 : Int) ≤ (I o 17).toInt ∧ (I o 17).toInt ≤ 240 := hR.at0 ra 17 (by decide)
      refine ⟨fun c_20 => ?_, fun c_20 => ?_⟩
      · have d_21 := iNe c_20
        unfold fRun_bringLoads_55
        refine ⟨tIn (by omega) (by omega), ?_⟩
        have g_22 : (0 : Int) ≤ (I o 17).toInt ∧ (I o 17).toInt ≤ 240 := hR.at0 ra 17 (by decide)
        refine ⟨fun c_23 => ?_, fun c_23 => ?_⟩
        · have d_24 := iNe c_23
          unfold fRun_bringLoads_76
          have a_26 : (x1 + Int32.ofInt 1).toInt = x1.toInt + (1) := tIc (by omega) (by omega) (by decide) (by decide)
          generalize ez_25 : (x1 + Int32.ofInt 1) = z_25 at a_26 ⊢
          exact ih hR hf (by first | omega | (intro h; omega) | exact Or.inl rfl | exact Or.inr rfl) (by first | omega | (intro h; omega) | exact Or.inl rfl | exact Or.inr rfl) hi2 (by omega)
        · have d_27 := iEq c_23
          refine y_Run_sellSalt hok hw ra hwuo_0 rauo_0 hwuo_1 rauo_1 huo_0 huo_1 (by first | omega | (intro h; omega) | exact Or.inl rfl | exact Or.inr rfl) (by first | omega | (intro h; omega) | exact Or.inl rfl | exact Or.inr rfl) (by first | omega | (intro h; omega) | exact Or.inl rfl | exact Or.inr rfl) hi2 hR (fun I_30 L_31 hR_32 fr_33 u_29 => ⟨I_30, L_31, rfl, rfl, ?_⟩)
          have hf_34 : Fm (fun c => (o + 24 ≤ c ∧ c < o + 53)) I0 I_30 := hf.call fr_33 (fun c hc => by first | exact hc | (dsimp only at hc ⊢; omega) | omega)
          have t_35 : (I_30 (o + 31) 12).toInt = (I (o + 31) 12).toInt := by rw [fr_33 (o + 31) (by first | omega | (dsimp only; omega))]
          have t_36 : (I_30 (o + 31) 13).toInt = (I (o + 31) 13).toInt := by rw [fr_33 (o + 31) (by first | omega | (dsimp only; omega))]
          have t_37 : (I_30 (o + 44) 9).toInt = (I (o + 44) 9).toInt := by rw [fr_33 (o + 44) (by first | omega | (dsimp only; omega))]
          have t_38 : (I_30 o 17).toInt = (I o 17).toInt := by rw [fr_33 o (by first | omega | (dsimp only; omega))]
          unfold fRun_bringLoads_76
          have a_40 : (x1 + Int32.ofInt 1).toInt = x1.toInt + (1) := tIc (by omega) (by omega) (by decide) (by decide)
          generalize ez_39 : (x1 + Int32.ofInt 1) = z_39 at a_40 ⊢
          exact ih hR_32 hf_34 (by first | omega | (intro h; omega) | exact Or.inl rfl | exact Or.inr rfl) (by first | omega | (intro h; omega) | exact Or.inl rfl | exact Or.inr rfl) u_29 (by omega)
      · have d_41 := iEq c_20
        refine ⟨tIn (by omega) (by omega), ?_⟩
        have l_42 : (0 : Int32).toInt = 0 := rfl
        refine ⟨fun c_43 => ?_, fun c_43 => ?_⟩
        · have d_44 := iNe c_43
          unfold fRun_bringLoads_55
          refine ⟨tIn (by omega) (by omega), ?_⟩
          have g_45 : (0 : Int) ≤ (I o 17).toInt ∧ (I o 17).toInt ≤ 240 := hR.at0 ra 17 (by decide)
          refine ⟨fun c_46 => ?_, fun c_46 => ?_⟩
          · have d_47 := iNe c_46
            unfold fRun_bringLoads_76
            have a_49 : (x1 + Int32.ofInt 1).toInt = x1.toInt + (1) := tIc (by omega) (by omega) (by decide) (by decide)
            generalize ez_48 : (x1 + Int32.ofInt 1) = z_48 at a_49 ⊢
            exact ih hR hf (by first | omega | (intro h; omega) | exact Or.inl rfl | exact Or.inr rfl) (by first | omega | (intro h; omega) | exact Or.inl rfl | exact Or.inr rfl) hi2 (by omega)
          · have d_50 := iEq c_46
            refine y_Run_sellSalt hok hw ra hwuo_0 rauo_0 hwuo_1 rauo_1 huo_0 huo_1 (by first | omega | (intro h; omega) | exact Or.inl rfl | exact Or.inr rfl) (by first | omega | (intro h; omega) | exact Or.inl rfl | exact Or.inr rfl) (by first | omega | (intro h; omega) | exact Or.inl rfl | exact Or.inr rfl) hi2 hR (fun I_53 L_54 hR_55 fr_56 u_52 => ⟨I_53, L_54, rfl, rfl, ?_⟩)
            have hf_57 : Fm (fun c => (o + 24 ≤ c ∧ c < o + 53)) I0 I_53 := hf.call fr_56 (fun c hc => by first | exact hc | (dsimp only at hc ⊢; omega) | omega)
            have t_58 : (I_53 (o + 31) 12).toInt = (I (o + 31) 12).toInt := by rw [fr_56 (o + 31) (by first | omega | (dsimp only; omega))]
            have t_59 : (I_53 (o + 31) 13).toInt = (I (o + 31) 13).toInt := by rw [fr_56 (o + 31) (by first | omega | (dsimp only; omega))]
            have t_60 : (I_53 (o + 44) 9).toInt = (I (o + 44) 9).toInt := by rw [fr_56 (o + 44) (by first | omega | (dsimp only; omega))]
            have t_61 : (I_53 o 17).toInt = (I o 17).toInt := by rw [fr_56 o (by first | omega | (dsimp only; omega))]
            unfold fRun_bringLoads_76
            have a_63 : (x1 + Int32.ofInt 1).toInt = x1.toInt + (1) := tIc (by omega) (by omega) (by decide) (by decide)
            generalize ez_62 : (x1 + Int32.ofInt 1) = z_62 at a_63 ⊢
            exact ih hR_55 hf_57 (by first | omega | (intro h; omega) | exact Or.inl rfl | exact Or.inr rfl) (by first | omega | (intro h; omega) | exact Or.inl rfl | exact Or.inr rfl) u_52 (by omega)
        · have d_64 := iEq c_43
          refine y_Run_bringGrain hok hw ra hwuo_0 rauo_0 hwuo_1 rauo_1 huo_0 huo_1 (by first | omega | (intro h; omega) | exact Or.inl rfl | exact Or.inr rfl) (by first | omega | (intro h; omega) | exact Or.inl rfl | exact Or.inr rfl) (by first | omega | (intro h; omega) | exact Or.inl rfl | exact Or.inr rfl) (by first | omega | (intro h; omega) | exact Or.inl rfl | exact Or.inr rfl) hi2 hR (fun I_68 L_69 hR_70 fr_71 u_66 u_67 => ⟨I_68, L_69, rfl, rfl, ?_⟩)
          have hf_72 : Fm (fun c => (o + 24 ≤ c ∧ c < o + 53)) I0 I_68 := hf.call fr_71 (fun c hc => by first | exact hc | (dsimp only at hc ⊢; omega) | omega)
          have g_73 : (0 : Int) ≤ (I_68 (o + 31) 12).toInt ∧ (I_68 (o + 31) 12).toInt ≤ 1440 := hR_70.at0 (rsRun_4 ra) 12 (by decide)
          have g_74 : (0 : Int) ≤ (I_68 (o + 31) 13).toInt ∧ (I_68 (o + 31) 13).toInt ≤ 1440 := hR_70.at0 (rsRun_4 ra) 13 (by decide)
          have t_75 : (I_68 (o + 44) 9).toInt = (I (o + 44) 9).toInt := by rw [fr_71 (o + 44) (by first | omega | (dsimp only; omega))]
          have t_76 : (I_68 o 17).toInt = (I o 17).toInt := by rw [fr_71 o (by first | omega | (dsimp only; omega))]
          unfold fRun_bringLoads_76
          have a_78 : (x1 + Int32.ofInt 1).toInt = x1.toInt + (1) := tIc (by omega) (by omega) (by decide) (by decide)
          generalize ez_77 : (x1 + Int32.ofInt 1) = z_77 at a_78 ⊢
          exact ih hR_70 hf_72 (by first | omega | (intro h; omega) | exact Or.inl rfl | exact Or.inr rfl) (by first | omega | (intro h; omega) | exact Or.inl rfl | exact Or.inr rfl) u_67 (by omega)
set_option maxHeartbeats 4000000 in
set_option maxRecDepth 20000 in
theorem y_Run_bringLoads {D : va_G} {cA : FieldType → ClassId} {b : Nat} {E : State → Prop} {R : qRg} {o n : Nat} {sh : Nat → qC} {Rf : Nat → Nat → Option Nat} {I0 : Nat → Nat → Int32} {L0 : Nat → Nat → Int64} {post : Option Value → qS → Prop} {uo_0 : Nat} {uo_1 : Nat} (hok : q_ok (qGG D cA b E)) (hw : WfRun (qGG D cA b E) n sh Rf o) (ra : RARun R o) (hwuo_0 : WfLand (qGG D cA b E) n sh Rf uo_0) (rauo_0 : RALand R uo_0) (hwuo_1 : WfTrade (qGG D cA b E) n sh Rf uo_1) (rauo_1 : RATrade R uo_1) (huo_0 : Rf o 0 = some uo_0) (huo_1 : Rf o 1 = some uo_1) (hq0 : (I0 (o + 31) 13).toInt ≤ (I0 (o + 31) 12).toInt) (hq1 : LodOK I0 (o + 44)) (hR : RI R I0) (hp : ∀ (I' : Nat → Nat → Int32) (L' : Nat → Nat → Int64), RI R I' → Fm (fun c => (o + 24 ≤ c ∧ c < o + 53)) I0 I' → ((I' (o + 31) 13).toInt ≤ (I' (o + 31) 12).toInt) → (LodOK I' (o + 44)) → post none (n, sh, Rf, I', L')) : Ev (qGG D cA b E) mRun_bringLoads 3 (0, 0) 0 (lv_args 0 [.ref o]) [] (n, sh, Rf, I0, L0) post := by
  have hf : Fm (fun c => (o + 24 ≤ c ∧ c < o + 53)) I0 I0 := Fm.rf
  have g_79 : (0 : Int) ≤ (I0 (o + 31) 12).toInt ∧ (I0 (o + 31) 12).toInt ≤ 1440 := hR.at0 (rsRun_4 ra) 12 (by decide)
  have g_80 : (0 : Int) ≤ (I0 (o + 31) 13).toInt ∧ (I0 (o + 31) 13).toInt ≤ 1440 := hR.at0 (rsRun_4 ra) 13 (by decide)
  refine sRun_bringLoads_0 o n sh Rf I0 L0 post  hok hw ?_
  unfold fRun_bringLoads_0
  have g_81 : (0 : Int) ≤ (I0 (o + 44) 8).toInt ∧ (I0 (o + 44) 8).toInt ≤ 2880 := hR.at0 (rsRun_5 ra) 8 (by decide)
  exact yRun_bringLoads_8 (I0 := I0) (L0 := L0) hok hw ra hwuo_0 rauo_0 hwuo_1 rauo_1 huo_0 huo_1 hq0 hq1 hp  _ hR hf (by first | omega | (intro h; omega) | exact Or.inl rfl | exact Or.inr rfl) (by first | omega | (intro h; omega) | exact Or.inl rfl | exact Or.inr rfl) hq1 (Nat.lt_succ_self _)
set_option maxHeartbeats 4000000 in
set_option maxRecDepth 20000 in
theorem yRun_classAll_98 {D : va_G} {cA : FieldType → ClassId} {b : Nat} {E : State → Prop} {R : qRg} {o n : Nat} {sh : Nat → qC} {Rf : Nat → Nat → Option Nat} {I0 : Nat → Nat → Int32} {L0 : Nat → Nat → Int64} {post : Option Value → qS → Prop} {uo_0 : Nat} {uo_1 : Nat} (hok : q_ok (qGG D cA b E)) (hw : WfRun (qGG D cA b E) n sh Rf o) (ra : RARun R o) (hwuo_0 : WfLand (qGG D cA b E) n sh Rf uo_0) (rauo_0 : RALand R uo_0) (hwuo_1 : WfTrade (qGG D cA b E) n sh Rf uo_1) (rauo_1 : RATrade R uo_1) (huo_0 : Rf o 0 = some uo_0) (huo_1 : Rf o 1 = some uo_1) (hp : ∀ (I' : Nat → Nat → Int32) (L' : Nat → Nat → Int64), RI R I' → Fm (fun c => c = o + 59 ∨ (o + 19 ≤ c ∧ c < o + 24) ∨ c = o + 31 + 9) I0 I' → post none (n, sh, Rf, I', L')) {k6 : Nat} (ho6 : ∀ {x1 : Int32} {I : Nat → Nat → Int32} {L : Nat → Nat → Int64}, RI R I → Fm (fun c => c = o + 59 ∨ (o + 19 ≤ c ∧ c < o + 24) ∨ c = o + 31 + 9) I0 I → ((0 : Int) ≤ x1.toInt ∧ x1.toInt ≤ 1440) → (1440 - x1.toInt).toNat < k6 → Ev (qGG D cA b E) mRun_classAll 2 (0, 0) 6 [(0, .ref o), (1, .int x1)] [] (n, sh, Rf, I, L) post) : ∀ (k : Nat) {x1 : Int32} {x2 : Int32} {x3 : Int32} {I : Nat → Nat → Int32} {L : Nat → Nat → Int64}, RI R I → Fm (fun c => c = o + 59 ∨ (o + 19 ≤ c ∧ c < o + 24) ∨ c = o + 31 + 9) I0 I → ((0 : Int) ≤ x1.toInt ∧ x1.toInt ≤ 1439) → ((0 : Int) ≤ x2.toInt ∧ x2.toInt ≤ 1439) → ((0 : Int) ≤ x3.toInt ∧ x3.toInt ≤ 5) → ((1440 - x1.toInt).toNat < k6 + 1) → (5 - x3.toInt).toNat < k → Ev (qGG D cA b E) mRun_classAll 2 (0, 0) 98 [(0, .ref o), (1, .int x1), (2, .int x2), (3, .int x3)] [] (n, sh, Rf, I, L) post := by
  intro k
  induction k with
  | zero =>
    intro x1 x2 x3 I L hR hf hi0 hi1 hi2 hi3 hm
    exact absurd hm (Nat.not_lt_zero _)
  | succ k ih =>
    intro x1 x2 x3 I L hR hf hi0 hi1 hi2 hi3 hm
    refine sRun_classAll_98 o n sh Rf I L post x1 x2 x3 hok hw ?_
    unfold fRun_classAll_98
    have g_1 : (0 : Int) ≤ (I (o + 19) 6).toInt ∧ (I (o + 19) 6).toInt ≤ 5 := hR.at0 (rsRun_2 ra) 6 (by decide)
    refine ⟨fun c_2 => ?_, fun c_2 => ?_⟩
    · have d_3 := iLe c_2
      unfold fRun_classAll_133
      refine ⟨tIn (by omega) (by omega), fun I_4 e_5 => ?_⟩
      have hR_6 : RI R I_4 := hR.up (rsRun_4 ra) 9 (by decide) (Or.inl rfl) e_5 (i_lo _) (i_hi _)
      have hf_7 : Fm (fun c => c = o + 59 ∨ (o + 19 ≤ c ∧ c < o + 24) ∨ c = o + 31 + 9) I0 I_4 := hf.set (by first | rfl | omega | (dsimp only; omega)) e_5
      have t_8 : (I_4 (o + 19) 6).toInt = (I (o + 19) 6).toInt := by rw [← e_5, q_u_ne (by omega)]
      have a_10 : (x1 + Int32.ofInt 1).toInt = x1.toInt + (1) := tIc (by omega) (by omega) (by decide) (by decide)
      generalize ez_9 : (x1 + Int32.ofInt 1) = z_9 at a_10 ⊢
      exact ho6 hR_6 hf_7 (by first | omega | (intro h; omega) | exact Or.inl rfl | exact Or.inr rfl) (by omega)
    · have d_11 := iNle c_2
      have l_12 : (6 : Int32).toInt = 6 := rfl
      have a_13 : (6 + x3).toInt = (6 : Int32).toInt + x3.toInt := tAdd (by omega) (by omega)
      refine y_Reform_tell hok (wsRun_2 hw) (rsRun_2 ra) (fun _ _ => waRun_8 hw) (by first | omega | (intro h; omega) | exact Or.inl rfl | exact Or.inr rfl) hR (fun r_14 I_15 L_16 hR_17 fr_18  => ⟨r_14, I_15, L_16, rfl, rfl, ?_⟩)
      have hf_19 : Fm (fun c => c = o + 59 ∨ (o + 19 ≤ c ∧ c < o + 24) ∨ c = o + 31 + 9) I0 I_15 := hf.call fr_18 (fun c hc => by first | exact hc | (dsimp only at hc ⊢; omega) | omega)
      have g_20 : (0 : Int) ≤ (I_15 (o + 19) 6).toInt ∧ (I_15 (o + 19) 6).toInt ≤ 5 := hR_17.at0 (rsRun_2 ra) 6 (by decide)
      have l_21 : (0 : Int32).toInt = 0 := rfl
      refine ⟨fun c_22 => ?_, fun c_22 => ?_⟩
      · have d_23 := iNe c_22
        unfold fRun_classAll_133
        refine ⟨tIn (by omega) (by omega), fun I_24 e_25 => ?_⟩
        have hR_26 : RI R I_24 := hR_17.up (rsRun_4 ra) 9 (by decide) (Or.inl rfl) e_25 (i_lo _) (i_hi _)
        have hf_27 : Fm (fun c => c = o + 59 ∨ (o + 19 ≤ c ∧ c < o + 24) ∨ c = o + 31 + 9) I0 I_24 := hf_19.set (by first | rfl | omega | (dsimp only; omega)) e_25
        have t_28 : (I_24 (o + 19) 6).toInt = (I_15 (o + 19) 6).toInt := by rw [← e_25, q_u_ne (by omega)]
        have a_30 : (x1 + Int32.ofInt 1).toInt = x1.toInt + (1) := tIc (by omega) (by omega) (by decide) (by decide)
        generalize ez_29 : (x1 + Int32.ofInt 1) = z_29 at a_30 ⊢
        exact ho6 hR_26 hf_27 (by first | omega | (intro h; omega) | exact Or.inl rfl | exact Or.inr rfl) (by omega)
      · have d_31 := iEq c_22
        have a_33 : (x3 + Int32.ofInt 1).toInt = x3.toInt + (1) := tIc (by omega) (by omega) (by decide) (by decide)
        generalize ez_32 : (x3 + Int32.ofInt 1) = z_32 at a_33 ⊢
        exact ih hR_17 hf_19 (by first | omega | (intro h; omega) | exact Or.inl rfl | exact Or.inr rfl) (by first | omega | (intro h; omega) | exact Or.inl rfl | exact Or.inr rfl) (by first | omega | (intro h; omega) | exact Or.inl rfl | exact Or.inr rfl) (by first | omega | (intro h; omega) | exact Or.inl rfl | exact Or.inr rfl) (by omega)
set_option maxHeartbeats 4000000 in
set_option maxRecDepth 20000 in
theorem yRun_classAll_6 {D : va_G} {cA : FieldType → ClassId} {b : Nat} {E : State → Prop} {R : qRg} {o n : Nat} {sh : Nat → qC} {Rf : Nat → Nat → Option Nat} {I0 : Nat → Nat → Int32} {L0 : Nat → Nat → Int64} {post : Option Value → qS → Prop} {uo_0 : Nat} {uo_1 : Nat} (hok : q_ok (qGG D cA b E)) (hw : WfRun (qGG D cA b E) n sh Rf o) (ra : RARun R o) (hwuo_0 : WfLand (qGG D cA b E) n sh Rf uo_0) (rauo_0 : RALand R uo_0) (hwuo_1 : WfTrade (qGG D cA b E) n sh Rf uo_1) (rauo_1 : RATrade R uo_1) (huo_0 : Rf o 0 = some uo_0) (huo_1 : Rf o 1 = some uo_1) (hp : ∀ (I' : Nat → Nat → Int32) (L' : Nat → Nat → Int64), RI R I' → Fm (fun c => c = o + 59 ∨ (o + 19 ≤ c ∧ c < o + 24) ∨ c = o + 31 + 9) I0 I' → post none (n, sh, Rf, I', L')) : ∀ (k : Nat) {x1 : Int32} {I : Nat → Nat → Int32} {L : Nat → Nat → Int64}, RI R I → Fm (fun c => c = o + 59 ∨ (o + 19 ≤ c ∧ c < o + 24) ∨ c = o + 31 + 9) I0 I → ((0 : Int) ≤ x1.toInt ∧ x1.toInt ≤ 1440) → (1440 - x1.toInt).toNat < k → Ev (qGG D cA b E) mRun_classAll 2 (0, 0) 6 [(0, .ref o), (1, .int x1)] [] (n, sh, Rf, I, L) post := by
  intro k
  induction k with
  | zero =>
    intro x1 I L hR hf hi0 hm
    exact absurd hm (Nat.not_lt_zero _)
  | succ k ih =>
    intro x1 I L hR hf hi0 hm
    refine sRun_classAll_6 o n sh Rf I L post x1 hok hw ?_
    unfold fRun_classAll_6
    have g_34 : (0 : Int) ≤ (I (o + 31) 13).toInt ∧ (I (o + 31) 13).toInt ≤ 1440 := hR.at0 (rsRun_4 ra) 13 (by decide)
    refine ⟨fun c_35 => ?_, fun c_35 => ?_⟩
    · have d_36 := iLe c_35
      exact (hp _ _ hR hf )
    · have d_37 := iNle c_35
      refine ⟨tIn (by omega) (by omega), ?_⟩
      have g_38 : (0 : Int) ≤ (I ((o + 31) + 11) (x1 : Int32).toNatClampNeg).toInt ∧ (I ((o + 31) + 11) (x1 : Int32).toNatClampNeg).toInt ≤ 1439 := hR.at (rsRun_4 ra) 11 _ (by decide)
      have g_39 : (0 : Int) ≤ (I o 17).toInt ∧ (I o 17).toInt ≤ 240 := hR.at0 ra 17 (by decide)
      refine ⟨tIn (by omega) (by omega), ?_⟩
      have l_40 : (28 : Int32).toInt = 28 := rfl
      refine fun I_41 e_42 => ?_
      have hR_43 : RI R I_41 := hR.up ra 59 (by decide) (Or.inl rfl) e_42 (i_lo _) (i_hi _)
      have hf_44 : Fm (fun c => c = o + 59 ∨ (o + 19 ≤ c ∧ c < o + 24) ∨ c = o + 31 + 9) I0 I_41 := hf.set (by first | rfl | omega | (dsimp only; omega)) e_42
      have t_45 : (I_41 (o + 31) 13).toInt = (I (o + 31) 13).toInt := by rw [← e_42, q_u_ne (by omega)]
      have t_46 : (I_41 o 17).toInt = (I o 17).toInt := by rw [← e_42, q_u_ne (by omega)]
      refine ⟨tIn (by omega) (by omega), ?_⟩
      have l_47 : (29 : Int32).toInt = 29 := rfl
      refine fun I_48 e_49 => ?_
      have hR_50 : RI R I_48 := hR_43.up ra 59 (by decide) (Or.inl rfl) e_49 (i_lo _) (i_hi _)
      have hf_51 : Fm (fun c => c = o + 59 ∨ (o + 19 ≤ c ∧ c < o + 24) ∨ c = o + 31 + 9) I0 I_48 := hf_44.set (by first | rfl | omega | (dsimp only; omega)) e_49
      have t_52 : (I_48 (o + 31) 13).toInt = (I_41 (o + 31) 13).toInt := by rw [← e_49, q_u_ne (by omega)]
      have t_53 : (I_48 o 17).toInt = (I_41 o 17).toInt := by rw [← e_49, q_u_ne (by omega)]
      refine ⟨tIn (by omega) (by omega), ?_⟩
      have l_54 : (30 : Int32).toInt = 30 := rfl
      refine fun I_55 e_56 => ?_
      have hR_57 : RI R I_55 := hR_50.up ra 59 (by decide) (Or.inl rfl) e_56 (i_lo _) (i_hi _)
      have hf_58 : Fm (fun c => c = o + 59 ∨ (o + 19 ≤ c ∧ c < o + 24) ∨ c = o + 31 + 9) I0 I_55 := hf_51.set (by first | rfl | omega | (dsimp only; omega)) e_56
      have t_59 : (I_55 (o + 31) 13).toInt = (I_48 (o + 31) 13).toInt := by rw [← e_56, q_u_ne (by omega)]
      have t_60 : (I_55 o 17).toInt = (I_48 o 17).toInt := by rw [← e_56, q_u_ne (by omega)]
      refine ⟨tIn (by omega) (by omega), ?_⟩
      have l_61 : (26 : Int32).toInt = 26 := rfl
      refine fun I_62 e_63 => ?_
      have hR_64 : RI R I_62 := hR_57.up ra 59 (by decide) (Or.inl rfl) e_63 (i_lo _) (i_hi _)
      have hf_65 : Fm (fun c => c = o + 59 ∨ (o + 19 ≤ c ∧ c < o + 24) ∨ c = o + 31 + 9) I0 I_62 := hf_58.set (by first | rfl | omega | (dsimp only; omega)) e_63
      have t_66 : (I_62 (o + 31) 13).toInt = (I_55 (o + 31) 13).toInt := by rw [← e_63, q_u_ne (by omega)]
      have t_67 : (I_62 o 17).toInt = (I_55 o 17).toInt := by rw [← e_63, q_u_ne (by omega)]
      have l_68 : (0 : Int32).toInt = 0 := rfl
      exact yRun_classAll_98 (I0 := I0) (L0 := L0) hok hw ra hwuo_0 rauo_0 hwuo_1 rauo_1 huo_0 huo_1 hp ih _ hR_64 hf_65 (by first | omega | (intro h; omega) | exact Or.inl rfl | exact Or.inr rfl) (by first | omega | (intro h; omega) | exact Or.inl rfl | exact Or.inr rfl) (by first | omega | (intro h; omega) | exact Or.inl rfl | exact Or.inr rfl) (by first | omega | (intro h; omega) | exact Or.inl rfl | exact Or.inr rfl) (Nat.lt_succ_self _)
set_option maxHeartbeats 4000000 in
set_option maxRecDepth 20000 in
theorem y_Run_classAll {D : va_G} {cA : FieldType → ClassId} {b : Nat} {E : State → Prop} {R : qRg} {o n : Nat} {sh : Nat → qC} {Rf : Nat → Nat → Option Nat} {I0 : Nat → Nat → Int32} {L0 : Nat → Nat → Int64} {post : Option Value → qS → Prop} {uo_0 : Nat} {uo_1 : Nat} (hok : q_ok (qGG D cA b E)) (hw : WfRun (qGG D cA b E) n sh Rf o) (ra : RARun R o) (hwuo_0 : WfLand (qGG D cA b E) n sh Rf uo_0) (rauo_0 : RALand R uo_0) (hwuo_1 : WfTrade (qGG D cA b E) n sh Rf uo_1) (rauo_1 : RATrade R uo_1) (huo_0 : Rf o 0 = some uo_0) (huo_1 : Rf o 1 = some uo_1) (hR : RI R I0) (hp : ∀ (I' : Nat → Nat → Int32) (L' : Nat → Nat → Int64), RI R I' → Fm (fun c => c = o + 59 ∨ (o + 19 ≤ c ∧ c < o + 24) ∨ c = o + 31 + 9) I0 I' → post none (n, sh, Rf, I', L')) : Ev (qGG D cA b E) mRun_classAll 2 (0, 0) 0 (lv_args 0 [.ref o]) [] (n, sh, Rf, I0, L0) post := by
  have hf : Fm (fun c => c = o + 59 ∨ (o + 19 ≤ c ∧ c < o + 24) ∨ c = o + 31 + 9) I0 I0 := Fm.rf
  refine sRun_classAll_0 o n sh Rf I0 L0 post  hok hw ?_
  unfold fRun_classAll_0
  refine y_Run_askCommon hok hw ra hwuo_0 rauo_0 hwuo_1 rauo_1 huo_0 huo_1 hR (fun I_70 L_71 hR_72 fr_73  => ⟨I_70, L_71, rfl, rfl, ?_⟩)
  have hf_74 : Fm (fun c => c = o + 59 ∨ (o + 19 ≤ c ∧ c < o + 24) ∨ c = o + 31 + 9) I0 I_70 := hf.call fr_73 (fun c hc => by first | exact hc | (dsimp only at hc ⊢; omega) | omega)
  have l_75 : (0 : Int32).toInt = 0 := rfl
  exact yRun_classAll_6 (I0 := I0) (L0 := L0) hok hw ra hwuo_0 rauo_0 hwuo_1 rauo_1 huo_0 huo_1 hp  _ hR_72 hf_74 (by first | omega | (intro h; omega) | exact Or.inl rfl | exact Or.inr rfl) (Nat.lt_succ_self _)
set_option maxHeartbeats 4000000 in
set_option maxRecDepth 20000 in
theorem y_Run_drawPaper {D : va_G} {cA : FieldType → ClassId} {b : Nat} {E : State → Prop} {R : qRg} {o n : Nat} {sh : Nat → qC} {Rf : Nat → Nat → Option Nat} {I0 : Nat → Nat → Int32} {L0 : Nat → Nat → Int64} {post : Option Value → qS → Prop} {uo_0 : Nat} {uo_1 : Nat} {p1 : Int32} {p2 : Int32} {p3 : Int32} (hok : q_ok (qGG D cA b E)) (hw : WfRun (qGG D cA b E) n sh Rf o) (ra : RARun R o) (hwuo_0 : WfLand (qGG D cA b E) n sh Rf uo_0) (rauo_0 : RALand R uo_0) (hwuo_1 : WfTrade (qGG D cA b E) n sh Rf uo_1) (rauo_1 : RATrade R uo_1) (huo_0 : Rf o 0 = some uo_0) (huo_1 : Rf o 1 = some uo_1) (hEN : qEN E) (hq0 : (0 : Int) ≤ p1.toInt ∧ p1.toInt ≤ 1439) (hq1 : (0 : Int) ≤ p2.toInt ∧ p2.toInt ≤ 2) (hq2 : (-1 : Int) ≤ p3.toInt ∧ p3.toInt ≤ 4) (hq3 : (I0 (o + 31) 13).toInt ≤ (I0 (o + 31) 12).toInt) (hq4 : LodOK I0 (o + 44)) (hR : RI R I0) (hp : ∀ (I' : Nat → Nat → Int32) (L' : Nat → Nat → Int64), RI R I' → Fm (fun c => (o + 24 ≤ c ∧ c < o + 53)) I0 I' → ((I' (o + 31) 13).toInt ≤ (I' (o + 31) 12).toInt) → (LodOK I' (o + 44)) → post none (n, sh, Rf, I', L')) : Ev (qGG D cA b E) mRun_drawPaper 3 (0, 0) 0 (lv_args 0 [.ref o, .int p1, .int p2, .int p3]) [] (n, sh, Rf, I0, L0) post := by
  have hf : Fm (fun c => (o + 24 ≤ c ∧ c < o + 53)) I0 I0 := Fm.rf
  have g_1 : (0 : Int) ≤ (I0 (o + 31) 12).toInt ∧ (I0 (o + 31) 12).toInt ≤ 1440 := hR.at0 (rsRun_4 ra) 12 (by decide)
  have g_2 : (0 : Int) ≤ (I0 (o + 31) 13).toInt ∧ (I0 (o + 31) 13).toInt ≤ 1440 := hR.at0 (rsRun_4 ra) 13 (by decide)
  refine sRun_drawPaper_0 o n sh Rf I0 L0 post p1 p2 p3 uo_0 uo_1 hok hw huo_0 hwuo_0 huo_1 hwuo_1 ?_
  unfold fRun_drawPaper_0
  refine ⟨tIn (by omega) (by omega), ?_⟩
  refine ⟨tIn (by omega) (by omega), ?_⟩
  have g_3 : (-1 : Int) ≤ (I0 ((o + 31) + 1) (p1 : Int32).toNatClampNeg).toInt ∧ (I0 ((o + 31) + 1) (p1 : Int32).toNatClampNeg).toInt ≤ 5 := hR.at (rsRun_4 ra) 1 _ (by decide)
  refine ⟨tIn (by omega) (by omega), ?_⟩
  refine ⟨tIn (by omega) (by omega), fun I_4 e_5 => ?_⟩
  have hR_6 : RI R I_4 := hR.up (rsRun_3 ra) 3 (by decide) (Or.inl rfl) e_5 (i_lo _) (i_hi _)
  have hf_7 : Fm (fun c => (o + 24 ≤ c ∧ c < o + 53)) I0 I_4 := hf.set (by first | rfl | omega | (dsimp only; omega)) e_5
  have t_8 : (I_4 (o + 31) 12).toInt = (I0 (o + 31) 12).toInt := by rw [← e_5, q_u_ne (by omega)]
  have t_9 : (I_4 (o + 31) 13).toInt = (I0 (o + 31) 13).toInt := by rw [← e_5, q_u_ne (by omega)]
  have k_10 : LodOK I_4 (o + 44) := hq4.fr (by rw [← e_5]; exact q_u_ne (by omega)) (by rw [← e_5]; exact q_u_ne (by omega)) (by rw [← e_5]; exact q_u_ne (by omega)) (by rw [← e_5, q_u_ne (by omega)])
  have g_11 : (0 : Int) ≤ (I_4 o 17).toInt ∧ (I_4 o 17).toInt ≤ 240 := hR_6.at0 ra 17 (by decide)
  refine y_Papers_draw hok (wsRun_4 hw) (rsRun_4 ra) (by first | omega | (intro h; omega) | exact Or.inl rfl | exact Or.inr rfl) hR_6 (fun I_15 L_16 hR_17 fr_18 u_13 u_14 => ⟨I_15, L_16, rfl, rfl, ?_⟩)
  have hf_19 : Fm (fun c => (o + 24 ≤ c ∧ c < o + 53)) I0 I_15 := hf_7.call fr_18 (fun c hc => by first | exact hc | (dsimp only at hc ⊢; omega) | omega)
  have g_20 : (0 : Int) ≤ (I_15 (o + 31) 12).toInt ∧ (I_15 (o + 31) 12).toInt ≤ 1440 := hR_17.at0 (rsRun_4 ra) 12 (by decide)
  have g_21 : (0 : Int) ≤ (I_15 (o + 31) 13).toInt ∧ (I_15 (o + 31) 13).toInt ≤ 1440 := hR_17.at0 (rsRun_4 ra) 13 (by decide)
  have t_22 : (I_15 o 17).toInt = (I_4 o 17).toInt := by rw [fr_18 o (by first | omega | (dsimp only; omega))]
  have k_23 : LodOK I_15 (o + 44) := k_10.fr (fr_18 _ (by first | omega | (dsimp only; omega))) (fr_18 _ (by first | omega | (dsimp only; omega))) (fr_18 _ (by first | omega | (dsimp only; omega))) (by rw [fr_18 (o + 44) (by first | omega | (dsimp only; omega))])
  have l_24 : (9 : Int32).toInt = 9 := rfl
  refine fun L_25 e_26 => ?_
  have l_27 : (8 : Int32).toInt = 8 := rfl
  have g_28 : (0 : Int) ≤ (I_15 o 17).toInt ∧ (I_15 o 17).toInt ≤ 240 := hR_17.at0 ra 17 (by decide)
  refine ⟨tIn (by omega) (by omega), ?_⟩
  refine fun L_29 e_30 => ?_
  have l_31 : (-1 : Int32).toInt = -1 := rfl
  refine ⟨fun c_32 => ?_, fun c_32 => ?_⟩
  · have d_33 := iEq c_32
    unfold fRun_drawPaper_95
    have l_34 : (5 : Int32).toInt = 5 := rfl
    refine fun L_35 e_36 => ?_
    exact (hp _ _ hR_17 hf_19 (by first | omega | (intro h; omega) | exact Or.inl rfl | exact Or.inr rfl) k_23)
  · have d_37 := iNe c_32
    refine ⟨fun c_38 => ?_, fun c_38 => ?_⟩
    · have d_39 := iNe c_38
      refine ⟨tIn (by omega) (by omega), ?_⟩
      refine ⟨tIn (by omega) (by omega), ?_⟩
      refine y_Land_daysBetween hok hwuo_0 rauo_0 hR_17 (fun r_40  => ⟨r_40, I_15, L_29, rfl, rfl, ?_⟩)
      refine ⟨tIn (by omega) (by omega), ?_⟩
      refine ⟨tIn (by omega) (by omega), ?_⟩
      refine fun y_41 e_42 => ?_
      refine ⟨tIn (by omega) (by omega), fun L_43 e_44 => ?_⟩
      have g_45 : (0 : Int) ≤ (I_15 o 17).toInt ∧ (I_15 o 17).toInt ≤ 240 := hR_17.at0 ra 17 (by decide)
      refine y_Loads_sendSalt hok (wsRun_5 hw) (rsRun_5 ra) hEN (by first | omega | (intro h; omega) | exact Or.inl rfl | exact Or.inr rfl) (by first | omega | (intro h; omega) | exact Or.inl rfl | exact Or.inr rfl) k_23 hR_17 (fun I_48 L_49 hR_50 fr_51 u_47 => ⟨I_48, L_49, rfl, rfl, ?_⟩)
      have hf_52 : Fm (fun c => (o + 24 ≤ c ∧ c < o + 53)) I0 I_48 := hf_19.call fr_51 (fun c hc => by first | exact hc | (dsimp only at hc ⊢; omega) | omega)
      have t_53 : (I_48 (o + 31) 12).toInt = (I_15 (o + 31) 12).toInt := by rw [fr_51 (o + 31) (by first | omega | (dsimp only; omega))]
      have t_54 : (I_48 (o + 31) 13).toInt = (I_15 (o + 31) 13).toInt := by rw [fr_51 (o + 31) (by first | omega | (dsimp only; omega))]
      have t_55 : (I_48 o 17).toInt = (I_15 o 17).toInt := by rw [fr_51 o (by first | omega | (dsimp only; omega))]
      exact (hp _ _ hR_50 hf_52 (by first | omega | (intro h; omega) | exact Or.inl rfl | exact Or.inr rfl) u_47)
    · have d_56 := iEq c_38
      unfold fRun_drawPaper_95
      have l_57 : (5 : Int32).toInt = 5 := rfl
      refine fun L_58 e_59 => ?_
      exact (hp _ _ hR_17 hf_19 (by first | omega | (intro h; omega) | exact Or.inl rfl | exact Or.inr rfl) k_23)
set_option maxHeartbeats 4000000 in
set_option maxRecDepth 20000 in
theorem yRun_drawAt_22 {D : va_G} {cA : FieldType → ClassId} {b : Nat} {E : State → Prop} {R : qRg} {o n : Nat} {sh : Nat → qC} {Rf : Nat → Nat → Option Nat} {I0 : Nat → Nat → Int32} {L0 : Nat → Nat → Int64} {post : Option Value → qS → Prop} {uo_0 : Nat} {uo_1 : Nat} {p1 : Int32} (hok : q_ok (qGG D cA b E)) (hw : WfRun (qGG D cA b E) n sh Rf o) (ra : RARun R o) (hwuo_0 : WfLand (qGG D cA b E) n sh Rf uo_0) (rauo_0 : RALand R uo_0) (hwuo_1 : WfTrade (qGG D cA b E) n sh Rf uo_1) (rauo_1 : RATrade R uo_1) (huo_0 : Rf o 0 = some uo_0) (huo_1 : Rf o 1 = some uo_1) (hEN : qEN E) (hq0 : (0 : Int) ≤ p1.toInt ∧ p1.toInt ≤ 2) (hq1 : (I0 (o + 31) 13).toInt ≤ (I0 (o + 31) 12).toInt) (hq2 : LodOK I0 (o + 44)) (hp : ∀ (I' : Nat → Nat → Int32) (L' : Nat → Nat → Int64), RI R I' → Fm (fun c => (o + 24 ≤ c ∧ c < o + 53)) I0 I' → ((I' (o + 31) 13).toInt ≤ (I' (o + 31) 12).toInt) → (LodOK I' (o + 44)) → post none (n, sh, Rf, I', L')) {k8 : Nat} (ho8 : ∀ {x1 : Int32} {x2 : Int32} {x3 : Int32} {I : Nat → Nat → Int32} {L : Nat → Nat → Int64}, RI R I → Fm (fun c => (o + 24 ≤ c ∧ c < o + 53)) I0 I → ((0 : Int) ≤ x1.toInt ∧ x1.toInt ≤ 2) → ((-1 : Int) ≤ x2.toInt ∧ x2.toInt ≤ 4) → ((0 : Int) ≤ x3.toInt ∧ x3.toInt ≤ 6) → ((I (o + 31) 13).toInt ≤ (I (o + 31) 12).toInt) → (LodOK I (o + 44)) → (6 - x3.toInt).toNat < k8 → Ev (qGG D cA b E) mRun_drawAt 4 (0, 0) 8 [(0, .ref o), (1, .int x1), (2, .int x2), (3, .int x3)] [] (n, sh, Rf, I, L) post) : ∀ (k : Nat) {x1 : Int32} {x2 : Int32} {x3 : Int32} {x4 : Int32} {I : Nat → Nat → Int32} {L : Nat → Nat → Int64}, RI R I → Fm (fun c => (o + 24 ≤ c ∧ c < o + 53)) I0 I → ((0 : Int) ≤ x1.toInt ∧ x1.toInt ≤ 2) → ((-1 : Int) ≤ x2.toInt ∧ x2.toInt ≤ 4) → ((0 : Int) ≤ x3.toInt ∧ x3.toInt ≤ 5) → ((0 : Int) ≤ x4.toInt ∧ x4.toInt ≤ 1440) → ((I (o + 31) 13).toInt ≤ (I (o + 31) 12).toInt) → ((6 - x3.toInt).toNat < k8 + 1) → (LodOK I (o + 44)) → (1440 - x4.toInt).toNat < k → Ev (qGG D cA b E) mRun_drawAt 4 (0, 0) 22 [(0, .ref o), (1, .int x1), (2, .int x2), (3, .int x3), (4, .int x4)] [] (n, sh, Rf, I, L) post := by
  intro k
  induction k with
  | zero =>
    intro x1 x2 x3 x4 I L hR hf hi0 hi1 hi2 hi3 hi4 hi5 hi6 hm
    exact absurd hm (Nat.not_lt_zero _)
  | succ k ih =>
    intro x1 x2 x3 x4 I L hR hf hi0 hi1 hi2 hi3 hi4 hi5 hi6 hm
    have g_1 : (0 : Int) ≤ (I (o + 31) 12).toInt ∧ (I (o + 31) 12).toInt ≤ 1440 := hR.at0 (rsRun_4 ra) 12 (by decide)
    have g_2 : (0 : Int) ≤ (I (o + 31) 13).toInt ∧ (I (o + 31) 13).toInt ≤ 1440 := hR.at0 (rsRun_4 ra) 13 (by decide)
    refine sRun_drawAt_22 o n sh Rf I L post x1 x2 x3 x4 hok hw ?_
    unfold fRun_drawAt_22
    have g_3 : (0 : Int) ≤ (I (o + 31) 13).toInt ∧ (I (o + 31) 13).toInt ≤ 1440 := hR.at0 (rsRun_4 ra) 13 (by decide)
    refine ⟨fun c_4 => ?_, fun c_4 => ?_⟩
    · have d_5 := iLe c_4
      have a_7 : (x3 + Int32.ofInt 1).toInt = x3.toInt + (1) := tIc (by omega) (by omega) (by decide) (by decide)
      generalize ez_6 : (x3 + Int32.ofInt 1) = z_6 at a_7 ⊢
      exact ho8 hR hf (by first | omega | (intro h; omega) | exact Or.inl rfl | exact Or.inr rfl) (by first | omega | (intro h; omega) | exact Or.inl rfl | exact Or.inr rfl) (by first | omega | (intro h; omega) | exact Or.inl rfl | exact Or.inr rfl) (by first | omega | (intro h; omega) | exact Or.inl rfl | exact Or.inr rfl) hi6 (by omega)
    · have d_8 := iNle c_4
      refine ⟨tIn (by omega) (by omega), ?_⟩
      have g_9 : (0 : Int) ≤ (I ((o + 31) + 11) (x4 : Int32).toNatClampNeg).toInt ∧ (I ((o + 31) + 11) (x4 : Int32).toNatClampNeg).toInt ≤ 1439 := hR.at (rsRun_4 ra) 11 _ (by decide)
      refine ⟨tIn (by omega) (by omega), ?_⟩
      have g_10 : (0 : Int) ≤ (I ((o + 31) + 2) ((I ((o + 31) + 11) (x4 : Int32).toNatClampNeg) : Int32).toNatClampNeg).toInt ∧ (I ((o + 31) + 2) ((I ((o + 31) + 11) (x4 : Int32).toNatClampNeg) : Int32).toNatClampNeg).toInt ≤ 2 := hR.at (rsRun_4 ra) 2 _ (by decide)
      refine ⟨fun c_11 => ?_, fun c_11 => ?_⟩
      · have d_12 := iNe c_11
        unfold fRun_drawAt_105
        have a_14 : (x4 + Int32.ofInt 1).toInt = x4.toInt + (1) := tIc (by omega) (by omega) (by decide) (by decide)
        generalize ez_13 : (x4 + Int32.ofInt 1) = z_13 at a_14 ⊢
        exact ih hR hf (by first | omega | (intro h; omega) | exact Or.inl rfl | exact Or.inr rfl) (by first | omega | (intro h; omega) | exact Or.inl rfl | exact Or.inr rfl) (by first | omega | (intro h; omega) | exact Or.inl rfl | exact Or.inr rfl) (by first | omega | (intro h; omega) | exact Or.inl rfl | exact Or.inr rfl) (by first | omega | (intro h; omega) | exact Or.inl rfl | exact Or.inr rfl) (by first | omega | (intro h; omega) | exact Or.inl rfl | exact Or.inr rfl) hi6 (by omega)
      · have d_15 := iEq c_11
        refine ⟨tIn (by omega) (by omega), ?_⟩
        refine ⟨fun c_16 => ?_, fun c_16 => ?_⟩
        · have d_17 := iNe c_16
          unfold fRun_drawAt_105
          have a_19 : (x4 + Int32.ofInt 1).toInt = x4.toInt + (1) := tIc (by omega) (by omega) (by decide) (by decide)
          generalize ez_18 : (x4 + Int32.ofInt 1) = z_18 at a_19 ⊢
          exact ih hR hf (by first | omega | (intro h; omega) | exact Or.inl rfl | exact Or.inr rfl) (by first | omega | (intro h; omega) | exact Or.inl rfl | exact Or.inr rfl) (by first | omega | (intro h; omega) | exact Or.inl rfl | exact Or.inr rfl) (by first | omega | (intro h; omega) | exact Or.inl rfl | exact Or.inr rfl) (by first | omega | (intro h; omega) | exact Or.inl rfl | exact Or.inr rfl) (by first | omega | (intro h; omega) | exact Or.inl rfl | exact Or.inr rfl) hi6 (by omega)
        · have d_20 := iEq c_16
          refine ⟨tIn (by omega) (by omega), ?_⟩
          refine ⟨tIn (by omega) (by omega), ?_⟩
          refine ⟨fun c_21 => ?_, fun c_21 => ?_⟩
          · have d_22 := iLe c_21
            refine y_Run_drawPaper hok hw ra hwuo_0 rauo_0 hwuo_1 rauo_1 huo_0 huo_1 hEN (by first | omega | (intro h; omega) | exact Or.inl rfl | exact Or.inr rfl) (by first | omega | (intro h; omega) | exact Or.inl rfl | exact Or.inr rfl) (by first | omega | (intro h; omega) | exact Or.inl rfl | exact Or.inr rfl) (by first | omega | (intro h; omega) | exact Or.inl rfl | exact Or.inr rfl) hi6 hR (fun I_26 L_27 hR_28 fr_29 u_24 u_25 => ⟨I_26, L_27, rfl, rfl, ?_⟩)
            have hf_30 : Fm (fun c => (o + 24 ≤ c ∧ c < o + 53)) I0 I_26 := hf.call fr_29 (fun c hc => by first | exact hc | (dsimp only at hc ⊢; omega) | omega)
            have g_31 : (0 : Int) ≤ (I_26 (o + 31) 12).toInt ∧ (I_26 (o + 31) 12).toInt ≤ 1440 := hR_28.at0 (rsRun_4 ra) 12 (by decide)
            have g_32 : (0 : Int) ≤ (I_26 (o + 31) 13).toInt ∧ (I_26 (o + 31) 13).toInt ≤ 1440 := hR_28.at0 (rsRun_4 ra) 13 (by decide)
            unfold fRun_drawAt_105
            have a_34 : (x4 + Int32.ofInt 1).toInt = x4.toInt + (1) := tIc (by omega) (by omega) (by decide) (by decide)
            generalize ez_33 : (x4 + Int32.ofInt 1) = z_33 at a_34 ⊢
            exact ih hR_28 hf_30 (by first | omega | (intro h; omega) | exact Or.inl rfl | exact Or.inr rfl) (by first | omega | (intro h; omega) | exact Or.inl rfl | exact Or.inr rfl) (by first | omega | (intro h; omega) | exact Or.inl rfl | exact Or.inr rfl) (by first | omega | (intro h; omega) | exact Or.inl rfl | exact Or.inr rfl) (by first | omega | (intro h; omega) | exact Or.inl rfl | exact Or.inr rfl) (by first | omega | (intro h; omega) | exact Or.inl rfl | exact Or.inr rfl) u_25 (by omega)
          · have d_35 := iNle c_21
            exact (hp _ _ hR hf (by first | omega | (intro h; omega) | exact Or.inl rfl | exact Or.inr rfl) hi6)
set_option maxHeartbeats 4000000 in
set_option maxRecDepth 20000 in
theorem yRun_drawAt_8 {D : va_G} {cA : FieldType → ClassId} {b : Nat} {E : State → Prop} {R : qRg} {o n : Nat} {sh : Nat → qC} {Rf : Nat → Nat → Option Nat} {I0 : Nat → Nat → Int32} {L0 : Nat → Nat → Int64} {post : Option Value → qS → Prop} {uo_0 : Nat} {uo_1 : Nat} {p1 : Int32} (hok : q_ok (qGG D cA b E)) (hw : WfRun (qGG D cA b E) n sh Rf o) (ra : RARun R o) (hwuo_0 : WfLand (qGG D cA b E) n sh Rf uo_0) (rauo_0 : RALand R uo_0) (hwuo_1 : WfTrade (qGG D cA b E) n sh Rf uo_1) (rauo_1 : RATrade R uo_1) (huo_0 : Rf o 0 = some uo_0) (huo_1 : Rf o 1 = some uo_1) (hEN : qEN E) (hq0 : (0 : Int) ≤ p1.toInt ∧ p1.toInt ≤ 2) (hq1 : (I0 (o + 31) 13).toInt ≤ (I0 (o + 31) 12).toInt) (hq2 : LodOK I0 (o + 44)) (hp : ∀ (I' : Nat → Nat → Int32) (L' : Nat → Nat → Int64), RI R I' → Fm (fun c => (o + 24 ≤ c ∧ c < o + 53)) I0 I' → ((I' (o + 31) 13).toInt ≤ (I' (o + 31) 12).toInt) → (LodOK I' (o + 44)) → post none (n, sh, Rf, I', L')) : ∀ (k : Nat) {x1 : Int32} {x2 : Int32} {x3 : Int32} {I : Nat → Nat → Int32} {L : Nat → Nat → Int64}, RI R I → Fm (fun c => (o + 24 ≤ c ∧ c < o + 53)) I0 I → ((0 : Int) ≤ x1.toInt ∧ x1.toInt ≤ 2) → ((-1 : Int) ≤ x2.toInt ∧ x2.toInt ≤ 4) → ((0 : Int) ≤ x3.toInt ∧ x3.toInt ≤ 6) → ((I (o + 31) 13).toInt ≤ (I (o + 31) 12).toInt) → (LodOK I (o + 44)) → (6 - x3.toInt).toNat < k → Ev (qGG D cA b E) mRun_drawAt 4 (0, 0) 8 [(0, .ref o), (1, .int x1), (2, .int x2), (3, .int x3)] [] (n, sh, Rf, I, L) post := by
  intro k
  induction k with
  | zero =>
    intro x1 x2 x3 I L hR hf hi0 hi1 hi2 hi3 hi4 hm
    exact absurd hm (Nat.not_lt_zero _)
  | succ k ih =>
    intro x1 x2 x3 I L hR hf hi0 hi1 hi2 hi3 hi4 hm
    have g_36 : (0 : Int) ≤ (I (o + 31) 12).toInt ∧ (I (o + 31) 12).toInt ≤ 1440 := hR.at0 (rsRun_4 ra) 12 (by decide)
    have g_37 : (0 : Int) ≤ (I (o + 31) 13).toInt ∧ (I (o + 31) 13).toInt ≤ 1440 := hR.at0 (rsRun_4 ra) 13 (by decide)
    refine sRun_drawAt_8 o n sh Rf I L post x1 x2 x3 hok hw ?_
    unfold fRun_drawAt_8
    have g_38 : (0 : Int) ≤ (I (o + 19) 6).toInt ∧ (I (o + 19) 6).toInt ≤ 5 := hR.at0 (rsRun_2 ra) 6 (by decide)
    refine ⟨fun c_39 => ?_, fun c_39 => ?_⟩
    · have d_40 := iLt c_39
      exact (hp _ _ hR hf (by first | omega | (intro h; omega) | exact Or.inl rfl | exact Or.inr rfl) hi4)
    · have d_41 := iNlt c_39
      have l_42 : (0 : Int32).toInt = 0 := rfl
      exact yRun_drawAt_22 (I0 := I0) (L0 := L0) (p1 := p1) hok hw ra hwuo_0 rauo_0 hwuo_1 rauo_1 huo_0 huo_1 hEN hq0 hq1 hq2 hp ih _ hR hf (by first | omega | (intro h; omega) | exact Or.inl rfl | exact Or.inr rfl) (by first | omega | (intro h; omega) | exact Or.inl rfl | exact Or.inr rfl) (by first | omega | (intro h; omega) | exact Or.inl rfl | exact Or.inr rfl) (by first | omega | (intro h; omega) | exact Or.inl rfl | exact Or.inr rfl) (by first | omega | (intro h; omega) | exact Or.inl rfl | exact Or.inr rfl) (by first | omega | (intro h; omega) | exact Or.inl rfl | exact Or.inr rfl) hi4 (Nat.lt_succ_self _)
set_option maxHeartbeats 4000000 in
set_option maxRecDepth 20000 in
theorem y_Run_drawAt {D : va_G} {cA : FieldType → ClassId} {b : Nat} {E : State → Prop} {R : qRg} {o n : Nat} {sh : Nat → qC} {Rf : Nat → Nat → Option Nat} {I0 : Nat → Nat → Int32} {L0 : Nat → Nat → Int64} {post : Option Value → qS → Prop} {uo_0 : Nat} {uo_1 : Nat} {p1 : Int32} (hok : q_ok (qGG D cA b E)) (hw : WfRun (qGG D cA b E) n sh Rf o) (ra : RARun R o) (hwuo_0 : WfLand (qGG D cA b E) n sh Rf uo_0) (rauo_0 : RALand R uo_0) (hwuo_1 : WfTrade (qGG D cA b E) n sh Rf uo_1) (rauo_1 : RATrade R uo_1) (huo_0 : Rf o 0 = some uo_0) (huo_1 : Rf o 1 = some uo_1) (hEN : qEN E) (hq0 : (0 : Int) ≤ p1.toInt ∧ p1.toInt ≤ 2) (hq1 : (I0 (o + 31) 13).toInt ≤ (I0 (o + 31) 12).toInt) (hq2 : LodOK I0 (o + 44)) (hR : RI R I0) (hp : ∀ (I' : Nat → Nat → Int32) (L' : Nat → Nat → Int64), RI R I' → Fm (fun c => (o + 24 ≤ c ∧ c < o + 53)) I0 I' → ((I' (o + 31) 13).toInt ≤ (I' (o + 31) 12).toInt) → (LodOK I' (o + 44)) → post none (n, sh, Rf, I', L')) : Ev (qGG D cA b E) mRun_drawAt 4 (0, 0) 0 (lv_args 0 [.ref o, .int p1]) [] (n, sh, Rf, I0, L0) post := by
  have hf : Fm (fun c => (o + 24 ≤ c ∧ c < o + 53)) I0 I0 := Fm.rf
  have g_43 : (0 : Int) ≤ (I0 (o + 31) 12).toInt ∧ (I0 (o + 31) 12).toInt ≤ 1440 := hR.at0 (rsRun_4 ra) 12 (by decide)
  have g_44 : (0 : Int) ≤ (I0 (o + 31) 13).toInt ∧ (I0 (o + 31) 13).toInt ≤ 1440 := hR.at0 (rsRun_4 ra) 13 (by decide)
  refine sRun_drawAt_0 o n sh Rf I0 L0 post p1 hok hw ?_
  unfold fRun_drawAt_0
  refine y_Run_townFor hok hw ra hwuo_0 rauo_0 hwuo_1 rauo_1 huo_0 huo_1 hEN (by first | omega | (intro h; omega) | exact Or.inl rfl | exact Or.inr rfl) hR (fun r_45 L_47 u_46 => ⟨r_45, I0, L_47, rfl, rfl, ?_⟩)
  have l_48 : (0 : Int32).toInt = 0 := rfl
  exact yRun_drawAt_8 (I0 := I0) (L0 := L0) (p1 := p1) hok hw ra hwuo_0 rauo_0 hwuo_1 rauo_1 huo_0 huo_1 hEN hq0 hq1 hq2 hp  _ hR hf (by first | omega | (intro h; omega) | exact Or.inl rfl | exact Or.inr rfl) (by first | omega | (intro h; omega) | exact Or.inl rfl | exact Or.inr rfl) (by first | omega | (intro h; omega) | exact Or.inl rfl | exact Or.inr rfl) (by first | omega | (intro h; omega) | exact Or.inl rfl | exact Or.inr rfl) hq2 (Nat.lt_succ_self _)
set_option maxHeartbeats 4000000 in
set_option maxRecDepth 20000 in
theorem yRun_drawPapers_13 {D : va_G} {cA : FieldType → ClassId} {b : Nat} {E : State → Prop} {R : qRg} {o n : Nat} {sh : Nat → qC} {Rf : Nat → Nat → Option Nat} {I0 : Nat → Nat → Int32} {L0 : Nat → Nat → Int64} {post : Option Value → qS → Prop} {uo_0 : Nat} {uo_1 : Nat} (hok : q_ok (qGG D cA b E)) (hw : WfRun (qGG D cA b E) n sh Rf o) (ra : RARun R o) (hwuo_0 : WfLand (qGG D cA b E) n sh Rf uo_0) (rauo_0 : RALand R uo_0) (hwuo_1 : WfTrade (qGG D cA b E) n sh Rf uo_1) (rauo_1 : RATrade R uo_1) (huo_0 : Rf o 0 = some uo_0) (huo_1 : Rf o 1 = some uo_1) (hEN : qEN E) (hq0 : (I0 (o + 31) 13).toInt ≤ (I0 (o + 31) 12).toInt) (hq1 : LodOK I0 (o + 44)) (hp : ∀ (I' : Nat → Nat → Int32) (L' : Nat → Nat → Int64), RI R I' → Fm (fun c => c = o + 59 ∨ (o + 19 ≤ c ∧ c < o + 53)) I0 I' → ((I' (o + 31) 13).toInt ≤ (I' (o + 31) 12).toInt) → (LodOK I' (o + 44)) → post none (n, sh, Rf, I', L')) : ∀ (k : Nat) {x1 : Int32} {I : Nat → Nat → Int32} {L : Nat → Nat → Int64}, RI R I → Fm (fun c => c = o + 59 ∨ (o + 19 ≤ c ∧ c < o + 53)) I0 I → ((0 : Int) ≤ x1.toInt ∧ x1.toInt ≤ 3) → ((I (o + 31) 13).toInt ≤ (I (o + 31) 12).toInt) → (LodOK I (o + 44)) → (3 - x1.toInt).toNat < k → Ev (qGG D cA b E) mRun_drawPapers 5 (0, 0) 13 [(0, .ref o), (1, .int x1)] [] (n, sh, Rf, I, L) post := by
  intro k
  induction k with
  | zero =>
    intro x1 I L hR hf hi0 hi1 hi2 hm
    exact absurd hm (Nat.not_lt_zero _)
  | succ k ih =>
    intro x1 I L hR hf hi0 hi1 hi2 hm
    have g_1 : (0 : Int) ≤ (I (o + 31) 12).toInt ∧ (I (o + 31) 12).toInt ≤ 1440 := hR.at0 (rsRun_4 ra) 12 (by decide)
    have g_2 : (0 : Int) ≤ (I (o + 31) 13).toInt ∧ (I (o + 31) 13).toInt ≤ 1440 := hR.at0 (rsRun_4 ra) 13 (by decide)
    refine sRun_drawPapers_13 o n sh Rf I L post x1 uo_0 hok hw huo_0 hwuo_0 ?_
    unfold fRun_drawPapers_13
    have g_3 : (0 : Int) ≤ (I uo_0 2).toInt ∧ (I uo_0 2).toInt ≤ 3 := hR.at0 rauo_0 2 (by decide)
    refine ⟨fun c_4 => ?_, fun c_4 => ?_⟩
    · have d_5 := iLe c_4
      exact (hp _ _ hR hf (by first | omega | (intro h; omega) | exact Or.inl rfl | exact Or.inr rfl) hi2)
    · have d_6 := iNle c_4
      refine ⟨tIn (by omega) (by omega), ?_⟩
      have l_7 : (0 : Int32).toInt = 0 := rfl
      refine ⟨fun c_8 => ?_, fun c_8 => ?_⟩
      · have d_9 := iLe c_8
        unfold fRun_drawPapers_41
        have a_11 : (x1 + Int32.ofInt 1).toInt = x1.toInt + (1) := tIc (by omega) (by omega) (by decide) (by decide)
        generalize ez_10 : (x1 + Int32.ofInt 1) = z_10 at a_11 ⊢
        exact ih hR hf (by first | omega | (intro h; omega) | exact Or.inl rfl | exact Or.inr rfl) (by first | omega | (intro h; omega) | exact Or.inl rfl | exact Or.inr rfl) hi2 (by omega)
      · have d_12 := iNle c_8
        refine y_Run_drawAt hok hw ra hwuo_0 rauo_0 hwuo_1 rauo_1 huo_0 huo_1 hEN (by first | omega | (intro h; omega) | exact Or.inl rfl | exact Or.inr rfl) (by first | omega | (intro h; omega) | exact Or.inl rfl | exact Or.inr rfl) hi2 hR (fun I_16 L_17 hR_18 fr_19 u_14 u_15 => ⟨I_16, L_17, rfl, rfl, ?_⟩)
        have hf_20 : Fm (fun c => c = o + 59 ∨ (o + 19 ≤ c ∧ c < o + 53)) I0 I_16 := hf.call fr_19 (fun c hc => by first | exact hc | (dsimp only at hc ⊢; omega) | omega)
        have g_21 : (0 : Int) ≤ (I_16 (o + 31) 12).toInt ∧ (I_16 (o + 31) 12).toInt ≤ 1440 := hR_18.at0 (rsRun_4 ra) 12 (by decide)
        have g_22 : (0 : Int) ≤ (I_16 (o + 31) 13).toInt ∧ (I_16 (o + 31) 13).toInt ≤ 1440 := hR_18.at0 (rsRun_4 ra) 13 (by decide)
        have g_23 : (0 : Int) ≤ (I_16 uo_0 2).toInt ∧ (I_16 uo_0 2).toInt ≤ 3 := hR_18.at0 rauo_0 2 (by decide)
        unfold fRun_drawPapers_41
        have a_25 : (x1 + Int32.ofInt 1).toInt = x1.toInt + (1) := tIc (by omega) (by omega) (by decide) (by decide)
        generalize ez_24 : (x1 + Int32.ofInt 1) = z_24 at a_25 ⊢
        exact ih hR_18 hf_20 (by first | omega | (intro h; omega) | exact Or.inl rfl | exact Or.inr rfl) (by first | omega | (intro h; omega) | exact Or.inl rfl | exact Or.inr rfl) u_15 (by omega)
set_option maxHeartbeats 4000000 in
set_option maxRecDepth 20000 in
theorem y_Run_drawPapers {D : va_G} {cA : FieldType → ClassId} {b : Nat} {E : State → Prop} {R : qRg} {o n : Nat} {sh : Nat → qC} {Rf : Nat → Nat → Option Nat} {I0 : Nat → Nat → Int32} {L0 : Nat → Nat → Int64} {post : Option Value → qS → Prop} {uo_0 : Nat} {uo_1 : Nat} (hok : q_ok (qGG D cA b E)) (hw : WfRun (qGG D cA b E) n sh Rf o) (ra : RARun R o) (hwuo_0 : WfLand (qGG D cA b E) n sh Rf uo_0) (rauo_0 : RALand R uo_0) (hwuo_1 : WfTrade (qGG D cA b E) n sh Rf uo_1) (rauo_1 : RATrade R uo_1) (huo_0 : Rf o 0 = some uo_0) (huo_1 : Rf o 1 = some uo_1) (hEN : qEN E) (hq0 : (I0 (o + 31) 13).toInt ≤ (I0 (o + 31) 12).toInt) (hq1 : LodOK I0 (o + 44)) (hR : RI R I0) (hp : ∀ (I' : Nat → Nat → Int32) (L' : Nat → Nat → Int64), RI R I' → Fm (fun c => c = o + 59 ∨ (o + 19 ≤ c ∧ c < o + 53)) I0 I' → ((I' (o + 31) 13).toInt ≤ (I' (o + 31) 12).toInt) → (LodOK I' (o + 44)) → post none (n, sh, Rf, I', L')) : Ev (qGG D cA b E) mRun_drawPapers 5 (0, 0) 0 (lv_args 0 [.ref o]) [] (n, sh, Rf, I0, L0) post := by
  have hf : Fm (fun c => c = o + 59 ∨ (o + 19 ≤ c ∧ c < o + 53)) I0 I0 := Fm.rf
  have g_26 : (0 : Int) ≤ (I0 (o + 31) 12).toInt ∧ (I0 (o + 31) 12).toInt ≤ 1440 := hR.at0 (rsRun_4 ra) 12 (by decide)
  have g_27 : (0 : Int) ≤ (I0 (o + 31) 13).toInt ∧ (I0 (o + 31) 13).toInt ≤ 1440 := hR.at0 (rsRun_4 ra) 13 (by decide)
  refine sRun_drawPapers_0 o n sh Rf I0 L0 post uo_0 hok hw huo_0 hwuo_0 ?_
  unfold fRun_drawPapers_0
  refine y_Papers_closeQueue hok (wsRun_4 hw) (rsRun_4 ra) (by first | omega | (intro h; omega) | exact Or.inl rfl | exact Or.inr rfl) hR (fun I_30 L_31 hR_32 fr_33 u_29 => ⟨I_30, L_31, rfl, rfl, ?_⟩)
  have hf_34 : Fm (fun c => c = o + 59 ∨ (o + 19 ≤ c ∧ c < o + 53)) I0 I_30 := hf.call fr_33 (fun c hc => by first | exact hc | (dsimp only at hc ⊢; omega) | omega)
  have g_35 : (0 : Int) ≤ (I_30 (o + 31) 12).toInt ∧ (I_30 (o + 31) 12).toInt ≤ 1440 := hR_32.at0 (rsRun_4 ra) 12 (by decide)
  have g_36 : (0 : Int) ≤ (I_30 (o + 31) 13).toInt ∧ (I_30 (o + 31) 13).toInt ≤ 1440 := hR_32.at0 (rsRun_4 ra) 13 (by decide)
  have k_37 : LodOK I_30 (o + 44) := hq1.fr (fr_33 _ (by first | omega | (dsimp only; omega))) (fr_33 _ (by first | omega | (dsimp only; omega))) (fr_33 _ (by first | omega | (dsimp only; omega))) (by rw [fr_33 (o + 44) (by first | omega | (dsimp only; omega))])
  refine y_Run_classAll hok hw ra hwuo_0 rauo_0 hwuo_1 rauo_1 huo_0 huo_1 hR_32 (fun I_39 L_40 hR_41 fr_42  => ⟨I_39, L_40, rfl, rfl, ?_⟩)
  have hf_43 : Fm (fun c => c = o + 59 ∨ (o + 19 ≤ c ∧ c < o + 53)) I0 I_39 := hf_34.call fr_42 (fun c hc => by first | exact hc | (dsimp only at hc ⊢; omega) | omega)
  have t_44 : (I_39 (o + 31) 12).toInt = (I_30 (o + 31) 12).toInt := by rw [fr_42 (o + 31) (by first | omega | (dsimp only; omega))]
  have t_45 : (I_39 (o + 31) 13).toInt = (I_30 (o + 31) 13).toInt := by rw [fr_42 (o + 31) (by first | omega | (dsimp only; omega))]
  have k_46 : LodOK I_39 (o + 44) := k_37.fr (fr_42 _ (by first | omega | (dsimp only; omega))) (fr_42 _ (by first | omega | (dsimp only; omega))) (fr_42 _ (by first | omega | (dsimp only; omega))) (by rw [fr_42 (o + 44) (by first | omega | (dsimp only; omega))])
  have l_47 : (0 : Int32).toInt = 0 := rfl
  exact yRun_drawPapers_13 (I0 := I0) (L0 := L0) hok hw ra hwuo_0 rauo_0 hwuo_1 rauo_1 huo_0 huo_1 hEN hq0 hq1 hp  _ hR_41 hf_43 (by first | omega | (intro h; omega) | exact Or.inl rfl | exact Or.inr rfl) (by first | omega | (intro h; omega) | exact Or.inl rfl | exact Or.inr rfl) k_46 (Nat.lt_succ_self _)
set_option maxHeartbeats 4000000 in
set_option maxRecDepth 20000 in
theorem yRun_bury_60 {D : va_G} {cA : FieldType → ClassId} {b : Nat} {E : State → Prop} {R : qRg} {o n : Nat} {sh : Nat → qC} {Rf : Nat → Nat → Option Nat} {I0 : Nat → Nat → Int32} {L0 : Nat → Nat → Int64} {post : Option Value → qS → Prop} {uo_0 : Nat} {uo_1 : Nat} {p1 : Int32} (hok : q_ok (qGG D cA b E)) (hw : WfRun (qGG D cA b E) n sh Rf o) (ra : RARun R o) (hwuo_0 : WfLand (qGG D cA b E) n sh Rf uo_0) (rauo_0 : RALand R uo_0) (hwuo_1 : WfTrade (qGG D cA b E) n sh Rf uo_1) (rauo_1 : RATrade R uo_1) (huo_0 : Rf o 0 = some uo_0) (huo_1 : Rf o 1 = some uo_1) (hq0 : (0 : Int) ≤ p1.toInt ∧ p1.toInt ≤ 5) (hq1 : (I0 (o + 31) 13).toInt ≤ (I0 (o + 31) 12).toInt) (hq2 : LodOK I0 (o + 44)) (hp : ∀ (I' : Nat → Nat → Int32) (L' : Nat → Nat → Int64), RI R I' → Fm (fun c => (o + 31 ≤ c ∧ c < o + 53) ∨ c = o + 62) I0 I' → ((I' (o + 31) 13).toInt ≤ (I' (o + 31) 12).toInt) → (LodOK I' (o + 44)) → post none (n, sh, Rf, I', L')) : ∀ (k : Nat) {x1 : Int32} {x2 : Int32} {x3 : Int32} {I : Nat → Nat → Int32} {L : Nat → Nat → Int64}, RI R I → Fm (fun c => (o + 31 ≤ c ∧ c < o + 53) ∨ c = o + 62) I0 I → ((0 : Int) ≤ x1.toInt ∧ x1.toInt ≤ 5) → ((0 : Int) ≤ x3.toInt ∧ x3.toInt ≤ 3) → ((I (o + 31) 13).toInt ≤ (I (o + 31) 12).toInt) → (LodOK I (o + 44)) → (3 - x3.toInt).toNat < k → Ev (qGG D cA b E) mRun_bury 3 (0, 0) 60 [(0, .ref o), (1, .int x1), (2, .int x2), (3, .int x3)] [] (n, sh, Rf, I, L) post := by
  intro k
  induction k with
  | zero =>
    intro x1 x2 x3 I L hR hf hi0 hi1 hi2 hi3 hm
    exact absurd hm (Nat.not_lt_zero _)
  | succ k ih =>
    intro x1 x2 x3 I L hR hf hi0 hi1 hi2 hi3 hm
    have g_1 : (0 : Int) ≤ (I (o + 31) 12).toInt ∧ (I (o + 31) 12).toInt ≤ 1440 := hR.at0 (rsRun_4 ra) 12 (by decide)
    have g_2 : (0 : Int) ≤ (I (o + 31) 13).toInt ∧ (I (o + 31) 13).toInt ≤ 1440 := hR.at0 (rsRun_4 ra) 13 (by decide)
    refine sRun_bury_60 o n sh Rf I L post x1 x2 x3 hok hw ?_
    unfold fRun_bury_60
    have l_3 : (3 : Int32).toInt = 3 := rfl
    refine ⟨fun c_4 => ?_, fun c_4 => ?_⟩
    · have d_5 := iLe c_4
      exact (hp _ _ hR hf (by first | omega | (intro h; omega) | exact Or.inl rfl | exact Or.inr rfl) hi3)
    · have d_6 := iNle c_4
      have a_7 : (x1 * 3).toInt = x1.toInt * 3 := tMul rfl (by omega) (by omega)
      have a_8 : ((x1 * 3) + x3).toInt = (x1 * 3).toInt + x3.toInt := tAdd (by omega) (by omega)
      have l_9 : (-1 : Int32).toInt = -1 := rfl
      refine ⟨tIn (by omega) (by omega), fun I_10 e_11 => ?_⟩
      have hR_12 : RI R I_10 := hR.up ra 62 (by decide) (Or.inl rfl) e_11 (i_lo _) (i_hi _)
      have hf_13 : Fm (fun c => (o + 31 ≤ c ∧ c < o + 53) ∨ c = o + 62) I0 I_10 := hf.set (by first | rfl | omega | (dsimp only; omega)) e_11
      have t_14 : (I_10 (o + 31) 12).toInt = (I (o + 31) 12).toInt := by rw [← e_11, q_u_ne (by omega)]
      have t_15 : (I_10 (o + 31) 13).toInt = (I (o + 31) 13).toInt := by rw [← e_11, q_u_ne (by omega)]
      have k_16 : LodOK I_10 (o + 44) := hi3.fr (by rw [← e_11]; exact q_u_ne (by omega)) (by rw [← e_11]; exact q_u_ne (by omega)) (by rw [← e_11]; exact q_u_ne (by omega)) (by rw [← e_11, q_u_ne (by omega)])
      have a_18 : (x3 + Int32.ofInt 1).toInt = x3.toInt + (1) := tIc (by omega) (by omega) (by decide) (by decide)
      generalize ez_17 : (x3 + Int32.ofInt 1) = z_17 at a_18 ⊢
      exact ih hR_12 hf_13 (by first | omega | (intro h; omega) | exact Or.inl rfl | exact Or.inr rfl) (by first | omega | (intro h; omega) | exact Or.inl rfl | exact Or.inr rfl) (by first | omega | (intro h; omega) | exact Or.inl rfl | exact Or.inr rfl) k_16 (by omega)
set_option maxHeartbeats 4000000 in
set_option maxRecDepth 20000 in
theorem y_Run_bury {D : va_G} {cA : FieldType → ClassId} {b : Nat} {E : State → Prop} {R : qRg} {o n : Nat} {sh : Nat → qC} {Rf : Nat → Nat → Option Nat} {I0 : Nat → Nat → Int32} {L0 : Nat → Nat → Int64} {post : Option Value → qS → Prop} {uo_0 : Nat} {uo_1 : Nat} {p1 : Int32} (hok : q_ok (qGG D cA b E)) (hw : WfRun (qGG D cA b E) n sh Rf o) (ra : RARun R o) (hwuo_0 : WfLand (qGG D cA b E) n sh Rf uo_0) (rauo_0 : RALand R uo_0) (hwuo_1 : WfTrade (qGG D cA b E) n sh Rf uo_1) (rauo_1 : RATrade R uo_1) (huo_0 : Rf o 0 = some uo_0) (huo_1 : Rf o 1 = some uo_1) (hq0 : (0 : Int) ≤ p1.toInt ∧ p1.toInt ≤ 5) (hq1 : (I0 (o + 31) 13).toInt ≤ (I0 (o + 31) 12).toInt) (hq2 : LodOK I0 (o + 44)) (hR : RI R I0) (hp : ∀ (I' : Nat → Nat → Int32) (L' : Nat → Nat → Int64), RI R I' → Fm (fun c => (o + 31 ≤ c ∧ c < o + 53) ∨ c = o + 62) I0 I' → ((I' (o + 31) 13).toInt ≤ (I' (o + 31) 12).toInt) → (LodOK I' (o + 44)) → post none (n, sh, Rf, I', L')) : Ev (qGG D cA b E) mRun_bury 3 (0, 0) 0 (lv_args 0 [.ref o, .int p1]) [] (n, sh, Rf, I0, L0) post := by
  have hf : Fm (fun c => (o + 31 ≤ c ∧ c < o + 53) ∨ c = o + 62) I0 I0 := Fm.rf
  have g_19 : (0 : Int) ≤ (I0 (o + 31) 12).toInt ∧ (I0 (o + 31) 12).toInt ≤ 1440 := hR.at0 (rsRun_4 ra) 12 (by decide)
  have g_20 : (0 : Int) ≤ (I0 (o + 31) 13).toInt ∧ (I0 (o + 31) 13).toInt ≤ 1440 := hR.at0 (rsRun_4 ra) 13 (by decide)
  refine sRun_bury_0 o n sh Rf I0 L0 post p1 hok hw ?_
  unfold fRun_bury_0
  refine ⟨tIn (by omega) (by omega), ?_⟩
  have g_21 : (-1 : Int) ≤ (I0 (o + 64) (p1 : Int32).toNatClampNeg).toInt ∧ (I0 (o + 64) (p1 : Int32).toNatClampNeg).toInt ≤ 5 := hR.at ra 64 _ (by decide)
  have l_22 : (-1 : Int32).toInt = -1 := rfl
  refine ⟨fun c_23 => ?_, fun c_23 => ?_⟩
  · have d_24 := iEq c_23
    unfold fRun_bury_22
    refine ⟨tIn (by omega) (by omega), ?_⟩
    refine y_Run_payTo hok hw ra (by first | omega | (intro h; omega) | exact Or.inl rfl | exact Or.inr rfl) hR (fun L_26  => ⟨I0, L_26, rfl, rfl, ?_⟩)
    have l_27 : (0 : Int32).toInt = 0 := rfl
    refine ⟨tIn (by omega) (by omega), fun L_28 e_29 => ?_⟩
    refine y_Papers_leaveTo hok (wsRun_4 hw) (rsRun_4 ra) (by first | omega | (intro h; omega) | exact Or.inl rfl | exact Or.inr rfl) (by first | omega | (intro h; omega) | exact Or.inl rfl | exact Or.inr rfl) hR (fun I_32 L_33 hR_34 fr_35 u_31 => ⟨I_32, L_33, rfl, rfl, ?_⟩)
    have hf_36 : Fm (fun c => (o + 31 ≤ c ∧ c < o + 53) ∨ c = o + 62) I0 I_32 := hf.call fr_35 (fun c hc => by first | exact hc | (dsimp only at hc ⊢; omega) | omega)
    have g_37 : (0 : Int) ≤ (I_32 (o + 31) 12).toInt ∧ (I_32 (o + 31) 12).toInt ≤ 1440 := hR_34.at0 (rsRun_4 ra) 12 (by decide)
    have g_38 : (0 : Int) ≤ (I_32 (o + 31) 13).toInt ∧ (I_32 (o + 31) 13).toInt ≤ 1440 := hR_34.at0 (rsRun_4 ra) 13 (by decide)
    have k_39 : LodOK I_32 (o + 44) := hq2.fr (fr_35 _ (by first | omega | (dsimp only; omega))) (fr_35 _ (by first | omega | (dsimp only; omega))) (fr_35 _ (by first | omega | (dsimp only; omega))) (by rw [fr_35 (o + 44) (by first | omega | (dsimp only; omega))])
    refine y_Loads_leaveTo hok (wsRun_5 hw) (rsRun_5 ra) (by first | omega | (intro h; omega) | exact Or.inl rfl | exact Or.inr rfl) k_39 hR_34 (fun I_42 L_43 hR_44 fr_45 u_41 => ⟨I_42, L_43, rfl, rfl, ?_⟩)
    have hf_46 : Fm (fun c => (o + 31 ≤ c ∧ c < o + 53) ∨ c = o + 62) I0 I_42 := hf_36.call fr_45 (fun c hc => by first | exact hc | (dsimp only at hc ⊢; omega) | omega)
    have t_47 : (I_42 (o + 31) 12).toInt = (I_32 (o + 31) 12).toInt := by rw [fr_45 (o + 31) (by first | omega | (dsimp only; omega))]
    have t_48 : (I_42 (o + 31) 13).toInt = (I_32 (o + 31) 13).toInt := by rw [fr_45 (o + 31) (by first | omega | (dsimp only; omega))]
    exact yRun_bury_60 (I0 := I0) (L0 := L0) (p1 := p1) hok hw ra hwuo_0 rauo_0 hwuo_1 rauo_1 huo_0 huo_1 hq0 hq1 hq2 hp  _ hR_44 hf_46 (by first | omega | (intro h; omega) | exact Or.inl rfl | exact Or.inr rfl) (by first | omega | (intro h; omega) | exact Or.inl rfl | exact Or.inr rfl) (by first | omega | (intro h; omega) | exact Or.inl rfl | exact Or.inr rfl) u_41 (Nat.lt_succ_self _)
  · have d_49 := iNe c_23
    refine y_Run_isDead hok hw ra (by first | omega | (intro h; omega) | exact Or.inl rfl | exact Or.inr rfl) hR (fun r_50 u_51 => ⟨r_50, I0, L0, rfl, rfl, ?_⟩)
    have b_52 : 0 ≤ r_50.toInt ∧ r_50.toInt ≤ 1 := u_51.rg
    have l_53 : (0 : Int32).toInt = 0 := rfl
    refine ⟨fun c_54 => ?_, fun c_54 => ?_⟩
    · have d_55 := iEq c_54
      unfold fRun_bury_22
      refine ⟨tIn (by omega) (by omega), ?_⟩
      refine y_Run_payTo hok hw ra (by first | omega | (intro h; omega) | exact Or.inl rfl | exact Or.inr rfl) hR (fun L_57  => ⟨I0, L_57, rfl, rfl, ?_⟩)
      refine ⟨tIn (by omega) (by omega), fun L_58 e_59 => ?_⟩
      refine y_Papers_leaveTo hok (wsRun_4 hw) (rsRun_4 ra) (by first | omega | (intro h; omega) | exact Or.inl rfl | exact Or.inr rfl) (by first | omega | (intro h; omega) | exact Or.inl rfl | exact Or.inr rfl) hR (fun I_62 L_63 hR_64 fr_65 u_61 => ⟨I_62, L_63, rfl, rfl, ?_⟩)
      have hf_66 : Fm (fun c => (o + 31 ≤ c ∧ c < o + 53) ∨ c = o + 62) I0 I_62 := hf.call fr_65 (fun c hc => by first | exact hc | (dsimp only at hc ⊢; omega) | omega)
      have g_67 : (0 : Int) ≤ (I_62 (o + 31) 12).toInt ∧ (I_62 (o + 31) 12).toInt ≤ 1440 := hR_64.at0 (rsRun_4 ra) 12 (by decide)
      have g_68 : (0 : Int) ≤ (I_62 (o + 31) 13).toInt ∧ (I_62 (o + 31) 13).toInt ≤ 1440 := hR_64.at0 (rsRun_4 ra) 13 (by decide)
      have k_69 : LodOK I_62 (o + 44) := hq2.fr (fr_65 _ (by first | omega | (dsimp only; omega))) (fr_65 _ (by first | omega | (dsimp only; omega))) (fr_65 _ (by first | omega | (dsimp only; omega))) (by rw [fr_65 (o + 44) (by first | omega | (dsimp only; omega))])
      refine y_Loads_leaveTo hok (wsRun_5 hw) (rsRun_5 ra) (by first | omega | (intro h; omega) | exact Or.inl rfl | exact Or.inr rfl) k_69 hR_64 (fun I_72 L_73 hR_74 fr_75 u_71 => ⟨I_72, L_73, rfl, rfl, ?_⟩)
      have hf_76 : Fm (fun c => (o + 31 ≤ c ∧ c < o + 53) ∨ c = o + 62) I0 I_72 := hf_66.call fr_75 (fun c hc => by first | exact hc | (dsimp only at hc ⊢; omega) | omega)
      have t_77 : (I_72 (o + 31) 12).toInt = (I_62 (o + 31) 12).toInt := by rw [fr_75 (o + 31) (by first | omega | (dsimp only; omega))]
      have t_78 : (I_72 (o + 31) 13).toInt = (I_62 (o + 31) 13).toInt := by rw [fr_75 (o + 31) (by first | omega | (dsimp only; omega))]
      exact yRun_bury_60 (I0 := I0) (L0 := L0) (p1 := p1) hok hw ra hwuo_0 rauo_0 hwuo_1 rauo_1 huo_0 huo_1 hq0 hq1 hq2 hp  _ hR_74 hf_76 (by first | omega | (intro h; omega) | exact Or.inl rfl | exact Or.inr rfl) (by first | omega | (intro h; omega) | exact Or.inl rfl | exact Or.inr rfl) (by first | omega | (intro h; omega) | exact Or.inl rfl | exact Or.inr rfl) u_71 (Nat.lt_succ_self _)
    · have d_79 := iNe c_54
      unfold fRun_bury_22
      refine ⟨tIn (by omega) (by omega), ?_⟩
      refine y_Run_payTo hok hw ra (by first | omega | (intro h; omega) | exact Or.inl rfl | exact Or.inr rfl) hR (fun L_81  => ⟨I0, L_81, rfl, rfl, ?_⟩)
      refine ⟨tIn (by omega) (by omega), fun L_82 e_83 => ?_⟩
      refine y_Papers_leaveTo hok (wsRun_4 hw) (rsRun_4 ra) (by first | omega | (intro h; omega) | exact Or.inl rfl | exact Or.inr rfl) (by first | omega | (intro h; omega) | exact Or.inl rfl | exact Or.inr rfl) hR (fun I_86 L_87 hR_88 fr_89 u_85 => ⟨I_86, L_87, rfl, rfl, ?_⟩)
      have hf_90 : Fm (fun c => (o + 31 ≤ c ∧ c < o + 53) ∨ c = o + 62) I0 I_86 := hf.call fr_89 (fun c hc => by first | exact hc | (dsimp only at hc ⊢; omega) | omega)
      have g_91 : (0 : Int) ≤ (I_86 (o + 31) 12).toInt ∧ (I_86 (o + 31) 12).toInt ≤ 1440 := hR_88.at0 (rsRun_4 ra) 12 (by decide)
      have g_92 : (0 : Int) ≤ (I_86 (o + 31) 13).toInt ∧ (I_86 (o + 31) 13).toInt ≤ 1440 := hR_88.at0 (rsRun_4 ra) 13 (by decide)
      have k_93 : LodOK I_86 (o + 44) := hq2.fr (fr_89 _ (by first | omega | (dsimp only; omega))) (fr_89 _ (by first | omega | (dsimp only; omega))) (fr_89 _ (by first | omega | (dsimp only; omega))) (by rw [fr_89 (o + 44) (by first | omega | (dsimp only; omega))])
      refine y_Loads_leaveTo hok (wsRun_5 hw) (rsRun_5 ra) (by first | omega | (intro h; omega) | exact Or.inl rfl | exact Or.inr rfl) k_93 hR_88 (fun I_96 L_97 hR_98 fr_99 u_95 => ⟨I_96, L_97, rfl, rfl, ?_⟩)
      have hf_100 : Fm (fun c => (o + 31 ≤ c ∧ c < o + 53) ∨ c = o + 62) I0 I_96 := hf_90.call fr_99 (fun c hc => by first | exact hc | (dsimp only at hc ⊢; omega) | omega)
      have t_101 : (I_96 (o + 31) 12).toInt = (I_86 (o + 31) 12).toInt := by rw [fr_99 (o + 31) (by first | omega | (dsimp only; omega))]
      have t_102 : (I_96 (o + 31) 13).toInt = (I_86 (o + 31) 13).toInt := by rw [fr_99 (o + 31) (by first | omega | (dsimp only; omega))]
      exact yRun_bury_60 (I0 := I0) (L0 := L0) (p1 := p1) hok hw ra hwuo_0 rauo_0 hwuo_1 rauo_1 huo_0 huo_1 hq0 hq1 hq2 hp  _ hR_98 hf_100 (by first | omega | (intro h; omega) | exact Or.inl rfl | exact Or.inr rfl) (by first | omega | (intro h; omega) | exact Or.inl rfl | exact Or.inr rfl) (by first | omega | (intro h; omega) | exact Or.inl rfl | exact Or.inr rfl) u_95 (Nat.lt_succ_self _)
set_option maxHeartbeats 4000000 in
set_option maxRecDepth 20000 in
theorem yRun_buryDead_2 {D : va_G} {cA : FieldType → ClassId} {b : Nat} {E : State → Prop} {R : qRg} {o n : Nat} {sh : Nat → qC} {Rf : Nat → Nat → Option Nat} {I0 : Nat → Nat → Int32} {L0 : Nat → Nat → Int64} {post : Option Value → qS → Prop} {uo_1 : Nat} {uo_0 : Nat} (hok : q_ok (qGG D cA b E)) (hw : WfRun (qGG D cA b E) n sh Rf o) (ra : RARun R o) (hwuo_1 : WfTrade (qGG D cA b E) n sh Rf uo_1) (rauo_1 : RATrade R uo_1) (hwuo_0 : WfLand (qGG D cA b E) n sh Rf uo_0) (rauo_0 : RALand R uo_0) (huo_1 : Rf o 1 = some uo_1) (huo_0 : Rf o 0 = some uo_0) (hq0 : (I0 (o + 31) 13).toInt ≤ (I0 (o + 31) 12).toInt) (hq1 : LodOK I0 (o + 44)) (hp : ∀ (I' : Nat → Nat → Int32) (L' : Nat → Nat → Int64), RI R I' → Fm (fun c => (o + 31 ≤ c ∧ c < o + 53) ∨ c = o + 62) I0 I' → ((I' (o + 31) 13).toInt ≤ (I' (o + 31) 12).toInt) → (LodOK I' (o + 44)) → post none (n, sh, Rf, I', L')) : ∀ (k : Nat) {x1 : Int32} {I : Nat → Nat → Int32} {L : Nat → Nat → Int64}, RI R I → Fm (fun c => (o + 31 ≤ c ∧ c < o + 53) ∨ c = o + 62) I0 I → ((0 : Int) ≤ x1.toInt ∧ x1.toInt ≤ 6) → ((I (o + 31) 13).toInt ≤ (I (o + 31) 12).toInt) → (LodOK I (o + 44)) → (6 - x1.toInt).toNat < k → Ev (qGG D cA b E) mRun_buryDead 4 (0, 0) 2 [(0, .ref o), (1, .int x1)] [] (n, sh, Rf, I, L) post := by
  intro k
  induction k with
  | zero =>
    intro x1 I L hR hf hi0 hi1 hi2 hm
    exact absurd hm (Nat.not_lt_zero _)
  | succ k ih =>
    intro x1 I L hR hf hi0 hi1 hi2 hm
    have g_1 : (0 : Int) ≤ (I (o + 31) 12).toInt ∧ (I (o + 31) 12).toInt ≤ 1440 := hR.at0 (rsRun_4 ra) 12 (by decide)
    have g_2 : (0 : Int) ≤ (I (o + 31) 13).toInt ∧ (I (o + 31) 13).toInt ≤ 1440 := hR.at0 (rsRun_4 ra) 13 (by decide)
    refine sRun_buryDead_2 o n sh Rf I L post x1 uo_1 hok hw huo_1 hwuo_1 ?_
    unfold fRun_buryDead_2
    have g_3 : (0 : Int) ≤ (I uo_1 1).toInt ∧ (I uo_1 1).toInt ≤ 6 := hR.at0 rauo_1 1 (by decide)
    refine ⟨fun c_4 => ?_, fun c_4 => ?_⟩
    · have d_5 := iLe c_4
      exact (hp _ _ hR hf (by first | omega | (intro h; omega) | exact Or.inl rfl | exact Or.inr rfl) hi2)
    · have d_6 := iNle c_4
      refine ⟨tIn (by omega) (by omega), ?_⟩
      have g_7 : (0 : Int) ≤ (I o 17).toInt ∧ (I o 17).toInt ≤ 240 := hR.at0 ra 17 (by decide)
      refine ⟨fun c_8 => ?_, fun c_8 => ?_⟩
      · have d_9 := iNe c_8
        unfold fRun_buryDead_31
        have a_11 : (x1 + Int32.ofInt 1).toInt = x1.toInt + (1) := tIc (by omega) (by omega) (by decide) (by decide)
        generalize ez_10 : (x1 + Int32.ofInt 1) = z_10 at a_11 ⊢
        exact ih hR hf (by first | omega | (intro h; omega) | exact Or.inl rfl | exact Or.inr rfl) (by first | omega | (intro h; omega) | exact Or.inl rfl | exact Or.inr rfl) hi2 (by omega)
      · have d_12 := iEq c_8
        refine y_Run_bury hok hw ra hwuo_0 rauo_0 hwuo_1 rauo_1 huo_0 huo_1 (by first | omega | (intro h; omega) | exact Or.inl rfl | exact Or.inr rfl) (by first | omega | (intro h; omega) | exact Or.inl rfl | exact Or.inr rfl) hi2 hR (fun I_16 L_17 hR_18 fr_19 u_14 u_15 => ⟨I_16, L_17, rfl, rfl, ?_⟩)
        have hf_20 : Fm (fun c => (o + 31 ≤ c ∧ c < o + 53) ∨ c = o + 62) I0 I_16 := hf.call fr_19 (fun c hc => by first | exact hc | (dsimp only at hc ⊢; omega) | omega)
        have g_21 : (0 : Int) ≤ (I_16 (o + 31) 12).toInt ∧ (I_16 (o + 31) 12).toInt ≤ 1440 := hR_18.at0 (rsRun_4 ra) 12 (by decide)
        have g_22 : (0 : Int) ≤ (I_16 (o + 31) 13).toInt ∧ (I_16 (o + 31) 13).toInt ≤ 1440 := hR_18.at0 (rsRun_4 ra) 13 (by decide)
        have g_23 : (0 : Int) ≤ (I_16 uo_1 1).toInt ∧ (I_16 uo_1 1).toInt ≤ 6 := hR_18.at0 rauo_1 1 (by decide)
        have t_24 : (I_16 o 17).toInt = (I o 17).toInt := by rw [fr_19 o (by first | omega | (dsimp only; omega))]
        unfold fRun_buryDead_31
        have a_26 : (x1 + Int32.ofInt 1).toInt = x1.toInt + (1) := tIc (by omega) (by omega) (by decide) (by decide)
        generalize ez_25 : (x1 + Int32.ofInt 1) = z_25 at a_26 ⊢
        exact ih hR_18 hf_20 (by first | omega | (intro h; omega) | exact Or.inl rfl | exact Or.inr rfl) (by first | omega | (intro h; omega) | exact Or.inl rfl | exact Or.inr rfl) u_15 (by omega)
set_option maxHeartbeats 4000000 in
set_option maxRecDepth 20000 in
theorem y_Run_buryDead {D : va_G} {cA : FieldType → ClassId} {b : Nat} {E : State → Prop} {R : qRg} {o n : Nat} {sh : Nat → qC} {Rf : Nat → Nat → Option Nat} {I0 : Nat → Nat → Int32} {L0 : Nat → Nat → Int64} {post : Option Value → qS → Prop} {uo_1 : Nat} {uo_0 : Nat} (hok : q_ok (qGG D cA b E)) (hw : WfRun (qGG D cA b E) n sh Rf o) (ra : RARun R o) (hwuo_1 : WfTrade (qGG D cA b E) n sh Rf uo_1) (rauo_1 : RATrade R uo_1) (hwuo_0 : WfLand (qGG D cA b E) n sh Rf uo_0) (rauo_0 : RALand R uo_0) (huo_1 : Rf o 1 = some uo_1) (huo_0 : Rf o 0 = some uo_0) (hq0 : (I0 (o + 31) 13).toInt ≤ (I0 (o + 31) 12).toInt) (hq1 : LodOK I0 (o + 44)) (hR : RI R I0) (hp : ∀ (I' : Nat → Nat → Int32) (L' : Nat → Nat → Int64), RI R I' → Fm (fun c => (o + 31 ≤ c ∧ c < o + 53) ∨ c = o + 62) I0 I' → ((I' (o + 31) 13).toInt ≤ (I' (o + 31) 12).toInt) → (LodOK I' (o + 44)) → post none (n, sh, Rf, I', L')) : Ev (qGG D cA b E) mRun_buryDead 4 (0, 0) 0 (lv_args 0 [.ref o]) [] (n, sh, Rf, I0, L0) post := by
  have hf : Fm (fun c => (o + 31 ≤ c ∧ c < o + 53) ∨ c = o + 62) I0 I0 := Fm.rf
  have g_27 : (0 : Int) ≤ (I0 (o + 31) 12).toInt ∧ (I0 (o + 31) 12).toInt ≤ 1440 := hR.at0 (rsRun_4 ra) 12 (by decide)
  have g_28 : (0 : Int) ≤ (I0 (o + 31) 13).toInt ∧ (I0 (o + 31) 13).toInt ≤ 1440 := hR.at0 (rsRun_4 ra) 13 (by decide)
  refine sRun_buryDead_0 o n sh Rf I0 L0 post uo_1 hok hw huo_1 hwuo_1 ?_
  unfold fRun_buryDead_0
  have l_29 : (0 : Int32).toInt = 0 := rfl
  exact yRun_buryDead_2 (I0 := I0) (L0 := L0) hok hw ra hwuo_1 rauo_1 hwuo_0 rauo_0 huo_1 huo_0 hq0 hq1 hp  _ hR hf (by first | omega | (intro h; omega) | exact Or.inl rfl | exact Or.inr rfl) (by first | omega | (intro h; omega) | exact Or.inl rfl | exact Or.inr rfl) hq1 (Nat.lt_succ_self _)
set_option maxHeartbeats 4000000 in
set_option maxRecDepth 20000 in
theorem yRun_makeSalt_2 {D : va_G} {cA : FieldType → ClassId} {b : Nat} {E : State → Prop} {R : qRg} {o n : Nat} {sh : Nat → qC} {Rf : Nat → Nat → Option Nat} {I0 : Nat → Nat → Int32} {L0 : Nat → Nat → Int64} {post : Option Value → qS → Prop} {x1 : Nat} {uo_0 : Nat} {uo_1 : Nat} {p2 : Int32} (hok : q_ok (qGG D cA b E)) (hw : WfRun (qGG D cA b E) n sh Rf o) (ra : RARun R o) (hw1 : WfFacts (qGG D cA b E) n sh Rf x1) (ra1 : RAFacts R x1) (hwuo_0 : WfLand (qGG D cA b E) n sh Rf uo_0) (rauo_0 : RALand R uo_0) (hwuo_1 : WfTrade (qGG D cA b E) n sh Rf uo_1) (rauo_1 : RATrade R uo_1) (huo_0 : Rf o 0 = some uo_0) (huo_1 : Rf o 1 = some uo_1) (hp : ∀ (I' : Nat → Nat → Int32) (L' : Nat → Nat → Int64), RI R I' → Fm (fun c => (o + 24 ≤ c ∧ c < o + 31)) I0 I' → post none (n, sh, Rf, I', L')) : ∀ (k : Nat) {x2 : Int32} {x3 : Int32} {I : Nat → Nat → Int32} {L : Nat → Nat → Int64}, RI R I → Fm (fun c => (o + 24 ≤ c ∧ c < o + 31)) I0 I → ((0 : Int) ≤ x3.toInt ∧ x3.toInt ≤ 3) → (3 - x3.toInt).toNat < k → Ev (qGG D cA b E) mRun_makeSalt 2 (0, 0) 2 [(0, .ref o), (1, .ref x1), (2, .int x2), (3, .int x3)] [] (n, sh, Rf, I, L) post := by
  intro k
  induction k with
  | zero =>
    intro x2 x3 I L hR hf hi0 hm
    exact absurd hm (Nat.not_lt_zero _)
  | succ k ih =>
    intro x2 x3 I L hR hf hi0 hm
    refine sRun_makeSalt_2 o n sh Rf I L post x1 x2 x3 uo_0 hok hw hw1 huo_0 hwuo_0 ?_
    unfold fRun_makeSalt_2
    have g_1 : (0 : Int) ≤ (I uo_0 2).toInt ∧ (I uo_0 2).toInt ≤ 3 := hR.at0 rauo_0 2 (by decide)
    refine ⟨fun c_2 => ?_, fun c_2 => ?_⟩
    · have d_3 := iLe c_2
      exact (hp _ _ hR hf )
    · have d_4 := iNle c_2
      have l_5 : (12 : Int32).toInt = 12 := rfl
      have a_6 : (x3 * 12).toInt = x3.toInt * 12 := tMul rfl (by omega) (by omega)
      have g_7 : (0 : Int) ≤ (I o 17).toInt ∧ (I o 17).toInt ≤ 240 := hR.at0 ra 17 (by decide)
      have q_8 : ((I o 17) / 12 : Int32).toInt = (I o 17).toInt / 12 := tDiv rfl (by decide) (by omega)
      have q_9 : ((I o 17) / 12 * 12 : Int32).toInt = (I o 17).toInt / 12 * 12 := (tMul (c := 12) rfl (by omega) (by omega)).trans (by omega)
      have q_10 : ((I o 17) - (I o 17) / 12 * 12).toInt = (I o 17).toInt - (I o 17).toInt / 12 * 12 := (tSub (by omega) (by omega)).trans (by omega)
      have a_11 : ((x3 * 12) + ((I o 17) - (I o 17) / 12 * 12)).toInt = (x3 * 12).toInt + ((I o 17) - (I o 17) / 12 * 12).toInt := tAdd (by omega) (by omega)
      refine ⟨tIn (by omega) (by omega), ?_⟩
      refine ⟨tIn (by omega) (by omega), ?_⟩
      have g_12 : (0 : Int) ≤ (I o 17).toInt ∧ (I o 17).toInt ≤ 240 := hR.at0 ra 17 (by decide)
      refine y_Facts_saltByWeather hok hw1 ra1 hR (fun r_13  => ⟨r_13, I, L, rfl, rfl, ?_⟩)
      refine ⟨tIn (by omega) (by omega), fun I_14 e_15 => ?_⟩
      have hR_16 : RI R I_14 := hR.up (rsRun_3 ra) 3 (by decide) (Or.inl rfl) e_15 (i_lo _) (i_hi _)
      have hf_17 : Fm (fun c => (o + 24 ≤ c ∧ c < o + 31)) I0 I_14 := hf.set (by first | rfl | omega | (dsimp only; omega)) e_15
      have t_18 : (I_14 uo_0 2).toInt = (I uo_0 2).toInt := by rw [← e_15, q_u_ne (sh_ne_a (hwuo_0).1.2.2 (waRealm_2 (I := I0) (L := L0) (wsRun_3 hw)).2.2)]
      have t_19 : (I_14 o 17).toInt = (I o 17).toInt := by rw [← e_15, q_u_ne (by omega)]
      have a_21 : (x3 + Int32.ofInt 1).toInt = x3.toInt + (1) := tIc (by omega) (by omega) (by decide) (by decide)
      generalize ez_20 : (x3 + Int32.ofInt 1) = z_20 at a_21 ⊢
      exact ih hR_16 hf_17 (by first | omega | (intro h; omega) | exact Or.inl rfl | exact Or.inr rfl) (by omega)
set_option maxHeartbeats 4000000 in
set_option maxRecDepth 20000 in
theorem y_Run_makeSalt {D : va_G} {cA : FieldType → ClassId} {b : Nat} {E : State → Prop} {R : qRg} {o n : Nat} {sh : Nat → qC} {Rf : Nat → Nat → Option Nat} {I0 : Nat → Nat → Int32} {L0 : Nat → Nat → Int64} {post : Option Value → qS → Prop} {x1 : Nat} {uo_0 : Nat} {uo_1 : Nat} {p2 : Int32} (hok : q_ok (qGG D cA b E)) (hw : WfRun (qGG D cA b E) n sh Rf o) (ra : RARun R o) (hw1 : WfFacts (qGG D cA b E) n sh Rf x1) (ra1 : RAFacts R x1) (hwuo_0 : WfLand (qGG D cA b E) n sh Rf uo_0) (rauo_0 : RALand R uo_0) (hwuo_1 : WfTrade (qGG D cA b E) n sh Rf uo_1) (rauo_1 : RATrade R uo_1) (huo_0 : Rf o 0 = some uo_0) (huo_1 : Rf o 1 = some uo_1) (hR : RI R I0) (hp : ∀ (I' : Nat → Nat → Int32) (L' : Nat → Nat → Int64), RI R I' → Fm (fun c => (o + 24 ≤ c ∧ c < o + 31)) I0 I' → post none (n, sh, Rf, I', L')) : Ev (qGG D cA b E) mRun_makeSalt 2 (0, 0) 0 (lv_args 0 [.ref o, .ref x1, .int p2]) [] (n, sh, Rf, I0, L0) post := by
  have hf : Fm (fun c => (o + 24 ≤ c ∧ c < o + 31)) I0 I0 := Fm.rf
  refine sRun_makeSalt_0 o n sh Rf I0 L0 post x1 p2 uo_0 hok hw hw1 huo_0 hwuo_0 ?_
  unfold fRun_makeSalt_0
  have l_22 : (0 : Int32).toInt = 0 := rfl
  exact yRun_makeSalt_2 (I0 := I0) (L0 := L0) (p2 := p2) hok hw ra hw1 ra1 hwuo_0 rauo_0 hwuo_1 rauo_1 huo_0 huo_1 hp  _ hR hf (by first | omega | (intro h; omega) | exact Or.inl rfl | exact Or.inr rfl) (Nat.lt_succ_self _)
set_option maxHeartbeats 4000000 in
set_option maxRecDepth 20000 in
theorem y_Run_smuggleBetween {D : va_G} {cA : FieldType → ClassId} {b : Nat} {E : State → Prop} {R : qRg} {o n : Nat} {sh : Nat → qC} {Rf : Nat → Nat → Option Nat} {I0 : Nat → Nat → Int32} {L0 : Nat → Nat → Int64} {post : Option Value → qS → Prop} {uo_0 : Nat} {uo_1 : Nat} {p1 : Int32} {p2 : Int32} (hok : q_ok (qGG D cA b E)) (hw : WfRun (qGG D cA b E) n sh Rf o) (ra : RARun R o) (hwuo_0 : WfLand (qGG D cA b E) n sh Rf uo_0) (rauo_0 : RALand R uo_0) (hwuo_1 : WfTrade (qGG D cA b E) n sh Rf uo_1) (rauo_1 : RATrade R uo_1) (huo_0 : Rf o 0 = some uo_0) (huo_1 : Rf o 1 = some uo_1) (hq0 : (0 : Int) ≤ p1.toInt ∧ p1.toInt ≤ 4) (hq1 : (0 : Int) ≤ p2.toInt ∧ p2.toInt ≤ 4) (hR : RI R I0) (hp : ∀ (I' : Nat → Nat → Int32) (L' : Nat → Nat → Int64), RI R I' → Fm (fun c => (o + 24 ≤ c ∧ c < o + 31)) I0 I' → post none (n, sh, Rf, I', L')) : Ev (qGG D cA b E) mRun_smuggleBetween 2 (0, 0) 0 (lv_args 0 [.ref o, .int p1, .int p2]) [] (n, sh, Rf, I0, L0) post := by
  have hf : Fm (fun c => (o + 24 ≤ c ∧ c < o + 31)) I0 I0 := Fm.rf
  refine sRun_smuggleBetween_0 o n sh Rf I0 L0 post p1 p2 uo_0 hok hw huo_0 hwuo_0 ?_
  unfold fRun_smuggleBetween_0
  refine y_Realm_priceIn hok (wsRun_3 hw) (rsRun_3 ra) hwuo_0 rauo_0 (by first | omega | (intro h; omega) | exact Or.inl rfl | exact Or.inr rfl) hR (fun r_1  => ⟨r_1, I0, L0, rfl, rfl, ?_⟩)
  refine y_Realm_priceIn hok (wsRun_3 hw) (rsRun_3 ra) hwuo_0 rauo_0 (by first | omega | (intro h; omega) | exact Or.inl rfl | exact Or.inr rfl) hR (fun r_2  => ⟨r_2, I0, L0, rfl, rfl, ?_⟩)
  refine ⟨tIn (by omega) (by omega), ?_⟩
  refine ⟨tIn (by omega) (by omega), ?_⟩
  refine y_Land_daysBetween hok hwuo_0 rauo_0 hR (fun r_3  => ⟨r_3, I0, L0, rfl, rfl, ?_⟩)
  have l_4 : (-1 : Int32).toInt = -1 := rfl
  refine ⟨fun c_5 => ?_, fun c_5 => ?_⟩
  · have d_6 := iEq c_5
    exact (hp _ _ hR hf )
  · have d_7 := iNe c_5
    refine fun y_8 e_9 => ?_
    refine ⟨fun c_10 => ?_, fun c_10 => ?_⟩
    · have d_11 := iLt c_10
      refine ⟨fun c_12 => ?_, fun c_12 => ?_⟩
      · have d_13 := iLe c_12
        unfold fRun_smuggleBetween_84
        refine ⟨fun c_14 => ?_, fun c_14 => ?_⟩
        · have d_15 := iLe c_14
          unfold fRun_smuggleBetween_97
          refine ⟨tIn (by omega) (by omega), ?_⟩
          refine ⟨tIn (by omega) (by omega), ?_⟩
          refine fun y_16 e_17 => ?_
          have m_18 := tMin e_17
          have l_19 : (5 : Int32).toInt = 5 := rfl
          refine ⟨tIn (by omega) (by omega), ?_⟩
          refine ⟨tIn (by omega) (by omega), fun I_20 e_21 => ?_⟩
          have hR_22 : RI R I_20 := hR.up (rsRun_3 ra) 4 (by decide) (Or.inl rfl) e_21 (i_lo _) (i_hi _)
          have hf_23 : Fm (fun c => (o + 24 ≤ c ∧ c < o + 31)) I0 I_20 := hf.set (by first | rfl | omega | (dsimp only; omega)) e_21
          refine ⟨tIn (by omega) (by omega), ?_⟩
          refine ⟨tIn (by omega) (by omega), fun I_24 e_25 => ?_⟩
          have hR_26 : RI R I_24 := hR_22.up (rsRun_3 ra) 4 (by decide) (Or.inl rfl) e_25 (i_lo _) (i_hi _)
          have hf_27 : Fm (fun c => (o + 24 ≤ c ∧ c < o + 31)) I0 I_24 := hf_23.set (by first | rfl | omega | (dsimp only; omega)) e_25
          refine ⟨tIn (by omega) (by omega), ?_⟩
          refine ⟨tIn (by omega) (by omega), fun I_28 e_29 => ?_⟩
          have hR_30 : RI R I_28 := hR_26.up (rsRun_3 ra) 5 (by decide) (Or.inl rfl) e_29 (i_lo _) (i_hi _)
          have hf_31 : Fm (fun c => (o + 24 ≤ c ∧ c < o + 31)) I0 I_28 := hf_27.set (by first | rfl | omega | (dsimp only; omega)) e_29
          have l_32 : (3 : Int32).toInt = 3 := rfl
          refine fun L_33 e_34 => ?_
          have l_35 : (4 : Int32).toInt = 4 := rfl
          refine fun L_36 e_37 => ?_
          exact (hp _ _ hR_30 hf_31 )
        · have d_38 := iNle c_14
          unfold fRun_smuggleBetween_97
          refine ⟨tIn (by omega) (by omega), ?_⟩
          refine ⟨tIn (by omega) (by omega), ?_⟩
          refine fun y_39 e_40 => ?_
          have m_41 := tMin e_40
          have l_42 : (5 : Int32).toInt = 5 := rfl
          refine ⟨tIn (by omega) (by omega), ?_⟩
          refine ⟨tIn (by omega) (by omega), fun I_43 e_44 => ?_⟩
          have hR_45 : RI R I_43 := hR.up (rsRun_3 ra) 4 (by decide) (Or.inl rfl) e_44 (i_lo _) (i_hi _)
          have hf_46 : Fm (fun c => (o + 24 ≤ c ∧ c < o + 31)) I0 I_43 := hf.set (by first | rfl | omega | (dsimp only; omega)) e_44
          refine ⟨tIn (by omega) (by omega), ?_⟩
          refine ⟨tIn (by omega) (by omega), fun I_47 e_48 => ?_⟩
          have hR_49 : RI R I_47 := hR_45.up (rsRun_3 ra) 4 (by decide) (Or.inl rfl) e_48 (i_lo _) (i_hi _)
          have hf_50 : Fm (fun c => (o + 24 ≤ c ∧ c < o + 31)) I0 I_47 := hf_46.set (by first | rfl | omega | (dsimp only; omega)) e_48
          refine ⟨tIn (by omega) (by omega), ?_⟩
          refine ⟨tIn (by omega) (by omega), fun I_51 e_52 => ?_⟩
          have hR_53 : RI R I_51 := hR_49.up (rsRun_3 ra) 5 (by decide) (Or.inl rfl) e_52 (i_lo _) (i_hi _)
          have hf_54 : Fm (fun c => (o + 24 ≤ c ∧ c < o + 31)) I0 I_51 := hf_50.set (by first | rfl | omega | (dsimp only; omega)) e_52
          have l_55 : (3 : Int32).toInt = 3 := rfl
          refine fun L_56 e_57 => ?_
          have l_58 : (4 : Int32).toInt = 4 := rfl
          refine fun L_59 e_60 => ?_
          exact (hp _ _ hR_53 hf_54 )
      · have d_61 := iNle c_12
        unfold fRun_smuggleBetween_84
        refine ⟨fun c_62 => ?_, fun c_62 => ?_⟩
        · have d_63 := iLe c_62
          unfold fRun_smuggleBetween_97
          refine ⟨tIn (by omega) (by omega), ?_⟩
          refine ⟨tIn (by omega) (by omega), ?_⟩
          refine fun y_64 e_65 => ?_
          have m_66 := tMin e_65
          have l_67 : (5 : Int32).toInt = 5 := rfl
          refine ⟨tIn (by omega) (by omega), ?_⟩
          refine ⟨tIn (by omega) (by omega), fun I_68 e_69 => ?_⟩
          have hR_70 : RI R I_68 := hR.up (rsRun_3 ra) 4 (by decide) (Or.inl rfl) e_69 (i_lo _) (i_hi _)
          have hf_71 : Fm (fun c => (o + 24 ≤ c ∧ c < o + 31)) I0 I_68 := hf.set (by first | rfl | omega | (dsimp only; omega)) e_69
          refine ⟨tIn (by omega) (by omega), ?_⟩
          refine ⟨tIn (by omega) (by omega), fun I_72 e_73 => ?_⟩
          have hR_74 : RI R I_72 := hR_70.up (rsRun_3 ra) 4 (by decide) (Or.inl rfl) e_73 (i_lo _) (i_hi _)
          have hf_75 : Fm (fun c => (o + 24 ≤ c ∧ c < o + 31)) I0 I_72 := hf_71.set (by first | rfl | omega | (dsimp only; omega)) e_73
          refine ⟨tIn (by omega) (by omega), ?_⟩
          refine ⟨tIn (by omega) (by omega), fun I_76 e_77 => ?_⟩
          have hR_78 : RI R I_76 := hR_74.up (rsRun_3 ra) 5 (by decide) (Or.inl rfl) e_77 (i_lo _) (i_hi _)
          have hf_79 : Fm (fun c => (o + 24 ≤ c ∧ c < o + 31)) I0 I_76 := hf_75.set (by first | rfl | omega | (dsimp only; omega)) e_77
          have l_80 : (3 : Int32).toInt = 3 := rfl
          refine fun L_81 e_82 => ?_
          have l_83 : (4 : Int32).toInt = 4 := rfl
          refine fun L_84 e_85 => ?_
          exact (hp _ _ hR_78 hf_79 )
        · have d_86 := iNle c_62
          unfold fRun_smuggleBetween_97
          refine ⟨tIn (by omega) (by omega), ?_⟩
          refine ⟨tIn (by omega) (by omega), ?_⟩
          refine fun y_87 e_88 => ?_
          have m_89 := tMin e_88
          have l_90 : (5 : Int32).toInt = 5 := rfl
          refine ⟨tIn (by omega) (by omega), ?_⟩
          refine ⟨tIn (by omega) (by omega), fun I_91 e_92 => ?_⟩
          have hR_93 : RI R I_91 := hR.up (rsRun_3 ra) 4 (by decide) (Or.inl rfl) e_92 (i_lo _) (i_hi _)
          have hf_94 : Fm (fun c => (o + 24 ≤ c ∧ c < o + 31)) I0 I_91 := hf.set (by first | rfl | omega | (dsimp only; omega)) e_92
          refine ⟨tIn (by omega) (by omega), ?_⟩
          refine ⟨tIn (by omega) (by omega), fun I_95 e_96 => ?_⟩
          have hR_97 : RI R I_95 := hR_93.up (rsRun_3 ra) 4 (by decide) (Or.inl rfl) e_96 (i_lo _) (i_hi _)
          have hf_98 : Fm (fun c => (o + 24 ≤ c ∧ c < o + 31)) I0 I_95 := hf_94.set (by first | rfl | omega | (dsimp only; omega)) e_96
          refine ⟨tIn (by omega) (by omega), ?_⟩
          refine ⟨tIn (by omega) (by omega), fun I_99 e_100 => ?_⟩
          have hR_101 : RI R I_99 := hR_97.up (rsRun_3 ra) 5 (by decide) (Or.inl rfl) e_100 (i_lo _) (i_hi _)
          have hf_102 : Fm (fun c => (o + 24 ≤ c ∧ c < o + 31)) I0 I_99 := hf_98.set (by first | rfl | omega | (dsimp only; omega)) e_100
          have l_103 : (3 : Int32).toInt = 3 := rfl
          refine fun L_104 e_105 => ?_
          have l_106 : (4 : Int32).toInt = 4 := rfl
          refine fun L_107 e_108 => ?_
          exact (hp _ _ hR_101 hf_102 )
    · have d_109 := iNlt c_10
      exact (hp _ _ hR hf )
set_option maxHeartbeats 4000000 in
set_option maxRecDepth 20000 in
theorem yRun_smuggleAll_28 {D : va_G} {cA : FieldType → ClassId} {b : Nat} {E : State → Prop} {R : qRg} {o n : Nat} {sh : Nat → qC} {Rf : Nat → Nat → Option Nat} {I0 : Nat → Nat → Int32} {L0 : Nat → Nat → Int64} {post : Option Value → qS → Prop} {uo_0 : Nat} {uo_1 : Nat} (hok : q_ok (qGG D cA b E)) (hw : WfRun (qGG D cA b E) n sh Rf o) (ra : RARun R o) (hwuo_0 : WfLand (qGG D cA b E) n sh Rf uo_0) (rauo_0 : RALand R uo_0) (hwuo_1 : WfTrade (qGG D cA b E) n sh Rf uo_1) (rauo_1 : RATrade R uo_1) (huo_0 : Rf o 0 = some uo_0) (huo_1 : Rf o 1 = some uo_1) (hp : ∀ (I' : Nat → Nat → Int32) (L' : Nat → Nat → Int64), RI R I' → Fm (fun c => (o + 24 ≤ c ∧ c < o + 31)) I0 I' → post none (n, sh, Rf, I', L')) {k13 : Nat} (ho13 : ∀ {x1 : Int32} {I : Nat → Nat → Int32} {L : Nat → Nat → Int64}, RI R I → Fm (fun c => (o + 24 ≤ c ∧ c < o + 31)) I0 I → ((0 : Int) ≤ x1.toInt ∧ x1.toInt ≤ 5) → (5 - x1.toInt).toNat < k13 → Ev (qGG D cA b E) mRun_smuggleAll 3 (0, 0) 13 [(0, .ref o), (1, .int x1)] [] (n, sh, Rf, I, L) post) : ∀ (k : Nat) {x1 : Int32} {x2 : Int32} {I : Nat → Nat → Int32} {L : Nat → Nat → Int64}, RI R I → Fm (fun c => (o + 24 ≤ c ∧ c < o + 31)) I0 I → ((0 : Int) ≤ x1.toInt ∧ x1.toInt ≤ 4) → ((0 : Int) ≤ x2.toInt ∧ x2.toInt ≤ 5) → ((5 - x1.toInt).toNat < k13 + 1) → (5 - x2.toInt).toNat < k → Ev (qGG D cA b E) mRun_smuggleAll 3 (0, 0) 28 [(0, .ref o), (1, .int x1), (2, .int x2)] [] (n, sh, Rf, I, L) post := by
  intro k
  induction k with
  | zero =>
    intro x1 x2 I L hR hf hi0 hi1 hi2 hm
    exact absurd hm (Nat.not_lt_zero _)
  | succ k ih =>
    intro x1 x2 I L hR hf hi0 hi1 hi2 hm
    refine sRun_smuggleAll_28 o n sh Rf I L post x1 x2 uo_0 hok hw huo_0 hwuo_0 ?_
    unfold fRun_smuggleAll_28
    have g_1 : (0 : Int) ≤ (I uo_0 3).toInt ∧ (I uo_0 3).toInt ≤ 5 := hR.at0 rauo_0 3 (by decide)
    refine ⟨fun c_2 => ?_, fun c_2 => ?_⟩
    · have d_3 := iLe c_2
      have a_5 : (x1 + Int32.ofInt 1).toInt = x1.toInt + (1) := tIc (by omega) (by omega) (by decide) (by decide)
      generalize ez_4 : (x1 + Int32.ofInt 1) = z_4 at a_5 ⊢
      exact ho13 hR hf (by first | omega | (intro h; omega) | exact Or.inl rfl | exact Or.inr rfl) (by omega)
    · have d_6 := iNle c_2
      refine ⟨tIn (by omega) (by omega), ?_⟩
      refine ⟨tIn (by omega) (by omega), ?_⟩
      refine ⟨fun c_7 => ?_, fun c_7 => ?_⟩
      · have d_8 := iEq c_7
        unfold fRun_smuggleAll_66
        have a_10 : (x2 + Int32.ofInt 1).toInt = x2.toInt + (1) := tIc (by omega) (by omega) (by decide) (by decide)
        generalize ez_9 : (x2 + Int32.ofInt 1) = z_9 at a_10 ⊢
        exact ih hR hf (by first | omega | (intro h; omega) | exact Or.inl rfl | exact Or.inr rfl) (by first | omega | (intro h; omega) | exact Or.inl rfl | exact Or.inr rfl) (by first | omega | (intro h; omega) | exact Or.inl rfl | exact Or.inr rfl) (by omega)
      · have d_11 := iNe c_7
        refine y_Run_smuggleBetween hok hw ra hwuo_0 rauo_0 hwuo_1 rauo_1 huo_0 huo_1 (by first | omega | (intro h; omega) | exact Or.inl rfl | exact Or.inr rfl) (by first | omega | (intro h; omega) | exact Or.inl rfl | exact Or.inr rfl) hR (fun I_13 L_14 hR_15 fr_16  => ⟨I_13, L_14, rfl, rfl, ?_⟩)
        have hf_17 : Fm (fun c => (o + 24 ≤ c ∧ c < o + 31)) I0 I_13 := hf.call fr_16 (fun c hc => by first | exact hc | (dsimp only at hc ⊢; omega) | omega)
        have g_18 : (0 : Int) ≤ (I_13 uo_0 3).toInt ∧ (I_13 uo_0 3).toInt ≤ 5 := hR_15.at0 rauo_0 3 (by decide)
        unfold fRun_smuggleAll_66
        have a_20 : (x2 + Int32.ofInt 1).toInt = x2.toInt + (1) := tIc (by omega) (by omega) (by decide) (by decide)
        generalize ez_19 : (x2 + Int32.ofInt 1) = z_19 at a_20 ⊢
        exact ih hR_15 hf_17 (by first | omega | (intro h; omega) | exact Or.inl rfl | exact Or.inr rfl) (by first | omega | (intro h; omega) | exact Or.inl rfl | exact Or.inr rfl) (by first | omega | (intro h; omega) | exact Or.inl rfl | exact Or.inr rfl) (by omega)
set_option maxHeartbeats 4000000 in
set_option maxRecDepth 20000 in
theorem yRun_smuggleAll_13 {D : va_G} {cA : FieldType → ClassId} {b : Nat} {E : State → Prop} {R : qRg} {o n : Nat} {sh : Nat → qC} {Rf : Nat → Nat → Option Nat} {I0 : Nat → Nat → Int32} {L0 : Nat → Nat → Int64} {post : Option Value → qS → Prop} {uo_0 : Nat} {uo_1 : Nat} (hok : q_ok (qGG D cA b E)) (hw : WfRun (qGG D cA b E) n sh Rf o) (ra : RARun R o) (hwuo_0 : WfLand (qGG D cA b E) n sh Rf uo_0) (rauo_0 : RALand R uo_0) (hwuo_1 : WfTrade (qGG D cA b E) n sh Rf uo_1) (rauo_1 : RATrade R uo_1) (huo_0 : Rf o 0 = some uo_0) (huo_1 : Rf o 1 = some uo_1) (hp : ∀ (I' : Nat → Nat → Int32) (L' : Nat → Nat → Int64), RI R I' → Fm (fun c => (o + 24 ≤ c ∧ c < o + 31)) I0 I' → post none (n, sh, Rf, I', L')) : ∀ (k : Nat) {x1 : Int32} {I : Nat → Nat → Int32} {L : Nat → Nat → Int64}, RI R I → Fm (fun c => (o + 24 ≤ c ∧ c < o + 31)) I0 I → ((0 : Int) ≤ x1.toInt ∧ x1.toInt ≤ 5) → (5 - x1.toInt).toNat < k → Ev (qGG D cA b E) mRun_smuggleAll 3 (0, 0) 13 [(0, .ref o), (1, .int x1)] [] (n, sh, Rf, I, L) post := by
  intro k
  induction k with
  | zero =>
    intro x1 I L hR hf hi0 hm
    exact absurd hm (Nat.not_lt_zero _)
  | succ k ih =>
    intro x1 I L hR hf hi0 hm
    refine sRun_smuggleAll_13 o n sh Rf I L post x1 uo_0 hok hw huo_0 hwuo_0 ?_
    unfold fRun_smuggleAll_13
    have g_21 : (0 : Int) ≤ (I uo_0 3).toInt ∧ (I uo_0 3).toInt ≤ 5 := hR.at0 rauo_0 3 (by decide)
    refine ⟨fun c_22 => ?_, fun c_22 => ?_⟩
    · have d_23 := iLe c_22
      exact (hp _ _ hR hf )
    · have d_24 := iNle c_22
      have l_25 : (1 : Int32).toInt = 1 := rfl
      have a_26 : (x1 + 1).toInt = x1.toInt + (1 : Int32).toInt := tAdd (by omega) (by omega)
      exact yRun_smuggleAll_28 (I0 := I0) (L0 := L0) hok hw ra hwuo_0 rauo_0 hwuo_1 rauo_1 huo_0 huo_1 hp ih _ hR hf (by first | omega | (intro h; omega) | exact Or.inl rfl | exact Or.inr rfl) (by first | omega | (intro h; omega) | exact Or.inl rfl | exact Or.inr rfl) (by first | omega | (intro h; omega) | exact Or.inl rfl | exact Or.inr rfl) (Nat.lt_succ_self _)
set_option maxHeartbeats 4000000 in
set_option maxRecDepth 20000 in
theorem y_Run_smuggleAll {D : va_G} {cA : FieldType → ClassId} {b : Nat} {E : State → Prop} {R : qRg} {o n : Nat} {sh : Nat → qC} {Rf : Nat → Nat → Option Nat} {I0 : Nat → Nat → Int32} {L0 : Nat → Nat → Int64} {post : Option Value → qS → Prop} {uo_0 : Nat} {uo_1 : Nat} (hok : q_ok (qGG D cA b E)) (hw : WfRun (qGG D cA b E) n sh Rf o) (ra : RARun R o) (hwuo_0 : WfLand (qGG D cA b E) n sh Rf uo_0) (rauo_0 : RALand R uo_0) (hwuo_1 : WfTrade (qGG D cA b E) n sh Rf uo_1) (rauo_1 : RATrade R uo_1) (huo_0 : Rf o 0 = some uo_0) (huo_1 : Rf o 1 = some uo_1) (hR : RI R I0) (hp : ∀ (I' : Nat → Nat → Int32) (L' : Nat → Nat → Int64), RI R I' → Fm (fun c => (o + 24 ≤ c ∧ c < o + 31)) I0 I' → post none (n, sh, Rf, I', L')) : Ev (qGG D cA b E) mRun_smuggleAll 3 (0, 0) 0 (lv_args 0 [.ref o]) [] (n, sh, Rf, I0, L0) post := by
  have hf : Fm (fun c => (o + 24 ≤ c ∧ c < o + 31)) I0 I0 := Fm.rf
  refine sRun_smuggleAll_0 o n sh Rf I0 L0 post uo_0 hok hw huo_0 hwuo_0 ?_
  unfold fRun_smuggleAll_0
  have l_27 : (0 : Int32).toInt = 0 := rfl
  refine y_fill hok (fun _ _ => waRealm_4 (wsRun_3 hw)) (by omega) (fun I_28 ne_29 _ eq_30 => ⟨I_28, L0, rfl, rfl, ?_⟩)
  have hR_31 : RI R I_28 := hR.row (rsRun_3 ra) 5 (by decide) (fun _ => rfl) (fun _ => ⟨(i_lo _), (i_hi _)⟩) ne_29 eq_30
  have hf_32 : Fm (fun c => (o + 24 ≤ c ∧ c < o + 31)) I0 I_28 := hf.call (M' := fun c => c = ((o + 24) + 5)) ne_29 (fun c hc => by first | exact hc | (dsimp only at hc ⊢; omega) | omega)
  exact yRun_smuggleAll_13 (I0 := I0) (L0 := L0) hok hw ra hwuo_0 rauo_0 hwuo_1 rauo_1 huo_0 huo_1 hp  _ hR_31 hf_32 (by first | omega | (intro h; omega) | exact Or.inl rfl | exact Or.inr rfl) (Nat.lt_succ_self _)
set_option maxHeartbeats 4000000 in
set_option maxRecDepth 20000 in
theorem y_Run_carryGrain {D : va_G} {cA : FieldType → ClassId} {b : Nat} {E : State → Prop} {R : qRg} {o n : Nat} {sh : Nat → qC} {Rf : Nat → Nat → Option Nat} {I0 : Nat → Nat → Int32} {L0 : Nat → Nat → Int64} {post : Option Value → qS → Prop} {uo_0 : Nat} {uo_1 : Nat} {p1 : Int32} (hok : q_ok (qGG D cA b E)) (hw : WfRun (qGG D cA b E) n sh Rf o) (ra : RARun R o) (hwuo_0 : WfLand (qGG D cA b E) n sh Rf uo_0) (rauo_0 : RALand R uo_0) (hwuo_1 : WfTrade (qGG D cA b E) n sh Rf uo_1) (rauo_1 : RATrade R uo_1) (huo_0 : Rf o 0 = some uo_0) (huo_1 : Rf o 1 = some uo_1) (hEN : qEN E) (hq0 : (0 : Int) ≤ p1.toInt ∧ p1.toInt ≤ 5) (hq1 : 0 ≤ (I0 (o + 58) 1).toInt) (hq2 : 0 ≤ (I0 (o + 58) 2).toInt) (hq3 : 0 ≤ (I0 (o + 58) 6).toInt) (hq4 : LodOK I0 (o + 44)) (hR : RI R I0) (hp : ∀ (I' : Nat → Nat → Int32) (L' : Nat → Nat → Int64), RI R I' → Fm (fun c => (o + 24 ≤ c ∧ c < o + 31) ∨ (o + 44 ≤ c ∧ c < o + 53)) I0 I' → (LodOK I' (o + 44)) → post none (n, sh, Rf, I', L')) : Ev (qGG D cA b E) mRun_carryGrain 3 (0, 0) 0 (lv_args 0 [.ref o, .int p1]) [] (n, sh, Rf, I0, L0) post := by
  have hf : Fm (fun c => (o + 24 ≤ c ∧ c < o + 31) ∨ (o + 44 ≤ c ∧ c < o + 53)) I0 I0 := Fm.rf
  have g_1 : (-1 : Int) ≤ (I0 (o + 58) 1).toInt ∧ (I0 (o + 58) 1).toInt ≤ 2 := hR.at0 (rsRun_7 ra) 1 (by decide)
  have g_2 : (-1 : Int) ≤ (I0 (o + 58) 2).toInt ∧ (I0 (o + 58) 2).toInt ≤ 4 := hR.at0 (rsRun_7 ra) 2 (by decide)
  have g_3 : (-1 : Int) ≤ (I0 (o + 58) 6).toInt ∧ (I0 (o + 58) 6).toInt ≤ 2 := hR.at0 (rsRun_7 ra) 6 (by decide)
  refine sRun_carryGrain_0 o n sh Rf I0 L0 post p1 uo_0 hok hw huo_0 hwuo_0 ?_
  unfold fRun_carryGrain_0
  have g_4 : (-1 : Int) ≤ (I0 (o + 58) 2).toInt ∧ (I0 (o + 58) 2).toInt ≤ 4 := hR.at0 (rsRun_7 ra) 2 (by decide)
  refine ⟨tIn (by omega) (by omega), ?_⟩
  have g_5 : (-1 : Int) ≤ (I0 (o + 58) 1).toInt ∧ (I0 (o + 58) 1).toInt ≤ 2 := hR.at0 (rsRun_7 ra) 1 (by decide)
  refine ⟨tIn (by omega) (by omega), ?_⟩
  refine y_Land_daysBetween hok hwuo_0 rauo_0 hR (fun r_6  => ⟨r_6, I0, L0, rfl, rfl, ?_⟩)
  refine ⟨tIn (by omega) (by omega), ?_⟩
  have g_7 : (-1 : Int) ≤ (I0 (o + 58) 2).toInt ∧ (I0 (o + 58) 2).toInt ≤ 4 := hR.at0 (rsRun_7 ra) 2 (by decide)
  refine y_Run_carryingCost hok hw ra hwuo_0 rauo_0 hwuo_1 rauo_1 huo_0 huo_1 (by first | omega | (intro h; omega) | exact Or.inl rfl | exact Or.inr rfl) hR (fun r_8  => ⟨r_8, I0, L0, rfl, rfl, ?_⟩)
  refine ⟨tIn (by omega) (by omega), fun L_9 e_10 => ?_⟩
  have g_11 : (-1 : Int) ≤ (I0 (o + 58) 2).toInt ∧ (I0 (o + 58) 2).toInt ≤ 4 := hR.at0 (rsRun_7 ra) 2 (by decide)
  refine ⟨tIn (by omega) (by omega), ?_⟩
  refine ⟨tIn (by omega) (by omega), fun I_12 e_13 => ?_⟩
  have hR_14 : RI R I_12 := hR.up (rsRun_3 ra) 6 (by decide) (Or.inl rfl) e_13 (i_lo _) (i_hi _)
  have hf_15 : Fm (fun c => (o + 24 ≤ c ∧ c < o + 31) ∨ (o + 44 ≤ c ∧ c < o + 53)) I0 I_12 := hf.set (by first | rfl | omega | (dsimp only; omega)) e_13
  have t_16 : (I_12 (o + 58) 1).toInt = (I0 (o + 58) 1).toInt := by rw [← e_13, q_u_ne (by omega)]
  have t_17 : (I_12 (o + 58) 2).toInt = (I0 (o + 58) 2).toInt := by rw [← e_13, q_u_ne (by omega)]
  have t_18 : (I_12 (o + 58) 6).toInt = (I0 (o + 58) 6).toInt := by rw [← e_13, q_u_ne (by omega)]
  have k_19 : LodOK I_12 (o + 44) := hq4.fr (by rw [← e_13]; exact q_u_ne (by omega)) (by rw [← e_13]; exact q_u_ne (by omega)) (by rw [← e_13]; exact q_u_ne (by omega)) (by rw [← e_13, q_u_ne (by omega)])
  have g_20 : (0 : Int) ≤ (I_12 o 17).toInt ∧ (I_12 o 17).toInt ≤ 240 := hR_14.at0 ra 17 (by decide)
  refine y_Loads_sendGrain hok (wsRun_5 hw) (rsRun_5 ra) (wsRun_7 hw) (rsRun_7 ra) hEN (by first | omega | (intro h; omega) | exact Or.inl rfl | exact Or.inr rfl) (by first | omega | (intro h; omega) | exact Or.inl rfl | exact Or.inr rfl) (by first | omega | (intro h; omega) | exact Or.inl rfl | exact Or.inr rfl) k_19 hR_14 (fun I_23 L_24 hR_25 fr_26 u_22 => ⟨I_23, L_24, rfl, rfl, ?_⟩)
  have hf_27 : Fm (fun c => (o + 24 ≤ c ∧ c < o + 31) ∨ (o + 44 ≤ c ∧ c < o + 53)) I0 I_23 := hf_15.call fr_26 (fun c hc => by first | exact hc | (dsimp only at hc ⊢; omega) | omega)
  have t_28 : (I_23 (o + 58) 1).toInt = (I_12 (o + 58) 1).toInt := by rw [fr_26 (o + 58) (by first | omega | (dsimp only; omega))]
  have t_29 : (I_23 (o + 58) 2).toInt = (I_12 (o + 58) 2).toInt := by rw [fr_26 (o + 58) (by first | omega | (dsimp only; omega))]
  have t_30 : (I_23 (o + 58) 6).toInt = (I_12 (o + 58) 6).toInt := by rw [fr_26 (o + 58) (by first | omega | (dsimp only; omega))]
  have t_31 : (I_23 o 17).toInt = (I_12 o 17).toInt := by rw [fr_26 o (by first | omega | (dsimp only; omega))]
  exact (hp _ _ hR_25 hf_27  u_22)
set_option maxHeartbeats 4000000 in
set_option maxRecDepth 20000 in
theorem y_Run_takeWay {D : va_G} {cA : FieldType → ClassId} {b : Nat} {E : State → Prop} {R : qRg} {o n : Nat} {sh : Nat → qC} {Rf : Nat → Nat → Option Nat} {I0 : Nat → Nat → Int32} {L0 : Nat → Nat → Int64} {post : Option Value → qS → Prop} {uo_1 : Nat} {uo_0 : Nat} {p1 : Int32} (hok : q_ok (qGG D cA b E)) (hw : WfRun (qGG D cA b E) n sh Rf o) (ra : RARun R o) (hwuo_1 : WfTrade (qGG D cA b E) n sh Rf uo_1) (rauo_1 : RATrade R uo_1) (hwuo_0 : WfLand (qGG D cA b E) n sh Rf uo_0) (rauo_0 : RALand R uo_0) (huo_1 : Rf o 1 = some uo_1) (huo_0 : Rf o 0 = some uo_0) (hEN : qEN E) (hq0 : (0 : Int) ≤ p1.toInt ∧ p1.toInt ≤ 5) (hq1 : (I0 (o + 31) 13).toInt ≤ (I0 (o + 31) 12).toInt) (hq2 : LodOK I0 (o + 44)) (hq3 : WyOK I0 (o + 58)) (hR : RI R I0) (hp : ∀ (I' : Nat → Nat → Int32) (L' : Nat → Nat → Int64), RI R I' → Fm (fun c => c = o ∨ (o + 24 ≤ c ∧ c < o + 53) ∨ c = o + 62) I0 I' → ((I' (o + 31) 13).toInt ≤ (I' (o + 31) 12).toInt) → ((I' o 17).toInt = (I0 o 17).toInt) → (LodOK I' (o + 44)) → post none (n, sh, Rf, I', L')) : Ev (qGG D cA b E) mRun_takeWay 4 (0, 0) 0 (lv_args 0 [.ref o, .int p1]) [] (n, sh, Rf, I0, L0) post := by
  have hf : Fm (fun c => c = o ∨ (o + 24 ≤ c ∧ c < o + 53) ∨ c = o + 62) I0 I0 := Fm.rf
  have g_1 : (0 : Int) ≤ (I0 (o + 31) 12).toInt ∧ (I0 (o + 31) 12).toInt ≤ 1440 := hR.at0 (rsRun_4 ra) 12 (by decide)
  have g_2 : (0 : Int) ≤ (I0 (o + 31) 13).toInt ∧ (I0 (o + 31) 13).toInt ≤ 1440 := hR.at0 (rsRun_4 ra) 13 (by decide)
  have g_3 : (0 : Int) ≤ (I0 o 17).toInt ∧ (I0 o 17).toInt ≤ 240 := hR.at0 ra 17 (by decide)
  have g_4 : (0 : Int) ≤ (I0 (o + 58) 0).toInt ∧ (I0 (o + 58) 0).toInt ≤ 4 := hR.at0 (rsRun_7 ra) 0 (by decide)
  have g_5 : (-1 : Int) ≤ (I0 (o + 58) 1).toInt ∧ (I0 (o + 58) 1).toInt ≤ 2 := hR.at0 (rsRun_7 ra) 1 (by decide)
  have g_6 : (-1 : Int) ≤ (I0 (o + 58) 2).toInt ∧ (I0 (o + 58) 2).toInt ≤ 4 := hR.at0 (rsRun_7 ra) 2 (by decide)
  have g_7 : (-1 : Int) ≤ (I0 (o + 58) 6).toInt ∧ (I0 (o + 58) 6).toInt ≤ 2 := hR.at0 (rsRun_7 ra) 6 (by decide)
  refine sRun_takeWay_0 o n sh Rf I0 L0 post p1 uo_1 hok hw huo_1 hwuo_1 ?_
  unfold fRun_takeWay_0
  have wy := hq3
  unfold WyOK at wy
  have g_8 : (0 : Int) ≤ (I0 (o + 58) 0).toInt ∧ (I0 (o + 58) 0).toInt ≤ 4 := hR.at0 (rsRun_7 ra) 0 (by decide)
  have l_10 : (1 : Int32).toInt = 1 := rfl
  refine ⟨fun c_9 => ?_, fun c_9 => ?_⟩
  · have d_11 := iEq c_9
    refine y_Run_carryGrain hok hw ra hwuo_0 rauo_0 hwuo_1 rauo_1 huo_0 huo_1 hEN (by first | omega | (intro h; omega) | exact Or.inl rfl | exact Or.inr rfl) (by first | omega | (intro h; omega) | exact Or.inl rfl | exact Or.inr rfl) (by first | omega | (intro h; omega) | exact Or.inl rfl | exact Or.inr rfl) (by first | omega | (intro h; omega) | exact Or.inl rfl | exact Or.inr rfl) hq2 hR (fun I_14 L_15 hR_16 fr_17 u_13 => ⟨I_14, L_15, rfl, rfl, ?_⟩)
    have hf_18 : Fm (fun c => c = o ∨ (o + 24 ≤ c ∧ c < o + 53) ∨ c = o + 62) I0 I_14 := hf.call fr_17 (fun c hc => by first | exact hc | (dsimp only at hc ⊢; omega) | omega)
    have t_19 : (I_14 (o + 31) 12).toInt = (I0 (o + 31) 12).toInt := by rw [fr_17 (o + 31) (by first | omega | (dsimp only; omega))]
    have t_20 : (I_14 (o + 31) 13).toInt = (I0 (o + 31) 13).toInt := by rw [fr_17 (o + 31) (by first | omega | (dsimp only; omega))]
    have t_21 : (I_14 o 17).toInt = (I0 o 17).toInt := by rw [fr_17 o (by first | omega | (dsimp only; omega))]
    have t_22 : (I_14 (o + 58) 0).toInt = (I0 (o + 58) 0).toInt := by rw [fr_17 (o + 58) (by first | omega | (dsimp only; omega))]
    have t_23 : (I_14 (o + 58) 1).toInt = (I0 (o + 58) 1).toInt := by rw [fr_17 (o + 58) (by first | omega | (dsimp only; omega))]
    have t_24 : (I_14 (o + 58) 2).toInt = (I0 (o + 58) 2).toInt := by rw [fr_17 (o + 58) (by first | omega | (dsimp only; omega))]
    have t_25 : (I_14 (o + 58) 6).toInt = (I0 (o + 58) 6).toInt := by rw [fr_17 (o + 58) (by first | omega | (dsimp only; omega))]
    have k_26 : WyOK I_14 (o + 58) := hq3.fr (by rw [fr_17 (o + 58) (by first | omega | (dsimp only; omega))]) (by rw [fr_17 (o + 58) (by first | omega | (dsimp only; omega))]) (by rw [fr_17 (o + 58) (by first | omega | (dsimp only; omega))]) (by rw [fr_17 (o + 58) (by first | omega | (dsimp only; omega))])
    exact (hp _ _ hR_16 hf_18 (by first | omega | (intro h; omega) | exact Or.inl rfl | exact Or.inr rfl) (by first | omega | (intro h; omega) | exact Or.inl rfl | exact Or.inr rfl) u_13)
  have d_27 := iNe c_9
  have l_29 : (2 : Int32).toInt = 2 := rfl
  refine ⟨fun c_28 => ?_, fun c_28 => ?_⟩
  · have d_30 := iEq c_28
    refine ⟨tIn (by omega) (by omega), ?_⟩
    refine ⟨tIn (by omega) (by omega), fun L_31 e_32 => ?_⟩
    have g_33 : (-1 : Int) ≤ (I0 (o + 58) 1).toInt ∧ (I0 (o + 58) 1).toInt ≤ 2 := hR.at0 (rsRun_7 ra) 1 (by decide)
    refine ⟨tIn (by omega) (by omega), ?_⟩
    refine ⟨tIn (by omega) (by omega), fun I_34 e_35 => ?_⟩
    have hR_36 : RI R I_34 := hR.up (rsRun_3 ra) 1 (by decide) (Or.inl rfl) e_35 (i_lo _) (i_hi _)
    have hf_37 : Fm (fun c => c = o ∨ (o + 24 ≤ c ∧ c < o + 53) ∨ c = o + 62) I0 I_34 := hf.set (by first | rfl | omega | (dsimp only; omega)) e_35
    have t_38 : (I_34 (o + 31) 12).toInt = (I0 (o + 31) 12).toInt := by rw [← e_35, q_u_ne (by omega)]
    have t_39 : (I_34 (o + 31) 13).toInt = (I0 (o + 31) 13).toInt := by rw [← e_35, q_u_ne (by omega)]
    have t_40 : (I_34 o 17).toInt = (I0 o 17).toInt := by rw [← e_35, q_u_ne (by omega)]
    have t_41 : (I_34 (o + 58) 0).toInt = (I0 (o + 58) 0).toInt := by rw [← e_35, q_u_ne (by omega)]
    have t_42 : (I_34 (o + 58) 1).toInt = (I0 (o + 58) 1).toInt := by rw [← e_35, q_u_ne (by omega)]
    have t_43 : (I_34 (o + 58) 2).toInt = (I0 (o + 58) 2).toInt := by rw [← e_35, q_u_ne (by omega)]
    have t_44 : (I_34 (o + 58) 6).toInt = (I0 (o + 58) 6).toInt := by rw [← e_35, q_u_ne (by omega)]
    have k_45 : LodOK I_34 (o + 44) := hq2.fr (by rw [← e_35]; exact q_u_ne (by omega)) (by rw [← e_35]; exact q_u_ne (by omega)) (by rw [← e_35]; exact q_u_ne (by omega)) (by rw [← e_35, q_u_ne (by omega)])
    have k_46 : WyOK I_34 (o + 58) := hq3.fr (by rw [← e_35, q_u_ne (by omega)]) (by rw [← e_35, q_u_ne (by omega)]) (by rw [← e_35, q_u_ne (by omega)]) (by rw [← e_35, q_u_ne (by omega)])
    have l_47 : (0 : Int32).toInt = 0 := rfl
    refine ⟨fun c_48 => ?_, fun c_48 => ?_⟩
    · have d_49 := iLe c_48
      exact (hp _ _ hR_36 hf_37 (by first | omega | (intro h; omega) | exact Or.inl rfl | exact Or.inr rfl) (by first | omega | (intro h; omega) | exact Or.inl rfl | exact Or.inr rfl) k_45)
    · have d_50 := iNle c_48
      have g_51 : (-1 : Int) ≤ (I_34 (o + 58) 6).toInt ∧ (I_34 (o + 58) 6).toInt ≤ 2 := hR_36.at0 (rsRun_7 ra) 6 (by decide)
      have g_52 : (0 : Int) ≤ (I_34 o 17).toInt ∧ (I_34 o 17).toInt ≤ 240 := hR_36.at0 ra 17 (by decide)
      refine y_Papers_give hok (wsRun_4 hw) (rsRun_4 ra) (by first | omega | (intro h; omega) | exact Or.inl rfl | exact Or.inr rfl) (by first | omega | (intro h; omega) | exact Or.inl rfl | exact Or.inr rfl) (by first | omega | (intro h; omega) | exact Or.inl rfl | exact Or.inr rfl) hR_36 (fun I_55 L_56 hR_57 fr_58 u_54 => ⟨I_55, L_56, rfl, rfl, ?_⟩)
      have hf_59 : Fm (fun c => c = o ∨ (o + 24 ≤ c ∧ c < o + 53) ∨ c = o + 62) I0 I_55 := hf_37.call fr_58 (fun c hc => by first | exact hc | (dsimp only at hc ⊢; omega) | omega)
      have g_60 : (0 : Int) ≤ (I_55 (o + 31) 12).toInt ∧ (I_55 (o + 31) 12).toInt ≤ 1440 := hR_57.at0 (rsRun_4 ra) 12 (by decide)
      have g_61 : (0 : Int) ≤ (I_55 (o + 31) 13).toInt ∧ (I_55 (o + 31) 13).toInt ≤ 1440 := hR_57.at0 (rsRun_4 ra) 13 (by decide)
      have t_62 : (I_55 o 17).toInt = (I_34 o 17).toInt := by rw [fr_58 o (by first | omega | (dsimp only; omega))]
      have t_63 : (I_55 (o + 58) 0).toInt = (I_34 (o + 58) 0).toInt := by rw [fr_58 (o + 58) (by first | omega | (dsimp only; omega))]
      have t_64 : (I_55 (o + 58) 1).toInt = (I_34 (o + 58) 1).toInt := by rw [fr_58 (o + 58) (by first | omega | (dsimp only; omega))]
      have t_65 : (I_55 (o + 58) 2).toInt = (I_34 (o + 58) 2).toInt := by rw [fr_58 (o + 58) (by first | omega | (dsimp only; omega))]
      have t_66 : (I_55 (o + 58) 6).toInt = (I_34 (o + 58) 6).toInt := by rw [fr_58 (o + 58) (by first | omega | (dsimp only; omega))]
      have k_67 : LodOK I_55 (o + 44) := k_45.fr (fr_58 _ (by first | omega | (dsimp only; omega))) (fr_58 _ (by first | omega | (dsimp only; omega))) (fr_58 _ (by first | omega | (dsimp only; omega))) (by rw [fr_58 (o + 44) (by first | omega | (dsimp only; omega))])
      have k_68 : WyOK I_55 (o + 58) := k_46.fr (by rw [fr_58 (o + 58) (by first | omega | (dsimp only; omega))]) (by rw [fr_58 (o + 58) (by first | omega | (dsimp only; omega))]) (by rw [fr_58 (o + 58) (by first | omega | (dsimp only; omega))]) (by rw [fr_58 (o + 58) (by first | omega | (dsimp only; omega))])
      exact (hp _ _ hR_57 hf_59 (by first | omega | (intro h; omega) | exact Or.inl rfl | exact Or.inr rfl) (by first | omega | (intro h; omega) | exact Or.inl rfl | exact Or.inr rfl) k_67)
  have d_69 := iNe c_28
  have l_71 : (3 : Int32).toInt = 3 := rfl
  refine ⟨fun c_70 => ?_, fun c_70 => ?_⟩
  · have d_72 := iEq c_70
    refine ⟨tIn (by omega) (by omega), ?_⟩
    refine ⟨tIn (by omega) (by omega), fun L_73 e_74 => ?_⟩
    have a_75 : (p1 * 3).toInt = p1.toInt * 3 := tMul rfl (by omega) (by omega)
    have g_76 : (-1 : Int) ≤ (I0 (o + 58) 1).toInt ∧ (I0 (o + 58) 1).toInt ≤ 2 := hR.at0 (rsRun_7 ra) 1 (by decide)
    have a_77 : ((p1 * 3) + (I0 (o + 58) 1)).toInt = (p1 * 3).toInt + (I0 (o + 58) 1).toInt := tAdd (by omega) (by omega)
    have g_78 : (0 : Int) ≤ (I0 o 17).toInt ∧ (I0 o 17).toInt ≤ 240 := hR.at0 ra 17 (by decide)
    refine ⟨tIn (by omega) (by omega), fun I_79 e_80 => ?_⟩
    have hR_81 : RI R I_79 := hR.up ra 62 (by decide) (Or.inl rfl) e_80 (i_lo _) (i_hi _)
    have hf_82 : Fm (fun c => c = o ∨ (o + 24 ≤ c ∧ c < o + 53) ∨ c = o + 62) I0 I_79 := hf.set (by first | rfl | omega | (dsimp only; omega)) e_80
    have t_83 : (I_79 (o + 31) 12).toInt = (I0 (o + 31) 12).toInt := by rw [← e_80, q_u_ne (by omega)]
    have t_84 : (I_79 (o + 31) 13).toInt = (I0 (o + 31) 13).toInt := by rw [← e_80, q_u_ne (by omega)]
    have t_85 : (I_79 o 17).toInt = (I0 o 17).toInt := by rw [← e_80, q_u_ne (by omega)]
    have t_86 : (I_79 (o + 58) 0).toInt = (I0 (o + 58) 0).toInt := by rw [← e_80, q_u_ne (by omega)]
    have t_87 : (I_79 (o + 58) 1).toInt = (I0 (o + 58) 1).toInt := by rw [← e_80, q_u_ne (by omega)]
    have t_88 : (I_79 (o + 58) 2).toInt = (I0 (o + 58) 2).toInt := by rw [← e_80, q_u_ne (by omega)]
    have t_89 : (I_79 (o + 58) 6).toInt = (I0 (o + 58) 6).toInt := by rw [← e_80, q_u_ne (by omega)]
    have k_90 : LodOK I_79 (o + 44) := hq2.fr (by rw [← e_80]; exact q_u_ne (by omega)) (by rw [← e_80]; exact q_u_ne (by omega)) (by rw [← e_80]; exact q_u_ne (by omega)) (by rw [← e_80, q_u_ne (by omega)])
    have k_91 : WyOK I_79 (o + 58) := hq3.fr (by rw [← e_80, q_u_ne (by omega)]) (by rw [← e_80, q_u_ne (by omega)]) (by rw [← e_80, q_u_ne (by omega)]) (by rw [← e_80, q_u_ne (by omega)])
    exact (hp _ _ hR_81 hf_82 (by first | omega | (intro h; omega) | exact Or.inl rfl | exact Or.inr rfl) (by first | omega | (intro h; omega) | exact Or.inl rfl | exact Or.inr rfl) k_90)
  have d_92 := iNe c_70
  have l_94 : (4 : Int32).toInt = 4 := rfl
  refine ⟨fun c_93 => ?_, fun c_93 => ?_⟩
  · have d_95 := iEq c_93
    refine ⟨tIn (by omega) (by omega), ?_⟩
    refine ⟨tIn (by omega) (by omega), fun L_96 e_97 => ?_⟩
    refine fun L_98 e_99 => ?_
    refine fun I_100 e_101 => ?_
    have hR_102 : RI R I_100 := hR.up0 (k := 18) ra (by decide) (Or.inl rfl) e_101 (i_lo _) (i_hi _)
    have hf_103 : Fm (fun c => c = o ∨ (o + 24 ≤ c ∧ c < o + 53) ∨ c = o + 62) I0 I_100 := hf.set (by first | rfl | omega | (dsimp only; omega)) e_101
    have t_104 : (I_100 (o + 31) 12).toInt = (I0 (o + 31) 12).toInt := by rw [← e_101, q_u_ne (by omega)]
    have t_105 : (I_100 (o + 31) 13).toInt = (I0 (o + 31) 13).toInt := by rw [← e_101, q_u_ne (by omega)]
    have t_106 : (I_100 o 17).toInt = (I0 o 17).toInt := by rw [← e_101, q_u_k (by decide)]
    have t_107 : (I_100 (o + 58) 0).toInt = (I0 (o + 58) 0).toInt := by rw [← e_101, q_u_ne (by omega)]
    have t_108 : (I_100 (o + 58) 1).toInt = (I0 (o + 58) 1).toInt := by rw [← e_101, q_u_ne (by omega)]
    have t_109 : (I_100 (o + 58) 2).toInt = (I0 (o + 58) 2).toInt := by rw [← e_101, q_u_ne (by omega)]
    have t_110 : (I_100 (o + 58) 6).toInt = (I0 (o + 58) 6).toInt := by rw [← e_101, q_u_ne (by omega)]
    have k_111 : LodOK I_100 (o + 44) := hq2.fr (by rw [← e_101]; exact q_u_ne (by omega)) (by rw [← e_101]; exact q_u_ne (by omega)) (by rw [← e_101]; exact q_u_ne (by omega)) (by rw [← e_101, q_u_ne (by omega)])
    have k_112 : WyOK I_100 (o + 58) := hq3.fr (by rw [← e_101, q_u_ne (by omega)]) (by rw [← e_101, q_u_ne (by omega)]) (by rw [← e_101, q_u_ne (by omega)]) (by rw [← e_101, q_u_ne (by omega)])
    have g_113 : (-1 : Int) ≤ (I_100 (o + 58) 6).toInt ∧ (I_100 (o + 58) 6).toInt ≤ 2 := hR_102.at0 (rsRun_7 ra) 6 (by decide)
    have g_114 : (0 : Int) ≤ (I_100 o 17).toInt ∧ (I_100 o 17).toInt ≤ 240 := hR_102.at0 ra 17 (by decide)
    have l_115 : (0 : Int32).toInt = 0 := rfl
    refine y_Papers_give hok (wsRun_4 hw) (rsRun_4 ra) (by first | omega | (intro h; omega) | exact Or.inl rfl | exact Or.inr rfl) (by first | omega | (intro h; omega) | exact Or.inl rfl | exact Or.inr rfl) (by first | omega | (intro h; omega) | exact Or.inl rfl | exact Or.inr rfl) hR_102 (fun I_118 L_119 hR_120 fr_121 u_117 => ⟨I_118, L_119, rfl, rfl, ?_⟩)
    have hf_122 : Fm (fun c => c = o ∨ (o + 24 ≤ c ∧ c < o + 53) ∨ c = o + 62) I0 I_118 := hf_103.call fr_121 (fun c hc => by first | exact hc | (dsimp only at hc ⊢; omega) | omega)
    have g_123 : (0 : Int) ≤ (I_118 (o + 31) 12).toInt ∧ (I_118 (o + 31) 12).toInt ≤ 1440 := hR_120.at0 (rsRun_4 ra) 12 (by decide)
    have g_124 : (0 : Int) ≤ (I_118 (o + 31) 13).toInt ∧ (I_118 (o + 31) 13).toInt ≤ 1440 := hR_120.at0 (rsRun_4 ra) 13 (by decide)
    have t_125 : (I_118 o 17).toInt = (I_100 o 17).toInt := by rw [fr_121 o (by first | omega | (dsimp only; omega))]
    have t_126 : (I_118 (o + 58) 0).toInt = (I_100 (o + 58) 0).toInt := by rw [fr_121 (o + 58) (by first | omega | (dsimp only; omega))]
    have t_127 : (I_118 (o + 58) 1).toInt = (I_100 (o + 58) 1).toInt := by rw [fr_121 (o + 58) (by first | omega | (dsimp only; omega))]
    have t_128 : (I_118 (o + 58) 2).toInt = (I_100 (o + 58) 2).toInt := by rw [fr_121 (o + 58) (by first | omega | (dsimp only; omega))]
    have t_129 : (I_118 (o + 58) 6).toInt = (I_100 (o + 58) 6).toInt := by rw [fr_121 (o + 58) (by first | omega | (dsimp only; omega))]
    have k_130 : LodOK I_118 (o + 44) := k_111.fr (fr_121 _ (by first | omega | (dsimp only; omega))) (fr_121 _ (by first | omega | (dsimp only; omega))) (fr_121 _ (by first | omega | (dsimp only; omega))) (by rw [fr_121 (o + 44) (by first | omega | (dsimp only; omega))])
    have k_131 : WyOK I_118 (o + 58) := k_112.fr (by rw [fr_121 (o + 58) (by first | omega | (dsimp only; omega))]) (by rw [fr_121 (o + 58) (by first | omega | (dsimp only; omega))]) (by rw [fr_121 (o + 58) (by first | omega | (dsimp only; omega))]) (by rw [fr_121 (o + 58) (by first | omega | (dsimp only; omega))])
    exact (hp _ _ hR_120 hf_122 (by first | omega | (intro h; omega) | exact Or.inl rfl | exact Or.inr rfl) (by first | omega | (intro h; omega) | exact Or.inl rfl | exact Or.inr rfl) k_130)
  have d_132 := iNe c_93
  exact (hp _ _ hR hf (by first | omega | (intro h; omega) | exact Or.inl rfl | exact Or.inr rfl) (by first | omega | (intro h; omega) | exact Or.inl rfl | exact Or.inr rfl) hq2)
set_option maxHeartbeats 4000000 in
set_option maxRecDepth 20000 in
theorem yRun_takeWays_2 {D : va_G} {cA : FieldType → ClassId} {b : Nat} {E : State → Prop} {R : qRg} {o n : Nat} {sh : Nat → qC} {Rf : Nat → Nat → Option Nat} {I0 : Nat → Nat → Int32} {L0 : Nat → Nat → Int64} {post : Option Value → qS → Prop} {uo_1 : Nat} {uo_0 : Nat} (hok : q_ok (qGG D cA b E)) (hw : WfRun (qGG D cA b E) n sh Rf o) (ra : RARun R o) (hwuo_1 : WfTrade (qGG D cA b E) n sh Rf uo_1) (rauo_1 : RATrade R uo_1) (hwuo_0 : WfLand (qGG D cA b E) n sh Rf uo_0) (rauo_0 : RALand R uo_0) (huo_1 : Rf o 1 = some uo_1) (huo_0 : Rf o 0 = some uo_0) (hEN : qEN E) (hq0 : (I0 (o + 31) 13).toInt ≤ (I0 (o + 31) 12).toInt) (hq1 : (I0 o 17).toInt ≤ 239) (hq2 : LodOK I0 (o + 44)) (hp : ∀ (I' : Nat → Nat → Int32) (L' : Nat → Nat → Int64), RI R I' → Fm (fun c => c = o ∨ (o + 19 ≤ c ∧ c < o + 60) ∨ c = o + 62) I0 I' → ((I' (o + 31) 13).toInt ≤ (I' (o + 31) 12).toInt) → ((I' o 17).toInt = (I0 o 17).toInt) → (LodOK I' (o + 44)) → post none (n, sh, Rf, I', L')) : ∀ (k : Nat) {x1 : Int32} {I : Nat → Nat → Int32} {L : Nat → Nat → Int64}, RI R I → Fm (fun c => c = o ∨ (o + 19 ≤ c ∧ c < o + 60) ∨ c = o + 62) I0 I → ((0 : Int) ≤ x1.toInt ∧ x1.toInt ≤ 6) → ((I (o + 31) 13).toInt ≤ (I (o + 31) 12).toInt) → ((I o 17).toInt ≤ 239) → ((I o 17).toInt = (I0 o 17).toInt) → (LodOK I (o + 44)) → (6 - x1.toInt).toNat < k → Ev (qGG D cA b E) mRun_takeWays 5 (0, 0) 2 [(0, .ref o), (1, .int x1)] [] (n, sh, Rf, I, L) post := by
  intro k
  induction k with
  | zero =>
    intro x1 I L hR hf hi0 hi1 hi2 hi3 hi4 hm
    exact absurd hm (Nat.not_lt_zero _)
  | succ k ih =>
    intro x1 I L hR hf hi0 hi1 hi2 hi3 hi4 hm
    have g_1 : (0 : Int) ≤ (I (o + 31) 12).toInt ∧ (I (o + 31) 12).toInt ≤ 1440 := hR.at0 (rsRun_4 ra) 12 (by decide)
    have g_2 : (0 : Int) ≤ (I (o + 31) 13).toInt ∧ (I (o + 31) 13).toInt ≤ 1440 := hR.at0 (rsRun_4 ra) 13 (by decide)
    have g_3 : (0 : Int) ≤ (I o 17).toInt ∧ (I o 17).toInt ≤ 240 := hR.at0 ra 17 (by decide)
    refine sRun_takeWays_2 o n sh Rf I L post x1 uo_1 hok hw huo_1 hwuo_1 ?_
    unfold fRun_takeWays_2
    have g_4 : (0 : Int) ≤ (I uo_1 1).toInt ∧ (I uo_1 1).toInt ≤ 6 := hR.at0 rauo_1 1 (by decide)
    refine ⟨fun c_5 => ?_, fun c_5 => ?_⟩
    · have d_6 := iLe c_5
      exact (hp _ _ hR hf (by first | omega | (intro h; omega) | exact Or.inl rfl | exact Or.inr rfl) (by first | omega | (intro h; omega) | exact Or.inl rfl | exact Or.inr rfl) hi4)
    · have d_7 := iNle c_5
      refine y_Run_isDead hok hw ra (by first | omega | (intro h; omega) | exact Or.inl rfl | exact Or.inr rfl) hR (fun r_8 u_9 => ⟨r_8, I, L, rfl, rfl, ?_⟩)
      have b_10 : 0 ≤ r_8.toInt ∧ r_8.toInt ≤ 1 := u_9.rg
      have l_11 : (0 : Int32).toInt = 0 := rfl
      refine ⟨fun c_12 => ?_, fun c_12 => ?_⟩
      · have d_13 := iEq c_12
        refine y_Way_choose hok (wsRun_7 hw) (rsRun_7 ra) hw ra hwuo_0 rauo_0 hwuo_1 rauo_1 huo_0 huo_1 hEN (by first | omega | (intro h; omega) | exact Or.inl rfl | exact Or.inr rfl) (by first | omega | (intro h; omega) | exact Or.inl rfl | exact Or.inr rfl) hR (fun I_16 L_17 hR_18 fr_19 u_15 => ⟨I_16, L_17, rfl, rfl, ?_⟩)
        have hf_20 : Fm (fun c => c = o ∨ (o + 19 ≤ c ∧ c < o + 60) ∨ c = o + 62) I0 I_16 := hf.call fr_19 (fun c hc => by first | exact hc | (dsimp only at hc ⊢; omega) | omega)
        have t_21 : (I_16 (o + 31) 12).toInt = (I (o + 31) 12).toInt := by rw [fr_19 (o + 31) (by first | omega | (dsimp only; omega))]
        have t_22 : (I_16 (o + 31) 13).toInt = (I (o + 31) 13).toInt := by rw [fr_19 (o + 31) (by first | omega | (dsimp only; omega))]
        have t_23 : (I_16 o 17).toInt = (I o 17).toInt := by rw [fr_19 o (by first | omega | (dsimp only; omega))]
        have g_24 : (0 : Int) ≤ (I_16 uo_1 1).toInt ∧ (I_16 uo_1 1).toInt ≤ 6 := hR_18.at0 rauo_1 1 (by decide)
        have k_25 : LodOK I_16 (o + 44) := hi4.fr (fr_19 _ (by first | omega | (dsimp only; omega))) (fr_19 _ (by first | omega | (dsimp only; omega))) (fr_19 _ (by first | omega | (dsimp only; omega))) (by rw [fr_19 (o + 44) (by first | omega | (dsimp only; omega))])
        refine y_Run_takeWay hok hw ra hwuo_1 rauo_1 hwuo_0 rauo_0 huo_1 huo_0 hEN (by first | omega | (intro h; omega) | exact Or.inl rfl | exact Or.inr rfl) (by first | omega | (intro h; omega) | exact Or.inl rfl | exact Or.inr rfl) k_25 u_15 hR_18 (fun I_30 L_31 hR_32 fr_33 u_27 u_28 u_29 => ⟨I_30, L_31, rfl, rfl, ?_⟩)
        have hf_34 : Fm (fun c => c = o ∨ (o + 19 ≤ c ∧ c < o + 60) ∨ c = o + 62) I0 I_30 := hf_20.call fr_33 (fun c hc => by first | exact hc | (dsimp only at hc ⊢; omega) | omega)
        have g_35 : (0 : Int) ≤ (I_30 (o + 31) 12).toInt ∧ (I_30 (o + 31) 12).toInt ≤ 1440 := hR_32.at0 (rsRun_4 ra) 12 (by decide)
        have g_36 : (0 : Int) ≤ (I_30 (o + 31) 13).toInt ∧ (I_30 (o + 31) 13).toInt ≤ 1440 := hR_32.at0 (rsRun_4 ra) 13 (by decide)
        have g_37 : (0 : Int) ≤ (I_30 o 17).toInt ∧ (I_30 o 17).toInt ≤ 240 := hR_32.at0 ra 17 (by decide)
        have g_38 : (0 : Int) ≤ (I_30 uo_1 1).toInt ∧ (I_30 uo_1 1).toInt ≤ 6 := hR_32.at0 rauo_1 1 (by decide)
        have k_39 : WyOK I_30 (o + 58) := u_15.fr (by rw [fr_33 (o + 58) (by first | omega | (dsimp only; omega))]) (by rw [fr_33 (o + 58) (by first | omega | (dsimp only; omega))]) (by rw [fr_33 (o + 58) (by first | omega | (dsimp only; omega))]) (by rw [fr_33 (o + 58) (by first | omega | (dsimp only; omega))])
        have g_40 : (0 : Int) ≤ (I_30 o 17).toInt ∧ (I_30 o 17).toInt ≤ 240 := hR_32.at0 ra 17 (by decide)
        refine ⟨tIn (by omega) (by omega), ?_⟩
        have g_41 : (0 : Int) ≤ (I_30 (o + 58) 0).toInt ∧ (I_30 (o + 58) 0).toInt ≤ 4 := hR_32.at0 (rsRun_7 ra) 0 (by decide)
        refine y_Records_keepBook hok (wsRun_6 hw) (rsRun_6 ra) (by first | omega | (intro h; omega) | exact Or.inl rfl | exact Or.inr rfl) (by first | omega | (intro h; omega) | exact Or.inl rfl | exact Or.inr rfl) hR_32 (fun L_43  => ⟨I_30, L_43, rfl, rfl, ?_⟩)
        unfold fRun_takeWays_90
        have a_45 : (x1 + Int32.ofInt 1).toInt = x1.toInt + (1) := tIc (by omega) (by omega) (by decide) (by decide)
        generalize ez_44 : (x1 + Int32.ofInt 1) = z_44 at a_45 ⊢
        exact ih hR_32 hf_34 (by first | omega | (intro h; omega) | exact Or.inl rfl | exact Or.inr rfl) (by first | omega | (intro h; omega) | exact Or.inl rfl | exact Or.inr rfl) (by first | omega | (intro h; omega) | exact Or.inl rfl | exact Or.inr rfl) (by first | omega | (intro h; omega) | exact Or.inl rfl | exact Or.inr rfl) u_29 (by omega)
      · have d_46 := iNe c_12
        have g_47 : (0 : Int) ≤ (I o 17).toInt ∧ (I o 17).toInt ≤ 240 := hR.at0 ra 17 (by decide)
        refine ⟨tIn (by omega) (by omega), ?_⟩
        have l_48 : (-1 : Int32).toInt = -1 := rfl
        refine y_Records_keepBook hok (wsRun_6 hw) (rsRun_6 ra) (by first | omega | (intro h; omega) | exact Or.inl rfl | exact Or.inr rfl) (by first | omega | (intro h; omega) | exact Or.inl rfl | exact Or.inr rfl) hR (fun L_50  => ⟨I, L_50, rfl, rfl, ?_⟩)
        unfold fRun_takeWays_90
        have a_52 : (x1 + Int32.ofInt 1).toInt = x1.toInt + (1) := tIc (by omega) (by omega) (by decide) (by decide)
        generalize ez_51 : (x1 + Int32.ofInt 1) = z_51 at a_52 ⊢
        exact ih hR hf (by first | omega | (intro h; omega) | exact Or.inl rfl | exact Or.inr rfl) (by first | omega | (intro h; omega) | exact Or.inl rfl | exact Or.inr rfl) (by first | omega | (intro h; omega) | exact Or.inl rfl | exact Or.inr rfl) (by first | omega | (intro h; omega) | exact Or.inl rfl | exact Or.inr rfl) hi4 (by omega)
set_option maxHeartbeats 4000000 in
set_option maxRecDepth 20000 in
theorem y_Run_takeWays {D : va_G} {cA : FieldType → ClassId} {b : Nat} {E : State → Prop} {R : qRg} {o n : Nat} {sh : Nat → qC} {Rf : Nat → Nat → Option Nat} {I0 : Nat → Nat → Int32} {L0 : Nat → Nat → Int64} {post : Option Value → qS → Prop} {uo_1 : Nat} {uo_0 : Nat} (hok : q_ok (qGG D cA b E)) (hw : WfRun (qGG D cA b E) n sh Rf o) (ra : RARun R o) (hwuo_1 : WfTrade (qGG D cA b E) n sh Rf uo_1) (rauo_1 : RATrade R uo_1) (hwuo_0 : WfLand (qGG D cA b E) n sh Rf uo_0) (rauo_0 : RALand R uo_0) (huo_1 : Rf o 1 = some uo_1) (huo_0 : Rf o 0 = some uo_0) (hEN : qEN E) (hq0 : (I0 (o + 31) 13).toInt ≤ (I0 (o + 31) 12).toInt) (hq1 : (I0 o 17).toInt ≤ 239) (hq2 : LodOK I0 (o + 44)) (hR : RI R I0) (hp : ∀ (I' : Nat → Nat → Int32) (L' : Nat → Nat → Int64), RI R I' → Fm (fun c => c = o ∨ (o + 19 ≤ c ∧ c < o + 60) ∨ c = o + 62) I0 I' → ((I' (o + 31) 13).toInt ≤ (I' (o + 31) 12).toInt) → ((I' o 17).toInt = (I0 o 17).toInt) → (LodOK I' (o + 44)) → post none (n, sh, Rf, I', L')) : Ev (qGG D cA b E) mRun_takeWays 5 (0, 0) 0 (lv_args 0 [.ref o]) [] (n, sh, Rf, I0, L0) post := by
  have hf : Fm (fun c => c = o ∨ (o + 19 ≤ c ∧ c < o + 60) ∨ c = o + 62) I0 I0 := Fm.rf
  have g_53 : (0 : Int) ≤ (I0 (o + 31) 12).toInt ∧ (I0 (o + 31) 12).toInt ≤ 1440 := hR.at0 (rsRun_4 ra) 12 (by decide)
  have g_54 : (0 : Int) ≤ (I0 (o + 31) 13).toInt ∧ (I0 (o + 31) 13).toInt ≤ 1440 := hR.at0 (rsRun_4 ra) 13 (by decide)
  have g_55 : (0 : Int) ≤ (I0 o 17).toInt ∧ (I0 o 17).toInt ≤ 240 := hR.at0 ra 17 (by decide)
  refine sRun_takeWays_0 o n sh Rf I0 L0 post uo_1 hok hw huo_1 hwuo_1 ?_
  unfold fRun_takeWays_0
  have l_56 : (0 : Int32).toInt = 0 := rfl
  exact yRun_takeWays_2 (I0 := I0) (L0 := L0) hok hw ra hwuo_1 rauo_1 hwuo_0 rauo_0 huo_1 huo_0 hEN hq0 hq1 hq2 hp  _ hR hf (by first | omega | (intro h; omega) | exact Or.inl rfl | exact Or.inr rfl) (by first | omega | (intro h; omega) | exact Or.inl rfl | exact Or.inr rfl) (by first | omega | (intro h; omega) | exact Or.inl rfl | exact Or.inr rfl) (by first | omega | (intro h; omega) | exact Or.inl rfl | exact Or.inr rfl) hq2 (Nat.lt_succ_self _)
