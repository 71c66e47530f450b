/-! Safety of Run, what is asked: by program (spec.py). -/
set_option maxHeartbeats 4000000 in
set_option maxRecDepth 20000 in
theorem y_Run_askCommon {D : va_G} {cA : FieldType → ClassId} {b : Nat} {E : State → Prop} {R : qRg} {o n : Nat} {sh : Nat → qC} {Rf : Nat → Nat → Option Nat} {I0 : Nat → Nat → Int32} {L0 : Nat → Nat → Int64} {post : Option Value → qS → Prop} {uo_0 : Nat} {uo_1 : Nat} (hok : q_ok (qGG D cA b E)) (hw : WfRun (qGG D cA b E) n sh Rf o) (ra : RARun R o) (hwuo_0 : WfLand (qGG D cA b E) n sh Rf uo_0) (rauo_0 : RALand R uo_0) (hwuo_1 : WfTrade (qGG D cA b E) n sh Rf uo_1) (rauo_1 : RATrade R uo_1) (huo_0 : Rf o 0 = some uo_0) (huo_1 : Rf o 1 = some uo_1) (hR : RI R I0) (hp : ∀ (I' : Nat → Nat → Int32) (L' : Nat → Nat → Int64), RI R I' → Fm (fun c => c = o + 59) I0 I' → post none (n, sh, Rf, I', L')) : Ev (qGG D cA b E) mRun_askCommon 1 (0, 0) 0 (lv_args 0 [.ref o]) [] (n, sh, Rf, I0, L0) post := by
  have hf : Fm (fun c => c = o + 59) I0 I0 := Fm.rf
  refine sRun_askCommon_0 o n sh Rf I0 L0 post uo_0 hok hw huo_0 hwuo_0 ?_
  unfold fRun_askCommon_0
  have g_1 : (0 : Int) ≤ (I0 o 17).toInt ∧ (I0 o 17).toInt ≤ 240 := hR.at0 ra 17 (by decide)
  have l_2 : (12 : Int32).toInt = 12 := rfl
  have q_3 : ((I0 o 17) / 12 : Int32).toInt = (I0 o 17).toInt / 12 := tDiv rfl (by decide) (by omega)
  have l_4 : (23 : Int32).toInt = 23 := rfl
  refine fun I_5 e_6 => ?_
  have hR_7 : RI R I_5 := hR.up ra 59 (by decide) (Or.inl rfl) e_6 (i_lo _) (i_hi _)
  have hf_8 : Fm (fun c => c = o + 59) I0 I_5 := hf.set (by first | rfl | omega | (dsimp only; omega)) e_6
  have t_9 : (I_5 o 17).toInt = (I0 o 17).toInt := by rw [← e_6, q_u_ne (by omega)]
  have g_10 : (0 : Int) ≤ (I_5 o 17).toInt ∧ (I_5 o 17).toInt ≤ 240 := hR_7.at0 ra 17 (by decide)
  have q_11 : ((I_5 o 17) / 12 : Int32).toInt = (I_5 o 17).toInt / 12 := tDiv rfl (by decide) (by omega)
  have q_12 : ((I_5 o 17) / 12 * 12 : Int32).toInt = (I_5 o 17).toInt / 12 * 12 := (tMul (c := 12) rfl (by omega) (by omega)).trans (by omega)
  have q_13 : ((I_5 o 17) - (I_5 o 17) / 12 * 12).toInt = (I_5 o 17).toInt - (I_5 o 17).toInt / 12 * 12 := (tSub (by omega) (by omega)).trans (by omega)
  have l_14 : (24 : Int32).toInt = 24 := rfl
  refine fun I_15 e_16 => ?_
  have hR_17 : RI R I_15 := hR_7.up ra 59 (by decide) (Or.inl rfl) e_16 (i_lo _) (i_hi _)
  have hf_18 : Fm (fun c => c = o + 59) I0 I_15 := hf_8.set (by first | rfl | omega | (dsimp only; omega)) e_16
  have t_19 : (I_15 o 17).toInt = (I_5 o 17).toInt := by rw [← e_16, q_u_ne (by omega)]
  have l_20 : (27 : Int32).toInt = 27 := rfl
  refine fun I_21 e_22 => ?_
  have hR_23 : RI R I_21 := hR_17.up ra 59 (by decide) (Or.inl rfl) e_22 (i_lo _) (i_hi _)
  have hf_24 : Fm (fun c => c = o + 59) I0 I_21 := hf_18.set (by first | rfl | omega | (dsimp only; omega)) e_22
  have t_25 : (I_21 o 17).toInt = (I_15 o 17).toInt := by rw [← e_22, q_u_ne (by omega)]
  have g_26 : (0 : Int) ≤ (I_21 uo_0 2).toInt ∧ (I_21 uo_0 2).toInt ≤ 3 := hR_23.at0 rauo_0 2 (by decide)
  refine y_Realm_allSalt hok (wsRun_3 hw) (rsRun_3 ra) hR_23 (fun r_27  => ⟨r_27, I_21, L0, rfl, rfl, ?_⟩)
  have l_28 : (31 : Int32).toInt = 31 := rfl
  refine fun I_29 e_30 => ?_
  have hR_31 : RI R I_29 := hR_23.up ra 59 (by decide) (Or.inl rfl) e_30 (i_lo _) (i_hi _)
  have hf_32 : Fm (fun c => c = o + 59) I0 I_29 := hf_24.set (by first | rfl | omega | (dsimp only; omega)) e_30
  have t_33 : (I_29 o 17).toInt = (I_21 o 17).toInt := by rw [← e_30, q_u_ne (by omega)]
  have t_34 : (I_29 uo_0 2).toInt = (I_21 uo_0 2).toInt := by rw [← e_30, q_u_ne (sh_ne_a (hwuo_0).1.2.2 (waRun_8 (I := I0) (L := L0) hw).2.2)]
  exact (hp _ _ hR_31 hf_32 )
set_option maxHeartbeats 4000000 in
set_option maxRecDepth 20000 in
theorem y_Run_isDead {D : va_G} {cA : FieldType → ClassId} {b : Nat} {E : State → Prop} {R : qRg} {o n : Nat} {sh : Nat → qC} {Rf : Nat → Nat → Option Nat} {I0 : Nat → Nat → Int32} {L0 : Nat → Nat → Int64} {post : Option Value → qS → Prop} {p1 : Int32} (hok : q_ok (qGG D cA b E)) (hw : WfRun (qGG D cA b E) n sh Rf o) (ra : RARun R o) (hq0 : (0 : Int) ≤ p1.toInt ∧ p1.toInt ≤ 5) (hR : RI R I0) (hp : ∀ (r : Int32) , (Bz r) → post (some (.int r)) (n, sh, Rf, I0, L0)) : Ev (qGG D cA b E) mRun_isDead 0 (0, 0) 0 (lv_args 0 [.ref o, .int p1]) [] (n, sh, Rf, I0, L0) post := by
  refine sRun_isDead_0 o n sh Rf I0 L0 post p1 hok hw ?_
  unfold fRun_isDead_0
  refine ⟨tIn (by omega) (by omega), ?_⟩
  have g_1 : (0 : Int) ≤ (I0 o 17).toInt ∧ (I0 o 17).toInt ≤ 240 := hR.at0 ra 17 (by decide)
  refine ⟨fun c_2 => ?_, fun c_2 => ?_⟩
  · have d_3 := iLt c_2
    have l_4 : (0 : Int32).toInt = 0 := rfl
    exact (hp _ (Or.inl rfl))
  · have d_5 := iNlt c_2
    have l_6 : (1 : Int32).toInt = 1 := rfl
    exact (hp _ (Or.inr rfl))
set_option maxHeartbeats 4000000 in
set_option maxRecDepth 20000 in
theorem y_Run_hasFarm {D : va_G} {cA : FieldType → ClassId} {b : Nat} {E : State → Prop} {R : qRg} {o n : Nat} {sh : Nat → qC} {Rf : Nat → Nat → Option Nat} {I0 : Nat → Nat → Int32} {L0 : Nat → Nat → Int64} {post : Option Value → qS → Prop} {p1 : Int32} {p2 : Int32} (hok : q_ok (qGG D cA b E)) (hw : WfRun (qGG D cA b E) n sh Rf o) (ra : RARun R o) (hq0 : (0 : Int) ≤ p1.toInt ∧ p1.toInt ≤ 5) (hq1 : (0 : Int) ≤ p2.toInt ∧ p2.toInt ≤ 2) (hR : RI R I0) (hp : ∀ (r : Int32) , (Bz r) → post (some (.int r)) (n, sh, Rf, I0, L0)) : Ev (qGG D cA b E) mRun_hasFarm 0 (0, 0) 0 (lv_args 0 [.ref o, .int p1, .int p2]) [] (n, sh, Rf, I0, L0) post := by
  refine sRun_hasFarm_0 o n sh Rf I0 L0 post p1 p2 hok hw ?_
  unfold fRun_hasFarm_0
  have l_1 : (3 : Int32).toInt = 3 := rfl
  have a_2 : (p1 * 3).toInt = p1.toInt * 3 := tMul rfl (by omega) (by omega)
  have a_3 : ((p1 * 3) + p2).toInt = (p1 * 3).toInt + p2.toInt := tAdd (by omega) (by omega)
  refine ⟨tIn (by omega) (by omega), ?_⟩
  have l_4 : (-1 : Int32).toInt = -1 := rfl
  refine ⟨fun c_5 => ?_, fun c_5 => ?_⟩
  · have d_6 := iEq c_5
    have l_7 : (0 : Int32).toInt = 0 := rfl
    exact (hp _ (Or.inl rfl))
  · have d_8 := iNe c_5
    have l_9 : (1 : Int32).toInt = 1 := rfl
    exact (hp _ (Or.inr rfl))
set_option maxHeartbeats 4000000 in
set_option maxRecDepth 20000 in
theorem y_Run_hasRipeFarm {D : va_G} {cA : FieldType → ClassId} {b : Nat} {E : State → Prop} {R : qRg} {o n : Nat} {sh : Nat → qC} {Rf : Nat → Nat → Option Nat} {I0 : Nat → Nat → Int32} {L0 : Nat → Nat → Int64} {post : Option Value → qS → Prop} {p1 : Int32} {p2 : Int32} (hok : q_ok (qGG D cA b E)) (hw : WfRun (qGG D cA b E) n sh Rf o) (ra : RARun R o) (hq0 : (0 : Int) ≤ p1.toInt ∧ p1.toInt ≤ 5) (hq1 : (0 : Int) ≤ p2.toInt ∧ p2.toInt ≤ 2) (hR : RI R I0) (hp : ∀ (r : Int32) , (Bz r) → post (some (.int r)) (n, sh, Rf, I0, L0)) : Ev (qGG D cA b E) mRun_hasRipeFarm 1 (0, 0) 0 (lv_args 0 [.ref o, .int p1, .int p2]) [] (n, sh, Rf, I0, L0) post := by
  refine sRun_hasRipeFarm_0 o n sh Rf I0 L0 post p1 p2 hok hw ?_
  unfold fRun_hasRipeFarm_0
  refine y_Run_hasFarm hok hw ra (by first | omega | (intro h; omega) | exact Or.inl rfl | exact Or.inr rfl) (by first | omega | (intro h; omega) | exact Or.inl rfl | exact Or.inr rfl) hR (fun r_1 u_2 => ⟨r_1, I0, L0, rfl, rfl, ?_⟩)
  have b_3 : 0 ≤ r_1.toInt ∧ r_1.toInt ≤ 1 := u_2.rg
  have l_4 : (0 : Int32).toInt = 0 := rfl
  refine ⟨fun c_5 => ?_, fun c_5 => ?_⟩
  · have d_6 := iEq c_5
    exact (hp _ (Or.inl rfl))
  · have d_7 := iNe c_5
    have g_8 : (0 : Int) ≤ (I0 o 17).toInt ∧ (I0 o 17).toInt ≤ 240 := hR.at0 ra 17 (by decide)
    have l_9 : (3 : Int32).toInt = 3 := rfl
    have a_10 : (p1 * 3).toInt = p1.toInt * 3 := tMul rfl (by omega) (by omega)
    have a_11 : ((p1 * 3) + p2).toInt = (p1 * 3).toInt + p2.toInt := tAdd (by omega) (by omega)
    refine ⟨tIn (by omega) (by omega), ?_⟩
    have l_12 : (12 : Int32).toInt = 12 := rfl
    refine ⟨fun c_13 => ?_, fun c_13 => ?_⟩
    · have d_14 := iLt c_13
      exact (hp _ (Or.inl rfl))
    · have d_15 := iNlt c_13
      have l_16 : (1 : Int32).toInt = 1 := rfl
      exact (hp _ (Or.inr rfl))
set_option maxHeartbeats 4000000 in
set_option maxRecDepth 20000 in
theorem y_Run_payTo {D : va_G} {cA : FieldType → ClassId} {b : Nat} {E : State → Prop} {R : qRg} {o n : Nat} {sh : Nat → qC} {Rf : Nat → Nat → Option Nat} {I0 : Nat → Nat → Int32} {L0 : Nat → Nat → Int64} {post : Option Value → qS → Prop} {p1 : Int32} {p2 : Int64} (hok : q_ok (qGG D cA b E)) (hw : WfRun (qGG D cA b E) n sh Rf o) (ra : RARun R o) (hq0 : (-1 : Int) ≤ p1.toInt ∧ p1.toInt ≤ 5) (hR : RI R I0) (hp : ∀ (L' : Nat → Nat → Int64), post none (n, sh, Rf, I0, L')) : Ev (qGG D cA b E) mRun_payTo 0 (0, 0) 0 (lv_args 0 [.ref o, .int p1, .long p2]) [] (n, sh, Rf, I0, L0) post := by
  refine sRun_payTo_0 o n sh Rf I0 L0 post p1 p2 hok hw ?_
  unfold fRun_payTo_0
  have l_1 : (-1 : Int32).toInt = -1 := rfl
  refine ⟨fun c_2 => ?_, fun c_2 => ?_⟩
  · have d_3 := iNe c_2
    refine ⟨tIn (by omega) (by omega), ?_⟩
    refine ⟨tIn (by omega) (by omega), fun L_4 e_5 => ?_⟩
    exact (hp _ )
  · have d_6 := iEq c_2
    have l_7 : (2 : Int32).toInt = 2 := rfl
    refine fun L_8 e_9 => ?_
    exact (hp _ )
set_option maxHeartbeats 4000000 in
set_option maxRecDepth 20000 in
theorem y_Run_carryingCost {D : va_G} {cA : FieldType → ClassId} {b : Nat} {E : State → Prop} {R : qRg} {o n : Nat} {sh : Nat → qC} {Rf : Nat → Nat → Option Nat} {I0 : Nat → Nat → Int32} {L0 : Nat → Nat → Int64} {post : Option Value → qS → Prop} {uo_0 : Nat} {uo_1 : Nat} {p1 : Int32} {p2 : Int32} (hok : q_ok (qGG D cA b E)) (hw : WfRun (qGG D cA b E) n sh Rf o) (ra : RARun R o) (hwuo_0 : WfLand (qGG D cA b E) n sh Rf uo_0) (rauo_0 : RALand R uo_0) (hwuo_1 : WfTrade (qGG D cA b E) n sh Rf uo_1) (rauo_1 : RATrade R uo_1) (huo_0 : Rf o 0 = some uo_0) (huo_1 : Rf o 1 = some uo_1) (hq0 : (0 : Int) ≤ p1.toInt ∧ p1.toInt ≤ 4) (hR : RI R I0) (hp : ∀ (r : Int32) , post (some (.int r)) (n, sh, Rf, I0, L0)) : Ev (qGG D cA b E) mRun_carryingCost 0 (0, 0) 0 (lv_args 0 [.ref o, .int p1, .int p2]) [] (n, sh, Rf, I0, L0) post := by
  refine sRun_carryingCost_0 o n sh Rf I0 L0 post p1 p2 uo_0 uo_1 hok hw huo_0 hwuo_0 huo_1 hwuo_1 ?_
  unfold fRun_carryingCost_0
  refine ⟨tIn (by omega) (by omega), ?_⟩
  exact (hp _ )
set_option maxHeartbeats 4000000 in
set_option maxRecDepth 20000 in
theorem y_Run_worthIn {D : va_G} {cA : FieldType → ClassId} {b : Nat} {E : State → Prop} {R : qRg} {o n : Nat} {sh : Nat → qC} {Rf : Nat → Nat → Option Nat} {I0 : Nat → Nat → Int32} {L0 : Nat → Nat → Int64} {post : Option Value → qS → Prop} {uo_0 : Nat} {uo_1 : Nat} {p1 : Int32} {p2 : Int32} {p3 : Int32} (hok : q_ok (qGG D cA b E)) (hw : WfRun (qGG D cA b E) n sh Rf o) (ra : RARun R o) (hwuo_0 : WfLand (qGG D cA b E) n sh Rf uo_0) (rauo_0 : RALand R uo_0) (hwuo_1 : WfTrade (qGG D cA b E) n sh Rf uo_1) (rauo_1 : RATrade R uo_1) (huo_0 : Rf o 0 = some uo_0) (huo_1 : Rf o 1 = some uo_1) (hEN : qEN E) (hq0 : (0 : Int) ≤ p1.toInt ∧ p1.toInt ≤ 2) (hq1 : (0 : Int) ≤ p2.toInt ∧ p2.toInt ≤ 4) (hR : RI R I0) (hp : ∀ (r : Int64) , post (some (.long r)) (n, sh, Rf, I0, L0)) : Ev (qGG D cA b E) mRun_worthIn 2 (0, 0) 0 (lv_args 0 [.ref o, .int p1, .int p2, .int p3]) [] (n, sh, Rf, I0, L0) post := by
  refine sRun_worthIn_0 o n sh Rf I0 L0 post p1 p2 p3 uo_0 uo_1 hok hw huo_0 hwuo_0 huo_1 hwuo_1 hEN ?_
  unfold fRun_worthIn_0
  refine ⟨tIn (by omega) (by omega), ?_⟩
  refine fun y_1 e_2 => ?_
  have l_3 : (1 : Int32).toInt = 1 := rfl
  have m_4 := tMax e_2
  refine y_Office_monthsOfWay hok hR (fun r_5  => ⟨r_5, I0, L0, rfl, rfl, ?_⟩)
  refine ⟨tIn (by omega) (by omega), ?_⟩
  refine ⟨fun h => absurd (iEq h) (by have : (0 : Int32).toInt = 0 := rfl; omega), ?_⟩
  refine y_Realm_priceIn hok (wsRun_3 hw) (rsRun_3 ra) hwuo_0 rauo_0 (by first | omega | (intro h; omega) | exact Or.inl rfl | exact Or.inr rfl) hR (fun r_6  => ⟨r_6, I0, L0, rfl, rfl, ?_⟩)
  have l_7 : (4 : Int32).toInt = 4 := rfl
  exact (hp _ )
set_option maxHeartbeats 4000000 in
set_option maxRecDepth 20000 in
theorem yRun_townFor_11 {D : va_G} {cA : FieldType → ClassId} {b : Nat} {E : State → Prop} {R : qRg} {o n : Nat} {sh : Nat → qC} {Rf : Nat → Nat → Option Nat} {I0 : Nat → Nat → Int32} {L0 : Nat → Nat → Int64} {post : Option Value → qS → Prop} {uo_0 : Nat} {uo_1 : Nat} {p1 : Int32} (hok : q_ok (qGG D cA b E)) (hw : WfRun (qGG D cA b E) n sh Rf o) (ra : RARun R o) (hwuo_0 : WfLand (qGG D cA b E) n sh Rf uo_0) (rauo_0 : RALand R uo_0) (hwuo_1 : WfTrade (qGG D cA b E) n sh Rf uo_1) (rauo_1 : RATrade R uo_1) (huo_0 : Rf o 0 = some uo_0) (huo_1 : Rf o 1 = some uo_1) (hEN : qEN E) (hq0 : (0 : Int) ≤ p1.toInt ∧ p1.toInt ≤ 2) (hR : RI R I0) (hp : ∀ (r : Int32) (L' : Nat → Nat → Int64), (((-1 : Int) ≤ r.toInt ∧ r.toInt ≤ 4)) → post (some (.int r)) (n, sh, Rf, I0, L')) : ∀ (k : Nat) {x1 : Int32} {x2 : Int32} {x3 : Int32} {L : Nat → Nat → Int64}, ((0 : Int) ≤ x1.toInt ∧ x1.toInt ≤ 2) → ((-1 : Int) ≤ x2.toInt ∧ x2.toInt ≤ 4) → ((0 : Int) ≤ x3.toInt ∧ x3.toInt ≤ 5) → (5 - x3.toInt).toNat < k → Ev (qGG D cA b E) mRun_townFor 3 (0, 0) 11 [(0, .ref o), (1, .int x1), (2, .int x2), (3, .int x3)] [] (n, sh, Rf, I0, L) post := by
  intro k
  induction k with
  | zero =>
    intro x1 x2 x3 L hi0 hi1 hi2 hm
    exact absurd hm (Nat.not_lt_zero _)
  | succ k ih =>
    intro x1 x2 x3 L hi0 hi1 hi2 hm
    refine sRun_townFor_11 o n sh Rf I0 L post x1 x2 x3 uo_0 hok hw huo_0 hwuo_0 ?_
    unfold fRun_townFor_11
    have g_1 : (0 : Int) ≤ (I0 uo_0 3).toInt ∧ (I0 uo_0 3).toInt ≤ 5 := hR.at0 rauo_0 3 (by decide)
    refine ⟨fun c_2 => ?_, fun c_2 => ?_⟩
    · have d_3 := iLe c_2
      exact (hp _ _ (by first | omega | (intro h; omega) | exact Or.inl rfl | exact Or.inr rfl))
    · have d_4 := iNle c_2
      refine ⟨tIn (by omega) (by omega), ?_⟩
      refine ⟨tIn (by omega) (by omega), ?_⟩
      refine y_Land_daysBetween hok hwuo_0 rauo_0 hR (fun r_5  => ⟨r_5, I0, L, rfl, rfl, ?_⟩)
      have l_6 : (-1 : Int32).toInt = -1 := rfl
      refine ⟨fun c_7 => ?_, fun c_7 => ?_⟩
      · have d_8 := iEq c_7
        unfold fRun_townFor_103
        have a_10 : (x3 + Int32.ofInt 1).toInt = x3.toInt + (1) := tIc (by omega) (by omega) (by decide) (by decide)
        generalize ez_9 : (x3 + Int32.ofInt 1) = z_9 at a_10 ⊢
        exact ih (by first | omega | (intro h; omega) | exact Or.inl rfl | exact Or.inr rfl) (by first | omega | (intro h; omega) | exact Or.inl rfl | exact Or.inr rfl) (by first | omega | (intro h; omega) | exact Or.inl rfl | exact Or.inr rfl) (by omega)
      · have d_11 := iNe c_7
        refine ⟨tIn (by omega) (by omega), ?_⟩
        refine y_Land_serves hok hwuo_0 rauo_0 (by first | omega | (intro h; omega) | exact Or.inl rfl | exact Or.inr rfl) hR (fun r_12 u_13 => ⟨r_12, I0, L, rfl, rfl, ?_⟩)
        have b_14 : 0 ≤ r_12.toInt ∧ r_12.toInt ≤ 1 := u_13.rg
        have l_15 : (0 : Int32).toInt = 0 := rfl
        refine ⟨fun c_16 => ?_, fun c_16 => ?_⟩
        · have d_17 := iEq c_16
          unfold fRun_townFor_103
          have a_19 : (x3 + Int32.ofInt 1).toInt = x3.toInt + (1) := tIc (by omega) (by omega) (by decide) (by decide)
          generalize ez_18 : (x3 + Int32.ofInt 1) = z_18 at a_19 ⊢
          exact ih (by first | omega | (intro h; omega) | exact Or.inl rfl | exact Or.inr rfl) (by first | omega | (intro h; omega) | exact Or.inl rfl | exact Or.inr rfl) (by first | omega | (intro h; omega) | exact Or.inl rfl | exact Or.inr rfl) (by omega)
        · have d_20 := iNe c_16
          refine y_Run_worthIn hok hw ra hwuo_0 rauo_0 hwuo_1 rauo_1 huo_0 huo_1 hEN (by first | omega | (intro h; omega) | exact Or.inl rfl | exact Or.inr rfl) (by first | omega | (intro h; omega) | exact Or.inl rfl | exact Or.inr rfl) hR (fun r_21  => ⟨r_21, I0, L, rfl, rfl, ?_⟩)
          refine ⟨fun c_22 => ?_, fun c_22 => ?_⟩
          · have d_23 := iLe c_22
            unfold fRun_townFor_103
            have a_25 : (x3 + Int32.ofInt 1).toInt = x3.toInt + (1) := tIc (by omega) (by omega) (by decide) (by decide)
            generalize ez_24 : (x3 + Int32.ofInt 1) = z_24 at a_25 ⊢
            exact ih (by first | omega | (intro h; omega) | exact Or.inl rfl | exact Or.inr rfl) (by first | omega | (intro h; omega) | exact Or.inl rfl | exact Or.inr rfl) (by first | omega | (intro h; omega) | exact Or.inl rfl | exact Or.inr rfl) (by omega)
          · have d_26 := iNle c_22
            refine fun L_27 e_28 => ?_
            unfold fRun_townFor_103
            have a_30 : (x3 + Int32.ofInt 1).toInt = x3.toInt + (1) := tIc (by omega) (by omega) (by decide) (by decide)
            generalize ez_29 : (x3 + Int32.ofInt 1) = z_29 at a_30 ⊢
            exact ih (by first | omega | (intro h; omega) | exact Or.inl rfl | exact Or.inr rfl) (by first | omega | (intro h; omega) | exact Or.inl rfl | exact Or.inr rfl) (by first | omega | (intro h; omega) | exact Or.inl rfl | exact Or.inr rfl) (by omega)
set_option maxHeartbeats 4000000 in
set_option maxRecDepth 20000 in
theorem y_Run_townFor {D : va_G} {cA : FieldType → ClassId} {b : Nat} {E : State → Prop} {R : qRg} {o n : Nat} {sh : Nat → qC} {Rf : Nat → Nat → Option Nat} {I0 : Nat → Nat → Int32} {L0 : Nat → Nat → Int64} {post : Option Value → qS → Prop} {uo_0 : Nat} {uo_1 : Nat} {p1 : Int32} (hok : q_ok (qGG D cA b E)) (hw : WfRun (qGG D cA b E) n sh Rf o) (ra : RARun R o) (hwuo_0 : WfLand (qGG D cA b E) n sh Rf uo_0) (rauo_0 : RALand R uo_0) (hwuo_1 : WfTrade (qGG D cA b E) n sh Rf uo_1) (rauo_1 : RATrade R uo_1) (huo_0 : Rf o 0 = some uo_0) (huo_1 : Rf o 1 = some uo_1) (hEN : qEN E) (hq0 : (0 : Int) ≤ p1.toInt ∧ p1.toInt ≤ 2) (hR : RI R I0) (hp : ∀ (r : Int32) (L' : Nat → Nat → Int64), (((-1 : Int) ≤ r.toInt ∧ r.toInt ≤ 4)) → post (some (.int r)) (n, sh, Rf, I0, L')) : Ev (qGG D cA b E) mRun_townFor 3 (0, 0) 0 (lv_args 0 [.ref o, .int p1]) [] (n, sh, Rf, I0, L0) post := by
  refine sRun_townFor_0 o n sh Rf I0 L0 post p1 uo_0 hok hw huo_0 hwuo_0 ?_
  unfold fRun_townFor_0
  refine fun L_31 e_32 => ?_
  have l_33 : (-1 : Int32).toInt = -1 := rfl
  have l_34 : (0 : Int32).toInt = 0 := rfl
  exact yRun_townFor_11 (I0 := I0) (L0 := L0) (p1 := p1) hok hw ra hwuo_0 rauo_0 hwuo_1 rauo_1 huo_0 huo_1 hEN hq0 hR hp  _ (by first | omega | (intro h; omega) | exact Or.inl rfl | exact Or.inr rfl) (by first | omega | (intro h; omega) | exact Or.inl rfl | exact Or.inr rfl) (by first | omega | (intro h; omega) | exact Or.inl rfl | exact Or.inr rfl) (Nat.lt_succ_self _)
set_option maxHeartbeats 4000000 in
set_option maxRecDepth 20000 in
theorem y_Run_rateAt {D : va_G} {cA : FieldType → ClassId} {b : Nat} {E : State → Prop} {R : qRg} {o n : Nat} {sh : Nat → qC} {Rf : Nat → Nat → Option Nat} {I0 : Nat → Nat → Int32} {L0 : Nat → Nat → Int64} {post : Option Value → qS → Prop} {uo_0 : Nat} {uo_1 : Nat} {p1 : Int32} {p2 : Int32} (hok : q_ok (qGG D cA b E)) (hw : WfRun (qGG D cA b E) n sh Rf o) (ra : RARun R o) (hwuo_0 : WfLand (qGG D cA b E) n sh Rf uo_0) (rauo_0 : RALand R uo_0) (hwuo_1 : WfTrade (qGG D cA b E) n sh Rf uo_1) (rauo_1 : RATrade R uo_1) (huo_0 : Rf o 0 = some uo_0) (huo_1 : Rf o 1 = some uo_1) (hq0 : (0 : Int) ≤ p1.toInt ∧ p1.toInt ≤ 2) (hR : RI R I0) (hp : ∀ (r : Int32) (I' : Nat → Nat → Int32) (L' : Nat → Nat → Int64), RI R I' → Fm (fun c => c = o + 59 ∨ (o + 19 ≤ c ∧ c < o + 24)) I0 I' → post (some (.int r)) (n, sh, Rf, I', L')) : Ev (qGG D cA b E) mRun_rateAt 2 (0, 0) 0 (lv_args 0 [.ref o, .int p1, .int p2]) [] (n, sh, Rf, I0, L0) post := by
  have hf : Fm (fun c => c = o + 59 ∨ (o + 19 ≤ c ∧ c < o + 24)) I0 I0 := Fm.rf
  refine sRun_rateAt_0 o n sh Rf I0 L0 post p1 p2 uo_0 hok hw huo_0 hwuo_0 ?_
  unfold fRun_rateAt_0
  refine ⟨tIn (by omega) (by omega), ?_⟩
  refine y_Run_askCommon hok hw ra hwuo_0 rauo_0 hwuo_1 rauo_1 huo_0 huo_1 hR (fun I_2 L_3 hR_4 fr_5  => ⟨I_2, L_3, rfl, rfl, ?_⟩)
  have hf_6 : Fm (fun c => c = o + 59 ∨ (o + 19 ≤ c ∧ c < o + 24)) I0 I_2 := hf.call fr_5 (fun c hc => by first | exact hc | (dsimp only at hc ⊢; omega) | omega)
  refine ⟨tIn (by omega) (by omega), ?_⟩
  have l_7 : (4 : Int32).toInt = 4 := rfl
  refine fun I_8 e_9 => ?_
  have hR_10 : RI R I_8 := hR_4.up ra 59 (by decide) (Or.inl rfl) e_9 (i_lo _) (i_hi _)
  have hf_11 : Fm (fun c => c = o + 59 ∨ (o + 19 ≤ c ∧ c < o + 24)) I0 I_8 := hf_6.set (by first | rfl | omega | (dsimp only; omega)) e_9
  have l_12 : (0 : Int32).toInt = 0 := rfl
  refine ⟨fun c_13 => ?_, fun c_13 => ?_⟩
  · have d_14 := iNe c_13
    refine ⟨tIn (by omega) (by omega), ?_⟩
    refine ⟨fun h => absurd (iEq h) (by have : (0 : Int32).toInt = 0 := rfl; omega), ?_⟩
    unfold fRun_rateAt_56
    have l_15 : (25 : Int32).toInt = 25 := rfl
    refine ⟨tIn (by omega) (by omega), fun I_16 e_17 => ?_⟩
    have hR_18 : RI R I_16 := hR_10.up ra 59 (by decide) (Or.inl rfl) e_17 (i_lo _) (i_hi _)
    have hf_19 : Fm (fun c => c = o + 59 ∨ (o + 19 ≤ c ∧ c < o + 24)) I0 I_16 := hf_11.set (by first | rfl | omega | (dsimp only; omega)) e_17
    have l_20 : (26 : Int32).toInt = 26 := rfl
    refine fun I_21 e_22 => ?_
    have hR_23 : RI R I_21 := hR_18.up ra 59 (by decide) (Or.inl rfl) e_22 (i_lo _) (i_hi _)
    have hf_24 : Fm (fun c => c = o + 59 ∨ (o + 19 ≤ c ∧ c < o + 24)) I0 I_21 := hf_19.set (by first | rfl | omega | (dsimp only; omega)) e_22
    refine y_Reform_tell hok (wsRun_2 hw) (rsRun_2 ra) (fun _ _ => waRun_8 hw) (by first | omega | (intro h; omega) | exact Or.inl rfl | exact Or.inr rfl) hR_23 (fun r_25 I_26 L_27 hR_28 fr_29  => ⟨r_25, I_26, L_27, rfl, rfl, ?_⟩)
    have hf_30 : Fm (fun c => c = o + 59 ∨ (o + 19 ≤ c ∧ c < o + 24)) I0 I_26 := hf_24.call fr_29 (fun c hc => by first | exact hc | (dsimp only at hc ⊢; omega) | omega)
    refine fun y_31 e_32 => ?_
    have l_33 : (9999 : Int32).toInt = 9999 := rfl
    have m_34 := tMin e_32
    refine fun y_35 e_36 => ?_
    have m_37 := tMax e_36
    exact (hp _ _ _ hR_28 hf_30 )
  · have d_38 := iEq c_13
    unfold fRun_rateAt_56
    have l_39 : (9999 : Int32).toInt = 9999 := rfl
    have l_40 : (25 : Int32).toInt = 25 := rfl
    refine ⟨tIn (by omega) (by omega), fun I_41 e_42 => ?_⟩
    have hR_43 : RI R I_41 := hR_10.up ra 59 (by decide) (Or.inl rfl) e_42 (i_lo _) (i_hi _)
    have hf_44 : Fm (fun c => c = o + 59 ∨ (o + 19 ≤ c ∧ c < o + 24)) I0 I_41 := hf_11.set (by first | rfl | omega | (dsimp only; omega)) e_42
    have l_45 : (26 : Int32).toInt = 26 := rfl
    refine fun I_46 e_47 => ?_
    have hR_48 : RI R I_46 := hR_43.up ra 59 (by decide) (Or.inl rfl) e_47 (i_lo _) (i_hi _)
    have hf_49 : Fm (fun c => c = o + 59 ∨ (o + 19 ≤ c ∧ c < o + 24)) I0 I_46 := hf_44.set (by first | rfl | omega | (dsimp only; omega)) e_47
    refine y_Reform_tell hok (wsRun_2 hw) (rsRun_2 ra) (fun _ _ => waRun_8 hw) (by first | omega | (intro h; omega) | exact Or.inl rfl | exact Or.inr rfl) hR_48 (fun r_50 I_51 L_52 hR_53 fr_54  => ⟨r_50, I_51, L_52, rfl, rfl, ?_⟩)
    have hf_55 : Fm (fun c => c = o + 59 ∨ (o + 19 ≤ c ∧ c < o + 24)) I0 I_51 := hf_49.call fr_54 (fun c hc => by first | exact hc | (dsimp only at hc ⊢; omega) | omega)
    refine fun y_56 e_57 => ?_
    have m_58 := tMin e_57
    refine fun y_59 e_60 => ?_
    have m_61 := tMax e_60
    exact (hp _ _ _ hR_53 hf_55 )
set_option maxHeartbeats 4000000 in
set_option maxRecDepth 20000 in
theorem yRun_tellMonth_6 {D : va_G} {cA : FieldType → ClassId} {b : Nat} {E : State → Prop} {R : qRg} {o n : Nat} {sh : Nat → qC} {Rf : Nat → Nat → Option Nat} {I0 : Nat → Nat → Int32} {L0 : Nat → Nat → Int64} {post : Option Value → qS → Prop} {uo_0 : Nat} {uo_1 : Nat} (hok : q_ok (qGG D cA b E)) (hw : WfRun (qGG D cA b E) n sh Rf o) (ra : RARun R o) (hwuo_0 : WfLand (qGG D cA b E) n sh Rf uo_0) (rauo_0 : RALand R uo_0) (hwuo_1 : WfTrade (qGG D cA b E) n sh Rf uo_1) (rauo_1 : RATrade R uo_1) (huo_0 : Rf o 0 = some uo_0) (huo_1 : Rf o 1 = some uo_1) (hp : ∀ (I' : Nat → Nat → Int32) (L' : Nat → Nat → Int64), RI R I' → Fm (fun c => c = o ∨ c = o + 59 ∨ c = o + 60 ∨ (o + 19 ≤ c ∧ c < o + 24) ∨ (o + 24 ≤ c ∧ c < o + 31)) I0 I' → ((I' o 17).toInt = (I0 o 17).toInt) → post none (n, sh, Rf, I', L')) : ∀ (k : Nat) {x1 : Int32} {I : Nat → Nat → Int32} {L : Nat → Nat → Int64}, RI R I → Fm (fun c => c = o ∨ c = o + 59 ∨ c = o + 60 ∨ (o + 19 ≤ c ∧ c < o + 24) ∨ (o + 24 ≤ c ∧ c < o + 31)) I0 I → ((2 : Int) ≤ x1.toInt ∧ x1.toInt ≤ 6) → ((I o 17).toInt = (I0 o 17).toInt) → (6 - x1.toInt).toNat < k → Ev (qGG D cA b E) mRun_tellMonth 2 (0, 0) 6 [(0, .ref o), (1, .int x1)] [] (n, sh, Rf, I, L) post := by
  intro k
  induction k with
  | zero =>
    intro x1 I L hR hf hi0 hi1 hm
    exact absurd hm (Nat.not_lt_zero _)
  | succ k ih =>
    intro x1 I L hR hf hi0 hi1 hm
    have g_1 : (0 : Int) ≤ (I o 17).toInt ∧ (I o 17).toInt ≤ 240 := hR.at0 ra 17 (by decide)
    refine sRun_tellMonth_6 o n sh Rf I L post x1 uo_0 hok hw huo_0 hwuo_0 ?_
    unfold fRun_tellMonth_6
    have l_2 : (5 : Int32).toInt = 5 := rfl
    refine ⟨fun c_3 => ?_, fun c_3 => ?_⟩
    · have d_4 := iLt c_3
      have l_5 : (3 : Int32).toInt = 3 := rfl
      refine fun I_6 e_7 => ?_
      have hR_8 : RI R I_6 := hR.up0 (k := 18) ra (by decide) (Or.inl rfl) e_7 (i_lo _) (i_hi _)
      have hf_9 : Fm (fun c => c = o ∨ c = o + 59 ∨ c = o + 60 ∨ (o + 19 ≤ c ∧ c < o + 24) ∨ (o + 24 ≤ c ∧ c < o + 31)) I0 I_6 := hf.set (by first | rfl | omega | (dsimp only; omega)) e_7
      have t_10 : (I_6 o 17).toInt = (I o 17).toInt := by rw [← e_7, q_u_k (by decide)]
      refine y_Realm_refillGrain hok (wsRun_3 hw) (rsRun_3 ra) hwuo_0 rauo_0 hR_8 (fun I_12 L_13 hR_14 fr_15  => ⟨I_12, L_13, rfl, rfl, ?_⟩)
      have hf_16 : Fm (fun c => c = o ∨ c = o + 59 ∨ c = o + 60 ∨ (o + 19 ≤ c ∧ c < o + 24) ∨ (o + 24 ≤ c ∧ c < o + 31)) I0 I_12 := hf_9.call fr_15 (fun c hc => by first | exact hc | (dsimp only at hc ⊢; omega) | omega)
      have t_17 : (I_12 o 17).toInt = (I_6 o 17).toInt := by rw [fr_15 o (by first | omega | (dsimp only; omega))]
      exact (hp _ _ hR_14 hf_16 (by first | omega | (intro h; omega) | exact Or.inl rfl | exact Or.inr rfl))
    · have d_18 := iNlt c_3
      refine ⟨fun c_19 => ?_, fun c_19 => ?_⟩
      · have d_20 := iNe c_19
        unfold fRun_tellMonth_24
        have l_21 : (9999 : Int32).toInt = 9999 := rfl
        refine y_Reform_tell hok (wsRun_2 hw) (rsRun_2 ra) (fun _ _ => waRun_8 hw) (by first | omega | (intro h; omega) | exact Or.inl rfl | exact Or.inr rfl) hR (fun r_22 I_23 L_24 hR_25 fr_26  => ⟨r_22, I_23, L_24, rfl, rfl, ?_⟩)
        have hf_27 : Fm (fun c => c = o ∨ c = o + 59 ∨ c = o + 60 ∨ (o + 19 ≤ c ∧ c < o + 24) ∨ (o + 24 ≤ c ∧ c < o + 31)) I0 I_23 := hf.call fr_26 (fun c hc => by first | exact hc | (dsimp only at hc ⊢; omega) | omega)
        have t_28 : (I_23 o 17).toInt = (I o 17).toInt := by rw [fr_26 o (by first | omega | (dsimp only; omega))]
        refine fun y_29 e_30 => ?_
        have m_31 := tMin e_30
        refine fun y_32 e_33 => ?_
        have l_34 : (0 : Int32).toInt = 0 := rfl
        have m_35 := tMax e_33
        refine ⟨tIn (by omega) (by omega), fun I_36 e_37 => ?_⟩
        have hR_38 : RI R I_36 := hR_25.up ra 60 (by decide) (Or.inl rfl) e_37 (i_lo _) (i_hi _)
        have hf_39 : Fm (fun c => c = o ∨ c = o + 59 ∨ c = o + 60 ∨ (o + 19 ≤ c ∧ c < o + 24) ∨ (o + 24 ≤ c ∧ c < o + 31)) I0 I_36 := hf_27.set (by first | rfl | omega | (dsimp only; omega)) e_37
        have t_40 : (I_36 o 17).toInt = (I_23 o 17).toInt := by rw [← e_37, q_u_ne (by omega)]
        have a_42 : (x1 + Int32.ofInt 1).toInt = x1.toInt + (1) := tIc (by omega) (by omega) (by decide) (by decide)
        generalize ez_41 : (x1 + Int32.ofInt 1) = z_41 at a_42 ⊢
        exact ih hR_38 hf_39 (by first | omega | (intro h; omega) | exact Or.inl rfl | exact Or.inr rfl) (by first | omega | (intro h; omega) | exact Or.inl rfl | exact Or.inr rfl) (by omega)
      · have d_43 := iEq c_19
        unfold fRun_tellMonth_24
        have l_44 : (100 : Int32).toInt = 100 := rfl
        refine y_Reform_tell hok (wsRun_2 hw) (rsRun_2 ra) (fun _ _ => waRun_8 hw) (by first | omega | (intro h; omega) | exact Or.inl rfl | exact Or.inr rfl) hR (fun r_45 I_46 L_47 hR_48 fr_49  => ⟨r_45, I_46, L_47, rfl, rfl, ?_⟩)
        have hf_50 : Fm (fun c => c = o ∨ c = o + 59 ∨ c = o + 60 ∨ (o + 19 ≤ c ∧ c < o + 24) ∨ (o + 24 ≤ c ∧ c < o + 31)) I0 I_46 := hf.call fr_49 (fun c hc => by first | exact hc | (dsimp only at hc ⊢; omega) | omega)
        have t_51 : (I_46 o 17).toInt = (I o 17).toInt := by rw [fr_49 o (by first | omega | (dsimp only; omega))]
        refine fun y_52 e_53 => ?_
        have m_54 := tMin e_53
        refine fun y_55 e_56 => ?_
        have l_57 : (0 : Int32).toInt = 0 := rfl
        have m_58 := tMax e_56
        refine ⟨tIn (by omega) (by omega), fun I_59 e_60 => ?_⟩
        have hR_61 : RI R I_59 := hR_48.up ra 60 (by decide) (Or.inl rfl) e_60 (i_lo _) (i_hi _)
        have hf_62 : Fm (fun c => c = o ∨ c = o + 59 ∨ c = o + 60 ∨ (o + 19 ≤ c ∧ c < o + 24) ∨ (o + 24 ≤ c ∧ c < o + 31)) I0 I_59 := hf_50.set (by first | rfl | omega | (dsimp only; omega)) e_60
        have t_63 : (I_59 o 17).toInt = (I_46 o 17).toInt := by rw [← e_60, q_u_ne (by omega)]
        have a_65 : (x1 + Int32.ofInt 1).toInt = x1.toInt + (1) := tIc (by omega) (by omega) (by decide) (by decide)
        generalize ez_64 : (x1 + Int32.ofInt 1) = z_64 at a_65 ⊢
        exact ih hR_61 hf_62 (by first | omega | (intro h; omega) | exact Or.inl rfl | exact Or.inr rfl) (by first | omega | (intro h; omega) | exact Or.inl rfl | exact Or.inr rfl) (by omega)
set_option maxHeartbeats 4000000 in
set_option maxRecDepth 20000 in
theorem y_Run_tellMonth {D : va_G} {cA : FieldType → ClassId} {b : Nat} {E : State → Prop} {R : qRg} {o n : Nat} {sh : Nat → qC} {Rf : Nat → Nat → Option Nat} {I0 : Nat → Nat → Int32} {L0 : Nat → Nat → Int64} {post : Option Value → qS → Prop} {uo_0 : Nat} {uo_1 : Nat} (hok : q_ok (qGG D cA b E)) (hw : WfRun (qGG D cA b E) n sh Rf o) (ra : RARun R o) (hwuo_0 : WfLand (qGG D cA b E) n sh Rf uo_0) (rauo_0 : RALand R uo_0) (hwuo_1 : WfTrade (qGG D cA b E) n sh Rf uo_1) (rauo_1 : RATrade R uo_1) (huo_0 : Rf o 0 = some uo_0) (huo_1 : Rf o 1 = some uo_1) (hR : RI R I0) (hp : ∀ (I' : Nat → Nat → Int32) (L' : Nat → Nat → Int64), RI R I' → Fm (fun c => c = o ∨ c = o + 59 ∨ c = o + 60 ∨ (o + 19 ≤ c ∧ c < o + 24) ∨ (o + 24 ≤ c ∧ c < o + 31)) I0 I' → ((I' o 17).toInt = (I0 o 17).toInt) → post none (n, sh, Rf, I', L')) : Ev (qGG D cA b E) mRun_tellMonth 2 (0, 0) 0 (lv_args 0 [.ref o]) [] (n, sh, Rf, I0, L0) post := by
  have hf : Fm (fun c => c = o ∨ c = o + 59 ∨ c = o + 60 ∨ (o + 19 ≤ c ∧ c < o + 24) ∨ (o + 24 ≤ c ∧ c < o + 31)) I0 I0 := Fm.rf
  have g_66 : (0 : Int) ≤ (I0 o 17).toInt ∧ (I0 o 17).toInt ≤ 240 := hR.at0 ra 17 (by decide)
  refine sRun_tellMonth_0 o n sh Rf I0 L0 post uo_0 hok hw huo_0 hwuo_0 ?_
  unfold fRun_tellMonth_0
  refine y_Run_askCommon hok hw ra hwuo_0 rauo_0 hwuo_1 rauo_1 huo_0 huo_1 hR (fun I_68 L_69 hR_70 fr_71  => ⟨I_68, L_69, rfl, rfl, ?_⟩)
  have hf_72 : Fm (fun c => c = o ∨ c = o + 59 ∨ c = o + 60 ∨ (o + 19 ≤ c ∧ c < o + 24) ∨ (o + 24 ≤ c ∧ c < o + 31)) I0 I_68 := hf.call fr_71 (fun c hc => by first | exact hc | (dsimp only at hc ⊢; omega) | omega)
  have t_73 : (I_68 o 17).toInt = (I0 o 17).toInt := by rw [fr_71 o (by first | omega | (dsimp only; omega))]
  have l_74 : (2 : Int32).toInt = 2 := rfl
  exact yRun_tellMonth_6 (I0 := I0) (L0 := L0) hok hw ra hwuo_0 rauo_0 hwuo_1 rauo_1 huo_0 huo_1 hp  _ hR_70 hf_72 (by first | omega | (intro h; omega) | exact Or.inl rfl | exact Or.inr rfl) (by first | omega | (intro h; omega) | exact Or.inl rfl | exact Or.inr rfl) (Nat.lt_succ_self _)
