/-! The class's methods once more, with what they leave of the long rows: l3. By program (lrun.py). -/
set_option maxHeartbeats 4000000 in
set_option maxRecDepth 20000 in
theorem y_Office_monthsOfWayl {D : va_G} {cA : FieldType → ClassId} {b : Nat} {E : State → Prop} {R : qRg} {n : Nat} {sh : Nat → qC} {Rf : Nat → Nat → Option Nat} {I0 : Nat → Nat → Int32} {L0 : Nat → Nat → Int64} {post : Option Value → qS → Prop} {p0 : Int32} (hok : q_ok (qGG D cA b E)) (hR : RI R I0) (hp : ∀ (r : Int32) , post (some (.int r)) (n, sh, Rf, I0, L0)) : Ev (qGG D cA b E) mOffice_monthsOfWay 0 (0, 0) 0 (lv_args 0 [.int p0]) [] (n, sh, Rf, I0, L0) post := by
  refine sOffice_monthsOfWay_0 n sh Rf I0 L0 post p0 hok  ?_
  unfold fOffice_monthsOfWay_0
  exact (hp _ )
set_option maxHeartbeats 4000000 in
set_option maxRecDepth 20000 in
theorem y_Run_askCommonl {D : va_G} {cA : FieldType → ClassId} {b : Nat} {E : State → Prop} {R : qRg} {o n : Nat} {sh : Nat → qC} {Rf : Nat → Nat → Option Nat} {I0 : Nat → Nat → Int32} {L0 : Nat → Nat → Int64} {post : Option Value → qS → Prop} {uo_0 : Nat} {uo_1 : Nat} (hok : q_ok (qGG D cA b E)) (hw : WfRun (qGG D cA b E) n sh Rf o) (ra : RARun R o) (hwuo_0 : WfLand (qGG D cA b E) n sh Rf uo_0) (rauo_0 : RALand R uo_0) (hwuo_1 : WfTrade (qGG D cA b E) n sh Rf uo_1) (rauo_1 : RATrade R uo_1) (huo_0 : Rf o 0 = some uo_0) (huo_1 : Rf o 1 = some uo_1) (hR : RI R I0) (hp : ∀ (I' : Nat → Nat → Int32) (L' : Nat → Nat → Int64), RI R I' → Fm (fun c => c = o + 59) I0 I' → (FmL (fun c => False) L0 L') → post none (n, sh, Rf, I', L')) : Ev (qGG D cA b E) mRun_askCommon 1 (0, 0) 0 (lv_args 0 [.ref o]) [] (n, sh, Rf, I0, L0) post := by
  have hf : Fm (fun c => c = o + 59) I0 I0 := Fm.rf
  refine sRun_askCommon_0 o n sh Rf I0 L0 post uo_0 hok hw huo_0 hwuo_0 ?_
  unfold fRun_askCommon_0
  have hl : FmL (fun c => False) L0 L0 := FmL.rf
  have g_1 : (0 : Int) ≤ (I0 o 17).toInt ∧ (I0 o 17).toInt ≤ 240 := hR.at0 ra 17 (by decide)
  have l_2 : (12 : Int32).toInt = 12 := rfl
  have q_3 : ((I0 o 17) / 12 : Int32).toInt = (I0 o 17).toInt / 12 := tDiv rfl (by decide) (by omega)
  have l_4 : (23 : Int32).toInt = 23 := rfl
  refine fun I_5 e_6 => ?_
  have hR_7 : RI R I_5 := hR.up ra 59 (by decide) (Or.inl rfl) e_6 (i_lo _) (i_hi _)
  have hf_8 : Fm (fun c => c = o + 59) I0 I_5 := hf.set (by first | rfl | omega | (dsimp only; omega)) e_6
  have t_9 : (I_5 o 17).toInt = (I0 o 17).toInt := by rw [← e_6, q_u_ne (by omega)]
  have g_10 : (0 : Int) ≤ (I_5 o 17).toInt ∧ (I_5 o 17).toInt ≤ 240 := hR_7.at0 ra 17 (by decide)
  have q_11 : ((I_5 o 17) / 12 : Int32).toInt = (I_5 o 17).toInt / 12 := tDiv rfl (by decide) (by omega)
  have q_12 : ((I_5 o 17) / 12 * 12 : Int32).toInt = (I_5 o 17).toInt / 12 * 12 := (tMul (c := 12) rfl (by omega) (by omega)).trans (by omega)
  have q_13 : ((I_5 o 17) - (I_5 o 17) / 12 * 12).toInt = (I_5 o 17).toInt - (I_5 o 17).toInt / 12 * 12 := (tSub (by omega) (by omega)).trans (by omega)
  have l_14 : (24 : Int32).toInt = 24 := rfl
  refine fun I_15 e_16 => ?_
  have hR_17 : RI R I_15 := hR_7.up ra 59 (by decide) (Or.inl rfl) e_16 (i_lo _) (i_hi _)
  have hf_18 : Fm (fun c => c = o + 59) I0 I_15 := hf_8.set (by first | rfl | omega | (dsimp only; omega)) e_16
  have t_19 : (I_15 o 17).toInt = (I_5 o 17).toInt := by rw [← e_16, q_u_ne (by omega)]
  have l_20 : (27 : Int32).toInt = 27 := rfl
  refine fun I_21 e_22 => ?_
  have hR_23 : RI R I_21 := hR_17.up ra 59 (by decide) (Or.inl rfl) e_22 (i_lo _) (i_hi _)
  have hf_24 : Fm (fun c => c = o + 59) I0 I_21 := hf_18.set (by first | rfl | omega | (dsimp only; omega)) e_22
  have t_25 : (I_21 o 17).toInt = (I_15 o 17).toInt := by rw [← e_22, q_u_ne (by omega)]
  have g_26 : (0 : Int) ≤ (I_21 uo_0 2).toInt ∧ (I_21 uo_0 2).toInt ≤ 3 := hR_23.at0 rauo_0 2 (by decide)
  refine y_Realm_allSaltl hok (wsRun_3 hw) (rsRun_3 ra) hR_23 (fun r_27  => ⟨r_27, I_21, L0, rfl, rfl, ?_⟩)
  have l_28 : (31 : Int32).toInt = 31 := rfl
  refine fun I_29 e_30 => ?_
  have hR_31 : RI R I_29 := hR_23.up ra 59 (by decide) (Or.inl rfl) e_30 (i_lo _) (i_hi _)
  have hf_32 : Fm (fun c => c = o + 59) I0 I_29 := hf_24.set (by first | rfl | omega | (dsimp only; omega)) e_30
  have t_33 : (I_29 o 17).toInt = (I_21 o 17).toInt := by rw [← e_30, q_u_ne (by omega)]
  have t_34 : (I_29 uo_0 2).toInt = (I_21 uo_0 2).toInt := by rw [← e_30, q_u_ne (sh_ne_a (hwuo_0).1.2.2 (waRun_8 (I := I0) (L := L0) hw).2.2)]
  exact (hp _ _ hR_31 hf_32  hl)
set_option maxHeartbeats 4000000 in
set_option maxRecDepth 20000 in
theorem y_Run_isDeadl {D : va_G} {cA : FieldType → ClassId} {b : Nat} {E : State → Prop} {R : qRg} {o n : Nat} {sh : Nat → qC} {Rf : Nat → Nat → Option Nat} {I0 : Nat → Nat → Int32} {L0 : Nat → Nat → Int64} {post : Option Value → qS → Prop} {p1 : Int32} (hok : q_ok (qGG D cA b E)) (hw : WfRun (qGG D cA b E) n sh Rf o) (ra : RARun R o) (hq0 : (0 : Int) ≤ p1.toInt ∧ p1.toInt ≤ 5) (hR : RI R I0) (hp : ∀ (r : Int32) , (Bz r) → post (some (.int r)) (n, sh, Rf, I0, L0)) : Ev (qGG D cA b E) mRun_isDead 0 (0, 0) 0 (lv_args 0 [.ref o, .int p1]) [] (n, sh, Rf, I0, L0) post := by
  refine sRun_isDead_0 o n sh Rf I0 L0 post p1 hok hw ?_
  unfold fRun_isDead_0
  refine ⟨tIn (by omega) (by omega), ?_⟩
  have g_1 : (0 : Int) ≤ (I0 o 17).toInt ∧ (I0 o 17).toInt ≤ 240 := hR.at0 ra 17 (by decide)
  refine ⟨fun c_2 => ?_, fun c_2 => ?_⟩
  · have d_3 := iLt c_2
    have l_4 : (0 : Int32).toInt = 0 := rfl
    exact (hp _ (Or.inl rfl))
  · have d_5 := iNlt c_2
    have l_6 : (1 : Int32).toInt = 1 := rfl
    exact (hp _ (Or.inr rfl))
set_option maxHeartbeats 4000000 in
set_option maxRecDepth 20000 in
theorem y_Run_hasFarml {D : va_G} {cA : FieldType → ClassId} {b : Nat} {E : State → Prop} {R : qRg} {o n : Nat} {sh : Nat → qC} {Rf : Nat → Nat → Option Nat} {I0 : Nat → Nat → Int32} {L0 : Nat → Nat → Int64} {post : Option Value → qS → Prop} {p1 : Int32} {p2 : Int32} (hok : q_ok (qGG D cA b E)) (hw : WfRun (qGG D cA b E) n sh Rf o) (ra : RARun R o) (hq0 : (0 : Int) ≤ p1.toInt ∧ p1.toInt ≤ 5) (hq1 : (0 : Int) ≤ p2.toInt ∧ p2.toInt ≤ 2) (hR : RI R I0) (hp : ∀ (r : Int32) , (Bz r) → post (some (.int r)) (n, sh, Rf, I0, L0)) : Ev (qGG D cA b E) mRun_hasFarm 0 (0, 0) 0 (lv_args 0 [.ref o, .int p1, .int p2]) [] (n, sh, Rf, I0, L0) post := by
  refine sRun_hasFarm_0 o n sh Rf I0 L0 post p1 p2 hok hw ?_
  unfold fRun_hasFarm_0
  have l_1 : (3 : Int32).toInt = 3 := rfl
  have a_2 : (p1 * 3).toInt = p1.toInt * 3 := tMul rfl (by omega) (by omega)
  have a_3 : ((p1 * 3) + p2).toInt = (p1 * 3).toInt + p2.toInt := tAdd (by omega) (by omega)
  refine ⟨tIn (by omega) (by omega), ?_⟩
  have l_4 : (-1 : Int32).toInt = -1 := rfl
  refine ⟨fun c_5 => ?_, fun c_5 => ?_⟩
  · have d_6 := iEq c_5
    have l_7 : (0 : Int32).toInt = 0 := rfl
    exact (hp _ (Or.inl rfl))
  · have d_8 := iNe c_5
    have l_9 : (1 : Int32).toInt = 1 := rfl
    exact (hp _ (Or.inr rfl))
set_option maxHeartbeats 4000000 in
set_option maxRecDepth 20000 in
theorem y_Run_hasRipeFarml {D : va_G} {cA : FieldType → ClassId} {b : Nat} {E : State → Prop} {R : qRg} {o n : Nat} {sh : Nat → qC} {Rf : Nat → Nat → Option Nat} {I0 : Nat → Nat → Int32} {L0 : Nat → Nat → Int64} {post : Option Value → qS → Prop} {p1 : Int32} {p2 : Int32} (hok : q_ok (qGG D cA b E)) (hw : WfRun (qGG D cA b E) n sh Rf o) (ra : RARun R o) (hq0 : (0 : Int) ≤ p1.toInt ∧ p1.toInt ≤ 5) (hq1 : (0 : Int) ≤ p2.toInt ∧ p2.toInt ≤ 2) (hR : RI R I0) (hp : ∀ (r : Int32) , (Bz r) → post (some (.int r)) (n, sh, Rf, I0, L0)) : Ev (qGG D cA b E) mRun_hasRipeFarm 1 (0, 0) 0 (lv_args 0 [.ref o, .int p1, .int p2]) [] (n, sh, Rf, I0, L0) post := by
  refine sRun_hasRipeFarm_0 o n sh Rf I0 L0 post p1 p2 hok hw ?_
  unfold fRun_hasRipeFarm_0
  refine y_Run_hasFarml hok hw ra (by first | omega | (intro h; omega) | exact Or.inl rfl | exact Or.inr rfl) (by first | omega | (intro h; omega) | exact Or.inl rfl | exact Or.inr rfl) hR (fun r_1 u_2 => ⟨r_1, I0, L0, rfl, rfl, ?_⟩)
  have b_3 : 0 ≤ r_1.toInt ∧ r_1.toInt ≤ 1 := u_2.rg
  have l_4 : (0 : Int32).toInt = 0 := rfl
  refine ⟨fun c_5 => ?_, fun c_5 => ?_⟩
  · have d_6 := iEq c_5
    exact (hp _ (Or.inl rfl))
  · have d_7 := iNe c_5
    have g_8 : (0 : Int) ≤ (I0 o 17).toInt ∧ (I0 o 17).toInt ≤ 240 := hR.at0 ra 17 (by decide)
    have l_9 : (3 : Int32).toInt = 3 := rfl
    have a_10 : (p1 * 3).toInt = p1.toInt * 3 := tMul rfl (by omega) (by omega)
    have a_11 : ((p1 * 3) + p2).toInt = (p1 * 3).toInt + p2.toInt := tAdd (by omega) (by omega)
    refine ⟨tIn (by omega) (by omega), ?_⟩
    have l_12 : (12 : Int32).toInt = 12 := rfl
    refine ⟨fun c_13 => ?_, fun c_13 => ?_⟩
    · have d_14 := iLt c_13
      exact (hp _ (Or.inl rfl))
    · have d_15 := iNlt c_13
      have l_16 : (1 : Int32).toInt = 1 := rfl
      exact (hp _ (Or.inr rfl))
set_option maxHeartbeats 4000000 in
set_option maxRecDepth 20000 in
theorem y_Run_payTol {D : va_G} {cA : FieldType → ClassId} {b : Nat} {E : State → Prop} {R : qRg} {o n : Nat} {sh : Nat → qC} {Rf : Nat → Nat → Option Nat} {I0 : Nat → Nat → Int32} {L0 : Nat → Nat → Int64} {post : Option Value → qS → Prop} {p1 : Int32} {p2 : Int64} (hok : q_ok (qGG D cA b E)) (hw : WfRun (qGG D cA b E) n sh Rf o) (ra : RARun R o) (hq0 : (-1 : Int) ≤ p1.toInt ∧ p1.toInt ≤ 5) (hR : RI R I0) (hp : ∀ (L' : Nat → Nat → Int64), (FmL (fun c => c = (o + 61) ∨ c = (o + 65)) L0 L') → post none (n, sh, Rf, I0, L')) : Ev (qGG D cA b E) mRun_payTo 0 (0, 0) 0 (lv_args 0 [.ref o, .int p1, .long p2]) [] (n, sh, Rf, I0, L0) post := by
  refine sRun_payTo_0 o n sh Rf I0 L0 post p1 p2 hok hw ?_
  unfold fRun_payTo_0
  have hl : FmL (fun c => c = (o + 61) ∨ c = (o + 65)) L0 L0 := FmL.rf
  have l_1 : (-1 : Int32).toInt = -1 := rfl
  refine ⟨fun c_2 => ?_, fun c_2 => ?_⟩
  · have d_3 := iNe c_2
    refine ⟨tIn (by omega) (by omega), ?_⟩
    refine ⟨tIn (by omega) (by omega), fun L_4 e_5 => ?_⟩
    replace hl := hl.set (by first | rfl | omega | (dsimp only; omega)) e_5
    exact (hp _  hl)
  · have d_6 := iEq c_2
    have l_7 : (2 : Int32).toInt = 2 := rfl
    refine fun L_8 e_9 => ?_
    replace hl := hl.set (by first | rfl | omega | (dsimp only; omega)) e_9
    exact (hp _  hl)
set_option maxHeartbeats 4000000 in
set_option maxRecDepth 20000 in
theorem y_Run_carryingCostl {D : va_G} {cA : FieldType → ClassId} {b : Nat} {E : State → Prop} {R : qRg} {o n : Nat} {sh : Nat → qC} {Rf : Nat → Nat → Option Nat} {I0 : Nat → Nat → Int32} {L0 : Nat → Nat → Int64} {post : Option Value → qS → Prop} {uo_0 : Nat} {uo_1 : Nat} {p1 : Int32} {p2 : Int32} (hok : q_ok (qGG D cA b E)) (hw : WfRun (qGG D cA b E) n sh Rf o) (ra : RARun R o) (hwuo_0 : WfLand (qGG D cA b E) n sh Rf uo_0) (rauo_0 : RALand R uo_0) (hwuo_1 : WfTrade (qGG D cA b E) n sh Rf uo_1) (rauo_1 : RATrade R uo_1) (huo_0 : Rf o 0 = some uo_0) (huo_1 : Rf o 1 = some uo_1) (hq0 : (0 : Int) ≤ p1.toInt ∧ p1.toInt ≤ 4) (hR : RI R I0) (hp : ∀ (r : Int32) , post (some (.int r)) (n, sh, Rf, I0, L0)) : Ev (qGG D cA b E) mRun_carryingCost 0 (0, 0) 0 (lv_args 0 [.ref o, .int p1, .int p2]) [] (n, sh, Rf, I0, L0) post := by
  refine sRun_carryingCost_0 o n sh Rf I0 L0 post p1 p2 uo_0 uo_1 hok hw huo_0 hwuo_0 huo_1 hwuo_1 ?_
  unfold fRun_carryingCost_0
  refine ⟨tIn (by omega) (by omega), ?_⟩
  exact (hp _ )
set_option maxHeartbeats 4000000 in
set_option maxRecDepth 20000 in
theorem y_Run_worthInl {D : va_G} {cA : FieldType → ClassId} {b : Nat} {E : State → Prop} {R : qRg} {o n : Nat} {sh : Nat → qC} {Rf : Nat → Nat → Option Nat} {I0 : Nat → Nat → Int32} {L0 : Nat → Nat → Int64} {post : Option Value → qS → Prop} {uo_0 : Nat} {uo_1 : Nat} {p1 : Int32} {p2 : Int32} {p3 : Int32} (hok : q_ok (qGG D cA b E)) (hw : WfRun (qGG D cA b E) n sh Rf o) (ra : RARun R o) (hwuo_0 : WfLand (qGG D cA b E) n sh Rf uo_0) (rauo_0 : RALand R uo_0) (hwuo_1 : WfTrade (qGG D cA b E) n sh Rf uo_1) (rauo_1 : RATrade R uo_1) (huo_0 : Rf o 0 = some uo_0) (huo_1 : Rf o 1 = some uo_1) (hEN : qEN E) (hq0 : (0 : Int) ≤ p1.toInt ∧ p1.toInt ≤ 2) (hq1 : (0 : Int) ≤ p2.toInt ∧ p2.toInt ≤ 4) (hR : RI R I0) (hp : ∀ (r : Int64) , post (some (.long r)) (n, sh, Rf, I0, L0)) : Ev (qGG D cA b E) mRun_worthIn 2 (0, 0) 0 (lv_args 0 [.ref o, .int p1, .int p2, .int p3]) [] (n, sh, Rf, I0, L0) post := by
  refine sRun_worthIn_0 o n sh Rf I0 L0 post p1 p2 p3 uo_0 uo_1 hok hw huo_0 hwuo_0 huo_1 hwuo_1 hEN ?_
  unfold fRun_worthIn_0
  refine ⟨tIn (by omega) (by omega), ?_⟩
  refine fun y_1 e_2 => ?_
  have l_3 : (1 : Int32).toInt = 1 := rfl
  have m_4 := tMax e_2
  refine y_Office_monthsOfWayl hok hR (fun r_5  => ⟨r_5, I0, L0, rfl, rfl, ?_⟩)
  refine ⟨tIn (by omega) (by omega), ?_⟩
  refine ⟨fun h => absurd (iEq h) (by have : (0 : Int32).toInt = 0 := rfl; omega), ?_⟩
  refine y_Realm_priceInl hok (wsRun_3 hw) (rsRun_3 ra) hwuo_0 rauo_0 (by first | omega | (intro h; omega) | exact Or.inl rfl | exact Or.inr rfl) hR (fun r_6  => ⟨r_6, I0, L0, rfl, rfl, ?_⟩)
  have l_7 : (4 : Int32).toInt = 4 := rfl
  exact (hp _ )
set_option maxHeartbeats 4000000 in
set_option maxRecDepth 20000 in
theorem yRun_townFor_11l {D : va_G} {cA : FieldType → ClassId} {b : Nat} {E : State → Prop} {R : qRg} {o n : Nat} {sh : Nat → qC} {Rf : Nat → Nat → Option Nat} {I0 : Nat → Nat → Int32} {L0 : Nat → Nat → Int64} {post : Option Value → qS → Prop} {uo_0 : Nat} {uo_1 : Nat} {p1 : Int32} (hok : q_ok (qGG D cA b E)) (hw : WfRun (qGG D cA b E) n sh Rf o) (ra : RARun R o) (hwuo_0 : WfLand (qGG D cA b E) n sh Rf uo_0) (rauo_0 : RALand R uo_0) (hwuo_1 : WfTrade (qGG D cA b E) n sh Rf uo_1) (rauo_1 : RATrade R uo_1) (huo_0 : Rf o 0 = some uo_0) (huo_1 : Rf o 1 = some uo_1) (hEN : qEN E) (hq0 : (0 : Int) ≤ p1.toInt ∧ p1.toInt ≤ 2) (hR : RI R I0) (hp : ∀ (r : Int32) (L' : Nat → Nat → Int64), (((-1 : Int) ≤ r.toInt ∧ r.toInt ≤ 4)) → (FmL (fun c => c = o) L0 L') → post (some (.int r)) (n, sh, Rf, I0, L')) : ∀ (k : Nat) {x1 : Int32} {x2 : Int32} {x3 : Int32} {L : Nat → Nat → Int64}, ((0 : Int) ≤ x1.toInt ∧ x1.toInt ≤ 2) → ((-1 : Int) ≤ x2.toInt ∧ x2.toInt ≤ 4) → ((0 : Int) ≤ x3.toInt ∧ x3.toInt ≤ 5) → (FmL (fun c => c = o) L0 L) → (5 - x3.toInt).toNat < k → Ev (qGG D cA b E) mRun_townFor 3 (0, 0) 11 [(0, .ref o), (1, .int x1), (2, .int x2), (3, .int x3)] [] (n, sh, Rf, I0, L) post := by
  intro k
  induction k with
  | zero =>
    intro x1 x2 x3 L hi0 hi1 hi2 hl hm
    exact absurd hm (Nat.not_lt_zero _)
  | succ k ih =>
    intro x1 x2 x3 L hi0 hi1 hi2 hl hm
    refine sRun_townFor_11 o n sh Rf I0 L post x1 x2 x3 uo_0 hok hw huo_0 hwuo_0 ?_
    unfold fRun_townFor_11
    have g_1 : (0 : Int) ≤ (I0 uo_0 3).toInt ∧ (I0 uo_0 3).toInt ≤ 5 := hR.at0 rauo_0 3 (by decide)
    refine ⟨fun c_2 => ?_, fun c_2 => ?_⟩
    · have d_3 := iLe c_2
      exact (hp _ _ (by first | omega | (intro h; omega) | exact Or.inl rfl | exact Or.inr rfl) hl)
    · have d_4 := iNle c_2
      refine ⟨tIn (by omega) (by omega), ?_⟩
      refine ⟨tIn (by omega) (by omega), ?_⟩
      refine y_Land_daysBetweeng hok hwuo_0 rauo_0 hR (fun r_5 gn_6 => ⟨r_5, I0, L, rfl, rfl, ?_⟩)
      clear gn_6
      have l_7 : (-1 : Int32).toInt = -1 := rfl
      refine ⟨fun c_8 => ?_, fun c_8 => ?_⟩
      · have d_9 := iEq c_8
        unfold fRun_townFor_103
        have a_11 : (x3 + Int32.ofInt 1).toInt = x3.toInt + (1) := tIc (by omega) (by omega) (by decide) (by decide)
        generalize ez_10 : (x3 + Int32.ofInt 1) = z_10 at a_11 ⊢
        exact ih (by first | omega | (intro h; omega) | exact Or.inl rfl | exact Or.inr rfl) (by first | omega | (intro h; omega) | exact Or.inl rfl | exact Or.inr rfl) (by first | omega | (intro h; omega) | exact Or.inl rfl | exact Or.inr rfl) hl (by omega)
      · have d_12 := iNe c_8
        refine ⟨tIn (by omega) (by omega), ?_⟩
        refine y_Land_servesg hok hwuo_0 rauo_0 (by first | omega | (intro h; omega) | exact Or.inl rfl | exact Or.inr rfl) hR (fun r_13 u_14 gn_15 => ⟨r_13, I0, L, rfl, rfl, ?_⟩)
        clear gn_15
        have b_16 : 0 ≤ r_13.toInt ∧ r_13.toInt ≤ 1 := u_14.rg
        have l_17 : (0 : Int32).toInt = 0 := rfl
        refine ⟨fun c_18 => ?_, fun c_18 => ?_⟩
        · have d_19 := iEq c_18
          unfold fRun_townFor_103
          have a_21 : (x3 + Int32.ofInt 1).toInt = x3.toInt + (1) := tIc (by omega) (by omega) (by decide) (by decide)
          generalize ez_20 : (x3 + Int32.ofInt 1) = z_20 at a_21 ⊢
          exact ih (by first | omega | (intro h; omega) | exact Or.inl rfl | exact Or.inr rfl) (by first | omega | (intro h; omega) | exact Or.inl rfl | exact Or.inr rfl) (by first | omega | (intro h; omega) | exact Or.inl rfl | exact Or.inr rfl) hl (by omega)
        · have d_22 := iNe c_18
          refine y_Run_worthInl hok hw ra hwuo_0 rauo_0 hwuo_1 rauo_1 huo_0 huo_1 hEN (by first | omega | (intro h; omega) | exact Or.inl rfl | exact Or.inr rfl) (by first | omega | (intro h; omega) | exact Or.inl rfl | exact Or.inr rfl) hR (fun r_23  => ⟨r_23, I0, L, rfl, rfl, ?_⟩)
          refine ⟨fun c_24 => ?_, fun c_24 => ?_⟩
          · have d_25 := iLe c_24
            unfold fRun_townFor_103
            have a_27 : (x3 + Int32.ofInt 1).toInt = x3.toInt + (1) := tIc (by omega) (by omega) (by decide) (by decide)
            generalize ez_26 : (x3 + Int32.ofInt 1) = z_26 at a_27 ⊢
            exact ih (by first | omega | (intro h; omega) | exact Or.inl rfl | exact Or.inr rfl) (by first | omega | (intro h; omega) | exact Or.inl rfl | exact Or.inr rfl) (by first | omega | (intro h; omega) | exact Or.inl rfl | exact Or.inr rfl) hl (by omega)
          · have d_28 := iNle c_24
            refine fun L_29 e_30 => ?_
            replace hl := hl.set (by first | rfl | omega | (dsimp only; omega)) e_30
            unfold fRun_townFor_103
            have a_32 : (x3 + Int32.ofInt 1).toInt = x3.toInt + (1) := tIc (by omega) (by omega) (by decide) (by decide)
            generalize ez_31 : (x3 + Int32.ofInt 1) = z_31 at a_32 ⊢
            exact ih (by first | omega | (intro h; omega) | exact Or.inl rfl | exact Or.inr rfl) (by first | omega | (intro h; omega) | exact Or.inl rfl | exact Or.inr rfl) (by first | omega | (intro h; omega) | exact Or.inl rfl | exact Or.inr rfl) hl (by omega)
set_option maxHeartbeats 4000000 in
set_option maxRecDepth 20000 in
theorem y_Run_townForl {D : va_G} {cA : FieldType → ClassId} {b : Nat} {E : State → Prop} {R : qRg} {o n : Nat} {sh : Nat → qC} {Rf : Nat → Nat → Option Nat} {I0 : Nat → Nat → Int32} {L0 : Nat → Nat → Int64} {post : Option Value → qS → Prop} {uo_0 : Nat} {uo_1 : Nat} {p1 : Int32} (hok : q_ok (qGG D cA b E)) (hw : WfRun (qGG D cA b E) n sh Rf o) (ra : RARun R o) (hwuo_0 : WfLand (qGG D cA b E) n sh Rf uo_0) (rauo_0 : RALand R uo_0) (hwuo_1 : WfTrade (qGG D cA b E) n sh Rf uo_1) (rauo_1 : RATrade R uo_1) (huo_0 : Rf o 0 = some uo_0) (huo_1 : Rf o 1 = some uo_1) (hEN : qEN E) (hq0 : (0 : Int) ≤ p1.toInt ∧ p1.toInt ≤ 2) (hR : RI R I0) (hp : ∀ (r : Int32) (L' : Nat → Nat → Int64), (((-1 : Int) ≤ r.toInt ∧ r.toInt ≤ 4)) → (FmL (fun c => c = o) L0 L') → post (some (.int r)) (n, sh, Rf, I0, L')) : Ev (qGG D cA b E) mRun_townFor 3 (0, 0) 0 (lv_args 0 [.ref o, .int p1]) [] (n, sh, Rf, I0, L0) post := by
  refine sRun_townFor_0 o n sh Rf I0 L0 post p1 uo_0 hok hw huo_0 hwuo_0 ?_
  unfold fRun_townFor_0
  have hl : FmL (fun c => c = o) L0 L0 := FmL.rf
  refine fun L_33 e_34 => ?_
  replace hl := hl.set (by first | rfl | omega | (dsimp only; omega)) e_34
  have l_35 : (-1 : Int32).toInt = -1 := rfl
  have l_36 : (0 : Int32).toInt = 0 := rfl
  exact yRun_townFor_11l (I0 := I0) (L0 := L0) (p1 := p1) hok hw ra hwuo_0 rauo_0 hwuo_1 rauo_1 huo_0 huo_1 hEN hq0 hR hp  _ (by first | omega | (intro h; omega) | exact Or.inl rfl | exact Or.inr rfl) (by first | omega | (intro h; omega) | exact Or.inl rfl | exact Or.inr rfl) (by first | omega | (intro h; omega) | exact Or.inl rfl | exact Or.inr rfl) hl (Nat.lt_succ_self _)
set_option maxHeartbeats 4000000 in
set_option maxRecDepth 20000 in
theorem y_Run_rateAtl {D : va_G} {cA : FieldType → ClassId} {b : Nat} {E : State → Prop} {R : qRg} {o n : Nat} {sh : Nat → qC} {Rf : Nat → Nat → Option Nat} {I0 : Nat → Nat → Int32} {L0 : Nat → Nat → Int64} {post : Option Value → qS → Prop} {uo_0 : Nat} {uo_1 : Nat} {p1 : Int32} {p2 : Int32} (hok : q_ok (qGG D cA b E)) (hw : WfRun (qGG D cA b E) n sh Rf o) (ra : RARun R o) (hwuo_0 : WfLand (qGG D cA b E) n sh Rf uo_0) (rauo_0 : RALand R uo_0) (hwuo_1 : WfTrade (qGG D cA b E) n sh Rf uo_1) (rauo_1 : RATrade R uo_1) (huo_0 : Rf o 0 = some uo_0) (huo_1 : Rf o 1 = some uo_1) (hq0 : (0 : Int) ≤ p1.toInt ∧ p1.toInt ≤ 2) (hR : RI R I0) (hp : ∀ (r : Int32) (I' : Nat → Nat → Int32) (L' : Nat → Nat → Int64), RI R I' → Fm (fun c => c = o + 59 ∨ (o + 19 ≤ c ∧ c < o + 24)) I0 I' → (FmL (fun c => False) L0 L') → post (some (.int r)) (n, sh, Rf, I', L')) : Ev (qGG D cA b E) mRun_rateAt 2 (0, 0) 0 (lv_args 0 [.ref o, .int p1, .int p2]) [] (n, sh, Rf, I0, L0) post := by
  have hf : Fm (fun c => c = o + 59 ∨ (o + 19 ≤ c ∧ c < o + 24)) I0 I0 := Fm.rf
  refine sRun_rateAt_0 o n sh Rf I0 L0 post p1 p2 uo_0 hok hw huo_0 hwuo_0 ?_
  unfold fRun_rateAt_0
  have hl : FmL (fun c => False) L0 L0 := FmL.rf
  refine ⟨tIn (by omega) (by omega), ?_⟩
  refine y_Run_askCommonl hok hw ra hwuo_0 rauo_0 hwuo_1 rauo_1 huo_0 huo_1 hR (fun I_3 L_4 hR_5 fr_6 ln_2 => ⟨I_3, L_4, rfl, rfl, ?_⟩)
  replace hl := hl.call ln_2 (fun c hc => by first | exact hc | exact False.elim hc | (dsimp only at hc ⊢; omega) | omega)
  have hf_7 : Fm (fun c => c = o + 59 ∨ (o + 19 ≤ c ∧ c < o + 24)) I0 I_3 := hf.call fr_6 (fun c hc => by first | exact hc | (dsimp only at hc ⊢; omega) | omega)
  refine ⟨tIn (by omega) (by omega), ?_⟩
  have l_8 : (4 : Int32).toInt = 4 := rfl
  refine fun I_9 e_10 => ?_
  have hR_11 : RI R I_9 := hR_5.up ra 59 (by decide) (Or.inl rfl) e_10 (i_lo _) (i_hi _)
  have hf_12 : Fm (fun c => c = o + 59 ∨ (o + 19 ≤ c ∧ c < o + 24)) I0 I_9 := hf_7.set (by first | rfl | omega | (dsimp only; omega)) e_10
  have l_13 : (0 : Int32).toInt = 0 := rfl
  refine ⟨fun c_14 => ?_, fun c_14 => ?_⟩
  · have d_15 := iNe c_14
    refine ⟨tIn (by omega) (by omega), ?_⟩
    refine ⟨fun h => absurd (iEq h) (by have : (0 : Int32).toInt = 0 := rfl; omega), ?_⟩
    unfold fRun_rateAt_56
    have l_16 : (25 : Int32).toInt = 25 := rfl
    refine ⟨tIn (by omega) (by omega), fun I_17 e_18 => ?_⟩
    have hR_19 : RI R I_17 := hR_11.up ra 59 (by decide) (Or.inl rfl) e_18 (i_lo _) (i_hi _)
    have hf_20 : Fm (fun c => c = o + 59 ∨ (o + 19 ≤ c ∧ c < o + 24)) I0 I_17 := hf_12.set (by first | rfl | omega | (dsimp only; omega)) e_18
    have l_21 : (26 : Int32).toInt = 26 := rfl
    refine fun I_22 e_23 => ?_
    have hR_24 : RI R I_22 := hR_19.up ra 59 (by decide) (Or.inl rfl) e_23 (i_lo _) (i_hi _)
    have hf_25 : Fm (fun c => c = o + 59 ∨ (o + 19 ≤ c ∧ c < o + 24)) I0 I_22 := hf_20.set (by first | rfl | omega | (dsimp only; omega)) e_23
    refine y_Reform_telll hok (wsRun_2 hw) (rsRun_2 ra) (fun _ _ => waRun_8 hw) (by first | omega | (intro h; omega) | exact Or.inl rfl | exact Or.inr rfl) hR_24 (fun r_26 I_28 L_29 hR_30 fr_31 ln_27 => ⟨r_26, I_28, L_29, rfl, rfl, ?_⟩)
    replace hl := hl.call ln_27 (fun c hc => by first | exact hc | exact False.elim hc | (dsimp only at hc ⊢; omega) | omega)
    have hf_32 : Fm (fun c => c = o + 59 ∨ (o + 19 ≤ c ∧ c < o + 24)) I0 I_28 := hf_25.call fr_31 (fun c hc => by first | exact hc | (dsimp only at hc ⊢; omega) | omega)
    refine fun y_33 e_34 => ?_
    have l_35 : (9999 : Int32).toInt = 9999 := rfl
    have m_36 := tMin e_34
    refine fun y_37 e_38 => ?_
    have m_39 := tMax e_38
    exact (hp _ _ _ hR_30 hf_32  hl)
  · have d_40 := iEq c_14
    unfold fRun_rateAt_56
    have l_41 : (9999 : Int32).toInt = 9999 := rfl
    have l_42 : (25 : Int32).toInt = 25 := rfl
    refine ⟨tIn (by omega) (by omega), fun I_43 e_44 => ?_⟩
    have hR_45 : RI R I_43 := hR_11.up ra 59 (by decide) (Or.inl rfl) e_44 (i_lo _) (i_hi _)
    have hf_46 : Fm (fun c => c = o + 59 ∨ (o + 19 ≤ c ∧ c < o + 24)) I0 I_43 := hf_12.set (by first | rfl | omega | (dsimp only; omega)) e_44
    have l_47 : (26 : Int32).toInt = 26 := rfl
    refine fun I_48 e_49 => ?_
    have hR_50 : RI R I_48 := hR_45.up ra 59 (by decide) (Or.inl rfl) e_49 (i_lo _) (i_hi _)
    have hf_51 : Fm (fun c => c = o + 59 ∨ (o + 19 ≤ c ∧ c < o + 24)) I0 I_48 := hf_46.set (by first | rfl | omega | (dsimp only; omega)) e_49
    refine y_Reform_telll hok (wsRun_2 hw) (rsRun_2 ra) (fun _ _ => waRun_8 hw) (by first | omega | (intro h; omega) | exact Or.inl rfl | exact Or.inr rfl) hR_50 (fun r_52 I_54 L_55 hR_56 fr_57 ln_53 => ⟨r_52, I_54, L_55, rfl, rfl, ?_⟩)
    replace hl := hl.call ln_53 (fun c hc => by first | exact hc | exact False.elim hc | (dsimp only at hc ⊢; omega) | omega)
    have hf_58 : Fm (fun c => c = o + 59 ∨ (o + 19 ≤ c ∧ c < o + 24)) I0 I_54 := hf_51.call fr_57 (fun c hc => by first | exact hc | (dsimp only at hc ⊢; omega) | omega)
    refine fun y_59 e_60 => ?_
    have m_61 := tMin e_60
    refine fun y_62 e_63 => ?_
    have m_64 := tMax e_63
    exact (hp _ _ _ hR_56 hf_58  hl)
set_option maxHeartbeats 4000000 in
set_option maxRecDepth 20000 in
theorem yRun_tellMonth_6l {D : va_G} {cA : FieldType → ClassId} {b : Nat} {E : State → Prop} {R : qRg} {o n : Nat} {sh : Nat → qC} {Rf : Nat → Nat → Option Nat} {I0 : Nat → Nat → Int32} {L0 : Nat → Nat → Int64} {post : Option Value → qS → Prop} {uo_0 : Nat} {uo_1 : Nat} (hok : q_ok (qGG D cA b E)) (hw : WfRun (qGG D cA b E) n sh Rf o) (ra : RARun R o) (hwuo_0 : WfLand (qGG D cA b E) n sh Rf uo_0) (rauo_0 : RALand R uo_0) (hwuo_1 : WfTrade (qGG D cA b E) n sh Rf uo_1) (rauo_1 : RATrade R uo_1) (huo_0 : Rf o 0 = some uo_0) (huo_1 : Rf o 1 = some uo_1) (hp : ∀ (I' : Nat → Nat → Int32) (L' : Nat → Nat → Int64), RI R I' → Fm (fun c => c = o ∨ c = o + 59 ∨ c = o + 60 ∨ (o + 19 ≤ c ∧ c < o + 24) ∨ (o + 24 ≤ c ∧ c < o + 31)) I0 I' → ((I' o 17).toInt = (I0 o 17).toInt) → (FmL (fun c => False) L0 L') → post none (n, sh, Rf, I', L')) : ∀ (k : Nat) {x1 : Int32} {I : Nat → Nat → Int32} {L : Nat → Nat → Int64}, RI R I → Fm (fun c => c = o ∨ c = o + 59 ∨ c = o + 60 ∨ (o + 19 ≤ c ∧ c < o + 24) ∨ (o + 24 ≤ c ∧ c < o + 31)) I0 I → ((2 : Int) ≤ x1.toInt ∧ x1.toInt ≤ 6) → ((I o 17).toInt = (I0 o 17).toInt) → (FmL (fun c => False) L0 L) → (6 - x1.toInt).toNat < k → Ev (qGG D cA b E) mRun_tellMonth 2 (0, 0) 6 [(0, .ref o), (1, .int x1)] [] (n, sh, Rf, I, L) post := by
  intro k
  induction k with
  | zero =>
    intro x1 I L hR hf hi0 hi1 hl hm
    exact absurd hm (Nat.not_lt_zero _)
  | succ k ih =>
    intro x1 I L hR hf hi0 hi1 hl hm
    have g_1 : (0 : Int) ≤ (I o 17).toInt ∧ (I o 17).toInt ≤ 240 := hR.at0 ra 17 (by decide)
    refine sRun_tellMonth_6 o n sh Rf I L post x1 uo_0 hok hw huo_0 hwuo_0 ?_
    unfold fRun_tellMonth_6
    have l_2 : (5 : Int32).toInt = 5 := rfl
    refine ⟨fun c_3 => ?_, fun c_3 => ?_⟩
    · have d_4 := iLt c_3
      have l_5 : (3 : Int32).toInt = 3 := rfl
      refine fun I_6 e_7 => ?_
      have hR_8 : RI R I_6 := hR.up0 (k := 18) ra (by decide) (Or.inl rfl) e_7 (i_lo _) (i_hi _)
      have hf_9 : Fm (fun c => c = o ∨ c = o + 59 ∨ c = o + 60 ∨ (o + 19 ≤ c ∧ c < o + 24) ∨ (o + 24 ≤ c ∧ c < o + 31)) I0 I_6 := hf.set (by first | rfl | omega | (dsimp only; omega)) e_7
      have t_10 : (I_6 o 17).toInt = (I o 17).toInt := by rw [← e_7, q_u_k (by decide)]
      refine y_Realm_refillGrainl hok (wsRun_3 hw) (rsRun_3 ra) hwuo_0 rauo_0 hR_8 (fun I_13 L_14 hR_15 fr_16 ln_12 => ⟨I_13, L_14, rfl, rfl, ?_⟩)
      replace hl := hl.call ln_12 (fun c hc => by first | exact hc | exact False.elim hc | (dsimp only at hc ⊢; omega) | omega)
      have hf_17 : Fm (fun c => c = o ∨ c = o + 59 ∨ c = o + 60 ∨ (o + 19 ≤ c ∧ c < o + 24) ∨ (o + 24 ≤ c ∧ c < o + 31)) I0 I_13 := hf_9.call fr_16 (fun c hc => by first | exact hc | (dsimp only at hc ⊢; omega) | omega)
      have t_18 : (I_13 o 17).toInt = (I_6 o 17).toInt := by rw [fr_16 o (by first | omega | (dsimp only; omega))]
      exact (hp _ _ hR_15 hf_17 (by first | omega | (intro h; omega) | exact Or.inl rfl | exact Or.inr rfl) hl)
    · have d_19 := iNlt c_3
      refine ⟨fun c_20 => ?_, fun c_20 => ?_⟩
      · have d_21 := iNe c_20
        unfold fRun_tellMonth_24
        have l_22 : (9999 : Int32).toInt = 9999 := rfl
        refine y_Reform_telll hok (wsRun_2 hw) (rsRun_2 ra) (fun _ _ => waRun_8 hw) (by first | omega | (intro h; omega) | exact Or.inl rfl | exact Or.inr rfl) hR (fun r_23 I_25 L_26 hR_27 fr_28 ln_24 => ⟨r_23, I_25, L_26, rfl, rfl, ?_⟩)
        replace hl := hl.call ln_24 (fun c hc => by first | exact hc | exact False.elim hc | (dsimp only at hc ⊢; omega) | omega)
        have hf_29 : Fm (fun c => c = o ∨ c = o + 59 ∨ c = o + 60 ∨ (o + 19 ≤ c ∧ c < o + 24) ∨ (o + 24 ≤ c ∧ c < o + 31)) I0 I_25 := hf.call fr_28 (fun c hc => by first | exact hc | (dsimp only at hc ⊢; omega) | omega)
        have t_30 : (I_25 o 17).toInt = (I o 17).toInt := by rw [fr_28 o (by first | omega | (dsimp only; omega))]
        refine fun y_31 e_32 => ?_
        have m_33 := tMin e_32
        refine fun y_34 e_35 => ?_
        have l_36 : (0 : Int32).toInt = 0 := rfl
        have m_37 := tMax e_35
        refine ⟨tIn (by omega) (by omega), fun I_38 e_39 => ?_⟩
        have hR_40 : RI R I_38 := hR_27.up ra 60 (by decide) (Or.inl rfl) e_39 (i_lo _) (i_hi _)
        have hf_41 : Fm (fun c => c = o ∨ c = o + 59 ∨ c = o + 60 ∨ (o + 19 ≤ c ∧ c < o + 24) ∨ (o + 24 ≤ c ∧ c < o + 31)) I0 I_38 := hf_29.set (by first | rfl | omega | (dsimp only; omega)) e_39
        have t_42 : (I_38 o 17).toInt = (I_25 o 17).toInt := by rw [← e_39, q_u_ne (by omega)]
        have a_44 : (x1 + Int32.ofInt 1).toInt = x1.toInt + (1) := tIc (by omega) (by omega) (by decide) (by decide)
        generalize ez_43 : (x1 + Int32.ofInt 1) = z_43 at a_44 ⊢
        exact ih hR_40 hf_41 (by first | omega | (intro h; omega) | exact Or.inl rfl | exact Or.inr rfl) (by first | omega | (intro h; omega) | exact Or.inl rfl | exact Or.inr rfl) hl (by omega)
      · have d_45 := iEq c_20
        unfold fRun_tellMonth_24
        have l_46 : (100 : Int32).toInt = 100 := rfl
        refine y_Reform_telll hok (wsRun_2 hw) (rsRun_2 ra) (fun _ _ => waRun_8 hw) (by first | omega | (intro h; omega) | exact Or.inl rfl | exact Or.inr rfl) hR (fun r_47 I_49 L_50 hR_51 fr_52 ln_48 => ⟨r_47, I_49, L_50, rfl, rfl, ?_⟩)
        replace hl := hl.call ln_48 (fun c hc => by first | exact hc | exact False.elim hc | (dsimp only at hc ⊢; omega) | omega)
        have hf_53 : Fm (fun c => c = o ∨ c = o + 59 ∨ c = o + 60 ∨ (o + 19 ≤ c ∧ c < o + 24) ∨ (o + 24 ≤ c ∧ c < o + 31)) I0 I_49 := hf.call fr_52 (fun c hc => by first | exact hc | (dsimp only at hc ⊢; omega) | omega)
        have t_54 : (I_49 o 17).toInt = (I o 17).toInt := by rw [fr_52 o (by first | omega | (dsimp only; omega))]
        refine fun y_55 e_56 => ?_
        have m_57 := tMin e_56
        refine fun y_58 e_59 => ?_
        have l_60 : (0 : Int32).toInt = 0 := rfl
        have m_61 := tMax e_59
        refine ⟨tIn (by omega) (by omega), fun I_62 e_63 => ?_⟩
        have hR_64 : RI R I_62 := hR_51.up ra 60 (by decide) (Or.inl rfl) e_63 (i_lo _) (i_hi _)
        have hf_65 : Fm (fun c => c = o ∨ c = o + 59 ∨ c = o + 60 ∨ (o + 19 ≤ c ∧ c < o + 24) ∨ (o + 24 ≤ c ∧ c < o + 31)) I0 I_62 := hf_53.set (by first | rfl | omega | (dsimp only; omega)) e_63
        have t_66 : (I_62 o 17).toInt = (I_49 o 17).toInt := by rw [← e_63, q_u_ne (by omega)]
        have a_68 : (x1 + Int32.ofInt 1).toInt = x1.toInt + (1) := tIc (by omega) (by omega) (by decide) (by decide)
        generalize ez_67 : (x1 + Int32.ofInt 1) = z_67 at a_68 ⊢
        exact ih hR_64 hf_65 (by first | omega | (intro h; omega) | exact Or.inl rfl | exact Or.inr rfl) (by first | omega | (intro h; omega) | exact Or.inl rfl | exact Or.inr rfl) hl (by omega)
set_option maxHeartbeats 4000000 in
set_option maxRecDepth 20000 in
theorem y_Run_tellMonthl {D : va_G} {cA : FieldType → ClassId} {b : Nat} {E : State → Prop} {R : qRg} {o n : Nat} {sh : Nat → qC} {Rf : Nat → Nat → Option Nat} {I0 : Nat → Nat → Int32} {L0 : Nat → Nat → Int64} {post : Option Value → qS → Prop} {uo_0 : Nat} {uo_1 : Nat} (hok : q_ok (qGG D cA b E)) (hw : WfRun (qGG D cA b E) n sh Rf o) (ra : RARun R o) (hwuo_0 : WfLand (qGG D cA b E) n sh Rf uo_0) (rauo_0 : RALand R uo_0) (hwuo_1 : WfTrade (qGG D cA b E) n sh Rf uo_1) (rauo_1 : RATrade R uo_1) (huo_0 : Rf o 0 = some uo_0) (huo_1 : Rf o 1 = some uo_1) (hR : RI R I0) (hp : ∀ (I' : Nat → Nat → Int32) (L' : Nat → Nat → Int64), RI R I' → Fm (fun c => c = o ∨ c = o + 59 ∨ c = o + 60 ∨ (o + 19 ≤ c ∧ c < o + 24) ∨ (o + 24 ≤ c ∧ c < o + 31)) I0 I' → ((I' o 17).toInt = (I0 o 17).toInt) → (FmL (fun c => False) L0 L') → post none (n, sh, Rf, I', L')) : Ev (qGG D cA b E) mRun_tellMonth 2 (0, 0) 0 (lv_args 0 [.ref o]) [] (n, sh, Rf, I0, L0) post := by
  have hf : Fm (fun c => c = o ∨ c = o + 59 ∨ c = o + 60 ∨ (o + 19 ≤ c ∧ c < o + 24) ∨ (o + 24 ≤ c ∧ c < o + 31)) I0 I0 := Fm.rf
  have g_69 : (0 : Int) ≤ (I0 o 17).toInt ∧ (I0 o 17).toInt ≤ 240 := hR.at0 ra 17 (by decide)
  refine sRun_tellMonth_0 o n sh Rf I0 L0 post uo_0 hok hw huo_0 hwuo_0 ?_
  unfold fRun_tellMonth_0
  have hl : FmL (fun c => False) L0 L0 := FmL.rf
  refine y_Run_askCommonl hok hw ra hwuo_0 rauo_0 hwuo_1 rauo_1 huo_0 huo_1 hR (fun I_72 L_73 hR_74 fr_75 ln_71 => ⟨I_72, L_73, rfl, rfl, ?_⟩)
  replace hl := hl.call ln_71 (fun c hc => by first | exact hc | exact False.elim hc | (dsimp only at hc ⊢; omega) | omega)
  have hf_76 : Fm (fun c => c = o ∨ c = o + 59 ∨ c = o + 60 ∨ (o + 19 ≤ c ∧ c < o + 24) ∨ (o + 24 ≤ c ∧ c < o + 31)) I0 I_72 := hf.call fr_75 (fun c hc => by first | exact hc | (dsimp only at hc ⊢; omega) | omega)
  have t_77 : (I_72 o 17).toInt = (I0 o 17).toInt := by rw [fr_75 o (by first | omega | (dsimp only; omega))]
  have l_78 : (2 : Int32).toInt = 2 := rfl
  exact yRun_tellMonth_6l (I0 := I0) (L0 := L0) hok hw ra hwuo_0 rauo_0 hwuo_1 rauo_1 huo_0 huo_1 hp  _ hR_74 hf_76 (by first | omega | (intro h; omega) | exact Or.inl rfl | exact Or.inr rfl) (by first | omega | (intro h; omega) | exact Or.inl rfl | exact Or.inr rfl) hl (Nat.lt_succ_self _)
