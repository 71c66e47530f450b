/-! Safety of Tape, its TOKENS: by program (spec.py). -/
set_option maxHeartbeats 4000000 in
set_option maxRecDepth 20000 in
theorem y_Tape_withLetter {D : va_G} {cA : FieldType → ClassId} {b : Nat} {E : State → Prop} {R : qRg} {n : Nat} {sh : Nat → qC} {Rf : Nat → Nat → Option Nat} {I0 : Nat → Nat → Int32} {L0 : Nat → Nat → Int64} {post : Option Value → qS → Prop} {p0 : Int64} {p2 : Int32} (hok : q_ok (qGG D cA b E)) (hR : RI R I0) (hp : ∀ (r : Int64) , post (some (.long r)) (n, sh, Rf, I0, L0)) : Ev (qGG D cA b E) mTape_withLetter 0 (0, 0) 0 (lv_args 0 [.long p0, .int p2]) [] (n, sh, Rf, I0, L0) post := by
  refine sTape_withLetter_0 n sh Rf I0 L0 post p0 p2 hok  ?_
  unfold fTape_withLetter_0
  exact (hp _ )
set_option maxHeartbeats 4000000 in
set_option maxRecDepth 20000 in
theorem y_Tape_placeAt {D : va_G} {cA : FieldType → ClassId} {b : Nat} {E : State → Prop} {R : qRg} {o n : Nat} {sh : Nat → qC} {Rf : Nat → Nat → Option Nat} {I0 : Nat → Nat → Int32} {L0 : Nat → Nat → Int64} {post : Option Value → qS → Prop} {p1 : Int32} (hok : q_ok (qGG D cA b E)) (hw : WfTape (qGG D cA b E) n sh Rf o) (ra : RATape R o) (hR : RI R I0) (hp : ∀ (r : Int32) , (r = plF (I0 (o + 1)) (I0 o 6) p1) → post (some (.int r)) (n, sh, Rf, I0, L0)) : Ev (qGG D cA b E) mTape_placeAt 1 (0, 0) 0 (lv_args 0 [.ref o, .int p1]) [] (n, sh, Rf, I0, L0) post := by
  refine sTape_placeAt_0 o n sh Rf I0 L0 post p1 hok hw ?_
  unfold fTape_placeAt_0
  refine y_Tape_byteAt hok hw ra hR (fun r_1 u_2 => ⟨r_1, I0, L0, rfl, rfl, ?_⟩)
  have l_3 : (112 : Int32).toInt = 112 := rfl
  refine ⟨fun c_4 => ?_, fun c_4 => ?_⟩
  · have d_5 := iNe c_4
    have l_6 : (-1 : Int32).toInt = -1 := rfl
    exact (hp _ (by subst_vars; simp_all [plF, pfF] <;> (intro h; exact absurd h (Int32.not_lt.mpr (by assumption)))))
  · have d_7 := iEq c_4
    refine y_Tape_byteAt hok hw ra hR (fun r_8 u_9 => ⟨r_8, I0, L0, rfl, rfl, ?_⟩)
    refine y_Tape_isDigit hok hR (fun r_10 u_11 u_12 => ⟨r_10, I0, L0, rfl, rfl, ?_⟩)
    have b_13 : 0 ≤ r_10.toInt ∧ r_10.toInt ≤ 1 := u_11.rg
    have l_14 : (0 : Int32).toInt = 0 := rfl
    refine ⟨fun c_15 => ?_, fun c_15 => ?_⟩
    · have d_16 := iNe c_15
      refine y_Tape_byteAt hok hw ra hR (fun r_17 u_18 => ⟨r_17, I0, L0, rfl, rfl, ?_⟩)
      have j_19 := iEq (u_18.trans u_9.symm)
      refine y_Tape_byteAt hok hw ra hR (fun r_20 u_21 => ⟨r_20, I0, L0, rfl, rfl, ?_⟩)
      refine y_Tape_isDigit hok hR (fun r_22 u_23 u_24 => ⟨r_22, I0, L0, rfl, rfl, ?_⟩)
      have b_25 : 0 ≤ r_22.toInt ∧ r_22.toInt ≤ 1 := u_23.rg
      refine ⟨fun c_26 => ?_, fun c_26 => ?_⟩
      · have d_27 := iEq c_26
        unfold fTape_placeAt_68
        refine y_Tape_byteAt hok hw ra hR (fun r_28 u_29 => ⟨r_28, I0, L0, rfl, rfl, ?_⟩)
        have j_30 := iEq (u_29.trans u_21.symm)
        refine y_Tape_isDigit hok hR (fun r_31 u_32 u_33 => ⟨r_31, I0, L0, rfl, rfl, ?_⟩)
        have b_34 : 0 ≤ r_31.toInt ∧ r_31.toInt ≤ 1 := u_32.rg
        refine ⟨fun c_35 => ?_, fun c_35 => ?_⟩
        · have d_36 := iNe c_35
          unfold fTape_placeAt_90
          unfold fTape_placeAt_95
          have l_37 : (1 : Int32).toInt = 1 := rfl
          refine ⟨fun c_38 => ?_, fun c_38 => ?_⟩
          · have d_39 := iNe c_38
            unfold fTape_placeAt_108
            have l_40 : (-1 : Int32).toInt = -1 := rfl
            exact (hp _ (by subst_vars; simp_all [plF, pfF] <;> (intro h; exact absurd h (Int32.not_lt.mpr (by assumption)))))
          · have d_41 := iEq c_38
            exfalso; omega
        · have d_42 := iEq c_35
          refine y_Tape_byteAt hok hw ra hR (fun r_43 u_44 => ⟨r_43, I0, L0, rfl, rfl, ?_⟩)
          have j_45 := iEq (u_44.trans u_29.symm)
          refine y_Tape_isLetter hok hR (fun r_46 u_47 u_48 => ⟨r_46, I0, L0, rfl, rfl, ?_⟩)
          have b_49 : 0 ≤ r_46.toInt ∧ r_46.toInt ≤ 1 := u_47.rg
          refine ⟨fun c_50 => ?_, fun c_50 => ?_⟩
          · have d_51 := iEq c_50
            unfold fTape_placeAt_95
            refine ⟨fun c_52 => ?_, fun c_52 => ?_⟩
            · have d_53 := iNe c_52
              exfalso; omega
            · have d_54 := iEq c_52
              have l_55 : (16 : Int32).toInt = 16 := rfl
              refine ⟨fun c_56 => ?_, fun c_56 => ?_⟩
              · have d_57 := iLt c_56
                exact (hp _ (by subst_vars; simp_all [plF, pfF] <;> (intro h; exact absurd h (Int32.not_lt.mpr (by assumption)))))
              · have d_58 := iNlt c_56
                unfold fTape_placeAt_108
                have l_59 : (-1 : Int32).toInt = -1 := rfl
                exact (hp _ (by subst_vars; simp_all [plF, pfF] <;> (intro h; exact absurd h (Int32.not_lt.mpr (by assumption)))))
          · have d_60 := iNe c_50
            unfold fTape_placeAt_90
            unfold fTape_placeAt_95
            have l_61 : (1 : Int32).toInt = 1 := rfl
            refine ⟨fun c_62 => ?_, fun c_62 => ?_⟩
            · have d_63 := iNe c_62
              unfold fTape_placeAt_108
              have l_64 : (-1 : Int32).toInt = -1 := rfl
              exact (hp _ (by subst_vars; simp_all [plF, pfF] <;> (intro h; exact absurd h (Int32.not_lt.mpr (by assumption)))))
            · have d_65 := iEq c_62
              exfalso; omega
      · have d_66 := iNe c_26
        refine y_Tape_byteAt hok hw ra hR (fun r_67 u_68 => ⟨r_67, I0, L0, rfl, rfl, ?_⟩)
        have j_69 := iEq (u_68.trans u_21.symm)
        generalize ez_70 : ((p1 + 2) + Int32.ofInt 1) = z_70
        unfold fTape_placeAt_68
        refine y_Tape_byteAt hok hw ra hR (fun r_71 u_72 => ⟨r_71, I0, L0, rfl, rfl, ?_⟩)
        refine y_Tape_isDigit hok hR (fun r_73 u_74 u_75 => ⟨r_73, I0, L0, rfl, rfl, ?_⟩)
        have b_76 : 0 ≤ r_73.toInt ∧ r_73.toInt ≤ 1 := u_74.rg
        refine ⟨fun c_77 => ?_, fun c_77 => ?_⟩
        · have d_78 := iNe c_77
          unfold fTape_placeAt_90
          unfold fTape_placeAt_95
          have l_79 : (1 : Int32).toInt = 1 := rfl
          refine ⟨fun c_80 => ?_, fun c_80 => ?_⟩
          · have d_81 := iNe c_80
            unfold fTape_placeAt_108
            have l_82 : (-1 : Int32).toInt = -1 := rfl
            exact (hp _ (by subst_vars; simp_all [plF, pfF] <;> (intro h; exact absurd h (Int32.not_lt.mpr (by assumption)))))
          · have d_83 := iEq c_80
            exfalso; omega
        · have d_84 := iEq c_77
          refine y_Tape_byteAt hok hw ra hR (fun r_85 u_86 => ⟨r_85, I0, L0, rfl, rfl, ?_⟩)
          have j_87 := iEq (u_86.trans u_72.symm)
          refine y_Tape_isLetter hok hR (fun r_88 u_89 u_90 => ⟨r_88, I0, L0, rfl, rfl, ?_⟩)
          have b_91 : 0 ≤ r_88.toInt ∧ r_88.toInt ≤ 1 := u_89.rg
          refine ⟨fun c_92 => ?_, fun c_92 => ?_⟩
          · have d_93 := iEq c_92
            unfold fTape_placeAt_95
            refine ⟨fun c_94 => ?_, fun c_94 => ?_⟩
            · have d_95 := iNe c_94
              exfalso; omega
            · have d_96 := iEq c_94
              have l_97 : (16 : Int32).toInt = 16 := rfl
              refine ⟨fun c_98 => ?_, fun c_98 => ?_⟩
              · have d_99 := iLt c_98
                exact (hp _ (by subst_vars; simp_all [plF, pfF] <;> (intro h; exact absurd h (Int32.not_lt.mpr (by assumption)))))
              · have d_100 := iNlt c_98
                unfold fTape_placeAt_108
                have l_101 : (-1 : Int32).toInt = -1 := rfl
                exact (hp _ (by subst_vars; simp_all [plF, pfF] <;> (intro h; exact absurd h (Int32.not_lt.mpr (by assumption)))))
          · have d_102 := iNe c_92
            unfold fTape_placeAt_90
            unfold fTape_placeAt_95
            have l_103 : (1 : Int32).toInt = 1 := rfl
            refine ⟨fun c_104 => ?_, fun c_104 => ?_⟩
            · have d_105 := iNe c_104
              unfold fTape_placeAt_108
              have l_106 : (-1 : Int32).toInt = -1 := rfl
              exact (hp _ (by subst_vars; simp_all [plF, pfF] <;> (intro h; exact absurd h (Int32.not_lt.mpr (by assumption)))))
            · have d_107 := iEq c_104
              exfalso; omega
    · have d_108 := iEq c_15
      have l_109 : (-1 : Int32).toInt = -1 := rfl
      exact (hp _ (by subst_vars; simp_all [plF, pfF] <;> (intro h; exact absurd h (Int32.not_lt.mpr (by assumption)))))
set_option maxHeartbeats 4000000 in
set_option maxRecDepth 20000 in
theorem y_Tape_cutPlace {D : va_G} {cA : FieldType → ClassId} {b : Nat} {E : State → Prop} {R : qRg} {o n : Nat} {sh : Nat → qC} {Rf : Nat → Nat → Option Nat} {I0 : Nat → Nat → Int32} {L0 : Nat → Nat → Int64} {post : Option Value → qS → Prop} {p1 : Int32} {p2 : Int32} (hok : q_ok (qGG D cA b E)) (hw : WfTape (qGG D cA b E) n sh Rf o) (ra : RATape R o) (hq0 : (0 : Int) ≤ p1.toInt ∧ p1.toInt ≤ 1600) (hq1 : (0 : Int) ≤ p2.toInt ∧ p2.toInt ≤ 1600) (hq2 : 0 ≤ (plF (I0 (o + 1)) (I0 o 6) p2).toInt) (hq3 : TokX I0 o p1.toNatClampNeg) (hR : RI R I0) (hp : ∀ (r : Int32) (I' : Nat → Nat → Int32) (L' : Nat → Nat → Int64), RI R I' → Fm (fun c => c = o + 3 ∨ c = o + 5) I0 I' → (((0 : Int) ≤ r.toInt ∧ r.toInt ≤ 1603)) → (TokOK I' o) → post (some (.int r)) (n, sh, Rf, I', L')) : Ev (qGG D cA b E) mTape_cutPlace 2 (0, 0) 0 (lv_args 0 [.ref o, .int p1, .int p2]) [] (n, sh, Rf, I0, L0) post := by
  have hf : Fm (fun c => c = o + 3 ∨ c = o + 5) I0 I0 := Fm.rf
  refine sTape_cutPlace_0 o n sh Rf I0 L0 post p1 p2 hok hw ?_
  unfold fTape_cutPlace_0
  have l_1 : (3 : Int32).toInt = 3 := rfl
  refine ⟨tIn (by omega) (by omega), fun I_2 e_3 => ?_⟩
  have hR_4 : RI R I_2 := hR.up ra 3 (by decide) (Or.inl rfl) e_3 (i_lo _) (i_hi _)
  have hf_5 : Fm (fun c => c = o + 3 ∨ c = o + 5) I0 I_2 := hf.set (by first | rfl | omega | (dsimp only; omega)) e_3
  have k_6 : TokX I_2 o p1.toNatClampNeg := hq3.put3 e_3 (by first | rfl | rw [hi2] | rw [hi3])
  have x_7 : I_2 (o + 3) (p1 : Int32).toNatClampNeg = (3 : Int32) := by rw [← e_3, q_u_at]
  refine y_Tape_placeAt hok hw ra hR_4 (fun r_8 u_9 => ⟨r_8, I_2, L0, rfl, rfl, ?_⟩)
  have pe := u_9
  rw [hf_5 (o + 1) (by first | omega | (dsimp only; omega)), hf_5 o (by first | omega | (dsimp only; omega))] at pe
  have pr := pl_rg (I0 (o + 1)) (I0 o 6) p2
  have pz := hq2
  rw [← pe] at pr pz
  refine ⟨tIn (by omega) (by omega), fun I_10 e_11 => ?_⟩
  have hR_12 : RI R I_10 := hR_4.up ra 5 (by decide) (Or.inl rfl) e_11 (i_lo _) (i_hi _)
  have hf_13 : Fm (fun c => c = o + 3 ∨ c = o + 5) I0 I_10 := hf_5.set (by first | rfl | omega | (dsimp only; omega)) e_11
  have k_14 : TokX I_10 o p1.toNatClampNeg := k_6.put5 e_11 (by first | rfl | rw [hi2] | rw [hi3])
  have x_15 : I_10 (o + 3) (p1 : Int32).toNatClampNeg = (3 : Int32) := by rw [← e_11, q_u_ne (by omega)]; exact x_7
  have x_16 : I_10 (o + 5) (p1 : Int32).toNatClampNeg = r_8 := by rw [← e_11, q_u_at]
  have l_17 : (2 : Int32).toInt = 2 := rfl
  have a_18 : (p2 + 2).toInt = p2.toInt + (2 : Int32).toInt := tAdd (by omega) (by omega)
  refine y_Tape_byteAt hok hw ra hR_12 (fun r_19 u_20 => ⟨r_19, I_10, L0, rfl, rfl, ?_⟩)
  refine y_Tape_isDigit hok hR_12 (fun r_21 u_22 u_23 => ⟨r_21, I_10, L0, rfl, rfl, ?_⟩)
  have b_24 : 0 ≤ r_21.toInt ∧ r_21.toInt ≤ 1 := u_22.rg
  have l_25 : (0 : Int32).toInt = 0 := rfl
  refine ⟨fun c_26 => ?_, fun c_26 => ?_⟩
  · have d_27 := iEq c_26
    have a_28 : (p2 + 2).toInt = p2.toInt + (2 : Int32).toInt := tAdd (by omega) (by omega)
    exact (hp _ _ _ hR_12 hf_13 (by first | omega | (intro h; omega) | exact Or.inl rfl | exact Or.inr rfl) (TokX.all k_14 (by unfold TokAt; rw [x_15, x_16]; exact ⟨fun h => by omega, fun h => by omega⟩)))
  · have d_29 := iNe c_26
    have a_30 : (p2 + 3).toInt = p2.toInt + (3 : Int32).toInt := tAdd (by omega) (by omega)
    exact (hp _ _ _ hR_12 hf_13 (by first | omega | (intro h; omega) | exact Or.inl rfl | exact Or.inr rfl) (TokX.all k_14 (by unfold TokAt; rw [x_15, x_16]; exact ⟨fun h => by omega, fun h => by omega⟩)))
set_option maxHeartbeats 4000000 in
set_option maxRecDepth 20000 in
theorem yTape_cutNumber_5 {D : va_G} {cA : FieldType → ClassId} {b : Nat} {E : State → Prop} {R : qRg} {o n : Nat} {sh : Nat → qC} {Rf : Nat → Nat → Option Nat} {I0 : Nat → Nat → Int32} {L0 : Nat → Nat → Int64} {post : Option Value → qS → Prop} {p1 : Int32} {p2 : Int32} (hok : q_ok (qGG D cA b E)) (hw : WfTape (qGG D cA b E) n sh Rf o) (ra : RATape R o) (hq0 : (0 : Int) ≤ p1.toInt ∧ p1.toInt ≤ 1600) (hq1 : (0 : Int) ≤ p2.toInt ∧ p2.toInt ≤ 1600) (hq2 : TokX I0 o p1.toNatClampNeg) (hp : ∀ (r : Int32) (I' : Nat → Nat → Int32) (L' : Nat → Nat → Int64), RI R I' → Fm (fun c => c = o + 3 ∨ c = o + 5) I0 I' → (((0 : Int) ≤ r.toInt ∧ r.toInt ≤ 1603)) → (TokOK I' o) → post (some (.int r)) (n, sh, Rf, I', L')) : ∀ (k : Nat) {x1 : Int32} {x2 : Int32} {x3 : Int32} {x4 : Int32} {I : Nat → Nat → Int32} {L : Nat → Nat → Int64}, RI R I → Fm (fun c => c = o + 3 ∨ c = o + 5) I0 I → ((0 : Int) ≤ x1.toInt ∧ x1.toInt ≤ 1600) → ((0 : Int) ≤ x2.toInt ∧ x2.toInt ≤ 1600) → ((0 : Int) ≤ x3.toInt ∧ x3.toInt ≤ 1603) → (x1 = p1) → (x2.toInt ≤ x3.toInt) → (NumOK (x3.toInt - x2.toInt) x4.toInt) → (TokX I o p1.toNatClampNeg) → (1600 - x3.toInt).toNat < k → Ev (qGG D cA b E) mTape_cutNumber 1 (0, 0) 5 [(0, .ref o), (1, .int x1), (2, .int x2), (3, .int x3), (4, .int x4)] [] (n, sh, Rf, I, L) post := by
  intro k
  induction k with
  | zero =>
    intro x1 x2 x3 x4 I L hR hf hi0 hi1 hi2 hi3 hi4 hi5 hi6 hm
    exact absurd hm (Nat.not_lt_zero _)
  | succ k ih =>
    intro x1 x2 x3 x4 I L hR hf hi0 hi1 hi2 hi3 hi4 hi5 hi6 hm
    refine sTape_cutNumber_5 o n sh Rf I L post x1 x2 x3 x4 hok hw ?_
    unfold fTape_cutNumber_5
    have g_1 : (0 : Int) ≤ (I o 6).toInt ∧ (I o 6).toInt ≤ 1600 := hR.at0 ra 6 (by decide)
    refine ⟨fun c_2 => ?_, fun c_2 => ?_⟩
    · have d_3 := iLe c_2
      unfold fTape_cutNumber_46
      have a_4 : (x3 - x2).toInt = x3.toInt - x2.toInt := tSub (by omega) (by omega)
      have l_5 : (4 : Int32).toInt = 4 := rfl
      refine ⟨fun c_6 => ?_, fun c_6 => ?_⟩
      · have d_7 := iLt c_6
        unfold fTape_cutNumber_69
        unfold fTape_cutNumber_74
        have l_8 : (5 : Int32).toInt = 5 := rfl
        refine ⟨tIn (by omega) (by omega), fun I_9 e_10 => ?_⟩
        have hR_11 : RI R I_9 := hR.up ra 3 (by decide) (Or.inl rfl) e_10 (i_lo _) (i_hi _)
        have hf_12 : Fm (fun c => c = o + 3 ∨ c = o + 5) I0 I_9 := hf.set (by first | rfl | omega | (dsimp only; omega)) e_10
        have t_13 : (I_9 o 6).toInt = (I o 6).toInt := by rw [← e_10, q_u_ne (by omega)]
        have k_14 : TokX I_9 o p1.toNatClampNeg := hi6.put3 e_10 (by first | rfl | rw [hi2] | rw [hi3])
        have x_15 : I_9 (o + 3) (x1 : Int32).toNatClampNeg = (5 : Int32) := by rw [← e_10, q_u_at]
        have nk := hi5
        unfold NumOK at nk
        refine ⟨tIn (by omega) (by omega), fun I_16 e_17 => ?_⟩
        have hR_18 : RI R I_16 := hR_11.up ra 5 (by decide) (Or.inl rfl) e_17 (i_lo _) (i_hi _)
        have hf_19 : Fm (fun c => c = o + 3 ∨ c = o + 5) I0 I_16 := hf_12.set (by first | rfl | omega | (dsimp only; omega)) e_17
        have t_20 : (I_16 o 6).toInt = (I_9 o 6).toInt := by rw [← e_17, q_u_ne (by omega)]
        have k_21 : TokX I_16 o p1.toNatClampNeg := k_14.put5 e_17 (by first | rfl | rw [hi2] | rw [hi3])
        have x_22 : I_16 (o + 3) (x1 : Int32).toNatClampNeg = (5 : Int32) := by rw [← e_17, q_u_ne (by omega)]; exact x_15
        have x_23 : I_16 (o + 5) (x1 : Int32).toNatClampNeg = x4 := by rw [← e_17, q_u_at]
        exact (hp _ _ _ hR_18 hf_19 (by first | omega | (intro h; omega) | exact Or.inl rfl | exact Or.inr rfl) (TokX.all k_21 (by have nx : x1 = p1 := hi3; subst nx; unfold TokAt; rw [x_22, x_23]; exact ⟨fun h => by omega, fun h => by omega⟩)))
      · have d_24 := iNlt c_6
        refine y_Tape_byteAt hok hw ra hR (fun r_25 u_26 => ⟨r_25, I, L, rfl, rfl, ?_⟩)
        refine y_Tape_isLetter hok hR (fun r_27 u_28 u_29 => ⟨r_27, I, L, rfl, rfl, ?_⟩)
        have b_30 : 0 ≤ r_27.toInt ∧ r_27.toInt ≤ 1 := u_28.rg
        have l_31 : (0 : Int32).toInt = 0 := rfl
        refine ⟨fun c_32 => ?_, fun c_32 => ?_⟩
        · have d_33 := iEq c_32
          unfold fTape_cutNumber_74
          have l_34 : (2 : Int32).toInt = 2 := rfl
          refine ⟨tIn (by omega) (by omega), fun I_35 e_36 => ?_⟩
          have hR_37 : RI R I_35 := hR.up ra 3 (by decide) (Or.inl rfl) e_36 (i_lo _) (i_hi _)
          have hf_38 : Fm (fun c => c = o + 3 ∨ c = o + 5) I0 I_35 := hf.set (by first | rfl | omega | (dsimp only; omega)) e_36
          have t_39 : (I_35 o 6).toInt = (I o 6).toInt := by rw [← e_36, q_u_ne (by omega)]
          have k_40 : TokX I_35 o p1.toNatClampNeg := hi6.put3 e_36 (by first | rfl | rw [hi2] | rw [hi3])
          have x_41 : I_35 (o + 3) (x1 : Int32).toNatClampNeg = (2 : Int32) := by rw [← e_36, q_u_at]
          have nk := hi5
          unfold NumOK at nk
          refine ⟨tIn (by omega) (by omega), fun I_42 e_43 => ?_⟩
          have hR_44 : RI R I_42 := hR_37.up ra 5 (by decide) (Or.inl rfl) e_43 (i_lo _) (i_hi _)
          have hf_45 : Fm (fun c => c = o + 3 ∨ c = o + 5) I0 I_42 := hf_38.set (by first | rfl | omega | (dsimp only; omega)) e_43
          have t_46 : (I_42 o 6).toInt = (I_35 o 6).toInt := by rw [← e_43, q_u_ne (by omega)]
          have k_47 : TokX I_42 o p1.toNatClampNeg := k_40.put5 e_43 (by first | rfl | rw [hi2] | rw [hi3])
          have x_48 : I_42 (o + 3) (x1 : Int32).toNatClampNeg = (2 : Int32) := by rw [← e_43, q_u_ne (by omega)]; exact x_41
          have x_49 : I_42 (o + 5) (x1 : Int32).toNatClampNeg = x4 := by rw [← e_43, q_u_at]
          exact (hp _ _ _ hR_44 hf_45 (by first | omega | (intro h; omega) | exact Or.inl rfl | exact Or.inr rfl) (TokX.all k_47 (by have nx : x1 = p1 := hi3; subst nx; unfold TokAt; rw [x_48, x_49]; exact ⟨fun h => by omega, fun h => by omega⟩)))
        · have d_50 := iNe c_32
          unfold fTape_cutNumber_69
          unfold fTape_cutNumber_74
          have l_51 : (5 : Int32).toInt = 5 := rfl
          refine ⟨tIn (by omega) (by omega), fun I_52 e_53 => ?_⟩
          have hR_54 : RI R I_52 := hR.up ra 3 (by decide) (Or.inl rfl) e_53 (i_lo _) (i_hi _)
          have hf_55 : Fm (fun c => c = o + 3 ∨ c = o + 5) I0 I_52 := hf.set (by first | rfl | omega | (dsimp only; omega)) e_53
          have t_56 : (I_52 o 6).toInt = (I o 6).toInt := by rw [← e_53, q_u_ne (by omega)]
          have k_57 : TokX I_52 o p1.toNatClampNeg := hi6.put3 e_53 (by first | rfl | rw [hi2] | rw [hi3])
          have x_58 : I_52 (o + 3) (x1 : Int32).toNatClampNeg = (5 : Int32) := by rw [← e_53, q_u_at]
          have nk := hi5
          unfold NumOK at nk
          refine ⟨tIn (by omega) (by omega), fun I_59 e_60 => ?_⟩
          have hR_61 : RI R I_59 := hR_54.up ra 5 (by decide) (Or.inl rfl) e_60 (i_lo _) (i_hi _)
          have hf_62 : Fm (fun c => c = o + 3 ∨ c = o + 5) I0 I_59 := hf_55.set (by first | rfl | omega | (dsimp only; omega)) e_60
          have t_63 : (I_59 o 6).toInt = (I_52 o 6).toInt := by rw [← e_60, q_u_ne (by omega)]
          have k_64 : TokX I_59 o p1.toNatClampNeg := k_57.put5 e_60 (by first | rfl | rw [hi2] | rw [hi3])
          have x_65 : I_59 (o + 3) (x1 : Int32).toNatClampNeg = (5 : Int32) := by rw [← e_60, q_u_ne (by omega)]; exact x_58
          have x_66 : I_59 (o + 5) (x1 : Int32).toNatClampNeg = x4 := by rw [← e_60, q_u_at]
          exact (hp _ _ _ hR_61 hf_62 (by first | omega | (intro h; omega) | exact Or.inl rfl | exact Or.inr rfl) (TokX.all k_64 (by have nx : x1 = p1 := hi3; subst nx; unfold TokAt; rw [x_65, x_66]; exact ⟨fun h => by omega, fun h => by omega⟩)))
    · have d_67 := iNle c_2
      refine y_Tape_byteAt hok hw ra hR (fun r_68 u_69 => ⟨r_68, I, L, rfl, rfl, ?_⟩)
      refine y_Tape_isDigit hok hR (fun r_70 u_71 u_72 => ⟨r_70, I, L, rfl, rfl, ?_⟩)
      have b_73 : 0 ≤ r_70.toInt ∧ r_70.toInt ≤ 1 := u_71.rg
      have l_74 : (0 : Int32).toInt = 0 := rfl
      refine ⟨fun c_75 => ?_, fun c_75 => ?_⟩
      · have d_76 := iEq c_75
        unfold fTape_cutNumber_46
        have a_77 : (x3 - x2).toInt = x3.toInt - x2.toInt := tSub (by omega) (by omega)
        have l_78 : (4 : Int32).toInt = 4 := rfl
        refine ⟨fun c_79 => ?_, fun c_79 => ?_⟩
        · have d_80 := iLt c_79
          unfold fTape_cutNumber_69
          unfold fTape_cutNumber_74
          have l_81 : (5 : Int32).toInt = 5 := rfl
          refine ⟨tIn (by omega) (by omega), fun I_82 e_83 => ?_⟩
          have hR_84 : RI R I_82 := hR.up ra 3 (by decide) (Or.inl rfl) e_83 (i_lo _) (i_hi _)
          have hf_85 : Fm (fun c => c = o + 3 ∨ c = o + 5) I0 I_82 := hf.set (by first | rfl | omega | (dsimp only; omega)) e_83
          have t_86 : (I_82 o 6).toInt = (I o 6).toInt := by rw [← e_83, q_u_ne (by omega)]
          have k_87 : TokX I_82 o p1.toNatClampNeg := hi6.put3 e_83 (by first | rfl | rw [hi2] | rw [hi3])
          have x_88 : I_82 (o + 3) (x1 : Int32).toNatClampNeg = (5 : Int32) := by rw [← e_83, q_u_at]
          have nk := hi5
          unfold NumOK at nk
          refine ⟨tIn (by omega) (by omega), fun I_89 e_90 => ?_⟩
          have hR_91 : RI R I_89 := hR_84.up ra 5 (by decide) (Or.inl rfl) e_90 (i_lo _) (i_hi _)
          have hf_92 : Fm (fun c => c = o + 3 ∨ c = o + 5) I0 I_89 := hf_85.set (by first | rfl | omega | (dsimp only; omega)) e_90
          have t_93 : (I_89 o 6).toInt = (I_82 o 6).toInt := by rw [← e_90, q_u_ne (by omega)]
          have k_94 : TokX I_89 o p1.toNatClampNeg := k_87.put5 e_90 (by first | rfl | rw [hi2] | rw [hi3])
          have x_95 : I_89 (o + 3) (x1 : Int32).toNatClampNeg = (5 : Int32) := by rw [← e_90, q_u_ne (by omega)]; exact x_88
          have x_96 : I_89 (o + 5) (x1 : Int32).toNatClampNeg = x4 := by rw [← e_90, q_u_at]
          exact (hp _ _ _ hR_91 hf_92 (by first | omega | (intro h; omega) | exact Or.inl rfl | exact Or.inr rfl) (TokX.all k_94 (by have nx : x1 = p1 := hi3; subst nx; unfold TokAt; rw [x_95, x_96]; exact ⟨fun h => by omega, fun h => by omega⟩)))
        · have d_97 := iNlt c_79
          refine y_Tape_byteAt hok hw ra hR (fun r_98 u_99 => ⟨r_98, I, L, rfl, rfl, ?_⟩)
          have j_100 := iEq (u_99.trans u_69.symm)
          refine y_Tape_isLetter hok hR (fun r_101 u_102 u_103 => ⟨r_101, I, L, rfl, rfl, ?_⟩)
          have b_104 : 0 ≤ r_101.toInt ∧ r_101.toInt ≤ 1 := u_102.rg
          refine ⟨fun c_105 => ?_, fun c_105 => ?_⟩
          · have d_106 := iEq c_105
            unfold fTape_cutNumber_74
            have l_107 : (2 : Int32).toInt = 2 := rfl
            refine ⟨tIn (by omega) (by omega), fun I_108 e_109 => ?_⟩
            have hR_110 : RI R I_108 := hR.up ra 3 (by decide) (Or.inl rfl) e_109 (i_lo _) (i_hi _)
            have hf_111 : Fm (fun c => c = o + 3 ∨ c = o + 5) I0 I_108 := hf.set (by first | rfl | omega | (dsimp only; omega)) e_109
            have t_112 : (I_108 o 6).toInt = (I o 6).toInt := by rw [← e_109, q_u_ne (by omega)]
            have k_113 : TokX I_108 o p1.toNatClampNeg := hi6.put3 e_109 (by first | rfl | rw [hi2] | rw [hi3])
            have x_114 : I_108 (o + 3) (x1 : Int32).toNatClampNeg = (2 : Int32) := by rw [← e_109, q_u_at]
            have nk := hi5
            unfold NumOK at nk
            refine ⟨tIn (by omega) (by omega), fun I_115 e_116 => ?_⟩
            have hR_117 : RI R I_115 := hR_110.up ra 5 (by decide) (Or.inl rfl) e_116 (i_lo _) (i_hi _)
            have hf_118 : Fm (fun c => c = o + 3 ∨ c = o + 5) I0 I_115 := hf_111.set (by first | rfl | omega | (dsimp only; omega)) e_116
            have t_119 : (I_115 o 6).toInt = (I_108 o 6).toInt := by rw [← e_116, q_u_ne (by omega)]
            have k_120 : TokX I_115 o p1.toNatClampNeg := k_113.put5 e_116 (by first | rfl | rw [hi2] | rw [hi3])
            have x_121 : I_115 (o + 3) (x1 : Int32).toNatClampNeg = (2 : Int32) := by rw [← e_116, q_u_ne (by omega)]; exact x_114
            have x_122 : I_115 (o + 5) (x1 : Int32).toNatClampNeg = x4 := by rw [← e_116, q_u_at]
            exact (hp _ _ _ hR_117 hf_118 (by first | omega | (intro h; omega) | exact Or.inl rfl | exact Or.inr rfl) (TokX.all k_120 (by have nx : x1 = p1 := hi3; subst nx; unfold TokAt; rw [x_121, x_122]; exact ⟨fun h => by omega, fun h => by omega⟩)))
          · have d_123 := iNe c_105
            unfold fTape_cutNumber_69
            unfold fTape_cutNumber_74
            have l_124 : (5 : Int32).toInt = 5 := rfl
            refine ⟨tIn (by omega) (by omega), fun I_125 e_126 => ?_⟩
            have hR_127 : RI R I_125 := hR.up ra 3 (by decide) (Or.inl rfl) e_126 (i_lo _) (i_hi _)
            have hf_128 : Fm (fun c => c = o + 3 ∨ c = o + 5) I0 I_125 := hf.set (by first | rfl | omega | (dsimp only; omega)) e_126
            have t_129 : (I_125 o 6).toInt = (I o 6).toInt := by rw [← e_126, q_u_ne (by omega)]
            have k_130 : TokX I_125 o p1.toNatClampNeg := hi6.put3 e_126 (by first | rfl | rw [hi2] | rw [hi3])
            have x_131 : I_125 (o + 3) (x1 : Int32).toNatClampNeg = (5 : Int32) := by rw [← e_126, q_u_at]
            have nk := hi5
            unfold NumOK at nk
            refine ⟨tIn (by omega) (by omega), fun I_132 e_133 => ?_⟩
            have hR_134 : RI R I_132 := hR_127.up ra 5 (by decide) (Or.inl rfl) e_133 (i_lo _) (i_hi _)
            have hf_135 : Fm (fun c => c = o + 3 ∨ c = o + 5) I0 I_132 := hf_128.set (by first | rfl | omega | (dsimp only; omega)) e_133
            have t_136 : (I_132 o 6).toInt = (I_125 o 6).toInt := by rw [← e_133, q_u_ne (by omega)]
            have k_137 : TokX I_132 o p1.toNatClampNeg := k_130.put5 e_133 (by first | rfl | rw [hi2] | rw [hi3])
            have x_138 : I_132 (o + 3) (x1 : Int32).toNatClampNeg = (5 : Int32) := by rw [← e_133, q_u_ne (by omega)]; exact x_131
            have x_139 : I_132 (o + 5) (x1 : Int32).toNatClampNeg = x4 := by rw [← e_133, q_u_at]
            exact (hp _ _ _ hR_134 hf_135 (by first | omega | (intro h; omega) | exact Or.inl rfl | exact Or.inr rfl) (TokX.all k_137 (by have nx : x1 = p1 := hi3; subst nx; unfold TokAt; rw [x_138, x_139]; exact ⟨fun h => by omega, fun h => by omega⟩)))
      · have d_140 := iNe c_75
        have dg := dg_rg (fun h => absurd (iEq ((u_72).trans h)) (by omega))
        refine y_Tape_byteAt hok hw ra hR (fun r_141 u_142 => ⟨r_141, I, L, rfl, rfl, ?_⟩)
        have j_143 := iEq (u_142.trans u_69.symm)
        have be := iEq ((u_142).trans (u_69).symm)
        have a_145 : (x3 + Int32.ofInt 1).toInt = x3.toInt + (1) := tIc (by omega) (by omega) (by decide) (by decide)
        generalize ez_144 : (x3 + Int32.ofInt 1) = z_144 at a_145 ⊢
        exact ih hR hf (by first | omega | (intro h; omega) | exact Or.inl rfl | exact Or.inr rfl) (by first | omega | (intro h; omega) | exact Or.inl rfl | exact Or.inr rfl) (by first | omega | (intro h; omega) | exact Or.inl rfl | exact Or.inr rfl) (by first | rfl | exact hi3) (by first | omega | (intro h; omega) | exact Or.inl rfl | exact Or.inr rfl) (by first | exact NumOK.step' hi5 (by omega) (by omega) (by omega) | (have e0 : p2.toInt - p2.toInt = 0 := by omega); rw [e0]; exact NumOK.zero) hi6 (by omega)
set_option maxHeartbeats 4000000 in
set_option maxRecDepth 20000 in
theorem y_Tape_cutNumber {D : va_G} {cA : FieldType → ClassId} {b : Nat} {E : State → Prop} {R : qRg} {o n : Nat} {sh : Nat → qC} {Rf : Nat → Nat → Option Nat} {I0 : Nat → Nat → Int32} {L0 : Nat → Nat → Int64} {post : Option Value → qS → Prop} {p1 : Int32} {p2 : Int32} (hok : q_ok (qGG D cA b E)) (hw : WfTape (qGG D cA b E) n sh Rf o) (ra : RATape R o) (hq0 : (0 : Int) ≤ p1.toInt ∧ p1.toInt ≤ 1600) (hq1 : (0 : Int) ≤ p2.toInt ∧ p2.toInt ≤ 1600) (hq2 : TokX I0 o p1.toNatClampNeg) (hR : RI R I0) (hp : ∀ (r : Int32) (I' : Nat → Nat → Int32) (L' : Nat → Nat → Int64), RI R I' → Fm (fun c => c = o + 3 ∨ c = o + 5) I0 I' → (((0 : Int) ≤ r.toInt ∧ r.toInt ≤ 1603)) → (TokOK I' o) → post (some (.int r)) (n, sh, Rf, I', L')) : Ev (qGG D cA b E) mTape_cutNumber 1 (0, 0) 0 (lv_args 0 [.ref o, .int p1, .int p2]) [] (n, sh, Rf, I0, L0) post := by
  have hf : Fm (fun c => c = o + 3 ∨ c = o + 5) I0 I0 := Fm.rf
  refine sTape_cutNumber_0 o n sh Rf I0 L0 post p1 p2 hok hw ?_
  unfold fTape_cutNumber_0
  have l_146 : (0 : Int32).toInt = 0 := rfl
  exact yTape_cutNumber_5 (I0 := I0) (L0 := L0) (p1 := p1) (p2 := p2) hok hw ra hq0 hq1 hq2 hp  _ hR hf (by first | omega | (intro h; omega) | exact Or.inl rfl | exact Or.inr rfl) (by first | omega | (intro h; omega) | exact Or.inl rfl | exact Or.inr rfl) (by first | omega | (intro h; omega) | exact Or.inl rfl | exact Or.inr rfl) (by first | rfl | exact hi3) (by first | omega | (intro h; omega) | exact Or.inl rfl | exact Or.inr rfl) (by first | exact NumOK.step' hi5 (by omega) (by omega) (by omega) | (have e0 : p2.toInt - p2.toInt = 0 := by omega); rw [e0]; exact NumOK.zero) hq2 (Nat.lt_succ_self _)
set_option maxHeartbeats 4000000 in
set_option maxRecDepth 20000 in
theorem yTape_cutWord_72 {D : va_G} {cA : FieldType → ClassId} {b : Nat} {E : State → Prop} {R : qRg} {o n : Nat} {sh : Nat → qC} {Rf : Nat → Nat → Option Nat} {I0 : Nat → Nat → Int32} {L0 : Nat → Nat → Int64} {post : Option Value → qS → Prop} {p1 : Int32} {p2 : Int32} (hok : q_ok (qGG D cA b E)) (hw : WfTape (qGG D cA b E) n sh Rf o) (ra : RATape R o) (hq0 : (0 : Int) ≤ p1.toInt ∧ p1.toInt ≤ 1600) (hq1 : (0 : Int) ≤ p2.toInt ∧ p2.toInt ≤ 1600) (hq2 : TokX I0 o p1.toNatClampNeg) (hp : ∀ (r : Int32) (I' : Nat → Nat → Int32) (L' : Nat → Nat → Int64), RI R I' → Fm (fun c => c = o + 3 ∨ c = o + 5) I0 I' → (((0 : Int) ≤ r.toInt ∧ r.toInt ≤ 1603)) → (TokOK I' o) → post (some (.int r)) (n, sh, Rf, I', L')) : ∀ (k : Nat) {x1 : Int32} {x2 : Int32} {x3 : Int32} {x4 : Int64} {x6 : Int32} {I : Nat → Nat → Int32} {L : Nat → Nat → Int64}, RI R I → Fm (fun c => c = o + 3 ∨ c = o + 5) I0 I → ((0 : Int) ≤ x1.toInt ∧ x1.toInt ≤ 1600) → ((0 : Int) ≤ x3.toInt ∧ x3.toInt ≤ 1603) → ((0 : Int) ≤ x6.toInt ∧ x6.toInt ≤ 32) → (x1 = p1) → ((I (o + 3) p1.toNatClampNeg).toInt ≠ 2) → ((I (o + 3) p1.toNatClampNeg).toInt ≠ 3) → (TokX I o p1.toNatClampNeg) → (32 - x6.toInt).toNat < k → Ev (qGG D cA b E) mTape_cutWord 1 (0, 0) 72 [(0, .ref o), (1, .int x1), (2, .int x2), (3, .int x3), (4, .long x4), (6, .int x6)] [] (n, sh, Rf, I, L) post := by
  intro k
  induction k with
  | zero =>
    intro x1 x2 x3 x4 x6 I L hR hf hi0 hi1 hi2 hi3 hi4 hi5 hi6 hm
    exact absurd hm (Nat.not_lt_zero _)
  | succ k ih =>
    intro x1 x2 x3 x4 x6 I L hR hf hi0 hi1 hi2 hi3 hi4 hi5 hi6 hm
    refine sTape_cutWord_72 o n sh Rf I L post x1 x2 x3 x4 x6 hok hw ?_
    unfold fTape_cutWord_72
    have l_1 : (32 : Int32).toInt = 32 := rfl
    refine ⟨fun c_2 => ?_, fun c_2 => ?_⟩
    · have d_3 := iLe c_2
      exact (hp _ _ _ hR hf (by first | omega | (intro h; omega) | exact Or.inl rfl | exact Or.inr rfl) (TokX.all hi6 (by unfold TokAt; exact ⟨fun h => by omega, fun h => by omega⟩)))
    · have d_4 := iNle c_2
      refine ⟨tIn (by omega) (by omega), ?_⟩
      have l_5 : (0 : Int32).toInt = 0 := rfl
      refine ⟨fun c_6 => ?_, fun c_6 => ?_⟩
      · have d_7 := iNe c_6
        unfold fTape_cutWord_100
        have a_9 : (x6 + Int32.ofInt 1).toInt = x6.toInt + (1) := tIc (by omega) (by omega) (by decide) (by decide)
        generalize ez_8 : (x6 + Int32.ofInt 1) = z_8 at a_9 ⊢
        exact ih hR hf (by first | omega | (intro h; omega) | exact Or.inl rfl | exact Or.inr rfl) (by first | omega | (intro h; omega) | exact Or.inl rfl | exact Or.inr rfl) (by first | omega | (intro h; omega) | exact Or.inl rfl | exact Or.inr rfl) (by first | rfl | exact hi3) (by first | omega | (intro h; omega) | exact Or.inl rfl | exact Or.inr rfl) (by first | omega | (intro h; omega) | exact Or.inl rfl | exact Or.inr rfl) hi6 (by omega)
      · have d_10 := iEq c_6
        refine ⟨tIn (by omega) (by omega), fun I_11 e_12 => ?_⟩
        have hR_13 : RI R I_11 := hR.up ra 5 (by decide) (Or.inl rfl) e_12 (i_lo _) (i_hi _)
        have hf_14 : Fm (fun c => c = o + 3 ∨ c = o + 5) I0 I_11 := hf.set (by first | rfl | omega | (dsimp only; omega)) e_12
        have k_15 : TokX I_11 o p1.toNatClampNeg := hi6.put5 e_12 (by first | rfl | rw [hi3])
        have n_16 : (I_11 (o + 3) p1.toNatClampNeg).toInt = (I (o + 3) p1.toNatClampNeg).toInt := by rw [← e_12, q_u_ne (by omega)]
        unfold fTape_cutWord_100
        have a_18 : (x6 + Int32.ofInt 1).toInt = x6.toInt + (1) := tIc (by omega) (by omega) (by decide) (by decide)
        generalize ez_17 : (x6 + Int32.ofInt 1) = z_17 at a_18 ⊢
        exact ih hR_13 hf_14 (by first | omega | (intro h; omega) | exact Or.inl rfl | exact Or.inr rfl) (by first | omega | (intro h; omega) | exact Or.inl rfl | exact Or.inr rfl) (by first | omega | (intro h; omega) | exact Or.inl rfl | exact Or.inr rfl) (by first | rfl | exact hi3) (by first | omega | (intro h; omega) | exact Or.inl rfl | exact Or.inr rfl) (by first | omega | (intro h; omega) | exact Or.inl rfl | exact Or.inr rfl) k_15 (by omega)
set_option maxHeartbeats 4000000 in
set_option maxRecDepth 20000 in
theorem yTape_cutWord_5 {D : va_G} {cA : FieldType → ClassId} {b : Nat} {E : State → Prop} {R : qRg} {o n : Nat} {sh : Nat → qC} {Rf : Nat → Nat → Option Nat} {I0 : Nat → Nat → Int32} {L0 : Nat → Nat → Int64} {post : Option Value → qS → Prop} {p1 : Int32} {p2 : Int32} (hok : q_ok (qGG D cA b E)) (hw : WfTape (qGG D cA b E) n sh Rf o) (ra : RATape R o) (hq0 : (0 : Int) ≤ p1.toInt ∧ p1.toInt ≤ 1600) (hq1 : (0 : Int) ≤ p2.toInt ∧ p2.toInt ≤ 1600) (hq2 : TokX I0 o p1.toNatClampNeg) (hp : ∀ (r : Int32) (I' : Nat → Nat → Int32) (L' : Nat → Nat → Int64), RI R I' → Fm (fun c => c = o + 3 ∨ c = o + 5) I0 I' → (((0 : Int) ≤ r.toInt ∧ r.toInt ≤ 1603)) → (TokOK I' o) → post (some (.int r)) (n, sh, Rf, I', L')) : ∀ (k : Nat) {x1 : Int32} {x2 : Int32} {x3 : Int32} {x4 : Int64} {I : Nat → Nat → Int32} {L : Nat → Nat → Int64}, RI R I → Fm (fun c => c = o + 3 ∨ c = o + 5) I0 I → ((0 : Int) ≤ x1.toInt ∧ x1.toInt ≤ 1600) → ((0 : Int) ≤ x2.toInt ∧ x2.toInt ≤ 1600) → ((0 : Int) ≤ x3.toInt ∧ x3.toInt ≤ 1603) → (x1 = p1) → (x2.toInt ≤ x3.toInt) → (TokX I o p1.toNatClampNeg) → (1600 - x3.toInt).toNat < k → Ev (qGG D cA b E) mTape_cutWord 1 (0, 0) 5 [(0, .ref o), (1, .int x1), (2, .int x2), (3, .int x3), (4, .long x4)] [] (n, sh, Rf, I, L) post := by
  intro k
  induction k with
  | zero =>
    intro x1 x2 x3 x4 I L hR hf hi0 hi1 hi2 hi3 hi4 hi5 hm
    exact absurd hm (Nat.not_lt_zero _)
  | succ k ih =>
    intro x1 x2 x3 x4 I L hR hf hi0 hi1 hi2 hi3 hi4 hi5 hm
    refine sTape_cutWord_5 o n sh Rf I L post x1 x2 x3 x4 hok hw ?_
    unfold fTape_cutWord_5
    have g_19 : (0 : Int) ≤ (I o 6).toInt ∧ (I o 6).toInt ≤ 1600 := hR.at0 ra 6 (by decide)
    refine ⟨fun c_20 => ?_, fun c_20 => ?_⟩
    · have d_21 := iLe c_20
      unfold fTape_cutWord_42
      have a_22 : (x3 - x2).toInt = x3.toInt - x2.toInt := tSub (by omega) (by omega)
      have l_23 : (8 : Int32).toInt = 8 := rfl
      refine ⟨fun c_24 => ?_, fun c_24 => ?_⟩
      · have d_25 := iLe c_24
        unfold fTape_cutWord_60
        have l_26 : (1 : Int32).toInt = 1 := rfl
        refine ⟨tIn (by omega) (by omega), fun I_27 e_28 => ?_⟩
        have hR_29 : RI R I_27 := hR.up ra 3 (by decide) (Or.inl rfl) e_28 (i_lo _) (i_hi _)
        have hf_30 : Fm (fun c => c = o + 3 ∨ c = o + 5) I0 I_27 := hf.set (by first | rfl | omega | (dsimp only; omega)) e_28
        have t_31 : (I_27 o 6).toInt = (I o 6).toInt := by rw [← e_28, q_u_ne (by omega)]
        have k_32 : TokX I_27 o p1.toNatClampNeg := hi5.put3 e_28 (by first | rfl | rw [hi3])
        have n_33 : (I_27 (o + 3) p1.toNatClampNeg).toInt = (1 : Int32).toInt := by rw [← hi3]; rw [← e_28, q_u_at]
        refine ⟨tIn (by omega) (by omega), fun L_34 e_35 => ?_⟩
        have l_36 : (0 : Int32).toInt = 0 := rfl
        exact yTape_cutWord_72 (I0 := I0) (L0 := L0) (p1 := p1) (p2 := p2) hok hw ra hq0 hq1 hq2 hp  _ hR_29 hf_30 (by first | omega | (intro h; omega) | exact Or.inl rfl | exact Or.inr rfl) (by first | omega | (intro h; omega) | exact Or.inl rfl | exact Or.inr rfl) (by first | omega | (intro h; omega) | exact Or.inl rfl | exact Or.inr rfl) (by first | rfl | exact hi3) (by first | omega | (intro h; omega) | exact Or.inl rfl | exact Or.inr rfl) (by first | omega | (intro h; omega) | exact Or.inl rfl | exact Or.inr rfl) k_32 (Nat.lt_succ_self _)
      · have d_37 := iNle c_24
        unfold fTape_cutWord_60
        have l_38 : (5 : Int32).toInt = 5 := rfl
        refine ⟨tIn (by omega) (by omega), fun I_39 e_40 => ?_⟩
        have hR_41 : RI R I_39 := hR.up ra 3 (by decide) (Or.inl rfl) e_40 (i_lo _) (i_hi _)
        have hf_42 : Fm (fun c => c = o + 3 ∨ c = o + 5) I0 I_39 := hf.set (by first | rfl | omega | (dsimp only; omega)) e_40
        have t_43 : (I_39 o 6).toInt = (I o 6).toInt := by rw [← e_40, q_u_ne (by omega)]
        have k_44 : TokX I_39 o p1.toNatClampNeg := hi5.put3 e_40 (by first | rfl | rw [hi3])
        have n_45 : (I_39 (o + 3) p1.toNatClampNeg).toInt = (5 : Int32).toInt := by rw [← hi3]; rw [← e_40, q_u_at]
        refine ⟨tIn (by omega) (by omega), fun L_46 e_47 => ?_⟩
        have l_48 : (0 : Int32).toInt = 0 := rfl
        exact yTape_cutWord_72 (I0 := I0) (L0 := L0) (p1 := p1) (p2 := p2) hok hw ra hq0 hq1 hq2 hp  _ hR_41 hf_42 (by first | omega | (intro h; omega) | exact Or.inl rfl | exact Or.inr rfl) (by first | omega | (intro h; omega) | exact Or.inl rfl | exact Or.inr rfl) (by first | omega | (intro h; omega) | exact Or.inl rfl | exact Or.inr rfl) (by first | rfl | exact hi3) (by first | omega | (intro h; omega) | exact Or.inl rfl | exact Or.inr rfl) (by first | omega | (intro h; omega) | exact Or.inl rfl | exact Or.inr rfl) k_44 (Nat.lt_succ_self _)
    · have d_49 := iNle c_20
      refine y_Tape_byteAt hok hw ra hR (fun r_50 u_51 => ⟨r_50, I, L, rfl, rfl, ?_⟩)
      refine y_Tape_isLetter hok hR (fun r_52 u_53 u_54 => ⟨r_52, I, L, rfl, rfl, ?_⟩)
      have b_55 : 0 ≤ r_52.toInt ∧ r_52.toInt ≤ 1 := u_53.rg
      have l_56 : (0 : Int32).toInt = 0 := rfl
      refine ⟨fun c_57 => ?_, fun c_57 => ?_⟩
      · have d_58 := iEq c_57
        unfold fTape_cutWord_42
        have a_59 : (x3 - x2).toInt = x3.toInt - x2.toInt := tSub (by omega) (by omega)
        have l_60 : (8 : Int32).toInt = 8 := rfl
        refine ⟨fun c_61 => ?_, fun c_61 => ?_⟩
        · have d_62 := iLe c_61
          unfold fTape_cutWord_60
          have l_63 : (1 : Int32).toInt = 1 := rfl
          refine ⟨tIn (by omega) (by omega), fun I_64 e_65 => ?_⟩
          have hR_66 : RI R I_64 := hR.up ra 3 (by decide) (Or.inl rfl) e_65 (i_lo _) (i_hi _)
          have hf_67 : Fm (fun c => c = o + 3 ∨ c = o + 5) I0 I_64 := hf.set (by first | rfl | omega | (dsimp only; omega)) e_65
          have t_68 : (I_64 o 6).toInt = (I o 6).toInt := by rw [← e_65, q_u_ne (by omega)]
          have k_69 : TokX I_64 o p1.toNatClampNeg := hi5.put3 e_65 (by first | rfl | rw [hi3])
          have n_70 : (I_64 (o + 3) p1.toNatClampNeg).toInt = (1 : Int32).toInt := by rw [← hi3]; rw [← e_65, q_u_at]
          refine ⟨tIn (by omega) (by omega), fun L_71 e_72 => ?_⟩
          exact yTape_cutWord_72 (I0 := I0) (L0 := L0) (p1 := p1) (p2 := p2) hok hw ra hq0 hq1 hq2 hp  _ hR_66 hf_67 (by first | omega | (intro h; omega) | exact Or.inl rfl | exact Or.inr rfl) (by first | omega | (intro h; omega) | exact Or.inl rfl | exact Or.inr rfl) (by first | omega | (intro h; omega) | exact Or.inl rfl | exact Or.inr rfl) (by first | rfl | exact hi3) (by first | omega | (intro h; omega) | exact Or.inl rfl | exact Or.inr rfl) (by first | omega | (intro h; omega) | exact Or.inl rfl | exact Or.inr rfl) k_69 (Nat.lt_succ_self _)
        · have d_73 := iNle c_61
          unfold fTape_cutWord_60
          have l_74 : (5 : Int32).toInt = 5 := rfl
          refine ⟨tIn (by omega) (by omega), fun I_75 e_76 => ?_⟩
          have hR_77 : RI R I_75 := hR.up ra 3 (by decide) (Or.inl rfl) e_76 (i_lo _) (i_hi _)
          have hf_78 : Fm (fun c => c = o + 3 ∨ c = o + 5) I0 I_75 := hf.set (by first | rfl | omega | (dsimp only; omega)) e_76
          have t_79 : (I_75 o 6).toInt = (I o 6).toInt := by rw [← e_76, q_u_ne (by omega)]
          have k_80 : TokX I_75 o p1.toNatClampNeg := hi5.put3 e_76 (by first | rfl | rw [hi3])
          have n_81 : (I_75 (o + 3) p1.toNatClampNeg).toInt = (5 : Int32).toInt := by rw [← hi3]; rw [← e_76, q_u_at]
          refine ⟨tIn (by omega) (by omega), fun L_82 e_83 => ?_⟩
          exact yTape_cutWord_72 (I0 := I0) (L0 := L0) (p1 := p1) (p2 := p2) hok hw ra hq0 hq1 hq2 hp  _ hR_77 hf_78 (by first | omega | (intro h; omega) | exact Or.inl rfl | exact Or.inr rfl) (by first | omega | (intro h; omega) | exact Or.inl rfl | exact Or.inr rfl) (by first | omega | (intro h; omega) | exact Or.inl rfl | exact Or.inr rfl) (by first | rfl | exact hi3) (by first | omega | (intro h; omega) | exact Or.inl rfl | exact Or.inr rfl) (by first | omega | (intro h; omega) | exact Or.inl rfl | exact Or.inr rfl) k_80 (Nat.lt_succ_self _)
      · have d_84 := iNe c_57
        refine y_Tape_byteAt hok hw ra hR (fun r_85 u_86 => ⟨r_85, I, L, rfl, rfl, ?_⟩)
        have j_87 := iEq (u_86.trans u_51.symm)
        refine y_Tape_withLetter hok hR (fun r_88  => ⟨r_88, I, L, rfl, rfl, ?_⟩)
        have a_90 : (x3 + Int32.ofInt 1).toInt = x3.toInt + (1) := tIc (by omega) (by omega) (by decide) (by decide)
        generalize ez_89 : (x3 + Int32.ofInt 1) = z_89 at a_90 ⊢
        exact ih hR hf (by first | omega | (intro h; omega) | exact Or.inl rfl | exact Or.inr rfl) (by first | omega | (intro h; omega) | exact Or.inl rfl | exact Or.inr rfl) (by first | omega | (intro h; omega) | exact Or.inl rfl | exact Or.inr rfl) (by first | rfl | exact hi3) (by first | omega | (intro h; omega) | exact Or.inl rfl | exact Or.inr rfl) hi5 (by omega)
set_option maxHeartbeats 4000000 in
set_option maxRecDepth 20000 in
theorem y_Tape_cutWord {D : va_G} {cA : FieldType → ClassId} {b : Nat} {E : State → Prop} {R : qRg} {o n : Nat} {sh : Nat → qC} {Rf : Nat → Nat → Option Nat} {I0 : Nat → Nat → Int32} {L0 : Nat → Nat → Int64} {post : Option Value → qS → Prop} {p1 : Int32} {p2 : Int32} (hok : q_ok (qGG D cA b E)) (hw : WfTape (qGG D cA b E) n sh Rf o) (ra : RATape R o) (hq0 : (0 : Int) ≤ p1.toInt ∧ p1.toInt ≤ 1600) (hq1 : (0 : Int) ≤ p2.toInt ∧ p2.toInt ≤ 1600) (hq2 : TokX I0 o p1.toNatClampNeg) (hR : RI R I0) (hp : ∀ (r : Int32) (I' : Nat → Nat → Int32) (L' : Nat → Nat → Int64), RI R I' → Fm (fun c => c = o + 3 ∨ c = o + 5) I0 I' → (((0 : Int) ≤ r.toInt ∧ r.toInt ≤ 1603)) → (TokOK I' o) → post (some (.int r)) (n, sh, Rf, I', L')) : Ev (qGG D cA b E) mTape_cutWord 1 (0, 0) 0 (lv_args 0 [.ref o, .int p1, .int p2]) [] (n, sh, Rf, I0, L0) post := by
  have hf : Fm (fun c => c = o + 3 ∨ c = o + 5) I0 I0 := Fm.rf
  refine sTape_cutWord_0 o n sh Rf I0 L0 post p1 p2 hok hw ?_
  unfold fTape_cutWord_0
  have l_91 : (0 : Int32).toInt = 0 := rfl
  exact yTape_cutWord_5 (I0 := I0) (L0 := L0) (p1 := p1) (p2 := p2) hok hw ra hq0 hq1 hq2 hp  _ hR hf (by first | omega | (intro h; omega) | exact Or.inl rfl | exact Or.inr rfl) (by first | omega | (intro h; omega) | exact Or.inl rfl | exact Or.inr rfl) (by first | omega | (intro h; omega) | exact Or.inl rfl | exact Or.inr rfl) (by first | rfl | exact hi3) (by first | omega | (intro h; omega) | exact Or.inl rfl | exact Or.inr rfl) hq2 (Nat.lt_succ_self _)
