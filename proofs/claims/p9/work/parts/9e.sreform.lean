/-! Safety of Reform, its reading: by program (spec.py). -/
set_option maxHeartbeats 4000000 in
set_option maxRecDepth 20000 in
theorem y_Reform_emit {D : va_G} {cA : FieldType → ClassId} {b : Nat} {E : State → Prop} {R : qRg} {o n : Nat} {sh : Nat → qC} {Rf : Nat → Nat → Option Nat} {I0 : Nat → Nat → Int32} {L0 : Nat → Nat → Int64} {post : Option Value → qS → Prop} {p1 : Int32} (hok : q_ok (qGG D cA b E)) (hw : WfReform (qGG D cA b E) n sh Rf o) (ra : RAReform R o) (hq0 : (0 : Int) ≤ p1.toInt ∧ p1.toInt ≤ 2147483647) (hR : RI R I0) (hp : ∀ (I' : Nat → Nat → Int32) (L' : Nat → Nat → Int64), RI R I' → Fm (fun c => (o ≤ c ∧ c < o + 5)) I0 I' → post none (n, sh, Rf, I', L')) : Ev (qGG D cA b E) mReform_emit 0 (0, 0) 0 (lv_args 0 [.ref o, .int p1]) [] (n, sh, Rf, I0, L0) post := by
  have hf : Fm (fun c => (o ≤ c ∧ c < o + 5)) I0 I0 := Fm.rf
  refine sReform_emit_0 o n sh Rf I0 L0 post p1 hok hw ?_
  unfold fReform_emit_0
  have g_1 : (0 : Int) ≤ (I0 o 4).toInt ∧ (I0 o 4).toInt ≤ 700 := hR.at0 ra 4 (by decide)
  have l_2 : (700 : Int32).toInt = 700 := rfl
  refine ⟨fun c_3 => ?_, fun c_3 => ?_⟩
  · have d_4 := iLe c_3
    exact (hp _ _ hR hf )
  · have d_5 := iNle c_3
    have g_6 : (0 : Int) ≤ (I0 o 4).toInt ∧ (I0 o 4).toInt ≤ 700 := hR.at0 ra 4 (by decide)
    refine ⟨tIn (by omega) (by omega), fun I_7 e_8 => ?_⟩
    have hR_9 : RI R I_7 := hR.up ra 1 (by decide) e_8 (show (0 : Int) ≤ p1.toInt by omega) (show p1.toInt ≤ (2147483647 : Int) by omega)
    have hf_10 : Fm (fun c => (o ≤ c ∧ c < o + 5)) I0 I_7 := hf.set (by first | rfl | omega | (dsimp only; omega)) e_8
    have t_11 : (I_7 o 4).toInt = (I0 o 4).toInt := by rw [← e_8, q_u_ne (by omega)]
    have g_12 : (0 : Int) ≤ (I_7 o 4).toInt ∧ (I_7 o 4).toInt ≤ 700 := hR_9.at0 ra 4 (by decide)
    have l_13 : (1 : Int32).toInt = 1 := rfl
    have a_14 : ((I_7 o 4) + 1).toInt = (I_7 o 4).toInt + (1 : Int32).toInt := tAdd (by omega) (by omega)
    refine fun I_15 e_16 => ?_
    have hR_17 : RI R I_15 := hR_9.up0 ra (by decide) e_16 (show (0 : Int) ≤ ((I_7 o 4) + 1).toInt by omega) (show ((I_7 o 4) + 1).toInt ≤ (700 : Int) by omega)
    have hf_18 : Fm (fun c => (o ≤ c ∧ c < o + 5)) I0 I_15 := hf_10.set (by first | rfl | omega | (dsimp only; omega)) e_16
    have t_19 : (I_15 o 4).toInt = ((I_7 o 4) + 1).toInt := by rw [← e_16, q_u_at]
    exact (hp _ _ hR_17 hf_18 )
set_option maxHeartbeats 4000000 in
set_option maxRecDepth 20000 in
theorem y_Reform_isAsked {D : va_G} {cA : FieldType → ClassId} {b : Nat} {E : State → Prop} {R : qRg} {n : Nat} {sh : Nat → qC} {Rf : Nat → Nat → Option Nat} {I0 : Nat → Nat → Int32} {L0 : Nat → Nat → Int64} {post : Option Value → qS → Prop} {p0 : Int32} (hok : q_ok (qGG D cA b E)) (hR : RI R I0) (hp : ∀ (r : Int32) , (Bz r) → (Im (r.toInt ≠ 0) (4 ≤ p0.toInt)) → post (some (.int r)) (n, sh, Rf, I0, L0)) : Ev (qGG D cA b E) mReform_isAsked 0 (0, 0) 0 (lv_args 0 [.int p0]) [] (n, sh, Rf, I0, L0) post := by
  refine sReform_isAsked_0 n sh Rf I0 L0 post p0 hok  ?_
  unfold fReform_isAsked_0
  have l_1 : (4 : Int32).toInt = 4 := rfl
  refine ⟨fun c_2 => ?_, fun c_2 => ?_⟩
  · have d_3 := iEq c_2
    unfold fReform_isAsked_11
    have l_4 : (1 : Int32).toInt = 1 := rfl
    exact (hp _ (Or.inr rfl) (by intro _; omega))
  · have d_5 := iNe c_2
    have l_6 : (23 : Int32).toInt = 23 := rfl
    refine ⟨fun c_7 => ?_, fun c_7 => ?_⟩
    · have d_8 := iLt c_7
      have l_9 : (0 : Int32).toInt = 0 := rfl
      exact (hp _ (Or.inl rfl) (by intro _; omega))
    · have d_10 := iNlt c_7
      unfold fReform_isAsked_11
      have l_11 : (1 : Int32).toInt = 1 := rfl
      exact (hp _ (Or.inr rfl) (by intro _; omega))
set_option maxHeartbeats 4000000 in
set_option maxRecDepth 20000 in
theorem y_Reform_mayAsk {D : va_G} {cA : FieldType → ClassId} {b : Nat} {E : State → Prop} {R : qRg} {o n : Nat} {sh : Nat → qC} {Rf : Nat → Nat → Option Nat} {I0 : Nat → Nat → Int32} {L0 : Nat → Nat → Int64} {post : Option Value → qS → Prop} {p1 : Int32} (hok : q_ok (qGG D cA b E)) (hw : WfReform (qGG D cA b E) n sh Rf o) (ra : RAReform R o) (hR : RI R I0) (hp : ∀ (r : Int32) , (Bz r) → post (some (.int r)) (n, sh, Rf, I0, L0)) : Ev (qGG D cA b E) mReform_mayAsk 0 (0, 0) 0 (lv_args 0 [.ref o, .int p1]) [] (n, sh, Rf, I0, L0) post := by
  refine sReform_mayAsk_0 o n sh Rf I0 L0 post p1 hok hw ?_
  unfold fReform_mayAsk_0
  have l_2 : (4 : Int32).toInt = 4 := rfl
  refine ⟨fun c_1 => ?_, fun c_1 => ?_⟩
  · have d_3 := iEq c_1
    unfold fReform_mayAsk_60
    have g_4 : (-1 : Int) ≤ (I0 o 8).toInt ∧ (I0 o 8).toInt ≤ 10 := hR.at0 ra 8 (by decide)
    have l_5 : (0 : Int32).toInt = 0 := rfl
    refine ⟨fun c_6 => ?_, fun c_6 => ?_⟩
    · have d_7 := iNe c_6
      exact (hp _ (Or.inl rfl))
    · have d_8 := iEq c_6
      have l_9 : (1 : Int32).toInt = 1 := rfl
      exact (hp _ (Or.inr rfl))
  have d_10 := iNe c_1
  have l_12 : (25 : Int32).toInt = 25 := rfl
  refine ⟨fun c_11 => ?_, fun c_11 => ?_⟩
  · have d_13 := iEq c_11
    unfold fReform_mayAsk_60
    have g_14 : (-1 : Int) ≤ (I0 o 8).toInt ∧ (I0 o 8).toInt ≤ 10 := hR.at0 ra 8 (by decide)
    have l_15 : (0 : Int32).toInt = 0 := rfl
    refine ⟨fun c_16 => ?_, fun c_16 => ?_⟩
    · have d_17 := iNe c_16
      exact (hp _ (Or.inl rfl))
    · have d_18 := iEq c_16
      have l_19 : (1 : Int32).toInt = 1 := rfl
      exact (hp _ (Or.inr rfl))
  have d_20 := iNe c_11
  have l_22 : (26 : Int32).toInt = 26 := rfl
  refine ⟨fun c_21 => ?_, fun c_21 => ?_⟩
  · have d_23 := iEq c_21
    have g_24 : (-1 : Int) ≤ (I0 o 8).toInt ∧ (I0 o 8).toInt ≤ 10 := hR.at0 ra 8 (by decide)
    have l_25 : (0 : Int32).toInt = 0 := rfl
    refine ⟨fun c_26 => ?_, fun c_26 => ?_⟩
    · have d_27 := iEq c_26
      unfold fReform_mayAsk_89
      have l_28 : (1 : Int32).toInt = 1 := rfl
      exact (hp _ (Or.inr rfl))
    · have d_29 := iNe c_26
      have g_30 : (-1 : Int) ≤ (I0 o 8).toInt ∧ (I0 o 8).toInt ≤ 10 := hR.at0 ra 8 (by decide)
      have l_31 : (6 : Int32).toInt = 6 := rfl
      refine ⟨fun c_32 => ?_, fun c_32 => ?_⟩
      · have d_33 := iLt c_32
        exact (hp _ (Or.inl rfl))
      · have d_34 := iNlt c_32
        unfold fReform_mayAsk_89
        have l_35 : (1 : Int32).toInt = 1 := rfl
        exact (hp _ (Or.inr rfl))
  have d_36 := iNe c_21
  have l_38 : (28 : Int32).toInt = 28 := rfl
  refine ⟨fun c_37 => ?_, fun c_37 => ?_⟩
  · have d_39 := iEq c_37
    unfold fReform_mayAsk_95
    have g_40 : (-1 : Int) ≤ (I0 o 8).toInt ∧ (I0 o 8).toInt ≤ 10 := hR.at0 ra 8 (by decide)
    have l_41 : (6 : Int32).toInt = 6 := rfl
    refine ⟨fun c_42 => ?_, fun c_42 => ?_⟩
    · have d_43 := iLt c_42
      have l_44 : (0 : Int32).toInt = 0 := rfl
      exact (hp _ (Or.inl rfl))
    · have d_45 := iNlt c_42
      have l_46 : (1 : Int32).toInt = 1 := rfl
      exact (hp _ (Or.inr rfl))
  have d_47 := iNe c_37
  have l_49 : (29 : Int32).toInt = 29 := rfl
  refine ⟨fun c_48 => ?_, fun c_48 => ?_⟩
  · have d_50 := iEq c_48
    unfold fReform_mayAsk_95
    have g_51 : (-1 : Int) ≤ (I0 o 8).toInt ∧ (I0 o 8).toInt ≤ 10 := hR.at0 ra 8 (by decide)
    have l_52 : (6 : Int32).toInt = 6 := rfl
    refine ⟨fun c_53 => ?_, fun c_53 => ?_⟩
    · have d_54 := iLt c_53
      have l_55 : (0 : Int32).toInt = 0 := rfl
      exact (hp _ (Or.inl rfl))
    · have d_56 := iNlt c_53
      have l_57 : (1 : Int32).toInt = 1 := rfl
      exact (hp _ (Or.inr rfl))
  have d_58 := iNe c_48
  have l_60 : (30 : Int32).toInt = 30 := rfl
  refine ⟨fun c_59 => ?_, fun c_59 => ?_⟩
  · have d_61 := iEq c_59
    unfold fReform_mayAsk_95
    have g_62 : (-1 : Int) ≤ (I0 o 8).toInt ∧ (I0 o 8).toInt ≤ 10 := hR.at0 ra 8 (by decide)
    have l_63 : (6 : Int32).toInt = 6 := rfl
    refine ⟨fun c_64 => ?_, fun c_64 => ?_⟩
    · have d_65 := iLt c_64
      have l_66 : (0 : Int32).toInt = 0 := rfl
      exact (hp _ (Or.inl rfl))
    · have d_67 := iNlt c_64
      have l_68 : (1 : Int32).toInt = 1 := rfl
      exact (hp _ (Or.inr rfl))
  have d_69 := iNe c_59
  have l_70 : (1 : Int32).toInt = 1 := rfl
  exact (hp _ (Or.inr rfl))
set_option maxHeartbeats 4000000 in
set_option maxRecDepth 20000 in
theorem y_Reform_freeSlot {D : va_G} {cA : FieldType → ClassId} {b : Nat} {E : State → Prop} {R : qRg} {o n : Nat} {sh : Nat → qC} {Rf : Nat → Nat → Option Nat} {I0 : Nat → Nat → Int32} {L0 : Nat → Nat → Int64} {post : Option Value → qS → Prop} {x1 : Nat} (hok : q_ok (qGG D cA b E)) (hw : WfReform (qGG D cA b E) n sh Rf o) (ra : RAReform R o) (hw1 : WfTape (qGG D cA b E) n sh Rf x1) (ra1 : RATape R x1) (hR : RI R I0) (hp : ∀ (r : Int32) , (((-1 : Int) ≤ r.toInt ∧ r.toInt ≤ 10)) → post (some (.int r)) (n, sh, Rf, I0, L0)) : Ev (qGG D cA b E) mReform_freeSlot 1 (0, 0) 0 (lv_args 0 [.ref o, .ref x1]) [] (n, sh, Rf, I0, L0) post := by
  refine sReform_freeSlot_0 o n sh Rf I0 L0 post x1 hok hw hw1 ?_
  unfold fReform_freeSlot_0
  refine y_Tape_kind hok hw1 ra1 hR (fun r_1 u_2 => ⟨r_1, I0, L0, rfl, rfl, ?_⟩)
  have l_3 : (1 : Int32).toInt = 1 := rfl
  refine ⟨fun c_4 => ?_, fun c_4 => ?_⟩
  · have d_5 := iNe c_4
    have l_6 : (-1 : Int32).toInt = -1 := rfl
    exact (hp _ (by first | omega | (intro h; omega) | exact Or.inl rfl | exact Or.inr rfl))
  · have d_7 := iEq c_4
    refine y_Tape_value hok hw1 ra1 hR (fun r_8 u_9 => ⟨r_8, I0, L0, rfl, rfl, ?_⟩)
    have l_10 : (14 : Int32).toInt = 14 := rfl
    refine ⟨fun c_11 => ?_, fun c_11 => ?_⟩
    · have d_12 := iLt c_11
      have l_13 : (-1 : Int32).toInt = -1 := rfl
      exact (hp _ (by first | omega | (intro h; omega) | exact Or.inl rfl | exact Or.inr rfl))
    · have d_14 := iNlt c_11
      refine y_Tape_value hok hw1 ra1 hR (fun r_15 u_16 => ⟨r_15, I0, L0, rfl, rfl, ?_⟩)
      have j_17 := iEq (u_16.trans u_9.symm)
      have l_18 : (19 : Int32).toInt = 19 := rfl
      refine ⟨fun c_19 => ?_, fun c_19 => ?_⟩
      · have d_20 := iLe c_19
        refine y_Tape_value hok hw1 ra1 hR (fun r_21 u_22 => ⟨r_21, I0, L0, rfl, rfl, ?_⟩)
        have j_23 := iEq (u_22.trans u_16.symm)
        have l_24 : (15 : Int32).toInt = 15 := rfl
        refine ⟨fun c_25 => ?_, fun c_25 => ?_⟩
        · have d_26 := iNe c_25
          refine y_Tape_value hok hw1 ra1 hR (fun r_27 u_28 => ⟨r_27, I0, L0, rfl, rfl, ?_⟩)
          have j_29 := iEq (u_28.trans u_22.symm)
          have v_30 : (14 : Int) ≤ r_27.toInt ∧ r_27.toInt ≤ 19 := by omega
          have a_31 : (r_27 - 14).toInt = r_27.toInt - (14 : Int32).toInt := tSub (by omega) (by omega)
          refine ⟨tIn (by omega) (by omega), ?_⟩
          have g_32 : (0 : Int) ≤ (I0 (o + 3) ((r_27 - 14) : Int32).toNatClampNeg).toInt ∧ (I0 (o + 3) ((r_27 - 14) : Int32).toNatClampNeg).toInt ≤ 700 := hR.at ra 3 _ (by decide)
          have l_33 : (0 : Int32).toInt = 0 := rfl
          refine ⟨fun c_34 => ?_, fun c_34 => ?_⟩
          · have d_35 := iNe c_34
            have l_36 : (-1 : Int32).toInt = -1 := rfl
            exact (hp _ (by first | omega | (intro h; omega) | exact Or.inl rfl | exact Or.inr rfl))
          · have d_37 := iEq c_34
            exact (hp _ (by first | omega | (intro h; omega) | exact Or.inl rfl | exact Or.inr rfl))
        · have d_38 := iEq c_25
          have g_39 : (0 : Int) ≤ (I0 o 6).toInt ∧ (I0 o 6).toInt ≤ 5 := hR.at0 ra 6 (by decide)
          have l_40 : (5 : Int32).toInt = 5 := rfl
          refine ⟨fun c_41 => ?_, fun c_41 => ?_⟩
          · have d_42 := iLe c_41
            have l_43 : (-1 : Int32).toInt = -1 := rfl
            exact (hp _ (by first | omega | (intro h; omega) | exact Or.inl rfl | exact Or.inr rfl))
          · have d_44 := iNle c_41
            have g_45 : (0 : Int) ≤ (I0 o 6).toInt ∧ (I0 o 6).toInt ≤ 5 := hR.at0 ra 6 (by decide)
            have l_46 : (6 : Int32).toInt = 6 := rfl
            have a_47 : (6 + (I0 o 6)).toInt = (6 : Int32).toInt + (I0 o 6).toInt := tAdd (by omega) (by omega)
            exact (hp _ (by first | omega | (intro h; omega) | exact Or.inl rfl | exact Or.inr rfl))
      · have d_48 := iNle c_19
        have l_49 : (-1 : Int32).toInt = -1 := rfl
        exact (hp _ (by first | omega | (intro h; omega) | exact Or.inl rfl | exact Or.inr rfl))
set_option maxHeartbeats 4000000 in
set_option maxRecDepth 20000 in
theorem yReform_readEither_8 {D : va_G} {cA : FieldType → ClassId} {b : Nat} {E : State → Prop} {R : qRg} {o n : Nat} {sh : Nat → qC} {Rf : Nat → Nat → Option Nat} {I0 : Nat → Nat → Int32} {L0 : Nat → Nat → Int64} {post : Option Value → qS → Prop} {x1 : Nat} {p2 : Int32} (hok : q_ok (qGG D cA b E)) (hw : WfReform (qGG D cA b E) n sh Rf o) (ra : RAReform R o) (hw1 : WfTape (qGG D cA b E) n sh Rf x1) (ra1 : RATape R x1) {d : Nat} {lo : Int} (hd0 : 5 ≤ d) (cReform_readBoth : ∀ (J : Nat → Nat → Int32) (K : Nat → Nat → Int64) (post : Option Value → qS → Prop) (q : Int32), RI R J → TokOK J x1 → lo ≤ q.toInt → q.toInt ≤ 7 → (∀ I' L', RI R I' → Fm (fun c => (o ≤ c ∧ c < o + 5) ∨ c = x1) J I' → post none (n, sh, Rf, I', L')) → Ev (qGG D cA b E) mReform_readBoth d (0, 0) 0 (lv_args 0 [.ref o, .ref x1, .int q]) [] (n, sh, Rf, J, K) post) (hs0 : o + 5 ≤ x1 ∨ x1 + 7 ≤ o) (hq0 : lo ≤ p2.toInt) (hq1 : p2.toInt ≤ 7) (hq2 : TokOK I0 x1) (hp : ∀ (I' : Nat → Nat → Int32) (L' : Nat → Nat → Int64), RI R I' → Fm (fun c => (o ≤ c ∧ c < o + 5) ∨ c = x1) I0 I' → post none (n, sh, Rf, I', L')) : ∀ (k : Nat) {x2 : Int32} {x3 : Int32} {I : Nat → Nat → Int32} {L : Nat → Nat → Int64}, RI R I → Fm (fun c => (o ≤ c ∧ c < o + 5) ∨ c = x1) I0 I → ((0 : Int) ≤ x3.toInt ∧ x3.toInt ≤ 700) → (x2 = p2) → (TokOK I x1) → (700 - x3.toInt).toNat < k → Ev (qGG D cA b E) mReform_readEither (d + 1) (0, 0) 8 [(0, .ref o), (1, .ref x1), (2, .int x2), (3, .int x3)] [] (n, sh, Rf, I, L) post := by
  intro k
  induction k with
  | zero =>
    intro x2 x3 I L hR hf hi0 hi1 hi2 hm
    exact absurd hm (Nat.not_lt_zero _)
  | succ k ih =>
    intro x2 x3 I L hR hf hi0 hi1 hi2 hm
    have hz0 := hi1.symm
    subst hz0
    refine sReform_readEither_8 o n sh Rf I L post x1 p2 x3 d hok hw hw1 hd0 ?_
    unfold fReform_readEither_8
    have l_1 : (700 : Int32).toInt = 700 := rfl
    refine ⟨fun c_2 => ?_, fun c_2 => ?_⟩
    · have d_3 := iLe c_2
      exact (hp _ _ hR hf )
    · have d_4 := iNle c_2
      have l_5 : (21 : Int32).toInt = 21 := rfl
      refine y_Tape_isWord hok hw1 ra1 hR (fun r_6 u_7 => ⟨r_6, I, L, rfl, rfl, ?_⟩)
      have b_8 : 0 ≤ r_6.toInt ∧ r_6.toInt ≤ 1 := u_7.rg
      have l_9 : (0 : Int32).toInt = 0 := rfl
      refine ⟨fun c_10 => ?_, fun c_10 => ?_⟩
      · have d_11 := iEq c_10
        exact (hp _ _ hR hf )
      · have d_12 := iNe c_10
        refine y_Tape_step hok hw1 ra1 hR (fun I_15 L_16 hR_17 fr_18 u_14 => ⟨I_15, L_16, rfl, rfl, ?_⟩)
        have hf_19 : Fm (fun c => (o ≤ c ∧ c < o + 5) ∨ c = x1) I0 I_15 := hf.call fr_18 (fun c hc => by first | exact hc | (dsimp only at hc ⊢; omega) | omega)
        have k_20 : TokOK I_15 x1 := hi2.fr (fr_18 _ (by first | omega | (dsimp only; omega))) (fr_18 _ (by first | omega | (dsimp only; omega)))
        refine cReform_readBoth I_15 L_16 _ _ hR_17 k_20 (by omega) (by omega) (fun I_21 L_22 hR_23 fr_24 => ⟨I_21, L_22, rfl, rfl, ?_⟩)
        have hf_25 : Fm (fun c => (o ≤ c ∧ c < o + 5) ∨ c = x1) I0 I_21 := hf_19.call fr_24 (fun c hc => hc)
        have k_26 : TokOK I_21 x1 := k_20.fr (fr_24 _ (by first | omega | (dsimp only; omega))) (fr_24 _ (by first | omega | (dsimp only; omega)))
        refine y_Reform_emit hok hw ra (by first | omega | (intro h; omega) | exact Or.inl rfl | exact Or.inr rfl) hR_23 (fun I_28 L_29 hR_30 fr_31  => ⟨I_28, L_29, rfl, rfl, ?_⟩)
        have hf_32 : Fm (fun c => (o ≤ c ∧ c < o + 5) ∨ c = x1) I0 I_28 := hf_25.call fr_31 (fun c hc => by first | exact hc | (dsimp only at hc ⊢; omega) | omega)
        have k_33 : TokOK I_28 x1 := k_26.fr (fr_31 _ (by first | omega | (dsimp only; omega))) (fr_31 _ (by first | omega | (dsimp only; omega)))
        have a_35 : (x3 + Int32.ofInt 1).toInt = x3.toInt + (1) := tIc (by omega) (by omega) (by decide) (by decide)
        generalize ez_34 : (x3 + Int32.ofInt 1) = z_34 at a_35 ⊢
        exact ih hR_30 hf_32 (by first | omega | (intro h; omega) | exact Or.inl rfl | exact Or.inr rfl) rfl k_33 (by omega)
set_option maxHeartbeats 4000000 in
set_option maxRecDepth 20000 in
theorem y_Reform_readEither {D : va_G} {cA : FieldType → ClassId} {b : Nat} {E : State → Prop} {R : qRg} {o n : Nat} {sh : Nat → qC} {Rf : Nat → Nat → Option Nat} {I0 : Nat → Nat → Int32} {L0 : Nat → Nat → Int64} {post : Option Value → qS → Prop} {x1 : Nat} {p2 : Int32} (hok : q_ok (qGG D cA b E)) (hw : WfReform (qGG D cA b E) n sh Rf o) (ra : RAReform R o) (hw1 : WfTape (qGG D cA b E) n sh Rf x1) (ra1 : RATape R x1) {d : Nat} {lo : Int} (hd0 : 5 ≤ d) (cReform_readBoth : ∀ (J : Nat → Nat → Int32) (K : Nat → Nat → Int64) (post : Option Value → qS → Prop) (q : Int32), RI R J → TokOK J x1 → lo ≤ q.toInt → q.toInt ≤ 7 → (∀ I' L', RI R I' → Fm (fun c => (o ≤ c ∧ c < o + 5) ∨ c = x1) J I' → post none (n, sh, Rf, I', L')) → Ev (qGG D cA b E) mReform_readBoth d (0, 0) 0 (lv_args 0 [.ref o, .ref x1, .int q]) [] (n, sh, Rf, J, K) post) (hs0 : o + 5 ≤ x1 ∨ x1 + 7 ≤ o) (hq0 : lo ≤ p2.toInt) (hq1 : p2.toInt ≤ 7) (hq2 : TokOK I0 x1) (hR : RI R I0) (hp : ∀ (I' : Nat → Nat → Int32) (L' : Nat → Nat → Int64), RI R I' → Fm (fun c => (o ≤ c ∧ c < o + 5) ∨ c = x1) I0 I' → post none (n, sh, Rf, I', L')) : Ev (qGG D cA b E) mReform_readEither (d + 1) (0, 0) 0 (lv_args 0 [.ref o, .ref x1, .int p2]) [] (n, sh, Rf, I0, L0) post := by
  have hf : Fm (fun c => (o ≤ c ∧ c < o + 5) ∨ c = x1) I0 I0 := Fm.rf
  refine sReform_readEither_0 o n sh Rf I0 L0 post x1 p2 d hok hw hw1 hd0 ?_
  unfold fReform_readEither_0
  refine cReform_readBoth I0 L0 _ _ hR hq2 (by omega) (by omega) (fun I_36 L_37 hR_38 fr_39 => ⟨I_36, L_37, rfl, rfl, ?_⟩)
  have hf_40 : Fm (fun c => (o ≤ c ∧ c < o + 5) ∨ c = x1) I0 I_36 := hf.call fr_39 (fun c hc => hc)
  have k_41 : TokOK I_36 x1 := hq2.fr (fr_39 _ (by first | omega | (dsimp only; omega))) (fr_39 _ (by first | omega | (dsimp only; omega)))
  have l_42 : (0 : Int32).toInt = 0 := rfl
  exact yReform_readEither_8 (I0 := I0) (L0 := L0) (p2 := p2) hok hw ra hw1 ra1 hd0 cReform_readBoth hs0 hq0 hq1 hq2 hp  _ hR_38 hf_40 (by first | omega | (intro h; omega) | exact Or.inl rfl | exact Or.inr rfl) rfl k_41 (Nat.lt_succ_self _)
set_option maxHeartbeats 4000000 in
set_option maxRecDepth 20000 in
theorem yReform_readBoth_8 {D : va_G} {cA : FieldType → ClassId} {b : Nat} {E : State → Prop} {R : qRg} {o n : Nat} {sh : Nat → qC} {Rf : Nat → Nat → Option Nat} {I0 : Nat → Nat → Int32} {L0 : Nat → Nat → Int64} {post : Option Value → qS → Prop} {x1 : Nat} {p2 : Int32} (hok : q_ok (qGG D cA b E)) (hw : WfReform (qGG D cA b E) n sh Rf o) (ra : RAReform R o) (hw1 : WfTape (qGG D cA b E) n sh Rf x1) (ra1 : RATape R x1) {d : Nat} {lo : Int} (hd0 : 5 ≤ d) (cReform_readOne : ∀ (J : Nat → Nat → Int32) (K : Nat → Nat → Int64) (post : Option Value → qS → Prop) (q : Int32), RI R J → TokOK J x1 → lo ≤ q.toInt → q.toInt ≤ 7 → (∀ I' L', RI R I' → Fm (fun c => (o ≤ c ∧ c < o + 5) ∨ c = x1) J I' → post none (n, sh, Rf, I', L')) → Ev (qGG D cA b E) mReform_readOne d (0, 0) 0 (lv_args 0 [.ref o, .ref x1, .int q]) [] (n, sh, Rf, J, K) post) (hs0 : o + 5 ≤ x1 ∨ x1 + 7 ≤ o) (hq0 : lo ≤ p2.toInt) (hq1 : p2.toInt ≤ 7) (hq2 : TokOK I0 x1) (hp : ∀ (I' : Nat → Nat → Int32) (L' : Nat → Nat → Int64), RI R I' → Fm (fun c => (o ≤ c ∧ c < o + 5) ∨ c = x1) I0 I' → post none (n, sh, Rf, I', L')) : ∀ (k : Nat) {x2 : Int32} {x3 : Int32} {I : Nat → Nat → Int32} {L : Nat → Nat → Int64}, RI R I → Fm (fun c => (o ≤ c ∧ c < o + 5) ∨ c = x1) I0 I → ((0 : Int) ≤ x3.toInt ∧ x3.toInt ≤ 700) → (x2 = p2) → (TokOK I x1) → (700 - x3.toInt).toNat < k → Ev (qGG D cA b E) mReform_readBoth (d + 1) (0, 0) 8 [(0, .ref o), (1, .ref x1), (2, .int x2), (3, .int x3)] [] (n, sh, Rf, I, L) post := by
  intro k
  induction k with
  | zero =>
    intro x2 x3 I L hR hf hi0 hi1 hi2 hm
    exact absurd hm (Nat.not_lt_zero _)
  | succ k ih =>
    intro x2 x3 I L hR hf hi0 hi1 hi2 hm
    have hz0 := hi1.symm
    subst hz0
    refine sReform_readBoth_8 o n sh Rf I L post x1 p2 x3 d hok hw hw1 hd0 ?_
    unfold fReform_readBoth_8
    have l_1 : (700 : Int32).toInt = 700 := rfl
    refine ⟨fun c_2 => ?_, fun c_2 => ?_⟩
    · have d_3 := iLe c_2
      exact (hp _ _ hR hf )
    · have d_4 := iNle c_2
      have l_5 : (20 : Int32).toInt = 20 := rfl
      refine y_Tape_isWord hok hw1 ra1 hR (fun r_6 u_7 => ⟨r_6, I, L, rfl, rfl, ?_⟩)
      have b_8 : 0 ≤ r_6.toInt ∧ r_6.toInt ≤ 1 := u_7.rg
      have l_9 : (0 : Int32).toInt = 0 := rfl
      refine ⟨fun c_10 => ?_, fun c_10 => ?_⟩
      · have d_11 := iEq c_10
        exact (hp _ _ hR hf )
      · have d_12 := iNe c_10
        refine y_Tape_step hok hw1 ra1 hR (fun I_15 L_16 hR_17 fr_18 u_14 => ⟨I_15, L_16, rfl, rfl, ?_⟩)
        have hf_19 : Fm (fun c => (o ≤ c ∧ c < o + 5) ∨ c = x1) I0 I_15 := hf.call fr_18 (fun c hc => by first | exact hc | (dsimp only at hc ⊢; omega) | omega)
        have k_20 : TokOK I_15 x1 := hi2.fr (fr_18 _ (by first | omega | (dsimp only; omega))) (fr_18 _ (by first | omega | (dsimp only; omega)))
        refine cReform_readOne I_15 L_16 _ _ hR_17 k_20 (by omega) (by omega) (fun I_21 L_22 hR_23 fr_24 => ⟨I_21, L_22, rfl, rfl, ?_⟩)
        have hf_25 : Fm (fun c => (o ≤ c ∧ c < o + 5) ∨ c = x1) I0 I_21 := hf_19.call fr_24 (fun c hc => hc)
        have k_26 : TokOK I_21 x1 := k_20.fr (fr_24 _ (by first | omega | (dsimp only; omega))) (fr_24 _ (by first | omega | (dsimp only; omega)))
        refine y_Reform_emit hok hw ra (by first | omega | (intro h; omega) | exact Or.inl rfl | exact Or.inr rfl) hR_23 (fun I_28 L_29 hR_30 fr_31  => ⟨I_28, L_29, rfl, rfl, ?_⟩)
        have hf_32 : Fm (fun c => (o ≤ c ∧ c < o + 5) ∨ c = x1) I0 I_28 := hf_25.call fr_31 (fun c hc => by first | exact hc | (dsimp only at hc ⊢; omega) | omega)
        have k_33 : TokOK I_28 x1 := k_26.fr (fr_31 _ (by first | omega | (dsimp only; omega))) (fr_31 _ (by first | omega | (dsimp only; omega)))
        have a_35 : (x3 + Int32.ofInt 1).toInt = x3.toInt + (1) := tIc (by omega) (by omega) (by decide) (by decide)
        generalize ez_34 : (x3 + Int32.ofInt 1) = z_34 at a_35 ⊢
        exact ih hR_30 hf_32 (by first | omega | (intro h; omega) | exact Or.inl rfl | exact Or.inr rfl) rfl k_33 (by omega)
set_option maxHeartbeats 4000000 in
set_option maxRecDepth 20000 in
theorem y_Reform_readBoth {D : va_G} {cA : FieldType → ClassId} {b : Nat} {E : State → Prop} {R : qRg} {o n : Nat} {sh : Nat → qC} {Rf : Nat → Nat → Option Nat} {I0 : Nat → Nat → Int32} {L0 : Nat → Nat → Int64} {post : Option Value → qS → Prop} {x1 : Nat} {p2 : Int32} (hok : q_ok (qGG D cA b E)) (hw : WfReform (qGG D cA b E) n sh Rf o) (ra : RAReform R o) (hw1 : WfTape (qGG D cA b E) n sh Rf x1) (ra1 : RATape R x1) {d : Nat} {lo : Int} (hd0 : 5 ≤ d) (cReform_readOne : ∀ (J : Nat → Nat → Int32) (K : Nat → Nat → Int64) (post : Option Value → qS → Prop) (q : Int32), RI R J → TokOK J x1 → lo ≤ q.toInt → q.toInt ≤ 7 → (∀ I' L', RI R I' → Fm (fun c => (o ≤ c ∧ c < o + 5) ∨ c = x1) J I' → post none (n, sh, Rf, I', L')) → Ev (qGG D cA b E) mReform_readOne d (0, 0) 0 (lv_args 0 [.ref o, .ref x1, .int q]) [] (n, sh, Rf, J, K) post) (hs0 : o + 5 ≤ x1 ∨ x1 + 7 ≤ o) (hq0 : lo ≤ p2.toInt) (hq1 : p2.toInt ≤ 7) (hq2 : TokOK I0 x1) (hR : RI R I0) (hp : ∀ (I' : Nat → Nat → Int32) (L' : Nat → Nat → Int64), RI R I' → Fm (fun c => (o ≤ c ∧ c < o + 5) ∨ c = x1) I0 I' → post none (n, sh, Rf, I', L')) : Ev (qGG D cA b E) mReform_readBoth (d + 1) (0, 0) 0 (lv_args 0 [.ref o, .ref x1, .int p2]) [] (n, sh, Rf, I0, L0) post := by
  have hf : Fm (fun c => (o ≤ c ∧ c < o + 5) ∨ c = x1) I0 I0 := Fm.rf
  refine sReform_readBoth_0 o n sh Rf I0 L0 post x1 p2 d hok hw hw1 hd0 ?_
  unfold fReform_readBoth_0
  refine cReform_readOne I0 L0 _ _ hR hq2 (by omega) (by omega) (fun I_36 L_37 hR_38 fr_39 => ⟨I_36, L_37, rfl, rfl, ?_⟩)
  have hf_40 : Fm (fun c => (o ≤ c ∧ c < o + 5) ∨ c = x1) I0 I_36 := hf.call fr_39 (fun c hc => hc)
  have k_41 : TokOK I_36 x1 := hq2.fr (fr_39 _ (by first | omega | (dsimp only; omega))) (fr_39 _ (by first | omega | (dsimp only; omega)))
  have l_42 : (0 : Int32).toInt = 0 := rfl
  exact yReform_readBoth_8 (I0 := I0) (L0 := L0) (p2 := p2) hok hw ra hw1 ra1 hd0 cReform_readOne hs0 hq0 hq1 hq2 hp  _ hR_38 hf_40 (by first | omega | (intro h; omega) | exact Or.inl rfl | exact Or.inr rfl) rfl k_41 (Nat.lt_succ_self _)
