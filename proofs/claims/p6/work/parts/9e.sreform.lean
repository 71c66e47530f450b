/-! Safety of Reform, its reading: by program (spec.py). -/
set_option maxHeartbeats 4000000 in
set_option maxRecDepth 20000 in
theorem y_Reform_emit {D : va_G} {cA : FieldType → ClassId} {b : Nat} {E : State → Prop} {R : qRg} {o n : Nat} {sh : Nat → qC} {Rf : Nat → Nat → Option Nat} {I0 : Nat → Nat → Int32} {L0 : Nat → Nat → Int64} {post : Option Value → qS → Prop} {p1 : Int32} (hok : q_ok (qGG D cA b E)) (hw : WfReform (qGG D cA b E) n sh Rf o) (ra : RAReform R o) (hq0 : (0 : Int) ≤ p1.toInt ∧ p1.toInt ≤ 2147483647) (hR : RI R I0) (hp : ∀ (I' : Nat → Nat → Int32) (L' : Nat → Nat → Int64), RI R I' → Fm (fun c => (o ≤ c ∧ c < o + 5)) I0 I' → ((I' o 6).toInt = (I0 o 6).toInt) → ((I' o 8).toInt = (I0 o 8).toInt) → post none (n, sh, Rf, I', L')) : Ev (qGG D cA b E) mReform_emit 0 (0, 0) 0 (lv_args 0 [.ref o, .int p1]) [] (n, sh, Rf, I0, L0) post := by
  have hf : Fm (fun c => (o ≤ c ∧ c < o + 5)) I0 I0 := Fm.rf
  have g_1 : (0 : Int) ≤ (I0 o 6).toInt ∧ (I0 o 6).toInt ≤ 5 := hR.at0 ra 6 (by decide)
  have g_2 : (-1 : Int) ≤ (I0 o 8).toInt ∧ (I0 o 8).toInt ≤ 10 := hR.at0 ra 8 (by decide)
  refine sReform_emit_0 o n sh Rf I0 L0 post p1 hok hw ?_
  unfold fReform_emit_0
  have g_3 : (0 : Int) ≤ (I0 o 4).toInt ∧ (I0 o 4).toInt ≤ 700 := hR.at0 ra 4 (by decide)
  have l_4 : (700 : Int32).toInt = 700 := rfl
  refine ⟨fun c_5 => ?_, fun c_5 => ?_⟩
  · have d_6 := iLe c_5
    exact (hp _ _ hR hf (by first | omega | (intro h; omega) | exact Or.inl rfl | exact Or.inr rfl) (by first | omega | (intro h; omega) | exact Or.inl rfl | exact Or.inr rfl))
  · have d_7 := iNle c_5
    have g_8 : (0 : Int) ≤ (I0 o 4).toInt ∧ (I0 o 4).toInt ≤ 700 := hR.at0 ra 4 (by decide)
    refine ⟨tIn (by omega) (by omega), fun I_9 e_10 => ?_⟩
    have hR_11 : RI R I_9 := hR.up ra 1 (by decide) (Or.inl rfl) e_10 (show (0 : Int) ≤ p1.toInt by omega) (show p1.toInt ≤ (2147483647 : Int) by omega)
    have hf_12 : Fm (fun c => (o ≤ c ∧ c < o + 5)) I0 I_9 := hf.set (by first | rfl | omega | (dsimp only; omega)) e_10
    have t_13 : (I_9 o 6).toInt = (I0 o 6).toInt := by rw [← e_10, q_u_ne (by omega)]
    have t_14 : (I_9 o 8).toInt = (I0 o 8).toInt := by rw [← e_10, q_u_ne (by omega)]
    have t_15 : (I_9 o 4).toInt = (I0 o 4).toInt := by rw [← e_10, q_u_ne (by omega)]
    have g_16 : (0 : Int) ≤ (I_9 o 4).toInt ∧ (I_9 o 4).toInt ≤ 700 := hR_11.at0 ra 4 (by decide)
    have l_17 : (1 : Int32).toInt = 1 := rfl
    have a_18 : ((I_9 o 4) + 1).toInt = (I_9 o 4).toInt + (1 : Int32).toInt := tAdd (by omega) (by omega)
    refine fun I_19 e_20 => ?_
    have hR_21 : RI R I_19 := hR_11.up0 (k := 4) ra (by decide) (Or.inl rfl) e_20 (show (0 : Int) ≤ ((I_9 o 4) + 1).toInt by omega) (show ((I_9 o 4) + 1).toInt ≤ (700 : Int) by omega)
    have hf_22 : Fm (fun c => (o ≤ c ∧ c < o + 5)) I0 I_19 := hf_12.set (by first | rfl | omega | (dsimp only; omega)) e_20
    have t_23 : (I_19 o 6).toInt = (I_9 o 6).toInt := by rw [← e_20, q_u_k (by decide)]
    have t_24 : (I_19 o 8).toInt = (I_9 o 8).toInt := by rw [← e_20, q_u_k (by decide)]
    have t_25 : (I_19 o 4).toInt = ((I_9 o 4) + 1).toInt := by rw [← e_20, q_u_at]
    exact (hp _ _ hR_21 hf_22 (by first | omega | (intro h; omega) | exact Or.inl rfl | exact Or.inr rfl) (by first | omega | (intro h; omega) | exact Or.inl rfl | exact Or.inr rfl))
set_option maxHeartbeats 4000000 in
set_option maxRecDepth 20000 in
theorem y_Reform_isAsked {D : va_G} {cA : FieldType → ClassId} {b : Nat} {E : State → Prop} {R : qRg} {n : Nat} {sh : Nat → qC} {Rf : Nat → Nat → Option Nat} {I0 : Nat → Nat → Int32} {L0 : Nat → Nat → Int64} {post : Option Value → qS → Prop} {p0 : Int32} (hok : q_ok (qGG D cA b E)) (hR : RI R I0) (hp : ∀ (r : Int32) , (Bz r) → (Im (r.toInt ≠ 0) (4 ≤ p0.toInt)) → post (some (.int r)) (n, sh, Rf, I0, L0)) : Ev (qGG D cA b E) mReform_isAsked 0 (0, 0) 0 (lv_args 0 [.int p0]) [] (n, sh, Rf, I0, L0) post := by
  refine sReform_isAsked_0 n sh Rf I0 L0 post p0 hok  ?_
  unfold fReform_isAsked_0
  have l_1 : (4 : Int32).toInt = 4 := rfl
  refine ⟨fun c_2 => ?_, fun c_2 => ?_⟩
  · have d_3 := iEq c_2
    unfold fReform_isAsked_11
    have l_4 : (1 : Int32).toInt = 1 := rfl
    exact (hp _ (Or.inr rfl) (by intro _; omega))
  · have d_5 := iNe c_2
    have l_6 : (23 : Int32).toInt = 23 := rfl
    refine ⟨fun c_7 => ?_, fun c_7 => ?_⟩
    · have d_8 := iLt c_7
      have l_9 : (0 : Int32).toInt = 0 := rfl
      exact (hp _ (Or.inl rfl) (by intro _; omega))
    · have d_10 := iNlt c_7
      unfold fReform_isAsked_11
      have l_11 : (1 : Int32).toInt = 1 := rfl
      exact (hp _ (Or.inr rfl) (by intro _; omega))
set_option maxHeartbeats 4000000 in
set_option maxRecDepth 20000 in
theorem y_Reform_mayAsk {D : va_G} {cA : FieldType → ClassId} {b : Nat} {E : State → Prop} {R : qRg} {o n : Nat} {sh : Nat → qC} {Rf : Nat → Nat → Option Nat} {I0 : Nat → Nat → Int32} {L0 : Nat → Nat → Int64} {post : Option Value → qS → Prop} {p1 : Int32} (hok : q_ok (qGG D cA b E)) (hw : WfReform (qGG D cA b E) n sh Rf o) (ra : RAReform R o) (hR : RI R I0) (hp : ∀ (r : Int32) , (Bz r) → post (some (.int r)) (n, sh, Rf, I0, L0)) : Ev (qGG D cA b E) mReform_mayAsk 0 (0, 0) 0 (lv_args 0 [.ref o, .int p1]) [] (n, sh, Rf, I0, L0) post := by
  refine sReform_mayAsk_0 o n sh Rf I0 L0 post p1 hok hw ?_
  unfold fReform_mayAsk_0
  have l_2 : (4 : Int32).toInt = 4 := rfl
  refine ⟨fun c_1 => ?_, fun c_1 => ?_⟩
  · have d_3 := iEq c_1
    unfold fReform_mayAsk_60
    have g_4 : (-1 : Int) ≤ (I0 o 8).toInt ∧ (I0 o 8).toInt ≤ 10 := hR.at0 ra 8 (by decide)
    have l_5 : (0 : Int32).toInt = 0 := rfl
    refine ⟨fun c_6 => ?_, fun c_6 => ?_⟩
    · have d_7 := iNe c_6
      exact (hp _ (Or.inl rfl))
    · have d_8 := iEq c_6
      have l_9 : (1 : Int32).toInt = 1 := rfl
      exact (hp _ (Or.inr rfl))
  have d_10 := iNe c_1
  have l_12 : (25 : Int32).toInt = 25 := rfl
  refine ⟨fun c_11 => ?_, fun c_11 => ?_⟩
  · have d_13 := iEq c_11
    unfold fReform_mayAsk_60
    have g_14 : (-1 : Int) ≤ (I0 o 8).toInt ∧ (I0 o 8).toInt ≤ 10 := hR.at0 ra 8 (by decide)
    have l_15 : (0 : Int32).toInt = 0 := rfl
    refine ⟨fun c_16 => ?_, fun c_16 => ?_⟩
    · have d_17 := iNe c_16
      exact (hp _ (Or.inl rfl))
    · have d_18 := iEq c_16
      have l_19 : (1 : Int32).toInt = 1 := rfl
      exact (hp _ (Or.inr rfl))
  have d_20 := iNe c_11
  have l_22 : (26 : Int32).toInt = 26 := rfl
  refine ⟨fun c_21 => ?_, fun c_21 => ?_⟩
  · have d_23 := iEq c_21
    have g_24 : (-1 : Int) ≤ (I0 o 8).toInt ∧ (I0 o 8).toInt ≤ 10 := hR.at0 ra 8 (by decide)
    have l_25 : (0 : Int32).toInt = 0 := rfl
    refine ⟨fun c_26 => ?_, fun c_26 => ?_⟩
    · have d_27 := iEq c_26
      unfold fReform_mayAsk_89
      have l_28 : (1 : Int32).toInt = 1 := rfl
      exact (hp _ (Or.inr rfl))
    · have d_29 := iNe c_26
      have g_30 : (-1 : Int) ≤ (I0 o 8).toInt ∧ (I0 o 8).toInt ≤ 10 := hR.at0 ra 8 (by decide)
      have l_31 : (6 : Int32).toInt = 6 := rfl
      refine ⟨fun c_32 => ?_, fun c_32 => ?_⟩
      · have d_33 := iLt c_32
        exact (hp _ (Or.inl rfl))
      · have d_34 := iNlt c_32
        unfold fReform_mayAsk_89
        have l_35 : (1 : Int32).toInt = 1 := rfl
        exact (hp _ (Or.inr rfl))
  have d_36 := iNe c_21
  have l_38 : (28 : Int32).toInt = 28 := rfl
  refine ⟨fun c_37 => ?_, fun c_37 => ?_⟩
  · have d_39 := iEq c_37
    unfold fReform_mayAsk_95
    have g_40 : (-1 : Int) ≤ (I0 o 8).toInt ∧ (I0 o 8).toInt ≤ 10 := hR.at0 ra 8 (by decide)
    have l_41 : (6 : Int32).toInt = 6 := rfl
    refine ⟨fun c_42 => ?_, fun c_42 => ?_⟩
    · have d_43 := iLt c_42
      have l_44 : (0 : Int32).toInt = 0 := rfl
      exact (hp _ (Or.inl rfl))
    · have d_45 := iNlt c_42
      have l_46 : (1 : Int32).toInt = 1 := rfl
      exact (hp _ (Or.inr rfl))
  have d_47 := iNe c_37
  have l_49 : (29 : Int32).toInt = 29 := rfl
  refine ⟨fun c_48 => ?_, fun c_48 => ?_⟩
  · have d_50 := iEq c_48
    unfold fReform_mayAsk_95
    have g_51 : (-1 : Int) ≤ (I0 o 8).toInt ∧ (I0 o 8).toInt ≤ 10 := hR.at0 ra 8 (by decide)
    have l_52 : (6 : Int32).toInt = 6 := rfl
    refine ⟨fun c_53 => ?_, fun c_53 => ?_⟩
    · have d_54 := iLt c_53
      have l_55 : (0 : Int32).toInt = 0 := rfl
      exact (hp _ (Or.inl rfl))
    · have d_56 := iNlt c_53
      have l_57 : (1 : Int32).toInt = 1 := rfl
      exact (hp _ (Or.inr rfl))
  have d_58 := iNe c_48
  have l_60 : (30 : Int32).toInt = 30 := rfl
  refine ⟨fun c_59 => ?_, fun c_59 => ?_⟩
  · have d_61 := iEq c_59
    unfold fReform_mayAsk_95
    have g_62 : (-1 : Int) ≤ (I0 o 8).toInt ∧ (I0 o 8).toInt ≤ 10 := hR.at0 ra 8 (by decide)
    have l_63 : (6 : Int32).toInt = 6 := rfl
    refine ⟨fun c_64 => ?_, fun c_64 => ?_⟩
    · have d_65 := iLt c_64
      have l_66 : (0 : Int32).toInt = 0 := rfl
      exact (hp _ (Or.inl rfl))
    · have d_67 := iNlt c_64
      have l_68 : (1 : Int32).toInt = 1 := rfl
      exact (hp _ (Or.inr rfl))
  have d_69 := iNe c_59
  have l_70 : (1 : Int32).toInt = 1 := rfl
  exact (hp _ (Or.inr rfl))
set_option maxHeartbeats 4000000 in
set_option maxRecDepth 20000 in
theorem y_Reform_freeSlot {D : va_G} {cA : FieldType → ClassId} {b : Nat} {E : State → Prop} {R : qRg} {o n : Nat} {sh : Nat → qC} {Rf : Nat → Nat → Option Nat} {I0 : Nat → Nat → Int32} {L0 : Nat → Nat → Int64} {post : Option Value → qS → Prop} {x1 : Nat} (hok : q_ok (qGG D cA b E)) (hw : WfReform (qGG D cA b E) n sh Rf o) (ra : RAReform R o) (hw1 : WfTape (qGG D cA b E) n sh Rf x1) (ra1 : RATape R x1) (hR : RI R I0) (hp : ∀ (r : Int32) , (((-1 : Int) ≤ r.toInt ∧ r.toInt ≤ 10)) → (r.toInt ≤ 5 ∨ (I0 o 6).toInt ≤ 4) → post (some (.int r)) (n, sh, Rf, I0, L0)) : Ev (qGG D cA b E) mReform_freeSlot 1 (0, 0) 0 (lv_args 0 [.ref o, .ref x1]) [] (n, sh, Rf, I0, L0) post := by
  have g_1 : (0 : Int) ≤ (I0 o 6).toInt ∧ (I0 o 6).toInt ≤ 5 := hR.at0 ra 6 (by decide)
  refine sReform_freeSlot_0 o n sh Rf I0 L0 post x1 hok hw hw1 ?_
  unfold fReform_freeSlot_0
  refine y_Tape_kind hok hw1 ra1 hR (fun r_2 u_3 => ⟨r_2, I0, L0, rfl, rfl, ?_⟩)
  have l_4 : (1 : Int32).toInt = 1 := rfl
  refine ⟨fun c_5 => ?_, fun c_5 => ?_⟩
  · have d_6 := iNe c_5
    have l_7 : (-1 : Int32).toInt = -1 := rfl
    exact (hp _ (by first | omega | (intro h; omega) | exact Or.inl rfl | exact Or.inr rfl) (by first | omega | (intro h; omega) | exact Or.inl rfl | exact Or.inr rfl))
  · have d_8 := iEq c_5
    refine y_Tape_value hok hw1 ra1 hR (fun r_9 u_10 => ⟨r_9, I0, L0, rfl, rfl, ?_⟩)
    have l_11 : (14 : Int32).toInt = 14 := rfl
    refine ⟨fun c_12 => ?_, fun c_12 => ?_⟩
    · have d_13 := iLt c_12
      have l_14 : (-1 : Int32).toInt = -1 := rfl
      exact (hp _ (by first | omega | (intro h; omega) | exact Or.inl rfl | exact Or.inr rfl) (by first | omega | (intro h; omega) | exact Or.inl rfl | exact Or.inr rfl))
    · have d_15 := iNlt c_12
      refine y_Tape_value hok hw1 ra1 hR (fun r_16 u_17 => ⟨r_16, I0, L0, rfl, rfl, ?_⟩)
      have j_18 := iEq (u_17.trans u_10.symm)
      have l_19 : (19 : Int32).toInt = 19 := rfl
      refine ⟨fun c_20 => ?_, fun c_20 => ?_⟩
      · have d_21 := iLe c_20
        refine y_Tape_value hok hw1 ra1 hR (fun r_22 u_23 => ⟨r_22, I0, L0, rfl, rfl, ?_⟩)
        have j_24 := iEq (u_23.trans u_17.symm)
        have l_25 : (15 : Int32).toInt = 15 := rfl
        refine ⟨fun c_26 => ?_, fun c_26 => ?_⟩
        · have d_27 := iNe c_26
          refine y_Tape_value hok hw1 ra1 hR (fun r_28 u_29 => ⟨r_28, I0, L0, rfl, rfl, ?_⟩)
          have j_30 := iEq (u_29.trans u_23.symm)
          have v_31 : (14 : Int) ≤ r_28.toInt ∧ r_28.toInt ≤ 19 := by omega
          have a_32 : (r_28 - 14).toInt = r_28.toInt - (14 : Int32).toInt := tSub (by omega) (by omega)
          refine ⟨tIn (by omega) (by omega), ?_⟩
          have g_33 : (0 : Int) ≤ (I0 (o + 3) ((r_28 - 14) : Int32).toNatClampNeg).toInt ∧ (I0 (o + 3) ((r_28 - 14) : Int32).toNatClampNeg).toInt ≤ 700 := hR.at ra 3 _ (by decide)
          have l_34 : (0 : Int32).toInt = 0 := rfl
          refine ⟨fun c_35 => ?_, fun c_35 => ?_⟩
          · have d_36 := iNe c_35
            have l_37 : (-1 : Int32).toInt = -1 := rfl
            exact (hp _ (by first | omega | (intro h; omega) | exact Or.inl rfl | exact Or.inr rfl) (by first | omega | (intro h; omega) | exact Or.inl rfl | exact Or.inr rfl))
          · have d_38 := iEq c_35
            exact (hp _ (by first | omega | (intro h; omega) | exact Or.inl rfl | exact Or.inr rfl) (by first | omega | (intro h; omega) | exact Or.inl rfl | exact Or.inr rfl))
        · have d_39 := iEq c_26
          have g_40 : (0 : Int) ≤ (I0 o 6).toInt ∧ (I0 o 6).toInt ≤ 5 := hR.at0 ra 6 (by decide)
          have l_41 : (5 : Int32).toInt = 5 := rfl
          refine ⟨fun c_42 => ?_, fun c_42 => ?_⟩
          · have d_43 := iLe c_42
            have l_44 : (-1 : Int32).toInt = -1 := rfl
            exact (hp _ (by first | omega | (intro h; omega) | exact Or.inl rfl | exact Or.inr rfl) (by first | omega | (intro h; omega) | exact Or.inl rfl | exact Or.inr rfl))
          · have d_45 := iNle c_42
            have g_46 : (0 : Int) ≤ (I0 o 6).toInt ∧ (I0 o 6).toInt ≤ 5 := hR.at0 ra 6 (by decide)
            have l_47 : (6 : Int32).toInt = 6 := rfl
            have a_48 : (6 + (I0 o 6)).toInt = (6 : Int32).toInt + (I0 o 6).toInt := tAdd (by omega) (by omega)
            exact (hp _ (by first | omega | (intro h; omega) | exact Or.inl rfl | exact Or.inr rfl) (by first | omega | (intro h; omega) | exact Or.inl rfl | exact Or.inr rfl))
      · have d_49 := iNle c_20
        have l_50 : (-1 : Int32).toInt = -1 := rfl
        exact (hp _ (by first | omega | (intro h; omega) | exact Or.inl rfl | exact Or.inr rfl) (by first | omega | (intro h; omega) | exact Or.inl rfl | exact Or.inr rfl))
set_option maxHeartbeats 4000000 in
set_option maxRecDepth 20000 in
theorem yReform_readEither_8 {D : va_G} {cA : FieldType → ClassId} {b : Nat} {E : State → Prop} {R : qRg} {o n : Nat} {sh : Nat → qC} {Rf : Nat → Nat → Option Nat} {I0 : Nat → Nat → Int32} {L0 : Nat → Nat → Int64} {post : Option Value → qS → Prop} {x1 : Nat} {p2 : Int32} (hok : q_ok (qGG D cA b E)) (hw : WfReform (qGG D cA b E) n sh Rf o) (ra : RAReform R o) (hw1 : WfTape (qGG D cA b E) n sh Rf x1) (ra1 : RATape R x1) {d : Nat} {lo : Int} (hd0 : 5 ≤ d) (cReform_readBoth : ∀ (J : Nat → Nat → Int32) (K : Nat → Nat → Int64) (post : Option Value → qS → Prop) (q : Int32), RI R J → TokOK J x1 → lo ≤ q.toInt → q.toInt ≤ 7 → (∀ I' L', RI R I' → Fm (fun c => (o ≤ c ∧ c < o + 5) ∨ c = x1) J I' → (I' o 6).toInt = (J o 6).toInt → (I' o 8).toInt = (J o 8).toInt → post none (n, sh, Rf, I', L')) → Ev (qGG D cA b E) mReform_readBoth d (0, 0) 0 (lv_args 0 [.ref o, .ref x1, .int q]) [] (n, sh, Rf, J, K) post) (hs0 : o + 5 ≤ x1 ∨ x1 + 7 ≤ o) (hs1 : 0 ≤ lo) (hq0 : lo ≤ p2.toInt) (hq1 : p2.toInt ≤ 7) (hq2 : TokOK I0 x1) (hp : ∀ (I' : Nat → Nat → Int32) (L' : Nat → Nat → Int64), RI R I' → Fm (fun c => (o ≤ c ∧ c < o + 5) ∨ c = x1) I0 I' → ((I' o 6).toInt = (I0 o 6).toInt) → ((I' o 8).toInt = (I0 o 8).toInt) → post none (n, sh, Rf, I', L')) : ∀ (k : Nat) {x2 : Int32} {x3 : Int32} {I : Nat → Nat → Int32} {L : Nat → Nat → Int64}, RI R I → Fm (fun c => (o ≤ c ∧ c < o + 5) ∨ c = x1) I0 I → ((0 : Int) ≤ x3.toInt ∧ x3.toInt ≤ 700) → ((I o 6).toInt = (I0 o 6).toInt) → ((I o 8).toInt = (I0 o 8).toInt) → (x2 = p2) → (TokOK I x1) → (700 - x3.toInt).toNat < k → Ev (qGG D cA b E) mReform_readEither (d + 1) (0, 0) 8 [(0, .ref o), (1, .ref x1), (2, .int x2), (3, .int x3)] [] (n, sh, Rf, I, L) post := by
  intro k
  induction k with
  | zero =>
    intro x2 x3 I L hR hf hi0 hi1 hi2 hi3 hi4 hm
    exact absurd hm (Nat.not_lt_zero _)
  | succ k ih =>
    intro x2 x3 I L hR hf hi0 hi1 hi2 hi3 hi4 hm
    have hz0 := hi3.symm
    subst hz0
    have g_1 : (0 : Int) ≤ (I o 6).toInt ∧ (I o 6).toInt ≤ 5 := hR.at0 ra 6 (by decide)
    have g_2 : (-1 : Int) ≤ (I o 8).toInt ∧ (I o 8).toInt ≤ 10 := hR.at0 ra 8 (by decide)
    refine sReform_readEither_8 o n sh Rf I L post x1 p2 x3 d hok hw hw1 hd0 ?_
    unfold fReform_readEither_8
    have l_3 : (700 : Int32).toInt = 700 := rfl
    refine ⟨fun c_4 => ?_, fun c_4 => ?_⟩
    · have d_5 := iLe c_4
      exact (hp _ _ hR hf (by first | omega | (intro h; omega) | exact Or.inl rfl | exact Or.inr rfl) (by first | omega | (intro h; omega) | exact Or.inl rfl | exact Or.inr rfl))
    · have d_6 := iNle c_4
      have l_7 : (21 : Int32).toInt = 21 := rfl
      refine y_Tape_isWord hok hw1 ra1 hR (fun r_8 u_9 => ⟨r_8, I, L, rfl, rfl, ?_⟩)
      have b_10 : 0 ≤ r_8.toInt ∧ r_8.toInt ≤ 1 := u_9.rg
      have l_11 : (0 : Int32).toInt = 0 := rfl
      refine ⟨fun c_12 => ?_, fun c_12 => ?_⟩
      · have d_13 := iEq c_12
        exact (hp _ _ hR hf (by first | omega | (intro h; omega) | exact Or.inl rfl | exact Or.inr rfl) (by first | omega | (intro h; omega) | exact Or.inl rfl | exact Or.inr rfl))
      · have d_14 := iNe c_12
        refine y_Tape_step hok hw1 ra1 hR (fun I_17 L_18 hR_19 fr_20 u_16 => ⟨I_17, L_18, rfl, rfl, ?_⟩)
        have hf_21 : Fm (fun c => (o ≤ c ∧ c < o + 5) ∨ c = x1) I0 I_17 := hf.call fr_20 (fun c hc => by first | exact hc | (dsimp only at hc ⊢; omega) | omega)
        have t_22 : (I_17 o 6).toInt = (I o 6).toInt := by rw [fr_20 o (by first | omega | (dsimp only; omega))]
        have t_23 : (I_17 o 8).toInt = (I o 8).toInt := by rw [fr_20 o (by first | omega | (dsimp only; omega))]
        have k_24 : TokOK I_17 x1 := hi4.fr (fr_20 _ (by first | omega | (dsimp only; omega))) (fr_20 _ (by first | omega | (dsimp only; omega)))
        refine cReform_readBoth I_17 L_18 _ _ hR_19 k_24 (by omega) (by omega) (fun I_25 L_26 hR_27 fr_28 k6_30 k8_31 => ⟨I_25, L_26, rfl, rfl, ?_⟩)
        have hf_29 : Fm (fun c => (o ≤ c ∧ c < o + 5) ∨ c = x1) I0 I_25 := hf_21.call fr_28 (fun c hc => hc)
        have k_32 : TokOK I_25 x1 := k_24.fr (fr_28 _ (by first | omega | (dsimp only; omega))) (fr_28 _ (by first | omega | (dsimp only; omega)))
        refine y_Reform_emit hok hw ra (by first | omega | (intro h; omega) | exact Or.inl rfl | exact Or.inr rfl) hR_27 (fun I_36 L_37 hR_38 fr_39 u_34 u_35 => ⟨I_36, L_37, rfl, rfl, ?_⟩)
        have hf_40 : Fm (fun c => (o ≤ c ∧ c < o + 5) ∨ c = x1) I0 I_36 := hf_29.call fr_39 (fun c hc => by first | exact hc | (dsimp only at hc ⊢; omega) | omega)
        have g_41 : (0 : Int) ≤ (I_36 o 6).toInt ∧ (I_36 o 6).toInt ≤ 5 := hR_38.at0 ra 6 (by decide)
        have g_42 : (-1 : Int) ≤ (I_36 o 8).toInt ∧ (I_36 o 8).toInt ≤ 10 := hR_38.at0 ra 8 (by decide)
        have k_43 : TokOK I_36 x1 := k_32.fr (fr_39 _ (by first | omega | (dsimp only; omega))) (fr_39 _ (by first | omega | (dsimp only; omega)))
        have a_45 : (x3 + Int32.ofInt 1).toInt = x3.toInt + (1) := tIc (by omega) (by omega) (by decide) (by decide)
        generalize ez_44 : (x3 + Int32.ofInt 1) = z_44 at a_45 ⊢
        exact ih hR_38 hf_40 (by first | omega | (intro h; omega) | exact Or.inl rfl | exact Or.inr rfl) (by first | omega | (intro h; omega) | exact Or.inl rfl | exact Or.inr rfl) (by first | omega | (intro h; omega) | exact Or.inl rfl | exact Or.inr rfl) rfl k_43 (by omega)
set_option maxHeartbeats 4000000 in
set_option maxRecDepth 20000 in
theorem y_Reform_readEither {D : va_G} {cA : FieldType → ClassId} {b : Nat} {E : State → Prop} {R : qRg} {o n : Nat} {sh : Nat → qC} {Rf : Nat → Nat → Option Nat} {I0 : Nat → Nat → Int32} {L0 : Nat → Nat → Int64} {post : Option Value → qS → Prop} {x1 : Nat} {p2 : Int32} (hok : q_ok (qGG D cA b E)) (hw : WfReform (qGG D cA b E) n sh Rf o) (ra : RAReform R o) (hw1 : WfTape (qGG D cA b E) n sh Rf x1) (ra1 : RATape R x1) {d : Nat} {lo : Int} (hd0 : 5 ≤ d) (cReform_readBoth : ∀ (J : Nat → Nat → Int32) (K : Nat → Nat → Int64) (post : Option Value → qS → Prop) (q : Int32), RI R J → TokOK J x1 → lo ≤ q.toInt → q.toInt ≤ 7 → (∀ I' L', RI R I' → Fm (fun c => (o ≤ c ∧ c < o + 5) ∨ c = x1) J I' → (I' o 6).toInt = (J o 6).toInt → (I' o 8).toInt = (J o 8).toInt → post none (n, sh, Rf, I', L')) → Ev (qGG D cA b E) mReform_readBoth d (0, 0) 0 (lv_args 0 [.ref o, .ref x1, .int q]) [] (n, sh, Rf, J, K) post) (hs0 : o + 5 ≤ x1 ∨ x1 + 7 ≤ o) (hs1 : 0 ≤ lo) (hq0 : lo ≤ p2.toInt) (hq1 : p2.toInt ≤ 7) (hq2 : TokOK I0 x1) (hR : RI R I0) (hp : ∀ (I' : Nat → Nat → Int32) (L' : Nat → Nat → Int64), RI R I' → Fm (fun c => (o ≤ c ∧ c < o + 5) ∨ c = x1) I0 I' → ((I' o 6).toInt = (I0 o 6).toInt) → ((I' o 8).toInt = (I0 o 8).toInt) → post none (n, sh, Rf, I', L')) : Ev (qGG D cA b E) mReform_readEither (d + 1) (0, 0) 0 (lv_args 0 [.ref o, .ref x1, .int p2]) [] (n, sh, Rf, I0, L0) post := by
  have hf : Fm (fun c => (o ≤ c ∧ c < o + 5) ∨ c = x1) I0 I0 := Fm.rf
  have g_46 : (0 : Int) ≤ (I0 o 6).toInt ∧ (I0 o 6).toInt ≤ 5 := hR.at0 ra 6 (by decide)
  have g_47 : (-1 : Int) ≤ (I0 o 8).toInt ∧ (I0 o 8).toInt ≤ 10 := hR.at0 ra 8 (by decide)
  refine sReform_readEither_0 o n sh Rf I0 L0 post x1 p2 d hok hw hw1 hd0 ?_
  unfold fReform_readEither_0
  refine cReform_readBoth I0 L0 _ _ hR hq2 (by omega) (by omega) (fun I_48 L_49 hR_50 fr_51 k6_53 k8_54 => ⟨I_48, L_49, rfl, rfl, ?_⟩)
  have hf_52 : Fm (fun c => (o ≤ c ∧ c < o + 5) ∨ c = x1) I0 I_48 := hf.call fr_51 (fun c hc => hc)
  have k_55 : TokOK I_48 x1 := hq2.fr (fr_51 _ (by first | omega | (dsimp only; omega))) (fr_51 _ (by first | omega | (dsimp only; omega)))
  have l_56 : (0 : Int32).toInt = 0 := rfl
  exact yReform_readEither_8 (I0 := I0) (L0 := L0) (p2 := p2) hok hw ra hw1 ra1 hd0 cReform_readBoth hs0 hs1 hq0 hq1 hq2 hp  _ hR_50 hf_52 (by first | omega | (intro h; omega) | exact Or.inl rfl | exact Or.inr rfl) (by first | omega | (intro h; omega) | exact Or.inl rfl | exact Or.inr rfl) (by first | omega | (intro h; omega) | exact Or.inl rfl | exact Or.inr rfl) rfl k_55 (Nat.lt_succ_self _)
set_option maxHeartbeats 4000000 in
set_option maxRecDepth 20000 in
theorem yReform_readBoth_8 {D : va_G} {cA : FieldType → ClassId} {b : Nat} {E : State → Prop} {R : qRg} {o n : Nat} {sh : Nat → qC} {Rf : Nat → Nat → Option Nat} {I0 : Nat → Nat → Int32} {L0 : Nat → Nat → Int64} {post : Option Value → qS → Prop} {x1 : Nat} {p2 : Int32} (hok : q_ok (qGG D cA b E)) (hw : WfReform (qGG D cA b E) n sh Rf o) (ra : RAReform R o) (hw1 : WfTape (qGG D cA b E) n sh Rf x1) (ra1 : RATape R x1) {d : Nat} {lo : Int} (hd0 : 5 ≤ d) (cReform_readOne : ∀ (J : Nat → Nat → Int32) (K : Nat → Nat → Int64) (post : Option Value → qS → Prop) (q : Int32), RI R J → TokOK J x1 → lo ≤ q.toInt → q.toInt ≤ 7 → (∀ I' L', RI R I' → Fm (fun c => (o ≤ c ∧ c < o + 5) ∨ c = x1) J I' → (I' o 6).toInt = (J o 6).toInt → (I' o 8).toInt = (J o 8).toInt → post none (n, sh, Rf, I', L')) → Ev (qGG D cA b E) mReform_readOne d (0, 0) 0 (lv_args 0 [.ref o, .ref x1, .int q]) [] (n, sh, Rf, J, K) post) (hs0 : o + 5 ≤ x1 ∨ x1 + 7 ≤ o) (hs1 : 0 ≤ lo) (hq0 : lo ≤ p2.toInt) (hq1 : p2.toInt ≤ 7) (hq2 : TokOK I0 x1) (hp : ∀ (I' : Nat → Nat → Int32) (L' : Nat → Nat → Int64), RI R I' → Fm (fun c => (o ≤ c ∧ c < o + 5) ∨ c = x1) I0 I' → ((I' o 6).toInt = (I0 o 6).toInt) → ((I' o 8).toInt = (I0 o 8).toInt) → post none (n, sh, Rf, I', L')) : ∀ (k : Nat) {x2 : Int32} {x3 : Int32} {I : Nat → Nat → Int32} {L : Nat → Nat → Int64}, RI R I → Fm (fun c => (o ≤ c ∧ c < o + 5) ∨ c = x1) I0 I → ((0 : Int) ≤ x3.toInt ∧ x3.toInt ≤ 700) → ((I o 6).toInt = (I0 o 6).toInt) → ((I o 8).toInt = (I0 o 8).toInt) → (x2 = p2) → (TokOK I x1) → (700 - x3.toInt).toNat < k → Ev (qGG D cA b E) mReform_readBoth (d + 1) (0, 0) 8 [(0, .ref o), (1, .ref x1), (2, .int x2), (3, .int x3)] [] (n, sh, Rf, I, L) post := by
  intro k
  induction k with
  | zero =>
    intro x2 x3 I L hR hf hi0 hi1 hi2 hi3 hi4 hm
    exact absurd hm (Nat.not_lt_zero _)
  | succ k ih =>
    intro x2 x3 I L hR hf hi0 hi1 hi2 hi3 hi4 hm
    have hz0 := hi3.symm
    subst hz0
    have g_1 : (0 : Int) ≤ (I o 6).toInt ∧ (I o 6).toInt ≤ 5 := hR.at0 ra 6 (by decide)
    have g_2 : (-1 : Int) ≤ (I o 8).toInt ∧ (I o 8).toInt ≤ 10 := hR.at0 ra 8 (by decide)
    refine sReform_readBoth_8 o n sh Rf I L post x1 p2 x3 d hok hw hw1 hd0 ?_
    unfold fReform_readBoth_8
    have l_3 : (700 : Int32).toInt = 700 := rfl
    refine ⟨fun c_4 => ?_, fun c_4 => ?_⟩
    · have d_5 := iLe c_4
      exact (hp _ _ hR hf (by first | omega | (intro h; omega) | exact Or.inl rfl | exact Or.inr rfl) (by first | omega | (intro h; omega) | exact Or.inl rfl | exact Or.inr rfl))
    · have d_6 := iNle c_4
      have l_7 : (20 : Int32).toInt = 20 := rfl
      refine y_Tape_isWord hok hw1 ra1 hR (fun r_8 u_9 => ⟨r_8, I, L, rfl, rfl, ?_⟩)
      have b_10 : 0 ≤ r_8.toInt ∧ r_8.toInt ≤ 1 := u_9.rg
      have l_11 : (0 : Int32).toInt = 0 := rfl
      refine ⟨fun c_12 => ?_, fun c_12 => ?_⟩
      · have d_13 := iEq c_12
        exact (hp _ _ hR hf (by first | omega | (intro h; omega) | exact Or.inl rfl | exact Or.inr rfl) (by first | omega | (intro h; omega) | exact Or.inl rfl | exact Or.inr rfl))
      · have d_14 := iNe c_12
        refine y_Tape_step hok hw1 ra1 hR (fun I_17 L_18 hR_19 fr_20 u_16 => ⟨I_17, L_18, rfl, rfl, ?_⟩)
        have hf_21 : Fm (fun c => (o ≤ c ∧ c < o + 5) ∨ c = x1) I0 I_17 := hf.call fr_20 (fun c hc => by first | exact hc | (dsimp only at hc ⊢; omega) | omega)
        have t_22 : (I_17 o 6).toInt = (I o 6).toInt := by rw [fr_20 o (by first | omega | (dsimp only; omega))]
        have t_23 : (I_17 o 8).toInt = (I o 8).toInt := by rw [fr_20 o (by first | omega | (dsimp only; omega))]
        have k_24 : TokOK I_17 x1 := hi4.fr (fr_20 _ (by first | omega | (dsimp only; omega))) (fr_20 _ (by first | omega | (dsimp only; omega)))
        refine cReform_readOne I_17 L_18 _ _ hR_19 k_24 (by omega) (by omega) (fun I_25 L_26 hR_27 fr_28 k6_30 k8_31 => ⟨I_25, L_26, rfl, rfl, ?_⟩)
        have hf_29 : Fm (fun c => (o ≤ c ∧ c < o + 5) ∨ c = x1) I0 I_25 := hf_21.call fr_28 (fun c hc => hc)
        have k_32 : TokOK I_25 x1 := k_24.fr (fr_28 _ (by first | omega | (dsimp only; omega))) (fr_28 _ (by first | omega | (dsimp only; omega)))
        refine y_Reform_emit hok hw ra (by first | omega | (intro h; omega) | exact Or.inl rfl | exact Or.inr rfl) hR_27 (fun I_36 L_37 hR_38 fr_39 u_34 u_35 => ⟨I_36, L_37, rfl, rfl, ?_⟩)
        have hf_40 : Fm (fun c => (o ≤ c ∧ c < o + 5) ∨ c = x1) I0 I_36 := hf_29.call fr_39 (fun c hc => by first | exact hc | (dsimp only at hc ⊢; omega) | omega)
        have g_41 : (0 : Int) ≤ (I_36 o 6).toInt ∧ (I_36 o 6).toInt ≤ 5 := hR_38.at0 ra 6 (by decide)
        have g_42 : (-1 : Int) ≤ (I_36 o 8).toInt ∧ (I_36 o 8).toInt ≤ 10 := hR_38.at0 ra 8 (by decide)
        have k_43 : TokOK I_36 x1 := k_32.fr (fr_39 _ (by first | omega | (dsimp only; omega))) (fr_39 _ (by first | omega | (dsimp only; omega)))
        have a_45 : (x3 + Int32.ofInt 1).toInt = x3.toInt + (1) := tIc (by omega) (by omega) (by decide) (by decide)
        generalize ez_44 : (x3 + Int32.ofInt 1) = z_44 at a_45 ⊢
        exact ih hR_38 hf_40 (by first | omega | (intro h; omega) | exact Or.inl rfl | exact Or.inr rfl) (by first | omega | (intro h; omega) | exact Or.inl rfl | exact Or.inr rfl) (by first | omega | (intro h; omega) | exact Or.inl rfl | exact Or.inr rfl) rfl k_43 (by omega)
set_option maxHeartbeats 4000000 in
set_option maxRecDepth 20000 in
theorem y_Reform_readBoth {D : va_G} {cA : FieldType → ClassId} {b : Nat} {E : State → Prop} {R : qRg} {o n : Nat} {sh : Nat → qC} {Rf : Nat → Nat → Option Nat} {I0 : Nat → Nat → Int32} {L0 : Nat → Nat → Int64} {post : Option Value → qS → Prop} {x1 : Nat} {p2 : Int32} (hok : q_ok (qGG D cA b E)) (hw : WfReform (qGG D cA b E) n sh Rf o) (ra : RAReform R o) (hw1 : WfTape (qGG D cA b E) n sh Rf x1) (ra1 : RATape R x1) {d : Nat} {lo : Int} (hd0 : 5 ≤ d) (cReform_readOne : ∀ (J : Nat → Nat → Int32) (K : Nat → Nat → Int64) (post : Option Value → qS → Prop) (q : Int32), RI R J → TokOK J x1 → lo ≤ q.toInt → q.toInt ≤ 7 → (∀ I' L', RI R I' → Fm (fun c => (o ≤ c ∧ c < o + 5) ∨ c = x1) J I' → (I' o 6).toInt = (J o 6).toInt → (I' o 8).toInt = (J o 8).toInt → post none (n, sh, Rf, I', L')) → Ev (qGG D cA b E) mReform_readOne d (0, 0) 0 (lv_args 0 [.ref o, .ref x1, .int q]) [] (n, sh, Rf, J, K) post) (hs0 : o + 5 ≤ x1 ∨ x1 + 7 ≤ o) (hs1 : 0 ≤ lo) (hq0 : lo ≤ p2.toInt) (hq1 : p2.toInt ≤ 7) (hq2 : TokOK I0 x1) (hR : RI R I0) (hp : ∀ (I' : Nat → Nat → Int32) (L' : Nat → Nat → Int64), RI R I' → Fm (fun c => (o ≤ c ∧ c < o + 5) ∨ c = x1) I0 I' → ((I' o 6).toInt = (I0 o 6).toInt) → ((I' o 8).toInt = (I0 o 8).toInt) → post none (n, sh, Rf, I', L')) : Ev (qGG D cA b E) mReform_readBoth (d + 1) (0, 0) 0 (lv_args 0 [.ref o, .ref x1, .int p2]) [] (n, sh, Rf, I0, L0) post := by
  have hf : Fm (fun c => (o ≤ c ∧ c < o + 5) ∨ c = x1) I0 I0 := Fm.rf
  have g_46 : (0 : Int) ≤ (I0 o 6).toInt ∧ (I0 o 6).toInt ≤ 5 := hR.at0 ra 6 (by decide)
  have g_47 : (-1 : Int) ≤ (I0 o 8).toInt ∧ (I0 o 8).toInt ≤ 10 := hR.at0 ra 8 (by decide)
  refine sReform_readBoth_0 o n sh Rf I0 L0 post x1 p2 d hok hw hw1 hd0 ?_
  unfold fReform_readBoth_0
  refine cReform_readOne I0 L0 _ _ hR hq2 (by omega) (by omega) (fun I_48 L_49 hR_50 fr_51 k6_53 k8_54 => ⟨I_48, L_49, rfl, rfl, ?_⟩)
  have hf_52 : Fm (fun c => (o ≤ c ∧ c < o + 5) ∨ c = x1) I0 I_48 := hf.call fr_51 (fun c hc => hc)
  have k_55 : TokOK I_48 x1 := hq2.fr (fr_51 _ (by first | omega | (dsimp only; omega))) (fr_51 _ (by first | omega | (dsimp only; omega)))
  have l_56 : (0 : Int32).toInt = 0 := rfl
  exact yReform_readBoth_8 (I0 := I0) (L0 := L0) (p2 := p2) hok hw ra hw1 ra1 hd0 cReform_readOne hs0 hs1 hq0 hq1 hq2 hp  _ hR_50 hf_52 (by first | omega | (intro h; omega) | exact Or.inl rfl | exact Or.inr rfl) (by first | omega | (intro h; omega) | exact Or.inl rfl | exact Or.inr rfl) (by first | omega | (intro h; omega) | exact Or.inl rfl | exact Or.inr rfl) rfl k_55 (Nat.lt_succ_self _)
set_option maxHeartbeats 4000000 in
set_option maxRecDepth 20000 in
theorem y_Reform_readOne {D : va_G} {cA : FieldType → ClassId} {b : Nat} {E : State → Prop} {R : qRg} {o n : Nat} {sh : Nat → qC} {Rf : Nat → Nat → Option Nat} {I0 : Nat → Nat → Int32} {L0 : Nat → Nat → Int64} {post : Option Value → qS → Prop} {x1 : Nat} {p2 : Int32} (hok : q_ok (qGG D cA b E)) (hw : WfReform (qGG D cA b E) n sh Rf o) (ra : RAReform R o) (hw1 : WfTape (qGG D cA b E) n sh Rf x1) (ra1 : RATape R x1) {d : Nat} {lo : Int} (hd0 : 5 ≤ d) (cReform_readSum : ∀ (J : Nat → Nat → Int32) (K : Nat → Nat → Int64) (post : Option Value → qS → Prop) (q : Int32), RI R J → TokOK J x1 → lo ≤ q.toInt → q.toInt ≤ 7 → (∀ I' L', RI R I' → Fm (fun c => (o ≤ c ∧ c < o + 5) ∨ c = x1) J I' → (I' o 6).toInt = (J o 6).toInt → (I' o 8).toInt = (J o 8).toInt → post none (n, sh, Rf, I', L')) → Ev (qGG D cA b E) mReform_readSum d (0, 0) 0 (lv_args 0 [.ref o, .ref x1, .int q]) [] (n, sh, Rf, J, K) post) (cReform_readOne : ∀ (J : Nat → Nat → Int32) (K : Nat → Nat → Int64) (post : Option Value → qS → Prop) (q : Int32), RI R J → TokOK J x1 → (lo + 1) ≤ q.toInt → q.toInt ≤ 7 → (∀ I' L', RI R I' → Fm (fun c => (o ≤ c ∧ c < o + 5) ∨ c = x1) J I' → (I' o 6).toInt = (J o 6).toInt → (I' o 8).toInt = (J o 8).toInt → post none (n, sh, Rf, I', L')) → Ev (qGG D cA b E) mReform_readOne d (0, 0) 0 (lv_args 0 [.ref o, .ref x1, .int q]) [] (n, sh, Rf, J, K) post) (hs0 : o + 5 ≤ x1 ∨ x1 + 7 ≤ o) (hs1 : 0 ≤ lo) (hq0 : lo ≤ p2.toInt) (hq1 : p2.toInt ≤ 7) (hq2 : TokOK I0 x1) (hR : RI R I0) (hp : ∀ (I' : Nat → Nat → Int32) (L' : Nat → Nat → Int64), RI R I' → Fm (fun c => (o ≤ c ∧ c < o + 5) ∨ c = x1) I0 I' → ((I' o 6).toInt = (I0 o 6).toInt) → ((I' o 8).toInt = (I0 o 8).toInt) → post none (n, sh, Rf, I', L')) : Ev (qGG D cA b E) mReform_readOne (d + 1) (0, 0) 0 (lv_args 0 [.ref o, .ref x1, .int p2]) [] (n, sh, Rf, I0, L0) post := by
  have hf : Fm (fun c => (o ≤ c ∧ c < o + 5) ∨ c = x1) I0 I0 := Fm.rf
  have g_1 : (0 : Int) ≤ (I0 o 6).toInt ∧ (I0 o 6).toInt ≤ 5 := hR.at0 ra 6 (by decide)
  have g_2 : (-1 : Int) ≤ (I0 o 8).toInt ∧ (I0 o 8).toInt ≤ 10 := hR.at0 ra 8 (by decide)
  refine sReform_readOne_0 o n sh Rf I0 L0 post x1 p2 d hok hw hw1 hd0 ?_
  unfold fReform_readOne_0
  have l_3 : (22 : Int32).toInt = 22 := rfl
  refine y_Tape_isWord hok hw1 ra1 hR (fun r_4 u_5 => ⟨r_4, I0, L0, rfl, rfl, ?_⟩)
  have b_6 : 0 ≤ r_4.toInt ∧ r_4.toInt ≤ 1 := u_5.rg
  have l_7 : (0 : Int32).toInt = 0 := rfl
  refine ⟨fun c_8 => ?_, fun c_8 => ?_⟩
  · have d_9 := iEq c_8
    refine cReform_readSum I0 L0 _ _ hR hq2 (by omega) (by omega) (fun I_10 L_11 hR_12 fr_13 k6_15 k8_16 => ⟨I_10, L_11, rfl, rfl, ?_⟩)
    have hf_14 : Fm (fun c => (o ≤ c ∧ c < o + 5) ∨ c = x1) I0 I_10 := hf.call fr_13 (fun c hc => hc)
    have k_17 : TokOK I_10 x1 := hq2.fr (fr_13 _ (by first | omega | (dsimp only; omega))) (fr_13 _ (by first | omega | (dsimp only; omega)))
    have l_18 : (60 : Int32).toInt = 60 := rfl
    refine y_Tape_isSign hok hw1 ra1 hR_12 (fun r_19 u_20 u_21 => ⟨r_19, I_10, L_11, rfl, rfl, ?_⟩)
    have b_22 : 0 ≤ r_19.toInt ∧ r_19.toInt ≤ 1 := u_20.rg
    refine ⟨fun c_23 => ?_, fun c_23 => ?_⟩
    · have d_24 := iNe c_23
      unfold fReform_readOne_73
      refine y_Tape_value hok hw1 ra1 hR_12 (fun r_25 u_26 => ⟨r_25, I_10, L_11, rfl, rfl, ?_⟩)
      have sg := u_21 (by omega)
      have vq := iEq u_26
      have v_27 : (0 : Int) ≤ r_25.toInt ∧ r_25.toInt ≤ 127 := by omega
      refine y_Tape_step hok hw1 ra1 hR_12 (fun I_30 L_31 hR_32 fr_33 u_29 => ⟨I_30, L_31, rfl, rfl, ?_⟩)
      have hf_34 : Fm (fun c => (o ≤ c ∧ c < o + 5) ∨ c = x1) I0 I_30 := hf_14.call fr_33 (fun c hc => by first | exact hc | (dsimp only at hc ⊢; omega) | omega)
      have t_35 : (I_30 o 6).toInt = (I_10 o 6).toInt := by rw [fr_33 o (by first | omega | (dsimp only; omega))]
      have t_36 : (I_30 o 8).toInt = (I_10 o 8).toInt := by rw [fr_33 o (by first | omega | (dsimp only; omega))]
      have k_37 : TokOK I_30 x1 := k_17.fr (fr_33 _ (by first | omega | (dsimp only; omega))) (fr_33 _ (by first | omega | (dsimp only; omega)))
      refine cReform_readSum I_30 L_31 _ _ hR_32 k_37 (by omega) (by omega) (fun I_38 L_39 hR_40 fr_41 k6_43 k8_44 => ⟨I_38, L_39, rfl, rfl, ?_⟩)
      have hf_42 : Fm (fun c => (o ≤ c ∧ c < o + 5) ∨ c = x1) I0 I_38 := hf_34.call fr_41 (fun c hc => hc)
      have k_45 : TokOK I_38 x1 := k_37.fr (fr_41 _ (by first | omega | (dsimp only; omega))) (fr_41 _ (by first | omega | (dsimp only; omega)))
      refine y_Reform_emit hok hw ra (by first | omega | (intro h; omega) | exact Or.inl rfl | exact Or.inr rfl) hR_40 (fun I_49 L_50 hR_51 fr_52 u_47 u_48 => ⟨I_49, L_50, rfl, rfl, ?_⟩)
      have hf_53 : Fm (fun c => (o ≤ c ∧ c < o + 5) ∨ c = x1) I0 I_49 := hf_42.call fr_52 (fun c hc => by first | exact hc | (dsimp only at hc ⊢; omega) | omega)
      have g_54 : (0 : Int) ≤ (I_49 o 6).toInt ∧ (I_49 o 6).toInt ≤ 5 := hR_51.at0 ra 6 (by decide)
      have g_55 : (-1 : Int) ≤ (I_49 o 8).toInt ∧ (I_49 o 8).toInt ≤ 10 := hR_51.at0 ra 8 (by decide)
      have k_56 : TokOK I_49 x1 := k_45.fr (fr_52 _ (by first | omega | (dsimp only; omega))) (fr_52 _ (by first | omega | (dsimp only; omega)))
      exact (hp _ _ hR_51 hf_53 (by first | omega | (intro h; omega) | exact Or.inl rfl | exact Or.inr rfl) (by first | omega | (intro h; omega) | exact Or.inl rfl | exact Or.inr rfl))
    · have d_57 := iEq c_23
      have l_58 : (62 : Int32).toInt = 62 := rfl
      refine y_Tape_isSign hok hw1 ra1 hR_12 (fun r_59 u_60 u_61 => ⟨r_59, I_10, L_11, rfl, rfl, ?_⟩)
      have b_62 : 0 ≤ r_59.toInt ∧ r_59.toInt ≤ 1 := u_60.rg
      refine ⟨fun c_63 => ?_, fun c_63 => ?_⟩
      · have d_64 := iNe c_63
        unfold fReform_readOne_73
        refine y_Tape_value hok hw1 ra1 hR_12 (fun r_65 u_66 => ⟨r_65, I_10, L_11, rfl, rfl, ?_⟩)
        have sg := u_61 (by omega)
        have vq := iEq u_66
        have v_67 : (0 : Int) ≤ r_65.toInt ∧ r_65.toInt ≤ 127 := by omega
        refine y_Tape_step hok hw1 ra1 hR_12 (fun I_70 L_71 hR_72 fr_73 u_69 => ⟨I_70, L_71, rfl, rfl, ?_⟩)
        have hf_74 : Fm (fun c => (o ≤ c ∧ c < o + 5) ∨ c = x1) I0 I_70 := hf_14.call fr_73 (fun c hc => by first | exact hc | (dsimp only at hc ⊢; omega) | omega)
        have t_75 : (I_70 o 6).toInt = (I_10 o 6).toInt := by rw [fr_73 o (by first | omega | (dsimp only; omega))]
        have t_76 : (I_70 o 8).toInt = (I_10 o 8).toInt := by rw [fr_73 o (by first | omega | (dsimp only; omega))]
        have k_77 : TokOK I_70 x1 := k_17.fr (fr_73 _ (by first | omega | (dsimp only; omega))) (fr_73 _ (by first | omega | (dsimp only; omega)))
        refine cReform_readSum I_70 L_71 _ _ hR_72 k_77 (by omega) (by omega) (fun I_78 L_79 hR_80 fr_81 k6_83 k8_84 => ⟨I_78, L_79, rfl, rfl, ?_⟩)
        have hf_82 : Fm (fun c => (o ≤ c ∧ c < o + 5) ∨ c = x1) I0 I_78 := hf_74.call fr_81 (fun c hc => hc)
        have k_85 : TokOK I_78 x1 := k_77.fr (fr_81 _ (by first | omega | (dsimp only; omega))) (fr_81 _ (by first | omega | (dsimp only; omega)))
        refine y_Reform_emit hok hw ra (by first | omega | (intro h; omega) | exact Or.inl rfl | exact Or.inr rfl) hR_80 (fun I_89 L_90 hR_91 fr_92 u_87 u_88 => ⟨I_89, L_90, rfl, rfl, ?_⟩)
        have hf_93 : Fm (fun c => (o ≤ c ∧ c < o + 5) ∨ c = x1) I0 I_89 := hf_82.call fr_92 (fun c hc => by first | exact hc | (dsimp only at hc ⊢; omega) | omega)
        have g_94 : (0 : Int) ≤ (I_89 o 6).toInt ∧ (I_89 o 6).toInt ≤ 5 := hR_91.at0 ra 6 (by decide)
        have g_95 : (-1 : Int) ≤ (I_89 o 8).toInt ∧ (I_89 o 8).toInt ≤ 10 := hR_91.at0 ra 8 (by decide)
        have k_96 : TokOK I_89 x1 := k_85.fr (fr_92 _ (by first | omega | (dsimp only; omega))) (fr_92 _ (by first | omega | (dsimp only; omega)))
        exact (hp _ _ hR_91 hf_93 (by first | omega | (intro h; omega) | exact Or.inl rfl | exact Or.inr rfl) (by first | omega | (intro h; omega) | exact Or.inl rfl | exact Or.inr rfl))
      · have d_97 := iEq c_63
        have l_98 : (61 : Int32).toInt = 61 := rfl
        refine y_Tape_isSign hok hw1 ra1 hR_12 (fun r_99 u_100 u_101 => ⟨r_99, I_10, L_11, rfl, rfl, ?_⟩)
        have b_102 : 0 ≤ r_99.toInt ∧ r_99.toInt ≤ 1 := u_100.rg
        refine ⟨fun c_103 => ?_, fun c_103 => ?_⟩
        · have d_104 := iEq c_103
          exact (hp _ _ hR_12 hf_14 (by first | omega | (intro h; omega) | exact Or.inl rfl | exact Or.inr rfl) (by first | omega | (intro h; omega) | exact Or.inl rfl | exact Or.inr rfl))
        · have d_105 := iNe c_103
          unfold fReform_readOne_73
          refine y_Tape_value hok hw1 ra1 hR_12 (fun r_106 u_107 => ⟨r_106, I_10, L_11, rfl, rfl, ?_⟩)
          have sg := u_101 (by omega)
          have vq := iEq u_107
          have v_108 : (0 : Int) ≤ r_106.toInt ∧ r_106.toInt ≤ 127 := by omega
          refine y_Tape_step hok hw1 ra1 hR_12 (fun I_111 L_112 hR_113 fr_114 u_110 => ⟨I_111, L_112, rfl, rfl, ?_⟩)
          have hf_115 : Fm (fun c => (o ≤ c ∧ c < o + 5) ∨ c = x1) I0 I_111 := hf_14.call fr_114 (fun c hc => by first | exact hc | (dsimp only at hc ⊢; omega) | omega)
          have t_116 : (I_111 o 6).toInt = (I_10 o 6).toInt := by rw [fr_114 o (by first | omega | (dsimp only; omega))]
          have t_117 : (I_111 o 8).toInt = (I_10 o 8).toInt := by rw [fr_114 o (by first | omega | (dsimp only; omega))]
          have k_118 : TokOK I_111 x1 := k_17.fr (fr_114 _ (by first | omega | (dsimp only; omega))) (fr_114 _ (by first | omega | (dsimp only; omega)))
          refine cReform_readSum I_111 L_112 _ _ hR_113 k_118 (by omega) (by omega) (fun I_119 L_120 hR_121 fr_122 k6_124 k8_125 => ⟨I_119, L_120, rfl, rfl, ?_⟩)
          have hf_123 : Fm (fun c => (o ≤ c ∧ c < o + 5) ∨ c = x1) I0 I_119 := hf_115.call fr_122 (fun c hc => hc)
          have k_126 : TokOK I_119 x1 := k_118.fr (fr_122 _ (by first | omega | (dsimp only; omega))) (fr_122 _ (by first | omega | (dsimp only; omega)))
          refine y_Reform_emit hok hw ra (by first | omega | (intro h; omega) | exact Or.inl rfl | exact Or.inr rfl) hR_121 (fun I_130 L_131 hR_132 fr_133 u_128 u_129 => ⟨I_130, L_131, rfl, rfl, ?_⟩)
          have hf_134 : Fm (fun c => (o ≤ c ∧ c < o + 5) ∨ c = x1) I0 I_130 := hf_123.call fr_133 (fun c hc => by first | exact hc | (dsimp only at hc ⊢; omega) | omega)
          have g_135 : (0 : Int) ≤ (I_130 o 6).toInt ∧ (I_130 o 6).toInt ≤ 5 := hR_132.at0 ra 6 (by decide)
          have g_136 : (-1 : Int) ≤ (I_130 o 8).toInt ∧ (I_130 o 8).toInt ≤ 10 := hR_132.at0 ra 8 (by decide)
          have k_137 : TokOK I_130 x1 := k_126.fr (fr_133 _ (by first | omega | (dsimp only; omega))) (fr_133 _ (by first | omega | (dsimp only; omega)))
          exact (hp _ _ hR_132 hf_134 (by first | omega | (intro h; omega) | exact Or.inl rfl | exact Or.inr rfl) (by first | omega | (intro h; omega) | exact Or.inl rfl | exact Or.inr rfl))
  · have d_138 := iNe c_8
    have l_139 : (6 : Int32).toInt = 6 := rfl
    refine ⟨fun c_140 => ?_, fun c_140 => ?_⟩
    · have d_141 := iLe c_140
      refine y_Tape_step hok hw1 ra1 hR (fun I_144 L_145 hR_146 fr_147 u_143 => ⟨I_144, L_145, rfl, rfl, ?_⟩)
      have hf_148 : Fm (fun c => (o ≤ c ∧ c < o + 5) ∨ c = x1) I0 I_144 := hf.call fr_147 (fun c hc => by first | exact hc | (dsimp only at hc ⊢; omega) | omega)
      have t_149 : (I_144 o 6).toInt = (I0 o 6).toInt := by rw [fr_147 o (by first | omega | (dsimp only; omega))]
      have t_150 : (I_144 o 8).toInt = (I0 o 8).toInt := by rw [fr_147 o (by first | omega | (dsimp only; omega))]
      have k_151 : TokOK I_144 x1 := hq2.fr (fr_147 _ (by first | omega | (dsimp only; omega))) (fr_147 _ (by first | omega | (dsimp only; omega)))
      have l_152 : (1 : Int32).toInt = 1 := rfl
      have a_153 : (p2 + 1).toInt = p2.toInt + (1 : Int32).toInt := tAdd (by omega) (by omega)
      refine cReform_readOne I_144 L_145 _ _ hR_146 k_151 (by omega) (by omega) (fun I_154 L_155 hR_156 fr_157 k6_159 k8_160 => ⟨I_154, L_155, rfl, rfl, ?_⟩)
      have hf_158 : Fm (fun c => (o ≤ c ∧ c < o + 5) ∨ c = x1) I0 I_154 := hf_148.call fr_157 (fun c hc => hc)
      have k_161 : TokOK I_154 x1 := k_151.fr (fr_157 _ (by first | omega | (dsimp only; omega))) (fr_157 _ (by first | omega | (dsimp only; omega)))
      refine y_Reform_emit hok hw ra (by first | omega | (intro h; omega) | exact Or.inl rfl | exact Or.inr rfl) hR_156 (fun I_165 L_166 hR_167 fr_168 u_163 u_164 => ⟨I_165, L_166, rfl, rfl, ?_⟩)
      have hf_169 : Fm (fun c => (o ≤ c ∧ c < o + 5) ∨ c = x1) I0 I_165 := hf_158.call fr_168 (fun c hc => by first | exact hc | (dsimp only at hc ⊢; omega) | omega)
      have g_170 : (0 : Int) ≤ (I_165 o 6).toInt ∧ (I_165 o 6).toInt ≤ 5 := hR_167.at0 ra 6 (by decide)
      have g_171 : (-1 : Int) ≤ (I_165 o 8).toInt ∧ (I_165 o 8).toInt ≤ 10 := hR_167.at0 ra 8 (by decide)
      have k_172 : TokOK I_165 x1 := k_161.fr (fr_168 _ (by first | omega | (dsimp only; omega))) (fr_168 _ (by first | omega | (dsimp only; omega)))
      exact (hp _ _ hR_167 hf_169 (by first | omega | (intro h; omega) | exact Or.inl rfl | exact Or.inr rfl) (by first | omega | (intro h; omega) | exact Or.inl rfl | exact Or.inr rfl))
    · have d_173 := iNle c_140
      have l_174 : (2 : Int32).toInt = 2 := rfl
      refine y_Tape_refuse hok hw1 ra1 (by first | omega | (intro h; omega) | exact Or.inl rfl | exact Or.inr rfl) hR (fun I_178 L_179 hR_180 fr_181 u_176 u_177 => ⟨I_178, L_179, rfl, rfl, ?_⟩)
      have hf_182 : Fm (fun c => (o ≤ c ∧ c < o + 5) ∨ c = x1) I0 I_178 := hf.call fr_181 (fun c hc => by first | exact hc | (dsimp only at hc ⊢; omega) | omega)
      have t_183 : (I_178 o 6).toInt = (I0 o 6).toInt := by rw [fr_181 o (by first | omega | (dsimp only; omega))]
      have t_184 : (I_178 o 8).toInt = (I0 o 8).toInt := by rw [fr_181 o (by first | omega | (dsimp only; omega))]
      have k_185 : TokOK I_178 x1 := hq2.fr (fr_181 _ (by first | omega | (dsimp only; omega))) (fr_181 _ (by first | omega | (dsimp only; omega)))
      exact (hp _ _ hR_180 hf_182 (by first | omega | (intro h; omega) | exact Or.inl rfl | exact Or.inr rfl) (by first | omega | (intro h; omega) | exact Or.inl rfl | exact Or.inr rfl))
set_option maxHeartbeats 4000000 in
set_option maxRecDepth 20000 in
theorem yReform_readSum_8 {D : va_G} {cA : FieldType → ClassId} {b : Nat} {E : State → Prop} {R : qRg} {o n : Nat} {sh : Nat → qC} {Rf : Nat → Nat → Option Nat} {I0 : Nat → Nat → Int32} {L0 : Nat → Nat → Int64} {post : Option Value → qS → Prop} {x1 : Nat} {p2 : Int32} (hok : q_ok (qGG D cA b E)) (hw : WfReform (qGG D cA b E) n sh Rf o) (ra : RAReform R o) (hw1 : WfTape (qGG D cA b E) n sh Rf x1) (ra1 : RATape R x1) {d : Nat} {lo : Int} (hd0 : 5 ≤ d) (cReform_readTerm : ∀ (J : Nat → Nat → Int32) (K : Nat → Nat → Int64) (post : Option Value → qS → Prop) (q : Int32), RI R J → TokOK J x1 → lo ≤ q.toInt → q.toInt ≤ 7 → (∀ I' L', RI R I' → Fm (fun c => (o ≤ c ∧ c < o + 5) ∨ c = x1) J I' → (I' o 6).toInt = (J o 6).toInt → (I' o 8).toInt = (J o 8).toInt → post none (n, sh, Rf, I', L')) → Ev (qGG D cA b E) mReform_readTerm d (0, 0) 0 (lv_args 0 [.ref o, .ref x1, .int q]) [] (n, sh, Rf, J, K) post) (hs0 : o + 5 ≤ x1 ∨ x1 + 7 ≤ o) (hs1 : 0 ≤ lo) (hq0 : lo ≤ p2.toInt) (hq1 : p2.toInt ≤ 7) (hq2 : TokOK I0 x1) (hp : ∀ (I' : Nat → Nat → Int32) (L' : Nat → Nat → Int64), RI R I' → Fm (fun c => (o ≤ c ∧ c < o + 5) ∨ c = x1) I0 I' → ((I' o 6).toInt = (I0 o 6).toInt) → ((I' o 8).toInt = (I0 o 8).toInt) → post none (n, sh, Rf, I', L')) : ∀ (k : Nat) {x2 : Int32} {x3 : Int32} {I : Nat → Nat → Int32} {L : Nat → Nat → Int64}, RI R I → Fm (fun c => (o ≤ c ∧ c < o + 5) ∨ c = x1) I0 I → ((0 : Int) ≤ x3.toInt ∧ x3.toInt ≤ 700) → ((I o 6).toInt = (I0 o 6).toInt) → ((I o 8).toInt = (I0 o 8).toInt) → (x2 = p2) → (TokOK I x1) → (700 - x3.toInt).toNat < k → Ev (qGG D cA b E) mReform_readSum (d + 1) (0, 0) 8 [(0, .ref o), (1, .ref x1), (2, .int x2), (3, .int x3)] [] (n, sh, Rf, I, L) post := by
  intro k
  induction k with
  | zero =>
    intro x2 x3 I L hR hf hi0 hi1 hi2 hi3 hi4 hm
    exact absurd hm (Nat.not_lt_zero _)
  | succ k ih =>
    intro x2 x3 I L hR hf hi0 hi1 hi2 hi3 hi4 hm
    have hz0 := hi3.symm
    subst hz0
    have g_1 : (0 : Int) ≤ (I o 6).toInt ∧ (I o 6).toInt ≤ 5 := hR.at0 ra 6 (by decide)
    have g_2 : (-1 : Int) ≤ (I o 8).toInt ∧ (I o 8).toInt ≤ 10 := hR.at0 ra 8 (by decide)
    refine sReform_readSum_8 o n sh Rf I L post x1 p2 x3 d hok hw hw1 hd0 ?_
    unfold fReform_readSum_8
    have l_3 : (700 : Int32).toInt = 700 := rfl
    refine ⟨fun c_4 => ?_, fun c_4 => ?_⟩
    · have d_5 := iLe c_4
      exact (hp _ _ hR hf (by first | omega | (intro h; omega) | exact Or.inl rfl | exact Or.inr rfl) (by first | omega | (intro h; omega) | exact Or.inl rfl | exact Or.inr rfl))
    · have d_6 := iNle c_4
      have l_7 : (43 : Int32).toInt = 43 := rfl
      refine y_Tape_isSign hok hw1 ra1 hR (fun r_8 u_9 u_10 => ⟨r_8, I, L, rfl, rfl, ?_⟩)
      have b_11 : 0 ≤ r_8.toInt ∧ r_8.toInt ≤ 1 := u_9.rg
      have l_12 : (0 : Int32).toInt = 0 := rfl
      refine ⟨fun c_13 => ?_, fun c_13 => ?_⟩
      · have d_14 := iNe c_13
        unfold fReform_readSum_33
        refine y_Tape_value hok hw1 ra1 hR (fun r_15 u_16 => ⟨r_15, I, L, rfl, rfl, ?_⟩)
        have sg := u_10 (by omega)
        have vq := iEq u_16
        have v_17 : (0 : Int) ≤ r_15.toInt ∧ r_15.toInt ≤ 127 := by omega
        refine y_Tape_step hok hw1 ra1 hR (fun I_20 L_21 hR_22 fr_23 u_19 => ⟨I_20, L_21, rfl, rfl, ?_⟩)
        have hf_24 : Fm (fun c => (o ≤ c ∧ c < o + 5) ∨ c = x1) I0 I_20 := hf.call fr_23 (fun c hc => by first | exact hc | (dsimp only at hc ⊢; omega) | omega)
        have t_25 : (I_20 o 6).toInt = (I o 6).toInt := by rw [fr_23 o (by first | omega | (dsimp only; omega))]
        have t_26 : (I_20 o 8).toInt = (I o 8).toInt := by rw [fr_23 o (by first | omega | (dsimp only; omega))]
        have k_27 : TokOK I_20 x1 := hi4.fr (fr_23 _ (by first | omega | (dsimp only; omega))) (fr_23 _ (by first | omega | (dsimp only; omega)))
        refine cReform_readTerm I_20 L_21 _ _ hR_22 k_27 (by omega) (by omega) (fun I_28 L_29 hR_30 fr_31 k6_33 k8_34 => ⟨I_28, L_29, rfl, rfl, ?_⟩)
        have hf_32 : Fm (fun c => (o ≤ c ∧ c < o + 5) ∨ c = x1) I0 I_28 := hf_24.call fr_31 (fun c hc => hc)
        have k_35 : TokOK I_28 x1 := k_27.fr (fr_31 _ (by first | omega | (dsimp only; omega))) (fr_31 _ (by first | omega | (dsimp only; omega)))
        refine y_Reform_emit hok hw ra (by first | omega | (intro h; omega) | exact Or.inl rfl | exact Or.inr rfl) hR_30 (fun I_39 L_40 hR_41 fr_42 u_37 u_38 => ⟨I_39, L_40, rfl, rfl, ?_⟩)
        have hf_43 : Fm (fun c => (o ≤ c ∧ c < o + 5) ∨ c = x1) I0 I_39 := hf_32.call fr_42 (fun c hc => by first | exact hc | (dsimp only at hc ⊢; omega) | omega)
        have g_44 : (0 : Int) ≤ (I_39 o 6).toInt ∧ (I_39 o 6).toInt ≤ 5 := hR_41.at0 ra 6 (by decide)
        have g_45 : (-1 : Int) ≤ (I_39 o 8).toInt ∧ (I_39 o 8).toInt ≤ 10 := hR_41.at0 ra 8 (by decide)
        have k_46 : TokOK I_39 x1 := k_35.fr (fr_42 _ (by first | omega | (dsimp only; omega))) (fr_42 _ (by first | omega | (dsimp only; omega)))
        have a_48 : (x3 + Int32.ofInt 1).toInt = x3.toInt + (1) := tIc (by omega) (by omega) (by decide) (by decide)
        generalize ez_47 : (x3 + Int32.ofInt 1) = z_47 at a_48 ⊢
        exact ih hR_41 hf_43 (by first | omega | (intro h; omega) | exact Or.inl rfl | exact Or.inr rfl) (by first | omega | (intro h; omega) | exact Or.inl rfl | exact Or.inr rfl) (by first | omega | (intro h; omega) | exact Or.inl rfl | exact Or.inr rfl) rfl k_46 (by omega)
      · have d_49 := iEq c_13
        have l_50 : (45 : Int32).toInt = 45 := rfl
        refine y_Tape_isSign hok hw1 ra1 hR (fun r_51 u_52 u_53 => ⟨r_51, I, L, rfl, rfl, ?_⟩)
        have b_54 : 0 ≤ r_51.toInt ∧ r_51.toInt ≤ 1 := u_52.rg
        refine ⟨fun c_55 => ?_, fun c_55 => ?_⟩
        · have d_56 := iEq c_55
          exact (hp _ _ hR hf (by first | omega | (intro h; omega) | exact Or.inl rfl | exact Or.inr rfl) (by first | omega | (intro h; omega) | exact Or.inl rfl | exact Or.inr rfl))
        · have d_57 := iNe c_55
          unfold fReform_readSum_33
          refine y_Tape_value hok hw1 ra1 hR (fun r_58 u_59 => ⟨r_58, I, L, rfl, rfl, ?_⟩)
          have sg := u_53 (by omega)
          have vq := iEq u_59
          have v_60 : (0 : Int) ≤ r_58.toInt ∧ r_58.toInt ≤ 127 := by omega
          refine y_Tape_step hok hw1 ra1 hR (fun I_63 L_64 hR_65 fr_66 u_62 => ⟨I_63, L_64, rfl, rfl, ?_⟩)
          have hf_67 : Fm (fun c => (o ≤ c ∧ c < o + 5) ∨ c = x1) I0 I_63 := hf.call fr_66 (fun c hc => by first | exact hc | (dsimp only at hc ⊢; omega) | omega)
          have t_68 : (I_63 o 6).toInt = (I o 6).toInt := by rw [fr_66 o (by first | omega | (dsimp only; omega))]
          have t_69 : (I_63 o 8).toInt = (I o 8).toInt := by rw [fr_66 o (by first | omega | (dsimp only; omega))]
          have k_70 : TokOK I_63 x1 := hi4.fr (fr_66 _ (by first | omega | (dsimp only; omega))) (fr_66 _ (by first | omega | (dsimp only; omega)))
          refine cReform_readTerm I_63 L_64 _ _ hR_65 k_70 (by omega) (by omega) (fun I_71 L_72 hR_73 fr_74 k6_76 k8_77 => ⟨I_71, L_72, rfl, rfl, ?_⟩)
          have hf_75 : Fm (fun c => (o ≤ c ∧ c < o + 5) ∨ c = x1) I0 I_71 := hf_67.call fr_74 (fun c hc => hc)
          have k_78 : TokOK I_71 x1 := k_70.fr (fr_74 _ (by first | omega | (dsimp only; omega))) (fr_74 _ (by first | omega | (dsimp only; omega)))
          refine y_Reform_emit hok hw ra (by first | omega | (intro h; omega) | exact Or.inl rfl | exact Or.inr rfl) hR_73 (fun I_82 L_83 hR_84 fr_85 u_80 u_81 => ⟨I_82, L_83, rfl, rfl, ?_⟩)
          have hf_86 : Fm (fun c => (o ≤ c ∧ c < o + 5) ∨ c = x1) I0 I_82 := hf_75.call fr_85 (fun c hc => by first | exact hc | (dsimp only at hc ⊢; omega) | omega)
          have g_87 : (0 : Int) ≤ (I_82 o 6).toInt ∧ (I_82 o 6).toInt ≤ 5 := hR_84.at0 ra 6 (by decide)
          have g_88 : (-1 : Int) ≤ (I_82 o 8).toInt ∧ (I_82 o 8).toInt ≤ 10 := hR_84.at0 ra 8 (by decide)
          have k_89 : TokOK I_82 x1 := k_78.fr (fr_85 _ (by first | omega | (dsimp only; omega))) (fr_85 _ (by first | omega | (dsimp only; omega)))
          have a_91 : (x3 + Int32.ofInt 1).toInt = x3.toInt + (1) := tIc (by omega) (by omega) (by decide) (by decide)
          generalize ez_90 : (x3 + Int32.ofInt 1) = z_90 at a_91 ⊢
          exact ih hR_84 hf_86 (by first | omega | (intro h; omega) | exact Or.inl rfl | exact Or.inr rfl) (by first | omega | (intro h; omega) | exact Or.inl rfl | exact Or.inr rfl) (by first | omega | (intro h; omega) | exact Or.inl rfl | exact Or.inr rfl) rfl k_89 (by omega)
set_option maxHeartbeats 4000000 in
set_option maxRecDepth 20000 in
theorem y_Reform_readSum {D : va_G} {cA : FieldType → ClassId} {b : Nat} {E : State → Prop} {R : qRg} {o n : Nat} {sh : Nat → qC} {Rf : Nat → Nat → Option Nat} {I0 : Nat → Nat → Int32} {L0 : Nat → Nat → Int64} {post : Option Value → qS → Prop} {x1 : Nat} {p2 : Int32} (hok : q_ok (qGG D cA b E)) (hw : WfReform (qGG D cA b E) n sh Rf o) (ra : RAReform R o) (hw1 : WfTape (qGG D cA b E) n sh Rf x1) (ra1 : RATape R x1) {d : Nat} {lo : Int} (hd0 : 5 ≤ d) (cReform_readTerm : ∀ (J : Nat → Nat → Int32) (K : Nat → Nat → Int64) (post : Option Value → qS → Prop) (q : Int32), RI R J → TokOK J x1 → lo ≤ q.toInt → q.toInt ≤ 7 → (∀ I' L', RI R I' → Fm (fun c => (o ≤ c ∧ c < o + 5) ∨ c = x1) J I' → (I' o 6).toInt = (J o 6).toInt → (I' o 8).toInt = (J o 8).toInt → post none (n, sh, Rf, I', L')) → Ev (qGG D cA b E) mReform_readTerm d (0, 0) 0 (lv_args 0 [.ref o, .ref x1, .int q]) [] (n, sh, Rf, J, K) post) (hs0 : o + 5 ≤ x1 ∨ x1 + 7 ≤ o) (hs1 : 0 ≤ lo) (hq0 : lo ≤ p2.toInt) (hq1 : p2.toInt ≤ 7) (hq2 : TokOK I0 x1) (hR : RI R I0) (hp : ∀ (I' : Nat → Nat → Int32) (L' : Nat → Nat → Int64), RI R I' → Fm (fun c => (o ≤ c ∧ c < o + 5) ∨ c = x1) I0 I' → ((I' o 6).toInt = (I0 o 6).toInt) → ((I' o 8).toInt = (I0 o 8).toInt) → post none (n, sh, Rf, I', L')) : Ev (qGG D cA b E) mReform_readSum (d + 1) (0, 0) 0 (lv_args 0 [.ref o, .ref x1, .int p2]) [] (n, sh, Rf, I0, L0) post := by
  have hf : Fm (fun c => (o ≤ c ∧ c < o + 5) ∨ c = x1) I0 I0 := Fm.rf
  have g_92 : (0 : Int) ≤ (I0 o 6).toInt ∧ (I0 o 6).toInt ≤ 5 := hR.at0 ra 6 (by decide)
  have g_93 : (-1 : Int) ≤ (I0 o 8).toInt ∧ (I0 o 8).toInt ≤ 10 := hR.at0 ra 8 (by decide)
  refine sReform_readSum_0 o n sh Rf I0 L0 post x1 p2 d hok hw hw1 hd0 ?_
  unfold fReform_readSum_0
  refine cReform_readTerm I0 L0 _ _ hR hq2 (by omega) (by omega) (fun I_94 L_95 hR_96 fr_97 k6_99 k8_100 => ⟨I_94, L_95, rfl, rfl, ?_⟩)
  have hf_98 : Fm (fun c => (o ≤ c ∧ c < o + 5) ∨ c = x1) I0 I_94 := hf.call fr_97 (fun c hc => hc)
  have k_101 : TokOK I_94 x1 := hq2.fr (fr_97 _ (by first | omega | (dsimp only; omega))) (fr_97 _ (by first | omega | (dsimp only; omega)))
  have l_102 : (0 : Int32).toInt = 0 := rfl
  exact yReform_readSum_8 (I0 := I0) (L0 := L0) (p2 := p2) hok hw ra hw1 ra1 hd0 cReform_readTerm hs0 hs1 hq0 hq1 hq2 hp  _ hR_96 hf_98 (by first | omega | (intro h; omega) | exact Or.inl rfl | exact Or.inr rfl) (by first | omega | (intro h; omega) | exact Or.inl rfl | exact Or.inr rfl) (by first | omega | (intro h; omega) | exact Or.inl rfl | exact Or.inr rfl) rfl k_101 (Nat.lt_succ_self _)
set_option maxHeartbeats 4000000 in
set_option maxRecDepth 20000 in
theorem yReform_readTerm_8 {D : va_G} {cA : FieldType → ClassId} {b : Nat} {E : State → Prop} {R : qRg} {o n : Nat} {sh : Nat → qC} {Rf : Nat → Nat → Option Nat} {I0 : Nat → Nat → Int32} {L0 : Nat → Nat → Int64} {post : Option Value → qS → Prop} {x1 : Nat} {p2 : Int32} (hok : q_ok (qGG D cA b E)) (hw : WfReform (qGG D cA b E) n sh Rf o) (ra : RAReform R o) (hw1 : WfTape (qGG D cA b E) n sh Rf x1) (ra1 : RATape R x1) {d : Nat} {lo : Int} (hd0 : 5 ≤ d) (cReform_readUnit : ∀ (J : Nat → Nat → Int32) (K : Nat → Nat → Int64) (post : Option Value → qS → Prop) (q : Int32), RI R J → TokOK J x1 → lo ≤ q.toInt → q.toInt ≤ 7 → (∀ I' L', RI R I' → Fm (fun c => (o ≤ c ∧ c < o + 5) ∨ c = x1) J I' → (I' o 6).toInt = (J o 6).toInt → (I' o 8).toInt = (J o 8).toInt → post none (n, sh, Rf, I', L')) → Ev (qGG D cA b E) mReform_readUnit d (0, 0) 0 (lv_args 0 [.ref o, .ref x1, .int q]) [] (n, sh, Rf, J, K) post) (hs0 : o + 5 ≤ x1 ∨ x1 + 7 ≤ o) (hs1 : 0 ≤ lo) (hq0 : lo ≤ p2.toInt) (hq1 : p2.toInt ≤ 7) (hq2 : TokOK I0 x1) (hp : ∀ (I' : Nat → Nat → Int32) (L' : Nat → Nat → Int64), RI R I' → Fm (fun c => (o ≤ c ∧ c < o + 5) ∨ c = x1) I0 I' → ((I' o 6).toInt = (I0 o 6).toInt) → ((I' o 8).toInt = (I0 o 8).toInt) → post none (n, sh, Rf, I', L')) : ∀ (k : Nat) {x2 : Int32} {x3 : Int32} {I : Nat → Nat → Int32} {L : Nat → Nat → Int64}, RI R I → Fm (fun c => (o ≤ c ∧ c < o + 5) ∨ c = x1) I0 I → ((0 : Int) ≤ x3.toInt ∧ x3.toInt ≤ 700) → ((I o 6).toInt = (I0 o 6).toInt) → ((I o 8).toInt = (I0 o 8).toInt) → (x2 = p2) → (TokOK I x1) → (700 - x3.toInt).toNat < k → Ev (qGG D cA b E) mReform_readTerm (d + 1) (0, 0) 8 [(0, .ref o), (1, .ref x1), (2, .int x2), (3, .int x3)] [] (n, sh, Rf, I, L) post := by
  intro k
  induction k with
  | zero =>
    intro x2 x3 I L hR hf hi0 hi1 hi2 hi3 hi4 hm
    exact absurd hm (Nat.not_lt_zero _)
  | succ k ih =>
    intro x2 x3 I L hR hf hi0 hi1 hi2 hi3 hi4 hm
    have hz0 := hi3.symm
    subst hz0
    have g_1 : (0 : Int) ≤ (I o 6).toInt ∧ (I o 6).toInt ≤ 5 := hR.at0 ra 6 (by decide)
    have g_2 : (-1 : Int) ≤ (I o 8).toInt ∧ (I o 8).toInt ≤ 10 := hR.at0 ra 8 (by decide)
    refine sReform_readTerm_8 o n sh Rf I L post x1 p2 x3 d hok hw hw1 hd0 ?_
    unfold fReform_readTerm_8
    have l_3 : (700 : Int32).toInt = 700 := rfl
    refine ⟨fun c_4 => ?_, fun c_4 => ?_⟩
    · have d_5 := iLe c_4
      exact (hp _ _ hR hf (by first | omega | (intro h; omega) | exact Or.inl rfl | exact Or.inr rfl) (by first | omega | (intro h; omega) | exact Or.inl rfl | exact Or.inr rfl))
    · have d_6 := iNle c_4
      have l_7 : (42 : Int32).toInt = 42 := rfl
      refine y_Tape_isSign hok hw1 ra1 hR (fun r_8 u_9 u_10 => ⟨r_8, I, L, rfl, rfl, ?_⟩)
      have b_11 : 0 ≤ r_8.toInt ∧ r_8.toInt ≤ 1 := u_9.rg
      have l_12 : (0 : Int32).toInt = 0 := rfl
      refine ⟨fun c_13 => ?_, fun c_13 => ?_⟩
      · have d_14 := iNe c_13
        unfold fReform_readTerm_33
        refine y_Tape_value hok hw1 ra1 hR (fun r_15 u_16 => ⟨r_15, I, L, rfl, rfl, ?_⟩)
        have sg := u_10 (by omega)
        have vq := iEq u_16
        have v_17 : (0 : Int) ≤ r_15.toInt ∧ r_15.toInt ≤ 127 := by omega
        refine y_Tape_step hok hw1 ra1 hR (fun I_20 L_21 hR_22 fr_23 u_19 => ⟨I_20, L_21, rfl, rfl, ?_⟩)
        have hf_24 : Fm (fun c => (o ≤ c ∧ c < o + 5) ∨ c = x1) I0 I_20 := hf.call fr_23 (fun c hc => by first | exact hc | (dsimp only at hc ⊢; omega) | omega)
        have t_25 : (I_20 o 6).toInt = (I o 6).toInt := by rw [fr_23 o (by first | omega | (dsimp only; omega))]
        have t_26 : (I_20 o 8).toInt = (I o 8).toInt := by rw [fr_23 o (by first | omega | (dsimp only; omega))]
        have k_27 : TokOK I_20 x1 := hi4.fr (fr_23 _ (by first | omega | (dsimp only; omega))) (fr_23 _ (by first | omega | (dsimp only; omega)))
        refine cReform_readUnit I_20 L_21 _ _ hR_22 k_27 (by omega) (by omega) (fun I_28 L_29 hR_30 fr_31 k6_33 k8_34 => ⟨I_28, L_29, rfl, rfl, ?_⟩)
        have hf_32 : Fm (fun c => (o ≤ c ∧ c < o + 5) ∨ c = x1) I0 I_28 := hf_24.call fr_31 (fun c hc => hc)
        have k_35 : TokOK I_28 x1 := k_27.fr (fr_31 _ (by first | omega | (dsimp only; omega))) (fr_31 _ (by first | omega | (dsimp only; omega)))
        refine y_Reform_emit hok hw ra (by first | omega | (intro h; omega) | exact Or.inl rfl | exact Or.inr rfl) hR_30 (fun I_39 L_40 hR_41 fr_42 u_37 u_38 => ⟨I_39, L_40, rfl, rfl, ?_⟩)
        have hf_43 : Fm (fun c => (o ≤ c ∧ c < o + 5) ∨ c = x1) I0 I_39 := hf_32.call fr_42 (fun c hc => by first | exact hc | (dsimp only at hc ⊢; omega) | omega)
        have g_44 : (0 : Int) ≤ (I_39 o 6).toInt ∧ (I_39 o 6).toInt ≤ 5 := hR_41.at0 ra 6 (by decide)
        have g_45 : (-1 : Int) ≤ (I_39 o 8).toInt ∧ (I_39 o 8).toInt ≤ 10 := hR_41.at0 ra 8 (by decide)
        have k_46 : TokOK I_39 x1 := k_35.fr (fr_42 _ (by first | omega | (dsimp only; omega))) (fr_42 _ (by first | omega | (dsimp only; omega)))
        have a_48 : (x3 + Int32.ofInt 1).toInt = x3.toInt + (1) := tIc (by omega) (by omega) (by decide) (by decide)
        generalize ez_47 : (x3 + Int32.ofInt 1) = z_47 at a_48 ⊢
        exact ih hR_41 hf_43 (by first | omega | (intro h; omega) | exact Or.inl rfl | exact Or.inr rfl) (by first | omega | (intro h; omega) | exact Or.inl rfl | exact Or.inr rfl) (by first | omega | (intro h; omega) | exact Or.inl rfl | exact Or.inr rfl) rfl k_46 (by omega)
      · have d_49 := iEq c_13
        have l_50 : (47 : Int32).toInt = 47 := rfl
        refine y_Tape_isSign hok hw1 ra1 hR (fun r_51 u_52 u_53 => ⟨r_51, I, L, rfl, rfl, ?_⟩)
        have b_54 : 0 ≤ r_51.toInt ∧ r_51.toInt ≤ 1 := u_52.rg
        refine ⟨fun c_55 => ?_, fun c_55 => ?_⟩
        · have d_56 := iEq c_55
          exact (hp _ _ hR hf (by first | omega | (intro h; omega) | exact Or.inl rfl | exact Or.inr rfl) (by first | omega | (intro h; omega) | exact Or.inl rfl | exact Or.inr rfl))
        · have d_57 := iNe c_55
          unfold fReform_readTerm_33
          refine y_Tape_value hok hw1 ra1 hR (fun r_58 u_59 => ⟨r_58, I, L, rfl, rfl, ?_⟩)
          have sg := u_53 (by omega)
          have vq := iEq u_59
          have v_60 : (0 : Int) ≤ r_58.toInt ∧ r_58.toInt ≤ 127 := by omega
          refine y_Tape_step hok hw1 ra1 hR (fun I_63 L_64 hR_65 fr_66 u_62 => ⟨I_63, L_64, rfl, rfl, ?_⟩)
          have hf_67 : Fm (fun c => (o ≤ c ∧ c < o + 5) ∨ c = x1) I0 I_63 := hf.call fr_66 (fun c hc => by first | exact hc | (dsimp only at hc ⊢; omega) | omega)
          have t_68 : (I_63 o 6).toInt = (I o 6).toInt := by rw [fr_66 o (by first | omega | (dsimp only; omega))]
          have t_69 : (I_63 o 8).toInt = (I o 8).toInt := by rw [fr_66 o (by first | omega | (dsimp only; omega))]
          have k_70 : TokOK I_63 x1 := hi4.fr (fr_66 _ (by first | omega | (dsimp only; omega))) (fr_66 _ (by first | omega | (dsimp only; omega)))
          refine cReform_readUnit I_63 L_64 _ _ hR_65 k_70 (by omega) (by omega) (fun I_71 L_72 hR_73 fr_74 k6_76 k8_77 => ⟨I_71, L_72, rfl, rfl, ?_⟩)
          have hf_75 : Fm (fun c => (o ≤ c ∧ c < o + 5) ∨ c = x1) I0 I_71 := hf_67.call fr_74 (fun c hc => hc)
          have k_78 : TokOK I_71 x1 := k_70.fr (fr_74 _ (by first | omega | (dsimp only; omega))) (fr_74 _ (by first | omega | (dsimp only; omega)))
          refine y_Reform_emit hok hw ra (by first | omega | (intro h; omega) | exact Or.inl rfl | exact Or.inr rfl) hR_73 (fun I_82 L_83 hR_84 fr_85 u_80 u_81 => ⟨I_82, L_83, rfl, rfl, ?_⟩)
          have hf_86 : Fm (fun c => (o ≤ c ∧ c < o + 5) ∨ c = x1) I0 I_82 := hf_75.call fr_85 (fun c hc => by first | exact hc | (dsimp only at hc ⊢; omega) | omega)
          have g_87 : (0 : Int) ≤ (I_82 o 6).toInt ∧ (I_82 o 6).toInt ≤ 5 := hR_84.at0 ra 6 (by decide)
          have g_88 : (-1 : Int) ≤ (I_82 o 8).toInt ∧ (I_82 o 8).toInt ≤ 10 := hR_84.at0 ra 8 (by decide)
          have k_89 : TokOK I_82 x1 := k_78.fr (fr_85 _ (by first | omega | (dsimp only; omega))) (fr_85 _ (by first | omega | (dsimp only; omega)))
          have a_91 : (x3 + Int32.ofInt 1).toInt = x3.toInt + (1) := tIc (by omega) (by omega) (by decide) (by decide)
          generalize ez_90 : (x3 + Int32.ofInt 1) = z_90 at a_91 ⊢
          exact ih hR_84 hf_86 (by first | omega | (intro h; omega) | exact Or.inl rfl | exact Or.inr rfl) (by first | omega | (intro h; omega) | exact Or.inl rfl | exact Or.inr rfl) (by first | omega | (intro h; omega) | exact Or.inl rfl | exact Or.inr rfl) rfl k_89 (by omega)
set_option maxHeartbeats 4000000 in
set_option maxRecDepth 20000 in
theorem y_Reform_readTerm {D : va_G} {cA : FieldType → ClassId} {b : Nat} {E : State → Prop} {R : qRg} {o n : Nat} {sh : Nat → qC} {Rf : Nat → Nat → Option Nat} {I0 : Nat → Nat → Int32} {L0 : Nat → Nat → Int64} {post : Option Value → qS → Prop} {x1 : Nat} {p2 : Int32} (hok : q_ok (qGG D cA b E)) (hw : WfReform (qGG D cA b E) n sh Rf o) (ra : RAReform R o) (hw1 : WfTape (qGG D cA b E) n sh Rf x1) (ra1 : RATape R x1) {d : Nat} {lo : Int} (hd0 : 5 ≤ d) (cReform_readUnit : ∀ (J : Nat → Nat → Int32) (K : Nat → Nat → Int64) (post : Option Value → qS → Prop) (q : Int32), RI R J → TokOK J x1 → lo ≤ q.toInt → q.toInt ≤ 7 → (∀ I' L', RI R I' → Fm (fun c => (o ≤ c ∧ c < o + 5) ∨ c = x1) J I' → (I' o 6).toInt = (J o 6).toInt → (I' o 8).toInt = (J o 8).toInt → post none (n, sh, Rf, I', L')) → Ev (qGG D cA b E) mReform_readUnit d (0, 0) 0 (lv_args 0 [.ref o, .ref x1, .int q]) [] (n, sh, Rf, J, K) post) (hs0 : o + 5 ≤ x1 ∨ x1 + 7 ≤ o) (hs1 : 0 ≤ lo) (hq0 : lo ≤ p2.toInt) (hq1 : p2.toInt ≤ 7) (hq2 : TokOK I0 x1) (hR : RI R I0) (hp : ∀ (I' : Nat → Nat → Int32) (L' : Nat → Nat → Int64), RI R I' → Fm (fun c => (o ≤ c ∧ c < o + 5) ∨ c = x1) I0 I' → ((I' o 6).toInt = (I0 o 6).toInt) → ((I' o 8).toInt = (I0 o 8).toInt) → post none (n, sh, Rf, I', L')) : Ev (qGG D cA b E) mReform_readTerm (d + 1) (0, 0) 0 (lv_args 0 [.ref o, .ref x1, .int p2]) [] (n, sh, Rf, I0, L0) post := by
  have hf : Fm (fun c => (o ≤ c ∧ c < o + 5) ∨ c = x1) I0 I0 := Fm.rf
  have g_92 : (0 : Int) ≤ (I0 o 6).toInt ∧ (I0 o 6).toInt ≤ 5 := hR.at0 ra 6 (by decide)
  have g_93 : (-1 : Int) ≤ (I0 o 8).toInt ∧ (I0 o 8).toInt ≤ 10 := hR.at0 ra 8 (by decide)
  refine sReform_readTerm_0 o n sh Rf I0 L0 post x1 p2 d hok hw hw1 hd0 ?_
  unfold fReform_readTerm_0
  refine cReform_readUnit I0 L0 _ _ hR hq2 (by omega) (by omega) (fun I_94 L_95 hR_96 fr_97 k6_99 k8_100 => ⟨I_94, L_95, rfl, rfl, ?_⟩)
  have hf_98 : Fm (fun c => (o ≤ c ∧ c < o + 5) ∨ c = x1) I0 I_94 := hf.call fr_97 (fun c hc => hc)
  have k_101 : TokOK I_94 x1 := hq2.fr (fr_97 _ (by first | omega | (dsimp only; omega))) (fr_97 _ (by first | omega | (dsimp only; omega)))
  have l_102 : (0 : Int32).toInt = 0 := rfl
  exact yReform_readTerm_8 (I0 := I0) (L0 := L0) (p2 := p2) hok hw ra hw1 ra1 hd0 cReform_readUnit hs0 hs1 hq0 hq1 hq2 hp  _ hR_96 hf_98 (by first | omega | (intro h; omega) | exact Or.inl rfl | exact Or.inr rfl) (by first | omega | (intro h; omega) | exact Or.inl rfl | exact Or.inr rfl) (by first | omega | (intro h; omega) | exact Or.inl rfl | exact Or.inr rfl) rfl k_101 (Nat.lt_succ_self _)
set_option maxHeartbeats 4000000 in
set_option maxRecDepth 20000 in
theorem y_Reform_readUnit {D : va_G} {cA : FieldType → ClassId} {b : Nat} {E : State → Prop} {R : qRg} {o n : Nat} {sh : Nat → qC} {Rf : Nat → Nat → Option Nat} {I0 : Nat → Nat → Int32} {L0 : Nat → Nat → Int64} {post : Option Value → qS → Prop} {x1 : Nat} {p2 : Int32} (hok : q_ok (qGG D cA b E)) (hw : WfReform (qGG D cA b E) n sh Rf o) (ra : RAReform R o) (hw1 : WfTape (qGG D cA b E) n sh Rf x1) (ra1 : RATape R x1) {d : Nat} {lo : Int} (hd0 : 5 ≤ d) (cReform_readEither : ∀ (J : Nat → Nat → Int32) (K : Nat → Nat → Int64) (post : Option Value → qS → Prop) (q : Int32), RI R J → TokOK J x1 → (lo + 1) ≤ q.toInt → q.toInt ≤ 7 → (∀ I' L', RI R I' → Fm (fun c => (o ≤ c ∧ c < o + 5) ∨ c = x1) J I' → (I' o 6).toInt = (J o 6).toInt → (I' o 8).toInt = (J o 8).toInt → post none (n, sh, Rf, I', L')) → Ev (qGG D cA b E) mReform_readEither d (0, 0) 0 (lv_args 0 [.ref o, .ref x1, .int q]) [] (n, sh, Rf, J, K) post) (hs0 : o + 5 ≤ x1 ∨ x1 + 7 ≤ o) (hs1 : 0 ≤ lo) (hq0 : lo ≤ p2.toInt) (hq1 : p2.toInt ≤ 7) (hq2 : TokOK I0 x1) (hR : RI R I0) (hp : ∀ (I' : Nat → Nat → Int32) (L' : Nat → Nat → Int64), RI R I' → Fm (fun c => (o ≤ c ∧ c < o + 5) ∨ c = x1) I0 I' → ((I' o 6).toInt = (I0 o 6).toInt) → ((I' o 8).toInt = (I0 o 8).toInt) → post none (n, sh, Rf, I', L')) : Ev (qGG D cA b E) mReform_readUnit (d + 1) (0, 0) 0 (lv_args 0 [.ref o, .ref x1, .int p2]) [] (n, sh, Rf, I0, L0) post := by
  have hf : Fm (fun c => (o ≤ c ∧ c < o + 5) ∨ c = x1) I0 I0 := Fm.rf
  have g_1 : (0 : Int) ≤ (I0 o 6).toInt ∧ (I0 o 6).toInt ≤ 5 := hR.at0 ra 6 (by decide)
  have g_2 : (-1 : Int) ≤ (I0 o 8).toInt ∧ (I0 o 8).toInt ≤ 10 := hR.at0 ra 8 (by decide)
  refine sReform_readUnit_0 o n sh Rf I0 L0 post x1 p2 d hok hw hw1 hd0 ?_
  unfold fReform_readUnit_0
  have l_3 : (40 : Int32).toInt = 40 := rfl
  refine y_Tape_isSign hok hw1 ra1 hR (fun r_4 u_5 u_6 => ⟨r_4, I0, L0, rfl, rfl, ?_⟩)
  have b_7 : 0 ≤ r_4.toInt ∧ r_4.toInt ≤ 1 := u_5.rg
  refine y_Tape_kind hok hw1 ra1 hR (fun r_8 u_9 => ⟨r_8, I0, L0, rfl, rfl, ?_⟩)
  have l_10 : (1 : Int32).toInt = 1 := rfl
  refine ⟨fun c_11 => ?_, fun c_11 => ?_⟩
  · have d_12 := iNe c_11
    unfold fReform_readUnit_29
    unfold fReform_readUnit_30
    have l_13 : (0 : Int32).toInt = 0 := rfl
    have g_14 : (0 : Int) ≤ (I0 o 7).toInt ∧ (I0 o 7).toInt ≤ 100 := hR.at0 ra 7 (by decide)
    have l_15 : (100 : Int32).toInt = 100 := rfl
    refine ⟨fun c_16 => ?_, fun c_16 => ?_⟩
    · have d_17 := iLe c_16
      have l_18 : (2 : Int32).toInt = 2 := rfl
      refine y_Tape_refuse hok hw1 ra1 (by first | omega | (intro h; omega) | exact Or.inl rfl | exact Or.inr rfl) hR (fun I_22 L_23 hR_24 fr_25 u_20 u_21 => ⟨I_22, L_23, rfl, rfl, ?_⟩)
      have hf_26 : Fm (fun c => (o ≤ c ∧ c < o + 5) ∨ c = x1) I0 I_22 := hf.call fr_25 (fun c hc => by first | exact hc | (dsimp only at hc ⊢; omega) | omega)
      have t_27 : (I_22 o 6).toInt = (I0 o 6).toInt := by rw [fr_25 o (by first | omega | (dsimp only; omega))]
      have t_28 : (I_22 o 8).toInt = (I0 o 8).toInt := by rw [fr_25 o (by first | omega | (dsimp only; omega))]
      have t_29 : (I_22 o 7).toInt = (I0 o 7).toInt := by rw [fr_25 o (by first | omega | (dsimp only; omega))]
      have k_30 : TokOK I_22 x1 := hq2.fr (fr_25 _ (by first | omega | (dsimp only; omega))) (fr_25 _ (by first | omega | (dsimp only; omega)))
      exact (hp _ _ hR_24 hf_26 (by first | omega | (intro h; omega) | exact Or.inl rfl | exact Or.inr rfl) (by first | omega | (intro h; omega) | exact Or.inl rfl | exact Or.inr rfl))
    · have d_31 := iNle c_16
      refine ⟨fun c_32 => ?_, fun c_32 => ?_⟩
      · have d_33 := iNe c_32
        unfold fReform_readUnit_57
        refine ⟨fun c_34 => ?_, fun c_34 => ?_⟩
        · have d_35 := iEq c_34
          exfalso; omega
        · have d_36 := iNe c_34
          have l_37 : (6 : Int32).toInt = 6 := rfl
          refine ⟨fun c_38 => ?_, fun c_38 => ?_⟩
          · have d_39 := iLe c_38
            unfold fReform_readUnit_73
            refine ⟨fun c_40 => ?_, fun c_40 => ?_⟩
            · have d_41 := iEq c_40
              unfold fReform_readUnit_95
              have g_42 : (0 : Int) ≤ (I0 o 7).toInt ∧ (I0 o 7).toInt ≤ 100 := hR.at0 ra 7 (by decide)
              have a_43 : ((I0 o 7) + 1).toInt = (I0 o 7).toInt + (1 : Int32).toInt := tAdd (by omega) (by omega)
              refine fun I_44 e_45 => ?_
              have hR_46 : RI R I_44 := hR.up0 (k := 7) ra (by decide) (Or.inl rfl) e_45 (show (0 : Int) ≤ ((I0 o 7) + 1).toInt by omega) (show ((I0 o 7) + 1).toInt ≤ (100 : Int) by omega)
              have hf_47 : Fm (fun c => (o ≤ c ∧ c < o + 5) ∨ c = x1) I0 I_44 := hf.set (by first | rfl | omega | (dsimp only; omega)) e_45
              have t_48 : (I_44 o 6).toInt = (I0 o 6).toInt := by rw [← e_45, q_u_k (by decide)]
              have t_49 : (I_44 o 8).toInt = (I0 o 8).toInt := by rw [← e_45, q_u_k (by decide)]
              have t_50 : (I_44 o 7).toInt = ((I0 o 7) + 1).toInt := by rw [← e_45, q_u_at]
              have k_51 : TokOK I_44 x1 := hq2.fr (by rw [← e_45]; exact q_u_ne (by omega)) (by rw [← e_45]; exact q_u_ne (by omega))
              have w_52 : I_44 (x1 + 5) = I0 (x1 + 5) := by rw [← e_45, q_u_ne (by omega)]
              have w_53 : I_44 x1 = I0 x1 := by rw [← e_45, q_u_ne (by omega)]
              refine ⟨fun c_54 => ?_, fun c_54 => ?_⟩
              · have d_55 := iEq c_54
                exfalso; omega
              · have d_56 := iNe c_54
                refine y_Tape_step hok hw1 ra1 hR_46 (fun I_59 L_60 hR_61 fr_62 u_58 => ⟨I_59, L_60, rfl, rfl, ?_⟩)
                have hf_63 : Fm (fun c => (o ≤ c ∧ c < o + 5) ∨ c = x1) I0 I_59 := hf_47.call fr_62 (fun c hc => by first | exact hc | (dsimp only at hc ⊢; omega) | omega)
                have t_64 : (I_59 o 6).toInt = (I_44 o 6).toInt := by rw [fr_62 o (by first | omega | (dsimp only; omega))]
                have t_65 : (I_59 o 8).toInt = (I_44 o 8).toInt := by rw [fr_62 o (by first | omega | (dsimp only; omega))]
                have t_66 : (I_59 o 7).toInt = (I_44 o 7).toInt := by rw [fr_62 o (by first | omega | (dsimp only; omega))]
                have k_67 : TokOK I_59 x1 := k_51.fr (fr_62 _ (by first | omega | (dsimp only; omega))) (fr_62 _ (by first | omega | (dsimp only; omega)))
                have a_68 : (p2 + 1).toInt = p2.toInt + (1 : Int32).toInt := tAdd (by omega) (by omega)
                refine cReform_readEither I_59 L_60 _ _ hR_61 k_67 (by omega) (by omega) (fun I_69 L_70 hR_71 fr_72 k6_74 k8_75 => ⟨I_69, L_70, rfl, rfl, ?_⟩)
                have hf_73 : Fm (fun c => (o ≤ c ∧ c < o + 5) ∨ c = x1) I0 I_69 := hf_63.call fr_72 (fun c hc => hc)
                have k_76 : TokOK I_69 x1 := k_67.fr (fr_72 _ (by first | omega | (dsimp only; omega))) (fr_72 _ (by first | omega | (dsimp only; omega)))
                have l_77 : (41 : Int32).toInt = 41 := rfl
                refine y_Tape_isSign hok hw1 ra1 hR_71 (fun r_78 u_79 u_80 => ⟨r_78, I_69, L_70, rfl, rfl, ?_⟩)
                have b_81 : 0 ≤ r_78.toInt ∧ r_78.toInt ≤ 1 := u_79.rg
                refine y_Tape_passIf hok hw1 ra1 hR_71 (fun I_84 L_85 hR_86 fr_87 u_83 => ⟨I_84, L_85, rfl, rfl, ?_⟩)
                have hf_88 : Fm (fun c => (o ≤ c ∧ c < o + 5) ∨ c = x1) I0 I_84 := hf_73.call fr_87 (fun c hc => by first | exact hc | (dsimp only at hc ⊢; omega) | omega)
                have t_89 : (I_84 o 6).toInt = (I_69 o 6).toInt := by rw [fr_87 o (by first | omega | (dsimp only; omega))]
                have t_90 : (I_84 o 8).toInt = (I_69 o 8).toInt := by rw [fr_87 o (by first | omega | (dsimp only; omega))]
                have k_91 : TokOK I_84 x1 := k_76.fr (fr_87 _ (by first | omega | (dsimp only; omega))) (fr_87 _ (by first | omega | (dsimp only; omega)))
                exact (hp _ _ hR_86 hf_88 (by first | omega | (intro h; omega) | exact Or.inl rfl | exact Or.inr rfl) (by first | omega | (intro h; omega) | exact Or.inl rfl | exact Or.inr rfl))
            · have d_92 := iNe c_40
              exfalso; omega
          · have d_93 := iNle c_38
            have l_94 : (2 : Int32).toInt = 2 := rfl
            refine y_Tape_refuse hok hw1 ra1 (by first | omega | (intro h; omega) | exact Or.inl rfl | exact Or.inr rfl) hR (fun I_98 L_99 hR_100 fr_101 u_96 u_97 => ⟨I_98, L_99, rfl, rfl, ?_⟩)
            have hf_102 : Fm (fun c => (o ≤ c ∧ c < o + 5) ∨ c = x1) I0 I_98 := hf.call fr_101 (fun c hc => by first | exact hc | (dsimp only at hc ⊢; omega) | omega)
            have t_103 : (I_98 o 6).toInt = (I0 o 6).toInt := by rw [fr_101 o (by first | omega | (dsimp only; omega))]
            have t_104 : (I_98 o 8).toInt = (I0 o 8).toInt := by rw [fr_101 o (by first | omega | (dsimp only; omega))]
            have t_105 : (I_98 o 7).toInt = (I0 o 7).toInt := by rw [fr_101 o (by first | omega | (dsimp only; omega))]
            have k_106 : TokOK I_98 x1 := hq2.fr (fr_101 _ (by first | omega | (dsimp only; omega))) (fr_101 _ (by first | omega | (dsimp only; omega)))
            exact (hp _ _ hR_100 hf_102 (by first | omega | (intro h; omega) | exact Or.inl rfl | exact Or.inr rfl) (by first | omega | (intro h; omega) | exact Or.inl rfl | exact Or.inr rfl))
      · have d_107 := iEq c_32
        refine ⟨fun c_108 => ?_, fun c_108 => ?_⟩
        · have d_109 := iNe c_108
          exfalso; omega
        · have d_110 := iEq c_108
          refine y_Tape_isNumber hok hw1 ra1 hR (fun r_111 u_112 u_113 => ⟨r_111, I0, L0, rfl, rfl, ?_⟩)
          have b_114 : 0 ≤ r_111.toInt ∧ r_111.toInt ≤ 1 := u_112.rg
          refine ⟨fun c_115 => ?_, fun c_115 => ?_⟩
          · have d_116 := iEq c_115
            have l_117 : (2 : Int32).toInt = 2 := rfl
            refine y_Tape_refuse hok hw1 ra1 (by first | omega | (intro h; omega) | exact Or.inl rfl | exact Or.inr rfl) hR (fun I_121 L_122 hR_123 fr_124 u_119 u_120 => ⟨I_121, L_122, rfl, rfl, ?_⟩)
            have hf_125 : Fm (fun c => (o ≤ c ∧ c < o + 5) ∨ c = x1) I0 I_121 := hf.call fr_124 (fun c hc => by first | exact hc | (dsimp only at hc ⊢; omega) | omega)
            have t_126 : (I_121 o 6).toInt = (I0 o 6).toInt := by rw [fr_124 o (by first | omega | (dsimp only; omega))]
            have t_127 : (I_121 o 8).toInt = (I0 o 8).toInt := by rw [fr_124 o (by first | omega | (dsimp only; omega))]
            have t_128 : (I_121 o 7).toInt = (I0 o 7).toInt := by rw [fr_124 o (by first | omega | (dsimp only; omega))]
            have k_129 : TokOK I_121 x1 := hq2.fr (fr_124 _ (by first | omega | (dsimp only; omega))) (fr_124 _ (by first | omega | (dsimp only; omega)))
            exact (hp _ _ hR_123 hf_125 (by first | omega | (intro h; omega) | exact Or.inl rfl | exact Or.inr rfl) (by first | omega | (intro h; omega) | exact Or.inl rfl | exact Or.inr rfl))
          · have d_130 := iNe c_115
            unfold fReform_readUnit_57
            have nb := u_113 (by omega)
            have tk := (hq2 (I0 x1 10).toNatClampNeg).1 nb
            refine ⟨fun c_131 => ?_, fun c_131 => ?_⟩
            · have d_132 := iEq c_131
              unfold fReform_readUnit_73
              refine ⟨fun c_133 => ?_, fun c_133 => ?_⟩
              · have d_134 := iEq c_133
                unfold fReform_readUnit_95
                have g_135 : (0 : Int) ≤ (I0 o 7).toInt ∧ (I0 o 7).toInt ≤ 100 := hR.at0 ra 7 (by decide)
                have a_136 : ((I0 o 7) + 1).toInt = (I0 o 7).toInt + (1 : Int32).toInt := tAdd (by omega) (by omega)
                refine fun I_137 e_138 => ?_
                have hR_139 : RI R I_137 := hR.up0 (k := 7) ra (by decide) (Or.inl rfl) e_138 (show (0 : Int) ≤ ((I0 o 7) + 1).toInt by omega) (show ((I0 o 7) + 1).toInt ≤ (100 : Int) by omega)
                have hf_140 : Fm (fun c => (o ≤ c ∧ c < o + 5) ∨ c = x1) I0 I_137 := hf.set (by first | rfl | omega | (dsimp only; omega)) e_138
                have t_141 : (I_137 o 6).toInt = (I0 o 6).toInt := by rw [← e_138, q_u_k (by decide)]
                have t_142 : (I_137 o 8).toInt = (I0 o 8).toInt := by rw [← e_138, q_u_k (by decide)]
                have t_143 : (I_137 o 7).toInt = ((I0 o 7) + 1).toInt := by rw [← e_138, q_u_at]
                have k_144 : TokOK I_137 x1 := hq2.fr (by rw [← e_138]; exact q_u_ne (by omega)) (by rw [← e_138]; exact q_u_ne (by omega))
                have w_145 : I_137 (x1 + 5) = I0 (x1 + 5) := by rw [← e_138, q_u_ne (by omega)]
                have w_146 : I_137 x1 = I0 x1 := by rw [← e_138, q_u_ne (by omega)]
                refine ⟨fun c_147 => ?_, fun c_147 => ?_⟩
                · have d_148 := iEq c_147
                  refine ⟨fun c_149 => ?_, fun c_149 => ?_⟩
                  · have d_150 := iEq c_149
                    refine y_Tape_value hok hw1 ra1 hR_139 (fun r_151 u_152 => ⟨r_151, I_137, L0, rfl, rfl, ?_⟩)
                    have bv := u_152
                    rw [w_145, w_146] at bv
                    have bw := iEq bv
                    have v_153 : (0 : Int) ≤ r_151.toInt ∧ r_151.toInt ≤ 9999 := by omega
                    have l_154 : (64 : Int32).toInt = 64 := rfl
                    have a_155 : (64 + r_151).toInt = (64 : Int32).toInt + r_151.toInt := tAdd (by omega) (by omega)
                    refine y_Reform_emit hok hw ra (by first | omega | (intro h; omega) | exact Or.inl rfl | exact Or.inr rfl) hR_139 (fun I_159 L_160 hR_161 fr_162 u_157 u_158 => ⟨I_159, L_160, rfl, rfl, ?_⟩)
                    have hf_163 : Fm (fun c => (o ≤ c ∧ c < o + 5) ∨ c = x1) I0 I_159 := hf_140.call fr_162 (fun c hc => by first | exact hc | (dsimp only at hc ⊢; omega) | omega)
                    have g_164 : (0 : Int) ≤ (I_159 o 6).toInt ∧ (I_159 o 6).toInt ≤ 5 := hR_161.at0 ra 6 (by decide)
                    have g_165 : (-1 : Int) ≤ (I_159 o 8).toInt ∧ (I_159 o 8).toInt ≤ 10 := hR_161.at0 ra 8 (by decide)
                    have g_166 : (0 : Int) ≤ (I_159 o 7).toInt ∧ (I_159 o 7).toInt ≤ 100 := hR_161.at0 ra 7 (by decide)
                    have k_167 : TokOK I_159 x1 := k_144.fr (fr_162 _ (by first | omega | (dsimp only; omega))) (fr_162 _ (by first | omega | (dsimp only; omega)))
                    refine y_Tape_step hok hw1 ra1 hR_161 (fun I_170 L_171 hR_172 fr_173 u_169 => ⟨I_170, L_171, rfl, rfl, ?_⟩)
                    have hf_174 : Fm (fun c => (o ≤ c ∧ c < o + 5) ∨ c = x1) I0 I_170 := hf_163.call fr_173 (fun c hc => by first | exact hc | (dsimp only at hc ⊢; omega) | omega)
                    have t_175 : (I_170 o 6).toInt = (I_159 o 6).toInt := by rw [fr_173 o (by first | omega | (dsimp only; omega))]
                    have t_176 : (I_170 o 8).toInt = (I_159 o 8).toInt := by rw [fr_173 o (by first | omega | (dsimp only; omega))]
                    have t_177 : (I_170 o 7).toInt = (I_159 o 7).toInt := by rw [fr_173 o (by first | omega | (dsimp only; omega))]
                    have k_178 : TokOK I_170 x1 := k_167.fr (fr_173 _ (by first | omega | (dsimp only; omega))) (fr_173 _ (by first | omega | (dsimp only; omega)))
                    exact (hp _ _ hR_172 hf_174 (by first | omega | (intro h; omega) | exact Or.inl rfl | exact Or.inr rfl) (by first | omega | (intro h; omega) | exact Or.inl rfl | exact Or.inr rfl))
                  · have d_179 := iNe c_149
                    exfalso; omega
                · have d_180 := iNe c_147
                  exfalso; omega
              · have d_181 := iNe c_133
                exfalso; omega
            · have d_182 := iNe c_131
              exfalso; omega
  · have d_183 := iEq c_11
    refine y_Tape_value hok hw1 ra1 hR (fun r_184 u_185 => ⟨r_184, I0, L0, rfl, rfl, ?_⟩)
    refine y_Reform_isAsked hok hR (fun r_186 u_187 u_188 => ⟨r_186, I0, L0, rfl, rfl, ?_⟩)
    have b_189 : 0 ≤ r_186.toInt ∧ r_186.toInt ≤ 1 := u_187.rg
    have l_190 : (0 : Int32).toInt = 0 := rfl
    refine ⟨fun c_191 => ?_, fun c_191 => ?_⟩
    · have d_192 := iEq c_191
      unfold fReform_readUnit_29
      unfold fReform_readUnit_30
      have g_193 : (0 : Int) ≤ (I0 o 7).toInt ∧ (I0 o 7).toInt ≤ 100 := hR.at0 ra 7 (by decide)
      have l_194 : (100 : Int32).toInt = 100 := rfl
      refine ⟨fun c_195 => ?_, fun c_195 => ?_⟩
      · have d_196 := iLe c_195
        have l_197 : (2 : Int32).toInt = 2 := rfl
        refine y_Tape_refuse hok hw1 ra1 (by first | omega | (intro h; omega) | exact Or.inl rfl | exact Or.inr rfl) hR (fun I_201 L_202 hR_203 fr_204 u_199 u_200 => ⟨I_201, L_202, rfl, rfl, ?_⟩)
        have hf_205 : Fm (fun c => (o ≤ c ∧ c < o + 5) ∨ c = x1) I0 I_201 := hf.call fr_204 (fun c hc => by first | exact hc | (dsimp only at hc ⊢; omega) | omega)
        have t_206 : (I_201 o 6).toInt = (I0 o 6).toInt := by rw [fr_204 o (by first | omega | (dsimp only; omega))]
        have t_207 : (I_201 o 8).toInt = (I0 o 8).toInt := by rw [fr_204 o (by first | omega | (dsimp only; omega))]
        have t_208 : (I_201 o 7).toInt = (I0 o 7).toInt := by rw [fr_204 o (by first | omega | (dsimp only; omega))]
        have k_209 : TokOK I_201 x1 := hq2.fr (fr_204 _ (by first | omega | (dsimp only; omega))) (fr_204 _ (by first | omega | (dsimp only; omega)))
        exact (hp _ _ hR_203 hf_205 (by first | omega | (intro h; omega) | exact Or.inl rfl | exact Or.inr rfl) (by first | omega | (intro h; omega) | exact Or.inl rfl | exact Or.inr rfl))
      · have d_210 := iNle c_195
        refine ⟨fun c_211 => ?_, fun c_211 => ?_⟩
        · have d_212 := iNe c_211
          unfold fReform_readUnit_57
          refine ⟨fun c_213 => ?_, fun c_213 => ?_⟩
          · have d_214 := iEq c_213
            exfalso; omega
          · have d_215 := iNe c_213
            have l_216 : (6 : Int32).toInt = 6 := rfl
            refine ⟨fun c_217 => ?_, fun c_217 => ?_⟩
            · have d_218 := iLe c_217
              unfold fReform_readUnit_73
              refine ⟨fun c_219 => ?_, fun c_219 => ?_⟩
              · have d_220 := iEq c_219
                unfold fReform_readUnit_95
                have g_221 : (0 : Int) ≤ (I0 o 7).toInt ∧ (I0 o 7).toInt ≤ 100 := hR.at0 ra 7 (by decide)
                have a_222 : ((I0 o 7) + 1).toInt = (I0 o 7).toInt + (1 : Int32).toInt := tAdd (by omega) (by omega)
                refine fun I_223 e_224 => ?_
                have hR_225 : RI R I_223 := hR.up0 (k := 7) ra (by decide) (Or.inl rfl) e_224 (show (0 : Int) ≤ ((I0 o 7) + 1).toInt by omega) (show ((I0 o 7) + 1).toInt ≤ (100 : Int) by omega)
                have hf_226 : Fm (fun c => (o ≤ c ∧ c < o + 5) ∨ c = x1) I0 I_223 := hf.set (by first | rfl | omega | (dsimp only; omega)) e_224
                have t_227 : (I_223 o 6).toInt = (I0 o 6).toInt := by rw [← e_224, q_u_k (by decide)]
                have t_228 : (I_223 o 8).toInt = (I0 o 8).toInt := by rw [← e_224, q_u_k (by decide)]
                have t_229 : (I_223 o 7).toInt = ((I0 o 7) + 1).toInt := by rw [← e_224, q_u_at]
                have k_230 : TokOK I_223 x1 := hq2.fr (by rw [← e_224]; exact q_u_ne (by omega)) (by rw [← e_224]; exact q_u_ne (by omega))
                have w_231 : I_223 (x1 + 5) = I0 (x1 + 5) := by rw [← e_224, q_u_ne (by omega)]
                have w_232 : I_223 x1 = I0 x1 := by rw [← e_224, q_u_ne (by omega)]
                refine ⟨fun c_233 => ?_, fun c_233 => ?_⟩
                · have d_234 := iEq c_233
                  exfalso; omega
                · have d_235 := iNe c_233
                  refine y_Tape_step hok hw1 ra1 hR_225 (fun I_238 L_239 hR_240 fr_241 u_237 => ⟨I_238, L_239, rfl, rfl, ?_⟩)
                  have hf_242 : Fm (fun c => (o ≤ c ∧ c < o + 5) ∨ c = x1) I0 I_238 := hf_226.call fr_241 (fun c hc => by first | exact hc | (dsimp only at hc ⊢; omega) | omega)
                  have t_243 : (I_238 o 6).toInt = (I_223 o 6).toInt := by rw [fr_241 o (by first | omega | (dsimp only; omega))]
                  have t_244 : (I_238 o 8).toInt = (I_223 o 8).toInt := by rw [fr_241 o (by first | omega | (dsimp only; omega))]
                  have t_245 : (I_238 o 7).toInt = (I_223 o 7).toInt := by rw [fr_241 o (by first | omega | (dsimp only; omega))]
                  have k_246 : TokOK I_238 x1 := k_230.fr (fr_241 _ (by first | omega | (dsimp only; omega))) (fr_241 _ (by first | omega | (dsimp only; omega)))
                  have a_247 : (p2 + 1).toInt = p2.toInt + (1 : Int32).toInt := tAdd (by omega) (by omega)
                  refine cReform_readEither I_238 L_239 _ _ hR_240 k_246 (by omega) (by omega) (fun I_248 L_249 hR_250 fr_251 k6_253 k8_254 => ⟨I_248, L_249, rfl, rfl, ?_⟩)
                  have hf_252 : Fm (fun c => (o ≤ c ∧ c < o + 5) ∨ c = x1) I0 I_248 := hf_242.call fr_251 (fun c hc => hc)
                  have k_255 : TokOK I_248 x1 := k_246.fr (fr_251 _ (by first | omega | (dsimp only; omega))) (fr_251 _ (by first | omega | (dsimp only; omega)))
                  have l_256 : (41 : Int32).toInt = 41 := rfl
                  refine y_Tape_isSign hok hw1 ra1 hR_250 (fun r_257 u_258 u_259 => ⟨r_257, I_248, L_249, rfl, rfl, ?_⟩)
                  have b_260 : 0 ≤ r_257.toInt ∧ r_257.toInt ≤ 1 := u_258.rg
                  refine y_Tape_passIf hok hw1 ra1 hR_250 (fun I_263 L_264 hR_265 fr_266 u_262 => ⟨I_263, L_264, rfl, rfl, ?_⟩)
                  have hf_267 : Fm (fun c => (o ≤ c ∧ c < o + 5) ∨ c = x1) I0 I_263 := hf_252.call fr_266 (fun c hc => by first | exact hc | (dsimp only at hc ⊢; omega) | omega)
                  have t_268 : (I_263 o 6).toInt = (I_248 o 6).toInt := by rw [fr_266 o (by first | omega | (dsimp only; omega))]
                  have t_269 : (I_263 o 8).toInt = (I_248 o 8).toInt := by rw [fr_266 o (by first | omega | (dsimp only; omega))]
                  have k_270 : TokOK I_263 x1 := k_255.fr (fr_266 _ (by first | omega | (dsimp only; omega))) (fr_266 _ (by first | omega | (dsimp only; omega)))
                  exact (hp _ _ hR_265 hf_267 (by first | omega | (intro h; omega) | exact Or.inl rfl | exact Or.inr rfl) (by first | omega | (intro h; omega) | exact Or.inl rfl | exact Or.inr rfl))
              · have d_271 := iNe c_219
                exfalso; omega
            · have d_272 := iNle c_217
              have l_273 : (2 : Int32).toInt = 2 := rfl
              refine y_Tape_refuse hok hw1 ra1 (by first | omega | (intro h; omega) | exact Or.inl rfl | exact Or.inr rfl) hR (fun I_277 L_278 hR_279 fr_280 u_275 u_276 => ⟨I_277, L_278, rfl, rfl, ?_⟩)
              have hf_281 : Fm (fun c => (o ≤ c ∧ c < o + 5) ∨ c = x1) I0 I_277 := hf.call fr_280 (fun c hc => by first | exact hc | (dsimp only at hc ⊢; omega) | omega)
              have t_282 : (I_277 o 6).toInt = (I0 o 6).toInt := by rw [fr_280 o (by first | omega | (dsimp only; omega))]
              have t_283 : (I_277 o 8).toInt = (I0 o 8).toInt := by rw [fr_280 o (by first | omega | (dsimp only; omega))]
              have t_284 : (I_277 o 7).toInt = (I0 o 7).toInt := by rw [fr_280 o (by first | omega | (dsimp only; omega))]
              have k_285 : TokOK I_277 x1 := hq2.fr (fr_280 _ (by first | omega | (dsimp only; omega))) (fr_280 _ (by first | omega | (dsimp only; omega)))
              exact (hp _ _ hR_279 hf_281 (by first | omega | (intro h; omega) | exact Or.inl rfl | exact Or.inr rfl) (by first | omega | (intro h; omega) | exact Or.inl rfl | exact Or.inr rfl))
        · have d_286 := iEq c_211
          refine ⟨fun c_287 => ?_, fun c_287 => ?_⟩
          · have d_288 := iNe c_287
            exfalso; omega
          · have d_289 := iEq c_287
            refine y_Tape_isNumber hok hw1 ra1 hR (fun r_290 u_291 u_292 => ⟨r_290, I0, L0, rfl, rfl, ?_⟩)
            have b_293 : 0 ≤ r_290.toInt ∧ r_290.toInt ≤ 1 := u_291.rg
            refine ⟨fun c_294 => ?_, fun c_294 => ?_⟩
            · have d_295 := iEq c_294
              have l_296 : (2 : Int32).toInt = 2 := rfl
              refine y_Tape_refuse hok hw1 ra1 (by first | omega | (intro h; omega) | exact Or.inl rfl | exact Or.inr rfl) hR (fun I_300 L_301 hR_302 fr_303 u_298 u_299 => ⟨I_300, L_301, rfl, rfl, ?_⟩)
              have hf_304 : Fm (fun c => (o ≤ c ∧ c < o + 5) ∨ c = x1) I0 I_300 := hf.call fr_303 (fun c hc => by first | exact hc | (dsimp only at hc ⊢; omega) | omega)
              have t_305 : (I_300 o 6).toInt = (I0 o 6).toInt := by rw [fr_303 o (by first | omega | (dsimp only; omega))]
              have t_306 : (I_300 o 8).toInt = (I0 o 8).toInt := by rw [fr_303 o (by first | omega | (dsimp only; omega))]
              have t_307 : (I_300 o 7).toInt = (I0 o 7).toInt := by rw [fr_303 o (by first | omega | (dsimp only; omega))]
              have k_308 : TokOK I_300 x1 := hq2.fr (fr_303 _ (by first | omega | (dsimp only; omega))) (fr_303 _ (by first | omega | (dsimp only; omega)))
              exact (hp _ _ hR_302 hf_304 (by first | omega | (intro h; omega) | exact Or.inl rfl | exact Or.inr rfl) (by first | omega | (intro h; omega) | exact Or.inl rfl | exact Or.inr rfl))
            · have d_309 := iNe c_294
              unfold fReform_readUnit_57
              have nb := u_292 (by omega)
              have tk := (hq2 (I0 x1 10).toNatClampNeg).1 nb
              refine ⟨fun c_310 => ?_, fun c_310 => ?_⟩
              · have d_311 := iEq c_310
                unfold fReform_readUnit_73
                refine ⟨fun c_312 => ?_, fun c_312 => ?_⟩
                · have d_313 := iEq c_312
                  unfold fReform_readUnit_95
                  have g_314 : (0 : Int) ≤ (I0 o 7).toInt ∧ (I0 o 7).toInt ≤ 100 := hR.at0 ra 7 (by decide)
                  have a_315 : ((I0 o 7) + 1).toInt = (I0 o 7).toInt + (1 : Int32).toInt := tAdd (by omega) (by omega)
                  refine fun I_316 e_317 => ?_
                  have hR_318 : RI R I_316 := hR.up0 (k := 7) ra (by decide) (Or.inl rfl) e_317 (show (0 : Int) ≤ ((I0 o 7) + 1).toInt by omega) (show ((I0 o 7) + 1).toInt ≤ (100 : Int) by omega)
                  have hf_319 : Fm (fun c => (o ≤ c ∧ c < o + 5) ∨ c = x1) I0 I_316 := hf.set (by first | rfl | omega | (dsimp only; omega)) e_317
                  have t_320 : (I_316 o 6).toInt = (I0 o 6).toInt := by rw [← e_317, q_u_k (by decide)]
                  have t_321 : (I_316 o 8).toInt = (I0 o 8).toInt := by rw [← e_317, q_u_k (by decide)]
                  have t_322 : (I_316 o 7).toInt = ((I0 o 7) + 1).toInt := by rw [← e_317, q_u_at]
                  have k_323 : TokOK I_316 x1 := hq2.fr (by rw [← e_317]; exact q_u_ne (by omega)) (by rw [← e_317]; exact q_u_ne (by omega))
                  have w_324 : I_316 (x1 + 5) = I0 (x1 + 5) := by rw [← e_317, q_u_ne (by omega)]
                  have w_325 : I_316 x1 = I0 x1 := by rw [← e_317, q_u_ne (by omega)]
                  refine ⟨fun c_326 => ?_, fun c_326 => ?_⟩
                  · have d_327 := iEq c_326
                    refine ⟨fun c_328 => ?_, fun c_328 => ?_⟩
                    · have d_329 := iEq c_328
                      refine y_Tape_value hok hw1 ra1 hR_318 (fun r_330 u_331 => ⟨r_330, I_316, L0, rfl, rfl, ?_⟩)
                      have bv := u_331
                      rw [w_324, w_325] at bv
                      have bw := iEq bv
                      have v_332 : (0 : Int) ≤ r_330.toInt ∧ r_330.toInt ≤ 9999 := by omega
                      have l_333 : (64 : Int32).toInt = 64 := rfl
                      have a_334 : (64 + r_330).toInt = (64 : Int32).toInt + r_330.toInt := tAdd (by omega) (by omega)
                      refine y_Reform_emit hok hw ra (by first | omega | (intro h; omega) | exact Or.inl rfl | exact Or.inr rfl) hR_318 (fun I_338 L_339 hR_340 fr_341 u_336 u_337 => ⟨I_338, L_339, rfl, rfl, ?_⟩)
                      have hf_342 : Fm (fun c => (o ≤ c ∧ c < o + 5) ∨ c = x1) I0 I_338 := hf_319.call fr_341 (fun c hc => by first | exact hc | (dsimp only at hc ⊢; omega) | omega)
                      have g_343 : (0 : Int) ≤ (I_338 o 6).toInt ∧ (I_338 o 6).toInt ≤ 5 := hR_340.at0 ra 6 (by decide)
                      have g_344 : (-1 : Int) ≤ (I_338 o 8).toInt ∧ (I_338 o 8).toInt ≤ 10 := hR_340.at0 ra 8 (by decide)
                      have g_345 : (0 : Int) ≤ (I_338 o 7).toInt ∧ (I_338 o 7).toInt ≤ 100 := hR_340.at0 ra 7 (by decide)
                      have k_346 : TokOK I_338 x1 := k_323.fr (fr_341 _ (by first | omega | (dsimp only; omega))) (fr_341 _ (by first | omega | (dsimp only; omega)))
                      refine y_Tape_step hok hw1 ra1 hR_340 (fun I_349 L_350 hR_351 fr_352 u_348 => ⟨I_349, L_350, rfl, rfl, ?_⟩)
                      have hf_353 : Fm (fun c => (o ≤ c ∧ c < o + 5) ∨ c = x1) I0 I_349 := hf_342.call fr_352 (fun c hc => by first | exact hc | (dsimp only at hc ⊢; omega) | omega)
                      have t_354 : (I_349 o 6).toInt = (I_338 o 6).toInt := by rw [fr_352 o (by first | omega | (dsimp only; omega))]
                      have t_355 : (I_349 o 8).toInt = (I_338 o 8).toInt := by rw [fr_352 o (by first | omega | (dsimp only; omega))]
                      have t_356 : (I_349 o 7).toInt = (I_338 o 7).toInt := by rw [fr_352 o (by first | omega | (dsimp only; omega))]
                      have k_357 : TokOK I_349 x1 := k_346.fr (fr_352 _ (by first | omega | (dsimp only; omega))) (fr_352 _ (by first | omega | (dsimp only; omega)))
                      exact (hp _ _ hR_351 hf_353 (by first | omega | (intro h; omega) | exact Or.inl rfl | exact Or.inr rfl) (by first | omega | (intro h; omega) | exact Or.inl rfl | exact Or.inr rfl))
                    · have d_358 := iNe c_328
                      exfalso; omega
                  · have d_359 := iNe c_326
                    exfalso; omega
                · have d_360 := iNe c_312
                  exfalso; omega
              · have d_361 := iNe c_310
                exfalso; omega
    · have d_362 := iNe c_191
      have ak := u_188 (by omega)
      have av := iEq u_185
      unfold fReform_readUnit_30
      have g_363 : (0 : Int) ≤ (I0 o 7).toInt ∧ (I0 o 7).toInt ≤ 100 := hR.at0 ra 7 (by decide)
      have l_364 : (100 : Int32).toInt = 100 := rfl
      refine ⟨fun c_365 => ?_, fun c_365 => ?_⟩
      · have d_366 := iLe c_365
        have l_367 : (2 : Int32).toInt = 2 := rfl
        refine y_Tape_refuse hok hw1 ra1 (by first | omega | (intro h; omega) | exact Or.inl rfl | exact Or.inr rfl) hR (fun I_371 L_372 hR_373 fr_374 u_369 u_370 => ⟨I_371, L_372, rfl, rfl, ?_⟩)
        have hf_375 : Fm (fun c => (o ≤ c ∧ c < o + 5) ∨ c = x1) I0 I_371 := hf.call fr_374 (fun c hc => by first | exact hc | (dsimp only at hc ⊢; omega) | omega)
        have t_376 : (I_371 o 6).toInt = (I0 o 6).toInt := by rw [fr_374 o (by first | omega | (dsimp only; omega))]
        have t_377 : (I_371 o 8).toInt = (I0 o 8).toInt := by rw [fr_374 o (by first | omega | (dsimp only; omega))]
        have t_378 : (I_371 o 7).toInt = (I0 o 7).toInt := by rw [fr_374 o (by first | omega | (dsimp only; omega))]
        have k_379 : TokOK I_371 x1 := hq2.fr (fr_374 _ (by first | omega | (dsimp only; omega))) (fr_374 _ (by first | omega | (dsimp only; omega)))
        exact (hp _ _ hR_373 hf_375 (by first | omega | (intro h; omega) | exact Or.inl rfl | exact Or.inr rfl) (by first | omega | (intro h; omega) | exact Or.inl rfl | exact Or.inr rfl))
      · have d_380 := iNle c_365
        refine ⟨fun c_381 => ?_, fun c_381 => ?_⟩
        · have d_382 := iNe c_381
          unfold fReform_readUnit_57
          refine ⟨fun c_383 => ?_, fun c_383 => ?_⟩
          · have d_384 := iEq c_383
            exfalso; omega
          · have d_385 := iNe c_383
            have l_386 : (6 : Int32).toInt = 6 := rfl
            refine ⟨fun c_387 => ?_, fun c_387 => ?_⟩
            · have d_388 := iLe c_387
              unfold fReform_readUnit_73
              refine ⟨fun c_389 => ?_, fun c_389 => ?_⟩
              · have d_390 := iEq c_389
                exfalso; omega
              · have d_391 := iNe c_389
                refine y_Tape_value hok hw1 ra1 hR (fun r_392 u_393 => ⟨r_392, I0, L0, rfl, rfl, ?_⟩)
                have j_394 := iEq (u_393.trans u_185.symm)
                refine y_Reform_mayAsk hok hw ra hR (fun r_395 u_396 => ⟨r_395, I0, L0, rfl, rfl, ?_⟩)
                have b_397 : 0 ≤ r_395.toInt ∧ r_395.toInt ≤ 1 := u_396.rg
                refine ⟨fun c_398 => ?_, fun c_398 => ?_⟩
                · have d_399 := iNe c_398
                  unfold fReform_readUnit_95
                  have g_400 : (0 : Int) ≤ (I0 o 7).toInt ∧ (I0 o 7).toInt ≤ 100 := hR.at0 ra 7 (by decide)
                  have a_401 : ((I0 o 7) + 1).toInt = (I0 o 7).toInt + (1 : Int32).toInt := tAdd (by omega) (by omega)
                  refine fun I_402 e_403 => ?_
                  have hR_404 : RI R I_402 := hR.up0 (k := 7) ra (by decide) (Or.inl rfl) e_403 (show (0 : Int) ≤ ((I0 o 7) + 1).toInt by omega) (show ((I0 o 7) + 1).toInt ≤ (100 : Int) by omega)
                  have hf_405 : Fm (fun c => (o ≤ c ∧ c < o + 5) ∨ c = x1) I0 I_402 := hf.set (by first | rfl | omega | (dsimp only; omega)) e_403
                  have t_406 : (I_402 o 6).toInt = (I0 o 6).toInt := by rw [← e_403, q_u_k (by decide)]
                  have t_407 : (I_402 o 8).toInt = (I0 o 8).toInt := by rw [← e_403, q_u_k (by decide)]
                  have t_408 : (I_402 o 7).toInt = ((I0 o 7) + 1).toInt := by rw [← e_403, q_u_at]
                  have k_409 : TokOK I_402 x1 := hq2.fr (by rw [← e_403]; exact q_u_ne (by omega)) (by rw [← e_403]; exact q_u_ne (by omega))
                  have w_410 : I_402 (x1 + 5) = I0 (x1 + 5) := by rw [← e_403, q_u_ne (by omega)]
                  have w_411 : I_402 x1 = I0 x1 := by rw [← e_403, q_u_ne (by omega)]
                  refine ⟨fun c_412 => ?_, fun c_412 => ?_⟩
                  · have d_413 := iEq c_412
                    exfalso; omega
                  · have d_414 := iNe c_412
                    refine y_Tape_step hok hw1 ra1 hR_404 (fun I_417 L_418 hR_419 fr_420 u_416 => ⟨I_417, L_418, rfl, rfl, ?_⟩)
                    have hf_421 : Fm (fun c => (o ≤ c ∧ c < o + 5) ∨ c = x1) I0 I_417 := hf_405.call fr_420 (fun c hc => by first | exact hc | (dsimp only at hc ⊢; omega) | omega)
                    have t_422 : (I_417 o 6).toInt = (I_402 o 6).toInt := by rw [fr_420 o (by first | omega | (dsimp only; omega))]
                    have t_423 : (I_417 o 8).toInt = (I_402 o 8).toInt := by rw [fr_420 o (by first | omega | (dsimp only; omega))]
                    have t_424 : (I_417 o 7).toInt = (I_402 o 7).toInt := by rw [fr_420 o (by first | omega | (dsimp only; omega))]
                    have k_425 : TokOK I_417 x1 := k_409.fr (fr_420 _ (by first | omega | (dsimp only; omega))) (fr_420 _ (by first | omega | (dsimp only; omega)))
                    have a_426 : (p2 + 1).toInt = p2.toInt + (1 : Int32).toInt := tAdd (by omega) (by omega)
                    refine cReform_readEither I_417 L_418 _ _ hR_419 k_425 (by omega) (by omega) (fun I_427 L_428 hR_429 fr_430 k6_432 k8_433 => ⟨I_427, L_428, rfl, rfl, ?_⟩)
                    have hf_431 : Fm (fun c => (o ≤ c ∧ c < o + 5) ∨ c = x1) I0 I_427 := hf_421.call fr_430 (fun c hc => hc)
                    have k_434 : TokOK I_427 x1 := k_425.fr (fr_430 _ (by first | omega | (dsimp only; omega))) (fr_430 _ (by first | omega | (dsimp only; omega)))
                    have l_435 : (41 : Int32).toInt = 41 := rfl
                    refine y_Tape_isSign hok hw1 ra1 hR_429 (fun r_436 u_437 u_438 => ⟨r_436, I_427, L_428, rfl, rfl, ?_⟩)
                    have b_439 : 0 ≤ r_436.toInt ∧ r_436.toInt ≤ 1 := u_437.rg
                    refine y_Tape_passIf hok hw1 ra1 hR_429 (fun I_442 L_443 hR_444 fr_445 u_441 => ⟨I_442, L_443, rfl, rfl, ?_⟩)
                    have hf_446 : Fm (fun c => (o ≤ c ∧ c < o + 5) ∨ c = x1) I0 I_442 := hf_431.call fr_445 (fun c hc => by first | exact hc | (dsimp only at hc ⊢; omega) | omega)
                    have t_447 : (I_442 o 6).toInt = (I_427 o 6).toInt := by rw [fr_445 o (by first | omega | (dsimp only; omega))]
                    have t_448 : (I_442 o 8).toInt = (I_427 o 8).toInt := by rw [fr_445 o (by first | omega | (dsimp only; omega))]
                    have k_449 : TokOK I_442 x1 := k_434.fr (fr_445 _ (by first | omega | (dsimp only; omega))) (fr_445 _ (by first | omega | (dsimp only; omega)))
                    exact (hp _ _ hR_444 hf_446 (by first | omega | (intro h; omega) | exact Or.inl rfl | exact Or.inr rfl) (by first | omega | (intro h; omega) | exact Or.inl rfl | exact Or.inr rfl))
                · have d_450 := iEq c_398
                  have l_451 : (5 : Int32).toInt = 5 := rfl
                  refine y_Tape_refuse hok hw1 ra1 (by first | omega | (intro h; omega) | exact Or.inl rfl | exact Or.inr rfl) hR (fun I_455 L_456 hR_457 fr_458 u_453 u_454 => ⟨I_455, L_456, rfl, rfl, ?_⟩)
                  have hf_459 : Fm (fun c => (o ≤ c ∧ c < o + 5) ∨ c = x1) I0 I_455 := hf.call fr_458 (fun c hc => by first | exact hc | (dsimp only at hc ⊢; omega) | omega)
                  have t_460 : (I_455 o 6).toInt = (I0 o 6).toInt := by rw [fr_458 o (by first | omega | (dsimp only; omega))]
                  have t_461 : (I_455 o 8).toInt = (I0 o 8).toInt := by rw [fr_458 o (by first | omega | (dsimp only; omega))]
                  have t_462 : (I_455 o 7).toInt = (I0 o 7).toInt := by rw [fr_458 o (by first | omega | (dsimp only; omega))]
                  have k_463 : TokOK I_455 x1 := hq2.fr (fr_458 _ (by first | omega | (dsimp only; omega))) (fr_458 _ (by first | omega | (dsimp only; omega)))
                  exact (hp _ _ hR_457 hf_459 (by first | omega | (intro h; omega) | exact Or.inl rfl | exact Or.inr rfl) (by first | omega | (intro h; omega) | exact Or.inl rfl | exact Or.inr rfl))
            · have d_464 := iNle c_387
              have l_465 : (2 : Int32).toInt = 2 := rfl
              refine y_Tape_refuse hok hw1 ra1 (by first | omega | (intro h; omega) | exact Or.inl rfl | exact Or.inr rfl) hR (fun I_469 L_470 hR_471 fr_472 u_467 u_468 => ⟨I_469, L_470, rfl, rfl, ?_⟩)
              have hf_473 : Fm (fun c => (o ≤ c ∧ c < o + 5) ∨ c = x1) I0 I_469 := hf.call fr_472 (fun c hc => by first | exact hc | (dsimp only at hc ⊢; omega) | omega)
              have t_474 : (I_469 o 6).toInt = (I0 o 6).toInt := by rw [fr_472 o (by first | omega | (dsimp only; omega))]
              have t_475 : (I_469 o 8).toInt = (I0 o 8).toInt := by rw [fr_472 o (by first | omega | (dsimp only; omega))]
              have t_476 : (I_469 o 7).toInt = (I0 o 7).toInt := by rw [fr_472 o (by first | omega | (dsimp only; omega))]
              have k_477 : TokOK I_469 x1 := hq2.fr (fr_472 _ (by first | omega | (dsimp only; omega))) (fr_472 _ (by first | omega | (dsimp only; omega)))
              exact (hp _ _ hR_471 hf_473 (by first | omega | (intro h; omega) | exact Or.inl rfl | exact Or.inr rfl) (by first | omega | (intro h; omega) | exact Or.inl rfl | exact Or.inr rfl))
        · have d_478 := iEq c_381
          refine ⟨fun c_479 => ?_, fun c_479 => ?_⟩
          · have d_480 := iNe c_479
            unfold fReform_readUnit_57
            refine ⟨fun c_481 => ?_, fun c_481 => ?_⟩
            · have d_482 := iEq c_481
              unfold fReform_readUnit_73
              refine ⟨fun c_483 => ?_, fun c_483 => ?_⟩
              · have d_484 := iEq c_483
                exfalso; omega
              · have d_485 := iNe c_483
                refine y_Tape_value hok hw1 ra1 hR (fun r_486 u_487 => ⟨r_486, I0, L0, rfl, rfl, ?_⟩)
                have j_488 := iEq (u_487.trans u_185.symm)
                refine y_Reform_mayAsk hok hw ra hR (fun r_489 u_490 => ⟨r_489, I0, L0, rfl, rfl, ?_⟩)
                have b_491 : 0 ≤ r_489.toInt ∧ r_489.toInt ≤ 1 := u_490.rg
                refine ⟨fun c_492 => ?_, fun c_492 => ?_⟩
                · have d_493 := iNe c_492
                  unfold fReform_readUnit_95
                  have g_494 : (0 : Int) ≤ (I0 o 7).toInt ∧ (I0 o 7).toInt ≤ 100 := hR.at0 ra 7 (by decide)
                  have a_495 : ((I0 o 7) + 1).toInt = (I0 o 7).toInt + (1 : Int32).toInt := tAdd (by omega) (by omega)
                  refine fun I_496 e_497 => ?_
                  have hR_498 : RI R I_496 := hR.up0 (k := 7) ra (by decide) (Or.inl rfl) e_497 (show (0 : Int) ≤ ((I0 o 7) + 1).toInt by omega) (show ((I0 o 7) + 1).toInt ≤ (100 : Int) by omega)
                  have hf_499 : Fm (fun c => (o ≤ c ∧ c < o + 5) ∨ c = x1) I0 I_496 := hf.set (by first | rfl | omega | (dsimp only; omega)) e_497
                  have t_500 : (I_496 o 6).toInt = (I0 o 6).toInt := by rw [← e_497, q_u_k (by decide)]
                  have t_501 : (I_496 o 8).toInt = (I0 o 8).toInt := by rw [← e_497, q_u_k (by decide)]
                  have t_502 : (I_496 o 7).toInt = ((I0 o 7) + 1).toInt := by rw [← e_497, q_u_at]
                  have k_503 : TokOK I_496 x1 := hq2.fr (by rw [← e_497]; exact q_u_ne (by omega)) (by rw [← e_497]; exact q_u_ne (by omega))
                  have w_504 : I_496 (x1 + 5) = I0 (x1 + 5) := by rw [← e_497, q_u_ne (by omega)]
                  have w_505 : I_496 x1 = I0 x1 := by rw [← e_497, q_u_ne (by omega)]
                  refine ⟨fun c_506 => ?_, fun c_506 => ?_⟩
                  · have d_507 := iEq c_506
                    refine ⟨fun c_508 => ?_, fun c_508 => ?_⟩
                    · have d_509 := iEq c_508
                      exfalso; omega
                    · have d_510 := iNe c_508
                      refine y_Tape_value hok hw1 ra1 hR_498 (fun r_511 u_512 => ⟨r_511, I_496, L0, rfl, rfl, ?_⟩)
                      have bv := u_512
                      rw [w_504, w_505] at bv
                      have bw := iEq bv
                      have bh := i_hi (I0 (x1 + 5) (I0 x1 10).toNatClampNeg)
                      have v_513 : (0 : Int) ≤ r_511.toInt ∧ r_511.toInt ≤ 2147483647 := by omega
                      refine y_Reform_emit hok hw ra (by first | omega | (intro h; omega) | exact Or.inl rfl | exact Or.inr rfl) hR_498 (fun I_517 L_518 hR_519 fr_520 u_515 u_516 => ⟨I_517, L_518, rfl, rfl, ?_⟩)
                      have hf_521 : Fm (fun c => (o ≤ c ∧ c < o + 5) ∨ c = x1) I0 I_517 := hf_499.call fr_520 (fun c hc => by first | exact hc | (dsimp only at hc ⊢; omega) | omega)
                      have g_522 : (0 : Int) ≤ (I_517 o 6).toInt ∧ (I_517 o 6).toInt ≤ 5 := hR_519.at0 ra 6 (by decide)
                      have g_523 : (-1 : Int) ≤ (I_517 o 8).toInt ∧ (I_517 o 8).toInt ≤ 10 := hR_519.at0 ra 8 (by decide)
                      have g_524 : (0 : Int) ≤ (I_517 o 7).toInt ∧ (I_517 o 7).toInt ≤ 100 := hR_519.at0 ra 7 (by decide)
                      have k_525 : TokOK I_517 x1 := k_503.fr (fr_520 _ (by first | omega | (dsimp only; omega))) (fr_520 _ (by first | omega | (dsimp only; omega)))
                      refine y_Tape_step hok hw1 ra1 hR_519 (fun I_528 L_529 hR_530 fr_531 u_527 => ⟨I_528, L_529, rfl, rfl, ?_⟩)
                      have hf_532 : Fm (fun c => (o ≤ c ∧ c < o + 5) ∨ c = x1) I0 I_528 := hf_521.call fr_531 (fun c hc => by first | exact hc | (dsimp only at hc ⊢; omega) | omega)
                      have t_533 : (I_528 o 6).toInt = (I_517 o 6).toInt := by rw [fr_531 o (by first | omega | (dsimp only; omega))]
                      have t_534 : (I_528 o 8).toInt = (I_517 o 8).toInt := by rw [fr_531 o (by first | omega | (dsimp only; omega))]
                      have t_535 : (I_528 o 7).toInt = (I_517 o 7).toInt := by rw [fr_531 o (by first | omega | (dsimp only; omega))]
                      have k_536 : TokOK I_528 x1 := k_525.fr (fr_531 _ (by first | omega | (dsimp only; omega))) (fr_531 _ (by first | omega | (dsimp only; omega)))
                      exact (hp _ _ hR_530 hf_532 (by first | omega | (intro h; omega) | exact Or.inl rfl | exact Or.inr rfl) (by first | omega | (intro h; omega) | exact Or.inl rfl | exact Or.inr rfl))
                  · have d_537 := iNe c_506
                    exfalso; omega
                · have d_538 := iEq c_492
                  have l_539 : (5 : Int32).toInt = 5 := rfl
                  refine y_Tape_refuse hok hw1 ra1 (by first | omega | (intro h; omega) | exact Or.inl rfl | exact Or.inr rfl) hR (fun I_543 L_544 hR_545 fr_546 u_541 u_542 => ⟨I_543, L_544, rfl, rfl, ?_⟩)
                  have hf_547 : Fm (fun c => (o ≤ c ∧ c < o + 5) ∨ c = x1) I0 I_543 := hf.call fr_546 (fun c hc => by first | exact hc | (dsimp only at hc ⊢; omega) | omega)
                  have t_548 : (I_543 o 6).toInt = (I0 o 6).toInt := by rw [fr_546 o (by first | omega | (dsimp only; omega))]
                  have t_549 : (I_543 o 8).toInt = (I0 o 8).toInt := by rw [fr_546 o (by first | omega | (dsimp only; omega))]
                  have t_550 : (I_543 o 7).toInt = (I0 o 7).toInt := by rw [fr_546 o (by first | omega | (dsimp only; omega))]
                  have k_551 : TokOK I_543 x1 := hq2.fr (fr_546 _ (by first | omega | (dsimp only; omega))) (fr_546 _ (by first | omega | (dsimp only; omega)))
                  exact (hp _ _ hR_545 hf_547 (by first | omega | (intro h; omega) | exact Or.inl rfl | exact Or.inr rfl) (by first | omega | (intro h; omega) | exact Or.inl rfl | exact Or.inr rfl))
            · have d_552 := iNe c_481
              exfalso; omega
          · have d_553 := iEq c_479
            exfalso; omega
