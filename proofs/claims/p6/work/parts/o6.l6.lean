/-! The class's methods once more, with what they leave of the long rows: l6. By program (lrun.py). -/
set_option maxHeartbeats 4000000 in
set_option maxRecDepth 20000 in
theorem y_Reform_emitl {D : va_G} {cA : FieldType → ClassId} {b : Nat} {E : State → Prop} {R : qRg} {o n : Nat} {sh : Nat → qC} {Rf : Nat → Nat → Option Nat} {I0 : Nat → Nat → Int32} {L0 : Nat → Nat → Int64} {post : Option Value → qS → Prop} {p1 : Int32} (hok : q_ok (qGG D cA b E)) (hw : WfReform (qGG D cA b E) n sh Rf o) (ra : RAReform R o) (hq0 : (0 : Int) ≤ p1.toInt ∧ p1.toInt ≤ 2147483647) (hR : RI R I0) (hp : ∀ (I' : Nat → Nat → Int32) (L' : Nat → Nat → Int64), RI R I' → Fm (fun c => (o ≤ c ∧ c < o + 5)) I0 I' → ((I' o 6).toInt = (I0 o 6).toInt) → ((I' o 8).toInt = (I0 o 8).toInt) → (FmL (fun c => False) L0 L') → post none (n, sh, Rf, I', L')) : Ev (qGG D cA b E) mReform_emit 0 (0, 0) 0 (lv_args 0 [.ref o, .int p1]) [] (n, sh, Rf, I0, L0) post := by
  have hf : Fm (fun c => (o ≤ c ∧ c < o + 5)) I0 I0 := Fm.rf
  have g_1 : (0 : Int) ≤ (I0 o 6).toInt ∧ (I0 o 6).toInt ≤ 5 := hR.at0 ra 6 (by decide)
  have g_2 : (-1 : Int) ≤ (I0 o 8).toInt ∧ (I0 o 8).toInt ≤ 10 := hR.at0 ra 8 (by decide)
  refine sReform_emit_0 o n sh Rf I0 L0 post p1 hok hw ?_
  unfold fReform_emit_0
  have hl : FmL (fun c => False) L0 L0 := FmL.rf
  have g_3 : (0 : Int) ≤ (I0 o 4).toInt ∧ (I0 o 4).toInt ≤ 700 := hR.at0 ra 4 (by decide)
  have l_4 : (700 : Int32).toInt = 700 := rfl
  refine ⟨fun c_5 => ?_, fun c_5 => ?_⟩
  · have d_6 := iLe c_5
    exact (hp _ _ hR hf (by first | omega | (intro h; omega) | exact Or.inl rfl | exact Or.inr rfl) (by first | omega | (intro h; omega) | exact Or.inl rfl | exact Or.inr rfl) hl)
  · have d_7 := iNle c_5
    have g_8 : (0 : Int) ≤ (I0 o 4).toInt ∧ (I0 o 4).toInt ≤ 700 := hR.at0 ra 4 (by decide)
    refine ⟨tIn (by omega) (by omega), fun I_9 e_10 => ?_⟩
    have hR_11 : RI R I_9 := hR.up ra 1 (by decide) (Or.inl rfl) e_10 (show (0 : Int) ≤ p1.toInt by omega) (show p1.toInt ≤ (2147483647 : Int) by omega)
    have hf_12 : Fm (fun c => (o ≤ c ∧ c < o + 5)) I0 I_9 := hf.set (by first | rfl | omega | (dsimp only; omega)) e_10
    have t_13 : (I_9 o 6).toInt = (I0 o 6).toInt := by rw [← e_10, q_u_ne (by omega)]
    have t_14 : (I_9 o 8).toInt = (I0 o 8).toInt := by rw [← e_10, q_u_ne (by omega)]
    have t_15 : (I_9 o 4).toInt = (I0 o 4).toInt := by rw [← e_10, q_u_ne (by omega)]
    have g_16 : (0 : Int) ≤ (I_9 o 4).toInt ∧ (I_9 o 4).toInt ≤ 700 := hR_11.at0 ra 4 (by decide)
    have l_17 : (1 : Int32).toInt = 1 := rfl
    have a_18 : ((I_9 o 4) + 1).toInt = (I_9 o 4).toInt + (1 : Int32).toInt := tAdd (by omega) (by omega)
    refine fun I_19 e_20 => ?_
    have hR_21 : RI R I_19 := hR_11.up0 (k := 4) ra (by decide) (Or.inl rfl) e_20 (show (0 : Int) ≤ ((I_9 o 4) + 1).toInt by omega) (show ((I_9 o 4) + 1).toInt ≤ (700 : Int) by omega)
    have hf_22 : Fm (fun c => (o ≤ c ∧ c < o + 5)) I0 I_19 := hf_12.set (by first | rfl | omega | (dsimp only; omega)) e_20
    have t_23 : (I_19 o 6).toInt = (I_9 o 6).toInt := by rw [← e_20, q_u_k (by decide)]
    have t_24 : (I_19 o 8).toInt = (I_9 o 8).toInt := by rw [← e_20, q_u_k (by decide)]
    have t_25 : (I_19 o 4).toInt = ((I_9 o 4) + 1).toInt := by rw [← e_20, q_u_at]
    exact (hp _ _ hR_21 hf_22 (by first | omega | (intro h; omega) | exact Or.inl rfl | exact Or.inr rfl) (by first | omega | (intro h; omega) | exact Or.inl rfl | exact Or.inr rfl) hl)
set_option maxHeartbeats 4000000 in
set_option maxRecDepth 20000 in
theorem y_Reform_isAskedl {D : va_G} {cA : FieldType → ClassId} {b : Nat} {E : State → Prop} {R : qRg} {n : Nat} {sh : Nat → qC} {Rf : Nat → Nat → Option Nat} {I0 : Nat → Nat → Int32} {L0 : Nat → Nat → Int64} {post : Option Value → qS → Prop} {p0 : Int32} (hok : q_ok (qGG D cA b E)) (hR : RI R I0) (hp : ∀ (r : Int32) , (Bz r) → (Im (r.toInt ≠ 0) (4 ≤ p0.toInt)) → post (some (.int r)) (n, sh, Rf, I0, L0)) : Ev (qGG D cA b E) mReform_isAsked 0 (0, 0) 0 (lv_args 0 [.int p0]) [] (n, sh, Rf, I0, L0) post := by
  refine sReform_isAsked_0 n sh Rf I0 L0 post p0 hok  ?_
  unfold fReform_isAsked_0
  have l_1 : (4 : Int32).toInt = 4 := rfl
  refine ⟨fun c_2 => ?_, fun c_2 => ?_⟩
  · have d_3 := iEq c_2
    unfold fReform_isAsked_11
    have l_4 : (1 : Int32).toInt = 1 := rfl
    exact (hp _ (Or.inr rfl) (by intro _; omega))
  · have d_5 := iNe c_2
    have l_6 : (23 : Int32).toInt = 23 := rfl
    refine ⟨fun c_7 => ?_, fun c_7 => ?_⟩
    · have d_8 := iLt c_7
      have l_9 : (0 : Int32).toInt = 0 := rfl
      exact (hp _ (Or.inl rfl) (by intro _; omega))
    · have d_10 := iNlt c_7
      unfold fReform_isAsked_11
      have l_11 : (1 : Int32).toInt = 1 := rfl
      exact (hp _ (Or.inr rfl) (by intro _; omega))
set_option maxHeartbeats 4000000 in
set_option maxRecDepth 20000 in
theorem y_Reform_mayAskl {D : va_G} {cA : FieldType → ClassId} {b : Nat} {E : State → Prop} {R : qRg} {o n : Nat} {sh : Nat → qC} {Rf : Nat → Nat → Option Nat} {I0 : Nat → Nat → Int32} {L0 : Nat → Nat → Int64} {post : Option Value → qS → Prop} {p1 : Int32} (hok : q_ok (qGG D cA b E)) (hw : WfReform (qGG D cA b E) n sh Rf o) (ra : RAReform R o) (hR : RI R I0) (hp : ∀ (r : Int32) , (Bz r) → post (some (.int r)) (n, sh, Rf, I0, L0)) : Ev (qGG D cA b E) mReform_mayAsk 0 (0, 0) 0 (lv_args 0 [.ref o, .int p1]) [] (n, sh, Rf, I0, L0) post := by
  refine sReform_mayAsk_0 o n sh Rf I0 L0 post p1 hok hw ?_
  unfold fReform_mayAsk_0
  have l_2 : (4 : Int32).toInt = 4 := rfl
  refine ⟨fun c_1 => ?_, fun c_1 => ?_⟩
  · have d_3 := iEq c_1
    unfold fReform_mayAsk_60
    have g_4 : (-1 : Int) ≤ (I0 o 8).toInt ∧ (I0 o 8).toInt ≤ 10 := hR.at0 ra 8 (by decide)
    have l_5 : (0 : Int32).toInt = 0 := rfl
    refine ⟨fun c_6 => ?_, fun c_6 => ?_⟩
    · have d_7 := iNe c_6
      exact (hp _ (Or.inl rfl))
    · have d_8 := iEq c_6
      have l_9 : (1 : Int32).toInt = 1 := rfl
      exact (hp _ (Or.inr rfl))
  have d_10 := iNe c_1
  have l_12 : (25 : Int32).toInt = 25 := rfl
  refine ⟨fun c_11 => ?_, fun c_11 => ?_⟩
  · have d_13 := iEq c_11
    unfold fReform_mayAsk_60
    have g_14 : (-1 : Int) ≤ (I0 o 8).toInt ∧ (I0 o 8).toInt ≤ 10 := hR.at0 ra 8 (by decide)
    have l_15 : (0 : Int32).toInt = 0 := rfl
    refine ⟨fun c_16 => ?_, fun c_16 => ?_⟩
    · have d_17 := iNe c_16
      exact (hp _ (Or.inl rfl))
    · have d_18 := iEq c_16
      have l_19 : (1 : Int32).toInt = 1 := rfl
      exact (hp _ (Or.inr rfl))
  have d_20 := iNe c_11
  have l_22 : (26 : Int32).toInt = 26 := rfl
  refine ⟨fun c_21 => ?_, fun c_21 => ?_⟩
  · have d_23 := iEq c_21
    have g_24 : (-1 : Int) ≤ (I0 o 8).toInt ∧ (I0 o 8).toInt ≤ 10 := hR.at0 ra 8 (by decide)
    have l_25 : (0 : Int32).toInt = 0 := rfl
    refine ⟨fun c_26 => ?_, fun c_26 => ?_⟩
    · have d_27 := iEq c_26
      unfold fReform_mayAsk_89
      have l_28 : (1 : Int32).toInt = 1 := rfl
      exact (hp _ (Or.inr rfl))
    · have d_29 := iNe c_26
      have g_30 : (-1 : Int) ≤ (I0 o 8).toInt ∧ (I0 o 8).toInt ≤ 10 := hR.at0 ra 8 (by decide)
      have l_31 : (6 : Int32).toInt = 6 := rfl
      refine ⟨fun c_32 => ?_, fun c_32 => ?_⟩
      · have d_33 := iLt c_32
        exact (hp _ (Or.inl rfl))
      · have d_34 := iNlt c_32
        unfold fReform_mayAsk_89
        have l_35 : (1 : Int32).toInt = 1 := rfl
        exact (hp _ (Or.inr rfl))
  have d_36 := iNe c_21
  have l_38 : (28 : Int32).toInt = 28 := rfl
  refine ⟨fun c_37 => ?_, fun c_37 => ?_⟩
  · have d_39 := iEq c_37
    unfold fReform_mayAsk_95
    have g_40 : (-1 : Int) ≤ (I0 o 8).toInt ∧ (I0 o 8).toInt ≤ 10 := hR.at0 ra 8 (by decide)
    have l_41 : (6 : Int32).toInt = 6 := rfl
    refine ⟨fun c_42 => ?_, fun c_42 => ?_⟩
    · have d_43 := iLt c_42
      have l_44 : (0 : Int32).toInt = 0 := rfl
      exact (hp _ (Or.inl rfl))
    · have d_45 := iNlt c_42
      have l_46 : (1 : Int32).toInt = 1 := rfl
      exact (hp _ (Or.inr rfl))
  have d_47 := iNe c_37
  have l_49 : (29 : Int32).toInt = 29 := rfl
  refine ⟨fun c_48 => ?_, fun c_48 => ?_⟩
  · have d_50 := iEq c_48
    unfold fReform_mayAsk_95
    have g_51 : (-1 : Int) ≤ (I0 o 8).toInt ∧ (I0 o 8).toInt ≤ 10 := hR.at0 ra 8 (by decide)
    have l_52 : (6 : Int32).toInt = 6 := rfl
    refine ⟨fun c_53 => ?_, fun c_53 => ?_⟩
    · have d_54 := iLt c_53
      have l_55 : (0 : Int32).toInt = 0 := rfl
      exact (hp _ (Or.inl rfl))
    · have d_56 := iNlt c_53
      have l_57 : (1 : Int32).toInt = 1 := rfl
      exact (hp _ (Or.inr rfl))
  have d_58 := iNe c_48
  have l_60 : (30 : Int32).toInt = 30 := rfl
  refine ⟨fun c_59 => ?_, fun c_59 => ?_⟩
  · have d_61 := iEq c_59
    unfold fReform_mayAsk_95
    have g_62 : (-1 : Int) ≤ (I0 o 8).toInt ∧ (I0 o 8).toInt ≤ 10 := hR.at0 ra 8 (by decide)
    have l_63 : (6 : Int32).toInt = 6 := rfl
    refine ⟨fun c_64 => ?_, fun c_64 => ?_⟩
    · have d_65 := iLt c_64
      have l_66 : (0 : Int32).toInt = 0 := rfl
      exact (hp _ (Or.inl rfl))
    · have d_67 := iNlt c_64
      have l_68 : (1 : Int32).toInt = 1 := rfl
      exact (hp _ (Or.inr rfl))
  have d_69 := iNe c_59
  have l_70 : (1 : Int32).toInt = 1 := rfl
  exact (hp _ (Or.inr rfl))
set_option maxHeartbeats 4000000 in
set_option maxRecDepth 20000 in
theorem y_Reform_freeSlotl {D : va_G} {cA : FieldType → ClassId} {b : Nat} {E : State → Prop} {R : qRg} {o n : Nat} {sh : Nat → qC} {Rf : Nat → Nat → Option Nat} {I0 : Nat → Nat → Int32} {L0 : Nat → Nat → Int64} {post : Option Value → qS → Prop} {x1 : Nat} (hok : q_ok (qGG D cA b E)) (hw : WfReform (qGG D cA b E) n sh Rf o) (ra : RAReform R o) (hw1 : WfTape (qGG D cA b E) n sh Rf x1) (ra1 : RATape R x1) (hR : RI R I0) (hp : ∀ (r : Int32) , (((-1 : Int) ≤ r.toInt ∧ r.toInt ≤ 10)) → (r.toInt ≤ 5 ∨ (I0 o 6).toInt ≤ 4) → post (some (.int r)) (n, sh, Rf, I0, L0)) : Ev (qGG D cA b E) mReform_freeSlot 1 (0, 0) 0 (lv_args 0 [.ref o, .ref x1]) [] (n, sh, Rf, I0, L0) post := by
  have g_1 : (0 : Int) ≤ (I0 o 6).toInt ∧ (I0 o 6).toInt ≤ 5 := hR.at0 ra 6 (by decide)
  refine sReform_freeSlot_0 o n sh Rf I0 L0 post x1 hok hw hw1 ?_
  unfold fReform_freeSlot_0
  refine y_Tape_kindg hok hw1 ra1 hR (fun r_2 u_3 gn_4 => ⟨r_2, I0, L0, rfl, rfl, ?_⟩)
  clear gn_4
  have l_5 : (1 : Int32).toInt = 1 := rfl
  refine ⟨fun c_6 => ?_, fun c_6 => ?_⟩
  · have d_7 := iNe c_6
    have l_8 : (-1 : Int32).toInt = -1 := rfl
    exact (hp _ (by first | omega | (intro h; omega) | exact Or.inl rfl | exact Or.inr rfl) (by first | omega | (intro h; omega) | exact Or.inl rfl | exact Or.inr rfl))
  · have d_9 := iEq c_6
    refine y_Tape_valueg hok hw1 ra1 hR (fun r_10 u_11 gn_12 => ⟨r_10, I0, L0, rfl, rfl, ?_⟩)
    clear gn_12
    have l_13 : (14 : Int32).toInt = 14 := rfl
    refine ⟨fun c_14 => ?_, fun c_14 => ?_⟩
    · have d_15 := iLt c_14
      have l_16 : (-1 : Int32).toInt = -1 := rfl
      exact (hp _ (by first | omega | (intro h; omega) | exact Or.inl rfl | exact Or.inr rfl) (by first | omega | (intro h; omega) | exact Or.inl rfl | exact Or.inr rfl))
    · have d_17 := iNlt c_14
      refine y_Tape_valueg hok hw1 ra1 hR (fun r_18 u_19 gn_20 => ⟨r_18, I0, L0, rfl, rfl, ?_⟩)
      clear gn_20
      have j_21 := iEq (u_19.trans u_11.symm)
      have l_22 : (19 : Int32).toInt = 19 := rfl
      refine ⟨fun c_23 => ?_, fun c_23 => ?_⟩
      · have d_24 := iLe c_23
        refine y_Tape_valueg hok hw1 ra1 hR (fun r_25 u_26 gn_27 => ⟨r_25, I0, L0, rfl, rfl, ?_⟩)
        clear gn_27
        have j_28 := iEq (u_26.trans u_19.symm)
        have l_29 : (15 : Int32).toInt = 15 := rfl
        refine ⟨fun c_30 => ?_, fun c_30 => ?_⟩
        · have d_31 := iNe c_30
          refine y_Tape_valueg hok hw1 ra1 hR (fun r_32 u_33 gn_34 => ⟨r_32, I0, L0, rfl, rfl, ?_⟩)
          clear gn_34
          have j_35 := iEq (u_33.trans u_26.symm)
          have v_36 : (14 : Int) ≤ r_32.toInt ∧ r_32.toInt ≤ 19 := by omega
          have a_37 : (r_32 - 14).toInt = r_32.toInt - (14 : Int32).toInt := tSub (by omega) (by omega)
          refine ⟨tIn (by omega) (by omega), ?_⟩
          have g_38 : (0 : Int) ≤ (I0 (o + 3) ((r_32 - 14) : Int32).toNatClampNeg).toInt ∧ (I0 (o + 3) ((r_32 - 14) : Int32).toNatClampNeg).toInt ≤ 700 := hR.at ra 3 _ (by decide)
          have l_39 : (0 : Int32).toInt = 0 := rfl
          refine ⟨fun c_40 => ?_, fun c_40 => ?_⟩
          · have d_41 := iNe c_40
            have l_42 : (-1 : Int32).toInt = -1 := rfl
            exact (hp _ (by first | omega | (intro h; omega) | exact Or.inl rfl | exact Or.inr rfl) (by first | omega | (intro h; omega) | exact Or.inl rfl | exact Or.inr rfl))
          · have d_43 := iEq c_40
            exact (hp _ (by first | omega | (intro h; omega) | exact Or.inl rfl | exact Or.inr rfl) (by first | omega | (intro h; omega) | exact Or.inl rfl | exact Or.inr rfl))
        · have d_44 := iEq c_30
          have g_45 : (0 : Int) ≤ (I0 o 6).toInt ∧ (I0 o 6).toInt ≤ 5 := hR.at0 ra 6 (by decide)
          have l_46 : (5 : Int32).toInt = 5 := rfl
          refine ⟨fun c_47 => ?_, fun c_47 => ?_⟩
          · have d_48 := iLe c_47
            have l_49 : (-1 : Int32).toInt = -1 := rfl
            exact (hp _ (by first | omega | (intro h; omega) | exact Or.inl rfl | exact Or.inr rfl) (by first | omega | (intro h; omega) | exact Or.inl rfl | exact Or.inr rfl))
          · have d_50 := iNle c_47
            have g_51 : (0 : Int) ≤ (I0 o 6).toInt ∧ (I0 o 6).toInt ≤ 5 := hR.at0 ra 6 (by decide)
            have l_52 : (6 : Int32).toInt = 6 := rfl
            have a_53 : (6 + (I0 o 6)).toInt = (6 : Int32).toInt + (I0 o 6).toInt := tAdd (by omega) (by omega)
            exact (hp _ (by first | omega | (intro h; omega) | exact Or.inl rfl | exact Or.inr rfl) (by first | omega | (intro h; omega) | exact Or.inl rfl | exact Or.inr rfl))
      · have d_54 := iNle c_23
        have l_55 : (-1 : Int32).toInt = -1 := rfl
        exact (hp _ (by first | omega | (intro h; omega) | exact Or.inl rfl | exact Or.inr rfl) (by first | omega | (intro h; omega) | exact Or.inl rfl | exact Or.inr rfl))
set_option maxHeartbeats 4000000 in
set_option maxRecDepth 20000 in
theorem yReform_readEither_8l {D : va_G} {cA : FieldType → ClassId} {b : Nat} {E : State → Prop} {R : qRg} {o n : Nat} {sh : Nat → qC} {Rf : Nat → Nat → Option Nat} {I0 : Nat → Nat → Int32} {L0 : Nat → Nat → Int64} {post : Option Value → qS → Prop} {x1 : Nat} {p2 : Int32} (hok : q_ok (qGG D cA b E)) (hw : WfReform (qGG D cA b E) n sh Rf o) (ra : RAReform R o) (hw1 : WfTape (qGG D cA b E) n sh Rf x1) (ra1 : RATape R x1) {d : Nat} {lo : Int} (hd0 : 5 ≤ d) (cReform_readBoth : ∀ (J : Nat → Nat → Int32) (K : Nat → Nat → Int64) (post : Option Value → qS → Prop) (q : Int32), RI R J → TokOK J x1 → lo ≤ q.toInt → q.toInt ≤ 7 → (∀ I' L', RI R I' → Fm (fun c => (o ≤ c ∧ c < o + 5) ∨ c = x1) J I' → (I' o 6).toInt = (J o 6).toInt → (I' o 8).toInt = (J o 8).toInt → (FmL (fun c => False) K L') → post none (n, sh, Rf, I', L')) → Ev (qGG D cA b E) mReform_readBoth d (0, 0) 0 (lv_args 0 [.ref o, .ref x1, .int q]) [] (n, sh, Rf, J, K) post) (hs0 : o + 5 ≤ x1 ∨ x1 + 7 ≤ o) (hs1 : 0 ≤ lo) (hq0 : lo ≤ p2.toInt) (hq1 : p2.toInt ≤ 7) (hq2 : TokOK I0 x1) (hp : ∀ (I' : Nat → Nat → Int32) (L' : Nat → Nat → Int64), RI R I' → Fm (fun c => (o ≤ c ∧ c < o + 5) ∨ c = x1) I0 I' → ((I' o 6).toInt = (I0 o 6).toInt) → ((I' o 8).toInt = (I0 o 8).toInt) → (FmL (fun c => False) L0 L') → post none (n, sh, Rf, I', L')) : ∀ (k : Nat) {x2 : Int32} {x3 : Int32} {I : Nat → Nat → Int32} {L : Nat → Nat → Int64}, RI R I → Fm (fun c => (o ≤ c ∧ c < o + 5) ∨ c = x1) I0 I → ((0 : Int) ≤ x3.toInt ∧ x3.toInt ≤ 700) → ((I o 6).toInt = (I0 o 6).toInt) → ((I o 8).toInt = (I0 o 8).toInt) → (x2 = p2) → (TokOK I x1) → (FmL (fun c => False) L0 L) → (700 - x3.toInt).toNat < k → Ev (qGG D cA b E) mReform_readEither (d + 1) (0, 0) 8 [(0, .ref o), (1, .ref x1), (2, .int x2), (3, .int x3)] [] (n, sh, Rf, I, L) post := by
  intro k
  induction k with
  | zero =>
    intro x2 x3 I L hR hf hi0 hi1 hi2 hi3 hi4 hl hm
    exact absurd hm (Nat.not_lt_zero _)
  | succ k ih =>
    intro x2 x3 I L hR hf hi0 hi1 hi2 hi3 hi4 hl hm
    have hz0 := hi3.symm
    subst hz0
    have g_1 : (0 : Int) ≤ (I o 6).toInt ∧ (I o 6).toInt ≤ 5 := hR.at0 ra 6 (by decide)
    have g_2 : (-1 : Int) ≤ (I o 8).toInt ∧ (I o 8).toInt ≤ 10 := hR.at0 ra 8 (by decide)
    refine sReform_readEither_8 o n sh Rf I L post x1 p2 x3 d hok hw hw1 hd0 ?_
    unfold fReform_readEither_8
    have l_3 : (700 : Int32).toInt = 700 := rfl
    refine ⟨fun c_4 => ?_, fun c_4 => ?_⟩
    · have d_5 := iLe c_4
      exact (hp _ _ hR hf (by first | omega | (intro h; omega) | exact Or.inl rfl | exact Or.inr rfl) (by first | omega | (intro h; omega) | exact Or.inl rfl | exact Or.inr rfl) hl)
    · have d_6 := iNle c_4
      have l_7 : (21 : Int32).toInt = 21 := rfl
      refine y_Tape_isWordg hok hw1 ra1 hR (fun r_8 u_9 gn_10 => ⟨r_8, I, L, rfl, rfl, ?_⟩)
      clear gn_10
      have b_11 : 0 ≤ r_8.toInt ∧ r_8.toInt ≤ 1 := u_9.rg
      have l_12 : (0 : Int32).toInt = 0 := rfl
      refine ⟨fun c_13 => ?_, fun c_13 => ?_⟩
      · have d_14 := iEq c_13
        exact (hp _ _ hR hf (by first | omega | (intro h; omega) | exact Or.inl rfl | exact Or.inr rfl) (by first | omega | (intro h; omega) | exact Or.inl rfl | exact Or.inr rfl) hl)
      · have d_15 := iNe c_13
        refine y_Tape_stepg hok hw1 ra1 hR (fun I_20 L_21 hR_22 fr_23 u_17 gn_18 ln_19 => ⟨I_20, L_21, rfl, rfl, ?_⟩)
        replace hl := hl.call ln_19 (fun c hc => by first | exact hc | exact False.elim hc | (dsimp only at hc ⊢; omega) | omega)
        clear gn_18
        have hf_24 : Fm (fun c => (o ≤ c ∧ c < o + 5) ∨ c = x1) I0 I_20 := hf.call fr_23 (fun c hc => by first | exact hc | (dsimp only at hc ⊢; omega) | omega)
        have t_25 : (I_20 o 6).toInt = (I o 6).toInt := by rw [fr_23 o (by first | omega | (dsimp only; omega))]
        have t_26 : (I_20 o 8).toInt = (I o 8).toInt := by rw [fr_23 o (by first | omega | (dsimp only; omega))]
        have k_27 : TokOK I_20 x1 := hi4.fr (fr_23 _ (by first | omega | (dsimp only; omega))) (fr_23 _ (by first | omega | (dsimp only; omega)))
        refine cReform_readBoth I_20 L_21 _ _ hR_22 k_27 (by omega) (by omega) (fun I_28 L_29 hR_30 fr_31 k6_34 k8_35 lz_33 => ⟨I_28, L_29, rfl, rfl, ?_⟩)
        replace hl := hl.call lz_33 (fun c hc => False.elim hc)
        have hf_32 : Fm (fun c => (o ≤ c ∧ c < o + 5) ∨ c = x1) I0 I_28 := hf_24.call fr_31 (fun c hc => hc)
        have k_36 : TokOK I_28 x1 := k_27.fr (fr_31 _ (by first | omega | (dsimp only; omega))) (fr_31 _ (by first | omega | (dsimp only; omega)))
        refine y_Reform_emitl hok hw ra (by first | omega | (intro h; omega) | exact Or.inl rfl | exact Or.inr rfl) hR_30 (fun I_41 L_42 hR_43 fr_44 u_38 u_39 ln_40 => ⟨I_41, L_42, rfl, rfl, ?_⟩)
        replace hl := hl.call ln_40 (fun c hc => by first | exact hc | exact False.elim hc | (dsimp only at hc ⊢; omega) | omega)
        have hf_45 : Fm (fun c => (o ≤ c ∧ c < o + 5) ∨ c = x1) I0 I_41 := hf_32.call fr_44 (fun c hc => by first | exact hc | (dsimp only at hc ⊢; omega) | omega)
        have g_46 : (0 : Int) ≤ (I_41 o 6).toInt ∧ (I_41 o 6).toInt ≤ 5 := hR_43.at0 ra 6 (by decide)
        have g_47 : (-1 : Int) ≤ (I_41 o 8).toInt ∧ (I_41 o 8).toInt ≤ 10 := hR_43.at0 ra 8 (by decide)
        have k_48 : TokOK I_41 x1 := k_36.fr (fr_44 _ (by first | omega | (dsimp only; omega))) (fr_44 _ (by first | omega | (dsimp only; omega)))
        have a_50 : (x3 + Int32.ofInt 1).toInt = x3.toInt + (1) := tIc (by omega) (by omega) (by decide) (by decide)
        generalize ez_49 : (x3 + Int32.ofInt 1) = z_49 at a_50 ⊢
        exact ih hR_43 hf_45 (by first | omega | (intro h; omega) | exact Or.inl rfl | exact Or.inr rfl) (by first | omega | (intro h; omega) | exact Or.inl rfl | exact Or.inr rfl) (by first | omega | (intro h; omega) | exact Or.inl rfl | exact Or.inr rfl) rfl k_48 hl (by omega)
set_option maxHeartbeats 4000000 in
set_option maxRecDepth 20000 in
theorem y_Reform_readEitherl {D : va_G} {cA : FieldType → ClassId} {b : Nat} {E : State → Prop} {R : qRg} {o n : Nat} {sh : Nat → qC} {Rf : Nat → Nat → Option Nat} {I0 : Nat → Nat → Int32} {L0 : Nat → Nat → Int64} {post : Option Value → qS → Prop} {x1 : Nat} {p2 : Int32} (hok : q_ok (qGG D cA b E)) (hw : WfReform (qGG D cA b E) n sh Rf o) (ra : RAReform R o) (hw1 : WfTape (qGG D cA b E) n sh Rf x1) (ra1 : RATape R x1) {d : Nat} {lo : Int} (hd0 : 5 ≤ d) (cReform_readBoth : ∀ (J : Nat → Nat → Int32) (K : Nat → Nat → Int64) (post : Option Value → qS → Prop) (q : Int32), RI R J → TokOK J x1 → lo ≤ q.toInt → q.toInt ≤ 7 → (∀ I' L', RI R I' → Fm (fun c => (o ≤ c ∧ c < o + 5) ∨ c = x1) J I' → (I' o 6).toInt = (J o 6).toInt → (I' o 8).toInt = (J o 8).toInt → (FmL (fun c => False) K L') → post none (n, sh, Rf, I', L')) → Ev (qGG D cA b E) mReform_readBoth d (0, 0) 0 (lv_args 0 [.ref o, .ref x1, .int q]) [] (n, sh, Rf, J, K) post) (hs0 : o + 5 ≤ x1 ∨ x1 + 7 ≤ o) (hs1 : 0 ≤ lo) (hq0 : lo ≤ p2.toInt) (hq1 : p2.toInt ≤ 7) (hq2 : TokOK I0 x1) (hR : RI R I0) (hp : ∀ (I' : Nat → Nat → Int32) (L' : Nat → Nat → Int64), RI R I' → Fm (fun c => (o ≤ c ∧ c < o + 5) ∨ c = x1) I0 I' → ((I' o 6).toInt = (I0 o 6).toInt) → ((I' o 8).toInt = (I0 o 8).toInt) → (FmL (fun c => False) L0 L') → post none (n, sh, Rf, I', L')) : Ev (qGG D cA b E) mReform_readEither (d + 1) (0, 0) 0 (lv_args 0 [.ref o, .ref x1, .int p2]) [] (n, sh, Rf, I0, L0) post := by
  have hf : Fm (fun c => (o ≤ c ∧ c < o + 5) ∨ c = x1) I0 I0 := Fm.rf
  have g_51 : (0 : Int) ≤ (I0 o 6).toInt ∧ (I0 o 6).toInt ≤ 5 := hR.at0 ra 6 (by decide)
  have g_52 : (-1 : Int) ≤ (I0 o 8).toInt ∧ (I0 o 8).toInt ≤ 10 := hR.at0 ra 8 (by decide)
  refine sReform_readEither_0 o n sh Rf I0 L0 post x1 p2 d hok hw hw1 hd0 ?_
  unfold fReform_readEither_0
  have hl : FmL (fun c => False) L0 L0 := FmL.rf
  refine cReform_readBoth I0 L0 _ _ hR hq2 (by omega) (by omega) (fun I_53 L_54 hR_55 fr_56 k6_59 k8_60 lz_58 => ⟨I_53, L_54, rfl, rfl, ?_⟩)
  replace hl := hl.call lz_58 (fun c hc => False.elim hc)
  have hf_57 : Fm (fun c => (o ≤ c ∧ c < o + 5) ∨ c = x1) I0 I_53 := hf.call fr_56 (fun c hc => hc)
  have k_61 : TokOK I_53 x1 := hq2.fr (fr_56 _ (by first | omega | (dsimp only; omega))) (fr_56 _ (by first | omega | (dsimp only; omega)))
  have l_62 : (0 : Int32).toInt = 0 := rfl
  exact yReform_readEither_8l (I0 := I0) (L0 := L0) (p2 := p2) hok hw ra hw1 ra1 hd0 cReform_readBoth hs0 hs1 hq0 hq1 hq2 hp  _ hR_55 hf_57 (by first | omega | (intro h; omega) | exact Or.inl rfl | exact Or.inr rfl) (by first | omega | (intro h; omega) | exact Or.inl rfl | exact Or.inr rfl) (by first | omega | (intro h; omega) | exact Or.inl rfl | exact Or.inr rfl) rfl k_61 hl (Nat.lt_succ_self _)
set_option maxHeartbeats 4000000 in
set_option maxRecDepth 20000 in
theorem yReform_readBoth_8l {D : va_G} {cA : FieldType → ClassId} {b : Nat} {E : State → Prop} {R : qRg} {o n : Nat} {sh : Nat → qC} {Rf : Nat → Nat → Option Nat} {I0 : Nat → Nat → Int32} {L0 : Nat → Nat → Int64} {post : Option Value → qS → Prop} {x1 : Nat} {p2 : Int32} (hok : q_ok (qGG D cA b E)) (hw : WfReform (qGG D cA b E) n sh Rf o) (ra : RAReform R o) (hw1 : WfTape (qGG D cA b E) n sh Rf x1) (ra1 : RATape R x1) {d : Nat} {lo : Int} (hd0 : 5 ≤ d) (cReform_readOne : ∀ (J : Nat → Nat → Int32) (K : Nat → Nat → Int64) (post : Option Value → qS → Prop) (q : Int32), RI R J → TokOK J x1 → lo ≤ q.toInt → q.toInt ≤ 7 → (∀ I' L', RI R I' → Fm (fun c => (o ≤ c ∧ c < o + 5) ∨ c = x1) J I' → (I' o 6).toInt = (J o 6).toInt → (I' o 8).toInt = (J o 8).toInt → (FmL (fun c => False) K L') → post none (n, sh, Rf, I', L')) → Ev (qGG D cA b E) mReform_readOne d (0, 0) 0 (lv_args 0 [.ref o, .ref x1, .int q]) [] (n, sh, Rf, J, K) post) (hs0 : o + 5 ≤ x1 ∨ x1 + 7 ≤ o) (hs1 : 0 ≤ lo) (hq0 : lo ≤ p2.toInt) (hq1 : p2.toInt ≤ 7) (hq2 : TokOK I0 x1) (hp : ∀ (I' : Nat → Nat → Int32) (L' : Nat → Nat → Int64), RI R I' → Fm (fun c => (o ≤ c ∧ c < o + 5) ∨ c = x1) I0 I' → ((I' o 6).toInt = (I0 o 6).toInt) → ((I' o 8).toInt = (I0 o 8).toInt) → (FmL (fun c => False) L0 L') → post none (n, sh, Rf, I', L')) : ∀ (k : Nat) {x2 : Int32} {x3 : Int32} {I : Nat → Nat → Int32} {L : Nat → Nat → Int64}, RI R I → Fm (fun c => (o ≤ c ∧ c < o + 5) ∨ c = x1) I0 I → ((0 : Int) ≤ x3.toInt ∧ x3.toInt ≤ 700) → ((I o 6).toInt = (I0 o 6).toInt) → ((I o 8).toInt = (I0 o 8).toInt) → (x2 = p2) → (TokOK I x1) → (FmL (fun c => False) L0 L) → (700 - x3.toInt).toNat < k → Ev (qGG D cA b E) mReform_readBoth (d + 1) (0, 0) 8 [(0, .ref o), (1, .ref x1), (2, .int x2), (3, .int x3)] [] (n, sh, Rf, I, L) post := by
  intro k
  induction k with
  | zero =>
    intro x2 x3 I L hR hf hi0 hi1 hi2 hi3 hi4 hl hm
    exact absurd hm (Nat.not_lt_zero _)
  | succ k ih =>
    intro x2 x3 I L hR hf hi0 hi1 hi2 hi3 hi4 hl hm
    have hz0 := hi3.symm
    subst hz0
    have g_1 : (0 : Int) ≤ (I o 6).toInt ∧ (I o 6).toInt ≤ 5 := hR.at0 ra 6 (by decide)
    have g_2 : (-1 : Int) ≤ (I o 8).toInt ∧ (I o 8).toInt ≤ 10 := hR.at0 ra 8 (by decide)
    refine sReform_readBoth_8 o n sh Rf I L post x1 p2 x3 d hok hw hw1 hd0 ?_
    unfold fReform_readBoth_8
    have l_3 : (700 : Int32).toInt = 700 := rfl
    refine ⟨fun c_4 => ?_, fun c_4 => ?_⟩
    · have d_5 := iLe c_4
      exact (hp _ _ hR hf (by first | omega | (intro h; omega) | exact Or.inl rfl | exact Or.inr rfl) (by first | omega | (intro h; omega) | exact Or.inl rfl | exact Or.inr rfl) hl)
    · have d_6 := iNle c_4
      have l_7 : (20 : Int32).toInt = 20 := rfl
      refine y_Tape_isWordg hok hw1 ra1 hR (fun r_8 u_9 gn_10 => ⟨r_8, I, L, rfl, rfl, ?_⟩)
      clear gn_10
      have b_11 : 0 ≤ r_8.toInt ∧ r_8.toInt ≤ 1 := u_9.rg
      have l_12 : (0 : Int32).toInt = 0 := rfl
      refine ⟨fun c_13 => ?_, fun c_13 => ?_⟩
      · have d_14 := iEq c_13
        exact (hp _ _ hR hf (by first | omega | (intro h; omega) | exact Or.inl rfl | exact Or.inr rfl) (by first | omega | (intro h; omega) | exact Or.inl rfl | exact Or.inr rfl) hl)
      · have d_15 := iNe c_13
        refine y_Tape_stepg hok hw1 ra1 hR (fun I_20 L_21 hR_22 fr_23 u_17 gn_18 ln_19 => ⟨I_20, L_21, rfl, rfl, ?_⟩)
        replace hl := hl.call ln_19 (fun c hc => by first | exact hc | exact False.elim hc | (dsimp only at hc ⊢; omega) | omega)
        clear gn_18
        have hf_24 : Fm (fun c => (o ≤ c ∧ c < o + 5) ∨ c = x1) I0 I_20 := hf.call fr_23 (fun c hc => by first | exact hc | (dsimp only at hc ⊢; omega) | omega)
        have t_25 : (I_20 o 6).toInt = (I o 6).toInt := by rw [fr_23 o (by first | omega | (dsimp only; omega))]
        have t_26 : (I_20 o 8).toInt = (I o 8).toInt := by rw [fr_23 o (by first | omega | (dsimp only; omega))]
        have k_27 : TokOK I_20 x1 := hi4.fr (fr_23 _ (by first | omega | (dsimp only; omega))) (fr_23 _ (by first | omega | (dsimp only; omega)))
        refine cReform_readOne I_20 L_21 _ _ hR_22 k_27 (by omega) (by omega) (fun I_28 L_29 hR_30 fr_31 k6_34 k8_35 lz_33 => ⟨I_28, L_29, rfl, rfl, ?_⟩)
        replace hl := hl.call lz_33 (fun c hc => False.elim hc)
        have hf_32 : Fm (fun c => (o ≤ c ∧ c < o + 5) ∨ c = x1) I0 I_28 := hf_24.call fr_31 (fun c hc => hc)
        have k_36 : TokOK I_28 x1 := k_27.fr (fr_31 _ (by first | omega | (dsimp only; omega))) (fr_31 _ (by first | omega | (dsimp only; omega)))
        refine y_Reform_emitl hok hw ra (by first | omega | (intro h; omega) | exact Or.inl rfl | exact Or.inr rfl) hR_30 (fun I_41 L_42 hR_43 fr_44 u_38 u_39 ln_40 => ⟨I_41, L_42, rfl, rfl, ?_⟩)
        replace hl := hl.call ln_40 (fun c hc => by first | exact hc | exact False.elim hc | (dsimp only at hc ⊢; omega) | omega)
        have hf_45 : Fm (fun c => (o ≤ c ∧ c < o + 5) ∨ c = x1) I0 I_41 := hf_32.call fr_44 (fun c hc => by first | exact hc | (dsimp only at hc ⊢; omega) | omega)
        have g_46 : (0 : Int) ≤ (I_41 o 6).toInt ∧ (I_41 o 6).toInt ≤ 5 := hR_43.at0 ra 6 (by decide)
        have g_47 : (-1 : Int) ≤ (I_41 o 8).toInt ∧ (I_41 o 8).toInt ≤ 10 := hR_43.at0 ra 8 (by decide)
        have k_48 : TokOK I_41 x1 := k_36.fr (fr_44 _ (by first | omega | (dsimp only; omega))) (fr_44 _ (by first | omega | (dsimp only; omega)))
        have a_50 : (x3 + Int32.ofInt 1).toInt = x3.toInt + (1) := tIc (by omega) (by omega) (by decide) (by decide)
        generalize ez_49 : (x3 + Int32.ofInt 1) = z_49 at a_50 ⊢
        exact ih hR_43 hf_45 (by first | omega | (intro h; omega) | exact Or.inl rfl | exact Or.inr rfl) (by first | omega | (intro h; omega) | exact Or.inl rfl | exact Or.inr rfl) (by first | omega | (intro h; omega) | exact Or.inl rfl | exact Or.inr rfl) rfl k_48 hl (by omega)
set_option maxHeartbeats 4000000 in
set_option maxRecDepth 20000 in
theorem y_Reform_readBothl {D : va_G} {cA : FieldType → ClassId} {b : Nat} {E : State → Prop} {R : qRg} {o n : Nat} {sh : Nat → qC} {Rf : Nat → Nat → Option Nat} {I0 : Nat → Nat → Int32} {L0 : Nat → Nat → Int64} {post : Option Value → qS → Prop} {x1 : Nat} {p2 : Int32} (hok : q_ok (qGG D cA b E)) (hw : WfReform (qGG D cA b E) n sh Rf o) (ra : RAReform R o) (hw1 : WfTape (qGG D cA b E) n sh Rf x1) (ra1 : RATape R x1) {d : Nat} {lo : Int} (hd0 : 5 ≤ d) (cReform_readOne : ∀ (J : Nat → Nat → Int32) (K : Nat → Nat → Int64) (post : Option Value → qS → Prop) (q : Int32), RI R J → TokOK J x1 → lo ≤ q.toInt → q.toInt ≤ 7 → (∀ I' L', RI R I' → Fm (fun c => (o ≤ c ∧ c < o + 5) ∨ c = x1) J I' → (I' o 6).toInt = (J o 6).toInt → (I' o 8).toInt = (J o 8).toInt → (FmL (fun c => False) K L') → post none (n, sh, Rf, I', L')) → Ev (qGG D cA b E) mReform_readOne d (0, 0) 0 (lv_args 0 [.ref o, .ref x1, .int q]) [] (n, sh, Rf, J, K) post) (hs0 : o + 5 ≤ x1 ∨ x1 + 7 ≤ o) (hs1 : 0 ≤ lo) (hq0 : lo ≤ p2.toInt) (hq1 : p2.toInt ≤ 7) (hq2 : TokOK I0 x1) (hR : RI R I0) (hp : ∀ (I' : Nat → Nat → Int32) (L' : Nat → Nat → Int64), RI R I' → Fm (fun c => (o ≤ c ∧ c < o + 5) ∨ c = x1) I0 I' → ((I' o 6).toInt = (I0 o 6).toInt) → ((I' o 8).toInt = (I0 o 8).toInt) → (FmL (fun c => False) L0 L') → post none (n, sh, Rf, I', L')) : Ev (qGG D cA b E) mReform_readBoth (d + 1) (0, 0) 0 (lv_args 0 [.ref o, .ref x1, .int p2]) [] (n, sh, Rf, I0, L0) post := by
  have hf : Fm (fun c => (o ≤ c ∧ c < o + 5) ∨ c = x1) I0 I0 := Fm.rf
  have g_51 : (0 : Int) ≤ (I0 o 6).toInt ∧ (I0 o 6).toInt ≤ 5 := hR.at0 ra 6 (by decide)
  have g_52 : (-1 : Int) ≤ (I0 o 8).toInt ∧ (I0 o 8).toInt ≤ 10 := hR.at0 ra 8 (by decide)
  refine sReform_readBoth_0 o n sh Rf I0 L0 post x1 p2 d hok hw hw1 hd0 ?_
  unfold fReform_readBoth_0
  have hl : FmL (fun c => False) L0 L0 := FmL.rf
  refine cReform_readOne I0 L0 _ _ hR hq2 (by omega) (by omega) (fun I_53 L_54 hR_55 fr_56 k6_59 k8_60 lz_58 => ⟨I_53, L_54, rfl, rfl, ?_⟩)
  replace hl := hl.call lz_58 (fun c hc => False.elim hc)
  have hf_57 : Fm (fun c => (o ≤ c ∧ c < o + 5) ∨ c = x1) I0 I_53 := hf.call fr_56 (fun c hc => hc)
  have k_61 : TokOK I_53 x1 := hq2.fr (fr_56 _ (by first | omega | (dsimp only; omega))) (fr_56 _ (by first | omega | (dsimp only; omega)))
  have l_62 : (0 : Int32).toInt = 0 := rfl
  exact yReform_readBoth_8l (I0 := I0) (L0 := L0) (p2 := p2) hok hw ra hw1 ra1 hd0 cReform_readOne hs0 hs1 hq0 hq1 hq2 hp  _ hR_55 hf_57 (by first | omega | (intro h; omega) | exact Or.inl rfl | exact Or.inr rfl) (by first | omega | (intro h; omega) | exact Or.inl rfl | exact Or.inr rfl) (by first | omega | (intro h; omega) | exact Or.inl rfl | exact Or.inr rfl) rfl k_61 hl (Nat.lt_succ_self _)
set_option maxHeartbeats 4000000 in
set_option maxRecDepth 20000 in
theorem y_Reform_readOnel {D : va_G} {cA : FieldType → ClassId} {b : Nat} {E : State → Prop} {R : qRg} {o n : Nat} {sh : Nat → qC} {Rf : Nat → Nat → Option Nat} {I0 : Nat → Nat → Int32} {L0 : Nat → Nat → Int64} {post : Option Value → qS → Prop} {x1 : Nat} {p2 : Int32} (hok : q_ok (qGG D cA b E)) (hw : WfReform (qGG D cA b E) n sh Rf o) (ra : RAReform R o) (hw1 : WfTape (qGG D cA b E) n sh Rf x1) (ra1 : RATape R x1) {d : Nat} {lo : Int} (hd0 : 5 ≤ d) (cReform_readSum : ∀ (J : Nat → Nat → Int32) (K : Nat → Nat → Int64) (post : Option Value → qS → Prop) (q : Int32), RI R J → TokOK J x1 → lo ≤ q.toInt → q.toInt ≤ 7 → (∀ I' L', RI R I' → Fm (fun c => (o ≤ c ∧ c < o + 5) ∨ c = x1) J I' → (I' o 6).toInt = (J o 6).toInt → (I' o 8).toInt = (J o 8).toInt → (FmL (fun c => False) K L') → post none (n, sh, Rf, I', L')) → Ev (qGG D cA b E) mReform_readSum d (0, 0) 0 (lv_args 0 [.ref o, .ref x1, .int q]) [] (n, sh, Rf, J, K) post) (cReform_readOne : ∀ (J : Nat → Nat → Int32) (K : Nat → Nat → Int64) (post : Option Value → qS → Prop) (q : Int32), RI R J → TokOK J x1 → (lo + 1) ≤ q.toInt → q.toInt ≤ 7 → (∀ I' L', RI R I' → Fm (fun c => (o ≤ c ∧ c < o + 5) ∨ c = x1) J I' → (I' o 6).toInt = (J o 6).toInt → (I' o 8).toInt = (J o 8).toInt → (FmL (fun c => False) K L') → post none (n, sh, Rf, I', L')) → Ev (qGG D cA b E) mReform_readOne d (0, 0) 0 (lv_args 0 [.ref o, .ref x1, .int q]) [] (n, sh, Rf, J, K) post) (hs0 : o + 5 ≤ x1 ∨ x1 + 7 ≤ o) (hs1 : 0 ≤ lo) (hq0 : lo ≤ p2.toInt) (hq1 : p2.toInt ≤ 7) (hq2 : TokOK I0 x1) (hR : RI R I0) (hp : ∀ (I' : Nat → Nat → Int32) (L' : Nat → Nat → Int64), RI R I' → Fm (fun c => (o ≤ c ∧ c < o + 5) ∨ c = x1) I0 I' → ((I' o 6).toInt = (I0 o 6).toInt) → ((I' o 8).toInt = (I0 o 8).toInt) → (FmL (fun c => False) L0 L') → post none (n, sh, Rf, I', L')) : Ev (qGG D cA b E) mReform_readOne (d + 1) (0, 0) 0 (lv_args 0 [.ref o, .ref x1, .int p2]) [] (n, sh, Rf, I0, L0) post := by
  have hf : Fm (fun c => (o ≤ c ∧ c < o + 5) ∨ c = x1) I0 I0 := Fm.rf
  have g_1 : (0 : Int) ≤ (I0 o 6).toInt ∧ (I0 o 6).toInt ≤ 5 := hR.at0 ra 6 (by decide)
  have g_2 : (-1 : Int) ≤ (I0 o 8).toInt ∧ (I0 o 8).toInt ≤ 10 := hR.at0 ra 8 (by decide)
  refine sReform_readOne_0 o n sh Rf I0 L0 post x1 p2 d hok hw hw1 hd0 ?_
  unfold fReform_readOne_0
  have hl : FmL (fun c => False) L0 L0 := FmL.rf
  have l_3 : (22 : Int32).toInt = 22 := rfl
  refine y_Tape_isWordg hok hw1 ra1 hR (fun r_4 u_5 gn_6 => ⟨r_4, I0, L0, rfl, rfl, ?_⟩)
  clear gn_6
  have b_7 : 0 ≤ r_4.toInt ∧ r_4.toInt ≤ 1 := u_5.rg
  have l_8 : (0 : Int32).toInt = 0 := rfl
  refine ⟨fun c_9 => ?_, fun c_9 => ?_⟩
  · have d_10 := iEq c_9
    refine cReform_readSum I0 L0 _ _ hR hq2 (by omega) (by omega) (fun I_11 L_12 hR_13 fr_14 k6_17 k8_18 lz_16 => ⟨I_11, L_12, rfl, rfl, ?_⟩)
    replace hl := hl.call lz_16 (fun c hc => False.elim hc)
    have hf_15 : Fm (fun c => (o ≤ c ∧ c < o + 5) ∨ c = x1) I0 I_11 := hf.call fr_14 (fun c hc => hc)
    have k_19 : TokOK I_11 x1 := hq2.fr (fr_14 _ (by first | omega | (dsimp only; omega))) (fr_14 _ (by first | omega | (dsimp only; omega)))
    have l_20 : (60 : Int32).toInt = 60 := rfl
    refine y_Tape_isSigng hok hw1 ra1 hR_13 (fun r_21 u_22 u_23 gn_24 => ⟨r_21, I_11, L_12, rfl, rfl, ?_⟩)
    clear gn_24
    have b_25 : 0 ≤ r_21.toInt ∧ r_21.toInt ≤ 1 := u_22.rg
    refine ⟨fun c_26 => ?_, fun c_26 => ?_⟩
    · have d_27 := iNe c_26
      unfold fReform_readOne_73
      refine y_Tape_valueg hok hw1 ra1 hR_13 (fun r_28 u_29 gn_30 => ⟨r_28, I_11, L_12, rfl, rfl, ?_⟩)
      clear gn_30
      have sg := u_23 (by omega)
      have vq := iEq u_29
      have v_31 : (0 : Int) ≤ r_28.toInt ∧ r_28.toInt ≤ 127 := by omega
      refine y_Tape_stepg hok hw1 ra1 hR_13 (fun I_36 L_37 hR_38 fr_39 u_33 gn_34 ln_35 => ⟨I_36, L_37, rfl, rfl, ?_⟩)
      replace hl := hl.call ln_35 (fun c hc => by first | exact hc | exact False.elim hc | (dsimp only at hc ⊢; omega) | omega)
      clear gn_34
      have hf_40 : Fm (fun c => (o ≤ c ∧ c < o + 5) ∨ c = x1) I0 I_36 := hf_15.call fr_39 (fun c hc => by first | exact hc | (dsimp only at hc ⊢; omega) | omega)
      have t_41 : (I_36 o 6).toInt = (I_11 o 6).toInt := by rw [fr_39 o (by first | omega | (dsimp only; omega))]
      have t_42 : (I_36 o 8).toInt = (I_11 o 8).toInt := by rw [fr_39 o (by first | omega | (dsimp only; omega))]
      have k_43 : TokOK I_36 x1 := k_19.fr (fr_39 _ (by first | omega | (dsimp only; omega))) (fr_39 _ (by first | omega | (dsimp only; omega)))
      refine cReform_readSum I_36 L_37 _ _ hR_38 k_43 (by omega) (by omega) (fun I_44 L_45 hR_46 fr_47 k6_50 k8_51 lz_49 => ⟨I_44, L_45, rfl, rfl, ?_⟩)
      replace hl := hl.call lz_49 (fun c hc => False.elim hc)
      have hf_48 : Fm (fun c => (o ≤ c ∧ c < o + 5) ∨ c = x1) I0 I_44 := hf_40.call fr_47 (fun c hc => hc)
      have k_52 : TokOK I_44 x1 := k_43.fr (fr_47 _ (by first | omega | (dsimp only; omega))) (fr_47 _ (by first | omega | (dsimp only; omega)))
      refine y_Reform_emitl hok hw ra (by first | omega | (intro h; omega) | exact Or.inl rfl | exact Or.inr rfl) hR_46 (fun I_57 L_58 hR_59 fr_60 u_54 u_55 ln_56 => ⟨I_57, L_58, rfl, rfl, ?_⟩)
      replace hl := hl.call ln_56 (fun c hc => by first | exact hc | exact False.elim hc | (dsimp only at hc ⊢; omega) | omega)
      have hf_61 : Fm (fun c => (o ≤ c ∧ c < o + 5) ∨ c = x1) I0 I_57 := hf_48.call fr_60 (fun c hc => by first | exact hc | (dsimp only at hc ⊢; omega) | omega)
      have g_62 : (0 : Int) ≤ (I_57 o 6).toInt ∧ (I_57 o 6).toInt ≤ 5 := hR_59.at0 ra 6 (by decide)
      have g_63 : (-1 : Int) ≤ (I_57 o 8).toInt ∧ (I_57 o 8).toInt ≤ 10 := hR_59.at0 ra 8 (by decide)
      have k_64 : TokOK I_57 x1 := k_52.fr (fr_60 _ (by first | omega | (dsimp only; omega))) (fr_60 _ (by first | omega | (dsimp only; omega)))
      exact (hp _ _ hR_59 hf_61 (by first | omega | (intro h; omega) | exact Or.inl rfl | exact Or.inr rfl) (by first | omega | (intro h; omega) | exact Or.inl rfl | exact Or.inr rfl) hl)
    · have d_65 := iEq c_26
      have l_66 : (62 : Int32).toInt = 62 := rfl
      refine y_Tape_isSigng hok hw1 ra1 hR_13 (fun r_67 u_68 u_69 gn_70 => ⟨r_67, I_11, L_12, rfl, rfl, ?_⟩)
      clear gn_70
      have b_71 : 0 ≤ r_67.toInt ∧ r_67.toInt ≤ 1 := u_68.rg
      refine ⟨fun c_72 => ?_, fun c_72 => ?_⟩
      · have d_73 := iNe c_72
        unfold fReform_readOne_73
        refine y_Tape_valueg hok hw1 ra1 hR_13 (fun r_74 u_75 gn_76 => ⟨r_74, I_11, L_12, rfl, rfl, ?_⟩)
        clear gn_76
        have sg := u_69 (by omega)
        have vq := iEq u_75
        have v_77 : (0 : Int) ≤ r_74.toInt ∧ r_74.toInt ≤ 127 := by omega
        refine y_Tape_stepg hok hw1 ra1 hR_13 (fun I_82 L_83 hR_84 fr_85 u_79 gn_80 ln_81 => ⟨I_82, L_83, rfl, rfl, ?_⟩)
        replace hl := hl.call ln_81 (fun c hc => by first | exact hc | exact False.elim hc | (dsimp only at hc ⊢; omega) | omega)
        clear gn_80
        have hf_86 : Fm (fun c => (o ≤ c ∧ c < o + 5) ∨ c = x1) I0 I_82 := hf_15.call fr_85 (fun c hc => by first | exact hc | (dsimp only at hc ⊢; omega) | omega)
        have t_87 : (I_82 o 6).toInt = (I_11 o 6).toInt := by rw [fr_85 o (by first | omega | (dsimp only; omega))]
        have t_88 : (I_82 o 8).toInt = (I_11 o 8).toInt := by rw [fr_85 o (by first | omega | (dsimp only; omega))]
        have k_89 : TokOK I_82 x1 := k_19.fr (fr_85 _ (by first | omega | (dsimp only; omega))) (fr_85 _ (by first | omega | (dsimp only; omega)))
        refine cReform_readSum I_82 L_83 _ _ hR_84 k_89 (by omega) (by omega) (fun I_90 L_91 hR_92 fr_93 k6_96 k8_97 lz_95 => ⟨I_90, L_91, rfl, rfl, ?_⟩)
        replace hl := hl.call lz_95 (fun c hc => False.elim hc)
        have hf_94 : Fm (fun c => (o ≤ c ∧ c < o + 5) ∨ c = x1) I0 I_90 := hf_86.call fr_93 (fun c hc => hc)
        have k_98 : TokOK I_90 x1 := k_89.fr (fr_93 _ (by first | omega | (dsimp only; omega))) (fr_93 _ (by first | omega | (dsimp only; omega)))
        refine y_Reform_emitl hok hw ra (by first | omega | (intro h; omega) | exact Or.inl rfl | exact Or.inr rfl) hR_92 (fun I_103 L_104 hR_105 fr_106 u_100 u_101 ln_102 => ⟨I_103, L_104, rfl, rfl, ?_⟩)
        replace hl := hl.call ln_102 (fun c hc => by first | exact hc | exact False.elim hc | (dsimp only at hc ⊢; omega) | omega)
        have hf_107 : Fm (fun c => (o ≤ c ∧ c < o + 5) ∨ c = x1) I0 I_103 := hf_94.call fr_106 (fun c hc => by first | exact hc | (dsimp only at hc ⊢; omega) | omega)
        have g_108 : (0 : Int) ≤ (I_103 o 6).toInt ∧ (I_103 o 6).toInt ≤ 5 := hR_105.at0 ra 6 (by decide)
        have g_109 : (-1 : Int) ≤ (I_103 o 8).toInt ∧ (I_103 o 8).toInt ≤ 10 := hR_105.at0 ra 8 (by decide)
        have k_110 : TokOK I_103 x1 := k_98.fr (fr_106 _ (by first | omega | (dsimp only; omega))) (fr_106 _ (by first | omega | (dsimp only; omega)))
        exact (hp _ _ hR_105 hf_107 (by first | omega | (intro h; omega) | exact Or.inl rfl | exact Or.inr rfl) (by first | omega | (intro h; omega) | exact Or.inl rfl | exact Or.inr rfl) hl)
      · have d_111 := iEq c_72
        have l_112 : (61 : Int32).toInt = 61 := rfl
        refine y_Tape_isSigng hok hw1 ra1 hR_13 (fun r_113 u_114 u_115 gn_116 => ⟨r_113, I_11, L_12, rfl, rfl, ?_⟩)
        clear gn_116
        have b_117 : 0 ≤ r_113.toInt ∧ r_113.toInt ≤ 1 := u_114.rg
        refine ⟨fun c_118 => ?_, fun c_118 => ?_⟩
        · have d_119 := iEq c_118
          exact (hp _ _ hR_13 hf_15 (by first | omega | (intro h; omega) | exact Or.inl rfl | exact Or.inr rfl) (by first | omega | (intro h; omega) | exact Or.inl rfl | exact Or.inr rfl) hl)
        · have d_120 := iNe c_118
          unfold fReform_readOne_73
          refine y_Tape_valueg hok hw1 ra1 hR_13 (fun r_121 u_122 gn_123 => ⟨r_121, I_11, L_12, rfl, rfl, ?_⟩)
          clear gn_123
          have sg := u_115 (by omega)
          have vq := iEq u_122
          have v_124 : (0 : Int) ≤ r_121.toInt ∧ r_121.toInt ≤ 127 := by omega
          refine y_Tape_stepg hok hw1 ra1 hR_13 (fun I_129 L_130 hR_131 fr_132 u_126 gn_127 ln_128 => ⟨I_129, L_130, rfl, rfl, ?_⟩)
          replace hl := hl.call ln_128 (fun c hc => by first | exact hc | exact False.elim hc | (dsimp only at hc ⊢; omega) | omega)
          clear gn_127
          have hf_133 : Fm (fun c => (o ≤ c ∧ c < o + 5) ∨ c = x1) I0 I_129 := hf_15.call fr_132 (fun c hc => by first | exact hc | (dsimp only at hc ⊢; omega) | omega)
          have t_134 : (I_129 o 6).toInt = (I_11 o 6).toInt := by rw [fr_132 o (by first | omega | (dsimp only; omega))]
          have t_135 : (I_129 o 8).toInt = (I_11 o 8).toInt := by rw [fr_132 o (by first | omega | (dsimp only; omega))]
          have k_136 : TokOK I_129 x1 := k_19.fr (fr_132 _ (by first | omega | (dsimp only; omega))) (fr_132 _ (by first | omega | (dsimp only; omega)))
          refine cReform_readSum I_129 L_130 _ _ hR_131 k_136 (by omega) (by omega) (fun I_137 L_138 hR_139 fr_140 k6_143 k8_144 lz_142 => ⟨I_137, L_138, rfl, rfl, ?_⟩)
          replace hl := hl.call lz_142 (fun c hc => False.elim hc)
          have hf_141 : Fm (fun c => (o ≤ c ∧ c < o + 5) ∨ c = x1) I0 I_137 := hf_133.call fr_140 (fun c hc => hc)
          have k_145 : TokOK I_137 x1 := k_136.fr (fr_140 _ (by first | omega | (dsimp only; omega))) (fr_140 _ (by first | omega | (dsimp only; omega)))
          refine y_Reform_emitl hok hw ra (by first | omega | (intro h; omega) | exact Or.inl rfl | exact Or.inr rfl) hR_139 (fun I_150 L_151 hR_152 fr_153 u_147 u_148 ln_149 => ⟨I_150, L_151, rfl, rfl, ?_⟩)
          replace hl := hl.call ln_149 (fun c hc => by first | exact hc | exact False.elim hc | (dsimp only at hc ⊢; omega) | omega)
          have hf_154 : Fm (fun c => (o ≤ c ∧ c < o + 5) ∨ c = x1) I0 I_150 := hf_141.call fr_153 (fun c hc => by first | exact hc | (dsimp only at hc ⊢; omega) | omega)
          have g_155 : (0 : Int) ≤ (I_150 o 6).toInt ∧ (I_150 o 6).toInt ≤ 5 := hR_152.at0 ra 6 (by decide)
          have g_156 : (-1 : Int) ≤ (I_150 o 8).toInt ∧ (I_150 o 8).toInt ≤ 10 := hR_152.at0 ra 8 (by decide)
          have k_157 : TokOK I_150 x1 := k_145.fr (fr_153 _ (by first | omega | (dsimp only; omega))) (fr_153 _ (by first | omega | (dsimp only; omega)))
          exact (hp _ _ hR_152 hf_154 (by first | omega | (intro h; omega) | exact Or.inl rfl | exact Or.inr rfl) (by first | omega | (intro h; omega) | exact Or.inl rfl | exact Or.inr rfl) hl)
  · have d_158 := iNe c_9
    have l_159 : (6 : Int32).toInt = 6 := rfl
    refine ⟨fun c_160 => ?_, fun c_160 => ?_⟩
    · have d_161 := iLe c_160
      refine y_Tape_stepg hok hw1 ra1 hR (fun I_166 L_167 hR_168 fr_169 u_163 gn_164 ln_165 => ⟨I_166, L_167, rfl, rfl, ?_⟩)
      replace hl := hl.call ln_165 (fun c hc => by first | exact hc | exact False.elim hc | (dsimp only at hc ⊢; omega) | omega)
      clear gn_164
      have hf_170 : Fm (fun c => (o ≤ c ∧ c < o + 5) ∨ c = x1) I0 I_166 := hf.call fr_169 (fun c hc => by first | exact hc | (dsimp only at hc ⊢; omega) | omega)
      have t_171 : (I_166 o 6).toInt = (I0 o 6).toInt := by rw [fr_169 o (by first | omega | (dsimp only; omega))]
      have t_172 : (I_166 o 8).toInt = (I0 o 8).toInt := by rw [fr_169 o (by first | omega | (dsimp only; omega))]
      have k_173 : TokOK I_166 x1 := hq2.fr (fr_169 _ (by first | omega | (dsimp only; omega))) (fr_169 _ (by first | omega | (dsimp only; omega)))
      have l_174 : (1 : Int32).toInt = 1 := rfl
      have a_175 : (p2 + 1).toInt = p2.toInt + (1 : Int32).toInt := tAdd (by omega) (by omega)
      refine cReform_readOne I_166 L_167 _ _ hR_168 k_173 (by omega) (by omega) (fun I_176 L_177 hR_178 fr_179 k6_182 k8_183 lz_181 => ⟨I_176, L_177, rfl, rfl, ?_⟩)
      replace hl := hl.call lz_181 (fun c hc => False.elim hc)
      have hf_180 : Fm (fun c => (o ≤ c ∧ c < o + 5) ∨ c = x1) I0 I_176 := hf_170.call fr_179 (fun c hc => hc)
      have k_184 : TokOK I_176 x1 := k_173.fr (fr_179 _ (by first | omega | (dsimp only; omega))) (fr_179 _ (by first | omega | (dsimp only; omega)))
      refine y_Reform_emitl hok hw ra (by first | omega | (intro h; omega) | exact Or.inl rfl | exact Or.inr rfl) hR_178 (fun I_189 L_190 hR_191 fr_192 u_186 u_187 ln_188 => ⟨I_189, L_190, rfl, rfl, ?_⟩)
      replace hl := hl.call ln_188 (fun c hc => by first | exact hc | exact False.elim hc | (dsimp only at hc ⊢; omega) | omega)
      have hf_193 : Fm (fun c => (o ≤ c ∧ c < o + 5) ∨ c = x1) I0 I_189 := hf_180.call fr_192 (fun c hc => by first | exact hc | (dsimp only at hc ⊢; omega) | omega)
      have g_194 : (0 : Int) ≤ (I_189 o 6).toInt ∧ (I_189 o 6).toInt ≤ 5 := hR_191.at0 ra 6 (by decide)
      have g_195 : (-1 : Int) ≤ (I_189 o 8).toInt ∧ (I_189 o 8).toInt ≤ 10 := hR_191.at0 ra 8 (by decide)
      have k_196 : TokOK I_189 x1 := k_184.fr (fr_192 _ (by first | omega | (dsimp only; omega))) (fr_192 _ (by first | omega | (dsimp only; omega)))
      exact (hp _ _ hR_191 hf_193 (by first | omega | (intro h; omega) | exact Or.inl rfl | exact Or.inr rfl) (by first | omega | (intro h; omega) | exact Or.inl rfl | exact Or.inr rfl) hl)
    · have d_197 := iNle c_160
      have l_198 : (2 : Int32).toInt = 2 := rfl
      refine y_Tape_refuseg hok hw1 ra1 (by first | omega | (intro h; omega) | exact Or.inl rfl | exact Or.inr rfl) hR (fun I_204 L_205 hR_206 fr_207 u_200 u_201 gn_202 ln_203 => ⟨I_204, L_205, rfl, rfl, ?_⟩)
      replace hl := hl.call ln_203 (fun c hc => by first | exact hc | exact False.elim hc | (dsimp only at hc ⊢; omega) | omega)
      clear gn_202
      have hf_208 : Fm (fun c => (o ≤ c ∧ c < o + 5) ∨ c = x1) I0 I_204 := hf.call fr_207 (fun c hc => by first | exact hc | (dsimp only at hc ⊢; omega) | omega)
      have t_209 : (I_204 o 6).toInt = (I0 o 6).toInt := by rw [fr_207 o (by first | omega | (dsimp only; omega))]
      have t_210 : (I_204 o 8).toInt = (I0 o 8).toInt := by rw [fr_207 o (by first | omega | (dsimp only; omega))]
      have k_211 : TokOK I_204 x1 := hq2.fr (fr_207 _ (by first | omega | (dsimp only; omega))) (fr_207 _ (by first | omega | (dsimp only; omega)))
      exact (hp _ _ hR_206 hf_208 (by first | omega | (intro h; omega) | exact Or.inl rfl | exact Or.inr rfl) (by first | omega | (intro h; omega) | exact Or.inl rfl | exact Or.inr rfl) hl)
set_option maxHeartbeats 4000000 in
set_option maxRecDepth 20000 in
theorem yReform_readSum_8l {D : va_G} {cA : FieldType → ClassId} {b : Nat} {E : State → Prop} {R : qRg} {o n : Nat} {sh : Nat → qC} {Rf : Nat → Nat → Option Nat} {I0 : Nat → Nat → Int32} {L0 : Nat → Nat → Int64} {post : Option Value → qS → Prop} {x1 : Nat} {p2 : Int32} (hok : q_ok (qGG D cA b E)) (hw : WfReform (qGG D cA b E) n sh Rf o) (ra : RAReform R o) (hw1 : WfTape (qGG D cA b E) n sh Rf x1) (ra1 : RATape R x1) {d : Nat} {lo : Int} (hd0 : 5 ≤ d) (cReform_readTerm : ∀ (J : Nat → Nat → Int32) (K : Nat → Nat → Int64) (post : Option Value → qS → Prop) (q : Int32), RI R J → TokOK J x1 → lo ≤ q.toInt → q.toInt ≤ 7 → (∀ I' L', RI R I' → Fm (fun c => (o ≤ c ∧ c < o + 5) ∨ c = x1) J I' → (I' o 6).toInt = (J o 6).toInt → (I' o 8).toInt = (J o 8).toInt → (FmL (fun c => False) K L') → post none (n, sh, Rf, I', L')) → Ev (qGG D cA b E) mReform_readTerm d (0, 0) 0 (lv_args 0 [.ref o, .ref x1, .int q]) [] (n, sh, Rf, J, K) post) (hs0 : o + 5 ≤ x1 ∨ x1 + 7 ≤ o) (hs1 : 0 ≤ lo) (hq0 : lo ≤ p2.toInt) (hq1 : p2.toInt ≤ 7) (hq2 : TokOK I0 x1) (hp : ∀ (I' : Nat → Nat → Int32) (L' : Nat → Nat → Int64), RI R I' → Fm (fun c => (o ≤ c ∧ c < o + 5) ∨ c = x1) I0 I' → ((I' o 6).toInt = (I0 o 6).toInt) → ((I' o 8).toInt = (I0 o 8).toInt) → (FmL (fun c => False) L0 L') → post none (n, sh, Rf, I', L')) : ∀ (k : Nat) {x2 : Int32} {x3 : Int32} {I : Nat → Nat → Int32} {L : Nat → Nat → Int64}, RI R I → Fm (fun c => (o ≤ c ∧ c < o + 5) ∨ c = x1) I0 I → ((0 : Int) ≤ x3.toInt ∧ x3.toInt ≤ 700) → ((I o 6).toInt = (I0 o 6).toInt) → ((I o 8).toInt = (I0 o 8).toInt) → (x2 = p2) → (TokOK I x1) → (FmL (fun c => False) L0 L) → (700 - x3.toInt).toNat < k → Ev (qGG D cA b E) mReform_readSum (d + 1) (0, 0) 8 [(0, .ref o), (1, .ref x1), (2, .int x2), (3, .int x3)] [] (n, sh, Rf, I, L) post := by
  intro k
  induction k with
  | zero =>
    intro x2 x3 I L hR hf hi0 hi1 hi2 hi3 hi4 hl hm
    exact absurd hm (Nat.not_lt_zero _)
  | succ k ih =>
    intro x2 x3 I L hR hf hi0 hi1 hi2 hi3 hi4 hl hm
    have hz0 := hi3.symm
    subst hz0
    have g_1 : (0 : Int) ≤ (I o 6).toInt ∧ (I o 6).toInt ≤ 5 := hR.at0 ra 6 (by decide)
    have g_2 : (-1 : Int) ≤ (I o 8).toInt ∧ (I o 8).toInt ≤ 10 := hR.at0 ra 8 (by decide)
    refine sReform_readSum_8 o n sh Rf I L post x1 p2 x3 d hok hw hw1 hd0 ?_
    unfold fReform_readSum_8
    have l_3 : (700 : Int32).toInt = 700 := rfl
    refine ⟨fun c_4 => ?_, fun c_4 => ?_⟩
    · have d_5 := iLe c_4
      exact (hp _ _ hR hf (by first | omega | (intro h; omega) | exact Or.inl rfl | exact Or.inr rfl) (by first | omega | (intro h; omega) | exact Or.inl rfl | exact Or.inr rfl) hl)
    · have d_6 := iNle c_4
      have l_7 : (43 : Int32).toInt = 43 := rfl
      refine y_Tape_isSigng hok hw1 ra1 hR (fun r_8 u_9 u_10 gn_11 => ⟨r_8, I, L, rfl, rfl, ?_⟩)
      clear gn_11
      have b_12 : 0 ≤ r_8.toInt ∧ r_8.toInt ≤ 1 := u_9.rg
      have l_13 : (0 : Int32).toInt = 0 := rfl
      refine ⟨fun c_14 => ?_, fun c_14 => ?_⟩
      · have d_15 := iNe c_14
        unfold fReform_readSum_33
        refine y_Tape_valueg hok hw1 ra1 hR (fun r_16 u_17 gn_18 => ⟨r_16, I, L, rfl, rfl, ?_⟩)
        clear gn_18
        have sg := u_10 (by omega)
        have vq := iEq u_17
        have v_19 : (0 : Int) ≤ r_16.toInt ∧ r_16.toInt ≤ 127 := by omega
        refine y_Tape_stepg hok hw1 ra1 hR (fun I_24 L_25 hR_26 fr_27 u_21 gn_22 ln_23 => ⟨I_24, L_25, rfl, rfl, ?_⟩)
        replace hl := hl.call ln_23 (fun c hc => by first | exact hc | exact False.elim hc | (dsimp only at hc ⊢; omega) | omega)
        clear gn_22
        have hf_28 : Fm (fun c => (o ≤ c ∧ c < o + 5) ∨ c = x1) I0 I_24 := hf.call fr_27 (fun c hc => by first | exact hc | (dsimp only at hc ⊢; omega) | omega)
        have t_29 : (I_24 o 6).toInt = (I o 6).toInt := by rw [fr_27 o (by first | omega | (dsimp only; omega))]
        have t_30 : (I_24 o 8).toInt = (I o 8).toInt := by rw [fr_27 o (by first | omega | (dsimp only; omega))]
        have k_31 : TokOK I_24 x1 := hi4.fr (fr_27 _ (by first | omega | (dsimp only; omega))) (fr_27 _ (by first | omega | (dsimp only; omega)))
        refine cReform_readTerm I_24 L_25 _ _ hR_26 k_31 (by omega) (by omega) (fun I_32 L_33 hR_34 fr_35 k6_38 k8_39 lz_37 => ⟨I_32, L_33, rfl, rfl, ?_⟩)
        replace hl := hl.call lz_37 (fun c hc => False.elim hc)
        have hf_36 : Fm (fun c => (o ≤ c ∧ c < o + 5) ∨ c = x1) I0 I_32 := hf_28.call fr_35 (fun c hc => hc)
        have k_40 : TokOK I_32 x1 := k_31.fr (fr_35 _ (by first | omega | (dsimp only; omega))) (fr_35 _ (by first | omega | (dsimp only; omega)))
        refine y_Reform_emitl hok hw ra (by first | omega | (intro h; omega) | exact Or.inl rfl | exact Or.inr rfl) hR_34 (fun I_45 L_46 hR_47 fr_48 u_42 u_43 ln_44 => ⟨I_45, L_46, rfl, rfl, ?_⟩)
        replace hl := hl.call ln_44 (fun c hc => by first | exact hc | exact False.elim hc | (dsimp only at hc ⊢; omega) | omega)
        have hf_49 : Fm (fun c => (o ≤ c ∧ c < o + 5) ∨ c = x1) I0 I_45 := hf_36.call fr_48 (fun c hc => by first | exact hc | (dsimp only at hc ⊢; omega) | omega)
        have g_50 : (0 : Int) ≤ (I_45 o 6).toInt ∧ (I_45 o 6).toInt ≤ 5 := hR_47.at0 ra 6 (by decide)
        have g_51 : (-1 : Int) ≤ (I_45 o 8).toInt ∧ (I_45 o 8).toInt ≤ 10 := hR_47.at0 ra 8 (by decide)
        have k_52 : TokOK I_45 x1 := k_40.fr (fr_48 _ (by first | omega | (dsimp only; omega))) (fr_48 _ (by first | omega | (dsimp only; omega)))
        have a_54 : (x3 + Int32.ofInt 1).toInt = x3.toInt + (1) := tIc (by omega) (by omega) (by decide) (by decide)
        generalize ez_53 : (x3 + Int32.ofInt 1) = z_53 at a_54 ⊢
        exact ih hR_47 hf_49 (by first | omega | (intro h; omega) | exact Or.inl rfl | exact Or.inr rfl) (by first | omega | (intro h; omega) | exact Or.inl rfl | exact Or.inr rfl) (by first | omega | (intro h; omega) | exact Or.inl rfl | exact Or.inr rfl) rfl k_52 hl (by omega)
      · have d_55 := iEq c_14
        have l_56 : (45 : Int32).toInt = 45 := rfl
        refine y_Tape_isSigng hok hw1 ra1 hR (fun r_57 u_58 u_59 gn_60 => ⟨r_57, I, L, rfl, rfl, ?_⟩)
        clear gn_60
        have b_61 : 0 ≤ r_57.toInt ∧ r_57.toInt ≤ 1 := u_58.rg
        refine ⟨fun c_62 => ?_, fun c_62 => ?_⟩
        · have d_63 := iEq c_62
          exact (hp _ _ hR hf (by first | omega | (intro h; omega) | exact Or.inl rfl | exact Or.inr rfl) (by first | omega | (intro h; omega) | exact Or.inl rfl | exact Or.inr rfl) hl)
        · have d_64 := iNe c_62
          unfold fReform_readSum_33
          refine y_Tape_valueg hok hw1 ra1 hR (fun r_65 u_66 gn_67 => ⟨r_65, I, L, rfl, rfl, ?_⟩)
          clear gn_67
          have sg := u_59 (by omega)
          have vq := iEq u_66
          have v_68 : (0 : Int) ≤ r_65.toInt ∧ r_65.toInt ≤ 127 := by omega
          refine y_Tape_stepg hok hw1 ra1 hR (fun I_73 L_74 hR_75 fr_76 u_70 gn_71 ln_72 => ⟨I_73, L_74, rfl, rfl, ?_⟩)
          replace hl := hl.call ln_72 (fun c hc => by first | exact hc | exact False.elim hc | (dsimp only at hc ⊢; omega) | omega)
          clear gn_71
          have hf_77 : Fm (fun c => (o ≤ c ∧ c < o + 5) ∨ c = x1) I0 I_73 := hf.call fr_76 (fun c hc => by first | exact hc | (dsimp only at hc ⊢; omega) | omega)
          have t_78 : (I_73 o 6).toInt = (I o 6).toInt := by rw [fr_76 o (by first | omega | (dsimp only; omega))]
          have t_79 : (I_73 o 8).toInt = (I o 8).toInt := by rw [fr_76 o (by first | omega | (dsimp only; omega))]
          have k_80 : TokOK I_73 x1 := hi4.fr (fr_76 _ (by first | omega | (dsimp only; omega))) (fr_76 _ (by first | omega | (dsimp only; omega)))
          refine cReform_readTerm I_73 L_74 _ _ hR_75 k_80 (by omega) (by omega) (fun I_81 L_82 hR_83 fr_84 k6_87 k8_88 lz_86 => ⟨I_81, L_82, rfl, rfl, ?_⟩)
          replace hl := hl.call lz_86 (fun c hc => False.elim hc)
          have hf_85 : Fm (fun c => (o ≤ c ∧ c < o + 5) ∨ c = x1) I0 I_81 := hf_77.call fr_84 (fun c hc => hc)
          have k_89 : TokOK I_81 x1 := k_80.fr (fr_84 _ (by first | omega | (dsimp only; omega))) (fr_84 _ (by first | omega | (dsimp only; omega)))
          refine y_Reform_emitl hok hw ra (by first | omega | (intro h; omega) | exact Or.inl rfl | exact Or.inr rfl) hR_83 (fun I_94 L_95 hR_96 fr_97 u_91 u_92 ln_93 => ⟨I_94, L_95, rfl, rfl, ?_⟩)
          replace hl := hl.call ln_93 (fun c hc => by first | exact hc | exact False.elim hc | (dsimp only at hc ⊢; omega) | omega)
          have hf_98 : Fm (fun c => (o ≤ c ∧ c < o + 5) ∨ c = x1) I0 I_94 := hf_85.call fr_97 (fun c hc => by first | exact hc | (dsimp only at hc ⊢; omega) | omega)
          have g_99 : (0 : Int) ≤ (I_94 o 6).toInt ∧ (I_94 o 6).toInt ≤ 5 := hR_96.at0 ra 6 (by decide)
          have g_100 : (-1 : Int) ≤ (I_94 o 8).toInt ∧ (I_94 o 8).toInt ≤ 10 := hR_96.at0 ra 8 (by decide)
          have k_101 : TokOK I_94 x1 := k_89.fr (fr_97 _ (by first | omega | (dsimp only; omega))) (fr_97 _ (by first | omega | (dsimp only; omega)))
          have a_103 : (x3 + Int32.ofInt 1).toInt = x3.toInt + (1) := tIc (by omega) (by omega) (by decide) (by decide)
          generalize ez_102 : (x3 + Int32.ofInt 1) = z_102 at a_103 ⊢
          exact ih hR_96 hf_98 (by first | omega | (intro h; omega) | exact Or.inl rfl | exact Or.inr rfl) (by first | omega | (intro h; omega) | exact Or.inl rfl | exact Or.inr rfl) (by first | omega | (intro h; omega) | exact Or.inl rfl | exact Or.inr rfl) rfl k_101 hl (by omega)
set_option maxHeartbeats 4000000 in
set_option maxRecDepth 20000 in
theorem y_Reform_readSuml {D : va_G} {cA : FieldType → ClassId} {b : Nat} {E : State → Prop} {R : qRg} {o n : Nat} {sh : Nat → qC} {Rf : Nat → Nat → Option Nat} {I0 : Nat → Nat → Int32} {L0 : Nat → Nat → Int64} {post : Option Value → qS → Prop} {x1 : Nat} {p2 : Int32} (hok : q_ok (qGG D cA b E)) (hw : WfReform (qGG D cA b E) n sh Rf o) (ra : RAReform R o) (hw1 : WfTape (qGG D cA b E) n sh Rf x1) (ra1 : RATape R x1) {d : Nat} {lo : Int} (hd0 : 5 ≤ d) (cReform_readTerm : ∀ (J : Nat → Nat → Int32) (K : Nat → Nat → Int64) (post : Option Value → qS → Prop) (q : Int32), RI R J → TokOK J x1 → lo ≤ q.toInt → q.toInt ≤ 7 → (∀ I' L', RI R I' → Fm (fun c => (o ≤ c ∧ c < o + 5) ∨ c = x1) J I' → (I' o 6).toInt = (J o 6).toInt → (I' o 8).toInt = (J o 8).toInt → (FmL (fun c => False) K L') → post none (n, sh, Rf, I', L')) → Ev (qGG D cA b E) mReform_readTerm d (0, 0) 0 (lv_args 0 [.ref o, .ref x1, .int q]) [] (n, sh, Rf, J, K) post) (hs0 : o + 5 ≤ x1 ∨ x1 + 7 ≤ o) (hs1 : 0 ≤ lo) (hq0 : lo ≤ p2.toInt) (hq1 : p2.toInt ≤ 7) (hq2 : TokOK I0 x1) (hR : RI R I0) (hp : ∀ (I' : Nat → Nat → Int32) (L' : Nat → Nat → Int64), RI R I' → Fm (fun c => (o ≤ c ∧ c < o + 5) ∨ c = x1) I0 I' → ((I' o 6).toInt = (I0 o 6).toInt) → ((I' o 8).toInt = (I0 o 8).toInt) → (FmL (fun c => False) L0 L') → post none (n, sh, Rf, I', L')) : Ev (qGG D cA b E) mReform_readSum (d + 1) (0, 0) 0 (lv_args 0 [.ref o, .ref x1, .int p2]) [] (n, sh, Rf, I0, L0) post := by
  have hf : Fm (fun c => (o ≤ c ∧ c < o + 5) ∨ c = x1) I0 I0 := Fm.rf
  have g_104 : (0 : Int) ≤ (I0 o 6).toInt ∧ (I0 o 6).toInt ≤ 5 := hR.at0 ra 6 (by decide)
  have g_105 : (-1 : Int) ≤ (I0 o 8).toInt ∧ (I0 o 8).toInt ≤ 10 := hR.at0 ra 8 (by decide)
  refine sReform_readSum_0 o n sh Rf I0 L0 post x1 p2 d hok hw hw1 hd0 ?_
  unfold fReform_readSum_0
  have hl : FmL (fun c => False) L0 L0 := FmL.rf
  refine cReform_readTerm I0 L0 _ _ hR hq2 (by omega) (by omega) (fun I_106 L_107 hR_108 fr_109 k6_112 k8_113 lz_111 => ⟨I_106, L_107, rfl, rfl, ?_⟩)
  replace hl := hl.call lz_111 (fun c hc => False.elim hc)
  have hf_110 : Fm (fun c => (o ≤ c ∧ c < o + 5) ∨ c = x1) I0 I_106 := hf.call fr_109 (fun c hc => hc)
  have k_114 : TokOK I_106 x1 := hq2.fr (fr_109 _ (by first | omega | (dsimp only; omega))) (fr_109 _ (by first | omega | (dsimp only; omega)))
  have l_115 : (0 : Int32).toInt = 0 := rfl
  exact yReform_readSum_8l (I0 := I0) (L0 := L0) (p2 := p2) hok hw ra hw1 ra1 hd0 cReform_readTerm hs0 hs1 hq0 hq1 hq2 hp  _ hR_108 hf_110 (by first | omega | (intro h; omega) | exact Or.inl rfl | exact Or.inr rfl) (by first | omega | (intro h; omega) | exact Or.inl rfl | exact Or.inr rfl) (by first | omega | (intro h; omega) | exact Or.inl rfl | exact Or.inr rfl) rfl k_114 hl (Nat.lt_succ_self _)
set_option maxHeartbeats 4000000 in
set_option maxRecDepth 20000 in
theorem yReform_readTerm_8l {D : va_G} {cA : FieldType → ClassId} {b : Nat} {E : State → Prop} {R : qRg} {o n : Nat} {sh : Nat → qC} {Rf : Nat → Nat → Option Nat} {I0 : Nat → Nat → Int32} {L0 : Nat → Nat → Int64} {post : Option Value → qS → Prop} {x1 : Nat} {p2 : Int32} (hok : q_ok (qGG D cA b E)) (hw : WfReform (qGG D cA b E) n sh Rf o) (ra : RAReform R o) (hw1 : WfTape (qGG D cA b E) n sh Rf x1) (ra1 : RATape R x1) {d : Nat} {lo : Int} (hd0 : 5 ≤ d) (cReform_readUnit : ∀ (J : Nat → Nat → Int32) (K : Nat → Nat → Int64) (post : Option Value → qS → Prop) (q : Int32), RI R J → TokOK J x1 → lo ≤ q.toInt → q.toInt ≤ 7 → (∀ I' L', RI R I' → Fm (fun c => (o ≤ c ∧ c < o + 5) ∨ c = x1) J I' → (I' o 6).toInt = (J o 6).toInt → (I' o 8).toInt = (J o 8).toInt → (FmL (fun c => False) K L') → post none (n, sh, Rf, I', L')) → Ev (qGG D cA b E) mReform_readUnit d (0, 0) 0 (lv_args 0 [.ref o, .ref x1, .int q]) [] (n, sh, Rf, J, K) post) (hs0 : o + 5 ≤ x1 ∨ x1 + 7 ≤ o) (hs1 : 0 ≤ lo) (hq0 : lo ≤ p2.toInt) (hq1 : p2.toInt ≤ 7) (hq2 : TokOK I0 x1) (hp : ∀ (I' : Nat → Nat → Int32) (L' : Nat → Nat → Int64), RI R I' → Fm (fun c => (o ≤ c ∧ c < o + 5) ∨ c = x1) I0 I' → ((I' o 6).toInt = (I0 o 6).toInt) → ((I' o 8).toInt = (I0 o 8).toInt) → (FmL (fun c => False) L0 L') → post none (n, sh, Rf, I', L')) : ∀ (k : Nat) {x2 : Int32} {x3 : Int32} {I : Nat → Nat → Int32} {L : Nat → Nat → Int64}, RI R I → Fm (fun c => (o ≤ c ∧ c < o + 5) ∨ c = x1) I0 I → ((0 : Int) ≤ x3.toInt ∧ x3.toInt ≤ 700) → ((I o 6).toInt = (I0 o 6).toInt) → ((I o 8).toInt = (I0 o 8).toInt) → (x2 = p2) → (TokOK I x1) → (FmL (fun c => False) L0 L) → (700 - x3.toInt).toNat < k → Ev (qGG D cA b E) mReform_readTerm (d + 1) (0, 0) 8 [(0, .ref o), (1, .ref x1), (2, .int x2), (3, .int x3)] [] (n, sh, Rf, I, L) post := by
  intro k
  induction k with
  | zero =>
    intro x2 x3 I L hR hf hi0 hi1 hi2 hi3 hi4 hl hm
    exact absurd hm (Nat.not_lt_zero _)
  | succ k ih =>
    intro x2 x3 I L hR hf hi0 hi1 hi2 hi3 hi4 hl hm
    have hz0 := hi3.symm
    subst hz0
    have g_1 : (0 : Int) ≤ (I o 6).toInt ∧ (I o 6).toInt ≤ 5 := hR.at0 ra 6 (by decide)
    have g_2 : (-1 : Int) ≤ (I o 8).toInt ∧ (I o 8).toInt ≤ 10 := hR.at0 ra 8 (by decide)
    refine sReform_readTerm_8 o n sh Rf I L post x1 p2 x3 d hok hw hw1 hd0 ?_
    unfold fReform_readTerm_8
    have l_3 : (700 : Int32).toInt = 700 := rfl
    refine ⟨fun c_4 => ?_, fun c_4 => ?_⟩
    · have d_5 := iLe c_4
      exact (hp _ _ hR hf (by first | omega | (intro h; omega) | exact Or.inl rfl | exact Or.inr rfl) (by first | omega | (intro h; omega) | exact Or.inl rfl | exact Or.inr rfl) hl)
    · have d_6 := iNle c_4
      have l_7 : (42 : Int32).toInt = 42 := rfl
      refine y_Tape_isSigng hok hw1 ra1 hR (fun r_8 u_9 u_10 gn_11 => ⟨r_8, I, L, rfl, rfl, ?_⟩)
      clear gn_11
      have b_12 : 0 ≤ r_8.toInt ∧ r_8.toInt ≤ 1 := u_9.rg
      have l_13 : (0 : Int32).toInt = 0 := rfl
      refine ⟨fun c_14 => ?_, fun c_14 => ?_⟩
      · have d_15 := iNe c_14
        unfold fReform_readTerm_33
        refine y_Tape_valueg hok hw1 ra1 hR (fun r_16 u_17 gn_18 => ⟨r_16, I, L, rfl, rfl, ?_⟩)
        clear gn_18
        have sg := u_10 (by omega)
        have vq := iEq u_17
        have v_19 : (0 : Int) ≤ r_16.toInt ∧ r_16.toInt ≤ 127 := by omega
        refine y_Tape_stepg hok hw1 ra1 hR (fun I_24 L_25 hR_26 fr_27 u_21 gn_22 ln_23 => ⟨I_24, L_25, rfl, rfl, ?_⟩)
        replace hl := hl.call ln_23 (fun c hc => by first | exact hc | exact False.elim hc | (dsimp only at hc ⊢; omega) | omega)
        clear gn_22
        have hf_28 : Fm (fun c => (o ≤ c ∧ c < o + 5) ∨ c = x1) I0 I_24 := hf.call fr_27 (fun c hc => by first | exact hc | (dsimp only at hc ⊢; omega) | omega)
        have t_29 : (I_24 o 6).toInt = (I o 6).toInt := by rw [fr_27 o (by first | omega | (dsimp only; omega))]
        have t_30 : (I_24 o 8).toInt = (I o 8).toInt := by rw [fr_27 o (by first | omega | (dsimp only; omega))]
        have k_31 : TokOK I_24 x1 := hi4.fr (fr_27 _ (by first | omega | (dsimp only; omega))) (fr_27 _ (by first | omega | (dsimp only; omega)))
        refine cReform_readUnit I_24 L_25 _ _ hR_26 k_31 (by omega) (by omega) (fun I_32 L_33 hR_34 fr_35 k6_38 k8_39 lz_37 => ⟨I_32, L_33, rfl, rfl, ?_⟩)
        replace hl := hl.call lz_37 (fun c hc => False.elim hc)
        have hf_36 : Fm (fun c => (o ≤ c ∧ c < o + 5) ∨ c = x1) I0 I_32 := hf_28.call fr_35 (fun c hc => hc)
        have k_40 : TokOK I_32 x1 := k_31.fr (fr_35 _ (by first | omega | (dsimp only; omega))) (fr_35 _ (by first | omega | (dsimp only; omega)))
        refine y_Reform_emitl hok hw ra (by first | omega | (intro h; omega) | exact Or.inl rfl | exact Or.inr rfl) hR_34 (fun I_45 L_46 hR_47 fr_48 u_42 u_43 ln_44 => ⟨I_45, L_46, rfl, rfl, ?_⟩)
        replace hl := hl.call ln_44 (fun c hc => by first | exact hc | exact False.elim hc | (dsimp only at hc ⊢; omega) | omega)
        have hf_49 : Fm (fun c => (o ≤ c ∧ c < o + 5) ∨ c = x1) I0 I_45 := hf_36.call fr_48 (fun c hc => by first | exact hc | (dsimp only at hc ⊢; omega) | omega)
        have g_50 : (0 : Int) ≤ (I_45 o 6).toInt ∧ (I_45 o 6).toInt ≤ 5 := hR_47.at0 ra 6 (by decide)
        have g_51 : (-1 : Int) ≤ (I_45 o 8).toInt ∧ (I_45 o 8).toInt ≤ 10 := hR_47.at0 ra 8 (by decide)
        have k_52 : TokOK I_45 x1 := k_40.fr (fr_48 _ (by first | omega | (dsimp only; omega))) (fr_48 _ (by first | omega | (dsimp only; omega)))
        have a_54 : (x3 + Int32.ofInt 1).toInt = x3.toInt + (1) := tIc (by omega) (by omega) (by decide) (by decide)
        generalize ez_53 : (x3 + Int32.ofInt 1) = z_53 at a_54 ⊢
        exact ih hR_47 hf_49 (by first | omega | (intro h; omega) | exact Or.inl rfl | exact Or.inr rfl) (by first | omega | (intro h; omega) | exact Or.inl rfl | exact Or.inr rfl) (by first | omega | (intro h; omega) | exact Or.inl rfl | exact Or.inr rfl) rfl k_52 hl (by omega)
      · have d_55 := iEq c_14
        have l_56 : (47 : Int32).toInt = 47 := rfl
        refine y_Tape_isSigng hok hw1 ra1 hR (fun r_57 u_58 u_59 gn_60 => ⟨r_57, I, L, rfl, rfl, ?_⟩)
        clear gn_60
        have b_61 : 0 ≤ r_57.toInt ∧ r_57.toInt ≤ 1 := u_58.rg
        refine ⟨fun c_62 => ?_, fun c_62 => ?_⟩
        · have d_63 := iEq c_62
          exact (hp _ _ hR hf (by first | omega | (intro h; omega) | exact Or.inl rfl | exact Or.inr rfl) (by first | omega | (intro h; omega) | exact Or.inl rfl | exact Or.inr rfl) hl)
        · have d_64 := iNe c_62
          unfold fReform_readTerm_33
          refine y_Tape_valueg hok hw1 ra1 hR (fun r_65 u_66 gn_67 => ⟨r_65, I, L, rfl, rfl, ?_⟩)
          clear gn_67
          have sg := u_59 (by omega)
          have vq := iEq u_66
          have v_68 : (0 : Int) ≤ r_65.toInt ∧ r_65.toInt ≤ 127 := by omega
          refine y_Tape_stepg hok hw1 ra1 hR (fun I_73 L_74 hR_75 fr_76 u_70 gn_71 ln_72 => ⟨I_73, L_74, rfl, rfl, ?_⟩)
          replace hl := hl.call ln_72 (fun c hc => by first | exact hc | exact False.elim hc | (dsimp only at hc ⊢; omega) | omega)
          clear gn_71
          have hf_77 : Fm (fun c => (o ≤ c ∧ c < o + 5) ∨ c = x1) I0 I_73 := hf.call fr_76 (fun c hc => by first | exact hc | (dsimp only at hc ⊢; omega) | omega)
          have t_78 : (I_73 o 6).toInt = (I o 6).toInt := by rw [fr_76 o (by first | omega | (dsimp only; omega))]
          have t_79 : (I_73 o 8).toInt = (I o 8).toInt := by rw [fr_76 o (by first | omega | (dsimp only; omega))]
          have k_80 : TokOK I_73 x1 := hi4.fr (fr_76 _ (by first | omega | (dsimp only; omega))) (fr_76 _ (by first | omega | (dsimp only; omega)))
          refine cReform_readUnit I_73 L_74 _ _ hR_75 k_80 (by omega) (by omega) (fun I_81 L_82 hR_83 fr_84 k6_87 k8_88 lz_86 => ⟨I_81, L_82, rfl, rfl, ?_⟩)
          replace hl := hl.call lz_86 (fun c hc => False.elim hc)
          have hf_85 : Fm (fun c => (o ≤ c ∧ c < o + 5) ∨ c = x1) I0 I_81 := hf_77.call fr_84 (fun c hc => hc)
          have k_89 : TokOK I_81 x1 := k_80.fr (fr_84 _ (by first | omega | (dsimp only; omega))) (fr_84 _ (by first | omega | (dsimp only; omega)))
          refine y_Reform_emitl hok hw ra (by first | omega | (intro h; omega) | exact Or.inl rfl | exact Or.inr rfl) hR_83 (fun I_94 L_95 hR_96 fr_97 u_91 u_92 ln_93 => ⟨I_94, L_95, rfl, rfl, ?_⟩)
          replace hl := hl.call ln_93 (fun c hc => by first | exact hc | exact False.elim hc | (dsimp only at hc ⊢; omega) | omega)
          have hf_98 : Fm (fun c => (o ≤ c ∧ c < o + 5) ∨ c = x1) I0 I_94 := hf_85.call fr_97 (fun c hc => by first | exact hc | (dsimp only at hc ⊢; omega) | omega)
          have g_99 : (0 : Int) ≤ (I_94 o 6).toInt ∧ (I_94 o 6).toInt ≤ 5 := hR_96.at0 ra 6 (by decide)
          have g_100 : (-1 : Int) ≤ (I_94 o 8).toInt ∧ (I_94 o 8).toInt ≤ 10 := hR_96.at0 ra 8 (by decide)
          have k_101 : TokOK I_94 x1 := k_89.fr (fr_97 _ (by first | omega | (dsimp only; omega))) (fr_97 _ (by first | omega | (dsimp only; omega)))
          have a_103 : (x3 + Int32.ofInt 1).toInt = x3.toInt + (1) := tIc (by omega) (by omega) (by decide) (by decide)
          generalize ez_102 : (x3 + Int32.ofInt 1) = z_102 at a_103 ⊢
          exact ih hR_96 hf_98 (by first | omega | (intro h; omega) | exact Or.inl rfl | exact Or.inr rfl) (by first | omega | (intro h; omega) | exact Or.inl rfl | exact Or.inr rfl) (by first | omega | (intro h; omega) | exact Or.inl rfl | exact Or.inr rfl) rfl k_101 hl (by omega)
set_option maxHeartbeats 4000000 in
set_option maxRecDepth 20000 in
theorem y_Reform_readTerml {D : va_G} {cA : FieldType → ClassId} {b : Nat} {E : State → Prop} {R : qRg} {o n : Nat} {sh : Nat → qC} {Rf : Nat → Nat → Option Nat} {I0 : Nat → Nat → Int32} {L0 : Nat → Nat → Int64} {post : Option Value → qS → Prop} {x1 : Nat} {p2 : Int32} (hok : q_ok (qGG D cA b E)) (hw : WfReform (qGG D cA b E) n sh Rf o) (ra : RAReform R o) (hw1 : WfTape (qGG D cA b E) n sh Rf x1) (ra1 : RATape R x1) {d : Nat} {lo : Int} (hd0 : 5 ≤ d) (cReform_readUnit : ∀ (J : Nat → Nat → Int32) (K : Nat → Nat → Int64) (post : Option Value → qS → Prop) (q : Int32), RI R J → TokOK J x1 → lo ≤ q.toInt → q.toInt ≤ 7 → (∀ I' L', RI R I' → Fm (fun c => (o ≤ c ∧ c < o + 5) ∨ c = x1) J I' → (I' o 6).toInt = (J o 6).toInt → (I' o 8).toInt = (J o 8).toInt → (FmL (fun c => False) K L') → post none (n, sh, Rf, I', L')) → Ev (qGG D cA b E) mReform_readUnit d (0, 0) 0 (lv_args 0 [.ref o, .ref x1, .int q]) [] (n, sh, Rf, J, K) post) (hs0 : o + 5 ≤ x1 ∨ x1 + 7 ≤ o) (hs1 : 0 ≤ lo) (hq0 : lo ≤ p2.toInt) (hq1 : p2.toInt ≤ 7) (hq2 : TokOK I0 x1) (hR : RI R I0) (hp : ∀ (I' : Nat → Nat → Int32) (L' : Nat → Nat → Int64), RI R I' → Fm (fun c => (o ≤ c ∧ c < o + 5) ∨ c = x1) I0 I' → ((I' o 6).toInt = (I0 o 6).toInt) → ((I' o 8).toInt = (I0 o 8).toInt) → (FmL (fun c => False) L0 L') → post none (n, sh, Rf, I', L')) : Ev (qGG D cA b E) mReform_readTerm (d + 1) (0, 0) 0 (lv_args 0 [.ref o, .ref x1, .int p2]) [] (n, sh, Rf, I0, L0) post := by
  have hf : Fm (fun c => (o ≤ c ∧ c < o + 5) ∨ c = x1) I0 I0 := Fm.rf
  have g_104 : (0 : Int) ≤ (I0 o 6).toInt ∧ (I0 o 6).toInt ≤ 5 := hR.at0 ra 6 (by decide)
  have g_105 : (-1 : Int) ≤ (I0 o 8).toInt ∧ (I0 o 8).toInt ≤ 10 := hR.at0 ra 8 (by decide)
  refine sReform_readTerm_0 o n sh Rf I0 L0 post x1 p2 d hok hw hw1 hd0 ?_
  unfold fReform_readTerm_0
  have hl : FmL (fun c => False) L0 L0 := FmL.rf
  refine cReform_readUnit I0 L0 _ _ hR hq2 (by omega) (by omega) (fun I_106 L_107 hR_108 fr_109 k6_112 k8_113 lz_111 => ⟨I_106, L_107, rfl, rfl, ?_⟩)
  replace hl := hl.call lz_111 (fun c hc => False.elim hc)
  have hf_110 : Fm (fun c => (o ≤ c ∧ c < o + 5) ∨ c = x1) I0 I_106 := hf.call fr_109 (fun c hc => hc)
  have k_114 : TokOK I_106 x1 := hq2.fr (fr_109 _ (by first | omega | (dsimp only; omega))) (fr_109 _ (by first | omega | (dsimp only; omega)))
  have l_115 : (0 : Int32).toInt = 0 := rfl
  exact yReform_readTerm_8l (I0 := I0) (L0 := L0) (p2 := p2) hok hw ra hw1 ra1 hd0 cReform_readUnit hs0 hs1 hq0 hq1 hq2 hp  _ hR_108 hf_110 (by first | omega | (intro h; omega) | exact Or.inl rfl | exact Or.inr rfl) (by first | omega | (intro h; omega) | exact Or.inl rfl | exact Or.inr rfl) (by first | omega | (intro h; omega) | exact Or.inl rfl | exact Or.inr rfl) rfl k_114 hl (Nat.lt_succ_self _)
set_option maxHeartbeats 4000000 in
set_option maxRecDepth 20000 in
theorem y_Reform_readUnitl {D : va_G} {cA : FieldType → ClassId} {b : Nat} {E : State → Prop} {R : qRg} {o n : Nat} {sh : Nat → qC} {Rf : Nat → Nat → Option Nat} {I0 : Nat → Nat → Int32} {L0 : Nat → Nat → Int64} {post : Option Value → qS → Prop} {x1 : Nat} {p2 : Int32} (hok : q_ok (qGG D cA b E)) (hw : WfReform (qGG D cA b E) n sh Rf o) (ra : RAReform R o) (hw1 : WfTape (qGG D cA b E) n sh Rf x1) (ra1 : RATape R x1) {d : Nat} {lo : Int} (hd0 : 5 ≤ d) (cReform_readEither : ∀ (J : Nat → Nat → Int32) (K : Nat → Nat → Int64) (post : Option Value → qS → Prop) (q : Int32), RI R J → TokOK J x1 → (lo + 1) ≤ q.toInt → q.toInt ≤ 7 → (∀ I' L', RI R I' → Fm (fun c => (o ≤ c ∧ c < o + 5) ∨ c = x1) J I' → (I' o 6).toInt = (J o 6).toInt → (I' o 8).toInt = (J o 8).toInt → (FmL (fun c => False) K L') → post none (n, sh, Rf, I', L')) → Ev (qGG D cA b E) mReform_readEither d (0, 0) 0 (lv_args 0 [.ref o, .ref x1, .int q]) [] (n, sh, Rf, J, K) post) (hs0 : o + 5 ≤ x1 ∨ x1 + 7 ≤ o) (hs1 : 0 ≤ lo) (hq0 : lo ≤ p2.toInt) (hq1 : p2.toInt ≤ 7) (hq2 : TokOK I0 x1) (hR : RI R I0) (hp : ∀ (I' : Nat → Nat → Int32) (L' : Nat → Nat → Int64), RI R I' → Fm (fun c => (o ≤ c ∧ c < o + 5) ∨ c = x1) I0 I' → ((I' o 6).toInt = (I0 o 6).toInt) → ((I' o 8).toInt = (I0 o 8).toInt) → (FmL (fun c => False) L0 L') → post none (n, sh, Rf, I', L')) : Ev (qGG D cA b E) mReform_readUnit (d + 1) (0, 0) 0 (lv_args 0 [.ref o, .ref x1, .int p2]) [] (n, sh, Rf, I0, L0) post := by
  have hf : Fm (fun c => (o ≤ c ∧ c < o + 5) ∨ c = x1) I0 I0 := Fm.rf
  have g_1 : (0 : Int) ≤ (I0 o 6).toInt ∧ (I0 o 6).toInt ≤ 5 := hR.at0 ra 6 (by decide)
  have g_2 : (-1 : Int) ≤ (I0 o 8).toInt ∧ (I0 o 8).toInt ≤ 10 := hR.at0 ra 8 (by decide)
  refine sReform_readUnit_0 o n sh Rf I0 L0 post x1 p2 d hok hw hw1 hd0 ?_
  unfold fReform_readUnit_0
  have hl : FmL (fun c => False) L0 L0 := FmL.rf
  have l_3 : (40 : Int32).toInt = 40 := rfl
  refine y_Tape_isSigng hok hw1 ra1 hR (fun r_4 u_5 u_6 gn_7 => ⟨r_4, I0, L0, rfl, rfl, ?_⟩)
  clear gn_7
  have b_8 : 0 ≤ r_4.toInt ∧ r_4.toInt ≤ 1 := u_5.rg
  refine y_Tape_kindg hok hw1 ra1 hR (fun r_9 u_10 gn_11 => ⟨r_9, I0, L0, rfl, rfl, ?_⟩)
  clear gn_11
  have l_12 : (1 : Int32).toInt = 1 := rfl
  refine ⟨fun c_13 => ?_, fun c_13 => ?_⟩
  · have d_14 := iNe c_13
    unfold fReform_readUnit_29
    unfold fReform_readUnit_30
    have l_15 : (0 : Int32).toInt = 0 := rfl
    have g_16 : (0 : Int) ≤ (I0 o 7).toInt ∧ (I0 o 7).toInt ≤ 100 := hR.at0 ra 7 (by decide)
    have l_17 : (100 : Int32).toInt = 100 := rfl
    refine ⟨fun c_18 => ?_, fun c_18 => ?_⟩
    · have d_19 := iLe c_18
      have l_20 : (2 : Int32).toInt = 2 := rfl
      refine y_Tape_refuseg hok hw1 ra1 (by first | omega | (intro h; omega) | exact Or.inl rfl | exact Or.inr rfl) hR (fun I_26 L_27 hR_28 fr_29 u_22 u_23 gn_24 ln_25 => ⟨I_26, L_27, rfl, rfl, ?_⟩)
      replace hl := hl.call ln_25 (fun c hc => by first | exact hc | exact False.elim hc | (dsimp only at hc ⊢; omega) | omega)
      clear gn_24
      have hf_30 : Fm (fun c => (o ≤ c ∧ c < o + 5) ∨ c = x1) I0 I_26 := hf.call fr_29 (fun c hc => by first | exact hc | (dsimp only at hc ⊢; omega) | omega)
      have t_31 : (I_26 o 6).toInt = (I0 o 6).toInt := by rw [fr_29 o (by first | omega | (dsimp only; omega))]
      have t_32 : (I_26 o 8).toInt = (I0 o 8).toInt := by rw [fr_29 o (by first | omega | (dsimp only; omega))]
      have t_33 : (I_26 o 7).toInt = (I0 o 7).toInt := by rw [fr_29 o (by first | omega | (dsimp only; omega))]
      have k_34 : TokOK I_26 x1 := hq2.fr (fr_29 _ (by first | omega | (dsimp only; omega))) (fr_29 _ (by first | omega | (dsimp only; omega)))
      exact (hp _ _ hR_28 hf_30 (by first | omega | (intro h; omega) | exact Or.inl rfl | exact Or.inr rfl) (by first | omega | (intro h; omega) | exact Or.inl rfl | exact Or.inr rfl) hl)
    · have d_35 := iNle c_18
      refine ⟨fun c_36 => ?_, fun c_36 => ?_⟩
      · have d_37 := iNe c_36
        unfold fReform_readUnit_57
        refine ⟨fun c_38 => ?_, fun c_38 => ?_⟩
        · have d_39 := iEq c_38
          exfalso; omega
        · have d_40 := iNe c_38
          have l_41 : (6 : Int32).toInt = 6 := rfl
          refine ⟨fun c_42 => ?_, fun c_42 => ?_⟩
          · have d_43 := iLe c_42
            unfold fReform_readUnit_73
            refine ⟨fun c_44 => ?_, fun c_44 => ?_⟩
            · have d_45 := iEq c_44
              unfold fReform_readUnit_95
              have g_46 : (0 : Int) ≤ (I0 o 7).toInt ∧ (I0 o 7).toInt ≤ 100 := hR.at0 ra 7 (by decide)
              have a_47 : ((I0 o 7) + 1).toInt = (I0 o 7).toInt + (1 : Int32).toInt := tAdd (by omega) (by omega)
              refine fun I_48 e_49 => ?_
              have hR_50 : RI R I_48 := hR.up0 (k := 7) ra (by decide) (Or.inl rfl) e_49 (show (0 : Int) ≤ ((I0 o 7) + 1).toInt by omega) (show ((I0 o 7) + 1).toInt ≤ (100 : Int) by omega)
              have hf_51 : Fm (fun c => (o ≤ c ∧ c < o + 5) ∨ c = x1) I0 I_48 := hf.set (by first | rfl | omega | (dsimp only; omega)) e_49
              have t_52 : (I_48 o 6).toInt = (I0 o 6).toInt := by rw [← e_49, q_u_k (by decide)]
              have t_53 : (I_48 o 8).toInt = (I0 o 8).toInt := by rw [← e_49, q_u_k (by decide)]
              have t_54 : (I_48 o 7).toInt = ((I0 o 7) + 1).toInt := by rw [← e_49, q_u_at]
              have k_55 : TokOK I_48 x1 := hq2.fr (by rw [← e_49]; exact q_u_ne (by omega)) (by rw [← e_49]; exact q_u_ne (by omega))
              have w_56 : I_48 (x1 + 5) = I0 (x1 + 5) := by rw [← e_49, q_u_ne (by omega)]
              have w_57 : I_48 x1 = I0 x1 := by rw [← e_49, q_u_ne (by omega)]
              refine ⟨fun c_58 => ?_, fun c_58 => ?_⟩
              · have d_59 := iEq c_58
                exfalso; omega
              · have d_60 := iNe c_58
                refine y_Tape_stepg hok hw1 ra1 hR_50 (fun I_65 L_66 hR_67 fr_68 u_62 gn_63 ln_64 => ⟨I_65, L_66, rfl, rfl, ?_⟩)
                replace hl := hl.call ln_64 (fun c hc => by first | exact hc | exact False.elim hc | (dsimp only at hc ⊢; omega) | omega)
                clear gn_63
                have hf_69 : Fm (fun c => (o ≤ c ∧ c < o + 5) ∨ c = x1) I0 I_65 := hf_51.call fr_68 (fun c hc => by first | exact hc | (dsimp only at hc ⊢; omega) | omega)
                have t_70 : (I_65 o 6).toInt = (I_48 o 6).toInt := by rw [fr_68 o (by first | omega | (dsimp only; omega))]
                have t_71 : (I_65 o 8).toInt = (I_48 o 8).toInt := by rw [fr_68 o (by first | omega | (dsimp only; omega))]
                have t_72 : (I_65 o 7).toInt = (I_48 o 7).toInt := by rw [fr_68 o (by first | omega | (dsimp only; omega))]
                have k_73 : TokOK I_65 x1 := k_55.fr (fr_68 _ (by first | omega | (dsimp only; omega))) (fr_68 _ (by first | omega | (dsimp only; omega)))
                have a_74 : (p2 + 1).toInt = p2.toInt + (1 : Int32).toInt := tAdd (by omega) (by omega)
                refine cReform_readEither I_65 L_66 _ _ hR_67 k_73 (by omega) (by omega) (fun I_75 L_76 hR_77 fr_78 k6_81 k8_82 lz_80 => ⟨I_75, L_76, rfl, rfl, ?_⟩)
                replace hl := hl.call lz_80 (fun c hc => False.elim hc)
                have hf_79 : Fm (fun c => (o ≤ c ∧ c < o + 5) ∨ c = x1) I0 I_75 := hf_69.call fr_78 (fun c hc => hc)
                have k_83 : TokOK I_75 x1 := k_73.fr (fr_78 _ (by first | omega | (dsimp only; omega))) (fr_78 _ (by first | omega | (dsimp only; omega)))
                have l_84 : (41 : Int32).toInt = 41 := rfl
                refine y_Tape_isSigng hok hw1 ra1 hR_77 (fun r_85 u_86 u_87 gn_88 => ⟨r_85, I_75, L_76, rfl, rfl, ?_⟩)
                clear gn_88
                have b_89 : 0 ≤ r_85.toInt ∧ r_85.toInt ≤ 1 := u_86.rg
                refine y_Tape_passIfg hok hw1 ra1 hR_77 (fun I_94 L_95 hR_96 fr_97 u_91 gn_92 ln_93 => ⟨I_94, L_95, rfl, rfl, ?_⟩)
                replace hl := hl.call ln_93 (fun c hc => by first | exact hc | exact False.elim hc | (dsimp only at hc ⊢; omega) | omega)
                clear gn_92
                have hf_98 : Fm (fun c => (o ≤ c ∧ c < o + 5) ∨ c = x1) I0 I_94 := hf_79.call fr_97 (fun c hc => by first | exact hc | (dsimp only at hc ⊢; omega) | omega)
                have t_99 : (I_94 o 6).toInt = (I_75 o 6).toInt := by rw [fr_97 o (by first | omega | (dsimp only; omega))]
                have t_100 : (I_94 o 8).toInt = (I_75 o 8).toInt := by rw [fr_97 o (by first | omega | (dsimp only; omega))]
                have k_101 : TokOK I_94 x1 := k_83.fr (fr_97 _ (by first | omega | (dsimp only; omega))) (fr_97 _ (by first | omega | (dsimp only; omega)))
                exact (hp _ _ hR_96 hf_98 (by first | omega | (intro h; omega) | exact Or.inl rfl | exact Or.inr rfl) (by first | omega | (intro h; omega) | exact Or.inl rfl | exact Or.inr rfl) hl)
            · have d_102 := iNe c_44
              exfalso; omega
          · have d_103 := iNle c_42
            have l_104 : (2 : Int32).toInt = 2 := rfl
            refine y_Tape_refuseg hok hw1 ra1 (by first | omega | (intro h; omega) | exact Or.inl rfl | exact Or.inr rfl) hR (fun I_110 L_111 hR_112 fr_113 u_106 u_107 gn_108 ln_109 => ⟨I_110, L_111, rfl, rfl, ?_⟩)
            replace hl := hl.call ln_109 (fun c hc => by first | exact hc | exact False.elim hc | (dsimp only at hc ⊢; omega) | omega)
            clear gn_108
            have hf_114 : Fm (fun c => (o ≤ c ∧ c < o + 5) ∨ c = x1) I0 I_110 := hf.call fr_113 (fun c hc => by first | exact hc | (dsimp only at hc ⊢; omega) | omega)
            have t_115 : (I_110 o 6).toInt = (I0 o 6).toInt := by rw [fr_113 o (by first | omega | (dsimp only; omega))]
            have t_116 : (I_110 o 8).toInt = (I0 o 8).toInt := by rw [fr_113 o (by first | omega | (dsimp only; omega))]
            have t_117 : (I_110 o 7).toInt = (I0 o 7).toInt := by rw [fr_113 o (by first | omega | (dsimp only; omega))]
            have k_118 : TokOK I_110 x1 := hq2.fr (fr_113 _ (by first | omega | (dsimp only; omega))) (fr_113 _ (by first | omega | (dsimp only; omega)))
            exact (hp _ _ hR_112 hf_114 (by first | omega | (intro h; omega) | exact Or.inl rfl | exact Or.inr rfl) (by first | omega | (intro h; omega) | exact Or.inl rfl | exact Or.inr rfl) hl)
      · have d_119 := iEq c_36
        refine ⟨fun c_120 => ?_, fun c_120 => ?_⟩
        · have d_121 := iNe c_120
          exfalso; omega
        · have d_122 := iEq c_120
          refine y_Tape_isNumberg hok hw1 ra1 hR (fun r_123 u_124 u_125 gn_126 => ⟨r_123, I0, L0, rfl, rfl, ?_⟩)
          clear gn_126
          have b_127 : 0 ≤ r_123.toInt ∧ r_123.toInt ≤ 1 := u_124.rg
          refine ⟨fun c_128 => ?_, fun c_128 => ?_⟩
          · have d_129 := iEq c_128
            have l_130 : (2 : Int32).toInt = 2 := rfl
            refine y_Tape_refuseg hok hw1 ra1 (by first | omega | (intro h; omega) | exact Or.inl rfl | exact Or.inr rfl) hR (fun I_136 L_137 hR_138 fr_139 u_132 u_133 gn_134 ln_135 => ⟨I_136, L_137, rfl, rfl, ?_⟩)
            replace hl := hl.call ln_135 (fun c hc => by first | exact hc | exact False.elim hc | (dsimp only at hc ⊢; omega) | omega)
            clear gn_134
            have hf_140 : Fm (fun c => (o ≤ c ∧ c < o + 5) ∨ c = x1) I0 I_136 := hf.call fr_139 (fun c hc => by first | exact hc | (dsimp only at hc ⊢; omega) | omega)
            have t_141 : (I_136 o 6).toInt = (I0 o 6).toInt := by rw [fr_139 o (by first | omega | (dsimp only; omega))]
            have t_142 : (I_136 o 8).toInt = (I0 o 8).toInt := by rw [fr_139 o (by first | omega | (dsimp only; omega))]
            have t_143 : (I_136 o 7).toInt = (I0 o 7).toInt := by rw [fr_139 o (by first | omega | (dsimp only; omega))]
            have k_144 : TokOK I_136 x1 := hq2.fr (fr_139 _ (by first | omega | (dsimp only; omega))) (fr_139 _ (by first | omega | (dsimp only; omega)))
            exact (hp _ _ hR_138 hf_140 (by first | omega | (intro h; omega) | exact Or.inl rfl | exact Or.inr rfl) (by first | omega | (intro h; omega) | exact Or.inl rfl | exact Or.inr rfl) hl)
          · have d_145 := iNe c_128
            unfold fReform_readUnit_57
            have nb := u_125 (by omega)
            have tk := (hq2 (I0 x1 10).toNatClampNeg).1 nb
            refine ⟨fun c_146 => ?_, fun c_146 => ?_⟩
            · have d_147 := iEq c_146
              unfold fReform_readUnit_73
              refine ⟨fun c_148 => ?_, fun c_148 => ?_⟩
              · have d_149 := iEq c_148
                unfold fReform_readUnit_95
                have g_150 : (0 : Int) ≤ (I0 o 7).toInt ∧ (I0 o 7).toInt ≤ 100 := hR.at0 ra 7 (by decide)
                have a_151 : ((I0 o 7) + 1).toInt = (I0 o 7).toInt + (1 : Int32).toInt := tAdd (by omega) (by omega)
                refine fun I_152 e_153 => ?_
                have hR_154 : RI R I_152 := hR.up0 (k := 7) ra (by decide) (Or.inl rfl) e_153 (show (0 : Int) ≤ ((I0 o 7) + 1).toInt by omega) (show ((I0 o 7) + 1).toInt ≤ (100 : Int) by omega)
                have hf_155 : Fm (fun c => (o ≤ c ∧ c < o + 5) ∨ c = x1) I0 I_152 := hf.set (by first | rfl | omega | (dsimp only; omega)) e_153
                have t_156 : (I_152 o 6).toInt = (I0 o 6).toInt := by rw [← e_153, q_u_k (by decide)]
                have t_157 : (I_152 o 8).toInt = (I0 o 8).toInt := by rw [← e_153, q_u_k (by decide)]
                have t_158 : (I_152 o 7).toInt = ((I0 o 7) + 1).toInt := by rw [← e_153, q_u_at]
                have k_159 : TokOK I_152 x1 := hq2.fr (by rw [← e_153]; exact q_u_ne (by omega)) (by rw [← e_153]; exact q_u_ne (by omega))
                have w_160 : I_152 (x1 + 5) = I0 (x1 + 5) := by rw [← e_153, q_u_ne (by omega)]
                have w_161 : I_152 x1 = I0 x1 := by rw [← e_153, q_u_ne (by omega)]
                refine ⟨fun c_162 => ?_, fun c_162 => ?_⟩
                · have d_163 := iEq c_162
                  refine ⟨fun c_164 => ?_, fun c_164 => ?_⟩
                  · have d_165 := iEq c_164
                    refine y_Tape_valueg hok hw1 ra1 hR_154 (fun r_166 u_167 gn_168 => ⟨r_166, I_152, L0, rfl, rfl, ?_⟩)
                    clear gn_168
                    have bv := u_167
                    rw [w_160, w_161] at bv
                    have bw := iEq bv
                    have v_169 : (0 : Int) ≤ r_166.toInt ∧ r_166.toInt ≤ 9999 := by omega
                    have l_170 : (64 : Int32).toInt = 64 := rfl
                    have a_171 : (64 + r_166).toInt = (64 : Int32).toInt + r_166.toInt := tAdd (by omega) (by omega)
                    refine y_Reform_emitl hok hw ra (by first | omega | (intro h; omega) | exact Or.inl rfl | exact Or.inr rfl) hR_154 (fun I_176 L_177 hR_178 fr_179 u_173 u_174 ln_175 => ⟨I_176, L_177, rfl, rfl, ?_⟩)
                    replace hl := hl.call ln_175 (fun c hc => by first | exact hc | exact False.elim hc | (dsimp only at hc ⊢; omega) | omega)
                    have hf_180 : Fm (fun c => (o ≤ c ∧ c < o + 5) ∨ c = x1) I0 I_176 := hf_155.call fr_179 (fun c hc => by first | exact hc | (dsimp only at hc ⊢; omega) | omega)
                    have g_181 : (0 : Int) ≤ (I_176 o 6).toInt ∧ (I_176 o 6).toInt ≤ 5 := hR_178.at0 ra 6 (by decide)
                    have g_182 : (-1 : Int) ≤ (I_176 o 8).toInt ∧ (I_176 o 8).toInt ≤ 10 := hR_178.at0 ra 8 (by decide)
                    have g_183 : (0 : Int) ≤ (I_176 o 7).toInt ∧ (I_176 o 7).toInt ≤ 100 := hR_178.at0 ra 7 (by decide)
                    have k_184 : TokOK I_176 x1 := k_159.fr (fr_179 _ (by first | omega | (dsimp only; omega))) (fr_179 _ (by first | omega | (dsimp only; omega)))
                    refine y_Tape_stepg hok hw1 ra1 hR_178 (fun I_189 L_190 hR_191 fr_192 u_186 gn_187 ln_188 => ⟨I_189, L_190, rfl, rfl, ?_⟩)
                    replace hl := hl.call ln_188 (fun c hc => by first | exact hc | exact False.elim hc | (dsimp only at hc ⊢; omega) | omega)
                    clear gn_187
                    have hf_193 : Fm (fun c => (o ≤ c ∧ c < o + 5) ∨ c = x1) I0 I_189 := hf_180.call fr_192 (fun c hc => by first | exact hc | (dsimp only at hc ⊢; omega) | omega)
                    have t_194 : (I_189 o 6).toInt = (I_176 o 6).toInt := by rw [fr_192 o (by first | omega | (dsimp only; omega))]
                    have t_195 : (I_189 o 8).toInt = (I_176 o 8).toInt := by rw [fr_192 o (by first | omega | (dsimp only; omega))]
                    have t_196 : (I_189 o 7).toInt = (I_176 o 7).toInt := by rw [fr_192 o (by first | omega | (dsimp only; omega))]
                    have k_197 : TokOK I_189 x1 := k_184.fr (fr_192 _ (by first | omega | (dsimp only; omega))) (fr_192 _ (by first | omega | (dsimp only; omega)))
                    exact (hp _ _ hR_191 hf_193 (by first | omega | (intro h; omega) | exact Or.inl rfl | exact Or.inr rfl) (by first | omega | (intro h; omega) | exact Or.inl rfl | exact Or.inr rfl) hl)
                  · have d_198 := iNe c_164
                    exfalso; omega
                · have d_199 := iNe c_162
                  exfalso; omega
              · have d_200 := iNe c_148
                exfalso; omega
            · have d_201 := iNe c_146
              exfalso; omega
  · have d_202 := iEq c_13
    refine y_Tape_valueg hok hw1 ra1 hR (fun r_203 u_204 gn_205 => ⟨r_203, I0, L0, rfl, rfl, ?_⟩)
    clear gn_205
    refine y_Reform_isAskedl hok hR (fun r_206 u_207 u_208 => ⟨r_206, I0, L0, rfl, rfl, ?_⟩)
    have b_209 : 0 ≤ r_206.toInt ∧ r_206.toInt ≤ 1 := u_207.rg
    have l_210 : (0 : Int32).toInt = 0 := rfl
    refine ⟨fun c_211 => ?_, fun c_211 => ?_⟩
    · have d_212 := iEq c_211
      unfold fReform_readUnit_29
      unfold fReform_readUnit_30
      have g_213 : (0 : Int) ≤ (I0 o 7).toInt ∧ (I0 o 7).toInt ≤ 100 := hR.at0 ra 7 (by decide)
      have l_214 : (100 : Int32).toInt = 100 := rfl
      refine ⟨fun c_215 => ?_, fun c_215 => ?_⟩
      · have d_216 := iLe c_215
        have l_217 : (2 : Int32).toInt = 2 := rfl
        refine y_Tape_refuseg hok hw1 ra1 (by first | omega | (intro h; omega) | exact Or.inl rfl | exact Or.inr rfl) hR (fun I_223 L_224 hR_225 fr_226 u_219 u_220 gn_221 ln_222 => ⟨I_223, L_224, rfl, rfl, ?_⟩)
        replace hl := hl.call ln_222 (fun c hc => by first | exact hc | exact False.elim hc | (dsimp only at hc ⊢; omega) | omega)
        clear gn_221
        have hf_227 : Fm (fun c => (o ≤ c ∧ c < o + 5) ∨ c = x1) I0 I_223 := hf.call fr_226 (fun c hc => by first | exact hc | (dsimp only at hc ⊢; omega) | omega)
        have t_228 : (I_223 o 6).toInt = (I0 o 6).toInt := by rw [fr_226 o (by first | omega | (dsimp only; omega))]
        have t_229 : (I_223 o 8).toInt = (I0 o 8).toInt := by rw [fr_226 o (by first | omega | (dsimp only; omega))]
        have t_230 : (I_223 o 7).toInt = (I0 o 7).toInt := by rw [fr_226 o (by first | omega | (dsimp only; omega))]
        have k_231 : TokOK I_223 x1 := hq2.fr (fr_226 _ (by first | omega | (dsimp only; omega))) (fr_226 _ (by first | omega | (dsimp only; omega)))
        exact (hp _ _ hR_225 hf_227 (by first | omega | (intro h; omega) | exact Or.inl rfl | exact Or.inr rfl) (by first | omega | (intro h; omega) | exact Or.inl rfl | exact Or.inr rfl) hl)
      · have d_232 := iNle c_215
        refine ⟨fun c_233 => ?_, fun c_233 => ?_⟩
        · have d_234 := iNe c_233
          unfold fReform_readUnit_57
          refine ⟨fun c_235 => ?_, fun c_235 => ?_⟩
          · have d_236 := iEq c_235
            exfalso; omega
          · have d_237 := iNe c_235
            have l_238 : (6 : Int32).toInt = 6 := rfl
            refine ⟨fun c_239 => ?_, fun c_239 => ?_⟩
            · have d_240 := iLe c_239
              unfold fReform_readUnit_73
              refine ⟨fun c_241 => ?_, fun c_241 => ?_⟩
              · have d_242 := iEq c_241
                unfold fReform_readUnit_95
                have g_243 : (0 : Int) ≤ (I0 o 7).toInt ∧ (I0 o 7).toInt ≤ 100 := hR.at0 ra 7 (by decide)
                have a_244 : ((I0 o 7) + 1).toInt = (I0 o 7).toInt + (1 : Int32).toInt := tAdd (by omega) (by omega)
                refine fun I_245 e_246 => ?_
                have hR_247 : RI R I_245 := hR.up0 (k := 7) ra (by decide) (Or.inl rfl) e_246 (show (0 : Int) ≤ ((I0 o 7) + 1).toInt by omega) (show ((I0 o 7) + 1).toInt ≤ (100 : Int) by omega)
                have hf_248 : Fm (fun c => (o ≤ c ∧ c < o + 5) ∨ c = x1) I0 I_245 := hf.set (by first | rfl | omega | (dsimp only; omega)) e_246
                have t_249 : (I_245 o 6).toInt = (I0 o 6).toInt := by rw [← e_246, q_u_k (by decide)]
                have t_250 : (I_245 o 8).toInt = (I0 o 8).toInt := by rw [← e_246, q_u_k (by decide)]
                have t_251 : (I_245 o 7).toInt = ((I0 o 7) + 1).toInt := by rw [← e_246, q_u_at]
                have k_252 : TokOK I_245 x1 := hq2.fr (by rw [← e_246]; exact q_u_ne (by omega)) (by rw [← e_246]; exact q_u_ne (by omega))
                have w_253 : I_245 (x1 + 5) = I0 (x1 + 5) := by rw [← e_246, q_u_ne (by omega)]
                have w_254 : I_245 x1 = I0 x1 := by rw [← e_246, q_u_ne (by omega)]
                refine ⟨fun c_255 => ?_, fun c_255 => ?_⟩
                · have d_256 := iEq c_255
                  exfalso; omega
                · have d_257 := iNe c_255
                  refine y_Tape_stepg hok hw1 ra1 hR_247 (fun I_262 L_263 hR_264 fr_265 u_259 gn_260 ln_261 => ⟨I_262, L_263, rfl, rfl, ?_⟩)
                  replace hl := hl.call ln_261 (fun c hc => by first | exact hc | exact False.elim hc | (dsimp only at hc ⊢; omega) | omega)
                  clear gn_260
                  have hf_266 : Fm (fun c => (o ≤ c ∧ c < o + 5) ∨ c = x1) I0 I_262 := hf_248.call fr_265 (fun c hc => by first | exact hc | (dsimp only at hc ⊢; omega) | omega)
                  have t_267 : (I_262 o 6).toInt = (I_245 o 6).toInt := by rw [fr_265 o (by first | omega | (dsimp only; omega))]
                  have t_268 : (I_262 o 8).toInt = (I_245 o 8).toInt := by rw [fr_265 o (by first | omega | (dsimp only; omega))]
                  have t_269 : (I_262 o 7).toInt = (I_245 o 7).toInt := by rw [fr_265 o (by first | omega | (dsimp only; omega))]
                  have k_270 : TokOK I_262 x1 := k_252.fr (fr_265 _ (by first | omega | (dsimp only; omega))) (fr_265 _ (by first | omega | (dsimp only; omega)))
                  have a_271 : (p2 + 1).toInt = p2.toInt + (1 : Int32).toInt := tAdd (by omega) (by omega)
                  refine cReform_readEither I_262 L_263 _ _ hR_264 k_270 (by omega) (by omega) (fun I_272 L_273 hR_274 fr_275 k6_278 k8_279 lz_277 => ⟨I_272, L_273, rfl, rfl, ?_⟩)
                  replace hl := hl.call lz_277 (fun c hc => False.elim hc)
                  have hf_276 : Fm (fun c => (o ≤ c ∧ c < o + 5) ∨ c = x1) I0 I_272 := hf_266.call fr_275 (fun c hc => hc)
                  have k_280 : TokOK I_272 x1 := k_270.fr (fr_275 _ (by first | omega | (dsimp only; omega))) (fr_275 _ (by first | omega | (dsimp only; omega)))
                  have l_281 : (41 : Int32).toInt = 41 := rfl
                  refine y_Tape_isSigng hok hw1 ra1 hR_274 (fun r_282 u_283 u_284 gn_285 => ⟨r_282, I_272, L_273, rfl, rfl, ?_⟩)
                  clear gn_285
                  have b_286 : 0 ≤ r_282.toInt ∧ r_282.toInt ≤ 1 := u_283.rg
                  refine y_Tape_passIfg hok hw1 ra1 hR_274 (fun I_291 L_292 hR_293 fr_294 u_288 gn_289 ln_290 => ⟨I_291, L_292, rfl, rfl, ?_⟩)
                  replace hl := hl.call ln_290 (fun c hc => by first | exact hc | exact False.elim hc | (dsimp only at hc ⊢; omega) | omega)
                  clear gn_289
                  have hf_295 : Fm (fun c => (o ≤ c ∧ c < o + 5) ∨ c = x1) I0 I_291 := hf_276.call fr_294 (fun c hc => by first | exact hc | (dsimp only at hc ⊢; omega) | omega)
                  have t_296 : (I_291 o 6).toInt = (I_272 o 6).toInt := by rw [fr_294 o (by first | omega | (dsimp only; omega))]
                  have t_297 : (I_291 o 8).toInt = (I_272 o 8).toInt := by rw [fr_294 o (by first | omega | (dsimp only; omega))]
                  have k_298 : TokOK I_291 x1 := k_280.fr (fr_294 _ (by first | omega | (dsimp only; omega))) (fr_294 _ (by first | omega | (dsimp only; omega)))
                  exact (hp _ _ hR_293 hf_295 (by first | omega | (intro h; omega) | exact Or.inl rfl | exact Or.inr rfl) (by first | omega | (intro h; omega) | exact Or.inl rfl | exact Or.inr rfl) hl)
              · have d_299 := iNe c_241
                exfalso; omega
            · have d_300 := iNle c_239
              have l_301 : (2 : Int32).toInt = 2 := rfl
              refine y_Tape_refuseg hok hw1 ra1 (by first | omega | (intro h; omega) | exact Or.inl rfl | exact Or.inr rfl) hR (fun I_307 L_308 hR_309 fr_310 u_303 u_304 gn_305 ln_306 => ⟨I_307, L_308, rfl, rfl, ?_⟩)
              replace hl := hl.call ln_306 (fun c hc => by first | exact hc | exact False.elim hc | (dsimp only at hc ⊢; omega) | omega)
              clear gn_305
              have hf_311 : Fm (fun c => (o ≤ c ∧ c < o + 5) ∨ c = x1) I0 I_307 := hf.call fr_310 (fun c hc => by first | exact hc | (dsimp only at hc ⊢; omega) | omega)
              have t_312 : (I_307 o 6).toInt = (I0 o 6).toInt := by rw [fr_310 o (by first | omega | (dsimp only; omega))]
              have t_313 : (I_307 o 8).toInt = (I0 o 8).toInt := by rw [fr_310 o (by first | omega | (dsimp only; omega))]
              have t_314 : (I_307 o 7).toInt = (I0 o 7).toInt := by rw [fr_310 o (by first | omega | (dsimp only; omega))]
              have k_315 : TokOK I_307 x1 := hq2.fr (fr_310 _ (by first | omega | (dsimp only; omega))) (fr_310 _ (by first | omega | (dsimp only; omega)))
              exact (hp _ _ hR_309 hf_311 (by first | omega | (intro h; omega) | exact Or.inl rfl | exact Or.inr rfl) (by first | omega | (intro h; omega) | exact Or.inl rfl | exact Or.inr rfl) hl)
        · have d_316 := iEq c_233
          refine ⟨fun c_317 => ?_, fun c_317 => ?_⟩
          · have d_318 := iNe c_317
            exfalso; omega
          · have d_319 := iEq c_317
            refine y_Tape_isNumberg hok hw1 ra1 hR (fun r_320 u_321 u_322 gn_323 => ⟨r_320, I0, L0, rfl, rfl, ?_⟩)
            clear gn_323
            have b_324 : 0 ≤ r_320.toInt ∧ r_320.toInt ≤ 1 := u_321.rg
            refine ⟨fun c_325 => ?_, fun c_325 => ?_⟩
            · have d_326 := iEq c_325
              have l_327 : (2 : Int32).toInt = 2 := rfl
              refine y_Tape_refuseg hok hw1 ra1 (by first | omega | (intro h; omega) | exact Or.inl rfl | exact Or.inr rfl) hR (fun I_333 L_334 hR_335 fr_336 u_329 u_330 gn_331 ln_332 => ⟨I_333, L_334, rfl, rfl, ?_⟩)
              replace hl := hl.call ln_332 (fun c hc => by first | exact hc | exact False.elim hc | (dsimp only at hc ⊢; omega) | omega)
              clear gn_331
              have hf_337 : Fm (fun c => (o ≤ c ∧ c < o + 5) ∨ c = x1) I0 I_333 := hf.call fr_336 (fun c hc => by first | exact hc | (dsimp only at hc ⊢; omega) | omega)
              have t_338 : (I_333 o 6).toInt = (I0 o 6).toInt := by rw [fr_336 o (by first | omega | (dsimp only; omega))]
              have t_339 : (I_333 o 8).toInt = (I0 o 8).toInt := by rw [fr_336 o (by first | omega | (dsimp only; omega))]
              have t_340 : (I_333 o 7).toInt = (I0 o 7).toInt := by rw [fr_336 o (by first | omega | (dsimp only; omega))]
              have k_341 : TokOK I_333 x1 := hq2.fr (fr_336 _ (by first | omega | (dsimp only; omega))) (fr_336 _ (by first | omega | (dsimp only; omega)))
              exact (hp _ _ hR_335 hf_337 (by first | omega | (intro h; omega) | exact Or.inl rfl | exact Or.inr rfl) (by first | omega | (intro h; omega) | exact Or.inl rfl | exact Or.inr rfl) hl)
            · have d_342 := iNe c_325
              unfold fReform_readUnit_57
              have nb := u_322 (by omega)
              have tk := (hq2 (I0 x1 10).toNatClampNeg).1 nb
              refine ⟨fun c_343 => ?_, fun c_343 => ?_⟩
              · have d_344 := iEq c_343
                unfold fReform_readUnit_73
                refine ⟨fun c_345 => ?_, fun c_345 => ?_⟩
                · have d_346 := iEq c_345
                  unfold fReform_readUnit_95
                  have g_347 : (0 : Int) ≤ (I0 o 7).toInt ∧ (I0 o 7).toInt ≤ 100 := hR.at0 ra 7 (by decide)
                  have a_348 : ((I0 o 7) + 1).toInt = (I0 o 7).toInt + (1 : Int32).toInt := tAdd (by omega) (by omega)
                  refine fun I_349 e_350 => ?_
                  have hR_351 : RI R I_349 := hR.up0 (k := 7) ra (by decide) (Or.inl rfl) e_350 (show (0 : Int) ≤ ((I0 o 7) + 1).toInt by omega) (show ((I0 o 7) + 1).toInt ≤ (100 : Int) by omega)
                  have hf_352 : Fm (fun c => (o ≤ c ∧ c < o + 5) ∨ c = x1) I0 I_349 := hf.set (by first | rfl | omega | (dsimp only; omega)) e_350
                  have t_353 : (I_349 o 6).toInt = (I0 o 6).toInt := by rw [← e_350, q_u_k (by decide)]
                  have t_354 : (I_349 o 8).toInt = (I0 o 8).toInt := by rw [← e_350, q_u_k (by decide)]
                  have t_355 : (I_349 o 7).toInt = ((I0 o 7) + 1).toInt := by rw [← e_350, q_u_at]
                  have k_356 : TokOK I_349 x1 := hq2.fr (by rw [← e_350]; exact q_u_ne (by omega)) (by rw [← e_350]; exact q_u_ne (by omega))
                  have w_357 : I_349 (x1 + 5) = I0 (x1 + 5) := by rw [← e_350, q_u_ne (by omega)]
                  have w_358 : I_349 x1 = I0 x1 := by rw [← e_350, q_u_ne (by omega)]
                  refine ⟨fun c_359 => ?_, fun c_359 => ?_⟩
                  · have d_360 := iEq c_359
                    refine ⟨fun c_361 => ?_, fun c_361 => ?_⟩
                    · have d_362 := iEq c_361
                      refine y_Tape_valueg hok hw1 ra1 hR_351 (fun r_363 u_364 gn_365 => ⟨r_363, I_349, L0, rfl, rfl, ?_⟩)
                      clear gn_365
                      have bv := u_364
                      rw [w_357, w_358] at bv
                      have bw := iEq bv
                      have v_366 : (0 : Int) ≤ r_363.toInt ∧ r_363.toInt ≤ 9999 := by omega
                      have l_367 : (64 : Int32).toInt = 64 := rfl
                      have a_368 : (64 + r_363).toInt = (64 : Int32).toInt + r_363.toInt := tAdd (by omega) (by omega)
                      refine y_Reform_emitl hok hw ra (by first | omega | (intro h; omega) | exact Or.inl rfl | exact Or.inr rfl) hR_351 (fun I_373 L_374 hR_375 fr_376 u_370 u_371 ln_372 => ⟨I_373, L_374, rfl, rfl, ?_⟩)
                      replace hl := hl.call ln_372 (fun c hc => by first | exact hc | exact False.elim hc | (dsimp only at hc ⊢; omega) | omega)
                      have hf_377 : Fm (fun c => (o ≤ c ∧ c < o + 5) ∨ c = x1) I0 I_373 := hf_352.call fr_376 (fun c hc => by first | exact hc | (dsimp only at hc ⊢; omega) | omega)
                      have g_378 : (0 : Int) ≤ (I_373 o 6).toInt ∧ (I_373 o 6).toInt ≤ 5 := hR_375.at0 ra 6 (by decide)
                      have g_379 : (-1 : Int) ≤ (I_373 o 8).toInt ∧ (I_373 o 8).toInt ≤ 10 := hR_375.at0 ra 8 (by decide)
                      have g_380 : (0 : Int) ≤ (I_373 o 7).toInt ∧ (I_373 o 7).toInt ≤ 100 := hR_375.at0 ra 7 (by decide)
                      have k_381 : TokOK I_373 x1 := k_356.fr (fr_376 _ (by first | omega | (dsimp only; omega))) (fr_376 _ (by first | omega | (dsimp only; omega)))
                      refine y_Tape_stepg hok hw1 ra1 hR_375 (fun I_386 L_387 hR_388 fr_389 u_383 gn_384 ln_385 => ⟨I_386, L_387, rfl, rfl, ?_⟩)
                      replace hl := hl.call ln_385 (fun c hc => by first | exact hc | exact False.elim hc | (dsimp only at hc ⊢; omega) | omega)
                      clear gn_384
                      have hf_390 : Fm (fun c => (o ≤ c ∧ c < o + 5) ∨ c = x1) I0 I_386 := hf_377.call fr_389 (fun c hc => by first | exact hc | (dsimp only at hc ⊢; omega) | omega)
                      have t_391 : (I_386 o 6).toInt = (I_373 o 6).toInt := by rw [fr_389 o (by first | omega | (dsimp only; omega))]
                      have t_392 : (I_386 o 8).toInt = (I_373 o 8).toInt := by rw [fr_389 o (by first | omega | (dsimp only; omega))]
                      have t_393 : (I_386 o 7).toInt = (I_373 o 7).toInt := by rw [fr_389 o (by first | omega | (dsimp only; omega))]
                      have k_394 : TokOK I_386 x1 := k_381.fr (fr_389 _ (by first | omega | (dsimp only; omega))) (fr_389 _ (by first | omega | (dsimp only; omega)))
                      exact (hp _ _ hR_388 hf_390 (by first | omega | (intro h; omega) | exact Or.inl rfl | exact Or.inr rfl) (by first | omega | (intro h; omega) | exact Or.inl rfl | exact Or.inr rfl) hl)
                    · have d_395 := iNe c_361
                      exfalso; omega
                  · have d_396 := iNe c_359
                    exfalso; omega
                · have d_397 := iNe c_345
                  exfalso; omega
              · have d_398 := iNe c_343
                exfalso; omega
    · have d_399 := iNe c_211
      have ak := u_208 (by omega)
      have av := iEq u_204
      unfold fReform_readUnit_30
      have g_400 : (0 : Int) ≤ (I0 o 7).toInt ∧ (I0 o 7).toInt ≤ 100 := hR.at0 ra 7 (by decide)
      have l_401 : (100 : Int32).toInt = 100 := rfl
      refine ⟨fun c_402 => ?_, fun c_402 => ?_⟩
      · have d_403 := iLe c_402
        have l_404 : (2 : Int32).toInt = 2 := rfl
        refine y_Tape_refuseg hok hw1 ra1 (by first | omega | (intro h; omega) | exact Or.inl rfl | exact Or.inr rfl) hR (fun I_410 L_411 hR_412 fr_413 u_406 u_407 gn_408 ln_409 => ⟨I_410, L_411, rfl, rfl, ?_⟩)
        replace hl := hl.call ln_409 (fun c hc => by first | exact hc | exact False.elim hc | (dsimp only at hc ⊢; omega) | omega)
        clear gn_408
        have hf_414 : Fm (fun c => (o ≤ c ∧ c < o + 5) ∨ c = x1) I0 I_410 := hf.call fr_413 (fun c hc => by first | exact hc | (dsimp only at hc ⊢; omega) | omega)
        have t_415 : (I_410 o 6).toInt = (I0 o 6).toInt := by rw [fr_413 o (by first | omega | (dsimp only; omega))]
        have t_416 : (I_410 o 8).toInt = (I0 o 8).toInt := by rw [fr_413 o (by first | omega | (dsimp only; omega))]
        have t_417 : (I_410 o 7).toInt = (I0 o 7).toInt := by rw [fr_413 o (by first | omega | (dsimp only; omega))]
        have k_418 : TokOK I_410 x1 := hq2.fr (fr_413 _ (by first | omega | (dsimp only; omega))) (fr_413 _ (by first | omega | (dsimp only; omega)))
        exact (hp _ _ hR_412 hf_414 (by first | omega | (intro h; omega) | exact Or.inl rfl | exact Or.inr rfl) (by first | omega | (intro h; omega) | exact Or.inl rfl | exact Or.inr rfl) hl)
      · have d_419 := iNle c_402
        refine ⟨fun c_420 => ?_, fun c_420 => ?_⟩
        · have d_421 := iNe c_420
          unfold fReform_readUnit_57
          refine ⟨fun c_422 => ?_, fun c_422 => ?_⟩
          · have d_423 := iEq c_422
            exfalso; omega
          · have d_424 := iNe c_422
            have l_425 : (6 : Int32).toInt = 6 := rfl
            refine ⟨fun c_426 => ?_, fun c_426 => ?_⟩
            · have d_427 := iLe c_426
              unfold fReform_readUnit_73
              refine ⟨fun c_428 => ?_, fun c_428 => ?_⟩
              · have d_429 := iEq c_428
                exfalso; omega
              · have d_430 := iNe c_428
                refine y_Tape_valueg hok hw1 ra1 hR (fun r_431 u_432 gn_433 => ⟨r_431, I0, L0, rfl, rfl, ?_⟩)
                clear gn_433
                have j_434 := iEq (u_432.trans u_204.symm)
                refine y_Reform_mayAskl hok hw ra hR (fun r_435 u_436 => ⟨r_435, I0, L0, rfl, rfl, ?_⟩)
                have b_437 : 0 ≤ r_435.toInt ∧ r_435.toInt ≤ 1 := u_436.rg
                refine ⟨fun c_438 => ?_, fun c_438 => ?_⟩
                · have d_439 := iNe c_438
                  unfold fReform_readUnit_95
                  have g_440 : (0 : Int) ≤ (I0 o 7).toInt ∧ (I0 o 7).toInt ≤ 100 := hR.at0 ra 7 (by decide)
                  have a_441 : ((I0 o 7) + 1).toInt = (I0 o 7).toInt + (1 : Int32).toInt := tAdd (by omega) (by omega)
                  refine fun I_442 e_443 => ?_
                  have hR_444 : RI R I_442 := hR.up0 (k := 7) ra (by decide) (Or.inl rfl) e_443 (show (0 : Int) ≤ ((I0 o 7) + 1).toInt by omega) (show ((I0 o 7) + 1).toInt ≤ (100 : Int) by omega)
                  have hf_445 : Fm (fun c => (o ≤ c ∧ c < o + 5) ∨ c = x1) I0 I_442 := hf.set (by first | rfl | omega | (dsimp only; omega)) e_443
                  have t_446 : (I_442 o 6).toInt = (I0 o 6).toInt := by rw [← e_443, q_u_k (by decide)]
                  have t_447 : (I_442 o 8).toInt = (I0 o 8).toInt := by rw [← e_443, q_u_k (by decide)]
                  have t_448 : (I_442 o 7).toInt = ((I0 o 7) + 1).toInt := by rw [← e_443, q_u_at]
                  have k_449 : TokOK I_442 x1 := hq2.fr (by rw [← e_443]; exact q_u_ne (by omega)) (by rw [← e_443]; exact q_u_ne (by omega))
                  have w_450 : I_442 (x1 + 5) = I0 (x1 + 5) := by rw [← e_443, q_u_ne (by omega)]
                  have w_451 : I_442 x1 = I0 x1 := by rw [← e_443, q_u_ne (by omega)]
                  refine ⟨fun c_452 => ?_, fun c_452 => ?_⟩
                  · have d_453 := iEq c_452
                    exfalso; omega
                  · have d_454 := iNe c_452
                    refine y_Tape_stepg hok hw1 ra1 hR_444 (fun I_459 L_460 hR_461 fr_462 u_456 gn_457 ln_458 => ⟨I_459, L_460, rfl, rfl, ?_⟩)
                    replace hl := hl.call ln_458 (fun c hc => by first | exact hc | exact False.elim hc | (dsimp only at hc ⊢; omega) | omega)
                    clear gn_457
                    have hf_463 : Fm (fun c => (o ≤ c ∧ c < o + 5) ∨ c = x1) I0 I_459 := hf_445.call fr_462 (fun c hc => by first | exact hc | (dsimp only at hc ⊢; omega) | omega)
                    have t_464 : (I_459 o 6).toInt = (I_442 o 6).toInt := by rw [fr_462 o (by first | omega | (dsimp only; omega))]
                    have t_465 : (I_459 o 8).toInt = (I_442 o 8).toInt := by rw [fr_462 o (by first | omega | (dsimp only; omega))]
                    have t_466 : (I_459 o 7).toInt = (I_442 o 7).toInt := by rw [fr_462 o (by first | omega | (dsimp only; omega))]
                    have k_467 : TokOK I_459 x1 := k_449.fr (fr_462 _ (by first | omega | (dsimp only; omega))) (fr_462 _ (by first | omega | (dsimp only; omega)))
                    have a_468 : (p2 + 1).toInt = p2.toInt + (1 : Int32).toInt := tAdd (by omega) (by omega)
                    refine cReform_readEither I_459 L_460 _ _ hR_461 k_467 (by omega) (by omega) (fun I_469 L_470 hR_471 fr_472 k6_475 k8_476 lz_474 => ⟨I_469, L_470, rfl, rfl, ?_⟩)
                    replace hl := hl.call lz_474 (fun c hc => False.elim hc)
                    have hf_473 : Fm (fun c => (o ≤ c ∧ c < o + 5) ∨ c = x1) I0 I_469 := hf_463.call fr_472 (fun c hc => hc)
                    have k_477 : TokOK I_469 x1 := k_467.fr (fr_472 _ (by first | omega | (dsimp only; omega))) (fr_472 _ (by first | omega | (dsimp only; omega)))
                    have l_478 : (41 : Int32).toInt = 41 := rfl
                    refine y_Tape_isSigng hok hw1 ra1 hR_471 (fun r_479 u_480 u_481 gn_482 => ⟨r_479, I_469, L_470, rfl, rfl, ?_⟩)
                    clear gn_482
                    have b_483 : 0 ≤ r_479.toInt ∧ r_479.toInt ≤ 1 := u_480.rg
                    refine y_Tape_passIfg hok hw1 ra1 hR_471 (fun I_488 L_489 hR_490 fr_491 u_485 gn_486 ln_487 => ⟨I_488, L_489, rfl, rfl, ?_⟩)
                    replace hl := hl.call ln_487 (fun c hc => by first | exact hc | exact False.elim hc | (dsimp only at hc ⊢; omega) | omega)
                    clear gn_486
                    have hf_492 : Fm (fun c => (o ≤ c ∧ c < o + 5) ∨ c = x1) I0 I_488 := hf_473.call fr_491 (fun c hc => by first | exact hc | (dsimp only at hc ⊢; omega) | omega)
                    have t_493 : (I_488 o 6).toInt = (I_469 o 6).toInt := by rw [fr_491 o (by first | omega | (dsimp only; omega))]
                    have t_494 : (I_488 o 8).toInt = (I_469 o 8).toInt := by rw [fr_491 o (by first | omega | (dsimp only; omega))]
                    have k_495 : TokOK I_488 x1 := k_477.fr (fr_491 _ (by first | omega | (dsimp only; omega))) (fr_491 _ (by first | omega | (dsimp only; omega)))
                    exact (hp _ _ hR_490 hf_492 (by first | omega | (intro h; omega) | exact Or.inl rfl | exact Or.inr rfl) (by first | omega | (intro h; omega) | exact Or.inl rfl | exact Or.inr rfl) hl)
                · have d_496 := iEq c_438
                  have l_497 : (5 : Int32).toInt = 5 := rfl
                  refine y_Tape_refuseg hok hw1 ra1 (by first | omega | (intro h; omega) | exact Or.inl rfl | exact Or.inr rfl) hR (fun I_503 L_504 hR_505 fr_506 u_499 u_500 gn_501 ln_502 => ⟨I_503, L_504, rfl, rfl, ?_⟩)
                  replace hl := hl.call ln_502 (fun c hc => by first | exact hc | exact False.elim hc | (dsimp only at hc ⊢; omega) | omega)
                  clear gn_501
                  have hf_507 : Fm (fun c => (o ≤ c ∧ c < o + 5) ∨ c = x1) I0 I_503 := hf.call fr_506 (fun c hc => by first | exact hc | (dsimp only at hc ⊢; omega) | omega)
                  have t_508 : (I_503 o 6).toInt = (I0 o 6).toInt := by rw [fr_506 o (by first | omega | (dsimp only; omega))]
                  have t_509 : (I_503 o 8).toInt = (I0 o 8).toInt := by rw [fr_506 o (by first | omega | (dsimp only; omega))]
                  have t_510 : (I_503 o 7).toInt = (I0 o 7).toInt := by rw [fr_506 o (by first | omega | (dsimp only; omega))]
                  have k_511 : TokOK I_503 x1 := hq2.fr (fr_506 _ (by first | omega | (dsimp only; omega))) (fr_506 _ (by first | omega | (dsimp only; omega)))
                  exact (hp _ _ hR_505 hf_507 (by first | omega | (intro h; omega) | exact Or.inl rfl | exact Or.inr rfl) (by first | omega | (intro h; omega) | exact Or.inl rfl | exact Or.inr rfl) hl)
            · have d_512 := iNle c_426
              have l_513 : (2 : Int32).toInt = 2 := rfl
              refine y_Tape_refuseg hok hw1 ra1 (by first | omega | (intro h; omega) | exact Or.inl rfl | exact Or.inr rfl) hR (fun I_519 L_520 hR_521 fr_522 u_515 u_516 gn_517 ln_518 => ⟨I_519, L_520, rfl, rfl, ?_⟩)
              replace hl := hl.call ln_518 (fun c hc => by first | exact hc | exact False.elim hc | (dsimp only at hc ⊢; omega) | omega)
              clear gn_517
              have hf_523 : Fm (fun c => (o ≤ c ∧ c < o + 5) ∨ c = x1) I0 I_519 := hf.call fr_522 (fun c hc => by first | exact hc | (dsimp only at hc ⊢; omega) | omega)
              have t_524 : (I_519 o 6).toInt = (I0 o 6).toInt := by rw [fr_522 o (by first | omega | (dsimp only; omega))]
              have t_525 : (I_519 o 8).toInt = (I0 o 8).toInt := by rw [fr_522 o (by first | omega | (dsimp only; omega))]
              have t_526 : (I_519 o 7).toInt = (I0 o 7).toInt := by rw [fr_522 o (by first | omega | (dsimp only; omega))]
              have k_527 : TokOK I_519 x1 := hq2.fr (fr_522 _ (by first | omega | (dsimp only; omega))) (fr_522 _ (by first | omega | (dsimp only; omega)))
              exact (hp _ _ hR_521 hf_523 (by first | omega | (intro h; omega) | exact Or.inl rfl | exact Or.inr rfl) (by first | omega | (intro h; omega) | exact Or.inl rfl | exact Or.inr rfl) hl)
        · have d_528 := iEq c_420
          refine ⟨fun c_529 => ?_, fun c_529 => ?_⟩
          · have d_530 := iNe c_529
            unfold fReform_readUnit_57
            refine ⟨fun c_531 => ?_, fun c_531 => ?_⟩
            · have d_532 := iEq c_531
              unfold fReform_readUnit_73
              refine ⟨fun c_533 => ?_, fun c_533 => ?_⟩
              · have d_534 := iEq c_533
                exfalso; omega
              · have d_535 := iNe c_533
                refine y_Tape_valueg hok hw1 ra1 hR (fun r_536 u_537 gn_538 => ⟨r_536, I0, L0, rfl, rfl, ?_⟩)
                clear gn_538
                have j_539 := iEq (u_537.trans u_204.symm)
                refine y_Reform_mayAskl hok hw ra hR (fun r_540 u_541 => ⟨r_540, I0, L0, rfl, rfl, ?_⟩)
                have b_542 : 0 ≤ r_540.toInt ∧ r_540.toInt ≤ 1 := u_541.rg
                refine ⟨fun c_543 => ?_, fun c_543 => ?_⟩
                · have d_544 := iNe c_543
                  unfold fReform_readUnit_95
                  have g_545 : (0 : Int) ≤ (I0 o 7).toInt ∧ (I0 o 7).toInt ≤ 100 := hR.at0 ra 7 (by decide)
                  have a_546 : ((I0 o 7) + 1).toInt = (I0 o 7).toInt + (1 : Int32).toInt := tAdd (by omega) (by omega)
                  refine fun I_547 e_548 => ?_
                  have hR_549 : RI R I_547 := hR.up0 (k := 7) ra (by decide) (Or.inl rfl) e_548 (show (0 : Int) ≤ ((I0 o 7) + 1).toInt by omega) (show ((I0 o 7) + 1).toInt ≤ (100 : Int) by omega)
                  have hf_550 : Fm (fun c => (o ≤ c ∧ c < o + 5) ∨ c = x1) I0 I_547 := hf.set (by first | rfl | omega | (dsimp only; omega)) e_548
                  have t_551 : (I_547 o 6).toInt = (I0 o 6).toInt := by rw [← e_548, q_u_k (by decide)]
                  have t_552 : (I_547 o 8).toInt = (I0 o 8).toInt := by rw [← e_548, q_u_k (by decide)]
                  have t_553 : (I_547 o 7).toInt = ((I0 o 7) + 1).toInt := by rw [← e_548, q_u_at]
                  have k_554 : TokOK I_547 x1 := hq2.fr (by rw [← e_548]; exact q_u_ne (by omega)) (by rw [← e_548]; exact q_u_ne (by omega))
                  have w_555 : I_547 (x1 + 5) = I0 (x1 + 5) := by rw [← e_548, q_u_ne (by omega)]
                  have w_556 : I_547 x1 = I0 x1 := by rw [← e_548, q_u_ne (by omega)]
                  refine ⟨fun c_557 => ?_, fun c_557 => ?_⟩
                  · have d_558 := iEq c_557
                    refine ⟨fun c_559 => ?_, fun c_559 => ?_⟩
                    · have d_560 := iEq c_559
                      exfalso; omega
                    · have d_561 := iNe c_559
                      refine y_Tape_valueg hok hw1 ra1 hR_549 (fun r_562 u_563 gn_564 => ⟨r_562, I_547, L0, rfl, rfl, ?_⟩)
                      clear gn_564
                      have bv := u_563
                      rw [w_555, w_556] at bv
                      have bw := iEq bv
                      have bh := i_hi (I0 (x1 + 5) (I0 x1 10).toNatClampNeg)
                      have v_565 : (0 : Int) ≤ r_562.toInt ∧ r_562.toInt ≤ 2147483647 := by omega
                      refine y_Reform_emitl hok hw ra (by first | omega | (intro h; omega) | exact Or.inl rfl | exact Or.inr rfl) hR_549 (fun I_570 L_571 hR_572 fr_573 u_567 u_568 ln_569 => ⟨I_570, L_571, rfl, rfl, ?_⟩)
                      replace hl := hl.call ln_569 (fun c hc => by first | exact hc | exact False.elim hc | (dsimp only at hc ⊢; omega) | omega)
                      have hf_574 : Fm (fun c => (o ≤ c ∧ c < o + 5) ∨ c = x1) I0 I_570 := hf_550.call fr_573 (fun c hc => by first | exact hc | (dsimp only at hc ⊢; omega) | omega)
                      have g_575 : (0 : Int) ≤ (I_570 o 6).toInt ∧ (I_570 o 6).toInt ≤ 5 := hR_572.at0 ra 6 (by decide)
                      have g_576 : (-1 : Int) ≤ (I_570 o 8).toInt ∧ (I_570 o 8).toInt ≤ 10 := hR_572.at0 ra 8 (by decide)
                      have g_577 : (0 : Int) ≤ (I_570 o 7).toInt ∧ (I_570 o 7).toInt ≤ 100 := hR_572.at0 ra 7 (by decide)
                      have k_578 : TokOK I_570 x1 := k_554.fr (fr_573 _ (by first | omega | (dsimp only; omega))) (fr_573 _ (by first | omega | (dsimp only; omega)))
                      refine y_Tape_stepg hok hw1 ra1 hR_572 (fun I_583 L_584 hR_585 fr_586 u_580 gn_581 ln_582 => ⟨I_583, L_584, rfl, rfl, ?_⟩)
                      replace hl := hl.call ln_582 (fun c hc => by first | exact hc | exact False.elim hc | (dsimp only at hc ⊢; omega) | omega)
                      clear gn_581
                      have hf_587 : Fm (fun c => (o ≤ c ∧ c < o + 5) ∨ c = x1) I0 I_583 := hf_574.call fr_586 (fun c hc => by first | exact hc | (dsimp only at hc ⊢; omega) | omega)
                      have t_588 : (I_583 o 6).toInt = (I_570 o 6).toInt := by rw [fr_586 o (by first | omega | (dsimp only; omega))]
                      have t_589 : (I_583 o 8).toInt = (I_570 o 8).toInt := by rw [fr_586 o (by first | omega | (dsimp only; omega))]
                      have t_590 : (I_583 o 7).toInt = (I_570 o 7).toInt := by rw [fr_586 o (by first | omega | (dsimp only; omega))]
                      have k_591 : TokOK I_583 x1 := k_578.fr (fr_586 _ (by first | omega | (dsimp only; omega))) (fr_586 _ (by first | omega | (dsimp only; omega)))
                      exact (hp _ _ hR_585 hf_587 (by first | omega | (intro h; omega) | exact Or.inl rfl | exact Or.inr rfl) (by first | omega | (intro h; omega) | exact Or.inl rfl | exact Or.inr rfl) hl)
                  · have d_592 := iNe c_557
                    exfalso; omega
                · have d_593 := iEq c_543
                  have l_594 : (5 : Int32).toInt = 5 := rfl
                  refine y_Tape_refuseg hok hw1 ra1 (by first | omega | (intro h; omega) | exact Or.inl rfl | exact Or.inr rfl) hR (fun I_600 L_601 hR_602 fr_603 u_596 u_597 gn_598 ln_599 => ⟨I_600, L_601, rfl, rfl, ?_⟩)
                  replace hl := hl.call ln_599 (fun c hc => by first | exact hc | exact False.elim hc | (dsimp only at hc ⊢; omega) | omega)
                  clear gn_598
                  have hf_604 : Fm (fun c => (o ≤ c ∧ c < o + 5) ∨ c = x1) I0 I_600 := hf.call fr_603 (fun c hc => by first | exact hc | (dsimp only at hc ⊢; omega) | omega)
                  have t_605 : (I_600 o 6).toInt = (I0 o 6).toInt := by rw [fr_603 o (by first | omega | (dsimp only; omega))]
                  have t_606 : (I_600 o 8).toInt = (I0 o 8).toInt := by rw [fr_603 o (by first | omega | (dsimp only; omega))]
                  have t_607 : (I_600 o 7).toInt = (I0 o 7).toInt := by rw [fr_603 o (by first | omega | (dsimp only; omega))]
                  have k_608 : TokOK I_600 x1 := hq2.fr (fr_603 _ (by first | omega | (dsimp only; omega))) (fr_603 _ (by first | omega | (dsimp only; omega)))
                  exact (hp _ _ hR_602 hf_604 (by first | omega | (intro h; omega) | exact Or.inl rfl | exact Or.inr rfl) (by first | omega | (intro h; omega) | exact Or.inl rfl | exact Or.inr rfl) hl)
            · have d_609 := iNe c_531
              exfalso; omega
          · have d_610 := iEq c_529
            exfalso; omega
