/-! Safety of Reform.tell: by program (spec.py). -/
set_option maxHeartbeats 4000000 in
set_option maxRecDepth 20000 in
theorem y_Reform_clear {D : va_G} {cA : FieldType → ClassId} {b : Nat} {E : State → Prop} {R : qRg} {o n : Nat} {sh : Nat → qC} {Rf : Nat → Nat → Option Nat} {I0 : Nat → Nat → Int32} {L0 : Nat → Nat → Int64} {post : Option Value → qS → Prop} (hok : q_ok (qGG D cA b E)) (hw : WfReform (qGG D cA b E) n sh Rf o) (ra : RAReform R o) (hR : RI R I0) (hp : ∀ (I' : Nat → Nat → Int32) (L' : Nat → Nat → Int64), RI R I' → Fm (fun c => (o ≤ c ∧ c < o + 5)) I0 I' → post none (n, sh, Rf, I', L')) : Ev (qGG D cA b E) mReform_clear 1 (0, 0) 0 (lv_args 0 [.ref o]) [] (n, sh, Rf, I0, L0) post := by
  have hf : Fm (fun c => (o ≤ c ∧ c < o + 5)) I0 I0 := Fm.rf
  refine sReform_clear_0 o n sh Rf I0 L0 post  hok hw ?_
  unfold fReform_clear_0
  have l_1 : (0 : Int32).toInt = 0 := rfl
  refine y_fill hok (fun _ _ => waReform_1 hw) (by omega) (fun I_2 ne_3 _ eq_4 => ⟨I_2, L0, rfl, rfl, ?_⟩)
  have hR_5 : RI R I_2 := hR.row ra 2 (by decide) (fun _ => rfl) (fun _ => ⟨(show (0 : Int) ≤ (0 : Int32).toInt by omega), (show (0 : Int32).toInt ≤ (700 : Int) by omega)⟩) ne_3 eq_4
  have hf_6 : Fm (fun c => (o ≤ c ∧ c < o + 5)) I0 I_2 := hf.call (M' := fun c => c = (o + 2)) ne_3 (fun c hc => by first | exact hc | (dsimp only at hc ⊢; omega) | omega)
  refine y_fill hok (fun _ _ => waReform_2 hw) (by omega) (fun I_7 ne_8 _ eq_9 => ⟨I_7, L0, rfl, rfl, ?_⟩)
  have hR_10 : RI R I_7 := hR_5.row ra 3 (by decide) (fun _ => rfl) (fun _ => ⟨(show (0 : Int) ≤ (0 : Int32).toInt by omega), (show (0 : Int32).toInt ≤ (700 : Int) by omega)⟩) ne_8 eq_9
  have hf_11 : Fm (fun c => (o ≤ c ∧ c < o + 5)) I0 I_7 := hf_6.call (M' := fun c => c = (o + 3)) ne_8 (fun c hc => by first | exact hc | (dsimp only at hc ⊢; omega) | omega)
  refine fun I_12 e_13 => ?_
  have hR_14 : RI R I_12 := hR_10.up0 (k := 4) ra (by decide) (Or.inl rfl) e_13 (show (0 : Int) ≤ (0 : Int32).toInt by omega) (show (0 : Int32).toInt ≤ (700 : Int) by omega)
  have hf_15 : Fm (fun c => (o ≤ c ∧ c < o + 5)) I0 I_12 := hf_11.set (by first | rfl | omega | (dsimp only; omega)) e_13
  have t_16 : (I_12 o 4).toInt = (0 : Int32).toInt := by rw [← e_13, q_u_at]
  refine fun I_17 e_18 => ?_
  have hR_19 : RI R I_17 := hR_14.up0 (k := 5) ra (by decide) (Or.inl rfl) e_18 (i_lo _) (i_hi _)
  have hf_20 : Fm (fun c => (o ≤ c ∧ c < o + 5)) I0 I_17 := hf_15.set (by first | rfl | omega | (dsimp only; omega)) e_18
  have t_21 : (I_17 o 4).toInt = (I_12 o 4).toInt := by rw [← e_18, q_u_k (by decide)]
  refine fun I_22 e_23 => ?_
  have hR_24 : RI R I_22 := hR_19.up0 (k := 6) ra (by decide) (Or.inl rfl) e_23 (show (0 : Int) ≤ (0 : Int32).toInt by omega) (show (0 : Int32).toInt ≤ (5 : Int) by omega)
  have hf_25 : Fm (fun c => (o ≤ c ∧ c < o + 5)) I0 I_22 := hf_20.set (by first | rfl | omega | (dsimp only; omega)) e_23
  have t_26 : (I_22 o 4).toInt = (I_17 o 4).toInt := by rw [← e_23, q_u_k (by decide)]
  have t_27 : (I_22 o 6).toInt = (0 : Int32).toInt := by rw [← e_23, q_u_at]
  refine fun I_28 e_29 => ?_
  have hR_30 : RI R I_28 := hR_24.up0 (k := 7) ra (by decide) (Or.inl rfl) e_29 (show (0 : Int) ≤ (0 : Int32).toInt by omega) (show (0 : Int32).toInt ≤ (100 : Int) by omega)
  have hf_31 : Fm (fun c => (o ≤ c ∧ c < o + 5)) I0 I_28 := hf_25.set (by first | rfl | omega | (dsimp only; omega)) e_29
  have t_32 : (I_28 o 4).toInt = (I_22 o 4).toInt := by rw [← e_29, q_u_k (by decide)]
  have t_33 : (I_28 o 6).toInt = (I_22 o 6).toInt := by rw [← e_29, q_u_k (by decide)]
  have t_34 : (I_28 o 7).toInt = (0 : Int32).toInt := by rw [← e_29, q_u_at]
  exact (hp _ _ hR_30 hf_31 )
set_option maxHeartbeats 4000000 in
set_option maxRecDepth 20000 in
theorem y_Reform_copyFrom {D : va_G} {cA : FieldType → ClassId} {b : Nat} {E : State → Prop} {R : qRg} {o n : Nat} {sh : Nat → qC} {Rf : Nat → Nat → Option Nat} {I0 : Nat → Nat → Int32} {L0 : Nat → Nat → Int64} {post : Option Value → qS → Prop} {x1 : Nat} (hok : q_ok (qGG D cA b E)) (hw : WfReform (qGG D cA b E) n sh Rf o) (ra : RAReform R o) (hw1 : WfReform (qGG D cA b E) n sh Rf x1) (ra1 : RAReform R x1) (hR : RI R I0) (hp : ∀ (I' : Nat → Nat → Int32) (L' : Nat → Nat → Int64), RI R I' → Fm (fun c => (o ≤ c ∧ c < o + 5)) I0 I' → post none (n, sh, Rf, I', L')) : Ev (qGG D cA b E) mReform_copyFrom 1 (0, 0) 0 (lv_args 0 [.ref o, .ref x1]) [] (n, sh, Rf, I0, L0) post := by
  have hf : Fm (fun c => (o ≤ c ∧ c < o + 5)) I0 I0 := Fm.rf
  refine sReform_copyFrom_0 o n sh Rf I0 L0 post x1 hok hw hw1 ?_
  unfold fReform_copyFrom_0
  have g_1 : (0 : Int) ≤ (I0 x1 4).toInt ∧ (I0 x1 4).toInt ≤ 700 := hR.at0 ra1 4 (by decide)
  have cl_4 := tCl (x := (I0 x1 4)) (by omega)
  refine ⟨⟨fun h => absurd (iLt h) (by have : (0 : Int32).toInt = 0 := rfl; omega), by rw [show ((0 : Int32).toNatClampNeg) = 0 from rfl]; omega, by rw [show ((0 : Int32).toNatClampNeg) = 0 from rfl]; omega⟩, fun I_2 e_3 => ?_⟩
  have hR_5 : RI R I_2 := hR.copy (fun j k => by rw [RAt.eq ra1 1 (by decide) j (Or.inl rfl), RAt.eq ra 1 (by decide) k (Or.inl rfl)]; exact ⟨Int.le_refl _, Int.le_refl _⟩) e_3
  have hf_6 : Fm (fun c => (o ≤ c ∧ c < o + 5)) I0 I_2 := hf.call (M' := fun c => c = (o + 1)) (fun c hc => by rw [← e_3, q_w_ne hc]) (fun c hc => by first | (dsimp only at hc ⊢; omega) | omega)
  have t_7 : (I_2 x1 4).toInt = (I0 x1 4).toInt := by rw [← e_3, q_w_ne (sh_ne_a (hw1).1.2.2 (waReform_0 (I := I0) (L := L0) hw).2.2)]
  have we_8 : ∀ q, q ≠ (o + 1) → I_2 q = I0 q := fun q hq => by rw [← e_3, q_w_ne hq]
  have l_11 : (11 : Int32).toInt = 11 := rfl
  refine ⟨⟨by decide, by decide, by decide⟩, fun I_9 e_10 => ?_⟩
  have hR_12 : RI R I_9 := hR_5.copy (fun j k => by rw [RAt.eq ra1 2 (by decide) j (Or.inl rfl), RAt.eq ra 2 (by decide) k (Or.inl rfl)]; exact ⟨Int.le_refl _, Int.le_refl _⟩) e_10
  have hf_13 : Fm (fun c => (o ≤ c ∧ c < o + 5)) I0 I_9 := hf_6.call (M' := fun c => c = (o + 2)) (fun c hc => by rw [← e_10, q_w_ne hc]) (fun c hc => by first | (dsimp only at hc ⊢; omega) | omega)
  have t_14 : (I_9 x1 4).toInt = (I_2 x1 4).toInt := by rw [← e_10, q_w_ne (sh_ne_a (hw1).1.2.2 (waReform_1 (I := I0) (L := L0) hw).2.2)]
  have we_15 : ∀ q, q ≠ (o + 2) → I_9 q = I_2 q := fun q hq => by rw [← e_10, q_w_ne hq]
  refine ⟨⟨by decide, by decide, by decide⟩, fun I_16 e_17 => ?_⟩
  have hR_18 : RI R I_16 := hR_12.copy (fun j k => by rw [RAt.eq ra1 3 (by decide) j (Or.inl rfl), RAt.eq ra 3 (by decide) k (Or.inl rfl)]; exact ⟨Int.le_refl _, Int.le_refl _⟩) e_17
  have hf_19 : Fm (fun c => (o ≤ c ∧ c < o + 5)) I0 I_16 := hf_13.call (M' := fun c => c = (o + 3)) (fun c hc => by rw [← e_17, q_w_ne hc]) (fun c hc => by first | (dsimp only at hc ⊢; omega) | omega)
  have t_20 : (I_16 x1 4).toInt = (I_9 x1 4).toInt := by rw [← e_17, q_w_ne (sh_ne_a (hw1).1.2.2 (waReform_2 (I := I0) (L := L0) hw).2.2)]
  have we_21 : ∀ q, q ≠ (o + 3) → I_16 q = I_9 q := fun q hq => by rw [← e_17, q_w_ne hq]
  have g_22 : (0 : Int) ≤ (I_16 x1 4).toInt ∧ (I_16 x1 4).toInt ≤ 700 := hR_18.at0 ra1 4 (by decide)
  refine fun I_23 e_24 => ?_
  have hR_25 : RI R I_23 := hR_18.up0 (k := 4) ra (by decide) (Or.inl rfl) e_24 (show (0 : Int) ≤ (I_16 x1 4).toInt by omega) (show (I_16 x1 4).toInt ≤ (700 : Int) by omega)
  have hf_26 : Fm (fun c => (o ≤ c ∧ c < o + 5)) I0 I_23 := hf_19.set (by first | rfl | omega | (dsimp only; omega)) e_24
  have t_27 : (I_23 o 4).toInt = (I_16 x1 4).toInt := by rw [← e_24, q_u_at]
  refine fun I_28 e_29 => ?_
  have hR_30 : RI R I_28 := hR_25.up0 (k := 5) ra (by decide) (Or.inl rfl) e_29 (i_lo _) (i_hi _)
  have hf_31 : Fm (fun c => (o ≤ c ∧ c < o + 5)) I0 I_28 := hf_26.set (by first | rfl | omega | (dsimp only; omega)) e_29
  have t_32 : (I_28 o 4).toInt = (I_23 o 4).toInt := by rw [← e_29, q_u_k (by decide)]
  have g_33 : (0 : Int) ≤ (I_28 x1 6).toInt ∧ (I_28 x1 6).toInt ≤ 5 := hR_30.at0 ra1 6 (by decide)
  refine fun I_34 e_35 => ?_
  have hR_36 : RI R I_34 := hR_30.up0 (k := 6) ra (by decide) (Or.inl rfl) e_35 (show (0 : Int) ≤ (I_28 x1 6).toInt by omega) (show (I_28 x1 6).toInt ≤ (5 : Int) by omega)
  have hf_37 : Fm (fun c => (o ≤ c ∧ c < o + 5)) I0 I_34 := hf_31.set (by first | rfl | omega | (dsimp only; omega)) e_35
  have t_38 : (I_34 o 4).toInt = (I_28 o 4).toInt := by rw [← e_35, q_u_k (by decide)]
  have t_39 : (I_34 o 6).toInt = (I_28 x1 6).toInt := by rw [← e_35, q_u_at]
  exact (hp _ _ hR_36 hf_37 )
set_option maxHeartbeats 4000000 in
set_option maxRecDepth 20000 in
theorem y_Reform_join {D : va_G} {cA : FieldType → ClassId} {b : Nat} {E : State → Prop} {R : qRg} {n : Nat} {sh : Nat → qC} {Rf : Nat → Nat → Option Nat} {I0 : Nat → Nat → Int32} {L0 : Nat → Nat → Int64} {post : Option Value → qS → Prop} {p0 : Int32} {p1 : Int32} {p2 : Int32} (hok : q_ok (qGG D cA b E)) (hR : RI R I0) (hp : ∀ (r : Int32) , post (some (.int r)) (n, sh, Rf, I0, L0)) : Ev (qGG D cA b E) mReform_join 0 (0, 0) 0 (lv_args 0 [.int p0, .int p1, .int p2]) [] (n, sh, Rf, I0, L0) post := by
  refine sReform_join_0 n sh Rf I0 L0 post p0 p1 p2 hok  ?_
  unfold fReform_join_0
  have l_2 : (20 : Int32).toInt = 20 := rfl
  refine ⟨fun c_1 => ?_, fun c_1 => ?_⟩
  · have d_3 := iEq c_1
    have l_4 : (0 : Int32).toInt = 0 := rfl
    refine ⟨fun c_5 => ?_, fun c_5 => ?_⟩
    · have d_6 := iEq c_5
      exact (hp _ )
    · have d_7 := iNe c_5
      refine ⟨fun c_8 => ?_, fun c_8 => ?_⟩
      · have d_9 := iEq c_8
        exact (hp _ )
      · have d_10 := iNe c_8
        have l_11 : (1 : Int32).toInt = 1 := rfl
        exact (hp _ )
  have d_12 := iNe c_1
  have l_14 : (21 : Int32).toInt = 21 := rfl
  refine ⟨fun c_13 => ?_, fun c_13 => ?_⟩
  · have d_15 := iEq c_13
    have l_16 : (0 : Int32).toInt = 0 := rfl
    refine ⟨fun c_17 => ?_, fun c_17 => ?_⟩
    · have d_18 := iNe c_17
      unfold fReform_join_163
      have l_19 : (1 : Int32).toInt = 1 := rfl
      exact (hp _ )
    · have d_20 := iEq c_17
      refine ⟨fun c_21 => ?_, fun c_21 => ?_⟩
      · have d_22 := iEq c_21
        exact (hp _ )
      · have d_23 := iNe c_21
        unfold fReform_join_163
        have l_24 : (1 : Int32).toInt = 1 := rfl
        exact (hp _ )
  have d_25 := iNe c_13
  have l_27 : (42 : Int32).toInt = 42 := rfl
  refine ⟨fun c_26 => ?_, fun c_26 => ?_⟩
  · have d_28 := iEq c_26
    exact (hp _ )
  have d_29 := iNe c_26
  have l_31 : (43 : Int32).toInt = 43 := rfl
  refine ⟨fun c_30 => ?_, fun c_30 => ?_⟩
  · have d_32 := iEq c_30
    exact (hp _ )
  have d_33 := iNe c_30
  have l_35 : (45 : Int32).toInt = 45 := rfl
  refine ⟨fun c_34 => ?_, fun c_34 => ?_⟩
  · have d_36 := iEq c_34
    exact (hp _ )
  have d_37 := iNe c_34
  have l_39 : (47 : Int32).toInt = 47 := rfl
  refine ⟨fun c_38 => ?_, fun c_38 => ?_⟩
  · have d_40 := iEq c_38
    have l_41 : (0 : Int32).toInt = 0 := rfl
    refine ⟨fun c_42 => ?_, fun c_42 => ?_⟩
    · have d_43 := iNe c_42
      refine ⟨fun h => absurd (iEq h) (by have : (0 : Int32).toInt = 0 := rfl; omega), ?_⟩
      exact (hp _ )
    · have d_44 := iEq c_42
      exact (hp _ )
  have d_45 := iNe c_38
  have l_47 : (60 : Int32).toInt = 60 := rfl
  refine ⟨fun c_46 => ?_, fun c_46 => ?_⟩
  · have d_48 := iEq c_46
    refine ⟨fun c_49 => ?_, fun c_49 => ?_⟩
    · have d_50 := iLe c_49
      have l_51 : (0 : Int32).toInt = 0 := rfl
      exact (hp _ )
    · have d_52 := iNle c_49
      have l_53 : (1 : Int32).toInt = 1 := rfl
      exact (hp _ )
  have d_54 := iNe c_46
  have l_56 : (61 : Int32).toInt = 61 := rfl
  refine ⟨fun c_55 => ?_, fun c_55 => ?_⟩
  · have d_57 := iEq c_55
    refine ⟨fun c_58 => ?_, fun c_58 => ?_⟩
    · have d_59 := iNe c_58
      have l_60 : (0 : Int32).toInt = 0 := rfl
      exact (hp _ )
    · have d_61 := iEq c_58
      have l_62 : (1 : Int32).toInt = 1 := rfl
      exact (hp _ )
  have d_63 := iNe c_55
  have l_65 : (62 : Int32).toInt = 62 := rfl
  refine ⟨fun c_64 => ?_, fun c_64 => ?_⟩
  · have d_66 := iEq c_64
    refine ⟨fun c_67 => ?_, fun c_67 => ?_⟩
    · have d_68 := iLe c_67
      have l_69 : (0 : Int32).toInt = 0 := rfl
      exact (hp _ )
    · have d_70 := iNle c_67
      have l_71 : (1 : Int32).toInt = 1 := rfl
      exact (hp _ )
  have d_72 := iNe c_64
  have l_73 : (0 : Int32).toInt = 0 := rfl
  exact (hp _ )
set_option maxHeartbeats 4000000 in
set_option maxRecDepth 20000 in
theorem y_Reform_isJoint {D : va_G} {cA : FieldType → ClassId} {b : Nat} {E : State → Prop} {R : qRg} {n : Nat} {sh : Nat → qC} {Rf : Nat → Nat → Option Nat} {I0 : Nat → Nat → Int32} {L0 : Nat → Nat → Int64} {post : Option Value → qS → Prop} {p0 : Int32} (hok : q_ok (qGG D cA b E)) (hR : RI R I0) (hp : ∀ (r : Int32) , (Bz r) → post (some (.int r)) (n, sh, Rf, I0, L0)) : Ev (qGG D cA b E) mReform_isJoint 0 (0, 0) 0 (lv_args 0 [.int p0]) [] (n, sh, Rf, I0, L0) post := by
  refine sReform_isJoint_0 n sh Rf I0 L0 post p0 hok  ?_
  unfold fReform_isJoint_0
  have l_1 : (20 : Int32).toInt = 20 := rfl
  refine ⟨fun c_2 => ?_, fun c_2 => ?_⟩
  · have d_3 := iEq c_2
    unfold fReform_isJoint_24
    have l_4 : (1 : Int32).toInt = 1 := rfl
    exact (hp _ (Or.inr rfl))
  · have d_5 := iNe c_2
    have l_6 : (21 : Int32).toInt = 21 := rfl
    refine ⟨fun c_7 => ?_, fun c_7 => ?_⟩
    · have d_8 := iEq c_7
      unfold fReform_isJoint_24
      have l_9 : (1 : Int32).toInt = 1 := rfl
      exact (hp _ (Or.inr rfl))
    · have d_10 := iNe c_7
      have l_11 : (32 : Int32).toInt = 32 := rfl
      refine ⟨fun c_12 => ?_, fun c_12 => ?_⟩
      · have d_13 := iLt c_12
        have l_14 : (0 : Int32).toInt = 0 := rfl
        exact (hp _ (Or.inl rfl))
      · have d_15 := iNlt c_12
        have l_16 : (64 : Int32).toInt = 64 := rfl
        refine ⟨fun c_17 => ?_, fun c_17 => ?_⟩
        · have d_18 := iLe c_17
          have l_19 : (0 : Int32).toInt = 0 := rfl
          exact (hp _ (Or.inl rfl))
        · have d_20 := iNle c_17
          unfold fReform_isJoint_24
          have l_21 : (1 : Int32).toInt = 1 := rfl
          exact (hp _ (Or.inr rfl))
set_option maxHeartbeats 4000000 in
set_option maxRecDepth 20000 in
theorem yReform_tell_10 {D : va_G} {cA : FieldType → ClassId} {b : Nat} {E : State → Prop} {R : qRg} {o n : Nat} {sh : Nat → qC} {Rf : Nat → Nat → Option Nat} {I0 : Nat → Nat → Int32} {L0 : Nat → Nat → Int64} {post : Option Value → qS → Prop} {p1 : Int32} (hok : q_ok (qGG D cA b E)) (hw : WfReform (qGG D cA b E) n sh Rf o) (ra : RAReform R o) {x2 : Nat} (hw2 : ∀ I L, q_in (qGG D cA b E) (n, sh, Rf, I, L) x2 (.inl (.int, 64))) (hq0 : (0 : Int) ≤ p1.toInt ∧ p1.toInt ≤ 10) (hp : ∀ (r : Int32) (I' : Nat → Nat → Int32) (L' : Nat → Nat → Int64), RI R I' → Fm (fun c => (o ≤ c ∧ c < o + 5)) I0 I' → post (some (.int r)) (n, sh, Rf, I', L')) : ∀ (k : Nat) {x1 : Int32} {x3 : Int32} {x4 : Int32} {I : Nat → Nat → Int32} {L : Nat → Nat → Int64}, RI R I → Fm (fun c => (o ≤ c ∧ c < o + 5)) I0 I → ((0 : Int) ≤ x3.toInt ∧ x3.toInt ≤ 100) → ((0 : Int) ≤ x4.toInt ∧ x4.toInt ≤ 700) → ((0 : Int) ≤ x1.toInt ∧ x1.toInt ≤ 10) → (700 - x4.toInt).toNat < k → Ev (qGG D cA b E) mReform_tell 1 (0, 0) 10 [(0, .ref o), (1, .int x1), (2, .ref x2), (3, .int x3), (4, .int x4)] [] (n, sh, Rf, I, L) post := by
  intro k
  induction k with
  | zero =>
    intro x1 x3 x4 I L hR hf hi0 hi1 hi2 hm
    exact absurd hm (Nat.not_lt_zero _)
  | succ k ih =>
    intro x1 x3 x4 I L hR hf hi0 hi1 hi2 hm
    refine sReform_tell_10 o n sh Rf I L post x1 x2 x3 x4 64 hok hw (hw2 _ _) ?_
    unfold fReform_tell_10
    refine ⟨tIn (by omega) (by omega), ?_⟩
    have g_1 : (0 : Int) ≤ (I (o + 3) (x1 : Int32).toNatClampNeg).toInt ∧ (I (o + 3) (x1 : Int32).toNatClampNeg).toInt ≤ 700 := hR.at ra 3 _ (by decide)
    refine ⟨fun c_2 => ?_, fun c_2 => ?_⟩
    · have d_3 := iLe c_2
      have l_4 : (0 : Int32).toInt = 0 := rfl
      refine ⟨fun c_5 => ?_, fun c_5 => ?_⟩
      · have d_6 := iLe c_5
        exact (hp _ _ _ hR hf )
      · have d_7 := iNle c_5
        exact (hp _ _ _ hR hf )
    · have d_8 := iNle c_2
      refine ⟨tIn (by omega) (by omega), ?_⟩
      have g_9 : (0 : Int) ≤ (I (o + 1) (x4 : Int32).toNatClampNeg).toInt ∧ (I (o + 1) (x4 : Int32).toNatClampNeg).toInt ≤ 2147483647 := hR.at ra 1 _ (by decide)
      have l_10 : (22 : Int32).toInt = 22 := rfl
      refine ⟨fun c_11 => ?_, fun c_11 => ?_⟩
      · have d_12 := iNe c_11
        unfold fReform_tell_68
        refine y_Reform_isJoint hok hR (fun r_13 u_14 => ⟨r_13, I, L, rfl, rfl, ?_⟩)
        have b_15 : 0 ≤ r_13.toInt ∧ r_13.toInt ≤ 1 := u_14.rg
        have l_16 : (0 : Int32).toInt = 0 := rfl
        refine ⟨fun c_17 => ?_, fun c_17 => ?_⟩
        · have d_18 := iEq c_17
          unfold fReform_tell_114
          have l_19 : (100 : Int32).toInt = 100 := rfl
          refine ⟨fun c_20 => ?_, fun c_20 => ?_⟩
          · have d_21 := iLe c_20
            unfold fReform_tell_148
            have a_23 : (x4 + Int32.ofInt 1).toInt = x4.toInt + (1) := tIc (by omega) (by omega) (by decide) (by decide)
            generalize ez_22 : (x4 + Int32.ofInt 1) = z_22 at a_23 ⊢
            exact ih hR hf (by first | omega | (intro h; omega) | exact Or.inl rfl | exact Or.inr rfl) (by first | omega | (intro h; omega) | exact Or.inl rfl | exact Or.inr rfl) (by first | omega | (intro h; omega) | exact Or.inl rfl | exact Or.inr rfl) (by omega)
          · have d_24 := iNle c_20
            have l_25 : (64 : Int32).toInt = 64 := rfl
            refine ⟨fun c_26 => ?_, fun c_26 => ?_⟩
            · have d_27 := iLt c_26
              refine ⟨tIn (by omega) (by omega), ?_⟩
              unfold fReform_tell_144
              refine ⟨tIn (by omega) (by omega), fun I_28 e_29 => ?_⟩
              have hR_30 : RI R I_28 := hR.up ra 4 (by decide) (Or.inl rfl) e_29 (i_lo _) (i_hi _)
              have hf_31 : Fm (fun c => (o ≤ c ∧ c < o + 5)) I0 I_28 := hf.set (by first | rfl | omega | (dsimp only; omega)) e_29
              have a_33 : (x3 + Int32.ofInt 1).toInt = x3.toInt + (1) := tIc (by omega) (by omega) (by decide) (by decide)
              generalize ez_32 : (x3 + Int32.ofInt 1) = z_32 at a_33 ⊢
              unfold fReform_tell_148
              have a_35 : (x4 + Int32.ofInt 1).toInt = x4.toInt + (1) := tIc (by omega) (by omega) (by decide) (by decide)
              generalize ez_34 : (x4 + Int32.ofInt 1) = z_34 at a_35 ⊢
              exact ih hR_30 hf_31 (by first | omega | (intro h; omega) | exact Or.inl rfl | exact Or.inr rfl) (by first | omega | (intro h; omega) | exact Or.inl rfl | exact Or.inr rfl) (by first | omega | (intro h; omega) | exact Or.inl rfl | exact Or.inr rfl) (by omega)
            · have d_36 := iNlt c_26
              have a_37 : ((I (o + 1) (x4 : Int32).toNatClampNeg) - 64).toInt = (I (o + 1) (x4 : Int32).toNatClampNeg).toInt - (64 : Int32).toInt := tSub (by omega) (by omega)
              unfold fReform_tell_144
              refine ⟨tIn (by omega) (by omega), fun I_38 e_39 => ?_⟩
              have hR_40 : RI R I_38 := hR.up ra 4 (by decide) (Or.inl rfl) e_39 (i_lo _) (i_hi _)
              have hf_41 : Fm (fun c => (o ≤ c ∧ c < o + 5)) I0 I_38 := hf.set (by first | rfl | omega | (dsimp only; omega)) e_39
              have a_43 : (x3 + Int32.ofInt 1).toInt = x3.toInt + (1) := tIc (by omega) (by omega) (by decide) (by decide)
              generalize ez_42 : (x3 + Int32.ofInt 1) = z_42 at a_43 ⊢
              unfold fReform_tell_148
              have a_45 : (x4 + Int32.ofInt 1).toInt = x4.toInt + (1) := tIc (by omega) (by omega) (by decide) (by decide)
              generalize ez_44 : (x4 + Int32.ofInt 1) = z_44 at a_45 ⊢
              exact ih hR_40 hf_41 (by first | omega | (intro h; omega) | exact Or.inl rfl | exact Or.inr rfl) (by first | omega | (intro h; omega) | exact Or.inl rfl | exact Or.inr rfl) (by first | omega | (intro h; omega) | exact Or.inl rfl | exact Or.inr rfl) (by omega)
        · have d_46 := iNe c_17
          have l_47 : (1 : Int32).toInt = 1 := rfl
          refine ⟨fun c_48 => ?_, fun c_48 => ?_⟩
          · have d_49 := iLe c_48
            unfold fReform_tell_114
            have l_50 : (100 : Int32).toInt = 100 := rfl
            refine ⟨fun c_51 => ?_, fun c_51 => ?_⟩
            · have d_52 := iLe c_51
              exfalso; omega
            · have d_53 := iNle c_51
              have l_54 : (64 : Int32).toInt = 64 := rfl
              refine ⟨fun c_55 => ?_, fun c_55 => ?_⟩
              · have d_56 := iLt c_55
                refine ⟨tIn (by omega) (by omega), ?_⟩
                unfold fReform_tell_144
                refine ⟨tIn (by omega) (by omega), fun I_57 e_58 => ?_⟩
                have hR_59 : RI R I_57 := hR.up ra 4 (by decide) (Or.inl rfl) e_58 (i_lo _) (i_hi _)
                have hf_60 : Fm (fun c => (o ≤ c ∧ c < o + 5)) I0 I_57 := hf.set (by first | rfl | omega | (dsimp only; omega)) e_58
                have a_62 : (x3 + Int32.ofInt 1).toInt = x3.toInt + (1) := tIc (by omega) (by omega) (by decide) (by decide)
                generalize ez_61 : (x3 + Int32.ofInt 1) = z_61 at a_62 ⊢
                unfold fReform_tell_148
                have a_64 : (x4 + Int32.ofInt 1).toInt = x4.toInt + (1) := tIc (by omega) (by omega) (by decide) (by decide)
                generalize ez_63 : (x4 + Int32.ofInt 1) = z_63 at a_64 ⊢
                exact ih hR_59 hf_60 (by first | omega | (intro h; omega) | exact Or.inl rfl | exact Or.inr rfl) (by first | omega | (intro h; omega) | exact Or.inl rfl | exact Or.inr rfl) (by first | omega | (intro h; omega) | exact Or.inl rfl | exact Or.inr rfl) (by omega)
              · have d_65 := iNlt c_55
                have a_66 : ((I (o + 1) (x4 : Int32).toNatClampNeg) - 64).toInt = (I (o + 1) (x4 : Int32).toNatClampNeg).toInt - (64 : Int32).toInt := tSub (by omega) (by omega)
                unfold fReform_tell_144
                refine ⟨tIn (by omega) (by omega), fun I_67 e_68 => ?_⟩
                have hR_69 : RI R I_67 := hR.up ra 4 (by decide) (Or.inl rfl) e_68 (i_lo _) (i_hi _)
                have hf_70 : Fm (fun c => (o ≤ c ∧ c < o + 5)) I0 I_67 := hf.set (by first | rfl | omega | (dsimp only; omega)) e_68
                have a_72 : (x3 + Int32.ofInt 1).toInt = x3.toInt + (1) := tIc (by omega) (by omega) (by decide) (by decide)
                generalize ez_71 : (x3 + Int32.ofInt 1) = z_71 at a_72 ⊢
                unfold fReform_tell_148
                have a_74 : (x4 + Int32.ofInt 1).toInt = x4.toInt + (1) := tIc (by omega) (by omega) (by decide) (by decide)
                generalize ez_73 : (x4 + Int32.ofInt 1) = z_73 at a_74 ⊢
                exact ih hR_69 hf_70 (by first | omega | (intro h; omega) | exact Or.inl rfl | exact Or.inr rfl) (by first | omega | (intro h; omega) | exact Or.inl rfl | exact Or.inr rfl) (by first | omega | (intro h; omega) | exact Or.inl rfl | exact Or.inr rfl) (by omega)
          · have d_75 := iNle c_48
            have a_77 : (x3 + Int32.ofInt (-1)).toInt = x3.toInt + (-1) := tIc (by omega) (by omega) (by decide) (by decide)
            generalize ez_76 : (x3 + Int32.ofInt (-1)) = z_76 at a_77 ⊢
            have a_78 : (z_76 - 1).toInt = z_76.toInt - (1 : Int32).toInt := tSub (by omega) (by omega)
            have a_79 : (z_76 - 1).toInt = z_76.toInt - (1 : Int32).toInt := tSub (by omega) (by omega)
            refine ⟨tIn (by omega) (by omega), ?_⟩
            refine ⟨tIn (by omega) (by omega), ?_⟩
            refine y_Reform_join hok hR (fun r_80  => ⟨r_80, I, L, rfl, rfl, ?_⟩)
            refine ⟨tIn (by omega) (by omega), fun I_81 e_82 => ?_⟩
            have hR_83 : RI R I_81 := hR.up ra 4 (by decide) (Or.inl rfl) e_82 (i_lo _) (i_hi _)
            have hf_84 : Fm (fun c => (o ≤ c ∧ c < o + 5)) I0 I_81 := hf.set (by first | rfl | omega | (dsimp only; omega)) e_82
            unfold fReform_tell_148
            have a_86 : (x4 + Int32.ofInt 1).toInt = x4.toInt + (1) := tIc (by omega) (by omega) (by decide) (by decide)
            generalize ez_85 : (x4 + Int32.ofInt 1) = z_85 at a_86 ⊢
            exact ih hR_83 hf_84 (by first | omega | (intro h; omega) | exact Or.inl rfl | exact Or.inr rfl) (by first | omega | (intro h; omega) | exact Or.inl rfl | exact Or.inr rfl) (by first | omega | (intro h; omega) | exact Or.inl rfl | exact Or.inr rfl) (by omega)
      · have d_87 := iEq c_11
        have l_88 : (0 : Int32).toInt = 0 := rfl
        refine ⟨fun c_89 => ?_, fun c_89 => ?_⟩
        · have d_90 := iLe c_89
          unfold fReform_tell_68
          refine y_Reform_isJoint hok hR (fun r_91 u_92 => ⟨r_91, I, L, rfl, rfl, ?_⟩)
          have b_93 : 0 ≤ r_91.toInt ∧ r_91.toInt ≤ 1 := u_92.rg
          refine ⟨fun c_94 => ?_, fun c_94 => ?_⟩
          · have d_95 := iEq c_94
            unfold fReform_tell_114
            have l_96 : (100 : Int32).toInt = 100 := rfl
            refine ⟨fun c_97 => ?_, fun c_97 => ?_⟩
            · have d_98 := iLe c_97
              exfalso; omega
            · have d_99 := iNle c_97
              have l_100 : (64 : Int32).toInt = 64 := rfl
              refine ⟨fun c_101 => ?_, fun c_101 => ?_⟩
              · have d_102 := iLt c_101
                refine ⟨tIn (by omega) (by omega), ?_⟩
                unfold fReform_tell_144
                refine ⟨tIn (by omega) (by omega), fun I_103 e_104 => ?_⟩
                have hR_105 : RI R I_103 := hR.up ra 4 (by decide) (Or.inl rfl) e_104 (i_lo _) (i_hi _)
                have hf_106 : Fm (fun c => (o ≤ c ∧ c < o + 5)) I0 I_103 := hf.set (by first | rfl | omega | (dsimp only; omega)) e_104
                have a_108 : (x3 + Int32.ofInt 1).toInt = x3.toInt + (1) := tIc (by omega) (by omega) (by decide) (by decide)
                generalize ez_107 : (x3 + Int32.ofInt 1) = z_107 at a_108 ⊢
                unfold fReform_tell_148
                have a_110 : (x4 + Int32.ofInt 1).toInt = x4.toInt + (1) := tIc (by omega) (by omega) (by decide) (by decide)
                generalize ez_109 : (x4 + Int32.ofInt 1) = z_109 at a_110 ⊢
                exact ih hR_105 hf_106 (by first | omega | (intro h; omega) | exact Or.inl rfl | exact Or.inr rfl) (by first | omega | (intro h; omega) | exact Or.inl rfl | exact Or.inr rfl) (by first | omega | (intro h; omega) | exact Or.inl rfl | exact Or.inr rfl) (by omega)
              · have d_111 := iNlt c_101
                exfalso; omega
          · have d_112 := iNe c_94
            have l_113 : (1 : Int32).toInt = 1 := rfl
            refine ⟨fun c_114 => ?_, fun c_114 => ?_⟩
            · have d_115 := iLe c_114
              unfold fReform_tell_114
              have l_116 : (100 : Int32).toInt = 100 := rfl
              refine ⟨fun c_117 => ?_, fun c_117 => ?_⟩
              · have d_118 := iLe c_117
                exfalso; omega
              · have d_119 := iNle c_117
                have l_120 : (64 : Int32).toInt = 64 := rfl
                refine ⟨fun c_121 => ?_, fun c_121 => ?_⟩
                · have d_122 := iLt c_121
                  refine ⟨tIn (by omega) (by omega), ?_⟩
                  unfold fReform_tell_144
                  refine ⟨tIn (by omega) (by omega), fun I_123 e_124 => ?_⟩
                  have hR_125 : RI R I_123 := hR.up ra 4 (by decide) (Or.inl rfl) e_124 (i_lo _) (i_hi _)
                  have hf_126 : Fm (fun c => (o ≤ c ∧ c < o + 5)) I0 I_123 := hf.set (by first | rfl | omega | (dsimp only; omega)) e_124
                  have a_128 : (x3 + Int32.ofInt 1).toInt = x3.toInt + (1) := tIc (by omega) (by omega) (by decide) (by decide)
                  generalize ez_127 : (x3 + Int32.ofInt 1) = z_127 at a_128 ⊢
                  unfold fReform_tell_148
                  have a_130 : (x4 + Int32.ofInt 1).toInt = x4.toInt + (1) := tIc (by omega) (by omega) (by decide) (by decide)
                  generalize ez_129 : (x4 + Int32.ofInt 1) = z_129 at a_130 ⊢
                  exact ih hR_125 hf_126 (by first | omega | (intro h; omega) | exact Or.inl rfl | exact Or.inr rfl) (by first | omega | (intro h; omega) | exact Or.inl rfl | exact Or.inr rfl) (by first | omega | (intro h; omega) | exact Or.inl rfl | exact Or.inr rfl) (by omega)
                · have d_131 := iNlt c_121
                  exfalso; omega
            · have d_132 := iNle c_114
              exfalso; omega
        · have d_133 := iNle c_89
          have l_134 : (1 : Int32).toInt = 1 := rfl
          have a_135 : (x3 - 1).toInt = x3.toInt - (1 : Int32).toInt := tSub (by omega) (by omega)
          have a_136 : (x3 - 1).toInt = x3.toInt - (1 : Int32).toInt := tSub (by omega) (by omega)
          refine ⟨tIn (by omega) (by omega), ?_⟩
          refine ⟨fun c_137 => ?_, fun c_137 => ?_⟩
          · have d_138 := iNe c_137
            unfold fReform_tell_64
            refine ⟨tIn (by omega) (by omega), fun I_139 e_140 => ?_⟩
            have hR_141 : RI R I_139 := hR.up ra 4 (by decide) (Or.inl rfl) e_140 (i_lo _) (i_hi _)
            have hf_142 : Fm (fun c => (o ≤ c ∧ c < o + 5)) I0 I_139 := hf.set (by first | rfl | omega | (dsimp only; omega)) e_140
            unfold fReform_tell_148
            have a_144 : (x4 + Int32.ofInt 1).toInt = x4.toInt + (1) := tIc (by omega) (by omega) (by decide) (by decide)
            generalize ez_143 : (x4 + Int32.ofInt 1) = z_143 at a_144 ⊢
            exact ih hR_141 hf_142 (by first | omega | (intro h; omega) | exact Or.inl rfl | exact Or.inr rfl) (by first | omega | (intro h; omega) | exact Or.inl rfl | exact Or.inr rfl) (by first | omega | (intro h; omega) | exact Or.inl rfl | exact Or.inr rfl) (by omega)
          · have d_145 := iEq c_137
            unfold fReform_tell_64
            refine ⟨tIn (by omega) (by omega), fun I_146 e_147 => ?_⟩
            have hR_148 : RI R I_146 := hR.up ra 4 (by decide) (Or.inl rfl) e_147 (i_lo _) (i_hi _)
            have hf_149 : Fm (fun c => (o ≤ c ∧ c < o + 5)) I0 I_146 := hf.set (by first | rfl | omega | (dsimp only; omega)) e_147
            unfold fReform_tell_148
            have a_151 : (x4 + Int32.ofInt 1).toInt = x4.toInt + (1) := tIc (by omega) (by omega) (by decide) (by decide)
            generalize ez_150 : (x4 + Int32.ofInt 1) = z_150 at a_151 ⊢
            exact ih hR_148 hf_149 (by first | omega | (intro h; omega) | exact Or.inl rfl | exact Or.inr rfl) (by first | omega | (intro h; omega) | exact Or.inl rfl | exact Or.inr rfl) (by first | omega | (intro h; omega) | exact Or.inl rfl | exact Or.inr rfl) (by omega)
set_option maxHeartbeats 4000000 in
set_option maxRecDepth 20000 in
theorem y_Reform_tell {D : va_G} {cA : FieldType → ClassId} {b : Nat} {E : State → Prop} {R : qRg} {o n : Nat} {sh : Nat → qC} {Rf : Nat → Nat → Option Nat} {I0 : Nat → Nat → Int32} {L0 : Nat → Nat → Int64} {post : Option Value → qS → Prop} {p1 : Int32} (hok : q_ok (qGG D cA b E)) (hw : WfReform (qGG D cA b E) n sh Rf o) (ra : RAReform R o) {x2 : Nat} (hw2 : ∀ I L, q_in (qGG D cA b E) (n, sh, Rf, I, L) x2 (.inl (.int, 64))) (hq0 : (0 : Int) ≤ p1.toInt ∧ p1.toInt ≤ 10) (hR : RI R I0) (hp : ∀ (r : Int32) (I' : Nat → Nat → Int32) (L' : Nat → Nat → Int64), RI R I' → Fm (fun c => (o ≤ c ∧ c < o + 5)) I0 I' → post (some (.int r)) (n, sh, Rf, I', L')) : Ev (qGG D cA b E) mReform_tell 1 (0, 0) 0 (lv_args 0 [.ref o, .int p1, .ref x2]) [] (n, sh, Rf, I0, L0) post := by
  have hf : Fm (fun c => (o ≤ c ∧ c < o + 5)) I0 I0 := Fm.rf
  refine sReform_tell_0 o n sh Rf I0 L0 post p1 x2 64 hok hw (hw2 _ _) ?_
  unfold fReform_tell_0
  refine ⟨tIn (by omega) (by omega), ?_⟩
  have g_152 : (0 : Int) ≤ (I0 (o + 2) (p1 : Int32).toNatClampNeg).toInt ∧ (I0 (o + 2) (p1 : Int32).toNatClampNeg).toInt ≤ 700 := hR.at ra 2 _ (by decide)
  have l_153 : (0 : Int32).toInt = 0 := rfl
  exact yReform_tell_10 (I0 := I0) (L0 := L0) (p1 := p1) hok hw ra hw2 hq0 hp  _ hR hf (by first | omega | (intro h; omega) | exact Or.inl rfl | exact Or.inr rfl) (by first | omega | (intro h; omega) | exact Or.inl rfl | exact Or.inr rfl) (by first | omega | (intro h; omega) | exact Or.inl rfl | exact Or.inr rfl) (Nat.lt_succ_self _)
