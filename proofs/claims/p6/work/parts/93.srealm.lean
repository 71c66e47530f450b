/-! Safety of Realm and Records: by program (spec.py). -/
set_option maxHeartbeats 4000000 in
set_option maxRecDepth 20000 in
theorem y_Realm_start {D : va_G} {cA : FieldType → ClassId} {b : Nat} {E : State → Prop} {R : qRg} {o n : Nat} {sh : Nat → qC} {Rf : Nat → Nat → Option Nat} {I0 : Nat → Nat → Int32} {L0 : Nat → Nat → Int64} {post : Option Value → qS → Prop} {x1 : Nat} (hok : q_ok (qGG D cA b E)) (hw : WfRealm (qGG D cA b E) n sh Rf o) (ra : RARealm R o) (hw1 : WfLand (qGG D cA b E) n sh Rf x1) (ra1 : RALand R x1) (hR : RI R I0) (hp : ∀ (I' : Nat → Nat → Int32) (L' : Nat → Nat → Int64), RI R I' → Fm (fun c => (o ≤ c ∧ c < o + 7)) I0 I' → post none (n, sh, Rf, I', L')) : Ev (qGG D cA b E) mRealm_start 1 (0, 0) 0 (lv_args 0 [.ref o, .ref x1]) [] (n, sh, Rf, I0, L0) post := by
  have hf : Fm (fun c => (o ≤ c ∧ c < o + 7)) I0 I0 := Fm.rf
  refine sRealm_start_0 o n sh Rf I0 L0 post x1 hok hw hw1 ?_
  unfold fRealm_start_0
  have l_3 : (3 : Int32).toInt = 3 := rfl
  refine ⟨⟨by decide, by decide, by decide⟩, fun I_1 e_2 => ?_⟩
  have hR_4 : RI R I_1 := hR.copy (fun j k => by rw [RAt.eq ra1 5 (by decide) j (Or.inl rfl), RAt.eq ra 1 (by decide) k (Or.inl rfl)]; exact ⟨Int.le_refl _, Int.le_refl _⟩) e_2
  have hf_5 : Fm (fun c => (o ≤ c ∧ c < o + 7)) I0 I_1 := hf.call (M' := fun c => c = (o + 1)) (fun c hc => by rw [← e_2, q_w_ne hc]) (fun c hc => by first | (dsimp only at hc ⊢; omega) | omega)
  have we_6 : ∀ q, q ≠ (o + 1) → I_1 q = I0 q := fun q hq => by rw [← e_2, q_w_ne hq]
  have l_7 : (0 : Int32).toInt = 0 := rfl
  refine y_fill hok (fun _ _ => waRealm_2 hw) (by omega) (fun I_8 ne_9 _ eq_10 => ⟨I_8, L0, rfl, rfl, ?_⟩)
  have hR_11 : RI R I_8 := hR_4.row ra 3 (by decide) (fun _ => rfl) (fun _ => ⟨(i_lo _), (i_hi _)⟩) ne_9 eq_10
  have hf_12 : Fm (fun c => (o ≤ c ∧ c < o + 7)) I0 I_8 := hf_5.call (M' := fun c => c = (o + 3)) ne_9 (fun c hc => by first | exact hc | (dsimp only at hc ⊢; omega) | omega)
  refine y_fill hok (fun _ _ => waRealm_3 hw) (by omega) (fun I_13 ne_14 _ eq_15 => ⟨I_13, L0, rfl, rfl, ?_⟩)
  have hR_16 : RI R I_13 := hR_11.row ra 4 (by decide) (fun _ => rfl) (fun _ => ⟨(i_lo _), (i_hi _)⟩) ne_14 eq_15
  have hf_17 : Fm (fun c => (o ≤ c ∧ c < o + 7)) I0 I_13 := hf_12.call (M' := fun c => c = (o + 4)) ne_14 (fun c hc => by first | exact hc | (dsimp only at hc ⊢; omega) | omega)
  exact (hp _ _ hR_16 hf_17 )
set_option maxHeartbeats 4000000 in
set_option maxRecDepth 20000 in
theorem y_Realm_refillGrain {D : va_G} {cA : FieldType → ClassId} {b : Nat} {E : State → Prop} {R : qRg} {o n : Nat} {sh : Nat → qC} {Rf : Nat → Nat → Option Nat} {I0 : Nat → Nat → Int32} {L0 : Nat → Nat → Int64} {post : Option Value → qS → Prop} {x1 : Nat} (hok : q_ok (qGG D cA b E)) (hw : WfRealm (qGG D cA b E) n sh Rf o) (ra : RARealm R o) (hw1 : WfLand (qGG D cA b E) n sh Rf x1) (ra1 : RALand R x1) (hR : RI R I0) (hp : ∀ (I' : Nat → Nat → Int32) (L' : Nat → Nat → Int64), RI R I' → Fm (fun c => (o ≤ c ∧ c < o + 7)) I0 I' → post none (n, sh, Rf, I', L')) : Ev (qGG D cA b E) mRealm_refillGrain 1 (0, 0) 0 (lv_args 0 [.ref o, .ref x1]) [] (n, sh, Rf, I0, L0) post := by
  have hf : Fm (fun c => (o ≤ c ∧ c < o + 7)) I0 I0 := Fm.rf
  refine sRealm_refillGrain_0 o n sh Rf I0 L0 post x1 hok hw hw1 ?_
  unfold fRealm_refillGrain_0
  have l_3 : (5 : Int32).toInt = 5 := rfl
  refine ⟨⟨by decide, by decide, by decide⟩, fun I_1 e_2 => ?_⟩
  have hR_4 : RI R I_1 := hR.copy (fun j k => by rw [RAt.eq ra1 14 (by decide) j (Or.inl rfl), RAt.eq ra 6 (by decide) k (Or.inl rfl)]; exact ⟨Int.le_refl _, Int.le_refl _⟩) e_2
  have hf_5 : Fm (fun c => (o ≤ c ∧ c < o + 7)) I0 I_1 := hf.call (M' := fun c => c = (o + 6)) (fun c hc => by rw [← e_2, q_w_ne hc]) (fun c hc => by first | (dsimp only at hc ⊢; omega) | omega)
  have we_6 : ∀ q, q ≠ (o + 6) → I_1 q = I0 q := fun q hq => by rw [← e_2, q_w_ne hq]
  exact (hp _ _ hR_4 hf_5 )
set_option maxHeartbeats 4000000 in
set_option maxRecDepth 20000 in
theorem yRealm_allSalt_4 {D : va_G} {cA : FieldType → ClassId} {b : Nat} {E : State → Prop} {R : qRg} {o n : Nat} {sh : Nat → qC} {Rf : Nat → Nat → Option Nat} {I0 : Nat → Nat → Int32} {L0 : Nat → Nat → Int64} {post : Option Value → qS → Prop} {p1 : Int32} (hok : q_ok (qGG D cA b E)) (hw : WfRealm (qGG D cA b E) n sh Rf o) (ra : RARealm R o) (hR : RI R I0) (hp : ∀ (r : Int32) , post (some (.int r)) (n, sh, Rf, I0, L0)) : ∀ (k : Nat) {x1 : Int32} {x2 : Int32} {x3 : Int32} , ((0 : Int) ≤ x3.toInt ∧ x3.toInt ≤ 3) → (3 - x3.toInt).toNat < k → Ev (qGG D cA b E) mRealm_allSalt 0 (0, 0) 4 [(0, .ref o), (1, .int x1), (2, .int x2), (3, .int x3)] [] (n, sh, Rf, I0, L0) post := by
  intro k
  induction k with
  | zero =>
    intro x1 x2 x3 hi0 hm
    exact absurd hm (Nat.not_lt_zero _)
  | succ k ih =>
    intro x1 x2 x3 hi0 hm
    refine sRealm_allSalt_4 o n sh Rf I0 L0 post x1 x2 x3 hok hw ?_
    unfold fRealm_allSalt_4
    refine ⟨fun c_1 => ?_, fun c_1 => ?_⟩
    · have d_2 := iLe c_1
      exact (hp _ )
    · have d_3 := iNle c_1
      have l_4 : (3 : Int32).toInt = 3 := rfl
      refine ⟨fun c_5 => ?_, fun c_5 => ?_⟩
      · have d_6 := iLe c_5
        exact (hp _ )
      · have d_7 := iNle c_5
        refine ⟨tIn (by omega) (by omega), ?_⟩
        have a_9 : (x3 + Int32.ofInt 1).toInt = x3.toInt + (1) := tIc (by omega) (by omega) (by decide) (by decide)
        generalize ez_8 : (x3 + Int32.ofInt 1) = z_8 at a_9 ⊢
        exact ih (by first | omega | (intro h; omega) | exact Or.inl rfl | exact Or.inr rfl) (by omega)
set_option maxHeartbeats 4000000 in
set_option maxRecDepth 20000 in
theorem y_Realm_allSalt {D : va_G} {cA : FieldType → ClassId} {b : Nat} {E : State → Prop} {R : qRg} {o n : Nat} {sh : Nat → qC} {Rf : Nat → Nat → Option Nat} {I0 : Nat → Nat → Int32} {L0 : Nat → Nat → Int64} {post : Option Value → qS → Prop} {p1 : Int32} (hok : q_ok (qGG D cA b E)) (hw : WfRealm (qGG D cA b E) n sh Rf o) (ra : RARealm R o) (hR : RI R I0) (hp : ∀ (r : Int32) , post (some (.int r)) (n, sh, Rf, I0, L0)) : Ev (qGG D cA b E) mRealm_allSalt 0 (0, 0) 0 (lv_args 0 [.ref o, .int p1]) [] (n, sh, Rf, I0, L0) post := by
  refine sRealm_allSalt_0 o n sh Rf I0 L0 post p1 hok hw ?_
  unfold fRealm_allSalt_0
  have l_10 : (0 : Int32).toInt = 0 := rfl
  exact yRealm_allSalt_4 (I0 := I0) (L0 := L0) (p1 := p1) hok hw ra hR hp  _ (by first | omega | (intro h; omega) | exact Or.inl rfl | exact Or.inr rfl) (Nat.lt_succ_self _)
set_option maxHeartbeats 4000000 in
set_option maxRecDepth 20000 in
theorem y_Realm_priceIn {D : va_G} {cA : FieldType → ClassId} {b : Nat} {E : State → Prop} {R : qRg} {o n : Nat} {sh : Nat → qC} {Rf : Nat → Nat → Option Nat} {I0 : Nat → Nat → Int32} {L0 : Nat → Nat → Int64} {post : Option Value → qS → Prop} {x1 : Nat} {p2 : Int32} (hok : q_ok (qGG D cA b E)) (hw : WfRealm (qGG D cA b E) n sh Rf o) (ra : RARealm R o) (hw1 : WfLand (qGG D cA b E) n sh Rf x1) (ra1 : RALand R x1) (hq0 : (0 : Int) ≤ p2.toInt ∧ p2.toInt ≤ 4) (hR : RI R I0) (hp : ∀ (r : Int32) , post (some (.int r)) (n, sh, Rf, I0, L0)) : Ev (qGG D cA b E) mRealm_priceIn 1 (0, 0) 0 (lv_args 0 [.ref o, .ref x1, .int p2]) [] (n, sh, Rf, I0, L0) post := by
  refine sRealm_priceIn_0 o n sh Rf I0 L0 post x1 p2 hok hw hw1 ?_
  unfold fRealm_priceIn_0
  refine ⟨tIn (by omega) (by omega), ?_⟩
  refine ⟨tIn (by omega) (by omega), ?_⟩
  have l_1 : (0 : Int32).toInt = 0 := rfl
  refine ⟨fun c_2 => ?_, fun c_2 => ?_⟩
  · have d_3 := iNe c_2
    refine ⟨tIn (by omega) (by omega), ?_⟩
    refine ⟨(tL0 (by omega)), ?_⟩
    refine fun y_4 e_5 => ?_
    exact (hp _ )
  · have d_6 := iEq c_2
    exact (hp _ )
set_option maxHeartbeats 4000000 in
set_option maxRecDepth 20000 in
theorem yRealm_eat_4 {D : va_G} {cA : FieldType → ClassId} {b : Nat} {E : State → Prop} {R : qRg} {o n : Nat} {sh : Nat → qC} {Rf : Nat → Nat → Option Nat} {I0 : Nat → Nat → Int32} {L0 : Nat → Nat → Int64} {post : Option Value → qS → Prop} {x1 : Nat} (hok : q_ok (qGG D cA b E)) (hw : WfRealm (qGG D cA b E) n sh Rf o) (ra : RARealm R o) (hw1 : WfLand (qGG D cA b E) n sh Rf x1) (ra1 : RALand R x1) (hp : ∀ (r : Int32) (I' : Nat → Nat → Int32) (L' : Nat → Nat → Int64), RI R I' → Fm (fun c => (o ≤ c ∧ c < o + 7)) I0 I' → post (some (.int r)) (n, sh, Rf, I', L')) : ∀ (k : Nat) {x2 : Int32} {x3 : Int32} {I : Nat → Nat → Int32} {L : Nat → Nat → Int64}, RI R I → Fm (fun c => (o ≤ c ∧ c < o + 7)) I0 I → ((0 : Int) ≤ x3.toInt ∧ x3.toInt ≤ 3) → (3 - x3.toInt).toNat < k → Ev (qGG D cA b E) mRealm_eat 1 (0, 0) 4 [(0, .ref o), (1, .ref x1), (2, .int x2), (3, .int x3)] [] (n, sh, Rf, I, L) post := by
  intro k
  induction k with
  | zero =>
    intro x2 x3 I L hR hf hi0 hm
    exact absurd hm (Nat.not_lt_zero _)
  | succ k ih =>
    intro x2 x3 I L hR hf hi0 hm
    refine sRealm_eat_4 o n sh Rf I L post x1 x2 x3 hok hw hw1 ?_
    unfold fRealm_eat_4
    have g_1 : (0 : Int) ≤ (I x1 1).toInt ∧ (I x1 1).toInt ≤ 3 := hR.at0 ra1 1 (by decide)
    refine ⟨fun c_2 => ?_, fun c_2 => ?_⟩
    · have d_3 := iLe c_2
      exact (hp _ _ _ hR hf )
    · have d_4 := iNle c_2
      refine ⟨tIn (by omega) (by omega), ?_⟩
      refine ⟨tIn (by omega) (by omega), ?_⟩
      refine fun y_5 e_6 => ?_
      have m_7 := tMin e_6
      refine ⟨tIn (by omega) (by omega), ?_⟩
      refine ⟨tIn (by omega) (by omega), fun I_8 e_9 => ?_⟩
      have hR_10 : RI R I_8 := hR.up ra 1 (by decide) (Or.inl rfl) e_9 (i_lo _) (i_hi _)
      have hf_11 : Fm (fun c => (o ≤ c ∧ c < o + 7)) I0 I_8 := hf.set (by first | rfl | omega | (dsimp only; omega)) e_9
      have t_12 : (I_8 x1 1).toInt = (I x1 1).toInt := by rw [← e_9, q_u_ne (sh_ne_a (hw1).1.2.2 (waRealm_0 (I := I0) (L := L0) hw).2.2)]
      refine ⟨tIn (by omega) (by omega), ?_⟩
      refine ⟨tIn (by omega) (by omega), fun I_13 e_14 => ?_⟩
      have hR_15 : RI R I_13 := hR_10.up ra 2 (by decide) (Or.inl rfl) e_14 (i_lo _) (i_hi _)
      have hf_16 : Fm (fun c => (o ≤ c ∧ c < o + 7)) I0 I_13 := hf_11.set (by first | rfl | omega | (dsimp only; omega)) e_14
      have t_17 : (I_13 x1 1).toInt = (I_8 x1 1).toInt := by rw [← e_14, q_u_ne (sh_ne_a (hw1).1.2.2 (waRealm_1 (I := I0) (L := L0) hw).2.2)]
      refine ⟨tIn (by omega) (by omega), ?_⟩
      have a_19 : (x3 + Int32.ofInt 1).toInt = x3.toInt + (1) := tIc (by omega) (by omega) (by decide) (by decide)
      generalize ez_18 : (x3 + Int32.ofInt 1) = z_18 at a_19 ⊢
      exact ih hR_15 hf_16 (by first | omega | (intro h; omega) | exact Or.inl rfl | exact Or.inr rfl) (by omega)
set_option maxHeartbeats 4000000 in
set_option maxRecDepth 20000 in
theorem y_Realm_eat {D : va_G} {cA : FieldType → ClassId} {b : Nat} {E : State → Prop} {R : qRg} {o n : Nat} {sh : Nat → qC} {Rf : Nat → Nat → Option Nat} {I0 : Nat → Nat → Int32} {L0 : Nat → Nat → Int64} {post : Option Value → qS → Prop} {x1 : Nat} (hok : q_ok (qGG D cA b E)) (hw : WfRealm (qGG D cA b E) n sh Rf o) (ra : RARealm R o) (hw1 : WfLand (qGG D cA b E) n sh Rf x1) (ra1 : RALand R x1) (hR : RI R I0) (hp : ∀ (r : Int32) (I' : Nat → Nat → Int32) (L' : Nat → Nat → Int64), RI R I' → Fm (fun c => (o ≤ c ∧ c < o + 7)) I0 I' → post (some (.int r)) (n, sh, Rf, I', L')) : Ev (qGG D cA b E) mRealm_eat 1 (0, 0) 0 (lv_args 0 [.ref o, .ref x1]) [] (n, sh, Rf, I0, L0) post := by
  have hf : Fm (fun c => (o ≤ c ∧ c < o + 7)) I0 I0 := Fm.rf
  refine sRealm_eat_0 o n sh Rf I0 L0 post x1 hok hw hw1 ?_
  unfold fRealm_eat_0
  have l_20 : (0 : Int32).toInt = 0 := rfl
  exact yRealm_eat_4 (I0 := I0) (L0 := L0) hok hw ra hw1 ra1 hp  _ hR hf (by first | omega | (intro h; omega) | exact Or.inl rfl | exact Or.inr rfl) (Nat.lt_succ_self _)
set_option maxHeartbeats 4000000 in
set_option maxRecDepth 20000 in
theorem yRealm_use_2 {D : va_G} {cA : FieldType → ClassId} {b : Nat} {E : State → Prop} {R : qRg} {o n : Nat} {sh : Nat → qC} {Rf : Nat → Nat → Option Nat} {I0 : Nat → Nat → Int32} {L0 : Nat → Nat → Int64} {post : Option Value → qS → Prop} {x1 : Nat} (hok : q_ok (qGG D cA b E)) (hw : WfRealm (qGG D cA b E) n sh Rf o) (ra : RARealm R o) (hw1 : WfLand (qGG D cA b E) n sh Rf x1) (ra1 : RALand R x1) (hp : ∀ (I' : Nat → Nat → Int32) (L' : Nat → Nat → Int64), RI R I' → Fm (fun c => (o ≤ c ∧ c < o + 7)) I0 I' → post none (n, sh, Rf, I', L')) : ∀ (k : Nat) {x2 : Int32} {I : Nat → Nat → Int32} {L : Nat → Nat → Int64}, RI R I → Fm (fun c => (o ≤ c ∧ c < o + 7)) I0 I → ((0 : Int) ≤ x2.toInt ∧ x2.toInt ≤ 5) → (5 - x2.toInt).toNat < k → Ev (qGG D cA b E) mRealm_use 1 (0, 0) 2 [(0, .ref o), (1, .ref x1), (2, .int x2)] [] (n, sh, Rf, I, L) post := by
  intro k
  induction k with
  | zero =>
    intro x2 I L hR hf hi0 hm
    exact absurd hm (Nat.not_lt_zero _)
  | succ k ih =>
    intro x2 I L hR hf hi0 hm
    refine sRealm_use_2 o n sh Rf I L post x1 x2 hok hw hw1 ?_
    unfold fRealm_use_2
    have g_1 : (0 : Int) ≤ (I x1 3).toInt ∧ (I x1 3).toInt ≤ 5 := hR.at0 ra1 3 (by decide)
    refine ⟨fun c_2 => ?_, fun c_2 => ?_⟩
    · have d_3 := iLe c_2
      exact (hp _ _ hR hf )
    · have d_4 := iNle c_2
      refine ⟨tIn (by omega) (by omega), ?_⟩
      refine ⟨tIn (by omega) (by omega), ?_⟩
      refine ⟨tIn (by omega) (by omega), ?_⟩
      refine fun y_5 e_6 => ?_
      have m_7 := tMin e_6
      refine ⟨tIn (by omega) (by omega), fun I_8 e_9 => ?_⟩
      have hR_10 : RI R I_8 := hR.up ra 4 (by decide) (Or.inl rfl) e_9 (i_lo _) (i_hi _)
      have hf_11 : Fm (fun c => (o ≤ c ∧ c < o + 7)) I0 I_8 := hf.set (by first | rfl | omega | (dsimp only; omega)) e_9
      have t_12 : (I_8 x1 3).toInt = (I x1 3).toInt := by rw [← e_9, q_u_ne (sh_ne_a (hw1).1.2.2 (waRealm_3 (I := I0) (L := L0) hw).2.2)]
      have a_14 : (x2 + Int32.ofInt 1).toInt = x2.toInt + (1) := tIc (by omega) (by omega) (by decide) (by decide)
      generalize ez_13 : (x2 + Int32.ofInt 1) = z_13 at a_14 ⊢
      exact ih hR_10 hf_11 (by first | omega | (intro h; omega) | exact Or.inl rfl | exact Or.inr rfl) (by omega)
set_option maxHeartbeats 4000000 in
set_option maxRecDepth 20000 in
theorem y_Realm_use {D : va_G} {cA : FieldType → ClassId} {b : Nat} {E : State → Prop} {R : qRg} {o n : Nat} {sh : Nat → qC} {Rf : Nat → Nat → Option Nat} {I0 : Nat → Nat → Int32} {L0 : Nat → Nat → Int64} {post : Option Value → qS → Prop} {x1 : Nat} (hok : q_ok (qGG D cA b E)) (hw : WfRealm (qGG D cA b E) n sh Rf o) (ra : RARealm R o) (hw1 : WfLand (qGG D cA b E) n sh Rf x1) (ra1 : RALand R x1) (hR : RI R I0) (hp : ∀ (I' : Nat → Nat → Int32) (L' : Nat → Nat → Int64), RI R I' → Fm (fun c => (o ≤ c ∧ c < o + 7)) I0 I' → post none (n, sh, Rf, I', L')) : Ev (qGG D cA b E) mRealm_use 1 (0, 0) 0 (lv_args 0 [.ref o, .ref x1]) [] (n, sh, Rf, I0, L0) post := by
  have hf : Fm (fun c => (o ≤ c ∧ c < o + 7)) I0 I0 := Fm.rf
  refine sRealm_use_0 o n sh Rf I0 L0 post x1 hok hw hw1 ?_
  unfold fRealm_use_0
  have l_15 : (0 : Int32).toInt = 0 := rfl
  exact yRealm_use_2 (I0 := I0) (L0 := L0) hok hw ra hw1 ra1 hp  _ hR hf (by first | omega | (intro h; omega) | exact Or.inl rfl | exact Or.inr rfl) (Nat.lt_succ_self _)
set_option maxHeartbeats 4000000 in
set_option maxRecDepth 20000 in
theorem yRecords_keepRealm_127 {D : va_G} {cA : FieldType → ClassId} {b : Nat} {E : State → Prop} {R : qRg} {o n : Nat} {sh : Nat → qC} {Rf : Nat → Nat → Option Nat} {I0 : Nat → Nat → Int32} {L0 : Nat → Nat → Int64} {post : Option Value → qS → Prop} {x1 : Nat} {x2 : Nat} {x3 : Nat} {p4 : Int32} (hok : q_ok (qGG D cA b E)) (hw : WfRecords (qGG D cA b E) n sh Rf o) (ra : RARecords R o) (hw1 : WfRealm (qGG D cA b E) n sh Rf x1) (ra1 : RARealm R x1) (hw2 : WfLand (qGG D cA b E) n sh Rf x2) (ra2 : RALand R x2) (hw3 : WfPapers (qGG D cA b E) n sh Rf x3) (ra3 : RAPapers R x3) (hq0 : (0 : Int) ≤ p4.toInt ∧ p4.toInt ≤ 239) (hp : ∀ (I' : Nat → Nat → Int32) (L' : Nat → Nat → Int64), RI R I' → Fm (fun c => (o ≤ c ∧ c < o + 5)) I0 I' → post none (n, sh, Rf, I', L')) : ∀ (k : Nat) {x4 : Int32} {x5 : Int32} {I : Nat → Nat → Int32} {L : Nat → Nat → Int64}, RI R I → Fm (fun c => (o ≤ c ∧ c < o + 5)) I0 I → ((0 : Int) ≤ x4.toInt ∧ x4.toInt ≤ 239) → ((0 : Int) ≤ x5.toInt ∧ x5.toInt ≤ 5) → (5 - x5.toInt).toNat < k → Ev (qGG D cA b E) mRecords_keepRealm 2 (0, 0) 127 [(0, .ref o), (1, .ref x1), (2, .ref x2), (3, .ref x3), (4, .int x4), (5, .int x5)] [] (n, sh, Rf, I, L) post := by
  intro k
  induction k with
  | zero =>
    intro x4 x5 I L hR hf hi0 hi1 hm
    exact absurd hm (Nat.not_lt_zero _)
  | succ k ih =>
    intro x4 x5 I L hR hf hi0 hi1 hm
    refine sRecords_keepRealm_127 o n sh Rf I L post x1 x2 x3 x4 x5 hok hw hw1 hw2 hw3 ?_
    unfold fRecords_keepRealm_127
    have g_1 : (0 : Int) ≤ (I x2 3).toInt ∧ (I x2 3).toInt ≤ 5 := hR.at0 ra2 3 (by decide)
    refine ⟨fun c_2 => ?_, fun c_2 => ?_⟩
    · have d_3 := iLe c_2
      exact (hp _ _ hR hf )
    · have d_4 := iNle c_2
      have l_5 : (5 : Int32).toInt = 5 := rfl
      have a_6 : (x4 * 5).toInt = x4.toInt * 5 := tMul rfl (by omega) (by omega)
      have a_7 : ((x4 * 5) + x5).toInt = (x4 * 5).toInt + x5.toInt := tAdd (by omega) (by omega)
      have l_8 : (3 : Int32).toInt = 3 := rfl
      have a_9 : (((x4 * 5) + x5) * 3).toInt = ((x4 * 5) + x5).toInt * 3 := tMul rfl (by omega) (by omega)
      refine ⟨tIn (by omega) (by omega), ?_⟩
      refine ⟨tIn (by omega) (by omega), fun I_10 e_11 => ?_⟩
      have hR_12 : RI R I_10 := hR.up ra 3 (by decide) (Or.inl rfl) e_11 (i_lo _) (i_hi _)
      have hf_13 : Fm (fun c => (o ≤ c ∧ c < o + 5)) I0 I_10 := hf.set (by first | rfl | omega | (dsimp only; omega)) e_11
      have t_14 : (I_10 x2 3).toInt = (I x2 3).toInt := by rw [← e_11, q_u_ne (sh_ne_a (hw2).1.2.2 (waRecords_2 (I := I0) (L := L0) hw).2.2)]
      have a_15 : (x4 * 5).toInt = x4.toInt * 5 := tMul rfl (by omega) (by omega)
      have a_16 : ((x4 * 5) + x5).toInt = (x4 * 5).toInt + x5.toInt := tAdd (by omega) (by omega)
      have a_17 : (((x4 * 5) + x5) * 3).toInt = ((x4 * 5) + x5).toInt * 3 := tMul rfl (by omega) (by omega)
      have l_18 : (1 : Int32).toInt = 1 := rfl
      have a_19 : ((((x4 * 5) + x5) * 3) + 1).toInt = (((x4 * 5) + x5) * 3).toInt + (1 : Int32).toInt := tAdd (by omega) (by omega)
      refine y_Realm_priceIn hok hw1 ra1 hw2 ra2 (by first | omega | (intro h; omega) | exact Or.inl rfl | exact Or.inr rfl) hR_12 (fun r_20  => ⟨r_20, I_10, L, rfl, rfl, ?_⟩)
      refine ⟨tIn (by omega) (by omega), fun I_21 e_22 => ?_⟩
      have hR_23 : RI R I_21 := hR_12.up ra 3 (by decide) (Or.inl rfl) e_22 (i_lo _) (i_hi _)
      have hf_24 : Fm (fun c => (o ≤ c ∧ c < o + 5)) I0 I_21 := hf_13.set (by first | rfl | omega | (dsimp only; omega)) e_22
      have t_25 : (I_21 x2 3).toInt = (I_10 x2 3).toInt := by rw [← e_22, q_u_ne (sh_ne_a (hw2).1.2.2 (waRecords_2 (I := I0) (L := L0) hw).2.2)]
      have a_26 : (x4 * 5).toInt = x4.toInt * 5 := tMul rfl (by omega) (by omega)
      have a_27 : ((x4 * 5) + x5).toInt = (x4 * 5).toInt + x5.toInt := tAdd (by omega) (by omega)
      have a_28 : (((x4 * 5) + x5) * 3).toInt = ((x4 * 5) + x5).toInt * 3 := tMul rfl (by omega) (by omega)
      have l_29 : (2 : Int32).toInt = 2 := rfl
      have a_30 : ((((x4 * 5) + x5) * 3) + 2).toInt = (((x4 * 5) + x5) * 3).toInt + (2 : Int32).toInt := tAdd (by omega) (by omega)
      refine ⟨tIn (by omega) (by omega), ?_⟩
      refine ⟨tIn (by omega) (by omega), fun I_31 e_32 => ?_⟩
      have hR_33 : RI R I_31 := hR_23.up ra 3 (by decide) (Or.inl rfl) e_32 (i_lo _) (i_hi _)
      have hf_34 : Fm (fun c => (o ≤ c ∧ c < o + 5)) I0 I_31 := hf_24.set (by first | rfl | omega | (dsimp only; omega)) e_32
      have t_35 : (I_31 x2 3).toInt = (I_21 x2 3).toInt := by rw [← e_32, q_u_ne (sh_ne_a (hw2).1.2.2 (waRecords_2 (I := I0) (L := L0) hw).2.2)]
      have a_37 : (x5 + Int32.ofInt 1).toInt = x5.toInt + (1) := tIc (by omega) (by omega) (by decide) (by decide)
      generalize ez_36 : (x5 + Int32.ofInt 1) = z_36 at a_37 ⊢
      exact ih hR_33 hf_34 (by first | omega | (intro h; omega) | exact Or.inl rfl | exact Or.inr rfl) (by first | omega | (intro h; omega) | exact Or.inl rfl | exact Or.inr rfl) (by omega)
set_option maxHeartbeats 4000000 in
set_option maxRecDepth 20000 in
theorem yRecords_keepRealm_65 {D : va_G} {cA : FieldType → ClassId} {b : Nat} {E : State → Prop} {R : qRg} {o n : Nat} {sh : Nat → qC} {Rf : Nat → Nat → Option Nat} {I0 : Nat → Nat → Int32} {L0 : Nat → Nat → Int64} {post : Option Value → qS → Prop} {x1 : Nat} {x2 : Nat} {x3 : Nat} {p4 : Int32} (hok : q_ok (qGG D cA b E)) (hw : WfRecords (qGG D cA b E) n sh Rf o) (ra : RARecords R o) (hw1 : WfRealm (qGG D cA b E) n sh Rf x1) (ra1 : RARealm R x1) (hw2 : WfLand (qGG D cA b E) n sh Rf x2) (ra2 : RALand R x2) (hw3 : WfPapers (qGG D cA b E) n sh Rf x3) (ra3 : RAPapers R x3) (hq0 : (0 : Int) ≤ p4.toInt ∧ p4.toInt ≤ 239) (hp : ∀ (I' : Nat → Nat → Int32) (L' : Nat → Nat → Int64), RI R I' → Fm (fun c => (o ≤ c ∧ c < o + 5)) I0 I' → post none (n, sh, Rf, I', L')) : ∀ (k : Nat) {x4 : Int32} {x5 : Int32} {I : Nat → Nat → Int32} {L : Nat → Nat → Int64}, RI R I → Fm (fun c => (o ≤ c ∧ c < o + 5)) I0 I → ((0 : Int) ≤ x4.toInt ∧ x4.toInt ≤ 239) → ((0 : Int) ≤ x5.toInt ∧ x5.toInt ≤ 5) → (5 - x5.toInt).toNat < k → Ev (qGG D cA b E) mRecords_keepRealm 2 (0, 0) 65 [(0, .ref o), (1, .ref x1), (2, .ref x2), (3, .ref x3), (4, .int x4), (5, .int x5)] [] (n, sh, Rf, I, L) post := by
  intro k
  induction k with
  | zero =>
    intro x4 x5 I L hR hf hi0 hi1 hm
    exact absurd hm (Nat.not_lt_zero _)
  | succ k ih =>
    intro x4 x5 I L hR hf hi0 hi1 hm
    refine sRecords_keepRealm_65 o n sh Rf I L post x1 x2 x3 x4 x5 hok hw hw1 hw2 hw3 ?_
    unfold fRecords_keepRealm_65
    have g_38 : (0 : Int) ≤ (I x2 2).toInt ∧ (I x2 2).toInt ≤ 3 := hR.at0 ra2 2 (by decide)
    refine ⟨fun c_39 => ?_, fun c_39 => ?_⟩
    · have d_40 := iLe c_39
      have l_41 : (0 : Int32).toInt = 0 := rfl
      exact yRecords_keepRealm_127 (I0 := I0) (L0 := L0) (p4 := p4) hok hw ra hw1 ra1 hw2 ra2 hw3 ra3 hq0 hp  _ hR hf (by first | omega | (intro h; omega) | exact Or.inl rfl | exact Or.inr rfl) (by first | omega | (intro h; omega) | exact Or.inl rfl | exact Or.inr rfl) (Nat.lt_succ_self _)
    · have d_42 := iNle c_39
      have l_43 : (3 : Int32).toInt = 3 := rfl
      have a_44 : (x4 * 3).toInt = x4.toInt * 3 := tMul rfl (by omega) (by omega)
      have a_45 : ((x4 * 3) + x5).toInt = (x4 * 3).toInt + x5.toInt := tAdd (by omega) (by omega)
      have l_46 : (2 : Int32).toInt = 2 := rfl
      have a_47 : (((x4 * 3) + x5) * 2).toInt = ((x4 * 3) + x5).toInt * 2 := tMul rfl (by omega) (by omega)
      refine ⟨tIn (by omega) (by omega), ?_⟩
      refine ⟨tIn (by omega) (by omega), fun I_48 e_49 => ?_⟩
      have hR_50 : RI R I_48 := hR.up ra 2 (by decide) (Or.inl rfl) e_49 (i_lo _) (i_hi _)
      have hf_51 : Fm (fun c => (o ≤ c ∧ c < o + 5)) I0 I_48 := hf.set (by first | rfl | omega | (dsimp only; omega)) e_49
      have t_52 : (I_48 x2 2).toInt = (I x2 2).toInt := by rw [← e_49, q_u_ne (sh_ne_a (hw2).1.2.2 (waRecords_1 (I := I0) (L := L0) hw).2.2)]
      have a_53 : (x4 * 3).toInt = x4.toInt * 3 := tMul rfl (by omega) (by omega)
      have a_54 : ((x4 * 3) + x5).toInt = (x4 * 3).toInt + x5.toInt := tAdd (by omega) (by omega)
      have a_55 : (((x4 * 3) + x5) * 2).toInt = ((x4 * 3) + x5).toInt * 2 := tMul rfl (by omega) (by omega)
      have l_56 : (1 : Int32).toInt = 1 := rfl
      have a_57 : ((((x4 * 3) + x5) * 2) + 1).toInt = (((x4 * 3) + x5) * 2).toInt + (1 : Int32).toInt := tAdd (by omega) (by omega)
      refine ⟨tIn (by omega) (by omega), ?_⟩
      refine ⟨tIn (by omega) (by omega), fun I_58 e_59 => ?_⟩
      have hR_60 : RI R I_58 := hR_50.up ra 2 (by decide) (Or.inl rfl) e_59 (i_lo _) (i_hi _)
      have hf_61 : Fm (fun c => (o ≤ c ∧ c < o + 5)) I0 I_58 := hf_51.set (by first | rfl | omega | (dsimp only; omega)) e_59
      have t_62 : (I_58 x2 2).toInt = (I_48 x2 2).toInt := by rw [← e_59, q_u_ne (sh_ne_a (hw2).1.2.2 (waRecords_1 (I := I0) (L := L0) hw).2.2)]
      have a_64 : (x5 + Int32.ofInt 1).toInt = x5.toInt + (1) := tIc (by omega) (by omega) (by decide) (by decide)
      generalize ez_63 : (x5 + Int32.ofInt 1) = z_63 at a_64 ⊢
      exact ih hR_60 hf_61 (by first | omega | (intro h; omega) | exact Or.inl rfl | exact Or.inr rfl) (by first | omega | (intro h; omega) | exact Or.inl rfl | exact Or.inr rfl) (by omega)
set_option maxHeartbeats 4000000 in
set_option maxRecDepth 20000 in
theorem yRecords_keepRealm_3 {D : va_G} {cA : FieldType → ClassId} {b : Nat} {E : State → Prop} {R : qRg} {o n : Nat} {sh : Nat → qC} {Rf : Nat → Nat → Option Nat} {I0 : Nat → Nat → Int32} {L0 : Nat → Nat → Int64} {post : Option Value → qS → Prop} {x1 : Nat} {x2 : Nat} {x3 : Nat} {p4 : Int32} (hok : q_ok (qGG D cA b E)) (hw : WfRecords (qGG D cA b E) n sh Rf o) (ra : RARecords R o) (hw1 : WfRealm (qGG D cA b E) n sh Rf x1) (ra1 : RARealm R x1) (hw2 : WfLand (qGG D cA b E) n sh Rf x2) (ra2 : RALand R x2) (hw3 : WfPapers (qGG D cA b E) n sh Rf x3) (ra3 : RAPapers R x3) (hq0 : (0 : Int) ≤ p4.toInt ∧ p4.toInt ≤ 239) (hp : ∀ (I' : Nat → Nat → Int32) (L' : Nat → Nat → Int64), RI R I' → Fm (fun c => (o ≤ c ∧ c < o + 5)) I0 I' → post none (n, sh, Rf, I', L')) : ∀ (k : Nat) {x4 : Int32} {x5 : Int32} {I : Nat → Nat → Int32} {L : Nat → Nat → Int64}, RI R I → Fm (fun c => (o ≤ c ∧ c < o + 5)) I0 I → ((0 : Int) ≤ x4.toInt ∧ x4.toInt ≤ 239) → ((0 : Int) ≤ x5.toInt ∧ x5.toInt ≤ 5) → (5 - x5.toInt).toNat < k → Ev (qGG D cA b E) mRecords_keepRealm 2 (0, 0) 3 [(0, .ref o), (1, .ref x1), (2, .ref x2), (3, .ref x3), (4, .int x4), (5, .int x5)] [] (n, sh, Rf, I, L) post := by
  intro k
  induction k with
  | zero =>
    intro x4 x5 I L hR hf hi0 hi1 hm
    exact absurd hm (Nat.not_lt_zero _)
  | succ k ih =>
    intro x4 x5 I L hR hf hi0 hi1 hm
    refine sRecords_keepRealm_3 o n sh Rf I L post x1 x2 x3 x4 x5 hok hw hw1 hw2 hw3 ?_
    unfold fRecords_keepRealm_3
    have g_65 : (0 : Int) ≤ (I x2 1).toInt ∧ (I x2 1).toInt ≤ 3 := hR.at0 ra2 1 (by decide)
    refine ⟨fun c_66 => ?_, fun c_66 => ?_⟩
    · have d_67 := iLe c_66
      have l_68 : (0 : Int32).toInt = 0 := rfl
      exact yRecords_keepRealm_65 (I0 := I0) (L0 := L0) (p4 := p4) hok hw ra hw1 ra1 hw2 ra2 hw3 ra3 hq0 hp  _ hR hf (by first | omega | (intro h; omega) | exact Or.inl rfl | exact Or.inr rfl) (by first | omega | (intro h; omega) | exact Or.inl rfl | exact Or.inr rfl) (Nat.lt_succ_self _)
    · have d_69 := iNle c_66
      have l_70 : (3 : Int32).toInt = 3 := rfl
      have a_71 : (x4 * 3).toInt = x4.toInt * 3 := tMul rfl (by omega) (by omega)
      have a_72 : ((x4 * 3) + x5).toInt = (x4 * 3).toInt + x5.toInt := tAdd (by omega) (by omega)
      have l_73 : (2 : Int32).toInt = 2 := rfl
      have a_74 : (((x4 * 3) + x5) * 2).toInt = ((x4 * 3) + x5).toInt * 2 := tMul rfl (by omega) (by omega)
      refine ⟨tIn (by omega) (by omega), ?_⟩
      refine ⟨tIn (by omega) (by omega), fun I_75 e_76 => ?_⟩
      have hR_77 : RI R I_75 := hR.up ra 1 (by decide) (Or.inl rfl) e_76 (i_lo _) (i_hi _)
      have hf_78 : Fm (fun c => (o ≤ c ∧ c < o + 5)) I0 I_75 := hf.set (by first | rfl | omega | (dsimp only; omega)) e_76
      have t_79 : (I_75 x2 1).toInt = (I x2 1).toInt := by rw [← e_76, q_u_ne (sh_ne_a (hw2).1.2.2 (waRecords_0 (I := I0) (L := L0) hw).2.2)]
      have a_80 : (x4 * 3).toInt = x4.toInt * 3 := tMul rfl (by omega) (by omega)
      have a_81 : ((x4 * 3) + x5).toInt = (x4 * 3).toInt + x5.toInt := tAdd (by omega) (by omega)
      have a_82 : (((x4 * 3) + x5) * 2).toInt = ((x4 * 3) + x5).toInt * 2 := tMul rfl (by omega) (by omega)
      have l_83 : (1 : Int32).toInt = 1 := rfl
      have a_84 : ((((x4 * 3) + x5) * 2) + 1).toInt = (((x4 * 3) + x5) * 2).toInt + (1 : Int32).toInt := tAdd (by omega) (by omega)
      refine ⟨tIn (by omega) (by omega), ?_⟩
      refine ⟨tIn (by omega) (by omega), fun I_85 e_86 => ?_⟩
      have hR_87 : RI R I_85 := hR_77.up ra 1 (by decide) (Or.inl rfl) e_86 (i_lo _) (i_hi _)
      have hf_88 : Fm (fun c => (o ≤ c ∧ c < o + 5)) I0 I_85 := hf_78.set (by first | rfl | omega | (dsimp only; omega)) e_86
      have t_89 : (I_85 x2 1).toInt = (I_75 x2 1).toInt := by rw [← e_86, q_u_ne (sh_ne_a (hw2).1.2.2 (waRecords_0 (I := I0) (L := L0) hw).2.2)]
      have a_91 : (x5 + Int32.ofInt 1).toInt = x5.toInt + (1) := tIc (by omega) (by omega) (by decide) (by decide)
      generalize ez_90 : (x5 + Int32.ofInt 1) = z_90 at a_91 ⊢
      exact ih hR_87 hf_88 (by first | omega | (intro h; omega) | exact Or.inl rfl | exact Or.inr rfl) (by first | omega | (intro h; omega) | exact Or.inl rfl | exact Or.inr rfl) (by omega)
set_option maxHeartbeats 4000000 in
set_option maxRecDepth 20000 in
theorem y_Records_keepRealm {D : va_G} {cA : FieldType → ClassId} {b : Nat} {E : State → Prop} {R : qRg} {o n : Nat} {sh : Nat → qC} {Rf : Nat → Nat → Option Nat} {I0 : Nat → Nat → Int32} {L0 : Nat → Nat → Int64} {post : Option Value → qS → Prop} {x1 : Nat} {x2 : Nat} {x3 : Nat} {p4 : Int32} (hok : q_ok (qGG D cA b E)) (hw : WfRecords (qGG D cA b E) n sh Rf o) (ra : RARecords R o) (hw1 : WfRealm (qGG D cA b E) n sh Rf x1) (ra1 : RARealm R x1) (hw2 : WfLand (qGG D cA b E) n sh Rf x2) (ra2 : RALand R x2) (hw3 : WfPapers (qGG D cA b E) n sh Rf x3) (ra3 : RAPapers R x3) (hq0 : (0 : Int) ≤ p4.toInt ∧ p4.toInt ≤ 239) (hR : RI R I0) (hp : ∀ (I' : Nat → Nat → Int32) (L' : Nat → Nat → Int64), RI R I' → Fm (fun c => (o ≤ c ∧ c < o + 5)) I0 I' → post none (n, sh, Rf, I', L')) : Ev (qGG D cA b E) mRecords_keepRealm 2 (0, 0) 0 (lv_args 0 [.ref o, .ref x1, .ref x2, .ref x3, .int p4]) [] (n, sh, Rf, I0, L0) post := by
  have hf : Fm (fun c => (o ≤ c ∧ c < o + 5)) I0 I0 := Fm.rf
  refine sRecords_keepRealm_0 o n sh Rf I0 L0 post x1 x2 x3 p4 hok hw hw1 hw2 hw3 ?_
  unfold fRecords_keepRealm_0
  have l_92 : (0 : Int32).toInt = 0 := rfl
  exact yRecords_keepRealm_3 (I0 := I0) (L0 := L0) (p4 := p4) hok hw ra hw1 ra1 hw2 ra2 hw3 ra3 hq0 hp  _ hR hf (by first | omega | (intro h; omega) | exact Or.inl rfl | exact Or.inr rfl) (by first | omega | (intro h; omega) | exact Or.inl rfl | exact Or.inr rfl) (Nat.lt_succ_self _)
set_option maxHeartbeats 4000000 in
set_option maxRecDepth 20000 in
theorem y_Records_keepBook {D : va_G} {cA : FieldType → ClassId} {b : Nat} {E : State → Prop} {R : qRg} {o n : Nat} {sh : Nat → qC} {Rf : Nat → Nat → Option Nat} {I0 : Nat → Nat → Int32} {L0 : Nat → Nat → Int64} {post : Option Value → qS → Prop} {p1 : Int32} {p2 : Int32} {p3 : Int64} {p5 : Int32} {p6 : Int64} (hok : q_ok (qGG D cA b E)) (hw : WfRecords (qGG D cA b E) n sh Rf o) (ra : RARecords R o) (hq0 : (0 : Int) ≤ p1.toInt ∧ p1.toInt ≤ 5) (hq1 : (0 : Int) ≤ p2.toInt ∧ p2.toInt ≤ 239) (hR : RI R I0) (hp : ∀ (L' : Nat → Nat → Int64), post none (n, sh, Rf, I0, L')) : Ev (qGG D cA b E) mRecords_keepBook 0 (0, 0) 0 (lv_args 0 [.ref o, .int p1, .int p2, .long p3, .int p5, .long p6]) [] (n, sh, Rf, I0, L0) post := by
  refine sRecords_keepBook_0 o n sh Rf I0 L0 post p1 p2 p3 p5 p6 hok hw ?_
  unfold fRecords_keepBook_0
  have l_1 : (6 : Int32).toInt = 6 := rfl
  have a_2 : (p2 * 6).toInt = p2.toInt * 6 := tMul rfl (by omega) (by omega)
  have a_3 : ((p2 * 6) + p1).toInt = (p2 * 6).toInt + p1.toInt := tAdd (by omega) (by omega)
  have l_4 : (3 : Int32).toInt = 3 := rfl
  have a_5 : (((p2 * 6) + p1) * 3).toInt = ((p2 * 6) + p1).toInt * 3 := tMul rfl (by omega) (by omega)
  refine ⟨tIn (by omega) (by omega), fun L_6 e_7 => ?_⟩
  have l_8 : (1 : Int32).toInt = 1 := rfl
  have a_9 : ((((p2 * 6) + p1) * 3) + 1).toInt = (((p2 * 6) + p1) * 3).toInt + (1 : Int32).toInt := tAdd (by omega) (by omega)
  refine ⟨tIn (by omega) (by omega), fun L_10 e_11 => ?_⟩
  have l_12 : (2 : Int32).toInt = 2 := rfl
  have a_13 : ((((p2 * 6) + p1) * 3) + 2).toInt = (((p2 * 6) + p1) * 3).toInt + (2 : Int32).toInt := tAdd (by omega) (by omega)
  refine ⟨tIn (by omega) (by omega), fun L_14 e_15 => ?_⟩
  exact (hp _ )
