/-! Safety of the reference, what is asked: by program (spec.py). -/
/-- the sign at k -/
def sgF (B : Nat → Int32) (len k : Int32) : Int32 := if len ≤ k then 0 else B k.toNatClampNeg &&& 255
set_option maxHeartbeats 4000000 in
set_option maxRecDepth 20000 in
theorem y_Model_sign {D : va_G} {cA : FieldType → ClassId} {b : Nat} {E : State → Prop} {R : qRg} {o n : Nat} {sh : Nat → qC} {Rf : Nat → Nat → Option Nat} {I0 : Nat → Nat → Int32} {L0 : Nat → Nat → Int64} {post : Option Value → qS → Prop} {p1 : Int32} (hok : q_ok (qGG D cA b E)) (hw : WfModel (qGG D cA b E) n sh Rf o) (ra : RAModel R o) (hq0 : (0 : Int) ≤ p1.toInt ∧ p1.toInt ≤ 2000) (hR : RI R I0) (hp : ∀ (r : Int32) , (Im (r.toInt ≠ 0) (p1.toInt < (I0 o 3).toInt)) → (r = sgF (I0 (o + 2)) (I0 o 3) p1) → post (some (.int r)) (n, sh, Rf, I0, L0)) : Ev (qGG D cA b E) mModel_sign 0 (0, 0) 0 (lv_args 0 [.ref o, .int p1]) [] (n, sh, Rf, I0, L0) post := by
  refine sModel_sign_0 o n sh Rf I0 L0 post p1 hok hw ?_
  unfold fModel_sign_0
  have g_1 : (0 : Int) ≤ (I0 o 3).toInt ∧ (I0 o 3).toInt ≤ 1600 := hR.at0 ra 3 (by decide)
  refine ⟨fun c_2 => ?_, fun c_2 => ?_⟩
  · have d_3 := iLe c_2
    have l_4 : (0 : Int32).toInt = 0 := rfl
    exact (hp _ (by intro _; omega) (by simp [sgF, *]))
  · have d_5 := iNle c_2
    refine ⟨tIn (by omega) (by omega), ?_⟩
    exact (hp _ (by intro _; omega) (by simp [sgF, *]))
set_option maxHeartbeats 4000000 in
set_option maxRecDepth 20000 in
theorem y_Model_fault {D : va_G} {cA : FieldType → ClassId} {b : Nat} {E : State → Prop} {R : qRg} {o n : Nat} {sh : Nat → qC} {Rf : Nat → Nat → Option Nat} {I0 : Nat → Nat → Int32} {L0 : Nat → Nat → Int64} {post : Option Value → qS → Prop} {p1 : Int32} (hok : q_ok (qGG D cA b E)) (hw : WfModel (qGG D cA b E) n sh Rf o) (ra : RAModel R o) (hR : RI R I0) (hp : ∀ (r : Int32) , post (some (.int r)) (n, sh, Rf, I0, L0)) : Ev (qGG D cA b E) mModel_fault 0 (0, 0) 0 (lv_args 0 [.ref o, .int p1]) [] (n, sh, Rf, I0, L0) post := by
  refine sModel_fault_0 o n sh Rf I0 L0 post p1 hok hw ?_
  unfold fModel_fault_0
  have l_1 : (0 : Int32).toInt = 0 := rfl
  refine ⟨fun c_2 => ?_, fun c_2 => ?_⟩
  · have d_3 := iNe c_2
    have l_4 : (1 : Int32).toInt = 1 := rfl
    refine ⟨fun c_5 => ?_, fun c_5 => ?_⟩
    · have d_6 := iNe c_5
      have l_7 : (-1 : Int32).toInt = -1 := rfl
      exact (hp _ )
    · have d_8 := iEq c_5
      exact (hp _ )
  · have d_9 := iEq c_2
    have g_10 : (0 : Int) ≤ (I0 o 4).toInt ∧ (I0 o 4).toInt ≤ 5 := hR.at0 ra 4 (by decide)
    exact (hp _ )
set_option maxHeartbeats 4000000 in
set_option maxRecDepth 20000 in
theorem y_Model_days {D : va_G} {cA : FieldType → ClassId} {b : Nat} {E : State → Prop} {R : qRg} {o n : Nat} {sh : Nat → qC} {Rf : Nat → Nat → Option Nat} {I0 : Nat → Nat → Int32} {L0 : Nat → Nat → Int64} {post : Option Value → qS → Prop} {p1 : Int32} {p2 : Int32} (hok : q_ok (qGG D cA b E)) (hw : WfModel (qGG D cA b E) n sh Rf o) (ra : RAModel R o) (hR : RI R I0) (hp : ∀ (r : Int32) , post (some (.int r)) (n, sh, Rf, I0, L0)) : Ev (qGG D cA b E) mModel_days 1 (0, 0) 0 (lv_args 0 [.ref o, .int p1, .int p2]) [] (n, sh, Rf, I0, L0) post := by
  refine sModel_days_0 o n sh Rf I0 L0 post p1 p2 hok hw ?_
  unfold fModel_days_0
  refine y_Model_isPoint hok hR (fun r_1 u_2 u_3 => ⟨r_1, I0, L0, rfl, rfl, ?_⟩)
  have b_4 : 0 ≤ r_1.toInt ∧ r_1.toInt ≤ 1 := u_2.rg
  have l_5 : (0 : Int32).toInt = 0 := rfl
  refine ⟨fun c_6 => ?_, fun c_6 => ?_⟩
  · have d_7 := iEq c_6
    unfold fModel_days_31
    have l_8 : (-1 : Int32).toInt = -1 := rfl
    exact (hp _ )
  · have d_9 := iNe c_6
    have nz7 := u_3 (by omega)
    refine y_Model_isPoint hok hR (fun r_10 u_11 u_12 => ⟨r_10, I0, L0, rfl, rfl, ?_⟩)
    have b_13 : 0 ≤ r_10.toInt ∧ r_10.toInt ≤ 1 := u_11.rg
    refine ⟨fun c_14 => ?_, fun c_14 => ?_⟩
    · have d_15 := iEq c_14
      unfold fModel_days_31
      have l_16 : (-1 : Int32).toInt = -1 := rfl
      exact (hp _ )
    · have d_17 := iNe c_14
      have nz14 := u_12 (by omega)
      have l_18 : (16 : Int32).toInt = 16 := rfl
      have a_19 : (16 * p1).toInt = 16 * p1.toInt := tMulL rfl (by omega) (by omega)
      have a_20 : ((16 * p1) + p2).toInt = (16 * p1).toInt + p2.toInt := tAdd (by omega) (by omega)
      refine ⟨tIn (by omega) (by omega), ?_⟩
      have l_21 : (1000000 : Int32).toInt = 1000000 := rfl
      refine ⟨fun c_22 => ?_, fun c_22 => ?_⟩
      · have d_23 := iLt c_22
        have a_24 : (16 * p1).toInt = 16 * p1.toInt := tMulL rfl (by omega) (by omega)
        have a_25 : ((16 * p1) + p2).toInt = (16 * p1).toInt + p2.toInt := tAdd (by omega) (by omega)
        refine ⟨tIn (by omega) (by omega), ?_⟩
        exact (hp _ )
      · have d_26 := iNlt c_22
        unfold fModel_days_31
        have l_27 : (-1 : Int32).toInt = -1 := rfl
        exact (hp _ )
set_option maxHeartbeats 4000000 in
set_option maxRecDepth 20000 in
theorem y_Model_counts {D : va_G} {cA : FieldType → ClassId} {b : Nat} {E : State → Prop} {R : qRg} {o n : Nat} {sh : Nat → qC} {Rf : Nat → Nat → Option Nat} {I0 : Nat → Nat → Int32} {L0 : Nat → Nat → Int64} {post : Option Value → qS → Prop} {p1 : Int32} {p2 : Int32} (hok : q_ok (qGG D cA b E)) (hw : WfModel (qGG D cA b E) n sh Rf o) (ra : RAModel R o) (hq0 : (0 : Int) ≤ p1.toInt ∧ p1.toInt ≤ 39) (hR : RI R I0) (hp : ∀ (r : Int32) , (Bz r) → (Im (r.toInt ≠ 0) ((I0 (o + 36) p1.toNatClampNeg).toInt = p2.toInt)) → post (some (.int r)) (n, sh, Rf, I0, L0)) : Ev (qGG D cA b E) mModel_counts 0 (0, 0) 0 (lv_args 0 [.ref o, .int p1, .int p2]) [] (n, sh, Rf, I0, L0) post := by
  refine sModel_counts_0 o n sh Rf I0 L0 post p1 p2 hok hw ?_
  unfold fModel_counts_0
  refine ⟨tIn (by omega) (by omega), ?_⟩
  refine ⟨fun c_1 => ?_, fun c_1 => ?_⟩
  · have d_2 := iNe c_1
    have l_3 : (0 : Int32).toInt = 0 := rfl
    exact (hp _ (Or.inl rfl) (by intro _; omega))
  · have d_4 := iEq c_1
    refine ⟨tIn (by omega) (by omega), ?_⟩
    refine ⟨fun c_5 => ?_, fun c_5 => ?_⟩
    · have d_6 := iLt c_5
      have l_7 : (0 : Int32).toInt = 0 := rfl
      exact (hp _ (Or.inl rfl) (by intro _; omega))
    · have d_8 := iNlt c_5
      refine ⟨tIn (by omega) (by omega), ?_⟩
      have l_9 : (0 : Int32).toInt = 0 := rfl
      refine ⟨fun c_10 => ?_, fun c_10 => ?_⟩
      · have d_11 := iLt c_10
        unfold fModel_counts_45
        have l_12 : (1 : Int32).toInt = 1 := rfl
        exact (hp _ (Or.inr rfl) (by intro _; omega))
      · have d_13 := iNlt c_10
        refine ⟨tIn (by omega) (by omega), ?_⟩
        refine ⟨fun c_14 => ?_, fun c_14 => ?_⟩
        · have d_15 := iLe c_14
          exact (hp _ (Or.inl rfl) (by intro _; omega))
        · have d_16 := iNle c_14
          unfold fModel_counts_45
          have l_17 : (1 : Int32).toInt = 1 := rfl
          exact (hp _ (Or.inr rfl) (by intro _; omega))
set_option maxHeartbeats 4000000 in
set_option maxRecDepth 20000 in
theorem y_Model_waits {D : va_G} {cA : FieldType → ClassId} {b : Nat} {E : State → Prop} {R : qRg} {o n : Nat} {sh : Nat → qC} {Rf : Nat → Nat → Option Nat} {I0 : Nat → Nat → Int32} {L0 : Nat → Nat → Int64} {post : Option Value → qS → Prop} {p1 : Int32} (hok : q_ok (qGG D cA b E)) (hw : WfModel (qGG D cA b E) n sh Rf o) (ra : RAModel R o) (hq0 : (0 : Int) ≤ p1.toInt ∧ p1.toInt ≤ 1999) (hR : RI R I0) (hp : ∀ (r : Int32) , (Bz r) → post (some (.int r)) (n, sh, Rf, I0, L0)) : Ev (qGG D cA b E) mModel_waits 0 (0, 0) 0 (lv_args 0 [.ref o, .int p1]) [] (n, sh, Rf, I0, L0) post := by
  refine sModel_waits_0 o n sh Rf I0 L0 post p1 hok hw ?_
  unfold fModel_waits_0
  refine ⟨tIn (by omega) (by omega), ?_⟩
  have l_1 : (0 : Int32).toInt = 0 := rfl
  refine ⟨fun c_2 => ?_, fun c_2 => ?_⟩
  · have d_3 := iLe c_2
    exact (hp _ (Or.inl rfl))
  · have d_4 := iNle c_2
    refine ⟨tIn (by omega) (by omega), ?_⟩
    refine ⟨fun c_5 => ?_, fun c_5 => ?_⟩
    · have d_6 := iNe c_5
      exact (hp _ (Or.inl rfl))
    · have d_7 := iEq c_5
      have l_8 : (1 : Int32).toInt = 1 := rfl
      exact (hp _ (Or.inr rfl))
set_option maxHeartbeats 4000000 in
set_option maxRecDepth 20000 in
theorem y_Model_isDead {D : va_G} {cA : FieldType → ClassId} {b : Nat} {E : State → Prop} {R : qRg} {o n : Nat} {sh : Nat → qC} {Rf : Nat → Nat → Option Nat} {I0 : Nat → Nat → Int32} {L0 : Nat → Nat → Int64} {post : Option Value → qS → Prop} {p1 : Int32} (hok : q_ok (qGG D cA b E)) (hw : WfModel (qGG D cA b E) n sh Rf o) (ra : RAModel R o) (hq0 : (0 : Int) ≤ p1.toInt ∧ p1.toInt ≤ 5) (hR : RI R I0) (hp : ∀ (r : Int32) , (Bz r) → post (some (.int r)) (n, sh, Rf, I0, L0)) : Ev (qGG D cA b E) mModel_isDead 0 (0, 0) 0 (lv_args 0 [.ref o, .int p1]) [] (n, sh, Rf, I0, L0) post := by
  refine sModel_isDead_0 o n sh Rf I0 L0 post p1 hok hw ?_
  unfold fModel_isDead_0
  refine ⟨tIn (by omega) (by omega), ?_⟩
  have g_1 : (0 : Int) ≤ (I0 o 57).toInt ∧ (I0 o 57).toInt ≤ 240 := hR.at0 ra 57 (by decide)
  refine ⟨fun c_2 => ?_, fun c_2 => ?_⟩
  · have d_3 := iLt c_2
    have l_4 : (0 : Int32).toInt = 0 := rfl
    exact (hp _ (Or.inl rfl))
  · have d_5 := iNlt c_2
    have l_6 : (1 : Int32).toInt = 1 := rfl
    exact (hp _ (Or.inr rfl))
set_option maxHeartbeats 4000000 in
set_option maxRecDepth 20000 in
theorem yModel_waitingAt_4 {D : va_G} {cA : FieldType → ClassId} {b : Nat} {E : State → Prop} {R : qRg} {o n : Nat} {sh : Nat → qC} {Rf : Nat → Nat → Option Nat} {I0 : Nat → Nat → Int32} {L0 : Nat → Nat → Int64} {post : Option Value → qS → Prop} {p1 : Int32} (hok : q_ok (qGG D cA b E)) (hw : WfModel (qGG D cA b E) n sh Rf o) (ra : RAModel R o) (hR : RI R I0) (hp : ∀ (r : Int32) , post (some (.int r)) (n, sh, Rf, I0, L0)) : ∀ (k : Nat) {x1 : Int32} {x2 : Int32} {x3 : Int32} , ((0 : Int) ≤ x3.toInt ∧ x3.toInt ≤ 2000) → (2000 - x3.toInt).toNat < k → Ev (qGG D cA b E) mModel_waitingAt 1 (0, 0) 4 [(0, .ref o), (1, .int x1), (2, .int x2), (3, .int x3)] [] (n, sh, Rf, I0, L0) post := by
  intro k
  induction k with
  | zero =>
    intro x1 x2 x3 hi0 hm
    exact absurd hm (Nat.not_lt_zero _)
  | succ k ih =>
    intro x1 x2 x3 hi0 hm
    refine sModel_waitingAt_4 o n sh Rf I0 L0 post x1 x2 x3 hok hw ?_
    unfold fModel_waitingAt_4
    have g_1 : (0 : Int) ≤ (I0 o 104).toInt ∧ (I0 o 104).toInt ≤ 2000 := hR.at0 ra 104 (by decide)
    refine ⟨fun c_2 => ?_, fun c_2 => ?_⟩
    · have d_3 := iLe c_2
      exact (hp _ )
    · have d_4 := iNle c_2
      refine ⟨tIn (by omega) (by omega), ?_⟩
      refine ⟨fun c_5 => ?_, fun c_5 => ?_⟩
      · have d_6 := iNe c_5
        unfold fModel_waitingAt_39
        have a_8 : (x3 + Int32.ofInt 1).toInt = x3.toInt + (1) := tIc (by omega) (by omega) (by decide) (by decide)
        generalize ez_7 : (x3 + Int32.ofInt 1) = z_7 at a_8 ⊢
        exact ih (by first | omega | (intro h; omega) | exact Or.inl rfl | exact Or.inr rfl) (by omega)
      · have d_9 := iEq c_5
        refine y_Model_waits hok hw ra (by first | omega | (intro h; omega) | exact Or.inl rfl | exact Or.inr rfl) hR (fun r_10 u_11 => ⟨r_10, I0, L0, rfl, rfl, ?_⟩)
        have b_12 : 0 ≤ r_10.toInt ∧ r_10.toInt ≤ 1 := u_11.rg
        have l_13 : (0 : Int32).toInt = 0 := rfl
        refine ⟨fun c_14 => ?_, fun c_14 => ?_⟩
        · have d_15 := iEq c_14
          unfold fModel_waitingAt_39
          have a_17 : (x3 + Int32.ofInt 1).toInt = x3.toInt + (1) := tIc (by omega) (by omega) (by decide) (by decide)
          generalize ez_16 : (x3 + Int32.ofInt 1) = z_16 at a_17 ⊢
          exact ih (by first | omega | (intro h; omega) | exact Or.inl rfl | exact Or.inr rfl) (by omega)
        · have d_18 := iNe c_14
          refine ⟨tIn (by omega) (by omega), ?_⟩
          unfold fModel_waitingAt_39
          have a_20 : (x3 + Int32.ofInt 1).toInt = x3.toInt + (1) := tIc (by omega) (by omega) (by decide) (by decide)
          generalize ez_19 : (x3 + Int32.ofInt 1) = z_19 at a_20 ⊢
          exact ih (by first | omega | (intro h; omega) | exact Or.inl rfl | exact Or.inr rfl) (by omega)
set_option maxHeartbeats 4000000 in
set_option maxRecDepth 20000 in
theorem y_Model_waitingAt {D : va_G} {cA : FieldType → ClassId} {b : Nat} {E : State → Prop} {R : qRg} {o n : Nat} {sh : Nat → qC} {Rf : Nat → Nat → Option Nat} {I0 : Nat → Nat → Int32} {L0 : Nat → Nat → Int64} {post : Option Value → qS → Prop} {p1 : Int32} (hok : q_ok (qGG D cA b E)) (hw : WfModel (qGG D cA b E) n sh Rf o) (ra : RAModel R o) (hR : RI R I0) (hp : ∀ (r : Int32) , post (some (.int r)) (n, sh, Rf, I0, L0)) : Ev (qGG D cA b E) mModel_waitingAt 1 (0, 0) 0 (lv_args 0 [.ref o, .int p1]) [] (n, sh, Rf, I0, L0) post := by
  refine sModel_waitingAt_0 o n sh Rf I0 L0 post p1 hok hw ?_
  unfold fModel_waitingAt_0
  have l_21 : (0 : Int32).toInt = 0 := rfl
  exact yModel_waitingAt_4 (I0 := I0) (L0 := L0) (p1 := p1) hok hw ra hR hp  _ (by first | omega | (intro h; omega) | exact Or.inl rfl | exact Or.inr rfl) (Nat.lt_succ_self _)
set_option maxHeartbeats 4000000 in
set_option maxRecDepth 20000 in
theorem yModel_waitingAll_4 {D : va_G} {cA : FieldType → ClassId} {b : Nat} {E : State → Prop} {R : qRg} {o n : Nat} {sh : Nat → qC} {Rf : Nat → Nat → Option Nat} {I0 : Nat → Nat → Int32} {L0 : Nat → Nat → Int64} {post : Option Value → qS → Prop} (hok : q_ok (qGG D cA b E)) (hw : WfModel (qGG D cA b E) n sh Rf o) (ra : RAModel R o) (hR : RI R I0) (hp : ∀ (r : Int32) , post (some (.int r)) (n, sh, Rf, I0, L0)) : ∀ (k : Nat) {x1 : Int32} {x2 : Int32} , ((0 : Int) ≤ x2.toInt ∧ x2.toInt ≤ 3) → (3 - x2.toInt).toNat < k → Ev (qGG D cA b E) mModel_waitingAll 2 (0, 0) 4 [(0, .ref o), (1, .int x1), (2, .int x2)] [] (n, sh, Rf, I0, L0) post := by
  intro k
  induction k with
  | zero =>
    intro x1 x2 hi0 hm
    exact absurd hm (Nat.not_lt_zero _)
  | succ k ih =>
    intro x1 x2 hi0 hm
    refine sModel_waitingAll_4 o n sh Rf I0 L0 post x1 x2 hok hw ?_
    unfold fModel_waitingAll_4
    refine y_Model_pans hok hw ra hR (fun r_1 u_2 => ⟨r_1, I0, L0, rfl, rfl, ?_⟩)
    refine ⟨fun c_3 => ?_, fun c_3 => ?_⟩
    · have d_4 := iLe c_3
      exact (hp _ )
    · have d_5 := iNle c_3
      refine y_Model_waitingAt hok hw ra hR (fun r_6  => ⟨r_6, I0, L0, rfl, rfl, ?_⟩)
      have a_8 : (x2 + Int32.ofInt 1).toInt = x2.toInt + (1) := tIc (by omega) (by omega) (by decide) (by decide)
      generalize ez_7 : (x2 + Int32.ofInt 1) = z_7 at a_8 ⊢
      exact ih (by first | omega | (intro h; omega) | exact Or.inl rfl | exact Or.inr rfl) (by omega)
set_option maxHeartbeats 4000000 in
set_option maxRecDepth 20000 in
theorem y_Model_waitingAll {D : va_G} {cA : FieldType → ClassId} {b : Nat} {E : State → Prop} {R : qRg} {o n : Nat} {sh : Nat → qC} {Rf : Nat → Nat → Option Nat} {I0 : Nat → Nat → Int32} {L0 : Nat → Nat → Int64} {post : Option Value → qS → Prop} (hok : q_ok (qGG D cA b E)) (hw : WfModel (qGG D cA b E) n sh Rf o) (ra : RAModel R o) (hR : RI R I0) (hp : ∀ (r : Int32) , post (some (.int r)) (n, sh, Rf, I0, L0)) : Ev (qGG D cA b E) mModel_waitingAll 2 (0, 0) 0 (lv_args 0 [.ref o]) [] (n, sh, Rf, I0, L0) post := by
  refine sModel_waitingAll_0 o n sh Rf I0 L0 post  hok hw ?_
  unfold fModel_waitingAll_0
  have l_9 : (0 : Int32).toInt = 0 := rfl
  exact yModel_waitingAll_4 (I0 := I0) (L0 := L0) hok hw ra hR hp  _ (by first | omega | (intro h; omega) | exact Or.inl rfl | exact Or.inr rfl) (Nat.lt_succ_self _)
set_option maxHeartbeats 4000000 in
set_option maxRecDepth 20000 in
theorem yModel_madeAll_4 {D : va_G} {cA : FieldType → ClassId} {b : Nat} {E : State → Prop} {R : qRg} {o n : Nat} {sh : Nat → qC} {Rf : Nat → Nat → Option Nat} {I0 : Nat → Nat → Int32} {L0 : Nat → Nat → Int64} {post : Option Value → qS → Prop} (hok : q_ok (qGG D cA b E)) (hw : WfModel (qGG D cA b E) n sh Rf o) (ra : RAModel R o) (hR : RI R I0) (hp : ∀ (r : Int32) , post (some (.int r)) (n, sh, Rf, I0, L0)) : ∀ (k : Nat) {x1 : Int32} {x2 : Int32} , ((0 : Int) ≤ x2.toInt ∧ x2.toInt ≤ 3) → (3 - x2.toInt).toNat < k → Ev (qGG D cA b E) mModel_madeAll 1 (0, 0) 4 [(0, .ref o), (1, .int x1), (2, .int x2)] [] (n, sh, Rf, I0, L0) post := by
  intro k
  induction k with
  | zero =>
    intro x1 x2 hi0 hm
    exact absurd hm (Nat.not_lt_zero _)
  | succ k ih =>
    intro x1 x2 hi0 hm
    refine sModel_madeAll_4 o n sh Rf I0 L0 post x1 x2 hok hw ?_
    unfold fModel_madeAll_4
    refine y_Model_pans hok hw ra hR (fun r_1 u_2 => ⟨r_1, I0, L0, rfl, rfl, ?_⟩)
    refine ⟨fun c_3 => ?_, fun c_3 => ?_⟩
    · have d_4 := iLe c_3
      exact (hp _ )
    · have d_5 := iNle c_3
      refine ⟨tIn (by omega) (by omega), ?_⟩
      have a_7 : (x2 + Int32.ofInt 1).toInt = x2.toInt + (1) := tIc (by omega) (by omega) (by decide) (by decide)
      generalize ez_6 : (x2 + Int32.ofInt 1) = z_6 at a_7 ⊢
      exact ih (by first | omega | (intro h; omega) | exact Or.inl rfl | exact Or.inr rfl) (by omega)
set_option maxHeartbeats 4000000 in
set_option maxRecDepth 20000 in
theorem y_Model_madeAll {D : va_G} {cA : FieldType → ClassId} {b : Nat} {E : State → Prop} {R : qRg} {o n : Nat} {sh : Nat → qC} {Rf : Nat → Nat → Option Nat} {I0 : Nat → Nat → Int32} {L0 : Nat → Nat → Int64} {post : Option Value → qS → Prop} (hok : q_ok (qGG D cA b E)) (hw : WfModel (qGG D cA b E) n sh Rf o) (ra : RAModel R o) (hR : RI R I0) (hp : ∀ (r : Int32) , post (some (.int r)) (n, sh, Rf, I0, L0)) : Ev (qGG D cA b E) mModel_madeAll 1 (0, 0) 0 (lv_args 0 [.ref o]) [] (n, sh, Rf, I0, L0) post := by
  refine sModel_madeAll_0 o n sh Rf I0 L0 post  hok hw ?_
  unfold fModel_madeAll_0
  have l_8 : (0 : Int32).toInt = 0 := rfl
  exact yModel_madeAll_4 (I0 := I0) (L0 := L0) hok hw ra hR hp  _ (by first | omega | (intro h; omega) | exact Or.inl rfl | exact Or.inr rfl) (Nat.lt_succ_self _)
set_option maxHeartbeats 4000000 in
set_option maxRecDepth 20000 in
theorem yModel_waitMany_4 {D : va_G} {cA : FieldType → ClassId} {b : Nat} {E : State → Prop} {R : qRg} {o n : Nat} {sh : Nat → qC} {Rf : Nat → Nat → Option Nat} {I0 : Nat → Nat → Int32} {L0 : Nat → Nat → Int64} {post : Option Value → qS → Prop} (hok : q_ok (qGG D cA b E)) (hw : WfModel (qGG D cA b E) n sh Rf o) (ra : RAModel R o) (hR : RI R I0) (hp : ∀ (r : Int32) , post (some (.int r)) (n, sh, Rf, I0, L0)) : ∀ (k : Nat) {x1 : Int32} {x2 : Int32} , ((0 : Int) ≤ x2.toInt ∧ x2.toInt ≤ 2000) → (2000 - x2.toInt).toNat < k → Ev (qGG D cA b E) mModel_waitMany 1 (0, 0) 4 [(0, .ref o), (1, .int x1), (2, .int x2)] [] (n, sh, Rf, I0, L0) post := by
  intro k
  induction k with
  | zero =>
    intro x1 x2 hi0 hm
    exact absurd hm (Nat.not_lt_zero _)
  | succ k ih =>
    intro x1 x2 hi0 hm
    refine sModel_waitMany_4 o n sh Rf I0 L0 post x1 x2 hok hw ?_
    unfold fModel_waitMany_4
    have g_1 : (0 : Int) ≤ (I0 o 104).toInt ∧ (I0 o 104).toInt ≤ 2000 := hR.at0 ra 104 (by decide)
    refine ⟨fun c_2 => ?_, fun c_2 => ?_⟩
    · have d_3 := iLe c_2
      exact (hp _ )
    · have d_4 := iNle c_2
      refine y_Model_waits hok hw ra (by first | omega | (intro h; omega) | exact Or.inl rfl | exact Or.inr rfl) hR (fun r_5 u_6 => ⟨r_5, I0, L0, rfl, rfl, ?_⟩)
      have b_7 : 0 ≤ r_5.toInt ∧ r_5.toInt ≤ 1 := u_6.rg
      have l_8 : (0 : Int32).toInt = 0 := rfl
      refine ⟨fun c_9 => ?_, fun c_9 => ?_⟩
      · have d_10 := iEq c_9
        unfold fModel_waitMany_26
        have a_12 : (x2 + Int32.ofInt 1).toInt = x2.toInt + (1) := tIc (by omega) (by omega) (by decide) (by decide)
        generalize ez_11 : (x2 + Int32.ofInt 1) = z_11 at a_12 ⊢
        exact ih (by first | omega | (intro h; omega) | exact Or.inl rfl | exact Or.inr rfl) (by omega)
      · have d_13 := iNe c_9
        unfold fModel_waitMany_26
        have l_14 : (1 : Int32).toInt = 1 := rfl
        have a_16 : (x2 + Int32.ofInt 1).toInt = x2.toInt + (1) := tIc (by omega) (by omega) (by decide) (by decide)
        generalize ez_15 : (x2 + Int32.ofInt 1) = z_15 at a_16 ⊢
        exact ih (by first | omega | (intro h; omega) | exact Or.inl rfl | exact Or.inr rfl) (by omega)
set_option maxHeartbeats 4000000 in
set_option maxRecDepth 20000 in
theorem y_Model_waitMany {D : va_G} {cA : FieldType → ClassId} {b : Nat} {E : State → Prop} {R : qRg} {o n : Nat} {sh : Nat → qC} {Rf : Nat → Nat → Option Nat} {I0 : Nat → Nat → Int32} {L0 : Nat → Nat → Int64} {post : Option Value → qS → Prop} (hok : q_ok (qGG D cA b E)) (hw : WfModel (qGG D cA b E) n sh Rf o) (ra : RAModel R o) (hR : RI R I0) (hp : ∀ (r : Int32) , post (some (.int r)) (n, sh, Rf, I0, L0)) : Ev (qGG D cA b E) mModel_waitMany 1 (0, 0) 0 (lv_args 0 [.ref o]) [] (n, sh, Rf, I0, L0) post := by
  refine sModel_waitMany_0 o n sh Rf I0 L0 post  hok hw ?_
  unfold fModel_waitMany_0
  have l_17 : (0 : Int32).toInt = 0 := rfl
  exact yModel_waitMany_4 (I0 := I0) (L0 := L0) hok hw ra hR hp  _ (by first | omega | (intro h; omega) | exact Or.inl rfl | exact Or.inr rfl) (Nat.lt_succ_self _)
set_option maxHeartbeats 4000000 in
set_option maxRecDepth 20000 in
theorem y_Model_priceOf {D : va_G} {cA : FieldType → ClassId} {b : Nat} {E : State → Prop} {R : qRg} {o n : Nat} {sh : Nat → qC} {Rf : Nat → Nat → Option Nat} {I0 : Nat → Nat → Int32} {L0 : Nat → Nat → Int64} {post : Option Value → qS → Prop} {p1 : Int32} (hok : q_ok (qGG D cA b E)) (hw : WfModel (qGG D cA b E) n sh Rf o) (ra : RAModel R o) (hq0 : (0 : Int) ≤ p1.toInt ∧ p1.toInt ≤ 4) (hR : RI R I0) (hp : ∀ (r : Int32) , post (some (.int r)) (n, sh, Rf, I0, L0)) : Ev (qGG D cA b E) mModel_priceOf 0 (0, 0) 0 (lv_args 0 [.ref o, .int p1]) [] (n, sh, Rf, I0, L0) post := by
  refine sModel_priceOf_0 o n sh Rf I0 L0 post p1 hok hw ?_
  unfold fModel_priceOf_0
  have g_1 : (0 : Int) ≤ (I0 o 34).toInt ∧ (I0 o 34).toInt ≤ 1 := hR.at0 ra 34 (by decide)
  have l_2 : (5 : Int32).toInt = 5 := rfl
  have a_3 : (5 * (I0 o 34)).toInt = 5 * (I0 o 34).toInt := tMulL rfl (by omega) (by omega)
  have a_4 : ((5 * (I0 o 34)) + p1).toInt = (5 * (I0 o 34)).toInt + p1.toInt := tAdd (by omega) (by omega)
  refine ⟨tIn (by omega) (by omega), ?_⟩
  have g_5 : (0 : Int) ≤ (I0 o 34).toInt ∧ (I0 o 34).toInt ≤ 1 := hR.at0 ra 34 (by decide)
  have a_6 : (5 * (I0 o 34)).toInt = 5 * (I0 o 34).toInt := tMulL rfl (by omega) (by omega)
  have a_7 : ((5 * (I0 o 34)) + p1).toInt = (5 * (I0 o 34)).toInt + p1.toInt := tAdd (by omega) (by omega)
  refine ⟨tIn (by omega) (by omega), ?_⟩
  have l_8 : (0 : Int32).toInt = 0 := rfl
  refine ⟨fun c_9 => ?_, fun c_9 => ?_⟩
  · have d_10 := iNe c_9
    refine ⟨tIn (by omega) (by omega), ?_⟩
    refine ⟨(tL0 (by omega)), ?_⟩
    refine ⟨fun c_11 => ?_, fun c_11 => ?_⟩
    · have d_12 := iLe c_11
      exact (hp _ )
    · have d_13 := iNle c_11
      exact (hp _ )
  · have d_14 := iEq c_9
    exact (hp _ )
set_option maxHeartbeats 4000000 in
set_option maxRecDepth 20000 in
theorem yModel_aTwelfth_4 {D : va_G} {cA : FieldType → ClassId} {b : Nat} {E : State → Prop} {R : qRg} {o n : Nat} {sh : Nat → qC} {Rf : Nat → Nat → Option Nat} {I0 : Nat → Nat → Int32} {L0 : Nat → Nat → Int64} {post : Option Value → qS → Prop} {p1 : Int32} (hok : q_ok (qGG D cA b E)) (hw : WfModel (qGG D cA b E) n sh Rf o) (ra : RAModel R o) (hq0 : (0 : Int) ≤ p1.toInt ∧ p1.toInt ≤ 2) (hR : RI R I0) (hp : ∀ (r : Int32) , (1 ≤ r.toInt) → post (some (.int r)) (n, sh, Rf, I0, L0)) : ∀ (k : Nat) {x1 : Int32} {x2 : Int32} {x3 : Int32} , ((0 : Int) ≤ x3.toInt ∧ x3.toInt ≤ 12) → ((0 : Int) ≤ x1.toInt ∧ x1.toInt ≤ 2) → (12 - x3.toInt).toNat < k → Ev (qGG D cA b E) mModel_aTwelfth 1 (0, 0) 4 [(0, .ref o), (1, .int x1), (2, .int x2), (3, .int x3)] [] (n, sh, Rf, I0, L0) post := by
  intro k
  induction k with
  | zero =>
    intro x1 x2 x3 hi0 hi1 hm
    exact absurd hm (Nat.not_lt_zero _)
  | succ k ih =>
    intro x1 x2 x3 hi0 hi1 hm
    refine sModel_aTwelfth_4 o n sh Rf I0 L0 post x1 x2 x3 hok hw ?_
    unfold fModel_aTwelfth_4
    have l_1 : (12 : Int32).toInt = 12 := rfl
    refine ⟨fun c_2 => ?_, fun c_2 => ?_⟩
    · have d_3 := iLe c_2
      refine y_Model_atLeastOne hok hR (fun r_4 u_5 => ⟨r_4, I0, L0, rfl, rfl, ?_⟩)
      exact (hp _ (by first | omega | (intro h; omega) | exact Or.inl rfl | exact Or.inr rfl))
    · have d_6 := iNle c_2
      have g_7 : (0 : Int) ≤ (I0 o 34).toInt ∧ (I0 o 34).toInt ≤ 1 := hR.at0 ra 34 (by decide)
      have l_8 : (3 : Int32).toInt = 3 := rfl
      have a_9 : (3 * (I0 o 34)).toInt = 3 * (I0 o 34).toInt := tMulL rfl (by omega) (by omega)
      have a_10 : ((3 * (I0 o 34)) + x1).toInt = (3 * (I0 o 34)).toInt + x1.toInt := tAdd (by omega) (by omega)
      have a_11 : (12 * ((3 * (I0 o 34)) + x1)).toInt = 12 * ((3 * (I0 o 34)) + x1).toInt := tMulL rfl (by omega) (by omega)
      have a_12 : ((12 * ((3 * (I0 o 34)) + x1)) + x3).toInt = (12 * ((3 * (I0 o 34)) + x1)).toInt + x3.toInt := tAdd (by omega) (by omega)
      refine ⟨tIn (by omega) (by omega), ?_⟩
      have a_14 : (x3 + Int32.ofInt 1).toInt = x3.toInt + (1) := tIc (by omega) (by omega) (by decide) (by decide)
      generalize ez_13 : (x3 + Int32.ofInt 1) = z_13 at a_14 ⊢
      exact ih (by first | omega | (intro h; omega) | exact Or.inl rfl | exact Or.inr rfl) (by first | omega | (intro h; omega) | exact Or.inl rfl | exact Or.inr rfl) (by omega)
set_option maxHeartbeats 4000000 in
set_option maxRecDepth 20000 in
theorem y_Model_aTwelfth {D : va_G} {cA : FieldType → ClassId} {b : Nat} {E : State → Prop} {R : qRg} {o n : Nat} {sh : Nat → qC} {Rf : Nat → Nat → Option Nat} {I0 : Nat → Nat → Int32} {L0 : Nat → Nat → Int64} {post : Option Value → qS → Prop} {p1 : Int32} (hok : q_ok (qGG D cA b E)) (hw : WfModel (qGG D cA b E) n sh Rf o) (ra : RAModel R o) (hq0 : (0 : Int) ≤ p1.toInt ∧ p1.toInt ≤ 2) (hR : RI R I0) (hp : ∀ (r : Int32) , (1 ≤ r.toInt) → post (some (.int r)) (n, sh, Rf, I0, L0)) : Ev (qGG D cA b E) mModel_aTwelfth 1 (0, 0) 0 (lv_args 0 [.ref o, .int p1]) [] (n, sh, Rf, I0, L0) post := by
  refine sModel_aTwelfth_0 o n sh Rf I0 L0 post p1 hok hw ?_
  unfold fModel_aTwelfth_0
  have l_15 : (0 : Int32).toInt = 0 := rfl
  exact yModel_aTwelfth_4 (I0 := I0) (L0 := L0) (p1 := p1) hok hw ra hq0 hR hp  _ (by first | omega | (intro h; omega) | exact Or.inl rfl | exact Or.inr rfl) (by first | omega | (intro h; omega) | exact Or.inl rfl | exact Or.inr rfl) (Nat.lt_succ_self _)
set_option maxHeartbeats 4000000 in
set_option maxRecDepth 20000 in
theorem y_Model_affordable {D : va_G} {cA : FieldType → ClassId} {b : Nat} {E : State → Prop} {R : qRg} {o n : Nat} {sh : Nat → qC} {Rf : Nat → Nat → Option Nat} {I0 : Nat → Nat → Int32} {L0 : Nat → Nat → Int64} {post : Option Value → qS → Prop} {p1 : Int32} {p2 : Int64} {p4 : Int32} (hok : q_ok (qGG D cA b E)) (hw : WfModel (qGG D cA b E) n sh Rf o) (ra : RAModel R o) (hR : RI R I0) (hp : ∀ (r : Int32) , post (some (.int r)) (n, sh, Rf, I0, L0)) : Ev (qGG D cA b E) mModel_affordable 1 (0, 0) 0 (lv_args 0 [.ref o, .int p1, .long p2, .int p4]) [] (n, sh, Rf, I0, L0) post := by
  refine sModel_affordable_0 o n sh Rf I0 L0 post p1 p2 p4 hok hw ?_
  unfold fModel_affordable_0
  have l_1 : (0 : Int32).toInt = 0 := rfl
  refine ⟨fun c_2 => ?_, fun c_2 => ?_⟩
  · have d_3 := iNe c_2
    refine ⟨(tL0 (by omega)), ?_⟩
    refine y_Model_least hok hR (fun r_4  => ⟨r_4, I0, L0, rfl, rfl, ?_⟩)
    exact (hp _ )
  · have d_5 := iEq c_2
    exact (hp _ )
set_option maxHeartbeats 4000000 in
set_option maxRecDepth 20000 in
theorem y_Model_isRanMonth {D : va_G} {cA : FieldType → ClassId} {b : Nat} {E : State → Prop} {R : qRg} {o n : Nat} {sh : Nat → qC} {Rf : Nat → Nat → Option Nat} {I0 : Nat → Nat → Int32} {L0 : Nat → Nat → Int64} {post : Option Value → qS → Prop} {p1 : Int32} (hok : q_ok (qGG D cA b E)) (hw : WfModel (qGG D cA b E) n sh Rf o) (ra : RAModel R o) (hR : RI R I0) (hp : ∀ (r : Int32) , (Bz r) → (Im (r.toInt ≠ 0) (0 ≤ p1.toInt ∧ p1.toInt ≤ 239)) → post (some (.int r)) (n, sh, Rf, I0, L0)) : Ev (qGG D cA b E) mModel_isRanMonth 0 (0, 0) 0 (lv_args 0 [.ref o, .int p1]) [] (n, sh, Rf, I0, L0) post := by
  refine sModel_isRanMonth_0 o n sh Rf I0 L0 post p1 hok hw ?_
  unfold fModel_isRanMonth_0
  have l_1 : (0 : Int32).toInt = 0 := rfl
  refine ⟨fun c_2 => ?_, fun c_2 => ?_⟩
  · have d_3 := iEq c_2
    exact (hp _ (Or.inl rfl) (by intro _; omega))
  · have d_4 := iNe c_2
    refine ⟨fun c_5 => ?_, fun c_5 => ?_⟩
    · have d_6 := iLt c_5
      exact (hp _ (Or.inl rfl) (by intro _; omega))
    · have d_7 := iNlt c_5
      have g_8 : (0 : Int) ≤ (I0 o 136).toInt ∧ (I0 o 136).toInt ≤ 240 := hR.at0 ra 136 (by decide)
      refine ⟨fun c_9 => ?_, fun c_9 => ?_⟩
      · have d_10 := iLe c_9
        exact (hp _ (Or.inl rfl) (by intro _; omega))
      · have d_11 := iNle c_9
        have l_12 : (1 : Int32).toInt = 1 := rfl
        exact (hp _ (Or.inr rfl) (by intro _; omega))
def wModel_merchant : Nat → Bool := fun j => Nat.beq j 76 || Nat.beq j 145 || false
set_option maxHeartbeats 4000000 in
set_option maxRecDepth 20000 in
theorem yc_Model_merchant {D : va_G} {cA : FieldType → ClassId} {b : Nat} {E : State → Prop} {R : qRg} {o n : Nat} {sh : Nat → qC} {Rf : Nat → Nat → Option Nat} {I0 : Nat → Nat → Int32} {L0 : Nat → Nat → Int64} {post : Option Value → qS → Prop} {p1 : Int32} (hok : q_ok (qGG D cA b E)) (hw : WfModel (qGG D cA b E) n sh Rf o) (ra : RAModel R o) (hz76 : R.2 76 = true) (hz145 : R.2 145 = true) (hZ : Fz R I0 o wModel_merchant) (hR0 : RI R I0) (hR : RI R I0) (hp : ∀ (r : Int32) (I' : Nat → Nat → Int32) (L' : Nat → Nat → Int64), RI R I' → Fm (fun c => c = o ∨ c = o + 35) I0 I' → post (some (.int r)) (n, sh, Rf, I', L')) : Ev (qGG D cA b E) mModel_merchant 0 (0, 0) 0 (lv_args 0 [.ref o, .int p1]) [] (n, sh, Rf, I0, L0) post := by
  have hf : Fm (fun c => c = o ∨ c = o + 35) I0 I0 := Fm.rf
  refine sModel_merchant_0 o n sh Rf I0 L0 post p1 hok hw ?_
  unfold fModel_merchant_0
  have l_1 : (0 : Int32).toInt = 0 := rfl
  refine ⟨fun c_2 => ?_, fun c_2 => ?_⟩
  · have d_3 := iLt c_2
    have l_4 : (-1 : Int32).toInt = -1 := rfl
    exact (hp _ _ _ hR hf )
  · have d_5 := iNlt c_2
    have l_6 : (30000 : Int32).toInt = 30000 := rfl
    refine ⟨fun c_7 => ?_, fun c_7 => ?_⟩
    · have d_8 := iLt c_7
      have l_9 : (-1 : Int32).toInt = -1 := rfl
      exact (hp _ _ _ hR hf )
    · have d_10 := iNlt c_7
      have g_11 : (0 : Int) ≤ (I0 o 66).toInt ∧ (I0 o 66).toInt ≤ 6 := hR.at0 ra 66 (by decide)
      have l_12 : (6 : Int32).toInt = 6 := rfl
      refine ⟨fun c_13 => ?_, fun c_13 => ?_⟩
      · have d_14 := iNe c_13
        refine fun I_15 e_16 => ?_
        have hR_17 : RI R I_15 := hR.up0 (k := 135) ra (by decide) (Or.inr hz145) e_16 (i_lo _) (i_hi _)
        have hf_18 : Fm (fun c => c = o ∨ c = o + 35) I0 I_15 := hf.set (by first | rfl | omega | (dsimp only; omega)) e_16
        have t_19 : (I_15 o 66).toInt = (I0 o 66).toInt := by rw [← e_16, q_u_k (by decide)]
        have g_20 : (0 : Int) ≤ (I_15 o 66).toInt ∧ (I_15 o 66).toInt ≤ 6 := hR_17.at0 ra 66 (by decide)
        refine ⟨tIn (by omega) (by omega), fun I_21 e_22 => ?_⟩
        have hR_23 : RI R I_21 := hR_17.up ra 35 (by decide) (Or.inl rfl) e_22 (i_lo _) (i_hi _)
        have hf_24 : Fm (fun c => c = o ∨ c = o + 35) I0 I_21 := hf_18.set (by first | rfl | omega | (dsimp only; omega)) e_22
        have t_25 : (I_21 o 66).toInt = (I_15 o 66).toInt := by rw [← e_22, q_u_ne (by omega)]
        have g_26 : (0 : Int) ≤ (I_21 o 66).toInt ∧ (I_21 o 66).toInt ≤ 6 := hR_23.at0 ra 66 (by decide)
        have l_27 : (1 : Int32).toInt = 1 := rfl
        have a_28 : ((I_21 o 66) + 1).toInt = (I_21 o 66).toInt + (1 : Int32).toInt := tAdd (by omega) (by omega)
        refine fun I_29 e_30 => ?_
        have hR_31 : RI R I_29 := hR_23.up0 (k := 66) ra (by decide) (Or.inr hz76) e_30 (show (0 : Int) ≤ ((I_21 o 66) + 1).toInt by omega) (show ((I_21 o 66) + 1).toInt ≤ (6 : Int) by omega)
        have hf_32 : Fm (fun c => c = o ∨ c = o + 35) I0 I_29 := hf_24.set (by first | rfl | omega | (dsimp only; omega)) e_30
        have t_33 : (I_29 o 66).toInt = ((I_21 o 66) + 1).toInt := by rw [← e_30, q_u_at]
        have g_34 : (0 : Int) ≤ (I_29 o 66).toInt ∧ (I_29 o 66).toInt ≤ 6 := hR_31.at0 ra 66 (by decide)
        have a_35 : ((I_29 o 66) - 1).toInt = (I_29 o 66).toInt - (1 : Int32).toInt := tSub (by omega) (by omega)
        exact (hp _ _ _ hR_31 hf_32 )
      · have d_36 := iEq c_13
        have l_37 : (-1 : Int32).toInt = -1 := rfl
        exact (hp _ _ _ hR hf )
theorem y_Model_merchant {D : va_G} {cA : FieldType → ClassId} {b : Nat} {E : State → Prop} {R : qRg} {o n : Nat} {sh : Nat → qC} {Rf : Nat → Nat → Option Nat} {I0 : Nat → Nat → Int32} {L0 : Nat → Nat → Int64} {post : Option Value → qS → Prop} {p1 : Int32} (hok : q_ok (qGG D cA b E)) (hw : WfModel (qGG D cA b E) n sh Rf o) (ra : RAModel R o) (hz76 : R.2 76 = true) (hz145 : R.2 145 = true) (hR : RI R I0) (hp : ∀ (r : Int32) (I' : Nat → Nat → Int32) (L' : Nat → Nat → Int64), RI R I' → Fm (fun c => c = o ∨ c = o + 35) I0 I' → Kp wModel_merchant I0 I' o → post (some (.int r)) (n, sh, Rf, I', L')) : Ev (qGG D cA b E) mModel_merchant 0 (0, 0) 0 (lv_args 0 [.ref o, .int p1]) [] (n, sh, Rf, I0, L0) post :=
  yc_Model_merchant (R := fzR R I0 o wModel_merchant) hok hw (fzA ra hR _) (fzT hz76 rfl) (fzT hz145 rfl) fzZ (fzI hR) (fzI hR) (fun r I' L' h1 h2  => hp r I' L' (fzB hR h1) h2 (fzP h1) )
def wModel_costs : Nat → Bool := fun j => Nat.beq j 79 || Nat.beq j 80 || Nat.beq j 81 || Nat.beq j 82 || Nat.beq j 83 || Nat.beq j 145 || false
set_option maxHeartbeats 4000000 in
set_option maxRecDepth 20000 in
theorem yc_Model_costs {D : va_G} {cA : FieldType → ClassId} {b : Nat} {E : State → Prop} {R : qRg} {o n : Nat} {sh : Nat → qC} {Rf : Nat → Nat → Option Nat} {I0 : Nat → Nat → Int32} {L0 : Nat → Nat → Int64} {post : Option Value → qS → Prop} {p1 : Int32} {p2 : Int32} {p3 : Int32} {p4 : Int32} {p5 : Int32} (hok : q_ok (qGG D cA b E)) (hw : WfModel (qGG D cA b E) n sh Rf o) (ra : RAModel R o) (hz79 : R.2 79 = true) (hz80 : R.2 80 = true) (hz81 : R.2 81 = true) (hz82 : R.2 82 = true) (hz83 : R.2 83 = true) (hz145 : R.2 145 = true) (hZ : Fz R I0 o wModel_costs) (hR0 : RI R I0) (hR : RI R I0) (hp : ∀ (r : Int32) (I' : Nat → Nat → Int32) (L' : Nat → Nat → Int64), RI R I' → Fm (fun c => c = o) I0 I' → (Bz r) → (r = aCosts p1 p2 p3 p4 p5) → post (some (.int r)) (n, sh, Rf, I', L')) : Ev (qGG D cA b E) mModel_costs 1 (0, 0) 0 (lv_args 0 [.ref o, .int p1, .int p2, .int p3, .int p4, .int p5]) [] (n, sh, Rf, I0, L0) post := by
  have hf : Fm (fun c => c = o) I0 I0 := Fm.rf
  refine sModel_costs_0 o n sh Rf I0 L0 post p1 p2 p3 p4 p5 hok hw ?_
  unfold fModel_costs_0
  have l_1 : (0 : Int32).toInt = 0 := rfl
  have l_2 : (99 : Int32).toInt = 99 := rfl
  refine y_Model_isIn hok hR (fun r_3 u_4 u_5 u_6 => ⟨r_3, I0, L0, rfl, rfl, ?_⟩)
  have b_7 : 0 ≤ r_3.toInt ∧ r_3.toInt ≤ 1 := u_4.rg
  refine ⟨fun c_8 => ?_, fun c_8 => ?_⟩
  · have d_9 := iEq c_8
    exact (hp _ _ _ hR hf (Or.inl rfl) (by subst_vars; simp_all [aCosts]))
  · have d_10 := iNe c_8
    have l_11 : (1 : Int32).toInt = 1 := rfl
    have l_12 : (50 : Int32).toInt = 50 := rfl
    refine y_Model_isIn hok hR (fun r_13 u_14 u_15 u_16 => ⟨r_13, I0, L0, rfl, rfl, ?_⟩)
    have b_17 : 0 ≤ r_13.toInt ∧ r_13.toInt ≤ 1 := u_14.rg
    refine ⟨fun c_18 => ?_, fun c_18 => ?_⟩
    · have d_19 := iEq c_18
      exact (hp _ _ _ hR hf (Or.inl rfl) (by subst_vars; simp_all [aCosts]))
    · have d_20 := iNe c_18
      refine y_Model_isIn hok hR (fun r_21 u_22 u_23 u_24 => ⟨r_21, I0, L0, rfl, rfl, ?_⟩)
      have b_25 : 0 ≤ r_21.toInt ∧ r_21.toInt ≤ 1 := u_22.rg
      refine ⟨fun c_26 => ?_, fun c_26 => ?_⟩
      · have d_27 := iEq c_26
        exact (hp _ _ _ hR hf (Or.inl rfl) (by subst_vars; simp_all [aCosts]))
      · have d_28 := iNe c_26
        have l_29 : (9999 : Int32).toInt = 9999 := rfl
        refine y_Model_isIn hok hR (fun r_30 u_31 u_32 u_33 => ⟨r_30, I0, L0, rfl, rfl, ?_⟩)
        have b_34 : 0 ≤ r_30.toInt ∧ r_30.toInt ≤ 1 := u_31.rg
        refine ⟨fun c_35 => ?_, fun c_35 => ?_⟩
        · have d_36 := iEq c_35
          exact (hp _ _ _ hR hf (Or.inl rfl) (by subst_vars; simp_all [aCosts]))
        · have d_37 := iNe c_35
          have l_38 : (999 : Int32).toInt = 999 := rfl
          refine y_Model_isIn hok hR (fun r_39 u_40 u_41 u_42 => ⟨r_39, I0, L0, rfl, rfl, ?_⟩)
          have b_43 : 0 ≤ r_39.toInt ∧ r_39.toInt ≤ 1 := u_40.rg
          refine ⟨fun c_44 => ?_, fun c_44 => ?_⟩
          · have d_45 := iNe c_44
            refine fun I_46 e_47 => ?_
            have hR_48 : RI R I_46 := hR.up0 (k := 135) ra (by decide) (Or.inr hz145) e_47 (i_lo _) (i_hi _)
            have hf_49 : Fm (fun c => c = o) I0 I_46 := hf.set (by first | rfl | omega | (dsimp only; omega)) e_47
            refine fun I_50 e_51 => ?_
            have hR_52 : RI R I_50 := hR_48.up0 (k := 69) ra (by decide) (Or.inr hz79) e_51 (i_lo _) (i_hi _)
            have hf_53 : Fm (fun c => c = o) I0 I_50 := hf_49.set (by first | rfl | omega | (dsimp only; omega)) e_51
            refine fun I_54 e_55 => ?_
            have hR_56 : RI R I_54 := hR_52.up0 (k := 70) ra (by decide) (Or.inr hz80) e_55 (i_lo _) (i_hi _)
            have hf_57 : Fm (fun c => c = o) I0 I_54 := hf_53.set (by first | rfl | omega | (dsimp only; omega)) e_55
            refine fun I_58 e_59 => ?_
            have hR_60 : RI R I_58 := hR_56.up0 (k := 71) ra (by decide) (Or.inr hz81) e_59 (i_lo _) (i_hi _)
            have hf_61 : Fm (fun c => c = o) I0 I_58 := hf_57.set (by first | rfl | omega | (dsimp only; omega)) e_59
            refine fun I_62 e_63 => ?_
            have hR_64 : RI R I_62 := hR_60.up0 (k := 72) ra (by decide) (Or.inr hz82) e_63 (i_lo _) (i_hi _)
            have hf_65 : Fm (fun c => c = o) I0 I_62 := hf_61.set (by first | rfl | omega | (dsimp only; omega)) e_63
            refine fun I_66 e_67 => ?_
            have hR_68 : RI R I_66 := hR_64.up0 (k := 73) ra (by decide) (Or.inr hz83) e_67 (i_lo _) (i_hi _)
            have hf_69 : Fm (fun c => c = o) I0 I_66 := hf_65.set (by first | rfl | omega | (dsimp only; omega)) e_67
            exact (hp _ _ _ hR_68 hf_69 (Or.inr rfl) (by subst_vars; simp_all [aCosts]))
          · have d_70 := iEq c_44
            exact (hp _ _ _ hR hf (Or.inl rfl) (by subst_vars; simp_all [aCosts]))
theorem y_Model_costs {D : va_G} {cA : FieldType → ClassId} {b : Nat} {E : State → Prop} {R : qRg} {o n : Nat} {sh : Nat → qC} {Rf : Nat → Nat → Option Nat} {I0 : Nat → Nat → Int32} {L0 : Nat → Nat → Int64} {post : Option Value → qS → Prop} {p1 : Int32} {p2 : Int32} {p3 : Int32} {p4 : Int32} {p5 : Int32} (hok : q_ok (qGG D cA b E)) (hw : WfModel (qGG D cA b E) n sh Rf o) (ra : RAModel R o) (hz79 : R.2 79 = true) (hz80 : R.2 80 = true) (hz81 : R.2 81 = true) (hz82 : R.2 82 = true) (hz83 : R.2 83 = true) (hz145 : R.2 145 = true) (hR : RI R I0) (hp : ∀ (r : Int32) (I' : Nat → Nat → Int32) (L' : Nat → Nat → Int64), RI R I' → Fm (fun c => c = o) I0 I' → Kp wModel_costs I0 I' o → (Bz r) → (r = aCosts p1 p2 p3 p4 p5) → post (some (.int r)) (n, sh, Rf, I', L')) : Ev (qGG D cA b E) mModel_costs 1 (0, 0) 0 (lv_args 0 [.ref o, .int p1, .int p2, .int p3, .int p4, .int p5]) [] (n, sh, Rf, I0, L0) post :=
  yc_Model_costs (R := fzR R I0 o wModel_costs) hok hw (fzA ra hR _) (fzT hz79 rfl) (fzT hz80 rfl) (fzT hz81 rfl) (fzT hz82 rfl) (fzT hz83 rfl) (fzT hz145 rfl) fzZ (fzI hR) (fzI hR) (fun r I' L' h1 h2 u0 u1 => hp r I' L' (fzB hR h1) h2 (fzP h1) u0 u1)
def wModel_untell : Nat → Bool := fun j => false
set_option maxHeartbeats 4000000 in
set_option maxRecDepth 20000 in
theorem yc_Model_untell {D : va_G} {cA : FieldType → ClassId} {b : Nat} {E : State → Prop} {R : qRg} {o n : Nat} {sh : Nat → qC} {Rf : Nat → Nat → Option Nat} {I0 : Nat → Nat → Int32} {L0 : Nat → Nat → Int64} {post : Option Value → qS → Prop} {p1 : Int32} (hok : q_ok (qGG D cA b E)) (hw : WfModel (qGG D cA b E) n sh Rf o) (ra : RAModel R o) (hZ : Fz R I0 o wModel_untell) (hR0 : RI R I0) (hR : RI R I0) (hp : ∀ (r : Int32) (I' : Nat → Nat → Int32) (L' : Nat → Nat → Int64), RI R I' → Fm (fun c => c = o + 41) I0 I' → (Bz r) → post (some (.int r)) (n, sh, Rf, I', L')) : Ev (qGG D cA b E) mModel_untell 0 (0, 0) 0 (lv_args 0 [.ref o, .int p1]) [] (n, sh, Rf, I0, L0) post := by
  have hf : Fm (fun c => c = o + 41) I0 I0 := Fm.rf
  refine sModel_untell_0 o n sh Rf I0 L0 post p1 hok hw ?_
  unfold fModel_untell_0
  have l_1 : (0 : Int32).toInt = 0 := rfl
  refine ⟨fun c_2 => ?_, fun c_2 => ?_⟩
  · have d_3 := iLt c_2
    exact (hp _ _ _ hR hf (Or.inl rfl))
  · have d_4 := iNlt c_2
    have g_5 : (0 : Int) ≤ (I0 o 67).toInt ∧ (I0 o 67).toInt ≤ 40 := hR.at0 ra 67 (by decide)
    refine ⟨fun c_6 => ?_, fun c_6 => ?_⟩
    · have d_7 := iLe c_6
      exact (hp _ _ _ hR hf (Or.inl rfl))
    · have d_8 := iNle c_6
      refine ⟨tIn (by omega) (by omega), ?_⟩
      refine ⟨fun c_9 => ?_, fun c_9 => ?_⟩
      · have d_10 := iLt c_9
        have g_11 : (0 : Int) ≤ (I0 o 68).toInt ∧ (I0 o 68).toInt ≤ 100000 := hR.at0 ra 68 (by decide)
        refine ⟨tIn (by omega) (by omega), fun I_12 e_13 => ?_⟩
        have hR_14 : RI R I_12 := hR.up ra 41 (by decide) (Or.inl rfl) e_13 (i_lo _) (i_hi _)
        have hf_15 : Fm (fun c => c = o + 41) I0 I_12 := hf.set (by first | rfl | omega | (dsimp only; omega)) e_13
        have t_16 : (I_12 o 67).toInt = (I0 o 67).toInt := by rw [← e_13, q_u_ne (by omega)]
        have t_17 : (I_12 o 68).toInt = (I0 o 68).toInt := by rw [← e_13, q_u_ne (by omega)]
        have l_18 : (1 : Int32).toInt = 1 := rfl
        exact (hp _ _ _ hR_14 hf_15 (Or.inr rfl))
      · have d_19 := iNlt c_9
        exact (hp _ _ _ hR hf (Or.inl rfl))
theorem y_Model_untell {D : va_G} {cA : FieldType → ClassId} {b : Nat} {E : State → Prop} {R : qRg} {o n : Nat} {sh : Nat → qC} {Rf : Nat → Nat → Option Nat} {I0 : Nat → Nat → Int32} {L0 : Nat → Nat → Int64} {post : Option Value → qS → Prop} {p1 : Int32} (hok : q_ok (qGG D cA b E)) (hw : WfModel (qGG D cA b E) n sh Rf o) (ra : RAModel R o) (hR : RI R I0) (hp : ∀ (r : Int32) (I' : Nat → Nat → Int32) (L' : Nat → Nat → Int64), RI R I' → Fm (fun c => c = o + 41) I0 I' → Kp wModel_untell I0 I' o → (Bz r) → post (some (.int r)) (n, sh, Rf, I', L')) : Ev (qGG D cA b E) mModel_untell 0 (0, 0) 0 (lv_args 0 [.ref o, .int p1]) [] (n, sh, Rf, I0, L0) post :=
  yc_Model_untell (R := fzR R I0 o wModel_untell) hok hw (fzA ra hR _) fzZ (fzI hR) (fzI hR) (fun r I' L' h1 h2 u0 => hp r I' L' (fzB hR h1) h2 (fzP h1) u0)
def wModel_later : Nat → Bool := fun j => Nat.beq j 78 || false
set_option maxHeartbeats 4000000 in
set_option maxRecDepth 20000 in
theorem yc_Model_later {D : va_G} {cA : FieldType → ClassId} {b : Nat} {E : State → Prop} {R : qRg} {o n : Nat} {sh : Nat → qC} {Rf : Nat → Nat → Option Nat} {I0 : Nat → Nat → Int32} {L0 : Nat → Nat → Int64} {post : Option Value → qS → Prop} {p1 : Int32} (hok : q_ok (qGG D cA b E)) (hw : WfModel (qGG D cA b E) n sh Rf o) (ra : RAModel R o) (hz78 : R.2 78 = true) (hZ : Fz R I0 o wModel_later) (hR0 : RI R I0) (hR : RI R I0) (hp : ∀ (r : Int32) (I' : Nat → Nat → Int32) (L' : Nat → Nat → Int64), RI R I' → Fm (fun c => c = o) I0 I' → post (some (.int r)) (n, sh, Rf, I', L')) : Ev (qGG D cA b E) mModel_later 0 (0, 0) 0 (lv_args 0 [.ref o, .int p1]) [] (n, sh, Rf, I0, L0) post := by
  have hf : Fm (fun c => c = o) I0 I0 := Fm.rf
  refine sModel_later_0 o n sh Rf I0 L0 post p1 hok hw ?_
  unfold fModel_later_0
  have l_1 : (0 : Int32).toInt = 0 := rfl
  refine ⟨fun c_2 => ?_, fun c_2 => ?_⟩
  · have d_3 := iLt c_2
    have l_4 : (-1 : Int32).toInt = -1 := rfl
    exact (hp _ _ _ hR hf )
  · have d_5 := iNlt c_2
    have l_6 : (1000 : Int32).toInt = 1000 := rfl
    refine ⟨fun c_7 => ?_, fun c_7 => ?_⟩
    · have d_8 := iLt c_7
      have l_9 : (-1 : Int32).toInt = -1 := rfl
      exact (hp _ _ _ hR hf )
    · have d_10 := iNlt c_7
      have g_11 : (0 : Int) ≤ (I0 o 68).toInt ∧ (I0 o 68).toInt ≤ 100000 := hR.at0 ra 68 (by decide)
      have a_12 : ((I0 o 68) + p1).toInt = (I0 o 68).toInt + p1.toInt := tAdd (by omega) (by omega)
      have l_13 : (100000 : Int32).toInt = 100000 := rfl
      refine ⟨fun c_14 => ?_, fun c_14 => ?_⟩
      · have d_15 := iLe c_14
        have g_16 : (0 : Int) ≤ (I0 o 68).toInt ∧ (I0 o 68).toInt ≤ 100000 := hR.at0 ra 68 (by decide)
        have a_17 : ((I0 o 68) + p1).toInt = (I0 o 68).toInt + p1.toInt := tAdd (by omega) (by omega)
        refine fun I_18 e_19 => ?_
        have hR_20 : RI R I_18 := hR.up0 (k := 68) ra (by decide) (Or.inr hz78) e_19 (show (0 : Int) ≤ ((I0 o 68) + p1).toInt by omega) (show ((I0 o 68) + p1).toInt ≤ (100000 : Int) by omega)
        have hf_21 : Fm (fun c => c = o) I0 I_18 := hf.set (by first | rfl | omega | (dsimp only; omega)) e_19
        have t_22 : (I_18 o 68).toInt = ((I0 o 68) + p1).toInt := by rw [← e_19, q_u_at]
        have g_23 : (0 : Int) ≤ (I_18 o 68).toInt ∧ (I_18 o 68).toInt ≤ 100000 := hR_20.at0 ra 68 (by decide)
        exact (hp _ _ _ hR_20 hf_21 )
      · have d_24 := iNle c_14
        have l_25 : (-1 : Int32).toInt = -1 := rfl
        exact (hp _ _ _ hR hf )
theorem y_Model_later {D : va_G} {cA : FieldType → ClassId} {b : Nat} {E : State → Prop} {R : qRg} {o n : Nat} {sh : Nat → qC} {Rf : Nat → Nat → Option Nat} {I0 : Nat → Nat → Int32} {L0 : Nat → Nat → Int64} {post : Option Value → qS → Prop} {p1 : Int32} (hok : q_ok (qGG D cA b E)) (hw : WfModel (qGG D cA b E) n sh Rf o) (ra : RAModel R o) (hz78 : R.2 78 = true) (hR : RI R I0) (hp : ∀ (r : Int32) (I' : Nat → Nat → Int32) (L' : Nat → Nat → Int64), RI R I' → Fm (fun c => c = o) I0 I' → Kp wModel_later I0 I' o → post (some (.int r)) (n, sh, Rf, I', L')) : Ev (qGG D cA b E) mModel_later 0 (0, 0) 0 (lv_args 0 [.ref o, .int p1]) [] (n, sh, Rf, I0, L0) post :=
  yc_Model_later (R := fzR R I0 o wModel_later) hok hw (fzA ra hR _) (fzT hz78 rfl) fzZ (fzI hR) (fzI hR) (fun r I' L' h1 h2  => hp r I' L' (fzB hR h1) h2 (fzP h1) )
set_option maxHeartbeats 4000000 in
set_option maxRecDepth 20000 in
theorem y_Model_fort {D : va_G} {cA : FieldType → ClassId} {b : Nat} {E : State → Prop} {R : qRg} {o n : Nat} {sh : Nat → qC} {Rf : Nat → Nat → Option Nat} {I0 : Nat → Nat → Int32} {L0 : Nat → Nat → Int64} {post : Option Value → qS → Prop} {p1 : Int32} {p2 : Int32} {p3 : Int32} (hok : q_ok (qGG D cA b E)) (hw : WfModel (qGG D cA b E) n sh Rf o) (ra : RAModel R o) (hR : RI R I0) (hp : ∀ (r : Int32) , post (some (.int r)) (n, sh, Rf, I0, L0)) : Ev (qGG D cA b E) mModel_fort 1 (0, 0) 0 (lv_args 0 [.ref o, .int p1, .int p2, .int p3]) [] (n, sh, Rf, I0, L0) post := by
  refine sModel_fort_0 o n sh Rf I0 L0 post p1 p2 p3 hok hw ?_
  unfold fModel_fort_0
  refine y_Model_forts hok hw ra hR (fun r_1 u_2 => ⟨r_1, I0, L0, rfl, rfl, ?_⟩)
  have l_3 : (1 : Int32).toInt = 1 := rfl
  have a_4 : (r_1 - 1).toInt = r_1.toInt - (1 : Int32).toInt := tSub (by omega) (by omega)
  have l_5 : (0 : Int32).toInt = 0 := rfl
  refine y_Model_isIn hok hR (fun r_6 u_7 u_8 u_9 => ⟨r_6, I0, L0, rfl, rfl, ?_⟩)
  have b_10 : 0 ≤ r_6.toInt ∧ r_6.toInt ≤ 1 := u_7.rg
  refine ⟨fun c_11 => ?_, fun c_11 => ?_⟩
  · have d_12 := iEq c_11
    unfold fModel_fort_31
    have l_13 : (-1 : Int32).toInt = -1 := rfl
    exact (hp _ )
  · have d_14 := iNe c_11
    have nz14 := u_8 (by omega)
    refine y_Model_isRanMonth hok hw ra hR (fun r_15 u_16 u_17 => ⟨r_15, I0, L0, rfl, rfl, ?_⟩)
    have b_18 : 0 ≤ r_15.toInt ∧ r_15.toInt ≤ 1 := u_16.rg
    refine ⟨fun c_19 => ?_, fun c_19 => ?_⟩
    · have d_20 := iEq c_19
      unfold fModel_fort_31
      have l_21 : (-1 : Int32).toInt = -1 := rfl
      exact (hp _ )
    · have d_22 := iNe c_19
      have nz22 := u_17 (by omega)
      refine y_Model_isIn hok hR (fun r_23 u_24 u_25 u_26 => ⟨r_23, I0, L0, rfl, rfl, ?_⟩)
      have b_27 : 0 ≤ r_23.toInt ∧ r_23.toInt ≤ 1 := u_24.rg
      refine ⟨fun c_28 => ?_, fun c_28 => ?_⟩
      · have d_29 := iNe c_28
        have nz35 := u_25 (by omega)
        have l_30 : (6 : Int32).toInt = 6 := rfl
        have a_31 : (6 * p2).toInt = 6 * p2.toInt := tMulL rfl (by omega) (by omega)
        have l_32 : (2 : Int32).toInt = 2 := rfl
        have a_33 : (2 * p1).toInt = 2 * p1.toInt := tMulL rfl (by omega) (by omega)
        have a_34 : ((6 * p2) + (2 * p1)).toInt = (6 * p2).toInt + (2 * p1).toInt := tAdd (by omega) (by omega)
        have a_35 : (((6 * p2) + (2 * p1)) + p3).toInt = ((6 * p2) + (2 * p1)).toInt + p3.toInt := tAdd (by omega) (by omega)
        refine ⟨tIn (by omega) (by omega), ?_⟩
        exact (hp _ )
      · have d_36 := iEq c_28
        unfold fModel_fort_31
        have l_37 : (-1 : Int32).toInt = -1 := rfl
        exact (hp _ )
set_option maxHeartbeats 4000000 in
set_option maxRecDepth 20000 in
theorem y_Model_pan {D : va_G} {cA : FieldType → ClassId} {b : Nat} {E : State → Prop} {R : qRg} {o n : Nat} {sh : Nat → qC} {Rf : Nat → Nat → Option Nat} {I0 : Nat → Nat → Int32} {L0 : Nat → Nat → Int64} {post : Option Value → qS → Prop} {p1 : Int32} {p2 : Int32} {p3 : Int32} (hok : q_ok (qGG D cA b E)) (hw : WfModel (qGG D cA b E) n sh Rf o) (ra : RAModel R o) (hR : RI R I0) (hp : ∀ (r : Int32) , post (some (.int r)) (n, sh, Rf, I0, L0)) : Ev (qGG D cA b E) mModel_pan 1 (0, 0) 0 (lv_args 0 [.ref o, .int p1, .int p2, .int p3]) [] (n, sh, Rf, I0, L0) post := by
  refine sModel_pan_0 o n sh Rf I0 L0 post p1 p2 p3 hok hw ?_
  unfold fModel_pan_0
  refine y_Model_pans hok hw ra hR (fun r_1 u_2 => ⟨r_1, I0, L0, rfl, rfl, ?_⟩)
  have l_3 : (1 : Int32).toInt = 1 := rfl
  have a_4 : (r_1 - 1).toInt = r_1.toInt - (1 : Int32).toInt := tSub (by omega) (by omega)
  have l_5 : (0 : Int32).toInt = 0 := rfl
  refine y_Model_isIn hok hR (fun r_6 u_7 u_8 u_9 => ⟨r_6, I0, L0, rfl, rfl, ?_⟩)
  have b_10 : 0 ≤ r_6.toInt ∧ r_6.toInt ≤ 1 := u_7.rg
  refine ⟨fun c_11 => ?_, fun c_11 => ?_⟩
  · have d_12 := iEq c_11
    unfold fModel_pan_31
    have l_13 : (-1 : Int32).toInt = -1 := rfl
    exact (hp _ )
  · have d_14 := iNe c_11
    have nz14 := u_8 (by omega)
    refine y_Model_isRanMonth hok hw ra hR (fun r_15 u_16 u_17 => ⟨r_15, I0, L0, rfl, rfl, ?_⟩)
    have b_18 : 0 ≤ r_15.toInt ∧ r_15.toInt ≤ 1 := u_16.rg
    refine ⟨fun c_19 => ?_, fun c_19 => ?_⟩
    · have d_20 := iEq c_19
      unfold fModel_pan_31
      have l_21 : (-1 : Int32).toInt = -1 := rfl
      exact (hp _ )
    · have d_22 := iNe c_19
      have nz22 := u_17 (by omega)
      refine y_Model_isIn hok hR (fun r_23 u_24 u_25 u_26 => ⟨r_23, I0, L0, rfl, rfl, ?_⟩)
      have b_27 : 0 ≤ r_23.toInt ∧ r_23.toInt ≤ 1 := u_24.rg
      refine ⟨fun c_28 => ?_, fun c_28 => ?_⟩
      · have d_29 := iNe c_28
        have nz35 := u_25 (by omega)
        have l_30 : (6 : Int32).toInt = 6 := rfl
        have a_31 : (6 * p2).toInt = 6 * p2.toInt := tMulL rfl (by omega) (by omega)
        have l_32 : (2 : Int32).toInt = 2 := rfl
        have a_33 : (2 * p1).toInt = 2 * p1.toInt := tMulL rfl (by omega) (by omega)
        have a_34 : ((6 * p2) + (2 * p1)).toInt = (6 * p2).toInt + (2 * p1).toInt := tAdd (by omega) (by omega)
        have a_35 : (((6 * p2) + (2 * p1)) + p3).toInt = ((6 * p2) + (2 * p1)).toInt + p3.toInt := tAdd (by omega) (by omega)
        refine ⟨tIn (by omega) (by omega), ?_⟩
        exact (hp _ )
      · have d_36 := iEq c_28
        unfold fModel_pan_31
        have l_37 : (-1 : Int32).toInt = -1 := rfl
        exact (hp _ )
set_option maxHeartbeats 4000000 in
set_option maxRecDepth 20000 in
theorem y_Model_town {D : va_G} {cA : FieldType → ClassId} {b : Nat} {E : State → Prop} {R : qRg} {o n : Nat} {sh : Nat → qC} {Rf : Nat → Nat → Option Nat} {I0 : Nat → Nat → Int32} {L0 : Nat → Nat → Int64} {post : Option Value → qS → Prop} {p1 : Int32} {p2 : Int32} {p3 : Int32} (hok : q_ok (qGG D cA b E)) (hw : WfModel (qGG D cA b E) n sh Rf o) (ra : RAModel R o) (hR : RI R I0) (hp : ∀ (r : Int32) , post (some (.int r)) (n, sh, Rf, I0, L0)) : Ev (qGG D cA b E) mModel_town 1 (0, 0) 0 (lv_args 0 [.ref o, .int p1, .int p2, .int p3]) [] (n, sh, Rf, I0, L0) post := by
  refine sModel_town_0 o n sh Rf I0 L0 post p1 p2 p3 hok hw ?_
  unfold fModel_town_0
  refine y_Model_towns hok hw ra hR (fun r_1 u_2 => ⟨r_1, I0, L0, rfl, rfl, ?_⟩)
  have l_3 : (1 : Int32).toInt = 1 := rfl
  have a_4 : (r_1 - 1).toInt = r_1.toInt - (1 : Int32).toInt := tSub (by omega) (by omega)
  have l_5 : (0 : Int32).toInt = 0 := rfl
  refine y_Model_isIn hok hR (fun r_6 u_7 u_8 u_9 => ⟨r_6, I0, L0, rfl, rfl, ?_⟩)
  have b_10 : 0 ≤ r_6.toInt ∧ r_6.toInt ≤ 1 := u_7.rg
  refine ⟨fun c_11 => ?_, fun c_11 => ?_⟩
  · have d_12 := iEq c_11
    unfold fModel_town_31
    have l_13 : (-1 : Int32).toInt = -1 := rfl
    exact (hp _ )
  · have d_14 := iNe c_11
    have nz14 := u_8 (by omega)
    refine y_Model_isRanMonth hok hw ra hR (fun r_15 u_16 u_17 => ⟨r_15, I0, L0, rfl, rfl, ?_⟩)
    have b_18 : 0 ≤ r_15.toInt ∧ r_15.toInt ≤ 1 := u_16.rg
    refine ⟨fun c_19 => ?_, fun c_19 => ?_⟩
    · have d_20 := iEq c_19
      unfold fModel_town_31
      have l_21 : (-1 : Int32).toInt = -1 := rfl
      exact (hp _ )
    · have d_22 := iNe c_19
      have nz22 := u_17 (by omega)
      have l_23 : (2 : Int32).toInt = 2 := rfl
      refine y_Model_isIn hok hR (fun r_24 u_25 u_26 u_27 => ⟨r_24, I0, L0, rfl, rfl, ?_⟩)
      have b_28 : 0 ≤ r_24.toInt ∧ r_24.toInt ≤ 1 := u_25.rg
      refine ⟨fun c_29 => ?_, fun c_29 => ?_⟩
      · have d_30 := iNe c_29
        have nz35 := u_26 (by omega)
        have l_31 : (15 : Int32).toInt = 15 := rfl
        have a_32 : (15 * p2).toInt = 15 * p2.toInt := tMulL rfl (by omega) (by omega)
        have l_33 : (3 : Int32).toInt = 3 := rfl
        have a_34 : (3 * p1).toInt = 3 * p1.toInt := tMulL rfl (by omega) (by omega)
        have a_35 : ((15 * p2) + (3 * p1)).toInt = (15 * p2).toInt + (3 * p1).toInt := tAdd (by omega) (by omega)
        have a_36 : (((15 * p2) + (3 * p1)) + p3).toInt = ((15 * p2) + (3 * p1)).toInt + p3.toInt := tAdd (by omega) (by omega)
        refine ⟨tIn (by omega) (by omega), ?_⟩
        exact (hp _ )
      · have d_37 := iEq c_29
        unfold fModel_town_31
        have l_38 : (-1 : Int32).toInt = -1 := rfl
        exact (hp _ )
set_option maxHeartbeats 4000000 in
set_option maxRecDepth 20000 in
theorem y_Model_book {D : va_G} {cA : FieldType → ClassId} {b : Nat} {E : State → Prop} {R : qRg} {o n : Nat} {sh : Nat → qC} {Rf : Nat → Nat → Option Nat} {I0 : Nat → Nat → Int32} {L0 : Nat → Nat → Int64} {post : Option Value → qS → Prop} {p1 : Int32} {p2 : Int32} {p3 : Int32} (hok : q_ok (qGG D cA b E)) (hw : WfModel (qGG D cA b E) n sh Rf o) (ra : RAModel R o) (hR : RI R I0) (hp : ∀ (r : Int64) , post (some (.long r)) (n, sh, Rf, I0, L0)) : Ev (qGG D cA b E) mModel_book 1 (0, 0) 0 (lv_args 0 [.ref o, .int p1, .int p2, .int p3]) [] (n, sh, Rf, I0, L0) post := by
  refine sModel_book_0 o n sh Rf I0 L0 post p1 p2 p3 hok hw ?_
  unfold fModel_book_0
  refine y_Model_isRanMonth hok hw ra hR (fun r_1 u_2 u_3 => ⟨r_1, I0, L0, rfl, rfl, ?_⟩)
  have b_4 : 0 ≤ r_1.toInt ∧ r_1.toInt ≤ 1 := u_2.rg
  have l_5 : (0 : Int32).toInt = 0 := rfl
  refine ⟨fun c_6 => ?_, fun c_6 => ?_⟩
  · have d_7 := iEq c_6
    exact (hp _ )
  · have d_8 := iNe c_6
    have nz8 := u_3 (by omega)
    have g_9 : (0 : Int) ≤ (I0 o 137).toInt ∧ (I0 o 137).toInt ≤ 6 := hR.at0 ra 137 (by decide)
    have l_10 : (1 : Int32).toInt = 1 := rfl
    have a_11 : ((I0 o 137) - 1).toInt = (I0 o 137).toInt - (1 : Int32).toInt := tSub (by omega) (by omega)
    refine y_Model_isIn hok hR (fun r_12 u_13 u_14 u_15 => ⟨r_12, I0, L0, rfl, rfl, ?_⟩)
    have b_16 : 0 ≤ r_12.toInt ∧ r_12.toInt ≤ 1 := u_13.rg
    refine ⟨fun c_17 => ?_, fun c_17 => ?_⟩
    · have d_18 := iNe c_17
      have nz26 := u_14 (by omega)
      refine ⟨fun c_19 => ?_, fun c_19 => ?_⟩
      · have d_20 := iNe c_19
        refine ⟨fun c_21 => ?_, fun c_21 => ?_⟩
        · have d_22 := iNe c_21
          have l_23 : (2 : Int32).toInt = 2 := rfl
          refine ⟨fun c_24 => ?_, fun c_24 => ?_⟩
          · have d_25 := iNe c_24
            exact (hp _ )
          · have d_26 := iEq c_24
            have l_27 : (6 : Int32).toInt = 6 := rfl
            have a_28 : (6 * p2).toInt = 6 * p2.toInt := tMulL rfl (by omega) (by omega)
            have a_29 : ((6 * p2) + p1).toInt = (6 * p2).toInt + p1.toInt := tAdd (by omega) (by omega)
            refine ⟨tIn (by omega) (by omega), ?_⟩
            exact (hp _ )
        · have d_30 := iEq c_21
          have l_31 : (6 : Int32).toInt = 6 := rfl
          have a_32 : (6 * p2).toInt = 6 * p2.toInt := tMulL rfl (by omega) (by omega)
          have a_33 : ((6 * p2) + p1).toInt = (6 * p2).toInt + p1.toInt := tAdd (by omega) (by omega)
          refine ⟨tIn (by omega) (by omega), ?_⟩
          exact (hp _ )
      · have d_34 := iEq c_19
        have l_35 : (6 : Int32).toInt = 6 := rfl
        have a_36 : (6 * p2).toInt = 6 * p2.toInt := tMulL rfl (by omega) (by omega)
        have a_37 : ((6 * p2) + p1).toInt = (6 * p2).toInt + p1.toInt := tAdd (by omega) (by omega)
        refine ⟨tIn (by omega) (by omega), ?_⟩
        exact (hp _ )
    · have d_38 := iEq c_17
      exact (hp _ )
set_option maxHeartbeats 4000000 in
set_option maxRecDepth 20000 in
theorem y_Model_ran {D : va_G} {cA : FieldType → ClassId} {b : Nat} {E : State → Prop} {R : qRg} {o n : Nat} {sh : Nat → qC} {Rf : Nat → Nat → Option Nat} {I0 : Nat → Nat → Int32} {L0 : Nat → Nat → Int64} {post : Option Value → qS → Prop} {p1 : Int32} (hok : q_ok (qGG D cA b E)) (hw : WfModel (qGG D cA b E) n sh Rf o) (ra : RAModel R o) (hR : RI R I0) (hp : ∀ (r : Int64) , post (some (.long r)) (n, sh, Rf, I0, L0)) : Ev (qGG D cA b E) mModel_ran 3 (0, 0) 0 (lv_args 0 [.ref o, .int p1]) [] (n, sh, Rf, I0, L0) post := by
  refine sModel_ran_0 o n sh Rf I0 L0 post p1 hok hw ?_
  unfold fModel_ran_0
  have l_1 : (0 : Int32).toInt = 0 := rfl
  refine ⟨fun c_2 => ?_, fun c_2 => ?_⟩
  · have d_3 := iNe c_2
    refine ⟨fun c_4 => ?_, fun c_4 => ?_⟩
    · have d_5 := iEq c_4
      exact (hp _ )
    have d_6 := iNe c_4
    have l_8 : (1 : Int32).toInt = 1 := rfl
    refine ⟨fun c_7 => ?_, fun c_7 => ?_⟩
    · have d_9 := iEq c_7
      exact (hp _ )
    have d_10 := iNe c_7
    have l_12 : (2 : Int32).toInt = 2 := rfl
    refine ⟨fun c_11 => ?_, fun c_11 => ?_⟩
    · have d_13 := iEq c_11
      exact (hp _ )
    have d_14 := iNe c_11
    have l_16 : (3 : Int32).toInt = 3 := rfl
    refine ⟨fun c_15 => ?_, fun c_15 => ?_⟩
    · have d_17 := iEq c_15
      exact (hp _ )
    have d_18 := iNe c_15
    have l_20 : (4 : Int32).toInt = 4 := rfl
    refine ⟨fun c_19 => ?_, fun c_19 => ?_⟩
    · have d_21 := iEq c_19
      exact (hp _ )
    have d_22 := iNe c_19
    have l_24 : (5 : Int32).toInt = 5 := rfl
    refine ⟨fun c_23 => ?_, fun c_23 => ?_⟩
    · have d_25 := iEq c_23
      exact (hp _ )
    have d_26 := iNe c_23
    have l_28 : (6 : Int32).toInt = 6 := rfl
    refine ⟨fun c_27 => ?_, fun c_27 => ?_⟩
    · have d_29 := iEq c_27
      refine y_Model_waitMany hok hw ra hR (fun r_30  => ⟨r_30, I0, L0, rfl, rfl, ?_⟩)
      exact (hp _ )
    have d_31 := iNe c_27
    have l_33 : (7 : Int32).toInt = 7 := rfl
    refine ⟨fun c_32 => ?_, fun c_32 => ?_⟩
    · have d_34 := iEq c_32
      refine y_Model_waitingAll hok hw ra hR (fun r_35  => ⟨r_35, I0, L0, rfl, rfl, ?_⟩)
      exact (hp _ )
    have d_36 := iNe c_32
    have l_38 : (8 : Int32).toInt = 8 := rfl
    refine ⟨fun c_37 => ?_, fun c_37 => ?_⟩
    · have d_39 := iEq c_37
      exact (hp _ )
    have d_40 := iNe c_37
    have l_42 : (9 : Int32).toInt = 9 := rfl
    refine ⟨fun c_41 => ?_, fun c_41 => ?_⟩
    · have d_43 := iEq c_41
      exact (hp _ )
    have d_44 := iNe c_41
    have l_46 : (10 : Int32).toInt = 10 := rfl
    refine ⟨fun c_45 => ?_, fun c_45 => ?_⟩
    · have d_47 := iEq c_45
      have g_48 : (0 : Int) ≤ (I0 o 136).toInt ∧ (I0 o 136).toInt ≤ 240 := hR.at0 ra 136 (by decide)
      exact (hp _ )
    have d_49 := iNe c_45
    exact (hp _ )
  · have d_50 := iEq c_2
    exact (hp _ )
set_option maxHeartbeats 4000000 in
set_option maxRecDepth 20000 in
theorem y_Model_about {D : va_G} {cA : FieldType → ClassId} {b : Nat} {E : State → Prop} {R : qRg} {o n : Nat} {sh : Nat → qC} {Rf : Nat → Nat → Option Nat} {I0 : Nat → Nat → Int32} {L0 : Nat → Nat → Int64} {post : Option Value → qS → Prop} {p1 : Int32} (hok : q_ok (qGG D cA b E)) (hw : WfModel (qGG D cA b E) n sh Rf o) (ra : RAModel R o) (hR : RI R I0) (hp : ∀ (r : Int32) , post (some (.int r)) (n, sh, Rf, I0, L0)) : Ev (qGG D cA b E) mModel_about 1 (0, 0) 0 (lv_args 0 [.ref o, .int p1]) [] (n, sh, Rf, I0, L0) post := by
  refine sModel_about_0 o n sh Rf I0 L0 post p1 hok hw ?_
  unfold fModel_about_0
  have l_2 : (0 : Int32).toInt = 0 := rfl
  refine ⟨fun c_1 => ?_, fun c_1 => ?_⟩
  · have d_3 := iEq c_1
    refine y_Model_forts hok hw ra hR (fun r_4 u_5 => ⟨r_4, I0, L0, rfl, rfl, ?_⟩)
    exact (hp _ )
  have d_6 := iNe c_1
  have l_8 : (1 : Int32).toInt = 1 := rfl
  refine ⟨fun c_7 => ?_, fun c_7 => ?_⟩
  · have d_9 := iEq c_7
    refine y_Model_pans hok hw ra hR (fun r_10 u_11 => ⟨r_10, I0, L0, rfl, rfl, ?_⟩)
    exact (hp _ )
  have d_12 := iNe c_7
  have l_14 : (2 : Int32).toInt = 2 := rfl
  refine ⟨fun c_13 => ?_, fun c_13 => ?_⟩
  · have d_15 := iEq c_13
    refine y_Model_towns hok hw ra hR (fun r_16 u_17 => ⟨r_16, I0, L0, rfl, rfl, ?_⟩)
    exact (hp _ )
  have d_18 := iNe c_13
  have l_20 : (3 : Int32).toInt = 3 := rfl
  refine ⟨fun c_19 => ?_, fun c_19 => ?_⟩
  · have d_21 := iEq c_19
    have g_22 : (0 : Int) ≤ (I0 o 34).toInt ∧ (I0 o 34).toInt ≤ 1 := hR.at0 ra 34 (by decide)
    refine ⟨tIn (by omega) (by omega), ?_⟩
    have g_23 : (0 : Int) ≤ (I0 (o + 6) ((I0 o 34) : Int32).toNatClampNeg).toInt ∧ (I0 (o + 6) ((I0 o 34) : Int32).toNatClampNeg).toInt ≤ 24 := hR.at ra 6 _ (by decide)
    exact (hp _ )
  have d_24 := iNe c_19
  have l_26 : (4 : Int32).toInt = 4 := rfl
  refine ⟨fun c_25 => ?_, fun c_25 => ?_⟩
  · have d_27 := iEq c_25
    have g_28 : (0 : Int) ≤ (I0 o 66).toInt ∧ (I0 o 66).toInt ≤ 6 := hR.at0 ra 66 (by decide)
    exact (hp _ )
  have d_29 := iNe c_25
  have l_31 : (5 : Int32).toInt = 5 := rfl
  refine ⟨fun c_30 => ?_, fun c_30 => ?_⟩
  · have d_32 := iEq c_30
    have g_33 : (0 : Int) ≤ (I0 o 67).toInt ∧ (I0 o 67).toInt ≤ 40 := hR.at0 ra 67 (by decide)
    exact (hp _ )
  have d_34 := iNe c_30
  have l_36 : (6 : Int32).toInt = 6 := rfl
  refine ⟨fun c_35 => ?_, fun c_35 => ?_⟩
  · have d_37 := iEq c_35
    have g_38 : (0 : Int) ≤ (I0 o 68).toInt ∧ (I0 o 68).toInt ≤ 100000 := hR.at0 ra 68 (by decide)
    exact (hp _ )
  have d_39 := iNe c_35
  have l_41 : (7 : Int32).toInt = 7 := rfl
  refine ⟨fun c_40 => ?_, fun c_40 => ?_⟩
  · have d_42 := iEq c_40
    have g_43 : (0 : Int) ≤ (I0 o 2).toInt ∧ (I0 o 2).toInt ≤ 1600 := hR.at0 ra 2 (by decide)
    exact (hp _ )
  have d_44 := iNe c_40
  have l_45 : (10 : Int32).toInt = 10 := rfl
  refine ⟨fun c_46 => ?_, fun c_46 => ?_⟩
  · have d_47 := iLt c_46
    have l_48 : (-1 : Int32).toInt = -1 := rfl
    exact (hp _ )
  · have d_49 := iNlt c_46
    have l_50 : (14 : Int32).toInt = 14 := rfl
    refine ⟨fun c_51 => ?_, fun c_51 => ?_⟩
    · have d_52 := iLe c_51
      have l_53 : (-1 : Int32).toInt = -1 := rfl
      exact (hp _ )
    · have d_54 := iNle c_51
      have a_55 : (p1 - 10).toInt = p1.toInt - (10 : Int32).toInt := tSub (by omega) (by omega)
      refine ⟨tIn (by omega) (by omega), ?_⟩
      exact (hp _ )
def wModel_end : Nat → Bool := fun j => Nat.beq j 12 || false
set_option maxHeartbeats 4000000 in
set_option maxRecDepth 20000 in
theorem yc_Model_end {D : va_G} {cA : FieldType → ClassId} {b : Nat} {E : State → Prop} {R : qRg} {o n : Nat} {sh : Nat → qC} {Rf : Nat → Nat → Option Nat} {I0 : Nat → Nat → Int32} {L0 : Nat → Nat → Int64} {post : Option Value → qS → Prop} {p1 : Int32} (hok : q_ok (qGG D cA b E)) (hw : WfModel (qGG D cA b E) n sh Rf o) (ra : RAModel R o) (hz12 : R.2 12 = true) (hZ : Fz R I0 o wModel_end) (hR0 : RI R I0) (hR : RI R I0) (hp : ∀ (r : Int32) (I' : Nat → Nat → Int32) (L' : Nat → Nat → Int64), RI R I' → Fm (fun c => c = o) I0 I' → post (some (.int r)) (n, sh, Rf, I', L')) : Ev (qGG D cA b E) mModel_end 0 (0, 0) 0 (lv_args 0 [.ref o, .int p1]) [] (n, sh, Rf, I0, L0) post := by
  have hf : Fm (fun c => c = o) I0 I0 := Fm.rf
  refine sModel_end_0 o n sh Rf I0 L0 post p1 hok hw ?_
  unfold fModel_end_0
  have l_1 : (0 : Int32).toInt = 0 := rfl
  refine ⟨fun c_2 => ?_, fun c_2 => ?_⟩
  · have d_3 := iLt c_2
    have l_4 : (-1 : Int32).toInt = -1 := rfl
    exact (hp _ _ _ hR hf )
  · have d_5 := iNlt c_2
    have g_6 : (0 : Int) ≤ (I0 o 2).toInt ∧ (I0 o 2).toInt ≤ 1600 := hR.at0 ra 2 (by decide)
    refine ⟨fun c_7 => ?_, fun c_7 => ?_⟩
    · have d_8 := iLe c_7
      refine fun I_9 e_10 => ?_
      have hR_11 : RI R I_9 := hR.up0 (k := 2) ra (by decide) (Or.inr hz12) e_10 (show (0 : Int) ≤ p1.toInt by omega) (show p1.toInt ≤ (1600 : Int) by omega)
      have hf_12 : Fm (fun c => c = o) I0 I_9 := hf.set (by first | rfl | omega | (dsimp only; omega)) e_10
      have t_13 : (I_9 o 2).toInt = p1.toInt := by rw [← e_10, q_u_at]
      exact (hp _ _ _ hR_11 hf_12 )
    · have d_14 := iNle c_7
      have l_15 : (-1 : Int32).toInt = -1 := rfl
      exact (hp _ _ _ hR hf )
theorem y_Model_end {D : va_G} {cA : FieldType → ClassId} {b : Nat} {E : State → Prop} {R : qRg} {o n : Nat} {sh : Nat → qC} {Rf : Nat → Nat → Option Nat} {I0 : Nat → Nat → Int32} {L0 : Nat → Nat → Int64} {post : Option Value → qS → Prop} {p1 : Int32} (hok : q_ok (qGG D cA b E)) (hw : WfModel (qGG D cA b E) n sh Rf o) (ra : RAModel R o) (hz12 : R.2 12 = true) (hR : RI R I0) (hp : ∀ (r : Int32) (I' : Nat → Nat → Int32) (L' : Nat → Nat → Int64), RI R I' → Fm (fun c => c = o) I0 I' → Kp wModel_end I0 I' o → post (some (.int r)) (n, sh, Rf, I', L')) : Ev (qGG D cA b E) mModel_end 0 (0, 0) 0 (lv_args 0 [.ref o, .int p1]) [] (n, sh, Rf, I0, L0) post :=
  yc_Model_end (R := fzR R I0 o wModel_end) hok hw (fzA ra hR _) (fzT hz12 rfl) fzZ (fzI hR) (fzI hR) (fun r I' L' h1 h2  => hp r I' L' (fzB hR h1) h2 (fzP h1) )
set_option maxHeartbeats 4000000 in
set_option maxRecDepth 20000 in
theorem y_Model_paper {D : va_G} {cA : FieldType → ClassId} {b : Nat} {E : State → Prop} {R : qRg} {o n : Nat} {sh : Nat → qC} {Rf : Nat → Nat → Option Nat} {I0 : Nat → Nat → Int32} {L0 : Nat → Nat → Int64} {post : Option Value → qS → Prop} {p1 : Int32} {p2 : Int32} (hok : q_ok (qGG D cA b E)) (hw : WfModel (qGG D cA b E) n sh Rf o) (ra : RAModel R o) (hR : RI R I0) (hp : ∀ (r : Int32) , post (some (.int r)) (n, sh, Rf, I0, L0)) : Ev (qGG D cA b E) mModel_paper 0 (0, 0) 0 (lv_args 0 [.ref o, .int p1, .int p2]) [] (n, sh, Rf, I0, L0) post := by
  refine sModel_paper_0 o n sh Rf I0 L0 post p1 p2 hok hw ?_
  unfold fModel_paper_0
  have l_1 : (0 : Int32).toInt = 0 := rfl
  refine ⟨fun c_2 => ?_, fun c_2 => ?_⟩
  · have d_3 := iEq c_2
    have l_4 : (-1 : Int32).toInt = -1 := rfl
    exact (hp _ )
  · have d_5 := iNe c_2
    refine ⟨fun c_6 => ?_, fun c_6 => ?_⟩
    · have d_7 := iLt c_6
      have l_8 : (-1 : Int32).toInt = -1 := rfl
      exact (hp _ )
    · have d_9 := iNlt c_6
      have g_10 : (0 : Int) ≤ (I0 o 104).toInt ∧ (I0 o 104).toInt ≤ 2000 := hR.at0 ra 104 (by decide)
      refine ⟨fun c_11 => ?_, fun c_11 => ?_⟩
      · have d_12 := iLt c_11
        refine ⟨fun c_13 => ?_, fun c_13 => ?_⟩
        · have d_14 := iEq c_13
          refine ⟨tIn (by omega) (by omega), ?_⟩
          have g_15 : (-1 : Int) ≤ (I0 (o + 51) (p1 : Int32).toNatClampNeg).toInt ∧ (I0 (o + 51) (p1 : Int32).toNatClampNeg).toInt ≤ 5 := hR.at ra 51 _ (by decide)
          exact (hp _ )
        have d_16 := iNe c_13
        have l_18 : (1 : Int32).toInt = 1 := rfl
        refine ⟨fun c_17 => ?_, fun c_17 => ?_⟩
        · have d_19 := iEq c_17
          refine ⟨tIn (by omega) (by omega), ?_⟩
          exact (hp _ )
        have d_20 := iNe c_17
        have l_22 : (2 : Int32).toInt = 2 := rfl
        refine ⟨fun c_21 => ?_, fun c_21 => ?_⟩
        · have d_23 := iEq c_21
          refine ⟨tIn (by omega) (by omega), ?_⟩
          exact (hp _ )
        have d_24 := iNe c_21
        have l_26 : (3 : Int32).toInt = 3 := rfl
        refine ⟨fun c_25 => ?_, fun c_25 => ?_⟩
        · have d_27 := iEq c_25
          refine ⟨tIn (by omega) (by omega), ?_⟩
          exact (hp _ )
        have d_28 := iNe c_25
        have l_30 : (4 : Int32).toInt = 4 := rfl
        refine ⟨fun c_29 => ?_, fun c_29 => ?_⟩
        · have d_31 := iEq c_29
          refine ⟨tIn (by omega) (by omega), ?_⟩
          exact (hp _ )
        have d_32 := iNe c_29
        have l_34 : (5 : Int32).toInt = 5 := rfl
        refine ⟨fun c_33 => ?_, fun c_33 => ?_⟩
        · have d_35 := iEq c_33
          refine ⟨tIn (by omega) (by omega), ?_⟩
          refine ⟨fun c_36 => ?_, fun c_36 => ?_⟩
          · have d_37 := iEq c_36
            exact (hp _ )
          · have d_38 := iNe c_36
            exact (hp _ )
        have d_39 := iNe c_33
        have l_41 : (6 : Int32).toInt = 6 := rfl
        refine ⟨fun c_40 => ?_, fun c_40 => ?_⟩
        · have d_42 := iEq c_40
          refine ⟨tIn (by omega) (by omega), ?_⟩
          exact (hp _ )
        have d_43 := iNe c_40
        have l_45 : (7 : Int32).toInt = 7 := rfl
        refine ⟨fun c_44 => ?_, fun c_44 => ?_⟩
        · have d_46 := iEq c_44
          refine ⟨tIn (by omega) (by omega), ?_⟩
          refine ⟨fun c_47 => ?_, fun c_47 => ?_⟩
          · have d_48 := iEq c_47
            exact (hp _ )
          · have d_49 := iNe c_47
            exact (hp _ )
        have d_50 := iNe c_44
        have l_51 : (-1 : Int32).toInt = -1 := rfl
        exact (hp _ )
      · have d_52 := iNlt c_11
        have l_53 : (-1 : Int32).toInt = -1 := rfl
        exact (hp _ )
