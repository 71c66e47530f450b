/-! Safety of the reference, its TOKENS: by program (spec.py). -/
/-- a POINT's number -/
def MPo (I : Nat → Nat → Int32) (l : Nat) : Prop := (I l 8).toInt = 5 → 0 ≤ (I l 9).toInt ∧ (I l 9).toInt ≤ 15
theorem MPo.fr {I I' : Nat → Nat → Int32} {l : Nat} (h : MPo I l) (e8 : I' l 8 = I l 8) (e9 : I' l 9 = I l 9) : MPo I' l := by unfold MPo; rw [e8, e9]; exact h
/-- a TOKEN's place -/
def MTk (I : Nat → Nat → Int32) (l : Nat) : Prop := (I l 6).toInt ≤ (I l 7).toInt ∧ ((I l 8).toInt ≠ 0 → (I l 6).toInt < (I l 7).toInt)
theorem MTk.fr {I I' : Nat → Nat → Int32} {l : Nat} (h : MTk I l) (e6 : I' l 6 = I l 6) (e7 : I' l 7 = I l 7) (e8 : I' l 8 = I l 8) : MTk I' l := by unfold MTk; rw [e6, e7, e8]; exact h
/-- n digits behind k give v -/
def PtN (B : Nat → Int32) (len k : Int32) (n v : Int) : Prop := (n = 0 → v = 0) ∧ (n = 1 → 48 ≤ (sgF B len k).toInt ∧ (sgF B len k).toInt ≤ 57 ∧ v = (sgF B len k).toInt - 48) ∧ (n = 2 → 48 ≤ (sgF B len k).toInt ∧ (sgF B len k).toInt ≤ 57 ∧ 48 ≤ (sgF B len (k + 1)).toInt ∧ (sgF B len (k + 1)).toInt ≤ 57 ∧ v = 10 * ((sgF B len k).toInt - 48) + (sgF B len (k + 1)).toInt - 48)
/-- a POINT's number of r digits -/
def PtR (B : Nat → Int32) (len k : Int32) (r : Int) : Prop := (r = 1 → 48 ≤ (sgF B len k).toInt ∧ (sgF B len k).toInt ≤ 57) ∧ (r = 2 → 48 ≤ (sgF B len k).toInt ∧ (sgF B len k).toInt ≤ 57 ∧ 48 ≤ (sgF B len (k + 1)).toInt ∧ (sgF B len (k + 1)).toInt ≤ 57 ∧ 10 * ((sgF B len k).toInt - 48) + (sgF B len (k + 1)).toInt - 48 ≤ 15)
theorem PtN.zero {B : Nat → Int32} {len k : Int32} : PtN B len k (0 : Int32).toInt (0 : Int32).toInt := ⟨fun _ => rfl, fun h => absurd h (by decide), fun h => absurd h (by decide)⟩
theorem PtN.step {B : Nat → Int32} {len k y v c : Int32} {y' : Int} (h : PtN B len k y.toInt v.toInt) (hy : y' = y.toInt + 1) (h0 : 0 ≤ y.toInt) (hc : c = sgF B len (k + y)) (d1 : 48 ≤ c.toInt) (d2 : c.toInt ≤ 57) : PtN B len k y' (10 * v + c - 48).toInt := by
  obtain ⟨p0, p1, p2⟩ := h
  have e48 : (48 : Int32).toInt = 48 := rfl
  have st : 0 ≤ v.toInt → v.toInt ≤ 9 → (10 * v + c - 48).toInt = 10 * v.toInt + c.toInt - 48 := fun a1 a2 => by
    have s2 : (10 * v).toInt = 10 * v.toInt := tMulL rfl (by omega) (by omega)
    have s3 : (10 * v + c).toInt = (10 * v).toInt + c.toInt := tAdd (by omega) (by omega)
    have s4 : (10 * v + c - 48).toInt = (10 * v + c).toInt - (48 : Int32).toInt := tSub (by omega) (by omega)
    omega
  refine ⟨fun h => absurd h (by omega), fun h => ?_, fun h => ?_⟩
  · have ey : y = 0 := Int32.toInt_inj.mp (show y.toInt = (0 : Int32).toInt by have : (0 : Int32).toInt = 0 := rfl; omega)
    have v0 := p0 (by omega)
    have q := st (by omega) (by omega)
    rw [ey, Int32.add_zero] at hc
    rw [← hc]
    omega
  · have ey : y = 1 := Int32.toInt_inj.mp (show y.toInt = (1 : Int32).toInt by have : (1 : Int32).toInt = 1 := rfl; omega)
    have v1 := p1 (by omega)
    have q := st (by omega) (by omega)
    rw [ey] at hc
    rw [← hc]
    omega
theorem PtN.out {B : Nat → Int32} {len k : Int32} {n v : Int} (h : PtN B len k n v) (hv : v ≤ 15) : PtR B len k n := by
  obtain ⟨_, p1, p2⟩ := h
  exact ⟨fun e => ⟨(p1 e).1, (p1 e).2.1⟩, fun e => by have q := p2 e; omega⟩
theorem PtR.no {B : Nat → Int32} {len k : Int32} : PtR B len k (0 : Int32).toInt := ⟨fun h => absurd h (by decide), fun h => absurd h (by decide)⟩
set_option maxHeartbeats 4000000 in
set_option maxRecDepth 20000 in
theorem yModel_pointAt_4 {D : va_G} {cA : FieldType → ClassId} {b : Nat} {E : State → Prop} {R : qRg} {o n : Nat} {sh : Nat → qC} {Rf : Nat → Nat → Option Nat} {I0 : Nat → Nat → Int32} {L0 : Nat → Nat → Int64} {post : Option Value → qS → Prop} {p1 : Int32} (hok : q_ok (qGG D cA b E)) (hw : WfModel (qGG D cA b E) n sh Rf o) (ra : RAModel R o) (hq0 : (0 : Int) ≤ p1.toInt ∧ p1.toInt ≤ 1700) (hR : RI R I0) (hp : ∀ (r : Int32) , (((0 : Int) ≤ r.toInt ∧ r.toInt ≤ 2)) → (PtR (I0 (o + 2)) (I0 o 3) p1 r.toInt) → post (some (.int r)) (n, sh, Rf, I0, L0)) : ∀ (k : Nat) {x1 : Int32} {x2 : Int32} {x3 : Int32} , ((0 : Int) ≤ x2.toInt ∧ x2.toInt ≤ 3) → ((0 : Int) ≤ x1.toInt ∧ x1.toInt ≤ 1700) → (x1 = p1) → (PtN (I0 (o + 2)) (I0 o 3) x1 x2.toInt x3.toInt) → (3 - x2.toInt).toNat < k → Ev (qGG D cA b E) mModel_pointAt 1 (0, 0) 4 [(0, .ref o), (1, .int x1), (2, .int x2), (3, .int x3)] [] (n, sh, Rf, I0, L0) post := by
  intro k
  induction k with
  | zero =>
    intro x1 x2 x3 hi0 hi1 hi2 hi3 hm
    exact absurd hm (Nat.not_lt_zero _)
  | succ k ih =>
    intro x1 x2 x3 hi0 hi1 hi2 hi3 hm
    refine sModel_pointAt_4 o n sh Rf I0 L0 post x1 x2 x3 hok hw ?_
    unfold fModel_pointAt_4
    have l_1 : (3 : Int32).toInt = 3 := rfl
    refine ⟨fun c_2 => ?_, fun c_2 => ?_⟩
    · have d_3 := iLe c_2
      unfold fModel_pointAt_44
      have l_4 : (1 : Int32).toInt = 1 := rfl
      refine ⟨fun c_5 => ?_, fun c_5 => ?_⟩
      · have d_6 := iLt c_5
        exfalso; omega
      · have d_7 := iNlt c_5
        have l_8 : (2 : Int32).toInt = 2 := rfl
        refine ⟨fun c_9 => ?_, fun c_9 => ?_⟩
        · have d_10 := iLt c_9
          unfold fModel_pointAt_73
          have l_11 : (0 : Int32).toInt = 0 := rfl
          exact (hp _ (by first | omega | (intro h; omega) | exact Or.inl rfl | exact Or.inr rfl) (by first | exact PtR.no | (subst_vars; exact PtN.out (by assumption) (by omega))))
        · have d_12 := iNlt c_9
          exfalso; omega
    · have d_13 := iNle c_2
      have a_14 : (x1 + x2).toInt = x1.toInt + x2.toInt := tAdd (by omega) (by omega)
      refine y_Model_sign hok hw ra (by first | omega | (intro h; omega) | exact Or.inl rfl | exact Or.inr rfl) hR (fun r_15 u_16 u_17 => ⟨r_15, I0, L0, rfl, rfl, ?_⟩)
      refine y_Model_isDigit hok hR (fun r_18 u_19 u_20 u_21 => ⟨r_18, I0, L0, rfl, rfl, ?_⟩)
      have b_22 : 0 ≤ r_18.toInt ∧ r_18.toInt ≤ 1 := u_19.rg
      have l_23 : (0 : Int32).toInt = 0 := rfl
      refine ⟨fun c_24 => ?_, fun c_24 => ?_⟩
      · have d_25 := iEq c_24
        unfold fModel_pointAt_44
        have l_26 : (1 : Int32).toInt = 1 := rfl
        refine ⟨fun c_27 => ?_, fun c_27 => ?_⟩
        · have d_28 := iLt c_27
          unfold fModel_pointAt_73
          exact (hp _ (by first | omega | (intro h; omega) | exact Or.inl rfl | exact Or.inr rfl) (by first | exact PtR.no | (subst_vars; exact PtN.out (by assumption) (by omega))))
        · have d_29 := iNlt c_27
          have l_30 : (2 : Int32).toInt = 2 := rfl
          refine ⟨fun c_31 => ?_, fun c_31 => ?_⟩
          · have d_32 := iLt c_31
            exfalso; omega
          · have d_33 := iNlt c_31
            have l_34 : (16 : Int32).toInt = 16 := rfl
            refine ⟨fun c_35 => ?_, fun c_35 => ?_⟩
            · have d_36 := iLe c_35
              unfold fModel_pointAt_73
              exact (hp _ (by first | omega | (intro h; omega) | exact Or.inl rfl | exact Or.inr rfl) (by first | exact PtR.no | (subst_vars; exact PtN.out (by assumption) (by omega))))
            · have d_37 := iNle c_35
              have a_38 : (x1 + x2).toInt = x1.toInt + x2.toInt := tAdd (by omega) (by omega)
              refine y_Model_sign hok hw ra (by first | omega | (intro h; omega) | exact Or.inl rfl | exact Or.inr rfl) hR (fun r_39 u_40 u_41 => ⟨r_39, I0, L0, rfl, rfl, ?_⟩)
              refine y_Model_isLetter hok hR (fun r_42 u_43 u_44 => ⟨r_42, I0, L0, rfl, rfl, ?_⟩)
              have b_45 : 0 ≤ r_42.toInt ∧ r_42.toInt ≤ 1 := u_43.rg
              refine ⟨fun c_46 => ?_, fun c_46 => ?_⟩
              · have d_47 := iEq c_46
                exact (hp _ (by first | omega | (intro h; omega) | exact Or.inl rfl | exact Or.inr rfl) (by first | exact PtR.no | (subst_vars; exact PtN.out (by assumption) (by omega))))
              · have d_48 := iNe c_46
                unfold fModel_pointAt_73
                exact (hp _ (by first | omega | (intro h; omega) | exact Or.inl rfl | exact Or.inr rfl) (by first | exact PtR.no | (subst_vars; exact PtN.out (by assumption) (by omega))))
      · have d_49 := iNe c_24
        have dg := u_20 (by omega)
        have a_50 : (x1 + x2).toInt = x1.toInt + x2.toInt := tAdd (by omega) (by omega)
        refine y_Model_sign hok hw ra (by first | omega | (intro h; omega) | exact Or.inl rfl | exact Or.inr rfl) hR (fun r_51 u_52 u_53 => ⟨r_51, I0, L0, rfl, rfl, ?_⟩)
        have sq := u_53
        have be := iEq ((u_53).trans (u_17).symm)
        have a_55 : (x2 + Int32.ofInt 1).toInt = x2.toInt + (1) := tIc (by omega) (by omega) (by decide) (by decide)
        generalize ez_54 : (x2 + Int32.ofInt 1) = z_54 at a_55 ⊢
        exact ih (by first | omega | (intro h; omega) | exact Or.inl rfl | exact Or.inr rfl) (by first | omega | (intro h; omega) | exact Or.inl rfl | exact Or.inr rfl) (by first | rfl | assumption) (by first | exact PtN.zero | exact PtN.step hi3 (by omega) (by omega) sq (by omega) (by omega)) (by omega)
set_option maxHeartbeats 4000000 in
set_option maxRecDepth 20000 in
theorem y_Model_pointAt {D : va_G} {cA : FieldType → ClassId} {b : Nat} {E : State → Prop} {R : qRg} {o n : Nat} {sh : Nat → qC} {Rf : Nat → Nat → Option Nat} {I0 : Nat → Nat → Int32} {L0 : Nat → Nat → Int64} {post : Option Value → qS → Prop} {p1 : Int32} (hok : q_ok (qGG D cA b E)) (hw : WfModel (qGG D cA b E) n sh Rf o) (ra : RAModel R o) (hq0 : (0 : Int) ≤ p1.toInt ∧ p1.toInt ≤ 1700) (hR : RI R I0) (hp : ∀ (r : Int32) , (((0 : Int) ≤ r.toInt ∧ r.toInt ≤ 2)) → (PtR (I0 (o + 2)) (I0 o 3) p1 r.toInt) → post (some (.int r)) (n, sh, Rf, I0, L0)) : Ev (qGG D cA b E) mModel_pointAt 1 (0, 0) 0 (lv_args 0 [.ref o, .int p1]) [] (n, sh, Rf, I0, L0) post := by
  refine sModel_pointAt_0 o n sh Rf I0 L0 post p1 hok hw ?_
  unfold fModel_pointAt_0
  have l_56 : (0 : Int32).toInt = 0 := rfl
  exact yModel_pointAt_4 (I0 := I0) (L0 := L0) (p1 := p1) hok hw ra hq0 hR hp  _ (by first | omega | (intro h; omega) | exact Or.inl rfl | exact Or.inr rfl) (by first | omega | (intro h; omega) | exact Or.inl rfl | exact Or.inr rfl) (by first | rfl | assumption) (by first | exact PtN.zero | exact PtN.step hi3 (by omega) (by omega) sq (by omega) (by omega)) (Nat.lt_succ_self _)
theorem sg_lt {B : Nat → Int32} {len k : Int32} (h : 48 ≤ (sgF B len k).toInt) : k.toInt < len.toInt := by
  unfold sgF at h
  split at h
  · exact absurd h (by decide)
  · next h1 => exact iNle h1
theorem sgLo {B : Nat → Int32} {len k a c : Int32} (hc : c = sgF B len a) (hk : k.toInt = a.toInt) (h : 48 ≤ c.toInt) : 48 ≤ (sgF B len k).toInt := by rw [Int32.toInt_inj.mp hk, ← hc]; exact h
theorem sgHi {B : Nat → Int32} {len k a c : Int32} (hc : c = sgF B len a) (hk : k.toInt = a.toInt) (h : c.toInt ≤ 57) : (sgF B len k).toInt ≤ 57 := by rw [Int32.toInt_inj.mp hk, ← hc]; exact h
theorem PtR.dig {B : Nat → Int32} {len k : Int32} {r : Int} (h : PtR B len k r) (h1 : 0 < r) (h2 : r ≤ 2) : 48 ≤ (sgF B len k).toInt ∧ (sgF B len k).toInt ≤ 57 := by
  by_cases e : r = 1
  · exact h.1 e
  · have q := h.2 (by omega)
    exact ⟨q.1, q.2.1⟩
theorem PtR.two {B : Nat → Int32} {len k : Int32} {r : Int} (h : PtR B len k r) (e : r = 2) : 48 ≤ (sgF B len k).toInt ∧ (sgF B len k).toInt ≤ 57 ∧ 48 ≤ (sgF B len (k + 1)).toInt ∧ (sgF B len (k + 1)).toInt ≤ 57 ∧ 10 * ((sgF B len k).toInt - 48) + (sgF B len (k + 1)).toInt - 48 ≤ 15 := h.2 e
theorem mul10 {v c : Int32} (a1 : 0 ≤ v.toInt) (a2 : v.toInt ≤ 9) (d1 : 48 ≤ c.toInt) (d2 : c.toInt ≤ 57) : (10 * v + c - 48).toInt = 10 * v.toInt + c.toInt - 48 := by
  have e48 : (48 : Int32).toInt = 48 := rfl
  have s2 : (10 * v).toInt = 10 * v.toInt := tMulL rfl (by omega) (by omega)
  have s3 : (10 * v + c).toInt = (10 * v).toInt + c.toInt := tAdd (by omega) (by omega)
  have s4 : (10 * v + c - 48).toInt = (10 * v + c).toInt - (48 : Int32).toInt := tSub (by omega) (by omega)
  omega
