/-! Safety of the reference, lay and reform: by program (spec.py). -/
def wModel_lay : Nat → Bool := fun j => false
set_option maxHeartbeats 4000000 in
set_option maxRecDepth 20000 in
theorem yModel_lay_84 {D : va_G} {cA : FieldType → ClassId} {b : Nat} {E : State → Prop} {R : qRg} {o n : Nat} {sh : Nat → qC} {Rf : Nat → Nat → Option Nat} {I0 : Nat → Nat → Int32} {L0 : Nat → Nat → Int64} {post : Option Value → qS → Prop} {p1 : Int32} {p2 : Int32} (hok : q_ok (qGG D cA b E)) (hw : WfModel (qGG D cA b E) n sh Rf o) (ra : RAModel R o) (hZ : Fz R I0 o wModel_lay) (hR0 : RI R I0) (hq0 : (0 : Int) ≤ p1.toInt ∧ p1.toInt ≤ 5) (hq1 : (0 : Int) ≤ p2.toInt ∧ p2.toInt ≤ 5) (hq2 : p1.toInt ≠ p2.toInt) (hp : ∀ (I' : Nat → Nat → Int32) (L' : Nat → Nat → Int64), RI R I' → Fm (fun c => (o + 26 ≤ c ∧ c < o + 32)) I0 I' → (CpR (I0 (o + 26)) (I' (o + 26)) 10 p1.toNatClampNeg p2.toNatClampNeg 10) → (CpR (I0 (o + 27)) (I' (o + 27)) 10 p1.toNatClampNeg p2.toNatClampNeg 10) → (CpR (I0 (o + 30)) (I' (o + 30)) 700 p1.toNatClampNeg p2.toNatClampNeg 700) → post none (n, sh, Rf, I', L')) : ∀ (k : Nat) {x1 : Int32} {x2 : Int32} {x3 : Int32} {I : Nat → Nat → Int32} {L : Nat → Nat → Int64}, RI R I → Fm (fun c => (o + 26 ≤ c ∧ c < o + 32)) I0 I → ((0 : Int) ≤ x3.toInt ∧ x3.toInt ≤ 700) → (CpR (I0 (o + 26)) (I (o + 26)) 10 p1.toNatClampNeg p2.toNatClampNeg 10) → (CpR (I0 (o + 27)) (I (o + 27)) 10 p1.toNatClampNeg p2.toNatClampNeg 10) → (CpR (I0 (o + 30)) (I (o + 30)) 700 p1.toNatClampNeg p2.toNatClampNeg x3.toInt) → (x1 = p1) → (x2 = p2) → (700 - x3.toInt).toNat < k → Ev (qGG D cA b E) mModel_lay 0 (0, 0) 84 [(0, .ref o), (1, .int x1), (2, .int x2), (3, .int x3)] [] (n, sh, Rf, I, L) post := by
  intro k
  induction k with
  | zero =>
    intro x1 x2 x3 I L hR hf hi0 hi1 hi2 hi3 hi4 hi5 hm
    exact absurd hm (Nat.not_lt_zero _)
  | succ k ih =>
    intro x1 x2 x3 I L hR hf hi0 hi1 hi2 hi3 hi4 hi5 hm
    have hz0 := hi4.symm
    subst hz0
    have hz1 := hi5.symm
    subst hz1
    refine sModel_lay_84 o n sh Rf I L post p1 p2 x3 hok hw ?_
    unfold fModel_lay_84
    have l_1 : (700 : Int32).toInt = 700 := rfl
    refine ⟨fun c_2 => ?_, fun c_2 => ?_⟩
    · have d_3 := iLe c_2
      exact (hp _ _ hR hf (by exact hi1) (by exact hi2) (by have e7 : x3.toInt = 700 := (by omega); rw [e7] at hi3; exact hi3))
    · have d_4 := iNle c_2
      have a_5 : (700 * p2).toInt = 700 * p2.toInt := tMulL rfl (by omega) (by omega)
      have a_6 : ((700 * p2) + x3).toInt = (700 * p2).toInt + x3.toInt := tAdd (by omega) (by omega)
      have a_7 : (700 * p1).toInt = 700 * p1.toInt := tMulL rfl (by omega) (by omega)
      have a_8 : ((700 * p1) + x3).toInt = (700 * p1).toInt + x3.toInt := tAdd (by omega) (by omega)
      refine ⟨tIn (by omega) (by omega), ?_⟩
      refine ⟨tIn (by omega) (by omega), fun I_9 e_10 => ?_⟩
      have hR_11 : RI R I_9 := hR.up ra 30 (by decide) (Or.inl rfl) e_10 (i_lo _) (i_hi _)
      have hf_12 : Fm (fun c => (o + 26 ≤ c ∧ c < o + 32)) I0 I_9 := hf.set (by first | rfl | omega | (dsimp only; omega)) e_10
      have a_13 : (700 * p2).toInt = 700 * p2.toInt := tMulL rfl (by omega) (by omega)
      have a_14 : ((700 * p2) + x3).toInt = (700 * p2).toInt + x3.toInt := tAdd (by omega) (by omega)
      have a_15 : (700 * p1).toInt = 700 * p1.toInt := tMulL rfl (by omega) (by omega)
      have a_16 : ((700 * p1) + x3).toInt = (700 * p1).toInt + x3.toInt := tAdd (by omega) (by omega)
      refine ⟨tIn (by omega) (by omega), ?_⟩
      refine ⟨tIn (by omega) (by omega), fun I_17 e_18 => ?_⟩
      have hR_19 : RI R I_17 := hR_11.up ra 31 (by decide) (Or.inl rfl) e_18 (i_lo _) (i_hi _)
      have hf_20 : Fm (fun c => (o + 26 ≤ c ∧ c < o + 32)) I0 I_17 := hf_12.set (by first | rfl | omega | (dsimp only; omega)) e_18
      have c1 := tCl (x := p1) (by omega)
      have c2 := tCl (x := p2) (by omega)
      have c3 := tCl (x := (700 * p2) + x3) (by omega)
      have c4 := tCl (x := (700 * p1) + x3) (by omega)
      have a_22 : (x3 + Int32.ofInt 1).toInt = x3.toInt + (1) := tIc (by omega) (by omega) (by decide) (by decide)
      generalize ez_21 : (x3 + Int32.ofInt 1) = z_21 at a_22 ⊢
      exact ih hR_19 hf_20 (by first | omega | (intro h; omega) | exact Or.inl rfl | exact Or.inr rfl) (by first | (rw [← e_18, q_u_ne (by omega), ← e_10, q_u_ne (by omega)]; exact hi1) | (have e10 : x3.toInt = 10 := (by omega); rw [e10] at hi1; exact hi1)) (by first | (rw [← e_18, q_u_ne (by omega), ← e_10, q_u_ne (by omega)]; exact hi2) | (have e10 : x3.toInt = 10 := (by omega); rw [e10] at hi2; exact hi2)) (by first | (rw [← e_18, q_u_ne (by omega)]; exact CpR.put hi3 e_10 (by omega) (by omega) (by omega) (by omega) (by omega) (by omega)) | (rw [hi3]; exact CpR.zero (by omega))) rfl rfl (by omega)
set_option maxHeartbeats 4000000 in
set_option maxRecDepth 20000 in
theorem yModel_lay_26 {D : va_G} {cA : FieldType → ClassId} {b : Nat} {E : State → Prop} {R : qRg} {o n : Nat} {sh : Nat → qC} {Rf : Nat → Nat → Option Nat} {I0 : Nat → Nat → Int32} {L0 : Nat → Nat → Int64} {post : Option Value → qS → Prop} {p1 : Int32} {p2 : Int32} (hok : q_ok (qGG D cA b E)) (hw : WfModel (qGG D cA b E) n sh Rf o) (ra : RAModel R o) (hZ : Fz R I0 o wModel_lay) (hR0 : RI R I0) (hq0 : (0 : Int) ≤ p1.toInt ∧ p1.toInt ≤ 5) (hq1 : (0 : Int) ≤ p2.toInt ∧ p2.toInt ≤ 5) (hq2 : p1.toInt ≠ p2.toInt) (hp : ∀ (I' : Nat → Nat → Int32) (L' : Nat → Nat → Int64), RI R I' → Fm (fun c => (o + 26 ≤ c ∧ c < o + 32)) I0 I' → (CpR (I0 (o + 26)) (I' (o + 26)) 10 p1.toNatClampNeg p2.toNatClampNeg 10) → (CpR (I0 (o + 27)) (I' (o + 27)) 10 p1.toNatClampNeg p2.toNatClampNeg 10) → (CpR (I0 (o + 30)) (I' (o + 30)) 700 p1.toNatClampNeg p2.toNatClampNeg 700) → post none (n, sh, Rf, I', L')) : ∀ (k : Nat) {x1 : Int32} {x2 : Int32} {x3 : Int32} {I : Nat → Nat → Int32} {L : Nat → Nat → Int64}, RI R I → Fm (fun c => (o + 26 ≤ c ∧ c < o + 32)) I0 I → ((0 : Int) ≤ x3.toInt ∧ x3.toInt ≤ 10) → (CpR (I0 (o + 26)) (I (o + 26)) 10 p1.toNatClampNeg p2.toNatClampNeg x3.toInt) → (CpR (I0 (o + 27)) (I (o + 27)) 10 p1.toNatClampNeg p2.toNatClampNeg x3.toInt) → (I (o + 30) = I0 (o + 30)) → (x1 = p1) → (x2 = p2) → (10 - x3.toInt).toNat < k → Ev (qGG D cA b E) mModel_lay 0 (0, 0) 26 [(0, .ref o), (1, .int x1), (2, .int x2), (3, .int x3)] [] (n, sh, Rf, I, L) post := by
  intro k
  induction k with
  | zero =>
    intro x1 x2 x3 I L hR hf hi0 hi1 hi2 hi3 hi4 hi5 hm
    exact absurd hm (Nat.not_lt_zero _)
  | succ k ih =>
    intro x1 x2 x3 I L hR hf hi0 hi1 hi2 hi3 hi4 hi5 hm
    have hz0 := hi4.symm
    subst hz0
    have hz1 := hi5.symm
    subst hz1
    refine sModel_lay_26 o n sh Rf I L post p1 p2 x3 hok hw ?_
    unfold fModel_lay_26
    have l_23 : (10 : Int32).toInt = 10 := rfl
    refine ⟨fun c_24 => ?_, fun c_24 => ?_⟩
    · have d_25 := iLe c_24
      have l_26 : (0 : Int32).toInt = 0 := rfl
      exact yModel_lay_84 (I0 := I0) (L0 := L0) (p1 := p1) (p2 := p2) hok hw ra hZ hR0 hq0 hq1 hq2 hp  _ hR hf (by first | omega | (intro h; omega) | exact Or.inl rfl | exact Or.inr rfl) (by first | (rw [← False.elim, q_u_ne (by omega), ← False.elim, q_u_ne (by omega)]; exact hi1) | (have e10 : x3.toInt = 10 := (by omega); rw [e10] at hi1; exact hi1)) (by first | (rw [← False.elim, q_u_ne (by omega), ← False.elim, q_u_ne (by omega)]; exact hi2) | (have e10 : x3.toInt = 10 := (by omega); rw [e10] at hi2; exact hi2)) (by first | (rw [← False.elim, q_u_ne (by omega)]; exact CpR.put hi3 False.elim (by omega) (by omega) (by omega) (by omega) (by omega) (by omega)) | (rw [hi3]; exact CpR.zero (by omega))) rfl rfl (Nat.lt_succ_self _)
    · have d_27 := iNle c_24
      have a_28 : (10 * p2).toInt = 10 * p2.toInt := tMulL rfl (by omega) (by omega)
      have a_29 : ((10 * p2) + x3).toInt = (10 * p2).toInt + x3.toInt := tAdd (by omega) (by omega)
      have a_30 : (10 * p1).toInt = 10 * p1.toInt := tMulL rfl (by omega) (by omega)
      have a_31 : ((10 * p1) + x3).toInt = (10 * p1).toInt + x3.toInt := tAdd (by omega) (by omega)
      refine ⟨tIn (by omega) (by omega), ?_⟩
      have g_32 : (-1 : Int) ≤ (I (o + 26) (((10 * p1) + x3) : Int32).toNatClampNeg).toInt ∧ (I (o + 26) (((10 * p1) + x3) : Int32).toNatClampNeg).toInt ≤ 700 := hR.at ra 26 _ (by decide)
      refine ⟨tIn (by omega) (by omega), fun I_33 e_34 => ?_⟩
      have hR_35 : RI R I_33 := hR.up ra 26 (by decide) (Or.inl rfl) e_34 (show (-1 : Int) ≤ (I (o + 26) (((10 * p1) + x3) : Int32).toNatClampNeg).toInt by omega) (show (I (o + 26) (((10 * p1) + x3) : Int32).toNatClampNeg).toInt ≤ (700 : Int) by omega)
      have hf_36 : Fm (fun c => (o + 26 ≤ c ∧ c < o + 32)) I0 I_33 := hf.set (by first | rfl | omega | (dsimp only; omega)) e_34
      have a_37 : (10 * p2).toInt = 10 * p2.toInt := tMulL rfl (by omega) (by omega)
      have a_38 : ((10 * p2) + x3).toInt = (10 * p2).toInt + x3.toInt := tAdd (by omega) (by omega)
      have a_39 : (10 * p1).toInt = 10 * p1.toInt := tMulL rfl (by omega) (by omega)
      have a_40 : ((10 * p1) + x3).toInt = (10 * p1).toInt + x3.toInt := tAdd (by omega) (by omega)
      refine ⟨tIn (by omega) (by omega), ?_⟩
      have g_41 : (0 : Int) ≤ (I_33 (o + 27) (((10 * p1) + x3) : Int32).toNatClampNeg).toInt ∧ (I_33 (o + 27) (((10 * p1) + x3) : Int32).toNatClampNeg).toInt ≤ 700 := hR_35.at ra 27 _ (by decide)
      refine ⟨tIn (by omega) (by omega), fun I_42 e_43 => ?_⟩
      have hR_44 : RI R I_42 := hR_35.up ra 27 (by decide) (Or.inl rfl) e_43 (show (0 : Int) ≤ (I_33 (o + 27) (((10 * p1) + x3) : Int32).toNatClampNeg).toInt by omega) (show (I_33 (o + 27) (((10 * p1) + x3) : Int32).toNatClampNeg).toInt ≤ (700 : Int) by omega)
      have hf_45 : Fm (fun c => (o + 26 ≤ c ∧ c < o + 32)) I0 I_42 := hf_36.set (by first | rfl | omega | (dsimp only; omega)) e_43
      have c1 := tCl (x := p1) (by omega)
      have c2 := tCl (x := p2) (by omega)
      have c3 := tCl (x := (10 * p2) + x3) (by omega)
      have c4 := tCl (x := (10 * p1) + x3) (by omega)
      have a_47 : (x3 + Int32.ofInt 1).toInt = x3.toInt + (1) := tIc (by omega) (by omega) (by decide) (by decide)
      generalize ez_46 : (x3 + Int32.ofInt 1) = z_46 at a_47 ⊢
      exact ih hR_44 hf_45 (by first | omega | (intro h; omega) | exact Or.inl rfl | exact Or.inr rfl) (by first | (rw [← e_43, q_u_ne (by omega)]; exact CpR.put hi1 e_34 (by omega) (by omega) (by omega) (by omega) (by omega) (by omega)) | (rw [← e_43, q_u_ne (by omega), ← e_34, q_u_ne (by omega)]; exact CpR.zero (by omega))) (by first | exact CpR.put (by rw [← e_34, q_u_ne (by omega)]; exact hi2) e_43 (by omega) (by omega) (by omega) (by omega) (by omega) (by omega) | (rw [← e_43, q_u_ne (by omega), ← e_34, q_u_ne (by omega)]; exact CpR.zero (by omega))) (by first | (rw [← e_43, q_u_ne (by omega), ← e_34, q_u_ne (by omega)]; exact hi3) | rw [← e_43, q_u_ne (by omega), ← e_34, q_u_ne (by omega)]) rfl rfl (by omega)
set_option maxHeartbeats 4000000 in
set_option maxRecDepth 20000 in
theorem yc_Model_lay {D : va_G} {cA : FieldType → ClassId} {b : Nat} {E : State → Prop} {R : qRg} {o n : Nat} {sh : Nat → qC} {Rf : Nat → Nat → Option Nat} {I0 : Nat → Nat → Int32} {L0 : Nat → Nat → Int64} {post : Option Value → qS → Prop} {p1 : Int32} {p2 : Int32} (hok : q_ok (qGG D cA b E)) (hw : WfModel (qGG D cA b E) n sh Rf o) (ra : RAModel R o) (hZ : Fz R I0 o wModel_lay) (hR0 : RI R I0) (hq0 : (0 : Int) ≤ p1.toInt ∧ p1.toInt ≤ 5) (hq1 : (0 : Int) ≤ p2.toInt ∧ p2.toInt ≤ 5) (hq2 : p1.toInt ≠ p2.toInt) (hR : RI R I0) (hp : ∀ (I' : Nat → Nat → Int32) (L' : Nat → Nat → Int64), RI R I' → Fm (fun c => (o + 26 ≤ c ∧ c < o + 32)) I0 I' → (CpR (I0 (o + 26)) (I' (o + 26)) 10 p1.toNatClampNeg p2.toNatClampNeg 10) → (CpR (I0 (o + 27)) (I' (o + 27)) 10 p1.toNatClampNeg p2.toNatClampNeg 10) → (CpR (I0 (o + 30)) (I' (o + 30)) 700 p1.toNatClampNeg p2.toNatClampNeg 700) → post none (n, sh, Rf, I', L')) : Ev (qGG D cA b E) mModel_lay 0 (0, 0) 0 (lv_args 0 [.ref o, .int p1, .int p2]) [] (n, sh, Rf, I0, L0) post := by
  have hf : Fm (fun c => (o + 26 ≤ c ∧ c < o + 32)) I0 I0 := Fm.rf
  refine sModel_lay_0 o n sh Rf I0 L0 post p1 p2 hok hw ?_
  unfold fModel_lay_0
  refine ⟨tIn (by omega) (by omega), ?_⟩
  have g_48 : (0 : Int) ≤ (I0 (o + 28) (p1 : Int32).toNatClampNeg).toInt ∧ (I0 (o + 28) (p1 : Int32).toNatClampNeg).toInt ≤ 5 := hR.at ra 28 _ (by decide)
  refine ⟨tIn (by omega) (by omega), fun I_49 e_50 => ?_⟩
  have hR_51 : RI R I_49 := hR.up ra 28 (by decide) (Or.inl rfl) e_50 (show (0 : Int) ≤ (I0 (o + 28) (p1 : Int32).toNatClampNeg).toInt by omega) (show (I0 (o + 28) (p1 : Int32).toNatClampNeg).toInt ≤ (5 : Int) by omega)
  have hf_52 : Fm (fun c => (o + 26 ≤ c ∧ c < o + 32)) I0 I_49 := hf.set (by first | rfl | omega | (dsimp only; omega)) e_50
  refine ⟨tIn (by omega) (by omega), ?_⟩
  refine ⟨tIn (by omega) (by omega), fun I_53 e_54 => ?_⟩
  have hR_55 : RI R I_53 := hR_51.up ra 29 (by decide) (Or.inl rfl) e_54 (i_lo _) (i_hi _)
  have hf_56 : Fm (fun c => (o + 26 ≤ c ∧ c < o + 32)) I0 I_53 := hf_52.set (by first | rfl | omega | (dsimp only; omega)) e_54
  have l_57 : (0 : Int32).toInt = 0 := rfl
  exact yModel_lay_26 (I0 := I0) (L0 := L0) (p1 := p1) (p2 := p2) hok hw ra hZ hR0 hq0 hq1 hq2 hp  _ hR_55 hf_56 (by first | omega | (intro h; omega) | exact Or.inl rfl | exact Or.inr rfl) (by first | (rw [← e_54, q_u_ne (by omega)]; exact CpR.put hi1 e_50 (by omega) (by omega) (by omega) (by omega) (by omega) (by omega)) | (rw [← e_54, q_u_ne (by omega), ← e_50, q_u_ne (by omega)]; exact CpR.zero (by omega))) (by first | exact CpR.put (by rw [← e_50, q_u_ne (by omega)]; exact hi2) e_54 (by omega) (by omega) (by omega) (by omega) (by omega) (by omega) | (rw [← e_54, q_u_ne (by omega), ← e_50, q_u_ne (by omega)]; exact CpR.zero (by omega))) (by first | (rw [← e_54, q_u_ne (by omega), ← e_50, q_u_ne (by omega)]; exact hi3) | rw [← e_54, q_u_ne (by omega), ← e_50, q_u_ne (by omega)]) rfl rfl (Nat.lt_succ_self _)
theorem y_Model_lay {D : va_G} {cA : FieldType → ClassId} {b : Nat} {E : State → Prop} {R : qRg} {o n : Nat} {sh : Nat → qC} {Rf : Nat → Nat → Option Nat} {I0 : Nat → Nat → Int32} {L0 : Nat → Nat → Int64} {post : Option Value → qS → Prop} {p1 : Int32} {p2 : Int32} (hok : q_ok (qGG D cA b E)) (hw : WfModel (qGG D cA b E) n sh Rf o) (ra : RAModel R o) (hq0 : (0 : Int) ≤ p1.toInt ∧ p1.toInt ≤ 5) (hq1 : (0 : Int) ≤ p2.toInt ∧ p2.toInt ≤ 5) (hq2 : p1.toInt ≠ p2.toInt) (hR : RI R I0) (hp : ∀ (I' : Nat → Nat → Int32) (L' : Nat → Nat → Int64), RI R I' → Fm (fun c => (o + 26 ≤ c ∧ c < o + 32)) I0 I' → Kp wModel_lay I0 I' o → (CpR (I0 (o + 26)) (I' (o + 26)) 10 p1.toNatClampNeg p2.toNatClampNeg 10) → (CpR (I0 (o + 27)) (I' (o + 27)) 10 p1.toNatClampNeg p2.toNatClampNeg 10) → (CpR (I0 (o + 30)) (I' (o + 30)) 700 p1.toNatClampNeg p2.toNatClampNeg 700) → post none (n, sh, Rf, I', L')) : Ev (qGG D cA b E) mModel_lay 0 (0, 0) 0 (lv_args 0 [.ref o, .int p1, .int p2]) [] (n, sh, Rf, I0, L0) post :=
  yc_Model_lay (R := fzR R I0 o wModel_lay) hok hw (fzA ra hR _) fzZ (fzI hR) hq0 hq1 hq2 (fzI hR) (fun I' L' h1 h2 u0 u1 u2 => hp I' L' (fzB hR h1) h2 (fzP h1) u0 u1 u2)
def wModel_reform : Nat → Bool := fun j => Nat.beq j 12 || Nat.beq j 13 || Nat.beq j 14 || Nat.beq j 15 || Nat.beq j 16 || Nat.beq j 17 || Nat.beq j 18 || Nat.beq j 19 || Nat.beq j 21 || Nat.beq j 54 || Nat.beq j 55 || Nat.beq j 56 || Nat.beq j 57 || Nat.beq j 58 || Nat.beq j 59 || false
set_option maxHeartbeats 4000000 in
set_option maxRecDepth 20000 in
theorem yModel_reform_95 {D : va_G} {cA : FieldType → ClassId} {b : Nat} {E : State → Prop} {R : qRg} {o n : Nat} {sh : Nat → qC} {Rf : Nat → Nat → Option Nat} {I0 : Nat → Nat → Int32} {L0 : Nat → Nat → Int64} {post : Option Value → qS → Prop} {p1 : Int32} (hok : q_ok (qGG D cA b E)) (hw : WfModel (qGG D cA b E) n sh Rf o) (ra : RAModel R o) (hz12 : R.2 12 = true) (hz13 : R.2 13 = true) (hz14 : R.2 14 = true) (hz15 : R.2 15 = true) (hz16 : R.2 16 = true) (hz17 : R.2 17 = true) (hz18 : R.2 18 = true) (hz19 : R.2 19 = true) (hz21 : R.2 21 = true) (hz54 : R.2 54 = true) (hz55 : R.2 55 = true) (hz56 : R.2 56 = true) (hz57 : R.2 57 = true) (hz58 : R.2 58 = true) (hz59 : R.2 59 = true) (hZ : Fz R I0 o wModel_reform) (hR0 : RI R I0) (hq0 : MTd I0 o) (hp : ∀ (r : Int32) (I' : Nat → Nat → Int32) (L' : Nat → Nat → Int64), RI R I' → Fm (fun c => c = o ∨ c = o + 2 ∨ (o + 26 ≤ c ∧ c < o + 34)) I0 I' → (Im ((I0 o 2).toInt ≤ 700 ∧ 0 ≤ p1.toInt ∧ p1.toInt ≤ 3) ((I' o 2).toInt = 0)) → (Im (¬ ((I0 o 2).toInt ≤ 700 ∧ 0 ≤ p1.toInt ∧ p1.toInt ≤ 3)) ((I' o 2).toInt = (I0 o 2).toInt)) → (MTd I' o) → post (some (.int r)) (n, sh, Rf, I', L')) : ∀ (k : Nat) {x1 : Int32} {x2 : Int32} {I : Nat → Nat → Int32} {L : Nat → Nat → Int64}, RI R I → Fm (fun c => c = o ∨ c = o + 2 ∨ (o + 26 ≤ c ∧ c < o + 34)) I0 I → ((I0 o 2).toInt ≤ 700 ∧ 0 ≤ p1.toInt ∧ p1.toInt ≤ 3) → ((I o 7).toInt ≤ (I o 3).toInt) → ((I o 2).toInt = 0) → (x1 = p1) → (MTd I o) → (MPo I o) → (MTk I o) → (ReG I o) → (11300 - (7 * (I o 7).toInt - (I o 8).toInt + (I o 4).toInt)).toNat < k → Ev (qGG D cA b E) mModel_reform 7 (0, 0) 95 [(0, .ref o), (1, .int x1), (2, .int x2)] [] (n, sh, Rf, I, L) post := by
  intro k
  induction k with
  | zero =>
    intro x1 x2 I L hR hf hi0 hi1 hi2 hi3 hi4 hi5 hi6 hi7 hm
    exact absurd hm (Nat.not_lt_zero _)
  | succ k ih =>
    intro x1 x2 I L hR hf hi0 hi1 hi2 hi3 hi4 hi5 hi6 hi7 hm
    have hz0 := hi3.symm
    subst hz0
    have g_1 : (0 : Int) ≤ (I o 3).toInt ∧ (I o 3).toInt ≤ 1600 := hR.at0 ra 3 (by decide)
    have g_2 : (0 : Int) ≤ (I0 o 3).toInt ∧ (I0 o 3).toInt ≤ 1600 := hR0.at0 ra 3 (by decide)
    have g_3 : (0 : Int) ≤ (I o 4).toInt ∧ (I o 4).toInt ≤ 5 := hR.at0 ra 4 (by decide)
    have g_4 : (0 : Int) ≤ (I0 o 4).toInt ∧ (I0 o 4).toInt ≤ 5 := hR0.at0 ra 4 (by decide)
    have g_5 : (0 : Int) ≤ (I o 6).toInt ∧ (I o 6).toInt ≤ 1600 := hR.at0 ra 6 (by decide)
    have g_6 : (0 : Int) ≤ (I0 o 6).toInt ∧ (I0 o 6).toInt ≤ 1600 := hR0.at0 ra 6 (by decide)
    have g_7 : (0 : Int) ≤ (I o 7).toInt ∧ (I o 7).toInt ≤ 1601 := hR.at0 ra 7 (by decide)
    have g_8 : (0 : Int) ≤ (I0 o 7).toInt ∧ (I0 o 7).toInt ≤ 1601 := hR0.at0 ra 7 (by decide)
    have g_9 : (0 : Int) ≤ (I o 8).toInt ∧ (I o 8).toInt ≤ 6 := hR.at0 ra 8 (by decide)
    have g_10 : (0 : Int) ≤ (I0 o 8).toInt ∧ (I0 o 8).toInt ≤ 6 := hR0.at0 ra 8 (by decide)
    have g_11 : (0 : Int) ≤ (I o 44).toInt ∧ (I o 44).toInt ≤ 4 := hR.at0 ra 44 (by decide)
    have g_12 : (0 : Int) ≤ (I0 o 44).toInt ∧ (I0 o 44).toInt ≤ 4 := hR0.at0 ra 44 (by decide)
    have g_13 : (0 : Int) ≤ (I o 45).toInt ∧ (I o 45).toInt ≤ 700 := hR.at0 ra 45 (by decide)
    have g_14 : (0 : Int) ≤ (I0 o 45).toInt ∧ (I0 o 45).toInt ≤ 700 := hR0.at0 ra 45 (by decide)
    have g_15 : (0 : Int) ≤ (I o 47).toInt ∧ (I o 47).toInt ≤ 7 := hR.at0 ra 47 (by decide)
    have g_16 : (0 : Int) ≤ (I0 o 47).toInt ∧ (I0 o 47).toInt ≤ 7 := hR0.at0 ra 47 (by decide)
    have g_17 : (0 : Int) ≤ (I o 48).toInt ∧ (I o 48).toInt ≤ 80 := hR.at0 ra 48 (by decide)
    have g_18 : (0 : Int) ≤ (I0 o 48).toInt ∧ (I0 o 48).toInt ≤ 80 := hR0.at0 ra 48 (by decide)
    have g_19 : (0 : Int) ≤ (I o 2).toInt ∧ (I o 2).toInt ≤ 1600 := hR.at0 ra 2 (by decide)
    have g_20 : (0 : Int) ≤ (I0 o 2).toInt ∧ (I0 o 2).toInt ≤ 1600 := hR0.at0 ra 2 (by decide)
    refine sModel_reform_95 o n sh Rf I L post p1 x2 hok hw ?_
    unfold fModel_reform_95
    refine y_Model_isGood hok hw ra hR (fun r_21 u_22 u_23 u_24 => ⟨r_21, I, L, rfl, rfl, ?_⟩)
    have b_25 : 0 ≤ r_21.toInt ∧ r_21.toInt ≤ 1 := u_22.rg
    have l_26 : (0 : Int32).toInt = 0 := rfl
    refine ⟨fun c_27 => ?_, fun c_27 => ?_⟩
    · have d_28 := iEq c_27
      have i_29 := u_24 (by omega)
      refine y_Model_isGood hok hw ra hR (fun r_30 u_31 u_32 u_33 => ⟨r_30, I, L, rfl, rfl, ?_⟩)
      have b_34 : 0 ≤ r_30.toInt ∧ r_30.toInt ≤ 1 := u_31.rg
      refine ⟨fun c_35 => ?_, fun c_35 => ?_⟩
      · have d_36 := iNe c_35
        have i_37 := u_32 (by omega)
        have rs := hi7 (by omega)
        have r4 := rs.1
        have g_38 : (0 : Int) ≤ (I o 44).toInt ∧ (I o 44).toInt ≤ 4 := hR.at0 ra 44 (by decide)
        refine y_Model_lay hok hw ra (by first | omega | (intro h; omega) | exact Or.inl rfl | exact Or.inr rfl) (by first | omega | (intro h; omega) | exact Or.inl rfl | exact Or.inr rfl) (by first | omega | (intro h; omega) | exact Or.inl rfl | exact Or.inr rfl) hR (fun I_43 L_44 hR_45 fr_46 kp_47 u_40 u_41 u_42 => ⟨I_43, L_44, rfl, rfl, ?_⟩)
        have hf_48 : Fm (fun c => c = o ∨ c = o + 2 ∨ (o + 26 ≤ c ∧ c < o + 34)) I0 I_43 := hf.call fr_46 (fun c hc => by first | exact hc | (dsimp only at hc ⊢; omega) | omega)
        have t_49 : (I_43 o 3).toInt = (I o 3).toInt := by rw [kp_47 3 rfl]
        have t_50 : (I_43 o 4).toInt = (I o 4).toInt := by rw [kp_47 4 rfl]
        have t_51 : (I_43 o 6).toInt = (I o 6).toInt := by rw [kp_47 6 rfl]
        have t_52 : (I_43 o 7).toInt = (I o 7).toInt := by rw [kp_47 7 rfl]
        have t_53 : (I_43 o 8).toInt = (I o 8).toInt := by rw [kp_47 8 rfl]
        have t_54 : (I_43 o 9).toInt = (I o 9).toInt := by rw [kp_47 9 rfl]
        have t_55 : (I_43 o 44).toInt = (I o 44).toInt := by rw [kp_47 44 rfl]
        have t_56 : (I_43 o 45).toInt = (I o 45).toInt := by rw [kp_47 45 rfl]
        have t_57 : (I_43 o 47).toInt = (I o 47).toInt := by rw [kp_47 47 rfl]
        have t_58 : (I_43 o 48).toInt = (I o 48).toInt := by rw [kp_47 48 rfl]
        have t_59 : (I_43 o 2).toInt = (I o 2).toInt := by rw [kp_47 2 rfl]
        have k_60 : MPo I_43 o := hi5.fr (kp_47 8 rfl) (kp_47 9 rfl)
        have k_61 : MTk I_43 o := hi6.fr (kp_47 6 rfl) (kp_47 7 rfl) (kp_47 8 rfl)
        have k_62 : MTd I_43 o := by exact MTd.cp hi4 (s := (I o 44).toNatClampNeg) (t := p1.toNatClampNeg) (by rw [show (I o 44).toNatClampNeg = 4 from (by have cl := tCl (x := I o 44) (by omega); omega)]; exact rs.td) u_40 u_41 u_42
        refine ⟨tIn (by omega) (by omega), ?_⟩
        exact (hp _ _ _ hR_45 hf_48 (by intro h; omega) (by intro h; omega) k_62)
      · have d_63 := iEq c_35
        have i_64 := u_33 (by omega)
        have l_65 : (-1 : Int32).toInt = -1 := rfl
        exact (hp _ _ _ hR hf (by intro h; omega) (by intro h; omega) hi4)
    · have d_66 := iNe c_27
      have i_67 := u_23 (by omega)
      have g_68 : (0 : Int) ≤ (I o 8).toInt ∧ (I o 8).toInt ≤ 6 := hR.at0 ra 8 (by decide)
      refine ⟨fun c_69 => ?_, fun c_69 => ?_⟩
      · have d_70 := iEq c_69
        refine y_Model_isGood hok hw ra hR (fun r_71 u_72 u_73 u_74 => ⟨r_71, I, L, rfl, rfl, ?_⟩)
        have b_75 : 0 ≤ r_71.toInt ∧ r_71.toInt ≤ 1 := u_72.rg
        refine ⟨fun c_76 => ?_, fun c_76 => ?_⟩
        · have d_77 := iNe c_76
          have i_78 := u_73 (by omega)
          have rs := hi7 (by omega)
          have r4 := rs.1
          have g_79 : (0 : Int) ≤ (I o 44).toInt ∧ (I o 44).toInt ≤ 4 := hR.at0 ra 44 (by decide)
          refine y_Model_lay hok hw ra (by first | omega | (intro h; omega) | exact Or.inl rfl | exact Or.inr rfl) (by first | omega | (intro h; omega) | exact Or.inl rfl | exact Or.inr rfl) (by first | omega | (intro h; omega) | exact Or.inl rfl | exact Or.inr rfl) hR (fun I_84 L_85 hR_86 fr_87 kp_88 u_81 u_82 u_83 => ⟨I_84, L_85, rfl, rfl, ?_⟩)
          have hf_89 : Fm (fun c => c = o ∨ c = o + 2 ∨ (o + 26 ≤ c ∧ c < o + 34)) I0 I_84 := hf.call fr_87 (fun c hc => by first | exact hc | (dsimp only at hc ⊢; omega) | omega)
          have t_90 : (I_84 o 3).toInt = (I o 3).toInt := by rw [kp_88 3 rfl]
          have t_91 : (I_84 o 4).toInt = (I o 4).toInt := by rw [kp_88 4 rfl]
          have t_92 : (I_84 o 6).toInt = (I o 6).toInt := by rw [kp_88 6 rfl]
          have t_93 : (I_84 o 7).toInt = (I o 7).toInt := by rw [kp_88 7 rfl]
          have t_94 : (I_84 o 8).toInt = (I o 8).toInt := by rw [kp_88 8 rfl]
          have t_95 : (I_84 o 9).toInt = (I o 9).toInt := by rw [kp_88 9 rfl]
          have t_96 : (I_84 o 44).toInt = (I o 44).toInt := by rw [kp_88 44 rfl]
          have t_97 : (I_84 o 45).toInt = (I o 45).toInt := by rw [kp_88 45 rfl]
          have t_98 : (I_84 o 47).toInt = (I o 47).toInt := by rw [kp_88 47 rfl]
          have t_99 : (I_84 o 48).toInt = (I o 48).toInt := by rw [kp_88 48 rfl]
          have t_100 : (I_84 o 2).toInt = (I o 2).toInt := by rw [kp_88 2 rfl]
          have k_101 : MPo I_84 o := hi5.fr (kp_88 8 rfl) (kp_88 9 rfl)
          have k_102 : MTk I_84 o := hi6.fr (kp_88 6 rfl) (kp_88 7 rfl) (kp_88 8 rfl)
          have k_103 : MTd I_84 o := by exact MTd.cp hi4 (s := (I o 44).toNatClampNeg) (t := p1.toNatClampNeg) (by rw [show (I o 44).toNatClampNeg = 4 from (by have cl := tCl (x := I o 44) (by omega); omega)]; exact rs.td) u_81 u_82 u_83
          refine ⟨tIn (by omega) (by omega), ?_⟩
          exact (hp _ _ _ hR_86 hf_89 (by intro h; omega) (by intro h; omega) k_103)
        · have d_104 := iEq c_76
          have i_105 := u_74 (by omega)
          have l_106 : (-1 : Int32).toInt = -1 := rfl
          exact (hp _ _ _ hR hf (by intro h; omega) (by intro h; omega) hi4)
      · have d_107 := iNe c_69
        have k_108 : ReS I o := by exact hi7 (by omega)
        refine y_Model_readReform hok hw ra hz14 hz15 hz16 hz17 hz18 hz19 hz55 hz56 hz57 hz58 hz59 (by first | omega | (intro h; omega) | exact Or.inl rfl | exact Or.inr rfl) (by first | omega | (intro h; omega) | exact Or.inl rfl | exact Or.inr rfl) (by first | omega | (intro h; omega) | exact Or.inl rfl | exact Or.inr rfl) k_108 hi4 hi5 hi6 hR (fun I_119 L_120 hR_121 fr_122 kp_123 u_110 u_111 u_112 u_113 u_114 u_115 u_116 u_117 u_118 => ⟨I_119, L_120, rfl, rfl, ?_⟩)
        have hf_124 : Fm (fun c => c = o ∨ c = o + 2 ∨ (o + 26 ≤ c ∧ c < o + 34)) I0 I_119 := hf.call fr_122 (fun c hc => by first | exact hc | (dsimp only at hc ⊢; omega) | omega)
        have t_125 : (I_119 o 3).toInt = (I o 3).toInt := by rw [kp_123 3 rfl]
        have g_126 : (0 : Int) ≤ (I_119 o 4).toInt ∧ (I_119 o 4).toInt ≤ 5 := hR_121.at0 ra 4 (by decide)
        have g_127 : (0 : Int) ≤ (I_119 o 6).toInt ∧ (I_119 o 6).toInt ≤ 1600 := hR_121.at0 ra 6 (by decide)
        have g_128 : (0 : Int) ≤ (I_119 o 7).toInt ∧ (I_119 o 7).toInt ≤ 1601 := hR_121.at0 ra 7 (by decide)
        have g_129 : (0 : Int) ≤ (I_119 o 8).toInt ∧ (I_119 o 8).toInt ≤ 6 := hR_121.at0 ra 8 (by decide)
        have t_130 : (I_119 o 44).toInt = (I o 44).toInt := by rw [kp_123 44 rfl]
        have g_131 : (0 : Int) ≤ (I_119 o 45).toInt ∧ (I_119 o 45).toInt ≤ 700 := hR_121.at0 ra 45 (by decide)
        have g_132 : (0 : Int) ≤ (I_119 o 47).toInt ∧ (I_119 o 47).toInt ≤ 7 := hR_121.at0 ra 47 (by decide)
        have g_133 : (0 : Int) ≤ (I_119 o 48).toInt ∧ (I_119 o 48).toInt ≤ 80 := hR_121.at0 ra 48 (by decide)
        have t_134 : (I_119 o 2).toInt = (I o 2).toInt := by rw [kp_123 2 rfl]
        exact ih hR_121 hf_124 (by first | omega | (intro h; omega) | exact Or.inl rfl | exact Or.inr rfl) (by first | omega | (intro h; omega) | exact Or.inl rfl | exact Or.inr rfl) (by first | omega | (intro h; omega) | exact Or.inl rfl | exact Or.inr rfl) rfl u_115 u_116 u_117 u_118 (by omega)
set_option maxHeartbeats 4000000 in
set_option maxRecDepth 20000 in
theorem yModel_reform_54 {D : va_G} {cA : FieldType → ClassId} {b : Nat} {E : State → Prop} {R : qRg} {o n : Nat} {sh : Nat → qC} {Rf : Nat → Nat → Option Nat} {I0 : Nat → Nat → Int32} {L0 : Nat → Nat → Int64} {post : Option Value → qS → Prop} {p1 : Int32} (hok : q_ok (qGG D cA b E)) (hw : WfModel (qGG D cA b E) n sh Rf o) (ra : RAModel R o) (hz12 : R.2 12 = true) (hz13 : R.2 13 = true) (hz14 : R.2 14 = true) (hz15 : R.2 15 = true) (hz16 : R.2 16 = true) (hz17 : R.2 17 = true) (hz18 : R.2 18 = true) (hz19 : R.2 19 = true) (hz21 : R.2 21 = true) (hz54 : R.2 54 = true) (hz55 : R.2 55 = true) (hz56 : R.2 56 = true) (hz57 : R.2 57 = true) (hz58 : R.2 58 = true) (hz59 : R.2 59 = true) (hZ : Fz R I0 o wModel_reform) (hR0 : RI R I0) (hq0 : MTd I0 o) (hp : ∀ (r : Int32) (I' : Nat → Nat → Int32) (L' : Nat → Nat → Int64), RI R I' → Fm (fun c => c = o ∨ c = o + 2 ∨ (o + 26 ≤ c ∧ c < o + 34)) I0 I' → (Im ((I0 o 2).toInt ≤ 700 ∧ 0 ≤ p1.toInt ∧ p1.toInt ≤ 3) ((I' o 2).toInt = 0)) → (Im (¬ ((I0 o 2).toInt ≤ 700 ∧ 0 ≤ p1.toInt ∧ p1.toInt ≤ 3)) ((I' o 2).toInt = (I0 o 2).toInt)) → (MTd I' o) → post (some (.int r)) (n, sh, Rf, I', L')) : ∀ (k : Nat) {x1 : Int32} {x2 : Int32} {I : Nat → Nat → Int32} {L : Nat → Nat → Int64}, RI R I → Fm (fun c => c = o ∨ c = o + 2 ∨ (o + 26 ≤ c ∧ c < o + 34)) I0 I → ((0 : Int) ≤ x2.toInt ∧ x2.toInt ≤ 10) → ((I0 o 2).toInt ≤ 700 ∧ 0 ≤ p1.toInt ∧ p1.toInt ≤ 3) → ((I o 44).toInt = 4) → ((I o 7).toInt = 0) → ((I o 4).toInt = 0) → ((I o 3).toInt = (I0 o 2).toInt) → ((I o 2).toInt = 0) → (UFk I o x2.toInt) → (x1 = p1) → (MTd I o) → (10 - x2.toInt).toNat < k → Ev (qGG D cA b E) mModel_reform 7 (0, 0) 54 [(0, .ref o), (1, .int x1), (2, .int x2)] [] (n, sh, Rf, I, L) post := by
  intro k
  induction k with
  | zero =>
    intro x1 x2 I L hR hf hi0 hi1 hi2 hi3 hi4 hi5 hi6 hi7 hi8 hi9 hm
    exact absurd hm (Nat.not_lt_zero _)
  | succ k ih =>
    intro x1 x2 I L hR hf hi0 hi1 hi2 hi3 hi4 hi5 hi6 hi7 hi8 hi9 hm
    have hz0 := hi8.symm
    subst hz0
    have g_135 : (0 : Int) ≤ (I o 3).toInt ∧ (I o 3).toInt ≤ 1600 := hR.at0 ra 3 (by decide)
    have g_136 : (0 : Int) ≤ (I0 o 3).toInt ∧ (I0 o 3).toInt ≤ 1600 := hR0.at0 ra 3 (by decide)
    have g_137 : (0 : Int) ≤ (I o 4).toInt ∧ (I o 4).toInt ≤ 5 := hR.at0 ra 4 (by decide)
    have g_138 : (0 : Int) ≤ (I0 o 4).toInt ∧ (I0 o 4).toInt ≤ 5 := hR0.at0 ra 4 (by decide)
    have g_139 : (0 : Int) ≤ (I o 6).toInt ∧ (I o 6).toInt ≤ 1600 := hR.at0 ra 6 (by decide)
    have g_140 : (0 : Int) ≤ (I0 o 6).toInt ∧ (I0 o 6).toInt ≤ 1600 := hR0.at0 ra 6 (by decide)
    have g_141 : (0 : Int) ≤ (I o 7).toInt ∧ (I o 7).toInt ≤ 1601 := hR.at0 ra 7 (by decide)
    have g_142 : (0 : Int) ≤ (I0 o 7).toInt ∧ (I0 o 7).toInt ≤ 1601 := hR0.at0 ra 7 (by decide)
    have g_143 : (0 : Int) ≤ (I o 8).toInt ∧ (I o 8).toInt ≤ 6 := hR.at0 ra 8 (by decide)
    have g_144 : (0 : Int) ≤ (I0 o 8).toInt ∧ (I0 o 8).toInt ≤ 6 := hR0.at0 ra 8 (by decide)
    have g_145 : (0 : Int) ≤ (I o 44).toInt ∧ (I o 44).toInt ≤ 4 := hR.at0 ra 44 (by decide)
    have g_146 : (0 : Int) ≤ (I0 o 44).toInt ∧ (I0 o 44).toInt ≤ 4 := hR0.at0 ra 44 (by decide)
    have g_147 : (0 : Int) ≤ (I o 45).toInt ∧ (I o 45).toInt ≤ 700 := hR.at0 ra 45 (by decide)
    have g_148 : (0 : Int) ≤ (I0 o 45).toInt ∧ (I0 o 45).toInt ≤ 700 := hR0.at0 ra 45 (by decide)
    have g_149 : (0 : Int) ≤ (I o 47).toInt ∧ (I o 47).toInt ≤ 7 := hR.at0 ra 47 (by decide)
    have g_150 : (0 : Int) ≤ (I0 o 47).toInt ∧ (I0 o 47).toInt ≤ 7 := hR0.at0 ra 47 (by decide)
    have g_151 : (0 : Int) ≤ (I o 48).toInt ∧ (I o 48).toInt ≤ 80 := hR.at0 ra 48 (by decide)
    have g_152 : (0 : Int) ≤ (I0 o 48).toInt ∧ (I0 o 48).toInt ≤ 80 := hR0.at0 ra 48 (by decide)
    have g_153 : (0 : Int) ≤ (I o 2).toInt ∧ (I o 2).toInt ≤ 1600 := hR.at0 ra 2 (by decide)
    have g_154 : (0 : Int) ≤ (I0 o 2).toInt ∧ (I0 o 2).toInt ≤ 1600 := hR0.at0 ra 2 (by decide)
    refine sModel_reform_54 o n sh Rf I L post p1 x2 hok hw ?_
    unfold fModel_reform_54
    have l_155 : (10 : Int32).toInt = 10 := rfl
    refine ⟨fun c_156 => ?_, fun c_156 => ?_⟩
    · have d_157 := iLe c_156
      have l_158 : (0 : Int32).toInt = 0 := rfl
      refine fun I_159 e_160 => ?_
      have hR_161 : RI R I_159 := hR.up0 (k := 45) ra (by decide) (Or.inr hz55) e_160 (show (0 : Int) ≤ (0 : Int32).toInt by omega) (show (0 : Int32).toInt ≤ (700 : Int) by omega)
      have hf_162 : Fm (fun c => c = o ∨ c = o + 2 ∨ (o + 26 ≤ c ∧ c < o + 34)) I0 I_159 := hf.set (by first | rfl | omega | (dsimp only; omega)) e_160
      have t_163 : (I_159 o 3).toInt = (I o 3).toInt := by rw [← e_160, q_u_k (by decide)]
      have t_164 : (I_159 o 4).toInt = (I o 4).toInt := by rw [← e_160, q_u_k (by decide)]
      have t_165 : (I_159 o 6).toInt = (I o 6).toInt := by rw [← e_160, q_u_k (by decide)]
      have t_166 : (I_159 o 7).toInt = (I o 7).toInt := by rw [← e_160, q_u_k (by decide)]
      have t_167 : (I_159 o 8).toInt = (I o 8).toInt := by rw [← e_160, q_u_k (by decide)]
      have t_168 : (I_159 o 9).toInt = (I o 9).toInt := by rw [← e_160, q_u_k (by decide)]
      have t_169 : (I_159 o 44).toInt = (I o 44).toInt := by rw [← e_160, q_u_k (by decide)]
      have t_170 : (I_159 o 45).toInt = (0 : Int32).toInt := by rw [← e_160, q_u_at]
      have t_171 : (I_159 o 47).toInt = (I o 47).toInt := by rw [← e_160, q_u_k (by decide)]
      have t_172 : (I_159 o 48).toInt = (I o 48).toInt := by rw [← e_160, q_u_k (by decide)]
      have t_173 : (I_159 o 2).toInt = (I o 2).toInt := by rw [← e_160, q_u_k (by decide)]
      have k_174 : MTd I_159 o := hi9.fr (by rw [← e_160]; exact q_u_ne (by omega)) (by rw [← e_160]; exact q_u_ne (by omega)) (by rw [← e_160]; exact q_u_ne (by omega))
      refine fun I_175 e_176 => ?_
      have hR_177 : RI R I_175 := hR_161.up0 (k := 46) ra (by decide) (Or.inr hz56) e_176 (show (0 : Int) ≤ (0 : Int32).toInt by omega) (show (0 : Int32).toInt ≤ (100 : Int) by omega)
      have hf_178 : Fm (fun c => c = o ∨ c = o + 2 ∨ (o + 26 ≤ c ∧ c < o + 34)) I0 I_175 := hf_162.set (by first | rfl | omega | (dsimp only; omega)) e_176
      have t_179 : (I_175 o 3).toInt = (I_159 o 3).toInt := by rw [← e_176, q_u_k (by decide)]
      have t_180 : (I_175 o 4).toInt = (I_159 o 4).toInt := by rw [← e_176, q_u_k (by decide)]
      have t_181 : (I_175 o 6).toInt = (I_159 o 6).toInt := by rw [← e_176, q_u_k (by decide)]
      have t_182 : (I_175 o 7).toInt = (I_159 o 7).toInt := by rw [← e_176, q_u_k (by decide)]
      have t_183 : (I_175 o 8).toInt = (I_159 o 8).toInt := by rw [← e_176, q_u_k (by decide)]
      have t_184 : (I_175 o 9).toInt = (I_159 o 9).toInt := by rw [← e_176, q_u_k (by decide)]
      have t_185 : (I_175 o 44).toInt = (I_159 o 44).toInt := by rw [← e_176, q_u_k (by decide)]
      have t_186 : (I_175 o 45).toInt = (I_159 o 45).toInt := by rw [← e_176, q_u_k (by decide)]
      have t_187 : (I_175 o 47).toInt = (I_159 o 47).toInt := by rw [← e_176, q_u_k (by decide)]
      have t_188 : (I_175 o 48).toInt = (I_159 o 48).toInt := by rw [← e_176, q_u_k (by decide)]
      have t_189 : (I_175 o 2).toInt = (I_159 o 2).toInt := by rw [← e_176, q_u_k (by decide)]
      have t_190 : (I_175 o 46).toInt = (0 : Int32).toInt := by rw [← e_176, q_u_at]
      have k_191 : MTd I_175 o := k_174.fr (by rw [← e_176]; exact q_u_ne (by omega)) (by rw [← e_176]; exact q_u_ne (by omega)) (by rw [← e_176]; exact q_u_ne (by omega))
      refine y_Model_next hok hw ra hz16 hz17 hz18 hz19 (by first | omega | (intro h; omega) | exact Or.inl rfl | exact Or.inr rfl) hR_177 (fun I_201 L_202 hR_203 fr_204 kp_205 u_193 u_194 u_195 u_196 u_197 u_198 u_199 u_200 => ⟨I_201, L_202, rfl, rfl, ?_⟩)
      have hf_206 : Fm (fun c => c = o ∨ c = o + 2 ∨ (o + 26 ≤ c ∧ c < o + 34)) I0 I_201 := hf_178.call fr_204 (fun c hc => by first | exact hc | (dsimp only at hc ⊢; omega) | omega)
      have t_207 : (I_201 o 3).toInt = (I_175 o 3).toInt := by rw [kp_205 3 rfl]
      have t_208 : (I_201 o 4).toInt = (I_175 o 4).toInt := by rw [kp_205 4 rfl]
      have g_209 : (0 : Int) ≤ (I_201 o 6).toInt ∧ (I_201 o 6).toInt ≤ 1600 := hR_203.at0 ra 6 (by decide)
      have g_210 : (0 : Int) ≤ (I_201 o 7).toInt ∧ (I_201 o 7).toInt ≤ 1601 := hR_203.at0 ra 7 (by decide)
      have g_211 : (0 : Int) ≤ (I_201 o 8).toInt ∧ (I_201 o 8).toInt ≤ 6 := hR_203.at0 ra 8 (by decide)
      have t_212 : (I_201 o 44).toInt = (I_175 o 44).toInt := by rw [kp_205 44 rfl]
      have t_213 : (I_201 o 45).toInt = (I_175 o 45).toInt := by rw [kp_205 45 rfl]
      have t_214 : (I_201 o 47).toInt = (I_175 o 47).toInt := by rw [kp_205 47 rfl]
      have t_215 : (I_201 o 48).toInt = (I_175 o 48).toInt := by rw [kp_205 48 rfl]
      have t_216 : (I_201 o 2).toInt = (I_175 o 2).toInt := by rw [kp_205 2 rfl]
      have t_217 : (I_201 o 46).toInt = (I_175 o 46).toInt := by rw [kp_205 46 rfl]
      have k_218 : MTd I_201 o := k_191.fr (fr_204 _ (by first | omega | (dsimp only; omega))) (fr_204 _ (by first | omega | (dsimp only; omega))) (fr_204 _ (by first | omega | (dsimp only; omega)))
      have k_219 : ReG I_201 o := by intro _; exact ⟨by omega, by omega, by omega, by omega, by omega, UFk.sh hi7 (by omega) (by rw [fr_204 (o + 26) (by first | omega | (dsimp only; omega)), ← e_176, q_u_ne (by omega), ← e_160, q_u_ne (by omega)])⟩
      exact yModel_reform_95 (I0 := I0) (L0 := L0) (p1 := p1) hok hw ra hz12 hz13 hz14 hz15 hz16 hz17 hz18 hz19 hz21 hz54 hz55 hz56 hz57 hz58 hz59 hZ hR0 hq0 hp  _ hR_203 hf_206 (by first | omega | (intro h; omega) | exact Or.inl rfl | exact Or.inr rfl) (by first | omega | (intro h; omega) | exact Or.inl rfl | exact Or.inr rfl) (by first | omega | (intro h; omega) | exact Or.inl rfl | exact Or.inr rfl) rfl k_218 u_199 u_200 k_219 (Nat.lt_succ_self _)
    · have d_220 := iNle c_156
      have g_221 : (0 : Int) ≤ (I o 44).toInt ∧ (I o 44).toInt ≤ 4 := hR.at0 ra 44 (by decide)
      have a_222 : (10 * (I o 44)).toInt = 10 * (I o 44).toInt := tMulL rfl (by omega) (by omega)
      have a_223 : ((10 * (I o 44)) + x2).toInt = (10 * (I o 44)).toInt + x2.toInt := tAdd (by omega) (by omega)
      have l_224 : (-1 : Int32).toInt = -1 := rfl
      refine ⟨tIn (by omega) (by omega), fun I_225 e_226 => ?_⟩
      have hR_227 : RI R I_225 := hR.up ra 26 (by decide) (Or.inl rfl) e_226 (show (-1 : Int) ≤ ((-1) : Int32).toInt by omega) (show ((-1) : Int32).toInt ≤ (700 : Int) by omega)
      have hf_228 : Fm (fun c => c = o ∨ c = o + 2 ∨ (o + 26 ≤ c ∧ c < o + 34)) I0 I_225 := hf.set (by first | rfl | omega | (dsimp only; omega)) e_226
      have t_229 : (I_225 o 3).toInt = (I o 3).toInt := by rw [← e_226, q_u_ne (by omega)]
      have t_230 : (I_225 o 4).toInt = (I o 4).toInt := by rw [← e_226, q_u_ne (by omega)]
      have t_231 : (I_225 o 6).toInt = (I o 6).toInt := by rw [← e_226, q_u_ne (by omega)]
      have t_232 : (I_225 o 7).toInt = (I o 7).toInt := by rw [← e_226, q_u_ne (by omega)]
      have t_233 : (I_225 o 8).toInt = (I o 8).toInt := by rw [← e_226, q_u_ne (by omega)]
      have t_234 : (I_225 o 9).toInt = (I o 9).toInt := by rw [← e_226, q_u_ne (by omega)]
      have t_235 : (I_225 o 44).toInt = (I o 44).toInt := by rw [← e_226, q_u_ne (by omega)]
      have t_236 : (I_225 o 45).toInt = (I o 45).toInt := by rw [← e_226, q_u_ne (by omega)]
      have t_237 : (I_225 o 47).toInt = (I o 47).toInt := by rw [← e_226, q_u_ne (by omega)]
      have t_238 : (I_225 o 48).toInt = (I o 48).toInt := by rw [← e_226, q_u_ne (by omega)]
      have t_239 : (I_225 o 2).toInt = (I o 2).toInt := by rw [← e_226, q_u_ne (by omega)]
      have k_241 : MTd I_225 o := by exact MTd.p26 hi9 e_226 (by omega)
      have a_243 : (x2 + Int32.ofInt 1).toInt = x2.toInt + (1) := tIc (by omega) (by omega) (by decide) (by decide)
      generalize ez_242 : (x2 + Int32.ofInt 1) = z_242 at a_243 ⊢
      exact ih hR_227 hf_228 (by first | omega | (intro h; omega) | exact Or.inl rfl | exact Or.inr rfl) (by first | omega | (intro h; omega) | exact Or.inl rfl | exact Or.inr rfl) (by first | omega | (intro h; omega) | exact Or.inl rfl | exact Or.inr rfl) (by first | omega | (intro h; omega) | exact Or.inl rfl | exact Or.inr rfl) (by first | omega | (intro h; omega) | exact Or.inl rfl | exact Or.inr rfl) (by first | omega | (intro h; omega) | exact Or.inl rfl | exact Or.inr rfl) (by first | omega | (intro h; omega) | exact Or.inl rfl | exact Or.inr rfl) (by first | exact UFk.put hi7 e_226 (by omega) (by omega) (by omega) | exact UFk.zero (by omega)) rfl k_241 (by omega)
set_option maxHeartbeats 4000000 in
set_option maxRecDepth 20000 in
theorem yc_Model_reform {D : va_G} {cA : FieldType → ClassId} {b : Nat} {E : State → Prop} {R : qRg} {o n : Nat} {sh : Nat → qC} {Rf : Nat → Nat → Option Nat} {I0 : Nat → Nat → Int32} {L0 : Nat → Nat → Int64} {post : Option Value → qS → Prop} {p1 : Int32} (hok : q_ok (qGG D cA b E)) (hw : WfModel (qGG D cA b E) n sh Rf o) (ra : RAModel R o) (hz12 : R.2 12 = true) (hz13 : R.2 13 = true) (hz14 : R.2 14 = true) (hz15 : R.2 15 = true) (hz16 : R.2 16 = true) (hz17 : R.2 17 = true) (hz18 : R.2 18 = true) (hz19 : R.2 19 = true) (hz21 : R.2 21 = true) (hz54 : R.2 54 = true) (hz55 : R.2 55 = true) (hz56 : R.2 56 = true) (hz57 : R.2 57 = true) (hz58 : R.2 58 = true) (hz59 : R.2 59 = true) (hZ : Fz R I0 o wModel_reform) (hR0 : RI R I0) (hq0 : MTd I0 o) (hR : RI R I0) (hp : ∀ (r : Int32) (I' : Nat → Nat → Int32) (L' : Nat → Nat → Int64), RI R I' → Fm (fun c => c = o ∨ c = o + 2 ∨ (o + 26 ≤ c ∧ c < o + 34)) I0 I' → (Im ((I0 o 2).toInt ≤ 700 ∧ 0 ≤ p1.toInt ∧ p1.toInt ≤ 3) ((I' o 2).toInt = 0)) → (Im (¬ ((I0 o 2).toInt ≤ 700 ∧ 0 ≤ p1.toInt ∧ p1.toInt ≤ 3)) ((I' o 2).toInt = (I0 o 2).toInt)) → (MTd I' o) → post (some (.int r)) (n, sh, Rf, I', L')) : Ev (qGG D cA b E) mModel_reform 7 (0, 0) 0 (lv_args 0 [.ref o, .int p1]) [] (n, sh, Rf, I0, L0) post := by
  have hf : Fm (fun c => c = o ∨ c = o + 2 ∨ (o + 26 ≤ c ∧ c < o + 34)) I0 I0 := Fm.rf
  have g_244 : (0 : Int) ≤ (I0 o 3).toInt ∧ (I0 o 3).toInt ≤ 1600 := hR.at0 ra 3 (by decide)
  have g_245 : (0 : Int) ≤ (I0 o 4).toInt ∧ (I0 o 4).toInt ≤ 5 := hR.at0 ra 4 (by decide)
  have g_246 : (0 : Int) ≤ (I0 o 6).toInt ∧ (I0 o 6).toInt ≤ 1600 := hR.at0 ra 6 (by decide)
  have g_247 : (0 : Int) ≤ (I0 o 7).toInt ∧ (I0 o 7).toInt ≤ 1601 := hR.at0 ra 7 (by decide)
  have g_248 : (0 : Int) ≤ (I0 o 8).toInt ∧ (I0 o 8).toInt ≤ 6 := hR.at0 ra 8 (by decide)
  have g_249 : (0 : Int) ≤ (I0 o 44).toInt ∧ (I0 o 44).toInt ≤ 4 := hR.at0 ra 44 (by decide)
  have g_250 : (0 : Int) ≤ (I0 o 45).toInt ∧ (I0 o 45).toInt ≤ 700 := hR.at0 ra 45 (by decide)
  have g_251 : (0 : Int) ≤ (I0 o 47).toInt ∧ (I0 o 47).toInt ≤ 7 := hR.at0 ra 47 (by decide)
  have g_252 : (0 : Int) ≤ (I0 o 48).toInt ∧ (I0 o 48).toInt ≤ 80 := hR.at0 ra 48 (by decide)
  have g_253 : (0 : Int) ≤ (I0 o 2).toInt ∧ (I0 o 2).toInt ≤ 1600 := hR.at0 ra 2 (by decide)
  refine sModel_reform_0 o n sh Rf I0 L0 post p1 hok hw ?_
  unfold fModel_reform_0
  have g_254 : (0 : Int) ≤ (I0 o 2).toInt ∧ (I0 o 2).toInt ≤ 1600 := hR.at0 ra 2 (by decide)
  have l_255 : (700 : Int32).toInt = 700 := rfl
  refine ⟨fun c_256 => ?_, fun c_256 => ?_⟩
  · have d_257 := iLt c_256
    have l_258 : (-2 : Int32).toInt = -2 := rfl
    exact (hp _ _ _ hR hf (by intro h; omega) (by intro h; omega) hq0)
  · have d_259 := iNlt c_256
    have l_260 : (0 : Int32).toInt = 0 := rfl
    refine ⟨fun c_261 => ?_, fun c_261 => ?_⟩
    · have d_262 := iLt c_261
      have l_263 : (-2 : Int32).toInt = -2 := rfl
      exact (hp _ _ _ hR hf (by intro h; omega) (by intro h; omega) hq0)
    · have d_264 := iNlt c_261
      have l_265 : (4 : Int32).toInt = 4 := rfl
      refine ⟨fun c_266 => ?_, fun c_266 => ?_⟩
      · have d_267 := iLt c_266
        have l_268 : (1 : Int32).toInt = 1 := rfl
        refine y_Model_takeTape hok hw ra hz12 hz13 hz14 hz15 hz17 hz21 (by first | omega | (intro h; omega) | exact Or.inl rfl | exact Or.inr rfl) hR (fun I_274 L_275 hR_276 fr_277 kp_278 u_270 u_271 u_272 u_273 => ⟨I_274, L_275, rfl, rfl, ?_⟩)
        have hf_279 : Fm (fun c => c = o ∨ c = o + 2 ∨ (o + 26 ≤ c ∧ c < o + 34)) I0 I_274 := hf.call fr_277 (fun c hc => by first | exact hc | (dsimp only at hc ⊢; omega) | omega)
        have g_280 : (0 : Int) ≤ (I_274 o 3).toInt ∧ (I_274 o 3).toInt ≤ 1600 := hR_276.at0 ra 3 (by decide)
        have g_281 : (0 : Int) ≤ (I_274 o 4).toInt ∧ (I_274 o 4).toInt ≤ 5 := hR_276.at0 ra 4 (by decide)
        have t_282 : (I_274 o 6).toInt = (I0 o 6).toInt := by rw [kp_278 6 rfl]
        have g_283 : (0 : Int) ≤ (I_274 o 7).toInt ∧ (I_274 o 7).toInt ≤ 1601 := hR_276.at0 ra 7 (by decide)
        have t_284 : (I_274 o 8).toInt = (I0 o 8).toInt := by rw [kp_278 8 rfl]
        have t_285 : (I_274 o 9).toInt = (I0 o 9).toInt := by rw [kp_278 9 rfl]
        have t_286 : (I_274 o 44).toInt = (I0 o 44).toInt := by rw [kp_278 44 rfl]
        have t_287 : (I_274 o 45).toInt = (I0 o 45).toInt := by rw [kp_278 45 rfl]
        have t_288 : (I_274 o 47).toInt = (I0 o 47).toInt := by rw [kp_278 47 rfl]
        have t_289 : (I_274 o 48).toInt = (I0 o 48).toInt := by rw [kp_278 48 rfl]
        have g_290 : (0 : Int) ≤ (I_274 o 2).toInt ∧ (I_274 o 2).toInt ≤ 1600 := hR_276.at0 ra 2 (by decide)
        have k_291 : MTd I_274 o := hq0.fr (fr_277 _ (by first | omega | (dsimp only; omega))) (fr_277 _ (by first | omega | (dsimp only; omega))) (fr_277 _ (by first | omega | (dsimp only; omega)))
        refine fun I_292 e_293 => ?_
        have hR_294 : RI R I_292 := hR_276.up0 (k := 44) ra (by decide) (Or.inr hz54) e_293 (show (0 : Int) ≤ (4 : Int32).toInt by omega) (show (4 : Int32).toInt ≤ (4 : Int) by omega)
        have hf_295 : Fm (fun c => c = o ∨ c = o + 2 ∨ (o + 26 ≤ c ∧ c < o + 34)) I0 I_292 := hf_279.set (by first | rfl | omega | (dsimp only; omega)) e_293
        have t_296 : (I_292 o 3).toInt = (I_274 o 3).toInt := by rw [← e_293, q_u_k (by decide)]
        have t_297 : (I_292 o 4).toInt = (I_274 o 4).toInt := by rw [← e_293, q_u_k (by decide)]
        have t_298 : (I_292 o 6).toInt = (I_274 o 6).toInt := by rw [← e_293, q_u_k (by decide)]
        have t_299 : (I_292 o 7).toInt = (I_274 o 7).toInt := by rw [← e_293, q_u_k (by decide)]
        have t_300 : (I_292 o 8).toInt = (I_274 o 8).toInt := by rw [← e_293, q_u_k (by decide)]
        have t_301 : (I_292 o 9).toInt = (I_274 o 9).toInt := by rw [← e_293, q_u_k (by decide)]
        have t_302 : (I_292 o 44).toInt = (4 : Int32).toInt := by rw [← e_293, q_u_at]
        have t_303 : (I_292 o 45).toInt = (I_274 o 45).toInt := by rw [← e_293, q_u_k (by decide)]
        have t_304 : (I_292 o 47).toInt = (I_274 o 47).toInt := by rw [← e_293, q_u_k (by decide)]
        have t_305 : (I_292 o 48).toInt = (I_274 o 48).toInt := by rw [← e_293, q_u_k (by decide)]
        have t_306 : (I_292 o 2).toInt = (I_274 o 2).toInt := by rw [← e_293, q_u_k (by decide)]
        have k_307 : MTd I_292 o := k_291.fr (by rw [← e_293]; exact q_u_ne (by omega)) (by rw [← e_293]; exact q_u_ne (by omega)) (by rw [← e_293]; exact q_u_ne (by omega))
        have g_308 : (0 : Int) ≤ (I_292 o 44).toInt ∧ (I_292 o 44).toInt ≤ 4 := hR_294.at0 ra 44 (by decide)
        refine ⟨tIn (by omega) (by omega), fun I_309 e_310 => ?_⟩
        have hR_311 : RI R I_309 := hR_294.up ra 28 (by decide) (Or.inl rfl) e_310 (show (0 : Int) ≤ (0 : Int32).toInt by omega) (show (0 : Int32).toInt ≤ (5 : Int) by omega)
        have hf_312 : Fm (fun c => c = o ∨ c = o + 2 ∨ (o + 26 ≤ c ∧ c < o + 34)) I0 I_309 := hf_295.set (by first | rfl | omega | (dsimp only; omega)) e_310
        have t_313 : (I_309 o 3).toInt = (I_292 o 3).toInt := by rw [← e_310, q_u_ne (by omega)]
        have t_314 : (I_309 o 4).toInt = (I_292 o 4).toInt := by rw [← e_310, q_u_ne (by omega)]
        have t_315 : (I_309 o 6).toInt = (I_292 o 6).toInt := by rw [← e_310, q_u_ne (by omega)]
        have t_316 : (I_309 o 7).toInt = (I_292 o 7).toInt := by rw [← e_310, q_u_ne (by omega)]
        have t_317 : (I_309 o 8).toInt = (I_292 o 8).toInt := by rw [← e_310, q_u_ne (by omega)]
        have t_318 : (I_309 o 9).toInt = (I_292 o 9).toInt := by rw [← e_310, q_u_ne (by omega)]
        have t_319 : (I_309 o 44).toInt = (I_292 o 44).toInt := by rw [← e_310, q_u_ne (by omega)]
        have t_320 : (I_309 o 45).toInt = (I_292 o 45).toInt := by rw [← e_310, q_u_ne (by omega)]
        have t_321 : (I_309 o 47).toInt = (I_292 o 47).toInt := by rw [← e_310, q_u_ne (by omega)]
        have t_322 : (I_309 o 48).toInt = (I_292 o 48).toInt := by rw [← e_310, q_u_ne (by omega)]
        have t_323 : (I_309 o 2).toInt = (I_292 o 2).toInt := by rw [← e_310, q_u_ne (by omega)]
        have k_324 : MTd I_309 o := k_307.fr (by rw [← e_310]; exact q_u_ne (by omega)) (by rw [← e_310]; exact q_u_ne (by omega)) (by rw [← e_310]; exact q_u_ne (by omega))
        have g_325 : (0 : Int) ≤ (I_309 o 44).toInt ∧ (I_309 o 44).toInt ≤ 4 := hR_311.at0 ra 44 (by decide)
        refine ⟨tIn (by omega) (by omega), fun I_326 e_327 => ?_⟩
        have hR_328 : RI R I_326 := hR_311.up ra 29 (by decide) (Or.inl rfl) e_327 (i_lo _) (i_hi _)
        have hf_329 : Fm (fun c => c = o ∨ c = o + 2 ∨ (o + 26 ≤ c ∧ c < o + 34)) I0 I_326 := hf_312.set (by first | rfl | omega | (dsimp only; omega)) e_327
        have t_330 : (I_326 o 3).toInt = (I_309 o 3).toInt := by rw [← e_327, q_u_ne (by omega)]
        have t_331 : (I_326 o 4).toInt = (I_309 o 4).toInt := by rw [← e_327, q_u_ne (by omega)]
        have t_332 : (I_326 o 6).toInt = (I_309 o 6).toInt := by rw [← e_327, q_u_ne (by omega)]
        have t_333 : (I_326 o 7).toInt = (I_309 o 7).toInt := by rw [← e_327, q_u_ne (by omega)]
        have t_334 : (I_326 o 8).toInt = (I_309 o 8).toInt := by rw [← e_327, q_u_ne (by omega)]
        have t_335 : (I_326 o 9).toInt = (I_309 o 9).toInt := by rw [← e_327, q_u_ne (by omega)]
        have t_336 : (I_326 o 44).toInt = (I_309 o 44).toInt := by rw [← e_327, q_u_ne (by omega)]
        have t_337 : (I_326 o 45).toInt = (I_309 o 45).toInt := by rw [← e_327, q_u_ne (by omega)]
        have t_338 : (I_326 o 47).toInt = (I_309 o 47).toInt := by rw [← e_327, q_u_ne (by omega)]
        have t_339 : (I_326 o 48).toInt = (I_309 o 48).toInt := by rw [← e_327, q_u_ne (by omega)]
        have t_340 : (I_326 o 2).toInt = (I_309 o 2).toInt := by rw [← e_327, q_u_ne (by omega)]
        have k_341 : MTd I_326 o := k_324.fr (by rw [← e_327]; exact q_u_ne (by omega)) (by rw [← e_327]; exact q_u_ne (by omega)) (by rw [← e_327]; exact q_u_ne (by omega))
        exact yModel_reform_54 (I0 := I0) (L0 := L0) (p1 := p1) hok hw ra hz12 hz13 hz14 hz15 hz16 hz17 hz18 hz19 hz21 hz54 hz55 hz56 hz57 hz58 hz59 hZ hR0 hq0 hp  _ hR_328 hf_329 (by first | omega | (intro h; omega) | exact Or.inl rfl | exact Or.inr rfl) (by first | omega | (intro h; omega) | exact Or.inl rfl | exact Or.inr rfl) (by first | omega | (intro h; omega) | exact Or.inl rfl | exact Or.inr rfl) (by first | omega | (intro h; omega) | exact Or.inl rfl | exact Or.inr rfl) (by first | omega | (intro h; omega) | exact Or.inl rfl | exact Or.inr rfl) (by first | omega | (intro h; omega) | exact Or.inl rfl | exact Or.inr rfl) (by first | omega | (intro h; omega) | exact Or.inl rfl | exact Or.inr rfl) (by first | exact UFk.put hi7 e_327 (by omega) (by omega) (by omega) | exact UFk.zero (by omega)) rfl k_341 (Nat.lt_succ_self _)
      · have d_342 := iNlt c_266
        have l_343 : (-2 : Int32).toInt = -2 := rfl
        exact (hp _ _ _ hR hf (by intro h; omega) (by intro h; omega) hq0)
theorem y_Model_reform {D : va_G} {cA : FieldType → ClassId} {b : Nat} {E : State → Prop} {R : qRg} {o n : Nat} {sh : Nat → qC} {Rf : Nat → Nat → Option Nat} {I0 : Nat → Nat → Int32} {L0 : Nat → Nat → Int64} {post : Option Value → qS → Prop} {p1 : Int32} (hok : q_ok (qGG D cA b E)) (hw : WfModel (qGG D cA b E) n sh Rf o) (ra : RAModel R o) (hz12 : R.2 12 = true) (hz13 : R.2 13 = true) (hz14 : R.2 14 = true) (hz15 : R.2 15 = true) (hz16 : R.2 16 = true) (hz17 : R.2 17 = true) (hz18 : R.2 18 = true) (hz19 : R.2 19 = true) (hz21 : R.2 21 = true) (hz54 : R.2 54 = true) (hz55 : R.2 55 = true) (hz56 : R.2 56 = true) (hz57 : R.2 57 = true) (hz58 : R.2 58 = true) (hz59 : R.2 59 = true) (hq0 : MTd I0 o) (hR : RI R I0) (hp : ∀ (r : Int32) (I' : Nat → Nat → Int32) (L' : Nat → Nat → Int64), RI R I' → Fm (fun c => c = o ∨ c = o + 2 ∨ (o + 26 ≤ c ∧ c < o + 34)) I0 I' → Kp wModel_reform I0 I' o → (Im ((I0 o 2).toInt ≤ 700 ∧ 0 ≤ p1.toInt ∧ p1.toInt ≤ 3) ((I' o 2).toInt = 0)) → (Im (¬ ((I0 o 2).toInt ≤ 700 ∧ 0 ≤ p1.toInt ∧ p1.toInt ≤ 3)) ((I' o 2).toInt = (I0 o 2).toInt)) → (MTd I' o) → post (some (.int r)) (n, sh, Rf, I', L')) : Ev (qGG D cA b E) mModel_reform 7 (0, 0) 0 (lv_args 0 [.ref o, .int p1]) [] (n, sh, Rf, I0, L0) post :=
  yc_Model_reform (R := fzR R I0 o wModel_reform) hok hw (fzA ra hR _) (fzT hz12 rfl) (fzT hz13 rfl) (fzT hz14 rfl) (fzT hz15 rfl) (fzT hz16 rfl) (fzT hz17 rfl) (fzT hz18 rfl) (fzT hz19 rfl) (fzT hz21 rfl) (fzT hz54 rfl) (fzT hz55 rfl) (fzT hz56 rfl) (fzT hz57 rfl) (fzT hz58 rfl) (fzT hz59 rfl) fzZ (fzI hR) hq0 (fzI hR) (fun r I' L' h1 h2 u0 u1 u2 => hp r I' L' (fzB hR h1) h2 (fzP h1) u0 u1 u2)
