/-! The mirror of REFORM's reading, reference: r3e. By program (rrun.py). -/
noncomputable def gModel_lay_84 (k : Nat) (o : Nat) (J : gJ) (L : gL) (x1 : Int) (x2 : Int) (x3 : Int) : Int × gJ × gL := match k with
  | 0 => default
  | k + 1 => (if 700 ≤ x3 then (0, J, L) else gLet (700 * x2) (fun (v_1 : Int) => gLet (v_1 + x3) (fun (v_2 : Int) => gLet (700 * x1) (fun (v_3 : Int) => gLet (v_3 + x3) (fun (v_4 : Int) => gLet (J (o + 30) (Int.toNat v_4)) (fun (v_5 : Int) => gLet (q_u J (o + 30) (Int.toNat v_2) v_5) (fun (J_6 : gJ) => gLet (700 * x2) (fun (v_7 : Int) => gLet (v_7 + x3) (fun (v_8 : Int) => gLet (700 * x1) (fun (v_9 : Int) => gLet (v_9 + x3) (fun (v_10 : Int) => gLet (J_6 (o + 31) (Int.toNat v_10)) (fun (v_11 : Int) => gLet (q_u J_6 (o + 31) (Int.toNat v_8) v_11) (fun (J_12 : gJ) => gLet (x3 + 1) (fun (v_13 : Int) => (gModel_lay_84 k o J_12 L x1 x2 v_13)))))))))))))))
theorem eModel_lay_84 {k : Nat} {o : Nat} {J : gJ} {L : gL} {x1 : Int} {x2 : Int} {x3 : Int} : gModel_lay_84 (k + 1) o J L x1 x2 x3 = (if 700 ≤ x3 then (0, J, L) else gLet (700 * x2) (fun (v_1 : Int) => gLet (v_1 + x3) (fun (v_2 : Int) => gLet (700 * x1) (fun (v_3 : Int) => gLet (v_3 + x3) (fun (v_4 : Int) => gLet (J (o + 30) (Int.toNat v_4)) (fun (v_5 : Int) => gLet (q_u J (o + 30) (Int.toNat v_2) v_5) (fun (J_6 : gJ) => gLet (700 * x2) (fun (v_7 : Int) => gLet (v_7 + x3) (fun (v_8 : Int) => gLet (700 * x1) (fun (v_9 : Int) => gLet (v_9 + x3) (fun (v_10 : Int) => gLet (J_6 (o + 31) (Int.toNat v_10)) (fun (v_11 : Int) => gLet (q_u J_6 (o + 31) (Int.toNat v_8) v_11) (fun (J_12 : gJ) => gLet (x3 + 1) (fun (v_13 : Int) => (gModel_lay_84 k o J_12 L x1 x2 v_13))))))))))))))) := rfl
noncomputable def gModel_lay_26 (k : Nat) (o : Nat) (J : gJ) (L : gL) (x1 : Int) (x2 : Int) (x3 : Int) : Int × gJ × gL := match k with
  | 0 => default
  | k + 1 => (if 10 ≤ x3 then (gModel_lay_84 20000 o J L x1 x2 0) else gLet (10 * x2) (fun (v_1 : Int) => gLet (v_1 + x3) (fun (v_2 : Int) => gLet (10 * x1) (fun (v_3 : Int) => gLet (v_3 + x3) (fun (v_4 : Int) => gLet (J (o + 26) (Int.toNat v_4)) (fun (v_5 : Int) => gLet (q_u J (o + 26) (Int.toNat v_2) v_5) (fun (J_6 : gJ) => gLet (10 * x2) (fun (v_7 : Int) => gLet (v_7 + x3) (fun (v_8 : Int) => gLet (10 * x1) (fun (v_9 : Int) => gLet (v_9 + x3) (fun (v_10 : Int) => gLet (J_6 (o + 27) (Int.toNat v_10)) (fun (v_11 : Int) => gLet (q_u J_6 (o + 27) (Int.toNat v_8) v_11) (fun (J_12 : gJ) => gLet (x3 + 1) (fun (v_13 : Int) => (gModel_lay_26 k o J_12 L x1 x2 v_13)))))))))))))))
theorem eModel_lay_26 {k : Nat} {o : Nat} {J : gJ} {L : gL} {x1 : Int} {x2 : Int} {x3 : Int} : gModel_lay_26 (k + 1) o J L x1 x2 x3 = (if 10 ≤ x3 then (gModel_lay_84 20000 o J L x1 x2 0) else gLet (10 * x2) (fun (v_1 : Int) => gLet (v_1 + x3) (fun (v_2 : Int) => gLet (10 * x1) (fun (v_3 : Int) => gLet (v_3 + x3) (fun (v_4 : Int) => gLet (J (o + 26) (Int.toNat v_4)) (fun (v_5 : Int) => gLet (q_u J (o + 26) (Int.toNat v_2) v_5) (fun (J_6 : gJ) => gLet (10 * x2) (fun (v_7 : Int) => gLet (v_7 + x3) (fun (v_8 : Int) => gLet (10 * x1) (fun (v_9 : Int) => gLet (v_9 + x3) (fun (v_10 : Int) => gLet (J_6 (o + 27) (Int.toNat v_10)) (fun (v_11 : Int) => gLet (q_u J_6 (o + 27) (Int.toNat v_8) v_11) (fun (J_12 : gJ) => gLet (x3 + 1) (fun (v_13 : Int) => (gModel_lay_26 k o J_12 L x1 x2 v_13))))))))))))))) := rfl
noncomputable def gModel_lay_0 (o : Nat) (J : gJ) (L : gL) (x1 : Int) (x2 : Int) : Int × gJ × gL := gLet (J (o + 28) (Int.toNat x1)) (fun (v_1 : Int) => gLet (q_u J (o + 28) (Int.toNat x2) v_1) (fun (J_2 : gJ) => gLet (J_2 (o + 29) (Int.toNat x1)) (fun (v_3 : Int) => gLet (q_u J_2 (o + 29) (Int.toNat x2) v_3) (fun (J_4 : gJ) => (gModel_lay_26 20000 o J_4 L x1 x2 0)))))
theorem eModel_lay_0 {o : Nat} {J : gJ} {L : gL} {x1 : Int} {x2 : Int} : gModel_lay_0 o J L x1 x2 = gLet (J (o + 28) (Int.toNat x1)) (fun (v_1 : Int) => gLet (q_u J (o + 28) (Int.toNat x2) v_1) (fun (J_2 : gJ) => gLet (J_2 (o + 29) (Int.toNat x1)) (fun (v_3 : Int) => gLet (q_u J_2 (o + 29) (Int.toNat x2) v_3) (fun (J_4 : gJ) => (gModel_lay_26 20000 o J_4 L x1 x2 0))))) := rfl
set_option maxHeartbeats 4000000 in
set_option maxRecDepth 20000 in
theorem yModel_lay_84g {D : va_G} {cA : FieldType → ClassId} {b : Nat} {E : State → Prop} {R : qRg} {o n : Nat} {sh : Nat → qC} {Rf : Nat → Nat → Option Nat} {I0 : Nat → Nat → Int32} {L0 : Nat → Nat → Int64} {post : Option Value → qS → Prop} {p1 : Int32} {p2 : Int32} (hok : q_ok (qGG D cA b E)) (hw : WfModel (qGG D cA b E) n sh Rf o) (ra : RAModel R o) (hZ : Fz R I0 o wModel_lay) (hR0 : RI R I0) (hq0 : (0 : Int) ≤ p1.toInt ∧ p1.toInt ≤ 5) (hq1 : (0 : Int) ≤ p2.toInt ∧ p2.toInt ≤ 5) (hq2 : p1.toInt ≠ p2.toInt) (hp : ∀ (I' : Nat → Nat → Int32) (L' : Nat → Nat → Int64), RI R I' → Fm (fun c => (o + 26 ≤ c ∧ c < o + 32)) I0 I' → (CpR (I0 (o + 26)) (I' (o + 26)) 10 p1.toNatClampNeg p2.toNatClampNeg 10) → (CpR (I0 (o + 27)) (I' (o + 27)) 10 p1.toNatClampNeg p2.toNatClampNeg 10) → (CpR (I0 (o + 30)) (I' (o + 30)) 700 p1.toNatClampNeg p2.toNatClampNeg 700) → (gModel_lay_0 o (tI I0) L0 (p1).toInt (p2).toInt = (0, tI I', L')) → post none (n, sh, Rf, I', L')) : ∀ (k : Nat) {x1 : Int32} {x2 : Int32} {x3 : Int32} {I : Nat → Nat → Int32} {L : Nat → Nat → Int64}, RI R I → Fm (fun c => (o + 26 ≤ c ∧ c < o + 32)) I0 I → ((0 : Int) ≤ x3.toInt ∧ x3.toInt ≤ 700) → (CpR (I0 (o + 26)) (I (o + 26)) 10 p1.toNatClampNeg p2.toNatClampNeg 10) → (CpR (I0 (o + 27)) (I (o + 27)) 10 p1.toNatClampNeg p2.toNatClampNeg 10) → (CpR (I0 (o + 30)) (I (o + 30)) 700 p1.toNatClampNeg p2.toNatClampNeg x3.toInt) → (x1 = p1) → (x2 = p2) → (gModel_lay_84 k o (tI I) L (x1).toInt (x2).toInt (x3).toInt = gModel_lay_0 o (tI I0) L0 (p1).toInt (p2).toInt) → (700 - x3.toInt).toNat < k → Ev (qGG D cA b E) mModel_lay 0 (0, 0) 84 [(0, .ref o), (1, .int x1), (2, .int x2), (3, .int x3)] [] (n, sh, Rf, I, L) post := by
  intro k
  induction k with
  | zero =>
    intro x1 x2 x3 I L hR hf hi0 hi1 hi2 hi3 hi4 hi5 hg hm
    exact absurd hm (Nat.not_lt_zero _)
  | succ k ih =>
    intro x1 x2 x3 I L hR hf hi0 hi1 hi2 hi3 hi4 hi5 hg hm
    have hz0 := hi4.symm
    subst hz0
    have hz1 := hi5.symm
    subst hz1
    refine sModel_lay_84 o n sh Rf I L post p1 p2 x3 hok hw ?_
    unfold fModel_lay_84
    replace hg := (eModel_lay_84).symm.trans hg
    have l_1 : (700 : Int32).toInt = 700 := rfl
    refine ⟨fun c_2 => ?_, fun c_2 => ?_⟩
    · have d_3 := iLe c_2
      replace hg := gt_pos (by first | exact d_3 | omega) hg
      exact (hp _ _ hR hf (by clear hg; exact hi1) (by clear hg; exact hi2) (by clear hg; have e7 : x3.toInt = 700 := (by omega); rw [e7] at hi3; exact hi3) hg.symm)
    · have d_4 := iNle c_2
      replace hg := gt_neg (by first | exact d_4 | omega) hg
      have a_5 : (700 * p2).toInt = 700 * p2.toInt := tMulL rfl (by omega) (by omega)
      replace hg := gt_let (y := ((700 * p2) : Int32).toInt) (by omega) hg
      have a_6 : ((700 * p2) + x3).toInt = (700 * p2).toInt + x3.toInt := tAdd (by omega) (by omega)
      replace hg := gt_let (y := (((700 * p2) + x3) : Int32).toInt) (by omega) hg
      have a_7 : (700 * p1).toInt = 700 * p1.toInt := tMulL rfl (by omega) (by omega)
      replace hg := gt_let (y := ((700 * p1) : Int32).toInt) (by omega) hg
      have a_8 : ((700 * p1) + x3).toInt = (700 * p1).toInt + x3.toInt := tAdd (by omega) (by omega)
      replace hg := gt_let (y := (((700 * p1) + x3) : Int32).toInt) (by omega) hg
      refine ⟨tIn (by omega) (by omega), ?_⟩
      replace hg := gt_let (y := (I (o + 30) (((700 * p1) + x3) : Int32).toNatClampNeg).toInt) rfl hg
      refine ⟨tIn (by omega) (by omega), fun I_9 e_10 => ?_⟩
      replace hg := gt_let (y := tI I_9) (tI_q e_10) hg
      have hR_11 : RI R I_9 := hR.up ra 30 (by decide) (Or.inl rfl) e_10 (i_lo _) (i_hi _)
      have hf_12 : Fm (fun c => (o + 26 ≤ c ∧ c < o + 32)) I0 I_9 := hf.set (by first | rfl | omega | (dsimp only; omega)) e_10
      have a_13 : (700 * p2).toInt = 700 * p2.toInt := tMulL rfl (by omega) (by omega)
      replace hg := gt_let (y := ((700 * p2) : Int32).toInt) (by omega) hg
      have a_14 : ((700 * p2) + x3).toInt = (700 * p2).toInt + x3.toInt := tAdd (by omega) (by omega)
      replace hg := gt_let (y := (((700 * p2) + x3) : Int32).toInt) (by omega) hg
      have a_15 : (700 * p1).toInt = 700 * p1.toInt := tMulL rfl (by omega) (by omega)
      replace hg := gt_let (y := ((700 * p1) : Int32).toInt) (by omega) hg
      have a_16 : ((700 * p1) + x3).toInt = (700 * p1).toInt + x3.toInt := tAdd (by omega) (by omega)
      replace hg := gt_let (y := (((700 * p1) + x3) : Int32).toInt) (by omega) hg
      refine ⟨tIn (by omega) (by omega), ?_⟩
      replace hg := gt_let (y := (I_9 (o + 31) (((700 * p1) + x3) : Int32).toNatClampNeg).toInt) rfl hg
      refine ⟨tIn (by omega) (by omega), fun I_17 e_18 => ?_⟩
      replace hg := gt_let (y := tI I_17) (tI_q e_18) hg
      have hR_19 : RI R I_17 := hR_11.up ra 31 (by decide) (Or.inl rfl) e_18 (i_lo _) (i_hi _)
      have hf_20 : Fm (fun c => (o + 26 ≤ c ∧ c < o + 32)) I0 I_17 := hf_12.set (by first | rfl | omega | (dsimp only; omega)) e_18
      have c1 := tCl (x := p1) (by omega)
      have c2 := tCl (x := p2) (by omega)
      have c3 := tCl (x := (700 * p2) + x3) (by omega)
      have c4 := tCl (x := (700 * p1) + x3) (by omega)
      have a_22 : (x3 + Int32.ofInt 1).toInt = x3.toInt + (1) := tIc (by omega) (by omega) (by decide) (by decide)
      generalize ez_21 : (x3 + Int32.ofInt 1) = z_21 at a_22 ⊢
      replace hg := gt_let (y := z_21.toInt) (by omega) hg
      exact ih hR_19 hf_20 (by first | omega | (intro h; omega) | exact Or.inl rfl | exact Or.inr rfl) (by first | (rw [← e_18, q_u_ne (by omega), ← e_10, q_u_ne (by omega)]; exact hi1) | (have e10 : x3.toInt = 10 := (by omega); rw [e10] at hi1; exact hi1)) (by first | (rw [← e_18, q_u_ne (by omega), ← e_10, q_u_ne (by omega)]; exact hi2) | (have e10 : x3.toInt = 10 := (by omega); rw [e10] at hi2; exact hi2)) (by first | (rw [← e_18, q_u_ne (by omega)]; exact CpR.put hi3 e_10 (by omega) (by omega) (by omega) (by omega) (by omega) (by omega)) | (rw [hi3]; exact CpR.zero (by omega))) rfl rfl hg (by omega)
set_option maxHeartbeats 4000000 in
set_option maxRecDepth 20000 in
theorem yModel_lay_26g {D : va_G} {cA : FieldType → ClassId} {b : Nat} {E : State → Prop} {R : qRg} {o n : Nat} {sh : Nat → qC} {Rf : Nat → Nat → Option Nat} {I0 : Nat → Nat → Int32} {L0 : Nat → Nat → Int64} {post : Option Value → qS → Prop} {p1 : Int32} {p2 : Int32} (hok : q_ok (qGG D cA b E)) (hw : WfModel (qGG D cA b E) n sh Rf o) (ra : RAModel R o) (hZ : Fz R I0 o wModel_lay) (hR0 : RI R I0) (hq0 : (0 : Int) ≤ p1.toInt ∧ p1.toInt ≤ 5) (hq1 : (0 : Int) ≤ p2.toInt ∧ p2.toInt ≤ 5) (hq2 : p1.toInt ≠ p2.toInt) (hp : ∀ (I' : Nat → Nat → Int32) (L' : Nat → Nat → Int64), RI R I' → Fm (fun c => (o + 26 ≤ c ∧ c < o + 32)) I0 I' → (CpR (I0 (o + 26)) (I' (o + 26)) 10 p1.toNatClampNeg p2.toNatClampNeg 10) → (CpR (I0 (o + 27)) (I' (o + 27)) 10 p1.toNatClampNeg p2.toNatClampNeg 10) → (CpR (I0 (o + 30)) (I' (o + 30)) 700 p1.toNatClampNeg p2.toNatClampNeg 700) → (gModel_lay_0 o (tI I0) L0 (p1).toInt (p2).toInt = (0, tI I', L')) → post none (n, sh, Rf, I', L')) : ∀ (k : Nat) {x1 : Int32} {x2 : Int32} {x3 : Int32} {I : Nat → Nat → Int32} {L : Nat → Nat → Int64}, RI R I → Fm (fun c => (o + 26 ≤ c ∧ c < o + 32)) I0 I → ((0 : Int) ≤ x3.toInt ∧ x3.toInt ≤ 10) → (CpR (I0 (o + 26)) (I (o + 26)) 10 p1.toNatClampNeg p2.toNatClampNeg x3.toInt) → (CpR (I0 (o + 27)) (I (o + 27)) 10 p1.toNatClampNeg p2.toNatClampNeg x3.toInt) → (I (o + 30) = I0 (o + 30)) → (x1 = p1) → (x2 = p2) → (gModel_lay_26 k o (tI I) L (x1).toInt (x2).toInt (x3).toInt = gModel_lay_0 o (tI I0) L0 (p1).toInt (p2).toInt) → (10 - x3.toInt).toNat < k → Ev (qGG D cA b E) mModel_lay 0 (0, 0) 26 [(0, .ref o), (1, .int x1), (2, .int x2), (3, .int x3)] [] (n, sh, Rf, I, L) post := by
  intro k
  induction k with
  | zero =>
    intro x1 x2 x3 I L hR hf hi0 hi1 hi2 hi3 hi4 hi5 hg hm
    exact absurd hm (Nat.not_lt_zero _)
  | succ k ih =>
    intro x1 x2 x3 I L hR hf hi0 hi1 hi2 hi3 hi4 hi5 hg hm
    have hz0 := hi4.symm
    subst hz0
    have hz1 := hi5.symm
    subst hz1
    refine sModel_lay_26 o n sh Rf I L post p1 p2 x3 hok hw ?_
    unfold fModel_lay_26
    replace hg := (eModel_lay_26).symm.trans hg
    have l_23 : (10 : Int32).toInt = 10 := rfl
    refine ⟨fun c_24 => ?_, fun c_24 => ?_⟩
    · have d_25 := iLe c_24
      replace hg := gt_pos (by first | exact d_25 | omega) hg
      have l_26 : (0 : Int32).toInt = 0 := rfl
      exact yModel_lay_84g (I0 := I0) (L0 := L0) (p1 := p1) (p2 := p2) hok hw ra hZ hR0 hq0 hq1 hq2 hp  20000 hR hf (by first | omega | (intro h; omega) | exact Or.inl rfl | exact Or.inr rfl) (by first | (rw [← False.elim, q_u_ne (by omega), ← False.elim, q_u_ne (by omega)]; exact hi1) | (have e10 : x3.toInt = 10 := (by omega); rw [e10] at hi1; exact hi1)) (by first | (rw [← False.elim, q_u_ne (by omega), ← False.elim, q_u_ne (by omega)]; exact hi2) | (have e10 : x3.toInt = 10 := (by omega); rw [e10] at hi2; exact hi2)) (by first | (rw [← False.elim, q_u_ne (by omega)]; exact CpR.put hi3 False.elim (by omega) (by omega) (by omega) (by omega) (by omega) (by omega)) | (rw [hi3]; exact CpR.zero (by omega))) rfl rfl hg (by omega)
    · have d_27 := iNle c_24
      replace hg := gt_neg (by first | exact d_27 | omega) hg
      have a_28 : (10 * p2).toInt = 10 * p2.toInt := tMulL rfl (by omega) (by omega)
      replace hg := gt_let (y := ((10 * p2) : Int32).toInt) (by omega) hg
      have a_29 : ((10 * p2) + x3).toInt = (10 * p2).toInt + x3.toInt := tAdd (by omega) (by omega)
      replace hg := gt_let (y := (((10 * p2) + x3) : Int32).toInt) (by omega) hg
      have a_30 : (10 * p1).toInt = 10 * p1.toInt := tMulL rfl (by omega) (by omega)
      replace hg := gt_let (y := ((10 * p1) : Int32).toInt) (by omega) hg
      have a_31 : ((10 * p1) + x3).toInt = (10 * p1).toInt + x3.toInt := tAdd (by omega) (by omega)
      replace hg := gt_let (y := (((10 * p1) + x3) : Int32).toInt) (by omega) hg
      refine ⟨tIn (by omega) (by omega), ?_⟩
      have g_32 : (-1 : Int) ≤ (I (o + 26) (((10 * p1) + x3) : Int32).toNatClampNeg).toInt ∧ (I (o + 26) (((10 * p1) + x3) : Int32).toNatClampNeg).toInt ≤ 700 := hR.at ra 26 _ (by decide)
      replace hg := gt_let (y := (I (o + 26) (((10 * p1) + x3) : Int32).toNatClampNeg).toInt) rfl hg
      refine ⟨tIn (by omega) (by omega), fun I_33 e_34 => ?_⟩
      replace hg := gt_let (y := tI I_33) (tI_q e_34) hg
      have hR_35 : RI R I_33 := hR.up ra 26 (by decide) (Or.inl rfl) e_34 (show (-1 : Int) ≤ (I (o + 26) (((10 * p1) + x3) : Int32).toNatClampNeg).toInt by omega) (show (I (o + 26) (((10 * p1) + x3) : Int32).toNatClampNeg).toInt ≤ (700 : Int) by omega)
      have hf_36 : Fm (fun c => (o + 26 ≤ c ∧ c < o + 32)) I0 I_33 := hf.set (by first | rfl | omega | (dsimp only; omega)) e_34
      have a_37 : (10 * p2).toInt = 10 * p2.toInt := tMulL rfl (by omega) (by omega)
      replace hg := gt_let (y := ((10 * p2) : Int32).toInt) (by omega) hg
      have a_38 : ((10 * p2) + x3).toInt = (10 * p2).toInt + x3.toInt := tAdd (by omega) (by omega)
      replace hg := gt_let (y := (((10 * p2) + x3) : Int32).toInt) (by omega) hg
      have a_39 : (10 * p1).toInt = 10 * p1.toInt := tMulL rfl (by omega) (by omega)
      replace hg := gt_let (y := ((10 * p1) : Int32).toInt) (by omega) hg
      have a_40 : ((10 * p1) + x3).toInt = (10 * p1).toInt + x3.toInt := tAdd (by omega) (by omega)
      replace hg := gt_let (y := (((10 * p1) + x3) : Int32).toInt) (by omega) hg
      refine ⟨tIn (by omega) (by omega), ?_⟩
      have g_41 : (0 : Int) ≤ (I_33 (o + 27) (((10 * p1) + x3) : Int32).toNatClampNeg).toInt ∧ (I_33 (o + 27) (((10 * p1) + x3) : Int32).toNatClampNeg).toInt ≤ 700 := hR_35.at ra 27 _ (by decide)
      replace hg := gt_let (y := (I_33 (o + 27) (((10 * p1) + x3) : Int32).toNatClampNeg).toInt) rfl hg
      refine ⟨tIn (by omega) (by omega), fun I_42 e_43 => ?_⟩
      replace hg := gt_let (y := tI I_42) (tI_q e_43) hg
      have hR_44 : RI R I_42 := hR_35.up ra 27 (by decide) (Or.inl rfl) e_43 (show (0 : Int) ≤ (I_33 (o + 27) (((10 * p1) + x3) : Int32).toNatClampNeg).toInt by omega) (show (I_33 (o + 27) (((10 * p1) + x3) : Int32).toNatClampNeg).toInt ≤ (700 : Int) by omega)
      have hf_45 : Fm (fun c => (o + 26 ≤ c ∧ c < o + 32)) I0 I_42 := hf_36.set (by first | rfl | omega | (dsimp only; omega)) e_43
      have c1 := tCl (x := p1) (by omega)
      have c2 := tCl (x := p2) (by omega)
      have c3 := tCl (x := (10 * p2) + x3) (by omega)
      have c4 := tCl (x := (10 * p1) + x3) (by omega)
      have a_47 : (x3 + Int32.ofInt 1).toInt = x3.toInt + (1) := tIc (by omega) (by omega) (by decide) (by decide)
      generalize ez_46 : (x3 + Int32.ofInt 1) = z_46 at a_47 ⊢
      replace hg := gt_let (y := z_46.toInt) (by omega) hg
      exact ih hR_44 hf_45 (by first | omega | (intro h; omega) | exact Or.inl rfl | exact Or.inr rfl) (by first | (rw [← e_43, q_u_ne (by omega)]; exact CpR.put hi1 e_34 (by omega) (by omega) (by omega) (by omega) (by omega) (by omega)) | (rw [← e_43, q_u_ne (by omega), ← e_34, q_u_ne (by omega)]; exact CpR.zero (by omega))) (by first | exact CpR.put (by rw [← e_34, q_u_ne (by omega)]; exact hi2) e_43 (by omega) (by omega) (by omega) (by omega) (by omega) (by omega) | (rw [← e_43, q_u_ne (by omega), ← e_34, q_u_ne (by omega)]; exact CpR.zero (by omega))) (by first | (rw [← e_43, q_u_ne (by omega), ← e_34, q_u_ne (by omega)]; exact hi3) | rw [← e_43, q_u_ne (by omega), ← e_34, q_u_ne (by omega)]) rfl rfl hg (by omega)
set_option maxHeartbeats 4000000 in
set_option maxRecDepth 20000 in
theorem yc_Model_layg {D : va_G} {cA : FieldType → ClassId} {b : Nat} {E : State → Prop} {R : qRg} {o n : Nat} {sh : Nat → qC} {Rf : Nat → Nat → Option Nat} {I0 : Nat → Nat → Int32} {L0 : Nat → Nat → Int64} {post : Option Value → qS → Prop} {p1 : Int32} {p2 : Int32} (hok : q_ok (qGG D cA b E)) (hw : WfModel (qGG D cA b E) n sh Rf o) (ra : RAModel R o) (hZ : Fz R I0 o wModel_lay) (hR0 : RI R I0) (hq0 : (0 : Int) ≤ p1.toInt ∧ p1.toInt ≤ 5) (hq1 : (0 : Int) ≤ p2.toInt ∧ p2.toInt ≤ 5) (hq2 : p1.toInt ≠ p2.toInt) (hR : RI R I0) (hp : ∀ (I' : Nat → Nat → Int32) (L' : Nat → Nat → Int64), RI R I' → Fm (fun c => (o + 26 ≤ c ∧ c < o + 32)) I0 I' → (CpR (I0 (o + 26)) (I' (o + 26)) 10 p1.toNatClampNeg p2.toNatClampNeg 10) → (CpR (I0 (o + 27)) (I' (o + 27)) 10 p1.toNatClampNeg p2.toNatClampNeg 10) → (CpR (I0 (o + 30)) (I' (o + 30)) 700 p1.toNatClampNeg p2.toNatClampNeg 700) → (gModel_lay_0 o (tI I0) L0 (p1).toInt (p2).toInt = (0, tI I', L')) → post none (n, sh, Rf, I', L')) : Ev (qGG D cA b E) mModel_lay 0 (0, 0) 0 (lv_args 0 [.ref o, .int p1, .int p2]) [] (n, sh, Rf, I0, L0) post := by
  have hf : Fm (fun c => (o + 26 ≤ c ∧ c < o + 32)) I0 I0 := Fm.rf
  refine sModel_lay_0 o n sh Rf I0 L0 post p1 p2 hok hw ?_
  unfold fModel_lay_0
  have hg : gModel_lay_0 o (tI I0) L0 (p1).toInt (p2).toInt = gModel_lay_0 o (tI I0) L0 (p1).toInt (p2).toInt := rfl
  replace hg := (eModel_lay_0).symm.trans hg
  refine ⟨tIn (by omega) (by omega), ?_⟩
  have g_48 : (0 : Int) ≤ (I0 (o + 28) (p1 : Int32).toNatClampNeg).toInt ∧ (I0 (o + 28) (p1 : Int32).toNatClampNeg).toInt ≤ 5 := hR.at ra 28 _ (by decide)
  replace hg := gt_let (y := (I0 (o + 28) (p1 : Int32).toNatClampNeg).toInt) rfl hg
  refine ⟨tIn (by omega) (by omega), fun I_49 e_50 => ?_⟩
  replace hg := gt_let (y := tI I_49) (tI_q e_50) hg
  have hR_51 : RI R I_49 := hR.up ra 28 (by decide) (Or.inl rfl) e_50 (show (0 : Int) ≤ (I0 (o + 28) (p1 : Int32).toNatClampNeg).toInt by omega) (show (I0 (o + 28) (p1 : Int32).toNatClampNeg).toInt ≤ (5 : Int) by omega)
  have hf_52 : Fm (fun c => (o + 26 ≤ c ∧ c < o + 32)) I0 I_49 := hf.set (by first | rfl | omega | (dsimp only; omega)) e_50
  refine ⟨tIn (by omega) (by omega), ?_⟩
  replace hg := gt_let (y := (I_49 (o + 29) (p1 : Int32).toNatClampNeg).toInt) rfl hg
  refine ⟨tIn (by omega) (by omega), fun I_53 e_54 => ?_⟩
  replace hg := gt_let (y := tI I_53) (tI_q e_54) hg
  have hR_55 : RI R I_53 := hR_51.up ra 29 (by decide) (Or.inl rfl) e_54 (i_lo _) (i_hi _)
  have hf_56 : Fm (fun c => (o + 26 ≤ c ∧ c < o + 32)) I0 I_53 := hf_52.set (by first | rfl | omega | (dsimp only; omega)) e_54
  have l_57 : (0 : Int32).toInt = 0 := rfl
  exact yModel_lay_26g (I0 := I0) (L0 := L0) (p1 := p1) (p2 := p2) hok hw ra hZ hR0 hq0 hq1 hq2 hp  20000 hR_55 hf_56 (by first | omega | (intro h; omega) | exact Or.inl rfl | exact Or.inr rfl) (by first | (rw [← e_54, q_u_ne (by omega)]; exact CpR.put hi1 e_50 (by omega) (by omega) (by omega) (by omega) (by omega) (by omega)) | (rw [← e_54, q_u_ne (by omega), ← e_50, q_u_ne (by omega)]; exact CpR.zero (by omega))) (by first | exact CpR.put (by rw [← e_50, q_u_ne (by omega)]; exact hi2) e_54 (by omega) (by omega) (by omega) (by omega) (by omega) (by omega) | (rw [← e_54, q_u_ne (by omega), ← e_50, q_u_ne (by omega)]; exact CpR.zero (by omega))) (by first | (rw [← e_54, q_u_ne (by omega), ← e_50, q_u_ne (by omega)]; exact hi3) | rw [← e_54, q_u_ne (by omega), ← e_50, q_u_ne (by omega)]) rfl rfl hg (by omega)
theorem y_Model_layg {D : va_G} {cA : FieldType → ClassId} {b : Nat} {E : State → Prop} {R : qRg} {o n : Nat} {sh : Nat → qC} {Rf : Nat → Nat → Option Nat} {I0 : Nat → Nat → Int32} {L0 : Nat → Nat → Int64} {post : Option Value → qS → Prop} {p1 : Int32} {p2 : Int32} (hok : q_ok (qGG D cA b E)) (hw : WfModel (qGG D cA b E) n sh Rf o) (ra : RAModel R o) (hq0 : (0 : Int) ≤ p1.toInt ∧ p1.toInt ≤ 5) (hq1 : (0 : Int) ≤ p2.toInt ∧ p2.toInt ≤ 5) (hq2 : p1.toInt ≠ p2.toInt) (hR : RI R I0) (hp : ∀ (I' : Nat → Nat → Int32) (L' : Nat → Nat → Int64), RI R I' → Fm (fun c => (o + 26 ≤ c ∧ c < o + 32)) I0 I' → Kp wModel_lay I0 I' o → (CpR (I0 (o + 26)) (I' (o + 26)) 10 p1.toNatClampNeg p2.toNatClampNeg 10) → (CpR (I0 (o + 27)) (I' (o + 27)) 10 p1.toNatClampNeg p2.toNatClampNeg 10) → (CpR (I0 (o + 30)) (I' (o + 30)) 700 p1.toNatClampNeg p2.toNatClampNeg 700) → (gModel_lay_0 o (tI I0) L0 (p1).toInt (p2).toInt = (0, tI I', L')) → post none (n, sh, Rf, I', L')) : Ev (qGG D cA b E) mModel_lay 0 (0, 0) 0 (lv_args 0 [.ref o, .int p1, .int p2]) [] (n, sh, Rf, I0, L0) post :=
  yc_Model_layg (R := fzR R I0 o wModel_lay) hok hw (fzA ra hR _) fzZ (fzI hR) hq0 hq1 hq2 (fzI hR) (fun I' L' h1 h2 u0 u1 u2 ug => hp I' L' (fzB hR h1) h2 (fzP h1) u0 u1 u2 ug)
noncomputable def gModel_reform_95 (k : Nat) (o : Nat) (J : gJ) (L : gL) (x1 : Int) (x2 : Int) : Int × gJ × gL := match k with
  | 0 => default
  | k + 1 => gLet (gModel_isGood_0 o J L) (fun (r_1 : Int) => (if r_1 = 0 then gLet (gModel_isGood_0 o J L) (fun (r_2 : Int) => (if r_2 = 0 then ((-1), J, L) else gLet (J o 44) (fun (v_3 : Int) => gB3 (gModel_lay_0 o J L v_3 x1) (fun r_4 J_5 L_6 => gLet (J_5 (o + 29) (Int.toNat x1)) (fun (v_7 : Int) => (v_7, J_5, L_6)))))) else gLet (J o 8) (fun (v_8 : Int) => (if v_8 = 0 then gLet (gModel_isGood_0 o J L) (fun (r_9 : Int) => (if r_9 = 0 then ((-1), J, L) else gLet (J o 44) (fun (v_10 : Int) => gB3 (gModel_lay_0 o J L v_10 x1) (fun r_11 J_12 L_13 => gLet (J_12 (o + 29) (Int.toNat x1)) (fun (v_14 : Int) => (v_14, J_12, L_13)))))) else gB3 (gModel_readReform_0 o J L) (fun r_15 J_16 L_17 => (gModel_reform_95 k o J_16 L_17 x1 x2))))))
theorem eModel_reform_95 {k : Nat} {o : Nat} {J : gJ} {L : gL} {x1 : Int} {x2 : Int} : gModel_reform_95 (k + 1) o J L x1 x2 = gLet (gModel_isGood_0 o J L) (fun (r_1 : Int) => (if r_1 = 0 then gLet (gModel_isGood_0 o J L) (fun (r_2 : Int) => (if r_2 = 0 then ((-1), J, L) else gLet (J o 44) (fun (v_3 : Int) => gB3 (gModel_lay_0 o J L v_3 x1) (fun r_4 J_5 L_6 => gLet (J_5 (o + 29) (Int.toNat x1)) (fun (v_7 : Int) => (v_7, J_5, L_6)))))) else gLet (J o 8) (fun (v_8 : Int) => (if v_8 = 0 then gLet (gModel_isGood_0 o J L) (fun (r_9 : Int) => (if r_9 = 0 then ((-1), J, L) else gLet (J o 44) (fun (v_10 : Int) => gB3 (gModel_lay_0 o J L v_10 x1) (fun r_11 J_12 L_13 => gLet (J_12 (o + 29) (Int.toNat x1)) (fun (v_14 : Int) => (v_14, J_12, L_13)))))) else gB3 (gModel_readReform_0 o J L) (fun r_15 J_16 L_17 => (gModel_reform_95 k o J_16 L_17 x1 x2)))))) := rfl
noncomputable def gModel_reform_54 (k : Nat) (o : Nat) (J : gJ) (L : gL) (x1 : Int) (x2 : Int) : Int × gJ × gL := match k with
  | 0 => default
  | k + 1 => (if 10 ≤ x2 then gLet (q_u J o 45 0) (fun (J_1 : gJ) => gLet (q_u J_1 o 46 0) (fun (J_2 : gJ) => gB3 (gModel_next_0 o J_2 L) (fun r_3 J_4 L_5 => (gModel_reform_95 20000 o J_4 L_5 x1 x2)))) else gLet (J o 44) (fun (v_6 : Int) => gLet (10 * v_6) (fun (v_7 : Int) => gLet (v_7 + x2) (fun (v_8 : Int) => gLet (q_u J (o + 26) (Int.toNat v_8) (-1)) (fun (J_9 : gJ) => gLet (x2 + 1) (fun (v_10 : Int) => (gModel_reform_54 k o J_9 L x1 v_10)))))))
theorem eModel_reform_54 {k : Nat} {o : Nat} {J : gJ} {L : gL} {x1 : Int} {x2 : Int} : gModel_reform_54 (k + 1) o J L x1 x2 = (if 10 ≤ x2 then gLet (q_u J o 45 0) (fun (J_1 : gJ) => gLet (q_u J_1 o 46 0) (fun (J_2 : gJ) => gB3 (gModel_next_0 o J_2 L) (fun r_3 J_4 L_5 => (gModel_reform_95 20000 o J_4 L_5 x1 x2)))) else gLet (J o 44) (fun (v_6 : Int) => gLet (10 * v_6) (fun (v_7 : Int) => gLet (v_7 + x2) (fun (v_8 : Int) => gLet (q_u J (o + 26) (Int.toNat v_8) (-1)) (fun (J_9 : gJ) => gLet (x2 + 1) (fun (v_10 : Int) => (gModel_reform_54 k o J_9 L x1 v_10))))))) := rfl
noncomputable def gModel_reform_0 (o : Nat) (J : gJ) (L : gL) (x1 : Int) : Int × gJ × gL := gLet (J o 2) (fun (v_1 : Int) => (if 700 < v_1 then ((-2), J, L) else (if x1 < 0 then ((-2), J, L) else (if x1 < 4 then gB3 (gModel_takeTape_0 o J L 1) (fun r_2 J_3 L_4 => gLet (q_u J_3 o 44 4) (fun (J_5 : gJ) => gLet (J_5 o 44) (fun (v_6 : Int) => gLet (q_u J_5 (o + 28) (Int.toNat v_6) 0) (fun (J_7 : gJ) => gLet (J_7 o 44) (fun (v_8 : Int) => gLet (q_u J_7 (o + 29) (Int.toNat v_8) 0) (fun (J_9 : gJ) => (gModel_reform_54 20000 o J_9 L_4 x1 0))))))) else ((-2), J, L)))))
theorem eModel_reform_0 {o : Nat} {J : gJ} {L : gL} {x1 : Int} : gModel_reform_0 o J L x1 = gLet (J o 2) (fun (v_1 : Int) => (if 700 < v_1 then ((-2), J, L) else (if x1 < 0 then ((-2), J, L) else (if x1 < 4 then gB3 (gModel_takeTape_0 o J L 1) (fun r_2 J_3 L_4 => gLet (q_u J_3 o 44 4) (fun (J_5 : gJ) => gLet (J_5 o 44) (fun (v_6 : Int) => gLet (q_u J_5 (o + 28) (Int.toNat v_6) 0) (fun (J_7 : gJ) => gLet (J_7 o 44) (fun (v_8 : Int) => gLet (q_u J_7 (o + 29) (Int.toNat v_8) 0) (fun (J_9 : gJ) => (gModel_reform_54 20000 o J_9 L_4 x1 0))))))) else ((-2), J, L))))) := rfl
set_option maxHeartbeats 4000000 in
set_option maxRecDepth 20000 in
theorem yModel_reform_95g {D : va_G} {cA : FieldType → ClassId} {b : Nat} {E : State → Prop} {R : qRg} {o n : Nat} {sh : Nat → qC} {Rf : Nat → Nat → Option Nat} {I0 : Nat → Nat → Int32} {L0 : Nat → Nat → Int64} {post : Option Value → qS → Prop} {p1 : Int32} (hok : q_ok (qGG D cA b E)) (hw : WfModel (qGG D cA b E) n sh Rf o) (ra : RAModel R o) (hz12 : R.2 12 = true) (hz13 : R.2 13 = true) (hz14 : R.2 14 = true) (hz15 : R.2 15 = true) (hz16 : R.2 16 = true) (hz17 : R.2 17 = true) (hz18 : R.2 18 = true) (hz19 : R.2 19 = true) (hz21 : R.2 21 = true) (hz54 : R.2 54 = true) (hz55 : R.2 55 = true) (hz56 : R.2 56 = true) (hz57 : R.2 57 = true) (hz58 : R.2 58 = true) (hz59 : R.2 59 = true) (hZ : Fz R I0 o wModel_reform) (hR0 : RI R I0) (hq0 : MTd I0 o) (hp : ∀ (r : Int32) (I' : Nat → Nat → Int32) (L' : Nat → Nat → Int64), RI R I' → Fm (fun c => c = o ∨ c = o + 2 ∨ (o + 26 ≤ c ∧ c < o + 34)) I0 I' → (Im ((I0 o 2).toInt ≤ 700 ∧ 0 ≤ p1.toInt ∧ p1.toInt ≤ 3) ((I' o 2).toInt = 0)) → (Im (¬ ((I0 o 2).toInt ≤ 700 ∧ 0 ≤ p1.toInt ∧ p1.toInt ≤ 3)) ((I' o 2).toInt = (I0 o 2).toInt)) → (MTd I' o) → (gModel_reform_0 o (tI I0) L0 (p1).toInt = (r.toInt, tI I', L')) → post (some (.int r)) (n, sh, Rf, I', L')) : ∀ (k : Nat) {x1 : Int32} {x2 : Int32} {I : Nat → Nat → Int32} {L : Nat → Nat → Int64}, RI R I → Fm (fun c => c = o ∨ c = o + 2 ∨ (o + 26 ≤ c ∧ c < o + 34)) I0 I → ((I0 o 2).toInt ≤ 700 ∧ 0 ≤ p1.toInt ∧ p1.toInt ≤ 3) → ((I o 7).toInt ≤ (I o 3).toInt) → ((I o 2).toInt = 0) → (x1 = p1) → (MTd I o) → (MPo I o) → (MTk I o) → (ReG I o) → (gModel_reform_95 k o (tI I) L (x1).toInt (x2).toInt = gModel_reform_0 o (tI I0) L0 (p1).toInt) → (11300 - (7 * (I o 7).toInt - (I o 8).toInt + (I o 4).toInt)).toNat < k → Ev (qGG D cA b E) mModel_reform 7 (0, 0) 95 [(0, .ref o), (1, .int x1), (2, .int x2)] [] (n, sh, Rf, I, L) post := by
  intro k
  induction k with
  | zero =>
    intro x1 x2 I L hR hf hi0 hi1 hi2 hi3 hi4 hi5 hi6 hi7 hg hm
    exact absurd hm (Nat.not_lt_zero _)
  | succ k ih =>
    intro x1 x2 I L hR hf hi0 hi1 hi2 hi3 hi4 hi5 hi6 hi7 hg hm
    have hz0 := hi3.symm
    subst hz0
    have g_1 : (0 : Int) ≤ (I o 3).toInt ∧ (I o 3).toInt ≤ 1600 := hR.at0 ra 3 (by decide)
    have g_2 : (0 : Int) ≤ (I0 o 3).toInt ∧ (I0 o 3).toInt ≤ 1600 := hR0.at0 ra 3 (by decide)
    have g_3 : (0 : Int) ≤ (I o 4).toInt ∧ (I o 4).toInt ≤ 5 := hR.at0 ra 4 (by decide)
    have g_4 : (0 : Int) ≤ (I0 o 4).toInt ∧ (I0 o 4).toInt ≤ 5 := hR0.at0 ra 4 (by decide)
    have g_5 : (0 : Int) ≤ (I o 6).toInt ∧ (I o 6).toInt ≤ 1600 := hR.at0 ra 6 (by decide)
    have g_6 : (0 : Int) ≤ (I0 o 6).toInt ∧ (I0 o 6).toInt ≤ 1600 := hR0.at0 ra 6 (by decide)
    have g_7 : (0 : Int) ≤ (I o 7).toInt ∧ (I o 7).toInt ≤ 1601 := hR.at0 ra 7 (by decide)
    have g_8 : (0 : Int) ≤ (I0 o 7).toInt ∧ (I0 o 7).toInt ≤ 1601 := hR0.at0 ra 7 (by decide)
    have g_9 : (0 : Int) ≤ (I o 8).toInt ∧ (I o 8).toInt ≤ 6 := hR.at0 ra 8 (by decide)
    have g_10 : (0 : Int) ≤ (I0 o 8).toInt ∧ (I0 o 8).toInt ≤ 6 := hR0.at0 ra 8 (by decide)
    have g_11 : (0 : Int) ≤ (I o 44).toInt ∧ (I o 44).toInt ≤ 4 := hR.at0 ra 44 (by decide)
    have g_12 : (0 : Int) ≤ (I0 o 44).toInt ∧ (I0 o 44).toInt ≤ 4 := hR0.at0 ra 44 (by decide)
    have g_13 : (0 : Int) ≤ (I o 45).toInt ∧ (I o 45).toInt ≤ 700 := hR.at0 ra 45 (by decide)
    have g_14 : (0 : Int) ≤ (I0 o 45).toInt ∧ (I0 o 45).toInt ≤ 700 := hR0.at0 ra 45 (by decide)
    have g_15 : (0 : Int) ≤ (I o 47).toInt ∧ (I o 47).toInt ≤ 7 := hR.at0 ra 47 (by decide)
    have g_16 : (0 : Int) ≤ (I0 o 47).toInt ∧ (I0 o 47).toInt ≤ 7 := hR0.at0 ra 47 (by decide)
    have g_17 : (0 : Int) ≤ (I o 48).toInt ∧ (I o 48).toInt ≤ 80 := hR.at0 ra 48 (by decide)
    have g_18 : (0 : Int) ≤ (I0 o 48).toInt ∧ (I0 o 48).toInt ≤ 80 := hR0.at0 ra 48 (by decide)
    have g_19 : (0 : Int) ≤ (I o 2).toInt ∧ (I o 2).toInt ≤ 1600 := hR.at0 ra 2 (by decide)
    have g_20 : (0 : Int) ≤ (I0 o 2).toInt ∧ (I0 o 2).toInt ≤ 1600 := hR0.at0 ra 2 (by decide)
    refine sModel_reform_95 o n sh Rf I L post p1 x2 hok hw ?_
    unfold fModel_reform_95
    replace hg := (eModel_reform_95).symm.trans hg
    refine y_Model_isGoodg hok hw ra hR (fun r_21 u_22 u_23 u_24 gn_25 => ⟨r_21, I, L, rfl, rfl, ?_⟩)
    replace hg := gt_let gn_25 hg
    clear gn_25
    have b_26 : 0 ≤ r_21.toInt ∧ r_21.toInt ≤ 1 := u_22.rg
    have l_27 : (0 : Int32).toInt = 0 := rfl
    refine ⟨fun c_28 => ?_, fun c_28 => ?_⟩
    · have d_29 := iEq c_28
      have i_30 := u_24 (by omega)
      replace hg := gt_pos (by first | exact d_29 | omega) hg
      refine y_Model_isGoodg hok hw ra hR (fun r_31 u_32 u_33 u_34 gn_35 => ⟨r_31, I, L, rfl, rfl, ?_⟩)
      replace hg := gt_let gn_35 hg
      clear gn_35
      have b_36 : 0 ≤ r_31.toInt ∧ r_31.toInt ≤ 1 := u_32.rg
      refine ⟨fun c_37 => ?_, fun c_37 => ?_⟩
      · have d_38 := iNe c_37
        have i_39 := u_33 (by omega)
        replace hg := gt_neg (by first | exact d_38 | omega) hg
        have rs := hi7 (by omega)
        have r4 := rs.1
        have g_40 : (0 : Int) ≤ (I o 44).toInt ∧ (I o 44).toInt ≤ 4 := hR.at0 ra 44 (by decide)
        replace hg := gt_let (y := (I o 44).toInt) rfl hg
        refine y_Model_layg hok hw ra (by first | omega | (intro h; omega) | exact Or.inl rfl | exact Or.inr rfl) (by first | omega | (intro h; omega) | exact Or.inl rfl | exact Or.inr rfl) (by first | omega | (intro h; omega) | exact Or.inl rfl | exact Or.inr rfl) hR (fun I_46 L_47 hR_48 fr_49 kp_50 u_42 u_43 u_44 gn_45 => ⟨I_46, L_47, rfl, rfl, ?_⟩)
        replace hg := gt_b3 gn_45 hg
        clear gn_45
        have hf_51 : Fm (fun c => c = o ∨ c = o + 2 ∨ (o + 26 ≤ c ∧ c < o + 34)) I0 I_46 := hf.call fr_49 (fun c hc => by first | exact hc | (dsimp only at hc ⊢; omega) | omega)
        have t_52 : (I_46 o 3).toInt = (I o 3).toInt := by rw [kp_50 3 rfl]
        have t_53 : (I_46 o 4).toInt = (I o 4).toInt := by rw [kp_50 4 rfl]
        have t_54 : (I_46 o 6).toInt = (I o 6).toInt := by rw [kp_50 6 rfl]
        have t_55 : (I_46 o 7).toInt = (I o 7).toInt := by rw [kp_50 7 rfl]
        have t_56 : (I_46 o 8).toInt = (I o 8).toInt := by rw [kp_50 8 rfl]
        have t_57 : (I_46 o 9).toInt = (I o 9).toInt := by rw [kp_50 9 rfl]
        have t_58 : (I_46 o 44).toInt = (I o 44).toInt := by rw [kp_50 44 rfl]
        have t_59 : (I_46 o 45).toInt = (I o 45).toInt := by rw [kp_50 45 rfl]
        have t_60 : (I_46 o 47).toInt = (I o 47).toInt := by rw [kp_50 47 rfl]
        have t_61 : (I_46 o 48).toInt = (I o 48).toInt := by rw [kp_50 48 rfl]
        have t_62 : (I_46 o 2).toInt = (I o 2).toInt := by rw [kp_50 2 rfl]
        have k_63 : MPo I_46 o := hi5.fr (kp_50 8 rfl) (kp_50 9 rfl)
        have k_64 : MTk I_46 o := hi6.fr (kp_50 6 rfl) (kp_50 7 rfl) (kp_50 8 rfl)
        have k_65 : MTd I_46 o := by exact MTd.cp hi4 (s := (I o 44).toNatClampNeg) (t := p1.toNatClampNeg) (by rw [show (I o 44).toNatClampNeg = 4 from (by have cl := tCl (x := I o 44) (by omega); omega)]; exact rs.td) u_42 u_43 u_44
        refine ⟨tIn (by omega) (by omega), ?_⟩
        replace hg := gt_let (y := (I_46 (o + 29) (p1 : Int32).toNatClampNeg).toInt) rfl hg
        exact (hp _ _ _ hR_48 hf_51 (by clear hg; intro h; omega) (by clear hg; intro h; omega) k_65 hg.symm)
      · have d_66 := iEq c_37
        have i_67 := u_34 (by omega)
        replace hg := gt_pos (by first | exact d_66 | omega) hg
        have l_68 : (-1 : Int32).toInt = -1 := rfl
        exact (hp _ _ _ hR hf (by clear hg; intro h; omega) (by clear hg; intro h; omega) hi4 hg.symm)
    · have d_69 := iNe c_28
      have i_70 := u_23 (by omega)
      replace hg := gt_neg (by first | exact d_69 | omega) hg
      have g_71 : (0 : Int) ≤ (I o 8).toInt ∧ (I o 8).toInt ≤ 6 := hR.at0 ra 8 (by decide)
      replace hg := gt_let (y := (I o 8).toInt) rfl hg
      refine ⟨fun c_72 => ?_, fun c_72 => ?_⟩
      · have d_73 := iEq c_72
        replace hg := gt_pos (by first | exact d_73 | omega) hg
        refine y_Model_isGoodg hok hw ra hR (fun r_74 u_75 u_76 u_77 gn_78 => ⟨r_74, I, L, rfl, rfl, ?_⟩)
        replace hg := gt_let gn_78 hg
        clear gn_78
        have b_79 : 0 ≤ r_74.toInt ∧ r_74.toInt ≤ 1 := u_75.rg
        refine ⟨fun c_80 => ?_, fun c_80 => ?_⟩
        · have d_81 := iNe c_80
          have i_82 := u_76 (by omega)
          replace hg := gt_neg (by first | exact d_81 | omega) hg
          have rs := hi7 (by omega)
          have r4 := rs.1
          have g_83 : (0 : Int) ≤ (I o 44).toInt ∧ (I o 44).toInt ≤ 4 := hR.at0 ra 44 (by decide)
          replace hg := gt_let (y := (I o 44).toInt) rfl hg
          refine y_Model_layg hok hw ra (by first | omega | (intro h; omega) | exact Or.inl rfl | exact Or.inr rfl) (by first | omega | (intro h; omega) | exact Or.inl rfl | exact Or.inr rfl) (by first | omega | (intro h; omega) | exact Or.inl rfl | exact Or.inr rfl) hR (fun I_89 L_90 hR_91 fr_92 kp_93 u_85 u_86 u_87 gn_88 => ⟨I_89, L_90, rfl, rfl, ?_⟩)
          replace hg := gt_b3 gn_88 hg
          clear gn_88
          have hf_94 : Fm (fun c => c = o ∨ c = o + 2 ∨ (o + 26 ≤ c ∧ c < o + 34)) I0 I_89 := hf.call fr_92 (fun c hc => by first | exact hc | (dsimp only at hc ⊢; omega) | omega)
          have t_95 : (I_89 o 3).toInt = (I o 3).toInt := by rw [kp_93 3 rfl]
          have t_96 : (I_89 o 4).toInt = (I o 4).toInt := by rw [kp_93 4 rfl]
          have t_97 : (I_89 o 6).toInt = (I o 6).toInt := by rw [kp_93 6 rfl]
          have t_98 : (I_89 o 7).toInt = (I o 7).toInt := by rw [kp_93 7 rfl]
          have t_99 : (I_89 o 8).toInt = (I o 8).toInt := by rw [kp_93 8 rfl]
          have t_100 : (I_89 o 9).toInt = (I o 9).toInt := by rw [kp_93 9 rfl]
          have t_101 : (I_89 o 44).toInt = (I o 44).toInt := by rw [kp_93 44 rfl]
          have t_102 : (I_89 o 45).toInt = (I o 45).toInt := by rw [kp_93 45 rfl]
          have t_103 : (I_89 o 47).toInt = (I o 47).toInt := by rw [kp_93 47 rfl]
          have t_104 : (I_89 o 48).toInt = (I o 48).toInt := by rw [kp_93 48 rfl]
          have t_105 : (I_89 o 2).toInt = (I o 2).toInt := by rw [kp_93 2 rfl]
          have k_106 : MPo I_89 o := hi5.fr (kp_93 8 rfl) (kp_93 9 rfl)
          have k_107 : MTk I_89 o := hi6.fr (kp_93 6 rfl) (kp_93 7 rfl) (kp_93 8 rfl)
          have k_108 : MTd I_89 o := by exact MTd.cp hi4 (s := (I o 44).toNatClampNeg) (t := p1.toNatClampNeg) (by rw [show (I o 44).toNatClampNeg = 4 from (by have cl := tCl (x := I o 44) (by omega); omega)]; exact rs.td) u_85 u_86 u_87
          refine ⟨tIn (by omega) (by omega), ?_⟩
          replace hg := gt_let (y := (I_89 (o + 29) (p1 : Int32).toNatClampNeg).toInt) rfl hg
          exact (hp _ _ _ hR_91 hf_94 (by clear hg; intro h; omega) (by clear hg; intro h; omega) k_108 hg.symm)
        · have d_109 := iEq c_80
          have i_110 := u_77 (by omega)
          replace hg := gt_pos (by first | exact d_109 | omega) hg
          have l_111 : (-1 : Int32).toInt = -1 := rfl
          exact (hp _ _ _ hR hf (by clear hg; intro h; omega) (by clear hg; intro h; omega) hi4 hg.symm)
      · have d_112 := iNe c_72
        replace hg := gt_neg (by first | exact d_112 | omega) hg
        have k_113 : ReS I o := by exact hi7 (by omega)
        refine y_Model_readReformg hok hw ra hz14 hz15 hz16 hz17 hz18 hz19 hz55 hz56 hz57 hz58 hz59 (by first | omega | (intro h; omega) | exact Or.inl rfl | exact Or.inr rfl) (by first | omega | (intro h; omega) | exact Or.inl rfl | exact Or.inr rfl) (by first | omega | (intro h; omega) | exact Or.inl rfl | exact Or.inr rfl) k_113 hi4 hi5 hi6 hR (fun I_125 L_126 hR_127 fr_128 kp_129 u_115 u_116 u_117 u_118 u_119 u_120 u_121 u_122 u_123 gn_124 => ⟨I_125, L_126, rfl, rfl, ?_⟩)
        replace hg := gt_b3 gn_124 hg
        clear gn_124
        have hf_130 : Fm (fun c => c = o ∨ c = o + 2 ∨ (o + 26 ≤ c ∧ c < o + 34)) I0 I_125 := hf.call fr_128 (fun c hc => by first | exact hc | (dsimp only at hc ⊢; omega) | omega)
        have t_131 : (I_125 o 3).toInt = (I o 3).toInt := by rw [kp_129 3 rfl]
        have g_132 : (0 : Int) ≤ (I_125 o 4).toInt ∧ (I_125 o 4).toInt ≤ 5 := hR_127.at0 ra 4 (by decide)
        have g_133 : (0 : Int) ≤ (I_125 o 6).toInt ∧ (I_125 o 6).toInt ≤ 1600 := hR_127.at0 ra 6 (by decide)
        have g_134 : (0 : Int) ≤ (I_125 o 7).toInt ∧ (I_125 o 7).toInt ≤ 1601 := hR_127.at0 ra 7 (by decide)
        have g_135 : (0 : Int) ≤ (I_125 o 8).toInt ∧ (I_125 o 8).toInt ≤ 6 := hR_127.at0 ra 8 (by decide)
        have t_136 : (I_125 o 44).toInt = (I o 44).toInt := by rw [kp_129 44 rfl]
        have g_137 : (0 : Int) ≤ (I_125 o 45).toInt ∧ (I_125 o 45).toInt ≤ 700 := hR_127.at0 ra 45 (by decide)
        have g_138 : (0 : Int) ≤ (I_125 o 47).toInt ∧ (I_125 o 47).toInt ≤ 7 := hR_127.at0 ra 47 (by decide)
        have g_139 : (0 : Int) ≤ (I_125 o 48).toInt ∧ (I_125 o 48).toInt ≤ 80 := hR_127.at0 ra 48 (by decide)
        have t_140 : (I_125 o 2).toInt = (I o 2).toInt := by rw [kp_129 2 rfl]
        exact ih hR_127 hf_130 (by first | omega | (intro h; omega) | exact Or.inl rfl | exact Or.inr rfl) (by first | omega | (intro h; omega) | exact Or.inl rfl | exact Or.inr rfl) (by first | omega | (intro h; omega) | exact Or.inl rfl | exact Or.inr rfl) rfl u_120 u_121 u_122 u_123 hg (by omega)
set_option maxHeartbeats 4000000 in
set_option maxRecDepth 20000 in
theorem yModel_reform_54g {D : va_G} {cA : FieldType → ClassId} {b : Nat} {E : State → Prop} {R : qRg} {o n : Nat} {sh : Nat → qC} {Rf : Nat → Nat → Option Nat} {I0 : Nat → Nat → Int32} {L0 : Nat → Nat → Int64} {post : Option Value → qS → Prop} {p1 : Int32} (hok : q_ok (qGG D cA b E)) (hw : WfModel (qGG D cA b E) n sh Rf o) (ra : RAModel R o) (hz12 : R.2 12 = true) (hz13 : R.2 13 = true) (hz14 : R.2 14 = true) (hz15 : R.2 15 = true) (hz16 : R.2 16 = true) (hz17 : R.2 17 = true) (hz18 : R.2 18 = true) (hz19 : R.2 19 = true) (hz21 : R.2 21 = true) (hz54 : R.2 54 = true) (hz55 : R.2 55 = true) (hz56 : R.2 56 = true) (hz57 : R.2 57 = true) (hz58 : R.2 58 = true) (hz59 : R.2 59 = true) (hZ : Fz R I0 o wModel_reform) (hR0 : RI R I0) (hq0 : MTd I0 o) (hp : ∀ (r : Int32) (I' : Nat → Nat → Int32) (L' : Nat → Nat → Int64), RI R I' → Fm (fun c => c = o ∨ c = o + 2 ∨ (o + 26 ≤ c ∧ c < o + 34)) I0 I' → (Im ((I0 o 2).toInt ≤ 700 ∧ 0 ≤ p1.toInt ∧ p1.toInt ≤ 3) ((I' o 2).toInt = 0)) → (Im (¬ ((I0 o 2).toInt ≤ 700 ∧ 0 ≤ p1.toInt ∧ p1.toInt ≤ 3)) ((I' o 2).toInt = (I0 o 2).toInt)) → (MTd I' o) → (gModel_reform_0 o (tI I0) L0 (p1).toInt = (r.toInt, tI I', L')) → post (some (.int r)) (n, sh, Rf, I', L')) : ∀ (k : Nat) {x1 : Int32} {x2 : Int32} {I : Nat → Nat → Int32} {L : Nat → Nat → Int64}, RI R I → Fm (fun c => c = o ∨ c = o + 2 ∨ (o + 26 ≤ c ∧ c < o + 34)) I0 I → ((0 : Int) ≤ x2.toInt ∧ x2.toInt ≤ 10) → ((I0 o 2).toInt ≤ 700 ∧ 0 ≤ p1.toInt ∧ p1.toInt ≤ 3) → ((I o 44).toInt = 4) → ((I o 7).toInt = 0) → ((I o 4).toInt = 0) → ((I o 3).toInt = (I0 o 2).toInt) → ((I o 2).toInt = 0) → (UFk I o x2.toInt) → (x1 = p1) → (MTd I o) → (gModel_reform_54 k o (tI I) L (x1).toInt (x2).toInt = gModel_reform_0 o (tI I0) L0 (p1).toInt) → (10 - x2.toInt).toNat < k → Ev (qGG D cA b E) mModel_reform 7 (0, 0) 54 [(0, .ref o), (1, .int x1), (2, .int x2)] [] (n, sh, Rf, I, L) post := by
  intro k
  induction k with
  | zero =>
    intro x1 x2 I L hR hf hi0 hi1 hi2 hi3 hi4 hi5 hi6 hi7 hi8 hi9 hg hm
    exact absurd hm (Nat.not_lt_zero _)
  | succ k ih =>
    intro x1 x2 I L hR hf hi0 hi1 hi2 hi3 hi4 hi5 hi6 hi7 hi8 hi9 hg hm
    have hz0 := hi8.symm
    subst hz0
    have g_141 : (0 : Int) ≤ (I o 3).toInt ∧ (I o 3).toInt ≤ 1600 := hR.at0 ra 3 (by decide)
    have g_142 : (0 : Int) ≤ (I0 o 3).toInt ∧ (I0 o 3).toInt ≤ 1600 := hR0.at0 ra 3 (by decide)
    have g_143 : (0 : Int) ≤ (I o 4).toInt ∧ (I o 4).toInt ≤ 5 := hR.at0 ra 4 (by decide)
    have g_144 : (0 : Int) ≤ (I0 o 4).toInt ∧ (I0 o 4).toInt ≤ 5 := hR0.at0 ra 4 (by decide)
    have g_145 : (0 : Int) ≤ (I o 6).toInt ∧ (I o 6).toInt ≤ 1600 := hR.at0 ra 6 (by decide)
    have g_146 : (0 : Int) ≤ (I0 o 6).toInt ∧ (I0 o 6).toInt ≤ 1600 := hR0.at0 ra 6 (by decide)
    have g_147 : (0 : Int) ≤ (I o 7).toInt ∧ (I o 7).toInt ≤ 1601 := hR.at0 ra 7 (by decide)
    have g_148 : (0 : Int) ≤ (I0 o 7).toInt ∧ (I0 o 7).toInt ≤ 1601 := hR0.at0 ra 7 (by decide)
    have g_149 : (0 : Int) ≤ (I o 8).toInt ∧ (I o 8).toInt ≤ 6 := hR.at0 ra 8 (by decide)
    have g_150 : (0 : Int) ≤ (I0 o 8).toInt ∧ (I0 o 8).toInt ≤ 6 := hR0.at0 ra 8 (by decide)
    have g_151 : (0 : Int) ≤ (I o 44).toInt ∧ (I o 44).toInt ≤ 4 := hR.at0 ra 44 (by decide)
    have g_152 : (0 : Int) ≤ (I0 o 44).toInt ∧ (I0 o 44).toInt ≤ 4 := hR0.at0 ra 44 (by decide)
    have g_153 : (0 : Int) ≤ (I o 45).toInt ∧ (I o 45).toInt ≤ 700 := hR.at0 ra 45 (by decide)
    have g_154 : (0 : Int) ≤ (I0 o 45).toInt ∧ (I0 o 45).toInt ≤ 700 := hR0.at0 ra 45 (by decide)
    have g_155 : (0 : Int) ≤ (I o 47).toInt ∧ (I o 47).toInt ≤ 7 := hR.at0 ra 47 (by decide)
    have g_156 : (0 : Int) ≤ (I0 o 47).toInt ∧ (I0 o 47).toInt ≤ 7 := hR0.at0 ra 47 (by decide)
    have g_157 : (0 : Int) ≤ (I o 48).toInt ∧ (I o 48).toInt ≤ 80 := hR.at0 ra 48 (by decide)
    have g_158 : (0 : Int) ≤ (I0 o 48).toInt ∧ (I0 o 48).toInt ≤ 80 := hR0.at0 ra 48 (by decide)
    have g_159 : (0 : Int) ≤ (I o 2).toInt ∧ (I o 2).toInt ≤ 1600 := hR.at0 ra 2 (by decide)
    have g_160 : (0 : Int) ≤ (I0 o 2).toInt ∧ (I0 o 2).toInt ≤ 1600 := hR0.at0 ra 2 (by decide)
    refine sModel_reform_54 o n sh Rf I L post p1 x2 hok hw ?_
    unfold fModel_reform_54
    replace hg := (eModel_reform_54).symm.trans hg
    have l_161 : (10 : Int32).toInt = 10 := rfl
    refine ⟨fun c_162 => ?_, fun c_162 => ?_⟩
    · have d_163 := iLe c_162
      replace hg := gt_pos (by first | exact d_163 | omega) hg
      have l_164 : (0 : Int32).toInt = 0 := rfl
      refine fun I_165 e_166 => ?_
      replace hg := gt_let (y := tI I_165) (tI_q e_166) hg
      have hR_167 : RI R I_165 := hR.up0 (k := 45) ra (by decide) (Or.inr hz55) e_166 (show (0 : Int) ≤ (0 : Int32).toInt by omega) (show (0 : Int32).toInt ≤ (700 : Int) by omega)
      have hf_168 : Fm (fun c => c = o ∨ c = o + 2 ∨ (o + 26 ≤ c ∧ c < o + 34)) I0 I_165 := hf.set (by first | rfl | omega | (dsimp only; omega)) e_166
      have t_169 : (I_165 o 3).toInt = (I o 3).toInt := by rw [← e_166, q_u_k (by decide)]
      have t_170 : (I_165 o 4).toInt = (I o 4).toInt := by rw [← e_166, q_u_k (by decide)]
      have t_171 : (I_165 o 6).toInt = (I o 6).toInt := by rw [← e_166, q_u_k (by decide)]
      have t_172 : (I_165 o 7).toInt = (I o 7).toInt := by rw [← e_166, q_u_k (by decide)]
      have t_173 : (I_165 o 8).toInt = (I o 8).toInt := by rw [← e_166, q_u_k (by decide)]
      have t_174 : (I_165 o 9).toInt = (I o 9).toInt := by rw [← e_166, q_u_k (by decide)]
      have t_175 : (I_165 o 44).toInt = (I o 44).toInt := by rw [← e_166, q_u_k (by decide)]
      have t_176 : (I_165 o 45).toInt = (0 : Int32).toInt := by rw [← e_166, q_u_at]
      have t_177 : (I_165 o 47).toInt = (I o 47).toInt := by rw [← e_166, q_u_k (by decide)]
      have t_178 : (I_165 o 48).toInt = (I o 48).toInt := by rw [← e_166, q_u_k (by decide)]
      have t_179 : (I_165 o 2).toInt = (I o 2).toInt := by rw [← e_166, q_u_k (by decide)]
      have k_180 : MTd I_165 o := hi9.fr (by rw [← e_166]; exact q_u_ne (by omega)) (by rw [← e_166]; exact q_u_ne (by omega)) (by rw [← e_166]; exact q_u_ne (by omega))
      refine fun I_181 e_182 => ?_
      replace hg := gt_let (y := tI I_181) (tI_q e_182) hg
      have hR_183 : RI R I_181 := hR_167.up0 (k := 46) ra (by decide) (Or.inr hz56) e_182 (show (0 : Int) ≤ (0 : Int32).toInt by omega) (show (0 : Int32).toInt ≤ (100 : Int) by omega)
      have hf_184 : Fm (fun c => c = o ∨ c = o + 2 ∨ (o + 26 ≤ c ∧ c < o + 34)) I0 I_181 := hf_168.set (by first | rfl | omega | (dsimp only; omega)) e_182
      have t_185 : (I_181 o 3).toInt = (I_165 o 3).toInt := by rw [← e_182, q_u_k (by decide)]
      have t_186 : (I_181 o 4).toInt = (I_165 o 4).toInt := by rw [← e_182, q_u_k (by decide)]
      have t_187 : (I_181 o 6).toInt = (I_165 o 6).toInt := by rw [← e_182, q_u_k (by decide)]
      have t_188 : (I_181 o 7).toInt = (I_165 o 7).toInt := by rw [← e_182, q_u_k (by decide)]
      have t_189 : (I_181 o 8).toInt = (I_165 o 8).toInt := by rw [← e_182, q_u_k (by decide)]
      have t_190 : (I_181 o 9).toInt = (I_165 o 9).toInt := by rw [← e_182, q_u_k (by decide)]
      have t_191 : (I_181 o 44).toInt = (I_165 o 44).toInt := by rw [← e_182, q_u_k (by decide)]
      have t_192 : (I_181 o 45).toInt = (I_165 o 45).toInt := by rw [← e_182, q_u_k (by decide)]
      have t_193 : (I_181 o 47).toInt = (I_165 o 47).toInt := by rw [← e_182, q_u_k (by decide)]
      have t_194 : (I_181 o 48).toInt = (I_165 o 48).toInt := by rw [← e_182, q_u_k (by decide)]
      have t_195 : (I_181 o 2).toInt = (I_165 o 2).toInt := by rw [← e_182, q_u_k (by decide)]
      have t_196 : (I_181 o 46).toInt = (0 : Int32).toInt := by rw [← e_182, q_u_at]
      have k_197 : MTd I_181 o := k_180.fr (by rw [← e_182]; exact q_u_ne (by omega)) (by rw [← e_182]; exact q_u_ne (by omega)) (by rw [← e_182]; exact q_u_ne (by omega))
      refine y_Model_nextg hok hw ra hz16 hz17 hz18 hz19 (by first | omega | (intro h; omega) | exact Or.inl rfl | exact Or.inr rfl) hR_183 (fun I_208 L_209 hR_210 fr_211 kp_212 u_199 u_200 u_201 u_202 u_203 u_204 u_205 u_206 gn_207 => ⟨I_208, L_209, rfl, rfl, ?_⟩)
      replace hg := gt_b3 gn_207 hg
      clear gn_207
      have hf_213 : Fm (fun c => c = o ∨ c = o + 2 ∨ (o + 26 ≤ c ∧ c < o + 34)) I0 I_208 := hf_184.call fr_211 (fun c hc => by first | exact hc | (dsimp only at hc ⊢; omega) | omega)
      have t_214 : (I_208 o 3).toInt = (I_181 o 3).toInt := by rw [kp_212 3 rfl]
      have t_215 : (I_208 o 4).toInt = (I_181 o 4).toInt := by rw [kp_212 4 rfl]
      have g_216 : (0 : Int) ≤ (I_208 o 6).toInt ∧ (I_208 o 6).toInt ≤ 1600 := hR_210.at0 ra 6 (by decide)
      have g_217 : (0 : Int) ≤ (I_208 o 7).toInt ∧ (I_208 o 7).toInt ≤ 1601 := hR_210.at0 ra 7 (by decide)
      have g_218 : (0 : Int) ≤ (I_208 o 8).toInt ∧ (I_208 o 8).toInt ≤ 6 := hR_210.at0 ra 8 (by decide)
      have t_219 : (I_208 o 44).toInt = (I_181 o 44).toInt := by rw [kp_212 44 rfl]
      have t_220 : (I_208 o 45).toInt = (I_181 o 45).toInt := by rw [kp_212 45 rfl]
      have t_221 : (I_208 o 47).toInt = (I_181 o 47).toInt := by rw [kp_212 47 rfl]
      have t_222 : (I_208 o 48).toInt = (I_181 o 48).toInt := by rw [kp_212 48 rfl]
      have t_223 : (I_208 o 2).toInt = (I_181 o 2).toInt := by rw [kp_212 2 rfl]
      have t_224 : (I_208 o 46).toInt = (I_181 o 46).toInt := by rw [kp_212 46 rfl]
      have k_225 : MTd I_208 o := k_197.fr (fr_211 _ (by first | omega | (dsimp only; omega))) (fr_211 _ (by first | omega | (dsimp only; omega))) (fr_211 _ (by first | omega | (dsimp only; omega)))
      have k_226 : ReG I_208 o := by intro _; exact ⟨by omega, by omega, by omega, by omega, by omega, UFk.sh hi7 (by omega) (by rw [fr_211 (o + 26) (by first | omega | (dsimp only; omega)), ← e_182, q_u_ne (by omega), ← e_166, q_u_ne (by omega)])⟩
      exact yModel_reform_95g (I0 := I0) (L0 := L0) (p1 := p1) hok hw ra hz12 hz13 hz14 hz15 hz16 hz17 hz18 hz19 hz21 hz54 hz55 hz56 hz57 hz58 hz59 hZ hR0 hq0 hp  20000 hR_210 hf_213 (by first | omega | (intro h; omega) | exact Or.inl rfl | exact Or.inr rfl) (by first | omega | (intro h; omega) | exact Or.inl rfl | exact Or.inr rfl) (by first | omega | (intro h; omega) | exact Or.inl rfl | exact Or.inr rfl) rfl k_225 u_205 u_206 k_226 hg (by omega)
    · have d_227 := iNle c_162
      replace hg := gt_neg (by first | exact d_227 | omega) hg
      have g_228 : (0 : Int) ≤ (I o 44).toInt ∧ (I o 44).toInt ≤ 4 := hR.at0 ra 44 (by decide)
      replace hg := gt_let (y := (I o 44).toInt) rfl hg
      have a_229 : (10 * (I o 44)).toInt = 10 * (I o 44).toInt := tMulL rfl (by omega) (by omega)
      replace hg := gt_let (y := ((10 * (I o 44)) : Int32).toInt) (by omega) hg
      have a_230 : ((10 * (I o 44)) + x2).toInt = (10 * (I o 44)).toInt + x2.toInt := tAdd (by omega) (by omega)
      replace hg := gt_let (y := (((10 * (I o 44)) + x2) : Int32).toInt) (by omega) hg
      have l_231 : (-1 : Int32).toInt = -1 := rfl
      refine ⟨tIn (by omega) (by omega), fun I_232 e_233 => ?_⟩
      replace hg := gt_let (y := tI I_232) (tI_q e_233) hg
      have hR_234 : RI R I_232 := hR.up ra 26 (by decide) (Or.inl rfl) e_233 (show (-1 : Int) ≤ ((-1) : Int32).toInt by omega) (show ((-1) : Int32).toInt ≤ (700 : Int) by omega)
      have hf_235 : Fm (fun c => c = o ∨ c = o + 2 ∨ (o + 26 ≤ c ∧ c < o + 34)) I0 I_232 := hf.set (by first | rfl | omega | (dsimp only; omega)) e_233
      have t_236 : (I_232 o 3).toInt = (I o 3).toInt := by rw [← e_233, q_u_ne (by omega)]
      have t_237 : (I_232 o 4).toInt = (I o 4).toInt := by rw [← e_233, q_u_ne (by omega)]
      have t_238 : (I_232 o 6).toInt = (I o 6).toInt := by rw [← e_233, q_u_ne (by omega)]
      have t_239 : (I_232 o 7).toInt = (I o 7).toInt := by rw [← e_233, q_u_ne (by omega)]
      have t_240 : (I_232 o 8).toInt = (I o 8).toInt := by rw [← e_233, q_u_ne (by omega)]
      have t_241 : (I_232 o 9).toInt = (I o 9).toInt := by rw [← e_233, q_u_ne (by omega)]
      have t_242 : (I_232 o 44).toInt = (I o 44).toInt := by rw [← e_233, q_u_ne (by omega)]
      have t_243 : (I_232 o 45).toInt = (I o 45).toInt := by rw [← e_233, q_u_ne (by omega)]
      have t_244 : (I_232 o 47).toInt = (I o 47).toInt := by rw [← e_233, q_u_ne (by omega)]
      have t_245 : (I_232 o 48).toInt = (I o 48).toInt := by rw [← e_233, q_u_ne (by omega)]
      have t_246 : (I_232 o 2).toInt = (I o 2).toInt := by rw [← e_233, q_u_ne (by omega)]
      have k_248 : MTd I_232 o := by exact MTd.p26 hi9 e_233 (by omega)
      have a_250 : (x2 + Int32.ofInt 1).toInt = x2.toInt + (1) := tIc (by omega) (by omega) (by decide) (by decide)
      generalize ez_249 : (x2 + Int32.ofInt 1) = z_249 at a_250 ⊢
      replace hg := gt_let (y := z_249.toInt) (by omega) hg
      exact ih hR_234 hf_235 (by first | omega | (intro h; omega) | exact Or.inl rfl | exact Or.inr rfl) (by first | omega | (intro h; omega) | exact Or.inl rfl | exact Or.inr rfl) (by first | omega | (intro h; omega) | exact Or.inl rfl | exact Or.inr rfl) (by first | omega | (intro h; omega) | exact Or.inl rfl | exact Or.inr rfl) (by first | omega | (intro h; omega) | exact Or.inl rfl | exact Or.inr rfl) (by first | omega | (intro h; omega) | exact Or.inl rfl | exact Or.inr rfl) (by first | omega | (intro h; omega) | exact Or.inl rfl | exact Or.inr rfl) (by first | exact UFk.put hi7 e_233 (by omega) (by omega) (by omega) | exact UFk.zero (by omega)) rfl k_248 hg (by omega)
set_option maxHeartbeats 4000000 in
set_option maxRecDepth 20000 in
theorem yc_Model_reformg {D : va_G} {cA : FieldType → ClassId} {b : Nat} {E : State → Prop} {R : qRg} {o n : Nat} {sh : Nat → qC} {Rf : Nat → Nat → Option Nat} {I0 : Nat → Nat → Int32} {L0 : Nat → Nat → Int64} {post : Option Value → qS → Prop} {p1 : Int32} (hok : q_ok (qGG D cA b E)) (hw : WfModel (qGG D cA b E) n sh Rf o) (ra : RAModel R o) (hz12 : R.2 12 = true) (hz13 : R.2 13 = true) (hz14 : R.2 14 = true) (hz15 : R.2 15 = true) (hz16 : R.2 16 = true) (hz17 : R.2 17 = true) (hz18 : R.2 18 = true) (hz19 : R.2 19 = true) (hz21 : R.2 21 = true) (hz54 : R.2 54 = true) (hz55 : R.2 55 = true) (hz56 : R.2 56 = true) (hz57 : R.2 57 = true) (hz58 : R.2 58 = true) (hz59 : R.2 59 = true) (hZ : Fz R I0 o wModel_reform) (hR0 : RI R I0) (hq0 : MTd I0 o) (hR : RI R I0) (hp : ∀ (r : Int32) (I' : Nat → Nat → Int32) (L' : Nat → Nat → Int64), RI R I' → Fm (fun c => c = o ∨ c = o + 2 ∨ (o + 26 ≤ c ∧ c < o + 34)) I0 I' → (Im ((I0 o 2).toInt ≤ 700 ∧ 0 ≤ p1.toInt ∧ p1.toInt ≤ 3) ((I' o 2).toInt = 0)) → (Im (¬ ((I0 o 2).toInt ≤ 700 ∧ 0 ≤ p1.toInt ∧ p1.toInt ≤ 3)) ((I' o 2).toInt = (I0 o 2).toInt)) → (MTd I' o) → (gModel_reform_0 o (tI I0) L0 (p1).toInt = (r.toInt, tI I', L')) → post (some (.int r)) (n, sh, Rf, I', L')) : Ev (qGG D cA b E) mModel_reform 7 (0, 0) 0 (lv_args 0 [.ref o, .int p1]) [] (n, sh, Rf, I0, L0) post := by
  have hf : Fm (fun c => c = o ∨ c = o + 2 ∨ (o + 26 ≤ c ∧ c < o + 34)) I0 I0 := Fm.rf
  have g_251 : (0 : Int) ≤ (I0 o 3).toInt ∧ (I0 o 3).toInt ≤ 1600 := hR.at0 ra 3 (by decide)
  have g_252 : (0 : Int) ≤ (I0 o 4).toInt ∧ (I0 o 4).toInt ≤ 5 := hR.at0 ra 4 (by decide)
  have g_253 : (0 : Int) ≤ (I0 o 6).toInt ∧ (I0 o 6).toInt ≤ 1600 := hR.at0 ra 6 (by decide)
  have g_254 : (0 : Int) ≤ (I0 o 7).toInt ∧ (I0 o 7).toInt ≤ 1601 := hR.at0 ra 7 (by decide)
  have g_255 : (0 : Int) ≤ (I0 o 8).toInt ∧ (I0 o 8).toInt ≤ 6 := hR.at0 ra 8 (by decide)
  have g_256 : (0 : Int) ≤ (I0 o 44).toInt ∧ (I0 o 44).toInt ≤ 4 := hR.at0 ra 44 (by decide)
  have g_257 : (0 : Int) ≤ (I0 o 45).toInt ∧ (I0 o 45).toInt ≤ 700 := hR.at0 ra 45 (by decide)
  have g_258 : (0 : Int) ≤ (I0 o 47).toInt ∧ (I0 o 47).toInt ≤ 7 := hR.at0 ra 47 (by decide)
  have g_259 : (0 : Int) ≤ (I0 o 48).toInt ∧ (I0 o 48).toInt ≤ 80 := hR.at0 ra 48 (by decide)
  have g_260 : (0 : Int) ≤ (I0 o 2).toInt ∧ (I0 o 2).toInt ≤ 1600 := hR.at0 ra 2 (by decide)
  refine sModel_reform_0 o n sh Rf I0 L0 post p1 hok hw ?_
  unfold fModel_reform_0
  have hg : gModel_reform_0 o (tI I0) L0 (p1).toInt = gModel_reform_0 o (tI I0) L0 (p1).toInt := rfl
  replace hg := (eModel_reform_0).symm.trans hg
  have g_261 : (0 : Int) ≤ (I0 o 2).toInt ∧ (I0 o 2).toInt ≤ 1600 := hR.at0 ra 2 (by decide)
  replace hg := gt_let (y := (I0 o 2).toInt) rfl hg
  have l_262 : (700 : Int32).toInt = 700 := rfl
  refine ⟨fun c_263 => ?_, fun c_263 => ?_⟩
  · have d_264 := iLt c_263
    replace hg := gt_pos (by first | exact d_264 | omega) hg
    have l_265 : (-2 : Int32).toInt = -2 := rfl
    exact (hp _ _ _ hR hf (by clear hg; intro h; omega) (by clear hg; intro h; omega) hq0 hg.symm)
  · have d_266 := iNlt c_263
    replace hg := gt_neg (by first | exact d_266 | omega) hg
    have l_267 : (0 : Int32).toInt = 0 := rfl
    refine ⟨fun c_268 => ?_, fun c_268 => ?_⟩
    · have d_269 := iLt c_268
      replace hg := gt_pos (by first | exact d_269 | omega) hg
      have l_270 : (-2 : Int32).toInt = -2 := rfl
      exact (hp _ _ _ hR hf (by clear hg; intro h; omega) (by clear hg; intro h; omega) hq0 hg.symm)
    · have d_271 := iNlt c_268
      replace hg := gt_neg (by first | exact d_271 | omega) hg
      have l_272 : (4 : Int32).toInt = 4 := rfl
      refine ⟨fun c_273 => ?_, fun c_273 => ?_⟩
      · have d_274 := iLt c_273
        replace hg := gt_pos (by first | exact d_274 | omega) hg
        have l_275 : (1 : Int32).toInt = 1 := rfl
        refine y_Model_takeTapeg hok hw ra hz12 hz13 hz14 hz15 hz17 hz21 (by first | omega | (intro h; omega) | exact Or.inl rfl | exact Or.inr rfl) hR (fun I_282 L_283 hR_284 fr_285 kp_286 u_277 u_278 u_279 u_280 gn_281 => ⟨I_282, L_283, rfl, rfl, ?_⟩)
        replace hg := gt_b3 gn_281 hg
        clear gn_281
        have hf_287 : Fm (fun c => c = o ∨ c = o + 2 ∨ (o + 26 ≤ c ∧ c < o + 34)) I0 I_282 := hf.call fr_285 (fun c hc => by first | exact hc | (dsimp only at hc ⊢; omega) | omega)
        have g_288 : (0 : Int) ≤ (I_282 o 3).toInt ∧ (I_282 o 3).toInt ≤ 1600 := hR_284.at0 ra 3 (by decide)
        have g_289 : (0 : Int) ≤ (I_282 o 4).toInt ∧ (I_282 o 4).toInt ≤ 5 := hR_284.at0 ra 4 (by decide)
        have t_290 : (I_282 o 6).toInt = (I0 o 6).toInt := by rw [kp_286 6 rfl]
        have g_291 : (0 : Int) ≤ (I_282 o 7).toInt ∧ (I_282 o 7).toInt ≤ 1601 := hR_284.at0 ra 7 (by decide)
        have t_292 : (I_282 o 8).toInt = (I0 o 8).toInt := by rw [kp_286 8 rfl]
        have t_293 : (I_282 o 9).toInt = (I0 o 9).toInt := by rw [kp_286 9 rfl]
        have t_294 : (I_282 o 44).toInt = (I0 o 44).toInt := by rw [kp_286 44 rfl]
        have t_295 : (I_282 o 45).toInt = (I0 o 45).toInt := by rw [kp_286 45 rfl]
        have t_296 : (I_282 o 47).toInt = (I0 o 47).toInt := by rw [kp_286 47 rfl]
        have t_297 : (I_282 o 48).toInt = (I0 o 48).toInt := by rw [kp_286 48 rfl]
        have g_298 : (0 : Int) ≤ (I_282 o 2).toInt ∧ (I_282 o 2).toInt ≤ 1600 := hR_284.at0 ra 2 (by decide)
        have k_299 : MTd I_282 o := hq0.fr (fr_285 _ (by first | omega | (dsimp only; omega))) (fr_285 _ (by first | omega | (dsimp only; omega))) (fr_285 _ (by first | omega | (dsimp only; omega)))
        refine fun I_300 e_301 => ?_
        replace hg := gt_let (y := tI I_300) (tI_q e_301) hg
        have hR_302 : RI R I_300 := hR_284.up0 (k := 44) ra (by decide) (Or.inr hz54) e_301 (show (0 : Int) ≤ (4 : Int32).toInt by omega) (show (4 : Int32).toInt ≤ (4 : Int) by omega)
        have hf_303 : Fm (fun c => c = o ∨ c = o + 2 ∨ (o + 26 ≤ c ∧ c < o + 34)) I0 I_300 := hf_287.set (by first | rfl | omega | (dsimp only; omega)) e_301
        have t_304 : (I_300 o 3).toInt = (I_282 o 3).toInt := by rw [← e_301, q_u_k (by decide)]
        have t_305 : (I_300 o 4).toInt = (I_282 o 4).toInt := by rw [← e_301, q_u_k (by decide)]
        have t_306 : (I_300 o 6).toInt = (I_282 o 6).toInt := by rw [← e_301, q_u_k (by decide)]
        have t_307 : (I_300 o 7).toInt = (I_282 o 7).toInt := by rw [← e_301, q_u_k (by decide)]
        have t_308 : (I_300 o 8).toInt = (I_282 o 8).toInt := by rw [← e_301, q_u_k (by decide)]
        have t_309 : (I_300 o 9).toInt = (I_282 o 9).toInt := by rw [← e_301, q_u_k (by decide)]
        have t_310 : (I_300 o 44).toInt = (4 : Int32).toInt := by rw [← e_301, q_u_at]
        have t_311 : (I_300 o 45).toInt = (I_282 o 45).toInt := by rw [← e_301, q_u_k (by decide)]
        have t_312 : (I_300 o 47).toInt = (I_282 o 47).toInt := by rw [← e_301, q_u_k (by decide)]
        have t_313 : (I_300 o 48).toInt = (I_282 o 48).toInt := by rw [← e_301, q_u_k (by decide)]
        have t_314 : (I_300 o 2).toInt = (I_282 o 2).toInt := by rw [← e_301, q_u_k (by decide)]
        have k_315 : MTd I_300 o := k_299.fr (by rw [← e_301]; exact q_u_ne (by omega)) (by rw [← e_301]; exact q_u_ne (by omega)) (by rw [← e_301]; exact q_u_ne (by omega))
        have g_316 : (0 : Int) ≤ (I_300 o 44).toInt ∧ (I_300 o 44).toInt ≤ 4 := hR_302.at0 ra 44 (by decide)
        replace hg := gt_let (y := (I_300 o 44).toInt) rfl hg
        refine ⟨tIn (by omega) (by omega), fun I_317 e_318 => ?_⟩
        replace hg := gt_let (y := tI I_317) (tI_q e_318) hg
        have hR_319 : RI R I_317 := hR_302.up ra 28 (by decide) (Or.inl rfl) e_318 (show (0 : Int) ≤ (0 : Int32).toInt by omega) (show (0 : Int32).toInt ≤ (5 : Int) by omega)
        have hf_320 : Fm (fun c => c = o ∨ c = o + 2 ∨ (o + 26 ≤ c ∧ c < o + 34)) I0 I_317 := hf_303.set (by first | rfl | omega | (dsimp only; omega)) e_318
        have t_321 : (I_317 o 3).toInt = (I_300 o 3).toInt := by rw [← e_318, q_u_ne (by omega)]
        have t_322 : (I_317 o 4).toInt = (I_300 o 4).toInt := by rw [← e_318, q_u_ne (by omega)]
        have t_323 : (I_317 o 6).toInt = (I_300 o 6).toInt := by rw [← e_318, q_u_ne (by omega)]
        have t_324 : (I_317 o 7).toInt = (I_300 o 7).toInt := by rw [← e_318, q_u_ne (by omega)]
        have t_325 : (I_317 o 8).toInt = (I_300 o 8).toInt := by rw [← e_318, q_u_ne (by omega)]
        have t_326 : (I_317 o 9).toInt = (I_300 o 9).toInt := by rw [← e_318, q_u_ne (by omega)]
        have t_327 : (I_317 o 44).toInt = (I_300 o 44).toInt := by rw [← e_318, q_u_ne (by omega)]
        have t_328 : (I_317 o 45).toInt = (I_300 o 45).toInt := by rw [← e_318, q_u_ne (by omega)]
        have t_329 : (I_317 o 47).toInt = (I_300 o 47).toInt := by rw [← e_318, q_u_ne (by omega)]
        have t_330 : (I_317 o 48).toInt = (I_300 o 48).toInt := by rw [← e_318, q_u_ne (by omega)]
        have t_331 : (I_317 o 2).toInt = (I_300 o 2).toInt := by rw [← e_318, q_u_ne (by omega)]
        have k_332 : MTd I_317 o := k_315.fr (by rw [← e_318]; exact q_u_ne (by omega)) (by rw [← e_318]; exact q_u_ne (by omega)) (by rw [← e_318]; exact q_u_ne (by omega))
        have g_333 : (0 : Int) ≤ (I_317 o 44).toInt ∧ (I_317 o 44).toInt ≤ 4 := hR_319.at0 ra 44 (by decide)
        replace hg := gt_let (y := (I_317 o 44).toInt) rfl hg
        refine ⟨tIn (by omega) (by omega), fun I_334 e_335 => ?_⟩
        replace hg := gt_let (y := tI I_334) (tI_q e_335) hg
        have hR_336 : RI R I_334 := hR_319.up ra 29 (by decide) (Or.inl rfl) e_335 (i_lo _) (i_hi _)
        have hf_337 : Fm (fun c => c = o ∨ c = o + 2 ∨ (o + 26 ≤ c ∧ c < o + 34)) I0 I_334 := hf_320.set (by first | rfl | omega | (dsimp only; omega)) e_335
        have t_338 : (I_334 o 3).toInt = (I_317 o 3).toInt := by rw [← e_335, q_u_ne (by omega)]
        have t_339 : (I_334 o 4).toInt = (I_317 o 4).toInt := by rw [← e_335, q_u_ne (by omega)]
        have t_340 : (I_334 o 6).toInt = (I_317 o 6).toInt := by rw [← e_335, q_u_ne (by omega)]
        have t_341 : (I_334 o 7).toInt = (I_317 o 7).toInt := by rw [← e_335, q_u_ne (by omega)]
        have t_342 : (I_334 o 8).toInt = (I_317 o 8).toInt := by rw [← e_335, q_u_ne (by omega)]
        have t_343 : (I_334 o 9).toInt = (I_317 o 9).toInt := by rw [← e_335, q_u_ne (by omega)]
        have t_344 : (I_334 o 44).toInt = (I_317 o 44).toInt := by rw [← e_335, q_u_ne (by omega)]
        have t_345 : (I_334 o 45).toInt = (I_317 o 45).toInt := by rw [← e_335, q_u_ne (by omega)]
        have t_346 : (I_334 o 47).toInt = (I_317 o 47).toInt := by rw [← e_335, q_u_ne (by omega)]
        have t_347 : (I_334 o 48).toInt = (I_317 o 48).toInt := by rw [← e_335, q_u_ne (by omega)]
        have t_348 : (I_334 o 2).toInt = (I_317 o 2).toInt := by rw [← e_335, q_u_ne (by omega)]
        have k_349 : MTd I_334 o := k_332.fr (by rw [← e_335]; exact q_u_ne (by omega)) (by rw [← e_335]; exact q_u_ne (by omega)) (by rw [← e_335]; exact q_u_ne (by omega))
        exact yModel_reform_54g (I0 := I0) (L0 := L0) (p1 := p1) hok hw ra hz12 hz13 hz14 hz15 hz16 hz17 hz18 hz19 hz21 hz54 hz55 hz56 hz57 hz58 hz59 hZ hR0 hq0 hp  20000 hR_336 hf_337 (by first | omega | (intro h; omega) | exact Or.inl rfl | exact Or.inr rfl) (by first | omega | (intro h; omega) | exact Or.inl rfl | exact Or.inr rfl) (by first | omega | (intro h; omega) | exact Or.inl rfl | exact Or.inr rfl) (by first | omega | (intro h; omega) | exact Or.inl rfl | exact Or.inr rfl) (by first | omega | (intro h; omega) | exact Or.inl rfl | exact Or.inr rfl) (by first | omega | (intro h; omega) | exact Or.inl rfl | exact Or.inr rfl) (by first | omega | (intro h; omega) | exact Or.inl rfl | exact Or.inr rfl) (by first | exact UFk.put hi7 e_335 (by omega) (by omega) (by omega) | exact UFk.zero (by omega)) rfl k_349 hg (by omega)
      · have d_350 := iNlt c_273
        replace hg := gt_neg (by first | exact d_350 | omega) hg
        have l_351 : (-2 : Int32).toInt = -2 := rfl
        exact (hp _ _ _ hR hf (by clear hg; intro h; omega) (by clear hg; intro h; omega) hq0 hg.symm)
theorem y_Model_reformg {D : va_G} {cA : FieldType → ClassId} {b : Nat} {E : State → Prop} {R : qRg} {o n : Nat} {sh : Nat → qC} {Rf : Nat → Nat → Option Nat} {I0 : Nat → Nat → Int32} {L0 : Nat → Nat → Int64} {post : Option Value → qS → Prop} {p1 : Int32} (hok : q_ok (qGG D cA b E)) (hw : WfModel (qGG D cA b E) n sh Rf o) (ra : RAModel R o) (hz12 : R.2 12 = true) (hz13 : R.2 13 = true) (hz14 : R.2 14 = true) (hz15 : R.2 15 = true) (hz16 : R.2 16 = true) (hz17 : R.2 17 = true) (hz18 : R.2 18 = true) (hz19 : R.2 19 = true) (hz21 : R.2 21 = true) (hz54 : R.2 54 = true) (hz55 : R.2 55 = true) (hz56 : R.2 56 = true) (hz57 : R.2 57 = true) (hz58 : R.2 58 = true) (hz59 : R.2 59 = true) (hq0 : MTd I0 o) (hR : RI R I0) (hp : ∀ (r : Int32) (I' : Nat → Nat → Int32) (L' : Nat → Nat → Int64), RI R I' → Fm (fun c => c = o ∨ c = o + 2 ∨ (o + 26 ≤ c ∧ c < o + 34)) I0 I' → Kp wModel_reform I0 I' o → (Im ((I0 o 2).toInt ≤ 700 ∧ 0 ≤ p1.toInt ∧ p1.toInt ≤ 3) ((I' o 2).toInt = 0)) → (Im (¬ ((I0 o 2).toInt ≤ 700 ∧ 0 ≤ p1.toInt ∧ p1.toInt ≤ 3)) ((I' o 2).toInt = (I0 o 2).toInt)) → (MTd I' o) → (gModel_reform_0 o (tI I0) L0 (p1).toInt = (r.toInt, tI I', L')) → post (some (.int r)) (n, sh, Rf, I', L')) : Ev (qGG D cA b E) mModel_reform 7 (0, 0) 0 (lv_args 0 [.ref o, .int p1]) [] (n, sh, Rf, I0, L0) post :=
  yc_Model_reformg (R := fzR R I0 o wModel_reform) hok hw (fzA ra hR _) (fzT hz12 rfl) (fzT hz13 rfl) (fzT hz14 rfl) (fzT hz15 rfl) (fzT hz16 rfl) (fzT hz17 rfl) (fzT hz18 rfl) (fzT hz19 rfl) (fzT hz21 rfl) (fzT hz54 rfl) (fzT hz55 rfl) (fzT hz56 rfl) (fzT hz57 rfl) (fzT hz58 rfl) (fzT hz59 rfl) fzZ (fzI hR) hq0 (fzI hR) (fun r I' L' h1 h2 u0 u1 u2 ug => hp r I' L' (fzB hR h1) h2 (fzP h1) u0 u1 u2 ug)
