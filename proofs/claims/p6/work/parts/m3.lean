/-! The mirror: m3. By program (grun.py). -/
noncomputable def gModel_isGood_0 (o : Nat) (J : gJ) (L : gL) : Int := gLet (J o 4) (fun (v_1 : Int) => (if v_1 = 0 then 1 else 0))
theorem eModel_isGood_0 {o : Nat} {J : gJ} {L : gL} : gModel_isGood_0 o J L  = gLet (J o 4) (fun (v_1 : Int) => (if v_1 = 0 then 1 else 0)) := rfl
set_option maxHeartbeats 4000000 in
set_option maxRecDepth 20000 in
theorem y_Model_isGoodg {D : va_G} {cA : FieldType → ClassId} {b : Nat} {E : State → Prop} {R : qRg} {o n : Nat} {sh : Nat → qC} {Rf : Nat → Nat → Option Nat} {I0 : Nat → Nat → Int32} {L0 : Nat → Nat → Int64} {post : Option Value → qS → Prop} (hok : q_ok (qGG D cA b E)) (hw : WfModel (qGG D cA b E) n sh Rf o) (ra : RAModel R o) (hR : RI R I0) (hp : ∀ (r : Int32) , (Bz r) → (Im (r.toInt ≠ 0) ((I0 o 4).toInt = 0)) → (Im (r.toInt = 0) ((I0 o 4).toInt ≠ 0)) → (gModel_isGood_0 o (tI I0) L0 = r.toInt) → post (some (.int r)) (n, sh, Rf, I0, L0)) : Ev (qGG D cA b E) mModel_isGood 0 (0, 0) 0 (lv_args 0 [.ref o]) [] (n, sh, Rf, I0, L0) post := by
  refine sModel_isGood_0 o n sh Rf I0 L0 post  hok hw ?_
  unfold fModel_isGood_0
  have hg : gModel_isGood_0 o (tI I0) L0 = gModel_isGood_0 o (tI I0) L0 := rfl
  replace hg := (eModel_isGood_0).symm.trans hg
  have g_1 : (0 : Int) ≤ (I0 o 4).toInt ∧ (I0 o 4).toInt ≤ 5 := hR.at0 ra 4 (by decide)
  replace hg := gt_let (y := (I0 o 4).toInt) rfl hg
  have l_2 : (0 : Int32).toInt = 0 := rfl
  refine ⟨fun c_3 => ?_, fun c_3 => ?_⟩
  · have d_4 := iNe c_3
    replace hg := gt_neg (by first | exact d_4 | omega) hg
    exact (hp _ (Or.inl rfl) (by clear hg; intro _; omega) (by clear hg; intro _; omega) hg.symm)
  · have d_5 := iEq c_3
    replace hg := gt_pos (by first | exact d_5 | omega) hg
    have l_6 : (1 : Int32).toInt = 1 := rfl
    exact (hp _ (Or.inr rfl) (by clear hg; intro _; omega) (by clear hg; intro _; omega) hg.symm)
noncomputable def gModel_fails_0 (o : Nat) (J : gJ) (L : gL) (x1 : Int) (x2 : Int) : Int × gJ × gL := gLet (J o 4) (fun (v_1 : Int) => (if v_1 ≤ 0 then gLet (q_u J o 4 x1) (fun (J_2 : gJ) => gLet (q_u J_2 o 5 x2) (fun (J_3 : gJ) => (0, J_3, L))) else (0, J, L)))
theorem eModel_fails_0 {o : Nat} {J : gJ} {L : gL} {x1 : Int} {x2 : Int} : gModel_fails_0 o J L x1 x2 = gLet (J o 4) (fun (v_1 : Int) => (if v_1 ≤ 0 then gLet (q_u J o 4 x1) (fun (J_2 : gJ) => gLet (q_u J_2 o 5 x2) (fun (J_3 : gJ) => (0, J_3, L))) else (0, J, L))) := rfl
set_option maxHeartbeats 4000000 in
set_option maxRecDepth 20000 in
theorem yc_Model_failsg {D : va_G} {cA : FieldType → ClassId} {b : Nat} {E : State → Prop} {R : qRg} {o n : Nat} {sh : Nat → qC} {Rf : Nat → Nat → Option Nat} {I0 : Nat → Nat → Int32} {L0 : Nat → Nat → Int64} {post : Option Value → qS → Prop} {p1 : Int32} {p2 : Int32} (hok : q_ok (qGG D cA b E)) (hw : WfModel (qGG D cA b E) n sh Rf o) (ra : RAModel R o) (hz14 : R.2 14 = true) (hz15 : R.2 15 = true) (hZ : Fz R I0 o wModel_fails) (hR0 : RI R I0) (hq0 : (1 : Int) ≤ p1.toInt ∧ p1.toInt ≤ 5) (hR : RI R I0) (hp : ∀ (I' : Nat → Nat → Int32) (L' : Nat → Nat → Int64), RI R I' → Fm (fun c => c = o) I0 I' → (1 ≤ (I' o 4).toInt) → ((I0 o 4).toInt ≤ (I' o 4).toInt) → (gModel_fails_0 o (tI I0) L0 (p1).toInt (p2).toInt = (0, tI I', L')) → post none (n, sh, Rf, I', L')) : Ev (qGG D cA b E) mModel_fails 0 (0, 0) 0 (lv_args 0 [.ref o, .int p1, .int p2]) [] (n, sh, Rf, I0, L0) post := by
  have hf : Fm (fun c => c = o) I0 I0 := Fm.rf
  have g_1 : (0 : Int) ≤ (I0 o 4).toInt ∧ (I0 o 4).toInt ≤ 5 := hR.at0 ra 4 (by decide)
  refine sModel_fails_0 o n sh Rf I0 L0 post p1 p2 hok hw ?_
  unfold fModel_fails_0
  have hg : gModel_fails_0 o (tI I0) L0 (p1).toInt (p2).toInt = gModel_fails_0 o (tI I0) L0 (p1).toInt (p2).toInt := rfl
  replace hg := (eModel_fails_0).symm.trans hg
  have g_2 : (0 : Int) ≤ (I0 o 4).toInt ∧ (I0 o 4).toInt ≤ 5 := hR.at0 ra 4 (by decide)
  replace hg := gt_let (y := (I0 o 4).toInt) rfl hg
  have l_3 : (0 : Int32).toInt = 0 := rfl
  refine ⟨fun c_4 => ?_, fun c_4 => ?_⟩
  · have d_5 := iLe c_4
    replace hg := gt_pos (by first | exact d_5 | omega) hg
    refine fun I_6 e_7 => ?_
    replace hg := gt_let (y := tI I_6) (tI_q e_7) hg
    have hR_8 : RI R I_6 := hR.up0 (k := 4) ra (by decide) (Or.inr hz14) e_7 (show (0 : Int) ≤ p1.toInt by omega) (show p1.toInt ≤ (5 : Int) by omega)
    have hf_9 : Fm (fun c => c = o) I0 I_6 := hf.set (by first | rfl | omega | (dsimp only; omega)) e_7
    have t_10 : (I_6 o 4).toInt = p1.toInt := by rw [← e_7, q_u_at]
    refine fun I_11 e_12 => ?_
    replace hg := gt_let (y := tI I_11) (tI_q e_12) hg
    have hR_13 : RI R I_11 := hR_8.up0 (k := 5) ra (by decide) (Or.inr hz15) e_12 (i_lo _) (i_hi _)
    have hf_14 : Fm (fun c => c = o) I0 I_11 := hf_9.set (by first | rfl | omega | (dsimp only; omega)) e_12
    have t_15 : (I_11 o 4).toInt = (I_6 o 4).toInt := by rw [← e_12, q_u_k (by decide)]
    exact (hp _ _ hR_13 hf_14 (by first | omega | (intro h; omega) | exact Or.inl rfl | exact Or.inr rfl) (by first | omega | (intro h; omega) | exact Or.inl rfl | exact Or.inr rfl) hg.symm)
  · have d_16 := iNle c_4
    replace hg := gt_neg (by first | exact d_16 | omega) hg
    exact (hp _ _ hR hf (by first | omega | (intro h; omega) | exact Or.inl rfl | exact Or.inr rfl) (by first | omega | (intro h; omega) | exact Or.inl rfl | exact Or.inr rfl) hg.symm)
theorem y_Model_failsg {D : va_G} {cA : FieldType → ClassId} {b : Nat} {E : State → Prop} {R : qRg} {o n : Nat} {sh : Nat → qC} {Rf : Nat → Nat → Option Nat} {I0 : Nat → Nat → Int32} {L0 : Nat → Nat → Int64} {post : Option Value → qS → Prop} {p1 : Int32} {p2 : Int32} (hok : q_ok (qGG D cA b E)) (hw : WfModel (qGG D cA b E) n sh Rf o) (ra : RAModel R o) (hz14 : R.2 14 = true) (hz15 : R.2 15 = true) (hq0 : (1 : Int) ≤ p1.toInt ∧ p1.toInt ≤ 5) (hR : RI R I0) (hp : ∀ (I' : Nat → Nat → Int32) (L' : Nat → Nat → Int64), RI R I' → Fm (fun c => c = o) I0 I' → Kp wModel_fails I0 I' o → (1 ≤ (I' o 4).toInt) → ((I0 o 4).toInt ≤ (I' o 4).toInt) → (gModel_fails_0 o (tI I0) L0 (p1).toInt (p2).toInt = (0, tI I', L')) → post none (n, sh, Rf, I', L')) : Ev (qGG D cA b E) mModel_fails 0 (0, 0) 0 (lv_args 0 [.ref o, .int p1, .int p2]) [] (n, sh, Rf, I0, L0) post :=
  yc_Model_failsg (R := fzR R I0 o wModel_fails) hok hw (fzA ra hR _) (fzT hz14 rfl) (fzT hz15 rfl) fzZ (fzI hR) hq0 (fzI hR) (fun I' L' h1 h2 u0 u1 ug => hp I' L' (fzB hR h1) h2 (fzP h1) u0 u1 ug)
noncomputable def gModel_is_0 (o : Nat) (J : gJ) (L : gL) (x1 : Int) : Int := gLet (J o 8) (fun (v_1 : Int) => (if v_1 = 6 then gLet (J o 6) (fun (v_2 : Int) => gLet (gModel_sign_0 o J L v_2) (fun (r_3 : Int) => (if r_3 = x1 then 1 else 0))) else 0))
theorem eModel_is_0 {o : Nat} {J : gJ} {L : gL} {x1 : Int} : gModel_is_0 o J L x1 = gLet (J o 8) (fun (v_1 : Int) => (if v_1 = 6 then gLet (J o 6) (fun (v_2 : Int) => gLet (gModel_sign_0 o J L v_2) (fun (r_3 : Int) => (if r_3 = x1 then 1 else 0))) else 0)) := rfl
set_option maxHeartbeats 4000000 in
set_option maxRecDepth 20000 in
theorem y_Model_isg {D : va_G} {cA : FieldType → ClassId} {b : Nat} {E : State → Prop} {R : qRg} {o n : Nat} {sh : Nat → qC} {Rf : Nat → Nat → Option Nat} {I0 : Nat → Nat → Int32} {L0 : Nat → Nat → Int64} {post : Option Value → qS → Prop} {p1 : Int32} (hok : q_ok (qGG D cA b E)) (hw : WfModel (qGG D cA b E) n sh Rf o) (ra : RAModel R o) (hR : RI R I0) (hp : ∀ (r : Int32) , (Bz r) → (Im (r.toInt ≠ 0) ((I0 o 8).toInt = 6)) → (Im (r.toInt ≠ 0) (sgF (I0 (o + 2)) (I0 o 3) (I0 o 6) = p1)) → (gModel_is_0 o (tI I0) L0 (p1).toInt = r.toInt) → post (some (.int r)) (n, sh, Rf, I0, L0)) : Ev (qGG D cA b E) mModel_is 1 (0, 0) 0 (lv_args 0 [.ref o, .int p1]) [] (n, sh, Rf, I0, L0) post := by
  refine sModel_is_0 o n sh Rf I0 L0 post p1 hok hw ?_
  unfold fModel_is_0
  have hg : gModel_is_0 o (tI I0) L0 (p1).toInt = gModel_is_0 o (tI I0) L0 (p1).toInt := rfl
  replace hg := (eModel_is_0).symm.trans hg
  have g_1 : (0 : Int) ≤ (I0 o 8).toInt ∧ (I0 o 8).toInt ≤ 6 := hR.at0 ra 8 (by decide)
  replace hg := gt_let (y := (I0 o 8).toInt) rfl hg
  have l_2 : (6 : Int32).toInt = 6 := rfl
  refine ⟨fun c_3 => ?_, fun c_3 => ?_⟩
  · have d_4 := iNe c_3
    replace hg := gt_neg (by first | exact d_4 | omega) hg
    have l_5 : (0 : Int32).toInt = 0 := rfl
    exact (hp _ (Or.inl rfl) (by clear hg; intro _; omega) (by clear hg; first | (intro h; exfalso; omega) | (intro _; subst_vars; first | rfl | assumption | (apply Eq.symm; assumption))) hg.symm)
  · have d_6 := iEq c_3
    replace hg := gt_pos (by first | exact d_6 | omega) hg
    have g_7 : (0 : Int) ≤ (I0 o 6).toInt ∧ (I0 o 6).toInt ≤ 1600 := hR.at0 ra 6 (by decide)
    replace hg := gt_let (y := (I0 o 6).toInt) rfl hg
    refine y_Model_signg hok hw ra (by first | omega | (intro h; omega) | exact Or.inl rfl | exact Or.inr rfl) hR (fun r_8 u_9 u_10 gn_11 => ⟨r_8, I0, L0, rfl, rfl, ?_⟩)
    replace hg := gt_let gn_11 hg
    clear gn_11
    refine ⟨fun c_12 => ?_, fun c_12 => ?_⟩
    · have d_13 := iNe c_12
      replace hg := gt_neg (by first | exact d_13 | omega) hg
      have l_14 : (0 : Int32).toInt = 0 := rfl
      exact (hp _ (Or.inl rfl) (by clear hg; intro _; omega) (by clear hg; first | (intro h; exfalso; omega) | (intro _; subst_vars; first | rfl | assumption | (apply Eq.symm; assumption))) hg.symm)
    · have d_15 := iEq c_12
      replace hg := gt_pos (by first | exact d_15 | omega) hg
      have l_16 : (1 : Int32).toInt = 1 := rfl
      exact (hp _ (Or.inr rfl) (by clear hg; intro _; omega) (by clear hg; first | (intro h; exfalso; omega) | (intro _; subst_vars; first | rfl | assumption | (apply Eq.symm; assumption))) hg.symm)
noncomputable def gModel_isWord_0 (o : Nat) (J : gJ) (L : gL) (x1 : Int64) : Int := gLet (J o 8) (fun (v_1 : Int) => (if v_1 = 3 then gLet ((lg_cmp (L o 10) x1).toInt) (fun (v_2 : Int) => (if v_2 = 0 then 1 else 0)) else 0))
theorem eModel_isWord_0 {o : Nat} {J : gJ} {L : gL} {x1 : Int64} : gModel_isWord_0 o J L x1 = gLet (J o 8) (fun (v_1 : Int) => (if v_1 = 3 then gLet ((lg_cmp (L o 10) x1).toInt) (fun (v_2 : Int) => (if v_2 = 0 then 1 else 0)) else 0)) := rfl
set_option maxHeartbeats 4000000 in
set_option maxRecDepth 20000 in
theorem y_Model_isWordg {D : va_G} {cA : FieldType → ClassId} {b : Nat} {E : State → Prop} {R : qRg} {o n : Nat} {sh : Nat → qC} {Rf : Nat → Nat → Option Nat} {I0 : Nat → Nat → Int32} {L0 : Nat → Nat → Int64} {post : Option Value → qS → Prop} {p1 : Int64} (hok : q_ok (qGG D cA b E)) (hw : WfModel (qGG D cA b E) n sh Rf o) (ra : RAModel R o) (hR : RI R I0) (hp : ∀ (r : Int32) , (Bz r) → (Im (r.toInt ≠ 0) ((I0 o 8).toInt = 3)) → (gModel_isWord_0 o (tI I0) L0 p1 = r.toInt) → post (some (.int r)) (n, sh, Rf, I0, L0)) : Ev (qGG D cA b E) mModel_isWord 0 (0, 0) 0 (lv_args 0 [.ref o, .long p1]) [] (n, sh, Rf, I0, L0) post := by
  refine sModel_isWord_0 o n sh Rf I0 L0 post p1 hok hw ?_
  unfold fModel_isWord_0
  have hg : gModel_isWord_0 o (tI I0) L0 p1 = gModel_isWord_0 o (tI I0) L0 p1 := rfl
  replace hg := (eModel_isWord_0).symm.trans hg
  have g_1 : (0 : Int) ≤ (I0 o 8).toInt ∧ (I0 o 8).toInt ≤ 6 := hR.at0 ra 8 (by decide)
  replace hg := gt_let (y := (I0 o 8).toInt) rfl hg
  have l_2 : (3 : Int32).toInt = 3 := rfl
  refine ⟨fun c_3 => ?_, fun c_3 => ?_⟩
  · have d_4 := iNe c_3
    replace hg := gt_neg (by first | exact d_4 | omega) hg
    have l_5 : (0 : Int32).toInt = 0 := rfl
    exact (hp _ (Or.inl rfl) (by clear hg; intro _; omega) hg.symm)
  · have d_6 := iEq c_3
    replace hg := gt_pos (by first | exact d_6 | omega) hg
    replace hg := gt_let (y := (lg_cmp (L0 o 10) p1).toInt) rfl hg
    have l_7 : (0 : Int32).toInt = 0 := rfl
    refine ⟨fun c_8 => ?_, fun c_8 => ?_⟩
    · have d_9 := iNe c_8
      replace hg := gt_neg (by first | exact d_9 | omega) hg
      exact (hp _ (Or.inl rfl) (by clear hg; intro _; omega) hg.symm)
    · have d_10 := iEq c_8
      replace hg := gt_pos (by first | exact d_10 | omega) hg
      have l_11 : (1 : Int32).toInt = 1 := rfl
      exact (hp _ (Or.inr rfl) (by clear hg; intro _; omega) hg.symm)
noncomputable def gModel_takeTape_25 (k : Nat) (o : Nat) (J : gJ) (L : gL) (x1 : Int) (x2 : Int) : Int × gJ × gL := match k with
  | 0 => default
  | k + 1 => gLet (J o 3) (fun (v_1 : Int) => (if v_1 ≤ x2 then gLet (q_u J o 2 0) (fun (J_2 : gJ) => gLet (q_u J_2 o 7 0) (fun (J_3 : gJ) => (0, J_3, L))) else gLet (J (o + 1) (Int.toNat x2)) (fun (v_4 : Int) => gLet (q_u J (o + 2) (Int.toNat x2) (wNar8 v_4)) (fun (J_5 : gJ) => gLet (x2 + 1) (fun (v_6 : Int) => (gModel_takeTape_25 k o J_5 L x1 v_6))))))
theorem eModel_takeTape_25 {k : Nat} {o : Nat} {J : gJ} {L : gL} {x1 : Int} {x2 : Int} : gModel_takeTape_25 (k + 1) o J L x1 x2 = gLet (J o 3) (fun (v_1 : Int) => (if v_1 ≤ x2 then gLet (q_u J o 2 0) (fun (J_2 : gJ) => gLet (q_u J_2 o 7 0) (fun (J_3 : gJ) => (0, J_3, L))) else gLet (J (o + 1) (Int.toNat x2)) (fun (v_4 : Int) => gLet (q_u J (o + 2) (Int.toNat x2) (wNar8 v_4)) (fun (J_5 : gJ) => gLet (x2 + 1) (fun (v_6 : Int) => (gModel_takeTape_25 k o J_5 L x1 v_6)))))) := rfl
noncomputable def gModel_takeTape_0 (o : Nat) (J : gJ) (L : gL) (x1 : Int) : Int × gJ × gL := gLet (q_u J o 11 x1) (fun (J_1 : gJ) => gLet (q_u J_1 o 4 0) (fun (J_2 : gJ) => gLet (q_u J_2 o 5 (-1)) (fun (J_3 : gJ) => gLet (J_3 o 2) (fun (v_4 : Int) => gLet (q_u J_3 o 3 v_4) (fun (J_5 : gJ) => (gModel_takeTape_25 20000 o J_5 L x1 0))))))
theorem eModel_takeTape_0 {o : Nat} {J : gJ} {L : gL} {x1 : Int} : gModel_takeTape_0 o J L x1 = gLet (q_u J o 11 x1) (fun (J_1 : gJ) => gLet (q_u J_1 o 4 0) (fun (J_2 : gJ) => gLet (q_u J_2 o 5 (-1)) (fun (J_3 : gJ) => gLet (J_3 o 2) (fun (v_4 : Int) => gLet (q_u J_3 o 3 v_4) (fun (J_5 : gJ) => (gModel_takeTape_25 20000 o J_5 L x1 0)))))) := rfl
set_option maxHeartbeats 4000000 in
set_option maxRecDepth 20000 in
theorem yModel_takeTape_25g {D : va_G} {cA : FieldType → ClassId} {b : Nat} {E : State → Prop} {R : qRg} {o n : Nat} {sh : Nat → qC} {Rf : Nat → Nat → Option Nat} {I0 : Nat → Nat → Int32} {L0 : Nat → Nat → Int64} {post : Option Value → qS → Prop} {p1 : Int32} (hok : q_ok (qGG D cA b E)) (hw : WfModel (qGG D cA b E) n sh Rf o) (ra : RAModel R o) (hz12 : R.2 12 = true) (hz13 : R.2 13 = true) (hz14 : R.2 14 = true) (hz15 : R.2 15 = true) (hz17 : R.2 17 = true) (hz21 : R.2 21 = true) (hZ : Fz R I0 o wModel_takeTape) (hR0 : RI R I0) (hq0 : p1 = 0 ∨ p1 = 1) (hp : ∀ (I' : Nat → Nat → Int32) (L' : Nat → Nat → Int64), RI R I' → Fm (fun c => c = o ∨ c = o + 2) I0 I' → ((I' o 7).toInt = 0) → ((I' o 4).toInt = 0) → ((I' o 3).toInt = (I0 o 2).toInt) → ((I' o 2).toInt = 0) → (gModel_takeTape_0 o (tI I0) L0 (p1).toInt = (0, tI I', L')) → post none (n, sh, Rf, I', L')) : ∀ (k : Nat) {x1 : Int32} {x2 : Int32} {I : Nat → Nat → Int32} {L : Nat → Nat → Int64}, RI R I → Fm (fun c => c = o ∨ c = o + 2) I0 I → ((0 : Int) ≤ x2.toInt ∧ x2.toInt ≤ 1600) → ((I o 4).toInt = 0) → ((I o 3).toInt = (I0 o 2).toInt) → ((I o 2).toInt = (I0 o 2).toInt) → (gModel_takeTape_25 k o (tI I) L (x1).toInt (x2).toInt = gModel_takeTape_0 o (tI I0) L0 (p1).toInt) → (1600 - x2.toInt).toNat < k → Ev (qGG D cA b E) mModel_takeTape 0 (0, 0) 25 [(0, .ref o), (1, .int x1), (2, .int x2)] [] (n, sh, Rf, I, L) post := by
  intro k
  induction k with
  | zero =>
    intro x1 x2 I L hR hf hi0 hi1 hi2 hi3 hg hm
    exact absurd hm (Nat.not_lt_zero _)
  | succ k ih =>
    intro x1 x2 I L hR hf hi0 hi1 hi2 hi3 hg hm
    have g_1 : (0 : Int) ≤ (I o 2).toInt ∧ (I o 2).toInt ≤ 1600 := hR.at0 ra 2 (by decide)
    have g_2 : (0 : Int) ≤ (I0 o 2).toInt ∧ (I0 o 2).toInt ≤ 1600 := hR0.at0 ra 2 (by decide)
    have g_3 : (0 : Int) ≤ (I o 3).toInt ∧ (I o 3).toInt ≤ 1600 := hR.at0 ra 3 (by decide)
    have g_4 : (0 : Int) ≤ (I0 o 3).toInt ∧ (I0 o 3).toInt ≤ 1600 := hR0.at0 ra 3 (by decide)
    have g_5 : (0 : Int) ≤ (I o 4).toInt ∧ (I o 4).toInt ≤ 5 := hR.at0 ra 4 (by decide)
    have g_6 : (0 : Int) ≤ (I0 o 4).toInt ∧ (I0 o 4).toInt ≤ 5 := hR0.at0 ra 4 (by decide)
    have g_7 : (0 : Int) ≤ (I o 7).toInt ∧ (I o 7).toInt ≤ 1601 := hR.at0 ra 7 (by decide)
    have g_8 : (0 : Int) ≤ (I0 o 7).toInt ∧ (I0 o 7).toInt ≤ 1601 := hR0.at0 ra 7 (by decide)
    refine sModel_takeTape_25 o n sh Rf I L post x1 x2 hok hw ?_
    unfold fModel_takeTape_25
    replace hg := (eModel_takeTape_25).symm.trans hg
    have g_9 : (0 : Int) ≤ (I o 3).toInt ∧ (I o 3).toInt ≤ 1600 := hR.at0 ra 3 (by decide)
    replace hg := gt_let (y := (I o 3).toInt) rfl hg
    refine ⟨fun c_10 => ?_, fun c_10 => ?_⟩
    · have d_11 := iLe c_10
      replace hg := gt_pos (by first | exact d_11 | omega) hg
      have l_12 : (0 : Int32).toInt = 0 := rfl
      refine fun I_13 e_14 => ?_
      replace hg := gt_let (y := tI I_13) (tI_q e_14) hg
      have hR_15 : RI R I_13 := hR.up0 (k := 2) ra (by decide) (Or.inr hz12) e_14 (show (0 : Int) ≤ (0 : Int32).toInt by omega) (show (0 : Int32).toInt ≤ (1600 : Int) by omega)
      have hf_16 : Fm (fun c => c = o ∨ c = o + 2) I0 I_13 := hf.set (by first | rfl | omega | (dsimp only; omega)) e_14
      have t_17 : (I_13 o 2).toInt = (0 : Int32).toInt := by rw [← e_14, q_u_at]
      have t_18 : (I_13 o 3).toInt = (I o 3).toInt := by rw [← e_14, q_u_k (by decide)]
      have t_19 : (I_13 o 4).toInt = (I o 4).toInt := by rw [← e_14, q_u_k (by decide)]
      have t_20 : (I_13 o 7).toInt = (I o 7).toInt := by rw [← e_14, q_u_k (by decide)]
      refine fun I_21 e_22 => ?_
      replace hg := gt_let (y := tI I_21) (tI_q e_22) hg
      have hR_23 : RI R I_21 := hR_15.up0 (k := 7) ra (by decide) (Or.inr hz17) e_22 (show (0 : Int) ≤ (0 : Int32).toInt by omega) (show (0 : Int32).toInt ≤ (1601 : Int) by omega)
      have hf_24 : Fm (fun c => c = o ∨ c = o + 2) I0 I_21 := hf_16.set (by first | rfl | omega | (dsimp only; omega)) e_22
      have t_25 : (I_21 o 2).toInt = (I_13 o 2).toInt := by rw [← e_22, q_u_k (by decide)]
      have t_26 : (I_21 o 3).toInt = (I_13 o 3).toInt := by rw [← e_22, q_u_k (by decide)]
      have t_27 : (I_21 o 4).toInt = (I_13 o 4).toInt := by rw [← e_22, q_u_k (by decide)]
      have t_28 : (I_21 o 7).toInt = (0 : Int32).toInt := by rw [← e_22, q_u_at]
      exact (hp _ _ hR_23 hf_24 (by first | omega | (intro h; omega) | exact Or.inl rfl | exact Or.inr rfl) (by first | omega | (intro h; omega) | exact Or.inl rfl | exact Or.inr rfl) (by first | omega | (intro h; omega) | exact Or.inl rfl | exact Or.inr rfl) (by first | omega | (intro h; omega) | exact Or.inl rfl | exact Or.inr rfl) hg.symm)
    · have d_29 := iNle c_10
      replace hg := gt_neg (by first | exact d_29 | omega) hg
      refine ⟨tIn (by omega) (by omega), ?_⟩
      replace hg := gt_let (y := (I (o + 1) (x2 : Int32).toNatClampNeg).toInt) rfl hg
      refine ⟨tIn (by omega) (by omega), fun I_30 e_31 => ?_⟩
      replace hg := gt_let (y := tI I_30) (tI_qb e_31) hg
      have hR_32 : RI R I_30 := hR.up ra 2 (by decide) (Or.inl rfl) e_31 (i_lo _) (i_hi _)
      have hf_33 : Fm (fun c => c = o ∨ c = o + 2) I0 I_30 := hf.set (by first | rfl | omega | (dsimp only; omega)) e_31
      have t_34 : (I_30 o 2).toInt = (I o 2).toInt := by rw [← e_31, q_u_ne (by omega)]
      have t_35 : (I_30 o 3).toInt = (I o 3).toInt := by rw [← e_31, q_u_ne (by omega)]
      have t_36 : (I_30 o 4).toInt = (I o 4).toInt := by rw [← e_31, q_u_ne (by omega)]
      have t_37 : (I_30 o 7).toInt = (I o 7).toInt := by rw [← e_31, q_u_ne (by omega)]
      have a_39 : (x2 + Int32.ofInt 1).toInt = x2.toInt + (1) := tIc (by omega) (by omega) (by decide) (by decide)
      generalize ez_38 : (x2 + Int32.ofInt 1) = z_38 at a_39 ⊢
      replace hg := gt_let (y := z_38.toInt) (by omega) hg
      exact ih hR_32 hf_33 (by first | omega | (intro h; omega) | exact Or.inl rfl | exact Or.inr rfl) (by first | omega | (intro h; omega) | exact Or.inl rfl | exact Or.inr rfl) (by first | omega | (intro h; omega) | exact Or.inl rfl | exact Or.inr rfl) (by first | omega | (intro h; omega) | exact Or.inl rfl | exact Or.inr rfl) hg (by omega)
set_option maxHeartbeats 4000000 in
set_option maxRecDepth 20000 in
theorem yc_Model_takeTapeg {D : va_G} {cA : FieldType → ClassId} {b : Nat} {E : State → Prop} {R : qRg} {o n : Nat} {sh : Nat → qC} {Rf : Nat → Nat → Option Nat} {I0 : Nat → Nat → Int32} {L0 : Nat → Nat → Int64} {post : Option Value → qS → Prop} {p1 : Int32} (hok : q_ok (qGG D cA b E)) (hw : WfModel (qGG D cA b E) n sh Rf o) (ra : RAModel R o) (hz12 : R.2 12 = true) (hz13 : R.2 13 = true) (hz14 : R.2 14 = true) (hz15 : R.2 15 = true) (hz17 : R.2 17 = true) (hz21 : R.2 21 = true) (hZ : Fz R I0 o wModel_takeTape) (hR0 : RI R I0) (hq0 : p1 = 0 ∨ p1 = 1) (hR : RI R I0) (hp : ∀ (I' : Nat → Nat → Int32) (L' : Nat → Nat → Int64), RI R I' → Fm (fun c => c = o ∨ c = o + 2) I0 I' → ((I' o 7).toInt = 0) → ((I' o 4).toInt = 0) → ((I' o 3).toInt = (I0 o 2).toInt) → ((I' o 2).toInt = 0) → (gModel_takeTape_0 o (tI I0) L0 (p1).toInt = (0, tI I', L')) → post none (n, sh, Rf, I', L')) : Ev (qGG D cA b E) mModel_takeTape 0 (0, 0) 0 (lv_args 0 [.ref o, .int p1]) [] (n, sh, Rf, I0, L0) post := by
  have hf : Fm (fun c => c = o ∨ c = o + 2) I0 I0 := Fm.rf
  have g_40 : (0 : Int) ≤ (I0 o 2).toInt ∧ (I0 o 2).toInt ≤ 1600 := hR.at0 ra 2 (by decide)
  have g_41 : (0 : Int) ≤ (I0 o 3).toInt ∧ (I0 o 3).toInt ≤ 1600 := hR.at0 ra 3 (by decide)
  have g_42 : (0 : Int) ≤ (I0 o 4).toInt ∧ (I0 o 4).toInt ≤ 5 := hR.at0 ra 4 (by decide)
  have g_43 : (0 : Int) ≤ (I0 o 7).toInt ∧ (I0 o 7).toInt ≤ 1601 := hR.at0 ra 7 (by decide)
  refine sModel_takeTape_0 o n sh Rf I0 L0 post p1 hok hw ?_
  unfold fModel_takeTape_0
  have hg : gModel_takeTape_0 o (tI I0) L0 (p1).toInt = gModel_takeTape_0 o (tI I0) L0 (p1).toInt := rfl
  replace hg := (eModel_takeTape_0).symm.trans hg
  refine ⟨hq0, fun I_44 e_45 => ?_⟩
  replace hg := gt_let (y := tI I_44) (tI_q e_45) hg
  have hR_46 : RI R I_44 := hR.up0 (k := 11) ra (by decide) (Or.inr hz21) e_45 (i_lo _) (i_hi _)
  have hf_47 : Fm (fun c => c = o ∨ c = o + 2) I0 I_44 := hf.set (by first | rfl | omega | (dsimp only; omega)) e_45
  have t_48 : (I_44 o 2).toInt = (I0 o 2).toInt := by rw [← e_45, q_u_k (by decide)]
  have t_49 : (I_44 o 3).toInt = (I0 o 3).toInt := by rw [← e_45, q_u_k (by decide)]
  have t_50 : (I_44 o 4).toInt = (I0 o 4).toInt := by rw [← e_45, q_u_k (by decide)]
  have t_51 : (I_44 o 7).toInt = (I0 o 7).toInt := by rw [← e_45, q_u_k (by decide)]
  have l_52 : (0 : Int32).toInt = 0 := rfl
  refine fun I_53 e_54 => ?_
  replace hg := gt_let (y := tI I_53) (tI_q e_54) hg
  have hR_55 : RI R I_53 := hR_46.up0 (k := 4) ra (by decide) (Or.inr hz14) e_54 (show (0 : Int) ≤ (0 : Int32).toInt by omega) (show (0 : Int32).toInt ≤ (5 : Int) by omega)
  have hf_56 : Fm (fun c => c = o ∨ c = o + 2) I0 I_53 := hf_47.set (by first | rfl | omega | (dsimp only; omega)) e_54
  have t_57 : (I_53 o 2).toInt = (I_44 o 2).toInt := by rw [← e_54, q_u_k (by decide)]
  have t_58 : (I_53 o 3).toInt = (I_44 o 3).toInt := by rw [← e_54, q_u_k (by decide)]
  have t_59 : (I_53 o 4).toInt = (0 : Int32).toInt := by rw [← e_54, q_u_at]
  have t_60 : (I_53 o 7).toInt = (I_44 o 7).toInt := by rw [← e_54, q_u_k (by decide)]
  have l_61 : (-1 : Int32).toInt = -1 := rfl
  refine fun I_62 e_63 => ?_
  replace hg := gt_let (y := tI I_62) (tI_q e_63) hg
  have hR_64 : RI R I_62 := hR_55.up0 (k := 5) ra (by decide) (Or.inr hz15) e_63 (i_lo _) (i_hi _)
  have hf_65 : Fm (fun c => c = o ∨ c = o + 2) I0 I_62 := hf_56.set (by first | rfl | omega | (dsimp only; omega)) e_63
  have t_66 : (I_62 o 2).toInt = (I_53 o 2).toInt := by rw [← e_63, q_u_k (by decide)]
  have t_67 : (I_62 o 3).toInt = (I_53 o 3).toInt := by rw [← e_63, q_u_k (by decide)]
  have t_68 : (I_62 o 4).toInt = (I_53 o 4).toInt := by rw [← e_63, q_u_k (by decide)]
  have t_69 : (I_62 o 7).toInt = (I_53 o 7).toInt := by rw [← e_63, q_u_k (by decide)]
  have g_70 : (0 : Int) ≤ (I_62 o 2).toInt ∧ (I_62 o 2).toInt ≤ 1600 := hR_64.at0 ra 2 (by decide)
  replace hg := gt_let (y := (I_62 o 2).toInt) rfl hg
  refine fun I_71 e_72 => ?_
  replace hg := gt_let (y := tI I_71) (tI_q e_72) hg
  have hR_73 : RI R I_71 := hR_64.up0 (k := 3) ra (by decide) (Or.inr hz13) e_72 (show (0 : Int) ≤ (I_62 o 2).toInt by omega) (show (I_62 o 2).toInt ≤ (1600 : Int) by omega)
  have hf_74 : Fm (fun c => c = o ∨ c = o + 2) I0 I_71 := hf_65.set (by first | rfl | omega | (dsimp only; omega)) e_72
  have t_75 : (I_71 o 2).toInt = (I_62 o 2).toInt := by rw [← e_72, q_u_k (by decide)]
  have t_76 : (I_71 o 3).toInt = (I_62 o 2).toInt := by rw [← e_72, q_u_at]
  have t_77 : (I_71 o 4).toInt = (I_62 o 4).toInt := by rw [← e_72, q_u_k (by decide)]
  have t_78 : (I_71 o 7).toInt = (I_62 o 7).toInt := by rw [← e_72, q_u_k (by decide)]
  exact yModel_takeTape_25g (I0 := I0) (L0 := L0) (p1 := p1) hok hw ra hz12 hz13 hz14 hz15 hz17 hz21 hZ hR0 hq0 hp  20000 hR_73 hf_74 (by first | omega | (intro h; omega) | exact Or.inl rfl | exact Or.inr rfl) (by first | omega | (intro h; omega) | exact Or.inl rfl | exact Or.inr rfl) (by first | omega | (intro h; omega) | exact Or.inl rfl | exact Or.inr rfl) (by first | omega | (intro h; omega) | exact Or.inl rfl | exact Or.inr rfl) hg (by omega)
theorem y_Model_takeTapeg {D : va_G} {cA : FieldType → ClassId} {b : Nat} {E : State → Prop} {R : qRg} {o n : Nat} {sh : Nat → qC} {Rf : Nat → Nat → Option Nat} {I0 : Nat → Nat → Int32} {L0 : Nat → Nat → Int64} {post : Option Value → qS → Prop} {p1 : Int32} (hok : q_ok (qGG D cA b E)) (hw : WfModel (qGG D cA b E) n sh Rf o) (ra : RAModel R o) (hz12 : R.2 12 = true) (hz13 : R.2 13 = true) (hz14 : R.2 14 = true) (hz15 : R.2 15 = true) (hz17 : R.2 17 = true) (hz21 : R.2 21 = true) (hq0 : p1 = 0 ∨ p1 = 1) (hR : RI R I0) (hp : ∀ (I' : Nat → Nat → Int32) (L' : Nat → Nat → Int64), RI R I' → Fm (fun c => c = o ∨ c = o + 2) I0 I' → Kp wModel_takeTape I0 I' o → ((I' o 7).toInt = 0) → ((I' o 4).toInt = 0) → ((I' o 3).toInt = (I0 o 2).toInt) → ((I' o 2).toInt = 0) → (gModel_takeTape_0 o (tI I0) L0 (p1).toInt = (0, tI I', L')) → post none (n, sh, Rf, I', L')) : Ev (qGG D cA b E) mModel_takeTape 0 (0, 0) 0 (lv_args 0 [.ref o, .int p1]) [] (n, sh, Rf, I0, L0) post :=
  yc_Model_takeTapeg (R := fzR R I0 o wModel_takeTape) hok hw (fzA ra hR _) (fzT hz12 rfl) (fzT hz13 rfl) (fzT hz14 rfl) (fzT hz15 rfl) (fzT hz17 rfl) (fzT hz21 rfl) fzZ (fzI hR) hq0 (fzI hR) (fun I' L' h1 h2 u0 u1 u2 u3 ug => hp I' L' (fzB hR h1) h2 (fzP h1) u0 u1 u2 u3 ug)
noncomputable def gModel_wrong_0 (o : Nat) (J : gJ) (L : gL) : Int × gJ × gL := gLet (J o 8) (fun (v_1 : Int) => (if v_1 = 1 then gLet (J o 6) (fun (v_6 : Int) => gB3 (gModel_fails_0 o J L 1 v_6) (fun r_7 J_8 L_9 => (0, J_8, L_9))) else gLet (J o 6) (fun (v_2 : Int) => gB3 (gModel_fails_0 o J L 2 v_2) (fun r_3 J_4 L_5 => (0, J_4, L_5)))))
theorem eModel_wrong_0 {o : Nat} {J : gJ} {L : gL} : gModel_wrong_0 o J L  = gLet (J o 8) (fun (v_1 : Int) => (if v_1 = 1 then gLet (J o 6) (fun (v_6 : Int) => gB3 (gModel_fails_0 o J L 1 v_6) (fun r_7 J_8 L_9 => (0, J_8, L_9))) else gLet (J o 6) (fun (v_2 : Int) => gB3 (gModel_fails_0 o J L 2 v_2) (fun r_3 J_4 L_5 => (0, J_4, L_5))))) := rfl
set_option maxHeartbeats 4000000 in
set_option maxRecDepth 20000 in
theorem yc_Model_wrongg {D : va_G} {cA : FieldType → ClassId} {b : Nat} {E : State → Prop} {R : qRg} {o n : Nat} {sh : Nat → qC} {Rf : Nat → Nat → Option Nat} {I0 : Nat → Nat → Int32} {L0 : Nat → Nat → Int64} {post : Option Value → qS → Prop} (hok : q_ok (qGG D cA b E)) (hw : WfModel (qGG D cA b E) n sh Rf o) (ra : RAModel R o) (hz14 : R.2 14 = true) (hz15 : R.2 15 = true) (hZ : Fz R I0 o wModel_wrong) (hR0 : RI R I0) (hR : RI R I0) (hp : ∀ (I' : Nat → Nat → Int32) (L' : Nat → Nat → Int64), RI R I' → Fm (fun c => c = o) I0 I' → (1 ≤ (I' o 4).toInt) → ((I0 o 4).toInt ≤ (I' o 4).toInt) → (gModel_wrong_0 o (tI I0) L0 = (0, tI I', L')) → post none (n, sh, Rf, I', L')) : Ev (qGG D cA b E) mModel_wrong 1 (0, 0) 0 (lv_args 0 [.ref o]) [] (n, sh, Rf, I0, L0) post := by
  have hf : Fm (fun c => c = o) I0 I0 := Fm.rf
  have g_1 : (0 : Int) ≤ (I0 o 3).toInt ∧ (I0 o 3).toInt ≤ 1600 := hR.at0 ra 3 (by decide)
  have g_2 : (0 : Int) ≤ (I0 o 4).toInt ∧ (I0 o 4).toInt ≤ 5 := hR.at0 ra 4 (by decide)
  have g_3 : (0 : Int) ≤ (I0 o 6).toInt ∧ (I0 o 6).toInt ≤ 1600 := hR.at0 ra 6 (by decide)
  have g_4 : (0 : Int) ≤ (I0 o 7).toInt ∧ (I0 o 7).toInt ≤ 1601 := hR.at0 ra 7 (by decide)
  have g_5 : (0 : Int) ≤ (I0 o 8).toInt ∧ (I0 o 8).toInt ≤ 6 := hR.at0 ra 8 (by decide)
  refine sModel_wrong_0 o n sh Rf I0 L0 post  hok hw ?_
  unfold fModel_wrong_0
  have hg : gModel_wrong_0 o (tI I0) L0 = gModel_wrong_0 o (tI I0) L0 := rfl
  replace hg := (eModel_wrong_0).symm.trans hg
  have g_6 : (0 : Int) ≤ (I0 o 8).toInt ∧ (I0 o 8).toInt ≤ 6 := hR.at0 ra 8 (by decide)
  replace hg := gt_let (y := (I0 o 8).toInt) rfl hg
  have l_7 : (1 : Int32).toInt = 1 := rfl
  refine ⟨fun c_8 => ?_, fun c_8 => ?_⟩
  · have d_9 := iNe c_8
    replace hg := gt_neg (by first | exact d_9 | omega) hg
    have g_10 : (0 : Int) ≤ (I0 o 6).toInt ∧ (I0 o 6).toInt ≤ 1600 := hR.at0 ra 6 (by decide)
    replace hg := gt_let (y := (I0 o 6).toInt) rfl hg
    have l_11 : (2 : Int32).toInt = 2 := rfl
    refine y_Model_failsg hok hw ra hz14 hz15 (by first | omega | (intro h; omega) | exact Or.inl rfl | exact Or.inr rfl) hR (fun I_16 L_17 hR_18 fr_19 kp_20 u_13 u_14 gn_15 => ⟨I_16, L_17, rfl, rfl, ?_⟩)
    replace hg := gt_b3 gn_15 hg
    clear gn_15
    have hf_21 : Fm (fun c => c = o) I0 I_16 := hf.call fr_19 (fun c hc => by first | exact hc | (dsimp only at hc ⊢; omega) | omega)
    have t_22 : (I_16 o 3).toInt = (I0 o 3).toInt := by rw [kp_20 3 rfl]
    have g_23 : (0 : Int) ≤ (I_16 o 4).toInt ∧ (I_16 o 4).toInt ≤ 5 := hR_18.at0 ra 4 (by decide)
    have t_24 : (I_16 o 6).toInt = (I0 o 6).toInt := by rw [kp_20 6 rfl]
    have t_25 : (I_16 o 7).toInt = (I0 o 7).toInt := by rw [kp_20 7 rfl]
    have t_26 : (I_16 o 8).toInt = (I0 o 8).toInt := by rw [kp_20 8 rfl]
    have t_27 : (I_16 o 9).toInt = (I0 o 9).toInt := by rw [kp_20 9 rfl]
    exact (hp _ _ hR_18 hf_21 (by first | omega | (intro h; omega) | exact Or.inl rfl | exact Or.inr rfl) (by first | omega | (intro h; omega) | exact Or.inl rfl | exact Or.inr rfl) hg.symm)
  · have d_28 := iEq c_8
    replace hg := gt_pos (by first | exact d_28 | omega) hg
    have g_29 : (0 : Int) ≤ (I0 o 6).toInt ∧ (I0 o 6).toInt ≤ 1600 := hR.at0 ra 6 (by decide)
    replace hg := gt_let (y := (I0 o 6).toInt) rfl hg
    refine y_Model_failsg hok hw ra hz14 hz15 (by first | omega | (intro h; omega) | exact Or.inl rfl | exact Or.inr rfl) hR (fun I_34 L_35 hR_36 fr_37 kp_38 u_31 u_32 gn_33 => ⟨I_34, L_35, rfl, rfl, ?_⟩)
    replace hg := gt_b3 gn_33 hg
    clear gn_33
    have hf_39 : Fm (fun c => c = o) I0 I_34 := hf.call fr_37 (fun c hc => by first | exact hc | (dsimp only at hc ⊢; omega) | omega)
    have t_40 : (I_34 o 3).toInt = (I0 o 3).toInt := by rw [kp_38 3 rfl]
    have g_41 : (0 : Int) ≤ (I_34 o 4).toInt ∧ (I_34 o 4).toInt ≤ 5 := hR_36.at0 ra 4 (by decide)
    have t_42 : (I_34 o 6).toInt = (I0 o 6).toInt := by rw [kp_38 6 rfl]
    have t_43 : (I_34 o 7).toInt = (I0 o 7).toInt := by rw [kp_38 7 rfl]
    have t_44 : (I_34 o 8).toInt = (I0 o 8).toInt := by rw [kp_38 8 rfl]
    have t_45 : (I_34 o 9).toInt = (I0 o 9).toInt := by rw [kp_38 9 rfl]
    exact (hp _ _ hR_36 hf_39 (by first | omega | (intro h; omega) | exact Or.inl rfl | exact Or.inr rfl) (by first | omega | (intro h; omega) | exact Or.inl rfl | exact Or.inr rfl) hg.symm)
theorem y_Model_wrongg {D : va_G} {cA : FieldType → ClassId} {b : Nat} {E : State → Prop} {R : qRg} {o n : Nat} {sh : Nat → qC} {Rf : Nat → Nat → Option Nat} {I0 : Nat → Nat → Int32} {L0 : Nat → Nat → Int64} {post : Option Value → qS → Prop} (hok : q_ok (qGG D cA b E)) (hw : WfModel (qGG D cA b E) n sh Rf o) (ra : RAModel R o) (hz14 : R.2 14 = true) (hz15 : R.2 15 = true) (hR : RI R I0) (hp : ∀ (I' : Nat → Nat → Int32) (L' : Nat → Nat → Int64), RI R I' → Fm (fun c => c = o) I0 I' → Kp wModel_wrong I0 I' o → (1 ≤ (I' o 4).toInt) → ((I0 o 4).toInt ≤ (I' o 4).toInt) → (gModel_wrong_0 o (tI I0) L0 = (0, tI I', L')) → post none (n, sh, Rf, I', L')) : Ev (qGG D cA b E) mModel_wrong 1 (0, 0) 0 (lv_args 0 [.ref o]) [] (n, sh, Rf, I0, L0) post :=
  yc_Model_wrongg (R := fzR R I0 o wModel_wrong) hok hw (fzA ra hR _) (fzT hz14 rfl) (fzT hz15 rfl) fzZ (fzI hR) (fzI hR) (fun I' L' h1 h2 u0 u1 ug => hp I' L' (fzB hR h1) h2 (fzP h1) u0 u1 ug)
noncomputable def gModel_must_0 (o : Nat) (J : gJ) (L : gL) (x1 : Int) : Int × gJ × gL := gLet (gModel_isGood_0 o J L) (fun (r_1 : Int) => (if r_1 = 0 then (0, J, L) else (if x1 = 0 then gB3 (gModel_wrong_0 o J L) (fun r_2 J_3 L_4 => (0, J_3, L_4)) else gB3 (gModel_next_0 o J L) (fun r_5 J_6 L_7 => (0, J_6, L_7)))))
theorem eModel_must_0 {o : Nat} {J : gJ} {L : gL} {x1 : Int} : gModel_must_0 o J L x1 = gLet (gModel_isGood_0 o J L) (fun (r_1 : Int) => (if r_1 = 0 then (0, J, L) else (if x1 = 0 then gB3 (gModel_wrong_0 o J L) (fun r_2 J_3 L_4 => (0, J_3, L_4)) else gB3 (gModel_next_0 o J L) (fun r_5 J_6 L_7 => (0, J_6, L_7))))) := rfl
set_option maxHeartbeats 4000000 in
set_option maxRecDepth 20000 in
theorem yc_Model_mustg {D : va_G} {cA : FieldType → ClassId} {b : Nat} {E : State → Prop} {R : qRg} {o n : Nat} {sh : Nat → qC} {Rf : Nat → Nat → Option Nat} {I0 : Nat → Nat → Int32} {L0 : Nat → Nat → Int64} {post : Option Value → qS → Prop} {p1 : Int32} (hok : q_ok (qGG D cA b E)) (hw : WfModel (qGG D cA b E) n sh Rf o) (ra : RAModel R o) (hz14 : R.2 14 = true) (hz15 : R.2 15 = true) (hz16 : R.2 16 = true) (hz17 : R.2 17 = true) (hz18 : R.2 18 = true) (hz19 : R.2 19 = true) (hZ : Fz R I0 o wModel_must) (hR0 : RI R I0) (hq0 : (I0 o 7).toInt ≤ (I0 o 3).toInt) (hq1 : MPo I0 o) (hq2 : MTk I0 o) (hR : RI R I0) (hp : ∀ (I' : Nat → Nat → Int32) (L' : Nat → Nat → Int64), RI R I' → Fm (fun c => c = o) I0 I' → ((I' o 7).toInt ≤ (I' o 3).toInt) → ((I0 o 7).toInt ≤ (I' o 7).toInt) → ((I0 o 4).toInt ≤ (I' o 4).toInt) → (7 * (I0 o 7).toInt - (I0 o 8).toInt + (I0 o 4).toInt ≤ 7 * (I' o 7).toInt - (I' o 8).toInt + (I' o 4).toInt) → (Im (p1.toInt = 0) ((I' o 4).toInt ≠ 0)) → ((I0 o 6).toInt ≤ (I' o 6).toInt) → (Im ((I0 o 4).toInt = 0 ∧ (I0 o 8).toInt ≠ 0) (7 * (I0 o 7).toInt - (I0 o 8).toInt + (I0 o 4).toInt < 7 * (I' o 7).toInt - (I' o 8).toInt + (I' o 4).toInt)) → (MPo I' o) → (MTk I' o) → (gModel_must_0 o (tI I0) L0 (p1).toInt = (0, tI I', L')) → post none (n, sh, Rf, I', L')) : Ev (qGG D cA b E) mModel_must 3 (0, 0) 0 (lv_args 0 [.ref o, .int p1]) [] (n, sh, Rf, I0, L0) post := by
  have hf : Fm (fun c => c = o) I0 I0 := Fm.rf
  have g_1 : (0 : Int) ≤ (I0 o 3).toInt ∧ (I0 o 3).toInt ≤ 1600 := hR.at0 ra 3 (by decide)
  have g_2 : (0 : Int) ≤ (I0 o 4).toInt ∧ (I0 o 4).toInt ≤ 5 := hR.at0 ra 4 (by decide)
  have g_3 : (0 : Int) ≤ (I0 o 6).toInt ∧ (I0 o 6).toInt ≤ 1600 := hR.at0 ra 6 (by decide)
  have g_4 : (0 : Int) ≤ (I0 o 7).toInt ∧ (I0 o 7).toInt ≤ 1601 := hR.at0 ra 7 (by decide)
  have g_5 : (0 : Int) ≤ (I0 o 8).toInt ∧ (I0 o 8).toInt ≤ 6 := hR.at0 ra 8 (by decide)
  refine sModel_must_0 o n sh Rf I0 L0 post p1 hok hw ?_
  unfold fModel_must_0
  have hg : gModel_must_0 o (tI I0) L0 (p1).toInt = gModel_must_0 o (tI I0) L0 (p1).toInt := rfl
  replace hg := (eModel_must_0).symm.trans hg
  have mt0 := hq2.1
  refine y_Model_isGoodg hok hw ra hR (fun r_6 u_7 u_8 u_9 gn_10 => ⟨r_6, I0, L0, rfl, rfl, ?_⟩)
  replace hg := gt_let gn_10 hg
  clear gn_10
  have b_11 : 0 ≤ r_6.toInt ∧ r_6.toInt ≤ 1 := u_7.rg
  have l_12 : (0 : Int32).toInt = 0 := rfl
  refine ⟨fun c_13 => ?_, fun c_13 => ?_⟩
  · have d_14 := iNe c_13
    have i_15 := u_8 (by omega)
    replace hg := gt_neg (by first | exact d_14 | omega) hg
    have gd := u_8 (by omega)
    refine ⟨fun c_16 => ?_, fun c_16 => ?_⟩
    · have d_17 := iEq c_16
      replace hg := gt_pos (by first | exact d_17 | omega) hg
      refine y_Model_wrongg hok hw ra hz14 hz15 hR (fun I_22 L_23 hR_24 fr_25 kp_26 u_19 u_20 gn_21 => ⟨I_22, L_23, rfl, rfl, ?_⟩)
      replace hg := gt_b3 gn_21 hg
      clear gn_21
      have hf_27 : Fm (fun c => c = o) I0 I_22 := hf.call fr_25 (fun c hc => by first | exact hc | (dsimp only at hc ⊢; omega) | omega)
      have t_28 : (I_22 o 3).toInt = (I0 o 3).toInt := by rw [kp_26 3 rfl]
      have g_29 : (0 : Int) ≤ (I_22 o 4).toInt ∧ (I_22 o 4).toInt ≤ 5 := hR_24.at0 ra 4 (by decide)
      have t_30 : (I_22 o 6).toInt = (I0 o 6).toInt := by rw [kp_26 6 rfl]
      have t_31 : (I_22 o 7).toInt = (I0 o 7).toInt := by rw [kp_26 7 rfl]
      have t_32 : (I_22 o 8).toInt = (I0 o 8).toInt := by rw [kp_26 8 rfl]
      have t_33 : (I_22 o 9).toInt = (I0 o 9).toInt := by rw [kp_26 9 rfl]
      have k_34 : MPo I_22 o := hq1.fr (kp_26 8 rfl) (kp_26 9 rfl)
      have k_35 : MTk I_22 o := hq2.fr (kp_26 6 rfl) (kp_26 7 rfl) (kp_26 8 rfl)
      exact (hp _ _ hR_24 hf_27 (by first | omega | (intro h; omega) | exact Or.inl rfl | exact Or.inr rfl) (by first | omega | (intro h; omega) | exact Or.inl rfl | exact Or.inr rfl) (by first | omega | (intro h; omega) | exact Or.inl rfl | exact Or.inr rfl) (by first | omega | (intro h; omega) | exact Or.inl rfl | exact Or.inr rfl) (by clear hg; intro _; omega) (by first | omega | (intro h; omega) | exact Or.inl rfl | exact Or.inr rfl) (by clear hg; first | (intro h; omega) | (intro h; have ms := False.elim (by omega); omega)) k_34 k_35 hg.symm)
    · have d_36 := iNe c_16
      replace hg := gt_neg (by first | exact d_36 | omega) hg
      refine y_Model_nextg hok hw ra hz16 hz17 hz18 hz19 (by first | omega | (intro h; omega) | exact Or.inl rfl | exact Or.inr rfl) hR (fun I_47 L_48 hR_49 fr_50 kp_51 u_38 u_39 u_40 u_41 u_42 u_43 u_44 u_45 gn_46 => ⟨I_47, L_48, rfl, rfl, ?_⟩)
      replace hg := gt_b3 gn_46 hg
      clear gn_46
      have hf_52 : Fm (fun c => c = o) I0 I_47 := hf.call fr_50 (fun c hc => by first | exact hc | (dsimp only at hc ⊢; omega) | omega)
      have t_53 : (I_47 o 3).toInt = (I0 o 3).toInt := by rw [kp_51 3 rfl]
      have t_54 : (I_47 o 4).toInt = (I0 o 4).toInt := by rw [kp_51 4 rfl]
      have g_55 : (0 : Int) ≤ (I_47 o 6).toInt ∧ (I_47 o 6).toInt ≤ 1600 := hR_49.at0 ra 6 (by decide)
      have g_56 : (0 : Int) ≤ (I_47 o 7).toInt ∧ (I_47 o 7).toInt ≤ 1601 := hR_49.at0 ra 7 (by decide)
      have g_57 : (0 : Int) ≤ (I_47 o 8).toInt ∧ (I_47 o 8).toInt ≤ 6 := hR_49.at0 ra 8 (by decide)
      exact (hp _ _ hR_49 hf_52 (by first | omega | (intro h; omega) | exact Or.inl rfl | exact Or.inr rfl) (by first | omega | (intro h; omega) | exact Or.inl rfl | exact Or.inr rfl) (by first | omega | (intro h; omega) | exact Or.inl rfl | exact Or.inr rfl) (by first | omega | (intro h; omega) | exact Or.inl rfl | exact Or.inr rfl) (by clear hg; intro _; omega) (by first | omega | (intro h; omega) | exact Or.inl rfl | exact Or.inr rfl) (by clear hg; first | (intro h; omega) | (intro h; have ms := u_41 (by omega); omega)) u_44 u_45 hg.symm)
  · have d_58 := iEq c_13
    have i_59 := u_9 (by omega)
    replace hg := gt_pos (by first | exact d_58 | omega) hg
    have gb := u_9 (by omega)
    exact (hp _ _ hR hf (by first | omega | (intro h; omega) | exact Or.inl rfl | exact Or.inr rfl) (by first | omega | (intro h; omega) | exact Or.inl rfl | exact Or.inr rfl) (by first | omega | (intro h; omega) | exact Or.inl rfl | exact Or.inr rfl) (by first | omega | (intro h; omega) | exact Or.inl rfl | exact Or.inr rfl) (by clear hg; intro _; omega) (by first | omega | (intro h; omega) | exact Or.inl rfl | exact Or.inr rfl) (by clear hg; first | (intro h; omega) | (intro h; have ms := False.elim (by omega); omega)) hq1 hq2 hg.symm)
theorem y_Model_mustg {D : va_G} {cA : FieldType → ClassId} {b : Nat} {E : State → Prop} {R : qRg} {o n : Nat} {sh : Nat → qC} {Rf : Nat → Nat → Option Nat} {I0 : Nat → Nat → Int32} {L0 : Nat → Nat → Int64} {post : Option Value → qS → Prop} {p1 : Int32} (hok : q_ok (qGG D cA b E)) (hw : WfModel (qGG D cA b E) n sh Rf o) (ra : RAModel R o) (hz14 : R.2 14 = true) (hz15 : R.2 15 = true) (hz16 : R.2 16 = true) (hz17 : R.2 17 = true) (hz18 : R.2 18 = true) (hz19 : R.2 19 = true) (hq0 : (I0 o 7).toInt ≤ (I0 o 3).toInt) (hq1 : MPo I0 o) (hq2 : MTk I0 o) (hR : RI R I0) (hp : ∀ (I' : Nat → Nat → Int32) (L' : Nat → Nat → Int64), RI R I' → Fm (fun c => c = o) I0 I' → Kp wModel_must I0 I' o → ((I' o 7).toInt ≤ (I' o 3).toInt) → ((I0 o 7).toInt ≤ (I' o 7).toInt) → ((I0 o 4).toInt ≤ (I' o 4).toInt) → (7 * (I0 o 7).toInt - (I0 o 8).toInt + (I0 o 4).toInt ≤ 7 * (I' o 7).toInt - (I' o 8).toInt + (I' o 4).toInt) → (Im (p1.toInt = 0) ((I' o 4).toInt ≠ 0)) → ((I0 o 6).toInt ≤ (I' o 6).toInt) → (Im ((I0 o 4).toInt = 0 ∧ (I0 o 8).toInt ≠ 0) (7 * (I0 o 7).toInt - (I0 o 8).toInt + (I0 o 4).toInt < 7 * (I' o 7).toInt - (I' o 8).toInt + (I' o 4).toInt)) → (MPo I' o) → (MTk I' o) → (gModel_must_0 o (tI I0) L0 (p1).toInt = (0, tI I', L')) → post none (n, sh, Rf, I', L')) : Ev (qGG D cA b E) mModel_must 3 (0, 0) 0 (lv_args 0 [.ref o, .int p1]) [] (n, sh, Rf, I0, L0) post :=
  yc_Model_mustg (R := fzR R I0 o wModel_must) hok hw (fzA ra hR _) (fzT hz14 rfl) (fzT hz15 rfl) (fzT hz16 rfl) (fzT hz17 rfl) (fzT hz18 rfl) (fzT hz19 rfl) fzZ (fzI hR) hq0 hq1 hq2 (fzI hR) (fun I' L' h1 h2 u0 u1 u2 u3 u4 u5 u6 u7 u8 ug => hp I' L' (fzB hR h1) h2 (fzP h1) u0 u1 u2 u3 u4 u5 u6 u7 u8 ug)
noncomputable def gModel_numeral_69 (o : Nat) (J : gJ) (L : gL) (x1 : Int) (x2 : Int) (x3 : Int) : Int × gJ × gL := gLet (gModel_isGood_0 o J L) (fun (r_1 : Int) => (if r_1 = 0 then (x1, J, L) else (x3, J, L)))
theorem eModel_numeral_69 {o : Nat} {J : gJ} {L : gL} {x1 : Int} {x2 : Int} {x3 : Int} : gModel_numeral_69 o J L x1 x2 x3 = gLet (gModel_isGood_0 o J L) (fun (r_1 : Int) => (if r_1 = 0 then (x1, J, L) else (x3, J, L))) := rfl
noncomputable def gModel_numeral_53 (o : Nat) (J : gJ) (L : gL) (x1 : Int) (x2 : Int) : Int × gJ × gL := gLet (J o 9) (fun (v_1 : Int) => gLet (gModel_isGood_0 o J L) (fun (r_2 : Int) => (if r_2 = 0 then (gModel_numeral_69 o J L x1 x2 v_1) else gB3 (gModel_next_0 o J L) (fun r_3 J_4 L_5 => (gModel_numeral_69 o J_4 L_5 x1 x2 v_1)))))
theorem eModel_numeral_53 {o : Nat} {J : gJ} {L : gL} {x1 : Int} {x2 : Int} : gModel_numeral_53 o J L x1 x2 = gLet (J o 9) (fun (v_1 : Int) => gLet (gModel_isGood_0 o J L) (fun (r_2 : Int) => (if r_2 = 0 then (gModel_numeral_69 o J L x1 x2 v_1) else gB3 (gModel_next_0 o J L) (fun r_3 J_4 L_5 => (gModel_numeral_69 o J_4 L_5 x1 x2 v_1))))) := rfl
noncomputable def gModel_numeral_44 (o : Nat) (J : gJ) (L : gL) (x1 : Int) (x2 : Int) : Int × gJ × gL := gLet (J o 6) (fun (v_1 : Int) => gB3 (gModel_fails_0 o J L 4 v_1) (fun r_2 J_3 L_4 => (gModel_numeral_53 o J_3 L_4 x1 x2)))
theorem eModel_numeral_44 {o : Nat} {J : gJ} {L : gL} {x1 : Int} {x2 : Int} : gModel_numeral_44 o J L x1 x2 = gLet (J o 6) (fun (v_1 : Int) => gB3 (gModel_fails_0 o J L 4 v_1) (fun r_2 J_3 L_4 => (gModel_numeral_53 o J_3 L_4 x1 x2))) := rfl
noncomputable def gModel_numeral_21 (o : Nat) (J : gJ) (L : gL) (x1 : Int) (x2 : Int) : Int × gJ × gL := gLet (gModel_isGood_0 o J L) (fun (r_1 : Int) => (if r_1 = 0 then (gModel_numeral_53 o J L x1 x2) else gLet (J o 9) (fun (v_2 : Int) => (if v_2 < x1 then (gModel_numeral_44 o J L x1 x2) else gLet (J o 9) (fun (v_3 : Int) => (if v_3 ≤ x2 then (gModel_numeral_53 o J L x1 x2) else (gModel_numeral_44 o J L x1 x2)))))))
theorem eModel_numeral_21 {o : Nat} {J : gJ} {L : gL} {x1 : Int} {x2 : Int} : gModel_numeral_21 o J L x1 x2 = gLet (gModel_isGood_0 o J L) (fun (r_1 : Int) => (if r_1 = 0 then (gModel_numeral_53 o J L x1 x2) else gLet (J o 9) (fun (v_2 : Int) => (if v_2 < x1 then (gModel_numeral_44 o J L x1 x2) else gLet (J o 9) (fun (v_3 : Int) => (if v_3 ≤ x2 then (gModel_numeral_53 o J L x1 x2) else (gModel_numeral_44 o J L x1 x2))))))) := rfl
noncomputable def gModel_numeral_0 (o : Nat) (J : gJ) (L : gL) (x1 : Int) (x2 : Int) : Int × gJ × gL := gLet (gModel_isGood_0 o J L) (fun (r_1 : Int) => (if r_1 = 0 then (x1, J, L) else gLet (J o 8) (fun (v_2 : Int) => (if v_2 = 4 then (gModel_numeral_21 o J L x1 x2) else gB3 (gModel_wrong_0 o J L) (fun r_3 J_4 L_5 => (gModel_numeral_21 o J_4 L_5 x1 x2))))))
theorem eModel_numeral_0 {o : Nat} {J : gJ} {L : gL} {x1 : Int} {x2 : Int} : gModel_numeral_0 o J L x1 x2 = gLet (gModel_isGood_0 o J L) (fun (r_1 : Int) => (if r_1 = 0 then (x1, J, L) else gLet (J o 8) (fun (v_2 : Int) => (if v_2 = 4 then (gModel_numeral_21 o J L x1 x2) else gB3 (gModel_wrong_0 o J L) (fun r_3 J_4 L_5 => (gModel_numeral_21 o J_4 L_5 x1 x2)))))) := rfl
set_option maxHeartbeats 4000000 in
set_option maxRecDepth 20000 in
theorem yc_Model_numeralg {D : va_G} {cA : FieldType → ClassId} {b : Nat} {E : State → Prop} {R : qRg} {o n : Nat} {sh : Nat → qC} {Rf : Nat → Nat → Option Nat} {I0 : Nat → Nat → Int32} {L0 : Nat → Nat → Int64} {post : Option Value → qS → Prop} {p1 : Int32} {p2 : Int32} (hok : q_ok (qGG D cA b E)) (hw : WfModel (qGG D cA b E) n sh Rf o) (ra : RAModel R o) (hz14 : R.2 14 = true) (hz15 : R.2 15 = true) (hz16 : R.2 16 = true) (hz17 : R.2 17 = true) (hz18 : R.2 18 = true) (hz19 : R.2 19 = true) (hZ : Fz R I0 o wModel_numeral) (hR0 : RI R I0) (hq0 : (I0 o 7).toInt ≤ (I0 o 3).toInt) (hq1 : MPo I0 o) (hq2 : MTk I0 o) (hR : RI R I0) (hp : ∀ (r : Int32) (I' : Nat → Nat → Int32) (L' : Nat → Nat → Int64), RI R I' → Fm (fun c => c = o) I0 I' → ((I' o 7).toInt ≤ (I' o 3).toInt) → ((I0 o 7).toInt ≤ (I' o 7).toInt) → ((I0 o 4).toInt ≤ (I' o 4).toInt) → (7 * (I0 o 7).toInt - (I0 o 8).toInt + (I0 o 4).toInt ≤ 7 * (I' o 7).toInt - (I' o 8).toInt + (I' o 4).toInt) → (Im ((I0 o 4).toInt = 0) (7 * (I0 o 7).toInt - (I0 o 8).toInt + (I0 o 4).toInt < 7 * (I' o 7).toInt - (I' o 8).toInt + (I' o 4).toInt)) → (MPo I' o) → (MTk I' o) → (gModel_numeral_0 o (tI I0) L0 (p1).toInt (p2).toInt = (r.toInt, tI I', L')) → post (some (.int r)) (n, sh, Rf, I', L')) : Ev (qGG D cA b E) mModel_numeral 3 (0, 0) 0 (lv_args 0 [.ref o, .int p1, .int p2]) [] (n, sh, Rf, I0, L0) post := by
  have hf : Fm (fun c => c = o) I0 I0 := Fm.rf
  have g_1 : (0 : Int) ≤ (I0 o 3).toInt ∧ (I0 o 3).toInt ≤ 1600 := hR.at0 ra 3 (by decide)
  have g_2 : (0 : Int) ≤ (I0 o 4).toInt ∧ (I0 o 4).toInt ≤ 5 := hR.at0 ra 4 (by decide)
  have g_3 : (0 : Int) ≤ (I0 o 6).toInt ∧ (I0 o 6).toInt ≤ 1600 := hR.at0 ra 6 (by decide)
  have g_4 : (0 : Int) ≤ (I0 o 7).toInt ∧ (I0 o 7).toInt ≤ 1601 := hR.at0 ra 7 (by decide)
  have g_5 : (0 : Int) ≤ (I0 o 8).toInt ∧ (I0 o 8).toInt ≤ 6 := hR.at0 ra 8 (by decide)
  refine sModel_numeral_0 o n sh Rf I0 L0 post p1 p2 hok hw ?_
  unfold fModel_numeral_0
  have hg : gModel_numeral_0 o (tI I0) L0 (p1).toInt (p2).toInt = gModel_numeral_0 o (tI I0) L0 (p1).toInt (p2).toInt := rfl
  replace hg := (eModel_numeral_0).symm.trans hg
  refine y_Model_isGoodg hok hw ra hR (fun r_6 u_7 u_8 u_9 gn_10 => ⟨r_6, I0, L0, rfl, rfl, ?_⟩)
  replace hg := gt_let gn_10 hg
  clear gn_10
  have b_11 : 0 ≤ r_6.toInt ∧ r_6.toInt ≤ 1 := u_7.rg
  have l_12 : (0 : Int32).toInt = 0 := rfl
  refine ⟨fun c_13 => ?_, fun c_13 => ?_⟩
  · have d_14 := iNe c_13
    have i_15 := u_8 (by omega)
    replace hg := gt_neg (by first | exact d_14 | omega) hg
    have gd := u_8 (by omega)
    have g_16 : (0 : Int) ≤ (I0 o 8).toInt ∧ (I0 o 8).toInt ≤ 6 := hR.at0 ra 8 (by decide)
    replace hg := gt_let (y := (I0 o 8).toInt) rfl hg
    have l_17 : (4 : Int32).toInt = 4 := rfl
    refine ⟨fun c_18 => ?_, fun c_18 => ?_⟩
    · have d_19 := iEq c_18
      replace hg := gt_pos (by first | exact d_19 | omega) hg
      unfold fModel_numeral_21
      replace hg := (eModel_numeral_21).symm.trans hg
      refine y_Model_isGoodg hok hw ra hR (fun r_20 u_21 u_22 u_23 gn_24 => ⟨r_20, I0, L0, rfl, rfl, ?_⟩)
      replace hg := gt_let gn_24 hg
      clear gn_24
      have b_25 : 0 ≤ r_20.toInt ∧ r_20.toInt ≤ 1 := u_21.rg
      refine ⟨fun c_26 => ?_, fun c_26 => ?_⟩
      · have d_27 := iEq c_26
        have i_28 := u_23 (by omega)
        replace hg := gt_pos (by first | exact d_27 | omega) hg
        unfold fModel_numeral_53
        replace hg := (eModel_numeral_53).symm.trans hg
        replace hg := gt_let (y := (I0 o 9).toInt) rfl hg
        refine y_Model_isGoodg hok hw ra hR (fun r_29 u_30 u_31 u_32 gn_33 => ⟨r_29, I0, L0, rfl, rfl, ?_⟩)
        replace hg := gt_let gn_33 hg
        clear gn_33
        have b_34 : 0 ≤ r_29.toInt ∧ r_29.toInt ≤ 1 := u_30.rg
        refine ⟨fun c_35 => ?_, fun c_35 => ?_⟩
        · have d_36 := iEq c_35
          have i_37 := u_32 (by omega)
          replace hg := gt_pos (by first | exact d_36 | omega) hg
          unfold fModel_numeral_69
          replace hg := (eModel_numeral_69).symm.trans hg
          refine y_Model_isGoodg hok hw ra hR (fun r_38 u_39 u_40 u_41 gn_42 => ⟨r_38, I0, L0, rfl, rfl, ?_⟩)
          replace hg := gt_let gn_42 hg
          clear gn_42
          have b_43 : 0 ≤ r_38.toInt ∧ r_38.toInt ≤ 1 := u_39.rg
          refine ⟨fun c_44 => ?_, fun c_44 => ?_⟩
          · have d_45 := iEq c_44
            have i_46 := u_41 (by omega)
            replace hg := gt_pos (by first | exact d_45 | omega) hg
            exact (hp _ _ _ hR hf (by first | omega | (intro h; omega) | exact Or.inl rfl | exact Or.inr rfl) (by first | omega | (intro h; omega) | exact Or.inl rfl | exact Or.inr rfl) (by first | omega | (intro h; omega) | exact Or.inl rfl | exact Or.inr rfl) (by first | omega | (intro h; omega) | exact Or.inl rfl | exact Or.inr rfl) (by clear hg; first | (intro _; omega) | (intro _; have ms := False.elim (by omega); omega)) hq1 hq2 hg.symm)
          · have d_47 := iNe c_44
            have i_48 := u_40 (by omega)
            replace hg := gt_neg (by first | exact d_47 | omega) hg
            exact (hp _ _ _ hR hf (by first | omega | (intro h; omega) | exact Or.inl rfl | exact Or.inr rfl) (by first | omega | (intro h; omega) | exact Or.inl rfl | exact Or.inr rfl) (by first | omega | (intro h; omega) | exact Or.inl rfl | exact Or.inr rfl) (by first | omega | (intro h; omega) | exact Or.inl rfl | exact Or.inr rfl) (by clear hg; first | (intro _; omega) | (intro _; have ms := False.elim (by omega); omega)) hq1 hq2 hg.symm)
        · have d_49 := iNe c_35
          have i_50 := u_31 (by omega)
          replace hg := gt_neg (by first | exact d_49 | omega) hg
          refine y_Model_nextg hok hw ra hz16 hz17 hz18 hz19 (by first | omega | (intro h; omega) | exact Or.inl rfl | exact Or.inr rfl) hR (fun I_61 L_62 hR_63 fr_64 kp_65 u_52 u_53 u_54 u_55 u_56 u_57 u_58 u_59 gn_60 => ⟨I_61, L_62, rfl, rfl, ?_⟩)
          replace hg := gt_b3 gn_60 hg
          clear gn_60
          have hf_66 : Fm (fun c => c = o) I0 I_61 := hf.call fr_64 (fun c hc => by first | exact hc | (dsimp only at hc ⊢; omega) | omega)
          have t_67 : (I_61 o 3).toInt = (I0 o 3).toInt := by rw [kp_65 3 rfl]
          have t_68 : (I_61 o 4).toInt = (I0 o 4).toInt := by rw [kp_65 4 rfl]
          have g_69 : (0 : Int) ≤ (I_61 o 6).toInt ∧ (I_61 o 6).toInt ≤ 1600 := hR_63.at0 ra 6 (by decide)
          have g_70 : (0 : Int) ≤ (I_61 o 7).toInt ∧ (I_61 o 7).toInt ≤ 1601 := hR_63.at0 ra 7 (by decide)
          have g_71 : (0 : Int) ≤ (I_61 o 8).toInt ∧ (I_61 o 8).toInt ≤ 6 := hR_63.at0 ra 8 (by decide)
          unfold fModel_numeral_69
          replace hg := (eModel_numeral_69).symm.trans hg
          refine y_Model_isGoodg hok hw ra hR_63 (fun r_72 u_73 u_74 u_75 gn_76 => ⟨r_72, I_61, L_62, rfl, rfl, ?_⟩)
          replace hg := gt_let gn_76 hg
          clear gn_76
          have b_77 : 0 ≤ r_72.toInt ∧ r_72.toInt ≤ 1 := u_73.rg
          refine ⟨fun c_78 => ?_, fun c_78 => ?_⟩
          · have d_79 := iEq c_78
            have i_80 := u_75 (by omega)
            replace hg := gt_pos (by first | exact d_79 | omega) hg
            exact (hp _ _ _ hR_63 hf_66 (by first | omega | (intro h; omega) | exact Or.inl rfl | exact Or.inr rfl) (by first | omega | (intro h; omega) | exact Or.inl rfl | exact Or.inr rfl) (by first | omega | (intro h; omega) | exact Or.inl rfl | exact Or.inr rfl) (by first | omega | (intro h; omega) | exact Or.inl rfl | exact Or.inr rfl) (by clear hg; first | (intro _; omega) | (intro _; have ms := u_55 (by omega); omega)) u_58 u_59 hg.symm)
          · have d_81 := iNe c_78
            have i_82 := u_74 (by omega)
            replace hg := gt_neg (by first | exact d_81 | omega) hg
            exact (hp _ _ _ hR_63 hf_66 (by first | omega | (intro h; omega) | exact Or.inl rfl | exact Or.inr rfl) (by first | omega | (intro h; omega) | exact Or.inl rfl | exact Or.inr rfl) (by first | omega | (intro h; omega) | exact Or.inl rfl | exact Or.inr rfl) (by first | omega | (intro h; omega) | exact Or.inl rfl | exact Or.inr rfl) (by clear hg; first | (intro _; omega) | (intro _; have ms := u_55 (by omega); omega)) u_58 u_59 hg.symm)
      · have d_83 := iNe c_26
        have i_84 := u_22 (by omega)
        replace hg := gt_neg (by first | exact d_83 | omega) hg
        replace hg := gt_let (y := (I0 o 9).toInt) rfl hg
        refine ⟨fun c_85 => ?_, fun c_85 => ?_⟩
        · have d_86 := iLt c_85
          replace hg := gt_pos (by first | exact d_86 | omega) hg
          unfold fModel_numeral_44
          replace hg := (eModel_numeral_44).symm.trans hg
          have g_87 : (0 : Int) ≤ (I0 o 6).toInt ∧ (I0 o 6).toInt ≤ 1600 := hR.at0 ra 6 (by decide)
          replace hg := gt_let (y := (I0 o 6).toInt) rfl hg
          refine y_Model_failsg hok hw ra hz14 hz15 (by first | omega | (intro h; omega) | exact Or.inl rfl | exact Or.inr rfl) hR (fun I_92 L_93 hR_94 fr_95 kp_96 u_89 u_90 gn_91 => ⟨I_92, L_93, rfl, rfl, ?_⟩)
          replace hg := gt_b3 gn_91 hg
          clear gn_91
          have hf_97 : Fm (fun c => c = o) I0 I_92 := hf.call fr_95 (fun c hc => by first | exact hc | (dsimp only at hc ⊢; omega) | omega)
          have t_98 : (I_92 o 3).toInt = (I0 o 3).toInt := by rw [kp_96 3 rfl]
          have g_99 : (0 : Int) ≤ (I_92 o 4).toInt ∧ (I_92 o 4).toInt ≤ 5 := hR_94.at0 ra 4 (by decide)
          have t_100 : (I_92 o 6).toInt = (I0 o 6).toInt := by rw [kp_96 6 rfl]
          have t_101 : (I_92 o 7).toInt = (I0 o 7).toInt := by rw [kp_96 7 rfl]
          have t_102 : (I_92 o 8).toInt = (I0 o 8).toInt := by rw [kp_96 8 rfl]
          have t_103 : (I_92 o 9).toInt = (I0 o 9).toInt := by rw [kp_96 9 rfl]
          have k_104 : MPo I_92 o := hq1.fr (kp_96 8 rfl) (kp_96 9 rfl)
          have k_105 : MTk I_92 o := hq2.fr (kp_96 6 rfl) (kp_96 7 rfl) (kp_96 8 rfl)
          unfold fModel_numeral_53
          replace hg := (eModel_numeral_53).symm.trans hg
          replace hg := gt_let (y := (I_92 o 9).toInt) rfl hg
          refine y_Model_isGoodg hok hw ra hR_94 (fun r_106 u_107 u_108 u_109 gn_110 => ⟨r_106, I_92, L_93, rfl, rfl, ?_⟩)
          replace hg := gt_let gn_110 hg
          clear gn_110
          have b_111 : 0 ≤ r_106.toInt ∧ r_106.toInt ≤ 1 := u_107.rg
          refine ⟨fun c_112 => ?_, fun c_112 => ?_⟩
          · have d_113 := iEq c_112
            have i_114 := u_109 (by omega)
            replace hg := gt_pos (by first | exact d_113 | omega) hg
            unfold fModel_numeral_69
            replace hg := (eModel_numeral_69).symm.trans hg
            refine y_Model_isGoodg hok hw ra hR_94 (fun r_115 u_116 u_117 u_118 gn_119 => ⟨r_115, I_92, L_93, rfl, rfl, ?_⟩)
            replace hg := gt_let gn_119 hg
            clear gn_119
            have b_120 : 0 ≤ r_115.toInt ∧ r_115.toInt ≤ 1 := u_116.rg
            refine ⟨fun c_121 => ?_, fun c_121 => ?_⟩
            · have d_122 := iEq c_121
              have i_123 := u_118 (by omega)
              replace hg := gt_pos (by first | exact d_122 | omega) hg
              exact (hp _ _ _ hR_94 hf_97 (by first | omega | (intro h; omega) | exact Or.inl rfl | exact Or.inr rfl) (by first | omega | (intro h; omega) | exact Or.inl rfl | exact Or.inr rfl) (by first | omega | (intro h; omega) | exact Or.inl rfl | exact Or.inr rfl) (by first | omega | (intro h; omega) | exact Or.inl rfl | exact Or.inr rfl) (by clear hg; first | (intro _; omega) | (intro _; have ms := False.elim (by omega); omega)) k_104 k_105 hg.symm)
            · have d_124 := iNe c_121
              have i_125 := u_117 (by omega)
              replace hg := gt_neg (by first | exact d_124 | omega) hg
              exact (hp _ _ _ hR_94 hf_97 (by first | omega | (intro h; omega) | exact Or.inl rfl | exact Or.inr rfl) (by first | omega | (intro h; omega) | exact Or.inl rfl | exact Or.inr rfl) (by first | omega | (intro h; omega) | exact Or.inl rfl | exact Or.inr rfl) (by first | omega | (intro h; omega) | exact Or.inl rfl | exact Or.inr rfl) (by clear hg; first | (intro _; omega) | (intro _; have ms := False.elim (by omega); omega)) k_104 k_105 hg.symm)
          · have d_126 := iNe c_112
            have i_127 := u_108 (by omega)
            replace hg := gt_neg (by first | exact d_126 | omega) hg
            refine y_Model_nextg hok hw ra hz16 hz17 hz18 hz19 (by first | omega | (intro h; omega) | exact Or.inl rfl | exact Or.inr rfl) hR_94 (fun I_138 L_139 hR_140 fr_141 kp_142 u_129 u_130 u_131 u_132 u_133 u_134 u_135 u_136 gn_137 => ⟨I_138, L_139, rfl, rfl, ?_⟩)
            replace hg := gt_b3 gn_137 hg
            clear gn_137
            have hf_143 : Fm (fun c => c = o) I0 I_138 := hf_97.call fr_141 (fun c hc => by first | exact hc | (dsimp only at hc ⊢; omega) | omega)
            have t_144 : (I_138 o 3).toInt = (I_92 o 3).toInt := by rw [kp_142 3 rfl]
            have t_145 : (I_138 o 4).toInt = (I_92 o 4).toInt := by rw [kp_142 4 rfl]
            have g_146 : (0 : Int) ≤ (I_138 o 6).toInt ∧ (I_138 o 6).toInt ≤ 1600 := hR_140.at0 ra 6 (by decide)
            have g_147 : (0 : Int) ≤ (I_138 o 7).toInt ∧ (I_138 o 7).toInt ≤ 1601 := hR_140.at0 ra 7 (by decide)
            have g_148 : (0 : Int) ≤ (I_138 o 8).toInt ∧ (I_138 o 8).toInt ≤ 6 := hR_140.at0 ra 8 (by decide)
            unfold fModel_numeral_69
            replace hg := (eModel_numeral_69).symm.trans hg
            refine y_Model_isGoodg hok hw ra hR_140 (fun r_149 u_150 u_151 u_152 gn_153 => ⟨r_149, I_138, L_139, rfl, rfl, ?_⟩)
            replace hg := gt_let gn_153 hg
            clear gn_153
            have b_154 : 0 ≤ r_149.toInt ∧ r_149.toInt ≤ 1 := u_150.rg
            refine ⟨fun c_155 => ?_, fun c_155 => ?_⟩
            · have d_156 := iEq c_155
              have i_157 := u_152 (by omega)
              replace hg := gt_pos (by first | exact d_156 | omega) hg
              exact (hp _ _ _ hR_140 hf_143 (by first | omega | (intro h; omega) | exact Or.inl rfl | exact Or.inr rfl) (by first | omega | (intro h; omega) | exact Or.inl rfl | exact Or.inr rfl) (by first | omega | (intro h; omega) | exact Or.inl rfl | exact Or.inr rfl) (by first | omega | (intro h; omega) | exact Or.inl rfl | exact Or.inr rfl) (by clear hg; first | (intro _; omega) | (intro _; have ms := u_132 (by omega); omega)) u_135 u_136 hg.symm)
            · have d_158 := iNe c_155
              have i_159 := u_151 (by omega)
              replace hg := gt_neg (by first | exact d_158 | omega) hg
              exact (hp _ _ _ hR_140 hf_143 (by first | omega | (intro h; omega) | exact Or.inl rfl | exact Or.inr rfl) (by first | omega | (intro h; omega) | exact Or.inl rfl | exact Or.inr rfl) (by first | omega | (intro h; omega) | exact Or.inl rfl | exact Or.inr rfl) (by first | omega | (intro h; omega) | exact Or.inl rfl | exact Or.inr rfl) (by clear hg; first | (intro _; omega) | (intro _; have ms := u_132 (by omega); omega)) u_135 u_136 hg.symm)
        · have d_160 := iNlt c_85
          replace hg := gt_neg (by first | exact d_160 | omega) hg
          replace hg := gt_let (y := (I0 o 9).toInt) rfl hg
          refine ⟨fun c_161 => ?_, fun c_161 => ?_⟩
          · have d_162 := iLe c_161
            replace hg := gt_pos (by first | exact d_162 | omega) hg
            unfold fModel_numeral_53
            replace hg := (eModel_numeral_53).symm.trans hg
            replace hg := gt_let (y := (I0 o 9).toInt) rfl hg
            refine y_Model_isGoodg hok hw ra hR (fun r_163 u_164 u_165 u_166 gn_167 => ⟨r_163, I0, L0, rfl, rfl, ?_⟩)
            replace hg := gt_let gn_167 hg
            clear gn_167
            have b_168 : 0 ≤ r_163.toInt ∧ r_163.toInt ≤ 1 := u_164.rg
            refine ⟨fun c_169 => ?_, fun c_169 => ?_⟩
            · have d_170 := iEq c_169
              have i_171 := u_166 (by omega)
              replace hg := gt_pos (by first | exact d_170 | omega) hg
              unfold fModel_numeral_69
              replace hg := (eModel_numeral_69).symm.trans hg
              refine y_Model_isGoodg hok hw ra hR (fun r_172 u_173 u_174 u_175 gn_176 => ⟨r_172, I0, L0, rfl, rfl, ?_⟩)
              replace hg := gt_let gn_176 hg
              clear gn_176
              have b_177 : 0 ≤ r_172.toInt ∧ r_172.toInt ≤ 1 := u_173.rg
              refine ⟨fun c_178 => ?_, fun c_178 => ?_⟩
              · have d_179 := iEq c_178
                have i_180 := u_175 (by omega)
                replace hg := gt_pos (by first | exact d_179 | omega) hg
                exact (hp _ _ _ hR hf (by first | omega | (intro h; omega) | exact Or.inl rfl | exact Or.inr rfl) (by first | omega | (intro h; omega) | exact Or.inl rfl | exact Or.inr rfl) (by first | omega | (intro h; omega) | exact Or.inl rfl | exact Or.inr rfl) (by first | omega | (intro h; omega) | exact Or.inl rfl | exact Or.inr rfl) (by clear hg; first | (intro _; omega) | (intro _; have ms := False.elim (by omega); omega)) hq1 hq2 hg.symm)
              · have d_181 := iNe c_178
                have i_182 := u_174 (by omega)
                replace hg := gt_neg (by first | exact d_181 | omega) hg
                exact (hp _ _ _ hR hf (by first | omega | (intro h; omega) | exact Or.inl rfl | exact Or.inr rfl) (by first | omega | (intro h; omega) | exact Or.inl rfl | exact Or.inr rfl) (by first | omega | (intro h; omega) | exact Or.inl rfl | exact Or.inr rfl) (by first | omega | (intro h; omega) | exact Or.inl rfl | exact Or.inr rfl) (by clear hg; first | (intro _; omega) | (intro _; have ms := False.elim (by omega); omega)) hq1 hq2 hg.symm)
            · have d_183 := iNe c_169
              have i_184 := u_165 (by omega)
              replace hg := gt_neg (by first | exact d_183 | omega) hg
              refine y_Model_nextg hok hw ra hz16 hz17 hz18 hz19 (by first | omega | (intro h; omega) | exact Or.inl rfl | exact Or.inr rfl) hR (fun I_195 L_196 hR_197 fr_198 kp_199 u_186 u_187 u_188 u_189 u_190 u_191 u_192 u_193 gn_194 => ⟨I_195, L_196, rfl, rfl, ?_⟩)
              replace hg := gt_b3 gn_194 hg
              clear gn_194
              have hf_200 : Fm (fun c => c = o) I0 I_195 := hf.call fr_198 (fun c hc => by first | exact hc | (dsimp only at hc ⊢; omega) | omega)
              have t_201 : (I_195 o 3).toInt = (I0 o 3).toInt := by rw [kp_199 3 rfl]
              have t_202 : (I_195 o 4).toInt = (I0 o 4).toInt := by rw [kp_199 4 rfl]
              have g_203 : (0 : Int) ≤ (I_195 o 6).toInt ∧ (I_195 o 6).toInt ≤ 1600 := hR_197.at0 ra 6 (by decide)
              have g_204 : (0 : Int) ≤ (I_195 o 7).toInt ∧ (I_195 o 7).toInt ≤ 1601 := hR_197.at0 ra 7 (by decide)
              have g_205 : (0 : Int) ≤ (I_195 o 8).toInt ∧ (I_195 o 8).toInt ≤ 6 := hR_197.at0 ra 8 (by decide)
              unfold fModel_numeral_69
              replace hg := (eModel_numeral_69).symm.trans hg
              refine y_Model_isGoodg hok hw ra hR_197 (fun r_206 u_207 u_208 u_209 gn_210 => ⟨r_206, I_195, L_196, rfl, rfl, ?_⟩)
              replace hg := gt_let gn_210 hg
              clear gn_210
              have b_211 : 0 ≤ r_206.toInt ∧ r_206.toInt ≤ 1 := u_207.rg
              refine ⟨fun c_212 => ?_, fun c_212 => ?_⟩
              · have d_213 := iEq c_212
                have i_214 := u_209 (by omega)
                replace hg := gt_pos (by first | exact d_213 | omega) hg
                exact (hp _ _ _ hR_197 hf_200 (by first | omega | (intro h; omega) | exact Or.inl rfl | exact Or.inr rfl) (by first | omega | (intro h; omega) | exact Or.inl rfl | exact Or.inr rfl) (by first | omega | (intro h; omega) | exact Or.inl rfl | exact Or.inr rfl) (by first | omega | (intro h; omega) | exact Or.inl rfl | exact Or.inr rfl) (by clear hg; first | (intro _; omega) | (intro _; have ms := u_189 (by omega); omega)) u_192 u_193 hg.symm)
              · have d_215 := iNe c_212
                have i_216 := u_208 (by omega)
                replace hg := gt_neg (by first | exact d_215 | omega) hg
                exact (hp _ _ _ hR_197 hf_200 (by first | omega | (intro h; omega) | exact Or.inl rfl | exact Or.inr rfl) (by first | omega | (intro h; omega) | exact Or.inl rfl | exact Or.inr rfl) (by first | omega | (intro h; omega) | exact Or.inl rfl | exact Or.inr rfl) (by first | omega | (intro h; omega) | exact Or.inl rfl | exact Or.inr rfl) (by clear hg; first | (intro _; omega) | (intro _; have ms := u_189 (by omega); omega)) u_192 u_193 hg.symm)
          · have d_217 := iNle c_161
            replace hg := gt_neg (by first | exact d_217 | omega) hg
            unfold fModel_numeral_44
            replace hg := (eModel_numeral_44).symm.trans hg
            have g_218 : (0 : Int) ≤ (I0 o 6).toInt ∧ (I0 o 6).toInt ≤ 1600 := hR.at0 ra 6 (by decide)
            replace hg := gt_let (y := (I0 o 6).toInt) rfl hg
            refine y_Model_failsg hok hw ra hz14 hz15 (by first | omega | (intro h; omega) | exact Or.inl rfl | exact Or.inr rfl) hR (fun I_223 L_224 hR_225 fr_226 kp_227 u_220 u_221 gn_222 => ⟨I_223, L_224, rfl, rfl, ?_⟩)
            replace hg := gt_b3 gn_222 hg
            clear gn_222
            have hf_228 : Fm (fun c => c = o) I0 I_223 := hf.call fr_226 (fun c hc => by first | exact hc | (dsimp only at hc ⊢; omega) | omega)
            have t_229 : (I_223 o 3).toInt = (I0 o 3).toInt := by rw [kp_227 3 rfl]
            have g_230 : (0 : Int) ≤ (I_223 o 4).toInt ∧ (I_223 o 4).toInt ≤ 5 := hR_225.at0 ra 4 (by decide)
            have t_231 : (I_223 o 6).toInt = (I0 o 6).toInt := by rw [kp_227 6 rfl]
            have t_232 : (I_223 o 7).toInt = (I0 o 7).toInt := by rw [kp_227 7 rfl]
            have t_233 : (I_223 o 8).toInt = (I0 o 8).toInt := by rw [kp_227 8 rfl]
            have t_234 : (I_223 o 9).toInt = (I0 o 9).toInt := by rw [kp_227 9 rfl]
            have k_235 : MPo I_223 o := hq1.fr (kp_227 8 rfl) (kp_227 9 rfl)
            have k_236 : MTk I_223 o := hq2.fr (kp_227 6 rfl) (kp_227 7 rfl) (kp_227 8 rfl)
            unfold fModel_numeral_53
            replace hg := (eModel_numeral_53).symm.trans hg
            replace hg := gt_let (y := (I_223 o 9).toInt) rfl hg
            refine y_Model_isGoodg hok hw ra hR_225 (fun r_237 u_238 u_239 u_240 gn_241 => ⟨r_237, I_223, L_224, rfl, rfl, ?_⟩)
            replace hg := gt_let gn_241 hg
            clear gn_241
            have b_242 : 0 ≤ r_237.toInt ∧ r_237.toInt ≤ 1 := u_238.rg
            refine ⟨fun c_243 => ?_, fun c_243 => ?_⟩
            · have d_244 := iEq c_243
              have i_245 := u_240 (by omega)
              replace hg := gt_pos (by first | exact d_244 | omega) hg
              unfold fModel_numeral_69
              replace hg := (eModel_numeral_69).symm.trans hg
              refine y_Model_isGoodg hok hw ra hR_225 (fun r_246 u_247 u_248 u_249 gn_250 => ⟨r_246, I_223, L_224, rfl, rfl, ?_⟩)
              replace hg := gt_let gn_250 hg
              clear gn_250
              have b_251 : 0 ≤ r_246.toInt ∧ r_246.toInt ≤ 1 := u_247.rg
              refine ⟨fun c_252 => ?_, fun c_252 => ?_⟩
              · have d_253 := iEq c_252
                have i_254 := u_249 (by omega)
                replace hg := gt_pos (by first | exact d_253 | omega) hg
                exact (hp _ _ _ hR_225 hf_228 (by first | omega | (intro h; omega) | exact Or.inl rfl | exact Or.inr rfl) (by first | omega | (intro h; omega) | exact Or.inl rfl | exact Or.inr rfl) (by first | omega | (intro h; omega) | exact Or.inl rfl | exact Or.inr rfl) (by first | omega | (intro h; omega) | exact Or.inl rfl | exact Or.inr rfl) (by clear hg; first | (intro _; omega) | (intro _; have ms := False.elim (by omega); omega)) k_235 k_236 hg.symm)
              · have d_255 := iNe c_252
                have i_256 := u_248 (by omega)
                replace hg := gt_neg (by first | exact d_255 | omega) hg
                exact (hp _ _ _ hR_225 hf_228 (by first | omega | (intro h; omega) | exact Or.inl rfl | exact Or.inr rfl) (by first | omega | (intro h; omega) | exact Or.inl rfl | exact Or.inr rfl) (by first | omega | (intro h; omega) | exact Or.inl rfl | exact Or.inr rfl) (by first | omega | (intro h; omega) | exact Or.inl rfl | exact Or.inr rfl) (by clear hg; first | (intro _; omega) | (intro _; have ms := False.elim (by omega); omega)) k_235 k_236 hg.symm)
            · have d_257 := iNe c_243
              have i_258 := u_239 (by omega)
              replace hg := gt_neg (by first | exact d_257 | omega) hg
              refine y_Model_nextg hok hw ra hz16 hz17 hz18 hz19 (by first | omega | (intro h; omega) | exact Or.inl rfl | exact Or.inr rfl) hR_225 (fun I_269 L_270 hR_271 fr_272 kp_273 u_260 u_261 u_262 u_263 u_264 u_265 u_266 u_267 gn_268 => ⟨I_269, L_270, rfl, rfl, ?_⟩)
              replace hg := gt_b3 gn_268 hg
              clear gn_268
              have hf_274 : Fm (fun c => c = o) I0 I_269 := hf_228.call fr_272 (fun c hc => by first | exact hc | (dsimp only at hc ⊢; omega) | omega)
              have t_275 : (I_269 o 3).toInt = (I_223 o 3).toInt := by rw [kp_273 3 rfl]
              have t_276 : (I_269 o 4).toInt = (I_223 o 4).toInt := by rw [kp_273 4 rfl]
              have g_277 : (0 : Int) ≤ (I_269 o 6).toInt ∧ (I_269 o 6).toInt ≤ 1600 := hR_271.at0 ra 6 (by decide)
              have g_278 : (0 : Int) ≤ (I_269 o 7).toInt ∧ (I_269 o 7).toInt ≤ 1601 := hR_271.at0 ra 7 (by decide)
              have g_279 : (0 : Int) ≤ (I_269 o 8).toInt ∧ (I_269 o 8).toInt ≤ 6 := hR_271.at0 ra 8 (by decide)
              unfold fModel_numeral_69
              replace hg := (eModel_numeral_69).symm.trans hg
              refine y_Model_isGoodg hok hw ra hR_271 (fun r_280 u_281 u_282 u_283 gn_284 => ⟨r_280, I_269, L_270, rfl, rfl, ?_⟩)
              replace hg := gt_let gn_284 hg
              clear gn_284
              have b_285 : 0 ≤ r_280.toInt ∧ r_280.toInt ≤ 1 := u_281.rg
              refine ⟨fun c_286 => ?_, fun c_286 => ?_⟩
              · have d_287 := iEq c_286
                have i_288 := u_283 (by omega)
                replace hg := gt_pos (by first | exact d_287 | omega) hg
                exact (hp _ _ _ hR_271 hf_274 (by first | omega | (intro h; omega) | exact Or.inl rfl | exact Or.inr rfl) (by first | omega | (intro h; omega) | exact Or.inl rfl | exact Or.inr rfl) (by first | omega | (intro h; omega) | exact Or.inl rfl | exact Or.inr rfl) (by first | omega | (intro h; omega) | exact Or.inl rfl | exact Or.inr rfl) (by clear hg; first | (intro _; omega) | (intro _; have ms := u_263 (by omega); omega)) u_266 u_267 hg.symm)
              · have d_289 := iNe c_286
                have i_290 := u_282 (by omega)
                replace hg := gt_neg (by first | exact d_289 | omega) hg
                exact (hp _ _ _ hR_271 hf_274 (by first | omega | (intro h; omega) | exact Or.inl rfl | exact Or.inr rfl) (by first | omega | (intro h; omega) | exact Or.inl rfl | exact Or.inr rfl) (by first | omega | (intro h; omega) | exact Or.inl rfl | exact Or.inr rfl) (by first | omega | (intro h; omega) | exact Or.inl rfl | exact Or.inr rfl) (by clear hg; first | (intro _; omega) | (intro _; have ms := u_263 (by omega); omega)) u_266 u_267 hg.symm)
    · have d_291 := iNe c_18
      replace hg := gt_neg (by first | exact d_291 | omega) hg
      refine y_Model_wrongg hok hw ra hz14 hz15 hR (fun I_296 L_297 hR_298 fr_299 kp_300 u_293 u_294 gn_295 => ⟨I_296, L_297, rfl, rfl, ?_⟩)
      replace hg := gt_b3 gn_295 hg
      clear gn_295
      have hf_301 : Fm (fun c => c = o) I0 I_296 := hf.call fr_299 (fun c hc => by first | exact hc | (dsimp only at hc ⊢; omega) | omega)
      have t_302 : (I_296 o 3).toInt = (I0 o 3).toInt := by rw [kp_300 3 rfl]
      have g_303 : (0 : Int) ≤ (I_296 o 4).toInt ∧ (I_296 o 4).toInt ≤ 5 := hR_298.at0 ra 4 (by decide)
      have t_304 : (I_296 o 6).toInt = (I0 o 6).toInt := by rw [kp_300 6 rfl]
      have t_305 : (I_296 o 7).toInt = (I0 o 7).toInt := by rw [kp_300 7 rfl]
      have t_306 : (I_296 o 8).toInt = (I0 o 8).toInt := by rw [kp_300 8 rfl]
      have t_307 : (I_296 o 9).toInt = (I0 o 9).toInt := by rw [kp_300 9 rfl]
      have k_308 : MPo I_296 o := hq1.fr (kp_300 8 rfl) (kp_300 9 rfl)
      have k_309 : MTk I_296 o := hq2.fr (kp_300 6 rfl) (kp_300 7 rfl) (kp_300 8 rfl)
      unfold fModel_numeral_21
      replace hg := (eModel_numeral_21).symm.trans hg
      refine y_Model_isGoodg hok hw ra hR_298 (fun r_310 u_311 u_312 u_313 gn_314 => ⟨r_310, I_296, L_297, rfl, rfl, ?_⟩)
      replace hg := gt_let gn_314 hg
      clear gn_314
      have b_315 : 0 ≤ r_310.toInt ∧ r_310.toInt ≤ 1 := u_311.rg
      refine ⟨fun c_316 => ?_, fun c_316 => ?_⟩
      · have d_317 := iEq c_316
        have i_318 := u_313 (by omega)
        replace hg := gt_pos (by first | exact d_317 | omega) hg
        unfold fModel_numeral_53
        replace hg := (eModel_numeral_53).symm.trans hg
        replace hg := gt_let (y := (I_296 o 9).toInt) rfl hg
        refine y_Model_isGoodg hok hw ra hR_298 (fun r_319 u_320 u_321 u_322 gn_323 => ⟨r_319, I_296, L_297, rfl, rfl, ?_⟩)
        replace hg := gt_let gn_323 hg
        clear gn_323
        have b_324 : 0 ≤ r_319.toInt ∧ r_319.toInt ≤ 1 := u_320.rg
        refine ⟨fun c_325 => ?_, fun c_325 => ?_⟩
        · have d_326 := iEq c_325
          have i_327 := u_322 (by omega)
          replace hg := gt_pos (by first | exact d_326 | omega) hg
          unfold fModel_numeral_69
          replace hg := (eModel_numeral_69).symm.trans hg
          refine y_Model_isGoodg hok hw ra hR_298 (fun r_328 u_329 u_330 u_331 gn_332 => ⟨r_328, I_296, L_297, rfl, rfl, ?_⟩)
          replace hg := gt_let gn_332 hg
          clear gn_332
          have b_333 : 0 ≤ r_328.toInt ∧ r_328.toInt ≤ 1 := u_329.rg
          refine ⟨fun c_334 => ?_, fun c_334 => ?_⟩
          · have d_335 := iEq c_334
            have i_336 := u_331 (by omega)
            replace hg := gt_pos (by first | exact d_335 | omega) hg
            exact (hp _ _ _ hR_298 hf_301 (by first | omega | (intro h; omega) | exact Or.inl rfl | exact Or.inr rfl) (by first | omega | (intro h; omega) | exact Or.inl rfl | exact Or.inr rfl) (by first | omega | (intro h; omega) | exact Or.inl rfl | exact Or.inr rfl) (by first | omega | (intro h; omega) | exact Or.inl rfl | exact Or.inr rfl) (by clear hg; first | (intro _; omega) | (intro _; have ms := False.elim (by omega); omega)) k_308 k_309 hg.symm)
          · have d_337 := iNe c_334
            have i_338 := u_330 (by omega)
            replace hg := gt_neg (by first | exact d_337 | omega) hg
            exact (hp _ _ _ hR_298 hf_301 (by first | omega | (intro h; omega) | exact Or.inl rfl | exact Or.inr rfl) (by first | omega | (intro h; omega) | exact Or.inl rfl | exact Or.inr rfl) (by first | omega | (intro h; omega) | exact Or.inl rfl | exact Or.inr rfl) (by first | omega | (intro h; omega) | exact Or.inl rfl | exact Or.inr rfl) (by clear hg; first | (intro _; omega) | (intro _; have ms := False.elim (by omega); omega)) k_308 k_309 hg.symm)
        · have d_339 := iNe c_325
          have i_340 := u_321 (by omega)
          replace hg := gt_neg (by first | exact d_339 | omega) hg
          refine y_Model_nextg hok hw ra hz16 hz17 hz18 hz19 (by first | omega | (intro h; omega) | exact Or.inl rfl | exact Or.inr rfl) hR_298 (fun I_351 L_352 hR_353 fr_354 kp_355 u_342 u_343 u_344 u_345 u_346 u_347 u_348 u_349 gn_350 => ⟨I_351, L_352, rfl, rfl, ?_⟩)
          replace hg := gt_b3 gn_350 hg
          clear gn_350
          have hf_356 : Fm (fun c => c = o) I0 I_351 := hf_301.call fr_354 (fun c hc => by first | exact hc | (dsimp only at hc ⊢; omega) | omega)
          have t_357 : (I_351 o 3).toInt = (I_296 o 3).toInt := by rw [kp_355 3 rfl]
          have t_358 : (I_351 o 4).toInt = (I_296 o 4).toInt := by rw [kp_355 4 rfl]
          have g_359 : (0 : Int) ≤ (I_351 o 6).toInt ∧ (I_351 o 6).toInt ≤ 1600 := hR_353.at0 ra 6 (by decide)
          have g_360 : (0 : Int) ≤ (I_351 o 7).toInt ∧ (I_351 o 7).toInt ≤ 1601 := hR_353.at0 ra 7 (by decide)
          have g_361 : (0 : Int) ≤ (I_351 o 8).toInt ∧ (I_351 o 8).toInt ≤ 6 := hR_353.at0 ra 8 (by decide)
          unfold fModel_numeral_69
          replace hg := (eModel_numeral_69).symm.trans hg
          refine y_Model_isGoodg hok hw ra hR_353 (fun r_362 u_363 u_364 u_365 gn_366 => ⟨r_362, I_351, L_352, rfl, rfl, ?_⟩)
          replace hg := gt_let gn_366 hg
          clear gn_366
          have b_367 : 0 ≤ r_362.toInt ∧ r_362.toInt ≤ 1 := u_363.rg
          refine ⟨fun c_368 => ?_, fun c_368 => ?_⟩
          · have d_369 := iEq c_368
            have i_370 := u_365 (by omega)
            replace hg := gt_pos (by first | exact d_369 | omega) hg
            exact (hp _ _ _ hR_353 hf_356 (by first | omega | (intro h; omega) | exact Or.inl rfl | exact Or.inr rfl) (by first | omega | (intro h; omega) | exact Or.inl rfl | exact Or.inr rfl) (by first | omega | (intro h; omega) | exact Or.inl rfl | exact Or.inr rfl) (by first | omega | (intro h; omega) | exact Or.inl rfl | exact Or.inr rfl) (by clear hg; first | (intro _; omega) | (intro _; have ms := u_345 (by omega); omega)) u_348 u_349 hg.symm)
          · have d_371 := iNe c_368
            have i_372 := u_364 (by omega)
            replace hg := gt_neg (by first | exact d_371 | omega) hg
            exact (hp _ _ _ hR_353 hf_356 (by first | omega | (intro h; omega) | exact Or.inl rfl | exact Or.inr rfl) (by first | omega | (intro h; omega) | exact Or.inl rfl | exact Or.inr rfl) (by first | omega | (intro h; omega) | exact Or.inl rfl | exact Or.inr rfl) (by first | omega | (intro h; omega) | exact Or.inl rfl | exact Or.inr rfl) (by clear hg; first | (intro _; omega) | (intro _; have ms := u_345 (by omega); omega)) u_348 u_349 hg.symm)
      · have d_373 := iNe c_316
        have i_374 := u_312 (by omega)
        replace hg := gt_neg (by first | exact d_373 | omega) hg
        replace hg := gt_let (y := (I_296 o 9).toInt) rfl hg
        refine ⟨fun c_375 => ?_, fun c_375 => ?_⟩
        · have d_376 := iLt c_375
          replace hg := gt_pos (by first | exact d_376 | omega) hg
          unfold fModel_numeral_44
          replace hg := (eModel_numeral_44).symm.trans hg
          have g_377 : (0 : Int) ≤ (I_296 o 6).toInt ∧ (I_296 o 6).toInt ≤ 1600 := hR_298.at0 ra 6 (by decide)
          replace hg := gt_let (y := (I_296 o 6).toInt) rfl hg
          refine y_Model_failsg hok hw ra hz14 hz15 (by first | omega | (intro h; omega) | exact Or.inl rfl | exact Or.inr rfl) hR_298 (fun I_382 L_383 hR_384 fr_385 kp_386 u_379 u_380 gn_381 => ⟨I_382, L_383, rfl, rfl, ?_⟩)
          replace hg := gt_b3 gn_381 hg
          clear gn_381
          have hf_387 : Fm (fun c => c = o) I0 I_382 := hf_301.call fr_385 (fun c hc => by first | exact hc | (dsimp only at hc ⊢; omega) | omega)
          have t_388 : (I_382 o 3).toInt = (I_296 o 3).toInt := by rw [kp_386 3 rfl]
          have g_389 : (0 : Int) ≤ (I_382 o 4).toInt ∧ (I_382 o 4).toInt ≤ 5 := hR_384.at0 ra 4 (by decide)
          have t_390 : (I_382 o 6).toInt = (I_296 o 6).toInt := by rw [kp_386 6 rfl]
          have t_391 : (I_382 o 7).toInt = (I_296 o 7).toInt := by rw [kp_386 7 rfl]
          have t_392 : (I_382 o 8).toInt = (I_296 o 8).toInt := by rw [kp_386 8 rfl]
          have t_393 : (I_382 o 9).toInt = (I_296 o 9).toInt := by rw [kp_386 9 rfl]
          have k_394 : MPo I_382 o := k_308.fr (kp_386 8 rfl) (kp_386 9 rfl)
          have k_395 : MTk I_382 o := k_309.fr (kp_386 6 rfl) (kp_386 7 rfl) (kp_386 8 rfl)
          unfold fModel_numeral_53
          replace hg := (eModel_numeral_53).symm.trans hg
          replace hg := gt_let (y := (I_382 o 9).toInt) rfl hg
          refine y_Model_isGoodg hok hw ra hR_384 (fun r_396 u_397 u_398 u_399 gn_400 => ⟨r_396, I_382, L_383, rfl, rfl, ?_⟩)
          replace hg := gt_let gn_400 hg
          clear gn_400
          have b_401 : 0 ≤ r_396.toInt ∧ r_396.toInt ≤ 1 := u_397.rg
          refine ⟨fun c_402 => ?_, fun c_402 => ?_⟩
          · have d_403 := iEq c_402
            have i_404 := u_399 (by omega)
            replace hg := gt_pos (by first | exact d_403 | omega) hg
            unfold fModel_numeral_69
            replace hg := (eModel_numeral_69).symm.trans hg
            refine y_Model_isGoodg hok hw ra hR_384 (fun r_405 u_406 u_407 u_408 gn_409 => ⟨r_405, I_382, L_383, rfl, rfl, ?_⟩)
            replace hg := gt_let gn_409 hg
            clear gn_409
            have b_410 : 0 ≤ r_405.toInt ∧ r_405.toInt ≤ 1 := u_406.rg
            refine ⟨fun c_411 => ?_, fun c_411 => ?_⟩
            · have d_412 := iEq c_411
              have i_413 := u_408 (by omega)
              replace hg := gt_pos (by first | exact d_412 | omega) hg
              exact (hp _ _ _ hR_384 hf_387 (by first | omega | (intro h; omega) | exact Or.inl rfl | exact Or.inr rfl) (by first | omega | (intro h; omega) | exact Or.inl rfl | exact Or.inr rfl) (by first | omega | (intro h; omega) | exact Or.inl rfl | exact Or.inr rfl) (by first | omega | (intro h; omega) | exact Or.inl rfl | exact Or.inr rfl) (by clear hg; first | (intro _; omega) | (intro _; have ms := False.elim (by omega); omega)) k_394 k_395 hg.symm)
            · have d_414 := iNe c_411
              have i_415 := u_407 (by omega)
              replace hg := gt_neg (by first | exact d_414 | omega) hg
              exact (hp _ _ _ hR_384 hf_387 (by first | omega | (intro h; omega) | exact Or.inl rfl | exact Or.inr rfl) (by first | omega | (intro h; omega) | exact Or.inl rfl | exact Or.inr rfl) (by first | omega | (intro h; omega) | exact Or.inl rfl | exact Or.inr rfl) (by first | omega | (intro h; omega) | exact Or.inl rfl | exact Or.inr rfl) (by clear hg; first | (intro _; omega) | (intro _; have ms := False.elim (by omega); omega)) k_394 k_395 hg.symm)
          · have d_416 := iNe c_402
            have i_417 := u_398 (by omega)
            replace hg := gt_neg (by first | exact d_416 | omega) hg
            refine y_Model_nextg hok hw ra hz16 hz17 hz18 hz19 (by first | omega | (intro h; omega) | exact Or.inl rfl | exact Or.inr rfl) hR_384 (fun I_428 L_429 hR_430 fr_431 kp_432 u_419 u_420 u_421 u_422 u_423 u_424 u_425 u_426 gn_427 => ⟨I_428, L_429, rfl, rfl, ?_⟩)
            replace hg := gt_b3 gn_427 hg
            clear gn_427
            have hf_433 : Fm (fun c => c = o) I0 I_428 := hf_387.call fr_431 (fun c hc => by first | exact hc | (dsimp only at hc ⊢; omega) | omega)
            have t_434 : (I_428 o 3).toInt = (I_382 o 3).toInt := by rw [kp_432 3 rfl]
            have t_435 : (I_428 o 4).toInt = (I_382 o 4).toInt := by rw [kp_432 4 rfl]
            have g_436 : (0 : Int) ≤ (I_428 o 6).toInt ∧ (I_428 o 6).toInt ≤ 1600 := hR_430.at0 ra 6 (by decide)
            have g_437 : (0 : Int) ≤ (I_428 o 7).toInt ∧ (I_428 o 7).toInt ≤ 1601 := hR_430.at0 ra 7 (by decide)
            have g_438 : (0 : Int) ≤ (I_428 o 8).toInt ∧ (I_428 o 8).toInt ≤ 6 := hR_430.at0 ra 8 (by decide)
            unfold fModel_numeral_69
            replace hg := (eModel_numeral_69).symm.trans hg
            refine y_Model_isGoodg hok hw ra hR_430 (fun r_439 u_440 u_441 u_442 gn_443 => ⟨r_439, I_428, L_429, rfl, rfl, ?_⟩)
            replace hg := gt_let gn_443 hg
            clear gn_443
            have b_444 : 0 ≤ r_439.toInt ∧ r_439.toInt ≤ 1 := u_440.rg
            refine ⟨fun c_445 => ?_, fun c_445 => ?_⟩
            · have d_446 := iEq c_445
              have i_447 := u_442 (by omega)
              replace hg := gt_pos (by first | exact d_446 | omega) hg
              exact (hp _ _ _ hR_430 hf_433 (by first | omega | (intro h; omega) | exact Or.inl rfl | exact Or.inr rfl) (by first | omega | (intro h; omega) | exact Or.inl rfl | exact Or.inr rfl) (by first | omega | (intro h; omega) | exact Or.inl rfl | exact Or.inr rfl) (by first | omega | (intro h; omega) | exact Or.inl rfl | exact Or.inr rfl) (by clear hg; first | (intro _; omega) | (intro _; have ms := u_422 (by omega); omega)) u_425 u_426 hg.symm)
            · have d_448 := iNe c_445
              have i_449 := u_441 (by omega)
              replace hg := gt_neg (by first | exact d_448 | omega) hg
              exact (hp _ _ _ hR_430 hf_433 (by first | omega | (intro h; omega) | exact Or.inl rfl | exact Or.inr rfl) (by first | omega | (intro h; omega) | exact Or.inl rfl | exact Or.inr rfl) (by first | omega | (intro h; omega) | exact Or.inl rfl | exact Or.inr rfl) (by first | omega | (intro h; omega) | exact Or.inl rfl | exact Or.inr rfl) (by clear hg; first | (intro _; omega) | (intro _; have ms := u_422 (by omega); omega)) u_425 u_426 hg.symm)
        · have d_450 := iNlt c_375
          replace hg := gt_neg (by first | exact d_450 | omega) hg
          replace hg := gt_let (y := (I_296 o 9).toInt) rfl hg
          refine ⟨fun c_451 => ?_, fun c_451 => ?_⟩
          · have d_452 := iLe c_451
            replace hg := gt_pos (by first | exact d_452 | omega) hg
            unfold fModel_numeral_53
            replace hg := (eModel_numeral_53).symm.trans hg
            replace hg := gt_let (y := (I_296 o 9).toInt) rfl hg
            refine y_Model_isGoodg hok hw ra hR_298 (fun r_453 u_454 u_455 u_456 gn_457 => ⟨r_453, I_296, L_297, rfl, rfl, ?_⟩)
            replace hg := gt_let gn_457 hg
            clear gn_457
            have b_458 : 0 ≤ r_453.toInt ∧ r_453.toInt ≤ 1 := u_454.rg
            refine ⟨fun c_459 => ?_, fun c_459 => ?_⟩
            · have d_460 := iEq c_459
              have i_461 := u_456 (by omega)
              replace hg := gt_pos (by first | exact d_460 | omega) hg
              unfold fModel_numeral_69
              replace hg := (eModel_numeral_69).symm.trans hg
              refine y_Model_isGoodg hok hw ra hR_298 (fun r_462 u_463 u_464 u_465 gn_466 => ⟨r_462, I_296, L_297, rfl, rfl, ?_⟩)
              replace hg := gt_let gn_466 hg
              clear gn_466
              have b_467 : 0 ≤ r_462.toInt ∧ r_462.toInt ≤ 1 := u_463.rg
              refine ⟨fun c_468 => ?_, fun c_468 => ?_⟩
              · have d_469 := iEq c_468
                have i_470 := u_465 (by omega)
                replace hg := gt_pos (by first | exact d_469 | omega) hg
                exact (hp _ _ _ hR_298 hf_301 (by first | omega | (intro h; omega) | exact Or.inl rfl | exact Or.inr rfl) (by first | omega | (intro h; omega) | exact Or.inl rfl | exact Or.inr rfl) (by first | omega | (intro h; omega) | exact Or.inl rfl | exact Or.inr rfl) (by first | omega | (intro h; omega) | exact Or.inl rfl | exact Or.inr rfl) (by clear hg; first | (intro _; omega) | (intro _; have ms := False.elim (by omega); omega)) k_308 k_309 hg.symm)
              · have d_471 := iNe c_468
                have i_472 := u_464 (by omega)
                replace hg := gt_neg (by first | exact d_471 | omega) hg
                exact (hp _ _ _ hR_298 hf_301 (by first | omega | (intro h; omega) | exact Or.inl rfl | exact Or.inr rfl) (by first | omega | (intro h; omega) | exact Or.inl rfl | exact Or.inr rfl) (by first | omega | (intro h; omega) | exact Or.inl rfl | exact Or.inr rfl) (by first | omega | (intro h; omega) | exact Or.inl rfl | exact Or.inr rfl) (by clear hg; first | (intro _; omega) | (intro _; have ms := False.elim (by omega); omega)) k_308 k_309 hg.symm)
            · have d_473 := iNe c_459
              have i_474 := u_455 (by omega)
              replace hg := gt_neg (by first | exact d_473 | omega) hg
              refine y_Model_nextg hok hw ra hz16 hz17 hz18 hz19 (by first | omega | (intro h; omega) | exact Or.inl rfl | exact Or.inr rfl) hR_298 (fun I_485 L_486 hR_487 fr_488 kp_489 u_476 u_477 u_478 u_479 u_480 u_481 u_482 u_483 gn_484 => ⟨I_485, L_486, rfl, rfl, ?_⟩)
              replace hg := gt_b3 gn_484 hg
              clear gn_484
              have hf_490 : Fm (fun c => c = o) I0 I_485 := hf_301.call fr_488 (fun c hc => by first | exact hc | (dsimp only at hc ⊢; omega) | omega)
              have t_491 : (I_485 o 3).toInt = (I_296 o 3).toInt := by rw [kp_489 3 rfl]
              have t_492 : (I_485 o 4).toInt = (I_296 o 4).toInt := by rw [kp_489 4 rfl]
              have g_493 : (0 : Int) ≤ (I_485 o 6).toInt ∧ (I_485 o 6).toInt ≤ 1600 := hR_487.at0 ra 6 (by decide)
              have g_494 : (0 : Int) ≤ (I_485 o 7).toInt ∧ (I_485 o 7).toInt ≤ 1601 := hR_487.at0 ra 7 (by decide)
              have g_495 : (0 : Int) ≤ (I_485 o 8).toInt ∧ (I_485 o 8).toInt ≤ 6 := hR_487.at0 ra 8 (by decide)
              unfold fModel_numeral_69
              replace hg := (eModel_numeral_69).symm.trans hg
              refine y_Model_isGoodg hok hw ra hR_487 (fun r_496 u_497 u_498 u_499 gn_500 => ⟨r_496, I_485, L_486, rfl, rfl, ?_⟩)
              replace hg := gt_let gn_500 hg
              clear gn_500
              have b_501 : 0 ≤ r_496.toInt ∧ r_496.toInt ≤ 1 := u_497.rg
              refine ⟨fun c_502 => ?_, fun c_502 => ?_⟩
              · have d_503 := iEq c_502
                have i_504 := u_499 (by omega)
                replace hg := gt_pos (by first | exact d_503 | omega) hg
                exact (hp _ _ _ hR_487 hf_490 (by first | omega | (intro h; omega) | exact Or.inl rfl | exact Or.inr rfl) (by first | omega | (intro h; omega) | exact Or.inl rfl | exact Or.inr rfl) (by first | omega | (intro h; omega) | exact Or.inl rfl | exact Or.inr rfl) (by first | omega | (intro h; omega) | exact Or.inl rfl | exact Or.inr rfl) (by clear hg; first | (intro _; omega) | (intro _; have ms := u_479 (by omega); omega)) u_482 u_483 hg.symm)
              · have d_505 := iNe c_502
                have i_506 := u_498 (by omega)
                replace hg := gt_neg (by first | exact d_505 | omega) hg
                exact (hp _ _ _ hR_487 hf_490 (by first | omega | (intro h; omega) | exact Or.inl rfl | exact Or.inr rfl) (by first | omega | (intro h; omega) | exact Or.inl rfl | exact Or.inr rfl) (by first | omega | (intro h; omega) | exact Or.inl rfl | exact Or.inr rfl) (by first | omega | (intro h; omega) | exact Or.inl rfl | exact Or.inr rfl) (by clear hg; first | (intro _; omega) | (intro _; have ms := u_479 (by omega); omega)) u_482 u_483 hg.symm)
          · have d_507 := iNle c_451
            replace hg := gt_neg (by first | exact d_507 | omega) hg
            unfold fModel_numeral_44
            replace hg := (eModel_numeral_44).symm.trans hg
            have g_508 : (0 : Int) ≤ (I_296 o 6).toInt ∧ (I_296 o 6).toInt ≤ 1600 := hR_298.at0 ra 6 (by decide)
            replace hg := gt_let (y := (I_296 o 6).toInt) rfl hg
            refine y_Model_failsg hok hw ra hz14 hz15 (by first | omega | (intro h; omega) | exact Or.inl rfl | exact Or.inr rfl) hR_298 (fun I_513 L_514 hR_515 fr_516 kp_517 u_510 u_511 gn_512 => ⟨I_513, L_514, rfl, rfl, ?_⟩)
            replace hg := gt_b3 gn_512 hg
            clear gn_512
            have hf_518 : Fm (fun c => c = o) I0 I_513 := hf_301.call fr_516 (fun c hc => by first | exact hc | (dsimp only at hc ⊢; omega) | omega)
            have t_519 : (I_513 o 3).toInt = (I_296 o 3).toInt := by rw [kp_517 3 rfl]
            have g_520 : (0 : Int) ≤ (I_513 o 4).toInt ∧ (I_513 o 4).toInt ≤ 5 := hR_515.at0 ra 4 (by decide)
            have t_521 : (I_513 o 6).toInt = (I_296 o 6).toInt := by rw [kp_517 6 rfl]
            have t_522 : (I_513 o 7).toInt = (I_296 o 7).toInt := by rw [kp_517 7 rfl]
            have t_523 : (I_513 o 8).toInt = (I_296 o 8).toInt := by rw [kp_517 8 rfl]
            have t_524 : (I_513 o 9).toInt = (I_296 o 9).toInt := by rw [kp_517 9 rfl]
            have k_525 : MPo I_513 o := k_308.fr (kp_517 8 rfl) (kp_517 9 rfl)
            have k_526 : MTk I_513 o := k_309.fr (kp_517 6 rfl) (kp_517 7 rfl) (kp_517 8 rfl)
            unfold fModel_numeral_53
            replace hg := (eModel_numeral_53).symm.trans hg
            replace hg := gt_let (y := (I_513 o 9).toInt) rfl hg
            refine y_Model_isGoodg hok hw ra hR_515 (fun r_527 u_528 u_529 u_530 gn_531 => ⟨r_527, I_513, L_514, rfl, rfl, ?_⟩)
            replace hg := gt_let gn_531 hg
            clear gn_531
            have b_532 : 0 ≤ r_527.toInt ∧ r_527.toInt ≤ 1 := u_528.rg
            refine ⟨fun c_533 => ?_, fun c_533 => ?_⟩
            · have d_534 := iEq c_533
              have i_535 := u_530 (by omega)
              replace hg := gt_pos (by first | exact d_534 | omega) hg
              unfold fModel_numeral_69
              replace hg := (eModel_numeral_69).symm.trans hg
              refine y_Model_isGoodg hok hw ra hR_515 (fun r_536 u_537 u_538 u_539 gn_540 => ⟨r_536, I_513, L_514, rfl, rfl, ?_⟩)
              replace hg := gt_let gn_540 hg
              clear gn_540
              have b_541 : 0 ≤ r_536.toInt ∧ r_536.toInt ≤ 1 := u_537.rg
              refine ⟨fun c_542 => ?_, fun c_542 => ?_⟩
              · have d_543 := iEq c_542
                have i_544 := u_539 (by omega)
                replace hg := gt_pos (by first | exact d_543 | omega) hg
                exact (hp _ _ _ hR_515 hf_518 (by first | omega | (intro h; omega) | exact Or.inl rfl | exact Or.inr rfl) (by first | omega | (intro h; omega) | exact Or.inl rfl | exact Or.inr rfl) (by first | omega | (intro h; omega) | exact Or.inl rfl | exact Or.inr rfl) (by first | omega | (intro h; omega) | exact Or.inl rfl | exact Or.inr rfl) (by clear hg; first | (intro _; omega) | (intro _; have ms := False.elim (by omega); omega)) k_525 k_526 hg.symm)
              · have d_545 := iNe c_542
                have i_546 := u_538 (by omega)
                replace hg := gt_neg (by first | exact d_545 | omega) hg
                exact (hp _ _ _ hR_515 hf_518 (by first | omega | (intro h; omega) | exact Or.inl rfl | exact Or.inr rfl) (by first | omega | (intro h; omega) | exact Or.inl rfl | exact Or.inr rfl) (by first | omega | (intro h; omega) | exact Or.inl rfl | exact Or.inr rfl) (by first | omega | (intro h; omega) | exact Or.inl rfl | exact Or.inr rfl) (by clear hg; first | (intro _; omega) | (intro _; have ms := False.elim (by omega); omega)) k_525 k_526 hg.symm)
            · have d_547 := iNe c_533
              have i_548 := u_529 (by omega)
              replace hg := gt_neg (by first | exact d_547 | omega) hg
              refine y_Model_nextg hok hw ra hz16 hz17 hz18 hz19 (by first | omega | (intro h; omega) | exact Or.inl rfl | exact Or.inr rfl) hR_515 (fun I_559 L_560 hR_561 fr_562 kp_563 u_550 u_551 u_552 u_553 u_554 u_555 u_556 u_557 gn_558 => ⟨I_559, L_560, rfl, rfl, ?_⟩)
              replace hg := gt_b3 gn_558 hg
              clear gn_558
              have hf_564 : Fm (fun c => c = o) I0 I_559 := hf_518.call fr_562 (fun c hc => by first | exact hc | (dsimp only at hc ⊢; omega) | omega)
              have t_565 : (I_559 o 3).toInt = (I_513 o 3).toInt := by rw [kp_563 3 rfl]
              have t_566 : (I_559 o 4).toInt = (I_513 o 4).toInt := by rw [kp_563 4 rfl]
              have g_567 : (0 : Int) ≤ (I_559 o 6).toInt ∧ (I_559 o 6).toInt ≤ 1600 := hR_561.at0 ra 6 (by decide)
              have g_568 : (0 : Int) ≤ (I_559 o 7).toInt ∧ (I_559 o 7).toInt ≤ 1601 := hR_561.at0 ra 7 (by decide)
              have g_569 : (0 : Int) ≤ (I_559 o 8).toInt ∧ (I_559 o 8).toInt ≤ 6 := hR_561.at0 ra 8 (by decide)
              unfold fModel_numeral_69
              replace hg := (eModel_numeral_69).symm.trans hg
              refine y_Model_isGoodg hok hw ra hR_561 (fun r_570 u_571 u_572 u_573 gn_574 => ⟨r_570, I_559, L_560, rfl, rfl, ?_⟩)
              replace hg := gt_let gn_574 hg
              clear gn_574
              have b_575 : 0 ≤ r_570.toInt ∧ r_570.toInt ≤ 1 := u_571.rg
              refine ⟨fun c_576 => ?_, fun c_576 => ?_⟩
              · have d_577 := iEq c_576
                have i_578 := u_573 (by omega)
                replace hg := gt_pos (by first | exact d_577 | omega) hg
                exact (hp _ _ _ hR_561 hf_564 (by first | omega | (intro h; omega) | exact Or.inl rfl | exact Or.inr rfl) (by first | omega | (intro h; omega) | exact Or.inl rfl | exact Or.inr rfl) (by first | omega | (intro h; omega) | exact Or.inl rfl | exact Or.inr rfl) (by first | omega | (intro h; omega) | exact Or.inl rfl | exact Or.inr rfl) (by clear hg; first | (intro _; omega) | (intro _; have ms := u_553 (by omega); omega)) u_556 u_557 hg.symm)
              · have d_579 := iNe c_576
                have i_580 := u_572 (by omega)
                replace hg := gt_neg (by first | exact d_579 | omega) hg
                exact (hp _ _ _ hR_561 hf_564 (by first | omega | (intro h; omega) | exact Or.inl rfl | exact Or.inr rfl) (by first | omega | (intro h; omega) | exact Or.inl rfl | exact Or.inr rfl) (by first | omega | (intro h; omega) | exact Or.inl rfl | exact Or.inr rfl) (by first | omega | (intro h; omega) | exact Or.inl rfl | exact Or.inr rfl) (by clear hg; first | (intro _; omega) | (intro _; have ms := u_553 (by omega); omega)) u_556 u_557 hg.symm)
  · have d_581 := iEq c_13
    have i_582 := u_9 (by omega)
    replace hg := gt_pos (by first | exact d_581 | omega) hg
    exact (hp _ _ _ hR hf (by first | omega | (intro h; omega) | exact Or.inl rfl | exact Or.inr rfl) (by first | omega | (intro h; omega) | exact Or.inl rfl | exact Or.inr rfl) (by first | omega | (intro h; omega) | exact Or.inl rfl | exact Or.inr rfl) (by first | omega | (intro h; omega) | exact Or.inl rfl | exact Or.inr rfl) (by clear hg; first | (intro _; omega) | (intro _; have ms := False.elim (by omega); omega)) hq1 hq2 hg.symm)
theorem y_Model_numeralg {D : va_G} {cA : FieldType → ClassId} {b : Nat} {E : State → Prop} {R : qRg} {o n : Nat} {sh : Nat → qC} {Rf : Nat → Nat → Option Nat} {I0 : Nat → Nat → Int32} {L0 : Nat → Nat → Int64} {post : Option Value → qS → Prop} {p1 : Int32} {p2 : Int32} (hok : q_ok (qGG D cA b E)) (hw : WfModel (qGG D cA b E) n sh Rf o) (ra : RAModel R o) (hz14 : R.2 14 = true) (hz15 : R.2 15 = true) (hz16 : R.2 16 = true) (hz17 : R.2 17 = true) (hz18 : R.2 18 = true) (hz19 : R.2 19 = true) (hq0 : (I0 o 7).toInt ≤ (I0 o 3).toInt) (hq1 : MPo I0 o) (hq2 : MTk I0 o) (hR : RI R I0) (hp : ∀ (r : Int32) (I' : Nat → Nat → Int32) (L' : Nat → Nat → Int64), RI R I' → Fm (fun c => c = o) I0 I' → Kp wModel_numeral I0 I' o → ((I' o 7).toInt ≤ (I' o 3).toInt) → ((I0 o 7).toInt ≤ (I' o 7).toInt) → ((I0 o 4).toInt ≤ (I' o 4).toInt) → (7 * (I0 o 7).toInt - (I0 o 8).toInt + (I0 o 4).toInt ≤ 7 * (I' o 7).toInt - (I' o 8).toInt + (I' o 4).toInt) → (Im ((I0 o 4).toInt = 0) (7 * (I0 o 7).toInt - (I0 o 8).toInt + (I0 o 4).toInt < 7 * (I' o 7).toInt - (I' o 8).toInt + (I' o 4).toInt)) → (MPo I' o) → (MTk I' o) → (gModel_numeral_0 o (tI I0) L0 (p1).toInt (p2).toInt = (r.toInt, tI I', L')) → post (some (.int r)) (n, sh, Rf, I', L')) : Ev (qGG D cA b E) mModel_numeral 3 (0, 0) 0 (lv_args 0 [.ref o, .int p1, .int p2]) [] (n, sh, Rf, I0, L0) post :=
  yc_Model_numeralg (R := fzR R I0 o wModel_numeral) hok hw (fzA ra hR _) (fzT hz14 rfl) (fzT hz15 rfl) (fzT hz16 rfl) (fzT hz17 rfl) (fzT hz18 rfl) (fzT hz19 rfl) fzZ (fzI hR) hq0 hq1 hq2 (fzI hR) (fun r I' L' h1 h2 u0 u1 u2 u3 u4 u5 u6 ug => hp r I' L' (fzB hR h1) h2 (fzP h1) u0 u1 u2 u3 u4 u5 u6 ug)
