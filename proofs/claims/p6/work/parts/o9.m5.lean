/-! The mirror: the plain calls of the reference. By program (mrun.py). -/
noncomputable def gModel_isPoint_0 (J : gJ) (L : gL) (x0 : Int) : Int := (if x0 < 0 then 0 else (if 16 ≤ x0 then 0 else 1))
theorem eModel_isPoint_0 {J : gJ} {L : gL} {x0 : Int} : gModel_isPoint_0  J L x0 = (if x0 < 0 then 0 else (if 16 ≤ x0 then 0 else 1)) := rfl
set_option maxHeartbeats 4000000 in
set_option maxRecDepth 20000 in
theorem y_Model_isPointg {D : va_G} {cA : FieldType → ClassId} {b : Nat} {E : State → Prop} {R : qRg} {n : Nat} {sh : Nat → qC} {Rf : Nat → Nat → Option Nat} {I0 : Nat → Nat → Int32} {L0 : Nat → Nat → Int64} {post : Option Value → qS → Prop} {p0 : Int32} (hok : q_ok (qGG D cA b E)) (hR : RI R I0) (hp : ∀ (r : Int32) , (Bz r) → (Im (r.toInt ≠ 0) (0 ≤ p0.toInt ∧ p0.toInt ≤ 15)) → (gModel_isPoint_0  (tI I0) L0 (p0).toInt = r.toInt) → post (some (.int r)) (n, sh, Rf, I0, L0)) : Ev (qGG D cA b E) mModel_isPoint 0 (0, 0) 0 (lv_args 0 [.int p0]) [] (n, sh, Rf, I0, L0) post := by
  refine sModel_isPoint_0 n sh Rf I0 L0 post p0 hok  ?_
  unfold fModel_isPoint_0
  have hg : gModel_isPoint_0  (tI I0) L0 (p0).toInt = gModel_isPoint_0  (tI I0) L0 (p0).toInt := rfl
  replace hg := (eModel_isPoint_0).symm.trans hg
  have l_1 : (0 : Int32).toInt = 0 := rfl
  refine ⟨fun c_2 => ?_, fun c_2 => ?_⟩
  · have d_3 := iLt c_2
    replace hg := gt_pos (by first | exact d_3 | omega) hg
    exact (hp _ (Or.inl rfl) (by clear hg; intro _; omega) hg.symm)
  · have d_4 := iNlt c_2
    replace hg := gt_neg (by first | exact d_4 | omega) hg
    have l_5 : (16 : Int32).toInt = 16 := rfl
    refine ⟨fun c_6 => ?_, fun c_6 => ?_⟩
    · have d_7 := iLe c_6
      replace hg := gt_pos (by first | exact d_7 | omega) hg
      exact (hp _ (Or.inl rfl) (by clear hg; intro _; omega) hg.symm)
    · have d_8 := iNle c_6
      replace hg := gt_neg (by first | exact d_8 | omega) hg
      have l_9 : (1 : Int32).toInt = 1 := rfl
      exact (hp _ (Or.inr rfl) (by clear hg; intro _; omega) hg.symm)
noncomputable def gModel_isIn_0 (J : gJ) (L : gL) (x0 : Int) (x1 : Int) (x2 : Int) : Int := (if x0 < x1 then 0 else (if x2 < x0 then 0 else 1))
theorem eModel_isIn_0 {J : gJ} {L : gL} {x0 : Int} {x1 : Int} {x2 : Int} : gModel_isIn_0  J L x0 x1 x2 = (if x0 < x1 then 0 else (if x2 < x0 then 0 else 1)) := rfl
set_option maxHeartbeats 4000000 in
set_option maxRecDepth 20000 in
theorem y_Model_isIng {D : va_G} {cA : FieldType → ClassId} {b : Nat} {E : State → Prop} {R : qRg} {n : Nat} {sh : Nat → qC} {Rf : Nat → Nat → Option Nat} {I0 : Nat → Nat → Int32} {L0 : Nat → Nat → Int64} {post : Option Value → qS → Prop} {p0 : Int32} {p1 : Int32} {p2 : Int32} (hok : q_ok (qGG D cA b E)) (hR : RI R I0) (hp : ∀ (r : Int32) , (Bz r) → (Im (r.toInt ≠ 0) (p1.toInt ≤ p0.toInt ∧ p0.toInt ≤ p2.toInt)) → (r = aIn p0 p1 p2) → (gModel_isIn_0  (tI I0) L0 (p0).toInt (p1).toInt (p2).toInt = r.toInt) → post (some (.int r)) (n, sh, Rf, I0, L0)) : Ev (qGG D cA b E) mModel_isIn 0 (0, 0) 0 (lv_args 0 [.int p0, .int p1, .int p2]) [] (n, sh, Rf, I0, L0) post := by
  refine sModel_isIn_0 n sh Rf I0 L0 post p0 p1 p2 hok  ?_
  unfold fModel_isIn_0
  have hg : gModel_isIn_0  (tI I0) L0 (p0).toInt (p1).toInt (p2).toInt = gModel_isIn_0  (tI I0) L0 (p0).toInt (p1).toInt (p2).toInt := rfl
  replace hg := (eModel_isIn_0).symm.trans hg
  refine ⟨fun c_1 => ?_, fun c_1 => ?_⟩
  · have d_2 := iLt c_1
    replace hg := gt_pos (by first | exact d_2 | omega) hg
    have l_3 : (0 : Int32).toInt = 0 := rfl
    exact (hp _ (Or.inl rfl) (by clear hg; intro _; omega) (by clear hg; simp [aIn, *] <;> (intro h; exact absurd h (Int32.not_lt.mpr (by assumption)))) hg.symm)
  · have d_4 := iNlt c_1
    replace hg := gt_neg (by first | exact d_4 | omega) hg
    refine ⟨fun c_5 => ?_, fun c_5 => ?_⟩
    · have d_6 := iLt c_5
      replace hg := gt_pos (by first | exact d_6 | omega) hg
      have l_7 : (0 : Int32).toInt = 0 := rfl
      exact (hp _ (Or.inl rfl) (by clear hg; intro _; omega) (by clear hg; simp [aIn, *] <;> (intro h; exact absurd h (Int32.not_lt.mpr (by assumption)))) hg.symm)
    · have d_8 := iNlt c_5
      replace hg := gt_neg (by first | exact d_8 | omega) hg
      have l_9 : (1 : Int32).toInt = 1 := rfl
      exact (hp _ (Or.inr rfl) (by clear hg; intro _; omega) (by clear hg; simp [aIn, *] <;> (intro h; exact absurd h (Int32.not_lt.mpr (by assumption)))) hg.symm)
noncomputable def gModel_isMonth_0 (J : gJ) (L : gL) (x0 : Int) : Int := gLet (gModel_isIn_0  J L x0 0 239) (fun (r_1 : Int) => r_1)
theorem eModel_isMonth_0 {J : gJ} {L : gL} {x0 : Int} : gModel_isMonth_0  J L x0 = gLet (gModel_isIn_0  J L x0 0 239) (fun (r_1 : Int) => r_1) := rfl
set_option maxHeartbeats 4000000 in
set_option maxRecDepth 20000 in
theorem y_Model_isMonthg {D : va_G} {cA : FieldType → ClassId} {b : Nat} {E : State → Prop} {R : qRg} {n : Nat} {sh : Nat → qC} {Rf : Nat → Nat → Option Nat} {I0 : Nat → Nat → Int32} {L0 : Nat → Nat → Int64} {post : Option Value → qS → Prop} {p0 : Int32} (hok : q_ok (qGG D cA b E)) (hR : RI R I0) (hp : ∀ (r : Int32) , (Bz r) → (gModel_isMonth_0  (tI I0) L0 (p0).toInt = r.toInt) → post (some (.int r)) (n, sh, Rf, I0, L0)) : Ev (qGG D cA b E) mModel_isMonth 1 (0, 0) 0 (lv_args 0 [.int p0]) [] (n, sh, Rf, I0, L0) post := by
  refine sModel_isMonth_0 n sh Rf I0 L0 post p0 hok  ?_
  unfold fModel_isMonth_0
  have hg : gModel_isMonth_0  (tI I0) L0 (p0).toInt = gModel_isMonth_0  (tI I0) L0 (p0).toInt := rfl
  replace hg := (eModel_isMonth_0).symm.trans hg
  have l_1 : (0 : Int32).toInt = 0 := rfl
  have l_2 : (239 : Int32).toInt = 239 := rfl
  refine y_Model_isIng hok hR (fun r_3 u_4 u_5 u_6 gn_7 => ⟨r_3, I0, L0, rfl, rfl, ?_⟩)
  replace hg := gt_let gn_7 hg
  clear gn_7
  have b_8 : 0 ≤ r_3.toInt ∧ r_3.toInt ≤ 1 := u_4.rg
  exact ⟨u_4, (hp _ (u_4) hg.symm)⟩
noncomputable def gModel_pans_0 (o : Nat) (J : gJ) (L : gL) : Int := gLet (J o 34) (fun (v_1 : Int) => gLet (J (o + 8) (Int.toNat v_1)) (fun (v_2 : Int) => v_2))
theorem eModel_pans_0 {o : Nat} {J : gJ} {L : gL} : gModel_pans_0 o J L  = gLet (J o 34) (fun (v_1 : Int) => gLet (J (o + 8) (Int.toNat v_1)) (fun (v_2 : Int) => v_2)) := rfl
set_option maxHeartbeats 4000000 in
set_option maxRecDepth 20000 in
theorem y_Model_pansg {D : va_G} {cA : FieldType → ClassId} {b : Nat} {E : State → Prop} {R : qRg} {o n : Nat} {sh : Nat → qC} {Rf : Nat → Nat → Option Nat} {I0 : Nat → Nat → Int32} {L0 : Nat → Nat → Int64} {post : Option Value → qS → Prop} (hok : q_ok (qGG D cA b E)) (hw : WfModel (qGG D cA b E) n sh Rf o) (ra : RAModel R o) (hR : RI R I0) (hp : ∀ (r : Int32) , (((0 : Int) ≤ r.toInt ∧ r.toInt ≤ 3)) → (gModel_pans_0 o (tI I0) L0 = r.toInt) → post (some (.int r)) (n, sh, Rf, I0, L0)) : Ev (qGG D cA b E) mModel_pans 0 (0, 0) 0 (lv_args 0 [.ref o]) [] (n, sh, Rf, I0, L0) post := by
  refine sModel_pans_0 o n sh Rf I0 L0 post  hok hw ?_
  unfold fModel_pans_0
  have hg : gModel_pans_0 o (tI I0) L0 = gModel_pans_0 o (tI I0) L0 := rfl
  replace hg := (eModel_pans_0).symm.trans hg
  have g_1 : (0 : Int) ≤ (I0 o 34).toInt ∧ (I0 o 34).toInt ≤ 1 := hR.at0 ra 34 (by decide)
  replace hg := gt_let (y := (I0 o 34).toInt) rfl hg
  refine ⟨tIn (by omega) (by omega), ?_⟩
  have g_2 : (0 : Int) ≤ (I0 (o + 8) ((I0 o 34) : Int32).toNatClampNeg).toInt ∧ (I0 (o + 8) ((I0 o 34) : Int32).toNatClampNeg).toInt ≤ 3 := hR.at ra 8 _ (by decide)
  replace hg := gt_let (y := (I0 (o + 8) ((I0 o 34) : Int32).toNatClampNeg).toInt) rfl hg
  exact (hp _ (by first | omega | (intro h; omega) | exact Or.inl rfl | exact Or.inr rfl) hg.symm)
noncomputable def gModel_days_31 (o : Nat) (J : gJ) (L : gL) (x1 : Int) (x2 : Int) : Int := (-1)
theorem eModel_days_31 {o : Nat} {J : gJ} {L : gL} {x1 : Int} {x2 : Int} : gModel_days_31 o J L x1 x2 = (-1) := rfl
noncomputable def gModel_days_0 (o : Nat) (J : gJ) (L : gL) (x1 : Int) (x2 : Int) : Int := gLet (gModel_isPoint_0  J L x1) (fun (r_1 : Int) => (if r_1 = 0 then (gModel_days_31 o J L x1 x2) else gLet (gModel_isPoint_0  J L x2) (fun (r_2 : Int) => (if r_2 = 0 then (gModel_days_31 o J L x1 x2) else gLet (16 * x1) (fun (v_3 : Int) => gLet (v_3 + x2) (fun (v_4 : Int) => gLet (J (o + 25) (Int.toNat v_4)) (fun (v_5 : Int) => (if v_5 < 1000000 then gLet (16 * x1) (fun (v_6 : Int) => gLet (v_6 + x2) (fun (v_7 : Int) => gLet (J (o + 25) (Int.toNat v_7)) (fun (v_8 : Int) => v_8))) else (gModel_days_31 o J L x1 x2)))))))))
theorem eModel_days_0 {o : Nat} {J : gJ} {L : gL} {x1 : Int} {x2 : Int} : gModel_days_0 o J L x1 x2 = gLet (gModel_isPoint_0  J L x1) (fun (r_1 : Int) => (if r_1 = 0 then (gModel_days_31 o J L x1 x2) else gLet (gModel_isPoint_0  J L x2) (fun (r_2 : Int) => (if r_2 = 0 then (gModel_days_31 o J L x1 x2) else gLet (16 * x1) (fun (v_3 : Int) => gLet (v_3 + x2) (fun (v_4 : Int) => gLet (J (o + 25) (Int.toNat v_4)) (fun (v_5 : Int) => (if v_5 < 1000000 then gLet (16 * x1) (fun (v_6 : Int) => gLet (v_6 + x2) (fun (v_7 : Int) => gLet (J (o + 25) (Int.toNat v_7)) (fun (v_8 : Int) => v_8))) else (gModel_days_31 o J L x1 x2))))))))) := rfl
set_option maxHeartbeats 4000000 in
set_option maxRecDepth 20000 in
theorem y_Model_daysg {D : va_G} {cA : FieldType → ClassId} {b : Nat} {E : State → Prop} {R : qRg} {o n : Nat} {sh : Nat → qC} {Rf : Nat → Nat → Option Nat} {I0 : Nat → Nat → Int32} {L0 : Nat → Nat → Int64} {post : Option Value → qS → Prop} {p1 : Int32} {p2 : Int32} (hok : q_ok (qGG D cA b E)) (hw : WfModel (qGG D cA b E) n sh Rf o) (ra : RAModel R o) (hR : RI R I0) (hp : ∀ (r : Int32) , (gModel_days_0 o (tI I0) L0 (p1).toInt (p2).toInt = r.toInt) → post (some (.int r)) (n, sh, Rf, I0, L0)) : Ev (qGG D cA b E) mModel_days 1 (0, 0) 0 (lv_args 0 [.ref o, .int p1, .int p2]) [] (n, sh, Rf, I0, L0) post := by
  refine sModel_days_0 o n sh Rf I0 L0 post p1 p2 hok hw ?_
  unfold fModel_days_0
  have hg : gModel_days_0 o (tI I0) L0 (p1).toInt (p2).toInt = gModel_days_0 o (tI I0) L0 (p1).toInt (p2).toInt := rfl
  replace hg := (eModel_days_0).symm.trans hg
  refine y_Model_isPointg hok hR (fun r_1 u_2 u_3 gn_4 => ⟨r_1, I0, L0, rfl, rfl, ?_⟩)
  replace hg := gt_let gn_4 hg
  clear gn_4
  have b_5 : 0 ≤ r_1.toInt ∧ r_1.toInt ≤ 1 := u_2.rg
  have l_6 : (0 : Int32).toInt = 0 := rfl
  refine ⟨fun c_7 => ?_, fun c_7 => ?_⟩
  · have d_8 := iEq c_7
    replace hg := gt_pos (by first | exact d_8 | omega) hg
    unfold fModel_days_31
    replace hg := (eModel_days_31).symm.trans hg
    have l_9 : (-1 : Int32).toInt = -1 := rfl
    exact (hp _  hg.symm)
  · have d_10 := iNe c_7
    replace hg := gt_neg (by first | exact d_10 | omega) hg
    have nz7 := u_3 (by omega)
    refine y_Model_isPointg hok hR (fun r_11 u_12 u_13 gn_14 => ⟨r_11, I0, L0, rfl, rfl, ?_⟩)
    replace hg := gt_let gn_14 hg
    clear gn_14
    have b_15 : 0 ≤ r_11.toInt ∧ r_11.toInt ≤ 1 := u_12.rg
    refine ⟨fun c_16 => ?_, fun c_16 => ?_⟩
    · have d_17 := iEq c_16
      replace hg := gt_pos (by first | exact d_17 | omega) hg
      unfold fModel_days_31
      replace hg := (eModel_days_31).symm.trans hg
      have l_18 : (-1 : Int32).toInt = -1 := rfl
      exact (hp _  hg.symm)
    · have d_19 := iNe c_16
      replace hg := gt_neg (by first | exact d_19 | omega) hg
      have nz14 := u_13 (by omega)
      have l_20 : (16 : Int32).toInt = 16 := rfl
      have a_21 : (16 * p1).toInt = 16 * p1.toInt := tMulL rfl (by omega) (by omega)
      replace hg := gt_let (y := ((16 * p1) : Int32).toInt) (by omega) hg
      have a_22 : ((16 * p1) + p2).toInt = (16 * p1).toInt + p2.toInt := tAdd (by omega) (by omega)
      replace hg := gt_let (y := (((16 * p1) + p2) : Int32).toInt) (by omega) hg
      refine ⟨tIn (by omega) (by omega), ?_⟩
      replace hg := gt_let (y := (I0 (o + 25) (((16 * p1) + p2) : Int32).toNatClampNeg).toInt) rfl hg
      have l_23 : (1000000 : Int32).toInt = 1000000 := rfl
      refine ⟨fun c_24 => ?_, fun c_24 => ?_⟩
      · have d_25 := iLt c_24
        replace hg := gt_pos (by first | exact d_25 | omega) hg
        have a_26 : (16 * p1).toInt = 16 * p1.toInt := tMulL rfl (by omega) (by omega)
        replace hg := gt_let (y := ((16 * p1) : Int32).toInt) (by omega) hg
        have a_27 : ((16 * p1) + p2).toInt = (16 * p1).toInt + p2.toInt := tAdd (by omega) (by omega)
        replace hg := gt_let (y := (((16 * p1) + p2) : Int32).toInt) (by omega) hg
        refine ⟨tIn (by omega) (by omega), ?_⟩
        replace hg := gt_let (y := (I0 (o + 25) (((16 * p1) + p2) : Int32).toNatClampNeg).toInt) rfl hg
        exact (hp _  hg.symm)
      · have d_28 := iNlt c_24
        replace hg := gt_neg (by first | exact d_28 | omega) hg
        unfold fModel_days_31
        replace hg := (eModel_days_31).symm.trans hg
        have l_29 : (-1 : Int32).toInt = -1 := rfl
        exact (hp _  hg.symm)
noncomputable def gModel_merchant_0 (o : Nat) (J : gJ) (L : gL) (x1 : Int) : Int × gJ × gL := (if x1 < 0 then ((-1), J, L) else (if 30000 < x1 then ((-1), J, L) else gLet (J o 66) (fun (v_1 : Int) => (if v_1 = 6 then ((-1), J, L) else gLet (q_u J o 135 0) (fun (J_2 : gJ) => gLet (J_2 o 66) (fun (v_3 : Int) => gLet (q_u J_2 (o + 35) (Int.toNat v_3) x1) (fun (J_4 : gJ) => gLet (J_4 o 66) (fun (v_5 : Int) => gLet (v_5 + 1) (fun (v_6 : Int) => gLet (q_u J_4 o 66 v_6) (fun (J_7 : gJ) => gLet (J_7 o 66) (fun (v_8 : Int) => gLet (v_8 - 1) (fun (v_9 : Int) => (v_9, J_7, L)))))))))))))
theorem eModel_merchant_0 {o : Nat} {J : gJ} {L : gL} {x1 : Int} : gModel_merchant_0 o J L x1 = (if x1 < 0 then ((-1), J, L) else (if 30000 < x1 then ((-1), J, L) else gLet (J o 66) (fun (v_1 : Int) => (if v_1 = 6 then ((-1), J, L) else gLet (q_u J o 135 0) (fun (J_2 : gJ) => gLet (J_2 o 66) (fun (v_3 : Int) => gLet (q_u J_2 (o + 35) (Int.toNat v_3) x1) (fun (J_4 : gJ) => gLet (J_4 o 66) (fun (v_5 : Int) => gLet (v_5 + 1) (fun (v_6 : Int) => gLet (q_u J_4 o 66 v_6) (fun (J_7 : gJ) => gLet (J_7 o 66) (fun (v_8 : Int) => gLet (v_8 - 1) (fun (v_9 : Int) => (v_9, J_7, L))))))))))))) := rfl
set_option maxHeartbeats 4000000 in
set_option maxRecDepth 20000 in
theorem yc_Model_merchantg {D : va_G} {cA : FieldType → ClassId} {b : Nat} {E : State → Prop} {R : qRg} {o n : Nat} {sh : Nat → qC} {Rf : Nat → Nat → Option Nat} {I0 : Nat → Nat → Int32} {L0 : Nat → Nat → Int64} {post : Option Value → qS → Prop} {p1 : Int32} (hok : q_ok (qGG D cA b E)) (hw : WfModel (qGG D cA b E) n sh Rf o) (ra : RAModel R o) (hz76 : R.2 76 = true) (hz145 : R.2 145 = true) (hZ : Fz R I0 o wModel_merchant) (hR0 : RI R I0) (hR : RI R I0) (hp : ∀ (r : Int32) (I' : Nat → Nat → Int32) (L' : Nat → Nat → Int64), RI R I' → Fm (fun c => c = o ∨ c = o + 35) I0 I' → (gModel_merchant_0 o (tI I0) L0 (p1).toInt = (r.toInt, tI I', L')) → post (some (.int r)) (n, sh, Rf, I', L')) : Ev (qGG D cA b E) mModel_merchant 0 (0, 0) 0 (lv_args 0 [.ref o, .int p1]) [] (n, sh, Rf, I0, L0) post := by
  have hf : Fm (fun c => c = o ∨ c = o + 35) I0 I0 := Fm.rf
  refine sModel_merchant_0 o n sh Rf I0 L0 post p1 hok hw ?_
  unfold fModel_merchant_0
  have hg : gModel_merchant_0 o (tI I0) L0 (p1).toInt = gModel_merchant_0 o (tI I0) L0 (p1).toInt := rfl
  replace hg := (eModel_merchant_0).symm.trans hg
  have l_1 : (0 : Int32).toInt = 0 := rfl
  refine ⟨fun c_2 => ?_, fun c_2 => ?_⟩
  · have d_3 := iLt c_2
    replace hg := gt_pos (by first | exact d_3 | omega) hg
    have l_4 : (-1 : Int32).toInt = -1 := rfl
    exact (hp _ _ _ hR hf  hg.symm)
  · have d_5 := iNlt c_2
    replace hg := gt_neg (by first | exact d_5 | omega) hg
    have l_6 : (30000 : Int32).toInt = 30000 := rfl
    refine ⟨fun c_7 => ?_, fun c_7 => ?_⟩
    · have d_8 := iLt c_7
      replace hg := gt_pos (by first | exact d_8 | omega) hg
      have l_9 : (-1 : Int32).toInt = -1 := rfl
      exact (hp _ _ _ hR hf  hg.symm)
    · have d_10 := iNlt c_7
      replace hg := gt_neg (by first | exact d_10 | omega) hg
      have g_11 : (0 : Int) ≤ (I0 o 66).toInt ∧ (I0 o 66).toInt ≤ 6 := hR.at0 ra 66 (by decide)
      replace hg := gt_let (y := (I0 o 66).toInt) rfl hg
      have l_12 : (6 : Int32).toInt = 6 := rfl
      refine ⟨fun c_13 => ?_, fun c_13 => ?_⟩
      · have d_14 := iNe c_13
        replace hg := gt_neg (by first | exact d_14 | omega) hg
        refine fun I_15 e_16 => ?_
        replace hg := gt_let (y := tI I_15) (tI_q e_16) hg
        have hR_17 : RI R I_15 := hR.up0 (k := 135) ra (by decide) (Or.inr hz145) e_16 (i_lo _) (i_hi _)
        have hf_18 : Fm (fun c => c = o ∨ c = o + 35) I0 I_15 := hf.set (by first | rfl | omega | (dsimp only; omega)) e_16
        have t_19 : (I_15 o 66).toInt = (I0 o 66).toInt := by rw [← e_16, q_u_k (by decide)]
        have g_20 : (0 : Int) ≤ (I_15 o 66).toInt ∧ (I_15 o 66).toInt ≤ 6 := hR_17.at0 ra 66 (by decide)
        replace hg := gt_let (y := (I_15 o 66).toInt) rfl hg
        refine ⟨tIn (by omega) (by omega), fun I_21 e_22 => ?_⟩
        replace hg := gt_let (y := tI I_21) (tI_q e_22) hg
        have hR_23 : RI R I_21 := hR_17.up ra 35 (by decide) (Or.inl rfl) e_22 (i_lo _) (i_hi _)
        have hf_24 : Fm (fun c => c = o ∨ c = o + 35) I0 I_21 := hf_18.set (by first | rfl | omega | (dsimp only; omega)) e_22
        have t_25 : (I_21 o 66).toInt = (I_15 o 66).toInt := by rw [← e_22, q_u_ne (by omega)]
        have g_26 : (0 : Int) ≤ (I_21 o 66).toInt ∧ (I_21 o 66).toInt ≤ 6 := hR_23.at0 ra 66 (by decide)
        replace hg := gt_let (y := (I_21 o 66).toInt) rfl hg
        have l_27 : (1 : Int32).toInt = 1 := rfl
        have a_28 : ((I_21 o 66) + 1).toInt = (I_21 o 66).toInt + (1 : Int32).toInt := tAdd (by omega) (by omega)
        replace hg := gt_let (y := (((I_21 o 66) + 1) : Int32).toInt) (by omega) hg
        refine fun I_29 e_30 => ?_
        replace hg := gt_let (y := tI I_29) (tI_q e_30) hg
        have hR_31 : RI R I_29 := hR_23.up0 (k := 66) ra (by decide) (Or.inr hz76) e_30 (show (0 : Int) ≤ ((I_21 o 66) + 1).toInt by omega) (show ((I_21 o 66) + 1).toInt ≤ (6 : Int) by omega)
        have hf_32 : Fm (fun c => c = o ∨ c = o + 35) I0 I_29 := hf_24.set (by first | rfl | omega | (dsimp only; omega)) e_30
        have t_33 : (I_29 o 66).toInt = ((I_21 o 66) + 1).toInt := by rw [← e_30, q_u_at]
        have g_34 : (0 : Int) ≤ (I_29 o 66).toInt ∧ (I_29 o 66).toInt ≤ 6 := hR_31.at0 ra 66 (by decide)
        replace hg := gt_let (y := (I_29 o 66).toInt) rfl hg
        have a_35 : ((I_29 o 66) - 1).toInt = (I_29 o 66).toInt - (1 : Int32).toInt := tSub (by omega) (by omega)
        replace hg := gt_let (y := (((I_29 o 66) - 1) : Int32).toInt) (by omega) hg
        exact (hp _ _ _ hR_31 hf_32  hg.symm)
      · have d_36 := iEq c_13
        replace hg := gt_pos (by first | exact d_36 | omega) hg
        have l_37 : (-1 : Int32).toInt = -1 := rfl
        exact (hp _ _ _ hR hf  hg.symm)
theorem y_Model_merchantg {D : va_G} {cA : FieldType → ClassId} {b : Nat} {E : State → Prop} {R : qRg} {o n : Nat} {sh : Nat → qC} {Rf : Nat → Nat → Option Nat} {I0 : Nat → Nat → Int32} {L0 : Nat → Nat → Int64} {post : Option Value → qS → Prop} {p1 : Int32} (hok : q_ok (qGG D cA b E)) (hw : WfModel (qGG D cA b E) n sh Rf o) (ra : RAModel R o) (hz76 : R.2 76 = true) (hz145 : R.2 145 = true) (hR : RI R I0) (hp : ∀ (r : Int32) (I' : Nat → Nat → Int32) (L' : Nat → Nat → Int64), RI R I' → Fm (fun c => c = o ∨ c = o + 35) I0 I' → Kp wModel_merchant I0 I' o → (gModel_merchant_0 o (tI I0) L0 (p1).toInt = (r.toInt, tI I', L')) → post (some (.int r)) (n, sh, Rf, I', L')) : Ev (qGG D cA b E) mModel_merchant 0 (0, 0) 0 (lv_args 0 [.ref o, .int p1]) [] (n, sh, Rf, I0, L0) post :=
  yc_Model_merchantg (R := fzR R I0 o wModel_merchant) hok hw (fzA ra hR _) (fzT hz76 rfl) (fzT hz145 rfl) fzZ (fzI hR) (fzI hR) (fun r I' L' h1 h2  ug => hp r I' L' (fzB hR h1) h2 (fzP h1)  ug)
noncomputable def gModel_later_0 (o : Nat) (J : gJ) (L : gL) (x1 : Int) : Int × gJ × gL := (if x1 < 0 then ((-1), J, L) else (if 1000 < x1 then ((-1), J, L) else gLet (J o 68) (fun (v_1 : Int) => gLet (v_1 + x1) (fun (v_2 : Int) => (if v_2 ≤ 100000 then gLet (J o 68) (fun (v_3 : Int) => gLet (v_3 + x1) (fun (v_4 : Int) => gLet (q_u J o 68 v_4) (fun (J_5 : gJ) => gLet (J_5 o 68) (fun (v_6 : Int) => (v_6, J_5, L))))) else ((-1), J, L))))))
theorem eModel_later_0 {o : Nat} {J : gJ} {L : gL} {x1 : Int} : gModel_later_0 o J L x1 = (if x1 < 0 then ((-1), J, L) else (if 1000 < x1 then ((-1), J, L) else gLet (J o 68) (fun (v_1 : Int) => gLet (v_1 + x1) (fun (v_2 : Int) => (if v_2 ≤ 100000 then gLet (J o 68) (fun (v_3 : Int) => gLet (v_3 + x1) (fun (v_4 : Int) => gLet (q_u J o 68 v_4) (fun (J_5 : gJ) => gLet (J_5 o 68) (fun (v_6 : Int) => (v_6, J_5, L))))) else ((-1), J, L)))))) := rfl
set_option maxHeartbeats 4000000 in
set_option maxRecDepth 20000 in
theorem yc_Model_laterg {D : va_G} {cA : FieldType → ClassId} {b : Nat} {E : State → Prop} {R : qRg} {o n : Nat} {sh : Nat → qC} {Rf : Nat → Nat → Option Nat} {I0 : Nat → Nat → Int32} {L0 : Nat → Nat → Int64} {post : Option Value → qS → Prop} {p1 : Int32} (hok : q_ok (qGG D cA b E)) (hw : WfModel (qGG D cA b E) n sh Rf o) (ra : RAModel R o) (hz78 : R.2 78 = true) (hZ : Fz R I0 o wModel_later) (hR0 : RI R I0) (hR : RI R I0) (hp : ∀ (r : Int32) (I' : Nat → Nat → Int32) (L' : Nat → Nat → Int64), RI R I' → Fm (fun c => c = o) I0 I' → (gModel_later_0 o (tI I0) L0 (p1).toInt = (r.toInt, tI I', L')) → post (some (.int r)) (n, sh, Rf, I', L')) : Ev (qGG D cA b E) mModel_later 0 (0, 0) 0 (lv_args 0 [.ref o, .int p1]) [] (n, sh, Rf, I0, L0) post := by
  have hf : Fm (fun c => c = o) I0 I0 := Fm.rf
  refine sModel_later_0 o n sh Rf I0 L0 post p1 hok hw ?_
  unfold fModel_later_0
  have hg : gModel_later_0 o (tI I0) L0 (p1).toInt = gModel_later_0 o (tI I0) L0 (p1).toInt := rfl
  replace hg := (eModel_later_0).symm.trans hg
  have l_1 : (0 : Int32).toInt = 0 := rfl
  refine ⟨fun c_2 => ?_, fun c_2 => ?_⟩
  · have d_3 := iLt c_2
    replace hg := gt_pos (by first | exact d_3 | omega) hg
    have l_4 : (-1 : Int32).toInt = -1 := rfl
    exact (hp _ _ _ hR hf  hg.symm)
  · have d_5 := iNlt c_2
    replace hg := gt_neg (by first | exact d_5 | omega) hg
    have l_6 : (1000 : Int32).toInt = 1000 := rfl
    refine ⟨fun c_7 => ?_, fun c_7 => ?_⟩
    · have d_8 := iLt c_7
      replace hg := gt_pos (by first | exact d_8 | omega) hg
      have l_9 : (-1 : Int32).toInt = -1 := rfl
      exact (hp _ _ _ hR hf  hg.symm)
    · have d_10 := iNlt c_7
      replace hg := gt_neg (by first | exact d_10 | omega) hg
      have g_11 : (0 : Int) ≤ (I0 o 68).toInt ∧ (I0 o 68).toInt ≤ 100000 := hR.at0 ra 68 (by decide)
      replace hg := gt_let (y := (I0 o 68).toInt) rfl hg
      have a_12 : ((I0 o 68) + p1).toInt = (I0 o 68).toInt + p1.toInt := tAdd (by omega) (by omega)
      replace hg := gt_let (y := (((I0 o 68) + p1) : Int32).toInt) (by omega) hg
      have l_13 : (100000 : Int32).toInt = 100000 := rfl
      refine ⟨fun c_14 => ?_, fun c_14 => ?_⟩
      · have d_15 := iLe c_14
        replace hg := gt_pos (by first | exact d_15 | omega) hg
        have g_16 : (0 : Int) ≤ (I0 o 68).toInt ∧ (I0 o 68).toInt ≤ 100000 := hR.at0 ra 68 (by decide)
        replace hg := gt_let (y := (I0 o 68).toInt) rfl hg
        have a_17 : ((I0 o 68) + p1).toInt = (I0 o 68).toInt + p1.toInt := tAdd (by omega) (by omega)
        replace hg := gt_let (y := (((I0 o 68) + p1) : Int32).toInt) (by omega) hg
        refine fun I_18 e_19 => ?_
        replace hg := gt_let (y := tI I_18) (tI_q e_19) hg
        have hR_20 : RI R I_18 := hR.up0 (k := 68) ra (by decide) (Or.inr hz78) e_19 (show (0 : Int) ≤ ((I0 o 68) + p1).toInt by omega) (show ((I0 o 68) + p1).toInt ≤ (100000 : Int) by omega)
        have hf_21 : Fm (fun c => c = o) I0 I_18 := hf.set (by first | rfl | omega | (dsimp only; omega)) e_19
        have t_22 : (I_18 o 68).toInt = ((I0 o 68) + p1).toInt := by rw [← e_19, q_u_at]
        have g_23 : (0 : Int) ≤ (I_18 o 68).toInt ∧ (I_18 o 68).toInt ≤ 100000 := hR_20.at0 ra 68 (by decide)
        replace hg := gt_let (y := (I_18 o 68).toInt) rfl hg
        exact (hp _ _ _ hR_20 hf_21  hg.symm)
      · have d_24 := iNle c_14
        replace hg := gt_neg (by first | exact d_24 | omega) hg
        have l_25 : (-1 : Int32).toInt = -1 := rfl
        exact (hp _ _ _ hR hf  hg.symm)
theorem y_Model_laterg {D : va_G} {cA : FieldType → ClassId} {b : Nat} {E : State → Prop} {R : qRg} {o n : Nat} {sh : Nat → qC} {Rf : Nat → Nat → Option Nat} {I0 : Nat → Nat → Int32} {L0 : Nat → Nat → Int64} {post : Option Value → qS → Prop} {p1 : Int32} (hok : q_ok (qGG D cA b E)) (hw : WfModel (qGG D cA b E) n sh Rf o) (ra : RAModel R o) (hz78 : R.2 78 = true) (hR : RI R I0) (hp : ∀ (r : Int32) (I' : Nat → Nat → Int32) (L' : Nat → Nat → Int64), RI R I' → Fm (fun c => c = o) I0 I' → Kp wModel_later I0 I' o → (gModel_later_0 o (tI I0) L0 (p1).toInt = (r.toInt, tI I', L')) → post (some (.int r)) (n, sh, Rf, I', L')) : Ev (qGG D cA b E) mModel_later 0 (0, 0) 0 (lv_args 0 [.ref o, .int p1]) [] (n, sh, Rf, I0, L0) post :=
  yc_Model_laterg (R := fzR R I0 o wModel_later) hok hw (fzA ra hR _) (fzT hz78 rfl) fzZ (fzI hR) (fzI hR) (fun r I' L' h1 h2  ug => hp r I' L' (fzB hR h1) h2 (fzP h1)  ug)
noncomputable def gModel_untell_0 (o : Nat) (J : gJ) (L : gL) (x1 : Int) : Int × gJ × gL := (if x1 < 0 then (0, J, L) else gLet (J o 67) (fun (v_1 : Int) => (if v_1 ≤ x1 then (0, J, L) else gLet (J (o + 41) (Int.toNat x1)) (fun (v_2 : Int) => (if v_2 < 0 then gLet (J o 68) (fun (v_3 : Int) => gLet (q_u J (o + 41) (Int.toNat x1) v_3) (fun (J_4 : gJ) => (1, J_4, L))) else (0, J, L))))))
theorem eModel_untell_0 {o : Nat} {J : gJ} {L : gL} {x1 : Int} : gModel_untell_0 o J L x1 = (if x1 < 0 then (0, J, L) else gLet (J o 67) (fun (v_1 : Int) => (if v_1 ≤ x1 then (0, J, L) else gLet (J (o + 41) (Int.toNat x1)) (fun (v_2 : Int) => (if v_2 < 0 then gLet (J o 68) (fun (v_3 : Int) => gLet (q_u J (o + 41) (Int.toNat x1) v_3) (fun (J_4 : gJ) => (1, J_4, L))) else (0, J, L)))))) := rfl
set_option maxHeartbeats 4000000 in
set_option maxRecDepth 20000 in
theorem yc_Model_untellg {D : va_G} {cA : FieldType → ClassId} {b : Nat} {E : State → Prop} {R : qRg} {o n : Nat} {sh : Nat → qC} {Rf : Nat → Nat → Option Nat} {I0 : Nat → Nat → Int32} {L0 : Nat → Nat → Int64} {post : Option Value → qS → Prop} {p1 : Int32} (hok : q_ok (qGG D cA b E)) (hw : WfModel (qGG D cA b E) n sh Rf o) (ra : RAModel R o) (hZ : Fz R I0 o wModel_untell) (hR0 : RI R I0) (hR : RI R I0) (hp : ∀ (r : Int32) (I' : Nat → Nat → Int32) (L' : Nat → Nat → Int64), RI R I' → Fm (fun c => c = o + 41) I0 I' → (Bz r) → (gModel_untell_0 o (tI I0) L0 (p1).toInt = (r.toInt, tI I', L')) → post (some (.int r)) (n, sh, Rf, I', L')) : Ev (qGG D cA b E) mModel_untell 0 (0, 0) 0 (lv_args 0 [.ref o, .int p1]) [] (n, sh, Rf, I0, L0) post := by
  have hf : Fm (fun c => c = o + 41) I0 I0 := Fm.rf
  refine sModel_untell_0 o n sh Rf I0 L0 post p1 hok hw ?_
  unfold fModel_untell_0
  have hg : gModel_untell_0 o (tI I0) L0 (p1).toInt = gModel_untell_0 o (tI I0) L0 (p1).toInt := rfl
  replace hg := (eModel_untell_0).symm.trans hg
  have l_1 : (0 : Int32).toInt = 0 := rfl
  refine ⟨fun c_2 => ?_, fun c_2 => ?_⟩
  · have d_3 := iLt c_2
    replace hg := gt_pos (by first | exact d_3 | omega) hg
    exact (hp _ _ _ hR hf (Or.inl rfl) hg.symm)
  · have d_4 := iNlt c_2
    replace hg := gt_neg (by first | exact d_4 | omega) hg
    have g_5 : (0 : Int) ≤ (I0 o 67).toInt ∧ (I0 o 67).toInt ≤ 40 := hR.at0 ra 67 (by decide)
    replace hg := gt_let (y := (I0 o 67).toInt) rfl hg
    refine ⟨fun c_6 => ?_, fun c_6 => ?_⟩
    · have d_7 := iLe c_6
      replace hg := gt_pos (by first | exact d_7 | omega) hg
      exact (hp _ _ _ hR hf (Or.inl rfl) hg.symm)
    · have d_8 := iNle c_6
      replace hg := gt_neg (by first | exact d_8 | omega) hg
      refine ⟨tIn (by omega) (by omega), ?_⟩
      replace hg := gt_let (y := (I0 (o + 41) (p1 : Int32).toNatClampNeg).toInt) rfl hg
      refine ⟨fun c_9 => ?_, fun c_9 => ?_⟩
      · have d_10 := iLt c_9
        replace hg := gt_pos (by first | exact d_10 | omega) hg
        have g_11 : (0 : Int) ≤ (I0 o 68).toInt ∧ (I0 o 68).toInt ≤ 100000 := hR.at0 ra 68 (by decide)
        replace hg := gt_let (y := (I0 o 68).toInt) rfl hg
        refine ⟨tIn (by omega) (by omega), fun I_12 e_13 => ?_⟩
        replace hg := gt_let (y := tI I_12) (tI_q e_13) hg
        have hR_14 : RI R I_12 := hR.up ra 41 (by decide) (Or.inl rfl) e_13 (i_lo _) (i_hi _)
        have hf_15 : Fm (fun c => c = o + 41) I0 I_12 := hf.set (by first | rfl | omega | (dsimp only; omega)) e_13
        have t_16 : (I_12 o 67).toInt = (I0 o 67).toInt := by rw [← e_13, q_u_ne (by omega)]
        have t_17 : (I_12 o 68).toInt = (I0 o 68).toInt := by rw [← e_13, q_u_ne (by omega)]
        have l_18 : (1 : Int32).toInt = 1 := rfl
        exact (hp _ _ _ hR_14 hf_15 (Or.inr rfl) hg.symm)
      · have d_19 := iNlt c_9
        replace hg := gt_neg (by first | exact d_19 | omega) hg
        exact (hp _ _ _ hR hf (Or.inl rfl) hg.symm)
theorem y_Model_untellg {D : va_G} {cA : FieldType → ClassId} {b : Nat} {E : State → Prop} {R : qRg} {o n : Nat} {sh : Nat → qC} {Rf : Nat → Nat → Option Nat} {I0 : Nat → Nat → Int32} {L0 : Nat → Nat → Int64} {post : Option Value → qS → Prop} {p1 : Int32} (hok : q_ok (qGG D cA b E)) (hw : WfModel (qGG D cA b E) n sh Rf o) (ra : RAModel R o) (hR : RI R I0) (hp : ∀ (r : Int32) (I' : Nat → Nat → Int32) (L' : Nat → Nat → Int64), RI R I' → Fm (fun c => c = o + 41) I0 I' → Kp wModel_untell I0 I' o → (Bz r) → (gModel_untell_0 o (tI I0) L0 (p1).toInt = (r.toInt, tI I', L')) → post (some (.int r)) (n, sh, Rf, I', L')) : Ev (qGG D cA b E) mModel_untell 0 (0, 0) 0 (lv_args 0 [.ref o, .int p1]) [] (n, sh, Rf, I0, L0) post :=
  yc_Model_untellg (R := fzR R I0 o wModel_untell) hok hw (fzA ra hR _) fzZ (fzI hR) (fzI hR) (fun r I' L' h1 h2 u0 ug => hp r I' L' (fzB hR h1) h2 (fzP h1) u0 ug)
noncomputable def gModel_end_0 (o : Nat) (J : gJ) (L : gL) (x1 : Int) : Int × gJ × gL := (if x1 < 0 then ((-1), J, L) else gLet (J o 2) (fun (v_1 : Int) => (if x1 ≤ v_1 then gLet (q_u J o 2 x1) (fun (J_2 : gJ) => (x1, J_2, L)) else ((-1), J, L))))
theorem eModel_end_0 {o : Nat} {J : gJ} {L : gL} {x1 : Int} : gModel_end_0 o J L x1 = (if x1 < 0 then ((-1), J, L) else gLet (J o 2) (fun (v_1 : Int) => (if x1 ≤ v_1 then gLet (q_u J o 2 x1) (fun (J_2 : gJ) => (x1, J_2, L)) else ((-1), J, L)))) := rfl
set_option maxHeartbeats 4000000 in
set_option maxRecDepth 20000 in
theorem yc_Model_endg {D : va_G} {cA : FieldType → ClassId} {b : Nat} {E : State → Prop} {R : qRg} {o n : Nat} {sh : Nat → qC} {Rf : Nat → Nat → Option Nat} {I0 : Nat → Nat → Int32} {L0 : Nat → Nat → Int64} {post : Option Value → qS → Prop} {p1 : Int32} (hok : q_ok (qGG D cA b E)) (hw : WfModel (qGG D cA b E) n sh Rf o) (ra : RAModel R o) (hz12 : R.2 12 = true) (hZ : Fz R I0 o wModel_end) (hR0 : RI R I0) (hR : RI R I0) (hp : ∀ (r : Int32) (I' : Nat → Nat → Int32) (L' : Nat → Nat → Int64), RI R I' → Fm (fun c => c = o) I0 I' → (gModel_end_0 o (tI I0) L0 (p1).toInt = (r.toInt, tI I', L')) → post (some (.int r)) (n, sh, Rf, I', L')) : Ev (qGG D cA b E) mModel_end 0 (0, 0) 0 (lv_args 0 [.ref o, .int p1]) [] (n, sh, Rf, I0, L0) post := by
  have hf : Fm (fun c => c = o) I0 I0 := Fm.rf
  refine sModel_end_0 o n sh Rf I0 L0 post p1 hok hw ?_
  unfold fModel_end_0
  have hg : gModel_end_0 o (tI I0) L0 (p1).toInt = gModel_end_0 o (tI I0) L0 (p1).toInt := rfl
  replace hg := (eModel_end_0).symm.trans hg
  have l_1 : (0 : Int32).toInt = 0 := rfl
  refine ⟨fun c_2 => ?_, fun c_2 => ?_⟩
  · have d_3 := iLt c_2
    replace hg := gt_pos (by first | exact d_3 | omega) hg
    have l_4 : (-1 : Int32).toInt = -1 := rfl
    exact (hp _ _ _ hR hf  hg.symm)
  · have d_5 := iNlt c_2
    replace hg := gt_neg (by first | exact d_5 | omega) hg
    have g_6 : (0 : Int) ≤ (I0 o 2).toInt ∧ (I0 o 2).toInt ≤ 1600 := hR.at0 ra 2 (by decide)
    replace hg := gt_let (y := (I0 o 2).toInt) rfl hg
    refine ⟨fun c_7 => ?_, fun c_7 => ?_⟩
    · have d_8 := iLe c_7
      replace hg := gt_pos (by first | exact d_8 | omega) hg
      refine fun I_9 e_10 => ?_
      replace hg := gt_let (y := tI I_9) (tI_q e_10) hg
      have hR_11 : RI R I_9 := hR.up0 (k := 2) ra (by decide) (Or.inr hz12) e_10 (show (0 : Int) ≤ p1.toInt by omega) (show p1.toInt ≤ (1600 : Int) by omega)
      have hf_12 : Fm (fun c => c = o) I0 I_9 := hf.set (by first | rfl | omega | (dsimp only; omega)) e_10
      have t_13 : (I_9 o 2).toInt = p1.toInt := by rw [← e_10, q_u_at]
      exact (hp _ _ _ hR_11 hf_12  hg.symm)
    · have d_14 := iNle c_7
      replace hg := gt_neg (by first | exact d_14 | omega) hg
      have l_15 : (-1 : Int32).toInt = -1 := rfl
      exact (hp _ _ _ hR hf  hg.symm)
theorem y_Model_endg {D : va_G} {cA : FieldType → ClassId} {b : Nat} {E : State → Prop} {R : qRg} {o n : Nat} {sh : Nat → qC} {Rf : Nat → Nat → Option Nat} {I0 : Nat → Nat → Int32} {L0 : Nat → Nat → Int64} {post : Option Value → qS → Prop} {p1 : Int32} (hok : q_ok (qGG D cA b E)) (hw : WfModel (qGG D cA b E) n sh Rf o) (ra : RAModel R o) (hz12 : R.2 12 = true) (hR : RI R I0) (hp : ∀ (r : Int32) (I' : Nat → Nat → Int32) (L' : Nat → Nat → Int64), RI R I' → Fm (fun c => c = o) I0 I' → Kp wModel_end I0 I' o → (gModel_end_0 o (tI I0) L0 (p1).toInt = (r.toInt, tI I', L')) → post (some (.int r)) (n, sh, Rf, I', L')) : Ev (qGG D cA b E) mModel_end 0 (0, 0) 0 (lv_args 0 [.ref o, .int p1]) [] (n, sh, Rf, I0, L0) post :=
  yc_Model_endg (R := fzR R I0 o wModel_end) hok hw (fzA ra hR _) (fzT hz12 rfl) fzZ (fzI hR) (fzI hR) (fun r I' L' h1 h2  ug => hp r I' L' (fzB hR h1) h2 (fzP h1)  ug)
noncomputable def gModel_feed_71 (K18 : gJ → gL → Int → Int → Int → Int → Int → Int → (Int × gJ × gL)) (o : Nat) (J : gJ) (L : gL) (x1 : Int) (x2 : Int) (x3 : Int) (x4 : Int) (x5 : Int) (x6 : Int) (z0 : Int) : Int × gJ × gL := gLet (J o 2) (fun (v_1 : Int) => gLet (v_1 + x6) (fun (v_2 : Int) => gLet (wAnd x6 3) (fun (v_3 : Int) => gLet (wMul 8 v_3) (fun (v_4 : Int) => gLet (wSub 24 v_4) (fun (v_5 : Int) => gLet (wShr z0 v_5) (fun (v_6 : Int) => gLet (wI2B v_6) (fun (v_7 : Int) => gLet (q_u J (o + 1) (Int.toNat v_2) (wNar8 v_7)) (fun (J_8 : gJ) => gLet (x6 + 1) (fun (v_9 : Int) => (K18 J_8 L x1 x2 x3 x4 x5 v_9))))))))))
theorem eModel_feed_71 {K18 : gJ → gL → Int → Int → Int → Int → Int → Int → (Int × gJ × gL)} {o : Nat} {J : gJ} {L : gL} {x1 : Int} {x2 : Int} {x3 : Int} {x4 : Int} {x5 : Int} {x6 : Int} {z0 : Int} : gModel_feed_71 K18 o J L x1 x2 x3 x4 x5 x6 z0 = gLet (J o 2) (fun (v_1 : Int) => gLet (v_1 + x6) (fun (v_2 : Int) => gLet (wAnd x6 3) (fun (v_3 : Int) => gLet (wMul 8 v_3) (fun (v_4 : Int) => gLet (wSub 24 v_4) (fun (v_5 : Int) => gLet (wShr z0 v_5) (fun (v_6 : Int) => gLet (wI2B v_6) (fun (v_7 : Int) => gLet (q_u J (o + 1) (Int.toNat v_2) (wNar8 v_7)) (fun (J_8 : gJ) => gLet (x6 + 1) (fun (v_9 : Int) => (K18 J_8 L x1 x2 x3 x4 x5 v_9)))))))))) := rfl
noncomputable def gModel_feed_18 (k : Nat) (o : Nat) (J : gJ) (L : gL) (x1 : Int) (x2 : Int) (x3 : Int) (x4 : Int) (x5 : Int) (x6 : Int) : Int × gJ × gL := match k with
  | 0 => default
  | k + 1 => (if 20 ≤ x6 then gLet (J o 2) (fun (v_1 : Int) => gLet (v_1 + 20) (fun (v_2 : Int) => gLet (q_u J o 2 v_2) (fun (J_3 : gJ) => gLet (J_3 o 2) (fun (v_4 : Int) => (v_4, J_3, L))))) else (if 4 ≤ x6 then (if 8 ≤ x6 then (if 12 ≤ x6 then (if 16 ≤ x6 then (gModel_feed_71 (gModel_feed_18 k o) o J L x1 x2 x3 x4 x5 x6 x5) else (gModel_feed_71 (gModel_feed_18 k o) o J L x1 x2 x3 x4 x5 x6 x4)) else (gModel_feed_71 (gModel_feed_18 k o) o J L x1 x2 x3 x4 x5 x6 x3)) else (gModel_feed_71 (gModel_feed_18 k o) o J L x1 x2 x3 x4 x5 x6 x2)) else (gModel_feed_71 (gModel_feed_18 k o) o J L x1 x2 x3 x4 x5 x6 x1)))
theorem eModel_feed_18 {k : Nat} {o : Nat} {J : gJ} {L : gL} {x1 : Int} {x2 : Int} {x3 : Int} {x4 : Int} {x5 : Int} {x6 : Int} : gModel_feed_18 (k + 1) o J L x1 x2 x3 x4 x5 x6 = (if 20 ≤ x6 then gLet (J o 2) (fun (v_1 : Int) => gLet (v_1 + 20) (fun (v_2 : Int) => gLet (q_u J o 2 v_2) (fun (J_3 : gJ) => gLet (J_3 o 2) (fun (v_4 : Int) => (v_4, J_3, L))))) else (if 4 ≤ x6 then (if 8 ≤ x6 then (if 12 ≤ x6 then (if 16 ≤ x6 then (gModel_feed_71 (gModel_feed_18 k o) o J L x1 x2 x3 x4 x5 x6 x5) else (gModel_feed_71 (gModel_feed_18 k o) o J L x1 x2 x3 x4 x5 x6 x4)) else (gModel_feed_71 (gModel_feed_18 k o) o J L x1 x2 x3 x4 x5 x6 x3)) else (gModel_feed_71 (gModel_feed_18 k o) o J L x1 x2 x3 x4 x5 x6 x2)) else (gModel_feed_71 (gModel_feed_18 k o) o J L x1 x2 x3 x4 x5 x6 x1))) := rfl
noncomputable def gModel_feed_0 (o : Nat) (J : gJ) (L : gL) (x1 : Int) (x2 : Int) (x3 : Int) (x4 : Int) (x5 : Int) : Int × gJ × gL := gLet (J o 2) (fun (v_1 : Int) => gLet (v_1 + 20) (fun (v_2 : Int) => (if v_2 ≤ 1600 then (gModel_feed_18 20000 o J L x1 x2 x3 x4 x5 0) else ((-1), J, L))))
theorem eModel_feed_0 {o : Nat} {J : gJ} {L : gL} {x1 : Int} {x2 : Int} {x3 : Int} {x4 : Int} {x5 : Int} : gModel_feed_0 o J L x1 x2 x3 x4 x5 = gLet (J o 2) (fun (v_1 : Int) => gLet (v_1 + 20) (fun (v_2 : Int) => (if v_2 ≤ 1600 then (gModel_feed_18 20000 o J L x1 x2 x3 x4 x5 0) else ((-1), J, L)))) := rfl
set_option maxHeartbeats 4000000 in
set_option maxRecDepth 20000 in
theorem yModel_feed_18g {D : va_G} {cA : FieldType → ClassId} {b : Nat} {E : State → Prop} {R : qRg} {o n : Nat} {sh : Nat → qC} {Rf : Nat → Nat → Option Nat} {I0 : Nat → Nat → Int32} {L0 : Nat → Nat → Int64} {post : Option Value → qS → Prop} {p1 : Int32} {p2 : Int32} {p3 : Int32} {p4 : Int32} {p5 : Int32} (hok : q_ok (qGG D cA b E)) (hw : WfModel (qGG D cA b E) n sh Rf o) (ra : RAModel R o) (hz12 : R.2 12 = true) (hZ : Fz R I0 o wModel_feed) (hR0 : RI R I0) (hp : ∀ (r : Int32) (I' : Nat → Nat → Int32) (L' : Nat → Nat → Int64), RI R I' → Fm (fun c => c = o ∨ c = o + 1) I0 I' → (gModel_feed_0 o (tI I0) L0 (p1).toInt (p2).toInt (p3).toInt (p4).toInt (p5).toInt = (r.toInt, tI I', L')) → post (some (.int r)) (n, sh, Rf, I', L')) : ∀ (k : Nat) {x1 : Int32} {x2 : Int32} {x3 : Int32} {x4 : Int32} {x5 : Int32} {x6 : Int32} {I : Nat → Nat → Int32} {L : Nat → Nat → Int64}, RI R I → Fm (fun c => c = o ∨ c = o + 1) I0 I → ((0 : Int) ≤ x6.toInt ∧ x6.toInt ≤ 20) → ((I o 2).toInt ≤ 1580) → (gModel_feed_18 k o (tI I) L (x1).toInt (x2).toInt (x3).toInt (x4).toInt (x5).toInt (x6).toInt = gModel_feed_0 o (tI I0) L0 (p1).toInt (p2).toInt (p3).toInt (p4).toInt (p5).toInt) → (20 - x6.toInt).toNat < k → Ev (qGG D cA b E) mModel_feed 0 (0, 0) 18 [(0, .ref o), (1, .int x1), (2, .int x2), (3, .int x3), (4, .int x4), (5, .int x5), (6, .int x6)] [] (n, sh, Rf, I, L) post := by
  intro k
  induction k with
  | zero =>
    intro x1 x2 x3 x4 x5 x6 I L hR hf hi0 hi1 hg hm
    exact absurd hm (Nat.not_lt_zero _)
  | succ k ih =>
    intro x1 x2 x3 x4 x5 x6 I L hR hf hi0 hi1 hg hm
    have g_1 : (0 : Int) ≤ (I o 2).toInt ∧ (I o 2).toInt ≤ 1600 := hR.at0 ra 2 (by decide)
    have g_2 : (0 : Int) ≤ (I0 o 2).toInt ∧ (I0 o 2).toInt ≤ 1600 := hR0.at0 ra 2 (by decide)
    refine sModel_feed_18 o n sh Rf I L post x1 x2 x3 x4 x5 x6 hok hw ?_
    unfold fModel_feed_18
    replace hg := (eModel_feed_18).symm.trans hg
    have l_3 : (20 : Int32).toInt = 20 := rfl
    refine ⟨fun c_4 => ?_, fun c_4 => ?_⟩
    · have d_5 := iLe c_4
      replace hg := gt_pos (by first | exact d_5 | omega) hg
      have g_6 : (0 : Int) ≤ (I o 2).toInt ∧ (I o 2).toInt ≤ 1600 := hR.at0 ra 2 (by decide)
      replace hg := gt_let (y := (I o 2).toInt) rfl hg
      have a_7 : ((I o 2) + 20).toInt = (I o 2).toInt + (20 : Int32).toInt := tAdd (by omega) (by omega)
      replace hg := gt_let (y := (((I o 2) + 20) : Int32).toInt) (by omega) hg
      refine fun I_8 e_9 => ?_
      replace hg := gt_let (y := tI I_8) (tI_q e_9) hg
      have hR_10 : RI R I_8 := hR.up0 (k := 2) ra (by decide) (Or.inr hz12) e_9 (show (0 : Int) ≤ ((I o 2) + 20).toInt by omega) (show ((I o 2) + 20).toInt ≤ (1600 : Int) by omega)
      have hf_11 : Fm (fun c => c = o ∨ c = o + 1) I0 I_8 := hf.set (by first | rfl | omega | (dsimp only; omega)) e_9
      have t_12 : (I_8 o 2).toInt = ((I o 2) + 20).toInt := by rw [← e_9, q_u_at]
      have g_13 : (0 : Int) ≤ (I_8 o 2).toInt ∧ (I_8 o 2).toInt ≤ 1600 := hR_10.at0 ra 2 (by decide)
      replace hg := gt_let (y := (I_8 o 2).toInt) rfl hg
      exact (hp _ _ _ hR_10 hf_11  hg.symm)
    · have d_14 := iNle c_4
      replace hg := gt_neg (by first | exact d_14 | omega) hg
      have l_15 : (4 : Int32).toInt = 4 := rfl
      refine ⟨fun c_16 => ?_, fun c_16 => ?_⟩
      · have d_17 := iLe c_16
        replace hg := gt_pos (by first | exact d_17 | omega) hg
        have l_18 : (8 : Int32).toInt = 8 := rfl
        refine ⟨fun c_19 => ?_, fun c_19 => ?_⟩
        · have d_20 := iLe c_19
          replace hg := gt_pos (by first | exact d_20 | omega) hg
          have l_21 : (12 : Int32).toInt = 12 := rfl
          refine ⟨fun c_22 => ?_, fun c_22 => ?_⟩
          · have d_23 := iLe c_22
            replace hg := gt_pos (by first | exact d_23 | omega) hg
            have l_24 : (16 : Int32).toInt = 16 := rfl
            refine ⟨fun c_25 => ?_, fun c_25 => ?_⟩
            · have d_26 := iLe c_25
              replace hg := gt_pos (by first | exact d_26 | omega) hg
              unfold fModel_feed_71
              replace hg := (eModel_feed_71).symm.trans hg
              have g_27 : (0 : Int) ≤ (I o 2).toInt ∧ (I o 2).toInt ≤ 1600 := hR.at0 ra 2 (by decide)
              replace hg := gt_let (y := (I o 2).toInt) rfl hg
              have a_28 : ((I o 2) + x6).toInt = (I o 2).toInt + x6.toInt := tAdd (by omega) (by omega)
              replace hg := gt_let (y := (((I o 2) + x6) : Int32).toInt) (by omega) hg
              have l_29 : (3 : Int32).toInt = 3 := rfl
              replace hg := gt_let (y := ((x6 &&& 3) : Int32).toInt) (wAnd_eq (x6 : Int32) (3 : Int32)) hg
              replace hg := gt_let (y := ((8 * (x6 &&& 3)) : Int32).toInt) (wMul_eq (8 : Int32) ((x6 &&& 3) : Int32)) hg
              have l_30 : (24 : Int32).toInt = 24 := rfl
              replace hg := gt_let (y := ((24 - (8 * (x6 &&& 3))) : Int32).toInt) (wSub_eq (24 : Int32) ((8 * (x6 &&& 3)) : Int32)) hg
              replace hg := gt_let (y := ((x5 >>> ((24 - (8 * (x6 &&& 3))) &&& 31)) : Int32).toInt) (wShr_eq (x5 : Int32) ((24 - (8 * (x6 &&& 3))) : Int32)) hg
              replace hg := gt_let (y := (((x5 >>> ((24 - (8 * (x6 &&& 3))) &&& 31)) : Int32).toInt8.toInt32).toInt) (wI2B_eq ((x5 >>> ((24 - (8 * (x6 &&& 3))) &&& 31)) : Int32)) hg
              refine ⟨tIn (by omega) (by omega), fun I_31 e_32 => ?_⟩
              replace hg := gt_let (y := tI I_31) (tI_qb e_32) hg
              have hR_33 : RI R I_31 := hR.up ra 1 (by decide) (Or.inl rfl) e_32 (i_lo _) (i_hi _)
              have hf_34 : Fm (fun c => c = o ∨ c = o + 1) I0 I_31 := hf.set (by first | rfl | omega | (dsimp only; omega)) e_32
              have t_35 : (I_31 o 2).toInt = (I o 2).toInt := by rw [← e_32, q_u_ne (by omega)]
              have a_37 : (x6 + Int32.ofInt 1).toInt = x6.toInt + (1) := tIc (by omega) (by omega) (by decide) (by decide)
              generalize ez_36 : (x6 + Int32.ofInt 1) = z_36 at a_37 ⊢
              replace hg := gt_let (y := z_36.toInt) (by omega) hg
              exact ih hR_33 hf_34 (by first | omega | (intro h; omega) | exact Or.inl rfl | exact Or.inr rfl) (by first | omega | (intro h; omega) | exact Or.inl rfl | exact Or.inr rfl) hg (by omega)
            · have d_38 := iNle c_25
              replace hg := gt_neg (by first | exact d_38 | omega) hg
              unfold fModel_feed_71
              replace hg := (eModel_feed_71).symm.trans hg
              have g_39 : (0 : Int) ≤ (I o 2).toInt ∧ (I o 2).toInt ≤ 1600 := hR.at0 ra 2 (by decide)
              replace hg := gt_let (y := (I o 2).toInt) rfl hg
              have a_40 : ((I o 2) + x6).toInt = (I o 2).toInt + x6.toInt := tAdd (by omega) (by omega)
              replace hg := gt_let (y := (((I o 2) + x6) : Int32).toInt) (by omega) hg
              have l_41 : (3 : Int32).toInt = 3 := rfl
              replace hg := gt_let (y := ((x6 &&& 3) : Int32).toInt) (wAnd_eq (x6 : Int32) (3 : Int32)) hg
              replace hg := gt_let (y := ((8 * (x6 &&& 3)) : Int32).toInt) (wMul_eq (8 : Int32) ((x6 &&& 3) : Int32)) hg
              have l_42 : (24 : Int32).toInt = 24 := rfl
              replace hg := gt_let (y := ((24 - (8 * (x6 &&& 3))) : Int32).toInt) (wSub_eq (24 : Int32) ((8 * (x6 &&& 3)) : Int32)) hg
              replace hg := gt_let (y := ((x4 >>> ((24 - (8 * (x6 &&& 3))) &&& 31)) : Int32).toInt) (wShr_eq (x4 : Int32) ((24 - (8 * (x6 &&& 3))) : Int32)) hg
              replace hg := gt_let (y := (((x4 >>> ((24 - (8 * (x6 &&& 3))) &&& 31)) : Int32).toInt8.toInt32).toInt) (wI2B_eq ((x4 >>> ((24 - (8 * (x6 &&& 3))) &&& 31)) : Int32)) hg
              refine ⟨tIn (by omega) (by omega), fun I_43 e_44 => ?_⟩
              replace hg := gt_let (y := tI I_43) (tI_qb e_44) hg
              have hR_45 : RI R I_43 := hR.up ra 1 (by decide) (Or.inl rfl) e_44 (i_lo _) (i_hi _)
              have hf_46 : Fm (fun c => c = o ∨ c = o + 1) I0 I_43 := hf.set (by first | rfl | omega | (dsimp only; omega)) e_44
              have t_47 : (I_43 o 2).toInt = (I o 2).toInt := by rw [← e_44, q_u_ne (by omega)]
              have a_49 : (x6 + Int32.ofInt 1).toInt = x6.toInt + (1) := tIc (by omega) (by omega) (by decide) (by decide)
              generalize ez_48 : (x6 + Int32.ofInt 1) = z_48 at a_49 ⊢
              replace hg := gt_let (y := z_48.toInt) (by omega) hg
              exact ih hR_45 hf_46 (by first | omega | (intro h; omega) | exact Or.inl rfl | exact Or.inr rfl) (by first | omega | (intro h; omega) | exact Or.inl rfl | exact Or.inr rfl) hg (by omega)
          · have d_50 := iNle c_22
            replace hg := gt_neg (by first | exact d_50 | omega) hg
            unfold fModel_feed_71
            replace hg := (eModel_feed_71).symm.trans hg
            have g_51 : (0 : Int) ≤ (I o 2).toInt ∧ (I o 2).toInt ≤ 1600 := hR.at0 ra 2 (by decide)
            replace hg := gt_let (y := (I o 2).toInt) rfl hg
            have a_52 : ((I o 2) + x6).toInt = (I o 2).toInt + x6.toInt := tAdd (by omega) (by omega)
            replace hg := gt_let (y := (((I o 2) + x6) : Int32).toInt) (by omega) hg
            have l_53 : (3 : Int32).toInt = 3 := rfl
            replace hg := gt_let (y := ((x6 &&& 3) : Int32).toInt) (wAnd_eq (x6 : Int32) (3 : Int32)) hg
            replace hg := gt_let (y := ((8 * (x6 &&& 3)) : Int32).toInt) (wMul_eq (8 : Int32) ((x6 &&& 3) : Int32)) hg
            have l_54 : (24 : Int32).toInt = 24 := rfl
            replace hg := gt_let (y := ((24 - (8 * (x6 &&& 3))) : Int32).toInt) (wSub_eq (24 : Int32) ((8 * (x6 &&& 3)) : Int32)) hg
            replace hg := gt_let (y := ((x3 >>> ((24 - (8 * (x6 &&& 3))) &&& 31)) : Int32).toInt) (wShr_eq (x3 : Int32) ((24 - (8 * (x6 &&& 3))) : Int32)) hg
            replace hg := gt_let (y := (((x3 >>> ((24 - (8 * (x6 &&& 3))) &&& 31)) : Int32).toInt8.toInt32).toInt) (wI2B_eq ((x3 >>> ((24 - (8 * (x6 &&& 3))) &&& 31)) : Int32)) hg
            refine ⟨tIn (by omega) (by omega), fun I_55 e_56 => ?_⟩
            replace hg := gt_let (y := tI I_55) (tI_qb e_56) hg
            have hR_57 : RI R I_55 := hR.up ra 1 (by decide) (Or.inl rfl) e_56 (i_lo _) (i_hi _)
            have hf_58 : Fm (fun c => c = o ∨ c = o + 1) I0 I_55 := hf.set (by first | rfl | omega | (dsimp only; omega)) e_56
            have t_59 : (I_55 o 2).toInt = (I o 2).toInt := by rw [← e_56, q_u_ne (by omega)]
            have a_61 : (x6 + Int32.ofInt 1).toInt = x6.toInt + (1) := tIc (by omega) (by omega) (by decide) (by decide)
            generalize ez_60 : (x6 + Int32.ofInt 1) = z_60 at a_61 ⊢
            replace hg := gt_let (y := z_60.toInt) (by omega) hg
            exact ih hR_57 hf_58 (by first | omega | (intro h; omega) | exact Or.inl rfl | exact Or.inr rfl) (by first | omega | (intro h; omega) | exact Or.inl rfl | exact Or.inr rfl) hg (by omega)
        · have d_62 := iNle c_19
          replace hg := gt_neg (by first | exact d_62 | omega) hg
          unfold fModel_feed_71
          replace hg := (eModel_feed_71).symm.trans hg
          have g_63 : (0 : Int) ≤ (I o 2).toInt ∧ (I o 2).toInt ≤ 1600 := hR.at0 ra 2 (by decide)
          replace hg := gt_let (y := (I o 2).toInt) rfl hg
          have a_64 : ((I o 2) + x6).toInt = (I o 2).toInt + x6.toInt := tAdd (by omega) (by omega)
          replace hg := gt_let (y := (((I o 2) + x6) : Int32).toInt) (by omega) hg
          have l_65 : (3 : Int32).toInt = 3 := rfl
          replace hg := gt_let (y := ((x6 &&& 3) : Int32).toInt) (wAnd_eq (x6 : Int32) (3 : Int32)) hg
          replace hg := gt_let (y := ((8 * (x6 &&& 3)) : Int32).toInt) (wMul_eq (8 : Int32) ((x6 &&& 3) : Int32)) hg
          have l_66 : (24 : Int32).toInt = 24 := rfl
          replace hg := gt_let (y := ((24 - (8 * (x6 &&& 3))) : Int32).toInt) (wSub_eq (24 : Int32) ((8 * (x6 &&& 3)) : Int32)) hg
          replace hg := gt_let (y := ((x2 >>> ((24 - (8 * (x6 &&& 3))) &&& 31)) : Int32).toInt) (wShr_eq (x2 : Int32) ((24 - (8 * (x6 &&& 3))) : Int32)) hg
          replace hg := gt_let (y := (((x2 >>> ((24 - (8 * (x6 &&& 3))) &&& 31)) : Int32).toInt8.toInt32).toInt) (wI2B_eq ((x2 >>> ((24 - (8 * (x6 &&& 3))) &&& 31)) : Int32)) hg
          refine ⟨tIn (by omega) (by omega), fun I_67 e_68 => ?_⟩
          replace hg := gt_let (y := tI I_67) (tI_qb e_68) hg
          have hR_69 : RI R I_67 := hR.up ra 1 (by decide) (Or.inl rfl) e_68 (i_lo _) (i_hi _)
          have hf_70 : Fm (fun c => c = o ∨ c = o + 1) I0 I_67 := hf.set (by first | rfl | omega | (dsimp only; omega)) e_68
          have t_71 : (I_67 o 2).toInt = (I o 2).toInt := by rw [← e_68, q_u_ne (by omega)]
          have a_73 : (x6 + Int32.ofInt 1).toInt = x6.toInt + (1) := tIc (by omega) (by omega) (by decide) (by decide)
          generalize ez_72 : (x6 + Int32.ofInt 1) = z_72 at a_73 ⊢
          replace hg := gt_let (y := z_72.toInt) (by omega) hg
          exact ih hR_69 hf_70 (by first | omega | (intro h; omega) | exact Or.inl rfl | exact Or.inr rfl) (by first | omega | (intro h; omega) | exact Or.inl rfl | exact Or.inr rfl) hg (by omega)
      · have d_74 := iNle c_16
        replace hg := gt_neg (by first | exact d_74 | omega) hg
        unfold fModel_feed_71
        replace hg := (eModel_feed_71).symm.trans hg
        have g_75 : (0 : Int) ≤ (I o 2).toInt ∧ (I o 2).toInt ≤ 1600 := hR.at0 ra 2 (by decide)
        replace hg := gt_let (y := (I o 2).toInt) rfl hg
        have a_76 : ((I o 2) + x6).toInt = (I o 2).toInt + x6.toInt := tAdd (by omega) (by omega)
        replace hg := gt_let (y := (((I o 2) + x6) : Int32).toInt) (by omega) hg
        have l_77 : (3 : Int32).toInt = 3 := rfl
        replace hg := gt_let (y := ((x6 &&& 3) : Int32).toInt) (wAnd_eq (x6 : Int32) (3 : Int32)) hg
        have l_78 : (8 : Int32).toInt = 8 := rfl
        replace hg := gt_let (y := ((8 * (x6 &&& 3)) : Int32).toInt) (wMul_eq (8 : Int32) ((x6 &&& 3) : Int32)) hg
        have l_79 : (24 : Int32).toInt = 24 := rfl
        replace hg := gt_let (y := ((24 - (8 * (x6 &&& 3))) : Int32).toInt) (wSub_eq (24 : Int32) ((8 * (x6 &&& 3)) : Int32)) hg
        replace hg := gt_let (y := ((x1 >>> ((24 - (8 * (x6 &&& 3))) &&& 31)) : Int32).toInt) (wShr_eq (x1 : Int32) ((24 - (8 * (x6 &&& 3))) : Int32)) hg
        replace hg := gt_let (y := (((x1 >>> ((24 - (8 * (x6 &&& 3))) &&& 31)) : Int32).toInt8.toInt32).toInt) (wI2B_eq ((x1 >>> ((24 - (8 * (x6 &&& 3))) &&& 31)) : Int32)) hg
        refine ⟨tIn (by omega) (by omega), fun I_80 e_81 => ?_⟩
        replace hg := gt_let (y := tI I_80) (tI_qb e_81) hg
        have hR_82 : RI R I_80 := hR.up ra 1 (by decide) (Or.inl rfl) e_81 (i_lo _) (i_hi _)
        have hf_83 : Fm (fun c => c = o ∨ c = o + 1) I0 I_80 := hf.set (by first | rfl | omega | (dsimp only; omega)) e_81
        have t_84 : (I_80 o 2).toInt = (I o 2).toInt := by rw [← e_81, q_u_ne (by omega)]
        have a_86 : (x6 + Int32.ofInt 1).toInt = x6.toInt + (1) := tIc (by omega) (by omega) (by decide) (by decide)
        generalize ez_85 : (x6 + Int32.ofInt 1) = z_85 at a_86 ⊢
        replace hg := gt_let (y := z_85.toInt) (by omega) hg
        exact ih hR_82 hf_83 (by first | omega | (intro h; omega) | exact Or.inl rfl | exact Or.inr rfl) (by first | omega | (intro h; omega) | exact Or.inl rfl | exact Or.inr rfl) hg (by omega)
set_option maxHeartbeats 4000000 in
set_option maxRecDepth 20000 in
theorem yc_Model_feedg {D : va_G} {cA : FieldType → ClassId} {b : Nat} {E : State → Prop} {R : qRg} {o n : Nat} {sh : Nat → qC} {Rf : Nat → Nat → Option Nat} {I0 : Nat → Nat → Int32} {L0 : Nat → Nat → Int64} {post : Option Value → qS → Prop} {p1 : Int32} {p2 : Int32} {p3 : Int32} {p4 : Int32} {p5 : Int32} (hok : q_ok (qGG D cA b E)) (hw : WfModel (qGG D cA b E) n sh Rf o) (ra : RAModel R o) (hz12 : R.2 12 = true) (hZ : Fz R I0 o wModel_feed) (hR0 : RI R I0) (hR : RI R I0) (hp : ∀ (r : Int32) (I' : Nat → Nat → Int32) (L' : Nat → Nat → Int64), RI R I' → Fm (fun c => c = o ∨ c = o + 1) I0 I' → (gModel_feed_0 o (tI I0) L0 (p1).toInt (p2).toInt (p3).toInt (p4).toInt (p5).toInt = (r.toInt, tI I', L')) → post (some (.int r)) (n, sh, Rf, I', L')) : Ev (qGG D cA b E) mModel_feed 0 (0, 0) 0 (lv_args 0 [.ref o, .int p1, .int p2, .int p3, .int p4, .int p5]) [] (n, sh, Rf, I0, L0) post := by
  have hf : Fm (fun c => c = o ∨ c = o + 1) I0 I0 := Fm.rf
  have g_87 : (0 : Int) ≤ (I0 o 2).toInt ∧ (I0 o 2).toInt ≤ 1600 := hR.at0 ra 2 (by decide)
  refine sModel_feed_0 o n sh Rf I0 L0 post p1 p2 p3 p4 p5 hok hw ?_
  unfold fModel_feed_0
  have hg : gModel_feed_0 o (tI I0) L0 (p1).toInt (p2).toInt (p3).toInt (p4).toInt (p5).toInt = gModel_feed_0 o (tI I0) L0 (p1).toInt (p2).toInt (p3).toInt (p4).toInt (p5).toInt := rfl
  replace hg := (eModel_feed_0).symm.trans hg
  have g_88 : (0 : Int) ≤ (I0 o 2).toInt ∧ (I0 o 2).toInt ≤ 1600 := hR.at0 ra 2 (by decide)
  replace hg := gt_let (y := (I0 o 2).toInt) rfl hg
  have l_89 : (20 : Int32).toInt = 20 := rfl
  have a_90 : ((I0 o 2) + 20).toInt = (I0 o 2).toInt + (20 : Int32).toInt := tAdd (by omega) (by omega)
  replace hg := gt_let (y := (((I0 o 2) + 20) : Int32).toInt) (by omega) hg
  have l_91 : (1600 : Int32).toInt = 1600 := rfl
  refine ⟨fun c_92 => ?_, fun c_92 => ?_⟩
  · have d_93 := iLe c_92
    replace hg := gt_pos (by first | exact d_93 | omega) hg
    have l_94 : (0 : Int32).toInt = 0 := rfl
    exact yModel_feed_18g (I0 := I0) (L0 := L0) (p1 := p1) (p2 := p2) (p3 := p3) (p4 := p4) (p5 := p5) hok hw ra hz12 hZ hR0 hp  20000 hR hf (by first | omega | (intro h; omega) | exact Or.inl rfl | exact Or.inr rfl) (by first | omega | (intro h; omega) | exact Or.inl rfl | exact Or.inr rfl) hg (by omega)
  · have d_95 := iNle c_92
    replace hg := gt_neg (by first | exact d_95 | omega) hg
    have l_96 : (-1 : Int32).toInt = -1 := rfl
    exact (hp _ _ _ hR hf  hg.symm)
theorem y_Model_feedg {D : va_G} {cA : FieldType → ClassId} {b : Nat} {E : State → Prop} {R : qRg} {o n : Nat} {sh : Nat → qC} {Rf : Nat → Nat → Option Nat} {I0 : Nat → Nat → Int32} {L0 : Nat → Nat → Int64} {post : Option Value → qS → Prop} {p1 : Int32} {p2 : Int32} {p3 : Int32} {p4 : Int32} {p5 : Int32} (hok : q_ok (qGG D cA b E)) (hw : WfModel (qGG D cA b E) n sh Rf o) (ra : RAModel R o) (hz12 : R.2 12 = true) (hR : RI R I0) (hp : ∀ (r : Int32) (I' : Nat → Nat → Int32) (L' : Nat → Nat → Int64), RI R I' → Fm (fun c => c = o ∨ c = o + 1) I0 I' → Kp wModel_feed I0 I' o → (gModel_feed_0 o (tI I0) L0 (p1).toInt (p2).toInt (p3).toInt (p4).toInt (p5).toInt = (r.toInt, tI I', L')) → post (some (.int r)) (n, sh, Rf, I', L')) : Ev (qGG D cA b E) mModel_feed 0 (0, 0) 0 (lv_args 0 [.ref o, .int p1, .int p2, .int p3, .int p4, .int p5]) [] (n, sh, Rf, I0, L0) post :=
  yc_Model_feedg (R := fzR R I0 o wModel_feed) hok hw (fzA ra hR _) (fzT hz12 rfl) fzZ (fzI hR) (fzI hR) (fun r I' L' h1 h2  ug => hp r I' L' (fzB hR h1) h2 (fzP h1)  ug)
noncomputable def gModel_fact_0 (o : Nat) (J : gJ) (L : gL) (x1 : Int) (x2 : Int) (x3 : Int) (x4 : Int) : Int × gJ × gL := gLet (J o 67) (fun (v_1 : Int) => (if v_1 = 40 then ((-1), J, L) else gLet (J o 67) (fun (v_2 : Int) => gLet (q_u J (o + 36) (Int.toNat v_2) x1) (fun (J_3 : gJ) => gLet (J_3 o 67) (fun (v_4 : Int) => gLet (q_u J_3 (o + 37) (Int.toNat v_4) x2) (fun (J_5 : gJ) => gLet (J_5 o 67) (fun (v_6 : Int) => gLet (q_u J_5 (o + 38) (Int.toNat v_6) x3) (fun (J_7 : gJ) => gLet (J_7 o 67) (fun (v_8 : Int) => gLet (q_u J_7 (o + 39) (Int.toNat v_8) x4) (fun (J_9 : gJ) => gLet (J_9 o 67) (fun (v_10 : Int) => gLet (J_9 o 68) (fun (v_11 : Int) => gLet (q_u J_9 (o + 40) (Int.toNat v_10) v_11) (fun (J_12 : gJ) => gLet (J_12 o 67) (fun (v_13 : Int) => gLet (q_u J_12 (o + 41) (Int.toNat v_13) (-1)) (fun (J_14 : gJ) => gLet (J_14 o 67) (fun (v_15 : Int) => gLet (v_15 + 1) (fun (v_16 : Int) => gLet (q_u J_14 o 67 v_16) (fun (J_17 : gJ) => gLet (J_17 o 67) (fun (v_18 : Int) => gLet (v_18 - 1) (fun (v_19 : Int) => (v_19, J_17, L)))))))))))))))))))))
theorem eModel_fact_0 {o : Nat} {J : gJ} {L : gL} {x1 : Int} {x2 : Int} {x3 : Int} {x4 : Int} : gModel_fact_0 o J L x1 x2 x3 x4 = gLet (J o 67) (fun (v_1 : Int) => (if v_1 = 40 then ((-1), J, L) else gLet (J o 67) (fun (v_2 : Int) => gLet (q_u J (o + 36) (Int.toNat v_2) x1) (fun (J_3 : gJ) => gLet (J_3 o 67) (fun (v_4 : Int) => gLet (q_u J_3 (o + 37) (Int.toNat v_4) x2) (fun (J_5 : gJ) => gLet (J_5 o 67) (fun (v_6 : Int) => gLet (q_u J_5 (o + 38) (Int.toNat v_6) x3) (fun (J_7 : gJ) => gLet (J_7 o 67) (fun (v_8 : Int) => gLet (q_u J_7 (o + 39) (Int.toNat v_8) x4) (fun (J_9 : gJ) => gLet (J_9 o 67) (fun (v_10 : Int) => gLet (J_9 o 68) (fun (v_11 : Int) => gLet (q_u J_9 (o + 40) (Int.toNat v_10) v_11) (fun (J_12 : gJ) => gLet (J_12 o 67) (fun (v_13 : Int) => gLet (q_u J_12 (o + 41) (Int.toNat v_13) (-1)) (fun (J_14 : gJ) => gLet (J_14 o 67) (fun (v_15 : Int) => gLet (v_15 + 1) (fun (v_16 : Int) => gLet (q_u J_14 o 67 v_16) (fun (J_17 : gJ) => gLet (J_17 o 67) (fun (v_18 : Int) => gLet (v_18 - 1) (fun (v_19 : Int) => (v_19, J_17, L))))))))))))))))))))) := rfl
set_option maxHeartbeats 4000000 in
set_option maxRecDepth 20000 in
theorem yc_Model_factg {D : va_G} {cA : FieldType → ClassId} {b : Nat} {E : State → Prop} {R : qRg} {o n : Nat} {sh : Nat → qC} {Rf : Nat → Nat → Option Nat} {I0 : Nat → Nat → Int32} {L0 : Nat → Nat → Int64} {post : Option Value → qS → Prop} {p1 : Int32} {p2 : Int32} {p3 : Int32} {p4 : Int32} (hok : q_ok (qGG D cA b E)) (hw : WfModel (qGG D cA b E) n sh Rf o) (ra : RAModel R o) (hz77 : R.2 77 = true) (hZ : Fz R I0 o wModel_fact) (hR0 : RI R I0) (hq0 : Im (p1.toInt = 2) (-1 ≤ p4.toInt ∧ p4.toInt ≤ 5)) (hq1 : MFac I0 o) (hR : RI R I0) (hp : ∀ (r : Int32) (I' : Nat → Nat → Int32) (L' : Nat → Nat → Int64), RI R I' → Fm (fun c => c = o ∨ (o + 36 ≤ c ∧ c < o + 42)) I0 I' → (MFac I' o) → (gModel_fact_0 o (tI I0) L0 (p1).toInt (p2).toInt (p3).toInt (p4).toInt = (r.toInt, tI I', L')) → post (some (.int r)) (n, sh, Rf, I', L')) : Ev (qGG D cA b E) mModel_fact 0 (0, 0) 0 (lv_args 0 [.ref o, .int p1, .int p2, .int p3, .int p4]) [] (n, sh, Rf, I0, L0) post := by
  have hf : Fm (fun c => c = o ∨ (o + 36 ≤ c ∧ c < o + 42)) I0 I0 := Fm.rf
  have g_1 : (0 : Int) ≤ (I0 o 67).toInt ∧ (I0 o 67).toInt ≤ 40 := hR.at0 ra 67 (by decide)
  refine sModel_fact_0 o n sh Rf I0 L0 post p1 p2 p3 p4 hok hw ?_
  unfold fModel_fact_0
  have hg : gModel_fact_0 o (tI I0) L0 (p1).toInt (p2).toInt (p3).toInt (p4).toInt = gModel_fact_0 o (tI I0) L0 (p1).toInt (p2).toInt (p3).toInt (p4).toInt := rfl
  replace hg := (eModel_fact_0).symm.trans hg
  have g_2 : (0 : Int) ≤ (I0 o 67).toInt ∧ (I0 o 67).toInt ≤ 40 := hR.at0 ra 67 (by decide)
  replace hg := gt_let (y := (I0 o 67).toInt) rfl hg
  have l_3 : (40 : Int32).toInt = 40 := rfl
  refine ⟨fun c_4 => ?_, fun c_4 => ?_⟩
  · have d_5 := iNe c_4
    replace hg := gt_neg (by first | exact d_5 | omega) hg
    have g_6 : (0 : Int) ≤ (I0 o 67).toInt ∧ (I0 o 67).toInt ≤ 40 := hR.at0 ra 67 (by decide)
    replace hg := gt_let (y := (I0 o 67).toInt) rfl hg
    refine ⟨tIn (by omega) (by omega), fun I_7 e_8 => ?_⟩
    replace hg := gt_let (y := tI I_7) (tI_q e_8) hg
    have hR_9 : RI R I_7 := hR.up ra 36 (by decide) (Or.inl rfl) e_8 (i_lo _) (i_hi _)
    have hf_10 : Fm (fun c => c = o ∨ (o + 36 ≤ c ∧ c < o + 42)) I0 I_7 := hf.set (by first | rfl | omega | (dsimp only; omega)) e_8
    have t_11 : (I_7 o 67).toInt = (I0 o 67).toInt := by rw [← e_8, q_u_ne (by omega)]
    have k_12 : MFac I_7 o := hq1.put36 e_8 (by have cl := tCl (x := (I0 o 67)) (by omega); omega)
    have x_13 : I_7 (o + 36) ((I0 o 67) : Int32).toNatClampNeg = p1 := by rw [← e_8, q_u_at]
    have g_14 : (0 : Int) ≤ (I_7 o 67).toInt ∧ (I_7 o 67).toInt ≤ 40 := hR_9.at0 ra 67 (by decide)
    replace hg := gt_let (y := (I_7 o 67).toInt) rfl hg
    refine ⟨tIn (by omega) (by omega), fun I_15 e_16 => ?_⟩
    replace hg := gt_let (y := tI I_15) (tI_q e_16) hg
    have hR_17 : RI R I_15 := hR_9.up ra 37 (by decide) (Or.inl rfl) e_16 (i_lo _) (i_hi _)
    have hf_18 : Fm (fun c => c = o ∨ (o + 36 ≤ c ∧ c < o + 42)) I0 I_15 := hf_10.set (by first | rfl | omega | (dsimp only; omega)) e_16
    have t_19 : (I_15 o 67).toInt = (I_7 o 67).toInt := by rw [← e_16, q_u_ne (by omega)]
    have k_20 : MFac I_15 o := k_12.fr (by rw [← e_16]; exact q_u_ne (by omega)) (by rw [← e_16]; exact q_u_ne (by omega)) (by rw [← e_16, q_u_ne (by omega)])
    have x_21 : I_15 (o + 36) ((I0 o 67) : Int32).toNatClampNeg = p1 := by rw [← e_16, q_u_ne (by omega)]; exact x_13
    have g_22 : (0 : Int) ≤ (I_15 o 67).toInt ∧ (I_15 o 67).toInt ≤ 40 := hR_17.at0 ra 67 (by decide)
    replace hg := gt_let (y := (I_15 o 67).toInt) rfl hg
    refine ⟨tIn (by omega) (by omega), fun I_23 e_24 => ?_⟩
    replace hg := gt_let (y := tI I_23) (tI_q e_24) hg
    have hR_25 : RI R I_23 := hR_17.up ra 38 (by decide) (Or.inl rfl) e_24 (i_lo _) (i_hi _)
    have hf_26 : Fm (fun c => c = o ∨ (o + 36 ≤ c ∧ c < o + 42)) I0 I_23 := hf_18.set (by first | rfl | omega | (dsimp only; omega)) e_24
    have t_27 : (I_23 o 67).toInt = (I_15 o 67).toInt := by rw [← e_24, q_u_ne (by omega)]
    have k_28 : MFac I_23 o := k_20.fr (by rw [← e_24]; exact q_u_ne (by omega)) (by rw [← e_24]; exact q_u_ne (by omega)) (by rw [← e_24, q_u_ne (by omega)])
    have x_29 : I_23 (o + 36) ((I0 o 67) : Int32).toNatClampNeg = p1 := by rw [← e_24, q_u_ne (by omega)]; exact x_21
    have g_30 : (0 : Int) ≤ (I_23 o 67).toInt ∧ (I_23 o 67).toInt ≤ 40 := hR_25.at0 ra 67 (by decide)
    replace hg := gt_let (y := (I_23 o 67).toInt) rfl hg
    refine ⟨tIn (by omega) (by omega), fun I_31 e_32 => ?_⟩
    replace hg := gt_let (y := tI I_31) (tI_q e_32) hg
    have hR_33 : RI R I_31 := hR_25.up ra 39 (by decide) (Or.inl rfl) e_32 (i_lo _) (i_hi _)
    have hf_34 : Fm (fun c => c = o ∨ (o + 36 ≤ c ∧ c < o + 42)) I0 I_31 := hf_26.set (by first | rfl | omega | (dsimp only; omega)) e_32
    have t_35 : (I_31 o 67).toInt = (I_23 o 67).toInt := by rw [← e_32, q_u_ne (by omega)]
    have k_36 : MFac I_31 o := k_28.put39 e_32 (by have cl := tCl (x := (I_23 o 67)) (by omega); omega)
    have x_37 : I_31 (o + 36) ((I0 o 67) : Int32).toNatClampNeg = p1 := by rw [← e_32, q_u_ne (by omega)]; exact x_29
    have x_38 : I_31 (o + 39) ((I_23 o 67) : Int32).toNatClampNeg = p4 := by rw [← e_32, q_u_at]
    have g_39 : (0 : Int) ≤ (I_31 o 67).toInt ∧ (I_31 o 67).toInt ≤ 40 := hR_33.at0 ra 67 (by decide)
    replace hg := gt_let (y := (I_31 o 67).toInt) rfl hg
    have g_40 : (0 : Int) ≤ (I_31 o 68).toInt ∧ (I_31 o 68).toInt ≤ 100000 := hR_33.at0 ra 68 (by decide)
    replace hg := gt_let (y := (I_31 o 68).toInt) rfl hg
    refine ⟨tIn (by omega) (by omega), fun I_41 e_42 => ?_⟩
    replace hg := gt_let (y := tI I_41) (tI_q e_42) hg
    have hR_43 : RI R I_41 := hR_33.up ra 40 (by decide) (Or.inl rfl) e_42 (i_lo _) (i_hi _)
    have hf_44 : Fm (fun c => c = o ∨ (o + 36 ≤ c ∧ c < o + 42)) I0 I_41 := hf_34.set (by first | rfl | omega | (dsimp only; omega)) e_42
    have t_45 : (I_41 o 67).toInt = (I_31 o 67).toInt := by rw [← e_42, q_u_ne (by omega)]
    have t_46 : (I_41 o 68).toInt = (I_31 o 68).toInt := by rw [← e_42, q_u_ne (by omega)]
    have k_47 : MFac I_41 o := k_36.fr (by rw [← e_42]; exact q_u_ne (by omega)) (by rw [← e_42]; exact q_u_ne (by omega)) (by rw [← e_42, q_u_ne (by omega)])
    have x_48 : I_41 (o + 36) ((I0 o 67) : Int32).toNatClampNeg = p1 := by rw [← e_42, q_u_ne (by omega)]; exact x_37
    have x_49 : I_41 (o + 39) ((I_23 o 67) : Int32).toNatClampNeg = p4 := by rw [← e_42, q_u_ne (by omega)]; exact x_38
    have g_50 : (0 : Int) ≤ (I_41 o 67).toInt ∧ (I_41 o 67).toInt ≤ 40 := hR_43.at0 ra 67 (by decide)
    replace hg := gt_let (y := (I_41 o 67).toInt) rfl hg
    have l_51 : (-1 : Int32).toInt = -1 := rfl
    refine ⟨tIn (by omega) (by omega), fun I_52 e_53 => ?_⟩
    replace hg := gt_let (y := tI I_52) (tI_q e_53) hg
    have hR_54 : RI R I_52 := hR_43.up ra 41 (by decide) (Or.inl rfl) e_53 (i_lo _) (i_hi _)
    have hf_55 : Fm (fun c => c = o ∨ (o + 36 ≤ c ∧ c < o + 42)) I0 I_52 := hf_44.set (by first | rfl | omega | (dsimp only; omega)) e_53
    have t_56 : (I_52 o 67).toInt = (I_41 o 67).toInt := by rw [← e_53, q_u_ne (by omega)]
    have t_57 : (I_52 o 68).toInt = (I_41 o 68).toInt := by rw [← e_53, q_u_ne (by omega)]
    have k_58 : MFac I_52 o := k_47.fr (by rw [← e_53]; exact q_u_ne (by omega)) (by rw [← e_53]; exact q_u_ne (by omega)) (by rw [← e_53, q_u_ne (by omega)])
    have x_59 : I_52 (o + 36) ((I0 o 67) : Int32).toNatClampNeg = p1 := by rw [← e_53, q_u_ne (by omega)]; exact x_48
    have x_60 : I_52 (o + 39) ((I_23 o 67) : Int32).toNatClampNeg = p4 := by rw [← e_53, q_u_ne (by omega)]; exact x_49
    have g_61 : (0 : Int) ≤ (I_52 o 67).toInt ∧ (I_52 o 67).toInt ≤ 40 := hR_54.at0 ra 67 (by decide)
    replace hg := gt_let (y := (I_52 o 67).toInt) rfl hg
    have l_62 : (1 : Int32).toInt = 1 := rfl
    have a_63 : ((I_52 o 67) + 1).toInt = (I_52 o 67).toInt + (1 : Int32).toInt := tAdd (by omega) (by omega)
    replace hg := gt_let (y := (((I_52 o 67) + 1) : Int32).toInt) (by omega) hg
    refine fun I_64 e_65 => ?_
    replace hg := gt_let (y := tI I_64) (tI_q e_65) hg
    have hR_66 : RI R I_64 := hR_54.up0 (k := 67) ra (by decide) (Or.inr hz77) e_65 (show (0 : Int) ≤ ((I_52 o 67) + 1).toInt by omega) (show ((I_52 o 67) + 1).toInt ≤ (40 : Int) by omega)
    have hf_67 : Fm (fun c => c = o ∨ (o + 36 ≤ c ∧ c < o + 42)) I0 I_64 := hf_55.set (by first | rfl | omega | (dsimp only; omega)) e_65
    have t_68 : (I_64 o 67).toInt = ((I_52 o 67) + 1).toInt := by rw [← e_65, q_u_at]
    have t_69 : (I_64 o 68).toInt = (I_52 o 68).toInt := by rw [← e_65, q_u_k (by decide)]
    have x_71 : I_64 (o + 36) ((I0 o 67) : Int32).toNatClampNeg = p1 := by rw [← e_65, q_u_ne (by omega)]; exact x_59
    have x_72 : I_64 (o + 39) ((I_23 o 67) : Int32).toNatClampNeg = p4 := by rw [← e_65, q_u_ne (by omega)]; exact x_60
    have g_73 : (0 : Int) ≤ (I_64 o 67).toInt ∧ (I_64 o 67).toInt ≤ 40 := hR_66.at0 ra 67 (by decide)
    replace hg := gt_let (y := (I_64 o 67).toInt) rfl hg
    have a_74 : ((I_64 o 67) - 1).toInt = (I_64 o 67).toInt - (1 : Int32).toInt := tSub (by omega) (by omega)
    replace hg := gt_let (y := (((I_64 o 67) - 1) : Int32).toInt) (by omega) hg
    exact (hp _ _ _ hR_66 hf_67  (MFac.inc k_58 e_65 (by omega) x_59 x_60 (by have cl := tCl (x := (I0 o 67)) (by omega); omega) (by have cl := tCl (x := (I_23 o 67)) (by omega); omega) hq0) hg.symm)
  · have d_75 := iEq c_4
    replace hg := gt_pos (by first | exact d_75 | omega) hg
    have l_76 : (-1 : Int32).toInt = -1 := rfl
    exact (hp _ _ _ hR hf  hq1 hg.symm)
theorem y_Model_factg {D : va_G} {cA : FieldType → ClassId} {b : Nat} {E : State → Prop} {R : qRg} {o n : Nat} {sh : Nat → qC} {Rf : Nat → Nat → Option Nat} {I0 : Nat → Nat → Int32} {L0 : Nat → Nat → Int64} {post : Option Value → qS → Prop} {p1 : Int32} {p2 : Int32} {p3 : Int32} {p4 : Int32} (hok : q_ok (qGG D cA b E)) (hw : WfModel (qGG D cA b E) n sh Rf o) (ra : RAModel R o) (hz77 : R.2 77 = true) (hq0 : Im (p1.toInt = 2) (-1 ≤ p4.toInt ∧ p4.toInt ≤ 5)) (hq1 : MFac I0 o) (hR : RI R I0) (hp : ∀ (r : Int32) (I' : Nat → Nat → Int32) (L' : Nat → Nat → Int64), RI R I' → Fm (fun c => c = o ∨ (o + 36 ≤ c ∧ c < o + 42)) I0 I' → Kp wModel_fact I0 I' o → (MFac I' o) → (gModel_fact_0 o (tI I0) L0 (p1).toInt (p2).toInt (p3).toInt (p4).toInt = (r.toInt, tI I', L')) → post (some (.int r)) (n, sh, Rf, I', L')) : Ev (qGG D cA b E) mModel_fact 0 (0, 0) 0 (lv_args 0 [.ref o, .int p1, .int p2, .int p3, .int p4]) [] (n, sh, Rf, I0, L0) post :=
  yc_Model_factg (R := fzR R I0 o wModel_fact) hok hw (fzA ra hR _) (fzT hz77 rfl) fzZ (fzI hR) hq0 hq1 (fzI hR) (fun r I' L' h1 h2 u0 ug => hp r I' L' (fzB hR h1) h2 (fzP h1) u0 ug)
noncomputable def gModel_weather_0 (o : Nat) (J : gJ) (L : gL) (x1 : Int) (x2 : Int) (x3 : Int) : Int × gJ × gL := gLet (gModel_pans_0 o J L) (fun (r_1 : Int) => gLet (r_1 - 1) (fun (v_2 : Int) => gLet (gModel_isIn_0  J L x1 0 v_2) (fun (r_3 : Int) => (if r_3 = 0 then ((-1), J, L) else gLet (gModel_isMonth_0  J L x2) (fun (r_4 : Int) => (if r_4 = 0 then ((-1), J, L) else gLet (gModel_isIn_0  J L x3 0 300) (fun (r_5 : Int) => (if r_5 = 0 then ((-1), J, L) else gB3 (gModel_fact_0 o J L 0 x1 x2 x3) (fun r_6 J_7 L_8 => (r_6, J_7, L_8))))))))))
theorem eModel_weather_0 {o : Nat} {J : gJ} {L : gL} {x1 : Int} {x2 : Int} {x3 : Int} : gModel_weather_0 o J L x1 x2 x3 = gLet (gModel_pans_0 o J L) (fun (r_1 : Int) => gLet (r_1 - 1) (fun (v_2 : Int) => gLet (gModel_isIn_0  J L x1 0 v_2) (fun (r_3 : Int) => (if r_3 = 0 then ((-1), J, L) else gLet (gModel_isMonth_0  J L x2) (fun (r_4 : Int) => (if r_4 = 0 then ((-1), J, L) else gLet (gModel_isIn_0  J L x3 0 300) (fun (r_5 : Int) => (if r_5 = 0 then ((-1), J, L) else gB3 (gModel_fact_0 o J L 0 x1 x2 x3) (fun r_6 J_7 L_8 => (r_6, J_7, L_8)))))))))) := rfl
set_option maxHeartbeats 4000000 in
set_option maxRecDepth 20000 in
theorem yc_Model_weatherg {D : va_G} {cA : FieldType → ClassId} {b : Nat} {E : State → Prop} {R : qRg} {o n : Nat} {sh : Nat → qC} {Rf : Nat → Nat → Option Nat} {I0 : Nat → Nat → Int32} {L0 : Nat → Nat → Int64} {post : Option Value → qS → Prop} {p1 : Int32} {p2 : Int32} {p3 : Int32} (hok : q_ok (qGG D cA b E)) (hw : WfModel (qGG D cA b E) n sh Rf o) (ra : RAModel R o) (hz77 : R.2 77 = true) (hZ : Fz R I0 o wModel_weather) (hR0 : RI R I0) (hq0 : MFac I0 o) (hR : RI R I0) (hp : ∀ (r : Int32) (I' : Nat → Nat → Int32) (L' : Nat → Nat → Int64), RI R I' → Fm (fun c => c = o ∨ (o + 36 ≤ c ∧ c < o + 42)) I0 I' → (MFac I' o) → (gModel_weather_0 o (tI I0) L0 (p1).toInt (p2).toInt (p3).toInt = (r.toInt, tI I', L')) → post (some (.int r)) (n, sh, Rf, I', L')) : Ev (qGG D cA b E) mModel_weather 2 (0, 0) 0 (lv_args 0 [.ref o, .int p1, .int p2, .int p3]) [] (n, sh, Rf, I0, L0) post := by
  have hf : Fm (fun c => c = o ∨ (o + 36 ≤ c ∧ c < o + 42)) I0 I0 := Fm.rf
  refine sModel_weather_0 o n sh Rf I0 L0 post p1 p2 p3 hok hw ?_
  unfold fModel_weather_0
  have hg : gModel_weather_0 o (tI I0) L0 (p1).toInt (p2).toInt (p3).toInt = gModel_weather_0 o (tI I0) L0 (p1).toInt (p2).toInt (p3).toInt := rfl
  replace hg := (eModel_weather_0).symm.trans hg
  refine y_Model_pansg hok hw ra hR (fun r_1 u_2 gn_3 => ⟨r_1, I0, L0, rfl, rfl, ?_⟩)
  replace hg := gt_let gn_3 hg
  clear gn_3
  have l_4 : (1 : Int32).toInt = 1 := rfl
  have a_5 : (r_1 - 1).toInt = r_1.toInt - (1 : Int32).toInt := tSub (by omega) (by omega)
  replace hg := gt_let (y := ((r_1 - 1) : Int32).toInt) (by omega) hg
  have l_6 : (0 : Int32).toInt = 0 := rfl
  refine y_Model_isIng hok hR (fun r_7 u_8 u_9 u_10 gn_11 => ⟨r_7, I0, L0, rfl, rfl, ?_⟩)
  replace hg := gt_let gn_11 hg
  clear gn_11
  have b_12 : 0 ≤ r_7.toInt ∧ r_7.toInt ≤ 1 := u_8.rg
  refine ⟨fun c_13 => ?_, fun c_13 => ?_⟩
  · have d_14 := iEq c_13
    replace hg := gt_pos (by first | exact d_14 | omega) hg
    have l_15 : (-1 : Int32).toInt = -1 := rfl
    exact (hp _ _ _ hR hf  hq0 hg.symm)
  · have d_16 := iNe c_13
    replace hg := gt_neg (by first | exact d_16 | omega) hg
    refine y_Model_isMonthg hok hR (fun r_17 u_18 gn_19 => ⟨r_17, I0, L0, rfl, rfl, ?_⟩)
    replace hg := gt_let gn_19 hg
    clear gn_19
    have b_20 : 0 ≤ r_17.toInt ∧ r_17.toInt ≤ 1 := u_18.rg
    refine ⟨fun c_21 => ?_, fun c_21 => ?_⟩
    · have d_22 := iEq c_21
      replace hg := gt_pos (by first | exact d_22 | omega) hg
      have l_23 : (-1 : Int32).toInt = -1 := rfl
      exact (hp _ _ _ hR hf  hq0 hg.symm)
    · have d_24 := iNe c_21
      replace hg := gt_neg (by first | exact d_24 | omega) hg
      have l_25 : (300 : Int32).toInt = 300 := rfl
      refine y_Model_isIng hok hR (fun r_26 u_27 u_28 u_29 gn_30 => ⟨r_26, I0, L0, rfl, rfl, ?_⟩)
      replace hg := gt_let gn_30 hg
      clear gn_30
      have b_31 : 0 ≤ r_26.toInt ∧ r_26.toInt ≤ 1 := u_27.rg
      refine ⟨fun c_32 => ?_, fun c_32 => ?_⟩
      · have d_33 := iEq c_32
        replace hg := gt_pos (by first | exact d_33 | omega) hg
        have l_34 : (-1 : Int32).toInt = -1 := rfl
        exact (hp _ _ _ hR hf  hq0 hg.symm)
      · have d_35 := iNe c_32
        replace hg := gt_neg (by first | exact d_35 | omega) hg
        refine y_Model_factg hok hw ra hz77 (by exact fun h => absurd h (by decide)) hq0 hR (fun r_36 I_39 L_40 hR_41 fr_42 kp_43 u_37 gn_38 => ⟨r_36, I_39, L_40, rfl, rfl, ?_⟩)
        replace hg := gt_b3 gn_38 hg
        clear gn_38
        have hf_44 : Fm (fun c => c = o ∨ (o + 36 ≤ c ∧ c < o + 42)) I0 I_39 := hf.call fr_42 (fun c hc => by first | exact hc | (dsimp only at hc ⊢; omega) | omega)
        exact (hp _ _ _ hR_41 hf_44  u_37 hg.symm)
theorem y_Model_weatherg {D : va_G} {cA : FieldType → ClassId} {b : Nat} {E : State → Prop} {R : qRg} {o n : Nat} {sh : Nat → qC} {Rf : Nat → Nat → Option Nat} {I0 : Nat → Nat → Int32} {L0 : Nat → Nat → Int64} {post : Option Value → qS → Prop} {p1 : Int32} {p2 : Int32} {p3 : Int32} (hok : q_ok (qGG D cA b E)) (hw : WfModel (qGG D cA b E) n sh Rf o) (ra : RAModel R o) (hz77 : R.2 77 = true) (hq0 : MFac I0 o) (hR : RI R I0) (hp : ∀ (r : Int32) (I' : Nat → Nat → Int32) (L' : Nat → Nat → Int64), RI R I' → Fm (fun c => c = o ∨ (o + 36 ≤ c ∧ c < o + 42)) I0 I' → Kp wModel_weather I0 I' o → (MFac I' o) → (gModel_weather_0 o (tI I0) L0 (p1).toInt (p2).toInt (p3).toInt = (r.toInt, tI I', L')) → post (some (.int r)) (n, sh, Rf, I', L')) : Ev (qGG D cA b E) mModel_weather 2 (0, 0) 0 (lv_args 0 [.ref o, .int p1, .int p2, .int p3]) [] (n, sh, Rf, I0, L0) post :=
  yc_Model_weatherg (R := fzR R I0 o wModel_weather) hok hw (fzA ra hR _) (fzT hz77 rfl) fzZ (fzI hR) hq0 (fzI hR) (fun r I' L' h1 h2 u0 ug => hp r I' L' (fzB hR h1) h2 (fzP h1) u0 ug)
noncomputable def gModel_forged_0 (o : Nat) (J : gJ) (L : gL) (x1 : Int) (x2 : Int) : Int × gJ × gL := gLet (gModel_isIn_0  J L x1 0 1999) (fun (r_1 : Int) => (if r_1 = 0 then ((-1), J, L) else gLet (gModel_isMonth_0  J L x2) (fun (r_2 : Int) => (if r_2 = 0 then ((-1), J, L) else gB3 (gModel_fact_0 o J L 1 x1 x2 0) (fun r_3 J_4 L_5 => (r_3, J_4, L_5))))))
theorem eModel_forged_0 {o : Nat} {J : gJ} {L : gL} {x1 : Int} {x2 : Int} : gModel_forged_0 o J L x1 x2 = gLet (gModel_isIn_0  J L x1 0 1999) (fun (r_1 : Int) => (if r_1 = 0 then ((-1), J, L) else gLet (gModel_isMonth_0  J L x2) (fun (r_2 : Int) => (if r_2 = 0 then ((-1), J, L) else gB3 (gModel_fact_0 o J L 1 x1 x2 0) (fun r_3 J_4 L_5 => (r_3, J_4, L_5)))))) := rfl
set_option maxHeartbeats 4000000 in
set_option maxRecDepth 20000 in
theorem yc_Model_forgedg {D : va_G} {cA : FieldType → ClassId} {b : Nat} {E : State → Prop} {R : qRg} {o n : Nat} {sh : Nat → qC} {Rf : Nat → Nat → Option Nat} {I0 : Nat → Nat → Int32} {L0 : Nat → Nat → Int64} {post : Option Value → qS → Prop} {p1 : Int32} {p2 : Int32} (hok : q_ok (qGG D cA b E)) (hw : WfModel (qGG D cA b E) n sh Rf o) (ra : RAModel R o) (hz77 : R.2 77 = true) (hZ : Fz R I0 o wModel_forged) (hR0 : RI R I0) (hq0 : MFac I0 o) (hR : RI R I0) (hp : ∀ (r : Int32) (I' : Nat → Nat → Int32) (L' : Nat → Nat → Int64), RI R I' → Fm (fun c => c = o ∨ (o + 36 ≤ c ∧ c < o + 42)) I0 I' → (MFac I' o) → (gModel_forged_0 o (tI I0) L0 (p1).toInt (p2).toInt = (r.toInt, tI I', L')) → post (some (.int r)) (n, sh, Rf, I', L')) : Ev (qGG D cA b E) mModel_forged 2 (0, 0) 0 (lv_args 0 [.ref o, .int p1, .int p2]) [] (n, sh, Rf, I0, L0) post := by
  have hf : Fm (fun c => c = o ∨ (o + 36 ≤ c ∧ c < o + 42)) I0 I0 := Fm.rf
  refine sModel_forged_0 o n sh Rf I0 L0 post p1 p2 hok hw ?_
  unfold fModel_forged_0
  have hg : gModel_forged_0 o (tI I0) L0 (p1).toInt (p2).toInt = gModel_forged_0 o (tI I0) L0 (p1).toInt (p2).toInt := rfl
  replace hg := (eModel_forged_0).symm.trans hg
  have l_1 : (0 : Int32).toInt = 0 := rfl
  have l_2 : (1999 : Int32).toInt = 1999 := rfl
  refine y_Model_isIng hok hR (fun r_3 u_4 u_5 u_6 gn_7 => ⟨r_3, I0, L0, rfl, rfl, ?_⟩)
  replace hg := gt_let gn_7 hg
  clear gn_7
  have b_8 : 0 ≤ r_3.toInt ∧ r_3.toInt ≤ 1 := u_4.rg
  refine ⟨fun c_9 => ?_, fun c_9 => ?_⟩
  · have d_10 := iEq c_9
    replace hg := gt_pos (by first | exact d_10 | omega) hg
    have l_11 : (-1 : Int32).toInt = -1 := rfl
    exact (hp _ _ _ hR hf  hq0 hg.symm)
  · have d_12 := iNe c_9
    replace hg := gt_neg (by first | exact d_12 | omega) hg
    refine y_Model_isMonthg hok hR (fun r_13 u_14 gn_15 => ⟨r_13, I0, L0, rfl, rfl, ?_⟩)
    replace hg := gt_let gn_15 hg
    clear gn_15
    have b_16 : 0 ≤ r_13.toInt ∧ r_13.toInt ≤ 1 := u_14.rg
    refine ⟨fun c_17 => ?_, fun c_17 => ?_⟩
    · have d_18 := iEq c_17
      replace hg := gt_pos (by first | exact d_18 | omega) hg
      have l_19 : (-1 : Int32).toInt = -1 := rfl
      exact (hp _ _ _ hR hf  hq0 hg.symm)
    · have d_20 := iNe c_17
      replace hg := gt_neg (by first | exact d_20 | omega) hg
      have l_21 : (1 : Int32).toInt = 1 := rfl
      refine y_Model_factg hok hw ra hz77 (by exact fun h => absurd h (by decide)) hq0 hR (fun r_22 I_25 L_26 hR_27 fr_28 kp_29 u_23 gn_24 => ⟨r_22, I_25, L_26, rfl, rfl, ?_⟩)
      replace hg := gt_b3 gn_24 hg
      clear gn_24
      have hf_30 : Fm (fun c => c = o ∨ (o + 36 ≤ c ∧ c < o + 42)) I0 I_25 := hf.call fr_28 (fun c hc => by first | exact hc | (dsimp only at hc ⊢; omega) | omega)
      exact (hp _ _ _ hR_27 hf_30  u_23 hg.symm)
theorem y_Model_forgedg {D : va_G} {cA : FieldType → ClassId} {b : Nat} {E : State → Prop} {R : qRg} {o n : Nat} {sh : Nat → qC} {Rf : Nat → Nat → Option Nat} {I0 : Nat → Nat → Int32} {L0 : Nat → Nat → Int64} {post : Option Value → qS → Prop} {p1 : Int32} {p2 : Int32} (hok : q_ok (qGG D cA b E)) (hw : WfModel (qGG D cA b E) n sh Rf o) (ra : RAModel R o) (hz77 : R.2 77 = true) (hq0 : MFac I0 o) (hR : RI R I0) (hp : ∀ (r : Int32) (I' : Nat → Nat → Int32) (L' : Nat → Nat → Int64), RI R I' → Fm (fun c => c = o ∨ (o + 36 ≤ c ∧ c < o + 42)) I0 I' → Kp wModel_forged I0 I' o → (MFac I' o) → (gModel_forged_0 o (tI I0) L0 (p1).toInt (p2).toInt = (r.toInt, tI I', L')) → post (some (.int r)) (n, sh, Rf, I', L')) : Ev (qGG D cA b E) mModel_forged 2 (0, 0) 0 (lv_args 0 [.ref o, .int p1, .int p2]) [] (n, sh, Rf, I0, L0) post :=
  yc_Model_forgedg (R := fzR R I0 o wModel_forged) hok hw (fzA ra hR _) (fzT hz77 rfl) fzZ (fzI hR) hq0 (fzI hR) (fun r I' L' h1 h2 u0 ug => hp r I' L' (fzB hR h1) h2 (fzP h1) u0 ug)
noncomputable def gModel_dead_0 (o : Nat) (J : gJ) (L : gL) (x1 : Int) (x2 : Int) (x3 : Int) : Int × gJ × gL := gLet (J o 66) (fun (v_1 : Int) => gLet (v_1 - 1) (fun (v_2 : Int) => gLet (gModel_isIn_0  J L x1 0 v_2) (fun (r_3 : Int) => (if r_3 = 0 then ((-1), J, L) else gLet (gModel_isMonth_0  J L x2) (fun (r_4 : Int) => (if r_4 = 0 then ((-1), J, L) else gLet (J o 66) (fun (v_5 : Int) => gLet (v_5 - 1) (fun (v_6 : Int) => gLet (gModel_isIn_0  J L x3 (-1) v_6) (fun (r_7 : Int) => (if r_7 = 0 then ((-1), J, L) else (if x3 = x1 then ((-1), J, L) else gB3 (gModel_fact_0 o J L 2 x1 x2 x3) (fun r_8 J_9 L_10 => (r_8, J_9, L_10)))))))))))))
theorem eModel_dead_0 {o : Nat} {J : gJ} {L : gL} {x1 : Int} {x2 : Int} {x3 : Int} : gModel_dead_0 o J L x1 x2 x3 = gLet (J o 66) (fun (v_1 : Int) => gLet (v_1 - 1) (fun (v_2 : Int) => gLet (gModel_isIn_0  J L x1 0 v_2) (fun (r_3 : Int) => (if r_3 = 0 then ((-1), J, L) else gLet (gModel_isMonth_0  J L x2) (fun (r_4 : Int) => (if r_4 = 0 then ((-1), J, L) else gLet (J o 66) (fun (v_5 : Int) => gLet (v_5 - 1) (fun (v_6 : Int) => gLet (gModel_isIn_0  J L x3 (-1) v_6) (fun (r_7 : Int) => (if r_7 = 0 then ((-1), J, L) else (if x3 = x1 then ((-1), J, L) else gB3 (gModel_fact_0 o J L 2 x1 x2 x3) (fun r_8 J_9 L_10 => (r_8, J_9, L_10))))))))))))) := rfl
set_option maxHeartbeats 4000000 in
set_option maxRecDepth 20000 in
theorem yc_Model_deadg {D : va_G} {cA : FieldType → ClassId} {b : Nat} {E : State → Prop} {R : qRg} {o n : Nat} {sh : Nat → qC} {Rf : Nat → Nat → Option Nat} {I0 : Nat → Nat → Int32} {L0 : Nat → Nat → Int64} {post : Option Value → qS → Prop} {p1 : Int32} {p2 : Int32} {p3 : Int32} (hok : q_ok (qGG D cA b E)) (hw : WfModel (qGG D cA b E) n sh Rf o) (ra : RAModel R o) (hz77 : R.2 77 = true) (hZ : Fz R I0 o wModel_dead) (hR0 : RI R I0) (hq0 : MFac I0 o) (hR : RI R I0) (hp : ∀ (r : Int32) (I' : Nat → Nat → Int32) (L' : Nat → Nat → Int64), RI R I' → Fm (fun c => c = o ∨ (o + 36 ≤ c ∧ c < o + 42)) I0 I' → (MFac I' o) → (gModel_dead_0 o (tI I0) L0 (p1).toInt (p2).toInt (p3).toInt = (r.toInt, tI I', L')) → post (some (.int r)) (n, sh, Rf, I', L')) : Ev (qGG D cA b E) mModel_dead 2 (0, 0) 0 (lv_args 0 [.ref o, .int p1, .int p2, .int p3]) [] (n, sh, Rf, I0, L0) post := by
  have hf : Fm (fun c => c = o ∨ (o + 36 ≤ c ∧ c < o + 42)) I0 I0 := Fm.rf
  refine sModel_dead_0 o n sh Rf I0 L0 post p1 p2 p3 hok hw ?_
  unfold fModel_dead_0
  have hg : gModel_dead_0 o (tI I0) L0 (p1).toInt (p2).toInt (p3).toInt = gModel_dead_0 o (tI I0) L0 (p1).toInt (p2).toInt (p3).toInt := rfl
  replace hg := (eModel_dead_0).symm.trans hg
  have g_1 : (0 : Int) ≤ (I0 o 66).toInt ∧ (I0 o 66).toInt ≤ 6 := hR.at0 ra 66 (by decide)
  replace hg := gt_let (y := (I0 o 66).toInt) rfl hg
  have l_2 : (1 : Int32).toInt = 1 := rfl
  have a_3 : ((I0 o 66) - 1).toInt = (I0 o 66).toInt - (1 : Int32).toInt := tSub (by omega) (by omega)
  replace hg := gt_let (y := (((I0 o 66) - 1) : Int32).toInt) (by omega) hg
  have l_4 : (0 : Int32).toInt = 0 := rfl
  refine y_Model_isIng hok hR (fun r_5 u_6 u_7 u_8 gn_9 => ⟨r_5, I0, L0, rfl, rfl, ?_⟩)
  replace hg := gt_let gn_9 hg
  clear gn_9
  have b_10 : 0 ≤ r_5.toInt ∧ r_5.toInt ≤ 1 := u_6.rg
  refine ⟨fun c_11 => ?_, fun c_11 => ?_⟩
  · have d_12 := iEq c_11
    replace hg := gt_pos (by first | exact d_12 | omega) hg
    have l_13 : (-1 : Int32).toInt = -1 := rfl
    exact (hp _ _ _ hR hf  hq0 hg.symm)
  · have d_14 := iNe c_11
    replace hg := gt_neg (by first | exact d_14 | omega) hg
    have nz14 := u_7 (by omega)
    refine y_Model_isMonthg hok hR (fun r_15 u_16 gn_17 => ⟨r_15, I0, L0, rfl, rfl, ?_⟩)
    replace hg := gt_let gn_17 hg
    clear gn_17
    have b_18 : 0 ≤ r_15.toInt ∧ r_15.toInt ≤ 1 := u_16.rg
    refine ⟨fun c_19 => ?_, fun c_19 => ?_⟩
    · have d_20 := iEq c_19
      replace hg := gt_pos (by first | exact d_20 | omega) hg
      have l_21 : (-1 : Int32).toInt = -1 := rfl
      exact (hp _ _ _ hR hf  hq0 hg.symm)
    · have d_22 := iNe c_19
      replace hg := gt_neg (by first | exact d_22 | omega) hg
      have g_23 : (0 : Int) ≤ (I0 o 66).toInt ∧ (I0 o 66).toInt ≤ 6 := hR.at0 ra 66 (by decide)
      replace hg := gt_let (y := (I0 o 66).toInt) rfl hg
      have a_24 : ((I0 o 66) - 1).toInt = (I0 o 66).toInt - (1 : Int32).toInt := tSub (by omega) (by omega)
      replace hg := gt_let (y := (((I0 o 66) - 1) : Int32).toInt) (by omega) hg
      have l_25 : (-1 : Int32).toInt = -1 := rfl
      refine y_Model_isIng hok hR (fun r_26 u_27 u_28 u_29 gn_30 => ⟨r_26, I0, L0, rfl, rfl, ?_⟩)
      replace hg := gt_let gn_30 hg
      clear gn_30
      have b_31 : 0 ≤ r_26.toInt ∧ r_26.toInt ≤ 1 := u_27.rg
      refine ⟨fun c_32 => ?_, fun c_32 => ?_⟩
      · have d_33 := iEq c_32
        replace hg := gt_pos (by first | exact d_33 | omega) hg
        exact (hp _ _ _ hR hf  hq0 hg.symm)
      · have d_34 := iNe c_32
        replace hg := gt_neg (by first | exact d_34 | omega) hg
        have nz35 := u_28 (by omega)
        refine ⟨fun c_35 => ?_, fun c_35 => ?_⟩
        · have d_36 := iEq c_35
          replace hg := gt_pos (by first | exact d_36 | omega) hg
          exact (hp _ _ _ hR hf  hq0 hg.symm)
        · have d_37 := iNe c_35
          replace hg := gt_neg (by first | exact d_37 | omega) hg
          have l_38 : (2 : Int32).toInt = 2 := rfl
          refine y_Model_factg hok hw ra hz77 (by exact fun _ => by omega) hq0 hR (fun r_39 I_42 L_43 hR_44 fr_45 kp_46 u_40 gn_41 => ⟨r_39, I_42, L_43, rfl, rfl, ?_⟩)
          replace hg := gt_b3 gn_41 hg
          clear gn_41
          have hf_47 : Fm (fun c => c = o ∨ (o + 36 ≤ c ∧ c < o + 42)) I0 I_42 := hf.call fr_45 (fun c hc => by first | exact hc | (dsimp only at hc ⊢; omega) | omega)
          have t_48 : (I_42 o 66).toInt = (I0 o 66).toInt := by rw [kp_46 66 rfl]
          exact (hp _ _ _ hR_44 hf_47  u_40 hg.symm)
theorem y_Model_deadg {D : va_G} {cA : FieldType → ClassId} {b : Nat} {E : State → Prop} {R : qRg} {o n : Nat} {sh : Nat → qC} {Rf : Nat → Nat → Option Nat} {I0 : Nat → Nat → Int32} {L0 : Nat → Nat → Int64} {post : Option Value → qS → Prop} {p1 : Int32} {p2 : Int32} {p3 : Int32} (hok : q_ok (qGG D cA b E)) (hw : WfModel (qGG D cA b E) n sh Rf o) (ra : RAModel R o) (hz77 : R.2 77 = true) (hq0 : MFac I0 o) (hR : RI R I0) (hp : ∀ (r : Int32) (I' : Nat → Nat → Int32) (L' : Nat → Nat → Int64), RI R I' → Fm (fun c => c = o ∨ (o + 36 ≤ c ∧ c < o + 42)) I0 I' → Kp wModel_dead I0 I' o → (MFac I' o) → (gModel_dead_0 o (tI I0) L0 (p1).toInt (p2).toInt (p3).toInt = (r.toInt, tI I', L')) → post (some (.int r)) (n, sh, Rf, I', L')) : Ev (qGG D cA b E) mModel_dead 2 (0, 0) 0 (lv_args 0 [.ref o, .int p1, .int p2, .int p3]) [] (n, sh, Rf, I0, L0) post :=
  yc_Model_deadg (R := fzR R I0 o wModel_dead) hok hw (fzA ra hR _) (fzT hz77 rfl) fzZ (fzI hR) hq0 (fzI hR) (fun r I' L' h1 h2 u0 ug => hp r I' L' (fzB hR h1) h2 (fzP h1) u0 ug)
