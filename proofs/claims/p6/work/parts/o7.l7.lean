/-! The class's methods once more, with what they leave of the long rows: l7. By program (lrun.py). -/
noncomputable def gFacts_add_0 (o : Nat) (J : gJ) (L : gL) (x1 : Int) (x2 : Int) (x3 : Int) (x4 : Int) (x5 : Int) : Int × gJ × gL := gLet (J o 6) (fun (v_1 : Int) => (if v_1 < 40 then gLet (J o 6) (fun (v_2 : Int) => gLet (q_u J (o + 1) (Int.toNat v_2) x1) (fun (J_3 : gJ) => gLet (J_3 o 6) (fun (v_4 : Int) => gLet (q_u J_3 (o + 2) (Int.toNat v_4) x2) (fun (J_5 : gJ) => gLet (J_5 o 6) (fun (v_6 : Int) => gLet (q_u J_5 (o + 3) (Int.toNat v_6) x3) (fun (J_7 : gJ) => gLet (J_7 o 6) (fun (v_8 : Int) => gLet (q_u J_7 (o + 4) (Int.toNat v_8) x4) (fun (J_9 : gJ) => gLet (J_9 o 6) (fun (v_10 : Int) => gLet (q_u J_9 (o + 5) (Int.toNat v_10) x5) (fun (J_11 : gJ) => gLet (J_11 o 6) (fun (v_12 : Int) => gLet (q_u J_11 (o + 6) (Int.toNat v_12) (-1)) (fun (J_13 : gJ) => gLet (J_13 o 6) (fun (v_14 : Int) => gLet (v_14 + 1) (fun (v_15 : Int) => gLet (q_u J_13 o 6 v_15) (fun (J_16 : gJ) => gLet (J_16 o 6) (fun (v_17 : Int) => gLet (v_17 - 1) (fun (v_18 : Int) => (v_18, J_16, L)))))))))))))))))) else ((-1), J, L)))
theorem eFacts_add_0 {o : Nat} {J : gJ} {L : gL} {x1 : Int} {x2 : Int} {x3 : Int} {x4 : Int} {x5 : Int} : gFacts_add_0 o J L x1 x2 x3 x4 x5 = gLet (J o 6) (fun (v_1 : Int) => (if v_1 < 40 then gLet (J o 6) (fun (v_2 : Int) => gLet (q_u J (o + 1) (Int.toNat v_2) x1) (fun (J_3 : gJ) => gLet (J_3 o 6) (fun (v_4 : Int) => gLet (q_u J_3 (o + 2) (Int.toNat v_4) x2) (fun (J_5 : gJ) => gLet (J_5 o 6) (fun (v_6 : Int) => gLet (q_u J_5 (o + 3) (Int.toNat v_6) x3) (fun (J_7 : gJ) => gLet (J_7 o 6) (fun (v_8 : Int) => gLet (q_u J_7 (o + 4) (Int.toNat v_8) x4) (fun (J_9 : gJ) => gLet (J_9 o 6) (fun (v_10 : Int) => gLet (q_u J_9 (o + 5) (Int.toNat v_10) x5) (fun (J_11 : gJ) => gLet (J_11 o 6) (fun (v_12 : Int) => gLet (q_u J_11 (o + 6) (Int.toNat v_12) (-1)) (fun (J_13 : gJ) => gLet (J_13 o 6) (fun (v_14 : Int) => gLet (v_14 + 1) (fun (v_15 : Int) => gLet (q_u J_13 o 6 v_15) (fun (J_16 : gJ) => gLet (J_16 o 6) (fun (v_17 : Int) => gLet (v_17 - 1) (fun (v_18 : Int) => (v_18, J_16, L)))))))))))))))))) else ((-1), J, L))) := rfl
set_option maxHeartbeats 4000000 in
set_option maxRecDepth 20000 in
theorem y_Facts_addg {D : va_G} {cA : FieldType → ClassId} {b : Nat} {E : State → Prop} {R : qRg} {o n : Nat} {sh : Nat → qC} {Rf : Nat → Nat → Option Nat} {I0 : Nat → Nat → Int32} {L0 : Nat → Nat → Int64} {post : Option Value → qS → Prop} {p1 : Int32} {p2 : Int32} {p3 : Int32} {p4 : Int32} {p5 : Int32} (hok : q_ok (qGG D cA b E)) (hw : WfFacts (qGG D cA b E) n sh Rf o) (ra : RAFacts R o) (hq0 : Im (p1.toInt = 2) (0 ≤ p2.toInt ∧ p2.toInt ≤ 5 ∧ -1 ≤ p4.toInt ∧ p4.toInt ≤ 5)) (hq1 : FacOK I0 o) (hR : RI R I0) (hp : ∀ (r : Int32) (I' : Nat → Nat → Int32) (L' : Nat → Nat → Int64), RI R I' → Fm (fun c => (o ≤ c ∧ c < o + 7)) I0 I' → (FacOK I' o) → (gFacts_add_0 o (tI I0) L0 (p1).toInt (p2).toInt (p3).toInt (p4).toInt (p5).toInt = (r.toInt, tI I', L')) → (FmL (fun c => False) L0 L') → post (some (.int r)) (n, sh, Rf, I', L')) : Ev (qGG D cA b E) mFacts_add 0 (0, 0) 0 (lv_args 0 [.ref o, .int p1, .int p2, .int p3, .int p4, .int p5]) [] (n, sh, Rf, I0, L0) post := by
  have hf : Fm (fun c => (o ≤ c ∧ c < o + 7)) I0 I0 := Fm.rf
  have g_1 : (0 : Int) ≤ (I0 o 6).toInt ∧ (I0 o 6).toInt ≤ 40 := hR.at0 ra 6 (by decide)
  refine sFacts_add_0 o n sh Rf I0 L0 post p1 p2 p3 p4 p5 hok hw ?_
  unfold fFacts_add_0
  have hl : FmL (fun c => False) L0 L0 := FmL.rf
  have hg : gFacts_add_0 o (tI I0) L0 (p1).toInt (p2).toInt (p3).toInt (p4).toInt (p5).toInt = gFacts_add_0 o (tI I0) L0 (p1).toInt (p2).toInt (p3).toInt (p4).toInt (p5).toInt := rfl
  replace hg := (eFacts_add_0).symm.trans hg
  have g_2 : (0 : Int) ≤ (I0 o 6).toInt ∧ (I0 o 6).toInt ≤ 40 := hR.at0 ra 6 (by decide)
  replace hg := gt_let (y := (I0 o 6).toInt) rfl hg
  have l_3 : (40 : Int32).toInt = 40 := rfl
  refine ⟨fun c_4 => ?_, fun c_4 => ?_⟩
  · have d_5 := iLt c_4
    replace hg := gt_pos (by first | exact d_5 | omega) hg
    have g_6 : (0 : Int) ≤ (I0 o 6).toInt ∧ (I0 o 6).toInt ≤ 40 := hR.at0 ra 6 (by decide)
    replace hg := gt_let (y := (I0 o 6).toInt) rfl hg
    refine ⟨tIn (by omega) (by omega), fun I_7 e_8 => ?_⟩
    replace hg := gt_let (y := tI I_7) (tI_q e_8) hg
    have hR_9 : RI R I_7 := hR.up ra 1 (by decide) (Or.inl rfl) e_8 (i_lo _) (i_hi _)
    have hf_10 : Fm (fun c => (o ≤ c ∧ c < o + 7)) I0 I_7 := hf.set (by first | rfl | omega | (dsimp only; omega)) e_8
    have t_11 : (I_7 o 6).toInt = (I0 o 6).toInt := by rw [← e_8, q_u_ne (by omega)]
    have k_12 : FacOK I_7 o := hq1.put1 e_8 (by have cl := tCl (x := (I0 o 6)) (by omega); omega)
    have x_13 : I_7 (o + 1) ((I0 o 6) : Int32).toNatClampNeg = p1 := by rw [← e_8, q_u_at]
    have g_14 : (0 : Int) ≤ (I_7 o 6).toInt ∧ (I_7 o 6).toInt ≤ 40 := hR_9.at0 ra 6 (by decide)
    replace hg := gt_let (y := (I_7 o 6).toInt) rfl hg
    refine ⟨tIn (by omega) (by omega), fun I_15 e_16 => ?_⟩
    replace hg := gt_let (y := tI I_15) (tI_q e_16) hg
    have hR_17 : RI R I_15 := hR_9.up ra 2 (by decide) (Or.inl rfl) e_16 (i_lo _) (i_hi _)
    have hf_18 : Fm (fun c => (o ≤ c ∧ c < o + 7)) I0 I_15 := hf_10.set (by first | rfl | omega | (dsimp only; omega)) e_16
    have t_19 : (I_15 o 6).toInt = (I_7 o 6).toInt := by rw [← e_16, q_u_ne (by omega)]
    have k_20 : FacOK I_15 o := k_12.put2 e_16 (by have cl := tCl (x := (I_7 o 6)) (by omega); omega)
    have x_21 : I_15 (o + 1) ((I0 o 6) : Int32).toNatClampNeg = p1 := by rw [← e_16, q_u_ne (by omega)]; exact x_13
    have x_22 : I_15 (o + 2) ((I_7 o 6) : Int32).toNatClampNeg = p2 := by rw [← e_16, q_u_at]
    have g_23 : (0 : Int) ≤ (I_15 o 6).toInt ∧ (I_15 o 6).toInt ≤ 40 := hR_17.at0 ra 6 (by decide)
    replace hg := gt_let (y := (I_15 o 6).toInt) rfl hg
    refine ⟨tIn (by omega) (by omega), fun I_24 e_25 => ?_⟩
    replace hg := gt_let (y := tI I_24) (tI_q e_25) hg
    have hR_26 : RI R I_24 := hR_17.up ra 3 (by decide) (Or.inl rfl) e_25 (i_lo _) (i_hi _)
    have hf_27 : Fm (fun c => (o ≤ c ∧ c < o + 7)) I0 I_24 := hf_18.set (by first | rfl | omega | (dsimp only; omega)) e_25
    have t_28 : (I_24 o 6).toInt = (I_15 o 6).toInt := by rw [← e_25, q_u_ne (by omega)]
    have k_29 : FacOK I_24 o := k_20.fr (by rw [← e_25]; exact q_u_ne (by omega)) (by rw [← e_25]; exact q_u_ne (by omega)) (by rw [← e_25]; exact q_u_ne (by omega)) (by rw [← e_25, q_u_ne (by omega)])
    have x_30 : I_24 (o + 1) ((I0 o 6) : Int32).toNatClampNeg = p1 := by rw [← e_25, q_u_ne (by omega)]; exact x_21
    have x_31 : I_24 (o + 2) ((I_7 o 6) : Int32).toNatClampNeg = p2 := by rw [← e_25, q_u_ne (by omega)]; exact x_22
    have g_32 : (0 : Int) ≤ (I_24 o 6).toInt ∧ (I_24 o 6).toInt ≤ 40 := hR_26.at0 ra 6 (by decide)
    replace hg := gt_let (y := (I_24 o 6).toInt) rfl hg
    refine ⟨tIn (by omega) (by omega), fun I_33 e_34 => ?_⟩
    replace hg := gt_let (y := tI I_33) (tI_q e_34) hg
    have hR_35 : RI R I_33 := hR_26.up ra 4 (by decide) (Or.inl rfl) e_34 (i_lo _) (i_hi _)
    have hf_36 : Fm (fun c => (o ≤ c ∧ c < o + 7)) I0 I_33 := hf_27.set (by first | rfl | omega | (dsimp only; omega)) e_34
    have t_37 : (I_33 o 6).toInt = (I_24 o 6).toInt := by rw [← e_34, q_u_ne (by omega)]
    have k_38 : FacOK I_33 o := k_29.put4 e_34 (by have cl := tCl (x := (I_24 o 6)) (by omega); omega)
    have x_39 : I_33 (o + 1) ((I0 o 6) : Int32).toNatClampNeg = p1 := by rw [← e_34, q_u_ne (by omega)]; exact x_30
    have x_40 : I_33 (o + 2) ((I_7 o 6) : Int32).toNatClampNeg = p2 := by rw [← e_34, q_u_ne (by omega)]; exact x_31
    have x_41 : I_33 (o + 4) ((I_24 o 6) : Int32).toNatClampNeg = p4 := by rw [← e_34, q_u_at]
    have g_42 : (0 : Int) ≤ (I_33 o 6).toInt ∧ (I_33 o 6).toInt ≤ 40 := hR_35.at0 ra 6 (by decide)
    replace hg := gt_let (y := (I_33 o 6).toInt) rfl hg
    refine ⟨tIn (by omega) (by omega), fun I_43 e_44 => ?_⟩
    replace hg := gt_let (y := tI I_43) (tI_q e_44) hg
    have hR_45 : RI R I_43 := hR_35.up ra 5 (by decide) (Or.inl rfl) e_44 (i_lo _) (i_hi _)
    have hf_46 : Fm (fun c => (o ≤ c ∧ c < o + 7)) I0 I_43 := hf_36.set (by first | rfl | omega | (dsimp only; omega)) e_44
    have t_47 : (I_43 o 6).toInt = (I_33 o 6).toInt := by rw [← e_44, q_u_ne (by omega)]
    have k_48 : FacOK I_43 o := k_38.fr (by rw [← e_44]; exact q_u_ne (by omega)) (by rw [← e_44]; exact q_u_ne (by omega)) (by rw [← e_44]; exact q_u_ne (by omega)) (by rw [← e_44, q_u_ne (by omega)])
    have x_49 : I_43 (o + 1) ((I0 o 6) : Int32).toNatClampNeg = p1 := by rw [← e_44, q_u_ne (by omega)]; exact x_39
    have x_50 : I_43 (o + 2) ((I_7 o 6) : Int32).toNatClampNeg = p2 := by rw [← e_44, q_u_ne (by omega)]; exact x_40
    have x_51 : I_43 (o + 4) ((I_24 o 6) : Int32).toNatClampNeg = p4 := by rw [← e_44, q_u_ne (by omega)]; exact x_41
    have g_52 : (0 : Int) ≤ (I_43 o 6).toInt ∧ (I_43 o 6).toInt ≤ 40 := hR_45.at0 ra 6 (by decide)
    replace hg := gt_let (y := (I_43 o 6).toInt) rfl hg
    have l_53 : (-1 : Int32).toInt = -1 := rfl
    refine ⟨tIn (by omega) (by omega), fun I_54 e_55 => ?_⟩
    replace hg := gt_let (y := tI I_54) (tI_q e_55) hg
    have hR_56 : RI R I_54 := hR_45.up ra 6 (by decide) (Or.inl rfl) e_55 (i_lo _) (i_hi _)
    have hf_57 : Fm (fun c => (o ≤ c ∧ c < o + 7)) I0 I_54 := hf_46.set (by first | rfl | omega | (dsimp only; omega)) e_55
    have t_58 : (I_54 o 6).toInt = (I_43 o 6).toInt := by rw [← e_55, q_u_ne (by omega)]
    have k_59 : FacOK I_54 o := k_48.fr (by rw [← e_55]; exact q_u_ne (by omega)) (by rw [← e_55]; exact q_u_ne (by omega)) (by rw [← e_55]; exact q_u_ne (by omega)) (by rw [← e_55, q_u_ne (by omega)])
    have x_60 : I_54 (o + 1) ((I0 o 6) : Int32).toNatClampNeg = p1 := by rw [← e_55, q_u_ne (by omega)]; exact x_49
    have x_61 : I_54 (o + 2) ((I_7 o 6) : Int32).toNatClampNeg = p2 := by rw [← e_55, q_u_ne (by omega)]; exact x_50
    have x_62 : I_54 (o + 4) ((I_24 o 6) : Int32).toNatClampNeg = p4 := by rw [← e_55, q_u_ne (by omega)]; exact x_51
    have g_63 : (0 : Int) ≤ (I_54 o 6).toInt ∧ (I_54 o 6).toInt ≤ 40 := hR_56.at0 ra 6 (by decide)
    replace hg := gt_let (y := (I_54 o 6).toInt) rfl hg
    have l_64 : (1 : Int32).toInt = 1 := rfl
    have a_65 : ((I_54 o 6) + 1).toInt = (I_54 o 6).toInt + (1 : Int32).toInt := tAdd (by omega) (by omega)
    replace hg := gt_let (y := (((I_54 o 6) + 1) : Int32).toInt) (by omega) hg
    refine fun I_66 e_67 => ?_
    replace hg := gt_let (y := tI I_66) (tI_q e_67) hg
    have hR_68 : RI R I_66 := hR_56.up0 (k := 6) ra (by decide) (Or.inl rfl) e_67 (show (0 : Int) ≤ ((I_54 o 6) + 1).toInt by omega) (show ((I_54 o 6) + 1).toInt ≤ (40 : Int) by omega)
    have hf_69 : Fm (fun c => (o ≤ c ∧ c < o + 7)) I0 I_66 := hf_57.set (by first | rfl | omega | (dsimp only; omega)) e_67
    have t_70 : (I_66 o 6).toInt = ((I_54 o 6) + 1).toInt := by rw [← e_67, q_u_at]
    have x_72 : I_66 (o + 1) ((I0 o 6) : Int32).toNatClampNeg = p1 := by rw [← e_67, q_u_ne (by omega)]; exact x_60
    have x_73 : I_66 (o + 2) ((I_7 o 6) : Int32).toNatClampNeg = p2 := by rw [← e_67, q_u_ne (by omega)]; exact x_61
    have x_74 : I_66 (o + 4) ((I_24 o 6) : Int32).toNatClampNeg = p4 := by rw [← e_67, q_u_ne (by omega)]; exact x_62
    have g_75 : (0 : Int) ≤ (I_66 o 6).toInt ∧ (I_66 o 6).toInt ≤ 40 := hR_68.at0 ra 6 (by decide)
    replace hg := gt_let (y := (I_66 o 6).toInt) rfl hg
    have a_76 : ((I_66 o 6) - 1).toInt = (I_66 o 6).toInt - (1 : Int32).toInt := tSub (by omega) (by omega)
    replace hg := gt_let (y := (((I_66 o 6) - 1) : Int32).toInt) (by omega) hg
    exact (hp _ _ _ hR_68 hf_69  (FacOK.inc k_59 e_67 (by omega) x_60 x_61 x_62 (by have cl := tCl (x := (I0 o 6)) (by omega); omega) (by have cl := tCl (x := (I_7 o 6)) (by omega); omega) (by have cl := tCl (x := (I_24 o 6)) (by omega); omega) hq0) hg.symm hl)
  · have d_77 := iNlt c_4
    replace hg := gt_neg (by first | exact d_77 | omega) hg
    have l_78 : (-1 : Int32).toInt = -1 := rfl
    exact (hp _ _ _ hR hf  hq1 hg.symm hl)
noncomputable def gOffice_within_0 (J : gJ) (L : gL) (x0 : Int) (x1 : Int) (x2 : Int) : Int := (if x0 < x1 then 0 else (if x2 < x0 then 0 else 1))
theorem eOffice_within_0 {J : gJ} {L : gL} {x0 : Int} {x1 : Int} {x2 : Int} : gOffice_within_0  J L x0 x1 x2 = (if x0 < x1 then 0 else (if x2 < x0 then 0 else 1)) := rfl
set_option maxHeartbeats 4000000 in
set_option maxRecDepth 20000 in
theorem y_Office_withing {D : va_G} {cA : FieldType → ClassId} {b : Nat} {E : State → Prop} {R : qRg} {n : Nat} {sh : Nat → qC} {Rf : Nat → Nat → Option Nat} {I0 : Nat → Nat → Int32} {L0 : Nat → Nat → Int64} {post : Option Value → qS → Prop} {p0 : Int32} {p1 : Int32} {p2 : Int32} (hok : q_ok (qGG D cA b E)) (hR : RI R I0) (hp : ∀ (r : Int32) , (Bz r) → (Im (r.toInt ≠ 0) (p1.toInt ≤ p0.toInt ∧ p0.toInt ≤ p2.toInt)) → (r = aIn p0 p1 p2) → (gOffice_within_0  (tI I0) L0 (p0).toInt (p1).toInt (p2).toInt = r.toInt) → post (some (.int r)) (n, sh, Rf, I0, L0)) : Ev (qGG D cA b E) mOffice_within 0 (0, 0) 0 (lv_args 0 [.int p0, .int p1, .int p2]) [] (n, sh, Rf, I0, L0) post := by
  refine sOffice_within_0 n sh Rf I0 L0 post p0 p1 p2 hok  ?_
  unfold fOffice_within_0
  have hg : gOffice_within_0  (tI I0) L0 (p0).toInt (p1).toInt (p2).toInt = gOffice_within_0  (tI I0) L0 (p0).toInt (p1).toInt (p2).toInt := rfl
  replace hg := (eOffice_within_0).symm.trans hg
  refine ⟨fun c_1 => ?_, fun c_1 => ?_⟩
  · have d_2 := iLt c_1
    replace hg := gt_pos (by first | exact d_2 | omega) hg
    have l_3 : (0 : Int32).toInt = 0 := rfl
    exact (hp _ (Or.inl rfl) (by clear hg; intro _; omega) (by clear hg; simp [aIn, *] <;> (intro h; exact absurd h (Int32.not_lt.mpr (by assumption)))) hg.symm)
  · have d_4 := iNlt c_1
    replace hg := gt_neg (by first | exact d_4 | omega) hg
    refine ⟨fun c_5 => ?_, fun c_5 => ?_⟩
    · have d_6 := iLt c_5
      replace hg := gt_pos (by first | exact d_6 | omega) hg
      have l_7 : (0 : Int32).toInt = 0 := rfl
      exact (hp _ (Or.inl rfl) (by clear hg; intro _; omega) (by clear hg; simp [aIn, *] <;> (intro h; exact absurd h (Int32.not_lt.mpr (by assumption)))) hg.symm)
    · have d_8 := iNlt c_5
      replace hg := gt_neg (by first | exact d_8 | omega) hg
      have l_9 : (1 : Int32).toInt = 1 := rfl
      exact (hp _ (Or.inr rfl) (by clear hg; intro _; omega) (by clear hg; simp [aIn, *] <;> (intro h; exact absurd h (Int32.not_lt.mpr (by assumption)))) hg.symm)
noncomputable def gOffice_ranMonth_0 (o : Nat) (J : gJ) (L : gL) (x1 : Int) : Int := gLet (J (o + 55) 15) (fun (v_1 : Int) => (if v_1 = 0 then 0 else (if x1 < 0 then 0 else gLet (J (o + 55) 16) (fun (v_2 : Int) => (if v_2 ≤ x1 then 0 else 1)))))
theorem eOffice_ranMonth_0 {o : Nat} {J : gJ} {L : gL} {x1 : Int} : gOffice_ranMonth_0 o J L x1 = gLet (J (o + 55) 15) (fun (v_1 : Int) => (if v_1 = 0 then 0 else (if x1 < 0 then 0 else gLet (J (o + 55) 16) (fun (v_2 : Int) => (if v_2 ≤ x1 then 0 else 1))))) := rfl
set_option maxHeartbeats 4000000 in
set_option maxRecDepth 20000 in
theorem y_Office_ranMonthg {D : va_G} {cA : FieldType → ClassId} {b : Nat} {E : State → Prop} {R : qRg} {o n : Nat} {sh : Nat → qC} {Rf : Nat → Nat → Option Nat} {I0 : Nat → Nat → Int32} {L0 : Nat → Nat → Int64} {post : Option Value → qS → Prop} {p1 : Int32} (hok : q_ok (qGG D cA b E)) (hw : WfOffice (qGG D cA b E) n sh Rf o) (ra : RAOffice R o) (hR : RI R I0) (hp : ∀ (r : Int32) , (Bz r) → (Im (r.toInt ≠ 0) (0 ≤ p1.toInt ∧ p1.toInt ≤ 239)) → (gOffice_ranMonth_0 o (tI I0) L0 (p1).toInt = r.toInt) → post (some (.int r)) (n, sh, Rf, I0, L0)) : Ev (qGG D cA b E) mOffice_ranMonth 0 (0, 0) 0 (lv_args 0 [.ref o, .int p1]) [] (n, sh, Rf, I0, L0) post := by
  refine sOffice_ranMonth_0 o n sh Rf I0 L0 post p1 hok hw ?_
  unfold fOffice_ranMonth_0
  have hg : gOffice_ranMonth_0 o (tI I0) L0 (p1).toInt = gOffice_ranMonth_0 o (tI I0) L0 (p1).toInt := rfl
  replace hg := (eOffice_ranMonth_0).symm.trans hg
  replace hg := gt_let (y := (I0 (o + 55) 15).toInt) rfl hg
  have l_1 : (0 : Int32).toInt = 0 := rfl
  refine ⟨fun c_2 => ?_, fun c_2 => ?_⟩
  · have d_3 := iEq c_2
    replace hg := gt_pos (by first | exact d_3 | omega) hg
    exact (hp _ (Or.inl rfl) (by clear hg; intro _; omega) hg.symm)
  · have d_4 := iNe c_2
    replace hg := gt_neg (by first | exact d_4 | omega) hg
    refine ⟨fun c_5 => ?_, fun c_5 => ?_⟩
    · have d_6 := iLt c_5
      replace hg := gt_pos (by first | exact d_6 | omega) hg
      exact (hp _ (Or.inl rfl) (by clear hg; intro _; omega) hg.symm)
    · have d_7 := iNlt c_5
      replace hg := gt_neg (by first | exact d_7 | omega) hg
      have g_8 : (0 : Int) ≤ (I0 (o + 55) 16).toInt ∧ (I0 (o + 55) 16).toInt ≤ 240 := hR.at0 (rsOffice_8 ra) 16 (by decide)
      replace hg := gt_let (y := (I0 (o + 55) 16).toInt) rfl hg
      refine ⟨fun c_9 => ?_, fun c_9 => ?_⟩
      · have d_10 := iLe c_9
        replace hg := gt_pos (by first | exact d_10 | omega) hg
        exact (hp _ (Or.inl rfl) (by clear hg; intro _; omega) hg.symm)
      · have d_11 := iNle c_9
        replace hg := gt_neg (by first | exact d_11 | omega) hg
        have l_12 : (1 : Int32).toInt = 1 := rfl
        exact (hp _ (Or.inr rfl) (by clear hg; intro _; omega) hg.symm)
set_option maxHeartbeats 4000000 in
set_option maxRecDepth 20000 in
theorem y_Long_compare_74951l {D : va_G} {cA : FieldType → ClassId} {b : Nat} {E : State → Prop} {R : qRg} {n : Nat} {sh : Nat → qC} {Rf : Nat → Nat → Option Nat} {I0 : Nat → Nat → Int32} {L0 : Nat → Nat → Int64} {post : Option Value → qS → Prop} {p0 : Int64} {p2 : Int64} (hok : q_ok (qGG D cA b E)) (hR : RI R I0) (hp : ∀ (r : Int32) , post (some (.int r)) (n, sh, Rf, I0, L0)) : Ev (qGG D cA b E) mLong_compare_74951 0 (0, 0) 0 (lv_args 0 [.long p0, .long p2]) [] (n, sh, Rf, I0, L0) post := by
  refine sLong_compare_74951_0 n sh Rf I0 L0 post p0 p2 hok  ?_
  unfold fLong_compare_74951_0
  have l_1 : (0 : Int32).toInt = 0 := rfl
  refine ⟨fun c_2 => ?_, fun c_2 => ?_⟩
  · have d_3 := iLe c_2
    refine ⟨fun c_4 => ?_, fun c_4 => ?_⟩
    · have d_5 := iNe c_4
      have l_6 : (1 : Int32).toInt = 1 := rfl
      exact (hp _ )
    · have d_7 := iEq c_4
      exact (hp _ )
  · have d_8 := iNle c_2
    have l_9 : (-1 : Int32).toInt = -1 := rfl
    exact (hp _ )
set_option maxHeartbeats 4000000 in
set_option maxRecDepth 20000 in
theorem y_Office_compareWaitsl {D : va_G} {cA : FieldType → ClassId} {b : Nat} {E : State → Prop} {R : qRg} {n : Nat} {sh : Nat → qC} {Rf : Nat → Nat → Option Nat} {I0 : Nat → Nat → Int32} {L0 : Nat → Nat → Int64} {post : Option Value → qS → Prop} {p0 : Int64} {p2 : Int64} {p4 : Int64} {p6 : Int64} (hok : q_ok (qGG D cA b E)) (hR : RI R I0) (hp : ∀ (r : Int32) , post (some (.int r)) (n, sh, Rf, I0, L0)) : Ev (qGG D cA b E) mOffice_compareWaits 1 (0, 0) 0 (lv_args 0 [.long p0, .long p2, .long p4, .long p6]) [] (n, sh, Rf, I0, L0) post := by
  refine sOffice_compareWaits_0 n sh Rf I0 L0 post p0 p2 p4 p6 hok  ?_
  unfold fOffice_compareWaits_0
  have l_1 : (0 : Int32).toInt = 0 := rfl
  refine ⟨fun c_2 => ?_, fun c_2 => ?_⟩
  · have d_3 := iEq c_2
    unfold fOffice_compareWaits_13
    refine ⟨fun c_4 => ?_, fun c_4 => ?_⟩
    · have d_5 := iNe c_4
      unfold fOffice_compareWaits_25
      refine ⟨fun c_6 => ?_, fun c_6 => ?_⟩
      · have d_7 := iNe c_6
        exfalso; omega
      · have d_8 := iEq c_6
        have l_9 : (1 : Int32).toInt = 1 := rfl
        refine y_Long_compare_74951l hok hR (fun r_10  => ⟨r_10, I0, L0, rfl, rfl, ?_⟩)
        exact (hp _ )
    · have d_11 := iEq c_4
      unfold fOffice_compareWaits_25
      refine ⟨fun c_12 => ?_, fun c_12 => ?_⟩
      · have d_13 := iNe c_12
        exfalso; omega
      · have d_14 := iEq c_12
        refine y_Long_compare_74951l hok hR (fun r_15  => ⟨r_15, I0, L0, rfl, rfl, ?_⟩)
        exact (hp _ )
  · have d_16 := iNe c_2
    refine ⟨fun c_17 => ?_, fun c_17 => ?_⟩
    · have d_18 := iNe c_17
      refine y_Long_compare_74951l hok hR (fun r_19  => ⟨r_19, I0, L0, rfl, rfl, ?_⟩)
      exact (hp _ )
    · have d_20 := iEq c_17
      unfold fOffice_compareWaits_13
      refine ⟨fun c_21 => ?_, fun c_21 => ?_⟩
      · have d_22 := iNe c_21
        exfalso; omega
      · have d_23 := iEq c_21
        unfold fOffice_compareWaits_25
        refine ⟨fun c_24 => ?_, fun c_24 => ?_⟩
        · have d_25 := iNe c_24
          have l_26 : (1 : Int32).toInt = 1 := rfl
          refine y_Long_compare_74951l hok hR (fun r_27  => ⟨r_27, I0, L0, rfl, rfl, ?_⟩)
          exact (hp _ )
        · have d_28 := iEq c_24
          refine y_Long_compare_74951l hok hR (fun r_29  => ⟨r_29, I0, L0, rfl, rfl, ?_⟩)
          exact (hp _ )
noncomputable def gOffice_feed_0 (o : Nat) (J : gJ) (L : gL) (x1 : Int) (x2 : Int) (x3 : Int) (x4 : Int) (x5 : Int) : Int × gJ × gL := gLet (J (o + 1) 6) (fun (v_1 : Int) => gLet (v_1 + 20) (fun (v_2 : Int) => (if v_2 ≤ 1600 then gB3 (gTape_append_0 (o + 1) J L x1) (fun r_3 J_4 L_5 => gB3 (gTape_append_0 (o + 1) J_4 L_5 x2) (fun r_6 J_7 L_8 => gB3 (gTape_append_0 (o + 1) J_7 L_8 x3) (fun r_9 J_10 L_11 => gB3 (gTape_append_0 (o + 1) J_10 L_11 x4) (fun r_12 J_13 L_14 => gB3 (gTape_append_0 (o + 1) J_13 L_14 x5) (fun r_15 J_16 L_17 => gLet (J_16 (o + 1) 6) (fun (v_18 : Int) => (v_18, J_16, L_17))))))) else ((-1), J, L))))
theorem eOffice_feed_0 {o : Nat} {J : gJ} {L : gL} {x1 : Int} {x2 : Int} {x3 : Int} {x4 : Int} {x5 : Int} : gOffice_feed_0 o J L x1 x2 x3 x4 x5 = gLet (J (o + 1) 6) (fun (v_1 : Int) => gLet (v_1 + 20) (fun (v_2 : Int) => (if v_2 ≤ 1600 then gB3 (gTape_append_0 (o + 1) J L x1) (fun r_3 J_4 L_5 => gB3 (gTape_append_0 (o + 1) J_4 L_5 x2) (fun r_6 J_7 L_8 => gB3 (gTape_append_0 (o + 1) J_7 L_8 x3) (fun r_9 J_10 L_11 => gB3 (gTape_append_0 (o + 1) J_10 L_11 x4) (fun r_12 J_13 L_14 => gB3 (gTape_append_0 (o + 1) J_13 L_14 x5) (fun r_15 J_16 L_17 => gLet (J_16 (o + 1) 6) (fun (v_18 : Int) => (v_18, J_16, L_17))))))) else ((-1), J, L)))) := rfl
set_option maxHeartbeats 4000000 in
set_option maxRecDepth 20000 in
theorem y_Office_feedg {D : va_G} {cA : FieldType → ClassId} {b : Nat} {E : State → Prop} {R : qRg} {o n : Nat} {sh : Nat → qC} {Rf : Nat → Nat → Option Nat} {I0 : Nat → Nat → Int32} {L0 : Nat → Nat → Int64} {post : Option Value → qS → Prop} {p1 : Int32} {p2 : Int32} {p3 : Int32} {p4 : Int32} {p5 : Int32} (hok : q_ok (qGG D cA b E)) (hw : WfOffice (qGG D cA b E) n sh Rf o) (ra : RAOffice R o) (hz3 : R.2 3 = true) (hR : RI R I0) (hp : ∀ (r : Int32) (I' : Nat → Nat → Int32) (L' : Nat → Nat → Int64), RI R I' → Fm (fun c => c = o + 1 ∨ c = o + 2) I0 I' → (gOffice_feed_0 o (tI I0) L0 (p1).toInt (p2).toInt (p3).toInt (p4).toInt (p5).toInt = (r.toInt, tI I', L')) → (FmL (fun c => False) L0 L') → post (some (.int r)) (n, sh, Rf, I', L')) : Ev (qGG D cA b E) mOffice_feed 1 (0, 0) 0 (lv_args 0 [.ref o, .int p1, .int p2, .int p3, .int p4, .int p5]) [] (n, sh, Rf, I0, L0) post := by
  have hf : Fm (fun c => c = o + 1 ∨ c = o + 2) I0 I0 := Fm.rf
  refine sOffice_feed_0 o n sh Rf I0 L0 post p1 p2 p3 p4 p5 hok hw ?_
  unfold fOffice_feed_0
  have hl : FmL (fun c => False) L0 L0 := FmL.rf
  have hg : gOffice_feed_0 o (tI I0) L0 (p1).toInt (p2).toInt (p3).toInt (p4).toInt (p5).toInt = gOffice_feed_0 o (tI I0) L0 (p1).toInt (p2).toInt (p3).toInt (p4).toInt (p5).toInt := rfl
  replace hg := (eOffice_feed_0).symm.trans hg
  have g_1 : (0 : Int) ≤ (I0 (o + 1) 6).toInt ∧ (I0 (o + 1) 6).toInt ≤ 1600 := hR.at0 (rsOffice_0 ra) 6 (by decide)
  replace hg := gt_let (y := (I0 (o + 1) 6).toInt) rfl hg
  have l_2 : (20 : Int32).toInt = 20 := rfl
  have a_3 : ((I0 (o + 1) 6) + 20).toInt = (I0 (o + 1) 6).toInt + (20 : Int32).toInt := tAdd (by omega) (by omega)
  replace hg := gt_let (y := (((I0 (o + 1) 6) + 20) : Int32).toInt) (by omega) hg
  have l_4 : (1600 : Int32).toInt = 1600 := rfl
  refine ⟨fun c_5 => ?_, fun c_5 => ?_⟩
  · have d_6 := iLe c_5
    replace hg := gt_pos (by first | exact d_6 | omega) hg
    refine y_Tape_appendg hok (wsOffice_0 hw) (rsOffice_0 ra) hz3 hR (fun I_10 L_11 hR_12 fr_13 gn_8 ln_9 => ⟨I_10, L_11, rfl, rfl, ?_⟩)
    replace hl := hl.call ln_9 (fun c hc => by first | exact hc | exact False.elim hc | (dsimp only at hc ⊢; omega) | omega)
    replace hg := gt_b3 gn_8 hg
    clear gn_8
    have hf_14 : Fm (fun c => c = o + 1 ∨ c = o + 2) I0 I_10 := hf.call fr_13 (fun c hc => by first | exact hc | (dsimp only at hc ⊢; omega) | omega)
    have g_15 : (0 : Int) ≤ (I_10 (o + 1) 6).toInt ∧ (I_10 (o + 1) 6).toInt ≤ 1600 := hR_12.at0 (rsOffice_0 ra) 6 (by decide)
    refine y_Tape_appendg hok (wsOffice_0 hw) (rsOffice_0 ra) hz3 hR_12 (fun I_19 L_20 hR_21 fr_22 gn_17 ln_18 => ⟨I_19, L_20, rfl, rfl, ?_⟩)
    replace hl := hl.call ln_18 (fun c hc => by first | exact hc | exact False.elim hc | (dsimp only at hc ⊢; omega) | omega)
    replace hg := gt_b3 gn_17 hg
    clear gn_17
    have hf_23 : Fm (fun c => c = o + 1 ∨ c = o + 2) I0 I_19 := hf_14.call fr_22 (fun c hc => by first | exact hc | (dsimp only at hc ⊢; omega) | omega)
    have g_24 : (0 : Int) ≤ (I_19 (o + 1) 6).toInt ∧ (I_19 (o + 1) 6).toInt ≤ 1600 := hR_21.at0 (rsOffice_0 ra) 6 (by decide)
    refine y_Tape_appendg hok (wsOffice_0 hw) (rsOffice_0 ra) hz3 hR_21 (fun I_28 L_29 hR_30 fr_31 gn_26 ln_27 => ⟨I_28, L_29, rfl, rfl, ?_⟩)
    replace hl := hl.call ln_27 (fun c hc => by first | exact hc | exact False.elim hc | (dsimp only at hc ⊢; omega) | omega)
    replace hg := gt_b3 gn_26 hg
    clear gn_26
    have hf_32 : Fm (fun c => c = o + 1 ∨ c = o + 2) I0 I_28 := hf_23.call fr_31 (fun c hc => by first | exact hc | (dsimp only at hc ⊢; omega) | omega)
    have g_33 : (0 : Int) ≤ (I_28 (o + 1) 6).toInt ∧ (I_28 (o + 1) 6).toInt ≤ 1600 := hR_30.at0 (rsOffice_0 ra) 6 (by decide)
    refine y_Tape_appendg hok (wsOffice_0 hw) (rsOffice_0 ra) hz3 hR_30 (fun I_37 L_38 hR_39 fr_40 gn_35 ln_36 => ⟨I_37, L_38, rfl, rfl, ?_⟩)
    replace hl := hl.call ln_36 (fun c hc => by first | exact hc | exact False.elim hc | (dsimp only at hc ⊢; omega) | omega)
    replace hg := gt_b3 gn_35 hg
    clear gn_35
    have hf_41 : Fm (fun c => c = o + 1 ∨ c = o + 2) I0 I_37 := hf_32.call fr_40 (fun c hc => by first | exact hc | (dsimp only at hc ⊢; omega) | omega)
    have g_42 : (0 : Int) ≤ (I_37 (o + 1) 6).toInt ∧ (I_37 (o + 1) 6).toInt ≤ 1600 := hR_39.at0 (rsOffice_0 ra) 6 (by decide)
    refine y_Tape_appendg hok (wsOffice_0 hw) (rsOffice_0 ra) hz3 hR_39 (fun I_46 L_47 hR_48 fr_49 gn_44 ln_45 => ⟨I_46, L_47, rfl, rfl, ?_⟩)
    replace hl := hl.call ln_45 (fun c hc => by first | exact hc | exact False.elim hc | (dsimp only at hc ⊢; omega) | omega)
    replace hg := gt_b3 gn_44 hg
    clear gn_44
    have hf_50 : Fm (fun c => c = o + 1 ∨ c = o + 2) I0 I_46 := hf_41.call fr_49 (fun c hc => by first | exact hc | (dsimp only at hc ⊢; omega) | omega)
    have g_51 : (0 : Int) ≤ (I_46 (o + 1) 6).toInt ∧ (I_46 (o + 1) 6).toInt ≤ 1600 := hR_48.at0 (rsOffice_0 ra) 6 (by decide)
    have g_52 : (0 : Int) ≤ (I_46 (o + 1) 6).toInt ∧ (I_46 (o + 1) 6).toInt ≤ 1600 := hR_48.at0 (rsOffice_0 ra) 6 (by decide)
    replace hg := gt_let (y := (I_46 (o + 1) 6).toInt) rfl hg
    exact (hp _ _ _ hR_48 hf_50  hg.symm hl)
  · have d_53 := iNle c_5
    replace hg := gt_neg (by first | exact d_53 | omega) hg
    have l_54 : (-1 : Int32).toInt = -1 := rfl
    exact (hp _ _ _ hR hf  hg.symm hl)
noncomputable def gOffice_end_0 (o : Nat) (J : gJ) (L : gL) (x1 : Int) : Int × gJ × gL := (if x1 < 0 then ((-1), J, L) else gLet (J (o + 1) 6) (fun (v_1 : Int) => (if x1 ≤ v_1 then gLet (q_u J (o + 1) 6 x1) (fun (J_2 : gJ) => (x1, J_2, L)) else ((-1), J, L))))
theorem eOffice_end_0 {o : Nat} {J : gJ} {L : gL} {x1 : Int} : gOffice_end_0 o J L x1 = (if x1 < 0 then ((-1), J, L) else gLet (J (o + 1) 6) (fun (v_1 : Int) => (if x1 ≤ v_1 then gLet (q_u J (o + 1) 6 x1) (fun (J_2 : gJ) => (x1, J_2, L)) else ((-1), J, L)))) := rfl
set_option maxHeartbeats 4000000 in
set_option maxRecDepth 20000 in
theorem y_Office_endg {D : va_G} {cA : FieldType → ClassId} {b : Nat} {E : State → Prop} {R : qRg} {o n : Nat} {sh : Nat → qC} {Rf : Nat → Nat → Option Nat} {I0 : Nat → Nat → Int32} {L0 : Nat → Nat → Int64} {post : Option Value → qS → Prop} {p1 : Int32} (hok : q_ok (qGG D cA b E)) (hw : WfOffice (qGG D cA b E) n sh Rf o) (ra : RAOffice R o) (hz3 : R.2 3 = true) (hR : RI R I0) (hp : ∀ (r : Int32) (I' : Nat → Nat → Int32) (L' : Nat → Nat → Int64), RI R I' → Fm (fun c => c = o + 1) I0 I' → (gOffice_end_0 o (tI I0) L0 (p1).toInt = (r.toInt, tI I', L')) → (FmL (fun c => False) L0 L') → post (some (.int r)) (n, sh, Rf, I', L')) : Ev (qGG D cA b E) mOffice_end 0 (0, 0) 0 (lv_args 0 [.ref o, .int p1]) [] (n, sh, Rf, I0, L0) post := by
  have hf : Fm (fun c => c = o + 1) I0 I0 := Fm.rf
  refine sOffice_end_0 o n sh Rf I0 L0 post p1 hok hw ?_
  unfold fOffice_end_0
  have hl : FmL (fun c => False) L0 L0 := FmL.rf
  have hg : gOffice_end_0 o (tI I0) L0 (p1).toInt = gOffice_end_0 o (tI I0) L0 (p1).toInt := rfl
  replace hg := (eOffice_end_0).symm.trans hg
  have l_1 : (0 : Int32).toInt = 0 := rfl
  refine ⟨fun c_2 => ?_, fun c_2 => ?_⟩
  · have d_3 := iLt c_2
    replace hg := gt_pos (by first | exact d_3 | omega) hg
    have l_4 : (-1 : Int32).toInt = -1 := rfl
    exact (hp _ _ _ hR hf  hg.symm hl)
  · have d_5 := iNlt c_2
    replace hg := gt_neg (by first | exact d_5 | omega) hg
    have g_6 : (0 : Int) ≤ (I0 (o + 1) 6).toInt ∧ (I0 (o + 1) 6).toInt ≤ 1600 := hR.at0 (rsOffice_0 ra) 6 (by decide)
    replace hg := gt_let (y := (I0 (o + 1) 6).toInt) rfl hg
    refine ⟨fun c_7 => ?_, fun c_7 => ?_⟩
    · have d_8 := iLe c_7
      replace hg := gt_pos (by first | exact d_8 | omega) hg
      refine fun I_9 e_10 => ?_
      replace hg := gt_let (y := tI I_9) (tI_q e_10) hg
      have hR_11 : RI R I_9 := hR.up0 (k := 6) (rsOffice_0 ra) (by decide) (Or.inr hz3) e_10 (show (0 : Int) ≤ p1.toInt by omega) (show p1.toInt ≤ (1600 : Int) by omega)
      have hf_12 : Fm (fun c => c = o + 1) I0 I_9 := hf.set (by first | rfl | omega | (dsimp only; omega)) e_10
      have t_13 : (I_9 (o + 1) 6).toInt = p1.toInt := by rw [← e_10, q_u_at]
      exact (hp _ _ _ hR_11 hf_12  hg.symm hl)
    · have d_14 := iNle c_7
      replace hg := gt_neg (by first | exact d_14 | omega) hg
      have l_15 : (-1 : Int32).toInt = -1 := rfl
      exact (hp _ _ _ hR hf  hg.symm hl)
noncomputable def gOffice_fault_0 (o : Nat) (J : gJ) (L : gL) (x1 : Int) : Int := (if x1 = 0 then gLet (J (o + 1) 7) (fun (v_2 : Int) => v_2) else (if x1 = 1 then gLet (J (o + 1) 8) (fun (v_1 : Int) => v_1) else (-1)))
theorem eOffice_fault_0 {o : Nat} {J : gJ} {L : gL} {x1 : Int} : gOffice_fault_0 o J L x1 = (if x1 = 0 then gLet (J (o + 1) 7) (fun (v_2 : Int) => v_2) else (if x1 = 1 then gLet (J (o + 1) 8) (fun (v_1 : Int) => v_1) else (-1))) := rfl
set_option maxHeartbeats 4000000 in
set_option maxRecDepth 20000 in
theorem y_Office_faultg {D : va_G} {cA : FieldType → ClassId} {b : Nat} {E : State → Prop} {R : qRg} {o n : Nat} {sh : Nat → qC} {Rf : Nat → Nat → Option Nat} {I0 : Nat → Nat → Int32} {L0 : Nat → Nat → Int64} {post : Option Value → qS → Prop} {p1 : Int32} (hok : q_ok (qGG D cA b E)) (hw : WfOffice (qGG D cA b E) n sh Rf o) (ra : RAOffice R o) (hR : RI R I0) (hp : ∀ (r : Int32) , (gOffice_fault_0 o (tI I0) L0 (p1).toInt = r.toInt) → post (some (.int r)) (n, sh, Rf, I0, L0)) : Ev (qGG D cA b E) mOffice_fault 0 (0, 0) 0 (lv_args 0 [.ref o, .int p1]) [] (n, sh, Rf, I0, L0) post := by
  refine sOffice_fault_0 o n sh Rf I0 L0 post p1 hok hw ?_
  unfold fOffice_fault_0
  have hg : gOffice_fault_0 o (tI I0) L0 (p1).toInt = gOffice_fault_0 o (tI I0) L0 (p1).toInt := rfl
  replace hg := (eOffice_fault_0).symm.trans hg
  have l_1 : (0 : Int32).toInt = 0 := rfl
  refine ⟨fun c_2 => ?_, fun c_2 => ?_⟩
  · have d_3 := iNe c_2
    replace hg := gt_neg (by first | exact d_3 | omega) hg
    have l_4 : (1 : Int32).toInt = 1 := rfl
    refine ⟨fun c_5 => ?_, fun c_5 => ?_⟩
    · have d_6 := iNe c_5
      replace hg := gt_neg (by first | exact d_6 | omega) hg
      have l_7 : (-1 : Int32).toInt = -1 := rfl
      exact (hp _  hg.symm)
    · have d_8 := iEq c_5
      replace hg := gt_pos (by first | exact d_8 | omega) hg
      replace hg := gt_let (y := (I0 (o + 1) 8).toInt) rfl hg
      exact (hp _  hg.symm)
  · have d_9 := iEq c_2
    replace hg := gt_pos (by first | exact d_9 | omega) hg
    have g_10 : (0 : Int) ≤ (I0 (o + 1) 7).toInt ∧ (I0 (o + 1) 7).toInt ≤ 5 := hR.at0 (rsOffice_0 ra) 7 (by decide)
    replace hg := gt_let (y := (I0 (o + 1) 7).toInt) rfl hg
    exact (hp _  hg.symm)
noncomputable def gOffice_days_0 (o uo_1 : Nat) (J : gJ) (L : gL) (x1 : Int) (x2 : Int) : Int := gLet (gLand_daysBetween_0 uo_1 J L x1 x2) (fun (r_1 : Int) => r_1)
theorem eOffice_days_0 {o uo_1 : Nat} {J : gJ} {L : gL} {x1 : Int} {x2 : Int} : gOffice_days_0 o uo_1 J L x1 x2 = gLet (gLand_daysBetween_0 uo_1 J L x1 x2) (fun (r_1 : Int) => r_1) := rfl
set_option maxHeartbeats 4000000 in
set_option maxRecDepth 20000 in
theorem y_Office_daysg {D : va_G} {cA : FieldType → ClassId} {b : Nat} {E : State → Prop} {R : qRg} {o n : Nat} {sh : Nat → qC} {Rf : Nat → Nat → Option Nat} {I0 : Nat → Nat → Int32} {L0 : Nat → Nat → Int64} {post : Option Value → qS → Prop} {uo_1 : Nat} {p1 : Int32} {p2 : Int32} (hok : q_ok (qGG D cA b E)) (hw : WfOffice (qGG D cA b E) n sh Rf o) (ra : RAOffice R o) (hwuo_1 : WfLand (qGG D cA b E) n sh Rf uo_1) (rauo_1 : RALand R uo_1) (huo_1 : Rf o 1 = some uo_1) (hR : RI R I0) (hp : ∀ (r : Int32) , (gOffice_days_0 o uo_1 (tI I0) L0 (p1).toInt (p2).toInt = r.toInt) → post (some (.int r)) (n, sh, Rf, I0, L0)) : Ev (qGG D cA b E) mOffice_days 1 (0, 0) 0 (lv_args 0 [.ref o, .int p1, .int p2]) [] (n, sh, Rf, I0, L0) post := by
  refine sOffice_days_0 o n sh Rf I0 L0 post p1 p2 uo_1 hok hw huo_1 hwuo_1 ?_
  unfold fOffice_days_0
  have hg : gOffice_days_0 o uo_1 (tI I0) L0 (p1).toInt (p2).toInt = gOffice_days_0 o uo_1 (tI I0) L0 (p1).toInt (p2).toInt := rfl
  replace hg := (eOffice_days_0).symm.trans hg
  refine y_Land_daysBetweeng hok hwuo_1 rauo_1 hR (fun r_1 gn_2 => ⟨r_1, I0, L0, rfl, rfl, ?_⟩)
  replace hg := gt_let gn_2 hg
  clear gn_2
  exact (hp _  hg.symm)
noncomputable def gOffice_merchant_0 (o : Nat) (J : gJ) (L : gL) (x1 : Int) : Int × gJ × gL := (if x1 < 0 then ((-1), J, L) else (if 30000 < x1 then ((-1), J, L) else gLet (J (o + 46) 1) (fun (v_1 : Int) => (if v_1 < 6 then gLet (q_u J (o + 55) 15 0) (fun (J_2 : gJ) => gLet (J_2 (o + 46) 1) (fun (v_3 : Int) => gLet (q_u J_2 ((o + 46) + 1) (Int.toNat v_3) x1) (fun (J_4 : gJ) => gLet (J_4 (o + 46) 1) (fun (v_5 : Int) => gLet (v_5 + 1) (fun (v_6 : Int) => gLet (q_u J_4 (o + 46) 1 v_6) (fun (J_7 : gJ) => gLet (J_7 (o + 46) 1) (fun (v_8 : Int) => gLet (v_8 - 1) (fun (v_9 : Int) => (v_9, J_7, L))))))))) else ((-1), J, L)))))
theorem eOffice_merchant_0 {o : Nat} {J : gJ} {L : gL} {x1 : Int} : gOffice_merchant_0 o J L x1 = (if x1 < 0 then ((-1), J, L) else (if 30000 < x1 then ((-1), J, L) else gLet (J (o + 46) 1) (fun (v_1 : Int) => (if v_1 < 6 then gLet (q_u J (o + 55) 15 0) (fun (J_2 : gJ) => gLet (J_2 (o + 46) 1) (fun (v_3 : Int) => gLet (q_u J_2 ((o + 46) + 1) (Int.toNat v_3) x1) (fun (J_4 : gJ) => gLet (J_4 (o + 46) 1) (fun (v_5 : Int) => gLet (v_5 + 1) (fun (v_6 : Int) => gLet (q_u J_4 (o + 46) 1 v_6) (fun (J_7 : gJ) => gLet (J_7 (o + 46) 1) (fun (v_8 : Int) => gLet (v_8 - 1) (fun (v_9 : Int) => (v_9, J_7, L))))))))) else ((-1), J, L))))) := rfl
set_option maxHeartbeats 4000000 in
set_option maxRecDepth 20000 in
theorem y_Office_merchantg {D : va_G} {cA : FieldType → ClassId} {b : Nat} {E : State → Prop} {R : qRg} {o n : Nat} {sh : Nat → qC} {Rf : Nat → Nat → Option Nat} {I0 : Nat → Nat → Int32} {L0 : Nat → Nat → Int64} {post : Option Value → qS → Prop} {p1 : Int32} (hok : q_ok (qGG D cA b E)) (hw : WfOffice (qGG D cA b E) n sh Rf o) (ra : RAOffice R o) (hz2 : R.2 2 = true) (hR : RI R I0) (hp : ∀ (r : Int32) (I' : Nat → Nat → Int32) (L' : Nat → Nat → Int64), RI R I' → Fm (fun c => c = o + 46 ∨ c = o + 47 ∨ c = o + 55) I0 I' → (gOffice_merchant_0 o (tI I0) L0 (p1).toInt = (r.toInt, tI I', L')) → (FmL (fun c => False) L0 L') → post (some (.int r)) (n, sh, Rf, I', L')) : Ev (qGG D cA b E) mOffice_merchant 0 (0, 0) 0 (lv_args 0 [.ref o, .int p1]) [] (n, sh, Rf, I0, L0) post := by
  have hf : Fm (fun c => c = o + 46 ∨ c = o + 47 ∨ c = o + 55) I0 I0 := Fm.rf
  refine sOffice_merchant_0 o n sh Rf I0 L0 post p1 hok hw ?_
  unfold fOffice_merchant_0
  have hl : FmL (fun c => False) L0 L0 := FmL.rf
  have hg : gOffice_merchant_0 o (tI I0) L0 (p1).toInt = gOffice_merchant_0 o (tI I0) L0 (p1).toInt := rfl
  replace hg := (eOffice_merchant_0).symm.trans hg
  have l_1 : (0 : Int32).toInt = 0 := rfl
  refine ⟨fun c_2 => ?_, fun c_2 => ?_⟩
  · have d_3 := iLt c_2
    replace hg := gt_pos (by first | exact d_3 | omega) hg
    have l_4 : (-1 : Int32).toInt = -1 := rfl
    exact (hp _ _ _ hR hf  hg.symm hl)
  · have d_5 := iNlt c_2
    replace hg := gt_neg (by first | exact d_5 | omega) hg
    have l_6 : (30000 : Int32).toInt = 30000 := rfl
    refine ⟨fun c_7 => ?_, fun c_7 => ?_⟩
    · have d_8 := iLt c_7
      replace hg := gt_pos (by first | exact d_8 | omega) hg
      have l_9 : (-1 : Int32).toInt = -1 := rfl
      exact (hp _ _ _ hR hf  hg.symm hl)
    · have d_10 := iNlt c_7
      replace hg := gt_neg (by first | exact d_10 | omega) hg
      have g_11 : (0 : Int) ≤ (I0 (o + 46) 1).toInt ∧ (I0 (o + 46) 1).toInt ≤ 6 := hR.at0 (rsOffice_5 ra) 1 (by decide)
      replace hg := gt_let (y := (I0 (o + 46) 1).toInt) rfl hg
      have l_12 : (6 : Int32).toInt = 6 := rfl
      refine ⟨fun c_13 => ?_, fun c_13 => ?_⟩
      · have d_14 := iLt c_13
        replace hg := gt_pos (by first | exact d_14 | omega) hg
        refine fun I_15 e_16 => ?_
        replace hg := gt_let (y := tI I_15) (tI_q e_16) hg
        have hR_17 : RI R I_15 := hR.up0 (k := 15) (rsOffice_8 ra) (by decide) (Or.inl rfl) e_16 (i_lo _) (i_hi _)
        have hf_18 : Fm (fun c => c = o + 46 ∨ c = o + 47 ∨ c = o + 55) I0 I_15 := hf.set (by first | rfl | omega | (dsimp only; omega)) e_16
        have t_19 : (I_15 (o + 46) 1).toInt = (I0 (o + 46) 1).toInt := by rw [← e_16, q_u_ne (by omega)]
        have g_20 : (0 : Int) ≤ (I_15 (o + 46) 1).toInt ∧ (I_15 (o + 46) 1).toInt ≤ 6 := hR_17.at0 (rsOffice_5 ra) 1 (by decide)
        replace hg := gt_let (y := (I_15 (o + 46) 1).toInt) rfl hg
        refine ⟨tIn (by omega) (by omega), fun I_21 e_22 => ?_⟩
        replace hg := gt_let (y := tI I_21) (tI_q e_22) hg
        have hR_23 : RI R I_21 := hR_17.up (rsOffice_5 ra) 1 (by decide) (Or.inl rfl) e_22 (i_lo _) (i_hi _)
        have hf_24 : Fm (fun c => c = o + 46 ∨ c = o + 47 ∨ c = o + 55) I0 I_21 := hf_18.set (by first | rfl | omega | (dsimp only; omega)) e_22
        have t_25 : (I_21 (o + 46) 1).toInt = (I_15 (o + 46) 1).toInt := by rw [← e_22, q_u_ne (by omega)]
        have g_26 : (0 : Int) ≤ (I_21 (o + 46) 1).toInt ∧ (I_21 (o + 46) 1).toInt ≤ 6 := hR_23.at0 (rsOffice_5 ra) 1 (by decide)
        replace hg := gt_let (y := (I_21 (o + 46) 1).toInt) rfl hg
        have l_27 : (1 : Int32).toInt = 1 := rfl
        have a_28 : ((I_21 (o + 46) 1) + 1).toInt = (I_21 (o + 46) 1).toInt + (1 : Int32).toInt := tAdd (by omega) (by omega)
        replace hg := gt_let (y := (((I_21 (o + 46) 1) + 1) : Int32).toInt) (by omega) hg
        refine fun I_29 e_30 => ?_
        replace hg := gt_let (y := tI I_29) (tI_q e_30) hg
        have hR_31 : RI R I_29 := hR_23.up0 (k := 1) (rsOffice_5 ra) (by decide) (Or.inr hz2) e_30 (show (0 : Int) ≤ ((I_21 (o + 46) 1) + 1).toInt by omega) (show ((I_21 (o + 46) 1) + 1).toInt ≤ (6 : Int) by omega)
        have hf_32 : Fm (fun c => c = o + 46 ∨ c = o + 47 ∨ c = o + 55) I0 I_29 := hf_24.set (by first | rfl | omega | (dsimp only; omega)) e_30
        have t_33 : (I_29 (o + 46) 1).toInt = ((I_21 (o + 46) 1) + 1).toInt := by rw [← e_30, q_u_at]
        have g_34 : (0 : Int) ≤ (I_29 (o + 46) 1).toInt ∧ (I_29 (o + 46) 1).toInt ≤ 6 := hR_31.at0 (rsOffice_5 ra) 1 (by decide)
        replace hg := gt_let (y := (I_29 (o + 46) 1).toInt) rfl hg
        have a_35 : ((I_29 (o + 46) 1) - 1).toInt = (I_29 (o + 46) 1).toInt - (1 : Int32).toInt := tSub (by omega) (by omega)
        replace hg := gt_let (y := (((I_29 (o + 46) 1) - 1) : Int32).toInt) (by omega) hg
        exact (hp _ _ _ hR_31 hf_32  hg.symm hl)
      · have d_36 := iNlt c_13
        replace hg := gt_neg (by first | exact d_36 | omega) hg
        have l_37 : (-1 : Int32).toInt = -1 := rfl
        exact (hp _ _ _ hR hf  hg.symm hl)
noncomputable def gOffice_costs_35 (o : Nat) (J : gJ) (L : gL) (x1 : Int) (x2 : Int) (x3 : Int) (x4 : Int) (x5 : Int) (z0 : Int) : Int × gJ × gL := (if z0 = 0 then (0, J, L) else gLet (gOffice_within_0  J L x4 0 9999) (fun (r_1 : Int) => (if r_1 = 0 then (0, J, L) else gLet (gOffice_within_0  J L x5 0 999) (fun (r_2 : Int) => (if r_2 = 0 then (0, J, L) else gLet (q_u J (o + 46) 2 x1) (fun (J_3 : gJ) => gLet (q_u J_3 (o + 46) 3 x2) (fun (J_4 : gJ) => gLet (q_u J_4 (o + 46) 4 x3) (fun (J_5 : gJ) => gLet (q_u J_5 (o + 46) 5 x4) (fun (J_6 : gJ) => gLet (q_u J_6 (o + 46) 6 x5) (fun (J_7 : gJ) => gLet (q_u J_7 (o + 55) 15 0) (fun (J_8 : gJ) => (1, J_8, L))))))))))))
theorem eOffice_costs_35 {o : Nat} {J : gJ} {L : gL} {x1 : Int} {x2 : Int} {x3 : Int} {x4 : Int} {x5 : Int} {z0 : Int} : gOffice_costs_35 o J L x1 x2 x3 x4 x5 z0 = (if z0 = 0 then (0, J, L) else gLet (gOffice_within_0  J L x4 0 9999) (fun (r_1 : Int) => (if r_1 = 0 then (0, J, L) else gLet (gOffice_within_0  J L x5 0 999) (fun (r_2 : Int) => (if r_2 = 0 then (0, J, L) else gLet (q_u J (o + 46) 2 x1) (fun (J_3 : gJ) => gLet (q_u J_3 (o + 46) 3 x2) (fun (J_4 : gJ) => gLet (q_u J_4 (o + 46) 4 x3) (fun (J_5 : gJ) => gLet (q_u J_5 (o + 46) 5 x4) (fun (J_6 : gJ) => gLet (q_u J_6 (o + 46) 6 x5) (fun (J_7 : gJ) => gLet (q_u J_7 (o + 55) 15 0) (fun (J_8 : gJ) => (1, J_8, L)))))))))))) := rfl
noncomputable def gOffice_costs_34 (o : Nat) (J : gJ) (L : gL) (x1 : Int) (x2 : Int) (x3 : Int) (x4 : Int) (x5 : Int) : Int × gJ × gL := (gOffice_costs_35 o J L x1 x2 x3 x4 x5 0)
theorem eOffice_costs_34 {o : Nat} {J : gJ} {L : gL} {x1 : Int} {x2 : Int} {x3 : Int} {x4 : Int} {x5 : Int} : gOffice_costs_34 o J L x1 x2 x3 x4 x5 = (gOffice_costs_35 o J L x1 x2 x3 x4 x5 0) := rfl
noncomputable def gOffice_costs_0 (o : Nat) (J : gJ) (L : gL) (x1 : Int) (x2 : Int) (x3 : Int) (x4 : Int) (x5 : Int) : Int × gJ × gL := gLet (gOffice_within_0  J L x1 0 99) (fun (r_1 : Int) => (if r_1 = 0 then (gOffice_costs_34 o J L x1 x2 x3 x4 x5) else gLet (gOffice_within_0  J L x2 1 50) (fun (r_2 : Int) => (if r_2 = 0 then (gOffice_costs_34 o J L x1 x2 x3 x4 x5) else gLet (gOffice_within_0  J L x3 0 99) (fun (r_3 : Int) => (if r_3 = 0 then (gOffice_costs_34 o J L x1 x2 x3 x4 x5) else (gOffice_costs_35 o J L x1 x2 x3 x4 x5 1)))))))
theorem eOffice_costs_0 {o : Nat} {J : gJ} {L : gL} {x1 : Int} {x2 : Int} {x3 : Int} {x4 : Int} {x5 : Int} : gOffice_costs_0 o J L x1 x2 x3 x4 x5 = gLet (gOffice_within_0  J L x1 0 99) (fun (r_1 : Int) => (if r_1 = 0 then (gOffice_costs_34 o J L x1 x2 x3 x4 x5) else gLet (gOffice_within_0  J L x2 1 50) (fun (r_2 : Int) => (if r_2 = 0 then (gOffice_costs_34 o J L x1 x2 x3 x4 x5) else gLet (gOffice_within_0  J L x3 0 99) (fun (r_3 : Int) => (if r_3 = 0 then (gOffice_costs_34 o J L x1 x2 x3 x4 x5) else (gOffice_costs_35 o J L x1 x2 x3 x4 x5 1))))))) := rfl
set_option maxHeartbeats 4000000 in
set_option maxRecDepth 20000 in
theorem y_Office_costsg {D : va_G} {cA : FieldType → ClassId} {b : Nat} {E : State → Prop} {R : qRg} {o n : Nat} {sh : Nat → qC} {Rf : Nat → Nat → Option Nat} {I0 : Nat → Nat → Int32} {L0 : Nat → Nat → Int64} {post : Option Value → qS → Prop} {p1 : Int32} {p2 : Int32} {p3 : Int32} {p4 : Int32} {p5 : Int32} (hok : q_ok (qGG D cA b E)) (hw : WfOffice (qGG D cA b E) n sh Rf o) (ra : RAOffice R o) (hR : RI R I0) (hp : ∀ (r : Int32) (I' : Nat → Nat → Int32) (L' : Nat → Nat → Int64), RI R I' → Fm (fun c => c = o + 46 ∨ c = o + 55) I0 I' → (Bz r) → (r = aCosts p1 p2 p3 p4 p5) → (gOffice_costs_0 o (tI I0) L0 (p1).toInt (p2).toInt (p3).toInt (p4).toInt (p5).toInt = (r.toInt, tI I', L')) → (FmL (fun c => False) L0 L') → post (some (.int r)) (n, sh, Rf, I', L')) : Ev (qGG D cA b E) mOffice_costs 1 (0, 0) 0 (lv_args 0 [.ref o, .int p1, .int p2, .int p3, .int p4, .int p5]) [] (n, sh, Rf, I0, L0) post := by
  have hf : Fm (fun c => c = o + 46 ∨ c = o + 55) I0 I0 := Fm.rf
  refine sOffice_costs_0 o n sh Rf I0 L0 post p1 p2 p3 p4 p5 hok hw ?_
  unfold fOffice_costs_0
  have hl : FmL (fun c => False) L0 L0 := FmL.rf
  have hg : gOffice_costs_0 o (tI I0) L0 (p1).toInt (p2).toInt (p3).toInt (p4).toInt (p5).toInt = gOffice_costs_0 o (tI I0) L0 (p1).toInt (p2).toInt (p3).toInt (p4).toInt (p5).toInt := rfl
  replace hg := (eOffice_costs_0).symm.trans hg
  have l_1 : (0 : Int32).toInt = 0 := rfl
  have l_2 : (99 : Int32).toInt = 99 := rfl
  refine y_Office_withing hok hR (fun r_3 u_4 u_5 u_6 gn_7 => ⟨r_3, I0, L0, rfl, rfl, ?_⟩)
  replace hg := gt_let gn_7 hg
  clear gn_7
  have b_8 : 0 ≤ r_3.toInt ∧ r_3.toInt ≤ 1 := u_4.rg
  refine ⟨fun c_9 => ?_, fun c_9 => ?_⟩
  · have d_10 := iEq c_9
    replace hg := gt_pos (by first | exact d_10 | omega) hg
    unfold fOffice_costs_34
    replace hg := (eOffice_costs_34).symm.trans hg
    unfold fOffice_costs_35
    replace hg := (eOffice_costs_35).symm.trans hg
    refine ⟨fun c_11 => ?_, fun c_11 => ?_⟩
    · have d_12 := iEq c_11
      replace hg := gt_pos (by first | exact d_12 | omega) hg
      exact (hp _ _ _ hR hf (Or.inl rfl) (by clear hg; subst_vars; simp_all [aCosts]) hg.symm hl)
    · have d_13 := iNe c_11
      exfalso; omega
  · have d_14 := iNe c_9
    replace hg := gt_neg (by first | exact d_14 | omega) hg
    have l_15 : (1 : Int32).toInt = 1 := rfl
    have l_16 : (50 : Int32).toInt = 50 := rfl
    refine y_Office_withing hok hR (fun r_17 u_18 u_19 u_20 gn_21 => ⟨r_17, I0, L0, rfl, rfl, ?_⟩)
    replace hg := gt_let gn_21 hg
    clear gn_21
    have b_22 : 0 ≤ r_17.toInt ∧ r_17.toInt ≤ 1 := u_18.rg
    refine ⟨fun c_23 => ?_, fun c_23 => ?_⟩
    · have d_24 := iEq c_23
      replace hg := gt_pos (by first | exact d_24 | omega) hg
      unfold fOffice_costs_34
      replace hg := (eOffice_costs_34).symm.trans hg
      unfold fOffice_costs_35
      replace hg := (eOffice_costs_35).symm.trans hg
      refine ⟨fun c_25 => ?_, fun c_25 => ?_⟩
      · have d_26 := iEq c_25
        replace hg := gt_pos (by first | exact d_26 | omega) hg
        exact (hp _ _ _ hR hf (Or.inl rfl) (by clear hg; subst_vars; simp_all [aCosts]) hg.symm hl)
      · have d_27 := iNe c_25
        exfalso; omega
    · have d_28 := iNe c_23
      replace hg := gt_neg (by first | exact d_28 | omega) hg
      refine y_Office_withing hok hR (fun r_29 u_30 u_31 u_32 gn_33 => ⟨r_29, I0, L0, rfl, rfl, ?_⟩)
      replace hg := gt_let gn_33 hg
      clear gn_33
      have b_34 : 0 ≤ r_29.toInt ∧ r_29.toInt ≤ 1 := u_30.rg
      refine ⟨fun c_35 => ?_, fun c_35 => ?_⟩
      · have d_36 := iEq c_35
        replace hg := gt_pos (by first | exact d_36 | omega) hg
        unfold fOffice_costs_34
        replace hg := (eOffice_costs_34).symm.trans hg
        unfold fOffice_costs_35
        replace hg := (eOffice_costs_35).symm.trans hg
        refine ⟨fun c_37 => ?_, fun c_37 => ?_⟩
        · have d_38 := iEq c_37
          replace hg := gt_pos (by first | exact d_38 | omega) hg
          exact (hp _ _ _ hR hf (Or.inl rfl) (by clear hg; subst_vars; simp_all [aCosts]) hg.symm hl)
        · have d_39 := iNe c_37
          exfalso; omega
      · have d_40 := iNe c_35
        replace hg := gt_neg (by first | exact d_40 | omega) hg
        unfold fOffice_costs_35
        replace hg := (eOffice_costs_35).symm.trans hg
        refine ⟨fun c_41 => ?_, fun c_41 => ?_⟩
        · have d_42 := iEq c_41
          exfalso; omega
        · have d_43 := iNe c_41
          replace hg := gt_neg (by first | exact d_43 | omega) hg
          have l_44 : (9999 : Int32).toInt = 9999 := rfl
          refine y_Office_withing hok hR (fun r_45 u_46 u_47 u_48 gn_49 => ⟨r_45, I0, L0, rfl, rfl, ?_⟩)
          replace hg := gt_let gn_49 hg
          clear gn_49
          have b_50 : 0 ≤ r_45.toInt ∧ r_45.toInt ≤ 1 := u_46.rg
          refine ⟨fun c_51 => ?_, fun c_51 => ?_⟩
          · have d_52 := iEq c_51
            replace hg := gt_pos (by first | exact d_52 | omega) hg
            exact (hp _ _ _ hR hf (Or.inl rfl) (by clear hg; subst_vars; simp_all [aCosts]) hg.symm hl)
          · have d_53 := iNe c_51
            replace hg := gt_neg (by first | exact d_53 | omega) hg
            have l_54 : (999 : Int32).toInt = 999 := rfl
            refine y_Office_withing hok hR (fun r_55 u_56 u_57 u_58 gn_59 => ⟨r_55, I0, L0, rfl, rfl, ?_⟩)
            replace hg := gt_let gn_59 hg
            clear gn_59
            have b_60 : 0 ≤ r_55.toInt ∧ r_55.toInt ≤ 1 := u_56.rg
            refine ⟨fun c_61 => ?_, fun c_61 => ?_⟩
            · have d_62 := iNe c_61
              replace hg := gt_neg (by first | exact d_62 | omega) hg
              refine fun I_63 e_64 => ?_
              replace hg := gt_let (y := tI I_63) (tI_q e_64) hg
              have hR_65 : RI R I_63 := hR.up0 (k := 2) (rsOffice_5 ra) (by decide) (Or.inl rfl) e_64 (i_lo _) (i_hi _)
              have hf_66 : Fm (fun c => c = o + 46 ∨ c = o + 55) I0 I_63 := hf.set (by first | rfl | omega | (dsimp only; omega)) e_64
              refine fun I_67 e_68 => ?_
              replace hg := gt_let (y := tI I_67) (tI_q e_68) hg
              have hR_69 : RI R I_67 := hR_65.up0 (k := 3) (rsOffice_5 ra) (by decide) (Or.inl rfl) e_68 (i_lo _) (i_hi _)
              have hf_70 : Fm (fun c => c = o + 46 ∨ c = o + 55) I0 I_67 := hf_66.set (by first | rfl | omega | (dsimp only; omega)) e_68
              refine fun I_71 e_72 => ?_
              replace hg := gt_let (y := tI I_71) (tI_q e_72) hg
              have hR_73 : RI R I_71 := hR_69.up0 (k := 4) (rsOffice_5 ra) (by decide) (Or.inl rfl) e_72 (i_lo _) (i_hi _)
              have hf_74 : Fm (fun c => c = o + 46 ∨ c = o + 55) I0 I_71 := hf_70.set (by first | rfl | omega | (dsimp only; omega)) e_72
              refine fun I_75 e_76 => ?_
              replace hg := gt_let (y := tI I_75) (tI_q e_76) hg
              have hR_77 : RI R I_75 := hR_73.up0 (k := 5) (rsOffice_5 ra) (by decide) (Or.inl rfl) e_76 (i_lo _) (i_hi _)
              have hf_78 : Fm (fun c => c = o + 46 ∨ c = o + 55) I0 I_75 := hf_74.set (by first | rfl | omega | (dsimp only; omega)) e_76
              refine fun I_79 e_80 => ?_
              replace hg := gt_let (y := tI I_79) (tI_q e_80) hg
              have hR_81 : RI R I_79 := hR_77.up0 (k := 6) (rsOffice_5 ra) (by decide) (Or.inl rfl) e_80 (i_lo _) (i_hi _)
              have hf_82 : Fm (fun c => c = o + 46 ∨ c = o + 55) I0 I_79 := hf_78.set (by first | rfl | omega | (dsimp only; omega)) e_80
              refine fun I_83 e_84 => ?_
              replace hg := gt_let (y := tI I_83) (tI_q e_84) hg
              have hR_85 : RI R I_83 := hR_81.up0 (k := 15) (rsOffice_8 ra) (by decide) (Or.inl rfl) e_84 (i_lo _) (i_hi _)
              have hf_86 : Fm (fun c => c = o + 46 ∨ c = o + 55) I0 I_83 := hf_82.set (by first | rfl | omega | (dsimp only; omega)) e_84
              exact (hp _ _ _ hR_85 hf_86 (Or.inr rfl) (by clear hg; subst_vars; simp_all [aCosts]) hg.symm hl)
            · have d_87 := iEq c_61
              replace hg := gt_pos (by first | exact d_87 | omega) hg
              exact (hp _ _ _ hR hf (Or.inl rfl) (by clear hg; subst_vars; simp_all [aCosts]) hg.symm hl)
noncomputable def gOffice_tellFact_0 (o : Nat) (J : gJ) (L : gL) (x1 : Int) (x2 : Int) (x3 : Int) (x4 : Int) : Int × gJ × gL := (if x3 < 0 then ((-1), J, L) else (if x3 < 240 then gLet (J o 7) (fun (v_1 : Int) => gB3 (gFacts_add_0 (o + 48) J L x1 x2 x3 x4 v_1) (fun r_2 J_3 L_4 => (r_2, J_3, L_4))) else ((-1), J, L)))
theorem eOffice_tellFact_0 {o : Nat} {J : gJ} {L : gL} {x1 : Int} {x2 : Int} {x3 : Int} {x4 : Int} : gOffice_tellFact_0 o J L x1 x2 x3 x4 = (if x3 < 0 then ((-1), J, L) else (if x3 < 240 then gLet (J o 7) (fun (v_1 : Int) => gB3 (gFacts_add_0 (o + 48) J L x1 x2 x3 x4 v_1) (fun r_2 J_3 L_4 => (r_2, J_3, L_4))) else ((-1), J, L))) := rfl
set_option maxHeartbeats 4000000 in
set_option maxRecDepth 20000 in
theorem y_Office_tellFactg {D : va_G} {cA : FieldType → ClassId} {b : Nat} {E : State → Prop} {R : qRg} {o n : Nat} {sh : Nat → qC} {Rf : Nat → Nat → Option Nat} {I0 : Nat → Nat → Int32} {L0 : Nat → Nat → Int64} {post : Option Value → qS → Prop} {p1 : Int32} {p2 : Int32} {p3 : Int32} {p4 : Int32} (hok : q_ok (qGG D cA b E)) (hw : WfOffice (qGG D cA b E) n sh Rf o) (ra : RAOffice R o) (hq0 : Im (p1.toInt = 2) (0 ≤ p2.toInt ∧ p2.toInt ≤ 5 ∧ -1 ≤ p4.toInt ∧ p4.toInt ≤ 5)) (hq1 : FacOK I0 (o + 48)) (hR : RI R I0) (hp : ∀ (r : Int32) (I' : Nat → Nat → Int32) (L' : Nat → Nat → Int64), RI R I' → Fm (fun c => (o + 48 ≤ c ∧ c < o + 55)) I0 I' → (FacOK I' (o + 48)) → (gOffice_tellFact_0 o (tI I0) L0 (p1).toInt (p2).toInt (p3).toInt (p4).toInt = (r.toInt, tI I', L')) → (FmL (fun c => False) L0 L') → post (some (.int r)) (n, sh, Rf, I', L')) : Ev (qGG D cA b E) mOffice_tellFact 1 (0, 0) 0 (lv_args 0 [.ref o, .int p1, .int p2, .int p3, .int p4]) [] (n, sh, Rf, I0, L0) post := by
  have hf : Fm (fun c => (o + 48 ≤ c ∧ c < o + 55)) I0 I0 := Fm.rf
  refine sOffice_tellFact_0 o n sh Rf I0 L0 post p1 p2 p3 p4 hok hw ?_
  unfold fOffice_tellFact_0
  have hl : FmL (fun c => False) L0 L0 := FmL.rf
  have hg : gOffice_tellFact_0 o (tI I0) L0 (p1).toInt (p2).toInt (p3).toInt (p4).toInt = gOffice_tellFact_0 o (tI I0) L0 (p1).toInt (p2).toInt (p3).toInt (p4).toInt := rfl
  replace hg := (eOffice_tellFact_0).symm.trans hg
  have l_1 : (0 : Int32).toInt = 0 := rfl
  refine ⟨fun c_2 => ?_, fun c_2 => ?_⟩
  · have d_3 := iLt c_2
    replace hg := gt_pos (by first | exact d_3 | omega) hg
    have l_4 : (-1 : Int32).toInt = -1 := rfl
    exact (hp _ _ _ hR hf  hq1 hg.symm hl)
  · have d_5 := iNlt c_2
    replace hg := gt_neg (by first | exact d_5 | omega) hg
    have l_6 : (240 : Int32).toInt = 240 := rfl
    refine ⟨fun c_7 => ?_, fun c_7 => ?_⟩
    · have d_8 := iLt c_7
      replace hg := gt_pos (by first | exact d_8 | omega) hg
      have g_9 : (0 : Int) ≤ (I0 o 7).toInt ∧ (I0 o 7).toInt ≤ 100000 := hR.at0 ra 7 (by decide)
      replace hg := gt_let (y := (I0 o 7).toInt) rfl hg
      refine y_Facts_addg hok (wsOffice_6 hw) (rsOffice_6 ra) (by exact hq0) hq1 hR (fun r_10 I_14 L_15 hR_16 fr_17 u_11 gn_12 ln_13 => ⟨r_10, I_14, L_15, rfl, rfl, ?_⟩)
      replace hl := hl.call ln_13 (fun c hc => by first | exact hc | exact False.elim hc | (dsimp only at hc ⊢; omega) | omega)
      replace hg := gt_b3 gn_12 hg
      clear gn_12
      have hf_18 : Fm (fun c => (o + 48 ≤ c ∧ c < o + 55)) I0 I_14 := hf.call fr_17 (fun c hc => by first | exact hc | (dsimp only at hc ⊢; omega) | omega)
      have t_19 : (I_14 o 7).toInt = (I0 o 7).toInt := by rw [fr_17 o (by first | omega | (dsimp only; omega))]
      exact (hp _ _ _ hR_16 hf_18  u_11 hg.symm hl)
    · have d_20 := iNlt c_7
      replace hg := gt_neg (by first | exact d_20 | omega) hg
      have l_21 : (-1 : Int32).toInt = -1 := rfl
      exact (hp _ _ _ hR hf  hq1 hg.symm hl)
noncomputable def gOffice_weather_0 (o uo_1 : Nat) (J : gJ) (L : gL) (x1 : Int) (x2 : Int) (x3 : Int) : Int × gJ × gL := (if x1 < 0 then ((-1), J, L) else gLet (J uo_1 2) (fun (v_1 : Int) => (if v_1 ≤ x1 then ((-1), J, L) else gLet (gOffice_within_0  J L x3 0 300) (fun (r_2 : Int) => (if r_2 = 0 then ((-1), J, L) else gB3 (gOffice_tellFact_0 o J L 0 x1 x2 x3) (fun r_3 J_4 L_5 => (r_3, J_4, L_5)))))))
theorem eOffice_weather_0 {o uo_1 : Nat} {J : gJ} {L : gL} {x1 : Int} {x2 : Int} {x3 : Int} : gOffice_weather_0 o uo_1 J L x1 x2 x3 = (if x1 < 0 then ((-1), J, L) else gLet (J uo_1 2) (fun (v_1 : Int) => (if v_1 ≤ x1 then ((-1), J, L) else gLet (gOffice_within_0  J L x3 0 300) (fun (r_2 : Int) => (if r_2 = 0 then ((-1), J, L) else gB3 (gOffice_tellFact_0 o J L 0 x1 x2 x3) (fun r_3 J_4 L_5 => (r_3, J_4, L_5))))))) := rfl
set_option maxHeartbeats 4000000 in
set_option maxRecDepth 20000 in
theorem y_Office_weatherg {D : va_G} {cA : FieldType → ClassId} {b : Nat} {E : State → Prop} {R : qRg} {o n : Nat} {sh : Nat → qC} {Rf : Nat → Nat → Option Nat} {I0 : Nat → Nat → Int32} {L0 : Nat → Nat → Int64} {post : Option Value → qS → Prop} {uo_1 : Nat} {p1 : Int32} {p2 : Int32} {p3 : Int32} (hok : q_ok (qGG D cA b E)) (hw : WfOffice (qGG D cA b E) n sh Rf o) (ra : RAOffice R o) (hwuo_1 : WfLand (qGG D cA b E) n sh Rf uo_1) (rauo_1 : RALand R uo_1) (huo_1 : Rf o 1 = some uo_1) (hq0 : FacOK I0 (o + 48)) (hR : RI R I0) (hp : ∀ (r : Int32) (I' : Nat → Nat → Int32) (L' : Nat → Nat → Int64), RI R I' → Fm (fun c => (o + 48 ≤ c ∧ c < o + 55)) I0 I' → (FacOK I' (o + 48)) → (gOffice_weather_0 o uo_1 (tI I0) L0 (p1).toInt (p2).toInt (p3).toInt = (r.toInt, tI I', L')) → (FmL (fun c => False) L0 L') → post (some (.int r)) (n, sh, Rf, I', L')) : Ev (qGG D cA b E) mOffice_weather 2 (0, 0) 0 (lv_args 0 [.ref o, .int p1, .int p2, .int p3]) [] (n, sh, Rf, I0, L0) post := by
  have hf : Fm (fun c => (o + 48 ≤ c ∧ c < o + 55)) I0 I0 := Fm.rf
  refine sOffice_weather_0 o n sh Rf I0 L0 post p1 p2 p3 uo_1 hok hw huo_1 hwuo_1 ?_
  unfold fOffice_weather_0
  have hl : FmL (fun c => False) L0 L0 := FmL.rf
  have hg : gOffice_weather_0 o uo_1 (tI I0) L0 (p1).toInt (p2).toInt (p3).toInt = gOffice_weather_0 o uo_1 (tI I0) L0 (p1).toInt (p2).toInt (p3).toInt := rfl
  replace hg := (eOffice_weather_0).symm.trans hg
  have l_1 : (0 : Int32).toInt = 0 := rfl
  refine ⟨fun c_2 => ?_, fun c_2 => ?_⟩
  · have d_3 := iLt c_2
    replace hg := gt_pos (by first | exact d_3 | omega) hg
    have l_4 : (-1 : Int32).toInt = -1 := rfl
    exact (hp _ _ _ hR hf  hq0 hg.symm hl)
  · have d_5 := iNlt c_2
    replace hg := gt_neg (by first | exact d_5 | omega) hg
    have g_6 : (0 : Int) ≤ (I0 uo_1 2).toInt ∧ (I0 uo_1 2).toInt ≤ 3 := hR.at0 rauo_1 2 (by decide)
    replace hg := gt_let (y := (I0 uo_1 2).toInt) rfl hg
    refine ⟨fun c_7 => ?_, fun c_7 => ?_⟩
    · have d_8 := iLe c_7
      replace hg := gt_pos (by first | exact d_8 | omega) hg
      have l_9 : (-1 : Int32).toInt = -1 := rfl
      exact (hp _ _ _ hR hf  hq0 hg.symm hl)
    · have d_10 := iNle c_7
      replace hg := gt_neg (by first | exact d_10 | omega) hg
      have l_11 : (300 : Int32).toInt = 300 := rfl
      refine y_Office_withing hok hR (fun r_12 u_13 u_14 u_15 gn_16 => ⟨r_12, I0, L0, rfl, rfl, ?_⟩)
      replace hg := gt_let gn_16 hg
      clear gn_16
      have b_17 : 0 ≤ r_12.toInt ∧ r_12.toInt ≤ 1 := u_13.rg
      refine ⟨fun c_18 => ?_, fun c_18 => ?_⟩
      · have d_19 := iNe c_18
        replace hg := gt_neg (by first | exact d_19 | omega) hg
        refine y_Office_tellFactg hok hw ra (by first | omega | (intro h; omega) | exact Or.inl rfl | exact Or.inr rfl) hq0 hR (fun r_20 I_24 L_25 hR_26 fr_27 u_21 gn_22 ln_23 => ⟨r_20, I_24, L_25, rfl, rfl, ?_⟩)
        replace hl := hl.call ln_23 (fun c hc => by first | exact hc | exact False.elim hc | (dsimp only at hc ⊢; omega) | omega)
        replace hg := gt_b3 gn_22 hg
        clear gn_22
        have hf_28 : Fm (fun c => (o + 48 ≤ c ∧ c < o + 55)) I0 I_24 := hf.call fr_27 (fun c hc => by first | exact hc | (dsimp only at hc ⊢; omega) | omega)
        have g_29 : (0 : Int) ≤ (I_24 uo_1 2).toInt ∧ (I_24 uo_1 2).toInt ≤ 3 := hR_26.at0 rauo_1 2 (by decide)
        exact (hp _ _ _ hR_26 hf_28  u_21 hg.symm hl)
      · have d_30 := iEq c_18
        replace hg := gt_pos (by first | exact d_30 | omega) hg
        have l_31 : (-1 : Int32).toInt = -1 := rfl
        exact (hp _ _ _ hR hf  hq0 hg.symm hl)
noncomputable def gOffice_forged_0 (o : Nat) (J : gJ) (L : gL) (x1 : Int) (x2 : Int) : Int × gJ × gL := (if x1 < 0 then ((-1), J, L) else (if x1 < 2000 then gB3 (gOffice_tellFact_0 o J L 1 x1 x2 0) (fun r_1 J_2 L_3 => (r_1, J_2, L_3)) else ((-1), J, L)))
theorem eOffice_forged_0 {o : Nat} {J : gJ} {L : gL} {x1 : Int} {x2 : Int} : gOffice_forged_0 o J L x1 x2 = (if x1 < 0 then ((-1), J, L) else (if x1 < 2000 then gB3 (gOffice_tellFact_0 o J L 1 x1 x2 0) (fun r_1 J_2 L_3 => (r_1, J_2, L_3)) else ((-1), J, L))) := rfl
set_option maxHeartbeats 4000000 in
set_option maxRecDepth 20000 in
theorem y_Office_forgedg {D : va_G} {cA : FieldType → ClassId} {b : Nat} {E : State → Prop} {R : qRg} {o n : Nat} {sh : Nat → qC} {Rf : Nat → Nat → Option Nat} {I0 : Nat → Nat → Int32} {L0 : Nat → Nat → Int64} {post : Option Value → qS → Prop} {p1 : Int32} {p2 : Int32} (hok : q_ok (qGG D cA b E)) (hw : WfOffice (qGG D cA b E) n sh Rf o) (ra : RAOffice R o) (hq0 : FacOK I0 (o + 48)) (hR : RI R I0) (hp : ∀ (r : Int32) (I' : Nat → Nat → Int32) (L' : Nat → Nat → Int64), RI R I' → Fm (fun c => (o + 48 ≤ c ∧ c < o + 55)) I0 I' → (FacOK I' (o + 48)) → (gOffice_forged_0 o (tI I0) L0 (p1).toInt (p2).toInt = (r.toInt, tI I', L')) → (FmL (fun c => False) L0 L') → post (some (.int r)) (n, sh, Rf, I', L')) : Ev (qGG D cA b E) mOffice_forged 2 (0, 0) 0 (lv_args 0 [.ref o, .int p1, .int p2]) [] (n, sh, Rf, I0, L0) post := by
  have hf : Fm (fun c => (o + 48 ≤ c ∧ c < o + 55)) I0 I0 := Fm.rf
  refine sOffice_forged_0 o n sh Rf I0 L0 post p1 p2 hok hw ?_
  unfold fOffice_forged_0
  have hl : FmL (fun c => False) L0 L0 := FmL.rf
  have hg : gOffice_forged_0 o (tI I0) L0 (p1).toInt (p2).toInt = gOffice_forged_0 o (tI I0) L0 (p1).toInt (p2).toInt := rfl
  replace hg := (eOffice_forged_0).symm.trans hg
  have l_1 : (0 : Int32).toInt = 0 := rfl
  refine ⟨fun c_2 => ?_, fun c_2 => ?_⟩
  · have d_3 := iLt c_2
    replace hg := gt_pos (by first | exact d_3 | omega) hg
    have l_4 : (-1 : Int32).toInt = -1 := rfl
    exact (hp _ _ _ hR hf  hq0 hg.symm hl)
  · have d_5 := iNlt c_2
    replace hg := gt_neg (by first | exact d_5 | omega) hg
    have l_6 : (2000 : Int32).toInt = 2000 := rfl
    refine ⟨fun c_7 => ?_, fun c_7 => ?_⟩
    · have d_8 := iLt c_7
      replace hg := gt_pos (by first | exact d_8 | omega) hg
      have l_9 : (1 : Int32).toInt = 1 := rfl
      refine y_Office_tellFactg hok hw ra (by first | omega | (intro h; omega) | exact Or.inl rfl | exact Or.inr rfl) hq0 hR (fun r_10 I_14 L_15 hR_16 fr_17 u_11 gn_12 ln_13 => ⟨r_10, I_14, L_15, rfl, rfl, ?_⟩)
      replace hl := hl.call ln_13 (fun c hc => by first | exact hc | exact False.elim hc | (dsimp only at hc ⊢; omega) | omega)
      replace hg := gt_b3 gn_12 hg
      clear gn_12
      have hf_18 : Fm (fun c => (o + 48 ≤ c ∧ c < o + 55)) I0 I_14 := hf.call fr_17 (fun c hc => by first | exact hc | (dsimp only at hc ⊢; omega) | omega)
      exact (hp _ _ _ hR_16 hf_18  u_11 hg.symm hl)
    · have d_19 := iNlt c_7
      replace hg := gt_neg (by first | exact d_19 | omega) hg
      have l_20 : (-1 : Int32).toInt = -1 := rfl
      exact (hp _ _ _ hR hf  hq0 hg.symm hl)
noncomputable def gOffice_dead_44 (o : Nat) (J : gJ) (L : gL) (x1 : Int) (x2 : Int) (x3 : Int) : Int × gJ × gL := gB3 (gOffice_tellFact_0 o J L 2 x1 x2 x3) (fun r_1 J_2 L_3 => (r_1, J_2, L_3))
theorem eOffice_dead_44 {o : Nat} {J : gJ} {L : gL} {x1 : Int} {x2 : Int} {x3 : Int} : gOffice_dead_44 o J L x1 x2 x3 = gB3 (gOffice_tellFact_0 o J L 2 x1 x2 x3) (fun r_1 J_2 L_3 => (r_1, J_2, L_3)) := rfl
noncomputable def gOffice_dead_0 (o : Nat) (J : gJ) (L : gL) (x1 : Int) (x2 : Int) (x3 : Int) : Int × gJ × gL := (if x1 < 0 then ((-1), J, L) else gLet (J (o + 46) 1) (fun (v_1 : Int) => (if v_1 ≤ x1 then ((-1), J, L) else (if x1 = x3 then ((-1), J, L) else (if x3 = (-1) then (gOffice_dead_44 o J L x1 x2 x3) else (if x3 < 0 then ((-1), J, L) else gLet (J (o + 46) 1) (fun (v_2 : Int) => (if x3 < v_2 then (gOffice_dead_44 o J L x1 x2 x3) else ((-1), J, L)))))))))
theorem eOffice_dead_0 {o : Nat} {J : gJ} {L : gL} {x1 : Int} {x2 : Int} {x3 : Int} : gOffice_dead_0 o J L x1 x2 x3 = (if x1 < 0 then ((-1), J, L) else gLet (J (o + 46) 1) (fun (v_1 : Int) => (if v_1 ≤ x1 then ((-1), J, L) else (if x1 = x3 then ((-1), J, L) else (if x3 = (-1) then (gOffice_dead_44 o J L x1 x2 x3) else (if x3 < 0 then ((-1), J, L) else gLet (J (o + 46) 1) (fun (v_2 : Int) => (if x3 < v_2 then (gOffice_dead_44 o J L x1 x2 x3) else ((-1), J, L))))))))) := rfl
set_option maxHeartbeats 4000000 in
set_option maxRecDepth 20000 in
theorem y_Office_deadg {D : va_G} {cA : FieldType → ClassId} {b : Nat} {E : State → Prop} {R : qRg} {o n : Nat} {sh : Nat → qC} {Rf : Nat → Nat → Option Nat} {I0 : Nat → Nat → Int32} {L0 : Nat → Nat → Int64} {post : Option Value → qS → Prop} {p1 : Int32} {p2 : Int32} {p3 : Int32} (hok : q_ok (qGG D cA b E)) (hw : WfOffice (qGG D cA b E) n sh Rf o) (ra : RAOffice R o) (hq0 : FacOK I0 (o + 48)) (hR : RI R I0) (hp : ∀ (r : Int32) (I' : Nat → Nat → Int32) (L' : Nat → Nat → Int64), RI R I' → Fm (fun c => (o + 48 ≤ c ∧ c < o + 55)) I0 I' → (FacOK I' (o + 48)) → (gOffice_dead_0 o (tI I0) L0 (p1).toInt (p2).toInt (p3).toInt = (r.toInt, tI I', L')) → (FmL (fun c => False) L0 L') → post (some (.int r)) (n, sh, Rf, I', L')) : Ev (qGG D cA b E) mOffice_dead 2 (0, 0) 0 (lv_args 0 [.ref o, .int p1, .int p2, .int p3]) [] (n, sh, Rf, I0, L0) post := by
  have hf : Fm (fun c => (o + 48 ≤ c ∧ c < o + 55)) I0 I0 := Fm.rf
  refine sOffice_dead_0 o n sh Rf I0 L0 post p1 p2 p3 hok hw ?_
  unfold fOffice_dead_0
  have hl : FmL (fun c => False) L0 L0 := FmL.rf
  have hg : gOffice_dead_0 o (tI I0) L0 (p1).toInt (p2).toInt (p3).toInt = gOffice_dead_0 o (tI I0) L0 (p1).toInt (p2).toInt (p3).toInt := rfl
  replace hg := (eOffice_dead_0).symm.trans hg
  have l_1 : (0 : Int32).toInt = 0 := rfl
  refine ⟨fun c_2 => ?_, fun c_2 => ?_⟩
  · have d_3 := iLt c_2
    replace hg := gt_pos (by first | exact d_3 | omega) hg
    have l_4 : (-1 : Int32).toInt = -1 := rfl
    exact (hp _ _ _ hR hf  hq0 hg.symm hl)
  · have d_5 := iNlt c_2
    replace hg := gt_neg (by first | exact d_5 | omega) hg
    have g_6 : (0 : Int) ≤ (I0 (o + 46) 1).toInt ∧ (I0 (o + 46) 1).toInt ≤ 6 := hR.at0 (rsOffice_5 ra) 1 (by decide)
    replace hg := gt_let (y := (I0 (o + 46) 1).toInt) rfl hg
    refine ⟨fun c_7 => ?_, fun c_7 => ?_⟩
    · have d_8 := iLe c_7
      replace hg := gt_pos (by first | exact d_8 | omega) hg
      have l_9 : (-1 : Int32).toInt = -1 := rfl
      exact (hp _ _ _ hR hf  hq0 hg.symm hl)
    · have d_10 := iNle c_7
      replace hg := gt_neg (by first | exact d_10 | omega) hg
      refine ⟨fun c_11 => ?_, fun c_11 => ?_⟩
      · have d_12 := iNe c_11
        replace hg := gt_neg (by first | exact d_12 | omega) hg
        have l_13 : (-1 : Int32).toInt = -1 := rfl
        refine ⟨fun c_14 => ?_, fun c_14 => ?_⟩
        · have d_15 := iEq c_14
          replace hg := gt_pos (by first | exact d_15 | omega) hg
          unfold fOffice_dead_44
          replace hg := (eOffice_dead_44).symm.trans hg
          have l_16 : (2 : Int32).toInt = 2 := rfl
          refine y_Office_tellFactg hok hw ra (by first | omega | (intro h; omega) | exact Or.inl rfl | exact Or.inr rfl) hq0 hR (fun r_17 I_21 L_22 hR_23 fr_24 u_18 gn_19 ln_20 => ⟨r_17, I_21, L_22, rfl, rfl, ?_⟩)
          replace hl := hl.call ln_20 (fun c hc => by first | exact hc | exact False.elim hc | (dsimp only at hc ⊢; omega) | omega)
          replace hg := gt_b3 gn_19 hg
          clear gn_19
          have hf_25 : Fm (fun c => (o + 48 ≤ c ∧ c < o + 55)) I0 I_21 := hf.call fr_24 (fun c hc => by first | exact hc | (dsimp only at hc ⊢; omega) | omega)
          have t_26 : (I_21 (o + 46) 1).toInt = (I0 (o + 46) 1).toInt := by rw [fr_24 (o + 46) (by first | omega | (dsimp only; omega))]
          exact (hp _ _ _ hR_23 hf_25  u_18 hg.symm hl)
        · have d_27 := iNe c_14
          replace hg := gt_neg (by first | exact d_27 | omega) hg
          refine ⟨fun c_28 => ?_, fun c_28 => ?_⟩
          · have d_29 := iLt c_28
            replace hg := gt_pos (by first | exact d_29 | omega) hg
            exact (hp _ _ _ hR hf  hq0 hg.symm hl)
          · have d_30 := iNlt c_28
            replace hg := gt_neg (by first | exact d_30 | omega) hg
            have g_31 : (0 : Int) ≤ (I0 (o + 46) 1).toInt ∧ (I0 (o + 46) 1).toInt ≤ 6 := hR.at0 (rsOffice_5 ra) 1 (by decide)
            replace hg := gt_let (y := (I0 (o + 46) 1).toInt) rfl hg
            refine ⟨fun c_32 => ?_, fun c_32 => ?_⟩
            · have d_33 := iLt c_32
              replace hg := gt_pos (by first | exact d_33 | omega) hg
              unfold fOffice_dead_44
              replace hg := (eOffice_dead_44).symm.trans hg
              have l_34 : (2 : Int32).toInt = 2 := rfl
              refine y_Office_tellFactg hok hw ra (by first | omega | (intro h; omega) | exact Or.inl rfl | exact Or.inr rfl) hq0 hR (fun r_35 I_39 L_40 hR_41 fr_42 u_36 gn_37 ln_38 => ⟨r_35, I_39, L_40, rfl, rfl, ?_⟩)
              replace hl := hl.call ln_38 (fun c hc => by first | exact hc | exact False.elim hc | (dsimp only at hc ⊢; omega) | omega)
              replace hg := gt_b3 gn_37 hg
              clear gn_37
              have hf_43 : Fm (fun c => (o + 48 ≤ c ∧ c < o + 55)) I0 I_39 := hf.call fr_42 (fun c hc => by first | exact hc | (dsimp only at hc ⊢; omega) | omega)
              have t_44 : (I_39 (o + 46) 1).toInt = (I0 (o + 46) 1).toInt := by rw [fr_42 (o + 46) (by first | omega | (dsimp only; omega))]
              exact (hp _ _ _ hR_41 hf_43  u_36 hg.symm hl)
            · have d_45 := iNlt c_32
              replace hg := gt_neg (by first | exact d_45 | omega) hg
              exact (hp _ _ _ hR hf  hq0 hg.symm hl)
      · have d_46 := iEq c_11
        replace hg := gt_pos (by first | exact d_46 | omega) hg
        have l_47 : (-1 : Int32).toInt = -1 := rfl
        exact (hp _ _ _ hR hf  hq0 hg.symm hl)
noncomputable def gOffice_untell_0 (o : Nat) (J : gJ) (L : gL) (x1 : Int) : Int × gJ × gL := (if x1 < 0 then (0, J, L) else gLet (J (o + 48) 6) (fun (v_1 : Int) => (if v_1 ≤ x1 then (0, J, L) else gLet (J ((o + 48) + 6) (Int.toNat x1)) (fun (v_2 : Int) => (if v_2 = (-1) then gLet (J o 7) (fun (v_3 : Int) => gLet (q_u J ((o + 48) + 6) (Int.toNat x1) v_3) (fun (J_4 : gJ) => (1, J_4, L))) else (0, J, L))))))
theorem eOffice_untell_0 {o : Nat} {J : gJ} {L : gL} {x1 : Int} : gOffice_untell_0 o J L x1 = (if x1 < 0 then (0, J, L) else gLet (J (o + 48) 6) (fun (v_1 : Int) => (if v_1 ≤ x1 then (0, J, L) else gLet (J ((o + 48) + 6) (Int.toNat x1)) (fun (v_2 : Int) => (if v_2 = (-1) then gLet (J o 7) (fun (v_3 : Int) => gLet (q_u J ((o + 48) + 6) (Int.toNat x1) v_3) (fun (J_4 : gJ) => (1, J_4, L))) else (0, J, L)))))) := rfl
set_option maxHeartbeats 4000000 in
set_option maxRecDepth 20000 in
theorem y_Office_untellg {D : va_G} {cA : FieldType → ClassId} {b : Nat} {E : State → Prop} {R : qRg} {o n : Nat} {sh : Nat → qC} {Rf : Nat → Nat → Option Nat} {I0 : Nat → Nat → Int32} {L0 : Nat → Nat → Int64} {post : Option Value → qS → Prop} {p1 : Int32} (hok : q_ok (qGG D cA b E)) (hw : WfOffice (qGG D cA b E) n sh Rf o) (ra : RAOffice R o) (hR : RI R I0) (hp : ∀ (r : Int32) (I' : Nat → Nat → Int32) (L' : Nat → Nat → Int64), RI R I' → Fm (fun c => c = o + 54) I0 I' → (Bz r) → (gOffice_untell_0 o (tI I0) L0 (p1).toInt = (r.toInt, tI I', L')) → (FmL (fun c => False) L0 L') → post (some (.int r)) (n, sh, Rf, I', L')) : Ev (qGG D cA b E) mOffice_untell 0 (0, 0) 0 (lv_args 0 [.ref o, .int p1]) [] (n, sh, Rf, I0, L0) post := by
  have hf : Fm (fun c => c = o + 54) I0 I0 := Fm.rf
  refine sOffice_untell_0 o n sh Rf I0 L0 post p1 hok hw ?_
  unfold fOffice_untell_0
  have hl : FmL (fun c => False) L0 L0 := FmL.rf
  have hg : gOffice_untell_0 o (tI I0) L0 (p1).toInt = gOffice_untell_0 o (tI I0) L0 (p1).toInt := rfl
  replace hg := (eOffice_untell_0).symm.trans hg
  have l_1 : (0 : Int32).toInt = 0 := rfl
  refine ⟨fun c_2 => ?_, fun c_2 => ?_⟩
  · have d_3 := iLt c_2
    replace hg := gt_pos (by first | exact d_3 | omega) hg
    exact (hp _ _ _ hR hf (Or.inl rfl) hg.symm hl)
  · have d_4 := iNlt c_2
    replace hg := gt_neg (by first | exact d_4 | omega) hg
    have g_5 : (0 : Int) ≤ (I0 (o + 48) 6).toInt ∧ (I0 (o + 48) 6).toInt ≤ 40 := hR.at0 (rsOffice_6 ra) 6 (by decide)
    replace hg := gt_let (y := (I0 (o + 48) 6).toInt) rfl hg
    refine ⟨fun c_6 => ?_, fun c_6 => ?_⟩
    · have d_7 := iLe c_6
      replace hg := gt_pos (by first | exact d_7 | omega) hg
      exact (hp _ _ _ hR hf (Or.inl rfl) hg.symm hl)
    · have d_8 := iNle c_6
      replace hg := gt_neg (by first | exact d_8 | omega) hg
      refine ⟨tIn (by omega) (by omega), ?_⟩
      replace hg := gt_let (y := (I0 ((o + 48) + 6) (p1 : Int32).toNatClampNeg).toInt) rfl hg
      have l_9 : (-1 : Int32).toInt = -1 := rfl
      refine ⟨fun c_10 => ?_, fun c_10 => ?_⟩
      · have d_11 := iEq c_10
        replace hg := gt_pos (by first | exact d_11 | omega) hg
        have g_12 : (0 : Int) ≤ (I0 o 7).toInt ∧ (I0 o 7).toInt ≤ 100000 := hR.at0 ra 7 (by decide)
        replace hg := gt_let (y := (I0 o 7).toInt) rfl hg
        refine ⟨tIn (by omega) (by omega), fun I_13 e_14 => ?_⟩
        replace hg := gt_let (y := tI I_13) (tI_q e_14) hg
        have hR_15 : RI R I_13 := hR.up (rsOffice_6 ra) 6 (by decide) (Or.inl rfl) e_14 (i_lo _) (i_hi _)
        have hf_16 : Fm (fun c => c = o + 54) I0 I_13 := hf.set (by first | rfl | omega | (dsimp only; omega)) e_14
        have t_17 : (I_13 (o + 48) 6).toInt = (I0 (o + 48) 6).toInt := by rw [← e_14, q_u_ne (by omega)]
        have t_18 : (I_13 o 7).toInt = (I0 o 7).toInt := by rw [← e_14, q_u_ne (by omega)]
        have l_19 : (1 : Int32).toInt = 1 := rfl
        exact (hp _ _ _ hR_15 hf_16 (Or.inr rfl) hg.symm hl)
      · have d_20 := iNe c_10
        replace hg := gt_neg (by first | exact d_20 | omega) hg
        exact (hp _ _ _ hR hf (Or.inl rfl) hg.symm hl)
noncomputable def gOffice_later_0 (o : Nat) (J : gJ) (L : gL) (x1 : Int) : Int × gJ × gL := (if x1 < 0 then ((-1), J, L) else (if 1000 < x1 then ((-1), J, L) else gLet (J o 7) (fun (v_1 : Int) => gLet (v_1 + x1) (fun (v_2 : Int) => (if v_2 ≤ 100000 then gLet (J o 7) (fun (v_3 : Int) => gLet (v_3 + x1) (fun (v_4 : Int) => gLet (q_u J o 7 v_4) (fun (J_5 : gJ) => gLet (J_5 o 7) (fun (v_6 : Int) => (v_6, J_5, L))))) else ((-1), J, L))))))
theorem eOffice_later_0 {o : Nat} {J : gJ} {L : gL} {x1 : Int} : gOffice_later_0 o J L x1 = (if x1 < 0 then ((-1), J, L) else (if 1000 < x1 then ((-1), J, L) else gLet (J o 7) (fun (v_1 : Int) => gLet (v_1 + x1) (fun (v_2 : Int) => (if v_2 ≤ 100000 then gLet (J o 7) (fun (v_3 : Int) => gLet (v_3 + x1) (fun (v_4 : Int) => gLet (q_u J o 7 v_4) (fun (J_5 : gJ) => gLet (J_5 o 7) (fun (v_6 : Int) => (v_6, J_5, L))))) else ((-1), J, L)))))) := rfl
set_option maxHeartbeats 4000000 in
set_option maxRecDepth 20000 in
theorem y_Office_laterg {D : va_G} {cA : FieldType → ClassId} {b : Nat} {E : State → Prop} {R : qRg} {o n : Nat} {sh : Nat → qC} {Rf : Nat → Nat → Option Nat} {I0 : Nat → Nat → Int32} {L0 : Nat → Nat → Int64} {post : Option Value → qS → Prop} {p1 : Int32} (hok : q_ok (qGG D cA b E)) (hw : WfOffice (qGG D cA b E) n sh Rf o) (ra : RAOffice R o) (hz1 : R.2 1 = true) (hR : RI R I0) (hp : ∀ (r : Int32) (I' : Nat → Nat → Int32) (L' : Nat → Nat → Int64), RI R I' → Fm (fun c => c = o) I0 I' → (gOffice_later_0 o (tI I0) L0 (p1).toInt = (r.toInt, tI I', L')) → (FmL (fun c => False) L0 L') → post (some (.int r)) (n, sh, Rf, I', L')) : Ev (qGG D cA b E) mOffice_later 0 (0, 0) 0 (lv_args 0 [.ref o, .int p1]) [] (n, sh, Rf, I0, L0) post := by
  have hf : Fm (fun c => c = o) I0 I0 := Fm.rf
  refine sOffice_later_0 o n sh Rf I0 L0 post p1 hok hw ?_
  unfold fOffice_later_0
  have hl : FmL (fun c => False) L0 L0 := FmL.rf
  have hg : gOffice_later_0 o (tI I0) L0 (p1).toInt = gOffice_later_0 o (tI I0) L0 (p1).toInt := rfl
  replace hg := (eOffice_later_0).symm.trans hg
  have l_1 : (0 : Int32).toInt = 0 := rfl
  refine ⟨fun c_2 => ?_, fun c_2 => ?_⟩
  · have d_3 := iLt c_2
    replace hg := gt_pos (by first | exact d_3 | omega) hg
    have l_4 : (-1 : Int32).toInt = -1 := rfl
    exact (hp _ _ _ hR hf  hg.symm hl)
  · have d_5 := iNlt c_2
    replace hg := gt_neg (by first | exact d_5 | omega) hg
    have l_6 : (1000 : Int32).toInt = 1000 := rfl
    refine ⟨fun c_7 => ?_, fun c_7 => ?_⟩
    · have d_8 := iLt c_7
      replace hg := gt_pos (by first | exact d_8 | omega) hg
      have l_9 : (-1 : Int32).toInt = -1 := rfl
      exact (hp _ _ _ hR hf  hg.symm hl)
    · have d_10 := iNlt c_7
      replace hg := gt_neg (by first | exact d_10 | omega) hg
      have g_11 : (0 : Int) ≤ (I0 o 7).toInt ∧ (I0 o 7).toInt ≤ 100000 := hR.at0 ra 7 (by decide)
      replace hg := gt_let (y := (I0 o 7).toInt) rfl hg
      have a_12 : ((I0 o 7) + p1).toInt = (I0 o 7).toInt + p1.toInt := tAdd (by omega) (by omega)
      replace hg := gt_let (y := (((I0 o 7) + p1) : Int32).toInt) (by omega) hg
      have l_13 : (100000 : Int32).toInt = 100000 := rfl
      refine ⟨fun c_14 => ?_, fun c_14 => ?_⟩
      · have d_15 := iLe c_14
        replace hg := gt_pos (by first | exact d_15 | omega) hg
        have g_16 : (0 : Int) ≤ (I0 o 7).toInt ∧ (I0 o 7).toInt ≤ 100000 := hR.at0 ra 7 (by decide)
        replace hg := gt_let (y := (I0 o 7).toInt) rfl hg
        have a_17 : ((I0 o 7) + p1).toInt = (I0 o 7).toInt + p1.toInt := tAdd (by omega) (by omega)
        replace hg := gt_let (y := (((I0 o 7) + p1) : Int32).toInt) (by omega) hg
        refine fun I_18 e_19 => ?_
        replace hg := gt_let (y := tI I_18) (tI_q e_19) hg
        have hR_20 : RI R I_18 := hR.up0 (k := 7) ra (by decide) (Or.inr hz1) e_19 (show (0 : Int) ≤ ((I0 o 7) + p1).toInt by omega) (show ((I0 o 7) + p1).toInt ≤ (100000 : Int) by omega)
        have hf_21 : Fm (fun c => c = o) I0 I_18 := hf.set (by first | rfl | omega | (dsimp only; omega)) e_19
        have t_22 : (I_18 o 7).toInt = ((I0 o 7) + p1).toInt := by rw [← e_19, q_u_at]
        have g_23 : (0 : Int) ≤ (I_18 o 7).toInt ∧ (I_18 o 7).toInt ≤ 100000 := hR_20.at0 ra 7 (by decide)
        replace hg := gt_let (y := (I_18 o 7).toInt) rfl hg
        exact (hp _ _ _ hR_20 hf_21  hg.symm hl)
      · have d_24 := iNle c_14
        replace hg := gt_neg (by first | exact d_24 | omega) hg
        have l_25 : (-1 : Int32).toInt = -1 := rfl
        exact (hp _ _ _ hR hf  hg.symm hl)
noncomputable def gOffice_ran_0 (o : Nat) (J : gJ) (L : gL) (x1 : Int) : Int64 := gLet (J (o + 55) 15) (fun (v_1 : Int) => (if v_1 = 0 then (-1) else (if x1 < 0 then (-1) else (if x1 < 11 then (L ((o + 55) + 65) (Int.toNat x1)) else (-1)))))
theorem eOffice_ran_0 {o : Nat} {J : gJ} {L : gL} {x1 : Int} : gOffice_ran_0 o J L x1 = gLet (J (o + 55) 15) (fun (v_1 : Int) => (if v_1 = 0 then (-1) else (if x1 < 0 then (-1) else (if x1 < 11 then (L ((o + 55) + 65) (Int.toNat x1)) else (-1))))) := rfl
set_option maxHeartbeats 4000000 in
set_option maxRecDepth 20000 in
theorem y_Office_rang {D : va_G} {cA : FieldType → ClassId} {b : Nat} {E : State → Prop} {R : qRg} {o n : Nat} {sh : Nat → qC} {Rf : Nat → Nat → Option Nat} {I0 : Nat → Nat → Int32} {L0 : Nat → Nat → Int64} {post : Option Value → qS → Prop} {p1 : Int32} (hok : q_ok (qGG D cA b E)) (hw : WfOffice (qGG D cA b E) n sh Rf o) (ra : RAOffice R o) (hR : RI R I0) (hp : ∀ (r : Int64) , (gOffice_ran_0 o (tI I0) L0 (p1).toInt = r) → post (some (.long r)) (n, sh, Rf, I0, L0)) : Ev (qGG D cA b E) mOffice_ran 0 (0, 0) 0 (lv_args 0 [.ref o, .int p1]) [] (n, sh, Rf, I0, L0) post := by
  refine sOffice_ran_0 o n sh Rf I0 L0 post p1 hok hw ?_
  unfold fOffice_ran_0
  have hg : gOffice_ran_0 o (tI I0) L0 (p1).toInt = gOffice_ran_0 o (tI I0) L0 (p1).toInt := rfl
  replace hg := (eOffice_ran_0).symm.trans hg
  replace hg := gt_let (y := (I0 (o + 55) 15).toInt) rfl hg
  have l_1 : (0 : Int32).toInt = 0 := rfl
  refine ⟨fun c_2 => ?_, fun c_2 => ?_⟩
  · have d_3 := iEq c_2
    replace hg := gt_pos (by first | exact d_3 | omega) hg
    exact (hp _  hg.symm)
  · have d_4 := iNe c_2
    replace hg := gt_neg (by first | exact d_4 | omega) hg
    refine ⟨fun c_5 => ?_, fun c_5 => ?_⟩
    · have d_6 := iLt c_5
      replace hg := gt_pos (by first | exact d_6 | omega) hg
      exact (hp _  hg.symm)
    · have d_7 := iNlt c_5
      replace hg := gt_neg (by first | exact d_7 | omega) hg
      have l_8 : (11 : Int32).toInt = 11 := rfl
      refine ⟨fun c_9 => ?_, fun c_9 => ?_⟩
      · have d_10 := iLt c_9
        replace hg := gt_pos (by first | exact d_10 | omega) hg
        refine ⟨tIn (by omega) (by omega), ?_⟩
        exact (hp _  hg.symm)
      · have d_11 := iNlt c_9
        replace hg := gt_neg (by first | exact d_11 | omega) hg
        exact (hp _  hg.symm)
noncomputable def gOffice_fort_0 (o uo_1 : Nat) (J : gJ) (L : gL) (x1 : Int) (x2 : Int) (x3 : Int) : Int := gLet (gOffice_ranMonth_0 o J L x2) (fun (r_1 : Int) => (if r_1 = 0 then (-1) else (if x1 < 0 then (-1) else gLet (J uo_1 1) (fun (v_2 : Int) => (if v_2 ≤ x1 then (-1) else gLet (gOffice_within_0  J L x3 0 1) (fun (r_3 : Int) => (if r_3 = 0 then (-1) else gLet (x2 * 3) (fun (v_4 : Int) => gLet (v_4 + x1) (fun (v_5 : Int) => gLet (v_5 * 2) (fun (v_6 : Int) => gLet (v_6 + x3) (fun (v_7 : Int) => gLet (J (((o + 55) + 53) + 1) (Int.toNat v_7)) (fun (v_8 : Int) => v_8))))))))))))
theorem eOffice_fort_0 {o uo_1 : Nat} {J : gJ} {L : gL} {x1 : Int} {x2 : Int} {x3 : Int} : gOffice_fort_0 o uo_1 J L x1 x2 x3 = gLet (gOffice_ranMonth_0 o J L x2) (fun (r_1 : Int) => (if r_1 = 0 then (-1) else (if x1 < 0 then (-1) else gLet (J uo_1 1) (fun (v_2 : Int) => (if v_2 ≤ x1 then (-1) else gLet (gOffice_within_0  J L x3 0 1) (fun (r_3 : Int) => (if r_3 = 0 then (-1) else gLet (x2 * 3) (fun (v_4 : Int) => gLet (v_4 + x1) (fun (v_5 : Int) => gLet (v_5 * 2) (fun (v_6 : Int) => gLet (v_6 + x3) (fun (v_7 : Int) => gLet (J (((o + 55) + 53) + 1) (Int.toNat v_7)) (fun (v_8 : Int) => v_8)))))))))))) := rfl
set_option maxHeartbeats 4000000 in
set_option maxRecDepth 20000 in
theorem y_Office_fortg {D : va_G} {cA : FieldType → ClassId} {b : Nat} {E : State → Prop} {R : qRg} {o n : Nat} {sh : Nat → qC} {Rf : Nat → Nat → Option Nat} {I0 : Nat → Nat → Int32} {L0 : Nat → Nat → Int64} {post : Option Value → qS → Prop} {uo_1 : Nat} {p1 : Int32} {p2 : Int32} {p3 : Int32} (hok : q_ok (qGG D cA b E)) (hw : WfOffice (qGG D cA b E) n sh Rf o) (ra : RAOffice R o) (hwuo_1 : WfLand (qGG D cA b E) n sh Rf uo_1) (rauo_1 : RALand R uo_1) (huo_1 : Rf o 1 = some uo_1) (hR : RI R I0) (hp : ∀ (r : Int32) , (gOffice_fort_0 o uo_1 (tI I0) L0 (p1).toInt (p2).toInt (p3).toInt = r.toInt) → post (some (.int r)) (n, sh, Rf, I0, L0)) : Ev (qGG D cA b E) mOffice_fort 1 (0, 0) 0 (lv_args 0 [.ref o, .int p1, .int p2, .int p3]) [] (n, sh, Rf, I0, L0) post := by
  refine sOffice_fort_0 o n sh Rf I0 L0 post p1 p2 p3 uo_1 hok hw huo_1 hwuo_1 ?_
  unfold fOffice_fort_0
  have hg : gOffice_fort_0 o uo_1 (tI I0) L0 (p1).toInt (p2).toInt (p3).toInt = gOffice_fort_0 o uo_1 (tI I0) L0 (p1).toInt (p2).toInt (p3).toInt := rfl
  replace hg := (eOffice_fort_0).symm.trans hg
  refine y_Office_ranMonthg hok hw ra hR (fun r_1 u_2 u_3 gn_4 => ⟨r_1, I0, L0, rfl, rfl, ?_⟩)
  replace hg := gt_let gn_4 hg
  clear gn_4
  have b_5 : 0 ≤ r_1.toInt ∧ r_1.toInt ≤ 1 := u_2.rg
  have l_6 : (0 : Int32).toInt = 0 := rfl
  refine ⟨fun c_7 => ?_, fun c_7 => ?_⟩
  · have d_8 := iEq c_7
    replace hg := gt_pos (by first | exact d_8 | omega) hg
    have l_9 : (-1 : Int32).toInt = -1 := rfl
    exact (hp _  hg.symm)
  · have d_10 := iNe c_7
    replace hg := gt_neg (by first | exact d_10 | omega) hg
    have rm := u_3 (by omega)
    refine ⟨fun c_11 => ?_, fun c_11 => ?_⟩
    · have d_12 := iLt c_11
      replace hg := gt_pos (by first | exact d_12 | omega) hg
      have l_13 : (-1 : Int32).toInt = -1 := rfl
      exact (hp _  hg.symm)
    · have d_14 := iNlt c_11
      replace hg := gt_neg (by first | exact d_14 | omega) hg
      have g_15 : (0 : Int) ≤ (I0 uo_1 1).toInt ∧ (I0 uo_1 1).toInt ≤ 3 := hR.at0 rauo_1 1 (by decide)
      replace hg := gt_let (y := (I0 uo_1 1).toInt) rfl hg
      refine ⟨fun c_16 => ?_, fun c_16 => ?_⟩
      · have d_17 := iLe c_16
        replace hg := gt_pos (by first | exact d_17 | omega) hg
        have l_18 : (-1 : Int32).toInt = -1 := rfl
        exact (hp _  hg.symm)
      · have d_19 := iNle c_16
        replace hg := gt_neg (by first | exact d_19 | omega) hg
        have l_20 : (1 : Int32).toInt = 1 := rfl
        refine y_Office_withing hok hR (fun r_21 u_22 u_23 u_24 gn_25 => ⟨r_21, I0, L0, rfl, rfl, ?_⟩)
        replace hg := gt_let gn_25 hg
        clear gn_25
        have b_26 : 0 ≤ r_21.toInt ∧ r_21.toInt ≤ 1 := u_22.rg
        refine ⟨fun c_27 => ?_, fun c_27 => ?_⟩
        · have d_28 := iNe c_27
          replace hg := gt_neg (by first | exact d_28 | omega) hg
          have wn := u_23 (by omega)
          have l_29 : (3 : Int32).toInt = 3 := rfl
          have a_30 : (p2 * 3).toInt = p2.toInt * 3 := tMul rfl (by omega) (by omega)
          replace hg := gt_let (y := ((p2 * 3) : Int32).toInt) (by omega) hg
          have a_31 : ((p2 * 3) + p1).toInt = (p2 * 3).toInt + p1.toInt := tAdd (by omega) (by omega)
          replace hg := gt_let (y := (((p2 * 3) + p1) : Int32).toInt) (by omega) hg
          have l_32 : (2 : Int32).toInt = 2 := rfl
          have a_33 : (((p2 * 3) + p1) * 2).toInt = ((p2 * 3) + p1).toInt * 2 := tMul rfl (by omega) (by omega)
          replace hg := gt_let (y := ((((p2 * 3) + p1) * 2) : Int32).toInt) (by omega) hg
          have a_34 : ((((p2 * 3) + p1) * 2) + p3).toInt = (((p2 * 3) + p1) * 2).toInt + p3.toInt := tAdd (by omega) (by omega)
          replace hg := gt_let (y := (((((p2 * 3) + p1) * 2) + p3) : Int32).toInt) (by omega) hg
          refine ⟨tIn (by omega) (by omega), ?_⟩
          replace hg := gt_let (y := (I0 (((o + 55) + 53) + 1) (((((p2 * 3) + p1) * 2) + p3) : Int32).toNatClampNeg).toInt) rfl hg
          exact (hp _  hg.symm)
        · have d_35 := iEq c_27
          replace hg := gt_pos (by first | exact d_35 | omega) hg
          have l_36 : (-1 : Int32).toInt = -1 := rfl
          exact (hp _  hg.symm)
noncomputable def gOffice_pan_0 (o uo_1 : Nat) (J : gJ) (L : gL) (x1 : Int) (x2 : Int) (x3 : Int) : Int := gLet (gOffice_ranMonth_0 o J L x2) (fun (r_1 : Int) => (if r_1 = 0 then (-1) else (if x1 < 0 then (-1) else gLet (J uo_1 2) (fun (v_2 : Int) => (if v_2 ≤ x1 then (-1) else gLet (gOffice_within_0  J L x3 0 1) (fun (r_3 : Int) => (if r_3 = 0 then (-1) else gLet (x2 * 3) (fun (v_4 : Int) => gLet (v_4 + x1) (fun (v_5 : Int) => gLet (v_5 * 2) (fun (v_6 : Int) => gLet (v_6 + x3) (fun (v_7 : Int) => gLet (J (((o + 55) + 53) + 2) (Int.toNat v_7)) (fun (v_8 : Int) => v_8))))))))))))
theorem eOffice_pan_0 {o uo_1 : Nat} {J : gJ} {L : gL} {x1 : Int} {x2 : Int} {x3 : Int} : gOffice_pan_0 o uo_1 J L x1 x2 x3 = gLet (gOffice_ranMonth_0 o J L x2) (fun (r_1 : Int) => (if r_1 = 0 then (-1) else (if x1 < 0 then (-1) else gLet (J uo_1 2) (fun (v_2 : Int) => (if v_2 ≤ x1 then (-1) else gLet (gOffice_within_0  J L x3 0 1) (fun (r_3 : Int) => (if r_3 = 0 then (-1) else gLet (x2 * 3) (fun (v_4 : Int) => gLet (v_4 + x1) (fun (v_5 : Int) => gLet (v_5 * 2) (fun (v_6 : Int) => gLet (v_6 + x3) (fun (v_7 : Int) => gLet (J (((o + 55) + 53) + 2) (Int.toNat v_7)) (fun (v_8 : Int) => v_8)))))))))))) := rfl
set_option maxHeartbeats 4000000 in
set_option maxRecDepth 20000 in
theorem y_Office_pang {D : va_G} {cA : FieldType → ClassId} {b : Nat} {E : State → Prop} {R : qRg} {o n : Nat} {sh : Nat → qC} {Rf : Nat → Nat → Option Nat} {I0 : Nat → Nat → Int32} {L0 : Nat → Nat → Int64} {post : Option Value → qS → Prop} {uo_1 : Nat} {p1 : Int32} {p2 : Int32} {p3 : Int32} (hok : q_ok (qGG D cA b E)) (hw : WfOffice (qGG D cA b E) n sh Rf o) (ra : RAOffice R o) (hwuo_1 : WfLand (qGG D cA b E) n sh Rf uo_1) (rauo_1 : RALand R uo_1) (huo_1 : Rf o 1 = some uo_1) (hR : RI R I0) (hp : ∀ (r : Int32) , (gOffice_pan_0 o uo_1 (tI I0) L0 (p1).toInt (p2).toInt (p3).toInt = r.toInt) → post (some (.int r)) (n, sh, Rf, I0, L0)) : Ev (qGG D cA b E) mOffice_pan 1 (0, 0) 0 (lv_args 0 [.ref o, .int p1, .int p2, .int p3]) [] (n, sh, Rf, I0, L0) post := by
  refine sOffice_pan_0 o n sh Rf I0 L0 post p1 p2 p3 uo_1 hok hw huo_1 hwuo_1 ?_
  unfold fOffice_pan_0
  have hg : gOffice_pan_0 o uo_1 (tI I0) L0 (p1).toInt (p2).toInt (p3).toInt = gOffice_pan_0 o uo_1 (tI I0) L0 (p1).toInt (p2).toInt (p3).toInt := rfl
  replace hg := (eOffice_pan_0).symm.trans hg
  refine y_Office_ranMonthg hok hw ra hR (fun r_1 u_2 u_3 gn_4 => ⟨r_1, I0, L0, rfl, rfl, ?_⟩)
  replace hg := gt_let gn_4 hg
  clear gn_4
  have b_5 : 0 ≤ r_1.toInt ∧ r_1.toInt ≤ 1 := u_2.rg
  have l_6 : (0 : Int32).toInt = 0 := rfl
  refine ⟨fun c_7 => ?_, fun c_7 => ?_⟩
  · have d_8 := iEq c_7
    replace hg := gt_pos (by first | exact d_8 | omega) hg
    have l_9 : (-1 : Int32).toInt = -1 := rfl
    exact (hp _  hg.symm)
  · have d_10 := iNe c_7
    replace hg := gt_neg (by first | exact d_10 | omega) hg
    have rm := u_3 (by omega)
    refine ⟨fun c_11 => ?_, fun c_11 => ?_⟩
    · have d_12 := iLt c_11
      replace hg := gt_pos (by first | exact d_12 | omega) hg
      have l_13 : (-1 : Int32).toInt = -1 := rfl
      exact (hp _  hg.symm)
    · have d_14 := iNlt c_11
      replace hg := gt_neg (by first | exact d_14 | omega) hg
      have g_15 : (0 : Int) ≤ (I0 uo_1 2).toInt ∧ (I0 uo_1 2).toInt ≤ 3 := hR.at0 rauo_1 2 (by decide)
      replace hg := gt_let (y := (I0 uo_1 2).toInt) rfl hg
      refine ⟨fun c_16 => ?_, fun c_16 => ?_⟩
      · have d_17 := iLe c_16
        replace hg := gt_pos (by first | exact d_17 | omega) hg
        have l_18 : (-1 : Int32).toInt = -1 := rfl
        exact (hp _  hg.symm)
      · have d_19 := iNle c_16
        replace hg := gt_neg (by first | exact d_19 | omega) hg
        have l_20 : (1 : Int32).toInt = 1 := rfl
        refine y_Office_withing hok hR (fun r_21 u_22 u_23 u_24 gn_25 => ⟨r_21, I0, L0, rfl, rfl, ?_⟩)
        replace hg := gt_let gn_25 hg
        clear gn_25
        have b_26 : 0 ≤ r_21.toInt ∧ r_21.toInt ≤ 1 := u_22.rg
        refine ⟨fun c_27 => ?_, fun c_27 => ?_⟩
        · have d_28 := iNe c_27
          replace hg := gt_neg (by first | exact d_28 | omega) hg
          have wn := u_23 (by omega)
          have l_29 : (3 : Int32).toInt = 3 := rfl
          have a_30 : (p2 * 3).toInt = p2.toInt * 3 := tMul rfl (by omega) (by omega)
          replace hg := gt_let (y := ((p2 * 3) : Int32).toInt) (by omega) hg
          have a_31 : ((p2 * 3) + p1).toInt = (p2 * 3).toInt + p1.toInt := tAdd (by omega) (by omega)
          replace hg := gt_let (y := (((p2 * 3) + p1) : Int32).toInt) (by omega) hg
          have l_32 : (2 : Int32).toInt = 2 := rfl
          have a_33 : (((p2 * 3) + p1) * 2).toInt = ((p2 * 3) + p1).toInt * 2 := tMul rfl (by omega) (by omega)
          replace hg := gt_let (y := ((((p2 * 3) + p1) * 2) : Int32).toInt) (by omega) hg
          have a_34 : ((((p2 * 3) + p1) * 2) + p3).toInt = (((p2 * 3) + p1) * 2).toInt + p3.toInt := tAdd (by omega) (by omega)
          replace hg := gt_let (y := (((((p2 * 3) + p1) * 2) + p3) : Int32).toInt) (by omega) hg
          refine ⟨tIn (by omega) (by omega), ?_⟩
          replace hg := gt_let (y := (I0 (((o + 55) + 53) + 2) (((((p2 * 3) + p1) * 2) + p3) : Int32).toNatClampNeg).toInt) rfl hg
          exact (hp _  hg.symm)
        · have d_35 := iEq c_27
          replace hg := gt_pos (by first | exact d_35 | omega) hg
          have l_36 : (-1 : Int32).toInt = -1 := rfl
          exact (hp _  hg.symm)
noncomputable def gOffice_town_0 (o uo_1 : Nat) (J : gJ) (L : gL) (x1 : Int) (x2 : Int) (x3 : Int) : Int := gLet (gOffice_ranMonth_0 o J L x2) (fun (r_1 : Int) => (if r_1 = 0 then (-1) else (if x1 < 0 then (-1) else gLet (J uo_1 3) (fun (v_2 : Int) => (if v_2 ≤ x1 then (-1) else gLet (gOffice_within_0  J L x3 0 2) (fun (r_3 : Int) => (if r_3 = 0 then (-1) else gLet (x2 * 5) (fun (v_4 : Int) => gLet (v_4 + x1) (fun (v_5 : Int) => gLet (v_5 * 3) (fun (v_6 : Int) => gLet (v_6 + x3) (fun (v_7 : Int) => gLet (J (((o + 55) + 53) + 3) (Int.toNat v_7)) (fun (v_8 : Int) => v_8))))))))))))
theorem eOffice_town_0 {o uo_1 : Nat} {J : gJ} {L : gL} {x1 : Int} {x2 : Int} {x3 : Int} : gOffice_town_0 o uo_1 J L x1 x2 x3 = gLet (gOffice_ranMonth_0 o J L x2) (fun (r_1 : Int) => (if r_1 = 0 then (-1) else (if x1 < 0 then (-1) else gLet (J uo_1 3) (fun (v_2 : Int) => (if v_2 ≤ x1 then (-1) else gLet (gOffice_within_0  J L x3 0 2) (fun (r_3 : Int) => (if r_3 = 0 then (-1) else gLet (x2 * 5) (fun (v_4 : Int) => gLet (v_4 + x1) (fun (v_5 : Int) => gLet (v_5 * 3) (fun (v_6 : Int) => gLet (v_6 + x3) (fun (v_7 : Int) => gLet (J (((o + 55) + 53) + 3) (Int.toNat v_7)) (fun (v_8 : Int) => v_8)))))))))))) := rfl
set_option maxHeartbeats 4000000 in
set_option maxRecDepth 20000 in
theorem y_Office_towng {D : va_G} {cA : FieldType → ClassId} {b : Nat} {E : State → Prop} {R : qRg} {o n : Nat} {sh : Nat → qC} {Rf : Nat → Nat → Option Nat} {I0 : Nat → Nat → Int32} {L0 : Nat → Nat → Int64} {post : Option Value → qS → Prop} {uo_1 : Nat} {p1 : Int32} {p2 : Int32} {p3 : Int32} (hok : q_ok (qGG D cA b E)) (hw : WfOffice (qGG D cA b E) n sh Rf o) (ra : RAOffice R o) (hwuo_1 : WfLand (qGG D cA b E) n sh Rf uo_1) (rauo_1 : RALand R uo_1) (huo_1 : Rf o 1 = some uo_1) (hR : RI R I0) (hp : ∀ (r : Int32) , (gOffice_town_0 o uo_1 (tI I0) L0 (p1).toInt (p2).toInt (p3).toInt = r.toInt) → post (some (.int r)) (n, sh, Rf, I0, L0)) : Ev (qGG D cA b E) mOffice_town 1 (0, 0) 0 (lv_args 0 [.ref o, .int p1, .int p2, .int p3]) [] (n, sh, Rf, I0, L0) post := by
  refine sOffice_town_0 o n sh Rf I0 L0 post p1 p2 p3 uo_1 hok hw huo_1 hwuo_1 ?_
  unfold fOffice_town_0
  have hg : gOffice_town_0 o uo_1 (tI I0) L0 (p1).toInt (p2).toInt (p3).toInt = gOffice_town_0 o uo_1 (tI I0) L0 (p1).toInt (p2).toInt (p3).toInt := rfl
  replace hg := (eOffice_town_0).symm.trans hg
  refine y_Office_ranMonthg hok hw ra hR (fun r_1 u_2 u_3 gn_4 => ⟨r_1, I0, L0, rfl, rfl, ?_⟩)
  replace hg := gt_let gn_4 hg
  clear gn_4
  have b_5 : 0 ≤ r_1.toInt ∧ r_1.toInt ≤ 1 := u_2.rg
  have l_6 : (0 : Int32).toInt = 0 := rfl
  refine ⟨fun c_7 => ?_, fun c_7 => ?_⟩
  · have d_8 := iEq c_7
    replace hg := gt_pos (by first | exact d_8 | omega) hg
    have l_9 : (-1 : Int32).toInt = -1 := rfl
    exact (hp _  hg.symm)
  · have d_10 := iNe c_7
    replace hg := gt_neg (by first | exact d_10 | omega) hg
    have rm := u_3 (by omega)
    refine ⟨fun c_11 => ?_, fun c_11 => ?_⟩
    · have d_12 := iLt c_11
      replace hg := gt_pos (by first | exact d_12 | omega) hg
      have l_13 : (-1 : Int32).toInt = -1 := rfl
      exact (hp _  hg.symm)
    · have d_14 := iNlt c_11
      replace hg := gt_neg (by first | exact d_14 | omega) hg
      have g_15 : (0 : Int) ≤ (I0 uo_1 3).toInt ∧ (I0 uo_1 3).toInt ≤ 5 := hR.at0 rauo_1 3 (by decide)
      replace hg := gt_let (y := (I0 uo_1 3).toInt) rfl hg
      refine ⟨fun c_16 => ?_, fun c_16 => ?_⟩
      · have d_17 := iLe c_16
        replace hg := gt_pos (by first | exact d_17 | omega) hg
        have l_18 : (-1 : Int32).toInt = -1 := rfl
        exact (hp _  hg.symm)
      · have d_19 := iNle c_16
        replace hg := gt_neg (by first | exact d_19 | omega) hg
        have l_20 : (2 : Int32).toInt = 2 := rfl
        refine y_Office_withing hok hR (fun r_21 u_22 u_23 u_24 gn_25 => ⟨r_21, I0, L0, rfl, rfl, ?_⟩)
        replace hg := gt_let gn_25 hg
        clear gn_25
        have b_26 : 0 ≤ r_21.toInt ∧ r_21.toInt ≤ 1 := u_22.rg
        refine ⟨fun c_27 => ?_, fun c_27 => ?_⟩
        · have d_28 := iNe c_27
          replace hg := gt_neg (by first | exact d_28 | omega) hg
          have wn := u_23 (by omega)
          have l_29 : (5 : Int32).toInt = 5 := rfl
          have a_30 : (p2 * 5).toInt = p2.toInt * 5 := tMul rfl (by omega) (by omega)
          replace hg := gt_let (y := ((p2 * 5) : Int32).toInt) (by omega) hg
          have a_31 : ((p2 * 5) + p1).toInt = (p2 * 5).toInt + p1.toInt := tAdd (by omega) (by omega)
          replace hg := gt_let (y := (((p2 * 5) + p1) : Int32).toInt) (by omega) hg
          have l_32 : (3 : Int32).toInt = 3 := rfl
          have a_33 : (((p2 * 5) + p1) * 3).toInt = ((p2 * 5) + p1).toInt * 3 := tMul rfl (by omega) (by omega)
          replace hg := gt_let (y := ((((p2 * 5) + p1) * 3) : Int32).toInt) (by omega) hg
          have a_34 : ((((p2 * 5) + p1) * 3) + p3).toInt = (((p2 * 5) + p1) * 3).toInt + p3.toInt := tAdd (by omega) (by omega)
          replace hg := gt_let (y := (((((p2 * 5) + p1) * 3) + p3) : Int32).toInt) (by omega) hg
          refine ⟨tIn (by omega) (by omega), ?_⟩
          replace hg := gt_let (y := (I0 (((o + 55) + 53) + 3) (((((p2 * 5) + p1) * 3) + p3) : Int32).toNatClampNeg).toInt) rfl hg
          exact (hp _  hg.symm)
        · have d_35 := iEq c_27
          replace hg := gt_pos (by first | exact d_35 | omega) hg
          have l_36 : (-1 : Int32).toInt = -1 := rfl
          exact (hp _  hg.symm)
noncomputable def gOffice_book_0 (o : Nat) (J : gJ) (L : gL) (x1 : Int) (x2 : Int) (x3 : Int) : Int64 := gLet (gOffice_ranMonth_0 o J L x2) (fun (r_1 : Int) => (if r_1 = 0 then (-1) else (if x1 < 0 then (-1) else gLet (J (o + 46) 1) (fun (v_2 : Int) => (if v_2 ≤ x1 then (-1) else gLet (gOffice_within_0  J L x3 0 2) (fun (r_3 : Int) => (if r_3 = 0 then (-1) else gLet (x2 * 6) (fun (v_4 : Int) => gLet (v_4 + x1) (fun (v_5 : Int) => gLet (v_5 * 3) (fun (v_6 : Int) => gLet (v_6 + x3) (fun (v_7 : Int) => (L (((o + 55) + 53) + 4) (Int.toNat v_7)))))))))))))
theorem eOffice_book_0 {o : Nat} {J : gJ} {L : gL} {x1 : Int} {x2 : Int} {x3 : Int} : gOffice_book_0 o J L x1 x2 x3 = gLet (gOffice_ranMonth_0 o J L x2) (fun (r_1 : Int) => (if r_1 = 0 then (-1) else (if x1 < 0 then (-1) else gLet (J (o + 46) 1) (fun (v_2 : Int) => (if v_2 ≤ x1 then (-1) else gLet (gOffice_within_0  J L x3 0 2) (fun (r_3 : Int) => (if r_3 = 0 then (-1) else gLet (x2 * 6) (fun (v_4 : Int) => gLet (v_4 + x1) (fun (v_5 : Int) => gLet (v_5 * 3) (fun (v_6 : Int) => gLet (v_6 + x3) (fun (v_7 : Int) => (L (((o + 55) + 53) + 4) (Int.toNat v_7))))))))))))) := rfl
set_option maxHeartbeats 4000000 in
set_option maxRecDepth 20000 in
theorem y_Office_bookg {D : va_G} {cA : FieldType → ClassId} {b : Nat} {E : State → Prop} {R : qRg} {o n : Nat} {sh : Nat → qC} {Rf : Nat → Nat → Option Nat} {I0 : Nat → Nat → Int32} {L0 : Nat → Nat → Int64} {post : Option Value → qS → Prop} {p1 : Int32} {p2 : Int32} {p3 : Int32} (hok : q_ok (qGG D cA b E)) (hw : WfOffice (qGG D cA b E) n sh Rf o) (ra : RAOffice R o) (hR : RI R I0) (hp : ∀ (r : Int64) , (gOffice_book_0 o (tI I0) L0 (p1).toInt (p2).toInt (p3).toInt = r) → post (some (.long r)) (n, sh, Rf, I0, L0)) : Ev (qGG D cA b E) mOffice_book 1 (0, 0) 0 (lv_args 0 [.ref o, .int p1, .int p2, .int p3]) [] (n, sh, Rf, I0, L0) post := by
  refine sOffice_book_0 o n sh Rf I0 L0 post p1 p2 p3 hok hw ?_
  unfold fOffice_book_0
  have hg : gOffice_book_0 o (tI I0) L0 (p1).toInt (p2).toInt (p3).toInt = gOffice_book_0 o (tI I0) L0 (p1).toInt (p2).toInt (p3).toInt := rfl
  replace hg := (eOffice_book_0).symm.trans hg
  refine y_Office_ranMonthg hok hw ra hR (fun r_1 u_2 u_3 gn_4 => ⟨r_1, I0, L0, rfl, rfl, ?_⟩)
  replace hg := gt_let gn_4 hg
  clear gn_4
  have b_5 : 0 ≤ r_1.toInt ∧ r_1.toInt ≤ 1 := u_2.rg
  have l_6 : (0 : Int32).toInt = 0 := rfl
  refine ⟨fun c_7 => ?_, fun c_7 => ?_⟩
  · have d_8 := iEq c_7
    replace hg := gt_pos (by first | exact d_8 | omega) hg
    exact (hp _  hg.symm)
  · have d_9 := iNe c_7
    replace hg := gt_neg (by first | exact d_9 | omega) hg
    have rm := u_3 (by omega)
    refine ⟨fun c_10 => ?_, fun c_10 => ?_⟩
    · have d_11 := iLt c_10
      replace hg := gt_pos (by first | exact d_11 | omega) hg
      exact (hp _  hg.symm)
    · have d_12 := iNlt c_10
      replace hg := gt_neg (by first | exact d_12 | omega) hg
      have g_13 : (0 : Int) ≤ (I0 (o + 46) 1).toInt ∧ (I0 (o + 46) 1).toInt ≤ 6 := hR.at0 (rsOffice_5 ra) 1 (by decide)
      replace hg := gt_let (y := (I0 (o + 46) 1).toInt) rfl hg
      refine ⟨fun c_14 => ?_, fun c_14 => ?_⟩
      · have d_15 := iLe c_14
        replace hg := gt_pos (by first | exact d_15 | omega) hg
        exact (hp _  hg.symm)
      · have d_16 := iNle c_14
        replace hg := gt_neg (by first | exact d_16 | omega) hg
        have l_17 : (2 : Int32).toInt = 2 := rfl
        refine y_Office_withing hok hR (fun r_18 u_19 u_20 u_21 gn_22 => ⟨r_18, I0, L0, rfl, rfl, ?_⟩)
        replace hg := gt_let gn_22 hg
        clear gn_22
        have b_23 : 0 ≤ r_18.toInt ∧ r_18.toInt ≤ 1 := u_19.rg
        refine ⟨fun c_24 => ?_, fun c_24 => ?_⟩
        · have d_25 := iNe c_24
          replace hg := gt_neg (by first | exact d_25 | omega) hg
          have wn := u_20 (by omega)
          have l_26 : (6 : Int32).toInt = 6 := rfl
          have a_27 : (p2 * 6).toInt = p2.toInt * 6 := tMul rfl (by omega) (by omega)
          replace hg := gt_let (y := ((p2 * 6) : Int32).toInt) (by omega) hg
          have a_28 : ((p2 * 6) + p1).toInt = (p2 * 6).toInt + p1.toInt := tAdd (by omega) (by omega)
          replace hg := gt_let (y := (((p2 * 6) + p1) : Int32).toInt) (by omega) hg
          have l_29 : (3 : Int32).toInt = 3 := rfl
          have a_30 : (((p2 * 6) + p1) * 3).toInt = ((p2 * 6) + p1).toInt * 3 := tMul rfl (by omega) (by omega)
          replace hg := gt_let (y := ((((p2 * 6) + p1) * 3) : Int32).toInt) (by omega) hg
          have a_31 : ((((p2 * 6) + p1) * 3) + p3).toInt = (((p2 * 6) + p1) * 3).toInt + p3.toInt := tAdd (by omega) (by omega)
          replace hg := gt_let (y := (((((p2 * 6) + p1) * 3) + p3) : Int32).toInt) (by omega) hg
          refine ⟨tIn (by omega) (by omega), ?_⟩
          exact (hp _  hg.symm)
        · have d_32 := iEq c_24
          replace hg := gt_pos (by first | exact d_32 | omega) hg
          exact (hp _  hg.symm)
set_option maxHeartbeats 4000000 in
set_option maxRecDepth 20000 in
theorem y_Office_paperl {D : va_G} {cA : FieldType → ClassId} {b : Nat} {E : State → Prop} {R : qRg} {o n : Nat} {sh : Nat → qC} {Rf : Nat → Nat → Option Nat} {I0 : Nat → Nat → Int32} {L0 : Nat → Nat → Int64} {post : Option Value → qS → Prop} {p1 : Int32} {p2 : Int32} (hok : q_ok (qGG D cA b E)) (hw : WfOffice (qGG D cA b E) n sh Rf o) (ra : RAOffice R o) (hR : RI R I0) (hp : ∀ (r : Int32) , post (some (.int r)) (n, sh, Rf, I0, L0)) : Ev (qGG D cA b E) mOffice_paper 1 (0, 0) 0 (lv_args 0 [.ref o, .int p1, .int p2]) [] (n, sh, Rf, I0, L0) post := by
  refine sOffice_paper_0 o n sh Rf I0 L0 post p1 p2 hok hw ?_
  unfold fOffice_paper_0
  have l_1 : (0 : Int32).toInt = 0 := rfl
  refine ⟨fun c_2 => ?_, fun c_2 => ?_⟩
  · have d_3 := iEq c_2
    have l_4 : (-1 : Int32).toInt = -1 := rfl
    exact (hp _ )
  · have d_5 := iNe c_2
    refine ⟨fun c_6 => ?_, fun c_6 => ?_⟩
    · have d_7 := iLt c_6
      have l_8 : (-1 : Int32).toInt = -1 := rfl
      exact (hp _ )
    · have d_9 := iNlt c_6
      have g_10 : (0 : Int) ≤ (I0 ((o + 55) + 31) 12).toInt ∧ (I0 ((o + 55) + 31) 12).toInt ≤ 1440 := hR.at0 (rsRun_4 (rsOffice_8 ra)) 12 (by decide)
      refine ⟨fun c_11 => ?_, fun c_11 => ?_⟩
      · have d_12 := iLt c_11
        refine y_Papers_detaill hok (wsRun_4 (wsOffice_8 hw)) (rsRun_4 (rsOffice_8 ra)) (by first | omega | (intro h; omega) | exact Or.inl rfl | exact Or.inr rfl) hR (fun r_13  => ⟨r_13, I0, L0, rfl, rfl, ?_⟩)
        exact (hp _ )
      · have d_14 := iNlt c_11
        have l_15 : (-1 : Int32).toInt = -1 := rfl
        exact (hp _ )
set_option maxHeartbeats 4000000 in
set_option maxRecDepth 20000 in
theorem y_Office_wayl {D : va_G} {cA : FieldType → ClassId} {b : Nat} {E : State → Prop} {R : qRg} {o n : Nat} {sh : Nat → qC} {Rf : Nat → Nat → Option Nat} {I0 : Nat → Nat → Int32} {L0 : Nat → Nat → Int64} {post : Option Value → qS → Prop} {ul : Nat} {ut : Nat} {p1 : Int32} {p2 : Int32} (hok : q_ok (qGG D cA b E)) (hw : WfOffice (qGG D cA b E) n sh Rf o) (ra : RAOffice R o) (hwul : WfLand (qGG D cA b E) n sh Rf ul) (raul : RALand R ul) (hwut : WfTrade (qGG D cA b E) n sh Rf ut) (raut : RATrade R ut) (hul : Rf (o + 55) 0 = some ul) (hut : Rf (o + 55) 1 = some ut) (hEN : qEN E) (hR : RI R I0) (hp : ∀ (r : Int64) (I' : Nat → Nat → Int32) (L' : Nat → Nat → Int64), RI R I' → Fm (fun c => c = o + 55 + 58 ∨ c = o + 55 + 59 ∨ (o + 55 + 19 ≤ c ∧ c < o + 55 + 24)) I0 I' → (FmL (fun c => c = ((o + 55) + 58) ∨ c = (o + 55)) L0 L') → post (some (.long r)) (n, sh, Rf, I', L')) : Ev (qGG D cA b E) mOffice_way 5 (0, 0) 0 (lv_args 0 [.ref o, .int p1, .int p2]) [] (n, sh, Rf, I0, L0) post := by
  have hf : Fm (fun c => c = o + 55 + 58 ∨ c = o + 55 + 59 ∨ (o + 55 + 19 ≤ c ∧ c < o + 55 + 24)) I0 I0 := Fm.rf
  refine sOffice_way_0 o n sh Rf I0 L0 post p1 p2 hok hw ?_
  unfold fOffice_way_0
  have hl : FmL (fun c => c = ((o + 55) + 58) ∨ c = (o + 55)) L0 L0 := FmL.rf
  have l_1 : (0 : Int32).toInt = 0 := rfl
  refine ⟨fun c_2 => ?_, fun c_2 => ?_⟩
  · have d_3 := iEq c_2
    exact (hp _ _ _ hR hf  hl)
  · have d_4 := iNe c_2
    refine ⟨fun c_5 => ?_, fun c_5 => ?_⟩
    · have d_6 := iLt c_5
      exact (hp _ _ _ hR hf  hl)
    · have d_7 := iNlt c_5
      have g_8 : (0 : Int) ≤ (I0 (o + 46) 1).toInt ∧ (I0 (o + 46) 1).toInt ≤ 6 := hR.at0 (rsOffice_5 ra) 1 (by decide)
      refine ⟨fun c_9 => ?_, fun c_9 => ?_⟩
      · have d_10 := iLe c_9
        exact (hp _ _ _ hR hf  hl)
      · have d_11 := iNle c_9
        refine y_Run_isDeadl hok (wsOffice_8 hw) (rsOffice_8 ra) (by first | omega | (intro h; omega) | exact Or.inl rfl | exact Or.inr rfl) hR (fun r_12 u_13 => ⟨r_12, I0, L0, rfl, rfl, ?_⟩)
        have b_14 : 0 ≤ r_12.toInt ∧ r_12.toInt ≤ 1 := u_13.rg
        refine ⟨fun c_15 => ?_, fun c_15 => ?_⟩
        · have d_16 := iEq c_15
          refine y_Way_choosel hok (wsRun_7 (wsOffice_8 hw)) (rsRun_7 (rsOffice_8 ra)) (wsOffice_8 hw) (rsOffice_8 ra) hwul raul hwut raut hul hut hEN (by first | omega | (intro h; omega) | exact Or.inl rfl | exact Or.inr rfl) (by first | omega | (intro h; omega) | exact Or.inl rfl | exact Or.inr rfl) hR (fun I_20 L_21 hR_22 fr_23 u_18 ln_19 => ⟨I_20, L_21, rfl, rfl, ?_⟩)
          replace hl := hl.call ln_19 (fun c hc => by first | exact hc | exact False.elim hc | (dsimp only at hc ⊢; omega) | omega)
          have hf_24 : Fm (fun c => c = o + 55 + 58 ∨ c = o + 55 + 59 ∨ (o + 55 + 19 ≤ c ∧ c < o + 55 + 24)) I0 I_20 := hf.call fr_23 (fun c hc => by first | exact hc | (dsimp only at hc ⊢; omega) | omega)
          have t_25 : (I_20 (o + 46) 1).toInt = (I0 (o + 46) 1).toInt := by rw [fr_23 (o + 46) (by first | omega | (dsimp only; omega))]
          refine ⟨fun c_26 => ?_, fun c_26 => ?_⟩
          · have d_27 := iEq c_26
            have g_28 : (0 : Int) ≤ (I_20 ((o + 55) + 58) 0).toInt ∧ (I_20 ((o + 55) + 58) 0).toInt ≤ 4 := hR_22.at0 (rsRun_7 (rsOffice_8 ra)) 0 (by decide)
            exact (hp _ _ _ hR_22 hf_24  hl)
          have d_29 := iNe c_26
          have l_31 : (1 : Int32).toInt = 1 := rfl
          refine ⟨fun c_30 => ?_, fun c_30 => ?_⟩
          · have d_32 := iEq c_30
            have g_33 : (-1 : Int) ≤ (I_20 ((o + 55) + 58) 1).toInt ∧ (I_20 ((o + 55) + 58) 1).toInt ≤ 2 := hR_22.at0 (rsRun_7 (rsOffice_8 ra)) 1 (by decide)
            exact (hp _ _ _ hR_22 hf_24  hl)
          have d_34 := iNe c_30
          have l_36 : (2 : Int32).toInt = 2 := rfl
          refine ⟨fun c_35 => ?_, fun c_35 => ?_⟩
          · have d_37 := iEq c_35
            have g_38 : (-1 : Int) ≤ (I_20 ((o + 55) + 58) 2).toInt ∧ (I_20 ((o + 55) + 58) 2).toInt ≤ 4 := hR_22.at0 (rsRun_7 (rsOffice_8 ra)) 2 (by decide)
            exact (hp _ _ _ hR_22 hf_24  hl)
          have d_39 := iNe c_35
          have l_41 : (3 : Int32).toInt = 3 := rfl
          refine ⟨fun c_40 => ?_, fun c_40 => ?_⟩
          · have d_42 := iEq c_40
            exact (hp _ _ _ hR_22 hf_24  hl)
          have d_43 := iNe c_40
          have l_45 : (4 : Int32).toInt = 4 := rfl
          refine ⟨fun c_44 => ?_, fun c_44 => ?_⟩
          · have d_46 := iEq c_44
            exact (hp _ _ _ hR_22 hf_24  hl)
          have d_47 := iNe c_44
          exact (hp _ _ _ hR_22 hf_24  hl)
        · have d_48 := iNe c_15
          exact (hp _ _ _ hR hf  hl)
set_option maxHeartbeats 4000000 in
set_option maxRecDepth 20000 in
theorem y_Office_worthl {D : va_G} {cA : FieldType → ClassId} {b : Nat} {E : State → Prop} {R : qRg} {o n : Nat} {sh : Nat → qC} {Rf : Nat → Nat → Option Nat} {I0 : Nat → Nat → Int32} {L0 : Nat → Nat → Int64} {post : Option Value → qS → Prop} {uo_1 : Nat} {ul : Nat} {ut : Nat} {p1 : Int32} (hok : q_ok (qGG D cA b E)) (hw : WfOffice (qGG D cA b E) n sh Rf o) (ra : RAOffice R o) (hwuo_1 : WfLand (qGG D cA b E) n sh Rf uo_1) (rauo_1 : RALand R uo_1) (hwul : WfLand (qGG D cA b E) n sh Rf ul) (raul : RALand R ul) (hwut : WfTrade (qGG D cA b E) n sh Rf ut) (raut : RATrade R ut) (huo_1 : Rf o 1 = some uo_1) (hul : Rf (o + 55) 0 = some ul) (hut : Rf (o + 55) 1 = some ut) (hEN : qEN E) (hR : RI R I0) (hp : ∀ (r : Int64) (L' : Nat → Nat → Int64), (FmL (fun c => c = (o + 55)) L0 L') → post (some (.long r)) (n, sh, Rf, I0, L')) : Ev (qGG D cA b E) mOffice_worth 4 (0, 0) 0 (lv_args 0 [.ref o, .int p1]) [] (n, sh, Rf, I0, L0) post := by
  refine sOffice_worth_0 o n sh Rf I0 L0 post p1 uo_1 hok hw huo_1 hwuo_1 ?_
  unfold fOffice_worth_0
  have hl : FmL (fun c => c = (o + 55)) L0 L0 := FmL.rf
  have l_1 : (0 : Int32).toInt = 0 := rfl
  refine ⟨fun c_2 => ?_, fun c_2 => ?_⟩
  · have d_3 := iEq c_2
    exact (hp _ _  hl)
  · have d_4 := iNe c_2
    refine ⟨fun c_5 => ?_, fun c_5 => ?_⟩
    · have d_6 := iLt c_5
      exact (hp _ _  hl)
    · have d_7 := iNlt c_5
      have g_8 : (0 : Int) ≤ (I0 uo_1 2).toInt ∧ (I0 uo_1 2).toInt ≤ 3 := hR.at0 rauo_1 2 (by decide)
      refine ⟨fun c_9 => ?_, fun c_9 => ?_⟩
      · have d_10 := iLt c_9
        refine y_Run_townForl hok (wsOffice_8 hw) (rsOffice_8 ra) hwul raul hwut raut hul hut hEN (by first | omega | (intro h; omega) | exact Or.inl rfl | exact Or.inr rfl) hR (fun r_11 L_14 u_12 ln_13 => ⟨r_11, I0, L_14, rfl, rfl, ?_⟩)
        replace hl := hl.call ln_13 (fun c hc => by first | exact hc | exact False.elim hc | (dsimp only at hc ⊢; omega) | omega)
        exact (hp _ _  hl)
      · have d_15 := iNlt c_9
        exact (hp _ _  hl)
