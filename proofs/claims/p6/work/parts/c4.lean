/-! The mirror: c4. By program (grun.py). -/
noncomputable def gLand_clear_43 (k : Nat) (o : Nat) (J : gJ) (L : gL) (x1 : Int) : Int × gJ × gL := match k with
  | 0 => default
  | k + 1 => (if 16 ≤ x1 then (0, J, L) else gLet (x1 * 16) (fun (v_1 : Int) => gLet (v_1 + x1) (fun (v_2 : Int) => gLet (q_u J (o + 2) (Int.toNat v_2) 0) (fun (J_3 : gJ) => gLet (x1 + 1) (fun (v_4 : Int) => (gLand_clear_43 k o J_3 L v_4))))))
theorem eLand_clear_43 {k : Nat} {o : Nat} {J : gJ} {L : gL} {x1 : Int} : gLand_clear_43 (k + 1) o J L x1 = (if 16 ≤ x1 then (0, J, L) else gLet (x1 * 16) (fun (v_1 : Int) => gLet (v_1 + x1) (fun (v_2 : Int) => gLet (q_u J (o + 2) (Int.toNat v_2) 0) (fun (J_3 : gJ) => gLet (x1 + 1) (fun (v_4 : Int) => (gLand_clear_43 k o J_3 L v_4)))))) := rfl
noncomputable def gLand_clear_0 (o : Nat) (J : gJ) (L : gL) : Int × gJ × gL := gLet (q_u J o 0 0) (fun (J_1 : gJ) => gLet (q_u J_1 o 1 0) (fun (J_2 : gJ) => gLet (q_u J_2 o 2 0) (fun (J_3 : gJ) => gLet (q_u J_3 o 3 0) (fun (J_4 : gJ) => gLet (q_u J_4 o 4 0) (fun (J_5 : gJ) => gLet (gFill J_5 (o + 8) 15 0) (fun (J_6 : gJ) => gLet (gFill J_6 (o + 2) 256 (-1)) (fun (J_7 : gJ) => (gLand_clear_43 20000 o J_7 L 0))))))))
theorem eLand_clear_0 {o : Nat} {J : gJ} {L : gL} : gLand_clear_0 o J L  = gLet (q_u J o 0 0) (fun (J_1 : gJ) => gLet (q_u J_1 o 1 0) (fun (J_2 : gJ) => gLet (q_u J_2 o 2 0) (fun (J_3 : gJ) => gLet (q_u J_3 o 3 0) (fun (J_4 : gJ) => gLet (q_u J_4 o 4 0) (fun (J_5 : gJ) => gLet (gFill J_5 (o + 8) 15 0) (fun (J_6 : gJ) => gLet (gFill J_6 (o + 2) 256 (-1)) (fun (J_7 : gJ) => (gLand_clear_43 20000 o J_7 L 0)))))))) := rfl
set_option maxHeartbeats 4000000 in
set_option maxRecDepth 20000 in
theorem yLand_clear_43g {D : va_G} {cA : FieldType → ClassId} {b : Nat} {E : State → Prop} {R : qRg} {o n : Nat} {sh : Nat → qC} {Rf : Nat → Nat → Option Nat} {I0 : Nat → Nat → Int32} {L0 : Nat → Nat → Int64} {post : Option Value → qS → Prop} (hok : q_ok (qGG D cA b E)) (hw : WfLand (qGG D cA b E) n sh Rf o) (ra : RALand R o) (hp : ∀ (I' : Nat → Nat → Int32) (L' : Nat → Nat → Int64), RI R I' → Fm (fun c => (o ≤ c ∧ c < o + 16)) I0 I' → (gLand_clear_0 o (tI I0) L0 = (0, tI I', L')) → (FmL (fun c => False) L0 L') → post none (n, sh, Rf, I', L')) : ∀ (k : Nat) {x1 : Int32} {I : Nat → Nat → Int32} {L : Nat → Nat → Int64}, RI R I → Fm (fun c => (o ≤ c ∧ c < o + 16)) I0 I → ((0 : Int) ≤ x1.toInt ∧ x1.toInt ≤ 16) → (FmL (fun c => False) L0 L) → (gLand_clear_43 k o (tI I) L (x1).toInt = gLand_clear_0 o (tI I0) L0) → (16 - x1.toInt).toNat < k → Ev (qGG D cA b E) mLand_clear 1 (0, 0) 43 [(0, .ref o), (1, .int x1)] [] (n, sh, Rf, I, L) post := by
  intro k
  induction k with
  | zero =>
    intro x1 I L hR hf hi0 hl hg hm
    exact absurd hm (Nat.not_lt_zero _)
  | succ k ih =>
    intro x1 I L hR hf hi0 hl hg hm
    refine sLand_clear_43 o n sh Rf I L post x1 hok hw ?_
    unfold fLand_clear_43
    replace hg := (eLand_clear_43).symm.trans hg
    have l_1 : (16 : Int32).toInt = 16 := rfl
    refine ⟨fun c_2 => ?_, fun c_2 => ?_⟩
    · have d_3 := iLe c_2
      replace hg := gt_pos (by first | exact d_3 | omega) hg
      exact (hp _ _ hR hf  hg.symm hl)
    · have d_4 := iNle c_2
      replace hg := gt_neg (by first | exact d_4 | omega) hg
      have a_5 : (x1 * 16).toInt = x1.toInt * 16 := tMul rfl (by omega) (by omega)
      replace hg := gt_let (y := ((x1 * 16) : Int32).toInt) (by omega) hg
      have a_6 : ((x1 * 16) + x1).toInt = (x1 * 16).toInt + x1.toInt := tAdd (by omega) (by omega)
      replace hg := gt_let (y := (((x1 * 16) + x1) : Int32).toInt) (by omega) hg
      have l_7 : (0 : Int32).toInt = 0 := rfl
      refine ⟨tIn (by omega) (by omega), fun I_8 e_9 => ?_⟩
      replace hg := gt_let (y := tI I_8) (tI_q e_9) hg
      have hR_10 : RI R I_8 := hR.up ra 2 (by decide) (Or.inl rfl) e_9 (i_lo _) (i_hi _)
      have hf_11 : Fm (fun c => (o ≤ c ∧ c < o + 16)) I0 I_8 := hf.set (by first | rfl | omega | (dsimp only; omega)) e_9
      have a_13 : (x1 + Int32.ofInt 1).toInt = x1.toInt + (1) := tIc (by omega) (by omega) (by decide) (by decide)
      generalize ez_12 : (x1 + Int32.ofInt 1) = z_12 at a_13 ⊢
      replace hg := gt_let (y := z_12.toInt) (by omega) hg
      exact ih hR_10 hf_11 (by first | omega | (intro h; omega) | exact Or.inl rfl | exact Or.inr rfl) hl hg (by omega)
set_option maxHeartbeats 4000000 in
set_option maxRecDepth 20000 in
theorem y_Land_clearg {D : va_G} {cA : FieldType → ClassId} {b : Nat} {E : State → Prop} {R : qRg} {o n : Nat} {sh : Nat → qC} {Rf : Nat → Nat → Option Nat} {I0 : Nat → Nat → Int32} {L0 : Nat → Nat → Int64} {post : Option Value → qS → Prop} (hok : q_ok (qGG D cA b E)) (hw : WfLand (qGG D cA b E) n sh Rf o) (ra : RALand R o) (hR : RI R I0) (hp : ∀ (I' : Nat → Nat → Int32) (L' : Nat → Nat → Int64), RI R I' → Fm (fun c => (o ≤ c ∧ c < o + 16)) I0 I' → (gLand_clear_0 o (tI I0) L0 = (0, tI I', L')) → (FmL (fun c => False) L0 L') → post none (n, sh, Rf, I', L')) : Ev (qGG D cA b E) mLand_clear 1 (0, 0) 0 (lv_args 0 [.ref o]) [] (n, sh, Rf, I0, L0) post := by
  have hf : Fm (fun c => (o ≤ c ∧ c < o + 16)) I0 I0 := Fm.rf
  refine sLand_clear_0 o n sh Rf I0 L0 post  hok hw ?_
  unfold fLand_clear_0
  have hl : FmL (fun c => False) L0 L0 := FmL.rf
  have hg : gLand_clear_0 o (tI I0) L0 = gLand_clear_0 o (tI I0) L0 := rfl
  replace hg := (eLand_clear_0).symm.trans hg
  have l_14 : (0 : Int32).toInt = 0 := rfl
  refine fun I_15 e_16 => ?_
  replace hg := gt_let (y := tI I_15) (tI_q e_16) hg
  have hR_17 : RI R I_15 := hR.up0 (k := 0) ra (by decide) (Or.inl rfl) e_16 (show (0 : Int) ≤ (0 : Int32).toInt by omega) (show (0 : Int32).toInt ≤ (24 : Int) by omega)
  have hf_18 : Fm (fun c => (o ≤ c ∧ c < o + 16)) I0 I_15 := hf.set (by first | rfl | omega | (dsimp only; omega)) e_16
  have t_19 : (I_15 o 0).toInt = (0 : Int32).toInt := by rw [← e_16, q_u_at]
  refine fun I_20 e_21 => ?_
  replace hg := gt_let (y := tI I_20) (tI_q e_21) hg
  have hR_22 : RI R I_20 := hR_17.up0 (k := 1) ra (by decide) (Or.inl rfl) e_21 (show (0 : Int) ≤ (0 : Int32).toInt by omega) (show (0 : Int32).toInt ≤ (3 : Int) by omega)
  have hf_23 : Fm (fun c => (o ≤ c ∧ c < o + 16)) I0 I_20 := hf_18.set (by first | rfl | omega | (dsimp only; omega)) e_21
  have t_24 : (I_20 o 0).toInt = (I_15 o 0).toInt := by rw [← e_21, q_u_k (by decide)]
  have t_25 : (I_20 o 1).toInt = (0 : Int32).toInt := by rw [← e_21, q_u_at]
  refine fun I_26 e_27 => ?_
  replace hg := gt_let (y := tI I_26) (tI_q e_27) hg
  have hR_28 : RI R I_26 := hR_22.up0 (k := 2) ra (by decide) (Or.inl rfl) e_27 (show (0 : Int) ≤ (0 : Int32).toInt by omega) (show (0 : Int32).toInt ≤ (3 : Int) by omega)
  have hf_29 : Fm (fun c => (o ≤ c ∧ c < o + 16)) I0 I_26 := hf_23.set (by first | rfl | omega | (dsimp only; omega)) e_27
  have t_30 : (I_26 o 0).toInt = (I_20 o 0).toInt := by rw [← e_27, q_u_k (by decide)]
  have t_31 : (I_26 o 1).toInt = (I_20 o 1).toInt := by rw [← e_27, q_u_k (by decide)]
  have t_32 : (I_26 o 2).toInt = (0 : Int32).toInt := by rw [← e_27, q_u_at]
  refine fun I_33 e_34 => ?_
  replace hg := gt_let (y := tI I_33) (tI_q e_34) hg
  have hR_35 : RI R I_33 := hR_28.up0 (k := 3) ra (by decide) (Or.inl rfl) e_34 (show (0 : Int) ≤ (0 : Int32).toInt by omega) (show (0 : Int32).toInt ≤ (5 : Int) by omega)
  have hf_36 : Fm (fun c => (o ≤ c ∧ c < o + 16)) I0 I_33 := hf_29.set (by first | rfl | omega | (dsimp only; omega)) e_34
  have t_37 : (I_33 o 0).toInt = (I_26 o 0).toInt := by rw [← e_34, q_u_k (by decide)]
  have t_38 : (I_33 o 1).toInt = (I_26 o 1).toInt := by rw [← e_34, q_u_k (by decide)]
  have t_39 : (I_33 o 2).toInt = (I_26 o 2).toInt := by rw [← e_34, q_u_k (by decide)]
  have t_40 : (I_33 o 3).toInt = (0 : Int32).toInt := by rw [← e_34, q_u_at]
  refine fun I_41 e_42 => ?_
  replace hg := gt_let (y := tI I_41) (tI_q e_42) hg
  have hR_43 : RI R I_41 := hR_35.up0 (k := 4) ra (by decide) (Or.inl rfl) e_42 (show (0 : Int) ≤ (0 : Int32).toInt by omega) (show (0 : Int32).toInt ≤ (11 : Int) by omega)
  have hf_44 : Fm (fun c => (o ≤ c ∧ c < o + 16)) I0 I_41 := hf_36.set (by first | rfl | omega | (dsimp only; omega)) e_42
  have t_45 : (I_41 o 0).toInt = (I_33 o 0).toInt := by rw [← e_42, q_u_k (by decide)]
  have t_46 : (I_41 o 1).toInt = (I_33 o 1).toInt := by rw [← e_42, q_u_k (by decide)]
  have t_47 : (I_41 o 2).toInt = (I_33 o 2).toInt := by rw [← e_42, q_u_k (by decide)]
  have t_48 : (I_41 o 3).toInt = (I_33 o 3).toInt := by rw [← e_42, q_u_k (by decide)]
  have t_49 : (I_41 o 4).toInt = (0 : Int32).toInt := by rw [← e_42, q_u_at]
  refine y_fillg hok (fun _ _ => waLand_12 hw) (by omega) (fun I_50 ne_51 _ eq_52 eg_53 => ⟨I_50, L0, rfl, rfl, ?_⟩)
  replace hg := gt_let (y := tI I_50) eg_53 hg
  have hR_54 : RI R I_50 := hR_43.row ra 8 (by decide) (fun _ => rfl) (fun _ => ⟨(i_lo _), (i_hi _)⟩) ne_51 eq_52
  have hf_55 : Fm (fun c => (o ≤ c ∧ c < o + 16)) I0 I_50 := hf_44.call (M' := fun c => c = (o + 8)) ne_51 (fun c hc => by first | exact hc | (dsimp only at hc ⊢; omega) | omega)
  have t_56 : (I_50 o 0).toInt = (I_41 o 0).toInt := by rw [ne_51 o (by omega)]
  have t_57 : (I_50 o 1).toInt = (I_41 o 1).toInt := by rw [ne_51 o (by omega)]
  have t_58 : (I_50 o 2).toInt = (I_41 o 2).toInt := by rw [ne_51 o (by omega)]
  have t_59 : (I_50 o 3).toInt = (I_41 o 3).toInt := by rw [ne_51 o (by omega)]
  have t_60 : (I_50 o 4).toInt = (I_41 o 4).toInt := by rw [ne_51 o (by omega)]
  have l_61 : (-1 : Int32).toInt = -1 := rfl
  refine y_fillg hok (fun _ _ => waLand_6 hw) (by omega) (fun I_62 ne_63 _ eq_64 eg_65 => ⟨I_62, L0, rfl, rfl, ?_⟩)
  replace hg := gt_let (y := tI I_62) eg_65 hg
  have hR_66 : RI R I_62 := hR_54.row ra 2 (by decide) (fun _ => rfl) (fun _ => ⟨(i_lo _), (i_hi _)⟩) ne_63 eq_64
  have hf_67 : Fm (fun c => (o ≤ c ∧ c < o + 16)) I0 I_62 := hf_55.call (M' := fun c => c = (o + 2)) ne_63 (fun c hc => by first | exact hc | (dsimp only at hc ⊢; omega) | omega)
  have t_68 : (I_62 o 0).toInt = (I_50 o 0).toInt := by rw [ne_63 o (by omega)]
  have t_69 : (I_62 o 1).toInt = (I_50 o 1).toInt := by rw [ne_63 o (by omega)]
  have t_70 : (I_62 o 2).toInt = (I_50 o 2).toInt := by rw [ne_63 o (by omega)]
  have t_71 : (I_62 o 3).toInt = (I_50 o 3).toInt := by rw [ne_63 o (by omega)]
  have t_72 : (I_62 o 4).toInt = (I_50 o 4).toInt := by rw [ne_63 o (by omega)]
  exact yLand_clear_43g (I0 := I0) (L0 := L0) hok hw ra hp  20000 hR_66 hf_67 (by first | omega | (intro h; omega) | exact Or.inl rfl | exact Or.inr rfl) hl hg (by omega)
noncomputable def gLand_daysBetween_0 (o : Nat) (J : gJ) (L : gL) (x1 : Int) (x2 : Int) : Int := (if x1 < 0 then (-1) else (if 16 ≤ x1 then (-1) else (if x2 < 0 then (-1) else (if x2 < 16 then gLet (x1 * 16) (fun (v_1 : Int) => gLet (v_1 + x2) (fun (v_2 : Int) => gLet (J (o + 2) (Int.toNat v_2)) (fun (v_3 : Int) => v_3))) else (-1)))))
theorem eLand_daysBetween_0 {o : Nat} {J : gJ} {L : gL} {x1 : Int} {x2 : Int} : gLand_daysBetween_0 o J L x1 x2 = (if x1 < 0 then (-1) else (if 16 ≤ x1 then (-1) else (if x2 < 0 then (-1) else (if x2 < 16 then gLet (x1 * 16) (fun (v_1 : Int) => gLet (v_1 + x2) (fun (v_2 : Int) => gLet (J (o + 2) (Int.toNat v_2)) (fun (v_3 : Int) => v_3))) else (-1))))) := rfl
set_option maxHeartbeats 4000000 in
set_option maxRecDepth 20000 in
theorem y_Land_daysBetweeng {D : va_G} {cA : FieldType → ClassId} {b : Nat} {E : State → Prop} {R : qRg} {o n : Nat} {sh : Nat → qC} {Rf : Nat → Nat → Option Nat} {I0 : Nat → Nat → Int32} {L0 : Nat → Nat → Int64} {post : Option Value → qS → Prop} {p1 : Int32} {p2 : Int32} (hok : q_ok (qGG D cA b E)) (hw : WfLand (qGG D cA b E) n sh Rf o) (ra : RALand R o) (hR : RI R I0) (hp : ∀ (r : Int32) , (gLand_daysBetween_0 o (tI I0) L0 (p1).toInt (p2).toInt = r.toInt) → post (some (.int r)) (n, sh, Rf, I0, L0)) : Ev (qGG D cA b E) mLand_daysBetween 0 (0, 0) 0 (lv_args 0 [.ref o, .int p1, .int p2]) [] (n, sh, Rf, I0, L0) post := by
  refine sLand_daysBetween_0 o n sh Rf I0 L0 post p1 p2 hok hw ?_
  unfold fLand_daysBetween_0
  have hg : gLand_daysBetween_0 o (tI I0) L0 (p1).toInt (p2).toInt = gLand_daysBetween_0 o (tI I0) L0 (p1).toInt (p2).toInt := rfl
  replace hg := (eLand_daysBetween_0).symm.trans hg
  have l_1 : (0 : Int32).toInt = 0 := rfl
  refine ⟨fun c_2 => ?_, fun c_2 => ?_⟩
  · have d_3 := iLt c_2
    replace hg := gt_pos (by first | exact d_3 | omega) hg
    have l_4 : (-1 : Int32).toInt = -1 := rfl
    exact (hp _  hg.symm)
  · have d_5 := iNlt c_2
    replace hg := gt_neg (by first | exact d_5 | omega) hg
    have l_6 : (16 : Int32).toInt = 16 := rfl
    refine ⟨fun c_7 => ?_, fun c_7 => ?_⟩
    · have d_8 := iLe c_7
      replace hg := gt_pos (by first | exact d_8 | omega) hg
      have l_9 : (-1 : Int32).toInt = -1 := rfl
      exact (hp _  hg.symm)
    · have d_10 := iNle c_7
      replace hg := gt_neg (by first | exact d_10 | omega) hg
      refine ⟨fun c_11 => ?_, fun c_11 => ?_⟩
      · have d_12 := iLt c_11
        replace hg := gt_pos (by first | exact d_12 | omega) hg
        have l_13 : (-1 : Int32).toInt = -1 := rfl
        exact (hp _  hg.symm)
      · have d_14 := iNlt c_11
        replace hg := gt_neg (by first | exact d_14 | omega) hg
        refine ⟨fun c_15 => ?_, fun c_15 => ?_⟩
        · have d_16 := iLt c_15
          replace hg := gt_pos (by first | exact d_16 | omega) hg
          have a_17 : (p1 * 16).toInt = p1.toInt * 16 := tMul rfl (by omega) (by omega)
          replace hg := gt_let (y := ((p1 * 16) : Int32).toInt) (by omega) hg
          have a_18 : ((p1 * 16) + p2).toInt = (p1 * 16).toInt + p2.toInt := tAdd (by omega) (by omega)
          replace hg := gt_let (y := (((p1 * 16) + p2) : Int32).toInt) (by omega) hg
          refine ⟨tIn (by omega) (by omega), ?_⟩
          replace hg := gt_let (y := (I0 (o + 2) (((p1 * 16) + p2) : Int32).toNatClampNeg).toInt) rfl hg
          exact (hp _  hg.symm)
        · have d_19 := iNlt c_15
          replace hg := gt_neg (by first | exact d_19 | omega) hg
          have l_20 : (-1 : Int32).toInt = -1 := rfl
          exact (hp _  hg.symm)
noncomputable def gLand_serves_0 (o : Nat) (J : gJ) (L : gL) (x1 : Int) (x2 : Int) : Int := (if x2 < 0 then 0 else (if 5 ≤ x2 then 0 else gLet (x1 * 5) (fun (v_1 : Int) => gLet (v_1 + x2) (fun (v_2 : Int) => gLet (J (o + 8) (Int.toNat v_2)) (fun (v_3 : Int) => (if v_3 = 0 then 0 else 1))))))
theorem eLand_serves_0 {o : Nat} {J : gJ} {L : gL} {x1 : Int} {x2 : Int} : gLand_serves_0 o J L x1 x2 = (if x2 < 0 then 0 else (if 5 ≤ x2 then 0 else gLet (x1 * 5) (fun (v_1 : Int) => gLet (v_1 + x2) (fun (v_2 : Int) => gLet (J (o + 8) (Int.toNat v_2)) (fun (v_3 : Int) => (if v_3 = 0 then 0 else 1)))))) := rfl
set_option maxHeartbeats 4000000 in
set_option maxRecDepth 20000 in
theorem y_Land_servesg {D : va_G} {cA : FieldType → ClassId} {b : Nat} {E : State → Prop} {R : qRg} {o n : Nat} {sh : Nat → qC} {Rf : Nat → Nat → Option Nat} {I0 : Nat → Nat → Int32} {L0 : Nat → Nat → Int64} {post : Option Value → qS → Prop} {p1 : Int32} {p2 : Int32} (hok : q_ok (qGG D cA b E)) (hw : WfLand (qGG D cA b E) n sh Rf o) (ra : RALand R o) (hq0 : (0 : Int) ≤ p1.toInt ∧ p1.toInt ≤ 2) (hR : RI R I0) (hp : ∀ (r : Int32) , (Bz r) → (gLand_serves_0 o (tI I0) L0 (p1).toInt (p2).toInt = r.toInt) → post (some (.int r)) (n, sh, Rf, I0, L0)) : Ev (qGG D cA b E) mLand_serves 0 (0, 0) 0 (lv_args 0 [.ref o, .int p1, .int p2]) [] (n, sh, Rf, I0, L0) post := by
  refine sLand_serves_0 o n sh Rf I0 L0 post p1 p2 hok hw ?_
  unfold fLand_serves_0
  have hg : gLand_serves_0 o (tI I0) L0 (p1).toInt (p2).toInt = gLand_serves_0 o (tI I0) L0 (p1).toInt (p2).toInt := rfl
  replace hg := (eLand_serves_0).symm.trans hg
  have l_1 : (0 : Int32).toInt = 0 := rfl
  refine ⟨fun c_2 => ?_, fun c_2 => ?_⟩
  · have d_3 := iLt c_2
    replace hg := gt_pos (by first | exact d_3 | omega) hg
    exact (hp _ (Or.inl rfl) hg.symm)
  · have d_4 := iNlt c_2
    replace hg := gt_neg (by first | exact d_4 | omega) hg
    have l_5 : (5 : Int32).toInt = 5 := rfl
    refine ⟨fun c_6 => ?_, fun c_6 => ?_⟩
    · have d_7 := iLe c_6
      replace hg := gt_pos (by first | exact d_7 | omega) hg
      exact (hp _ (Or.inl rfl) hg.symm)
    · have d_8 := iNle c_6
      replace hg := gt_neg (by first | exact d_8 | omega) hg
      have a_9 : (p1 * 5).toInt = p1.toInt * 5 := tMul rfl (by omega) (by omega)
      replace hg := gt_let (y := ((p1 * 5) : Int32).toInt) (by omega) hg
      have a_10 : ((p1 * 5) + p2).toInt = (p1 * 5).toInt + p2.toInt := tAdd (by omega) (by omega)
      replace hg := gt_let (y := (((p1 * 5) + p2) : Int32).toInt) (by omega) hg
      refine ⟨tIn (by omega) (by omega), ?_⟩
      replace hg := gt_let (y := (I0 (o + 8) (((p1 * 5) + p2) : Int32).toNatClampNeg).toInt) rfl hg
      refine ⟨fun c_11 => ?_, fun c_11 => ?_⟩
      · have d_12 := iEq c_11
        replace hg := gt_pos (by first | exact d_12 | omega) hg
        exact (hp _ (Or.inl rfl) hg.symm)
      · have d_13 := iNe c_11
        replace hg := gt_neg (by first | exact d_13 | omega) hg
        have l_14 : (1 : Int32).toInt = 1 := rfl
        exact (hp _ (Or.inr rfl) hg.symm)
noncomputable def gLand_shorten_20 (o : Nat) (J : gJ) (L : gL) (x1 : Int) (x2 : Int) (x3 : Int) (x4 : Int) : Int × gJ × gL := gLet (x1 * 16) (fun (v_1 : Int) => gLet (v_1 + x2) (fun (v_2 : Int) => gLet (q_u J (o + 2) (Int.toNat v_2) x3) (fun (J_3 : gJ) => (0, J_3, L))))
theorem eLand_shorten_20 {o : Nat} {J : gJ} {L : gL} {x1 : Int} {x2 : Int} {x3 : Int} {x4 : Int} : gLand_shorten_20 o J L x1 x2 x3 x4 = gLet (x1 * 16) (fun (v_1 : Int) => gLet (v_1 + x2) (fun (v_2 : Int) => gLet (q_u J (o + 2) (Int.toNat v_2) x3) (fun (J_3 : gJ) => (0, J_3, L)))) := rfl
noncomputable def gLand_shorten_0 (o : Nat) (J : gJ) (L : gL) (x1 : Int) (x2 : Int) (x3 : Int) : Int × gJ × gL := gLet (gLand_daysBetween_0 o J L x1 x2) (fun (r_1 : Int) => (if r_1 = (-1) then (gLand_shorten_20 o J L x1 x2 x3 r_1) else (if r_1 ≤ x3 then (0, J, L) else (gLand_shorten_20 o J L x1 x2 x3 r_1))))
theorem eLand_shorten_0 {o : Nat} {J : gJ} {L : gL} {x1 : Int} {x2 : Int} {x3 : Int} : gLand_shorten_0 o J L x1 x2 x3 = gLet (gLand_daysBetween_0 o J L x1 x2) (fun (r_1 : Int) => (if r_1 = (-1) then (gLand_shorten_20 o J L x1 x2 x3 r_1) else (if r_1 ≤ x3 then (0, J, L) else (gLand_shorten_20 o J L x1 x2 x3 r_1)))) := rfl
set_option maxHeartbeats 4000000 in
set_option maxRecDepth 20000 in
theorem y_Land_shorteng {D : va_G} {cA : FieldType → ClassId} {b : Nat} {E : State → Prop} {R : qRg} {o n : Nat} {sh : Nat → qC} {Rf : Nat → Nat → Option Nat} {I0 : Nat → Nat → Int32} {L0 : Nat → Nat → Int64} {post : Option Value → qS → Prop} {p1 : Int32} {p2 : Int32} {p3 : Int32} (hok : q_ok (qGG D cA b E)) (hw : WfLand (qGG D cA b E) n sh Rf o) (ra : RALand R o) (hq0 : (0 : Int) ≤ p1.toInt ∧ p1.toInt ≤ 15) (hq1 : (0 : Int) ≤ p2.toInt ∧ p2.toInt ≤ 15) (hR : RI R I0) (hp : ∀ (I' : Nat → Nat → Int32) (L' : Nat → Nat → Int64), RI R I' → Fm (fun c => (o ≤ c ∧ c < o + 16)) I0 I' → ((I' o 0).toInt = (I0 o 0).toInt) → ((I' o 1).toInt = (I0 o 1).toInt) → ((I' o 2).toInt = (I0 o 2).toInt) → ((I' o 3).toInt = (I0 o 3).toInt) → ((I' o 4).toInt = (I0 o 4).toInt) → (gLand_shorten_0 o (tI I0) L0 (p1).toInt (p2).toInt (p3).toInt = (0, tI I', L')) → (FmL (fun c => False) L0 L') → post none (n, sh, Rf, I', L')) : Ev (qGG D cA b E) mLand_shorten 1 (0, 0) 0 (lv_args 0 [.ref o, .int p1, .int p2, .int p3]) [] (n, sh, Rf, I0, L0) post := by
  have hf : Fm (fun c => (o ≤ c ∧ c < o + 16)) I0 I0 := Fm.rf
  have g_1 : (0 : Int) ≤ (I0 o 0).toInt ∧ (I0 o 0).toInt ≤ 24 := hR.at0 ra 0 (by decide)
  have g_2 : (0 : Int) ≤ (I0 o 1).toInt ∧ (I0 o 1).toInt ≤ 3 := hR.at0 ra 1 (by decide)
  have g_3 : (0 : Int) ≤ (I0 o 2).toInt ∧ (I0 o 2).toInt ≤ 3 := hR.at0 ra 2 (by decide)
  have g_4 : (0 : Int) ≤ (I0 o 3).toInt ∧ (I0 o 3).toInt ≤ 5 := hR.at0 ra 3 (by decide)
  have g_5 : (0 : Int) ≤ (I0 o 4).toInt ∧ (I0 o 4).toInt ≤ 11 := hR.at0 ra 4 (by decide)
  refine sLand_shorten_0 o n sh Rf I0 L0 post p1 p2 p3 hok hw ?_
  unfold fLand_shorten_0
  have hl : FmL (fun c => False) L0 L0 := FmL.rf
  have hg : gLand_shorten_0 o (tI I0) L0 (p1).toInt (p2).toInt (p3).toInt = gLand_shorten_0 o (tI I0) L0 (p1).toInt (p2).toInt (p3).toInt := rfl
  replace hg := (eLand_shorten_0).symm.trans hg
  refine y_Land_daysBetweeng hok hw ra hR (fun r_6 gn_7 => ⟨r_6, I0, L0, rfl, rfl, ?_⟩)
  replace hg := gt_let gn_7 hg
  clear gn_7
  have l_8 : (-1 : Int32).toInt = -1 := rfl
  refine ⟨fun c_9 => ?_, fun c_9 => ?_⟩
  · have d_10 := iEq c_9
    replace hg := gt_pos (by first | exact d_10 | omega) hg
    unfold fLand_shorten_20
    replace hg := (eLand_shorten_20).symm.trans hg
    have l_11 : (16 : Int32).toInt = 16 := rfl
    have a_12 : (p1 * 16).toInt = p1.toInt * 16 := tMul rfl (by omega) (by omega)
    replace hg := gt_let (y := ((p1 * 16) : Int32).toInt) (by omega) hg
    have a_13 : ((p1 * 16) + p2).toInt = (p1 * 16).toInt + p2.toInt := tAdd (by omega) (by omega)
    replace hg := gt_let (y := (((p1 * 16) + p2) : Int32).toInt) (by omega) hg
    refine ⟨tIn (by omega) (by omega), fun I_14 e_15 => ?_⟩
    replace hg := gt_let (y := tI I_14) (tI_q e_15) hg
    have hR_16 : RI R I_14 := hR.up ra 2 (by decide) (Or.inl rfl) e_15 (i_lo _) (i_hi _)
    have hf_17 : Fm (fun c => (o ≤ c ∧ c < o + 16)) I0 I_14 := hf.set (by first | rfl | omega | (dsimp only; omega)) e_15
    have t_18 : (I_14 o 0).toInt = (I0 o 0).toInt := by rw [← e_15, q_u_ne (by omega)]
    have t_19 : (I_14 o 1).toInt = (I0 o 1).toInt := by rw [← e_15, q_u_ne (by omega)]
    have t_20 : (I_14 o 2).toInt = (I0 o 2).toInt := by rw [← e_15, q_u_ne (by omega)]
    have t_21 : (I_14 o 3).toInt = (I0 o 3).toInt := by rw [← e_15, q_u_ne (by omega)]
    have t_22 : (I_14 o 4).toInt = (I0 o 4).toInt := by rw [← e_15, q_u_ne (by omega)]
    exact (hp _ _ hR_16 hf_17 (by first | omega | (intro h; omega) | exact Or.inl rfl | exact Or.inr rfl) (by first | omega | (intro h; omega) | exact Or.inl rfl | exact Or.inr rfl) (by first | omega | (intro h; omega) | exact Or.inl rfl | exact Or.inr rfl) (by first | omega | (intro h; omega) | exact Or.inl rfl | exact Or.inr rfl) (by first | omega | (intro h; omega) | exact Or.inl rfl | exact Or.inr rfl) hg.symm hl)
  · have d_23 := iNe c_9
    replace hg := gt_neg (by first | exact d_23 | omega) hg
    refine ⟨fun c_24 => ?_, fun c_24 => ?_⟩
    · have d_25 := iLe c_24
      replace hg := gt_pos (by first | exact d_25 | omega) hg
      exact (hp _ _ hR hf (by first | omega | (intro h; omega) | exact Or.inl rfl | exact Or.inr rfl) (by first | omega | (intro h; omega) | exact Or.inl rfl | exact Or.inr rfl) (by first | omega | (intro h; omega) | exact Or.inl rfl | exact Or.inr rfl) (by first | omega | (intro h; omega) | exact Or.inl rfl | exact Or.inr rfl) (by first | omega | (intro h; omega) | exact Or.inl rfl | exact Or.inr rfl) hg.symm hl)
    · have d_26 := iNle c_24
      replace hg := gt_neg (by first | exact d_26 | omega) hg
      unfold fLand_shorten_20
      replace hg := (eLand_shorten_20).symm.trans hg
      have l_27 : (16 : Int32).toInt = 16 := rfl
      have a_28 : (p1 * 16).toInt = p1.toInt * 16 := tMul rfl (by omega) (by omega)
      replace hg := gt_let (y := ((p1 * 16) : Int32).toInt) (by omega) hg
      have a_29 : ((p1 * 16) + p2).toInt = (p1 * 16).toInt + p2.toInt := tAdd (by omega) (by omega)
      replace hg := gt_let (y := (((p1 * 16) + p2) : Int32).toInt) (by omega) hg
      refine ⟨tIn (by omega) (by omega), fun I_30 e_31 => ?_⟩
      replace hg := gt_let (y := tI I_30) (tI_q e_31) hg
      have hR_32 : RI R I_30 := hR.up ra 2 (by decide) (Or.inl rfl) e_31 (i_lo _) (i_hi _)
      have hf_33 : Fm (fun c => (o ≤ c ∧ c < o + 16)) I0 I_30 := hf.set (by first | rfl | omega | (dsimp only; omega)) e_31
      have t_34 : (I_30 o 0).toInt = (I0 o 0).toInt := by rw [← e_31, q_u_ne (by omega)]
      have t_35 : (I_30 o 1).toInt = (I0 o 1).toInt := by rw [← e_31, q_u_ne (by omega)]
      have t_36 : (I_30 o 2).toInt = (I0 o 2).toInt := by rw [← e_31, q_u_ne (by omega)]
      have t_37 : (I_30 o 3).toInt = (I0 o 3).toInt := by rw [← e_31, q_u_ne (by omega)]
      have t_38 : (I_30 o 4).toInt = (I0 o 4).toInt := by rw [← e_31, q_u_ne (by omega)]
      exact (hp _ _ hR_32 hf_33 (by first | omega | (intro h; omega) | exact Or.inl rfl | exact Or.inr rfl) (by first | omega | (intro h; omega) | exact Or.inl rfl | exact Or.inr rfl) (by first | omega | (intro h; omega) | exact Or.inl rfl | exact Or.inr rfl) (by first | omega | (intro h; omega) | exact Or.inl rfl | exact Or.inr rfl) (by first | omega | (intro h; omega) | exact Or.inl rfl | exact Or.inr rfl) hg.symm hl)
noncomputable def gLand_shortenWays_70 (K10 : gJ → gL → Int → Int → (Int × gJ × gL)) (o : Nat) (J : gJ) (L : gL) (x1 : Int) (x2 : Int) (x3 : Int) (x4 : Int) : Int × gJ × gL := gLet (x2 + 1) (fun (v_1 : Int) => (K10 J L x1 v_1))
theorem eLand_shortenWays_70 {K10 : gJ → gL → Int → Int → (Int × gJ × gL)} {o : Nat} {J : gJ} {L : gL} {x1 : Int} {x2 : Int} {x3 : Int} {x4 : Int} : gLand_shortenWays_70 K10 o J L x1 x2 x3 x4 = gLet (x2 + 1) (fun (v_1 : Int) => (K10 J L x1 v_1)) := rfl
noncomputable def gLand_shortenWays_64 (K26 : gJ → gL → Int → Int → Int → Int → (Int × gJ × gL)) (o : Nat) (J : gJ) (L : gL) (x1 : Int) (x2 : Int) (x3 : Int) (x4 : Int) (x5 : Int) : Int × gJ × gL := gLet (x4 + 1) (fun (v_1 : Int) => (K26 J L x1 x2 x3 v_1))
theorem eLand_shortenWays_64 {K26 : gJ → gL → Int → Int → Int → Int → (Int × gJ × gL)} {o : Nat} {J : gJ} {L : gL} {x1 : Int} {x2 : Int} {x3 : Int} {x4 : Int} {x5 : Int} : gLand_shortenWays_64 K26 o J L x1 x2 x3 x4 x5 = gLet (x4 + 1) (fun (v_1 : Int) => (K26 J L x1 x2 x3 v_1)) := rfl
noncomputable def gLand_shortenWays_26 (k : Nat) (K10 : gJ → gL → Int → Int → (Int × gJ × gL)) (o : Nat) (J : gJ) (L : gL) (x1 : Int) (x2 : Int) (x3 : Int) (x4 : Int) : Int × gJ × gL := match k with
  | 0 => default
  | k + 1 => (if 16 ≤ x4 then (gLand_shortenWays_70 K10 o J L x1 x2 x3 x4) else (if x3 = (-1) then (gLand_shortenWays_70 K10 o J L x1 x2 x3 x4) else gLet (gLand_daysBetween_0 o J L x1 x4) (fun (r_1 : Int) => (if r_1 = (-1) then (gLand_shortenWays_64 (gLand_shortenWays_26 k K10 o) o J L x1 x2 x3 x4 r_1) else gLet (wAdd x3 r_1) (fun (v_2 : Int) => gB3 (gLand_shorten_0 o J L x2 x4 v_2) (fun r_3 J_4 L_5 => (gLand_shortenWays_64 (gLand_shortenWays_26 k K10 o) o J_4 L_5 x1 x2 x3 x4 r_1)))))))
theorem eLand_shortenWays_26 {k : Nat} {K10 : gJ → gL → Int → Int → (Int × gJ × gL)} {o : Nat} {J : gJ} {L : gL} {x1 : Int} {x2 : Int} {x3 : Int} {x4 : Int} : gLand_shortenWays_26 (k + 1) K10 o J L x1 x2 x3 x4 = (if 16 ≤ x4 then (gLand_shortenWays_70 K10 o J L x1 x2 x3 x4) else (if x3 = (-1) then (gLand_shortenWays_70 K10 o J L x1 x2 x3 x4) else gLet (gLand_daysBetween_0 o J L x1 x4) (fun (r_1 : Int) => (if r_1 = (-1) then (gLand_shortenWays_64 (gLand_shortenWays_26 k K10 o) o J L x1 x2 x3 x4 r_1) else gLet (wAdd x3 r_1) (fun (v_2 : Int) => gB3 (gLand_shorten_0 o J L x2 x4 v_2) (fun r_3 J_4 L_5 => (gLand_shortenWays_64 (gLand_shortenWays_26 k K10 o) o J_4 L_5 x1 x2 x3 x4 r_1))))))) := rfl
noncomputable def gLand_shortenWays_10 (k : Nat) (K2 : gJ → gL → Int → (Int × gJ × gL)) (o : Nat) (J : gJ) (L : gL) (x1 : Int) (x2 : Int) : Int × gJ × gL := match k with
  | 0 => default
  | k + 1 => (if 16 ≤ x2 then gLet (x1 + 1) (fun (v_1 : Int) => (K2 J L v_1)) else gLet (gLand_daysBetween_0 o J L x2 x1) (fun (r_2 : Int) => (gLand_shortenWays_26 20000 (gLand_shortenWays_10 k K2 o) o J L x1 x2 r_2 0)))
theorem eLand_shortenWays_10 {k : Nat} {K2 : gJ → gL → Int → (Int × gJ × gL)} {o : Nat} {J : gJ} {L : gL} {x1 : Int} {x2 : Int} : gLand_shortenWays_10 (k + 1) K2 o J L x1 x2 = (if 16 ≤ x2 then gLet (x1 + 1) (fun (v_1 : Int) => (K2 J L v_1)) else gLet (gLand_daysBetween_0 o J L x2 x1) (fun (r_2 : Int) => (gLand_shortenWays_26 20000 (gLand_shortenWays_10 k K2 o) o J L x1 x2 r_2 0))) := rfl
noncomputable def gLand_shortenWays_2 (k : Nat) (o : Nat) (J : gJ) (L : gL) (x1 : Int) : Int × gJ × gL := match k with
  | 0 => default
  | k + 1 => (if 16 ≤ x1 then (0, J, L) else (gLand_shortenWays_10 20000 (gLand_shortenWays_2 k o) o J L x1 0))
theorem eLand_shortenWays_2 {k : Nat} {o : Nat} {J : gJ} {L : gL} {x1 : Int} : gLand_shortenWays_2 (k + 1) o J L x1 = (if 16 ≤ x1 then (0, J, L) else (gLand_shortenWays_10 20000 (gLand_shortenWays_2 k o) o J L x1 0)) := rfl
noncomputable def gLand_shortenWays_0 (o : Nat) (J : gJ) (L : gL) : Int × gJ × gL := (gLand_shortenWays_2 20000 o J L 0)
theorem eLand_shortenWays_0 {o : Nat} {J : gJ} {L : gL} : gLand_shortenWays_0 o J L  = (gLand_shortenWays_2 20000 o J L 0) := rfl
set_option maxHeartbeats 4000000 in
set_option maxRecDepth 20000 in
theorem yLand_shortenWays_26g {D : va_G} {cA : FieldType → ClassId} {b : Nat} {E : State → Prop} {R : qRg} {o n : Nat} {sh : Nat → qC} {Rf : Nat → Nat → Option Nat} {I0 : Nat → Nat → Int32} {L0 : Nat → Nat → Int64} {post : Option Value → qS → Prop} (hok : q_ok (qGG D cA b E)) (hw : WfLand (qGG D cA b E) n sh Rf o) (ra : RALand R o) (hp : ∀ (I' : Nat → Nat → Int32) (L' : Nat → Nat → Int64), RI R I' → Fm (fun c => (o ≤ c ∧ c < o + 16)) I0 I' → (gLand_shortenWays_0 o (tI I0) L0 = (0, tI I', L')) → (FmL (fun c => False) L0 L') → post none (n, sh, Rf, I', L')) {K10 : gJ → gL → Int → Int → (Int × gJ × gL)} {k2 : Nat} {k10 : Nat} (ho10 : ∀ {x1 : Int32} {x2 : Int32} {I : Nat → Nat → Int32} {L : Nat → Nat → Int64}, RI R I → Fm (fun c => (o ≤ c ∧ c < o + 16)) I0 I → ((0 : Int) ≤ x1.toInt ∧ x1.toInt ≤ 15) → ((0 : Int) ≤ x2.toInt ∧ x2.toInt ≤ 16) → ((16 - x1.toInt).toNat < k2 + 1) → (FmL (fun c => False) L0 L) → (K10 (tI I) L (x1).toInt (x2).toInt = gLand_shortenWays_0 o (tI I0) L0) → (16 - x2.toInt).toNat < k10 → Ev (qGG D cA b E) mLand_shortenWays 2 (0, 0) 10 [(0, .ref o), (1, .int x1), (2, .int x2)] [] (n, sh, Rf, I, L) post) : ∀ (k : Nat) {x1 : Int32} {x2 : Int32} {x3 : Int32} {x4 : Int32} {I : Nat → Nat → Int32} {L : Nat → Nat → Int64}, RI R I → Fm (fun c => (o ≤ c ∧ c < o + 16)) I0 I → ((0 : Int) ≤ x1.toInt ∧ x1.toInt ≤ 15) → ((0 : Int) ≤ x2.toInt ∧ x2.toInt ≤ 15) → ((0 : Int) ≤ x4.toInt ∧ x4.toInt ≤ 16) → ((16 - x2.toInt).toNat < k10 + 1) → ((16 - x1.toInt).toNat < k2 + 1) → (FmL (fun c => False) L0 L) → (gLand_shortenWays_26 k K10 o (tI I) L (x1).toInt (x2).toInt (x3).toInt (x4).toInt = gLand_shortenWays_0 o (tI I0) L0) → (16 - x4.toInt).toNat < k → Ev (qGG D cA b E) mLand_shortenWays 2 (0, 0) 26 [(0, .ref o), (1, .int x1), (2, .int x2), (3, .int x3), (4, .int x4)] [] (n, sh, Rf, I, L) post := by
  intro k
  induction k with
  | zero =>
    intro x1 x2 x3 x4 I L hR hf hi0 hi1 hi2 hi3 hi4 hl hg hm
    exact absurd hm (Nat.not_lt_zero _)
  | succ k ih =>
    intro x1 x2 x3 x4 I L hR hf hi0 hi1 hi2 hi3 hi4 hl hg hm
    refine sLand_shortenWays_26 o n sh Rf I L post x1 x2 x3 x4 hok hw ?_
    unfold fLand_shortenWays_26
    replace hg := (eLand_shortenWays_26).symm.trans hg
    have l_1 : (16 : Int32).toInt = 16 := rfl
    refine ⟨fun c_2 => ?_, fun c_2 => ?_⟩
    · have d_3 := iLe c_2
      replace hg := gt_pos (by first | exact d_3 | omega) hg
      unfold fLand_shortenWays_70
      replace hg := (eLand_shortenWays_70).symm.trans hg
      have a_5 : (x2 + Int32.ofInt 1).toInt = x2.toInt + (1) := tIc (by omega) (by omega) (by decide) (by decide)
      generalize ez_4 : (x2 + Int32.ofInt 1) = z_4 at a_5 ⊢
      replace hg := gt_let (y := z_4.toInt) (by omega) hg
      exact ho10 hR hf (by first | omega | (intro h; omega) | exact Or.inl rfl | exact Or.inr rfl) (by first | omega | (intro h; omega) | exact Or.inl rfl | exact Or.inr rfl) (by first | omega | (intro h; omega) | exact Or.inl rfl | exact Or.inr rfl) hl hg (by omega)
    · have d_6 := iNle c_2
      replace hg := gt_neg (by first | exact d_6 | omega) hg
      have l_7 : (-1 : Int32).toInt = -1 := rfl
      refine ⟨fun c_8 => ?_, fun c_8 => ?_⟩
      · have d_9 := iEq c_8
        replace hg := gt_pos (by first | exact d_9 | omega) hg
        unfold fLand_shortenWays_70
        replace hg := (eLand_shortenWays_70).symm.trans hg
        have a_11 : (x2 + Int32.ofInt 1).toInt = x2.toInt + (1) := tIc (by omega) (by omega) (by decide) (by decide)
        generalize ez_10 : (x2 + Int32.ofInt 1) = z_10 at a_11 ⊢
        replace hg := gt_let (y := z_10.toInt) (by omega) hg
        exact ho10 hR hf (by first | omega | (intro h; omega) | exact Or.inl rfl | exact Or.inr rfl) (by first | omega | (intro h; omega) | exact Or.inl rfl | exact Or.inr rfl) (by first | omega | (intro h; omega) | exact Or.inl rfl | exact Or.inr rfl) hl hg (by omega)
      · have d_12 := iNe c_8
        replace hg := gt_neg (by first | exact d_12 | omega) hg
        refine y_Land_daysBetweeng hok hw ra hR (fun r_13 gn_14 => ⟨r_13, I, L, rfl, rfl, ?_⟩)
        replace hg := gt_let gn_14 hg
        clear gn_14
        refine ⟨fun c_15 => ?_, fun c_15 => ?_⟩
        · have d_16 := iEq c_15
          replace hg := gt_pos (by first | exact d_16 | omega) hg
          unfold fLand_shortenWays_64
          replace hg := (eLand_shortenWays_64).symm.trans hg
          have a_18 : (x4 + Int32.ofInt 1).toInt = x4.toInt + (1) := tIc (by omega) (by omega) (by decide) (by decide)
          generalize ez_17 : (x4 + Int32.ofInt 1) = z_17 at a_18 ⊢
          replace hg := gt_let (y := z_17.toInt) (by omega) hg
          exact ih hR hf (by first | omega | (intro h; omega) | exact Or.inl rfl | exact Or.inr rfl) (by first | omega | (intro h; omega) | exact Or.inl rfl | exact Or.inr rfl) (by first | omega | (intro h; omega) | exact Or.inl rfl | exact Or.inr rfl) (by first | omega | (intro h; omega) | exact Or.inl rfl | exact Or.inr rfl) (by first | omega | (intro h; omega) | exact Or.inl rfl | exact Or.inr rfl) hl hg (by omega)
        · have d_19 := iNe c_15
          replace hg := gt_neg (by first | exact d_19 | omega) hg
          replace hg := gt_let (y := ((x3 + r_13) : Int32).toInt) (wAdd_eq (x3 : Int32) (r_13 : Int32)) hg
          refine y_Land_shorteng hok hw ra (by first | omega | (intro h; omega) | exact Or.inl rfl | exact Or.inr rfl) (by first | omega | (intro h; omega) | exact Or.inl rfl | exact Or.inr rfl) hR (fun I_28 L_29 hR_30 fr_31 u_21 u_22 u_23 u_24 u_25 gn_26 ln_27 => ⟨I_28, L_29, rfl, rfl, ?_⟩)
          replace hl := hl.call ln_27 (fun c hc => by first | exact hc | exact False.elim hc | (dsimp only at hc ⊢; omega) | omega)
          replace hg := gt_b3 gn_26 hg
          clear gn_26
          have hf_32 : Fm (fun c => (o ≤ c ∧ c < o + 16)) I0 I_28 := hf.call fr_31 (fun c hc => by first | exact hc | (dsimp only at hc ⊢; omega) | omega)
          unfold fLand_shortenWays_64
          replace hg := (eLand_shortenWays_64).symm.trans hg
          have a_34 : (x4 + Int32.ofInt 1).toInt = x4.toInt + (1) := tIc (by omega) (by omega) (by decide) (by decide)
          generalize ez_33 : (x4 + Int32.ofInt 1) = z_33 at a_34 ⊢
          replace hg := gt_let (y := z_33.toInt) (by omega) hg
          exact ih hR_30 hf_32 (by first | omega | (intro h; omega) | exact Or.inl rfl | exact Or.inr rfl) (by first | omega | (intro h; omega) | exact Or.inl rfl | exact Or.inr rfl) (by first | omega | (intro h; omega) | exact Or.inl rfl | exact Or.inr rfl) (by first | omega | (intro h; omega) | exact Or.inl rfl | exact Or.inr rfl) (by first | omega | (intro h; omega) | exact Or.inl rfl | exact Or.inr rfl) hl hg (by omega)
set_option maxHeartbeats 4000000 in
set_option maxRecDepth 20000 in
theorem yLand_shortenWays_10g {D : va_G} {cA : FieldType → ClassId} {b : Nat} {E : State → Prop} {R : qRg} {o n : Nat} {sh : Nat → qC} {Rf : Nat → Nat → Option Nat} {I0 : Nat → Nat → Int32} {L0 : Nat → Nat → Int64} {post : Option Value → qS → Prop} (hok : q_ok (qGG D cA b E)) (hw : WfLand (qGG D cA b E) n sh Rf o) (ra : RALand R o) (hp : ∀ (I' : Nat → Nat → Int32) (L' : Nat → Nat → Int64), RI R I' → Fm (fun c => (o ≤ c ∧ c < o + 16)) I0 I' → (gLand_shortenWays_0 o (tI I0) L0 = (0, tI I', L')) → (FmL (fun c => False) L0 L') → post none (n, sh, Rf, I', L')) {K2 : gJ → gL → Int → (Int × gJ × gL)} {k2 : Nat} (ho2 : ∀ {x1 : Int32} {I : Nat → Nat → Int32} {L : Nat → Nat → Int64}, RI R I → Fm (fun c => (o ≤ c ∧ c < o + 16)) I0 I → ((0 : Int) ≤ x1.toInt ∧ x1.toInt ≤ 16) → (FmL (fun c => False) L0 L) → (K2 (tI I) L (x1).toInt = gLand_shortenWays_0 o (tI I0) L0) → (16 - x1.toInt).toNat < k2 → Ev (qGG D cA b E) mLand_shortenWays 2 (0, 0) 2 [(0, .ref o), (1, .int x1)] [] (n, sh, Rf, I, L) post) : ∀ (k : Nat) {x1 : Int32} {x2 : Int32} {I : Nat → Nat → Int32} {L : Nat → Nat → Int64}, RI R I → Fm (fun c => (o ≤ c ∧ c < o + 16)) I0 I → ((0 : Int) ≤ x1.toInt ∧ x1.toInt ≤ 15) → ((0 : Int) ≤ x2.toInt ∧ x2.toInt ≤ 16) → ((16 - x1.toInt).toNat < k2 + 1) → (FmL (fun c => False) L0 L) → (gLand_shortenWays_10 k K2 o (tI I) L (x1).toInt (x2).toInt = gLand_shortenWays_0 o (tI I0) L0) → (16 - x2.toInt).toNat < k → Ev (qGG D cA b E) mLand_shortenWays 2 (0, 0) 10 [(0, .ref o), (1, .int x1), (2, .int x2)] [] (n, sh, Rf, I, L) post := by
  intro k
  induction k with
  | zero =>
    intro x1 x2 I L hR hf hi0 hi1 hi2 hl hg hm
    exact absurd hm (Nat.not_lt_zero _)
  | succ k ih =>
    intro x1 x2 I L hR hf hi0 hi1 hi2 hl hg hm
    refine sLand_shortenWays_10 o n sh Rf I L post x1 x2 hok hw ?_
    unfold fLand_shortenWays_10
    replace hg := (eLand_shortenWays_10).symm.trans hg
    have l_35 : (16 : Int32).toInt = 16 := rfl
    refine ⟨fun c_36 => ?_, fun c_36 => ?_⟩
    · have d_37 := iLe c_36
      replace hg := gt_pos (by first | exact d_37 | omega) hg
      have a_39 : (x1 + Int32.ofInt 1).toInt = x1.toInt + (1) := tIc (by omega) (by omega) (by decide) (by decide)
      generalize ez_38 : (x1 + Int32.ofInt 1) = z_38 at a_39 ⊢
      replace hg := gt_let (y := z_38.toInt) (by omega) hg
      exact ho2 hR hf (by first | omega | (intro h; omega) | exact Or.inl rfl | exact Or.inr rfl) hl hg (by omega)
    · have d_40 := iNle c_36
      replace hg := gt_neg (by first | exact d_40 | omega) hg
      refine y_Land_daysBetweeng hok hw ra hR (fun r_41 gn_42 => ⟨r_41, I, L, rfl, rfl, ?_⟩)
      replace hg := gt_let gn_42 hg
      clear gn_42
      have l_43 : (0 : Int32).toInt = 0 := rfl
      exact yLand_shortenWays_26g (I0 := I0) (L0 := L0) (K10 := (gLand_shortenWays_10 k K2 o)) hok hw ra hp ih 20000 hR hf (by first | omega | (intro h; omega) | exact Or.inl rfl | exact Or.inr rfl) (by first | omega | (intro h; omega) | exact Or.inl rfl | exact Or.inr rfl) (by first | omega | (intro h; omega) | exact Or.inl rfl | exact Or.inr rfl) (by first | omega | (intro h; omega) | exact Or.inl rfl | exact Or.inr rfl) (by first | omega | (intro h; omega) | exact Or.inl rfl | exact Or.inr rfl) hl hg (by omega)
set_option maxHeartbeats 4000000 in
set_option maxRecDepth 20000 in
theorem yLand_shortenWays_2g {D : va_G} {cA : FieldType → ClassId} {b : Nat} {E : State → Prop} {R : qRg} {o n : Nat} {sh : Nat → qC} {Rf : Nat → Nat → Option Nat} {I0 : Nat → Nat → Int32} {L0 : Nat → Nat → Int64} {post : Option Value → qS → Prop} (hok : q_ok (qGG D cA b E)) (hw : WfLand (qGG D cA b E) n sh Rf o) (ra : RALand R o) (hp : ∀ (I' : Nat → Nat → Int32) (L' : Nat → Nat → Int64), RI R I' → Fm (fun c => (o ≤ c ∧ c < o + 16)) I0 I' → (gLand_shortenWays_0 o (tI I0) L0 = (0, tI I', L')) → (FmL (fun c => False) L0 L') → post none (n, sh, Rf, I', L')) : ∀ (k : Nat) {x1 : Int32} {I : Nat → Nat → Int32} {L : Nat → Nat → Int64}, RI R I → Fm (fun c => (o ≤ c ∧ c < o + 16)) I0 I → ((0 : Int) ≤ x1.toInt ∧ x1.toInt ≤ 16) → (FmL (fun c => False) L0 L) → (gLand_shortenWays_2 k o (tI I) L (x1).toInt = gLand_shortenWays_0 o (tI I0) L0) → (16 - x1.toInt).toNat < k → Ev (qGG D cA b E) mLand_shortenWays 2 (0, 0) 2 [(0, .ref o), (1, .int x1)] [] (n, sh, Rf, I, L) post := by
  intro k
  induction k with
  | zero =>
    intro x1 I L hR hf hi0 hl hg hm
    exact absurd hm (Nat.not_lt_zero _)
  | succ k ih =>
    intro x1 I L hR hf hi0 hl hg hm
    refine sLand_shortenWays_2 o n sh Rf I L post x1 hok hw ?_
    unfold fLand_shortenWays_2
    replace hg := (eLand_shortenWays_2).symm.trans hg
    have l_44 : (16 : Int32).toInt = 16 := rfl
    refine ⟨fun c_45 => ?_, fun c_45 => ?_⟩
    · have d_46 := iLe c_45
      replace hg := gt_pos (by first | exact d_46 | omega) hg
      exact (hp _ _ hR hf  hg.symm hl)
    · have d_47 := iNle c_45
      replace hg := gt_neg (by first | exact d_47 | omega) hg
      have l_48 : (0 : Int32).toInt = 0 := rfl
      exact yLand_shortenWays_10g (I0 := I0) (L0 := L0) (K2 := (gLand_shortenWays_2 k o)) hok hw ra hp ih 20000 hR hf (by first | omega | (intro h; omega) | exact Or.inl rfl | exact Or.inr rfl) (by first | omega | (intro h; omega) | exact Or.inl rfl | exact Or.inr rfl) (by first | omega | (intro h; omega) | exact Or.inl rfl | exact Or.inr rfl) hl hg (by omega)
set_option maxHeartbeats 4000000 in
set_option maxRecDepth 20000 in
theorem y_Land_shortenWaysg {D : va_G} {cA : FieldType → ClassId} {b : Nat} {E : State → Prop} {R : qRg} {o n : Nat} {sh : Nat → qC} {Rf : Nat → Nat → Option Nat} {I0 : Nat → Nat → Int32} {L0 : Nat → Nat → Int64} {post : Option Value → qS → Prop} (hok : q_ok (qGG D cA b E)) (hw : WfLand (qGG D cA b E) n sh Rf o) (ra : RALand R o) (hR : RI R I0) (hp : ∀ (I' : Nat → Nat → Int32) (L' : Nat → Nat → Int64), RI R I' → Fm (fun c => (o ≤ c ∧ c < o + 16)) I0 I' → (gLand_shortenWays_0 o (tI I0) L0 = (0, tI I', L')) → (FmL (fun c => False) L0 L') → post none (n, sh, Rf, I', L')) : Ev (qGG D cA b E) mLand_shortenWays 2 (0, 0) 0 (lv_args 0 [.ref o]) [] (n, sh, Rf, I0, L0) post := by
  have hf : Fm (fun c => (o ≤ c ∧ c < o + 16)) I0 I0 := Fm.rf
  refine sLand_shortenWays_0 o n sh Rf I0 L0 post  hok hw ?_
  unfold fLand_shortenWays_0
  have hl : FmL (fun c => False) L0 L0 := FmL.rf
  have hg : gLand_shortenWays_0 o (tI I0) L0 = gLand_shortenWays_0 o (tI I0) L0 := rfl
  replace hg := (eLand_shortenWays_0).symm.trans hg
  have l_49 : (0 : Int32).toInt = 0 := rfl
  exact yLand_shortenWays_2g (I0 := I0) (L0 := L0) hok hw ra hp  20000 hR hf (by first | omega | (intro h; omega) | exact Or.inl rfl | exact Or.inr rfl) hl hg (by omega)
noncomputable def gLand_readName_33 (k : Nat) (o x1 : Nat) (J : gJ) (L : gL) (x2 : Int) : Int × gJ × gL := match k with
  | 0 => default
  | k + 1 => gLet (J o 4) (fun (v_1 : Int) => (if v_1 ≤ x2 then gLet (J o 4) (fun (v_2 : Int) => gLet (gTape_name_0 x1 J L) (fun (r_3 : Int64) => gLet (q_u L (o + 1) (Int.toNat v_2) r_3) (fun (L_4 : gL) => gLet (J o 4) (fun (v_5 : Int) => gLet (v_5 + 1) (fun (v_6 : Int) => gLet (q_u J o 4 v_6) (fun (J_7 : gJ) => gB3 (gTape_step_0 x1 J_7 L_4) (fun r_8 J_9 L_10 => (0, J_9, L_10)))))))) else gLet (gTape_name_0 x1 J L) (fun (r_11 : Int64) => gLet ((lg_cmp (L (o + 1) (Int.toNat x2)) r_11).toInt) (fun (v_12 : Int) => (if v_12 = 0 then gB3 (gTape_refuse_0 x1 J L 3) (fun r_14 J_15 L_16 => (0, J_15, L_16)) else gLet (x2 + 1) (fun (v_13 : Int) => (gLand_readName_33 k o x1 J L v_13)))))))
theorem eLand_readName_33 {k : Nat} {o x1 : Nat} {J : gJ} {L : gL} {x2 : Int} : gLand_readName_33 (k + 1) o x1 J L x2 = gLet (J o 4) (fun (v_1 : Int) => (if v_1 ≤ x2 then gLet (J o 4) (fun (v_2 : Int) => gLet (gTape_name_0 x1 J L) (fun (r_3 : Int64) => gLet (q_u L (o + 1) (Int.toNat v_2) r_3) (fun (L_4 : gL) => gLet (J o 4) (fun (v_5 : Int) => gLet (v_5 + 1) (fun (v_6 : Int) => gLet (q_u J o 4 v_6) (fun (J_7 : gJ) => gB3 (gTape_step_0 x1 J_7 L_4) (fun r_8 J_9 L_10 => (0, J_9, L_10)))))))) else gLet (gTape_name_0 x1 J L) (fun (r_11 : Int64) => gLet ((lg_cmp (L (o + 1) (Int.toNat x2)) r_11).toInt) (fun (v_12 : Int) => (if v_12 = 0 then gB3 (gTape_refuse_0 x1 J L 3) (fun r_14 J_15 L_16 => (0, J_15, L_16)) else gLet (x2 + 1) (fun (v_13 : Int) => (gLand_readName_33 k o x1 J L v_13))))))) := rfl
noncomputable def gLand_readName_0 (o x1 : Nat) (J : gJ) (L : gL) : Int × gJ × gL := gLet (gTape_kind_0 x1 J L) (fun (r_1 : Int) => (if r_1 = 1 then gLet (gTape_value_0 x1 J L) (fun (r_5 : Int) => (if r_5 = (-1) then gLet (J o 4) (fun (v_9 : Int) => (if v_9 < 11 then (gLand_readName_33 20000 o x1 J L 0) else gB3 (gTape_refuse_0 x1 J L 2) (fun r_10 J_11 L_12 => (0, J_11, L_12)))) else gB3 (gTape_refuse_0 x1 J L 2) (fun r_6 J_7 L_8 => (0, J_7, L_8)))) else gB3 (gTape_refuse_0 x1 J L 2) (fun r_2 J_3 L_4 => (0, J_3, L_4))))
theorem eLand_readName_0 {o x1 : Nat} {J : gJ} {L : gL} : gLand_readName_0 o x1 J L  = gLet (gTape_kind_0 x1 J L) (fun (r_1 : Int) => (if r_1 = 1 then gLet (gTape_value_0 x1 J L) (fun (r_5 : Int) => (if r_5 = (-1) then gLet (J o 4) (fun (v_9 : Int) => (if v_9 < 11 then (gLand_readName_33 20000 o x1 J L 0) else gB3 (gTape_refuse_0 x1 J L 2) (fun r_10 J_11 L_12 => (0, J_11, L_12)))) else gB3 (gTape_refuse_0 x1 J L 2) (fun r_6 J_7 L_8 => (0, J_7, L_8)))) else gB3 (gTape_refuse_0 x1 J L 2) (fun r_2 J_3 L_4 => (0, J_3, L_4)))) := rfl
set_option maxHeartbeats 4000000 in
set_option maxRecDepth 20000 in
theorem yLand_readName_33g {D : va_G} {cA : FieldType → ClassId} {b : Nat} {E : State → Prop} {R : qRg} {o n : Nat} {sh : Nat → qC} {Rf : Nat → Nat → Option Nat} {I0 : Nat → Nat → Int32} {L0 : Nat → Nat → Int64} {post : Option Value → qS → Prop} {x1 : Nat} (hok : q_ok (qGG D cA b E)) (hw : WfLand (qGG D cA b E) n sh Rf o) (ra : RALand R o) (hw1 : WfTape (qGG D cA b E) n sh Rf x1) (ra1 : RATape R x1) (hs0 : o + 16 ≤ x1 ∨ x1 + 7 ≤ o) (hp : ∀ (I' : Nat → Nat → Int32) (L' : Nat → Nat → Int64), RI R I' → Fm (fun c => (o ≤ c ∧ c < o + 16) ∨ c = x1) I0 I' → ((I0 x1 7).toInt ≤ (I' x1 7).toInt) → ((I' o 0).toInt = (I0 o 0).toInt) → ((I' o 1).toInt = (I0 o 1).toInt) → ((I' o 2).toInt = (I0 o 2).toInt) → ((I' o 3).toInt = (I0 o 3).toInt) → (gLand_readName_0 o x1 (tI I0) L0 = (0, tI I', L')) → (FmL (fun c => c = (o + 1)) L0 L') → post none (n, sh, Rf, I', L')) : ∀ (k : Nat) {x2 : Int32} {I : Nat → Nat → Int32} {L : Nat → Nat → Int64}, RI R I → Fm (fun c => (o ≤ c ∧ c < o + 16) ∨ c = x1) I0 I → ((0 : Int) ≤ x2.toInt ∧ x2.toInt ≤ 11) → ((I o 4).toInt ≤ 10) → ((I o 0).toInt = (I0 o 0).toInt) → ((I o 1).toInt = (I0 o 1).toInt) → ((I o 2).toInt = (I0 o 2).toInt) → ((I o 3).toInt = (I0 o 3).toInt) → ((I0 x1 7).toInt ≤ (I x1 7).toInt) → (FmL (fun c => c = (o + 1)) L0 L) → (gLand_readName_33 k o x1 (tI I) L (x2).toInt = gLand_readName_0 o x1 (tI I0) L0) → (11 - x2.toInt).toNat < k → Ev (qGG D cA b E) mLand_readName 1 (0, 0) 33 [(0, .ref o), (1, .ref x1), (2, .int x2)] [] (n, sh, Rf, I, L) post := by
  intro k
  induction k with
  | zero =>
    intro x2 I L hR hf hi0 hi1 hi2 hi3 hi4 hi5 hi6 hl hg hm
    exact absurd hm (Nat.not_lt_zero _)
  | succ k ih =>
    intro x2 I L hR hf hi0 hi1 hi2 hi3 hi4 hi5 hi6 hl hg hm
    have g_1 : (0 : Int) ≤ (I o 0).toInt ∧ (I o 0).toInt ≤ 24 := hR.at0 ra 0 (by decide)
    have g_2 : (0 : Int) ≤ (I o 1).toInt ∧ (I o 1).toInt ≤ 3 := hR.at0 ra 1 (by decide)
    have g_3 : (0 : Int) ≤ (I o 2).toInt ∧ (I o 2).toInt ≤ 3 := hR.at0 ra 2 (by decide)
    have g_4 : (0 : Int) ≤ (I o 3).toInt ∧ (I o 3).toInt ≤ 5 := hR.at0 ra 3 (by decide)
    have g_5 : (0 : Int) ≤ (I x1 7).toInt ∧ (I x1 7).toInt ≤ 5 := hR.at0 ra1 7 (by decide)
    refine sLand_readName_33 o n sh Rf I L post x1 x2 hok hw hw1 ?_
    unfold fLand_readName_33
    replace hg := (eLand_readName_33).symm.trans hg
    have g_6 : (0 : Int) ≤ (I o 4).toInt ∧ (I o 4).toInt ≤ 11 := hR.at0 ra 4 (by decide)
    replace hg := gt_let (y := (I o 4).toInt) rfl hg
    refine ⟨fun c_7 => ?_, fun c_7 => ?_⟩
    · have d_8 := iLe c_7
      replace hg := gt_pos (by first | exact d_8 | omega) hg
      have g_9 : (0 : Int) ≤ (I o 4).toInt ∧ (I o 4).toInt ≤ 11 := hR.at0 ra 4 (by decide)
      replace hg := gt_let (y := (I o 4).toInt) rfl hg
      refine y_Tape_nameg hok hw1 ra1 hR (fun r_10 gn_11 => ⟨r_10, I, L, rfl, rfl, ?_⟩)
      replace hg := gt_let gn_11 hg
      clear gn_11
      refine ⟨tIn (by omega) (by omega), fun L_12 e_13 => ?_⟩
      replace hl := hl.set (by first | rfl | omega | (dsimp only; omega)) e_13
      replace hg := gt_let (y := L_12) e_13 hg
      have g_14 : (0 : Int) ≤ (I o 4).toInt ∧ (I o 4).toInt ≤ 11 := hR.at0 ra 4 (by decide)
      replace hg := gt_let (y := (I o 4).toInt) rfl hg
      have l_15 : (1 : Int32).toInt = 1 := rfl
      have a_16 : ((I o 4) + 1).toInt = (I o 4).toInt + (1 : Int32).toInt := tAdd (by omega) (by omega)
      replace hg := gt_let (y := (((I o 4) + 1) : Int32).toInt) (by omega) hg
      refine fun I_17 e_18 => ?_
      replace hg := gt_let (y := tI I_17) (tI_q e_18) hg
      have hR_19 : RI R I_17 := hR.up0 (k := 4) ra (by decide) (Or.inl rfl) e_18 (show (0 : Int) ≤ ((I o 4) + 1).toInt by omega) (show ((I o 4) + 1).toInt ≤ (11 : Int) by omega)
      have hf_20 : Fm (fun c => (o ≤ c ∧ c < o + 16) ∨ c = x1) I0 I_17 := hf.set (by first | rfl | omega | (dsimp only; omega)) e_18
      have t_21 : (I_17 o 0).toInt = (I o 0).toInt := by rw [← e_18, q_u_k (by decide)]
      have t_22 : (I_17 o 1).toInt = (I o 1).toInt := by rw [← e_18, q_u_k (by decide)]
      have t_23 : (I_17 o 2).toInt = (I o 2).toInt := by rw [← e_18, q_u_k (by decide)]
      have t_24 : (I_17 o 3).toInt = (I o 3).toInt := by rw [← e_18, q_u_k (by decide)]
      have t_25 : (I_17 x1 7).toInt = (I x1 7).toInt := by rw [← e_18, q_u_ne (sh_ne_o (hw1).1.2.2 (hw).1.2.2 (by decide))]
      have t_26 : (I_17 o 4).toInt = ((I o 4) + 1).toInt := by rw [← e_18, q_u_at]
      refine y_Tape_stepg hok hw1 ra1 hR_19 (fun I_31 L_32 hR_33 fr_34 u_28 gn_29 ln_30 => ⟨I_31, L_32, rfl, rfl, ?_⟩)
      replace hl := hl.call ln_30 (fun c hc => by first | exact hc | exact False.elim hc | (dsimp only at hc ⊢; omega) | omega)
      replace hg := gt_b3 gn_29 hg
      clear gn_29
      have hf_35 : Fm (fun c => (o ≤ c ∧ c < o + 16) ∨ c = x1) I0 I_31 := hf_20.call fr_34 (fun c hc => by first | exact hc | (dsimp only at hc ⊢; omega) | omega)
      have t_36 : (I_31 o 0).toInt = (I_17 o 0).toInt := by rw [fr_34 o (by first | omega | (dsimp only; omega))]
      have t_37 : (I_31 o 1).toInt = (I_17 o 1).toInt := by rw [fr_34 o (by first | omega | (dsimp only; omega))]
      have t_38 : (I_31 o 2).toInt = (I_17 o 2).toInt := by rw [fr_34 o (by first | omega | (dsimp only; omega))]
      have t_39 : (I_31 o 3).toInt = (I_17 o 3).toInt := by rw [fr_34 o (by first | omega | (dsimp only; omega))]
      have g_40 : (0 : Int) ≤ (I_31 x1 7).toInt ∧ (I_31 x1 7).toInt ≤ 5 := hR_33.at0 ra1 7 (by decide)
      have t_41 : (I_31 o 4).toInt = (I_17 o 4).toInt := by rw [fr_34 o (by first | omega | (dsimp only; omega))]
      exact (hp _ _ hR_33 hf_35 (by first | omega | (intro h; omega) | exact Or.inl rfl | exact Or.inr rfl) (by first | omega | (intro h; omega) | exact Or.inl rfl | exact Or.inr rfl) (by first | omega | (intro h; omega) | exact Or.inl rfl | exact Or.inr rfl) (by first | omega | (intro h; omega) | exact Or.inl rfl | exact Or.inr rfl) (by first | omega | (intro h; omega) | exact Or.inl rfl | exact Or.inr rfl) hg.symm hl)
    · have d_42 := iNle c_7
      replace hg := gt_neg (by first | exact d_42 | omega) hg
      refine ⟨tIn (by omega) (by omega), ?_⟩
      refine y_Tape_nameg hok hw1 ra1 hR (fun r_43 gn_44 => ⟨r_43, I, L, rfl, rfl, ?_⟩)
      replace hg := gt_let gn_44 hg
      clear gn_44
      replace hg := gt_let (y := (lg_cmp (L (o + 1) (x2 : Int32).toNatClampNeg) r_43).toInt) rfl hg
      have l_45 : (0 : Int32).toInt = 0 := rfl
      refine ⟨fun c_46 => ?_, fun c_46 => ?_⟩
      · have d_47 := iNe c_46
        replace hg := gt_neg (by first | exact d_47 | omega) hg
        have a_49 : (x2 + Int32.ofInt 1).toInt = x2.toInt + (1) := tIc (by omega) (by omega) (by decide) (by decide)
        generalize ez_48 : (x2 + Int32.ofInt 1) = z_48 at a_49 ⊢
        replace hg := gt_let (y := z_48.toInt) (by omega) hg
        exact ih hR hf (by first | omega | (intro h; omega) | exact Or.inl rfl | exact Or.inr rfl) (by first | omega | (intro h; omega) | exact Or.inl rfl | exact Or.inr rfl) (by first | omega | (intro h; omega) | exact Or.inl rfl | exact Or.inr rfl) (by first | omega | (intro h; omega) | exact Or.inl rfl | exact Or.inr rfl) (by first | omega | (intro h; omega) | exact Or.inl rfl | exact Or.inr rfl) (by first | omega | (intro h; omega) | exact Or.inl rfl | exact Or.inr rfl) (by first | omega | (intro h; omega) | exact Or.inl rfl | exact Or.inr rfl) hl hg (by omega)
      · have d_50 := iEq c_46
        replace hg := gt_pos (by first | exact d_50 | omega) hg
        have l_51 : (3 : Int32).toInt = 3 := rfl
        refine y_Tape_refuseg hok hw1 ra1 (by first | omega | (intro h; omega) | exact Or.inl rfl | exact Or.inr rfl) hR (fun I_57 L_58 hR_59 fr_60 u_53 u_54 gn_55 ln_56 => ⟨I_57, L_58, rfl, rfl, ?_⟩)
        replace hl := hl.call ln_56 (fun c hc => by first | exact hc | exact False.elim hc | (dsimp only at hc ⊢; omega) | omega)
        replace hg := gt_b3 gn_55 hg
        clear gn_55
        have hf_61 : Fm (fun c => (o ≤ c ∧ c < o + 16) ∨ c = x1) I0 I_57 := hf.call fr_60 (fun c hc => by first | exact hc | (dsimp only at hc ⊢; omega) | omega)
        have t_62 : (I_57 o 0).toInt = (I o 0).toInt := by rw [fr_60 o (by first | omega | (dsimp only; omega))]
        have t_63 : (I_57 o 1).toInt = (I o 1).toInt := by rw [fr_60 o (by first | omega | (dsimp only; omega))]
        have t_64 : (I_57 o 2).toInt = (I o 2).toInt := by rw [fr_60 o (by first | omega | (dsimp only; omega))]
        have t_65 : (I_57 o 3).toInt = (I o 3).toInt := by rw [fr_60 o (by first | omega | (dsimp only; omega))]
        have g_66 : (0 : Int) ≤ (I_57 x1 7).toInt ∧ (I_57 x1 7).toInt ≤ 5 := hR_59.at0 ra1 7 (by decide)
        have t_67 : (I_57 o 4).toInt = (I o 4).toInt := by rw [fr_60 o (by first | omega | (dsimp only; omega))]
        exact (hp _ _ hR_59 hf_61 (by first | omega | (intro h; omega) | exact Or.inl rfl | exact Or.inr rfl) (by first | omega | (intro h; omega) | exact Or.inl rfl | exact Or.inr rfl) (by first | omega | (intro h; omega) | exact Or.inl rfl | exact Or.inr rfl) (by first | omega | (intro h; omega) | exact Or.inl rfl | exact Or.inr rfl) (by first | omega | (intro h; omega) | exact Or.inl rfl | exact Or.inr rfl) hg.symm hl)
set_option maxHeartbeats 4000000 in
set_option maxRecDepth 20000 in
theorem y_Land_readNameg {D : va_G} {cA : FieldType → ClassId} {b : Nat} {E : State → Prop} {R : qRg} {o n : Nat} {sh : Nat → qC} {Rf : Nat → Nat → Option Nat} {I0 : Nat → Nat → Int32} {L0 : Nat → Nat → Int64} {post : Option Value → qS → Prop} {x1 : Nat} (hok : q_ok (qGG D cA b E)) (hw : WfLand (qGG D cA b E) n sh Rf o) (ra : RALand R o) (hw1 : WfTape (qGG D cA b E) n sh Rf x1) (ra1 : RATape R x1) (hs0 : o + 16 ≤ x1 ∨ x1 + 7 ≤ o) (hR : RI R I0) (hp : ∀ (I' : Nat → Nat → Int32) (L' : Nat → Nat → Int64), RI R I' → Fm (fun c => (o ≤ c ∧ c < o + 16) ∨ c = x1) I0 I' → ((I0 x1 7).toInt ≤ (I' x1 7).toInt) → ((I' o 0).toInt = (I0 o 0).toInt) → ((I' o 1).toInt = (I0 o 1).toInt) → ((I' o 2).toInt = (I0 o 2).toInt) → ((I' o 3).toInt = (I0 o 3).toInt) → (gLand_readName_0 o x1 (tI I0) L0 = (0, tI I', L')) → (FmL (fun c => c = (o + 1)) L0 L') → post none (n, sh, Rf, I', L')) : Ev (qGG D cA b E) mLand_readName 1 (0, 0) 0 (lv_args 0 [.ref o, .ref x1]) [] (n, sh, Rf, I0, L0) post := by
  have hf : Fm (fun c => (o ≤ c ∧ c < o + 16) ∨ c = x1) I0 I0 := Fm.rf
  have g_68 : (0 : Int) ≤ (I0 o 0).toInt ∧ (I0 o 0).toInt ≤ 24 := hR.at0 ra 0 (by decide)
  have g_69 : (0 : Int) ≤ (I0 o 1).toInt ∧ (I0 o 1).toInt ≤ 3 := hR.at0 ra 1 (by decide)
  have g_70 : (0 : Int) ≤ (I0 o 2).toInt ∧ (I0 o 2).toInt ≤ 3 := hR.at0 ra 2 (by decide)
  have g_71 : (0 : Int) ≤ (I0 o 3).toInt ∧ (I0 o 3).toInt ≤ 5 := hR.at0 ra 3 (by decide)
  have g_72 : (0 : Int) ≤ (I0 x1 7).toInt ∧ (I0 x1 7).toInt ≤ 5 := hR.at0 ra1 7 (by decide)
  refine sLand_readName_0 o n sh Rf I0 L0 post x1 hok hw hw1 ?_
  unfold fLand_readName_0
  have hl : FmL (fun c => c = (o + 1)) L0 L0 := FmL.rf
  have hg : gLand_readName_0 o x1 (tI I0) L0 = gLand_readName_0 o x1 (tI I0) L0 := rfl
  replace hg := (eLand_readName_0).symm.trans hg
  refine y_Tape_kindg hok hw1 ra1 hR (fun r_73 u_74 gn_75 => ⟨r_73, I0, L0, rfl, rfl, ?_⟩)
  replace hg := gt_let gn_75 hg
  clear gn_75
  have l_76 : (1 : Int32).toInt = 1 := rfl
  refine ⟨fun c_77 => ?_, fun c_77 => ?_⟩
  · have d_78 := iNe c_77
    replace hg := gt_neg (by first | exact d_78 | omega) hg
    have l_79 : (2 : Int32).toInt = 2 := rfl
    refine y_Tape_refuseg hok hw1 ra1 (by first | omega | (intro h; omega) | exact Or.inl rfl | exact Or.inr rfl) hR (fun I_85 L_86 hR_87 fr_88 u_81 u_82 gn_83 ln_84 => ⟨I_85, L_86, rfl, rfl, ?_⟩)
    replace hl := hl.call ln_84 (fun c hc => by first | exact hc | exact False.elim hc | (dsimp only at hc ⊢; omega) | omega)
    replace hg := gt_b3 gn_83 hg
    clear gn_83
    have hf_89 : Fm (fun c => (o ≤ c ∧ c < o + 16) ∨ c = x1) I0 I_85 := hf.call fr_88 (fun c hc => by first | exact hc | (dsimp only at hc ⊢; omega) | omega)
    have t_90 : (I_85 o 0).toInt = (I0 o 0).toInt := by rw [fr_88 o (by first | omega | (dsimp only; omega))]
    have t_91 : (I_85 o 1).toInt = (I0 o 1).toInt := by rw [fr_88 o (by first | omega | (dsimp only; omega))]
    have t_92 : (I_85 o 2).toInt = (I0 o 2).toInt := by rw [fr_88 o (by first | omega | (dsimp only; omega))]
    have t_93 : (I_85 o 3).toInt = (I0 o 3).toInt := by rw [fr_88 o (by first | omega | (dsimp only; omega))]
    have g_94 : (0 : Int) ≤ (I_85 x1 7).toInt ∧ (I_85 x1 7).toInt ≤ 5 := hR_87.at0 ra1 7 (by decide)
    exact (hp _ _ hR_87 hf_89 (by first | omega | (intro h; omega) | exact Or.inl rfl | exact Or.inr rfl) (by first | omega | (intro h; omega) | exact Or.inl rfl | exact Or.inr rfl) (by first | omega | (intro h; omega) | exact Or.inl rfl | exact Or.inr rfl) (by first | omega | (intro h; omega) | exact Or.inl rfl | exact Or.inr rfl) (by first | omega | (intro h; omega) | exact Or.inl rfl | exact Or.inr rfl) hg.symm hl)
  · have d_95 := iEq c_77
    replace hg := gt_pos (by first | exact d_95 | omega) hg
    refine y_Tape_valueg hok hw1 ra1 hR (fun r_96 u_97 gn_98 => ⟨r_96, I0, L0, rfl, rfl, ?_⟩)
    replace hg := gt_let gn_98 hg
    clear gn_98
    have l_99 : (-1 : Int32).toInt = -1 := rfl
    refine ⟨fun c_100 => ?_, fun c_100 => ?_⟩
    · have d_101 := iNe c_100
      replace hg := gt_neg (by first | exact d_101 | omega) hg
      have l_102 : (2 : Int32).toInt = 2 := rfl
      refine y_Tape_refuseg hok hw1 ra1 (by first | omega | (intro h; omega) | exact Or.inl rfl | exact Or.inr rfl) hR (fun I_108 L_109 hR_110 fr_111 u_104 u_105 gn_106 ln_107 => ⟨I_108, L_109, rfl, rfl, ?_⟩)
      replace hl := hl.call ln_107 (fun c hc => by first | exact hc | exact False.elim hc | (dsimp only at hc ⊢; omega) | omega)
      replace hg := gt_b3 gn_106 hg
      clear gn_106
      have hf_112 : Fm (fun c => (o ≤ c ∧ c < o + 16) ∨ c = x1) I0 I_108 := hf.call fr_111 (fun c hc => by first | exact hc | (dsimp only at hc ⊢; omega) | omega)
      have t_113 : (I_108 o 0).toInt = (I0 o 0).toInt := by rw [fr_111 o (by first | omega | (dsimp only; omega))]
      have t_114 : (I_108 o 1).toInt = (I0 o 1).toInt := by rw [fr_111 o (by first | omega | (dsimp only; omega))]
      have t_115 : (I_108 o 2).toInt = (I0 o 2).toInt := by rw [fr_111 o (by first | omega | (dsimp only; omega))]
      have t_116 : (I_108 o 3).toInt = (I0 o 3).toInt := by rw [fr_111 o (by first | omega | (dsimp only; omega))]
      have g_117 : (0 : Int) ≤ (I_108 x1 7).toInt ∧ (I_108 x1 7).toInt ≤ 5 := hR_110.at0 ra1 7 (by decide)
      exact (hp _ _ hR_110 hf_112 (by first | omega | (intro h; omega) | exact Or.inl rfl | exact Or.inr rfl) (by first | omega | (intro h; omega) | exact Or.inl rfl | exact Or.inr rfl) (by first | omega | (intro h; omega) | exact Or.inl rfl | exact Or.inr rfl) (by first | omega | (intro h; omega) | exact Or.inl rfl | exact Or.inr rfl) (by first | omega | (intro h; omega) | exact Or.inl rfl | exact Or.inr rfl) hg.symm hl)
    · have d_118 := iEq c_100
      replace hg := gt_pos (by first | exact d_118 | omega) hg
      have g_119 : (0 : Int) ≤ (I0 o 4).toInt ∧ (I0 o 4).toInt ≤ 11 := hR.at0 ra 4 (by decide)
      replace hg := gt_let (y := (I0 o 4).toInt) rfl hg
      have l_120 : (11 : Int32).toInt = 11 := rfl
      refine ⟨fun c_121 => ?_, fun c_121 => ?_⟩
      · have d_122 := iLt c_121
        replace hg := gt_pos (by first | exact d_122 | omega) hg
        have l_123 : (0 : Int32).toInt = 0 := rfl
        exact yLand_readName_33g (I0 := I0) (L0 := L0) hok hw ra hw1 ra1 hs0 hp  20000 hR hf (by first | omega | (intro h; omega) | exact Or.inl rfl | exact Or.inr rfl) (by first | omega | (intro h; omega) | exact Or.inl rfl | exact Or.inr rfl) (by first | omega | (intro h; omega) | exact Or.inl rfl | exact Or.inr rfl) (by first | omega | (intro h; omega) | exact Or.inl rfl | exact Or.inr rfl) (by first | omega | (intro h; omega) | exact Or.inl rfl | exact Or.inr rfl) (by first | omega | (intro h; omega) | exact Or.inl rfl | exact Or.inr rfl) (by first | omega | (intro h; omega) | exact Or.inl rfl | exact Or.inr rfl) hl hg (by omega)
      · have d_124 := iNlt c_121
        replace hg := gt_neg (by first | exact d_124 | omega) hg
        have l_125 : (2 : Int32).toInt = 2 := rfl
        refine y_Tape_refuseg hok hw1 ra1 (by first | omega | (intro h; omega) | exact Or.inl rfl | exact Or.inr rfl) hR (fun I_131 L_132 hR_133 fr_134 u_127 u_128 gn_129 ln_130 => ⟨I_131, L_132, rfl, rfl, ?_⟩)
        replace hl := hl.call ln_130 (fun c hc => by first | exact hc | exact False.elim hc | (dsimp only at hc ⊢; omega) | omega)
        replace hg := gt_b3 gn_129 hg
        clear gn_129
        have hf_135 : Fm (fun c => (o ≤ c ∧ c < o + 16) ∨ c = x1) I0 I_131 := hf.call fr_134 (fun c hc => by first | exact hc | (dsimp only at hc ⊢; omega) | omega)
        have t_136 : (I_131 o 0).toInt = (I0 o 0).toInt := by rw [fr_134 o (by first | omega | (dsimp only; omega))]
        have t_137 : (I_131 o 1).toInt = (I0 o 1).toInt := by rw [fr_134 o (by first | omega | (dsimp only; omega))]
        have t_138 : (I_131 o 2).toInt = (I0 o 2).toInt := by rw [fr_134 o (by first | omega | (dsimp only; omega))]
        have t_139 : (I_131 o 3).toInt = (I0 o 3).toInt := by rw [fr_134 o (by first | omega | (dsimp only; omega))]
        have g_140 : (0 : Int) ≤ (I_131 x1 7).toInt ∧ (I_131 x1 7).toInt ≤ 5 := hR_133.at0 ra1 7 (by decide)
        have t_141 : (I_131 o 4).toInt = (I0 o 4).toInt := by rw [fr_134 o (by first | omega | (dsimp only; omega))]
        exact (hp _ _ hR_133 hf_135 (by first | omega | (intro h; omega) | exact Or.inl rfl | exact Or.inr rfl) (by first | omega | (intro h; omega) | exact Or.inl rfl | exact Or.inr rfl) (by first | omega | (intro h; omega) | exact Or.inl rfl | exact Or.inr rfl) (by first | omega | (intro h; omega) | exact Or.inl rfl | exact Or.inr rfl) (by first | omega | (intro h; omega) | exact Or.inl rfl | exact Or.inr rfl) hg.symm hl)
noncomputable def gLand_readSite_0 (o x1 : Nat) (J : gJ) (L : gL) : Int × gJ × gL := gLet (gTape_isWord_0 x1 J L 2) (fun (r_1 : Int) => gB3 (gTape_passIf_0 x1 J L r_1) (fun r_2 J_3 L_4 => gB3 (gTape_takePlaceUnlike_0 x1 J_3 L_4 (-1)) (fun r_5 J_6 L_7 => (r_5, J_6, L_7))))
theorem eLand_readSite_0 {o x1 : Nat} {J : gJ} {L : gL} : gLand_readSite_0 o x1 J L  = gLet (gTape_isWord_0 x1 J L 2) (fun (r_1 : Int) => gB3 (gTape_passIf_0 x1 J L r_1) (fun r_2 J_3 L_4 => gB3 (gTape_takePlaceUnlike_0 x1 J_3 L_4 (-1)) (fun r_5 J_6 L_7 => (r_5, J_6, L_7)))) := rfl
set_option maxHeartbeats 4000000 in
set_option maxRecDepth 20000 in
theorem y_Land_readSiteg {D : va_G} {cA : FieldType → ClassId} {b : Nat} {E : State → Prop} {R : qRg} {o n : Nat} {sh : Nat → qC} {Rf : Nat → Nat → Option Nat} {I0 : Nat → Nat → Int32} {L0 : Nat → Nat → Int64} {post : Option Value → qS → Prop} {x1 : Nat} (hok : q_ok (qGG D cA b E)) (hw : WfLand (qGG D cA b E) n sh Rf o) (ra : RALand R o) (hw1 : WfTape (qGG D cA b E) n sh Rf x1) (ra1 : RATape R x1) (hq0 : TokOK I0 x1) (hR : RI R I0) (hp : ∀ (r : Int32) (I' : Nat → Nat → Int32) (L' : Nat → Nat → Int64), RI R I' → Fm (fun c => c = x1) I0 I' → (((-1 : Int) ≤ r.toInt ∧ r.toInt ≤ 15)) → ((I0 x1 7).toInt ≤ (I' x1 7).toInt) → (0 ≤ r.toInt + (I' x1 7).toInt) → (gLand_readSite_0 o x1 (tI I0) L0 = (r.toInt, tI I', L')) → (FmL (fun c => False) L0 L') → post (some (.int r)) (n, sh, Rf, I', L')) : Ev (qGG D cA b E) mLand_readSite 2 (0, 0) 0 (lv_args 0 [.ref o, .ref x1]) [] (n, sh, Rf, I0, L0) post := by
  have hf : Fm (fun c => c = x1) I0 I0 := Fm.rf
  have g_1 : (0 : Int) ≤ (I0 x1 7).toInt ∧ (I0 x1 7).toInt ≤ 5 := hR.at0 ra1 7 (by decide)
  refine sLand_readSite_0 o n sh Rf I0 L0 post x1 hok hw hw1 ?_
  unfold fLand_readSite_0
  have hl : FmL (fun c => False) L0 L0 := FmL.rf
  have hg : gLand_readSite_0 o x1 (tI I0) L0 = gLand_readSite_0 o x1 (tI I0) L0 := rfl
  replace hg := (eLand_readSite_0).symm.trans hg
  have l_2 : (2 : Int32).toInt = 2 := rfl
  refine y_Tape_isWordg hok hw1 ra1 hR (fun r_3 u_4 gn_5 => ⟨r_3, I0, L0, rfl, rfl, ?_⟩)
  replace hg := gt_let gn_5 hg
  clear gn_5
  have b_6 : 0 ≤ r_3.toInt ∧ r_3.toInt ≤ 1 := u_4.rg
  refine y_Tape_passIfg hok hw1 ra1 hR (fun I_11 L_12 hR_13 fr_14 u_8 gn_9 ln_10 => ⟨I_11, L_12, rfl, rfl, ?_⟩)
  replace hl := hl.call ln_10 (fun c hc => by first | exact hc | exact False.elim hc | (dsimp only at hc ⊢; omega) | omega)
  replace hg := gt_b3 gn_9 hg
  clear gn_9
  have hf_15 : Fm (fun c => c = x1) I0 I_11 := hf.call fr_14 (fun c hc => by first | exact hc | (dsimp only at hc ⊢; omega) | omega)
  have g_16 : (0 : Int) ≤ (I_11 x1 7).toInt ∧ (I_11 x1 7).toInt ≤ 5 := hR_13.at0 ra1 7 (by decide)
  have k_17 : TokOK I_11 x1 := hq0.fr (fr_14 _ (by first | omega | (dsimp only; omega))) (fr_14 _ (by first | omega | (dsimp only; omega)))
  have l_18 : (-1 : Int32).toInt = -1 := rfl
  refine y_Tape_takePlaceUnlikeg hok hw1 ra1 k_17 hR_13 (fun r_19 I_25 L_26 hR_27 fr_28 u_20 u_21 u_22 gn_23 ln_24 => ⟨r_19, I_25, L_26, rfl, rfl, ?_⟩)
  replace hl := hl.call ln_24 (fun c hc => by first | exact hc | exact False.elim hc | (dsimp only at hc ⊢; omega) | omega)
  replace hg := gt_b3 gn_23 hg
  clear gn_23
  have hf_29 : Fm (fun c => c = x1) I0 I_25 := hf_15.call fr_28 (fun c hc => by first | exact hc | (dsimp only at hc ⊢; omega) | omega)
  have g_30 : (0 : Int) ≤ (I_25 x1 7).toInt ∧ (I_25 x1 7).toInt ≤ 5 := hR_27.at0 ra1 7 (by decide)
  have k_31 : TokOK I_25 x1 := k_17.fr (fr_28 _ (by first | omega | (dsimp only; omega))) (fr_28 _ (by first | omega | (dsimp only; omega)))
  exact (hp _ _ _ hR_27 hf_29 (by first | omega | (intro h; omega) | exact Or.inl rfl | exact Or.inr rfl) (by first | omega | (intro h; omega) | exact Or.inl rfl | exact Or.inr rfl) (by first | omega | (intro h; omega) | exact Or.inl rfl | exact Or.inr rfl) hg.symm hl)
noncomputable def gLand_readRoad_0 (o x1 : Nat) (J : gJ) (L : gL) : Int × gJ × gL := gB3 (gTape_step_0 x1 J L) (fun r_1 J_2 L_3 => gB3 (gTape_takePlaceUnlike_0 x1 J_2 L_3 (-1)) (fun r_4 J_5 L_6 => gB3 (gTape_takePlaceUnlike_0 x1 J_5 L_6 r_4) (fun r_7 J_8 L_9 => gB3 (gTape_takeNumber_0 x1 J_8 L_9 1 90) (fun r_10 J_11 L_12 => gB3 (gTape_closeLine_0 x1 J_11 L_12) (fun r_13 J_14 L_15 => (if r_13 = 0 then (0, J_14, L_15) else gB3 (gLand_shorten_0 o J_14 L_15 r_4 r_7 r_10) (fun r_16 J_17 L_18 => gB3 (gLand_shorten_0 o J_17 L_18 r_7 r_4 r_10) (fun r_19 J_20 L_21 => gLet (J_20 o 0) (fun (v_22 : Int) => gLet (v_22 + 1) (fun (v_23 : Int) => gLet (q_u J_20 o 0 v_23) (fun (J_24 : gJ) => (1, J_24, L_21))))))))))))
theorem eLand_readRoad_0 {o x1 : Nat} {J : gJ} {L : gL} : gLand_readRoad_0 o x1 J L  = gB3 (gTape_step_0 x1 J L) (fun r_1 J_2 L_3 => gB3 (gTape_takePlaceUnlike_0 x1 J_2 L_3 (-1)) (fun r_4 J_5 L_6 => gB3 (gTape_takePlaceUnlike_0 x1 J_5 L_6 r_4) (fun r_7 J_8 L_9 => gB3 (gTape_takeNumber_0 x1 J_8 L_9 1 90) (fun r_10 J_11 L_12 => gB3 (gTape_closeLine_0 x1 J_11 L_12) (fun r_13 J_14 L_15 => (if r_13 = 0 then (0, J_14, L_15) else gB3 (gLand_shorten_0 o J_14 L_15 r_4 r_7 r_10) (fun r_16 J_17 L_18 => gB3 (gLand_shorten_0 o J_17 L_18 r_7 r_4 r_10) (fun r_19 J_20 L_21 => gLet (J_20 o 0) (fun (v_22 : Int) => gLet (v_22 + 1) (fun (v_23 : Int) => gLet (q_u J_20 o 0 v_23) (fun (J_24 : gJ) => (1, J_24, L_21)))))))))))) := rfl
set_option maxHeartbeats 4000000 in
set_option maxRecDepth 20000 in
theorem y_Land_readRoadg {D : va_G} {cA : FieldType → ClassId} {b : Nat} {E : State → Prop} {R : qRg} {o n : Nat} {sh : Nat → qC} {Rf : Nat → Nat → Option Nat} {I0 : Nat → Nat → Int32} {L0 : Nat → Nat → Int64} {post : Option Value → qS → Prop} {x1 : Nat} (hok : q_ok (qGG D cA b E)) (hw : WfLand (qGG D cA b E) n sh Rf o) (ra : RALand R o) (hw1 : WfTape (qGG D cA b E) n sh Rf x1) (ra1 : RATape R x1) (hs0 : o + 16 ≤ x1 ∨ x1 + 7 ≤ o) (hq0 : (I0 o 0).toInt ≤ 23) (hq1 : TokOK I0 x1) (hR : RI R I0) (hp : ∀ (r : Int32) (I' : Nat → Nat → Int32) (L' : Nat → Nat → Int64), RI R I' → Fm (fun c => (o ≤ c ∧ c < o + 16) ∨ c = x1) I0 I' → (Bz r) → (gLand_readRoad_0 o x1 (tI I0) L0 = (r.toInt, tI I', L')) → (FmL (fun c => False) L0 L') → post (some (.int r)) (n, sh, Rf, I', L')) : Ev (qGG D cA b E) mLand_readRoad 3 (0, 0) 0 (lv_args 0 [.ref o, .ref x1]) [] (n, sh, Rf, I0, L0) post := by
  have hf : Fm (fun c => (o ≤ c ∧ c < o + 16) ∨ c = x1) I0 I0 := Fm.rf
  have g_1 : (0 : Int) ≤ (I0 o 0).toInt ∧ (I0 o 0).toInt ≤ 24 := hR.at0 ra 0 (by decide)
  have g_2 : (0 : Int) ≤ (I0 x1 7).toInt ∧ (I0 x1 7).toInt ≤ 5 := hR.at0 ra1 7 (by decide)
  refine sLand_readRoad_0 o n sh Rf I0 L0 post x1 hok hw hw1 ?_
  unfold fLand_readRoad_0
  have hl : FmL (fun c => False) L0 L0 := FmL.rf
  have hg : gLand_readRoad_0 o x1 (tI I0) L0 = gLand_readRoad_0 o x1 (tI I0) L0 := rfl
  replace hg := (eLand_readRoad_0).symm.trans hg
  refine y_Tape_stepg hok hw1 ra1 hR (fun I_7 L_8 hR_9 fr_10 u_4 gn_5 ln_6 => ⟨I_7, L_8, rfl, rfl, ?_⟩)
  replace hl := hl.call ln_6 (fun c hc => by first | exact hc | exact False.elim hc | (dsimp only at hc ⊢; omega) | omega)
  replace hg := gt_b3 gn_5 hg
  clear gn_5
  have hf_11 : Fm (fun c => (o ≤ c ∧ c < o + 16) ∨ c = x1) I0 I_7 := hf.call fr_10 (fun c hc => by first | exact hc | (dsimp only at hc ⊢; omega) | omega)
  have t_12 : (I_7 o 0).toInt = (I0 o 0).toInt := by rw [fr_10 o (by first | omega | (dsimp only; omega))]
  have g_13 : (0 : Int) ≤ (I_7 x1 7).toInt ∧ (I_7 x1 7).toInt ≤ 5 := hR_9.at0 ra1 7 (by decide)
  have k_14 : TokOK I_7 x1 := hq1.fr (fr_10 _ (by first | omega | (dsimp only; omega))) (fr_10 _ (by first | omega | (dsimp only; omega)))
  have l_15 : (-1 : Int32).toInt = -1 := rfl
  refine y_Tape_takePlaceUnlikeg hok hw1 ra1 k_14 hR_9 (fun r_16 I_22 L_23 hR_24 fr_25 u_17 u_18 u_19 gn_20 ln_21 => ⟨r_16, I_22, L_23, rfl, rfl, ?_⟩)
  replace hl := hl.call ln_21 (fun c hc => by first | exact hc | exact False.elim hc | (dsimp only at hc ⊢; omega) | omega)
  replace hg := gt_b3 gn_20 hg
  clear gn_20
  have hf_26 : Fm (fun c => (o ≤ c ∧ c < o + 16) ∨ c = x1) I0 I_22 := hf_11.call fr_25 (fun c hc => by first | exact hc | (dsimp only at hc ⊢; omega) | omega)
  have t_27 : (I_22 o 0).toInt = (I_7 o 0).toInt := by rw [fr_25 o (by first | omega | (dsimp only; omega))]
  have g_28 : (0 : Int) ≤ (I_22 x1 7).toInt ∧ (I_22 x1 7).toInt ≤ 5 := hR_24.at0 ra1 7 (by decide)
  have k_29 : TokOK I_22 x1 := k_14.fr (fr_25 _ (by first | omega | (dsimp only; omega))) (fr_25 _ (by first | omega | (dsimp only; omega)))
  refine y_Tape_takePlaceUnlikeg hok hw1 ra1 k_29 hR_24 (fun r_30 I_36 L_37 hR_38 fr_39 u_31 u_32 u_33 gn_34 ln_35 => ⟨r_30, I_36, L_37, rfl, rfl, ?_⟩)
  replace hl := hl.call ln_35 (fun c hc => by first | exact hc | exact False.elim hc | (dsimp only at hc ⊢; omega) | omega)
  replace hg := gt_b3 gn_34 hg
  clear gn_34
  have hf_40 : Fm (fun c => (o ≤ c ∧ c < o + 16) ∨ c = x1) I0 I_36 := hf_26.call fr_39 (fun c hc => by first | exact hc | (dsimp only at hc ⊢; omega) | omega)
  have t_41 : (I_36 o 0).toInt = (I_22 o 0).toInt := by rw [fr_39 o (by first | omega | (dsimp only; omega))]
  have g_42 : (0 : Int) ≤ (I_36 x1 7).toInt ∧ (I_36 x1 7).toInt ≤ 5 := hR_38.at0 ra1 7 (by decide)
  have k_43 : TokOK I_36 x1 := k_29.fr (fr_39 _ (by first | omega | (dsimp only; omega))) (fr_39 _ (by first | omega | (dsimp only; omega)))
  have l_44 : (1 : Int32).toInt = 1 := rfl
  have l_45 : (90 : Int32).toInt = 90 := rfl
  refine y_Tape_takeNumberg hok hw1 ra1 (by first | omega | (intro h; omega) | exact Or.inl rfl | exact Or.inr rfl) (by first | omega | (intro h; omega) | exact Or.inl rfl | exact Or.inr rfl) hR_38 (fun r_46 I_52 L_53 hR_54 fr_55 u_47 u_48 u_49 gn_50 ln_51 => ⟨r_46, I_52, L_53, rfl, rfl, ?_⟩)
  replace hl := hl.call ln_51 (fun c hc => by first | exact hc | exact False.elim hc | (dsimp only at hc ⊢; omega) | omega)
  replace hg := gt_b3 gn_50 hg
  clear gn_50
  have hf_56 : Fm (fun c => (o ≤ c ∧ c < o + 16) ∨ c = x1) I0 I_52 := hf_40.call fr_55 (fun c hc => by first | exact hc | (dsimp only at hc ⊢; omega) | omega)
  have t_57 : (I_52 o 0).toInt = (I_36 o 0).toInt := by rw [fr_55 o (by first | omega | (dsimp only; omega))]
  have g_58 : (0 : Int) ≤ (I_52 x1 7).toInt ∧ (I_52 x1 7).toInt ≤ 5 := hR_54.at0 ra1 7 (by decide)
  have k_59 : TokOK I_52 x1 := k_43.fr (fr_55 _ (by first | omega | (dsimp only; omega))) (fr_55 _ (by first | omega | (dsimp only; omega)))
  refine y_Tape_closeLineg hok hw1 ra1 hR_54 (fun r_60 I_66 L_67 hR_68 fr_69 u_61 u_62 u_63 gn_64 ln_65 => ⟨r_60, I_66, L_67, rfl, rfl, ?_⟩)
  replace hl := hl.call ln_65 (fun c hc => by first | exact hc | exact False.elim hc | (dsimp only at hc ⊢; omega) | omega)
  replace hg := gt_b3 gn_64 hg
  clear gn_64
  have hf_70 : Fm (fun c => (o ≤ c ∧ c < o + 16) ∨ c = x1) I0 I_66 := hf_56.call fr_69 (fun c hc => by first | exact hc | (dsimp only at hc ⊢; omega) | omega)
  have t_71 : (I_66 o 0).toInt = (I_52 o 0).toInt := by rw [fr_69 o (by first | omega | (dsimp only; omega))]
  have g_72 : (0 : Int) ≤ (I_66 x1 7).toInt ∧ (I_66 x1 7).toInt ≤ 5 := hR_68.at0 ra1 7 (by decide)
  have k_73 : TokOK I_66 x1 := k_59.fr (fr_69 _ (by first | omega | (dsimp only; omega))) (fr_69 _ (by first | omega | (dsimp only; omega)))
  have b_74 : 0 ≤ r_60.toInt ∧ r_60.toInt ≤ 1 := u_61.rg
  have l_75 : (0 : Int32).toInt = 0 := rfl
  refine ⟨fun c_76 => ?_, fun c_76 => ?_⟩
  · have d_77 := iNe c_76
    replace hg := gt_neg (by first | exact d_77 | omega) hg
    refine y_Land_shorteng hok hw ra (by first | omega | (intro h; omega) | exact Or.inl rfl | exact Or.inr rfl) (by first | omega | (intro h; omega) | exact Or.inl rfl | exact Or.inr rfl) hR_68 (fun I_86 L_87 hR_88 fr_89 u_79 u_80 u_81 u_82 u_83 gn_84 ln_85 => ⟨I_86, L_87, rfl, rfl, ?_⟩)
    replace hl := hl.call ln_85 (fun c hc => by first | exact hc | exact False.elim hc | (dsimp only at hc ⊢; omega) | omega)
    replace hg := gt_b3 gn_84 hg
    clear gn_84
    have hf_90 : Fm (fun c => (o ≤ c ∧ c < o + 16) ∨ c = x1) I0 I_86 := hf_70.call fr_89 (fun c hc => by first | exact hc | (dsimp only at hc ⊢; omega) | omega)
    have g_91 : (0 : Int) ≤ (I_86 o 0).toInt ∧ (I_86 o 0).toInt ≤ 24 := hR_88.at0 ra 0 (by decide)
    have t_92 : (I_86 x1 7).toInt = (I_66 x1 7).toInt := by rw [fr_89 x1 (by first | omega | (dsimp only; omega))]
    have k_93 : TokOK I_86 x1 := k_73.fr (fr_89 _ (by first | omega | (dsimp only; omega))) (fr_89 _ (by first | omega | (dsimp only; omega)))
    refine y_Land_shorteng hok hw ra (by first | omega | (intro h; omega) | exact Or.inl rfl | exact Or.inr rfl) (by first | omega | (intro h; omega) | exact Or.inl rfl | exact Or.inr rfl) hR_88 (fun I_102 L_103 hR_104 fr_105 u_95 u_96 u_97 u_98 u_99 gn_100 ln_101 => ⟨I_102, L_103, rfl, rfl, ?_⟩)
    replace hl := hl.call ln_101 (fun c hc => by first | exact hc | exact False.elim hc | (dsimp only at hc ⊢; omega) | omega)
    replace hg := gt_b3 gn_100 hg
    clear gn_100
    have hf_106 : Fm (fun c => (o ≤ c ∧ c < o + 16) ∨ c = x1) I0 I_102 := hf_90.call fr_105 (fun c hc => by first | exact hc | (dsimp only at hc ⊢; omega) | omega)
    have g_107 : (0 : Int) ≤ (I_102 o 0).toInt ∧ (I_102 o 0).toInt ≤ 24 := hR_104.at0 ra 0 (by decide)
    have t_108 : (I_102 x1 7).toInt = (I_86 x1 7).toInt := by rw [fr_105 x1 (by first | omega | (dsimp only; omega))]
    have k_109 : TokOK I_102 x1 := k_93.fr (fr_105 _ (by first | omega | (dsimp only; omega))) (fr_105 _ (by first | omega | (dsimp only; omega)))
    have g_110 : (0 : Int) ≤ (I_102 o 0).toInt ∧ (I_102 o 0).toInt ≤ 24 := hR_104.at0 ra 0 (by decide)
    replace hg := gt_let (y := (I_102 o 0).toInt) rfl hg
    have a_111 : ((I_102 o 0) + 1).toInt = (I_102 o 0).toInt + (1 : Int32).toInt := tAdd (by omega) (by omega)
    replace hg := gt_let (y := (((I_102 o 0) + 1) : Int32).toInt) (by omega) hg
    refine fun I_112 e_113 => ?_
    replace hg := gt_let (y := tI I_112) (tI_q e_113) hg
    have hR_114 : RI R I_112 := hR_104.up0 (k := 0) ra (by decide) (Or.inl rfl) e_113 (show (0 : Int) ≤ ((I_102 o 0) + 1).toInt by omega) (show ((I_102 o 0) + 1).toInt ≤ (24 : Int) by omega)
    have hf_115 : Fm (fun c => (o ≤ c ∧ c < o + 16) ∨ c = x1) I0 I_112 := hf_106.set (by first | rfl | omega | (dsimp only; omega)) e_113
    have t_116 : (I_112 o 0).toInt = ((I_102 o 0) + 1).toInt := by rw [← e_113, q_u_at]
    have t_117 : (I_112 x1 7).toInt = (I_102 x1 7).toInt := by rw [← e_113, q_u_ne (sh_ne_o (hw1).1.2.2 (hw).1.2.2 (by decide))]
    have k_118 : TokOK I_112 x1 := k_109.fr (by rw [← e_113]; exact q_u_ne (by omega)) (by rw [← e_113]; exact q_u_ne (by omega))
    exact (hp _ _ _ hR_114 hf_115 (Or.inr rfl) hg.symm hl)
  · have d_119 := iEq c_76
    replace hg := gt_pos (by first | exact d_119 | omega) hg
    exact (hp _ _ _ hR_68 hf_70 (Or.inl rfl) hg.symm hl)
noncomputable def gLand_readFort_0 (o x1 : Nat) (J : gJ) (L : gL) : Int × gJ × gL := gB3 (gTape_step_0 x1 J L) (fun r_1 J_2 L_3 => gB3 (gLand_readName_0 o x1 J_2 L_3) (fun r_4 J_5 L_6 => gLet (J_5 o 1) (fun (v_7 : Int) => gB3 (gLand_readSite_0 o x1 J_5 L_6) (fun r_8 J_9 L_10 => gLet (q_u J_9 (o + 3) (Int.toNat v_7) r_8) (fun (J_11 : gJ) => gLet (J_11 o 1) (fun (v_12 : Int) => gB3 (gTape_takeNumberBehind_0 x1 J_11 L_10 3 0 999) (fun r_13 J_14 L_15 => gLet (q_u J_14 (o + 4) (Int.toNat v_12) r_13) (fun (J_16 : gJ) => gLet (J_16 o 1) (fun (v_17 : Int) => gB3 (gTape_takeNumberBehind_0 x1 J_16 L_15 4 0 9999) (fun r_18 J_19 L_20 => gLet (q_u J_19 (o + 5) (Int.toNat v_17) r_18) (fun (J_21 : gJ) => gB3 (gTape_closeLine_0 x1 J_21 L_20) (fun r_22 J_23 L_24 => (if r_22 = 0 then (0, J_23, L_24) else gLet (J_23 o 1) (fun (v_25 : Int) => gLet (v_25 + 1) (fun (v_26 : Int) => gLet (q_u J_23 o 1 v_26) (fun (J_27 : gJ) => (1, J_27, L_24)))))))))))))))))
theorem eLand_readFort_0 {o x1 : Nat} {J : gJ} {L : gL} : gLand_readFort_0 o x1 J L  = gB3 (gTape_step_0 x1 J L) (fun r_1 J_2 L_3 => gB3 (gLand_readName_0 o x1 J_2 L_3) (fun r_4 J_5 L_6 => gLet (J_5 o 1) (fun (v_7 : Int) => gB3 (gLand_readSite_0 o x1 J_5 L_6) (fun r_8 J_9 L_10 => gLet (q_u J_9 (o + 3) (Int.toNat v_7) r_8) (fun (J_11 : gJ) => gLet (J_11 o 1) (fun (v_12 : Int) => gB3 (gTape_takeNumberBehind_0 x1 J_11 L_10 3 0 999) (fun r_13 J_14 L_15 => gLet (q_u J_14 (o + 4) (Int.toNat v_12) r_13) (fun (J_16 : gJ) => gLet (J_16 o 1) (fun (v_17 : Int) => gB3 (gTape_takeNumberBehind_0 x1 J_16 L_15 4 0 9999) (fun r_18 J_19 L_20 => gLet (q_u J_19 (o + 5) (Int.toNat v_17) r_18) (fun (J_21 : gJ) => gB3 (gTape_closeLine_0 x1 J_21 L_20) (fun r_22 J_23 L_24 => (if r_22 = 0 then (0, J_23, L_24) else gLet (J_23 o 1) (fun (v_25 : Int) => gLet (v_25 + 1) (fun (v_26 : Int) => gLet (q_u J_23 o 1 v_26) (fun (J_27 : gJ) => (1, J_27, L_24))))))))))))))))) := rfl
set_option maxHeartbeats 4000000 in
set_option maxRecDepth 20000 in
theorem y_Land_readFortg {D : va_G} {cA : FieldType → ClassId} {b : Nat} {E : State → Prop} {R : qRg} {o n : Nat} {sh : Nat → qC} {Rf : Nat → Nat → Option Nat} {I0 : Nat → Nat → Int32} {L0 : Nat → Nat → Int64} {post : Option Value → qS → Prop} {x1 : Nat} (hok : q_ok (qGG D cA b E)) (hw : WfLand (qGG D cA b E) n sh Rf o) (ra : RALand R o) (hw1 : WfTape (qGG D cA b E) n sh Rf x1) (ra1 : RATape R x1) (hs0 : o + 16 ≤ x1 ∨ x1 + 7 ≤ o) (hq0 : (I0 o 1).toInt ≤ 2) (hq1 : TokOK I0 x1) (hR : RI R I0) (hp : ∀ (r : Int32) (I' : Nat → Nat → Int32) (L' : Nat → Nat → Int64), RI R I' → Fm (fun c => (o ≤ c ∧ c < o + 16) ∨ c = x1) I0 I' → (Bz r) → (gLand_readFort_0 o x1 (tI I0) L0 = (r.toInt, tI I', L')) → (FmL (fun c => c = (o + 1)) L0 L') → post (some (.int r)) (n, sh, Rf, I', L')) : Ev (qGG D cA b E) mLand_readFort 3 (0, 0) 0 (lv_args 0 [.ref o, .ref x1]) [] (n, sh, Rf, I0, L0) post := by
  have hf : Fm (fun c => (o ≤ c ∧ c < o + 16) ∨ c = x1) I0 I0 := Fm.rf
  have g_1 : (0 : Int) ≤ (I0 o 1).toInt ∧ (I0 o 1).toInt ≤ 3 := hR.at0 ra 1 (by decide)
  have g_2 : (0 : Int) ≤ (I0 x1 7).toInt ∧ (I0 x1 7).toInt ≤ 5 := hR.at0 ra1 7 (by decide)
  refine sLand_readFort_0 o n sh Rf I0 L0 post x1 hok hw hw1 ?_
  unfold fLand_readFort_0
  have hl : FmL (fun c => c = (o + 1)) L0 L0 := FmL.rf
  have hg : gLand_readFort_0 o x1 (tI I0) L0 = gLand_readFort_0 o x1 (tI I0) L0 := rfl
  replace hg := (eLand_readFort_0).symm.trans hg
  refine y_Tape_stepg hok hw1 ra1 hR (fun I_7 L_8 hR_9 fr_10 u_4 gn_5 ln_6 => ⟨I_7, L_8, rfl, rfl, ?_⟩)
  replace hl := hl.call ln_6 (fun c hc => by first | exact hc | exact False.elim hc | (dsimp only at hc ⊢; omega) | omega)
  replace hg := gt_b3 gn_5 hg
  clear gn_5
  have hf_11 : Fm (fun c => (o ≤ c ∧ c < o + 16) ∨ c = x1) I0 I_7 := hf.call fr_10 (fun c hc => by first | exact hc | (dsimp only at hc ⊢; omega) | omega)
  have t_12 : (I_7 o 1).toInt = (I0 o 1).toInt := by rw [fr_10 o (by first | omega | (dsimp only; omega))]
  have g_13 : (0 : Int) ≤ (I_7 x1 7).toInt ∧ (I_7 x1 7).toInt ≤ 5 := hR_9.at0 ra1 7 (by decide)
  have k_14 : TokOK I_7 x1 := hq1.fr (fr_10 _ (by first | omega | (dsimp only; omega))) (fr_10 _ (by first | omega | (dsimp only; omega)))
  refine y_Land_readNameg hok hw ra hw1 ra1 (by first | omega | (intro h; omega) | exact Or.inl rfl | exact Or.inr rfl) hR_9 (fun I_23 L_24 hR_25 fr_26 u_16 u_17 u_18 u_19 u_20 gn_21 ln_22 => ⟨I_23, L_24, rfl, rfl, ?_⟩)
  replace hl := hl.call ln_22 (fun c hc => by first | exact hc | exact False.elim hc | (dsimp only at hc ⊢; omega) | omega)
  replace hg := gt_b3 gn_21 hg
  clear gn_21
  have hf_27 : Fm (fun c => (o ≤ c ∧ c < o + 16) ∨ c = x1) I0 I_23 := hf_11.call fr_26 (fun c hc => by first | exact hc | (dsimp only at hc ⊢; omega) | omega)
  have g_28 : (0 : Int) ≤ (I_23 o 1).toInt ∧ (I_23 o 1).toInt ≤ 3 := hR_25.at0 ra 1 (by decide)
  have g_29 : (0 : Int) ≤ (I_23 x1 7).toInt ∧ (I_23 x1 7).toInt ≤ 5 := hR_25.at0 ra1 7 (by decide)
  have k_30 : TokOK I_23 x1 := k_14.fr (fr_26 _ (by first | omega | (dsimp only; omega))) (fr_26 _ (by first | omega | (dsimp only; omega)))
  have g_31 : (0 : Int) ≤ (I_23 o 1).toInt ∧ (I_23 o 1).toInt ≤ 3 := hR_25.at0 ra 1 (by decide)
  replace hg := gt_let (y := (I_23 o 1).toInt) rfl hg
  refine y_Land_readSiteg hok hw ra hw1 ra1 k_30 hR_25 (fun r_32 I_38 L_39 hR_40 fr_41 u_33 u_34 u_35 gn_36 ln_37 => ⟨r_32, I_38, L_39, rfl, rfl, ?_⟩)
  replace hl := hl.call ln_37 (fun c hc => by first | exact hc | exact False.elim hc | (dsimp only at hc ⊢; omega) | omega)
  replace hg := gt_b3 gn_36 hg
  clear gn_36
  have hf_42 : Fm (fun c => (o ≤ c ∧ c < o + 16) ∨ c = x1) I0 I_38 := hf_27.call fr_41 (fun c hc => by first | exact hc | (dsimp only at hc ⊢; omega) | omega)
  have t_43 : (I_38 o 1).toInt = (I_23 o 1).toInt := by rw [fr_41 o (by first | omega | (dsimp only; omega))]
  have g_44 : (0 : Int) ≤ (I_38 x1 7).toInt ∧ (I_38 x1 7).toInt ≤ 5 := hR_40.at0 ra1 7 (by decide)
  have k_45 : TokOK I_38 x1 := k_30.fr (fr_41 _ (by first | omega | (dsimp only; omega))) (fr_41 _ (by first | omega | (dsimp only; omega)))
  refine ⟨tIn (by omega) (by omega), fun I_46 e_47 => ?_⟩
  replace hg := gt_let (y := tI I_46) (tI_q e_47) hg
  have hR_48 : RI R I_46 := hR_40.up ra 3 (by decide) (Or.inl rfl) e_47 (i_lo _) (i_hi _)
  have hf_49 : Fm (fun c => (o ≤ c ∧ c < o + 16) ∨ c = x1) I0 I_46 := hf_42.set (by first | rfl | omega | (dsimp only; omega)) e_47
  have t_50 : (I_46 o 1).toInt = (I_38 o 1).toInt := by rw [← e_47, q_u_ne (by omega)]
  have t_51 : (I_46 x1 7).toInt = (I_38 x1 7).toInt := by rw [← e_47, q_u_ne (sh_ne_a (hw1).1.2.2 (waLand_7 (I := I0) (L := L0) hw).2.2)]
  have k_52 : TokOK I_46 x1 := k_45.fr (by rw [← e_47]; exact q_u_ne (by omega)) (by rw [← e_47]; exact q_u_ne (by omega))
  have g_53 : (0 : Int) ≤ (I_46 o 1).toInt ∧ (I_46 o 1).toInt ≤ 3 := hR_48.at0 ra 1 (by decide)
  replace hg := gt_let (y := (I_46 o 1).toInt) rfl hg
  have l_54 : (3 : Int32).toInt = 3 := rfl
  have l_55 : (0 : Int32).toInt = 0 := rfl
  have l_56 : (999 : Int32).toInt = 999 := rfl
  refine y_Tape_takeNumberBehindg hok hw1 ra1 (by first | omega | (intro h; omega) | exact Or.inl rfl | exact Or.inr rfl) (by first | omega | (intro h; omega) | exact Or.inl rfl | exact Or.inr rfl) hR_48 (fun r_57 I_63 L_64 hR_65 fr_66 u_58 u_59 u_60 gn_61 ln_62 => ⟨r_57, I_63, L_64, rfl, rfl, ?_⟩)
  replace hl := hl.call ln_62 (fun c hc => by first | exact hc | exact False.elim hc | (dsimp only at hc ⊢; omega) | omega)
  replace hg := gt_b3 gn_61 hg
  clear gn_61
  have hf_67 : Fm (fun c => (o ≤ c ∧ c < o + 16) ∨ c = x1) I0 I_63 := hf_49.call fr_66 (fun c hc => by first | exact hc | (dsimp only at hc ⊢; omega) | omega)
  have t_68 : (I_63 o 1).toInt = (I_46 o 1).toInt := by rw [fr_66 o (by first | omega | (dsimp only; omega))]
  have g_69 : (0 : Int) ≤ (I_63 x1 7).toInt ∧ (I_63 x1 7).toInt ≤ 5 := hR_65.at0 ra1 7 (by decide)
  have k_70 : TokOK I_63 x1 := k_52.fr (fr_66 _ (by first | omega | (dsimp only; omega))) (fr_66 _ (by first | omega | (dsimp only; omega)))
  refine ⟨tIn (by omega) (by omega), fun I_71 e_72 => ?_⟩
  replace hg := gt_let (y := tI I_71) (tI_q e_72) hg
  have hR_73 : RI R I_71 := hR_65.up ra 4 (by decide) (Or.inl rfl) e_72 (i_lo _) (i_hi _)
  have hf_74 : Fm (fun c => (o ≤ c ∧ c < o + 16) ∨ c = x1) I0 I_71 := hf_67.set (by first | rfl | omega | (dsimp only; omega)) e_72
  have t_75 : (I_71 o 1).toInt = (I_63 o 1).toInt := by rw [← e_72, q_u_ne (by omega)]
  have t_76 : (I_71 x1 7).toInt = (I_63 x1 7).toInt := by rw [← e_72, q_u_ne (sh_ne_a (hw1).1.2.2 (waLand_8 (I := I0) (L := L0) hw).2.2)]
  have k_77 : TokOK I_71 x1 := k_70.fr (by rw [← e_72]; exact q_u_ne (by omega)) (by rw [← e_72]; exact q_u_ne (by omega))
  have g_78 : (0 : Int) ≤ (I_71 o 1).toInt ∧ (I_71 o 1).toInt ≤ 3 := hR_73.at0 ra 1 (by decide)
  replace hg := gt_let (y := (I_71 o 1).toInt) rfl hg
  have l_79 : (4 : Int32).toInt = 4 := rfl
  have l_80 : (9999 : Int32).toInt = 9999 := rfl
  refine y_Tape_takeNumberBehindg hok hw1 ra1 (by first | omega | (intro h; omega) | exact Or.inl rfl | exact Or.inr rfl) (by first | omega | (intro h; omega) | exact Or.inl rfl | exact Or.inr rfl) hR_73 (fun r_81 I_87 L_88 hR_89 fr_90 u_82 u_83 u_84 gn_85 ln_86 => ⟨r_81, I_87, L_88, rfl, rfl, ?_⟩)
  replace hl := hl.call ln_86 (fun c hc => by first | exact hc | exact False.elim hc | (dsimp only at hc ⊢; omega) | omega)
  replace hg := gt_b3 gn_85 hg
  clear gn_85
  have hf_91 : Fm (fun c => (o ≤ c ∧ c < o + 16) ∨ c = x1) I0 I_87 := hf_74.call fr_90 (fun c hc => by first | exact hc | (dsimp only at hc ⊢; omega) | omega)
  have t_92 : (I_87 o 1).toInt = (I_71 o 1).toInt := by rw [fr_90 o (by first | omega | (dsimp only; omega))]
  have g_93 : (0 : Int) ≤ (I_87 x1 7).toInt ∧ (I_87 x1 7).toInt ≤ 5 := hR_89.at0 ra1 7 (by decide)
  have k_94 : TokOK I_87 x1 := k_77.fr (fr_90 _ (by first | omega | (dsimp only; omega))) (fr_90 _ (by first | omega | (dsimp only; omega)))
  refine ⟨tIn (by omega) (by omega), fun I_95 e_96 => ?_⟩
  replace hg := gt_let (y := tI I_95) (tI_q e_96) hg
  have hR_97 : RI R I_95 := hR_89.up ra 5 (by decide) (Or.inl rfl) e_96 (i_lo _) (i_hi _)
  have hf_98 : Fm (fun c => (o ≤ c ∧ c < o + 16) ∨ c = x1) I0 I_95 := hf_91.set (by first | rfl | omega | (dsimp only; omega)) e_96
  have t_99 : (I_95 o 1).toInt = (I_87 o 1).toInt := by rw [← e_96, q_u_ne (by omega)]
  have t_100 : (I_95 x1 7).toInt = (I_87 x1 7).toInt := by rw [← e_96, q_u_ne (sh_ne_a (hw1).1.2.2 (waLand_9 (I := I0) (L := L0) hw).2.2)]
  have k_101 : TokOK I_95 x1 := k_94.fr (by rw [← e_96]; exact q_u_ne (by omega)) (by rw [← e_96]; exact q_u_ne (by omega))
  refine y_Tape_closeLineg hok hw1 ra1 hR_97 (fun r_102 I_108 L_109 hR_110 fr_111 u_103 u_104 u_105 gn_106 ln_107 => ⟨r_102, I_108, L_109, rfl, rfl, ?_⟩)
  replace hl := hl.call ln_107 (fun c hc => by first | exact hc | exact False.elim hc | (dsimp only at hc ⊢; omega) | omega)
  replace hg := gt_b3 gn_106 hg
  clear gn_106
  have hf_112 : Fm (fun c => (o ≤ c ∧ c < o + 16) ∨ c = x1) I0 I_108 := hf_98.call fr_111 (fun c hc => by first | exact hc | (dsimp only at hc ⊢; omega) | omega)
  have t_113 : (I_108 o 1).toInt = (I_95 o 1).toInt := by rw [fr_111 o (by first | omega | (dsimp only; omega))]
  have g_114 : (0 : Int) ≤ (I_108 x1 7).toInt ∧ (I_108 x1 7).toInt ≤ 5 := hR_110.at0 ra1 7 (by decide)
  have k_115 : TokOK I_108 x1 := k_101.fr (fr_111 _ (by first | omega | (dsimp only; omega))) (fr_111 _ (by first | omega | (dsimp only; omega)))
  have b_116 : 0 ≤ r_102.toInt ∧ r_102.toInt ≤ 1 := u_103.rg
  refine ⟨fun c_117 => ?_, fun c_117 => ?_⟩
  · have d_118 := iNe c_117
    replace hg := gt_neg (by first | exact d_118 | omega) hg
    have g_119 : (0 : Int) ≤ (I_108 o 1).toInt ∧ (I_108 o 1).toInt ≤ 3 := hR_110.at0 ra 1 (by decide)
    replace hg := gt_let (y := (I_108 o 1).toInt) rfl hg
    have l_120 : (1 : Int32).toInt = 1 := rfl
    have a_121 : ((I_108 o 1) + 1).toInt = (I_108 o 1).toInt + (1 : Int32).toInt := tAdd (by omega) (by omega)
    replace hg := gt_let (y := (((I_108 o 1) + 1) : Int32).toInt) (by omega) hg
    refine fun I_122 e_123 => ?_
    replace hg := gt_let (y := tI I_122) (tI_q e_123) hg
    have hR_124 : RI R I_122 := hR_110.up0 (k := 1) ra (by decide) (Or.inl rfl) e_123 (show (0 : Int) ≤ ((I_108 o 1) + 1).toInt by omega) (show ((I_108 o 1) + 1).toInt ≤ (3 : Int) by omega)
    have hf_125 : Fm (fun c => (o ≤ c ∧ c < o + 16) ∨ c = x1) I0 I_122 := hf_112.set (by first | rfl | omega | (dsimp only; omega)) e_123
    have t_126 : (I_122 o 1).toInt = ((I_108 o 1) + 1).toInt := by rw [← e_123, q_u_at]
    have t_127 : (I_122 x1 7).toInt = (I_108 x1 7).toInt := by rw [← e_123, q_u_ne (sh_ne_o (hw1).1.2.2 (hw).1.2.2 (by decide))]
    have k_128 : TokOK I_122 x1 := k_115.fr (by rw [← e_123]; exact q_u_ne (by omega)) (by rw [← e_123]; exact q_u_ne (by omega))
    exact (hp _ _ _ hR_124 hf_125 (Or.inr rfl) hg.symm hl)
  · have d_129 := iEq c_117
    replace hg := gt_pos (by first | exact d_129 | omega) hg
    exact (hp _ _ _ hR_110 hf_112 (Or.inl rfl) hg.symm hl)
noncomputable def gLand_readDistrict_27 (o x1 : Nat) (J : gJ) (L : gL) : Int × gJ × gL := gB3 (gTape_takeNumber_0 x1 J L 0 4) (fun r_1 J_2 L_3 => (if r_1 = (-1) then (0, J_2, L_3) else gLet (J_2 o 2) (fun (v_4 : Int) => gLet (v_4 * 5) (fun (v_5 : Int) => gLet (v_5 + r_1) (fun (v_6 : Int) => gLet (q_u J_2 (o + 8) (Int.toNat v_6) 1) (fun (J_7 : gJ) => (0, J_7, L_3)))))))
theorem eLand_readDistrict_27 {o x1 : Nat} {J : gJ} {L : gL} : gLand_readDistrict_27 o x1 J L  = gB3 (gTape_takeNumber_0 x1 J L 0 4) (fun r_1 J_2 L_3 => (if r_1 = (-1) then (0, J_2, L_3) else gLet (J_2 o 2) (fun (v_4 : Int) => gLet (v_4 * 5) (fun (v_5 : Int) => gLet (v_5 + r_1) (fun (v_6 : Int) => gLet (q_u J_2 (o + 8) (Int.toNat v_6) 1) (fun (J_7 : gJ) => (0, J_7, L_3))))))) := rfl
noncomputable def gLand_readDistrict_0 (o x1 : Nat) (J : gJ) (L : gL) : Int × gJ × gL := gLet (gTape_isNumber_0 x1 J L) (fun (r_1 : Int) => (if r_1 = 0 then (gLand_readDistrict_27 o x1 J L ) else gLet (J o 2) (fun (v_2 : Int) => gLet (gTape_value_0 x1 J L) (fun (r_3 : Int) => gLet (gLand_serves_0 o J L v_2 r_3) (fun (r_4 : Int) => (if r_4 = 0 then (gLand_readDistrict_27 o x1 J L ) else gB3 (gTape_refuse_0 x1 J L 4) (fun r_5 J_6 L_7 => (gLand_readDistrict_27 o x1 J_6 L_7 ))))))))
theorem eLand_readDistrict_0 {o x1 : Nat} {J : gJ} {L : gL} : gLand_readDistrict_0 o x1 J L  = gLet (gTape_isNumber_0 x1 J L) (fun (r_1 : Int) => (if r_1 = 0 then (gLand_readDistrict_27 o x1 J L ) else gLet (J o 2) (fun (v_2 : Int) => gLet (gTape_value_0 x1 J L) (fun (r_3 : Int) => gLet (gLand_serves_0 o J L v_2 r_3) (fun (r_4 : Int) => (if r_4 = 0 then (gLand_readDistrict_27 o x1 J L ) else gB3 (gTape_refuse_0 x1 J L 4) (fun r_5 J_6 L_7 => (gLand_readDistrict_27 o x1 J_6 L_7 )))))))) := rfl
set_option maxHeartbeats 4000000 in
set_option maxRecDepth 20000 in
theorem y_Land_readDistrictg {D : va_G} {cA : FieldType → ClassId} {b : Nat} {E : State → Prop} {R : qRg} {o n : Nat} {sh : Nat → qC} {Rf : Nat → Nat → Option Nat} {I0 : Nat → Nat → Int32} {L0 : Nat → Nat → Int64} {post : Option Value → qS → Prop} {x1 : Nat} (hok : q_ok (qGG D cA b E)) (hw : WfLand (qGG D cA b E) n sh Rf o) (ra : RALand R o) (hw1 : WfTape (qGG D cA b E) n sh Rf x1) (ra1 : RATape R x1) (hs0 : o + 16 ≤ x1 ∨ x1 + 7 ≤ o) (hq0 : (I0 o 2).toInt ≤ 2) (hR : RI R I0) (hp : ∀ (I' : Nat → Nat → Int32) (L' : Nat → Nat → Int64), RI R I' → Fm (fun c => (o ≤ c ∧ c < o + 16) ∨ c = x1) I0 I' → ((I' o 2).toInt = (I0 o 2).toInt) → (gLand_readDistrict_0 o x1 (tI I0) L0 = (0, tI I', L')) → (FmL (fun c => False) L0 L') → post none (n, sh, Rf, I', L')) : Ev (qGG D cA b E) mLand_readDistrict 2 (0, 0) 0 (lv_args 0 [.ref o, .ref x1]) [] (n, sh, Rf, I0, L0) post := by
  have hf : Fm (fun c => (o ≤ c ∧ c < o + 16) ∨ c = x1) I0 I0 := Fm.rf
  have g_1 : (0 : Int) ≤ (I0 o 2).toInt ∧ (I0 o 2).toInt ≤ 3 := hR.at0 ra 2 (by decide)
  refine sLand_readDistrict_0 o n sh Rf I0 L0 post x1 hok hw hw1 ?_
  unfold fLand_readDistrict_0
  have hl : FmL (fun c => False) L0 L0 := FmL.rf
  have hg : gLand_readDistrict_0 o x1 (tI I0) L0 = gLand_readDistrict_0 o x1 (tI I0) L0 := rfl
  replace hg := (eLand_readDistrict_0).symm.trans hg
  refine y_Tape_isNumberg hok hw1 ra1 hR (fun r_2 u_3 u_4 gn_5 => ⟨r_2, I0, L0, rfl, rfl, ?_⟩)
  replace hg := gt_let gn_5 hg
  clear gn_5
  have b_6 : 0 ≤ r_2.toInt ∧ r_2.toInt ≤ 1 := u_3.rg
  have l_7 : (0 : Int32).toInt = 0 := rfl
  refine ⟨fun c_8 => ?_, fun c_8 => ?_⟩
  · have d_9 := iEq c_8
    replace hg := gt_pos (by first | exact d_9 | omega) hg
    unfold fLand_readDistrict_27
    replace hg := (eLand_readDistrict_27).symm.trans hg
    have l_10 : (4 : Int32).toInt = 4 := rfl
    refine y_Tape_takeNumberg hok hw1 ra1 (by first | omega | (intro h; omega) | exact Or.inl rfl | exact Or.inr rfl) (by first | omega | (intro h; omega) | exact Or.inl rfl | exact Or.inr rfl) hR (fun r_11 I_17 L_18 hR_19 fr_20 u_12 u_13 u_14 gn_15 ln_16 => ⟨r_11, I_17, L_18, rfl, rfl, ?_⟩)
    replace hl := hl.call ln_16 (fun c hc => by first | exact hc | exact False.elim hc | (dsimp only at hc ⊢; omega) | omega)
    replace hg := gt_b3 gn_15 hg
    clear gn_15
    have hf_21 : Fm (fun c => (o ≤ c ∧ c < o + 16) ∨ c = x1) I0 I_17 := hf.call fr_20 (fun c hc => by first | exact hc | (dsimp only at hc ⊢; omega) | omega)
    have t_22 : (I_17 o 2).toInt = (I0 o 2).toInt := by rw [fr_20 o (by first | omega | (dsimp only; omega))]
    have v_23 : (-1 : Int) ≤ r_11.toInt ∧ r_11.toInt ≤ 4 := by omega
    have l_24 : (-1 : Int32).toInt = -1 := rfl
    refine ⟨fun c_25 => ?_, fun c_25 => ?_⟩
    · have d_26 := iEq c_25
      replace hg := gt_pos (by first | exact d_26 | omega) hg
      exact (hp _ _ hR_19 hf_21 (by first | omega | (intro h; omega) | exact Or.inl rfl | exact Or.inr rfl) hg.symm hl)
    · have d_27 := iNe c_25
      replace hg := gt_neg (by first | exact d_27 | omega) hg
      have g_28 : (0 : Int) ≤ (I_17 o 2).toInt ∧ (I_17 o 2).toInt ≤ 3 := hR_19.at0 ra 2 (by decide)
      replace hg := gt_let (y := (I_17 o 2).toInt) rfl hg
      have l_29 : (5 : Int32).toInt = 5 := rfl
      have a_30 : ((I_17 o 2) * 5).toInt = (I_17 o 2).toInt * 5 := tMul rfl (by omega) (by omega)
      replace hg := gt_let (y := (((I_17 o 2) * 5) : Int32).toInt) (by omega) hg
      have a_31 : (((I_17 o 2) * 5) + r_11).toInt = ((I_17 o 2) * 5).toInt + r_11.toInt := tAdd (by omega) (by omega)
      replace hg := gt_let (y := ((((I_17 o 2) * 5) + r_11) : Int32).toInt) (by omega) hg
      have l_32 : (1 : Int32).toInt = 1 := rfl
      refine ⟨tIn (by omega) (by omega), fun I_33 e_34 => ?_⟩
      replace hg := gt_let (y := tI I_33) (tI_q e_34) hg
      have hR_35 : RI R I_33 := hR_19.up ra 8 (by decide) (Or.inl rfl) e_34 (i_lo _) (i_hi _)
      have hf_36 : Fm (fun c => (o ≤ c ∧ c < o + 16) ∨ c = x1) I0 I_33 := hf_21.set (by first | rfl | omega | (dsimp only; omega)) e_34
      have t_37 : (I_33 o 2).toInt = (I_17 o 2).toInt := by rw [← e_34, q_u_ne (by omega)]
      exact (hp _ _ hR_35 hf_36 (by first | omega | (intro h; omega) | exact Or.inl rfl | exact Or.inr rfl) hg.symm hl)
  · have d_38 := iNe c_8
    replace hg := gt_neg (by first | exact d_38 | omega) hg
    have g_39 : (0 : Int) ≤ (I0 o 2).toInt ∧ (I0 o 2).toInt ≤ 3 := hR.at0 ra 2 (by decide)
    replace hg := gt_let (y := (I0 o 2).toInt) rfl hg
    refine y_Tape_valueg hok hw1 ra1 hR (fun r_40 u_41 gn_42 => ⟨r_40, I0, L0, rfl, rfl, ?_⟩)
    replace hg := gt_let gn_42 hg
    clear gn_42
    refine y_Land_servesg hok hw ra (by first | omega | (intro h; omega) | exact Or.inl rfl | exact Or.inr rfl) hR (fun r_43 u_44 gn_45 => ⟨r_43, I0, L0, rfl, rfl, ?_⟩)
    replace hg := gt_let gn_45 hg
    clear gn_45
    have b_46 : 0 ≤ r_43.toInt ∧ r_43.toInt ≤ 1 := u_44.rg
    refine ⟨fun c_47 => ?_, fun c_47 => ?_⟩
    · have d_48 := iEq c_47
      replace hg := gt_pos (by first | exact d_48 | omega) hg
      unfold fLand_readDistrict_27
      replace hg := (eLand_readDistrict_27).symm.trans hg
      have l_49 : (4 : Int32).toInt = 4 := rfl
      refine y_Tape_takeNumberg hok hw1 ra1 (by first | omega | (intro h; omega) | exact Or.inl rfl | exact Or.inr rfl) (by first | omega | (intro h; omega) | exact Or.inl rfl | exact Or.inr rfl) hR (fun r_50 I_56 L_57 hR_58 fr_59 u_51 u_52 u_53 gn_54 ln_55 => ⟨r_50, I_56, L_57, rfl, rfl, ?_⟩)
      replace hl := hl.call ln_55 (fun c hc => by first | exact hc | exact False.elim hc | (dsimp only at hc ⊢; omega) | omega)
      replace hg := gt_b3 gn_54 hg
      clear gn_54
      have hf_60 : Fm (fun c => (o ≤ c ∧ c < o + 16) ∨ c = x1) I0 I_56 := hf.call fr_59 (fun c hc => by first | exact hc | (dsimp only at hc ⊢; omega) | omega)
      have t_61 : (I_56 o 2).toInt = (I0 o 2).toInt := by rw [fr_59 o (by first | omega | (dsimp only; omega))]
      have v_62 : (-1 : Int) ≤ r_50.toInt ∧ r_50.toInt ≤ 4 := by omega
      have l_63 : (-1 : Int32).toInt = -1 := rfl
      refine ⟨fun c_64 => ?_, fun c_64 => ?_⟩
      · have d_65 := iEq c_64
        replace hg := gt_pos (by first | exact d_65 | omega) hg
        exact (hp _ _ hR_58 hf_60 (by first | omega | (intro h; omega) | exact Or.inl rfl | exact Or.inr rfl) hg.symm hl)
      · have d_66 := iNe c_64
        replace hg := gt_neg (by first | exact d_66 | omega) hg
        have g_67 : (0 : Int) ≤ (I_56 o 2).toInt ∧ (I_56 o 2).toInt ≤ 3 := hR_58.at0 ra 2 (by decide)
        replace hg := gt_let (y := (I_56 o 2).toInt) rfl hg
        have l_68 : (5 : Int32).toInt = 5 := rfl
        have a_69 : ((I_56 o 2) * 5).toInt = (I_56 o 2).toInt * 5 := tMul rfl (by omega) (by omega)
        replace hg := gt_let (y := (((I_56 o 2) * 5) : Int32).toInt) (by omega) hg
        have a_70 : (((I_56 o 2) * 5) + r_50).toInt = ((I_56 o 2) * 5).toInt + r_50.toInt := tAdd (by omega) (by omega)
        replace hg := gt_let (y := ((((I_56 o 2) * 5) + r_50) : Int32).toInt) (by omega) hg
        have l_71 : (1 : Int32).toInt = 1 := rfl
        refine ⟨tIn (by omega) (by omega), fun I_72 e_73 => ?_⟩
        replace hg := gt_let (y := tI I_72) (tI_q e_73) hg
        have hR_74 : RI R I_72 := hR_58.up ra 8 (by decide) (Or.inl rfl) e_73 (i_lo _) (i_hi _)
        have hf_75 : Fm (fun c => (o ≤ c ∧ c < o + 16) ∨ c = x1) I0 I_72 := hf_60.set (by first | rfl | omega | (dsimp only; omega)) e_73
        have t_76 : (I_72 o 2).toInt = (I_56 o 2).toInt := by rw [← e_73, q_u_ne (by omega)]
        exact (hp _ _ hR_74 hf_75 (by first | omega | (intro h; omega) | exact Or.inl rfl | exact Or.inr rfl) hg.symm hl)
    · have d_77 := iNe c_47
      replace hg := gt_neg (by first | exact d_77 | omega) hg
      have l_78 : (4 : Int32).toInt = 4 := rfl
      refine y_Tape_refuseg hok hw1 ra1 (by first | omega | (intro h; omega) | exact Or.inl rfl | exact Or.inr rfl) hR (fun I_84 L_85 hR_86 fr_87 u_80 u_81 gn_82 ln_83 => ⟨I_84, L_85, rfl, rfl, ?_⟩)
      replace hl := hl.call ln_83 (fun c hc => by first | exact hc | exact False.elim hc | (dsimp only at hc ⊢; omega) | omega)
      replace hg := gt_b3 gn_82 hg
      clear gn_82
      have hf_88 : Fm (fun c => (o ≤ c ∧ c < o + 16) ∨ c = x1) I0 I_84 := hf.call fr_87 (fun c hc => by first | exact hc | (dsimp only at hc ⊢; omega) | omega)
      have t_89 : (I_84 o 2).toInt = (I0 o 2).toInt := by rw [fr_87 o (by first | omega | (dsimp only; omega))]
      unfold fLand_readDistrict_27
      replace hg := (eLand_readDistrict_27).symm.trans hg
      refine y_Tape_takeNumberg hok hw1 ra1 (by first | omega | (intro h; omega) | exact Or.inl rfl | exact Or.inr rfl) (by first | omega | (intro h; omega) | exact Or.inl rfl | exact Or.inr rfl) hR_86 (fun r_90 I_96 L_97 hR_98 fr_99 u_91 u_92 u_93 gn_94 ln_95 => ⟨r_90, I_96, L_97, rfl, rfl, ?_⟩)
      replace hl := hl.call ln_95 (fun c hc => by first | exact hc | exact False.elim hc | (dsimp only at hc ⊢; omega) | omega)
      replace hg := gt_b3 gn_94 hg
      clear gn_94
      have hf_100 : Fm (fun c => (o ≤ c ∧ c < o + 16) ∨ c = x1) I0 I_96 := hf_88.call fr_99 (fun c hc => by first | exact hc | (dsimp only at hc ⊢; omega) | omega)
      have t_101 : (I_96 o 2).toInt = (I_84 o 2).toInt := by rw [fr_99 o (by first | omega | (dsimp only; omega))]
      have v_102 : (-1 : Int) ≤ r_90.toInt ∧ r_90.toInt ≤ 4 := by omega
      have l_103 : (-1 : Int32).toInt = -1 := rfl
      refine ⟨fun c_104 => ?_, fun c_104 => ?_⟩
      · have d_105 := iEq c_104
        replace hg := gt_pos (by first | exact d_105 | omega) hg
        exact (hp _ _ hR_98 hf_100 (by first | omega | (intro h; omega) | exact Or.inl rfl | exact Or.inr rfl) hg.symm hl)
      · have d_106 := iNe c_104
        replace hg := gt_neg (by first | exact d_106 | omega) hg
        have g_107 : (0 : Int) ≤ (I_96 o 2).toInt ∧ (I_96 o 2).toInt ≤ 3 := hR_98.at0 ra 2 (by decide)
        replace hg := gt_let (y := (I_96 o 2).toInt) rfl hg
        have l_108 : (5 : Int32).toInt = 5 := rfl
        have a_109 : ((I_96 o 2) * 5).toInt = (I_96 o 2).toInt * 5 := tMul rfl (by omega) (by omega)
        replace hg := gt_let (y := (((I_96 o 2) * 5) : Int32).toInt) (by omega) hg
        have a_110 : (((I_96 o 2) * 5) + r_90).toInt = ((I_96 o 2) * 5).toInt + r_90.toInt := tAdd (by omega) (by omega)
        replace hg := gt_let (y := ((((I_96 o 2) * 5) + r_90) : Int32).toInt) (by omega) hg
        have l_111 : (1 : Int32).toInt = 1 := rfl
        refine ⟨tIn (by omega) (by omega), fun I_112 e_113 => ?_⟩
        replace hg := gt_let (y := tI I_112) (tI_q e_113) hg
        have hR_114 : RI R I_112 := hR_98.up ra 8 (by decide) (Or.inl rfl) e_113 (i_lo _) (i_hi _)
        have hf_115 : Fm (fun c => (o ≤ c ∧ c < o + 16) ∨ c = x1) I0 I_112 := hf_100.set (by first | rfl | omega | (dsimp only; omega)) e_113
        have t_116 : (I_112 o 2).toInt = (I_96 o 2).toInt := by rw [← e_113, q_u_ne (by omega)]
        exact (hp _ _ hR_114 hf_115 (by first | omega | (intro h; omega) | exact Or.inl rfl | exact Or.inr rfl) hg.symm hl)
noncomputable def gLand_readPan_122 (k : Nat) (o x1 : Nat) (J : gJ) (L : gL) (x2 : Int) (x3 : Int) : Int × gJ × gL := match k with
  | 0 => default
  | k + 1 => (if 5 ≤ x3 then gB3 (gTape_closeLine_0 x1 J L) (fun r_1 J_2 L_3 => (if r_1 = 0 then (0, J_2, L_3) else gLet (J_2 o 2) (fun (v_4 : Int) => gLet (v_4 + 1) (fun (v_5 : Int) => gLet (q_u J_2 o 2 v_5) (fun (J_6 : gJ) => (1, J_6, L_3)))))) else gLet (gTape_isNumber_0 x1 J L) (fun (r_7 : Int) => (if r_7 = 0 then gB3 (gTape_closeLine_0 x1 J L) (fun r_8 J_9 L_10 => (if r_8 = 0 then (0, J_9, L_10) else gLet (J_9 o 2) (fun (v_11 : Int) => gLet (v_11 + 1) (fun (v_12 : Int) => gLet (q_u J_9 o 2 v_12) (fun (J_13 : gJ) => (1, J_13, L_10)))))) else gB3 (gLand_readDistrict_0 o x1 J L) (fun r_14 J_15 L_16 => gLet (x3 + 1) (fun (v_17 : Int) => (gLand_readPan_122 k o x1 J_15 L_16 x2 v_17))))))
theorem eLand_readPan_122 {k : Nat} {o x1 : Nat} {J : gJ} {L : gL} {x2 : Int} {x3 : Int} : gLand_readPan_122 (k + 1) o x1 J L x2 x3 = (if 5 ≤ x3 then gB3 (gTape_closeLine_0 x1 J L) (fun r_1 J_2 L_3 => (if r_1 = 0 then (0, J_2, L_3) else gLet (J_2 o 2) (fun (v_4 : Int) => gLet (v_4 + 1) (fun (v_5 : Int) => gLet (q_u J_2 o 2 v_5) (fun (J_6 : gJ) => (1, J_6, L_3)))))) else gLet (gTape_isNumber_0 x1 J L) (fun (r_7 : Int) => (if r_7 = 0 then gB3 (gTape_closeLine_0 x1 J L) (fun r_8 J_9 L_10 => (if r_8 = 0 then (0, J_9, L_10) else gLet (J_9 o 2) (fun (v_11 : Int) => gLet (v_11 + 1) (fun (v_12 : Int) => gLet (q_u J_9 o 2 v_12) (fun (J_13 : gJ) => (1, J_13, L_10)))))) else gB3 (gLand_readDistrict_0 o x1 J L) (fun r_14 J_15 L_16 => gLet (x3 + 1) (fun (v_17 : Int) => (gLand_readPan_122 k o x1 J_15 L_16 x2 v_17)))))) := rfl
noncomputable def gLand_readPan_37 (k : Nat) (o x1 : Nat) (J : gJ) (L : gL) (x2 : Int) (x3 : Int) : Int × gJ × gL := match k with
  | 0 => default
  | k + 1 => (if 12 ≤ x3 then gLet (J o 2) (fun (v_1 : Int) => gLet (wDiv x2 12) (fun (v_2 : Int) => gLet (wMax 1 v_2) (fun (v_3 : Int) => gLet (q_u J (o + 9) (Int.toNat v_1) v_3) (fun (J_4 : gJ) => gLet (gTape_isWord_0 x1 J_4 L 7) (fun (r_5 : Int) => gB3 (gTape_passIf_0 x1 J_4 L r_5) (fun r_6 J_7 L_8 => gB3 (gLand_readDistrict_0 o x1 J_7 L_8) (fun r_9 J_10 L_11 => (gLand_readPan_122 20000 o x1 J_10 L_11 x2 0)))))))) else gLet (J o 2) (fun (v_12 : Int) => gLet (v_12 * 12) (fun (v_13 : Int) => gLet (v_13 + x3) (fun (v_14 : Int) => gB3 (gTape_takeNumber_0 x1 J L 0 999) (fun r_15 J_16 L_17 => gLet (q_u J_16 (o + 7) (Int.toNat v_14) r_15) (fun (J_18 : gJ) => gLet (J_18 o 2) (fun (v_19 : Int) => gLet (v_19 * 12) (fun (v_20 : Int) => gLet (v_20 + x3) (fun (v_21 : Int) => gLet (J_18 (o + 7) (Int.toNat v_21)) (fun (v_22 : Int) => gLet (wAdd x2 v_22) (fun (v_23 : Int) => gLet (x3 + 1) (fun (v_24 : Int) => (gLand_readPan_37 k o x1 J_18 L_17 v_23 v_24)))))))))))))
theorem eLand_readPan_37 {k : Nat} {o x1 : Nat} {J : gJ} {L : gL} {x2 : Int} {x3 : Int} : gLand_readPan_37 (k + 1) o x1 J L x2 x3 = (if 12 ≤ x3 then gLet (J o 2) (fun (v_1 : Int) => gLet (wDiv x2 12) (fun (v_2 : Int) => gLet (wMax 1 v_2) (fun (v_3 : Int) => gLet (q_u J (o + 9) (Int.toNat v_1) v_3) (fun (J_4 : gJ) => gLet (gTape_isWord_0 x1 J_4 L 7) (fun (r_5 : Int) => gB3 (gTape_passIf_0 x1 J_4 L r_5) (fun r_6 J_7 L_8 => gB3 (gLand_readDistrict_0 o x1 J_7 L_8) (fun r_9 J_10 L_11 => (gLand_readPan_122 20000 o x1 J_10 L_11 x2 0)))))))) else gLet (J o 2) (fun (v_12 : Int) => gLet (v_12 * 12) (fun (v_13 : Int) => gLet (v_13 + x3) (fun (v_14 : Int) => gB3 (gTape_takeNumber_0 x1 J L 0 999) (fun r_15 J_16 L_17 => gLet (q_u J_16 (o + 7) (Int.toNat v_14) r_15) (fun (J_18 : gJ) => gLet (J_18 o 2) (fun (v_19 : Int) => gLet (v_19 * 12) (fun (v_20 : Int) => gLet (v_20 + x3) (fun (v_21 : Int) => gLet (J_18 (o + 7) (Int.toNat v_21)) (fun (v_22 : Int) => gLet (wAdd x2 v_22) (fun (v_23 : Int) => gLet (x3 + 1) (fun (v_24 : Int) => (gLand_readPan_37 k o x1 J_18 L_17 v_23 v_24))))))))))))) := rfl
noncomputable def gLand_readPan_0 (o x1 : Nat) (J : gJ) (L : gL) : Int × gJ × gL := gB3 (gTape_step_0 x1 J L) (fun r_1 J_2 L_3 => gB3 (gLand_readName_0 o x1 J_2 L_3) (fun r_4 J_5 L_6 => gLet (J_5 o 2) (fun (v_7 : Int) => gB3 (gLand_readSite_0 o x1 J_5 L_6) (fun r_8 J_9 L_10 => gLet (q_u J_9 (o + 6) (Int.toNat v_7) r_8) (fun (J_11 : gJ) => gLet (gTape_isWord_0 x1 J_11 L_10 6) (fun (r_12 : Int) => gB3 (gTape_passIf_0 x1 J_11 L_10 r_12) (fun r_13 J_14 L_15 => (gLand_readPan_37 20000 o x1 J_14 L_15 0 0))))))))
theorem eLand_readPan_0 {o x1 : Nat} {J : gJ} {L : gL} : gLand_readPan_0 o x1 J L  = gB3 (gTape_step_0 x1 J L) (fun r_1 J_2 L_3 => gB3 (gLand_readName_0 o x1 J_2 L_3) (fun r_4 J_5 L_6 => gLet (J_5 o 2) (fun (v_7 : Int) => gB3 (gLand_readSite_0 o x1 J_5 L_6) (fun r_8 J_9 L_10 => gLet (q_u J_9 (o + 6) (Int.toNat v_7) r_8) (fun (J_11 : gJ) => gLet (gTape_isWord_0 x1 J_11 L_10 6) (fun (r_12 : Int) => gB3 (gTape_passIf_0 x1 J_11 L_10 r_12) (fun r_13 J_14 L_15 => (gLand_readPan_37 20000 o x1 J_14 L_15 0 0)))))))) := rfl
set_option maxHeartbeats 4000000 in
set_option maxRecDepth 20000 in
theorem yLand_readPan_122g {D : va_G} {cA : FieldType → ClassId} {b : Nat} {E : State → Prop} {R : qRg} {o n : Nat} {sh : Nat → qC} {Rf : Nat → Nat → Option Nat} {I0 : Nat → Nat → Int32} {L0 : Nat → Nat → Int64} {post : Option Value → qS → Prop} {x1 : Nat} (hok : q_ok (qGG D cA b E)) (hw : WfLand (qGG D cA b E) n sh Rf o) (ra : RALand R o) (hw1 : WfTape (qGG D cA b E) n sh Rf x1) (ra1 : RATape R x1) (hs0 : o + 16 ≤ x1 ∨ x1 + 7 ≤ o) (hq0 : (I0 o 2).toInt ≤ 2) (hq1 : TokOK I0 x1) (hp : ∀ (r : Int32) (I' : Nat → Nat → Int32) (L' : Nat → Nat → Int64), RI R I' → Fm (fun c => (o ≤ c ∧ c < o + 16) ∨ c = x1) I0 I' → (Bz r) → (gLand_readPan_0 o x1 (tI I0) L0 = (r.toInt, tI I', L')) → (FmL (fun c => c = (o + 1)) L0 L') → post (some (.int r)) (n, sh, Rf, I', L')) : ∀ (k : Nat) {x2 : Int32} {x3 : Int32} {I : Nat → Nat → Int32} {L : Nat → Nat → Int64}, RI R I → Fm (fun c => (o ≤ c ∧ c < o + 16) ∨ c = x1) I0 I → ((0 : Int) ≤ x3.toInt ∧ x3.toInt ≤ 5) → ((I o 2).toInt ≤ 2) → (FmL (fun c => c = (o + 1)) L0 L) → (gLand_readPan_122 k o x1 (tI I) L (x2).toInt (x3).toInt = gLand_readPan_0 o x1 (tI I0) L0) → (5 - x3.toInt).toNat < k → Ev (qGG D cA b E) mLand_readPan 3 (0, 0) 122 [(0, .ref o), (1, .ref x1), (2, .int x2), (3, .int x3)] [] (n, sh, Rf, I, L) post := by
  intro k
  induction k with
  | zero =>
    intro x2 x3 I L hR hf hi0 hi1 hl hg hm
    exact absurd hm (Nat.not_lt_zero _)
  | succ k ih =>
    intro x2 x3 I L hR hf hi0 hi1 hl hg hm
    have g_1 : (0 : Int) ≤ (I o 2).toInt ∧ (I o 2).toInt ≤ 3 := hR.at0 ra 2 (by decide)
    refine sLand_readPan_122 o n sh Rf I L post x1 x2 x3 hok hw hw1 ?_
    unfold fLand_readPan_122
    replace hg := (eLand_readPan_122).symm.trans hg
    have l_2 : (5 : Int32).toInt = 5 := rfl
    refine ⟨fun c_3 => ?_, fun c_3 => ?_⟩
    · have d_4 := iLe c_3
      replace hg := gt_pos (by first | exact d_4 | omega) hg
      refine y_Tape_closeLineg hok hw1 ra1 hR (fun r_5 I_11 L_12 hR_13 fr_14 u_6 u_7 u_8 gn_9 ln_10 => ⟨r_5, I_11, L_12, rfl, rfl, ?_⟩)
      replace hl := hl.call ln_10 (fun c hc => by first | exact hc | exact False.elim hc | (dsimp only at hc ⊢; omega) | omega)
      replace hg := gt_b3 gn_9 hg
      clear gn_9
      have hf_15 : Fm (fun c => (o ≤ c ∧ c < o + 16) ∨ c = x1) I0 I_11 := hf.call fr_14 (fun c hc => by first | exact hc | (dsimp only at hc ⊢; omega) | omega)
      have t_16 : (I_11 o 2).toInt = (I o 2).toInt := by rw [fr_14 o (by first | omega | (dsimp only; omega))]
      have b_17 : 0 ≤ r_5.toInt ∧ r_5.toInt ≤ 1 := u_6.rg
      have l_18 : (0 : Int32).toInt = 0 := rfl
      refine ⟨fun c_19 => ?_, fun c_19 => ?_⟩
      · have d_20 := iNe c_19
        replace hg := gt_neg (by first | exact d_20 | omega) hg
        have g_21 : (0 : Int) ≤ (I_11 o 2).toInt ∧ (I_11 o 2).toInt ≤ 3 := hR_13.at0 ra 2 (by decide)
        replace hg := gt_let (y := (I_11 o 2).toInt) rfl hg
        have l_22 : (1 : Int32).toInt = 1 := rfl
        have a_23 : ((I_11 o 2) + 1).toInt = (I_11 o 2).toInt + (1 : Int32).toInt := tAdd (by omega) (by omega)
        replace hg := gt_let (y := (((I_11 o 2) + 1) : Int32).toInt) (by omega) hg
        refine fun I_24 e_25 => ?_
        replace hg := gt_let (y := tI I_24) (tI_q e_25) hg
        have hR_26 : RI R I_24 := hR_13.up0 (k := 2) ra (by decide) (Or.inl rfl) e_25 (show (0 : Int) ≤ ((I_11 o 2) + 1).toInt by omega) (show ((I_11 o 2) + 1).toInt ≤ (3 : Int) by omega)
        have hf_27 : Fm (fun c => (o ≤ c ∧ c < o + 16) ∨ c = x1) I0 I_24 := hf_15.set (by first | rfl | omega | (dsimp only; omega)) e_25
        have t_28 : (I_24 o 2).toInt = ((I_11 o 2) + 1).toInt := by rw [← e_25, q_u_at]
        exact (hp _ _ _ hR_26 hf_27 (Or.inr rfl) hg.symm hl)
      · have d_29 := iEq c_19
        replace hg := gt_pos (by first | exact d_29 | omega) hg
        exact (hp _ _ _ hR_13 hf_15 (Or.inl rfl) hg.symm hl)
    · have d_30 := iNle c_3
      replace hg := gt_neg (by first | exact d_30 | omega) hg
      refine y_Tape_isNumberg hok hw1 ra1 hR (fun r_31 u_32 u_33 gn_34 => ⟨r_31, I, L, rfl, rfl, ?_⟩)
      replace hg := gt_let gn_34 hg
      clear gn_34
      have b_35 : 0 ≤ r_31.toInt ∧ r_31.toInt ≤ 1 := u_32.rg
      have l_36 : (0 : Int32).toInt = 0 := rfl
      refine ⟨fun c_37 => ?_, fun c_37 => ?_⟩
      · have d_38 := iEq c_37
        replace hg := gt_pos (by first | exact d_38 | omega) hg
        refine y_Tape_closeLineg hok hw1 ra1 hR (fun r_39 I_45 L_46 hR_47 fr_48 u_40 u_41 u_42 gn_43 ln_44 => ⟨r_39, I_45, L_46, rfl, rfl, ?_⟩)
        replace hl := hl.call ln_44 (fun c hc => by first | exact hc | exact False.elim hc | (dsimp only at hc ⊢; omega) | omega)
        replace hg := gt_b3 gn_43 hg
        clear gn_43
        have hf_49 : Fm (fun c => (o ≤ c ∧ c < o + 16) ∨ c = x1) I0 I_45 := hf.call fr_48 (fun c hc => by first | exact hc | (dsimp only at hc ⊢; omega) | omega)
        have t_50 : (I_45 o 2).toInt = (I o 2).toInt := by rw [fr_48 o (by first | omega | (dsimp only; omega))]
        have b_51 : 0 ≤ r_39.toInt ∧ r_39.toInt ≤ 1 := u_40.rg
        refine ⟨fun c_52 => ?_, fun c_52 => ?_⟩
        · have d_53 := iNe c_52
          replace hg := gt_neg (by first | exact d_53 | omega) hg
          have g_54 : (0 : Int) ≤ (I_45 o 2).toInt ∧ (I_45 o 2).toInt ≤ 3 := hR_47.at0 ra 2 (by decide)
          replace hg := gt_let (y := (I_45 o 2).toInt) rfl hg
          have l_55 : (1 : Int32).toInt = 1 := rfl
          have a_56 : ((I_45 o 2) + 1).toInt = (I_45 o 2).toInt + (1 : Int32).toInt := tAdd (by omega) (by omega)
          replace hg := gt_let (y := (((I_45 o 2) + 1) : Int32).toInt) (by omega) hg
          refine fun I_57 e_58 => ?_
          replace hg := gt_let (y := tI I_57) (tI_q e_58) hg
          have hR_59 : RI R I_57 := hR_47.up0 (k := 2) ra (by decide) (Or.inl rfl) e_58 (show (0 : Int) ≤ ((I_45 o 2) + 1).toInt by omega) (show ((I_45 o 2) + 1).toInt ≤ (3 : Int) by omega)
          have hf_60 : Fm (fun c => (o ≤ c ∧ c < o + 16) ∨ c = x1) I0 I_57 := hf_49.set (by first | rfl | omega | (dsimp only; omega)) e_58
          have t_61 : (I_57 o 2).toInt = ((I_45 o 2) + 1).toInt := by rw [← e_58, q_u_at]
          exact (hp _ _ _ hR_59 hf_60 (Or.inr rfl) hg.symm hl)
        · have d_62 := iEq c_52
          replace hg := gt_pos (by first | exact d_62 | omega) hg
          exact (hp _ _ _ hR_47 hf_49 (Or.inl rfl) hg.symm hl)
      · have d_63 := iNe c_37
        replace hg := gt_neg (by first | exact d_63 | omega) hg
        refine y_Land_readDistrictg hok hw ra hw1 ra1 (by first | omega | (intro h; omega) | exact Or.inl rfl | exact Or.inr rfl) (by first | omega | (intro h; omega) | exact Or.inl rfl | exact Or.inr rfl) hR (fun I_68 L_69 hR_70 fr_71 u_65 gn_66 ln_67 => ⟨I_68, L_69, rfl, rfl, ?_⟩)
        replace hl := hl.call ln_67 (fun c hc => by first | exact hc | exact False.elim hc | (dsimp only at hc ⊢; omega) | omega)
        replace hg := gt_b3 gn_66 hg
        clear gn_66
        have hf_72 : Fm (fun c => (o ≤ c ∧ c < o + 16) ∨ c = x1) I0 I_68 := hf.call fr_71 (fun c hc => by first | exact hc | (dsimp only at hc ⊢; omega) | omega)
        have g_73 : (0 : Int) ≤ (I_68 o 2).toInt ∧ (I_68 o 2).toInt ≤ 3 := hR_70.at0 ra 2 (by decide)
        have a_75 : (x3 + Int32.ofInt 1).toInt = x3.toInt + (1) := tIc (by omega) (by omega) (by decide) (by decide)
        generalize ez_74 : (x3 + Int32.ofInt 1) = z_74 at a_75 ⊢
        replace hg := gt_let (y := z_74.toInt) (by omega) hg
        exact ih hR_70 hf_72 (by first | omega | (intro h; omega) | exact Or.inl rfl | exact Or.inr rfl) (by first | omega | (intro h; omega) | exact Or.inl rfl | exact Or.inr rfl) hl hg (by omega)
set_option maxHeartbeats 4000000 in
set_option maxRecDepth 20000 in
theorem yLand_readPan_37g {D : va_G} {cA : FieldType → ClassId} {b : Nat} {E : State → Prop} {R : qRg} {o n : Nat} {sh : Nat → qC} {Rf : Nat → Nat → Option Nat} {I0 : Nat → Nat → Int32} {L0 : Nat → Nat → Int64} {post : Option Value → qS → Prop} {x1 : Nat} (hok : q_ok (qGG D cA b E)) (hw : WfLand (qGG D cA b E) n sh Rf o) (ra : RALand R o) (hw1 : WfTape (qGG D cA b E) n sh Rf x1) (ra1 : RATape R x1) (hs0 : o + 16 ≤ x1 ∨ x1 + 7 ≤ o) (hq0 : (I0 o 2).toInt ≤ 2) (hq1 : TokOK I0 x1) (hp : ∀ (r : Int32) (I' : Nat → Nat → Int32) (L' : Nat → Nat → Int64), RI R I' → Fm (fun c => (o ≤ c ∧ c < o + 16) ∨ c = x1) I0 I' → (Bz r) → (gLand_readPan_0 o x1 (tI I0) L0 = (r.toInt, tI I', L')) → (FmL (fun c => c = (o + 1)) L0 L') → post (some (.int r)) (n, sh, Rf, I', L')) : ∀ (k : Nat) {x2 : Int32} {x3 : Int32} {I : Nat → Nat → Int32} {L : Nat → Nat → Int64}, RI R I → Fm (fun c => (o ≤ c ∧ c < o + 16) ∨ c = x1) I0 I → ((0 : Int) ≤ x3.toInt ∧ x3.toInt ≤ 12) → ((I o 2).toInt ≤ 2) → (FmL (fun c => c = (o + 1)) L0 L) → (gLand_readPan_37 k o x1 (tI I) L (x2).toInt (x3).toInt = gLand_readPan_0 o x1 (tI I0) L0) → (12 - x3.toInt).toNat < k → Ev (qGG D cA b E) mLand_readPan 3 (0, 0) 37 [(0, .ref o), (1, .ref x1), (2, .int x2), (3, .int x3)] [] (n, sh, Rf, I, L) post := by
  intro k
  induction k with
  | zero =>
    intro x2 x3 I L hR hf hi0 hi1 hl hg hm
    exact absurd hm (Nat.not_lt_zero _)
  | succ k ih =>
    intro x2 x3 I L hR hf hi0 hi1 hl hg hm
    have g_76 : (0 : Int) ≤ (I o 2).toInt ∧ (I o 2).toInt ≤ 3 := hR.at0 ra 2 (by decide)
    refine sLand_readPan_37 o n sh Rf I L post x1 x2 x3 hok hw hw1 ?_
    unfold fLand_readPan_37
    replace hg := (eLand_readPan_37).symm.trans hg
    have l_77 : (12 : Int32).toInt = 12 := rfl
    refine ⟨fun c_78 => ?_, fun c_78 => ?_⟩
    · have d_79 := iLe c_78
      replace hg := gt_pos (by first | exact d_79 | omega) hg
      have g_80 : (0 : Int) ≤ (I o 2).toInt ∧ (I o 2).toInt ≤ 3 := hR.at0 ra 2 (by decide)
      replace hg := gt_let (y := (I o 2).toInt) rfl hg
      replace hg := gt_let (y := ((x2 / 12) : Int32).toInt) (wDiv_eq (x2 : Int32) (12 : Int32)) hg
      refine fun y_81 e_82 => ?_
      have l_83 : (1 : Int32).toInt = 1 := rfl
      have m_84 := tMax e_82
      replace hg := gt_let (y := y_81.toInt) (wMmax_eq e_82) hg
      refine ⟨tIn (by omega) (by omega), fun I_85 e_86 => ?_⟩
      replace hg := gt_let (y := tI I_85) (tI_q e_86) hg
      have hR_87 : RI R I_85 := hR.up ra 9 (by decide) (Or.inl rfl) e_86 (i_lo _) (i_hi _)
      have hf_88 : Fm (fun c => (o ≤ c ∧ c < o + 16) ∨ c = x1) I0 I_85 := hf.set (by first | rfl | omega | (dsimp only; omega)) e_86
      have t_89 : (I_85 o 2).toInt = (I o 2).toInt := by rw [← e_86, q_u_ne (by omega)]
      have l_90 : (7 : Int32).toInt = 7 := rfl
      refine y_Tape_isWordg hok hw1 ra1 hR_87 (fun r_91 u_92 gn_93 => ⟨r_91, I_85, L, rfl, rfl, ?_⟩)
      replace hg := gt_let gn_93 hg
      clear gn_93
      have b_94 : 0 ≤ r_91.toInt ∧ r_91.toInt ≤ 1 := u_92.rg
      refine y_Tape_passIfg hok hw1 ra1 hR_87 (fun I_99 L_100 hR_101 fr_102 u_96 gn_97 ln_98 => ⟨I_99, L_100, rfl, rfl, ?_⟩)
      replace hl := hl.call ln_98 (fun c hc => by first | exact hc | exact False.elim hc | (dsimp only at hc ⊢; omega) | omega)
      replace hg := gt_b3 gn_97 hg
      clear gn_97
      have hf_103 : Fm (fun c => (o ≤ c ∧ c < o + 16) ∨ c = x1) I0 I_99 := hf_88.call fr_102 (fun c hc => by first | exact hc | (dsimp only at hc ⊢; omega) | omega)
      have t_104 : (I_99 o 2).toInt = (I_85 o 2).toInt := by rw [fr_102 o (by first | omega | (dsimp only; omega))]
      refine y_Land_readDistrictg hok hw ra hw1 ra1 (by first | omega | (intro h; omega) | exact Or.inl rfl | exact Or.inr rfl) (by first | omega | (intro h; omega) | exact Or.inl rfl | exact Or.inr rfl) hR_101 (fun I_109 L_110 hR_111 fr_112 u_106 gn_107 ln_108 => ⟨I_109, L_110, rfl, rfl, ?_⟩)
      replace hl := hl.call ln_108 (fun c hc => by first | exact hc | exact False.elim hc | (dsimp only at hc ⊢; omega) | omega)
      replace hg := gt_b3 gn_107 hg
      clear gn_107
      have hf_113 : Fm (fun c => (o ≤ c ∧ c < o + 16) ∨ c = x1) I0 I_109 := hf_103.call fr_112 (fun c hc => by first | exact hc | (dsimp only at hc ⊢; omega) | omega)
      have g_114 : (0 : Int) ≤ (I_109 o 2).toInt ∧ (I_109 o 2).toInt ≤ 3 := hR_111.at0 ra 2 (by decide)
      have l_115 : (0 : Int32).toInt = 0 := rfl
      exact yLand_readPan_122g (I0 := I0) (L0 := L0) hok hw ra hw1 ra1 hs0 hq0 hq1 hp  20000 hR_111 hf_113 (by first | omega | (intro h; omega) | exact Or.inl rfl | exact Or.inr rfl) (by first | omega | (intro h; omega) | exact Or.inl rfl | exact Or.inr rfl) hl hg (by omega)
    · have d_116 := iNle c_78
      replace hg := gt_neg (by first | exact d_116 | omega) hg
      have g_117 : (0 : Int) ≤ (I o 2).toInt ∧ (I o 2).toInt ≤ 3 := hR.at0 ra 2 (by decide)
      replace hg := gt_let (y := (I o 2).toInt) rfl hg
      have a_118 : ((I o 2) * 12).toInt = (I o 2).toInt * 12 := tMul rfl (by omega) (by omega)
      replace hg := gt_let (y := (((I o 2) * 12) : Int32).toInt) (by omega) hg
      have a_119 : (((I o 2) * 12) + x3).toInt = ((I o 2) * 12).toInt + x3.toInt := tAdd (by omega) (by omega)
      replace hg := gt_let (y := ((((I o 2) * 12) + x3) : Int32).toInt) (by omega) hg
      have l_120 : (0 : Int32).toInt = 0 := rfl
      have l_121 : (999 : Int32).toInt = 999 := rfl
      refine y_Tape_takeNumberg hok hw1 ra1 (by first | omega | (intro h; omega) | exact Or.inl rfl | exact Or.inr rfl) (by first | omega | (intro h; omega) | exact Or.inl rfl | exact Or.inr rfl) hR (fun r_122 I_128 L_129 hR_130 fr_131 u_123 u_124 u_125 gn_126 ln_127 => ⟨r_122, I_128, L_129, rfl, rfl, ?_⟩)
      replace hl := hl.call ln_127 (fun c hc => by first | exact hc | exact False.elim hc | (dsimp only at hc ⊢; omega) | omega)
      replace hg := gt_b3 gn_126 hg
      clear gn_126
      have hf_132 : Fm (fun c => (o ≤ c ∧ c < o + 16) ∨ c = x1) I0 I_128 := hf.call fr_131 (fun c hc => by first | exact hc | (dsimp only at hc ⊢; omega) | omega)
      have t_133 : (I_128 o 2).toInt = (I o 2).toInt := by rw [fr_131 o (by first | omega | (dsimp only; omega))]
      refine ⟨tIn (by omega) (by omega), fun I_134 e_135 => ?_⟩
      replace hg := gt_let (y := tI I_134) (tI_q e_135) hg
      have hR_136 : RI R I_134 := hR_130.up ra 7 (by decide) (Or.inl rfl) e_135 (i_lo _) (i_hi _)
      have hf_137 : Fm (fun c => (o ≤ c ∧ c < o + 16) ∨ c = x1) I0 I_134 := hf_132.set (by first | rfl | omega | (dsimp only; omega)) e_135
      have t_138 : (I_134 o 2).toInt = (I_128 o 2).toInt := by rw [← e_135, q_u_ne (by omega)]
      have g_139 : (0 : Int) ≤ (I_134 o 2).toInt ∧ (I_134 o 2).toInt ≤ 3 := hR_136.at0 ra 2 (by decide)
      replace hg := gt_let (y := (I_134 o 2).toInt) rfl hg
      have a_140 : ((I_134 o 2) * 12).toInt = (I_134 o 2).toInt * 12 := tMul rfl (by omega) (by omega)
      replace hg := gt_let (y := (((I_134 o 2) * 12) : Int32).toInt) (by omega) hg
      have a_141 : (((I_134 o 2) * 12) + x3).toInt = ((I_134 o 2) * 12).toInt + x3.toInt := tAdd (by omega) (by omega)
      replace hg := gt_let (y := ((((I_134 o 2) * 12) + x3) : Int32).toInt) (by omega) hg
      refine ⟨tIn (by omega) (by omega), ?_⟩
      replace hg := gt_let (y := (I_134 (o + 7) ((((I_134 o 2) * 12) + x3) : Int32).toNatClampNeg).toInt) rfl hg
      replace hg := gt_let (y := ((x2 + (I_134 (o + 7) ((((I_134 o 2) * 12) + x3) : Int32).toNatClampNeg)) : Int32).toInt) (wAdd_eq (x2 : Int32) ((I_134 (o + 7) ((((I_134 o 2) * 12) + x3) : Int32).toNatClampNeg) : Int32)) hg
      have a_143 : (x3 + Int32.ofInt 1).toInt = x3.toInt + (1) := tIc (by omega) (by omega) (by decide) (by decide)
      generalize ez_142 : (x3 + Int32.ofInt 1) = z_142 at a_143 ⊢
      replace hg := gt_let (y := z_142.toInt) (by omega) hg
      exact ih hR_136 hf_137 (by first | omega | (intro h; omega) | exact Or.inl rfl | exact Or.inr rfl) (by first | omega | (intro h; omega) | exact Or.inl rfl | exact Or.inr rfl) hl hg (by omega)
set_option maxHeartbeats 4000000 in
set_option maxRecDepth 20000 in
theorem y_Land_readPang {D : va_G} {cA : FieldType → ClassId} {b : Nat} {E : State → Prop} {R : qRg} {o n : Nat} {sh : Nat → qC} {Rf : Nat → Nat → Option Nat} {I0 : Nat → Nat → Int32} {L0 : Nat → Nat → Int64} {post : Option Value → qS → Prop} {x1 : Nat} (hok : q_ok (qGG D cA b E)) (hw : WfLand (qGG D cA b E) n sh Rf o) (ra : RALand R o) (hw1 : WfTape (qGG D cA b E) n sh Rf x1) (ra1 : RATape R x1) (hs0 : o + 16 ≤ x1 ∨ x1 + 7 ≤ o) (hq0 : (I0 o 2).toInt ≤ 2) (hq1 : TokOK I0 x1) (hR : RI R I0) (hp : ∀ (r : Int32) (I' : Nat → Nat → Int32) (L' : Nat → Nat → Int64), RI R I' → Fm (fun c => (o ≤ c ∧ c < o + 16) ∨ c = x1) I0 I' → (Bz r) → (gLand_readPan_0 o x1 (tI I0) L0 = (r.toInt, tI I', L')) → (FmL (fun c => c = (o + 1)) L0 L') → post (some (.int r)) (n, sh, Rf, I', L')) : Ev (qGG D cA b E) mLand_readPan 3 (0, 0) 0 (lv_args 0 [.ref o, .ref x1]) [] (n, sh, Rf, I0, L0) post := by
  have hf : Fm (fun c => (o ≤ c ∧ c < o + 16) ∨ c = x1) I0 I0 := Fm.rf
  have g_144 : (0 : Int) ≤ (I0 o 2).toInt ∧ (I0 o 2).toInt ≤ 3 := hR.at0 ra 2 (by decide)
  refine sLand_readPan_0 o n sh Rf I0 L0 post x1 hok hw hw1 ?_
  unfold fLand_readPan_0
  have hl : FmL (fun c => c = (o + 1)) L0 L0 := FmL.rf
  have hg : gLand_readPan_0 o x1 (tI I0) L0 = gLand_readPan_0 o x1 (tI I0) L0 := rfl
  replace hg := (eLand_readPan_0).symm.trans hg
  refine y_Tape_stepg hok hw1 ra1 hR (fun I_149 L_150 hR_151 fr_152 u_146 gn_147 ln_148 => ⟨I_149, L_150, rfl, rfl, ?_⟩)
  replace hl := hl.call ln_148 (fun c hc => by first | exact hc | exact False.elim hc | (dsimp only at hc ⊢; omega) | omega)
  replace hg := gt_b3 gn_147 hg
  clear gn_147
  have hf_153 : Fm (fun c => (o ≤ c ∧ c < o + 16) ∨ c = x1) I0 I_149 := hf.call fr_152 (fun c hc => by first | exact hc | (dsimp only at hc ⊢; omega) | omega)
  have t_154 : (I_149 o 2).toInt = (I0 o 2).toInt := by rw [fr_152 o (by first | omega | (dsimp only; omega))]
  have k_155 : TokOK I_149 x1 := hq1.fr (fr_152 _ (by first | omega | (dsimp only; omega))) (fr_152 _ (by first | omega | (dsimp only; omega)))
  refine y_Land_readNameg hok hw ra hw1 ra1 (by first | omega | (intro h; omega) | exact Or.inl rfl | exact Or.inr rfl) hR_151 (fun I_164 L_165 hR_166 fr_167 u_157 u_158 u_159 u_160 u_161 gn_162 ln_163 => ⟨I_164, L_165, rfl, rfl, ?_⟩)
  replace hl := hl.call ln_163 (fun c hc => by first | exact hc | exact False.elim hc | (dsimp only at hc ⊢; omega) | omega)
  replace hg := gt_b3 gn_162 hg
  clear gn_162
  have hf_168 : Fm (fun c => (o ≤ c ∧ c < o + 16) ∨ c = x1) I0 I_164 := hf_153.call fr_167 (fun c hc => by first | exact hc | (dsimp only at hc ⊢; omega) | omega)
  have g_169 : (0 : Int) ≤ (I_164 o 2).toInt ∧ (I_164 o 2).toInt ≤ 3 := hR_166.at0 ra 2 (by decide)
  have k_170 : TokOK I_164 x1 := k_155.fr (fr_167 _ (by first | omega | (dsimp only; omega))) (fr_167 _ (by first | omega | (dsimp only; omega)))
  have g_171 : (0 : Int) ≤ (I_164 o 2).toInt ∧ (I_164 o 2).toInt ≤ 3 := hR_166.at0 ra 2 (by decide)
  replace hg := gt_let (y := (I_164 o 2).toInt) rfl hg
  refine y_Land_readSiteg hok hw ra hw1 ra1 k_170 hR_166 (fun r_172 I_178 L_179 hR_180 fr_181 u_173 u_174 u_175 gn_176 ln_177 => ⟨r_172, I_178, L_179, rfl, rfl, ?_⟩)
  replace hl := hl.call ln_177 (fun c hc => by first | exact hc | exact False.elim hc | (dsimp only at hc ⊢; omega) | omega)
  replace hg := gt_b3 gn_176 hg
  clear gn_176
  have hf_182 : Fm (fun c => (o ≤ c ∧ c < o + 16) ∨ c = x1) I0 I_178 := hf_168.call fr_181 (fun c hc => by first | exact hc | (dsimp only at hc ⊢; omega) | omega)
  have t_183 : (I_178 o 2).toInt = (I_164 o 2).toInt := by rw [fr_181 o (by first | omega | (dsimp only; omega))]
  have k_184 : TokOK I_178 x1 := k_170.fr (fr_181 _ (by first | omega | (dsimp only; omega))) (fr_181 _ (by first | omega | (dsimp only; omega)))
  refine ⟨tIn (by omega) (by omega), fun I_185 e_186 => ?_⟩
  replace hg := gt_let (y := tI I_185) (tI_q e_186) hg
  have hR_187 : RI R I_185 := hR_180.up ra 6 (by decide) (Or.inl rfl) e_186 (i_lo _) (i_hi _)
  have hf_188 : Fm (fun c => (o ≤ c ∧ c < o + 16) ∨ c = x1) I0 I_185 := hf_182.set (by first | rfl | omega | (dsimp only; omega)) e_186
  have t_189 : (I_185 o 2).toInt = (I_178 o 2).toInt := by rw [← e_186, q_u_ne (by omega)]
  have k_190 : TokOK I_185 x1 := k_184.fr (by rw [← e_186]; exact q_u_ne (by omega)) (by rw [← e_186]; exact q_u_ne (by omega))
  have l_191 : (6 : Int32).toInt = 6 := rfl
  refine y_Tape_isWordg hok hw1 ra1 hR_187 (fun r_192 u_193 gn_194 => ⟨r_192, I_185, L_179, rfl, rfl, ?_⟩)
  replace hg := gt_let gn_194 hg
  clear gn_194
  have b_195 : 0 ≤ r_192.toInt ∧ r_192.toInt ≤ 1 := u_193.rg
  refine y_Tape_passIfg hok hw1 ra1 hR_187 (fun I_200 L_201 hR_202 fr_203 u_197 gn_198 ln_199 => ⟨I_200, L_201, rfl, rfl, ?_⟩)
  replace hl := hl.call ln_199 (fun c hc => by first | exact hc | exact False.elim hc | (dsimp only at hc ⊢; omega) | omega)
  replace hg := gt_b3 gn_198 hg
  clear gn_198
  have hf_204 : Fm (fun c => (o ≤ c ∧ c < o + 16) ∨ c = x1) I0 I_200 := hf_188.call fr_203 (fun c hc => by first | exact hc | (dsimp only at hc ⊢; omega) | omega)
  have t_205 : (I_200 o 2).toInt = (I_185 o 2).toInt := by rw [fr_203 o (by first | omega | (dsimp only; omega))]
  have k_206 : TokOK I_200 x1 := k_190.fr (fr_203 _ (by first | omega | (dsimp only; omega))) (fr_203 _ (by first | omega | (dsimp only; omega)))
  have l_207 : (0 : Int32).toInt = 0 := rfl
  exact yLand_readPan_37g (I0 := I0) (L0 := L0) hok hw ra hw1 ra1 hs0 hq0 hq1 hp  20000 hR_202 hf_204 (by first | omega | (intro h; omega) | exact Or.inl rfl | exact Or.inr rfl) (by first | omega | (intro h; omega) | exact Or.inl rfl | exact Or.inr rfl) hl hg (by omega)
noncomputable def gLand_readTown_0 (o x1 : Nat) (J : gJ) (L : gL) : Int × gJ × gL := gB3 (gTape_step_0 x1 J L) (fun r_1 J_2 L_3 => gB3 (gLand_readName_0 o x1 J_2 L_3) (fun r_4 J_5 L_6 => gLet (J_5 o 3) (fun (v_7 : Int) => gB3 (gLand_readSite_0 o x1 J_5 L_6) (fun r_8 J_9 L_10 => gLet (q_u J_9 (o + 10) (Int.toNat v_7) r_8) (fun (J_11 : gJ) => gLet (J_11 o 3) (fun (v_12 : Int) => gB3 (gTape_takeNumberBehind_0 x1 J_11 L_10 9 0 4) (fun r_13 J_14 L_15 => gLet (q_u J_14 (o + 11) (Int.toNat v_12) r_13) (fun (J_16 : gJ) => gLet (J_16 o 3) (fun (v_17 : Int) => gB3 (gTape_takeNumberBehind_0 x1 J_16 L_15 10 0 999) (fun r_18 J_19 L_20 => gLet (q_u J_19 (o + 12) (Int.toNat v_17) r_18) (fun (J_21 : gJ) => gLet (J_21 o 3) (fun (v_22 : Int) => gB3 (gTape_takeNumberBehind_0 x1 J_21 L_20 11 1 999) (fun r_23 J_24 L_25 => gLet (q_u J_24 (o + 13) (Int.toNat v_22) r_23) (fun (J_26 : gJ) => gLet (J_26 o 3) (fun (v_27 : Int) => gB3 (gTape_takeNumberBehind_0 x1 J_26 L_25 12 0 999) (fun r_28 J_29 L_30 => gLet (q_u J_29 (o + 14) (Int.toNat v_27) r_28) (fun (J_31 : gJ) => gLet (J_31 o 3) (fun (v_32 : Int) => gB3 (gTape_takeNumberBehind_0 x1 J_31 L_30 13 1 99) (fun r_33 J_34 L_35 => gLet (q_u J_34 (o + 15) (Int.toNat v_32) r_33) (fun (J_36 : gJ) => gB3 (gTape_closeLine_0 x1 J_36 L_35) (fun r_37 J_38 L_39 => (if r_37 = 0 then (0, J_38, L_39) else gLet (J_38 o 3) (fun (v_40 : Int) => gLet (v_40 + 1) (fun (v_41 : Int) => gLet (q_u J_38 o 3 v_41) (fun (J_42 : gJ) => (1, J_42, L_39))))))))))))))))))))))))))
theorem eLand_readTown_0 {o x1 : Nat} {J : gJ} {L : gL} : gLand_readTown_0 o x1 J L  = gB3 (gTape_step_0 x1 J L) (fun r_1 J_2 L_3 => gB3 (gLand_readName_0 o x1 J_2 L_3) (fun r_4 J_5 L_6 => gLet (J_5 o 3) (fun (v_7 : Int) => gB3 (gLand_readSite_0 o x1 J_5 L_6) (fun r_8 J_9 L_10 => gLet (q_u J_9 (o + 10) (Int.toNat v_7) r_8) (fun (J_11 : gJ) => gLet (J_11 o 3) (fun (v_12 : Int) => gB3 (gTape_takeNumberBehind_0 x1 J_11 L_10 9 0 4) (fun r_13 J_14 L_15 => gLet (q_u J_14 (o + 11) (Int.toNat v_12) r_13) (fun (J_16 : gJ) => gLet (J_16 o 3) (fun (v_17 : Int) => gB3 (gTape_takeNumberBehind_0 x1 J_16 L_15 10 0 999) (fun r_18 J_19 L_20 => gLet (q_u J_19 (o + 12) (Int.toNat v_17) r_18) (fun (J_21 : gJ) => gLet (J_21 o 3) (fun (v_22 : Int) => gB3 (gTape_takeNumberBehind_0 x1 J_21 L_20 11 1 999) (fun r_23 J_24 L_25 => gLet (q_u J_24 (o + 13) (Int.toNat v_22) r_23) (fun (J_26 : gJ) => gLet (J_26 o 3) (fun (v_27 : Int) => gB3 (gTape_takeNumberBehind_0 x1 J_26 L_25 12 0 999) (fun r_28 J_29 L_30 => gLet (q_u J_29 (o + 14) (Int.toNat v_27) r_28) (fun (J_31 : gJ) => gLet (J_31 o 3) (fun (v_32 : Int) => gB3 (gTape_takeNumberBehind_0 x1 J_31 L_30 13 1 99) (fun r_33 J_34 L_35 => gLet (q_u J_34 (o + 15) (Int.toNat v_32) r_33) (fun (J_36 : gJ) => gB3 (gTape_closeLine_0 x1 J_36 L_35) (fun r_37 J_38 L_39 => (if r_37 = 0 then (0, J_38, L_39) else gLet (J_38 o 3) (fun (v_40 : Int) => gLet (v_40 + 1) (fun (v_41 : Int) => gLet (q_u J_38 o 3 v_41) (fun (J_42 : gJ) => (1, J_42, L_39)))))))))))))))))))))))))) := rfl
set_option maxHeartbeats 4000000 in
set_option maxRecDepth 20000 in
theorem y_Land_readTowng {D : va_G} {cA : FieldType → ClassId} {b : Nat} {E : State → Prop} {R : qRg} {o n : Nat} {sh : Nat → qC} {Rf : Nat → Nat → Option Nat} {I0 : Nat → Nat → Int32} {L0 : Nat → Nat → Int64} {post : Option Value → qS → Prop} {x1 : Nat} (hok : q_ok (qGG D cA b E)) (hw : WfLand (qGG D cA b E) n sh Rf o) (ra : RALand R o) (hw1 : WfTape (qGG D cA b E) n sh Rf x1) (ra1 : RATape R x1) (hs0 : o + 16 ≤ x1 ∨ x1 + 7 ≤ o) (hq0 : (I0 o 3).toInt ≤ 4) (hq1 : TokOK I0 x1) (hR : RI R I0) (hp : ∀ (r : Int32) (I' : Nat → Nat → Int32) (L' : Nat → Nat → Int64), RI R I' → Fm (fun c => (o ≤ c ∧ c < o + 16) ∨ c = x1) I0 I' → (Bz r) → (gLand_readTown_0 o x1 (tI I0) L0 = (r.toInt, tI I', L')) → (FmL (fun c => c = (o + 1)) L0 L') → post (some (.int r)) (n, sh, Rf, I', L')) : Ev (qGG D cA b E) mLand_readTown 3 (0, 0) 0 (lv_args 0 [.ref o, .ref x1]) [] (n, sh, Rf, I0, L0) post := by
  have hf : Fm (fun c => (o ≤ c ∧ c < o + 16) ∨ c = x1) I0 I0 := Fm.rf
  have g_1 : (0 : Int) ≤ (I0 o 3).toInt ∧ (I0 o 3).toInt ≤ 5 := hR.at0 ra 3 (by decide)
  have g_2 : (0 : Int) ≤ (I0 x1 7).toInt ∧ (I0 x1 7).toInt ≤ 5 := hR.at0 ra1 7 (by decide)
  refine sLand_readTown_0 o n sh Rf I0 L0 post x1 hok hw hw1 ?_
  unfold fLand_readTown_0
  have hl : FmL (fun c => c = (o + 1)) L0 L0 := FmL.rf
  have hg : gLand_readTown_0 o x1 (tI I0) L0 = gLand_readTown_0 o x1 (tI I0) L0 := rfl
  replace hg := (eLand_readTown_0).symm.trans hg
  refine y_Tape_stepg hok hw1 ra1 hR (fun I_7 L_8 hR_9 fr_10 u_4 gn_5 ln_6 => ⟨I_7, L_8, rfl, rfl, ?_⟩)
  replace hl := hl.call ln_6 (fun c hc => by first | exact hc | exact False.elim hc | (dsimp only at hc ⊢; omega) | omega)
  replace hg := gt_b3 gn_5 hg
  clear gn_5
  have hf_11 : Fm (fun c => (o ≤ c ∧ c < o + 16) ∨ c = x1) I0 I_7 := hf.call fr_10 (fun c hc => by first | exact hc | (dsimp only at hc ⊢; omega) | omega)
  have t_12 : (I_7 o 3).toInt = (I0 o 3).toInt := by rw [fr_10 o (by first | omega | (dsimp only; omega))]
  have g_13 : (0 : Int) ≤ (I_7 x1 7).toInt ∧ (I_7 x1 7).toInt ≤ 5 := hR_9.at0 ra1 7 (by decide)
  have k_14 : TokOK I_7 x1 := hq1.fr (fr_10 _ (by first | omega | (dsimp only; omega))) (fr_10 _ (by first | omega | (dsimp only; omega)))
  refine y_Land_readNameg hok hw ra hw1 ra1 (by first | omega | (intro h; omega) | exact Or.inl rfl | exact Or.inr rfl) hR_9 (fun I_23 L_24 hR_25 fr_26 u_16 u_17 u_18 u_19 u_20 gn_21 ln_22 => ⟨I_23, L_24, rfl, rfl, ?_⟩)
  replace hl := hl.call ln_22 (fun c hc => by first | exact hc | exact False.elim hc | (dsimp only at hc ⊢; omega) | omega)
  replace hg := gt_b3 gn_21 hg
  clear gn_21
  have hf_27 : Fm (fun c => (o ≤ c ∧ c < o + 16) ∨ c = x1) I0 I_23 := hf_11.call fr_26 (fun c hc => by first | exact hc | (dsimp only at hc ⊢; omega) | omega)
  have g_28 : (0 : Int) ≤ (I_23 o 3).toInt ∧ (I_23 o 3).toInt ≤ 5 := hR_25.at0 ra 3 (by decide)
  have g_29 : (0 : Int) ≤ (I_23 x1 7).toInt ∧ (I_23 x1 7).toInt ≤ 5 := hR_25.at0 ra1 7 (by decide)
  have k_30 : TokOK I_23 x1 := k_14.fr (fr_26 _ (by first | omega | (dsimp only; omega))) (fr_26 _ (by first | omega | (dsimp only; omega)))
  have g_31 : (0 : Int) ≤ (I_23 o 3).toInt ∧ (I_23 o 3).toInt ≤ 5 := hR_25.at0 ra 3 (by decide)
  replace hg := gt_let (y := (I_23 o 3).toInt) rfl hg
  refine y_Land_readSiteg hok hw ra hw1 ra1 k_30 hR_25 (fun r_32 I_38 L_39 hR_40 fr_41 u_33 u_34 u_35 gn_36 ln_37 => ⟨r_32, I_38, L_39, rfl, rfl, ?_⟩)
  replace hl := hl.call ln_37 (fun c hc => by first | exact hc | exact False.elim hc | (dsimp only at hc ⊢; omega) | omega)
  replace hg := gt_b3 gn_36 hg
  clear gn_36
  have hf_42 : Fm (fun c => (o ≤ c ∧ c < o + 16) ∨ c = x1) I0 I_38 := hf_27.call fr_41 (fun c hc => by first | exact hc | (dsimp only at hc ⊢; omega) | omega)
  have t_43 : (I_38 o 3).toInt = (I_23 o 3).toInt := by rw [fr_41 o (by first | omega | (dsimp only; omega))]
  have g_44 : (0 : Int) ≤ (I_38 x1 7).toInt ∧ (I_38 x1 7).toInt ≤ 5 := hR_40.at0 ra1 7 (by decide)
  have k_45 : TokOK I_38 x1 := k_30.fr (fr_41 _ (by first | omega | (dsimp only; omega))) (fr_41 _ (by first | omega | (dsimp only; omega)))
  refine ⟨tIn (by omega) (by omega), fun I_46 e_47 => ?_⟩
  replace hg := gt_let (y := tI I_46) (tI_q e_47) hg
  have hR_48 : RI R I_46 := hR_40.up ra 10 (by decide) (Or.inl rfl) e_47 (i_lo _) (i_hi _)
  have hf_49 : Fm (fun c => (o ≤ c ∧ c < o + 16) ∨ c = x1) I0 I_46 := hf_42.set (by first | rfl | omega | (dsimp only; omega)) e_47
  have t_50 : (I_46 o 3).toInt = (I_38 o 3).toInt := by rw [← e_47, q_u_ne (by omega)]
  have t_51 : (I_46 x1 7).toInt = (I_38 x1 7).toInt := by rw [← e_47, q_u_ne (sh_ne_a (hw1).1.2.2 (waLand_14 (I := I0) (L := L0) hw).2.2)]
  have k_52 : TokOK I_46 x1 := k_45.fr (by rw [← e_47]; exact q_u_ne (by omega)) (by rw [← e_47]; exact q_u_ne (by omega))
  have g_53 : (0 : Int) ≤ (I_46 o 3).toInt ∧ (I_46 o 3).toInt ≤ 5 := hR_48.at0 ra 3 (by decide)
  replace hg := gt_let (y := (I_46 o 3).toInt) rfl hg
  have l_54 : (9 : Int32).toInt = 9 := rfl
  have l_55 : (0 : Int32).toInt = 0 := rfl
  have l_56 : (4 : Int32).toInt = 4 := rfl
  refine y_Tape_takeNumberBehindg hok hw1 ra1 (by first | omega | (intro h; omega) | exact Or.inl rfl | exact Or.inr rfl) (by first | omega | (intro h; omega) | exact Or.inl rfl | exact Or.inr rfl) hR_48 (fun r_57 I_63 L_64 hR_65 fr_66 u_58 u_59 u_60 gn_61 ln_62 => ⟨r_57, I_63, L_64, rfl, rfl, ?_⟩)
  replace hl := hl.call ln_62 (fun c hc => by first | exact hc | exact False.elim hc | (dsimp only at hc ⊢; omega) | omega)
  replace hg := gt_b3 gn_61 hg
  clear gn_61
  have hf_67 : Fm (fun c => (o ≤ c ∧ c < o + 16) ∨ c = x1) I0 I_63 := hf_49.call fr_66 (fun c hc => by first | exact hc | (dsimp only at hc ⊢; omega) | omega)
  have t_68 : (I_63 o 3).toInt = (I_46 o 3).toInt := by rw [fr_66 o (by first | omega | (dsimp only; omega))]
  have g_69 : (0 : Int) ≤ (I_63 x1 7).toInt ∧ (I_63 x1 7).toInt ≤ 5 := hR_65.at0 ra1 7 (by decide)
  have k_70 : TokOK I_63 x1 := k_52.fr (fr_66 _ (by first | omega | (dsimp only; omega))) (fr_66 _ (by first | omega | (dsimp only; omega)))
  refine ⟨tIn (by omega) (by omega), fun I_71 e_72 => ?_⟩
  replace hg := gt_let (y := tI I_71) (tI_q e_72) hg
  have hR_73 : RI R I_71 := hR_65.up ra 11 (by decide) (Or.inl rfl) e_72 (i_lo _) (i_hi _)
  have hf_74 : Fm (fun c => (o ≤ c ∧ c < o + 16) ∨ c = x1) I0 I_71 := hf_67.set (by first | rfl | omega | (dsimp only; omega)) e_72
  have t_75 : (I_71 o 3).toInt = (I_63 o 3).toInt := by rw [← e_72, q_u_ne (by omega)]
  have t_76 : (I_71 x1 7).toInt = (I_63 x1 7).toInt := by rw [← e_72, q_u_ne (sh_ne_a (hw1).1.2.2 (waLand_15 (I := I0) (L := L0) hw).2.2)]
  have k_77 : TokOK I_71 x1 := k_70.fr (by rw [← e_72]; exact q_u_ne (by omega)) (by rw [← e_72]; exact q_u_ne (by omega))
  have g_78 : (0 : Int) ≤ (I_71 o 3).toInt ∧ (I_71 o 3).toInt ≤ 5 := hR_73.at0 ra 3 (by decide)
  replace hg := gt_let (y := (I_71 o 3).toInt) rfl hg
  have l_79 : (10 : Int32).toInt = 10 := rfl
  have l_80 : (999 : Int32).toInt = 999 := rfl
  refine y_Tape_takeNumberBehindg hok hw1 ra1 (by first | omega | (intro h; omega) | exact Or.inl rfl | exact Or.inr rfl) (by first | omega | (intro h; omega) | exact Or.inl rfl | exact Or.inr rfl) hR_73 (fun r_81 I_87 L_88 hR_89 fr_90 u_82 u_83 u_84 gn_85 ln_86 => ⟨r_81, I_87, L_88, rfl, rfl, ?_⟩)
  replace hl := hl.call ln_86 (fun c hc => by first | exact hc | exact False.elim hc | (dsimp only at hc ⊢; omega) | omega)
  replace hg := gt_b3 gn_85 hg
  clear gn_85
  have hf_91 : Fm (fun c => (o ≤ c ∧ c < o + 16) ∨ c = x1) I0 I_87 := hf_74.call fr_90 (fun c hc => by first | exact hc | (dsimp only at hc ⊢; omega) | omega)
  have t_92 : (I_87 o 3).toInt = (I_71 o 3).toInt := by rw [fr_90 o (by first | omega | (dsimp only; omega))]
  have g_93 : (0 : Int) ≤ (I_87 x1 7).toInt ∧ (I_87 x1 7).toInt ≤ 5 := hR_89.at0 ra1 7 (by decide)
  have k_94 : TokOK I_87 x1 := k_77.fr (fr_90 _ (by first | omega | (dsimp only; omega))) (fr_90 _ (by first | omega | (dsimp only; omega)))
  refine ⟨tIn (by omega) (by omega), fun I_95 e_96 => ?_⟩
  replace hg := gt_let (y := tI I_95) (tI_q e_96) hg
  have hR_97 : RI R I_95 := hR_89.up ra 12 (by decide) (Or.inl rfl) e_96 (i_lo _) (i_hi _)
  have hf_98 : Fm (fun c => (o ≤ c ∧ c < o + 16) ∨ c = x1) I0 I_95 := hf_91.set (by first | rfl | omega | (dsimp only; omega)) e_96
  have t_99 : (I_95 o 3).toInt = (I_87 o 3).toInt := by rw [← e_96, q_u_ne (by omega)]
  have t_100 : (I_95 x1 7).toInt = (I_87 x1 7).toInt := by rw [← e_96, q_u_ne (sh_ne_a (hw1).1.2.2 (waLand_16 (I := I0) (L := L0) hw).2.2)]
  have k_101 : TokOK I_95 x1 := k_94.fr (by rw [← e_96]; exact q_u_ne (by omega)) (by rw [← e_96]; exact q_u_ne (by omega))
  have g_102 : (0 : Int) ≤ (I_95 o 3).toInt ∧ (I_95 o 3).toInt ≤ 5 := hR_97.at0 ra 3 (by decide)
  replace hg := gt_let (y := (I_95 o 3).toInt) rfl hg
  have l_103 : (11 : Int32).toInt = 11 := rfl
  have l_104 : (1 : Int32).toInt = 1 := rfl
  refine y_Tape_takeNumberBehindg hok hw1 ra1 (by first | omega | (intro h; omega) | exact Or.inl rfl | exact Or.inr rfl) (by first | omega | (intro h; omega) | exact Or.inl rfl | exact Or.inr rfl) hR_97 (fun r_105 I_111 L_112 hR_113 fr_114 u_106 u_107 u_108 gn_109 ln_110 => ⟨r_105, I_111, L_112, rfl, rfl, ?_⟩)
  replace hl := hl.call ln_110 (fun c hc => by first | exact hc | exact False.elim hc | (dsimp only at hc ⊢; omega) | omega)
  replace hg := gt_b3 gn_109 hg
  clear gn_109
  have hf_115 : Fm (fun c => (o ≤ c ∧ c < o + 16) ∨ c = x1) I0 I_111 := hf_98.call fr_114 (fun c hc => by first | exact hc | (dsimp only at hc ⊢; omega) | omega)
  have t_116 : (I_111 o 3).toInt = (I_95 o 3).toInt := by rw [fr_114 o (by first | omega | (dsimp only; omega))]
  have g_117 : (0 : Int) ≤ (I_111 x1 7).toInt ∧ (I_111 x1 7).toInt ≤ 5 := hR_113.at0 ra1 7 (by decide)
  have k_118 : TokOK I_111 x1 := k_101.fr (fr_114 _ (by first | omega | (dsimp only; omega))) (fr_114 _ (by first | omega | (dsimp only; omega)))
  refine ⟨tIn (by omega) (by omega), fun I_119 e_120 => ?_⟩
  replace hg := gt_let (y := tI I_119) (tI_q e_120) hg
  have hR_121 : RI R I_119 := hR_113.up ra 13 (by decide) (Or.inl rfl) e_120 (i_lo _) (i_hi _)
  have hf_122 : Fm (fun c => (o ≤ c ∧ c < o + 16) ∨ c = x1) I0 I_119 := hf_115.set (by first | rfl | omega | (dsimp only; omega)) e_120
  have t_123 : (I_119 o 3).toInt = (I_111 o 3).toInt := by rw [← e_120, q_u_ne (by omega)]
  have t_124 : (I_119 x1 7).toInt = (I_111 x1 7).toInt := by rw [← e_120, q_u_ne (sh_ne_a (hw1).1.2.2 (waLand_17 (I := I0) (L := L0) hw).2.2)]
  have k_125 : TokOK I_119 x1 := k_118.fr (by rw [← e_120]; exact q_u_ne (by omega)) (by rw [← e_120]; exact q_u_ne (by omega))
  have g_126 : (0 : Int) ≤ (I_119 o 3).toInt ∧ (I_119 o 3).toInt ≤ 5 := hR_121.at0 ra 3 (by decide)
  replace hg := gt_let (y := (I_119 o 3).toInt) rfl hg
  have l_127 : (12 : Int32).toInt = 12 := rfl
  refine y_Tape_takeNumberBehindg hok hw1 ra1 (by first | omega | (intro h; omega) | exact Or.inl rfl | exact Or.inr rfl) (by first | omega | (intro h; omega) | exact Or.inl rfl | exact Or.inr rfl) hR_121 (fun r_128 I_134 L_135 hR_136 fr_137 u_129 u_130 u_131 gn_132 ln_133 => ⟨r_128, I_134, L_135, rfl, rfl, ?_⟩)
  replace hl := hl.call ln_133 (fun c hc => by first | exact hc | exact False.elim hc | (dsimp only at hc ⊢; omega) | omega)
  replace hg := gt_b3 gn_132 hg
  clear gn_132
  have hf_138 : Fm (fun c => (o ≤ c ∧ c < o + 16) ∨ c = x1) I0 I_134 := hf_122.call fr_137 (fun c hc => by first | exact hc | (dsimp only at hc ⊢; omega) | omega)
  have t_139 : (I_134 o 3).toInt = (I_119 o 3).toInt := by rw [fr_137 o (by first | omega | (dsimp only; omega))]
  have g_140 : (0 : Int) ≤ (I_134 x1 7).toInt ∧ (I_134 x1 7).toInt ≤ 5 := hR_136.at0 ra1 7 (by decide)
  have k_141 : TokOK I_134 x1 := k_125.fr (fr_137 _ (by first | omega | (dsimp only; omega))) (fr_137 _ (by first | omega | (dsimp only; omega)))
  refine ⟨tIn (by omega) (by omega), fun I_142 e_143 => ?_⟩
  replace hg := gt_let (y := tI I_142) (tI_q e_143) hg
  have hR_144 : RI R I_142 := hR_136.up ra 14 (by decide) (Or.inl rfl) e_143 (i_lo _) (i_hi _)
  have hf_145 : Fm (fun c => (o ≤ c ∧ c < o + 16) ∨ c = x1) I0 I_142 := hf_138.set (by first | rfl | omega | (dsimp only; omega)) e_143
  have t_146 : (I_142 o 3).toInt = (I_134 o 3).toInt := by rw [← e_143, q_u_ne (by omega)]
  have t_147 : (I_142 x1 7).toInt = (I_134 x1 7).toInt := by rw [← e_143, q_u_ne (sh_ne_a (hw1).1.2.2 (waLand_18 (I := I0) (L := L0) hw).2.2)]
  have k_148 : TokOK I_142 x1 := k_141.fr (by rw [← e_143]; exact q_u_ne (by omega)) (by rw [← e_143]; exact q_u_ne (by omega))
  have g_149 : (0 : Int) ≤ (I_142 o 3).toInt ∧ (I_142 o 3).toInt ≤ 5 := hR_144.at0 ra 3 (by decide)
  replace hg := gt_let (y := (I_142 o 3).toInt) rfl hg
  have l_150 : (13 : Int32).toInt = 13 := rfl
  have l_151 : (99 : Int32).toInt = 99 := rfl
  refine y_Tape_takeNumberBehindg hok hw1 ra1 (by first | omega | (intro h; omega) | exact Or.inl rfl | exact Or.inr rfl) (by first | omega | (intro h; omega) | exact Or.inl rfl | exact Or.inr rfl) hR_144 (fun r_152 I_158 L_159 hR_160 fr_161 u_153 u_154 u_155 gn_156 ln_157 => ⟨r_152, I_158, L_159, rfl, rfl, ?_⟩)
  replace hl := hl.call ln_157 (fun c hc => by first | exact hc | exact False.elim hc | (dsimp only at hc ⊢; omega) | omega)
  replace hg := gt_b3 gn_156 hg
  clear gn_156
  have hf_162 : Fm (fun c => (o ≤ c ∧ c < o + 16) ∨ c = x1) I0 I_158 := hf_145.call fr_161 (fun c hc => by first | exact hc | (dsimp only at hc ⊢; omega) | omega)
  have t_163 : (I_158 o 3).toInt = (I_142 o 3).toInt := by rw [fr_161 o (by first | omega | (dsimp only; omega))]
  have g_164 : (0 : Int) ≤ (I_158 x1 7).toInt ∧ (I_158 x1 7).toInt ≤ 5 := hR_160.at0 ra1 7 (by decide)
  have k_165 : TokOK I_158 x1 := k_148.fr (fr_161 _ (by first | omega | (dsimp only; omega))) (fr_161 _ (by first | omega | (dsimp only; omega)))
  refine ⟨tIn (by omega) (by omega), fun I_166 e_167 => ?_⟩
  replace hg := gt_let (y := tI I_166) (tI_q e_167) hg
  have hR_168 : RI R I_166 := hR_160.up ra 15 (by decide) (Or.inl rfl) e_167 (i_lo _) (i_hi _)
  have hf_169 : Fm (fun c => (o ≤ c ∧ c < o + 16) ∨ c = x1) I0 I_166 := hf_162.set (by first | rfl | omega | (dsimp only; omega)) e_167
  have t_170 : (I_166 o 3).toInt = (I_158 o 3).toInt := by rw [← e_167, q_u_ne (by omega)]
  have t_171 : (I_166 x1 7).toInt = (I_158 x1 7).toInt := by rw [← e_167, q_u_ne (sh_ne_a (hw1).1.2.2 (waLand_19 (I := I0) (L := L0) hw).2.2)]
  have k_172 : TokOK I_166 x1 := k_165.fr (by rw [← e_167]; exact q_u_ne (by omega)) (by rw [← e_167]; exact q_u_ne (by omega))
  refine y_Tape_closeLineg hok hw1 ra1 hR_168 (fun r_173 I_179 L_180 hR_181 fr_182 u_174 u_175 u_176 gn_177 ln_178 => ⟨r_173, I_179, L_180, rfl, rfl, ?_⟩)
  replace hl := hl.call ln_178 (fun c hc => by first | exact hc | exact False.elim hc | (dsimp only at hc ⊢; omega) | omega)
  replace hg := gt_b3 gn_177 hg
  clear gn_177
  have hf_183 : Fm (fun c => (o ≤ c ∧ c < o + 16) ∨ c = x1) I0 I_179 := hf_169.call fr_182 (fun c hc => by first | exact hc | (dsimp only at hc ⊢; omega) | omega)
  have t_184 : (I_179 o 3).toInt = (I_166 o 3).toInt := by rw [fr_182 o (by first | omega | (dsimp only; omega))]
  have g_185 : (0 : Int) ≤ (I_179 x1 7).toInt ∧ (I_179 x1 7).toInt ≤ 5 := hR_181.at0 ra1 7 (by decide)
  have k_186 : TokOK I_179 x1 := k_172.fr (fr_182 _ (by first | omega | (dsimp only; omega))) (fr_182 _ (by first | omega | (dsimp only; omega)))
  have b_187 : 0 ≤ r_173.toInt ∧ r_173.toInt ≤ 1 := u_174.rg
  refine ⟨fun c_188 => ?_, fun c_188 => ?_⟩
  · have d_189 := iNe c_188
    replace hg := gt_neg (by first | exact d_189 | omega) hg
    have g_190 : (0 : Int) ≤ (I_179 o 3).toInt ∧ (I_179 o 3).toInt ≤ 5 := hR_181.at0 ra 3 (by decide)
    replace hg := gt_let (y := (I_179 o 3).toInt) rfl hg
    have a_191 : ((I_179 o 3) + 1).toInt = (I_179 o 3).toInt + (1 : Int32).toInt := tAdd (by omega) (by omega)
    replace hg := gt_let (y := (((I_179 o 3) + 1) : Int32).toInt) (by omega) hg
    refine fun I_192 e_193 => ?_
    replace hg := gt_let (y := tI I_192) (tI_q e_193) hg
    have hR_194 : RI R I_192 := hR_181.up0 (k := 3) ra (by decide) (Or.inl rfl) e_193 (show (0 : Int) ≤ ((I_179 o 3) + 1).toInt by omega) (show ((I_179 o 3) + 1).toInt ≤ (5 : Int) by omega)
    have hf_195 : Fm (fun c => (o ≤ c ∧ c < o + 16) ∨ c = x1) I0 I_192 := hf_183.set (by first | rfl | omega | (dsimp only; omega)) e_193
    have t_196 : (I_192 o 3).toInt = ((I_179 o 3) + 1).toInt := by rw [← e_193, q_u_at]
    have t_197 : (I_192 x1 7).toInt = (I_179 x1 7).toInt := by rw [← e_193, q_u_ne (sh_ne_o (hw1).1.2.2 (hw).1.2.2 (by decide))]
    have k_198 : TokOK I_192 x1 := k_186.fr (by rw [← e_193]; exact q_u_ne (by omega)) (by rw [← e_193]; exact q_u_ne (by omega))
    exact (hp _ _ _ hR_194 hf_195 (Or.inr rfl) hg.symm hl)
  · have d_199 := iEq c_188
    replace hg := gt_pos (by first | exact d_199 | omega) hg
    exact (hp _ _ _ hR_181 hf_183 (Or.inl rfl) hg.symm hl)
noncomputable def gLand_readLine_67 (o x1 : Nat) (J : gJ) (L : gL) : Int × gJ × gL := gLet (gTape_isWord_0 x1 J L 8) (fun (r_1 : Int) => (if r_1 = 0 then gB3 (gTape_refuse_0 x1 J L 2) (fun r_2 J_3 L_4 => (0, J_3, L_4)) else gLet (J o 3) (fun (v_5 : Int) => (if 5 ≤ v_5 then gB3 (gTape_refuse_0 x1 J L 2) (fun r_6 J_7 L_8 => (0, J_7, L_8)) else gB3 (gLand_readTown_0 o x1 J L) (fun r_9 J_10 L_11 => (r_9, J_10, L_11))))))
theorem eLand_readLine_67 {o x1 : Nat} {J : gJ} {L : gL} : gLand_readLine_67 o x1 J L  = gLet (gTape_isWord_0 x1 J L 8) (fun (r_1 : Int) => (if r_1 = 0 then gB3 (gTape_refuse_0 x1 J L 2) (fun r_2 J_3 L_4 => (0, J_3, L_4)) else gLet (J o 3) (fun (v_5 : Int) => (if 5 ≤ v_5 then gB3 (gTape_refuse_0 x1 J L 2) (fun r_6 J_7 L_8 => (0, J_7, L_8)) else gB3 (gLand_readTown_0 o x1 J L) (fun r_9 J_10 L_11 => (r_9, J_10, L_11)))))) := rfl
noncomputable def gLand_readLine_45 (o x1 : Nat) (J : gJ) (L : gL) : Int × gJ × gL := gLet (gTape_isWord_0 x1 J L 5) (fun (r_1 : Int) => (if r_1 = 0 then (gLand_readLine_67 o x1 J L ) else gLet (J o 2) (fun (v_2 : Int) => (if 3 ≤ v_2 then (gLand_readLine_67 o x1 J L ) else gB3 (gLand_readPan_0 o x1 J L) (fun r_3 J_4 L_5 => (r_3, J_4, L_5))))))
theorem eLand_readLine_45 {o x1 : Nat} {J : gJ} {L : gL} : gLand_readLine_45 o x1 J L  = gLet (gTape_isWord_0 x1 J L 5) (fun (r_1 : Int) => (if r_1 = 0 then (gLand_readLine_67 o x1 J L ) else gLet (J o 2) (fun (v_2 : Int) => (if 3 ≤ v_2 then (gLand_readLine_67 o x1 J L ) else gB3 (gLand_readPan_0 o x1 J L) (fun r_3 J_4 L_5 => (r_3, J_4, L_5)))))) := rfl
noncomputable def gLand_readLine_23 (o x1 : Nat) (J : gJ) (L : gL) : Int × gJ × gL := gLet (gTape_isWord_0 x1 J L 1) (fun (r_1 : Int) => (if r_1 = 0 then (gLand_readLine_45 o x1 J L ) else gLet (J o 1) (fun (v_2 : Int) => (if 3 ≤ v_2 then (gLand_readLine_45 o x1 J L ) else gB3 (gLand_readFort_0 o x1 J L) (fun r_3 J_4 L_5 => (r_3, J_4, L_5))))))
theorem eLand_readLine_23 {o x1 : Nat} {J : gJ} {L : gL} : gLand_readLine_23 o x1 J L  = gLet (gTape_isWord_0 x1 J L 1) (fun (r_1 : Int) => (if r_1 = 0 then (gLand_readLine_45 o x1 J L ) else gLet (J o 1) (fun (v_2 : Int) => (if 3 ≤ v_2 then (gLand_readLine_45 o x1 J L ) else gB3 (gLand_readFort_0 o x1 J L) (fun r_3 J_4 L_5 => (r_3, J_4, L_5)))))) := rfl
noncomputable def gLand_readLine_0 (o x1 : Nat) (J : gJ) (L : gL) : Int × gJ × gL := gLet (gTape_isWord_0 x1 J L 0) (fun (r_1 : Int) => (if r_1 = 0 then (gLand_readLine_23 o x1 J L ) else gLet (J o 0) (fun (v_2 : Int) => (if 24 ≤ v_2 then (gLand_readLine_23 o x1 J L ) else gB3 (gLand_readRoad_0 o x1 J L) (fun r_3 J_4 L_5 => (r_3, J_4, L_5))))))
theorem eLand_readLine_0 {o x1 : Nat} {J : gJ} {L : gL} : gLand_readLine_0 o x1 J L  = gLet (gTape_isWord_0 x1 J L 0) (fun (r_1 : Int) => (if r_1 = 0 then (gLand_readLine_23 o x1 J L ) else gLet (J o 0) (fun (v_2 : Int) => (if 24 ≤ v_2 then (gLand_readLine_23 o x1 J L ) else gB3 (gLand_readRoad_0 o x1 J L) (fun r_3 J_4 L_5 => (r_3, J_4, L_5)))))) := rfl
set_option maxHeartbeats 4000000 in
set_option maxRecDepth 20000 in
theorem y_Land_readLineg {D : va_G} {cA : FieldType → ClassId} {b : Nat} {E : State → Prop} {R : qRg} {o n : Nat} {sh : Nat → qC} {Rf : Nat → Nat → Option Nat} {I0 : Nat → Nat → Int32} {L0 : Nat → Nat → Int64} {post : Option Value → qS → Prop} {x1 : Nat} (hok : q_ok (qGG D cA b E)) (hw : WfLand (qGG D cA b E) n sh Rf o) (ra : RALand R o) (hw1 : WfTape (qGG D cA b E) n sh Rf x1) (ra1 : RATape R x1) (hs0 : o + 16 ≤ x1 ∨ x1 + 7 ≤ o) (hq0 : TokOK I0 x1) (hR : RI R I0) (hp : ∀ (r : Int32) (I' : Nat → Nat → Int32) (L' : Nat → Nat → Int64), RI R I' → Fm (fun c => (o ≤ c ∧ c < o + 16) ∨ c = x1) I0 I' → (Bz r) → (gLand_readLine_0 o x1 (tI I0) L0 = (r.toInt, tI I', L')) → (FmL (fun c => c = (o + 1)) L0 L') → post (some (.int r)) (n, sh, Rf, I', L')) : Ev (qGG D cA b E) mLand_readLine 4 (0, 0) 0 (lv_args 0 [.ref o, .ref x1]) [] (n, sh, Rf, I0, L0) post := by
  have hf : Fm (fun c => (o ≤ c ∧ c < o + 16) ∨ c = x1) I0 I0 := Fm.rf
  refine sLand_readLine_0 o n sh Rf I0 L0 post x1 hok hw hw1 ?_
  unfold fLand_readLine_0
  have hl : FmL (fun c => c = (o + 1)) L0 L0 := FmL.rf
  have hg : gLand_readLine_0 o x1 (tI I0) L0 = gLand_readLine_0 o x1 (tI I0) L0 := rfl
  replace hg := (eLand_readLine_0).symm.trans hg
  have l_1 : (0 : Int32).toInt = 0 := rfl
  refine y_Tape_isWordg hok hw1 ra1 hR (fun r_2 u_3 gn_4 => ⟨r_2, I0, L0, rfl, rfl, ?_⟩)
  replace hg := gt_let gn_4 hg
  clear gn_4
  have b_5 : 0 ≤ r_2.toInt ∧ r_2.toInt ≤ 1 := u_3.rg
  refine ⟨fun c_6 => ?_, fun c_6 => ?_⟩
  · have d_7 := iEq c_6
    replace hg := gt_pos (by first | exact d_7 | omega) hg
    unfold fLand_readLine_23
    replace hg := (eLand_readLine_23).symm.trans hg
    have l_8 : (1 : Int32).toInt = 1 := rfl
    refine y_Tape_isWordg hok hw1 ra1 hR (fun r_9 u_10 gn_11 => ⟨r_9, I0, L0, rfl, rfl, ?_⟩)
    replace hg := gt_let gn_11 hg
    clear gn_11
    have b_12 : 0 ≤ r_9.toInt ∧ r_9.toInt ≤ 1 := u_10.rg
    refine ⟨fun c_13 => ?_, fun c_13 => ?_⟩
    · have d_14 := iEq c_13
      replace hg := gt_pos (by first | exact d_14 | omega) hg
      unfold fLand_readLine_45
      replace hg := (eLand_readLine_45).symm.trans hg
      have l_15 : (5 : Int32).toInt = 5 := rfl
      refine y_Tape_isWordg hok hw1 ra1 hR (fun r_16 u_17 gn_18 => ⟨r_16, I0, L0, rfl, rfl, ?_⟩)
      replace hg := gt_let gn_18 hg
      clear gn_18
      have b_19 : 0 ≤ r_16.toInt ∧ r_16.toInt ≤ 1 := u_17.rg
      refine ⟨fun c_20 => ?_, fun c_20 => ?_⟩
      · have d_21 := iEq c_20
        replace hg := gt_pos (by first | exact d_21 | omega) hg
        unfold fLand_readLine_67
        replace hg := (eLand_readLine_67).symm.trans hg
        have l_22 : (8 : Int32).toInt = 8 := rfl
        refine y_Tape_isWordg hok hw1 ra1 hR (fun r_23 u_24 gn_25 => ⟨r_23, I0, L0, rfl, rfl, ?_⟩)
        replace hg := gt_let gn_25 hg
        clear gn_25
        have b_26 : 0 ≤ r_23.toInt ∧ r_23.toInt ≤ 1 := u_24.rg
        refine ⟨fun c_27 => ?_, fun c_27 => ?_⟩
        · have d_28 := iEq c_27
          replace hg := gt_pos (by first | exact d_28 | omega) hg
          have l_29 : (2 : Int32).toInt = 2 := rfl
          refine y_Tape_refuseg hok hw1 ra1 (by first | omega | (intro h; omega) | exact Or.inl rfl | exact Or.inr rfl) hR (fun I_35 L_36 hR_37 fr_38 u_31 u_32 gn_33 ln_34 => ⟨I_35, L_36, rfl, rfl, ?_⟩)
          replace hl := hl.call ln_34 (fun c hc => by first | exact hc | exact False.elim hc | (dsimp only at hc ⊢; omega) | omega)
          replace hg := gt_b3 gn_33 hg
          clear gn_33
          have hf_39 : Fm (fun c => (o ≤ c ∧ c < o + 16) ∨ c = x1) I0 I_35 := hf.call fr_38 (fun c hc => by first | exact hc | (dsimp only at hc ⊢; omega) | omega)
          have k_40 : TokOK I_35 x1 := hq0.fr (fr_38 _ (by first | omega | (dsimp only; omega))) (fr_38 _ (by first | omega | (dsimp only; omega)))
          exact (hp _ _ _ hR_37 hf_39 (Or.inl rfl) hg.symm hl)
        · have d_41 := iNe c_27
          replace hg := gt_neg (by first | exact d_41 | omega) hg
          have g_42 : (0 : Int) ≤ (I0 o 3).toInt ∧ (I0 o 3).toInt ≤ 5 := hR.at0 ra 3 (by decide)
          replace hg := gt_let (y := (I0 o 3).toInt) rfl hg
          refine ⟨fun c_43 => ?_, fun c_43 => ?_⟩
          · have d_44 := iLe c_43
            replace hg := gt_pos (by first | exact d_44 | omega) hg
            have l_45 : (2 : Int32).toInt = 2 := rfl
            refine y_Tape_refuseg hok hw1 ra1 (by first | omega | (intro h; omega) | exact Or.inl rfl | exact Or.inr rfl) hR (fun I_51 L_52 hR_53 fr_54 u_47 u_48 gn_49 ln_50 => ⟨I_51, L_52, rfl, rfl, ?_⟩)
            replace hl := hl.call ln_50 (fun c hc => by first | exact hc | exact False.elim hc | (dsimp only at hc ⊢; omega) | omega)
            replace hg := gt_b3 gn_49 hg
            clear gn_49
            have hf_55 : Fm (fun c => (o ≤ c ∧ c < o + 16) ∨ c = x1) I0 I_51 := hf.call fr_54 (fun c hc => by first | exact hc | (dsimp only at hc ⊢; omega) | omega)
            have t_56 : (I_51 o 3).toInt = (I0 o 3).toInt := by rw [fr_54 o (by first | omega | (dsimp only; omega))]
            have k_57 : TokOK I_51 x1 := hq0.fr (fr_54 _ (by first | omega | (dsimp only; omega))) (fr_54 _ (by first | omega | (dsimp only; omega)))
            exact (hp _ _ _ hR_53 hf_55 (Or.inl rfl) hg.symm hl)
          · have d_58 := iNle c_43
            replace hg := gt_neg (by first | exact d_58 | omega) hg
            refine y_Land_readTowng hok hw ra hw1 ra1 (by first | omega | (intro h; omega) | exact Or.inl rfl | exact Or.inr rfl) (by first | omega | (intro h; omega) | exact Or.inl rfl | exact Or.inr rfl) hq0 hR (fun r_59 I_63 L_64 hR_65 fr_66 u_60 gn_61 ln_62 => ⟨r_59, I_63, L_64, rfl, rfl, ?_⟩)
            replace hl := hl.call ln_62 (fun c hc => by first | exact hc | exact False.elim hc | (dsimp only at hc ⊢; omega) | omega)
            replace hg := gt_b3 gn_61 hg
            clear gn_61
            have hf_67 : Fm (fun c => (o ≤ c ∧ c < o + 16) ∨ c = x1) I0 I_63 := hf.call fr_66 (fun c hc => by first | exact hc | (dsimp only at hc ⊢; omega) | omega)
            have g_68 : (0 : Int) ≤ (I_63 o 3).toInt ∧ (I_63 o 3).toInt ≤ 5 := hR_65.at0 ra 3 (by decide)
            have k_69 : TokOK I_63 x1 := hq0.fr (fr_66 _ (by first | omega | (dsimp only; omega))) (fr_66 _ (by first | omega | (dsimp only; omega)))
            have b_70 : 0 ≤ r_59.toInt ∧ r_59.toInt ≤ 1 := u_60.rg
            exact ⟨u_60, (hp _ _ _ hR_65 hf_67 (u_60) hg.symm hl)⟩
      · have d_71 := iNe c_20
        replace hg := gt_neg (by first | exact d_71 | omega) hg
        have g_72 : (0 : Int) ≤ (I0 o 2).toInt ∧ (I0 o 2).toInt ≤ 3 := hR.at0 ra 2 (by decide)
        replace hg := gt_let (y := (I0 o 2).toInt) rfl hg
        have l_73 : (3 : Int32).toInt = 3 := rfl
        refine ⟨fun c_74 => ?_, fun c_74 => ?_⟩
        · have d_75 := iLe c_74
          replace hg := gt_pos (by first | exact d_75 | omega) hg
          unfold fLand_readLine_67
          replace hg := (eLand_readLine_67).symm.trans hg
          have l_76 : (8 : Int32).toInt = 8 := rfl
          refine y_Tape_isWordg hok hw1 ra1 hR (fun r_77 u_78 gn_79 => ⟨r_77, I0, L0, rfl, rfl, ?_⟩)
          replace hg := gt_let gn_79 hg
          clear gn_79
          have b_80 : 0 ≤ r_77.toInt ∧ r_77.toInt ≤ 1 := u_78.rg
          refine ⟨fun c_81 => ?_, fun c_81 => ?_⟩
          · have d_82 := iEq c_81
            replace hg := gt_pos (by first | exact d_82 | omega) hg
            have l_83 : (2 : Int32).toInt = 2 := rfl
            refine y_Tape_refuseg hok hw1 ra1 (by first | omega | (intro h; omega) | exact Or.inl rfl | exact Or.inr rfl) hR (fun I_89 L_90 hR_91 fr_92 u_85 u_86 gn_87 ln_88 => ⟨I_89, L_90, rfl, rfl, ?_⟩)
            replace hl := hl.call ln_88 (fun c hc => by first | exact hc | exact False.elim hc | (dsimp only at hc ⊢; omega) | omega)
            replace hg := gt_b3 gn_87 hg
            clear gn_87
            have hf_93 : Fm (fun c => (o ≤ c ∧ c < o + 16) ∨ c = x1) I0 I_89 := hf.call fr_92 (fun c hc => by first | exact hc | (dsimp only at hc ⊢; omega) | omega)
            have t_94 : (I_89 o 2).toInt = (I0 o 2).toInt := by rw [fr_92 o (by first | omega | (dsimp only; omega))]
            have k_95 : TokOK I_89 x1 := hq0.fr (fr_92 _ (by first | omega | (dsimp only; omega))) (fr_92 _ (by first | omega | (dsimp only; omega)))
            exact (hp _ _ _ hR_91 hf_93 (Or.inl rfl) hg.symm hl)
          · have d_96 := iNe c_81
            replace hg := gt_neg (by first | exact d_96 | omega) hg
            have g_97 : (0 : Int) ≤ (I0 o 3).toInt ∧ (I0 o 3).toInt ≤ 5 := hR.at0 ra 3 (by decide)
            replace hg := gt_let (y := (I0 o 3).toInt) rfl hg
            refine ⟨fun c_98 => ?_, fun c_98 => ?_⟩
            · have d_99 := iLe c_98
              replace hg := gt_pos (by first | exact d_99 | omega) hg
              have l_100 : (2 : Int32).toInt = 2 := rfl
              refine y_Tape_refuseg hok hw1 ra1 (by first | omega | (intro h; omega) | exact Or.inl rfl | exact Or.inr rfl) hR (fun I_106 L_107 hR_108 fr_109 u_102 u_103 gn_104 ln_105 => ⟨I_106, L_107, rfl, rfl, ?_⟩)
              replace hl := hl.call ln_105 (fun c hc => by first | exact hc | exact False.elim hc | (dsimp only at hc ⊢; omega) | omega)
              replace hg := gt_b3 gn_104 hg
              clear gn_104
              have hf_110 : Fm (fun c => (o ≤ c ∧ c < o + 16) ∨ c = x1) I0 I_106 := hf.call fr_109 (fun c hc => by first | exact hc | (dsimp only at hc ⊢; omega) | omega)
              have t_111 : (I_106 o 2).toInt = (I0 o 2).toInt := by rw [fr_109 o (by first | omega | (dsimp only; omega))]
              have t_112 : (I_106 o 3).toInt = (I0 o 3).toInt := by rw [fr_109 o (by first | omega | (dsimp only; omega))]
              have k_113 : TokOK I_106 x1 := hq0.fr (fr_109 _ (by first | omega | (dsimp only; omega))) (fr_109 _ (by first | omega | (dsimp only; omega)))
              exact (hp _ _ _ hR_108 hf_110 (Or.inl rfl) hg.symm hl)
            · have d_114 := iNle c_98
              replace hg := gt_neg (by first | exact d_114 | omega) hg
              refine y_Land_readTowng hok hw ra hw1 ra1 (by first | omega | (intro h; omega) | exact Or.inl rfl | exact Or.inr rfl) (by first | omega | (intro h; omega) | exact Or.inl rfl | exact Or.inr rfl) hq0 hR (fun r_115 I_119 L_120 hR_121 fr_122 u_116 gn_117 ln_118 => ⟨r_115, I_119, L_120, rfl, rfl, ?_⟩)
              replace hl := hl.call ln_118 (fun c hc => by first | exact hc | exact False.elim hc | (dsimp only at hc ⊢; omega) | omega)
              replace hg := gt_b3 gn_117 hg
              clear gn_117
              have hf_123 : Fm (fun c => (o ≤ c ∧ c < o + 16) ∨ c = x1) I0 I_119 := hf.call fr_122 (fun c hc => by first | exact hc | (dsimp only at hc ⊢; omega) | omega)
              have g_124 : (0 : Int) ≤ (I_119 o 2).toInt ∧ (I_119 o 2).toInt ≤ 3 := hR_121.at0 ra 2 (by decide)
              have g_125 : (0 : Int) ≤ (I_119 o 3).toInt ∧ (I_119 o 3).toInt ≤ 5 := hR_121.at0 ra 3 (by decide)
              have k_126 : TokOK I_119 x1 := hq0.fr (fr_122 _ (by first | omega | (dsimp only; omega))) (fr_122 _ (by first | omega | (dsimp only; omega)))
              have b_127 : 0 ≤ r_115.toInt ∧ r_115.toInt ≤ 1 := u_116.rg
              exact ⟨u_116, (hp _ _ _ hR_121 hf_123 (u_116) hg.symm hl)⟩
        · have d_128 := iNle c_74
          replace hg := gt_neg (by first | exact d_128 | omega) hg
          refine y_Land_readPang hok hw ra hw1 ra1 (by first | omega | (intro h; omega) | exact Or.inl rfl | exact Or.inr rfl) (by first | omega | (intro h; omega) | exact Or.inl rfl | exact Or.inr rfl) hq0 hR (fun r_129 I_133 L_134 hR_135 fr_136 u_130 gn_131 ln_132 => ⟨r_129, I_133, L_134, rfl, rfl, ?_⟩)
          replace hl := hl.call ln_132 (fun c hc => by first | exact hc | exact False.elim hc | (dsimp only at hc ⊢; omega) | omega)
          replace hg := gt_b3 gn_131 hg
          clear gn_131
          have hf_137 : Fm (fun c => (o ≤ c ∧ c < o + 16) ∨ c = x1) I0 I_133 := hf.call fr_136 (fun c hc => by first | exact hc | (dsimp only at hc ⊢; omega) | omega)
          have g_138 : (0 : Int) ≤ (I_133 o 2).toInt ∧ (I_133 o 2).toInt ≤ 3 := hR_135.at0 ra 2 (by decide)
          have k_139 : TokOK I_133 x1 := hq0.fr (fr_136 _ (by first | omega | (dsimp only; omega))) (fr_136 _ (by first | omega | (dsimp only; omega)))
          have b_140 : 0 ≤ r_129.toInt ∧ r_129.toInt ≤ 1 := u_130.rg
          exact ⟨u_130, (hp _ _ _ hR_135 hf_137 (u_130) hg.symm hl)⟩
    · have d_141 := iNe c_13
      replace hg := gt_neg (by first | exact d_141 | omega) hg
      have g_142 : (0 : Int) ≤ (I0 o 1).toInt ∧ (I0 o 1).toInt ≤ 3 := hR.at0 ra 1 (by decide)
      replace hg := gt_let (y := (I0 o 1).toInt) rfl hg
      have l_143 : (3 : Int32).toInt = 3 := rfl
      refine ⟨fun c_144 => ?_, fun c_144 => ?_⟩
      · have d_145 := iLe c_144
        replace hg := gt_pos (by first | exact d_145 | omega) hg
        unfold fLand_readLine_45
        replace hg := (eLand_readLine_45).symm.trans hg
        have l_146 : (5 : Int32).toInt = 5 := rfl
        refine y_Tape_isWordg hok hw1 ra1 hR (fun r_147 u_148 gn_149 => ⟨r_147, I0, L0, rfl, rfl, ?_⟩)
        replace hg := gt_let gn_149 hg
        clear gn_149
        have b_150 : 0 ≤ r_147.toInt ∧ r_147.toInt ≤ 1 := u_148.rg
        refine ⟨fun c_151 => ?_, fun c_151 => ?_⟩
        · have d_152 := iEq c_151
          replace hg := gt_pos (by first | exact d_152 | omega) hg
          unfold fLand_readLine_67
          replace hg := (eLand_readLine_67).symm.trans hg
          have l_153 : (8 : Int32).toInt = 8 := rfl
          refine y_Tape_isWordg hok hw1 ra1 hR (fun r_154 u_155 gn_156 => ⟨r_154, I0, L0, rfl, rfl, ?_⟩)
          replace hg := gt_let gn_156 hg
          clear gn_156
          have b_157 : 0 ≤ r_154.toInt ∧ r_154.toInt ≤ 1 := u_155.rg
          refine ⟨fun c_158 => ?_, fun c_158 => ?_⟩
          · have d_159 := iEq c_158
            replace hg := gt_pos (by first | exact d_159 | omega) hg
            have l_160 : (2 : Int32).toInt = 2 := rfl
            refine y_Tape_refuseg hok hw1 ra1 (by first | omega | (intro h; omega) | exact Or.inl rfl | exact Or.inr rfl) hR (fun I_166 L_167 hR_168 fr_169 u_162 u_163 gn_164 ln_165 => ⟨I_166, L_167, rfl, rfl, ?_⟩)
            replace hl := hl.call ln_165 (fun c hc => by first | exact hc | exact False.elim hc | (dsimp only at hc ⊢; omega) | omega)
            replace hg := gt_b3 gn_164 hg
            clear gn_164
            have hf_170 : Fm (fun c => (o ≤ c ∧ c < o + 16) ∨ c = x1) I0 I_166 := hf.call fr_169 (fun c hc => by first | exact hc | (dsimp only at hc ⊢; omega) | omega)
            have t_171 : (I_166 o 1).toInt = (I0 o 1).toInt := by rw [fr_169 o (by first | omega | (dsimp only; omega))]
            have k_172 : TokOK I_166 x1 := hq0.fr (fr_169 _ (by first | omega | (dsimp only; omega))) (fr_169 _ (by first | omega | (dsimp only; omega)))
            exact (hp _ _ _ hR_168 hf_170 (Or.inl rfl) hg.symm hl)
          · have d_173 := iNe c_158
            replace hg := gt_neg (by first | exact d_173 | omega) hg
            have g_174 : (0 : Int) ≤ (I0 o 3).toInt ∧ (I0 o 3).toInt ≤ 5 := hR.at0 ra 3 (by decide)
            replace hg := gt_let (y := (I0 o 3).toInt) rfl hg
            refine ⟨fun c_175 => ?_, fun c_175 => ?_⟩
            · have d_176 := iLe c_175
              replace hg := gt_pos (by first | exact d_176 | omega) hg
              have l_177 : (2 : Int32).toInt = 2 := rfl
              refine y_Tape_refuseg hok hw1 ra1 (by first | omega | (intro h; omega) | exact Or.inl rfl | exact Or.inr rfl) hR (fun I_183 L_184 hR_185 fr_186 u_179 u_180 gn_181 ln_182 => ⟨I_183, L_184, rfl, rfl, ?_⟩)
              replace hl := hl.call ln_182 (fun c hc => by first | exact hc | exact False.elim hc | (dsimp only at hc ⊢; omega) | omega)
              replace hg := gt_b3 gn_181 hg
              clear gn_181
              have hf_187 : Fm (fun c => (o ≤ c ∧ c < o + 16) ∨ c = x1) I0 I_183 := hf.call fr_186 (fun c hc => by first | exact hc | (dsimp only at hc ⊢; omega) | omega)
              have t_188 : (I_183 o 1).toInt = (I0 o 1).toInt := by rw [fr_186 o (by first | omega | (dsimp only; omega))]
              have t_189 : (I_183 o 3).toInt = (I0 o 3).toInt := by rw [fr_186 o (by first | omega | (dsimp only; omega))]
              have k_190 : TokOK I_183 x1 := hq0.fr (fr_186 _ (by first | omega | (dsimp only; omega))) (fr_186 _ (by first | omega | (dsimp only; omega)))
              exact (hp _ _ _ hR_185 hf_187 (Or.inl rfl) hg.symm hl)
            · have d_191 := iNle c_175
              replace hg := gt_neg (by first | exact d_191 | omega) hg
              refine y_Land_readTowng hok hw ra hw1 ra1 (by first | omega | (intro h; omega) | exact Or.inl rfl | exact Or.inr rfl) (by first | omega | (intro h; omega) | exact Or.inl rfl | exact Or.inr rfl) hq0 hR (fun r_192 I_196 L_197 hR_198 fr_199 u_193 gn_194 ln_195 => ⟨r_192, I_196, L_197, rfl, rfl, ?_⟩)
              replace hl := hl.call ln_195 (fun c hc => by first | exact hc | exact False.elim hc | (dsimp only at hc ⊢; omega) | omega)
              replace hg := gt_b3 gn_194 hg
              clear gn_194
              have hf_200 : Fm (fun c => (o ≤ c ∧ c < o + 16) ∨ c = x1) I0 I_196 := hf.call fr_199 (fun c hc => by first | exact hc | (dsimp only at hc ⊢; omega) | omega)
              have g_201 : (0 : Int) ≤ (I_196 o 1).toInt ∧ (I_196 o 1).toInt ≤ 3 := hR_198.at0 ra 1 (by decide)
              have g_202 : (0 : Int) ≤ (I_196 o 3).toInt ∧ (I_196 o 3).toInt ≤ 5 := hR_198.at0 ra 3 (by decide)
              have k_203 : TokOK I_196 x1 := hq0.fr (fr_199 _ (by first | omega | (dsimp only; omega))) (fr_199 _ (by first | omega | (dsimp only; omega)))
              have b_204 : 0 ≤ r_192.toInt ∧ r_192.toInt ≤ 1 := u_193.rg
              exact ⟨u_193, (hp _ _ _ hR_198 hf_200 (u_193) hg.symm hl)⟩
        · have d_205 := iNe c_151
          replace hg := gt_neg (by first | exact d_205 | omega) hg
          have g_206 : (0 : Int) ≤ (I0 o 2).toInt ∧ (I0 o 2).toInt ≤ 3 := hR.at0 ra 2 (by decide)
          replace hg := gt_let (y := (I0 o 2).toInt) rfl hg
          refine ⟨fun c_207 => ?_, fun c_207 => ?_⟩
          · have d_208 := iLe c_207
            replace hg := gt_pos (by first | exact d_208 | omega) hg
            unfold fLand_readLine_67
            replace hg := (eLand_readLine_67).symm.trans hg
            have l_209 : (8 : Int32).toInt = 8 := rfl
            refine y_Tape_isWordg hok hw1 ra1 hR (fun r_210 u_211 gn_212 => ⟨r_210, I0, L0, rfl, rfl, ?_⟩)
            replace hg := gt_let gn_212 hg
            clear gn_212
            have b_213 : 0 ≤ r_210.toInt ∧ r_210.toInt ≤ 1 := u_211.rg
            refine ⟨fun c_214 => ?_, fun c_214 => ?_⟩
            · have d_215 := iEq c_214
              replace hg := gt_pos (by first | exact d_215 | omega) hg
              have l_216 : (2 : Int32).toInt = 2 := rfl
              refine y_Tape_refuseg hok hw1 ra1 (by first | omega | (intro h; omega) | exact Or.inl rfl | exact Or.inr rfl) hR (fun I_222 L_223 hR_224 fr_225 u_218 u_219 gn_220 ln_221 => ⟨I_222, L_223, rfl, rfl, ?_⟩)
              replace hl := hl.call ln_221 (fun c hc => by first | exact hc | exact False.elim hc | (dsimp only at hc ⊢; omega) | omega)
              replace hg := gt_b3 gn_220 hg
              clear gn_220
              have hf_226 : Fm (fun c => (o ≤ c ∧ c < o + 16) ∨ c = x1) I0 I_222 := hf.call fr_225 (fun c hc => by first | exact hc | (dsimp only at hc ⊢; omega) | omega)
              have t_227 : (I_222 o 1).toInt = (I0 o 1).toInt := by rw [fr_225 o (by first | omega | (dsimp only; omega))]
              have t_228 : (I_222 o 2).toInt = (I0 o 2).toInt := by rw [fr_225 o (by first | omega | (dsimp only; omega))]
              have k_229 : TokOK I_222 x1 := hq0.fr (fr_225 _ (by first | omega | (dsimp only; omega))) (fr_225 _ (by first | omega | (dsimp only; omega)))
              exact (hp _ _ _ hR_224 hf_226 (Or.inl rfl) hg.symm hl)
            · have d_230 := iNe c_214
              replace hg := gt_neg (by first | exact d_230 | omega) hg
              have g_231 : (0 : Int) ≤ (I0 o 3).toInt ∧ (I0 o 3).toInt ≤ 5 := hR.at0 ra 3 (by decide)
              replace hg := gt_let (y := (I0 o 3).toInt) rfl hg
              refine ⟨fun c_232 => ?_, fun c_232 => ?_⟩
              · have d_233 := iLe c_232
                replace hg := gt_pos (by first | exact d_233 | omega) hg
                have l_234 : (2 : Int32).toInt = 2 := rfl
                refine y_Tape_refuseg hok hw1 ra1 (by first | omega | (intro h; omega) | exact Or.inl rfl | exact Or.inr rfl) hR (fun I_240 L_241 hR_242 fr_243 u_236 u_237 gn_238 ln_239 => ⟨I_240, L_241, rfl, rfl, ?_⟩)
                replace hl := hl.call ln_239 (fun c hc => by first | exact hc | exact False.elim hc | (dsimp only at hc ⊢; omega) | omega)
                replace hg := gt_b3 gn_238 hg
                clear gn_238
                have hf_244 : Fm (fun c => (o ≤ c ∧ c < o + 16) ∨ c = x1) I0 I_240 := hf.call fr_243 (fun c hc => by first | exact hc | (dsimp only at hc ⊢; omega) | omega)
                have t_245 : (I_240 o 1).toInt = (I0 o 1).toInt := by rw [fr_243 o (by first | omega | (dsimp only; omega))]
                have t_246 : (I_240 o 2).toInt = (I0 o 2).toInt := by rw [fr_243 o (by first | omega | (dsimp only; omega))]
                have t_247 : (I_240 o 3).toInt = (I0 o 3).toInt := by rw [fr_243 o (by first | omega | (dsimp only; omega))]
                have k_248 : TokOK I_240 x1 := hq0.fr (fr_243 _ (by first | omega | (dsimp only; omega))) (fr_243 _ (by first | omega | (dsimp only; omega)))
                exact (hp _ _ _ hR_242 hf_244 (Or.inl rfl) hg.symm hl)
              · have d_249 := iNle c_232
                replace hg := gt_neg (by first | exact d_249 | omega) hg
                refine y_Land_readTowng hok hw ra hw1 ra1 (by first | omega | (intro h; omega) | exact Or.inl rfl | exact Or.inr rfl) (by first | omega | (intro h; omega) | exact Or.inl rfl | exact Or.inr rfl) hq0 hR (fun r_250 I_254 L_255 hR_256 fr_257 u_251 gn_252 ln_253 => ⟨r_250, I_254, L_255, rfl, rfl, ?_⟩)
                replace hl := hl.call ln_253 (fun c hc => by first | exact hc | exact False.elim hc | (dsimp only at hc ⊢; omega) | omega)
                replace hg := gt_b3 gn_252 hg
                clear gn_252
                have hf_258 : Fm (fun c => (o ≤ c ∧ c < o + 16) ∨ c = x1) I0 I_254 := hf.call fr_257 (fun c hc => by first | exact hc | (dsimp only at hc ⊢; omega) | omega)
                have g_259 : (0 : Int) ≤ (I_254 o 1).toInt ∧ (I_254 o 1).toInt ≤ 3 := hR_256.at0 ra 1 (by decide)
                have g_260 : (0 : Int) ≤ (I_254 o 2).toInt ∧ (I_254 o 2).toInt ≤ 3 := hR_256.at0 ra 2 (by decide)
                have g_261 : (0 : Int) ≤ (I_254 o 3).toInt ∧ (I_254 o 3).toInt ≤ 5 := hR_256.at0 ra 3 (by decide)
                have k_262 : TokOK I_254 x1 := hq0.fr (fr_257 _ (by first | omega | (dsimp only; omega))) (fr_257 _ (by first | omega | (dsimp only; omega)))
                have b_263 : 0 ≤ r_250.toInt ∧ r_250.toInt ≤ 1 := u_251.rg
                exact ⟨u_251, (hp _ _ _ hR_256 hf_258 (u_251) hg.symm hl)⟩
          · have d_264 := iNle c_207
            replace hg := gt_neg (by first | exact d_264 | omega) hg
            refine y_Land_readPang hok hw ra hw1 ra1 (by first | omega | (intro h; omega) | exact Or.inl rfl | exact Or.inr rfl) (by first | omega | (intro h; omega) | exact Or.inl rfl | exact Or.inr rfl) hq0 hR (fun r_265 I_269 L_270 hR_271 fr_272 u_266 gn_267 ln_268 => ⟨r_265, I_269, L_270, rfl, rfl, ?_⟩)
            replace hl := hl.call ln_268 (fun c hc => by first | exact hc | exact False.elim hc | (dsimp only at hc ⊢; omega) | omega)
            replace hg := gt_b3 gn_267 hg
            clear gn_267
            have hf_273 : Fm (fun c => (o ≤ c ∧ c < o + 16) ∨ c = x1) I0 I_269 := hf.call fr_272 (fun c hc => by first | exact hc | (dsimp only at hc ⊢; omega) | omega)
            have g_274 : (0 : Int) ≤ (I_269 o 1).toInt ∧ (I_269 o 1).toInt ≤ 3 := hR_271.at0 ra 1 (by decide)
            have g_275 : (0 : Int) ≤ (I_269 o 2).toInt ∧ (I_269 o 2).toInt ≤ 3 := hR_271.at0 ra 2 (by decide)
            have k_276 : TokOK I_269 x1 := hq0.fr (fr_272 _ (by first | omega | (dsimp only; omega))) (fr_272 _ (by first | omega | (dsimp only; omega)))
            have b_277 : 0 ≤ r_265.toInt ∧ r_265.toInt ≤ 1 := u_266.rg
            exact ⟨u_266, (hp _ _ _ hR_271 hf_273 (u_266) hg.symm hl)⟩
      · have d_278 := iNle c_144
        replace hg := gt_neg (by first | exact d_278 | omega) hg
        refine y_Land_readFortg hok hw ra hw1 ra1 (by first | omega | (intro h; omega) | exact Or.inl rfl | exact Or.inr rfl) (by first | omega | (intro h; omega) | exact Or.inl rfl | exact Or.inr rfl) hq0 hR (fun r_279 I_283 L_284 hR_285 fr_286 u_280 gn_281 ln_282 => ⟨r_279, I_283, L_284, rfl, rfl, ?_⟩)
        replace hl := hl.call ln_282 (fun c hc => by first | exact hc | exact False.elim hc | (dsimp only at hc ⊢; omega) | omega)
        replace hg := gt_b3 gn_281 hg
        clear gn_281
        have hf_287 : Fm (fun c => (o ≤ c ∧ c < o + 16) ∨ c = x1) I0 I_283 := hf.call fr_286 (fun c hc => by first | exact hc | (dsimp only at hc ⊢; omega) | omega)
        have g_288 : (0 : Int) ≤ (I_283 o 1).toInt ∧ (I_283 o 1).toInt ≤ 3 := hR_285.at0 ra 1 (by decide)
        have k_289 : TokOK I_283 x1 := hq0.fr (fr_286 _ (by first | omega | (dsimp only; omega))) (fr_286 _ (by first | omega | (dsimp only; omega)))
        have b_290 : 0 ≤ r_279.toInt ∧ r_279.toInt ≤ 1 := u_280.rg
        exact ⟨u_280, (hp _ _ _ hR_285 hf_287 (u_280) hg.symm hl)⟩
  · have d_291 := iNe c_6
    replace hg := gt_neg (by first | exact d_291 | omega) hg
    have g_292 : (0 : Int) ≤ (I0 o 0).toInt ∧ (I0 o 0).toInt ≤ 24 := hR.at0 ra 0 (by decide)
    replace hg := gt_let (y := (I0 o 0).toInt) rfl hg
    have l_293 : (24 : Int32).toInt = 24 := rfl
    refine ⟨fun c_294 => ?_, fun c_294 => ?_⟩
    · have d_295 := iLe c_294
      replace hg := gt_pos (by first | exact d_295 | omega) hg
      unfold fLand_readLine_23
      replace hg := (eLand_readLine_23).symm.trans hg
      have l_296 : (1 : Int32).toInt = 1 := rfl
      refine y_Tape_isWordg hok hw1 ra1 hR (fun r_297 u_298 gn_299 => ⟨r_297, I0, L0, rfl, rfl, ?_⟩)
      replace hg := gt_let gn_299 hg
      clear gn_299
      have b_300 : 0 ≤ r_297.toInt ∧ r_297.toInt ≤ 1 := u_298.rg
      refine ⟨fun c_301 => ?_, fun c_301 => ?_⟩
      · have d_302 := iEq c_301
        replace hg := gt_pos (by first | exact d_302 | omega) hg
        unfold fLand_readLine_45
        replace hg := (eLand_readLine_45).symm.trans hg
        have l_303 : (5 : Int32).toInt = 5 := rfl
        refine y_Tape_isWordg hok hw1 ra1 hR (fun r_304 u_305 gn_306 => ⟨r_304, I0, L0, rfl, rfl, ?_⟩)
        replace hg := gt_let gn_306 hg
        clear gn_306
        have b_307 : 0 ≤ r_304.toInt ∧ r_304.toInt ≤ 1 := u_305.rg
        refine ⟨fun c_308 => ?_, fun c_308 => ?_⟩
        · have d_309 := iEq c_308
          replace hg := gt_pos (by first | exact d_309 | omega) hg
          unfold fLand_readLine_67
          replace hg := (eLand_readLine_67).symm.trans hg
          have l_310 : (8 : Int32).toInt = 8 := rfl
          refine y_Tape_isWordg hok hw1 ra1 hR (fun r_311 u_312 gn_313 => ⟨r_311, I0, L0, rfl, rfl, ?_⟩)
          replace hg := gt_let gn_313 hg
          clear gn_313
          have b_314 : 0 ≤ r_311.toInt ∧ r_311.toInt ≤ 1 := u_312.rg
          refine ⟨fun c_315 => ?_, fun c_315 => ?_⟩
          · have d_316 := iEq c_315
            replace hg := gt_pos (by first | exact d_316 | omega) hg
            have l_317 : (2 : Int32).toInt = 2 := rfl
            refine y_Tape_refuseg hok hw1 ra1 (by first | omega | (intro h; omega) | exact Or.inl rfl | exact Or.inr rfl) hR (fun I_323 L_324 hR_325 fr_326 u_319 u_320 gn_321 ln_322 => ⟨I_323, L_324, rfl, rfl, ?_⟩)
            replace hl := hl.call ln_322 (fun c hc => by first | exact hc | exact False.elim hc | (dsimp only at hc ⊢; omega) | omega)
            replace hg := gt_b3 gn_321 hg
            clear gn_321
            have hf_327 : Fm (fun c => (o ≤ c ∧ c < o + 16) ∨ c = x1) I0 I_323 := hf.call fr_326 (fun c hc => by first | exact hc | (dsimp only at hc ⊢; omega) | omega)
            have t_328 : (I_323 o 0).toInt = (I0 o 0).toInt := by rw [fr_326 o (by first | omega | (dsimp only; omega))]
            have k_329 : TokOK I_323 x1 := hq0.fr (fr_326 _ (by first | omega | (dsimp only; omega))) (fr_326 _ (by first | omega | (dsimp only; omega)))
            exact (hp _ _ _ hR_325 hf_327 (Or.inl rfl) hg.symm hl)
          · have d_330 := iNe c_315
            replace hg := gt_neg (by first | exact d_330 | omega) hg
            have g_331 : (0 : Int) ≤ (I0 o 3).toInt ∧ (I0 o 3).toInt ≤ 5 := hR.at0 ra 3 (by decide)
            replace hg := gt_let (y := (I0 o 3).toInt) rfl hg
            refine ⟨fun c_332 => ?_, fun c_332 => ?_⟩
            · have d_333 := iLe c_332
              replace hg := gt_pos (by first | exact d_333 | omega) hg
              have l_334 : (2 : Int32).toInt = 2 := rfl
              refine y_Tape_refuseg hok hw1 ra1 (by first | omega | (intro h; omega) | exact Or.inl rfl | exact Or.inr rfl) hR (fun I_340 L_341 hR_342 fr_343 u_336 u_337 gn_338 ln_339 => ⟨I_340, L_341, rfl, rfl, ?_⟩)
              replace hl := hl.call ln_339 (fun c hc => by first | exact hc | exact False.elim hc | (dsimp only at hc ⊢; omega) | omega)
              replace hg := gt_b3 gn_338 hg
              clear gn_338
              have hf_344 : Fm (fun c => (o ≤ c ∧ c < o + 16) ∨ c = x1) I0 I_340 := hf.call fr_343 (fun c hc => by first | exact hc | (dsimp only at hc ⊢; omega) | omega)
              have t_345 : (I_340 o 0).toInt = (I0 o 0).toInt := by rw [fr_343 o (by first | omega | (dsimp only; omega))]
              have t_346 : (I_340 o 3).toInt = (I0 o 3).toInt := by rw [fr_343 o (by first | omega | (dsimp only; omega))]
              have k_347 : TokOK I_340 x1 := hq0.fr (fr_343 _ (by first | omega | (dsimp only; omega))) (fr_343 _ (by first | omega | (dsimp only; omega)))
              exact (hp _ _ _ hR_342 hf_344 (Or.inl rfl) hg.symm hl)
            · have d_348 := iNle c_332
              replace hg := gt_neg (by first | exact d_348 | omega) hg
              refine y_Land_readTowng hok hw ra hw1 ra1 (by first | omega | (intro h; omega) | exact Or.inl rfl | exact Or.inr rfl) (by first | omega | (intro h; omega) | exact Or.inl rfl | exact Or.inr rfl) hq0 hR (fun r_349 I_353 L_354 hR_355 fr_356 u_350 gn_351 ln_352 => ⟨r_349, I_353, L_354, rfl, rfl, ?_⟩)
              replace hl := hl.call ln_352 (fun c hc => by first | exact hc | exact False.elim hc | (dsimp only at hc ⊢; omega) | omega)
              replace hg := gt_b3 gn_351 hg
              clear gn_351
              have hf_357 : Fm (fun c => (o ≤ c ∧ c < o + 16) ∨ c = x1) I0 I_353 := hf.call fr_356 (fun c hc => by first | exact hc | (dsimp only at hc ⊢; omega) | omega)
              have g_358 : (0 : Int) ≤ (I_353 o 0).toInt ∧ (I_353 o 0).toInt ≤ 24 := hR_355.at0 ra 0 (by decide)
              have g_359 : (0 : Int) ≤ (I_353 o 3).toInt ∧ (I_353 o 3).toInt ≤ 5 := hR_355.at0 ra 3 (by decide)
              have k_360 : TokOK I_353 x1 := hq0.fr (fr_356 _ (by first | omega | (dsimp only; omega))) (fr_356 _ (by first | omega | (dsimp only; omega)))
              have b_361 : 0 ≤ r_349.toInt ∧ r_349.toInt ≤ 1 := u_350.rg
              exact ⟨u_350, (hp _ _ _ hR_355 hf_357 (u_350) hg.symm hl)⟩
        · have d_362 := iNe c_308
          replace hg := gt_neg (by first | exact d_362 | omega) hg
          have g_363 : (0 : Int) ≤ (I0 o 2).toInt ∧ (I0 o 2).toInt ≤ 3 := hR.at0 ra 2 (by decide)
          replace hg := gt_let (y := (I0 o 2).toInt) rfl hg
          have l_364 : (3 : Int32).toInt = 3 := rfl
          refine ⟨fun c_365 => ?_, fun c_365 => ?_⟩
          · have d_366 := iLe c_365
            replace hg := gt_pos (by first | exact d_366 | omega) hg
            unfold fLand_readLine_67
            replace hg := (eLand_readLine_67).symm.trans hg
            have l_367 : (8 : Int32).toInt = 8 := rfl
            refine y_Tape_isWordg hok hw1 ra1 hR (fun r_368 u_369 gn_370 => ⟨r_368, I0, L0, rfl, rfl, ?_⟩)
            replace hg := gt_let gn_370 hg
            clear gn_370
            have b_371 : 0 ≤ r_368.toInt ∧ r_368.toInt ≤ 1 := u_369.rg
            refine ⟨fun c_372 => ?_, fun c_372 => ?_⟩
            · have d_373 := iEq c_372
              replace hg := gt_pos (by first | exact d_373 | omega) hg
              have l_374 : (2 : Int32).toInt = 2 := rfl
              refine y_Tape_refuseg hok hw1 ra1 (by first | omega | (intro h; omega) | exact Or.inl rfl | exact Or.inr rfl) hR (fun I_380 L_381 hR_382 fr_383 u_376 u_377 gn_378 ln_379 => ⟨I_380, L_381, rfl, rfl, ?_⟩)
              replace hl := hl.call ln_379 (fun c hc => by first | exact hc | exact False.elim hc | (dsimp only at hc ⊢; omega) | omega)
              replace hg := gt_b3 gn_378 hg
              clear gn_378
              have hf_384 : Fm (fun c => (o ≤ c ∧ c < o + 16) ∨ c = x1) I0 I_380 := hf.call fr_383 (fun c hc => by first | exact hc | (dsimp only at hc ⊢; omega) | omega)
              have t_385 : (I_380 o 0).toInt = (I0 o 0).toInt := by rw [fr_383 o (by first | omega | (dsimp only; omega))]
              have t_386 : (I_380 o 2).toInt = (I0 o 2).toInt := by rw [fr_383 o (by first | omega | (dsimp only; omega))]
              have k_387 : TokOK I_380 x1 := hq0.fr (fr_383 _ (by first | omega | (dsimp only; omega))) (fr_383 _ (by first | omega | (dsimp only; omega)))
              exact (hp _ _ _ hR_382 hf_384 (Or.inl rfl) hg.symm hl)
            · have d_388 := iNe c_372
              replace hg := gt_neg (by first | exact d_388 | omega) hg
              have g_389 : (0 : Int) ≤ (I0 o 3).toInt ∧ (I0 o 3).toInt ≤ 5 := hR.at0 ra 3 (by decide)
              replace hg := gt_let (y := (I0 o 3).toInt) rfl hg
              refine ⟨fun c_390 => ?_, fun c_390 => ?_⟩
              · have d_391 := iLe c_390
                replace hg := gt_pos (by first | exact d_391 | omega) hg
                have l_392 : (2 : Int32).toInt = 2 := rfl
                refine y_Tape_refuseg hok hw1 ra1 (by first | omega | (intro h; omega) | exact Or.inl rfl | exact Or.inr rfl) hR (fun I_398 L_399 hR_400 fr_401 u_394 u_395 gn_396 ln_397 => ⟨I_398, L_399, rfl, rfl, ?_⟩)
                replace hl := hl.call ln_397 (fun c hc => by first | exact hc | exact False.elim hc | (dsimp only at hc ⊢; omega) | omega)
                replace hg := gt_b3 gn_396 hg
                clear gn_396
                have hf_402 : Fm (fun c => (o ≤ c ∧ c < o + 16) ∨ c = x1) I0 I_398 := hf.call fr_401 (fun c hc => by first | exact hc | (dsimp only at hc ⊢; omega) | omega)
                have t_403 : (I_398 o 0).toInt = (I0 o 0).toInt := by rw [fr_401 o (by first | omega | (dsimp only; omega))]
                have t_404 : (I_398 o 2).toInt = (I0 o 2).toInt := by rw [fr_401 o (by first | omega | (dsimp only; omega))]
                have t_405 : (I_398 o 3).toInt = (I0 o 3).toInt := by rw [fr_401 o (by first | omega | (dsimp only; omega))]
                have k_406 : TokOK I_398 x1 := hq0.fr (fr_401 _ (by first | omega | (dsimp only; omega))) (fr_401 _ (by first | omega | (dsimp only; omega)))
                exact (hp _ _ _ hR_400 hf_402 (Or.inl rfl) hg.symm hl)
              · have d_407 := iNle c_390
                replace hg := gt_neg (by first | exact d_407 | omega) hg
                refine y_Land_readTowng hok hw ra hw1 ra1 (by first | omega | (intro h; omega) | exact Or.inl rfl | exact Or.inr rfl) (by first | omega | (intro h; omega) | exact Or.inl rfl | exact Or.inr rfl) hq0 hR (fun r_408 I_412 L_413 hR_414 fr_415 u_409 gn_410 ln_411 => ⟨r_408, I_412, L_413, rfl, rfl, ?_⟩)
                replace hl := hl.call ln_411 (fun c hc => by first | exact hc | exact False.elim hc | (dsimp only at hc ⊢; omega) | omega)
                replace hg := gt_b3 gn_410 hg
                clear gn_410
                have hf_416 : Fm (fun c => (o ≤ c ∧ c < o + 16) ∨ c = x1) I0 I_412 := hf.call fr_415 (fun c hc => by first | exact hc | (dsimp only at hc ⊢; omega) | omega)
                have g_417 : (0 : Int) ≤ (I_412 o 0).toInt ∧ (I_412 o 0).toInt ≤ 24 := hR_414.at0 ra 0 (by decide)
                have g_418 : (0 : Int) ≤ (I_412 o 2).toInt ∧ (I_412 o 2).toInt ≤ 3 := hR_414.at0 ra 2 (by decide)
                have g_419 : (0 : Int) ≤ (I_412 o 3).toInt ∧ (I_412 o 3).toInt ≤ 5 := hR_414.at0 ra 3 (by decide)
                have k_420 : TokOK I_412 x1 := hq0.fr (fr_415 _ (by first | omega | (dsimp only; omega))) (fr_415 _ (by first | omega | (dsimp only; omega)))
                have b_421 : 0 ≤ r_408.toInt ∧ r_408.toInt ≤ 1 := u_409.rg
                exact ⟨u_409, (hp _ _ _ hR_414 hf_416 (u_409) hg.symm hl)⟩
          · have d_422 := iNle c_365
            replace hg := gt_neg (by first | exact d_422 | omega) hg
            refine y_Land_readPang hok hw ra hw1 ra1 (by first | omega | (intro h; omega) | exact Or.inl rfl | exact Or.inr rfl) (by first | omega | (intro h; omega) | exact Or.inl rfl | exact Or.inr rfl) hq0 hR (fun r_423 I_427 L_428 hR_429 fr_430 u_424 gn_425 ln_426 => ⟨r_423, I_427, L_428, rfl, rfl, ?_⟩)
            replace hl := hl.call ln_426 (fun c hc => by first | exact hc | exact False.elim hc | (dsimp only at hc ⊢; omega) | omega)
            replace hg := gt_b3 gn_425 hg
            clear gn_425
            have hf_431 : Fm (fun c => (o ≤ c ∧ c < o + 16) ∨ c = x1) I0 I_427 := hf.call fr_430 (fun c hc => by first | exact hc | (dsimp only at hc ⊢; omega) | omega)
            have g_432 : (0 : Int) ≤ (I_427 o 0).toInt ∧ (I_427 o 0).toInt ≤ 24 := hR_429.at0 ra 0 (by decide)
            have g_433 : (0 : Int) ≤ (I_427 o 2).toInt ∧ (I_427 o 2).toInt ≤ 3 := hR_429.at0 ra 2 (by decide)
            have k_434 : TokOK I_427 x1 := hq0.fr (fr_430 _ (by first | omega | (dsimp only; omega))) (fr_430 _ (by first | omega | (dsimp only; omega)))
            have b_435 : 0 ≤ r_423.toInt ∧ r_423.toInt ≤ 1 := u_424.rg
            exact ⟨u_424, (hp _ _ _ hR_429 hf_431 (u_424) hg.symm hl)⟩
      · have d_436 := iNe c_301
        replace hg := gt_neg (by first | exact d_436 | omega) hg
        have g_437 : (0 : Int) ≤ (I0 o 1).toInt ∧ (I0 o 1).toInt ≤ 3 := hR.at0 ra 1 (by decide)
        replace hg := gt_let (y := (I0 o 1).toInt) rfl hg
        have l_438 : (3 : Int32).toInt = 3 := rfl
        refine ⟨fun c_439 => ?_, fun c_439 => ?_⟩
        · have d_440 := iLe c_439
          replace hg := gt_pos (by first | exact d_440 | omega) hg
          unfold fLand_readLine_45
          replace hg := (eLand_readLine_45).symm.trans hg
          have l_441 : (5 : Int32).toInt = 5 := rfl
          refine y_Tape_isWordg hok hw1 ra1 hR (fun r_442 u_443 gn_444 => ⟨r_442, I0, L0, rfl, rfl, ?_⟩)
          replace hg := gt_let gn_444 hg
          clear gn_444
          have b_445 : 0 ≤ r_442.toInt ∧ r_442.toInt ≤ 1 := u_443.rg
          refine ⟨fun c_446 => ?_, fun c_446 => ?_⟩
          · have d_447 := iEq c_446
            replace hg := gt_pos (by first | exact d_447 | omega) hg
            unfold fLand_readLine_67
            replace hg := (eLand_readLine_67).symm.trans hg
            have l_448 : (8 : Int32).toInt = 8 := rfl
            refine y_Tape_isWordg hok hw1 ra1 hR (fun r_449 u_450 gn_451 => ⟨r_449, I0, L0, rfl, rfl, ?_⟩)
            replace hg := gt_let gn_451 hg
            clear gn_451
            have b_452 : 0 ≤ r_449.toInt ∧ r_449.toInt ≤ 1 := u_450.rg
            refine ⟨fun c_453 => ?_, fun c_453 => ?_⟩
            · have d_454 := iEq c_453
              replace hg := gt_pos (by first | exact d_454 | omega) hg
              have l_455 : (2 : Int32).toInt = 2 := rfl
              refine y_Tape_refuseg hok hw1 ra1 (by first | omega | (intro h; omega) | exact Or.inl rfl | exact Or.inr rfl) hR (fun I_461 L_462 hR_463 fr_464 u_457 u_458 gn_459 ln_460 => ⟨I_461, L_462, rfl, rfl, ?_⟩)
              replace hl := hl.call ln_460 (fun c hc => by first | exact hc | exact False.elim hc | (dsimp only at hc ⊢; omega) | omega)
              replace hg := gt_b3 gn_459 hg
              clear gn_459
              have hf_465 : Fm (fun c => (o ≤ c ∧ c < o + 16) ∨ c = x1) I0 I_461 := hf.call fr_464 (fun c hc => by first | exact hc | (dsimp only at hc ⊢; omega) | omega)
              have t_466 : (I_461 o 0).toInt = (I0 o 0).toInt := by rw [fr_464 o (by first | omega | (dsimp only; omega))]
              have t_467 : (I_461 o 1).toInt = (I0 o 1).toInt := by rw [fr_464 o (by first | omega | (dsimp only; omega))]
              have k_468 : TokOK I_461 x1 := hq0.fr (fr_464 _ (by first | omega | (dsimp only; omega))) (fr_464 _ (by first | omega | (dsimp only; omega)))
              exact (hp _ _ _ hR_463 hf_465 (Or.inl rfl) hg.symm hl)
            · have d_469 := iNe c_453
              replace hg := gt_neg (by first | exact d_469 | omega) hg
              have g_470 : (0 : Int) ≤ (I0 o 3).toInt ∧ (I0 o 3).toInt ≤ 5 := hR.at0 ra 3 (by decide)
              replace hg := gt_let (y := (I0 o 3).toInt) rfl hg
              refine ⟨fun c_471 => ?_, fun c_471 => ?_⟩
              · have d_472 := iLe c_471
                replace hg := gt_pos (by first | exact d_472 | omega) hg
                have l_473 : (2 : Int32).toInt = 2 := rfl
                refine y_Tape_refuseg hok hw1 ra1 (by first | omega | (intro h; omega) | exact Or.inl rfl | exact Or.inr rfl) hR (fun I_479 L_480 hR_481 fr_482 u_475 u_476 gn_477 ln_478 => ⟨I_479, L_480, rfl, rfl, ?_⟩)
                replace hl := hl.call ln_478 (fun c hc => by first | exact hc | exact False.elim hc | (dsimp only at hc ⊢; omega) | omega)
                replace hg := gt_b3 gn_477 hg
                clear gn_477
                have hf_483 : Fm (fun c => (o ≤ c ∧ c < o + 16) ∨ c = x1) I0 I_479 := hf.call fr_482 (fun c hc => by first | exact hc | (dsimp only at hc ⊢; omega) | omega)
                have t_484 : (I_479 o 0).toInt = (I0 o 0).toInt := by rw [fr_482 o (by first | omega | (dsimp only; omega))]
                have t_485 : (I_479 o 1).toInt = (I0 o 1).toInt := by rw [fr_482 o (by first | omega | (dsimp only; omega))]
                have t_486 : (I_479 o 3).toInt = (I0 o 3).toInt := by rw [fr_482 o (by first | omega | (dsimp only; omega))]
                have k_487 : TokOK I_479 x1 := hq0.fr (fr_482 _ (by first | omega | (dsimp only; omega))) (fr_482 _ (by first | omega | (dsimp only; omega)))
                exact (hp _ _ _ hR_481 hf_483 (Or.inl rfl) hg.symm hl)
              · have d_488 := iNle c_471
                replace hg := gt_neg (by first | exact d_488 | omega) hg
                refine y_Land_readTowng hok hw ra hw1 ra1 (by first | omega | (intro h; omega) | exact Or.inl rfl | exact Or.inr rfl) (by first | omega | (intro h; omega) | exact Or.inl rfl | exact Or.inr rfl) hq0 hR (fun r_489 I_493 L_494 hR_495 fr_496 u_490 gn_491 ln_492 => ⟨r_489, I_493, L_494, rfl, rfl, ?_⟩)
                replace hl := hl.call ln_492 (fun c hc => by first | exact hc | exact False.elim hc | (dsimp only at hc ⊢; omega) | omega)
                replace hg := gt_b3 gn_491 hg
                clear gn_491
                have hf_497 : Fm (fun c => (o ≤ c ∧ c < o + 16) ∨ c = x1) I0 I_493 := hf.call fr_496 (fun c hc => by first | exact hc | (dsimp only at hc ⊢; omega) | omega)
                have g_498 : (0 : Int) ≤ (I_493 o 0).toInt ∧ (I_493 o 0).toInt ≤ 24 := hR_495.at0 ra 0 (by decide)
                have g_499 : (0 : Int) ≤ (I_493 o 1).toInt ∧ (I_493 o 1).toInt ≤ 3 := hR_495.at0 ra 1 (by decide)
                have g_500 : (0 : Int) ≤ (I_493 o 3).toInt ∧ (I_493 o 3).toInt ≤ 5 := hR_495.at0 ra 3 (by decide)
                have k_501 : TokOK I_493 x1 := hq0.fr (fr_496 _ (by first | omega | (dsimp only; omega))) (fr_496 _ (by first | omega | (dsimp only; omega)))
                have b_502 : 0 ≤ r_489.toInt ∧ r_489.toInt ≤ 1 := u_490.rg
                exact ⟨u_490, (hp _ _ _ hR_495 hf_497 (u_490) hg.symm hl)⟩
          · have d_503 := iNe c_446
            replace hg := gt_neg (by first | exact d_503 | omega) hg
            have g_504 : (0 : Int) ≤ (I0 o 2).toInt ∧ (I0 o 2).toInt ≤ 3 := hR.at0 ra 2 (by decide)
            replace hg := gt_let (y := (I0 o 2).toInt) rfl hg
            refine ⟨fun c_505 => ?_, fun c_505 => ?_⟩
            · have d_506 := iLe c_505
              replace hg := gt_pos (by first | exact d_506 | omega) hg
              unfold fLand_readLine_67
              replace hg := (eLand_readLine_67).symm.trans hg
              have l_507 : (8 : Int32).toInt = 8 := rfl
              refine y_Tape_isWordg hok hw1 ra1 hR (fun r_508 u_509 gn_510 => ⟨r_508, I0, L0, rfl, rfl, ?_⟩)
              replace hg := gt_let gn_510 hg
              clear gn_510
              have b_511 : 0 ≤ r_508.toInt ∧ r_508.toInt ≤ 1 := u_509.rg
              refine ⟨fun c_512 => ?_, fun c_512 => ?_⟩
              · have d_513 := iEq c_512
                replace hg := gt_pos (by first | exact d_513 | omega) hg
                have l_514 : (2 : Int32).toInt = 2 := rfl
                refine y_Tape_refuseg hok hw1 ra1 (by first | omega | (intro h; omega) | exact Or.inl rfl | exact Or.inr rfl) hR (fun I_520 L_521 hR_522 fr_523 u_516 u_517 gn_518 ln_519 => ⟨I_520, L_521, rfl, rfl, ?_⟩)
                replace hl := hl.call ln_519 (fun c hc => by first | exact hc | exact False.elim hc | (dsimp only at hc ⊢; omega) | omega)
                replace hg := gt_b3 gn_518 hg
                clear gn_518
                have hf_524 : Fm (fun c => (o ≤ c ∧ c < o + 16) ∨ c = x1) I0 I_520 := hf.call fr_523 (fun c hc => by first | exact hc | (dsimp only at hc ⊢; omega) | omega)
                have t_525 : (I_520 o 0).toInt = (I0 o 0).toInt := by rw [fr_523 o (by first | omega | (dsimp only; omega))]
                have t_526 : (I_520 o 1).toInt = (I0 o 1).toInt := by rw [fr_523 o (by first | omega | (dsimp only; omega))]
                have t_527 : (I_520 o 2).toInt = (I0 o 2).toInt := by rw [fr_523 o (by first | omega | (dsimp only; omega))]
                have k_528 : TokOK I_520 x1 := hq0.fr (fr_523 _ (by first | omega | (dsimp only; omega))) (fr_523 _ (by first | omega | (dsimp only; omega)))
                exact (hp _ _ _ hR_522 hf_524 (Or.inl rfl) hg.symm hl)
              · have d_529 := iNe c_512
                replace hg := gt_neg (by first | exact d_529 | omega) hg
                have g_530 : (0 : Int) ≤ (I0 o 3).toInt ∧ (I0 o 3).toInt ≤ 5 := hR.at0 ra 3 (by decide)
                replace hg := gt_let (y := (I0 o 3).toInt) rfl hg
                refine ⟨fun c_531 => ?_, fun c_531 => ?_⟩
                · have d_532 := iLe c_531
                  replace hg := gt_pos (by first | exact d_532 | omega) hg
                  have l_533 : (2 : Int32).toInt = 2 := rfl
                  refine y_Tape_refuseg hok hw1 ra1 (by first | omega | (intro h; omega) | exact Or.inl rfl | exact Or.inr rfl) hR (fun I_539 L_540 hR_541 fr_542 u_535 u_536 gn_537 ln_538 => ⟨I_539, L_540, rfl, rfl, ?_⟩)
                  replace hl := hl.call ln_538 (fun c hc => by first | exact hc | exact False.elim hc | (dsimp only at hc ⊢; omega) | omega)
                  replace hg := gt_b3 gn_537 hg
                  clear gn_537
                  have hf_543 : Fm (fun c => (o ≤ c ∧ c < o + 16) ∨ c = x1) I0 I_539 := hf.call fr_542 (fun c hc => by first | exact hc | (dsimp only at hc ⊢; omega) | omega)
                  have t_544 : (I_539 o 0).toInt = (I0 o 0).toInt := by rw [fr_542 o (by first | omega | (dsimp only; omega))]
                  have t_545 : (I_539 o 1).toInt = (I0 o 1).toInt := by rw [fr_542 o (by first | omega | (dsimp only; omega))]
                  have t_546 : (I_539 o 2).toInt = (I0 o 2).toInt := by rw [fr_542 o (by first | omega | (dsimp only; omega))]
                  have t_547 : (I_539 o 3).toInt = (I0 o 3).toInt := by rw [fr_542 o (by first | omega | (dsimp only; omega))]
                  have k_548 : TokOK I_539 x1 := hq0.fr (fr_542 _ (by first | omega | (dsimp only; omega))) (fr_542 _ (by first | omega | (dsimp only; omega)))
                  exact (hp _ _ _ hR_541 hf_543 (Or.inl rfl) hg.symm hl)
                · have d_549 := iNle c_531
                  replace hg := gt_neg (by first | exact d_549 | omega) hg
                  refine y_Land_readTowng hok hw ra hw1 ra1 (by first | omega | (intro h; omega) | exact Or.inl rfl | exact Or.inr rfl) (by first | omega | (intro h; omega) | exact Or.inl rfl | exact Or.inr rfl) hq0 hR (fun r_550 I_554 L_555 hR_556 fr_557 u_551 gn_552 ln_553 => ⟨r_550, I_554, L_555, rfl, rfl, ?_⟩)
                  replace hl := hl.call ln_553 (fun c hc => by first | exact hc | exact False.elim hc | (dsimp only at hc ⊢; omega) | omega)
                  replace hg := gt_b3 gn_552 hg
                  clear gn_552
                  have hf_558 : Fm (fun c => (o ≤ c ∧ c < o + 16) ∨ c = x1) I0 I_554 := hf.call fr_557 (fun c hc => by first | exact hc | (dsimp only at hc ⊢; omega) | omega)
                  have g_559 : (0 : Int) ≤ (I_554 o 0).toInt ∧ (I_554 o 0).toInt ≤ 24 := hR_556.at0 ra 0 (by decide)
                  have g_560 : (0 : Int) ≤ (I_554 o 1).toInt ∧ (I_554 o 1).toInt ≤ 3 := hR_556.at0 ra 1 (by decide)
                  have g_561 : (0 : Int) ≤ (I_554 o 2).toInt ∧ (I_554 o 2).toInt ≤ 3 := hR_556.at0 ra 2 (by decide)
                  have g_562 : (0 : Int) ≤ (I_554 o 3).toInt ∧ (I_554 o 3).toInt ≤ 5 := hR_556.at0 ra 3 (by decide)
                  have k_563 : TokOK I_554 x1 := hq0.fr (fr_557 _ (by first | omega | (dsimp only; omega))) (fr_557 _ (by first | omega | (dsimp only; omega)))
                  have b_564 : 0 ≤ r_550.toInt ∧ r_550.toInt ≤ 1 := u_551.rg
                  exact ⟨u_551, (hp _ _ _ hR_556 hf_558 (u_551) hg.symm hl)⟩
            · have d_565 := iNle c_505
              replace hg := gt_neg (by first | exact d_565 | omega) hg
              refine y_Land_readPang hok hw ra hw1 ra1 (by first | omega | (intro h; omega) | exact Or.inl rfl | exact Or.inr rfl) (by first | omega | (intro h; omega) | exact Or.inl rfl | exact Or.inr rfl) hq0 hR (fun r_566 I_570 L_571 hR_572 fr_573 u_567 gn_568 ln_569 => ⟨r_566, I_570, L_571, rfl, rfl, ?_⟩)
              replace hl := hl.call ln_569 (fun c hc => by first | exact hc | exact False.elim hc | (dsimp only at hc ⊢; omega) | omega)
              replace hg := gt_b3 gn_568 hg
              clear gn_568
              have hf_574 : Fm (fun c => (o ≤ c ∧ c < o + 16) ∨ c = x1) I0 I_570 := hf.call fr_573 (fun c hc => by first | exact hc | (dsimp only at hc ⊢; omega) | omega)
              have g_575 : (0 : Int) ≤ (I_570 o 0).toInt ∧ (I_570 o 0).toInt ≤ 24 := hR_572.at0 ra 0 (by decide)
              have g_576 : (0 : Int) ≤ (I_570 o 1).toInt ∧ (I_570 o 1).toInt ≤ 3 := hR_572.at0 ra 1 (by decide)
              have g_577 : (0 : Int) ≤ (I_570 o 2).toInt ∧ (I_570 o 2).toInt ≤ 3 := hR_572.at0 ra 2 (by decide)
              have k_578 : TokOK I_570 x1 := hq0.fr (fr_573 _ (by first | omega | (dsimp only; omega))) (fr_573 _ (by first | omega | (dsimp only; omega)))
              have b_579 : 0 ≤ r_566.toInt ∧ r_566.toInt ≤ 1 := u_567.rg
              exact ⟨u_567, (hp _ _ _ hR_572 hf_574 (u_567) hg.symm hl)⟩
        · have d_580 := iNle c_439
          replace hg := gt_neg (by first | exact d_580 | omega) hg
          refine y_Land_readFortg hok hw ra hw1 ra1 (by first | omega | (intro h; omega) | exact Or.inl rfl | exact Or.inr rfl) (by first | omega | (intro h; omega) | exact Or.inl rfl | exact Or.inr rfl) hq0 hR (fun r_581 I_585 L_586 hR_587 fr_588 u_582 gn_583 ln_584 => ⟨r_581, I_585, L_586, rfl, rfl, ?_⟩)
          replace hl := hl.call ln_584 (fun c hc => by first | exact hc | exact False.elim hc | (dsimp only at hc ⊢; omega) | omega)
          replace hg := gt_b3 gn_583 hg
          clear gn_583
          have hf_589 : Fm (fun c => (o ≤ c ∧ c < o + 16) ∨ c = x1) I0 I_585 := hf.call fr_588 (fun c hc => by first | exact hc | (dsimp only at hc ⊢; omega) | omega)
          have g_590 : (0 : Int) ≤ (I_585 o 0).toInt ∧ (I_585 o 0).toInt ≤ 24 := hR_587.at0 ra 0 (by decide)
          have g_591 : (0 : Int) ≤ (I_585 o 1).toInt ∧ (I_585 o 1).toInt ≤ 3 := hR_587.at0 ra 1 (by decide)
          have k_592 : TokOK I_585 x1 := hq0.fr (fr_588 _ (by first | omega | (dsimp only; omega))) (fr_588 _ (by first | omega | (dsimp only; omega)))
          have b_593 : 0 ≤ r_581.toInt ∧ r_581.toInt ≤ 1 := u_582.rg
          exact ⟨u_582, (hp _ _ _ hR_587 hf_589 (u_582) hg.symm hl)⟩
    · have d_594 := iNle c_294
      replace hg := gt_neg (by first | exact d_594 | omega) hg
      refine y_Land_readRoadg hok hw ra hw1 ra1 (by first | omega | (intro h; omega) | exact Or.inl rfl | exact Or.inr rfl) (by first | omega | (intro h; omega) | exact Or.inl rfl | exact Or.inr rfl) hq0 hR (fun r_595 I_599 L_600 hR_601 fr_602 u_596 gn_597 ln_598 => ⟨r_595, I_599, L_600, rfl, rfl, ?_⟩)
      replace hl := hl.call ln_598 (fun c hc => by first | exact hc | exact False.elim hc | (dsimp only at hc ⊢; omega) | omega)
      replace hg := gt_b3 gn_597 hg
      clear gn_597
      have hf_603 : Fm (fun c => (o ≤ c ∧ c < o + 16) ∨ c = x1) I0 I_599 := hf.call fr_602 (fun c hc => by first | exact hc | (dsimp only at hc ⊢; omega) | omega)
      have g_604 : (0 : Int) ≤ (I_599 o 0).toInt ∧ (I_599 o 0).toInt ≤ 24 := hR_601.at0 ra 0 (by decide)
      have k_605 : TokOK I_599 x1 := hq0.fr (fr_602 _ (by first | omega | (dsimp only; omega))) (fr_602 _ (by first | omega | (dsimp only; omega)))
      have b_606 : 0 ≤ r_595.toInt ∧ r_595.toInt ≤ 1 := u_596.rg
      exact ⟨u_596, (hp _ _ _ hR_601 hf_603 (u_596) hg.symm hl)⟩
