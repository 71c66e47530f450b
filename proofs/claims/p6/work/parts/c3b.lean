/-! The mirror: c3b. By program (grun.py). -/
noncomputable def gTape_cutToken_36 (o : Nat) (J : gJ) (L : gL) (x1 : Int) (x2 : Int) (x3 : Int) : Int × gJ × gL := gLet (q_u J (o + 4) (Int.toNat x1) x3) (fun (J_1 : gJ) => gLet (q_u J_1 (o + 5) (Int.toNat x1) (-1)) (fun (J_2 : gJ) => gLet (J_2 o 6) (fun (v_3 : Int) => (if x3 < v_3 then gLet (gTape_byteAt_0 o J_2 L x3) (fun (r_4 : Int) => gLet (gTape_isLetter_0  J_2 L r_4) (fun (r_5 : Int) => (if r_5 = 0 then gLet (gTape_byteAt_0 o J_2 L x3) (fun (r_6 : Int) => gLet (gTape_isDigit_0  J_2 L r_6) (fun (r_7 : Int) => (if r_7 = 0 then (gTape_cutToken_128 o J_2 L x1 x2 x3) else gB3 (gTape_cutNumber_0 o J_2 L x1 x3) (fun r_8 J_9 L_10 => (r_8, J_9, L_10))))) else gLet (J_2 o 9) (fun (v_11 : Int) => (if v_11 = 0 then gB3 (gTape_cutWord_0 o J_2 L x1 x3) (fun r_12 J_13 L_14 => (r_12, J_13, L_14)) else gLet (gTape_placeAt_0 o J_2 L x3) (fun (r_15 : Int) => (if r_15 = (-1) then gB3 (gTape_cutWord_0 o J_2 L x1 x3) (fun r_16 J_17 L_18 => (r_16, J_17, L_18)) else gB3 (gTape_cutPlace_0 o J_2 L x1 x3) (fun r_19 J_20 L_21 => (r_19, J_20, L_21))))))))) else gLet (q_u J_2 (o + 3) (Int.toNat x1) 0) (fun (J_22 : gJ) => (x3, J_22, L))))))
theorem eTape_cutToken_36 {o : Nat} {J : gJ} {L : gL} {x1 : Int} {x2 : Int} {x3 : Int} : gTape_cutToken_36 o J L x1 x2 x3 = gLet (q_u J (o + 4) (Int.toNat x1) x3) (fun (J_1 : gJ) => gLet (q_u J_1 (o + 5) (Int.toNat x1) (-1)) (fun (J_2 : gJ) => gLet (J_2 o 6) (fun (v_3 : Int) => (if x3 < v_3 then gLet (gTape_byteAt_0 o J_2 L x3) (fun (r_4 : Int) => gLet (gTape_isLetter_0  J_2 L r_4) (fun (r_5 : Int) => (if r_5 = 0 then gLet (gTape_byteAt_0 o J_2 L x3) (fun (r_6 : Int) => gLet (gTape_isDigit_0  J_2 L r_6) (fun (r_7 : Int) => (if r_7 = 0 then (gTape_cutToken_128 o J_2 L x1 x2 x3) else gB3 (gTape_cutNumber_0 o J_2 L x1 x3) (fun r_8 J_9 L_10 => (r_8, J_9, L_10))))) else gLet (J_2 o 9) (fun (v_11 : Int) => (if v_11 = 0 then gB3 (gTape_cutWord_0 o J_2 L x1 x3) (fun r_12 J_13 L_14 => (r_12, J_13, L_14)) else gLet (gTape_placeAt_0 o J_2 L x3) (fun (r_15 : Int) => (if r_15 = (-1) then gB3 (gTape_cutWord_0 o J_2 L x1 x3) (fun r_16 J_17 L_18 => (r_16, J_17, L_18)) else gB3 (gTape_cutPlace_0 o J_2 L x1 x3) (fun r_19 J_20 L_21 => (r_19, J_20, L_21))))))))) else gLet (q_u J_2 (o + 3) (Int.toNat x1) 0) (fun (J_22 : gJ) => (x3, J_22, L)))))) := rfl
noncomputable def gTape_cutToken_30 (K2 : gJ → gL → Int → Int → Int → (Int × gJ × gL)) (o : Nat) (J : gJ) (L : gL) (x1 : Int) (x2 : Int) (x3 : Int) : Int × gJ × gL := gLet (x3 + 1) (fun (v_1 : Int) => (K2 J L x1 x2 v_1))
theorem eTape_cutToken_30 {K2 : gJ → gL → Int → Int → Int → (Int × gJ × gL)} {o : Nat} {J : gJ} {L : gL} {x1 : Int} {x2 : Int} {x3 : Int} : gTape_cutToken_30 K2 o J L x1 x2 x3 = gLet (x3 + 1) (fun (v_1 : Int) => (K2 J L x1 x2 v_1)) := rfl
noncomputable def gTape_cutToken_2 (k : Nat) (o : Nat) (J : gJ) (L : gL) (x1 : Int) (x2 : Int) (x3 : Int) : Int × gJ × gL := match k with
  | 0 => default
  | k + 1 => gLet (J o 6) (fun (v_1 : Int) => (if v_1 ≤ x3 then (gTape_cutToken_36 o J L x1 x2 x3) else gLet (gTape_byteAt_0 o J L x3) (fun (r_2 : Int) => (if r_2 = 32 then (gTape_cutToken_30 (gTape_cutToken_2 k o) o J L x1 x2 x3) else gLet (gTape_byteAt_0 o J L x3) (fun (r_3 : Int) => (if r_3 = 10 then (gTape_cutToken_30 (gTape_cutToken_2 k o) o J L x1 x2 x3) else (gTape_cutToken_36 o J L x1 x2 x3)))))))
theorem eTape_cutToken_2 {k : Nat} {o : Nat} {J : gJ} {L : gL} {x1 : Int} {x2 : Int} {x3 : Int} : gTape_cutToken_2 (k + 1) o J L x1 x2 x3 = gLet (J o 6) (fun (v_1 : Int) => (if v_1 ≤ x3 then (gTape_cutToken_36 o J L x1 x2 x3) else gLet (gTape_byteAt_0 o J L x3) (fun (r_2 : Int) => (if r_2 = 32 then (gTape_cutToken_30 (gTape_cutToken_2 k o) o J L x1 x2 x3) else gLet (gTape_byteAt_0 o J L x3) (fun (r_3 : Int) => (if r_3 = 10 then (gTape_cutToken_30 (gTape_cutToken_2 k o) o J L x1 x2 x3) else (gTape_cutToken_36 o J L x1 x2 x3))))))) := rfl
noncomputable def gTape_cutToken_0 (o : Nat) (J : gJ) (L : gL) (x1 : Int) (x2 : Int) : Int × gJ × gL := (gTape_cutToken_2 20000 o J L x1 x2 x2)
theorem eTape_cutToken_0 {o : Nat} {J : gJ} {L : gL} {x1 : Int} {x2 : Int} : gTape_cutToken_0 o J L x1 x2 = (gTape_cutToken_2 20000 o J L x1 x2 x2) := rfl
set_option maxHeartbeats 4000000 in
set_option maxRecDepth 20000 in
theorem yTape_cutToken_2g {D : va_G} {cA : FieldType → ClassId} {b : Nat} {kS vS : Nat → Nat} {xb xl : Nat} {xs : Nat → Int32} {R : qRg} {o n : Nat} {sh : Nat → qC} {Rf : Nat → Nat → Option Nat} {I0 : Nat → Nat → Int32} {L0 : Nat → Nat → Int64} {post : Option Value → qS → Prop} {p1 : Int32} {p2 : Int32} (hok : q_ok (qGG D cA b (qEx b kS vS xb xl xs))) (hw : WfTape (qGG D cA b (qEx b kS vS xb xl xs)) n sh Rf o) (ra : RATape R o) (hq0 : (0 : Int) ≤ p1.toInt ∧ p1.toInt ≤ 1600) (hq1 : (0 : Int) ≤ p2.toInt ∧ p2.toInt ≤ 1603) (hq2 : TokOK I0 o) (hp : ∀ (r : Int32) (I' : Nat → Nat → Int32) (L' : Nat → Nat → Int64), RI R I' → Fm (fun c => c = o + 3 ∨ c = o + 4 ∨ c = o + 5) I0 I' → (((0 : Int) ≤ r.toInt ∧ r.toInt ≤ 1603)) → (TokOK I' o) → (gTape_cutToken_0 o (tI I0) L0 (p1).toInt (p2).toInt = (r.toInt, tI I', L')) → (FmL (fun c => c = (o + 6)) L0 L') → post (some (.int r)) (n, sh, Rf, I', L')) : ∀ (k : Nat) {x1 : Int32} {x2 : Int32} {x3 : Int32} {I : Nat → Nat → Int32} {L : Nat → Nat → Int64}, RI R I → Fm (fun c => c = o + 3 ∨ c = o + 4 ∨ c = o + 5) I0 I → ((0 : Int) ≤ x3.toInt ∧ x3.toInt ≤ 1603) → (x1 = p1) → (x2 = p2) → (TokX I o p1.toNatClampNeg) → (FmL (fun c => c = (o + 6)) L0 L) → (gTape_cutToken_2 k o (tI I) L (x1).toInt (x2).toInt (x3).toInt = gTape_cutToken_0 o (tI I0) L0 (p1).toInt (p2).toInt) → (1600 - x3.toInt).toNat < k → Ev (qGG D cA b (qEx b kS vS xb xl xs)) mTape_cutToken 8 (0, 0) 2 [(0, .ref o), (1, .int x1), (2, .int x2), (3, .int x3)] [] (n, sh, Rf, I, L) post := by
  intro k
  induction k with
  | zero =>
    intro x1 x2 x3 I L hR hf hi0 hi1 hi2 hi3 hl hg hm
    exact absurd hm (Nat.not_lt_zero _)
  | succ k ih =>
    intro x1 x2 x3 I L hR hf hi0 hi1 hi2 hi3 hl hg hm
    have hz0 := hi1.symm
    subst hz0
    have hz1 := hi2.symm
    subst hz1
    refine sTape_cutToken_2 o n sh Rf I L post p1 p2 x3 hok hw ?_
    unfold fTape_cutToken_2
    replace hg := (eTape_cutToken_2).symm.trans hg
    have g_1 : (0 : Int) ≤ (I o 6).toInt ∧ (I o 6).toInt ≤ 1600 := hR.at0 ra 6 (by decide)
    replace hg := gt_let (y := (I o 6).toInt) rfl hg
    refine ⟨fun c_2 => ?_, fun c_2 => ?_⟩
    · have d_3 := iLe c_2
      replace hg := gt_pos (by first | exact d_3 | omega) hg
      unfold fTape_cutToken_36
      replace hg := (eTape_cutToken_36).symm.trans hg
      refine ⟨tIn (by omega) (by omega), fun I_4 e_5 => ?_⟩
      replace hg := gt_let (y := tI I_4) (tI_q e_5) hg
      have hR_6 : RI R I_4 := hR.up ra 4 (by decide) (Or.inl rfl) e_5 (i_lo _) (i_hi _)
      have hf_7 : Fm (fun c => c = o + 3 ∨ c = o + 4 ∨ c = o + 5) I0 I_4 := hf.set (by first | rfl | omega | (dsimp only; omega)) e_5
      have t_8 : (I_4 o 6).toInt = (I o 6).toInt := by rw [← e_5, q_u_ne (by omega)]
      have k_9 : TokX I_4 o p1.toNatClampNeg := hi3.fr (by rw [← e_5]; exact q_u_ne (by omega)) (by rw [← e_5]; exact q_u_ne (by omega))
      have n_10 : (I_4 (o + 3) p1.toNatClampNeg).toInt = (I (o + 3) p1.toNatClampNeg).toInt := by rw [← e_5, q_u_ne (by omega)]
      have l_11 : (-1 : Int32).toInt = -1 := rfl
      refine ⟨tIn (by omega) (by omega), fun I_12 e_13 => ?_⟩
      replace hg := gt_let (y := tI I_12) (tI_q e_13) hg
      have hR_14 : RI R I_12 := hR_6.up ra 5 (by decide) (Or.inl rfl) e_13 (i_lo _) (i_hi _)
      have hf_15 : Fm (fun c => c = o + 3 ∨ c = o + 4 ∨ c = o + 5) I0 I_12 := hf_7.set (by first | rfl | omega | (dsimp only; omega)) e_13
      have t_16 : (I_12 o 6).toInt = (I_4 o 6).toInt := by rw [← e_13, q_u_ne (by omega)]
      have k_17 : TokX I_12 o p1.toNatClampNeg := k_9.put5 e_13 (by rfl)
      have n_18 : (I_12 (o + 3) p1.toNatClampNeg).toInt = (I_4 (o + 3) p1.toNatClampNeg).toInt := by rw [← e_13, q_u_ne (by omega)]
      have g_19 : (0 : Int) ≤ (I_12 o 6).toInt ∧ (I_12 o 6).toInt ≤ 1600 := hR_14.at0 ra 6 (by decide)
      replace hg := gt_let (y := (I_12 o 6).toInt) rfl hg
      refine ⟨fun c_20 => ?_, fun c_20 => ?_⟩
      · have d_21 := iLt c_20
        replace hg := gt_pos (by first | exact d_21 | omega) hg
        refine y_Tape_byteAtg hok hw ra hR_14 (fun r_22 u_23 gn_24 => ⟨r_22, I_12, L, rfl, rfl, ?_⟩)
        replace hg := gt_let gn_24 hg
        clear gn_24
        refine y_Tape_isLetterg hok hR_14 (fun r_25 u_26 u_27 gn_28 => ⟨r_25, I_12, L, rfl, rfl, ?_⟩)
        replace hg := gt_let gn_28 hg
        clear gn_28
        have b_29 : 0 ≤ r_25.toInt ∧ r_25.toInt ≤ 1 := u_26.rg
        have l_30 : (0 : Int32).toInt = 0 := rfl
        refine ⟨fun c_31 => ?_, fun c_31 => ?_⟩
        · have d_32 := iEq c_31
          replace hg := gt_pos (by first | exact d_32 | omega) hg
          refine y_Tape_byteAtg hok hw ra hR_14 (fun r_33 u_34 gn_35 => ⟨r_33, I_12, L, rfl, rfl, ?_⟩)
          replace hg := gt_let gn_35 hg
          clear gn_35
          have j_36 := iEq (u_34.trans u_23.symm)
          refine y_Tape_isDigitg hok hR_14 (fun r_37 u_38 u_39 gn_40 => ⟨r_37, I_12, L, rfl, rfl, ?_⟩)
          replace hg := gt_let gn_40 hg
          clear gn_40
          have b_41 : 0 ≤ r_37.toInt ∧ r_37.toInt ≤ 1 := u_38.rg
          refine ⟨fun c_42 => ?_, fun c_42 => ?_⟩
          · have d_43 := iEq c_42
            replace hg := gt_pos (by first | exact d_43 | omega) hg
            exact y_cut128g hw ra hR_14 (by omega) (by omega) k_17 (fun r I' hR' ne rr tk eg => hp r I' _ hR' (hf_15.call (M' := fun c => c = o + 3 ∨ c = o + 5) (fun c hc => ne c (fun q => hc (Or.inl q)) (fun q => hc (Or.inr q))) (fun c hc => by first | (dsimp only at hc ⊢; omega) | omega)) rr tk (hg.symm.trans eg) hl)
          · have d_44 := iNe c_42
            replace hg := gt_neg (by first | exact d_44 | omega) hg
            refine y_Tape_cutNumberg hok hw ra (by first | omega | (intro h; omega) | exact Or.inl rfl | exact Or.inr rfl) (by first | omega | (intro h; omega) | exact Or.inl rfl | exact Or.inr rfl) k_17 hR_14 (fun r_45 I_50 L_51 hR_52 fr_53 u_46 u_47 gn_48 ln_49 => ⟨r_45, I_50, L_51, rfl, rfl, ?_⟩)
            replace hl := hl.call ln_49 (fun c hc => by first | exact hc | exact False.elim hc | (dsimp only at hc ⊢; omega) | omega)
            replace hg := gt_b3 gn_48 hg
            clear gn_48
            have hf_54 : Fm (fun c => c = o + 3 ∨ c = o + 4 ∨ c = o + 5) I0 I_50 := hf_15.call fr_53 (fun c hc => by first | exact hc | (dsimp only at hc ⊢; omega) | omega)
            have t_55 : (I_50 o 6).toInt = (I_12 o 6).toInt := by rw [fr_53 o (by first | omega | (dsimp only; omega))]
            exact (hp _ _ _ hR_52 hf_54 (by first | omega | (intro h; omega) | exact Or.inl rfl | exact Or.inr rfl) u_47 hg.symm hl)
        · have d_56 := iNe c_31
          replace hg := gt_neg (by first | exact d_56 | omega) hg
          replace hg := gt_let (y := (I_12 o 9).toInt) rfl hg
          refine ⟨fun c_57 => ?_, fun c_57 => ?_⟩
          · have d_58 := iEq c_57
            replace hg := gt_pos (by first | exact d_58 | omega) hg
            refine y_Tape_cutWordg hok hw ra (by first | omega | (intro h; omega) | exact Or.inl rfl | exact Or.inr rfl) (by first | omega | (intro h; omega) | exact Or.inl rfl | exact Or.inr rfl) k_17 hR_14 (fun r_59 I_64 L_65 hR_66 fr_67 u_60 u_61 gn_62 ln_63 => ⟨r_59, I_64, L_65, rfl, rfl, ?_⟩)
            replace hl := hl.call ln_63 (fun c hc => by first | exact hc | exact False.elim hc | (dsimp only at hc ⊢; omega) | omega)
            replace hg := gt_b3 gn_62 hg
            clear gn_62
            have hf_68 : Fm (fun c => c = o + 3 ∨ c = o + 4 ∨ c = o + 5) I0 I_64 := hf_15.call fr_67 (fun c hc => by first | exact hc | (dsimp only at hc ⊢; omega) | omega)
            have t_69 : (I_64 o 6).toInt = (I_12 o 6).toInt := by rw [fr_67 o (by first | omega | (dsimp only; omega))]
            exact (hp _ _ _ hR_66 hf_68 (by first | omega | (intro h; omega) | exact Or.inl rfl | exact Or.inr rfl) u_61 hg.symm hl)
          · have d_70 := iNe c_57
            replace hg := gt_neg (by first | exact d_70 | omega) hg
            refine y_Tape_placeAtg hok hw ra hR_14 (fun r_71 u_72 gn_73 => ⟨r_71, I_12, L, rfl, rfl, ?_⟩)
            replace hg := gt_let gn_73 hg
            clear gn_73
            refine ⟨fun c_74 => ?_, fun c_74 => ?_⟩
            · have d_75 := iEq c_74
              replace hg := gt_pos (by first | exact d_75 | omega) hg
              refine y_Tape_cutWordg hok hw ra (by first | omega | (intro h; omega) | exact Or.inl rfl | exact Or.inr rfl) (by first | omega | (intro h; omega) | exact Or.inl rfl | exact Or.inr rfl) k_17 hR_14 (fun r_76 I_81 L_82 hR_83 fr_84 u_77 u_78 gn_79 ln_80 => ⟨r_76, I_81, L_82, rfl, rfl, ?_⟩)
              replace hl := hl.call ln_80 (fun c hc => by first | exact hc | exact False.elim hc | (dsimp only at hc ⊢; omega) | omega)
              replace hg := gt_b3 gn_79 hg
              clear gn_79
              have hf_85 : Fm (fun c => c = o + 3 ∨ c = o + 4 ∨ c = o + 5) I0 I_81 := hf_15.call fr_84 (fun c hc => by first | exact hc | (dsimp only at hc ⊢; omega) | omega)
              have t_86 : (I_81 o 6).toInt = (I_12 o 6).toInt := by rw [fr_84 o (by first | omega | (dsimp only; omega))]
              exact (hp _ _ _ hR_83 hf_85 (by first | omega | (intro h; omega) | exact Or.inl rfl | exact Or.inr rfl) u_78 hg.symm hl)
            · have d_87 := iNe c_74
              replace hg := gt_neg (by first | exact d_87 | omega) hg
              refine y_Tape_cutPlaceg hok hw ra (by first | omega | (intro h; omega) | exact Or.inl rfl | exact Or.inr rfl) (by first | omega | (intro h; omega) | exact Or.inl rfl | exact Or.inr rfl) (by have pe := u_72; have pr : -1 ≤ r_71.toInt := (by rw [pe]; exact (pl_rg _ _ _).1); rw [← pe]; omega) k_17 hR_14 (fun r_88 I_93 L_94 hR_95 fr_96 u_89 u_90 gn_91 ln_92 => ⟨r_88, I_93, L_94, rfl, rfl, ?_⟩)
              replace hl := hl.call ln_92 (fun c hc => by first | exact hc | exact False.elim hc | (dsimp only at hc ⊢; omega) | omega)
              replace hg := gt_b3 gn_91 hg
              clear gn_91
              have hf_97 : Fm (fun c => c = o + 3 ∨ c = o + 4 ∨ c = o + 5) I0 I_93 := hf_15.call fr_96 (fun c hc => by first | exact hc | (dsimp only at hc ⊢; omega) | omega)
              have t_98 : (I_93 o 6).toInt = (I_12 o 6).toInt := by rw [fr_96 o (by first | omega | (dsimp only; omega))]
              exact (hp _ _ _ hR_95 hf_97 (by first | omega | (intro h; omega) | exact Or.inl rfl | exact Or.inr rfl) u_90 hg.symm hl)
      · have d_99 := iNlt c_20
        replace hg := gt_neg (by first | exact d_99 | omega) hg
        have l_100 : (0 : Int32).toInt = 0 := rfl
        refine ⟨tIn (by omega) (by omega), fun I_101 e_102 => ?_⟩
        replace hg := gt_let (y := tI I_101) (tI_q e_102) hg
        have hR_103 : RI R I_101 := hR_14.up ra 3 (by decide) (Or.inl rfl) e_102 (i_lo _) (i_hi _)
        have hf_104 : Fm (fun c => c = o + 3 ∨ c = o + 4 ∨ c = o + 5) I0 I_101 := hf_15.set (by first | rfl | omega | (dsimp only; omega)) e_102
        have t_105 : (I_101 o 6).toInt = (I_12 o 6).toInt := by rw [← e_102, q_u_ne (by omega)]
        have k_106 : TokX I_101 o p1.toNatClampNeg := k_17.put3 e_102 (by rfl)
        have n_107 : (I_101 (o + 3) p1.toNatClampNeg).toInt = (0 : Int32).toInt := by rw [← e_102, q_u_at]
        exact (hp _ _ _ hR_103 hf_104 (by first | omega | (intro h; omega) | exact Or.inl rfl | exact Or.inr rfl) (TokX.all k_106 (by unfold TokAt; exact ⟨fun h => by omega, fun h => by omega⟩)) hg.symm hl)
    · have d_108 := iNle c_2
      replace hg := gt_neg (by first | exact d_108 | omega) hg
      refine y_Tape_byteAtg hok hw ra hR (fun r_109 u_110 gn_111 => ⟨r_109, I, L, rfl, rfl, ?_⟩)
      replace hg := gt_let gn_111 hg
      clear gn_111
      have l_112 : (32 : Int32).toInt = 32 := rfl
      refine ⟨fun c_113 => ?_, fun c_113 => ?_⟩
      · have d_114 := iEq c_113
        replace hg := gt_pos (by first | exact d_114 | omega) hg
        unfold fTape_cutToken_30
        replace hg := (eTape_cutToken_30).symm.trans hg
        have a_116 : (x3 + Int32.ofInt 1).toInt = x3.toInt + (1) := tIc (by omega) (by omega) (by decide) (by decide)
        generalize ez_115 : (x3 + Int32.ofInt 1) = z_115 at a_116 ⊢
        replace hg := gt_let (y := z_115.toInt) (by omega) hg
        exact ih hR hf (by first | omega | (intro h; omega) | exact Or.inl rfl | exact Or.inr rfl) rfl rfl hi3 hl hg (by omega)
      · have d_117 := iNe c_113
        replace hg := gt_neg (by first | exact d_117 | omega) hg
        refine y_Tape_byteAtg hok hw ra hR (fun r_118 u_119 gn_120 => ⟨r_118, I, L, rfl, rfl, ?_⟩)
        replace hg := gt_let gn_120 hg
        clear gn_120
        have j_121 := iEq (u_119.trans u_110.symm)
        have l_122 : (10 : Int32).toInt = 10 := rfl
        refine ⟨fun c_123 => ?_, fun c_123 => ?_⟩
        · have d_124 := iNe c_123
          replace hg := gt_neg (by first | exact d_124 | omega) hg
          unfold fTape_cutToken_36
          replace hg := (eTape_cutToken_36).symm.trans hg
          refine ⟨tIn (by omega) (by omega), fun I_125 e_126 => ?_⟩
          replace hg := gt_let (y := tI I_125) (tI_q e_126) hg
          have hR_127 : RI R I_125 := hR.up ra 4 (by decide) (Or.inl rfl) e_126 (i_lo _) (i_hi _)
          have hf_128 : Fm (fun c => c = o + 3 ∨ c = o + 4 ∨ c = o + 5) I0 I_125 := hf.set (by first | rfl | omega | (dsimp only; omega)) e_126
          have t_129 : (I_125 o 6).toInt = (I o 6).toInt := by rw [← e_126, q_u_ne (by omega)]
          have k_130 : TokX I_125 o p1.toNatClampNeg := hi3.fr (by rw [← e_126]; exact q_u_ne (by omega)) (by rw [← e_126]; exact q_u_ne (by omega))
          have n_131 : (I_125 (o + 3) p1.toNatClampNeg).toInt = (I (o + 3) p1.toNatClampNeg).toInt := by rw [← e_126, q_u_ne (by omega)]
          have l_132 : (-1 : Int32).toInt = -1 := rfl
          refine ⟨tIn (by omega) (by omega), fun I_133 e_134 => ?_⟩
          replace hg := gt_let (y := tI I_133) (tI_q e_134) hg
          have hR_135 : RI R I_133 := hR_127.up ra 5 (by decide) (Or.inl rfl) e_134 (i_lo _) (i_hi _)
          have hf_136 : Fm (fun c => c = o + 3 ∨ c = o + 4 ∨ c = o + 5) I0 I_133 := hf_128.set (by first | rfl | omega | (dsimp only; omega)) e_134
          have t_137 : (I_133 o 6).toInt = (I_125 o 6).toInt := by rw [← e_134, q_u_ne (by omega)]
          have k_138 : TokX I_133 o p1.toNatClampNeg := k_130.put5 e_134 (by rfl)
          have n_139 : (I_133 (o + 3) p1.toNatClampNeg).toInt = (I_125 (o + 3) p1.toNatClampNeg).toInt := by rw [← e_134, q_u_ne (by omega)]
          have g_140 : (0 : Int) ≤ (I_133 o 6).toInt ∧ (I_133 o 6).toInt ≤ 1600 := hR_135.at0 ra 6 (by decide)
          replace hg := gt_let (y := (I_133 o 6).toInt) rfl hg
          refine ⟨fun c_141 => ?_, fun c_141 => ?_⟩
          · have d_142 := iLt c_141
            replace hg := gt_pos (by first | exact d_142 | omega) hg
            refine y_Tape_byteAtg hok hw ra hR_135 (fun r_143 u_144 gn_145 => ⟨r_143, I_133, L, rfl, rfl, ?_⟩)
            replace hg := gt_let gn_145 hg
            clear gn_145
            refine y_Tape_isLetterg hok hR_135 (fun r_146 u_147 u_148 gn_149 => ⟨r_146, I_133, L, rfl, rfl, ?_⟩)
            replace hg := gt_let gn_149 hg
            clear gn_149
            have b_150 : 0 ≤ r_146.toInt ∧ r_146.toInt ≤ 1 := u_147.rg
            have l_151 : (0 : Int32).toInt = 0 := rfl
            refine ⟨fun c_152 => ?_, fun c_152 => ?_⟩
            · have d_153 := iEq c_152
              replace hg := gt_pos (by first | exact d_153 | omega) hg
              refine y_Tape_byteAtg hok hw ra hR_135 (fun r_154 u_155 gn_156 => ⟨r_154, I_133, L, rfl, rfl, ?_⟩)
              replace hg := gt_let gn_156 hg
              clear gn_156
              have j_157 := iEq (u_155.trans u_144.symm)
              refine y_Tape_isDigitg hok hR_135 (fun r_158 u_159 u_160 gn_161 => ⟨r_158, I_133, L, rfl, rfl, ?_⟩)
              replace hg := gt_let gn_161 hg
              clear gn_161
              have b_162 : 0 ≤ r_158.toInt ∧ r_158.toInt ≤ 1 := u_159.rg
              refine ⟨fun c_163 => ?_, fun c_163 => ?_⟩
              · have d_164 := iEq c_163
                replace hg := gt_pos (by first | exact d_164 | omega) hg
                exact y_cut128g hw ra hR_135 (by omega) (by omega) k_138 (fun r I' hR' ne rr tk eg => hp r I' _ hR' (hf_136.call (M' := fun c => c = o + 3 ∨ c = o + 5) (fun c hc => ne c (fun q => hc (Or.inl q)) (fun q => hc (Or.inr q))) (fun c hc => by first | (dsimp only at hc ⊢; omega) | omega)) rr tk (hg.symm.trans eg) hl)
              · have d_165 := iNe c_163
                replace hg := gt_neg (by first | exact d_165 | omega) hg
                refine y_Tape_cutNumberg hok hw ra (by first | omega | (intro h; omega) | exact Or.inl rfl | exact Or.inr rfl) (by first | omega | (intro h; omega) | exact Or.inl rfl | exact Or.inr rfl) k_138 hR_135 (fun r_166 I_171 L_172 hR_173 fr_174 u_167 u_168 gn_169 ln_170 => ⟨r_166, I_171, L_172, rfl, rfl, ?_⟩)
                replace hl := hl.call ln_170 (fun c hc => by first | exact hc | exact False.elim hc | (dsimp only at hc ⊢; omega) | omega)
                replace hg := gt_b3 gn_169 hg
                clear gn_169
                have hf_175 : Fm (fun c => c = o + 3 ∨ c = o + 4 ∨ c = o + 5) I0 I_171 := hf_136.call fr_174 (fun c hc => by first | exact hc | (dsimp only at hc ⊢; omega) | omega)
                have t_176 : (I_171 o 6).toInt = (I_133 o 6).toInt := by rw [fr_174 o (by first | omega | (dsimp only; omega))]
                exact (hp _ _ _ hR_173 hf_175 (by first | omega | (intro h; omega) | exact Or.inl rfl | exact Or.inr rfl) u_168 hg.symm hl)
            · have d_177 := iNe c_152
              replace hg := gt_neg (by first | exact d_177 | omega) hg
              replace hg := gt_let (y := (I_133 o 9).toInt) rfl hg
              refine ⟨fun c_178 => ?_, fun c_178 => ?_⟩
              · have d_179 := iEq c_178
                replace hg := gt_pos (by first | exact d_179 | omega) hg
                refine y_Tape_cutWordg hok hw ra (by first | omega | (intro h; omega) | exact Or.inl rfl | exact Or.inr rfl) (by first | omega | (intro h; omega) | exact Or.inl rfl | exact Or.inr rfl) k_138 hR_135 (fun r_180 I_185 L_186 hR_187 fr_188 u_181 u_182 gn_183 ln_184 => ⟨r_180, I_185, L_186, rfl, rfl, ?_⟩)
                replace hl := hl.call ln_184 (fun c hc => by first | exact hc | exact False.elim hc | (dsimp only at hc ⊢; omega) | omega)
                replace hg := gt_b3 gn_183 hg
                clear gn_183
                have hf_189 : Fm (fun c => c = o + 3 ∨ c = o + 4 ∨ c = o + 5) I0 I_185 := hf_136.call fr_188 (fun c hc => by first | exact hc | (dsimp only at hc ⊢; omega) | omega)
                have t_190 : (I_185 o 6).toInt = (I_133 o 6).toInt := by rw [fr_188 o (by first | omega | (dsimp only; omega))]
                exact (hp _ _ _ hR_187 hf_189 (by first | omega | (intro h; omega) | exact Or.inl rfl | exact Or.inr rfl) u_182 hg.symm hl)
              · have d_191 := iNe c_178
                replace hg := gt_neg (by first | exact d_191 | omega) hg
                refine y_Tape_placeAtg hok hw ra hR_135 (fun r_192 u_193 gn_194 => ⟨r_192, I_133, L, rfl, rfl, ?_⟩)
                replace hg := gt_let gn_194 hg
                clear gn_194
                refine ⟨fun c_195 => ?_, fun c_195 => ?_⟩
                · have d_196 := iEq c_195
                  replace hg := gt_pos (by first | exact d_196 | omega) hg
                  refine y_Tape_cutWordg hok hw ra (by first | omega | (intro h; omega) | exact Or.inl rfl | exact Or.inr rfl) (by first | omega | (intro h; omega) | exact Or.inl rfl | exact Or.inr rfl) k_138 hR_135 (fun r_197 I_202 L_203 hR_204 fr_205 u_198 u_199 gn_200 ln_201 => ⟨r_197, I_202, L_203, rfl, rfl, ?_⟩)
                  replace hl := hl.call ln_201 (fun c hc => by first | exact hc | exact False.elim hc | (dsimp only at hc ⊢; omega) | omega)
                  replace hg := gt_b3 gn_200 hg
                  clear gn_200
                  have hf_206 : Fm (fun c => c = o + 3 ∨ c = o + 4 ∨ c = o + 5) I0 I_202 := hf_136.call fr_205 (fun c hc => by first | exact hc | (dsimp only at hc ⊢; omega) | omega)
                  have t_207 : (I_202 o 6).toInt = (I_133 o 6).toInt := by rw [fr_205 o (by first | omega | (dsimp only; omega))]
                  exact (hp _ _ _ hR_204 hf_206 (by first | omega | (intro h; omega) | exact Or.inl rfl | exact Or.inr rfl) u_199 hg.symm hl)
                · have d_208 := iNe c_195
                  replace hg := gt_neg (by first | exact d_208 | omega) hg
                  refine y_Tape_cutPlaceg hok hw ra (by first | omega | (intro h; omega) | exact Or.inl rfl | exact Or.inr rfl) (by first | omega | (intro h; omega) | exact Or.inl rfl | exact Or.inr rfl) (by have pe := u_193; have pr : -1 ≤ r_192.toInt := (by rw [pe]; exact (pl_rg _ _ _).1); rw [← pe]; omega) k_138 hR_135 (fun r_209 I_214 L_215 hR_216 fr_217 u_210 u_211 gn_212 ln_213 => ⟨r_209, I_214, L_215, rfl, rfl, ?_⟩)
                  replace hl := hl.call ln_213 (fun c hc => by first | exact hc | exact False.elim hc | (dsimp only at hc ⊢; omega) | omega)
                  replace hg := gt_b3 gn_212 hg
                  clear gn_212
                  have hf_218 : Fm (fun c => c = o + 3 ∨ c = o + 4 ∨ c = o + 5) I0 I_214 := hf_136.call fr_217 (fun c hc => by first | exact hc | (dsimp only at hc ⊢; omega) | omega)
                  have t_219 : (I_214 o 6).toInt = (I_133 o 6).toInt := by rw [fr_217 o (by first | omega | (dsimp only; omega))]
                  exact (hp _ _ _ hR_216 hf_218 (by first | omega | (intro h; omega) | exact Or.inl rfl | exact Or.inr rfl) u_211 hg.symm hl)
          · have d_220 := iNlt c_141
            replace hg := gt_neg (by first | exact d_220 | omega) hg
            have l_221 : (0 : Int32).toInt = 0 := rfl
            refine ⟨tIn (by omega) (by omega), fun I_222 e_223 => ?_⟩
            replace hg := gt_let (y := tI I_222) (tI_q e_223) hg
            have hR_224 : RI R I_222 := hR_135.up ra 3 (by decide) (Or.inl rfl) e_223 (i_lo _) (i_hi _)
            have hf_225 : Fm (fun c => c = o + 3 ∨ c = o + 4 ∨ c = o + 5) I0 I_222 := hf_136.set (by first | rfl | omega | (dsimp only; omega)) e_223
            have t_226 : (I_222 o 6).toInt = (I_133 o 6).toInt := by rw [← e_223, q_u_ne (by omega)]
            have k_227 : TokX I_222 o p1.toNatClampNeg := k_138.put3 e_223 (by rfl)
            have n_228 : (I_222 (o + 3) p1.toNatClampNeg).toInt = (0 : Int32).toInt := by rw [← e_223, q_u_at]
            exact (hp _ _ _ hR_224 hf_225 (by first | omega | (intro h; omega) | exact Or.inl rfl | exact Or.inr rfl) (TokX.all k_227 (by unfold TokAt; exact ⟨fun h => by omega, fun h => by omega⟩)) hg.symm hl)
        · have d_229 := iEq c_123
          replace hg := gt_pos (by first | exact d_229 | omega) hg
          unfold fTape_cutToken_30
          replace hg := (eTape_cutToken_30).symm.trans hg
          have a_231 : (x3 + Int32.ofInt 1).toInt = x3.toInt + (1) := tIc (by omega) (by omega) (by decide) (by decide)
          generalize ez_230 : (x3 + Int32.ofInt 1) = z_230 at a_231 ⊢
          replace hg := gt_let (y := z_230.toInt) (by omega) hg
          exact ih hR hf (by first | omega | (intro h; omega) | exact Or.inl rfl | exact Or.inr rfl) rfl rfl hi3 hl hg (by omega)
set_option maxHeartbeats 4000000 in
set_option maxRecDepth 20000 in
theorem y_Tape_cutTokeng {D : va_G} {cA : FieldType → ClassId} {b : Nat} {kS vS : Nat → Nat} {xb xl : Nat} {xs : Nat → Int32} {R : qRg} {o n : Nat} {sh : Nat → qC} {Rf : Nat → Nat → Option Nat} {I0 : Nat → Nat → Int32} {L0 : Nat → Nat → Int64} {post : Option Value → qS → Prop} {p1 : Int32} {p2 : Int32} (hok : q_ok (qGG D cA b (qEx b kS vS xb xl xs))) (hw : WfTape (qGG D cA b (qEx b kS vS xb xl xs)) n sh Rf o) (ra : RATape R o) (hq0 : (0 : Int) ≤ p1.toInt ∧ p1.toInt ≤ 1600) (hq1 : (0 : Int) ≤ p2.toInt ∧ p2.toInt ≤ 1603) (hq2 : TokOK I0 o) (hR : RI R I0) (hp : ∀ (r : Int32) (I' : Nat → Nat → Int32) (L' : Nat → Nat → Int64), RI R I' → Fm (fun c => c = o + 3 ∨ c = o + 4 ∨ c = o + 5) I0 I' → (((0 : Int) ≤ r.toInt ∧ r.toInt ≤ 1603)) → (TokOK I' o) → (gTape_cutToken_0 o (tI I0) L0 (p1).toInt (p2).toInt = (r.toInt, tI I', L')) → (FmL (fun c => c = (o + 6)) L0 L') → post (some (.int r)) (n, sh, Rf, I', L')) : Ev (qGG D cA b (qEx b kS vS xb xl xs)) mTape_cutToken 8 (0, 0) 0 (lv_args 0 [.ref o, .int p1, .int p2]) [] (n, sh, Rf, I0, L0) post := by
  have hf : Fm (fun c => c = o + 3 ∨ c = o + 4 ∨ c = o + 5) I0 I0 := Fm.rf
  refine sTape_cutToken_0 o n sh Rf I0 L0 post p1 p2 hok hw ?_
  unfold fTape_cutToken_0
  have hl : FmL (fun c => c = (o + 6)) L0 L0 := FmL.rf
  have hg : gTape_cutToken_0 o (tI I0) L0 (p1).toInt (p2).toInt = gTape_cutToken_0 o (tI I0) L0 (p1).toInt (p2).toInt := rfl
  replace hg := (eTape_cutToken_0).symm.trans hg
  have k_232 : TokX I0 o p1.toNatClampNeg := by exact hq2.but _
  exact yTape_cutToken_2g (I0 := I0) (L0 := L0) (p1 := p1) (p2 := p2) hok hw ra hq0 hq1 hq2 hp  20000 hR hf (by first | omega | (intro h; omega) | exact Or.inl rfl | exact Or.inr rfl) rfl rfl k_232 hl hg (by omega)
noncomputable def gTape_startReading_68 (K22 : gJ → gL → Int → Int → Int → Int → (Int × gJ × gL)) (o : Nat) (J : gJ) (L : gL) (x1 : Int) (x2 : Int) (x3 : Int) (x4 : Int) (z0 : Int) : Int × gJ × gL := gLet (x4 + 1) (fun (v_1 : Int) => (K22 J L x1 x2 z0 v_1))
theorem eTape_startReading_68 {K22 : gJ → gL → Int → Int → Int → Int → (Int × gJ × gL)} {o : Nat} {J : gJ} {L : gL} {x1 : Int} {x2 : Int} {x3 : Int} {x4 : Int} {z0 : Int} : gTape_startReading_68 K22 o J L x1 x2 x3 x4 z0 = gLet (x4 + 1) (fun (v_1 : Int) => (K22 J L x1 x2 z0 v_1)) := rfl
noncomputable def gTape_startReading_67 (K22 : gJ → gL → Int → Int → Int → Int → (Int × gJ × gL)) (o : Nat) (J : gJ) (L : gL) (x1 : Int) (x2 : Int) (x3 : Int) (x4 : Int) : Int × gJ × gL := (gTape_startReading_68 K22 o J L x1 x2 x3 x4 0)
theorem eTape_startReading_67 {K22 : gJ → gL → Int → Int → Int → Int → (Int × gJ × gL)} {o : Nat} {J : gJ} {L : gL} {x1 : Int} {x2 : Int} {x3 : Int} {x4 : Int} : gTape_startReading_67 K22 o J L x1 x2 x3 x4 = (gTape_startReading_68 K22 o J L x1 x2 x3 x4 0) := rfl
noncomputable def gTape_startReading_22 (k : Nat) (o : Nat) (J : gJ) (L : gL) (x1 : Int) (x2 : Int) (x3 : Int) (x4 : Int) : Int × gJ × gL := match k with
  | 0 => default
  | k + 1 => (if 1601 ≤ x4 then gLet (q_u J o 10 0) (fun (J_1 : gJ) => (0, J_1, L)) else (if x3 = 0 then gLet (q_u J o 10 0) (fun (J_2 : gJ) => (0, J_2, L)) else gB3 (gTape_cutToken_0 o J L x4 x2) (fun r_3 J_4 L_5 => gLet (J_4 (o + 3) (Int.toNat x4)) (fun (v_6 : Int) => (if v_6 = 0 then (gTape_startReading_67 (gTape_startReading_22 k o) o J_4 L_5 x1 r_3 x3 x4) else gLet (J_4 (o + 3) (Int.toNat x4)) (fun (v_7 : Int) => (if v_7 = 5 then (gTape_startReading_67 (gTape_startReading_22 k o) o J_4 L_5 x1 r_3 x3 x4) else (gTape_startReading_68 (gTape_startReading_22 k o) o J_4 L_5 x1 r_3 x3 x4 1))))))))
theorem eTape_startReading_22 {k : Nat} {o : Nat} {J : gJ} {L : gL} {x1 : Int} {x2 : Int} {x3 : Int} {x4 : Int} : gTape_startReading_22 (k + 1) o J L x1 x2 x3 x4 = (if 1601 ≤ x4 then gLet (q_u J o 10 0) (fun (J_1 : gJ) => (0, J_1, L)) else (if x3 = 0 then gLet (q_u J o 10 0) (fun (J_2 : gJ) => (0, J_2, L)) else gB3 (gTape_cutToken_0 o J L x4 x2) (fun r_3 J_4 L_5 => gLet (J_4 (o + 3) (Int.toNat x4)) (fun (v_6 : Int) => (if v_6 = 0 then (gTape_startReading_67 (gTape_startReading_22 k o) o J_4 L_5 x1 r_3 x3 x4) else gLet (J_4 (o + 3) (Int.toNat x4)) (fun (v_7 : Int) => (if v_7 = 5 then (gTape_startReading_67 (gTape_startReading_22 k o) o J_4 L_5 x1 r_3 x3 x4) else (gTape_startReading_68 (gTape_startReading_22 k o) o J_4 L_5 x1 r_3 x3 x4 1)))))))) := rfl
noncomputable def gTape_startReading_0 (o : Nat) (J : gJ) (L : gL) (x1 : Int) : Int × gJ × gL := gLet (q_u J o 9 x1) (fun (J_1 : gJ) => gLet (q_u J_1 o 7 0) (fun (J_2 : gJ) => gLet (q_u J_2 o 8 (-1)) (fun (J_3 : gJ) => (gTape_startReading_22 20000 o J_3 L x1 0 1 0))))
theorem eTape_startReading_0 {o : Nat} {J : gJ} {L : gL} {x1 : Int} : gTape_startReading_0 o J L x1 = gLet (q_u J o 9 x1) (fun (J_1 : gJ) => gLet (q_u J_1 o 7 0) (fun (J_2 : gJ) => gLet (q_u J_2 o 8 (-1)) (fun (J_3 : gJ) => (gTape_startReading_22 20000 o J_3 L x1 0 1 0)))) := rfl
set_option maxHeartbeats 4000000 in
set_option maxRecDepth 20000 in
theorem yTape_startReading_22g {D : va_G} {cA : FieldType → ClassId} {b : Nat} {kS vS : Nat → Nat} {xb xl : Nat} {xs : Nat → Int32} {R : qRg} {o n : Nat} {sh : Nat → qC} {Rf : Nat → Nat → Option Nat} {I0 : Nat → Nat → Int32} {L0 : Nat → Nat → Int64} {post : Option Value → qS → Prop} {p1 : Int32} (hok : q_ok (qGG D cA b (qEx b kS vS xb xl xs))) (hw : WfTape (qGG D cA b (qEx b kS vS xb xl xs)) n sh Rf o) (ra : RATape R o) (hq0 : p1 = 0 ∨ p1 = 1) (hq1 : TokOK I0 o) (hp : ∀ (I' : Nat → Nat → Int32) (L' : Nat → Nat → Int64), RI R I' → Fm (fun c => (o ≤ c ∧ c < o + 7)) I0 I' → (TokOK I' o) → (gTape_startReading_0 o (tI I0) L0 (p1).toInt = (0, tI I', L')) → (FmL (fun c => c = (o + 6)) L0 L') → post none (n, sh, Rf, I', L')) : ∀ (k : Nat) {x1 : Int32} {x2 : Int32} {x3 : Int32} {x4 : Int32} {I : Nat → Nat → Int32} {L : Nat → Nat → Int64}, RI R I → Fm (fun c => (o ≤ c ∧ c < o + 7)) I0 I → ((0 : Int) ≤ x2.toInt ∧ x2.toInt ≤ 1603) → ((0 : Int) ≤ x4.toInt ∧ x4.toInt ≤ 1601) → (TokOK I o) → (FmL (fun c => c = (o + 6)) L0 L) → (gTape_startReading_22 k o (tI I) L (x1).toInt (x2).toInt (x3).toInt (x4).toInt = gTape_startReading_0 o (tI I0) L0 (p1).toInt) → (1601 - x4.toInt).toNat < k → Ev (qGG D cA b (qEx b kS vS xb xl xs)) mTape_startReading 9 (0, 0) 22 [(0, .ref o), (1, .int x1), (2, .int x2), (3, .int x3), (4, .int x4)] [] (n, sh, Rf, I, L) post := by
  intro k
  induction k with
  | zero =>
    intro x1 x2 x3 x4 I L hR hf hi0 hi1 hi2 hl hg hm
    exact absurd hm (Nat.not_lt_zero _)
  | succ k ih =>
    intro x1 x2 x3 x4 I L hR hf hi0 hi1 hi2 hl hg hm
    refine sTape_startReading_22 o n sh Rf I L post x1 x2 x3 x4 hok hw ?_
    unfold fTape_startReading_22
    replace hg := (eTape_startReading_22).symm.trans hg
    have l_1 : (1601 : Int32).toInt = 1601 := rfl
    refine ⟨fun c_2 => ?_, fun c_2 => ?_⟩
    · have d_3 := iLe c_2
      replace hg := gt_pos (by first | exact d_3 | omega) hg
      have l_4 : (0 : Int32).toInt = 0 := rfl
      refine fun I_5 e_6 => ?_
      replace hg := gt_let (y := tI I_5) (tI_q e_6) hg
      have hR_7 : RI R I_5 := hR.up0 (k := 10) ra (by decide) (Or.inl rfl) e_6 (show (0 : Int) ≤ (0 : Int32).toInt by omega) (show (0 : Int32).toInt ≤ (1600 : Int) by omega)
      have hf_8 : Fm (fun c => (o ≤ c ∧ c < o + 7)) I0 I_5 := hf.set (by first | rfl | omega | (dsimp only; omega)) e_6
      have t_9 : (I_5 o 10).toInt = (0 : Int32).toInt := by rw [← e_6, q_u_at]
      have k_10 : TokOK I_5 o := hi2.fr (by rw [← e_6]; exact q_u_ne (by omega)) (by rw [← e_6]; exact q_u_ne (by omega))
      exact (hp _ _ hR_7 hf_8  k_10 hg.symm hl)
    · have d_11 := iNle c_2
      replace hg := gt_neg (by first | exact d_11 | omega) hg
      have l_12 : (0 : Int32).toInt = 0 := rfl
      refine ⟨fun c_13 => ?_, fun c_13 => ?_⟩
      · have d_14 := iEq c_13
        replace hg := gt_pos (by first | exact d_14 | omega) hg
        refine fun I_15 e_16 => ?_
        replace hg := gt_let (y := tI I_15) (tI_q e_16) hg
        have hR_17 : RI R I_15 := hR.up0 (k := 10) ra (by decide) (Or.inl rfl) e_16 (show (0 : Int) ≤ (0 : Int32).toInt by omega) (show (0 : Int32).toInt ≤ (1600 : Int) by omega)
        have hf_18 : Fm (fun c => (o ≤ c ∧ c < o + 7)) I0 I_15 := hf.set (by first | rfl | omega | (dsimp only; omega)) e_16
        have t_19 : (I_15 o 10).toInt = (0 : Int32).toInt := by rw [← e_16, q_u_at]
        have k_20 : TokOK I_15 o := hi2.fr (by rw [← e_16]; exact q_u_ne (by omega)) (by rw [← e_16]; exact q_u_ne (by omega))
        exact (hp _ _ hR_17 hf_18  k_20 hg.symm hl)
      · have d_21 := iNe c_13
        replace hg := gt_neg (by first | exact d_21 | omega) hg
        refine y_Tape_cutTokeng hok hw ra (by first | omega | (intro h; omega) | exact Or.inl rfl | exact Or.inr rfl) (by first | omega | (intro h; omega) | exact Or.inl rfl | exact Or.inr rfl) hi2 hR (fun r_22 I_27 L_28 hR_29 fr_30 u_23 u_24 gn_25 ln_26 => ⟨r_22, I_27, L_28, rfl, rfl, ?_⟩)
        replace hl := hl.call ln_26 (fun c hc => by first | exact hc | exact False.elim hc | (dsimp only at hc ⊢; omega) | omega)
        replace hg := gt_b3 gn_25 hg
        clear gn_25
        have hf_31 : Fm (fun c => (o ≤ c ∧ c < o + 7)) I0 I_27 := hf.call fr_30 (fun c hc => by first | exact hc | (dsimp only at hc ⊢; omega) | omega)
        refine ⟨tIn (by omega) (by omega), ?_⟩
        replace hg := gt_let (y := (I_27 (o + 3) (x4 : Int32).toNatClampNeg).toInt) rfl hg
        refine ⟨fun c_32 => ?_, fun c_32 => ?_⟩
        · have d_33 := iEq c_32
          replace hg := gt_pos (by first | exact d_33 | omega) hg
          unfold fTape_startReading_67
          replace hg := (eTape_startReading_67).symm.trans hg
          unfold fTape_startReading_68
          replace hg := (eTape_startReading_68).symm.trans hg
          have a_35 : (x4 + Int32.ofInt 1).toInt = x4.toInt + (1) := tIc (by omega) (by omega) (by decide) (by decide)
          generalize ez_34 : (x4 + Int32.ofInt 1) = z_34 at a_35 ⊢
          replace hg := gt_let (y := z_34.toInt) (by omega) hg
          exact ih hR_29 hf_31 (by first | omega | (intro h; omega) | exact Or.inl rfl | exact Or.inr rfl) (by first | omega | (intro h; omega) | exact Or.inl rfl | exact Or.inr rfl) u_24 hl hg (by omega)
        · have d_36 := iNe c_32
          replace hg := gt_neg (by first | exact d_36 | omega) hg
          refine ⟨tIn (by omega) (by omega), ?_⟩
          replace hg := gt_let (y := (I_27 (o + 3) (x4 : Int32).toNatClampNeg).toInt) rfl hg
          have l_37 : (5 : Int32).toInt = 5 := rfl
          refine ⟨fun c_38 => ?_, fun c_38 => ?_⟩
          · have d_39 := iEq c_38
            replace hg := gt_pos (by first | exact d_39 | omega) hg
            unfold fTape_startReading_67
            replace hg := (eTape_startReading_67).symm.trans hg
            unfold fTape_startReading_68
            replace hg := (eTape_startReading_68).symm.trans hg
            have a_41 : (x4 + Int32.ofInt 1).toInt = x4.toInt + (1) := tIc (by omega) (by omega) (by decide) (by decide)
            generalize ez_40 : (x4 + Int32.ofInt 1) = z_40 at a_41 ⊢
            replace hg := gt_let (y := z_40.toInt) (by omega) hg
            exact ih hR_29 hf_31 (by first | omega | (intro h; omega) | exact Or.inl rfl | exact Or.inr rfl) (by first | omega | (intro h; omega) | exact Or.inl rfl | exact Or.inr rfl) u_24 hl hg (by omega)
          · have d_42 := iNe c_38
            replace hg := gt_neg (by first | exact d_42 | omega) hg
            unfold fTape_startReading_68
            replace hg := (eTape_startReading_68).symm.trans hg
            have l_43 : (1 : Int32).toInt = 1 := rfl
            have a_45 : (x4 + Int32.ofInt 1).toInt = x4.toInt + (1) := tIc (by omega) (by omega) (by decide) (by decide)
            generalize ez_44 : (x4 + Int32.ofInt 1) = z_44 at a_45 ⊢
            replace hg := gt_let (y := z_44.toInt) (by omega) hg
            exact ih hR_29 hf_31 (by first | omega | (intro h; omega) | exact Or.inl rfl | exact Or.inr rfl) (by first | omega | (intro h; omega) | exact Or.inl rfl | exact Or.inr rfl) u_24 hl hg (by omega)
set_option maxHeartbeats 4000000 in
set_option maxRecDepth 20000 in
theorem y_Tape_startReadingg {D : va_G} {cA : FieldType → ClassId} {b : Nat} {kS vS : Nat → Nat} {xb xl : Nat} {xs : Nat → Int32} {R : qRg} {o n : Nat} {sh : Nat → qC} {Rf : Nat → Nat → Option Nat} {I0 : Nat → Nat → Int32} {L0 : Nat → Nat → Int64} {post : Option Value → qS → Prop} {p1 : Int32} (hok : q_ok (qGG D cA b (qEx b kS vS xb xl xs))) (hw : WfTape (qGG D cA b (qEx b kS vS xb xl xs)) n sh Rf o) (ra : RATape R o) (hq0 : p1 = 0 ∨ p1 = 1) (hq1 : TokOK I0 o) (hR : RI R I0) (hp : ∀ (I' : Nat → Nat → Int32) (L' : Nat → Nat → Int64), RI R I' → Fm (fun c => (o ≤ c ∧ c < o + 7)) I0 I' → (TokOK I' o) → (gTape_startReading_0 o (tI I0) L0 (p1).toInt = (0, tI I', L')) → (FmL (fun c => c = (o + 6)) L0 L') → post none (n, sh, Rf, I', L')) : Ev (qGG D cA b (qEx b kS vS xb xl xs)) mTape_startReading 9 (0, 0) 0 (lv_args 0 [.ref o, .int p1]) [] (n, sh, Rf, I0, L0) post := by
  have hf : Fm (fun c => (o ≤ c ∧ c < o + 7)) I0 I0 := Fm.rf
  refine sTape_startReading_0 o n sh Rf I0 L0 post p1 hok hw ?_
  unfold fTape_startReading_0
  have hl : FmL (fun c => c = (o + 6)) L0 L0 := FmL.rf
  have hg : gTape_startReading_0 o (tI I0) L0 (p1).toInt = gTape_startReading_0 o (tI I0) L0 (p1).toInt := rfl
  replace hg := (eTape_startReading_0).symm.trans hg
  refine ⟨hq0, fun I_46 e_47 => ?_⟩
  replace hg := gt_let (y := tI I_46) (tI_q e_47) hg
  have hR_48 : RI R I_46 := hR.up0 (k := 9) ra (by decide) (Or.inl rfl) e_47 (i_lo _) (i_hi _)
  have hf_49 : Fm (fun c => (o ≤ c ∧ c < o + 7)) I0 I_46 := hf.set (by first | rfl | omega | (dsimp only; omega)) e_47
  have k_50 : TokOK I_46 o := hq1.fr (by rw [← e_47]; exact q_u_ne (by omega)) (by rw [← e_47]; exact q_u_ne (by omega))
  have l_51 : (0 : Int32).toInt = 0 := rfl
  refine fun I_52 e_53 => ?_
  replace hg := gt_let (y := tI I_52) (tI_q e_53) hg
  have hR_54 : RI R I_52 := hR_48.up0 (k := 7) ra (by decide) (Or.inl rfl) e_53 (show (0 : Int) ≤ (0 : Int32).toInt by omega) (show (0 : Int32).toInt ≤ (5 : Int) by omega)
  have hf_55 : Fm (fun c => (o ≤ c ∧ c < o + 7)) I0 I_52 := hf_49.set (by first | rfl | omega | (dsimp only; omega)) e_53
  have t_56 : (I_52 o 7).toInt = (0 : Int32).toInt := by rw [← e_53, q_u_at]
  have k_57 : TokOK I_52 o := k_50.fr (by rw [← e_53]; exact q_u_ne (by omega)) (by rw [← e_53]; exact q_u_ne (by omega))
  have l_58 : (-1 : Int32).toInt = -1 := rfl
  refine fun I_59 e_60 => ?_
  replace hg := gt_let (y := tI I_59) (tI_q e_60) hg
  have hR_61 : RI R I_59 := hR_54.up0 (k := 8) ra (by decide) (Or.inl rfl) e_60 (i_lo _) (i_hi _)
  have hf_62 : Fm (fun c => (o ≤ c ∧ c < o + 7)) I0 I_59 := hf_55.set (by first | rfl | omega | (dsimp only; omega)) e_60
  have t_63 : (I_59 o 7).toInt = (I_52 o 7).toInt := by rw [← e_60, q_u_k (by decide)]
  have k_64 : TokOK I_59 o := k_57.fr (by rw [← e_60]; exact q_u_ne (by omega)) (by rw [← e_60]; exact q_u_ne (by omega))
  have l_65 : (1 : Int32).toInt = 1 := rfl
  exact yTape_startReading_22g (I0 := I0) (L0 := L0) (p1 := p1) hok hw ra hq0 hq1 hp  20000 hR_61 hf_62 (by first | omega | (intro h; omega) | exact Or.inl rfl | exact Or.inr rfl) (by first | omega | (intro h; omega) | exact Or.inl rfl | exact Or.inr rfl) k_64 hl hg (by omega)
