/-! The mirror: c4b. By program (grun.py). -/
noncomputable def gLand_read_11 (k : Nat) (o x1 : Nat) (J : gJ) (L : gL) (x2 : Int) : Int × gJ × gL := match k with
  | 0 => default
  | k + 1 => (if 1600 ≤ x2 then gB3 (gLand_shortenWays_0 o J L) (fun r_1 J_2 L_3 => (1, J_2, L_3)) else gLet (gTape_atEnd_0 x1 J L) (fun (r_4 : Int) => (if r_4 = 0 then gB3 (gLand_readLine_0 o x1 J L) (fun r_8 J_9 L_10 => (if r_8 = 0 then (0, J_9, L_10) else gLet (x2 + 1) (fun (v_11 : Int) => (gLand_read_11 k o x1 J_9 L_10 v_11)))) else gB3 (gLand_shortenWays_0 o J L) (fun r_5 J_6 L_7 => (1, J_6, L_7)))))
theorem eLand_read_11 {k : Nat} {o x1 : Nat} {J : gJ} {L : gL} {x2 : Int} : gLand_read_11 (k + 1) o x1 J L x2 = (if 1600 ≤ x2 then gB3 (gLand_shortenWays_0 o J L) (fun r_1 J_2 L_3 => (1, J_2, L_3)) else gLet (gTape_atEnd_0 x1 J L) (fun (r_4 : Int) => (if r_4 = 0 then gB3 (gLand_readLine_0 o x1 J L) (fun r_8 J_9 L_10 => (if r_8 = 0 then (0, J_9, L_10) else gLet (x2 + 1) (fun (v_11 : Int) => (gLand_read_11 k o x1 J_9 L_10 v_11)))) else gB3 (gLand_shortenWays_0 o J L) (fun r_5 J_6 L_7 => (1, J_6, L_7))))) := rfl
noncomputable def gLand_read_0 (o x1 : Nat) (J : gJ) (L : gL) : Int × gJ × gL := gB3 (gLand_clear_0 o J L) (fun r_1 J_2 L_3 => gB3 (gTape_startReading_0 x1 J_2 L_3 1) (fun r_4 J_5 L_6 => (gLand_read_11 20000 o x1 J_5 L_6 0)))
theorem eLand_read_0 {o x1 : Nat} {J : gJ} {L : gL} : gLand_read_0 o x1 J L  = gB3 (gLand_clear_0 o J L) (fun r_1 J_2 L_3 => gB3 (gTape_startReading_0 x1 J_2 L_3 1) (fun r_4 J_5 L_6 => (gLand_read_11 20000 o x1 J_5 L_6 0))) := rfl
set_option maxHeartbeats 4000000 in
set_option maxRecDepth 20000 in
theorem yLand_read_11g {D : va_G} {cA : FieldType → ClassId} {b : Nat} {kS vS : Nat → Nat} {xb xl : Nat} {xs : Nat → Int32} {R : qRg} {o n : Nat} {sh : Nat → qC} {Rf : Nat → Nat → Option Nat} {I0 : Nat → Nat → Int32} {L0 : Nat → Nat → Int64} {post : Option Value → qS → Prop} {x1 : Nat} (hok : q_ok (qGG D cA b (qEx b kS vS xb xl xs))) (hw : WfLand (qGG D cA b (qEx b kS vS xb xl xs)) n sh Rf o) (ra : RALand R o) (hw1 : WfTape (qGG D cA b (qEx b kS vS xb xl xs)) n sh Rf x1) (ra1 : RATape R x1) (hs0 : o + 16 ≤ x1 ∨ x1 + 7 ≤ o) (hq0 : TokOK I0 x1) (hp : ∀ (r : Int32) (I' : Nat → Nat → Int32) (L' : Nat → Nat → Int64), RI R I' → Fm (fun c => (o ≤ c ∧ c < o + 16) ∨ (x1 ≤ c ∧ c < x1 + 7)) I0 I' → (Bz r) → (TokOK I' x1) → (gLand_read_0 o x1 (tI I0) L0 = (r.toInt, tI I', L')) → (FmL (fun c => c = (o + 1) ∨ c = (x1 + 6)) L0 L') → post (some (.int r)) (n, sh, Rf, I', L')) : ∀ (k : Nat) {x2 : Int32} {I : Nat → Nat → Int32} {L : Nat → Nat → Int64}, RI R I → Fm (fun c => (o ≤ c ∧ c < o + 16) ∨ (x1 ≤ c ∧ c < x1 + 7)) I0 I → ((0 : Int) ≤ x2.toInt ∧ x2.toInt ≤ 1600) → (TokOK I x1) → (FmL (fun c => c = (o + 1) ∨ c = (x1 + 6)) L0 L) → (gLand_read_11 k o x1 (tI I) L (x2).toInt = gLand_read_0 o x1 (tI I0) L0) → (1600 - x2.toInt).toNat < k → Ev (qGG D cA b (qEx b kS vS xb xl xs)) mLand_read 10 (0, 0) 11 [(0, .ref o), (1, .ref x1), (2, .int x2)] [] (n, sh, Rf, I, L) post := by
  intro k
  induction k with
  | zero =>
    intro x2 I L hR hf hi0 hi1 hl hg hm
    exact absurd hm (Nat.not_lt_zero _)
  | succ k ih =>
    intro x2 I L hR hf hi0 hi1 hl hg hm
    refine sLand_read_11 o n sh Rf I L post x1 x2 hok hw hw1 ?_
    unfold fLand_read_11
    replace hg := (eLand_read_11).symm.trans hg
    have l_1 : (1600 : Int32).toInt = 1600 := rfl
    refine ⟨fun c_2 => ?_, fun c_2 => ?_⟩
    · have d_3 := iLe c_2
      replace hg := gt_pos (by first | exact d_3 | omega) hg
      refine y_Land_shortenWaysg hok hw ra hR (fun I_7 L_8 hR_9 fr_10 gn_5 ln_6 => ⟨I_7, L_8, rfl, rfl, ?_⟩)
      replace hl := hl.call ln_6 (fun c hc => by first | exact hc | exact False.elim hc | (dsimp only at hc ⊢; omega) | omega)
      replace hg := gt_b3 gn_5 hg
      clear gn_5
      have hf_11 : Fm (fun c => (o ≤ c ∧ c < o + 16) ∨ (x1 ≤ c ∧ c < x1 + 7)) I0 I_7 := hf.call fr_10 (fun c hc => by first | exact hc | (dsimp only at hc ⊢; omega) | omega)
      have k_12 : TokOK I_7 x1 := hi1.fr (fr_10 _ (by first | omega | (dsimp only; omega))) (fr_10 _ (by first | omega | (dsimp only; omega)))
      have l_13 : (1 : Int32).toInt = 1 := rfl
      exact (hp _ _ _ hR_9 hf_11 (Or.inr rfl) k_12 hg.symm hl)
    · have d_14 := iNle c_2
      replace hg := gt_neg (by first | exact d_14 | omega) hg
      refine y_Tape_atEndg hok hw1 ra1 hR (fun r_15 u_16 gn_17 => ⟨r_15, I, L, rfl, rfl, ?_⟩)
      replace hg := gt_let gn_17 hg
      clear gn_17
      have b_18 : 0 ≤ r_15.toInt ∧ r_15.toInt ≤ 1 := u_16.rg
      have l_19 : (0 : Int32).toInt = 0 := rfl
      refine ⟨fun c_20 => ?_, fun c_20 => ?_⟩
      · have d_21 := iNe c_20
        replace hg := gt_neg (by first | exact d_21 | omega) hg
        refine y_Land_shortenWaysg hok hw ra hR (fun I_25 L_26 hR_27 fr_28 gn_23 ln_24 => ⟨I_25, L_26, rfl, rfl, ?_⟩)
        replace hl := hl.call ln_24 (fun c hc => by first | exact hc | exact False.elim hc | (dsimp only at hc ⊢; omega) | omega)
        replace hg := gt_b3 gn_23 hg
        clear gn_23
        have hf_29 : Fm (fun c => (o ≤ c ∧ c < o + 16) ∨ (x1 ≤ c ∧ c < x1 + 7)) I0 I_25 := hf.call fr_28 (fun c hc => by first | exact hc | (dsimp only at hc ⊢; omega) | omega)
        have k_30 : TokOK I_25 x1 := hi1.fr (fr_28 _ (by first | omega | (dsimp only; omega))) (fr_28 _ (by first | omega | (dsimp only; omega)))
        have l_31 : (1 : Int32).toInt = 1 := rfl
        exact (hp _ _ _ hR_27 hf_29 (Or.inr rfl) k_30 hg.symm hl)
      · have d_32 := iEq c_20
        replace hg := gt_pos (by first | exact d_32 | omega) hg
        refine y_Land_readLineg hok hw ra hw1 ra1 (by first | omega | (intro h; omega) | exact Or.inl rfl | exact Or.inr rfl) hi1 hR (fun r_33 I_37 L_38 hR_39 fr_40 u_34 gn_35 ln_36 => ⟨r_33, I_37, L_38, rfl, rfl, ?_⟩)
        replace hl := hl.call ln_36 (fun c hc => by first | exact hc | exact False.elim hc | (dsimp only at hc ⊢; omega) | omega)
        replace hg := gt_b3 gn_35 hg
        clear gn_35
        have hf_41 : Fm (fun c => (o ≤ c ∧ c < o + 16) ∨ (x1 ≤ c ∧ c < x1 + 7)) I0 I_37 := hf.call fr_40 (fun c hc => by first | exact hc | (dsimp only at hc ⊢; omega) | omega)
        have k_42 : TokOK I_37 x1 := hi1.fr (fr_40 _ (by first | omega | (dsimp only; omega))) (fr_40 _ (by first | omega | (dsimp only; omega)))
        have b_43 : 0 ≤ r_33.toInt ∧ r_33.toInt ≤ 1 := u_34.rg
        refine ⟨fun c_44 => ?_, fun c_44 => ?_⟩
        · have d_45 := iNe c_44
          replace hg := gt_neg (by first | exact d_45 | omega) hg
          have a_47 : (x2 + Int32.ofInt 1).toInt = x2.toInt + (1) := tIc (by omega) (by omega) (by decide) (by decide)
          generalize ez_46 : (x2 + Int32.ofInt 1) = z_46 at a_47 ⊢
          replace hg := gt_let (y := z_46.toInt) (by omega) hg
          exact ih hR_39 hf_41 (by first | omega | (intro h; omega) | exact Or.inl rfl | exact Or.inr rfl) k_42 hl hg (by omega)
        · have d_48 := iEq c_44
          replace hg := gt_pos (by first | exact d_48 | omega) hg
          exact (hp _ _ _ hR_39 hf_41 (Or.inl rfl) k_42 hg.symm hl)
set_option maxHeartbeats 4000000 in
set_option maxRecDepth 20000 in
theorem y_Land_readg {D : va_G} {cA : FieldType → ClassId} {b : Nat} {kS vS : Nat → Nat} {xb xl : Nat} {xs : Nat → Int32} {R : qRg} {o n : Nat} {sh : Nat → qC} {Rf : Nat → Nat → Option Nat} {I0 : Nat → Nat → Int32} {L0 : Nat → Nat → Int64} {post : Option Value → qS → Prop} {x1 : Nat} (hok : q_ok (qGG D cA b (qEx b kS vS xb xl xs))) (hw : WfLand (qGG D cA b (qEx b kS vS xb xl xs)) n sh Rf o) (ra : RALand R o) (hw1 : WfTape (qGG D cA b (qEx b kS vS xb xl xs)) n sh Rf x1) (ra1 : RATape R x1) (hs0 : o + 16 ≤ x1 ∨ x1 + 7 ≤ o) (hq0 : TokOK I0 x1) (hR : RI R I0) (hp : ∀ (r : Int32) (I' : Nat → Nat → Int32) (L' : Nat → Nat → Int64), RI R I' → Fm (fun c => (o ≤ c ∧ c < o + 16) ∨ (x1 ≤ c ∧ c < x1 + 7)) I0 I' → (Bz r) → (TokOK I' x1) → (gLand_read_0 o x1 (tI I0) L0 = (r.toInt, tI I', L')) → (FmL (fun c => c = (o + 1) ∨ c = (x1 + 6)) L0 L') → post (some (.int r)) (n, sh, Rf, I', L')) : Ev (qGG D cA b (qEx b kS vS xb xl xs)) mLand_read 10 (0, 0) 0 (lv_args 0 [.ref o, .ref x1]) [] (n, sh, Rf, I0, L0) post := by
  have hf : Fm (fun c => (o ≤ c ∧ c < o + 16) ∨ (x1 ≤ c ∧ c < x1 + 7)) I0 I0 := Fm.rf
  refine sLand_read_0 o n sh Rf I0 L0 post x1 hok hw hw1 ?_
  unfold fLand_read_0
  have hl : FmL (fun c => c = (o + 1) ∨ c = (x1 + 6)) L0 L0 := FmL.rf
  have hg : gLand_read_0 o x1 (tI I0) L0 = gLand_read_0 o x1 (tI I0) L0 := rfl
  replace hg := (eLand_read_0).symm.trans hg
  refine y_Land_clearg hok hw ra hR (fun I_52 L_53 hR_54 fr_55 gn_50 ln_51 => ⟨I_52, L_53, rfl, rfl, ?_⟩)
  replace hl := hl.call ln_51 (fun c hc => by first | exact hc | exact False.elim hc | (dsimp only at hc ⊢; omega) | omega)
  replace hg := gt_b3 gn_50 hg
  clear gn_50
  have hf_56 : Fm (fun c => (o ≤ c ∧ c < o + 16) ∨ (x1 ≤ c ∧ c < x1 + 7)) I0 I_52 := hf.call fr_55 (fun c hc => by first | exact hc | (dsimp only at hc ⊢; omega) | omega)
  have k_57 : TokOK I_52 x1 := hq0.fr (fr_55 _ (by first | omega | (dsimp only; omega))) (fr_55 _ (by first | omega | (dsimp only; omega)))
  have l_58 : (1 : Int32).toInt = 1 := rfl
  refine y_Tape_startReadingg hok hw1 ra1 (by first | omega | (intro h; omega) | exact Or.inl rfl | exact Or.inr rfl) k_57 hR_54 (fun I_63 L_64 hR_65 fr_66 u_60 gn_61 ln_62 => ⟨I_63, L_64, rfl, rfl, ?_⟩)
  replace hl := hl.call ln_62 (fun c hc => by first | exact hc | exact False.elim hc | (dsimp only at hc ⊢; omega) | omega)
  replace hg := gt_b3 gn_61 hg
  clear gn_61
  have hf_67 : Fm (fun c => (o ≤ c ∧ c < o + 16) ∨ (x1 ≤ c ∧ c < x1 + 7)) I0 I_63 := hf_56.call fr_66 (fun c hc => by first | exact hc | (dsimp only at hc ⊢; omega) | omega)
  have l_68 : (0 : Int32).toInt = 0 := rfl
  exact yLand_read_11g (I0 := I0) (L0 := L0) hok hw ra hw1 ra1 hs0 hq0 hp  20000 hR_65 hf_67 (by first | omega | (intro h; omega) | exact Or.inl rfl | exact Or.inr rfl) u_60 hl hg (by omega)
