/-! The mirror of REFORM's reading, class: tied, and whole. By program (rrun.py). -/
/-- the parts of a REFORM's reading, tied by nesting: EITHER, ONE -/
noncomputable def gRPs (o x1 : Nat) (p : (gJ → gL → Int → Int × gJ × gL) × (gJ → gL → Int → Int × gJ × gL)) : (gJ → gL → Int → Int × gJ × gL) × (gJ → gL → Int → Int × gJ × gL) := ((gReform_readEither_0 (gReform_readBoth_0 (gReform_readOne_0 (gReform_readSum_0 (gReform_readTerm_0 (gReform_readUnit_0 p.1 o x1) o x1) o x1) p.2 o x1) o x1) o x1), (gReform_readOne_0 (gReform_readSum_0 (gReform_readTerm_0 (gReform_readUnit_0 p.1 o x1) o x1) o x1) p.2 o x1))
noncomputable def gRP (o x1 : Nat) : Nat → (gJ → gL → Int → Int × gJ × gL) × (gJ → gL → Int → Int × gJ × gL)
  | 0 => (fun _ _ _ => default, fun _ _ _ => default)
  | j + 1 => gRPs o x1 (gRP o x1 j)
theorem eRP {o x1 j : Nat} : gRP o x1 (j + 1) = gRPs o x1 (gRP o x1 j) := rfl
theorem eRP1 {o x1 j : Nat} : (gRP o x1 (j + 1)).1 = (gReform_readEither_0 (gReform_readBoth_0 (gReform_readOne_0 (gReform_readSum_0 (gReform_readTerm_0 (gReform_readUnit_0 (gRP o x1 j).1 o x1) o x1) o x1) (gRP o x1 j).2 o x1) o x1) o x1) := by rw [eRP]; unfold gRPs; rfl
theorem eRP2 {o x1 j : Nat} : (gRP o x1 (j + 1)).2 = (gReform_readOne_0 (gReform_readSum_0 (gReform_readTerm_0 (gReform_readUnit_0 (gRP o x1 j).1 o x1) o x1) o x1) (gRP o x1 j).2 o x1) := by rw [eRP]; unfold gRPs; rfl
section RR
variable {D : va_G} {cA : FieldType → ClassId} {b : Nat} {E : State → Prop} {R : qRg} {o n : Nat} {sh : Nat → qC} {Rf : Nat → Nat → Option Nat} {x1 : Nat}
/-- what a reading of a REFORM's part does, from a nesting of lo on -/
def RdCg (D : va_G) (cA : FieldType → ClassId) (b : Nat) (E : State → Prop) (R : qRg) (o n : Nat) (sh : Nat → qC) (Rf : Nat → Nat → Option Nat) (x1 : Nat) (G : gJ → gL → Int → Int × gJ × gL) (m : qM) (d : Nat) (lo : Int) : Prop := ∀ (J : Nat → Nat → Int32) (K : Nat → Nat → Int64) (post : Option Value → qS → Prop) (q : Int32), RI R J → TokOK J x1 → lo ≤ q.toInt → q.toInt ≤ 7 → (∀ I' L', RI R I' → Fm (fun c => (o ≤ c ∧ c < o + 5) ∨ c = x1) J I' → (I' o 6).toInt = (J o 6).toInt → (I' o 8).toInt = (J o 8).toInt → (G (tI J) K q.toInt = (0, tI I', L')) → (FmL (fun c => False) K L') → post none (n, sh, Rf, I', L')) → Ev (qGG D cA b E) m d (0, 0) 0 (lv_args 0 [.ref o, .ref x1, .int q]) [] (n, sh, Rf, J, K) post
theorem RdCg.deep {G : gJ → gL → Int → Int × gJ × gL} {m : qM} {d d' : Nat} {lo : Int} (h : RdCg D cA b E R o n sh Rf x1 G m d lo) (hd : d ≤ d') : RdCg D cA b E R o n sh Rf x1 G m d' lo := fun J K post q h1 h2 h3 h4 h5 => ev_deep hd (h J K post q h1 h2 h3 h4 h5)
theorem RdCg.none {G : gJ → gL → Int → Int × gJ × gL} {m : qM} {d : Nat} {lo : Int} (h : 7 < lo) : RdCg D cA b E R o n sh Rf x1 G m d lo := fun J K post q h1 h2 h3 h4 h5 => absurd h4 (by omega)
/-- all of them, by nesting -/
theorem y_readsg (hok : q_ok (qGG D cA b E)) (hw : WfReform (qGG D cA b E) n sh Rf o) (ra : RAReform R o) (hw1 : WfTape (qGG D cA b E) n sh Rf x1) (ra1 : RATape R x1) (hs : o + 5 ≤ x1 ∨ x1 + 7 ≤ o) : ∀ (j : Nat) (lo : Int), 0 ≤ lo → lo + (j : Int) = 8 → RdCg D cA b E R o n sh Rf x1 (gRP o x1 j).1 mReform_readEither (6 * j + 11) lo ∧ RdCg D cA b E R o n sh Rf x1 (gRP o x1 j).2 mReform_readOne (6 * j + 9) lo := by
  intro j
  induction j with
  | zero => intro lo h0 hl; exact ⟨RdCg.none (by omega), RdCg.none (by omega)⟩
  | succ j ih =>
    intro lo h0 hl
    obtain ⟨hE, hO⟩ := ih (lo + 1) (by omega) (by omega)
    have u : RdCg D cA b E R o n sh Rf x1 (gReform_readUnit_0 (gRP o x1 j).1 o x1) mReform_readUnit (6 * j + 11 + 1) lo := fun J K post q a1 a2 a3 a4 a5 => y_Reform_readUnitg hok hw ra hw1 ra1 (by omega) hE hs h0 a3 a4 a2 a1 (fun I' L' r f k6 k8 y z => a5 I' L' r f k6 k8 y z)
    have t : RdCg D cA b E R o n sh Rf x1 (gReform_readTerm_0 (gReform_readUnit_0 (gRP o x1 j).1 o x1) o x1) mReform_readTerm (6 * j + 11 + 1 + 1) lo := fun J K post q a1 a2 a3 a4 a5 => y_Reform_readTermg hok hw ra hw1 ra1 (by omega) u hs h0 a3 a4 a2 a1 (fun I' L' r f k6 k8 y z => a5 I' L' r f k6 k8 y z)
    have m : RdCg D cA b E R o n sh Rf x1 (gReform_readSum_0 (gReform_readTerm_0 (gReform_readUnit_0 (gRP o x1 j).1 o x1) o x1) o x1) mReform_readSum (6 * j + 11 + 1 + 1 + 1) lo := fun J K post q a1 a2 a3 a4 a5 => y_Reform_readSumg hok hw ra hw1 ra1 (by omega) t hs h0 a3 a4 a2 a1 (fun I' L' r f k6 k8 y z => a5 I' L' r f k6 k8 y z)
    have e : RdCg D cA b E R o n sh Rf x1 (gReform_readOne_0 (gReform_readSum_0 (gReform_readTerm_0 (gReform_readUnit_0 (gRP o x1 j).1 o x1) o x1) o x1) (gRP o x1 j).2 o x1) mReform_readOne (6 * j + 11 + 1 + 1 + 1 + 1) lo := fun J K post q a1 a2 a3 a4 a5 => y_Reform_readOneg hok hw ra hw1 ra1 (by omega) m (hO.deep (by omega)) hs h0 a3 a4 a2 a1 (fun I' L' r f k6 k8 y z => a5 I' L' r f k6 k8 y z)
    have B : RdCg D cA b E R o n sh Rf x1 (gReform_readBoth_0 (gReform_readOne_0 (gReform_readSum_0 (gReform_readTerm_0 (gReform_readUnit_0 (gRP o x1 j).1 o x1) o x1) o x1) (gRP o x1 j).2 o x1) o x1) mReform_readBoth (6 * j + 11 + 1 + 1 + 1 + 1 + 1) lo := fun J K post q a1 a2 a3 a4 a5 => y_Reform_readBothg hok hw ra hw1 ra1 (by omega) e hs h0 a3 a4 a2 a1 (fun I' L' r f k6 k8 y z => a5 I' L' r f k6 k8 y z)
    have A : RdCg D cA b E R o n sh Rf x1 (gReform_readEither_0 (gReform_readBoth_0 (gReform_readOne_0 (gReform_readSum_0 (gReform_readTerm_0 (gReform_readUnit_0 (gRP o x1 j).1 o x1) o x1) o x1) (gRP o x1 j).2 o x1) o x1) o x1) mReform_readEither (6 * j + 11 + 1 + 1 + 1 + 1 + 1 + 1) lo := fun J K post q a1 a2 a3 a4 a5 => y_Reform_readEitherg hok hw ra hw1 ra1 (by omega) B hs h0 a3 a4 a2 a1 (fun I' L' r f k6 k8 y z => a5 I' L' r f k6 k8 y z)
    rw [eRP1, eRP2]
    exact ⟨A.deep (by omega), e.deep (by omega)⟩
theorem y_Reform_readEither0g {I0 : Nat → Nat → Int32} {L0 : Nat → Nat → Int64} {post : Option Value → qS → Prop} (hok : q_ok (qGG D cA b E)) (hw : WfReform (qGG D cA b E) n sh Rf o) (ra : RAReform R o) (hw1 : WfTape (qGG D cA b E) n sh Rf x1) (ra1 : RATape R x1) (hs : o + 5 ≤ x1 ∨ x1 + 7 ≤ o) (ht : TokOK I0 x1) (hR : RI R I0) (hp : ∀ I' L', RI R I' → Fm (fun c => (o ≤ c ∧ c < o + 5) ∨ c = x1) I0 I' → (I' o 6).toInt = (I0 o 6).toInt → (I' o 8).toInt = (I0 o 8).toInt → ((gRP o x1 8).1 (tI I0) L0 0 = (0, tI I', L')) → (FmL (fun c => False) L0 L') → post none (n, sh, Rf, I', L')) : Ev (qGG D cA b E) mReform_readEither 100 (0, 0) 0 (lv_args 0 [.ref o, .ref x1, .int 0]) [] (n, sh, Rf, I0, L0) post :=
  (((y_readsg hok hw ra hw1 ra1 hs 8 0 (by omega) (by omega)).1).deep (by omega)) I0 L0 post 0 hR ht (by decide) (by decide) hp
end RR
noncomputable def gReform_clear_0 (o : Nat) (J : gJ) (L : gL) : Int × gJ × gL := gLet (gFill J (o + 2) 11 0) (fun (J_1 : gJ) => gLet (gFill J_1 (o + 3) 11 0) (fun (J_2 : gJ) => gLet (q_u J_2 o 4 0) (fun (J_3 : gJ) => gLet (q_u J_3 o 5 0) (fun (J_4 : gJ) => gLet (q_u J_4 o 6 0) (fun (J_5 : gJ) => gLet (q_u J_5 o 7 0) (fun (J_6 : gJ) => (0, J_6, L)))))))
theorem eReform_clear_0 {o : Nat} {J : gJ} {L : gL} : gReform_clear_0 o J L  = gLet (gFill J (o + 2) 11 0) (fun (J_1 : gJ) => gLet (gFill J_1 (o + 3) 11 0) (fun (J_2 : gJ) => gLet (q_u J_2 o 4 0) (fun (J_3 : gJ) => gLet (q_u J_3 o 5 0) (fun (J_4 : gJ) => gLet (q_u J_4 o 6 0) (fun (J_5 : gJ) => gLet (q_u J_5 o 7 0) (fun (J_6 : gJ) => (0, J_6, L))))))) := rfl
set_option maxHeartbeats 4000000 in
set_option maxRecDepth 20000 in
theorem y_Reform_clearg {D : va_G} {cA : FieldType → ClassId} {b : Nat} {E : State → Prop} {R : qRg} {o n : Nat} {sh : Nat → qC} {Rf : Nat → Nat → Option Nat} {I0 : Nat → Nat → Int32} {L0 : Nat → Nat → Int64} {post : Option Value → qS → Prop} (hok : q_ok (qGG D cA b E)) (hw : WfReform (qGG D cA b E) n sh Rf o) (ra : RAReform R o) (hR : RI R I0) (hp : ∀ (I' : Nat → Nat → Int32) (L' : Nat → Nat → Int64), RI R I' → Fm (fun c => (o ≤ c ∧ c < o + 5)) I0 I' → (gReform_clear_0 o (tI I0) L0 = (0, tI I', L')) → (FmL (fun c => False) L0 L') → post none (n, sh, Rf, I', L')) : Ev (qGG D cA b E) mReform_clear 1 (0, 0) 0 (lv_args 0 [.ref o]) [] (n, sh, Rf, I0, L0) post := by
  have hf : Fm (fun c => (o ≤ c ∧ c < o + 5)) I0 I0 := Fm.rf
  refine sReform_clear_0 o n sh Rf I0 L0 post  hok hw ?_
  unfold fReform_clear_0
  have hl : FmL (fun c => False) L0 L0 := FmL.rf
  have hg : gReform_clear_0 o (tI I0) L0 = gReform_clear_0 o (tI I0) L0 := rfl
  replace hg := (eReform_clear_0).symm.trans hg
  have l_1 : (0 : Int32).toInt = 0 := rfl
  refine y_fillg hok (fun _ _ => waReform_1 hw) (by omega) (fun I_2 ne_3 _ eq_4 eg_5 => ⟨I_2, L0, rfl, rfl, ?_⟩)
  replace hg := gt_let (y := tI I_2) eg_5 hg
  have hR_6 : RI R I_2 := hR.row ra 2 (by decide) (fun _ => rfl) (fun _ => ⟨(show (0 : Int) ≤ (0 : Int32).toInt by omega), (show (0 : Int32).toInt ≤ (700 : Int) by omega)⟩) ne_3 eq_4
  have hf_7 : Fm (fun c => (o ≤ c ∧ c < o + 5)) I0 I_2 := hf.call (M' := fun c => c = (o + 2)) ne_3 (fun c hc => by first | exact hc | (dsimp only at hc ⊢; omega) | omega)
  refine y_fillg hok (fun _ _ => waReform_2 hw) (by omega) (fun I_8 ne_9 _ eq_10 eg_11 => ⟨I_8, L0, rfl, rfl, ?_⟩)
  replace hg := gt_let (y := tI I_8) eg_11 hg
  have hR_12 : RI R I_8 := hR_6.row ra 3 (by decide) (fun _ => rfl) (fun _ => ⟨(show (0 : Int) ≤ (0 : Int32).toInt by omega), (show (0 : Int32).toInt ≤ (700 : Int) by omega)⟩) ne_9 eq_10
  have hf_13 : Fm (fun c => (o ≤ c ∧ c < o + 5)) I0 I_8 := hf_7.call (M' := fun c => c = (o + 3)) ne_9 (fun c hc => by first | exact hc | (dsimp only at hc ⊢; omega) | omega)
  refine fun I_14 e_15 => ?_
  replace hg := gt_let (y := tI I_14) (tI_q e_15) hg
  have hR_16 : RI R I_14 := hR_12.up0 (k := 4) ra (by decide) (Or.inl rfl) e_15 (show (0 : Int) ≤ (0 : Int32).toInt by omega) (show (0 : Int32).toInt ≤ (700 : Int) by omega)
  have hf_17 : Fm (fun c => (o ≤ c ∧ c < o + 5)) I0 I_14 := hf_13.set (by first | rfl | omega | (dsimp only; omega)) e_15
  have t_18 : (I_14 o 4).toInt = (0 : Int32).toInt := by rw [← e_15, q_u_at]
  refine fun I_19 e_20 => ?_
  replace hg := gt_let (y := tI I_19) (tI_q e_20) hg
  have hR_21 : RI R I_19 := hR_16.up0 (k := 5) ra (by decide) (Or.inl rfl) e_20 (i_lo _) (i_hi _)
  have hf_22 : Fm (fun c => (o ≤ c ∧ c < o + 5)) I0 I_19 := hf_17.set (by first | rfl | omega | (dsimp only; omega)) e_20
  have t_23 : (I_19 o 4).toInt = (I_14 o 4).toInt := by rw [← e_20, q_u_k (by decide)]
  refine fun I_24 e_25 => ?_
  replace hg := gt_let (y := tI I_24) (tI_q e_25) hg
  have hR_26 : RI R I_24 := hR_21.up0 (k := 6) ra (by decide) (Or.inl rfl) e_25 (show (0 : Int) ≤ (0 : Int32).toInt by omega) (show (0 : Int32).toInt ≤ (5 : Int) by omega)
  have hf_27 : Fm (fun c => (o ≤ c ∧ c < o + 5)) I0 I_24 := hf_22.set (by first | rfl | omega | (dsimp only; omega)) e_25
  have t_28 : (I_24 o 4).toInt = (I_19 o 4).toInt := by rw [← e_25, q_u_k (by decide)]
  have t_29 : (I_24 o 6).toInt = (0 : Int32).toInt := by rw [← e_25, q_u_at]
  refine fun I_30 e_31 => ?_
  replace hg := gt_let (y := tI I_30) (tI_q e_31) hg
  have hR_32 : RI R I_30 := hR_26.up0 (k := 7) ra (by decide) (Or.inl rfl) e_31 (show (0 : Int) ≤ (0 : Int32).toInt by omega) (show (0 : Int32).toInt ≤ (100 : Int) by omega)
  have hf_33 : Fm (fun c => (o ≤ c ∧ c < o + 5)) I0 I_30 := hf_27.set (by first | rfl | omega | (dsimp only; omega)) e_31
  have t_34 : (I_30 o 4).toInt = (I_24 o 4).toInt := by rw [← e_31, q_u_k (by decide)]
  have t_35 : (I_30 o 6).toInt = (I_24 o 6).toInt := by rw [← e_31, q_u_k (by decide)]
  have t_36 : (I_30 o 7).toInt = (0 : Int32).toInt := by rw [← e_31, q_u_at]
  exact (hp _ _ hR_32 hf_33  hg.symm hl)
noncomputable def gReform_readLine_0 (o x1 : Nat) (J : gJ) (L : gL) : Int × gJ × gL := gLet (gReform_freeSlot_0 o x1 J L) (fun (r_1 : Int) => gLet (q_u J o 8 r_1) (fun (J_2 : gJ) => gLet (J_2 o 8) (fun (v_3 : Int) => (if v_3 = (-1) then gB3 (gTape_refuse_0 x1 J_2 L 2) (fun r_26 J_27 L_28 => (0, J_27, L_28)) else gB3 (gTape_step_0 x1 J_2 L) (fun r_4 J_5 L_6 => gLet (J_5 o 8) (fun (v_7 : Int) => gLet (J_5 o 4) (fun (v_8 : Int) => gLet (q_u J_5 (o + 2) (Int.toNat v_7) v_8) (fun (J_9 : gJ) => gB3 ((gRP o x1 8).1 J_9 L_6 0) (fun r_10 J_11 L_12 => gLet (J_11 o 8) (fun (v_13 : Int) => gLet (J_11 o 4) (fun (v_14 : Int) => gLet (q_u J_11 (o + 3) (Int.toNat v_13) v_14) (fun (J_15 : gJ) => gLet (J_15 o 8) (fun (v_16 : Int) => (if v_16 < 6 then gB3 (gTape_closeLine_0 x1 J_15 L_12) (fun r_17 J_18 L_19 => (r_17, J_18, L_19)) else gLet (J_15 o 6) (fun (v_20 : Int) => gLet (v_20 + 1) (fun (v_21 : Int) => gLet (q_u J_15 o 6 v_21) (fun (J_22 : gJ) => gB3 (gTape_closeLine_0 x1 J_22 L_12) (fun r_23 J_24 L_25 => (r_23, J_24, L_25)))))))))))))))))))
theorem eReform_readLine_0 {o x1 : Nat} {J : gJ} {L : gL} : gReform_readLine_0 o x1 J L  = gLet (gReform_freeSlot_0 o x1 J L) (fun (r_1 : Int) => gLet (q_u J o 8 r_1) (fun (J_2 : gJ) => gLet (J_2 o 8) (fun (v_3 : Int) => (if v_3 = (-1) then gB3 (gTape_refuse_0 x1 J_2 L 2) (fun r_26 J_27 L_28 => (0, J_27, L_28)) else gB3 (gTape_step_0 x1 J_2 L) (fun r_4 J_5 L_6 => gLet (J_5 o 8) (fun (v_7 : Int) => gLet (J_5 o 4) (fun (v_8 : Int) => gLet (q_u J_5 (o + 2) (Int.toNat v_7) v_8) (fun (J_9 : gJ) => gB3 ((gRP o x1 8).1 J_9 L_6 0) (fun r_10 J_11 L_12 => gLet (J_11 o 8) (fun (v_13 : Int) => gLet (J_11 o 4) (fun (v_14 : Int) => gLet (q_u J_11 (o + 3) (Int.toNat v_13) v_14) (fun (J_15 : gJ) => gLet (J_15 o 8) (fun (v_16 : Int) => (if v_16 < 6 then gB3 (gTape_closeLine_0 x1 J_15 L_12) (fun r_17 J_18 L_19 => (r_17, J_18, L_19)) else gLet (J_15 o 6) (fun (v_20 : Int) => gLet (v_20 + 1) (fun (v_21 : Int) => gLet (q_u J_15 o 6 v_21) (fun (J_22 : gJ) => gB3 (gTape_closeLine_0 x1 J_22 L_12) (fun r_23 J_24 L_25 => (r_23, J_24, L_25))))))))))))))))))) := rfl
set_option maxHeartbeats 4000000 in
set_option maxRecDepth 20000 in
theorem y_Reform_readLineg {D : va_G} {cA : FieldType → ClassId} {b : Nat} {E : State → Prop} {R : qRg} {o n : Nat} {sh : Nat → qC} {Rf : Nat → Nat → Option Nat} {I0 : Nat → Nat → Int32} {L0 : Nat → Nat → Int64} {post : Option Value → qS → Prop} {x1 : Nat} (hok : q_ok (qGG D cA b E)) (hw : WfReform (qGG D cA b E) n sh Rf o) (ra : RAReform R o) (hw1 : WfTape (qGG D cA b E) n sh Rf x1) (ra1 : RATape R x1) (hs0 : o + 5 ≤ x1 ∨ x1 + 7 ≤ o) (hq0 : TokOK I0 x1) (hR : RI R I0) (hp : ∀ (r : Int32) (I' : Nat → Nat → Int32) (L' : Nat → Nat → Int64), RI R I' → Fm (fun c => (o ≤ c ∧ c < o + 5) ∨ c = x1) I0 I' → (Bz r) → (gReform_readLine_0 o x1 (tI I0) L0 = (r.toInt, tI I', L')) → (FmL (fun c => False) L0 L') → post (some (.int r)) (n, sh, Rf, I', L')) : Ev (qGG D cA b E) mReform_readLine 101 (0, 0) 0 (lv_args 0 [.ref o, .ref x1]) [] (n, sh, Rf, I0, L0) post := by
  have hf : Fm (fun c => (o ≤ c ∧ c < o + 5) ∨ c = x1) I0 I0 := Fm.rf
  have g_1 : (0 : Int) ≤ (I0 o 6).toInt ∧ (I0 o 6).toInt ≤ 5 := hR.at0 ra 6 (by decide)
  have g_2 : (-1 : Int) ≤ (I0 o 8).toInt ∧ (I0 o 8).toInt ≤ 10 := hR.at0 ra 8 (by decide)
  refine sReform_readLine_0 o n sh Rf I0 L0 post x1 hok hw hw1 ?_
  unfold fReform_readLine_0
  have hl : FmL (fun c => False) L0 L0 := FmL.rf
  have hg : gReform_readLine_0 o x1 (tI I0) L0 = gReform_readLine_0 o x1 (tI I0) L0 := rfl
  replace hg := (eReform_readLine_0).symm.trans hg
  refine y_Reform_freeSlotg hok hw ra hw1 ra1 hR (fun r_3 u_4 u_5 gn_6 => ⟨r_3, I0, L0, rfl, rfl, ?_⟩)
  replace hg := gt_let gn_6 hg
  clear gn_6
  refine fun I_7 e_8 => ?_
  replace hg := gt_let (y := tI I_7) (tI_q e_8) hg
  have hR_9 : RI R I_7 := hR.up0 (k := 8) ra (by decide) (Or.inl rfl) e_8 (show (-1 : Int) ≤ r_3.toInt by omega) (show r_3.toInt ≤ (10 : Int) by omega)
  have hf_10 : Fm (fun c => (o ≤ c ∧ c < o + 5) ∨ c = x1) I0 I_7 := hf.set (by first | rfl | omega | (dsimp only; omega)) e_8
  have t_11 : (I_7 o 6).toInt = (I0 o 6).toInt := by rw [← e_8, q_u_k (by decide)]
  have t_12 : (I_7 o 8).toInt = r_3.toInt := by rw [← e_8, q_u_at]
  have k_13 : TokOK I_7 x1 := hq0.fr (by rw [← e_8]; exact q_u_ne (by omega)) (by rw [← e_8]; exact q_u_ne (by omega))
  have g_14 : (-1 : Int) ≤ (I_7 o 8).toInt ∧ (I_7 o 8).toInt ≤ 10 := hR_9.at0 ra 8 (by decide)
  replace hg := gt_let (y := (I_7 o 8).toInt) rfl hg
  have l_15 : (-1 : Int32).toInt = -1 := rfl
  refine ⟨fun c_16 => ?_, fun c_16 => ?_⟩
  · have d_17 := iNe c_16
    replace hg := gt_neg (by first | exact d_17 | omega) hg
    refine y_Tape_stepg hok hw1 ra1 hR_9 (fun I_22 L_23 hR_24 fr_25 u_19 gn_20 ln_21 => ⟨I_22, L_23, rfl, rfl, ?_⟩)
    replace hl := hl.call ln_21 (fun c hc => by first | exact hc | exact False.elim hc | (dsimp only at hc ⊢; omega) | omega)
    replace hg := gt_b3 gn_20 hg
    clear gn_20
    have hf_26 : Fm (fun c => (o ≤ c ∧ c < o + 5) ∨ c = x1) I0 I_22 := hf_10.call fr_25 (fun c hc => by first | exact hc | (dsimp only at hc ⊢; omega) | omega)
    have t_27 : (I_22 o 6).toInt = (I_7 o 6).toInt := by rw [fr_25 o (by first | omega | (dsimp only; omega))]
    have t_28 : (I_22 o 8).toInt = (I_7 o 8).toInt := by rw [fr_25 o (by first | omega | (dsimp only; omega))]
    have k_29 : TokOK I_22 x1 := k_13.fr (fr_25 _ (by first | omega | (dsimp only; omega))) (fr_25 _ (by first | omega | (dsimp only; omega)))
    have g_30 : (-1 : Int) ≤ (I_22 o 8).toInt ∧ (I_22 o 8).toInt ≤ 10 := hR_24.at0 ra 8 (by decide)
    replace hg := gt_let (y := (I_22 o 8).toInt) rfl hg
    have g_31 : (0 : Int) ≤ (I_22 o 4).toInt ∧ (I_22 o 4).toInt ≤ 700 := hR_24.at0 ra 4 (by decide)
    replace hg := gt_let (y := (I_22 o 4).toInt) rfl hg
    refine ⟨tIn (by omega) (by omega), fun I_32 e_33 => ?_⟩
    replace hg := gt_let (y := tI I_32) (tI_q e_33) hg
    have hR_34 : RI R I_32 := hR_24.up ra 2 (by decide) (Or.inl rfl) e_33 (show (0 : Int) ≤ (I_22 o 4).toInt by omega) (show (I_22 o 4).toInt ≤ (700 : Int) by omega)
    have hf_35 : Fm (fun c => (o ≤ c ∧ c < o + 5) ∨ c = x1) I0 I_32 := hf_26.set (by first | rfl | omega | (dsimp only; omega)) e_33
    have t_36 : (I_32 o 6).toInt = (I_22 o 6).toInt := by rw [← e_33, q_u_ne (by omega)]
    have t_37 : (I_32 o 8).toInt = (I_22 o 8).toInt := by rw [← e_33, q_u_ne (by omega)]
    have t_38 : (I_32 o 4).toInt = (I_22 o 4).toInt := by rw [← e_33, q_u_ne (by omega)]
    have k_39 : TokOK I_32 x1 := k_29.fr (by rw [← e_33]; exact q_u_ne (by omega)) (by rw [← e_33]; exact q_u_ne (by omega))
    have l_47 : (0 : Int32).toInt = 0 := rfl
    refine y_Reform_readEither0g hok hw ra hw1 ra1 (by omega) k_39 hR_34 (fun I_40 L_41 hR_42 fr_43 k6_48 k8_49 eg_45 lz_46 => ⟨I_40, L_41, rfl, rfl, ?_⟩)
    replace hg := gt_b3 eg_45 hg
    clear eg_45
    replace hl := hl.call lz_46 (fun c hc => False.elim hc)
    have hf_44 : Fm (fun c => (o ≤ c ∧ c < o + 5) ∨ c = x1) I0 I_40 := hf_35.call fr_43 (fun c hc => hc)
    have k_50 : TokOK I_40 x1 := k_39.fr (fr_43 _ (by first | omega | (dsimp only; omega))) (fr_43 _ (by first | omega | (dsimp only; omega)))
    have g_51 : (-1 : Int) ≤ (I_40 o 8).toInt ∧ (I_40 o 8).toInt ≤ 10 := hR_42.at0 ra 8 (by decide)
    replace hg := gt_let (y := (I_40 o 8).toInt) rfl hg
    have g_52 : (0 : Int) ≤ (I_40 o 4).toInt ∧ (I_40 o 4).toInt ≤ 700 := hR_42.at0 ra 4 (by decide)
    replace hg := gt_let (y := (I_40 o 4).toInt) rfl hg
    refine ⟨tIn (by omega) (by omega), fun I_53 e_54 => ?_⟩
    replace hg := gt_let (y := tI I_53) (tI_q e_54) hg
    have hR_55 : RI R I_53 := hR_42.up ra 3 (by decide) (Or.inl rfl) e_54 (show (0 : Int) ≤ (I_40 o 4).toInt by omega) (show (I_40 o 4).toInt ≤ (700 : Int) by omega)
    have hf_56 : Fm (fun c => (o ≤ c ∧ c < o + 5) ∨ c = x1) I0 I_53 := hf_44.set (by first | rfl | omega | (dsimp only; omega)) e_54
    have t_57 : (I_53 o 6).toInt = (I_40 o 6).toInt := by rw [← e_54, q_u_ne (by omega)]
    have t_58 : (I_53 o 8).toInt = (I_40 o 8).toInt := by rw [← e_54, q_u_ne (by omega)]
    have t_59 : (I_53 o 4).toInt = (I_40 o 4).toInt := by rw [← e_54, q_u_ne (by omega)]
    have k_60 : TokOK I_53 x1 := k_50.fr (by rw [← e_54]; exact q_u_ne (by omega)) (by rw [← e_54]; exact q_u_ne (by omega))
    have g_61 : (-1 : Int) ≤ (I_53 o 8).toInt ∧ (I_53 o 8).toInt ≤ 10 := hR_55.at0 ra 8 (by decide)
    replace hg := gt_let (y := (I_53 o 8).toInt) rfl hg
    have l_62 : (6 : Int32).toInt = 6 := rfl
    refine ⟨fun c_63 => ?_, fun c_63 => ?_⟩
    · have d_64 := iLt c_63
      replace hg := gt_pos (by first | exact d_64 | omega) hg
      refine y_Tape_closeLineg hok hw1 ra1 hR_55 (fun r_65 I_71 L_72 hR_73 fr_74 u_66 u_67 u_68 gn_69 ln_70 => ⟨r_65, I_71, L_72, rfl, rfl, ?_⟩)
      replace hl := hl.call ln_70 (fun c hc => by first | exact hc | exact False.elim hc | (dsimp only at hc ⊢; omega) | omega)
      replace hg := gt_b3 gn_69 hg
      clear gn_69
      have hf_75 : Fm (fun c => (o ≤ c ∧ c < o + 5) ∨ c = x1) I0 I_71 := hf_56.call fr_74 (fun c hc => by first | exact hc | (dsimp only at hc ⊢; omega) | omega)
      have t_76 : (I_71 o 6).toInt = (I_53 o 6).toInt := by rw [fr_74 o (by first | omega | (dsimp only; omega))]
      have t_77 : (I_71 o 8).toInt = (I_53 o 8).toInt := by rw [fr_74 o (by first | omega | (dsimp only; omega))]
      have t_78 : (I_71 o 4).toInt = (I_53 o 4).toInt := by rw [fr_74 o (by first | omega | (dsimp only; omega))]
      have k_79 : TokOK I_71 x1 := k_60.fr (fr_74 _ (by first | omega | (dsimp only; omega))) (fr_74 _ (by first | omega | (dsimp only; omega)))
      have b_80 : 0 ≤ r_65.toInt ∧ r_65.toInt ≤ 1 := u_66.rg
      exact ⟨u_66, (hp _ _ _ hR_73 hf_75 (u_66) hg.symm hl)⟩
    · have d_81 := iNlt c_63
      replace hg := gt_neg (by first | exact d_81 | omega) hg
      have g_82 : (0 : Int) ≤ (I_53 o 6).toInt ∧ (I_53 o 6).toInt ≤ 5 := hR_55.at0 ra 6 (by decide)
      replace hg := gt_let (y := (I_53 o 6).toInt) rfl hg
      have l_83 : (1 : Int32).toInt = 1 := rfl
      have a_84 : ((I_53 o 6) + 1).toInt = (I_53 o 6).toInt + (1 : Int32).toInt := tAdd (by omega) (by omega)
      replace hg := gt_let (y := (((I_53 o 6) + 1) : Int32).toInt) (by omega) hg
      refine fun I_85 e_86 => ?_
      replace hg := gt_let (y := tI I_85) (tI_q e_86) hg
      have hR_87 : RI R I_85 := hR_55.up0 (k := 6) ra (by decide) (Or.inl rfl) e_86 (show (0 : Int) ≤ ((I_53 o 6) + 1).toInt by omega) (show ((I_53 o 6) + 1).toInt ≤ (5 : Int) by omega)
      have hf_88 : Fm (fun c => (o ≤ c ∧ c < o + 5) ∨ c = x1) I0 I_85 := hf_56.set (by first | rfl | omega | (dsimp only; omega)) e_86
      have t_89 : (I_85 o 6).toInt = ((I_53 o 6) + 1).toInt := by rw [← e_86, q_u_at]
      have t_90 : (I_85 o 8).toInt = (I_53 o 8).toInt := by rw [← e_86, q_u_k (by decide)]
      have t_91 : (I_85 o 4).toInt = (I_53 o 4).toInt := by rw [← e_86, q_u_k (by decide)]
      have k_92 : TokOK I_85 x1 := k_60.fr (by rw [← e_86]; exact q_u_ne (by omega)) (by rw [← e_86]; exact q_u_ne (by omega))
      refine y_Tape_closeLineg hok hw1 ra1 hR_87 (fun r_93 I_99 L_100 hR_101 fr_102 u_94 u_95 u_96 gn_97 ln_98 => ⟨r_93, I_99, L_100, rfl, rfl, ?_⟩)
      replace hl := hl.call ln_98 (fun c hc => by first | exact hc | exact False.elim hc | (dsimp only at hc ⊢; omega) | omega)
      replace hg := gt_b3 gn_97 hg
      clear gn_97
      have hf_103 : Fm (fun c => (o ≤ c ∧ c < o + 5) ∨ c = x1) I0 I_99 := hf_88.call fr_102 (fun c hc => by first | exact hc | (dsimp only at hc ⊢; omega) | omega)
      have t_104 : (I_99 o 6).toInt = (I_85 o 6).toInt := by rw [fr_102 o (by first | omega | (dsimp only; omega))]
      have t_105 : (I_99 o 8).toInt = (I_85 o 8).toInt := by rw [fr_102 o (by first | omega | (dsimp only; omega))]
      have t_106 : (I_99 o 4).toInt = (I_85 o 4).toInt := by rw [fr_102 o (by first | omega | (dsimp only; omega))]
      have k_107 : TokOK I_99 x1 := k_92.fr (fr_102 _ (by first | omega | (dsimp only; omega))) (fr_102 _ (by first | omega | (dsimp only; omega)))
      have b_108 : 0 ≤ r_93.toInt ∧ r_93.toInt ≤ 1 := u_94.rg
      exact ⟨u_94, (hp _ _ _ hR_101 hf_103 (u_94) hg.symm hl)⟩
  · have d_109 := iEq c_16
    replace hg := gt_pos (by first | exact d_109 | omega) hg
    have l_110 : (2 : Int32).toInt = 2 := rfl
    refine y_Tape_refuseg hok hw1 ra1 (by first | omega | (intro h; omega) | exact Or.inl rfl | exact Or.inr rfl) hR_9 (fun I_116 L_117 hR_118 fr_119 u_112 u_113 gn_114 ln_115 => ⟨I_116, L_117, rfl, rfl, ?_⟩)
    replace hl := hl.call ln_115 (fun c hc => by first | exact hc | exact False.elim hc | (dsimp only at hc ⊢; omega) | omega)
    replace hg := gt_b3 gn_114 hg
    clear gn_114
    have hf_120 : Fm (fun c => (o ≤ c ∧ c < o + 5) ∨ c = x1) I0 I_116 := hf_10.call fr_119 (fun c hc => by first | exact hc | (dsimp only at hc ⊢; omega) | omega)
    have t_121 : (I_116 o 6).toInt = (I_7 o 6).toInt := by rw [fr_119 o (by first | omega | (dsimp only; omega))]
    have t_122 : (I_116 o 8).toInt = (I_7 o 8).toInt := by rw [fr_119 o (by first | omega | (dsimp only; omega))]
    have k_123 : TokOK I_116 x1 := k_13.fr (fr_119 _ (by first | omega | (dsimp only; omega))) (fr_119 _ (by first | omega | (dsimp only; omega)))
    have l_124 : (0 : Int32).toInt = 0 := rfl
    exact (hp _ _ _ hR_118 hf_120 (Or.inl rfl) hg.symm hl)
noncomputable def gReform_read_11 (k : Nat) (o x1 : Nat) (J : gJ) (L : gL) (x2 : Int) : Int × gJ × gL := match k with
  | 0 => default
  | k + 1 => (if 700 ≤ x2 then (1, J, L) else gLet (gTape_atEnd_0 x1 J L) (fun (r_1 : Int) => (if r_1 = 0 then gB3 (gReform_readLine_0 o x1 J L) (fun r_2 J_3 L_4 => (if r_2 = 0 then (0, J_3, L_4) else gLet (J_3 o 5) (fun (v_5 : Int) => gLet (wAdd v_5 1) (fun (v_6 : Int) => gLet (q_u J_3 o 5 v_6) (fun (J_7 : gJ) => gLet (x2 + 1) (fun (v_8 : Int) => (gReform_read_11 k o x1 J_7 L_4 v_8))))))) else (1, J, L))))
theorem eReform_read_11 {k : Nat} {o x1 : Nat} {J : gJ} {L : gL} {x2 : Int} : gReform_read_11 (k + 1) o x1 J L x2 = (if 700 ≤ x2 then (1, J, L) else gLet (gTape_atEnd_0 x1 J L) (fun (r_1 : Int) => (if r_1 = 0 then gB3 (gReform_readLine_0 o x1 J L) (fun r_2 J_3 L_4 => (if r_2 = 0 then (0, J_3, L_4) else gLet (J_3 o 5) (fun (v_5 : Int) => gLet (wAdd v_5 1) (fun (v_6 : Int) => gLet (q_u J_3 o 5 v_6) (fun (J_7 : gJ) => gLet (x2 + 1) (fun (v_8 : Int) => (gReform_read_11 k o x1 J_7 L_4 v_8))))))) else (1, J, L)))) := rfl
noncomputable def gReform_read_0 (o x1 : Nat) (J : gJ) (L : gL) : Int × gJ × gL := gB3 (gReform_clear_0 o J L) (fun r_1 J_2 L_3 => gB3 (gTape_startReading_0 x1 J_2 L_3 0) (fun r_4 J_5 L_6 => (gReform_read_11 20000 o x1 J_5 L_6 0)))
theorem eReform_read_0 {o x1 : Nat} {J : gJ} {L : gL} : gReform_read_0 o x1 J L  = gB3 (gReform_clear_0 o J L) (fun r_1 J_2 L_3 => gB3 (gTape_startReading_0 x1 J_2 L_3 0) (fun r_4 J_5 L_6 => (gReform_read_11 20000 o x1 J_5 L_6 0))) := rfl
set_option maxHeartbeats 4000000 in
set_option maxRecDepth 20000 in
theorem yReform_read_11g {D : va_G} {cA : FieldType → ClassId} {b : Nat} {kS vS : Nat → Nat} {xb xl : Nat} {xs : Nat → Int32} {R : qRg} {o n : Nat} {sh : Nat → qC} {Rf : Nat → Nat → Option Nat} {I0 : Nat → Nat → Int32} {L0 : Nat → Nat → Int64} {post : Option Value → qS → Prop} {x1 : Nat} (hok : q_ok (qGG D cA b (qEx b kS vS xb xl xs))) (hw : WfReform (qGG D cA b (qEx b kS vS xb xl xs)) n sh Rf o) (ra : RAReform R o) (hw1 : WfTape (qGG D cA b (qEx b kS vS xb xl xs)) n sh Rf x1) (ra1 : RATape R x1) (hs0 : o + 5 ≤ x1 ∨ x1 + 7 ≤ o) (hq0 : TokOK I0 x1) (hp : ∀ (r : Int32) (I' : Nat → Nat → Int32) (L' : Nat → Nat → Int64), RI R I' → Fm (fun c => (o ≤ c ∧ c < o + 5) ∨ (x1 ≤ c ∧ c < x1 + 7)) I0 I' → (Bz r) → (TokOK I' x1) → (gReform_read_0 o x1 (tI I0) L0 = (r.toInt, tI I', L')) → (FmL (fun c => c = (x1 + 6)) L0 L') → post (some (.int r)) (n, sh, Rf, I', L')) : ∀ (k : Nat) {x2 : Int32} {I : Nat → Nat → Int32} {L : Nat → Nat → Int64}, RI R I → Fm (fun c => (o ≤ c ∧ c < o + 5) ∨ (x1 ≤ c ∧ c < x1 + 7)) I0 I → ((0 : Int) ≤ x2.toInt ∧ x2.toInt ≤ 700) → (TokOK I x1) → (FmL (fun c => c = (x1 + 6)) L0 L) → (gReform_read_11 k o x1 (tI I) L (x2).toInt = gReform_read_0 o x1 (tI I0) L0) → (700 - x2.toInt).toNat < k → Ev (qGG D cA b (qEx b kS vS xb xl xs)) mReform_read 102 (0, 0) 11 [(0, .ref o), (1, .ref x1), (2, .int x2)] [] (n, sh, Rf, I, L) post := by
  intro k
  induction k with
  | zero =>
    intro x2 I L hR hf hi0 hi1 hl hg hm
    exact absurd hm (Nat.not_lt_zero _)
  | succ k ih =>
    intro x2 I L hR hf hi0 hi1 hl hg hm
    refine sReform_read_11 o n sh Rf I L post x1 x2 hok hw hw1 ?_
    unfold fReform_read_11
    replace hg := (eReform_read_11).symm.trans hg
    have l_1 : (700 : Int32).toInt = 700 := rfl
    refine ⟨fun c_2 => ?_, fun c_2 => ?_⟩
    · have d_3 := iLe c_2
      replace hg := gt_pos (by first | exact d_3 | omega) hg
      have l_4 : (1 : Int32).toInt = 1 := rfl
      exact (hp _ _ _ hR hf (Or.inr rfl) hi1 hg.symm hl)
    · have d_5 := iNle c_2
      replace hg := gt_neg (by first | exact d_5 | omega) hg
      refine y_Tape_atEndg hok hw1 ra1 hR (fun r_6 u_7 gn_8 => ⟨r_6, I, L, rfl, rfl, ?_⟩)
      replace hg := gt_let gn_8 hg
      clear gn_8
      have b_9 : 0 ≤ r_6.toInt ∧ r_6.toInt ≤ 1 := u_7.rg
      have l_10 : (0 : Int32).toInt = 0 := rfl
      refine ⟨fun c_11 => ?_, fun c_11 => ?_⟩
      · have d_12 := iNe c_11
        replace hg := gt_neg (by first | exact d_12 | omega) hg
        have l_13 : (1 : Int32).toInt = 1 := rfl
        exact (hp _ _ _ hR hf (Or.inr rfl) hi1 hg.symm hl)
      · have d_14 := iEq c_11
        replace hg := gt_pos (by first | exact d_14 | omega) hg
        refine y_Reform_readLineg hok hw ra hw1 ra1 (by first | omega | (intro h; omega) | exact Or.inl rfl | exact Or.inr rfl) hi1 hR (fun r_15 I_19 L_20 hR_21 fr_22 u_16 gn_17 ln_18 => ⟨r_15, I_19, L_20, rfl, rfl, ?_⟩)
        replace hl := hl.call ln_18 (fun c hc => by first | exact hc | exact False.elim hc | (dsimp only at hc ⊢; omega) | omega)
        replace hg := gt_b3 gn_17 hg
        clear gn_17
        have hf_23 : Fm (fun c => (o ≤ c ∧ c < o + 5) ∨ (x1 ≤ c ∧ c < x1 + 7)) I0 I_19 := hf.call fr_22 (fun c hc => by first | exact hc | (dsimp only at hc ⊢; omega) | omega)
        have k_24 : TokOK I_19 x1 := hi1.fr (fr_22 _ (by first | omega | (dsimp only; omega))) (fr_22 _ (by first | omega | (dsimp only; omega)))
        have b_25 : 0 ≤ r_15.toInt ∧ r_15.toInt ≤ 1 := u_16.rg
        refine ⟨fun c_26 => ?_, fun c_26 => ?_⟩
        · have d_27 := iNe c_26
          replace hg := gt_neg (by first | exact d_27 | omega) hg
          replace hg := gt_let (y := (I_19 o 5).toInt) rfl hg
          have l_28 : (1 : Int32).toInt = 1 := rfl
          replace hg := gt_let (y := (((I_19 o 5) + 1) : Int32).toInt) (wAdd_eq ((I_19 o 5) : Int32) (1 : Int32)) hg
          refine fun I_29 e_30 => ?_
          replace hg := gt_let (y := tI I_29) (tI_q e_30) hg
          have hR_31 : RI R I_29 := hR_21.up0 (k := 5) ra (by decide) (Or.inl rfl) e_30 (i_lo _) (i_hi _)
          have hf_32 : Fm (fun c => (o ≤ c ∧ c < o + 5) ∨ (x1 ≤ c ∧ c < x1 + 7)) I0 I_29 := hf_23.set (by first | rfl | omega | (dsimp only; omega)) e_30
          have k_33 : TokOK I_29 x1 := k_24.fr (by rw [← e_30]; exact q_u_ne (by omega)) (by rw [← e_30]; exact q_u_ne (by omega))
          have a_35 : (x2 + Int32.ofInt 1).toInt = x2.toInt + (1) := tIc (by omega) (by omega) (by decide) (by decide)
          generalize ez_34 : (x2 + Int32.ofInt 1) = z_34 at a_35 ⊢
          replace hg := gt_let (y := z_34.toInt) (by omega) hg
          exact ih hR_31 hf_32 (by first | omega | (intro h; omega) | exact Or.inl rfl | exact Or.inr rfl) k_33 hl hg (by omega)
        · have d_36 := iEq c_26
          replace hg := gt_pos (by first | exact d_36 | omega) hg
          exact (hp _ _ _ hR_21 hf_23 (Or.inl rfl) k_24 hg.symm hl)
set_option maxHeartbeats 4000000 in
set_option maxRecDepth 20000 in
theorem y_Reform_readg {D : va_G} {cA : FieldType → ClassId} {b : Nat} {kS vS : Nat → Nat} {xb xl : Nat} {xs : Nat → Int32} {R : qRg} {o n : Nat} {sh : Nat → qC} {Rf : Nat → Nat → Option Nat} {I0 : Nat → Nat → Int32} {L0 : Nat → Nat → Int64} {post : Option Value → qS → Prop} {x1 : Nat} (hok : q_ok (qGG D cA b (qEx b kS vS xb xl xs))) (hw : WfReform (qGG D cA b (qEx b kS vS xb xl xs)) n sh Rf o) (ra : RAReform R o) (hw1 : WfTape (qGG D cA b (qEx b kS vS xb xl xs)) n sh Rf x1) (ra1 : RATape R x1) (hs0 : o + 5 ≤ x1 ∨ x1 + 7 ≤ o) (hq0 : TokOK I0 x1) (hR : RI R I0) (hp : ∀ (r : Int32) (I' : Nat → Nat → Int32) (L' : Nat → Nat → Int64), RI R I' → Fm (fun c => (o ≤ c ∧ c < o + 5) ∨ (x1 ≤ c ∧ c < x1 + 7)) I0 I' → (Bz r) → (TokOK I' x1) → (gReform_read_0 o x1 (tI I0) L0 = (r.toInt, tI I', L')) → (FmL (fun c => c = (x1 + 6)) L0 L') → post (some (.int r)) (n, sh, Rf, I', L')) : Ev (qGG D cA b (qEx b kS vS xb xl xs)) mReform_read 102 (0, 0) 0 (lv_args 0 [.ref o, .ref x1]) [] (n, sh, Rf, I0, L0) post := by
  have hf : Fm (fun c => (o ≤ c ∧ c < o + 5) ∨ (x1 ≤ c ∧ c < x1 + 7)) I0 I0 := Fm.rf
  refine sReform_read_0 o n sh Rf I0 L0 post x1 hok hw hw1 ?_
  unfold fReform_read_0
  have hl : FmL (fun c => c = (x1 + 6)) L0 L0 := FmL.rf
  have hg : gReform_read_0 o x1 (tI I0) L0 = gReform_read_0 o x1 (tI I0) L0 := rfl
  replace hg := (eReform_read_0).symm.trans hg
  refine y_Reform_clearg hok hw ra hR (fun I_40 L_41 hR_42 fr_43 gn_38 ln_39 => ⟨I_40, L_41, rfl, rfl, ?_⟩)
  replace hl := hl.call ln_39 (fun c hc => by first | exact hc | exact False.elim hc | (dsimp only at hc ⊢; omega) | omega)
  replace hg := gt_b3 gn_38 hg
  clear gn_38
  have hf_44 : Fm (fun c => (o ≤ c ∧ c < o + 5) ∨ (x1 ≤ c ∧ c < x1 + 7)) I0 I_40 := hf.call fr_43 (fun c hc => by first | exact hc | (dsimp only at hc ⊢; omega) | omega)
  have k_45 : TokOK I_40 x1 := hq0.fr (fr_43 _ (by first | omega | (dsimp only; omega))) (fr_43 _ (by first | omega | (dsimp only; omega)))
  have l_46 : (0 : Int32).toInt = 0 := rfl
  refine y_Tape_startReadingg hok hw1 ra1 (by first | omega | (intro h; omega) | exact Or.inl rfl | exact Or.inr rfl) k_45 hR_42 (fun I_51 L_52 hR_53 fr_54 u_48 gn_49 ln_50 => ⟨I_51, L_52, rfl, rfl, ?_⟩)
  replace hl := hl.call ln_50 (fun c hc => by first | exact hc | exact False.elim hc | (dsimp only at hc ⊢; omega) | omega)
  replace hg := gt_b3 gn_49 hg
  clear gn_49
  have hf_55 : Fm (fun c => (o ≤ c ∧ c < o + 5) ∨ (x1 ≤ c ∧ c < x1 + 7)) I0 I_51 := hf_44.call fr_54 (fun c hc => by first | exact hc | (dsimp only at hc ⊢; omega) | omega)
  exact yReform_read_11g (I0 := I0) (L0 := L0) hok hw ra hw1 ra1 hs0 hq0 hp  20000 hR_53 hf_55 (by first | omega | (intro h; omega) | exact Or.inl rfl | exact Or.inr rfl) u_48 hl hg (by omega)
