/-! The calls that write it. By program (lawr.py). -/
def meF (t b : Int) : Int := if b < 0 ∨ 30000 < b ∨ 6 ≤ t then -1 else t
def meT (t b : Int) : Int := if b < 0 ∨ 30000 < b ∨ 6 ≤ t then t else t + 1
set_option maxHeartbeats 4000000 in
set_option maxRecDepth 20000 in
theorem yc_Model_merchant2 {D : va_G} {cA : FieldType → ClassId} {b : Nat} {E : State → Prop} {R : qRg} {o n : Nat} {sh : Nat → qC} {Rf : Nat → Nat → Option Nat} {I0 : Nat → Nat → Int32} {L0 : Nat → Nat → Int64} {post : Option Value → qS → Prop} {p1 : Int32} (hok : q_ok (qGG D cA b E)) (hw : WfModel (qGG D cA b E) n sh Rf o) (ra : RAModel R o) (hz76 : R.2 76 = true) (hz145 : R.2 145 = true) (hZ : Fz R I0 o wModel_merchant) (hR0 : RI R I0) (hR : RI R I0) (hp : ∀ (r : Int32) (I' : Nat → Nat → Int32) (L' : Nat → Nat → Int64), RI R I' → Fm (fun c => c = o ∨ c = o + 35) I0 I' → (r.toInt = meF (I0 o 66).toInt p1.toInt) → ((I' o 66).toInt = meT (I0 o 66).toInt p1.toInt) → post (some (.int r)) (n, sh, Rf, I', L')) : Ev (qGG D cA b E) mModel_merchant 0 (0, 0) 0 (lv_args 0 [.ref o, .int p1]) [] (n, sh, Rf, I0, L0) post := by
  have hf : Fm (fun c => c = o ∨ c = o + 35) I0 I0 := Fm.rf
  have g_1 : (0 : Int) ≤ (I0 o 66).toInt ∧ (I0 o 66).toInt ≤ 6 := hR.at0 ra 66 (by decide)
  refine sModel_merchant_0 o n sh Rf I0 L0 post p1 hok hw ?_
  unfold fModel_merchant_0
  have l_2 : (0 : Int32).toInt = 0 := rfl
  refine ⟨fun c_3 => ?_, fun c_3 => ?_⟩
  · have d_4 := iLt c_3
    have l_5 : (-1 : Int32).toInt = -1 := rfl
    exact (hp _ _ _ hR hf (by unfold meF; split <;> omega) (by unfold meT; split <;> omega))
  · have d_6 := iNlt c_3
    have l_7 : (30000 : Int32).toInt = 30000 := rfl
    refine ⟨fun c_8 => ?_, fun c_8 => ?_⟩
    · have d_9 := iLt c_8
      have l_10 : (-1 : Int32).toInt = -1 := rfl
      exact (hp _ _ _ hR hf (by unfold meF; split <;> omega) (by unfold meT; split <;> omega))
    · have d_11 := iNlt c_8
      have g_12 : (0 : Int) ≤ (I0 o 66).toInt ∧ (I0 o 66).toInt ≤ 6 := hR.at0 ra 66 (by decide)
      have l_13 : (6 : Int32).toInt = 6 := rfl
      refine ⟨fun c_14 => ?_, fun c_14 => ?_⟩
      · have d_15 := iNe c_14
        refine fun I_16 e_17 => ?_
        have hR_18 : RI R I_16 := hR.up0 (k := 135) ra (by decide) (Or.inr hz145) e_17 (i_lo _) (i_hi _)
        have hf_19 : Fm (fun c => c = o ∨ c = o + 35) I0 I_16 := hf.set (by first | rfl | omega | (dsimp only; omega)) e_17
        have t_20 : (I_16 o 66).toInt = (I0 o 66).toInt := by rw [← e_17, q_u_k (by decide)]
        have g_21 : (0 : Int) ≤ (I_16 o 66).toInt ∧ (I_16 o 66).toInt ≤ 6 := hR_18.at0 ra 66 (by decide)
        refine ⟨tIn (by omega) (by omega), fun I_22 e_23 => ?_⟩
        have hR_24 : RI R I_22 := hR_18.up ra 35 (by decide) (Or.inl rfl) e_23 (i_lo _) (i_hi _)
        have hf_25 : Fm (fun c => c = o ∨ c = o + 35) I0 I_22 := hf_19.set (by first | rfl | omega | (dsimp only; omega)) e_23
        have t_26 : (I_22 o 66).toInt = (I_16 o 66).toInt := by rw [← e_23, q_u_ne (by omega)]
        have g_27 : (0 : Int) ≤ (I_22 o 66).toInt ∧ (I_22 o 66).toInt ≤ 6 := hR_24.at0 ra 66 (by decide)
        have l_28 : (1 : Int32).toInt = 1 := rfl
        have a_29 : ((I_22 o 66) + 1).toInt = (I_22 o 66).toInt + (1 : Int32).toInt := tAdd (by omega) (by omega)
        refine fun I_30 e_31 => ?_
        have hR_32 : RI R I_30 := hR_24.up0 (k := 66) ra (by decide) (Or.inr hz76) e_31 (show (0 : Int) ≤ ((I_22 o 66) + 1).toInt by omega) (show ((I_22 o 66) + 1).toInt ≤ (6 : Int) by omega)
        have hf_33 : Fm (fun c => c = o ∨ c = o + 35) I0 I_30 := hf_25.set (by first | rfl | omega | (dsimp only; omega)) e_31
        have t_34 : (I_30 o 66).toInt = ((I_22 o 66) + 1).toInt := by rw [← e_31, q_u_at]
        have g_35 : (0 : Int) ≤ (I_30 o 66).toInt ∧ (I_30 o 66).toInt ≤ 6 := hR_32.at0 ra 66 (by decide)
        have a_36 : ((I_30 o 66) - 1).toInt = (I_30 o 66).toInt - (1 : Int32).toInt := tSub (by omega) (by omega)
        exact (hp _ _ _ hR_32 hf_33 (by unfold meF; split <;> omega) (by unfold meT; split <;> omega))
      · have d_37 := iEq c_14
        have l_38 : (-1 : Int32).toInt = -1 := rfl
        exact (hp _ _ _ hR hf (by unfold meF; split <;> omega) (by unfold meT; split <;> omega))
theorem y_Model_merchant2 {D : va_G} {cA : FieldType → ClassId} {b : Nat} {E : State → Prop} {R : qRg} {o n : Nat} {sh : Nat → qC} {Rf : Nat → Nat → Option Nat} {I0 : Nat → Nat → Int32} {L0 : Nat → Nat → Int64} {post : Option Value → qS → Prop} {p1 : Int32} (hok : q_ok (qGG D cA b E)) (hw : WfModel (qGG D cA b E) n sh Rf o) (ra : RAModel R o) (hz76 : R.2 76 = true) (hz145 : R.2 145 = true) (hR : RI R I0) (hp : ∀ (r : Int32) (I' : Nat → Nat → Int32) (L' : Nat → Nat → Int64), RI R I' → Fm (fun c => c = o ∨ c = o + 35) I0 I' → Kp wModel_merchant I0 I' o → (r.toInt = meF (I0 o 66).toInt p1.toInt) → ((I' o 66).toInt = meT (I0 o 66).toInt p1.toInt) → post (some (.int r)) (n, sh, Rf, I', L')) : Ev (qGG D cA b E) mModel_merchant 0 (0, 0) 0 (lv_args 0 [.ref o, .int p1]) [] (n, sh, Rf, I0, L0) post :=
  yc_Model_merchant2 (R := fzR R I0 o wModel_merchant) hok hw (fzA ra hR _) (fzT hz76 rfl) (fzT hz145 rfl) fzZ (fzI hR) (fzI hR) (fun r I' L' h1 h2 u0 u1 => hp r I' L' (fzB hR h1) h2 (fzP h1) u0 u1)
set_option maxHeartbeats 4000000 in
set_option maxRecDepth 20000 in
theorem y_Office_merchant2 {D : va_G} {cA : FieldType → ClassId} {b : Nat} {E : State → Prop} {R : qRg} {o n : Nat} {sh : Nat → qC} {Rf : Nat → Nat → Option Nat} {I0 : Nat → Nat → Int32} {L0 : Nat → Nat → Int64} {post : Option Value → qS → Prop} {p1 : Int32} (hok : q_ok (qGG D cA b E)) (hw : WfOffice (qGG D cA b E) n sh Rf o) (ra : RAOffice R o) (hz2 : R.2 2 = true) (hR : RI R I0) (hp : ∀ (r : Int32) (I' : Nat → Nat → Int32) (L' : Nat → Nat → Int64), RI R I' → Fm (fun c => c = o + 46 ∨ c = o + 47 ∨ c = o + 55) I0 I' → (r.toInt = meF (I0 (o + 46) 1).toInt p1.toInt) → ((I' (o + 46) 1).toInt = meT (I0 (o + 46) 1).toInt p1.toInt) → post (some (.int r)) (n, sh, Rf, I', L')) : Ev (qGG D cA b E) mOffice_merchant 0 (0, 0) 0 (lv_args 0 [.ref o, .int p1]) [] (n, sh, Rf, I0, L0) post := by
  have hf : Fm (fun c => c = o + 46 ∨ c = o + 47 ∨ c = o + 55) I0 I0 := Fm.rf
  have g_1 : (0 : Int) ≤ (I0 (o + 46) 1).toInt ∧ (I0 (o + 46) 1).toInt ≤ 6 := hR.at0 (rsOffice_5 ra) 1 (by decide)
  refine sOffice_merchant_0 o n sh Rf I0 L0 post p1 hok hw ?_
  unfold fOffice_merchant_0
  have l_2 : (0 : Int32).toInt = 0 := rfl
  refine ⟨fun c_3 => ?_, fun c_3 => ?_⟩
  · have d_4 := iLt c_3
    have l_5 : (-1 : Int32).toInt = -1 := rfl
    exact (hp _ _ _ hR hf (by unfold meF; split <;> omega) (by unfold meT; split <;> omega))
  · have d_6 := iNlt c_3
    have l_7 : (30000 : Int32).toInt = 30000 := rfl
    refine ⟨fun c_8 => ?_, fun c_8 => ?_⟩
    · have d_9 := iLt c_8
      have l_10 : (-1 : Int32).toInt = -1 := rfl
      exact (hp _ _ _ hR hf (by unfold meF; split <;> omega) (by unfold meT; split <;> omega))
    · have d_11 := iNlt c_8
      have g_12 : (0 : Int) ≤ (I0 (o + 46) 1).toInt ∧ (I0 (o + 46) 1).toInt ≤ 6 := hR.at0 (rsOffice_5 ra) 1 (by decide)
      have l_13 : (6 : Int32).toInt = 6 := rfl
      refine ⟨fun c_14 => ?_, fun c_14 => ?_⟩
      · have d_15 := iLt c_14
        refine fun I_16 e_17 => ?_
        have hR_18 : RI R I_16 := hR.up0 (k := 15) (rsOffice_8 ra) (by decide) (Or.inl rfl) e_17 (i_lo _) (i_hi _)
        have hf_19 : Fm (fun c => c = o + 46 ∨ c = o + 47 ∨ c = o + 55) I0 I_16 := hf.set (by first | rfl | omega | (dsimp only; omega)) e_17
        have t_20 : (I_16 (o + 46) 1).toInt = (I0 (o + 46) 1).toInt := by rw [← e_17, q_u_ne (by omega)]
        have g_21 : (0 : Int) ≤ (I_16 (o + 46) 1).toInt ∧ (I_16 (o + 46) 1).toInt ≤ 6 := hR_18.at0 (rsOffice_5 ra) 1 (by decide)
        refine ⟨tIn (by omega) (by omega), fun I_22 e_23 => ?_⟩
        have hR_24 : RI R I_22 := hR_18.up (rsOffice_5 ra) 1 (by decide) (Or.inl rfl) e_23 (i_lo _) (i_hi _)
        have hf_25 : Fm (fun c => c = o + 46 ∨ c = o + 47 ∨ c = o + 55) I0 I_22 := hf_19.set (by first | rfl | omega | (dsimp only; omega)) e_23
        have t_26 : (I_22 (o + 46) 1).toInt = (I_16 (o + 46) 1).toInt := by rw [← e_23, q_u_ne (by omega)]
        have g_27 : (0 : Int) ≤ (I_22 (o + 46) 1).toInt ∧ (I_22 (o + 46) 1).toInt ≤ 6 := hR_24.at0 (rsOffice_5 ra) 1 (by decide)
        have l_28 : (1 : Int32).toInt = 1 := rfl
        have a_29 : ((I_22 (o + 46) 1) + 1).toInt = (I_22 (o + 46) 1).toInt + (1 : Int32).toInt := tAdd (by omega) (by omega)
        refine fun I_30 e_31 => ?_
        have hR_32 : RI R I_30 := hR_24.up0 (k := 1) (rsOffice_5 ra) (by decide) (Or.inr hz2) e_31 (show (0 : Int) ≤ ((I_22 (o + 46) 1) + 1).toInt by omega) (show ((I_22 (o + 46) 1) + 1).toInt ≤ (6 : Int) by omega)
        have hf_33 : Fm (fun c => c = o + 46 ∨ c = o + 47 ∨ c = o + 55) I0 I_30 := hf_25.set (by first | rfl | omega | (dsimp only; omega)) e_31
        have t_34 : (I_30 (o + 46) 1).toInt = ((I_22 (o + 46) 1) + 1).toInt := by rw [← e_31, q_u_at]
        have g_35 : (0 : Int) ≤ (I_30 (o + 46) 1).toInt ∧ (I_30 (o + 46) 1).toInt ≤ 6 := hR_32.at0 (rsOffice_5 ra) 1 (by decide)
        have a_36 : ((I_30 (o + 46) 1) - 1).toInt = (I_30 (o + 46) 1).toInt - (1 : Int32).toInt := tSub (by omega) (by omega)
        exact (hp _ _ _ hR_32 hf_33 (by unfold meF; split <;> omega) (by unfold meT; split <;> omega))
      · have d_37 := iNlt c_14
        have l_38 : (-1 : Int32).toInt = -1 := rfl
        exact (hp _ _ _ hR hf (by unfold meF; split <;> omega) (by unfold meT; split <;> omega))
section YW
variable {D : va_G} {cA : FieldType → ClassId} {b : Nat} {kS vS : Nat → Nat} {xb xl : Nat} {xs : Nat → Int32} {R : qRg} {o n : Nat} {sh : Nat → qC} {Rf Rf' : Nat → Nat → Option Nat} {I I' : Nat → Nat → Int32} {L : Nat → Nat → Int64} {post : Option Value → qS → Prop}
theorem yw_merchant {p1 : Int32} (hA : ∀ i, R.2 i = true) (h : OI (qGG D cA b (qEx b kS vS xb xl xs)) R n sh Rf I o) (hp : ∀ (r : Int32) (Rf' : Nat → Nat → Option Nat) (I' : Nat → Nat → Int32) (L' : Nat → Nat → Int64), r.toInt = meF (I (o + 46) 1).toInt p1.toInt → (I' (o + 46) 1).toInt = meT (I (o + 46) 1).toInt p1.toInt → OI (qGG D cA b (qEx b kS vS xb xl xs)) R n sh Rf' I' o → (∀ a, o + 207 ≤ a → Rf' a = Rf a ∧ I' a = I a) → post (some (.int r)) (n, sh, Rf', I', L')) : Ev (qGG D cA b (qEx b kS vS xb xl xs)) mOffice_merchant 0 (0, 0) 0 (lv_args 0 [.ref o, .int p1]) [] (n, sh, Rf, I, L) post :=
  y_Office_merchant2 qEx_ok h.1 h.2.1 (hA 2) h.2.2.1 (fun r I' L' hR hf u0 u1 => hp r Rf I' L' u0 u1 (h.fm hR hf (fun c hc => by first | (dsimp only; omega) | omega) (h.tok hf (fun c hc => by first | (dsimp only; omega) | omega)) (h.fac hf (fun c hc => by first | (dsimp only; omega) | omega))) (fun a ha => ⟨rfl, hf a (by first | omega | (dsimp only; omega))⟩))
theorem ymw_merchant {p1 : Int32} (hok : q_ok (qGG D cA b (qEx b kS vS xb xl xs))) (hA : ∀ j, R.2 j = true) (h : MI (qGG D cA b (qEx b kS vS xb xl xs)) R n sh Rf I o) (hp : ∀ (r : Int32) (I' : Nat → Nat → Int32) (L' : Nat → Nat → Int64), MI (qGG D cA b (qEx b kS vS xb xl xs)) R n sh Rf I' o → (∀ a, a < o → I' a = I a) → (r.toInt = meF (I o 66).toInt p1.toInt) → ((I' o 66).toInt = meT (I o 66).toInt p1.toInt) → post (some (.int r)) (n, sh, Rf, I', L')) : Ev (qGG D cA b (qEx b kS vS xb xl xs)) mModel_merchant 0 (0, 0) 0 (lv_args 0 [.ref o, .int p1]) [] (n, sh, Rf, I, L) post :=
  y_Model_merchant2 hok h.1 h.2.1 (hA 76) (hA 145) h.2.2.1 (fun r I' L' hR fr kp u0 u1 => hp r I' L' ⟨h.1, h.2.1, hR, (h.2.2.2.1.fr (fr _ (by first | omega | (dsimp only; omega))) (fr _ (by first | omega | (dsimp only; omega))) (fr _ (by first | omega | (dsimp only; omega)))), (h.2.2.2.2.fr (fr _ (by first | omega | (dsimp only; omega))) (fr _ (by first | omega | (dsimp only; omega))) (kp 67 rfl))⟩ (fun a ha => fr a (by first | omega | (dsimp only; omega))) u0 u1)
theorem yk_feed {p1 : Int32} {p2 : Int32} {p3 : Int32} {p4 : Int32} {p5 : Int32} (hA : ∀ i, R.2 i = true) (h : OI (qGG D cA b (qEx b kS vS xb xl xs)) R n sh Rf I o) (hp : ∀ (r : Int32) (Rf' : Nat → Nat → Option Nat) (I' : Nat → Nat → Int32) (L' : Nat → Nat → Int64), I' (o + 46) 1 = I (o + 46) 1 → OI (qGG D cA b (qEx b kS vS xb xl xs)) R n sh Rf' I' o → (∀ a, o + 207 ≤ a → Rf' a = Rf a ∧ I' a = I a) → post (some (.int r)) (n, sh, Rf', I', L')) : Ev (qGG D cA b (qEx b kS vS xb xl xs)) mOffice_feed 1 (0, 0) 0 (lv_args 0 [.ref o, .int p1, .int p2, .int p3, .int p4, .int p5]) [] (n, sh, Rf, I, L) post :=
  yo_feed (R := fz1 R I (o + 46) 1 2) (f1_t hA rfl) (h.f1 hA) (fun r Rf' I' L' hX e => hp r Rf' I' L' (f1_K hX.2.2.1) (OI.u1 hA h hX) e)
theorem yk_end {p1 : Int32} (hA : ∀ i, R.2 i = true) (h : OI (qGG D cA b (qEx b kS vS xb xl xs)) R n sh Rf I o) (hp : ∀ (r : Int32) (Rf' : Nat → Nat → Option Nat) (I' : Nat → Nat → Int32) (L' : Nat → Nat → Int64), I' (o + 46) 1 = I (o + 46) 1 → OI (qGG D cA b (qEx b kS vS xb xl xs)) R n sh Rf' I' o → (∀ a, o + 207 ≤ a → Rf' a = Rf a ∧ I' a = I a) → post (some (.int r)) (n, sh, Rf', I', L')) : Ev (qGG D cA b (qEx b kS vS xb xl xs)) mOffice_end 0 (0, 0) 0 (lv_args 0 [.ref o, .int p1]) [] (n, sh, Rf, I, L) post :=
  yo_end (R := fz1 R I (o + 46) 1 2) (f1_t hA rfl) (h.f1 hA) (fun r Rf' I' L' hX e => hp r Rf' I' L' (f1_K hX.2.2.1) (OI.u1 hA h hX) e)
theorem yk_land (hA : ∀ i, R.2 i = true) (h : OI (qGG D cA b (qEx b kS vS xb xl xs)) R n sh Rf I o) (hp : ∀ (r : Int32) (Rf' : Nat → Nat → Option Nat) (I' : Nat → Nat → Int32) (L' : Nat → Nat → Int64), I' (o + 46) 1 = I (o + 46) 1 → OI (qGG D cA b (qEx b kS vS xb xl xs)) R n sh Rf' I' o → (∀ a, o + 207 ≤ a → Rf' a = Rf a ∧ I' a = I a) → post (some (.int r)) (n, sh, Rf', I', L')) : Ev (qGG D cA b (qEx b kS vS xb xl xs)) mOffice_land 11 (0, 0) 0 (lv_args 0 [.ref o]) [] (n, sh, Rf, I, L) post :=
  yo_land (R := fz1 R I (o + 46) 1 2) (f1_t hA rfl) (h.f1 hA) (fun r Rf' I' L' hX e => hp r Rf' I' L' (f1_K hX.2.2.1) (OI.u1 hA h hX) e)
theorem yk_reform {p1 : Int32} (hA : ∀ i, R.2 i = true) (h : OI (qGG D cA b (qEx b kS vS xb xl xs)) R n sh Rf I o) (hp : ∀ (r : Int32) (Rf' : Nat → Nat → Option Nat) (I' : Nat → Nat → Int32) (L' : Nat → Nat → Int64), I' (o + 46) 1 = I (o + 46) 1 → OI (qGG D cA b (qEx b kS vS xb xl xs)) R n sh Rf' I' o → (∀ a, o + 207 ≤ a → Rf' a = Rf a ∧ I' a = I a) → post (some (.int r)) (n, sh, Rf', I', L')) : Ev (qGG D cA b (qEx b kS vS xb xl xs)) mOffice_reform 103 (0, 0) 0 (lv_args 0 [.ref o, .int p1]) [] (n, sh, Rf, I, L) post :=
  yo_reform (R := fz1 R I (o + 46) 1 2) (f1_t hA rfl) (h.f1 hA) (fun r Rf' I' L' hX e => hp r Rf' I' L' (f1_K hX.2.2.1) (OI.u1 hA h hX) e)
theorem yk_fault {p1 : Int32} (hA : ∀ i, R.2 i = true) (h : OI (qGG D cA b (qEx b kS vS xb xl xs)) R n sh Rf I o) (hp : ∀ (r : Int32) (Rf' : Nat → Nat → Option Nat) (I' : Nat → Nat → Int32) (L' : Nat → Nat → Int64), I' (o + 46) 1 = I (o + 46) 1 → OI (qGG D cA b (qEx b kS vS xb xl xs)) R n sh Rf' I' o → (∀ a, o + 207 ≤ a → Rf' a = Rf a ∧ I' a = I a) → post (some (.int r)) (n, sh, Rf', I', L')) : Ev (qGG D cA b (qEx b kS vS xb xl xs)) mOffice_fault 0 (0, 0) 0 (lv_args 0 [.ref o, .int p1]) [] (n, sh, Rf, I, L) post :=
  yo_fault (R := fz1 R I (o + 46) 1 2)  (h.f1 hA) (fun r Rf' I' L' hX e => hp r Rf' I' L' (f1_K hX.2.2.1) (OI.u1 hA h hX) e)
theorem yk_days {p1 : Int32} {p2 : Int32} (hA : ∀ i, R.2 i = true) (h : OI (qGG D cA b (qEx b kS vS xb xl xs)) R n sh Rf I o) (hp : ∀ (r : Int32) (Rf' : Nat → Nat → Option Nat) (I' : Nat → Nat → Int32) (L' : Nat → Nat → Int64), I' (o + 46) 1 = I (o + 46) 1 → OI (qGG D cA b (qEx b kS vS xb xl xs)) R n sh Rf' I' o → (∀ a, o + 207 ≤ a → Rf' a = Rf a ∧ I' a = I a) → post (some (.int r)) (n, sh, Rf', I', L')) : Ev (qGG D cA b (qEx b kS vS xb xl xs)) mOffice_days 1 (0, 0) 0 (lv_args 0 [.ref o, .int p1, .int p2]) [] (n, sh, Rf, I, L) post :=
  yo_days (R := fz1 R I (o + 46) 1 2)  (h.f1 hA) (fun r Rf' I' L' hX e => hp r Rf' I' L' (f1_K hX.2.2.1) (OI.u1 hA h hX) e)
theorem yk_costs {p1 : Int32} {p2 : Int32} {p3 : Int32} {p4 : Int32} {p5 : Int32} (hA : ∀ i, R.2 i = true) (h : OI (qGG D cA b (qEx b kS vS xb xl xs)) R n sh Rf I o) (hp : ∀ (r : Int32) (Rf' : Nat → Nat → Option Nat) (I' : Nat → Nat → Int32) (L' : Nat → Nat → Int64), r = aCosts p1 p2 p3 p4 p5 → I' (o + 46) 1 = I (o + 46) 1 → OI (qGG D cA b (qEx b kS vS xb xl xs)) R n sh Rf' I' o → (∀ a, o + 207 ≤ a → Rf' a = Rf a ∧ I' a = I a) → post (some (.int r)) (n, sh, Rf', I', L')) : Ev (qGG D cA b (qEx b kS vS xb xl xs)) mOffice_costs 1 (0, 0) 0 (lv_args 0 [.ref o, .int p1, .int p2, .int p3, .int p4, .int p5]) [] (n, sh, Rf, I, L) post :=
  yo_costs (R := fz1 R I (o + 46) 1 2)  (h.f1 hA) (fun r Rf' I' L' fe hX e => hp r Rf' I' L' fe (f1_K hX.2.2.1) (OI.u1 hA h hX) e)
theorem yk_weather {p1 : Int32} {p2 : Int32} {p3 : Int32} (hA : ∀ i, R.2 i = true) (h : OI (qGG D cA b (qEx b kS vS xb xl xs)) R n sh Rf I o) (hp : ∀ (r : Int32) (Rf' : Nat → Nat → Option Nat) (I' : Nat → Nat → Int32) (L' : Nat → Nat → Int64), I' (o + 46) 1 = I (o + 46) 1 → OI (qGG D cA b (qEx b kS vS xb xl xs)) R n sh Rf' I' o → (∀ a, o + 207 ≤ a → Rf' a = Rf a ∧ I' a = I a) → post (some (.int r)) (n, sh, Rf', I', L')) : Ev (qGG D cA b (qEx b kS vS xb xl xs)) mOffice_weather 2 (0, 0) 0 (lv_args 0 [.ref o, .int p1, .int p2, .int p3]) [] (n, sh, Rf, I, L) post :=
  yo_weather (R := fz1 R I (o + 46) 1 2)  (h.f1 hA) (fun r Rf' I' L' hX e => hp r Rf' I' L' (f1_K hX.2.2.1) (OI.u1 hA h hX) e)
theorem yk_forged {p1 : Int32} {p2 : Int32} (hA : ∀ i, R.2 i = true) (h : OI (qGG D cA b (qEx b kS vS xb xl xs)) R n sh Rf I o) (hp : ∀ (r : Int32) (Rf' : Nat → Nat → Option Nat) (I' : Nat → Nat → Int32) (L' : Nat → Nat → Int64), I' (o + 46) 1 = I (o + 46) 1 → OI (qGG D cA b (qEx b kS vS xb xl xs)) R n sh Rf' I' o → (∀ a, o + 207 ≤ a → Rf' a = Rf a ∧ I' a = I a) → post (some (.int r)) (n, sh, Rf', I', L')) : Ev (qGG D cA b (qEx b kS vS xb xl xs)) mOffice_forged 2 (0, 0) 0 (lv_args 0 [.ref o, .int p1, .int p2]) [] (n, sh, Rf, I, L) post :=
  yo_forged (R := fz1 R I (o + 46) 1 2)  (h.f1 hA) (fun r Rf' I' L' hX e => hp r Rf' I' L' (f1_K hX.2.2.1) (OI.u1 hA h hX) e)
theorem yk_dead {p1 : Int32} {p2 : Int32} {p3 : Int32} (hA : ∀ i, R.2 i = true) (h : OI (qGG D cA b (qEx b kS vS xb xl xs)) R n sh Rf I o) (hp : ∀ (r : Int32) (Rf' : Nat → Nat → Option Nat) (I' : Nat → Nat → Int32) (L' : Nat → Nat → Int64), I' (o + 46) 1 = I (o + 46) 1 → OI (qGG D cA b (qEx b kS vS xb xl xs)) R n sh Rf' I' o → (∀ a, o + 207 ≤ a → Rf' a = Rf a ∧ I' a = I a) → post (some (.int r)) (n, sh, Rf', I', L')) : Ev (qGG D cA b (qEx b kS vS xb xl xs)) mOffice_dead 2 (0, 0) 0 (lv_args 0 [.ref o, .int p1, .int p2, .int p3]) [] (n, sh, Rf, I, L) post :=
  yo_dead (R := fz1 R I (o + 46) 1 2)  (h.f1 hA) (fun r Rf' I' L' hX e => hp r Rf' I' L' (f1_K hX.2.2.1) (OI.u1 hA h hX) e)
theorem yk_untell {p1 : Int32} (hA : ∀ i, R.2 i = true) (h : OI (qGG D cA b (qEx b kS vS xb xl xs)) R n sh Rf I o) (hp : ∀ (r : Int32) (Rf' : Nat → Nat → Option Nat) (I' : Nat → Nat → Int32) (L' : Nat → Nat → Int64), I' (o + 46) 1 = I (o + 46) 1 → OI (qGG D cA b (qEx b kS vS xb xl xs)) R n sh Rf' I' o → (∀ a, o + 207 ≤ a → Rf' a = Rf a ∧ I' a = I a) → post (some (.int r)) (n, sh, Rf', I', L')) : Ev (qGG D cA b (qEx b kS vS xb xl xs)) mOffice_untell 0 (0, 0) 0 (lv_args 0 [.ref o, .int p1]) [] (n, sh, Rf, I, L) post :=
  yo_untell (R := fz1 R I (o + 46) 1 2)  (h.f1 hA) (fun r Rf' I' L' hX e => hp r Rf' I' L' (f1_K hX.2.2.1) (OI.u1 hA h hX) e)
theorem yk_later {p1 : Int32} (hA : ∀ i, R.2 i = true) (h : OI (qGG D cA b (qEx b kS vS xb xl xs)) R n sh Rf I o) (hp : ∀ (r : Int32) (Rf' : Nat → Nat → Option Nat) (I' : Nat → Nat → Int32) (L' : Nat → Nat → Int64), I' (o + 46) 1 = I (o + 46) 1 → OI (qGG D cA b (qEx b kS vS xb xl xs)) R n sh Rf' I' o → (∀ a, o + 207 ≤ a → Rf' a = Rf a ∧ I' a = I a) → post (some (.int r)) (n, sh, Rf', I', L')) : Ev (qGG D cA b (qEx b kS vS xb xl xs)) mOffice_later 0 (0, 0) 0 (lv_args 0 [.ref o, .int p1]) [] (n, sh, Rf, I, L) post :=
  yo_later (R := fz1 R I (o + 46) 1 2) (f1_t hA rfl) (h.f1 hA) (fun r Rf' I' L' hX e => hp r Rf' I' L' (f1_K hX.2.2.1) (OI.u1 hA h hX) e)
theorem yk_run {p1 p2 p3 : Int32} (hA : ∀ i, R.2 i = true) (h : OI (qGG D cA b (qEx b kS vS xb xl xs)) R n sh Rf I o) (hp : ∀ (r : Int32) (Rf' : Nat → Nat → Option Nat) (I' : Nat → Nat → Int32) (L' : Nat → Nat → Int64), I' (o + 46) 1 = I (o + 46) 1 → OI (qGG D cA b (qEx b kS vS xb xl xs)) R n sh Rf' I' o → (∀ a, o + 207 ≤ a → Rf' a = Rf a ∧ I' a = I a) → post (some (.int r)) (n, sh, Rf', I', L')) : Ev (qGG D cA b (qEx b kS vS xb xl xs)) mOffice_run 7 (0, 0) 0 (lv_args 0 [.ref o, .int p1, .int p2, .int p3]) [] (n, sh, Rf, I, L) post :=
  yo_run (R := fz1 R I (o + 46) 1 2)  (h.f1 hA) (fun r Rf' I' L' hX e => hp r Rf' I' L' (f1_K hX.2.2.1) (OI.u1 hA h hX) e)
theorem yk_ran {p1 : Int32} (hA : ∀ i, R.2 i = true) (h : OI (qGG D cA b (qEx b kS vS xb xl xs)) R n sh Rf I o) (hp : ∀ (r : Int64) (Rf' : Nat → Nat → Option Nat) (I' : Nat → Nat → Int32) (L' : Nat → Nat → Int64), I' (o + 46) 1 = I (o + 46) 1 → OI (qGG D cA b (qEx b kS vS xb xl xs)) R n sh Rf' I' o → (∀ a, o + 207 ≤ a → Rf' a = Rf a ∧ I' a = I a) → post (some (.long r)) (n, sh, Rf', I', L')) : Ev (qGG D cA b (qEx b kS vS xb xl xs)) mOffice_ran 0 (0, 0) 0 (lv_args 0 [.ref o, .int p1]) [] (n, sh, Rf, I, L) post :=
  yo_ran (R := fz1 R I (o + 46) 1 2)  (h.f1 hA) (fun r Rf' I' L' hX e => hp r Rf' I' L' (f1_K hX.2.2.1) (OI.u1 hA h hX) e)
theorem yk_fort {p1 : Int32} {p2 : Int32} {p3 : Int32} (hA : ∀ i, R.2 i = true) (h : OI (qGG D cA b (qEx b kS vS xb xl xs)) R n sh Rf I o) (hp : ∀ (r : Int32) (Rf' : Nat → Nat → Option Nat) (I' : Nat → Nat → Int32) (L' : Nat → Nat → Int64), I' (o + 46) 1 = I (o + 46) 1 → OI (qGG D cA b (qEx b kS vS xb xl xs)) R n sh Rf' I' o → (∀ a, o + 207 ≤ a → Rf' a = Rf a ∧ I' a = I a) → post (some (.int r)) (n, sh, Rf', I', L')) : Ev (qGG D cA b (qEx b kS vS xb xl xs)) mOffice_fort 1 (0, 0) 0 (lv_args 0 [.ref o, .int p1, .int p2, .int p3]) [] (n, sh, Rf, I, L) post :=
  yo_fort (R := fz1 R I (o + 46) 1 2)  (h.f1 hA) (fun r Rf' I' L' hX e => hp r Rf' I' L' (f1_K hX.2.2.1) (OI.u1 hA h hX) e)
theorem yk_pan {p1 : Int32} {p2 : Int32} {p3 : Int32} (hA : ∀ i, R.2 i = true) (h : OI (qGG D cA b (qEx b kS vS xb xl xs)) R n sh Rf I o) (hp : ∀ (r : Int32) (Rf' : Nat → Nat → Option Nat) (I' : Nat → Nat → Int32) (L' : Nat → Nat → Int64), I' (o + 46) 1 = I (o + 46) 1 → OI (qGG D cA b (qEx b kS vS xb xl xs)) R n sh Rf' I' o → (∀ a, o + 207 ≤ a → Rf' a = Rf a ∧ I' a = I a) → post (some (.int r)) (n, sh, Rf', I', L')) : Ev (qGG D cA b (qEx b kS vS xb xl xs)) mOffice_pan 1 (0, 0) 0 (lv_args 0 [.ref o, .int p1, .int p2, .int p3]) [] (n, sh, Rf, I, L) post :=
  yo_pan (R := fz1 R I (o + 46) 1 2)  (h.f1 hA) (fun r Rf' I' L' hX e => hp r Rf' I' L' (f1_K hX.2.2.1) (OI.u1 hA h hX) e)
theorem yk_town {p1 : Int32} {p2 : Int32} {p3 : Int32} (hA : ∀ i, R.2 i = true) (h : OI (qGG D cA b (qEx b kS vS xb xl xs)) R n sh Rf I o) (hp : ∀ (r : Int32) (Rf' : Nat → Nat → Option Nat) (I' : Nat → Nat → Int32) (L' : Nat → Nat → Int64), I' (o + 46) 1 = I (o + 46) 1 → OI (qGG D cA b (qEx b kS vS xb xl xs)) R n sh Rf' I' o → (∀ a, o + 207 ≤ a → Rf' a = Rf a ∧ I' a = I a) → post (some (.int r)) (n, sh, Rf', I', L')) : Ev (qGG D cA b (qEx b kS vS xb xl xs)) mOffice_town 1 (0, 0) 0 (lv_args 0 [.ref o, .int p1, .int p2, .int p3]) [] (n, sh, Rf, I, L) post :=
  yo_town (R := fz1 R I (o + 46) 1 2)  (h.f1 hA) (fun r Rf' I' L' hX e => hp r Rf' I' L' (f1_K hX.2.2.1) (OI.u1 hA h hX) e)
theorem yk_book {p1 : Int32} {p2 : Int32} {p3 : Int32} (hA : ∀ i, R.2 i = true) (h : OI (qGG D cA b (qEx b kS vS xb xl xs)) R n sh Rf I o) (hp : ∀ (r : Int64) (Rf' : Nat → Nat → Option Nat) (I' : Nat → Nat → Int32) (L' : Nat → Nat → Int64), I' (o + 46) 1 = I (o + 46) 1 → OI (qGG D cA b (qEx b kS vS xb xl xs)) R n sh Rf' I' o → (∀ a, o + 207 ≤ a → Rf' a = Rf a ∧ I' a = I a) → post (some (.long r)) (n, sh, Rf', I', L')) : Ev (qGG D cA b (qEx b kS vS xb xl xs)) mOffice_book 1 (0, 0) 0 (lv_args 0 [.ref o, .int p1, .int p2, .int p3]) [] (n, sh, Rf, I, L) post :=
  yo_book (R := fz1 R I (o + 46) 1 2)  (h.f1 hA) (fun r Rf' I' L' hX e => hp r Rf' I' L' (f1_K hX.2.2.1) (OI.u1 hA h hX) e)
theorem yk_paper {p1 : Int32} {p2 : Int32} (hA : ∀ i, R.2 i = true) (h : OI (qGG D cA b (qEx b kS vS xb xl xs)) R n sh Rf I o) (hp : ∀ (r : Int32) (Rf' : Nat → Nat → Option Nat) (I' : Nat → Nat → Int32) (L' : Nat → Nat → Int64), I' (o + 46) 1 = I (o + 46) 1 → OI (qGG D cA b (qEx b kS vS xb xl xs)) R n sh Rf' I' o → (∀ a, o + 207 ≤ a → Rf' a = Rf a ∧ I' a = I a) → post (some (.int r)) (n, sh, Rf', I', L')) : Ev (qGG D cA b (qEx b kS vS xb xl xs)) mOffice_paper 1 (0, 0) 0 (lv_args 0 [.ref o, .int p1, .int p2]) [] (n, sh, Rf, I, L) post :=
  yo_paper (R := fz1 R I (o + 46) 1 2)  (h.f1 hA) (fun r Rf' I' L' hX e => hp r Rf' I' L' (f1_K hX.2.2.1) (OI.u1 hA h hX) e)
theorem yk_way {p1 : Int32} {p2 : Int32} (hA : ∀ i, R.2 i = true) (h : OI (qGG D cA b (qEx b kS vS xb xl xs)) R n sh Rf I o) (hp : ∀ (r : Int64) (Rf' : Nat → Nat → Option Nat) (I' : Nat → Nat → Int32) (L' : Nat → Nat → Int64), I' (o + 46) 1 = I (o + 46) 1 → OI (qGG D cA b (qEx b kS vS xb xl xs)) R n sh Rf' I' o → (∀ a, o + 207 ≤ a → Rf' a = Rf a ∧ I' a = I a) → post (some (.long r)) (n, sh, Rf', I', L')) : Ev (qGG D cA b (qEx b kS vS xb xl xs)) mOffice_way 5 (0, 0) 0 (lv_args 0 [.ref o, .int p1, .int p2]) [] (n, sh, Rf, I, L) post :=
  yo_way (R := fz1 R I (o + 46) 1 2)  (h.f1 hA) (fun r Rf' I' L' hX e => hp r Rf' I' L' (f1_K hX.2.2.1) (OI.u1 hA h hX) e)
theorem yk_worth {p1 : Int32} (hA : ∀ i, R.2 i = true) (h : OI (qGG D cA b (qEx b kS vS xb xl xs)) R n sh Rf I o) (hp : ∀ (r : Int64) (Rf' : Nat → Nat → Option Nat) (I' : Nat → Nat → Int32) (L' : Nat → Nat → Int64), I' (o + 46) 1 = I (o + 46) 1 → OI (qGG D cA b (qEx b kS vS xb xl xs)) R n sh Rf' I' o → (∀ a, o + 207 ≤ a → Rf' a = Rf a ∧ I' a = I a) → post (some (.long r)) (n, sh, Rf', I', L')) : Ev (qGG D cA b (qEx b kS vS xb xl xs)) mOffice_worth 4 (0, 0) 0 (lv_args 0 [.ref o, .int p1]) [] (n, sh, Rf, I, L) post :=
  yo_worth (R := fz1 R I (o + 46) 1 2)  (h.f1 hA) (fun r Rf' I' L' hX e => hp r Rf' I' L' (f1_K hX.2.2.1) (OI.u1 hA h hX) e)
theorem yk_judge {p1 p2 p3 p4 : Int32} (hA : ∀ i, R.2 i = true) (h : OI (qGG D cA b (qEx b kS vS xb xl xs)) R n sh Rf I o) (hp : ∀ (r : Int32) (Rf' : Nat → Nat → Option Nat) (I' : Nat → Nat → Int32) (L' : Nat → Nat → Int64), I' (o + 46) 1 = I (o + 46) 1 → OI (qGG D cA b (qEx b kS vS xb xl xs)) R n sh Rf' I' o → (∀ a, o + 207 ≤ a → Rf' a = Rf a ∧ I' a = I a) → post (some (.int r)) (n, sh, Rf', I', L')) : Ev (qGG D cA b (qEx b kS vS xb xl xs)) mOffice_judge 7 (0, 0) 0 (lv_args 0 [.ref o, .int p1, .int p2, .int p3, .int p4]) [] (n, sh, Rf, I, L) post :=
  yo_judge (R := fz1 R I (o + 46) 1 2)  (h.f1 hA) (fun r Rf' I' L' hX e => hp r Rf' I' L' (f1_K hX.2.2.1) (OI.u1 hA h hX) e)
theorem yk_about {p1 : Int32} (hA : ∀ i, R.2 i = true) (h : OI (qGG D cA b (qEx b kS vS xb xl xs)) R n sh Rf I o) (hp : ∀ (r : Int32) (Rf' : Nat → Nat → Option Nat) (I' : Nat → Nat → Int32) (L' : Nat → Nat → Int64), I' (o + 46) 1 = I (o + 46) 1 → OI (qGG D cA b (qEx b kS vS xb xl xs)) R n sh Rf' I' o → (∀ a, o + 207 ≤ a → Rf' a = Rf a ∧ I' a = I a) → post (some (.int r)) (n, sh, Rf', I', L')) : Ev (qGG D cA b (qEx b kS vS xb xl xs)) mOffice_about 1 (0, 0) 0 (lv_args 0 [.ref o, .int p1]) [] (n, sh, Rf, I, L) post :=
  yo_about (R := fz1 R I (o + 46) 1 2)  (h.f1 hA) (fun r Rf' I' L' hX e => hp r Rf' I' L' (f1_K hX.2.2.1) (OI.u1 hA h hX) e)
end YW
