/-! The calls that write it. By program (lawr.py). -/
def laF (t b : Int) : Int := if b < 0 ∨ 1000 < b ∨ 100000 < t + b then -1 else t + b
def laT (t b : Int) : Int := if b < 0 ∨ 1000 < b ∨ 100000 < t + b then t else t + b
set_option maxHeartbeats 4000000 in
set_option maxRecDepth 20000 in
theorem yc_Model_later2 {D : va_G} {cA : FieldType → ClassId} {b : Nat} {E : State → Prop} {R : qRg} {o n : Nat} {sh : Nat → qC} {Rf : Nat → Nat → Option Nat} {I0 : Nat → Nat → Int32} {L0 : Nat → Nat → Int64} {post : Option Value → qS → Prop} {p1 : Int32} (hok : q_ok (qGG D cA b E)) (hw : WfModel (qGG D cA b E) n sh Rf o) (ra : RAModel R o) (hz78 : R.2 78 = true) (hZ : Fz R I0 o wModel_later) (hR0 : RI R I0) (hR : RI R I0) (hp : ∀ (r : Int32) (I' : Nat → Nat → Int32) (L' : Nat → Nat → Int64), RI R I' → Fm (fun c => c = o) I0 I' → (r.toInt = laF (I0 o 68).toInt p1.toInt) → ((I' o 68).toInt = laT (I0 o 68).toInt p1.toInt) → post (some (.int r)) (n, sh, Rf, I', L')) : Ev (qGG D cA b E) mModel_later 0 (0, 0) 0 (lv_args 0 [.ref o, .int p1]) [] (n, sh, Rf, I0, L0) post := by
  have hf : Fm (fun c => c = o) I0 I0 := Fm.rf
  have g_1 : (0 : Int) ≤ (I0 o 68).toInt ∧ (I0 o 68).toInt ≤ 100000 := hR.at0 ra 68 (by decide)
  refine sModel_later_0 o n sh Rf I0 L0 post p1 hok hw ?_
  unfold fModel_later_0
  have l_2 : (0 : Int32).toInt = 0 := rfl
  refine ⟨fun c_3 => ?_, fun c_3 => ?_⟩
  · have d_4 := iLt c_3
    have l_5 : (-1 : Int32).toInt = -1 := rfl
    exact (hp _ _ _ hR hf (by unfold laF; split <;> omega) (by unfold laT; split <;> omega))
  · have d_6 := iNlt c_3
    have l_7 : (1000 : Int32).toInt = 1000 := rfl
    refine ⟨fun c_8 => ?_, fun c_8 => ?_⟩
    · have d_9 := iLt c_8
      have l_10 : (-1 : Int32).toInt = -1 := rfl
      exact (hp _ _ _ hR hf (by unfold laF; split <;> omega) (by unfold laT; split <;> omega))
    · have d_11 := iNlt c_8
      have g_12 : (0 : Int) ≤ (I0 o 68).toInt ∧ (I0 o 68).toInt ≤ 100000 := hR.at0 ra 68 (by decide)
      have a_13 : ((I0 o 68) + p1).toInt = (I0 o 68).toInt + p1.toInt := tAdd (by omega) (by omega)
      have l_14 : (100000 : Int32).toInt = 100000 := rfl
      refine ⟨fun c_15 => ?_, fun c_15 => ?_⟩
      · have d_16 := iLe c_15
        have g_17 : (0 : Int) ≤ (I0 o 68).toInt ∧ (I0 o 68).toInt ≤ 100000 := hR.at0 ra 68 (by decide)
        have a_18 : ((I0 o 68) + p1).toInt = (I0 o 68).toInt + p1.toInt := tAdd (by omega) (by omega)
        refine fun I_19 e_20 => ?_
        have hR_21 : RI R I_19 := hR.up0 (k := 68) ra (by decide) (Or.inr hz78) e_20 (show (0 : Int) ≤ ((I0 o 68) + p1).toInt by omega) (show ((I0 o 68) + p1).toInt ≤ (100000 : Int) by omega)
        have hf_22 : Fm (fun c => c = o) I0 I_19 := hf.set (by first | rfl | omega | (dsimp only; omega)) e_20
        have t_23 : (I_19 o 68).toInt = ((I0 o 68) + p1).toInt := by rw [← e_20, q_u_at]
        have g_24 : (0 : Int) ≤ (I_19 o 68).toInt ∧ (I_19 o 68).toInt ≤ 100000 := hR_21.at0 ra 68 (by decide)
        exact (hp _ _ _ hR_21 hf_22 (by unfold laF; split <;> omega) (by unfold laT; split <;> omega))
      · have d_25 := iNle c_15
        have l_26 : (-1 : Int32).toInt = -1 := rfl
        exact (hp _ _ _ hR hf (by unfold laF; split <;> omega) (by unfold laT; split <;> omega))
theorem y_Model_later2 {D : va_G} {cA : FieldType → ClassId} {b : Nat} {E : State → Prop} {R : qRg} {o n : Nat} {sh : Nat → qC} {Rf : Nat → Nat → Option Nat} {I0 : Nat → Nat → Int32} {L0 : Nat → Nat → Int64} {post : Option Value → qS → Prop} {p1 : Int32} (hok : q_ok (qGG D cA b E)) (hw : WfModel (qGG D cA b E) n sh Rf o) (ra : RAModel R o) (hz78 : R.2 78 = true) (hR : RI R I0) (hp : ∀ (r : Int32) (I' : Nat → Nat → Int32) (L' : Nat → Nat → Int64), RI R I' → Fm (fun c => c = o) I0 I' → Kp wModel_later I0 I' o → (r.toInt = laF (I0 o 68).toInt p1.toInt) → ((I' o 68).toInt = laT (I0 o 68).toInt p1.toInt) → post (some (.int r)) (n, sh, Rf, I', L')) : Ev (qGG D cA b E) mModel_later 0 (0, 0) 0 (lv_args 0 [.ref o, .int p1]) [] (n, sh, Rf, I0, L0) post :=
  yc_Model_later2 (R := fzR R I0 o wModel_later) hok hw (fzA ra hR _) (fzT hz78 rfl) fzZ (fzI hR) (fzI hR) (fun r I' L' h1 h2 u0 u1 => hp r I' L' (fzB hR h1) h2 (fzP h1) u0 u1)
set_option maxHeartbeats 4000000 in
set_option maxRecDepth 20000 in
theorem y_Office_later2 {D : va_G} {cA : FieldType → ClassId} {b : Nat} {E : State → Prop} {R : qRg} {o n : Nat} {sh : Nat → qC} {Rf : Nat → Nat → Option Nat} {I0 : Nat → Nat → Int32} {L0 : Nat → Nat → Int64} {post : Option Value → qS → Prop} {p1 : Int32} (hok : q_ok (qGG D cA b E)) (hw : WfOffice (qGG D cA b E) n sh Rf o) (ra : RAOffice R o) (hz1 : R.2 1 = true) (hR : RI R I0) (hp : ∀ (r : Int32) (I' : Nat → Nat → Int32) (L' : Nat → Nat → Int64), RI R I' → Fm (fun c => c = o) I0 I' → (r.toInt = laF (I0 o 7).toInt p1.toInt) → ((I' o 7).toInt = laT (I0 o 7).toInt p1.toInt) → post (some (.int r)) (n, sh, Rf, I', L')) : Ev (qGG D cA b E) mOffice_later 0 (0, 0) 0 (lv_args 0 [.ref o, .int p1]) [] (n, sh, Rf, I0, L0) post := by
  have hf : Fm (fun c => c = o) I0 I0 := Fm.rf
  have g_1 : (0 : Int) ≤ (I0 o 7).toInt ∧ (I0 o 7).toInt ≤ 100000 := hR.at0 ra 7 (by decide)
  refine sOffice_later_0 o n sh Rf I0 L0 post p1 hok hw ?_
  unfold fOffice_later_0
  have l_2 : (0 : Int32).toInt = 0 := rfl
  refine ⟨fun c_3 => ?_, fun c_3 => ?_⟩
  · have d_4 := iLt c_3
    have l_5 : (-1 : Int32).toInt = -1 := rfl
    exact (hp _ _ _ hR hf (by unfold laF; split <;> omega) (by unfold laT; split <;> omega))
  · have d_6 := iNlt c_3
    have l_7 : (1000 : Int32).toInt = 1000 := rfl
    refine ⟨fun c_8 => ?_, fun c_8 => ?_⟩
    · have d_9 := iLt c_8
      have l_10 : (-1 : Int32).toInt = -1 := rfl
      exact (hp _ _ _ hR hf (by unfold laF; split <;> omega) (by unfold laT; split <;> omega))
    · have d_11 := iNlt c_8
      have g_12 : (0 : Int) ≤ (I0 o 7).toInt ∧ (I0 o 7).toInt ≤ 100000 := hR.at0 ra 7 (by decide)
      have a_13 : ((I0 o 7) + p1).toInt = (I0 o 7).toInt + p1.toInt := tAdd (by omega) (by omega)
      have l_14 : (100000 : Int32).toInt = 100000 := rfl
      refine ⟨fun c_15 => ?_, fun c_15 => ?_⟩
      · have d_16 := iLe c_15
        have g_17 : (0 : Int) ≤ (I0 o 7).toInt ∧ (I0 o 7).toInt ≤ 100000 := hR.at0 ra 7 (by decide)
        have a_18 : ((I0 o 7) + p1).toInt = (I0 o 7).toInt + p1.toInt := tAdd (by omega) (by omega)
        refine fun I_19 e_20 => ?_
        have hR_21 : RI R I_19 := hR.up0 (k := 7) ra (by decide) (Or.inr hz1) e_20 (show (0 : Int) ≤ ((I0 o 7) + p1).toInt by omega) (show ((I0 o 7) + p1).toInt ≤ (100000 : Int) by omega)
        have hf_22 : Fm (fun c => c = o) I0 I_19 := hf.set (by first | rfl | omega | (dsimp only; omega)) e_20
        have t_23 : (I_19 o 7).toInt = ((I0 o 7) + p1).toInt := by rw [← e_20, q_u_at]
        have g_24 : (0 : Int) ≤ (I_19 o 7).toInt ∧ (I_19 o 7).toInt ≤ 100000 := hR_21.at0 ra 7 (by decide)
        exact (hp _ _ _ hR_21 hf_22 (by unfold laF; split <;> omega) (by unfold laT; split <;> omega))
      · have d_25 := iNle c_15
        have l_26 : (-1 : Int32).toInt = -1 := rfl
        exact (hp _ _ _ hR hf (by unfold laF; split <;> omega) (by unfold laT; split <;> omega))
section YW
variable {D : va_G} {cA : FieldType → ClassId} {b : Nat} {kS vS : Nat → Nat} {xb xl : Nat} {xs : Nat → Int32} {R : qRg} {o n : Nat} {sh : Nat → qC} {Rf Rf' : Nat → Nat → Option Nat} {I I' : Nat → Nat → Int32} {L : Nat → Nat → Int64} {post : Option Value → qS → Prop}
theorem yw_later {p1 : Int32} (hA : ∀ i, R.2 i = true) (h : OI (qGG D cA b (qEx b kS vS xb xl xs)) R n sh Rf I o) (hp : ∀ (r : Int32) (Rf' : Nat → Nat → Option Nat) (I' : Nat → Nat → Int32) (L' : Nat → Nat → Int64), r.toInt = laF (I o 7).toInt p1.toInt → (I' o 7).toInt = laT (I o 7).toInt p1.toInt → OI (qGG D cA b (qEx b kS vS xb xl xs)) R n sh Rf' I' o → (∀ a, o + 207 ≤ a → Rf' a = Rf a ∧ I' a = I a) → post (some (.int r)) (n, sh, Rf', I', L')) : Ev (qGG D cA b (qEx b kS vS xb xl xs)) mOffice_later 0 (0, 0) 0 (lv_args 0 [.ref o, .int p1]) [] (n, sh, Rf, I, L) post :=
  y_Office_later2 qEx_ok h.1 h.2.1 (hA 1) h.2.2.1 (fun r I' L' hR hf u0 u1 => hp r Rf I' L' u0 u1 (h.fm hR hf (fun c hc => by first | (dsimp only; omega) | omega) (h.tok hf (fun c hc => by first | (dsimp only; omega) | omega)) (h.fac hf (fun c hc => by first | (dsimp only; omega) | omega))) (fun a ha => ⟨rfl, hf a (by first | omega | (dsimp only; omega))⟩))
theorem ymw_later {p1 : Int32} (hok : q_ok (qGG D cA b (qEx b kS vS xb xl xs))) (hA : ∀ j, R.2 j = true) (h : MI (qGG D cA b (qEx b kS vS xb xl xs)) R n sh Rf I o) (hp : ∀ (r : Int32) (I' : Nat → Nat → Int32) (L' : Nat → Nat → Int64), MI (qGG D cA b (qEx b kS vS xb xl xs)) R n sh Rf I' o → (∀ a, a < o → I' a = I a) → (r.toInt = laF (I o 68).toInt p1.toInt) → ((I' o 68).toInt = laT (I o 68).toInt p1.toInt) → post (some (.int r)) (n, sh, Rf, I', L')) : Ev (qGG D cA b (qEx b kS vS xb xl xs)) mModel_later 0 (0, 0) 0 (lv_args 0 [.ref o, .int p1]) [] (n, sh, Rf, I, L) post :=
  y_Model_later2 hok h.1 h.2.1 (hA 78) h.2.2.1 (fun r I' L' hR fr kp u0 u1 => hp r I' L' ⟨h.1, h.2.1, hR, (h.2.2.2.1.fr (fr _ (by first | omega | (dsimp only; omega))) (fr _ (by first | omega | (dsimp only; omega))) (fr _ (by first | omega | (dsimp only; omega)))), (h.2.2.2.2.fr (fr _ (by first | omega | (dsimp only; omega))) (fr _ (by first | omega | (dsimp only; omega))) (kp 67 rfl))⟩ (fun a ha => fr a (by first | omega | (dsimp only; omega))) u0 u1)
theorem yk_feed {p1 : Int32} {p2 : Int32} {p3 : Int32} {p4 : Int32} {p5 : Int32} (hA : ∀ i, R.2 i = true) (h : OI (qGG D cA b (qEx b kS vS xb xl xs)) R n sh Rf I o) (hp : ∀ (r : Int32) (Rf' : Nat → Nat → Option Nat) (I' : Nat → Nat → Int32) (L' : Nat → Nat → Int64), I' o 7 = I o 7 → OI (qGG D cA b (qEx b kS vS xb xl xs)) R n sh Rf' I' o → (∀ a, o + 207 ≤ a → Rf' a = Rf a ∧ I' a = I a) → post (some (.int r)) (n, sh, Rf', I', L')) : Ev (qGG D cA b (qEx b kS vS xb xl xs)) mOffice_feed 1 (0, 0) 0 (lv_args 0 [.ref o, .int p1, .int p2, .int p3, .int p4, .int p5]) [] (n, sh, Rf, I, L) post :=
  yo_feed (R := fz1 R I o 7 1) (f1_t hA rfl) (h.f1 hA) (fun r Rf' I' L' hX e => hp r Rf' I' L' (f1_K hX.2.2.1) (OI.u1 hA h hX) e)
theorem yk_end {p1 : Int32} (hA : ∀ i, R.2 i = true) (h : OI (qGG D cA b (qEx b kS vS xb xl xs)) R n sh Rf I o) (hp : ∀ (r : Int32) (Rf' : Nat → Nat → Option Nat) (I' : Nat → Nat → Int32) (L' : Nat → Nat → Int64), I' o 7 = I o 7 → OI (qGG D cA b (qEx b kS vS xb xl xs)) R n sh Rf' I' o → (∀ a, o + 207 ≤ a → Rf' a = Rf a ∧ I' a = I a) → post (some (.int r)) (n, sh, Rf', I', L')) : Ev (qGG D cA b (qEx b kS vS xb xl xs)) mOffice_end 0 (0, 0) 0 (lv_args 0 [.ref o, .int p1]) [] (n, sh, Rf, I, L) post :=
  yo_end (R := fz1 R I o 7 1) (f1_t hA rfl) (h.f1 hA) (fun r Rf' I' L' hX e => hp r Rf' I' L' (f1_K hX.2.2.1) (OI.u1 hA h hX) e)
theorem yk_land (hA : ∀ i, R.2 i = true) (h : OI (qGG D cA b (qEx b kS vS xb xl xs)) R n sh Rf I o) (hp : ∀ (r : Int32) (Rf' : Nat → Nat → Option Nat) (I' : Nat → Nat → Int32) (L' : Nat → Nat → Int64), I' o 7 = I o 7 → OI (qGG D cA b (qEx b kS vS xb xl xs)) R n sh Rf' I' o → (∀ a, o + 207 ≤ a → Rf' a = Rf a ∧ I' a = I a) → post (some (.int r)) (n, sh, Rf', I', L')) : Ev (qGG D cA b (qEx b kS vS xb xl xs)) mOffice_land 11 (0, 0) 0 (lv_args 0 [.ref o]) [] (n, sh, Rf, I, L) post :=
  yo_land (R := fz1 R I o 7 1) (f1_t hA rfl) (h.f1 hA) (fun r Rf' I' L' hX e => hp r Rf' I' L' (f1_K hX.2.2.1) (OI.u1 hA h hX) e)
theorem yk_reform {p1 : Int32} (hA : ∀ i, R.2 i = true) (h : OI (qGG D cA b (qEx b kS vS xb xl xs)) R n sh Rf I o) (hp : ∀ (r : Int32) (Rf' : Nat → Nat → Option Nat) (I' : Nat → Nat → Int32) (L' : Nat → Nat → Int64), I' o 7 = I o 7 → OI (qGG D cA b (qEx b kS vS xb xl xs)) R n sh Rf' I' o → (∀ a, o + 207 ≤ a → Rf' a = Rf a ∧ I' a = I a) → post (some (.int r)) (n, sh, Rf', I', L')) : Ev (qGG D cA b (qEx b kS vS xb xl xs)) mOffice_reform 103 (0, 0) 0 (lv_args 0 [.ref o, .int p1]) [] (n, sh, Rf, I, L) post :=
  yo_reform (R := fz1 R I o 7 1) (f1_t hA rfl) (h.f1 hA) (fun r Rf' I' L' hX e => hp r Rf' I' L' (f1_K hX.2.2.1) (OI.u1 hA h hX) e)
theorem yk_fault {p1 : Int32} (hA : ∀ i, R.2 i = true) (h : OI (qGG D cA b (qEx b kS vS xb xl xs)) R n sh Rf I o) (hp : ∀ (r : Int32) (Rf' : Nat → Nat → Option Nat) (I' : Nat → Nat → Int32) (L' : Nat → Nat → Int64), I' o 7 = I o 7 → OI (qGG D cA b (qEx b kS vS xb xl xs)) R n sh Rf' I' o → (∀ a, o + 207 ≤ a → Rf' a = Rf a ∧ I' a = I a) → post (some (.int r)) (n, sh, Rf', I', L')) : Ev (qGG D cA b (qEx b kS vS xb xl xs)) mOffice_fault 0 (0, 0) 0 (lv_args 0 [.ref o, .int p1]) [] (n, sh, Rf, I, L) post :=
  yo_fault (R := fz1 R I o 7 1)  (h.f1 hA) (fun r Rf' I' L' hX e => hp r Rf' I' L' (f1_K hX.2.2.1) (OI.u1 hA h hX) e)
theorem yk_days {p1 : Int32} {p2 : Int32} (hA : ∀ i, R.2 i = true) (h : OI (qGG D cA b (qEx b kS vS xb xl xs)) R n sh Rf I o) (hp : ∀ (r : Int32) (Rf' : Nat → Nat → Option Nat) (I' : Nat → Nat → Int32) (L' : Nat → Nat → Int64), I' o 7 = I o 7 → OI (qGG D cA b (qEx b kS vS xb xl xs)) R n sh Rf' I' o → (∀ a, o + 207 ≤ a → Rf' a = Rf a ∧ I' a = I a) → post (some (.int r)) (n, sh, Rf', I', L')) : Ev (qGG D cA b (qEx b kS vS xb xl xs)) mOffice_days 1 (0, 0) 0 (lv_args 0 [.ref o, .int p1, .int p2]) [] (n, sh, Rf, I, L) post :=
  yo_days (R := fz1 R I o 7 1)  (h.f1 hA) (fun r Rf' I' L' hX e => hp r Rf' I' L' (f1_K hX.2.2.1) (OI.u1 hA h hX) e)
theorem yk_merchant {p1 : Int32} (hA : ∀ i, R.2 i = true) (h : OI (qGG D cA b (qEx b kS vS xb xl xs)) R n sh Rf I o) (hp : ∀ (r : Int32) (Rf' : Nat → Nat → Option Nat) (I' : Nat → Nat → Int32) (L' : Nat → Nat → Int64), I' o 7 = I o 7 → OI (qGG D cA b (qEx b kS vS xb xl xs)) R n sh Rf' I' o → (∀ a, o + 207 ≤ a → Rf' a = Rf a ∧ I' a = I a) → post (some (.int r)) (n, sh, Rf', I', L')) : Ev (qGG D cA b (qEx b kS vS xb xl xs)) mOffice_merchant 0 (0, 0) 0 (lv_args 0 [.ref o, .int p1]) [] (n, sh, Rf, I, L) post :=
  yo_merchant (R := fz1 R I o 7 1) (f1_t hA rfl) (h.f1 hA) (fun r Rf' I' L' hX e => hp r Rf' I' L' (f1_K hX.2.2.1) (OI.u1 hA h hX) e)
theorem yk_costs {p1 : Int32} {p2 : Int32} {p3 : Int32} {p4 : Int32} {p5 : Int32} (hA : ∀ i, R.2 i = true) (h : OI (qGG D cA b (qEx b kS vS xb xl xs)) R n sh Rf I o) (hp : ∀ (r : Int32) (Rf' : Nat → Nat → Option Nat) (I' : Nat → Nat → Int32) (L' : Nat → Nat → Int64), r = aCosts p1 p2 p3 p4 p5 → I' o 7 = I o 7 → OI (qGG D cA b (qEx b kS vS xb xl xs)) R n sh Rf' I' o → (∀ a, o + 207 ≤ a → Rf' a = Rf a ∧ I' a = I a) → post (some (.int r)) (n, sh, Rf', I', L')) : Ev (qGG D cA b (qEx b kS vS xb xl xs)) mOffice_costs 1 (0, 0) 0 (lv_args 0 [.ref o, .int p1, .int p2, .int p3, .int p4, .int p5]) [] (n, sh, Rf, I, L) post :=
  yo_costs (R := fz1 R I o 7 1)  (h.f1 hA) (fun r Rf' I' L' fe hX e => hp r Rf' I' L' fe (f1_K hX.2.2.1) (OI.u1 hA h hX) e)
theorem yk_weather {p1 : Int32} {p2 : Int32} {p3 : Int32} (hA : ∀ i, R.2 i = true) (h : OI (qGG D cA b (qEx b kS vS xb xl xs)) R n sh Rf I o) (hp : ∀ (r : Int32) (Rf' : Nat → Nat → Option Nat) (I' : Nat → Nat → Int32) (L' : Nat → Nat → Int64), I' o 7 = I o 7 → OI (qGG D cA b (qEx b kS vS xb xl xs)) R n sh Rf' I' o → (∀ a, o + 207 ≤ a → Rf' a = Rf a ∧ I' a = I a) → post (some (.int r)) (n, sh, Rf', I', L')) : Ev (qGG D cA b (qEx b kS vS xb xl xs)) mOffice_weather 2 (0, 0) 0 (lv_args 0 [.ref o, .int p1, .int p2, .int p3]) [] (n, sh, Rf, I, L) post :=
  yo_weather (R := fz1 R I o 7 1)  (h.f1 hA) (fun r Rf' I' L' hX e => hp r Rf' I' L' (f1_K hX.2.2.1) (OI.u1 hA h hX) e)
theorem yk_forged {p1 : Int32} {p2 : Int32} (hA : ∀ i, R.2 i = true) (h : OI (qGG D cA b (qEx b kS vS xb xl xs)) R n sh Rf I o) (hp : ∀ (r : Int32) (Rf' : Nat → Nat → Option Nat) (I' : Nat → Nat → Int32) (L' : Nat → Nat → Int64), I' o 7 = I o 7 → OI (qGG D cA b (qEx b kS vS xb xl xs)) R n sh Rf' I' o → (∀ a, o + 207 ≤ a → Rf' a = Rf a ∧ I' a = I a) → post (some (.int r)) (n, sh, Rf', I', L')) : Ev (qGG D cA b (qEx b kS vS xb xl xs)) mOffice_forged 2 (0, 0) 0 (lv_args 0 [.ref o, .int p1, .int p2]) [] (n, sh, Rf, I, L) post :=
  yo_forged (R := fz1 R I o 7 1)  (h.f1 hA) (fun r Rf' I' L' hX e => hp r Rf' I' L' (f1_K hX.2.2.1) (OI.u1 hA h hX) e)
theorem yk_dead {p1 : Int32} {p2 : Int32} {p3 : Int32} (hA : ∀ i, R.2 i = true) (h : OI (qGG D cA b (qEx b kS vS xb xl xs)) R n sh Rf I o) (hp : ∀ (r : Int32) (Rf' : Nat → Nat → Option Nat) (I' : Nat → Nat → Int32) (L' : Nat → Nat → Int64), I' o 7 = I o 7 → OI (qGG D cA b (qEx b kS vS xb xl xs)) R n sh Rf' I' o → (∀ a, o + 207 ≤ a → Rf' a = Rf a ∧ I' a = I a) → post (some (.int r)) (n, sh, Rf', I', L')) : Ev (qGG D cA b (qEx b kS vS xb xl xs)) mOffice_dead 2 (0, 0) 0 (lv_args 0 [.ref o, .int p1, .int p2, .int p3]) [] (n, sh, Rf, I, L) post :=
  yo_dead (R := fz1 R I o 7 1)  (h.f1 hA) (fun r Rf' I' L' hX e => hp r Rf' I' L' (f1_K hX.2.2.1) (OI.u1 hA h hX) e)
theorem yk_untell {p1 : Int32} (hA : ∀ i, R.2 i = true) (h : OI (qGG D cA b (qEx b kS vS xb xl xs)) R n sh Rf I o) (hp : ∀ (r : Int32) (Rf' : Nat → Nat → Option Nat) (I' : Nat → Nat → Int32) (L' : Nat → Nat → Int64), I' o 7 = I o 7 → OI (qGG D cA b (qEx b kS vS xb xl xs)) R n sh Rf' I' o → (∀ a, o + 207 ≤ a → Rf' a = Rf a ∧ I' a = I a) → post (some (.int r)) (n, sh, Rf', I', L')) : Ev (qGG D cA b (qEx b kS vS xb xl xs)) mOffice_untell 0 (0, 0) 0 (lv_args 0 [.ref o, .int p1]) [] (n, sh, Rf, I, L) post :=
  yo_untell (R := fz1 R I o 7 1)  (h.f1 hA) (fun r Rf' I' L' hX e => hp r Rf' I' L' (f1_K hX.2.2.1) (OI.u1 hA h hX) e)
theorem yk_run {p1 p2 p3 : Int32} (hA : ∀ i, R.2 i = true) (h : OI (qGG D cA b (qEx b kS vS xb xl xs)) R n sh Rf I o) (hp : ∀ (r : Int32) (Rf' : Nat → Nat → Option Nat) (I' : Nat → Nat → Int32) (L' : Nat → Nat → Int64), I' o 7 = I o 7 → OI (qGG D cA b (qEx b kS vS xb xl xs)) R n sh Rf' I' o → (∀ a, o + 207 ≤ a → Rf' a = Rf a ∧ I' a = I a) → post (some (.int r)) (n, sh, Rf', I', L')) : Ev (qGG D cA b (qEx b kS vS xb xl xs)) mOffice_run 7 (0, 0) 0 (lv_args 0 [.ref o, .int p1, .int p2, .int p3]) [] (n, sh, Rf, I, L) post :=
  yo_run (R := fz1 R I o 7 1)  (h.f1 hA) (fun r Rf' I' L' hX e => hp r Rf' I' L' (f1_K hX.2.2.1) (OI.u1 hA h hX) e)
theorem yk_ran {p1 : Int32} (hA : ∀ i, R.2 i = true) (h : OI (qGG D cA b (qEx b kS vS xb xl xs)) R n sh Rf I o) (hp : ∀ (r : Int64) (Rf' : Nat → Nat → Option Nat) (I' : Nat → Nat → Int32) (L' : Nat → Nat → Int64), I' o 7 = I o 7 → OI (qGG D cA b (qEx b kS vS xb xl xs)) R n sh Rf' I' o → (∀ a, o + 207 ≤ a → Rf' a = Rf a ∧ I' a = I a) → post (some (.long r)) (n, sh, Rf', I', L')) : Ev (qGG D cA b (qEx b kS vS xb xl xs)) mOffice_ran 0 (0, 0) 0 (lv_args 0 [.ref o, .int p1]) [] (n, sh, Rf, I, L) post :=
  yo_ran (R := fz1 R I o 7 1)  (h.f1 hA) (fun r Rf' I' L' hX e => hp r Rf' I' L' (f1_K hX.2.2.1) (OI.u1 hA h hX) e)
theorem yk_fort {p1 : Int32} {p2 : Int32} {p3 : Int32} (hA : ∀ i, R.2 i = true) (h : OI (qGG D cA b (qEx b kS vS xb xl xs)) R n sh Rf I o) (hp : ∀ (r : Int32) (Rf' : Nat → Nat → Option Nat) (I' : Nat → Nat → Int32) (L' : Nat → Nat → Int64), I' o 7 = I o 7 → OI (qGG D cA b (qEx b kS vS xb xl xs)) R n sh Rf' I' o → (∀ a, o + 207 ≤ a → Rf' a = Rf a ∧ I' a = I a) → post (some (.int r)) (n, sh, Rf', I', L')) : Ev (qGG D cA b (qEx b kS vS xb xl xs)) mOffice_fort 1 (0, 0) 0 (lv_args 0 [.ref o, .int p1, .int p2, .int p3]) [] (n, sh, Rf, I, L) post :=
  yo_fort (R := fz1 R I o 7 1)  (h.f1 hA) (fun r Rf' I' L' hX e => hp r Rf' I' L' (f1_K hX.2.2.1) (OI.u1 hA h hX) e)
theorem yk_pan {p1 : Int32} {p2 : Int32} {p3 : Int32} (hA : ∀ i, R.2 i = true) (h : OI (qGG D cA b (qEx b kS vS xb xl xs)) R n sh Rf I o) (hp : ∀ (r : Int32) (Rf' : Nat → Nat → Option Nat) (I' : Nat → Nat → Int32) (L' : Nat → Nat → Int64), I' o 7 = I o 7 → OI (qGG D cA b (qEx b kS vS xb xl xs)) R n sh Rf' I' o → (∀ a, o + 207 ≤ a → Rf' a = Rf a ∧ I' a = I a) → post (some (.int r)) (n, sh, Rf', I', L')) : Ev (qGG D cA b (qEx b kS vS xb xl xs)) mOffice_pan 1 (0, 0) 0 (lv_args 0 [.ref o, .int p1, .int p2, .int p3]) [] (n, sh, Rf, I, L) post :=
  yo_pan (R := fz1 R I o 7 1)  (h.f1 hA) (fun r Rf' I' L' hX e => hp r Rf' I' L' (f1_K hX.2.2.1) (OI.u1 hA h hX) e)
theorem yk_town {p1 : Int32} {p2 : Int32} {p3 : Int32} (hA : ∀ i, R.2 i = true) (h : OI (qGG D cA b (qEx b kS vS xb xl xs)) R n sh Rf I o) (hp : ∀ (r : Int32) (Rf' : Nat → Nat → Option Nat) (I' : Nat → Nat → Int32) (L' : Nat → Nat → Int64), I' o 7 = I o 7 → OI (qGG D cA b (qEx b kS vS xb xl xs)) R n sh Rf' I' o → (∀ a, o + 207 ≤ a → Rf' a = Rf a ∧ I' a = I a) → post (some (.int r)) (n, sh, Rf', I', L')) : Ev (qGG D cA b (qEx b kS vS xb xl xs)) mOffice_town 1 (0, 0) 0 (lv_args 0 [.ref o, .int p1, .int p2, .int p3]) [] (n, sh, Rf, I, L) post :=
  yo_town (R := fz1 R I o 7 1)  (h.f1 hA) (fun r Rf' I' L' hX e => hp r Rf' I' L' (f1_K hX.2.2.1) (OI.u1 hA h hX) e)
theorem yk_book {p1 : Int32} {p2 : Int32} {p3 : Int32} (hA : ∀ i, R.2 i = true) (h : OI (qGG D cA b (qEx b kS vS xb xl xs)) R n sh Rf I o) (hp : ∀ (r : Int64) (Rf' : Nat → Nat → Option Nat) (I' : Nat → Nat → Int32) (L' : Nat → Nat → Int64), I' o 7 = I o 7 → OI (qGG D cA b (qEx b kS vS xb xl xs)) R n sh Rf' I' o → (∀ a, o + 207 ≤ a → Rf' a = Rf a ∧ I' a = I a) → post (some (.long r)) (n, sh, Rf', I', L')) : Ev (qGG D cA b (qEx b kS vS xb xl xs)) mOffice_book 1 (0, 0) 0 (lv_args 0 [.ref o, .int p1, .int p2, .int p3]) [] (n, sh, Rf, I, L) post :=
  yo_book (R := fz1 R I o 7 1)  (h.f1 hA) (fun r Rf' I' L' hX e => hp r Rf' I' L' (f1_K hX.2.2.1) (OI.u1 hA h hX) e)
theorem yk_paper {p1 : Int32} {p2 : Int32} (hA : ∀ i, R.2 i = true) (h : OI (qGG D cA b (qEx b kS vS xb xl xs)) R n sh Rf I o) (hp : ∀ (r : Int32) (Rf' : Nat → Nat → Option Nat) (I' : Nat → Nat → Int32) (L' : Nat → Nat → Int64), I' o 7 = I o 7 → OI (qGG D cA b (qEx b kS vS xb xl xs)) R n sh Rf' I' o → (∀ a, o + 207 ≤ a → Rf' a = Rf a ∧ I' a = I a) → post (some (.int r)) (n, sh, Rf', I', L')) : Ev (qGG D cA b (qEx b kS vS xb xl xs)) mOffice_paper 1 (0, 0) 0 (lv_args 0 [.ref o, .int p1, .int p2]) [] (n, sh, Rf, I, L) post :=
  yo_paper (R := fz1 R I o 7 1)  (h.f1 hA) (fun r Rf' I' L' hX e => hp r Rf' I' L' (f1_K hX.2.2.1) (OI.u1 hA h hX) e)
theorem yk_way {p1 : Int32} {p2 : Int32} (hA : ∀ i, R.2 i = true) (h : OI (qGG D cA b (qEx b kS vS xb xl xs)) R n sh Rf I o) (hp : ∀ (r : Int64) (Rf' : Nat → Nat → Option Nat) (I' : Nat → Nat → Int32) (L' : Nat → Nat → Int64), I' o 7 = I o 7 → OI (qGG D cA b (qEx b kS vS xb xl xs)) R n sh Rf' I' o → (∀ a, o + 207 ≤ a → Rf' a = Rf a ∧ I' a = I a) → post (some (.long r)) (n, sh, Rf', I', L')) : Ev (qGG D cA b (qEx b kS vS xb xl xs)) mOffice_way 5 (0, 0) 0 (lv_args 0 [.ref o, .int p1, .int p2]) [] (n, sh, Rf, I, L) post :=
  yo_way (R := fz1 R I o 7 1)  (h.f1 hA) (fun r Rf' I' L' hX e => hp r Rf' I' L' (f1_K hX.2.2.1) (OI.u1 hA h hX) e)
theorem yk_worth {p1 : Int32} (hA : ∀ i, R.2 i = true) (h : OI (qGG D cA b (qEx b kS vS xb xl xs)) R n sh Rf I o) (hp : ∀ (r : Int64) (Rf' : Nat → Nat → Option Nat) (I' : Nat → Nat → Int32) (L' : Nat → Nat → Int64), I' o 7 = I o 7 → OI (qGG D cA b (qEx b kS vS xb xl xs)) R n sh Rf' I' o → (∀ a, o + 207 ≤ a → Rf' a = Rf a ∧ I' a = I a) → post (some (.long r)) (n, sh, Rf', I', L')) : Ev (qGG D cA b (qEx b kS vS xb xl xs)) mOffice_worth 4 (0, 0) 0 (lv_args 0 [.ref o, .int p1]) [] (n, sh, Rf, I, L) post :=
  yo_worth (R := fz1 R I o 7 1)  (h.f1 hA) (fun r Rf' I' L' hX e => hp r Rf' I' L' (f1_K hX.2.2.1) (OI.u1 hA h hX) e)
theorem yk_judge {p1 p2 p3 p4 : Int32} (hA : ∀ i, R.2 i = true) (h : OI (qGG D cA b (qEx b kS vS xb xl xs)) R n sh Rf I o) (hp : ∀ (r : Int32) (Rf' : Nat → Nat → Option Nat) (I' : Nat → Nat → Int32) (L' : Nat → Nat → Int64), I' o 7 = I o 7 → OI (qGG D cA b (qEx b kS vS xb xl xs)) R n sh Rf' I' o → (∀ a, o + 207 ≤ a → Rf' a = Rf a ∧ I' a = I a) → post (some (.int r)) (n, sh, Rf', I', L')) : Ev (qGG D cA b (qEx b kS vS xb xl xs)) mOffice_judge 7 (0, 0) 0 (lv_args 0 [.ref o, .int p1, .int p2, .int p3, .int p4]) [] (n, sh, Rf, I, L) post :=
  yo_judge (R := fz1 R I o 7 1)  (h.f1 hA) (fun r Rf' I' L' hX e => hp r Rf' I' L' (f1_K hX.2.2.1) (OI.u1 hA h hX) e)
theorem yk_about {p1 : Int32} (hA : ∀ i, R.2 i = true) (h : OI (qGG D cA b (qEx b kS vS xb xl xs)) R n sh Rf I o) (hp : ∀ (r : Int32) (Rf' : Nat → Nat → Option Nat) (I' : Nat → Nat → Int32) (L' : Nat → Nat → Int64), I' o 7 = I o 7 → OI (qGG D cA b (qEx b kS vS xb xl xs)) R n sh Rf' I' o → (∀ a, o + 207 ≤ a → Rf' a = Rf a ∧ I' a = I a) → post (some (.int r)) (n, sh, Rf', I', L')) : Ev (qGG D cA b (qEx b kS vS xb xl xs)) mOffice_about 1 (0, 0) 0 (lv_args 0 [.ref o, .int p1]) [] (n, sh, Rf, I, L) post :=
  yo_about (R := fz1 R I o 7 1)  (h.f1 hA) (fun r Rf' I' L' hX e => hp r Rf' I' L' (f1_K hX.2.2.1) (OI.u1 hA h hX) e)
end YW
