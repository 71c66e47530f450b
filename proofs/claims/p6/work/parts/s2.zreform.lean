/-! reform of a Model that is between calls, with the mirror. By program (xref.py). -/
noncomputable def gModel_fault_0 (o : Nat) (J : gJ) (L : gL) (x1 : Int) : Int := (if x1 = 0 then gLet (J o 4) (fun (v_2 : Int) => v_2) else (if x1 = 1 then gLet (J o 5) (fun (v_1 : Int) => v_1) else (-1)))
theorem eModel_fault_0 {o : Nat} {J : gJ} {L : gL} {x1 : Int} : gModel_fault_0 o J L x1 = (if x1 = 0 then gLet (J o 4) (fun (v_2 : Int) => v_2) else (if x1 = 1 then gLet (J o 5) (fun (v_1 : Int) => v_1) else (-1))) := rfl
set_option maxHeartbeats 4000000 in
set_option maxRecDepth 20000 in
theorem y_Model_faultg {D : va_G} {cA : FieldType → ClassId} {b : Nat} {E : State → Prop} {R : qRg} {o n : Nat} {sh : Nat → qC} {Rf : Nat → Nat → Option Nat} {I0 : Nat → Nat → Int32} {L0 : Nat → Nat → Int64} {post : Option Value → qS → Prop} {p1 : Int32} (hok : q_ok (qGG D cA b E)) (hw : WfModel (qGG D cA b E) n sh Rf o) (ra : RAModel R o) (hR : RI R I0) (hp : ∀ (r : Int32) , (gModel_fault_0 o (tI I0) L0 (p1).toInt = r.toInt) → post (some (.int r)) (n, sh, Rf, I0, L0)) : Ev (qGG D cA b E) mModel_fault 0 (0, 0) 0 (lv_args 0 [.ref o, .int p1]) [] (n, sh, Rf, I0, L0) post := by
  refine sModel_fault_0 o n sh Rf I0 L0 post p1 hok hw ?_
  unfold fModel_fault_0
  have hg : gModel_fault_0 o (tI I0) L0 (p1).toInt = gModel_fault_0 o (tI I0) L0 (p1).toInt := rfl
  replace hg := (eModel_fault_0).symm.trans hg
  have l_1 : (0 : Int32).toInt = 0 := rfl
  refine ⟨fun c_2 => ?_, fun c_2 => ?_⟩
  · have d_3 := iNe c_2
    replace hg := gt_neg (by first | exact d_3 | omega) hg
    have l_4 : (1 : Int32).toInt = 1 := rfl
    refine ⟨fun c_5 => ?_, fun c_5 => ?_⟩
    · have d_6 := iNe c_5
      replace hg := gt_neg (by first | exact d_6 | omega) hg
      have l_7 : (-1 : Int32).toInt = -1 := rfl
      exact (hp _  hg.symm)
    · have d_8 := iEq c_5
      replace hg := gt_pos (by first | exact d_8 | omega) hg
      replace hg := gt_let (y := (I0 o 5).toInt) rfl hg
      exact (hp _  hg.symm)
  · have d_9 := iEq c_2
    replace hg := gt_pos (by first | exact d_9 | omega) hg
    have g_10 : (0 : Int) ≤ (I0 o 4).toInt ∧ (I0 o 4).toInt ≤ 5 := hR.at0 ra 4 (by decide)
    replace hg := gt_let (y := (I0 o 4).toInt) rfl hg
    exact (hp _  hg.symm)
section ZR
variable {D : va_G} {cA : FieldType → ClassId} {b : Nat} {E : State → Prop} {R : qRg} {o n : Nat} {sh : Nat → qC} {Rf : Nat → Nat → Option Nat} {I : Nat → Nat → Int32} {L : Nat → Nat → Int64} {post : Option Value → qS → Prop}
theorem yz_reformg {p1 : Int32} (hok : q_ok (qGG D cA b E)) (hA : ∀ j, R.2 j = true) (h : MI (qGG D cA b E) R n sh Rf I o) (hp : ∀ (r : Int32) (I' : Nat → Nat → Int32) (L' : Nat → Nat → Int64), MI (qGG D cA b E) R n sh Rf I' o → Fm (fun c => c = o ∨ c = o + 2 ∨ (o + 26 ≤ c ∧ c < o + 34)) I I' → Kp wModel_reform I I' o → (Im ((I o 2).toInt ≤ 700 ∧ 0 ≤ p1.toInt ∧ p1.toInt ≤ 3) ((I' o 2).toInt = 0)) → (Im (¬ ((I o 2).toInt ≤ 700 ∧ 0 ≤ p1.toInt ∧ p1.toInt ≤ 3)) ((I' o 2).toInt = (I o 2).toInt)) → (gModel_reform_0 o (tI I) L (p1).toInt = (r.toInt, tI I', L')) → post (some (.int r)) (n, sh, Rf, I', L')) : Ev (qGG D cA b E) mModel_reform 7 (0, 0) 0 (lv_args 0 [.ref o, .int p1]) [] (n, sh, Rf, I, L) post :=
  y_Model_reformg hok h.1 h.2.1 (hA 12) (hA 13) (hA 14) (hA 15) (hA 16) (hA 17) (hA 18) (hA 19) (hA 21) (hA 54) (hA 55) (hA 56) (hA 57) (hA 58) (hA 59) h.2.2.2.1 h.2.2.1 (fun r I' L' hR fr kp u0 u1 u2 gq => hp r I' L' ⟨h.1, h.2.1, hR, u2, (h.2.2.2.2.fr (fr _ (by first | omega | (dsimp only; omega))) (fr _ (by first | omega | (dsimp only; omega))) (kp 67 rfl))⟩ fr kp u0 u1 gq)
theorem yz_faultg {p1 : Int32} (hok : q_ok (qGG D cA b E)) (hA : ∀ j, R.2 j = true) (h : MI (qGG D cA b E) R n sh Rf I o) (hp : ∀ (r : Int32) (L' : Nat → Nat → Int64), (gModel_fault_0 o (tI I) L (p1).toInt = r.toInt) → post (some (.int r)) (n, sh, Rf, I, L')) : Ev (qGG D cA b E) mModel_fault 0 (0, 0) 0 (lv_args 0 [.ref o, .int p1]) [] (n, sh, Rf, I, L) post :=
  y_Model_faultg hok h.1 h.2.1 h.2.2.1 (fun r  gq => hp r L  gq)
end ZR
