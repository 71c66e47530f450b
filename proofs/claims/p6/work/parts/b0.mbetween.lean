/-! The reference between calls. By program (law9.py). -/
section MI
variable {D : va_G} {cA : FieldType → ClassId} {b : Nat} {E : State → Prop} {R : qRg} {o n : Nat} {sh : Nat → qC} {Rf Rf' : Nat → Nat → Option Nat} {I I' : Nat → Nat → Int32} {L : Nat → Nat → Int64} {post : Option Value → qS → Prop} {G : qG}
/-- what holds of a Model between calls -/
def MI (G : qG) (R : qRg) (n : Nat) (sh : Nat → qC) (Rf : Nat → Nat → Option Nat) (I : Nat → Nat → Int32) (o : Nat) : Prop := WfModel G n sh Rf o ∧ RAModel R o ∧ RI R I ∧ MTd I o ∧ MFac I o
theorem MI.up (h : MI G R n sh Rf I o) (hR : RI R I') (e : ∀ a, o ≤ a → Rf' a = Rf a ∧ I' a = I a) : MI G R n sh Rf' I' o :=
  ⟨h.1.fr (e o (Nat.le_refl _)).1, h.2.1, hR, h.2.2.2.1.fr (e _ (by omega)).2 (e _ (by omega)).2 (e _ (by omega)).2, h.2.2.2.2.fr (e _ (by omega)).2 (e _ (by omega)).2 (by rw [(e o (Nat.le_refl _)).2])⟩
theorem ym_feed {p1 : Int32} {p2 : Int32} {p3 : Int32} {p4 : Int32} {p5 : Int32} (hok : q_ok (qGG D cA b E)) (hA : ∀ j, R.2 j = true) (h : MI (qGG D cA b E) R n sh Rf I o) (hp : ∀ (r : Int32) (I' : Nat → Nat → Int32) (L' : Nat → Nat → Int64), MI (qGG D cA b E) R n sh Rf I' o → (∀ a, a < o → I' a = I a) → Kp wModel_feed I I' o → post (some (.int r)) (n, sh, Rf, I', L')) : Ev (qGG D cA b E) mModel_feed 0 (0, 0) 0 (lv_args 0 [.ref o, .int p1, .int p2, .int p3, .int p4, .int p5]) [] (n, sh, Rf, I, L) post :=
  y_Model_feed hok h.1 h.2.1 (hA 12) h.2.2.1 (fun r I' L' hR fr kp  => hp r I' L' ⟨h.1, h.2.1, hR, (h.2.2.2.1.fr (fr _ (by first | omega | (dsimp only; omega))) (fr _ (by first | omega | (dsimp only; omega))) (fr _ (by first | omega | (dsimp only; omega)))), (h.2.2.2.2.fr (fr _ (by first | omega | (dsimp only; omega))) (fr _ (by first | omega | (dsimp only; omega))) (kp 67 rfl))⟩ (fun a ha => fr a (by first | omega | (dsimp only; omega))) kp )
theorem ym_end {p1 : Int32} (hok : q_ok (qGG D cA b E)) (hA : ∀ j, R.2 j = true) (h : MI (qGG D cA b E) R n sh Rf I o) (hp : ∀ (r : Int32) (I' : Nat → Nat → Int32) (L' : Nat → Nat → Int64), MI (qGG D cA b E) R n sh Rf I' o → (∀ a, a < o → I' a = I a) → Kp wModel_end I I' o → post (some (.int r)) (n, sh, Rf, I', L')) : Ev (qGG D cA b E) mModel_end 0 (0, 0) 0 (lv_args 0 [.ref o, .int p1]) [] (n, sh, Rf, I, L) post :=
  y_Model_end hok h.1 h.2.1 (hA 12) h.2.2.1 (fun r I' L' hR fr kp  => hp r I' L' ⟨h.1, h.2.1, hR, (h.2.2.2.1.fr (fr _ (by first | omega | (dsimp only; omega))) (fr _ (by first | omega | (dsimp only; omega))) (fr _ (by first | omega | (dsimp only; omega)))), (h.2.2.2.2.fr (fr _ (by first | omega | (dsimp only; omega))) (fr _ (by first | omega | (dsimp only; omega))) (kp 67 rfl))⟩ (fun a ha => fr a (by first | omega | (dsimp only; omega))) kp )
theorem ym_land (hok : q_ok (qGG D cA b E)) (hA : ∀ j, R.2 j = true) (h : MI (qGG D cA b E) R n sh Rf I o) (hp : ∀ (r : Int32) (I' : Nat → Nat → Int32) (L' : Nat → Nat → Int64), MI (qGG D cA b E) R n sh Rf I' o → (∀ a, a < o → I' a = I a) → Kp wModel_land I I' o → ((I' o 2).toInt = 0) → post (some (.int r)) (n, sh, Rf, I', L')) : Ev (qGG D cA b E) mModel_land 7 (0, 0) 0 (lv_args 0 [.ref o]) [] (n, sh, Rf, I, L) post :=
  y_Model_land hok h.1 h.2.1 (hA 12) (hA 13) (hA 14) (hA 15) (hA 16) (hA 17) (hA 18) (hA 19) (hA 21) (hA 44) (hA 45) (hA 77) (hA 145) h.2.2.2.2 h.2.2.1 (fun r I' L' hR fr kp u0 u1 => hp r I' L' ⟨h.1, h.2.1, hR, (h.2.2.2.1.fr (fr _ (by first | omega | (dsimp only; omega))) (fr _ (by first | omega | (dsimp only; omega))) (fr _ (by first | omega | (dsimp only; omega)))), u1⟩ (fun a ha => fr a (by first | omega | (dsimp only; omega))) kp u0)
theorem ym_reform {p1 : Int32} (hok : q_ok (qGG D cA b E)) (hA : ∀ j, R.2 j = true) (h : MI (qGG D cA b E) R n sh Rf I o) (hp : ∀ (r : Int32) (I' : Nat → Nat → Int32) (L' : Nat → Nat → Int64), MI (qGG D cA b E) R n sh Rf I' o → (∀ a, a < o → I' a = I a) → Kp wModel_reform I I' o → (Im ((I o 2).toInt ≤ 700 ∧ 0 ≤ p1.toInt ∧ p1.toInt ≤ 3) ((I' o 2).toInt = 0)) → (Im (¬ ((I o 2).toInt ≤ 700 ∧ 0 ≤ p1.toInt ∧ p1.toInt ≤ 3)) ((I' o 2).toInt = (I o 2).toInt)) → post (some (.int r)) (n, sh, Rf, I', L')) : Ev (qGG D cA b E) mModel_reform 7 (0, 0) 0 (lv_args 0 [.ref o, .int p1]) [] (n, sh, Rf, I, L) post :=
  y_Model_reform hok h.1 h.2.1 (hA 12) (hA 13) (hA 14) (hA 15) (hA 16) (hA 17) (hA 18) (hA 19) (hA 21) (hA 54) (hA 55) (hA 56) (hA 57) (hA 58) (hA 59) h.2.2.2.1 h.2.2.1 (fun r I' L' hR fr kp u0 u1 u2 => hp r I' L' ⟨h.1, h.2.1, hR, u2, (h.2.2.2.2.fr (fr _ (by first | omega | (dsimp only; omega))) (fr _ (by first | omega | (dsimp only; omega))) (kp 67 rfl))⟩ (fun a ha => fr a (by first | omega | (dsimp only; omega))) kp u0 u1)
theorem ym_fault {p1 : Int32} (hok : q_ok (qGG D cA b E)) (hA : ∀ j, R.2 j = true) (h : MI (qGG D cA b E) R n sh Rf I o) (hp : ∀ (r : Int32) (L' : Nat → Nat → Int64), post (some (.int r)) (n, sh, Rf, I, L')) : Ev (qGG D cA b E) mModel_fault 0 (0, 0) 0 (lv_args 0 [.ref o, .int p1]) [] (n, sh, Rf, I, L) post :=
  y_Model_fault hok h.1 h.2.1 h.2.2.1 (fun r  => hp r L )
theorem ym_days {p1 : Int32} {p2 : Int32} (hok : q_ok (qGG D cA b E)) (hA : ∀ j, R.2 j = true) (h : MI (qGG D cA b E) R n sh Rf I o) (hp : ∀ (r : Int32) (L' : Nat → Nat → Int64), post (some (.int r)) (n, sh, Rf, I, L')) : Ev (qGG D cA b E) mModel_days 1 (0, 0) 0 (lv_args 0 [.ref o, .int p1, .int p2]) [] (n, sh, Rf, I, L) post :=
  y_Model_days hok h.1 h.2.1 h.2.2.1 (fun r  => hp r L )
theorem ym_merchant {p1 : Int32} (hok : q_ok (qGG D cA b E)) (hA : ∀ j, R.2 j = true) (h : MI (qGG D cA b E) R n sh Rf I o) (hp : ∀ (r : Int32) (I' : Nat → Nat → Int32) (L' : Nat → Nat → Int64), MI (qGG D cA b E) R n sh Rf I' o → (∀ a, a < o → I' a = I a) → Kp wModel_merchant I I' o → post (some (.int r)) (n, sh, Rf, I', L')) : Ev (qGG D cA b E) mModel_merchant 0 (0, 0) 0 (lv_args 0 [.ref o, .int p1]) [] (n, sh, Rf, I, L) post :=
  y_Model_merchant hok h.1 h.2.1 (hA 76) (hA 145) h.2.2.1 (fun r I' L' hR fr kp  => hp r I' L' ⟨h.1, h.2.1, hR, (h.2.2.2.1.fr (fr _ (by first | omega | (dsimp only; omega))) (fr _ (by first | omega | (dsimp only; omega))) (fr _ (by first | omega | (dsimp only; omega)))), (h.2.2.2.2.fr (fr _ (by first | omega | (dsimp only; omega))) (fr _ (by first | omega | (dsimp only; omega))) (kp 67 rfl))⟩ (fun a ha => fr a (by first | omega | (dsimp only; omega))) kp )
theorem ym_costs {p1 : Int32} {p2 : Int32} {p3 : Int32} {p4 : Int32} {p5 : Int32} (hok : q_ok (qGG D cA b E)) (hA : ∀ j, R.2 j = true) (h : MI (qGG D cA b E) R n sh Rf I o) (hp : ∀ (r : Int32) (I' : Nat → Nat → Int32) (L' : Nat → Nat → Int64), MI (qGG D cA b E) R n sh Rf I' o → (∀ a, a < o → I' a = I a) → Kp wModel_costs I I' o → (Bz r) → (r = aCosts p1 p2 p3 p4 p5) → post (some (.int r)) (n, sh, Rf, I', L')) : Ev (qGG D cA b E) mModel_costs 1 (0, 0) 0 (lv_args 0 [.ref o, .int p1, .int p2, .int p3, .int p4, .int p5]) [] (n, sh, Rf, I, L) post :=
  y_Model_costs hok h.1 h.2.1 (hA 79) (hA 80) (hA 81) (hA 82) (hA 83) (hA 145) h.2.2.1 (fun r I' L' hR fr kp u0 u1 => hp r I' L' ⟨h.1, h.2.1, hR, (h.2.2.2.1.fr (fr _ (by first | omega | (dsimp only; omega))) (fr _ (by first | omega | (dsimp only; omega))) (fr _ (by first | omega | (dsimp only; omega)))), (h.2.2.2.2.fr (fr _ (by first | omega | (dsimp only; omega))) (fr _ (by first | omega | (dsimp only; omega))) (kp 67 rfl))⟩ (fun a ha => fr a (by first | omega | (dsimp only; omega))) kp u0 u1)
theorem ym_weather {p1 : Int32} {p2 : Int32} {p3 : Int32} (hok : q_ok (qGG D cA b E)) (hA : ∀ j, R.2 j = true) (h : MI (qGG D cA b E) R n sh Rf I o) (hp : ∀ (r : Int32) (I' : Nat → Nat → Int32) (L' : Nat → Nat → Int64), MI (qGG D cA b E) R n sh Rf I' o → (∀ a, a < o → I' a = I a) → Kp wModel_weather I I' o → post (some (.int r)) (n, sh, Rf, I', L')) : Ev (qGG D cA b E) mModel_weather 2 (0, 0) 0 (lv_args 0 [.ref o, .int p1, .int p2, .int p3]) [] (n, sh, Rf, I, L) post :=
  y_Model_weather hok h.1 h.2.1 (hA 77) h.2.2.2.2 h.2.2.1 (fun r I' L' hR fr kp u0 => hp r I' L' ⟨h.1, h.2.1, hR, (h.2.2.2.1.fr (fr _ (by first | omega | (dsimp only; omega))) (fr _ (by first | omega | (dsimp only; omega))) (fr _ (by first | omega | (dsimp only; omega)))), u0⟩ (fun a ha => fr a (by first | omega | (dsimp only; omega))) kp )
theorem ym_forged {p1 : Int32} {p2 : Int32} (hok : q_ok (qGG D cA b E)) (hA : ∀ j, R.2 j = true) (h : MI (qGG D cA b E) R n sh Rf I o) (hp : ∀ (r : Int32) (I' : Nat → Nat → Int32) (L' : Nat → Nat → Int64), MI (qGG D cA b E) R n sh Rf I' o → (∀ a, a < o → I' a = I a) → Kp wModel_forged I I' o → post (some (.int r)) (n, sh, Rf, I', L')) : Ev (qGG D cA b E) mModel_forged 2 (0, 0) 0 (lv_args 0 [.ref o, .int p1, .int p2]) [] (n, sh, Rf, I, L) post :=
  y_Model_forged hok h.1 h.2.1 (hA 77) h.2.2.2.2 h.2.2.1 (fun r I' L' hR fr kp u0 => hp r I' L' ⟨h.1, h.2.1, hR, (h.2.2.2.1.fr (fr _ (by first | omega | (dsimp only; omega))) (fr _ (by first | omega | (dsimp only; omega))) (fr _ (by first | omega | (dsimp only; omega)))), u0⟩ (fun a ha => fr a (by first | omega | (dsimp only; omega))) kp )
theorem ym_dead {p1 : Int32} {p2 : Int32} {p3 : Int32} (hok : q_ok (qGG D cA b E)) (hA : ∀ j, R.2 j = true) (h : MI (qGG D cA b E) R n sh Rf I o) (hp : ∀ (r : Int32) (I' : Nat → Nat → Int32) (L' : Nat → Nat → Int64), MI (qGG D cA b E) R n sh Rf I' o → (∀ a, a < o → I' a = I a) → Kp wModel_dead I I' o → post (some (.int r)) (n, sh, Rf, I', L')) : Ev (qGG D cA b E) mModel_dead 2 (0, 0) 0 (lv_args 0 [.ref o, .int p1, .int p2, .int p3]) [] (n, sh, Rf, I, L) post :=
  y_Model_dead hok h.1 h.2.1 (hA 77) h.2.2.2.2 h.2.2.1 (fun r I' L' hR fr kp u0 => hp r I' L' ⟨h.1, h.2.1, hR, (h.2.2.2.1.fr (fr _ (by first | omega | (dsimp only; omega))) (fr _ (by first | omega | (dsimp only; omega))) (fr _ (by first | omega | (dsimp only; omega)))), u0⟩ (fun a ha => fr a (by first | omega | (dsimp only; omega))) kp )
theorem ym_untell {p1 : Int32} (hok : q_ok (qGG D cA b E)) (hA : ∀ j, R.2 j = true) (h : MI (qGG D cA b E) R n sh Rf I o) (hp : ∀ (r : Int32) (I' : Nat → Nat → Int32) (L' : Nat → Nat → Int64), MI (qGG D cA b E) R n sh Rf I' o → (∀ a, a < o → I' a = I a) → Kp wModel_untell I I' o → (Bz r) → post (some (.int r)) (n, sh, Rf, I', L')) : Ev (qGG D cA b E) mModel_untell 0 (0, 0) 0 (lv_args 0 [.ref o, .int p1]) [] (n, sh, Rf, I, L) post :=
  y_Model_untell hok h.1 h.2.1 h.2.2.1 (fun r I' L' hR fr kp u0 => hp r I' L' ⟨h.1, h.2.1, hR, (h.2.2.2.1.fr (fr _ (by first | omega | (dsimp only; omega))) (fr _ (by first | omega | (dsimp only; omega))) (fr _ (by first | omega | (dsimp only; omega)))), (h.2.2.2.2.fr (fr _ (by first | omega | (dsimp only; omega))) (fr _ (by first | omega | (dsimp only; omega))) (kp 67 rfl))⟩ (fun a ha => fr a (by first | omega | (dsimp only; omega))) kp u0)
theorem ym_later {p1 : Int32} (hok : q_ok (qGG D cA b E)) (hA : ∀ j, R.2 j = true) (h : MI (qGG D cA b E) R n sh Rf I o) (hp : ∀ (r : Int32) (I' : Nat → Nat → Int32) (L' : Nat → Nat → Int64), MI (qGG D cA b E) R n sh Rf I' o → (∀ a, a < o → I' a = I a) → Kp wModel_later I I' o → post (some (.int r)) (n, sh, Rf, I', L')) : Ev (qGG D cA b E) mModel_later 0 (0, 0) 0 (lv_args 0 [.ref o, .int p1]) [] (n, sh, Rf, I, L) post :=
  y_Model_later hok h.1 h.2.1 (hA 78) h.2.2.1 (fun r I' L' hR fr kp  => hp r I' L' ⟨h.1, h.2.1, hR, (h.2.2.2.1.fr (fr _ (by first | omega | (dsimp only; omega))) (fr _ (by first | omega | (dsimp only; omega))) (fr _ (by first | omega | (dsimp only; omega)))), (h.2.2.2.2.fr (fr _ (by first | omega | (dsimp only; omega))) (fr _ (by first | omega | (dsimp only; omega))) (kp 67 rfl))⟩ (fun a ha => fr a (by first | omega | (dsimp only; omega))) kp )
theorem ym_run {p1 : Int32} {p2 : Int32} {p3 : Int32} (hok : q_ok (qGG D cA b E)) (hA : ∀ j, R.2 j = true) (h : MI (qGG D cA b E) R n sh Rf I o) (hp : ∀ (r : Int32) (I' : Nat → Nat → Int32) (L' : Nat → Nat → Int64), MI (qGG D cA b E) R n sh Rf I' o → (∀ a, a < o → I' a = I a) → Kp wModel_run I I' o → post (some (.int r)) (n, sh, Rf, I', L')) : Ev (qGG D cA b E) mModel_run 10 (0, 0) 0 (lv_args 0 [.ref o, .int p1, .int p2, .int p3]) [] (n, sh, Rf, I, L) post :=
  y_Model_run hok h.1 h.2.1 (hA 61) (hA 62) (hA 63) (hA 64) (hA 65) (hA 66) (hA 67) (hA 84) (hA 114) (hA 115) (hA 116) (hA 117) (hA 118) (hA 119) (hA 120) (hA 121) (hA 130) (hA 132) (hA 133) (hA 134) (hA 135) (hA 136) (hA 137) (hA 145) (hA 146) (hA 147) (hA 173) h.2.2.2.1 h.2.2.2.2 h.2.2.1 (fun r I' L' hR fr kp u0 u1 => hp r I' L' ⟨h.1, h.2.1, hR, u0, u1⟩ (fun a ha => fr a (by first | omega | (dsimp only; omega))) kp )
theorem ym_ran {p1 : Int32} (hok : q_ok (qGG D cA b E)) (hA : ∀ j, R.2 j = true) (h : MI (qGG D cA b E) R n sh Rf I o) (hp : ∀ (r : Int64) (L' : Nat → Nat → Int64), post (some (.long r)) (n, sh, Rf, I, L')) : Ev (qGG D cA b E) mModel_ran 3 (0, 0) 0 (lv_args 0 [.ref o, .int p1]) [] (n, sh, Rf, I, L) post :=
  y_Model_ran hok h.1 h.2.1 h.2.2.1 (fun r  => hp r L )
theorem ym_fort {p1 : Int32} {p2 : Int32} {p3 : Int32} (hok : q_ok (qGG D cA b E)) (hA : ∀ j, R.2 j = true) (h : MI (qGG D cA b E) R n sh Rf I o) (hp : ∀ (r : Int32) (L' : Nat → Nat → Int64), post (some (.int r)) (n, sh, Rf, I, L')) : Ev (qGG D cA b E) mModel_fort 1 (0, 0) 0 (lv_args 0 [.ref o, .int p1, .int p2, .int p3]) [] (n, sh, Rf, I, L) post :=
  y_Model_fort hok h.1 h.2.1 h.2.2.1 (fun r  => hp r L )
theorem ym_pan {p1 : Int32} {p2 : Int32} {p3 : Int32} (hok : q_ok (qGG D cA b E)) (hA : ∀ j, R.2 j = true) (h : MI (qGG D cA b E) R n sh Rf I o) (hp : ∀ (r : Int32) (L' : Nat → Nat → Int64), post (some (.int r)) (n, sh, Rf, I, L')) : Ev (qGG D cA b E) mModel_pan 1 (0, 0) 0 (lv_args 0 [.ref o, .int p1, .int p2, .int p3]) [] (n, sh, Rf, I, L) post :=
  y_Model_pan hok h.1 h.2.1 h.2.2.1 (fun r  => hp r L )
theorem ym_town {p1 : Int32} {p2 : Int32} {p3 : Int32} (hok : q_ok (qGG D cA b E)) (hA : ∀ j, R.2 j = true) (h : MI (qGG D cA b E) R n sh Rf I o) (hp : ∀ (r : Int32) (L' : Nat → Nat → Int64), post (some (.int r)) (n, sh, Rf, I, L')) : Ev (qGG D cA b E) mModel_town 1 (0, 0) 0 (lv_args 0 [.ref o, .int p1, .int p2, .int p3]) [] (n, sh, Rf, I, L) post :=
  y_Model_town hok h.1 h.2.1 h.2.2.1 (fun r  => hp r L )
theorem ym_book {p1 : Int32} {p2 : Int32} {p3 : Int32} (hok : q_ok (qGG D cA b E)) (hA : ∀ j, R.2 j = true) (h : MI (qGG D cA b E) R n sh Rf I o) (hp : ∀ (r : Int64) (L' : Nat → Nat → Int64), post (some (.long r)) (n, sh, Rf, I, L')) : Ev (qGG D cA b E) mModel_book 1 (0, 0) 0 (lv_args 0 [.ref o, .int p1, .int p2, .int p3]) [] (n, sh, Rf, I, L) post :=
  y_Model_book hok h.1 h.2.1 h.2.2.1 (fun r  => hp r L )
theorem ym_paper {p1 : Int32} {p2 : Int32} (hok : q_ok (qGG D cA b E)) (hA : ∀ j, R.2 j = true) (h : MI (qGG D cA b E) R n sh Rf I o) (hp : ∀ (r : Int32) (L' : Nat → Nat → Int64), post (some (.int r)) (n, sh, Rf, I, L')) : Ev (qGG D cA b E) mModel_paper 0 (0, 0) 0 (lv_args 0 [.ref o, .int p1, .int p2]) [] (n, sh, Rf, I, L) post :=
  y_Model_paper hok h.1 h.2.1 h.2.2.1 (fun r  => hp r L )
theorem ym_way {p1 : Int32} {p2 : Int32} (hok : q_ok (qGG D cA b E)) (hA : ∀ j, R.2 j = true) (h : MI (qGG D cA b E) R n sh Rf I o) (hp : ∀ (r : Int64) (I' : Nat → Nat → Int32) (L' : Nat → Nat → Int64), MI (qGG D cA b E) R n sh Rf I' o → (∀ a, a < o → I' a = I a) → Kp wModel_way I I' o → post (some (.long r)) (n, sh, Rf, I', L')) : Ev (qGG D cA b E) mModel_way 8 (0, 0) 0 (lv_args 0 [.ref o, .int p1, .int p2]) [] (n, sh, Rf, I, L) post :=
  y_Model_way hok h.1 h.2.1 (hA 61) (hA 62) (hA 63) (hA 67) (hA 116) (hA 117) (hA 118) (hA 119) (hA 120) (hA 121) (hA 130) (hA 132) (hA 133) (hA 134) (hA 135) (hA 136) (hA 137) h.2.2.2.1 h.2.2.2.2 h.2.2.1 (fun r I' L' hR fr kp u0 u1 => hp r I' L' ⟨h.1, h.2.1, hR, u0, u1⟩ (fun a ha => fr a (by first | omega | (dsimp only; omega))) kp )
theorem ym_worth {p1 : Int32} (hok : q_ok (qGG D cA b E)) (hA : ∀ j, R.2 j = true) (h : MI (qGG D cA b E) R n sh Rf I o) (hp : ∀ (r : Int64) (I' : Nat → Nat → Int32) (L' : Nat → Nat → Int64), MI (qGG D cA b E) R n sh Rf I' o → (∀ a, a < o → I' a = I a) → Kp wModel_worth I I' o → post (some (.long r)) (n, sh, Rf, I', L')) : Ev (qGG D cA b E) mModel_worth 8 (0, 0) 0 (lv_args 0 [.ref o, .int p1]) [] (n, sh, Rf, I, L) post :=
  y_Model_worth hok h.1 h.2.1 (hA 67) (hA 116) (hA 117) (hA 118) (hA 119) (hA 120) (hA 121) (hA 130) h.2.2.2.1 h.2.2.2.2 h.2.2.1 (fun r I' L' hR fr kp u0 u1 => hp r I' L' ⟨h.1, h.2.1, hR, u0, u1⟩ (fun a ha => fr a (by first | omega | (dsimp only; omega))) kp )
theorem ym_judge {p1 : Int32} {p2 : Int32} {p3 : Int32} {p4 : Int32} (hok : q_ok (qGG D cA b E)) (hA : ∀ j, R.2 j = true) (h : MI (qGG D cA b E) R n sh Rf I o) (hp : ∀ (r : Int32) (I' : Nat → Nat → Int32) (L' : Nat → Nat → Int64), MI (qGG D cA b E) R n sh Rf I' o → (∀ a, a < o → I' a = I a) → Kp wModel_judge I I' o → post (some (.int r)) (n, sh, Rf, I', L')) : Ev (qGG D cA b E) mModel_judge 11 (0, 0) 0 (lv_args 0 [.ref o, .int p1, .int p2, .int p3, .int p4]) [] (n, sh, Rf, I, L) post :=
  y_Model_judge hok h.1 h.2.1 (hA 61) (hA 62) (hA 63) (hA 64) (hA 65) (hA 66) (hA 67) (hA 84) (hA 114) (hA 115) (hA 116) (hA 117) (hA 118) (hA 119) (hA 120) (hA 121) (hA 130) (hA 132) (hA 133) (hA 134) (hA 135) (hA 136) (hA 137) h.2.2.2.1 h.2.2.2.2 h.2.2.1 (fun r I' L' hR fr kp u0 u1 => hp r I' L' ⟨h.1, h.2.1, hR, u0, u1⟩ (fun a ha => fr a (by first | omega | (dsimp only; omega))) kp )
theorem ym_about {p1 : Int32} (hok : q_ok (qGG D cA b E)) (hA : ∀ j, R.2 j = true) (h : MI (qGG D cA b E) R n sh Rf I o) (hp : ∀ (r : Int32) (L' : Nat → Nat → Int64), post (some (.int r)) (n, sh, Rf, I, L')) : Ev (qGG D cA b E) mModel_about 1 (0, 0) 0 (lv_args 0 [.ref o, .int p1]) [] (n, sh, Rf, I, L) post :=
  y_Model_about hok h.1 h.2.1 h.2.2.1 (fun r  => hp r L )
end MI
theorem fzModel : ∀ i k, 0 < i → (TModel i k).1 ≤ 0 ∧ 0 ≤ (TModel i k).2.1 := by
  intro i k h
  unfold TModel
  split
  · exact absurd h (by omega)
  all_goals decide
theorem f0Model : ∀ k, (TModel 0 k).1 ≤ (mF k).toInt ∧ (mF k).toInt ≤ (TModel 0 k).2.1 := by
  intro k
  simp only [TModel]
  split
  all_goals first | exact ⟨i_lo _, i_hi _⟩ | decide
section MNew
variable {D : va_G} {cA : FieldType → ClassId} {b : Nat} {E : State → Prop} {o n0 : Nat} {sh0 : Nat → qC} {Rf0 : Nat → Nat → Option Nat} {I0 : Nat → Nat → Int32} {L0 : Nat → Nat → Int64} {post : Option Value → qS → Prop} {n : Nat} {sh : Nat → qC} {Rf : Nat → Nat → Option Nat} {I : Nat → Nat → Int32} {L : Nat → Nat → Int64}
theorem m_init_872S (hok : q_ok (qGG D cA b E)) (hw : WfModel (qGG D cA b E) n sh Rf o) {J : Nat → Nat → Int32} (kk : ∀ I', (∀ a, a ≠ o + 26 → I' a = J a) → (∀ j, j < 60 → I' (o + 26) j = -1) → (∀ j, I' (o + 26) j = -1 ∨ I' (o + 26) j = J (o + 26) j) → Ev (qGG D cA b E) mModel_init 1 (0, 0) 872 [(0, .ref o), (1, .int (nI 60))] [] (n, sh, Rf, I', L) post) : ∀ (m k : Nat) (I : Nat → Nat → Int32), k + m = 60 → (∀ a, a ≠ o + 26 → I a = J a) → (∀ j, j < k → I (o + 26) j = -1) → (∀ j, I (o + 26) j = -1 ∨ I (o + 26) j = J (o + 26) j) → Ev (qGG D cA b E) mModel_init 1 (0, 0) 872 [(0, .ref o), (1, .int (nI k))] [] (n, sh, Rf, I, L) post := by
  intro m
  induction m with
  | zero =>
    intro k I hk hJ hu hv
    have e : k = 60 := by omega
    subst e
    exact kk I hJ hu hv
  | succ m ih =>
    intro k I hk hJ hu hv
    refine sModel_init_872 o n sh Rf I L post (nI k) hok hw ⟨fun h => absurd ((nI_leI (a := 60) (by omega) (by omega)).mp h) (by omega), fun _ => ⟨vp_in_nI (by omega) (by omega), fun I6 e6 => ?_⟩⟩
    rw [nI_clamp (by omega)] at e6
    rw [nI_inc]
    refine ih (k + 1) I6 (by omega) (fun a ha => ?_) (fun j hj => ?_) (fun j => ?_)
    · rw [← e6, q_u_ne ha]; exact hJ a ha
    · by_cases h : j = k
      · subst h; rw [← e6, q_u_at]
      · rw [← e6, q_u_k h]; exact hu j (by omega)
    · by_cases h : j = k
      · subst h; rw [← e6, q_u_at]; exact Or.inl rfl
      · rw [← e6, q_u_k h]; exact hv j
/-- new SaltOfficeModel(): 101 cells come, of 100,599 slots; the object is fresh; nothing below it changes -/
theorem m_initS (hok : q_ok (qGG D cA b E)) (hb : b ≤ o) (hn : o + 1 = b + n) (hs : sh o = .inr 12) (hI : I o = fun _ => 0) (hL : L o = fun _ => 0) (hp : ∀ n' sh' Rf' I' L', n' = n + 101 → WfModel (qGG D cA b E) n' sh' Rf' o → FM I' o → InT TModel 102 I' o → (∀ a, a < o → sh' a = sh a ∧ Rf' a = Rf a ∧ I' a = I a ∧ L' a = L a) → post none (n', sh', Rf', I', L')) : Ev (qGG D cA b E) mModel_init 1 (101, 100599) 0 (lv_args 0 [.ref o]) [] (n, sh, Rf, I, L) post := by
  refine m_init_rows (n0 := n) (sh0 := sh) (Rf0 := Rf) (I0 := I) (L0 := L) hok ⟨rfl, hb, hn, hs, hI, hL, fun i x hi => absurd hi (by omega), fun a ha => ⟨rfl, rfl, rfl, rfl⟩⟩ (fun n1 sh1 Rf1 I1 L1 hP => ?_)
  have hw := hP.wfM
  have zr : ∀ i, i < 101 → ∀ k, I1 (o + (i + 1)) k = 0 := fun i hi k => hP.zeroM hi k
  obtain ⟨p1, p2, p3, p4, p5, p6, p7, p8⟩ := id hP
  refine sModel_init_870 o n1 sh1 Rf1 I1 L1 post hok hw (m_init_872S (J := I1) hok hw (fun I2 ha hu hv => ?_) 60 0 I1 rfl (fun _ _ => rfl) (fun j hj => absurd hj (by omega)) (fun j => Or.inr rfl))
  have fo : ∀ k, I2 o k = mF k := fun k => by rw [ha o (by omega), p5]
  refine sModel_init_872 o n1 sh1 Rf1 I2 L1 post (nI 60) hok hw ⟨fun _ => ?_, fun h => absurd (by decide) h⟩
  refine l_measure hok hw (Or.inl (by rw [fo]; rfl)) (fun j hj => by rw [ha _ (by omega)]; exact zr 5 (by omega) j) (fun I3 hF fa => ⟨I3, L1, rfl, rfl, ?_⟩)
  have go : ∀ k, I3 o k = mF k := fun k => by rw [fa o (by omega)]; exact fo k
  have ga : ∀ i, i < 101 → i ≠ 24 → i ≠ 25 → ∀ k, I3 (o + (i + 1)) k = 0 := fun i hi h1 h2 k => by rw [fa _ (by omega), ha _ (by omega)]; exact zr i hi k
  have it : InT TModel 102 I3 o := by
    intro i hi k
    by_cases h0 : i = 0
    · subst h0
      show (TModel 0 k).1 ≤ (I3 o k).toInt ∧ (I3 o k).toInt ≤ (TModel 0 k).2.1
      rw [go]
      exact f0Model k
    · by_cases h25 : i = 25
      · subst h25; exact ⟨i_lo _, i_hi _⟩
      · by_cases h26 : i = 26
        · subst h26
          have e : I3 (o + 26) k = I2 (o + 26) k := by rw [fa _ (by omega)]
          have z : I1 (o + 26) k = 0 := zr 25 (by omega) k
          rw [e]
          show (-1 : Int) ≤ (I2 (o + 26) k).toInt ∧ (I2 (o + 26) k).toInt ≤ (700 : Int)
          rcases hv k with q | q
          · rw [q]; decide
          · rw [q, z]; decide
        · obtain ⟨j, rfl⟩ : ∃ j, i = j + 1 := ⟨i - 1, by omega⟩
          rw [ga j (by omega) (by omega) (by omega) k]
          exact fzModel (j + 1) k (by omega)
  refine hp n1 sh1 Rf1 I3 L1 p1 hw ⟨⟨Or.inl (by rw [go]; rfl), fun j hj => ⟨ga 6 (by omega) (by omega) (by omega) j, ga 7 (by omega) (by omega) (by omega) j, ga 8 (by omega) (by omega) (by omega) j⟩, by rw [go]; rfl, by rw [go]; rfl, fun j hj => by rw [fa _ (by omega)]; exact hu j hj⟩, by rw [go]; rfl, by rw [go]; rfl, by rw [go]; rfl, by rw [go]; rfl, by rw [go]; rfl, fun j hj => ga 5 (by omega) (by omega) (by omega) j, fun j hj => ga 28 (by omega) (by omega) (by omega) j, hF⟩ it (fun a h => ?_)
  obtain ⟨a1, a2, a3, a4⟩ := p8 a h
  exact ⟨a1, a2, by rw [fa a (by omega), ha a (by omega)]; exact a3, a4⟩
end MNew
theorem FM.mi {G : qG} {R : qRg} {n : Nat} {sh : Nat → qC} {Rf : Nat → Nat → Option Nat} {I : Nat → Nat → Int32} {o : Nat} (hw : WfModel G n sh Rf o) (ra : RAModel R o) (hR : RI R I) (h : FM I o) : MI G R n sh Rf I o := by
  refine ⟨hw, ra, hR, fun s hs h4 u hu => Or.inl ?_, fun j hj => ?_⟩
  · rw [h.1.2.2.2.2 (10 * s + u) (by omega)]
    decide
  · rw [h.1.2.2.2.1] at hj
    have z : (0 : Int32).toInt = 0 := rfl
    rw [z] at hj
    exact absurd hj (by omega)
