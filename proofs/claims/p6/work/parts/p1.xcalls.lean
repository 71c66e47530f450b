/-! The calls of an Office that is between calls, with all that they leave as it was. By program (xlaw.py). -/
section XC
variable {D : va_G} {cA : FieldType → ClassId} {b : Nat} {kS vS : Nat → Nat} {xb xl : Nat} {xs : Nat → Int32} {R : qRg} {o n : Nat} {sh : Nat → qC} {Rf Rf' : Nat → Nat → Option Nat} {I I' : Nat → Nat → Int32} {L : Nat → Nat → Int64} {post : Option Value → qS → Prop}
theorem yx_feed {p1 : Int32} {p2 : Int32} {p3 : Int32} {p4 : Int32} {p5 : Int32} (hA : ∀ i, R.2 i = true) (h : OI (qGG D cA b (qEx b kS vS xb xl xs)) R n sh Rf I o) (hp : ∀ (r : Int32) (I' : Nat → Nat → Int32) (L' : Nat → Nat → Int64), (gOffice_feed_0 o (tI I) L (p1).toInt (p2).toInt (p3).toInt (p4).toInt (p5).toInt = (r.toInt, tI I', L')) → OI (qGG D cA b (qEx b kS vS xb xl xs)) R n sh Rf I' o → Fm (fun c => c = o + 1 ∨ c = o + 2) I I' → FmL (fun c => False) L L' → post (some (.int r)) (n, sh, Rf, I', L')) : Ev (qGG D cA b (qEx b kS vS xb xl xs)) mOffice_feed 1 (0, 0) 0 (lv_args 0 [.ref o, .int p1, .int p2, .int p3, .int p4, .int p5]) [] (n, sh, Rf, I, L) post := by
  exact y_Office_feedg qEx_ok h.1 h.2.1 (hA 3) h.2.2.1 (fun r I' L' hR hf   gq fl => hp r I' L'  gq (h.fm hR hf (fun c hc => by first | (dsimp only; omega) | omega) (h.tok hf (fun c hc => by first | (dsimp only; omega) | omega)) (h.fac hf (fun c hc => by first | (dsimp only; omega) | omega))) hf fl)
theorem yx_end {p1 : Int32} (hA : ∀ i, R.2 i = true) (h : OI (qGG D cA b (qEx b kS vS xb xl xs)) R n sh Rf I o) (hp : ∀ (r : Int32) (I' : Nat → Nat → Int32) (L' : Nat → Nat → Int64), (gOffice_end_0 o (tI I) L (p1).toInt = (r.toInt, tI I', L')) → OI (qGG D cA b (qEx b kS vS xb xl xs)) R n sh Rf I' o → Fm (fun c => c = o + 1) I I' → FmL (fun c => False) L L' → post (some (.int r)) (n, sh, Rf, I', L')) : Ev (qGG D cA b (qEx b kS vS xb xl xs)) mOffice_end 0 (0, 0) 0 (lv_args 0 [.ref o, .int p1]) [] (n, sh, Rf, I, L) post := by
  exact y_Office_endg qEx_ok h.1 h.2.1 (hA 3) h.2.2.1 (fun r I' L' hR hf   gq fl => hp r I' L'  gq (h.fm hR hf (fun c hc => by first | (dsimp only; omega) | omega) (h.tok hf (fun c hc => by first | (dsimp only; omega) | omega)) (h.fac hf (fun c hc => by first | (dsimp only; omega) | omega))) hf fl)
theorem yx_fault {p1 : Int32} (hA : ∀ i, R.2 i = true) (h : OI (qGG D cA b (qEx b kS vS xb xl xs)) R n sh Rf I o) (hp : ∀ (r : Int32) , (gOffice_fault_0 o (tI I) L (p1).toInt = r.toInt) → post (some (.int r)) (n, sh, Rf, I, L)) : Ev (qGG D cA b (qEx b kS vS xb xl xs)) mOffice_fault 0 (0, 0) 0 (lv_args 0 [.ref o, .int p1]) [] (n, sh, Rf, I, L) post := by
  exact y_Office_faultg qEx_ok h.1 h.2.1 h.2.2.1 (fun r  gq => hp r  gq)
theorem yx_days {p1 : Int32} {p2 : Int32} (hA : ∀ i, R.2 i = true) {l : Nat} (hl : Rf o 1 = some l) (h : OI (qGG D cA b (qEx b kS vS xb xl xs)) R n sh Rf I o) (hp : ∀ (r : Int32) , (gOffice_days_0 o l (tI I) L (p1).toInt (p2).toInt = r.toInt) → post (some (.int r)) (n, sh, Rf, I, L)) : Ev (qGG D cA b (qEx b kS vS xb xl xs)) mOffice_days 1 (0, 0) 0 (lv_args 0 [.ref o, .int p1, .int p2]) [] (n, sh, Rf, I, L) post := by
  obtain ⟨l', hl', wl⟩ := h.2.2.2.1
  rw [hl] at hl'
  cases hl'
  exact y_Office_daysg qEx_ok h.1 h.2.1 wl.1 wl.2.1 hl h.2.2.1 (fun r  gq => hp r  gq)
theorem yx_merchant {p1 : Int32} (hA : ∀ i, R.2 i = true) (h : OI (qGG D cA b (qEx b kS vS xb xl xs)) R n sh Rf I o) (hp : ∀ (r : Int32) (I' : Nat → Nat → Int32) (L' : Nat → Nat → Int64), (gOffice_merchant_0 o (tI I) L (p1).toInt = (r.toInt, tI I', L')) → OI (qGG D cA b (qEx b kS vS xb xl xs)) R n sh Rf I' o → Fm (fun c => c = o + 46 ∨ c = o + 47 ∨ c = o + 55) I I' → FmL (fun c => False) L L' → post (some (.int r)) (n, sh, Rf, I', L')) : Ev (qGG D cA b (qEx b kS vS xb xl xs)) mOffice_merchant 0 (0, 0) 0 (lv_args 0 [.ref o, .int p1]) [] (n, sh, Rf, I, L) post := by
  exact y_Office_merchantg qEx_ok h.1 h.2.1 (hA 2) h.2.2.1 (fun r I' L' hR hf   gq fl => hp r I' L'  gq (h.fm hR hf (fun c hc => by first | (dsimp only; omega) | omega) (h.tok hf (fun c hc => by first | (dsimp only; omega) | omega)) (h.fac hf (fun c hc => by first | (dsimp only; omega) | omega))) hf fl)
theorem yx_costs {p1 : Int32} {p2 : Int32} {p3 : Int32} {p4 : Int32} {p5 : Int32} (hA : ∀ i, R.2 i = true) (h : OI (qGG D cA b (qEx b kS vS xb xl xs)) R n sh Rf I o) (hp : ∀ (r : Int32) (I' : Nat → Nat → Int32) (L' : Nat → Nat → Int64), (Bz r) → (r = aCosts p1 p2 p3 p4 p5) → (gOffice_costs_0 o (tI I) L (p1).toInt (p2).toInt (p3).toInt (p4).toInt (p5).toInt = (r.toInt, tI I', L')) → OI (qGG D cA b (qEx b kS vS xb xl xs)) R n sh Rf I' o → Fm (fun c => c = o + 46 ∨ c = o + 55) I I' → FmL (fun c => False) L L' → post (some (.int r)) (n, sh, Rf, I', L')) : Ev (qGG D cA b (qEx b kS vS xb xl xs)) mOffice_costs 1 (0, 0) 0 (lv_args 0 [.ref o, .int p1, .int p2, .int p3, .int p4, .int p5]) [] (n, sh, Rf, I, L) post := by
  exact y_Office_costsg qEx_ok h.1 h.2.1 h.2.2.1 (fun r I' L' hR hf u0 u1  gq fl => hp r I' L' u0 u1 gq (h.fm hR hf (fun c hc => by first | (dsimp only; omega) | omega) (h.tok hf (fun c hc => by first | (dsimp only; omega) | omega)) (h.fac hf (fun c hc => by first | (dsimp only; omega) | omega))) hf fl)
theorem yx_weather {p1 : Int32} {p2 : Int32} {p3 : Int32} (hA : ∀ i, R.2 i = true) {l : Nat} (hl : Rf o 1 = some l) (h : OI (qGG D cA b (qEx b kS vS xb xl xs)) R n sh Rf I o) (hp : ∀ (r : Int32) (I' : Nat → Nat → Int32) (L' : Nat → Nat → Int64), (gOffice_weather_0 o l (tI I) L (p1).toInt (p2).toInt (p3).toInt = (r.toInt, tI I', L')) → OI (qGG D cA b (qEx b kS vS xb xl xs)) R n sh Rf I' o → Fm (fun c => (o + 48 ≤ c ∧ c < o + 55)) I I' → FmL (fun c => False) L L' → post (some (.int r)) (n, sh, Rf, I', L')) : Ev (qGG D cA b (qEx b kS vS xb xl xs)) mOffice_weather 2 (0, 0) 0 (lv_args 0 [.ref o, .int p1, .int p2, .int p3]) [] (n, sh, Rf, I, L) post := by
  obtain ⟨l', hl', wl⟩ := h.2.2.2.1
  rw [hl] at hl'
  cases hl'
  exact y_Office_weatherg qEx_ok h.1 h.2.1 wl.1 wl.2.1 hl h.2.2.2.2.2.2.2.2.2.2 h.2.2.1 (fun r I' L' hR hf  gf gq fl => hp r I' L'  gq (h.fm hR hf (fun c hc => by first | (dsimp only; omega) | omega) (h.tok hf (fun c hc => by first | (dsimp only; omega) | omega)) gf) hf fl)
theorem yx_forged {p1 : Int32} {p2 : Int32} (hA : ∀ i, R.2 i = true) (h : OI (qGG D cA b (qEx b kS vS xb xl xs)) R n sh Rf I o) (hp : ∀ (r : Int32) (I' : Nat → Nat → Int32) (L' : Nat → Nat → Int64), (gOffice_forged_0 o (tI I) L (p1).toInt (p2).toInt = (r.toInt, tI I', L')) → OI (qGG D cA b (qEx b kS vS xb xl xs)) R n sh Rf I' o → Fm (fun c => (o + 48 ≤ c ∧ c < o + 55)) I I' → FmL (fun c => False) L L' → post (some (.int r)) (n, sh, Rf, I', L')) : Ev (qGG D cA b (qEx b kS vS xb xl xs)) mOffice_forged 2 (0, 0) 0 (lv_args 0 [.ref o, .int p1, .int p2]) [] (n, sh, Rf, I, L) post := by
  exact y_Office_forgedg qEx_ok h.1 h.2.1 h.2.2.2.2.2.2.2.2.2.2 h.2.2.1 (fun r I' L' hR hf  gf gq fl => hp r I' L'  gq (h.fm hR hf (fun c hc => by first | (dsimp only; omega) | omega) (h.tok hf (fun c hc => by first | (dsimp only; omega) | omega)) gf) hf fl)
theorem yx_dead {p1 : Int32} {p2 : Int32} {p3 : Int32} (hA : ∀ i, R.2 i = true) (h : OI (qGG D cA b (qEx b kS vS xb xl xs)) R n sh Rf I o) (hp : ∀ (r : Int32) (I' : Nat → Nat → Int32) (L' : Nat → Nat → Int64), (gOffice_dead_0 o (tI I) L (p1).toInt (p2).toInt (p3).toInt = (r.toInt, tI I', L')) → OI (qGG D cA b (qEx b kS vS xb xl xs)) R n sh Rf I' o → Fm (fun c => (o + 48 ≤ c ∧ c < o + 55)) I I' → FmL (fun c => False) L L' → post (some (.int r)) (n, sh, Rf, I', L')) : Ev (qGG D cA b (qEx b kS vS xb xl xs)) mOffice_dead 2 (0, 0) 0 (lv_args 0 [.ref o, .int p1, .int p2, .int p3]) [] (n, sh, Rf, I, L) post := by
  exact y_Office_deadg qEx_ok h.1 h.2.1 h.2.2.2.2.2.2.2.2.2.2 h.2.2.1 (fun r I' L' hR hf  gf gq fl => hp r I' L'  gq (h.fm hR hf (fun c hc => by first | (dsimp only; omega) | omega) (h.tok hf (fun c hc => by first | (dsimp only; omega) | omega)) gf) hf fl)
theorem yx_untell {p1 : Int32} (hA : ∀ i, R.2 i = true) (h : OI (qGG D cA b (qEx b kS vS xb xl xs)) R n sh Rf I o) (hp : ∀ (r : Int32) (I' : Nat → Nat → Int32) (L' : Nat → Nat → Int64), (Bz r) → (gOffice_untell_0 o (tI I) L (p1).toInt = (r.toInt, tI I', L')) → OI (qGG D cA b (qEx b kS vS xb xl xs)) R n sh Rf I' o → Fm (fun c => c = o + 54) I I' → FmL (fun c => False) L L' → post (some (.int r)) (n, sh, Rf, I', L')) : Ev (qGG D cA b (qEx b kS vS xb xl xs)) mOffice_untell 0 (0, 0) 0 (lv_args 0 [.ref o, .int p1]) [] (n, sh, Rf, I, L) post := by
  exact y_Office_untellg qEx_ok h.1 h.2.1 h.2.2.1 (fun r I' L' hR hf u0  gq fl => hp r I' L' u0 gq (h.fm hR hf (fun c hc => by first | (dsimp only; omega) | omega) (h.tok hf (fun c hc => by first | (dsimp only; omega) | omega)) (h.fac hf (fun c hc => by first | (dsimp only; omega) | omega))) hf fl)
theorem yx_later {p1 : Int32} (hA : ∀ i, R.2 i = true) (h : OI (qGG D cA b (qEx b kS vS xb xl xs)) R n sh Rf I o) (hp : ∀ (r : Int32) (I' : Nat → Nat → Int32) (L' : Nat → Nat → Int64), (gOffice_later_0 o (tI I) L (p1).toInt = (r.toInt, tI I', L')) → OI (qGG D cA b (qEx b kS vS xb xl xs)) R n sh Rf I' o → Fm (fun c => c = o) I I' → FmL (fun c => False) L L' → post (some (.int r)) (n, sh, Rf, I', L')) : Ev (qGG D cA b (qEx b kS vS xb xl xs)) mOffice_later 0 (0, 0) 0 (lv_args 0 [.ref o, .int p1]) [] (n, sh, Rf, I, L) post := by
  exact y_Office_laterg qEx_ok h.1 h.2.1 (hA 1) h.2.2.1 (fun r I' L' hR hf   gq fl => hp r I' L'  gq (h.fm hR hf (fun c hc => by first | (dsimp only; omega) | omega) (h.tok hf (fun c hc => by first | (dsimp only; omega) | omega)) (h.fac hf (fun c hc => by first | (dsimp only; omega) | omega))) hf fl)
theorem yx_ran {p1 : Int32} (hA : ∀ i, R.2 i = true) (h : OI (qGG D cA b (qEx b kS vS xb xl xs)) R n sh Rf I o) (hp : ∀ (r : Int64) , (gOffice_ran_0 o (tI I) L (p1).toInt = r) → post (some (.long r)) (n, sh, Rf, I, L)) : Ev (qGG D cA b (qEx b kS vS xb xl xs)) mOffice_ran 0 (0, 0) 0 (lv_args 0 [.ref o, .int p1]) [] (n, sh, Rf, I, L) post := by
  exact y_Office_rang qEx_ok h.1 h.2.1 h.2.2.1 (fun r  gq => hp r  gq)
theorem yx_fort {p1 : Int32} {p2 : Int32} {p3 : Int32} (hA : ∀ i, R.2 i = true) {l : Nat} (hl : Rf o 1 = some l) (h : OI (qGG D cA b (qEx b kS vS xb xl xs)) R n sh Rf I o) (hp : ∀ (r : Int32) , (gOffice_fort_0 o l (tI I) L (p1).toInt (p2).toInt (p3).toInt = r.toInt) → post (some (.int r)) (n, sh, Rf, I, L)) : Ev (qGG D cA b (qEx b kS vS xb xl xs)) mOffice_fort 1 (0, 0) 0 (lv_args 0 [.ref o, .int p1, .int p2, .int p3]) [] (n, sh, Rf, I, L) post := by
  obtain ⟨l', hl', wl⟩ := h.2.2.2.1
  rw [hl] at hl'
  cases hl'
  exact y_Office_fortg qEx_ok h.1 h.2.1 wl.1 wl.2.1 hl h.2.2.1 (fun r  gq => hp r  gq)
theorem yx_pan {p1 : Int32} {p2 : Int32} {p3 : Int32} (hA : ∀ i, R.2 i = true) {l : Nat} (hl : Rf o 1 = some l) (h : OI (qGG D cA b (qEx b kS vS xb xl xs)) R n sh Rf I o) (hp : ∀ (r : Int32) , (gOffice_pan_0 o l (tI I) L (p1).toInt (p2).toInt (p3).toInt = r.toInt) → post (some (.int r)) (n, sh, Rf, I, L)) : Ev (qGG D cA b (qEx b kS vS xb xl xs)) mOffice_pan 1 (0, 0) 0 (lv_args 0 [.ref o, .int p1, .int p2, .int p3]) [] (n, sh, Rf, I, L) post := by
  obtain ⟨l', hl', wl⟩ := h.2.2.2.1
  rw [hl] at hl'
  cases hl'
  exact y_Office_pang qEx_ok h.1 h.2.1 wl.1 wl.2.1 hl h.2.2.1 (fun r  gq => hp r  gq)
theorem yx_town {p1 : Int32} {p2 : Int32} {p3 : Int32} (hA : ∀ i, R.2 i = true) {l : Nat} (hl : Rf o 1 = some l) (h : OI (qGG D cA b (qEx b kS vS xb xl xs)) R n sh Rf I o) (hp : ∀ (r : Int32) , (gOffice_town_0 o l (tI I) L (p1).toInt (p2).toInt (p3).toInt = r.toInt) → post (some (.int r)) (n, sh, Rf, I, L)) : Ev (qGG D cA b (qEx b kS vS xb xl xs)) mOffice_town 1 (0, 0) 0 (lv_args 0 [.ref o, .int p1, .int p2, .int p3]) [] (n, sh, Rf, I, L) post := by
  obtain ⟨l', hl', wl⟩ := h.2.2.2.1
  rw [hl] at hl'
  cases hl'
  exact y_Office_towng qEx_ok h.1 h.2.1 wl.1 wl.2.1 hl h.2.2.1 (fun r  gq => hp r  gq)
theorem yx_book {p1 : Int32} {p2 : Int32} {p3 : Int32} (hA : ∀ i, R.2 i = true) (h : OI (qGG D cA b (qEx b kS vS xb xl xs)) R n sh Rf I o) (hp : ∀ (r : Int64) , (gOffice_book_0 o (tI I) L (p1).toInt (p2).toInt (p3).toInt = r) → post (some (.long r)) (n, sh, Rf, I, L)) : Ev (qGG D cA b (qEx b kS vS xb xl xs)) mOffice_book 1 (0, 0) 0 (lv_args 0 [.ref o, .int p1, .int p2, .int p3]) [] (n, sh, Rf, I, L) post := by
  exact y_Office_bookg qEx_ok h.1 h.2.1 h.2.2.1 (fun r  gq => hp r  gq)
theorem yx_paper {p1 : Int32} {p2 : Int32} (hA : ∀ i, R.2 i = true) (h : OI (qGG D cA b (qEx b kS vS xb xl xs)) R n sh Rf I o) (hp : ∀ (r : Int32) , post (some (.int r)) (n, sh, Rf, I, L)) : Ev (qGG D cA b (qEx b kS vS xb xl xs)) mOffice_paper 1 (0, 0) 0 (lv_args 0 [.ref o, .int p1, .int p2]) [] (n, sh, Rf, I, L) post := by
  exact y_Office_paperl qEx_ok h.1 h.2.1 h.2.2.1 (fun r  => hp r )
theorem yx_way {p1 : Int32} {p2 : Int32} (hA : ∀ i, R.2 i = true) (h : OI (qGG D cA b (qEx b kS vS xb xl xs)) R n sh Rf I o) (hp : ∀ (r : Int64) (I' : Nat → Nat → Int32) (L' : Nat → Nat → Int64), OI (qGG D cA b (qEx b kS vS xb xl xs)) R n sh Rf I' o → Fm (fun c => c = o + 55 + 58 ∨ c = o + 55 + 59 ∨ (o + 55 + 19 ≤ c ∧ c < o + 55 + 24)) I I' → FmL (fun c => c = ((o + 55) + 58) ∨ c = (o + 55)) L L' → post (some (.long r)) (n, sh, Rf, I', L')) : Ev (qGG D cA b (qEx b kS vS xb xl xs)) mOffice_way 5 (0, 0) 0 (lv_args 0 [.ref o, .int p1, .int p2]) [] (n, sh, Rf, I, L) post := by
  obtain ⟨⟨ul, hul, wul, aul⟩, ⟨ut, hut, wut, aut⟩, _⟩ := h.2.2.2.2.2.2.2.1
  exact y_Office_wayl qEx_ok h.1 h.2.1 wul aul wut aut.1 hul hut qEx_EN h.2.2.1 (fun r I' L' hR hf   fl => hp r I' L'  (h.fm hR hf (fun c hc => by first | (dsimp only; omega) | omega) (h.tok hf (fun c hc => by first | (dsimp only; omega) | omega)) (h.fac hf (fun c hc => by first | (dsimp only; omega) | omega))) hf fl)
theorem yx_worth {p1 : Int32} (hA : ∀ i, R.2 i = true) {l : Nat} (hl : Rf o 1 = some l) (h : OI (qGG D cA b (qEx b kS vS xb xl xs)) R n sh Rf I o) (hp : ∀ (r : Int64) (L' : Nat → Nat → Int64), FmL (fun c => c = (o + 55)) L L' → post (some (.long r)) (n, sh, Rf, I, L')) : Ev (qGG D cA b (qEx b kS vS xb xl xs)) mOffice_worth 4 (0, 0) 0 (lv_args 0 [.ref o, .int p1]) [] (n, sh, Rf, I, L) post := by
  obtain ⟨l', hl', wl⟩ := h.2.2.2.1
  rw [hl] at hl'
  cases hl'
  obtain ⟨⟨ul, hul, wul, aul⟩, ⟨ut, hut, wut, aut⟩, _⟩ := h.2.2.2.2.2.2.2.1
  exact y_Office_worthl qEx_ok h.1 h.2.1 wl.1 wl.2.1 wul aul wut aut.1 hl hul hut qEx_EN h.2.2.1 (fun r L'  fl => hp r L'  fl)
theorem y_Run_playl {E : State → Prop} {r l0 l t q f : Nat} {p5 p6 : Int32} (hok : q_ok (qGG D cA b E)) (hw : WfRun (qGG D cA b E) n sh Rf r) (ra : RARun R r) (hl0 : Rf r 0 = some l0) (hwl0 : WfLand (qGG D cA b E) n sh Rf l0) (hwl : WfLand (qGG D cA b E) n sh Rf l) (ral : RALand R l) (hwt : WfTrade (qGG D cA b E) n sh Rf t) (rat : RATrade R t) (hwr : WfReform (qGG D cA b E) n sh Rf q) (rar : RAReform R q) (hwf : WfFacts (qGG D cA b E) n sh Rf f) (raf : RAFacts R f) (hEN : qEN E) (hs : f + 7 ≤ r) (hN : (0 : Int) ≤ p5.toInt ∧ p5.toInt ≤ 240) (hfa : FacOK I f) (hR : RI R I) (hp : ∀ Rf' I' L', RfR r Rf Rf' → Rf' r 0 = some l → Rf' r 1 = some t → RI R I' → Fm (fun c => c = r ∨ (r + 19 ≤ c ∧ c < r + 66)) I I' → (I' (r + 31) 13).toInt ≤ (I' (r + 31) 12).toInt → LodOK I' (r + 44) → FmL (fun c => c = ((r + 53) + 4) ∨ c = (r + 58) ∨ c = (r + 61) ∨ c = (r + 65) ∨ c = r) L L' → post none (n, sh, Rf', I', L')) : Ev (qGG D cA b E) mRun_play 6 (0, 0) 0 (lv_args 0 [.ref r, .ref l, .ref t, .ref q, .ref f, .int p5, .int p6]) [] (n, sh, Rf, I, L) post := by
  have hsh : sh r = .inr 7 := hw.1.2.2
  have e1 : RfR r Rf (q_u Rf r 0 (some l)) := RfR.u (by decide)
  have e2 : RfR r (q_u Rf r 0 (some l)) (q_u (q_u Rf r 0 (some l)) r 1 (some t)) := RfR.u (by decide)
  have e := e1.trans e2
  have q1 : q_u Rf r 0 (some l) r 0 = some l := q_u_at
  have q2 : q_u (q_u Rf r 0 (some l)) r 1 (some t) r 0 = some l := by rw [q_u_k (by decide)]; exact q1
  have q3 : q_u (q_u Rf r 0 (some l)) r 1 (some t) r 1 = some t := q_u_at
  refine sRun_play_0 r n sh Rf I L post l t q f p5 p6 l0 hok hw hwl hwt hwr hwf hl0 hwl0 ?_
  refine sRun_play_5 r n sh _ I L post l t q f p5 p6 l hok (wcRun hsh e1 hw) (wcLand hsh e1 hwl) (wcTrade hsh e1 hwt) (wcReform hsh e1 hwr) (wcFacts hsh e1 hwf) q1 (wcLand hsh e1 hwl) ?_
  exact y_Run_play_at10l hok (wcRun hsh e hw) ra (wcLand hsh e hwl) ral (wcTrade hsh e hwt) rat (wcReform hsh e hwr) rar (wcFacts hsh e hwf) raf (wcLand hsh e hwl) ral (wcTrade hsh e hwt) rat q2 q3 hEN hs hN hfa hR (fun I' L' r1 f1 u1 v1 z1 => hp _ I' L' e q2 q3 r1 f1 u1 v1 z1)
theorem yx_run {p1 p2 p3 : Int32} (h : OI (qGG D cA b (qEx b kS vS xb xl xs)) R n sh Rf I o) (hp : ∀ (r : Int32) (Rf' : Nat → Nat → Option Nat) (I' : Nat → Nat → Int32) (L' : Nat → Nat → Int64), OI (qGG D cA b (qEx b kS vS xb xl xs)) R n sh Rf' I' o → (∀ a, a ≠ o + 55 → Rf' a = Rf a) → Fm (fun c => c = o + 55 ∨ (o + 55 + 19 ≤ c ∧ c < o + 55 + 66)) I I' → FmL (fun c => c = (((o + 55) + 53) + 4) ∨ c = ((o + 55) + 58) ∨ c = ((o + 55) + 61) ∨ c = ((o + 55) + 65) ∨ c = (o + 55)) L L' → post (some (.int r)) (n, sh, Rf', I', L')) : Ev (qGG D cA b (qEx b kS vS xb xl xs)) mOffice_run 7 (0, 0) 0 (lv_args 0 [.ref o, .int p1, .int p2, .int p3]) [] (n, sh, Rf, I, L) post := by
  obtain ⟨l, hl, wl⟩ := h.2.2.2.1
  obtain ⟨⟨ul, hul, wul, aul⟩, _⟩ := h.2.2.2.2.2.2.2.1
  have no : post (some (.int (-1))) (n, sh, Rf, I, L) := hp _ Rf I L h (fun _ _ => rfl) Fm.rf FmL.rf
  have hs : sh (o + 55) = .inr 7 := (wsOffice_8 h.1).1.2.2
  refine sOffice_run_0 o n sh Rf I L post p1 p2 p3 l qEx_ok h.1 hl wl.1 (y_shelf (R := R) qEx_ok h.1 h.2.2.2.2.2.2.1 ⟨I, L, rfl, Or.inl ⟨rfl, no⟩⟩ (fun r wr => ⟨I, L, rfl, Or.inr ⟨r, rfl, wr.1, fun _ => no, fun h1 => ⟨fun h2 => ?_, fun _ => no⟩⟩⟩))
  have hN : (0 : Int) ≤ p2.toInt ∧ p2.toInt ≤ 240 := ⟨iNlt h1, iLe h2⟩
  refine y_Run_playl qEx_ok (wsOffice_8 h.1) (rsOffice_8 h.2.1) hul wul wl.1 wl.2.1 (wsOffice_5 h.1) (rsOffice_5 h.2.1) wr.1 wr.2.1 (wsOffice_6 h.1) (rsOffice_6 h.2.1) qEx_EN (by omega) hN h.2.2.2.2.2.2.2.2.2.2 h.2.2.1 (fun Rf' I' L' er e0 e1 hR hf qc lo fl => ⟨Rf', I', L', rfl, rfl, ?_⟩)
  have h' := h.play (Or.inl rfl) er wl e0 e1 hR hf qc lo
  refine sOffice_run_48 o n sh Rf' I' L' post p1 p2 p3 r l qEx_ok h'.1 (wcReform hs er wr.1) (by rw [er.1 o (by omega)]; exact hl) (wcLand hs er wl.1) ?_
  exact hp _ Rf' I' L' h' (fun a ha => er.1 a ha) hf fl
theorem yx_judge {p1 p2 p3 p4 : Int32} (h : OI (qGG D cA b (qEx b kS vS xb xl xs)) R n sh Rf I o) (hp : ∀ (r : Int32) (Rf' : Nat → Nat → Option Nat) (I' : Nat → Nat → Int32) (L' : Nat → Nat → Int64), OI (qGG D cA b (qEx b kS vS xb xl xs)) R n sh Rf' I' o → (∀ a, a ≠ o + 121 → Rf' a = Rf a) → Fm (fun c => c = o + 121 ∨ (o + 121 + 19 ≤ c ∧ c < o + 121 + 66)) I I' → FmL (fun c => c = (((o + 121) + 53) + 4) ∨ c = ((o + 121) + 58) ∨ c = ((o + 121) + 61) ∨ c = ((o + 121) + 65) ∨ c = (o + 121)) L L' → post (some (.int r)) (n, sh, Rf', I', L')) : Ev (qGG D cA b (qEx b kS vS xb xl xs)) mOffice_judge 7 (0, 0) 0 (lv_args 0 [.ref o, .int p1, .int p2, .int p3, .int p4]) [] (n, sh, Rf, I, L) post := by
  obtain ⟨l, hl, wl⟩ := h.2.2.2.1
  obtain ⟨⟨ul, hul, wul, aul⟩, _⟩ := h.2.2.2.2.2.2.2.2.1
  have no : post (some (.int (-1))) (n, sh, Rf, I, L) := hp _ Rf I L h (fun _ _ => rfl) Fm.rf FmL.rf
  have hs : sh (o + 121) = .inr 7 := (wsOffice_9 h.1).1.2.2
  have sh1 := h.2.2.2.2.2.2.1
  refine sOffice_judge_0 o n sh Rf I L post p1 p2 p3 p4 l qEx_ok h.1 hl wl.1 (y_shelf (R := R) qEx_ok h.1 sh1 ⟨I, L, rfl, Or.inl ⟨rfl, y_shelf (R := R) qEx_ok h.1 sh1 ⟨I, L, rfl, Or.inl ⟨rfl, no⟩⟩ (fun r wr => ⟨I, L, rfl, Or.inr ⟨r, rfl, wr.1, no⟩⟩)⟩⟩ (fun r wr => ⟨I, L, rfl, Or.inr ⟨r, rfl, wr.1, y_shelf (R := R) qEx_ok h.1 sh1 ⟨I, L, rfl, Or.inl ⟨rfl, no⟩⟩ (fun r2 wr2 => ⟨I, L, rfl, Or.inr ⟨r2, rfl, wr2.1, fun _ => no, fun h1 => ⟨fun h2 => ?_, fun _ => no⟩⟩⟩)⟩⟩))
  have hN : (0 : Int) ≤ p3.toInt ∧ p3.toInt ≤ 240 := ⟨iNlt h1, iLe h2⟩
  refine y_Run_playl qEx_ok (wsOffice_9 h.1) (rsOffice_9 h.2.1) hul wul wl.1 wl.2.1 (wsOffice_5 h.1) (rsOffice_5 h.2.1) wr.1 wr.2.1 (wsOffice_6 h.1) (rsOffice_6 h.2.1) qEx_EN (by omega) hN h.2.2.2.2.2.2.2.2.2.2 h.2.2.1 (fun R1 I1 L1 er e0 e1 hR hf qc lo fl => ⟨R1, I1, L1, rfl, rfl, ?_⟩)
  have h' := h.play (Or.inr rfl) er wl e0 e1 hR hf qc lo
  have hl1 : R1 o 1 = some l := by rw [er.1 o (by omega)]; exact hl
  have wl1 : LaOK (qGG D cA b (qEx b kS vS xb xl xs)) R n sh R1 o l := wl.rf (wcLand hs er)
  refine sOffice_judge_61 o n sh R1 I1 L1 post p1 p2 p3 p4 r r2 l qEx_ok h'.1 (wcReform hs er wr.1) (wcReform hs er wr2.1) hl1 wl1.1 ?_
  unfold fOffice_judge_61
  refine y_Run_playl qEx_ok (wsOffice_9 h'.1) (rsOffice_9 h'.2.1) e0 wl1.1 wl1.1 wl1.2.1 (wsOffice_5 h'.1) (rsOffice_5 h'.2.1) (wcReform hs er wr2.1) wr2.2.1 (wsOffice_6 h'.1) (rsOffice_6 h'.2.1) qEx_EN (by omega) hN h'.2.2.2.2.2.2.2.2.2.2 h'.2.2.1 (fun R2 I2 L2 er2 f0 f1 hR2 hf2 qc2 lo2 fl2 => ⟨R2, I2, L2, rfl, rfl, ?_⟩)
  have h2' := h'.play (Or.inr rfl) er2 wl1 f0 f1 hR2 hf2 qc2 lo2
  have fin : ∀ r, post (some (.int r)) (n, sh, R2, I2, L2) := fun r => hp r R2 I2 L2 h2' (fun a ha => (er2.1 a ha).trans (er.1 a ha)) (hf.call hf2 (fun c hc => hc)) (fl.call fl2 (fun c hc => hc))
  refine sOffice_judge_131 o n sh R2 I2 L2 post p1 p2 p3 p4 r r2 _ _ _ _ l qEx_ok h2'.1 (wcReform hs er2 (wcReform hs er wr.1)) (wcReform hs er2 (wcReform hs er wr2.1)) (by rw [er2.1 o (by omega)]; exact hl1) (wcLand hs er2 wl1.1) ?_
  unfold fOffice_judge_131
  have tail : ∀ (x7 x9 x11 x13 : Int64) (z : Int32), fOffice_judge_181 D cA b (qEx b kS vS xb xl xs) o n sh R2 I2 L2 post p1 p2 p3 p4 r r2 x7 x9 x11 x13 z l := by
    intro x7 x9 x11 x13 z
    unfold fOffice_judge_181
    exact ⟨fun _ => ⟨fun _ => ⟨fun _ => fin _, fun _ => fin _⟩, fun _ => fin _⟩, fun _ => y_cmp (R := R) qEx_ok hR2 (fun z => ⟨z, I2, L2, rfl, rfl, fun _ => ⟨fun _ => fin _, fun _ => fin _⟩, fun _ => fin _⟩)⟩
  refine y_cmp (R := R) qEx_ok hR2 (fun z => ⟨z, I2, L2, rfl, rfl, fun _ => tail _ _ _ _ _, fun _ => ?_⟩)
  exact y_Office_compareWaits (R := R) qEx_ok hR2 (fun z => ⟨z, I2, L2, rfl, rfl, tail _ _ _ _ _⟩)
theorem yx_land (hA : ∀ i, R.2 i = true) {l1 l2 : Nat} (a1 : Rf o 1 = some l1) (a2 : Rf o 2 = some l2) (h : OI (qGG D cA b (qEx b kS vS xb xl xs)) R n sh Rf I o) (hb : ∀ (r : Int32) (I1 I2 : Nat → Nat → Int32) (L1 : Nat → Nat → Int64), Fm (fun c => (l2 ≤ c ∧ c < l2 + 16) ∨ (o + 1 ≤ c ∧ c < o + 1 + 7)) I I1 → gLand_read_0 l2 (o + 1) (tI I) L = (r.toInt, tI I1, L1) → r = 0 → q_u I1 (o + 1) 6 0 = I2 → OI (qGG D cA b (qEx b kS vS xb xl xs)) R n sh Rf I2 o → Fm (fun c => (l2 ≤ c ∧ c < l2 + 16) ∨ (o + 1 ≤ c ∧ c < o + 1 + 7)) I I2 → post (some (.int (-1))) (n, sh, Rf, I2, L1)) (hg : ∀ (r : Int32) (I1 I2 I3 I4 : Nat → Nat → Int32) (L1 : Nat → Nat → Int64), Fm (fun c => (l2 ≤ c ∧ c < l2 + 16) ∨ (o + 1 ≤ c ∧ c < o + 1 + 7)) I I1 → gLand_read_0 l2 (o + 1) (tI I) L = (r.toInt, tI I1, L1) → ¬ r = 0 → q_u I1 (o + 1) 6 0 = I2 → q_u I2 (o + 48) 6 0 = I3 → q_u I3 (o + 55) 15 0 = I4 → OI (qGG D cA b (qEx b kS vS xb xl xs)) R n sh (q_u (q_u Rf o 1 (some l2)) o 2 (some l1)) I4 o → Fm (fun c => (l2 ≤ c ∧ c < l2 + 16) ∨ (o + 1 ≤ c ∧ c < o + 1 + 7) ∨ c = o + 48 ∨ c = o + 55) I I4 → post (some (.int (((I4 l2 0 + I4 l2 1) + I4 l2 2) + I4 l2 3))) (n, sh, q_u (q_u Rf o 1 (some l2)) o 2 (some l1), I4, L1)) : Ev (qGG D cA b (qEx b kS vS xb xl xs)) mOffice_land 11 (0, 0) 0 (lv_args 0 [.ref o]) [] (n, sh, Rf, I, L) post := by
  have hz3 : R.2 3 = true := hA 3
  obtain ⟨l1', a1', b1⟩ := h.2.2.2.1
  rw [a1] at a1'
  cases a1'
  obtain ⟨l2', a2', b2⟩ := h.2.2.2.2.1
  rw [a2] at a2'
  cases a2'
  have hs : sh o = .inr 11 := h.1.1.2.2
  have z0 : (0 : Int32).toInt = 0 := rfl
  have lo2 := b2.2.2
  refine sOffice_land_0 o n sh Rf I L post l2 l1 qEx_ok h.1 a2 b2.1 a1 b1.1 (y_Land_readg qEx_ok b2.1 b2.2.1 (wsOffice_0 h.1) (rsOffice_0 h.2.1) (by omega) h.2.2.2.2.2.2.2.2.2.1 h.2.2.1 (fun r I1 L1 hR1 hf1 _ tk1 gq fl => ⟨r, I1, L1, rfl, rfl, fun I2 e2 => ?_⟩))
  have hR2 : RI R I2 := hR1.up0 (rsOffice_0 h.2.1) (by decide) (Or.inr (by exact hz3)) e2 (show (0 : Int) ≤ (0 : Int32).toInt by omega) (show (0 : Int32).toInt ≤ (1600 : Int) by omega)
  have hf2 : Fm (fun c => (l2 ≤ c ∧ c < l2 + 16) ∨ (o + 1 ≤ c ∧ c < o + 1 + 7)) I I2 := hf1.set (by first | (dsimp only; omega) | omega) e2
  have tk2 : TokOK I2 (o + 1) := tk1.fr (by rw [← e2]; exact q_u_ne (by omega)) (by rw [← e2]; exact q_u_ne (by omega))
  have h2 : OI (qGG D cA b (qEx b kS vS xb xl xs)) R n sh Rf I2 o := h.fm hR2 hf2 (fun c hc => by first | (dsimp only; omega) | omega) tk2 (h.fac hf2 (fun c hc => by first | (dsimp only; omega) | omega))
  refine ⟨fun hr => ?_, fun hr => hb r I1 I2 L1 hf1 gq hr e2 h2 hf2⟩
  have e1 : Eo sh Rf (q_u Rf o 1 (some l2)) := Eo.o hs
  have w1 := wgOffice e1 (fun k k1 _ _ => q_u_k k1) h.1
  have e2' : Eo sh (q_u Rf o 1 (some l2)) (q_u (q_u Rf o 1 (some l2)) o 2 (some l1)) := Eo.o hs
  have w2 := wgOffice e2' (fun k _ k2 _ => q_u_k k2) w1
  refine sOffice_land_39 o n sh _ I2 L1 post r l1 l2 l2 qEx_ok w1 (wgLand e1 b1.1) (by rw [q_u_k (by decide)]; exact a2) (wgLand e1 b2.1) q_u_at (wgLand e1 b2.1) ?_
  refine sOffice_land_44 o n sh _ I2 L1 post r l1 l1 l2 qEx_ok w2 (wgLand e2' (wgLand e1 b1.1)) q_u_at (wgLand e2' (wgLand e1 b1.1)) (by rw [q_u_k (by decide)]; exact q_u_at) (wgLand e2' (wgLand e1 b2.1)) (fun I3 e3 I4 e4 => ?_)
  have hR3 : RI R I3 := hR2.up0 (rsOffice_6 h.2.1) (by decide) (Or.inl rfl) e3 (show (0 : Int) ≤ (0 : Int32).toInt by omega) (show (0 : Int32).toInt ≤ (40 : Int) by omega)
  have hR4 : RI R I4 := hR3.up0 (rsOffice_8 h.2.1) (by decide) (Or.inl rfl) e4 (i_lo _) (i_hi _)
  have f4 : Fm (fun c => c = o + 48 ∨ c = o + 55) I2 I4 := ((Fm.rf (M := fun c => c = o + 48 ∨ c = o + 55)).set (Or.inl rfl) e3).set (Or.inr rfl) e4
  have fa : FacOK I4 (o + 48) := fun j hj => absurd hj (by
    have q : I4 (o + 48) 6 = 0 := by rw [← e4, q_u_ne (by omega), ← e3, q_u_at]
    rw [q]
    omega)
  have h3 : OI (qGG D cA b (qEx b kS vS xb xl xs)) R n sh (q_u (q_u Rf o 1 (some l2)) o 2 (some l1)) I2 o := h2.own (e1.trans e2') (fun k k1 k2 _ => by rw [q_u_k k2, q_u_k k1]) ⟨l2, by rw [q_u_k (by decide)]; exact q_u_at, b2⟩ ⟨l1, q_u_at, b1⟩ (by rw [q_u_k (by decide), q_u_k (by decide)]; exact h.2.2.2.2.2.1) (fun i hi => by rw [q_u_ne (show o + 40 ≠ o by omega), q_u_ne (show o + 40 ≠ o by omega)]; exact h.2.2.2.2.2.2.1 i hi)
  have h4 : OI (qGG D cA b (qEx b kS vS xb xl xs)) R n sh (q_u (q_u Rf o 1 (some l2)) o 2 (some l1)) I4 o := h3.fm hR4 f4 (fun c hc => by first | (dsimp only; omega) | omega) (h3.tok f4 (fun c hc => by first | (dsimp only; omega) | omega)) fa
  exact hg r I1 I2 I3 I4 L1 hf1 gq hr e2 e3 e4 h4 (fun c hc => (f4 c (fun q => hc (by rcases q with q | q; exact Or.inr (Or.inr (Or.inl q)); exact Or.inr (Or.inr (Or.inr q))))).trans (hf2 c (fun q => hc (by rcases q with q | q; exact Or.inl q; exact Or.inr (Or.inl q)))))
theorem yx_reform {p1 : Int32} (hA : ∀ i, R.2 i = true) (h : OI (qGG D cA b (qEx b kS vS xb xl xs)) R n sh Rf I o) (hp : ∀ (r : Int32) (Rf' : Nat → Nat → Option Nat) (I' : Nat → Nat → Int32) (L' : Nat → Nat → Int64), OI (qGG D cA b (qEx b kS vS xb xl xs)) R n sh Rf' I' o → ((¬ ((I (o + 1) 6).toInt ≤ 700 ∧ 0 ≤ p1.toInt ∧ p1.toInt ≤ 3) ∧ I' = I) ∨ (((I (o + 1) 6).toInt ≤ 700 ∧ 0 ≤ p1.toInt ∧ p1.toInt ≤ 3) ∧ (I' (o + 1) 6).toInt = 0)) → (∀ k, k ≠ 4 → Rf' o k = Rf o k) → (∀ a, a ≠ o → a ≠ o + 40 → Rf' a = Rf a) → Fm (fun c => (o + 1 ≤ c ∧ c < o + 8) ∨ (o + 41 ≤ c ∧ c < o + 46) ∨ (o + 187 ≤ c ∧ c < o + 207)) I I' → FmL (fun c => c = o + 7) L L' → post (some (.int r)) (n, sh, Rf', I', L')) : Ev (qGG D cA b (qEx b kS vS xb xl xs)) mOffice_reform 103 (0, 0) 0 (lv_args 0 [.ref o, .int p1]) [] (n, sh, Rf, I, L) post := by
  have hz3 : R.2 3 = true := hA 3
  obtain ⟨r4, a4, b4⟩ := h.2.2.2.2.2.1
  have hs : sh o = .inr 11 := h.1.1.2.2
  have ha : sh (o + 40) = .inl (.object "SaltOffice$Reform", 4) := (waOffice_3 (I := I) (L := L) h.1).2.2
  have no : ¬ ((I (o + 1) 6).toInt ≤ 700 ∧ 0 ≤ p1.toInt ∧ p1.toInt ≤ 3) → post (some (.int (-2))) (n, sh, Rf, I, L) := fun q => hp _ Rf I L h (Or.inl ⟨q, rfl⟩) (fun _ _ => rfl) (fun _ _ _ => rfl) Fm.rf FmL.rf
  have z7 : (700 : Int32).toInt = 700 := rfl
  have z0 : (0 : Int32).toInt = 0 := rfl
  have z4 : (4 : Int32).toInt = 4 := rfl
  have pos := b4.2.2
  refine sOffice_reform_0 o n sh Rf I L post p1 r4 qEx_ok h.1 a4 b4.1 ⟨fun c => no (by have q := iLt c; omega), fun h0 => ⟨fun c => no (by have q := iLe c; omega), fun h1 => ⟨fun h7 => ?_, fun c => no (by have q := iNle c; omega)⟩⟩⟩
  have g0 := iNlt h0
  have g1 := iNle h1
  have cl := tCl (x := p1) (by omega)
  have vin : vp_in p1 4 := tIn (by omega) (by omega)
  obtain ⟨rs, as, bs⟩ := h.2.2.2.2.2.2.1 p1.toNatClampNeg (by omega)
  refine y_Reform_readl qEx_ok b4.1 b4.2.1 (wsOffice_0 h.1) (rsOffice_0 h.2.1) (by omega) h.2.2.2.2.2.2.2.2.2.1 h.2.2.1 (fun r I1 L1 hR1 hf1 _ tk1 fl => ⟨r, I1, L1, rfl, rfl, fun I2 e2 => ?_⟩)
  have hR2 : RI R I2 := hR1.up0 (rsOffice_0 h.2.1) (by decide) (Or.inr (by exact hz3)) e2 (show (0 : Int) ≤ (0 : Int32).toInt by omega) (show (0 : Int32).toInt ≤ (1600 : Int) by omega)
  have g7 := iLe h7
  have z2 : (I2 (o + 1) 6).toInt = 0 := by rw [← e2, q_u_at]; rfl
  have fl2 : FmL (fun c => c = o + 7) L L1 := fun c hc => fl c hc
  have hf2 : Fm (fun c => (r4 ≤ c ∧ c < r4 + 5) ∨ (o + 1 ≤ c ∧ c < o + 1 + 7)) I I2 := hf1.set (by first | (dsimp only; omega) | omega) e2
  have tk2 : TokOK I2 (o + 1) := tk1.fr (by rw [← e2]; exact q_u_ne (by omega)) (by rw [← e2]; exact q_u_ne (by omega))
  have hf3 : Fm (fun c => (o + 1 ≤ c ∧ c < o + 8) ∨ (o + 41 ≤ c ∧ c < o + 46) ∨ (o + 187 ≤ c ∧ c < o + 207)) I I2 := fun c hc => hf2 c (fun q => hc (by rcases pos with z | z <;> omega))
  have h2 : OI (qGG D cA b (qEx b kS vS xb xl xs)) R n sh Rf I2 o := h.fm hR2 hf2 (fun c hc => by first | (dsimp only; omega) | omega) tk2 (h.fac hf2 (fun c hc => by first | (dsimp only; omega) | omega))
  refine ⟨fun _ => ⟨vin, rs, as, bs.1, vin, ?_⟩, fun _ => hp _ Rf I2 L1 h2 (Or.inr ⟨by omega, z2⟩) (fun _ _ => rfl) (fun _ _ _ => rfl) hf3 fl2⟩
  have e1 : Eo sh Rf (q_u Rf (o + 40) p1.toNatClampNeg (some r4)) := Eo.a ha
  have w1 := wgOffice e1 (fun k _ _ _ => by rw [q_u_ne (show o ≠ o + 40 by omega)]) h.1
  have e2' : Eo sh (q_u Rf (o + 40) p1.toNatClampNeg (some r4)) (q_u (q_u Rf (o + 40) p1.toNatClampNeg (some r4)) o 4 (some rs)) := Eo.o hs
  have w2 := wgOffice e2' (fun k _ _ k4 => q_u_k k4) w1
  refine sOffice_reform_77 o n sh _ I2 L1 post p1 r _ rs r4 qEx_ok w1 (wgReform e1 bs.1) (by rw [q_u_ne (show o ≠ o + 40 by omega)]; exact a4) (wgReform e1 b4.1) ?_
  refine sOffice_reform_83 o n sh _ I2 L1 post p1 r _ rs rs qEx_ok w2 (wgReform e2' (wgReform e1 bs.1)) q_u_at (wgReform e2' (wgReform e1 bs.1)) ?_
  have h3 : OI (qGG D cA b (qEx b kS vS xb xl xs)) R n sh (q_u (q_u Rf (o + 40) p1.toNatClampNeg (some r4)) o 4 (some rs)) I2 o := h2.own (e1.trans e2') (fun k k1 k2 k4 => by rw [q_u_k k4, q_u_ne (show o ≠ o + 40 by omega)]) (by rw [q_u_k (by decide), q_u_ne (show o ≠ o + 40 by omega)]; exact h.2.2.2.1) (by rw [q_u_k (by decide), q_u_ne (show o ≠ o + 40 by omega)]; exact h.2.2.2.2.1) ⟨rs, q_u_at, bs⟩ (fun i hi => by
    rw [q_u_ne (show o + 40 ≠ o by omega)]
    by_cases hi' : i = p1.toNatClampNeg
    · subst hi'; exact ⟨r4, q_u_at, b4⟩
    · rw [q_u_k hi']; exact h.2.2.2.2.2.2.1 i hi)
  exact hp _ _ I2 L1 h3 (Or.inr ⟨by omega, z2⟩) (fun k hk => by rw [q_u_k hk, q_u_ne (show o ≠ o + 40 by omega)]) (fun a h1 h2 => by rw [q_u_ne h1, q_u_ne h2]) hf3 fl2
theorem yx_about {p1 : Int32} (h : OI (qGG D cA b (qEx b kS vS xb xl xs)) R n sh Rf I o) (hp : ∀ r : Int32, post (some (.int r)) (n, sh, Rf, I, L)) : Ev (qGG D cA b (qEx b kS vS xb xl xs)) mOffice_about 1 (0, 0) 0 (lv_args 0 [.ref o, .int p1]) [] (n, sh, Rf, I, L) post := by
  obtain ⟨l, hl, wl⟩ := h.2.2.2.1
  have no : ∀ r : Int32, post (some (.int r)) (n, sh, Rf, I, L) := fun r => hp r
  refine sOffice_about_0 o n sh Rf I L post p1 l qEx_ok h.1 hl wl.1 ?_
  unfold fOffice_about_0
  refine ⟨fun _ => no _, fun _ => ⟨fun _ => no _, fun _ => ⟨fun _ => no _, fun _ => ⟨fun _ => no _, fun _ => ⟨fun _ => no _, fun _ => ⟨fun _ => no _, fun _ => ⟨fun _ => no _, fun _ => ⟨fun _ => no _, fun _ => ⟨fun _ => ?_, fun _ => no _⟩⟩⟩⟩⟩⟩⟩⟩⟩
  exact y_shelf (R := R) qEx_ok h.1 h.2.2.2.2.2.2.1 ⟨I, L, rfl, Or.inl ⟨rfl, no _⟩⟩ (fun r wr => ⟨I, L, rfl, Or.inr ⟨r, rfl, wr.1, no _⟩⟩)
end XC
