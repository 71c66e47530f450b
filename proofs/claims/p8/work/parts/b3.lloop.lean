/-! The law, call by call. By program (law9.py). -/
section LP
variable {D : va_G} {cA : FieldType → ClassId} {b : Nat} {kS vS : Nat → Nat} {xb xl : Nat} {xs : Nat → Int32} {n : Nat} {sh : Nat → qC} {Rf Rf' : Nat → Nat → Option Nat} {I I' : Nat → Nat → Int32} {L : Nat → Nat → Int64} {post : Option Value → qS → Prop} {ox om q : Nat} {R : qRg}
theorem OI.mv {G : qG} (h : OI G R n sh Rf I ox) (hR : RI R I') (e : ∀ a, a < ox + 207 → I' a = I a) : OI G R n sh Rf I' ox := by
  have hf : Fm (fun c => ox + 207 ≤ c) I I' := fun c hc => e c (Nat.lt_of_not_le hc)
  exact h.fm hR hf (fun c hc => by first | omega | (dsimp only; omega)) (h.tok hf (fun c hc => by first | omega | (dsimp only; omega))) (h.fac hf (fun c hc => by first | omega | (dsimp only; omega)))
theorem lf_x (h : OI (qGG D cA b (qEx b kS vS xb xl xs)) R n sh Rf I ox) : b ≤ ox ∧ ox < b + n ∧ sh ox = .inr 11 := ⟨h.1.1.1, by have : ox + 186 < b + n := h.1.1.2.1; omega, h.1.1.2.2⟩
theorem lf_m (h : MI (qGG D cA b (qEx b kS vS xb xl xs)) R n sh Rf I om) : b ≤ om ∧ om < b + n ∧ sh om = .inr 12 := ⟨h.1.1.1, by have : om + 101 < b + n := h.1.1.2.1; omega, h.1.1.2.2⟩
set_option maxHeartbeats 1000000 in
theorem lf_feed (hq : q + 6 ≤ xl) (hxl : xl < 2 ^ 31) (hA : ∀ j, R.2 j = true) (hX : OI (qGG D cA b (qEx b kS vS xb xl xs)) R n sh Rf I ox) (hM : MI (qGG D cA b (qEx b kS vS xb xl xs)) R n sh Rf I om) (ho : om = ox + 207) (hr : (I (ox + 46) 1).toInt = (I om 66).toInt) (kk : ∀ Rf I L, (I (ox + 46) 1).toInt = (I om 66).toInt → OI (qGG D cA b (qEx b kS vS xb xl xs)) R n sh Rf I ox → MI (qGG D cA b (qEx b kS vS xb xl xs)) R n sh Rf I om → Ev (qGG D cA b (qEx b kS vS xb xl xs)) mLaw 110 (0, 0) 976 (lwL xb ox om q) [] (n, sh, Rf, I, L) post) : Ev (qGG D cA b (qEx b kS vS xb xl xs)) mLaw 110 (0, 0) 144 (lwL xb ox om q) [] (n, sh, Rf, I, L) post := by
  refine lw_feed hq hxl (lf_x hX) (lf_m hM) (ev_deep (by decide) (yk_feed hA hX (fun r Rf' I' L' ek hX' e => ⟨r, Rf', I', L', rfl, rfl, ?_⟩)))
  have hM' : MI (qGG D cA b (qEx b kS vS xb xl xs)) R n sh Rf' I' om := hM.up hX'.2.2.1 (fun a ha => e a (by omega))
  have em : I' om = I om := (e om (by omega)).2
  exact ev_deep (by decide) (ym_feed qEx_ok hA hM' (fun r2 I2 L2 mi f2 kp  => ⟨r2, Rf', I2, L2, rfl, rfl, kk _ _ _ (by rw [f2 _ (by omega), kp 66 rfl, ek, em]; exact hr) (hX'.mv mi.2.2.1 (fun a ha => f2 a (by omega))) mi⟩))
set_option maxHeartbeats 1000000 in
theorem lf_end (hq : q + 6 ≤ xl) (hxl : xl < 2 ^ 31) (hA : ∀ j, R.2 j = true) (hX : OI (qGG D cA b (qEx b kS vS xb xl xs)) R n sh Rf I ox) (hM : MI (qGG D cA b (qEx b kS vS xb xl xs)) R n sh Rf I om) (ho : om = ox + 207) (hr : (I (ox + 46) 1).toInt = (I om 66).toInt) (kk : ∀ Rf I L, (I (ox + 46) 1).toInt = (I om 66).toInt → OI (qGG D cA b (qEx b kS vS xb xl xs)) R n sh Rf I ox → MI (qGG D cA b (qEx b kS vS xb xl xs)) R n sh Rf I om → Ev (qGG D cA b (qEx b kS vS xb xl xs)) mLaw 110 (0, 0) 976 (lwL xb ox om q) [] (n, sh, Rf, I, L) post) : Ev (qGG D cA b (qEx b kS vS xb xl xs)) mLaw 110 (0, 0) 207 (lwL xb ox om q) [] (n, sh, Rf, I, L) post := by
  refine lw_end hq hxl (lf_x hX) (lf_m hM) (ev_deep (by decide) (yk_end hA hX (fun r Rf' I' L' ek hX' e => ⟨r, Rf', I', L', rfl, rfl, ?_⟩)))
  have hM' : MI (qGG D cA b (qEx b kS vS xb xl xs)) R n sh Rf' I' om := hM.up hX'.2.2.1 (fun a ha => e a (by omega))
  have em : I' om = I om := (e om (by omega)).2
  exact ev_deep (by decide) (ym_end qEx_ok hA hM' (fun r2 I2 L2 mi f2 kp  => ⟨r2, Rf', I2, L2, rfl, rfl, kk _ _ _ (by rw [f2 _ (by omega), kp 66 rfl, ek, em]; exact hr) (hX'.mv mi.2.2.1 (fun a ha => f2 a (by omega))) mi⟩))
set_option maxHeartbeats 1000000 in
theorem lf_land (hq : q + 6 ≤ xl) (hxl : xl < 2 ^ 31) (hA : ∀ j, R.2 j = true) (hX : OI (qGG D cA b (qEx b kS vS xb xl xs)) R n sh Rf I ox) (hM : MI (qGG D cA b (qEx b kS vS xb xl xs)) R n sh Rf I om) (ho : om = ox + 207) (hr : (I (ox + 46) 1).toInt = (I om 66).toInt) (kk : ∀ Rf I L, (I (ox + 46) 1).toInt = (I om 66).toInt → OI (qGG D cA b (qEx b kS vS xb xl xs)) R n sh Rf I ox → MI (qGG D cA b (qEx b kS vS xb xl xs)) R n sh Rf I om → Ev (qGG D cA b (qEx b kS vS xb xl xs)) mLaw 110 (0, 0) 976 (lwL xb ox om q) [] (n, sh, Rf, I, L) post) : Ev (qGG D cA b (qEx b kS vS xb xl xs)) mLaw 110 (0, 0) 230 (lwL xb ox om q) [] (n, sh, Rf, I, L) post := by
  refine lw_land hq hxl (lf_x hX) (lf_m hM) (ev_deep (by decide) (yk_land hA hX (fun r Rf' I' L' ek hX' e => ⟨r, Rf', I', L', rfl, rfl, ?_⟩)))
  have hM' : MI (qGG D cA b (qEx b kS vS xb xl xs)) R n sh Rf' I' om := hM.up hX'.2.2.1 (fun a ha => e a (by omega))
  have em : I' om = I om := (e om (by omega)).2
  exact ev_deep (by decide) (ym_land qEx_ok hA hM' (fun r2 I2 L2 mi f2 kp u0 => ⟨r2, Rf', I2, L2, rfl, rfl, kk _ _ _ (by rw [f2 _ (by omega), kp 66 rfl, ek, em]; exact hr) (hX'.mv mi.2.2.1 (fun a ha => f2 a (by omega))) mi⟩))
set_option maxHeartbeats 1000000 in
theorem lf_reform (hq : q + 6 ≤ xl) (hxl : xl < 2 ^ 31) (hA : ∀ j, R.2 j = true) (hX : OI (qGG D cA b (qEx b kS vS xb xl xs)) R n sh Rf I ox) (hM : MI (qGG D cA b (qEx b kS vS xb xl xs)) R n sh Rf I om) (ho : om = ox + 207) (hr : (I (ox + 46) 1).toInt = (I om 66).toInt) (kk : ∀ Rf I L, (I (ox + 46) 1).toInt = (I om 66).toInt → OI (qGG D cA b (qEx b kS vS xb xl xs)) R n sh Rf I ox → MI (qGG D cA b (qEx b kS vS xb xl xs)) R n sh Rf I om → Ev (qGG D cA b (qEx b kS vS xb xl xs)) mLaw 110 (0, 0) 976 (lwL xb ox om q) [] (n, sh, Rf, I, L) post) : Ev (qGG D cA b (qEx b kS vS xb xl xs)) mLaw 110 (0, 0) 243 (lwL xb ox om q) [] (n, sh, Rf, I, L) post := by
  refine lw_reform hq hxl (lf_x hX) (lf_m hM) (ev_deep (by decide) (yk_reform hA hX (fun r Rf' I' L' ek hX' e => ⟨r, Rf', I', L', rfl, rfl, ?_⟩)))
  have hM' : MI (qGG D cA b (qEx b kS vS xb xl xs)) R n sh Rf' I' om := hM.up hX'.2.2.1 (fun a ha => e a (by omega))
  have em : I' om = I om := (e om (by omega)).2
  exact ev_deep (by decide) (ym_reform qEx_ok hA hM' (fun r2 I2 L2 mi f2 kp u0 u1 => ⟨r2, Rf', I2, L2, rfl, rfl, kk _ _ _ (by rw [f2 _ (by omega), kp 66 rfl, ek, em]; exact hr) (hX'.mv mi.2.2.1 (fun a ha => f2 a (by omega))) mi⟩))
set_option maxHeartbeats 1000000 in
theorem lf_fault (hq : q + 6 ≤ xl) (hxl : xl < 2 ^ 31) (hA : ∀ j, R.2 j = true) (hX : OI (qGG D cA b (qEx b kS vS xb xl xs)) R n sh Rf I ox) (hM : MI (qGG D cA b (qEx b kS vS xb xl xs)) R n sh Rf I om) (ho : om = ox + 207) (hr : (I (ox + 46) 1).toInt = (I om 66).toInt) (kk : ∀ Rf I L, (I (ox + 46) 1).toInt = (I om 66).toInt → OI (qGG D cA b (qEx b kS vS xb xl xs)) R n sh Rf I ox → MI (qGG D cA b (qEx b kS vS xb xl xs)) R n sh Rf I om → Ev (qGG D cA b (qEx b kS vS xb xl xs)) mLaw 110 (0, 0) 976 (lwL xb ox om q) [] (n, sh, Rf, I, L) post) : Ev (qGG D cA b (qEx b kS vS xb xl xs)) mLaw 110 (0, 0) 266 (lwL xb ox om q) [] (n, sh, Rf, I, L) post := by
  refine lw_fault hq hxl (lf_x hX) (lf_m hM) (ev_deep (by decide) (yk_fault hA hX (fun r Rf' I' L' ek hX' e => ⟨r, Rf', I', L', rfl, rfl, ?_⟩)))
  have hM' : MI (qGG D cA b (qEx b kS vS xb xl xs)) R n sh Rf' I' om := hM.up hX'.2.2.1 (fun a ha => e a (by omega))
  have em : I' om = I om := (e om (by omega)).2
  exact ev_deep (by decide) (ym_fault qEx_ok hA hM' (fun r2 L2  => ⟨r2, Rf', I', L2, rfl, rfl, kk _ _ _ (by rw [ek, em]; exact hr) hX' hM'⟩))
set_option maxHeartbeats 1000000 in
theorem lf_days (hq : q + 6 ≤ xl) (hxl : xl < 2 ^ 31) (hA : ∀ j, R.2 j = true) (hX : OI (qGG D cA b (qEx b kS vS xb xl xs)) R n sh Rf I ox) (hM : MI (qGG D cA b (qEx b kS vS xb xl xs)) R n sh Rf I om) (ho : om = ox + 207) (hr : (I (ox + 46) 1).toInt = (I om 66).toInt) (kk : ∀ Rf I L, (I (ox + 46) 1).toInt = (I om 66).toInt → OI (qGG D cA b (qEx b kS vS xb xl xs)) R n sh Rf I ox → MI (qGG D cA b (qEx b kS vS xb xl xs)) R n sh Rf I om → Ev (qGG D cA b (qEx b kS vS xb xl xs)) mLaw 110 (0, 0) 976 (lwL xb ox om q) [] (n, sh, Rf, I, L) post) : Ev (qGG D cA b (qEx b kS vS xb xl xs)) mLaw 110 (0, 0) 289 (lwL xb ox om q) [] (n, sh, Rf, I, L) post := by
  refine lw_days hq hxl (lf_x hX) (lf_m hM) (ev_deep (by decide) (yk_days hA hX (fun r Rf' I' L' ek hX' e => ⟨r, Rf', I', L', rfl, rfl, ?_⟩)))
  have hM' : MI (qGG D cA b (qEx b kS vS xb xl xs)) R n sh Rf' I' om := hM.up hX'.2.2.1 (fun a ha => e a (by omega))
  have em : I' om = I om := (e om (by omega)).2
  exact ev_deep (by decide) (ym_days qEx_ok hA hM' (fun r2 L2  => ⟨r2, Rf', I', L2, rfl, rfl, kk _ _ _ (by rw [ek, em]; exact hr) hX' hM'⟩))
set_option maxHeartbeats 1000000 in
theorem lf_merchant (hq : q + 6 ≤ xl) (hxl : xl < 2 ^ 31) (hA : ∀ j, R.2 j = true) (hX : OI (qGG D cA b (qEx b kS vS xb xl xs)) R n sh Rf I ox) (hM : MI (qGG D cA b (qEx b kS vS xb xl xs)) R n sh Rf I om) (ho : om = ox + 207) (hr : (I (ox + 46) 1).toInt = (I om 66).toInt) (kk : ∀ Rf I L, (I (ox + 46) 1).toInt = (I om 66).toInt → OI (qGG D cA b (qEx b kS vS xb xl xs)) R n sh Rf I ox → MI (qGG D cA b (qEx b kS vS xb xl xs)) R n sh Rf I om → Ev (qGG D cA b (qEx b kS vS xb xl xs)) mLaw 110 (0, 0) 976 (lwL xb ox om q) [] (n, sh, Rf, I, L) post) : Ev (qGG D cA b (qEx b kS vS xb xl xs)) mLaw 110 (0, 0) 322 (lwL xb ox om q) [] (n, sh, Rf, I, L) post := by
  refine lw_merchant hq hxl (lf_x hX) (lf_m hM) (ev_deep (by decide) (yw_merchant hA hX (fun r Rf' I' L' a0 a1 hX' e => ⟨r, Rf', I', L', rfl, rfl, ?_⟩)))
  have hM' : MI (qGG D cA b (qEx b kS vS xb xl xs)) R n sh Rf' I' om := hM.up hX'.2.2.1 (fun a ha => e a (by omega))
  have em : I' om = I om := (e om (by omega)).2
  exact ev_deep (by decide) (ymw_merchant qEx_ok hA hM' (fun r2 I2 L2 mi f2 v0 v1 => ⟨Rf', I2, L2, by rw [Int32.toInt_inj.mp (show r2.toInt = r.toInt by rw [v0, a0, em, hr])], rfl, kk _ _ _ (by rw [f2 _ (by omega), a1, v1, em, hr]) (hX'.mv mi.2.2.1 (fun a ha => f2 a (by omega))) mi⟩))
set_option maxHeartbeats 1000000 in
theorem lf_costs (hq : q + 6 ≤ xl) (hxl : xl < 2 ^ 31) (hA : ∀ j, R.2 j = true) (hX : OI (qGG D cA b (qEx b kS vS xb xl xs)) R n sh Rf I ox) (hM : MI (qGG D cA b (qEx b kS vS xb xl xs)) R n sh Rf I om) (ho : om = ox + 207) (hr : (I (ox + 46) 1).toInt = (I om 66).toInt) (kk : ∀ Rf I L, (I (ox + 46) 1).toInt = (I om 66).toInt → OI (qGG D cA b (qEx b kS vS xb xl xs)) R n sh Rf I ox → MI (qGG D cA b (qEx b kS vS xb xl xs)) R n sh Rf I om → Ev (qGG D cA b (qEx b kS vS xb xl xs)) mLaw 110 (0, 0) 976 (lwL xb ox om q) [] (n, sh, Rf, I, L) post) : Ev (qGG D cA b (qEx b kS vS xb xl xs)) mLaw 110 (0, 0) 345 (lwL xb ox om q) [] (n, sh, Rf, I, L) post := by
  refine lw_costs hq hxl (lf_x hX) (lf_m hM) (ev_deep (by decide) (yk_costs hA hX (fun r Rf' I' L' fe ek hX' e => ⟨r, Rf', I', L', rfl, rfl, ?_⟩)))
  have hM' : MI (qGG D cA b (qEx b kS vS xb xl xs)) R n sh Rf' I' om := hM.up hX'.2.2.1 (fun a ha => e a (by omega))
  have em : I' om = I om := (e om (by omega)).2
  exact ev_deep (by decide) (ym_costs qEx_ok hA hM' (fun r2 I2 L2 mi f2 kp u0 u1 => ⟨r2, Rf', I2, L2, rfl, rfl, kk _ _ _ (by rw [f2 _ (by omega), kp 66 rfl, ek, em]; exact hr) (hX'.mv mi.2.2.1 (fun a ha => f2 a (by omega))) mi⟩))
set_option maxHeartbeats 1000000 in
theorem lf_weather (hq : q + 6 ≤ xl) (hxl : xl < 2 ^ 31) (hA : ∀ j, R.2 j = true) (hX : OI (qGG D cA b (qEx b kS vS xb xl xs)) R n sh Rf I ox) (hM : MI (qGG D cA b (qEx b kS vS xb xl xs)) R n sh Rf I om) (ho : om = ox + 207) (hr : (I (ox + 46) 1).toInt = (I om 66).toInt) (kk : ∀ Rf I L, (I (ox + 46) 1).toInt = (I om 66).toInt → OI (qGG D cA b (qEx b kS vS xb xl xs)) R n sh Rf I ox → MI (qGG D cA b (qEx b kS vS xb xl xs)) R n sh Rf I om → Ev (qGG D cA b (qEx b kS vS xb xl xs)) mLaw 110 (0, 0) 976 (lwL xb ox om q) [] (n, sh, Rf, I, L) post) : Ev (qGG D cA b (qEx b kS vS xb xl xs)) mLaw 110 (0, 0) 408 (lwL xb ox om q) [] (n, sh, Rf, I, L) post := by
  refine lw_weather hq hxl (lf_x hX) (lf_m hM) (ev_deep (by decide) (yk_weather hA hX (fun r Rf' I' L' ek hX' e => ⟨r, Rf', I', L', rfl, rfl, ?_⟩)))
  have hM' : MI (qGG D cA b (qEx b kS vS xb xl xs)) R n sh Rf' I' om := hM.up hX'.2.2.1 (fun a ha => e a (by omega))
  have em : I' om = I om := (e om (by omega)).2
  exact ev_deep (by decide) (ym_weather qEx_ok hA hM' (fun r2 I2 L2 mi f2 kp  => ⟨r2, Rf', I2, L2, rfl, rfl, kk _ _ _ (by rw [f2 _ (by omega), kp 66 rfl, ek, em]; exact hr) (hX'.mv mi.2.2.1 (fun a ha => f2 a (by omega))) mi⟩))
set_option maxHeartbeats 1000000 in
theorem lf_forged (hq : q + 6 ≤ xl) (hxl : xl < 2 ^ 31) (hA : ∀ j, R.2 j = true) (hX : OI (qGG D cA b (qEx b kS vS xb xl xs)) R n sh Rf I ox) (hM : MI (qGG D cA b (qEx b kS vS xb xl xs)) R n sh Rf I om) (ho : om = ox + 207) (hr : (I (ox + 46) 1).toInt = (I om 66).toInt) (kk : ∀ Rf I L, (I (ox + 46) 1).toInt = (I om 66).toInt → OI (qGG D cA b (qEx b kS vS xb xl xs)) R n sh Rf I ox → MI (qGG D cA b (qEx b kS vS xb xl xs)) R n sh Rf I om → Ev (qGG D cA b (qEx b kS vS xb xl xs)) mLaw 110 (0, 0) 976 (lwL xb ox om q) [] (n, sh, Rf, I, L) post) : Ev (qGG D cA b (qEx b kS vS xb xl xs)) mLaw 110 (0, 0) 451 (lwL xb ox om q) [] (n, sh, Rf, I, L) post := by
  refine lw_forged hq hxl (lf_x hX) (lf_m hM) (ev_deep (by decide) (yk_forged hA hX (fun r Rf' I' L' ek hX' e => ⟨r, Rf', I', L', rfl, rfl, ?_⟩)))
  have hM' : MI (qGG D cA b (qEx b kS vS xb xl xs)) R n sh Rf' I' om := hM.up hX'.2.2.1 (fun a ha => e a (by omega))
  have em : I' om = I om := (e om (by omega)).2
  exact ev_deep (by decide) (ym_forged qEx_ok hA hM' (fun r2 I2 L2 mi f2 kp  => ⟨r2, Rf', I2, L2, rfl, rfl, kk _ _ _ (by rw [f2 _ (by omega), kp 66 rfl, ek, em]; exact hr) (hX'.mv mi.2.2.1 (fun a ha => f2 a (by omega))) mi⟩))
set_option maxHeartbeats 1000000 in
theorem lf_dead (hq : q + 6 ≤ xl) (hxl : xl < 2 ^ 31) (hA : ∀ j, R.2 j = true) (hX : OI (qGG D cA b (qEx b kS vS xb xl xs)) R n sh Rf I ox) (hM : MI (qGG D cA b (qEx b kS vS xb xl xs)) R n sh Rf I om) (ho : om = ox + 207) (hr : (I (ox + 46) 1).toInt = (I om 66).toInt) (kk : ∀ Rf I L, (I (ox + 46) 1).toInt = (I om 66).toInt → OI (qGG D cA b (qEx b kS vS xb xl xs)) R n sh Rf I ox → MI (qGG D cA b (qEx b kS vS xb xl xs)) R n sh Rf I om → Ev (qGG D cA b (qEx b kS vS xb xl xs)) mLaw 110 (0, 0) 976 (lwL xb ox om q) [] (n, sh, Rf, I, L) post) : Ev (qGG D cA b (qEx b kS vS xb xl xs)) mLaw 110 (0, 0) 484 (lwL xb ox om q) [] (n, sh, Rf, I, L) post := by
  refine lw_dead hq hxl (lf_x hX) (lf_m hM) (ev_deep (by decide) (yk_dead hA hX (fun r Rf' I' L' ek hX' e => ⟨r, Rf', I', L', rfl, rfl, ?_⟩)))
  have hM' : MI (qGG D cA b (qEx b kS vS xb xl xs)) R n sh Rf' I' om := hM.up hX'.2.2.1 (fun a ha => e a (by omega))
  have em : I' om = I om := (e om (by omega)).2
  exact ev_deep (by decide) (ym_dead qEx_ok hA hM' (fun r2 I2 L2 mi f2 kp  => ⟨r2, Rf', I2, L2, rfl, rfl, kk _ _ _ (by rw [f2 _ (by omega), kp 66 rfl, ek, em]; exact hr) (hX'.mv mi.2.2.1 (fun a ha => f2 a (by omega))) mi⟩))
set_option maxHeartbeats 1000000 in
theorem lf_untell (hq : q + 6 ≤ xl) (hxl : xl < 2 ^ 31) (hA : ∀ j, R.2 j = true) (hX : OI (qGG D cA b (qEx b kS vS xb xl xs)) R n sh Rf I ox) (hM : MI (qGG D cA b (qEx b kS vS xb xl xs)) R n sh Rf I om) (ho : om = ox + 207) (hr : (I (ox + 46) 1).toInt = (I om 66).toInt) (kk : ∀ Rf I L, (I (ox + 46) 1).toInt = (I om 66).toInt → OI (qGG D cA b (qEx b kS vS xb xl xs)) R n sh Rf I ox → MI (qGG D cA b (qEx b kS vS xb xl xs)) R n sh Rf I om → Ev (qGG D cA b (qEx b kS vS xb xl xs)) mLaw 110 (0, 0) 976 (lwL xb ox om q) [] (n, sh, Rf, I, L) post) : Ev (qGG D cA b (qEx b kS vS xb xl xs)) mLaw 110 (0, 0) 527 (lwL xb ox om q) [] (n, sh, Rf, I, L) post := by
  refine lw_untell hq hxl (lf_x hX) (lf_m hM) (ev_deep (by decide) (yk_untell hA hX (fun r Rf' I' L' ek hX' e => ⟨r, Rf', I', L', rfl, rfl, ?_⟩)))
  have hM' : MI (qGG D cA b (qEx b kS vS xb xl xs)) R n sh Rf' I' om := hM.up hX'.2.2.1 (fun a ha => e a (by omega))
  have em : I' om = I om := (e om (by omega)).2
  exact ev_deep (by decide) (ym_untell qEx_ok hA hM' (fun r2 I2 L2 mi f2 kp u0 => ⟨r2, Rf', I2, L2, rfl, rfl, kk _ _ _ (by rw [f2 _ (by omega), kp 66 rfl, ek, em]; exact hr) (hX'.mv mi.2.2.1 (fun a ha => f2 a (by omega))) mi⟩))
set_option maxHeartbeats 1000000 in
theorem lf_later (hq : q + 6 ≤ xl) (hxl : xl < 2 ^ 31) (hA : ∀ j, R.2 j = true) (hX : OI (qGG D cA b (qEx b kS vS xb xl xs)) R n sh Rf I ox) (hM : MI (qGG D cA b (qEx b kS vS xb xl xs)) R n sh Rf I om) (ho : om = ox + 207) (hr : (I (ox + 46) 1).toInt = (I om 66).toInt) (kk : ∀ Rf I L, (I (ox + 46) 1).toInt = (I om 66).toInt → OI (qGG D cA b (qEx b kS vS xb xl xs)) R n sh Rf I ox → MI (qGG D cA b (qEx b kS vS xb xl xs)) R n sh Rf I om → Ev (qGG D cA b (qEx b kS vS xb xl xs)) mLaw 110 (0, 0) 976 (lwL xb ox om q) [] (n, sh, Rf, I, L) post) : Ev (qGG D cA b (qEx b kS vS xb xl xs)) mLaw 110 (0, 0) 550 (lwL xb ox om q) [] (n, sh, Rf, I, L) post := by
  refine lw_later hq hxl (lf_x hX) (lf_m hM) (ev_deep (by decide) (yk_later hA hX (fun r Rf' I' L' ek hX' e => ⟨r, Rf', I', L', rfl, rfl, ?_⟩)))
  have hM' : MI (qGG D cA b (qEx b kS vS xb xl xs)) R n sh Rf' I' om := hM.up hX'.2.2.1 (fun a ha => e a (by omega))
  have em : I' om = I om := (e om (by omega)).2
  exact ev_deep (by decide) (ym_later qEx_ok hA hM' (fun r2 I2 L2 mi f2 kp  => ⟨r2, Rf', I2, L2, rfl, rfl, kk _ _ _ (by rw [f2 _ (by omega), kp 66 rfl, ek, em]; exact hr) (hX'.mv mi.2.2.1 (fun a ha => f2 a (by omega))) mi⟩))
set_option maxHeartbeats 1000000 in
theorem lf_run (hq : q + 6 ≤ xl) (hxl : xl < 2 ^ 31) (hA : ∀ j, R.2 j = true) (hX : OI (qGG D cA b (qEx b kS vS xb xl xs)) R n sh Rf I ox) (hM : MI (qGG D cA b (qEx b kS vS xb xl xs)) R n sh Rf I om) (ho : om = ox + 207) (hr : (I (ox + 46) 1).toInt = (I om 66).toInt) (kk : ∀ Rf I L, (I (ox + 46) 1).toInt = (I om 66).toInt → OI (qGG D cA b (qEx b kS vS xb xl xs)) R n sh Rf I ox → MI (qGG D cA b (qEx b kS vS xb xl xs)) R n sh Rf I om → Ev (qGG D cA b (qEx b kS vS xb xl xs)) mLaw 110 (0, 0) 976 (lwL xb ox om q) [] (n, sh, Rf, I, L) post) : Ev (qGG D cA b (qEx b kS vS xb xl xs)) mLaw 110 (0, 0) 573 (lwL xb ox om q) [] (n, sh, Rf, I, L) post := by
  refine lw_run hq hxl (lf_x hX) (lf_m hM) (ev_deep (by decide) (yk_run hA hX (fun r Rf' I' L' ek hX' e => ⟨r, Rf', I', L', rfl, rfl, ?_⟩)))
  have hM' : MI (qGG D cA b (qEx b kS vS xb xl xs)) R n sh Rf' I' om := hM.up hX'.2.2.1 (fun a ha => e a (by omega))
  have em : I' om = I om := (e om (by omega)).2
  exact ev_deep (by decide) (ym_run qEx_ok hA hM' (fun r2 I2 L2 mi f2 kp  => ⟨r2, Rf', I2, L2, rfl, rfl, kk _ _ _ (by rw [f2 _ (by omega), kp 66 rfl, ek, em]; exact hr) (hX'.mv mi.2.2.1 (fun a ha => f2 a (by omega))) mi⟩))
set_option maxHeartbeats 1000000 in
theorem lf_ran (hq : q + 6 ≤ xl) (hxl : xl < 2 ^ 31) (hA : ∀ j, R.2 j = true) (hX : OI (qGG D cA b (qEx b kS vS xb xl xs)) R n sh Rf I ox) (hM : MI (qGG D cA b (qEx b kS vS xb xl xs)) R n sh Rf I om) (ho : om = ox + 207) (hr : (I (ox + 46) 1).toInt = (I om 66).toInt) (kk : ∀ Rf I L, (I (ox + 46) 1).toInt = (I om 66).toInt → OI (qGG D cA b (qEx b kS vS xb xl xs)) R n sh Rf I ox → MI (qGG D cA b (qEx b kS vS xb xl xs)) R n sh Rf I om → Ev (qGG D cA b (qEx b kS vS xb xl xs)) mLaw 110 (0, 0) 976 (lwL xb ox om q) [] (n, sh, Rf, I, L) post) : Ev (qGG D cA b (qEx b kS vS xb xl xs)) mLaw 110 (0, 0) 616 (lwL xb ox om q) [] (n, sh, Rf, I, L) post := by
  refine lw_ran hq hxl (lf_x hX) (lf_m hM) (ev_deep (by decide) (yk_ran hA hX (fun r Rf' I' L' ek hX' e => ⟨r, Rf', I', L', rfl, rfl, ?_⟩)))
  have hM' : MI (qGG D cA b (qEx b kS vS xb xl xs)) R n sh Rf' I' om := hM.up hX'.2.2.1 (fun a ha => e a (by omega))
  have em : I' om = I om := (e om (by omega)).2
  exact ev_deep (by decide) (ym_ran qEx_ok hA hM' (fun r2 L2  => ⟨r2, Rf', I', L2, rfl, rfl, kk _ _ _ (by rw [ek, em]; exact hr) hX' hM'⟩))
set_option maxHeartbeats 1000000 in
theorem lf_fort (hq : q + 6 ≤ xl) (hxl : xl < 2 ^ 31) (hA : ∀ j, R.2 j = true) (hX : OI (qGG D cA b (qEx b kS vS xb xl xs)) R n sh Rf I ox) (hM : MI (qGG D cA b (qEx b kS vS xb xl xs)) R n sh Rf I om) (ho : om = ox + 207) (hr : (I (ox + 46) 1).toInt = (I om 66).toInt) (kk : ∀ Rf I L, (I (ox + 46) 1).toInt = (I om 66).toInt → OI (qGG D cA b (qEx b kS vS xb xl xs)) R n sh Rf I ox → MI (qGG D cA b (qEx b kS vS xb xl xs)) R n sh Rf I om → Ev (qGG D cA b (qEx b kS vS xb xl xs)) mLaw 110 (0, 0) 976 (lwL xb ox om q) [] (n, sh, Rf, I, L) post) : Ev (qGG D cA b (qEx b kS vS xb xl xs)) mLaw 110 (0, 0) 639 (lwL xb ox om q) [] (n, sh, Rf, I, L) post := by
  refine lw_fort hq hxl (lf_x hX) (lf_m hM) (ev_deep (by decide) (yk_fort hA hX (fun r Rf' I' L' ek hX' e => ⟨r, Rf', I', L', rfl, rfl, ?_⟩)))
  have hM' : MI (qGG D cA b (qEx b kS vS xb xl xs)) R n sh Rf' I' om := hM.up hX'.2.2.1 (fun a ha => e a (by omega))
  have em : I' om = I om := (e om (by omega)).2
  exact ev_deep (by decide) (ym_fort qEx_ok hA hM' (fun r2 L2  => ⟨r2, Rf', I', L2, rfl, rfl, kk _ _ _ (by rw [ek, em]; exact hr) hX' hM'⟩))
set_option maxHeartbeats 1000000 in
theorem lf_pan (hq : q + 6 ≤ xl) (hxl : xl < 2 ^ 31) (hA : ∀ j, R.2 j = true) (hX : OI (qGG D cA b (qEx b kS vS xb xl xs)) R n sh Rf I ox) (hM : MI (qGG D cA b (qEx b kS vS xb xl xs)) R n sh Rf I om) (ho : om = ox + 207) (hr : (I (ox + 46) 1).toInt = (I om 66).toInt) (kk : ∀ Rf I L, (I (ox + 46) 1).toInt = (I om 66).toInt → OI (qGG D cA b (qEx b kS vS xb xl xs)) R n sh Rf I ox → MI (qGG D cA b (qEx b kS vS xb xl xs)) R n sh Rf I om → Ev (qGG D cA b (qEx b kS vS xb xl xs)) mLaw 110 (0, 0) 976 (lwL xb ox om q) [] (n, sh, Rf, I, L) post) : Ev (qGG D cA b (qEx b kS vS xb xl xs)) mLaw 110 (0, 0) 682 (lwL xb ox om q) [] (n, sh, Rf, I, L) post := by
  refine lw_pan hq hxl (lf_x hX) (lf_m hM) (ev_deep (by decide) (yk_pan hA hX (fun r Rf' I' L' ek hX' e => ⟨r, Rf', I', L', rfl, rfl, ?_⟩)))
  have hM' : MI (qGG D cA b (qEx b kS vS xb xl xs)) R n sh Rf' I' om := hM.up hX'.2.2.1 (fun a ha => e a (by omega))
  have em : I' om = I om := (e om (by omega)).2
  exact ev_deep (by decide) (ym_pan qEx_ok hA hM' (fun r2 L2  => ⟨r2, Rf', I', L2, rfl, rfl, kk _ _ _ (by rw [ek, em]; exact hr) hX' hM'⟩))
set_option maxHeartbeats 1000000 in
theorem lf_town (hq : q + 6 ≤ xl) (hxl : xl < 2 ^ 31) (hA : ∀ j, R.2 j = true) (hX : OI (qGG D cA b (qEx b kS vS xb xl xs)) R n sh Rf I ox) (hM : MI (qGG D cA b (qEx b kS vS xb xl xs)) R n sh Rf I om) (ho : om = ox + 207) (hr : (I (ox + 46) 1).toInt = (I om 66).toInt) (kk : ∀ Rf I L, (I (ox + 46) 1).toInt = (I om 66).toInt → OI (qGG D cA b (qEx b kS vS xb xl xs)) R n sh Rf I ox → MI (qGG D cA b (qEx b kS vS xb xl xs)) R n sh Rf I om → Ev (qGG D cA b (qEx b kS vS xb xl xs)) mLaw 110 (0, 0) 976 (lwL xb ox om q) [] (n, sh, Rf, I, L) post) : Ev (qGG D cA b (qEx b kS vS xb xl xs)) mLaw 110 (0, 0) 725 (lwL xb ox om q) [] (n, sh, Rf, I, L) post := by
  refine lw_town hq hxl (lf_x hX) (lf_m hM) (ev_deep (by decide) (yk_town hA hX (fun r Rf' I' L' ek hX' e => ⟨r, Rf', I', L', rfl, rfl, ?_⟩)))
  have hM' : MI (qGG D cA b (qEx b kS vS xb xl xs)) R n sh Rf' I' om := hM.up hX'.2.2.1 (fun a ha => e a (by omega))
  have em : I' om = I om := (e om (by omega)).2
  exact ev_deep (by decide) (ym_town qEx_ok hA hM' (fun r2 L2  => ⟨r2, Rf', I', L2, rfl, rfl, kk _ _ _ (by rw [ek, em]; exact hr) hX' hM'⟩))
set_option maxHeartbeats 1000000 in
theorem lf_book (hq : q + 6 ≤ xl) (hxl : xl < 2 ^ 31) (hA : ∀ j, R.2 j = true) (hX : OI (qGG D cA b (qEx b kS vS xb xl xs)) R n sh Rf I ox) (hM : MI (qGG D cA b (qEx b kS vS xb xl xs)) R n sh Rf I om) (ho : om = ox + 207) (hr : (I (ox + 46) 1).toInt = (I om 66).toInt) (kk : ∀ Rf I L, (I (ox + 46) 1).toInt = (I om 66).toInt → OI (qGG D cA b (qEx b kS vS xb xl xs)) R n sh Rf I ox → MI (qGG D cA b (qEx b kS vS xb xl xs)) R n sh Rf I om → Ev (qGG D cA b (qEx b kS vS xb xl xs)) mLaw 110 (0, 0) 976 (lwL xb ox om q) [] (n, sh, Rf, I, L) post) : Ev (qGG D cA b (qEx b kS vS xb xl xs)) mLaw 110 (0, 0) 768 (lwL xb ox om q) [] (n, sh, Rf, I, L) post := by
  refine lw_book hq hxl (lf_x hX) (lf_m hM) (ev_deep (by decide) (yk_book hA hX (fun r Rf' I' L' ek hX' e => ⟨r, Rf', I', L', rfl, rfl, ?_⟩)))
  have hM' : MI (qGG D cA b (qEx b kS vS xb xl xs)) R n sh Rf' I' om := hM.up hX'.2.2.1 (fun a ha => e a (by omega))
  have em : I' om = I om := (e om (by omega)).2
  exact ev_deep (by decide) (ym_book qEx_ok hA hM' (fun r2 L2  => ⟨r2, Rf', I', L2, rfl, rfl, kk _ _ _ (by rw [ek, em]; exact hr) hX' hM'⟩))
set_option maxHeartbeats 1000000 in
theorem lf_paper (hq : q + 6 ≤ xl) (hxl : xl < 2 ^ 31) (hA : ∀ j, R.2 j = true) (hX : OI (qGG D cA b (qEx b kS vS xb xl xs)) R n sh Rf I ox) (hM : MI (qGG D cA b (qEx b kS vS xb xl xs)) R n sh Rf I om) (ho : om = ox + 207) (hr : (I (ox + 46) 1).toInt = (I om 66).toInt) (kk : ∀ Rf I L, (I (ox + 46) 1).toInt = (I om 66).toInt → OI (qGG D cA b (qEx b kS vS xb xl xs)) R n sh Rf I ox → MI (qGG D cA b (qEx b kS vS xb xl xs)) R n sh Rf I om → Ev (qGG D cA b (qEx b kS vS xb xl xs)) mLaw 110 (0, 0) 976 (lwL xb ox om q) [] (n, sh, Rf, I, L) post) : Ev (qGG D cA b (qEx b kS vS xb xl xs)) mLaw 110 (0, 0) 811 (lwL xb ox om q) [] (n, sh, Rf, I, L) post := by
  refine lw_paper hq hxl (lf_x hX) (lf_m hM) (ev_deep (by decide) (yk_paper hA hX (fun r Rf' I' L' ek hX' e => ⟨r, Rf', I', L', rfl, rfl, ?_⟩)))
  have hM' : MI (qGG D cA b (qEx b kS vS xb xl xs)) R n sh Rf' I' om := hM.up hX'.2.2.1 (fun a ha => e a (by omega))
  have em : I' om = I om := (e om (by omega)).2
  exact ev_deep (by decide) (ym_paper qEx_ok hA hM' (fun r2 L2  => ⟨r2, Rf', I', L2, rfl, rfl, kk _ _ _ (by rw [ek, em]; exact hr) hX' hM'⟩))
set_option maxHeartbeats 1000000 in
theorem lf_way (hq : q + 6 ≤ xl) (hxl : xl < 2 ^ 31) (hA : ∀ j, R.2 j = true) (hX : OI (qGG D cA b (qEx b kS vS xb xl xs)) R n sh Rf I ox) (hM : MI (qGG D cA b (qEx b kS vS xb xl xs)) R n sh Rf I om) (ho : om = ox + 207) (hr : (I (ox + 46) 1).toInt = (I om 66).toInt) (kk : ∀ Rf I L, (I (ox + 46) 1).toInt = (I om 66).toInt → OI (qGG D cA b (qEx b kS vS xb xl xs)) R n sh Rf I ox → MI (qGG D cA b (qEx b kS vS xb xl xs)) R n sh Rf I om → Ev (qGG D cA b (qEx b kS vS xb xl xs)) mLaw 110 (0, 0) 976 (lwL xb ox om q) [] (n, sh, Rf, I, L) post) : Ev (qGG D cA b (qEx b kS vS xb xl xs)) mLaw 110 (0, 0) 844 (lwL xb ox om q) [] (n, sh, Rf, I, L) post := by
  refine lw_way hq hxl (lf_x hX) (lf_m hM) (ev_deep (by decide) (yk_way hA hX (fun r Rf' I' L' ek hX' e => ⟨r, Rf', I', L', rfl, rfl, ?_⟩)))
  have hM' : MI (qGG D cA b (qEx b kS vS xb xl xs)) R n sh Rf' I' om := hM.up hX'.2.2.1 (fun a ha => e a (by omega))
  have em : I' om = I om := (e om (by omega)).2
  exact ev_deep (by decide) (ym_way qEx_ok hA hM' (fun r2 I2 L2 mi f2 kp  => ⟨r2, Rf', I2, L2, rfl, rfl, kk _ _ _ (by rw [f2 _ (by omega), kp 66 rfl, ek, em]; exact hr) (hX'.mv mi.2.2.1 (fun a ha => f2 a (by omega))) mi⟩))
set_option maxHeartbeats 1000000 in
theorem lf_worth (hq : q + 6 ≤ xl) (hxl : xl < 2 ^ 31) (hA : ∀ j, R.2 j = true) (hX : OI (qGG D cA b (qEx b kS vS xb xl xs)) R n sh Rf I ox) (hM : MI (qGG D cA b (qEx b kS vS xb xl xs)) R n sh Rf I om) (ho : om = ox + 207) (hr : (I (ox + 46) 1).toInt = (I om 66).toInt) (kk : ∀ Rf I L, (I (ox + 46) 1).toInt = (I om 66).toInt → OI (qGG D cA b (qEx b kS vS xb xl xs)) R n sh Rf I ox → MI (qGG D cA b (qEx b kS vS xb xl xs)) R n sh Rf I om → Ev (qGG D cA b (qEx b kS vS xb xl xs)) mLaw 110 (0, 0) 976 (lwL xb ox om q) [] (n, sh, Rf, I, L) post) : Ev (qGG D cA b (qEx b kS vS xb xl xs)) mLaw 110 (0, 0) 877 (lwL xb ox om q) [] (n, sh, Rf, I, L) post := by
  refine lw_worth hq hxl (lf_x hX) (lf_m hM) (ev_deep (by decide) (yk_worth hA hX (fun r Rf' I' L' ek hX' e => ⟨r, Rf', I', L', rfl, rfl, ?_⟩)))
  have hM' : MI (qGG D cA b (qEx b kS vS xb xl xs)) R n sh Rf' I' om := hM.up hX'.2.2.1 (fun a ha => e a (by omega))
  have em : I' om = I om := (e om (by omega)).2
  exact ev_deep (by decide) (ym_worth qEx_ok hA hM' (fun r2 I2 L2 mi f2 kp  => ⟨r2, Rf', I2, L2, rfl, rfl, kk _ _ _ (by rw [f2 _ (by omega), kp 66 rfl, ek, em]; exact hr) (hX'.mv mi.2.2.1 (fun a ha => f2 a (by omega))) mi⟩))
set_option maxHeartbeats 1000000 in
theorem lf_judge (hq : q + 6 ≤ xl) (hxl : xl < 2 ^ 31) (hA : ∀ j, R.2 j = true) (hX : OI (qGG D cA b (qEx b kS vS xb xl xs)) R n sh Rf I ox) (hM : MI (qGG D cA b (qEx b kS vS xb xl xs)) R n sh Rf I om) (ho : om = ox + 207) (hr : (I (ox + 46) 1).toInt = (I om 66).toInt) (kk : ∀ Rf I L, (I (ox + 46) 1).toInt = (I om 66).toInt → OI (qGG D cA b (qEx b kS vS xb xl xs)) R n sh Rf I ox → MI (qGG D cA b (qEx b kS vS xb xl xs)) R n sh Rf I om → Ev (qGG D cA b (qEx b kS vS xb xl xs)) mLaw 110 (0, 0) 976 (lwL xb ox om q) [] (n, sh, Rf, I, L) post) : Ev (qGG D cA b (qEx b kS vS xb xl xs)) mLaw 110 (0, 0) 900 (lwL xb ox om q) [] (n, sh, Rf, I, L) post := by
  refine lw_judge hq hxl (lf_x hX) (lf_m hM) (ev_deep (by decide) (yk_judge hA hX (fun r Rf' I' L' ek hX' e => ⟨r, Rf', I', L', rfl, rfl, ?_⟩)))
  have hM' : MI (qGG D cA b (qEx b kS vS xb xl xs)) R n sh Rf' I' om := hM.up hX'.2.2.1 (fun a ha => e a (by omega))
  have em : I' om = I om := (e om (by omega)).2
  exact ev_deep (by decide) (ym_judge qEx_ok hA hM' (fun r2 I2 L2 mi f2 kp  => ⟨r2, Rf', I2, L2, rfl, rfl, kk _ _ _ (by rw [f2 _ (by omega), kp 66 rfl, ek, em]; exact hr) (hX'.mv mi.2.2.1 (fun a ha => f2 a (by omega))) mi⟩))
set_option maxHeartbeats 1000000 in
theorem lf_about (hq : q + 6 ≤ xl) (hxl : xl < 2 ^ 31) (hA : ∀ j, R.2 j = true) (hX : OI (qGG D cA b (qEx b kS vS xb xl xs)) R n sh Rf I ox) (hM : MI (qGG D cA b (qEx b kS vS xb xl xs)) R n sh Rf I om) (ho : om = ox + 207) (hr : (I (ox + 46) 1).toInt = (I om 66).toInt) (kk : ∀ Rf I L, (I (ox + 46) 1).toInt = (I om 66).toInt → OI (qGG D cA b (qEx b kS vS xb xl xs)) R n sh Rf I ox → MI (qGG D cA b (qEx b kS vS xb xl xs)) R n sh Rf I om → Ev (qGG D cA b (qEx b kS vS xb xl xs)) mLaw 110 (0, 0) 976 (lwL xb ox om q) [] (n, sh, Rf, I, L) post) : Ev (qGG D cA b (qEx b kS vS xb xl xs)) mLaw 110 (0, 0) 953 (lwL xb ox om q) [] (n, sh, Rf, I, L) post := by
  refine lw_about hq hxl (lf_x hX) (lf_m hM) (ev_deep (by decide) (yk_about hA hX (fun r Rf' I' L' ek hX' e => ⟨r, Rf', I', L', rfl, rfl, ?_⟩)))
  have hM' : MI (qGG D cA b (qEx b kS vS xb xl xs)) R n sh Rf' I' om := hM.up hX'.2.2.1 (fun a ha => e a (by omega))
  have em : I' om = I om := (e om (by omega)).2
  exact ev_deep (by decide) (ym_about qEx_ok hA hM' (fun r2 L2  => ⟨r2, Rf', I', L2, rfl, rfl, kk _ _ _ (by rw [ek, em]; exact hr) hX' hM'⟩))
set_option maxHeartbeats 1000000 in
theorem lf_all (hq : q + 6 ≤ xl) (hxl : xl < 2 ^ 31) (hA : ∀ j, R.2 j = true) (hX : OI (qGG D cA b (qEx b kS vS xb xl xs)) R n sh Rf I ox) (hM : MI (qGG D cA b (qEx b kS vS xb xl xs)) R n sh Rf I om) (ho : om = ox + 207) (hr : (I (ox + 46) 1).toInt = (I om 66).toInt) (kk : ∀ Rf I L, (I (ox + 46) 1).toInt = (I om 66).toInt → OI (qGG D cA b (qEx b kS vS xb xl xs)) R n sh Rf I ox → MI (qGG D cA b (qEx b kS vS xb xl xs)) R n sh Rf I om → Ev (qGG D cA b (qEx b kS vS xb xl xs)) mLaw 110 (0, 0) 976 (lwL xb ox om q) [] (n, sh, Rf, I, L) post) : ∀ k, k < 24 → Ev (qGG D cA b (qEx b kS vS xb xl xs)) mLaw 110 (0, 0) (lwPc.getD k 0) (lwL xb ox om q) [] (n, sh, Rf, I, L) post := by
  intro k hk
  match k, hk with
  | 0, _ => exact lf_feed hq hxl hA hX hM ho hr kk
  | 1, _ => exact lf_end hq hxl hA hX hM ho hr kk
  | 2, _ => exact lf_land hq hxl hA hX hM ho hr kk
  | 3, _ => exact lf_reform hq hxl hA hX hM ho hr kk
  | 4, _ => exact lf_fault hq hxl hA hX hM ho hr kk
  | 5, _ => exact lf_days hq hxl hA hX hM ho hr kk
  | 6, _ => exact lf_merchant hq hxl hA hX hM ho hr kk
  | 7, _ => exact lf_costs hq hxl hA hX hM ho hr kk
  | 8, _ => exact lf_weather hq hxl hA hX hM ho hr kk
  | 9, _ => exact lf_forged hq hxl hA hX hM ho hr kk
  | 10, _ => exact lf_dead hq hxl hA hX hM ho hr kk
  | 11, _ => exact lf_untell hq hxl hA hX hM ho hr kk
  | 12, _ => exact lf_later hq hxl hA hX hM ho hr kk
  | 13, _ => exact lf_run hq hxl hA hX hM ho hr kk
  | 14, _ => exact lf_ran hq hxl hA hX hM ho hr kk
  | 15, _ => exact lf_fort hq hxl hA hX hM ho hr kk
  | 16, _ => exact lf_pan hq hxl hA hX hM ho hr kk
  | 17, _ => exact lf_town hq hxl hA hX hM ho hr kk
  | 18, _ => exact lf_book hq hxl hA hX hM ho hr kk
  | 19, _ => exact lf_paper hq hxl hA hX hM ho hr kk
  | 20, _ => exact lf_way hq hxl hA hX hM ho hr kk
  | 21, _ => exact lf_worth hq hxl hA hX hM ho hr kk
  | 22, _ => exact lf_judge hq hxl hA hX hM ho hr kk
  | 23, _ => exact lf_about hq hxl hA hX hM ho hr kk
  | k + 24, h => exact absurd h (by omega)
theorem lw_loop (hxl : xl < 2 ^ 29) (hA : ∀ j, R.2 j = true) (ho : om = ox + 207) : ∀ (k q : Nat) (Rf : Nat → Nat → Option Nat) (I : Nat → Nat → Int32) (L : Nat → Nat → Int64), xl + 6 - q < k → q < 2 ^ 30 → (I (ox + 46) 1).toInt = (I om 66).toInt → OI (qGG D cA b (qEx b kS vS xb xl xs)) R n sh Rf I ox → MI (qGG D cA b (qEx b kS vS xb xl xs)) R n sh Rf I om → Ev (qGG D cA b (qEx b kS vS xb xl xs)) mLaw 110 (0, 0) 18 (lwL xb ox om q) [] (n, sh, Rf, I, L) (fun v _ => v = some (.int 1)) := by
  intro k
  induction k with
  | zero => intro q Rf I L h; exact absurd h (by omega)
  | succ k ih =>
    intro q Rf I L hk hq hr hX hM
    refine lw_head (by omega) hq (fun h6 => ?_) (fun _ => rfl)
    have kk : ∀ Rf I L, (I (ox + 46) 1).toInt = (I om 66).toInt → OI (qGG D cA b (qEx b kS vS xb xl xs)) R n sh Rf I ox → MI (qGG D cA b (qEx b kS vS xb xl xs)) R n sh Rf I om → Ev (qGG D cA b (qEx b kS vS xb xl xs)) mLaw 110 (0, 0) 976 (lwL xb ox om q) [] (n, sh, Rf, I, L) (fun v _ => v = some (.int 1)) := fun Rf I L h0 h1 h2 => lw_next (ih (q + 6) Rf I L (by omega) (by omega) h0 h1 h2)
    exact lw_switch h6 (by omega) (lf_all h6 (by omega) hA hX hM ho hr kk) (kk _ _ _ hr hX hM)
/-- the ranges of both -/
def rgA (ox om : Nat) : qRg := (fun a k => if ox ≤ a ∧ a < ox + 207 then ((TOffice (a - ox) k).1, (TOffice (a - ox) k).2.1) else if om ≤ a ∧ a < om + 102 then ((TModel (a - om) k).1, (TModel (a - om) k).2.1) else (-2147483648, 2147483647), fun _ => true)
theorem rgA_x : RAOffice (rgA ox om) ox := fun i hi k => by
  have e : (rgA ox om).1 (ox + i) k = ((TOffice i k).1, (TOffice i k).2.1) := by
    show (if ox ≤ ox + i ∧ ox + i < ox + 207 then ((TOffice (ox + i - ox) k).1, (TOffice (ox + i - ox) k).2.1) else _) = _
    rw [if_pos (by omega), Nat.add_sub_cancel_left]
  rw [e]
  exact ⟨⟨Int.le_refl _, Int.le_refl _⟩, fun _ => rfl⟩
theorem rgA_m (ho : om = ox + 207) : RAModel (rgA ox om) om := fun i hi k => by
  have e : (rgA ox om).1 (om + i) k = ((TModel i k).1, (TModel i k).2.1) := by
    show (if ox ≤ om + i ∧ om + i < ox + 207 then _ else if om ≤ om + i ∧ om + i < om + 102 then ((TModel (om + i - om) k).1, (TModel (om + i - om) k).2.1) else _) = _
    rw [if_neg (by omega), if_pos (by omega), Nat.add_sub_cancel_left]
  rw [e]
  exact ⟨⟨Int.le_refl _, Int.le_refl _⟩, fun _ => rfl⟩
theorem rgA_i (ho : om = ox + 207) (hx : InT TOffice 207 I ox) (hm : InT TModel 102 I om) : RI (rgA ox om) I := fun a k => by
  by_cases h1 : ox ≤ a ∧ a < ox + 207
  · have e : (rgA ox om).1 a k = ((TOffice (a - ox) k).1, (TOffice (a - ox) k).2.1) := if_pos h1
    have q := hx (a - ox) (by omega) k
    rw [show ox + (a - ox) = a by omega] at q
    rw [e]
    exact q
  · by_cases h2 : om ≤ a ∧ a < om + 102
    · have e : (rgA ox om).1 a k = ((TModel (a - om) k).1, (TModel (a - om) k).2.1) := (if_neg h1).trans (if_pos h2)
      have q := hm (a - om) (by omega) k
      rw [show om + (a - om) = a by omega] at q
      rw [e]
      exact q
    · have e : (rgA ox om).1 a k = (-2147483648, 2147483647) := (if_neg h1).trans (if_neg h2)
      rw [e]
      exact ⟨i_lo _, i_hi _⟩
set_option maxHeartbeats 4000000 in
/-- the law answers true on every script -/
theorem lw_all (hxl : xl ≤ 3072) (sh0 : Nat → qC) (Rf0 : Nat → Nat → Option Nat) (I0 : Nat → Nat → Int32) (L0 : Nat → Nat → Int64) : Ev (qGG D cA b (qEx b kS vS xb xl xs)) mLaw 110 (309, 216243) 0 (lv_args 0 [.ref xb]) [] (0, sh0, Rf0, I0, L0) (fun v _ => v = some (.int 1)) := by
  refine ev_new (kc := 308) (ks := 216233) (ci := 11) (q := (qR11, qT11, 10)) qEx_ok rfl (q_t1 23 (by decide +kernel) rfl) (q_t1 24 (by decide +kernel) rfl) (q_t1 1 (by decide +kernel) rfl) hdfOffice dLaw_0 ?_
  refine ev_dup dLaw_3 rfl ?_
  refine ev_callI (d' := 7) (a := b + 0) (B' := (206, 115470)) (B'' := (102, 100763)) (post' := fun v τ => v = none ∧ ∃ n' sh' Rf' I' L', τ = (n', sh', Rf', I', L') ∧ n' = 207 ∧ FO (qGG D cA b (qEx b kS vS xb xl xs)) n' sh' Rf' I' (b + 0)) [] [.ref (b + 0)] qEx_ok mmOffice_init mk_Law_9 rfl (Nat.le_of_ble_eq_true rfl) rfl rfl (Nat.le_of_ble_eq_true rfl) dLaw_4 rfl (by decide) ?_ ?_
  · exact c_initS qEx_ok qEx_EN qEx_AO kTapeS (by omega) (by omega) q_c_at q_z_at q_z_at (fun n' sh' Rf' I' L' e f _ => ⟨rfl, n', sh', Rf', I', L', rfl, by omega, f⟩)
  rintro v τ ⟨rfl, n1, sh1, Rf1, I1, L1, rfl, rfl, hF⟩
  refine ev_astore_n dLaw_7 (by decide) ?_
  refine ev_new (kc := 101) (ks := 100599) (ci := 12) (q := (qR12, qT12, 164)) qEx_ok rfl (q_t8 217 (by decide +kernel) rfl) (q_t6 209 (by decide +kernel) rfl) (q_t1 18 (by decide +kernel) rfl) hdfModel dLaw_8 ?_
  refine ev_dup dLaw_11 rfl ?_
  refine ev_callI (d' := 1) (a := b + 207) (B' := (101, 100599)) (B'' := (0, 0)) (post' := fun v τ => v = none ∧ ∃ n' sh' Rf' I' L', τ = (n', sh', Rf', I', L') ∧ n' = 309 ∧ WfModel (qGG D cA b (qEx b kS vS xb xl xs)) n' sh' Rf' (b + 207) ∧ FM I' (b + 207) ∧ InT TModel 102 I' (b + 207) ∧ ∀ a, a < b + 207 → sh' a = sh1 a ∧ Rf' a = Rf1 a ∧ I' a = I1 a) [] [.ref (b + 207)] qEx_ok mmModel_init mk_Law_12 rfl (Nat.le_of_ble_eq_true rfl) rfl rfl (Nat.le_of_ble_eq_true rfl) dLaw_12 rfl (by decide) ?_ ?_
  · refine m_initS qEx_ok (by omega) (by omega) q_c_at q_z_at q_z_at (fun n' sh' Rf' I' L' e w f it bl => ⟨rfl, n', sh', Rf', I', L', rfl, by omega, w, f, it, fun a ha => ?_⟩)
    obtain ⟨b1, b2, b3, -⟩ := bl a ha
    have hne : a ≠ b + 207 := Nat.ne_of_lt ha
    exact ⟨b1.trans (q_c_ne hne), b2.trans (q_z_ne hne), b3.trans (q_z_ne hne)⟩
  rintro v τ ⟨rfl, n2, sh2, Rf2, I2, L2, rfl, rfl, hM, hFM, it, bl⟩
  have hF2 : FO (qGG D cA b (qEx b kS vS xb xl xs)) 309 sh2 Rf2 I2 (b + 0) := hF.up (by omega) (fun c c1 c2 => ⟨(bl c (by omega)).1, (bl c (by omega)).2.1⟩) (fun c c1 c2 => (bl c (by omega)).2.2)
  have hR : RI (rgA (b + 0) (b + 207)) I2 := rgA_i rfl hF2.2.2.1 it
  refine ev_astore_n dLaw_15 (by decide) ?_
  refine ev_iconst (nI 0) dLaw_16 (by decide) ?_
  refine ev_istore_n dLaw_17 (by decide) ?_
  refine ev_sub (lwL xb (b + 0) (b + 207) 0) rfl ?_
  exact lw_loop (R := rgA (b + 0) (b + 207)) (by omega) (fun _ => rfl) rfl _ 0 Rf2 I2 L2 (Nat.lt_succ_self _) (by omega) (by rw [show I2 (b + 0 + 46) 1 = 0 from hF2.2.1.2.2.2.2.2.1, show I2 (b + 207) 66 = 0 from hFM.1.2.2.1]) (hF2.oi rgA_x hR) (FM.mi hM (rgA_m rfl) hR hFM)
end LP
