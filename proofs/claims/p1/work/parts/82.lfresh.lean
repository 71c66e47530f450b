/-! The law on a fresh object, one call: by program (law1.py). -/
theorem hdfOffice : ∀ k, k < 10 → defaultValue (qft 11 k) = q_fv (qft 11 k) none 0 0 := fun k hk => match k, hk with | 0, _ => rfl | 1, _ => rfl | 2, _ => rfl | 3, _ => rfl | 4, _ => rfl | 5, _ => rfl | 6, _ => rfl | 7, _ => rfl | 8, _ => rfl | 9, _ => rfl | (j + 10), h => absurd h (by omega)
theorem hdf_t (t : FieldType) (h1 : t ≠ .float) (h2 : t ≠ .double) : defaultValue t = q_fv t none 0 0 := by
  cases t <;> first | rfl | exact absurd rfl h1 | exact absurd rfl h2
theorem hdfModel : ∀ k, k < 164 → defaultValue (qft 12 k) = q_fv (qft 12 k) none 0 0 := by
  have h : ∀ k, k < 164 → qft 12 k ≠ .float ∧ qft 12 k ≠ .double := by decide +kernel
  exact fun k hk => hdf_t _ (h k hk).1 (h k hk).2
section LF
variable {G : qG} {n n' : Nat} {sh sh' : Nat → qC} {Rf Rf' : Nat → Nat → Option Nat} {I I' : Nat → Nat → Int32} {o : Nat}
theorem WfModel.fr (h : WfModel G n sh Rf o) (e : Rf' o = Rf o) : WfModel G n sh Rf' o := ⟨h.1, fun x hx => ⟨by rw [e]; exact (h.2 x hx).1, (h.2 x hx).2⟩⟩
theorem FM.fr (h : FM I o) (e : ∀ a, o ≤ a → I' a = I a) : FM I' o := by
  unfold FM ZM at h ⊢
  rw [e o (Nat.le_refl _), e (o + 7) (by omega), e (o + 8) (by omega), e (o + 9) (by omega), e (o + 26) (by omega), e (o + 6) (by omega), e (o + 29) (by omega), e (o + 25) (by omega)]
  exact h
theorem WO.up (hn : n ≤ n') (e : Ag o 207 sh sh' Rf Rf') (h : WO G n sh Rf o) : WO G n' sh' Rf' o := by
  obtain ⟨⟨w0, w1, w2, w3, w4, w5, w6, w7⟩, l1, l2, r4, rr, x0, y0⟩ := h
  have q : Rf' o = Rf o := (e o (Nat.le_refl _) (by omega)).2
  refine ⟨⟨⟨w0.1, by have := w0.2.1; omega, (e o (Nat.le_refl _) (by omega)).1.trans w0.2.2⟩, fun y hy => (List.not_mem_nil hy).elim, ⟨by rw [q]; exact w2.1, wbTape hn (e.sub (by omega) (by omega)) w2.2⟩, ⟨by rw [q]; exact w3.1, wbTrade hn (e.sub (by omega) (by omega)) w3.2⟩, ⟨by rw [q]; exact w4.1, wbFacts hn (e.sub (by omega) (by omega)) w4.2⟩, ⟨by rw [q]; exact w5.1, wbRun hn (e.sub (by omega) (by omega)) w5.2⟩, ⟨by rw [q]; exact w6.1, wbRun hn (e.sub (by omega) (by omega)) w6.2⟩, ⟨by rw [q]; exact w7.1, (e (o + 40) (by omega) (by omega)).1.trans w7.2⟩⟩, ⟨by rw [q]; exact l1.1, wbLand hn (e.sub (by omega) (by omega)) l1.2⟩, ⟨by rw [q]; exact l2.1, wbLand hn (e.sub (by omega) (by omega)) l2.2⟩, ⟨by rw [q]; exact r4.1, wbReform hn (e.sub (by omega) (by omega)) r4.2⟩, fun i hi => ⟨by rw [(e (o + 40) (by omega) (by omega)).2]; exact (rr i hi).1, wbReform hn (e.sub (by omega) (by omega)) (rr i hi).2⟩, ⟨by rw [(e (o + 55) (by omega) (by omega)).2]; exact x0.1, wbLand hn (e.sub (by omega) (by omega)) x0.2⟩, ⟨by rw [(e (o + 121) (by omega) (by omega)).2]; exact y0.1, wbLand hn (e.sub (by omega) (by omega)) y0.2⟩⟩
theorem FC.up (e : ∀ a, o ≤ a → a < o + 207 → I' a = I a) (h : FC I o) : FC I' o := by
  obtain ⟨f1, f2, f3, f4, f5, f6, f7, f8, f9⟩ := h
  refine ⟨?_, ?_, ?_, ?_, ?_, ?_, ?_, ?_, fun i hi => ?_⟩
  · rw [e o (Nat.le_refl _) (by omega)]; exact f1
  · rw [e (o + 1) (by omega) (by omega)]; exact f2
  · rw [e (o + 1) (by omega) (by omega)]; exact f3
  · rw [e (o + 1) (by omega) (by omega)]; exact f4
  · unfold ZLand DistId at f5 ⊢
    rw [e (o + 8) (by omega) (by omega), e (o + 8 + 2) (by omega) (by omega)]
    exact f5
  · rw [e (o + 46) (by omega) (by omega)]; exact f6
  · rw [e (o + 48) (by omega) (by omega)]; exact f7
  · rw [e (o + 55) (by omega) (by omega)]; exact f8
  · have f := f9 i hi
    unfold ZReform at f ⊢
    rw [e (o + 187 + 5 * i) (by omega) (by omega), e (o + 187 + 5 * i + 2) (by omega) (by omega), e (o + 187 + 5 * i + 3) (by omega) (by omega)]
    exact f
end LF
section LP
variable {D : va_G} {cA : FieldType → ClassId} {b : Nat} {kS vS : Nat → Nat} {xb xl : Nat} {xs : Nat → Int32} {n : Nat} {sh : Nat → qC} {Rf : Nat → Nat → Option Nat} {I : Nat → Nat → Int32} {L : Nat → Nat → Int64} {post : Option Value → qS → Prop} {ox om q : Nat}
theorem lf_x (hW : WO (qGG D cA b (qEx b kS vS xb xl xs)) n sh Rf ox) : b ≤ ox ∧ ox < b + n ∧ sh ox = .inr 11 := ⟨hW.1.1.1, by have : ox + 186 < b + n := hW.1.1.2.1; omega, hW.1.1.2.2⟩
theorem lf_m (hM : WfModel (qGG D cA b (qEx b kS vS xb xl xs)) n sh Rf om) : b ≤ om ∧ om < b + n ∧ sh om = .inr 12 := ⟨hM.1.1, by have : om + 101 < b + n := hM.1.2.1; omega, hM.1.2.2⟩
set_option maxHeartbeats 1000000 in
theorem lf_feed (hq : q + 6 ≤ xl) (hxl : xl < 2 ^ 31) (hW : WO (qGG D cA b (qEx b kS vS xb xl xs)) n sh Rf ox) (hF : FC I ox) (hM : WfModel (qGG D cA b (qEx b kS vS xb xl xs)) n sh Rf om) (hFM : FM I om) (ho : om = ox + 207) (kk : ∀ Rf I L, Ev (qGG D cA b (qEx b kS vS xb xl xs)) mLaw 110 (0, 0) 980 (lwL xb ox om q) [] (n, sh, Rf, I, L) post) : Ev (qGG D cA b (qEx b kS vS xb xl xs)) mLaw 110 (0, 0) 144 (lwL xb ox om q) [] (n, sh, Rf, I, L) post := by
  refine lw_feed hq hxl (lf_x hW) (lf_m hM) (ev_deep (by decide) (c_feed qEx_ok hW hF (fun Rf' I' L' e => ⟨_, Rf', I', L', rfl, rfl, ev_deep (by decide) (m_feed qEx_ok (hM.fr (e om (by omega)).1) (hFM.fr (fun a ha => (e a (by omega)).2.1)) (fun I2 L2 => ⟨Rf', I2, L2, rfl, rfl, kk _ _ _⟩))⟩)))
set_option maxHeartbeats 1000000 in
theorem lf_end (hq : q + 6 ≤ xl) (hxl : xl < 2 ^ 31) (hW : WO (qGG D cA b (qEx b kS vS xb xl xs)) n sh Rf ox) (hF : FC I ox) (hM : WfModel (qGG D cA b (qEx b kS vS xb xl xs)) n sh Rf om) (hFM : FM I om) (ho : om = ox + 207) (kk : ∀ Rf I L, Ev (qGG D cA b (qEx b kS vS xb xl xs)) mLaw 110 (0, 0) 980 (lwL xb ox om q) [] (n, sh, Rf, I, L) post) : Ev (qGG D cA b (qEx b kS vS xb xl xs)) mLaw 110 (0, 0) 207 (lwL xb ox om q) [] (n, sh, Rf, I, L) post := by
  refine lw_end hq hxl (lf_x hW) (lf_m hM) (ev_deep (by decide) (c_end qEx_ok hW hF (fun Rf' I' L' e => ⟨_, Rf', I', L', rfl, rfl, ev_deep (by decide) (m_end qEx_ok (hM.fr (e om (by omega)).1) (hFM.fr (fun a ha => (e a (by omega)).2.1)) (fun I2 L2 => ⟨Rf', I2, L2, rfl, rfl, kk _ _ _⟩))⟩)))
set_option maxHeartbeats 1000000 in
theorem lf_land (hq : q + 6 ≤ xl) (hxl : xl < 2 ^ 31) (hW : WO (qGG D cA b (qEx b kS vS xb xl xs)) n sh Rf ox) (hF : FC I ox) (hM : WfModel (qGG D cA b (qEx b kS vS xb xl xs)) n sh Rf om) (hFM : FM I om) (ho : om = ox + 207) (kk : ∀ Rf I L, Ev (qGG D cA b (qEx b kS vS xb xl xs)) mLaw 110 (0, 0) 980 (lwL xb ox om q) [] (n, sh, Rf, I, L) post) : Ev (qGG D cA b (qEx b kS vS xb xl xs)) mLaw 110 (0, 0) 230 (lwL xb ox om q) [] (n, sh, Rf, I, L) post := by
  refine lw_land hq hxl (lf_x hW) (lf_m hM) (ev_deep (by decide) (c_land qEx_ok hW hF (fun Rf' I' L' e => ⟨_, Rf', I', L', rfl, rfl, ev_deep (by decide) (m_land qEx_ok (hM.fr (e om (by omega)).1) (hFM.fr (fun a ha => (e a (by omega)).2.1)) (fun I2 L2 => ⟨Rf', I2, L2, rfl, rfl, kk _ _ _⟩))⟩)))
set_option maxHeartbeats 1000000 in
theorem lf_reform (hq : q + 6 ≤ xl) (hxl : xl < 2 ^ 31) (hW : WO (qGG D cA b (qEx b kS vS xb xl xs)) n sh Rf ox) (hF : FC I ox) (hM : WfModel (qGG D cA b (qEx b kS vS xb xl xs)) n sh Rf om) (hFM : FM I om) (ho : om = ox + 207) (kk : ∀ Rf I L, Ev (qGG D cA b (qEx b kS vS xb xl xs)) mLaw 110 (0, 0) 980 (lwL xb ox om q) [] (n, sh, Rf, I, L) post) : Ev (qGG D cA b (qEx b kS vS xb xl xs)) mLaw 110 (0, 0) 243 (lwL xb ox om q) [] (n, sh, Rf, I, L) post := by
  refine lw_reform hq hxl (lf_x hW) (lf_m hM) (ev_deep (by decide) (c_reform qEx_ok hW hF (fun Rf' I' L' e => ⟨_, Rf', I', L', rfl, rfl, ev_deep (by decide) (m_reform qEx_ok (hM.fr (e om (by omega)).1) (hFM.fr (fun a ha => (e a (by omega)).2.1)) (fun I2 L2 => ⟨Rf', I2, L2, rfl, rfl, kk _ _ _⟩))⟩)))
set_option maxHeartbeats 1000000 in
theorem lf_fault (hq : q + 6 ≤ xl) (hxl : xl < 2 ^ 31) (hW : WO (qGG D cA b (qEx b kS vS xb xl xs)) n sh Rf ox) (hF : FC I ox) (hM : WfModel (qGG D cA b (qEx b kS vS xb xl xs)) n sh Rf om) (hFM : FM I om) (ho : om = ox + 207) (kk : ∀ Rf I L, Ev (qGG D cA b (qEx b kS vS xb xl xs)) mLaw 110 (0, 0) 980 (lwL xb ox om q) [] (n, sh, Rf, I, L) post) : Ev (qGG D cA b (qEx b kS vS xb xl xs)) mLaw 110 (0, 0) 266 (lwL xb ox om q) [] (n, sh, Rf, I, L) post := by
  refine lw_fault hq hxl (lf_x hW) (lf_m hM) (ev_deep (by decide) (c_fault qEx_ok hW hF (fun Rf' I' L' e => ⟨_, Rf', I', L', rfl, rfl, ev_deep (by decide) (m_fault qEx_ok (hM.fr (e om (by omega)).1) (hFM.fr (fun a ha => (e a (by omega)).2.1)) (fun I2 L2 => ⟨Rf', I2, L2, rfl, rfl, kk _ _ _⟩))⟩)))
set_option maxHeartbeats 1000000 in
theorem lf_days (hq : q + 6 ≤ xl) (hxl : xl < 2 ^ 31) (hW : WO (qGG D cA b (qEx b kS vS xb xl xs)) n sh Rf ox) (hF : FC I ox) (hM : WfModel (qGG D cA b (qEx b kS vS xb xl xs)) n sh Rf om) (hFM : FM I om) (ho : om = ox + 207) (kk : ∀ Rf I L, Ev (qGG D cA b (qEx b kS vS xb xl xs)) mLaw 110 (0, 0) 980 (lwL xb ox om q) [] (n, sh, Rf, I, L) post) : Ev (qGG D cA b (qEx b kS vS xb xl xs)) mLaw 110 (0, 0) 289 (lwL xb ox om q) [] (n, sh, Rf, I, L) post := by
  refine lw_days hq hxl (lf_x hW) (lf_m hM) (ev_deep (by decide) (c_days qEx_ok hW hF (fun Rf' I' L' e => ⟨_, Rf', I', L', rfl, rfl, ev_deep (by decide) (m_days qEx_ok (hM.fr (e om (by omega)).1) (hFM.fr (fun a ha => (e a (by omega)).2.1)) (fun I2 L2 => ⟨Rf', I2, L2, rfl, rfl, kk _ _ _⟩))⟩)))
set_option maxHeartbeats 1000000 in
theorem lf_merchant (hq : q + 6 ≤ xl) (hxl : xl < 2 ^ 31) (hW : WO (qGG D cA b (qEx b kS vS xb xl xs)) n sh Rf ox) (hF : FC I ox) (hM : WfModel (qGG D cA b (qEx b kS vS xb xl xs)) n sh Rf om) (hFM : FM I om) (ho : om = ox + 207) (kk : ∀ Rf I L, Ev (qGG D cA b (qEx b kS vS xb xl xs)) mLaw 110 (0, 0) 980 (lwL xb ox om q) [] (n, sh, Rf, I, L) post) : Ev (qGG D cA b (qEx b kS vS xb xl xs)) mLaw 110 (0, 0) 322 (lwL xb ox om q) [] (n, sh, Rf, I, L) post := by
  refine lw_merchant hq hxl (lf_x hW) (lf_m hM) (ev_deep (by decide) (c_merchant qEx_ok hW hF (fun Rf' I' L' e => ⟨_, Rf', I', L', rfl, rfl, ev_deep (by decide) (m_merchant qEx_ok (hM.fr (e om (by omega)).1) (hFM.fr (fun a ha => (e a (by omega)).2.1)) (fun I2 L2 => ⟨Rf', I2, L2, rfl, rfl, kk _ _ _⟩))⟩)))
set_option maxHeartbeats 1000000 in
theorem lf_costs (hq : q + 6 ≤ xl) (hxl : xl < 2 ^ 31) (hW : WO (qGG D cA b (qEx b kS vS xb xl xs)) n sh Rf ox) (hF : FC I ox) (hM : WfModel (qGG D cA b (qEx b kS vS xb xl xs)) n sh Rf om) (hFM : FM I om) (ho : om = ox + 207) (kk : ∀ Rf I L, Ev (qGG D cA b (qEx b kS vS xb xl xs)) mLaw 110 (0, 0) 980 (lwL xb ox om q) [] (n, sh, Rf, I, L) post) : Ev (qGG D cA b (qEx b kS vS xb xl xs)) mLaw 110 (0, 0) 345 (lwL xb ox om q) [] (n, sh, Rf, I, L) post := by
  refine lw_costs hq hxl (lf_x hW) (lf_m hM) (ev_deep (by decide) (c_costs qEx_ok hW (fun Rf' I' L' e => ⟨_, Rf', I', L', rfl, rfl, ev_deep (by decide) (m_costs qEx_ok (hM.fr (e om (by omega)).1) (fun I2 L2 => ⟨Rf', I2, L2, rfl, rfl, kk _ _ _⟩))⟩)))
set_option maxHeartbeats 1000000 in
theorem lf_weather (hq : q + 6 ≤ xl) (hxl : xl < 2 ^ 31) (hW : WO (qGG D cA b (qEx b kS vS xb xl xs)) n sh Rf ox) (hF : FC I ox) (hM : WfModel (qGG D cA b (qEx b kS vS xb xl xs)) n sh Rf om) (hFM : FM I om) (ho : om = ox + 207) (kk : ∀ Rf I L, Ev (qGG D cA b (qEx b kS vS xb xl xs)) mLaw 110 (0, 0) 980 (lwL xb ox om q) [] (n, sh, Rf, I, L) post) : Ev (qGG D cA b (qEx b kS vS xb xl xs)) mLaw 110 (0, 0) 408 (lwL xb ox om q) [] (n, sh, Rf, I, L) post := by
  refine lw_weather hq hxl (lf_x hW) (lf_m hM) (ev_deep (by decide) (c_weather qEx_ok hW hF (fun Rf' I' L' e => ⟨_, Rf', I', L', rfl, rfl, ev_deep (by decide) (m_weather qEx_ok (hM.fr (e om (by omega)).1) (hFM.fr (fun a ha => (e a (by omega)).2.1)) (fun I2 L2 => ⟨Rf', I2, L2, rfl, rfl, kk _ _ _⟩))⟩)))
set_option maxHeartbeats 1000000 in
theorem lf_forged (hq : q + 6 ≤ xl) (hxl : xl < 2 ^ 31) (hW : WO (qGG D cA b (qEx b kS vS xb xl xs)) n sh Rf ox) (hF : FC I ox) (hM : WfModel (qGG D cA b (qEx b kS vS xb xl xs)) n sh Rf om) (hFM : FM I om) (ho : om = ox + 207) (kk : ∀ Rf I L, Ev (qGG D cA b (qEx b kS vS xb xl xs)) mLaw 110 (0, 0) 980 (lwL xb ox om q) [] (n, sh, Rf, I, L) post) : Ev (qGG D cA b (qEx b kS vS xb xl xs)) mLaw 110 (0, 0) 451 (lwL xb ox om q) [] (n, sh, Rf, I, L) post := by
  refine lw_forged hq hxl (lf_x hW) (lf_m hM) (ev_deep (by decide) (c_forged qEx_ok hW hF (fun Rf' I' L' e => ⟨_, Rf', I', L', rfl, rfl, ev_deep (by decide) (m_forged qEx_ok (hM.fr (e om (by omega)).1) (hFM.fr (fun a ha => (e a (by omega)).2.1)) (fun I2 L2 => ⟨Rf', I2, L2, rfl, rfl, kk _ _ _⟩))⟩)))
set_option maxHeartbeats 1000000 in
theorem lf_dead (hq : q + 6 ≤ xl) (hxl : xl < 2 ^ 31) (hW : WO (qGG D cA b (qEx b kS vS xb xl xs)) n sh Rf ox) (hF : FC I ox) (hM : WfModel (qGG D cA b (qEx b kS vS xb xl xs)) n sh Rf om) (hFM : FM I om) (ho : om = ox + 207) (kk : ∀ Rf I L, Ev (qGG D cA b (qEx b kS vS xb xl xs)) mLaw 110 (0, 0) 980 (lwL xb ox om q) [] (n, sh, Rf, I, L) post) : Ev (qGG D cA b (qEx b kS vS xb xl xs)) mLaw 110 (0, 0) 484 (lwL xb ox om q) [] (n, sh, Rf, I, L) post := by
  refine lw_dead hq hxl (lf_x hW) (lf_m hM) (ev_deep (by decide) (c_dead qEx_ok hW hF (fun Rf' I' L' e => ⟨_, Rf', I', L', rfl, rfl, ev_deep (by decide) (m_dead qEx_ok (hM.fr (e om (by omega)).1) (hFM.fr (fun a ha => (e a (by omega)).2.1)) (fun I2 L2 => ⟨Rf', I2, L2, rfl, rfl, kk _ _ _⟩))⟩)))
set_option maxHeartbeats 1000000 in
theorem lf_untell (hq : q + 6 ≤ xl) (hxl : xl < 2 ^ 31) (hW : WO (qGG D cA b (qEx b kS vS xb xl xs)) n sh Rf ox) (hF : FC I ox) (hM : WfModel (qGG D cA b (qEx b kS vS xb xl xs)) n sh Rf om) (hFM : FM I om) (ho : om = ox + 207) (kk : ∀ Rf I L, Ev (qGG D cA b (qEx b kS vS xb xl xs)) mLaw 110 (0, 0) 980 (lwL xb ox om q) [] (n, sh, Rf, I, L) post) : Ev (qGG D cA b (qEx b kS vS xb xl xs)) mLaw 110 (0, 0) 527 (lwL xb ox om q) [] (n, sh, Rf, I, L) post := by
  refine lw_untell hq hxl (lf_x hW) (lf_m hM) (ev_deep (by decide) (c_untell qEx_ok hW hF (fun Rf' I' L' e => ⟨_, Rf', I', L', rfl, rfl, ev_deep (by decide) (m_untell qEx_ok (hM.fr (e om (by omega)).1) (hFM.fr (fun a ha => (e a (by omega)).2.1)) (fun I2 L2 => ⟨Rf', I2, L2, rfl, rfl, kk _ _ _⟩))⟩)))
set_option maxHeartbeats 1000000 in
theorem lf_later (hq : q + 6 ≤ xl) (hxl : xl < 2 ^ 31) (hW : WO (qGG D cA b (qEx b kS vS xb xl xs)) n sh Rf ox) (hF : FC I ox) (hM : WfModel (qGG D cA b (qEx b kS vS xb xl xs)) n sh Rf om) (hFM : FM I om) (ho : om = ox + 207) (kk : ∀ Rf I L, Ev (qGG D cA b (qEx b kS vS xb xl xs)) mLaw 110 (0, 0) 980 (lwL xb ox om q) [] (n, sh, Rf, I, L) post) : Ev (qGG D cA b (qEx b kS vS xb xl xs)) mLaw 110 (0, 0) 550 (lwL xb ox om q) [] (n, sh, Rf, I, L) post := by
  refine lw_later hq hxl (lf_x hW) (lf_m hM) (ev_deep (by decide) (c_later qEx_ok hW hF (fun Rf' I' L' e => ⟨_, Rf', I', L', rfl, rfl, ev_deep (by decide) (m_later qEx_ok (hM.fr (e om (by omega)).1) (hFM.fr (fun a ha => (e a (by omega)).2.1)) (fun I2 L2 => ⟨Rf', I2, L2, rfl, rfl, kk _ _ _⟩))⟩)))
set_option maxHeartbeats 1000000 in
theorem lf_run (hq : q + 6 ≤ xl) (hxl : xl < 2 ^ 31) (hW : WO (qGG D cA b (qEx b kS vS xb xl xs)) n sh Rf ox) (hF : FC I ox) (hM : WfModel (qGG D cA b (qEx b kS vS xb xl xs)) n sh Rf om) (hFM : FM I om) (ho : om = ox + 207) (kk : ∀ Rf I L, Ev (qGG D cA b (qEx b kS vS xb xl xs)) mLaw 110 (0, 0) 980 (lwL xb ox om q) [] (n, sh, Rf, I, L) post) : Ev (qGG D cA b (qEx b kS vS xb xl xs)) mLaw 110 (0, 0) 573 (lwL xb ox om q) [] (n, sh, Rf, I, L) post := by
  refine lw_run hq hxl (lf_x hW) (lf_m hM) (ev_deep (by decide) (c_run qEx_ok hW hF (fun Rf' I' L' e => ⟨_, Rf', I', L', rfl, rfl, ev_deep (by decide) (m_run qEx_ok (hM.fr (e om (by omega)).1) (hFM.fr (fun a ha => (e a (by omega)).2.1)) (fun I2 L2 => ⟨Rf', I2, L2, rfl, rfl, kk _ _ _⟩))⟩)))
set_option maxHeartbeats 1000000 in
theorem lf_ran (hq : q + 6 ≤ xl) (hxl : xl < 2 ^ 31) (hW : WO (qGG D cA b (qEx b kS vS xb xl xs)) n sh Rf ox) (hF : FC I ox) (hM : WfModel (qGG D cA b (qEx b kS vS xb xl xs)) n sh Rf om) (hFM : FM I om) (ho : om = ox + 207) (kk : ∀ Rf I L, Ev (qGG D cA b (qEx b kS vS xb xl xs)) mLaw 110 (0, 0) 980 (lwL xb ox om q) [] (n, sh, Rf, I, L) post) : Ev (qGG D cA b (qEx b kS vS xb xl xs)) mLaw 110 (0, 0) 616 (lwL xb ox om q) [] (n, sh, Rf, I, L) post := by
  refine lw_ran hq hxl (lf_x hW) (lf_m hM) (ev_deep (by decide) (c_ran qEx_ok hW hF (fun Rf' I' L' e => ⟨_, Rf', I', L', rfl, rfl, ev_deep (by decide) (m_ran qEx_ok (hM.fr (e om (by omega)).1) (hFM.fr (fun a ha => (e a (by omega)).2.1)) (fun I2 L2 => ⟨Rf', I2, L2, rfl, rfl, kk _ _ _⟩))⟩)))
set_option maxHeartbeats 1000000 in
theorem lf_fort (hq : q + 6 ≤ xl) (hxl : xl < 2 ^ 31) (hW : WO (qGG D cA b (qEx b kS vS xb xl xs)) n sh Rf ox) (hF : FC I ox) (hM : WfModel (qGG D cA b (qEx b kS vS xb xl xs)) n sh Rf om) (hFM : FM I om) (ho : om = ox + 207) (kk : ∀ Rf I L, Ev (qGG D cA b (qEx b kS vS xb xl xs)) mLaw 110 (0, 0) 980 (lwL xb ox om q) [] (n, sh, Rf, I, L) post) : Ev (qGG D cA b (qEx b kS vS xb xl xs)) mLaw 110 (0, 0) 640 (lwL xb ox om q) [] (n, sh, Rf, I, L) post := by
  refine lw_fort hq hxl (lf_x hW) (lf_m hM) (ev_deep (by decide) (c_fort qEx_ok hW hF (fun Rf' I' L' e => ⟨_, Rf', I', L', rfl, rfl, ev_deep (by decide) (m_fort qEx_ok (hM.fr (e om (by omega)).1) (hFM.fr (fun a ha => (e a (by omega)).2.1)) (fun I2 L2 => ⟨Rf', I2, L2, rfl, rfl, kk _ _ _⟩))⟩)))
set_option maxHeartbeats 1000000 in
theorem lf_pan (hq : q + 6 ≤ xl) (hxl : xl < 2 ^ 31) (hW : WO (qGG D cA b (qEx b kS vS xb xl xs)) n sh Rf ox) (hF : FC I ox) (hM : WfModel (qGG D cA b (qEx b kS vS xb xl xs)) n sh Rf om) (hFM : FM I om) (ho : om = ox + 207) (kk : ∀ Rf I L, Ev (qGG D cA b (qEx b kS vS xb xl xs)) mLaw 110 (0, 0) 980 (lwL xb ox om q) [] (n, sh, Rf, I, L) post) : Ev (qGG D cA b (qEx b kS vS xb xl xs)) mLaw 110 (0, 0) 683 (lwL xb ox om q) [] (n, sh, Rf, I, L) post := by
  refine lw_pan hq hxl (lf_x hW) (lf_m hM) (ev_deep (by decide) (c_pan qEx_ok hW hF (fun Rf' I' L' e => ⟨_, Rf', I', L', rfl, rfl, ev_deep (by decide) (m_pan qEx_ok (hM.fr (e om (by omega)).1) (hFM.fr (fun a ha => (e a (by omega)).2.1)) (fun I2 L2 => ⟨Rf', I2, L2, rfl, rfl, kk _ _ _⟩))⟩)))
set_option maxHeartbeats 1000000 in
theorem lf_town (hq : q + 6 ≤ xl) (hxl : xl < 2 ^ 31) (hW : WO (qGG D cA b (qEx b kS vS xb xl xs)) n sh Rf ox) (hF : FC I ox) (hM : WfModel (qGG D cA b (qEx b kS vS xb xl xs)) n sh Rf om) (hFM : FM I om) (ho : om = ox + 207) (kk : ∀ Rf I L, Ev (qGG D cA b (qEx b kS vS xb xl xs)) mLaw 110 (0, 0) 980 (lwL xb ox om q) [] (n, sh, Rf, I, L) post) : Ev (qGG D cA b (qEx b kS vS xb xl xs)) mLaw 110 (0, 0) 726 (lwL xb ox om q) [] (n, sh, Rf, I, L) post := by
  refine lw_town hq hxl (lf_x hW) (lf_m hM) (ev_deep (by decide) (c_town qEx_ok hW hF (fun Rf' I' L' e => ⟨_, Rf', I', L', rfl, rfl, ev_deep (by decide) (m_town qEx_ok (hM.fr (e om (by omega)).1) (hFM.fr (fun a ha => (e a (by omega)).2.1)) (fun I2 L2 => ⟨Rf', I2, L2, rfl, rfl, kk _ _ _⟩))⟩)))
set_option maxHeartbeats 1000000 in
theorem lf_book (hq : q + 6 ≤ xl) (hxl : xl < 2 ^ 31) (hW : WO (qGG D cA b (qEx b kS vS xb xl xs)) n sh Rf ox) (hF : FC I ox) (hM : WfModel (qGG D cA b (qEx b kS vS xb xl xs)) n sh Rf om) (hFM : FM I om) (ho : om = ox + 207) (kk : ∀ Rf I L, Ev (qGG D cA b (qEx b kS vS xb xl xs)) mLaw 110 (0, 0) 980 (lwL xb ox om q) [] (n, sh, Rf, I, L) post) : Ev (qGG D cA b (qEx b kS vS xb xl xs)) mLaw 110 (0, 0) 769 (lwL xb ox om q) [] (n, sh, Rf, I, L) post := by
  refine lw_book hq hxl (lf_x hW) (lf_m hM) (ev_deep (by decide) (c_book qEx_ok hW hF (fun Rf' I' L' e => ⟨_, Rf', I', L', rfl, rfl, ev_deep (by decide) (m_book qEx_ok (hM.fr (e om (by omega)).1) (hFM.fr (fun a ha => (e a (by omega)).2.1)) (fun I2 L2 => ⟨Rf', I2, L2, rfl, rfl, kk _ _ _⟩))⟩)))
set_option maxHeartbeats 1000000 in
theorem lf_paper (hq : q + 6 ≤ xl) (hxl : xl < 2 ^ 31) (hW : WO (qGG D cA b (qEx b kS vS xb xl xs)) n sh Rf ox) (hF : FC I ox) (hM : WfModel (qGG D cA b (qEx b kS vS xb xl xs)) n sh Rf om) (hFM : FM I om) (ho : om = ox + 207) (kk : ∀ Rf I L, Ev (qGG D cA b (qEx b kS vS xb xl xs)) mLaw 110 (0, 0) 980 (lwL xb ox om q) [] (n, sh, Rf, I, L) post) : Ev (qGG D cA b (qEx b kS vS xb xl xs)) mLaw 110 (0, 0) 813 (lwL xb ox om q) [] (n, sh, Rf, I, L) post := by
  refine lw_paper hq hxl (lf_x hW) (lf_m hM) (ev_deep (by decide) (c_paper qEx_ok hW hF (fun Rf' I' L' e => ⟨_, Rf', I', L', rfl, rfl, ev_deep (by decide) (m_paper qEx_ok (hM.fr (e om (by omega)).1) (hFM.fr (fun a ha => (e a (by omega)).2.1)) (fun I2 L2 => ⟨Rf', I2, L2, rfl, rfl, kk _ _ _⟩))⟩)))
set_option maxHeartbeats 1000000 in
theorem lf_way (hq : q + 6 ≤ xl) (hxl : xl < 2 ^ 31) (hW : WO (qGG D cA b (qEx b kS vS xb xl xs)) n sh Rf ox) (hF : FC I ox) (hM : WfModel (qGG D cA b (qEx b kS vS xb xl xs)) n sh Rf om) (hFM : FM I om) (ho : om = ox + 207) (kk : ∀ Rf I L, Ev (qGG D cA b (qEx b kS vS xb xl xs)) mLaw 110 (0, 0) 980 (lwL xb ox om q) [] (n, sh, Rf, I, L) post) : Ev (qGG D cA b (qEx b kS vS xb xl xs)) mLaw 110 (0, 0) 846 (lwL xb ox om q) [] (n, sh, Rf, I, L) post := by
  refine lw_way hq hxl (lf_x hW) (lf_m hM) (ev_deep (by decide) (c_way qEx_ok hW hF (fun Rf' I' L' e => ⟨_, Rf', I', L', rfl, rfl, ev_deep (by decide) (m_way qEx_ok (hM.fr (e om (by omega)).1) (hFM.fr (fun a ha => (e a (by omega)).2.1)) (fun I2 L2 => ⟨Rf', I2, L2, rfl, rfl, kk _ _ _⟩))⟩)))
set_option maxHeartbeats 1000000 in
theorem lf_worth (hq : q + 6 ≤ xl) (hxl : xl < 2 ^ 31) (hW : WO (qGG D cA b (qEx b kS vS xb xl xs)) n sh Rf ox) (hF : FC I ox) (hM : WfModel (qGG D cA b (qEx b kS vS xb xl xs)) n sh Rf om) (hFM : FM I om) (ho : om = ox + 207) (kk : ∀ Rf I L, Ev (qGG D cA b (qEx b kS vS xb xl xs)) mLaw 110 (0, 0) 980 (lwL xb ox om q) [] (n, sh, Rf, I, L) post) : Ev (qGG D cA b (qEx b kS vS xb xl xs)) mLaw 110 (0, 0) 880 (lwL xb ox om q) [] (n, sh, Rf, I, L) post := by
  refine lw_worth hq hxl (lf_x hW) (lf_m hM) (ev_deep (by decide) (c_worth qEx_ok hW hF (fun Rf' I' L' e => ⟨_, Rf', I', L', rfl, rfl, ev_deep (by decide) (m_worth qEx_ok (hM.fr (e om (by omega)).1) (hFM.fr (fun a ha => (e a (by omega)).2.1)) (fun I2 L2 => ⟨Rf', I2, L2, rfl, rfl, kk _ _ _⟩))⟩)))
set_option maxHeartbeats 1000000 in
theorem lf_judge (hq : q + 6 ≤ xl) (hxl : xl < 2 ^ 31) (hW : WO (qGG D cA b (qEx b kS vS xb xl xs)) n sh Rf ox) (hF : FC I ox) (hM : WfModel (qGG D cA b (qEx b kS vS xb xl xs)) n sh Rf om) (hFM : FM I om) (ho : om = ox + 207) (kk : ∀ Rf I L, Ev (qGG D cA b (qEx b kS vS xb xl xs)) mLaw 110 (0, 0) 980 (lwL xb ox om q) [] (n, sh, Rf, I, L) post) : Ev (qGG D cA b (qEx b kS vS xb xl xs)) mLaw 110 (0, 0) 904 (lwL xb ox om q) [] (n, sh, Rf, I, L) post := by
  refine lw_judge hq hxl (lf_x hW) (lf_m hM) (ev_deep (by decide) (c_judge qEx_ok hW hF (fun Rf' I' L' e => ⟨_, Rf', I', L', rfl, rfl, ev_deep (by decide) (m_judge qEx_ok (hM.fr (e om (by omega)).1) (hFM.fr (fun a ha => (e a (by omega)).2.1)) (fun I2 L2 => ⟨Rf', I2, L2, rfl, rfl, kk _ _ _⟩))⟩)))
set_option maxHeartbeats 1000000 in
theorem lf_about (hq : q + 6 ≤ xl) (hxl : xl < 2 ^ 31) (hW : WO (qGG D cA b (qEx b kS vS xb xl xs)) n sh Rf ox) (hF : FC I ox) (hM : WfModel (qGG D cA b (qEx b kS vS xb xl xs)) n sh Rf om) (hFM : FM I om) (ho : om = ox + 207) (kk : ∀ Rf I L, Ev (qGG D cA b (qEx b kS vS xb xl xs)) mLaw 110 (0, 0) 980 (lwL xb ox om q) [] (n, sh, Rf, I, L) post) : Ev (qGG D cA b (qEx b kS vS xb xl xs)) mLaw 110 (0, 0) 957 (lwL xb ox om q) [] (n, sh, Rf, I, L) post := by
  refine lw_about hq hxl (lf_x hW) (lf_m hM) (ev_deep (by decide) (c_about qEx_ok hW hF (fun Rf' I' L' e => ⟨_, Rf', I', L', rfl, rfl, ev_deep (by decide) (m_about qEx_ok (hM.fr (e om (by omega)).1) (hFM.fr (fun a ha => (e a (by omega)).2.1)) (fun I2 L2 => ⟨Rf', I2, L2, rfl, rfl, kk _ _ _⟩))⟩)))
set_option maxHeartbeats 1000000 in
theorem lf_all (hq : q + 6 ≤ xl) (hxl : xl < 2 ^ 31) (hW : WO (qGG D cA b (qEx b kS vS xb xl xs)) n sh Rf ox) (hF : FC I ox) (hM : WfModel (qGG D cA b (qEx b kS vS xb xl xs)) n sh Rf om) (hFM : FM I om) (ho : om = ox + 207) (kk : ∀ Rf I L, Ev (qGG D cA b (qEx b kS vS xb xl xs)) mLaw 110 (0, 0) 980 (lwL xb ox om q) [] (n, sh, Rf, I, L) post) : ∀ k, k < 24 → Ev (qGG D cA b (qEx b kS vS xb xl xs)) mLaw 110 (0, 0) (lwPc.getD k 0) (lwL xb ox om q) [] (n, sh, Rf, I, L) post := by
  intro k hk
  match k, hk with
  | 0, _ => exact lf_feed hq hxl hW hF hM hFM ho kk
  | 1, _ => exact lf_end hq hxl hW hF hM hFM ho kk
  | 2, _ => exact lf_land hq hxl hW hF hM hFM ho kk
  | 3, _ => exact lf_reform hq hxl hW hF hM hFM ho kk
  | 4, _ => exact lf_fault hq hxl hW hF hM hFM ho kk
  | 5, _ => exact lf_days hq hxl hW hF hM hFM ho kk
  | 6, _ => exact lf_merchant hq hxl hW hF hM hFM ho kk
  | 7, _ => exact lf_costs hq hxl hW hF hM hFM ho kk
  | 8, _ => exact lf_weather hq hxl hW hF hM hFM ho kk
  | 9, _ => exact lf_forged hq hxl hW hF hM hFM ho kk
  | 10, _ => exact lf_dead hq hxl hW hF hM hFM ho kk
  | 11, _ => exact lf_untell hq hxl hW hF hM hFM ho kk
  | 12, _ => exact lf_later hq hxl hW hF hM hFM ho kk
  | 13, _ => exact lf_run hq hxl hW hF hM hFM ho kk
  | 14, _ => exact lf_ran hq hxl hW hF hM hFM ho kk
  | 15, _ => exact lf_fort hq hxl hW hF hM hFM ho kk
  | 16, _ => exact lf_pan hq hxl hW hF hM hFM ho kk
  | 17, _ => exact lf_town hq hxl hW hF hM hFM ho kk
  | 18, _ => exact lf_book hq hxl hW hF hM hFM ho kk
  | 19, _ => exact lf_paper hq hxl hW hF hM hFM ho kk
  | 20, _ => exact lf_way hq hxl hW hF hM hFM ho kk
  | 21, _ => exact lf_worth hq hxl hW hF hM hFM ho kk
  | 22, _ => exact lf_judge hq hxl hW hF hM hFM ho kk
  | 23, _ => exact lf_about hq hxl hW hF hM hFM ho kk
  | k + 24, h => exact absurd h (by omega)
set_option maxHeartbeats 4000000 in
/-- p1: the law answers true on every script of at most 6 ints -/
theorem lw_part1 (hxl : xl ≤ 6) (sh0 : Nat → qC) (Rf0 : Nat → Nat → Option Nat) (I0 : Nat → Nat → Int32) (L0 : Nat → Nat → Int64) : Ev (qGG D cA b (qEx b kS vS xb xl xs)) mLaw 110 (309, 216243) 0 (lv_args 0 [.ref xb]) [] (0, sh0, Rf0, I0, L0) (fun v _ => v = some (.int 1)) := by
  refine ev_new (kc := 308) (ks := 216233) (ci := 11) (q := (qR11, qT11, 10)) qEx_ok rfl (q_t1 23 (by decide +kernel) rfl) (q_t1 24 (by decide +kernel) rfl) (q_t1 1 (by decide +kernel) rfl) hdfOffice dLaw_0 ?_
  refine ev_dup dLaw_3 rfl ?_
  refine ev_callI (d' := 7) (a := b + 0) (B' := (206, 115470)) (B'' := (102, 100763)) (post' := fun v τ => v = none ∧ ∃ n' sh' Rf' I' L', τ = (n', sh', Rf', I', L') ∧ n' = 207 ∧ WO (qGG D cA b (qEx b kS vS xb xl xs)) n' sh' Rf' (b + 0) ∧ FC I' (b + 0)) [] [.ref (b + 0)] qEx_ok mmOffice_init mk_Law_9 rfl (Nat.le_of_ble_eq_true rfl) rfl rfl (Nat.le_of_ble_eq_true rfl) dLaw_4 rfl (by decide) ?_ ?_
  · exact c_init qEx_ok qEx_EN qEx_AO kTape (by omega) (by omega) q_c_at q_z_at q_z_at (fun n' sh' Rf' I' L' e w f _ => ⟨rfl, n', sh', Rf', I', L', rfl, by omega, w, f⟩)
  rintro v τ ⟨rfl, n1, sh1, Rf1, I1, L1, rfl, rfl, hW, hF⟩
  refine ev_astore_n dLaw_7 (by decide) ?_
  refine ev_new (kc := 101) (ks := 100599) (ci := 12) (q := (qR12, qT12, 164)) qEx_ok rfl (q_t8 217 (by decide +kernel) rfl) (q_t6 209 (by decide +kernel) rfl) (q_t1 18 (by decide +kernel) rfl) hdfModel dLaw_8 ?_
  refine ev_dup dLaw_11 rfl ?_
  refine ev_callI (d' := 1) (a := b + 207) (B' := (101, 100599)) (B'' := (0, 0)) (post' := fun v τ => v = none ∧ ∃ n' sh' Rf' I' L', τ = (n', sh', Rf', I', L') ∧ n' = 309 ∧ WfModel (qGG D cA b (qEx b kS vS xb xl xs)) n' sh' Rf' (b + 207) ∧ FM I' (b + 207) ∧ ∀ a, a < b + 207 → sh' a = sh1 a ∧ Rf' a = Rf1 a ∧ I' a = I1 a) [] [.ref (b + 207)] qEx_ok mmModel_init mk_Law_12 rfl (Nat.le_of_ble_eq_true rfl) rfl rfl (Nat.le_of_ble_eq_true rfl) dLaw_12 rfl (by decide) ?_ ?_
  · refine m_init qEx_ok (by omega) (by omega) q_c_at q_z_at q_z_at (fun n' sh' Rf' I' L' e w f bl => ⟨rfl, n', sh', Rf', I', L', rfl, by omega, w, f, fun a ha => ?_⟩)
    obtain ⟨b1, b2, b3, -⟩ := bl a ha
    have hne : a ≠ b + 207 := Nat.ne_of_lt ha
    exact ⟨b1.trans (q_c_ne hne), b2.trans (q_z_ne hne), b3.trans (q_z_ne hne)⟩
  rintro v τ ⟨rfl, n2, sh2, Rf2, I2, L2, rfl, rfl, hM, hFM, bl⟩
  have hW2 : WO (qGG D cA b (qEx b kS vS xb xl xs)) 309 sh2 Rf2 (b + 0) := hW.up (by omega) (fun c c1 c2 => ⟨(bl c (by omega)).1, (bl c (by omega)).2.1⟩)
  have hF2 : FC I2 (b + 0) := hF.up (fun c c1 c2 => (bl c (by omega)).2.2)
  refine ev_astore_n dLaw_15 (by decide) ?_
  refine ev_iconst (nI 0) dLaw_16 (by decide) ?_
  refine ev_istore_n dLaw_17 (by decide) ?_
  refine ev_sub (lwL xb (b + 0) (b + 207) 0) rfl ?_
  refine lw_head (by omega) (by omega) (fun h6 => ?_) (fun _ => rfl)
  have kk : ∀ Rf I L, Ev (qGG D cA b (qEx b kS vS xb xl xs)) mLaw 110 (0, 0) 980 (lwL xb (b + 0) (b + 207) 0) [] (309, sh2, Rf, I, L) (fun v _ => v = some (.int 1)) := fun Rf I L => lw_next (lw_head (by omega) (by omega) (fun h12 => absurd h12 (by omega)) (fun _ => rfl))
  exact lw_switch h6 (by omega) (lf_all h6 (by omega) hW2 hF2 hM hFM rfl kk) (kk _ _ _)
end LP
