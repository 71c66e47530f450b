/-! The law on a fresh object, one call: by program (law1.py). -/
theorem hdfOffice : ∀ k, k < 10 → defaultValue (qft 11 k) = q_fv (qft 11 k) none 0 0 := fun k hk => match k, hk with | 0, _ => rfl | 1, _ => rfl | 2, _ => rfl | 3, _ => rfl | 4, _ => rfl | 5, _ => rfl | 6, _ => rfl | 7, _ => rfl | 8, _ => rfl | 9, _ => rfl | (j + 10), h => absurd h (by omega)
theorem hdf_t (t : FieldType) (h1 : t ≠ .float) (h2 : t ≠ .double) : defaultValue t = q_fv t none 0 0 := by
  cases t <;> first | rfl | exact absurd rfl h1 | exact absurd rfl h2
theorem hdfModel : ∀ k, k < 164 → defaultValue (qft 12 k) = q_fv (qft 12 k) none 0 0 := by
  have h : ∀ k, k < 164 → qft 12 k ≠ .float ∧ qft 12 k ≠ .double := by decide +kernel
  exact fun k hk => hdf_t _ (h k hk).1 (h k hk).2
section LF
variable {G : qG} {n n' : Nat} {sh sh' : Nat → qC} {Rf Rf' : Nat → Nat → Option Nat} {I I' : Nat → Nat → Int32} {o : Nat}
theorem WfModel.fr (h : WfModel G n sh Rf o) (e : Rf' o = Rf o) : WfModel G n sh Rf' o := ⟨h.1, fun x hx => ⟨by rw [e]; exact (h.2 x hx).1, (h.2 x hx).2⟩⟩
theorem FM.fr (h : FM I o) (e : ∀ a, o ≤ a → I' a = I a) : FM I' o := by
  unfold FM ZM at h ⊢
  rw [e o (Nat.le_refl _), e (o + 7) (by omega), e (o + 8) (by omega), e (o + 9) (by omega), e (o + 26) (by omega), e (o + 6) (by omega), e (o + 29) (by omega), e (o + 25) (by omega)]
  exact h
theorem WO.up (hn : n ≤ n') (e : Ag o 207 sh sh' Rf Rf') (h : WO G n sh Rf o) : WO G n' sh' Rf' o := by
  obtain ⟨⟨w0, w1, w2, w3, w4, w5, w6, w7⟩, l1, l2, r4, rr, x0, y0⟩ := h
  have q : Rf' o = Rf o := (e o (Nat.le_refl _) (by omega)).2
  refine ⟨⟨⟨w0.1, by have := w0.2.1; omega, (e o (Nat.le_refl _) (by omega)).1.trans w0.2.2⟩, fun y hy => (List.not_mem_nil hy).elim, ⟨by rw [q]; exact w2.1, wbTape hn (e.sub (by omega) (by omega)) w2.2⟩, ⟨by rw [q]; exact w3.1, wbTrade hn (e.sub (by omega) (by omega)) w3.2⟩, ⟨by rw [q]; exact w4.1, wbFacts hn (e.sub (by omega) (by omega)) w4.2⟩, ⟨by rw [q]; exact w5.1, wbRun hn (e.sub (by omega) (by omega)) w5.2⟩, ⟨by rw [q]; exact w6.1, wbRun hn (e.sub (by omega) (by omega)) w6.2⟩, ⟨by rw [q]; exact w7.1, (e (o + 40) (by omega) (by omega)).1.trans w7.2⟩⟩, ⟨by rw [q]; exact l1.1, wbLand hn (e.sub (by omega) (by omega)) l1.2⟩, ⟨by rw [q]; exact l2.1, wbLand hn (e.sub (by omega) (by omega)) l2.2⟩, ⟨by rw [q]; exact r4.1, wbReform hn (e.sub (by omega) (by omega)) r4.2⟩, fun i hi => ⟨by rw [(e (o + 40) (by omega) (by omega)).2]; exact (rr i hi).1, wbReform hn (e.sub (by omega) (by omega)) (rr i hi).2⟩, ⟨by rw [(e (o + 55) (by omega) (by omega)).2]; exact x0.1, wbLand hn (e.sub (by omega) (by omega)) x0.2⟩, ⟨by rw [(e (o + 121) (by omega) (by omega)).2]; exact y0.1, wbLand hn (e.sub (by omega) (by omega)) y0.2⟩⟩
theorem FC.up (e : ∀ a, o ≤ a → a < o + 207 → I' a = I a) (h : FC I o) : FC I' o := by
  obtain ⟨f1, f2, f3, f4, f5, f6, f7, f8, f9⟩ := h
  refine ⟨?_, ?_, ?_, ?_, ?_, ?_, ?_, ?_, fun i hi => ?_⟩
  · rw [e o (Nat.le_refl _) (by omega)]; exact f1
  · rw [e (o + 1) (by omega) (by omega)]; exact f2
  · rw [e (o + 1) (by omega) (by omega)]; exact f3
  · rw [e (o + 1) (by omega) (by omega)]; exact f4
  · unfold ZLand DistId at f5 ⊢
    rw [e (o + 8) (by omega) (by omega), e (o + 8 + 2) (by omega) (by omega)]
    exact f5
  · rw [e (o + 46) (by omega) (by omega)]; exact f6
  · rw [e (o + 48) (by omega) (by omega)]; exact f7
  · rw [e (o + 55) (by omega) (by omega)]; exact f8
  · have f := f9 i hi
    unfold ZReform at f ⊢
    rw [e (o + 187 + 5 * i) (by omega) (by omega), e (o + 187 + 5 * i + 2) (by omega) (by omega), e (o + 187 + 5 * i + 3) (by omega) (by omega)]
    exact f
end LF
