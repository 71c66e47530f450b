/-! SaltOffice: about keeps what holds. -/
section OK
variable {D : va_G} {cA : FieldType → ClassId} {b : Nat} {kS vS : Nat → Nat} {xb xl : Nat} {xs : Nat → Int32} {R : qRg} {o n : Nat} {sh : Nat → qC} {Rf Rf' : Nat → Nat → Option Nat} {I I' : Nat → Nat → Int32} {L : Nat → Nat → Int64} {post : Option Value → qS → Prop}
theorem yo_about {p1 : Int32} (h : OI (qGG D cA b (qEx b kS vS xb xl xs)) R n sh Rf I o) (hp : ∀ (r : Int32) (Rf' : Nat → Nat → Option Nat) (I' : Nat → Nat → Int32) (L' : Nat → Nat → Int64), OI (qGG D cA b (qEx b kS vS xb xl xs)) R n sh Rf' I' o → (∀ a, o + 207 ≤ a → Rf' a = Rf a ∧ I' a = I a) → post (some (.int r)) (n, sh, Rf', I', L')) : Ev (qGG D cA b (qEx b kS vS xb xl xs)) mOffice_about 1 (0, 0) 0 (lv_args 0 [.ref o, .int p1]) [] (n, sh, Rf, I, L) post := by
  obtain ⟨l, hl, wl⟩ := h.2.2.2.1
  have no : ∀ r : Int32, post (some (.int r)) (n, sh, Rf, I, L) := fun r => hp r Rf I L h (fun a _ => ⟨rfl, rfl⟩)
  refine sOffice_about_0 o n sh Rf I L post p1 l qEx_ok h.1 hl wl.1 ?_
  unfold fOffice_about_0
  refine ⟨fun _ => no _, fun _ => ⟨fun _ => no _, fun _ => ⟨fun _ => no _, fun _ => ⟨fun _ => no _, fun _ => ⟨fun _ => no _, fun _ => ⟨fun _ => no _, fun _ => ⟨fun _ => no _, fun _ => ⟨fun _ => no _, fun _ => ⟨fun _ => ?_, fun _ => no _⟩⟩⟩⟩⟩⟩⟩⟩⟩
  exact y_shelf (R := R) qEx_ok h.1 h.2.2.2.2.2.2.1 ⟨I, L, rfl, Or.inl ⟨rfl, no _⟩⟩ (fun r wr => ⟨I, L, rfl, Or.inr ⟨r, rfl, wr.1, no _⟩⟩)
end OK
