/-! A new Run. -/
/-- what is known of a new Run -/
def qRun (G : qG) : qS → Nat → Prop := fun σ a => WfRun G σ.1 σ.2.1 σ.2.2.1 a ∧ σ.2.2.1 a 0 = some (a + 1) ∧ WfLand G σ.1 σ.2.1 σ.2.2.1 (a + 1) ∧ σ.2.2.2.1 a 15 = 0
theorem qRun_loc {G : qG} : LocalP 66 (qRun G) := fun n sh Rf I L n' sh' Rf' I' L' a hn h p => by
  obtain ⟨w, r, l, z⟩ := p
  obtain ⟨a1, a2, a3, a4⟩ := h a (Nat.le_refl _) (by omega)
  have g : Ag a 66 sh sh' Rf Rf' := fun x x1 x2 => ⟨(h x x1 x2).1, (h x x1 x2).2.1⟩
  refine ⟨wbRun hn g w, ?_, wbLand hn (g.sub (by omega) (by omega)) l, ?_⟩
  · show Rf' a 0 = _; rw [a2]; exact r
  · show I' a 15 = 0; rw [a3]; exact z
theorem hdfRun : ∀ k, k < 20 → defaultValue (qft 7 k) = q_fv (qft 7 k) none 0 0 := fun k hk => match k, hk with | 0, _ => rfl | 1, _ => rfl | 2, _ => rfl | 3, _ => rfl | 4, _ => rfl | 5, _ => rfl | 6, _ => rfl | 7, _ => rfl | 8, _ => rfl | 9, _ => rfl | 10, _ => rfl | 11, _ => rfl | 12, _ => rfl | 13, _ => rfl | 14, _ => rfl | 15, _ => rfl | 16, _ => rfl | 17, _ => rfl | 18, _ => rfl | 19, _ => rfl | (j + 20), h => absurd h (by omega)
section KR
variable {D : va_G} {cA : FieldType → ClassId} {b : Nat} {E : State → Prop}
theorem OJ.run {a n0 : Nat} {sh0 : Nat → qC} {Rf0 : Nat → Nat → Option Nat} {I0 : Nat → Nat → Int32} {L0 : Nat → Nat → Int64} {n' : Nat} {sh' : Nat → qC} {Rf' : Nat → Nat → Option Nat} {I' : Nat → Nat → Int32} {L' : Nat → Nat → Int64} (hP : OJ (qGG D cA b E) 7 (plRun (qGG D cA b E)) a n0 sh0 Rf0 I0 L0 iFRun iLRun 65 n' sh' Rf' I' L') : qRun (qGG D cA b E) (n', sh', Rf', I', L') a := by
  have g0 : Rf' a 0 = some (a + 1) ∧ _ := ⟨(hP.2.2.2.2.2.2.1 _ (List.mem_of_getElem? (i := 14) rfl)).1, (hP.2.2.2.2.2.2.1 _ (List.mem_of_getElem? (i := 14) rfl)).2.2.2.2⟩
  have g1 : Rf' a 1 = some (a + 17) ∧ _ := ⟨(hP.2.2.2.2.2.2.1 _ (List.mem_of_getElem? (i := 13) rfl)).1, (hP.2.2.2.2.2.2.1 _ (List.mem_of_getElem? (i := 13) rfl)).2.2.2.2⟩
  have g2 : Rf' a 2 = some (a + 19) ∧ _ := ⟨(hP.2.2.2.2.2.2.1 _ (List.mem_of_getElem? (i := 12) rfl)).1, (hP.2.2.2.2.2.2.1 _ (List.mem_of_getElem? (i := 12) rfl)).2.2.2.2⟩
  have g3 : Rf' a 3 = some (a + 24) ∧ _ := ⟨(hP.2.2.2.2.2.2.1 _ (List.mem_of_getElem? (i := 11) rfl)).1, (hP.2.2.2.2.2.2.1 _ (List.mem_of_getElem? (i := 11) rfl)).2.2.2.2⟩
  have g4 : Rf' a 4 = some (a + 31) ∧ _ := ⟨(hP.2.2.2.2.2.2.1 _ (List.mem_of_getElem? (i := 10) rfl)).1, (hP.2.2.2.2.2.2.1 _ (List.mem_of_getElem? (i := 10) rfl)).2.2.2.2⟩
  have g5 : Rf' a 5 = some (a + 44) ∧ _ := ⟨(hP.2.2.2.2.2.2.1 _ (List.mem_of_getElem? (i := 9) rfl)).1, (hP.2.2.2.2.2.2.1 _ (List.mem_of_getElem? (i := 9) rfl)).2.2.2.2⟩
  have g6 : Rf' a 6 = some (a + 53) ∧ _ := ⟨(hP.2.2.2.2.2.2.1 _ (List.mem_of_getElem? (i := 8) rfl)).1, (hP.2.2.2.2.2.2.1 _ (List.mem_of_getElem? (i := 8) rfl)).2.2.2.2⟩
  have g7 : Rf' a 7 = some (a + 58) ∧ _ := ⟨(hP.2.2.2.2.2.2.1 _ (List.mem_of_getElem? (i := 7) rfl)).1, (hP.2.2.2.2.2.2.1 _ (List.mem_of_getElem? (i := 7) rfl)).2.2.2.2⟩
  have g8 : Rf' a 8 = some (a + 59) ∧ sh' (a + 59) = .inl (.int, 64) := ⟨(hP.2.2.2.2.2.2.1 _ (List.mem_of_getElem? (i := 6) rfl)).1, (hP.2.2.2.2.2.2.1 _ (List.mem_of_getElem? (i := 6) rfl)).2.2.2.2.1⟩
  have g9 : Rf' a 9 = some (a + 60) ∧ sh' (a + 60) = .inl (.int, 11) := ⟨(hP.2.2.2.2.2.2.1 _ (List.mem_of_getElem? (i := 5) rfl)).1, (hP.2.2.2.2.2.2.1 _ (List.mem_of_getElem? (i := 5) rfl)).2.2.2.2.1⟩
  have g10 : Rf' a 10 = some (a + 61) ∧ sh' (a + 61) = .inl (.long, 6) := ⟨(hP.2.2.2.2.2.2.1 _ (List.mem_of_getElem? (i := 4) rfl)).1, (hP.2.2.2.2.2.2.1 _ (List.mem_of_getElem? (i := 4) rfl)).2.2.2.2.1⟩
  have g11 : Rf' a 11 = some (a + 62) ∧ sh' (a + 62) = .inl (.int, 18) := ⟨(hP.2.2.2.2.2.2.1 _ (List.mem_of_getElem? (i := 3) rfl)).1, (hP.2.2.2.2.2.2.1 _ (List.mem_of_getElem? (i := 3) rfl)).2.2.2.2.1⟩
  have g12 : Rf' a 12 = some (a + 63) ∧ sh' (a + 63) = .inl (.int, 6) := ⟨(hP.2.2.2.2.2.2.1 _ (List.mem_of_getElem? (i := 2) rfl)).1, (hP.2.2.2.2.2.2.1 _ (List.mem_of_getElem? (i := 2) rfl)).2.2.2.2.1⟩
  have g13 : Rf' a 13 = some (a + 64) ∧ sh' (a + 64) = .inl (.int, 6) := ⟨(hP.2.2.2.2.2.2.1 _ (List.mem_of_getElem? (i := 1) rfl)).1, (hP.2.2.2.2.2.2.1 _ (List.mem_of_getElem? (i := 1) rfl)).2.2.2.2.1⟩
  have g14 : Rf' a 14 = some (a + 65) ∧ sh' (a + 65) = .inl (.long, 11) := ⟨(hP.2.2.2.2.2.2.1 _ (List.mem_of_getElem? (i := 0) rfl)).1, (hP.2.2.2.2.2.2.1 _ (List.mem_of_getElem? (i := 0) rfl)).2.2.2.2.1⟩
  obtain ⟨p1, p2, p3, p4, p5, p6, p7, p8⟩ := hP
  refine ⟨⟨⟨p2, by show a + 65 < b + n'; have q : a + 1 = b + n0 := p3; omega, p4⟩, fun x hx => ?_, ⟨g2.1, g2.2.1⟩, ⟨g3.1, g3.2.1⟩, ⟨g4.1, g4.2.1⟩, ⟨g5.1, g5.2.1⟩, ⟨g6.1, g6.2.1⟩, ⟨g7.1, g7.2.1⟩⟩, g0.1, g0.2.1, ?_⟩
  · simp only [wlRun, List.mem_cons, List.not_mem_nil, or_false] at hx
    rcases hx with rfl | rfl | rfl | rfl | rfl | rfl | rfl
    · exact g8
    · exact g9
    · exact g10
    · exact g11
    · exact g12
    · exact g13
    · exact g14
  · show I' a 15 = 0
    rw [p5]; rfl
theorem kRun (hok : q_ok (qGG D cA b E)) (hEN : qEN E) (n : Nat) (sh : Nat → qC) (Rf : Nat → Nat → Option Nat) (I : Nat → Nat → Int32) (L : Nat → Nat → Int64) (a : Nat) (post' : Option Value → qS → Prop) (hb : b ≤ a) (hn : a + 1 = b + n) (hs : sh a = .inr 7) (hI : I a = fun _ => 0) (hL : L a = fun _ => 0) (hp : ∀ n' sh' Rf' I' L', n' + 1 = n + 66 → qRun (qGG D cA b E) (n', sh', Rf', I', L') a → Bel a sh sh' Rf Rf' I I' L L' → post' none (n', sh', Rf', I', L')) : Ev (qGG D cA b E) mRun_init 3 (65, 51099) 0 (lv_args 0 [.ref a]) [] (n, sh, Rf, I, L) post' :=
  iRun_rows (n0 := n) (sh0 := sh) (Rf0 := Rf) (I0 := I) (L0 := L) hok hEN ⟨rfl, hb, hn, hs, hI, hL, fun p hp => absurd hp List.not_mem_nil, fun _ _ => ⟨rfl, rfl, rfl, rfl⟩⟩ (fun n' sh' Rf' I' L' hP => hp n' sh' Rf' I' L' (by have := hP.1; omega) hP.run hP.2.2.2.2.2.2.2)
end KR
