/-! new SaltOffice() gives a fresh object, once Tape's constructor does its part. -/
section NO
variable {D : va_G} {cA : FieldType → ClassId} {b : Nat} {E : State → Prop} {o n0 : Nat} {sh0 : Nat → qC} {Rf0 : Nat → Nat → Option Nat} {I0 : Nat → Nat → Int32} {L0 : Nat → Nat → Int64} {post : Option Value → qS → Prop} {n : Nat} {sh : Nat → qC} {Rf : Nat → Nat → Option Nat} {I : Nat → Nat → Int32} {L : Nat → Nat → Int64}
theorem LI.fresh (h : LI (qGG D cA b E) o n0 sh0 Rf0 I0 L0 4 n sh Rf I L) : WO (qGG D cA b E) n sh Rf o ∧ FC I o := by
  obtain ⟨⟨p1, p2, p3, p4, p5, p6, p7, p8⟩, hR⟩ := h
  have gT := p7 _ (List.mem_of_getElem? (i := 8) rfl)
  have gL := p7 _ (List.mem_of_getElem? (i := 7) rfl)
  have gS := p7 _ (List.mem_of_getElem? (i := 6) rfl)
  have gA := p7 _ (List.mem_of_getElem? (i := 5) rfl)
  have gR := p7 _ (List.mem_of_getElem? (i := 4) rfl)
  have gD := p7 _ (List.mem_of_getElem? (i := 3) rfl)
  have gF := p7 _ (List.mem_of_getElem? (i := 2) rfl)
  have gX := p7 _ (List.mem_of_getElem? (i := 1) rfl)
  have gY := p7 _ (List.mem_of_getElem? (i := 0) rfl)
  have wT : qTape (qGG D cA b E) (n, sh, Rf, I, L) (o + 1) := gT.2.2.2.2
  have wL : qLand (qGG D cA b E) (n, sh, Rf, I, L) (o + 8) := gL.2.2.2.2
  have wS : qLand (qGG D cA b E) (n, sh, Rf, I, L) (o + 24) := gS.2.2.2.2
  have wA : sh (o + 40) = .inl (.object "SaltOffice$Reform", 4) := gA.2.2.2.2
  have wR : qReform (qGG D cA b E) (n, sh, Rf, I, L) (o + 41) := gR.2.2.2.2
  have wD : qTrade (qGG D cA b E) (n, sh, Rf, I, L) (o + 46) := gD.2.2.2.2
  have wF : qFacts (qGG D cA b E) (n, sh, Rf, I, L) (o + 48) := gF.2.2.2.2
  have wX : qRun (qGG D cA b E) (n, sh, Rf, I, L) (o + 55) := gX.2.2.2.2
  have wY : qRun (qGG D cA b E) (n, sh, Rf, I, L) (o + 121) := gY.2.2.2.2
  have q3 : o + 1 = b + n0 := p3
  have tI : I (o + 1) = iFTape := wT.2
  have dI : I (o + 46) = iFTrade := wD.2.1
  have fI : I (o + 48) = iFFacts := wF.2.1
  refine ⟨⟨⟨⟨p2, by show o + 186 < b + n; omega, p4⟩, fun y hy => (List.not_mem_nil hy).elim, ⟨gT.1, wT.1⟩, ⟨gD.1, wD.1⟩, ⟨gF.1, wF.1⟩, ⟨gX.1, wX.1⟩, ⟨gY.1, wY.1⟩, ⟨gA.1, wA⟩⟩, ⟨gL.1, wL.1⟩, ⟨gS.1, wS.1⟩, ⟨gR.1, wR.1⟩, fun i hi => ⟨(hR i hi).1, (hR i hi).2.1⟩, ⟨wX.2.1, wX.2.2.1⟩, ⟨wY.2.1, wY.2.2.1⟩⟩, ?_, ?_, ?_, ?_, wL.2, ?_, ?_, wX.2.2.2, fun i hi => ?_⟩
  · rw [p5]; rfl
  · rw [tI]; rfl
  · rw [tI]; rfl
  · rw [tI]; rfl
  · rw [dI]; rfl
  · rw [fI]; rfl
  · obtain ⟨r1, r2, r3⟩ := (hR i hi).2
    have rI : I (o + 187 + 5 * i) = iFReform := r2
    have z2 : I (o + 187 + 5 * i + 2) = (fun _ => 0) := r3 1 (by decide)
    have z3 : I (o + 187 + 5 * i + 3) = (fun _ => 0) := r3 2 (by decide)
    refine ⟨⟨by rw [rI]; rfl, fun j hj => ⟨by rw [z2], by rw [z3]⟩⟩, by rw [rI]; rfl⟩
/-- new SaltOffice(): 206 cells come, of 115,470 slots; the object is fresh; nothing below it changes -/
theorem c_init (hok : q_ok (qGG D cA b E)) (hEN : qEN E) (hAO : ∀ s : State, E s → va_AO "SaltOffice$Reform" s) (hT : ∀ (n : Nat) (sh : Nat → qC) (Rf : Nat → Nat → Option Nat) (I : Nat → Nat → Int32) (L : Nat → Nat → Int64) (a : Nat) (post' : Option Value → qS → Prop), b ≤ a → a + 1 = b + n → sh a = .inr 8 → (I a = fun _ => 0) → (L a = fun _ => 0) → (∀ n' sh' Rf' I' L', n' + 1 = n + 7 → qTape (qGG D cA b E) (n', sh', Rf', I', L') a → Bel a sh sh' Rf Rf' I I' L L' → post' none (n', sh', Rf', I', L')) → Ev (qGG D cA b E) mTape_init 6 (6, 8036) 0 (lv_args 0 [.ref a]) [] (n, sh, Rf, I, L) post')
    (hb : b ≤ o) (hn : o + 1 = b + n) (hs : sh o = .inr 11) (hI : I o = fun _ => 0) (hL : L o = fun _ => 0) (hp : ∀ n' sh' Rf' I' L', n' = n + 206 → WO (qGG D cA b E) n' sh' Rf' o → FC I' o → Bel o sh sh' Rf Rf' I I' L L' → post none (n', sh', Rf', I', L')) : Ev (qGG D cA b E) mOffice_init 7 (206, 115470) 0 (lv_args 0 [.ref o]) [] (n, sh, Rf, I, L) post := by
  refine iOffice_rows (n0 := n) (sh0 := sh) (Rf0 := Rf) (I0 := I) (L0 := L) hok hEN hAO hT ⟨rfl, hb, hn, hs, hI, hL, fun p hp => absurd hp List.not_mem_nil, fun _ _ => ⟨rfl, rfl, rfl, rfl⟩⟩ (fun n1 sh1 Rf1 I1 L1 hP => ?_)
  refine ev_iconst (0) dOffice_init_105 (by decide) ?_
  refine ev_istore_n dOffice_init_106 (by decide) ?_
  refine ev_sub [(0, .ref o), (1, .int 0)] rfl ?_
  exact iOffice_107 (n0 := n) (sh0 := sh) (Rf0 := Rf) (I0 := I) (L0 := L) hok hEN (fun n' sh' Rf' I' L' h => hp n' sh' Rf' I' L' h.1.1 h.fresh.1 h.fresh.2 h.1.2.2.2.2.2.2.2) 4 0 rfl n1 sh1 Rf1 I1 L1 ⟨hP, fun j hj => absurd hj (by omega)⟩
end NO
