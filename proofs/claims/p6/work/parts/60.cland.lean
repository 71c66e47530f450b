/-! The class's constructors: Land. -/
def fLand_init_139 (D : va_G) (cA : FieldType → ClassId) (b : Nat) (E : State → Prop) (o : Nat) (n : Nat) (sh : Nat → qC) (Rf : Nat → Nat → Option Nat) (I : Nat → Nat → Int32) (L : Nat → Nat → Int64) (post : Option Value → qS → Prop)  : Prop :=
  Ev (qGG D cA b E) mLand_clear 1 (0, 0) 0 (lv_args 0 [.ref o]) [] (n, sh, Rf, I, L) (fun v τ => ∃ (I3 : Nat → Nat → Int32) (L4 : Nat → Nat → Int64), v = none ∧ τ = (n, sh, Rf, I3, L4) ∧ post none (n, sh, Rf, I3, L4))
set_option maxHeartbeats 4000000 in
set_option maxRecDepth 20000 in
theorem sLand_init_139 {D : va_G} {cA : FieldType → ClassId} {b : Nat} {E : State → Prop} (o : Nat) (n : Nat) (sh : Nat → qC) (Rf : Nat → Nat → Option Nat) (I : Nat → Nat → Int32) (L : Nat → Nat → Int64) (post : Option Value → qS → Prop)  (hok : q_ok (qGG D cA b E)) (hw : WfLand (qGG D cA b E) n sh Rf o) (H : fLand_init_139 D cA b E o n sh Rf I L post ) : Ev (qGG D cA b E) mLand_init 2 (0, 0) 139 [(0, .ref o)] [] (n, sh, Rf, I, L) post := by
  unfold fLand_init_139 at H
  refine ev_aload_n dLand_init_139 rfl ?_
  refine ev_callV [] [] (B' := (0, 0)) (B'' := (0, 0)) hok mmLand_clear mk_Land_74 (ci := 1) rfl rfl (woLand hw) rfl (Nat.le_of_ble_eq_true rfl) rfl (Nat.le_of_ble_eq_true rfl) dLand_init_140 rfl (by decide) H (fun v τ p1 => ?_)
  obtain ⟨I3, L4, rfl, rfl, H⟩ := p1
  exact ev_vret rfl dLand_init_143 H
section IL
variable {D : va_G} {cA : FieldType → ClassId} {b : Nat} {E : State → Prop} {o : Nat} {post : Option Value → qS → Prop} {n : Nat} {sh : Nat → qC} {Rf : Nat → Nat → Option Nat} {I : Nat → Nat → Int32} {L : Nat → Nat → Int64}
/-- nothing below o has changed -/
def Bel (o : Nat) (sh sh' : Nat → qC) (Rf Rf' : Nat → Nat → Option Nat) (I I' : Nat → Nat → Int32) (L L' : Nat → Nat → Int64) : Prop := ∀ a, a < o → sh' a = sh a ∧ Rf' a = Rf a ∧ I' a = I a ∧ L' a = L a
theorem iLand (hok : q_ok (qGG D cA b E)) (hb : b ≤ o) (hn : o + 1 = b + n) (hs : sh o = .inr 1) (hI : I o = fun _ => 0) (hL : L o = fun _ => 0) (hp : ∀ n' sh' Rf' I' L', n' = n + 15 → WfLand (qGG D cA b E) n' sh' Rf' o → ZLand I' o → Bel o sh sh' Rf Rf' I I' L L' → post none (n', sh', Rf', I', L')) : Ev (qGG D cA b E) mLand_init 2 (15, 363) 0 (lv_args 0 [.ref o]) [] (n, sh, Rf, I, L) post :=
  iLand_rows (n0 := n) (sh0 := sh) (Rf0 := Rf) (I0 := I) (L0 := L) hok ⟨rfl, hb, hn, hs, hI, hL, fun i x hi => absurd hi (by omega), fun a ha => ⟨rfl, rfl, rfl, rfl⟩⟩ (fun n1 sh1 Rf1 I1 L1 hP => sLand_init_139 o n1 sh1 Rf1 I1 L1 post hok hP.wfLand (l_clear hok hP.wfLand (fun I2 z2 a2 _ => ⟨I2, L1, rfl, rfl, hp n1 sh1 Rf1 I2 L1 hP.1 hP.wfLand z2 (fun a ha => by
    obtain ⟨b1, b2, b3, b4⟩ := hP.2.2.2.2.2.2.2 a ha
    exact ⟨b1, b2, (a2 a (by omega) (by omega) (by omega)).trans b3, b4⟩)⟩)))
end IL
