/-! The class: days and feed on a fresh object. -/
section CF
variable {D : va_G} {cA : FieldType → ClassId} {b : Nat} {E : State → Prop} {o n : Nat} {sh : Nat → qC} {Rf : Nat → Nat → Option Nat} {I : Nat → Nat → Int32} {L : Nat → Nat → Int64} {post : Option Value → qS → Prop}
theorem c_days (hok : q_ok (qGG D cA b E)) (hw : WO (qGG D cA b E) n sh Rf o) (hf : FC I o) {x1 x2 : Int32} (hp : ∀ Rf' I' L', Fr o Rf I L Rf' I' L' → post (some (.int (aDays x1 x2))) (n, sh, Rf', I', L')) : Ev (qGG D cA b E) mOffice_days 1 (0, 0) 0 (lv_args 0 [.ref o, .int x1, .int x2]) [] (n, sh, Rf, I, L) post := by
  have no : (aIn x1 0 15 = 0 ∨ aIn x2 0 15 = 0) → post (some (.int (-1))) (n, sh, Rf, I, L) := fun h => by
    have e : aDays x1 x2 = -1 := if_pos h
    rw [← e]; exact hp _ _ _ Fr.rfl
  refine sOffice_days_0 o n sh Rf I L post x1 x2 (o + 8) hok hw.1 hw.2.1.1 hw.2.1.2 ?_
  refine sLand_daysBetween_0 (o + 8) n sh Rf I L _ x1 x2 hok hw.2.1.2 ⟨fun h => ⟨_, I, L, rfl, rfl, no (Or.inl (aIn_lo h))⟩, fun h => ⟨fun h1 => ⟨_, I, L, rfl, rfl, no (Or.inl (aIn_hi ((i_le (a := 15) (c := 16) (by decide)).mp h1)))⟩, fun h1 => ⟨fun h2 => ⟨_, I, L, rfl, rfl, no (Or.inr (aIn_lo h2))⟩, fun h2 => ⟨fun h3 => ?_, fun h3 => ⟨_, I, L, rfl, rfl, no (Or.inr (aIn_ge (d := 16) (by decide) h3))⟩⟩⟩⟩⟩
  have g1 : ¬ 15 < x1 := fun q => h1 ((i_le (a := 15) (c := 16) (by decide)).mpr q)
  have g3 : ¬ 15 < x2 := (i_lt (a := 15) (c := 16) (by decide)).mp h3
  have ne : ¬ (aIn x1 0 15 = 0 ∨ aIn x2 0 15 = 0) := fun q => q.elim (aIn_in h g1) (aIn_in h2 g3)
  obtain ⟨X, hX, rfl⟩ := nI_of2 (M := 15) (n := 15) (by decide) h (Int32.not_lt.mp g1)
  obtain ⟨Y, hY, rfl⟩ := nI_of2 (M := 15) (n := 15) (by decide) h2 (Int32.not_lt.mp g3)
  have l : (nI X * 16) + nI Y = nI (X * 16 + Y) := nI_lin X 16 Y
  have fv := hf.2.2.2.2.1.2.2.2.2.2 X Y (by omega) (by omega)
  refine ⟨by rw [l]; exact vp_in_nI (by omega) (by omega), _, I, L, rfl, rfl, ?_⟩
  rw [l, nI_clamp (by omega), show X * 16 + Y = 16 * X + Y by omega, fv]
  by_cases hxy : X = Y
  · subst hxy
    rw [if_pos rfl]
    have e : aDays (nI X) (nI X) = 0 := by unfold aDays; rw [if_neg ne, if_pos rfl]
    rw [← e]; exact hp _ _ _ Fr.rfl
  · rw [if_neg hxy]
    have e : aDays (nI X) (nI Y) = -1 := by unfold aDays; rw [if_neg ne, if_neg (fun q => hxy ((nI_eq (by omega) (by omega)).mp q))]
    rw [← e]; exact hp _ _ _ Fr.rfl
theorem c_ap1 {t : Nat} (hok : q_ok (qGG D cA b E)) (hw : WfTape (qGG D cA b E) n sh Rf t) {x z z' : Int32} {k : Nat} (hz : ¬ z < 0) (ez : z + Int32.ofInt (-8) = z') (hk : k < 1600) (h6 : I t 6 = nI k) (hp : ∀ I', (∀ c, c ≠ t → c ≠ t + 1 → I' c = I c) → I' t 6 = nI (k + 1) → Ev (qGG D cA b E) mTape_append 0 (0, 0) 3 [(0, .ref t), (1, .int x), (2, .int z')] [] (n, sh, Rf, I', L) post) : Ev (qGG D cA b E) mTape_append 0 (0, 0) 3 [(0, .ref t), (1, .int x), (2, .int z)] [] (n, sh, Rf, I, L) post := by
  refine sTape_append_3 t n sh Rf I L post x z hok hw ⟨fun h => absurd h hz, fun _ => ⟨fun h => absurd h ?_, fun _ => ⟨by rw [h6]; exact vp_in_nI (by omega) (by omega), fun I3 e3 I5 e5 => ?_⟩⟩⟩
  · rw [h6]; exact fun q => absurd ((nI_leI (a := 1600) (by omega) (by omega)).mp q) (by omega)
  · rw [ez]
    refine hp I5 (fun c c1 c2 => by rw [← e5, q_u_ne c1, ← e3, q_u_ne c2]) ?_
    rw [← e5, q_u_at, ← e3, q_u_ne (by omega), h6]
    exact nI_1 k
theorem c_append {t : Nat} (hok : q_ok (qGG D cA b E)) (hw : WfTape (qGG D cA b E) n sh Rf t) {x : Int32} {k : Nat} (hk : k + 4 ≤ 1600) (h6 : I t 6 = nI k) (hp : ∀ I', (∀ c, c ≠ t → c ≠ t + 1 → I' c = I c) → I' t 6 = nI (k + 4) → post none (n, sh, Rf, I', L)) : Ev (qGG D cA b E) mTape_append 0 (0, 0) 0 (lv_args 0 [.ref t, .int x]) [] (n, sh, Rf, I, L) post := by
  refine sTape_append_0 t n sh Rf I L post x hok hw ?_
  refine c_ap1 (z := 24) (z' := 16) hok hw (by decide) (by decide) (by omega) h6 (fun I1 a1 k1 => ?_)
  refine c_ap1 (z := 16) (z' := 8) hok hw (by decide) (by decide) (by omega) k1 (fun I2 a2 k2 => ?_)
  refine c_ap1 (z := 8) (z' := 0) hok hw (by decide) (by decide) (by omega) k2 (fun I3 a3 k3 => ?_)
  refine c_ap1 (z := 0) (z' := -8) hok hw (by decide) (by decide) (by omega) k3 (fun I4 a4 k4 => ?_)
  refine sTape_append_3 t n sh Rf I4 L post x (-8) hok hw ⟨fun _ => hp I4 (fun c c1 c2 => by rw [a4 c c1 c2, a3 c c1 c2, a2 c c1 c2, a1 c c1 c2]) k4, fun h => absurd (by decide) h⟩
theorem c_feed (hok : q_ok (qGG D cA b E)) (hw : WO (qGG D cA b E) n sh Rf o) (hf : FC I o) {x1 x2 x3 x4 x5 : Int32} (hp : ∀ Rf' I' L', Fr o Rf I L Rf' I' L' → post (some (.int (20))) (n, sh, Rf', I', L')) : Ev (qGG D cA b E) mOffice_feed 1 (0, 0) 0 (lv_args 0 [.ref o, .int x1, .int x2, .int x3, .int x4, .int x5]) [] (n, sh, Rf, I, L) post := by
  have wt := wsOffice_0 hw.1
  have h6 : I (o + 1) 6 = nI 0 := hf.2.1
  refine sOffice_feed_0 o n sh Rf I L post x1 x2 x3 x4 x5 hok hw.1 ⟨fun _ => ?_, fun h => absurd (by rw [h6]; decide) h⟩
  refine c_append hok wt (by omega) h6 (fun I1 a1 k1 => ⟨I1, L, rfl, rfl, ?_⟩)
  refine c_append hok wt (by omega) k1 (fun I2 a2 k2 => ⟨I2, L, rfl, rfl, ?_⟩)
  refine c_append hok wt (by omega) k2 (fun I3 a3 k3 => ⟨I3, L, rfl, rfl, ?_⟩)
  refine c_append hok wt (by omega) k3 (fun I4 a4 k4 => ⟨I4, L, rfl, rfl, ?_⟩)
  refine c_append hok wt (by omega) k4 (fun I5 a5 k5 => ⟨I5, L, rfl, rfl, ?_⟩)
  rw [k5]
  exact hp _ _ _ (fun a ha => ⟨rfl, by rw [a5 a (by omega) (by omega), a4 a (by omega) (by omega), a3 a (by omega) (by omega), a2 a (by omega) (by omega), a1 a (by omega) (by omega)], rfl⟩)
end CF
