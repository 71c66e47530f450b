/-! The class: more calls on a fresh object. -/
theorem i_lt {x a c : Int32} (h : a.toInt + 1 = c.toInt) : x < c ↔ ¬ a < x := by
  rw [Int32.lt_iff_toInt_lt, Int32.lt_iff_toInt_lt]; omega
theorem i_le {x a c : Int32} (h : a.toInt + 1 = c.toInt) : c ≤ x ↔ a < x := by
  rw [Int32.le_iff_toInt_le, Int32.lt_iff_toInt_lt]; omega
theorem aIn_lt {v a c d : Int32} (h : c.toInt + 1 = d.toInt) (h1 : ¬ v < a) (h2 : v < d) : ¬ aIn v a c = 0 := by
  unfold aIn; rw [if_neg h1, if_neg ((i_lt h).mp h2)]; decide
theorem aIn_ge {v a c d : Int32} (h : c.toInt + 1 = d.toInt) (h2 : ¬ v < d) : aIn v a c = 0 := by
  unfold aIn
  by_cases q : v < a
  · rw [if_pos q]
  · rw [if_neg q, if_pos (Classical.not_not.mp fun z => h2 ((i_lt h).mpr z))]
theorem aIn_lo {v a c : Int32} (h : v < a) : aIn v a c = 0 := if_pos h
theorem aIn_hi {v a c : Int32} (h : c < v) : aIn v a c = 0 := by
  unfold aIn
  by_cases q : v < a
  · rw [if_pos q]
  · rw [if_neg q, if_pos h]
theorem aIn_in {v a c : Int32} (h1 : ¬ v < a) (h2 : ¬ c < v) : ¬ aIn v a c = 0 := by
  unfold aIn; rw [if_neg h1, if_neg h2]; decide
section CO2
variable {D : va_G} {cA : FieldType → ClassId} {b : Nat} {E : State → Prop} {o n : Nat} {sh : Nat → qC} {Rf : Nat → Nat → Option Nat} {I : Nat → Nat → Int32} {L : Nat → Nat → Int64} {post : Option Value → qS → Prop}
theorem c_shelf (hok : q_ok (qGG D cA b E)) (hw : WO (qGG D cA b E) n sh Rf o) {x : Int32} (hn : aIn x 0 3 = 0 → post (some .null) (n, sh, Rf, I, L)) (hy : ∀ i, i < 4 → ¬ aIn x 0 3 = 0 → post (some (.ref (o + 187 + 5 * i))) (n, sh, Rf, I, L)) : Ev (qGG D cA b E) mOffice_shelfAt 0 (0, 0) 0 (lv_args 0 [.ref o, .int x]) [] (n, sh, Rf, I, L) post := by
  refine sOffice_shelfAt_0 o n sh Rf I L post x hok hw.1 ⟨fun h => hn (aIn_lo h), fun h => ⟨fun h1 => ?_, fun h1 => hn (aIn_ge (d := 4) (by decide) h1)⟩⟩
  have h2 := aIn_lt (c := 3) (d := 4) (by decide) h h1
  obtain ⟨S, hS, rfl⟩ := nI_of2 (M := 3) (n := 3) (by decide) h (Int32.not_lt.mp ((i_lt (a := 3) (c := 4) (by decide)).mp h1))
  have h4 : S < 4 := Nat.lt_succ_of_le hS
  have h5 : S < 2 ^ 31 := Nat.lt_trans h4 (by decide)
  refine ⟨vp_in_nI (by omega) (by omega), o + 187 + 5 * S, ?_, (hw.2.2.2.2.1 S h4).2, hy S h4 h2⟩
  rw [nI_clamp h5]; exact (hw.2.2.2.2.1 S h4).1
theorem c_run (hok : q_ok (qGG D cA b E)) (hw : WO (qGG D cA b E) n sh Rf o) (hf : FC I o) {x1 x2 x3 : Int32} (hp : ∀ Rf' I' L', Fr o Rf I L Rf' I' L' → post (some (.int (aRun x1 x2))) (n, sh, Rf', I', L')) : Ev (qGG D cA b E) mOffice_run 7 (0, 0) 0 (lv_args 0 [.ref o, .int x1, .int x2, .int x3]) [] (n, sh, Rf, I, L) post := by
  have no : (aIn x1 0 3 = 0 ∨ aIn x2 0 240 = 0) → post (some (.int (-1))) (n, sh, Rf, I, L) := fun h => by
    have e : aRun x1 x2 = -1 := if_pos h
    rw [← e]; exact hp _ _ _ Fr.rfl
  refine sOffice_run_0 o n sh Rf I L post x1 x2 x3 (o + 8) hok hw.1 hw.2.1.1 hw.2.1.2 (c_shelf hok hw (fun h => ⟨I, L, rfl, Or.inl ⟨rfl, no (Or.inl h)⟩⟩) (fun i hi h => ⟨I, L, rfl, Or.inr ⟨_, rfl, (hw.2.2.2.2.1 i hi).2, fun h1 => no (Or.inr (aIn_lo h1)), fun h1 => ⟨fun h2 => ?_, fun h2 => no (Or.inr (aIn_hi (Int32.not_le.mp h2)))⟩⟩⟩))
  have e : aRun x1 x2 = 0 := if_neg (fun q => q.elim h (aIn_in h1 (Int32.not_lt.mpr h2)))
  obtain ⟨N, hN, rfl⟩ := nI_of2 (M := 240) (n := 240) (by decide) h1 h2
  have hr := hw.1
  have hs : sh (o + 55) = .inr 7 := (wsOffice_8 hr).1.2.2
  obtain ⟨f1, f2, f3, f4, f5, f6, f7, f8, f9⟩ := hf
  refine y_play hok (wsOffice_8 hr) hw.2.2.2.2.2.1.1 hw.2.2.2.2.2.1.2 hw.2.1.2 (wsOffice_5 hr) (wsOffice_6 hr) ⟨Or.inl (by omega), Or.inl (by omega), Or.inl (by omega), f5.2.1, f5.2.2.1, f5.2.2.2.1, f6, f7⟩ (hw.2.2.2.2.1 i hi).2 (Or.inr (by omega)) (f9 i hi).1 hN (fun Rf' I' L' er _ z => ⟨Rf', I', L', rfl, rfl, ?_⟩)
  refine sOffice_run_48 o n sh Rf' I' L' post x1 (nI N) x3 (o + 187 + 5 * i) (o + 8) hok (wcOffice hs er hr) (wcReform hs er (hw.2.2.2.2.1 i hi).2) (by rw [er.1 o (by omega)]; exact hw.2.1.1) (wcLand hs er hw.2.1.2) ?_
  show post (some (.int (I' (o + 55 + 31) 12))) _
  rw [z.2.2.1, ← e]
  exact hp _ _ _ (fun a ha => ⟨er.1 a (by omega), z.1 a (Or.inr (by omega)), z.2.1 a (Or.inr (by omega))⟩)
theorem c_cmp (hok : q_ok (qGG D cA b E)) (hp : post (some (.int 0)) (n, sh, Rf, I, L)) : Ev (qGG D cA b E) mLong_compare_74951 0 (0, 0) 0 (lv_args 0 [.long 0, .long 0]) [] (n, sh, Rf, I, L) post :=
  sLong_compare_74951_0 n sh Rf I L post 0 0 hok ⟨fun _ => ⟨fun h => absurd (by decide) h, fun _ => hp⟩, fun h => absurd (by decide) h⟩
theorem c_waits (hok : q_ok (qGG D cA b E)) (hp : post (some (.int 0)) (n, sh, Rf, I, L)) : Ev (qGG D cA b E) mOffice_compareWaits 1 (0, 0) 0 (lv_args 0 [.long 0, .long 0, .long 0, .long 0]) [] (n, sh, Rf, I, L) post :=
  sOffice_compareWaits_0 n sh Rf I L post 0 0 0 0 hok ⟨fun _ => ⟨fun h => absurd (by decide) h, fun _ => ⟨fun h => absurd (by decide) h, fun _ => c_cmp hok ⟨0, I, L, rfl, rfl, hp⟩⟩⟩, fun h => absurd (by decide) h⟩
theorem c_judge (hok : q_ok (qGG D cA b E)) (hw : WO (qGG D cA b E) n sh Rf o) (hf : FC I o) {x1 x2 x3 x4 : Int32} (hp : ∀ Rf' I' L', Fr o Rf I L Rf' I' L' → post (some (.int (aJudge x1 x2 x3))) (n, sh, Rf', I', L')) : Ev (qGG D cA b E) mOffice_judge 7 (0, 0) 0 (lv_args 0 [.ref o, .int x1, .int x2, .int x3, .int x4]) [] (n, sh, Rf, I, L) post := by
  have no : (aIn x1 0 3 = 0 ∨ aIn x2 0 3 = 0 ∨ aIn x3 0 240 = 0) → post (some (.int (-1))) (n, sh, Rf, I, L) := fun h => by
    have e : aJudge x1 x2 x3 = -1 := if_pos h
    rw [← e]; exact hp _ _ _ Fr.rfl
  refine sOffice_judge_0 o n sh Rf I L post x1 x2 x3 x4 (o + 8) hok hw.1 hw.2.1.1 hw.2.1.2 (c_shelf hok hw (fun h => ⟨I, L, rfl, Or.inl ⟨rfl, c_shelf hok hw (fun _ => ⟨I, L, rfl, Or.inl ⟨rfl, no (Or.inl h)⟩⟩) (fun i hi _ => ⟨I, L, rfl, Or.inr ⟨_, rfl, (hw.2.2.2.2.1 i hi).2, no (Or.inl h)⟩⟩)⟩⟩) (fun i hi h => ⟨I, L, rfl, Or.inr ⟨_, rfl, (hw.2.2.2.2.1 i hi).2, c_shelf hok hw (fun h' => ⟨I, L, rfl, Or.inl ⟨rfl, no (Or.inr (Or.inl h'))⟩⟩) (fun j hj h' => ⟨I, L, rfl, Or.inr ⟨_, rfl, (hw.2.2.2.2.1 j hj).2, fun h1 => no (Or.inr (Or.inr (aIn_lo h1))), fun h1 => ⟨fun h2 => ?_, fun h2 => no (Or.inr (Or.inr (aIn_hi (Int32.not_le.mp h2))))⟩⟩⟩)⟩⟩))
  have e : aJudge x1 x2 x3 = 2 := if_neg (by simp [h, h', aIn_in h1 (Int32.not_lt.mpr h2)])
  obtain ⟨N, hN, rfl⟩ := nI_of2 (M := 240) (n := 240) (by decide) h1 h2
  have hr := hw.1
  have hs : sh (o + 121) = .inr 7 := (wsOffice_9 hr).1.2.2
  obtain ⟨f1, f2, f3, f4, f5, f6, f7, f8, f9⟩ := hf
  refine y_play hok (wsOffice_9 hr) hw.2.2.2.2.2.2.1 hw.2.2.2.2.2.2.2 hw.2.1.2 (wsOffice_5 hr) (wsOffice_6 hr) ⟨Or.inl (by omega), Or.inl (by omega), Or.inl (by omega), f5.2.1, f5.2.2.1, f5.2.2.2.1, f6, f7⟩ (hw.2.2.2.2.1 i hi).2 (Or.inr (by omega)) (f9 i hi).1 hN (fun R1 I1 L1 e1 e0 z1 => ⟨R1, I1, L1, rfl, rfl, ?_⟩)
  have w1 := wcOffice hs e1 hr
  have wl1 := wcLand hs e1 hw.2.1.2
  have wi1 := wcReform hs e1 (hw.2.2.2.2.1 i hi).2
  have wj1 := wcReform hs e1 (hw.2.2.2.2.1 j hj).2
  have u1 : R1 o 1 = some (o + 8) := by rw [e1.1 o (by omega)]; exact hw.2.1.1
  refine sOffice_judge_61 o n sh R1 I1 L1 post x1 x2 (nI N) x4 _ _ (o + 8) hok w1 wi1 wj1 u1 wl1 ?_
  unfold fOffice_judge_61
  have zr : ZReform I1 (o + 187 + 5 * j) := ⟨by rw [z1.1 _ (Or.inr (by omega))]; exact (f9 j hj).1.1, fun k hk => by rw [z1.1 _ (Or.inr (by omega)), z1.1 _ (Or.inr (by omega))]; exact (f9 j hj).1.2 k hk⟩
  have a8 : I1 (o + 8) = I (o + 8) := z1.1 _ (Or.inl (by omega))
  refine y_play hok (wsOffice_9 w1) e0 wl1 wl1 (wsOffice_5 w1) (wsOffice_6 w1) ⟨Or.inl (by omega), Or.inl (by omega), Or.inl (by omega), by rw [a8]; exact f5.2.1, by rw [a8]; exact f5.2.2.1, by rw [a8]; exact f5.2.2.2.1, by rw [z1.1 _ (Or.inl (by omega))]; exact f6, by rw [z1.1 _ (Or.inl (by omega))]; exact f7⟩ wj1 (Or.inr (by omega)) zr hN (fun R2 I2 L2 e2 _ z2 => ⟨R2, I2, L2, rfl, rfl, ?_⟩)
  obtain ⟨m1, m2, _, _, _, _, _, _, b0, b2, b8, b9⟩ := z1
  refine sOffice_judge_131 o n sh R2 I2 L2 post x1 x2 (nI N) x4 _ _ _ _ _ _ (o + 8) hok (wcOffice hs e2 w1) (wcReform hs e2 wi1) (wcReform hs e2 wj1) (by rw [e2.1 o (by omega)]; exact u1) (wcLand hs e2 wl1) ?_
  unfold fOffice_judge_131
  obtain ⟨k1, k2, _, _, _, _, _, _, d0, d2, d8, d9⟩ := z2
  rw [b0, b2, b8, b9, d0]
  refine c_cmp hok ⟨0, I2, L2, rfl, rfl, fun h => absurd rfl h, fun _ => ?_⟩
  rw [d8, d9]
  refine c_waits hok ⟨0, I2, L2, rfl, rfl, fun h => absurd rfl h, fun _ => ?_⟩
  rw [d2]
  refine c_cmp hok ⟨0, I2, L2, rfl, rfl, fun h => absurd rfl h, fun _ => ?_⟩
  rw [← e]
  exact hp _ _ _ (fun a ha => ⟨(e2.1 a (by omega)).trans (e1.1 a (by omega)), (k1 a (Or.inr (by omega))).trans (m1 a (Or.inr (by omega))), (k2 a (Or.inr (by omega))).trans (m2 a (Or.inr (by omega)))⟩)
theorem c_add (hok : q_ok (qGG D cA b E)) (hw : WO (qGG D cA b E) n sh Rf o) (hf : FC I o) {x1 x2 x3 x4 x5 : Int32} (hp : ∀ I', Fr o Rf I L Rf I' L → post (some (.int 0)) (n, sh, Rf, I', L)) : Ev (qGG D cA b E) mFacts_add 0 (0, 0) 0 (lv_args 0 [.ref (o + 48), .int x1, .int x2, .int x3, .int x4, .int x5]) [] (n, sh, Rf, I, L) post := by
  have h67 := hf.2.2.2.2.2.2.1
  have v : ∀ J : Nat → Nat → Int32, J (o + 48) 6 = 0 → vp_in (J (o + 48) 6) 40 := fun J q => by rw [q]; unfold vp_in; decide
  refine sFacts_add_0 (o + 48) n sh Rf I L post x1 x2 x3 x4 x5 hok (wsOffice_6 hw.1) ⟨fun _ => ⟨v I h67, fun I2 e2 => ?_⟩, fun q => absurd (by rw [h67]; decide) q⟩
  have k2 : I2 (o + 48) 6 = 0 := by rw [← e2, q_u_ne (by omega)]; exact h67
  refine ⟨v I2 k2, fun I4 e4 => ?_⟩
  have k4 : I4 (o + 48) 6 = 0 := by rw [← e4, q_u_ne (by omega)]; exact k2
  refine ⟨v I4 k4, fun I6 e6 => ?_⟩
  have k6 : I6 (o + 48) 6 = 0 := by rw [← e6, q_u_ne (by omega)]; exact k4
  refine ⟨v I6 k6, fun I8 e8 => ?_⟩
  have k8 : I8 (o + 48) 6 = 0 := by rw [← e8, q_u_ne (by omega)]; exact k6
  refine ⟨v I8 k8, fun I10 e10 => ?_⟩
  have k10 : I10 (o + 48) 6 = 0 := by rw [← e10, q_u_ne (by omega)]; exact k8
  refine ⟨v I10 k10, fun I12 e12 I14 e14 => ?_⟩
  have k12 : I12 (o + 48) 6 = 0 := by rw [← e12, q_u_ne (by omega)]; exact k10
  have k14 : I14 (o + 48) 6 - 1 = 0 := by rw [← e14, q_u_at, k12]; decide
  rw [k14]
  exact hp I14 (((((((Fr.rfl.i (by omega) e2).i (by omega) e4).i (by omega) e6).i (by omega) e8).i (by omega) e10).i (by omega) e12).i (by omega) e14)
theorem c_forged (hok : q_ok (qGG D cA b E)) (hw : WO (qGG D cA b E) n sh Rf o) (hf : FC I o) {x1 x2 : Int32} (hp : ∀ Rf' I' L', Fr o Rf I L Rf' I' L' → post (some (.int (aForged x1 x2))) (n, sh, Rf', I', L')) : Ev (qGG D cA b E) mOffice_forged 2 (0, 0) 0 (lv_args 0 [.ref o, .int x1, .int x2]) [] (n, sh, Rf, I, L) post := by
  have no : (aIn x1 0 1999 = 0 ∨ aIn x2 0 239 = 0) → post (some (.int (-1))) (n, sh, Rf, I, L) := fun h => by
    have e : aForged x1 x2 = -1 := if_pos h
    rw [← e]; exact hp _ _ _ Fr.rfl
  refine sOffice_forged_0 o n sh Rf I L post x1 x2 hok hw.1 ⟨fun h => no (Or.inl (aIn_lo h)), fun h => ⟨fun h1 => ?_, fun h1 => no (Or.inl (aIn_ge (d := 2000) (by decide) h1))⟩⟩
  refine sOffice_tellFact_0 o n sh Rf I L _ 1 x1 x2 0 hok hw.1 ⟨fun h2 => ⟨-1, I, L, rfl, rfl, no (Or.inr (aIn_lo h2))⟩, fun h2 => ⟨fun h3 => ?_, fun h3 => ⟨-1, I, L, rfl, rfl, no (Or.inr (aIn_ge (d := 240) (by decide) h3))⟩⟩⟩
  have e : aForged x1 x2 = 0 := if_neg (fun q => q.elim (aIn_lt (d := 2000) (by decide) h h1) (aIn_lt (d := 240) (by decide) h2 h3))
  refine c_add hok hw hf (fun I' fr => ⟨0, I', L, rfl, rfl, 0, I', L, rfl, rfl, ?_⟩)
  rw [← e]; exact hp _ _ _ fr
theorem c_costs (hok : q_ok (qGG D cA b E)) (hw : WO (qGG D cA b E) n sh Rf o) {x1 x2 x3 x4 x5 : Int32} (hp : ∀ Rf' I' L', Fr o Rf I L Rf' I' L' → post (some (.int (aCosts x1 x2 x3 x4 x5))) (n, sh, Rf', I', L')) : Ev (qGG D cA b E) mOffice_costs 1 (0, 0) 0 (lv_args 0 [.ref o, .int x1, .int x2, .int x3, .int x4, .int x5]) [] (n, sh, Rf, I, L) post := by
  have no : (aIn x1 0 99 = 0 ∨ aIn x2 1 50 = 0 ∨ aIn x3 0 99 = 0 ∨ aIn x4 0 9999 = 0 ∨ aIn x5 0 999 = 0) → post (some (.int 0)) (n, sh, Rf, I, L) := fun h => by
    have e : aCosts x1 x2 x3 x4 x5 = 0 := if_pos h
    rw [← e]; exact hp _ _ _ Fr.rfl
  have n34 : (aIn x1 0 99 = 0 ∨ aIn x2 1 50 = 0 ∨ aIn x3 0 99 = 0 ∨ aIn x4 0 9999 = 0 ∨ aIn x5 0 999 = 0) → fOffice_costs_34 D cA b E o n sh Rf I L post x1 x2 x3 x4 x5 := fun h => ⟨fun _ => no h, fun q => absurd rfl q⟩
  refine sOffice_costs_0 o n sh Rf I L post x1 x2 x3 x4 x5 hok hw.1 (c_within hok ⟨_, I, L, rfl, rfl, fun h1 => n34 (by simp [h1]), fun h1 => ?_⟩)
  refine c_within hok ⟨_, I, L, rfl, rfl, fun h2 => n34 (by simp [h2]), fun h2 => ?_⟩
  refine c_within hok ⟨_, I, L, rfl, rfl, fun h3 => n34 (by simp [h3]), fun h3 => ⟨fun q => absurd q (by decide), fun _ => ?_⟩⟩
  refine c_within hok ⟨_, I, L, rfl, rfl, fun h4 => no (by simp [h4]), fun h4 => ?_⟩
  refine c_within hok ⟨_, I, L, rfl, rfl, fun h5 I1 e1 I2 e2 I3 e3 I4 e4 I5 e5 I6 e6 => ?_, fun h5 => no (by simp [h5])⟩
  have e : aCosts x1 x2 x3 x4 x5 = 1 := if_neg (by simp [h1, h2, h3, h4, h5])
  rw [← e]
  exact hp _ _ _ ((((((Fr.rfl.i (by omega) e1).i (by omega) e2).i (by omega) e3).i (by omega) e4).i (by omega) e5).i (by omega) e6)
theorem c_about (hok : q_ok (qGG D cA b E)) (hw : WO (qGG D cA b E) n sh Rf o) (hf : FC I o) {x1 : Int32} (hp : ∀ Rf' I' L', Fr o Rf I L Rf' I' L' → post (some (.int (aAbout x1))) (n, sh, Rf', I', L')) : Ev (qGG D cA b E) mOffice_about 1 (0, 0) 0 (lv_args 0 [.ref o, .int x1]) [] (n, sh, Rf, I, L) post := by
  obtain ⟨f1, f2, f3, f4, f5, f6, f7, f8, f9⟩ := hf
  have z : ∀ v : Int32, v = 0 → (x1 = 0 ∨ x1 = 1 ∨ x1 = 2 ∨ x1 = 3 ∨ x1 = 4 ∨ x1 = 5 ∨ x1 = 6 ∨ x1 = 7) → post (some (.int v)) (n, sh, Rf, I, L) := fun v hv h => by
    have e : aAbout x1 = 0 := if_pos h
    rw [hv, ← e]; exact hp _ _ _ Fr.rfl
  refine sOffice_about_0 o n sh Rf I L post x1 (o + 8) hok hw.1 hw.2.1.1 hw.2.1.2 ⟨fun h => z _ f5.2.1 (by simp [h]), fun c0 => ⟨fun h => z _ f5.2.2.1 (by simp [h]), fun c1 => ⟨fun h => z _ f5.2.2.2.1 (by simp [h]), fun c2 => ⟨fun h => z _ f5.1 (by simp [h]), fun c3 => ⟨fun h => z _ f6 (by simp [h]), fun c4 => ⟨fun h => z _ f7 (by simp [h]), fun c5 => ⟨fun h => z _ f1 (by simp [h]), fun c6 => ⟨fun h => z _ f2 (by simp [h]), fun c7 => ?_⟩⟩⟩⟩⟩⟩⟩⟩
  have no : ¬ (x1 = 0 ∨ x1 = 1 ∨ x1 = 2 ∨ x1 = 3 ∨ x1 = 4 ∨ x1 = 5 ∨ x1 = 6 ∨ x1 = 7) := by simp [c0, c1, c2, c3, c4, c5, c6, c7]
  refine ⟨fun h => ?_, fun h => ?_⟩
  · have h10 : ¬ x1 < 10 := Int32.not_lt.mpr h
    have k : aIn (x1 - 10) 0 3 = 0 ↔ 14 ≤ x1 := by
      have a1 : 10 ≤ x1.toInt := Int32.le_iff_toInt_le.mp h
      have a2 := Int32.toInt_lt x1
      have q : (x1 - 10).toInt = x1.toInt - 10 := by
        rw [Int32.toInt_sub, show (10 : Int32).toInt = 10 by decide]
        exact Int.bmod_eq_of_le (by omega) (by omega)
      have p1 : ¬ (x1 - 10) < 0 := fun w => by have := Int32.lt_iff_toInt_lt.mp w; rw [q] at this; have : x1.toInt - 10 < 0 := this; omega
      unfold aIn
      rw [if_neg p1, Int32.le_iff_toInt_le]
      constructor
      · intro w
        by_cases u : 3 < x1 - 10
        · have := Int32.lt_iff_toInt_lt.mp u; rw [q] at this; have : (3 : Int) < x1.toInt - 10 := this
          show (14 : Int) ≤ x1.toInt; omega
        · rw [if_neg u] at w; exact absurd w (by decide)
      · intro w
        have w : (14 : Int) ≤ x1.toInt := w
        rw [if_pos (Int32.lt_iff_toInt_lt.mpr (by rw [q]; show (3 : Int) < x1.toInt - 10; omega))]
    refine c_shelf hok hw (fun h1 => ⟨I, L, rfl, Or.inl ⟨rfl, ?_⟩⟩) (fun i hi h1 => ⟨I, L, rfl, Or.inr ⟨_, rfl, (hw.2.2.2.2.1 i hi).2, ?_⟩⟩)
    · have e : aAbout x1 = -1 := by unfold aAbout; rw [if_neg no, if_neg h10, if_pos (k.mp h1)]
      show post (some (.int (-1))) _
      rw [← e]; exact hp _ _ _ Fr.rfl
    · have e : aAbout x1 = 0 := by unfold aAbout; rw [if_neg no, if_neg h10, if_neg (fun w => h1 (k.mpr w))]
      show post (some (.int (I (o + 187 + 5 * i) 5))) _
      rw [(f9 i hi).2, ← e]; exact hp _ _ _ Fr.rfl
  · have e : aAbout x1 = -1 := by unfold aAbout; rw [if_neg no, if_pos (Int32.not_le.mp h)]
    show post (some (.int (-1))) _
    rw [← e]; exact hp _ _ _ Fr.rfl
end CO2
