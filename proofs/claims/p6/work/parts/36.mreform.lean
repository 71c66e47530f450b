/-! The reference on a fresh object: land, reform. -/
section MLr
variable {D : va_G} {cA : FieldType → ClassId} {b : Nat} {E : State → Prop} {o n : Nat} {sh : Nat → qC} {Rf : Nat → Nat → Option Nat} {I : Nat → Nat → Int32} {L : Nat → Nat → Int64} {post : Option Value → qS → Prop}
theorem m_land (hok : q_ok (qGG D cA b E)) (hw : WfModel (qGG D cA b E) n sh Rf o) (hf : FM I o) (hp : ∀ I' L', post (some (.int (0))) (n, sh, Rf, I', L')) : Ev (qGG D cA b E) mModel_land 7 (0, 0) 0 (lv_args 0 [.ref o]) [] (n, sh, Rf, I, L) post := by
  refine sModel_land_0 o n sh Rf I L post hok hw (z_takeTape hok hw (Or.inl rfl) hf.2.1 (fun I3 na nk k4 k3 k2 k7 => ⟨I3, L, rfl, rfl, fun I5 e5 => ?_⟩))
  have h34 : I3 o 34 = 0 ∨ I3 o 34 = 1 := by rw [nk 34 (by decide) (by decide) (by decide) (by decide) (by decide) (by decide)]; exact hf.1.1
  have r5 : I5 o 35 = 0 ∨ I5 o 35 = 1 := by
    rw [← e5, q_u_at]
    rcases h34 with h | h <;> rw [h] <;> decide
  have v : ∀ J : Nat → Nat → Int32, J o 35 = I5 o 35 → vp_in (J o 35) 2 := fun J h => by
    rw [h]
    rcases r5 with h | h <;> rw [h] <;> (unfold vp_in; decide)
  refine ⟨v I5 rfl, fun I6 e6 => ?_⟩
  have o6 : I6 o = I5 o := by rw [← e6, q_u_ne (by omega)]
  refine ⟨v I6 (by rw [o6]), fun I8 e8 => ?_⟩
  have o8 : I8 o = I5 o := by rw [← e8, q_u_ne (by omega), o6]
  refine ⟨v I8 (by rw [o8]), fun I10 e10 => ?_⟩
  have o10 : I10 o = I5 o := by rw [← e10, q_u_ne (by omega), o8]
  refine ⟨v I10 (by rw [o10]), fun I12 e12 => ?_⟩
  have o12 : I12 o = I5 o := by rw [← e12, q_u_ne (by omega), o10]
  have k5 : ∀ k, k ≠ 35 → I12 o k = I3 o k := fun k hk => by rw [o12, ← e5, q_u_k hk]
  -- every row of counts is 0 still
  have zz : ∀ j, j < 2 → I12 (o + 6) j = 0 ∧ I12 (o + 7) j = 0 ∧ I12 (o + 8) j = 0 ∧ I12 (o + 9) j = 0 := by
    intro j hj
    have q6 : ∀ (J : Nat → Nat → Int32) (a k : Nat), J a j = 0 → q_u J a k 0 a j = 0 := fun J a k h => by
      by_cases e : j = k
      · subst e; exact q_u_at
      · rw [q_u_k e]; exact h
    have b6 : I5 (o + 6) j = 0 := by rw [← e5, q_u_ne (by omega), na _ (by omega)]; exact hf.2.2.2.2.2.2.1 j hj
    have b7 : I5 (o + 7) j = 0 := by rw [← e5, q_u_ne (by omega), na _ (by omega)]; exact (hf.1.2.1 j hj).1
    have b8 : I5 (o + 8) j = 0 := by rw [← e5, q_u_ne (by omega), na _ (by omega)]; exact (hf.1.2.1 j hj).2.1
    have b9 : I5 (o + 9) j = 0 := by rw [← e5, q_u_ne (by omega), na _ (by omega)]; exact (hf.1.2.1 j hj).2.2
    refine ⟨?_, ?_, ?_, ?_⟩
    · rw [← e12, q_u_ne (by omega), ← e10, q_u_ne (by omega), ← e8, q_u_ne (by omega), ← e6]; exact q6 _ _ _ b6
    · rw [← e12, q_u_ne (by omega), ← e10, q_u_ne (by omega), ← e8]; exact q6 _ _ _ (by rw [← e6, q_u_ne (by omega)]; exact b7)
    · rw [← e12, q_u_ne (by omega), ← e10]; exact q6 _ _ _ (by rw [← e8, q_u_ne (by omega), ← e6, q_u_ne (by omega)]; exact b8)
    · rw [← e12]; exact q6 _ _ _ (by rw [← e10, q_u_ne (by omega), ← e8, q_u_ne (by omega), ← e6, q_u_ne (by omega)]; exact b9)
  refine z_next hok hw (by rw [k5 3 (by decide)]; exact k3) (by rw [k5 7 (by decide)]; exact k7) (fun I16 ma mk t8 => ⟨I16, L, rfl, rfl, ?_⟩)
  have g4 : I16 o 4 = 0 := by rw [mk 4 (by decide) (by decide) (by decide), k5 4 (by decide)]; exact k4
  have g35 : I16 o 35 = 0 ∨ I16 o 35 = 1 := by rw [mk 35 (by decide) (by decide) (by decide), o12]; exact r5
  refine sModel_land_59 o n sh Rf I16 L post hok hw (l_isGood hok hw g4 ⟨1, I16, L, rfl, rfl, fun h => absurd h (by decide), fun _ => ⟨fun _ => ?_, fun h => absurd t8 h⟩⟩)
  refine l_isGood hok hw g4 ⟨1, I16, L, rfl, rfl, fun _ I17 e17 I18 e18 I19 e19 => ?_, fun h => absurd h (by decide)⟩
  have c34 : I19 o 34 = 0 ∨ I19 o 34 = 1 := by rw [← e19, q_u_k (by decide), ← e18, q_u_k (by decide), ← e17, q_u_at]; exact g35
  have ca : ∀ a, a ≠ o → I19 a = I12 a := fun a ha => by rw [← e19, q_u_ne ha, ← e18, q_u_ne ha, ← e17, q_u_ne ha]; exact ma a ha
  refine l_measure hok hw c34 (fun j hj => by rw [ca _ (by omega)]; exact (zz j hj).1) (fun I20 _ fa => ⟨I20, L, rfl, rfl, ?_⟩)
  have d34 : vp_in (I20 o 34) 2 := by rw [fa o (by omega)]; rcases c34 with h | h <;> rw [h] <;> (unfold vp_in; decide)
  have w := zz _ (vin_lt d34)
  refine ⟨d34, d34, d34, d34, ?_⟩
  rw [fa (o + 6) (by omega), fa (o + 7) (by omega), fa (o + 8) (by omega), fa (o + 9) (by omega), ca (o + 6) (by omega), ca (o + 7) (by omega), ca (o + 8) (by omega), ca (o + 9) (by omega), w.1, w.2.1, w.2.2.1, w.2.2.2]
  exact hp _ _
theorem z_reform_54 (hok : q_ok (qGG D cA b E)) (hw : WfModel (qGG D cA b E) n sh Rf o) {x1 : Int32} {J : Nat → Nat → Int32} (h44 : J o 44 = 4) (kk : ∀ I', (∀ a, a ≠ o + 26 → I' a = J a) → Ev (qGG D cA b E) mModel_reform 7 (0, 0) 54 [(0, .ref o), (1, .int x1), (2, .int (nI 10))] [] (n, sh, Rf, I', L) post) : ∀ (m k : Nat) (I : Nat → Nat → Int32), k + m = 10 → (∀ a, a ≠ o + 26 → I a = J a) → Ev (qGG D cA b E) mModel_reform 7 (0, 0) 54 [(0, .ref o), (1, .int x1), (2, .int (nI k))] [] (n, sh, Rf, I, L) post := by
  intro m
  induction m with
  | zero =>
    intro k I hk hJ
    rw [show k = 10 by omega]
    exact kk I hJ
  | succ m ih =>
    intro k I hk hJ
    have e44 : I o 44 = nI 4 := by rw [hJ o (by omega), h44]; rfl
    refine sModel_reform_54 o n sh Rf I L post x1 (nI k) hok hw ⟨fun h => absurd ((nI_leI (a := 10) (by omega) (by omega)).mp h) (by omega), fun _ => ⟨?_, fun I8 e8 => ?_⟩⟩
    · rw [e44, show (10 * nI 4) + nI k = nI (10 * 4 + k) from nI_lin 10 4 k]
      exact vp_in_nI (by omega) (by omega)
    · rw [nI_inc]
      refine ih (k + 1) I8 (by omega) (fun a ha => ?_)
      rw [← e8, q_u_ne ha]
      exact hJ a ha
end MLr
