/-! The reference on a fresh object: judge, feed, about, days. -/
def ZJ (L : Nat → Nat → Int64) (o k : Nat) : Prop := L (o + 77) k = 0 ∧ L (o + 78) k = 0 ∧ L (o + 79) k = 0 ∧ L (o + 80) k = 0
section MJ
variable {D : va_G} {cA : FieldType → ClassId} {b : Nat} {E : State → Prop} {o n : Nat} {sh : Nat → qC} {Rf : Nat → Nat → Option Nat} {I : Nat → Nat → Int32} {L : Nat → Nat → Int64} {post : Option Value → qS → Prop}
theorem z_tryOut (hok : q_ok (qGG D cA b E)) (hw : WfModel (qGG D cA b E) n sh Rf o) {k N : Nat} {x1 x2 x3 x4 : Int32} (h1 : x1 = nI k) (hk : k < 2) (h3 : x3 = nI N) (hN : N ≤ 240) (hs : ZS x2) (hz : ZM I o) (h135 : I o 135 = 0) (hp : ∀ I' L', ZR I' o → ZJ L' o k → (∀ j, j ≠ k → ZJ L o j → ZJ L' o j) → post none (n, sh, Rf, I', L')) : Ev (qGG D cA b E) mModel_tryOut 10 (0, 0) 0 (lv_args 0 [.ref o, .int x1, .int x2, .int x3, .int x4]) [] (n, sh, Rf, I, L) post := by
  subst h1
  have v : vp_in (nI k) 2 := vp_in_nI hk (by omega)
  have c : (nI k).toNatClampNeg = k := nI_clamp (by omega)
  refine sModel_tryOut_0 o n sh Rf I L post (nI k) x2 x3 x4 hok hw (z_live hok hw h3 hN hs hz h135 (fun I2 L2 z2 l2 a2 => ⟨I2, L2, rfl, rfl, v, fun L3 e3 => ⟨v, fun L4 e4 => ⟨v, fun L5 e5 => ⟨v, fun L6 e6 => ?_⟩⟩⟩⟩))
  rw [c] at e3 e4 e5 e6
  obtain ⟨l1, l2', l3, l4⟩ := l2
  refine hp I2 L6 z2 ?_ (fun j hj hJ => ?_)
  · subst e3 e4 e5 e6
    refine ⟨?_, ?_, ?_, ?_⟩ <;> simp [q_u, l1, l2', l3, l4]
  · obtain ⟨j1, j2, j3, j4⟩ := hJ
    subst e3 e4 e5 e6
    refine ⟨?_, ?_, ?_, ?_⟩ <;> simp [q_u, hj, a2, j1, j2, j3, j4]
theorem m_judge (hok : q_ok (qGG D cA b E)) (hw : WfModel (qGG D cA b E) n sh Rf o) (hf : FM I o) {x1 x2 x3 x4 : Int32} (hp : ∀ I' L', post (some (.int (aJudge x1 x2 x3))) (n, sh, Rf, I', L')) : Ev (qGG D cA b E) mModel_judge 11 (0, 0) 0 (lv_args 0 [.ref o, .int x1, .int x2, .int x3, .int x4]) [] (n, sh, Rf, I, L) post := by
  have no : (aIn x1 0 3 = 0 ∨ aIn x2 0 3 = 0 ∨ aIn x3 0 240 = 0) → ∀ I' L', post (some (.int (-1))) (n, sh, Rf, I', L') := fun h I' L' => by
    have e : aJudge x1 x2 x3 = -1 := if_pos h
    rw [← e]; exact hp _ _
  refine sModel_judge_0 o n sh Rf I L post x1 x2 x3 x4 hok hw (l_isIn hok ⟨_, I, L, rfl, rfl, fun h1 => no (by simp [h1]) _ _, fun h1 => ?_⟩)
  refine l_isIn hok ⟨_, I, L, rfl, rfl, fun h2 => no (by simp [h2]) _ _, fun h2 => ?_⟩
  refine l_isIn hok ⟨_, I, L, rfl, rfl, fun h3 => ?_, fun h3 => no (by simp [h3]) _ _⟩
  have e : aJudge x1 x2 x3 = 2 := if_neg (by simp [h1, h2, h3])
  have zs : ∀ x : Int32, ¬ aIn x 0 3 = 0 → ZS x := fun x h => by
    obtain ⟨s1, s2⟩ := aIn_not h
    obtain ⟨S, hS, rfl⟩ := nI_of2 (M := 3) (n := 3) (by decide) s1 (Int32.not_lt.mp s2)
    rcases (show S = 0 ∨ S = 1 ∨ S = 2 ∨ S = 3 by omega) with rfl | rfl | rfl | rfl <;> (unfold ZS; decide)
  obtain ⟨t1, t2⟩ := aIn_not h3
  obtain ⟨N, hN, hN2⟩ := nI_of2 (M := 240) (n := 240) (by decide) t1 (Int32.not_lt.mp t2)
  refine z_tryOut (k := 0) hok hw rfl (by omega) hN2 hN (zs x1 h1) hf.1 hf.2.2.2.2.2.1 (fun I2 L2 z2 j2 _ => ⟨I2, L2, rfl, rfl, ?_⟩)
  refine z_tryOut (k := 1) hok hw rfl (by omega) hN2 hN (zs x2 h2) z2.1 z2.2.2.2.2 (fun I3 L3 z3 j3 k3 => ⟨I3, L3, rfl, rfl, fun _ => ?_, fun h => absurd z3.2.2.2.2 h⟩)
  obtain ⟨a1, a2, a3, a4⟩ := k3 0 (by omega) j2
  obtain ⟨b1, b2, b3, b4⟩ := j3
  have c0 : lg_cmp 0 0 = 0 := by decide
  have m0 : (0 : Int64) * 0 = 0 := by decide
  have fin : fModel_judge_130 D cA b E o n sh Rf I3 L3 post x1 x2 x3 x4 1 1 := by
    unfold fModel_judge_130
    rw [a2, a3, a4, b2, b3, b4, m0, c0]
    exact ⟨fun _ => ⟨fun _ => ⟨fun _ => ⟨fun _ => e ▸ hp _ _, fun h => absurd (by decide) h⟩, fun h => absurd (by decide) h⟩, fun h => absurd rfl h⟩, fun h => absurd rfl h⟩
  unfold fModel_judge_60
  rw [a1, b1, a3, c0]
  refine ⟨fun _ => ⟨fun h => absurd rfl h, fun _ => ?_⟩, fun h => absurd rfl h⟩
  unfold fModel_judge_114
  rw [b3, c0]
  exact ⟨fun h => absurd rfl h, fun _ => fin⟩
end MJ
