/-! The reference's copying of rows. -/
section MC
variable {D : va_G} {cA : FieldType → ClassId} {b : Nat} {E : State → Prop} {n : Nat} {sh : Nat → qC} {Rf : Nat → Nat → Option Nat} {R : qRg} {J : Nat → Nat → Int32} {L : Nat → Nat → Int64} {post : Option Value → qS → Prop} {a0 a1 w0 w1 : Nat} {x : Int32}
theorem y_copy_loop (hok : q_ok (qGG D cA b E)) (h0 : ∀ I L, q_in (qGG D cA b E) (n, sh, Rf, I, L) a0 (.inl (.int, w0))) (h1 : ∀ I L, q_in (qGG D cA b E) (n, sh, Rf, I, L) a1 (.inl (.int, w1))) (hw : (w0 : Int) < 2 ^ 30) (hx0 : x.toInt ≤ (w0 : Int)) (hx1 : x.toInt ≤ (w1 : Int)) (hne : a0 ≠ a1) (hp : ∀ I', (∀ c, c ≠ a1 → I' c = J c) → (∀ j, I' a1 j = J a1 j ∨ ∃ i, I' a1 j = J a0 i) → post none (n, sh, Rf, I', L)) : ∀ (m : Nat) (y : Int32) (I : Nat → Nat → Int32), 0 ≤ y.toInt → (x.toInt - y.toInt).toNat < m → (∀ c, c ≠ a1 → I c = J c) → (∀ j, I a1 j = J a1 j ∨ ∃ i, I a1 j = J a0 i) → Ev (qGG D cA b E) mModel_copy 0 (0, 0) 2 [(0, .ref a0), (1, .ref a1), (2, .int x), (3, .int y)] [] (n, sh, Rf, I, L) post := by
  intro m
  induction m with
  | zero => intro y I _ hm; exact absurd hm (Nat.not_lt_zero _)
  | succ m ih =>
    intro y I hy hm hJ he
    refine sModel_copy_2 n sh Rf I L post a0 a1 x y w0 w1 hok (h0 I L) (h1 I L) ⟨fun _ => hp I hJ he, fun h => ?_⟩
    have hlt := iNle h
    refine ⟨tIn hy (by omega), tIn hy (by omega), fun I2 e2 => ?_⟩
    have hs : (y + Int32.ofInt 1).toInt = y.toInt + 1 := tIc (by omega) (by omega) (by omega) (by omega)
    refine ih _ I2 (by omega) (by omega) (fun c hc => by rw [← e2, q_u_ne hc]; exact hJ c hc) (fun j => ?_)
    by_cases hj : j = y.toNatClampNeg
    · subst hj; rw [← e2, q_u_at, hJ a0 hne]; exact Or.inr ⟨_, rfl⟩
    · rw [← e2, q_u_k hj]; exact he j
theorem y_copy (hok : q_ok (qGG D cA b E)) (h0 : ∀ I L, q_in (qGG D cA b E) (n, sh, Rf, I, L) a0 (.inl (.int, w0))) (h1 : ∀ I L, q_in (qGG D cA b E) (n, sh, Rf, I, L) a1 (.inl (.int, w1))) (hw : (w0 : Int) < 2 ^ 30) (hx0 : x.toInt ≤ (w0 : Int)) (hx1 : x.toInt ≤ (w1 : Int)) (hne : a0 ≠ a1) (hR : RI R J) (hs : ∀ j k, (R.1 a1 k).1 ≤ (R.1 a0 j).1 ∧ (R.1 a0 j).2 ≤ (R.1 a1 k).2) (hp : ∀ I', RI R I' → (∀ c, c ≠ a1 → I' c = J c) → post none (n, sh, Rf, I', L)) : Ev (qGG D cA b E) mModel_copy 0 (0, 0) 0 (lv_args 0 [.ref a0, .ref a1, .int x]) [] (n, sh, Rf, J, L) post := by
  refine sModel_copy_0 n sh Rf J L post a0 a1 x w0 w1 hok (h0 J L) (h1 J L) ?_
  refine y_copy_loop hok h0 h1 hw hx0 hx1 hne (fun I' hJ he => hp I' (fun c j => ?_) hJ) _ 0 J (by decide) (Nat.lt_succ_self _) (fun _ _ => rfl) (fun _ => Or.inl rfl)
  by_cases hc : c = a1
  · subst hc
    rcases he j with e | ⟨i, e⟩
    · rw [e]; exact hR c j
    · rw [e]
      have q1 := hR a0 i
      have q2 := hs i j
      exact ⟨Int.le_trans q2.1 q1.1, Int.le_trans q1.2 q2.2⟩
  · rw [hJ c hc]; exact hR c j
theorem y_copyT_loop (hok : q_ok (qGG D cA b E)) (h0 : ∀ I L, q_in (qGG D cA b E) (n, sh, Rf, I, L) a0 (.inl (.boolean, w0))) (h1 : ∀ I L, q_in (qGG D cA b E) (n, sh, Rf, I, L) a1 (.inl (.boolean, w1))) (hw : (w0 : Int) < 2 ^ 30) (hx0 : x.toInt ≤ (w0 : Int)) (hx1 : x.toInt ≤ (w1 : Int)) (hp : ∀ I', (∀ c, c ≠ a1 → I' c = J c) → post none (n, sh, Rf, I', L)) : ∀ (m : Nat) (y : Int32) (I : Nat → Nat → Int32), 0 ≤ y.toInt → (x.toInt - y.toInt).toNat < m → (∀ c, c ≠ a1 → I c = J c) → Ev (qGG D cA b E) mModel_copyTruths 0 (0, 0) 2 [(0, .ref a0), (1, .ref a1), (2, .int x), (3, .int y)] [] (n, sh, Rf, I, L) post := by
  intro m
  induction m with
  | zero => intro y I _ hm; exact absurd hm (Nat.not_lt_zero _)
  | succ m ih =>
    intro y I hy hm hJ
    refine sModel_copyTruths_2 n sh Rf I L post a0 a1 x y w0 w1 hok (h0 I L) (h1 I L) ⟨fun _ => hp I hJ, fun h => ?_⟩
    have hlt := iNle h
    refine ⟨tIn hy (by omega), tIn hy (by omega), fun I2 e2 => ?_⟩
    have hs : (y + Int32.ofInt 1).toInt = y.toInt + 1 := tIc (by omega) (by omega) (by omega) (by omega)
    exact ih _ I2 (by omega) (by omega) (fun c hc => by rw [← e2, q_u_ne hc]; exact hJ c hc)
theorem y_copyT (hok : q_ok (qGG D cA b E)) (h0 : ∀ I L, q_in (qGG D cA b E) (n, sh, Rf, I, L) a0 (.inl (.boolean, w0))) (h1 : ∀ I L, q_in (qGG D cA b E) (n, sh, Rf, I, L) a1 (.inl (.boolean, w1))) (hw : (w0 : Int) < 2 ^ 30) (hx0 : x.toInt ≤ (w0 : Int)) (hx1 : x.toInt ≤ (w1 : Int)) (hR : RI R J) (hs : ∀ k, (R.1 a1 k).1 ≤ -2147483648 ∧ 2147483647 ≤ (R.1 a1 k).2) (hp : ∀ I', RI R I' → (∀ c, c ≠ a1 → I' c = J c) → post none (n, sh, Rf, I', L)) : Ev (qGG D cA b E) mModel_copyTruths 0 (0, 0) 0 (lv_args 0 [.ref a0, .ref a1, .int x]) [] (n, sh, Rf, J, L) post := by
  refine sModel_copyTruths_0 n sh Rf J L post a0 a1 x w0 w1 hok (h0 J L) (h1 J L) ?_
  refine y_copyT_loop hok h0 h1 hw hx0 hx1 (fun I' hJ => hp I' (fun c j => ?_) hJ) _ 0 J (by decide) (Nat.lt_succ_self _) (fun _ _ => rfl)
  by_cases hc : c = a1
  · subst hc; exact ⟨Int.le_trans (hs j).1 (i_lo _), Int.le_trans (i_hi _) (hs j).2⟩
  · rw [hJ c hc]; exact hR c j
theorem y_copyL_loop {I : Nat → Nat → Int32} (hok : q_ok (qGG D cA b E)) (h0 : ∀ I L, q_in (qGG D cA b E) (n, sh, Rf, I, L) a0 (.inl (.long, w0))) (h1 : ∀ I L, q_in (qGG D cA b E) (n, sh, Rf, I, L) a1 (.inl (.long, w1))) (hw : (w0 : Int) < 2 ^ 30) (hx0 : x.toInt ≤ (w0 : Int)) (hx1 : x.toInt ≤ (w1 : Int)) (hp : ∀ L', post none (n, sh, Rf, I, L')) : ∀ (m : Nat) (y : Int32) (L : Nat → Nat → Int64), 0 ≤ y.toInt → (x.toInt - y.toInt).toNat < m → Ev (qGG D cA b E) mModel_copyLongs 0 (0, 0) 2 [(0, .ref a0), (1, .ref a1), (2, .int x), (3, .int y)] [] (n, sh, Rf, I, L) post := by
  intro m
  induction m with
  | zero => intro y I _ hm; exact absurd hm (Nat.not_lt_zero _)
  | succ m ih =>
    intro y L hy hm
    refine sModel_copyLongs_2 n sh Rf I L post a0 a1 x y w0 w1 hok (h0 I L) (h1 I L) ⟨fun _ => hp L, fun h => ?_⟩
    have hlt := iNle h
    refine ⟨tIn hy (by omega), tIn hy (by omega), fun L2 e2 => ?_⟩
    have hs : (y + Int32.ofInt 1).toInt = y.toInt + 1 := tIc (by omega) (by omega) (by omega) (by omega)
    exact ih _ L2 (by omega) (by omega)
theorem y_copyL {I : Nat → Nat → Int32} (hok : q_ok (qGG D cA b E)) (h0 : ∀ I L, q_in (qGG D cA b E) (n, sh, Rf, I, L) a0 (.inl (.long, w0))) (h1 : ∀ I L, q_in (qGG D cA b E) (n, sh, Rf, I, L) a1 (.inl (.long, w1))) (hw : (w0 : Int) < 2 ^ 30) (hx0 : x.toInt ≤ (w0 : Int)) (hx1 : x.toInt ≤ (w1 : Int)) (hp : ∀ L', post none (n, sh, Rf, I, L')) : Ev (qGG D cA b E) mModel_copyLongs 0 (0, 0) 0 (lv_args 0 [.ref a0, .ref a1, .int x]) [] (n, sh, Rf, I, L) post := by
  refine sModel_copyLongs_0 n sh Rf I L post a0 a1 x w0 w1 hok (h0 I L) (h1 I L) ?_
  exact y_copyL_loop hok h0 h1 hw hx0 hx1 hp _ 0 L (by decide) (Nat.lt_succ_self _)
end MC
