/-! Loops of the reference: copying, clearing, laying. -/
theorem nI_inc (k : Nat) : nI k + Int32.ofInt 1 = nI (k + 1) := nI_1 k
theorem nI_lin (c a k : Nat) : nI c * nI a + nI k = nI (c * a + k) := by
  unfold nI
  rw [← Int32.ofNat_mul, ← Int32.ofNat_add]
section ML
variable {D : va_G} {cA : FieldType → ClassId} {b : Nat} {E : State → Prop} {o n : Nat} {sh : Nat → qC} {Rf : Nat → Nat → Option Nat} {I : Nat → Nat → Int32} {L : Nat → Nat → Int64} {post : Option Value → qS → Prop}
theorem l_copy_2 (hok : q_ok (qGG D cA b E)) {x0 x1 w0 w1 N : Nat} (h0 : ∀ I L, q_in (qGG D cA b E) (n, sh, Rf, I, L) x0 (.inl (.int, w0))) (h1 : ∀ I L, q_in (qGG D cA b E) (n, sh, Rf, I, L) x1 (.inl (.int, w1))) (hN0 : N ≤ w0) (hN1 : N ≤ w1) (hb : N < 2 ^ 30) (hw0 : w0 < 2 ^ 31) (hw1 : w1 < 2 ^ 31) : ∀ (m k : Nat) (I : Nat → Nat → Int32), k + m = N → (∀ I', (∀ a, a ≠ x1 → I' a = I a) → post none (n, sh, Rf, I', L)) → Ev (qGG D cA b E) mModel_copy 0 (0, 0) 2 [(0, .ref x0), (1, .ref x1), (2, .int (nI N)), (3, .int (nI k))] [] (n, sh, Rf, I, L) post := by
  intro m
  induction m with
  | zero =>
    intro k I hk hp
    exact sModel_copy_2 n sh Rf I L post x0 x1 (nI N) (nI k) w0 w1 hok (h0 I L) (h1 I L) ⟨fun _ => hp I (fun _ _ => rfl), fun h => absurd ((nI_leI (by omega) (by omega)).mpr (by omega)) h⟩
  | succ m ih =>
    intro k I hk hp
    refine sModel_copy_2 n sh Rf I L post x0 x1 (nI N) (nI k) w0 w1 hok (h0 I L) (h1 I L) ⟨fun h => absurd ((nI_leI (by omega) (by omega)).mp h) (by omega), fun _ => ⟨vp_in_nI (by omega) hw0, vp_in_nI (by omega) hw1, fun I2 e2 => ?_⟩⟩
    rw [nI_inc]
    refine ih (k + 1) I2 (by omega) (fun I' h' => hp I' (fun a ha => ?_))
    rw [h' a ha, ← e2, q_u_ne ha]
theorem l_copy (hok : q_ok (qGG D cA b E)) {x0 x1 w0 w1 N : Nat} (h0 : ∀ I L, q_in (qGG D cA b E) (n, sh, Rf, I, L) x0 (.inl (.int, w0))) (h1 : ∀ I L, q_in (qGG D cA b E) (n, sh, Rf, I, L) x1 (.inl (.int, w1))) {x2 : Int32} (hx : x2 = nI N) (hN0 : N ≤ w0) (hN1 : N ≤ w1) (hb : N < 2 ^ 30) (hw0 : w0 < 2 ^ 31) (hw1 : w1 < 2 ^ 31) (hp : ∀ I', (∀ a, a ≠ x1 → I' a = I a) → post none (n, sh, Rf, I', L)) : Ev (qGG D cA b E) mModel_copy 0 (0, 0) 0 (lv_args 0 [.ref x0, .ref x1, .int x2]) [] (n, sh, Rf, I, L) post := by
  subst hx
  exact sModel_copy_0 n sh Rf I L post x0 x1 (nI N) w0 w1 hok (h0 I L) (h1 I L) (l_copy_2 hok h0 h1 hN0 hN1 hb hw0 hw1 N 0 I (by omega) hp)
theorem l_copyTruths_2 (hok : q_ok (qGG D cA b E)) {x0 x1 w0 w1 N : Nat} (h0 : ∀ I L, q_in (qGG D cA b E) (n, sh, Rf, I, L) x0 (.inl (.boolean, w0))) (h1 : ∀ I L, q_in (qGG D cA b E) (n, sh, Rf, I, L) x1 (.inl (.boolean, w1))) (hN0 : N ≤ w0) (hN1 : N ≤ w1) (hb : N < 2 ^ 30) (hw0 : w0 < 2 ^ 31) (hw1 : w1 < 2 ^ 31) : ∀ (m k : Nat) (I : Nat → Nat → Int32), k + m = N → (∀ I', (∀ a, a ≠ x1 → I' a = I a) → post none (n, sh, Rf, I', L)) → Ev (qGG D cA b E) mModel_copyTruths 0 (0, 0) 2 [(0, .ref x0), (1, .ref x1), (2, .int (nI N)), (3, .int (nI k))] [] (n, sh, Rf, I, L) post := by
  intro m
  induction m with
  | zero =>
    intro k I hk hp
    exact sModel_copyTruths_2 n sh Rf I L post x0 x1 (nI N) (nI k) w0 w1 hok (h0 I L) (h1 I L) ⟨fun _ => hp I (fun _ _ => rfl), fun h => absurd ((nI_leI (by omega) (by omega)).mpr (by omega)) h⟩
  | succ m ih =>
    intro k I hk hp
    refine sModel_copyTruths_2 n sh Rf I L post x0 x1 (nI N) (nI k) w0 w1 hok (h0 I L) (h1 I L) ⟨fun h => absurd ((nI_leI (by omega) (by omega)).mp h) (by omega), fun _ => ⟨vp_in_nI (by omega) hw0, vp_in_nI (by omega) hw1, fun I2 e2 => ?_⟩⟩
    rw [nI_inc]
    refine ih (k + 1) I2 (by omega) (fun I' h' => hp I' (fun a ha => ?_))
    rw [h' a ha, ← e2, q_u_ne ha]
theorem l_copyTruths (hok : q_ok (qGG D cA b E)) {x0 x1 w0 w1 N : Nat} (h0 : ∀ I L, q_in (qGG D cA b E) (n, sh, Rf, I, L) x0 (.inl (.boolean, w0))) (h1 : ∀ I L, q_in (qGG D cA b E) (n, sh, Rf, I, L) x1 (.inl (.boolean, w1))) {x2 : Int32} (hx : x2 = nI N) (hN0 : N ≤ w0) (hN1 : N ≤ w1) (hb : N < 2 ^ 30) (hw0 : w0 < 2 ^ 31) (hw1 : w1 < 2 ^ 31) (hp : ∀ I', (∀ a, a ≠ x1 → I' a = I a) → post none (n, sh, Rf, I', L)) : Ev (qGG D cA b E) mModel_copyTruths 0 (0, 0) 0 (lv_args 0 [.ref x0, .ref x1, .int x2]) [] (n, sh, Rf, I, L) post := by
  subst hx
  exact sModel_copyTruths_0 n sh Rf I L post x0 x1 (nI N) w0 w1 hok (h0 I L) (h1 I L) (l_copyTruths_2 hok h0 h1 hN0 hN1 hb hw0 hw1 N 0 I (by omega) hp)
theorem l_copyLongs_2 (hok : q_ok (qGG D cA b E)) {x0 x1 w0 w1 N : Nat} (h0 : ∀ I L, q_in (qGG D cA b E) (n, sh, Rf, I, L) x0 (.inl (.long, w0))) (h1 : ∀ I L, q_in (qGG D cA b E) (n, sh, Rf, I, L) x1 (.inl (.long, w1))) (hN0 : N ≤ w0) (hN1 : N ≤ w1) (hb : N < 2 ^ 30) (hw0 : w0 < 2 ^ 31) (hw1 : w1 < 2 ^ 31) : ∀ (m k : Nat) (L : Nat → Nat → Int64), k + m = N → (∀ L', (∀ a, a ≠ x1 → L' a = L a) → post none (n, sh, Rf, I, L')) → Ev (qGG D cA b E) mModel_copyLongs 0 (0, 0) 2 [(0, .ref x0), (1, .ref x1), (2, .int (nI N)), (3, .int (nI k))] [] (n, sh, Rf, I, L) post := by
  intro m
  induction m with
  | zero =>
    intro k L hk hp
    exact sModel_copyLongs_2 n sh Rf I L post x0 x1 (nI N) (nI k) w0 w1 hok (h0 I L) (h1 I L) ⟨fun _ => hp L (fun _ _ => rfl), fun h => absurd ((nI_leI (by omega) (by omega)).mpr (by omega)) h⟩
  | succ m ih =>
    intro k L hk hp
    refine sModel_copyLongs_2 n sh Rf I L post x0 x1 (nI N) (nI k) w0 w1 hok (h0 I L) (h1 I L) ⟨fun h => absurd ((nI_leI (by omega) (by omega)).mp h) (by omega), fun _ => ⟨vp_in_nI (by omega) hw0, vp_in_nI (by omega) hw1, fun L2 e2 => ?_⟩⟩
    rw [nI_inc]
    refine ih (k + 1) L2 (by omega) (fun L' h' => hp L' (fun a ha => ?_))
    rw [h' a ha, ← e2, q_u_ne ha]
theorem l_copyLongs (hok : q_ok (qGG D cA b E)) {x0 x1 w0 w1 N : Nat} (h0 : ∀ I L, q_in (qGG D cA b E) (n, sh, Rf, I, L) x0 (.inl (.long, w0))) (h1 : ∀ I L, q_in (qGG D cA b E) (n, sh, Rf, I, L) x1 (.inl (.long, w1))) {x2 : Int32} (hx : x2 = nI N) (hN0 : N ≤ w0) (hN1 : N ≤ w1) (hb : N < 2 ^ 30) (hw0 : w0 < 2 ^ 31) (hw1 : w1 < 2 ^ 31) (hp : ∀ L', (∀ a, a ≠ x1 → L' a = L a) → post none (n, sh, Rf, I, L')) : Ev (qGG D cA b E) mModel_copyLongs 0 (0, 0) 0 (lv_args 0 [.ref x0, .ref x1, .int x2]) [] (n, sh, Rf, I, L) post := by
  subst hx
  exact sModel_copyLongs_0 n sh Rf I L post x0 x1 (nI N) w0 w1 hok (h0 I L) (h1 I L) (l_copyLongs_2 hok h0 h1 hN0 hN1 hb hw0 hw1 N 0 L (by omega) hp)
end ML
