/-! Arrays.fill; a LAND cleared; its constructor. -/
section CF
variable {D : va_G} {cA : FieldType → ClassId} {b : Nat} {E : State → Prop} {o n : Nat} {sh : Nat → qC} {Rf : Nat → Nat → Option Nat} {I : Nat → Nat → Int32} {L : Nat → Nat → Int64} {post : Option Value → qS → Prop}
theorem l_fill_loop (hok : q_ok (qGG D cA b E)) {a w : Nat} {x : Int32} (h0 : ∀ I L, q_in (qGG D cA b E) (n, sh, Rf, I, L) a (.inl (.int, w))) (hw : w < 2 ^ 30) {J : Nat → Nat → Int32} (hp : ∀ I', (∀ c, c ≠ a → I' c = J c) → (∀ j, j < w → I' a j = x) → post none (n, sh, Rf, I', L)) : ∀ (m k : Nat) (I : Nat → Nat → Int32), k + m = w → (∀ c, c ≠ a → I c = J c) → (∀ j, j < k → I a j = x) → Ev (qGG D cA b E) mArrays_fill_53178 0 (0, 0) 5 [(0, .ref a), (1, .int x), (2, .int (nI k)), (3, .int (Int32.ofNat w))] [] (n, sh, Rf, I, L) post := by
  intro m
  induction m with
  | zero =>
    intro k I hk hJ hx
    have e : k = w := by omega
    subst e
    exact sArrays_fill_53178_5 n sh Rf I L post a x (nI k) (Int32.ofNat k) k hok (h0 I L) ⟨fun _ => hp I hJ hx, fun h => absurd (Int32.le_refl (nI k)) h⟩
  | succ m ih =>
    intro k I hk hJ hx
    refine sArrays_fill_53178_5 n sh Rf I L post a x (nI k) (Int32.ofNat w) w hok (h0 I L) ⟨fun h => absurd ((nI_leI (a := w) (b := k) (by omega) (by omega)).mp h) (by omega), fun _ => ⟨vp_in_nI (by omega) (by omega), fun I2 e2 => ?_⟩⟩
    rw [nI_clamp (by omega)] at e2
    rw [nI_inc]
    refine ih (k + 1) I2 (by omega) (fun c hc => ?_) (fun j hj => ?_)
    · rw [← e2, q_u_ne hc]; exact hJ c hc
    · by_cases h : j = k
      · subst h; rw [← e2, q_u_at]
      · rw [← e2, q_u_k h]; exact hx j (by omega)
theorem l_fill (hok : q_ok (qGG D cA b E)) {a w : Nat} {x : Int32} (h0 : ∀ I L, q_in (qGG D cA b E) (n, sh, Rf, I, L) a (.inl (.int, w))) (hw : w < 2 ^ 30) (hp : ∀ I', (∀ c, c ≠ a → I' c = I c) → (∀ j, j < w → I' a j = x) → post none (n, sh, Rf, I', L)) : Ev (qGG D cA b E) mArrays_fill_53178 0 (0, 0) 0 (lv_args 0 [.ref a, .int x]) [] (n, sh, Rf, I, L) post :=
  sArrays_fill_53178_0 n sh Rf I L post a x w hok (h0 I L) (l_fill_loop (J := I) hok h0 hw hp w 0 I (by omega) (fun _ _ => rfl) (fun j hj => absurd hj (by omega)))
theorem l_fillL_loop (hok : q_ok (qGG D cA b E)) {a w : Nat} {x : Int64} (h0 : ∀ I L, q_in (qGG D cA b E) (n, sh, Rf, I, L) a (.inl (.long, w))) (hw : w < 2 ^ 30) {J : Nat → Nat → Int64} (hp : ∀ L', (∀ c, c ≠ a → L' c = J c) → (∀ j, j < w → L' a j = x) → post none (n, sh, Rf, I, L')) : ∀ (m k : Nat) (L : Nat → Nat → Int64), k + m = w → (∀ c, c ≠ a → L c = J c) → (∀ j, j < k → L a j = x) → Ev (qGG D cA b E) mArrays_fill_d0a16 0 (0, 0) 6 [(0, .ref a), (1, .long x), (3, .int (nI k)), (4, .int (Int32.ofNat w))] [] (n, sh, Rf, I, L) post := by
  intro m
  induction m with
  | zero =>
    intro k L hk hJ hx
    have e : k = w := by omega
    subst e
    exact sArrays_fill_d0a16_6 n sh Rf I L post a x (nI k) (Int32.ofNat k) k hok (h0 I L) ⟨fun _ => hp L hJ hx, fun h => absurd (Int32.le_refl (nI k)) h⟩
  | succ m ih =>
    intro k L hk hJ hx
    refine sArrays_fill_d0a16_6 n sh Rf I L post a x (nI k) (Int32.ofNat w) w hok (h0 I L) ⟨fun h => absurd ((nI_leI (a := w) (b := k) (by omega) (by omega)).mp h) (by omega), fun _ => ⟨vp_in_nI (by omega) (by omega), fun L2 e2 => ?_⟩⟩
    rw [nI_clamp (by omega)] at e2
    rw [nI_inc]
    refine ih (k + 1) L2 (by omega) (fun c hc => ?_) (fun j hj => ?_)
    · rw [← e2, q_u_ne hc]; exact hJ c hc
    · by_cases h : j = k
      · subst h; rw [← e2, q_u_at]
      · rw [← e2, q_u_k h]; exact hx j (by omega)
theorem l_fillL (hok : q_ok (qGG D cA b E)) {a w : Nat} {x : Int64} (h0 : ∀ I L, q_in (qGG D cA b E) (n, sh, Rf, I, L) a (.inl (.long, w))) (hw : w < 2 ^ 30) (hp : ∀ L', (∀ c, c ≠ a → L' c = L c) → (∀ j, j < w → L' a j = x) → post none (n, sh, Rf, I, L')) : Ev (qGG D cA b E) mArrays_fill_d0a16 0 (0, 0) 0 (lv_args 0 [.ref a, .long x]) [] (n, sh, Rf, I, L) post :=
  sArrays_fill_d0a16_0 n sh Rf I L post a x w hok (h0 I L) (l_fillL_loop (J := L) hok h0 hw hp w 0 L (by omega) (fun _ _ => rfl) (fun j hj => absurd hj (by omega)))
/-- no roads: a place is 0 from itself, and has no way to any other -/
def DistId (I : Nat → Nat → Int32) (o : Nat) : Prop := ∀ x y, x < 16 → y < 16 → I (o + 2) (16 * x + y) = if x = y then 0 else -1
/-- a LAND of nothing -/
def ZLand (I : Nat → Nat → Int32) (o : Nat) : Prop := I o 0 = 0 ∧ I o 1 = 0 ∧ I o 2 = 0 ∧ I o 3 = 0 ∧ I o 4 = 0 ∧ DistId I o
theorem l_clear_43 (hok : q_ok (qGG D cA b E)) (hw : WfLand (qGG D cA b E) n sh Rf o) {J : Nat → Nat → Int32} (hp : ∀ I', (∀ a, a ≠ o + 2 → I' a = J a) → DistId I' o → post none (n, sh, Rf, I', L)) : ∀ (m k : Nat) (I : Nat → Nat → Int32), k + m = 16 → (∀ a, a ≠ o + 2 → I a = J a) → (∀ x y, x < 16 → y < 16 → I (o + 2) (16 * x + y) = if x = y ∧ x < k then 0 else -1) → Ev (qGG D cA b E) mLand_clear 1 (0, 0) 43 [(0, .ref o), (1, .int (nI k))] [] (n, sh, Rf, I, L) post := by
  intro m
  induction m with
  | zero =>
    intro k I hk hJ hd
    refine sLand_clear_43 o n sh Rf I L post (nI k) hok hw ⟨fun _ => hp I hJ (fun x y hx hy => ?_), fun h => absurd ((nI_leI (a := 16) (by omega) (by omega)).mpr (by omega)) h⟩
    rw [hd x y hx hy]
    by_cases h : x = y
    · rw [if_pos ⟨h, by omega⟩, if_pos h]
    · rw [if_neg (fun q => h q.1), if_neg h]
  | succ m ih =>
    intro k I hk hJ hd
    have e : nI k * 16 + nI k = nI (17 * k) := by
      rw [show nI k * 16 = nI (k * 16) by unfold nI; rw [Int32.ofNat_mul]; rfl, nI_add]
      congr 1
      omega
    refine sLand_clear_43 o n sh Rf I L post (nI k) hok hw ⟨fun h => absurd ((nI_leI (a := 16) (by omega) (by omega)).mp h) (by omega), fun _ => ⟨by rw [e]; exact vp_in_nI (by omega) (by omega), fun I2 e2 => ?_⟩⟩
    rw [e, nI_clamp (by omega)] at e2
    rw [nI_inc]
    refine ih (k + 1) I2 (by omega) (fun a ha => ?_) (fun x y hx hy => ?_)
    · rw [← e2, q_u_ne ha]; exact hJ a ha
    · by_cases h : 16 * x + y = 17 * k
      · rw [← e2, h, q_u_at, if_pos ⟨by omega, by omega⟩]
      · rw [← e2, q_u_k h, hd x y hx hy]
        by_cases h2 : x = y ∧ x < k
        · rw [if_pos h2, if_pos ⟨h2.1, by omega⟩]
        · rw [if_neg h2, if_neg (fun q => h2 ⟨q.1, by omega⟩)]
theorem l_clear (hok : q_ok (qGG D cA b E)) (hw : WfLand (qGG D cA b E) n sh Rf o) (hp : ∀ I', ZLand I' o → (∀ a, a ≠ o → a ≠ o + 2 → a ≠ o + 8 → I' a = I a) → (∀ k, 5 ≤ k → I' o k = I o k) → post none (n, sh, Rf, I', L)) : Ev (qGG D cA b E) mLand_clear 1 (0, 0) 0 (lv_args 0 [.ref o]) [] (n, sh, Rf, I, L) post := by
  refine sLand_clear_0 o n sh Rf I L post hok hw (fun I1 e1 I2 e2 I3 e3 I4 e4 I5 e5 => ?_)
  refine l_fill hok (fun _ _ => waLand_12 hw) (by omega) (fun I6 a6 _ => ⟨I6, L, rfl, rfl, ?_⟩)
  refine l_fill hok (fun _ _ => waLand_6 hw) (by omega) (fun I7 a7 v7 => ⟨I7, L, rfl, rfl, ?_⟩)
  refine l_clear_43 (J := I7) hok hw (fun I8 a8 d8 => ?_) 16 0 I7 rfl (fun _ _ => rfl) (fun x y hx hy => ?_)
  · have ob : I8 o = I5 o := by rw [a8 o (by omega), a7 o (by omega), a6 o (by omega)]
    refine hp I8 ⟨?_, ?_, ?_, ?_, ?_, d8⟩ (fun a c1 c2 c3 => ?_) (fun k hk => ?_)
    · rw [ob, ← e5, q_u_k (by decide), ← e4, q_u_k (by decide), ← e3, q_u_k (by decide), ← e2, q_u_k (by decide), ← e1, q_u_at]
    · rw [ob, ← e5, q_u_k (by decide), ← e4, q_u_k (by decide), ← e3, q_u_k (by decide), ← e2, q_u_at]
    · rw [ob, ← e5, q_u_k (by decide), ← e4, q_u_k (by decide), ← e3, q_u_at]
    · rw [ob, ← e5, q_u_k (by decide), ← e4, q_u_at]
    · rw [ob, ← e5, q_u_at]
    · rw [a8 a c2, a7 a c2, a6 a c3, ← e5, q_u_ne c1, ← e4, q_u_ne c1, ← e3, q_u_ne c1, ← e2, q_u_ne c1, ← e1, q_u_ne c1]
    · rw [ob, ← e5, q_u_k (by omega), ← e4, q_u_k (by omega), ← e3, q_u_k (by omega), ← e2, q_u_k (by omega), ← e1, q_u_k (by omega)]
  · rw [v7 (16 * x + y) (by omega), if_neg (fun q => absurd q.2 (by omega))]
end CF
