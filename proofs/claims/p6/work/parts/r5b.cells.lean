/-! What the cells are: in both alike, and the code of one value. By hand. -/
theorem p10_le {d : Nat} (h : d ≤ 4) : 10 ^ d ≤ 10000 := Nat.le_trans (Nat.pow_le_pow_right (by decide) h) (by decide)
theorem nV_rg {B : Nat → Int} {N : Nat} : ∀ (f i d P : Nat) (x : Int), P = 10 ^ d → 0 ≤ x → x < (P : Int) → d + (sw (tkD B N) f i - i) ≤ 4 → 0 ≤ nV B N f i x ∧ nV B N f i x ≤ 9999 := by
  intro f
  induction f with
  | zero =>
    intro i d P x hP h0 h1 h2
    have p : P ≤ 10000 := by rw [hP]; exact p10_le (by omega)
    rw [nV_0]
    omega
  | succ f ih =>
    intro i d P x hP h0 h1 h2
    have s := sw_ge (tkD B N) f (i + 1)
    rw [nV_s]
    rw [sw_s] at h2
    by_cases c : tkD B N i = true
    · rw [if_pos c] at h2 ⊢
      have dg := dgZ_iff.mp (show dgZ (bN B N i) = true from c)
      have p : P * 10 ≤ 10000 := by rw [hP, ← Nat.pow_succ]; exact p10_le (by omega)
      have m : wMul x 10 = x * 10 := wMul_r (by omega) (by omega) (by decide) (by decide) (by omega) (by omega)
      have a : wAdd (x * 10) (bN B N i) = x * 10 + bN B N i := wAdd_r (by omega) (by omega) (by omega) (by omega) (by omega) (by omega)
      have e : wSub (x * 10 + bN B N i) 48 = x * 10 + bN B N i - 48 := wSub_r (by omega) (by omega) (by decide) (by decide) (by omega) (by omega)
      rw [m, a, e]
      exact ih (i + 1) (d + 1) (P * 10) _ (by rw [hP, ← Nat.pow_succ]) (by omega) (by omega) (by omega)
    · rw [if_neg c]
      have p : P ≤ 10000 := by rw [hP]; exact p10_le (by omega)
      omega
theorem tkN_rg {pl : Bool} {B : Nat → Int} {N a : Nat} (h : tkK pl B N a = 2) : 0 ≤ tkN B N a ∧ tkN B N a ≤ 9999 := by
  unfold tkK at h
  split at h
  · exact absurd h (by decide)
  · split at h
    · split at h
      · exact absurd h (by decide)
      · split at h <;> exact absurd h (by decide)
    · split at h
      · split at h
        · next q =>
          have q1 : sw (tkD B N) (N - a) a - a ≤ 4 := q.1
          exact nV_rg (N - a) a 0 1 0 rfl (Int.le_refl _) (by decide) (by omega)
        · exact absurd h (by decide)
      · split at h <;> exact absurd h (by decide)
/-- a cell of the class and one of the reference with its number: the same -/
def MT (x a v : Int) : Prop := (64 ≤ x ∧ x ≤ 10063 ∧ a = 78 ∧ v = x - 64) ∨ ((x = 4 ∨ (23 ≤ x ∧ x < 32)) ∧ a = mlL x) ∨ (x = 21 ∧ a = 124) ∨ (x = 20 ∧ a = 38) ∨ (x = 22 ∧ a = 126) ∨ ((x = 42 ∨ x = 43 ∨ x = 45 ∨ x = 47 ∨ x = 60 ∨ x = 61 ∨ x = 62) ∧ a = x)
abbrev jtC (x : Int) : Prop := x = 20 ∨ x = 21 ∨ (32 ≤ x ∧ x < 64)
/-- how high the stack is behind k cells -/
def dpC (f : Nat → Int) (a : Nat) : Nat → Nat
  | 0 => 0
  | k + 1 => if f (a + k) = 22 then dpC f a k else if jtC (f (a + k)) then dpC f a k - 1 else dpC f a k + 1
def WfS (f : Nat → Int) (z : Int) (a n : Nat) : Prop := ∀ k, k < n → if f (a + k) = 22 then 1 ≤ dpC f a k else if jtC (f (a + k)) then 2 ≤ dpC f a k else dpC f a k < 100 ∧ (f (a + k) < 64 → rdY z (f (a + k)) = true)
/-- the code of one value -/
def WfC (f : Nat → Int) (z : Int) (a n : Nat) : Prop := WfS f z a n ∧ dpC f a n = 1
theorem dpC_mv {f g : Nat → Int} {a : Nat} : ∀ {n : Nat}, (∀ y, a ≤ y → y < a + n → g y = f y) → dpC g a n = dpC f a n
  | 0, _ => rfl
  | n + 1, h => by
    show (if g (a + n) = 22 then dpC g a n else if jtC (g (a + n)) then dpC g a n - 1 else dpC g a n + 1) = (if f (a + n) = 22 then dpC f a n else if jtC (f (a + n)) then dpC f a n - 1 else dpC f a n + 1)
    rw [h (a + n) (by omega) (by omega), dpC_mv (n := n) (fun y h1 h2 => h y h1 (by omega))]
theorem WfC.mv {f g : Nat → Int} {z : Int} {a n : Nat} (h : WfC f z a n) (e : ∀ y, a ≤ y → y < a + n → g y = f y) : WfC g z a n := by
  refine ⟨fun k hk => ?_, (dpC_mv e).trans h.2⟩
  have q := h.1 k hk
  rw [e (a + k) (by omega) (by omega), dpC_mv (n := k) (fun y h1 h2 => e y h1 (by omega))]
  exact q
section CL
variable {B : Nat → Int} {N T b w i : Nat} {c : rdC} {z : Int}
theorem tkT_in {k : Int} (h : (tkT B N T i).1 = k) (hk : k ≠ 0) : i ≤ T := by
  by_cases q : i ≤ T
  · exact q
  · have e : tkT B N T i = (0, 0, 0) := if_neg q
    rw [e] at h
    exact absurd h.symm hk
theorem tkT_K (hTe : tkK false B N (tkS false B N T) = 0 ∨ tkK false B N (tkS false B N T) = 5) : rdK (tkT B N T) T := by
  intro j h
  have hj : j ≤ T := by rcases h with h | h | h <;> exact tkT_in h (by decide)
  have e : (tkT B N T j).1 = tkK false B N (tkS false B N j) := by rw [tkT_at hj]
  rw [e] at h
  by_cases q : j = T
  · rw [q] at h
    omega
  · omega
/-- what a cell is -/
theorem cl_sort (h : if w = 0 then dpL c < 100 ∧ ((rdA (tkT B N T) i ∧ rdY z (tkT B N T i).2.1 = true) ∨ (tkT B N T i).1 = 2) else if w = 3 then 1 ≤ dpL c else 2 ≤ dpL c ∧ (w = 1 ∨ w = 2 ∨ (4 ≤ w ∧ rkT (tkT B N T) i = w))) : (w = 0 → clC B N (w, i) ≠ 22 ∧ ¬ jtC (clC B N (w, i)) ∧ (clC B N (w, i) < 64 → rdY z (clC B N (w, i)) = true)) ∧ (w = 3 → clC B N (w, i) = 22) ∧ (w ≠ 0 → w ≠ 3 → clC B N (w, i) ≠ 22 ∧ jtC (clC B N (w, i))) ∧ MT (clC B N (w, i)) (mlA B N (w, i)) (mlN B N (w, i)) := by
  by_cases w0 : w = 0
  · subst w0
    rw [if_pos rfl] at h
    obtain ⟨_, h⟩ := h
    have v : ((clC B N (0, i) = 4 ∨ (23 ≤ clC B N (0, i) ∧ clC B N (0, i) < 32)) ∧ rdY z (clC B N (0, i)) = true) ∧ mlA B N (0, i) = mlL (clC B N (0, i)) ∨ (64 ≤ clC B N (0, i) ∧ clC B N (0, i) ≤ 10063 ∧ mlA B N (0, i) = 78 ∧ mlN B N (0, i) = clC B N (0, i) - 64) := by
      rcases h with h | h
      · obtain ⟨h, hy⟩ := h
        have hi := tkT_in h.1 (by decide)
        obtain ⟨k1, y⟩ := (rdA_t hi).mp h
        rw [tkT_at hi] at hy
        have hy' : rdY z (vW (tkW B N (tkS false B N i))) = true := hy
        have r := vW_rg (tkW B N (tkS false B N i))
        rw [clC_0, mlA_0, if_pos k1, if_pos k1]
        exact Or.inl ⟨⟨by omega, hy'⟩, rfl⟩
      · have hi := tkT_in h (by decide)
        rw [tkT_at hi] at h
        have k2 : tkK false B N (tkS false B N i) = 2 := h
        have r := tkN_rg k2
        rw [clC_0, mlA_0, mlN_0, if_neg (by omega), if_neg (by omega), if_neg (by omega)]
        exact Or.inr ⟨by omega, by omega, rfl, by omega⟩
    generalize clC B N (0, i) = x at v ⊢
    generalize mlA B N (0, i) = a at v ⊢
    generalize mlN B N (0, i) = n at v ⊢
    refine ⟨fun _ => ?_, fun q => absurd q (by decide), fun q => absurd rfl q, ?_⟩
    · have : x = 4 ∨ (23 ≤ x ∧ x < 32) ∨ 64 ≤ x := by
        rcases v with v | v
        · rcases v.1.1 with q | q
          · exact Or.inl q
          · exact Or.inr (Or.inl q)
        · exact Or.inr (Or.inr v.1)
      refine ⟨by omega, fun q => by have q' : x = 20 ∨ x = 21 ∨ (32 ≤ x ∧ x < 64) := q; omega, fun q => ?_⟩
      rcases v with v | v
      · exact v.1.2
      · have := v.1; omega
    · rcases v with v | v
      · exact Or.inr (Or.inl ⟨v.1.1, v.2⟩)
      · exact Or.inl v
  rw [if_neg w0] at h
  by_cases w3 : w = 3
  · subst w3
    refine ⟨fun q => absurd q (by decide), fun _ => clC_3, fun _ q => absurd rfl q, ?_⟩
    rw [clC_3, mlA_3]
    exact Or.inr (Or.inr (Or.inr (Or.inr (Or.inl ⟨rfl, rfl⟩))))
  rw [if_neg w3] at h
  refine ⟨fun q => absurd q w0, fun q => absurd q w3, ?_⟩
  obtain ⟨_, h⟩ := h
  rcases h with rfl | rfl | ⟨h4, h⟩
  · rw [clC_1, mlA_1]
    exact ⟨fun _ _ => ⟨by decide, Or.inr (Or.inl rfl)⟩, Or.inr (Or.inr (Or.inl ⟨rfl, rfl⟩))⟩
  · rw [clC_2, mlA_2]
    exact ⟨fun _ _ => ⟨by decide, Or.inl rfl⟩, Or.inr (Or.inr (Or.inr (Or.inl ⟨rfl, rfl⟩)))⟩
  · have hi := (rk_kind (B := B) (N := N) (T := T) (j := i) (by omega)).1
    rw [clC_s h4, mlA_s h4]
    have g := rk_g (t := tkT B N T) (j := i)
    have le := rkT_le (t := tkT B N T) (j := i)
    have v : B (tkS false B N i) = 42 ∨ B (tkS false B N i) = 43 ∨ B (tkS false B N i) = 45 ∨ B (tkS false B N i) = 47 ∨ B (tkS false B N i) = 60 ∨ B (tkS false B N i) = 61 ∨ B (tkS false B N i) = 62 := by
      have c3 : rkT (tkT B N T) i = 4 ∨ rkT (tkT B N T) i = 5 ∨ rkT (tkT B N T) i = 6 := by omega
      rcases c3 with c | c | c
      · rcases g.1.mp c with m | m | m <;> (have := ((rdG_t hi).mp m).2; omega)
      · rcases g.2.1.mp c with m | m <;> (have := ((rdG_t hi).mp m).2; omega)
      · rcases g.2.2.mp c with m | m <;> (have := ((rdG_t hi).mp m).2; omega)
    generalize B (tkS false B N i) = x at v ⊢
    exact ⟨fun _ _ => ⟨by omega, Or.inr (Or.inr (by omega))⟩, Or.inr (Or.inr (Or.inr (Or.inr (Or.inr ⟨v, rfl⟩))))⟩
theorem cl_wf {f : Nat → Int} : ∀ {c : rdC}, okL (tkT B N T) z c → CW f (clC B N) b c → WfS f z b c.length ∧ dpC f b c.length = dpL c
  | [], _, _ => ⟨fun k hk => absurd hk (Nat.not_lt_zero _), rfl⟩
  | (w, i) :: c, ⟨h1, h2⟩, ⟨g1, g2⟩ => by
    obtain ⟨p, q⟩ := cl_wf (c := c) h1 g2
    obtain ⟨s0, s3, s1, _⟩ := cl_sort h2
    have hl : ((w, i) :: c : rdC).length = c.length + 1 := rfl
    rw [hl]
    have st : dpC f b (c.length + 1) = if f (b + c.length) = 22 then dpC f b c.length else if jtC (f (b + c.length)) then dpC f b c.length - 1 else dpC f b c.length + 1 := rfl
    rw [st, g1, q]
    refine ⟨fun k hk => ?_, ?_⟩
    · by_cases e : k = c.length
      · rw [e, g1, q]
        by_cases w0 : w = 0
        · rw [if_pos w0] at h2
          rw [if_neg (s0 w0).1, if_neg (s0 w0).2.1]
          exact ⟨h2.1, (s0 w0).2.2⟩
        · rw [if_neg w0] at h2
          by_cases w3 : w = 3
          · rw [if_pos w3] at h2
            rw [if_pos (s3 w3)]
            exact h2
          · rw [if_neg w3] at h2
            rw [if_neg (s1 w0 w3).1, if_pos (s1 w0 w3).2]
            exact h2.1
      · exact p k (by omega)
    · by_cases w0 : w = 0
      · rw [if_neg (s0 w0).1, if_neg (s0 w0).2.1, w0, dp_0]
      · by_cases w3 : w = 3
        · rw [if_pos (s3 w3), w3, dp_3]
        · rw [if_neg (s1 w0 w3).1, if_pos (s1 w0 w3).2, dp_s w0 w3]
theorem cl_mt {f a v : Nat → Int} : ∀ {c : rdC}, okL (tkT B N T) z c → CW f (clC B N) b c → CW a (mlA B N) b c → CW v (mlN B N) b c → ∀ y, b ≤ y → y < b + c.length → MT (f y) (a y) (v y)
  | [], _, _, _, _, y, h1, h2 => by
    have h3 : y < b + 0 := h2
    omega
  | (w, i) :: c, ⟨h1, h2⟩, ⟨g1, g2⟩, ⟨i1, i2⟩, ⟨k1, k2⟩, y, h3, h4 => by
    have h5 : y < b + (c.length + 1) := h4
    by_cases e : y = b + c.length
    · rw [e, g1, i1, k1]
      exact (cl_sort h2).2.2.2
    · exact cl_mt (c := c) h1 g2 i2 k2 y h3 (by omega)
end CL
