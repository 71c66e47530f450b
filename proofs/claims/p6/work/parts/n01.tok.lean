/-! TOKENS as mathematics: positions, digits, letters, and a word's two numbers. By hand. -/
/-- the mirror's words opened by a proof (not by unfolding: the kernel would go into the instances) -/
theorem gLetp {α β : Type} (x : α) (f : α → β) : gLet x f = f x := (Classical.em True).elim (fun _ => rfl) (fun _ => rfl)
theorem gB2p {α β δ : Type} (x : α × β) (f : α → β → δ) : gB2 x f = f x.1 x.2 := (Classical.em True).elim (fun _ => rfl) (fun _ => rfl)
theorem gB3p {α β γ δ : Type} (x : α × β × γ) (f : α → β → γ → δ) : gB3 x f = f x.1 x.2.1 x.2.2 := (Classical.em True).elim (fun _ => rfl) (fun _ => rfl)
def sw (p : Nat → Bool) : Nat → Nat → Nat
  | 0, i => i
  | f + 1, i => if p i = true then sw p f (i + 1) else i
theorem sw_0 (p : Nat → Bool) (i : Nat) : sw p 0 i = i := rfl
theorem sw_s (p : Nat → Bool) (f i : Nat) : sw p (f + 1) i = if p i = true then sw p f (i + 1) else i := rfl
theorem sw_ge (p : Nat → Bool) : ∀ f i, i ≤ sw p f i := by
  intro f
  induction f with
  | zero => intro i; exact Nat.le_refl _
  | succ f ih =>
    intro i
    unfold sw
    split
    · exact Nat.le_trans (Nat.le_succ i) (ih (i + 1))
    · exact Nat.le_refl _
theorem sw_le (p : Nat → Bool) : ∀ f i, sw p f i ≤ i + f := by
  intro f
  induction f with
  | zero => intro i; exact Nat.le_refl _
  | succ f ih =>
    intro i
    unfold sw
    split
    · have := ih (i + 1); omega
    · omega
theorem sw_all (p : Nat → Bool) : ∀ f i j, i ≤ j → j < sw p f i → p j = true := by
  intro f
  induction f with
  | zero => intro i j h1 h2; unfold sw at h2; omega
  | succ f ih =>
    intro i j h1 h2
    unfold sw at h2
    split at h2
    · next hp =>
      by_cases e : j = i
      · rw [e]; exact hp
      · exact ih (i + 1) j (by omega) h2
    · omega
theorem sw_end (p : Nat → Bool) : ∀ f i, sw p f i < i + f → p (sw p f i) = false := by
  intro f
  induction f with
  | zero => intro i h; unfold sw at h; omega
  | succ f ih =>
    intro i h
    unfold sw at h ⊢
    split
    · next hp => rw [if_pos hp] at h; exact ih (i + 1) (by omega)
    · next hp => simpa using hp
theorem sw_eq (p : Nat → Bool) : ∀ f i e, i ≤ e → e ≤ i + f → (∀ j, i ≤ j → j < e → p j = true) → (e = i + f ∨ p e = false) → sw p f i = e := by
  intro f
  induction f with
  | zero => intro i e h1 h2 _ _; unfold sw; omega
  | succ f ih =>
    intro i e h1 h2 h3 h4
    unfold sw
    by_cases c : i = e
    · subst c
      rcases h4 with h4 | h4
      · omega
      · rw [if_neg (by rw [h4]; decide)]
    · rw [if_pos (h3 i (Nat.le_refl _) (by omega))]
      exact ih (i + 1) e (by omega) (by omega) (fun j q1 q2 => h3 j (by omega) q2) (h4.imp (fun q => by omega) id)
/-- how much fuel there is doesn't matter once it reaches -/
theorem sw_more (p : Nat → Bool) {f i N : Nat} (hp : ∀ j, p j = true → j < N) (h : N ≤ i + f) (g : Nat) (hg : N ≤ i + g) : sw p f i = sw p g i := by
  have s1 := sw_ge p f i
  have s3 := sw_ge p g i
  have a1 := sw_all p f i
  have a2 := sw_all p g i
  have e1 := sw_end p f i
  have e2 := sw_end p g i
  have q1 : sw p f i = i ∨ sw p f i ≤ N := by
    by_cases c : sw p f i = i
    · exact Or.inl c
    · exact Or.inr (by have := hp _ (a1 (sw p f i - 1) (by omega) (by omega)); omega)
  have q2 : sw p g i = i ∨ sw p g i ≤ N := by
    by_cases c : sw p g i = i
    · exact Or.inl c
    · exact Or.inr (by have := hp _ (a2 (sw p g i - 1) (by omega) (by omega)); omega)
  rcases Nat.lt_trichotomy (sw p f i) (sw p g i) with c | c | c
  · have t := a2 (sw p f i) s1 c
    have u := hp _ t
    rw [e1 (by omega)] at t
    exact absurd t (by decide)
  · exact c
  · have t := a1 (sw p g i) s3 c
    have u := hp _ t
    rw [e2 (by omega)] at t
    exact absurd t (by decide)
def ltZ (x : Int) : Bool := decide (97 ≤ x ∧ x ≤ 122)
def dgZ (x : Int) : Bool := decide (48 ≤ x ∧ x ≤ 57)
theorem ltZ_iff {x : Int} : ltZ x = true ↔ 97 ≤ x ∧ x ≤ 122 := by unfold ltZ; exact decide_eq_true_iff
theorem dgZ_iff {x : Int} : dgZ x = true ↔ 48 ≤ x ∧ x ≤ 57 := by unfold dgZ; exact decide_eq_true_iff
/-- the byte at i -/
def bN (B : Nat → Int) (N i : Nat) : Int := if i < N then B i else 0
def tkB (B : Nat → Int) (N i : Nat) : Bool := decide (i < N ∧ (B i = 32 ∨ B i = 10))
def tkL (B : Nat → Int) (N i : Nat) : Bool := ltZ (bN B N i)
def tkD (B : Nat → Int) (N i : Nat) : Bool := dgZ (bN B N i)
theorem tkB_lt {B : Nat → Int} {N i : Nat} (h : tkB B N i = true) : i < N := (of_decide_eq_true h).1
theorem tkB_iff {B : Nat → Int} {N i : Nat} : tkB B N i = true ↔ i < N ∧ (B i = 32 ∨ B i = 10) := by unfold tkB; exact decide_eq_true_iff
theorem tkL_lt {B : Nat → Int} {N i : Nat} (h : tkL B N i = true) : i < N := by
  unfold tkL bN at h
  have h2 := ltZ_iff.mp h
  split at h2
  · assumption
  · omega
theorem tkD_lt {B : Nat → Int} {N i : Nat} (h : tkD B N i = true) : i < N := by
  unfold tkD bN at h
  have h2 := dgZ_iff.mp h
  split at h2
  · assumption
  · omega
/-- where a TOKEN begins, a word ends, a number ends -/
def tA (B : Nat → Int) (N a : Nat) : Nat := sw (tkB B N) (N - a) a
def wE (B : Nat → Int) (N a : Nat) : Nat := sw (tkL B N) (N - a) a
def nE (B : Nat → Int) (N a : Nat) : Nat := sw (tkD B N) (N - a) a
theorem tA_ge (B : Nat → Int) (N a : Nat) : a ≤ tA B N a := sw_ge _ _ _
theorem tA_le {B : Nat → Int} {N a : Nat} (h : a ≤ N) : tA B N a ≤ N := by have := sw_le (tkB B N) (N - a) a; unfold tA; omega
theorem wE_ge (B : Nat → Int) (N a : Nat) : a ≤ wE B N a := sw_ge _ _ _
theorem wE_le {B : Nat → Int} {N a : Nat} (h : a ≤ N) : wE B N a ≤ N := by have := sw_le (tkL B N) (N - a) a; unfold wE; omega
theorem nE_ge (B : Nat → Int) (N a : Nat) : a ≤ nE B N a := sw_ge _ _ _
theorem nE_le {B : Nat → Int} {N a : Nat} (h : a ≤ N) : nE B N a ≤ N := by have := sw_le (tkD B N) (N - a) a; unfold nE; omega
theorem wE_gt {B : Nat → Int} {N a : Nat} (h : tkL B N a = true) : a < wE B N a := by
  have h1 := tkL_lt h
  unfold wE
  rw [show N - a = (N - a - 1) + 1 by omega]
  unfold sw
  rw [if_pos h]
  exact sw_ge _ _ _
theorem nE_gt {B : Nat → Int} {N a : Nat} (h : tkD B N a = true) : a < nE B N a := by
  have h1 := tkD_lt h
  unfold nE
  rw [show N - a = (N - a - 1) + 1 by omega]
  unfold sw
  rw [if_pos h]
  exact sw_ge _ _ _
/-- the n letters from a on, as 1 .. 26 -/
def lw (B : Nat → Int) : Nat → Nat → List Nat
  | 0, _ => []
  | n + 1, a => (B a - 96).toNat :: lw B n (a + 1)
theorem lw_len (B : Nat → Int) : ∀ n a, (lw B n a).length = n := by
  intro n
  induction n with
  | zero => intro a; rfl
  | succ n ih => intro a; show (lw B n (a + 1)).length + 1 = n + 1; rw [ih]
def nF (b d : Nat) (acc : Nat) (l : List Nat) : Nat := l.foldl (fun x c => x * b + (c + d)) acc
theorem nF_cons (b d acc c : Nat) (l : List Nat) : nF b d acc (c :: l) = nF b d (acc * b + (c + d)) l := rfl
theorem lw_s (B : Nat → Int) (n a : Nat) : lw B (n + 1) a = (B a - 96).toNat :: lw B n (a + 1) := rfl
def nOK (b d : Nat) (l : List Nat) : Prop := ∀ c ∈ l, 1 ≤ c ∧ c + d < b
theorem nF_lo (b d : Nat) : ∀ (l : List Nat) (acc : Nat), acc * b ^ l.length ≤ nF b d acc l := by
  intro l
  induction l with
  | nil => intro acc; simp [nF]
  | cons c l ih =>
    intro acc
    rw [nF_cons]
    refine Nat.le_trans ?_ (ih _)
    rw [List.length_cons, Nat.pow_succ, Nat.mul_comm (b ^ l.length) b, ← Nat.mul_assoc]
    exact Nat.mul_le_mul_right _ (Nat.le_add_right _ _)
theorem nF_hi (b d : Nat) : ∀ (l : List Nat) (acc : Nat), nOK b d l → nF b d acc l < (acc + 1) * b ^ l.length := by
  intro l
  induction l with
  | nil => intro acc _; simp [nF]
  | cons c l ih =>
    intro acc h
    rw [nF_cons]
    refine Nat.lt_of_lt_of_le (ih _ (fun x hx => h x (List.mem_cons_of_mem _ hx))) ?_
    rw [List.length_cons, Nat.pow_succ, Nat.mul_comm (b ^ l.length) b, ← Nat.mul_assoc]
    refine Nat.mul_le_mul_right _ ?_
    have h1 := (h c (List.mem_cons_self)).2
    rw [Nat.add_mul]
    omega
theorem nF_pos (b d : Nat) {c : Nat} {l : List Nat} (h : nOK b d (c :: l)) : b ^ l.length ≤ nF b d 0 (c :: l) := by
  rw [nF_cons]
  refine Nat.le_trans ?_ (nF_lo b d l _)
  have h1 := (h c (List.mem_cons_self)).1
  have h2 : 1 ≤ 0 * b + (c + d) := by omega
  calc b ^ l.length = 1 * b ^ l.length := (Nat.one_mul _).symm
    _ ≤ _ := Nat.mul_le_mul_right _ h2
theorem nF_same (b d : Nat) : ∀ (l m : List Nat) (x y : Nat), l.length = m.length → nOK b d l → nOK b d m → nF b d x l = nF b d y m → x = y ∧ l = m := by
  intro l
  induction l with
  | nil =>
    intro m x y hl _ _ h
    cases m with
    | nil => exact ⟨h, rfl⟩
    | cons c m => simp at hl
  | cons c l ih =>
    intro m x y hl h1 h2 h
    cases m with
    | nil => simp at hl
    | cons c' m =>
      rw [nF_cons, nF_cons] at h
      obtain ⟨e1, e2⟩ := ih m _ _ (by simpa using hl) (fun q hq => h1 q (List.mem_cons_of_mem _ hq)) (fun q hq => h2 q (List.mem_cons_of_mem _ hq)) h
      have l1 := (h1 c (List.mem_cons_self)).2
      have l2 := (h2 c' (List.mem_cons_self)).2
      have hb : 0 < b := by omega
      have m1 : (x * b + (c + d)) % b = c + d := by rw [Nat.mul_comm, Nat.mul_add_mod, Nat.mod_eq_of_lt l1]
      have m2 : (y * b + (c' + d)) % b = c' + d := by rw [Nat.mul_comm, Nat.mul_add_mod, Nat.mod_eq_of_lt l2]
      have d1 : (x * b + (c + d)) / b = x := by rw [Nat.mul_comm, Nat.mul_add_div hb, Nat.div_eq_of_lt l1]; rfl
      have d2 : (y * b + (c' + d)) / b = y := by rw [Nat.mul_comm, Nat.mul_add_div hb, Nat.div_eq_of_lt l2]; rfl
      rw [e1] at m1 d1
      refine ⟨d1.symm.trans d2, ?_⟩
      rw [show c = c' by omega, e2]
theorem nF_lenlt (b d : Nat) {l m : List Nat} (hl : nOK b d l) (hm : nOK b d m) (h : l.length < m.length) (hb : 0 < b) : nF b d 0 l < nF b d 0 m := by
  cases m with
  | nil => simp at h
  | cons c m =>
    have h1 := nF_hi b d l 0 hl
    have h2 := nF_pos b d hm
    have h3 : b ^ l.length ≤ b ^ m.length := Nat.pow_le_pow_right hb (by simp at h; omega)
    rw [Nat.zero_add, Nat.one_mul] at h1
    omega
theorem nF_inj (b d : Nat) {l m : List Nat} (hb : 0 < b) (hl : nOK b d l) (hm : nOK b d m) (h : nF b d 0 l = nF b d 0 m) : l = m := by
  rcases Nat.lt_trichotomy l.length m.length with c | c | c
  · have := nF_lenlt b d hl hm c hb; omega
  · exact (nF_same b d l m 0 0 c hl hm h).2
  · have := nF_lenlt b d hm hl c hb; omega
/-- letters -/
def ltrs (l : List Nat) : Prop := l.length ≤ 8 ∧ ∀ c ∈ l, 1 ≤ c ∧ c ≤ 26
theorem ltrs.ok32 {l : List Nat} (h : ltrs l) : nOK 32 0 l := fun c hc => by have := h.2 c hc; omega
theorem ltrs.ok256 {l : List Nat} (h : ltrs l) : nOK 256 96 l := fun c hc => by have := h.2 c hc; omega
/-- a word's number in the class, in the reference -/
def c32 (l : List Nat) : Int64 := Int64.ofNat (nF 32 0 0 l)
def c256 (l : List Nat) : Int64 := Int64.ofNat (nF 256 96 0 l)
theorem i64_inj {a b : Nat} (ha : a < 2 ^ 63) (hb : b < 2 ^ 63) (h : Int64.ofNat a = Int64.ofNat b) : a = b := by
  have := congrArg Int64.toInt h
  rw [Int64.toInt_ofNat_of_lt ha, Int64.toInt_ofNat_of_lt hb] at this
  omega
theorem nF32_lt {l : List Nat} (h : ltrs l) : nF 32 0 0 l < 2 ^ 63 := by
  have h1 := nF_hi 32 0 l 0 h.ok32
  have h2 : 32 ^ l.length ≤ 32 ^ 8 := Nat.pow_le_pow_right (by decide) h.1
  have h3 : (32 : Nat) ^ 8 < 2 ^ 63 := by decide
  rw [Nat.zero_add, Nat.one_mul] at h1
  omega
/-- the first letter keeps the sign bit free -/
theorem nF256_lt {l : List Nat} (h : ltrs l) : nF 256 96 0 l < 2 ^ 63 := by
  cases l with
  | nil => decide
  | cons c l =>
    rw [nF_cons]
    have h1 := nF_hi 256 96 l (0 * 256 + (c + 96)) (fun x hx => h.ok256 x (List.mem_cons_of_mem _ hx))
    have h2 : 256 ^ l.length ≤ 256 ^ 7 := Nat.pow_le_pow_right (by decide) (by have := h.1; simp at this; omega)
    have h3 := (h.2 c (List.mem_cons_self)).2
    have h4 : (0 * 256 + (c + 96) + 1) * 256 ^ l.length ≤ 123 * 256 ^ 7 := Nat.mul_le_mul (by omega) h2
    have h5 : 123 * (256 : Nat) ^ 7 < 2 ^ 63 := by decide
    omega
theorem c32_inj {l m : List Nat} (hl : ltrs l) (hm : ltrs m) : c32 l = c32 m ↔ l = m :=
  ⟨fun h => nF_inj 32 0 (by decide) hl.ok32 hm.ok32 (i64_inj (nF32_lt hl) (nF32_lt hm) h), fun h => by rw [h]⟩
theorem c256_inj {l m : List Nat} (hl : ltrs l) (hm : ltrs m) : c256 l = c256 m ↔ l = m :=
  ⟨fun h => nF_inj 256 96 (by decide) hl.ok256 hm.ok256 (i64_inj (nF256_lt hl) (nF256_lt hm) h), fun h => by rw [h]⟩
/-- the words that stand for themselves, by their numbers -/
def kwL : List (List Nat) := [[18, 15, 1, 4], [6, 15, 18, 20], [1, 20], [5, 1, 20, 19], [19, 20, 15, 18, 5], [16, 1, 14], [13, 1, 11, 5, 19], [19, 5, 18, 22, 5, 19], [20, 15, 23, 14], [15, 6], [23, 1, 14, 20, 19], [16, 18, 9, 3, 5], [7, 18, 1, 9, 14], [3, 15, 19, 20], [18, 1, 20, 5], [3, 12, 1, 19, 19], [3, 15, 9, 14], [13, 15, 19, 20], [20, 1, 24], [7, 21, 1, 18, 4], [1, 14, 4], [15, 18], [14, 15, 20], [25, 5, 1, 18], [13, 15, 14, 20, 8], [14, 5, 5, 4], [4, 1, 25, 19], [23, 1, 9, 20, 9, 14, 7], [1, 7, 5], [19, 1, 3, 11, 19], [2, 15, 21, 7, 8, 20], [13, 1, 4, 5]]
def kwK (k : Nat) : List Nat := kwL.getD k []
theorem kw_ltrs : ∀ k, k < 32 → ltrs (kwK k) := by
  have h : ∀ k, k < 32 → (kwK k).length ≤ 8 ∧ (kwK k).all (fun c => Nat.ble 1 c && Nat.ble c 26) = true := by decide +kernel
  intro k hk
  refine ⟨(h k hk).1, fun c hc => ?_⟩
  have q := List.all_eq_true.mp (h k hk).2 c hc
  rw [Bool.and_eq_true] at q
  exact ⟨Nat.le_of_ble_eq_true q.1, Nat.le_of_ble_eq_true q.2⟩
theorem kw_inj : ∀ k, k < 32 → ∀ j, j < 32 → kwK k = kwK j → k = j := by decide +kernel
def kwV : List Int64 := [1919902052, 1718579828, 24948, 1700885619, 495874699877, 7364974, 469785863539, 126879549252979, 1953462126, 28518, 512735736947, 482955846501, 444300618094, 1668248436, 1918989413, 427020088179, 1668245870, 1836020596, 7627128, 444350952036, 6385252, 28530, 7237492, 2036687218, 470020945000, 1852138852, 1684109683, 33602627781095015, 6383461, 495555144563, 108230850603124, 1835099237]
theorem kw_256 : ∀ k, k < 32 → c256 (kwK k) = kwV.getD k 0 := by decide +kernel
