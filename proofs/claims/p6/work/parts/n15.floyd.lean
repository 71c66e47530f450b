/-! The shortest ways (Floyd): the mathematics, and the class. By hand. -/
def cn (p : Nat → Bool) : Nat → Nat
  | 0 => 0
  | n + 1 => cn p n + (if p n = true then 1 else 0)
theorem cn_le (p : Nat → Bool) : ∀ n, cn p n ≤ n := by
  intro n
  induction n with
  | zero => exact Nat.le_refl _
  | succ n ih =>
    show cn p n + (if p n = true then 1 else 0) ≤ n + 1
    split <;> omega
theorem cn_mono {p q : Nat → Bool} : ∀ n, (∀ z, z < n → p z = true → q z = true) → cn p n ≤ cn q n := by
  intro n
  induction n with
  | zero => intro _; exact Nat.le_refl _
  | succ n ih =>
    intro h
    have i := ih (fun z hz => h z (by omega))
    show cn p n + (if p n = true then 1 else 0) ≤ cn q n + (if q n = true then 1 else 0)
    by_cases c : p n = true
    · rw [if_pos c, if_pos (h n (Nat.lt_succ_self n) c)]; omega
    · rw [if_neg c]; omega
theorem cn_sum {p q r : Nat → Bool} : ∀ n, (∀ z, z < n → p z = true → q z = true → False) → (∀ z, z < n → p z = true → r z = true) → (∀ z, z < n → q z = true → r z = true) → cn p n + cn q n ≤ cn r n := by
  intro n
  induction n with
  | zero => intro _ _ _; exact Nat.le_refl _
  | succ n ih =>
    intro h1 h2 h3
    have i := ih (fun z hz => h1 z (by omega)) (fun z hz => h2 z (by omega)) (fun z hz => h3 z (by omega))
    show (cn p n + (if p n = true then 1 else 0)) + (cn q n + (if q n = true then 1 else 0)) ≤ cn r n + (if r n = true then 1 else 0)
    by_cases c : p n = true
    · have nq : ¬ q n = true := fun w => h1 n (Nat.lt_succ_self n) c w
      rw [if_pos c, if_neg nq, if_pos (h2 n (Nat.lt_succ_self n) c)]; omega
    · rw [if_neg c]
      by_cases d : q n = true
      · rw [if_pos d, if_pos (h3 n (Nat.lt_succ_self n) d)]; omega
      · rw [if_neg d]; omega
/-- one place more to go through -/
def flS (M : Nat → Nat → Int) (k : Nat) : Nat → Nat → Int := fun x y => if M x k ≠ -1 ∧ M k y ≠ -1 ∧ (M x y = -1 ∨ M x k + M k y < M x y) then M x k + M k y else M x y
def flM (M : Nat → Nat → Int) : Nat → Nat → Nat → Int
  | 0 => M
  | k + 1 => flS (flM M k) k
/-- no way of its own is longer than the places it can go through allow -/
def FlI (M : Nat → Nat → Int) (k : Nat) : Prop := (∀ x, x < 16 → M x x = 0) ∧ (∀ x y, x < 16 → y < 16 → M x y = -1 ∨ 0 ≤ M x y) ∧ (∀ z x y, z < k → x < 16 → y < 16 → M x z ≠ -1 → M z y ≠ -1 → M x y ≠ -1) ∧ ∀ x y, x < 16 → y < 16 → M x y ≠ -1 → M x y ≤ 90 * (1 + ((cn (fun z => decide (M x z ≠ -1 ∧ M z y ≠ -1)) k : Nat) : Int))
section FL
variable {M M0 D S : Nat → Nat → Int} {k x y l : Nat} {J J2 : gJ} {L : gL}
theorem FlI.nn (h : FlI M k) (hx : x < 16) (hy : y < 16) (c : M x y ≠ -1) : 0 ≤ M x y := (h.2.1 x y hx hy).resolve_left c
theorem FlI.le (h : FlI M k) (hk : k ≤ 16) (hx : x < 16) (hy : y < 16) : M x y ≤ 1530 := by
  by_cases c : M x y = -1
  · omega
  · have a := h.2.2.2 x y hx hy c
    have b := cn_le (fun z => decide (M x z ≠ -1 ∧ M z y ≠ -1)) k
    omega
theorem flS_fin (h : FlI M k) (hk : k < 16) (hx : x < 16) (hy : y < 16) : flS M k x y ≠ -1 ↔ (M x y ≠ -1 ∨ (M x k ≠ -1 ∧ M k y ≠ -1)) := by
  unfold flS
  by_cases c : M x k ≠ -1 ∧ M k y ≠ -1 ∧ (M x y = -1 ∨ M x k + M k y < M x y)
  · rw [if_pos c]
    have a := h.nn hx hk c.1
    have b := h.nn hk hy c.2.1
    exact ⟨fun _ => Or.inr ⟨c.1, c.2.1⟩, fun _ => by omega⟩
  · rw [if_neg c]
    refine ⟨Or.inl, fun q => ?_⟩
    rcases q with q | q
    · exact q
    · intro w
      exact c ⟨q.1, q.2, Or.inl w⟩
theorem flS_no (c : M x k = -1 ∨ M k y = -1) : flS M k x y = M x y := by
  unfold flS
  rw [if_neg]
  intro w
  rcases c with c | c
  · exact w.1 c
  · exact w.2.1 c
theorem flS_row (h : FlI M k) (hk : k < 16) (hy : y < 16) : flS M k k y = M k y := by
  unfold flS
  rw [if_neg]
  intro w
  have a := h.1 k hk
  rcases w.2.2 with q | q
  · exact w.2.1 q
  · omega
theorem flS_col (h : FlI M k) (hk : k < 16) (hx : x < 16) : flS M k x k = M x k := by
  unfold flS
  rw [if_neg]
  intro w
  have a := h.1 k hk
  rcases w.2.2 with q | q
  · exact w.1 q
  · omega
theorem flI_step (h : FlI M k) (hk : k < 16) : FlI (flS M k) (k + 1) := by
  have mono : ∀ {x y}, x < 16 → y < 16 → M x y ≠ -1 → flS M k x y ≠ -1 := fun hx hy q => (flS_fin h hk hx hy).mpr (Or.inl q)
  have via : ∀ {x y}, x < 16 → y < 16 → M x k ≠ -1 → M k y ≠ -1 → flS M k x y ≠ -1 := fun hx hy q w => (flS_fin h hk hx hy).mpr (Or.inr ⟨q, w⟩)
  refine ⟨fun x hx => ?_, fun x y hx hy => ?_, fun z x y hz hx hy q w => ?_, fun x y hx hy q => ?_⟩
  · unfold flS
    rw [if_neg]
    · exact h.1 x hx
    · intro w
      have a := h.nn hx hk w.1
      have b := h.nn hk hx w.2.1
      have c := h.1 x hx
      rcases w.2.2 with q | q <;> omega
  · by_cases c : flS M k x y = -1
    · exact Or.inl c
    · right
      unfold flS at c ⊢
      by_cases d : M x k ≠ -1 ∧ M k y ≠ -1 ∧ (M x y = -1 ∨ M x k + M k y < M x y)
      · rw [if_pos d]
        have a := h.nn hx hk d.1
        have b := h.nn hk hy d.2.1
        omega
      · rw [if_neg d] at c ⊢
        exact h.nn hx hy c
  · have hz16 : z < 16 := by omega
    have q' := (flS_fin h hk hx hz16).mp q
    have w' := (flS_fin h hk hz16 hy).mp w
    by_cases c : z = k
    · subst c
      have a : M x z ≠ -1 := q'.elim id (fun t => t.1)
      have b : M z y ≠ -1 := w'.elim id (fun t => t.2)
      exact via hx hy a b
    · have hzk : z < k := by omega
      rcases q' with q' | q' <;> rcases w' with w' | w'
      · exact mono hx hy (h.2.2.1 z x y hzk hx hy q' w')
      · exact via hx hy (h.2.2.1 z x k hzk hx hk q' w'.1) w'.2
      · exact via hx hy q'.1 (h.2.2.1 z k y hzk hk hy q'.2 w')
      · exact via hx hy q'.1 w'.2
  · have up : cn (fun z => decide (M x z ≠ -1 ∧ M z y ≠ -1)) k ≤ cn (fun z => decide (flS M k x z ≠ -1 ∧ flS M k z y ≠ -1)) (k + 1) := by
      refine Nat.le_trans (cn_mono (q := fun z => decide (flS M k x z ≠ -1 ∧ flS M k z y ≠ -1)) k (fun z hz t => ?_)) (Nat.le_add_right _ _)
      have t := of_decide_eq_true t
      exact decide_eq_true ⟨mono hx (by omega) t.1, mono (by omega) hy t.2⟩
    by_cases c : M x k ≠ -1 ∧ M k y ≠ -1 ∧ (M x y = -1 ∨ M x k + M k y < M x y)
    · have e : flS M k x y = M x k + M k y := if_pos c
      rw [e]
      by_cases d : M x y = -1
      · have b1 := h.2.2.2 x k hx hk c.1
        have b2 := h.2.2.2 k y hk hy c.2.1
        have s := cn_sum (p := fun z => decide (M x z ≠ -1 ∧ M z k ≠ -1)) (q := fun z => decide (M k z ≠ -1 ∧ M z y ≠ -1)) (r := fun z => decide (flS M k x z ≠ -1 ∧ flS M k z y ≠ -1)) k (fun z hz t u => by
            have t := of_decide_eq_true t
            have u := of_decide_eq_true u
            exact h.2.2.1 z x y hz hx hy t.1 u.2 d) (fun z hz t => by
            have t := of_decide_eq_true t
            exact decide_eq_true ⟨mono hx (by omega) t.1, via (by omega) hy t.2 c.2.1⟩) (fun z hz t => by
            have t := of_decide_eq_true t
            exact decide_eq_true ⟨via hx (by omega) c.1 t.1, mono (by omega) hy t.2⟩)
        have last : cn (fun z => decide (flS M k x z ≠ -1 ∧ flS M k z y ≠ -1)) (k + 1) = cn (fun z => decide (flS M k x z ≠ -1 ∧ flS M k z y ≠ -1)) k + 1 := by
          show _ + (if decide (flS M k x k ≠ -1 ∧ flS M k k y ≠ -1) = true then 1 else 0) = _
          rw [if_pos (decide_eq_true ⟨mono hx hk c.1, mono hk hy c.2.1⟩)]
        omega
      · have b := h.2.2.2 x y hx hy d
        have lt := c.2.2.resolve_left d
        omega
    · have e : flS M k x y = M x y := if_neg c
      rw [e] at q ⊢
      have b := h.2.2.2 x y hx hy q
      omega
theorem flI_all (h : FlI M 0) : ∀ k, k ≤ 16 → FlI (flM M k) k := by
  intro k
  induction k with
  | zero => intro _; exact h
  | succ k ih => intro hk; exact flI_step (ih (by omega)) (by omega)
/-- the reference's far -/
def dlS (D : Nat → Nat → Int) (k : Nat) : Nat → Nat → Int := fun x y => if D x y ≤ wAdd (D x k) (D k y) then D x y else wAdd (D x k) (D k y)
def dlM (D : Nat → Nat → Int) : Nat → Nat → Nat → Int
  | 0 => D
  | k + 1 => dlS (dlM D k) k
def FR (M D : Nat → Nat → Int) : Prop := ∀ x y, x < 16 → y < 16 → (M x y = -1 ∧ D x y = 1000000) ∨ (M x y = D x y ∧ 0 ≤ M x y)
theorem fr_step (h : FlI M k) (hk : k < 16) (r : FR M D) : FR (flS M k) (dlS D k) := by
  intro x y hx hy
  have a := h.le (by omega) hx hk
  have b := h.le (by omega) hk hy
  have c := h.le (by omega) hx hy
  have e : wAdd (D x k) (D k y) = D x k + D k y := by
    rcases r x k hx hk with ⟨p, q⟩ | ⟨p, q⟩ <;> rcases r k y hk hy with ⟨s, t⟩ | ⟨s, t⟩ <;> exact wAdd_r (by omega) (by omega) (by omega) (by omega) (by omega) (by omega)
  unfold flS dlS
  rw [e]
  rcases r x k hx hk with ⟨p, q⟩ | ⟨p, q⟩
  · rw [if_neg (fun w => w.1 p), if_pos]
    · exact r x y hx hy
    · rcases r k y hk hy with ⟨s, t⟩ | ⟨s, t⟩ <;> rcases r x y hx hy with ⟨u, v⟩ | ⟨u, v⟩ <;> omega
  · rcases r k y hk hy with ⟨s, t⟩ | ⟨s, t⟩
    · rw [if_neg (fun w => w.2.1 s), if_pos]
      · exact r x y hx hy
      · rcases r x y hx hy with ⟨u, v⟩ | ⟨u, v⟩ <;> omega
    · have n1 : M x k ≠ -1 := by omega
      have n2 : M k y ≠ -1 := by omega
      rcases r x y hx hy with ⟨u, v⟩ | ⟨u, v⟩
      · rw [if_pos ⟨n1, n2, Or.inl u⟩, if_neg (by omega)]
        exact Or.inr ⟨by omega, by omega⟩
      · by_cases z : M x k + M k y < M x y
        · rw [if_pos ⟨n1, n2, Or.inr z⟩, if_neg (by omega)]
          exact Or.inr ⟨by omega, by omega⟩
        · have n3 : ¬ (M x k ≠ -1 ∧ M k y ≠ -1 ∧ (M x y = -1 ∨ M x k + M k y < M x y)) := fun w => by
            rcases w.2.2 with g | g
            · omega
            · exact z g
          rw [if_neg n3, if_pos (by omega)]
          exact Or.inr ⟨u, v⟩
theorem fr_all (h : FlI M 0) (r : FR M D) : ∀ k, k ≤ 16 → FR (flM M k) (dlM D k) := by
  intro k
  induction k with
  | zero => intro _; exact r
  | succ k ih => intro hk; exact fr_step (flI_all h k (by omega)) (by omega) (ih (by omega))
/-- the row of the ways when n cells of it are done -/
def Mid (S M : Nat → Nat → Int) (n : Nat) (g : Nat → Int) : Prop := ∀ x y, x < 16 → y < 16 → g (16 * x + y) = if 16 * x + y < n then S x y else M x y
theorem Mid.next {g g' : Nat → Int} {i : Nat} (h : Mid S M (16 * x + i) g) (hi : i < 16) (e : g' (16 * x + i) = S x i) (e2 : ∀ y, y ≠ 16 * x + i → g' y = g y) : Mid S M (16 * x + (i + 1)) g' := by
  intro a c ha hc
  by_cases q : 16 * a + c = 16 * x + i
  · have e1 : a = x := by omega
    have e3 : c = i := by omega
    rw [q, e, if_pos (by omega), e1, e3]
  · rw [e2 _ q, h a c ha hc]
    by_cases w : 16 * a + c < 16 * x + i
    · rw [if_pos w, if_pos (by omega)]
    · rw [if_neg w, if_neg (by omega)]
theorem Mid.at {g : Nat → Int} {i : Nat} (h : Mid S M (16 * x + i) g) (hx : x < 16) (hi : i < 16) : g (16 * x + i) = M x i := by
  rw [h x i hx hi, if_neg (by omega)]
theorem Mid.same {g : Nat → Int} {n : Nat} (h : Mid S M n g) (hx : x < 16) (hy : y < 16) (e : S x y = M x y) : g (16 * x + y) = M x y := by
  rw [h x y hx hy]
  split
  · exact e
  · rfl
theorem Mid.done {g : Nat → Int} (h : Mid S M 256 g) (N : Nat → Nat → Int) : Mid N S 0 g := by
  intro a c ha hc
  rw [h a c ha hc, if_pos (by omega), if_neg (by omega)]
-- the class
theorem c_fl26 {K10 : gJ → gL → Int → Int → Int × gJ × gL} (h : FlI M k) (hk : k < 16) (hx : x < 16) {x3 : Int} (h3 : x3 = M x k) : ∀ (f i n : Nat) (J : gJ), i + f = 16 → f < n → Mid (flS M k) M (16 * x + i) (J (l + 2)) → ∃ J2, gLand_shortenWays_26 n K10 l J L (k : Int) (x : Int) x3 (i : Int) = K10 J2 L (k : Int) ((x + 1 : Nat) : Int) ∧ RwFr (l + 2) J J2 ∧ Mid (flS M k) M (16 * x + 16) (J2 (l + 2)) := by
  intro f
  induction f with
  | zero =>
    intro i n J hi hn hm
    obtain ⟨n, rfl⟩ : ∃ n', n = n' + 1 := ⟨n - 1, by omega⟩
    have e16 : i = 16 := by omega
    rw [eLand_shortenWays_26, if_pos (by omega), eLand_shortenWays_70]
    simp only [gLetp]
    rw [nat1]
    exact ⟨J, rfl, RwFr.rf, by rw [e16] at hm; exact hm⟩
  | succ f ih =>
    intro i n J hi hn hm
    obtain ⟨n, rfl⟩ : ∃ n', n = n' + 1 := ⟨n - 1, by omega⟩
    have hi16 : i < 16 := by omega
    rw [eLand_shortenWays_26, if_neg (by omega)]
    by_cases c : x3 = -1
    · rw [if_pos c, eLand_shortenWays_70]
      simp only [gLetp]
      rw [nat1]
      refine ⟨J, rfl, RwFr.rf, fun a b ha hb => ?_⟩
      rw [hm a b ha hb]
      by_cases w : 16 * a + b < 16 * x + i
      · rw [if_pos w, if_pos (by omega)]
      · rw [if_neg w]
        by_cases w2 : 16 * a + b < 16 * x + 16
        · have ea : a = x := by omega
          rw [if_pos w2, ea, flS_no (Or.inl (h3.symm.trans c))]
        · rw [if_neg w2]
    · rw [if_neg c]
      simp only [gLetp, gB3p, eLand_shortenWays_64]
      have dk : gLand_daysBetween_0 l J L (k : Int) (i : Int) = M k i := (c_daysB hk hi16).trans (hm.same hk hi16 (flS_row h hk hi16))
      rw [dk]
      have cur := hm.at hx hi16
      by_cases c2 : M k i = -1
      · rw [if_pos c2, nat1]
        exact ih (i + 1) n J (by omega) (by omega) (hm.next hi16 (by rw [cur, flS_no (Or.inr c2)]) (fun _ _ => rfl))
      · have n1 : M x k ≠ -1 := fun q => c (h3.trans q)
        have r1 := h.nn hx hk n1
        have r2 := h.nn hk hi16 c2
        have r3 := h.le (by omega) hx hk
        have r4 := h.le (by omega) hk hi16
        rw [if_neg c2, c_shorten hx hi16, h3, wAdd_r (by omega) (by omega) (by omega) (by omega) (by omega) (by omega), cur]
        dsimp only
        rw [nat1]
        by_cases c4 : M x i = -1 ∨ M x k + M k i < M x i
        · rw [if_pos c4]
          obtain ⟨J2, e, fr, g⟩ := ih (i + 1) n (q_u J (l + 2) (16 * x + i) (M x k + M k i)) (by omega) (by omega) (hm.next hi16 (by rw [q_u_at]; unfold flS; rw [if_pos ⟨n1, c2, c4⟩]) (fun y q => q_u_k q))
          exact ⟨J2, by rw [← h3] at e ⊢; exact e, rwq.tr fr, g⟩
        · rw [if_neg c4]
          obtain ⟨J2, e, fr, g⟩ := ih (i + 1) n J (by omega) (by omega) (hm.next hi16 (by rw [cur]; unfold flS; rw [if_neg (fun w => c4 w.2.2)]) (fun _ _ => rfl))
          exact ⟨J2, by rw [← h3]; exact e, fr, g⟩
theorem c_fl10 {K2 : gJ → gL → Int → Int × gJ × gL} (h : FlI M k) (hk : k < 16) : ∀ (f i n : Nat) (J : gJ), i + f = 16 → f < n → Mid (flS M k) M (16 * i) (J (l + 2)) → ∃ J2, gLand_shortenWays_10 n K2 l J L (k : Int) (i : Int) = K2 J2 L ((k + 1 : Nat) : Int) ∧ RwFr (l + 2) J J2 ∧ Mid (flS M k) M 256 (J2 (l + 2)) := by
  intro f
  induction f with
  | zero =>
    intro i n J hi hn hm
    obtain ⟨n, rfl⟩ : ∃ n', n = n' + 1 := ⟨n - 1, by omega⟩
    have e16 : i = 16 := by omega
    rw [eLand_shortenWays_10, if_pos (by omega)]
    simp only [gLetp]
    rw [nat1]
    exact ⟨J, rfl, RwFr.rf, by rw [e16] at hm; exact hm⟩
  | succ f ih =>
    intro i n J hi hn hm
    obtain ⟨n, rfl⟩ : ∃ n', n = n' + 1 := ⟨n - 1, by omega⟩
    have hi16 : i < 16 := by omega
    rw [eLand_shortenWays_10, if_neg (by omega)]
    simp only [gLetp]
    obtain ⟨J1, e1, f1, g1⟩ := c_fl26 (l := l) (L := L) (K10 := gLand_shortenWays_10 n K2 l) h hk hi16 (x3 := gLand_daysBetween_0 l J L (i : Int) (k : Int)) ((c_daysB hi16 hk).trans (hm.same hi16 hk (flS_col h hk hi16))) 16 0 20000 J rfl (by omega) hm
    obtain ⟨J2, e2, f2, g2⟩ := ih (i + 1) n J1 (by omega) (by omega) g1
    exact ⟨J2, e1.trans e2, f1.tr f2, g2⟩
theorem c_fl2 (h : FlI M0 0) : ∀ (f i n : Nat) (J : gJ), i + f = 16 → f < n → Mid (flM M0 i) (flM M0 i) 0 (J (l + 2)) → ∃ J2, gLand_shortenWays_2 n l J L (i : Int) = (0, J2, L) ∧ RwFr (l + 2) J J2 ∧ Mid (flM M0 16) (flM M0 16) 0 (J2 (l + 2)) := by
  intro f
  induction f with
  | zero =>
    intro i n J hi hn hm
    obtain ⟨n, rfl⟩ : ∃ n', n = n' + 1 := ⟨n - 1, by omega⟩
    have e16 : i = 16 := by omega
    rw [eLand_shortenWays_2, if_pos (by omega)]
    exact ⟨J, rfl, RwFr.rf, by rw [e16] at hm; exact hm⟩
  | succ f ih =>
    intro i n J hi hn hm
    obtain ⟨n, rfl⟩ : ∃ n', n = n' + 1 := ⟨n - 1, by omega⟩
    rw [eLand_shortenWays_2, if_neg (by omega)]
    obtain ⟨J1, e1, f1, g1⟩ := c_fl10 (l := l) (L := L) (K2 := gLand_shortenWays_2 n l) (flI_all h i (by omega)) (show i < 16 by omega) 16 0 20000 J rfl (by omega) (fun a b ha hb => by rw [hm a b ha hb, if_neg (by omega), if_neg (by omega)])
    obtain ⟨J2, e2, f2, g2⟩ := ih (i + 1) n J1 (by omega) (by omega) (g1.done _)
    exact ⟨J2, e1.trans e2, f1.tr f2, g2⟩
/-- the class's ways -/
theorem c_floyd (h : FlI M0 0) (hm : ∀ x y, x < 16 → y < 16 → J (l + 2) (16 * x + y) = M0 x y) : ∃ J2, gLand_shortenWays_0 l J L = (0, J2, L) ∧ RwFr (l + 2) J J2 ∧ ∀ x y, x < 16 → y < 16 → J2 (l + 2) (16 * x + y) = flM M0 16 x y := by
  obtain ⟨J2, e, fr, g⟩ := c_fl2 (l := l) (L := L) h 16 0 20000 J rfl (by omega) (fun a b ha hb => by rw [hm a b ha hb, if_neg (by omega)]; rfl)
  exact ⟨J2, e, fr, fun x y hx hy => by rw [g x y hx hy, if_neg (by omega)]⟩
end FL
