/-! What the reference's reading of a REFORM keeps: its pile and its codes. -/
/-- a row with one place set -/
def rU (f : Nat → Int32) (m : Nat) (v : Int32) : Nat → Int32 := fun j => if j = m then v else f j
theorem rU_at {f : Nat → Int32} {m : Nat} {v : Int32} : rU f m v m = v := if_pos rfl
theorem rU_ne {f : Nat → Int32} {m j : Nat} {v : Int32} (h : j ≠ m) : rU f m v j = f j := if_neg h
/-- the sum of p over the first entries -/
def cnt (p : Int → Int) (f : Nat → Int32) : Nat → Int
  | 0 => 0
  | m + 1 => cnt p f m + p (f m).toInt
theorem cnt_cg {p : Int → Int} {f g : Nat → Int32} : ∀ {m : Nat}, (∀ j, j < m → g j = f j) → cnt p g m = cnt p f m := by
  intro m
  induction m with
  | zero => intro _; rfl
  | succ m ih =>
    intro h
    show cnt p g m + p (g m).toInt = cnt p f m + p (f m).toInt
    rw [ih (fun j hj => h j (by omega)), h m (by omega)]
theorem cnt_nn {p : Int → Int} {f : Nat → Int32} (hp : ∀ x, 0 ≤ p x) : ∀ m, 0 ≤ cnt p f m := by
  intro m
  induction m with
  | zero => exact Int.le_refl _
  | succ m ih =>
    show 0 ≤ cnt p f m + p (f m).toInt
    have := hp (f m).toInt
    omega
theorem cnt_le {p : Int → Int} {f : Nat → Int32} (hp : ∀ x, p x ≤ 1) : ∀ m, cnt p f m ≤ (m : Int) := by
  intro m
  induction m with
  | zero => exact Int.le_refl _
  | succ m ih =>
    show cnt p f m + p (f m).toInt ≤ ((m + 1 : Nat) : Int)
    have := hp (f m).toInt
    omega
theorem cnt_s {p : Int → Int} {f : Nat → Int32} {m : Nat} : cnt p f (m + 1) = cnt p f m + p (f m).toInt := rfl
theorem cnt_up {p : Int → Int} {f : Nat → Int32} {m : Nat} {v : Int32} : cnt p (rU f m v) (m + 1) = cnt p f m + p v.toInt := by
  rw [cnt_s, rU_at, cnt_cg (g := rU f m v) (f := f) (fun j hj => rU_ne (by omega))]
/-- NOT and BRACKET; what joins two; what gives a code -/
def pB (x : Int) : Int := if x = 3 ∨ x = 7 then 1 else 0
def pN (x : Int) : Int := if x = 1 ∨ x = 2 ∨ x = 4 ∨ x = 5 ∨ x = 6 then 1 else 0
def pO (x : Int) : Int := if 1 ≤ x ∧ x ≤ 6 then 1 else 0
def rk (x : Int) : Int := if x = 1 ∨ x = 2 ∨ x = 4 ∨ x = 5 ∨ x = 6 then x else 0
theorem pB_r (x : Int) : (x = 3 ∨ x = 7) ∧ pB x = 1 ∨ (x ≠ 3 ∧ x ≠ 7) ∧ pB x = 0 := by unfold pB; split <;> omega
theorem pN_r (x : Int) : (x = 1 ∨ x = 2 ∨ x = 4 ∨ x = 5 ∨ x = 6) ∧ pN x = 1 ∧ rk x = x ∨ ¬ (x = 1 ∨ x = 2 ∨ x = 4 ∨ x = 5 ∨ x = 6) ∧ pN x = 0 ∧ rk x = 0 := by unfold pN rk; split <;> omega
theorem pO_r (x : Int) : (1 ≤ x ∧ x ≤ 6) ∧ pO x = 1 ∨ ¬ (1 ≤ x ∧ x ≤ 6) ∧ pO x = 0 := by unfold pO; split <;> omega
theorem pB_0 (x : Int) : 0 ≤ pB x := by rcases pB_r x with h | h <;> omega
theorem pN_0 (x : Int) : 0 ≤ pN x := by rcases pN_r x with h | h <;> omega
theorem pO_0 (x : Int) : 0 ≤ pO x := by rcases pO_r x with h | h <;> omega
theorem pN_1 (x : Int) : pN x ≤ 1 := by rcases pN_r x with h | h <;> omega
theorem rk_6 (x : Int) : 0 ≤ rk x ∧ rk x ≤ 6 := by rcases pN_r x with h | h <;> omega
/-- a code's term -/
def isT (c : Int) : Prop := (97 ≤ c ∧ c ≤ 122) ∨ c = 78 ∨ c = 68
/-- what a code makes of a pile of n -/
def stD (c n : Int) : Option Int := if c = 126 then (if 1 ≤ n then some n else none) else if (97 ≤ c ∧ c ≤ 122) ∨ c = 78 ∨ c = 68 then (if n ≤ 99 then some (n + 1) else none) else (if 2 ≤ n then some (n - 1) else none)
/-- the pile behind m codes from a on -/
def De (C : Nat → Int32) (a : Nat) : Nat → Option Int
  | 0 => some 0
  | m + 1 => (De C a m).bind (stD (C (a + m)).toInt)
theorem De_cg {C C' : Nat → Int32} {a a' : Nat} : ∀ {m : Nat}, (∀ j, j < m → C' (a' + j) = C (a + j)) → De C' a' m = De C a m := by
  intro m
  induction m with
  | zero => intro _; rfl
  | succ m ih =>
    intro h
    show (De C' a' m).bind (stD (C' (a' + m)).toInt) = (De C a m).bind (stD (C (a + m)).toInt)
    rw [ih (fun j hj => h j (by omega)), h m (by omega)]
theorem De_s {C : Nat → Int32} {a m : Nat} {n n' : Int} (h : De C a m = some n) (hs : stD (C (a + m)).toInt n = some n') : De C a (m + 1) = some n' := by
  show (De C a m).bind (stD (C (a + m)).toInt) = some n'
  rw [h]
  exact hs
theorem De_pre {C : Nat → Int32} {a m : Nat} {n : Int} (h : De C a (m + 1) = some n) : ∃ n', De C a m = some n' ∧ stD (C (a + m)).toInt n' = some n := by
  have h2 : (De C a m).bind (stD (C (a + m)).toInt) = some n := h
  cases e : De C a m with
  | none => rw [e] at h2; exact absurd h2 (by intro q; cases q)
  | some n' => rw [e] at h2; exact ⟨n', rfl, h2⟩
theorem De_low {C : Nat → Int32} {a : Nat} : ∀ {m k : Nat} {n : Int}, De C a m = some n → k ≤ m → ∃ n', De C a k = some n' := by
  intro m
  induction m with
  | zero => intro k n h hk; exact ⟨n, by rw [show k = 0 by omega]; exact h⟩
  | succ m ih =>
    intro k n h hk
    by_cases e : k = m + 1
    · subst e; exact ⟨n, h⟩
    · obtain ⟨n', h1, _⟩ := De_pre h
      exact ih h1 (by omega)
theorem st_no {c n : Int} (h : c = 126) (h1 : 1 ≤ n) : stD c n = some n := by unfold stD; rw [if_pos h, if_pos h1]
theorem st_t {c n : Int} (h : isT c) (h1 : n ≤ 99) : stD c n = some (n + 1) := by
  have h0 : c ≠ 126 := by unfold isT at h; omega
  unfold stD
  unfold isT at h
  rw [if_neg h0, if_pos h, if_pos h1]
theorem st_2 {c n : Int} (h : c ≠ 126) (h2 : ¬ isT c) (h1 : 2 ≤ n) : stD c n = some (n - 1) := by unfold stD; unfold isT at h2; rw [if_neg h, if_neg h2, if_pos h1]
/-- a line of a REFORM: its codes leave one number -/
def LnOK (C : Nat → Int32) (base : Nat) (f t c : Int) : Prop := f < 0 ∨ (0 ≤ f ∧ f ≤ t ∧ t ≤ c ∧ De C (base + f.toNat) (t - f).toNat = some 1)
theorem LnOK.cg {C C' : Nat → Int32} {base base' : Nat} {f t c c' : Int} (h : LnOK C base f t c) (hc : c ≤ c') (e : ∀ j : Nat, (j : Int) < c → C' (base' + j) = C (base + j)) : LnOK C' base' f t c' := by
  rcases h with h | ⟨h1, h2, h3, h4⟩
  · exact Or.inl h
  · refine Or.inr ⟨h1, h2, by omega, ?_⟩
    rw [← h4]
    refine De_cg (fun j hj => ?_)
    have := e (f.toNat + j) (by omega)
    rw [Nat.add_assoc, Nat.add_assoc]
    exact this
/-- signs that stand for what joins two -/
def SgOK (x c : Int) : Prop := (x = 3 → c = 126) ∧ (pN x = 1 → c ≠ 126 ∧ ¬ isT c)
def PilOK (w g : Nat → Int32) (m : Nat) : Prop := (0 < m → (w 0).toInt = 8) ∧ ∀ q, q < m → (q : Int) ≤ 7 * cnt pB w (q + 1) + rk (w q).toInt ∧ (q ≠ 0 → 1 ≤ (w q).toInt ∧ (w q).toInt ≤ 7) ∧ SgOK (w q).toInt (g q).toInt
theorem PilOK.lt {w g : Nat → Int32} {m k : Nat} (h : PilOK w g m) (hk : k ≤ m) : PilOK w g k := ⟨fun h0 => h.1 (by omega), fun q hq => h.2 q (by omega)⟩
theorem PilOK.push {w g : Nat → Int32} {m : Nat} {v s : Int32} (h : PilOK w g m) (hm : 1 ≤ m) (hv : 1 ≤ v.toInt ∧ v.toInt ≤ 7) (hs : SgOK v.toInt s.toInt) (hr : pB v.toInt = 1 ∨ rk (w (m - 1)).toInt < rk v.toInt) : PilOK (rU w m v) (rU g m s) (m + 1) := by
  refine ⟨fun _ => by rw [rU_ne (by omega)]; exact h.1 (by omega), fun q hq => ?_⟩
  by_cases e : q = m
  · subst e
    rw [rU_at, rU_at, cnt_up]
    have a := (h.2 (q - 1) (by omega)).1
    rw [show q - 1 + 1 = q by omega] at a
    have b := rk_6 (w (q - 1)).toInt
    have c := rk_6 v.toInt
    have d := pB_0 v.toInt
    refine ⟨by omega, fun _ => hv, hs⟩
  · rw [rU_ne e, rU_ne e, cnt_cg (g := rU w m v) (f := w) (fun j hj => rU_ne (by omega))]
    exact h.2 q (by omega)
/-- the lines read so far -/
def ShOK (I : Nat → Nat → Int32) (o : Nat) : Prop := ∀ u : Nat, u < 10 → LnOK (I (o + 30)) 2800 (I (o + 26) (40 + u)).toInt (I (o + 27) (40 + u)).toInt (I o 45).toInt
/-- within a line: p, d, b: what is yet to be told of the pile, of its depth, of the place -/
def EX (p d b : Int) (f0 : Nat) (wt : Int) (I : Nat → Nat → Int32) (o : Nat) : Prop := ∃ m : Nat, (I o 48).toInt + p = (m : Int) ∧ (I o 47).toInt + d = cnt pB (I (o + 32)) m ∧ (I o 44).toInt = 4 ∧ (f0 : Int) ≤ (I o 45).toInt ∧ PilOK (I (o + 32)) (I (o + 33)) m ∧ De (I (o + 30)) (2800 + f0) ((I o 45).toInt - f0).toNat = some (cnt pN (I (o + 32)) m + 1 - wt) ∧ (I o 45).toInt + cnt pO (I (o + 32)) m ≤ (I o 6).toInt + b ∧ (wt = 1 → 1 ≤ m) ∧ ShOK I o ∧ (I o 3).toInt ≤ 700 ∧ (I o 6).toInt ≤ (I o 3).toInt
section EXL
variable {p d b p' d' b' wt : Int} {f0 : Nat} {I I' : Nat → Nat → Int32} {o : Nat}
theorem ShOK.fr (h : ShOK I o) (e26 : I' (o + 26) = I (o + 26)) (e27 : I' (o + 27) = I (o + 27)) (e30 : I' (o + 30) = I (o + 30)) (e45 : I' o 45 = I o 45) : ShOK I' o := by unfold ShOK; rw [e26, e27, e30, e45]; exact h
theorem EX.pl (h : EX p d b f0 wt I o) : (I o 6).toInt ≤ (I o 3).toInt := by
  obtain ⟨m, a48, a47, a44, afr, aP, aD, aB, aw, aS, a3, a6⟩ := h
  exact a6
/-- counts that change with what is yet to be told -/
theorem EX.chg (h : EX p d b f0 wt I o) (e26 : I' (o + 26) = I (o + 26)) (e27 : I' (o + 27) = I (o + 27)) (e30 : I' (o + 30) = I (o + 30)) (e32 : I' (o + 32) = I (o + 32)) (e33 : I' (o + 33) = I (o + 33)) (e3 : I' o 3 = I o 3) (e44 : I' o 44 = I o 44) (e45 : I' o 45 = I o 45) (h48 : (I' o 48).toInt + p' = (I o 48).toInt + p) (h47 : (I' o 47).toInt + d' = (I o 47).toInt + d) (h6 : (I o 6).toInt + b ≤ (I' o 6).toInt + b') (h63 : (I' o 6).toInt ≤ (I' o 3).toInt) : EX p' d' b' f0 wt I' o := by
  obtain ⟨m, a48, a47, a44, afr, aP, aD, aB, aw, aS, a3, a6⟩ := h
  refine ⟨m, by omega, by rw [e32]; omega, by rw [e44]; exact a44, by rw [e45]; exact afr, by rw [e32, e33]; exact aP, by rw [e30, e45, e32]; exact aD, by rw [e45, e32]; omega, aw, aS.fr e26 e27 e30 e45, by rw [e3]; exact a3, h63⟩
theorem EX.fr (h : EX p d b f0 wt I o) (e26 : I' (o + 26) = I (o + 26)) (e27 : I' (o + 27) = I (o + 27)) (e30 : I' (o + 30) = I (o + 30)) (e32 : I' (o + 32) = I (o + 32)) (e33 : I' (o + 33) = I (o + 33)) (e3 : I' o 3 = I o 3) (e6 : I' o 6 = I o 6) (e44 : I' o 44 = I o 44) (e45 : I' o 45 = I o 45) (e47 : I' o 47 = I o 47) (e48 : I' o 48 = I o 48) : EX p d b f0 wt I' o :=
  h.chg e26 e27 e30 e32 e33 e3 e44 e45 (by rw [e48]) (by rw [e47]) (by rw [e6]; exact Int.le_refl _) (by obtain ⟨_, _, _, _, _, _, _, _, _, _, _, a6⟩ := h; rw [e6, e3]; exact a6)
theorem EX.nx (h : EX p d b f0 wt I o) (e26 : I' (o + 26) = I (o + 26)) (e27 : I' (o + 27) = I (o + 27)) (e30 : I' (o + 30) = I (o + 30)) (e32 : I' (o + 32) = I (o + 32)) (e33 : I' (o + 33) = I (o + 33)) (e3 : I' o 3 = I o 3) (e44 : I' o 44 = I o 44) (e45 : I' o 45 = I o 45) (e47 : I' o 47 = I o 47) (e48 : I' o 48 = I o 48) (h6 : (I o 6).toInt + b ≤ (I' o 6).toInt) (h63 : (I' o 6).toInt ≤ (I' o 3).toInt) : EX p d 0 f0 wt I' o :=
  h.chg e26 e27 e30 e32 e33 e3 e44 e45 (by rw [e48]) (by rw [e47]) (by omega) h63
theorem EX.put47 {v : Int32} (h : EX p d b f0 wt I o) (e : q_u I o 47 v = I') (hv : v.toInt + d' = (I o 47).toInt + d) : EX p d' b f0 wt I' o := by
  have r : ∀ k, 0 < k → I' (o + k) = I (o + k) := fun k hk => by rw [← e, q_u_ne (by omega)]
  have f : ∀ k, k ≠ 47 → I' o k = I o k := fun k hk => by rw [← e, q_u_k hk]
  have g : I' o 47 = v := by rw [← e, q_u_at]
  have h63 := h.pl
  exact h.chg (r _ (by decide)) (r _ (by decide)) (r _ (by decide)) (r _ (by decide)) (r _ (by decide)) (f _ (by decide)) (f _ (by decide)) (f _ (by decide)) (by rw [f 48 (by decide)]) (by rw [g]; exact hv) (by rw [f 6 (by decide)]; exact Int.le_refl _) (by rw [f 6 (by decide), f 3 (by decide)]; exact h63)
theorem EX.put48 {v : Int32} (h : EX p d b f0 wt I o) (e : q_u I o 48 v = I') (hv : v.toInt + p' = (I o 48).toInt + p) : EX p' d b f0 wt I' o := by
  have r : ∀ k, 0 < k → I' (o + k) = I (o + k) := fun k hk => by rw [← e, q_u_ne (by omega)]
  have f : ∀ k, k ≠ 48 → I' o k = I o k := fun k hk => by rw [← e, q_u_k hk]
  have g : I' o 48 = v := by rw [← e, q_u_at]
  have h63 := h.pl
  exact h.chg (r _ (by decide)) (r _ (by decide)) (r _ (by decide)) (r _ (by decide)) (r _ (by decide)) (f _ (by decide)) (f _ (by decide)) (f _ (by decide)) (by rw [g]; exact hv) (by rw [f 47 (by decide)]) (by rw [f 6 (by decide)]; exact Int.le_refl _) (by rw [f 6 (by decide), f 3 (by decide)]; exact h63)
theorem EX.low (h : EX 0 0 b f0 wt I o) (h7 : (I o 47).toInt ≤ 7) : (I o 48).toInt ≤ 56 := by
  obtain ⟨m, a48, a47, _, _, aP, _⟩ := h
  by_cases e : m = 0
  · subst e; omega
  · have q := (aP.2 (m - 1) (by omega)).1
    rw [show m - 1 + 1 = m by omega] at q
    have r := rk_6 (I (o + 32) (m - 1)).toInt
    omega
theorem EX.all (h : EX 0 d b f0 wt I o) (h1 : 1 ≤ (I o 48).toInt) : (I (o + 32) 0).toInt = 8 := by
  obtain ⟨m, a48, _, _, _, aP, _⟩ := h
  exact aP.1 (by omega)
theorem EX.pos (h : EX 0 d b f0 1 I o) : 1 ≤ (I o 48).toInt := by
  obtain ⟨m, a48, _, _, _, _, _, _, aw, _⟩ := h
  have := aw rfl
  omega
theorem EX.cod (h : EX p d b f0 wt I o) : (I o 45).toInt ≤ (I o 6).toInt + b ∧ (I o 6).toInt ≤ 700 ∧ (I o 3).toInt ≤ 700 ∧ (I o 44).toInt = 4 ∧ (f0 : Int) ≤ (I o 45).toInt := by
  obtain ⟨m, _, _, a44, afr, _, _, aB, _, _, a3, a6⟩ := h
  have := cnt_nn (f := I (o + 32)) pO_0 m
  omega
/-- the entry just taken off -/
theorem EX.off (h : EX 1 d b f0 wt I o) (h0 : 0 ≤ (I o 48).toInt) : SgOK (I (o + 32) (I o 48).toNatClampNeg).toInt (I (o + 33) (I o 48).toNatClampNeg).toInt ∧ 1 ≤ (I (o + 32) (I o 48).toNatClampNeg).toInt ∧ ((I (o + 32) (I o 48).toNatClampNeg).toInt ≤ 7 ∧ 1 ≤ (I o 48).toInt ∨ (I (o + 32) (I o 48).toNatClampNeg).toInt = 8 ∧ (I o 48).toInt = 0) ∧ pB (I (o + 32) (I o 48).toNatClampNeg).toInt ≤ (I o 47).toInt + d ∧ (I o 45).toInt + pO (I (o + 32) (I o 48).toNatClampNeg).toInt ≤ (I o 6).toInt + b := by
  obtain ⟨m, a48, a47, a44, afr, aP, aD, aB, aw, aS, a3, a6⟩ := h
  have cl := tCl h0
  obtain ⟨j, rfl⟩ : ∃ j, m = j + 1 := ⟨m - 1, by omega⟩
  have ej : (I o 48).toNatClampNeg = j := by omega
  rw [ej]
  have q := aP.2 j (by omega)
  rw [cnt_s] at a47 aB
  have c1 := cnt_nn (f := I (o + 32)) pB_0 j
  have c2 := cnt_nn (f := I (o + 32)) pO_0 j
  have al := aP.1 (by omega)
  by_cases e : j = 0
  · subst e; exact ⟨q.2.2, by omega, Or.inr ⟨al, by omega⟩, by omega, by omega⟩
  · have q2 := q.2.1 e; exact ⟨q.2.2, q2.1, Or.inl ⟨q2.2, by omega⟩, by omega, by omega⟩
theorem EX.push {v s : Int32} {dB dO wt' : Int} (h : EX 0 0 0 f0 wt I o) (hB : pB v.toInt = dB) (hO : pO v.toInt = dO) (hN : wt + pN v.toInt = wt') (h1 : 1 ≤ (I o 48).toInt) (hv : 1 ≤ v.toInt ∧ v.toInt ≤ 7) (hs : SgOK v.toInt s.toInt) (hr : dB = 1 ∨ rk (I (o + 32) ((I o 48) - 1).toNatClampNeg).toInt < rk v.toInt) (e26 : I' (o + 26) = I (o + 26)) (e27 : I' (o + 27) = I (o + 27)) (e30 : I' (o + 30) = I (o + 30)) (e32 : I' (o + 32) = rU (I (o + 32)) (I o 48).toNatClampNeg v) (e33 : I' (o + 33) = rU (I (o + 33)) (I o 48).toNatClampNeg s) (e3 : I' o 3 = I o 3) (e6 : I' o 6 = I o 6) (e44 : I' o 44 = I o 44) (e45 : I' o 45 = I o 45) (e47 : I' o 47 = I o 47) (e48 : (I' o 48).toInt = (I o 48).toInt + 1) : EX 0 dB dO f0 wt' I' o := by
  subst hB hO hN
  obtain ⟨m, a48, a47, a44, afr, aP, aD, aB, aw, aS, a3, a6⟩ := h
  have cl := tCl (x := I o 48) (by omega)
  have hi := i_hi (I o 48)
  have em : (I o 48).toNatClampNeg = m := by omega
  have o1 : (1 : Int32).toInt = 1 := rfl
  have s1 : ((I o 48) - 1).toInt = (I o 48).toInt - (1 : Int32).toInt := tSub (by omega) (by omega)
  have c1 := tCl (x := (I o 48) - 1) (by omega)
  have e1 : ((I o 48) - 1).toNatClampNeg = m - 1 := by omega
  rw [em] at e32 e33
  rw [e1] at hr
  have nn := pN_0 v.toInt
  refine ⟨m + 1, by omega, by rw [e32, cnt_up, e47]; omega, by rw [e44]; exact a44, by rw [e45]; exact afr, by rw [e32, e33]; exact aP.push (by omega) hv hs hr, ?_, by rw [e45, e32, cnt_up, e6]; omega, fun _ => by omega, aS.fr e26 e27 e30 e45, by rw [e3]; exact a3, by rw [e3, e6]; exact a6⟩
  rw [e30, e45, e32, cnt_up, aD]
  congr 1
  omega
theorem ShOK.step {c : Int32} (h : ShOK I o) (e26 : I' (o + 26) = I (o + 26)) (e27 : I' (o + 27) = I (o + 27)) (h0 : 0 ≤ (I o 45).toInt) (e30 : I' (o + 30) = rU (I (o + 30)) (2800 + (I o 45).toInt.toNat) c) (e45 : (I' o 45).toInt = (I o 45).toInt + 1) : ShOK I' o := by
  intro u hu
  have q := h u hu
  rw [e26, e27, e30, e45]
  exact q.cg (by omega) (fun j hj => rU_ne (by omega))
theorem EX.step1 {c : Int32} (h : EX 0 0 0 f0 1 I o) (hc : isT c.toInt) (h7 : (I o 47).toInt ≤ 7) (e26 : I' (o + 26) = I (o + 26)) (e27 : I' (o + 27) = I (o + 27)) (e30 : I' (o + 30) = rU (I (o + 30)) (2800 + (I o 45).toInt.toNat) c) (e32 : I' (o + 32) = I (o + 32)) (e33 : I' (o + 33) = I (o + 33)) (e3 : I' o 3 = I o 3) (e6 : I' o 6 = I o 6) (e44 : I' o 44 = I o 44) (e45 : (I' o 45).toInt = (I o 45).toInt + 1) (e47 : I' o 47 = I o 47) (e48 : I' o 48 = I o 48) : EX 0 0 1 f0 0 I' o := by
  have lw := h.low h7
  obtain ⟨m, a48, a47, a44, afr, aP, aD, aB, aw, aS, a3, a6⟩ := h
  have cl := cnt_le (f := I (o + 32)) pN_1 m
  refine ⟨m, by rw [e48]; exact a48, by rw [e47, e32]; exact a47, by rw [e44]; exact a44, by omega, by rw [e32, e33]; exact aP, ?_, by rw [e45, e32, e6]; omega, fun h => absurd h (by decide), aS.step e26 e27 (by omega) e30 e45, by rw [e3]; exact a3, by rw [e3, e6]; exact a6⟩
  rw [e45, show ((I o 45).toInt + 1 - (f0 : Int)).toNat = ((I o 45).toInt - f0).toNat + 1 by omega, e32]
  have pl : 2800 + f0 + ((I o 45).toInt - (f0 : Int)).toNat = 2800 + (I o 45).toInt.toNat := by omega
  refine De_s (n := cnt pN (I (o + 32)) m + 1 - 1) ?_ ?_
  · rw [← aD, e30]
    exact De_cg (fun j hj => rU_ne (by omega))
  · rw [e30, pl, rU_at, st_t hc (by omega)]
    congr 1
    omega
theorem EX.step0 {c : Int32} (h : EX 1 d 0 f0 0 I o) (h0 : 0 ≤ (I o 48).toInt) (hd : d = pB (I (o + 32) (I o 48).toNatClampNeg).toInt) (ho : pO (I (o + 32) (I o 48).toNatClampNeg).toInt = 1) (hc : c = I (o + 33) (I o 48).toNatClampNeg) (e26 : I' (o + 26) = I (o + 26)) (e27 : I' (o + 27) = I (o + 27)) (e30 : I' (o + 30) = rU (I (o + 30)) (2800 + (I o 45).toInt.toNat) c) (e32 : I' (o + 32) = I (o + 32)) (e33 : I' (o + 33) = I (o + 33)) (e3 : I' o 3 = I o 3) (e6 : I' o 6 = I o 6) (e44 : I' o 44 = I o 44) (e45 : (I' o 45).toInt = (I o 45).toInt + 1) (e47 : I' o 47 = I o 47) (e48 : I' o 48 = I o 48) : EX 0 0 0 f0 0 I' o := by
  have sg := (h.off h0).1
  rw [← hc] at sg
  obtain ⟨m, a48, a47, a44, afr, aP, aD, aB, aw, aS, a3, a6⟩ := h
  have cl := tCl h0
  obtain ⟨j, rfl⟩ : ∃ j, m = j + 1 := ⟨m - 1, by omega⟩
  have ej : (I o 48).toNatClampNeg = j := by omega
  rw [ej] at hd ho hc sg
  rw [cnt_s] at a47 aB
  have cn := cnt_nn (f := I (o + 32)) pN_0 j
  refine ⟨j, by rw [e48]; omega, by rw [e47, e32]; omega, by rw [e44]; exact a44, by omega, by rw [e32, e33]; exact aP.lt (by omega), ?_, by rw [e45, e32, e6]; omega, fun h => absurd h (by decide), aS.step e26 e27 (by omega) e30 e45, by rw [e3]; exact a3, by rw [e3, e6]; exact a6⟩
  rw [e45, show ((I o 45).toInt + 1 - (f0 : Int)).toNat = ((I o 45).toInt - f0).toNat + 1 by omega, e32]
  have pl : 2800 + f0 + ((I o 45).toInt - (f0 : Int)).toNat = 2800 + (I o 45).toInt.toNat := by omega
  refine De_s (n := cnt pN (I (o + 32)) (j + 1) + 1 - 0) ?_ ?_
  · rw [← aD, e30]
    exact De_cg (fun j hj => rU_ne (by omega))
  · rw [e30, pl, rU_at, cnt_s]
    rcases pN_r (I (o + 32) j).toInt with ⟨a, b, _⟩ | ⟨a, b, _⟩
    · rw [b, st_2 (sg.2 b).1 (sg.2 b).2 (by omega)]
      congr 1
      omega
    · have a3 : (I (o + 32) j).toInt = 3 := by rcases pO_r (I (o + 32) j).toInt with q | q <;> omega
      rw [b, st_no (sg.1 a3) (by omega)]
      congr 1
      omega
theorem EX.drop (h : EX 1 d 0 f0 0 I o) (h0 : 0 ≤ (I o 48).toInt) (hd : d = pB (I (o + 32) (I o 48).toNatClampNeg).toInt) (ho : pO (I (o + 32) (I o 48).toNatClampNeg).toInt = 0) : EX 0 0 0 f0 0 I o := by
  obtain ⟨m, a48, a47, a44, afr, aP, aD, aB, aw, aS, a3, a6⟩ := h
  have cl := tCl h0
  obtain ⟨j, rfl⟩ : ∃ j, m = j + 1 := ⟨m - 1, by omega⟩
  have ej : (I o 48).toNatClampNeg = j := by omega
  rw [ej] at hd ho
  rw [cnt_s] at a47 aB
  have z : pN (I (o + 32) j).toInt = 0 := by rcases pN_r (I (o + 32) j).toInt with q | q <;> rcases pO_r (I (o + 32) j).toInt with r | r <;> omega
  rw [cnt_s, z] at aD
  refine ⟨j, by omega, by omega, a44, afr, aP.lt (by omega), by rw [aD]; congr 1; omega, by omega, fun h => absurd h (by decide), aS, a3, a6⟩
/-- between lines -/
def ReS (I : Nat → Nat → Int32) (o : Nat) : Prop := (I o 44).toInt = 4 ∧ 0 ≤ (I o 45).toInt ∧ (I o 45).toInt ≤ (I o 6).toInt ∧ (I o 3).toInt ≤ 700 ∧ (I o 6).toInt ≤ (I o 3).toInt ∧ ShOK I o
theorem ReS.fr (h : ReS I o) (e26 : I' (o + 26) = I (o + 26)) (e27 : I' (o + 27) = I (o + 27)) (e30 : I' (o + 30) = I (o + 30)) (e3 : I' o 3 = I o 3) (e6 : I' o 6 = I o 6) (e44 : I' o 44 = I o 44) (e45 : I' o 45 = I o 45) : ReS I' o := by
  obtain ⟨a, b, c, d, e, f⟩ := h
  exact ⟨by rw [e44]; exact a, by rw [e45]; exact b, by rw [e45, e6]; exact c, by rw [e3]; exact d, by rw [e6, e3]; exact e, f.fr e26 e27 e30 e45⟩
theorem ReS.at (h : ReS I o) (e26 : I' (o + 26) = I (o + 26)) (e27 : I' (o + 27) = I (o + 27)) (e30 : I' (o + 30) = I (o + 30)) (e3 : I' o 3 = I o 3) (h6 : (I o 6).toInt ≤ (I' o 6).toInt) (h63 : (I' o 6).toInt ≤ (I' o 3).toInt) (e44 : I' o 44 = I o 44) (e45 : I' o 45 = I o 45) : ReS I' o := by
  obtain ⟨a, b, c, d, e, f⟩ := h
  exact ⟨by rw [e44]; exact a, by rw [e45]; exact b, by rw [e45]; omega, by rw [e3]; exact d, h63, f.fr e26 e27 e30 e45⟩
theorem ReS.begin (h : ReS I o) (e26 : I' (o + 26) = I (o + 26)) (e27 : I' (o + 27) = I (o + 27)) (e30 : I' (o + 30) = I (o + 30)) (h32 : (I' (o + 32) 0).toInt = 8) (e3 : I' o 3 = I o 3) (e6 : I' o 6 = I o 6) (e44 : I' o 44 = I o 44) (e45 : I' o 45 = I o 45) (h47 : (I' o 47).toInt = 0) (h48 : (I' o 48).toInt = 1) : EX 0 0 0 (I' o 45).toInt.toNat 1 I' o := by
  obtain ⟨a, b, c, d, e, f⟩ := h
  have w0 : ∀ p, cnt p (I' (o + 32)) 1 = p 8 := fun p => by rw [cnt_s, h32]; show 0 + p 8 = p 8; omega
  have nn : 0 ≤ (I' o 45).toInt := by rw [e45]; exact b
  refine ⟨1, by omega, by rw [w0, h47]; decide, by rw [e44]; exact a, by omega, ⟨fun _ => h32, fun q hq => ?_⟩, ?_, by rw [w0, e45, e6]; show (I o 45).toInt + 0 ≤ _; omega, fun _ => Nat.le_refl _, f.fr e26 e27 e30 e45, by rw [e3]; exact d, by rw [e3, e6]; exact e⟩
  · have e0 : q = 0 := by omega
    subst e0
    rw [w0, h32]
    exact ⟨by decide, fun h => absurd rfl h, fun h => absurd h (by decide), fun h => absurd h (by decide)⟩
  · rw [show ((I' o 45).toInt - ((I' o 45).toInt.toNat : Int)).toNat = 0 by omega, w0]
    rfl
theorem EX.done (h : EX 0 0 0 f0 0 I o) (h0 : (I o 48).toInt ≤ 0) : ReS I o ∧ De (I (o + 30)) (2800 + f0) ((I o 45).toInt - f0).toNat = some 1 ∧ (f0 : Int) ≤ (I o 45).toInt := by
  obtain ⟨m, a48, a47, a44, afr, aP, aD, aB, aw, aS, a3, a6⟩ := h
  have em : m = 0 := by omega
  subst em
  have z : cnt pO (I (o + 32)) 0 = 0 := rfl
  exact ⟨⟨a44, by omega, by omega, a3, a6, aS⟩, aD, afr⟩
theorem ReS.set {I1 : Nat → Nat → Int32} {i1 i2 : Nat} {f c : Int32} {u : Nat} (h : ReS I o) (hu : u < 10) (hf : 0 ≤ f.toInt) (hc : c = I o 45) (hfc : f.toInt ≤ (I o 45).toInt) (hD : De (I (o + 30)) (2800 + f.toInt.toNat) ((I o 45).toInt - f.toInt).toNat = some 1) (e1 : q_u I (o + 26) i1 f = I1) (e2 : q_u I1 (o + 27) i2 c = I') (h1 : i1 = 40 + u) (h2 : i2 = 40 + u) : ReS I' o := by
  subst h1
  subst h2
  have r : ∀ k, k ≠ 26 → k ≠ 27 → I' (o + k) = I (o + k) := fun k a b => by rw [← e2, q_u_ne (by omega), ← e1, q_u_ne (by omega)]
  have ro : I' o = I o := r 0 (by decide) (by decide)
  obtain ⟨a, b, c', d, e, g⟩ := h
  refine ⟨by rw [ro]; exact a, by rw [ro]; exact b, by rw [ro]; exact c', by rw [ro]; exact d, by rw [ro]; exact e, fun v hv => ?_⟩
  rw [r 30 (by decide) (by decide), ro]
  by_cases q : v = u
  · subst q
    have f1 : I' (o + 26) (40 + v) = f := by rw [← e2, q_u_ne (by omega), ← e1, q_u_at]
    have f2 : I' (o + 27) (40 + v) = c := by rw [← e2, q_u_at]
    rw [f1, f2, hc]
    exact Or.inr ⟨hf, hfc, Int.le_refl _, hD⟩
  · have f1 : I' (o + 26) (40 + v) = I (o + 26) (40 + v) := by rw [← e2, q_u_ne (by omega), ← e1, q_u_k (by omega)]
    have f2 : I' (o + 27) (40 + v) = I (o + 27) (40 + v) := by rw [← e2, q_u_k (by omega), ← e1, q_u_ne (by omega)]
    rw [f1, f2]
    exact g v hv
/-- no sign of a term, no NOT -/
def Bn (c : Int) : Prop := c ≠ 126 ∧ ¬ isT c
theorem SgOK.bn {x c : Int} (hx : x ≠ 3) (hb : Bn c) : SgOK x c := ⟨fun h => absurd h hx, fun _ => hb⟩
theorem rU_q {a m k : Nat} {v : Int32} (e : q_u I a k v = I') (h : k = m) : I' a = rU (I a) m v := by
  subst h
  funext j
  rw [← e]
  by_cases hj : j = k
  · subst hj; rw [q_u_at, rU_at]
  · rw [q_u_k hj, rU_ne hj]
/-- between lines, while all is well -/
def ReG (I : Nat → Nat → Int32) (o : Nat) : Prop := (I o 4).toInt = 0 → ReS I o
theorem ReG.fr (h : ReG I o) (e26 : I' (o + 26) = I (o + 26)) (e27 : I' (o + 27) = I (o + 27)) (e30 : I' (o + 30) = I (o + 30)) (e3 : I' o 3 = I o 3) (e4 : I' o 4 = I o 4) (e6 : I' o 6 = I o 6) (e44 : I' o 44 = I o 44) (e45 : I' o 45 = I o 45) : ReG I' o := fun q => (h (by rw [← e4]; exact q)).fr e26 e27 e30 e3 e6 e44 e45
/-- a row being copied: the first k of w entries, from s to t -/
def CpR (f1 f : Nat → Int32) (w s t : Nat) (k : Int) : Prop := (∀ j : Nat, (j : Int) < k → f (w * t + j) = f1 (w * s + j)) ∧ (∀ j : Nat, (j < w * t ∨ ((w * t : Nat) : Int) + k ≤ (j : Int)) → f j = f1 j)
theorem CpR.zero {f : Nat → Int32} {w s t : Nat} {k : Int} (h : k = 0) : CpR f f w s t k := ⟨fun j hj => absurd hj (by omega), fun _ _ => rfl⟩
theorem CpR.put {f1 : Nat → Int32} {a w s t i i2 : Nat} {k k' : Int} (h : CpR f1 (I a) w s t k) (e : q_u I a i (I a i2) = I') (h0 : 0 ≤ k) (hi : (i : Int) = ((w * t : Nat) : Int) + k) (hi2 : (i2 : Int) = ((w * s : Nat) : Int) + k) (hw : (w * s + w ≤ w * t) ∨ (w * t + w ≤ w * s)) (hk : k < (w : Int)) (hk' : k' = k + 1) : CpR f1 (I' a) w s t k' := by
  refine ⟨fun j hj => ?_, fun j hj => ?_⟩
  · by_cases q : w * t + j = i
    · rw [q, ← e, q_u_at, h.2 i2 (by omega)]
      congr 1
      omega
    · rw [← e, q_u_k q]
      exact h.1 j (by omega)
  · rw [← e, q_u_k (by omega)]
    exact h.2 j (by omega)
/-- a REFORM on a shelf -/
def TdAt (I : Nat → Nat → Int32) (o s : Nat) : Prop := ∀ u : Nat, u < 10 → LnOK (I (o + 30)) (700 * s) (I (o + 26) (10 * s + u)).toInt (I (o + 27) (10 * s + u)).toInt 700
/-- all REFORMS that are laid -/
def MTd (I : Nat → Nat → Int32) (o : Nat) : Prop := ∀ s : Nat, s < 6 → s ≠ 4 → TdAt I o s
theorem MTd.fr (h : MTd I o) (e26 : I' (o + 26) = I (o + 26)) (e27 : I' (o + 27) = I (o + 27)) (e30 : I' (o + 30) = I (o + 30)) : MTd I' o := by
  intro s hs h4 u hu
  rw [e26, e27, e30]
  exact h s hs h4 u hu
theorem MTd.step {c : Int32} (h : MTd I o) (e26 : I' (o + 26) = I (o + 26)) (e27 : I' (o + 27) = I (o + 27)) (e30 : I' (o + 30) = rU (I (o + 30)) (2800 + (I o 45).toInt.toNat) c) (h7 : (I o 45).toInt ≤ 699) : MTd I' o := by
  intro s hs h4 u hu
  rw [e26, e27, e30]
  exact (h s hs h4 u hu).cg (Int.le_refl _) (fun j hj => rU_ne (by omega))
theorem MTd.put26 {i : Nat} {v : Int32} (h : MTd I o) (e : q_u I (o + 26) i v = I') (h1 : 40 ≤ i ∧ i < 50) : MTd I' o := by
  intro s hs h4 u hu
  have r : ∀ k, k ≠ 26 → I' (o + k) = I (o + k) := fun k hk => by rw [← e, q_u_ne (by omega)]
  rw [r 27 (by decide), r 30 (by decide), ← e, q_u_k (by omega)]
  exact h s hs h4 u hu
theorem MTd.put27 {i : Nat} {v : Int32} (h : MTd I o) (e : q_u I (o + 27) i v = I') (h1 : 40 ≤ i ∧ i < 50) : MTd I' o := by
  intro s hs h4 u hu
  have r : ∀ k, k ≠ 27 → I' (o + k) = I (o + k) := fun k hk => by rw [← e, q_u_ne (by omega)]
  rw [r 26 (by decide), r 30 (by decide), ← e, q_u_k (by omega)]
  exact h s hs h4 u hu
/-- lay() -/
theorem MTd.cp {s t : Nat} (h : MTd I o) (hs : TdAt I o s) (c26 : CpR (I (o + 26)) (I' (o + 26)) 10 s t 10) (c27 : CpR (I (o + 27)) (I' (o + 27)) 10 s t 10) (c30 : CpR (I (o + 30)) (I' (o + 30)) 700 s t 700) : MTd I' o := by
  intro q hq h4 u hu
  by_cases e : q = t
  · subst e
    rw [c26.1 u (by omega), c27.1 u (by omega)]
    exact (hs u hu).cg (Int.le_refl _) (fun j hj => c30.1 j hj)
  · rw [c26.2 _ (by omega), c27.2 _ (by omega)]
    exact (h q hq h4 u hu).cg (Int.le_refl _) (fun j hj => c30.2 _ (by omega))
/-- told: the pile behind the codes up to k -/
def TdN (C : Nat → Int32) (A : Nat) (k n : Int) : Prop := (A : Int) ≤ k ∧ De C A (k - A).toNat = some n
theorem TdN.zero {C : Nat → Int32} {A : Nat} {k n : Int} (h : k = (A : Int)) (hn : n = 0) : TdN C A k n := ⟨by omega, by rw [show (k - (A : Int)).toNat = 0 by omega, hn]; rfl⟩
theorem TdN.nx {C : Nat → Int32} {A : Nat} {k k' n n' n2 : Int} (h : De C A ((k - A).toNat + 1) = some n2) (h1 : (A : Int) ≤ k) (hk : k' = k + 1) (hn : n' = n2) : TdN C A k' n' := ⟨by omega, by rw [show (k' - (A : Int)).toNat = (k - A).toNat + 1 by omega, hn]; exact h⟩
theorem TdN.st {C : Nat → Int32} {base x : Nat} {f t k n : Int} (h : TdN C (base + f.toNat) k n) (hL : LnOK C base f t 700) (hf : 0 ≤ f) (hk : k < (base : Int) + t) (hx : (x : Int) = k) : ∃ n2, De C (base + f.toNat) ((k - ((base + f.toNat : Nat) : Int)).toNat + 1) = some n2 ∧ stD (C x).toInt n = some n2 := by
  obtain ⟨h1, h2⟩ := h
  rcases hL with hL | ⟨l1, l2, l3, l4⟩
  · exact absurd hL (by omega)
  · obtain ⟨n2, e2⟩ := De_low l4 (k := (k - ((base + f.toNat : Nat) : Int)).toNat + 1) (by omega)
    obtain ⟨n1, e1, e3⟩ := De_pre e2
    rw [h2] at e1
    cases e1
    rw [show base + f.toNat + (k - ((base + f.toNat : Nat) : Int)).toNat = x by omega] at e3
    exact ⟨n2, e2, e3⟩
theorem st1 {c n n2 : Int} (h : stD c n = some n2) (hc : c = 126) : 1 ≤ n ∧ n2 = n := by
  unfold stD at h
  rw [if_pos hc] at h
  by_cases q : 1 ≤ n
  · rw [if_pos q] at h; cases h; exact ⟨q, rfl⟩
  · rw [if_neg q] at h; cases h
theorem st2 {c n n2 : Int} (h : stD c n = some n2) (hc : isT c) : n ≤ 99 ∧ n2 = n + 1 := by
  have h0 : c ≠ 126 := by unfold isT at hc; omega
  unfold stD at h
  unfold isT at hc
  rw [if_neg h0, if_pos hc] at h
  by_cases q : n ≤ 99
  · rw [if_pos q] at h; cases h; exact ⟨q, rfl⟩
  · rw [if_neg q] at h; cases h
theorem st3 {c n n2 : Int} (h : stD c n = some n2) (h0 : c ≠ 126) (hc : ¬ isT c) : 2 ≤ n ∧ n2 = n - 1 := by
  unfold stD at h
  unfold isT at hc
  rw [if_neg h0, if_neg hc] at h
  by_cases q : 2 ≤ n
  · rw [if_pos q] at h; cases h; exact ⟨q, rfl⟩
  · rw [if_neg q] at h; cases h
theorem ReS.td (h : ReS I o) : TdAt I o 4 := fun u hu => by
  obtain ⟨a, b, c, d, e, f⟩ := h
  exact (f u hu).cg (by omega) (fun j hj => rfl)
theorem ReS.put {Ie I1 : Nat → Nat → Int32} {x y f : Int32} (q : ReS Ie o ∧ De (Ie (o + 30)) (2800 + f.toInt.toNat) ((Ie o 45).toInt - ((f.toInt.toNat : Nat) : Int)).toNat = some 1 ∧ ((f.toInt.toNat : Nat) : Int) ≤ (Ie o 45).toInt) (hf : 0 ≤ f.toInt) (m26 : I (o + 26) = Ie (o + 26)) (m27 : I (o + 27) = Ie (o + 27)) (m30 : I (o + 30) = Ie (o + 30)) (m3 : I o 3 = Ie o 3) (m44 : I o 44 = Ie o 44) (m45 : I o 45 = Ie o 45) (h6 : (Ie o 6).toInt ≤ (I o 6).toInt) (h63 : (I o 6).toInt ≤ (I o 3).toInt) (e1 : q_u I (o + 26) x.toNatClampNeg f = I1) (e2 : q_u I1 (o + 27) y.toNatClampNeg (I1 o 45) = I') (hx : 40 ≤ x.toInt ∧ x.toInt < 50) (hy : y.toInt = x.toInt) : ReS I' o := by
  obtain ⟨rs, de, le⟩ := q
  have r2 := rs.at m26 m27 m30 m3 h6 h63 m44 m45
  have cx := tCl (x := x) (by omega)
  have cy := tCl (x := y) (by omega)
  have c45 : I1 o 45 = I o 45 := by rw [← e1, q_u_ne (by omega)]
  refine ReS.set (u := x.toNatClampNeg - 40) r2 (by omega) hf c45 (by rw [m45]; omega) ?_ e1 e2 (by omega) (by omega)
  rw [m30, m45, show (Ie o 45).toInt - f.toInt = (Ie o 45).toInt - ((f.toInt.toNat : Nat) : Int) by omega]
  exact de
theorem MTd.p26 {x v : Int32} (h : MTd I o) (e : q_u I (o + 26) x.toNatClampNeg v = I') (hx : 40 ≤ x.toInt ∧ x.toInt < 50) : MTd I' o := by
  have cx := tCl (x := x) (by omega)
  exact h.put26 e (by omega)
theorem MTd.p27 {x v : Int32} (h : MTd I o) (e : q_u I (o + 27) x.toNatClampNeg v = I') (hx : 40 ≤ x.toInt ∧ x.toInt < 50) : MTd I' o := by
  have cx := tCl (x := x) (by omega)
  exact h.put27 e (by omega)
/-- the first k lines of the reading shelf are empty -/
def UFk (I : Nat → Nat → Int32) (o : Nat) (k : Int) : Prop := ∀ u : Nat, (u : Int) < k → (I (o + 26) (40 + u)).toInt = -1
theorem UFk.zero {k : Int} (h : k = 0) : UFk I o k := fun u hu => absurd hu (by omega)
theorem UFk.put {x : Int32} {k k' : Int} (h : UFk I o k) (e : q_u I (o + 26) x.toNatClampNeg (-1) = I') (hx : x.toInt = 40 + k) (h0 : 0 ≤ k) (hk : k' = k + 1) : UFk I' o k' := fun u hu => by
  have cx := tCl (x := x) (by omega)
  by_cases q : 40 + u = x.toNatClampNeg
  · rw [q, ← e, q_u_at]; decide
  · rw [← e, q_u_k q]; exact h u (by omega)
theorem UFk.sh {k : Int} (h : UFk I o k) (hk : 10 ≤ k) (e : I' (o + 26) = I (o + 26)) : ShOK I' o := fun u hu => by
  rw [e]
  have q := h u (by omega)
  exact Or.inl (by omega)
end EXL
