/-! REFORM's grammar by TOKEN numbers: the way down (rd..), the pile (pm..), and that both end alike. By hand. -/
abbrev rdT : Type := Nat → Int × Int × Int
abbrev rdC : Type := List (Nat × Nat)
abbrev rdR : Type := (Nat × Nat × rdC) ⊕ (Int × Nat)
abbrev rdW (t : rdT) (j : Nat) (w : Int) : Prop := (t j).1 = 1 ∧ (t j).2.1 = w
abbrev rdG (t : rdT) (j : Nat) (s : Int) : Prop := (t j).1 = 4 ∧ (t j).2.2 = s
def rdMi (t : rdT) (j : Nat) : Int := if (t j).1 = 5 then 1 else 2
abbrev rdA (t : rdT) (j : Nat) : Prop := (t j).1 = 1 ∧ ((t j).2.1 = 4 ∨ 23 ≤ (t j).2.1)
/-- may this word be asked in a line of this sort -/
def rdY (z w : Int) : Bool := if w = 4 ∨ w = 25 then decide (z = 0) else if w = 26 then decide (z = 0 ∨ 5 ≤ z) else if w = 28 ∨ w = 29 ∨ w = 30 then decide (5 ≤ z) else true
def rkT (t : rdT) (j : Nat) : Nat := if rdW t j 20 then 2 else if rdW t j 21 then 1 else if rdG t j 60 ∨ rdG t j 62 ∨ rdG t j 61 then 4 else if rdG t j 43 ∨ rdG t j 45 then 5 else if rdG t j 42 ∨ rdG t j 47 then 6 else 0
def rdB (r : rdR) (k : Nat → Nat → rdC → rdR) : rdR := match r with
  | .inl (j, u, c) => k j u c
  | .inr b => .inr b
def rdU (t : rdT) (z : Int) (E : Nat → Nat → Nat → rdC → rdR) (d j u : Nat) (c : rdC) : rdR :=
  if 100 ≤ u then .inr (rdMi t j, j)
  else if rdG t j 40 then (if d ≤ 6 then rdB (E (d + 1) (j + 1) (u + 1) c) (fun j' u' c' => if rdG t j' 41 then .inl (j' + 1, u', c') else .inr (rdMi t j', j')) else .inr (rdMi t j, j))
  else if rdA t j then (if rdY z (t j).2.1 = true then .inl (j + 1, u + 1, (0, j) :: c) else .inr (5, j))
  else if (t j).1 = 2 then .inl (j + 1, u + 1, (0, j) :: c) else .inr (rdMi t j, j)
def rdL (t : rdT) (r : Nat) (X : Nat → Nat → rdC → rdR) : Nat → Nat → Nat → rdC → rdR
  | 0, j, u, c => .inl (j, u, c)
  | f + 1, j, u, c => if rkT t j = r then rdB (X (j + 1) u c) (fun j' u' c' => rdL t r X f j' u' ((r, j) :: c')) else .inl (j, u, c)
def rdTm (t : rdT) (z : Int) (E : Nat → Nat → Nat → rdC → rdR) (d j u : Nat) (c : rdC) : rdR := rdB (rdU t z E d j u c) (rdL t 6 (rdU t z E d) 1700)
def rdSm (t : rdT) (z : Int) (E : Nat → Nat → Nat → rdC → rdR) (d j u : Nat) (c : rdC) : rdR := rdB (rdTm t z E d j u c) (rdL t 5 (rdTm t z E d) 1700)
def rdO (t : rdT) (z : Int) (E O : Nat → Nat → Nat → rdC → rdR) (d j u : Nat) (c : rdC) : rdR :=
  if rdW t j 22 then (if d ≤ 6 then rdB (O (d + 1) (j + 1) u c) (fun j' u' c' => .inl (j', u', (3, j) :: c')) else .inr (rdMi t j, j))
  else rdB (rdSm t z E d j u c) (fun j' u' c' => if rkT t j' = 4 then rdB (rdSm t z E d (j' + 1) u' c') (fun j2 u2 c2 => .inl (j2, u2, (4, j') :: c2)) else .inl (j', u', c'))
def rdBo (t : rdT) (z : Int) (E O : Nat → Nat → Nat → rdC → rdR) (d j u : Nat) (c : rdC) : rdR := rdB (rdO t z E O d j u c) (rdL t 2 (rdO t z E O d) 1700)
def rdEi (t : rdT) (z : Int) (E O : Nat → Nat → Nat → rdC → rdR) (d j u : Nat) (c : rdC) : rdR := rdB (rdBo t z E O d j u c) (rdL t 1 (rdBo t z E O d) 1700)
def rdP (t : rdT) (z : Int) : Nat → (Nat → Nat → Nat → rdC → rdR) × (Nat → Nat → Nat → rdC → rdR)
  | 0 => (fun _ j _ _ => .inr (0, j), fun _ j _ _ => .inr (0, j))
  | k + 1 => (rdEi t z (rdP t z k).1 (rdP t z k).2, rdO t z (rdP t z k).1 (rdP t z k).2)
-- the pile
abbrev pmS : Type := (Bool × rdC × Nat × Nat × Nat × rdC) ⊕ ((Int × Nat) ⊕ (Nat × Nat × rdC))
def pmTop (S : rdC) : Nat := match S with
  | [] => 0
  | (w, _) :: _ => w
def pmPop (r : Nat) : rdC → Nat → rdC → rdC × Nat × rdC
  | [], d, c => ([], d, c)
  | (w, i) :: S, d, c => if w ≤ 6 ∧ r ≤ w then pmPop r S (if w = 3 then d - 1 else d) ((w, i) :: c) else ((w, i) :: S, d, c)
def pmCmp : rdC → Bool
  | [] => false
  | (w, _) :: S => if w = 5 ∨ w = 6 then pmCmp S else decide (w = 4)
def pmU (t : rdT) (z : Int) (S : rdC) (d j u : Nat) (c : rdC) : pmS :=
  if (pmTop S ≤ 3 ∨ 7 ≤ pmTop S) ∧ rdW t j 22 then (if d = 7 then .inr (.inl (rdMi t j, j)) else .inl (true, (3, j) :: S, d + 1, j + 1, u, c))
  else if rdA t j ∧ rdY z (t j).2.1 = false ∧ u < 100 then .inr (.inl (5, j))
  else if (¬ rdA t j ∧ (t j).1 ≠ 2 ∧ ¬ rdG t j 40) ∨ u = 100 then .inr (.inl (rdMi t j, j))
  else if rdG t j 40 then (if d = 7 then .inr (.inl (rdMi t j, j)) else .inl (true, (7, j) :: S, d + 1, j + 1, u + 1, c))
  else .inl (false, S, d, j + 1, u + 1, (0, j) :: c)
def pmE (t : rdT) (u j : Nat) (q : rdC × Nat × rdC) : pmS := match q with
  | ([], _, _) => .inr (.inl (0, j))
  | ((w, _) :: S, d, c) => if w = 7 then (if rdG t j 41 then .inl (false, S, d - 1, j + 1, u, c) else .inr (.inl (rdMi t j, j))) else .inr (.inr (j, u, c))
def pmH (t : rdT) (S : rdC) (d j u : Nat) (c : rdC) : pmS :=
  if rkT t j = 4 ∧ pmCmp S = true then .inr (.inl (rdMi t j, j))
  else if 0 < rkT t j then .inl (true, (rkT t j, j) :: (pmPop (rkT t j) S d c).1, (pmPop (rkT t j) S d c).2.1, j + 1, u, (pmPop (rkT t j) S d c).2.2)
  else pmE t u j (pmPop 0 S d c)
def pmR (t : rdT) (z : Int) : Nat → pmS → pmS
  | 0, m => m
  | n + 1, .inl (true, S, d, j, u, c) => pmR t z n (pmU t z S d j u c)
  | n + 1, .inl (false, S, d, j, u, c) => pmR t z n (pmH t S d j u c)
  | _ + 1, .inr m => .inr m
section RD
variable {t : rdT} {z : Int} {E O : Nat → Nat → Nat → rdC → rdR} {T d j u k n r w i : Nat} {c : rdC} {S : rdC} {Q : Nat → Prop} {cb : Bool} {s s' : pmS}
theorem pmR_r (m : (Int × Nat) ⊕ (Nat × Nat × rdC)) : ∀ k, pmR t z k (.inr m) = .inr m
  | 0 => rfl
  | _ + 1 => rfl
theorem pmR_t : pmR t z (k + 1) (.inl (true, S, d, j, u, c)) = pmR t z k (pmU t z S d j u c) := rfl
theorem pmR_f : pmR t z (k + 1) (.inl (false, S, d, j, u, c)) = pmR t z k (pmH t S d j u c) := rfl
theorem rkT_le : rkT t j ≤ 6 := by
  unfold rkT
  repeat' split
  all_goals decide
/-- what lies on top may go off the pile at once: the next step does it anyway -/
theorem pm_flush (h6 : w ≤ 6) (hr : rkT t j ≤ w) (h4 : ¬ (w = 4 ∧ rkT t j = 4)) : pmH t ((w, i) :: S) d j u c = pmH t S (if w = 3 then d - 1 else d) j u ((w, i) :: c) := by
  have e : ∀ r, r ≤ w → pmPop r ((w, i) :: S) d c = pmPop r S (if w = 3 then d - 1 else d) ((w, i) :: c) := fun r h => by rw [pmPop, if_pos ⟨h6, h⟩]
  have q : (rkT t j = 4 ∧ pmCmp ((w, i) :: S) = true) ↔ (rkT t j = 4 ∧ pmCmp S = true) := by
    constructor
    · rintro ⟨a, b⟩
      have w56 : w = 5 ∨ w = 6 := by omega
      rw [pmCmp, if_pos w56] at b
      exact ⟨a, b⟩
    · rintro ⟨a, b⟩
      have w56 : w = 5 ∨ w = 6 := by omega
      refine ⟨a, ?_⟩
      rw [pmCmp, if_pos w56]
      exact b
  unfold pmH
  rw [e _ hr, e 0 (Nat.zero_le _)]
  by_cases a : rkT t j = 4 ∧ pmCmp S = true
  · rw [if_pos a, if_pos (q.mpr a)]
  · rw [if_neg a, if_neg (fun x => a (q.mp x))]
/-- nothing goes off -/
theorem pm_keep (h : 6 < pmTop S ∨ pmTop S < r) : pmPop r S d c = (S, d, c) := by
  match S, h with
  | [], _ => rfl
  | (w, i) :: S, h =>
    have h' : 6 < w ∨ w < r := h
    rw [pmPop, if_neg (by omega)]
theorem pm_cmpN (h : 6 < pmTop S ∨ pmTop S < 4) : pmCmp S = false := by
  match S, h with
  | [], _ => rfl
  | (w, i) :: S, h =>
    have h' : 6 < w ∨ w < 4 := h
    rw [pmCmp, if_neg (by omega)]
    exact decide_eq_false (by omega)
/-- the pile comes to an end: from s at TOKEN j on -/
def pmO (t : rdT) (z : Int) (Q : Nat → Prop) (cb : Bool) (s : pmS) (S : rdC) (d j : Nat) (r : rdR) : Prop := match r with
  | .inl (j', u', c') => j ≤ j' ∧ u' ≤ 100 ∧ Q (rkT t j') ∧ ∃ n, n ≤ j' - j ∧ ∀ k, pmR t z (n + (k + 1)) s = if cb = true ∧ rkT t j' = 4 then .inr (.inl (rdMi t j', j')) else pmR t z (k + 1) (.inl (false, S, d, j', u', c'))
  | .inr (f, p) => j ≤ p ∧ ∃ n, n ≤ p - j ∧ ∀ k, pmR t z (n + (k + 1)) s = .inr (.inl (f, p))
/-- one step more ahead -/
theorem pmO.pre {r : rdR} (h : pmO t z Q cb s' S d (j + 1) r) (e : ∀ k, pmR t z (k + 1) s = pmR t z k s') : pmO t z Q cb s S d j r := by
  match r, h with
  | .inl (j', u', c'), ⟨h1, h2, h3, n, h4, h5⟩ =>
    refine ⟨by omega, h2, h3, n + 1, by omega, fun k => ?_⟩
    rw [show n + 1 + (k + 1) = (n + (k + 1)) + 1 by omega, e]
    exact h5 k
  | .inr (f, p), ⟨h1, n, h4, h5⟩ =>
    refine ⟨by omega, n + 1, by omega, fun k => ?_⟩
    rw [show n + 1 + (k + 1) = (n + (k + 1)) + 1 by omega, e]
    exact h5 k
/-- at once -/
theorem pmO.here (hu : u ≤ 100) (hQ : Q (rkT t j)) (h4 : ¬ (cb = true ∧ rkT t j = 4)) : pmO t z Q cb (.inl (false, S, d, j, u, c)) S d j (.inl (j, u, c)) := by
  refine ⟨Nat.le_refl _, hu, hQ, 0, Nat.zero_le _, fun k => ?_⟩
  rw [if_neg h4, Nat.zero_add]
theorem pmO.err {f : Int} (e : ∀ k, pmR t z (k + 1) s = .inr (.inl (f, j))) : pmO t z Q cb s S d j (.inr (f, j)) := by
  refine ⟨Nat.le_refl _, 0, Nat.zero_le _, fun k => ?_⟩
  rw [Nat.zero_add]
  exact e k
/-- and then -/
theorem pmO.bind {Q' : Nat → Prop} {cb' : Bool} {S' : rdC} {d' : Nat} {r : rdR} {g : Nat → Nat → rdC → rdR} (h : pmO t z Q cb s S d j r) (hg : ∀ j' u' c', r = .inl (j', u', c') → j ≤ j' → u' ≤ 100 → Q (rkT t j') → pmO t z Q' cb' (if cb = true ∧ rkT t j' = 4 then .inr (.inl (rdMi t j', j')) else .inl (false, S, d, j', u', c')) S' d' j' (g j' u' c')) : pmO t z Q' cb' s S' d' j (rdB r g) := by
  match r, h, hg with
  | .inl (j', u', c'), ⟨h1, h2, h3, n, h4, h5⟩, hg =>
    have q := hg j' u' c' rfl h1 h2 h3
    have e : rdB (.inl (j', u', c')) g = g j' u' c' := rfl
    rw [e]
    have f : ∀ k, pmR t z (n + (k + 1)) s = pmR t z (k + 1) (if cb = true ∧ rkT t j' = 4 then .inr (.inl (rdMi t j', j')) else .inl (false, S, d, j', u', c')) := fun k => by
      rw [h5 k]
      by_cases a : cb = true ∧ rkT t j' = 4
      · rw [if_pos a, if_pos a, pmR_r]
      · rw [if_neg a, if_neg a]
    generalize (if cb = true ∧ rkT t j' = 4 then Sum.inr (Sum.inl (rdMi t j', j')) else Sum.inl (false, S, d, j', u', c') : pmS) = s2 at q f
    generalize g j' u' c' = r2 at q
    match r2, q with
    | .inl (j2, u2, c2), ⟨q1, q2, q3, m, q4, q5⟩ =>
      refine ⟨by omega, q2, q3, n + m, by omega, fun k => ?_⟩
      rw [show n + m + (k + 1) = n + ((m + k) + 1) by omega, f, show m + k + 1 = m + (k + 1) by omega]
      exact q5 k
    | .inr (f2, p), ⟨q1, m, q4, q5⟩ =>
      refine ⟨by omega, n + m, by omega, fun k => ?_⟩
      rw [show n + m + (k + 1) = n + ((m + k) + 1) by omega, f, show m + k + 1 = m + (k + 1) by omega]
      exact q5 k
  | .inr (f, p), h, _ => exact h
/-- the other pile does the same -/
theorem pmO.sub {r : rdR} (h : pmO t z Q cb s' S d j r) (e : ∀ k, pmR t z (k + 1) s = pmR t z (k + 1) s') : pmO t z Q cb s S d j r := by
  match r, h with
  | .inl (j', u', c'), ⟨h1, h2, h3, n, h4, h5⟩ =>
    refine ⟨h1, h2, h3, n, h4, fun k => ?_⟩
    have x := h5 k
    match n, x with
    | 0, x => rw [Nat.zero_add] at x ⊢; rw [e]; exact x
    | n + 1, x => rw [show n + 1 + (k + 1) = (n + (k + 1)) + 1 by omega] at x ⊢; rw [e]; exact x
  | .inr (f, p), ⟨h1, n, h4, h5⟩ =>
    refine ⟨h1, n, h4, fun k => ?_⟩
    have x := h5 k
    match n, x with
    | 0, x => rw [Nat.zero_add] at x ⊢; rw [e]; exact x
    | n + 1, x => rw [show n + 1 + (k + 1) = (n + (k + 1)) + 1 by omega] at x ⊢; rw [e]; exact x
/-- a chain of parts with one sort of sign between -/
theorem pm_loop {X : Nat → Nat → rdC → rdR} {QX : Nat → Prop} {cx : Bool} (hE : ∀ j, rkT t j ≠ 0 → j < T) (hr : 0 < r) (hr3 : r ≠ 3) (hr4 : r ≠ 4) (hr6 : r ≤ 6) (hS : 6 < pmTop S ∨ pmTop S < r) (hX : ∀ i j u c, u ≤ 100 → pmO t z QX cx (.inl (true, (r, i) :: S, d, j, u, c)) ((r, i) :: S) d j (X j u c)) (hq : ∀ j, QX (rkT t j) → ¬ (cx = true ∧ rkT t j = 4) → rkT t j ≤ r) : ∀ f j u c, u ≤ 100 → T < f + j → QX (rkT t j) → pmO t z (fun a => QX a ∧ a ≠ r) cx (if cx = true ∧ rkT t j = 4 then .inr (.inl (rdMi t j, j)) else .inl (false, S, d, j, u, c)) S d j (rdL t r X f j u c) := by
  intro f
  induction f with
  | zero =>
    intro j u c hu hf hQ
    have e : rkT t j = 0 := Classical.byContradiction (fun q => by have := hE j q; omega)
    rw [if_neg (by omega)]
    exact pmO.here hu ⟨hQ, by omega⟩ (by omega)
  | succ f ih =>
    intro j u c hu hf hQ
    rw [rdL]
    by_cases a : rkT t j = r
    · rw [if_pos a, if_neg (by omega)]
      have st : pmH t S d j u c = .inl (true, (r, j) :: S, d, j + 1, u, c) := by
        unfold pmH
        rw [a, if_neg (by omega), if_pos hr, pm_keep hS]
      refine pmO.pre (s' := .inl (true, (r, j) :: S, d, j + 1, u, c)) ?_ (fun k => by rw [pmR_f, st])
      refine (hX j (j + 1) u c hu).bind (fun j1 u1 c1 _ h1 h2 h3 => ?_)
      have q := ih j1 u1 ((r, j) :: c1) h2 (by omega) h3
      by_cases b : cx = true ∧ rkT t j1 = 4
      · rw [if_pos b] at q ⊢
        exact q
      · rw [if_neg b] at q ⊢
        refine q.sub (fun k => ?_)
        rw [pmR_f, pmR_f, pm_flush hr6 (hq j1 h3 b) (fun x => hr4 x.1), if_neg hr3]
    · rw [if_neg a]
      by_cases b : cx = true ∧ rkT t j = 4
      · rw [if_pos b]
        refine ⟨Nat.le_refl _, hu, ⟨hQ, a⟩, 0, Nat.zero_le _, fun k => ?_⟩
        rw [if_pos b, pmR_r]
      · rw [if_neg b]
        exact pmO.here hu ⟨hQ, a⟩ b
theorem rkT_3 : rkT t j ≠ 3 := by
  unfold rkT
  repeat' split
  all_goals decide
theorem pmO_imp {r : rdR} {Q' : Nat → Prop} (h : pmO t z Q cb s S d j r) (hq : ∀ i, Q (rkT t i) → Q' (rkT t i)) : pmO t z Q' cb s S d j r := by
  match r, h with
  | .inl (j', u', c'), ⟨h1, h2, h3, h4⟩ => exact ⟨h1, h2, hq _ h3, h4⟩
  | .inr (f, p), h => exact h
theorem rk_41 (h : rdG t j 41) : rkT t j = 0 := by
  have n1 : ∀ w, ¬ rdW t j w := fun w q => by have := q.1; have := h.1; omega
  have ng : ∀ w, w ≠ 41 → ¬ rdG t j w := fun w e q => e (q.2.symm.trans h.2)
  unfold rkT
  rw [if_neg (n1 20), if_neg (n1 21), if_neg (by rintro (q | q | q) <;> exact ng _ (by decide) q), if_neg (by rintro (q | q) <;> exact ng _ (by decide) q), if_neg (by rintro (q | q) <;> exact ng _ (by decide) q)]
/-- all parts, by nesting -/
theorem pm_all (hE : ∀ j, rkT t j ≠ 0 → j < T) (hT : T < 1700) : ∀ (k d : Nat), d + k = 8 → (∀ S j u c, u ≤ 100 → 6 < pmTop S → pmO t z (fun a => a = 0 ∨ a = 4) true (.inl (true, S, d, j, u, c)) S d j ((rdP t z k).1 d j u c)) ∧ (∀ S j u c, u ≤ 100 → (6 < pmTop S ∨ pmTop S < 4) → pmO t z (fun a => a ≠ 6 ∧ a ≠ 5) true (.inl (true, S, d, j, u, c)) S d j ((rdP t z k).2 d j u c)) ∨ d = 8 := by
  intro k
  induction k with
  | zero => intro d h; exact Or.inr (by omega)
  | succ k ih =>
    intro d hd
    left
    -- within a bracket, behind a NOT
    have hin : d ≤ 6 → (∀ S j u c, u ≤ 100 → 6 < pmTop S → pmO t z (fun a => a = 0 ∨ a = 4) true (.inl (true, S, d + 1, j, u, c)) S (d + 1) j ((rdP t z k).1 (d + 1) j u c)) ∧ (∀ S j u c, u ≤ 100 → (6 < pmTop S ∨ pmTop S < 4) → pmO t z (fun a => a ≠ 6 ∧ a ≠ 5) true (.inl (true, S, d + 1, j, u, c)) S (d + 1) j ((rdP t z k).2 (d + 1) j u c)) := fun h => (ih (d + 1) (by omega)).resolve_right (by omega)
    have hU : ∀ S j u c, u ≤ 100 → ¬ ((pmTop S ≤ 3 ∨ 7 ≤ pmTop S) ∧ rdW t j 22) → pmO t z (fun _ => True) false (.inl (true, S, d, j, u, c)) S d j (rdU t z (rdP t z k).1 d j u c) := by
      intro S j u c hu hn
      unfold rdU
      by_cases a : 100 ≤ u
      · rw [if_pos a]
        refine pmO.err (fun k => ?_)
        rw [pmR_t, pmU, if_neg hn, if_neg (by omega), if_pos (Or.inr (by omega)), pmR_r]
      · rw [if_neg a]
        by_cases b : rdG t j 40
        · have nA : ¬ rdA t j := fun x => by have := b.1; have := x.1; omega
          rw [if_pos b]
          by_cases e : d ≤ 6
          · rw [if_pos e]
            refine pmO.pre (s' := .inl (true, (7, j) :: S, d + 1, j + 1, u + 1, c)) ?_ (fun k => by rw [pmR_t, pmU, if_neg hn, if_neg (fun x => nA x.1), if_neg (by rintro (x | x); exact x.2.2 b; omega), if_pos b, if_neg (by omega)])
            refine ((hin e).1 ((7, j) :: S) (j + 1) (u + 1) c (by omega) (by show 6 < 7; decide)).bind (fun j1 u1 c1 _ h1 h2 h3 => ?_)
            by_cases f : rkT t j1 = 4
            · rw [if_pos ⟨rfl, f⟩, if_neg (fun x => by have := rk_41 x; omega)]
              exact pmO.err (fun k => by rw [pmR_r])
            · have r0 : rkT t j1 = 0 := h3.resolve_right f
              have hh : pmH t ((7, j) :: S) (d + 1) j1 u1 c1 = if rdG t j1 41 then .inl (false, S, d, j1 + 1, u1, c1) else .inr (.inl (rdMi t j1, j1)) := by
                rw [pmH, if_neg (by omega), if_neg (by omega), pm_keep (Or.inl (by show 6 < 7; decide)), pmE, if_pos rfl, Nat.add_sub_cancel]
              rw [if_neg (fun x => f x.2)]
              by_cases g : rdG t j1 41
              · rw [if_pos g] at hh ⊢
                exact pmO.pre (pmO.here h2 trivial (fun x => by cases x.1)) (fun k => by rw [pmR_f, hh])
              · rw [if_neg g] at hh ⊢
                exact pmO.err (fun k => by rw [pmR_f, hh, pmR_r])
          · rw [if_neg e]
            refine pmO.err (fun k => ?_)
            rw [pmR_t, pmU, if_neg hn, if_neg (fun x => nA x.1), if_neg (by rintro (x | x); exact x.2.2 b; omega), if_pos b, if_pos (by omega), pmR_r]
        · rw [if_neg b]
          by_cases f : rdA t j
          · rw [if_pos f]
            by_cases y : rdY z (t j).2.1 = true
            · rw [if_pos y]
              refine pmO.pre (pmO.here (by omega) trivial (fun x => by cases x.1)) (fun k => ?_)
              rw [pmR_t, pmU, if_neg hn, if_neg (fun x => by rw [y] at x; cases x.2.1), if_neg (by rintro (x | x); exact x.1 f; omega), if_neg b]
            · rw [if_neg y]
              refine pmO.err (fun k => ?_)
              rw [pmR_t, pmU, if_neg hn, if_pos ⟨f, by cases q : rdY z (t j).2.1; rfl; exact absurd q y, by omega⟩, pmR_r]
          · rw [if_neg f]
            by_cases g : (t j).1 = 2
            · rw [if_pos g]
              refine pmO.pre (pmO.here (by omega) trivial (fun x => by cases x.1)) (fun k => ?_)
              rw [pmR_t, pmU, if_neg hn, if_neg (fun x => f x.1), if_neg (by rintro (x | x); exact x.2.1 g; omega), if_neg b]
            · rw [if_neg g]
              refine pmO.err (fun k => ?_)
              rw [pmR_t, pmU, if_neg hn, if_neg (fun x => f x.1), if_pos (Or.inl ⟨f, g, b⟩), pmR_r]
    have hTm : ∀ S j u c, u ≤ 100 → (6 < pmTop S ∨ pmTop S < 6) → ¬ ((pmTop S ≤ 3 ∨ 7 ≤ pmTop S) ∧ rdW t j 22) → pmO t z (fun a => a ≠ 6) false (.inl (true, S, d, j, u, c)) S d j (rdTm t z (rdP t z k).1 d j u c) := by
      intro S j u c hu hS hn
      refine (hU S j u c hu hn).bind (fun j1 u1 c1 _ h1 h2 _ => ?_)
      have q := pm_loop (t := t) (z := z) (T := T) (d := d) (r := 6) (S := S) (X := rdU t z (rdP t z k).1 d) (QX := fun _ => True) (cx := false) hE (by decide) (by decide) (by decide) (by decide) hS (fun i j u c hu => hU ((6, i) :: S) j u c hu (fun x => by have y : 6 ≤ 3 ∨ 7 ≤ 6 := x.1; omega)) (fun j _ _ => rkT_le) 1700 j1 u1 c1 h2 (by omega) trivial
      rw [if_neg (fun x => by cases x.1)] at q ⊢
      exact pmO_imp q (fun _ h => h.2)
    have hSm : ∀ S j u c, u ≤ 100 → (6 < pmTop S ∨ pmTop S < 5) → ¬ ((pmTop S ≤ 3 ∨ 7 ≤ pmTop S) ∧ rdW t j 22) → pmO t z (fun a => a ≠ 6 ∧ a ≠ 5) false (.inl (true, S, d, j, u, c)) S d j (rdSm t z (rdP t z k).1 d j u c) := by
      intro S j u c hu hS hn
      refine (hTm S j u c hu (by omega) hn).bind (fun j1 u1 c1 _ h1 h2 h3 => ?_)
      have q := pm_loop (t := t) (z := z) (T := T) (d := d) (r := 5) (S := S) (X := rdTm t z (rdP t z k).1 d) (QX := fun a => a ≠ 6) (cx := false) hE (by decide) (by decide) (by decide) (by decide) hS (fun i j u c hu => hTm ((5, i) :: S) j u c hu (Or.inr (by show 5 < 6; decide)) (fun x => by have y : 5 ≤ 3 ∨ 7 ≤ 5 := x.1; omega)) (fun j h _ => by have := rkT_le (t := t) (j := j); omega) 1700 j1 u1 c1 h2 (by omega) h3
      rw [if_neg (fun x => by cases x.1)] at q ⊢
      exact q
    have hO : ∀ S j u c, u ≤ 100 → (6 < pmTop S ∨ pmTop S < 4) → pmO t z (fun a => a ≠ 6 ∧ a ≠ 5) true (.inl (true, S, d, j, u, c)) S d j (rdO t z (rdP t z k).1 (rdP t z k).2 d j u c) := by
      intro S j u c hu hS
      unfold rdO
      by_cases n : rdW t j 22
      · rw [if_pos n]
        by_cases e : d ≤ 6
        · rw [if_pos e]
          refine pmO.pre (s' := .inl (true, (3, j) :: S, d + 1, j + 1, u, c)) ?_ (fun k => by rw [pmR_t, pmU, if_pos ⟨by omega, n⟩, if_neg (by omega)])
          refine ((hin e).2 ((3, j) :: S) (j + 1) u c hu (Or.inr (by show 3 < 4; decide))).bind (fun j1 u1 c1 _ h1 h2 h3 => ?_)
          by_cases f : rkT t j1 = 4
          · rw [if_pos ⟨rfl, f⟩]
            refine ⟨Nat.le_refl _, h2, h3, 0, Nat.zero_le _, fun k => ?_⟩
            rw [if_pos ⟨rfl, f⟩, pmR_r]
          · rw [if_neg (fun x => f x.2)]
            refine (pmO.here (S := S) (d := d) h2 h3 (fun x => f x.2)).sub (fun k => ?_)
            have le := rkT_le (t := t) (j := j1)
            have e3 := pm_flush (t := t) (w := 3) (i := j) (S := S) (d := d + 1) (j := j1) (u := u1) (c := c1) (by decide) (by omega) (by omega)
            rw [if_pos rfl, Nat.add_sub_cancel] at e3
            rw [pmR_f, pmR_f, e3]
        · rw [if_neg e]
          refine pmO.err (fun k => ?_)
          rw [pmR_t, pmU, if_pos ⟨by omega, n⟩, if_pos (by omega), pmR_r]
      · rw [if_neg n]
        refine (hSm S j u c hu (by omega) (fun x => n x.2)).bind (fun j1 u1 c1 _ h1 h2 h3 => ?_)
        rw [if_neg (fun x => by cases x.1)]
        by_cases f : rkT t j1 = 4
        · rw [if_pos f]
          have st : pmH t S d j1 u1 c1 = .inl (true, (4, j1) :: S, d, j1 + 1, u1, c1) := by
            rw [pmH, if_neg (fun x => by rw [pm_cmpN hS] at x; cases x.2), f, if_pos (by decide), pm_keep hS]
          refine pmO.pre (s' := .inl (true, (4, j1) :: S, d, j1 + 1, u1, c1)) ?_ (fun k => by rw [pmR_f, st])
          refine (hSm ((4, j1) :: S) (j1 + 1) u1 c1 h2 (Or.inr (by show 4 < 5; decide)) (fun x => by have y : 4 ≤ 3 ∨ 7 ≤ 4 := x.1; omega)).bind (fun j2 u2 c2 _ g1 g2 g3 => ?_)
          rw [if_neg (fun x => by cases x.1)]
          by_cases g : rkT t j2 = 4
          · refine ⟨Nat.le_refl _, g2, g3, 0, Nat.zero_le _, fun k => ?_⟩
            rw [if_pos ⟨rfl, g⟩, Nat.zero_add, pmR_f, pmH, if_pos ⟨g, rfl⟩, pmR_r]
          · refine (pmO.here (S := S) (d := d) g2 g3 (fun x => g x.2)).sub (fun k => ?_)
            have le := rkT_le (t := t) (j := j2)
            have e3 := pm_flush (t := t) (w := 4) (i := j1) (S := S) (d := d) (j := j2) (u := u2) (c := c2) (by decide) (by omega) (by omega)
            rw [if_neg (by decide)] at e3
            rw [pmR_f, pmR_f, e3]
        · rw [if_neg f]
          exact pmO.here h2 h3 (fun x => f x.2)
    have hB : ∀ S j u c, u ≤ 100 → (6 < pmTop S ∨ pmTop S < 2) → pmO t z (fun a => (a ≠ 6 ∧ a ≠ 5) ∧ a ≠ 2) true (.inl (true, S, d, j, u, c)) S d j (rdBo t z (rdP t z k).1 (rdP t z k).2 d j u c) := by
      intro S j u c hu hS
      refine (hO S j u c hu (by omega)).bind (fun j1 u1 c1 _ h1 h2 h3 => ?_)
      exact pm_loop (t := t) (z := z) (T := T) (d := d) (r := 2) (S := S) (X := rdO t z (rdP t z k).1 (rdP t z k).2 d) (QX := fun a => a ≠ 6 ∧ a ≠ 5) (cx := true) hE (by decide) (by decide) (by decide) (by decide) hS (fun i j u c hu => hO ((2, i) :: S) j u c hu (Or.inr (by show 2 < 4; decide))) (fun j h g => by have := rkT_le (t := t) (j := j); have g4 : rkT t j ≠ 4 := fun x => g ⟨rfl, x⟩; have := rkT_3 (t := t) (j := j); omega) 1700 j1 u1 c1 h2 (by omega) h3
    refine ⟨fun S j u c hu hS => ?_, hO⟩
    show pmO t z _ true _ S d j (rdEi t z (rdP t z k).1 (rdP t z k).2 d j u c)
    refine (hB S j u c hu (by omega)).bind (fun j1 u1 c1 _ h1 h2 h3 => ?_)
    refine pmO_imp (pm_loop (t := t) (z := z) (T := T) (d := d) (r := 1) (S := S) (X := rdBo t z (rdP t z k).1 (rdP t z k).2 d) (QX := fun a => (a ≠ 6 ∧ a ≠ 5) ∧ a ≠ 2) (cx := true) hE (by decide) (by decide) (by decide) (by decide) (Or.inl hS) (fun i j u c hu => hB ((1, i) :: S) j u c hu (Or.inr (by show 1 < 2; decide))) (fun j h g => by have := rkT_le (t := t) (j := j); have g4 : rkT t j ≠ 4 := fun x => g ⟨rfl, x⟩; have := rkT_3 (t := t) (j := j); omega) 1700 j1 u1 c1 h2 (by omega) h3) ?_
    intro i h
    have := rkT_le (t := t) (j := i)
    have := rkT_3 (t := t) (j := i)
    omega
/-- the pile does as the way down -/
theorem pm_whole (hE : ∀ j, rkT t j ≠ 0 → j < T) (hT : T < 1700) (hu : u ≤ 100) : match (rdP t z 8).1 0 j u [] with
    | .inl (j', u', c') => j ≤ j' ∧ u' ≤ 100 ∧ ∃ n, n ≤ j' - j + 1 ∧ ∀ k, pmR t z (n + k) (.inl (true, [(8, 0)], 0, j, u, [])) = if rkT t j' = 4 then .inr (.inl (rdMi t j', j')) else .inr (.inr (j', u', c'))
    | .inr (f, p) => j ≤ p ∧ ∃ n, n ≤ p - j + 1 ∧ ∀ k, pmR t z (n + k) (.inl (true, [(8, 0)], 0, j, u, [])) = .inr (.inl (f, p)) := by
  have h := ((pm_all (z := z) hE hT 8 0 rfl).resolve_right (by decide)).1 [(8, 0)] j u [] hu (by show 6 < 8; decide)
  generalize (rdP t z 8).1 0 j u [] = r at h
  match r, h with
  | .inl (j', u', c'), ⟨h1, h2, h3, n, h4, h5⟩ =>
    refine ⟨h1, h2, n + 1, by omega, fun k => ?_⟩
    rw [show n + 1 + k = n + (k + 1) by omega, h5 k]
    by_cases a : rkT t j' = 4
    · rw [if_pos ⟨rfl, a⟩, if_pos a]
    · have r0 : rkT t j' = 0 := h3.resolve_right a
      rw [if_neg (fun x => a x.2), if_neg a, pmR_f, pmH, if_neg (fun x => a x.1), if_neg (by omega), pm_keep (Or.inl (by show 6 < 8; decide)), pmE, if_neg (by decide), pmR_r]
  | .inr (f, p), ⟨h1, n, h4, h5⟩ =>
    refine ⟨h1, n + 1, by omega, fun k => ?_⟩
    rw [show n + 1 + k = n + (k + 1) by omega]
    exact h5 k
end RD
