/-! What the way down lays is the code of one value: how high it piles, and what its cells are. By hand. -/
/-- how high the stack is behind the cells -/
def dpL : rdC → Nat
  | [] => 0
  | (w, _) :: c => if w = 0 then dpL c + 1 else if w = 3 then dpL c else dpL c - 1
def okL (t : rdT) (z : Int) : rdC → Prop
  | [] => True
  | (w, i) :: c => okL t z c ∧ (if w = 0 then dpL c < 100 ∧ ((rdA t i ∧ rdY z (t i).2.1 = true) ∨ (t i).1 = 2) else if w = 3 then 1 ≤ dpL c else 2 ≤ dpL c ∧ (w = 1 ∨ w = 2 ∨ (4 ≤ w ∧ rkT t i = w)))
section RK
variable {t : rdT} {z : Int} {E O : Nat → Nat → Nat → rdC → rdR} {T d j u r w i : Nat} {c : rdC}
theorem dp_0 : dpL ((0, i) :: c) = dpL c + 1 := if_pos rfl
theorem dp_3 : dpL ((3, i) :: c) = dpL c := (if_neg (show ¬ (3 : Nat) = 0 by decide)).trans (if_pos rfl)
theorem dp_s (h0 : w ≠ 0) (h3 : w ≠ 3) : dpL ((w, i) :: c) = dpL c - 1 := (if_neg h0).trans (if_neg h3)
theorem ok_0 (h : okL t z c) (hd : dpL c < 100) (hi : (rdA t i ∧ rdY z (t i).2.1 = true) ∨ (t i).1 = 2) : okL t z ((0, i) :: c) := ⟨h, by rw [if_pos rfl]; exact ⟨hd, hi⟩⟩
theorem ok_3 (h : okL t z c) (hd : 1 ≤ dpL c) : okL t z ((3, i) :: c) := ⟨h, by rw [if_neg (by decide), if_pos rfl]; exact hd⟩
theorem ok_s (h : okL t z c) (h0 : w ≠ 0) (h3 : w ≠ 3) (hd : 2 ≤ dpL c) (hi : w = 1 ∨ w = 2 ∨ (4 ≤ w ∧ rkT t i = w)) : okL t z ((w, i) :: c) := ⟨h, by rw [if_neg h0, if_neg h3]; exact ⟨hd, hi⟩⟩
/-- one value more -/
def rdV (t : rdT) (z : Int) (T u : Nat) (c : rdC) (r : rdR) : Prop := match r with
  | .inl (j', u', c') => okL t z c' ∧ dpL c' = dpL c + 1 ∧ u ≤ u' ∧ u' ≤ 100 ∧ dpL c' ≤ u' ∧ j' ≤ T
  | .inr (_, p) => p ≤ T
def rdX (t : rdT) (z : Int) (T : Nat) (X : Nat → Nat → rdC → rdR) : Prop := ∀ j u c, j ≤ T → okL t z c → dpL c ≤ u → u ≤ 100 → rdV t z T u c (X j u c)
/-- only ahead of T is there anything to take -/
def rdK (t : rdT) (T : Nat) : Prop := ∀ j, (t j).1 = 1 ∨ (t j).1 = 2 ∨ (t j).1 = 4 → j < T
theorem rdK.wd {w : Int} (h : rdK t T) (q : rdW t j w) : j < T := h j (Or.inl q.1)
theorem rdK.g {w : Int} (h : rdK t T) (q : rdG t j w) : j < T := h j (Or.inr (Or.inr q.1))
theorem rdK.rk (h : rdK t T) (q : rkT t j ≠ 0) : j < T := h j (Classical.byContradiction (fun n => q (by
  have n1 : (t j).1 ≠ 1 := fun a => n (Or.inl a)
  have n4 : (t j).1 ≠ 4 := fun a => n (Or.inr (Or.inr a))
  unfold rkT
  rw [if_neg (fun a => n1 a.1), if_neg (fun a => n1 a.1), if_neg (by rintro (a | a | a) <;> exact n4 a.1), if_neg (by rintro (a | a) <;> exact n4 a.1), if_neg (by rintro (a | a) <;> exact n4 a.1)])))
theorem rdV.bind {q : rdR} {u0 : Nat} {c0 : rdC} {G : Nat → Nat → rdC → rdR} (h : rdV t z T u c q) (hG : ∀ j' u' c', okL t z c' → dpL c' = dpL c + 1 → u ≤ u' → u' ≤ 100 → dpL c' ≤ u' → j' ≤ T → rdV t z T u0 c0 (G j' u' c')) : rdV t z T u0 c0 (rdB q G) := by
  match q, h with
  | .inl (j', u', c'), ⟨a, b, e, f, g, k⟩ => exact hG j' u' c' a b e f g k
  | .inr (_, p), h => exact h
theorem rd_unit (hK : rdK t T) (hE : d ≤ 6 → rdX t z T (E (d + 1))) : rdX t z T (rdU t z E d) := by
  intro j u c hj hk hd hu
  unfold rdU
  by_cases a : 100 ≤ u
  · rw [if_pos a]; exact hj
  rw [if_neg a]
  by_cases b : rdG t j 40
  · rw [if_pos b]
    by_cases e : d ≤ 6
    · rw [if_pos e]
      refine (hE e (j + 1) (u + 1) c (hK.g b) hk (by omega) (by omega)).bind (fun j' u' c' h1 h2 h3 h4 h5 h6 => ?_)
      by_cases f : rdG t j' 41
      · rw [if_pos f]; exact ⟨h1, h2, by omega, h4, h5, hK.g f⟩
      · rw [if_neg f]; exact h6
    · rw [if_neg e]; exact hj
  rw [if_neg b]
  have take : ((rdA t j ∧ rdY z (t j).2.1 = true) ∨ (t j).1 = 2) → rdV t z T u c (.inl (j + 1, u + 1, (0, j) :: c)) := fun q => ⟨ok_0 hk (by omega) q, dp_0, by omega, by omega, by rw [dp_0]; omega, hK j (by rcases q with q | q; exact Or.inl q.1.1; exact Or.inr (Or.inl q))⟩
  by_cases f : rdA t j
  · rw [if_pos f]
    by_cases y : rdY z (t j).2.1 = true
    · rw [if_pos y]; exact take (Or.inl ⟨f, y⟩)
    · rw [if_neg y]; exact hj
  rw [if_neg f]
  by_cases g : (t j).1 = 2
  · rw [if_pos g]; exact take (Or.inr g)
  · rw [if_neg g]; exact hj
theorem rd_loop {X : Nat → Nat → rdC → rdR} (hK : rdK t T) (hr0 : r ≠ 0) (hr3 : r ≠ 3) (hX : rdX t z T X) : ∀ (f j u u0 : Nat) (c c0 : rdC), j ≤ T → okL t z c → dpL c = dpL c0 + 1 → u0 ≤ u → u ≤ 100 → dpL c ≤ u → rdV t z T u0 c0 (rdL t r X f j u c) := by
  intro f
  induction f with
  | zero => intro j u u0 c c0 hj h1 h2 h3 h4 h5; exact ⟨h1, h2, h3, h4, h5, hj⟩
  | succ f ih =>
    intro j u u0 c c0 hj h1 h2 h3 h4 h5
    rw [rdL]
    by_cases a : rkT t j = r
    · rw [if_pos a]
      refine (hX (j + 1) u c (hK.rk (by omega)) h1 h5 h4).bind (fun j' u' c' g1 g2 g3 g4 g5 g6 => ?_)
      have q : r = 1 ∨ r = 2 ∨ (4 ≤ r ∧ rkT t j = r) := by omega
      exact ih j' u' u0 ((r, j) :: c') c0 g6 (ok_s g1 hr0 hr3 (by omega) q) (by rw [dp_s hr0 hr3]; omega) (by omega) g4 (by rw [dp_s hr0 hr3]; omega)
    · rw [if_neg a]
      exact ⟨h1, h2, h3, h4, h5, hj⟩
theorem rd_chain {X : Nat → Nat → Nat → rdC → rdR} (hK : rdK t T) (hr0 : r ≠ 0) (hr3 : r ≠ 3) (hX : rdX t z T (X d)) : rdX t z T (fun j u c => rdB (X d j u c) (rdL t r (X d) 1700)) := fun j u c h0 h1 h2 h3 => (hX j u c h0 h1 h2 h3).bind (fun j' u' c' g1 g2 g3 g4 g5 g6 => rd_loop hK hr0 hr3 hX 1700 j' u' u c' c g6 g1 g2 g3 g4 g5)
theorem rd_oks (hK : rdK t T) : ∀ (k d : Nat), d + k = 8 → d < 8 → rdX t z T ((rdP t z k).1 d) ∧ rdX t z T ((rdP t z k).2 d) := by
  intro k
  induction k with
  | zero => intro d h1 h2; omega
  | succ k ih =>
    intro d h1 h2
    have up : d ≤ 6 → rdX t z T ((rdP t z k).1 (d + 1)) ∧ rdX t z T ((rdP t z k).2 (d + 1)) := fun q => ih (d + 1) (by omega) (by omega)
    have U : rdX t z T (rdU t z (rdP t z k).1 d) := rd_unit hK (fun q => (up q).1)
    have Tm : rdX t z T (rdTm t z (rdP t z k).1 d) := rd_chain hK (r := 6) (by decide) (by decide) U
    have Sm : rdX t z T (rdSm t z (rdP t z k).1 d) := rd_chain hK (r := 5) (by decide) (by decide) Tm
    have On : rdX t z T (rdO t z (rdP t z k).1 (rdP t z k).2 d) := by
      intro j u c hj hk hd hu
      unfold rdO
      by_cases n : rdW t j 22
      · rw [if_pos n]
        by_cases e : d ≤ 6
        · rw [if_pos e]
          refine ((up e).2 (j + 1) u c (hK.wd n) hk hd hu).bind (fun j' u' c' g1 g2 g3 g4 g5 g6 => ?_)
          exact ⟨ok_3 g1 (by omega), by rw [dp_3]; exact g2, g3, g4, by rw [dp_3]; exact g5, g6⟩
        · rw [if_neg e]; exact hj
      · rw [if_neg n]
        refine (Sm j u c hj hk hd hu).bind (fun j' u' c' g1 g2 g3 g4 g5 g6 => ?_)
        by_cases a : rkT t j' = 4
        · rw [if_pos a]
          refine (Sm (j' + 1) u' c' (hK.rk (by omega)) g1 g5 g4).bind (fun j2 u2 c2 i1 i2 i3 i4 i5 i6 => ?_)
          exact ⟨ok_s i1 (by decide) (by decide) (by omega) (Or.inr (Or.inr ⟨by decide, a⟩)), by rw [dp_s (by decide) (by decide)]; omega, by omega, i4, by rw [dp_s (by decide) (by decide)]; omega, i6⟩
        · rw [if_neg a]; exact ⟨g1, g2, g3, g4, g5, g6⟩
    have Bo : rdX t z T (rdBo t z (rdP t z k).1 (rdP t z k).2 d) := rd_chain hK (r := 2) (by decide) (by decide) On
    exact ⟨rd_chain hK (r := 1) (X := rdBo t z (rdP t z k).1 (rdP t z k).2) (by decide) (by decide) Bo, On⟩
/-- a line's code -/
theorem rd_ok (hK : rdK t T) (hj : j ≤ T) (hu : u ≤ 100) : rdV t z T u [] ((rdP t z 8).1 0 j u []) := (rd_oks hK 8 0 rfl (by decide)).1 j u [] hj trivial (Nat.zero_le _) hu
end RK
