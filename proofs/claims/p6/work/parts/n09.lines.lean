/-! The lines of a LAND, in both. By hand. -/
/-- a way made shorter -/
def shM (M : Nat → Nat → Int) (a b : Nat) (d : Int) : Nat → Nat → Int := fun x y => if x = a ∧ y = b ∧ (M a b = -1 ∨ d < M a b) then d else M x y
/-- the ways by the first n roads -/
def rdM (RA RB RD : Nat → Int) (b : Nat) : Nat → Nat → Nat → Int
  | 0 => fun x y => if x = y then 0 else -1
  | n + 1 => shM (shM (rdM RA RB RD b n) (RA (24 * b + n)).toNat (RB (24 * b + n)).toNat (RD (24 * b + n))) (RB (24 * b + n)).toNat (RA (24 * b + n)).toNat (RD (24 * b + n))
theorem rdM_congr {RA RB RD RA' RB' RD' : Nat → Int} {b : Nat} : ∀ n, (∀ k, k < n → RA' (24 * b + k) = RA (24 * b + k) ∧ RB' (24 * b + k) = RB (24 * b + k) ∧ RD' (24 * b + k) = RD (24 * b + k)) → rdM RA' RB' RD' b n = rdM RA RB RD b n := by
  intro n
  induction n with
  | zero => intro _; rfl
  | succ n ih =>
    intro h
    obtain ⟨h1, h2, h3⟩ := h n (Nat.lt_succ_self n)
    show shM (shM (rdM RA' RB' RD' b n) _ _ _) _ _ _ = shM (shM (rdM RA RB RD b n) _ _ _) _ _ _
    rw [ih (fun k hk => h k (by omega)), h1, h2, h3]
/-- the sum of n numbers from a on, as the class takes it -/
def yS (g : Nat → Int) (a : Nat) : Nat → Int
  | 0 => 0
  | n + 1 => wAdd (yS g a n) (g (a + n))
theorem yS_congr {g h : Nat → Int} {a : Nat} : ∀ n, (∀ k, k < n → h (a + k) = g (a + k)) → yS h a n = yS g a n := by
  intro n
  induction n with
  | zero => intro _; rfl
  | succ n ih =>
    intro q
    show wAdd (yS h a n) (h (a + n)) = wAdd (yS g a n) (g (a + n))
    rw [ih (fun k hk => q k (by omega)), q n (Nat.lt_succ_self n)]
def bitZ (x : Int) (d : Nat) : Bool := wAnd (wShr x d) 1 == 1
/-- counts; FORTS; PANS; TOWNS; roads -/
def LCnt (l m b : Nat) (J I : gJ) (nr nf np nt : Nat) : Prop := (J l 0 = (nr : Int) ∧ J l 1 = (nf : Int) ∧ J l 2 = (np : Int) ∧ J l 3 = (nt : Int) ∧ J l 4 = ((nf + np + nt : Nat) : Int)) ∧ (I m 35 = (b : Int) ∧ I (m + 6) b = (nr : Int) ∧ I (m + 7) b = (nf : Int) ∧ I (m + 8) b = (np : Int) ∧ I (m + 9) b = (nt : Int)) ∧ nr ≤ 24 ∧ nf ≤ 3 ∧ np ≤ 3 ∧ nt ≤ 5 ∧ b ≤ 1
def LFt (l m b : Nat) (J I : gJ) (f : Nat) : Prop := (I (m + 13) (3 * b + f) = J (l + 3) f ∧ 0 ≤ J (l + 3) f ∧ J (l + 3) f ≤ 15) ∧ (I (m + 14) (3 * b + f) = J (l + 4) f ∧ 0 ≤ J (l + 4) f ∧ J (l + 4) f ≤ 999) ∧ (I (m + 15) (3 * b + f) = J (l + 5) f ∧ 0 ≤ J (l + 5) f ∧ J (l + 5) f ≤ 9999)
def LTn (l m b : Nat) (J I : gJ) (t : Nat) : Prop := (I (m + 19) (5 * b + t) = J (l + 10) t ∧ 0 ≤ J (l + 10) t ∧ J (l + 10) t ≤ 15) ∧ (I (m + 20) (5 * b + t) = J (l + 11) t ∧ 0 ≤ J (l + 11) t ∧ J (l + 11) t ≤ 4) ∧ (I (m + 21) (5 * b + t) = J (l + 12) t ∧ 0 ≤ J (l + 12) t ∧ J (l + 12) t ≤ 999) ∧ (I (m + 22) (5 * b + t) = J (l + 13) t ∧ 1 ≤ J (l + 13) t ∧ J (l + 13) t ≤ 999) ∧ (I (m + 23) (5 * b + t) = J (l + 14) t ∧ 0 ≤ J (l + 14) t ∧ J (l + 14) t ≤ 999) ∧ (I (m + 24) (5 * b + t) = J (l + 15) t ∧ 1 ≤ J (l + 15) t ∧ J (l + 15) t ≤ 99)
def LPn (l m b : Nat) (J I : gJ) (p : Nat) : Prop := (I (m + 16) (3 * b + p) = J (l + 6) p ∧ 0 ≤ J (l + 6) p ∧ J (l + 6) p ≤ 15) ∧ (∀ k, k < 12 → I (m + 17) (12 * (3 * b + p) + k) = J (l + 7) (12 * p + k) ∧ 0 ≤ J (l + 7) (12 * p + k) ∧ J (l + 7) (12 * p + k) ≤ 999) ∧ (∀ d, d < 5 → (J (l + 8) (5 * p + d) = 0 ↔ bitZ (I (m + 18) (3 * b + p)) d = false)) ∧ (0 ≤ I (m + 18) (3 * b + p) ∧ I (m + 18) (3 * b + p) < 32) ∧ J (l + 9) p = wMax 1 (wDiv (yS (J (l + 7)) (12 * p) 12) 12)
def LRd (l m b : Nat) (J I : gJ) (nr : Nat) : Prop := (∀ k, k < nr → 0 ≤ I (m + 10) (24 * b + k) ∧ I (m + 10) (24 * b + k) ≤ 15 ∧ 0 ≤ I (m + 11) (24 * b + k) ∧ I (m + 11) (24 * b + k) ≤ 15 ∧ I (m + 10) (24 * b + k) ≠ I (m + 11) (24 * b + k) ∧ 1 ≤ I (m + 12) (24 * b + k) ∧ I (m + 12) (24 * b + k) ≤ 90) ∧ ∀ x y, x < 16 → y < 16 → J (l + 2) (16 * x + y) = rdM (I (m + 10)) (I (m + 11)) (I (m + 12)) b nr x y
/-- what both have read of a LAND up to here -/
def LR (l m b : Nat) (J : gJ) (L : gL) (I : gJ) (K : gL) (nr nf np nt : Nat) : Prop := LCnt l m b J I nr nf np nt ∧ (∀ f, f < nf → LFt l m b J I f) ∧ (∀ p, p < np → LPn l m b J I p) ∧ (∀ p d, np ≤ p → p < 3 → d < 5 → J (l + 8) (5 * p + d) = 0) ∧ (∀ t, t < nt → LTn l m b J I t) ∧ LRd l m b J I nr ∧ NmR l m b (nf + np + nt) nf np nt L K
/-- what a line may write -/
def LnFr (o l : Nat) (J J2 : gJ) (L L2 : gL) : Prop := (∀ r y, ¬ (r = o ∧ (y = 7 ∨ y = 8 ∨ y = 10)) → ¬ (l ≤ r ∧ r < l + 16) → J2 r y = J r y) ∧ ∀ r, r ≠ l + 1 → L2 r = L r
/-- what the reference's line may write -/
def LmFr (m b : Nat) (I I2 : gJ) (K K2 : gL) : Prop := (∀ r y, ¬ (r = m ∧ (y = 4 ∨ y = 5 ∨ y = 6 ∨ y = 7 ∨ y = 8 ∨ y = 9)) → ¬ (m + 6 ≤ r ∧ r < m + 25 ∧ (r ≠ m + 8 ∨ y = b)) → I2 r y = I r y) ∧ ∀ r, r ≠ m → r ≠ m + 3 → r ≠ m + 4 → r ≠ m + 5 → K2 r = K r
section LN
variable {pl : Bool} {B : Nat → Int} {N T o m l b : Nat} {J J2 J3 : gJ} {L L2 L3 : gL} {I I2 I3 : gJ} {K K2 K3 : gL}
/-- the relation of both readings looks at few cells -/
theorem Sy.mv (h : Sy pl B N T o m J L I K) (e1 : ∀ y, J2 o y = J o y) (e2 : ∀ r, o < r → r ≤ o + 6 → J2 r = J r) (e3 : ∀ r, o ≤ r → r ≤ o + 6 → L2 r = L r) (e4 : ∀ y, I2 m y = I m y) (e5 : I2 (m + 2) = I (m + 2)) (e6 : K2 m = K m) : Sy pl B N T o m J2 L2 I2 K2 := by
  have sr : SRd pl B N T o J L → SRd pl B N T o J2 L2 := fun q => ⟨q.1.mv (e1 _) (e2 _ (by omega) (by omega)), fun k hk => by rw [e3 _ (by omega) (by omega)]; exact q.2.1 k hk, q.2.2.1, fun i hi => (q.2.2.2.1 i hi).mv (by rw [e2 _ (by omega) (by omega)]) (by rw [e2 _ (by omega) (by omega)]) (by rw [e2 _ (by omega) (by omega)]) (by rw [e3 _ (by omega) (by omega)]), q.2.2.2.2⟩
  rcases h with ⟨j, ⟨c1, c2, c3, c4, c5⟩, m1, m2, m3, m4, m5⟩ | ⟨q1, q2, q3, q4, q5, q6⟩
  · refine Or.inl ⟨j, ⟨sr c1, c2, by rw [e1]; exact c3, by rw [e1]; exact c4, by rw [e1]; exact c5⟩, m1.mv (e4 _) e5, by rw [e4]; exact m2, by rw [e4]; exact m3, by rw [e4]; exact m4, ?_⟩
    unfold TokM
    rw [e4, e4, e4, e4, e6]
    exact m5
  · exact Or.inr ⟨sr q1, q2.mv (e4 _) e5, by rw [e4]; exact q3, by rw [e1]; exact q4, by rw [e4, e1]; exact q5, by rw [e4, e1]; exact q6⟩
end LN
