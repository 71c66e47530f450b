/-! What a MONTH of the reference keeps. -/
/-- a sum -/
def sm (g : Nat → Int) : Nat → Int
  | 0 => 0
  | m + 1 => sm g m + g m
theorem sm_cg {g h : Nat → Int} : ∀ {m : Nat}, (∀ j, j < m → h j = g j) → sm h m = sm g m := by
  intro m
  induction m with
  | zero => intro _; rfl
  | succ m ih =>
    intro q
    show sm h m + h m = sm g m + g m
    rw [ih (fun j hj => q j (by omega)), q m (by omega)]
theorem sm_le {g h : Nat → Int} : ∀ {m : Nat}, (∀ j, j < m → h j ≤ g j) → sm h m ≤ sm g m := by
  intro m
  induction m with
  | zero => intro _; exact Int.le_refl _
  | succ m ih =>
    intro q
    show sm h m + h m ≤ sm g m + g m
    have a := ih (fun j hj => q j (by omega))
    have b := q m (by omega)
    omega
theorem sm_lt {g h : Nat → Int} {k : Nat} : ∀ {m : Nat}, (∀ j, j < m → h j ≤ g j) → k < m → h k + 1 ≤ g k → sm h m + 1 ≤ sm g m := by
  intro m
  induction m with
  | zero => intro _ hk; exact absurd hk (by omega)
  | succ m ih =>
    intro q hk hl
    show sm h m + h m + 1 ≤ sm g m + g m
    by_cases e : k = m
    · subst e
      have a := sm_le (m := k) (fun j hj => q j (by omega))
      omega
    · have a := ih (fun j hj => q j (by omega)) (by omega) hl
      have b := q m (by omega)
      omega
theorem sm_nn {g : Nat → Int} (h : ∀ j, 0 ≤ g j) : ∀ m, 0 ≤ sm g m := by
  intro m
  induction m with
  | zero => exact Int.le_refl _
  | succ m ih =>
    show 0 ≤ sm g m + g m
    have := h m
    omega
/-- grain on its way: months behind T, and of T those from l on -/
def gx (S M : Nat → Int32) (T l : Int) (j : Nat) : Int := if (S j).toInt = 0 ∧ (T + 1 ≤ (M j).toInt ∨ ((M j).toInt = T ∧ l ≤ (j : Int))) then 1 else 0
theorem gx_r (S M : Nat → Int32) (T l : Int) (j : Nat) : ((S j).toInt = 0 ∧ (T + 1 ≤ (M j).toInt ∨ ((M j).toInt = T ∧ l ≤ (j : Int)))) ∧ gx S M T l j = 1 ∨ ¬ ((S j).toInt = 0 ∧ (T + 1 ≤ (M j).toInt ∨ ((M j).toInt = T ∧ l ≤ (j : Int)))) ∧ gx S M T l j = 0 := by unfold gx; split <;> omega
theorem gx_0 (S M : Nat → Int32) (T l : Int) (j : Nat) : 0 ≤ gx S M T l j := by rcases gx_r S M T l j with h | h <;> omega
theorem gx_1 (S M : Nat → Int32) (T l : Int) (j : Nat) : gx S M T l j ≤ 1 := by rcases gx_r S M T l j with h | h <;> omega
/-- drawn -/
def pD (x : Int) : Int := if 0 ≤ x then 1 else 0
theorem pD_r (x : Int) : 0 ≤ x ∧ pD x = 1 ∨ x < 0 ∧ pD x = 0 := by unfold pD; split <;> omega
theorem pD_0 (x : Int) : 0 ≤ pD x := by rcases pD_r x with h | h <;> omega
theorem pD_1 (x : Int) : pD x ≤ 1 := by rcases pD_r x with h | h <;> omega
theorem cnt_set {p : Int → Int} {f : Nat → Int32} {k : Nat} {v : Int32} : ∀ {m : Nat}, k < m → cnt p (rU f k v) m = cnt p f m + p v.toInt - p (f k).toInt := by
  intro m
  induction m with
  | zero => intro h; exact absurd h (by omega)
  | succ m ih =>
    intro h
    rw [cnt_s, cnt_s]
    by_cases e : k = m
    · subst e
      rw [rU_at, cnt_cg (g := rU f k v) (f := f) (fun j hj => rU_ne (by omega))]
      omega
    · rw [rU_ne (by omega), ih (by omega)]
      omega
/-- how many PAPERS and LOTS there can be -/
def JX (I : Nat → Nat → Int32) (o : Nat) (T l a : Int) : Prop := (I o 104).toInt + sm (gx (I (o + 67)) (I (o + 59)) T l) (I o 105).toInt.toNat ≤ 6 * (I o 57).toInt + a ∧ (I o 105).toInt ≤ 6 * (I o 57).toInt + a + cnt pD (I (o + 56)) (I o 104).toInt.toNat
section JXL
variable {I I' : Nat → Nat → Int32} {o : Nat} {T l a a' : Int}
theorem JX.fr (h : JX I o T l a) (e56 : I' (o + 56) = I (o + 56)) (e59 : I' (o + 59) = I (o + 59)) (e67 : I' (o + 67) = I (o + 67)) (e57 : I' o 57 = I o 57) (e104 : I' o 104 = I o 104) (e105 : I' o 105 = I o 105) : JX I' o T l a := by unfold JX; rw [e56, e59, e67, e57, e104, e105]; exact h
theorem JX.bd (h : JX I o T l a) (h0 : 0 ≤ (I o 104).toInt) : (I o 104).toInt ≤ 6 * (I o 57).toInt + a ∧ (I o 105).toInt ≤ 6 * (I o 57).toInt + a + (I o 104).toInt := by
  have a1 := sm_nn (gx_0 (I (o + 67)) (I (o + 59)) T l) (I o 105).toInt.toNat
  have a2 := cnt_le (f := I (o + 56)) pD_1 (I o 104).toInt.toNat
  obtain ⟨h1, h2⟩ := h
  omega
theorem JX.give (h : JX I o T l a) (e59 : I' (o + 59) = I (o + 59)) (e67 : I' (o + 67) = I (o + 67)) (e57 : I' o 57 = I o 57) (e105 : I' o 105 = I o 105) (hp : (I' o 104).toInt + a ≤ (I o 104).toInt + a') (ha : a ≤ a') (hc : cnt pD (I' (o + 56)) (I' o 104).toInt.toNat = cnt pD (I (o + 56)) (I o 104).toInt.toNat) : JX I' o T l a' := by
  obtain ⟨h1, h2⟩ := h
  unfold JX
  rw [e59, e67, e57, e105, hc]
  omega
theorem JX.nxt (h : JX I o T l a) : JX I o T (l + 1) a := by
  obtain ⟨h1, h2⟩ := h
  refine ⟨?_, h2⟩
  have q : sm (gx (I (o + 67)) (I (o + 59)) T (l + 1)) (I o 105).toInt.toNat ≤ sm (gx (I (o + 67)) (I (o + 59)) T l) (I o 105).toInt.toNat := sm_le (fun j hj => by
    rcases gx_r (I (o + 67)) (I (o + 59)) T l j with r | r <;> rcases gx_r (I (o + 67)) (I (o + 59)) T (l + 1) j with s | s <;> omega)
  omega
theorem JX.nxtG {k : Nat} (h : JX I o T l a) (hk : (k : Int) = l) (hl : l < (I o 105).toInt) (hs : (I (o + 67) k).toInt = 0) (hm : (I (o + 59) k).toInt = T) : (I o 104).toInt + 1 + sm (gx (I (o + 67)) (I (o + 59)) T (l + 1)) (I o 105).toInt.toNat ≤ 6 * (I o 57).toInt + a := by
  obtain ⟨h1, h2⟩ := h
  have q : sm (gx (I (o + 67)) (I (o + 59)) T (l + 1)) (I o 105).toInt.toNat + 1 ≤ sm (gx (I (o + 67)) (I (o + 59)) T l) (I o 105).toInt.toNat := sm_lt (k := k) (fun j hj => by
    rcases gx_r (I (o + 67)) (I (o + 59)) T l j with r | r <;> rcases gx_r (I (o + 67)) (I (o + 59)) T (l + 1) j with s | s <;> omega) (by omega) (by
    rcases gx_r (I (o + 67)) (I (o + 59)) T l k with r | r <;> rcases gx_r (I (o + 67)) (I (o + 59)) T (l + 1) k with s | s <;> omega)
  omega
/-- behind a LOT of grain that came -/
theorem JX.came {k : Nat} {l' : Int} (h : JX I o T l a) (hk : (k : Int) = l) (hl : l < (I o 105).toInt) (hs : (I (o + 67) k).toInt = 0) (hm : (I (o + 59) k).toInt = T) (hl' : l' = l + 1) (e59 : I' (o + 59) = I (o + 59)) (e67 : I' (o + 67) = I (o + 67)) (e57 : I' o 57 = I o 57) (e105 : I' o 105 = I o 105) (hp : (I' o 104).toInt ≤ (I o 104).toInt + 1) (hc : cnt pD (I' (o + 56)) (I' o 104).toInt.toNat = cnt pD (I (o + 56)) (I o 104).toInt.toNat) : JX I' o T l' a := by
  subst hl'
  have q := h.nxtG hk hl hs hm
  obtain ⟨h1, h2⟩ := h
  unfold JX
  rw [e59, e67, e57, e105, hc]
  omega
theorem JX.fin (h : JX I o T l a) (hl : (I o 105).toInt ≤ l) : JX I o (T + 1) 0 a := by
  obtain ⟨h1, h2⟩ := h
  refine ⟨?_, h2⟩
  have q : sm (gx (I (o + 67)) (I (o + 59)) (T + 1) 0) (I o 105).toInt.toNat = sm (gx (I (o + 67)) (I (o + 59)) T l) (I o 105).toInt.toNat := sm_cg (fun j hj => by
    rcases gx_r (I (o + 67)) (I (o + 59)) T l j with r | r <;> rcases gx_r (I (o + 67)) (I (o + 59)) (T + 1) 0 j with s | s <;> omega)
  omega
theorem JX.sndG {v w : Int32} (h : JX I o T l a) (h0 : 0 ≤ (I o 105).toInt) (e56 : I' (o + 56) = I (o + 56)) (e59 : I' (o + 59) = rU (I (o + 59)) (I o 105).toNatClampNeg w) (e67 : I' (o + 67) = rU (I (o + 67)) (I o 105).toNatClampNeg v) (e57 : I' o 57 = I o 57) (e104 : I' o 104 = I o 104) (e105 : (I' o 105).toInt = (I o 105).toInt + 1) : JX I' o T l (a + 1) := by
  obtain ⟨h1, h2⟩ := h
  have cl := tCl h0
  unfold JX
  rw [e59, e67, e57, e104, e56, e105, show ((I o 105).toInt + 1).toNat = (I o 105).toInt.toNat + 1 by omega]
  have q : sm (gx (rU (I (o + 67)) (I o 105).toNatClampNeg v) (rU (I (o + 59)) (I o 105).toNatClampNeg w) T l) ((I o 105).toInt.toNat + 1) ≤ sm (gx (I (o + 67)) (I (o + 59)) T l) (I o 105).toInt.toNat + 1 := by
    show sm _ (I o 105).toInt.toNat + gx _ _ T l (I o 105).toInt.toNat ≤ _
    rw [sm_cg (g := gx (I (o + 67)) (I (o + 59)) T l) (fun j hj => by unfold gx; rw [rU_ne (by omega), rU_ne (by omega)])]
    have := gx_1 (rU (I (o + 67)) (I o 105).toNatClampNeg v) (rU (I (o + 59)) (I o 105).toNatClampNeg w) T l (I o 105).toInt.toNat
    omega
  omega
/-- one PAPER more is drawn than LOTS of salt were sent -/
def JS (I : Nat → Nat → Int32) (o : Nat) (T l a : Int) : Prop := JX I o T l a ∧ (I o 105).toInt + 1 ≤ 6 * (I o 57).toInt + a + cnt pD (I (o + 56)) (I o 104).toInt.toNat
theorem JS.fr (h : JS I o T l a) (e56 : I' (o + 56) = I (o + 56)) (e59 : I' (o + 59) = I (o + 59)) (e67 : I' (o + 67) = I (o + 67)) (e57 : I' o 57 = I o 57) (e104 : I' o 104 = I o 104) (e105 : I' o 105 = I o 105) : JS I' o T l a := ⟨h.1.fr e56 e59 e67 e57 e104 e105, by rw [e56, e57, e104, e105]; exact h.2⟩
theorem JX.drw {x v : Int32} (h : JX I o T l a) (e : q_u I (o + 56) x.toNatClampNeg v = I') (hx : 0 ≤ x.toInt ∧ x.toInt < (I o 104).toInt) (hv : 0 ≤ v.toInt) (ho : (I (o + 56) x.toNatClampNeg).toInt < 0) : JS I' o T l a := by
  obtain ⟨h1, h2⟩ := h
  have cl := tCl hx.1
  have r : ∀ k, k ≠ 56 → I' (o + k) = I (o + k) := fun k hk => by rw [← e, q_u_ne (by omega)]
  have ro : I' o = I o := r 0 (by decide)
  have e56 : I' (o + 56) = rU (I (o + 56)) x.toNatClampNeg v := rU_q e rfl
  have c := cnt_set (p := pD) (f := I (o + 56)) (k := x.toNatClampNeg) (v := v) (m := (I o 104).toInt.toNat) (by omega)
  have d1 := pD_r v.toInt
  have d2 := pD_r (I (o + 56) x.toNatClampNeg).toInt
  unfold JS JX
  rw [r 67 (by decide), r 59 (by decide), ro, e56, c]
  omega
theorem JS.snd {v w : Int32} (h : JS I o T l a) (h0 : 0 ≤ (I o 105).toInt) (hv : v.toInt ≠ 0) (e56 : I' (o + 56) = I (o + 56)) (e59 : I' (o + 59) = rU (I (o + 59)) (I o 105).toNatClampNeg w) (e67 : I' (o + 67) = rU (I (o + 67)) (I o 105).toNatClampNeg v) (e57 : I' o 57 = I o 57) (e104 : I' o 104 = I o 104) (e105 : (I' o 105).toInt = (I o 105).toInt + 1) : JX I' o T l a := by
  obtain ⟨⟨h1, h2⟩, h3⟩ := h
  have cl := tCl h0
  unfold JX
  rw [e59, e67, e57, e104, e56, e105, show ((I o 105).toInt + 1).toNat = (I o 105).toInt.toNat + 1 by omega]
  have q : sm (gx (rU (I (o + 67)) (I o 105).toNatClampNeg v) (rU (I (o + 59)) (I o 105).toNatClampNeg w) T l) ((I o 105).toInt.toNat + 1) = sm (gx (I (o + 67)) (I (o + 59)) T l) (I o 105).toInt.toNat := by
    show sm _ (I o 105).toInt.toNat + gx _ _ T l (I o 105).toInt.toNat = _
    rw [sm_cg (g := gx (I (o + 67)) (I (o + 59)) T l) (fun j hj => by unfold gx; rw [rU_ne (by omega), rU_ne (by omega)])]
    have z : gx (rU (I (o + 67)) (I o 105).toNatClampNeg v) (rU (I (o + 59)) (I o 105).toNatClampNeg w) T l (I o 105).toInt.toNat = 0 := by
      unfold gx
      rw [if_neg]
      intro q
      rw [show (I o 105).toInt.toNat = (I o 105).toNatClampNeg by omega, rU_at] at q
      exact hv q.1
    omega
  omega
/-- as a MONTH begins; while LOTS come; behind them; behind a draw -/
def JA (I : Nat → Nat → Int32) (o : Nat) : Prop := JX I o (I o 57).toInt 0 0
def JL (I : Nat → Nat → Int32) (o : Nat) (l : Int) : Prop := JX I o (I o 57).toInt l 0
def JB (I : Nat → Nat → Int32) (o : Nat) (a : Int) : Prop := JX I o ((I o 57).toInt + 1) 0 a
def JC (I : Nat → Nat → Int32) (o : Nat) (a : Int) : Prop := JS I o ((I o 57).toInt + 1) 0 a
theorem JA.fr (h : JA I o) (e56 : I' (o + 56) = I (o + 56)) (e59 : I' (o + 59) = I (o + 59)) (e67 : I' (o + 67) = I (o + 67)) (e57 : I' o 57 = I o 57) (e104 : I' o 104 = I o 104) (e105 : I' o 105 = I o 105) : JA I' o := by unfold JA; rw [e57]; exact JX.fr h e56 e59 e67 e57 e104 e105
theorem JL.fr (h : JL I o l) (e56 : I' (o + 56) = I (o + 56)) (e59 : I' (o + 59) = I (o + 59)) (e67 : I' (o + 67) = I (o + 67)) (e57 : I' o 57 = I o 57) (e104 : I' o 104 = I o 104) (e105 : I' o 105 = I o 105) : JL I' o l := by unfold JL; rw [e57]; exact JX.fr h e56 e59 e67 e57 e104 e105
theorem JB.fr (h : JB I o a) (e56 : I' (o + 56) = I (o + 56)) (e59 : I' (o + 59) = I (o + 59)) (e67 : I' (o + 67) = I (o + 67)) (e57 : I' o 57 = I o 57) (e104 : I' o 104 = I o 104) (e105 : I' o 105 = I o 105) : JB I' o a := by unfold JB; rw [e57]; exact JX.fr h e56 e59 e67 e57 e104 e105
theorem JC.fr (h : JC I o a) (e56 : I' (o + 56) = I (o + 56)) (e59 : I' (o + 59) = I (o + 59)) (e67 : I' (o + 67) = I (o + 67)) (e57 : I' o 57 = I o 57) (e104 : I' o 104 = I o 104) (e105 : I' o 105 = I o 105) : JC I' o a := by unfold JC; rw [e57]; exact JS.fr h e56 e59 e67 e57 e104 e105
/-- a PAPER that waits has its MERCHANT -/
def PpAt (I : Nat → Nat → Int32) (o p : Nat) : Prop := (I (o + 56) p).toInt < 0 → (I (o + 66) p).toInt = 0 → 0 ≤ (I (o + 51) p).toInt
def Pap (I : Nat → Nat → Int32) (o : Nat) : Prop := ∀ p : Nat, (p : Int) < (I o 104).toInt → PpAt I o p
theorem Pap.fr (h : Pap I o) (e51 : I' (o + 51) = I (o + 51)) (e56 : I' (o + 56) = I (o + 56)) (e66 : I' (o + 66) = I (o + 66)) (e104 : I' o 104 = I o 104) : Pap I' o := fun p hp => by unfold PpAt; rw [e51, e56, e66]; rw [e104] at hp; exact h p hp
theorem Pap.put {r k : Nat} {v : Int32} (hr : r = 51 ∨ r = 56 ∨ r = 66) (h : Pap I o) (e : q_u I (o + r) k v = I') (hk : (I o 104).toInt ≤ (k : Int) ∨ (r = 51 ∧ 0 ≤ v.toInt) ∨ (r = 56 ∧ 0 ≤ v.toInt) ∨ (r = 66 ∧ v.toInt ≠ 0)) : Pap I' o := fun p hp => by
  have e9 : I' o 104 = I o 104 := by rw [← e, q_u_ne (by omega)]
  rw [e9] at hp
  have q := h p hp
  unfold PpAt at q ⊢
  have ne : ∀ s, s ≠ r ∨ p ≠ k → I' (o + s) p = I (o + s) p := fun s hs => by
    rw [← e]
    by_cases c : s = r
    · subst c; rw [q_u_k (by omega)]
    · rw [q_u_ne (by omega)]
  by_cases c : p = k
  · subst c
    have at_ : I' (o + r) p = v := by rw [← e, q_u_at]
    rcases hk with hk | ⟨rfl, hv⟩ | ⟨rfl, hv⟩ | ⟨rfl, hv⟩
    · exact absurd hk (by omega)
    · intro _ _; rw [at_]; exact hv
    · intro h1 _; rw [at_] at h1; exact absurd h1 (by omega)
    · intro _ h2; rw [at_] at h2; exact absurd h2 hv
  · rw [ne 51 (Or.inr c), ne 56 (Or.inr c), ne 66 (Or.inr c)]; exact q
theorem clEq {x y : Int32} (h : x.toInt = y.toInt) : x.toNatClampNeg = y.toNatClampNeg := by rw [Int32.toInt_inj.mp h]
theorem Pap.put51 {k : Nat} {v : Int32} (h : Pap I o) (e : q_u I (o + 51) k v = I') (hk : (I o 104).toInt ≤ (k : Int) ∨ 0 ≤ v.toInt) : Pap I' o := h.put (Or.inl rfl) e (hk.imp id (fun q => Or.inl ⟨rfl, q⟩))
theorem Pap.put56 {k : Nat} {v : Int32} (h : Pap I o) (e : q_u I (o + 56) k v = I') (hk : (I o 104).toInt ≤ (k : Int) ∨ 0 ≤ v.toInt) : Pap I' o := h.put (Or.inr (Or.inl rfl)) e (hk.imp id (fun q => Or.inr (Or.inl ⟨rfl, q⟩)))
theorem Pap.put66 {k : Nat} {v : Int32} (h : Pap I o) (e : q_u I (o + 66) k v = I') (hk : (I o 104).toInt ≤ (k : Int) ∨ v.toInt ≠ 0) : Pap I' o := h.put (Or.inr (Or.inr rfl)) e (hk.imp id (fun q => Or.inr (Or.inr ⟨rfl, q⟩)))
theorem Pap.bur {I1 : Nat → Nat → Int32} {k : Nat} {v w : Int32} (h : Pap I o) (e1 : q_u I (o + 51) k v = I1) (e2 : q_u I1 (o + 66) k w = I') (hv : 0 ≤ v.toInt ∨ w.toInt ≠ 0) : Pap I' o := fun p hp => by
  have e9 : I' o 104 = I o 104 := by rw [← e2, q_u_ne (by omega), ← e1, q_u_ne (by omega)]
  rw [e9] at hp
  have q := h p hp
  unfold PpAt at q ⊢
  have a56 : I' (o + 56) = I (o + 56) := by rw [← e2, q_u_ne (by omega), ← e1, q_u_ne (by omega)]
  rw [a56]
  by_cases c : p = k
  · subst c
    have a51 : I' (o + 51) p = v := by rw [← e2, q_u_ne (by omega), ← e1, q_u_at]
    have a66 : I' (o + 66) p = w := by rw [← e2, q_u_at]
    rw [a51, a66]
    intro _ h2
    rcases hv with hv | hv
    · exact hv
    · exact absurd h2 hv
  · have a51 : I' (o + 51) p = I (o + 51) p := by rw [← e2, q_u_ne (by omega), ← e1, q_u_k c]
    have a66 : I' (o + 66) p = I (o + 66) p := by rw [← e2, q_u_k c, ← e1, q_u_ne (by omega)]
    rw [a51, a66]
    exact q
theorem JX.up (h : JX I o T l a) (ha : a ≤ a') : JX I o T l a' := ⟨by have := h.1; omega, by have := h.2; omega⟩
theorem JL.nx {l' : Int} (h : JL I o l) (hl : l' = l + 1) : JL I o l' := by subst hl; exact JX.nxt h
theorem JL.eq {l' : Int} (h : JL I o l) (hl : l' = l) : JL I o l' := by subst hl; exact h
theorem JA.zero (h1 : (I o 104).toInt = 0) (h2 : (I o 105).toInt = 0) (h3 : 0 ≤ (I o 57).toInt) : JA I o := by
  unfold JA JX
  rw [h1, h2]
  show 0 + 0 ≤ _ ∧ 0 ≤ _ + 0 + 0
  omega
theorem JA.next {v : Int32} (h : JB I o a) (ha : a ≤ 6) (e : q_u I o 57 v = I') (hv : v.toInt = (I o 57).toInt + 1) : JA I' o := by
  have r : ∀ s, 0 < s → I' (o + s) = I (o + s) := fun s hs => by rw [← e, q_u_ne (by omega)]
  have f : ∀ k, k ≠ 57 → I' o k = I o k := fun k hk => by rw [← e, q_u_k hk]
  have g : (I' o 57).toInt = (I o 57).toInt + 1 := by rw [← e, q_u_at]; exact hv
  obtain ⟨h1, h2⟩ := h
  unfold JA JX
  rw [r 67 (by decide), r 59 (by decide), r 56 (by decide), f 104 (by decide), f 105 (by decide), g]
  omega
theorem Pap.inc {v : Int32} {k : Nat} (h : Pap I o) (e : q_u I o 104 v = I') (hv : v.toInt = (I o 104).toInt + 1) (hk : (k : Int) = (I o 104).toInt) (ho' : 0 ≤ (I' (o + 51) k).toInt) : Pap I' o := fun p hp => by
  have ho : 0 ≤ (I (o + 51) k).toInt := by rw [← e, q_u_ne (by omega)] at ho'; exact ho'
  have r : ∀ s, 0 < s → I' (o + s) = I (o + s) := fun s hs => by rw [← e, q_u_ne (by omega)]
  have e9 : (I' o 104).toInt = (I o 104).toInt + 1 := by rw [← e, q_u_at]; exact hv
  unfold PpAt
  rw [r 51 (by decide), r 56 (by decide), r 66 (by decide)]
  by_cases c : (p : Int) < (I o 104).toInt
  · exact h p c
  · have : p = k := by omega
    subst this
    intro _ _
    exact ho
/-- where a LOT goes -/
def LtAt (S To : Nat → Int32) (j : Nat) : Prop := ((S j).toInt = 0 → 0 ≤ (To j).toInt ∧ (To j).toInt ≤ 2) ∧ ((S j).toInt ≠ 0 → 0 ≤ (To j).toInt ∧ (To j).toInt ≤ 4)
def Lot (I : Nat → Nat → Int32) (o : Nat) : Prop := ∀ j : Nat, (j : Int) < (I o 105).toInt → LtAt (I (o + 67)) (I (o + 60)) j
theorem Lot.fr (h : Lot I o) (e60 : I' (o + 60) = I (o + 60)) (e67 : I' (o + 67) = I (o + 67)) (e105 : I' o 105 = I o 105) : Lot I' o := fun j hj => by rw [e60, e67]; rw [e105] at hj; exact h j hj
theorem Lot.snd {v w : Int32} (h : Lot I o) (h0 : 0 ≤ (I o 105).toInt) (hv : (v.toInt = 0 → 0 ≤ w.toInt ∧ w.toInt ≤ 2) ∧ (v.toInt ≠ 0 → 0 ≤ w.toInt ∧ w.toInt ≤ 4)) (e60 : I' (o + 60) = rU (I (o + 60)) (I o 105).toNatClampNeg w) (e67 : I' (o + 67) = rU (I (o + 67)) (I o 105).toNatClampNeg v) (e105 : (I' o 105).toInt = (I o 105).toInt + 1) : Lot I' o := fun j hj => by
  have cl := tCl h0
  rw [e60, e67]
  by_cases c : j = (I o 105).toNatClampNeg
  · subst c
    unfold LtAt
    rw [rU_at, rU_at]
    exact hv
  · unfold LtAt
    rw [rU_ne c, rU_ne c]
    exact h j (by omega)
/-- what a WAY that was weighed has -/
def MWy (I : Nat → Nat → Int32) (o : Nat) : Prop := ((I o 122).toInt = 1 → 0 ≤ (I o 123).toInt ∧ 0 ≤ (I o 124).toInt) ∧ ((I o 122).toInt = 2 → 0 ≤ (I o 123).toInt) ∧ ((I o 122).toInt = 3 → 0 ≤ (I o 123).toInt)
theorem MWy.fr (h : MWy I o) (e2 : I' o 122 = I o 122) (e3 : I' o 123 = I o 123) (e4 : I' o 124 = I o 124) : MWy I' o := by unfold MWy; rw [e2, e3, e4]; exact h
end JXL
