/-! The shortest ways in the reference. By hand. -/
section MF
variable {M M0 D D0 : Nat → Nat → Int} {k x y m b : Nat} {I I2 : gJ} {K : gL}
theorem fr_rg (h : FlI M k) (hk : k ≤ 16) (r : FR M D) (hx : x < 16) (hy : y < 16) : 0 ≤ D x y ∧ D x y ≤ 1000000 := by
  have a := h.le hk hx hy
  rcases r x y hx hy with ⟨p, q⟩ | ⟨p, q⟩ <;> omega
theorem fr_d0 (h : FlI M k) (r : FR M D) (hx : x < 16) : D x x = 0 := by
  have a := h.1 x hx
  rcases r x x hx hx with ⟨p, q⟩ | ⟨p, q⟩ <;> omega
theorem dl_row (h : FlI M k) (hk : k < 16) (r : FR M D) (hy : y < 16) : dlS D k k y = D k y := by
  have g := fr_rg h (by omega) r hk hy
  have z := fr_d0 h r hk
  unfold dlS
  rw [if_pos]
  rw [wAdd_r (by omega) (by omega) (by omega) (by omega) (by omega) (by omega)]
  omega
theorem dl_col (h : FlI M k) (hk : k < 16) (r : FR M D) (hx : x < 16) : dlS D k x k = D x k := by
  have g := fr_rg h (by omega) r hx hk
  have z := fr_d0 h r hk
  unfold dlS
  rw [if_pos]
  rw [wAdd_r (by omega) (by omega) (by omega) (by omega) (by omega) (by omega)]
  omega
theorem m_fl179 {K171 : gJ → gL → Int → Int → Int × gJ × gL} (h : FlI M k) (hk : k < 16) (r : FR M D) (hx : x < 16) : ∀ (f i n : Nat) (I : gJ), i + f = 16 → f < n → Mid (dlS D k) D (16 * x + i) (I (m + 25)) → ∃ I2, gModel_measure_179 n K171 m I K (k : Int) (x : Int) (i : Int) = K171 I2 K (k : Int) ((x + 1 : Nat) : Int) ∧ RwFr (m + 25) I I2 ∧ Mid (dlS D k) D (16 * x + 16) (I2 (m + 25)) := by
  intro f
  induction f with
  | zero =>
    intro i n I hi hn hm
    obtain ⟨n, rfl⟩ : ∃ n', n = n' + 1 := ⟨n - 1, by omega⟩
    have e16 : i = 16 := by omega
    rw [eModel_measure_179, if_pos (by omega)]
    simp only [gLetp]
    rw [nat1]
    exact ⟨I, rfl, RwFr.rf, by rw [e16] at hm; exact hm⟩
  | succ f ih =>
    intro i n I hi hn hm
    obtain ⟨n, rfl⟩ : ∃ n', n = n' + 1 := ⟨n - 1, by omega⟩
    have hi16 : i < 16 := by omega
    rw [eModel_measure_179, if_neg (by omega)]
    simp only [gLetp, eModel_measure_239]
    rw [nat1, show Int.toNat (16 * (x : Int) + (k : Int)) = 16 * x + k from by omega, show Int.toNat (16 * (k : Int) + (i : Int)) = 16 * k + i from by omega, show Int.toNat (16 * (x : Int) + (i : Int)) = 16 * x + i from by omega, hm.same hx hk (dl_col h hk r hx), hm.same hk hi16 (dl_row h hk r hi16), hm.at hx hi16]
    by_cases c : D x i ≤ wAdd (D x k) (D k i)
    · rw [if_pos c]
      exact ih (i + 1) n I (by omega) (by omega) (hm.next hi16 (by rw [hm.at hx hi16]; unfold dlS; rw [if_pos c]) (fun _ _ => rfl))
    · rw [if_neg c]
      obtain ⟨I2, e, fr, g⟩ := ih (i + 1) n (q_u I (m + 25) (16 * x + i) (wAdd (D x k) (D k i))) (by omega) (by omega) (hm.next hi16 (by rw [q_u_at]; unfold dlS; rw [if_neg c]) (fun y q => q_u_k q))
      exact ⟨I2, e, rwq.tr fr, g⟩
theorem m_fl171 {K163 : gJ → gL → Int → Int × gJ × gL} (h : FlI M k) (hk : k < 16) (r : FR M D) : ∀ (f i n : Nat) (I : gJ), i + f = 16 → f < n → Mid (dlS D k) D (16 * i) (I (m + 25)) → ∃ I2, gModel_measure_171 n K163 m I K (k : Int) (i : Int) = K163 I2 K ((k + 1 : Nat) : Int) ∧ RwFr (m + 25) I I2 ∧ Mid (dlS D k) D 256 (I2 (m + 25)) := by
  intro f
  induction f with
  | zero =>
    intro i n I hi hn hm
    obtain ⟨n, rfl⟩ : ∃ n', n = n' + 1 := ⟨n - 1, by omega⟩
    have e16 : i = 16 := by omega
    rw [eModel_measure_171, if_pos (by omega)]
    simp only [gLetp]
    rw [nat1]
    exact ⟨I, rfl, RwFr.rf, by rw [e16] at hm; exact hm⟩
  | succ f ih =>
    intro i n I hi hn hm
    obtain ⟨n, rfl⟩ : ∃ n', n = n' + 1 := ⟨n - 1, by omega⟩
    rw [eModel_measure_171, if_neg (by omega)]
    obtain ⟨I1, e1, f1, g1⟩ := m_fl179 (m := m) (K := K) (K171 := gModel_measure_171 n K163 m) h hk r (show i < 16 by omega) 16 0 20000 I rfl (by omega) hm
    obtain ⟨I2, e2, f2, g2⟩ := ih (i + 1) n I1 (by omega) (by omega) g1
    exact ⟨I2, e1.trans e2, f1.tr f2, g2⟩
theorem m_fl163 (h : FlI M0 0) (r : FR M0 D0) : ∀ (f i n : Nat) (I : gJ), i + f = 16 → f < n → Mid (dlM D0 i) (dlM D0 i) 0 (I (m + 25)) → ∃ I2, gModel_measure_163 n m I K (i : Int) = (0, I2, K) ∧ RwFr (m + 25) I I2 ∧ Mid (dlM D0 16) (dlM D0 16) 0 (I2 (m + 25)) := by
  intro f
  induction f with
  | zero =>
    intro i n I hi hn hm
    obtain ⟨n, rfl⟩ : ∃ n', n = n' + 1 := ⟨n - 1, by omega⟩
    have e16 : i = 16 := by omega
    rw [eModel_measure_163, if_pos (by omega)]
    exact ⟨I, rfl, RwFr.rf, by rw [e16] at hm; exact hm⟩
  | succ f ih =>
    intro i n I hi hn hm
    obtain ⟨n, rfl⟩ : ∃ n', n = n' + 1 := ⟨n - 1, by omega⟩
    rw [eModel_measure_163, if_neg (by omega)]
    obtain ⟨I1, e1, f1, g1⟩ := m_fl171 (m := m) (K := K) (K163 := gModel_measure_163 n m) (flI_all h i (by omega)) (show i < 16 by omega) (fr_all h r i (by omega)) 16 0 20000 I rfl (by omega) (fun a b ha hb => by rw [hm a b ha hb, if_neg (by omega), if_neg (by omega)])
    obtain ⟨I2, e2, f2, g2⟩ := ih (i + 1) n I1 (by omega) (by omega) (g1.done _)
    exact ⟨I2, e1.trans e2, f1.tr f2, g2⟩
/-- a road makes both its ways shorter -/
theorem sh2 {a c : Nat} {d : Int} (hac : a ≠ c) (hs : M c a = M a c) : shM (shM M a c d) c a d x y = if ((x = a ∧ y = c) ∨ (x = c ∧ y = a)) ∧ (M a c = -1 ∨ d < M a c) then d else M x y := by
  have e : shM M a c d c a = M a c := by
    unfold shM
    rw [if_neg (fun w => hac w.2.1)]
    exact hs
  show (if x = c ∧ y = a ∧ (shM M a c d c a = -1 ∨ d < shM M a c d c a) then d else shM M a c d x y) = _
  rw [e]
  by_cases z : M a c = -1 ∨ d < M a c
  · by_cases p : x = c ∧ y = a
    · rw [if_pos ⟨p.1, p.2, z⟩, if_pos ⟨Or.inr p, z⟩]
    · rw [if_neg (fun w => p ⟨w.1, w.2.1⟩)]
      unfold shM
      by_cases q : x = a ∧ y = c
      · rw [if_pos ⟨q.1, q.2, z⟩, if_pos ⟨Or.inl q, z⟩]
      · rw [if_neg (fun w => q ⟨w.1, w.2.1⟩), if_neg (fun w => w.1.elim q p)]
  · rw [if_neg (fun w => z w.2.2), if_neg (fun w => z w.2)]
    unfold shM
    rw [if_neg (fun w => z w.2.2)]
/-- what roads are -/
def RdOk (RA RB RD : Nat → Int) (b nr : Nat) : Prop := ∀ k, k < nr → 0 ≤ RA (24 * b + k) ∧ RA (24 * b + k) ≤ 15 ∧ 0 ≤ RB (24 * b + k) ∧ RB (24 * b + k) ≤ 15 ∧ RA (24 * b + k) ≠ RB (24 * b + k) ∧ 1 ≤ RD (24 * b + k) ∧ RD (24 * b + k) ≤ 90
def RdI (M : Nat → Nat → Int) : Prop := (∀ x, x < 16 → M x x = 0) ∧ (∀ x y, x < 16 → y < 16 → M x y = -1 ∨ (0 ≤ M x y ∧ M x y ≤ 90)) ∧ ∀ x y, x < 16 → y < 16 → M x y = M y x
theorem RdI.fl (h : RdI M) : FlI M 0 := ⟨h.1, fun x y hx hy => (h.2.1 x y hx hy).imp id (fun w => w.1), fun z _ _ hz => absurd hz (Nat.not_lt_zero z), fun x y hx hy c => by
  have w := (h.2.1 x y hx hy).resolve_left c
  show M x y ≤ 90 * (1 + ((0 : Nat) : Int))
  omega⟩
theorem rdI_step {RA RB RD : Nat → Int} {nr n : Nat} (h : RdOk RA RB RD b nr) (hn : n < nr) (r : RdI (rdM RA RB RD b n)) : RdI (rdM RA RB RD b (n + 1)) := by
  obtain ⟨h1, h2, h3, h4, h5, h6, h7⟩ := h n hn
  have ha : (RA (24 * b + n)).toNat < 16 := by omega
  have hc : (RB (24 * b + n)).toNat < 16 := by omega
  have hac : (RA (24 * b + n)).toNat ≠ (RB (24 * b + n)).toNat := by omega
  have e : ∀ x y, rdM RA RB RD b (n + 1) x y = _ := fun x y => sh2 (M := rdM RA RB RD b n) (x := x) (y := y) (d := RD (24 * b + n)) hac (r.2.2 _ _ hc ha)
  refine ⟨fun x hx => ?_, fun x y hx hy => ?_, fun x y hx hy => ?_⟩
  · rw [e, if_neg]
    · exact r.1 x hx
    · intro w
      rcases w.1 with q | q <;> exact hac (by omega)
  · rw [e]
    split
    · right; omega
    · exact r.2.1 x y hx hy
  · rw [e, e, r.2.2 x y hx hy]
    by_cases q : ((x = (RA (24 * b + n)).toNat ∧ y = (RB (24 * b + n)).toNat) ∨ (x = (RB (24 * b + n)).toNat ∧ y = (RA (24 * b + n)).toNat)) ∧ (rdM RA RB RD b n (RA (24 * b + n)).toNat (RB (24 * b + n)).toNat = -1 ∨ RD (24 * b + n) < rdM RA RB RD b n (RA (24 * b + n)).toNat (RB (24 * b + n)).toNat)
    · rw [if_pos q, if_pos ⟨q.1.elim (fun w => Or.inr ⟨w.2, w.1⟩) (fun w => Or.inl ⟨w.2, w.1⟩), q.2⟩]
    · rw [if_neg q, if_neg (fun v => q ⟨v.1.elim (fun w => Or.inr ⟨w.2, w.1⟩) (fun w => Or.inl ⟨w.2, w.1⟩), v.2⟩)]
theorem rdI_0 {RA RB RD : Nat → Int} : RdI (rdM RA RB RD b 0) := by
  refine ⟨fun x _ => if_pos rfl, fun x y _ _ => ?_, fun x y _ _ => ?_⟩
  · show (if x = y then (0 : Int) else -1) = -1 ∨ (0 ≤ (if x = y then (0 : Int) else -1) ∧ (if x = y then (0 : Int) else -1) ≤ 90)
    by_cases c : x = y
    · rw [if_pos c]; right; omega
    · rw [if_neg c]; left; rfl
  · show (if x = y then (0 : Int) else -1) = if y = x then (0 : Int) else -1
    by_cases c : x = y
    · rw [if_pos c, if_pos c.symm]
    · rw [if_neg c, if_neg (fun q => c q.symm)]
theorem rdI_all {RA RB RD : Nat → Int} {nr : Nat} (h : RdOk RA RB RD b nr) : ∀ n, n ≤ nr → RdI (rdM RA RB RD b n) := by
  intro n
  induction n with
  | zero => intro _; exact rdI_0
  | succ n ih => intro hn; exact rdI_step h (by omega) (ih (by omega))
/-- the ways' row as a matrix -/
def mxI (I : gJ) (r : Nat) : Nat → Nat → Int := fun x y => I r (16 * x + y)
theorem m_rd47 {nr : Nat} : ∀ (f n k : Nat) (I : gJ), I m 34 = (b : Int) → I (m + 6) b = (nr : Int) → n + f = nr → f < k → RdOk (I (m + 10)) (I (m + 11)) (I (m + 12)) b nr → FR (rdM (I (m + 10)) (I (m + 11)) (I (m + 12)) b n) (mxI I (m + 25)) → ∃ I2, gModel_measure_47 k m I K ((24 * b + n : Nat) : Int) = (0, I2, K) ∧ RwFr (m + 25) I I2 ∧ FR (flM (rdM (I (m + 10)) (I (m + 11)) (I (m + 12)) b nr) 16) (mxI I2 (m + 25)) := by
  intro f
  induction f with
  | zero =>
    intro n k I hb hr hn hk ok fr
    obtain ⟨k, rfl⟩ : ∃ k', k = k' + 1 := ⟨k - 1, by omega⟩
    have en : n = nr := by omega
    subst en
    rw [eModel_measure_47]
    simp only [gLetp]
    rw [hb, Int.toNat_natCast, hr, if_pos (by omega)]
    have fl := (rdI_all ok n (Nat.le_refl _)).fl
    obtain ⟨I2, e, f2, g⟩ := m_fl163 (m := m) (K := K) fl fr 16 0 20000 I rfl (by omega) (fun x y _ _ => by rw [if_neg (by omega)]; rfl)
    have q := fr_all fl fr 16 (Nat.le_refl _)
    refine ⟨I2, e, f2, fun x y hx hy => ?_⟩
    have w : mxI I2 (m + 25) x y = dlM (mxI I (m + 25)) 16 x y := by
      show I2 (m + 25) (16 * x + y) = _
      rw [g x y hx hy, if_neg (by omega)]
    rw [w]
    exact q x y hx hy
  | succ f ih =>
    intro n k I hb hr hn hk ok fr
    obtain ⟨k, rfl⟩ : ∃ k', k = k' + 1 := ⟨k - 1, by omega⟩
    obtain ⟨h1, h2, h3, h4, h5, h6, h7⟩ := ok n (by omega)
    have ri := rdI_all ok n (by omega)
    obtain ⟨a, ea⟩ : ∃ a : Nat, I (m + 10) (24 * b + n) = (a : Int) := ⟨_, (Int.toNat_of_nonneg h1).symm⟩
    obtain ⟨c, ec⟩ : ∃ c : Nat, I (m + 11) (24 * b + n) = (c : Int) := ⟨_, (Int.toNat_of_nonneg h3).symm⟩
    have ha : a < 16 := by omega
    have hc : c < 16 := by omega
    have hac : a ≠ c := by omega
    have up : ∀ x y, rdM (I (m + 10)) (I (m + 11)) (I (m + 12)) b (n + 1) x y = _ := fun x y => by
      have z := sh2 (M := rdM (I (m + 10)) (I (m + 11)) (I (m + 12)) b n) (x := x) (y := y) (d := I (m + 12) (24 * b + n)) hac (ri.2.2 _ _ hc ha)
      have t : rdM (I (m + 10)) (I (m + 11)) (I (m + 12)) b (n + 1) x y = shM (shM (rdM (I (m + 10)) (I (m + 11)) (I (m + 12)) b n) a c (I (m + 12) (24 * b + n))) c a (I (m + 12) (24 * b + n)) x y := by
        show shM (shM (rdM _ _ _ b n) (I (m + 10) (24 * b + n)).toNat (I (m + 11) (24 * b + n)).toNat _) (I (m + 11) (24 * b + n)).toNat (I (m + 10) (24 * b + n)).toNat _ x y = _
        rw [ea, ec, Int.toNat_natCast, Int.toNat_natCast]
      exact t.trans z
    have dac : mxI I (m + 25) a c = I (m + 25) (16 * a + c) := rfl
    have fac := fr a c ha hc
    have t1 : Int.toNat (16 * (a : Int) + (c : Int)) = 16 * a + c := by omega
    have t2 : Int.toNat (16 * (c : Int) + (a : Int)) = 16 * c + a := by omega
    rw [eModel_measure_47]
    simp only [gLetp, eModel_measure_155]
    rw [hb, Int.toNat_natCast, hr, if_neg (by omega), Int.toNat_natCast, nat1]
    rw [q_u_ne (show m + 11 ≠ m + 25 by omega), q_u_ne (show m + 10 ≠ m + 25 by omega), q_u_ne (show m + 12 ≠ m + 25 by omega), ea, ec, t1, t2, show 24 * b + n + 1 = 24 * b + (n + 1) from rfl]
    rw [dac] at fac
    by_cases z : I (m + 12) (24 * b + n) < I (m + 25) (16 * a + c)
    · rw [if_pos z]
      have k6 : ∀ r, r ≠ m + 25 → q_u (q_u I (m + 25) (16 * a + c) (I (m + 12) (24 * b + n))) (m + 25) (16 * c + a) (I (m + 12) (24 * b + n)) r = I r := fun r q => by rw [q_u_ne q, q_u_ne q]
      have cond : rdM (I (m + 10)) (I (m + 11)) (I (m + 12)) b n a c = -1 ∨ I (m + 12) (24 * b + n) < rdM (I (m + 10)) (I (m + 11)) (I (m + 12)) b n a c := by
        rcases fac with ⟨p, _⟩ | ⟨p, _⟩
        · exact Or.inl p
        · right; omega
      have fr' : FR (rdM (I (m + 10)) (I (m + 11)) (I (m + 12)) b (n + 1)) (mxI (q_u (q_u I (m + 25) (16 * a + c) (I (m + 12) (24 * b + n))) (m + 25) (16 * c + a) (I (m + 12) (24 * b + n))) (m + 25)) := by
        intro x y hx hy
        rw [up]
        show _ ∨ (_ = q_u (q_u I (m + 25) (16 * a + c) (I (m + 12) (24 * b + n))) (m + 25) (16 * c + a) (I (m + 12) (24 * b + n)) (m + 25) (16 * x + y) ∧ _)
        by_cases w : (x = a ∧ y = c) ∨ (x = c ∧ y = a)
        · rw [if_pos ⟨w, cond⟩]
          right
          refine ⟨?_, by omega⟩
          rcases w with w | w
          · rw [w.1, w.2, q_u_k (by omega), q_u_at]
          · rw [w.1, w.2, q_u_at]
        · rw [if_neg (fun q => w q.1)]
          have o : q_u (q_u I (m + 25) (16 * a + c) (I (m + 12) (24 * b + n))) (m + 25) (16 * c + a) (I (m + 12) (24 * b + n)) (m + 25) (16 * x + y) = I (m + 25) (16 * x + y) := by
            rw [q_u_k (fun q => w (Or.inr ⟨by omega, by omega⟩)), q_u_k (fun q => w (Or.inl ⟨by omega, by omega⟩))]
          have old := fr x y hx hy
          rcases old with ⟨p, q⟩ | ⟨p, q⟩
          · exact Or.inl ⟨p, o.trans q⟩
          · exact Or.inr ⟨p.trans o.symm, q⟩
      obtain ⟨I2, e, f2, g⟩ := ih (n + 1) k (q_u (q_u I (m + 25) (16 * a + c) (I (m + 12) (24 * b + n))) (m + 25) (16 * c + a) (I (m + 12) (24 * b + n))) (by rw [k6 _ (by omega)]; exact hb) (by rw [k6 _ (by omega)]; exact hr) (by omega) (by omega) (by rw [k6 _ (by omega), k6 _ (by omega), k6 _ (by omega)]; exact ok) (by rw [k6 (m + 10) (by omega), k6 (m + 11) (by omega), k6 (m + 12) (by omega)]; exact fr')
      rw [k6 (m + 10) (by omega), k6 (m + 11) (by omega), k6 (m + 12) (by omega)] at g
      exact ⟨I2, e, (rwq.tr rwq).tr f2, g⟩
    · rw [if_neg z]
      have cond : ¬ (rdM (I (m + 10)) (I (m + 11)) (I (m + 12)) b n a c = -1 ∨ I (m + 12) (24 * b + n) < rdM (I (m + 10)) (I (m + 11)) (I (m + 12)) b n a c) := by
        rcases fac with ⟨p, q⟩ | ⟨p, q⟩
        · omega
        · omega
      exact ih (n + 1) k I hb hr (by omega) (by omega) ok (fun x y hx hy => by rw [up, if_neg (fun w => cond w.2)]; exact fr x y hx hy)
theorem m_fill2 {nr : Nat} (hnr : nr ≤ 24) : ∀ (f i k : Nat) (I : gJ), I m 34 = (b : Int) → I (m + 6) b = (nr : Int) → i + f = 256 → f < k → RdOk (I (m + 10)) (I (m + 11)) (I (m + 12)) b nr → (∀ x y, x < 16 → y < 16 → 16 * x + y < i → I (m + 25) (16 * x + y) = if x = y then 0 else 1000000) → ∃ I2, gModel_measure_2 k m I K (i : Int) = (0, I2, K) ∧ RwFr (m + 25) I I2 ∧ FR (flM (rdM (I (m + 10)) (I (m + 11)) (I (m + 12)) b nr) 16) (mxI I2 (m + 25)) := by
  intro f
  induction f with
  | zero =>
    intro i k I hb hr hi hk ok hf
    obtain ⟨k, rfl⟩ : ∃ k', k = k' + 1 := ⟨k - 1, by omega⟩
    rw [eModel_measure_2, if_pos (by omega)]
    simp only [gLetp]
    rw [hb, show (24 : Int) * (b : Int) = ((24 * b + 0 : Nat) : Int) from by omega]
    refine m_rd47 nr 0 20000 I hb hr (Nat.zero_add _) (by omega) ok (fun x y hx hy => ?_)
    have e := hf x y hx hy (by omega)
    show ((if x = y then (0 : Int) else -1) = -1 ∧ I (m + 25) (16 * x + y) = 1000000) ∨ ((if x = y then (0 : Int) else -1) = I (m + 25) (16 * x + y) ∧ 0 ≤ (if x = y then (0 : Int) else -1))
    rw [e]
    by_cases c : x = y
    · rw [if_pos c, if_pos c]; right; exact ⟨rfl, Int.le_refl _⟩
    · rw [if_neg c, if_neg c]; left; exact ⟨rfl, rfl⟩
  | succ f ih =>
    intro i k I hb hr hi hk ok hf
    obtain ⟨k, rfl⟩ : ∃ k', k = k' + 1 := ⟨k - 1, by omega⟩
    rw [eModel_measure_2, if_neg (by omega)]
    simp only [gLetp, eModel_measure_32]
    rw [nat1, Int.toNat_natCast]
    have go : ∀ v : Int, (∀ x y, x < 16 → y < 16 → 16 * x + y = i → v = if x = y then 0 else 1000000) → ∃ I2, gModel_measure_2 k m (q_u I (m + 25) i v) K ((i + 1 : Nat) : Int) = (0, I2, K) ∧ RwFr (m + 25) I I2 ∧ FR (flM (rdM (I (m + 10)) (I (m + 11)) (I (m + 12)) b nr) 16) (mxI I2 (m + 25)) := by
      intro v hv
      have k6 : ∀ r, r ≠ m + 25 → q_u I (m + 25) i v r = I r := fun r q => q_u_ne q
      obtain ⟨I2, e, f2, g⟩ := ih (i + 1) k (q_u I (m + 25) i v) (by rw [k6 _ (by omega)]; exact hb) (by rw [k6 _ (by omega)]; exact hr) (by omega) (by omega) (by rw [k6 _ (by omega), k6 _ (by omega), k6 _ (by omega)]; exact ok) (fun x y hx hy q => by
        by_cases z : 16 * x + y = i
        · rw [z, q_u_at]; exact hv x y hx hy z
        · rw [q_u_k z]; exact hf x y hx hy (by omega))
      rw [k6 (m + 10) (by omega), k6 (m + 11) (by omega), k6 (m + 12) (by omega)] at g
      exact ⟨I2, e, rwq.tr f2, g⟩
    by_cases c : (i : Int) / 16 = (i : Int) - (i : Int) / 16 * 16
    · rw [if_pos c]
      exact go 0 (fun x y hx hy q => by rw [if_pos (by omega)])
    · rw [if_neg c]
      exact go 1000000 (fun x y hx hy q => by rw [if_neg (fun z => c (by omega))])
/-- the reference's ways -/
theorem m_floyd {nr : Nat} (hnr : nr ≤ 24) (hb : I m 34 = (b : Int)) (hr : I (m + 6) b = (nr : Int)) (ok : RdOk (I (m + 10)) (I (m + 11)) (I (m + 12)) b nr) : ∃ I2, gModel_measure_0 m I K = (0, I2, K) ∧ RwFr (m + 25) I I2 ∧ FR (flM (rdM (I (m + 10)) (I (m + 11)) (I (m + 12)) b nr) 16) (mxI I2 (m + 25)) := m_fill2 hnr 256 0 20000 I hb hr rfl (by omega) ok (fun x y _ _ q => absurd q (Nat.not_lt_zero _))
end MF
