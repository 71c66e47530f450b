/-! A REFORM read by the pile: the reference's functions are those of the mathematics. By hand. -/
/-- the pile's rows, from below -/
def pmW (f : Nat → Int) : rdC → Prop
  | [] => True
  | (w, _) :: S => f S.length = (w : Int) ∧ pmW f S
theorem pmW.mv {f g : Nat → Int} : ∀ {S : rdC}, pmW f S → (∀ y, y < S.length → g y = f y) → pmW g S
  | [], _, _ => trivial
  | (_, _) :: S, h, e => ⟨(e S.length (Nat.lt_succ_self _)).trans h.1, pmW.mv h.2 (fun y hy => e y (Nat.lt_succ_of_lt hy))⟩
/-- the letter that stands for a word asked for -/
def mlL (y : Int) : Int := if y = 23 then 121 else if y = 24 then 109 else if y = 27 then 119 else if y = 31 then 100 else if y = 4 then 115 else if y = 25 then 110 else if y = 26 then 68 else if y = 28 then 97 else if y = 29 then 107 else 98
theorem mlL_ne {y : Int} : mlL y ≠ 0 := by
  unfold mlL
  repeat' split
  all_goals decide
/-- a cell of the reference's code, and its number -/
def mlA (B : Nat → Int) (N : Nat) (e : Nat × Nat) : Int := if e.1 = 0 then (if tkK false B N (tkS false B N e.2) = 1 then mlL (vW (tkW B N (tkS false B N e.2))) else 78) else if e.1 = 1 then 124 else if e.1 = 2 then 38 else if e.1 = 3 then 126 else B (tkS false B N e.2)
def mlN (B : Nat → Int) (N : Nat) (e : Nat × Nat) : Int := if e.1 = 0 then (if tkK false B N (tkS false B N e.2) = 1 then 0 else tkN B N (tkS false B N e.2)) else 0
/-- the signs on the pile -/
def pmZ (f : Nat → Int) (cl : Nat × Nat → Int) : rdC → Prop
  | [] => True
  | (w, i) :: S => (w ≤ 6 → f S.length = cl (w, i)) ∧ pmZ f cl S
theorem pmZ.mv {f g : Nat → Int} {cl : Nat × Nat → Int} : ∀ {S : rdC}, pmZ f cl S → (∀ y, y < S.length → g y = f y) → pmZ g cl S
  | [], _, _ => trivial
  | (_, _) :: S, h, e => ⟨fun q => (e S.length (Nat.lt_succ_self _)).trans (h.1 q), pmZ.mv h.2 (fun y hy => e y (Nat.lt_succ_of_lt hy))⟩
/-- the reference's code: older lines' below b, then this line's cells -/
def MD (B : Nat → Int) (N m : Nat) (g gn : Nat → Int) (b : Nat) (I : gJ) (c : rdC) : Prop := I m 44 = 4 ∧ I m 45 = ((b + c.length : Nat) : Int) ∧ (∀ y, y < b → I (m + 30) (2800 + y) = g y ∧ I (m + 31) (2800 + y) = gn y) ∧ CW (fun y => I (m + 30) (2800 + y)) (mlA B N) b c ∧ CW (fun y => I (m + 31) (2800 + y)) (mlN B N) b c
/-- ALL lies below, once -/
def pmB : rdC → Prop
  | [] => False
  | (w, _) :: S => (w = 8 ∧ S = []) ∨ ((1 ≤ w ∧ w < 8) ∧ pmB S)
/-- how deep -/
def pmN : rdC → Nat
  | [] => 0
  | (w, _) :: S => (if w = 3 ∨ w = 7 then 1 else 0) + pmN S
/-- the reference within a line of a REFORM: at TOKEN j, wanting or behind -/
def PM (B : Nat → Int) (N T m : Nat) (g gn : Nat → Int) (b : Nat) (z : Int) (S : rdC) (d j u : Nat) (c : rdC) (I : gJ) (K : gL) : Prop := Mg false B N m I K (tkS false B N j) ∧ j ≤ T ∧ I m 48 = (S.length : Int) ∧ pmW (I (m + 32)) S ∧ I m 47 = (d : Int) ∧ I m 46 = (u : Int) ∧ I m 49 = z ∧ b + c.length + S.length ≤ j + 1 ∧ pmB S ∧ pmN S = d ∧ pmZ (I (m + 33)) (mlA B N) S ∧ MD B N m g gn b I c
/-- what a line's reading may write -/
def MrF (m : Nat) (I I2 : gJ) (K K2 : gL) : Prop := (∀ r y, ¬ (r = m ∧ ((4 ≤ y ∧ y ≤ 9) ∨ (45 ≤ y ∧ y ≤ 48))) → ¬ (m + 32 ≤ r ∧ r ≤ m + 33) → ¬ ((r = m + 30 ∨ r = m + 31) ∧ 2800 ≤ y ∧ y < 3500) → I2 r y = I r y) ∧ ∀ r y, ¬ (r = m ∧ y = 10) → K2 r y = K r y
def mS (B : Nat → Int) (N T m : Nat) (g gn : Nat → Int) (b : Nat) (z : Int) (I0 : gJ) (K0 : gL) (q : Int × gJ × gL) (s : pmS) : Prop := ∃ r I2 K2, q = (r, I2, K2) ∧ MrF m I0 I2 K0 K2 ∧ match s with
  | .inl (wa, S, d, j, u, c) => r = (if wa = true then 1 else 0) ∧ PM B N T m g gn b z S d j u c I2 K2
  | .inr (.inl (f, p)) => I2 m 4 = f ∧ f ≠ 0 ∧ I2 m 5 = ((tkS false B N p : Nat) : Int)
  | .inr (.inr (j, u, c)) => Mg false B N m I2 K2 (tkS false B N j) ∧ j ≤ T ∧ I2 m 48 = 0 ∧ I2 m 46 = (u : Int) ∧ MD B N m g gn b I2 c
section MR
variable {B : Nat → Int} {N T m j u d b : Nat} {I I2 I3 I' : gJ} {K K2 K3 : gL} {z w v : Int} {c S : rdC} {g gn : Nat → Int}
theorem mlA_0 : mlA B N (0, j) = if tkK false B N (tkS false B N j) = 1 then mlL (vW (tkW B N (tkS false B N j))) else 78 := if_pos rfl
theorem mlA_1 : mlA B N (1, j) = 124 := (if_neg (show ¬ (1 : Nat) = 0 by decide)).trans (if_pos rfl)
theorem mlA_2 : mlA B N (2, j) = 38 := (if_neg (show ¬ (2 : Nat) = 0 by decide)).trans ((if_neg (show ¬ (2 : Nat) = 1 by decide)).trans (if_pos rfl))
theorem mlA_3 : mlA B N (3, j) = 126 := (if_neg (show ¬ (3 : Nat) = 0 by decide)).trans ((if_neg (show ¬ (3 : Nat) = 1 by decide)).trans ((if_neg (show ¬ (3 : Nat) = 2 by decide)).trans (if_pos rfl)))
theorem mlA_s {r : Nat} (h : 4 ≤ r) : mlA B N (r, j) = B (tkS false B N j) := (if_neg (show ¬ r = 0 by omega)).trans ((if_neg (show ¬ r = 1 by omega)).trans ((if_neg (show ¬ r = 2 by omega)).trans (if_neg (show ¬ r = 3 by omega))))
theorem mlN_0 : mlN B N (0, j) = if tkK false B N (tkS false B N j) = 1 then 0 else tkN B N (tkS false B N j) := if_pos rfl
theorem mlN_p {r : Nat} (h : 1 ≤ r) : mlN B N (r, j) = 0 := if_neg (show ¬ r = 0 by omega)
theorem MD.mv (h : MD B N m g gn b I c) (h4 : I2 m 44 = I m 44) (h5 : I2 m 45 = I m 45) (h0 : I2 (m + 30) = I (m + 30)) (h1 : I2 (m + 31) = I (m + 31)) : MD B N m g gn b I2 c := by
  unfold MD at h ⊢
  rw [h4, h5, h0, h1]
  exact h
theorem MrF.rf : MrF m I I K K := ⟨fun _ _ _ _ _ => rfl, fun _ _ _ => rfl⟩
theorem MrF.tr (h : MrF m I I2 K K2) (g : MrF m I2 I3 K2 K3) : MrF m I I3 K K3 := ⟨fun r y p q s => (g.1 r y p q s).trans (h.1 r y p q s), fun r y p => (g.2 r y p).trans (h.2 r y p)⟩
theorem NxFr.mrf (h : NxFr m I I2 K K2) : MrF m I I2 K K2 := ⟨fun r y p _ _ => h.1 r y (by omega), h.2⟩
theorem mS.pre {q : Int × gJ × gL} {s : pmS} (h : mS B N T m g gn b z I2 K2 q s) (e : MrF m I I2 K K2) : mS B N T m g gn b z I K q s := by
  obtain ⟨r, I3, K3, h1, h2, h3⟩ := h
  exact ⟨r, I3, K3, h1, e.tr h2, h3⟩
theorem TokM.mv {t : Nat} (h : TokM false B N m I K t) (e : ∀ y, y ≤ 11 → I2 m y = I m y) (eK : K2 m 10 = K m 10) : TokM false B N m I2 K2 t := by
  unfold TokM at h ⊢
  rw [e 6 (by decide), e 7 (by decide), e 8 (by decide), e 9 (by decide), eK]
  exact h
theorem Mg.mv {t : Nat} (h : Mg false B N m I K t) (e : ∀ y, y ≤ 11 → I2 m y = I m y) (e2 : I2 (m + 2) = I (m + 2)) (eK : K2 m 10 = K m 10) : Mg false B N m I2 K2 t := ⟨h.1.mv (e 3 (by decide)) e2, by rw [e 11 (by decide)]; exact h.2.1, by rw [e 4 (by decide)]; exact h.2.2.1, by rw [e 5 (by decide)]; exact h.2.2.2.1, h.2.2.2.2.mv e eK⟩
theorem m_pile {n : Nat} (h : I m 48 = (n : Int)) (w sg : Int) : ∃ I2, gModel_pile_0 m I K w sg = (0, I2, K) ∧ I2 m 48 = ((n + 1 : Nat) : Int) ∧ I2 (m + 32) n = w ∧ (∀ y, y ≠ n → I2 (m + 32) y = I (m + 32) y) ∧ I2 (m + 33) n = sg ∧ (∀ y, y ≠ n → I2 (m + 33) y = I (m + 33) y) ∧ ∀ r y, ¬ (r = m ∧ y = 48) → r ≠ m + 32 → r ≠ m + 33 → I2 r y = I r y := by
  unfold gModel_pile_0
  simp only [gLetp]
  have e1 : q_u I (m + 32) (Int.toNat (I m 48)) w m 48 = (n : Int) := by rw [q_u_ne (by omega)]; exact h
  have e2 : q_u (q_u I (m + 32) (Int.toNat (I m 48)) w) (m + 33) (Int.toNat (q_u I (m + 32) (Int.toNat (I m 48)) w m 48)) sg m 48 = (n : Int) := by rw [q_u_ne (by omega)]; exact e1
  rw [e2, e1, h, Int.toNat_natCast]
  refine ⟨_, rfl, q_u_at, ?_, fun y hy => ?_, ?_, fun y hy => ?_, fun r y p q s => ?_⟩
  · rw [q_u_ne (by omega), q_u_ne (by omega), q_u_at]
  · rw [q_u_ne (by omega), q_u_ne (by omega), q_u_k hy]
  · rw [q_u_ne (by omega), q_u_at]
  · rw [q_u_ne (by omega), q_u_k hy, q_u_ne (by omega)]
  · rw [q_u_off p, q_u_ne s, q_u_ne q]
theorem m_step {n : Nat} (h44 : I m 44 = 4) (h45 : I m 45 = (n : Int)) (a v : Int) : ∃ I2, gModel_step_0 m I K a v = (0, I2, K) ∧ I2 m 45 = ((n + 1 : Nat) : Int) ∧ I2 (m + 30) (2800 + n) = a ∧ I2 (m + 31) (2800 + n) = v ∧ (∀ y, y ≠ 2800 + n → I2 (m + 30) y = I (m + 30) y ∧ I2 (m + 31) y = I (m + 31) y) ∧ ∀ r y, ¬ (r = m ∧ y = 45) → r ≠ m + 30 → r ≠ m + 31 → I2 r y = I r y := by
  unfold gModel_step_0
  simp only [gLetp]
  have e0 : Int.toNat (700 * I m 44 + I m 45) = 2800 + n := by rw [h44, h45]; omega
  have a4 : q_u I (m + 30) (2800 + n) a m 44 = 4 := by rw [q_u_ne (by omega)]; exact h44
  have a5 : q_u I (m + 30) (2800 + n) a m 45 = (n : Int) := by rw [q_u_ne (by omega)]; exact h45
  have e1 : Int.toNat (700 * q_u I (m + 30) (2800 + n) a m 44 + q_u I (m + 30) (2800 + n) a m 45) = 2800 + n := by rw [a4, a5]; omega
  have b5 : q_u (q_u I (m + 30) (2800 + n) a) (m + 31) (2800 + n) v m 45 = (n : Int) := by rw [q_u_ne (by omega)]; exact a5
  rw [e0, e1, b5]
  refine ⟨_, rfl, by rw [q_u_at]; omega, ?_, ?_, fun y hy => ⟨?_, ?_⟩, fun r y p q s => ?_⟩
  · rw [q_u_ne (by omega), q_u_ne (by omega), q_u_at]
  · rw [q_u_ne (by omega), q_u_at]
  · rw [q_u_ne (by omega), q_u_ne (by omega), q_u_k hy]
  · rw [q_u_ne (by omega), q_u_k hy, q_u_ne (by omega)]
  · rw [q_u_off p, q_u_ne s, q_u_ne q]
/-- one cell more -/
theorem PM.st (h : PM B N T m g gn b z S d j u c I K) (hb : b + c.length < 700) {x : Nat × Nat} {a v : Int} (ha : a = mlA B N x) (hv : v = mlN B N x) : ∃ I2, gModel_step_0 m I K a v = (0, I2, K) ∧ (Mg false B N m I2 K (tkS false B N j) ∧ I2 m 48 = (S.length : Int) ∧ pmW (I2 (m + 32)) S ∧ I2 m 47 = (d : Int) ∧ I2 m 46 = (u : Int) ∧ I2 m 49 = z ∧ pmZ (I2 (m + 33)) (mlA B N) S ∧ MD B N m g gn b I2 (x :: c)) ∧ MrF m I I2 K K := by
  obtain ⟨h1, h2, h3, h4, h5, h6, h7, h8, h9, h10, h11, k1, k2, k3, k4, k5⟩ := h
  obtain ⟨I2, s1, s2, s3, s4, s5, e⟩ := m_step (K := K) k1 k2 a v
  refine ⟨I2, s1, ⟨h1.mv (fun y hy => e m y (by omega) (by omega) (by omega)) (by funext y; exact e (m + 2) y (by omega) (by omega) (by omega)) rfl, ?_, ?_, ?_, ?_, ?_, ?_, ?_, ?_, fun y hy => ?_, ⟨?_, ?_⟩, ⟨?_, ?_⟩⟩, ⟨fun r y p q s => ?_, fun _ _ _ => rfl⟩⟩
  · rw [e m 48 (by omega) (by omega) (by omega)]; exact h3
  · rw [show I2 (m + 32) = I (m + 32) from by funext y; exact e (m + 32) y (by omega) (by omega) (by omega)]; exact h4
  · rw [e m 47 (by omega) (by omega) (by omega)]; exact h5
  · rw [e m 46 (by omega) (by omega) (by omega)]; exact h6
  · rw [e m 49 (by omega) (by omega) (by omega)]; exact h7
  · rw [show I2 (m + 33) = I (m + 33) from by funext y; exact e (m + 33) y (by omega) (by omega) (by omega)]; exact h11
  · rw [e m 44 (by omega) (by omega) (by omega)]; exact k1
  · rw [s2]; rfl
  · rw [(s5 (2800 + y) (by omega)).1, (s5 (2800 + y) (by omega)).2]; exact k3 y hy
  · show I2 (m + 30) (2800 + (b + c.length)) = _
    rw [s3, ha]
  · exact CW.mv k4 (fun y hy => (s5 (2800 + y) (by omega)).1)
  · show I2 (m + 31) (2800 + (b + c.length)) = _
    rw [s4, hv]
  · exact CW.mv k5 (fun y hy => (s5 (2800 + y) (by omega)).2)
  · by_cases r30 : r = m + 30
    · subst r30; exact (s5 y (by omega)).1
    · by_cases r31 : r = m + 31
      · subst r31; exact (s5 y (by omega)).2
      · exact e r y (by omega) r30 r31
theorem Mg.rW (h : Mg false B N m I K (tkS false B N j)) (hj : j ≤ T) {k : Nat} (hk : k < 32) : gModel_isWord_0 m I K (kwV.getD k 0) = if rdW (tkT B N T) j (k : Int) then 1 else 0 := (h.isWord hk).trans (if_iff (rdW_t hj).symm)
theorem Mg.rG (h : Mg false B N m I K (tkS false B N j)) (hj : j ≤ T) (w : Int) : gModel_is_0 m I K w = if rdG (tkT B N T) j w then 1 else 0 := (h.is w).trans (if_iff (rdG_t hj).symm)
theorem m_rank (h : Mg false B N m I K (tkS false B N j)) (hj : j ≤ T) : gModel_rankHere_0 m I K = ((rkT (tkT B N T) j : Nat) : Int) := by
  have a20 : gModel_isWord_0 m I K 6385252 = if rdW (tkT B N T) j 20 then 1 else 0 := h.rW hj (k := 20) (by decide)
  have a21 : gModel_isWord_0 m I K 28530 = if rdW (tkT B N T) j 21 then 1 else 0 := h.rW hj (k := 21) (by decide)
  unfold gModel_rankHere_0 gModel_rankHere_91 rkT
  simp only [gLetp]
  rw [a20, a21, h.rG hj 60, h.rG hj 62, h.rG hj 61, h.rG hj 43, h.rG hj 45, h.rG hj 42, h.rG hj 47]
  by_cases p1 : rdW (tkT B N T) j 20
  · rw [if_pos p1, if_pos p1, if_neg (show ¬ (1 : Int) = 0 by decide)]; rfl
  rw [if_neg p1, if_neg p1, if_pos (show (0 : Int) = 0 by decide)]
  by_cases p2 : rdW (tkT B N T) j 21
  · rw [if_pos p2, if_pos p2, if_neg (show ¬ (1 : Int) = 0 by decide)]; rfl
  rw [if_neg p2, if_neg p2, if_pos (show (0 : Int) = 0 by decide)]
  by_cases p3 : rdG (tkT B N T) j 60
  · rw [if_pos p3, if_pos (Or.inl p3), if_neg (show ¬ (1 : Int) = 0 by decide)]; rfl
  rw [if_neg p3, if_pos (show (0 : Int) = 0 by decide)]
  by_cases p4 : rdG (tkT B N T) j 62
  · rw [if_pos p4, if_pos (Or.inr (Or.inl p4)), if_neg (show ¬ (1 : Int) = 0 by decide)]; rfl
  rw [if_neg p4, if_pos (show (0 : Int) = 0 by decide)]
  by_cases p5 : rdG (tkT B N T) j 61
  · rw [if_pos p5, if_pos (Or.inr (Or.inr p5)), if_neg (show ¬ (1 : Int) = 0 by decide)]; rfl
  rw [if_neg p5, if_pos (show (0 : Int) = 0 by decide), if_neg (show ¬ (rdG (tkT B N T) j 60 ∨ rdG (tkT B N T) j 62 ∨ rdG (tkT B N T) j 61) by rintro (q | q | q); exact p3 q; exact p4 q; exact p5 q)]
  by_cases p6 : rdG (tkT B N T) j 43
  · rw [if_pos p6, if_pos (Or.inl p6), if_neg (show ¬ (1 : Int) = 0 by decide)]; rfl
  rw [if_neg p6, if_pos (show (0 : Int) = 0 by decide)]
  by_cases p7 : rdG (tkT B N T) j 45
  · rw [if_pos p7, if_pos (Or.inr p7), if_neg (show ¬ (1 : Int) = 0 by decide)]; rfl
  rw [if_neg p7, if_pos (show (0 : Int) = 0 by decide), if_neg (show ¬ (rdG (tkT B N T) j 43 ∨ rdG (tkT B N T) j 45) by rintro (q | q); exact p6 q; exact p7 q)]
  by_cases p8 : rdG (tkT B N T) j 42
  · rw [if_pos p8, if_pos (Or.inl p8), if_neg (show ¬ (1 : Int) = 0 by decide)]; rfl
  rw [if_neg p8, if_pos (show (0 : Int) = 0 by decide)]
  by_cases p9 : rdG (tkT B N T) j 47
  · rw [if_pos p9, if_pos (Or.inr p9), if_neg (show ¬ (1 : Int) = 0 by decide)]; rfl
  · rw [if_neg p9, if_pos (show (0 : Int) = 0 by decide), if_neg (show ¬ (rdG (tkT B N T) j 42 ∨ rdG (tkT B N T) j 47) by rintro (q | q); exact p8 q; exact p9 q)]; rfl
/-- the end of wordHere -/
theorem m_here210 (hu : I m 46 = (u : Int)) (h4 : I m 4 = 0) {x1 x2 x3 z0 : Int} (h3 : x3 ≠ 0) : gModel_wordHere_210 m I K x1 x2 x3 z0 = if z0 = 0 ∧ u < 100 then (x3, q_u (q_u I m 4 5) m 5 (I m 6), K) else (x3, I, K) := by
  unfold gModel_wordHere_210
  simp only [gLetp]
  rw [if_neg h3, hu]
  by_cases p : z0 = 0
  · rw [if_pos p]
    by_cases q : 100 ≤ u
    · rw [if_pos (by omega), if_neg (by omega)]
    · rw [if_neg (by omega), if_pos ⟨p, by omega⟩, gB3t (m_fails h4 5 (I m 6))]
  · rw [if_neg p, if_neg (fun q => p q.1)]
/-- the word here: is it asked for, may it be -/
theorem m_wordHere (h : PM B N T m g gn b z S d j u c I K) : ∃ r, r = (if rdA (tkT B N T) j then mlL (tkT B N T j).2.1 else 0) ∧ gModel_wordHere_0 m I K = if rdA (tkT B N T) j ∧ rdY z (tkT B N T j).2.1 = false ∧ u < 100 then (r, q_u (q_u I m 4 5) m 5 ((tkS false B N j : Nat) : Int), K) else (r, I, K) := by
  obtain ⟨h1, h2, h3, h4, h5, h6, h7, h8, h9, h10, h11, h12⟩ := h
  have hg := h1.2.2.1
  have at6 : I m 6 = ((tkS false B N j : Nat) : Int) := h1.2.2.2.2.1
  have W : ∀ k : Nat, k < 32 → gModel_isWord_0 m I K (kwV.getD k 0) = if rdW (tkT B N T) j (k : Int) then 1 else 0 := fun k hk => h1.rW h2 hk
  have a23 : gModel_isWord_0 m I K 2036687218 = if rdW (tkT B N T) j 23 then 1 else 0 := W 23 (by decide)
  have a24 : gModel_isWord_0 m I K 470020945000 = if rdW (tkT B N T) j 24 then 1 else 0 := W 24 (by decide)
  have a27 : gModel_isWord_0 m I K 33602627781095015 = if rdW (tkT B N T) j 27 then 1 else 0 := W 27 (by decide)
  have a31 : gModel_isWord_0 m I K 1835099237 = if rdW (tkT B N T) j 31 then 1 else 0 := W 31 (by decide)
  have a4 : gModel_isWord_0 m I K 495874699877 = if rdW (tkT B N T) j 4 then 1 else 0 := W 4 (by decide)
  have a25 : gModel_isWord_0 m I K 1852138852 = if rdW (tkT B N T) j 25 then 1 else 0 := W 25 (by decide)
  have a26 : gModel_isWord_0 m I K 1684109683 = if rdW (tkT B N T) j 26 then 1 else 0 := W 26 (by decide)
  have a28 : gModel_isWord_0 m I K 6383461 = if rdW (tkT B N T) j 28 then 1 else 0 := W 28 (by decide)
  have a29 : gModel_isWord_0 m I K 495555144563 = if rdW (tkT B N T) j 29 then 1 else 0 := W 29 (by decide)
  have a30 : gModel_isWord_0 m I K 108230850603124 = if rdW (tkT B N T) j 30 then 1 else 0 := W 30 (by decide)
  -- behind the four that any line may ask
  have e64 : ∀ z0 : Int, gModel_wordHere_64 m I K z0 = gModel_wordHere_78 m I K z0 (if z < 5 then 0 else 1) := fun z0 => by
    unfold gModel_wordHere_64
    rw [gLetp, h7]
    by_cases p : z < 5
    · rw [if_pos p, if_pos p]
    · rw [if_neg p, if_neg p]
  have e0 : gModel_wordHere_0 m I K = (if gModel_isWord_0 m I K 2036687218 = 0 then (if gModel_isWord_0 m I K 470020945000 = 0 then (if gModel_isWord_0 m I K 33602627781095015 = 0 then (if gModel_isWord_0 m I K 1835099237 = 0 then gModel_wordHere_78 m I K (if z = 0 then 1 else 0) (if z < 5 then 0 else 1) else (100, I, K)) else (119, I, K)) else (109, I, K)) else (121, I, K)) := by
    unfold gModel_wordHere_0
    simp only [gLetp]
    rw [e64, e64, h7]
    by_cases p : z = 0
    · rw [if_pos p, if_pos p]
    · rw [if_neg p, if_neg p]
  rw [e0]
  by_cases k1 : (tkT B N T j).1 = 1
  · have wv : ∀ k : Int, rdW (tkT B N T) j k ↔ (tkT B N T j).2.1 = k := fun k => ⟨fun q => q.2, fun q => ⟨k1, q⟩⟩
    have av : rdA (tkT B N T) j ↔ ((tkT B N T j).2.1 = 4 ∨ 23 ≤ (tkT B N T j).2.1) := ⟨fun q => q.2, fun q => ⟨k1, q⟩⟩
    have rg : (tkT B N T j).2.1 < 32 := by rw [tkT_at h2]; exact (vW_rg _).2
    by_cases p23 : (tkT B N T j).2.1 = 23
    · rw [a23, if_pos ((wv _).mpr p23), if_neg (show ¬ (1 : Int) = 0 by decide)]
      refine ⟨121, by rw [if_pos (av.mpr (by omega)), p23]; decide, ?_⟩
      rw [if_neg (fun q => absurd (show (true : Bool) = false from by have t := q.2.1; rw [p23] at t; exact t) (by decide))]
    rw [a23, if_neg (fun q => p23 ((wv _).mp q)), if_pos (show (0 : Int) = 0 by decide)]
    by_cases p24 : (tkT B N T j).2.1 = 24
    · rw [a24, if_pos ((wv _).mpr p24), if_neg (show ¬ (1 : Int) = 0 by decide)]
      refine ⟨109, by rw [if_pos (av.mpr (by omega)), p24]; decide, ?_⟩
      rw [if_neg (fun q => absurd (show (true : Bool) = false from by have t := q.2.1; rw [p24] at t; exact t) (by decide))]
    rw [a24, if_neg (fun q => p24 ((wv _).mp q)), if_pos (show (0 : Int) = 0 by decide)]
    by_cases p27 : (tkT B N T j).2.1 = 27
    · rw [a27, if_pos ((wv _).mpr p27), if_neg (show ¬ (1 : Int) = 0 by decide)]
      refine ⟨119, by rw [if_pos (av.mpr (by omega)), p27]; decide, ?_⟩
      rw [if_neg (fun q => absurd (show (true : Bool) = false from by have t := q.2.1; rw [p27] at t; exact t) (by decide))]
    rw [a27, if_neg (fun q => p27 ((wv _).mp q)), if_pos (show (0 : Int) = 0 by decide)]
    by_cases p31 : (tkT B N T j).2.1 = 31
    · rw [a31, if_pos ((wv _).mpr p31), if_neg (show ¬ (1 : Int) = 0 by decide)]
      refine ⟨100, by rw [if_pos (av.mpr (by omega)), p31]; decide, ?_⟩
      rw [if_neg (fun q => absurd (show (true : Bool) = false from by have t := q.2.1; rw [p31] at t; exact t) (by decide))]
    rw [a31, if_neg (fun q => p31 ((wv _).mp q)), if_pos (show (0 : Int) = 0 by decide)]
    unfold gModel_wordHere_78
    simp only [gLetp]
    rw [a4, a25, a26, a28, a29, a30]
    -- its letter, and whether it may be asked
    have fin : ∀ (r z0 : Int), r = mlL (tkT B N T j).2.1 → (23 ≤ (tkT B N T j).2.1 ∨ (tkT B N T j).2.1 = 4) → ((z0 = 0) ↔ rdY z (tkT B N T j).2.1 = false) → ∃ r', r' = (if rdA (tkT B N T) j then mlL (tkT B N T j).2.1 else 0) ∧ gModel_wordHere_210 m I K (if z = 0 then 1 else 0) (if z < 5 then 0 else 1) r z0 = if rdA (tkT B N T) j ∧ rdY z (tkT B N T j).2.1 = false ∧ u < 100 then (r', q_u (q_u I m 4 5) m 5 ((tkS false B N j : Nat) : Int), K) else (r', I, K) := by
      intro r z0 hr hy hz0
      refine ⟨r, by rw [if_pos (av.mpr (by omega)), hr], ?_⟩
      rw [m_here210 h6 hg (by rw [hr]; exact mlL_ne), at6]
      by_cases q : z0 = 0 ∧ u < 100
      · rw [if_pos q, if_pos ⟨av.mpr (by omega), hz0.mp q.1, q.2⟩]
      · rw [if_neg q, if_neg (fun p => q ⟨hz0.mpr p.2.1, p.2.2⟩)]
    have rt : ((if z = 0 then (1 : Int) else 0) = 0) ↔ decide (z = 0) = false := by
      by_cases p : z = 0
      · rw [if_pos p]; exact ⟨fun q => absurd q (by decide), fun q => absurd p (of_decide_eq_false q)⟩
      · rw [if_neg p]; exact ⟨fun _ => decide_eq_false p, fun _ => rfl⟩
    have kd : ((if z < 5 then (0 : Int) else 1) = 0) ↔ decide (5 ≤ z) = false := by
      by_cases p : z < 5
      · rw [if_pos p]; exact ⟨fun _ => decide_eq_false (by omega), fun _ => rfl⟩
      · rw [if_neg p]; exact ⟨fun q => absurd q (by decide), fun q => absurd (show 5 ≤ z by omega) (of_decide_eq_false q)⟩
    by_cases p4 : (tkT B N T j).2.1 = 4
    · rw [if_pos ((wv _).mpr p4), if_neg (show ¬ (1 : Int) = 0 by decide)]
      unfold gModel_wordHere_170
      rw [if_neg (show ¬ (115 : Int) = 68 by decide), if_pos (show (115 : Int) = 115 from rfl)]
      unfold gModel_wordHere_205
      exact fin 115 _ (by rw [p4]; decide) (Or.inr p4) (by unfold rdY; rw [if_pos (Or.inl p4)]; exact rt)
    rw [if_neg (fun q => p4 ((wv _).mp q)), if_pos (show (0 : Int) = 0 by decide)]
    by_cases p25 : (tkT B N T j).2.1 = 25
    · rw [if_pos ((wv _).mpr p25), if_neg (show ¬ (1 : Int) = 0 by decide)]
      unfold gModel_wordHere_170
      rw [if_neg (show ¬ (110 : Int) = 68 by decide), if_neg (show ¬ (110 : Int) = 115 by decide), if_pos (show (110 : Int) = 110 from rfl)]
      unfold gModel_wordHere_205
      exact fin 110 _ (by rw [p25]; decide) (Or.inl (by omega)) (by unfold rdY; rw [if_pos (Or.inr p25)]; exact rt)
    rw [if_neg (fun q => p25 ((wv _).mp q)), if_pos (show (0 : Int) = 0 by decide)]
    have ny : ¬ ((tkT B N T j).2.1 = 4 ∨ (tkT B N T j).2.1 = 25) := by omega
    by_cases p26 : (tkT B N T j).2.1 = 26
    · rw [if_pos ((wv _).mpr p26), if_neg (show ¬ (1 : Int) = 0 by decide)]
      unfold gModel_wordHere_170 gModel_wordHere_185
      rw [if_pos (show (68 : Int) = 68 from rfl)]
      have ey : rdY z (tkT B N T j).2.1 = decide (z = 0 ∨ 5 ≤ z) := by unfold rdY; rw [if_neg ny, if_pos p26]
      by_cases q : z = 0
      · rw [if_pos q, if_neg (show ¬ (1 : Int) = 0 by decide)]
        have f := fin 68 1 (by rw [p26]; decide) (Or.inl (by omega)) ⟨fun x => absurd x (by decide), fun x => by rw [ey] at x; exact absurd (Or.inl q) (of_decide_eq_false x)⟩
        rw [if_pos q] at f
        exact f
      · rw [if_neg q, if_pos (show (0 : Int) = 0 by decide)]
        by_cases q5 : z < 5
        · rw [if_pos q5, if_pos (show (0 : Int) = 0 by decide)]
          have f := fin 68 0 (by rw [p26]; decide) (Or.inl (by omega)) ⟨fun _ => by rw [ey]; exact decide_eq_false (by omega), fun _ => rfl⟩
          rw [if_neg q, if_pos q5] at f
          exact f
        · rw [if_neg q5, if_neg (show ¬ (1 : Int) = 0 by decide)]
          have f := fin 68 1 (by rw [p26]; decide) (Or.inl (by omega)) ⟨fun x => absurd x (by decide), fun x => by rw [ey] at x; exact absurd (Or.inr (by omega)) (of_decide_eq_false x)⟩
          rw [if_neg q, if_neg q5] at f
          exact f
    rw [if_neg (fun q => p26 ((wv _).mp q)), if_pos (show (0 : Int) = 0 by decide)]
    by_cases p28 : (tkT B N T j).2.1 = 28
    · rw [if_pos ((wv _).mpr p28), if_neg (show ¬ (1 : Int) = 0 by decide)]
      unfold gModel_wordHere_170
      rw [if_neg (show ¬ (97 : Int) = 68 by decide), if_neg (show ¬ (97 : Int) = 115 by decide), if_neg (show ¬ (97 : Int) = 110 by decide)]
      exact fin 97 _ (by rw [p28]; decide) (Or.inl (by omega)) (by unfold rdY; rw [if_neg ny, if_neg p26, if_pos (Or.inl p28)]; exact kd)
    rw [if_neg (fun q => p28 ((wv _).mp q)), if_pos (show (0 : Int) = 0 by decide)]
    by_cases p29 : (tkT B N T j).2.1 = 29
    · rw [if_pos ((wv _).mpr p29), if_neg (show ¬ (1 : Int) = 0 by decide)]
      unfold gModel_wordHere_170
      rw [if_neg (show ¬ (107 : Int) = 68 by decide), if_neg (show ¬ (107 : Int) = 115 by decide), if_neg (show ¬ (107 : Int) = 110 by decide)]
      exact fin 107 _ (by rw [p29]; decide) (Or.inl (by omega)) (by unfold rdY; rw [if_neg ny, if_neg p26, if_pos (Or.inr (Or.inl p29))]; exact kd)
    rw [if_neg (fun q => p29 ((wv _).mp q)), if_pos (show (0 : Int) = 0 by decide)]
    by_cases p30 : (tkT B N T j).2.1 = 30
    · rw [if_pos ((wv _).mpr p30), if_neg (show ¬ (1 : Int) = 0 by decide)]
      unfold gModel_wordHere_170
      rw [if_neg (show ¬ (98 : Int) = 68 by decide), if_neg (show ¬ (98 : Int) = 115 by decide), if_neg (show ¬ (98 : Int) = 110 by decide)]
      exact fin 98 _ (by rw [p30]; decide) (Or.inl (by omega)) (by unfold rdY; rw [if_neg ny, if_neg p26, if_pos (Or.inr (Or.inr p30))]; exact kd)
    rw [if_neg (fun q => p30 ((wv _).mp q)), if_pos (show (0 : Int) = 0 by decide)]
    unfold gModel_wordHere_170 gModel_wordHere_210
    rw [if_neg (show ¬ (0 : Int) = 68 by decide), if_neg (show ¬ (0 : Int) = 115 by decide), if_neg (show ¬ (0 : Int) = 110 by decide), if_pos (show (0 : Int) = 0 from rfl)]
    have na : ¬ rdA (tkT B N T) j := fun q => by have := av.mp q; omega
    exact ⟨0, (if_neg na).symm, by rw [if_neg (fun q => na q.1)]⟩
  · have nw : ∀ k : Int, ¬ rdW (tkT B N T) j k := fun k q => k1 q.1
    have na : ¬ rdA (tkT B N T) j := fun q => k1 q.1
    rw [a23, a24, a27, a31, if_neg (nw _), if_neg (nw _), if_neg (nw _), if_neg (nw _), if_pos (show (0 : Int) = 0 by decide), if_pos (show (0 : Int) = 0 by decide), if_pos (show (0 : Int) = 0 by decide), if_pos (show (0 : Int) = 0 by decide)]
    unfold gModel_wordHere_78
    simp only [gLetp]
    rw [a4, a25, a26, a28, a29, a30, if_neg (nw _), if_neg (nw _), if_neg (nw _), if_neg (nw _), if_neg (nw _), if_neg (nw _), if_pos (show (0 : Int) = 0 by decide), if_pos (show (0 : Int) = 0 by decide), if_pos (show (0 : Int) = 0 by decide), if_pos (show (0 : Int) = 0 by decide), if_pos (show (0 : Int) = 0 by decide), if_pos (show (0 : Int) = 0 by decide)]
    unfold gModel_wordHere_170 gModel_wordHere_210
    rw [if_neg (show ¬ (0 : Int) = 68 by decide), if_neg (show ¬ (0 : Int) = 115 by decide), if_neg (show ¬ (0 : Int) = 110 by decide), if_pos (show (0 : Int) = 0 from rfl)]
    exact ⟨0, (if_neg na).symm, by rw [if_neg (fun q => na q.1)]⟩
end MR
