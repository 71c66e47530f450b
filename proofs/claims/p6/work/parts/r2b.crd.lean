/-! A REFORM read by the way down: the mirror's functions are those of the mathematics. By hand. -/
/-- the TOKENS up to T by their numbers -/
def tkT (B : Nat → Int) (N T : Nat) : rdT := fun j => if j ≤ T then (tkK false B N (tkS false B N j), vW (tkW B N (tkS false B N j)), B (tkS false B N j)) else (0, 0, 0)
/-- a cell of the class's code -/
def clC (B : Nat → Int) (N : Nat) (e : Nat × Nat) : Int := if e.1 = 0 then (if tkK false B N (tkS false B N e.2) = 1 then vW (tkW B N (tkS false B N e.2)) else 64 + tkN B N (tkS false B N e.2)) else if e.1 = 1 then 21 else if e.1 = 2 then 20 else if e.1 = 3 then 22 else B (tkS false B N e.2)
/-- the cells lie from b on -/
def CW (f : Nat → Int) (cl : Nat × Nat → Int) (b : Nat) : rdC → Prop
  | [] => True
  | e :: c => f (b + c.length) = cl e ∧ CW f cl b c
theorem CW.mv {f g : Nat → Int} {cl : Nat × Nat → Int} {b : Nat} : ∀ {c : rdC}, CW f cl b c → (∀ y, y < b + c.length → g y = f y) → CW g cl b c
  | [], _, _ => trivial
  | e :: c, h, q => ⟨(q _ (by show b + c.length < b + (c.length + 1); omega)).trans h.1, CW.mv h.2 (fun y hy => q y (by show y < b + (c.length + 1); omega))⟩
/-- the class's code: older lines' below b, then this line's cells; e signs still wait for theirs -/
def CD (B : Nat → Int) (N : Nat) (g : Nat → Int) (b e : Nat) (J : gJ) (o : Nat) (c : rdC) (j : Nat) : Prop := J o 4 = ((b + c.length : Nat) : Int) ∧ b + c.length + e ≤ j ∧ (∀ y, y < b → J (o + 1) y = g y) ∧ CW (J (o + 1)) (clC B N) b c
theorem if_iff {P Q : Prop} [Decidable P] [Decidable Q] {α : Type} {a b : α} (h : P ↔ Q) : (if P then a else b) = if Q then a else b := by
  by_cases c : P
  · rw [if_pos c, if_pos (h.mp c)]
  · rw [if_neg c, if_neg (fun q => c (h.mpr q))]
section CR
variable {B : Nat → Int} {N T o x j u d : Nat} {J J2 J3 J' : gJ} {L : gL} {z s w : Int} {c : rdC} {g : Nat → Int} {b e : Nat}
theorem clC_0 : clC B N (0, j) = if tkK false B N (tkS false B N j) = 1 then vW (tkW B N (tkS false B N j)) else 64 + tkN B N (tkS false B N j) := if_pos rfl
theorem clC_1 : clC B N (1, j) = 21 := (if_neg (show ¬ (1 : Nat) = 0 by decide)).trans (if_pos rfl)
theorem clC_2 : clC B N (2, j) = 20 := (if_neg (show ¬ (2 : Nat) = 0 by decide)).trans ((if_neg (show ¬ (2 : Nat) = 1 by decide)).trans (if_pos rfl))
theorem clC_3 : clC B N (3, j) = 22 := (if_neg (show ¬ (3 : Nat) = 0 by decide)).trans ((if_neg (show ¬ (3 : Nat) = 1 by decide)).trans ((if_neg (show ¬ (3 : Nat) = 2 by decide)).trans (if_pos rfl)))
theorem clC_s {r : Nat} (h : 4 ≤ r) : clC B N (r, j) = B (tkS false B N j) := (if_neg (show ¬ r = 0 by omega)).trans ((if_neg (show ¬ r = 1 by omega)).trans ((if_neg (show ¬ r = 2 by omega)).trans (if_neg (show ¬ r = 3 by omega))))
theorem CD.mv (h : CD B N g b e J o c j) {e2 j2 : Nat} (h4 : J2 o 4 = J o 4) (hr : J2 (o + 1) = J (o + 1)) (hj : e2 + j ≤ e + j2) : CD B N g b e2 J2 o c j2 := ⟨by rw [h4]; exact h.1, by have := h.2.1; omega, by rw [hr]; exact h.2.2.1, by rw [hr]; exact h.2.2.2⟩
theorem tkT_at (h : j ≤ T) : tkT B N T j = (tkK false B N (tkS false B N j), vW (tkW B N (tkS false B N j)), B (tkS false B N j)) := if_pos h
theorem rdW_t (h : j ≤ T) : rdW (tkT B N T) j w ↔ (tkK false B N (tkS false B N j) = 1 ∧ vW (tkW B N (tkS false B N j)) = w) := by
  show ((tkT B N T j).1 = 1 ∧ (tkT B N T j).2.1 = w) ↔ _
  rw [tkT_at h]
theorem rdG_t (h : j ≤ T) : rdG (tkT B N T) j w ↔ (tkK false B N (tkS false B N j) = 4 ∧ B (tkS false B N j) = w) := by
  show ((tkT B N T j).1 = 4 ∧ (tkT B N T j).2.2 = w) ↔ _
  rw [tkT_at h]
theorem rdA_t (h : j ≤ T) : rdA (tkT B N T) j ↔ (tkK false B N (tkS false B N j) = 1 ∧ (vW (tkW B N (tkS false B N j)) = 4 ∨ 23 ≤ vW (tkW B N (tkS false B N j)))) := by
  show ((tkT B N T j).1 = 1 ∧ ((tkT B N T j).2.1 = 4 ∨ 23 ≤ (tkT B N T j).2.1)) ↔ _
  rw [tkT_at h]
theorem rdMi_t (h : j ≤ T) : rdMi (tkT B N T) j = if tkK false B N (tkS false B N j) = 5 then 1 else 2 := by
  unfold rdMi
  rw [tkT_at h]
theorem Cg.rW (h : Cg false B N T x J L j) (w : Int) : gTape_isWord_0 x J L w = if rdW (tkT B N T) j w then 1 else 0 := (h.isWord w).trans (if_iff (rdW_t h.2.1).symm)
theorem Cg.rG (h : Cg false B N T x J L j) (w : Int) : gTape_isSign_0 x J L w = if rdG (tkT B N T) j w then 1 else 0 := (h.isSign w).trans (if_iff (rdG_t h.2.1).symm)
theorem Cg.val (h : Cg false B N T x J L j) : gTape_value_0 x J L = J (x + 5) j := by
  unfold gTape_value_0
  simp only [gLetp]
  rw [h.2.2.1, Int.toNat_natCast]
theorem Cg.valW (h : Cg false B N T x J L j) (k : tkK false B N (tkS false B N j) = 1) : gTape_value_0 x J L = vW (tkW B N (tkS false B N j)) := h.val.trans (h.tok.2.2.1 k).1
/-- a sign between stands at a TOKEN ahead of the last -/
theorem rk_kind (h : rkT (tkT B N T) j ≠ 0) : j ≤ T ∧ tkK false B N (tkS false B N j) ≠ 0 ∧ tkK false B N (tkS false B N j) ≠ 5 := by
  by_cases q : j ≤ T
  · refine ⟨q, ?_⟩
    have e := tkT_at (B := B) (N := N) q
    have k1 : (tkT B N T j).1 = 1 ∨ (tkT B N T j).1 = 4 := Classical.byContradiction (fun n => h (by
      have n1 : (tkT B N T j).1 ≠ 1 := fun a => n (Or.inl a)
      have n4 : (tkT B N T j).1 ≠ 4 := fun a => n (Or.inr a)
      unfold rkT
      rw [if_neg (fun a => n1 a.1), if_neg (fun a => n1 a.1), if_neg (by rintro (a | a | a) <;> exact n4 a.1), if_neg (by rintro (a | a) <;> exact n4 a.1), if_neg (by rintro (a | a) <;> exact n4 a.1)]))
    rw [e] at k1
    have k1' : tkK false B N (tkS false B N j) = 1 ∨ tkK false B N (tkS false B N j) = 4 := k1
    omega
  · have e : tkT B N T j = (0, 0, 0) := if_neg q
    have k : (tkT B N T j).1 = 0 := by rw [e]
    exfalso
    apply h
    unfold rkT
    rw [if_neg (fun a => by have := a.1; omega), if_neg (fun a => by have := a.1; omega), if_neg (by rintro (a | a | a) <;> (have := a.1; omega)), if_neg (by rintro (a | a) <;> (have := a.1; omega)), if_neg (by rintro (a | a) <;> (have := a.1; omega))]
theorem SRd.hE (h : SRd false B N T x J L) : rkT (tkT B N T) j ≠ 0 → j < T := fun q => by
  obtain ⟨a, b, c⟩ := rk_kind q
  by_cases e : j = T
  · rw [e] at b c
    rcases h.2.2.2.2.2 with f | f
    · exact absurd f b
    · exact absurd f c
  · omega
theorem tkS_grow (h : SRd false B N T x J L) : ∀ i, i ≤ T → i ≤ tkS false B N i := by
  intro i
  induction i with
  | zero => intro _; exact Nat.zero_le _
  | succ i ih =>
    intro hi
    have a := ih (by omega)
    have k := h.2.2.2.2.1 i (by omega)
    have lt : tkS false B N i < N := Classical.byContradiction (fun q => k.1 (by unfold tkK; rw [if_pos (by omega)]))
    have b := tkE_gt (pl := false) (B := B) lt
    have c := tA_ge B N (tkE false B N (tkS false B N i))
    have e : tkS false B N (i + 1) = tA B N (tkE false B N (tkS false B N i)) := rfl
    omega
theorem SRd.TN (h : SRd false B N T x J L) : T ≤ N := Nat.le_trans (tkS_grow h T (Nat.le_refl _)) (tkS_le false B N T)
theorem SRd.mvR (h : SRd false B N T x J L) (e : ∀ r, x < r → r ≤ x + 5 → J' r = J r) (e6 : J' x 6 = J x 6) : SRd false B N T x J' L := ⟨h.1.mv e6 (e (x + 1) (by omega) (by omega)), h.2.1, h.2.2.1, fun i hi => (h.2.2.2.1 i hi).mv (by rw [e (x + 3) (by omega) (by omega)]) (by rw [e (x + 4) (by omega) (by omega)]) (by rw [e (x + 5) (by omega) (by omega)]) rfl, h.2.2.2.2⟩
/-- what a part of the reading may write: the tape's place and FAULT, the code and its length, the units -/
def RfF (o x : Nat) (J J' : gJ) : Prop := (∀ r y, ¬ (r = x ∧ (y = 7 ∨ y = 8 ∨ y = 10)) → ¬ (r = o ∧ (y = 4 ∨ y = 7)) → r ≠ o + 1 → J' r y = J r y) ∧ J x 10 ≤ J' x 10
theorem RfF.rf : RfF o x J J := ⟨fun _ _ _ _ _ => rfl, Int.le_refl _⟩
theorem RfF.tr (h : RfF o x J J2) (g : RfF o x J2 J3) : RfF o x J J3 := ⟨fun r y a b c => (g.1 r y a b c).trans (h.1 r y a b c), Int.le_trans h.2 g.2⟩
theorem CFr.rff (h : CFr x J J2) : RfF o x J J2 := ⟨fun r y a _ _ => h.1 r y a, h.2.2⟩
/-- only the code is another -/
def EmF (o : Nat) (J J' : gJ) : Prop := (∀ r y, ¬ (r = o ∧ y = 4) → r ≠ o + 1 → J' r y = J r y) ∧ J o 4 ≤ J' o 4
theorem EmF.rf : EmF o J J := ⟨fun _ _ _ _ => rfl, Int.le_refl _⟩
theorem EmF.rff (hs : o + 5 ≤ x ∨ x + 7 ≤ o) (h : EmF o J J2) : RfF o x J J2 := ⟨fun r y _ b c => h.1 r y (by omega) c, by rw [h.1 x 10 (by omega) (by omega)]; exact Int.le_refl _⟩
theorem EmF.cg (hs : o + 5 ≤ x ∨ x + 7 ≤ o) (g : EmF o J J2) (h : Cg false B N T x J L j) : Cg false B N T x J2 L j := ⟨h.1.mvR (fun r a b => by funext y; exact g.1 r y (by omega) (by omega)) (g.1 _ _ (by omega) (by omega)), h.2.1, by rw [g.1 _ _ (by omega) (by omega)]; exact h.2.2.1, by rw [g.1 _ _ (by omega) (by omega)]; exact h.2.2.2.1, by rw [g.1 _ _ (by omega) (by omega)]; exact h.2.2.2.2⟩
/-- behind a FAULT the code no longer matters -/
theorem c_emit0 (v : Int) : ∃ J', gReform_emit_0 o J L v = (0, J', L) ∧ EmF o J J' := by
  unfold gReform_emit_0
  simp only [gLetp]
  by_cases a : 700 ≤ J o 4
  · rw [if_pos a]
    exact ⟨J, rfl, EmF.rf⟩
  · rw [if_neg a]
    have e : q_u J (o + 1) (Int.toNat (J o 4)) v o 4 = J o 4 := by rw [q_u_ne (by omega)]
    rw [e]
    exact ⟨_, rfl, ⟨fun r y b c => by rw [q_u_off b, q_u_ne c], by rw [q_u_at]; omega⟩⟩
theorem c_emit (h : CD B N g b e J o c j) (hl : b + c.length < 700) {v : Int} {a : Nat × Nat} (hv : v = clC B N a) {e2 j2 : Nat} (hj : e2 + 1 + j ≤ e + j2) : ∃ J', gReform_emit_0 o J L v = (0, J', L) ∧ EmF o J J' ∧ CD B N g b e2 J' o (a :: c) j2 := by
  obtain ⟨h1, h2, h3, h4⟩ := h
  unfold gReform_emit_0
  simp only [gLetp]
  rw [h1, if_neg (by omega), Int.toNat_natCast]
  have e4 : q_u J (o + 1) (b + c.length) v o 4 = ((b + c.length : Nat) : Int) := by rw [q_u_ne (by omega)]; exact h1
  rw [e4]
  refine ⟨_, rfl, ⟨fun r y p q => by rw [q_u_off p, q_u_ne q], by rw [q_u_at, h1]; omega⟩, ?_, ?_, ?_, ?_, ?_⟩
  · rw [q_u_at]; show ((b + c.length : Nat) : Int) + 1 = ((b + (c.length + 1) : Nat) : Int); omega
  · show b + (c.length + 1) + e2 ≤ j2; omega
  · intro y hy; rw [q_u_ne (by omega), q_u_k (by omega)]; exact h3 y hy
  · rw [q_u_ne (by omega), q_u_at]; exact hv
  · exact CW.mv h4 (fun y hy => by rw [q_u_ne (by omega), q_u_k (by omega)])
/-- what a part of the reading does, against the way down -/
def cO (B : Nat → Int) (N T o x : Nat) (g : Nat → Int) (b e : Nat) (J : gJ) (L : gL) (q : Int × gJ × gL) (r : rdR) : Prop := ∃ J', q = (0, J', L) ∧ RfF o x J J' ∧ match r with
  | .inl (j', u', c') => Cg false B N T x J' L j' ∧ J' o 7 = (u' : Int) ∧ CD B N g b e J' o c' j'
  | .inr (f, p) => SRd false B N T x J' L ∧ J' x 7 = f ∧ f ≠ 0 ∧ J' x 8 = ((tkS false B N p : Nat) : Int)
def cX (B : Nat → Int) (N T o x : Nat) (g : Nat → Int) (b : Nat) (L : gL) (s : Int) (G : gJ → gL → Int → Int × gJ × gL) (X : Nat → Nat → Nat → rdC → rdR) (d : Nat) : Prop := ∀ (J : gJ) (j u e : Nat) (c : rdC), Cg false B N T x J L j → J o 7 = (u : Int) → CD B N g b e J o c j → J o 8 = s → cO B N T o x g b e J L (G J L (d : Int)) (X d j u c)
theorem cO.pre {q : Int × gJ × gL} {r : rdR} (h : cO B N T o x g b e J2 L q r) (f : RfF o x J J2) : cO B N T o x g b e J L q r := by
  obtain ⟨J', h1, h2, h3⟩ := h
  exact ⟨J', h1, f.tr h2, h3⟩
theorem cO.bind {q : Int × gJ × gL} {r : rdR} {F : Int → gJ → gL → Int × gJ × gL} {G : Nat → Nat → rdC → rdR} {e2 : Nat} (hs : o + 5 ≤ x ∨ x + 7 ≤ o) (h : cO B N T o x g b e2 J L q r) (ok : ∀ (J' : gJ) (j' u' : Nat) (c' : rdC), RfF o x J J' → Cg false B N T x J' L j' → J' o 7 = (u' : Int) → CD B N g b e2 J' o c' j' → cO B N T o x g b e J' L (F 0 J' L) (G j' u' c')) (bad : ∀ J' : gJ, SRd false B N T x J' L → J' x 7 ≠ 0 → ∃ J2, F 0 J' L = (0, J2, L) ∧ EmF o J' J2) : cO B N T o x g b e J L (gB3 q F) (rdB r G) := by
  match r, h with
  | .inl (j', u', c'), ⟨J', h1, h2, h3, h4, h5⟩ =>
    rw [gB3t h1]
    exact (ok J' j' u' c' h2 h3 h4 h5).pre h2
  | .inr (f, p), ⟨J', h1, h2, h3, h4, h5, h6⟩ =>
    obtain ⟨J2, e1, e2⟩ := bad J' h3 (by rw [h4]; exact h5)
    rw [gB3t h1, e1]
    refine ⟨J2, rfl, h2.tr (e2.rff hs), h3.mvR (fun r a b => by funext y; exact e2.1 r y (by omega) (by omega)) (e2.1 _ _ (by omega) (by omega)), ?_, h5, ?_⟩
    · rw [e2.1 _ _ (by omega) (by omega)]; exact h4
    · rw [e2.1 _ _ (by omega) (by omega)]; exact h6
theorem cO.err (h : Cg false B N T x J L j) {w f : Int} (hf : f = if tkK false B N (tkS false B N j) = 5 then 1 else w) (hw : w ≠ 0) : cO B N T o x g b e J L (gB3 (gTape_refuse_0 x J L w) (fun _ J' L' => (0, J', L'))) (.inr (f, j)) := by
  rw [gB3t (h.refuse w)]
  have fr : CFr x J (q_u (q_u J x 7 (if tkK false B N (tkS false B N j) = 5 then 1 else w)) x 8 (tkS false B N j : Nat)) := cfr78 h.2.2.2.1
  refine ⟨_, rfl, fr.rff, h.1.mv fr, ?_, ?_, q_u_at⟩
  · rw [q_u_k (by decide), q_u_at, hf]
  · rw [hf]; split
    · decide
    · exact hw
/-- a good end -/
theorem cO.ok (h : Cg false B N T x J2 L j) (f : RfF o x J J2) (hu : J2 o 7 = (u : Int)) (h4 : CD B N g b e J2 o c j) : cO B N T o x g b e J L (0, J2, L) (.inl (j, u, c)) := ⟨J2, rfl, f, h, hu, h4⟩
theorem c_isAsked (v : Int) : gReform_isAsked_0 J L v = if v = 4 ∨ 23 ≤ v then 1 else 0 := by
  unfold gReform_isAsked_0 gReform_isAsked_11
  by_cases a : v = 4
  · rw [if_pos a, if_pos (Or.inl a)]
  · rw [if_neg a]
    by_cases b : v < 23
    · rw [if_pos b, if_neg (by omega)]
    · rw [if_neg b, if_pos (by omega)]
theorem c_mayAsk (hz : (s = 0 ↔ z = 0) ∧ (6 ≤ s ↔ 5 ≤ z)) (h8 : J o 8 = s) (v : Int) : gReform_mayAsk_0 o J L v = if rdY z v = true then 1 else 0 := by
  unfold gReform_mayAsk_0 gReform_mayAsk_60 gReform_mayAsk_89 gReform_mayAsk_95 rdY
  simp only [gLetp]
  rw [h8]
  by_cases a : v = 4
  · rw [if_pos a, if_pos (Or.inl a)]
    exact if_iff (hz.1.trans decide_eq_true_iff.symm)
  rw [if_neg a]
  by_cases b : v = 25
  · rw [if_pos b, if_pos (Or.inr b)]
    exact if_iff (hz.1.trans decide_eq_true_iff.symm)
  rw [if_neg b, if_neg (show ¬ (v = 4 ∨ v = 25) by omega)]
  by_cases e : v = 26
  · rw [if_pos e, if_pos e]
    by_cases p : s = 0
    · rw [if_pos p, if_pos (decide_eq_true (Or.inl (hz.1.mp p)))]
    · rw [if_neg p]
      by_cases q : s < 6
      · rw [if_pos q, if_neg (fun t => by rcases of_decide_eq_true t with t | t; exact p (hz.1.mpr t); have := hz.2.mpr t; omega)]
      · rw [if_neg q, if_pos (decide_eq_true (Or.inr (hz.2.mp (by omega))))]
  rw [if_neg e, if_neg e]
  have tl : (if s < 6 then (0 : Int) else 1) = if decide (5 ≤ z) = true then 1 else 0 := by
    by_cases q : s < 6
    · rw [if_pos q, if_neg (fun t => by have := hz.2.mpr (of_decide_eq_true t); omega)]
    · rw [if_neg q, if_pos (decide_eq_true (hz.2.mp (by omega)))]
  by_cases f : v = 28
  · rw [if_pos f, if_pos (Or.inl f)]; exact tl
  rw [if_neg f]
  by_cases g : v = 29
  · rw [if_pos g, if_pos (Or.inr (Or.inl g))]; exact tl
  rw [if_neg g]
  by_cases i : v = 30
  · rw [if_pos i, if_pos (Or.inr (Or.inr i))]; exact tl
  rw [if_neg i, if_neg (show ¬ (v = 28 ∨ v = 29 ∨ v = 30) by omega), if_pos rfl]
/-- a UNIT -/
theorem c_unit {GE : gJ → gL → Int → Int × gJ × gL} {XE : Nat → Nat → Nat → rdC → rdR} (hs : o + 5 ≤ x ∨ x + 7 ≤ o) (hN : N ≤ 700) (hz : (s = 0 ↔ z = 0) ∧ (6 ≤ s ↔ 5 ≤ z)) (hE : d ≤ 6 → cX B N T o x g b L s GE XE (d + 1)) : cX B N T o x g b L s (gReform_readUnit_0 GE o x) (rdU (tkT B N T) z XE) d := by
  intro J j u e c h hu h4 h8
  have hj := h.2.1
  -- which of the roads
  have eA : gReform_readUnit_0 GE o x J L (d : Int) = gReform_readUnit_30 GE o x J L (d : Int) (if rdG (tkT B N T) j 40 then 1 else 0) (if rdA (tkT B N T) j then 1 else 0) := by
    unfold gReform_readUnit_0 gReform_readUnit_29
    simp only [gLetp]
    rw [h.rG 40, h.kind]
    by_cases k : tkK false B N (tkS false B N j) = 1
    · rw [if_pos k, h.valW k, c_isAsked]
      by_cases a : vW (tkW B N (tkS false B N j)) = 4 ∨ 23 ≤ vW (tkW B N (tkS false B N j))
      · rw [if_pos a, if_neg (show ¬ (1 : Int) = 0 by decide), if_pos ((rdA_t hj).mpr ⟨k, a⟩)]
      · rw [if_neg a, if_pos (show (0 : Int) = 0 by decide), if_neg (fun q => a ((rdA_t hj).mp q).2)]
    · rw [if_neg k, if_neg (fun q => k ((rdA_t hj).mp q).1)]
  rw [eA]
  unfold gReform_readUnit_30 rdU
  rw [gLetp, hu]
  by_cases a : 100 ≤ u
  · rw [if_pos a, if_pos (by omega)]
    exact cO.err h (rdMi_t hj) (by decide)
  rw [if_neg a, if_neg (by omega)]
  by_cases b4 : rdG (tkT B N T) j 40
  · have kb : tkK false B N (tkS false B N j) = 4 := ((rdG_t hj).mp b4).1
    have nA : ¬ rdA (tkT B N T) j := fun q => by have := ((rdA_t hj).mp q).1; omega
    rw [if_pos b4, if_pos b4, if_neg nA, if_neg (show ¬ (1 : Int) = 0 by decide)]
    unfold gReform_readUnit_57
    rw [if_neg (show ¬ (1 : Int) = 0 by decide)]
    by_cases dd : d ≤ 6
    · rw [if_pos dd, if_pos (by omega)]
      unfold gReform_readUnit_73 gReform_readUnit_95
      rw [if_pos (show (0 : Int) = 0 by decide), gLetp, gLetp, gLetp, if_neg (show ¬ (1 : Int) = 0 by decide), hu, show (u : Int) + 1 = ((u + 1 : Nat) : Int) from rfl]
      have h7 : Cg false B N T x (q_u J o 7 ((u + 1 : Nat) : Int)) L j := ⟨h.1.mvR (fun r p q => q_u_ne (by omega)) (by rw [q_u_ne (by omega)]), hj, by rw [q_u_ne (by omega)]; exact h.2.2.1, by rw [q_u_ne (by omega)]; exact h.2.2.2.1, by rw [q_u_ne (by omega)]; exact h.2.2.2.2⟩
      obtain ⟨s1, s2⟩ := h7.step (by omega) (by omega)
      have f1 : RfF o x J (q_u (q_u J o 7 ((u + 1 : Nat) : Int)) x 10 ((j + 1 : Nat) : Int)) := ⟨fun r y p q _ => by rw [q_u_off (by omega), q_u_off (by omega)], by rw [q_u_at, h.2.2.1]; omega⟩
      have v7 : q_u (q_u J o 7 ((u + 1 : Nat) : Int)) x 10 ((j + 1 : Nat) : Int) o 7 = ((u + 1 : Nat) : Int) := by rw [q_u_ne (by omega), q_u_at]
      have v4 : q_u (q_u J o 7 ((u + 1 : Nat) : Int)) x 10 ((j + 1 : Nat) : Int) o 4 = J o 4 := by rw [q_u_ne (by omega), q_u_k (by decide)]
      have v8 : q_u (q_u J o 7 ((u + 1 : Nat) : Int)) x 10 ((j + 1 : Nat) : Int) o 8 = J o 8 := by rw [q_u_ne (by omega), q_u_k (by decide)]
      have vr : q_u (q_u J o 7 ((u + 1 : Nat) : Int)) x 10 ((j + 1 : Nat) : Int) (o + 1) = J (o + 1) := by rw [q_u_ne (by omega), q_u_ne (by omega)]
      rw [gB3t s1]
      generalize q_u (q_u J o 7 ((u + 1 : Nat) : Int)) x 10 ((j + 1 : Nat) : Int) = J1 at s2 f1 v7 v4 v8 vr ⊢
      rw [gLetp, show (d : Int) + 1 = ((d + 1 : Nat) : Int) from rfl]
      refine (cO.bind hs (hE dd J1 (j + 1) (u + 1) e c s2 v7 (h4.mv v4 vr (by omega)) (by rw [v8]; exact h8)) (fun J2 j2 u2 c2 f2 g1 g2 g3 => ?_) (fun J2 g1 g2 => ?_)).pre f1
      · rw [gLetp, g1.rG 41]
        unfold gTape_passIf_0
        by_cases i : rdG (tkT B N T) j2 41
        · have ki : tkK false B N (tkS false B N j2) = 4 := ((rdG_t g1.2.1).mp i).1
          rw [if_pos i, if_pos i, if_neg (show ¬ (1 : Int) = 0 by decide)]
          obtain ⟨p1, p2⟩ := g1.step (by omega) (by omega)
          rw [gB3t p1, gB3p]
          dsimp only
          exact cO.ok p2 ⟨fun r y p q _ => q_u_off (by omega), by rw [q_u_at, g1.2.2.1]; omega⟩ (by rw [q_u_ne (by omega)]; exact g2) (g3.mv (by rw [q_u_ne (by omega)]) (by rw [q_u_ne (by omega)]) (by omega))
        · rw [if_neg i, if_neg i, if_pos (show (0 : Int) = 0 by decide)]
          have q := cO.err (o := o) (g := g) (b := b) (e := e) g1 (rdMi_t g1.2.1) (by decide : (2 : Int) ≠ 0)
          rw [gB3t (g1.refuse 2)] at q ⊢
          rw [gB3p]
          exact q
      · rw [gLetp, cb_isSign g2]
        unfold gTape_passIf_0
        rw [if_pos (show (0 : Int) = 0 by decide), gB3t (cb_refuse g2 2), gB3p]
        exact ⟨J2, rfl, EmF.rf⟩
    · rw [if_neg dd, if_neg (by omega)]
      exact cO.err h (rdMi_t hj) (by decide)
  rw [if_neg b4, if_neg b4, if_pos (show (0 : Int) = 0 by decide)]
  -- a word or a number is taken
  have take : ∀ {x4 : Int}, (x4 = 0 → tkK false B N (tkS false B N j) = 2) → (x4 ≠ 0 → tkK false B N (tkS false B N j) = 1) → cO B N T o x g b e J L (gReform_readUnit_95 GE o x J L (d : Int) 0 x4) (.inl (j + 1, u + 1, (0, j) :: c)) := by
    intro x4 n2 n1
    have k05 : tkK false B N (tkS false B N j) = 1 ∨ tkK false B N (tkS false B N j) = 2 := by
      by_cases y : x4 = 0
      · exact Or.inr (n2 y)
      · exact Or.inl (n1 y)
    have k0 : tkK false B N (tkS false B N j) ≠ 0 := by omega
    have k5 : tkK false B N (tkS false B N j) ≠ 5 := by omega
    unfold gReform_readUnit_95
    rw [gLetp, gLetp, gLetp, if_pos (show (0 : Int) = 0 by decide), hu, show (u : Int) + 1 = ((u + 1 : Nat) : Int) from rfl]
    have h7 : Cg false B N T x (q_u J o 7 ((u + 1 : Nat) : Int)) L j := ⟨h.1.mvR (fun r p q => q_u_ne (by omega)) (by rw [q_u_ne (by omega)]), hj, by rw [q_u_ne (by omega)]; exact h.2.2.1, by rw [q_u_ne (by omega)]; exact h.2.2.2.1, by rw [q_u_ne (by omega)]; exact h.2.2.2.2⟩
    have f1 : RfF o x J (q_u J o 7 ((u + 1 : Nat) : Int)) := ⟨fun r y p q _ => q_u_off (by omega), by rw [q_u_ne (by omega)]; exact Int.le_refl _⟩
    have v7 : q_u J o 7 ((u + 1 : Nat) : Int) o 7 = ((u + 1 : Nat) : Int) := q_u_at
    have v4 : q_u J o 7 ((u + 1 : Nat) : Int) o 4 = J o 4 := q_u_k (by decide)
    have vr : q_u J o 7 ((u + 1 : Nat) : Int) (o + 1) = J (o + 1) := q_u_ne (by omega)
    generalize q_u J o 7 ((u + 1 : Nat) : Int) = J1 at h7 f1 v7 v4 vr ⊢
    have go : ∀ v, v = clC B N (0, j) → cO B N T o x g b e J L (gB3 (gReform_emit_0 o J1 L v) (fun _ J_7 L_8 => gB3 (gTape_step_0 x J_7 L_8) (fun _ J_10 L_11 => ((0 : Int), J_10, L_11)))) (.inl (j + 1, u + 1, (0, j) :: c)) := by
      intro v hv
      have jT := h.lt k0 k5
      have TN := h.1.TN
      have hc : CD B N g b e J1 o c j := h4.mv v4 vr (Nat.le_refl _)
      obtain ⟨J2, e1, e2, e3⟩ := c_emit (L := L) hc (by have := hc.2.1; omega) hv (e2 := e) (j2 := j + 1) (by omega)
      have h2 := e2.cg hs h7
      obtain ⟨p1, p2⟩ := h2.step k0 k5
      rw [gB3t e1, gB3t p1]
      exact cO.ok p2 ((f1.tr (e2.rff hs)).tr ⟨fun r y p q _ => q_u_off (by omega), by rw [q_u_at, h2.2.2.1]; omega⟩) (by rw [q_u_ne (by omega), e2.1 _ _ (by omega) (by omega)]; exact v7) (e3.mv (by rw [q_u_ne (by omega)]) (by rw [q_u_ne (by omega)]) (Nat.le_refl _))
    by_cases y : x4 = 0
    · rw [if_pos y, gLetp, gLetp]
      exact go _ (by rw [h7.val, h7.tok.2.2.2.1 (n2 y), clC_0, if_neg (by rw [n2 y]; decide)])
    · rw [if_neg y, gLetp]
      exact go _ (by rw [h7.valW (n1 y), clC_0, if_pos (n1 y)])
  by_cases f : rdA (tkT B N T) j
  · have kf : tkK false B N (tkS false B N j) = 1 := ((rdA_t hj).mp f).1
    rw [if_pos f, if_pos f, if_neg (show ¬ (1 : Int) = 0 by decide)]
    unfold gReform_readUnit_57
    rw [if_pos (show (0 : Int) = 0 by decide)]
    unfold gReform_readUnit_73
    rw [if_neg (show ¬ (1 : Int) = 0 by decide), gLetp, gLetp, c_mayAsk hz h8, h.valW kf]
    have ew : (tkT B N T j).2.1 = vW (tkW B N (tkS false B N j)) := by rw [tkT_at hj]
    rw [ew]
    by_cases y : rdY z (vW (tkW B N (tkS false B N j))) = true
    · rw [if_pos y, if_pos y, if_neg (show ¬ (1 : Int) = 0 by decide)]
      exact take (fun q => absurd q (by decide)) (fun _ => kf)
    · rw [if_neg y, if_neg y, if_pos (show (0 : Int) = 0 by decide)]
      exact cO.err h (by rw [if_neg (by omega)]) (by decide)
  rw [if_neg f, if_neg f, if_pos (show (0 : Int) = 0 by decide), gLetp, h.isNumber]
  have en : (tkT B N T j).1 = tkK false B N (tkS false B N j) := by rw [tkT_at hj]
  rw [en]
  by_cases k2 : tkK false B N (tkS false B N j) = 2
  · rw [if_pos k2, if_pos k2, if_neg (show ¬ (1 : Int) = 0 by decide)]
    unfold gReform_readUnit_57
    rw [if_pos (show (0 : Int) = 0 by decide)]
    unfold gReform_readUnit_73
    rw [if_pos (show (0 : Int) = 0 by decide)]
    exact take (fun _ => k2) (fun q => absurd rfl q)
  · rw [if_neg k2, if_neg k2, if_pos (show (0 : Int) = 0 by decide)]
    exact cO.err h (rdMi_t hj) (by decide)
end CR
