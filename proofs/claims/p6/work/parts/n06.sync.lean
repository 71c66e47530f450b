/-! Both readings side by side: the class's TOKENS read ahead, the reference's one by one. By hand. -/
def CFr (o : Nat) (J J' : gJ) : Prop := (∀ r y, ¬ (r = o ∧ (y = 7 ∨ y = 8 ∨ y = 10)) → J' r y = J r y) ∧ (J' o 7 = 0 → J o 7 = 0) ∧ J o 10 ≤ J' o 10
def MFr (m : Nat) (J J' : gJ) (L L' : gL) : Prop := (∀ r y, ¬ (r = m ∧ (y = 4 ∨ y = 5 ∨ y = 6 ∨ y = 7 ∨ y = 8 ∨ y = 9)) → J' r y = J r y) ∧ ∀ r y, ¬ (r = m ∧ y = 10) → L' r y = L r y
section SS
variable {pl : Bool} {B : Nat → Int} {N T o m : Nat} {J J2 J3 : gJ} {L L2 L3 : gL} {I I2 I3 : gJ} {K K2 K3 : gL}
theorem CFr.rf : CFr o J J := ⟨fun _ _ _ => rfl, id, Int.le_refl _⟩
theorem CFr.tr (h : CFr o J J2) (g : CFr o J2 J3) : CFr o J J3 := ⟨fun r y q => (g.1 r y q).trans (h.1 r y q), fun q => h.2.1 (g.2.1 q), Int.le_trans h.2.2 g.2.2⟩
theorem CFr.row (h : CFr o J J2) {r : Nat} (hr : r ≠ o) : J2 r = J r := by funext y; exact h.1 r y (fun q => hr q.1)
theorem MFr.rf : MFr m I I K K := ⟨fun _ _ _ => rfl, fun _ _ _ => rfl⟩
theorem MFr.tr (h : MFr m I I2 K K2) (g : MFr m I2 I3 K2 K3) : MFr m I I3 K K3 := ⟨fun r y q => (g.1 r y q).trans (h.1 r y q), fun r y q => (g.2 r y q).trans (h.2 r y q)⟩
theorem MFr.row (h : MFr m I I2 K K2) {r : Nat} (hr : r ≠ m) : I2 r = I r := by funext y; exact h.1 r y (fun q => hr q.1)
theorem MFr.rowL (h : MFr m I I2 K K2) {r : Nat} (hr : r ≠ m) : K2 r = K r := by funext y; exact h.2 r y (fun q => hr q.1)
theorem NxFr.mf (h : NxFr m I I2 K K2) : MFr m I I2 K K2 := ⟨fun r y q => h.1 r y (by omega), h.2⟩
theorem SRd.mv (h : SRd pl B N T o J L) (g : CFr o J J2) : SRd pl B N T o J2 L := ⟨h.1.mv (g.1 _ _ (by omega)) (g.row (by omega)), h.2.1, h.2.2.1, fun i hi => (h.2.2.2.1 i hi).mv (g.1 _ _ (by omega)) (g.1 _ _ (by omega)) (g.1 _ _ (by omega)) rfl, h.2.2.2.2⟩
theorem MFr.mx (g : MFr m I I2 K K2) (h : MX B N m I) : MX B N m I2 := h.mv (g.1 _ _ (by omega)) (g.row (by omega))
/-- the class reads at its TOKEN j, without a FAULT -/
def Cg (pl : Bool) (B : Nat → Int) (N T o : Nat) (J : gJ) (L : gL) (j : Nat) : Prop := SRd pl B N T o J L ∧ j ≤ T ∧ J o 10 = (j : Int) ∧ J o 7 = 0 ∧ J o 8 = -1
/-- the reference reads at the TOKEN that begins at a, without a FAULT -/
def Mg (pl : Bool) (B : Nat → Int) (N m : Nat) (I : gJ) (K : gL) (a : Nat) : Prop := MX B N m I ∧ I m 11 = (if pl = true then 0 else 1) ∧ I m 4 = 0 ∧ I m 5 = -1 ∧ TokM pl B N m I K a
/-- both at the same TOKEN, or both with the same FAULT -/
def Sg (pl : Bool) (B : Nat → Int) (N T o m : Nat) (J : gJ) (L : gL) (I : gJ) (K : gL) (j : Nat) : Prop := Cg pl B N T o J L j ∧ Mg pl B N m I K (tkS pl B N j)
def Sb (pl : Bool) (B : Nat → Int) (N T o m : Nat) (J : gJ) (L : gL) (I : gJ) : Prop := SRd pl B N T o J L ∧ MX B N m I ∧ I m 11 = (if pl = true then 0 else 1) ∧ J o 7 ≠ 0 ∧ I m 4 = J o 7 ∧ I m 5 = J o 8
def Sy (pl : Bool) (B : Nat → Int) (N T o m : Nat) (J : gJ) (L : gL) (I : gJ) (K : gL) : Prop := (∃ j, Sg pl B N T o m J L I K j) ∨ Sb pl B N T o m J L I
-- the class at a TOKEN
theorem Cg.kind {j : Nat} (h : Cg pl B N T o J L j) : gTape_kind_0 o J L = tkK pl B N (tkS pl B N j) := by
  unfold gTape_kind_0
  simp only [gLetp]
  rw [h.2.2.1, Int.toNat_natCast]
  exact (h.1.2.2.2.1 j h.2.1).1
theorem Cg.tok {j : Nat} (h : Cg pl B N T o J L j) : TokC pl B N o J L j (tkS pl B N j) := h.1.2.2.2.1 j h.2.1
theorem Cg.isWord {j : Nat} (h : Cg pl B N T o J L j) (w : Int) : gTape_isWord_0 o J L w = if tkK pl B N (tkS pl B N j) = 1 ∧ vW (tkW B N (tkS pl B N j)) = w then 1 else 0 := by
  have t := h.tok
  unfold gTape_isWord_0
  simp only [gLetp]
  rw [h.2.2.2.1, if_pos (by decide), h.2.2.1, Int.toNat_natCast, t.1]
  by_cases c : tkK pl B N (tkS pl B N j) = 1
  · rw [if_pos c, (t.2.2.1 c).1]
    by_cases c2 : vW (tkW B N (tkS pl B N j)) = w
    · rw [if_pos c2, if_pos ⟨c, c2⟩]
    · rw [if_neg c2, if_neg (fun q => c2 q.2)]
  · rw [if_neg c, if_neg (fun q => c q.1)]
theorem Cg.isSign {j : Nat} (h : Cg pl B N T o J L j) (w : Int) : gTape_isSign_0 o J L w = if tkK pl B N (tkS pl B N j) = 4 ∧ B (tkS pl B N j) = w then 1 else 0 := by
  have t := h.tok
  unfold gTape_isSign_0
  simp only [gLetp]
  rw [h.2.2.2.1, if_pos (by decide), h.2.2.1, Int.toNat_natCast, t.1]
  by_cases c : tkK pl B N (tkS pl B N j) = 4
  · rw [if_pos c, t.2.2.2.2.2 c]
    by_cases c2 : B (tkS pl B N j) = w
    · rw [if_pos c2, if_pos ⟨c, c2⟩]
    · rw [if_neg c2, if_neg (fun q => c2 q.2)]
  · rw [if_neg c, if_neg (fun q => c q.1)]
theorem Cg.isNumber {j : Nat} (h : Cg pl B N T o J L j) : gTape_isNumber_0 o J L = if tkK pl B N (tkS pl B N j) = 2 then 1 else 0 := by
  have t := h.tok
  unfold gTape_isNumber_0
  simp only [gLetp]
  rw [h.2.2.2.1, if_pos (by decide), h.2.2.1, Int.toNat_natCast, t.1]
theorem Cg.atEnd {j : Nat} (h : Cg pl B N T o J L j) : gTape_atEnd_0 o J L = if tkK pl B N (tkS pl B N j) = 0 then 1 else 0 := by
  have t := h.tok
  unfold gTape_atEnd_0
  simp only [gLetp]
  rw [h.2.2.1, Int.toNat_natCast, t.1]
theorem Cg.lt {j : Nat} (h : Cg pl B N T o J L j) (c0 : tkK pl B N (tkS pl B N j) ≠ 0) (c5 : tkK pl B N (tkS pl B N j) ≠ 5) : j < T := by
  by_cases c : j = T
  · subst c
    rcases h.1.2.2.2.2.2 with q | q
    · exact absurd q c0
    · exact absurd q c5
  · have := h.2.1; omega
theorem cfr10 {v : Int} (h : J o 10 ≤ v) : CFr o J (q_u J o 10 v) := ⟨fun r y q => q_u_off (by omega), fun q => by rwa [q_u_k (by decide)] at q, by rw [q_u_at]; exact h⟩
theorem cfr78 {v w : Int} (h : J o 7 = 0) : CFr o J (q_u (q_u J o 7 v) o 8 w) := ⟨fun r y q => by rw [q_u_off (by omega), q_u_off (by omega)], fun _ => h, by rw [q_u_k (by decide), q_u_k (by decide)]; exact Int.le_refl _⟩
theorem Cg.up {j : Nat} (h : Cg pl B N T o J L j) : J o 10 ≤ ((j + 1 : Nat) : Int) := by rw [h.2.2.1]; omega
theorem Cg.step {j : Nat} (h : Cg pl B N T o J L j) (c0 : tkK pl B N (tkS pl B N j) ≠ 0) (c5 : tkK pl B N (tkS pl B N j) ≠ 5) : gTape_step_0 o J L = (0, q_u J o 10 ((j + 1 : Nat) : Int), L) ∧ Cg pl B N T o (q_u J o 10 ((j + 1 : Nat) : Int)) L (j + 1) := by
  have t := h.tok
  have hl := h.lt c0 c5
  have hT := h.1.2.2.1
  refine ⟨?_, h.1.mv (cfr10 (h.up)), hl, q_u_at, by rw [q_u_k (by decide)]; exact h.2.2.2.1, by rw [q_u_k (by decide)]; exact h.2.2.2.2⟩
  unfold gTape_step_0
  simp only [gLetp]
  rw [h.2.2.1, Int.toNat_natCast, t.1, if_neg c0, if_neg c5, if_neg (by omega), nat1]
theorem Cg.refuse {j : Nat} (h : Cg pl B N T o J L j) (w : Int) : gTape_refuse_0 o J L w = (0, q_u (q_u J o 7 (if tkK pl B N (tkS pl B N j) = 5 then 1 else w)) o 8 (tkS pl B N j : Nat), L) := by
  have t := h.tok
  unfold gTape_refuse_0 gTape_refuse_26
  simp only [gLetp]
  rw [h.2.2.2.1, if_pos (by decide), h.2.2.1, Int.toNat_natCast, t.1]
  by_cases c : tkK pl B N (tkS pl B N j) = 5
  · rw [if_pos c, if_pos c, q_u_k (show (10 : Nat) ≠ 7 by decide), h.2.2.1, Int.toNat_natCast, q_u_ne (by omega), t.2.1]
  · rw [if_neg c, if_neg c, q_u_k (show (10 : Nat) ≠ 7 by decide), h.2.2.1, Int.toNat_natCast, q_u_ne (by omega), t.2.1]
-- the class behind a FAULT
theorem cb_refuse (h : J o 7 ≠ 0) (w : Int) : gTape_refuse_0 o J L w = (0, J, L) := by
  unfold gTape_refuse_0
  simp only [gLetp]
  rw [if_neg h]
theorem cb_isWord (h : J o 7 ≠ 0) (w : Int) : gTape_isWord_0 o J L w = 0 := by
  unfold gTape_isWord_0
  simp only [gLetp]
  rw [if_neg h]
theorem cb_isSign (h : J o 7 ≠ 0) (w : Int) : gTape_isSign_0 o J L w = 0 := by
  unfold gTape_isSign_0
  simp only [gLetp]
  rw [if_neg h]
theorem cb_isNumber (h : J o 7 ≠ 0) : gTape_isNumber_0 o J L = 0 := by
  unfold gTape_isNumber_0
  simp only [gLetp]
  rw [if_neg h]
-- the reference at a TOKEN
theorem Mg.isGood {a : Nat} (h : Mg pl B N m I K a) : gModel_isGood_0 m I K = 1 := by
  unfold gModel_isGood_0
  simp only [gLetp]
  rw [h.2.2.1, if_pos (by decide)]
theorem TokM.tk {a : Nat} (h : TokM pl B N m I K a) : I m 8 = (if tkK pl B N a = 0 then 0 else if tkK pl B N a = 5 then 1 else if tkK pl B N a = 1 then (if vW (tkW B N a) = -1 then 2 else 3) else if tkK pl B N a = 2 then 4 else if tkK pl B N a = 3 then 5 else 6) := by
  rcases h.2 with ⟨k, e⟩ | ⟨k, e⟩ | ⟨k, e, _⟩ | ⟨k, e, _⟩ | ⟨k, e, _⟩ | ⟨k, e, _⟩ <;> rw [k, e] <;> rfl
theorem TokM.c3 {a : Nat} (h : TokM pl B N m I K a) : I m 8 = 3 ↔ (tkK pl B N a = 1 ∧ ¬ vW (tkW B N a) = -1) := by
  rcases h.2 with ⟨k, e⟩ | ⟨k, e⟩ | ⟨k, e, _⟩ | ⟨k, e, _⟩ | ⟨k, e, _⟩ | ⟨k, e, _⟩ <;> rw [k, e]
  · exact ⟨fun q => absurd q (by decide), fun q => absurd q.1 (by decide)⟩
  · exact ⟨fun q => absurd q (by decide), fun q => absurd q.1 (by decide)⟩
  · by_cases z : vW (tkW B N a) = -1
    · rw [if_pos z]; exact ⟨fun q => absurd q (by decide), fun q => absurd z q.2⟩
    · rw [if_neg z]; exact ⟨fun _ => ⟨rfl, z⟩, fun _ => rfl⟩
  · exact ⟨fun q => absurd q (by decide), fun q => absurd q.1 (by decide)⟩
  · exact ⟨fun q => absurd q (by decide), fun q => absurd q.1 (by decide)⟩
  · exact ⟨fun q => absurd q (by decide), fun q => absurd q.1 (by decide)⟩
theorem TokM.c2 {a : Nat} (h : TokM pl B N m I K a) : I m 8 = 2 ↔ (tkK pl B N a = 1 ∧ vW (tkW B N a) = -1) := by
  rcases h.2 with ⟨k, e⟩ | ⟨k, e⟩ | ⟨k, e, _⟩ | ⟨k, e, _⟩ | ⟨k, e, _⟩ | ⟨k, e, _⟩ <;> rw [k, e]
  · exact ⟨fun q => absurd q (by decide), fun q => absurd q.1 (by decide)⟩
  · exact ⟨fun q => absurd q (by decide), fun q => absurd q.1 (by decide)⟩
  · by_cases z : vW (tkW B N a) = -1
    · rw [if_pos z]; exact ⟨fun _ => ⟨rfl, z⟩, fun _ => rfl⟩
    · rw [if_neg z]; exact ⟨fun q => absurd q (by decide), fun q => absurd q.2 z⟩
  · exact ⟨fun q => absurd q (by decide), fun q => absurd q.1 (by decide)⟩
  · exact ⟨fun q => absurd q (by decide), fun q => absurd q.1 (by decide)⟩
  · exact ⟨fun q => absurd q (by decide), fun q => absurd q.1 (by decide)⟩
theorem TokM.c0 {a : Nat} (h : TokM pl B N m I K a) : I m 8 = 0 ↔ tkK pl B N a = 0 := by
  rcases h.2 with ⟨k, e⟩ | ⟨k, e⟩ | ⟨k, e, _⟩ | ⟨k, e, _⟩ | ⟨k, e, _⟩ | ⟨k, e, _⟩ <;> rw [k, e]
  · exact ⟨fun q => absurd q (by decide), fun q => absurd q (by decide)⟩
  · refine ⟨fun q => ?_, fun q => absurd q (by decide)⟩
    split at q <;> exact absurd q (by decide)
  · exact ⟨fun q => absurd q (by decide), fun q => absurd q (by decide)⟩
  · exact ⟨fun q => absurd q (by decide), fun q => absurd q (by decide)⟩
  · exact ⟨fun q => absurd q (by decide), fun q => absurd q (by decide)⟩
theorem TokM.c1 {a : Nat} (h : TokM pl B N m I K a) : I m 8 = 1 ↔ tkK pl B N a = 5 := by
  rcases h.2 with ⟨k, e⟩ | ⟨k, e⟩ | ⟨k, e, _⟩ | ⟨k, e, _⟩ | ⟨k, e, _⟩ | ⟨k, e, _⟩ <;> rw [k, e]
  · exact ⟨fun q => absurd q (by decide), fun q => absurd q (by decide)⟩
  · exact ⟨fun _ => rfl, fun _ => rfl⟩
  · refine ⟨fun q => ?_, fun q => absurd q (by decide)⟩
    split at q <;> exact absurd q (by decide)
  · exact ⟨fun q => absurd q (by decide), fun q => absurd q (by decide)⟩
  · exact ⟨fun q => absurd q (by decide), fun q => absurd q (by decide)⟩
  · exact ⟨fun q => absurd q (by decide), fun q => absurd q (by decide)⟩
theorem TokM.c4 {a : Nat} (h : TokM pl B N m I K a) : I m 8 = 4 ↔ tkK pl B N a = 2 := by
  rcases h.2 with ⟨k, e⟩ | ⟨k, e⟩ | ⟨k, e, _⟩ | ⟨k, e, _⟩ | ⟨k, e, _⟩ | ⟨k, e, _⟩ <;> rw [k, e]
  · exact ⟨fun q => absurd q (by decide), fun q => absurd q (by decide)⟩
  · exact ⟨fun q => absurd q (by decide), fun q => absurd q (by decide)⟩
  · refine ⟨fun q => ?_, fun q => absurd q (by decide)⟩
    split at q <;> exact absurd q (by decide)
  · exact ⟨fun _ => rfl, fun _ => rfl⟩
  · exact ⟨fun q => absurd q (by decide), fun q => absurd q (by decide)⟩
  · exact ⟨fun q => absurd q (by decide), fun q => absurd q (by decide)⟩
theorem TokM.c5 {a : Nat} (h : TokM pl B N m I K a) : I m 8 = 5 ↔ tkK pl B N a = 3 := by
  rcases h.2 with ⟨k, e⟩ | ⟨k, e⟩ | ⟨k, e, _⟩ | ⟨k, e, _⟩ | ⟨k, e, _⟩ | ⟨k, e, _⟩ <;> rw [k, e]
  · exact ⟨fun q => absurd q (by decide), fun q => absurd q (by decide)⟩
  · exact ⟨fun q => absurd q (by decide), fun q => absurd q (by decide)⟩
  · refine ⟨fun q => ?_, fun q => absurd q (by decide)⟩
    split at q <;> exact absurd q (by decide)
  · exact ⟨fun q => absurd q (by decide), fun q => absurd q (by decide)⟩
  · exact ⟨fun _ => rfl, fun _ => rfl⟩
  · exact ⟨fun q => absurd q (by decide), fun q => absurd q (by decide)⟩
theorem TokM.c6 {a : Nat} (h : TokM pl B N m I K a) : I m 8 = 6 ↔ tkK pl B N a = 4 := by
  rcases h.2 with ⟨k, e⟩ | ⟨k, e⟩ | ⟨k, e, _⟩ | ⟨k, e, _⟩ | ⟨k, e, _⟩ | ⟨k, e, _⟩ <;> rw [k, e]
  · exact ⟨fun q => absurd q (by decide), fun q => absurd q (by decide)⟩
  · exact ⟨fun q => absurd q (by decide), fun q => absurd q (by decide)⟩
  · refine ⟨fun q => ?_, fun q => absurd q (by decide)⟩
    split at q <;> exact absurd q (by decide)
  · exact ⟨fun q => absurd q (by decide), fun q => absurd q (by decide)⟩
  · exact ⟨fun q => absurd q (by decide), fun q => absurd q (by decide)⟩
  · exact ⟨fun _ => rfl, fun _ => rfl⟩
theorem TokM.nm {a : Nat} (h : TokM pl B N m I K a) (c : tkK pl B N a = 1) : K m 10 = c256 (tkW B N a) := by
  rcases h.2 with ⟨k, e⟩ | ⟨k, e⟩ | ⟨k, e, q, _⟩ | ⟨k, e, _⟩ | ⟨k, e, _⟩ | ⟨k, e, _⟩
  · rw [k] at c; exact absurd c (by decide)
  · rw [k] at c; exact absurd c (by decide)
  · exact q
  · rw [k] at c; exact absurd c (by decide)
  · rw [k] at c; exact absurd c (by decide)
  · rw [k] at c; exact absurd c (by decide)
theorem TokM.num {a : Nat} (h : TokM pl B N m I K a) (c : tkK pl B N a = 2) : I m 9 = tkN B N a := by
  rcases h.2 with ⟨k, e⟩ | ⟨k, e⟩ | ⟨k, e, q, _⟩ | ⟨k, e, q, _⟩ | ⟨k, e, _⟩ | ⟨k, e, _⟩
  · rw [k] at c; exact absurd c (by decide)
  · rw [k] at c; exact absurd c (by decide)
  · rw [k] at c; exact absurd c (by decide)
  · exact q
  · rw [k] at c; exact absurd c (by decide)
  · rw [k] at c; exact absurd c (by decide)
theorem TokM.pt {a : Nat} (h : TokM pl B N m I K a) (c : tkK pl B N a = 3) : I m 9 = ptV B N (a + 1) := by
  rcases h.2 with ⟨k, e⟩ | ⟨k, e⟩ | ⟨k, e, q, _⟩ | ⟨k, e, q, _⟩ | ⟨k, e, q, _⟩ | ⟨k, e, _⟩
  · rw [k] at c; exact absurd c (by decide)
  · rw [k] at c; exact absurd c (by decide)
  · rw [k] at c; exact absurd c (by decide)
  · rw [k] at c; exact absurd c (by decide)
  · exact q
  · rw [k] at c; exact absurd c (by decide)
theorem TokM.en {a : Nat} (h : TokM pl B N m I K a) (c0 : tkK pl B N a ≠ 0) (c5 : tkK pl B N a ≠ 5) : I m 7 = (tkE pl B N a : Nat) := by
  rcases h.2 with ⟨k, e⟩ | ⟨k, e⟩ | ⟨k, e, q, w⟩ | ⟨k, e, q, w⟩ | ⟨k, e, q, w⟩ | ⟨k, e, w⟩
  · exact absurd k c0
  · exact absurd k c5
  all_goals exact w
theorem kwLen {a : Nat} (c : tkK pl B N a = 1) : ltrs (tkW B N a) := by
  apply tkW_ltrs
  unfold tkK at c
  split at c
  · exact absurd c (by decide)
  · split at c
    · split at c
      · exact absurd c (by decide)
      · split at c
        · assumption
        · exact absurd c (by decide)
    · split at c
      · split at c <;> exact absurd c (by decide)
      · split at c <;> exact absurd c (by decide)
theorem Mg.isWord {a : Nat} (h : Mg pl B N m I K a) {k : Nat} (hk : k < 32) : gModel_isWord_0 m I K (kwV.getD k 0) = if tkK pl B N a = 1 ∧ vW (tkW B N a) = (k : Int) then 1 else 0 := by
  have t := h.2.2.2.2
  unfold gModel_isWord_0
  simp only [gLetp]
  by_cases c : I m 8 = 3
  · obtain ⟨c1, cv⟩ := t.c3.mp c
    rw [if_pos c, t.nm c1]
    by_cases ck : vW (tkW B N a) = (k : Int)
    · rw [if_pos (show tkK pl B N a = 1 ∧ vW (tkW B N a) = (k : Int) from ⟨c1, ck⟩), if_pos]
      rw [lg_eq, ← kw_256 k hk, (vW_iff hk).mp ck]
    · rw [if_neg (show ¬ (tkK pl B N a = 1 ∧ vW (tkW B N a) = (k : Int)) from fun q => ck q.2), if_neg]
      intro q
      rw [lg_eq, ← kw_256 k hk] at q
      exact ck ((vW_iff hk).mpr (((c256_inj (kwLen c1) (kw_ltrs k hk)).mp q).symm))
  · rw [if_neg c, if_neg (show ¬ (tkK pl B N a = 1 ∧ vW (tkW B N a) = (k : Int)) from ?_)]
    rintro ⟨q1, q2⟩
    exact c (t.c3.mpr ⟨q1, by omega⟩)
theorem Mg.is {a : Nat} (h : Mg pl B N m I K a) (w : Int) : gModel_is_0 m I K w = if tkK pl B N a = 4 ∧ B a = w then 1 else 0 := by
  have t := h.2.2.2.2
  unfold gModel_is_0
  simp only [gLetp]
  by_cases c : I m 8 = 6
  · have c1 := t.c6.mp c
    have hlt : a < N := by
      by_cases z : a < N
      · exact z
      · rw [tkK_end.mpr (by omega)] at c1; exact absurd c1 (by decide)
    have hb : bN B N a = B a := if_pos hlt
    rw [if_pos c, t.1, m_sign h.1, hb]
    by_cases c2 : B a = w
    · rw [if_pos c2, if_pos ⟨c1, c2⟩]
    · rw [if_neg c2, if_neg (fun q => c2 q.2)]
  · rw [if_neg c, if_neg (show ¬ (tkK pl B N a = 4 ∧ B a = w) from fun q => c (t.c6.mpr q.1))]
theorem Mg.next (hB : BR B) {a : Nat} (ha : a ≤ N) (h : Mg pl B N m I K a) (c0 : tkK pl B N a ≠ 0) (c5 : tkK pl B N a ≠ 5) : ∃ I2 K2, gModel_next_0 m I K = (0, I2, K2) ∧ Mg pl B N m I2 K2 (tA B N (tkE pl B N a)) ∧ NxFr m I I2 K K2 := by
  obtain ⟨I2, K2, e1, e2, e3⟩ := m_next (L := K) hB h.1 h.2.1 (tkE_le (pl := pl) (B := B) ha) (h.2.2.2.2.en c0 c5)
  exact ⟨I2, K2, e1, ⟨e3.mx h.1, by rw [e3.1 _ _ (by omega)]; exact h.2.1, by rw [e3.1 _ _ (by omega)]; exact h.2.2.1, by rw [e3.1 _ _ (by omega)]; exact h.2.2.2.1, e2⟩, e3⟩
theorem m_fails (h : I m 4 = 0) (f p : Int) : gModel_fails_0 m I K f p = (0, q_u (q_u I m 4 f) m 5 p, K) := by
  unfold gModel_fails_0
  simp only [gLetp]
  rw [h, if_pos (by decide)]
theorem mb_fails (h : 0 < I m 4) (f p : Int) : gModel_fails_0 m I K f p = (0, I, K) := by
  unfold gModel_fails_0
  simp only [gLetp]
  rw [if_neg (by omega)]
theorem Mg.wrong {a : Nat} (h : Mg pl B N m I K a) : gModel_wrong_0 m I K = (0, q_u (q_u I m 4 (if tkK pl B N a = 5 then 1 else 2)) m 5 (a : Nat), K) := by
  have t := h.2.2.2.2
  unfold gModel_wrong_0
  simp only [gLetp, gB3p]
  by_cases c : tkK pl B N a = 5
  · rw [if_pos (t.c1.mpr c), if_pos c, t.1, m_fails h.2.2.1]
  · rw [if_neg (fun q => c (t.c1.mp q)), if_neg c, t.1, m_fails h.2.2.1]
theorem mb_isGood (h : I m 4 ≠ 0) : gModel_isGood_0 m I K = 0 := by
  unfold gModel_isGood_0
  simp only [gLetp]
  rw [if_neg h]
theorem mb_must (h : I m 4 ≠ 0) (x : Int) : gModel_must_0 m I K x = (0, I, K) := by
  unfold gModel_must_0
  simp only [gLetp]
  rw [mb_isGood h, if_pos (by decide)]
theorem mfr45 {v w : Int} : MFr m I (q_u (q_u I m 4 v) m 5 w) K K := ⟨fun r y q => by rw [q_u_off (by omega), q_u_off (by omega)], fun _ _ _ => rfl⟩
/-- both tell the same FAULT at the TOKEN -/
theorem Sg.fail {j : Nat} (h : Sg pl B N T o m J L I K j) {f : Int} (hf : f ≠ 0) : Sb pl B N T o m (q_u (q_u J o 7 f) o 8 (tkS pl B N j : Nat)) L (q_u (q_u I m 4 f) m 5 (tkS pl B N j : Nat)) :=
  ⟨h.1.1.mv (cfr78 h.1.2.2.2.1), (mfr45 (K := K)).mx h.2.1, by rw [q_u_k (by decide), q_u_k (by decide)]; exact h.2.2.1, by rw [q_u_k (by decide), q_u_at]; exact hf, by rw [q_u_k (by decide), q_u_at, q_u_k (by decide), q_u_at], by rw [q_u_at, q_u_at]⟩
/-- what a TOKEN must be, in both: they go on, or tell it -/
theorem Sy.pass (hB : BR B) (h : Sy pl B N T o m J L I K) {fits is : Int} (hg : ∀ j, Sg pl B N T o m J L I K j → (fits = 0 ↔ is = 0) ∧ (fits ≠ 0 → tkK pl B N (tkS pl B N j) ≠ 0 ∧ tkK pl B N (tkS pl B N j) ≠ 5)) (hb : Sb pl B N T o m J L I → fits = 0) : ∃ J2 I2 K2, gTape_passIf_0 o J L fits = (0, J2, L) ∧ gModel_must_0 m I K is = (0, I2, K2) ∧ Sy pl B N T o m J2 L I2 K2 ∧ CFr o J J2 ∧ MFr m I I2 K K2 ∧ (J2 o 7 = 0 → J o 10 + 1 ≤ J2 o 10) := by
  unfold gTape_passIf_0
  simp only [gB3p]
  rcases h with ⟨j, h⟩ | h
  · obtain ⟨h1, h2⟩ := hg j h
    unfold gModel_must_0
    simp only [gLetp, gB3p]
    rw [h.2.isGood, if_neg (show ¬ (1 : Int) = 0 by decide)]
    by_cases c : fits = 0
    · rw [if_pos c, if_pos (h1.mp c), h.1.refuse, h.2.wrong]
      exact ⟨_, _, _, rfl, rfl, Or.inr (h.fail (by split <;> decide)), cfr78 h.1.2.2.2.1, mfr45, fun q => absurd q (h.fail (f := if tkK pl B N (tkS pl B N j) = 5 then 1 else 2) (by split <;> decide)).2.2.2.1⟩
    · obtain ⟨c0, c5⟩ := h2 c
      obtain ⟨s1, s2⟩ := h.1.step c0 c5
      obtain ⟨I2, K2, n1, n2, n3⟩ := h.2.next hB (tkS_le pl B N j) c0 c5
      rw [if_neg c, if_neg (fun q => c (h1.mpr q)), s1, n1]
      exact ⟨_, _, _, rfl, rfl, Or.inl ⟨j + 1, s2, n2⟩, cfr10 h.1.up, n3.mf, fun _ => by dsimp only; rw [q_u_at, h.1.2.2.1]; omega⟩
  · rw [if_pos (hb h), cb_refuse h.2.2.2.1, mb_must (by rw [h.2.2.2.2.1]; exact h.2.2.2.1)]
    exact ⟨_, _, _, rfl, rfl, Or.inr h, CFr.rf, MFr.rf, fun q => absurd q h.2.2.2.1⟩
theorem Sy.word (hB : BR B) (h : Sy pl B N T o m J L I K) {k : Nat} (hk : k < 32) {w : Int} (hw : w = (k : Int)) {W : Int64} (hW : W = kwV.getD k 0) : ∃ J2 I2 K2, gTape_passIf_0 o J L (gTape_isWord_0 o J L w) = (0, J2, L) ∧ gModel_must_0 m I K (gModel_isWord_0 m I K W) = (0, I2, K2) ∧ Sy pl B N T o m J2 L I2 K2 ∧ CFr o J J2 ∧ MFr m I I2 K K2 ∧ (J2 o 7 = 0 → J o 10 + 1 ≤ J2 o 10) := by
  subst hw; subst hW
  refine h.pass hB (fun j g => ?_) (fun g => cb_isWord g.2.2.2.1 _)
  rw [g.1.isWord, g.2.isWord hk]
  refine ⟨Iff.rfl, fun q => ?_⟩
  split at q
  · next c => rw [c.1]; decide
  · exact absurd rfl q
theorem Sy.sign (hB : BR B) (h : Sy pl B N T o m J L I K) (w : Int) : ∃ J2 I2 K2, gTape_passIf_0 o J L (gTape_isSign_0 o J L w) = (0, J2, L) ∧ gModel_must_0 m I K (gModel_is_0 m I K w) = (0, I2, K2) ∧ Sy pl B N T o m J2 L I2 K2 ∧ CFr o J J2 ∧ MFr m I I2 K K2 ∧ (J2 o 7 = 0 → J o 10 + 1 ≤ J2 o 10) := by
  refine h.pass hB (fun j g => ?_) (fun g => cb_isSign g.2.2.2.1 _)
  rw [g.1.isSign, g.2.is]
  refine ⟨Iff.rfl, fun q => ?_⟩
  split at q
  · next c => rw [c.1]; decide
  · exact absurd rfl q
/-- a FAULT there is, or there is none, in both -/
theorem Sy.good (h : Sy pl B N T o m J L I K) : (J o 7 = 0 ↔ I m 4 = 0) := by
  rcases h with ⟨j, h⟩ | h
  · exact ⟨fun _ => h.2.2.2.1, fun _ => h.1.2.2.2.1⟩
  · rw [h.2.2.2.2.1]
theorem Sy.gd (h : Sy pl B N T o m J L I K) (c : J o 7 = 0) : ∃ j, Sg pl B N T o m J L I K j := by
  rcases h with h | h
  · exact h
  · exact absurd c h.2.2.2.1
theorem Sy.bd (h : Sy pl B N T o m J L I K) (c : J o 7 ≠ 0) : Sb pl B N T o m J L I := by
  rcases h with ⟨j, h⟩ | h
  · exact absurd h.1.2.2.2.1 c
  · exact h
end SS
