/-! All TOKENS of a text, as the class reads them ahead. By hand. -/
/-- where the j-th TOKEN begins -/
def tkS (pl : Bool) (B : Nat → Int) (N : Nat) : Nat → Nat
  | 0 => tA B N 0
  | j + 1 => tA B N (tkE pl B N (tkS pl B N j))
theorem tkS_le (pl : Bool) (B : Nat → Int) (N : Nat) : ∀ j, tkS pl B N j ≤ N := by
  intro j
  induction j with
  | zero => exact tA_le (Nat.zero_le _)
  | succ j ih => exact tA_le (tkE_le ih)
/-- what the class holds of a text of N bytes B with T TOKENS ahead of the last -/
def SRd (pl : Bool) (B : Nat → Int) (N T o : Nat) (J : gJ) (L : gL) : Prop := CT B N o J ∧ KW o L ∧ T ≤ 1600 ∧ (∀ i, i ≤ T → TokC pl B N o J L i (tkS pl B N i)) ∧ (∀ i, i < T → tkK pl B N (tkS pl B N i) ≠ 0 ∧ tkK pl B N (tkS pl B N i) ≠ 5) ∧ (tkK pl B N (tkS pl B N T) = 0 ∨ tkK pl B N (tkS pl B N T) = 5)
section SRs
variable {pl : Bool} {B : Nat → Int} {N T o t : Nat} {J J' : gJ} {L L' : gL} {a : Nat}
theorem TokC.mv (h : TokC pl B N o J L t a) (e3 : J' (o + 3) t = J (o + 3) t) (e4 : J' (o + 4) t = J (o + 4) t) (e5 : J' (o + 5) t = J (o + 5) t) (e6 : L' (o + 6) t = L (o + 6) t) : TokC pl B N o J' L' t a := by
  unfold TokC
  rw [e3, e4, e5, e6]
  exact h
/-- what a reading of TOKENS leaves as it was -/
def RdFr (o : Nat) (J J' : gJ) (L L' : gL) : Prop := (∀ r, r ≠ o → r ≠ o + 3 → r ≠ o + 4 → r ≠ o + 5 → J' r = J r) ∧ (∀ r, r ≠ o + 6 → L' r = L r) ∧ ∀ y, y ≠ 7 → y ≠ 8 → y ≠ 9 → y ≠ 10 → J' o y = J o y
theorem RdFr.rf : RdFr o J J L L := ⟨fun _ _ _ _ _ => rfl, fun _ _ => rfl, fun _ _ _ _ _ => rfl⟩
theorem RdFr.tr {J2 : gJ} {L2 : gL} (h : RdFr o J J' L L') (g : RdFr o J' J2 L' L2) : RdFr o J J2 L L2 := ⟨fun r a b c d => (g.1 r a b c d).trans (h.1 r a b c d), fun r a => (g.2.1 r a).trans (h.2.1 r a), fun y a b c d => (g.2.2 y a b c d).trans (h.2.2 y a b c d)⟩
theorem TkFr.rd (h : TkFr o t J J' L L') : RdFr o J J' L L' := ⟨fun r a b c d => by funext y; exact h.1 r y (by omega), fun r a => by funext y; exact h.2 r y (by omega), fun y a b c d => h.1 o y (by omega)⟩
theorem c_read22 (hB : BR B) : ∀ (f t e k : Nat) (J : gJ) (L : gL) (x1 : Int), e ≤ N → t ≤ e → N - e < f → f + 1 < k → CT B N o J → KW o L → J o 9 = (if pl = true then 1 else 0) → (∀ i, i < t → TokC pl B N o J L i (tkS pl B N i) ∧ tkK pl B N (tkS pl B N i) ≠ 0 ∧ tkK pl B N (tkS pl B N i) ≠ 5) → tA B N e = tkS pl B N t → ∃ T J' L', gTape_startReading_22 k o J L x1 e 1 t = (0, J', L') ∧ SRd pl B N T o J' L' ∧ J' o 10 = 0 ∧ J' o 7 = J o 7 ∧ J' o 8 = J o 8 ∧ RdFr o J J' L L' := by
  intro f
  induction f with
  | zero => intro t e k J L x1 _ _ h; omega
  | succ f ih =>
    intro t e k J L x1 he hte hf hk hT hK h9 hi ht
    obtain ⟨k, rfl⟩ : ∃ k', k = k' + 1 := ⟨k - 1, by omega⟩
    have hN := hT.2.1
    rw [eTape_startReading_22, if_neg (by omega), if_neg (by decide)]
    obtain ⟨J2, L2, e1, tc, fr⟩ := c_cutToken (t := t) hB hT hK (pl := pl) h9 he
    rw [ht] at e1 tc
    have hle := tkS_le pl B N t
    have hgt : e ≤ tkS pl B N t := by rw [← ht]; exact tA_ge _ _ _
    have hT2 : CT B N o J2 := hT.mv (fr.1 _ _ (by omega)) (by funext y; exact fr.1 _ _ (by omega))
    have hK2 : KW o L2 := fun q hq => by rw [fr.2 _ _ (by omega)]; exact hK q hq
    have h92 : J2 o 9 = (if pl = true then 1 else 0) := by rw [fr.1 _ _ (by omega)]; exact h9
    have hi2 : ∀ i, i < t → TokC pl B N o J2 L2 i (tkS pl B N i) ∧ tkK pl B N (tkS pl B N i) ≠ 0 ∧ tkK pl B N (tkS pl B N i) ≠ 5 := fun i hit => ⟨(hi i hit).1.mv (fr.1 _ _ (by omega)) (fr.1 _ _ (by omega)) (fr.1 _ _ (by omega)) (fr.2 _ _ (by omega)), (hi i hit).2⟩
    simp only [gB3p, gLetp, e1, Int.toNat_natCast, eTape_startReading_67, eTape_startReading_68, nat1]
    rw [tc.1]
    obtain ⟨k, rfl⟩ : ∃ k', k = k' + 1 := ⟨k - 1, by omega⟩
    have stop : (tkK pl B N (tkS pl B N t) = 0 ∨ tkK pl B N (tkS pl B N t) = 5) → ∃ T J' L', gTape_startReading_22 (k + 1) o J2 L2 x1 ((tkE pl B N (tkS pl B N t) : Nat) : Int) 0 ((t + 1 : Nat) : Int) = (0, J', L') ∧ SRd pl B N T o J' L' ∧ J' o 10 = 0 ∧ J' o 7 = J o 7 ∧ J' o 8 = J o 8 ∧ RdFr o J J' L L' := by
      intro hs
      have e2 : gTape_startReading_22 (k + 1) o J2 L2 x1 ((tkE pl B N (tkS pl B N t) : Nat) : Int) 0 ((t + 1 : Nat) : Int) = (0, q_u J2 o 10 0, L2) := by
        rw [eTape_startReading_22]
        simp only [gLetp]
        by_cases c : (1601 : Int) ≤ ((t + 1 : Nat) : Int)
        · rw [if_pos c]
        · rw [if_neg c, if_pos (by decide)]
      rw [e2]
      refine ⟨t, _, _, rfl, ⟨hT2.mv (q_u_k (by decide)) (by rw [q_u_ne (by omega)]), hK2, by omega, fun i hit => ?_, fun i hit => (hi2 i hit).2, hs⟩, q_u_at, ?_, ?_, ?_⟩
      · have q : TokC pl B N o J2 L2 i (tkS pl B N i) := by
          by_cases c : i = t
          · subst c; exact tc
          · exact (hi2 i (by omega)).1
        exact q.mv (by rw [q_u_ne (by omega)]) (by rw [q_u_ne (by omega)]) (by rw [q_u_ne (by omega)]) rfl
      · rw [q_u_k (by decide)]; exact fr.1 _ _ (by omega)
      · rw [q_u_k (by decide)]; exact fr.1 _ _ (by omega)
      · exact fr.rd.tr ⟨fun r a _ _ _ => q_u_ne a, fun _ _ => rfl, fun y _ _ _ a => q_u_k a⟩
    by_cases c0 : tkK pl B N (tkS pl B N t) = 0
    · rw [if_pos c0]
      exact stop (Or.inl c0)
    · rw [if_neg c0]
      by_cases c5 : tkK pl B N (tkS pl B N t) = 5
      · rw [if_pos c5]
        exact stop (Or.inr c5)
      · rw [if_neg c5]
        have hlt : tkS pl B N t < N := by
          by_cases z : tkS pl B N t < N
          · exact z
          · exact absurd (tkK_end.mpr (by omega)) c0
        have g1 := tkE_gt (pl := pl) (B := B) hlt
        have g2 := tkE_le (pl := pl) (B := B) hle
        obtain ⟨T, J', L', q1, q2, q3, q4, q5, q6⟩ := ih (t + 1) (tkE pl B N (tkS pl B N t)) (k + 1) J2 L2 x1 g2 (by clear stop ih; omega) (by clear stop ih; omega) (by clear stop ih; omega) hT2 hK2 h92 (fun i hit => by
          by_cases c : i = t
          · subst c; exact ⟨tc, c0, c5⟩
          · exact hi2 i (by clear stop ih; omega)) rfl
        exact ⟨T, J', L', q1, q2, q3, by rw [q4]; exact fr.1 _ _ (by omega), by rw [q5]; exact fr.1 _ _ (by omega), fr.rd.tr q6⟩
theorem c_startReading (hB : BR B) (h : CT B N o J) (hK : KW o L) : ∃ T J' L', gTape_startReading_0 o J L (if pl = true then 1 else 0) = (0, J', L') ∧ SRd pl B N T o J' L' ∧ J' o 10 = 0 ∧ J' o 7 = 0 ∧ J' o 8 = -1 ∧ RdFr o J J' L L' := by
  have hN := h.2.1
  unfold gTape_startReading_0
  simp only [gLetp]
  have j9 : q_u (q_u (q_u J o 9 (if pl = true then 1 else 0)) o 7 0) o 8 (-1) o 9 = (if pl = true then 1 else 0) := by rw [q_u_k (by decide), q_u_k (by decide), q_u_at]
  have j7 : q_u (q_u (q_u J o 9 (if pl = true then 1 else 0)) o 7 0) o 8 (-1) o 7 = 0 := by rw [q_u_k (by decide), q_u_at]
  have j8 : q_u (q_u (q_u J o 9 (if pl = true then 1 else 0)) o 7 0) o 8 (-1) o 8 = -1 := q_u_at
  have jf : RdFr o J (q_u (q_u (q_u J o 9 (if pl = true then 1 else 0)) o 7 0) o 8 (-1)) L L := ⟨fun r a _ _ _ => by rw [q_u_ne a, q_u_ne a, q_u_ne a], fun _ _ => rfl, fun y a b c _ => by rw [q_u_k b, q_u_k a, q_u_k c]⟩
  generalize q_u (q_u (q_u J o 9 (if pl = true then 1 else 0)) o 7 0) o 8 (-1) = J3 at j9 j7 j8 jf ⊢
  have hT3 : CT B N o J3 := h.mv (jf.2.2 6 (by decide) (by decide) (by decide) (by decide)) (jf.1 _ (by omega) (by omega) (by omega) (by omega))
  obtain ⟨T, J', L', q1, q2, q3, q4, q5, q6⟩ := c_read22 (pl := pl) hB (N + 1) 0 0 20000 J3 L (if pl = true then 1 else 0) (Nat.zero_le _) (Nat.le_refl _) (by omega) (by omega) hT3 hK j9 (fun i hi => absurd hi (by omega)) rfl
  exact ⟨T, J', L', q1, q2, q3, by rw [q4, j7], by rw [q5, j8], jf.tr q6⟩
end SRs
