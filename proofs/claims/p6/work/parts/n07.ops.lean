/-! Numbers, places, ends of lines, in both. By hand. -/
section SO
variable {pl : Bool} {B : Nat → Int} {N T o m : Nat} {J J2 J3 : gJ} {L L2 L3 : gL} {I I2 I3 : gJ} {K K2 K3 : gL}
/-- closeLine and must(is(';')) -/
theorem Sy.close (hB : BR B) (h : Sy pl B N T o m J L I K) : ∃ J2 I2 K2, gTape_closeLine_0 o J L = ((if J2 o 7 = 0 then 1 else 0), J2, L) ∧ gModel_must_0 m I K (gModel_is_0 m I K 59) = (0, I2, K2) ∧ Sy pl B N T o m J2 L I2 K2 ∧ CFr o J J2 ∧ MFr m I I2 K K2 ∧ (J2 o 7 = 0 → J o 10 + 1 ≤ J2 o 10) := by
  obtain ⟨J2, I2, K2, e1, e2, e3, e4, e5, e6⟩ := h.sign hB 59
  refine ⟨J2, I2, K2, ?_, e2, e3, e4, e5, e6⟩
  unfold gTape_closeLine_0
  simp only [gLetp, gB3p, e1]
  by_cases c : J2 o 7 = 0
  · rw [if_pos c, if_pos c]
  · rw [if_neg c, if_neg c]
theorem Cg.valN {j : Nat} (h : Cg pl B N T o J L j) (c : tkK pl B N (tkS pl B N j) = 2) : J (o + 5) (Int.toNat (J o 10)) = tkN B N (tkS pl B N j) := by
  rw [h.2.2.1, Int.toNat_natCast]
  exact h.tok.2.2.2.1 c
theorem Cg.valP {j : Nat} (h : Cg pl B N T o J L j) (c : tkK pl B N (tkS pl B N j) = 3) : J (o + 5) (Int.toNat (J o 10)) = ptV B N (tkS pl B N j + 1) := by
  rw [h.2.2.1, Int.toNat_natCast]
  exact h.tok.2.2.2.2.1 c
/-- a number is asked for -/
theorem Sy.num (hB : BR B) (h : Sy pl B N T o m J L I K) (lo hi : Int) : ∃ r J2 r' I2 K2, gTape_takeNumber_0 o J L lo hi = (r, J2, L) ∧ gModel_numeral_0 m I K lo hi = (r', I2, K2) ∧ Sy pl B N T o m J2 L I2 K2 ∧ CFr o J J2 ∧ MFr m I I2 K K2 ∧ (J2 o 7 = 0 → r' = r ∧ lo ≤ r ∧ r ≤ hi) ∧ (J2 o 7 ≠ 0 → r = -1) := by
  unfold gTape_takeNumber_0 gTape_takeNumber_35 gModel_numeral_0
  simp only [gLetp, gB3p]
  rcases h with ⟨j, h⟩ | h
  · have t := h.2.2.2.2.2
    rw [h.1.isNumber, h.2.isGood, if_neg (show ¬ (1 : Int) = 0 by decide)]
    by_cases c : tkK pl B N (tkS pl B N j) = 2
    · have c0 : tkK pl B N (tkS pl B N j) ≠ 0 := by rw [c]; decide
      have c5 : tkK pl B N (tkS pl B N j) ≠ 5 := by rw [c]; decide
      have c1 : tkK pl B N (tkS pl B N j) ≠ 1 := by rw [c]; decide
      rw [if_pos c, if_neg (show ¬ (1 : Int) = 0 by decide), h.1.valN c, if_pos (t.c4.mpr c)]
      unfold gModel_numeral_21
      simp only [gLetp]
      rw [h.2.isGood, if_neg (show ¬ (1 : Int) = 0 by decide), t.num c]
      have go : ¬ (tkN B N (tkS pl B N j) < lo) → tkN B N (tkS pl B N j) ≤ hi → ∃ r J2 r' I2 K2, ((tkN B N (tkS pl B N j), (gTape_step_0 o J L).2.1, (gTape_step_0 o J L).2.2) : Int × gJ × gL) = (r, J2, L) ∧ gModel_numeral_53 m I K lo hi = (r', I2, K2) ∧ Sy pl B N T o m J2 L I2 K2 ∧ CFr o J J2 ∧ MFr m I I2 K K2 ∧ (J2 o 7 = 0 → r' = r ∧ lo ≤ r ∧ r ≤ hi) ∧ (J2 o 7 ≠ 0 → r = -1) := by
        intro q1 q2
        obtain ⟨s1, s2⟩ := h.1.step c0 c5
        obtain ⟨I2, K2, n1, n2, n3⟩ := h.2.next hB (tkS_le pl B N j) c0 c5
        refine ⟨_, _, _, I2, K2, by rw [s1], ?_, Or.inl ⟨j + 1, s2, n2⟩, cfr10 h.1.up, n3.mf, fun _ => ⟨rfl, by omega, q2⟩, fun q => absurd s2.2.2.2.1 q⟩
        unfold gModel_numeral_53 gModel_numeral_69
        simp only [gLetp, gB3p]
        rw [h.2.isGood, if_neg (show ¬ (1 : Int) = 0 by decide), n1, n2.isGood, if_neg (show ¬ (1 : Int) = 0 by decide), t.num c]
      have bad : ∃ r J2 r' I2 K2, (((-1), (gTape_refuse_0 o J L 4).2.1, (gTape_refuse_0 o J L 4).2.2) : Int × gJ × gL) = (r, J2, L) ∧ gModel_numeral_44 m I K lo hi = (r', I2, K2) ∧ Sy pl B N T o m J2 L I2 K2 ∧ CFr o J J2 ∧ MFr m I I2 K K2 ∧ (J2 o 7 = 0 → r' = r ∧ lo ≤ r ∧ r ≤ hi) ∧ (J2 o 7 ≠ 0 → r = -1) := by
        have e4 : (if tkK pl B N (tkS pl B N j) = 5 then (1 : Int) else 4) = 4 := if_neg c5
        have hf := h.fail (f := 4) (by decide)
        refine ⟨-1, _, lo, _, _, by rw [h.1.refuse, e4], ?_, Or.inr hf, cfr78 h.1.2.2.2.1, mfr45, fun q => absurd q hf.2.2.2.1, fun _ => rfl⟩
        unfold gModel_numeral_44 gModel_numeral_53 gModel_numeral_69
        simp only [gLetp, gB3p]
        rw [t.1, m_fails h.2.2.2.1]
        have g0 : gModel_isGood_0 m (q_u (q_u I m 4 4) m 5 ((tkS pl B N j : Nat) : Int)) K = 0 := mb_isGood (by rw [q_u_k (by decide), q_u_at]; decide)
        rw [g0, if_pos (show (0 : Int) = 0 by decide), if_pos (by decide)]
      by_cases q1 : tkN B N (tkS pl B N j) < lo
      · rw [if_pos q1, if_pos q1]
        exact bad
      · rw [if_neg q1, if_neg q1]
        by_cases q2 : tkN B N (tkS pl B N j) ≤ hi
        · rw [if_pos q2, if_pos q2]
          exact go q1 q2
        · rw [if_neg q2, if_neg q2]
          exact bad
    · rw [if_neg c, if_pos (show (0 : Int) = 0 by decide), h.1.refuse, if_neg (show ¬ I m 8 = 4 from fun q => c (t.c4.mp q)), h.2.wrong]
      have hf := h.fail (f := if tkK pl B N (tkS pl B N j) = 5 then 1 else 2) (by split <;> decide)
      refine ⟨-1, _, lo, _, _, rfl, ?_, Or.inr hf, cfr78 h.1.2.2.2.1, mfr45, fun q => absurd q hf.2.2.2.1, fun _ => rfl⟩
      unfold gModel_numeral_21 gModel_numeral_53 gModel_numeral_69
      simp only [gLetp, gB3p]
      have g0 : gModel_isGood_0 m (q_u (q_u I m 4 (if tkK pl B N (tkS pl B N j) = 5 then 1 else 2)) m 5 ((tkS pl B N j : Nat) : Int)) K = 0 := mb_isGood (by rw [q_u_k (by decide), q_u_at]; split <;> decide)
      rw [g0, if_pos (show (0 : Int) = 0 by decide), if_pos (by decide), if_pos (by decide)]
  · rw [cb_isNumber h.2.2.2.1, if_pos (show (0 : Int) = 0 by decide), cb_refuse h.2.2.2.1, mb_isGood (by rw [h.2.2.2.2.1]; exact h.2.2.2.1), if_pos (show (0 : Int) = 0 by decide)]
    exact ⟨_, _, _, _, _, rfl, rfl, Or.inr h, CFr.rf, MFr.rf, fun q => absurd q h.2.2.2.1, fun _ => rfl⟩
theorem kPt {a : Nat} (c : tkK pl B N a = 3) : ptN B N (a + 1) ≠ 0 := by
  unfold tkK at c
  split at c
  · exact absurd c (by decide)
  · split at c
    · split at c
      · next q => exact (isPb_iff.mp q).2.2
      · split at c <;> exact absurd c (by decide)
    · split at c
      · split at c <;> exact absurd c (by decide)
      · split at c <;> exact absurd c (by decide)
theorem Sy.numBehind (hB : BR B) (h : Sy pl B N T o m J L I K) {k : Nat} (hk : k < 32) {w : Int} (hw : w = (k : Int)) {W : Int64} (hW : W = kwV.getD k 0) (lo hi : Int) : ∃ r J2 r' I1 K1 I2 K2, gTape_takeNumberBehind_0 o J L w lo hi = (r, J2, L) ∧ gModel_must_0 m I K (gModel_isWord_0 m I K W) = (0, I1, K1) ∧ gModel_numeral_0 m I1 K1 lo hi = (r', I2, K2) ∧ Sy pl B N T o m J2 L I2 K2 ∧ CFr o J J2 ∧ MFr m I I2 K K2 ∧ (J2 o 7 = 0 → r' = r ∧ lo ≤ r ∧ r ≤ hi) ∧ (J2 o 7 ≠ 0 → r = -1) := by
  obtain ⟨J1, I1, K1, a1, a2, a3, a4, a5, _⟩ := h.word hB hk hw hW
  obtain ⟨r, J2, r', I2, K2, b1, b2, b3, b4, b5, b6, b7⟩ := a3.num hB lo hi
  refine ⟨r, J2, r', I1, K1, I2, K2, ?_, a2, b2, b3, a4.tr b4, a5.tr b5, b6, b7⟩
  unfold gTape_takeNumberBehind_0
  simp only [gLetp, gB3p, a1, b1]
/-- a place is asked for, unlike oth (which is that of the reference's, where it is one) -/
theorem Sy.place (hB : BR B) (h : Sy pl B N T o m J L I K) (oth : Int) (hno : oth = -1) : ∃ r J2 r' I2 K2, gTape_takePlaceUnlike_0 o J L oth = (r, J2, L) ∧ gModel_point_0 m I K = (r', I2, K2) ∧ Sy pl B N T o m J2 L I2 K2 ∧ CFr o J J2 ∧ MFr m I I2 K K2 ∧ (J2 o 7 = 0 → r' = r ∧ 0 ≤ r ∧ r ≤ 15) := by
  subst hno
  unfold gTape_takePlaceUnlike_0 gTape_takePlaceUnlike_30 gModel_point_0 gModel_point_19
  simp only [gLetp, gB3p]
  rcases h with ⟨j, h⟩ | h
  · have t := h.2.2.2.2.2
    have tc := h.1.tok
    rw [h.1.2.2.2.1, if_pos (by decide), h.1.2.2.1, Int.toNat_natCast, tc.1]
    by_cases c : tkK pl B N (tkS pl B N j) = 3
    · have c0 : tkK pl B N (tkS pl B N j) ≠ 0 := by rw [c]; decide
      have c5 : tkK pl B N (tkS pl B N j) ≠ 5 := by rw [c]; decide
      have c8 : I m 8 = 5 := t.c5.mpr c
      have vr : 0 ≤ ptV B N (tkS pl B N j + 1) ∧ ptV B N (tkS pl B N j + 1) ≤ 15 := ptV_rg (kPt c)
      rw [if_pos c, tc.2.2.2.2.1 c, if_neg (by omega), c8, if_pos (by decide)]
      obtain ⟨s1, s2⟩ := h.1.step c0 c5
      obtain ⟨I2, K2, n1, n2, n3⟩ := h.2.next hB (tkS_le pl B N j) c0 c5
      have em : gModel_must_0 m I K 1 = (0, I2, K2) := by
        unfold gModel_must_0
        simp only [gLetp, gB3p]
        rw [h.2.isGood, if_neg (show ¬ (1 : Int) = 0 by decide), if_neg (by decide), n1]
      rw [s1, em]
      refine ⟨_, _, _, I2, K2, rfl, ?_, Or.inl ⟨j + 1, s2, n2⟩, cfr10 h.1.up, n3.mf, fun _ => ⟨rfl, vr⟩⟩
      show (if gModel_isGood_0 m I2 K2 = 0 then _ else _) = _
      rw [n2.isGood, if_neg (show ¬ (1 : Int) = 0 by decide), t.pt c]
    · have c8 : ¬ I m 8 = 5 := fun q => c (t.c5.mp q)
      rw [if_neg c, if_neg c8, h.1.refuse]
      have em : gModel_must_0 m I K 0 = (0, q_u (q_u I m 4 (if tkK pl B N (tkS pl B N j) = 5 then 1 else 2)) m 5 ((tkS pl B N j : Nat) : Int), K) := by
        unfold gModel_must_0
        simp only [gLetp, gB3p]
        rw [h.2.isGood, if_neg (show ¬ (1 : Int) = 0 by decide), if_pos (by decide), h.2.wrong]
      rw [em]
      have hf := h.fail (f := if tkK pl B N (tkS pl B N j) = 5 then 1 else 2) (by split <;> decide)
      refine ⟨_, _, 0, _, _, rfl, ?_, Or.inr hf, cfr78 h.1.2.2.2.1, mfr45, fun q => absurd q hf.2.2.2.1⟩
      show (if gModel_isGood_0 m (q_u (q_u I m 4 (if tkK pl B N (tkS pl B N j) = 5 then 1 else 2)) m 5 ((tkS pl B N j : Nat) : Int)) K = 0 then _ else _) = _
      rw [mb_isGood (by rw [q_u_k (by decide), q_u_at]; split <;> decide), if_pos (show (0 : Int) = 0 by decide)]
  · have h4 : I m 4 ≠ 0 := by rw [h.2.2.2.2.1]; exact h.2.2.2.1
    rw [if_neg h.2.2.2.1, cb_refuse h.2.2.2.1, mb_must h4, mb_must h4]
    refine ⟨_, _, 0, I, K, rfl, ?_, Or.inr h, CFr.rf, MFr.rf, fun q => absurd q h.2.2.2.1⟩
    have g0 : gModel_isGood_0 m I K = 0 := mb_isGood h4
    show (if I m 8 = 5 then (if gModel_isGood_0 m I K = 0 then _ else _) else (if gModel_isGood_0 m I K = 0 then _ else _)) = _
    rw [g0]
    split <;> rfl
end SO
