/-! The reference's TOKENS are those of the mathematics. By hand (the list of words by program). -/
def MX (B : Nat → Int) (N o : Nat) (J : gJ) : Prop := J o 3 = (N : Int) ∧ N ≤ 1600 ∧ ∀ k, k < N → wAnd (J (o + 2) k) 255 = B k
section MXs
variable {B : Nat → Int} {N o : Nat} {J J' : gJ} {L L' : gL}
theorem MX.mv (h : MX B N o J) (e6 : J' o 3 = J o 3) (e1 : J' (o + 2) = J (o + 2)) : MX B N o J' := ⟨by rw [e6]; exact h.1, h.2.1, fun k hk => by rw [e1]; exact h.2.2 k hk⟩
theorem m_sign (h : MX B N o J) (i : Nat) : gModel_sign_0 o J L (i : Int) = bN B N i := by
  unfold gModel_sign_0 bN
  simp only [gLetp]
  rw [h.1]
  by_cases c : i < N
  · rw [if_neg (by omega), if_pos c, Int.toNat_natCast]; exact h.2.2 i c
  · rw [if_pos (by omega), if_neg c]
theorem m_isLetter (x : Int) : gModel_isLetter_0 J L x = if ltZ x = true then 1 else 0 := c_isLetter (J := J) (L := L) x
theorem m_isDigit (x : Int) : gModel_isDigit_0 J L x = if dgZ x = true then 1 else 0 := c_isDigit (J := J) (L := L) x
theorem m_letter0 (x : Int) : (gModel_isLetter_0 J L x = 0) ↔ ¬ ltZ x = true := c_letter0 (J := J) (L := L) x
theorem m_digit0 (x : Int) : (gModel_isDigit_0 J L x = 0) ↔ ¬ dgZ x = true := c_digit0 (J := J) (L := L) x
theorem m_isSign (x : Int) : gModel_isSign_0 J L x = if sgZ x = true then 1 else 0 := by
  unfold gModel_isSign_0 gModel_isSign_60 sgZ
  simp only [Bool.or_eq_true, beq_iff_eq]
  repeat' split
  all_goals first | rfl | (exfalso; omega)
theorem m_isKept_no {v : Int64} (h : ∀ k, k < 32 → v ≠ kwV.getD k 0) : gModel_isKept_0 J L v = 0 := by
  have h0 : ¬ v = 1919902052 := h 0 (by decide)
  have h1 : ¬ v = 1718579828 := h 1 (by decide)
  have h2 : ¬ v = 24948 := h 2 (by decide)
  have h3 : ¬ v = 1700885619 := h 3 (by decide)
  have h4 : ¬ v = 495874699877 := h 4 (by decide)
  have h5 : ¬ v = 7364974 := h 5 (by decide)
  have h6 : ¬ v = 469785863539 := h 6 (by decide)
  have h7 : ¬ v = 126879549252979 := h 7 (by decide)
  have h8 : ¬ v = 1953462126 := h 8 (by decide)
  have h9 : ¬ v = 28518 := h 9 (by decide)
  have h10 : ¬ v = 512735736947 := h 10 (by decide)
  have h11 : ¬ v = 482955846501 := h 11 (by decide)
  have h12 : ¬ v = 444300618094 := h 12 (by decide)
  have h13 : ¬ v = 1668248436 := h 13 (by decide)
  have h14 : ¬ v = 1918989413 := h 14 (by decide)
  have h15 : ¬ v = 427020088179 := h 15 (by decide)
  have h16 : ¬ v = 1668245870 := h 16 (by decide)
  have h17 : ¬ v = 1836020596 := h 17 (by decide)
  have h18 : ¬ v = 7627128 := h 18 (by decide)
  have h19 : ¬ v = 444350952036 := h 19 (by decide)
  have h20 : ¬ v = 6385252 := h 20 (by decide)
  have h21 : ¬ v = 28530 := h 21 (by decide)
  have h22 : ¬ v = 7237492 := h 22 (by decide)
  have h23 : ¬ v = 2036687218 := h 23 (by decide)
  have h24 : ¬ v = 470020945000 := h 24 (by decide)
  have h25 : ¬ v = 1852138852 := h 25 (by decide)
  have h26 : ¬ v = 1684109683 := h 26 (by decide)
  have h27 : ¬ v = 33602627781095015 := h 27 (by decide)
  have h28 : ¬ v = 6383461 := h 28 (by decide)
  have h29 : ¬ v = 495555144563 := h 29 (by decide)
  have h30 : ¬ v = 108230850603124 := h 30 (by decide)
  have h31 : ¬ v = 1835099237 := h 31 (by decide)
  simp only [gModel_isKept_0, gModel_isKept_133, gModel_isKept_266, gLetp, lg_eq, h0, h1, h2, h3, h4, h5, h6, h7, h8, h9, h10, h11, h12, h13, h14, h15, h16, h17, h18, h19, h20, h21, h22, h23, h24, h25, h26, h27, h28, h29, h30, h31, if_false, if_true]
theorem m_isKept_yes : ∀ k, k < 32 → gModel_isKept_0 J L (kwV.getD k 0) = 1 := fun k hk => match k, hk with
  | 0, _ => rfl
  | 1, _ => rfl
  | 2, _ => rfl
  | 3, _ => rfl
  | 4, _ => rfl
  | 5, _ => rfl
  | 6, _ => rfl
  | 7, _ => rfl
  | 8, _ => rfl
  | 9, _ => rfl
  | 10, _ => rfl
  | 11, _ => rfl
  | 12, _ => rfl
  | 13, _ => rfl
  | 14, _ => rfl
  | 15, _ => rfl
  | 16, _ => rfl
  | 17, _ => rfl
  | 18, _ => rfl
  | 19, _ => rfl
  | 20, _ => rfl
  | 21, _ => rfl
  | 22, _ => rfl
  | 23, _ => rfl
  | 24, _ => rfl
  | 25, _ => rfl
  | 26, _ => rfl
  | 27, _ => rfl
  | 28, _ => rfl
  | 29, _ => rfl
  | 30, _ => rfl
  | 31, _ => rfl
  | (k + 32), h => absurd h (by omega)
theorem m_isKept {l : List Nat} (hl : ltrs l) : gModel_isKept_0 J L (c256 l) = if vW l = -1 then 0 else 1 := by
  by_cases c : ∃ k, k < 32 ∧ kwK k = l
  · obtain ⟨k, hk, e⟩ := c
    rw [vW_at hk e, if_neg (by omega), ← e, kw_256 k hk]
    exact m_isKept_yes k hk
  · rw [vW_no (fun k hk e => c ⟨k, hk, e⟩), if_pos (by decide)]
    exact m_isKept_no (fun k hk e => c ⟨k, hk, ((c256_inj hl (kw_ltrs k hk)).mp (e.trans (kw_256 k hk).symm)).symm⟩)
/-- a P's digits, in the reference's loop -/
theorem m_point44 (h : MX B N o J) (d n : Nat) {v : Int} : gModel_pointAt_44 o J L d n v = if n < 1 ∨ 2 < n ∨ 16 ≤ v ∨ tkL B N (d + n) = true then 0 else (n : Int) := by
  unfold gModel_pointAt_44 gModel_pointAt_73
  have e : (d : Int) + (n : Int) = ((d + n : Nat) : Int) := rfl
  simp only [gLetp, e, m_sign h]
  by_cases c1 : n < 1
  · rw [if_pos (by omega), if_pos (Or.inl c1)]
  · rw [if_neg (by omega)]
    by_cases c2 : 2 < n
    · rw [if_pos (by omega), if_pos (Or.inr (Or.inl c2))]
    · rw [if_neg (by omega)]
      by_cases c3 : 16 ≤ v
      · rw [if_pos c3, if_pos (Or.inr (Or.inr (Or.inl c3)))]
      · rw [if_neg c3]
        by_cases c4 : tkL B N (d + n) = true
        · rw [if_neg (fun q => (m_letter0 _).mp q c4), if_pos (Or.inr (Or.inr (Or.inr c4)))]
        · rw [if_pos ((m_letter0 _).mpr c4), if_neg (by rintro (q | q | q | q); exact c1 q; exact c2 q; exact c3 q; exact c4 q)]
theorem m_pointAt (h : MX B N o J) (d : Nat) : gModel_pointAt_0 o J L (d : Int) = (ptN B N d : Int) := by
  unfold gModel_pointAt_0
  have s0 : ∀ (k : Nat) (x : Int), gModel_pointAt_4 (k + 1) o J L d ((0 : Nat) : Int) x = if tkD B N d = true then gModel_pointAt_4 k o J L d ((1 : Nat) : Int) (wSub (wAdd (wMul 10 x) (bN B N d)) 48) else gModel_pointAt_44 o J L d ((0 : Nat) : Int) x := by
    intro k x
    rw [eModel_pointAt_4, if_neg (by omega)]
    have e : (d : Int) + ((0 : Nat) : Int) = (d : Int) := by omega
    simp only [gLetp, e, m_sign h]
    by_cases c : tkD B N d = true
    · rw [if_neg (fun q => (m_digit0 _).mp q c), if_pos c]; rfl
    · rw [if_pos ((m_digit0 _).mpr c), if_neg c]
  have s1 : ∀ (k : Nat) (x : Int), gModel_pointAt_4 (k + 1) o J L d ((1 : Nat) : Int) x = if tkD B N (d + 1) = true then gModel_pointAt_4 k o J L d ((2 : Nat) : Int) (wSub (wAdd (wMul 10 x) (bN B N (d + 1))) 48) else gModel_pointAt_44 o J L d ((1 : Nat) : Int) x := by
    intro k x
    rw [eModel_pointAt_4, if_neg (by omega)]
    have e : (d : Int) + ((1 : Nat) : Int) = ((d + 1 : Nat) : Int) := rfl
    simp only [gLetp, e, m_sign h]
    by_cases c : tkD B N (d + 1) = true
    · rw [if_neg (fun q => (m_digit0 _).mp q c), if_pos c]; rfl
    · rw [if_pos ((m_digit0 _).mpr c), if_neg c]
  have s2 : ∀ (k : Nat) (x : Int), gModel_pointAt_4 (k + 1) o J L d ((2 : Nat) : Int) x = if tkD B N (d + 2) = true then gModel_pointAt_4 k o J L d ((3 : Nat) : Int) (wSub (wAdd (wMul 10 x) (bN B N (d + 2))) 48) else gModel_pointAt_44 o J L d ((2 : Nat) : Int) x := by
    intro k x
    rw [eModel_pointAt_4, if_neg (by omega)]
    have e : (d : Int) + ((2 : Nat) : Int) = ((d + 2 : Nat) : Int) := rfl
    simp only [gLetp, e, m_sign h]
    by_cases c : tkD B N (d + 2) = true
    · rw [if_neg (fun q => (m_digit0 _).mp q c), if_pos c]; rfl
    · rw [if_pos ((m_digit0 _).mpr c), if_neg c]
  have s3 : ∀ (k : Nat) (x : Int), gModel_pointAt_4 (k + 1) o J L d ((3 : Nat) : Int) x = gModel_pointAt_44 o J L d ((3 : Nat) : Int) x := by
    intro k x
    rw [eModel_pointAt_4, if_pos (by omega)]
  show gModel_pointAt_4 (19999 + 1) o J L d ((0 : Nat) : Int) 0 = _
  rw [s0]
  unfold ptN
  by_cases c1 : tkD B N d = true
  · have d1 := dgZ_iff.mp c1
    have m0 : wMul 10 0 = 0 := by decide
    have a0 : wAdd 0 (bN B N d) = bN B N d := by rw [wAdd_r (by decide) (by decide) (by omega) (by omega) (by omega) (by omega)]; omega
    have b0 : wSub (bN B N d) 48 = bN B N d - 48 := wSub_r (by omega) (by omega) (by decide) (by decide) (by omega) (by omega)
    rw [if_pos c1, if_pos c1, m0, a0, b0]
    show gModel_pointAt_4 (19998 + 1) o J L d ((1 : Nat) : Int) _ = _
    rw [s1]
    by_cases c2 : tkD B N (d + 1) = true
    · have d2 := dgZ_iff.mp c2
      have m1 : wMul 10 (bN B N d - 48) = (bN B N d - 48) * 10 := by rw [wMul_c]; exact wMul_r (by omega) (by omega) (by decide) (by decide) (by omega) (by omega)
      have a1 : wAdd ((bN B N d - 48) * 10) (bN B N (d + 1)) = (bN B N d - 48) * 10 + bN B N (d + 1) := wAdd_r (by omega) (by omega) (by omega) (by omega) (by omega) (by omega)
      have b1 : wSub ((bN B N d - 48) * 10 + bN B N (d + 1)) 48 = (bN B N d - 48) * 10 + bN B N (d + 1) - 48 := wSub_r (by omega) (by omega) (by decide) (by decide) (by omega) (by omega)
      have ev : ptV B N d = (bN B N d - 48) * 10 + bN B N (d + 1) - 48 := if_pos c2
      rw [if_pos c2, if_pos c2, m1, a1, b1, ← ev]
      show gModel_pointAt_4 (19997 + 1) o J L d ((2 : Nat) : Int) _ = _
      rw [s2]
      by_cases c3 : tkD B N (d + 2) = true
      · rw [if_pos c3, if_pos (Or.inl c3)]
        show gModel_pointAt_4 (19996 + 1) o J L d ((3 : Nat) : Int) _ = _
        rw [s3, m_point44 h, if_pos (Or.inr (Or.inl (by decide)))]
        rfl
      · rw [if_neg c3, m_point44 h]
        by_cases c4 : tkL B N (d + 2) = true
        · rw [if_pos (Or.inr (Or.inr (Or.inr c4))), if_pos (Or.inr (Or.inl c4))]; rfl
        · by_cases c5 : 16 ≤ ptV B N d
          · rw [if_pos (Or.inr (Or.inr (Or.inl c5))), if_pos (Or.inr (Or.inr c5))]; rfl
          · rw [if_neg (by rintro (q | q | q | q); exact absurd q (by decide); exact absurd q (by decide); exact c5 q; exact c4 q), if_neg (by rintro (q | q | q); exact c3 q; exact c4 q; exact c5 q)]
    · rw [if_neg c2, if_neg c2, m_point44 h]
      by_cases c4 : tkL B N (d + 1) = true
      · rw [if_pos (Or.inr (Or.inr (Or.inr c4))), if_pos c4]; rfl
      · rw [if_neg (by rintro (q | q | q | q); exact absurd q (by decide); exact absurd q (by decide); omega; exact c4 q), if_neg c4]
  · rw [if_neg c1, if_neg c1, m_point44 h, if_pos (Or.inl (by decide))]
    rfl
/-- what the reference holds of the TOKEN at a -/
def TokM (pl : Bool) (B : Nat → Int) (N o : Nat) (J : gJ) (L : gL) (a : Nat) : Prop := J o 6 = (a : Int) ∧
  ((tkK pl B N a = 0 ∧ J o 8 = 0) ∨ (tkK pl B N a = 5 ∧ J o 8 = 1) ∨
   (tkK pl B N a = 1 ∧ J o 8 = (if vW (tkW B N a) = -1 then 2 else 3) ∧ L o 10 = c256 (tkW B N a) ∧ J o 7 = (tkE pl B N a : Nat)) ∨
   (tkK pl B N a = 2 ∧ J o 8 = 4 ∧ J o 9 = tkN B N a ∧ J o 7 = (tkE pl B N a : Nat)) ∨
   (tkK pl B N a = 3 ∧ J o 8 = 5 ∧ J o 9 = ptV B N (a + 1) ∧ J o 7 = (tkE pl B N a : Nat)) ∨
   (tkK pl B N a = 4 ∧ J o 8 = 6 ∧ J o 7 = (tkE pl B N a : Nat)))
/-- next writes a few of its own fields alone -/
def NxFr (o : Nat) (J J' : gJ) (L L' : gL) : Prop := (∀ r y, ¬ (r = o ∧ (y = 6 ∨ y = 7 ∨ y = 8 ∨ y = 9)) → J' r y = J r y) ∧ ∀ r y, ¬ (r = o ∧ y = 10) → L' r y = L r y
theorem NxFr.rf : NxFr o J J L L := ⟨fun _ _ _ => rfl, fun _ _ _ => rfl⟩
theorem NxFr.tr {J2 : gJ} {L2 : gL} (h : NxFr o J J' L L') (g : NxFr o J' J2 L' L2) : NxFr o J J2 L L2 := ⟨fun r y q => (g.1 r y q).trans (h.1 r y q), fun r y q => (g.2 r y q).trans (h.2 r y q)⟩
theorem NxFr.mx (g : NxFr o J J' L L') (h : MX B N o J) : MX B N o J' := h.mv (g.1 _ _ (by omega)) (by funext y; exact g.1 _ _ (by omega))
theorem NxFr.u {k : Nat} {v : Int} (hk : k = 6 ∨ k = 7 ∨ k = 8 ∨ k = 9) : NxFr o J (q_u J o k v) L L := ⟨fun r y q => q_u_off (by omega), fun _ _ _ => rfl⟩
theorem NxFr.l {v : Int64} : NxFr o J J L (q_u L o 10 v) := ⟨fun _ _ _ => rfl, fun r y q => q_u_off (by omega)⟩
/-- the blanks ahead -/
theorem m_skip (h : MX B N o J) (hd : J o 6 = J o 6) : ∀ (f i k : Nat) (J' : gJ), i + f = N → f < k → NxFr o J J' L L → J' o 6 = (i : Int) → J' o 7 = J o 7 → ∃ J2, gModel_next_8 k o J' L = gModel_next_58 o J2 L ∧ NxFr o J J2 L L ∧ J2 o 6 = (sw (tkB B N) f i : Nat) ∧ J2 o 7 = J o 7 := by
  intro f
  induction f with
  | zero =>
    intro i k J' hi hk g e6 e7
    obtain ⟨k, rfl⟩ : ∃ k', k = k' + 1 := ⟨k - 1, by omega⟩
    rw [eModel_next_8]
    simp only [gLetp]
    rw [(g.mx h).1, e6, if_pos (by omega)]
    exact ⟨J', rfl, g, e6, e7⟩
  | succ f ih =>
    intro i k J' hi hk g e6 e7
    obtain ⟨k, rfl⟩ : ∃ k', k = k' + 1 := ⟨k - 1, by omega⟩
    rw [eModel_next_8]
    simp only [gLetp, eModel_next_45, e6, m_sign (g.mx h), nat1]
    rw [(g.mx h).1, if_neg (by omega)]
    have hb : bN B N i = B i := if_pos (by omega)
    rw [hb]
    have nx := ih (i + 1) k (q_u J' o 6 ((i + 1 : Nat) : Int)) (by omega) (by omega) (g.tr (NxFr.u (Or.inl rfl))) q_u_at (by rw [q_u_k (by decide)]; exact e7)
    rw [sw_s]
    by_cases c : B i = 32
    · rw [if_pos c, if_pos (tkB_iff.mpr ⟨by omega, Or.inl c⟩)]
      exact nx
    · rw [if_neg c]
      by_cases c2 : B i = 10
      · rw [if_pos c2, if_pos (tkB_iff.mpr ⟨by omega, Or.inr c2⟩)]
        exact nx
      · rw [if_neg c2, if_neg (fun q => by rcases (tkB_iff.mp q).2 with z | z; exact c z; exact c2 z)]
        exact ⟨J', rfl, g, e6, e7⟩
/-- a letter, taken in -/
theorem ws_eq {x : Int} (acc : Nat) (ha : acc < 2 ^ 56) (h1 : 97 ≤ x) (h2 : x ≤ 122) : ((Int64.ofNat acc) <<< (((8 : Int32)).toInt64 &&& 63)) ||| wI2L x = Int64.ofNat (acc * 256 + ((x - 96).toNat + 96)) := by
  have e1 : wI2L x = Int64.ofNat ((x - 96).toNat + 96) := by
    apply Int64.toInt_inj.mp
    unfold wI2L
    rw [Int32.toInt_toInt64, w_in (by omega) (by omega), Int64.toInt_ofNat_of_lt (by omega)]
    omega
  rw [e1]
  have hc : (x - 96).toNat + 96 < 256 := by omega
  generalize (x - 96).toNat + 96 = c at hc ⊢
  rw [show ((8 : Int32).toInt64 &&& 63) = 8 from by decide]
  apply Int64.toBitVec_inj.mp
  rw [Int64.toBitVec_or, Int64.toBitVec_shiftLeft, Int64.toBitVec_ofNat', Int64.toBitVec_ofNat', Int64.toBitVec_ofNat']
  apply BitVec.eq_of_toNat_eq
  rw [BitVec.toNat_or]
  have k8 : (BitVec.smod (Int64.toBitVec 8) 64 : BitVec 64) = 8#64 := by decide
  rw [k8, BitVec.shiftLeft_eq', BitVec.toNat_shiftLeft]
  simp only [BitVec.toNat_ofNat]
  rw [Nat.mod_eq_of_lt (a := acc) (by omega), Nat.mod_eq_of_lt (a := c) (by omega), Nat.mod_eq_of_lt (a := acc * 256 + c) (by omega)]
  show (acc <<< 8) % 2 ^ 64 ||| c = acc * 256 + c
  rw [Nat.shiftLeft_eq, Nat.mod_eq_of_lt (by omega), show acc * 2 ^ 8 = 2 ^ 8 * acc by omega, ← Nat.two_pow_add_eq_or_of_lt (by omega)]
theorem m_name (h : MX B N o J) {e7 : Nat} (a : Nat) (h7 : J o 7 = (e7 : Int)) (h6 : J o 6 = (a : Int)) (hl : ∀ j, a ≤ j → j < e7 → tkL B N j = true) (hae : a ≤ e7) (he : e7 ≤ N) {x1 : Int} : ∀ (f i k m : Nat) (L : gL), i + f = (if e7 ≤ a + 8 then e7 else a + 8) → a ≤ i → f < k → L o 10 = Int64.ofNat m → m < 2 ^ (8 * (i - a)) → ∃ L2, gModel_next_260 k o J L x1 i = gModel_next_303 o J L2 x1 ((i + f : Nat) : Int) ∧ L2 o 10 = Int64.ofNat (nF 256 96 m (lw B f i)) ∧ ∀ r y, ¬ (r = o ∧ y = 10) → L2 r y = L r y := by
  intro f
  induction f with
  | zero =>
    intro i k m L hi hai hk hL hm
    obtain ⟨k, rfl⟩ : ∃ k', k = k' + 1 := ⟨k - 1, by omega⟩
    rw [eModel_next_260]
    simp only [gLetp]
    rw [h7, h6]
    refine ⟨L, ?_, hL, fun _ _ _ => rfl⟩
    split at hi
    · rw [if_pos (by omega)]; rfl
    · by_cases c : (e7 : Int) ≤ (i : Int)
      · rw [if_pos c]; rfl
      · rw [if_neg c, if_pos (by omega)]; rfl
  | succ f ih =>
    intro i k m L hi hai hk hL hm
    obtain ⟨k, rfl⟩ : ∃ k', k = k' + 1 := ⟨k - 1, by omega⟩
    have i8 : i < a + 8 := by split at hi <;> omega
    have ie : i < e7 := by split at hi <;> omega
    rw [eModel_next_260]
    simp only [gLetp, m_sign h, nat1]
    rw [h7, h6, if_neg (by omega), if_neg (by omega), hL]
    have hc : ltZ (bN B N i) = true := hl i hai ie
    have q := ltZ_iff.mp hc
    have hb : bN B N i = B i := if_pos (by omega)
    have hm56 : m < 2 ^ 56 := Nat.lt_of_lt_of_le hm (Nat.pow_le_pow_right (by decide) (by omega))
    rw [ws_eq m hm56 q.1 q.2]
    have hP : m * 256 + ((bN B N i - 96).toNat + 96) < 2 ^ (8 * (i + 1 - a)) := by
      rw [show 8 * (i + 1 - a) = 8 * (i - a) + 8 by omega, Nat.pow_add, show (2 : Nat) ^ 8 = 256 from rfl]
      have h3 := Nat.mul_le_mul_right 256 hm
      have h4 : (bN B N i - 96).toNat + 96 < 256 := by omega
      omega
    obtain ⟨L2, g1, g2, g3⟩ := ih (i + 1) k (m * 256 + ((bN B N i - 96).toNat + 96)) (q_u L o 10 (Int64.ofNat (m * 256 + ((bN B N i - 96).toNat + 96)))) (by rw [← hi]; omega) (by omega) (by omega) q_u_at hP
    refine ⟨L2, ?_, ?_, fun r y z => by rw [g3 r y z, q_u_off z]⟩
    · rw [g1, show i + 1 + f = i + (f + 1) by omega]
    · rw [g2, hb]
      rfl
/-- how a word ends -/
theorem m_wend (h : MX B N o J) {x1 : Int} {a : Nat} : ∀ (f i k : Nat) (J' : gJ), i + f = N → f < k → NxFr o J J' L L → J' o 6 = (a : Int) → J' o 7 = (i : Int) → ∃ J2, gModel_next_223 k o J' L x1 = gModel_next_260 20000 o J2 (q_u L o 10 0) x1 (a : Int) ∧ NxFr o J J2 L L ∧ J2 o 6 = (a : Int) ∧ J2 o 7 = (sw (tkL B N) f i : Nat) := by
  intro f
  induction f with
  | zero =>
    intro i k J' hi hk g e6 e7
    obtain ⟨k, rfl⟩ : ∃ k', k = k' + 1 := ⟨k - 1, by omega⟩
    rw [eModel_next_223]
    simp only [gLetp, e7, e6, m_sign (g.mx h)]
    have hb : bN B N i = 0 := if_neg (by omega)
    rw [if_pos ((m_letter0 _).mpr (by rw [hb]; decide))]
    exact ⟨J', rfl, g, e6, e7⟩
  | succ f ih =>
    intro i k J' hi hk g e6 e7
    obtain ⟨k, rfl⟩ : ∃ k', k = k' + 1 := ⟨k - 1, by omega⟩
    rw [eModel_next_223]
    simp only [gLetp, e7, e6, m_sign (g.mx h), nat1]
    rw [sw_s]
    by_cases c : tkL B N i = true
    · rw [if_neg (fun q => (m_letter0 _).mp q c), if_pos c]
      exact ih (i + 1) k _ (by omega) (by omega) (g.tr (NxFr.u (Or.inr (Or.inl rfl)))) (by rw [q_u_k (by decide)]; exact e6) q_u_at
    · rw [if_pos ((m_letter0 _).mpr c), if_neg c]
      exact ⟨J', rfl, g, e6, e7⟩
/-- a number's digits -/
theorem m_num (h : MX B N o J) {x1 : Int} {a : Nat} : ∀ (f i k : Nat) (J' : gJ), i + f = N → a ≤ i → f < k → NxFr o J J' L L → J' o 6 = (a : Int) → J' o 7 = (i : Int) → ∃ J2, gModel_next_363 k o J' L x1 = (0, q_u J2 o 8 (if sw (tkD B N) f i - a ≤ 4 ∧ ¬ tkL B N (sw (tkD B N) f i) = true then 4 else 1), L) ∧ NxFr o J J2 L L ∧ J2 o 6 = (a : Int) ∧ J2 o 7 = (sw (tkD B N) f i : Nat) ∧ (sw (tkD B N) f i - a ≤ 4 → J2 o 9 = nV B N f i (J' o 9)) := by
  have ex : ∀ (i : Nat) (J' : gJ), NxFr o J J' L L → J' o 6 = (a : Int) → J' o 7 = (i : Int) → a ≤ i → (if 4 < J' o 7 - J' o 6 then gModel_next_454 o J' L x1 else if gModel_isLetter_0 J' L (gModel_sign_0 o J' L (J' o 7)) = 0 then gModel_next_459 o J' L x1 4 else gModel_next_454 o J' L x1) = (0, q_u J' o 8 (if i - a ≤ 4 ∧ ¬ tkL B N i = true then 4 else 1), L) := by
    intro i J' g e6 e7 hai
    unfold gModel_next_454 gModel_next_459
    rw [e7, e6, m_sign (g.mx h)]
    simp only [gLetp]
    by_cases c : i - a ≤ 4
    · rw [if_neg (by omega)]
      by_cases c2 : tkL B N i = true
      · rw [if_neg (fun q => (m_letter0 _).mp q c2), if_neg (fun q => q.2 c2)]
      · rw [if_pos ((m_letter0 _).mpr c2), if_pos ⟨c, c2⟩]
    · rw [if_pos (by omega), if_neg (fun q => c q.1)]
  intro f
  induction f with
  | zero =>
    intro i k J' hi hai hk g e6 e7
    obtain ⟨k, rfl⟩ : ∃ k', k = k' + 1 := ⟨k - 1, by omega⟩
    have x := ex i J' g e6 e7 hai
    rw [eModel_next_363]
    simp only [gLetp]
    rw [e7, m_sign (g.mx h)]
    have hb : bN B N i = 0 := if_neg (by omega)
    rw [if_pos ((m_digit0 _).mpr (by rw [hb]; decide))]
    rw [e7, m_sign (g.mx h)] at x
    rw [sw_0]
    exact ⟨J', x, g, e6, e7, fun _ => rfl⟩
  | succ f ih =>
    intro i k J' hi hai hk g e6 e7
    obtain ⟨k, rfl⟩ : ∃ k', k = k' + 1 := ⟨k - 1, by omega⟩
    have x := ex i J' g e6 e7 hai
    rw [eModel_next_363]
    simp only [gLetp, eModel_next_413]
    rw [e7, m_sign (g.mx h)]
    rw [e7, m_sign (g.mx h)] at x
    rw [sw_s, nV_s]
    by_cases c : tkD B N i = true
    · rw [if_neg (fun q => (m_digit0 _).mp q c), if_pos c, if_pos c, e6]
      by_cases c4 : (4 : Int) ≤ (i : Int) - (a : Int)
      · rw [if_pos c4, nat1]
        obtain ⟨J2, g1, g2, g3, g4, g5⟩ := ih (i + 1) k (q_u J' o 7 ((i + 1 : Nat) : Int)) (by omega) (by omega) (by omega) (g.tr (NxFr.u (Or.inr (Or.inl rfl)))) (by rw [q_u_k (by decide)]; exact e6) q_u_at
        refine ⟨J2, g1, g2, g3, g4, fun z => ?_⟩
        have := sw_ge (tkD B N) f (i + 1)
        omega
      · rw [if_neg c4, q_u_k (by decide), e7, nat1]
        obtain ⟨J2, g1, g2, g3, g4, g5⟩ := ih (i + 1) k (q_u (q_u J' o 9 (wSub (wAdd (wMul 10 (J' o 9)) (bN B N i)) 48)) o 7 ((i + 1 : Nat) : Int)) (by omega) (by omega) (by omega) ((g.tr (NxFr.u (by omega))).tr (NxFr.u (Or.inr (Or.inl rfl)))) (by rw [q_u_k (by decide), q_u_k (by decide)]; exact e6) q_u_at
        refine ⟨J2, g1, g2, g3, g4, fun z => ?_⟩
        rw [g5 z, q_u_k (by decide), q_u_at, wMul_c]
    · rw [if_pos ((m_digit0 _).mpr c), if_neg c, if_neg c]
      exact ⟨J', x, g, e6, e7, fun _ => rfl⟩
theorem m_216 (hB : BR B) (h : MX B N o J) {pl : Bool} {a : Nat} (ha : a < N) (e6 : J o 6 = (a : Int)) (e7 : J o 7 = ((a + 1 : Nat) : Int)) (hp : ¬ isPb pl B N a = true) : ∃ J' L', gModel_next_216 o J L (bN B N a) = (0, J', L') ∧ TokM pl B N o J' L' a ∧ NxFr o J J' L L' := by
  have hN := h.2.1
  have hb : bN B N a = B a := if_pos ha
  unfold gModel_next_216
  simp only [gLetp]
  by_cases cl : tkL B N a = true
  · rw [if_neg (fun q => (m_letter0 _).mp q cl)]
    have eE : sw (tkL B N) (N - (a + 1)) (a + 1) = wE B N a := by
      unfold wE
      rw [show N - a = (N - (a + 1)) + 1 by omega]
      show _ = if tkL B N a = true then sw (tkL B N) (N - (a + 1)) (a + 1) else a
      rw [if_pos cl]
    obtain ⟨J2, g1, g2, g3, g4⟩ := m_wend (L := L) (x1 := bN B N a) (a := a) h (N - (a + 1)) (a + 1) 20000 J (by omega) (by omega) NxFr.rf e6 e7
    rw [eE] at g4
    have hg := wE_gt cl
    have hle := wE_le (B := B) (Nat.le_of_lt ha)
    obtain ⟨L2, k1, k2, k3⟩ := m_name (x1 := bN B N a) (g2.mx h) a g4 g3 (fun j h1 h2 => sw_all (tkL B N) (N - a) a j h1 h2) (Nat.le_of_lt hg) hle ((if wE B N a ≤ a + 8 then wE B N a else a + 8) - a) a 20000 0 (q_u L o 10 0) (by split <;> omega) (Nat.le_refl _) (by split <;> omega) (by rw [q_u_at]; rfl) (by rw [Nat.sub_self]; decide)
    rw [g1, k1]
    unfold gModel_next_303 gModel_next_337
    simp only [gLetp]
    rw [g4, g3, k2]
    have ek : tkK pl B N a = if wE B N a - a ≤ 8 then 1 else 5 := by
      unfold tkK
      rw [if_neg (by omega), if_pos cl, if_neg hp]
    have ee : tkE pl B N a = wE B N a := by
      unfold tkE
      rw [if_neg (by omega), if_pos cl, if_neg hp]
    have fr : ∀ v, NxFr o J (q_u J2 o 8 v) L L2 := fun v => ⟨fun r y q => by rw [q_u_off (by omega)]; exact g2.1 r y q, fun r y q => by rw [k3 r y q, q_u_off q]⟩
    by_cases c8 : wE B N a - a ≤ 8
    · rw [if_pos (by omega)]
      have en : nF 256 96 0 (lw B ((if wE B N a ≤ a + 8 then wE B N a else a + 8) - a) a) = nF 256 96 0 (tkW B N a) := by rw [if_pos (by omega)]; rfl
      rw [en]
      show ∃ J' L', (if gModel_isKept_0 J2 L2 (c256 (tkW B N a)) = 0 then _ else _) = _ ∧ _
      rw [m_isKept (tkW_ltrs c8)]
      rw [en] at k2
      by_cases cv : vW (tkW B N a) = -1
      · rw [if_pos cv, if_pos (by decide)]
        refine ⟨_, _, rfl, ⟨by rw [q_u_k (by decide)]; exact g3, Or.inr (Or.inr (Or.inl ⟨by rw [ek, if_pos c8], by rw [q_u_at, if_pos cv], k2, by rw [q_u_k (by decide), ee]; exact g4⟩))⟩, fr _⟩
      · rw [if_neg cv, if_neg (by decide)]
        refine ⟨_, _, rfl, ⟨by rw [q_u_k (by decide)]; exact g3, Or.inr (Or.inr (Or.inl ⟨by rw [ek, if_pos c8], by rw [q_u_at, if_neg cv], k2, by rw [q_u_k (by decide), ee]; exact g4⟩))⟩, fr _⟩
    · rw [if_neg (by omega)]
      exact ⟨_, _, rfl, ⟨by rw [q_u_k (by decide)]; exact g3, Or.inr (Or.inl ⟨by rw [ek, if_neg c8], q_u_at⟩)⟩, fr _⟩
  · rw [if_pos ((m_letter0 _).mpr cl)]
    by_cases cd : tkD B N a = true
    · rw [if_neg (fun q => (m_digit0 _).mp q cd), q_u_k (by decide), e6]
      obtain ⟨J2, g1, g2, g3, g4, g5⟩ := m_num (L := L) (x1 := bN B N a) (a := a) h (N - a) a 20000 (q_u (q_u J o 9 0) o 7 (a : Int)) (by omega) (Nat.le_refl _) (by omega) ((NxFr.u (k := 9) (by omega)).tr (NxFr.u (Or.inr (Or.inl rfl)))) (by rw [q_u_k (by decide), q_u_k (by decide)]; exact e6) q_u_at
      rw [g1]
      have ek : tkK pl B N a = if nE B N a - a ≤ 4 ∧ ¬ tkL B N (nE B N a) = true then 2 else 5 := by
        unfold tkK
        rw [if_neg (by omega), if_neg cl, if_pos cd]
      have ee : tkE pl B N a = nE B N a := by
        unfold tkE
        rw [if_neg (by omega), if_neg cl, if_pos cd]
      show ∃ J' L', (0, q_u J2 o 8 (if nE B N a - a ≤ 4 ∧ ¬ tkL B N (nE B N a) = true then 4 else 1), L) = _ ∧ _
      by_cases c : nE B N a - a ≤ 4 ∧ ¬ tkL B N (nE B N a) = true
      · rw [if_pos c]
        refine ⟨_, _, rfl, ⟨by rw [q_u_k (by decide)]; exact g3, Or.inr (Or.inr (Or.inr (Or.inl ⟨by rw [ek, if_pos c], q_u_at, ?_, by rw [q_u_k (by decide), ee]; exact g4⟩)))⟩, g2.tr (NxFr.u (by omega))⟩
        rw [q_u_k (by decide), g5 c.1, q_u_k (by decide), q_u_at]
        rfl
      · rw [if_neg c]
        exact ⟨_, _, rfl, ⟨by rw [q_u_k (by decide)]; exact g3, Or.inr (Or.inl ⟨by rw [ek, if_neg c], q_u_at⟩)⟩, g2.tr (NxFr.u (by omega))⟩
    · rw [if_pos ((m_digit0 _).mpr cd), m_isSign, hb]
      have ek : tkK pl B N a = if sgZ (B a) = true then 4 else 5 := by
        unfold tkK
        rw [if_neg (by omega), if_neg cl, if_neg cd]
      have ee : tkE pl B N a = a + 1 := by
        unfold tkE
        rw [if_neg (by omega), if_neg cl, if_neg cd]
      by_cases c : sgZ (B a) = true
      · rw [if_pos c, if_neg (by decide)]
        exact ⟨_, _, rfl, ⟨by rw [q_u_k (by decide)]; exact e6, Or.inr (Or.inr (Or.inr (Or.inr (Or.inr ⟨by rw [ek, if_pos c], q_u_at, by rw [q_u_k (by decide), ee]; exact e7⟩))))⟩, NxFr.u (by omega)⟩
      · rw [if_neg c, if_pos (by decide)]
        exact ⟨_, _, rfl, ⟨by rw [q_u_k (by decide)]; exact e6, Or.inr (Or.inl ⟨by rw [ek, if_neg c], q_u_at⟩)⟩, NxFr.u (by omega)⟩
theorem m_next (hB : BR B) (h : MX B N o J) {pl : Bool} (hpl : J o 11 = if pl = true then 0 else 1) {fr : Nat} (hfr : fr ≤ N) (h7 : J o 7 = (fr : Int)) : ∃ J' L', gModel_next_0 o J L = (0, J', L') ∧ TokM pl B N o J' L' (tA B N fr) ∧ NxFr o J J' L L' := by
  have hN := h.2.1
  unfold gModel_next_0
  simp only [gLetp]
  rw [h7]
  obtain ⟨J2, g1, g2, g3, g4⟩ := m_skip (L := L) h rfl (N - fr) fr 20000 (q_u J o 6 (fr : Int)) (by omega) (by omega) (NxFr.u (Or.inl rfl)) q_u_at (q_u_k (by decide))
  rw [g1]
  have ha := tA_le (B := B) hfr
  replace g3 : J2 o 6 = (tA B N fr : Nat) := g3
  generalize tA B N fr = a at ha g3 ⊢
  unfold gModel_next_58
  simp only [gLetp, g3, m_sign (g2.mx h), nat1]
  have f5 : NxFr o J (q_u J2 o 7 ((a + 1 : Nat) : Int)) L L := g2.tr (NxFr.u (Or.inr (Or.inl rfl)))
  have h5 := f5.mx h
  have e56 : q_u J2 o 7 ((a + 1 : Nat) : Int) o 6 = (a : Int) := by rw [q_u_k (by decide)]; exact g3
  have e57 : q_u J2 o 7 ((a + 1 : Nat) : Int) o 7 = ((a + 1 : Nat) : Int) := q_u_at
  have e5b : q_u J2 o 7 ((a + 1 : Nat) : Int) o 11 = J o 11 := f5.1 _ _ (by omega)
  generalize q_u J2 o 7 ((a + 1 : Nat) : Int) = J5 at f5 h5 e56 e57 e5b ⊢
  rw [e56, h5.1, e5b, hpl]
  by_cases c : a < N
  · rw [if_pos (by omega)]
    have hb : bN B N a = B a := if_pos c
    have go : ¬ isPb pl B N a = true → ∃ J' L', gModel_next_216 o J5 L (bN B N a) = (0, J', L') ∧ TokM pl B N o J' L' a ∧ NxFr o J J' L L' := fun hp => by
      obtain ⟨J', L', q1, q2, q3⟩ := m_216 (L := L) hB h5 c e56 e57 hp
      exact ⟨J', L', q1, q2, f5.tr q3⟩
    by_cases cp : pl = true
    · rw [if_pos cp, if_pos (by decide)]
      by_cases c112 : bN B N a = 112
      · rw [if_pos c112]
        simp only [nat1, m_pointAt h5, m_sign h5]
        by_cases cn : ptN B N (a + 1) = 0
        · rw [if_pos (by omega)]
          exact go (fun q => (isPb_iff.mp q).2.2 cn)
        · rw [if_neg (by omega)]
          have hp : isPb pl B N a = true := isPb_iff.mpr ⟨cp, by rw [← hb]; exact c112, cn⟩
          have hcl : tkL B N a = true := by
            show ltZ (bN B N a) = true
            rw [c112]; decide
          have ek : tkK pl B N a = 3 := by
            unfold tkK
            rw [if_neg (by omega), if_pos hcl, if_pos hp]
          have ee : tkE pl B N a = a + 1 + ptN B N (a + 1) := by
            unfold tkE
            rw [if_neg (by omega), if_pos hcl, if_pos hp]
          have hd1 : tkD B N (a + 1) = true := by
            by_cases z : tkD B N (a + 1) = true
            · exact z
            · exact absurd (by unfold ptN; rw [if_neg z]) cn
          have d1 := dgZ_iff.mp hd1
          have b0 : wSub (bN B N (a + 1)) 48 = bN B N (a + 1) - 48 := wSub_r (by omega) (by omega) (by decide) (by decide) (by omega) (by omega)
          have fin : ∀ (v : Int) (J6 : gJ), NxFr o J J6 L L → J6 o 6 = (a : Int) → J6 o 9 = ptV B N (a + 1) → ∃ J' L', gModel_next_196 o J6 L v (ptN B N (a + 1) : Nat) = (0, J', L') ∧ TokM pl B N o J' L' a ∧ NxFr o J J' L L' := by
            intro v J6 q1 q2 q3
            unfold gModel_next_196
            simp only [gLetp, q2]
            refine ⟨_, _, rfl, ⟨by rw [q_u_k (by decide), q_u_k (by decide)]; exact q2, Or.inr (Or.inr (Or.inr (Or.inr (Or.inl ⟨ek, q_u_at, by rw [q_u_k (by decide), q_u_k (by decide)]; exact q3, ?_⟩))))⟩, (q1.tr (NxFr.u (Or.inr (Or.inl rfl)))).tr (NxFr.u (by omega))⟩
            rw [q_u_k (by decide), q_u_at, ee]
            rfl
          rw [b0]
          by_cases c2 : ptN B N (a + 1) = 2
          · have hd2 : tkD B N (a + 2) = true := by
              by_cases z : tkD B N (a + 2) = true
              · exact z
              · exfalso
                unfold ptN at c2
                rw [if_pos hd1, if_neg z] at c2
                split at c2 <;> exact absurd c2 (by decide)
            have d2 := dgZ_iff.mp hd2
            rw [if_pos (by omega)]
            have h6 : MX B N o (q_u J5 o 9 (bN B N (a + 1) - 48)) := (NxFr.u (L := L) (k := 9) (by omega)).mx h5
            have m1 : wMul 10 (bN B N (a + 1) - 48) = (bN B N (a + 1) - 48) * 10 := by rw [wMul_c]; exact wMul_r (by omega) (by omega) (by decide) (by decide) (by omega) (by omega)
            have a1 : wAdd ((bN B N (a + 1) - 48) * 10) (bN B N (a + 2)) = (bN B N (a + 1) - 48) * 10 + bN B N (a + 2) := wAdd_r (by omega) (by omega) (by omega) (by omega) (by omega) (by omega)
            have b1 : wSub ((bN B N (a + 1) - 48) * 10 + bN B N (a + 2)) 48 = (bN B N (a + 1) - 48) * 10 + bN B N (a + 2) - 48 := wSub_r (by omega) (by omega) (by decide) (by decide) (by omega) (by omega)
            rw [q_u_at, q_u_k (by decide), e56, nat2, m_sign h6, m1, a1, b1]
            exact fin _ _ ((f5.tr (NxFr.u (by omega))).tr (NxFr.u (by omega))) (by rw [q_u_k (by decide), q_u_k (by decide)]; exact e56) (by rw [q_u_at]; exact (if_pos hd2).symm)
          · have hd2 : ¬ tkD B N (a + 2) = true := by
              intro z
              unfold ptN at c2 cn
              rw [if_pos hd1, if_pos z] at c2 cn
              split at c2
              · next w => rw [if_pos w] at cn; exact cn rfl
              · exact c2 rfl
            rw [if_neg (by omega)]
            exact fin _ _ (f5.tr (NxFr.u (by omega))) (by rw [q_u_k (by decide)]; exact e56) (by rw [q_u_at]; exact (if_neg hd2).symm)
      · rw [if_neg c112]
        exact go (fun q => c112 (by rw [hb]; exact (isPb_iff.mp q).2.1))
    · rw [if_neg cp, if_neg (by decide)]
      exact go (fun q => cp (isPb_iff.mp q).1)
  · rw [if_neg (by omega)]
    have ek : tkK pl B N a = 0 := tkK_end.mpr (by omega)
    refine ⟨_, _, rfl, ⟨?_, Or.inl ⟨ek, ?_⟩⟩, ((f5.tr (NxFr.u (by omega))).tr (NxFr.u (Or.inl rfl))).tr (NxFr.u (Or.inr (Or.inl rfl)))⟩
    · rw [q_u_k (by decide), q_u_at, q_u_k (by decide), h5.1]; omega
    · rw [q_u_k (by decide), q_u_k (by decide), q_u_at]
end MXs
