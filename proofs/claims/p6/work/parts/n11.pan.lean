/-! The line pan, in both. By hand. -/
theorem bit_tab : ∀ x : Fin 32, ∀ d : Fin 5, ∀ e : Fin 5, (bitZ (wOr (x.val : Int) (wShl 1 (d.val : Int))) e.val = (bitZ (x.val : Int) e.val || d.val == e.val)) ∧ 0 ≤ wOr (x.val : Int) (wShl 1 (d.val : Int)) ∧ wOr (x.val : Int) (wShl 1 (d.val : Int)) < 32 := by decide +kernel
theorem bit_set {x : Int} (h0 : 0 ≤ x) (h1 : x < 32) {d : Nat} (hd : d < 5) : (∀ e, e < 5 → bitZ (wOr x (wShl 1 (d : Int))) e = (bitZ x e || d == e)) ∧ 0 ≤ wOr x (wShl 1 (d : Int)) ∧ wOr x (wShl 1 (d : Int)) < 32 := by
  have q := fun e (he : e < 5) => bit_tab ⟨x.toNat, by omega⟩ ⟨d, hd⟩ ⟨e, he⟩
  have ex : ((x.toNat : Nat) : Int) = x := by omega
  dsimp only at q
  rw [ex] at q
  exact ⟨fun e he => (q e he).1, (q 0 (by decide)).2⟩
theorem bit_0 : ∀ e, e < 5 → bitZ 0 e = false := by decide +kernel
/-- how many DISTRICTS are told: the flags -/
def cntD (J : gJ) (l p : Nat) : Nat := (if J (l + 8) (5 * p) = 0 then 0 else 1) + (if J (l + 8) (5 * p + 1) = 0 then 0 else 1) + (if J (l + 8) (5 * p + 2) = 0 then 0 else 1) + (if J (l + 8) (5 * p + 3) = 0 then 0 else 1) + (if J (l + 8) (5 * p + 4) = 0 then 0 else 1)
theorem cntD_le (J : gJ) (l p : Nat) : cntD J l p ≤ 5 := by
  unfold cntD
  repeat' split
  all_goals omega
theorem cntD_up {J : gJ} {l p d : Nat} (hd : d < 5) (h : J (l + 8) (5 * p + d) = 0) : cntD (q_u J (l + 8) (5 * p + d) 1) l p = cntD J l p + 1 := by
  unfold cntD
  match d, hd with
  | 0, _ => rw [show 5 * p + 0 = 5 * p from rfl] at h ⊢; rw [q_u_at, q_u_k (by omega), q_u_k (by omega), q_u_k (by omega), q_u_k (by omega), h]; simp; omega
  | 1, _ => rw [q_u_at, q_u_k (by omega), q_u_k (by omega), q_u_k (by omega), q_u_k (by omega), h]; simp; omega
  | 2, _ => rw [q_u_at, q_u_k (by omega), q_u_k (by omega), q_u_k (by omega), q_u_k (by omega), h]; simp; omega
  | 3, _ => rw [q_u_at, q_u_k (by omega), q_u_k (by omega), q_u_k (by omega), q_u_k (by omega), h]; simp; omega
  | 4, _ => rw [q_u_at, q_u_k (by omega), q_u_k (by omega), q_u_k (by omega), q_u_k (by omega), h]; simp
  | (d + 5), h5 => omega
section PN
variable {pl : Bool} {B : Nat → Int} {N T o m l b : Nat} {J J2 J3 : gJ} {L L2 L3 : gL} {I I2 I3 : gJ} {K K2 K3 : gL}
theorem c_p37 (k : Nat) (y : Int) : gLand_readPan_37 (k + 1) l o J L y 12 = gLand_readPan_37 1 l o J L y 12 := by
  rw [eLand_readPan_37, eLand_readPan_37, if_pos (by decide), if_pos (by decide)]
theorem m_p50 (k : Nat) (p : Int) : gModel_readPan_50 (k + 1) m I K p 12 = gModel_readPan_50 1 m I K p 12 := by
  rw [eModel_readPan_50, eModel_readPan_50, if_pos (by decide), if_pos (by decide)]
/-- what a PAN makes in its twelve MONTHS -/
theorem s_makes (hB : BR B) (hsep : l + 16 ≤ o ∨ o + 7 ≤ l) {np : Nat} : ∀ (f i k k' : Nat) (J I : gJ) (K : gL), i + f = 12 → f < k → f < k' → Sy pl B N T o m J L I K → J l 2 = (np : Int) → ∃ J2 I2 K2, gLand_readPan_37 k l o J L (yS (J (l + 7)) (12 * np) i) i = gLand_readPan_37 1 l o J2 L (yS (J2 (l + 7)) (12 * np) 12) 12 ∧ gModel_readPan_50 k' m I K ((3 * b + np : Nat) : Int) i = gModel_readPan_50 1 m I2 K2 ((3 * b + np : Nat) : Int) 12 ∧ Sy pl B N T o m J2 L I2 K2 ∧ (∀ r y, ¬ (r = o ∧ (y = 7 ∨ y = 8 ∨ y = 10)) → ¬ (r = l + 7 ∧ 12 * np + i ≤ y ∧ y < 12 * np + 12) → J2 r y = J r y) ∧ J o 10 ≤ J2 o 10 ∧ (∀ r y, ¬ (r = m ∧ (y = 4 ∨ y = 5 ∨ y = 6 ∨ y = 7 ∨ y = 8 ∨ y = 9)) → ¬ (r = m + 17 ∧ 12 * (3 * b + np) + i ≤ y ∧ y < 12 * (3 * b + np) + 12) → I2 r y = I r y) ∧ (∀ r y, ¬ (r = m ∧ y = 10) → K2 r y = K r y) ∧ (J2 o 7 = 0 → J o 7 = 0 ∧ ∀ q, i ≤ q → q < 12 → I2 (m + 17) (12 * (3 * b + np) + q) = J2 (l + 7) (12 * np + q) ∧ 0 ≤ J2 (l + 7) (12 * np + q) ∧ J2 (l + 7) (12 * np + q) ≤ 999) := by
  intro f
  induction f with
  | zero =>
    intro i k k' J I K hi hk hk' hs h2
    obtain ⟨k, rfl⟩ : ∃ z, k = z + 1 := ⟨k - 1, by omega⟩
    obtain ⟨k', rfl⟩ : ∃ z, k' = z + 1 := ⟨k' - 1, by omega⟩
    have e : i = 12 := by omega
    subst e
    exact ⟨J, I, K, c_p37 k _, m_p50 k' _, hs, fun _ _ _ _ => rfl, Int.le_refl _, fun _ _ _ _ => rfl, fun _ _ _ => rfl, fun q => ⟨q, fun q h1 h2 => by omega⟩⟩
  | succ f ih =>
    intro i k k' J I K hi hk hk' hs h2
    obtain ⟨k, rfl⟩ : ∃ z, k = z + 1 := ⟨k - 1, by omega⟩
    obtain ⟨k', rfl⟩ : ∃ z, k' = z + 1 := ⟨k' - 1, by omega⟩
    obtain ⟨r, J1, r', I1, K1, e1, e2, e3, e4, e5, e6, e7⟩ := hs.num hB 0 999
    have s2 : Sy pl B N T o m (q_u J1 (l + 7) (12 * np + i) r) L (q_u I1 (m + 17) (12 * (3 * b + np) + i) r') K1 := e3.mv (fun _ => by rw [q_u_ne (by omega)]) (fun _ _ _ => q_u_ne (by omega)) (fun _ _ _ => rfl) (fun _ => by rw [q_u_ne (by omega)]) (q_u_ne (by omega)) rfl
    have h22 : q_u J1 (l + 7) (12 * np + i) r l 2 = (np : Int) := by rw [q_u_ne (by omega), e4.1 _ _ (by omega)]; exact h2
    obtain ⟨J2, I2, K2, a1, a2, a3, a4, aN, a5, a6, a7⟩ := ih (i + 1) k k' _ _ _ (by omega) (by omega) (by omega) s2 h22
    have ey : yS (q_u J1 (l + 7) (12 * np + i) r (l + 7)) (12 * np) (i + 1) = wAdd (yS (J (l + 7)) (12 * np) i) r := by
      show wAdd (yS (q_u J1 (l + 7) (12 * np + i) r (l + 7)) (12 * np) i) (q_u J1 (l + 7) (12 * np + i) r (l + 7) (12 * np + i)) = _
      rw [q_u_at, yS_congr (g := J (l + 7)) i (fun q hq => by rw [q_u_k (by omega), e4.1 _ _ (by omega)])]
    refine ⟨J2, I2, K2, ?_, ?_, a3, fun r y p q => ?_, Int.le_trans e4.2.2 (by rw [q_u_ne (by omega)] at aN; exact aN), fun r y p q => ?_, fun r y p => ?_, fun q => ?_⟩
    · rw [eLand_readPan_37, if_neg (by omega)]
      simp only [gLetp, gB3p, h2, e1, h22, show Int.toNat ((np : Int) * 12 + (i : Int)) = 12 * np + i by omega, q_u_at, nat1]
      rw [← ey]
      exact a1
    · rw [eModel_readPan_50, if_neg (by omega)]
      simp only [gLetp, gB3p, e2, show Int.toNat (12 * ((3 * b + np : Nat) : Int) + (i : Int)) = 12 * (3 * b + np) + i by omega, nat1]
      exact a2
    · rw [a4 r y p (by omega), q_u_off (by omega)]
      exact e4.1 r y p
    · rw [a5 r y p (by omega), q_u_off (by omega)]
      exact e5.1 r y p
    · rw [a6 r y p]
      exact e5.2 r y p
    · obtain ⟨b1, b2⟩ := a7 q
      rw [q_u_ne (by omega)] at b1
      obtain ⟨c1, c2, c3⟩ := e6 b1
      refine ⟨e4.2.1 b1, fun q h1 h2 => ?_⟩
      by_cases z : q = i
      · subst z
        rw [a5 _ _ (by omega) (by omega), a4 _ _ (by omega) (by omega), q_u_at, q_u_at]
        exact ⟨c1, c2, c3⟩
      · exact b2 q (by omega) h2
theorem c_serves {np d : Nat} (hd : d < 5) : gLand_serves_0 l J L (np : Int) (d : Int) = if J (l + 8) (5 * np + d) = 0 then 0 else 1 := by
  unfold gLand_serves_0
  simp only [gLetp]
  rw [if_neg (by omega), if_neg (by omega), show Int.toNat ((np : Int) * 5 + (d : Int)) = 5 * np + d by omega]
theorem c_servesX {np v : Int} (h : v < 0 ∨ 5 ≤ v) : gLand_serves_0 l J L np v = 0 := by
  unfold gLand_serves_0
  simp only [gLetp]
  rcases h with h | h
  · rw [if_pos h]
  · rw [if_neg (by omega), if_pos h]
/-- the flags of the DISTRICTS are the bits -/
def DsR (l m P np : Nat) (J I : gJ) : Prop := (∀ d, d < 5 → (J (l + 8) (5 * np + d) = 0 ↔ bitZ (I (m + 18) P) d = false)) ∧ 0 ≤ I (m + 18) P ∧ I (m + 18) P < 32
/-- a DISTRICT, in both -/
theorem s_dist {j np P k : Nat} (hB : BR B) (hsep : l + 16 ≤ o ∨ o + 7 ≤ l) (h : Sg pl B N T o m J L I K j) (h2 : J l 2 = (np : Int)) (hD : DsR l m P np J I) : ∃ J2 I2 K2, gLand_readDistrict_0 l o J L = (0, J2, L) ∧ gModel_readPan_101 (k + 1) m I K (P : Int) 1 = gModel_readPan_101 k m I2 K2 (P : Int) (if I2 m 8 = 4 then 1 else 0) ∧ Sy pl B N T o m J2 L I2 K2 ∧ (∀ r y, ¬ (r = o ∧ (y = 7 ∨ y = 8 ∨ y = 10)) → ¬ (r = l + 8 ∧ 5 * np ≤ y ∧ y < 5 * np + 5) → J2 r y = J r y) ∧ J o 10 ≤ J2 o 10 ∧ (∀ r y, ¬ (r = m ∧ (y = 4 ∨ y = 5 ∨ y = 6 ∨ y = 7 ∨ y = 8 ∨ y = 9)) → ¬ (r = m + 18 ∧ y = P) → I2 r y = I r y) ∧ (∀ r y, ¬ (r = m ∧ y = 10) → K2 r y = K r y) ∧ (J2 o 7 = 0 → cntD J2 l np = cntD J l np + 1 ∧ DsR l m P np J2 I2) := by
  have hs : Sy pl B N T o m J L I K := Or.inl ⟨j, h⟩
  have t := h.2.2.2.2.2
  -- how the reference's iteration ends
  have e153 : ∀ (I' : gJ) (K' : gL) (v d : Int), gModel_readPan_153 (gModel_readPan_101 k m) m I' K' (P : Int) 1 v d = gModel_readPan_101 k m (q_u I' (m + 18) P (wOr (I' (m + 18) P) (wShl 1 d))) K' (P : Int) (if q_u I' (m + 18) P (wOr (I' (m + 18) P) (wShl 1 d)) m 8 = 4 then 1 else 0) := by
    intro I' K' v d
    unfold gModel_readPan_153 gModel_readPan_179
    simp only [gLetp, Int.toNat_natCast]
    split
    · rfl
    · rfl
  by_cases c : tkK pl B N (tkS pl B N j) = 2 ∧ ∃ d : Nat, d < 5 ∧ tkN B N (tkS pl B N j) = (d : Int) ∧ J (l + 8) (5 * np + d) ≠ 0
  · -- a second time
    obtain ⟨c2, d, hd, ed, hf⟩ := c
    have c0 : tkK pl B N (tkS pl B N j) ≠ 0 := by rw [c2]; decide
    have c5 : tkK pl B N (tkS pl B N j) ≠ 5 := by rw [c2]; decide
    have hfl := h.fail (f := 4) (by decide)
    have hJ7 : q_u (q_u J o 7 4) o 8 ((tkS pl B N j : Nat) : Int) o 7 ≠ 0 := hfl.2.2.2.1
    obtain ⟨r, J1, r', I1, K1, e1, e2, e3, e4, e5, e6, e7⟩ := hs.num hB 0 4
    have hr : gTape_takeNumber_0 o J L 0 4 = ((d : Int), q_u J o 10 ((j + 1 : Nat) : Int), L) := by
      unfold gTape_takeNumber_0
      simp only [gLetp, gB3p]
      rw [h.1.isNumber, if_pos c2, if_neg (by decide), h.1.valN c2, ed, if_neg (by omega), if_pos (by omega), (h.1.step c0 c5).1]
    rw [hr] at e1
    have er : r = (d : Int) := (congrArg Prod.fst e1).symm
    have eJ : J1 = q_u J o 10 ((j + 1 : Nat) : Int) := (congrArg (fun z => z.2.1) e1).symm
    have g1 : J1 o 7 = 0 := by rw [eJ, q_u_k (by decide)]; exact h.1.2.2.2.1
    obtain ⟨x1, x2, x3⟩ := e6 g1
    have i4 : I1 m 4 = 0 := e3.good.mp g1
    have bt : bitZ (I (m + 18) P) d = true := by
      by_cases z : bitZ (I (m + 18) P) d = true
      · exact z
      · exact absurd ((hD.1 d hd).mpr (Bool.eq_false_iff.mpr z)) hf
    have i18 : I1 (m + 18) P = I (m + 18) P := e5.1 _ _ (by omega)
    refine ⟨q_u (q_u J o 7 4) o 8 ((tkS pl B N j : Nat) : Int), q_u (q_u (q_u I1 m 4 4) m 5 ((tkS pl B N j : Nat) : Int)) (m + 18) P (wOr (q_u (q_u I1 m 4 4) m 5 ((tkS pl B N j : Nat) : Int) (m + 18) P) (wShl 1 (d : Int))), K1, ?_, ?_, ?_, ?_, (cfr78 h.1.2.2.2.1).2.2, ?_, ?_, fun q => absurd q hJ7⟩
    · unfold gLand_readDistrict_0 gLand_readDistrict_27
      simp only [gLetp, gB3p]
      have ev : gTape_value_0 o J L = (d : Int) := by
        unfold gTape_value_0
        simp only [gLetp]
        rw [h.1.valN c2, ed]
      rw [h.1.isNumber, if_pos c2, if_neg (by decide), h2, ev, c_serves hd, if_neg hf, if_neg (by decide), h.1.refuse, if_neg c5]
      dsimp only
      have et : gTape_takeNumber_0 o (q_u (q_u J o 7 4) o 8 ((tkS pl B N j : Nat) : Int)) L 0 4 = (-1, q_u (q_u J o 7 4) o 8 ((tkS pl B N j : Nat) : Int), L) := by
        unfold gTape_takeNumber_0
        simp only [gLetp, gB3p]
        rw [cb_isNumber hJ7, if_pos (by decide), cb_refuse hJ7]
      rw [et, if_pos rfl]
    · rw [eModel_readPan_101, if_neg (by decide)]
      simp only [gLetp, gB3p]
      rw [h.2.isGood, if_neg (show ¬ (1 : Int) = 0 by decide), e2]
      dsimp only
      have gg : gModel_isGood_0 m I1 K1 = 1 := by
        unfold gModel_isGood_0
        simp only [gLetp]
        rw [i4, if_pos (by decide)]
      rw [gg, if_neg (show ¬ (1 : Int) = 0 by decide), Int.toNat_natCast]
      have b1 : wAnd (wShr (I (m + 18) P) (d : Int)) 1 = 1 := by
        unfold bitZ at bt
        exact eq_of_beq bt
      rw [if_pos (show wAnd (wShr (I1 (m + 18) P) r') 1 = 1 by rw [i18, x1, er]; exact b1), t.1, m_fails i4]
      dsimp only
      rw [e153, x1, er]
    · refine Or.inr ⟨hfl.1, ?_, ?_, hJ7, ?_, ?_⟩
      · exact (e5.mx h.2.1).mv (by rw [q_u_ne (by omega), q_u_k (by decide), q_u_k (by decide)]) (by rw [q_u_ne (by omega), q_u_ne (by omega), q_u_ne (by omega)])
      · rw [q_u_ne (by omega), q_u_k (by decide), q_u_k (by decide), e5.1 _ _ (by omega)]; exact h.2.2.1
      · rw [q_u_ne (by omega), q_u_k (by decide), q_u_at, q_u_k (by decide), q_u_at]
      · rw [q_u_ne (by omega), q_u_at, q_u_at]
    · exact fun r y p q => (cfr78 (v := 4) h.1.2.2.2.1).1 r y p
    · exact fun r y p q => by rw [q_u_off (by omega), q_u_off (by omega), q_u_off (by omega)]; exact e5.1 r y p
    · exact fun r y p => e5.2 r y p
  · -- a first time, or no number that can be
    obtain ⟨r, J1, r', I1, K1, e1, e2, e3, e4, e5, e6, e7⟩ := hs.num hB 0 4
    have e27 : gLand_readDistrict_0 l o J L = gLand_readDistrict_27 l o J L := by
      unfold gLand_readDistrict_0
      simp only [gLetp, gB3p]
      rw [h.1.isNumber]
      by_cases c2 : tkK pl B N (tkS pl B N j) = 2
      · rw [if_pos c2, if_neg (by decide), h2]
        have ev : gTape_value_0 o J L = tkN B N (tkS pl B N j) := by
          unfold gTape_value_0
          simp only [gLetp]
          rw [h.1.valN c2]
        rw [ev]
        by_cases cr : tkN B N (tkS pl B N j) < 0 ∨ 5 ≤ tkN B N (tkS pl B N j)
        · rw [c_servesX cr, if_pos (by decide)]
        · have hd : (tkN B N (tkS pl B N j)).toNat < 5 := by omega
          have ed : tkN B N (tkS pl B N j) = (((tkN B N (tkS pl B N j)).toNat : Nat) : Int) := by omega
          have hz : J (l + 8) (5 * np + (tkN B N (tkS pl B N j)).toNat) = 0 := by
            by_cases z : J (l + 8) (5 * np + (tkN B N (tkS pl B N j)).toNat) = 0
            · exact z
            · exact absurd ⟨c2, _, hd, ed, z⟩ c
          rw [ed, c_serves hd, if_pos hz, if_pos (by decide)]
      · rw [if_neg c2, if_pos (by decide)]
    have em : gModel_readPan_101 (k + 1) m I K (P : Int) 1 = gModel_readPan_153 (gModel_readPan_101 k m) m I1 K1 (P : Int) 1 (I m 6) r' := by
      rw [eModel_readPan_101, if_neg (by decide)]
      simp only [gLetp, gB3p]
      rw [h.2.isGood, if_neg (show ¬ (1 : Int) = 0 by decide), e2]
      dsimp only
      by_cases g1 : J1 o 7 = 0
      · obtain ⟨x1, x2, x3⟩ := e6 g1
        have gg : gModel_isGood_0 m I1 K1 = 1 := by
          unfold gModel_isGood_0
          simp only [gLetp]
          rw [e3.good.mp g1, if_pos (show (0 : Int) = 0 by decide)]
        rw [gg, if_neg (show ¬ (1 : Int) = 0 by decide), Int.toNat_natCast]
        have nb : ¬ wAnd (wShr (I (m + 18) P) r) 1 = 1 := by
          intro w
          have ed : r = ((r.toNat : Nat) : Int) := by omega
          have hd : r.toNat < 5 := by omega
          have bt : bitZ (I (m + 18) P) r.toNat = true := by
            unfold bitZ
            rw [← ed]
            exact beq_iff_eq.mpr w
          have hf : J (l + 8) (5 * np + r.toNat) ≠ 0 := fun z => by
            rw [(hD.1 _ hd).mp z] at bt
            exact absurd bt (by decide)
          apply c
          -- the number is the TOKEN's
          unfold gTape_takeNumber_0 gTape_takeNumber_35 at e1
          simp only [gLetp, gB3p] at e1
          rw [h.1.isNumber] at e1
          by_cases c2 : tkK pl B N (tkS pl B N j) = 2
          · rw [if_pos c2, if_neg (by decide), h.1.valN c2] at e1
            refine ⟨c2, r.toNat, hd, ?_, hf⟩
            split at e1
            · have := congrArg Prod.fst e1; dsimp only at this; omega
            · split at e1
              · have := congrArg Prod.fst e1; dsimp only at this; omega
              · have := congrArg Prod.fst e1; dsimp only at this; omega
          · rw [if_neg c2, if_pos (by decide)] at e1
            have := congrArg Prod.fst e1; dsimp only at this; omega
        rw [if_neg (show ¬ wAnd (wShr (I1 (m + 18) P) r') 1 = 1 by rw [e5.1 (m + 18) P (by omega), x1]; exact nb)]
      · have gg : gModel_isGood_0 m I1 K1 = 0 := mb_isGood (fun z => g1 (e3.good.mpr z))
        rw [gg, if_pos (show (0 : Int) = 0 by decide)]
    by_cases g1 : J1 o 7 = 0
    · obtain ⟨x1, x2, x3⟩ := e6 g1
      have ed : r = ((r.toNat : Nat) : Int) := by omega
      have hd : r.toNat < 5 := by omega
      have j8 : J1 (l + 8) = J (l + 8) := e4.row (by omega)
      have i18 : I1 (m + 18) P = I (m + 18) P := e5.1 _ _ (by omega)
      have hz : J (l + 8) (5 * np + r.toNat) = 0 := by
        by_cases z : J (l + 8) (5 * np + r.toNat) = 0
        · exact z
        · exfalso
          apply c
          unfold gTape_takeNumber_0 gTape_takeNumber_35 at e1
          simp only [gLetp, gB3p] at e1
          rw [h.1.isNumber] at e1
          by_cases c2 : tkK pl B N (tkS pl B N j) = 2
          · rw [if_pos c2, if_neg (by decide), h.1.valN c2] at e1
            refine ⟨c2, r.toNat, hd, ?_, z⟩
            split at e1
            · have := congrArg Prod.fst e1; dsimp only at this; omega
            · split at e1
              · have := congrArg Prod.fst e1; dsimp only at this; omega
              · have := congrArg Prod.fst e1; dsimp only at this; omega
          · rw [if_neg c2, if_pos (by decide)] at e1
            have := congrArg Prod.fst e1; dsimp only at this; omega
      obtain ⟨b1, b2, b3⟩ := bit_set hD.2.1 hD.2.2 hd
      refine ⟨q_u J1 (l + 8) (5 * np + r.toNat) 1, q_u I1 (m + 18) P (wOr (I1 (m + 18) P) (wShl 1 r')), K1, ?_, by rw [em, e153], ?_, fun r y p q => ?_, by rw [q_u_ne (by omega)]; exact e4.2.2, fun r y p q => ?_, fun r y p => e5.2 r y p, fun _ => ⟨?_, ?_⟩⟩
      · rw [e27]
        unfold gLand_readDistrict_27
        simp only [gLetp, gB3p, e1]
        rw [if_neg (by omega), e4.1 l 2 (by omega), h2, show Int.toNat ((np : Int) * 5 + r) = 5 * np + r.toNat by omega]
      · exact e3.mv (fun _ => by rw [q_u_ne (by omega)]) (fun _ _ _ => q_u_ne (by omega)) (fun _ _ _ => rfl) (fun _ => by rw [q_u_ne (by omega)]) (q_u_ne (by omega)) rfl
      · rw [q_u_off (by omega)]; exact e4.1 r y p
      · rw [q_u_off q]; exact e5.1 r y p
      · rw [cntD_up hd (by rw [j8]; exact hz)]
        unfold cntD
        rw [j8]
      · rw [i18, x1, ed]
        refine ⟨fun d hd2 => ?_, by rw [q_u_at]; exact b2, by rw [q_u_at]; exact b3⟩
        rw [q_u_at, Int.toNat_natCast, b1 d hd2]
        by_cases z : d = r.toNat
        · subst z
          rw [q_u_at]
          simp
        · rw [q_u_k (by omega), j8]
          have zz : (r.toNat == d) = false := beq_eq_false_iff_ne.mpr (fun w => z w.symm)
          rw [zz, Bool.or_false]
          exact hD.1 d hd2
    · refine ⟨J1, q_u I1 (m + 18) P (wOr (I1 (m + 18) P) (wShl 1 r')), K1, ?_, by rw [em, e153], ?_, fun r y p q => e4.1 r y p, e4.2.2, fun r y p q => by rw [q_u_off q]; exact e5.1 r y p, fun r y p => e5.2 r y p, fun q => absurd q g1⟩
      · rw [e27]
        unfold gLand_readDistrict_27
        simp only [gLetp, gB3p, e1]
        rw [if_pos (e7 g1)]
      · exact e3.mv (fun _ => rfl) (fun _ _ _ => rfl) (fun _ _ _ => rfl) (fun _ => by rw [q_u_ne (by omega)]) (q_u_ne (by omega)) rfl
theorem c_p122 (k : Nat) (y : Int) {i : Int} (h : i = 5 ∨ gTape_isNumber_0 o J L = 0) : gLand_readPan_122 (k + 1) l o J L y i = gLand_readPan_122 1 l o J L y 5 := by
  rw [eLand_readPan_122, eLand_readPan_122, if_pos (show (5 : Int) ≤ 5 by decide)]
  rcases h with h | h
  · rw [if_pos (by omega)]
  · simp only [gLetp]
    rw [h]
    by_cases c : 5 ≤ i
    · rw [if_pos c]
    · rw [if_neg c, if_pos (show (0 : Int) = 0 by decide)]
theorem m_p101 (k : Nat) {P z : Int} (h : z = 0 ∨ gModel_isGood_0 m I K = 0) : gModel_readPan_101 (k + 1) m I K P z = gModel_readPan_183 m I K P 0 := by
  rw [eModel_readPan_101]
  simp only [gLetp]
  rcases h with h | h
  · rw [if_pos h]; rfl
  · by_cases c : z = 0
    · rw [if_pos c]; rfl
    · rw [if_neg c, h, if_pos (show (0 : Int) = 0 by decide)]; rfl
/-- all DISTRICTS behind the first -/
theorem s_dists (hB : BR B) (hsep : l + 16 ≤ o ∨ o + 7 ≤ l) {np P : Nat} (y0 : Int) : ∀ (f i k k' : Nat) (J I : gJ) (K : gL), i + f = 5 → f < k → f + 1 < k' → Sy pl B N T o m J L I K → J l 2 = (np : Int) → (J o 7 = 0 → cntD J l np = i + 1 ∧ DsR l m P np J I) → ∃ J2 I2 K2, gLand_readPan_122 k l o J L y0 i = gLand_readPan_122 1 l o J2 L y0 5 ∧ gModel_readPan_101 k' m I K (P : Int) (if I m 8 = 4 then 1 else 0) = gModel_readPan_183 m I2 K2 (P : Int) 0 ∧ Sy pl B N T o m J2 L I2 K2 ∧ (∀ r y, ¬ (r = o ∧ (y = 7 ∨ y = 8 ∨ y = 10)) → ¬ (r = l + 8 ∧ 5 * np ≤ y ∧ y < 5 * np + 5) → J2 r y = J r y) ∧ J o 10 ≤ J2 o 10 ∧ (∀ r y, ¬ (r = m ∧ (y = 4 ∨ y = 5 ∨ y = 6 ∨ y = 7 ∨ y = 8 ∨ y = 9)) → ¬ (r = m + 18 ∧ y = P) → I2 r y = I r y) ∧ (∀ r y, ¬ (r = m ∧ y = 10) → K2 r y = K r y) ∧ (J2 o 7 = 0 → J o 7 = 0 ∧ DsR l m P np J2 I2) := by
  intro f
  induction f with
  | zero =>
    intro i k k' J I K hi hk hk' hs h2 hD
    obtain ⟨k, rfl⟩ : ∃ z, k = z + 1 := ⟨k - 1, by omega⟩
    obtain ⟨k', rfl⟩ : ∃ z, k' = z + 1 := ⟨k' - 1, by omega⟩
    have hb : J o 7 ≠ 0 := fun z => by
      have := (hD z).1
      have := cntD_le J l np
      omega
    refine ⟨J, I, K, c_p122 k y0 (Or.inl (by omega)), m_p101 k' (Or.inr (mb_isGood (fun z => hb (hs.good.mpr z)))), hs, fun _ _ _ _ => rfl, Int.le_refl _, fun _ _ _ _ => rfl, fun _ _ _ => rfl, fun q => absurd q hb⟩
  | succ f ih =>
    intro i k k' J I K hi hk hk' hs h2 hD
    obtain ⟨k, rfl⟩ : ∃ z, k = z + 1 := ⟨k - 1, by omega⟩
    obtain ⟨k', rfl⟩ : ∃ z, k' = z + 1 := ⟨k' - 1, by omega⟩
    by_cases g : J o 7 = 0
    · obtain ⟨j, hg⟩ := hs.gd g
      obtain ⟨hc, hd⟩ := hD g
      by_cases c : tkK pl B N (tkS pl B N j) = 2
      · have c8 : I m 8 = 4 := hg.2.2.2.2.2.c4.mpr c
        obtain ⟨J1, I1, K1, e1, e2, e3, e4, eN, e5, e6, e7⟩ := s_dist (k := k') hB hsep hg h2 hd
        have h21 : J1 l 2 = (np : Int) := by rw [e4 _ _ (by omega) (by omega)]; exact h2
        obtain ⟨J2, I2, K2, a1, a2, a3, a4, aN, a5, a6, a7⟩ := ih (i + 1) k k' J1 I1 K1 (by omega) (by omega) (by omega) e3 h21 (fun z => ⟨by rw [(e7 z).1, hc], (e7 z).2⟩)
        refine ⟨J2, I2, K2, ?_, ?_, a3, fun r y p q => by rw [a4 r y p q]; exact e4 r y p q, Int.le_trans eN aN, fun r y p q => by rw [a5 r y p q]; exact e5 r y p q, fun r y p => by rw [a6 r y p]; exact e6 r y p, fun q => ⟨g, (a7 q).2⟩⟩
        · rw [eLand_readPan_122, if_neg (by omega)]
          simp only [gLetp, gB3p]
          rw [hg.1.isNumber, if_pos c, if_neg (by decide), e1, nat1]
          exact a1
        · rw [if_pos c8, e2]
          exact a2
      · have c8 : ¬ I m 8 = 4 := fun q => c (hg.2.2.2.2.2.c4.mp q)
        refine ⟨J, I, K, c_p122 k y0 (Or.inr (by rw [hg.1.isNumber, if_neg c])), m_p101 k' (Or.inl (if_neg c8)), hs, fun _ _ _ _ => rfl, Int.le_refl _, fun _ _ _ _ => rfl, fun _ _ _ => rfl, fun q => ⟨q, hd⟩⟩
    · exact ⟨J, I, K, c_p122 k y0 (Or.inr (cb_isNumber g)), m_p101 k' (Or.inr (mb_isGood (fun z => g (hs.good.mpr z)))), hs, fun _ _ _ _ => rfl, Int.le_refl _, fun _ _ _ _ => rfl, fun _ _ _ => rfl, fun q => absurd q g⟩
/-- what a PAN serves -/
theorem s_serves (hB : BR B) (hsep : l + 16 ≤ o ∨ o + 7 ≤ l) {np P : Nat} (y0 : Int) (hs : Sy pl B N T o m J L I K) (h2 : J l 2 = (np : Int)) (hD : J o 7 = 0 → cntD J l np = 0 ∧ DsR l m P np J I) : ∃ J2 I2 K2, gB3 (gLand_readDistrict_0 l o J L) (fun _ J1 L1 => gLand_readPan_122 20000 l o J1 L1 y0 0) = gLand_readPan_122 1 l o J2 L y0 5 ∧ gModel_readPan_101 20000 m I K (P : Int) 1 = gModel_readPan_183 m I2 K2 (P : Int) 0 ∧ Sy pl B N T o m J2 L I2 K2 ∧ (∀ r y, ¬ (r = o ∧ (y = 7 ∨ y = 8 ∨ y = 10)) → ¬ (r = l + 8 ∧ 5 * np ≤ y ∧ y < 5 * np + 5) → J2 r y = J r y) ∧ J o 10 ≤ J2 o 10 ∧ (∀ r y, ¬ (r = m ∧ (y = 4 ∨ y = 5 ∨ y = 6 ∨ y = 7 ∨ y = 8 ∨ y = 9)) → ¬ (r = m + 18 ∧ y = P) → I2 r y = I r y) ∧ (∀ r y, ¬ (r = m ∧ y = 10) → K2 r y = K r y) ∧ (J2 o 7 = 0 → J o 7 = 0 ∧ DsR l m P np J2 I2) := by
  by_cases g : J o 7 = 0
  · obtain ⟨j, hg⟩ := hs.gd g
    obtain ⟨hc, hd⟩ := hD g
    obtain ⟨J1, I1, K1, e1, e2, e3, e4, eN, e5, e6, e7⟩ := s_dist (k := 19999) hB hsep hg h2 hd
    have h21 : J1 l 2 = (np : Int) := by rw [e4 _ _ (by omega) (by omega)]; exact h2
    obtain ⟨J2, I2, K2, a1, a2, a3, a4, aN, a5, a6, a7⟩ := s_dists (P := P) hB hsep y0 5 0 20000 19999 J1 I1 K1 rfl (by decide) (by decide) e3 h21 (fun z => ⟨by rw [(e7 z).1, hc], (e7 z).2⟩)
    refine ⟨J2, I2, K2, ?_, ?_, a3, fun r y p q => by rw [a4 r y p q]; exact e4 r y p q, Int.le_trans eN aN, fun r y p q => by rw [a5 r y p q]; exact e5 r y p q, fun r y p => by rw [a6 r y p]; exact e6 r y p, fun q => ⟨g, (a7 q).2⟩⟩
    · simp only [gB3p, e1]
      exact a1
    · exact e2.trans a2
  · have h4 : I m 4 ≠ 0 := fun z => g (hs.good.mpr z)
    refine ⟨J, I, K, ?_, m_p101 19999 (Or.inr (mb_isGood h4)), hs, fun _ _ _ _ => rfl, Int.le_refl _, fun _ _ _ _ => rfl, fun _ _ _ => rfl, fun q => absurd q g⟩
    have e27 : gLand_readDistrict_0 l o J L = (0, J, L) := by
      unfold gLand_readDistrict_0 gLand_readDistrict_27 gTape_takeNumber_0
      simp only [gLetp, gB3p]
      rw [cb_isNumber g, if_pos (show (0 : Int) = 0 by decide), if_pos (show (0 : Int) = 0 by decide), cb_refuse g, if_pos rfl]
    simp only [gB3p, e27]
    exact c_p122 19999 y0 (Or.inr (cb_isNumber g))
end PN
