/-! feed in both: twenty bytes. By hand. -/
theorem shr_byte (X : BitVec 32) (n : Nat) (hn : n ≤ 24) : X.sshiftRight n &&& 255#32 = X >>> n &&& 255#32 := by
  apply BitVec.eq_of_getLsbD_eq
  intro i hi
  rw [BitVec.getLsbD_and, BitVec.getLsbD_and]
  by_cases c : i < 8
  · congr 1
    rw [BitVec.getLsbD_sshiftRight, BitVec.getLsbD_ushiftRight, if_pos (by omega)]
    simp [show ¬ 32 ≤ i by omega]
  · have w : ∀ j, j < 32 → ¬ j < 8 → (255#32 : BitVec 32).getLsbD j = false := by decide
    rw [w i hi c, Bool.and_false, Bool.and_false]
theorem bte0 (X : Int32) : (X >>> ((0 : Int32) &&& 31)) &&& 255 = (X.toUInt32 >>> ((0 : Int32).toUInt32 &&& Int32.toUInt32 31)).toInt32 &&& 255 := by
  apply Int32.toBitVec_inj.mp
  rw [Int32.toBitVec_and, Int32.toBitVec_and]
  exact shr_byte X.toBitVec 0 (by decide)
theorem bte8 (X : Int32) : (X >>> ((8 : Int32) &&& 31)) &&& 255 = (X.toUInt32 >>> ((8 : Int32).toUInt32 &&& Int32.toUInt32 31)).toInt32 &&& 255 := by
  apply Int32.toBitVec_inj.mp
  rw [Int32.toBitVec_and, Int32.toBitVec_and]
  exact shr_byte X.toBitVec 8 (by decide)
theorem bte16 (X : Int32) : (X >>> ((16 : Int32) &&& 31)) &&& 255 = (X.toUInt32 >>> ((16 : Int32).toUInt32 &&& Int32.toUInt32 31)).toInt32 &&& 255 := by
  apply Int32.toBitVec_inj.mp
  rw [Int32.toBitVec_and, Int32.toBitVec_and]
  exact shr_byte X.toBitVec 16 (by decide)
theorem bte24 (X : Int32) : (X >>> ((24 : Int32) &&& 31)) &&& 255 = (X.toUInt32 >>> ((24 : Int32).toUInt32 &&& Int32.toUInt32 31)).toInt32 &&& 255 := by
  apply Int32.toBitVec_inj.mp
  rw [Int32.toBitVec_and, Int32.toBitVec_and]
  exact shr_byte X.toBitVec 24 (by decide)
theorem bte_w (x s : Int) (h : ∀ X : Int32, (X >>> (Int32.ofInt s &&& 31)) &&& 255 = (X.toUInt32 >>> ((Int32.ofInt s).toUInt32 &&& Int32.toUInt32 31)).toInt32 &&& 255) : wAnd (wI2B (wShr x s)) 255 = wAnd (wUshr x s) 255 := by
  unfold wAnd wI2B wShr wUshr
  rw [Int32.ofInt_toInt, Int32.ofInt_toInt, Int32.ofInt_toInt]
  refine congrArg Int32.toInt ?_
  refine Eq.trans ?_ (h (Int32.ofInt x))
  exact and255 _
theorem bte (x : Int) : ∀ i : Nat, i < 4 → wAnd (wI2B (wShr x (24 - 8 * (i : Int)))) 255 = wAnd (wUshr x (24 - 8 * (i : Int))) 255 := fun i hi => match i, hi with
  | 0, _ => bte_w x 24 bte24
  | 1, _ => bte_w x 16 bte16
  | 2, _ => bte_w x 8 bte8
  | 3, _ => bte_w x 0 bte0
  | (i + 4), h => absurd h (by omega)
/-- the k-th byte of five numbers -/
def fdW (x1 x2 x3 x4 x5 : Int) (k : Nat) : Int := if k < 4 then x1 else if k < 8 then x2 else if k < 12 then x3 else if k < 16 then x4 else x5
def fdB (x : Int) (i : Nat) : Int := wAnd (wUshr x (24 - 8 * (i : Int))) 255
section FD
variable {ox om l t c : Nat} {J J1 J2 J' : gJ} {L L1 L2 L' : gL} {x x1 x2 x3 x4 x5 : Int}
theorem c_app1 {k : Nat} {s : Int} (hn : J t 6 = (c : Int)) (hc : c < 1600) (hs : 0 ≤ s) : gTape_append_3 (k + 1) t J L x s = gTape_append_3 k t (q_u (q_u J (t + 1) c (wAnd (wUshr x s) 255)) t 6 ((c + 1 : Nat) : Int)) L x (s + -8) := by
  rw [eTape_append_3, if_neg (by omega)]
  simp only [gLetp]
  rw [hn, if_neg (by omega), Int.toNat_natCast, q_u_ne (show t ≠ t + 1 by omega), hn]
  rfl
theorem cg_append (hn : J t 6 = (c : Int)) (hc : c + 4 ≤ 1600) : ∃ J', gTape_append_0 t J L x = (0, J', L) ∧ J' t 6 = ((c + 4 : Nat) : Int) ∧ (∀ i, i < 4 → J' (t + 1) (c + i) = fdB x i) ∧ ∀ r y, ¬ (r = t ∧ y = 6) → ¬ (r = t + 1 ∧ c ≤ y ∧ y < c + 4) → J' r y = J r y := by
  unfold gTape_append_0
  show ∃ J', gTape_append_3 (19999 + 1) t J L x 24 = _ ∧ _
  rw [c_app1 hn (by omega) (by decide)]
  show ∃ J', gTape_append_3 (19998 + 1) t _ L x 16 = _ ∧ _
  rw [c_app1 (c := c + 1) q_u_at (by omega) (by decide)]
  show ∃ J', gTape_append_3 (19997 + 1) t _ L x 8 = _ ∧ _
  rw [c_app1 (c := c + 1 + 1) q_u_at (by omega) (by decide)]
  show ∃ J', gTape_append_3 (19996 + 1) t _ L x 0 = _ ∧ _
  rw [c_app1 (c := c + 1 + 1 + 1) q_u_at (by omega) (by decide)]
  show ∃ J', gTape_append_3 (19995 + 1) t _ L x (-8) = _ ∧ _
  rw [eTape_append_3, if_pos (by decide)]
  refine ⟨_, rfl, q_u_at, fun i hi => ?_, fun r y h1 h2 => ?_⟩
  · have i4 : i = 0 ∨ i = 1 ∨ i = 2 ∨ i = 3 := by omega
    rw [q_u_ne (show t + 1 ≠ t by omega)]
    rcases i4 with rfl | rfl | rfl | rfl
    · rw [q_u_k (by omega), q_u_ne (by omega), q_u_k (by omega), q_u_ne (by omega), q_u_k (by omega), q_u_ne (by omega)]
      exact q_u_at
    · rw [q_u_k (by omega), q_u_ne (by omega), q_u_k (by omega), q_u_ne (by omega)]
      exact q_u_at
    · rw [q_u_k (by omega), q_u_ne (by omega)]
      exact q_u_at
    · exact q_u_at
  · rw [q_u_off h1, q_u_off (by omega), q_u_off h1, q_u_off (by omega), q_u_off h1, q_u_off (by omega), q_u_off h1, q_u_off (by omega)]
theorem cg_feed (hn : J (ox + 1) 6 = (c : Int)) (hc : c + 20 ≤ 1600) : ∃ J', gOffice_feed_0 ox J L x1 x2 x3 x4 x5 = (((c + 20 : Nat) : Int), J', L) ∧ J' (ox + 1) 6 = ((c + 20 : Nat) : Int) ∧ (∀ k, k < 20 → J' (ox + 2) (c + k) = fdB (fdW x1 x2 x3 x4 x5 k) (k % 4)) ∧ ∀ r y, ¬ (r = ox + 1 ∧ y = 6) → ¬ (r = ox + 2 ∧ c ≤ y ∧ y < c + 20) → J' r y = J r y := by
  unfold gOffice_feed_0
  simp only [gLetp, gB3p]
  rw [hn, if_pos (by omega)]
  obtain ⟨Ja, ea, na, ba, fa⟩ := cg_append (L := L) (x := x1) hn (by omega)
  rw [ea]
  dsimp only
  obtain ⟨Jb, eb, nb, bb, fb⟩ := cg_append (L := L) (x := x2) na (by omega)
  rw [eb]
  dsimp only
  obtain ⟨Jc, ec, nc, bc, fc⟩ := cg_append (L := L) (x := x3) nb (by omega)
  rw [ec]
  dsimp only
  obtain ⟨Jd, ed, nd, bd, fd⟩ := cg_append (L := L) (x := x4) nc (by omega)
  rw [ed]
  dsimp only
  obtain ⟨Je, ee, ne, be, fe⟩ := cg_append (L := L) (x := x5) nd (by omega)
  rw [ee]
  dsimp only
  refine ⟨Je, by rw [ne], ne, fun k hk => ?_, fun r y h1 h2 => ?_⟩
  · by_cases c1 : k < 4
    · rw [fe _ _ (by omega) (by omega), fd _ _ (by omega) (by omega), fc _ _ (by omega) (by omega), fb _ _ (by omega) (by omega)]
      have e := ba k c1
      unfold fdW
      rw [if_pos c1, show k % 4 = k by omega]
      exact e
    · by_cases c2 : k < 8
      · rw [fe _ _ (by omega) (by omega), fd _ _ (by omega) (by omega), fc _ _ (by omega) (by omega)]
        have e := bb (k - 4) (by omega)
        unfold fdW
        rw [if_neg c1, if_pos c2, show k % 4 = k - 4 by omega, show c + k = c + 4 + (k - 4) by omega]
        exact e
      · by_cases c3 : k < 12
        · rw [fe _ _ (by omega) (by omega), fd _ _ (by omega) (by omega)]
          have e := bc (k - 8) (by omega)
          unfold fdW
          rw [if_neg c1, if_neg c2, if_pos c3, show k % 4 = k - 8 by omega, show c + k = c + 4 + 4 + (k - 8) by omega]
          exact e
        · by_cases c4 : k < 16
          · rw [fe _ _ (by omega) (by omega)]
            have e := bd (k - 12) (by omega)
            unfold fdW
            rw [if_neg c1, if_neg c2, if_neg c3, if_pos c4, show k % 4 = k - 12 by omega, show c + k = c + 4 + 4 + 4 + (k - 12) by omega]
            exact e
          · have e := be (k - 16) (by omega)
            unfold fdW
            rw [if_neg c1, if_neg c2, if_neg c3, if_neg c4, show k % 4 = k - 16 by omega, show c + k = c + 4 + 4 + 4 + 4 + (k - 16) by omega]
            exact e
  · rw [fe r y h1 (by omega), fd r y h1 (by omega), fc r y h1 (by omega), fb r y h1 (by omega), fa r y h1 (by omega)]
theorem fd_sh : ∀ i : Nat, i < 20 → wSub 24 (wMul 8 (wAnd (i : Int) 3)) = 24 - 8 * ((i % 4 : Nat) : Int) := by decide +kernel
theorem m_feed71 {K18 : gJ → gL → Int → Int → Int → Int → Int → Int → (Int × gJ × gL)} {z : Int} {i : Nat} (hi : i < 20) (hn : J om 2 = (c : Int)) : ∃ w : Int, wAnd w 255 = fdB z (i % 4) ∧ gModel_feed_71 K18 om J L x1 x2 x3 x4 x5 (i : Int) z = K18 (q_u J (om + 1) (c + i) w) L x1 x2 x3 x4 x5 ((i + 1 : Nat) : Int) := by
  refine ⟨wNar8 (wI2B (wShr z (24 - 8 * ((i % 4 : Nat) : Int)))), ?_, ?_⟩
  · rw [wNar_and]
    exact bte z (i % 4) (by omega)
  · rw [eModel_feed_71]
    simp only [gLetp]
    rw [hn, fd_sh i hi, show Int.toNat ((c : Int) + (i : Int)) = c + i by omega]
    rfl
theorem m_feed18 : ∀ (f i k : Nat) (J : gJ), i + f = 20 → f < k → J om 2 = (c : Int) → (∀ y, y < i → wAnd (J (om + 1) (c + y)) 255 = fdB (fdW x1 x2 x3 x4 x5 y) (y % 4)) → ∃ J', gModel_feed_18 k om J L x1 x2 x3 x4 x5 (i : Int) = (((c + 20 : Nat) : Int), J', L) ∧ J' om 2 = ((c + 20 : Nat) : Int) ∧ (∀ y, y < 20 → wAnd (J' (om + 1) (c + y)) 255 = fdB (fdW x1 x2 x3 x4 x5 y) (y % 4)) ∧ ∀ r y, ¬ (r = om ∧ y = 2) → ¬ (r = om + 1 ∧ c ≤ y ∧ y < c + 20) → J' r y = J r y := by
  intro f
  induction f with
  | zero =>
    intro i k J hi hk hn hb
    obtain ⟨k, rfl⟩ : ∃ k', k = k' + 1 := ⟨k - 1, by omega⟩
    rw [eModel_feed_18, if_pos (by omega)]
    simp only [gLetp]
    rw [hn]
    refine ⟨_, by rw [q_u_at]; rfl, q_u_at, fun y hy => ?_, fun r y h1 _ => q_u_off h1⟩
    rw [q_u_ne (by omega)]
    exact hb y (by omega)
  | succ f ih =>
    intro i k J hi hk hn hb
    obtain ⟨k, rfl⟩ : ∃ k', k = k' + 1 := ⟨k - 1, by omega⟩
    have go : ∀ z, z = fdW x1 x2 x3 x4 x5 i → gModel_feed_18 (k + 1) om J L x1 x2 x3 x4 x5 (i : Int) = gModel_feed_71 (gModel_feed_18 k om) om J L x1 x2 x3 x4 x5 (i : Int) z → ∃ J', gModel_feed_18 (k + 1) om J L x1 x2 x3 x4 x5 (i : Int) = (((c + 20 : Nat) : Int), J', L) ∧ J' om 2 = ((c + 20 : Nat) : Int) ∧ (∀ y, y < 20 → wAnd (J' (om + 1) (c + y)) 255 = fdB (fdW x1 x2 x3 x4 x5 y) (y % 4)) ∧ ∀ r y, ¬ (r = om ∧ y = 2) → ¬ (r = om + 1 ∧ c ≤ y ∧ y < c + 20) → J' r y = J r y := by
      intro z hz e
      obtain ⟨w, w1, w2⟩ := m_feed71 (K18 := gModel_feed_18 k om) (L := L) (x1 := x1) (x2 := x2) (x3 := x3) (x4 := x4) (x5 := x5) (z := z) (i := i) (by omega) hn
      obtain ⟨J', g1, g2, g3, g4⟩ := ih (i + 1) k (q_u J (om + 1) (c + i) w) (by omega) (by omega) (by rw [q_u_ne (by omega)]; exact hn) (fun y hy => by
        by_cases q : y = i
        · rw [q, q_u_at, w1, hz]
        · rw [q_u_k (by omega)]; exact hb y (by omega))
      refine ⟨J', by rw [e, w2]; exact g1, g2, g3, fun r y h1 h2 => ?_⟩
      rw [g4 r y h1 h2, q_u_off (by omega)]
    have e := @eModel_feed_18 k om J L x1 x2 x3 x4 x5 (i : Int)
    rw [if_neg (by omega)] at e
    unfold fdW at go
    by_cases c1 : i < 4
    · rw [if_neg (by omega)] at e
      exact go _ (by rw [if_pos c1]) e
    rw [if_pos (by omega)] at e
    by_cases c2 : i < 8
    · rw [if_neg (by omega)] at e
      exact go _ (by rw [if_neg c1, if_pos c2]) e
    rw [if_pos (by omega)] at e
    by_cases c3 : i < 12
    · rw [if_neg (by omega)] at e
      exact go _ (by rw [if_neg c1, if_neg c2, if_pos c3]) e
    rw [if_pos (by omega)] at e
    by_cases c4 : i < 16
    · rw [if_neg (by omega)] at e
      exact go _ (by rw [if_neg c1, if_neg c2, if_neg c3, if_pos c4]) e
    rw [if_pos (by omega)] at e
    exact go _ (by rw [if_neg c1, if_neg c2, if_neg c3, if_neg c4]) e
/-- feed -/
theorem r_feed (h : RJ ox om l J) (ho : ox + 207 = om) (hl : ox + 8 ≤ l ∧ l + 16 ≤ ox + 40) {r r' : Int} (hc : gOffice_feed_0 ox J L x1 x2 x3 x4 x5 = (r, J1, L1)) (hm : gModel_feed_0 om J1 L' x1 x2 x3 x4 x5 = (r', J2, L2)) : r' = r ∧ RJ ox om l J2 := by
  obtain ⟨h1, h2, h3, h4⟩ := h
  obtain ⟨t1, t2, t3, t4⟩ := id h1
  obtain ⟨n, hn⟩ : ∃ n : Nat, J om 2 = (n : Int) := ⟨(J om 2).toNat, by omega⟩
  unfold gModel_feed_0 at hm
  simp only [gLetp] at hm
  by_cases c1 : n + 20 ≤ 1600
  · obtain ⟨JX, e1, e2, e3, e4⟩ := cg_feed (ox := ox) (L := L) (x1 := x1) (x2 := x2) (x3 := x3) (x4 := x4) (x5 := x5) (c := n) (J := J) (by omega) c1
    rw [e1] at hc
    cases hc
    have xm : ∀ r, om ≤ r → J1 r = J r := fun r hr => by funext y; exact e4 r y (by omega) (by omega)
    rw [xm om (Nat.le_refl _), hn, if_pos (by omega)] at hm
    obtain ⟨JY, g1, g2, g3, g4⟩ := m_feed18 (om := om) (c := n) (L := L') (x1 := x1) (x2 := x2) (x3 := x3) (x4 := x4) (x5 := x5) 20 0 20000 J1 rfl (by decide) (by rw [xm om (Nat.le_refl _)]; exact hn) (fun y hy => absurd hy (by omega))
    rw [show ((0 : Nat) : Int) = 0 from rfl] at g1
    rw [g1] at hm
    cases hm
    have fr : ∀ r, r ≠ om → r ≠ om + 1 → r ≠ ox + 1 → r ≠ ox + 2 → J2 r = J r := fun r a b c d => by funext y; rw [g4 r y (by omega) (by omega), e4 r y (by omega) (by omega)]
    have fm : ∀ y, y ≠ 2 → J2 om y = J om y := fun y hy => by rw [g4 om y (by omega) (by omega), xm om (Nat.le_refl _)]
    refine ⟨rfl, ⟨by rw [g4 (ox + 1) 6 (by omega) (by omega), e2, g2], by rw [g2]; omega, by rw [g2]; omega, fun k hk => ?_⟩, h2.fr (by rw [fr ox (by omega) (by omega) (by omega) (by omega)]) (by rw [fr (ox + 46) (by omega) (by omega) (by omega) (by omega)]) (fm 68 (by decide)) (fm 66 (by decide)), h3.fr (by rw [fr l (by omega) (by omega) (by omega) (by omega)]) (fr _ (by omega) (by omega) (by omega) (by omega)) (fm 34 (by decide)) (fr _ (by omega) (by omega) (by omega) (by omega)) (fr _ (by omega) (by omega) (by omega) (by omega)), h4.fr (by rw [fr (ox + 48) (by omega) (by omega) (by omega) (by omega)]) (fm 67 (by decide)) (fun r _ _ => fr _ (by omega) (by omega) (by omega) (by omega)) (fun r _ _ => fr _ (by omega) (by omega) (by omega) (by omega))⟩
    rw [g2] at hk
    by_cases z : k < n
    · rw [g4 (ox + 2) k (by omega) (by omega), e4 (ox + 2) k (by omega) (by omega), g4 (om + 1) k (by omega) (by omega), e4 (om + 1) k (by omega) (by omega)]
      exact t4 k (by omega)
    · have a := e3 (k - n) (by omega)
      have b := g3 (k - n) (by omega)
      rw [show n + (k - n) = k by omega] at a b
      rw [g4 (ox + 2) k (by omega) (by omega), a, b]
  · have e0 : gOffice_feed_0 ox J L x1 x2 x3 x4 x5 = (-1, J, L) := by
      unfold gOffice_feed_0
      simp only [gLetp]
      rw [if_neg (by omega)]
    rw [e0] at hc
    cases hc
    rw [if_neg (by omega)] at hm
    cases hm
    exact ⟨rfl, h1, h2, h3, h4⟩
end FD
