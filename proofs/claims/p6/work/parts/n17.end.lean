/-! The end of a LAND, in both. By hand. -/
section SE
variable {B : Nat → Int} {N o m l b : Nat} {J J2 J3 : gJ} {L L2 L3 : gL} {I I2 I3 : gJ} {K K2 K3 : gL}
/-- the DAYS of both -/
def DyR (l m : Nat) (J I : gJ) : Prop := ∀ x y, x < 16 → y < 16 → (J (l + 2) (16 * x + y) = -1 ∧ I (m + 25) (16 * x + y) = 1000000) ∨ (J (l + 2) (16 * x + y) = I (m + 25) (16 * x + y) ∧ 0 ≤ J (l + 2) (16 * x + y) ∧ J (l + 2) (16 * x + y) < 1000000)
-- the reference's end
theorem m_landBad {k : Nat} (h : I m 4 ≠ 0) : gModel_land_59 (k + 1) m I K = (-1, I, K) := by
  rw [eModel_land_59]
  simp only [gLetp, gB3p]
  rw [mb_isGood h, if_pos (by decide), if_pos (by decide)]
theorem m_landGood {k nr nf np nt : Nat} (h4 : I m 4 = 0) (h8 : I m 8 = 0) (hc : LCnt l m b J I nr nf np nt) (ok : RdOk (I (m + 10)) (I (m + 11)) (I (m + 12)) b nr) : ∃ I2, gModel_land_59 (k + 1) m I K = (((nr + nf + np + nt : Nat) : Int), I2, K) ∧ FR (flM (rdM (I (m + 10)) (I (m + 11)) (I (m + 12)) b nr) 16) (mxI I2 (m + 25)) ∧ (∀ r, r ≠ m → r ≠ m + 25 → I2 r = I r) ∧ I2 m 34 = (b : Int) ∧ I2 m 67 = 0 ∧ I2 m 135 = 0 ∧ ∀ y, y ≠ 34 → y ≠ 67 → y ≠ 135 → I2 m y = I m y := by
  obtain ⟨_, ⟨d0, d1, d2, d3, d4⟩, b0, _⟩ := hc
  have g1 : gModel_isGood_0 m I K = 1 := by
    unfold gModel_isGood_0
    simp only [gLetp]
    rw [h4, if_pos (by decide)]
  have t34 : q_u (q_u (q_u I m 34 (b : Int)) m 67 0) m 135 0 m 34 = (b : Int) := by rw [q_u_k (by decide), q_u_k (by decide), q_u_at]
  have tr : ∀ r, r ≠ m → q_u (q_u (q_u I m 34 (b : Int)) m 67 0) m 135 0 r = I r := fun r q => by rw [q_u_ne q, q_u_ne q, q_u_ne q]
  have ty : ∀ y, y ≠ 34 → y ≠ 67 → y ≠ 135 → q_u (q_u (q_u I m 34 (b : Int)) m 67 0) m 135 0 m y = I m y := fun y a c d => by rw [q_u_k d, q_u_k c, q_u_k a]
  have t67 : q_u (q_u (q_u I m 34 (b : Int)) m 67 0) m 135 0 m 67 = 0 := by rw [q_u_k (by decide), q_u_at]
  have t135 : q_u (q_u (q_u I m 34 (b : Int)) m 67 0) m 135 0 m 135 = 0 := q_u_at
  rw [eModel_land_59]
  simp only [gLetp, gB3p]
  rw [g1, if_neg (show ¬ (1 : Int) = 0 by decide), if_pos h8, if_neg (by decide), d0]
  generalize q_u (q_u (q_u I m 34 (b : Int)) m 67 0) m 135 0 = IX at t34 tr ty t67 t135 ⊢
  obtain ⟨I2, e, fr, fq⟩ := m_floyd (m := m) (b := b) (K := K) (I := IX) b0 t34 (by rw [tr _ (by omega)]; exact d1) (by rw [tr (m + 10) (by omega), tr (m + 11) (by omega), tr (m + 12) (by omega)]; exact ok)
  rw [tr (m + 10) (by omega), tr (m + 11) (by omega), tr (m + 12) (by omega)] at fq
  have u : I2 m = IX m := fr m (by omega)
  have ur : ∀ r, r ≠ m → r ≠ m + 25 → I2 r = I r := fun r a c => by rw [fr r c, tr r a]
  rw [e]
  dsimp only
  rw [u, t34, Int.toNat_natCast, ur (m + 6) (by omega) (by omega), ur (m + 7) (by omega) (by omega), ur (m + 8) (by omega) (by omega), ur (m + 9) (by omega) (by omega), d1, d2, d3, d4]
  refine ⟨I2, ?_, fq, ur, by rw [u]; exact t34, by rw [u]; exact t67, by rw [u]; exact t135, fun y a c d => by rw [u]; exact ty y a c d⟩
  rw [show ((nr : Int) + (nf : Int) + (np : Int) + (nt : Int)) = ((nr + nf + np + nt : Nat) : Int) from by omega]
/-- a whole LAND, in both -/
theorem s_land {b0 : Nat} (hB : BR B) (hT : CT B N o J) (hK : KW o L) (hsep : l + 16 ≤ o ∨ o + 7 ≤ l) (h2 : I m 2 = (N : Int)) (hby : ∀ k, k < N → wAnd (I (m + 1) k) 255 = B k) (h34 : I m 34 = (b0 : Int)) (hbb : b0 + b = 1) : ∃ r J2 L2 a I2 K2, gLand_read_0 l o J L = (r, J2, L2) ∧ gModel_land_0 m I K = (a, I2, K2) ∧
    (r = 0 ∨ r = 1) ∧ (r = 0 → a = -1 ∧ J2 o 7 ≠ 0 ∧ I2 m 34 = (b0 : Int) ∧ I2 m 67 = I m 67 ∧ I2 (m + 8) b0 = I (m + 8) b0 ∧ I2 (m + 25) = I (m + 25)) ∧ (r = 1 → a = J2 l 0 + J2 l 1 + J2 l 2 + J2 l 3 ∧ J2 o 7 = 0 ∧ I2 m 34 = (b : Int) ∧ I2 m 67 = 0 ∧ J2 l 2 = I2 (m + 8) b ∧ DyR l m J2 I2 ∧ (∀ y, y < 4 → 0 ≤ J2 l y ∧ J2 l y ≤ 24)) ∧ I2 m 4 = J2 o 7 ∧ I2 m 5 = J2 o 8 ∧ I2 m 2 = 0 ∧
    (∀ r, ¬ (o ≤ r ∧ r < o + 7) → ¬ (l ≤ r ∧ r < l + 16) → J2 r = J r) ∧ J2 (o + 1) = J (o + 1) ∧ J2 (o + 2) = J (o + 2) ∧ (∀ y, y < 7 → J2 o y = J o y) ∧ (∀ r, r ≠ o + 6 → r ≠ l + 1 → L2 r = L r) ∧ KW o L2 := by
  have hN := hT.2.1
  obtain ⟨J0, e0, p0, p1, p2, p3⟩ := c_clear (l := l) J L
  have q0 : ∀ r, o ≤ r → r ≤ o + 6 → J0 r = J r := fun r a c => by funext y; exact p0 r y (by omega) (by omega) (by omega)
  have hT0 : CT B N o J0 := hT.mv (by rw [q0 o (by omega) (by omega)]) (q0 _ (by omega) (by omega))
  obtain ⟨T, J1, L1, e1, s1, s2, s3, s4, s5⟩ := c_startReading (pl := true) hB hT0 hK
  rw [if_pos rfl] at e1
  obtain ⟨I1, K1, f0, f1, f2, f3, f4, f5, f6, f7, f8, f10, f11, f12, f13⟩ := mg_land (K := K) (I := I) hB h2 hN hby h34 hbb
  have hsg : Sg true B N T o m J1 L1 I1 K1 0 := ⟨⟨s1, Nat.zero_le _, s2, s3, s4⟩, f1⟩
  have l0 : ∀ r, l ≤ r → r < l + 16 → J1 r = J0 r := fun r a c => s5.1 r (by omega) (by omega) (by omega) (by omega)
  have hR : LRx l m b J1 L1 I1 K1 := by
    refine ⟨0, 0, 0, 0, ⟨⟨?_, ?_, ?_, ?_, ?_⟩, ⟨f2, f3, f4, f5, f6⟩, by omega, by omega, by omega, by omega, by omega⟩, fun f q => by omega, fun p q => by omega, fun p d _ h3 h5 => ?_, fun t q => by omega, ⟨fun k q => by omega, fun x y hx hy => ?_⟩, fun w _ => ⟨fun ⟨i, q, _⟩ => by omega, fun q => ?_⟩⟩
    · rw [l0 l (by omega) (by omega)]; exact p1 0 (by decide)
    · rw [l0 l (by omega) (by omega)]; exact p1 1 (by decide)
    · rw [l0 l (by omega) (by omega)]; exact p1 2 (by decide)
    · rw [l0 l (by omega) (by omega)]; exact p1 3 (by decide)
    · rw [l0 l (by omega) (by omega)]; exact p1 4 (by decide)
    · rw [l0 (l + 8) (by omega) (by omega)]; exact p2 _ (by omega)
    · rw [l0 (l + 2) (by omega) (by omega), p3 x y hx hy]; rfl
    · rcases q with ⟨f, q, _⟩ | ⟨f, q, _⟩ | ⟨f, q, _⟩ <;> omega
  obtain ⟨J2, L2, I2, K2, a1, a2, a3, a4, a5⟩ := s_lines hB hsep (T + 2) 0 20000 20000 J1 L1 I1 K1 0 hsg hR (by omega) (by omega) (by have := s1.2.2.1; omega) (by have := s1.2.2.1; omega)
  have rd : gLand_read_0 l o J L = gLand_read_11 20000 l o J1 L1 0 := by
    unfold gLand_read_0
    simp only [gB3p]
    rw [e0]
    dsimp only
    rw [e1]
  -- frames up to here
  have v1 : ∀ r, ¬ (o ≤ r ∧ r < o + 7) → ¬ (l ≤ r ∧ r < l + 16) → J2 r = J r := by
    intro r c d
    funext y
    rw [a2.1 r y (by omega) d, s5.1 r (by omega) (by omega) (by omega) (by omega), p0 r y (by omega) (by omega) (by omega)]
  have v2 : ∀ r, (r = o + 1 ∨ r = o + 2) → J2 r = J r := by
    intro r c
    funext y
    rw [a2.1 r y (by omega) (by omega), s5.1 r (by omega) (by omega) (by omega) (by omega), q0 r (by omega) (by omega)]
  have v3 : ∀ y, y < 7 → J2 o y = J o y := by
    intro y c
    rw [a2.1 o y (by omega) (by omega), s5.2.2 y (by omega) (by omega) (by omega) (by omega), q0 o (by omega) (by omega)]
  have v4 : ∀ r, r ≠ o + 6 → r ≠ l + 1 → L2 r = L r := by
    intro r c d
    rw [a2.2 r d, s5.2.1 r c]
  have v5 : KW o L2 := fun k hk => by rw [v4 _ (by omega) (by omega)]; exact hK k hk
  have i2 : I2 m 2 = 0 := by rw [a3.1 m 2 (by omega) (by omega)]; exact f7
  have i34 : I2 m 34 = (b0 : Int) := by rw [a3.1 m 34 (by omega) (by omega)]; exact f8
  by_cases g : J2 o 7 = 0
  · obtain ⟨x1, ⟨k2, x2⟩, x3, x4, nr, nf, np, nt, hr⟩ := a4 g
    have rd5 := hr.2.2.2.2.2.1
    have fl0 := (rdI_all rd5.1 nr (Nat.le_refl _)).fl
    obtain ⟨J3, y1, y2, y3⟩ := c_floyd (l := l) (J := J2) (L := L2) fl0 rd5.2
    obtain ⟨I3, z1, zf, z2, z3, z4, z5, z6⟩ := m_landGood (K := K2) (k := k2) x4 x3 hr.1 rd5.1
    have c := hr.1.1
    have dd : DyR l m J3 I3 := by
      intro p q hp hq
      rw [y3 p q hp hq]
      have f := zf p q hp hq
      have g := (flI_all fl0 16 (Nat.le_refl _)).le (Nat.le_refl _) hp hq
      have e : mxI I3 (m + 25) p q = I3 (m + 25) (16 * p + q) := rfl
      rw [e] at f
      rcases f with f | f
      · exact Or.inl f
      · exact Or.inr ⟨f.1, f.2, by omega⟩
    have c2 := hr.1.2.1
    have cl := hr.1.2.2
    have w : ∀ y, J3 l y = J2 l y := fun y => by rw [y2 l (by omega)]
    have ow : J3 o = J2 o := y2 o (by omega)
    obtain ⟨j, hj⟩ := a1.gd g
    refine ⟨1, J3, L2, _, I3, K2, ?_, f0.trans (x2.trans z1), Or.inr rfl, fun q => absurd q (by decide), fun _ => ⟨?_, by rw [ow]; exact g, z3, z4, by rw [w, c.2.2.1, z2 (m + 8) (by omega) (by omega), c2.2.2.2.1], dd, fun y hy => ?_⟩, ?_, ?_, ?_, fun r p q => ?_, ?_, ?_, fun y q => ?_, v4, v5⟩
    · rw [rd]
      refine x1.trans ?_
      rw [y1]
    · rw [w, w, w, w, c.1, c.2.1, c.2.2.1, c.2.2.2.1]; omega
    · rw [w]
      have y4 : y = 0 ∨ y = 1 ∨ y = 2 ∨ y = 3 := by omega
      rcases y4 with e | e | e | e <;> subst e
      · rw [c.1]; omega
      · rw [c.2.1]; omega
      · rw [c.2.2.1]; omega
      · rw [c.2.2.2.1]; omega
    · rw [z6 4 (by decide) (by decide) (by decide), x4, ow, g]
    · rw [z6 5 (by decide) (by decide) (by decide), ow, hj.1.2.2.2.2, hj.2.2.2.2.1]
    · rw [z6 2 (by decide) (by decide) (by decide)]; exact i2
    · rw [y2 r (by omega)]; exact v1 r p q
    · rw [y2 _ (by omega)]; exact v2 _ (Or.inl rfl)
    · rw [y2 _ (by omega)]; exact v2 _ (Or.inr rfl)
    · rw [ow]; exact v3 y q
  · obtain ⟨x1, k2, x2⟩ := a5 g
    have hb := a1.bd g
    have x4 : I2 m 4 ≠ 0 := by rw [hb.2.2.2.2.1]; exact g
    exact ⟨0, J2, L2, -1, I2, K2, rd.trans x1, f0.trans (x2.trans (m_landBad x4)), Or.inl rfl, fun _ => ⟨rfl, g, i34, by rw [a3.1 m 67 (by omega) (by omega)]; exact f12 67 (by decide) (by decide) (by decide), by rw [a3.1 (m + 8) b0 (by omega) (by omega)]; exact f11 (m + 8) b0 (by omega) (by omega) (by omega), by funext y; rw [a3.1 (m + 25) y (by omega) (by omega), f10 (m + 25) (by omega) (by omega) (by omega)]⟩, fun q => absurd q (by decide), hb.2.2.2.2.1, hb.2.2.2.2.2, i2, v1, v2 _ (Or.inl rfl), v2 _ (Or.inr rfl), v3, v4, v5⟩
end SE
