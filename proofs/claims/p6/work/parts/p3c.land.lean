/-! land, in both, between calls. By hand. -/
theorem w255_rg (x : Int) : 0 ≤ wAnd x 255 ∧ wAnd x 255 ≤ 255 := by
  unfold wAnd
  have e : (Int32.ofInt x &&& Int32.ofInt 255).toInt = ((Int32.ofInt x &&& Int32.ofInt 255).toBitVec).toInt := rfl
  have h : ((Int32.ofInt x &&& Int32.ofInt 255).toBitVec).toNat ≤ 255 := by
    rw [Int32.toBitVec_and, BitVec.toNat_and]
    exact Nat.and_le_right
  rw [e, BitVec.toInt_eq_toNat_of_lt (by omega)]
  omega
section LX
variable {ox om l l2 : Nat} {J J1 JX I2 : gJ} {L L1 K K2 : gL} {r r' : Int}
/-- what s_land asks, of both between calls -/
theorem r_landS (h : RJ ox om l J) (hK : KW (ox + 1) L) (ho : ox + 207 = om) (hl2 : ox + 8 ≤ l2 ∧ l2 + 16 ≤ ox + 40) (hx : ∀ c, om ≤ c → JX c = J c) : ∃ b0 b : Nat, J om 34 = (b0 : Int) ∧ b0 + b = 1 ∧ ∃ r J2 L2 a I2 K2, gLand_read_0 l2 (ox + 1) J L = (r, J2, L2) ∧ gModel_land_0 om JX K = (a, I2, K2) ∧
    (r = 0 ∨ r = 1) ∧ (r = 0 → a = -1 ∧ I2 om 34 = (b0 : Int) ∧ I2 om 67 = JX om 67 ∧ I2 (om + 8) b0 = JX (om + 8) b0 ∧ I2 (om + 25) = JX (om + 25)) ∧ (r = 1 → a = J2 l2 0 + J2 l2 1 + J2 l2 2 + J2 l2 3 ∧ I2 om 34 = (b : Int) ∧ I2 om 67 = 0 ∧ J2 l2 2 = I2 (om + 8) b ∧ DyR l2 om J2 I2 ∧ (∀ y, y < 4 → 0 ≤ J2 l2 y ∧ J2 l2 y ≤ 24)) ∧ I2 om 2 = 0 ∧ KW (ox + 1) L2 := by
  obtain ⟨⟨t1, t2, t3, t4⟩, h2, ⟨g1, g2, g3⟩, h4⟩ := h
  obtain ⟨n, hn⟩ : ∃ n : Nat, J om 2 = (n : Int) := ⟨(J om 2).toNat, by omega⟩
  have hT : CT (fun k => wAnd (J (om + 1) k) 255) n (ox + 1) J := ⟨by rw [t1, hn], by omega, fun k hk => t4 k (by omega)⟩
  have go : ∀ b0 b : Nat, J om 34 = (b0 : Int) → b0 + b = 1 → ∃ b0 b : Nat, J om 34 = (b0 : Int) ∧ b0 + b = 1 ∧ ∃ r J2 L2 a I2 K2, gLand_read_0 l2 (ox + 1) J L = (r, J2, L2) ∧ gModel_land_0 om JX K = (a, I2, K2) ∧
    (r = 0 ∨ r = 1) ∧ (r = 0 → a = -1 ∧ I2 om 34 = (b0 : Int) ∧ I2 om 67 = JX om 67 ∧ I2 (om + 8) b0 = JX (om + 8) b0 ∧ I2 (om + 25) = JX (om + 25)) ∧ (r = 1 → a = J2 l2 0 + J2 l2 1 + J2 l2 2 + J2 l2 3 ∧ I2 om 34 = (b : Int) ∧ I2 om 67 = 0 ∧ J2 l2 2 = I2 (om + 8) b ∧ DyR l2 om J2 I2 ∧ (∀ y, y < 4 → 0 ≤ J2 l2 y ∧ J2 l2 y ≤ 24)) ∧ I2 om 2 = 0 ∧ KW (ox + 1) L2 := by
    intro b0 b e0 eb
    obtain ⟨r, J2, L2, a, I2, K2, s1, s2, s3, s4, s5, s6, s7, s8, s9, s10, s11, s12, s13, s14⟩ := s_land (B := fun k => wAnd (J (om + 1) k) 255) (N := n) (o := ox + 1) (l := l2) (m := om) (J := J) (L := L) (I := JX) (K := K) (b0 := b0) (b := b) (fun k => w255_rg _) hT hK (by omega) (by rw [hx om (Nat.le_refl _)]; exact hn) (fun k hk => by rw [hx (om + 1) (by omega)]) (by rw [hx om (Nat.le_refl _)]; exact e0) eb
    exact ⟨b0, b, e0, eb, r, J2, L2, a, I2, K2, s1, s2, s3, fun q => ⟨(s4 q).1, (s4 q).2.2⟩, fun q => ⟨(s5 q).1, (s5 q).2.2⟩, s8, s14⟩
  rcases g1 with g | g
  · exact go 0 1 g rfl
  · exact go 1 0 g rfl
/-- a LAND that both refuse -/
theorem r_landB (h : RJ ox om l J) (hK : KW (ox + 1) L) (ho : ox + 207 = om) (hl : ox + 8 ≤ l ∧ l + 16 ≤ ox + 40) (hl2 : ox + 8 ≤ l2 ∧ l2 + 16 ≤ ox + 40) (hd : l + 16 ≤ l2 ∨ l2 + 16 ≤ l) (hc : gLand_read_0 l2 (ox + 1) J L = (r, J1, L1)) (hr : r = 0) (hu : ∀ c, ¬ (l2 ≤ c ∧ c < l2 + 16) → ¬ (ox + 1 ≤ c ∧ c < ox + 8) → J1 c = J c) (hX : q_u J1 (ox + 1) 6 0 = JX) (hm : gModel_land_0 om JX K = (r', I2, K2)) (hf : ∀ c, ¬ (c = om ∨ c = om + 2 ∨ (om + 6 ≤ c ∧ c < om + 26)) → I2 c = JX c) (hk : ∀ k, (k = 66 ∨ k = 68) → I2 om k = JX om k) : r' = -1 ∧ RJ ox om l I2 ∧ KW (ox + 1) L1 := by
  have xf : ∀ c, ¬ (l2 ≤ c ∧ c < l2 + 16) → ¬ (ox + 1 ≤ c ∧ c < ox + 8) → JX c = J c := fun c a b => by rw [← hX, q_u_ne (by omega)]; exact hu c a b
  obtain ⟨b0, b, e0, eb, r0, J2, L2, a, I3, K3, s1, s2, s3, s4, s5, s6, s7⟩ := r_landS (K := K) h hK ho hl2 (JX := JX) (fun c hc => xf c (by omega) (by omega))
  rw [hc] at s1
  cases s1
  rw [hm] at s2
  cases s2
  obtain ⟨u1, u2, u3, u4, u5⟩ := s4 hr
  obtain ⟨h1, h2, h3, h4⟩ := h
  have x6 : JX (ox + 1) 6 = 0 := by rw [← hX, q_u_at]
  have g : ∀ c, c < om → ¬ (l2 ≤ c ∧ c < l2 + 16) → ¬ (ox + 1 ≤ c ∧ c < ox + 8) → I2 c = J c := fun c a b d => (hf c (by omega)).trans (xf c b d)
  have gm : ∀ c, om ≤ c → JX c = J c := fun c hc => xf c (by omega) (by omega)
  refine ⟨u1, ⟨RTape.zero (by rw [hf (ox + 1) (by omega)]; exact x6) s6, h2.fr (by rw [g ox (by omega) (by omega) (by omega)]) (by rw [g (ox + 46) (by omega) (by omega) (by omega)]) (by rw [hk 68 (Or.inr rfl), gm om (Nat.le_refl _)]) (by rw [hk 66 (Or.inl rfl), gm om (Nat.le_refl _)]), ?_, h4.fr (by rw [g (ox + 48) (by omega) (by omega) (by omega)]) (by rw [u3, gm om (Nat.le_refl _)]) (fun c _ _ => g c (by omega) (by omega) (by omega)) (fun c _ _ => by rw [hf c (by omega), gm c (by omega)])⟩, s7⟩
  obtain ⟨g1, g2, g3⟩ := h3
  have e34 : I2 om 34 = J om 34 := by rw [u2, e0]
  refine ⟨by rw [e34]; exact g1, ?_, ?_⟩
  · rw [e34, g l (by omega) (by omega) (by omega), g2, e0, Int.toNat_natCast, u4, gm (om + 8) (by omega)]
  · unfold DyR
    rw [g (l + 2) (by omega) (by omega) (by omega), u5, gm (om + 25) (by omega)]
    exact g3
/-- a LAND that both take -/
theorem r_landG (h : RJ ox om l J) (hK : KW (ox + 1) L) (ho : ox + 207 = om) (hl2 : ox + 8 ≤ l2 ∧ l2 + 16 ≤ ox + 40) (hc : gLand_read_0 l2 (ox + 1) J L = (r, J1, L1)) (hr : ¬ r = 0) (hu : ∀ c, ¬ (l2 ≤ c ∧ c < l2 + 16) → ¬ (ox + 1 ≤ c ∧ c < ox + 8) → J1 c = J c) (hX : q_u (q_u (q_u J1 (ox + 1) 6 0) (ox + 48) 6 0) (ox + 55) 15 0 = JX) (hm : gModel_land_0 om JX K = (r', I2, K2)) (hf : ∀ c, ¬ (c = om ∨ c = om + 2 ∨ (om + 6 ≤ c ∧ c < om + 26)) → I2 c = JX c) (hk : ∀ k, (k = 66 ∨ k = 68) → I2 om k = JX om k) : r' = JX l2 0 + JX l2 1 + JX l2 2 + JX l2 3 ∧ (∀ y, y < 4 → 0 ≤ JX l2 y ∧ JX l2 y ≤ 24) ∧ RJ ox om l2 I2 ∧ KW (ox + 1) L1 := by
  have xr : ∀ c, c ≠ ox + 1 → c ≠ ox + 48 → c ≠ ox + 55 → JX c = J1 c := fun c a b d => by rw [← hX, q_u_ne d, q_u_ne b, q_u_ne a]
  have xf : ∀ c, ¬ (l2 ≤ c ∧ c < l2 + 16) → ¬ (ox + 1 ≤ c ∧ c < ox + 8) → c ≠ ox + 48 → c ≠ ox + 55 → JX c = J c := fun c a b d e => (xr c (by omega) d e).trans (hu c a b)
  obtain ⟨b0, b, e0, eb, r0, J2, L2, a, I3, K3, s1, s2, s3, s4, s5, s6, s7⟩ := r_landS (K := K) h hK ho hl2 (JX := JX) (fun c hc => xf c (by omega) (by omega) (by omega) (by omega))
  rw [hc] at s1
  cases s1
  rw [hm] at s2
  cases s2
  obtain ⟨u1, u2, u3, u4, u5, u6⟩ := s5 (s3.resolve_left hr)
  obtain ⟨h1, h2, h3, h4⟩ := h
  have x6 : JX (ox + 1) 6 = 0 := by rw [← hX, q_u_ne (by omega), q_u_ne (by omega), q_u_at]
  have x48 : JX (ox + 48) 6 = 0 := by rw [← hX, q_u_ne (by omega), q_u_at]
  have xl : ∀ i, i < 16 → JX (l2 + i) = J1 (l2 + i) := fun i hi => xr _ (by omega) (by omega) (by omega)
  have xl0 : JX l2 = J1 l2 := xl 0 (by decide)
  have gm : ∀ c, om ≤ c → JX c = J c := fun c hc => xf c (by omega) (by omega) (by omega) (by omega)
  have g : ∀ c, c < om → I2 c = JX c := fun c hc => hf c (by omega)
  refine ⟨by rw [xl0]; exact u1, fun y hy => by rw [xl0]; exact u6 y hy, ⟨RTape.zero (by rw [g (ox + 1) (by omega)]; exact x6) s6, h2.fr (by rw [g ox (by omega), xf ox (by omega) (by omega) (by omega) (by omega)]) (by rw [g (ox + 46) (by omega), xf (ox + 46) (by omega) (by omega) (by omega) (by omega)]) (by rw [hk 68 (Or.inr rfl), gm om (Nat.le_refl _)]) (by rw [hk 66 (Or.inl rfl), gm om (Nat.le_refl _)]), ?_, RFac.zero (by rw [g (ox + 48) (by omega)]; exact x48) u3⟩, s7⟩
  refine ⟨?_, ?_, ?_⟩
  · rw [u2]; omega
  · rw [u2, Int.toNat_natCast, g l2 (by omega), xl0]; exact u4
  · intro x y hx hy
    rw [g (l2 + 2) (by omega), xl 2 (by decide)]
    exact u5 x y hx hy
end LX
