/-! FAULTS, and reform, in both between calls. By hand. -/
def RFa (ox om : Nat) (J : gJ) : Prop := J (ox + 1) 7 = J om 4 ∧ J (ox + 1) 8 = J om 5
section R3
variable {ox om l l2 t r4 : Nat} {J J1 J2 JX J' I2 : gJ} {L L1 L2 L' K K2 : gL} {r r' p x1 x2 x3 x4 x5 : Int}
theorem RFa.fr (h : RFa ox om J) (a : J' (ox + 1) 7 = J (ox + 1) 7) (b : J' (ox + 1) 8 = J (ox + 1) 8) (c : J' om 4 = J om 4) (d : J' om 5 = J om 5) : RFa ox om J' := by
  unfold RFa
  rw [a, b, c, d]
  exact h
/-- fault -/
theorem r_fault (h : RFa ox om J) (hc : gOffice_fault_0 ox J L p = r) (hm : gModel_fault_0 om J L' p = r') : r' = r := by
  unfold gOffice_fault_0 at hc
  unfold gModel_fault_0 at hm
  simp only [gLetp] at hc hm
  by_cases a : p = 0
  · rw [if_pos a] at hc hm
    rw [← hc, ← hm]
    exact h.1.symm
  · rw [if_neg a] at hc hm
    by_cases b : p = 1
    · rw [if_pos b] at hc hm
      rw [← hc, ← hm]
      exact h.2.symm
    · rw [if_neg b] at hc hm
      rw [← hc, ← hm]
theorem r_endF (hc : gOffice_end_0 ox J L p = (r, J1, L1)) : ∀ y, y ≠ 6 → J1 (ox + 1) y = J (ox + 1) y := by
  intro y hy
  unfold gOffice_end_0 at hc
  simp only [gLetp] at hc
  split at hc
  · cases hc; rfl
  · split at hc
    · cases hc; exact q_u_k hy
    · cases hc; rfl
theorem r_feedF (h : RTape ox om J) (hc : gOffice_feed_0 ox J L x1 x2 x3 x4 x5 = (r, J1, L1)) : ∀ y, y ≠ 6 → J1 (ox + 1) y = J (ox + 1) y := by
  intro y hy
  obtain ⟨t1, t2, t3, t4⟩ := h
  obtain ⟨n, hn⟩ : ∃ n : Nat, J om 2 = (n : Int) := ⟨(J om 2).toNat, by omega⟩
  by_cases c1 : n + 20 ≤ 1600
  · obtain ⟨JX, e1, e2, e3, e4⟩ := cg_feed (ox := ox) (L := L) (x1 := x1) (x2 := x2) (x3 := x3) (x4 := x4) (x5 := x5) (c := n) (J := J) (by omega) c1
    rw [e1] at hc
    cases hc
    exact e4 (ox + 1) y (by omega) (by omega)
  · have e0 : gOffice_feed_0 ox J L x1 x2 x3 x4 x5 = (-1, J, L) := by
      unfold gOffice_feed_0
      simp only [gLetp]
      rw [if_neg (by omega)]
    rw [e0] at hc
    cases hc
    rfl
/-- what both say of a LAND's FAULT -/
theorem r_landF (h : RJ ox om l J) (hK : KW (ox + 1) L) (ho : ox + 207 = om) (hl2 : ox + 8 ≤ l2 ∧ l2 + 16 ≤ ox + 40) (hx : ∀ c, om ≤ c → JX c = J c) (hc : gLand_read_0 l2 (ox + 1) J L = (r, J1, L1)) (hm : gModel_land_0 om JX K = (r', I2, K2)) : I2 om 4 = J1 (ox + 1) 7 ∧ I2 om 5 = J1 (ox + 1) 8 := by
  obtain ⟨⟨t1, t2, t3, t4⟩, h2, ⟨g1, g2, g3⟩, h4⟩ := h
  obtain ⟨n, hn⟩ : ∃ n : Nat, J om 2 = (n : Int) := ⟨(J om 2).toNat, by omega⟩
  have hT : CT (fun k => wAnd (J (om + 1) k) 255) n (ox + 1) J := ⟨by rw [t1, hn], by omega, fun k hk => t4 k (by omega)⟩
  have go : ∀ b0 b : Nat, J om 34 = (b0 : Int) → b0 + b = 1 → I2 om 4 = J1 (ox + 1) 7 ∧ I2 om 5 = J1 (ox + 1) 8 := by
    intro b0 b e0 eb
    obtain ⟨r0, J2, L2, a, I3, K3, s1, s2, s3, s4, s5, s6, s7, s8⟩ := s_land (B := fun k => wAnd (J (om + 1) k) 255) (N := n) (o := ox + 1) (l := l2) (m := om) (J := J) (L := L) (I := JX) (K := K) (b0 := b0) (b := b) (fun k => w255_rg _) hT hK (by omega) (by rw [hx om (Nat.le_refl _)]; exact hn) (fun k hk => by rw [hx (om + 1) (by omega)]) (by rw [hx om (Nat.le_refl _)]; exact e0) eb
    rw [hc] at s1
    cases s1
    rw [hm] at s2
    cases s2
    exact ⟨s6, s7⟩
  rcases g1 with g | g
  · exact go 0 1 g rfl
  · exact go 1 0 g rfl
/-- a REFORM that both refuse to read -/
theorem r_reformN (h : ¬ (J om 2 ≤ 700 ∧ 0 ≤ p ∧ p ≤ 3)) : gModel_reform_0 om J K p = (-2, J, K) := by
  unfold gModel_reform_0
  rw [gLetp]
  by_cases a : 700 < J om 2
  · rw [if_pos a]
  · rw [if_neg a]
    by_cases b : p < 0
    · rw [if_pos b]
    · rw [if_neg b, if_neg (by omega)]
/-- a REFORM that both read -/
theorem r_reformS (h : RJ ox om l J) (hK : KW (ox + 1) L) (ho : ox + 207 = om) (h4 : r4 = ox + 41 ∨ (ox + 187 ≤ r4 ∧ r4 + 5 ≤ ox + 207)) (h7 : J om 2 ≤ 700) (hp : 0 ≤ p ∧ p ≤ 3) (hx : ∀ c, om ≤ c → JX c = J c) (hc : gReform_read_0 r4 (ox + 1) J L = (r, J1, L1)) (hm : gModel_reform_0 om JX K p = (r', I2, K2)) : RfRes (ox + 1) r4 om p.toNat J1 JX I2 r r' ∧ KW (ox + 1) L1 := by
  obtain ⟨⟨t1, t2, t3, t4⟩, h2, g, h5⟩ := h
  obtain ⟨n, hn⟩ : ∃ n : Nat, J om 2 = (n : Int) := ⟨(J om 2).toNat, by omega⟩
  have hT : CT (fun k => wAnd (J (om + 1) k) 255) n (ox + 1) J := ⟨by rw [t1, hn], by omega, fun k hk => t4 k (by omega)⟩
  obtain ⟨t, ht⟩ : ∃ t : Nat, p = (t : Int) := ⟨p.toNat, by omega⟩
  subst ht
  obtain ⟨r0, J2, L2, a, I3, K3, s1, s2, s3, s4⟩ := s_reform (B := fun k => wAnd (J (om + 1) k) 255) (N := n) (x := ox + 1) (o := r4) (m := om) (J := J) (L := L) (I := JX) (K := K) (t := t) (fun k => w255_rg _) hT hK (by omega) (by omega) (by rw [hx om (Nat.le_refl _)]; exact hn) (fun k hk => by rw [hx (om + 1) (by omega)]) (by omega)
  rw [hc] at s1
  cases s1
  rw [hm] at s2
  cases s2
  rw [Int.toNat_natCast]
  exact ⟨s3, s4⟩
/-- what stays behind a REFORM -/
theorem r_reformJ (h : RJ ox om l J) (ho : ox + 207 = om) (hl : ox + 8 ≤ l ∧ l + 16 ≤ ox + 40) (h4 : r4 = ox + 41 ∨ (ox + 187 ≤ r4 ∧ r4 + 5 ≤ ox + 207)) (s : RfRes (ox + 1) r4 om t J1 JX I2 r r') (hu : ∀ c, ¬ (r4 ≤ c ∧ c < r4 + 5) → ¬ (ox + 1 ≤ c ∧ c < ox + 1 + 7) → J1 c = J c) (hX : q_u J1 (ox + 1) 6 0 = JX) (hf : ∀ c, c < om → I2 c = JX c) : RJ ox om l I2 ∧ RFa ox om I2 := by
  obtain ⟨s1, s2, s3, s4, s5, s6, s7⟩ := s
  obtain ⟨h1, h2, h3, h5⟩ := h
  have xf : ∀ c, ¬ (r4 ≤ c ∧ c < r4 + 5) → ¬ (ox + 1 ≤ c ∧ c < ox + 1 + 7) → JX c = J c := fun c a b => by rw [← hX, q_u_ne (by omega)]; exact hu c a b
  have x6 : JX (ox + 1) 6 = 0 := by rw [← hX, q_u_at]
  have x7 : ∀ y, y ≠ 6 → JX (ox + 1) y = J1 (ox + 1) y := fun y hy => by rw [← hX, q_u_k hy]
  have g : ∀ c, ox ≤ c → c < om → ¬ (r4 ≤ c ∧ c < r4 + 5) → ¬ (ox + 1 ≤ c ∧ c < ox + 1 + 7) → I2 c = J c := fun c _ a b d => (hf c a).trans (xf c b d)
  have row : ∀ c, (c = om + 8 ∨ c = om + 25 ∨ (om + 36 ≤ c ∧ c < om + 42)) → I2 c = J c := by
    intro c hc
    rw [← xf c (by omega) (by omega)]
    funext y
    rcases s1 with e | e
    · exact (s2 e).2 c y (by omega) (by omega) (by omega) (by omega) (by omega) (by omega) (by omega)
    · exact (s3 e).2.2.2.2.2 c y (by omega) (by omega) (by omega) (by omega) (by omega) (by omega) (by omega)
  have fld : ∀ y, ¬ (2 ≤ y ∧ y ≤ 9) → y ≠ 11 → ¬ (44 ≤ y ∧ y ≤ 49) → I2 om y = J om y := fun y a b c => by rw [s7 y a b c, xf om (by omega) (by omega)]
  refine ⟨⟨RTape.zero (by rw [hf (ox + 1) (by omega)]; exact x6) s6, h2.fr (by rw [g ox (by omega) (by omega) (by omega) (by omega)]) (by rw [g (ox + 46) (by omega) (by omega) (by omega) (by omega)]) (fld 68 (by decide) (by decide) (by decide)) (fld 66 (by decide) (by decide) (by decide)), h3.fr (by rw [g l (by omega) (by omega) (by omega) (by omega)]) (g _ (by omega) (by omega) (by omega) (by omega)) (fld 34 (by decide) (by decide) (by decide)) (row _ (by omega)) (row _ (by omega)), h5.fr (by rw [g (ox + 48) (by omega) (by omega) (by omega) (by omega)]) (fld 67 (by decide) (by decide) (by decide)) (fun c _ _ => g c (by omega) (by omega) (by omega) (by omega)) (fun c _ _ => row c (by omega))⟩, ?_, ?_⟩
  · rw [hf (ox + 1) (by omega), x7 7 (by decide)]; exact s4.symm
  · rw [hf (ox + 1) (by omega), x7 8 (by decide)]; exact s5.symm
end R3
