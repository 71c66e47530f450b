/-! What both programs have alike between calls, and that their plain calls keep it. By hand. -/
def RTape (ox om : Nat) (J : gJ) : Prop := J (ox + 1) 6 = J om 2 ∧ 0 ≤ J om 2 ∧ J om 2 ≤ 1600 ∧ ∀ k : Nat, (k : Int) < J om 2 → J (ox + 2) k = wAnd (J (om + 1) k) 255
def RNum (ox om : Nat) (J : gJ) : Prop := J ox 7 = J om 68 ∧ 0 ≤ J om 68 ∧ J (ox + 46) 1 = J om 66 ∧ 0 ≤ J om 66 ∧ J om 66 ≤ 6
def RLand (l om : Nat) (J : gJ) : Prop := (J om 34 = 0 ∨ J om 34 = 1) ∧ J l 2 = J (om + 8) (J om 34).toNat ∧ DyR l om J J
def RFac (ox om : Nat) (J : gJ) : Prop := J (ox + 48) 6 = J om 67 ∧ 0 ≤ J om 67 ∧ J om 67 ≤ 40 ∧ ∀ k : Nat, (k : Int) < J om 67 → J (ox + 49) k = J (om + 36) k ∧ J (ox + 50) k = J (om + 37) k ∧ J (ox + 51) k = J (om + 38) k ∧ J (ox + 52) k = J (om + 39) k ∧ J (ox + 53) k = J (om + 40) k ∧ J (ox + 54) k = J (om + 41) k ∧ -1 ≤ J (om + 41) k
def RJ (ox om l : Nat) (J : gJ) : Prop := RTape ox om J ∧ RNum ox om J ∧ RLand l om J ∧ RFac ox om J
section REL
variable {ox om l t c : Nat} {J J1 J2 J' : gJ} {L L1 L2 L' : gL} {x p q v s w mo x1 x2 x3 x4 x5 : Int}
theorem RTape.fr (h : RTape ox om J) (a : J' (ox + 1) 6 = J (ox + 1) 6) (b : J' (ox + 2) = J (ox + 2)) (c : J' om 2 = J om 2) (d : J' (om + 1) = J (om + 1)) : RTape ox om J' := by
  unfold RTape
  rw [a, b, c, d]
  exact h
theorem RTape.zero (a : J' (ox + 1) 6 = 0) (c : J' om 2 = 0) : RTape ox om J' := ⟨by rw [a, c], by rw [c]; exact Int.le_refl _, by rw [c]; decide, fun k hk => by rw [c] at hk; omega⟩
theorem RNum.fr (h : RNum ox om J) (a : J' ox 7 = J ox 7) (b : J' (ox + 46) 1 = J (ox + 46) 1) (c : J' om 68 = J om 68) (d : J' om 66 = J om 66) : RNum ox om J' := by
  unfold RNum
  rw [a, b, c, d]
  exact h
theorem RLand.fr (h : RLand l om J) (a : J' l 2 = J l 2) (b : J' (l + 2) = J (l + 2)) (c : J' om 34 = J om 34) (d : J' (om + 8) = J (om + 8)) (e : J' (om + 25) = J (om + 25)) : RLand l om J' := by
  unfold RLand DyR
  rw [a, b, c, d, e]
  exact h
theorem RFac.fr (h : RFac ox om J) (a : J' (ox + 48) 6 = J (ox + 48) 6) (b : J' om 67 = J om 67) (c : ∀ r, ox + 49 ≤ r → r < ox + 55 → J' r = J r) (d : ∀ r, om + 36 ≤ r → r < om + 42 → J' r = J r) : RFac ox om J' := by
  unfold RFac
  rw [a, b, c (ox + 49) (by omega) (by omega), c (ox + 50) (by omega) (by omega), c (ox + 51) (by omega) (by omega), c (ox + 52) (by omega) (by omega), c (ox + 53) (by omega) (by omega), c (ox + 54) (by omega) (by omega), d (om + 36) (by omega) (by omega), d (om + 37) (by omega) (by omega), d (om + 38) (by omega) (by omega), d (om + 39) (by omega) (by omega), d (om + 40) (by omega) (by omega), d (om + 41) (by omega) (by omega)]
  exact h
theorem RFac.zero (a : J' (ox + 48) 6 = 0) (b : J' om 67 = 0) : RFac ox om J' := ⟨by rw [a, b], by rw [b]; exact Int.le_refl _, by rw [b]; decide, fun k hk => by rw [b] at hk; omega⟩
/-- days -/
theorem r_days (h : RJ ox om l J) {r r' : Int} (hc : gOffice_days_0 ox l J L p q = r) (hm : gModel_days_0 om J L' p q = r') : r' = r := by
  unfold gOffice_days_0 gLand_daysBetween_0 at hc
  unfold gModel_days_0 gModel_days_31 gModel_isPoint_0 at hm
  simp only [gLetp] at hc hm
  by_cases c1 : p < 0
  · rw [if_pos c1] at hc hm
    rw [if_pos rfl] at hm
    omega
  rw [if_neg c1] at hc hm
  by_cases c2 : 16 ≤ p
  · rw [if_pos c2] at hc hm
    rw [if_pos rfl] at hm
    omega
  rw [if_neg c2] at hc hm
  rw [if_neg (by decide)] at hm
  by_cases c3 : q < 0
  · rw [if_pos c3] at hc hm
    rw [if_pos rfl] at hm
    omega
  rw [if_neg c3] at hc hm
  by_cases c4 : 16 ≤ q
  · rw [if_neg (by omega)] at hc
    rw [if_pos c4, if_pos rfl] at hm
    omega
  rw [if_pos (by omega)] at hc
  rw [if_neg c4, if_neg (by decide)] at hm
  have d := h.2.2.1.2.2 p.toNat q.toNat (by omega) (by omega)
  rw [show Int.toNat (p * 16 + q) = 16 * p.toNat + q.toNat by omega] at hc
  rw [show Int.toNat (16 * p + q) = 16 * p.toNat + q.toNat by omega] at hm
  rcases d with ⟨d1, d2⟩ | ⟨d1, d2, d3⟩
  · rw [if_neg (by omega)] at hm
    omega
  · rw [if_pos (by omega)] at hm
    omega
/-- later -/
theorem r_later (h : RJ ox om l J) (ho : ox + 207 = om) (hl : ox + 8 ≤ l ∧ l + 16 ≤ ox + 40) {r r' : Int} (hc : gOffice_later_0 ox J L p = (r, J1, L1)) (hm : gModel_later_0 om J1 L' p = (r', J2, L2)) : r' = r ∧ RJ ox om l J2 := by
  obtain ⟨h1, h2, h3, h4⟩ := h
  unfold gOffice_later_0 at hc
  unfold gModel_later_0 at hm
  simp only [gLetp] at hc hm
  by_cases c1 : p < 0
  · rw [if_pos c1] at hc hm
    cases hc; cases hm
    exact ⟨rfl, h1, h2, h3, h4⟩
  rw [if_neg c1] at hc hm
  by_cases c2 : 1000 < p
  · rw [if_pos c2] at hc hm
    cases hc; cases hm
    exact ⟨rfl, h1, h2, h3, h4⟩
  rw [if_neg c2] at hc hm
  have e := h2.1
  by_cases c3 : J ox 7 + p ≤ 100000
  · rw [if_pos c3] at hc
    cases hc
    rw [q_u_ne (show om ≠ ox by omega), if_pos (by omega)] at hm
    cases hm
    refine ⟨by rw [q_u_at, q_u_at, e], h1.fr (by rw [q_u_ne (by omega), q_u_ne (by omega)]) (by rw [q_u_ne (by omega), q_u_ne (by omega)]) (by rw [q_u_k (by decide), q_u_ne (by omega)]) (by rw [q_u_ne (by omega), q_u_ne (by omega)]), ?_, h3.fr (by rw [q_u_ne (by omega), q_u_ne (by omega)]) (by rw [q_u_ne (by omega), q_u_ne (by omega)]) (by rw [q_u_k (by decide), q_u_ne (by omega)]) (by rw [q_u_ne (by omega), q_u_ne (by omega)]) (by rw [q_u_ne (by omega), q_u_ne (by omega)]), h4.fr (by rw [q_u_ne (by omega), q_u_ne (by omega)]) (by rw [q_u_k (by decide), q_u_ne (by omega)]) (fun r _ _ => by rw [q_u_ne (by omega), q_u_ne (by omega)]) (fun r _ _ => by rw [q_u_ne (by omega), q_u_ne (by omega)])⟩
    obtain ⟨n1, n2, n3, n4, n5⟩ := h2
    refine ⟨by rw [q_u_ne (by omega), q_u_at, q_u_at, e], by rw [q_u_at]; omega, ?_, ?_, ?_⟩
    · rw [q_u_ne (by omega), q_u_ne (by omega), q_u_k (by decide), q_u_ne (by omega)]; exact n3
    · rw [q_u_k (by decide), q_u_ne (by omega)]; exact n4
    · rw [q_u_k (by decide), q_u_ne (by omega)]; exact n5
  · rw [if_neg c3] at hc
    cases hc
    rw [if_neg (by omega)] at hm
    cases hm
    exact ⟨rfl, h1, h2, h3, h4⟩
/-- merchant -/
theorem r_merchant (h : RJ ox om l J) (ho : ox + 207 = om) (hl : ox + 8 ≤ l ∧ l + 16 ≤ ox + 40) {r r' : Int} (hc : gOffice_merchant_0 ox J L p = (r, J1, L1)) (hm : gModel_merchant_0 om J1 L' p = (r', J2, L2)) : r' = r ∧ RJ ox om l J2 := by
  obtain ⟨h1, h2, h3, h4⟩ := h
  unfold gOffice_merchant_0 at hc
  unfold gModel_merchant_0 at hm
  simp only [gLetp] at hc hm
  by_cases c1 : p < 0
  · rw [if_pos c1] at hc hm
    cases hc; cases hm
    exact ⟨rfl, h1, h2, h3, h4⟩
  rw [if_neg c1] at hc hm
  by_cases c2 : 30000 < p
  · rw [if_pos c2] at hc hm
    cases hc; cases hm
    exact ⟨rfl, h1, h2, h3, h4⟩
  rw [if_neg c2] at hc hm
  obtain ⟨n1, n2, n3, n4, n5⟩ := h2
  by_cases c3 : J (ox + 46) 1 < 6
  · rw [if_pos c3] at hc
    cases hc
    have k1 : ∀ r, ox + 56 ≤ r ∨ r < ox + 46 ∨ (ox + 48 ≤ r ∧ r < ox + 55) → q_u (q_u (q_u J (ox + 55) 15 0) (ox + 46 + 1) (Int.toNat (q_u J (ox + 55) 15 0 (ox + 46) 1)) p) (ox + 46) 1 (q_u (q_u J (ox + 55) 15 0) (ox + 46 + 1) (Int.toNat (q_u J (ox + 55) 15 0 (ox + 46) 1)) p (ox + 46) 1 + 1) r = J r := fun r hr => by rw [q_u_ne (by omega), q_u_ne (by omega), q_u_ne (by omega)]
    have k2 : q_u (q_u (q_u J (ox + 55) 15 0) (ox + 46 + 1) (Int.toNat (q_u J (ox + 55) 15 0 (ox + 46) 1)) p) (ox + 46) 1 (q_u (q_u J (ox + 55) 15 0) (ox + 46 + 1) (Int.toNat (q_u J (ox + 55) 15 0 (ox + 46) 1)) p (ox + 46) 1 + 1) (ox + 46) 1 = J om 66 + 1 := by rw [q_u_at, q_u_ne (show ox + 46 ≠ ox + 46 + 1 by omega), q_u_ne (show ox + 46 ≠ ox + 55 by omega), n3]
    generalize q_u (q_u (q_u J (ox + 55) 15 0) (ox + 46 + 1) (Int.toNat (q_u J (ox + 55) 15 0 (ox + 46) 1)) p) (ox + 46) 1 (q_u (q_u J (ox + 55) 15 0) (ox + 46 + 1) (Int.toNat (q_u J (ox + 55) 15 0 (ox + 46) 1)) p (ox + 46) 1 + 1) = JX at k1 k2 hm ⊢
    rw [k1 om (by omega), if_neg (by omega)] at hm
    cases hm
    have m0 : q_u JX om 135 0 om 66 = J om 66 := by rw [q_u_k (by decide), k1 om (by omega)]
    have m1 : q_u (q_u JX om 135 0) (om + 35) (Int.toNat (q_u JX om 135 0 om 66)) p om 66 = J om 66 := by rw [q_u_ne (by omega)]; exact m0
    have kf : ∀ r, r ≠ om → r ≠ om + 35 → q_u (q_u (q_u JX om 135 0) (om + 35) (Int.toNat (q_u JX om 135 0 om 66)) p) om 66 (q_u (q_u JX om 135 0) (om + 35) (Int.toNat (q_u JX om 135 0 om 66)) p om 66 + 1) r = JX r := fun r a b => by rw [q_u_ne a, q_u_ne b, q_u_ne a]
    have km : ∀ k, k ≠ 66 → k ≠ 135 → q_u (q_u (q_u JX om 135 0) (om + 35) (Int.toNat (q_u JX om 135 0 om 66)) p) om 66 (q_u (q_u JX om 135 0) (om + 35) (Int.toNat (q_u JX om 135 0 om 66)) p om 66 + 1) om k = J om k := fun k a b => by rw [q_u_k a, q_u_ne (by omega), q_u_k b, k1 om (by omega)]
    have k66 : q_u (q_u (q_u JX om 135 0) (om + 35) (Int.toNat (q_u JX om 135 0 om 66)) p) om 66 (q_u (q_u JX om 135 0) (om + 35) (Int.toNat (q_u JX om 135 0 om 66)) p om 66 + 1) om 66 = J om 66 + 1 := by rw [q_u_at, m1]
    generalize q_u (q_u (q_u JX om 135 0) (om + 35) (Int.toNat (q_u JX om 135 0 om 66)) p) om 66 (q_u (q_u JX om 135 0) (om + 35) (Int.toNat (q_u JX om 135 0 om 66)) p om 66 + 1) = JY at kf km k66 ⊢
    have g : ∀ r, r ≠ om → r ≠ om + 35 → (ox + 56 ≤ r ∨ r < ox + 46 ∨ (ox + 48 ≤ r ∧ r < ox + 55)) → JY r = J r := fun r a b d => (kf r a b).trans (k1 r d)
    refine ⟨by rw [k66, k2], h1.fr (by rw [g (ox + 1) (by omega) (by omega) (by omega)]) (g _ (by omega) (by omega) (by omega)) (km 2 (by decide) (by decide)) (g _ (by omega) (by omega) (by omega)), ⟨?_, ?_, ?_, ?_, ?_⟩, h3.fr (by rw [g l (by omega) (by omega) (by omega)]) (g _ (by omega) (by omega) (by omega)) (km 34 (by decide) (by decide)) (g _ (by omega) (by omega) (by omega)) (g _ (by omega) (by omega) (by omega)), h4.fr (by rw [g (ox + 48) (by omega) (by omega) (by omega)]) (km 67 (by decide) (by decide)) (fun r _ _ => g _ (by omega) (by omega) (by omega)) (fun r _ _ => g _ (by omega) (by omega) (by omega))⟩
    · rw [g ox (by omega) (by omega) (by omega), km 68 (by decide) (by decide)]; exact n1
    · rw [km 68 (by decide) (by decide)]; exact n2
    · rw [kf (ox + 46) (by omega) (by omega), k2, k66]
    · rw [k66]; omega
    · rw [k66]; omega
  · rw [if_neg c3] at hc
    cases hc
    rw [if_pos (by omega)] at hm
    cases hm
    exact ⟨rfl, h1, ⟨n1, n2, n3, n4, n5⟩, h3, h4⟩
/-- costs: no number that is looked at -/
theorem r_costs (h : RJ ox om l J) (ho : ox + 207 = om) (hl : ox + 8 ≤ l ∧ l + 16 ≤ ox + 40) {r : Int} (hc : gOffice_costs_0 ox J L x1 x2 x3 x4 x5 = (r, J1, L1)) (k1 : ∀ c, ¬ (c = ox + 46 ∨ c = ox + 55) → J1 c = J c) : J1 (ox + 46) 1 = J (ox + 46) 1 := by
  unfold gOffice_costs_0 gOffice_costs_34 gOffice_costs_35 at hc
  simp only [gLetp] at hc
  repeat' split at hc
  all_goals (cases hc; first | rfl | (rw [q_u_ne (show ox + 46 ≠ ox + 55 by omega), q_u_k (by decide), q_u_k (by decide), q_u_k (by decide), q_u_k (by decide), q_u_k (by decide)]))
/-- a FACT that comes behind those told -/
theorem cg_add (hn : J t 6 = (c : Int)) (hc : c < 40) : ∃ J2, gFacts_add_0 t J L s w mo v x = ((c : Int), J2, L) ∧ J2 t 6 = (c : Int) + 1 ∧ (J2 (t + 1) = ruI (J (t + 1)) c s ∧ J2 (t + 2) = ruI (J (t + 2)) c w ∧ J2 (t + 3) = ruI (J (t + 3)) c mo ∧ J2 (t + 4) = ruI (J (t + 4)) c v ∧ J2 (t + 5) = ruI (J (t + 5)) c x ∧ J2 (t + 6) = ruI (J (t + 6)) c (-1)) ∧ (∀ r, ¬ (t ≤ r ∧ r < t + 7) → J2 r = J r) ∧ ∀ k, k ≠ 6 → J2 t k = J t k := by
  unfold gFacts_add_0
  simp only [gLetp]
  rw [hn, if_pos (by omega)]
  simp only [q_u_ne (show t ≠ t + 1 by omega), q_u_ne (show t ≠ t + 2 by omega), q_u_ne (show t ≠ t + 3 by omega), q_u_ne (show t ≠ t + 4 by omega), q_u_ne (show t ≠ t + 5 by omega), q_u_ne (show t ≠ t + 6 by omega), q_u_at, hn, Int.toNat_natCast]
  refine ⟨_, by rw [show (c : Int) + 1 - 1 = (c : Int) by omega], q_u_at, ⟨?_, ?_, ?_, ?_, ?_, ?_⟩, fun r hr => ?_, fun k hk => ?_⟩
  · rw [q_u_ne (by omega), q_u_ne (by omega), q_u_ne (by omega), q_u_ne (by omega), q_u_ne (by omega), q_u_ne (by omega), q_u_rI]
  · rw [q_u_ne (by omega), q_u_ne (by omega), q_u_ne (by omega), q_u_ne (by omega), q_u_ne (by omega), q_u_rI, q_u_ne (by omega)]
  · rw [q_u_ne (by omega), q_u_ne (by omega), q_u_ne (by omega), q_u_ne (by omega), q_u_rI, q_u_ne (by omega), q_u_ne (by omega)]
  · rw [q_u_ne (by omega), q_u_ne (by omega), q_u_ne (by omega), q_u_rI, q_u_ne (by omega), q_u_ne (by omega), q_u_ne (by omega)]
  · rw [q_u_ne (by omega), q_u_ne (by omega), q_u_rI, q_u_ne (by omega), q_u_ne (by omega), q_u_ne (by omega), q_u_ne (by omega)]
  · rw [q_u_ne (by omega), q_u_rI, q_u_ne (by omega), q_u_ne (by omega), q_u_ne (by omega), q_u_ne (by omega), q_u_ne (by omega)]
  · rw [q_u_ne (by omega), q_u_ne (by omega), q_u_ne (by omega), q_u_ne (by omega), q_u_ne (by omega), q_u_ne (by omega), q_u_ne (by omega)]
  · rw [q_u_k hk, q_u_ne (by omega), q_u_ne (by omega), q_u_ne (by omega), q_u_ne (by omega), q_u_ne (by omega), q_u_ne (by omega)]
theorem c_addX (hn : ¬ J t 6 < 40) : gFacts_add_0 t J L s w mo v x = (-1, J, L) := by
  unfold gFacts_add_0
  simp only [gLetp]
  rw [if_neg hn]
theorem m_fact (hn : J t 67 = (c : Int)) (hc : c < 40) : ∃ J2, gModel_fact_0 t J L s w mo v = ((c : Int), J2, L) ∧ J2 t 67 = (c : Int) + 1 ∧ (J2 (t + 36) = ruI (J (t + 36)) c s ∧ J2 (t + 37) = ruI (J (t + 37)) c w ∧ J2 (t + 38) = ruI (J (t + 38)) c mo ∧ J2 (t + 39) = ruI (J (t + 39)) c v ∧ J2 (t + 40) = ruI (J (t + 40)) c (J t 68) ∧ J2 (t + 41) = ruI (J (t + 41)) c (-1)) ∧ (∀ r, r ≠ t → ¬ (t + 36 ≤ r ∧ r < t + 42) → J2 r = J r) ∧ ∀ k, k ≠ 67 → J2 t k = J t k := by
  unfold gModel_fact_0
  simp only [gLetp]
  rw [hn, if_neg (by omega)]
  simp only [q_u_ne (show t ≠ t + 36 by omega), q_u_ne (show t ≠ t + 37 by omega), q_u_ne (show t ≠ t + 38 by omega), q_u_ne (show t ≠ t + 39 by omega), q_u_ne (show t ≠ t + 40 by omega), q_u_ne (show t ≠ t + 41 by omega), q_u_at, hn, Int.toNat_natCast]
  refine ⟨_, by rw [show (c : Int) + 1 - 1 = (c : Int) by omega], q_u_at, ⟨?_, ?_, ?_, ?_, ?_, ?_⟩, fun r h1 h2 => ?_, fun k hk => ?_⟩
  · rw [q_u_ne (by omega), q_u_ne (by omega), q_u_ne (by omega), q_u_ne (by omega), q_u_ne (by omega), q_u_ne (by omega), q_u_rI]
  · rw [q_u_ne (by omega), q_u_ne (by omega), q_u_ne (by omega), q_u_ne (by omega), q_u_ne (by omega), q_u_rI, q_u_ne (by omega)]
  · rw [q_u_ne (by omega), q_u_ne (by omega), q_u_ne (by omega), q_u_ne (by omega), q_u_rI, q_u_ne (by omega), q_u_ne (by omega)]
  · rw [q_u_ne (by omega), q_u_ne (by omega), q_u_ne (by omega), q_u_rI, q_u_ne (by omega), q_u_ne (by omega), q_u_ne (by omega)]
  · rw [q_u_ne (by omega), q_u_ne (by omega), q_u_rI, q_u_ne (by omega), q_u_ne (by omega), q_u_ne (by omega), q_u_ne (by omega)]
  · rw [q_u_ne (by omega), q_u_rI, q_u_ne (by omega), q_u_ne (by omega), q_u_ne (by omega), q_u_ne (by omega), q_u_ne (by omega)]
  · rw [q_u_ne (by omega), q_u_ne (by omega), q_u_ne (by omega), q_u_ne (by omega), q_u_ne (by omega), q_u_ne (by omega), q_u_ne (by omega)]
  · rw [q_u_k hk, q_u_ne (by omega), q_u_ne (by omega), q_u_ne (by omega), q_u_ne (by omega), q_u_ne (by omega), q_u_ne (by omega)]
theorem m_factX (hn : J t 67 = 40) : gModel_fact_0 t J L s w mo v = (-1, J, L) := by
  unfold gModel_fact_0
  simp only [gLetp]
  rw [if_pos hn]
/-- both take the same FACT -/
theorem r_fact (h : RJ ox om l J) (ho : ox + 207 = om) (hl : ox + 8 ≤ l ∧ l + 16 ≤ ox + 40) {r r' : Int} (hc : gFacts_add_0 (ox + 48) J L s w mo v (J ox 7) = (r, J1, L1)) (hm : gModel_fact_0 om J1 L' s w mo v = (r', J2, L2)) : r' = r ∧ RJ ox om l J2 := by
  obtain ⟨h1, h2, h3, h4⟩ := h
  obtain ⟨f1, f2, f3, f4⟩ := id h4
  by_cases c1 : J (ox + 48) 6 < 40
  · obtain ⟨k, hk⟩ : ∃ k : Nat, J om 67 = (k : Int) := ⟨(J om 67).toNat, by omega⟩
    have k40 : k < 40 := by omega
    obtain ⟨JX, e1, e2, ⟨a1, a2, a3, a4, a5, a6⟩, e3, e4⟩ := cg_add (J := J) (L := L) (s := s) (w := w) (mo := mo) (v := v) (x := J ox 7) (t := ox + 48) (c := k) (by omega) k40
    rw [e1] at hc
    cases hc
    have xm : J1 om = J om := e3 om (by omega)
    obtain ⟨JY, g1, g2, ⟨b1, b2, b3, b4, b5, b6⟩, g3, g4⟩ := m_fact (J := J1) (L := L') (s := s) (w := w) (mo := mo) (v := v) (t := om) (c := k) (by rw [xm]; exact hk) k40
    rw [g1] at hm
    cases hm
    have fr : ∀ r, r ≠ om → ¬ (om + 36 ≤ r ∧ r < om + 42) → ¬ (ox + 48 ≤ r ∧ r < ox + 55) → J2 r = J r := fun r q1 q2 q3 => (g3 r q1 q2).trans (e3 r (by omega))
    have fm : ∀ y, y ≠ 67 → J2 om y = J om y := fun y hy => by rw [g4 y hy, xm]
    refine ⟨rfl, h1.fr (by rw [fr (ox + 1) (by omega) (by omega) (by omega)]) (fr _ (by omega) (by omega) (by omega)) (fm 2 (by decide)) (fr _ (by omega) (by omega) (by omega)), h2.fr (by rw [fr ox (by omega) (by omega) (by omega)]) (by rw [fr (ox + 46) (by omega) (by omega) (by omega)]) (fm 68 (by decide)) (fm 66 (by decide)), h3.fr (by rw [fr l (by omega) (by omega) (by omega)]) (fr _ (by omega) (by omega) (by omega)) (fm 34 (by decide)) (fr _ (by omega) (by omega) (by omega)) (fr _ (by omega) (by omega) (by omega)), ?_, ?_, ?_, fun y hy => ?_⟩
    · rw [g3 (ox + 48) (by omega) (by omega), e2, g2]
    · rw [g2]; omega
    · rw [g2]; omega
    · rw [g2] at hy
      have u : ∀ i, 1 ≤ i → i < 7 → J2 (ox + 48 + i) = J1 (ox + 48 + i) := fun i _ _ => g3 _ (by omega) (by omega)
      have v' : ∀ i, 36 ≤ i → i < 42 → J1 (om + i) = J (om + i) := fun i _ _ => e3 _ (by omega)
      rw [show ox + 49 = ox + 48 + 1 by omega, show ox + 50 = ox + 48 + 2 by omega, show ox + 51 = ox + 48 + 3 by omega, show ox + 52 = ox + 48 + 4 by omega, show ox + 53 = ox + 48 + 5 by omega, show ox + 54 = ox + 48 + 6 by omega, u 1 (by decide) (by decide), u 2 (by decide) (by decide), u 3 (by decide) (by decide), u 4 (by decide) (by decide), u 5 (by decide) (by decide), u 6 (by decide) (by decide), a1, a2, a3, a4, a5, a6, b1, b2, b3, b4, b5, b6, v' 36 (by decide) (by decide), v' 37 (by decide) (by decide), v' 38 (by decide) (by decide), v' 39 (by decide) (by decide), v' 40 (by decide) (by decide), v' 41 (by decide) (by decide), xm]
      by_cases z : y = k
      · subst z
        simp only [ruI_at]
        exact ⟨trivial, trivial, trivial, trivial, h2.1, trivial, by decide⟩
      · simp only [ruI_ne z]
        exact f4 y (by omega)
  · rw [c_addX c1] at hc
    cases hc
    rw [m_factX (by omega)] at hm
    cases hm
    exact ⟨rfl, h1, h2, h3, h4⟩
theorem r_within (a b : Int) : (gOffice_within_0 J L x a b = 0) ↔ ¬ (a ≤ x ∧ x ≤ b) := by
  unfold gOffice_within_0
  split
  · exact ⟨fun _ => by omega, fun _ => rfl⟩
  · split
    · exact ⟨fun _ => by omega, fun _ => rfl⟩
    · exact ⟨fun q => absurd q (by decide), fun q => by omega⟩
theorem r_isIn (a b : Int) : (gModel_isIn_0 J L x a b = 0) ↔ ¬ (a ≤ x ∧ x ≤ b) := r_within (J := J) (L := L) a b
theorem r_isMonth : (gModel_isMonth_0 J L x = 0) ↔ ¬ (0 ≤ x ∧ x ≤ 239) := by
  unfold gModel_isMonth_0
  simp only [gLetp]
  exact r_isIn 0 239
/-- the class's tellFact -/
theorem c_tell : gOffice_tellFact_0 ox J L s w mo v = if 0 ≤ mo ∧ mo ≤ 239 then gFacts_add_0 (ox + 48) J L s w mo v (J ox 7) else (-1, J, L) := by
  unfold gOffice_tellFact_0
  simp only [gLetp, gB3p]
  by_cases c1 : mo < 0
  · rw [if_pos c1, if_neg (by omega)]
  · rw [if_neg c1]
    by_cases c2 : mo < 240
    · rw [if_pos c2, if_pos (by omega)]
    · rw [if_neg c2, if_neg (by omega)]
theorem r_weather (h : RJ ox om l J) (ho : ox + 207 = om) (hl : ox + 8 ≤ l ∧ l + 16 ≤ ox + 40) {r r' : Int} (hc : gOffice_weather_0 ox l J L x1 x2 x3 = (r, J1, L1)) (hm : gModel_weather_0 om J1 L' x1 x2 x3 = (r', J2, L2)) (hu : ∀ c, ¬ (ox + 48 ≤ c ∧ c < ox + 55) → J1 c = J c) : r' = r ∧ RJ ox om l J2 := by
  unfold gOffice_weather_0 at hc
  unfold gModel_weather_0 gModel_pans_0 at hm
  simp only [gLetp, gB3p] at hc hm
  rw [c_tell] at hc
  have pe : J1 (om + 8) (Int.toNat (J1 om 34)) = J l 2 := by rw [hu om (by omega), hu (om + 8) (by omega)]; exact h.2.2.1.2.1.symm
  rw [pe] at hm
  by_cases c1 : 0 ≤ x1 ∧ x1 ≤ J l 2 - 1
  · rw [if_neg (by omega), if_neg (by omega)] at hc
    rw [if_neg (fun q => (r_isIn _ _).mp q c1)] at hm
    by_cases c2 : 0 ≤ x3 ∧ x3 ≤ 300
    · rw [if_neg (fun q => (r_within _ _).mp q c2)] at hc
      by_cases c3 : 0 ≤ x2 ∧ x2 ≤ 239
      · rw [if_pos c3] at hc
        rw [if_neg (fun q => r_isMonth.mp q c3), if_neg (fun q => (r_isIn _ _).mp q c2)] at hm
        exact r_fact h ho hl hc hm
      · rw [if_neg c3] at hc
        cases hc
        rw [if_pos (r_isMonth.mpr c3)] at hm
        cases hm
        exact ⟨rfl, h⟩
    · rw [if_pos ((r_within _ _).mpr c2)] at hc
      cases hc
      rw [if_pos ((r_isIn _ _).mpr c2)] at hm
      split at hm
      · cases hm; exact ⟨rfl, h⟩
      · cases hm; exact ⟨rfl, h⟩
  · rw [if_pos ((r_isIn _ _).mpr c1)] at hm
    cases hm
    by_cases c2 : x1 < 0
    · rw [if_pos c2] at hc
      cases hc
      exact ⟨rfl, h⟩
    · rw [if_neg c2, if_pos (by omega)] at hc
      cases hc
      exact ⟨rfl, h⟩
theorem r_forged (h : RJ ox om l J) (ho : ox + 207 = om) (hl : ox + 8 ≤ l ∧ l + 16 ≤ ox + 40) {r r' : Int} (hc : gOffice_forged_0 ox J L x1 x2 = (r, J1, L1)) (hm : gModel_forged_0 om J1 L' x1 x2 = (r', J2, L2)) : r' = r ∧ RJ ox om l J2 := by
  unfold gOffice_forged_0 at hc
  unfold gModel_forged_0 at hm
  simp only [gLetp, gB3p] at hc hm
  rw [c_tell] at hc
  by_cases c1 : 0 ≤ x1 ∧ x1 ≤ 1999
  · rw [if_neg (by omega), if_pos (by omega)] at hc
    rw [if_neg (fun q => (r_isIn _ _).mp q c1)] at hm
    by_cases c3 : 0 ≤ x2 ∧ x2 ≤ 239
    · rw [if_pos c3] at hc
      rw [if_neg (fun q => r_isMonth.mp q c3)] at hm
      exact r_fact h ho hl hc hm
    · rw [if_neg c3] at hc
      cases hc
      rw [if_pos (r_isMonth.mpr c3)] at hm
      cases hm
      exact ⟨rfl, h⟩
  · rw [if_pos ((r_isIn _ _).mpr c1)] at hm
    cases hm
    by_cases c2 : x1 < 0
    · rw [if_pos c2] at hc
      cases hc
      exact ⟨rfl, h⟩
    · rw [if_neg c2, if_neg (by omega)] at hc
      cases hc
      exact ⟨rfl, h⟩
theorem r_dead (h : RJ ox om l J) (ho : ox + 207 = om) (hl : ox + 8 ≤ l ∧ l + 16 ≤ ox + 40) {r r' : Int} (hc : gOffice_dead_0 ox J L x1 x2 x3 = (r, J1, L1)) (hm : gModel_dead_0 om J1 L' x1 x2 x3 = (r', J2, L2)) (hu : ∀ c, ¬ (ox + 48 ≤ c ∧ c < ox + 55) → J1 c = J c) : r' = r ∧ RJ ox om l J2 := by
  unfold gOffice_dead_0 gOffice_dead_44 at hc
  unfold gModel_dead_0 at hm
  simp only [gLetp, gB3p] at hc hm
  rw [c_tell] at hc
  have me := h.2.1.2.2.1
  rw [hu om (by omega)] at hm
  rw [me] at hc
  have both : (0 ≤ x1 ∧ x1 ≤ J om 66 - 1) → ¬ x3 = x1 → (-1 ≤ x3 ∧ x3 ≤ J om 66 - 1) → (if 0 ≤ x2 ∧ x2 ≤ 239 then gFacts_add_0 (ox + 48) J L 2 x1 x2 x3 (J ox 7) else (-1, J, L)) = (r, J1, L1) → r' = r ∧ RJ ox om l J2 := by
    intro c1 c2 c3 hc
    rw [if_neg (fun q => (r_isIn _ _).mp q c1)] at hm
    by_cases c4 : 0 ≤ x2 ∧ x2 ≤ 239
    · rw [if_pos c4] at hc
      rw [if_neg (fun q => r_isMonth.mp q c4), if_neg (fun q => (r_isIn _ _).mp q c3), if_neg c2] at hm
      exact r_fact h ho hl hc hm
    · rw [if_neg c4] at hc
      cases hc
      rw [if_pos (r_isMonth.mpr c4)] at hm
      cases hm
      exact ⟨rfl, h⟩
  have none : (-1, J, L) = (r, J1, L1) → ¬ ((0 ≤ x1 ∧ x1 ≤ J om 66 - 1) ∧ ¬ x3 = x1 ∧ (-1 ≤ x3 ∧ x3 ≤ J om 66 - 1)) → r' = r ∧ RJ ox om l J2 := by
    intro hc no
    cases hc
    by_cases c1 : 0 ≤ x1 ∧ x1 ≤ J om 66 - 1
    · rw [if_neg (fun q => (r_isIn _ _).mp q c1)] at hm
      split at hm
      · cases hm; exact ⟨rfl, h⟩
      · by_cases c3 : -1 ≤ x3 ∧ x3 ≤ J om 66 - 1
        · rw [if_neg (fun q => (r_isIn _ _).mp q c3), if_pos (Classical.byContradiction (fun z => no ⟨c1, z, c3⟩))] at hm
          cases hm; exact ⟨rfl, h⟩
        · rw [if_pos ((r_isIn _ _).mpr c3)] at hm
          cases hm; exact ⟨rfl, h⟩
    · rw [if_pos ((r_isIn _ _).mpr c1)] at hm
      cases hm; exact ⟨rfl, h⟩
  by_cases d1 : x1 < 0
  · rw [if_pos d1] at hc
    exact none hc (by omega)
  rw [if_neg d1] at hc
  by_cases d2 : J om 66 ≤ x1
  · rw [if_pos d2] at hc
    exact none hc (by omega)
  rw [if_neg d2] at hc
  by_cases d3 : x1 = x3
  · rw [if_pos d3] at hc
    exact none hc (by omega)
  rw [if_neg d3] at hc
  by_cases d4 : x3 = -1
  · rw [if_pos d4] at hc
    exact both (by omega) (by omega) (by omega) hc
  rw [if_neg d4] at hc
  by_cases d5 : x3 < 0
  · rw [if_pos d5] at hc
    exact none hc (by omega)
  rw [if_neg d5] at hc
  by_cases d6 : x3 < J om 66
  · rw [if_pos d6] at hc
    exact both (by omega) (by omega) (by omega) hc
  · rw [if_neg d6] at hc
    exact none hc (by omega)
theorem r_untell (h : RJ ox om l J) (ho : ox + 207 = om) (hl : ox + 8 ≤ l ∧ l + 16 ≤ ox + 40) {r r' : Int} (hc : gOffice_untell_0 ox J L p = (r, J1, L1)) (hm : gModel_untell_0 om J1 L' p = (r', J2, L2)) : r' = r ∧ RJ ox om l J2 := by
  obtain ⟨h1, h2, h3, h4⟩ := h
  obtain ⟨f1, f2, f3, f4⟩ := id h4
  unfold gOffice_untell_0 at hc
  unfold gModel_untell_0 at hm
  simp only [gLetp] at hc hm
  by_cases c1 : p < 0
  · rw [if_pos c1] at hc hm
    cases hc; cases hm
    exact ⟨rfl, h1, h2, h3, h4⟩
  rw [if_neg c1] at hc hm
  by_cases c2 : J (ox + 48) 6 ≤ p
  · rw [if_pos c2] at hc
    cases hc
    rw [if_pos (by omega)] at hm
    cases hm
    exact ⟨rfl, h1, h2, h3, h4⟩
  rw [if_neg c2] at hc
  obtain ⟨k, hk⟩ : ∃ k : Nat, p = (k : Int) := ⟨p.toNat, by omega⟩
  subst hk
  rw [Int.toNat_natCast] at hc hm
  obtain ⟨z1, z2, z3, z4, z5, z6, z7⟩ := f4 k (by omega)
  have z6' : J (ox + 48 + 6) k = J (om + 41) k := z6
  by_cases c3 : J (ox + 48 + 6) k = -1
  · rw [if_pos c3] at hc
    cases hc
    have a0 : ∀ r, r ≠ ox + 48 + 6 → q_u J (ox + 48 + 6) k (J ox 7) r = J r := fun r hr => q_u_ne hr
    rw [a0 om (by omega), a0 (om + 41) (by omega), if_neg (by omega), if_pos (by omega)] at hm
    cases hm
    have b0 : ∀ r, r ≠ om + 41 → q_u (q_u J (ox + 48 + 6) k (J ox 7)) (om + 41) k (J om 68) r = q_u J (ox + 48 + 6) k (J ox 7) r := fun r hr => q_u_ne hr
    have g : ∀ r, r ≠ ox + 48 + 6 → r ≠ om + 41 → q_u (q_u J (ox + 48 + 6) k (J ox 7)) (om + 41) k (J om 68) r = J r := fun r a b => (b0 r b).trans (a0 r a)
    have g54 : q_u (q_u J (ox + 48 + 6) k (J ox 7)) (om + 41) k (J om 68) (ox + 54) = ruI (J (ox + 54)) k (J om 68) := by rw [b0 _ (by omega), h2.1]; exact q_u_rI
    have g41 : q_u (q_u J (ox + 48 + 6) k (J ox 7)) (om + 41) k (J om 68) (om + 41) = ruI (J (om + 41)) k (J om 68) := by rw [q_u_rI, a0 _ (by omega)]
    generalize q_u (q_u J (ox + 48 + 6) k (J ox 7)) (om + 41) k (J om 68) = JX at g g54 g41 ⊢
    refine ⟨rfl, h1.fr (by rw [g (ox + 1) (by omega) (by omega)]) (g _ (by omega) (by omega)) (by rw [g om (by omega) (by omega)]) (g _ (by omega) (by omega)), h2.fr (by rw [g ox (by omega) (by omega)]) (by rw [g (ox + 46) (by omega) (by omega)]) (by rw [g om (by omega) (by omega)]) (by rw [g om (by omega) (by omega)]), h3.fr (by rw [g l (by omega) (by omega)]) (g _ (by omega) (by omega)) (by rw [g om (by omega) (by omega)]) (g _ (by omega) (by omega)) (g _ (by omega) (by omega)), ?_, ?_, ?_, fun y hy => ?_⟩
    · rw [g (ox + 48) (by omega) (by omega), g om (by omega) (by omega)]; exact f1
    · rw [g om (by omega) (by omega)]; exact f2
    · rw [g om (by omega) (by omega)]; exact f3
    · rw [g om (by omega) (by omega)] at hy
      obtain ⟨y1, y2, y3, y4, y5, y6, y7⟩ := f4 y hy
      rw [g (ox + 49) (by omega) (by omega), g (ox + 50) (by omega) (by omega), g (ox + 51) (by omega) (by omega), g (ox + 52) (by omega) (by omega), g (ox + 53) (by omega) (by omega), g (om + 36) (by omega) (by omega), g (om + 37) (by omega) (by omega), g (om + 38) (by omega) (by omega), g (om + 39) (by omega) (by omega), g (om + 40) (by omega) (by omega), g54, g41]
      refine ⟨y1, y2, y3, y4, y5, ?_⟩
      by_cases z : y = k
      · rw [z, ruI_at, ruI_at]
        have := h2.2.1
        exact ⟨rfl, by omega⟩
      · rw [ruI_ne z, ruI_ne z]
        exact ⟨y6, y7⟩
  · rw [if_neg c3] at hc
    cases hc
    rw [if_neg (by omega), if_neg (by omega)] at hm
    cases hm
    exact ⟨rfl, h1, h2, h3, h4⟩
theorem r_end (h : RJ ox om l J) (ho : ox + 207 = om) (hl : ox + 8 ≤ l ∧ l + 16 ≤ ox + 40) {r r' : Int} (hc : gOffice_end_0 ox J L p = (r, J1, L1)) (hm : gModel_end_0 om J1 L' p = (r', J2, L2)) : r' = r ∧ RJ ox om l J2 := by
  obtain ⟨h1, h2, h3, h4⟩ := h
  unfold gOffice_end_0 at hc
  unfold gModel_end_0 at hm
  simp only [gLetp] at hc hm
  by_cases c1 : p < 0
  · rw [if_pos c1] at hc hm
    cases hc; cases hm
    exact ⟨rfl, h1, h2, h3, h4⟩
  rw [if_neg c1] at hc hm
  obtain ⟨t1, t2, t3, t4⟩ := id h1
  by_cases c2 : p ≤ J (ox + 1) 6
  · rw [if_pos c2] at hc
    cases hc
    rw [q_u_ne (show om ≠ ox + 1 by omega), if_pos (by omega)] at hm
    cases hm
    have g : ∀ r, r ≠ ox + 1 → r ≠ om → q_u (q_u J (ox + 1) 6 p) om 2 p r = J r := fun r a b => by rw [q_u_ne b, q_u_ne a]
    have gm : ∀ k, k ≠ 2 → q_u (q_u J (ox + 1) 6 p) om 2 p om k = J om k := fun k a => by rw [q_u_k a, q_u_ne (by omega)]
    have e1 : q_u (q_u J (ox + 1) 6 p) om 2 p (ox + 1) 6 = p := by rw [q_u_ne (by omega), q_u_at]
    have e2 : q_u (q_u J (ox + 1) 6 p) om 2 p om 2 = p := q_u_at
    generalize q_u (q_u J (ox + 1) 6 p) om 2 p = JX at g gm e1 e2 ⊢
    refine ⟨rfl, ⟨by rw [e1, e2], by rw [e2]; omega, by rw [e2]; omega, fun k hk => ?_⟩, h2.fr (by rw [g ox (by omega) (by omega)]) (by rw [g (ox + 46) (by omega) (by omega)]) (gm 68 (by decide)) (gm 66 (by decide)), h3.fr (by rw [g l (by omega) (by omega)]) (g _ (by omega) (by omega)) (gm 34 (by decide)) (g _ (by omega) (by omega)) (g _ (by omega) (by omega)), h4.fr (by rw [g (ox + 48) (by omega) (by omega)]) (gm 67 (by decide)) (fun r _ _ => g _ (by omega) (by omega)) (fun r _ _ => g _ (by omega) (by omega))⟩
    rw [e2] at hk
    rw [g (ox + 2) (by omega) (by omega), g (om + 1) (by omega) (by omega)]
    exact t4 k (by omega)
  · rw [if_neg c2] at hc
    cases hc
    rw [if_neg (by omega)] at hm
    cases hm
    exact ⟨rfl, h1, h2, h3, h4⟩
end REL
