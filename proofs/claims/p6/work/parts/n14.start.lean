/-! The beginning and the end of a LAND, in both. By hand. -/
theorem gFl_off {α : Type} {f : Nat → Nat → α} {a w x y : Nat} {v : α} (h : x ≠ a) : gFill f a w v x y = f x y := by
  unfold gFill
  rw [if_neg (fun q => h q.1)]
theorem gFl_at {α : Type} {f : Nat → Nat → α} {a w y : Nat} {v : α} (h : y < w) : gFill f a w v a y = v := by
  unfold gFill
  rw [if_pos ⟨rfl, h⟩]
theorem and255 (X : Int32) : vp_nar .byte X &&& 255 = X &&& 255 := by
  show X.toInt8.toInt32 &&& 255 = X &&& 255
  apply Int32.toBitVec_inj.mp
  rw [Int32.toBitVec_and, Int32.toBitVec_and]
  apply BitVec.eq_of_getLsbD_eq
  intro i hi
  rw [BitVec.getLsbD_and, BitVec.getLsbD_and]
  by_cases c : i < 8
  · congr 1
    rw [Int8.toBitVec_toInt32, Int32.toBitVec_toInt8, BitVec.getLsbD_signExtend, BitVec.getLsbD_signExtend]
    simp [c, hi]
  · have z : (255 : Int32).toBitVec.getLsbD i = false := by
      have w : ∀ j, j < 32 → ¬ j < 8 → (255 : Int32).toBitVec.getLsbD j = false := by decide
      exact w i hi c
    rw [z, Bool.and_false, Bool.and_false]
theorem wNar_and (x : Int) : wAnd (wNar8 x) 255 = wAnd x 255 := by
  unfold wNar8 wAnd
  rw [Int32.ofInt_toInt]
  exact congrArg Int32.toInt (and255 _)
section ST
variable {pl : Bool} {B : Nat → Int} {N T o m l b : Nat} {J J2 J3 : gJ} {L L2 L3 : gL} {I I2 I3 : gJ} {K K2 K3 : gL}
/-- only this row is another -/
def RwFr (a : Nat) (J J' : gJ) : Prop := ∀ r, r ≠ a → J' r = J r
theorem RwFr.rf {a : Nat} : RwFr a J J := fun _ _ => rfl
theorem RwFr.tr {a : Nat} (h : RwFr a J J2) (g : RwFr a J2 J3) : RwFr a J J3 := fun r q => (g r q).trans (h r q)
theorem rwq {a k : Nat} {v : Int} : RwFr a J (q_u J a k v) := fun _ q => q_u_ne q
-- the class clears its land
theorem c_clear43 : ∀ (f i k : Nat) (J : gJ) (L : gL), i + f = 16 → f < k → ∃ J2, gLand_clear_43 k l J L (i : Int) = (0, J2, L) ∧ RwFr (l + 2) J J2 ∧ (∀ y, (∀ z, i ≤ z → z < 16 → y ≠ 17 * z) → J2 (l + 2) y = J (l + 2) y) ∧ ∀ z, i ≤ z → z < 16 → J2 (l + 2) (17 * z) = 0 := by
  intro f
  induction f with
  | zero =>
    intro i k J L hi hk
    obtain ⟨k, rfl⟩ : ∃ k', k = k' + 1 := ⟨k - 1, by omega⟩
    rw [eLand_clear_43, if_pos (by omega)]
    exact ⟨J, rfl, RwFr.rf, fun _ _ => rfl, fun z h1 h2 => by omega⟩
  | succ f ih =>
    intro i k J L hi hk
    obtain ⟨k, rfl⟩ : ∃ k', k = k' + 1 := ⟨k - 1, by omega⟩
    rw [eLand_clear_43, if_neg (by omega)]
    simp only [gLetp]
    rw [nat1, show Int.toNat ((i : Int) * 16 + (i : Int)) = 17 * i from by omega]
    obtain ⟨J2, e, f1, f2, f3⟩ := ih (i + 1) k (q_u J (l + 2) (17 * i) 0) L (by omega) (by omega)
    refine ⟨J2, e, rwq.tr f1, fun y q => ?_, fun z h1 h2 => ?_⟩
    · rw [f2 y (fun z h1 h2 => q z (by omega) h2), q_u_k (q i (Nat.le_refl _) (by omega))]
    · by_cases c : z = i
      · rw [c, f2 _ (fun z h1 h2 => by omega), q_u_at]
      · exact f3 z (by omega) h2
theorem c_clear (J : gJ) (L : gL) : ∃ J2, gLand_clear_0 l J L = (0, J2, L) ∧ (∀ r y, r ≠ l + 2 → r ≠ l + 8 → ¬ (r = l ∧ y < 5) → J2 r y = J r y) ∧ (∀ y, y < 5 → J2 l y = 0) ∧ (∀ y, y < 15 → J2 (l + 8) y = 0) ∧ ∀ x y, x < 16 → y < 16 → J2 (l + 2) (16 * x + y) = if x = y then 0 else -1 := by
  unfold gLand_clear_0
  simp only [gLetp]
  have k1 : ∀ r y, ¬ (r = l ∧ y < 5) → q_u (q_u (q_u (q_u (q_u J l 0 0) l 1 0) l 2 0) l 3 0) l 4 0 r y = J r y := by
    intro r y q
    rw [q_u_off (by omega), q_u_off (by omega), q_u_off (by omega), q_u_off (by omega), q_u_off (by omega)]
  have k2 : ∀ y, y < 5 → q_u (q_u (q_u (q_u (q_u J l 0 0) l 1 0) l 2 0) l 3 0) l 4 0 l y = 0 := by
    intro y q
    have w : y = 0 ∨ y = 1 ∨ y = 2 ∨ y = 3 ∨ y = 4 := by omega
    rcases w with w | w | w | w | w <;> subst w
    · rw [q_u_k (by decide), q_u_k (by decide), q_u_k (by decide), q_u_k (by decide), q_u_at]
    · rw [q_u_k (by decide), q_u_k (by decide), q_u_k (by decide), q_u_at]
    · rw [q_u_k (by decide), q_u_k (by decide), q_u_at]
    · rw [q_u_k (by decide), q_u_at]
    · rw [q_u_at]
  generalize q_u (q_u (q_u (q_u (q_u J l 0 0) l 1 0) l 2 0) l 3 0) l 4 0 = J1 at k1 k2 ⊢
  obtain ⟨J2, e, f1, f2, f3⟩ := c_clear43 (l := l) 16 0 20000 (gFill (gFill J1 (l + 8) 15 0) (l + 2) 256 (-1)) L rfl (by omega)
  refine ⟨J2, e, fun r y a b c => ?_, fun y q => ?_, fun y q => ?_, fun x y hx hy => ?_⟩
  · rw [f1 r a, gFl_off a, gFl_off b]
    exact k1 r y c
  · rw [f1 l (by omega), gFl_off (by omega), gFl_off (by omega)]
    exact k2 y q
  · rw [f1 _ (by omega), gFl_off (by omega), gFl_at q]
  · by_cases c : x = y
    · rw [if_pos c, ← c, show 16 * x + x = 17 * x from by omega]
      exact f3 x (Nat.zero_le _) hx
    · rw [if_neg c, f2 _ (fun z _ hz => by omega), gFl_at (by omega)]
-- the reference takes its tape
theorem m_take25 {x1 : Int} : ∀ (f i k : Nat) (I : gJ), I m 3 = (N : Int) → i + f = N → f < k → ∃ I2, gModel_takeTape_25 k m I K x1 (i : Int) = (0, I2, K) ∧ (∀ r, r ≠ m → r ≠ m + 2 → I2 r = I r) ∧ (∀ y, y ≠ 2 → y ≠ 7 → I2 m y = I m y) ∧ I2 m 2 = 0 ∧ I2 m 7 = 0 ∧ (∀ y, i ≤ y → y < N → I2 (m + 2) y = wNar8 (I (m + 1) y)) ∧ ∀ y, y < i → I2 (m + 2) y = I (m + 2) y := by
  intro f
  induction f with
  | zero =>
    intro i k I h3 hi hk
    obtain ⟨k, rfl⟩ : ∃ k', k = k' + 1 := ⟨k - 1, by omega⟩
    rw [eModel_takeTape_25]
    simp only [gLetp]
    rw [h3, if_pos (by omega)]
    refine ⟨_, rfl, fun r a _ => by rw [q_u_ne a, q_u_ne a], fun y a c => by rw [q_u_k c, q_u_k a], by rw [q_u_k (by decide), q_u_at], q_u_at, fun y a c => by omega, fun y _ => by rw [q_u_ne (by omega), q_u_ne (by omega)]⟩
  | succ f ih =>
    intro i k I h3 hi hk
    obtain ⟨k, rfl⟩ : ∃ k', k = k' + 1 := ⟨k - 1, by omega⟩
    rw [eModel_takeTape_25]
    simp only [gLetp]
    rw [h3, if_neg (by omega), nat1, Int.toNat_natCast]
    obtain ⟨I2, e, f1, f2, f3, f4, f5, f6⟩ := ih (i + 1) k (q_u I (m + 2) i (wNar8 (I (m + 1) i))) (by rw [q_u_ne (by omega)]; exact h3) (by omega) (by omega)
    refine ⟨I2, e, fun r a c => by rw [f1 r a c, q_u_ne c], fun y a c => by rw [f2 y a c, q_u_ne (by omega)], f3, f4, fun y a c => ?_, fun y a => by rw [f6 y (by omega), q_u_k (by omega)]⟩
    by_cases z : y = i
    · rw [z, f6 i (Nat.lt_succ_self i), q_u_at]
    · rw [f5 y (by omega) c, q_u_ne (by omega)]
theorem m_takeTape (h2 : I m 2 = (N : Int)) (hN : N ≤ 1600) (hby : ∀ k, k < N → wAnd (I (m + 1) k) 255 = B k) {x1 : Int} : ∃ I2, gModel_takeTape_0 m I K x1 = (0, I2, K) ∧ MX B N m I2 ∧ I2 m 11 = x1 ∧ I2 m 4 = 0 ∧ I2 m 5 = -1 ∧ I2 m 7 = 0 ∧ I2 m 2 = 0 ∧ (∀ r, r ≠ m → r ≠ m + 2 → I2 r = I r) ∧ ∀ y, y ≠ 2 → y ≠ 3 → y ≠ 4 → y ≠ 5 → y ≠ 7 → y ≠ 11 → I2 m y = I m y := by
  unfold gModel_takeTape_0
  simp only [gLetp]
  have e2 : q_u (q_u (q_u I m 11 x1) m 4 0) m 5 (-1) m 2 = (N : Int) := by
    rw [q_u_k (by decide), q_u_k (by decide), q_u_k (by decide)]; exact h2
  rw [e2]
  obtain ⟨I2, e, f1, f2, f3, f4, f5, f6⟩ := m_take25 (m := m) (N := N) (K := K) (x1 := x1) N 0 20000 (q_u (q_u (q_u (q_u I m 11 x1) m 4 0) m 5 (-1)) m 3 (N : Int)) q_u_at (Nat.zero_add _) (by omega)
  refine ⟨I2, e, ⟨by rw [f2 3 (by decide) (by decide), q_u_at], hN, fun k hk => ?_⟩, ?_, ?_, ?_, f4, f3, fun r a c => ?_, fun y a1 a2 a3 a4 a5 a6 => ?_⟩
  · rw [f5 k (Nat.zero_le _) hk, wNar_and, q_u_ne (by omega), q_u_ne (by omega), q_u_ne (by omega), q_u_ne (by omega)]
    exact hby k hk
  · rw [f2 11 (by decide) (by decide), q_u_k (by decide), q_u_k (by decide), q_u_k (by decide), q_u_at]
  · rw [f2 4 (by decide) (by decide), q_u_k (by decide), q_u_k (by decide), q_u_at]
  · rw [f2 5 (by decide) (by decide), q_u_k (by decide), q_u_at]
  · rw [f1 r a c, q_u_ne a, q_u_ne a, q_u_ne a, q_u_ne a]
  · rw [f2 y a1 a5, q_u_k a2, q_u_k a4, q_u_k a3, q_u_k a6]
-- the reference begins
theorem mg_land {b0 : Nat} (hB : BR B) (h2 : I m 2 = (N : Int)) (hN : N ≤ 1600) (hby : ∀ k, k < N → wAnd (I (m + 1) k) 255 = B k) (h34 : I m 34 = (b0 : Int)) (hbb : b0 + b = 1) : ∃ I2 K2, gModel_land_0 m I K = gModel_land_59 20000 m I2 K2 ∧ Mg true B N m I2 K2 (tA B N 0) ∧ I2 m 35 = (b : Int) ∧ I2 (m + 6) b = 0 ∧ I2 (m + 7) b = 0 ∧ I2 (m + 8) b = 0 ∧ I2 (m + 9) b = 0 ∧ I2 m 2 = 0 ∧ I2 m 34 = (b0 : Int) ∧ (∀ r, r ≠ m → r ≠ m + 2 → ¬ (m + 6 ≤ r ∧ r ≤ m + 9) → I2 r = I r) ∧ (∀ r y, m + 6 ≤ r → r ≤ m + 9 → y ≠ b → I2 r y = I r y) ∧ (∀ y, ¬ (2 ≤ y ∧ y ≤ 9) → y ≠ 11 → y ≠ 35 → I2 m y = I m y) ∧ ∀ r, r ≠ m → K2 r = K r := by
  unfold gModel_land_0
  simp only [gLetp, gB3p]
  obtain ⟨I1, e1, g1, g2, g3, g4, g5, g6, g7, g8⟩ := m_takeTape (I := I) (K := K) (x1 := 0) h2 hN hby
  have h34' : I1 m 34 = (b0 : Int) := by rw [g8 34 (by decide) (by decide) (by decide) (by decide) (by decide) (by decide)]; exact h34
  rw [e1]
  dsimp only
  rw [h34', show (1 : Int) - (b0 : Int) = (b : Int) from by omega]
  have w35 : ∀ {X : gJ}, X m 35 = (b : Int) → ∀ {a : Nat}, a ≠ m → q_u X a b 0 m 35 = (b : Int) := fun hx _ ha => by rw [q_u_ne (Ne.symm ha)]; exact hx
  have x0 : q_u I1 m 35 (b : Int) m 35 = (b : Int) := q_u_at
  rw [x0, Int.toNat_natCast]
  have x1 := w35 x0 (a := m + 6) (by omega)
  rw [x1, Int.toNat_natCast]
  have x2 := w35 x1 (a := m + 7) (by omega)
  rw [x2, Int.toNat_natCast]
  have x3 := w35 x2 (a := m + 8) (by omega)
  rw [x3, Int.toNat_natCast]
  have x4 := w35 x3 (a := m + 9) (by omega)
  have y6 : q_u (q_u (q_u (q_u (q_u I1 m 35 (b : Int)) (m + 6) b 0) (m + 7) b 0) (m + 8) b 0) (m + 9) b 0 (m + 6) b = 0 := by rw [q_u_ne (by omega), q_u_ne (by omega), q_u_ne (by omega), q_u_at]
  have y7 : q_u (q_u (q_u (q_u (q_u I1 m 35 (b : Int)) (m + 6) b 0) (m + 7) b 0) (m + 8) b 0) (m + 9) b 0 (m + 7) b = 0 := by rw [q_u_ne (by omega), q_u_ne (by omega), q_u_at]
  have y8 : q_u (q_u (q_u (q_u (q_u I1 m 35 (b : Int)) (m + 6) b 0) (m + 7) b 0) (m + 8) b 0) (m + 9) b 0 (m + 8) b = 0 := by rw [q_u_ne (by omega), q_u_at]
  have y9 : q_u (q_u (q_u (q_u (q_u I1 m 35 (b : Int)) (m + 6) b 0) (m + 7) b 0) (m + 8) b 0) (m + 9) b 0 (m + 9) b = 0 := q_u_at
  have fm : ∀ y, y ≠ 35 → q_u (q_u (q_u (q_u (q_u I1 m 35 (b : Int)) (m + 6) b 0) (m + 7) b 0) (m + 8) b 0) (m + 9) b 0 m y = I1 m y := fun y q => by rw [q_u_ne (by omega), q_u_ne (by omega), q_u_ne (by omega), q_u_ne (by omega), q_u_k q]
  have fr : ∀ r, r ≠ m → ¬ (m + 6 ≤ r ∧ r ≤ m + 9) → q_u (q_u (q_u (q_u (q_u I1 m 35 (b : Int)) (m + 6) b 0) (m + 7) b 0) (m + 8) b 0) (m + 9) b 0 r = I1 r := fun r q p => by rw [q_u_ne (by omega), q_u_ne (by omega), q_u_ne (by omega), q_u_ne (by omega), q_u_ne q]
  have fo : ∀ r y, r ≠ m → y ≠ b → q_u (q_u (q_u (q_u (q_u I1 m 35 (b : Int)) (m + 6) b 0) (m + 7) b 0) (m + 8) b 0) (m + 9) b 0 r y = I1 r y := fun r y q p => by rw [q_u_off (by omega), q_u_off (by omega), q_u_off (by omega), q_u_off (by omega), q_u_off (by omega)]
  generalize q_u (q_u (q_u (q_u (q_u I1 m 35 (b : Int)) (m + 6) b 0) (m + 7) b 0) (m + 8) b 0) (m + 9) b 0 = IX at x4 y6 y7 y8 y9 fm fr fo ⊢
  have mx : MX B N m IX := g1.mv (fm 3 (by decide)) (fr (m + 2) (by omega) (by omega))
  have z11 : IX m 11 = (if true = true then 0 else 1) := by rw [if_pos rfl, fm 11 (by decide)]; exact g2
  obtain ⟨I2, K2, n1, n2, n3⟩ := m_next (L := K) hB mx z11 (fr := 0) (Nat.zero_le _) (by rw [fm 7 (by decide)]; exact g5)
  rw [n1]
  refine ⟨I2, K2, rfl, ⟨n3.mx mx, by rw [n3.1 _ _ (by omega)]; exact z11, by rw [n3.1 _ _ (by omega), fm 4 (by decide)]; exact g3, by rw [n3.1 _ _ (by omega), fm 5 (by decide)]; exact g4, n2⟩, by rw [n3.1 _ _ (by omega)]; exact x4, by rw [n3.1 _ _ (by omega)]; exact y6, by rw [n3.1 _ _ (by omega)]; exact y7, by rw [n3.1 _ _ (by omega)]; exact y8, by rw [n3.1 _ _ (by omega)]; exact y9, by rw [n3.1 _ _ (by omega), fm 2 (by decide)]; exact g6, by rw [n3.1 _ _ (by omega), fm 34 (by decide)]; exact h34', fun r a c d => ?_, fun r y a c d => ?_, fun y a c d => ?_, fun r a => by funext y; exact n3.2 r y (fun q => a q.1)⟩
  · rw [show I2 r = IX r from by funext y; exact n3.1 r y (fun q => a q.1), fr r a d, g7 r a c]
  · rw [n3.1 r y (by omega), fo r y (by omega) d, g7 r (by omega) (by omega)]
  · rw [n3.1 m y (by omega), fm y d, g8 y (by omega) (by omega) (by omega) (by omega) (by omega) c]
end ST
