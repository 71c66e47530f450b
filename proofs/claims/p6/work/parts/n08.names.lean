/-! NAMES told already, in both. By hand. -/
def ruI (g : Nat → Int) (k : Nat) (v : Int) : Nat → Int := fun y => if y = k then v else g y
def ruL (g : Nat → Int64) (k : Nat) (v : Int64) : Nat → Int64 := fun y => if y = k then v else g y
theorem q_u_rI {f : gJ} {a k : Nat} {v : Int} : q_u f a k v a = ruI (f a) k v := by
  funext y
  unfold q_u ruI
  simp
theorem q_u_rL {f : gL} {a k : Nat} {v : Int64} : q_u f a k v a = ruL (f a) k v := by
  funext y
  unfold q_u ruL
  simp
theorem ruI_at {g : Nat → Int} {k : Nat} {v : Int} : ruI g k v k = v := if_pos rfl
theorem ruI_ne {g : Nat → Int} {k y : Nat} {v : Int} (h : y ≠ k) : ruI g k v y = g y := if_neg h
theorem ruL_at {g : Nat → Int64} {k : Nat} {v : Int64} : ruL g k v k = v := if_pos rfl
theorem ruL_ne {g : Nat → Int64} {k y : Nat} {v : Int64} (h : y ≠ k) : ruL g k v y = g y := if_neg h
section NM
variable {pl : Bool} {B : Nat → Int} {N T o m l b : Nat} {J J2 J3 : gJ} {L L2 L3 : gL} {I I2 I3 : gJ} {K K2 K3 : gL}
theorem c_nmYes {n : Nat} {v : Int64} (hn : J l 4 = (n : Int)) (hv : gTape_name_0 o J L = v) : ∀ (f i k : Nat), i + f = n → f < k → (∃ j, i ≤ j ∧ j < n ∧ L (l + 1) j = v) → gLand_readName_33 k l o J L i = (0, (gTape_refuse_0 o J L 3).2.1, (gTape_refuse_0 o J L 3).2.2) := by
  intro f
  induction f with
  | zero => intro i k hi hk h; obtain ⟨j, h1, h2, _⟩ := h; omega
  | succ f ih =>
    intro i k hi hk h
    obtain ⟨k, rfl⟩ : ∃ k', k = k' + 1 := ⟨k - 1, by omega⟩
    rw [eLand_readName_33]
    simp only [gLetp, gB3p, nat1, Int.toNat_natCast]
    rw [hn, if_neg (by omega), hv]
    by_cases c : L (l + 1) i = v
    · rw [if_pos (lg_eq.mpr c)]
    · rw [if_neg (fun q => c (lg_eq.mp q))]
      obtain ⟨j, h1, h2, h3⟩ := h
      exact ih (i + 1) k (by omega) (by omega) ⟨j, Nat.lt_of_le_of_ne h1 (fun z => c (by rw [z]; exact h3)), h2, h3⟩
theorem c_nmNo {n : Nat} {v : Int64} (hn : J l 4 = (n : Int)) (hv : gTape_name_0 o J L = v) : ∀ (f i k : Nat), i + f = n → f < k → (∀ j, i ≤ j → j < n → L (l + 1) j ≠ v) → gLand_readName_33 k l o J L i = (0, (gTape_step_0 o (q_u J l 4 ((n + 1 : Nat) : Int)) (q_u L (l + 1) n v)).2.1, (gTape_step_0 o (q_u J l 4 ((n + 1 : Nat) : Int)) (q_u L (l + 1) n v)).2.2) := by
  intro f
  induction f with
  | zero =>
    intro i k hi hk h
    obtain ⟨k, rfl⟩ : ∃ k', k = k' + 1 := ⟨k - 1, by omega⟩
    rw [eLand_readName_33]
    simp only [gLetp, gB3p]
    rw [hn, if_pos (by omega), hv, Int.toNat_natCast, nat1]
  | succ f ih =>
    intro i k hi hk h
    obtain ⟨k, rfl⟩ : ∃ k', k = k' + 1 := ⟨k - 1, by omega⟩
    rw [eLand_readName_33]
    simp only [gLetp, gB3p, nat1, Int.toNat_natCast]
    rw [hn, if_neg (by omega), hv, if_neg (fun q => h i (Nat.le_refl _) (by omega) (lg_eq.mp q))]
    exact ih (i + 1) k (by omega) (by omega) (fun j h1 h2 => h j (by omega) h2)
/-- what the reference has told -/
def mTold (m b nf np nt : Nat) (K : gL) (v : Int64) : Prop := (∃ f, f < nf ∧ K (m + 3) (3 * b + f) = v) ∨ (∃ f, f < np ∧ K (m + 4) (3 * b + f) = v) ∨ (∃ f, f < nt ∧ K (m + 5) (5 * b + f) = v)
theorem m_t99 {nt : Nat} {v : Int64} (hb : I m 35 = (b : Int)) (ht : I (m + 9) b = (nt : Int)) : ∀ (f i k : Nat), i + f = 5 * b + nt → f < k → ((∃ j, i ≤ j ∧ j < 5 * b + nt ∧ K (m + 5) j = v) → gModel_isTold_99 k m I K v i = 1) ∧ ((∀ j, i ≤ j → j < 5 * b + nt → K (m + 5) j ≠ v) → gModel_isTold_99 k m I K v i = 0) := by
  intro f
  induction f with
  | zero =>
    intro i k hi hk
    obtain ⟨k, rfl⟩ : ∃ k', k = k' + 1 := ⟨k - 1, by omega⟩
    rw [eModel_isTold_99]
    simp only [gLetp]
    rw [hb, Int.toNat_natCast, ht, if_pos (by omega)]
    exact ⟨fun ⟨j, h1, h2, _⟩ => by omega, fun _ => rfl⟩
  | succ f ih =>
    intro i k hi hk
    obtain ⟨k, rfl⟩ : ∃ k', k = k' + 1 := ⟨k - 1, by omega⟩
    rw [eModel_isTold_99]
    simp only [gLetp, nat1]
    rw [hb, Int.toNat_natCast, ht, if_neg (by omega), Int.toNat_natCast]
    obtain ⟨y, n⟩ := ih (i + 1) k (by omega) (by omega)
    by_cases c : K (m + 5) i = v
    · rw [if_pos (lg_eq.mpr c)]
      exact ⟨fun _ => rfl, fun q => absurd c (q i (Nat.le_refl _) (by omega))⟩
    · rw [if_neg (fun q => c (lg_eq.mp q))]
      refine ⟨fun ⟨j, h1, h2, h3⟩ => y ⟨j, ?_, h2, h3⟩, fun q => n (fun j h1 h2 => q j (by omega) h2)⟩
      by_cases z : j = i
      · rw [z] at h3; exact absurd h3 c
      · omega
theorem m_t53 {np nt : Nat} {v : Int64} (hb : I m 35 = (b : Int)) (hp : I (m + 8) b = (np : Int)) (ht : I (m + 9) b = (nt : Int)) (hs : nt ≤ 5) : ∀ (f i k : Nat), i + f = 3 * b + np → f < k → (((∃ j, i ≤ j ∧ j < 3 * b + np ∧ K (m + 4) j = v) ∨ (∃ f, f < nt ∧ K (m + 5) (5 * b + f) = v)) → gModel_isTold_53 k m I K v i = 1) ∧ ((∀ j, i ≤ j → j < 3 * b + np → K (m + 4) j ≠ v) → (∀ f, f < nt → K (m + 5) (5 * b + f) ≠ v) → gModel_isTold_53 k m I K v i = 0) := by
  intro f
  induction f with
  | zero =>
    intro i k hi hk
    obtain ⟨k, rfl⟩ : ∃ k', k = k' + 1 := ⟨k - 1, by omega⟩
    rw [eModel_isTold_53]
    simp only [gLetp]
    rw [hb, Int.toNat_natCast, hp, if_pos (by omega)]
    obtain ⟨y, n⟩ := m_t99 (K := K) (v := v) hb ht nt (5 * b) 20000 rfl (by omega)
    have e5 : (5 : Int) * (b : Int) = ((5 * b : Nat) : Int) := by omega
    rw [e5]
    refine ⟨fun q => ?_, fun _ q => n (fun j h1 h2 => by have := q (j - 5 * b) (by omega); rwa [show 5 * b + (j - 5 * b) = j by omega] at this)⟩
    rcases q with ⟨j, h1, h2, _⟩ | ⟨f, h1, h2⟩
    · omega
    · exact y ⟨5 * b + f, by omega, by omega, h2⟩
  | succ f ih =>
    intro i k hi hk
    obtain ⟨k, rfl⟩ : ∃ k', k = k' + 1 := ⟨k - 1, by omega⟩
    rw [eModel_isTold_53]
    simp only [gLetp, nat1]
    rw [hb, Int.toNat_natCast, hp, if_neg (by omega), Int.toNat_natCast]
    obtain ⟨y, n⟩ := ih (i + 1) k (by omega) (by omega)
    by_cases c : K (m + 4) i = v
    · rw [if_pos (lg_eq.mpr c)]
      exact ⟨fun _ => rfl, fun q => absurd c (q i (Nat.le_refl _) (by omega))⟩
    · rw [if_neg (fun q => c (lg_eq.mp q))]
      refine ⟨fun q => y ?_, fun q r => n (fun j h1 h2 => q j (by omega) h2) r⟩
      rcases q with ⟨j, h1, h2, h3⟩ | q
      · left
        refine ⟨j, ?_, h2, h3⟩
        by_cases z : j = i
        · rw [z] at h3; exact absurd h3 c
        · omega
      · exact Or.inr q
theorem m_t7 {nf np nt : Nat} {v : Int64} (hb : I m 35 = (b : Int)) (hf : I (m + 7) b = (nf : Int)) (hp : I (m + 8) b = (np : Int)) (ht : I (m + 9) b = (nt : Int)) (hq : np ≤ 3) (hs : nt ≤ 5) : ∀ (f i k : Nat), i + f = 3 * b + nf → f < k → (((∃ j, i ≤ j ∧ j < 3 * b + nf ∧ K (m + 3) j = v) ∨ (∃ f, f < np ∧ K (m + 4) (3 * b + f) = v) ∨ (∃ f, f < nt ∧ K (m + 5) (5 * b + f) = v)) → gModel_isTold_7 k m I K v i = 1) ∧ ((∀ j, i ≤ j → j < 3 * b + nf → K (m + 3) j ≠ v) → (∀ f, f < np → K (m + 4) (3 * b + f) ≠ v) → (∀ f, f < nt → K (m + 5) (5 * b + f) ≠ v) → gModel_isTold_7 k m I K v i = 0) := by
  intro f
  induction f with
  | zero =>
    intro i k hi hk
    obtain ⟨k, rfl⟩ : ∃ k', k = k' + 1 := ⟨k - 1, by omega⟩
    rw [eModel_isTold_7]
    simp only [gLetp]
    rw [hb, Int.toNat_natCast, hf, if_pos (by omega)]
    obtain ⟨y, n⟩ := m_t53 (K := K) (v := v) hb hp ht hs np (3 * b) 20000 rfl (by omega)
    have e5 : (3 : Int) * (b : Int) = ((3 * b : Nat) : Int) := by omega
    rw [e5]
    refine ⟨fun q => ?_, fun _ q r => n (fun j h1 h2 => by have := q (j - 3 * b) (by omega); rwa [show 3 * b + (j - 3 * b) = j by omega] at this) r⟩
    rcases q with ⟨j, h1, h2, _⟩ | ⟨f, h1, h2⟩ | q
    · omega
    · exact y (Or.inl ⟨3 * b + f, by omega, by omega, h2⟩)
    · exact y (Or.inr q)
  | succ f ih =>
    intro i k hi hk
    obtain ⟨k, rfl⟩ : ∃ k', k = k' + 1 := ⟨k - 1, by omega⟩
    rw [eModel_isTold_7]
    simp only [gLetp, nat1]
    rw [hb, Int.toNat_natCast, hf, if_neg (by omega), Int.toNat_natCast]
    obtain ⟨y, n⟩ := ih (i + 1) k (by omega) (by omega)
    by_cases c : K (m + 3) i = v
    · rw [if_pos (lg_eq.mpr c)]
      exact ⟨fun _ => rfl, fun q => absurd c (q i (Nat.le_refl _) (by omega))⟩
    · rw [if_neg (fun q => c (lg_eq.mp q))]
      refine ⟨fun q => y ?_, fun q r s => n (fun j h1 h2 => q j (by omega) h2) r s⟩
      rcases q with ⟨j, h1, h2, h3⟩ | q
      · left
        refine ⟨j, ?_, h2, h3⟩
        by_cases z : j = i
        · rw [z] at h3; exact absurd h3 c
        · omega
      · exact Or.inr q
theorem m_isTold {nf np nt : Nat} {v : Int64} (hb : I m 35 = (b : Int)) (hf : I (m + 7) b = (nf : Int)) (hp : I (m + 8) b = (np : Int)) (ht : I (m + 9) b = (nt : Int)) (h3 : nf ≤ 3) (hq : np ≤ 3) (hs : nt ≤ 5) : (mTold m b nf np nt K v → gModel_isTold_0 m I K v = 1) ∧ (¬ mTold m b nf np nt K v → gModel_isTold_0 m I K v = 0) := by
  unfold gModel_isTold_0
  simp only [gLetp]
  have e5 : (3 : Int) * (b : Int) = ((3 * b : Nat) : Int) := by omega
  rw [hb, e5]
  obtain ⟨y, n⟩ := m_t7 (K := K) (v := v) hb hf hp ht hq hs nf (3 * b) 20000 rfl (by omega)
  refine ⟨fun q => y ?_, fun q => n (fun j h1 h2 e => q (Or.inl ⟨j - 3 * b, by omega, by rw [show 3 * b + (j - 3 * b) = j by omega]; exact e⟩)) (fun f h1 e => q (Or.inr (Or.inl ⟨f, h1, e⟩))) (fun f h1 e => q (Or.inr (Or.inr ⟨f, h1, e⟩)))⟩
  rcases q with ⟨f, h1, h2⟩ | q
  · exact Or.inl ⟨3 * b + f, by omega, by omega, h2⟩
  · exact Or.inr q
/-- the same NAMES are told in both -/
def NmR (l m b n nf np nt : Nat) (L : gL) (K : gL) : Prop := ∀ w, ltrs w → ((∃ i, i < n ∧ L (l + 1) i = c32 w) ↔ mTold m b nf np nt K (c256 w))
/-- a NAME, and the word at behind it -/
theorem Sg.name {j : Nat} (hB : BR B) (h : Sg pl B N T o m J L I K j) (hsep : l + 16 ≤ o ∨ o + 7 ≤ l) {n nf np nt : Nat} (hn : J l 4 = (n : Int)) (hn11 : n < 11) (hb : I m 35 = (b : Int)) (hf : I (m + 7) b = (nf : Int)) (hp : I (m + 8) b = (np : Int)) (ht : I (m + 9) b = (nt : Int)) (h3 : nf ≤ 3) (hq : np ≤ 3) (hs : nt ≤ 5) (hN : NmR l m b n nf np nt L K) : ∃ J2 L2 J3 v I2 K2, gLand_readName_0 l o J L = (0, J2, L2) ∧ gTape_passIf_0 o J2 L2 (gTape_isWord_0 o J2 L2 2) = (0, J3, L2) ∧ gModel_newName_0 m I K = (v, I2, K2) ∧ Sy pl B N T o m J3 L2 I2 K2 ∧ (∀ r y, ¬ (r = o ∧ (y = 7 ∨ y = 8 ∨ y = 10)) → ¬ (r = l ∧ y = 4) → J3 r y = J r y) ∧ J o 10 ≤ J3 o 10 ∧ (∀ r y, ¬ (r = l + 1 ∧ y = n) → L2 r y = L r y) ∧ MFr m I I2 K K2 ∧ (J3 o 7 = 0 → J3 l 4 = ((n + 1 : Nat) : Int) ∧ ∃ w, ltrs w ∧ L2 (l + 1) n = c32 w ∧ v = c256 w) := by
  have at_ : ∀ (J2 : gJ) (L2 : gL) (v : Int64) (I2 : gJ) (K2 : gL), gLand_readName_0 l o J L = (0, J2, L2) → (gModel_newName_0 m I K = ((v, (gModel_must_0 m I2 K2 (gModel_isWord_0 m I2 K2 24948)).2.1, (gModel_must_0 m I2 K2 (gModel_isWord_0 m I2 K2 24948)).2.2))) → Sy pl B N T o m J2 L2 I2 K2 → (∀ r y, ¬ (r = o ∧ (y = 7 ∨ y = 8 ∨ y = 10)) → ¬ (r = l ∧ y = 4) → J2 r y = J r y) → J o 10 ≤ J2 o 10 → (∀ r y, ¬ (r = l + 1 ∧ y = n) → L2 r y = L r y) → MFr m I I2 K K2 → (J2 o 7 = 0 → J2 l 4 = ((n + 1 : Nat) : Int) ∧ ∃ w, ltrs w ∧ L2 (l + 1) n = c32 w ∧ v = c256 w) → ∃ J2 L2 J3 v I2 K2, gLand_readName_0 l o J L = (0, J2, L2) ∧ gTape_passIf_0 o J2 L2 (gTape_isWord_0 o J2 L2 2) = (0, J3, L2) ∧ gModel_newName_0 m I K = (v, I2, K2) ∧ Sy pl B N T o m J3 L2 I2 K2 ∧ (∀ r y, ¬ (r = o ∧ (y = 7 ∨ y = 8 ∨ y = 10)) → ¬ (r = l ∧ y = 4) → J3 r y = J r y) ∧ J o 10 ≤ J3 o 10 ∧ (∀ r y, ¬ (r = l + 1 ∧ y = n) → L2 r y = L r y) ∧ MFr m I I2 K K2 ∧ (J3 o 7 = 0 → J3 l 4 = ((n + 1 : Nat) : Int) ∧ ∃ w, ltrs w ∧ L2 (l + 1) n = c32 w ∧ v = c256 w) := by
    intro J2 L2 v I2 K2 a1 a2 a3 a4 aN a5 a6 a7
    obtain ⟨J3, I3, K3, b1, b2, b3, b4, b5, _⟩ := a3.word hB (k := 2) (by decide) (w := 2) rfl (W := 24948) rfl
    refine ⟨J2, L2, J3, v, I3, K3, a1, b1, by rw [a2, b2], b3, fun r y q1 q2 => by rw [b4.1 r y q1]; exact a4 r y q1 q2, Int.le_trans aN b4.2.2, a5, a6.tr b5, fun c => ?_⟩
    have c2 : J2 o 7 = 0 := b4.2.1 c
    obtain ⟨e1, e2⟩ := a7 c2
    exact ⟨by rw [b4.1 l 4 (by omega)]; exact e1, e2⟩
  have must1 : ∀ (I2 : gJ) (K2 : gL) (v : Int64) (z : Int), gModel_newName_51 m I2 K2 v z = (v, (gModel_must_0 m (gModel_must_0 m I2 K2 z).2.1 (gModel_must_0 m I2 K2 z).2.2 (gModel_isWord_0 m (gModel_must_0 m I2 K2 z).2.1 (gModel_must_0 m I2 K2 z).2.2 24948)).2.1, (gModel_must_0 m (gModel_must_0 m I2 K2 z).2.1 (gModel_must_0 m I2 K2 z).2.2 (gModel_isWord_0 m (gModel_must_0 m I2 K2 z).2.1 (gModel_must_0 m I2 K2 z).2.2 24948)).2.2) := by
    intro I2 K2 v z
    unfold gModel_newName_51
    simp only [gLetp, gB3p]
  have t := h.2.2.2.2.2
  have tc := h.1.tok
  have ek := h.1.kind
  have e5 : gTape_value_0 o J L = J (o + 5) j := by
    unfold gTape_value_0
    simp only [gLetp]
    rw [h.1.2.2.1, Int.toNat_natCast]
  have e6 : gTape_name_0 o J L = L (o + 6) j := by
    unfold gTape_name_0
    simp only [gLetp]
    rw [h.1.2.2.1, Int.toNat_natCast]
  -- a FAULT of the kind 2 (or no TOKEN)
  have bad : ¬ (tkK pl B N (tkS pl B N j) = 1 ∧ vW (tkW B N (tkS pl B N j)) = -1) → gLand_readName_0 l o J L = (0, (gTape_refuse_0 o J L 2).2.1, (gTape_refuse_0 o J L 2).2.2) → ∃ J2 L2 J3 v I2 K2, gLand_readName_0 l o J L = (0, J2, L2) ∧ gTape_passIf_0 o J2 L2 (gTape_isWord_0 o J2 L2 2) = (0, J3, L2) ∧ gModel_newName_0 m I K = (v, I2, K2) ∧ Sy pl B N T o m J3 L2 I2 K2 ∧ (∀ r y, ¬ (r = o ∧ (y = 7 ∨ y = 8 ∨ y = 10)) → ¬ (r = l ∧ y = 4) → J3 r y = J r y) ∧ J o 10 ≤ J3 o 10 ∧ (∀ r y, ¬ (r = l + 1 ∧ y = n) → L2 r y = L r y) ∧ MFr m I I2 K K2 ∧ (J3 o 7 = 0 → J3 l 4 = ((n + 1 : Nat) : Int) ∧ ∃ w, ltrs w ∧ L2 (l + 1) n = c32 w ∧ v = c256 w) := by
    intro hno e
    rw [h.1.refuse] at e
    have n2 : ¬ I m 8 = 2 := fun q => hno (t.c2.mp q)
    have hf := h.fail (f := if tkK pl B N (tkS pl B N j) = 5 then 1 else 2) (by split <;> decide)
    have em : gModel_must_0 m I K 0 = (0, q_u (q_u I m 4 (if tkK pl B N (tkS pl B N j) = 5 then 1 else 2)) m 5 ((tkS pl B N j : Nat) : Int), K) := by
      unfold gModel_must_0
      simp only [gLetp, gB3p]
      rw [h.2.isGood, if_neg (show ¬ (1 : Int) = 0 by decide), if_pos (by decide), h.2.wrong]
    have e2 : gModel_newName_0 m I K = gModel_newName_51 m I K (K m 10) 0 := by
      unfold gModel_newName_0 gModel_newName_37
      simp only [gLetp]
      rw [h.2.isGood, if_neg (show ¬ (1 : Int) = 0 by decide), if_neg n2, if_neg n2]
    refine at_ _ _ (K m 10) (q_u (q_u I m 4 (if tkK pl B N (tkS pl B N j) = 5 then 1 else 2)) m 5 ((tkS pl B N j : Nat) : Int)) K e (by rw [e2, must1, em]) (Or.inr hf) (fun r y q _ => (cfr78 h.1.2.2.2.1).1 r y q) (cfr78 h.1.2.2.2.1).2.2 (fun _ _ _ => rfl) mfr45 (fun q => absurd q hf.2.2.2.1)
  by_cases c1 : tkK pl B N (tkS pl B N j) = 1
  · obtain ⟨cv, cn⟩ := tc.2.2.1 c1
    have hl := kwLen c1
    by_cases c2 : vW (tkW B N (tkS pl B N j)) = -1
    · have n2 : I m 8 = 2 := t.c2.mpr ⟨c1, c2⟩
      have er : gLand_readName_0 l o J L = gLand_readName_33 20000 l o J L 0 := by
        unfold gLand_readName_0
        simp only [gLetp]
        rw [ek, if_pos c1, e5, cv, if_pos c2, hn, if_pos (by omega)]
      have hv : gTape_name_0 o J L = c32 (tkW B N (tkS pl B N j)) := by rw [e6, cn]
      have hk10 := t.nm c1
      obtain ⟨ty, tn⟩ := m_isTold (K := K) (v := c256 (tkW B N (tkS pl B N j))) hb hf hp ht h3 hq hs
      by_cases ct : ∃ i, i < n ∧ L (l + 1) i = c32 (tkW B N (tkS pl B N j))
      · -- told already
        obtain ⟨i, hi1, hi2⟩ := ct
        have e := er.trans (c_nmYes hn hv n 0 20000 (by omega) (by omega) ⟨i, Nat.zero_le _, hi1, hi2⟩)
        rw [h.1.refuse, if_neg (by rw [c1]; decide)] at e
        have hf2 := h.fail (f := 3) (by decide)
        have g4 : ∀ z, gModel_must_0 m (q_u (q_u I m 4 3) m 5 ((tkS pl B N j : Nat) : Int)) K z = (0, q_u (q_u I m 4 3) m 5 ((tkS pl B N j : Nat) : Int), K) := fun z => mb_must (by rw [q_u_k (by decide), q_u_at]; decide) z
        have e2 : gModel_newName_0 m I K = gModel_newName_51 m (q_u (q_u I m 4 3) m 5 ((tkS pl B N j : Nat) : Int)) K (K m 10) 1 := by
          unfold gModel_newName_0 gModel_newName_37
          simp only [gLetp, gB3p]
          rw [h.2.isGood, if_neg (show ¬ (1 : Int) = 0 by decide), if_pos n2, hk10, ty ((hN _ hl).mp ⟨i, hi1, hi2⟩), if_neg (by decide), t.1, m_fails h.2.2.2.1]
          dsimp only
          have i8 : q_u (q_u I m 4 3) m 5 ((tkS pl B N j : Nat) : Int) m 8 = 2 := by rw [q_u_k (show (8 : Nat) ≠ 5 by decide), q_u_k (show (8 : Nat) ≠ 4 by decide)]; exact n2
          rw [if_pos i8]
        refine at_ _ _ (K m 10) (q_u (q_u I m 4 3) m 5 ((tkS pl B N j : Nat) : Int)) K e (by rw [e2, must1, g4]) (Or.inr hf2) (fun r y q _ => (cfr78 h.1.2.2.2.1).1 r y q) (cfr78 h.1.2.2.2.1).2.2 (fun _ _ _ => rfl) mfr45 (fun q => absurd q hf2.2.2.2.1)
      · have e := er.trans (c_nmNo hn hv n 0 20000 (by omega) (by omega) (fun i _ h2 q => ct ⟨i, h2, q⟩))
        have c0 : tkK pl B N (tkS pl B N j) ≠ 0 := by rw [c1]; decide
        have c5 : tkK pl B N (tkS pl B N j) ≠ 5 := by rw [c1]; decide
        have g1 : Cg pl B N T o (q_u J l 4 ((n + 1 : Nat) : Int)) (q_u L (l + 1) n (c32 (tkW B N (tkS pl B N j)))) j := by
          obtain ⟨⟨s1, s2, s3, s4, s5⟩, q2, q3, q4, q5⟩ := h.1
          refine ⟨⟨s1.mv (by rw [q_u_ne (show o ≠ l by omega)]) (q_u_ne (by omega)), fun k hk => by rw [q_u_ne (by omega)]; exact s2 k hk, s3, fun i hi => (s4 i hi).mv (by rw [q_u_ne (by omega)]) (by rw [q_u_ne (by omega)]) (by rw [q_u_ne (by omega)]) (by rw [q_u_ne (by omega)]), s5⟩, q2, ?_, ?_, ?_⟩
          · rw [q_u_ne (by omega)]; exact q3
          · rw [q_u_ne (by omega)]; exact q4
          · rw [q_u_ne (by omega)]; exact q5
        obtain ⟨s1, s2⟩ := g1.step c0 c5
        rw [s1] at e
        dsimp only at e
        obtain ⟨I2, K2, n1, n2', n3⟩ := h.2.next hB (tkS_le pl B N j) c0 c5
        have em : gModel_must_0 m I K 1 = (0, I2, K2) := by
          unfold gModel_must_0
          simp only [gLetp, gB3p]
          rw [h.2.isGood, if_neg (show ¬ (1 : Int) = 0 by decide), if_neg (by decide), n1]
        have e2 : gModel_newName_0 m I K = gModel_newName_51 m I K (K m 10) 1 := by
          unfold gModel_newName_0 gModel_newName_37
          simp only [gLetp, gB3p]
          rw [h.2.isGood, if_neg (show ¬ (1 : Int) = 0 by decide), if_pos n2, hk10, tn (fun q => ct ((hN _ hl).mpr q)), if_pos (by decide), if_pos n2]
        refine at_ _ _ (K m 10) I2 K2 e (by rw [e2, must1, em]) (Or.inl ⟨j + 1, s2, n2'⟩) (fun r y q1 q2 => by rw [q_u_off (by omega), q_u_off q2]) (by rw [q_u_at]; exact h.1.up) (fun r y q => q_u_off q) n3.mf (fun _ => ⟨?_, tkW B N (tkS pl B N j), hl, q_u_at, hk10⟩)
        rw [q_u_ne (by omega), q_u_at]
    · refine bad (fun q => c2 q.2) ?_
      unfold gLand_readName_0
      simp only [gLetp, gB3p]
      rw [ek, if_pos c1, e5, cv, if_neg c2]
  · refine bad (fun q => c1 q.1) ?_
    unfold gLand_readName_0
    simp only [gLetp, gB3p]
    rw [ek, if_neg c1]
end NM
