/-! The class's TOKENS are those of the mathematics. By hand. -/
theorem w_in {x : Int} (h1 : -2147483648 ≤ x) (h2 : x ≤ 2147483647) : (Int32.ofInt x).toInt = x := by rw [Int32.toInt_ofInt, iBm h1 h2]
theorem wAdd_r {x y : Int} (a1 : -2147483648 ≤ x) (a2 : x ≤ 2147483647) (b1 : -2147483648 ≤ y) (b2 : y ≤ 2147483647) (h1 : -2147483648 ≤ x + y) (h2 : x + y ≤ 2147483647) : wAdd x y = x + y := by
  unfold wAdd
  rw [Int32.toInt_add, w_in a1 a2, w_in b1 b2, iBm h1 h2]
theorem wSub_r {x y : Int} (a1 : -2147483648 ≤ x) (a2 : x ≤ 2147483647) (b1 : -2147483648 ≤ y) (b2 : y ≤ 2147483647) (h1 : -2147483648 ≤ x - y) (h2 : x - y ≤ 2147483647) : wSub x y = x - y := by
  unfold wSub
  rw [Int32.toInt_sub, w_in a1 a2, w_in b1 b2, iBm h1 h2]
theorem wMul_r {x y : Int} (a1 : -2147483648 ≤ x) (a2 : x ≤ 2147483647) (b1 : -2147483648 ≤ y) (b2 : y ≤ 2147483647) (h1 : -2147483648 ≤ x * y) (h2 : x * y ≤ 2147483647) : wMul x y = x * y := by
  unfold wMul
  rw [Int32.toInt_mul, w_in a1 a2, w_in b1 b2, iBm h1 h2]
theorem wMul_c (x y : Int) : wMul x y = wMul y x := by unfold wMul; rw [Int32.mul_comm]
theorem nat1 (i : Nat) : (i : Int) + 1 = ((i + 1 : Nat) : Int) := rfl
theorem nat2 (i : Nat) : (i : Int) + 2 = ((i + 2 : Nat) : Int) := rfl
theorem nat3 (i : Nat) : (i : Int) + 3 = ((i + 3 : Nat) : Int) := rfl
def BR (B : Nat → Int) : Prop := ∀ k, 0 ≤ B k ∧ B k ≤ 255
theorem bN_rg {B : Nat → Int} (h : BR B) (N i : Nat) : 0 ≤ bN B N i ∧ bN B N i ≤ 255 := by
  unfold bN
  split
  · exact h i
  · exact ⟨Int.le_refl _, by decide⟩
def CT (B : Nat → Int) (N o : Nat) (J : gJ) : Prop := J o 6 = (N : Int) ∧ N ≤ 1600 ∧ ∀ k, k < N → J (o + 1) k = B k
section CTs
variable {B : Nat → Int} {N o t fr : Nat} {J J' : gJ} {L L' : gL}
theorem CT.mv (h : CT B N o J) (e6 : J' o 6 = J o 6) (e1 : J' (o + 1) = J (o + 1)) : CT B N o J' := ⟨by rw [e6]; exact h.1, h.2.1, fun k hk => by rw [e1]; exact h.2.2 k hk⟩
theorem c_byteAt (h : CT B N o J) (i : Nat) : gTape_byteAt_0 o J L (i : Int) = bN B N i := by
  have hN := h.2.1
  unfold gTape_byteAt_0 gTape_byteAt_19 bN
  dsimp only [gLet]
  rw [h.1, if_neg (by omega)]
  by_cases c : i < N
  · rw [if_neg (by omega), if_pos (by omega), if_pos c, Int.toNat_natCast]; exact h.2.2 i c
  · rw [if_pos (by omega), if_neg c]
theorem c_isLetter (x : Int) : gTape_isLetter_0 J L x = if ltZ x = true then 1 else 0 := by
  unfold gTape_isLetter_0
  by_cases c : ltZ x = true
  · have q := ltZ_iff.mp c
    rw [if_neg (by omega), if_neg (by omega), if_pos c]
  · rw [if_neg c]
    have q : ¬ (97 ≤ x ∧ x ≤ 122) := fun z => c (ltZ_iff.mpr z)
    split
    · rfl
    · split
      · rfl
      · omega
theorem c_isDigit (x : Int) : gTape_isDigit_0 J L x = if dgZ x = true then 1 else 0 := by
  unfold gTape_isDigit_0
  by_cases c : dgZ x = true
  · have q := dgZ_iff.mp c
    rw [if_neg (by omega), if_neg (by omega), if_pos c]
  · rw [if_neg c]
    have q : ¬ (48 ≤ x ∧ x ≤ 57) := fun z => c (dgZ_iff.mpr z)
    split
    · rfl
    · split
      · rfl
      · omega
theorem c_skip (h : CT B N o J) : ∀ (f i k : Nat), i + f = N → f < k → gTape_cutToken_2 k o J L t fr i = gTape_cutToken_36 o J L t fr (sw (tkB B N) f i : Nat) := by
  intro f
  induction f with
  | zero =>
    intro i k hi hk
    obtain ⟨k, rfl⟩ : ∃ k', k = k' + 1 := ⟨k - 1, by omega⟩
    rw [eTape_cutToken_2, sw_0]
    simp only [gLetp]
    rw [h.1, if_pos (by omega)]
  | succ f ih =>
    intro i k hi hk
    obtain ⟨k, rfl⟩ : ∃ k', k = k' + 1 := ⟨k - 1, by omega⟩
    rw [eTape_cutToken_2]
    simp only [gLetp, eTape_cutToken_30, c_byteAt h, nat1]
    rw [h.1, if_neg (by omega), ih (i + 1) k (by omega) (by omega)]
    have hb : bN B N i = B i := if_pos (by omega)
    rw [hb, sw_s]
    by_cases c : B i = 32
    · rw [if_pos c, if_pos (tkB_iff.mpr ⟨by omega, Or.inl c⟩)]
    · rw [if_neg c]
      by_cases c2 : B i = 10
      · rw [if_pos c2, if_pos (tkB_iff.mpr ⟨by omega, Or.inr c2⟩)]
      · rw [if_neg c2, if_neg (fun q => by rcases (tkB_iff.mp q).2 with z | z; exact c z; exact c2 z)]
theorem c_cutToken0 (h : CT B N o J) (hfr : fr ≤ N) : gTape_cutToken_0 o J L t fr = gTape_cutToken_36 o J L t fr (tA B N fr : Nat) := by
  have hN := h.2.1
  unfold gTape_cutToken_0 tA
  exact c_skip h (N - fr) fr 20000 (by omega) (by omega)
/-- a letter, taken in -/
theorem wl_eq {x : Int} (acc : Nat) (h1 : 97 ≤ x) (h2 : x ≤ 122) : (((Int64.ofNat acc * 32) + wI2L x) - 97) + 1 = Int64.ofNat (acc * 32 + ((x - 96).toNat + 0)) := by
  have e1 : wI2L x = Int64.ofNat ((x - 96).toNat + 96) := by
    apply Int64.toInt_inj.mp
    unfold wI2L
    rw [Int32.toInt_toInt64, w_in (by omega) (by omega), Int64.toInt_ofNat_of_lt (by omega)]
    omega
  have e2 : Int64.ofNat (acc * 32 + ((x - 96).toNat + 0)) = Int64.ofNat acc * 32 + Int64.ofNat (x - 96).toNat := by
    rw [Int64.ofNat_add, Int64.ofNat_mul]
    rfl
  rw [e1, e2, Int64.ofNat_add]
  generalize Int64.ofNat acc * 32 = z
  generalize Int64.ofNat (x - 96).toNat = y
  rw [show Int64.ofNat 96 = (96 : Int64) from rfl]
  apply Int64.toBitVec_inj.mp
  simp only [Int64.toBitVec_add, Int64.toBitVec_sub, Int64.toBitVec_ofNat]
  bv_omega
theorem c_word (h : CT B N o J) {frI tI_ : Int} : ∀ (f i k m : Nat), i + f = N → f < k → gTape_cutWord_5 k o J L tI_ frI i (Int64.ofNat m) = gTape_cutWord_42 o J L tI_ frI (sw (tkL B N) f i : Nat) (Int64.ofNat (nF 32 0 m (lw B (sw (tkL B N) f i - i) i))) := by
  intro f
  induction f with
  | zero =>
    intro i k m hi hk
    obtain ⟨k, rfl⟩ : ∃ k', k = k' + 1 := ⟨k - 1, by omega⟩
    rw [eTape_cutWord_5, sw_0]
    simp only [gLetp]
    rw [h.1, if_pos (by omega), Nat.sub_self]
    rfl
  | succ f ih =>
    intro i k m hi hk
    obtain ⟨k, rfl⟩ : ∃ k', k = k' + 1 := ⟨k - 1, by omega⟩
    rw [eTape_cutWord_5]
    simp only [gLetp, c_byteAt h, c_isLetter, gTape_withLetter_0, nat1]
    rw [h.1, if_neg (by omega), sw_s]
    by_cases c : tkL B N i = true
    · have hc : ltZ (bN B N i) = true := c
      have q := ltZ_iff.mp hc
      rw [if_pos hc, if_neg (by decide), if_pos c]
      have hb : bN B N i = B i := if_pos (by omega)
      rw [wl_eq m q.1 q.2, ih (i + 1) k _ (by omega) (by omega)]
      have hg := sw_ge (tkL B N) f (i + 1)
      rw [show sw (tkL B N) f (i + 1) - i = (sw (tkL B N) f (i + 1) - (i + 1)) + 1 by omega]
      show _ = gTape_cutWord_42 o J L tI_ frI (sw (tkL B N) f (i + 1) : Nat) (Int64.ofNat (nF 32 0 m ((B i - 96).toNat :: lw B (sw (tkL B N) f (i + 1) - (i + 1)) (i + 1))))
      rw [nF_cons, hb]
    · have hc : ¬ ltZ (bN B N i) = true := c
      rw [if_neg hc, if_pos rfl, if_neg c, Nat.sub_self]
      rfl
/-- the number of the word that a list of letters is, or cur -/
def kwF (l : List Nat) : Nat → Nat → Int → Int
  | 0, _, cur => cur
  | f + 1, w, cur => kwF l f (w + 1) (if kwK w = l then (w : Int) else cur)
def vW (l : List Nat) : Int := kwF l 32 0 (-1)
theorem kwF_no (l : List Nat) : ∀ (f w : Nat) (cur : Int), (∀ k, w ≤ k → k < w + f → kwK k ≠ l) → kwF l f w cur = cur := by
  intro f
  induction f with
  | zero => intro w cur _; rfl
  | succ f ih =>
    intro w cur h
    show kwF l f (w + 1) (if kwK w = l then (w : Int) else cur) = cur
    rw [if_neg (h w (Nat.le_refl _) (by omega))]
    exact ih (w + 1) cur (fun k h1 h2 => h k (by omega) (by omega))
theorem kwF_at (l : List Nat) : ∀ (f w : Nat) (cur : Int) (k : Nat), w ≤ k → k < w + f → w + f ≤ 32 → kwK k = l → kwF l f w cur = (k : Int) := by
  intro f
  induction f with
  | zero => intro w cur k h1 h2; omega
  | succ f ih =>
    intro w cur k h1 h2 h3 h4
    show kwF l f (w + 1) (if kwK w = l then (w : Int) else cur) = (k : Int)
    by_cases c : k = w
    · subst c
      rw [if_pos h4]
      exact kwF_no l f (k + 1) k (fun j q1 q2 e => by have := kw_inj j (by omega) k (by omega) (e.trans h4.symm); omega)
    · exact ih (w + 1) _ k (by omega) (by omega) (by omega) h4
theorem vW_at {l : List Nat} {k : Nat} (hk : k < 32) (h : kwK k = l) : vW l = (k : Int) := kwF_at l 32 0 (-1) k (by omega) (by omega) (by omega) h
theorem vW_no {l : List Nat} (h : ∀ k, k < 32 → kwK k ≠ l) : vW l = -1 := kwF_no l 32 0 (-1) (fun k _ h2 => h k (by omega))
theorem vW_iff {l : List Nat} {k : Nat} (hk : k < 32) : vW l = (k : Int) ↔ kwK k = l := by
  refine ⟨fun h => ?_, vW_at hk⟩
  by_cases c : ∃ j, j < 32 ∧ kwK j = l
  · obtain ⟨j, hj, e⟩ := c
    rw [vW_at hj e] at h
    have : j = k := by omega
    rw [← this]; exact e
  · rw [vW_no (fun j hj e => c ⟨j, hj, e⟩)] at h
    omega
theorem vW_rg (l : List Nat) : -1 ≤ vW l ∧ vW l < 32 := by
  by_cases c : ∃ j, j < 32 ∧ kwK j = l
  · obtain ⟨j, hj, e⟩ := c
    rw [vW_at hj e]; omega
  · rw [vW_no (fun j hj e => c ⟨j, hj, e⟩)]; omega
def KW (o : Nat) (L : gL) : Prop := ∀ k, k < 32 → L (o + 2) k = c32 (kwK k)
theorem lg_eq {a b : Int64} : (lg_cmp a b).toInt = 0 ↔ a = b := by
  rw [show (0 : Int) = (0 : Int32).toInt from rfl, Int32.toInt_inj]
  exact lg_cmp_eq a b
theorem c_kw (hK : KW o L) {l : List Nat} (hl : ltrs l) {x1 x2 x3 : Int} : ∀ (f w k : Nat) (J : gJ), w + f = 32 → f < k → ∃ J', gTape_cutWord_72 k o J L x1 x2 x3 (c32 l) w = (x3, J', L) ∧ J' (o + 5) x1.toNat = kwF l f w (J (o + 5) x1.toNat) ∧ ∀ a y, ¬ (a = o + 5 ∧ y = x1.toNat) → J' a y = J a y := by
  intro f
  induction f with
  | zero =>
    intro w k J hw hk
    obtain ⟨k, rfl⟩ : ∃ k', k = k' + 1 := ⟨k - 1, by omega⟩
    rw [eTape_cutWord_72, if_pos (by omega)]
    exact ⟨J, rfl, rfl, fun _ _ _ => rfl⟩
  | succ f ih =>
    intro w k J hw hk
    obtain ⟨k, rfl⟩ : ∃ k', k = k' + 1 := ⟨k - 1, by omega⟩
    rw [eTape_cutWord_72, if_neg (by omega)]
    simp only [gLetp, eTape_cutWord_100, Int.toNat_natCast, nat1]
    have eK := hK w (by omega)
    by_cases c : kwK w = l
    · rw [if_pos (lg_eq.mpr (by rw [eK, c]))]
      obtain ⟨J', h1, h2, h3⟩ := ih (w + 1) k (q_u J (o + 5) x1.toNat w) (by omega) (by omega)
      refine ⟨J', h1, ?_, fun a y h => by rw [h3 a y h, q_u_off h]⟩
      rw [h2, q_u_at]
      show _ = kwF l f (w + 1) (if kwK w = l then (w : Int) else _)
      rw [if_pos c]
    · rw [if_neg (fun q => c ((c32_inj (kw_ltrs w (by omega)) hl).mp (eK ▸ lg_eq.mp q)))]
      obtain ⟨J', h1, h2, h3⟩ := ih (w + 1) k J (by omega) (by omega)
      refine ⟨J', h1, ?_, h3⟩
      rw [h2]
      show _ = kwF l f (w + 1) (if kwK w = l then (w : Int) else _)
      rw [if_neg c]
/-- of a word that is too long: only cell (o + 5) t may change -/
theorem c_kwX {x1 x2 x3 : Int} {code : Int64} : ∀ (f w k : Nat) (J : gJ), w + f = 32 → f < k → ∃ J', gTape_cutWord_72 k o J L x1 x2 x3 code w = (x3, J', L) ∧ ∀ a y, ¬ (a = o + 5 ∧ y = x1.toNat) → J' a y = J a y := by
  intro f
  induction f with
  | zero =>
    intro w k J hw hk
    obtain ⟨k, rfl⟩ : ∃ k', k = k' + 1 := ⟨k - 1, by omega⟩
    rw [eTape_cutWord_72, if_pos (by omega)]
    exact ⟨J, rfl, fun _ _ _ => rfl⟩
  | succ f ih =>
    intro w k J hw hk
    obtain ⟨k, rfl⟩ : ∃ k', k = k' + 1 := ⟨k - 1, by omega⟩
    rw [eTape_cutWord_72, if_neg (by omega)]
    simp only [gLetp, eTape_cutWord_100, Int.toNat_natCast, nat1]
    split
    · obtain ⟨J', h1, h3⟩ := ih (w + 1) k (q_u J (o + 5) x1.toNat w) (by omega) (by omega)
      exact ⟨J', h1, fun a y h => by rw [h3 a y h, q_u_off h]⟩
    · exact ih (w + 1) k J (by omega) (by omega)
end CTs
