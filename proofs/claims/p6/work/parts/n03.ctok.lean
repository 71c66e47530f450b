/-! The class's TOKENS, one by one. By hand. -/
/-- how many digits a P has whose first is at d (0: none is there), and its number -/
def ptV (B : Nat → Int) (N d : Nat) : Int := if tkD B N (d + 1) = true then (bN B N d - 48) * 10 + bN B N (d + 1) - 48 else bN B N d - 48
def ptN (B : Nat → Int) (N d : Nat) : Nat := if tkD B N d = true then (if tkD B N (d + 1) = true then (if tkD B N (d + 2) = true ∨ tkL B N (d + 2) = true ∨ 16 ≤ ptV B N d then 0 else 2) else (if tkL B N (d + 1) = true then 0 else 1)) else 0
def isP (pl : Bool) (B : Nat → Int) (N a : Nat) : Prop := pl = true ∧ B a = 112 ∧ ptN B N (a + 1) ≠ 0
def isPb (pl : Bool) (B : Nat → Int) (N a : Nat) : Bool := pl && (B a == 112) && !(ptN B N (a + 1) == 0)
theorem isPb_iff {pl : Bool} {B : Nat → Int} {N a : Nat} : isPb pl B N a = true ↔ (pl = true ∧ B a = 112 ∧ ptN B N (a + 1) ≠ 0) := by
  unfold isPb
  simp [and_assoc]
/-- a TOKEN's kind (the class's numbers), its end, word, number -/
def tkK (pl : Bool) (B : Nat → Int) (N a : Nat) : Int := if N ≤ a then 0 else if tkL B N a = true then (if isPb pl B N a = true then 3 else if wE B N a - a ≤ 8 then 1 else 5) else if tkD B N a = true then (if nE B N a - a ≤ 4 ∧ ¬ tkL B N (nE B N a) = true then 2 else 5) else if sgZ (B a) = true then 4 else 5
def tkE (pl : Bool) (B : Nat → Int) (N a : Nat) : Nat := if N ≤ a then a else if tkL B N a = true then (if isPb pl B N a = true then a + 1 + ptN B N (a + 1) else wE B N a) else if tkD B N a = true then nE B N a else a + 1
def tkW (B : Nat → Int) (N a : Nat) : List Nat := lw B (wE B N a - a) a
def nV (B : Nat → Int) (N : Nat) : Nat → Nat → Int → Int
  | 0, _, acc => acc
  | f + 1, i, acc => if tkD B N i = true then nV B N f (i + 1) (wSub (wAdd (wMul acc 10) (bN B N i)) 48) else acc
theorem nV_0 (B : Nat → Int) (N i : Nat) (x : Int) : nV B N 0 i x = x := rfl
theorem nV_s (B : Nat → Int) (N f i : Nat) (x : Int) : nV B N (f + 1) i x = if tkD B N i = true then nV B N f (i + 1) (wSub (wAdd (wMul x 10) (bN B N i)) 48) else x := rfl
def tkN (B : Nat → Int) (N a : Nat) : Int := nV B N (N - a) a 0
theorem lw_mem (B : Nat → Int) : ∀ (n a : Nat) (c : Nat), c ∈ lw B n a → ∃ j, a ≤ j ∧ j < a + n ∧ c = (B j - 96).toNat := by
  intro n
  induction n with
  | zero => intro a c h; exact absurd h (List.not_mem_nil)
  | succ n ih =>
    intro a c h
    rcases List.mem_cons.mp h with h | h
    · exact ⟨a, Nat.le_refl _, by omega, h⟩
    · obtain ⟨j, h1, h2, h3⟩ := ih (a + 1) c h
      exact ⟨j, by omega, by omega, h3⟩
theorem tkW_ltrs {B : Nat → Int} {N a : Nat} (h : wE B N a - a ≤ 8) : ltrs (tkW B N a) := by
  refine ⟨by unfold tkW; rw [lw_len]; exact h, fun c hc => ?_⟩
  obtain ⟨j, h1, h2, h3⟩ := lw_mem B _ _ c hc
  have h4 : tkL B N j = true := sw_all (tkL B N) (N - a) a j h1 (by show j < wE B N a; omega)
  have h5 := tkL_lt h4
  have h6 : ltZ (bN B N j) = true := h4
  have h7 := ltZ_iff.mp h6
  have h8 : bN B N j = B j := if_pos h5
  omega
theorem ptN_le {B : Nat → Int} {N d : Nat} : ptN B N d ≤ 2 := by
  unfold ptN
  split
  · split
    · split <;> omega
    · split <;> omega
  · omega
theorem ptN_in {B : Nat → Int} {N d : Nat} (h : ptN B N d ≠ 0) : d + ptN B N d ≤ N := by
  unfold ptN at h ⊢
  split
  · next h1 =>
    rw [if_pos h1] at h
    have l1 := tkD_lt h1
    split
    · next h2 => have l2 := tkD_lt h2; split <;> omega
    · split <;> omega
  · next h1 => rw [if_neg h1] at h; exact absurd rfl h
theorem ptV_rg {B : Nat → Int} {N d : Nat} (h : ptN B N d ≠ 0) : 0 ≤ ptV B N d ∧ ptV B N d ≤ 15 := by
  unfold ptN at h
  split at h
  · next h1 =>
    have d1 := dgZ_iff.mp h1
    split at h
    · next h2 =>
      have d2 := dgZ_iff.mp h2
      split at h
      · exact absurd rfl h
      · next h3 =>
        have e : ptV B N d = (bN B N d - 48) * 10 + bN B N (d + 1) - 48 := if_pos h2
        have h4 : ¬ 16 ≤ ptV B N d := fun q => h3 (Or.inr (Or.inr q))
        omega
    · next h2 =>
      have e : ptV B N d = bN B N d - 48 := if_neg h2
      omega
  · exact absurd rfl h
theorem tkE_le {pl : Bool} {B : Nat → Int} {N a : Nat} (h : a ≤ N) : tkE pl B N a ≤ N := by
  unfold tkE
  split
  · exact h
  · next h0 =>
    split
    · split
      · next h1 => have h2 := ptN_in (isPb_iff.mp h1).2.2; omega
      · exact wE_le h
    · split
      · exact nE_le h
      · omega
theorem tkE_gt {pl : Bool} {B : Nat → Int} {N a : Nat} (h : a < N) : a < tkE pl B N a := by
  unfold tkE
  rw [if_neg (by omega)]
  split
  · next h1 =>
    split
    · omega
    · exact wE_gt h1
  · split
    · next h1 => exact nE_gt h1
    · omega
theorem tkK_end {pl : Bool} {B : Nat → Int} {N a : Nat} : tkK pl B N a = 0 ↔ N ≤ a := by
  unfold tkK
  split
  · next h => exact ⟨fun _ => h, fun _ => rfl⟩
  · next h =>
    refine ⟨fun q => ?_, fun q => absurd q h⟩
    split at q
    · split at q
      · exact absurd q (by decide)
      · split at q <;> exact absurd q (by decide)
    · split at q
      · split at q <;> exact absurd q (by decide)
      · split at q <;> exact absurd q (by decide)
theorem tkK_rg {pl : Bool} {B : Nat → Int} {N a : Nat} : 0 ≤ tkK pl B N a ∧ tkK pl B N a ≤ 5 := by
  unfold tkK
  repeat' split
  all_goals decide
section CTt
variable {B : Nat → Int} {N o t : Nat} {J J' : gJ} {L L' : gL}
theorem c_digit0 (x : Int) : (gTape_isDigit_0 J L x = 0) ↔ ¬ dgZ x = true := by
  rw [c_isDigit]
  by_cases c : dgZ x = true
  · rw [if_pos c]; exact ⟨fun q => absurd q (by decide), fun q => absurd c q⟩
  · rw [if_neg c]; exact ⟨fun _ => c, fun _ => rfl⟩
theorem c_letter0 (x : Int) : (gTape_isLetter_0 J L x = 0) ↔ ¬ ltZ x = true := by
  rw [c_isLetter]
  by_cases c : ltZ x = true
  · rw [if_pos c]; exact ⟨fun q => absurd q (by decide), fun q => absurd c q⟩
  · rw [if_neg c]; exact ⟨fun _ => c, fun _ => rfl⟩
theorem c_place68 (h : CT B N o J) (i : Nat) {x1 v : Int} : gTape_placeAt_68 o J L x1 v i = if tkD B N i = true ∨ tkL B N i = true ∨ 16 ≤ v then -1 else v := by
  unfold gTape_placeAt_68 gTape_placeAt_90 gTape_placeAt_95 gTape_placeAt_108
  simp only [gLetp, c_byteAt h]
  by_cases c1 : tkD B N i = true
  · rw [if_neg (fun q => (c_digit0 _).mp q c1), if_neg (by decide), if_pos (Or.inl c1)]
  · rw [if_pos ((c_digit0 _).mpr c1)]
    by_cases c2 : tkL B N i = true
    · rw [if_neg (fun q => (c_letter0 _).mp q c2), if_neg (by decide), if_pos (Or.inr (Or.inl c2))]
    · rw [if_pos ((c_letter0 _).mpr c2), if_pos (by decide)]
      by_cases c3 : v < 16
      · rw [if_pos c3, if_neg (by rintro (q | q | q); exact c1 q; exact c2 q; omega)]
      · rw [if_neg c3, if_pos (Or.inr (Or.inr (by omega)))]
theorem c_placeAt (h : CT B N o J) {a : Nat} (ha : a < N) : gTape_placeAt_0 o J L (a : Int) = if B a = 112 ∧ ptN B N (a + 1) ≠ 0 then ptV B N (a + 1) else -1 := by
  have hN := h.2.1
  unfold gTape_placeAt_0
  have w1 : wAdd (a : Int) 1 = ((a + 1 : Nat) : Int) := by rw [wAdd_r (by omega) (by omega) (by decide) (by decide) (by omega) (by omega)]; rfl
  have w2 : wAdd (a : Int) 2 = ((a + 2 : Nat) : Int) := by rw [wAdd_r (by omega) (by omega) (by decide) (by decide) (by omega) (by omega)]; rfl
  have w3 : wAdd ((a + 2 : Nat) : Int) 1 = ((a + 3 : Nat) : Int) := by rw [wAdd_r (by omega) (by omega) (by decide) (by decide) (by omega) (by omega)]; rfl
  simp only [gLetp, w1, w2, w3, c_byteAt h, c_place68 h]
  have hb : bN B N a = B a := if_pos ha
  rw [hb]
  by_cases c0 : B a = 112
  · rw [if_pos c0]
    by_cases c1 : tkD B N (a + 1) = true
    · have d1 := dgZ_iff.mp c1
      have v1 : wSub (bN B N (a + 1)) 48 = bN B N (a + 1) - 48 := wSub_r (by omega) (by omega) (by decide) (by decide) (by omega) (by omega)
      rw [if_neg (fun q => (c_digit0 _).mp q c1), v1]
      by_cases c2 : tkD B N (a + 2) = true
      · have d2 := dgZ_iff.mp c2
        have v2 : wMul (bN B N (a + 1) - 48) 10 = (bN B N (a + 1) - 48) * 10 := wMul_r (by omega) (by omega) (by decide) (by decide) (by omega) (by omega)
        have v3 : wAdd ((bN B N (a + 1) - 48) * 10) (bN B N (a + 2)) = (bN B N (a + 1) - 48) * 10 + bN B N (a + 2) := wAdd_r (by omega) (by omega) (by omega) (by omega) (by omega) (by omega)
        have v4 : wSub ((bN B N (a + 1) - 48) * 10 + bN B N (a + 2)) 48 = (bN B N (a + 1) - 48) * 10 + bN B N (a + 2) - 48 := wSub_r (by omega) (by omega) (by decide) (by decide) (by omega) (by omega)
        rw [if_neg (fun q => (c_digit0 _).mp q c2), v2, v3, v4]
        have ev : ptV B N (a + 1) = (bN B N (a + 1) - 48) * 10 + bN B N (a + 2) - 48 := if_pos c2
        rw [← ev]
        have en : ptN B N (a + 1) = if tkD B N (a + 3) = true ∨ tkL B N (a + 3) = true ∨ 16 ≤ ptV B N (a + 1) then 0 else 2 := by
          unfold ptN
          rw [if_pos c1, if_pos c2]
        by_cases c3 : tkD B N (a + 3) = true ∨ tkL B N (a + 3) = true ∨ 16 ≤ ptV B N (a + 1)
        · rw [if_pos c3, if_neg (by rw [en, if_pos c3]; exact fun q => q.2 rfl)]
        · rw [if_neg c3, if_pos ⟨c0, by rw [en, if_neg c3]; decide⟩]
      · have ev : ptV B N (a + 1) = bN B N (a + 1) - 48 := if_neg c2
        rw [if_pos ((c_digit0 _).mpr c2), ← ev]
        have en : ptN B N (a + 1) = if tkL B N (a + 2) = true then 0 else 1 := by
          unfold ptN
          rw [if_pos c1, if_neg c2]
        by_cases c3 : tkL B N (a + 2) = true
        · rw [if_pos (Or.inr (Or.inl c3)), if_neg (by rw [en, if_pos c3]; exact fun q => q.2 rfl)]
        · rw [if_neg (by rintro (q | q | q); exact c2 q; exact c3 q; omega), if_pos ⟨c0, by rw [en, if_neg c3]; decide⟩]
    · rw [if_pos ((c_digit0 _).mpr c1), if_neg]
      rintro ⟨_, q⟩
      apply q
      unfold ptN
      rw [if_neg c1]
  · rw [if_neg c0, if_neg (fun q => c0 q.1)]
/-- all but a TOKEN's own cells stay -/
def TkFr (o t : Nat) (J J' : gJ) (L L' : gL) : Prop := (∀ r y, ¬ ((r = o + 3 ∨ r = o + 4 ∨ r = o + 5) ∧ y = t) → J' r y = J r y) ∧ ∀ r y, ¬ (r = o + 6 ∧ y = t) → L' r y = L r y
theorem c_cutWord (h : CT B N o J) (hK : KW o L) {a : Nat} (ha : a < N) : ∃ J' L', gTape_cutWord_0 o J L t a = (((wE B N a : Nat) : Int), J', L') ∧ J' (o + 3) t = (if wE B N a - a ≤ 8 then 1 else 5) ∧ (wE B N a - a ≤ 8 → L' (o + 6) t = c32 (tkW B N a) ∧ J' (o + 5) t = kwF (tkW B N a) 32 0 (J (o + 5) t)) ∧ J' (o + 4) t = J (o + 4) t ∧ TkFr o t J J' L L' := by
  have hN := h.2.1
  have hg := wE_ge B N a
  unfold gTape_cutWord_0
  rw [show (0 : Int64) = Int64.ofNat 0 from rfl, c_word h (N - a) a 20000 0 (by omega) (by omega)]
  show ∃ J' L', gTape_cutWord_42 o J L t a (wE B N a : Nat) (c32 (tkW B N a)) = _ ∧ _
  unfold gTape_cutWord_42 gTape_cutWord_60
  simp only [gLetp, Int.toNat_natCast]
  by_cases c : wE B N a - a ≤ 8
  · rw [if_pos (by omega), if_pos c]
    have hK2 : KW o (q_u L (o + 6) t (c32 (tkW B N a))) := fun k hk => by rw [q_u_ne (by omega)]; exact hK k hk
    obtain ⟨J', h1, h2, h3⟩ := c_kw (x1 := t) (x2 := a) (x3 := (wE B N a : Nat)) hK2 (tkW_ltrs c) 32 0 20000 (q_u J (o + 3) t 1) (by omega) (by omega)
    rw [Int.toNat_natCast] at h2 h3
    refine ⟨J', _, h1, ?_, fun _ => ⟨q_u_at, ?_⟩, ?_, fun r y hr => ?_, fun r y hr => q_u_off hr⟩
    · rw [h3 _ _ (by omega), q_u_at]
    · rw [h2, q_u_ne (by omega)]
    · rw [h3 _ _ (by omega), q_u_ne (by omega)]
    · rw [h3 r y (by omega), q_u_off (by omega)]
  · rw [if_neg (by omega), if_neg c]
    obtain ⟨J', h1, h3⟩ := c_kwX (o := o) (L := q_u L (o + 6) t (c32 (tkW B N a))) (x1 := t) (x2 := a) (x3 := (wE B N a : Nat)) (code := c32 (tkW B N a)) 32 0 20000 (q_u J (o + 3) t 5) (by omega) (by omega)
    rw [Int.toNat_natCast] at h3
    refine ⟨J', _, h1, ?_, fun q => absurd q c, ?_, fun r y hr => ?_, fun r y hr => q_u_off hr⟩
    · rw [h3 _ _ (by omega), q_u_at]
    · rw [h3 _ _ (by omega), q_u_ne (by omega)]
    · rw [h3 r y (by omega), q_u_off (by omega)]
theorem c_num (h : CT B N o J) {tz az : Int} : ∀ (f i k : Nat) (x : Int), i + f = N → f < k → gTape_cutNumber_5 k o J L tz az i x = gTape_cutNumber_46 o J L tz az (sw (tkD B N) f i : Nat) (nV B N f i x) := by
  intro f
  induction f with
  | zero =>
    intro i k x hi hk
    obtain ⟨k, rfl⟩ : ∃ k', k = k' + 1 := ⟨k - 1, by omega⟩
    rw [eTape_cutNumber_5, sw_0, nV_0]
    simp only [gLetp]
    rw [h.1, if_pos (by omega)]
  | succ f ih =>
    intro i k x hi hk
    obtain ⟨k, rfl⟩ : ∃ k', k = k' + 1 := ⟨k - 1, by omega⟩
    rw [eTape_cutNumber_5]
    simp only [gLetp, c_byteAt h, nat1]
    rw [h.1, if_neg (by omega), sw_s, nV_s]
    by_cases c : tkD B N i = true
    · rw [if_neg (fun q => (c_digit0 _).mp q c), if_pos c, if_pos c, ih (i + 1) k _ (by omega) (by omega)]
    · rw [if_pos ((c_digit0 _).mpr c), if_neg c, if_neg c]
theorem c_cutNumber (h : CT B N o J) {a : Nat} (ha : a < N) : gTape_cutNumber_0 o J L t a = (((nE B N a : Nat) : Int), q_u (q_u J (o + 3) t (if nE B N a - a ≤ 4 ∧ ¬ tkL B N (nE B N a) = true then 2 else 5)) (o + 5) t (tkN B N a), L) := by
  have hN := h.2.1
  have hg := nE_ge B N a
  unfold gTape_cutNumber_0
  rw [c_num h (N - a) a 20000 0 (by omega) (by omega)]
  show gTape_cutNumber_46 o J L t a (nE B N a : Nat) (tkN B N a) = _
  unfold gTape_cutNumber_46 gTape_cutNumber_69 gTape_cutNumber_74
  simp only [gLetp, c_byteAt h, Int.toNat_natCast]
  by_cases c : nE B N a - a ≤ 4
  · rw [if_neg (by omega)]
    by_cases c2 : tkL B N (nE B N a) = true
    · rw [if_neg (fun q => (c_letter0 _).mp q c2), if_neg (fun q => q.2 c2)]
    · rw [if_pos ((c_letter0 _).mpr c2), if_pos ⟨c, c2⟩]
  · rw [if_pos (by omega), if_neg (fun q => c q.1)]
theorem c_cutPlace (h : CT B N o J) {a : Nat} (ha : a < N) (hp : B a = 112 ∧ ptN B N (a + 1) ≠ 0) : gTape_cutPlace_0 o J L t a = (((a + 1 + ptN B N (a + 1) : Nat) : Int), q_u (q_u J (o + 3) t 3) (o + 5) t (ptV B N (a + 1)), L) := by
  have h1 : CT B N o (q_u J (o + 3) t 3) := h.mv (by rw [q_u_ne (by omega)]) (by rw [q_u_ne (by omega)])
  have h2 : CT B N o (q_u (q_u J (o + 3) t 3) (o + 5) t (ptV B N (a + 1))) := h1.mv (by rw [q_u_ne (by omega)]) (by rw [q_u_ne (by omega)])
  unfold gTape_cutPlace_0
  simp only [gLetp, Int.toNat_natCast, nat2, nat3]
  simp only [c_placeAt h1 ha, if_pos hp, c_byteAt h2]
  have hd : tkD B N (a + 1) = true := by
    by_cases c : tkD B N (a + 1) = true
    · exact c
    · exact absurd (by unfold ptN; rw [if_neg c]) hp.2
  by_cases c2 : tkD B N (a + 2) = true
  · rw [if_neg (fun q => (c_digit0 _).mp q c2)]
    have en : ptN B N (a + 1) = 2 := by
      have q := hp.2
      unfold ptN at q ⊢
      rw [if_pos hd, if_pos c2] at q ⊢
      split at q
      · exact absurd rfl q
      · next c3 => rw [if_neg c3]
    rw [en]
  · rw [if_pos ((c_digit0 _).mpr c2)]
    have en : ptN B N (a + 1) = 1 := by
      have q := hp.2
      unfold ptN at q ⊢
      rw [if_pos hd, if_neg c2] at q ⊢
      split at q
      · exact absurd rfl q
      · next c3 => rw [if_neg c3]
    rw [en]
theorem w255 {x : Int} (h1 : 0 ≤ x) (h2 : x ≤ 255) : wI2C x = x := by
  have h : ∀ m : Fin 256, wI2C (m.val : Int) = (m.val : Int) := by decide +kernel
  have q := h ⟨x.toNat, by omega⟩
  have e : ((x.toNat : Nat) : Int) = x := by omega
  dsimp only at q
  rw [e] at q
  exact q
/-- what the class holds of the TOKEN at a, as its t-th -/
def TokC (pl : Bool) (B : Nat → Int) (N o : Nat) (J : gJ) (L : gL) (t a : Nat) : Prop := J (o + 3) t = tkK pl B N a ∧ J (o + 4) t = (a : Int) ∧ (tkK pl B N a = 1 → J (o + 5) t = vW (tkW B N a) ∧ L (o + 6) t = c32 (tkW B N a)) ∧ (tkK pl B N a = 2 → J (o + 5) t = tkN B N a) ∧ (tkK pl B N a = 3 → J (o + 5) t = ptV B N (a + 1)) ∧ (tkK pl B N a = 4 → J (o + 5) t = B a)
theorem c_cutToken (hB : BR B) (h : CT B N o J) (hK : KW o L) {pl : Bool} (hpl : J o 9 = if pl = true then 1 else 0) {fr : Nat} (hfr : fr ≤ N) : ∃ J' L', gTape_cutToken_0 o J L t fr = (((tkE pl B N (tA B N fr) : Nat) : Int), J', L') ∧ TokC pl B N o J' L' t (tA B N fr) ∧ TkFr o t J J' L L' := by
  rw [c_cutToken0 h hfr]
  have ha := tA_le (B := B) hfr
  generalize tA B N fr = a at ha ⊢
  unfold gTape_cutToken_36
  simp only [gLetp, gB3p]
  rw [Int.toNat_natCast]
  have j4 : q_u (q_u J (o + 4) t (a : Int)) (o + 5) t (-1) (o + 4) t = (a : Int) := by rw [q_u_ne (by omega), q_u_at]
  have j5 : q_u (q_u J (o + 4) t (a : Int)) (o + 5) t (-1) (o + 5) t = -1 := q_u_at
  have jm : ∀ r y, ¬ ((r = o + 4 ∨ r = o + 5) ∧ y = t) → q_u (q_u J (o + 4) t (a : Int)) (o + 5) t (-1) r y = J r y := fun r y hr => by rw [q_u_off (by omega), q_u_off (by omega)]
  have h2 : CT B N o (q_u (q_u J (o + 4) t (a : Int)) (o + 5) t (-1)) := h.mv (jm _ _ (by omega)) (by funext y; exact jm _ _ (by omega))
  have j9 : q_u (q_u J (o + 4) t (a : Int)) (o + 5) t (-1) o 9 = J o 9 := jm _ _ (by omega)
  generalize q_u (q_u J (o + 4) t (a : Int)) (o + 5) t (-1) = J2 at *
  rw [h2.1, c_byteAt h2, j9, hpl]
  by_cases c : a < N
  · rw [if_pos (by omega)]
    have hb : bN B N a = B a := if_pos c
    have hbr := hB a
    by_cases cl : tkL B N a = true
    · rw [if_neg (fun q => (c_letter0 _).mp q cl)]
      have wd : ¬ isPb pl B N a = true → ∃ J' L', ((gTape_cutWord_0 o J2 L t a).1, (gTape_cutWord_0 o J2 L t a).2.1, (gTape_cutWord_0 o J2 L t a).2.2) = (((tkE pl B N a : Nat) : Int), J', L') ∧ TokC pl B N o J' L' t a ∧ TkFr o t J J' L L' := by
        intro hp
        obtain ⟨J', L', e, k3, k5, k4, f1, f2⟩ := c_cutWord (t := t) h2 hK c
        have ek : tkK pl B N a = if wE B N a - a ≤ 8 then 1 else 5 := by
          unfold tkK
          rw [if_neg (by omega), if_pos cl, if_neg hp]
        have ee : tkE pl B N a = wE B N a := by
          unfold tkE
          rw [if_neg (by omega), if_pos cl, if_neg hp]
        refine ⟨J', L', by rw [e, ee], ⟨by rw [k3, ek], by rw [k4]; exact j4, fun q => ?_, fun q => ?_, fun q => ?_, fun q => ?_⟩, fun r y hr => by rw [f1 r y hr, jm r y (by omega)], f2⟩
        · have c8 : wE B N a - a ≤ 8 := by
            by_cases z : wE B N a - a ≤ 8
            · exact z
            · rw [ek, if_neg z] at q; exact absurd q (by decide)
          obtain ⟨u1, u2⟩ := k5 c8
          refine ⟨?_, u1⟩
          rw [u2, j5]
          rfl
        · rw [ek] at q; split at q <;> exact absurd q (by decide)
        · rw [ek] at q; split at q <;> exact absurd q (by decide)
        · rw [ek] at q; split at q <;> exact absurd q (by decide)
      by_cases cp : pl = true
      · rw [if_pos cp, if_neg (by decide), c_placeAt h2 c]
        by_cases cq : B a = 112 ∧ ptN B N (a + 1) ≠ 0
        · have hp : isPb pl B N a = true := isPb_iff.mpr ⟨cp, cq.1, cq.2⟩
          have hv := ptV_rg cq.2
          rw [if_pos cq, if_neg (by omega), c_cutPlace h2 c cq]
          have ek : tkK pl B N a = 3 := by
            unfold tkK
            rw [if_neg (by omega), if_pos cl, if_pos hp]
          have ee : tkE pl B N a = a + 1 + ptN B N (a + 1) := by
            unfold tkE
            rw [if_neg (by omega), if_pos cl, if_pos hp]
          refine ⟨_, _, by rw [ee], ⟨by rw [q_u_ne (by omega), q_u_at, ek], by rw [q_u_ne (by omega), q_u_ne (by omega)]; exact j4, fun q => ?_, fun q => ?_, fun _ => q_u_at, fun q => ?_⟩, fun r y hr => by rw [q_u_off (by omega), q_u_off (by omega), jm r y (by omega)], fun _ _ _ => rfl⟩
          all_goals (rw [ek] at q; exact absurd q (by decide))
        · rw [if_neg cq, if_pos (by decide)]
          exact wd (fun q => cq (isPb_iff.mp q).2)
      · rw [if_neg cp, if_pos (by decide)]
        exact wd (fun q => cp (isPb_iff.mp q).1)
    · rw [if_pos ((c_letter0 _).mpr cl)]
      by_cases cd : tkD B N a = true
      · rw [if_neg (fun q => (c_digit0 _).mp q cd), c_cutNumber h2 c]
        have ek : tkK pl B N a = if nE B N a - a ≤ 4 ∧ ¬ tkL B N (nE B N a) = true then 2 else 5 := by
          unfold tkK
          rw [if_neg (by omega), if_neg cl, if_pos cd]
        have ee : tkE pl B N a = nE B N a := by
          unfold tkE
          rw [if_neg (by omega), if_neg cl, if_pos cd]
        refine ⟨_, _, by rw [ee], ⟨by rw [q_u_ne (by omega), q_u_at, ek], by rw [q_u_ne (by omega), q_u_ne (by omega)]; exact j4, fun q => ?_, fun _ => q_u_at, fun q => ?_, fun q => ?_⟩, fun r y hr => by rw [q_u_off (by omega), q_u_off (by omega), jm r y (by omega)], fun _ _ _ => rfl⟩
        all_goals (rw [ek] at q; split at q <;> exact absurd q (by decide))
      · rw [if_pos ((c_digit0 _).mpr cd)]
        unfold gTape_cutToken_128
        simp only [gLetp, c_byteAt h2, Int.toNat_natCast, nat1]
        rw [hb, w255 hbr.1 hbr.2]
        have ek : tkK pl B N a = if sgZ (B a) = true then 4 else 5 := by
          unfold tkK
          rw [if_neg (by omega), if_neg cl, if_neg cd]
        have ee : tkE pl B N a = a + 1 := by
          unfold tkE
          rw [if_neg (by omega), if_neg cl, if_neg cd]
        refine ⟨_, _, by rw [ee], ⟨by rw [q_u_ne (by omega), q_u_at, ek], by rw [q_u_ne (by omega), q_u_ne (by omega)]; exact j4, fun q => ?_, fun q => ?_, fun q => ?_, fun _ => q_u_at⟩, fun r y hr => by rw [q_u_off (by omega), q_u_off (by omega), jm r y (by omega)], fun _ _ _ => rfl⟩
        all_goals (rw [ek] at q; split at q <;> exact absurd q (by decide))
  · rw [if_neg (by omega)]
    have ek : tkK pl B N a = 0 := tkK_end.mpr (by omega)
    have ee : tkE pl B N a = a := by
      unfold tkE
      rw [if_pos (by omega)]
    refine ⟨_, _, by rw [ee], ⟨by rw [q_u_at, ek], by rw [q_u_ne (by omega)]; exact j4, fun q => ?_, fun q => ?_, fun q => ?_, fun q => ?_⟩, fun r y hr => by rw [q_u_off (by omega), jm r y (by omega)], fun _ _ _ => rfl⟩
    all_goals (rw [ek] at q; exact absurd q (by decide))
end CTt
