/-! The mirror's words: a method as a pure function of the world's ints (as Int) and longs. -/
abbrev tI (I : Nat → Nat → Int32) : Nat → Nat → Int := fun a k => (I a k).toInt
abbrev gJ : Type := Nat → Nat → Int
abbrev gL : Type := Nat → Nat → Int64
def gLet {α β : Type} (x : α) (f : α → β) : β := f x
def gB2 {α β δ : Type} (x : α × β) (f : α → β → δ) : δ := f x.1 x.2
def gB3 {α β γ δ : Type} (x : α × β × γ) (f : α → β → γ → δ) : δ := f x.1 x.2.1 x.2.2
theorem gt_let {α β : Type} {x y : α} {f : α → β} {G : β} (h : x = y) (e : gLet x f = G) : f y = G := by subst h; exact e
theorem gt_b2 {α β δ : Type} {x : α × β} {f : α → β → δ} {a : α} {b : β} {G : δ} (h : x = (a, b)) (e : gB2 x f = G) : f a b = G := by subst h; exact e
theorem gt_b3 {α β γ δ : Type} {x : α × β × γ} {f : α → β → γ → δ} {a : α} {b : β} {c : γ} {G : δ} (h : x = (a, b, c)) (e : gB3 x f = G) : f a b c = G := by subst h; exact e
theorem gt_pos {α : Type} {c : Prop} [Decidable c] {a b G : α} (h : c) (e : (if c then a else b) = G) : a = G := by rw [if_pos h] at e; exact e
theorem gt_neg {α : Type} {c : Prop} [Decidable c] {a b G : α} (h : ¬ c) (e : (if c then a else b) = G) : b = G := by rw [if_neg h] at e; exact e
theorem tI_q {I I' : Nat → Nat → Int32} {a k : Nat} {v : Int32} (e : q_u I a k v = I') : q_u (tI I) a k v.toInt = tI I' := by
  subst e
  funext x y
  unfold tI q_u
  dsimp only
  split <;> rfl
def wNar8 (x : Int) : Int := (vp_nar .byte (Int32.ofInt x)).toInt
def wNarZ (x : Int) : Int := (vp_nar .boolean (Int32.ofInt x)).toInt
theorem tI_qb {I I' : Nat → Nat → Int32} {a k : Nat} {v : Int32} (e : q_u I a k (vp_nar .byte v) = I') : q_u (tI I) a k (wNar8 v.toInt) = tI I' := by
  unfold wNar8
  rw [Int32.ofInt_toInt]
  exact tI_q e
theorem tI_qz {I I' : Nat → Nat → Int32} {a k : Nat} {v : Int32} (e : q_u I a k (vp_nar .boolean v) = I') : q_u (tI I) a k (wNarZ v.toInt) = tI I' := by
  unfold wNarZ
  rw [Int32.ofInt_toInt]
  exact tI_q e
def gCpy {α : Type} (J : Nat → Nat → α) (a0 a1 : Nat) (s d m : Nat) : Nat → Nat → α := q_w J a1 (va_cpy (J a0) (J a1) s d m)
theorem tI_cpy {I I' : Nat → Nat → Int32} {a0 a1 s d m : Nat} (e : q_w I a1 (va_cpy (I a0) (I a1) s d m) = I') : gCpy (tI I) a0 a1 s d m = tI I' := by
  subst e
  funext x y
  unfold gCpy tI q_w va_cpy
  dsimp only
  split
  · split <;> rfl
  · rfl
def FmL (M : Nat → Prop) (L L' : Nat → Nat → Int64) : Prop := ∀ c, ¬ M c → L' c = L c
theorem FmL.rf {M : Nat → Prop} {L : Nat → Nat → Int64} : FmL M L L := fun _ _ => rfl
theorem FmL.set {M : Nat → Prop} {L0 L L' : Nat → Nat → Int64} {a k : Nat} {v : Int64} (h : FmL M L0 L) (hm : M a) (e : q_u L a k v = L') : FmL M L0 L' := fun c hc => by
  have hne : c ≠ a := fun q => hc (by rw [q]; exact hm)
  rw [← e, q_u_ne hne]
  exact h c hc
theorem FmL.call {M M' : Nat → Prop} {L0 L L' : Nat → Nat → Int64} (h : FmL M L0 L) (h2 : FmL M' L L') (hs : ∀ c, M' c → M c) : FmL M L0 L' := fun c hc => (h2 c (fun q => hc (hs c q))).trans (h c hc)
def gFill {α : Type} (f : Nat → Nat → α) (a w : Nat) (v : α) : Nat → Nat → α := fun x y => if x = a ∧ y < w then v else f x y
def wAdd (x y : Int) : Int := (Int32.ofInt x + Int32.ofInt y).toInt
theorem wAdd_eq (X Y : Int32) : wAdd X.toInt Y.toInt = (X + Y).toInt := by unfold wAdd; rw [Int32.ofInt_toInt, Int32.ofInt_toInt]
def wSub (x y : Int) : Int := (Int32.ofInt x - Int32.ofInt y).toInt
theorem wSub_eq (X Y : Int32) : wSub X.toInt Y.toInt = (X - Y).toInt := by unfold wSub; rw [Int32.ofInt_toInt, Int32.ofInt_toInt]
def wMul (x y : Int) : Int := (Int32.ofInt x * Int32.ofInt y).toInt
theorem wMul_eq (X Y : Int32) : wMul X.toInt Y.toInt = (X * Y).toInt := by unfold wMul; rw [Int32.ofInt_toInt, Int32.ofInt_toInt]
def wAnd (x y : Int) : Int := (Int32.ofInt x &&& Int32.ofInt y).toInt
theorem wAnd_eq (X Y : Int32) : wAnd X.toInt Y.toInt = (X &&& Y).toInt := by unfold wAnd; rw [Int32.ofInt_toInt, Int32.ofInt_toInt]
def wOr (x y : Int) : Int := (Int32.ofInt x ||| Int32.ofInt y).toInt
theorem wOr_eq (X Y : Int32) : wOr X.toInt Y.toInt = (X ||| Y).toInt := by unfold wOr; rw [Int32.ofInt_toInt, Int32.ofInt_toInt]
def wXor (x y : Int) : Int := (Int32.ofInt x ^^^ Int32.ofInt y).toInt
theorem wXor_eq (X Y : Int32) : wXor X.toInt Y.toInt = (X ^^^ Y).toInt := by unfold wXor; rw [Int32.ofInt_toInt, Int32.ofInt_toInt]
def wShl (x y : Int) : Int := ((Int32.ofInt x <<< (Int32.ofInt y &&& 31))).toInt
theorem wShl_eq (X Y : Int32) : wShl X.toInt Y.toInt = ((X <<< (Y &&& 31))).toInt := by unfold wShl; rw [Int32.ofInt_toInt, Int32.ofInt_toInt]
def wShr (x y : Int) : Int := ((Int32.ofInt x >>> (Int32.ofInt y &&& 31))).toInt
theorem wShr_eq (X Y : Int32) : wShr X.toInt Y.toInt = ((X >>> (Y &&& 31))).toInt := by unfold wShr; rw [Int32.ofInt_toInt, Int32.ofInt_toInt]
def wUshr (x y : Int) : Int := (((Int32.ofInt x).toUInt32 >>> ((Int32.ofInt y : Int32).toUInt32 &&& Int32.toUInt32 31)).toInt32).toInt
theorem wUshr_eq (X Y : Int32) : wUshr X.toInt Y.toInt = (((X).toUInt32 >>> ((Y : Int32).toUInt32 &&& Int32.toUInt32 31)).toInt32).toInt := by unfold wUshr; rw [Int32.ofInt_toInt, Int32.ofInt_toInt]
def wDiv (x y : Int) : Int := ((Int32.ofInt x / Int32.ofInt y)).toInt
theorem wDiv_eq (X Y : Int32) : wDiv X.toInt Y.toInt = ((X / Y)).toInt := by unfold wDiv; rw [Int32.ofInt_toInt, Int32.ofInt_toInt]
def wRem (x y : Int) : Int := ((Int32.ofInt x - Int32.ofInt x / Int32.ofInt y * Int32.ofInt y)).toInt
theorem wRem_eq (X Y : Int32) : wRem X.toInt Y.toInt = ((X - X / Y * Y)).toInt := by unfold wRem; rw [Int32.ofInt_toInt, Int32.ofInt_toInt]
def wNeg (x : Int) : Int := ((-Int32.ofInt x)).toInt
theorem wNeg_eq (X : Int32) : wNeg X.toInt = ((-X)).toInt := by unfold wNeg; rw [Int32.ofInt_toInt]
def wI2B (x : Int) : Int := ((Int32.ofInt x : Int32).toInt8.toInt32).toInt
theorem wI2B_eq (X : Int32) : wI2B X.toInt = ((X : Int32).toInt8.toInt32).toInt := by unfold wI2B; rw [Int32.ofInt_toInt]
def wI2C (x : Int) : Int := (((Int32.ofInt x : Int32).toUInt32 % 65536).toInt32).toInt
theorem wI2C_eq (X : Int32) : wI2C X.toInt = (((X : Int32).toUInt32 % 65536).toInt32).toInt := by unfold wI2C; rw [Int32.ofInt_toInt]
theorem wAddI_eq (X : Int32) (c : Int) : wAdd X.toInt c = (X + Int32.ofInt c).toInt := by unfold wAdd; rw [Int32.ofInt_toInt]
def wI2L (x : Int) : Int64 := (Int32.ofInt x).toInt64
theorem wI2L_eq (X : Int32) : wI2L X.toInt = X.toInt64 := by unfold wI2L; rw [Int32.ofInt_toInt]
def wMax (x y : Int) : Int := if x < y then y else x
def wMin (x y : Int) : Int := if y < x then y else x
def wAbs (x : Int) : Int := (if 0 ≤ Int32.ofInt x then Int32.ofInt x else 0 - Int32.ofInt x : Int32).toInt
theorem wMmax_eq {X Y Z : Int32} (e : (if X < Y then Y else X : Int32) = Z) : wMax X.toInt Y.toInt = Z.toInt := by
  subst e
  unfold wMax
  split
  · next h => rw [if_pos (Int32.lt_iff_toInt_lt.mpr h)]
  · next h => rw [if_neg (fun q => h (Int32.lt_iff_toInt_lt.mp q))]
theorem wMmin_eq {X Y Z : Int32} (e : (if Y < X then Y else X : Int32) = Z) : wMin X.toInt Y.toInt = Z.toInt := by
  subst e
  unfold wMin
  split
  · next h => rw [if_pos (Int32.lt_iff_toInt_lt.mpr h)]
  · next h => rw [if_neg (fun q => h (Int32.lt_iff_toInt_lt.mp q))]
theorem wMabs_eq {X Z : Int32} (e : (if 0 ≤ X then X else 0 - X : Int32) = Z) : wAbs X.toInt = Z.toInt := by unfold wAbs; rw [Int32.ofInt_toInt, e]
section YG
variable {D : va_G} {cA : FieldType → ClassId} {b : Nat} {E : State → Prop} {n : Nat} {sh : Nat → qC} {Rf : Nat → Nat → Option Nat} {I : Nat → Nat → Int32} {L : Nat → Nat → Int64} {post : Option Value → qS → Prop}
theorem y_fillg_loop (hok : q_ok (qGG D cA b E)) {a w : Nat} {x : Int32} (h0 : ∀ I L, q_in (qGG D cA b E) (n, sh, Rf, I, L) a (.inl (.int, w))) (hw : w < 2 ^ 30) {J : Nat → Nat → Int32} (hp : ∀ I', (∀ c, c ≠ a → I' c = J c) → (∀ j, j < w → I' a j = x) → (∀ j, w ≤ j → I' a j = J a j) → post none (n, sh, Rf, I', L)) : ∀ (m k : Nat) (I : Nat → Nat → Int32), k + m = w → (∀ c, c ≠ a → I c = J c) → (∀ j, j < k → I a j = x) → (∀ j, k ≤ j → I a j = J a j) → Ev (qGG D cA b E) mArrays_fill_53178 0 (0, 0) 5 [(0, .ref a), (1, .int x), (2, .int (nI k)), (3, .int (Int32.ofNat w))] [] (n, sh, Rf, I, L) post := by
  intro m
  induction m with
  | zero =>
    intro k I hk hJ hx hy
    have e : k = w := by omega
    subst e
    exact sArrays_fill_53178_5 n sh Rf I L post a x (nI k) (Int32.ofNat k) k hok (h0 I L) ⟨fun _ => hp I hJ hx hy, fun h => absurd (Int32.le_refl (nI k)) h⟩
  | succ m ih =>
    intro k I hk hJ hx hy
    refine sArrays_fill_53178_5 n sh Rf I L post a x (nI k) (Int32.ofNat w) w hok (h0 I L) ⟨fun h => absurd ((nI_leI (a := w) (b := k) (by omega) (by omega)).mp h) (by omega), fun _ => ⟨vp_in_nI (by omega) (by omega), fun I2 e2 => ?_⟩⟩
    rw [nI_clamp (by omega)] at e2
    rw [nI_inc]
    refine ih (k + 1) I2 (by omega) (fun c hc => ?_) (fun j hj => ?_) (fun j hj => ?_)
    · rw [← e2, q_u_ne hc]; exact hJ c hc
    · by_cases h : j = k
      · subst h; rw [← e2, q_u_at]
      · rw [← e2, q_u_k h]; exact hx j (by omega)
    · rw [← e2, q_u_k (by omega)]; exact hy j (by omega)
theorem y_fillg (hok : q_ok (qGG D cA b E)) {a w : Nat} {x : Int32} (h0 : ∀ I L, q_in (qGG D cA b E) (n, sh, Rf, I, L) a (.inl (.int, w))) (hw : w < 2 ^ 30) (hp : ∀ I', (∀ c, c ≠ a → I' c = I c) → (∀ j, j < w → I' a j = x) → (∀ j, I' a j = x ∨ I' a j = I a j) → gFill (tI I) a w x.toInt = tI I' → post none (n, sh, Rf, I', L)) : Ev (qGG D cA b E) mArrays_fill_53178 0 (0, 0) 0 (lv_args 0 [.ref a, .int x]) [] (n, sh, Rf, I, L) post :=
  sArrays_fill_53178_0 n sh Rf I L post a x w hok (h0 I L) (y_fillg_loop (J := I) hok h0 hw (fun I' h1 h2 h3 => hp I' h1 h2 (fun j => if h : j < w then Or.inl (h2 j h) else Or.inr (h3 j (by omega))) (by
    funext c j
    show (if c = a ∧ j < w then x.toInt else (I c j).toInt) = (I' c j).toInt
    split
    · next h => rw [h.1, h2 j h.2]
    · next h =>
      by_cases hc : c = a
      · subst hc; rw [h3 j (by omega)]
      · rw [h1 c hc])) w 0 I (by omega) (fun _ _ => rfl) (fun j hj => absurd hj (by omega)) (fun _ _ => rfl))
theorem l_fillLg_loop (hok : q_ok (qGG D cA b E)) {a w : Nat} {x : Int64} (h0 : ∀ I L, q_in (qGG D cA b E) (n, sh, Rf, I, L) a (.inl (.long, w))) (hw : w < 2 ^ 30) {J : Nat → Nat → Int64} (hp : ∀ L', (∀ c, c ≠ a → L' c = J c) → (∀ j, j < w → L' a j = x) → (∀ j, w ≤ j → L' a j = J a j) → post none (n, sh, Rf, I, L')) : ∀ (m k : Nat) (L : Nat → Nat → Int64), k + m = w → (∀ c, c ≠ a → L c = J c) → (∀ j, j < k → L a j = x) → (∀ j, k ≤ j → L a j = J a j) → Ev (qGG D cA b E) mArrays_fill_d0a16 0 (0, 0) 6 [(0, .ref a), (1, .long x), (3, .int (nI k)), (4, .int (Int32.ofNat w))] [] (n, sh, Rf, I, L) post := by
  intro m
  induction m with
  | zero =>
    intro k L hk hJ hx hy
    have e : k = w := by omega
    subst e
    exact sArrays_fill_d0a16_6 n sh Rf I L post a x (nI k) (Int32.ofNat k) k hok (h0 I L) ⟨fun _ => hp L hJ hx hy, fun h => absurd (Int32.le_refl (nI k)) h⟩
  | succ m ih =>
    intro k L hk hJ hx hy
    refine sArrays_fill_d0a16_6 n sh Rf I L post a x (nI k) (Int32.ofNat w) w hok (h0 I L) ⟨fun h => absurd ((nI_leI (a := w) (b := k) (by omega) (by omega)).mp h) (by omega), fun _ => ⟨vp_in_nI (by omega) (by omega), fun L2 e2 => ?_⟩⟩
    rw [nI_clamp (by omega)] at e2
    rw [nI_inc]
    refine ih (k + 1) L2 (by omega) (fun c hc => ?_) (fun j hj => ?_) (fun j hj => ?_)
    · rw [← e2, q_u_ne hc]; exact hJ c hc
    · by_cases h : j = k
      · subst h; rw [← e2, q_u_at]
      · rw [← e2, q_u_k h]; exact hx j (by omega)
    · rw [← e2, q_u_k (by omega)]; exact hy j (by omega)
theorem l_fillLg (hok : q_ok (qGG D cA b E)) {a w : Nat} {x : Int64} (h0 : ∀ I L, q_in (qGG D cA b E) (n, sh, Rf, I, L) a (.inl (.long, w))) (hw : w < 2 ^ 30) (hp : ∀ L', (∀ c, c ≠ a → L' c = L c) → (∀ j, j < w → L' a j = x) → gFill L a w x = L' → post none (n, sh, Rf, I, L')) : Ev (qGG D cA b E) mArrays_fill_d0a16 0 (0, 0) 0 (lv_args 0 [.ref a, .long x]) [] (n, sh, Rf, I, L) post :=
  sArrays_fill_d0a16_0 n sh Rf I L post a x w hok (h0 I L) (l_fillLg_loop (J := L) hok h0 hw (fun L' h1 h2 h3 => hp L' h1 h2 (by
    funext c j
    unfold gFill
    split
    · next h => rw [h.1, h2 j h.2]
    · next h =>
      by_cases hc : c = a
      · subst hc; rw [h3 j (by omega)]
      · rw [h1 c hc])) w 0 L (by omega) (fun _ _ => rfl) (fun j hj => absurd hj (by omega)) (fun _ _ => rfl))
end YG
