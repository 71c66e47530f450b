/-! Ranges: what every int of the world lies in, by its address. Safety leans on these. -/
abbrev qRg : Type := (Nat → Nat → Int × Int) × (Nat → Bool)
/-- lo, hi, and a tag: a tagged int may be held to less (R.2 tag = false) -/
abbrev qTb : Type := Nat → Nat → Int × Int × Nat
def RI (R : qRg) (I : Nat → Nat → Int32) : Prop := ∀ a k, (R.1 a k).1 ≤ (I a k).toInt ∧ (I a k).toInt ≤ (R.1 a k).2
def RAt (T : qTb) (w : Nat) (R : qRg) (a : Nat) : Prop := ∀ i, i < w → ∀ k, ((T i k).1 ≤ (R.1 (a + i) k).1 ∧ (R.1 (a + i) k).2 ≤ (T i k).2.1) ∧ ((T i k).2.2 = 0 ∨ R.2 (T i k).2.2 = true → R.1 (a + i) k = ((T i k).1, (T i k).2.1))
theorem RAt.eq {T : qTb} {w : Nat} {R : qRg} {a : Nat} (ra : RAt T w R a) (i : Nat) (hi : i < w) (k : Nat) (hz : (T i k).2.2 = 0 ∨ R.2 (T i k).2.2 = true) : R.1 (a + i) k = ((T i k).1, (T i k).2.1) := (ra i hi k).2 hz
/-- nothing changes but in M -/
def Fm (M : Nat → Prop) (I I' : Nat → Nat → Int32) : Prop := ∀ c, ¬ M c → I' c = I c
section RI
variable {R : qRg} {I I' : Nat → Nat → Int32} {T : qTb} {w a k : Nat} {v : Int32}
theorem RI.at (h : RI R I) (ra : RAt T w R a) (i k : Nat) (hi : i < w) : (T i k).1 ≤ (I (a + i) k).toInt ∧ (I (a + i) k).toInt ≤ (T i k).2.1 := by
  have h1 := h (a + i) k
  have h2 := (ra i hi k).1
  exact ⟨Int.le_trans h2.1 h1.1, Int.le_trans h1.2 h2.2⟩
theorem RI.at0 (h : RI R I) (ra : RAt T w R a) (k : Nat) (hi : 0 < w) : (T 0 k).1 ≤ (I a k).toInt ∧ (I a k).toInt ≤ (T 0 k).2.1 := h.at ra 0 k hi
theorem RI.up (h : RI R I) (ra : RAt T w R a) (i : Nat) (hi : i < w) (hz : (T i k).2.2 = 0 ∨ R.2 (T i k).2.2 = true) (e : q_u I (a + i) k v = I') (h1 : (T i k).1 ≤ v.toInt) (h2 : v.toInt ≤ (T i k).2.1) : RI R I' := by
  intro c j
  rw [← e]
  unfold q_u
  split
  · next hc => rw [hc.1, hc.2, ra.eq i hi k hz]; exact ⟨h1, h2⟩
  · exact h c j
theorem RI.up0 (h : RI R I) (ra : RAt T w R a) (hi : 0 < w) (hz : (T 0 k).2.2 = 0 ∨ R.2 (T 0 k).2.2 = true) (e : q_u I a k v = I') (h1 : (T 0 k).1 ≤ v.toInt) (h2 : v.toInt ≤ (T 0 k).2.1) : RI R I' := h.up ra 0 hi hz e h1 h2
theorem RI.row (h : RI R I) (ra : RAt T w R a) (i : Nat) (hi : i < w) (hz : ∀ k, (T i k).2.2 = 0) (hv : ∀ k, (T i k).1 ≤ v.toInt ∧ v.toInt ≤ (T i k).2.1) (ne : ∀ c, c ≠ a + i → I' c = I c) (eq : ∀ j, I' (a + i) j = v ∨ I' (a + i) j = I (a + i) j) : RI R I' := by
  intro c j
  by_cases hc : c = a + i
  · subst hc
    rcases eq j with e | e
    · rw [e, ra.eq i hi j (Or.inl (hz j))]; exact hv j
    · rw [e]; exact h _ j
  · rw [ne c hc]; exact h c j
theorem RI.copy {a0 a1 s d m : Nat} (h : RI R I) (hs : ∀ j k, (R.1 a1 k).1 ≤ (R.1 a0 j).1 ∧ (R.1 a0 j).2 ≤ (R.1 a1 k).2) (e : q_w I a1 (va_cpy (I a0) (I a1) s d m) = I') : RI R I' := by
  intro c j
  rw [← e]
  by_cases hc : c = a1
  · subst hc
    rw [q_w_at]
    show (R.1 c j).1 ≤ (if d ≤ j ∧ j < d + m then I a0 (s + (j - d)) else I c j).toInt ∧ (if d ≤ j ∧ j < d + m then I a0 (s + (j - d)) else I c j).toInt ≤ (R.1 c j).2
    split
    · have h1 := h a0 (s + (j - d))
      have h2 := hs (s + (j - d)) j
      exact ⟨Int.le_trans h2.1 h1.1, Int.le_trans h1.2 h2.2⟩
    · exact h c j
  · rw [q_w_ne hc]; exact h c j
theorem i_lo (x : Int32) : (-2147483648 : Int) ≤ x.toInt := Int32.le_toInt x
theorem i_hi (x : Int32) : x.toInt ≤ (2147483647 : Int) := by have := Int32.toInt_lt x; omega
theorem Fm.rf {M : Nat → Prop} : Fm M I I := fun _ _ => rfl
theorem Fm.set {M : Nat → Prop} {I0 : Nat → Nat → Int32} (h : Fm M I0 I) (hm : M a) (e : q_u I a k v = I') : Fm M I0 I' := fun c hc => by
  have hne : c ≠ a := fun q => hc (by rw [q]; exact hm)
  rw [← e, q_u_ne hne]
  exact h c hc
theorem Fm.call {M M' : Nat → Prop} {I0 : Nat → Nat → Int32} (h : Fm M I0 I) (h2 : Fm M' I I') (hs : ∀ c, M' c → M c) : Fm M I0 I' := fun c hc => (h2 c (fun q => hc (hs c q))).trans (h c hc)
end RI
/-- 0 or 1 -/
def Bz (r : Int32) : Prop := r = 0 ∨ r = 1
theorem Bz.rg {r : Int32} (h : Bz r) : 0 ≤ r.toInt ∧ r.toInt ≤ 1 := by rcases h with h | h <;> rw [h] <;> decide
/-- an implication that omega doesn't see -/
def Im (p q : Prop) : Prop := p → q
theorem sh_ne_a {sh : Nat → qC} {x y i : Nat} {t : FieldType × Nat} (h1 : sh x = .inr i) (h2 : sh y = .inl t) : x ≠ y := fun h => by rw [h, h2] at h1; cases h1
theorem sh_ne_o {sh : Nat → qC} {x y i j : Nat} (h1 : sh x = .inr i) (h2 : sh y = .inr j) (hij : i ≠ j) : x ≠ y := fun h => by rw [h, h2] at h1; cases h1; exact hij rfl
theorem iLt {x y : Int32} (h : x < y) : x.toInt < y.toInt := Int32.lt_iff_toInt_lt.mp h
theorem iNlt {x y : Int32} (h : ¬ x < y) : y.toInt ≤ x.toInt := Int.not_lt.mp (fun q => h (Int32.lt_iff_toInt_lt.mpr q))
theorem iLe {x y : Int32} (h : x ≤ y) : x.toInt ≤ y.toInt := Int32.le_iff_toInt_le.mp h
theorem iNle {x y : Int32} (h : ¬ x ≤ y) : y.toInt < x.toInt := Int.not_le.mp (fun q => h (Int32.le_iff_toInt_le.mpr q))
theorem iEq {x y : Int32} (h : x = y) : x.toInt = y.toInt := congrArg Int32.toInt h
theorem iNe {x y : Int32} (h : ¬ x = y) : x.toInt ≠ y.toInt := fun q => h (Int32.toInt_inj.mp q)
theorem iBm {z : Int} (h1 : (-2147483648 : Int) ≤ z) (h2 : z ≤ 2147483647) : z.bmod (2 ^ 32) = z := by
  rw [Int.bmod_def]
  have e : ((2 ^ 32 : Nat) : Int) = 4294967296 := by decide
  rw [e]
  split <;> omega
theorem tAdd {x y : Int32} (h1 : (-2147483648 : Int) ≤ x.toInt + y.toInt) (h2 : x.toInt + y.toInt ≤ 2147483647) : (x + y).toInt = x.toInt + y.toInt := by
  rw [Int32.toInt_add, iBm h1 h2]
theorem tSub {x y : Int32} (h1 : (-2147483648 : Int) ≤ x.toInt - y.toInt) (h2 : x.toInt - y.toInt ≤ 2147483647) : (x - y).toInt = x.toInt - y.toInt := by
  rw [Int32.toInt_sub, iBm h1 h2]
theorem tMul {x y : Int32} {c : Int} (hc : y.toInt = c) (h1 : (-2147483648 : Int) ≤ x.toInt * c) (h2 : x.toInt * c ≤ 2147483647) : (x * y).toInt = x.toInt * c := by
  rw [Int32.toInt_mul, hc, iBm h1 h2]
theorem tMulL {x y : Int32} {c : Int} (hc : x.toInt = c) (h1 : (-2147483648 : Int) ≤ c * y.toInt) (h2 : c * y.toInt ≤ 2147483647) : (x * y).toInt = c * y.toInt := by
  rw [Int32.toInt_mul, hc, iBm h1 h2]
theorem tDiv {x y : Int32} {c : Int} (hc : y.toInt = c) (h0 : 0 < c) (hx : 0 ≤ x.toInt) : (x / y).toInt = x.toInt / c := by
  have hx2 := i_hi x
  have h3 := Int.ediv_le_self c hx
  have h4 := Int.ediv_nonneg hx (Int.le_of_lt h0)
  rw [Int32.toInt_div, hc, Int.tdiv_eq_ediv_of_nonneg hx, iBm (by omega) (by omega)]
theorem tIn {x : Int32} {w : Nat} (h1 : 0 ≤ x.toInt) (h2 : x.toInt < (w : Int)) : vp_in x w := by
  intro h
  rcases h with h | h
  · have := iLt h
    have e : (0 : Int32).toInt = 0 := rfl
    omega
  · have e : ((x.toNatClampNeg : Nat) : Int) = x.toInt := by
      show ((x.toInt.toNat : Nat) : Int) = x.toInt
      omega
    omega
theorem tMax {x y z : Int32} (e : (if x < y then y else x) = z) : x.toInt ≤ z.toInt ∧ y.toInt ≤ z.toInt ∧ (z.toInt = x.toInt ∨ z.toInt = y.toInt) := by
  subst e
  split
  · next h => have := iLt h; omega
  · next h => have := iNlt h; omega
theorem tMin {x y z : Int32} (e : (if y < x then y else x) = z) : z.toInt ≤ x.toInt ∧ z.toInt ≤ y.toInt ∧ (z.toInt = x.toInt ∨ z.toInt = y.toInt) := by
  subst e
  split
  · next h => have := iLt h; omega
  · next h => have := iNlt h; omega
theorem tIc {x : Int32} {z : Int} (h1 : (-2147483648 : Int) ≤ x.toInt + z) (h2 : x.toInt + z ≤ 2147483647) (h3 : (-2147483648 : Int) ≤ z) (h4 : z ≤ 2147483647) : (x + Int32.ofInt z).toInt = x.toInt + z := by
  have e : (Int32.ofInt z).toInt = z := by rw [Int32.toInt_ofInt, iBm h3 h4]
  rw [Int32.toInt_add, e, iBm h1 h2]
theorem tCl {x : Int32} (h : 0 ≤ x.toInt) : ((x.toNatClampNeg : Nat) : Int) = x.toInt := by
  show ((x.toInt.toNat : Nat) : Int) = x.toInt
  omega
theorem tL0 {x : Int32} (h : x.toInt ≠ 0) : ¬ x.toInt64 = 0 := fun e => h (by
  have := congrArg Int64.toInt e
  rw [Int32.toInt_toInt64] at this
  exact this)
section YF
variable {D : va_G} {cA : FieldType → ClassId} {b : Nat} {E : State → Prop} {n : Nat} {sh : Nat → qC} {Rf : Nat → Nat → Option Nat} {I : Nat → Nat → Int32} {L : Nat → Nat → Int64} {post : Option Value → qS → Prop}
theorem y_fill_loop (hok : q_ok (qGG D cA b E)) {a w : Nat} {x : Int32} (h0 : ∀ I L, q_in (qGG D cA b E) (n, sh, Rf, I, L) a (.inl (.int, w))) (hw : w < 2 ^ 30) {J : Nat → Nat → Int32} (hp : ∀ I', (∀ c, c ≠ a → I' c = J c) → (∀ j, j < w → I' a j = x) → (∀ j, I' a j = x ∨ I' a j = J a j) → post none (n, sh, Rf, I', L)) : ∀ (m k : Nat) (I : Nat → Nat → Int32), k + m = w → (∀ c, c ≠ a → I c = J c) → (∀ j, j < k → I a j = x) → (∀ j, I a j = x ∨ I a j = J a j) → Ev (qGG D cA b E) mArrays_fill_53178 0 (0, 0) 5 [(0, .ref a), (1, .int x), (2, .int (nI k)), (3, .int (Int32.ofNat w))] [] (n, sh, Rf, I, L) post := by
  intro m
  induction m with
  | zero =>
    intro k I hk hJ hx hy
    have e : k = w := by omega
    subst e
    exact sArrays_fill_53178_5 n sh Rf I L post a x (nI k) (Int32.ofNat k) k hok (h0 I L) ⟨fun _ => hp I hJ hx hy, fun h => absurd (Int32.le_refl (nI k)) h⟩
  | succ m ih =>
    intro k I hk hJ hx hy
    refine sArrays_fill_53178_5 n sh Rf I L post a x (nI k) (Int32.ofNat w) w hok (h0 I L) ⟨fun h => absurd ((nI_leI (a := w) (b := k) (by omega) (by omega)).mp h) (by omega), fun _ => ⟨vp_in_nI (by omega) (by omega), fun I2 e2 => ?_⟩⟩
    rw [nI_clamp (by omega)] at e2
    rw [nI_inc]
    refine ih (k + 1) I2 (by omega) (fun c hc => ?_) (fun j hj => ?_) (fun j => ?_)
    · rw [← e2, q_u_ne hc]; exact hJ c hc
    · by_cases h : j = k
      · subst h; rw [← e2, q_u_at]
      · rw [← e2, q_u_k h]; exact hx j (by omega)
    · by_cases h : j = k
      · subst h; rw [← e2, q_u_at]; exact Or.inl rfl
      · rw [← e2, q_u_k h]; exact hy j
theorem y_fill (hok : q_ok (qGG D cA b E)) {a w : Nat} {x : Int32} (h0 : ∀ I L, q_in (qGG D cA b E) (n, sh, Rf, I, L) a (.inl (.int, w))) (hw : w < 2 ^ 30) (hp : ∀ I', (∀ c, c ≠ a → I' c = I c) → (∀ j, j < w → I' a j = x) → (∀ j, I' a j = x ∨ I' a j = I a j) → post none (n, sh, Rf, I', L)) : Ev (qGG D cA b E) mArrays_fill_53178 0 (0, 0) 0 (lv_args 0 [.ref a, .int x]) [] (n, sh, Rf, I, L) post :=
  sArrays_fill_53178_0 n sh Rf I L post a x w hok (h0 I L) (y_fill_loop (J := I) hok h0 hw hp w 0 I (by omega) (fun _ _ => rfl) (fun j hj => absurd hj (by omega)) (fun _ => Or.inr rfl))
end YF
def TTape : qTb := fun i k => match i with
  | 0 => (match k with | 6 => (0, 1600, 3) | 7 => (0, 5, 0) | 10 => (0, 1600, 0) | _ => (-2147483648, 2147483647, 0))
  | _ => (-2147483648, 2147483647, 0)
def TLand : qTb := fun i k => match i with
  | 0 => (match k with | 0 => (0, 24, 0) | 1 => (0, 3, 0) | 2 => (0, 3, 0) | 3 => (0, 5, 0) | 4 => (0, 11, 0) | _ => (-2147483648, 2147483647, 0))
  | _ => (-2147483648, 2147483647, 0)
def TReform : qTb := fun i k => match i with
  | 0 => (match k with | 4 => (0, 700, 0) | 6 => (0, 5, 0) | 7 => (0, 100, 0) | 8 => (-1, 10, 0) | _ => (-2147483648, 2147483647, 0))
  | 1 => (0, 2147483647, 0)
  | 2 => (0, 700, 0)
  | 3 => (0, 700, 0)
  | _ => (-2147483648, 2147483647, 0)
def TTrade : qTb := fun i k => match i with
  | 0 => (match k with | 1 => (0, 6, 2) | _ => (-2147483648, 2147483647, 0))
  | _ => (-2147483648, 2147483647, 0)
def TFacts : qTb := fun i k => match i with
  | 0 => (match k with | 6 => (0, 40, 0) | _ => (-2147483648, 2147483647, 0))
  | _ => (-2147483648, 2147483647, 0)
def TPapers : qTb := fun i k => match i with
  | 0 => (match k with | 12 => (0, 1440, 0) | 13 => (0, 1440, 0) | _ => (-2147483648, 2147483647, 0))
  | 1 => (-1, 5, 0)
  | 2 => (0, 2, 0)
  | 11 => (0, 1439, 0)
  | _ => (-2147483648, 2147483647, 0)
def TLoads : qTb := fun i k => match i with
  | 0 => (match k with | 8 => (0, 2880, 0) | 9 => (0, 2880, 0) | _ => (-2147483648, 2147483647, 0))
  | 2 => (-1, 5, 0)
  | _ => (-2147483648, 2147483647, 0)
def TRealm : qTb := fun i k => match i with
  | 0 => (match k with | _ => (-2147483648, 2147483647, 0))
  | _ => (-2147483648, 2147483647, 0)
def TRecords : qTb := fun i k => match i with
  | 0 => (match k with | _ => (-2147483648, 2147483647, 0))
  | _ => (-2147483648, 2147483647, 0)
def TWay : qTb := fun i k => match i with
  | 0 => (match k with | 0 => (0, 4, 0) | 1 => (-1, 2, 0) | 2 => (-1, 4, 0) | 6 => (-1, 2, 0) | _ => (-2147483648, 2147483647, 0))
  | _ => (-2147483648, 2147483647, 0)
abbrev RATape (R : qRg) (a : Nat) : Prop := RAt TTape 7 R a
abbrev RALand (R : qRg) (a : Nat) : Prop := RAt TLand 16 R a
abbrev RAReform (R : qRg) (a : Nat) : Prop := RAt TReform 5 R a
abbrev RATrade (R : qRg) (a : Nat) : Prop := RAt TTrade 2 R a
abbrev RAFacts (R : qRg) (a : Nat) : Prop := RAt TFacts 7 R a
abbrev RAPapers (R : qRg) (a : Nat) : Prop := RAt TPapers 13 R a
abbrev RALoads (R : qRg) (a : Nat) : Prop := RAt TLoads 9 R a
abbrev RARealm (R : qRg) (a : Nat) : Prop := RAt TRealm 7 R a
abbrev RARecords (R : qRg) (a : Nat) : Prop := RAt TRecords 5 R a
abbrev RAWay (R : qRg) (a : Nat) : Prop := RAt TWay 1 R a
def TRun : qTb := fun i k => match i with
  | 0 => (match k with | 16 => (0, 240, 0) | 17 => (0, 240, 0) | _ => (-2147483648, 2147483647, 0))
  | 1 => TLand 0 k
  | 2 => TLand 1 k
  | 3 => TLand 2 k
  | 4 => TLand 3 k
  | 5 => TLand 4 k
  | 6 => TLand 5 k
  | 7 => TLand 6 k
  | 8 => TLand 7 k
  | 9 => TLand 8 k
  | 10 => TLand 9 k
  | 11 => TLand 10 k
  | 12 => TLand 11 k
  | 13 => TLand 12 k
  | 14 => TLand 13 k
  | 15 => TLand 14 k
  | 16 => TLand 15 k
  | 17 => TTrade 0 k
  | 18 => TTrade 1 k
  | 19 => TReform 0 k
  | 20 => TReform 1 k
  | 21 => TReform 2 k
  | 22 => TReform 3 k
  | 23 => TReform 4 k
  | 24 => TRealm 0 k
  | 25 => TRealm 1 k
  | 26 => TRealm 2 k
  | 27 => TRealm 3 k
  | 28 => TRealm 4 k
  | 29 => TRealm 5 k
  | 30 => TRealm 6 k
  | 31 => TPapers 0 k
  | 32 => TPapers 1 k
  | 33 => TPapers 2 k
  | 34 => TPapers 3 k
  | 35 => TPapers 4 k
  | 36 => TPapers 5 k
  | 37 => TPapers 6 k
  | 38 => TPapers 7 k
  | 39 => TPapers 8 k
  | 40 => TPapers 9 k
  | 41 => TPapers 10 k
  | 42 => TPapers 11 k
  | 43 => TPapers 12 k
  | 44 => TLoads 0 k
  | 45 => TLoads 1 k
  | 46 => TLoads 2 k
  | 47 => TLoads 3 k
  | 48 => TLoads 4 k
  | 49 => TLoads 5 k
  | 50 => TLoads 6 k
  | 51 => TLoads 7 k
  | 52 => TLoads 8 k
  | 53 => TRecords 0 k
  | 54 => TRecords 1 k
  | 55 => TRecords 2 k
  | 56 => TRecords 3 k
  | 57 => TRecords 4 k
  | 58 => TWay 0 k
  | 64 => (-1, 5, 0)
  | _ => (-2147483648, 2147483647, 0)
abbrev RARun (R : qRg) (a : Nat) : Prop := RAt TRun 66 R a
theorem rsRun_2 {R : qRg} {a : Nat} (h : RARun R a) : RAReform R (a + 19) := fun i hi k => by
  rw [Nat.add_assoc]
  match i, hi with
  | 0, _ => exact h (19 + 0) (by decide) k
  | 1, _ => exact h (19 + 1) (by decide) k
  | 2, _ => exact h (19 + 2) (by decide) k
  | 3, _ => exact h (19 + 3) (by decide) k
  | 4, _ => exact h (19 + 4) (by decide) k
  | (i + 5), h => exact absurd h (by omega)
theorem rsRun_3 {R : qRg} {a : Nat} (h : RARun R a) : RARealm R (a + 24) := fun i hi k => by
  rw [Nat.add_assoc]
  match i, hi with
  | 0, _ => exact h (24 + 0) (by decide) k
  | 1, _ => exact h (24 + 1) (by decide) k
  | 2, _ => exact h (24 + 2) (by decide) k
  | 3, _ => exact h (24 + 3) (by decide) k
  | 4, _ => exact h (24 + 4) (by decide) k
  | 5, _ => exact h (24 + 5) (by decide) k
  | 6, _ => exact h (24 + 6) (by decide) k
  | (i + 7), h => exact absurd h (by omega)
theorem rsRun_4 {R : qRg} {a : Nat} (h : RARun R a) : RAPapers R (a + 31) := fun i hi k => by
  rw [Nat.add_assoc]
  match i, hi with
  | 0, _ => exact h (31 + 0) (by decide) k
  | 1, _ => exact h (31 + 1) (by decide) k
  | 2, _ => exact h (31 + 2) (by decide) k
  | 3, _ => exact h (31 + 3) (by decide) k
  | 4, _ => exact h (31 + 4) (by decide) k
  | 5, _ => exact h (31 + 5) (by decide) k
  | 6, _ => exact h (31 + 6) (by decide) k
  | 7, _ => exact h (31 + 7) (by decide) k
  | 8, _ => exact h (31 + 8) (by decide) k
  | 9, _ => exact h (31 + 9) (by decide) k
  | 10, _ => exact h (31 + 10) (by decide) k
  | 11, _ => exact h (31 + 11) (by decide) k
  | 12, _ => exact h (31 + 12) (by decide) k
  | (i + 13), h => exact absurd h (by omega)
theorem rsRun_5 {R : qRg} {a : Nat} (h : RARun R a) : RALoads R (a + 44) := fun i hi k => by
  rw [Nat.add_assoc]
  match i, hi with
  | 0, _ => exact h (44 + 0) (by decide) k
  | 1, _ => exact h (44 + 1) (by decide) k
  | 2, _ => exact h (44 + 2) (by decide) k
  | 3, _ => exact h (44 + 3) (by decide) k
  | 4, _ => exact h (44 + 4) (by decide) k
  | 5, _ => exact h (44 + 5) (by decide) k
  | 6, _ => exact h (44 + 6) (by decide) k
  | 7, _ => exact h (44 + 7) (by decide) k
  | 8, _ => exact h (44 + 8) (by decide) k
  | (i + 9), h => exact absurd h (by omega)
theorem rsRun_6 {R : qRg} {a : Nat} (h : RARun R a) : RARecords R (a + 53) := fun i hi k => by
  rw [Nat.add_assoc]
  match i, hi with
  | 0, _ => exact h (53 + 0) (by decide) k
  | 1, _ => exact h (53 + 1) (by decide) k
  | 2, _ => exact h (53 + 2) (by decide) k
  | 3, _ => exact h (53 + 3) (by decide) k
  | 4, _ => exact h (53 + 4) (by decide) k
  | (i + 5), h => exact absurd h (by omega)
theorem rsRun_7 {R : qRg} {a : Nat} (h : RARun R a) : RAWay R (a + 58) := fun i hi k => by
  rw [Nat.add_assoc]
  match i, hi with
  | 0, _ => exact h (58 + 0) (by decide) k
  | (i + 1), h => exact absurd h (by omega)
/-- the byte at i; a digit; a letter; the number of a P at i -/
def byF (B : Nat → Int32) (len i : Int32) : Int32 := if i < 0 then 0 else if len ≤ i then 0 else if i < 1600 then B i.toNatClampNeg else 0
def dgF (c : Int32) : Int32 := if c < 48 then 0 else if 57 < c then 0 else 1
def ltF (c : Int32) : Int32 := if c < 97 then 0 else if 122 < c then 0 else 1
def pfF (B : Nat → Int32) (len place behind : Int32) : Int32 := if dgF (byF B len behind) = 0 then (if ltF (byF B len behind) = 0 then (if place < 16 then place else -1) else -1) else -1
def plF (B : Nat → Int32) (len i : Int32) : Int32 := if byF B len i = 112 then (if dgF (byF B len (i + 1)) = 0 then -1 else if dgF (byF B len (i + 2)) = 0 then pfF B len (byF B len (i + 1) - 48) (i + 2) else pfF B len ((byF B len (i + 1) - 48) * 10 + byF B len (i + 2) - 48) (i + 2 + Int32.ofInt 1)) else -1
theorem dg_rg {c : Int32} (h : ¬ dgF c = 0) : 48 ≤ c.toInt ∧ c.toInt ≤ 57 := by
  unfold dgF at h
  have e48 : (48 : Int32).toInt = 48 := rfl
  have e57 : (57 : Int32).toInt = 57 := rfl
  split at h
  · exact absurd rfl h
  · next h1 =>
    split at h
    · exact absurd rfl h
    · next h2 => have := iNlt h1; have := iNlt h2; omega
theorem pf_rg {B : Nat → Int32} {len place behind : Int32} (h : 0 ≤ place.toInt) : -1 ≤ (pfF B len place behind).toInt ∧ (pfF B len place behind).toInt ≤ 15 := by
  unfold pfF
  have e16 : (16 : Int32).toInt = 16 := rfl
  have e1 : (-1 : Int32).toInt = -1 := rfl
  split
  · split
    · split
      · next h3 => have := iLt h3; omega
      · omega
    · omega
  · omega
theorem pl_rg (B : Nat → Int32) (len i : Int32) : -1 ≤ (plF B len i).toInt ∧ (plF B len i).toInt ≤ 15 := by
  unfold plF
  have e1 : (-1 : Int32).toInt = -1 := rfl
  have e48 : (48 : Int32).toInt = 48 := rfl
  split
  · split
    · omega
    · next h1 =>
      have r1 := dg_rg h1
      have s1 : (byF B len (i + 1) - 48).toInt = (byF B len (i + 1)).toInt - (48 : Int32).toInt := tSub (by omega) (by omega)
      split
      · exact pf_rg (by omega)
      · next h2 =>
        have r2 := dg_rg h2
        have s2 : ((byF B len (i + 1) - 48) * 10).toInt = (byF B len (i + 1) - 48).toInt * 10 := tMul rfl (by omega) (by omega)
        have s3 : ((byF B len (i + 1) - 48) * 10 + byF B len (i + 2)).toInt = ((byF B len (i + 1) - 48) * 10).toInt + (byF B len (i + 2)).toInt := tAdd (by omega) (by omega)
        have s4 : ((byF B len (i + 1) - 48) * 10 + byF B len (i + 2) - 48).toInt = ((byF B len (i + 1) - 48) * 10 + byF B len (i + 2)).toInt - (48 : Int32).toInt := tSub (by omega) (by omega)
        exact pf_rg (by omega)
  · omega
/-- d digits give x -/
def NumOK (d x : Int) : Prop := 0 ≤ d ∧ (d ≤ 0 → x = 0) ∧ (d ≤ 1 → 0 ≤ x ∧ x ≤ 9) ∧ (d ≤ 2 → 0 ≤ x ∧ x ≤ 99) ∧ (d ≤ 3 → 0 ≤ x ∧ x ≤ 999) ∧ (d ≤ 4 → 0 ≤ x ∧ x ≤ 9999)
theorem NumOK.step {d : Int} {x c : Int32} (h : NumOK d x.toInt) (hc : 48 ≤ c.toInt ∧ c.toInt ≤ 57) : NumOK (d + 1) (x * 10 + c - 48).toInt := by
  unfold NumOK at h ⊢
  have e48 : (48 : Int32).toInt = 48 := rfl
  by_cases hd : d ≤ 3
  · have s2 : (x * 10).toInt = x.toInt * 10 := tMul rfl (by omega) (by omega)
    have s3 : (x * 10 + c).toInt = (x * 10).toInt + c.toInt := tAdd (by omega) (by omega)
    have s4 : (x * 10 + c - 48).toInt = (x * 10 + c).toInt - (48 : Int32).toInt := tSub (by omega) (by omega)
    omega
  · omega
/-- what a WAY that was chosen has -/
def WyOK (I : Nat → Nat → Int32) (w : Nat) : Prop := ((I w 0).toInt = 1 → 0 ≤ (I w 1).toInt ∧ 0 ≤ (I w 2).toInt) ∧ ((I w 0).toInt = 2 → 0 ≤ (I w 1).toInt) ∧ ((I w 0).toInt = 3 → 0 ≤ (I w 1).toInt) ∧ ((I w 0).toInt ≠ 0 → 0 ≤ (I w 6).toInt)
theorem WyOK.fr {I I' : Nat → Nat → Int32} {w : Nat} (h : WyOK I w) (e0 : I' w 0 = I w 0) (e1 : I' w 1 = I w 1) (e2 : I' w 2 = I w 2) (e6 : I' w 6 = I w 6) : WyOK I' w := by unfold WyOK; rw [e0, e1, e2, e6]; exact h
def LodAt (I : Nat → Nat → Int32) (l j : Nat) : Prop := ((I (l + 1) j).toInt = 0 → 0 ≤ (I (l + 3) j).toInt ∧ (I (l + 3) j).toInt ≤ 2 ∧ 0 ≤ (I (l + 7) j).toInt ∧ (I (l + 7) j).toInt ≤ 2) ∧ ((I (l + 1) j).toInt ≠ 0 → 0 ≤ (I (l + 3) j).toInt ∧ (I (l + 3) j).toInt ≤ 4)
/-- what a LOAD's goal and PAN lie in -/
def LodOK (I : Nat → Nat → Int32) (l : Nat) : Prop := ∀ j : Nat, (j : Int) < (I l 9).toInt → LodAt I l j
def LodPn (I : Nat → Nat → Int32) (l : Nat) : Prop := ∀ k : Nat, (k : Int) = (I l 9).toInt → 0 ≤ (I (l + 7) k).toInt ∧ (I (l + 7) k).toInt ≤ 2
def FacAt (I : Nat → Nat → Int32) (l j : Nat) : Prop := (I (l + 1) j).toInt = 2 → 0 ≤ (I (l + 2) j).toInt ∧ (I (l + 2) j).toInt ≤ 5 ∧ -1 ≤ (I (l + 4) j).toInt ∧ (I (l + 4) j).toInt ≤ 5
/-- what a FACT of a death speaks of -/
def FacOK (I : Nat → Nat → Int32) (l : Nat) : Prop := ∀ j : Nat, (j : Int) < (I l 6).toInt → FacAt I l j
section PO
variable {I I' : Nat → Nat → Int32} {l k : Nat} {v : Int32}
theorem LodOK.fr (h : LodOK I l) (e1 : I' (l + 1) = I (l + 1)) (e3 : I' (l + 3) = I (l + 3)) (e7 : I' (l + 7) = I (l + 7)) (e9 : I' l 9 = I l 9) : LodOK I' l := fun j hj => by unfold LodAt; rw [e1, e3, e7]; rw [e9] at hj; exact h j hj
theorem FacOK.fr (h : FacOK I l) (e1 : I' (l + 1) = I (l + 1)) (e3 : I' (l + 2) = I (l + 2)) (e7 : I' (l + 4) = I (l + 4)) (e9 : I' l 6 = I l 6) : FacOK I' l := fun j hj => by unfold FacAt; rw [e1, e3, e7]; rw [e9] at hj; exact h j hj
theorem LodOK.put {r : Nat} (hr : r = 1 ∨ r = 3 ∨ r = 7) (h : LodOK I l) (e : q_u I (l + r) k v = I') (hk : (I l 9).toInt ≤ (k : Int)) : LodOK I' l := fun j hj => by
  have e9 : I' l 9 = I l 9 := by rw [← e, q_u_ne (by omega)]
  rw [e9] at hj
  have hjk : j ≠ k := by omega
  have q : ∀ s, I' (l + s) j = I (l + s) j := fun s => by rw [← e, q_u_k hjk]
  unfold LodAt
  rw [q 1, q 3, q 7]
  exact h j hj
theorem LodOK.put1 (h : LodOK I l) (e : q_u I (l + 1) k v = I') (hk : (I l 9).toInt ≤ (k : Int)) : LodOK I' l := h.put (Or.inl rfl) e hk
theorem LodOK.put3 (h : LodOK I l) (e : q_u I (l + 3) k v = I') (hk : (I l 9).toInt ≤ (k : Int)) : LodOK I' l := h.put (Or.inr (Or.inl rfl)) e hk
theorem LodOK.put7 (h : LodOK I l) (e : q_u I (l + 7) k v = I') (hk : (I l 9).toInt ≤ (k : Int)) : LodOK I' l := h.put (Or.inr (Or.inr rfl)) e hk
theorem FacOK.put {r : Nat} (hr : r = 1 ∨ r = 2 ∨ r = 4) (h : FacOK I l) (e : q_u I (l + r) k v = I') (hk : (I l 6).toInt ≤ (k : Int)) : FacOK I' l := fun j hj => by
  have e9 : I' l 6 = I l 6 := by rw [← e, q_u_ne (by omega)]
  rw [e9] at hj
  have hjk : j ≠ k := by omega
  have q : ∀ s, I' (l + s) j = I (l + s) j := fun s => by rw [← e, q_u_k hjk]
  unfold FacAt
  rw [q 1, q 2, q 4]
  exact h j hj
theorem FacOK.put1 (h : FacOK I l) (e : q_u I (l + 1) k v = I') (hk : (I l 6).toInt ≤ (k : Int)) : FacOK I' l := h.put (Or.inl rfl) e hk
theorem FacOK.put2 (h : FacOK I l) (e : q_u I (l + 2) k v = I') (hk : (I l 6).toInt ≤ (k : Int)) : FacOK I' l := h.put (Or.inr (Or.inl rfl)) e hk
theorem FacOK.put4 (h : FacOK I l) (e : q_u I (l + 4) k v = I') (hk : (I l 6).toInt ≤ (k : Int)) : FacOK I' l := h.put (Or.inr (Or.inr rfl)) e hk
theorem LodOK.inc {k1 k3 : Nat} {p1 p3 : Int32} (h : LodOK I l) (e : q_u I l 9 v = I') (hv : v.toInt = (I l 9).toInt + 1) (c1 : I (l + 1) k1 = p1) (c3 : I (l + 3) k3 = p3) (h1 : (k1 : Int) = (I l 9).toInt) (h3 : (k3 : Int) = (I l 9).toInt) (hA : Im (p1.toInt = 0) (LodPn I l ∧ 0 ≤ p3.toInt ∧ p3.toInt ≤ 2)) (hB : Im (p1.toInt ≠ 0) (0 ≤ p3.toInt ∧ p3.toInt ≤ 4)) : LodOK I' l := fun j hj => by
  have q : ∀ s, 0 < s → I' (l + s) = I (l + s) := fun s hs => by rw [← e, q_u_ne (by omega)]
  have e9 : (I' l 9).toInt = (I l 9).toInt + 1 := by rw [← e, q_u_at]; exact hv
  unfold LodAt
  rw [q 1 (by decide), q 3 (by decide), q 7 (by decide)]
  by_cases hlt : (j : Int) < (I l 9).toInt
  · exact h j hlt
  · have ej : j = k1 := by omega
    have ej3 : k1 = k3 := by omega
    subst ej
    subst ej3
    rw [c1, c3]
    exact ⟨fun z => ⟨(hA z).2.1, (hA z).2.2, (hA z).1 j h1⟩, hB⟩
theorem FacOK.inc {k1 k2 k4 : Nat} {p1 p2 p4 : Int32} (h : FacOK I l) (e : q_u I l 6 v = I') (hv : v.toInt = (I l 6).toInt + 1) (c1 : I (l + 1) k1 = p1) (c2 : I (l + 2) k2 = p2) (c4 : I (l + 4) k4 = p4) (h1 : (k1 : Int) = (I l 6).toInt) (h2 : (k2 : Int) = (I l 6).toInt) (h4 : (k4 : Int) = (I l 6).toInt) (hA : Im (p1.toInt = 2) (0 ≤ p2.toInt ∧ p2.toInt ≤ 5 ∧ -1 ≤ p4.toInt ∧ p4.toInt ≤ 5)) : FacOK I' l := fun j hj => by
  have q : ∀ s, 0 < s → I' (l + s) = I (l + s) := fun s hs => by rw [← e, q_u_ne (by omega)]
  have e9 : (I' l 6).toInt = (I l 6).toInt + 1 := by rw [← e, q_u_at]; exact hv
  unfold FacAt
  rw [q 1 (by decide), q 2 (by decide), q 4 (by decide)]
  by_cases hlt : (j : Int) < (I l 6).toInt
  · exact h j hlt
  · have ej : j = k1 := by omega
    have ej2 : k1 = k2 := by omega
    have ej4 : k1 = k4 := by omega
    subst ej
    subst ej2
    subst ej4
    rw [c1, c2, c4]
    exact hA
end PO
/-- what a TOKEN's value lies in, by its kind -/
theorem NumOK.step' {d d' : Int} {x c : Int32} (h : NumOK d x.toInt) (hd : d' = d + 1) (h1 : 48 ≤ c.toInt) (h2 : c.toInt ≤ 57) : NumOK d' (x * 10 + c - 48).toInt := by
  subst hd
  exact h.step ⟨h1, h2⟩
theorem NumOK.zero : NumOK 0 (0 : Int32).toInt := by unfold NumOK; have : (0 : Int32).toInt = 0 := rfl; omega
def TokAt (I : Nat → Nat → Int32) (t j : Nat) : Prop := ((I (t + 3) j).toInt = 2 → 0 ≤ (I (t + 5) j).toInt ∧ (I (t + 5) j).toInt ≤ 9999) ∧ ((I (t + 3) j).toInt = 3 → 0 ≤ (I (t + 5) j).toInt ∧ (I (t + 5) j).toInt ≤ 15)
/-- all TOKENS but one -/
def TokX (I : Nat → Nat → Int32) (t k : Nat) : Prop := ∀ j, j ≠ k → TokAt I t j
def TokOK (I : Nat → Nat → Int32) (t : Nat) : Prop := ∀ j, ((I (t + 3) j).toInt = 2 → 0 ≤ (I (t + 5) j).toInt ∧ (I (t + 5) j).toInt ≤ 9999) ∧ ((I (t + 3) j).toInt = 3 → 0 ≤ (I (t + 5) j).toInt ∧ (I (t + 5) j).toInt ≤ 15)
theorem TokOK.fr {I I' : Nat → Nat → Int32} {t : Nat} (h : TokOK I t) (e3 : I' (t + 3) = I (t + 3)) (e5 : I' (t + 5) = I (t + 5)) : TokOK I' t := fun j => by rw [e3, e5]; exact h j
theorem TokX.fr {I I' : Nat → Nat → Int32} {t k : Nat} (h : TokX I t k) (e3 : I' (t + 3) = I (t + 3)) (e5 : I' (t + 5) = I (t + 5)) : TokX I' t k := fun j hj => by unfold TokAt; rw [e3, e5]; exact h j hj
theorem TokX.put3 {I I' : Nat → Nat → Int32} {t k k' : Nat} {v : Int32} (h : TokX I t k) (e : q_u I (t + 3) k' v = I') (hk : k' = k) : TokX I' t k := fun j hj => by
  subst hk
  have q : ∀ s, I' (t + s) j = I (t + s) j := fun s => by rw [← e, q_u_k hj]
  unfold TokAt
  rw [q 3, q 5]
  exact h j hj
theorem TokX.put5 {I I' : Nat → Nat → Int32} {t k k' : Nat} {v : Int32} (h : TokX I t k) (e : q_u I (t + 5) k' v = I') (hk : k' = k) : TokX I' t k := fun j hj => by
  subst hk
  have q : ∀ s, I' (t + s) j = I (t + s) j := fun s => by rw [← e, q_u_k hj]
  unfold TokAt
  rw [q 3, q 5]
  exact h j hj
theorem TokX.all {I : Nat → Nat → Int32} {t k : Nat} (h : TokX I t k) (hk : TokAt I t k) : TokOK I t := fun j => by
  by_cases hj : j = k
  · subst hj; exact hk
  · exact h j hj
theorem TokOK.but {I : Nat → Nat → Int32} {t : Nat} (h : TokOK I t) (k : Nat) : TokX I t k := fun j _ => h j
