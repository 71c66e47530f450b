/-! The lines fort and town, in both. By program (lines.py). -/
section LL
variable {pl : Bool} {B : Nat → Int} {N T o m l b : Nat} {J J2 J3 : gJ} {L L2 L3 : gL} {I I2 I3 : gJ} {K K2 K3 : gL}
/-- a bound word whose value is known -/
theorem gB3t {α β γ δ : Type} {x : α × β × γ} {a : α} {b : β} {c : γ} {f : α → β → γ → δ} (h : x = (a, b, c)) : gB3 x f = f a b c := by subst h; exact gB3p _ _
theorem gLt {α β : Type} {x y : α} {f : α → β} (h : x = y) : gLet x f = f y := by subst h; exact gLetp _ _
/-- an implication that omega doesn't see -/
def ImX (p q : Prop) : Prop := True ∧ (p → q)
theorem imI {p q : Prop} (h : p → q) : ImX p q := ⟨trivial, h⟩
theorem lne {a i j : Nat} (h : i ≠ j) : a + i ≠ a + j := by omega
theorem lne0 {a j : Nat} (h : 0 < j) : a ≠ a + j := by omega
theorem lne1 {a j : Nat} (h : 0 < j) : a + j ≠ a := by omega
theorem lneA {a i j : Nat} {P : Prop} (h : i ≠ j) : ¬ (a + i = a + j ∧ P) := fun z => lne h z.1
theorem lneA0 {a j : Nat} {P : Prop} (h : 0 < j) : ¬ (a = a + j ∧ P) := fun z => lne0 h z.1
theorem osep {i : Nat} (h : l + 16 ≤ o ∨ o + 7 ≤ l) (hi : i < 16) : o ≠ l + i := by omega
theorem osep0 (h : l + 16 ≤ o ∨ o + 7 ≤ l) : o ≠ l := by omega
theorem osepA {i : Nat} {P : Prop} (h : l + 16 ≤ o ∨ o + 7 ≤ l) (hi : i < 16) : ¬ (o = l + i ∧ P) := fun z => osep h hi z.1
theorem sepx {i : Nat} {P : Prop} (h : l + 16 ≤ o ∨ o + 7 ≤ l) (hi : i < 16) : ¬ (l + i = o ∧ P) := fun z => osep h hi z.1.symm
theorem sepx0 {P : Prop} (h : l + 16 ≤ o ∨ o + 7 ≤ l) : ¬ (l = o ∧ P) := fun z => osep0 h z.1.symm
theorem mpx {a i : Nat} {P : Prop} (h : 0 < i) : ¬ (a + i = a ∧ P) := fun z => lne1 h z.1
theorem nP {P Q : Prop} (h : ¬ P) : ¬ (Q ∧ P) := fun z => h z.2
theorem nQ {x a : Nat} {P : Prop} (h : x ≠ a) : ¬ (x = a ∧ P) := fun z => h z.1
theorem rsep {r i : Nat} (h : l + 16 ≤ o ∨ o + 7 ≤ l) (h1 : o < r) (h2 : r ≤ o + 6) (hi : i < 16) : r ≠ l + i := by omega
theorem rsep0 {r : Nat} (h : l + 16 ≤ o ∨ o + 7 ≤ l) (h1 : o < r) (h2 : r ≤ o + 6) : r ≠ l := by omega
theorem offl {r : Nat} {P : Prop} (h : ¬ (l ≤ r ∧ r < l + 16)) : ¬ (r = l ∧ P) := fun z => h (by omega)
theorem offm {r y i : Nat} (h : ¬ (m + 6 ≤ r ∧ r < m + 25 ∧ (r ≠ m + 8 ∨ y = b))) (h1 : 6 ≤ i) (h2 : i < 25) : ¬ (r = m + i ∧ y = b) := fun z => h (by omega)
theorem m6n {P : Prop} : ¬ (m + 6 ≤ m ∧ P) := fun z => by omega
theorem ix3 (x y : Nat) : 3 * (x : Int) + (y : Int) = ((3 * x + y : Nat) : Int) := by omega
theorem ix5 (x y : Nat) : 5 * (x : Int) + (y : Int) = ((5 * x + y : Nat) : Int) := by omega
theorem le2 {x y z : Int} (h1 : x + 1 ≤ y) (h2 : y + 1 ≤ z) : x + 2 ≤ z := by omega
theorem refuse_fr (w : Int) (r y : Nat) (h : ¬ (r = o ∧ (y = 7 ∨ y = 8 ∨ y = 10))) : (gTape_refuse_0 o J L w).2.1 r y = J r y := by
  unfold gTape_refuse_0 gTape_refuse_26
  simp only [gLetp]
  repeat' split
  all_goals first | rfl | (dsimp only; rw [q_u_off (by omega), q_u_off (by omega)])
theorem step_fr (r y : Nat) (h : ¬ (r = o ∧ (y = 7 ∨ y = 8 ∨ y = 10))) : (gTape_step_0 o J L).2.1 r y = J r y := by
  unfold gTape_step_0
  simp only [gLetp]
  repeat' split
  all_goals first | rfl | (dsimp only; rw [q_u_off (by omega)])
theorem passIf_fr (w : Int) (r y : Nat) (h : ¬ (r = o ∧ (y = 7 ∨ y = 8 ∨ y = 10))) : (gTape_passIf_0 o J L w).2.1 r y = J r y := by
  unfold gTape_passIf_0
  simp only [gB3p]
  split
  · exact refuse_fr 2 r y h
  · exact step_fr r y h
theorem closeLine_fr (r y : Nat) (h : ¬ (r = o ∧ (y = 7 ∨ y = 8 ∨ y = 10))) : (gTape_closeLine_0 o J L).2.1 r y = J r y := by
  unfold gTape_closeLine_0
  simp only [gLetp, gB3p]
  split
  · exact passIf_fr _ r y h
  · exact passIf_fr _ r y h
theorem NmR.addFort {nf np nt : Nat} {w0 : List Nat} (h : NmR l m b (nf + np + nt) nf np nt L K) (hw : ltrs w0) (e1 : ∀ i, i < nf + np + nt → L2 (l + 1) i = L (l + 1) i) (e2 : L2 (l + 1) (nf + np + nt) = c32 w0) (k3 : ∀ f, f < nf → K2 (m + 3) (3 * b + f) = K (m + 3) (3 * b + f)) (k4 : ∀ f, f < np → K2 (m + 4) (3 * b + f) = K (m + 4) (3 * b + f)) (k5 : ∀ f, f < nt → K2 (m + 5) (5 * b + f) = K (m + 5) (5 * b + f)) (kn : K2 (m + 3) (3 * b + nf) = c256 w0) : NmR l m b ((nf + 1) + np + nt) (nf + 1) np nt L2 K2 := by
  intro w hl
  have e := h w hl
  have cl : (∃ i, i < (nf + 1) + np + nt ∧ L2 (l + 1) i = c32 w) ↔ ((∃ i, i < nf + np + nt ∧ L (l + 1) i = c32 w) ∨ w0 = w) := by
    constructor
    · rintro ⟨i, h1, h2⟩
      by_cases z : i = nf + np + nt
      · rw [z, e2] at h2
        exact Or.inr ((c32_inj hw hl).mp h2)
      · exact Or.inl ⟨i, by omega, by rw [← e1 i (by omega)]; exact h2⟩
    · rintro (⟨i, h1, h2⟩ | h2)
      · exact ⟨i, by omega, by rw [e1 i h1]; exact h2⟩
      · exact ⟨nf + np + nt, by omega, by rw [e2, h2]⟩
  have cm : mTold m b (nf + 1) np nt K2 (c256 w) ↔ (mTold m b nf np nt K (c256 w) ∨ w0 = w) := by
    unfold mTold
    constructor
    · rintro (⟨f, h1, h2⟩ | ⟨f, h1, h2⟩ | ⟨f, h1, h2⟩)
      · by_cases z : f = nf
        · rw [z, kn] at h2
          exact Or.inr ((c256_inj hw hl).mp h2)
        · exact Or.inl (Or.inl ⟨f, by omega, by rw [← k3 f (by omega)]; exact h2⟩)
      · exact Or.inl (Or.inr (Or.inl ⟨f, h1, by rw [← k4 f h1]; exact h2⟩))
      · exact Or.inl (Or.inr (Or.inr ⟨f, h1, by rw [← k5 f h1]; exact h2⟩))
    · rintro ((⟨f, h1, h2⟩ | ⟨f, h1, h2⟩ | ⟨f, h1, h2⟩) | h2)
      · exact Or.inl ⟨f, by omega, by rw [k3 f h1]; exact h2⟩
      · exact Or.inr (Or.inl ⟨f, by omega, by rw [k4 f h1]; exact h2⟩)
      · exact Or.inr (Or.inr ⟨f, by omega, by rw [k5 f h1]; exact h2⟩)
      · exact Or.inl ⟨nf, by omega, by rw [kn, h2]⟩
  rw [cl, cm, e]
theorem NmR.addPan {nf np nt : Nat} {w0 : List Nat} (h : NmR l m b (nf + np + nt) nf np nt L K) (hw : ltrs w0) (e1 : ∀ i, i < nf + np + nt → L2 (l + 1) i = L (l + 1) i) (e2 : L2 (l + 1) (nf + np + nt) = c32 w0) (k3 : ∀ f, f < nf → K2 (m + 3) (3 * b + f) = K (m + 3) (3 * b + f)) (k4 : ∀ f, f < np → K2 (m + 4) (3 * b + f) = K (m + 4) (3 * b + f)) (k5 : ∀ f, f < nt → K2 (m + 5) (5 * b + f) = K (m + 5) (5 * b + f)) (kn : K2 (m + 4) (3 * b + np) = c256 w0) : NmR l m b (nf + (np + 1) + nt) nf (np + 1) nt L2 K2 := by
  intro w hl
  have e := h w hl
  have cl : (∃ i, i < nf + (np + 1) + nt ∧ L2 (l + 1) i = c32 w) ↔ ((∃ i, i < nf + np + nt ∧ L (l + 1) i = c32 w) ∨ w0 = w) := by
    constructor
    · rintro ⟨i, h1, h2⟩
      by_cases z : i = nf + np + nt
      · rw [z, e2] at h2
        exact Or.inr ((c32_inj hw hl).mp h2)
      · exact Or.inl ⟨i, by omega, by rw [← e1 i (by omega)]; exact h2⟩
    · rintro (⟨i, h1, h2⟩ | h2)
      · exact ⟨i, by omega, by rw [e1 i h1]; exact h2⟩
      · exact ⟨nf + np + nt, by omega, by rw [e2, h2]⟩
  have cm : mTold m b nf (np + 1) nt K2 (c256 w) ↔ (mTold m b nf np nt K (c256 w) ∨ w0 = w) := by
    unfold mTold
    constructor
    · rintro (⟨f, h1, h2⟩ | ⟨f, h1, h2⟩ | ⟨f, h1, h2⟩)
      · exact Or.inl (Or.inl ⟨f, h1, by rw [← k3 f h1]; exact h2⟩)
      · by_cases z : f = np
        · rw [z, kn] at h2
          exact Or.inr ((c256_inj hw hl).mp h2)
        · exact Or.inl (Or.inr (Or.inl ⟨f, by omega, by rw [← k4 f (by omega)]; exact h2⟩))
      · exact Or.inl (Or.inr (Or.inr ⟨f, h1, by rw [← k5 f h1]; exact h2⟩))
    · rintro ((⟨f, h1, h2⟩ | ⟨f, h1, h2⟩ | ⟨f, h1, h2⟩) | h2)
      · exact Or.inl ⟨f, by omega, by rw [k3 f h1]; exact h2⟩
      · exact Or.inr (Or.inl ⟨f, by omega, by rw [k4 f h1]; exact h2⟩)
      · exact Or.inr (Or.inr ⟨f, by omega, by rw [k5 f h1]; exact h2⟩)
      · exact Or.inr (Or.inl ⟨np, by omega, by rw [kn, h2]⟩)
  rw [cl, cm, e]
theorem NmR.addTown {nf np nt : Nat} {w0 : List Nat} (h : NmR l m b (nf + np + nt) nf np nt L K) (hw : ltrs w0) (e1 : ∀ i, i < nf + np + nt → L2 (l + 1) i = L (l + 1) i) (e2 : L2 (l + 1) (nf + np + nt) = c32 w0) (k3 : ∀ f, f < nf → K2 (m + 3) (3 * b + f) = K (m + 3) (3 * b + f)) (k4 : ∀ f, f < np → K2 (m + 4) (3 * b + f) = K (m + 4) (3 * b + f)) (k5 : ∀ f, f < nt → K2 (m + 5) (5 * b + f) = K (m + 5) (5 * b + f)) (kn : K2 (m + 5) (5 * b + nt) = c256 w0) : NmR l m b (nf + np + (nt + 1)) nf np (nt + 1) L2 K2 := by
  intro w hl
  have e := h w hl
  have cl : (∃ i, i < nf + np + (nt + 1) ∧ L2 (l + 1) i = c32 w) ↔ ((∃ i, i < nf + np + nt ∧ L (l + 1) i = c32 w) ∨ w0 = w) := by
    constructor
    · rintro ⟨i, h1, h2⟩
      by_cases z : i = nf + np + nt
      · rw [z, e2] at h2
        exact Or.inr ((c32_inj hw hl).mp h2)
      · exact Or.inl ⟨i, by omega, by rw [← e1 i (by omega)]; exact h2⟩
    · rintro (⟨i, h1, h2⟩ | h2)
      · exact ⟨i, by omega, by rw [e1 i h1]; exact h2⟩
      · exact ⟨nf + np + nt, by omega, by rw [e2, h2]⟩
  have cm : mTold m b nf np (nt + 1) K2 (c256 w) ↔ (mTold m b nf np nt K (c256 w) ∨ w0 = w) := by
    unfold mTold
    constructor
    · rintro (⟨f, h1, h2⟩ | ⟨f, h1, h2⟩ | ⟨f, h1, h2⟩)
      · exact Or.inl (Or.inl ⟨f, h1, by rw [← k3 f h1]; exact h2⟩)
      · exact Or.inl (Or.inr (Or.inl ⟨f, h1, by rw [← k4 f h1]; exact h2⟩))
      · by_cases z : f = nt
        · rw [z, kn] at h2
          exact Or.inr ((c256_inj hw hl).mp h2)
        · exact Or.inl (Or.inr (Or.inr ⟨f, by omega, by rw [← k5 f (by omega)]; exact h2⟩))
    · rintro ((⟨f, h1, h2⟩ | ⟨f, h1, h2⟩ | ⟨f, h1, h2⟩) | h2)
      · exact Or.inl ⟨f, by omega, by rw [k3 f h1]; exact h2⟩
      · exact Or.inr (Or.inl ⟨f, by omega, by rw [k4 f h1]; exact h2⟩)
      · exact Or.inr (Or.inr ⟨f, by omega, by rw [k5 f h1]; exact h2⟩)
      · exact Or.inr (Or.inr ⟨nt, by omega, by rw [kn, h2]⟩)
  rw [cl, cm, e]
end LL
