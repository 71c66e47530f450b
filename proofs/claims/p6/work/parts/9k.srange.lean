/-! new SaltOffice(), and what all its ints lie in: by program (fresh.py). -/
/-- every int of w cells lies in a table -/
def InT (T : qTb) (w : Nat) (I : Nat → Nat → Int32) (a : Nat) : Prop := ∀ i, i < w → ∀ k, (T i k).1 ≤ (I (a + i) k).toInt ∧ (I (a + i) k).toInt ≤ (T i k).2.1
theorem InT.zero {T : qTb} {w : Nat} {I : Nat → Nat → Int32} {a : Nat} {F : Nat → Int32} (h0 : I a = F) (hF : ∀ k, (T 0 k).1 ≤ (F k).toInt ∧ (F k).toInt ≤ (T 0 k).2.1) (hz : ∀ i k, (T i k).1 ≤ 0 ∧ 0 ≤ (T i k).2.1) (h : ∀ i, i < w → I (a + (i + 1)) = fun _ => 0) : InT T (w + 1) I a := by
  intro i hi k
  match i, hi with
  | 0, _ => show _ ≤ (I a k).toInt ∧ (I a k).toInt ≤ _; rw [h0]; exact hF k
  | (i + 1), hi => rw [h i (by omega)]; exact hz (i + 1) k
theorem InT.up {T : qTb} {w : Nat} {I I' : Nat → Nat → Int32} {a : Nat} (h : InT T w I a) (e : ∀ c, a ≤ c → c < a + w → I' c = I c) : InT T w I' a := fun i hi k => by rw [e (a + i) (by omega) (by omega)]; exact h i hi k
theorem fzReform : ∀ i k, (TReform i k).1 ≤ 0 ∧ 0 ≤ (TReform i k).2.1 := by
  intro i k
  unfold TReform
  repeat' split
  all_goals decide
theorem fzTrade : ∀ i k, (TTrade i k).1 ≤ 0 ∧ 0 ≤ (TTrade i k).2.1 := by
  intro i k
  unfold TTrade
  repeat' split
  all_goals decide
theorem fzFacts : ∀ i k, (TFacts i k).1 ≤ 0 ∧ 0 ≤ (TFacts i k).2.1 := by
  intro i k
  unfold TFacts
  repeat' split
  all_goals decide
theorem fzPapers : ∀ i k, (TPapers i k).1 ≤ 0 ∧ 0 ≤ (TPapers i k).2.1 := by
  intro i k
  unfold TPapers
  repeat' split
  all_goals decide
theorem fzLoads : ∀ i k, (TLoads i k).1 ≤ 0 ∧ 0 ≤ (TLoads i k).2.1 := by
  intro i k
  unfold TLoads
  repeat' split
  all_goals decide
theorem fzWay : ∀ i k, (TWay i k).1 ≤ 0 ∧ 0 ≤ (TWay i k).2.1 := by
  intro i k
  unfold TWay
  repeat' split
  all_goals decide
theorem f0Tape : ∀ k, (TTape 0 k).1 ≤ (iFTape k).toInt ∧ (iFTape k).toInt ≤ (TTape 0 k).2.1 := by
  intro k
  simp only [TTape]
  split
  all_goals first | exact ⟨i_lo _, i_hi _⟩ | decide
theorem f0Reform : ∀ k, (TReform 0 k).1 ≤ (iFReform k).toInt ∧ (iFReform k).toInt ≤ (TReform 0 k).2.1 := by
  intro k
  simp only [TReform]
  split
  all_goals first | exact ⟨i_lo _, i_hi _⟩ | decide
theorem f0Trade : ∀ k, (TTrade 0 k).1 ≤ (iFTrade k).toInt ∧ (iFTrade k).toInt ≤ (TTrade 0 k).2.1 := by
  intro k
  simp only [TTrade]
  split
  all_goals first | exact ⟨i_lo _, i_hi _⟩ | decide
theorem f0Facts : ∀ k, (TFacts 0 k).1 ≤ (iFFacts k).toInt ∧ (iFFacts k).toInt ≤ (TFacts 0 k).2.1 := by
  intro k
  simp only [TFacts]
  split
  all_goals first | exact ⟨i_lo _, i_hi _⟩ | decide
theorem f0Papers : ∀ k, (TPapers 0 k).1 ≤ (iFPapers k).toInt ∧ (iFPapers k).toInt ≤ (TPapers 0 k).2.1 := by
  intro k
  simp only [TPapers]
  split
  all_goals first | exact ⟨i_lo _, i_hi _⟩ | decide
theorem f0Loads : ∀ k, (TLoads 0 k).1 ≤ (iFLoads k).toInt ∧ (iFLoads k).toInt ≤ (TLoads 0 k).2.1 := by
  intro k
  simp only [TLoads]
  split
  all_goals first | exact ⟨i_lo _, i_hi _⟩ | decide
theorem f0Way : ∀ k, (TWay 0 k).1 ≤ (iFWay k).toInt ∧ (iFWay k).toInt ≤ (TWay 0 k).2.1 := by
  intro k
  simp only [TWay]
  split
  all_goals first | exact ⟨i_lo _, i_hi _⟩ | decide
theorem f0Run : ∀ k, (TRun 0 k).1 ≤ (iFRun k).toInt ∧ (iFRun k).toInt ≤ (TRun 0 k).2.1 := by
  intro k
  simp only [TRun]
  split
  all_goals first | exact ⟨i_lo _, i_hi _⟩ | decide
theorem f0Office : ∀ k, (TOffice 0 k).1 ≤ (iFOffice k).toInt ∧ (iFOffice k).toInt ≤ (TOffice 0 k).2.1 := by
  intro k
  match k with
  | 0 => exact ⟨i_lo _, i_hi _⟩
  | 1 => exact ⟨i_lo _, i_hi _⟩
  | 2 => exact ⟨i_lo _, i_hi _⟩
  | 3 => exact ⟨i_lo _, i_hi _⟩
  | 4 => exact ⟨i_lo _, i_hi _⟩
  | 5 => exact ⟨i_lo _, i_hi _⟩
  | 6 => exact ⟨i_lo _, i_hi _⟩
  | 7 => decide
  | (k + 8) => exact ⟨i_lo _, i_hi _⟩
theorem InT.tape {I : Nat → Nat → Int32} {a : Nat} (h : I a = iFTape) : InT TTape 7 I a := by
  intro i hi k
  match i, hi with
  | 0, _ => show _ ≤ (I a k).toInt ∧ (I a k).toInt ≤ _; rw [h]; exact f0Tape k
  | (i + 1), _ => exact ⟨i_lo _, i_hi _⟩
theorem InT.land {I : Nat → Nat → Int32} {a : Nat} (h : ZLand I a) : InT TLand 16 I a := by
  obtain ⟨z0, z1, z2, z3, z4, -⟩ := h
  intro i hi k
  match i, hi with
  | 0, _ =>
    show (TLand 0 k).1 ≤ (I a k).toInt ∧ (I a k).toInt ≤ (TLand 0 k).2.1
    match k with
    | 0 => rw [z0]; decide
    | 1 => rw [z1]; decide
    | 2 => rw [z2]; decide
    | 3 => rw [z3]; decide
    | 4 => rw [z4]; decide
    | (k + 5) => exact ⟨i_lo _, i_hi _⟩
  | (i + 1), _ => exact ⟨i_lo _, i_hi _⟩
theorem InT.reform {G : qG} {n : Nat} {sh : Nat → qC} {Rf : Nat → Nat → Option Nat} {I : Nat → Nat → Int32} {L : Nat → Nat → Int64} {a : Nat} (h : qReform G (n, sh, Rf, I, L) a) : InT TReform 5 I a := InT.zero (w := 4) h.2.1 f0Reform fzReform h.2.2
theorem InT.trade {G : qG} {n : Nat} {sh : Nat → qC} {Rf : Nat → Nat → Option Nat} {I : Nat → Nat → Int32} {L : Nat → Nat → Int64} {a : Nat} (h : qTrade G (n, sh, Rf, I, L) a) : InT TTrade 2 I a := InT.zero (w := 1) h.2.1 f0Trade fzTrade h.2.2
theorem InT.facts {G : qG} {n : Nat} {sh : Nat → qC} {Rf : Nat → Nat → Option Nat} {I : Nat → Nat → Int32} {L : Nat → Nat → Int64} {a : Nat} (h : qFacts G (n, sh, Rf, I, L) a) : InT TFacts 7 I a := InT.zero (w := 6) h.2.1 f0Facts fzFacts h.2.2
theorem InT.papers {G : qG} {n : Nat} {sh : Nat → qC} {Rf : Nat → Nat → Option Nat} {I : Nat → Nat → Int32} {L : Nat → Nat → Int64} {a : Nat} (h : qPapers G (n, sh, Rf, I, L) a) : InT TPapers 13 I a := InT.zero (w := 12) h.2.1 f0Papers fzPapers h.2.2
theorem InT.loads {G : qG} {n : Nat} {sh : Nat → qC} {Rf : Nat → Nat → Option Nat} {I : Nat → Nat → Int32} {L : Nat → Nat → Int64} {a : Nat} (h : qLoads G (n, sh, Rf, I, L) a) : InT TLoads 9 I a := InT.zero (w := 8) h.2.1 f0Loads fzLoads h.2.2
theorem InT.way {G : qG} {n : Nat} {sh : Nat → qC} {Rf : Nat → Nat → Option Nat} {I : Nat → Nat → Int32} {L : Nat → Nat → Int64} {a : Nat} (h : qWay G (n, sh, Rf, I, L) a) : InT TWay 1 I a := InT.zero (w := 0) h.2.1 f0Way fzWay h.2.2
set_option maxHeartbeats 4000000 in
theorem InT.run {I : Nat → Nat → Int32} {a : Nat} (h0 : I a = iFRun) (hl : InT TLand 16 I (a + 1)) (ht : InT TTrade 2 I (a + 17)) (hr : InT TReform 5 I (a + 19)) (hp : InT TPapers 13 I (a + 31)) (hd : InT TLoads 9 I (a + 44)) (hw : InT TWay 1 I (a + 58)) (hz : I (a + 64) = fun _ => 0) : InT TRun 66 I a := by
  intro i hi k
  match i, hi with
  | 0, _ => exact (by show (TRun 0 k).1 ≤ (I a k).toInt ∧ (I a k).toInt ≤ (TRun 0 k).2.1; rw [h0]; exact f0Run k)
  | 1, _ => exact hl 0 (by decide) k
  | 2, _ => exact hl 1 (by decide) k
  | 3, _ => exact hl 2 (by decide) k
  | 4, _ => exact hl 3 (by decide) k
  | 5, _ => exact hl 4 (by decide) k
  | 6, _ => exact hl 5 (by decide) k
  | 7, _ => exact hl 6 (by decide) k
  | 8, _ => exact hl 7 (by decide) k
  | 9, _ => exact hl 8 (by decide) k
  | 10, _ => exact hl 9 (by decide) k
  | 11, _ => exact hl 10 (by decide) k
  | 12, _ => exact hl 11 (by decide) k
  | 13, _ => exact hl 12 (by decide) k
  | 14, _ => exact hl 13 (by decide) k
  | 15, _ => exact hl 14 (by decide) k
  | 16, _ => exact hl 15 (by decide) k
  | 17, _ => exact ht 0 (by decide) k
  | 18, _ => exact ht 1 (by decide) k
  | 19, _ => exact hr 0 (by decide) k
  | 20, _ => exact hr 1 (by decide) k
  | 21, _ => exact hr 2 (by decide) k
  | 22, _ => exact hr 3 (by decide) k
  | 23, _ => exact hr 4 (by decide) k
  | 24, _ => exact ⟨i_lo _, i_hi _⟩
  | 25, _ => exact ⟨i_lo _, i_hi _⟩
  | 26, _ => exact ⟨i_lo _, i_hi _⟩
  | 27, _ => exact ⟨i_lo _, i_hi _⟩
  | 28, _ => exact ⟨i_lo _, i_hi _⟩
  | 29, _ => exact ⟨i_lo _, i_hi _⟩
  | 30, _ => exact ⟨i_lo _, i_hi _⟩
  | 31, _ => exact hp 0 (by decide) k
  | 32, _ => exact hp 1 (by decide) k
  | 33, _ => exact hp 2 (by decide) k
  | 34, _ => exact hp 3 (by decide) k
  | 35, _ => exact hp 4 (by decide) k
  | 36, _ => exact hp 5 (by decide) k
  | 37, _ => exact hp 6 (by decide) k
  | 38, _ => exact hp 7 (by decide) k
  | 39, _ => exact hp 8 (by decide) k
  | 40, _ => exact hp 9 (by decide) k
  | 41, _ => exact hp 10 (by decide) k
  | 42, _ => exact hp 11 (by decide) k
  | 43, _ => exact hp 12 (by decide) k
  | 44, _ => exact hd 0 (by decide) k
  | 45, _ => exact hd 1 (by decide) k
  | 46, _ => exact hd 2 (by decide) k
  | 47, _ => exact hd 3 (by decide) k
  | 48, _ => exact hd 4 (by decide) k
  | 49, _ => exact hd 5 (by decide) k
  | 50, _ => exact hd 6 (by decide) k
  | 51, _ => exact hd 7 (by decide) k
  | 52, _ => exact hd 8 (by decide) k
  | 53, _ => exact ⟨i_lo _, i_hi _⟩
  | 54, _ => exact ⟨i_lo _, i_hi _⟩
  | 55, _ => exact ⟨i_lo _, i_hi _⟩
  | 56, _ => exact ⟨i_lo _, i_hi _⟩
  | 57, _ => exact ⟨i_lo _, i_hi _⟩
  | 58, _ => exact hw 0 (by decide) k
  | 59, _ => exact ⟨i_lo _, i_hi _⟩
  | 60, _ => exact ⟨i_lo _, i_hi _⟩
  | 61, _ => exact ⟨i_lo _, i_hi _⟩
  | 62, _ => exact ⟨i_lo _, i_hi _⟩
  | 63, _ => exact ⟨i_lo _, i_hi _⟩
  | 64, _ => exact (by show (-1 : Int) ≤ (I (a + 64) k).toInt ∧ (I (a + 64) k).toInt ≤ 5; rw [hz]; exact (by decide : (-1 : Int) ≤ (0 : Int32).toInt ∧ (0 : Int32).toInt ≤ 5))
  | 65, _ => exact ⟨i_lo _, i_hi _⟩
  | (i + 66), h => exact absurd h (by omega)
set_option maxHeartbeats 8000000 in
theorem InT.office {I : Nat → Nat → Int32} {a : Nat} (h0 : I a = iFOffice) (ht : InT TTape 7 I (a + 1)) (hl : InT TLand 16 I (a + 8)) (hs : InT TLand 16 I (a + 24)) (hr : InT TReform 5 I (a + 41)) (hd : InT TTrade 2 I (a + 46)) (hf : InT TFacts 7 I (a + 48)) (hx : InT TRun 66 I (a + 55)) (hy : InT TRun 66 I (a + 121)) (h1 : InT TReform 5 I (a + 187)) (h2 : InT TReform 5 I (a + 192)) (h3 : InT TReform 5 I (a + 197)) (h4 : InT TReform 5 I (a + 202)) : InT TOffice 207 I a := by
  intro i hi k
  match i, hi with
  | 0, _ => exact (by show (TOffice 0 k).1 ≤ (I a k).toInt ∧ (I a k).toInt ≤ (TOffice 0 k).2.1; rw [h0]; exact f0Office k)
  | 1, _ => exact ht 0 (by decide) k
  | 2, _ => exact ht 1 (by decide) k
  | 3, _ => exact ht 2 (by decide) k
  | 4, _ => exact ht 3 (by decide) k
  | 5, _ => exact ht 4 (by decide) k
  | 6, _ => exact ht 5 (by decide) k
  | 7, _ => exact ht 6 (by decide) k
  | 8, _ => exact hl 0 (by decide) k
  | 9, _ => exact hl 1 (by decide) k
  | 10, _ => exact hl 2 (by decide) k
  | 11, _ => exact hl 3 (by decide) k
  | 12, _ => exact hl 4 (by decide) k
  | 13, _ => exact hl 5 (by decide) k
  | 14, _ => exact hl 6 (by decide) k
  | 15, _ => exact hl 7 (by decide) k
  | 16, _ => exact hl 8 (by decide) k
  | 17, _ => exact hl 9 (by decide) k
  | 18, _ => exact hl 10 (by decide) k
  | 19, _ => exact hl 11 (by decide) k
  | 20, _ => exact hl 12 (by decide) k
  | 21, _ => exact hl 13 (by decide) k
  | 22, _ => exact hl 14 (by decide) k
  | 23, _ => exact hl 15 (by decide) k
  | 24, _ => exact hs 0 (by decide) k
  | 25, _ => exact hs 1 (by decide) k
  | 26, _ => exact hs 2 (by decide) k
  | 27, _ => exact hs 3 (by decide) k
  | 28, _ => exact hs 4 (by decide) k
  | 29, _ => exact hs 5 (by decide) k
  | 30, _ => exact hs 6 (by decide) k
  | 31, _ => exact hs 7 (by decide) k
  | 32, _ => exact hs 8 (by decide) k
  | 33, _ => exact hs 9 (by decide) k
  | 34, _ => exact hs 10 (by decide) k
  | 35, _ => exact hs 11 (by decide) k
  | 36, _ => exact hs 12 (by decide) k
  | 37, _ => exact hs 13 (by decide) k
  | 38, _ => exact hs 14 (by decide) k
  | 39, _ => exact hs 15 (by decide) k
  | 40, _ => exact ⟨i_lo _, i_hi _⟩
  | 41, _ => exact hr 0 (by decide) k
  | 42, _ => exact hr 1 (by decide) k
  | 43, _ => exact hr 2 (by decide) k
  | 44, _ => exact hr 3 (by decide) k
  | 45, _ => exact hr 4 (by decide) k
  | 46, _ => exact hd 0 (by decide) k
  | 47, _ => exact hd 1 (by decide) k
  | 48, _ => exact hf 0 (by decide) k
  | 49, _ => exact hf 1 (by decide) k
  | 50, _ => exact hf 2 (by decide) k
  | 51, _ => exact hf 3 (by decide) k
  | 52, _ => exact hf 4 (by decide) k
  | 53, _ => exact hf 5 (by decide) k
  | 54, _ => exact hf 6 (by decide) k
  | 55, _ => exact hx 0 (by decide) k
  | 56, _ => exact hx 1 (by decide) k
  | 57, _ => exact hx 2 (by decide) k
  | 58, _ => exact hx 3 (by decide) k
  | 59, _ => exact hx 4 (by decide) k
  | 60, _ => exact hx 5 (by decide) k
  | 61, _ => exact hx 6 (by decide) k
  | 62, _ => exact hx 7 (by decide) k
  | 63, _ => exact hx 8 (by decide) k
  | 64, _ => exact hx 9 (by decide) k
  | 65, _ => exact hx 10 (by decide) k
  | 66, _ => exact hx 11 (by decide) k
  | 67, _ => exact hx 12 (by decide) k
  | 68, _ => exact hx 13 (by decide) k
  | 69, _ => exact hx 14 (by decide) k
  | 70, _ => exact hx 15 (by decide) k
  | 71, _ => exact hx 16 (by decide) k
  | 72, _ => exact hx 17 (by decide) k
  | 73, _ => exact hx 18 (by decide) k
  | 74, _ => exact hx 19 (by decide) k
  | 75, _ => exact hx 20 (by decide) k
  | 76, _ => exact hx 21 (by decide) k
  | 77, _ => exact hx 22 (by decide) k
  | 78, _ => exact hx 23 (by decide) k
  | 79, _ => exact hx 24 (by decide) k
  | 80, _ => exact hx 25 (by decide) k
  | 81, _ => exact hx 26 (by decide) k
  | 82, _ => exact hx 27 (by decide) k
  | 83, _ => exact hx 28 (by decide) k
  | 84, _ => exact hx 29 (by decide) k
  | 85, _ => exact hx 30 (by decide) k
  | 86, _ => exact hx 31 (by decide) k
  | 87, _ => exact hx 32 (by decide) k
  | 88, _ => exact hx 33 (by decide) k
  | 89, _ => exact hx 34 (by decide) k
  | 90, _ => exact hx 35 (by decide) k
  | 91, _ => exact hx 36 (by decide) k
  | 92, _ => exact hx 37 (by decide) k
  | 93, _ => exact hx 38 (by decide) k
  | 94, _ => exact hx 39 (by decide) k
  | 95, _ => exact hx 40 (by decide) k
  | 96, _ => exact hx 41 (by decide) k
  | 97, _ => exact hx 42 (by decide) k
  | 98, _ => exact hx 43 (by decide) k
  | 99, _ => exact hx 44 (by decide) k
  | 100, _ => exact hx 45 (by decide) k
  | 101, _ => exact hx 46 (by decide) k
  | 102, _ => exact hx 47 (by decide) k
  | 103, _ => exact hx 48 (by decide) k
  | 104, _ => exact hx 49 (by decide) k
  | 105, _ => exact hx 50 (by decide) k
  | 106, _ => exact hx 51 (by decide) k
  | 107, _ => exact hx 52 (by decide) k
  | 108, _ => exact hx 53 (by decide) k
  | 109, _ => exact hx 54 (by decide) k
  | 110, _ => exact hx 55 (by decide) k
  | 111, _ => exact hx 56 (by decide) k
  | 112, _ => exact hx 57 (by decide) k
  | 113, _ => exact hx 58 (by decide) k
  | 114, _ => exact hx 59 (by decide) k
  | 115, _ => exact hx 60 (by decide) k
  | 116, _ => exact hx 61 (by decide) k
  | 117, _ => exact hx 62 (by decide) k
  | 118, _ => exact hx 63 (by decide) k
  | 119, _ => exact hx 64 (by decide) k
  | 120, _ => exact hx 65 (by decide) k
  | 121, _ => exact hy 0 (by decide) k
  | 122, _ => exact hy 1 (by decide) k
  | 123, _ => exact hy 2 (by decide) k
  | 124, _ => exact hy 3 (by decide) k
  | 125, _ => exact hy 4 (by decide) k
  | 126, _ => exact hy 5 (by decide) k
  | 127, _ => exact hy 6 (by decide) k
  | 128, _ => exact hy 7 (by decide) k
  | 129, _ => exact hy 8 (by decide) k
  | 130, _ => exact hy 9 (by decide) k
  | 131, _ => exact hy 10 (by decide) k
  | 132, _ => exact hy 11 (by decide) k
  | 133, _ => exact hy 12 (by decide) k
  | 134, _ => exact hy 13 (by decide) k
  | 135, _ => exact hy 14 (by decide) k
  | 136, _ => exact hy 15 (by decide) k
  | 137, _ => exact hy 16 (by decide) k
  | 138, _ => exact hy 17 (by decide) k
  | 139, _ => exact hy 18 (by decide) k
  | 140, _ => exact hy 19 (by decide) k
  | 141, _ => exact hy 20 (by decide) k
  | 142, _ => exact hy 21 (by decide) k
  | 143, _ => exact hy 22 (by decide) k
  | 144, _ => exact hy 23 (by decide) k
  | 145, _ => exact hy 24 (by decide) k
  | 146, _ => exact hy 25 (by decide) k
  | 147, _ => exact hy 26 (by decide) k
  | 148, _ => exact hy 27 (by decide) k
  | 149, _ => exact hy 28 (by decide) k
  | 150, _ => exact hy 29 (by decide) k
  | 151, _ => exact hy 30 (by decide) k
  | 152, _ => exact hy 31 (by decide) k
  | 153, _ => exact hy 32 (by decide) k
  | 154, _ => exact hy 33 (by decide) k
  | 155, _ => exact hy 34 (by decide) k
  | 156, _ => exact hy 35 (by decide) k
  | 157, _ => exact hy 36 (by decide) k
  | 158, _ => exact hy 37 (by decide) k
  | 159, _ => exact hy 38 (by decide) k
  | 160, _ => exact hy 39 (by decide) k
  | 161, _ => exact hy 40 (by decide) k
  | 162, _ => exact hy 41 (by decide) k
  | 163, _ => exact hy 42 (by decide) k
  | 164, _ => exact hy 43 (by decide) k
  | 165, _ => exact hy 44 (by decide) k
  | 166, _ => exact hy 45 (by decide) k
  | 167, _ => exact hy 46 (by decide) k
  | 168, _ => exact hy 47 (by decide) k
  | 169, _ => exact hy 48 (by decide) k
  | 170, _ => exact hy 49 (by decide) k
  | 171, _ => exact hy 50 (by decide) k
  | 172, _ => exact hy 51 (by decide) k
  | 173, _ => exact hy 52 (by decide) k
  | 174, _ => exact hy 53 (by decide) k
  | 175, _ => exact hy 54 (by decide) k
  | 176, _ => exact hy 55 (by decide) k
  | 177, _ => exact hy 56 (by decide) k
  | 178, _ => exact hy 57 (by decide) k
  | 179, _ => exact hy 58 (by decide) k
  | 180, _ => exact hy 59 (by decide) k
  | 181, _ => exact hy 60 (by decide) k
  | 182, _ => exact hy 61 (by decide) k
  | 183, _ => exact hy 62 (by decide) k
  | 184, _ => exact hy 63 (by decide) k
  | 185, _ => exact hy 64 (by decide) k
  | 186, _ => exact hy 65 (by decide) k
  | 187, _ => exact h1 0 (by decide) k
  | 188, _ => exact h1 1 (by decide) k
  | 189, _ => exact h1 2 (by decide) k
  | 190, _ => exact h1 3 (by decide) k
  | 191, _ => exact h1 4 (by decide) k
  | 192, _ => exact h2 0 (by decide) k
  | 193, _ => exact h2 1 (by decide) k
  | 194, _ => exact h2 2 (by decide) k
  | 195, _ => exact h2 3 (by decide) k
  | 196, _ => exact h2 4 (by decide) k
  | 197, _ => exact h3 0 (by decide) k
  | 198, _ => exact h3 1 (by decide) k
  | 199, _ => exact h3 2 (by decide) k
  | 200, _ => exact h3 3 (by decide) k
  | 201, _ => exact h3 4 (by decide) k
  | 202, _ => exact h4 0 (by decide) k
  | 203, _ => exact h4 1 (by decide) k
  | 204, _ => exact h4 2 (by decide) k
  | 205, _ => exact h4 3 (by decide) k
  | 206, _ => exact h4 4 (by decide) k
  | (i + 207), h => exact absurd h (by omega)
