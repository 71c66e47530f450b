/-! One int of the class that most calls keep. By program (keep.py). -/
section F1
variable {R : qRg} {I I' : Nat → Nat → Int32} {ax kx j : Nat}
/-- one int held to what it is -/
def fz1 (R : qRg) (I : Nat → Nat → Int32) (ax kx j : Nat) : qRg := (fun a k => if a = ax ∧ k = kx then ((I a k).toInt, (I a k).toInt) else R.1 a k, fun i => R.2 i && !(Nat.beq i j))
theorem f1_in : (fz1 R I ax kx j).1 ax kx = ((I ax kx).toInt, (I ax kx).toInt) := if_pos ⟨rfl, rfl⟩
theorem f1_out {a k : Nat} (h : ¬ (a = ax ∧ k = kx)) : (fz1 R I ax kx j).1 a k = R.1 a k := if_neg h
theorem f1_I (hR : RI R I) : RI (fz1 R I ax kx j) I := fun a k => by
  by_cases c : a = ax ∧ k = kx
  · rw [c.1, c.2, f1_in]; exact ⟨Int.le_refl _, Int.le_refl _⟩
  · rw [f1_out c]; exact hR a k
theorem f1_K (h : RI (fz1 R I ax kx j) I') : I' ax kx = I ax kx := by
  have q := h ax kx
  rw [f1_in] at q
  exact Int32.toInt_inj.mp (Int.le_antisymm q.2 q.1)
theorem f1_B (hR : RI R I) (h : RI (fz1 R I ax kx j) I') : RI R I' := fun a k => by
  by_cases c : a = ax ∧ k = kx
  · rw [c.1, c.2, f1_K h]; exact hR ax kx
  · have q := h a k
    rw [f1_out c] at q
    exact q
theorem f1_t {i : Nat} (hA : ∀ i, R.2 i = true) (h : Nat.beq i j = false) : (fz1 R I ax kx j).2 i = true := by
  show (R.2 i && !(Nat.beq i j)) = true
  rw [hA, h]
  rfl
theorem f1_n {i : Nat} (h : (fz1 R I ax kx j).2 i = true) : i ≠ j := fun e => by
  subst e
  have h2 : (R.2 i && !(Nat.beq i i)) = true := h
  rw [Nat.beq_refl, Bool.not_true, Bool.and_false] at h2
  exact absurd h2 (by decide)
theorem RAt.f1 {T : qTb} {w a : Nat} (ra : RAt T w R a) (hR : RI R I) (hA : ∀ i, R.2 i = true) (h : ∀ i, i < w → a + i = ax → (T i kx).2.2 = j ∧ j ≠ 0) : RAt T w (fz1 R I ax kx j) a := by
  intro i hi k
  have q := ra i hi k
  by_cases c : a + i = ax ∧ k = kx
  · obtain ⟨c1, c2⟩ := c
    subst c2
    obtain ⟨h1, h2⟩ := h i hi c1
    have r := hR.at ra i k hi
    have e : (fz1 R I ax k j).1 (a + i) k = ((I (a + i) k).toInt, (I (a + i) k).toInt) := if_pos ⟨c1, rfl⟩
    rw [e, h1]
    refine ⟨⟨r.1, r.2⟩, fun z => ?_⟩
    rcases z with z | z
    · exact absurd z h2
    · exact absurd rfl (f1_n z)
  · rw [f1_out c]
    exact ⟨q.1, fun z => q.2 (z.imp id (fun _ => hA _))⟩
theorem RAt.u1 {T : qTb} {w a : Nat} (ra : RAt T w (fz1 R I ax kx j) a) (hA : ∀ i, R.2 i = true) (h : ∀ i, i < w → a + i ≠ ax) (ht : ∀ i k, (T i k).2.2 = 0 ∨ Nat.beq (T i k).2.2 j = false) : RAt T w R a := by
  intro i hi k
  have q := ra i hi k
  rw [f1_out (fun c => h i hi c.1)] at q
  refine ⟨q.1, fun _ => q.2 ?_⟩
  rcases ht i k with t | t
  · exact Or.inl t
  · exact Or.inr (f1_t hA t)
end F1
theorem tgLand : ∀ i k, (TLand i k).2.2 = 0 := by
  intro i k
  unfold TLand
  repeat' split
  all_goals rfl
theorem tgReform : ∀ i k, (TReform i k).2.2 = 0 := by
  intro i k
  unfold TReform
  repeat' split
  all_goals rfl
theorem neLand {G : qG} {n : Nat} {sh : Nat → qC} {Rf : Nat → Nat → Option Nat} {l ax ci : Nat} (hw : WfLand G n sh Rf l) (h : sh ax = .inr ci) (hc : 1 ≠ ci) : ∀ i, i < 16 → l + i ≠ ax := by
  intro i hi e
  match i, hi, e with
  | 0, _, e => exact sh_ne_o hw.1.2.2 h hc e
  | 1, _, e => exact sh_ne_a h (waLand_5 (I := fun _ _ => 0) (L := fun _ _ => 0) hw).2.2 e.symm
  | 2, _, e => exact sh_ne_a h (waLand_6 (I := fun _ _ => 0) (L := fun _ _ => 0) hw).2.2 e.symm
  | 3, _, e => exact sh_ne_a h (waLand_7 (I := fun _ _ => 0) (L := fun _ _ => 0) hw).2.2 e.symm
  | 4, _, e => exact sh_ne_a h (waLand_8 (I := fun _ _ => 0) (L := fun _ _ => 0) hw).2.2 e.symm
  | 5, _, e => exact sh_ne_a h (waLand_9 (I := fun _ _ => 0) (L := fun _ _ => 0) hw).2.2 e.symm
  | 6, _, e => exact sh_ne_a h (waLand_10 (I := fun _ _ => 0) (L := fun _ _ => 0) hw).2.2 e.symm
  | 7, _, e => exact sh_ne_a h (waLand_11 (I := fun _ _ => 0) (L := fun _ _ => 0) hw).2.2 e.symm
  | 8, _, e => exact sh_ne_a h (waLand_12 (I := fun _ _ => 0) (L := fun _ _ => 0) hw).2.2 e.symm
  | 9, _, e => exact sh_ne_a h (waLand_13 (I := fun _ _ => 0) (L := fun _ _ => 0) hw).2.2 e.symm
  | 10, _, e => exact sh_ne_a h (waLand_14 (I := fun _ _ => 0) (L := fun _ _ => 0) hw).2.2 e.symm
  | 11, _, e => exact sh_ne_a h (waLand_15 (I := fun _ _ => 0) (L := fun _ _ => 0) hw).2.2 e.symm
  | 12, _, e => exact sh_ne_a h (waLand_16 (I := fun _ _ => 0) (L := fun _ _ => 0) hw).2.2 e.symm
  | 13, _, e => exact sh_ne_a h (waLand_17 (I := fun _ _ => 0) (L := fun _ _ => 0) hw).2.2 e.symm
  | 14, _, e => exact sh_ne_a h (waLand_18 (I := fun _ _ => 0) (L := fun _ _ => 0) hw).2.2 e.symm
  | 15, _, e => exact sh_ne_a h (waLand_19 (I := fun _ _ => 0) (L := fun _ _ => 0) hw).2.2 e.symm
  | (i + 16), hi, _ => exact absurd hi (by omega)
theorem neReform {G : qG} {n : Nat} {sh : Nat → qC} {Rf : Nat → Nat → Option Nat} {l ax ci : Nat} (hw : WfReform G n sh Rf l) (h : sh ax = .inr ci) (hc : 6 ≠ ci) : ∀ i, i < 5 → l + i ≠ ax := by
  intro i hi e
  match i, hi, e with
  | 0, _, e => exact sh_ne_o hw.1.2.2 h hc e
  | 1, _, e => exact sh_ne_a h (waReform_0 (I := fun _ _ => 0) (L := fun _ _ => 0) hw).2.2 e.symm
  | 2, _, e => exact sh_ne_a h (waReform_1 (I := fun _ _ => 0) (L := fun _ _ => 0) hw).2.2 e.symm
  | 3, _, e => exact sh_ne_a h (waReform_2 (I := fun _ _ => 0) (L := fun _ _ => 0) hw).2.2 e.symm
  | 4, _, e => exact sh_ne_a h (waReform_3 (I := fun _ _ => 0) (L := fun _ _ => 0) hw).2.2 e.symm
  | (i + 5), hi, _ => exact absurd hi (by omega)
theorem neTrade {G : qG} {n : Nat} {sh : Nat → qC} {Rf : Nat → Nat → Option Nat} {l ax ci : Nat} (hw : WfTrade G n sh Rf l) (h : sh ax = .inr ci) (hc : 9 ≠ ci) : ∀ i, i < 2 → l + i ≠ ax := by
  intro i hi e
  match i, hi, e with
  | 0, _, e => exact sh_ne_o hw.1.2.2 h hc e
  | 1, _, e => exact sh_ne_a h (waTrade_0 (I := fun _ _ => 0) (L := fun _ _ => 0) hw).2.2 e.symm
  | (i + 2), hi, _ => exact absurd hi (by omega)
section F2
variable {G : qG} {R : qRg} {n o : Nat} {sh : Nat → qC} {Rf Rf' : Nat → Nat → Option Nat} {I I' : Nat → Nat → Int32}
theorem OI.f1 (hA : ∀ i, R.2 i = true) (h : OI G R n sh Rf I o) : OI G (fz1 R I (o + 46) 1 2) n sh Rf I o := by
  have hx : sh (o + 46) = .inr 9 := (wsOffice_5 h.1).1.2.2
  obtain ⟨w, ra, hR, ⟨l1, e1, a1, b1, c1⟩, ⟨l2, e2, a2, b2, c2⟩, ⟨r4, e4, a4, b4, c4⟩, hs, ⟨⟨l5, x5, y5, z5⟩, ⟨t5, u5, v5, w5, q5⟩, k5⟩, ⟨⟨l6, x6, y6, z6⟩, ⟨t6, u6, v6, w6, q6⟩, k6⟩, tk, fa⟩ := h
  have la : ∀ l, WfLand G n sh Rf l → RALand R l → RALand (fz1 R I (o + 46) 1 2) l := fun l wl rl => rl.f1 hR hA (fun i hi e => absurd e ((neLand wl hx (by decide)) i hi))
  have re : ∀ l, WfReform G n sh Rf l → RAReform R l → RAReform (fz1 R I (o + 46) 1 2) l := fun l wl rl => rl.f1 hR hA (fun i hi e => absurd e ((neReform wl hx (by decide)) i hi))
  have tr : ∀ l, WfTrade G n sh Rf l → RATrade R l → RATrade (fz1 R I (o + 46) 1 2) l := fun l wl rl => rl.f1 hR hA (fun i hi e => by
    match i, hi, e with
    | 0, _, _ => exact ⟨rfl, by decide⟩
    | 1, _, e => exact absurd e.symm (sh_ne_a hx (waTrade_0 (I := fun _ _ => 0) (L := fun _ _ => 0) wl).2.2)
    | (i + 2), hi, _ => exact absurd hi (by omega))
  refine ⟨w, ra.f1 hR hA (fun i hi e => ?_), f1_I hR, ⟨l1, e1, a1, la _ a1 b1, c1⟩, ⟨l2, e2, a2, la _ a2 b2, c2⟩, ⟨r4, e4, a4, re _ a4 b4, c4⟩, fun i hi => ?_, ⟨⟨l5, x5, y5, la _ y5 z5⟩, ⟨t5, u5, v5, tr _ v5 w5, q5⟩, k5⟩, ⟨⟨l6, x6, y6, la _ y6 z6⟩, ⟨t6, u6, v6, tr _ v6 w6, q6⟩, k6⟩, tk, fa⟩
  · have ei : i = 46 := by omega
    subst ei
    exact ⟨rfl, by decide⟩
  · obtain ⟨r, er, ar, br, cr⟩ := hs i hi
    exact ⟨r, er, ar, re _ ar br, cr⟩
theorem OI.u1 (hA : ∀ i, R.2 i = true) (h0 : OI G R n sh Rf I o) (h : OI G (fz1 R I (o + 46) 1 2) n sh Rf' I' o) : OI G R n sh Rf' I' o := by
  have hx : sh (o + 46) = .inr 9 := (wsOffice_5 h.1).1.2.2
  obtain ⟨w, ra, hR, ⟨l1, e1, a1, b1, c1⟩, ⟨l2, e2, a2, b2, c2⟩, ⟨r4, e4, a4, b4, c4⟩, hs, ⟨⟨l5, x5, y5, z5⟩, ⟨t5, u5, v5, w5, q5⟩, k5⟩, ⟨⟨l6, x6, y6, z6⟩, ⟨t6, u6, v6, w6, q6⟩, k6⟩, tk, fa⟩ := h
  have la : ∀ l, WfLand G n sh Rf' l → RALand (fz1 R I (o + 46) 1 2) l → RALand R l := fun l wl rl => rl.u1 hA (neLand wl hx (by decide)) (fun i k => Or.inl (tgLand i k))
  have re : ∀ l, WfReform G n sh Rf' l → RAReform (fz1 R I (o + 46) 1 2) l → RAReform R l := fun l wl rl => rl.u1 hA (neReform wl hx (by decide)) (fun i k => Or.inl (tgReform i k))
  have rr : RATrade R (o + 46) := rsOffice_5 h0.2.1
  have t5r : RATrade R t5 := by
    rcases q5 with q | q
    · rw [q]; exact rsRun_1 (rsOffice_8 h0.2.1)
    · rw [q]; exact rr
  have t6r : RATrade R t6 := by
    rcases q6 with q | q
    · rw [q]; exact rsRun_1 (rsOffice_9 h0.2.1)
    · rw [q]; exact rr
  refine ⟨w, h0.2.1, f1_B h0.2.2.1 hR, ⟨l1, e1, a1, la _ a1 b1, c1⟩, ⟨l2, e2, a2, la _ a2 b2, c2⟩, ⟨r4, e4, a4, re _ a4 b4, c4⟩, fun i hi => ?_, ⟨⟨l5, x5, y5, la _ y5 z5⟩, ⟨t5, u5, v5, t5r, q5⟩, k5⟩, ⟨⟨l6, x6, y6, la _ y6 z6⟩, ⟨t6, u6, v6, t6r, q6⟩, k6⟩, tk, fa⟩
  obtain ⟨r, er, ar, br, cr⟩ := hs i hi
  exact ⟨r, er, ar, re _ ar br, cr⟩
end F2
