/-! An object in the making: of its rows the first j are made. -/
def PJ (G : qG) (ci : Nat) (wl : List (Nat × Nat × FieldType × Nat)) (o n0 : Nat) (sh0 : Nat → qC) (Rf0 : Nat → Nat → Option Nat) (I0 : Nat → Nat → Int32) (L0 : Nat → Nat → Int64) (j : Nat) (F : Nat → Int32) (FL : Nat → Int64) (n : Nat) (sh : Nat → qC) (Rf : Nat → Nat → Option Nat) (I : Nat → Nat → Int32) (L : Nat → Nat → Int64) : Prop :=
  n = n0 + j ∧ q_b G ≤ o ∧ o + 1 = q_b G + n0 ∧ sh o = .inr ci ∧ I o = F ∧ L o = FL ∧
  (∀ (i : Nat) (x : Nat × Nat × FieldType × Nat), i < j → wl[i]? = some x → Rf o x.1 = some (o + (i + 1)) ∧ sh (o + (i + 1)) = .inl (x.2.2.1, x.2.2.2) ∧ I (o + (i + 1)) = (fun _ => 0) ∧ L (o + (i + 1)) = (fun _ => 0)) ∧
  ∀ a, a < o → sh a = sh0 a ∧ Rf a = Rf0 a ∧ I a = I0 a ∧ L a = L0 a
/-- a plain type of arrays -/
def q_pt (G : qG) (t : FieldType) (atype : ArrayType) : Prop := newarray.typeOf atype = t ∧ t ∈ q_tl G ∧ (∀ (s : State) (cA : ClassId), va_RA s cA t → s.vm.findClass ("[" ++ t.toString) = some cA) ∧ (∀ (cA : ClassId) (N : Nat), vp_cell cA (N, q_av t (fun _ => none) (fun _ => 0) (fun _ => 0)) = arrV cA N (fun _ => defaultValue t)) ∧ Cond.arrayClass t ∈ q_Ts G ∧ componentBytes t ≤ 8
section Make
variable {G : qG} {M : qM} {d pc kc ks : Nat} {lv : List (Nat × Value)} {st : List Value} {post : Option Value → qS → Prop} {ci : Nat} {wl : List (Nat × Nat × FieldType × Nat)} {o n0 : Nat} {sh0 : Nat → qC} {Rf0 : Nat → Nat → Option Nat} {I0 : Nat → Nat → Int32} {L0 : Nat → Nat → Int64} {j : Nat} {F : Nat → Int32} {FL : Nat → Int64} {n : Nat} {sh : Nat → qC} {Rf : Nat → Nat → Option Nat} {I : Nat → Nat → Int32} {L : Nat → Nat → Int64}
theorem PJ.own (h : PJ G ci wl o n0 sh0 Rf0 I0 L0 j F FL n sh Rf I L) : q_in G (n, sh, Rf, I, L) o (.inr ci) := by
  obtain ⟨h1, h2, h3, h4, -⟩ := h
  exact ⟨h2, by show o < q_b G + n; omega, h4⟩
/-- the next row: newarray, putfield -/
theorem ev_arrP {i : Int32} {atype : ArrayType} {t : FieldType} {k w idx : Nat} (hok : q_ok G) (hP : PJ G ci wl o n0 sh0 Rf0 I0 L0 j F FL n sh Rf I L) (hj : wl[j]? = some (k, j + 1, t, w)) (hdis : ∀ (i : Nat) (x : Nat × Nat × FieldType × Nat), i < j → wl[i]? = some x → x.1 ≠ k) (ht : q_pt G t atype) (hi : ¬ i < 0) (hN : i.toNatClampNeg = w) (hb : w * 8 ≤ 536870912)
    (hd : decode M.2.1 pc = .ok (.newarray atype, 2)) (hf : q_fl G M.1.cls idx ci k true) (hin : M.1.name = "<init>") (hci : ∀ q : vw_C, (q_cl G)[ci]? = some q → q.1 = M.1.cls) (hft : q_ft G ci k = .array t) (hd2 : decode M.2.1 (pc + 2) = .ok (.putfield idx, 3))
    (kk : ∀ n' sh' Rf' I' L', PJ G ci wl o n0 sh0 Rf0 I0 L0 (j + 1) F FL n' sh' Rf' I' L' → Ev G M d (kc, ks) (pc + 2 + 3) lv st (n', sh', Rf', I', L') post) : Ev G M d (kc + 1, ks + w) pc lv (.int i :: .ref o :: st) (n, sh, Rf, I, L) post := by
  obtain ⟨t1, t2, t3, t4, t5, t6⟩ := ht
  obtain ⟨p1, p2, p3, p4, p5, p6, p7, p8⟩ := id hP
  have hn : q_b G + n = o + (j + 1) := by omega
  have hbb : w * componentBytes t ≤ 536870912 := Nat.le_trans (Nat.mul_le_mul_left w t6) hb
  refine ev_newa t t1 t2 t3 t4 t5 hi hN hbb hd ?_
  have hown : q_in G (q_more G n sh Rf I L (.inl (t, w))) o (.inr ci) := ⟨p2, by show o < q_b G + (n + 1); omega, by show q_c sh (q_b G + n) (.inl (t, w)) o = _; rw [q_c_ne (by omega)]; exact p4⟩
  refine ev_putFR hok hf hin hci hown (fun r i l => by rw [hft]; rfl) (by rw [hft]; rfl) (by rw [hft]; rfl) hd2 ?_
  refine kk _ _ _ _ _ ⟨by omega, p2, p3, ?_, ?_, ?_, fun i2 x hi2 hx => ?_, fun a ha => ?_⟩
  · rw [q_c_ne (by omega)]; exact p4
  · rw [q_z_ne (by omega)]; exact p5
  · rw [q_z_ne (by omega)]; exact p6
  · by_cases hij : i2 = j
    · subst hij
      cases hj.symm.trans hx
      rw [← hn]
      exact ⟨by dsimp only; rw [q_u_at], by rw [q_c_at], by rw [q_z_at], by rw [q_z_at]⟩
    · obtain ⟨a1, a2, a3, a4⟩ := p7 i2 x (by omega) hx
      have hne : o + (i2 + 1) ≠ q_b G + n := by omega
      refine ⟨?_, ?_, ?_, ?_⟩
      · rw [q_u_k (hdis i2 x (by omega) hx), q_z_ne (by omega)]; exact a1
      · rw [q_c_ne hne]; exact a2
      · rw [q_z_ne hne]; exact a3
      · rw [q_z_ne hne]; exact a4
  · obtain ⟨a1, a2, a3, a4⟩ := p8 a ha
    refine ⟨?_, ?_, ?_, ?_⟩
    · rw [q_c_ne (by omega)]; exact a1
    · rw [q_u_ne (by omega), q_z_ne (by omega)]; exact a2
    · rw [q_z_ne (by omega)]; exact a3
    · rw [q_z_ne (by omega)]; exact a4
/-- an int field set -/
theorem ev_intP {B : Nat × Nat} {x : Int32} {k idx : Nat} (hok : q_ok G) (hP : PJ G ci wl o n0 sh0 Rf0 I0 L0 j F FL n sh Rf I L) (hf : q_fl G M.1.cls idx ci k false) (hft : q_ft G ci k = .int) (hd : decode M.2.1 pc = .ok (.putfield idx, 3))
    (kk : ∀ I', PJ G ci wl o n0 sh0 Rf0 I0 L0 j (fun y => if y = k then x else F y) FL n sh Rf I' L → Ev G M d B (pc + 3) lv st (n, sh, Rf, I', L) post) : Ev G M d B pc lv (.int x :: .ref o :: st) (n, sh, Rf, I, L) post := by
  obtain ⟨p1, p2, p3, p4, p5, p6, p7, p8⟩ := id hP
  refine ev_putI hok hf hP.own (fun r i l => by rw [hft]; rfl) (by rw [hft]; rfl) (by rw [hft]; rfl) hd (kk _ ⟨p1, p2, p3, p4, ?_, p6, fun i2 x2 hi2 hx2 => ?_, fun a ha => ?_⟩)
  · funext y
    rw [← p5]
    simp [q_u]
  · obtain ⟨a1, a2, a3, a4⟩ := p7 i2 x2 hi2 hx2
    exact ⟨a1, a2, by rw [q_u_ne (by omega)]; exact a3, a4⟩
  · obtain ⟨a1, a2, a3, a4⟩ := p8 a ha
    exact ⟨a1, a2, by rw [q_u_ne (by omega)]; exact a3, a4⟩
/-- a boolean field set -/
theorem ev_boolP {B : Nat × Nat} {x : Int32} {k idx : Nat} (hx : x = 0 ∨ x = 1) (hok : q_ok G) (hP : PJ G ci wl o n0 sh0 Rf0 I0 L0 j F FL n sh Rf I L) (hf : q_fl G M.1.cls idx ci k false) (hft : q_ft G ci k = .boolean) (hd : decode M.2.1 pc = .ok (.putfield idx, 3))
    (kk : ∀ I', PJ G ci wl o n0 sh0 Rf0 I0 L0 j (fun y => if y = k then x else F y) FL n sh Rf I' L → Ev G M d B (pc + 3) lv st (n, sh, Rf, I', L) post) : Ev G M d B pc lv (.int x :: .ref o :: st) (n, sh, Rf, I, L) post := by
  obtain ⟨p1, p2, p3, p4, p5, p6, p7, p8⟩ := id hP
  refine ev_putI hok hf hP.own (fun r i l => by rw [hft]; rfl) (by rw [hft]; exact q_bz hx) (by rw [hft]; exact q_bf hx) hd (kk _ ⟨p1, p2, p3, p4, ?_, p6, fun i2 x2 hi2 hx2 => ?_, fun a ha => ?_⟩)
  · funext y
    rw [← p5]
    simp [q_u]
  · obtain ⟨a1, a2, a3, a4⟩ := p7 i2 x2 hi2 hx2
    exact ⟨a1, a2, by rw [q_u_ne (by omega)]; exact a3, a4⟩
  · obtain ⟨a1, a2, a3, a4⟩ := p8 a ha
    exact ⟨a1, a2, by rw [q_u_ne (by omega)]; exact a3, a4⟩
/-- a long field set -/
theorem ev_longP {B : Nat × Nat} {x : Int64} {k idx : Nat} (hok : q_ok G) (hP : PJ G ci wl o n0 sh0 Rf0 I0 L0 j F FL n sh Rf I L) (hf : q_fl G M.1.cls idx ci k false) (hft : q_ft G ci k = .long) (hd : decode M.2.1 pc = .ok (.putfield idx, 3))
    (kk : ∀ L', PJ G ci wl o n0 sh0 Rf0 I0 L0 j F (fun y => if y = k then x else FL y) n sh Rf I L' → Ev G M d B (pc + 3) lv st (n, sh, Rf, I, L') post) : Ev G M d B pc lv (.long x :: .ref o :: st) (n, sh, Rf, I, L) post := by
  obtain ⟨p1, p2, p3, p4, p5, p6, p7, p8⟩ := id hP
  refine ev_putL hok hf hP.own (fun r i l => by rw [hft]; rfl) (by rw [hft]; rfl) (by rw [hft]; rfl) hd (kk _ ⟨p1, p2, p3, p4, p5, ?_, fun i2 x2 hi2 hx2 => ?_, fun a ha => ?_⟩)
  · funext y
    rw [← p6]
    simp [q_u]
  · obtain ⟨a1, a2, a3, a4⟩ := p7 i2 x2 hi2 hx2
    exact ⟨a1, a2, a3, by rw [q_u_ne (by omega)]; exact a4⟩
  · obtain ⟨a1, a2, a3, a4⟩ := p8 a ha
    exact ⟨a1, a2, a3, by rw [q_u_ne (by omega)]; exact a4⟩
end Make
section Plain
variable {D : va_G} {cA : FieldType → ClassId} {b : Nat} {E : State → Prop}
theorem pt_int : q_pt (qGG D cA b E) .int .int := ⟨rfl, (show FieldType.int ∈ qtl by decide), fun _ _ h => h, fun cA N => vp_cell_i _ _ _, (q_t1 131 (by decide +kernel) rfl), by decide⟩
theorem pt_long : q_pt (qGG D cA b E) .long .long := ⟨rfl, (show FieldType.long ∈ qtl by decide), fun _ _ h => h, fun cA N => vp_cell_l _ _ _, (q_t1 132 (by decide +kernel) rfl), by decide⟩
theorem pt_byte : q_pt (qGG D cA b E) .byte .byte := ⟨rfl, (show FieldType.byte ∈ qtl by decide), fun _ _ h => h, fun cA N => vp_cell_i _ _ _, (q_t1 133 (by decide +kernel) rfl), by decide⟩
theorem pt_boolean : q_pt (qGG D cA b E) .boolean .boolean := ⟨rfl, (show FieldType.boolean ∈ qtl by decide), fun _ _ h => h, fun cA N => vp_cell_i _ _ _, (q_t10 235 (by decide +kernel) rfl), by decide⟩
end Plain
