/-! The slim logic's rows for what is made: objects, arrays; Object(); System.arraycopy. -/
def q_z {α : Type} (f : Nat → Nat → α) (a : Nat) (z : α) : Nat → Nat → α := fun x y => if x = a then z else f x y
def q_c (f : Nat → qC) (a : Nat) (z : qC) : Nat → qC := fun x => if x = a then z else f x
theorem q_z_at {α : Type} {f : Nat → Nat → α} {a : Nat} {z : α} : q_z f a z a = fun _ => z := by
  funext y
  simp [q_z]
theorem q_z_ne {α : Type} {f : Nat → Nat → α} {a x : Nat} {z : α} (h : x ≠ a) : q_z f a z x = f x := by
  funext y
  simp [q_z, h]
theorem q_c_at {f : Nat → qC} {a : Nat} {z : qC} : q_c f a z a = z := by simp [q_c]
theorem q_c_ne {f : Nat → qC} {a x : Nat} {z : qC} (h : x ≠ a) : q_c f a z x = f x := by simp [q_c, h]
/-- the state with one more cell -/
abbrev q_more (G : qG) (n : Nat) (sh : Nat → qC) (Rf : Nat → Nat → Option Nat) (I : Nat → Nat → Int32) (L : Nat → Nat → Int64) (x : qC) : qS := (n + 1, q_c sh (q_b G + n) x, q_z Rf (q_b G + n) none, q_z I (q_b G + n) 0, q_z L (q_b G + n) 0)
theorem q_push {G : qG} {n : Nat} {sh : Nat → qC} {Rf : Nat → Nat → Option Nat} {I : Nat → Nat → Int32} {L : Nat → Nat → Int64} {x : qC} {H H1 : Heap} (hH : q_H G (n, sh, Rf, I, L) H) (hsz : H.size = q_b G + n) (ho : ∀ q, q < H.size → H1[q]? = H[q]?) (hx : va_at (q_D G) (q_cl G) (q_b G + n, q_cell G (q_more G n sh Rf I L x) (q_b G + n)) H1) : q_H G (q_more G n sh Rf I L x) H1 := by
  intro k q hk
  obtain ⟨hl, rfl⟩ := q_ws_inv hk
  by_cases hkn : k = n
  · subst hkn
    exact hx
  · have hlt : k < n := by
      have : k < n + 1 := hl
      omega
    have h1 := hH k _ (q_ws_k G (n, sh, Rf, I, L) hlt)
    have hne : q_b G + k ≠ q_b G + n := by omega
    have h2 : q_cell G (q_more G n sh Rf I L x) (q_b G + k) = q_cell G (n, sh, Rf, I, L) (q_b G + k) := q_cell_ne (q_c_ne hne) (q_z_ne hne) (q_z_ne hne) (q_z_ne hne)
    rw [h2]
    exact h1.kept (ho _ (by dsimp only; omega))
section EvNew
variable {G : qG} {M : qM} {d pc idx kc ks : Nat} {lv : List (Nat × Value)} {st : List Value} {n : Nat} {sh : Nat → qC} {Rf : Nat → Nat → Option Nat} {I : Nat → Nat → Int32} {L : Nat → Nat → Int64} {post : Option Value → qS → Prop}
theorem q_S_more {H0 H H1 : Heap} {locs : List Loc} (hS : va_S (q_A G) H0 H locs) (h1 : H1.size = H.size + 1) (ho : ∀ q, q < H.size → H1[q]? = H[q]?) : va_S (q_A G) H0 H1 locs :=
  ⟨Nat.le_trans hS.1 (by omega), fun q q1 q2 => (ho q (Nat.lt_of_lt_of_le q1 hS.1)).trans (hS.2.1 q q1 q2), hS.2.2⟩
/-- newarray of a plain type -/
theorem ev_newa {atype : ArrayType} {i : Int32} {w : Nat} (t : FieldType) (hty : newarray.typeOf atype = t) (htl : t ∈ q_tl G) (hra : ∀ (s : State) (cA : ClassId), va_RA s cA t → s.vm.findClass ("[" ++ t.toString) = some cA)
    (hdef : ∀ (cA : ClassId) (N : Nat), vp_cell cA (N, q_av t (fun _ => none) (fun _ => 0) (fun _ => 0)) = arrV cA N (fun _ => defaultValue t)) (hw : Cond.arrayClass t ∈ q_Ts G) (hi : ¬ i < 0) (hN : i.toNatClampNeg = w) (hb : w * componentBytes t ≤ 536870912)
    (hd : decode M.2.1 pc = .ok (.newarray atype, 2)) (kk : Ev G M d (kc, ks) (pc + 2) lv (.ref (q_b G + n) :: st) (q_more G n sh Rf I L (.inl (t, w))) post) : Ev G M d (kc + 1, ks + w) pc lv (.int i :: st) (n, sh, Rf, I, L) post := by
  intro p l e R s m args below meth c H locs cells slots ls X h1 h2 h3 h4 h5 hz hH hS hl
  intro T hT Y
  have hsz : H.size = q_b G + n := by
    have hHT : q_H G (n, sh, Rf, I, L) T.heap := by rw [hT]; exact hH
    have hST : va_S (q_A G) s.heap T.heap locs := by rw [hT]; exact hS
    rw [← hT]
    exact q_sz Y h5 hz hHT hST
  obtain ⟨hx, hbb, hml, hr, hlk, hown, hts, hK, hE, hnm⟩ := id X
  subst hty
  obtain ⟨t0, ht0⟩ := q_ty (G := G) htl
  refine (show W p l e R s m args below meth c H locs cells slots _ (F0 m pc ls (.int i :: st)) from ?_) T hT Y
  refine va_newaK hx hbb (hts _ hw) rfl hd rfl hi hN hb (by dsimp only at h3; omega) (by dsimp only at h4; omega) hsz (fun H1 cA e1 z1 o1 hAr hNm => ?_)
  have hcA : cA = q_cA G (newarray.typeOf atype) := by
    have := hra s _ (hK.2 t0 _ ht0).2
    exact Option.some.inj (hNm.symm.trans this)
  subst hcA
  rw [← hsz] at o1
  have hP1 : q_H G (q_more G n sh Rf I L (.inl (newarray.typeOf atype, w))) H1 := by
    refine q_push hH hsz o1 ?_
    rw [q_cell_a (t := newarray.typeOf atype) (n := w) q_c_at]
    show H1[q_b G + n]? = some (vp_cell _ _)
    dsimp only
    rw [q_z_at, q_z_at, q_z_at, hdef]
    exact e1
  have hw := kk p l e R s m args below meth c H1 locs (cells + 1) (slots + w) ls X h1 h2 (by dsimp only at h3 ⊢; omega) (by dsimp only at h4 ⊢; omega) h5 (by dsimp only at hz ⊢; omega) hP1 (q_S_more hS (by omega) o1) hl
  have q1 : (q_more G n sh Rf I L (.inl (newarray.typeOf atype, w))).1 + (kc, ks).1 = (n, sh, Rf, I, L).1 + (kc + 1, ks + w).1 := by dsimp only; omega
  have q2 : cells + 1 + (kc, ks).1 = cells + (kc + 1, ks + w).1 := by dsimp only; omega
  have q3 : slots + w + (kc, ks).2 = slots + (kc + 1, ks + w).2 := by dsimp only; omega
  rw [q1, q2, q3] at hw
  exact hw
/-- new -/
theorem ev_new {ci : Nat} {q : vw_C} (hok : q_ok G) (hc : (q_cl G)[ci]? = some q) (hcl : Cond.classLink M.1.cls idx q.1 ∈ q_Ts G) (hin : Cond.instantiable q.1 q.2.2 ∈ q_Ts G) (hini : Cond.initialized q.1 ∈ q_Ts G) (hdf : ∀ k, k < q.2.2 → defaultValue (q_ft G ci k) = q_fv (q_ft G ci k) none 0 0)
    (hd : decode M.2.1 pc = .ok (.new idx, 3)) (kk : Ev G M d (kc, ks) (pc + 3) lv (.ref (q_b G + n) :: st) (q_more G n sh Rf I L (.inr ci)) post) : Ev G M d (kc + 1, ks + q.2.2) pc lv st (n, sh, Rf, I, L) post := by
  intro p l e R s m args below meth c H locs cells slots ls X h1 h2 h3 h4 h5 hz hH hS hl
  intro T hT Y
  have hsz : H.size = q_b G + n := by
    have hHT : q_H G (n, sh, Rf, I, L) T.heap := by rw [hT]; exact hH
    have hST : va_S (q_A G) s.heap T.heap locs := by rw [hT]; exact hS
    rw [← hT]
    exact q_sz Y h5 hz hHT hST
  obtain ⟨hx, hbb, hml, hr, hlk, hown, hts, hK, hE, hnm⟩ := id X
  have hKn := hK.1 ci q hc
  refine (show W p l e R s m args below meth c H locs cells slots _ (F0 m pc ls st) from ?_) T hT Y
  refine W.newcK hx hbb hown (hts _ hcl) (hts _ hin) (hts _ hini) rfl hd (by dsimp only at h3; omega) (by dsimp only at h4; omega) hKn.2.1 hsz (fun H1 kC hkC e1 z1 o1 => ?_)
  rw [← hsz] at o1
  have hP1 : q_H G (q_more G n sh Rf I L (.inr ci)) H1 := by
    refine q_push hH hsz o1 ?_
    rw [q_cell_o (ci := ci) q_c_at]
    refine ⟨q, hc, (u_born (q_ft G ci) hts (hok.1 ci q hc).1 hKn hkC e1 (hok.1 ci q hc).2.1).to (fun j hj => ?_)⟩
    unfold vp_V
    rw [List.getD_eq_getElem?_getD, q_fs_at hc hj]
    dsimp only [Option.getD]
    rw [q_z_at, q_z_at, q_z_at]
    exact hdf j hj
  have hw := kk p l e R s m args below meth c H1 locs (cells + 1) (slots + q.2.2) ls X h1 h2 (by dsimp only at h3 ⊢; omega) (by dsimp only at h4 ⊢; omega) h5 (by dsimp only at hz ⊢; omega) hP1 (q_S_more hS (by omega) o1) hl
  have q1 : (q_more G n sh Rf I L (.inr ci)).1 + (kc, ks).1 = (n, sh, Rf, I, L).1 + (kc + 1, ks + q.2.2).1 := by dsimp only; omega
  have q2 : cells + 1 + (kc, ks).1 = cells + (kc + 1, ks + q.2.2).1 := by dsimp only; omega
  have q3 : slots + q.2.2 + (kc, ks).2 = slots + (kc + 1, ks + q.2.2).2 := by dsimp only; omega
  rw [q1, q2, q3] at hw
  exact hw
/-- anewarray -/
theorem ev_anew {C : String} {i : Int32} {w : Nat} (htl : FieldType.object C ∈ q_tl G) (hover : ∀ s : State, q_E G s → va_AO C s) (hcl : Cond.classLink M.1.cls idx C ∈ q_Ts G) (hi : ¬ i < 0) (hN : i.toNatClampNeg = w) (hb : w * 4 ≤ 536870912)
    (hd : decode M.2.1 pc = .ok (.anewarray idx, 3)) (kk : Ev G M d (kc, ks) (pc + 3) lv (.ref (q_b G + n) :: st) (q_more G n sh Rf I L (.inl (.object C, w))) post) : Ev G M d (kc + 1, ks + w) pc lv (.int i :: st) (n, sh, Rf, I, L) post := by
  intro p l e R s m args below meth c H locs cells slots ls X h1 h2 h3 h4 h5 hz hH hS hl
  intro T hT Y
  have hsz : H.size = q_b G + n := by
    have hHT : q_H G (n, sh, Rf, I, L) T.heap := by rw [hT]; exact hH
    have hST : va_S (q_A G) s.heap T.heap locs := by rw [hT]; exact hS
    rw [← hT]
    exact q_sz Y h5 hz hHT hST
  obtain ⟨hx, hbb, hml, hr, hlk, hown, hts, hK, hE, hnm⟩ := id X
  subst hN
  obtain ⟨t0, ht0⟩ := q_ty (G := G) htl
  refine (show W p l e R s m args below meth c H locs cells slots _ (F0 m pc ls (.int i :: st)) from ?_) T hT Y
  refine W.anew hx hbb hown (hts _ hcl) (va_AO.use (hover s hE)) rfl hd rfl hi hb (by dsimp only at h3; omega) (by dsimp only at h4; omega) (fun cA kA comp f1 f2 f3 f4 => ?_)
  have hcA : cA = q_cA G (.object C) := by
    obtain ⟨_, _, -, -, -, hf⟩ := (hK.2 t0 _ ht0).2
    exact Option.some.inj (f1.symm.trans hf)
  subst hcA
  rw [hsz]
  generalize hH1 : H.push ({ cls := q_cA G (.object C), slots := Array.replicate i.toNatClampNeg .null, vm := .none } : Cell) = H1
  have z1 : H1.size = H.size + 1 := by rw [← hH1, Array.size_push]
  have e1 : H1[H.size]? = some (arrV (q_cA G (.object C)) i.toNatClampNeg (fun _ => .null)) := by rw [← hH1, Array.getElem?_push_size, ← arrV_new]
  have o1 : ∀ q : Nat, q < H.size → H1[q]? = H[q]? := fun q hq => by rw [← hH1, Array.getElem?_push, if_neg (Nat.ne_of_lt hq)]
  have hP1 : q_H G (q_more G n sh Rf I L (.inl (.object C, i.toNatClampNeg))) H1 := by
    refine q_push hH hsz o1 ?_
    rw [q_cell_a (t := .object C) (n := i.toNatClampNeg) q_c_at]
    show H1[q_b G + n]? = some (vp_cell _ (_, Sum.inr (Sum.inr (Sum.inr (Sum.inr _)))))
    dsimp only
    rw [q_z_at, vp_cell_q, ← hsz]
    exact e1
  have hw := kk p l e R s m args below meth c H1 locs (cells + 1) (slots + i.toNatClampNeg) ls X h1 h2 (by dsimp only at h3 ⊢; omega) (by dsimp only at h4 ⊢; omega) h5 (by dsimp only at hz ⊢; omega) hP1 (q_S_more hS z1 o1) hl
  have q1 : (q_more G n sh Rf I L (.inl (.object C, i.toNatClampNeg))).1 + (kc, ks).1 = (n, sh, Rf, I, L).1 + (kc + 1, ks + i.toNatClampNeg).1 := by dsimp only; omega
  have q2 : cells + 1 + (kc, ks).1 = cells + (kc + 1, ks + i.toNatClampNeg).1 := by dsimp only; omega
  have q3 : slots + i.toNatClampNeg + (kc, ks).2 = slots + (kc + 1, ks + i.toNatClampNeg).2 := by dsimp only; omega
  rw [q1, q2, q3] at hw
  exact hw
end EvNew
section EvLib
variable {G : qG} {M : qM} {d pc idx : Nat} {B : Nat × Nat} {lv : List (Nat × Value)} {st : List Value} {n : Nat} {sh : Nat → qC} {Rf : Nat → Nat → Option Nat} {I : Nat → Nat → Int32} {L : Nat → Nat → Int64} {σ : qS} {post : Option Value → qS → Prop}
/-- Object() -/
theorem ev_obj {a : Nat} (h0 : 1 ≤ d) (hl1 : Cond.methodLink M.1.cls idx Lib.objectInit ∈ q_Ts G) (hin : Cond.instanceMethod Lib.objectInit ∈ q_Ts G) (hco : Cond.code Lib.objectInit ⟨#[0xb1]⟩ 1 none ∈ q_Ts G) (hsum : (st.map fun v => v.category).sum ≤ 8) (hd : decode M.2.1 pc = .ok (.invokespecial idx, 3)) (kk : Ev G M d B (pc + 3) lv st σ post) : Ev G M d B pc lv (.ref a :: st) σ post := by
  intro p l e R s m args below meth c H locs cells slots ls X h1 h2 h3 h4 h5 hz hH hS hl
  obtain ⟨hx, hbb, hml, hr, hlk, hown, hts, hK, hE, hnm⟩ := id X
  have hq := lv_room (m := m) (pc := pc) (ls := ls) (rest := Value.ref a :: st) hsum
  refine W.objInit hx hbb hown (hts _ hl1) (hts _ hin) (hts _ hco) rfl (by rw [hml]; exact hl.1) rfl hd (by omega) (by omega) ?_
  exact kk p l e R s m args below meth c H locs cells slots ls X h1 h2 h3 h4 h5 hz hH hS hl
end EvLib
