/-! A call in a smaller window: what lies below it stays. By hand. -/
abbrev qTr : State → Prop := fun _ => True
/-- the cells below B of the first, from B on of the second -/
def q_gl (B : Nat) (σ τ : qS) : qS := (σ.1, fun a => if a < B then σ.2.1 a else τ.2.1 a, fun a => if a < B then σ.2.2.1 a else τ.2.2.1 a, fun a => if a < B then σ.2.2.2.1 a else τ.2.2.2.1 a, fun a => if a < B then σ.2.2.2.2 a else τ.2.2.2.2 a)
def gl {α : Type} (B : Nat) (I I' : Nat → α) : Nat → α := fun a => if a < B then I a else I' a
theorem gl_lo {α : Type} {B a : Nat} {I I' : Nat → α} (h : a < B) : gl B I I' a = I a := if_pos h
theorem gl_hi {α : Type} {B a : Nat} {I I' : Nat → α} (h : B ≤ a) : gl B I I' a = I' a := if_neg (Nat.not_lt.mpr h)
theorem gl_self {α : Type} {B : Nat} {I : Nat → α} : gl B I I = I := by
  funext a
  unfold gl
  split <;> rfl
theorem q_gl_same {B n m : Nat} {sh : Nat → qC} {Rf : Nat → Nat → Option Nat} {I I' : Nat → Nat → Int32} {L L' : Nat → Nat → Int64} : q_gl B (n, sh, Rf, I, L) (m, sh, Rf, I', L') = (n, sh, Rf, gl B I I', gl B L L') := by
  unfold q_gl
  rw [show (fun a => if a < B then sh a else sh a) = sh from gl_self, show (fun a => if a < B then Rf a else Rf a) = Rf from gl_self]
  rfl
section WIN
variable {D : va_G} {cA : FieldType → ClassId} {b w n : Nat} {E : State → Prop} {M M' : qM} {d d' pc idx kn : Nat} {lv : List (Nat × Value)} {sh : Nat → qC} {Rf : Nat → Nat → Option Nat} {I : Nat → Nat → Int32} {L : Nat → Nat → Int64} {post post' : Option Value → qS → Prop}
theorem q_cell_lo {B a : Nat} {σ τ : qS} (h : a < B) : q_cell (qGG D cA b E) (q_gl B σ τ) a = q_cell (qGG D cA b E) σ a := by
  unfold q_cell q_fs q_gl
  simp only [if_pos h]
theorem q_cell_hi {B a : Nat} {σ τ : qS} (h : ¬ a < B) : q_cell (qGG D cA b E) (q_gl B σ τ) a = q_cell (qGG D cA b E) τ a := by
  unfold q_cell q_fs q_gl
  simp only [if_neg h]
theorem q_cell_any {b2 a : Nat} {E2 : State → Prop} {σ : qS} : q_cell (qGG D cA b2 E2) σ a = q_cell (qGG D cA b E) σ a := rfl
theorem q_met_win {k : Nat} {av : List Value} (l : Launch) (hw : w ≤ n) (hM : q_mM (qGG D cA b E) M k) (hlen : (lg_sl av).length ≤ M.2.2.1) (h : Ev (qGG D cA (b + w) qTr) M d (0, 0) 0 (lv_args 0 av) [] (n - w, sh, Rf, I, L) post') :
    Met l M.1 (q_cw (qGG D cA b E) M) (q_rm d (0, 0)) (q_P (qGG D cA b E) av (n, sh, Rf, I, L)) (q_Q (qGG D cA b E) n (fun v τ => ∃ τ', post' v τ' ∧ τ = q_gl (b + w) (n, sh, Rf, I, L) τ')) 0 0 (q_A (qGG D cA b E)) := by
  refine Met.ofW (cc := M.2.1) (maxL := M.2.2.1) (ret := M.2.2.2) hM.2.1 rfl ?_
  intro p e s m args below meth c s₁ Bd hml hv
  obtain ⟨rfl, hsz, hH, hK, hE⟩ := hv
  have hsz' : s.heap.size = b + n := hsz
  have hts := atoms_spec (ws := q_cw (qGG D cA b E) M) Bd.pre
  have hl := lv_entry av (n := M.2.2.1) hlen
  rw [lg_entry_eq]
  have hH' : q_H (qGG D cA (b + w) qTr) (n - w, sh, Rf, I, L) s.heap := by
    intro k q hk
    obtain ⟨h1, rfl⟩ := q_ws_inv hk
    have h2 : k < n - w := h1
    have h3 := hH (w + k) _ (q_ws_k (qGG D cA b E) (n, sh, Rf, I, L) (show w + k < n by omega))
    have e : b + (w + k) = b + w + k := (Nat.add_assoc b w k).symm
    have h4 : va_at D qcl (b + (w + k), q_cell (qGG D cA b E) (n, sh, Rf, I, L) (b + (w + k))) s.heap := h3
    rw [e] at h4
    exact h4
  have hw' := h p l e (headSpec (q_cw (qGG D cA b E) M) (q_rm d (0, 0))).room s m av.toArray below meth c s.heap [] 0 0 _ ⟨Bd.exec, Bd.bytes, hml, Bd.returns, Bd.notSynchronized, findClass_of_methodNamed Bd.named, fun w hw => hts w (List.mem_cons_of_mem _ hw), hK, trivial, (name_of_methodNamed Bd.named Bd.method).1⟩ (Nat.le_refl _) (Nat.le_refl _) (by rw [Nat.zero_add]; exact Nat.le_refl _) (by rw [Nat.zero_add]; exact Nat.le_refl _) (show b + w ≤ s.heap.size by omega) (show s.heap.size + 0 ≤ b + w + (n - w) by omega) hH' va_S.rf hl
  intro T hT X
  obtain ⟨t, a1, oc, b1, b2, ⟨⟨v, τ, c1, c2, c3, c4⟩, c5⟩, L1, f1, f2⟩ := hw' T hT X
  have c3' : τ.1 = n - w := c3
  refine ⟨t, a1, oc, b1, b2, ⟨⟨v, q_gl (b + w) (n, sh, Rf, I, L) τ, c1, ⟨τ, c2, rfl⟩, rfl, ?_⟩, c5.1, fun q q1 q2 => c5.2 q q1 (fun z => q2 (Nat.le_trans (Nat.le_add_right b w) z))⟩, L1, f1, fun q hq => Nat.le_trans (Nat.le_add_right b w) (f2 q hq)⟩
  intro k q hk
  obtain ⟨h1, rfl⟩ := q_ws_inv hk
  have h2 : k < n := h1
  show va_at D qcl (b + k, q_cell (qGG D cA b E) (q_gl (b + w) (n, sh, Rf, I, L) τ) (b + k)) t.heap
  by_cases z : k < w
  · rw [q_cell_lo (by omega)]
    have h3 : va_at D qcl (b + k, q_cell (qGG D cA b E) (n, sh, Rf, I, L) (b + k)) s.heap := hH k _ (q_ws_k (qGG D cA b E) (n, sh, Rf, I, L) h2)
    exact h3.kept (c5.2 (b + k) (by omega) (fun y => by have y' : b + w ≤ b + k := y; omega))
  · rw [q_cell_hi (by omega)]
    have h3 : va_at D qcl (b + w + (k - w), q_cell (qGG D cA (b + w) qTr) τ (b + w + (k - w))) t.heap := c4 (k - w) _ (q_ws_k (qGG D cA (b + w) qTr) τ (by omega))
    rw [show b + w + (k - w) = b + k by omega] at h3
    exact h3
/-- a call of a method of an object whose cells, and all that it reaches, lie from b + w on -/
theorem ev_callVw {a ci : Nat} {q : vw_C} {st : List Value} {B : Nat × Nat} (As rest : List Value) (hwn : w ≤ n) (hok : q_ok (qGG D cA b E)) (hM : q_mM (qGG D cA b E) M' kn) (hV : q_mV (qGG D cA b E) M.1.cls idx M') (hc : (q_cl (qGG D cA b E))[ci]? = some q) (hq : q.1 = M'.1.cls) (ha : q_in (qGG D cA b E) (n, sh, Rf, I, L) a (.inr ci)) (hst : st = As.reverse ++ .ref a :: rest) (hlen : (lg_sl (.ref a :: As)).length ≤ M'.2.2.1) (hn : As.length = kn) (hsum : (rest.map fun v => v.category).sum ≤ 8) (hd : decode M.2.1 pc = .ok (.invokevirtual idx, 3)) (hdd : d' + 1 ≤ d) (h : Ev (qGG D cA (b + w) qTr) M' d' (0, 0) 0 (lv_args 0 (.ref a :: As)) [] (n - w, sh, Rf, I, L) post') (kk : ∀ v τ, post' v τ → Ev (qGG D cA b E) M d B (pc + 3) lv (v.toList ++ rest) (q_gl (b + w) (n, sh, Rf, I, L) τ) post) : Ev (qGG D cA b E) M d B pc lv st (n, sh, Rf, I, L) post := by
  have hB : B = ((0, 0).1 + B.1, (0, 0).2 + B.2) := by rw [Nat.zero_add, Nat.zero_add]
  have kk' : ∀ v τ, (∃ τ', post' v τ' ∧ τ = q_gl (b + w) (n, sh, Rf, I, L) τ') → Ev (qGG D cA b E) M d B (pc + 3) lv (v.toList ++ rest) τ post := by
    rintro v τ ⟨τ', h1, rfl⟩
    exact kk v τ' h1
  intro p l e R s m args below meth c H locs cells slots ls X h1 h2 h3 h4 h5 hz hH hS hl
  intro T hT Y
  have hHT : q_H (qGG D cA b E) (n, sh, Rf, I, L) T.heap := by rw [hT]; exact hH
  have hST : va_S (q_A (qGG D cA b E)) s.heap T.heap locs := by rw [hT]; exact hS
  have hsz : H.size = q_b (qGG D cA b E) + (n, sh, Rf, I, L).1 := by rw [← hT]; exact q_sz Y h5 hz hHT hST
  obtain ⟨hx, hb, hml, hr, hlk, hown, hts, hK, hE, hnm⟩ := id X
  have hR := q_room (B' := (0, 0)) hM hdd h1 h2
  have hf : cells + 0 ≤ R.cells ∧ slots + 0 ≤ R.slots := ⟨Nat.le_trans (Nat.add_le_add_left (Nat.zero_le _) _) h3, Nat.le_trans (Nat.add_le_add_left (Nat.zero_le _) _) h4⟩
  have hT2 : GoodIn (q_Ts (qGG D cA b E)) (wsV M.1.cls idx M'.1.cls M'.1 (q_cw (qGG D cA b E) M')) := by
    intro w hw
    rcases List.mem_append.mp hw with h | h
    · rcases List.mem_cons.mp h with rfl | h
      · exact q_goodw hok hV.1
      rcases List.mem_cons.mp h with rfl | h
      · exact q_goodw hok hV.2.1
      rcases List.mem_cons.mp h with rfl | h
      · exact q_goodw hok hV.2.2
      rcases List.mem_cons.mp h with rfl | h
      · exact q_goodw hok hM.2.2.1
      · cases h
    · exact q_good hok hM w h
  refine q_go (B := B) (B' := (0, 0)) (B'' := B) hB X h1 h2 h3 h4 h5 hz hS hl kk' (a := ((.ref a :: As) : List Value).toArray) (va_runV (Ts := q_Ts (qGG D cA b E)) (own := M.1.cls) (C := M'.1.cls) (b := a) (As := As) ⟨hx, hb, hml, hown, hts⟩ (q_met_win l hwn hM hlen h) (cwV kn hts hT2 rfl rfl rfl ⟨rfl, hM.2.2.2.1.1, hM.2.2.2.1.2, hM.2.2.2.2.1⟩ hR) ⟨q_blind hok _ _, hq ▸ va_recv hK hH hc (q0 := a - q_b (qGG D cA b E)) (by rw [q_ws_get ha.1 ha.2.1, q_cell_o ha.2.2]), fun U hU hW => q_pre hok hE hS h5 hU hW hK hH hsz⟩ rfl hn hl.1 hst (lv_room hsum) hd hf) T hT Y
end WIN
