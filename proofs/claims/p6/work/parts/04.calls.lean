/-! The slim logic's rows for calls: a callee is known by its own Ev at its entry. -/
def q_mM (G : qG) (M : qM) (k : Nat) : Prop := Cond.code M.1 M.2.1 M.2.2.1 M.2.2.2 ∈ q_Ts G ∧ plainName M.1.cls = true ∧ Cond.initialized M.1.cls ∈ q_Ts G ∧ (M.1.cls ≠ "java/lang/invoke/MethodHandle" ∧ M.1.cls ≠ "java/lang/invoke/VarHandle") ∧ (parseMethodDescriptor M.1.desc).map (fun d => d.parameters.length) = some k ∧ M.2.2.1 ≤ 45
/-- the words of a call: invokevirtual, invokestatic, invokespecial of a constructor; by a link of the class's own, or of its nest -/
def q_mV (G : qG) (own : String) (idx : Nat) (M : qM) : Prop := Cond.methodLink own idx M.1 ∈ q_Ts G ∧ Cond.instanceMethod M.1 ∈ q_Ts G ∧ Cond.selects M.1.cls M.1 M.1 ∈ q_Ts G
def q_mS (G : qG) (own : String) (idx : Nat) (M : qM) : Prop := Cond.methodLink own idx M.1 ∈ q_Ts G ∧ Cond.static M.1 ∈ q_Ts G
def q_mI (G : qG) (own : String) (idx : Nat) (M : qM) : Prop := Cond.methodLink own idx M.1 ∈ q_Ts G ∧ Cond.instanceMethod M.1 ∈ q_Ts G ∧ M.1.name = "<init>"
def q_nV (G : qG) (own : String) (idx : Nat) (M : qM) (host : String) : Prop := (∀ s : State, q_E G s → va_Nw (.methodLinkNest own idx M.1 host) s) ∧ Cond.instanceMethod M.1 ∈ q_Ts G ∧ Cond.selects M.1.cls M.1 M.1 ∈ q_Ts G
def q_nS (G : qG) (own : String) (idx : Nat) (M : qM) (host : String) : Prop := (∀ s : State, q_E G s → va_Nw (.methodLinkNest own idx M.1 host) s) ∧ Cond.static M.1 ∈ q_Ts G
def q_nI (G : qG) (own : String) (idx : Nat) (M : qM) (host : String) : Prop := (∀ s : State, q_E G s → va_Nw (.methodLinkNest own idx M.1 host) s) ∧ Cond.instanceMethod M.1 ∈ q_Ts G ∧ M.1.name = "<init>"
abbrev q_cw (G : qG) (M : qM) : List Cond := Cond.code M.1 M.2.1 M.2.2.1 M.2.2.2 :: q_Ts G
abbrev q_rm (d : Nat) (B : Nat × Nat) : Room := { frames := d, cells := B.1, slots := B.2, locals := d * 64 }
abbrev q_P (G : qG) (av : List Value) (σ : qS) : Array Value → State → Prop := va_Pc av (fun U => U.heap.size = q_b G + σ.1 ∧ q_H G σ U.heap ∧ va_K (q_D G) (q_cl G) (q_tys G) U ∧ q_E G U)
theorem q_good {G : qG} {M : qM} {k : Nat} (hok : q_ok G) (hM : q_mM G M k) : GoodIn (q_Ts G) (q_cw G M) := by
  intro w hw
  have h : w ∈ q_Ts G := by
    rcases List.mem_cons.mp hw with rfl | h
    · exact hM.1
    · exact h
  exact ⟨h, good_of_word (hok.2.1 w h)⟩
theorem q_blind {G : qG} (hok : q_ok G) (av : List Value) (σ : qS) : FrameBlind (q_P G av σ) := by
  intro a U g mk h
  obtain ⟨h1, h2, h3, h4, h5⟩ := h
  exact ⟨h1, h2, h3, va_K.moved (u := U) (U := U.calling g mk a) (Vm.Alike.refl U.vm) h4, hok.2.2.2.2.2.2.2 U g mk a h5⟩
theorem q_met {G : qG} {M : qM} {d k : Nat} {B : Nat × Nat} {av : List Value} {σ : qS} {post : Option Value → qS → Prop} (l : Launch) (hM : q_mM G M k) (hlen : (lg_sl av).length ≤ M.2.2.1) (h : Ev G M d B 0 (lv_args 0 av) [] σ post) :
    Met l M.1 (q_cw G M) (q_rm d B) (q_P G av σ) (q_Q G (σ.1 + B.1) post) B.1 B.2 (q_A G) := by
  refine Met.ofW (cc := M.2.1) (maxL := M.2.2.1) (ret := M.2.2.2) hM.2.1 rfl ?_
  intro p e s m args below meth c s₁ Bd hml hv
  obtain ⟨rfl, hsz, hH, hK, hE⟩ := hv
  have hts := atoms_spec (ws := q_cw G M) Bd.pre
  have hl := lv_entry av (n := M.2.2.1) hlen
  rw [lg_entry_eq]
  have hw := h p l e (headSpec (q_cw G M) (q_rm d B)).room s m av.toArray below meth c s.heap [] 0 0 _ ⟨Bd.exec, Bd.bytes, hml, Bd.returns, Bd.notSynchronized, findClass_of_methodNamed Bd.named, fun w hw => hts w (List.mem_cons_of_mem _ hw), hK, hE, (name_of_methodNamed Bd.named Bd.method).1⟩ (Nat.le_refl _) (Nat.le_refl _) (by rw [Nat.zero_add]; exact Nat.le_refl _) (by rw [Nat.zero_add]; exact Nat.le_refl _) (by rw [hsz]; exact Nat.le_add_right _ _) (by rw [hsz]; exact Nat.le_refl _) hH va_S.rf hl
  rw [Nat.zero_add, Nat.zero_add] at hw
  exact hw
section EvCall
variable {G : qG} {M M' : qM} {d d' pc idx kn : Nat} {B' B'' : Nat × Nat} {lv : List (Nat × Value)} {As rest : List Value} {σ : qS} {post post' : Option Value → qS → Prop}
/-- behind a call -/
theorem q_go {p : Program} {l : Launch} {e : Env} {R : Room} {s : State} {m : MethodId} {args : Array Value} {below : List Frame} {meth : Method} {c : Code} {H : Heap} {locs : List Loc} {cells slots : Nat} {ls : Array Slot} {st0 : List Value} {a : Array Value} {B : Nat × Nat} (hB : B = (B'.1 + B''.1, B'.2 + B''.2))
    (X : q_X G M p s m args meth c) (h1 : d ≤ R.frames) (h2 : d * 64 ≤ R.locals) (h3 : cells + B.1 ≤ R.cells) (h4 : slots + B.2 ≤ R.slots) (h5 : q_b G ≤ s.heap.size) (hz : s.heap.size + cells ≤ q_b G + σ.1) (hS : va_S (q_A G) s.heap H locs) (hl : lv_has ls M.2.2.1 lv)
    (kk : ∀ v τ, post' v τ → Ev G M d B'' (pc + 3) lv (v.toList ++ rest) τ post)
    (hr : va_Run p l e R s m args below meth c H locs cells slots B'.1 B'.2 (F0 m pc ls st0) rest (q_Q G (σ.1 + B'.1) post' a) (q_A G)) :
    W p l e R s m args below meth c H locs cells slots (MQ below (q_Q G (σ.1 + B.1) post) args s (cells + B.1) (slots + B.2) (q_A G)) (F0 m pc ls st0) := by
  subst hB
  intro T hT Y
  obtain ⟨v, st₀, t, T', L, e0, Y', hL, e1, e2, ⟨⟨v', τ, ev, hp, hn, hH⟩, hF⟩, go⟩ := hr T hT Y
  cases ev
  unfold va_F at hF
  rw [e0] at hF
  have hS' : va_S (q_A G) s.heap T'.heap (locs ++ L) := ⟨Nat.le_trans hS.1 (by rw [e1]; exact hF.1), fun q q1 q2 => by rw [e1, hF.2 q (Nat.lt_of_lt_of_le q1 hS.1) q2]; exact hS.2.1 q q1 q2, fun q hq => by
    rcases List.mem_append.mp hq with h | h
    · exact hS.2.2 q h
    · exact hL q h⟩
  have hw := kk v τ hp p l e R s m args below meth c T'.heap (locs ++ L) (cells + B'.1) (slots + B'.2) ls X h1 h2 (by dsimp only at h3 ⊢; omega) (by dsimp only at h4 ⊢; omega) h5 (by omega) (by rw [e1]; exact hH) hS' hl
  obtain ⟨t2, a1, b1⟩ := hw T' rfl Y'
  refine ⟨t2, go t2 a1, ?_⟩
  have q1 : τ.1 + B''.1 = σ.1 + (B'.1 + B''.1) := by omega
  rw [q1, Nat.add_assoc, Nat.add_assoc] at b1
  exact b1
theorem q_pre {s U : State} {H : Heap} {locs : List Loc} {av : List Value} (hok : q_ok G) (hE : q_E G s) (hS : va_S (q_A G) s.heap H locs) (h5 : q_b G ≤ s.heap.size) (hU : U.heap = H) (hW : s.WarmedH U.vm) (hK : va_K (q_D G) (q_cl G) (q_tys G) s) (hH : q_H G σ H) (hsz : H.size = q_b G + σ.1) : q_P G av σ av.toArray U := ⟨rfl, by rw [hU]; exact hsz, by rw [hU]; exact hH, va_K.moved hW.alike hK, hok.2.2.2.2.2.2.1 s U hW (fun q hq => by rw [hU]; exact hS.2.1 q (Nat.lt_of_lt_of_le hq h5) (Nat.not_le.mpr hq)) hE⟩
theorem q_sz {p : Program} {l : Launch} {e : Env} {R : Room} {s T : State} {m : MethodId} {args : Array Value} {below : List Frame} {meth : Method} {c : Code} {locs : List Loc} {cells slots : Nat} (Y : Stand p l e R s m args below meth c T locs cells slots) (h5 : q_b G ≤ s.heap.size) (hz : s.heap.size + cells ≤ q_b G + σ.1) (hH : q_H G σ T.heap) (hS : va_S (q_A G) s.heap T.heap locs) : T.heap.size = q_b G + σ.1 := by
  have y1 : T.heap.size ≤ s.heap.size + cells := Y.same.2.2.1
  have y2 := q_big hH (Nat.le_trans h5 hS.1)
  omega
theorem q_goodw {w : Cond} (hok : q_ok G) (h : w ∈ q_Ts G) : w ∈ q_Ts G ∧ ((w.onTables && w.keeps) = true ∨ ∃ ty, w = .arrayClass ty) := ⟨h, good_of_word (hok.2.1 w h)⟩
theorem q_room {R : Room} (hM : q_mM G M' kn) (hdd : d' + 1 ≤ d) (h1 : d ≤ R.frames) (h2 : d * 64 ≤ R.locals) : (q_rm d' B').frames + 1 ≤ R.frames ∧ 8 + (M'.2.2.1 + 11) + (q_rm d' B').locals ≤ R.locals := by
  have h3 := hM.2.2.2.2.2
  have h4 := Nat.mul_le_mul_right 64 hdd
  refine ⟨Nat.le_trans hdd h1, ?_⟩
  show 8 + (M'.2.2.1 + 11) + d' * 64 ≤ R.locals
  omega
theorem ev_callV {a ci : Nat} {q : vw_C} {st : List Value} {B : Nat × Nat} (As rest : List Value) (hok : q_ok G) (hM : q_mM G M' kn) (hV : q_mV G M.1.cls idx M') (hc : (q_cl G)[ci]? = some q) (hq : q.1 = M'.1.cls) (ha : q_in G σ a (.inr ci)) (hst : st = As.reverse ++ .ref a :: rest) (hlen : (lg_sl (.ref a :: As)).length ≤ M'.2.2.1) (hn : As.length = kn) (hsum : (rest.map fun v => v.category).sum ≤ 8) (hd : decode M.2.1 pc = .ok (.invokevirtual idx, 3)) (hB : B = (B'.1 + B''.1, B'.2 + B''.2)) (hdd : d' + 1 ≤ d) (h : Ev G M' d' B' 0 (lv_args 0 (.ref a :: As)) [] σ post') (kk : ∀ v τ, post' v τ → Ev G M d B'' (pc + 3) lv (v.toList ++ rest) τ post) : Ev G M d B pc lv st σ post := by
  intro p l e R s m args below meth c H locs cells slots ls X h1 h2 h3 h4 h5 hz hH hS hl
  intro T hT Y
  have hHT : q_H G σ T.heap := by rw [hT]; exact hH
  have hST : va_S (q_A G) s.heap T.heap locs := by rw [hT]; exact hS
  have hsz : H.size = q_b G + σ.1 := by rw [← hT]; exact q_sz Y h5 hz hHT hST
  obtain ⟨hx, hb, hml, hr, hlk, hown, hts, hK, hE, hnm⟩ := id X
  have hR := q_room (B' := B') hM hdd h1 h2
  have hf : cells + B'.1 ≤ R.cells ∧ slots + B'.2 ≤ R.slots := by subst hB; dsimp only at h3 h4; exact ⟨by omega, by omega⟩
  have hT2 : GoodIn (q_Ts G) (wsV M.1.cls idx M'.1.cls M'.1 (q_cw G M')) := by
    intro w hw
    rcases List.mem_append.mp hw with h | h
    · rcases List.mem_cons.mp h with rfl | h
      · exact q_goodw hok hV.1
      rcases List.mem_cons.mp h with rfl | h
      · exact q_goodw hok hV.2.1
      rcases List.mem_cons.mp h with rfl | h
      · exact q_goodw hok hV.2.2
      rcases List.mem_cons.mp h with rfl | h
      · exact q_goodw hok hM.2.2.1
      · cases h
    · exact q_good hok hM w h
  refine q_go (B := B) hB X h1 h2 h3 h4 h5 hz hS hl kk (a := ((.ref a :: As) : List Value).toArray) (va_runV (Ts := q_Ts G) (own := M.1.cls) (C := M'.1.cls) (b := a) (As := As) ⟨hx, hb, hml, hown, hts⟩ (q_met l hM hlen h) (cwV kn hts hT2 rfl rfl rfl ⟨rfl, hM.2.2.2.1.1, hM.2.2.2.1.2, hM.2.2.2.2.1⟩ hR) ⟨q_blind hok _ σ, hq ▸ va_recv hK hH hc (q0 := a - q_b G) (by rw [q_ws_get ha.1 ha.2.1, q_cell_o ha.2.2]), fun U hU hW => q_pre hok hE hS h5 hU hW hK hH hsz⟩ rfl hn hl.1 hst (lv_room hsum) hd hf) T hT Y
theorem ev_callS {st : List Value} {B : Nat × Nat} (As rest : List Value) (hok : q_ok G) (hM : q_mM G M' kn) (hV : q_mS G M.1.cls idx M') (hst : st = As.reverse ++ rest) (hlen : (lg_sl As).length ≤ M'.2.2.1) (hn : As.length = kn) (hsum : (rest.map fun v => v.category).sum ≤ 8) (hd : decode M.2.1 pc = .ok (.invokestatic idx, 3)) (hB : B = (B'.1 + B''.1, B'.2 + B''.2)) (hdd : d' + 1 ≤ d) (h : Ev G M' d' B' 0 (lv_args 0 As) [] σ post') (kk : ∀ v τ, post' v τ → Ev G M d B'' (pc + 3) lv (v.toList ++ rest) τ post) : Ev G M d B pc lv st σ post := by
  intro p l e R s m args below meth c H locs cells slots ls X h1 h2 h3 h4 h5 hz hH hS hl
  intro T hT Y
  have hHT : q_H G σ T.heap := by rw [hT]; exact hH
  have hST : va_S (q_A G) s.heap T.heap locs := by rw [hT]; exact hS
  have hsz : H.size = q_b G + σ.1 := by rw [← hT]; exact q_sz Y h5 hz hHT hST
  obtain ⟨hx, hb, hml, hr, hlk, hown, hts, hK, hE, hnm⟩ := id X
  have hR := q_room (B' := B') hM hdd h1 h2
  have hf : cells + B'.1 ≤ R.cells ∧ slots + B'.2 ≤ R.slots := by subst hB; dsimp only at h3 h4; exact ⟨by omega, by omega⟩
  have cb := callB_of (own := M.1.cls) (index := idx) (mc := B'.1) (ms := B'.2) kn hts (q_good hok hM) rfl rfl rfl (hts _ hM.2.2.1) (hts _ hV.1) ⟨hM.2.2.2.1.1, hM.2.2.2.1.2, hM.2.2.2.2.1⟩ hR
  refine q_go (B := B) hB X h1 h2 h3 h4 h5 hz hS hl kk (a := (As : List Value).toArray) (va_runS (Ts := q_Ts G) (own := M.1.cls) (As := As) ⟨hx, hb, hml, hown, hts⟩ (q_met l hM hlen h) ⟨cb, hts _ hV.2⟩ ⟨q_blind hok _ σ, fun U hU hW => q_pre hok hE hS h5 hU hW hK hH hsz⟩ rfl hn hl.1 hst (lv_room hsum) hd hf) T hT Y
theorem ev_callI {a : Nat} {st : List Value} {B : Nat × Nat} (As rest : List Value) (hok : q_ok G) (hM : q_mM G M' kn) (hV : q_mI G M.1.cls idx M') (hst : st = As.reverse ++ .ref a :: rest) (hlen : (lg_sl (.ref a :: As)).length ≤ M'.2.2.1) (hn : As.length = kn) (hret : M'.2.2.2 = none) (hsum : (rest.map fun v => v.category).sum ≤ 8) (hd : decode M.2.1 pc = .ok (.invokespecial idx, 3)) (hB : B = (B'.1 + B''.1, B'.2 + B''.2)) (hdd : d' + 1 ≤ d) (h : Ev G M' d' B' 0 (lv_args 0 (.ref a :: As)) [] σ post') (kk : ∀ v τ, post' v τ → Ev G M d B'' (pc + 3) lv (v.toList ++ rest) τ post) : Ev G M d B pc lv st σ post := by
  intro p l e R s m args below meth c H locs cells slots ls X h1 h2 h3 h4 h5 hz hH hS hl
  intro T hT Y
  have hHT : q_H G σ T.heap := by rw [hT]; exact hH
  have hST : va_S (q_A G) s.heap T.heap locs := by rw [hT]; exact hS
  have hsz : H.size = q_b G + σ.1 := by rw [← hT]; exact q_sz Y h5 hz hHT hST
  obtain ⟨hx, hb, hml, hr, hlk, hown, hts, hK, hE, hnm⟩ := id X
  have hR := q_room (B' := B') hM hdd h1 h2
  have hf : cells + B'.1 ≤ R.cells ∧ slots + B'.2 ≤ R.slots := by subst hB; dsimp only at h3 h4; exact ⟨by omega, by omega⟩
  have cb := callB_of (own := M.1.cls) (index := idx) (mc := B'.1) (ms := B'.2) kn hts (q_good hok hM) rfl rfl rfl (hts _ hM.2.2.1) (hts _ hV.1) ⟨hM.2.2.2.1.1, hM.2.2.2.1.2, hM.2.2.2.2.1⟩ hR
  rw [hret] at cb
  refine q_go (B := B) hB X h1 h2 h3 h4 h5 hz hS hl kk (a := ((.ref a :: As) : List Value).toArray) (va_runI (Ts := q_Ts G) (own := M.1.cls) (b := a) (As := As) ⟨hx, hb, hml, hown, hts⟩ (q_met l hM hlen h) ⟨cb, hV.2.2, hts _ hV.2.1⟩ ⟨q_blind hok _ σ, fun U hU hW => q_pre hok hE hS h5 hU hW hK hH hsz⟩ rfl hn hl.1 hst (lv_room hsum) hd hf) T hT Y
theorem ev_ncallV {a ci : Nat} {q : vw_C} {host : String} {st : List Value} {B : Nat × Nat} (As rest : List Value) (hok : q_ok G) (hM : q_mM G M' kn) (hV : q_nV G M.1.cls idx M' host) (hc : (q_cl G)[ci]? = some q) (hq : q.1 = M'.1.cls) (ha : q_in G σ a (.inr ci)) (hst : st = As.reverse ++ .ref a :: rest) (hlen : (lg_sl (.ref a :: As)).length ≤ M'.2.2.1) (hn : As.length = kn) (hsum : (rest.map fun v => v.category).sum ≤ 8) (hd : decode M.2.1 pc = .ok (.invokevirtual idx, 3)) (hB : B = (B'.1 + B''.1, B'.2 + B''.2)) (hdd : d' + 1 ≤ d) (h : Ev G M' d' B' 0 (lv_args 0 (.ref a :: As)) [] σ post') (kk : ∀ v τ, post' v τ → Ev G M d B'' (pc + 3) lv (v.toList ++ rest) τ post) : Ev G M d B pc lv st σ post := by
  intro p l e R s m args below meth c H locs cells slots ls X h1 h2 h3 h4 h5 hz hH hS hl
  intro T hT Y
  have hHT : q_H G σ T.heap := by rw [hT]; exact hH
  have hST : va_S (q_A G) s.heap T.heap locs := by rw [hT]; exact hS
  have hsz : H.size = q_b G + σ.1 := by rw [← hT]; exact q_sz Y h5 hz hHT hST
  obtain ⟨hx, hb, hml, hr, hlk, hown, hts, hK, hE, hnm⟩ := id X
  have hR := q_room (B' := B') hM hdd h1 h2
  have hf : cells + B'.1 ≤ R.cells ∧ slots + B'.2 ≤ R.slots := by subst hB; dsimp only at h3 h4; exact ⟨by omega, by omega⟩
  refine q_go (B := B) hB X h1 h2 h3 h4 h5 hz hS hl kk (a := ((.ref a :: As) : List Value).toArray) (va_runVN (Ts := q_Ts G) (own := M.1.cls) (C := M'.1.cls) (b := a) (As := As) ⟨hx, hb, hml, hown, hts⟩ (q_met l hM hlen h) ⟨va_cnB kn hts (q_good hok hM) rfl rfl rfl (hV.1 s hE) (hts _ hM.2.2.1) ⟨hM.2.2.2.1.1, hM.2.2.2.1.2, hM.2.2.2.2.1⟩ hR, hts _ hV.2.1, hts _ hV.2.2⟩ ⟨q_blind hok _ σ, hq ▸ va_recv hK hH hc (q0 := a - q_b G) (by rw [q_ws_get ha.1 ha.2.1, q_cell_o ha.2.2]), fun U hU hW => q_pre hok hE hS h5 hU hW hK hH hsz⟩ rfl hn hl.1 hst (lv_room hsum) hd hf) T hT Y
theorem ev_ncallS {host : String} {st : List Value} {B : Nat × Nat} (As rest : List Value) (hok : q_ok G) (hM : q_mM G M' kn) (hV : q_nS G M.1.cls idx M' host) (hst : st = As.reverse ++ rest) (hlen : (lg_sl As).length ≤ M'.2.2.1) (hn : As.length = kn) (hsum : (rest.map fun v => v.category).sum ≤ 8) (hd : decode M.2.1 pc = .ok (.invokestatic idx, 3)) (hB : B = (B'.1 + B''.1, B'.2 + B''.2)) (hdd : d' + 1 ≤ d) (h : Ev G M' d' B' 0 (lv_args 0 As) [] σ post') (kk : ∀ v τ, post' v τ → Ev G M d B'' (pc + 3) lv (v.toList ++ rest) τ post) : Ev G M d B pc lv st σ post := by
  intro p l e R s m args below meth c H locs cells slots ls X h1 h2 h3 h4 h5 hz hH hS hl
  intro T hT Y
  have hHT : q_H G σ T.heap := by rw [hT]; exact hH
  have hST : va_S (q_A G) s.heap T.heap locs := by rw [hT]; exact hS
  have hsz : H.size = q_b G + σ.1 := by rw [← hT]; exact q_sz Y h5 hz hHT hST
  obtain ⟨hx, hb, hml, hr, hlk, hown, hts, hK, hE, hnm⟩ := id X
  have hR := q_room (B' := B') hM hdd h1 h2
  have hf : cells + B'.1 ≤ R.cells ∧ slots + B'.2 ≤ R.slots := by subst hB; dsimp only at h3 h4; exact ⟨by omega, by omega⟩
  refine q_go (B := B) hB X h1 h2 h3 h4 h5 hz hS hl kk (a := (As : List Value).toArray) (va_runSN (Ts := q_Ts G) (own := M.1.cls) (As := As) ⟨hx, hb, hml, hown, hts⟩ (q_met l hM hlen h) ⟨va_cnB kn hts (q_good hok hM) rfl rfl rfl (hV.1 s hE) (hts _ hM.2.2.1) ⟨hM.2.2.2.1.1, hM.2.2.2.1.2, hM.2.2.2.2.1⟩ hR, hts _ hV.2, trivial⟩ ⟨q_blind hok _ σ, fun U hU hW => q_pre hok hE hS h5 hU hW hK hH hsz⟩ rfl hn hl.1 hst (lv_room hsum) hd hf) T hT Y
theorem ev_ncallI {a : Nat} {host : String} {st : List Value} {B : Nat × Nat} (As rest : List Value) (hok : q_ok G) (hM : q_mM G M' kn) (hV : q_nI G M.1.cls idx M' host) (hst : st = As.reverse ++ .ref a :: rest) (hlen : (lg_sl (.ref a :: As)).length ≤ M'.2.2.1) (hn : As.length = kn) (hret : M'.2.2.2 = none) (hsum : (rest.map fun v => v.category).sum ≤ 8) (hd : decode M.2.1 pc = .ok (.invokespecial idx, 3)) (hB : B = (B'.1 + B''.1, B'.2 + B''.2)) (hdd : d' + 1 ≤ d) (h : Ev G M' d' B' 0 (lv_args 0 (.ref a :: As)) [] σ post') (kk : ∀ v τ, post' v τ → Ev G M d B'' (pc + 3) lv (v.toList ++ rest) τ post) : Ev G M d B pc lv st σ post := by
  intro p l e R s m args below meth c H locs cells slots ls X h1 h2 h3 h4 h5 hz hH hS hl
  intro T hT Y
  have hHT : q_H G σ T.heap := by rw [hT]; exact hH
  have hST : va_S (q_A G) s.heap T.heap locs := by rw [hT]; exact hS
  have hsz : H.size = q_b G + σ.1 := by rw [← hT]; exact q_sz Y h5 hz hHT hST
  obtain ⟨hx, hb, hml, hr, hlk, hown, hts, hK, hE, hnm⟩ := id X
  have hR := q_room (B' := B') hM hdd h1 h2
  have hf : cells + B'.1 ≤ R.cells ∧ slots + B'.2 ≤ R.slots := by subst hB; dsimp only at h3 h4; exact ⟨by omega, by omega⟩
  have cb := va_cnB (mc := B'.1) (ms := B'.2) kn hts (q_good hok hM) rfl rfl rfl (hV.1 s hE) (hts _ hM.2.2.1) ⟨hM.2.2.2.1.1, hM.2.2.2.1.2, hM.2.2.2.2.1⟩ hR
  rw [hret] at cb
  refine q_go (B := B) hB X h1 h2 h3 h4 h5 hz hS hl kk (a := ((.ref a :: As) : List Value).toArray) (va_runIN (Ts := q_Ts G) (own := M.1.cls) (b := a) (As := As) ⟨hx, hb, hml, hown, hts⟩ (q_met l hM hlen h) ⟨cb, hV.2.2, hts _ hV.2.1⟩ ⟨q_blind hok _ σ, fun U hU hW => q_pre hok hE hS h5 hU hW hK hH hsz⟩ rfl hn hl.1 hst (lv_room hsum) hd hf) T hT Y
end EvCall
