/-! References of a Run that change (its land, its trade) leave every shape as it was; a RUN from its call. -/
/-- of all references only the fields 0 and 1 of the Run at r may have changed -/
def RfR (r : Nat) (Rf Rf' : Nat → Nat → Option Nat) : Prop := (∀ c, c ≠ r → Rf' c = Rf c) ∧ ∀ k, 2 ≤ k → Rf' r k = Rf r k
theorem RfR.u {r k : Nat} {Rf : Nat → Nat → Option Nat} {v : Option Nat} (h : k < 2) : RfR r Rf (q_u Rf r k v) := ⟨fun _ hc => q_u_ne hc, fun j hj => q_u_k (by omega)⟩
theorem RfR.trans {r : Nat} {A B C : Nat → Nat → Option Nat} (h : RfR r A B) (g : RfR r B C) : RfR r A C := ⟨fun c hc => (g.1 c hc).trans (h.1 c hc), fun k hk => (g.2 k hk).trans (h.2 k hk)⟩
theorem w_ne {sh : Nat → qC} {a r i j : Nat} (h : sh a = .inr i) (h' : sh r = .inr j) (c : i ≠ j) : a ≠ r := fun e => c (by rw [e, h'] at h; exact (Sum.inr.inj h).symm)
theorem w_2 : ∀ y ∈ wlRun, 2 ≤ y.1 := by intro y hy; simp only [wlRun, List.mem_cons, List.not_mem_nil, or_false] at hy; rcases hy with rfl | rfl | rfl | rfl | rfl | rfl | rfl <;> decide
section CW
variable {G : qG} {n : Nat} {sh : Nat → qC} {Rf Rf' : Nat → Nat → Option Nat} {x r : Nat}
theorem wcFacts (hs : sh r = .inr 7) (e : RfR r Rf Rf') (h : WfFacts G n sh Rf x) : WfFacts G n sh Rf' x := ⟨h.1, by rw [e.1 x (w_ne h.1.2.2 hs (by decide))]; exact h.2⟩
theorem wcLand (hs : sh r = .inr 7) (e : RfR r Rf Rf') (h : WfLand G n sh Rf x) : WfLand G n sh Rf' x := ⟨h.1, by rw [e.1 x (w_ne h.1.2.2 hs (by decide))]; exact h.2⟩
theorem wcTrade (hs : sh r = .inr 7) (e : RfR r Rf Rf') (h : WfTrade G n sh Rf x) : WfTrade G n sh Rf' x := ⟨h.1, by rw [e.1 x (w_ne h.1.2.2 hs (by decide))]; exact h.2⟩
theorem wcReform (hs : sh r = .inr 7) (e : RfR r Rf Rf') (h : WfReform G n sh Rf x) : WfReform G n sh Rf' x := ⟨h.1, by rw [e.1 x (w_ne h.1.2.2 hs (by decide))]; exact h.2⟩
theorem wcRealm (hs : sh r = .inr 7) (e : RfR r Rf Rf') (h : WfRealm G n sh Rf x) : WfRealm G n sh Rf' x := ⟨h.1, by rw [e.1 x (w_ne h.1.2.2 hs (by decide))]; exact h.2⟩
theorem wcPapers (hs : sh r = .inr 7) (e : RfR r Rf Rf') (h : WfPapers G n sh Rf x) : WfPapers G n sh Rf' x := ⟨h.1, by rw [e.1 x (w_ne h.1.2.2 hs (by decide))]; exact h.2⟩
theorem wcLoads (hs : sh r = .inr 7) (e : RfR r Rf Rf') (h : WfLoads G n sh Rf x) : WfLoads G n sh Rf' x := ⟨h.1, by rw [e.1 x (w_ne h.1.2.2 hs (by decide))]; exact h.2⟩
theorem wcRecords (hs : sh r = .inr 7) (e : RfR r Rf Rf') (h : WfRecords G n sh Rf x) : WfRecords G n sh Rf' x := ⟨h.1, by rw [e.1 x (w_ne h.1.2.2 hs (by decide))]; exact h.2⟩
theorem wcWay (hs : sh r = .inr 7) (e : RfR r Rf Rf') (h : WfWay G n sh Rf x) : WfWay G n sh Rf' x := ⟨h.1, by rw [e.1 x (w_ne h.1.2.2 hs (by decide))]; exact h.2⟩
theorem wcTape (hs : sh r = .inr 7) (e : RfR r Rf Rf') (h : WfTape G n sh Rf x) : WfTape G n sh Rf' x := ⟨h.1, by rw [e.1 x (w_ne h.1.2.2 hs (by decide))]; exact h.2⟩
theorem wcRun (hs : sh r = .inr 7) (e : RfR r Rf Rf') (h : WfRun G n sh Rf x) : WfRun G n sh Rf' x := by
  have q : ∀ k, 2 ≤ k → Rf' x k = Rf x k := fun k hk => by
    rcases q_em (x = r) with c | c
    · rw [c]; exact e.2 k hk
    · rw [e.1 x c]
  obtain ⟨h0, h1, h2, h3, h4, h5, h6, h7⟩ := h
  exact ⟨h0, fun y hy => ⟨(q y.1 (w_2 y hy)).trans (h1 y hy).1, (h1 y hy).2⟩, ⟨(q _ (by decide)).trans h2.1, wcReform hs e h2.2⟩, ⟨(q _ (by decide)).trans h3.1, wcRealm hs e h3.2⟩, ⟨(q _ (by decide)).trans h4.1, wcPapers hs e h4.2⟩, ⟨(q _ (by decide)).trans h5.1, wcLoads hs e h5.2⟩, ⟨(q _ (by decide)).trans h6.1, wcRecords hs e h6.2⟩, ⟨(q _ (by decide)).trans h7.1, wcWay hs e h7.2⟩⟩
theorem wcOffice (hs : sh r = .inr 7) (e : RfR r Rf Rf') (h : WfOffice G n sh Rf x) : WfOffice G n sh Rf' x := by
  obtain ⟨h0, h1, h2, h3, h4, h5, h6, h7⟩ := h
  have q : Rf' x = Rf x := e.1 x (w_ne h0.2.2 hs (by decide))
  exact ⟨h0, by rw [q]; exact h1, ⟨by rw [q]; exact h2.1, wcTape hs e h2.2⟩, ⟨by rw [q]; exact h3.1, wcTrade hs e h3.2⟩, ⟨by rw [q]; exact h4.1, wcFacts hs e h4.2⟩, ⟨by rw [q]; exact h5.1, wcRun hs e h5.2⟩, ⟨by rw [q]; exact h6.1, wcRun hs e h6.2⟩, ⟨by rw [q]; exact h7.1, h7.2⟩⟩
end CW
section CP2
variable {D : va_G} {cA : FieldType → ClassId} {b : Nat} {E : State → Prop} {o n : Nat} {sh : Nat → qC} {Rf : Nat → Nat → Option Nat} {I : Nat → Nat → Int32} {L : Nat → Nat → Int64} {post : Option Value → qS → Prop} {l l0 t f : Nat}
theorem y_play (hok : q_ok (qGG D cA b E)) (hw : WfRun (qGG D cA b E) n sh Rf o) (hl0 : Rf o 0 = some l0) (hwl0 : WfLand (qGG D cA b E) n sh Rf l0) (hwl : WfLand (qGG D cA b E) n sh Rf l) (hwt : WfTrade (qGG D cA b E) n sh Rf t) (hwf : WfFacts (qGG D cA b E) n sh Rf f) (hj : CJ I o l t f) {r N : Nat} (hwr : WfReform (qGG D cA b E) n sh Rf r) (hr : r + 5 ≤ o ∨ o + 66 ≤ r) (hzr : ZReform I r) (hN : N ≤ 240) {x6 : Int32} (hp : ∀ Rf' I' L', RfR o Rf Rf' → Rf' o 0 = some l → CZ o I L I' L' → post none (n, sh, Rf', I', L')) : Ev (qGG D cA b E) mRun_play 6 (0, 0) 0 (lv_args 0 [.ref o, .ref l, .ref t, .ref r, .ref f, .int (nI N), .int x6]) [] (n, sh, Rf, I, L) post := by
  have hs : sh o = .inr 7 := hw.1.2.2
  have e1 : RfR o Rf (q_u Rf o 0 (some l)) := RfR.u (by decide)
  have e2 : RfR o (q_u Rf o 0 (some l)) (q_u (q_u Rf o 0 (some l)) o 1 (some t)) := RfR.u (by decide)
  have e := e1.trans e2
  have q1 : q_u Rf o 0 (some l) o 0 = some l := q_u_at
  have q2 : q_u (q_u Rf o 0 (some l)) o 1 (some t) o 0 = some l := by rw [q_u_k (by decide)]; exact q1
  refine sRun_play_0 o n sh Rf I L post l t r f (nI N) x6 l0 hok hw hwl hwt hwr hwf hl0 hwl0 ?_
  refine sRun_play_5 o n sh _ I L post l t r f (nI N) x6 l hok (wcRun hs e1 hw) (wcLand hs e1 hwl) (wcTrade hs e1 hwt) (wcReform hs e1 hwr) (wcFacts hs e1 hwf) q1 (wcLand hs e1 hwl) ?_
  exact y_play_10 hok (wcRun hs e hw) q2 (wcLand hs e hwl) q_u_at (wcTrade hs e hwt) (wcFacts hs e hwf) hj (wcReform hs e hwr) hr hzr hN (fun _ _ => rfl) (fun _ _ => rfl) (fun I' L' z => hp _ I' L' e q2 z)
end CP2
