/-! The slim logic's rows for arrays, and for the ends of methods. -/
section EvArr
variable {G : qG} {M : qM} {d pc : Nat} {B : Nat × Nat} {lv : List (Nat × Value)} {st : List Value} {n : Nat} {sh : Nat → qC} {Rf : Nat → Nat → Option Nat} {I : Nat → Nat → Int32} {L : Nat → Nat → Int64} {post : Option Value → qS → Prop}
theorem ev_iald {a w : Nat} {i : Int32} (hok : q_ok G) (ha : q_in G (n, sh, Rf, I, L) a (.inl (.int, w))) (hin : vp_in i w) (hd : decode M.2.1 pc = .ok (.iaload, 1)) (kk : Ev G M d B (pc + 1) lv (.int (I a i.toNatClampNeg) :: st) (n, sh, Rf, I, L) post) : Ev G M d B pc lv (.int i :: .ref a :: st) (n, sh, Rf, I, L) post := by
  intro p l e R s m args below meth c H locs cells slots ls X h1 h2 h3 h4 h5 hz hH hS hl
  obtain ⟨t0, ht⟩ := q_ty hok.2.2.1
  exact va_iald (f := I a) X.1 X.2.1 X.2.2.2.2.2.2.2.1 hH (a - q_b G) t0 (by rw [q_ws_get ha.1 ha.2.1, q_cell_a ha.2.2]; rfl) ht hin hd (kk p l e R s m args below meth c H locs cells slots ls X h1 h2 h3 h4 h5 hz hH hS hl)
theorem ev_bald {a w : Nat} {i : Int32} (hok : q_ok G) (ha : q_in G (n, sh, Rf, I, L) a (.inl (.byte, w))) (hin : vp_in i w) (hd : decode M.2.1 pc = .ok (.baload, 1)) (kk : Ev G M d B (pc + 1) lv (.int (I a i.toNatClampNeg) :: st) (n, sh, Rf, I, L) post) : Ev G M d B pc lv (.int i :: .ref a :: st) (n, sh, Rf, I, L) post := by
  intro p l e R s m args below meth c H locs cells slots ls X h1 h2 h3 h4 h5 hz hH hS hl
  obtain ⟨t0, ht⟩ := q_ty hok.2.2.2.2.1
  exact va_bald (f := I a) X.1 X.2.1 X.2.2.2.2.2.2.2.1 hH (a - q_b G) t0 (by rw [q_ws_get ha.1 ha.2.1, q_cell_a ha.2.2]; rfl) ht hin hd (kk p l e R s m args below meth c H locs cells slots ls X h1 h2 h3 h4 h5 hz hH hS hl)
theorem ev_zald {a w : Nat} {i : Int32} (hok : q_ok G) (ha : q_in G (n, sh, Rf, I, L) a (.inl (.boolean, w))) (hin : vp_in i w) (hd : decode M.2.1 pc = .ok (.baload, 1)) (kk : Ev G M d B (pc + 1) lv (.int (I a i.toNatClampNeg) :: st) (n, sh, Rf, I, L) post) : Ev G M d B pc lv (.int i :: .ref a :: st) (n, sh, Rf, I, L) post := by
  intro p l e R s m args below meth c H locs cells slots ls X h1 h2 h3 h4 h5 hz hH hS hl
  obtain ⟨t0, ht⟩ := q_ty hok.2.2.2.2.2.1
  exact va_zald (f := I a) X.1 X.2.1 X.2.2.2.2.2.2.2.1 hH (a - q_b G) t0 (by rw [q_ws_get ha.1 ha.2.1, q_cell_a ha.2.2]; rfl) ht hin hd (kk p l e R s m args below meth c H locs cells slots ls X h1 h2 h3 h4 h5 hz hH hS hl)
theorem ev_lald {a w : Nat} {i : Int32} (hok : q_ok G) (ha : q_in G (n, sh, Rf, I, L) a (.inl (.long, w))) (hin : vp_in i w) (hd : decode M.2.1 pc = .ok (.laload, 1)) (kk : Ev G M d B (pc + 1) lv (.long (L a i.toNatClampNeg) :: st) (n, sh, Rf, I, L) post) : Ev G M d B pc lv (.int i :: .ref a :: st) (n, sh, Rf, I, L) post := by
  intro p l e R s m args below meth c H locs cells slots ls X h1 h2 h3 h4 h5 hz hH hS hl
  obtain ⟨t0, ht⟩ := q_ty hok.2.2.2.1
  exact va_lald (f := L a) X.1 X.2.1 X.2.2.2.2.2.2.2.1 hH (a - q_b G) t0 (by rw [q_ws_get ha.1 ha.2.1, q_cell_a ha.2.2]; rfl) ht hin hd (kk p l e R s m args below meth c H locs cells slots ls X h1 h2 h3 h4 h5 hz hH hS hl)
theorem ev_aald {a w : Nat} {i : Int32} {C : String} (v : Value) (hC : FieldType.object C ∈ q_tl G) (ha : q_in G (n, sh, Rf, I, L) a (.inl (.object C, w))) (hin : vp_in i w) (hv : va_rf (Rf a i.toNatClampNeg) = v) (hd : decode M.2.1 pc = .ok (.aaload, 1)) (kk : Ev G M d B (pc + 1) lv (v :: st) (n, sh, Rf, I, L) post) : Ev G M d B pc lv (.int i :: .ref a :: st) (n, sh, Rf, I, L) post := by
  intro p l e R s m args below meth c H locs cells slots ls X h1 h2 h3 h4 h5 hz hH hS hl
  obtain ⟨t0, ht⟩ := q_ty hC
  subst hv
  exact va_aldq (f := Rf a) X.1 X.2.1 X.2.2.2.2.2.2.2.1 hH (a - q_b G) t0 (by rw [q_ws_get ha.1 ha.2.1, q_cell_a ha.2.2]; rfl) ht hin hd (kk p l e R s m args below meth c H locs cells slots ls X h1 h2 h3 h4 h5 hz hH hS hl)
theorem ev_alen {a w : Nat} {t : FieldType} (v : Int32) (ht : t ∈ q_tl G) (ha : q_in G (n, sh, Rf, I, L) a (.inl (t, w))) (hv : Int32.ofNat w = v) (hd : decode M.2.1 pc = .ok (.arraylength, 1)) (kk : Ev G M d B (pc + 1) lv (.int v :: st) (n, sh, Rf, I, L) post) : Ev G M d B pc lv (.ref a :: st) (n, sh, Rf, I, L) post := by
  intro p l e R s m args below meth c H locs cells slots ls X h1 h2 h3 h4 h5 hz hH hS hl
  obtain ⟨t0, ht⟩ := q_ty ht
  exact va_alen X.1 X.2.1 X.2.2.2.2.2.2.2.1 hH (a - q_b G) t0 (by rw [q_ws_get ha.1 ha.2.1, q_cell_a ha.2.2]) ht hv hd (kk p l e R s m args below meth c H locs cells slots ls X h1 h2 h3 h4 h5 hz hH hS hl)
theorem q_ast_ws {σ σ' : qS} {a w k : Nat} {t : FieldType} (ha : q_in G σ a (.inl (t, w))) (hn : σ'.1 = σ.1) (hs : σ'.2.1 = σ.2.1)
    (ho : ∀ x y, ¬ (x = a ∧ y = k) → σ'.2.2.1 x y = σ.2.2.1 x y ∧ σ'.2.2.2.1 x y = σ.2.2.2.1 x y ∧ σ'.2.2.2.2 x y = σ.2.2.2.2 x y) : (q_ws G σ).set (a - q_b G) (a, .inl (q_cA G t, w, q_av t (σ'.2.2.1 a) (σ'.2.2.2.1 a) (σ'.2.2.2.2 a))) = q_ws G σ' := by
  rw [← q_cell_a (G := G) (σ := σ') (by rw [hs]; exact ha.2.2)]
  refine q_ws_set ha.1 ha.2.1 hn (fun x hx => q_cell_ne (by rw [hs]) (funext fun y => ?_) (funext fun y => ?_) (funext fun y => ?_))
  · exact (ho x y (fun h => hx h.1)).1
  · exact (ho x y (fun h => hx h.1)).2.1
  · exact (ho x y (fun h => hx h.1)).2.2
theorem q_u_upd {f : Nat → Nat → Int32} {a k : Nat} {v : Int32} : upd (f a) k v = q_u f a k v a := by
  funext y
  simp [upd, q_u]
theorem q_u_updL {f : Nat → Nat → Int64} {a k : Nat} {v : Int64} : vp_updL (f a) k v = q_u f a k v a := by
  funext y
  simp [vp_updL, q_u]
theorem q_u_up {f : Nat → Nat → Option Nat} {a k : Nat} {v : Option Nat} : va_up (f a) k v = q_u f a k v a := by
  funext y
  simp [va_up, q_u]
theorem q_u_off {α : Type} {f : Nat → Nat → α} {a k x y : Nat} {v : α} (h : ¬ (x = a ∧ y = k)) : q_u f a k v x y = f x y := by
  unfold q_u
  rw [if_neg h]
theorem ev_iast {a w : Nat} {i : Int32} {x : Int32} (hok : q_ok G) (ha : q_in G (n, sh, Rf, I, L) a (.inl (.int, w))) (hin : vp_in i w) (hd : decode M.2.1 pc = .ok (.iastore, 1)) (kk : Ev G M d B (pc + 1) lv st (n, sh, Rf, q_u I a i.toNatClampNeg x, L) post) : Ev G M d B pc lv (.int x :: .int i :: .ref a :: st) (n, sh, Rf, I, L) post := by
  intro p l e R s m args below meth c H locs cells slots ls X h1 h2 h3 h4 h5 hz hH hS hl
  obtain ⟨t0, ht⟩ := q_ty hok.2.2.1
  refine va_iast (f := I a) X.1 X.2.1 X.2.2.2.2.2.2.2.1 hH (q_dis G _) hS (a - q_b G) t0 (by rw [q_ws_get ha.1 ha.2.1, q_cell_a ha.2.2]; rfl) ht hin hd (fun H1 locs1 hP1 hD1 hS1 => ?_)
  have e1 := q_ast_ws (G := G) (σ' := (n, sh, Rf, q_u I a i.toNatClampNeg x, L)) (k := i.toNatClampNeg) ha rfl rfl (fun x y h => ⟨rfl, q_u_off h, rfl⟩)
  rw [q_u_upd] at hP1
  have hP2 : q_H G (n, sh, Rf, q_u I a i.toNatClampNeg x, L) H1 := by
    unfold q_H
    rw [← e1]
    exact hP1
  exact kk p l e R s m args below meth c H1 locs1 cells slots ls X h1 h2 h3 h4 h5 hz hP2 hS1 hl
theorem ev_bast {a w : Nat} {i : Int32} {x : Int32} (hok : q_ok G) (ha : q_in G (n, sh, Rf, I, L) a (.inl (.byte, w))) (hin : vp_in i w) (hd : decode M.2.1 pc = .ok (.bastore, 1)) (kk : Ev G M d B (pc + 1) lv st (n, sh, Rf, q_u I a i.toNatClampNeg (vp_nar .byte x), L) post) : Ev G M d B pc lv (.int x :: .int i :: .ref a :: st) (n, sh, Rf, I, L) post := by
  intro p l e R s m args below meth c H locs cells slots ls X h1 h2 h3 h4 h5 hz hH hS hl
  obtain ⟨t0, ht⟩ := q_ty hok.2.2.2.2.1
  refine va_bast (f := I a) X.1 X.2.1 X.2.2.2.2.2.2.2.1 hH (q_dis G _) hS (a - q_b G) t0 (by rw [q_ws_get ha.1 ha.2.1, q_cell_a ha.2.2]; rfl) ht hin hd (fun H1 locs1 hP1 hD1 hS1 => ?_)
  have e1 := q_ast_ws (G := G) (σ' := (n, sh, Rf, q_u I a i.toNatClampNeg (vp_nar .byte x), L)) (k := i.toNatClampNeg) ha rfl rfl (fun x y h => ⟨rfl, q_u_off h, rfl⟩)
  rw [q_u_upd] at hP1
  have hP2 : q_H G (n, sh, Rf, q_u I a i.toNatClampNeg (vp_nar .byte x), L) H1 := by
    unfold q_H
    rw [← e1]
    exact hP1
  exact kk p l e R s m args below meth c H1 locs1 cells slots ls X h1 h2 h3 h4 h5 hz hP2 hS1 hl
theorem ev_zast {a w : Nat} {i : Int32} {x : Int32} (hok : q_ok G) (ha : q_in G (n, sh, Rf, I, L) a (.inl (.boolean, w))) (hin : vp_in i w) (hd : decode M.2.1 pc = .ok (.bastore, 1)) (kk : Ev G M d B (pc + 1) lv st (n, sh, Rf, q_u I a i.toNatClampNeg (vp_nar .boolean x), L) post) : Ev G M d B pc lv (.int x :: .int i :: .ref a :: st) (n, sh, Rf, I, L) post := by
  intro p l e R s m args below meth c H locs cells slots ls X h1 h2 h3 h4 h5 hz hH hS hl
  obtain ⟨t0, ht⟩ := q_ty hok.2.2.2.2.2.1
  refine va_zast (f := I a) X.1 X.2.1 X.2.2.2.2.2.2.2.1 hH (q_dis G _) hS (a - q_b G) t0 (by rw [q_ws_get ha.1 ha.2.1, q_cell_a ha.2.2]; rfl) ht hin hd (fun H1 locs1 hP1 hD1 hS1 => ?_)
  have e1 := q_ast_ws (G := G) (σ' := (n, sh, Rf, q_u I a i.toNatClampNeg (vp_nar .boolean x), L)) (k := i.toNatClampNeg) ha rfl rfl (fun x y h => ⟨rfl, q_u_off h, rfl⟩)
  rw [q_u_upd] at hP1
  have hP2 : q_H G (n, sh, Rf, q_u I a i.toNatClampNeg (vp_nar .boolean x), L) H1 := by
    unfold q_H
    rw [← e1]
    exact hP1
  exact kk p l e R s m args below meth c H1 locs1 cells slots ls X h1 h2 h3 h4 h5 hz hP2 hS1 hl
theorem ev_last {a w : Nat} {i : Int32} {x : Int64} (hok : q_ok G) (ha : q_in G (n, sh, Rf, I, L) a (.inl (.long, w))) (hin : vp_in i w) (hd : decode M.2.1 pc = .ok (.lastore, 1)) (kk : Ev G M d B (pc + 1) lv st (n, sh, Rf, I, q_u L a i.toNatClampNeg x) post) : Ev G M d B pc lv (.long x :: .int i :: .ref a :: st) (n, sh, Rf, I, L) post := by
  intro p l e R s m args below meth c H locs cells slots ls X h1 h2 h3 h4 h5 hz hH hS hl
  obtain ⟨t0, ht⟩ := q_ty hok.2.2.2.1
  refine va_last (f := L a) X.1 X.2.1 X.2.2.2.2.2.2.2.1 hH (q_dis G _) hS (a - q_b G) t0 (by rw [q_ws_get ha.1 ha.2.1, q_cell_a ha.2.2]; rfl) ht hin hd (fun H1 locs1 hP1 hD1 hS1 => ?_)
  have e1 := q_ast_ws (G := G) (σ' := (n, sh, Rf, I, q_u L a i.toNatClampNeg x)) (k := i.toNatClampNeg) ha rfl rfl (fun x y h => ⟨rfl, rfl, q_u_off h⟩)
  rw [q_u_updL] at hP1
  have hP2 : q_H G (n, sh, Rf, I, q_u L a i.toNatClampNeg x) H1 := by
    unfold q_H
    rw [← e1]
    exact hP1
  exact kk p l e R s m args below meth c H1 locs1 cells slots ls X h1 h2 h3 h4 h5 hz hP2 hS1 hl
theorem ev_aast {a w x ci : Nat} {i : Int32} {q : vw_C} (hc : (q_cl G)[ci]? = some q) (hC : FieldType.object q.1 ∈ q_tl G) (ha : q_in G (n, sh, Rf, I, L) a (.inl (.object q.1, w))) (hx : q_in G (n, sh, Rf, I, L) x (.inr ci)) (hin : vp_in i w) (hd : decode M.2.1 pc = .ok (.aastore, 1)) (kk : Ev G M d B (pc + 1) lv st (n, sh, q_u Rf a i.toNatClampNeg (some x), I, L) post) : Ev G M d B pc lv (.ref x :: .int i :: .ref a :: st) (n, sh, Rf, I, L) post := by
  intro p l e R s m args below meth c H locs cells slots ls X h1 h2 h3 h4 h5 hz hH hS hl
  obtain ⟨t0, ht⟩ := q_ty hC
  refine va_astq (f := Rf a) (vs := q_fs G (n, sh, Rf, I, L) ci x) X.1 X.2.1 X.2.2.2.2.2.2.2.1 hH (q_dis G _) hS (a - q_b G) t0 (x - q_b G) ci (by rw [q_ws_get ha.1 ha.2.1, q_cell_a ha.2.2]; rfl) ht (by rw [q_ws_get hx.1 hx.2.1, q_cell_o hx.2.2]) hc hin hd (fun H1 locs1 hP1 hD1 hS1 => ?_)
  have e1 := q_ast_ws (G := G) (σ' := (n, sh, q_u Rf a i.toNatClampNeg (some x), I, L)) (k := i.toNatClampNeg) ha rfl rfl (fun x y h => ⟨q_u_off h, rfl, rfl⟩)
  rw [q_u_up] at hP1
  have hP2 : q_H G (n, sh, q_u Rf a i.toNatClampNeg (some x), I, L) H1 := by
    unfold q_H
    rw [← e1]
    exact hP1
  exact kk p l e R s m args below meth c H1 locs1 cells slots ls X h1 h2 h3 h4 h5 hz hP2 hS1 hl
theorem ev_getI {a idx ci k : Nat} {fin : Bool} (hok : q_ok G) (hf : q_fl G M.1.cls idx ci k fin) (ha : q_in G (n, sh, Rf, I, L) a (.inr ci)) (ht : ∀ r i l, q_fv (q_ft G ci k) r i l = .int i) (hd : decode M.2.1 pc = .ok (.getfield idx, 3)) (kk : Ev G M d B (pc + 3) lv (.int (I a k) :: st) (n, sh, Rf, I, L) post) : Ev G M d B pc lv (.ref a :: st) (n, sh, Rf, I, L) post := ev_get _ hok hf ha (ht _ _ _) hd kk
theorem ev_getL {a idx ci k : Nat} {fin : Bool} (hok : q_ok G) (hf : q_fl G M.1.cls idx ci k fin) (ha : q_in G (n, sh, Rf, I, L) a (.inr ci)) (ht : ∀ r i l, q_fv (q_ft G ci k) r i l = .long l) (hd : decode M.2.1 pc = .ok (.getfield idx, 3)) (kk : Ev G M d B (pc + 3) lv (.long (L a k) :: st) (n, sh, Rf, I, L) post) : Ev G M d B pc lv (.ref a :: st) (n, sh, Rf, I, L) post := ev_get _ hok hf ha (ht _ _ _) hd kk
theorem ev_getR {a idx ci k x : Nat} {fin : Bool} (hok : q_ok G) (hf : q_fl G M.1.cls idx ci k fin) (ha : q_in G (n, sh, Rf, I, L) a (.inr ci)) (ht : ∀ r i l, q_fv (q_ft G ci k) r i l = va_rf r) (hr : Rf a k = some x) (hd : decode M.2.1 pc = .ok (.getfield idx, 3)) (kk : Ev G M d B (pc + 3) lv (.ref x :: st) (n, sh, Rf, I, L) post) : Ev G M d B pc lv (.ref a :: st) (n, sh, Rf, I, L) post := ev_get (.ref x) hok hf ha (by rw [ht]; show va_rf (Rf a k) = _; rw [hr]; rfl) hd kk
theorem ev_putI {a idx ci k : Nat} {x : Int32} (hok : q_ok G) (hf : q_fl G M.1.cls idx ci k false) (ha : q_in G (n, sh, Rf, I, L) a (.inr ci)) (ht : ∀ r i l, q_fv (q_ft G ci k) r i l = .int i) (hna : narrow (q_ft G ci k) (.int x) = .int x) (hfi : fits (q_ft G ci k) (.int x) = true) (hd : decode M.2.1 pc = .ok (.putfield idx, 3)) (kk : Ev G M d B (pc + 3) lv st (n, sh, Rf, q_u I a k x, L) post) : Ev G M d B pc lv (.int x :: .ref a :: st) (n, sh, Rf, I, L) post :=
  ev_put (n, sh, Rf, q_u I a k x, L) hok hf ha rfl rfl (fun _ _ h => ⟨rfl, q_u_off h, rfl⟩) (by rw [ht]; show Value.int (q_u I a k x a k) = _; rw [q_u_at]) hna hfi hd kk
theorem ev_putL {a idx ci k : Nat} {x : Int64} (hok : q_ok G) (hf : q_fl G M.1.cls idx ci k false) (ha : q_in G (n, sh, Rf, I, L) a (.inr ci)) (ht : ∀ r i l, q_fv (q_ft G ci k) r i l = .long l) (hna : narrow (q_ft G ci k) (.long x) = .long x) (hfi : fits (q_ft G ci k) (.long x) = true) (hd : decode M.2.1 pc = .ok (.putfield idx, 3)) (kk : Ev G M d B (pc + 3) lv st (n, sh, Rf, I, q_u L a k x) post) : Ev G M d B pc lv (.long x :: .ref a :: st) (n, sh, Rf, I, L) post :=
  ev_put (n, sh, Rf, I, q_u L a k x) hok hf ha rfl rfl (fun _ _ h => ⟨rfl, rfl, q_u_off h⟩) (by rw [ht]; show Value.long (q_u L a k x a k) = _; rw [q_u_at]) hna hfi hd kk
theorem ev_putR {a idx ci k x : Nat} (hok : q_ok G) (hf : q_fl G M.1.cls idx ci k false) (ha : q_in G (n, sh, Rf, I, L) a (.inr ci)) (ht : ∀ r i l, q_fv (q_ft G ci k) r i l = va_rf r) (hna : narrow (q_ft G ci k) (.ref x) = .ref x) (hfi : fits (q_ft G ci k) (.ref x) = true) (hd : decode M.2.1 pc = .ok (.putfield idx, 3)) (kk : Ev G M d B (pc + 3) lv st (n, sh, q_u Rf a k (some x), I, L) post) : Ev G M d B pc lv (.ref x :: .ref a :: st) (n, sh, Rf, I, L) post :=
  ev_put (n, sh, q_u Rf a k (some x), I, L) hok hf ha rfl rfl (fun _ _ h => ⟨q_u_off h, rfl, rfl⟩) (by rw [ht]; show va_rf (q_u Rf a k (some x) a k) = _; rw [q_u_at]; rfl) hna hfi hd kk
theorem ev_putFR {a idx ci k x : Nat} (hok : q_ok G) (hf : q_fl G M.1.cls idx ci k true) (hi : M.1.name = "<init>") (hci : ∀ q : vw_C, (q_cl G)[ci]? = some q → q.1 = M.1.cls) (ha : q_in G (n, sh, Rf, I, L) a (.inr ci)) (ht : ∀ r i l, q_fv (q_ft G ci k) r i l = va_rf r) (hna : narrow (q_ft G ci k) (.ref x) = .ref x) (hfi : fits (q_ft G ci k) (.ref x) = true) (hd : decode M.2.1 pc = .ok (.putfield idx, 3)) (kk : Ev G M d B (pc + 3) lv st (n, sh, q_u Rf a k (some x), I, L) post) : Ev G M d B pc lv (.ref x :: .ref a :: st) (n, sh, Rf, I, L) post :=
  ev_putF (n, sh, q_u Rf a k (some x), I, L) hok hf hi hci ha rfl rfl (fun _ _ h => ⟨q_u_off h, rfl, rfl⟩) (by rw [ht]; show va_rf (q_u Rf a k (some x) a k) = _; rw [q_u_at]; rfl) hna hfi hd kk
end EvArr
section EvEnd
variable {G : qG} {M : qM} {d pc ks : Nat} {lv : List (Nat × Value)} {σ : qS} {post : Option Value → qS → Prop}
theorem q_end {s t : State} {H : Heap} {locs : List Loc} {args : Array Value} {v : Option Value} (hp : post v σ) (hH : q_H G σ H) (hS : va_S (q_A G) s.heap H locs) (ht : t.heap = H) : q_Q G (σ.1 + (0, ks).1) post args s (.returned v) t := ⟨⟨v, σ, rfl, hp, rfl, by rw [ht]; exact hH⟩, hS.F ht⟩
theorem ev_iret {x : Int32} (hr : M.2.2.2 = some .int) (hd : decode M.2.1 pc = .ok (.ireturn, 1)) (hp : post (some (.int x)) σ) : Ev G M d (0, ks) pc lv [.int x] σ post := by
  intro p l e R s m args below meth c H locs cells slots ls X h1 h2 h3 h4 h5 hz hH hS hl
  refine W.widen (k := cells + (0, ks).1) (n := slots + (0, ks).2) (Nat.le_add_right _ _) (Nat.le_add_right _ _) ?_
  exact W.iret (v := x) X.1 X.2.1 (X.2.2.2.1.trans hr) (fun t ht hW => q_end hp hH hS ht) hS.2.2 hd X.2.2.2.2.1
theorem ev_zret {x : Int32} {ty : FieldType} (hr : M.2.2.2 = some ty) (hn : narrow ty (.int x) = .int x) (hd : decode M.2.1 pc = .ok (.ireturn, 1)) (hp : post (some (.int x)) σ) : Ev G M d (0, ks) pc lv [.int x] σ post := by
  intro p l e R s m args below meth c H locs cells slots ls X h1 h2 h3 h4 h5 hz hH hS hl
  refine W.widen (k := cells + (0, ks).1) (n := slots + (0, ks).2) (Nat.le_add_right _ _) (Nat.le_add_right _ _) ?_
  exact W.zret (v := x) X.1 X.2.1 (X.2.2.2.1.trans hr) hn (fun t ht hW => q_end hp hH hS ht) hS.2.2 hd X.2.2.2.2.1
theorem ev_lret {x : Int64} (hr : M.2.2.2 = some .long) (hd : decode M.2.1 pc = .ok (.lreturn, 1)) (hp : post (some (.long x)) σ) : Ev G M d (0, ks) pc lv [.long x] σ post := by
  intro p l e R s m args below meth c H locs cells slots ls X h1 h2 h3 h4 h5 hz hH hS hl
  refine W.widen (k := cells + (0, ks).1) (n := slots + (0, ks).2) (Nat.le_add_right _ _) (Nat.le_add_right _ _) ?_
  exact W.lret (v := x) X.1 X.2.1 (X.2.2.2.1.trans hr) (fun t ht hW => q_end hp hH hS ht) hS.2.2 hd X.2.2.2.2.1
theorem ev_vret (hr : M.2.2.2 = none) (hd : decode M.2.1 pc = .ok (.return_, 1)) (hp : post none σ) : Ev G M d (0, ks) pc lv [] σ post := by
  intro p l e R s m args below meth c H locs cells slots ls X h1 h2 h3 h4 h5 hz hH hS hl
  refine W.widen (k := cells + (0, ks).1) (n := slots + (0, ks).2) (Nat.le_add_right _ _) (Nat.le_add_right _ _) ?_
  exact W.vret X.1 X.2.1 (X.2.2.2.1.trans hr) (fun t ht hW => q_end hp hH hS ht) hS.2.2 hd X.2.2.2.2.1
theorem ev_aret {v : Value} {C : String} (hr : M.2.2.2 = some (.object C)) (hv : v = .null ∨ ∃ a, v = .ref a) (hd : decode M.2.1 pc = .ok (.areturn, 1)) (hp : post (some v) σ) : Ev G M d (0, ks) pc lv [v] σ post := by
  intro p l e R s m args below meth c H locs cells slots ls X h1 h2 h3 h4 h5 hz hH hS hl
  refine W.widen (k := cells + (0, ks).1) (n := slots + (0, ks).2) (Nat.le_add_right _ _) (Nat.le_add_right _ _) ?_
  exact W.aret X.1 X.2.1 (X.2.2.2.1.trans hr) (Or.inl ⟨C, rfl⟩) hv (fun t ht hW => q_end hp hH hS ht) hS.2.2 hd X.2.2.2.2.1
end EvEnd
