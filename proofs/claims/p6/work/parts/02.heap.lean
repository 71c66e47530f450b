/-! The slim logic's rows for fields, arrays, ends of methods. -/
def q_u {α : Type} (f : Nat → Nat → α) (a k : Nat) (v : α) : Nat → Nat → α := fun x y => if x = a ∧ y = k then v else f x y
theorem q_u_ne {α : Type} {f : Nat → Nat → α} {a k x : Nat} {v : α} (h : x ≠ a) : q_u f a k v x = f x := by
  funext y
  simp [q_u, h]
theorem q_u_at {α : Type} {f : Nat → Nat → α} {a k : Nat} {v : α} : q_u f a k v a k = v := by simp [q_u]
theorem q_u_k {α : Type} {f : Nat → Nat → α} {a k y x : Nat} {v : α} (h : y ≠ k) : q_u f a k v x y = f x y := by simp [q_u, h]
theorem q_ws_len (G : qG) (σ : qS) : (q_ws G σ).length = σ.1 := by simp [q_ws]
theorem q_ws_k (G : qG) (σ : qS) {i : Nat} (h : i < σ.1) : (q_ws G σ)[i]? = some (q_b G + i, q_cell G σ (q_b G + i)) := by
  unfold q_ws
  rw [List.getElem?_map, List.getElem?_range h]
  rfl
theorem q_ws_inv {G : qG} {σ : qS} {i : Nat} {p : Nat × va_E} (h : (q_ws G σ)[i]? = some p) : i < σ.1 ∧ p = (q_b G + i, q_cell G σ (q_b G + i)) := by
  have h1 : i < (q_ws G σ).length := (List.getElem?_eq_some_iff.mp h).1
  rw [q_ws_len] at h1
  rw [q_ws_k G σ h1] at h
  exact ⟨h1, (Option.some.inj h).symm⟩
theorem q_ws_get {G : qG} {σ : qS} {a : Nat} (h1 : q_b G ≤ a) (h2 : a < q_b G + σ.1) : (q_ws G σ)[a - q_b G]? = some (a, q_cell G σ a) := by
  rw [q_ws_k G σ (by omega), show q_b G + (a - q_b G) = a by omega]
theorem q_ws_set {G : qG} {σ σ' : qS} {a : Nat} (h1 : q_b G ≤ a) (h2 : a < q_b G + σ.1) (hn : σ'.1 = σ.1) (hne : ∀ x, x ≠ a → q_cell G σ' x = q_cell G σ x) : (q_ws G σ).set (a - q_b G) (a, q_cell G σ' a) = q_ws G σ' := by
  apply List.ext_getElem?
  intro i
  rw [List.getElem?_set]
  by_cases hi : a - q_b G = i
  · subst hi
    rw [if_pos rfl, if_pos (by rw [q_ws_len]; omega), q_ws_get h1 (by omega)]
  · rw [if_neg hi]
    by_cases hl : i < σ.1
    · rw [q_ws_k G σ hl, q_ws_k G σ' (by omega), hne _ (by omega)]
    · rw [List.getElem?_eq_none (by rw [q_ws_len]; omega), List.getElem?_eq_none (by rw [q_ws_len]; omega)]
theorem q_dis (G : qG) (σ : qS) : va_D (q_A G) (q_ws G σ) := by
  refine ⟨fun i j p q hi hj he => ?_, fun k q hk => ?_⟩
  · obtain ⟨-, rfl⟩ := q_ws_inv hi
    obtain ⟨-, rfl⟩ := q_ws_inv hj
    exact Nat.add_left_cancel he
  · obtain ⟨-, rfl⟩ := q_ws_inv hk
    exact Nat.le_add_right _ _
theorem q_big {G : qG} {σ : qS} {H : Heap} (h : q_H G σ H) (hb : q_b G ≤ H.size) : q_b G + σ.1 ≤ H.size := by
  by_cases h0 : σ.1 = 0
  · omega
  · have h1 := (h (σ.1 - 1) _ (q_ws_k G σ (by omega))).lt
    dsimp only at h1
    omega
theorem q_fs_at {G : qG} {σ : qS} {ci a k : Nat} {q : vw_C} (hc : (q_cl G)[ci]? = some q) (hk : k < q.2.2) : (q_fs G σ ci a)[k]? = some (q_fv (q_ft G ci k) (σ.2.2.1 a k) (σ.2.2.2.1 a k) (σ.2.2.2.2 a k)) := by
  unfold q_fs q_N
  rw [hc, List.getElem?_map, List.getElem?_range hk]
  rfl
theorem q_fs_len {G : qG} {σ : qS} {ci a : Nat} {q : vw_C} (hc : (q_cl G)[ci]? = some q) : (q_fs G σ ci a).length = q.2.2 := by
  unfold q_fs q_N
  rw [hc]
  simp
theorem q_cell_o {G : qG} {σ : qS} {a ci : Nat} (h : σ.2.1 a = .inr ci) : q_cell G σ a = .inr (ci, q_fs G σ ci a) := by
  unfold q_cell
  rw [h]
theorem q_cell_a {G : qG} {σ : qS} {a n : Nat} {t : FieldType} (h : σ.2.1 a = .inl (t, n)) : q_cell G σ a = .inl (q_cA G t, n, q_av t (σ.2.2.1 a) (σ.2.2.2.1 a) (σ.2.2.2.2 a)) := by
  unfold q_cell
  rw [h]
theorem q_cell_ne {G : qG} {σ σ' : qS} {x : Nat} (h0 : σ'.2.1 x = σ.2.1 x) (h1 : σ'.2.2.1 x = σ.2.2.1 x) (h2 : σ'.2.2.2.1 x = σ.2.2.2.1 x) (h3 : σ'.2.2.2.2 x = σ.2.2.2.2 x) : q_cell G σ' x = q_cell G σ x := by
  unfold q_cell q_fs
  rw [h0, h1, h2, h3]
section EvHeap
variable {G : qG} {M : qM} {d pc : Nat} {B : Nat × Nat} {lv : List (Nat × Value)} {st : List Value} {σ : qS} {post : Option Value → qS → Prop}
theorem ev_get {a idx ci k : Nat} {fin : Bool} (v : Value) (hok : q_ok G) (hf : q_fl G M.1.cls idx ci k fin) (ha : q_in G σ a (.inr ci)) (hv : q_fv (q_ft G ci k) (σ.2.2.1 a k) (σ.2.2.2.1 a k) (σ.2.2.2.2 a k) = v) (hd : decode M.2.1 pc = .ok (.getfield idx, 3)) (kk : Ev G M d B (pc + 3) lv (v :: st) σ post) : Ev G M d B pc lv (.ref a :: st) σ post := by
  intro p l e R s m args below meth c H locs cells slots ls X h1 h2 h3 h4 h5 hz hH hS hl
  obtain ⟨q, hc, hk, hl1, -, -⟩ := hf
  obtain ⟨hx, hb, hml, hr, hlk, hown, hts, hK, hE, hnm⟩ := id X
  refine va_get (D := q_D G) (C := q.1) (T := q.2.1) (N := q.2.2) (ci := ci) (v := v) (fs := q_fs G σ ci a) hx hb hts (hok.1 ci q hc).1 hown hK hH (a - q_b G) ?_ hc k hk (hts _ hl1) (fun _ h => h) ?_ hd (kk p l e R s m args below meth c H locs cells slots ls X h1 h2 h3 h4 h5 hz hH hS hl)
  · rw [q_ws_get ha.1 ha.2.1, q_cell_o ha.2.2]
  · rw [q_fs_at hc hk, hv]
/-- a field is written: the state behind it is the same but for that field -/
theorem q_put_ws {ci a k : Nat} {q : vw_C} {σ' : qS} {v : Value} (hc : (q_cl G)[ci]? = some q) (hk : k < q.2.2) (ha : q_in G σ a (.inr ci)) (hn : σ'.1 = σ.1) (hs : σ'.2.1 = σ.2.1)
    (ho : ∀ x y, ¬ (x = a ∧ y = k) → σ'.2.2.1 x y = σ.2.2.1 x y ∧ σ'.2.2.2.1 x y = σ.2.2.2.1 x y ∧ σ'.2.2.2.2 x y = σ.2.2.2.2 x y)
    (hv : q_fv (q_ft G ci k) (σ'.2.2.1 a k) (σ'.2.2.2.1 a k) (σ'.2.2.2.2 a k) = v) : (q_ws G σ).set (a - q_b G) (a, .inr (ci, (q_fs G σ ci a).set k v)) = q_ws G σ' := by
  have h1 : (Sum.inr (ci, (q_fs G σ ci a).set k v) : va_E) = q_cell G σ' a := by
    rw [q_cell_o (ci := ci) (by rw [hs]; exact ha.2.2)]
    congr 2
    apply List.ext_getElem?
    intro i
    rw [List.getElem?_set]
    by_cases hi : k = i
    · subst hi
      rw [if_pos rfl, if_pos (by rw [q_fs_len hc]; exact hk), q_fs_at hc hk, hv]
    · rw [if_neg hi]
      by_cases hl : i < q.2.2
      · obtain ⟨e1, e2, e3⟩ := ho a i (fun h => hi h.2.symm)
        rw [q_fs_at hc hl, q_fs_at hc hl, e1, e2, e3]
      · rw [List.getElem?_eq_none (by rw [q_fs_len hc]; omega), List.getElem?_eq_none (by rw [q_fs_len hc]; omega)]
  rw [h1]
  refine q_ws_set ha.1 ha.2.1 hn (fun x hx => q_cell_ne (by rw [hs]) (funext fun y => ?_) (funext fun y => ?_) (funext fun y => ?_))
  · exact (ho x y (fun h => hx h.1)).1
  · exact (ho x y (fun h => hx h.1)).2.1
  · exact (ho x y (fun h => hx h.1)).2.2
theorem ev_put {a idx ci k : Nat} {v : Value} (σ' : qS) (hok : q_ok G) (hf : q_fl G M.1.cls idx ci k false) (ha : q_in G σ a (.inr ci)) (hn : σ'.1 = σ.1) (hs : σ'.2.1 = σ.2.1)
    (ho : ∀ x y, ¬ (x = a ∧ y = k) → σ'.2.2.1 x y = σ.2.2.1 x y ∧ σ'.2.2.2.1 x y = σ.2.2.2.1 x y ∧ σ'.2.2.2.2 x y = σ.2.2.2.2 x y)
    (hv : q_fv (q_ft G ci k) (σ'.2.2.1 a k) (σ'.2.2.2.1 a k) (σ'.2.2.2.2 a k) = v) (hna : narrow (q_ft G ci k) v = v) (hfi : fits (q_ft G ci k) v = true)
    (hd : decode M.2.1 pc = .ok (.putfield idx, 3)) (kk : Ev G M d B (pc + 3) lv st σ' post) : Ev G M d B pc lv (v :: .ref a :: st) σ post := by
  intro p l e R s m args below meth c H locs cells slots ls X h1 h2 h3 h4 h5 hz hH hS hl
  obtain ⟨q, hc, hk, hl1, hfin, -⟩ := hf
  obtain ⟨hx, hb, hml, hr, hlk, hown, hts, hK, hE, hnm⟩ := id X
  obtain ⟨o1, o2, o3⟩ := hok.1 ci q hc
  have hput := q_put_ws (G := G) (σ := σ) (σ' := σ') hc hk ha hn hs ho hv
  refine va_put (D := q_D G) (C := q.1) (T := q.2.1) (N := q.2.2) (ci := ci) (v := v) (ty := q_ft G ci k) (fs := q_fs G σ ci a) hx hb hts o1 (q_ft G ci) o2 o3 hown hK hH (q_dis G σ) hS (a - q_b G) ?_ hc k hk (hts _ hl1) (fun _ h => h) hfin (o2 k hk) hna hfi (by rw [q_fs_len hc]; exact hk) hd (fun H1 locs1 hP1 hD1 hS1 => ?_)
  · rw [q_ws_get ha.1 ha.2.1, q_cell_o ha.2.2]
  · rw [hput] at hP1
    rw [← hn]
    exact kk p l e R s m args below meth c H1 locs1 cells slots ls X h1 h2 h3 h4 h5 (by rw [hn]; exact hz) hP1 hS1 hl
/-- a final field, in the constructor of its class -/
theorem ev_putF {a idx ci k : Nat} {v : Value} (σ' : qS) (hok : q_ok G) (hf : q_fl G M.1.cls idx ci k true) (hi : M.1.name = "<init>") (hci : ∀ q : vw_C, (q_cl G)[ci]? = some q → q.1 = M.1.cls) (ha : q_in G σ a (.inr ci)) (hn : σ'.1 = σ.1) (hs : σ'.2.1 = σ.2.1)
    (ho : ∀ x y, ¬ (x = a ∧ y = k) → σ'.2.2.1 x y = σ.2.2.1 x y ∧ σ'.2.2.2.1 x y = σ.2.2.2.1 x y ∧ σ'.2.2.2.2 x y = σ.2.2.2.2 x y)
    (hv : q_fv (q_ft G ci k) (σ'.2.2.1 a k) (σ'.2.2.2.1 a k) (σ'.2.2.2.2 a k) = v) (hna : narrow (q_ft G ci k) v = v) (hfi : fits (q_ft G ci k) v = true)
    (hd : decode M.2.1 pc = .ok (.putfield idx, 3)) (kk : Ev G M d B (pc + 3) lv st σ' post) : Ev G M d B pc lv (v :: .ref a :: st) σ post := by
  intro p l e R s m args below meth c H locs cells slots ls X h1 h2 h3 h4 h5 hz hH hS hl
  obtain ⟨q, hc, hk, hl1, hfin, hdecl⟩ := hf
  obtain ⟨hx, hb, hml, hr, hlk, hown, hts, hK, hE, hnm⟩ := id X
  obtain ⟨o1, o2, o3⟩ := hok.1 ci q hc
  have hput := q_put_ws (G := G) (σ := σ) (σ' := σ') hc hk ha hn hs ho hv
  refine va_putF (D := q_D G) (C := q.1) (T := q.2.1) (N := q.2.2) (ci := ci) (v := v) (ty := q_ft G ci k) (fs := q_fs G σ ci a) hx hb hts o1 (q_ft G ci) o2 o3 hown hK hH (q_dis G σ) hS (a - q_b G) ?_ hc k hk (hts _ hl1) (fun _ h => h) hfin (hnm.trans hi) (hdecl.trans (hci q hc)) (o2 k hk) hna hfi (by rw [q_fs_len hc]; exact hk) hd (fun H1 locs1 hP1 hD1 hS1 => ?_)
  · rw [q_ws_get ha.1 ha.2.1, q_cell_o ha.2.2]
  · rw [hput] at hP1
    rw [← hn]
    exact kk p l e R s m args below meth c H1 locs1 cells slots ls X h1 h2 h3 h4 h5 (by rw [hn]; exact hz) hP1 hS1 hl
theorem q_ty {t : FieldType} (h : t ∈ q_tl G) : ∃ t0 : Nat, (q_tys G)[t0]? = some (q_cA G t, t) := by
  obtain ⟨i, hi⟩ := List.getElem?_of_mem h
  exact ⟨i, by rw [List.getElem?_map, hi]; rfl⟩
end EvHeap
