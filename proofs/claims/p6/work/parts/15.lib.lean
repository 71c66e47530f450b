/-! The slim logic's rows for Math and System.arraycopy. -/
section EvMath
variable {G : qG} {M : qM} {d pc idx : Nat} {B : Nat × Nat} {lv : List (Nat × Value)} {st : List Value} {σ : qS} {post : Option Value → qS → Prop}
theorem ev_mmax {x y : Int32} (h0 : 1 ≤ d) (q1 : Cond.methodLink M.1.cls idx Lib.Math.max.name ∈ q_Ts G) (q2 : Cond.static Lib.Math.max.name ∈ q_Ts G) (q3 : Cond.initialized "java/lang/Math" ∈ q_Ts G) (q4 : Cond.code Lib.Math.max.name Lib.Math.max.code 2 (some .int) ∈ q_Ts G) (hsum : (st.map fun v => v.category).sum ≤ 8) (hd : decode M.2.1 pc = .ok (.invokestatic idx, 3)) (kk : Ev G M d B (pc + 3) lv (.int (if x < y then y else x) :: st) σ post) : Ev G M d B pc lv (.int y :: .int x :: st) σ post := by
  intro p l e R s m args below meth c H locs cells slots ls X h1 h2 h3 h4 h5 hz hH hS hl
  obtain ⟨hx, hbb, hml, hr, hlk, hown, hts, hK, hE, hnm⟩ := id X
  exact va_mmax hx hbb (by rw [hml]; exact hl.1.symm) hown (hts _ q1) (hts _ q2) (hts _ q3) (hts _ q4) (by omega) (by omega) (by omega) (by omega) hd (kk p l e R s m args below meth c H locs cells slots ls X h1 h2 h3 h4 h5 hz hH hS hl)
theorem ev_mmin {x y : Int32} (h0 : 1 ≤ d) (q1 : Cond.methodLink M.1.cls idx Lib.Math.min.name ∈ q_Ts G) (q2 : Cond.static Lib.Math.min.name ∈ q_Ts G) (q3 : Cond.initialized "java/lang/Math" ∈ q_Ts G) (q4 : Cond.code Lib.Math.min.name Lib.Math.min.code 2 (some .int) ∈ q_Ts G) (hsum : (st.map fun v => v.category).sum ≤ 8) (hd : decode M.2.1 pc = .ok (.invokestatic idx, 3)) (kk : Ev G M d B (pc + 3) lv (.int (if y < x then y else x) :: st) σ post) : Ev G M d B pc lv (.int y :: .int x :: st) σ post := by
  intro p l e R s m args below meth c H locs cells slots ls X h1 h2 h3 h4 h5 hz hH hS hl
  obtain ⟨hx, hbb, hml, hr, hlk, hown, hts, hK, hE, hnm⟩ := id X
  exact va_mmin hx hbb (by rw [hml]; exact hl.1.symm) hown (hts _ q1) (hts _ q2) (hts _ q3) (hts _ q4) (by omega) (by omega) (by omega) (by omega) hd (kk p l e R s m args below meth c H locs cells slots ls X h1 h2 h3 h4 h5 hz hH hS hl)
theorem ev_mabs {x : Int32} (h0 : 1 ≤ d) (q1 : Cond.methodLink M.1.cls idx Lib.Math.abs.name ∈ q_Ts G) (q2 : Cond.static Lib.Math.abs.name ∈ q_Ts G) (q3 : Cond.initialized "java/lang/Math" ∈ q_Ts G) (q4 : Cond.code Lib.Math.abs.name Lib.Math.abs.code 1 (some .int) ∈ q_Ts G) (hsum : (st.map fun v => v.category).sum ≤ 8) (hd : decode M.2.1 pc = .ok (.invokestatic idx, 3)) (kk : Ev G M d B (pc + 3) lv (.int (if 0 ≤ x then x else 0 - x) :: st) σ post) : Ev G M d B pc lv (.int x :: st) σ post := by
  intro p l e R s m args below meth c H locs cells slots ls X h1 h2 h3 h4 h5 hz hH hS hl
  obtain ⟨hx, hbb, hml, hr, hlk, hown, hts, hK, hE, hnm⟩ := id X
  exact va_mabs hx hbb (by rw [hml]; exact hl.1.symm) hown (hts _ q1) (hts _ q2) (hts _ q3) (hts _ q4) (by omega) (by omega) (by omega) (by omega) hd (kk p l e R s m args below meth c H locs cells slots ls X h1 h2 h3 h4 h5 hz hH hS hl)
theorem ev_mmaxl {x y : Int64} (h0 : 1 ≤ d) (q1 : Cond.methodLink M.1.cls idx Lib.MathLoose.max_long.x ∈ q_Ts G) (q2 : Cond.static Lib.MathLoose.max_long.x ∈ q_Ts G) (q3 : Cond.initialized "java/lang/Math" ∈ q_Ts G) (q4 : Cond.code Lib.MathLoose.max_long.x Lib.MathLoose.max_long.code 4 (some .long) ∈ q_Ts G) (hsum : (st.map fun v => v.category).sum ≤ 8) (hd : decode M.2.1 pc = .ok (.invokestatic idx, 3)) (kk : Ev G M d B (pc + 3) lv (.long (if y < x then x else y) :: st) σ post) : Ev G M d B pc lv (.long y :: .long x :: st) σ post := by
  intro p l e R s m args below meth c H locs cells slots ls X h1 h2 h3 h4 h5 hz hH hS hl
  obtain ⟨hx, hbb, hml, hr, hlk, hown, hts, hK, hE, hnm⟩ := id X
  exact va_mmax_long hx hbb (by rw [hml]; exact hl.1.symm) hown (hts _ q1) (hts _ q2) (hts _ q3) (hts _ q4) (by omega) (by omega) (by omega) (by omega) hd (kk p l e R s m args below meth c H locs cells slots ls X h1 h2 h3 h4 h5 hz hH hS hl)
theorem ev_mminl {x y : Int64} (h0 : 1 ≤ d) (q1 : Cond.methodLink M.1.cls idx Lib.MathLoose.min_long.x ∈ q_Ts G) (q2 : Cond.static Lib.MathLoose.min_long.x ∈ q_Ts G) (q3 : Cond.initialized "java/lang/Math" ∈ q_Ts G) (q4 : Cond.code Lib.MathLoose.min_long.x Lib.MathLoose.min_long.code 4 (some .long) ∈ q_Ts G) (hsum : (st.map fun v => v.category).sum ≤ 8) (hd : decode M.2.1 pc = .ok (.invokestatic idx, 3)) (kk : Ev G M d B (pc + 3) lv (.long (if y < x then y else x) :: st) σ post) : Ev G M d B pc lv (.long y :: .long x :: st) σ post := by
  intro p l e R s m args below meth c H locs cells slots ls X h1 h2 h3 h4 h5 hz hH hS hl
  obtain ⟨hx, hbb, hml, hr, hlk, hown, hts, hK, hE, hnm⟩ := id X
  exact va_mmin_long hx hbb (by rw [hml]; exact hl.1.symm) hown (hts _ q1) (hts _ q2) (hts _ q3) (hts _ q4) (by omega) (by omega) (by omega) (by omega) hd (kk p l e R s m args below meth c H locs cells slots ls X h1 h2 h3 h4 h5 hz hH hS hl)
end EvMath
/-- a row of an array is overwritten whole -/
def q_w {α : Type} (f : Nat → Nat → α) (a : Nat) (g : Nat → α) : Nat → Nat → α := fun x y => if x = a then g y else f x y
theorem q_w_at {α : Type} {f : Nat → Nat → α} {a : Nat} {g : Nat → α} : q_w f a g a = g := by
  funext y
  simp [q_w]
theorem q_w_ne {α : Type} {f : Nat → Nat → α} {a x : Nat} {g : Nat → α} (h : x ≠ a) : q_w f a g x = f x := by
  funext y
  simp [q_w, h]
section EvCopy
variable {G : qG} {M : qM} {d pc idx : Nat} {B : Nat × Nat} {lv : List (Nat × Value)} {st : List Value} {n : Nat} {sh : Nat → qC} {Rf : Nat → Nat → Option Nat} {I : Nat → Nat → Int32} {L : Nat → Nat → Int64} {post : Option Value → qS → Prop}
theorem ev_copyi {a0 a1 w0 w1 : Nat} {sp dp k : Int32} (h0 : 1 ≤ d) (hok : q_ok G) (q1 : Cond.methodLink M.1.cls idx arraycopyName ∈ q_Ts G) (q2 : Cond.native arraycopyName ∈ q_Ts G) (q3 : Cond.static arraycopyName ∈ q_Ts G) (q4 : Cond.initialized "java/lang/System" ∈ q_Ts G) (ha0 : q_in G (n, sh, Rf, I, L) a0 (.inl (.int, w0))) (ha1 : q_in G (n, sh, Rf, I, L) a1 (.inl (.int, w1)))
    (hsp : ¬ sp < 0) (hdp : ¬ dp < 0) (hk : ¬ k < 0) (h6 : sp.toNatClampNeg + k.toNatClampNeg ≤ w0) (h7 : dp.toNatClampNeg + k.toNatClampNeg ≤ w1) (hsum : (st.map fun v => v.category).sum ≤ 8) (hd : decode M.2.1 pc = .ok (.invokestatic idx, 3))
    (kk : Ev G M d B (pc + 3) lv st (n, sh, Rf, q_w I a1 (va_cpy (I a0) (I a1) sp.toNatClampNeg dp.toNatClampNeg k.toNatClampNeg), L) post) : Ev G M d B pc lv (.int k :: .int dp :: .ref a1 :: .int sp :: .ref a0 :: st) (n, sh, Rf, I, L) post := by
  intro p l e R s m args below meth c H locs cells slots ls X h1 h2 h3 h4 h5 hz hH hS hl
  obtain ⟨hx, hbb, hml, hr, hlk, hown, hts, hK, hE, hnm⟩ := id X
  obtain ⟨t0, ht0⟩ := q_ty (G := G) hok.2.2.1
  have hwords : nativeFrameWords "java/lang/System" "arraycopy" 5 + 11 ≤ 50 := by decide +kernel
  refine va_copyi (f := I a0) (g := I a1) (ty := .int) hx hbb (by rw [hml]; exact hl.1.symm) hown (hts _ q1) (hts _ q2) (hts _ q3) (hts _ q4) hK hH (q_dis G _) hS (a0 - q_b G) (a1 - q_b G) t0 t0 (by rw [q_ws_get ha0.1 ha0.2.1, q_cell_a ha0.2.2]; rfl) (by rw [q_ws_get ha1.1 ha1.2.1, q_cell_a ha1.2.2]; rfl) ht0 ht0 rfl hsp hdp hk h6 h7 (fun i _ => rfl) (by omega) (by omega) hd (fun H1 locs1 hP1 hD1 hS1 => ?_)
  have e1 : (q_ws G (n, sh, Rf, I, L)).set (a1 - q_b G) (a1, .inl (q_cA G .int, w1, .inl (va_cpy (I a0) (I a1) sp.toNatClampNeg dp.toNatClampNeg k.toNatClampNeg))) = q_ws G (n, sh, Rf, q_w I a1 (va_cpy (I a0) (I a1) sp.toNatClampNeg dp.toNatClampNeg k.toNatClampNeg), L) := by
    have e2 : (Sum.inl (q_cA G .int, w1, Sum.inl (va_cpy (I a0) (I a1) sp.toNatClampNeg dp.toNatClampNeg k.toNatClampNeg)) : va_E) = q_cell G (n, sh, Rf, q_w I a1 (va_cpy (I a0) (I a1) sp.toNatClampNeg dp.toNatClampNeg k.toNatClampNeg), L) a1 := by
      rw [q_cell_a (G := G) (σ := (n, sh, Rf, q_w I a1 (va_cpy (I a0) (I a1) sp.toNatClampNeg dp.toNatClampNeg k.toNatClampNeg), L)) (a := a1) (t := .int) (n := w1) ha1.2.2]
      show _ = (Sum.inl (q_cA G .int, w1, Sum.inl (q_w I a1 _ a1)) : va_E)
      rw [q_w_at]
    rw [e2]
    exact q_ws_set ha1.1 ha1.2.1 rfl (fun x hx => q_cell_ne rfl rfl (q_w_ne hx) rfl)
  have hP2 : q_H G (n, sh, Rf, q_w I a1 (va_cpy (I a0) (I a1) sp.toNatClampNeg dp.toNatClampNeg k.toNatClampNeg), L) H1 := by
    unfold q_H
    rw [← e1]
    exact hP1
  exact kk p l e R s m args below meth c H1 locs1 cells slots ls X h1 h2 h3 h4 h5 hz hP2 hS1 hl
end EvCopy
section EvNull
variable {G : qG} {M : qM} {d pc : Nat} {B : Nat × Nat} {lv : List (Nat × Value)} {st : List Value} {σ : qS} {post : Option Value → qS → Prop}
theorem ev_aload_nN {n : Fin 4} (hd : decode M.2.1 pc = .ok (.aload_n n, 1)) (hi : lvg lv n = some .null) (k : Ev G M d B (pc + 1) lv (.null :: st) σ post) : Ev G M d B pc lv st σ post := by
  intro p l e R s m args below meth c H locs cells slots ls X h1 h2 h3 h4 h5 hz hH hS hl
  exact lv_aload_nN X.1 X.2.1 hd rfl (lvg_at hl hi) (k p l e R s m args below meth c H locs cells slots ls X h1 h2 h3 h4 h5 hz hH hS hl)
theorem ev_aloadN {n : Nat} (hd : decode M.2.1 pc = .ok (.aload n, 2)) (hi : lvg lv n = some .null) (k : Ev G M d B (pc + 2) lv (.null :: st) σ post) : Ev G M d B pc lv st σ post := by
  intro p l e R s m args below meth c H locs cells slots ls X h1 h2 h3 h4 h5 hz hH hS hl
  exact lv_aloadN X.1 X.2.1 hd (lvg_at hl hi) (k p l e R s m args below meth c H locs cells slots ls X h1 h2 h3 h4 h5 hz hH hS hl)
theorem ev_astore_nN {n : Fin 4} (hd : decode M.2.1 pc = .ok (.astore_n n, 1)) (hn : n.val < M.2.2.1) (k : Ev G M d B (pc + 1) (lvs lv n .null) st σ post) : Ev G M d B pc lv (.null :: st) σ post := by
  intro p l e R s m args below meth c H locs cells slots ls X h1 h2 h3 h4 h5 hz hH hS hl
  exact lv_astore_nN X.1 X.2.1 hd rfl hl hn rfl (fun ls hl => k p l e R s m args below meth c H locs cells slots ls X h1 h2 h3 h4 h5 hz hH hS hl)
theorem ev_astoreN {n : Nat} (hd : decode M.2.1 pc = .ok (.astore n, 2)) (hn : n < M.2.2.1) (k : Ev G M d B (pc + 2) (lvs lv n .null) st σ post) : Ev G M d B pc lv (.null :: st) σ post := by
  intro p l e R s m args below meth c H locs cells slots ls X h1 h2 h3 h4 h5 hz hH hS hl
  exact lv_astoreN X.1 X.2.1 hd hl hn rfl (fun ls hl => k p l e R s m args below meth c H locs cells slots ls X h1 h2 h3 h4 h5 hz hH hS hl)
end EvNull
