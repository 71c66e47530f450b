/-! What holds at the law's start; the claim. By program (lstart.py), its end from the skeleton. -/
set_option maxRecDepth 20000 in
theorem lw_bytes0 : (List.range 165).map (fun j => Cond.eq (.elem (Term.field (Term.string "SaltOffice$Tape" 48) "java/lang/String" "value" "[B") (.int (Int32.ofNat j))) (.int ((qByt.getD 0 []).getD j 0))) = ((flatC (Jvm.Cond.and given_1 narrow_1)).drop 13).take 165 := by decide +kernel
theorem lw_byte0 {args : Array Value} {s : State} (hs : ∀ c ∈ flatC (Jvm.Cond.and given_1 narrow_1), c.before args s = true) (j : Nat) (hj : j < 165) : (Cond.eq (.elem (Term.field (Term.string "SaltOffice$Tape" 48) "java/lang/String" "value" "[B") (.int (Int32.ofNat j))) (.int ((qByt.getD 0 []).getD j 0))).before args s = true := by
  refine hs _ (List.mem_of_mem_drop (List.mem_of_mem_take (?_ : _ ∈ ((flatC (Jvm.Cond.and given_1 narrow_1)).drop 13).take 165)))
  rw [← lw_bytes0]
  exact List.mem_map.mpr ⟨j, List.mem_range.mpr hj, rfl⟩
set_option maxRecDepth 20000 in
theorem lw_bytes1 : (List.range 10).map (fun j => Cond.eq (.elem (Term.field (Term.string "SaltOffice$Tape" 90) "java/lang/String" "value" "[B") (.int (Int32.ofNat j))) (.int ((qByt.getD 1 []).getD j 0))) = ((flatC (Jvm.Cond.and given_1 narrow_1)).drop 182).take 10 := by decide +kernel
theorem lw_byte1 {args : Array Value} {s : State} (hs : ∀ c ∈ flatC (Jvm.Cond.and given_1 narrow_1), c.before args s = true) (j : Nat) (hj : j < 10) : (Cond.eq (.elem (Term.field (Term.string "SaltOffice$Tape" 90) "java/lang/String" "value" "[B") (.int (Int32.ofNat j))) (.int ((qByt.getD 1 []).getD j 0))).before args s = true := by
  refine hs _ (List.mem_of_mem_drop (List.mem_of_mem_take (?_ : _ ∈ ((flatC (Jvm.Cond.and given_1 narrow_1)).drop 182).take 10)))
  rw [← lw_bytes1]
  exact List.mem_map.mpr ⟨j, List.mem_range.mpr hj, rfl⟩
section LS
variable {args : Array Value} {s : State}
theorem lw_known (hts : ∀ w ∈ qTs, w.before args s = true) : ∀ (k : Nat) (q : vw_C), qcl[k]? = some q → ∃ (c : ClassId) (iS : Nat → Nat), u_Kn s q.1 q.2.1 q.2.2 c iS := by
  intro k q hq
  match k, hq with
  | 0, hq => cases hq; exact u_known (n := 7) hts qin0 (hts _ (q_t2 80 (by decide +kernel) rfl))
  | 1, hq => cases hq; exact u_known (n := 20) hts qin1 (hts _ (q_t1 135 (by decide +kernel) rfl))
  | 2, hq => cases hq; exact u_known (n := 10) hts qin2 (hts _ (q_t2 230 (by decide +kernel) rfl))
  | 3, hq => cases hq; exact u_known (n := 15) hts qin3 (hts _ (q_t2 165 (by decide +kernel) rfl))
  | 4, hq => cases hq; exact u_known (n := 6) hts qin4 (hts _ (q_t2 129 (by decide +kernel) rfl))
  | 5, hq => cases hq; exact u_known (n := 4) hts qin5 (hts _ (q_t3 37 (by decide +kernel) rfl))
  | 6, hq => cases hq; exact u_known (n := 9) hts qin6 (hts _ (q_t2 0 (by decide +kernel) rfl))
  | 7, hq => cases hq; exact u_known (n := 20) hts qin7 (hts _ (q_t2 117 (by decide +kernel) rfl))
  | 8, hq => cases hq; exact u_known (n := 11) hts qin8 (hts _ (q_t1 32 (by decide +kernel) rfl))
  | 9, hq => cases hq; exact u_known (n := 7) hts qin9 (hts _ (q_t2 36 (by decide +kernel) rfl))
  | 10, hq => cases hq; exact u_known (n := 8) hts qin10 (hts _ (q_t3 60 (by decide +kernel) rfl))
  | 11, hq => cases hq; exact u_known (n := 10) hts qin11 (hts _ (q_t1 24 (by decide +kernel) rfl))
  | 12, hq => cases hq; exact u_known (n := 164) hts qin12 (hts _ (q_t6 209 (by decide +kernel) rfl))
  | k + 13, hq => exact absurd hq (by simp [qcl])
theorem lw_arr {t : FieldType} (h : (Cond.arrayClass t).before args s = true) (ho : ∀ C, t ≠ .object C) : ∃ c : ClassId, ArrOfT s c t ∧ va_RA s c t := by
  obtain ⟨c, k, comp, h1, h2, h3⟩ := Cond.arrayClass_spec h
  refine ⟨c, fun n z => ⟨fun k h => (by cases h), k, h2, comp, h3⟩, ?_⟩
  cases t with
  | object C => exact absurd rfl (ho C)
  | _ => exact h1
theorem lw_arrO {C : String} (h : (Cond.arrayOver (.object C)).before args s = true) : ∃ c : ClassId, ArrOfT s c (.object C) ∧ va_RA s c (.object C) := by
  obtain ⟨comp, c, k, h1, h2, h3, h4, h5⟩ := Cond.arrayOver_spec h
  exact ⟨c, fun n z => ⟨fun k h => (by cases h), k, h3, comp, h4⟩, k, comp, h3, h4, h1, h5⟩
theorem lw_types (hts : ∀ w ∈ lw_tbl, w.before args s = true) : ∀ t ∈ qtl, ∃ c : ClassId, ArrOfT s c t ∧ va_RA s c t := by
  refine List.forall_mem_cons.mpr ⟨lw_arr (hts (.arrayClass .int) (List.mem_append_right _ (q_in1 _ (List.mem_of_getElem? (i := 131) (by decide +kernel))))) (fun C h => by cases h), List.forall_mem_cons.mpr ⟨lw_arr (hts (.arrayClass .long) (List.mem_append_right _ (q_in1 _ (List.mem_of_getElem? (i := 132) (by decide +kernel))))) (fun C h => by cases h), List.forall_mem_cons.mpr ⟨lw_arr (hts (.arrayClass .byte) (List.mem_append_right _ (q_in1 _ (List.mem_of_getElem? (i := 133) (by decide +kernel))))) (fun C h => by cases h), List.forall_mem_cons.mpr ⟨lw_arr (hts (.arrayClass .boolean) (List.mem_append_right _ (q_in10 _ (List.mem_of_getElem? (i := 235) (by decide +kernel))))) (fun C h => by cases h), List.forall_mem_cons.mpr ⟨lw_arrO (hts (.arrayOver (.object "SaltOffice$Reform")) (List.mem_append_right _ (q_in1 _ (List.mem_of_getElem? (i := 239) (by decide +kernel))))), fun _ h => absurd h List.not_mem_nil⟩⟩⟩⟩⟩
theorem lw_K (d0 : ClassId) (hts : ∀ w ∈ lw_tbl, w.before args s = true) : ∃ (D : va_G) (cA : FieldType → ClassId), va_K D qcl (qtl.map fun t => (cA t, t)) s := by
  have htq : ∀ w ∈ qTs, w.before args s = true := fun w hw => hts w (List.mem_filter.mp hw).1
  have h1 : ∀ k : Nat, ∃ p : ClassId × (Nat → Nat), ∀ q : vw_C, qcl[k]? = some q → u_Kn s q.1 q.2.1 q.2.2 p.1 p.2 := by
    intro k
    cases hq : qcl[k]? with
    | none => exact ⟨(d0, fun _ => 0), fun q h => by cases h⟩
    | some q =>
      obtain ⟨c, iS, h⟩ := lw_known htq k q hq
      exact ⟨(c, iS), fun q' h' => by cases h'; exact h⟩
  obtain ⟨f, hf⟩ := Classical.axiomOfChoice h1
  have h2 : ∀ t : FieldType, ∃ c : ClassId, t ∈ qtl → ArrOfT s c t ∧ va_RA s c t := by
    intro t
    by_cases ht : t ∈ qtl
    · obtain ⟨c, h⟩ := lw_types hts t ht
      exact ⟨c, fun _ => h⟩
    · exact ⟨d0, fun h => absurd h ht⟩
  obtain ⟨g, hg⟩ := Classical.axiomOfChoice h2
  refine ⟨(fun k => (f k).1, fun k => (f k).2), g, fun k q hq => hf k q hq, fun k q hk => ?_⟩
  rw [List.getElem?_map] at hk
  cases ht : qtl[k]? with
  | none => rw [ht] at hk; cases hk
  | some t =>
    rw [ht] at hk
    cases hk
    exact hg t (List.mem_of_getElem? ht)
theorem lw_nest : ∀ x ∈ qNL, Cond.methodLinkNest x.1 x.2.1 x.2.2.1 x.2.2.2 ∈ lw_tbl := List.forall_mem_cons.mpr ⟨(List.mem_append_right _ (q_in2 _ (List.mem_of_getElem? (i := 1) (by decide +kernel)))), List.forall_mem_cons.mpr ⟨(List.mem_append_right _ (q_in2 _ (List.mem_of_getElem? (i := 37) (by decide +kernel)))), List.forall_mem_cons.mpr ⟨(List.mem_append_right _ (q_in2 _ (List.mem_of_getElem? (i := 81) (by decide +kernel)))), List.forall_mem_cons.mpr ⟨(List.mem_append_right _ (q_in2 _ (List.mem_of_getElem? (i := 118) (by decide +kernel)))), List.forall_mem_cons.mpr ⟨(List.mem_append_right _ (q_in2 _ (List.mem_of_getElem? (i := 125) (by decide +kernel)))), List.forall_mem_cons.mpr ⟨(List.mem_append_right _ (q_in2 _ (List.mem_of_getElem? (i := 127) (by decide +kernel)))), List.forall_mem_cons.mpr ⟨(List.mem_append_right _ (q_in2 _ (List.mem_of_getElem? (i := 130) (by decide +kernel)))), List.forall_mem_cons.mpr ⟨(List.mem_append_right _ (q_in2 _ (List.mem_of_getElem? (i := 166) (by decide +kernel)))), List.forall_mem_cons.mpr ⟨(List.mem_append_right _ (q_in2 _ (List.mem_of_getElem? (i := 231) (by decide +kernel)))), List.forall_mem_cons.mpr ⟨(List.mem_append_right _ (q_in3 _ (List.mem_of_getElem? (i := 38) (by decide +kernel)))), List.forall_mem_cons.mpr ⟨(List.mem_append_right _ (q_in3 _ (List.mem_of_getElem? (i := 61) (by decide +kernel)))), List.forall_mem_cons.mpr ⟨(List.mem_append_right _ (q_in6 _ (List.mem_of_getElem? (i := 21) (by decide +kernel)))), List.forall_mem_cons.mpr ⟨(List.mem_append_right _ (q_in6 _ (List.mem_of_getElem? (i := 41) (by decide +kernel)))), fun _ h => absurd h List.not_mem_nil⟩⟩⟩⟩⟩⟩⟩⟩⟩⟩⟩⟩⟩
set_option maxRecDepth 20000 in
theorem lw_E {xb xl : Nat} {xs : Nat → Int32} (hts : ∀ w ∈ lw_tbl, w.before args s = true) (hs : ∀ c ∈ flatC (Jvm.Cond.and given_1 narrow_1), c.before args s = true) (hX : va_X xb xl xs s s.heap) (hb : xb < s.heap.size) : ∃ kS vS : Nat → Nat, qEx s.heap.size kS vS xb xl xs s := by
  have hA : ∀ a : Nat, a < s.heap.size → ¬ (fun q => s.heap.size ≤ q) a := fun a h => Nat.not_le.mpr h
  have hs0 : ∀ i : Nat, i < 2 → i = 0 ∨ i = 1 := fun i h => by omega
  obtain ⟨kS, vS, hS, hk⟩ := vk_Sof (args := args) (s := s) (N := 2) (tm := fun i => if i = 0 then (Term.string "SaltOffice$Tape" 48) else (Term.string "SaltOffice$Tape" 90)) (len := qLen) (byt := qByt) (A := fun q => s.heap.size ≤ q) qLen_lt
    (fun i hi => by rcases hs0 i hi with rfl | rfl; exact hs _ (by decide +kernel); exact hs _ (by decide +kernel))
    (fun i hi => by rcases hs0 i hi with rfl | rfl; exact hs _ (by decide +kernel); exact hs _ (by decide +kernel))
    (fun i hi => by rcases hs0 i hi with rfl | rfl; exact hs _ (by decide +kernel); exact hs _ (by decide +kernel))
    (fun i hi => by rcases hs0 i hi with rfl | rfl; exact hs _ (by decide +kernel); exact hs _ (by decide +kernel))
    (fun i hi j hj => by rcases hs0 i hi with rfl | rfl; exact lw_byte0 hs j hj; exact lw_byte1 hs j hj)
    (fun i j hi hj hij => by
      rcases hs0 i hi with rfl | rfl <;> rcases hs0 j hj with rfl | rfl
      · exact absurd rfl hij
      · exact Or.inl (hs _ (by decide +kernel))
      · exact Or.inr (hs _ (by decide +kernel))
      · exact absurd rfl hij) hA
  obtain ⟨scr, x1, x2, x3, x4, x5⟩ := hX
  refine ⟨kS, vS, fun x hx => va_Nw.of rfl (hts _ (lw_nest x hx)), va_AO.of (hts (.arrayOver (.object "SaltOffice$Reform")) (List.mem_append_right _ (q_in1 _ (List.mem_of_getElem? (i := 239) (by decide +kernel))))), ⟨vk_R.of (hts (.stringRef "SaltOffice$Tape" 48 qTx0) (List.mem_append_right _ (q_in1 _ (List.mem_of_getElem? (i := 37) (by decide +kernel))))) (hk 0 (by decide)), vk_R.of (hts (.stringRef "SaltOffice$Tape" 90 qTx1) (List.mem_append_right _ (q_in4 _ (List.mem_of_getElem? (i := 24) (by decide +kernel))))) (hk 1 (by decide))⟩, hS, ?_, ?_, scr, x1, x2, x3, Nat.le_of_eq x4.symm, by rw [x4], x5, hA xb hb⟩
  · exact va_Zof (hts (.laysStatic "java/lang/String" "COMPACT_STRINGS" "Z") (List.mem_append_right _ (q_in1 _ (List.mem_of_getElem? (i := 47) (by decide +kernel))))) (hts (.initialized "java/lang/String") (List.mem_append_right _ (q_in1 _ (List.mem_of_getElem? (i := 3) (by decide +kernel))))) (va_eqt (hs (Cond.eq (.static "java/lang/String" "COMPACT_STRINGS" "Z") (.int 1)) (by decide +kernel))) hA
  · exact va_Zqof (hts (.laysStatic "jdk/internal/util/Preconditions" "SIOOBE_FORMATTER" "Ljava/util/function/BiFunction;") (List.mem_append_right _ (q_in1 _ (List.mem_of_getElem? (i := 63) (by decide +kernel))))) (hts (.initialized "jdk/internal/util/Preconditions") (List.mem_append_right _ (q_in1 _ (List.mem_of_getElem? (i := 5) (by decide +kernel))))) (hs (Cond.isRef (.static "jdk/internal/util/Preconditions" "SIOOBE_FORMATTER" "Ljava/util/function/BiFunction;")) (by decide +kernel)) hA
end LS
