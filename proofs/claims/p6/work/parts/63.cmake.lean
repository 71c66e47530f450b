/-! The rows and the numbers of an object in the making. -/
/-- a row of zeros -/
def arrQ (t : FieldType) (w : Nat) : qS → Nat → Prop := fun σ a => σ.2.1 a = .inl (t, w) ∧ (σ.2.2.2.1 a = fun _ => 0) ∧ (σ.2.2.2.2 a = fun _ => 0)
theorem arrQ_loc {t : FieldType} {w : Nat} : LocalP 1 (arrQ t w) := fun n sh Rf I L n' sh' Rf' I' L' a _ h p => by
  obtain ⟨a1, _, a3, a4⟩ := h a (Nat.le_refl _) (by omega)
  exact ⟨a1.trans p.1, a3.trans p.2.1, a4.trans p.2.2⟩
section Mk2
variable {G : qG} {M : qM} {d pc ci k : Nat} {lv : List (Nat × Value)} {post : Option Value → qS → Prop} {parts : List (Nat × Nat × Nat × (qS → Nat → Prop))} {o n0 : Nat} {sh0 : Nat → qC} {Rf0 : Nat → Nat → Option Nat} {I0 : Nat → Nat → Int32} {L0 : Nat → Nat → Int64} {F : Nat → Int32} {FL : Nat → Int64} {m n kc ks : Nat} {sh : Nat → qC} {Rf : Nat → Nat → Option Nat} {I : Nat → Nat → Int32} {L : Nat → Nat → Int64}
theorem ev_arrO {i : Int32} {atype : ArrayType} {t : FieldType} {w idx : Nat} (hok : q_ok G) (hP : OJ G ci parts o n0 sh0 Rf0 I0 L0 F FL m n sh Rf I L) (hdis : ∀ p ∈ parts, p.2.1 ≠ k) (ht : q_pt G t atype) (hi : ¬ i < 0) (hN : i.toNatClampNeg = w) (hb : w * 8 ≤ 536870912)
    (hd : decode M.2.1 pc = .ok (.newarray atype, 2)) (hf : q_fl G M.1.cls idx ci k true) (hin : M.1.name = "<init>") (hci : ∀ q : vw_C, (q_cl G)[ci]? = some q → q.1 = M.1.cls) (hft : q_ft G ci k = .array t) (hd2 : decode M.2.1 (pc + 2) = .ok (.putfield idx, 3))
    (kk : ∀ n' sh' Rf' I' L', OJ G ci ((m + 1, k, 1, arrQ t w) :: parts) o n0 sh0 Rf0 I0 L0 F FL (m + 1) n' sh' Rf' I' L' → Ev G M d (kc, ks) (pc + 2 + 3) lv [] (n', sh', Rf', I', L') post) : Ev G M d (kc + 1, ks + w) pc lv [.int i, .ref o] (n, sh, Rf, I, L) post := by
  obtain ⟨t1, t2, t3, t4, t5, t6⟩ := ht
  obtain ⟨p1, p2, p3, p4, p5, p6, p7, p8⟩ := id hP
  have hn : q_b G + n = o + (m + 1) := by omega
  have hbb : w * componentBytes t ≤ 536870912 := Nat.le_trans (Nat.mul_le_mul_left w t6) hb
  refine ev_newa t t1 t2 t3 t4 t5 hi hN hbb hd ?_
  have hown : q_in G (q_more G n sh Rf I L (.inl (t, w))) o (.inr ci) := ⟨p2, by show o < q_b G + (n + 1); omega, by show q_c sh (q_b G + n) (.inl (t, w)) o = _; rw [q_c_ne (by omega)]; exact p4⟩
  refine ev_putFR hok hf hin hci hown (fun r i l => by rw [hft]; rfl) (by rw [hft]; rfl) (by rw [hft]; rfl) hd2 ?_
  refine kk _ _ _ _ _ ⟨by omega, p2, p3, ?_, ?_, ?_, fun p hp => ?_, fun a ha => ?_⟩
  · rw [q_c_ne (by omega)]; exact p4
  · rw [q_z_ne (by omega)]; exact p5
  · rw [q_z_ne (by omega)]; exact p6
  · rcases List.mem_cons.mp hp with rfl | hp
    · refine ⟨?_, by show m + 1 + 1 ≤ m + 1 + 1; omega, by show 1 ≤ m + 1; omega, arrQ_loc, ?_⟩
      · show q_u _ o k (some (q_b G + n)) o k = some (o + (m + 1))
        rw [q_u_at, hn]
      · show arrQ t w _ (o + (m + 1))
        rw [← hn]
        exact ⟨q_c_at, q_z_at, q_z_at⟩
    · obtain ⟨r1, r2, r3, r4, r5⟩ := p7 p hp
      refine ⟨by rw [q_u_k (hdis p hp), q_z_ne (by omega)]; exact r1, by omega, r3, r4, ?_⟩
      refine r4 _ _ _ _ _ _ _ _ _ _ _ (by omega) (fun c c1 c2 => ?_) r5
      exact ⟨q_c_ne (by omega), by rw [q_u_ne (by omega), q_z_ne (by omega)], q_z_ne (by omega), q_z_ne (by omega)⟩
  · obtain ⟨a1, a2, a3, a4⟩ := p8 a ha
    refine ⟨?_, ?_, ?_, ?_⟩
    · rw [q_c_ne (by omega)]; exact a1
    · rw [q_u_ne (by omega), q_z_ne (by omega)]; exact a2
    · rw [q_z_ne (by omega)]; exact a3
    · rw [q_z_ne (by omega)]; exact a4
theorem OJ.setI (hP : OJ G ci parts o n0 sh0 Rf0 I0 L0 F FL m n sh Rf I L) {x : Int32} : OJ G ci parts o n0 sh0 Rf0 I0 L0 (fun y => if y = k then x else F y) FL m n sh Rf (q_u I o k x) L := by
  obtain ⟨p1, p2, p3, p4, p5, p6, p7, p8⟩ := hP
  refine ⟨p1, p2, p3, p4, ?_, p6, fun p hp => ?_, fun a ha => ?_⟩
  · funext y
    rw [← p5]
    simp [q_u]
  · obtain ⟨r1, r2, r3, r4, r5⟩ := p7 p hp
    exact ⟨r1, r2, r3, r4, r4 _ _ _ _ _ _ _ _ _ _ _ (Nat.le_refl _) (fun c c1 c2 => ⟨rfl, rfl, q_u_ne (by omega), rfl⟩) r5⟩
  · obtain ⟨a1, a2, a3, a4⟩ := p8 a ha
    exact ⟨a1, a2, by rw [q_u_ne (by omega)]; exact a3, a4⟩
theorem OJ.setL (hP : OJ G ci parts o n0 sh0 Rf0 I0 L0 F FL m n sh Rf I L) {x : Int64} : OJ G ci parts o n0 sh0 Rf0 I0 L0 F (fun y => if y = k then x else FL y) m n sh Rf I (q_u L o k x) := by
  obtain ⟨p1, p2, p3, p4, p5, p6, p7, p8⟩ := hP
  refine ⟨p1, p2, p3, p4, p5, ?_, fun p hp => ?_, fun a ha => ?_⟩
  · funext y
    rw [← p6]
    simp [q_u]
  · obtain ⟨r1, r2, r3, r4, r5⟩ := p7 p hp
    exact ⟨r1, r2, r3, r4, r4 _ _ _ _ _ _ _ _ _ _ _ (Nat.le_refl _) (fun c c1 c2 => ⟨rfl, rfl, rfl, q_u_ne (by omega)⟩) r5⟩
  · obtain ⟨a1, a2, a3, a4⟩ := p8 a ha
    exact ⟨a1, a2, a3, by rw [q_u_ne (by omega)]; exact a4⟩
end Mk2
