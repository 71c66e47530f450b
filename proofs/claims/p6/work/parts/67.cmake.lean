/-! A row of references of an object in the making; what is known of a new Tape. -/
def shQ (C : String) (w : Nat) : qS → Nat → Prop := fun σ a => σ.2.1 a = .inl (.object C, w)
theorem shQ_loc {C : String} {w : Nat} : LocalP 1 (shQ C w) := fun n sh Rf I L n' sh' Rf' I' L' a _ h p => ((h a (Nat.le_refl _) (by omega)).1).trans p
def qTape (G : qG) : qS → Nat → Prop := fun σ a => WfTape G σ.1 σ.2.1 σ.2.2.1 a ∧ σ.2.2.2.1 a = iFTape
theorem qTape_loc {G : qG} : LocalP 7 (qTape G) := fun n sh Rf I L n' sh' Rf' I' L' a hn h p => ⟨wbTape hn (fun x x1 x2 => ⟨(h x x1 x2).1, (h x x1 x2).2.1⟩) p.1, ((h a (Nat.le_refl _) (by omega)).2.2.1).trans p.2⟩
section Mk3
variable {G : qG} {M : qM} {d pc ci k : Nat} {lv : List (Nat × Value)} {post : Option Value → qS → Prop} {parts : List (Nat × Nat × Nat × (qS → Nat → Prop))} {o n0 : Nat} {sh0 : Nat → qC} {Rf0 : Nat → Nat → Option Nat} {I0 : Nat → Nat → Int32} {L0 : Nat → Nat → Int64} {F : Nat → Int32} {FL : Nat → Int64} {m n kc ks : Nat} {sh : Nat → qC} {Rf : Nat → Nat → Option Nat} {I : Nat → Nat → Int32} {L : Nat → Nat → Int64}
theorem ev_anO {C : String} {i : Int32} {w idx : Nat} (hP : OJ G ci parts o n0 sh0 Rf0 I0 L0 F FL m n sh Rf I L) (hdis : ∀ p ∈ parts, p.2.1 ≠ k) (htl : FieldType.object C ∈ q_tl G) (hover : ∀ s : State, q_E G s → va_AO C s) (hcl : Cond.classLink M.1.cls idx C ∈ q_Ts G) (hi : ¬ i < 0) (hN : i.toNatClampNeg = w) (hb : w * 4 ≤ 536870912) (hd : decode M.2.1 pc = .ok (.anewarray idx, 3))
    (hput : ∀ (n : Nat) (sh : Nat → qC) (Rf : Nat → Nat → Option Nat) (I : Nat → Nat → Int32) (L : Nat → Nat → Int64) (x : Nat), q_in G (n, sh, Rf, I, L) o (.inr ci) → Ev G M d (kc, ks) (pc + 3 + 3) lv [] (n, sh, q_u Rf o k (some x), I, L) post → Ev G M d (kc, ks) (pc + 3) lv [.ref x, .ref o] (n, sh, Rf, I, L) post)
    (kk : ∀ n' sh' Rf' I' L', OJ G ci ((m + 1, k, 1, shQ C w) :: parts) o n0 sh0 Rf0 I0 L0 F FL (m + 1) n' sh' Rf' I' L' → Ev G M d (kc, ks) (pc + 3 + 3) lv [] (n', sh', Rf', I', L') post) : Ev G M d (kc + 1, ks + w) pc lv [.int i, .ref o] (n, sh, Rf, I, L) post := by
  obtain ⟨p1, p2, p3, p4, p5, p6, p7, p8⟩ := id hP
  have hn : q_b G + n = o + (m + 1) := by omega
  refine ev_anew htl hover hcl hi hN hb hd ?_
  refine hput _ _ _ _ _ (q_b G + n) ⟨p2, by show o < q_b G + (n + 1); omega, by show q_c sh (q_b G + n) _ o = _; rw [q_c_ne (by omega)]; exact p4⟩ ?_
  refine kk _ _ _ _ _ ⟨by omega, p2, p3, ?_, ?_, ?_, fun p hp => ?_, fun a ha => ?_⟩
  · rw [q_c_ne (by omega)]; exact p4
  · rw [q_z_ne (by omega)]; exact p5
  · rw [q_z_ne (by omega)]; exact p6
  · rcases List.mem_cons.mp hp with rfl | hp
    · refine ⟨?_, by show m + 1 + 1 ≤ m + 1 + 1; omega, by show 1 ≤ m + 1; omega, shQ_loc, ?_⟩
      · show q_u _ o k (some (q_b G + n)) o k = some (o + (m + 1))
        rw [q_u_at, hn]
      · show shQ C w _ (o + (m + 1))
        rw [← hn]
        exact q_c_at
    · obtain ⟨r1, r2, r3, r4, r5⟩ := p7 p hp
      refine ⟨by rw [q_u_k (hdis p hp), q_z_ne (by omega)]; exact r1, by omega, r3, r4, ?_⟩
      refine r4 _ _ _ _ _ _ _ _ _ _ _ (by omega) (fun c c1 c2 => ?_) r5
      exact ⟨q_c_ne (by omega), by rw [q_u_ne (by omega), q_z_ne (by omega)], q_z_ne (by omega), q_z_ne (by omega)⟩
  · obtain ⟨a1, a2, a3, a4⟩ := p8 a ha
    refine ⟨?_, ?_, ?_, ?_⟩
    · rw [q_c_ne (by omega)]; exact a1
    · rw [q_u_ne (by omega), q_z_ne (by omega)]; exact a2
    · rw [q_z_ne (by omega)]; exact a3
    · rw [q_z_ne (by omega)]; exact a4
end Mk3
