/-! An object in the making whose parts are objects: the parts made so far, each with what is known of it. -/
/-- what is known of a part speaks of its own cells alone -/
def LocalP (size : Nat) (P : qS → Nat → Prop) : Prop := ∀ n sh Rf I L n' sh' Rf' I' L' a, n ≤ n' → (∀ c, a ≤ c → c < a + size → sh' c = sh c ∧ Rf' c = Rf c ∧ I' c = I c ∧ L' c = L c) → P (n, sh, Rf, I, L) a → P (n', sh', Rf', I', L') a
def OJ (G : qG) (ci : Nat) (parts : List (Nat × Nat × Nat × (qS → Nat → Prop))) (o n0 : Nat) (sh0 : Nat → qC) (Rf0 : Nat → Nat → Option Nat) (I0 : Nat → Nat → Int32) (L0 : Nat → Nat → Int64) (F : Nat → Int32) (FL : Nat → Int64) (m : Nat) (n : Nat) (sh : Nat → qC) (Rf : Nat → Nat → Option Nat) (I : Nat → Nat → Int32) (L : Nat → Nat → Int64) : Prop :=
  n = n0 + m ∧ q_b G ≤ o ∧ o + 1 = q_b G + n0 ∧ sh o = .inr ci ∧ I o = F ∧ L o = FL ∧
  (∀ p ∈ parts, Rf o p.2.1 = some (o + p.1) ∧ p.1 + p.2.2.1 ≤ m + 1 ∧ 1 ≤ p.1 ∧ LocalP p.2.2.1 p.2.2.2 ∧ p.2.2.2 (n, sh, Rf, I, L) (o + p.1)) ∧
  ∀ a, a < o → sh a = sh0 a ∧ Rf a = Rf0 a ∧ I a = I0 a ∧ L a = L0 a
section Mk
variable {G : qG} {M M' : qM} {d d' pc idx1 idx2 ci ci' k size : Nat} {host : String} {q : vw_C} {lv : List (Nat × Value)} {post : Option Value → qS → Prop} {parts : List (Nat × Nat × Nat × (qS → Nat → Prop))} {P : qS → Nat → Prop} {o n0 : Nat} {sh0 : Nat → qC} {Rf0 : Nat → Nat → Option Nat} {I0 : Nat → Nat → Int32} {L0 : Nat → Nat → Int64} {F : Nat → Int32} {FL : Nat → Int64} {m n : Nat} {sh : Nat → qC} {Rf : Nat → Nat → Option Nat} {I : Nat → Nat → Int32} {L : Nat → Nat → Int64} {B' B'' : Nat × Nat}
theorem OJ.own (h : OJ G ci parts o n0 sh0 Rf0 I0 L0 F FL m n sh Rf I L) : q_in G (n, sh, Rf, I, L) o (.inr ci) := by
  obtain ⟨h1, h2, h3, h4, -⟩ := h
  exact ⟨h2, by show o < q_b G + n; omega, h4⟩
/-- the next part: new, dup, invokespecial, putfield -/
theorem ev_mkP (hok : q_ok G) (hP : OJ G ci parts o n0 sh0 Rf0 I0 L0 F FL m n sh Rf I L) (hdis : ∀ p ∈ parts, p.2.1 ≠ k) (hsz : 1 ≤ size) (hloc : LocalP size P)
    (hc : (q_cl G)[ci']? = some q) (hcl : Cond.classLink M.1.cls idx1 q.1 ∈ q_Ts G) (hin : Cond.instantiable q.1 q.2.2 ∈ q_Ts G) (hini : Cond.initialized q.1 ∈ q_Ts G) (hdf : ∀ k, k < q.2.2 → defaultValue (q_ft G ci' k) = q_fv (q_ft G ci' k) none 0 0)
    (hd1 : decode M.2.1 pc = .ok (.new idx1, 3)) (hd2 : decode M.2.1 (pc + 3) = .ok (.dup, 1)) (hd3 : decode M.2.1 (pc + 3 + 1) = .ok (.invokespecial idx2, 3))
    (hM : q_mM G M' 0) (hV : q_nI G M.1.cls idx2 M' host) (hlen : ∀ a : Nat, (lg_sl [Value.ref a]).length ≤ M'.2.2.1) (hret : M'.2.2.2 = none) (hdd : d' + 1 ≤ d)
    (hctor : ∀ (n : Nat) (sh : Nat → qC) (Rf : Nat → Nat → Option Nat) (I : Nat → Nat → Int32) (L : Nat → Nat → Int64) (a : Nat) (post' : Option Value → qS → Prop), q_b G ≤ a → a + 1 = q_b G + n → sh a = .inr ci' → (I a = fun _ => 0) → (L a = fun _ => 0) → (∀ n' sh' Rf' I' L', n' + 1 = n + size → P (n', sh', Rf', I', L') a → Bel a sh sh' Rf Rf' I I' L L' → post' none (n', sh', Rf', I', L')) → Ev G M' d' B' 0 (lv_args 0 [.ref a]) [] (n, sh, Rf, I, L) post')
    (hput : ∀ (n : Nat) (sh : Nat → qC) (Rf : Nat → Nat → Option Nat) (I : Nat → Nat → Int32) (L : Nat → Nat → Int64) (x : Nat), q_in G (n, sh, Rf, I, L) o (.inr ci) → Ev G M d B'' (pc + 3 + 1 + 3 + 3) lv [] (n, sh, q_u Rf o k (some x), I, L) post → Ev G M d B'' (pc + 3 + 1 + 3) lv [.ref x, .ref o] (n, sh, Rf, I, L) post)
    (kk : ∀ n' sh' Rf' I' L', OJ G ci ((m + 1, k, size, P) :: parts) o n0 sh0 Rf0 I0 L0 F FL (m + size) n' sh' Rf' I' L' → Ev G M d B'' (pc + 3 + 1 + 3 + 3) lv [] (n', sh', Rf', I', L') post) : Ev G M d (B'.1 + B''.1 + 1, B'.2 + B''.2 + q.2.2) pc lv [.ref o] (n, sh, Rf, I, L) post := by
  obtain ⟨p1, p2, p3, p4, p5, p6, p7, p8⟩ := id hP
  have hn : q_b G + n = o + (m + 1) := by omega
  refine ev_new (kc := B'.1 + B''.1) (ks := B'.2 + B''.2) hok hc hcl hin hini hdf hd1 ?_
  refine ev_dup hd2 rfl ?_
  refine ev_ncallI (a := q_b G + n) (B' := B') (B'' := B'') (post' := fun v τ => v = none ∧ ∃ n' sh' Rf' I' L', τ = (n', sh', Rf', I', L') ∧ n' + 1 = n + 1 + size ∧ P (n', sh', Rf', I', L') (q_b G + n) ∧ Bel (q_b G + n) (q_c sh (q_b G + n) (.inr ci')) sh' (q_z Rf (q_b G + n) none) Rf' (q_z I (q_b G + n) 0) I' (q_z L (q_b G + n) 0) L') [] [.ref (q_b G + n), .ref o] hok hM hV rfl (hlen _) rfl hret (by show 2 ≤ 8; decide) hd3 rfl hdd ?_ ?_
  · exact hctor _ _ _ _ _ (q_b G + n) _ (by omega) (by omega) q_c_at q_z_at q_z_at (fun n' sh' Rf' I' L' e w bl => ⟨rfl, n', sh', Rf', I', L', rfl, e, w, bl⟩)
  · rintro v τ ⟨rfl, n', sh', Rf', I', L', rfl, e, w, bl⟩
    have bl2 : ∀ c, c < q_b G + n → sh' c = sh c ∧ Rf' c = Rf c ∧ I' c = I c ∧ L' c = L c := fun c hc2 => by
      obtain ⟨b1, b2, b3, b4⟩ := bl c hc2
      rw [q_c_ne (by omega)] at b1; rw [q_z_ne (by omega)] at b2 b3 b4
      exact ⟨b1, b2, b3, b4⟩
    obtain ⟨o1, o2, o3, o4⟩ := bl2 o (by omega)
    refine hput n' sh' Rf' I' L' (q_b G + n) ⟨p2, by show o < q_b G + n'; omega, o1.trans p4⟩ (kk _ _ _ _ _ ⟨by omega, p2, p3, o1.trans p4, o3.trans p5, o4.trans p6, fun p hp => ?_, fun a ha => ?_⟩)
    · rcases List.mem_cons.mp hp with rfl | hp
      · refine ⟨by show q_u Rf' o k (some (q_b G + n)) o k = some (o + (m + 1)); rw [q_u_at, hn], by show m + 1 + size ≤ m + size + 1; omega, by show 1 ≤ m + 1; omega, hloc, ?_⟩
        show P _ (o + (m + 1))
        rw [← hn]
        exact hloc _ _ _ _ _ _ _ _ _ _ _ (Nat.le_refl _) (fun c c1 c2 => ⟨rfl, q_u_ne (by omega), rfl, rfl⟩) w
      · obtain ⟨r1, r2, r3, r4, r5⟩ := p7 p hp
        refine ⟨by rw [q_u_k (hdis p hp), o2]; exact r1, by omega, r3, r4, ?_⟩
        refine r4 _ _ _ _ _ _ _ _ _ _ _ (by omega) (fun c c1 c2 => ?_) r5
        obtain ⟨s1, s2, s3, s4⟩ := bl2 c (by omega)
        exact ⟨s1, by rw [q_u_ne (by omega)]; exact s2, s3, s4⟩
    · obtain ⟨s1, s2, s3, s4⟩ := bl2 a (by omega)
      obtain ⟨t1, t2, t3, t4⟩ := p8 a ha
      exact ⟨s1.trans t1, by rw [q_u_ne (by omega)]; exact s2.trans t2, s3.trans t3, s4.trans t4⟩
/-- the same by a plain link: new, dup, invokespecial, putfield -/
theorem ev_mkQ (hok : q_ok G) (hP : OJ G ci parts o n0 sh0 Rf0 I0 L0 F FL m n sh Rf I L) (hdis : ∀ p ∈ parts, p.2.1 ≠ k) (hsz : 1 ≤ size) (hloc : LocalP size P)
    (hc : (q_cl G)[ci']? = some q) (hcl : Cond.classLink M.1.cls idx1 q.1 ∈ q_Ts G) (hin : Cond.instantiable q.1 q.2.2 ∈ q_Ts G) (hini : Cond.initialized q.1 ∈ q_Ts G) (hdf : ∀ k, k < q.2.2 → defaultValue (q_ft G ci' k) = q_fv (q_ft G ci' k) none 0 0)
    (hd1 : decode M.2.1 pc = .ok (.new idx1, 3)) (hd2 : decode M.2.1 (pc + 3) = .ok (.dup, 1)) (hd3 : decode M.2.1 (pc + 3 + 1) = .ok (.invokespecial idx2, 3))
    (hM : q_mM G M' 0) (hV : q_mI G M.1.cls idx2 M') (hlen : ∀ a : Nat, (lg_sl [Value.ref a]).length ≤ M'.2.2.1) (hret : M'.2.2.2 = none) (hdd : d' + 1 ≤ d)
    (hctor : ∀ (n : Nat) (sh : Nat → qC) (Rf : Nat → Nat → Option Nat) (I : Nat → Nat → Int32) (L : Nat → Nat → Int64) (a : Nat) (post' : Option Value → qS → Prop), q_b G ≤ a → a + 1 = q_b G + n → sh a = .inr ci' → (I a = fun _ => 0) → (L a = fun _ => 0) → (∀ n' sh' Rf' I' L', n' + 1 = n + size → P (n', sh', Rf', I', L') a → Bel a sh sh' Rf Rf' I I' L L' → post' none (n', sh', Rf', I', L')) → Ev G M' d' B' 0 (lv_args 0 [.ref a]) [] (n, sh, Rf, I, L) post')
    (hput : ∀ (n : Nat) (sh : Nat → qC) (Rf : Nat → Nat → Option Nat) (I : Nat → Nat → Int32) (L : Nat → Nat → Int64) (x : Nat), q_in G (n, sh, Rf, I, L) o (.inr ci) → Ev G M d B'' (pc + 3 + 1 + 3 + 3) lv [] (n, sh, q_u Rf o k (some x), I, L) post → Ev G M d B'' (pc + 3 + 1 + 3) lv [.ref x, .ref o] (n, sh, Rf, I, L) post)
    (kk : ∀ n' sh' Rf' I' L', OJ G ci ((m + 1, k, size, P) :: parts) o n0 sh0 Rf0 I0 L0 F FL (m + size) n' sh' Rf' I' L' → Ev G M d B'' (pc + 3 + 1 + 3 + 3) lv [] (n', sh', Rf', I', L') post) : Ev G M d (B'.1 + B''.1 + 1, B'.2 + B''.2 + q.2.2) pc lv [.ref o] (n, sh, Rf, I, L) post := by
  obtain ⟨p1, p2, p3, p4, p5, p6, p7, p8⟩ := id hP
  have hn : q_b G + n = o + (m + 1) := by omega
  refine ev_new (kc := B'.1 + B''.1) (ks := B'.2 + B''.2) hok hc hcl hin hini hdf hd1 ?_
  refine ev_dup hd2 rfl ?_
  refine ev_callI (a := q_b G + n) (B' := B') (B'' := B'') (post' := fun v τ => v = none ∧ ∃ n' sh' Rf' I' L', τ = (n', sh', Rf', I', L') ∧ n' + 1 = n + 1 + size ∧ P (n', sh', Rf', I', L') (q_b G + n) ∧ Bel (q_b G + n) (q_c sh (q_b G + n) (.inr ci')) sh' (q_z Rf (q_b G + n) none) Rf' (q_z I (q_b G + n) 0) I' (q_z L (q_b G + n) 0) L') [] [.ref (q_b G + n), .ref o] hok hM hV rfl (hlen _) rfl hret (by show 2 ≤ 8; decide) hd3 rfl hdd ?_ ?_
  · exact hctor _ _ _ _ _ (q_b G + n) _ (by omega) (by omega) q_c_at q_z_at q_z_at (fun n' sh' Rf' I' L' e w bl => ⟨rfl, n', sh', Rf', I', L', rfl, e, w, bl⟩)
  · rintro v τ ⟨rfl, n', sh', Rf', I', L', rfl, e, w, bl⟩
    have bl2 : ∀ c, c < q_b G + n → sh' c = sh c ∧ Rf' c = Rf c ∧ I' c = I c ∧ L' c = L c := fun c hc2 => by
      obtain ⟨b1, b2, b3, b4⟩ := bl c hc2
      rw [q_c_ne (by omega)] at b1; rw [q_z_ne (by omega)] at b2 b3 b4
      exact ⟨b1, b2, b3, b4⟩
    obtain ⟨o1, o2, o3, o4⟩ := bl2 o (by omega)
    refine hput n' sh' Rf' I' L' (q_b G + n) ⟨p2, by show o < q_b G + n'; omega, o1.trans p4⟩ (kk _ _ _ _ _ ⟨by omega, p2, p3, o1.trans p4, o3.trans p5, o4.trans p6, fun p hp => ?_, fun a ha => ?_⟩)
    · rcases List.mem_cons.mp hp with rfl | hp
      · refine ⟨by show q_u Rf' o k (some (q_b G + n)) o k = some (o + (m + 1)); rw [q_u_at, hn], by show m + 1 + size ≤ m + size + 1; omega, by show 1 ≤ m + 1; omega, hloc, ?_⟩
        show P _ (o + (m + 1))
        rw [← hn]
        exact hloc _ _ _ _ _ _ _ _ _ _ _ (Nat.le_refl _) (fun c c1 c2 => ⟨rfl, q_u_ne (by omega), rfl, rfl⟩) w
      · obtain ⟨r1, r2, r3, r4, r5⟩ := p7 p hp
        refine ⟨by rw [q_u_k (hdis p hp), o2]; exact r1, by omega, r3, r4, ?_⟩
        refine r4 _ _ _ _ _ _ _ _ _ _ _ (by omega) (fun c c1 c2 => ?_) r5
        obtain ⟨s1, s2, s3, s4⟩ := bl2 c (by omega)
        exact ⟨s1, by rw [q_u_ne (by omega)]; exact s2, s3, s4⟩
    · obtain ⟨s1, s2, s3, s4⟩ := bl2 a (by omega)
      obtain ⟨t1, t2, t3, t4⟩ := p8 a ha
      exact ⟨s1.trans t1, by rw [q_u_ne (by omega)]; exact s2.trans t2, s3.trans t3, s4.trans t4⟩
end Mk
