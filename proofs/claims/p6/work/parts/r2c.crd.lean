/-! A REFORM read by the way down: chains, NOT, and all tied. By hand. -/
section CR2
variable {B : Nat → Int} {N T o x j u d : Nat} {J J2 J3 J' : gJ} {L : gL} {z s w : Int} {c : rdC} {g : Nat → Int} {b e : Nat}
/-- a chain -/
theorem c_loop {Lp : Nat → gJ → gL → Int → Int → Int × gJ × gL} {G : gJ → gL → Int → Int × gJ × gL} {X : Nat → Nat → Nat → rdC → rdR} {r : Nat} (hs : o + 5 ≤ x ∨ x + 7 ≤ o) (hN : N ≤ 700) (hr : r ≠ 0) (hg : ∀ (k : Nat) (J : gJ) (j : Nat) (i : Int), Cg false B N T x J L j → ∃ v, (rkT (tkT B N T) j = r → v = clC B N (r, j)) ∧ Lp (k + 1) J L (d : Int) i = if 700 ≤ i then (0, J, L) else if rkT (tkT B N T) j = r then gB3 (gTape_step_0 x J L) (fun _ J3 L4 => gB3 (G J3 L4 (d : Int)) (fun _ J6 L7 => gB3 (gReform_emit_0 o J6 L7 v) (fun _ J9 L10 => Lp k J9 L10 (d : Int) (i + 1)))) else (0, J, L)) (hb : ∀ (k : Nat) (J : gJ) (i : Int), J x 7 ≠ 0 → Lp (k + 1) J L (d : Int) i = (0, J, L)) (hG : cX B N T o x g b L s G X d) : ∀ (f k : Nat) (i : Nat) (J : gJ) (j u e : Nat) (c : rdC), f < k → T < f + j → i ≤ j → Cg false B N T x J L j → J o 7 = (u : Int) → CD B N g b e J o c j → J o 8 = s → cO B N T o x g b e J L (Lp k J L (d : Int) (i : Int)) (rdL (tkT B N T) r (X d) f j u c) := by
  intro f
  induction f with
  | zero => intro k i J j u e c _ hT _ h; have := h.2.1; omega
  | succ f ih =>
    intro k i J j u e c hk hT hi h hu h4 h8
    obtain ⟨k, rfl⟩ : ∃ k', k = k' + 1 := ⟨k - 1, by omega⟩
    obtain ⟨v, hv, eL⟩ := hg k J j (i : Int) h
    rw [eL, rdL]
    by_cases a : rkT (tkT B N T) j = r
    · have jT := h.1.hE (by rw [a]; exact hr)
      have TN := h.1.TN
      obtain ⟨_, k0, k5⟩ := rk_kind (B := B) (N := N) (T := T) (j := j) (by rw [a]; exact hr)
      rw [if_neg (by omega), if_pos a, if_pos a]
      obtain ⟨s1, s2⟩ := h.step k0 k5
      have f1 : RfF o x J (q_u J x 10 ((j + 1 : Nat) : Int)) := ⟨fun r y p q _ => q_u_off (by omega), by rw [q_u_at, h.2.2.1]; omega⟩
      have v7 : q_u J x 10 ((j + 1 : Nat) : Int) o 7 = (u : Int) := by rw [q_u_ne (by omega)]; exact hu
      have v4 : CD B N g b (e + 1) (q_u J x 10 ((j + 1 : Nat) : Int)) o c (j + 1) := h4.mv (by rw [q_u_ne (by omega)]) (by rw [q_u_ne (by omega)]) (by omega)
      have v8 : q_u J x 10 ((j + 1 : Nat) : Int) o 8 = s := by rw [q_u_ne (by omega)]; exact h8
      have v10 : q_u J x 10 ((j + 1 : Nat) : Int) x 10 = ((j + 1 : Nat) : Int) := q_u_at
      rw [gB3t s1]
      generalize q_u J x 10 ((j + 1 : Nat) : Int) = J1 at s2 f1 v7 v4 v8 v10 ⊢
      refine (cO.bind (e2 := e + 1) hs (hG J1 (j + 1) u (e + 1) c s2 v7 v4 v8) (fun J2 j2 u2 c2 f2 g1 g2 g3 => ?_) (fun J2 g1 g2 => ?_)).pre f1
      · have m0 := g1.2.1
        obtain ⟨J3, e1, e2, e3⟩ := c_emit (L := L) g3 (by have := g3.2.1; omega) (hv a) (e2 := e) (j2 := j2) (by omega)
        have m1 := f2.2
        have m2 := g1.2.2.1
        have f8 : J3 o 8 = s := by rw [e2.1 _ _ (by omega) (by omega), f2.1 _ _ (by omega) (by omega) (by omega)]; exact v8
        rw [gB3t e1]
        exact (ih k (i + 1) J3 j2 u2 e ((r, j) :: c2) (by omega) (by omega) (by omega) (e2.cg hs g1) (by rw [e2.1 _ _ (by omega) (by omega)]; exact g2) e3 f8).pre (e2.rff hs)
      · obtain ⟨J3, e1, e2⟩ := c_emit0 (o := o) (J := J2) (L := L) v
        obtain ⟨k, rfl⟩ : ∃ k', k = k' + 1 := ⟨k - 1, by omega⟩
        rw [gB3t e1, hb k J3 _ (by rw [e2.1 _ _ (by omega) (by omega)]; exact g2)]
        exact ⟨J3, rfl, e2⟩
    · rw [if_neg a, if_neg a]
      have q : cO B N T o x g b e J L (0, J, L) (.inl (j, u, c)) := cO.ok h RfF.rf hu h4
      split
      · exact q
      · exact q
/-- a part and its chain -/
theorem c_chain {Lp : Nat → gJ → gL → Int → Int → Int × gJ × gL} {G H : gJ → gL → Int → Int × gJ × gL} {X : Nat → Nat → Nat → rdC → rdR} {r : Nat} (hs : o + 5 ≤ x ∨ x + 7 ≤ o) (hN : N ≤ 700) (hr : r ≠ 0) (hH : ∀ J, H J L (d : Int) = gB3 (G J L (d : Int)) (fun _ J2 L3 => Lp 20000 J2 L3 (d : Int) 0)) (hg : ∀ (k : Nat) (J : gJ) (j : Nat) (i : Int), Cg false B N T x J L j → ∃ v, (rkT (tkT B N T) j = r → v = clC B N (r, j)) ∧ Lp (k + 1) J L (d : Int) i = if 700 ≤ i then (0, J, L) else if rkT (tkT B N T) j = r then gB3 (gTape_step_0 x J L) (fun _ J3 L4 => gB3 (G J3 L4 (d : Int)) (fun _ J6 L7 => gB3 (gReform_emit_0 o J6 L7 v) (fun _ J9 L10 => Lp k J9 L10 (d : Int) (i + 1)))) else (0, J, L)) (hb : ∀ (k : Nat) (J : gJ) (i : Int), J x 7 ≠ 0 → Lp (k + 1) J L (d : Int) i = (0, J, L)) (hG : cX B N T o x g b L s G X d) : cX B N T o x g b L s H (fun d j u c => rdB (X d j u c) (rdL (tkT B N T) r (X d) 1700)) d := by
  intro J j u e c h hu h4 h8
  have hT := h.1.2.2.1
  rw [hH]
  refine cO.bind hs (hG J j u e c h hu h4 h8) (fun J2 j2 u2 c2 f2 g1 g2 g3 => ?_) (fun J2 g1 g2 => ?_)
  · exact c_loop hs hN hr hg hb hG 1700 20000 0 J2 j2 u2 e c2 (by decide) (by omega) (Nat.zero_le _) g1 g2 g3 (by rw [f2.1 _ _ (by omega) (by omega) (by omega)]; exact h8)
  · exact ⟨J2, hb 19999 J2 0 g2, EmF.rf⟩
theorem rk_w (w : Int) (h : w = 20 ∨ w = 21) {t : rdT} : rdW t j w ↔ rkT t j = (if w = 20 then 2 else 1) := by
  unfold rkT
  rcases h with rfl | rfl
  · rw [if_pos rfl]
    by_cases a : rdW t j 20
    · rw [if_pos a]; exact ⟨fun _ => rfl, fun _ => a⟩
    · rw [if_neg a]
      refine ⟨fun q => absurd q a, fun q => ?_⟩
      exfalso
      revert q
      repeat' split
      all_goals decide
  · rw [if_neg (show ¬ (21 : Int) = 20 by decide)]
    by_cases a : rdW t j 20
    · rw [if_pos a]
      refine ⟨fun q => ?_, fun q => absurd q (by decide)⟩
      have e1 := a.2
      have e2 := q.2
      omega
    · rw [if_neg a]
      by_cases b : rdW t j 21
      · rw [if_pos b]; exact ⟨fun _ => rfl, fun _ => b⟩
      · rw [if_neg b]
        refine ⟨fun q => absurd q b, fun q => ?_⟩
        exfalso
        revert q
        repeat' split
        all_goals decide
theorem rk_g {t : rdT} : (rkT t j = 4 ↔ (rdG t j 60 ∨ rdG t j 62 ∨ rdG t j 61)) ∧ (rkT t j = 5 ↔ (rdG t j 43 ∨ rdG t j 45)) ∧ (rkT t j = 6 ↔ (rdG t j 42 ∨ rdG t j 47)) := by
  by_cases k : (t j).1 = 4
  · have n1 : ∀ w, ¬ rdW t j w := fun w q => by have := q.1; omega
    unfold rkT
    rw [if_neg (n1 20), if_neg (n1 21)]
    have ex : ∀ {a b : Int}, rdG t j a → rdG t j b → a ≠ b → False := fun p q n => n (p.2.symm.trans q.2)
    by_cases a : rdG t j 60 ∨ rdG t j 62 ∨ rdG t j 61
    · rw [if_pos a]
      exact ⟨⟨fun _ => a, fun _ => rfl⟩, ⟨fun q => absurd q (by decide), fun q => by exfalso; rcases a with a | a | a <;> rcases q with q | q <;> exact ex a q (by decide)⟩, ⟨fun q => absurd q (by decide), fun q => by exfalso; rcases a with a | a | a <;> rcases q with q | q <;> exact ex a q (by decide)⟩⟩
    rw [if_neg a]
    by_cases b : rdG t j 43 ∨ rdG t j 45
    · rw [if_pos b]
      exact ⟨⟨fun q => absurd q (by decide), fun q => absurd q a⟩, ⟨fun _ => b, fun _ => rfl⟩, ⟨fun q => absurd q (by decide), fun q => by exfalso; rcases b with b | b <;> rcases q with q | q <;> exact ex b q (by decide)⟩⟩
    rw [if_neg b]
    by_cases c : rdG t j 42 ∨ rdG t j 47
    · rw [if_pos c]
      exact ⟨⟨fun q => absurd q (by decide), fun q => absurd q a⟩, ⟨fun q => absurd q (by decide), fun q => absurd q b⟩, ⟨fun _ => c, fun _ => rfl⟩⟩
    · rw [if_neg c]
      exact ⟨⟨fun q => absurd q (by decide), fun q => absurd q a⟩, ⟨fun q => absurd q (by decide), fun q => absurd q b⟩, ⟨fun q => absurd q (by decide), fun q => absurd q c⟩⟩
  · have g : ∀ a, ¬ rdG t j a := fun a q => k q.1
    have e : rkT t j ≠ 4 ∧ rkT t j ≠ 5 ∧ rkT t j ≠ 6 := by
      unfold rkT
      rw [if_neg (show ¬ (rdG t j 60 ∨ rdG t j 62 ∨ rdG t j 61) by rintro (q | q | q) <;> exact g _ q), if_neg (show ¬ (rdG t j 43 ∨ rdG t j 45) by rintro (q | q) <;> exact g _ q), if_neg (show ¬ (rdG t j 42 ∨ rdG t j 47) by rintro (q | q) <;> exact g _ q)]
      repeat' split
      all_goals decide
    exact ⟨⟨fun q => absurd q e.1, by rintro (q | q | q) <;> exact absurd q (g _)⟩, ⟨fun q => absurd q e.2.1, by rintro (q | q) <;> exact absurd q (g _)⟩, ⟨fun q => absurd q e.2.2, by rintro (q | q) <;> exact absurd q (g _)⟩⟩
theorem if_or {P Q : Prop} [Decidable P] [Decidable Q] {α : Type} {a b : α} : (if (if P then (1 : Int) else 0) = 0 then (if (if Q then (1 : Int) else 0) = 0 then b else a) else a) = if P ∨ Q then a else b := by
  by_cases p : P
  · rw [if_pos p, if_neg (by decide), if_pos (Or.inl p)]
  · rw [if_neg p, if_pos rfl]
    by_cases q : Q
    · rw [if_pos q, if_neg (by decide), if_pos (Or.inr q)]
    · rw [if_neg q, if_pos rfl, if_neg (by rintro (h | h); exact p h; exact q h)]
theorem if_one {P : Prop} [Decidable P] {α : Type} {a b : α} : (if (if P then (1 : Int) else 0) = 0 then b else a) = if P then a else b := by
  by_cases p : P
  · rw [if_pos p, if_neg (by decide), if_pos p]
  · rw [if_neg p, if_pos rfl, if_neg p]
/-- the sign's byte is the cell -/
theorem rk_val (h : Cg false B N T x J L j) {r : Nat} (q : rkT (tkT B N T) j = r ∧ 4 ≤ r) : gTape_value_0 x J L = clC B N (r, j) := by
  have hj := h.2.1
  have k4 : tkK false B N (tkS false B N j) = 4 := by
    have g := rk_g (t := tkT B N T) (j := j)
    have le := rkT_le (t := tkT B N T) (j := j)
    have c3 : rkT (tkT B N T) j = 4 ∨ rkT (tkT B N T) j = 5 ∨ rkT (tkT B N T) j = 6 := by omega
    rcases c3 with c | c | c
    · rcases g.1.mp c with m | m | m <;> exact ((rdG_t hj).mp m).1
    · rcases g.2.1.mp c with m | m <;> exact ((rdG_t hj).mp m).1
    · rcases g.2.2.mp c with m | m <;> exact ((rdG_t hj).mp m).1
  rw [h.val, h.tok.2.2.2.2.2 k4, clC_s q.2]
theorem c_term {GU : gJ → gL → Int → Int × gJ × gL} {X : Nat → Nat → Nat → rdC → rdR} (hs : o + 5 ≤ x ∨ x + 7 ≤ o) (hN : N ≤ 700) (hG : cX B N T o x g b L s GU X d) : cX B N T o x g b L s (gReform_readTerm_0 GU o x) (fun d j u c => rdB (X d j u c) (rdL (tkT B N T) 6 (X d) 1700)) d := by
  refine c_chain (Lp := fun k J L a i => gReform_readTerm_8 k GU o x J L a i) hs hN (by decide) (fun J => rfl) (fun k J j i h => ⟨gTape_value_0 x J L, fun q => rk_val h ⟨q, by decide⟩, ?_⟩) (fun k J i h => ?_) hG
  · show gReform_readTerm_8 (k + 1) GU o x J L (d : Int) i = _
    rw [eReform_readTerm_8, gLetp, gLetp, h.rG 42, h.rG 47, if_or, if_iff (rk_g (t := tkT B N T) (j := j)).2.2]
    unfold gReform_readTerm_33
    simp only [gLetp]
  · show gReform_readTerm_8 (k + 1) GU o x J L (d : Int) i = _
    rw [eReform_readTerm_8, gLetp, gLetp, cb_isSign h, cb_isSign h, if_pos (show (0 : Int) = 0 by decide), if_pos (show (0 : Int) = 0 by decide)]
    split <;> rfl
theorem c_sum {GU : gJ → gL → Int → Int × gJ × gL} {X : Nat → Nat → Nat → rdC → rdR} (hs : o + 5 ≤ x ∨ x + 7 ≤ o) (hN : N ≤ 700) (hG : cX B N T o x g b L s GU X d) : cX B N T o x g b L s (gReform_readSum_0 GU o x) (fun d j u c => rdB (X d j u c) (rdL (tkT B N T) 5 (X d) 1700)) d := by
  refine c_chain (Lp := fun k J L a i => gReform_readSum_8 k GU o x J L a i) hs hN (by decide) (fun J => rfl) (fun k J j i h => ⟨gTape_value_0 x J L, fun q => rk_val h ⟨q, by decide⟩, ?_⟩) (fun k J i h => ?_) hG
  · show gReform_readSum_8 (k + 1) GU o x J L (d : Int) i = _
    rw [eReform_readSum_8, gLetp, gLetp, h.rG 43, h.rG 45, if_or, if_iff (rk_g (t := tkT B N T) (j := j)).2.1]
    unfold gReform_readSum_33
    simp only [gLetp]
  · show gReform_readSum_8 (k + 1) GU o x J L (d : Int) i = _
    rw [eReform_readSum_8, gLetp, gLetp, cb_isSign h, cb_isSign h, if_pos (show (0 : Int) = 0 by decide), if_pos (show (0 : Int) = 0 by decide)]
    split <;> rfl
theorem c_both {GU : gJ → gL → Int → Int × gJ × gL} {X : Nat → Nat → Nat → rdC → rdR} (hs : o + 5 ≤ x ∨ x + 7 ≤ o) (hN : N ≤ 700) (hG : cX B N T o x g b L s GU X d) : cX B N T o x g b L s (gReform_readBoth_0 GU o x) (fun d j u c => rdB (X d j u c) (rdL (tkT B N T) 2 (X d) 1700)) d := by
  refine c_chain (Lp := fun k J L a i => gReform_readBoth_8 k GU o x J L a i) hs hN (by decide) (fun J => rfl) (fun k J j i h => ⟨20, fun _ => clC_2.symm, ?_⟩) (fun k J i h => ?_) hG
  · show gReform_readBoth_8 (k + 1) GU o x J L (d : Int) i = _
    rw [eReform_readBoth_8, gLetp, h.rW 20, if_one, if_iff (rk_w 20 (Or.inl rfl) (t := tkT B N T) (j := j))]
    simp only [gLetp, if_true]
  · show gReform_readBoth_8 (k + 1) GU o x J L (d : Int) i = _
    rw [eReform_readBoth_8, gLetp, cb_isWord h, if_pos (show (0 : Int) = 0 by decide)]
    split <;> rfl
theorem c_either {GU : gJ → gL → Int → Int × gJ × gL} {X : Nat → Nat → Nat → rdC → rdR} (hs : o + 5 ≤ x ∨ x + 7 ≤ o) (hN : N ≤ 700) (hG : cX B N T o x g b L s GU X d) : cX B N T o x g b L s (gReform_readEither_0 GU o x) (fun d j u c => rdB (X d j u c) (rdL (tkT B N T) 1 (X d) 1700)) d := by
  refine c_chain (Lp := fun k J L a i => gReform_readEither_8 k GU o x J L a i) hs hN (by decide) (fun J => rfl) (fun k J j i h => ⟨21, fun _ => clC_1.symm, ?_⟩) (fun k J i h => ?_) hG
  · show gReform_readEither_8 (k + 1) GU o x J L (d : Int) i = _
    rw [eReform_readEither_8, gLetp, h.rW 21, if_one, if_iff (rk_w 21 (Or.inr rfl) (t := tkT B N T) (j := j)), if_neg (show ¬ (21 : Int) = 20 by decide)]
    simp only [gLetp]
  · show gReform_readEither_8 (k + 1) GU o x J L (d : Int) i = _
    rw [eReform_readEither_8, gLetp, cb_isWord h, if_pos (show (0 : Int) = 0 by decide)]
    split <;> rfl
/-- NOT, and what is compared -/
theorem c_one {GS GO : gJ → gL → Int → Int × gJ × gL} {XE XO : Nat → Nat → Nat → rdC → rdR} (hs : o + 5 ≤ x ∨ x + 7 ≤ o) (hN : N ≤ 700) (hS : cX B N T o x g b L s GS (rdSm (tkT B N T) z XE) d) (hO : d ≤ 6 → cX B N T o x g b L s GO XO (d + 1)) : cX B N T o x g b L s (gReform_readOne_0 GS GO o x) (rdO (tkT B N T) z XE XO) d := by
  intro J j u e c h hu h4 h8
  have hj := h.2.1
  unfold gReform_readOne_0 rdO
  rw [gLetp, h.rW 22, if_one]
  by_cases n : rdW (tkT B N T) j 22
  · have kn : tkK false B N (tkS false B N j) = 1 := ((rdW_t hj).mp n).1
    rw [if_pos n, if_pos n]
    by_cases dd : d ≤ 6
    · rw [if_pos dd, if_pos (by omega)]
      have jT := h.lt (by omega) (by omega)
      have TN := h.1.TN
      obtain ⟨s1, s2⟩ := h.step (by omega) (by omega)
      have f1 : RfF o x J (q_u J x 10 ((j + 1 : Nat) : Int)) := ⟨fun r y p q _ => q_u_off (by omega), by rw [q_u_at, h.2.2.1]; omega⟩
      rw [gB3t s1, gLetp, show (d : Int) + 1 = ((d + 1 : Nat) : Int) from rfl]
      refine (cO.bind (e2 := e + 1) hs (hO dd _ (j + 1) u (e + 1) c s2 (by rw [q_u_ne (by omega)]; exact hu) (h4.mv (by rw [q_u_ne (by omega)]) (by rw [q_u_ne (by omega)]) (by omega)) (by rw [q_u_ne (by omega)]; exact h8)) (fun J2 j2 u2 c2 f2 g1 g2 g3 => ?_) (fun J2 g1 g2 => ?_)).pre f1
      · have m0 := g1.2.1
        obtain ⟨J3, e1, e2, e3⟩ := c_emit (L := L) g3 (by have := g3.2.1; omega) (clC_3 (j := j)).symm (e2 := e) (j2 := j2) (by omega)
        rw [gB3t e1]
        exact cO.ok (e2.cg hs g1) (e2.rff hs) (by rw [e2.1 _ _ (by omega) (by omega)]; exact g2) e3
      · obtain ⟨J3, e1, e2⟩ := c_emit0 (o := o) (J := J2) (L := L) 22
        rw [gB3t e1]
        exact ⟨J3, rfl, e2⟩
    · rw [if_neg dd, if_neg (by omega)]
      exact cO.err h (rdMi_t hj) (by decide)
  · rw [if_neg n, if_neg n]
    have eF : ∀ J2 : gJ, (gLet (gTape_isSign_0 x J2 L 60) (fun (r_5 : Int) => (if r_5 = 0 then gLet (gTape_isSign_0 x J2 L 62) (fun (r_6 : Int) => (if r_6 = 0 then gLet (gTape_isSign_0 x J2 L 61) (fun (r_7 : Int) => (if r_7 = 0 then ((0 : Int), J2, L) else (gReform_readOne_73 GS GO o x J2 L (d : Int)))) else (gReform_readOne_73 GS GO o x J2 L (d : Int)))) else (gReform_readOne_73 GS GO o x J2 L (d : Int))))) = if gTape_isSign_0 x J2 L 60 = 0 ∧ gTape_isSign_0 x J2 L 62 = 0 ∧ gTape_isSign_0 x J2 L 61 = 0 then ((0 : Int), J2, L) else gReform_readOne_73 GS GO o x J2 L (d : Int) := fun J2 => by
      rw [gLetp, gLetp, gLetp]
      by_cases a : gTape_isSign_0 x J2 L 60 = 0
      · rw [if_pos a]
        by_cases b : gTape_isSign_0 x J2 L 62 = 0
        · rw [if_pos b]
          by_cases c : gTape_isSign_0 x J2 L 61 = 0
          · rw [if_pos c, if_pos ⟨a, b, c⟩]
          · rw [if_neg c, if_neg (fun q => c q.2.2)]
        · rw [if_neg b, if_neg (fun q => b q.2.1)]
      · rw [if_neg a, if_neg (fun q => a q.1)]
    refine cO.bind hs (hS J j u e c h hu h4 h8) (fun J2 j2 u2 c2 f2 g1 g2 g3 => ?_) (fun J2 g1 g2 => ?_)
    · rw [eF J2, g1.rG 60, g1.rG 62, g1.rG 61]
      have g8 : J2 o 8 = s := by rw [f2.1 _ _ (by omega) (by omega) (by omega)]; exact h8
      by_cases a : rkT (tkT B N T) j2 = 4
      · obtain ⟨_, k0, k5⟩ := rk_kind (B := B) (N := N) (T := T) (j := j2) (by rw [a]; decide)
        rw [if_pos a, if_neg (fun q => by
          rcases (rk_g (t := tkT B N T) (j := j2)).1.mp a with m | m | m
          · rw [if_pos m] at q; exact absurd q.1 (by decide)
          · rw [if_pos m] at q; exact absurd q.2.1 (by decide)
          · rw [if_pos m] at q; exact absurd q.2.2 (by decide))]
        unfold gReform_readOne_73
        rw [gLetp]
        obtain ⟨s1, s2⟩ := g1.step k0 k5
        have f3 : RfF o x J2 (q_u J2 x 10 ((j2 + 1 : Nat) : Int)) := ⟨fun r y p q _ => q_u_off (by omega), by rw [q_u_at, g1.2.2.1]; omega⟩
        rw [gB3t s1]
        refine (cO.bind (e2 := e + 1) hs (hS _ (j2 + 1) u2 (e + 1) c2 s2 (by rw [q_u_ne (by omega)]; exact g2) (g3.mv (by rw [q_u_ne (by omega)]) (by rw [q_u_ne (by omega)]) (by omega)) (by rw [q_u_ne (by omega)]; exact g8)) (fun J4 j4 u4 c4 f4 i1 i2 i3 => ?_) (fun J4 i1 i2 => ?_)).pre f3
        · have m0 := i1.2.1
          have TN := i1.1.TN
          obtain ⟨J5, e1, e2, e3⟩ := c_emit (L := L) i3 (by have := i3.2.1; omega) (rk_val g1 ⟨a, by decide⟩) (e2 := e) (j2 := j4) (by omega)
          rw [gB3t e1]
          exact cO.ok (e2.cg hs i1) (e2.rff hs) (by rw [e2.1 _ _ (by omega) (by omega)]; exact i2) e3
        · obtain ⟨J5, e1, e2⟩ := c_emit0 (o := o) (J := J4) (L := L) (gTape_value_0 x J2 L)
          rw [gB3t e1]
          exact ⟨J5, rfl, e2⟩
      · have na : ¬ (rdG (tkT B N T) j2 60 ∨ rdG (tkT B N T) j2 62 ∨ rdG (tkT B N T) j2 61) := fun q => a ((rk_g (t := tkT B N T) (j := j2)).1.mpr q)
        rw [if_neg a, if_pos ⟨if_neg (fun q => na (Or.inl q)), if_neg (fun q => na (Or.inr (Or.inl q))), if_neg (fun q => na (Or.inr (Or.inr q)))⟩]
        exact cO.ok g1 RfF.rf g2 g3
    · rw [eF J2, if_pos ⟨cb_isSign g2 60, cb_isSign g2 62, cb_isSign g2 61⟩]
      exact ⟨J2, rfl, EmF.rf⟩
/-- all parts, by nesting -/
theorem c_reads (hs : o + 5 ≤ x ∨ x + 7 ≤ o) (hN : N ≤ 700) (hz : (s = 0 ↔ z = 0) ∧ (6 ≤ s ↔ 5 ≤ z)) : ∀ (k d : Nat), d + k = 8 → d < 8 → cX B N T o x g b L s (gRP o x k).1 (rdP (tkT B N T) z k).1 d ∧ cX B N T o x g b L s (gRP o x k).2 (rdP (tkT B N T) z k).2 d := by
  intro k
  induction k with
  | zero => intro d h1 h2; omega
  | succ k ih =>
    intro d h1 h2
    have up : d ≤ 6 → cX B N T o x g b L s (gRP o x k).1 (rdP (tkT B N T) z k).1 (d + 1) ∧ cX B N T o x g b L s (gRP o x k).2 (rdP (tkT B N T) z k).2 (d + 1) := fun q => ih (d + 1) (by omega) (by omega)
    have U := c_unit (z := z) hs hN hz (fun q => (up q).1)
    have Tm : cX B N T o x g b L s (gReform_readTerm_0 (gReform_readUnit_0 (gRP o x k).1 o x) o x) (rdTm (tkT B N T) z (rdP (tkT B N T) z k).1) d := c_term hs hN U
    have Sm : cX B N T o x g b L s (gReform_readSum_0 (gReform_readTerm_0 (gReform_readUnit_0 (gRP o x k).1 o x) o x) o x) (rdSm (tkT B N T) z (rdP (tkT B N T) z k).1) d := c_sum hs hN Tm
    have On := c_one hs hN Sm (fun q => (up q).2)
    have Bo : cX B N T o x g b L s (gReform_readBoth_0 (gReform_readOne_0 (gReform_readSum_0 (gReform_readTerm_0 (gReform_readUnit_0 (gRP o x k).1 o x) o x) o x) (gRP o x k).2 o x) o x) (rdBo (tkT B N T) z (rdP (tkT B N T) z k).1 (rdP (tkT B N T) z k).2) d := c_both hs hN On
    have Ei : cX B N T o x g b L s (gReform_readEither_0 (gReform_readBoth_0 (gReform_readOne_0 (gReform_readSum_0 (gReform_readTerm_0 (gReform_readUnit_0 (gRP o x k).1 o x) o x) o x) (gRP o x k).2 o x) o x) o x) (rdEi (tkT B N T) z (rdP (tkT B N T) z k).1 (rdP (tkT B N T) z k).2) d := c_either hs hN Bo
    rw [eRP1, eRP2]
    exact ⟨Ei, On⟩
end CR2
