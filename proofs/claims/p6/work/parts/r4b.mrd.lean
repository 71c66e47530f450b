/-! A REFORM read by the pile: a step of each sort, and a line's all. By hand. -/
/-- behind the pops: the top stays -/
theorem pm_pop_top {r : Nat} : ∀ {S : rdC} {d : Nat} {c : rdC}, 6 < pmTop (pmPop r S d c).1 ∨ pmTop (pmPop r S d c).1 < r ∨ (pmPop r S d c).1 = []
  | [], _, _ => Or.inr (Or.inr rfl)
  | (w, i) :: S, d, c => by
    rw [pmPop]
    by_cases a : w ≤ 6 ∧ r ≤ w
    · rw [if_pos a]
      exact pm_pop_top
    · rw [if_neg a]
      have q : 6 < w ∨ w < r := by omega
      rcases q with q | q
      · exact Or.inl q
      · exact Or.inr (Or.inl q)
theorem pmU_u {t : rdT} {z : Int} {S S1 : rdC} {d j u d1 j1 u1 : Nat} {c c1 : rdC} {wa : Bool} (hu : u ≤ 100) (e : pmU t z S d j u c = .inl (wa, S1, d1, j1, u1, c1)) : u1 ≤ 100 := by
  unfold pmU at e
  by_cases a1 : (pmTop S ≤ 3 ∨ 7 ≤ pmTop S) ∧ rdW t j 22
  · rw [if_pos a1] at e
    split at e
    · cases e
    · cases e; exact hu
  rw [if_neg a1] at e
  by_cases a2 : rdA t j ∧ rdY z (t j).2.1 = false ∧ u < 100
  · rw [if_pos a2] at e; cases e
  rw [if_neg a2] at e
  by_cases a3 : (¬ rdA t j ∧ (t j).1 ≠ 2 ∧ ¬ rdG t j 40) ∨ u = 100
  · rw [if_pos a3] at e; cases e
  rw [if_neg a3] at e
  have n : u ≠ 100 := fun q => a3 (Or.inr q)
  by_cases a4 : rdG t j 40
  · rw [if_pos a4] at e
    split at e
    · cases e
    · cases e; omega
  · rw [if_neg a4] at e; cases e; omega
theorem pmH_u {t : rdT} {S S1 : rdC} {d j u d1 j1 u1 : Nat} {c c1 : rdC} {wa : Bool} (hu : u ≤ 100) (e : pmH t S d j u c = .inl (wa, S1, d1, j1, u1, c1)) : u1 ≤ 100 := by
  unfold pmH at e
  by_cases a1 : rkT t j = 4 ∧ pmCmp S = true
  · rw [if_pos a1] at e; cases e
  rw [if_neg a1] at e
  by_cases a2 : 0 < rkT t j
  · rw [if_pos a2] at e; cases e; exact hu
  rw [if_neg a2] at e
  generalize pmPop 0 S d c = q at e
  match q, e with
  | ([], _, _), e => cases e
  | ((w, i) :: S2, d2, c2), e =>
    unfold pmE at e
    dsimp only at e
    by_cases a3 : w = 7
    · rw [if_pos a3] at e
      split at e
      · cases e; exact hu
      · cases e
    · rw [if_neg a3] at e; cases e
section MR2
variable {B : Nat → Int} {N T m j u d b : Nat} {I I2 I3 I' : gJ} {K K2 K3 : gL} {z w a v f : Int} {c S : rdC} {g gn : Nat → Int}
theorem mS.err {r : Int} (hf : f ≠ 0) (e : MrF m I I2 K K2) (h4 : I2 m 4 = f) (h5 : I2 m 5 = ((tkS false B N j : Nat) : Int)) : mS B N T m g gn b z I K (r, I2, K2) (.inr (.inl (f, j))) := ⟨r, I2, K2, rfl, e, h4, hf, h5⟩
theorem m_nx (hB : BR B) (hTe : tkK false B N (tkS false B N T) = 0 ∨ tkK false B N (tkS false B N T) = 5) (h : Mg false B N m I K (tkS false B N j)) (hj : j ≤ T) (k0 : tkK false B N (tkS false B N j) ≠ 0) (k5 : tkK false B N (tkS false B N j) ≠ 5) : ∃ I2 K2, gModel_next_0 m I K = (0, I2, K2) ∧ Mg false B N m I2 K2 (tkS false B N (j + 1)) ∧ j + 1 ≤ T ∧ NxFr m I I2 K K2 := by
  obtain ⟨I2, K2, n1, n2, n3⟩ := h.next hB (tkS_le false B N j) k0 k5
  refine ⟨I2, K2, n1, n2, ?_, n3⟩
  by_cases q : j = T
  · rw [q] at k0 k5
    rcases hTe with t | t
    · exact absurd t k0
    · exact absurd t k5
  · omega
theorem Mg.ltT (hTe : tkK false B N (tkS false B N T) = 0 ∨ tkK false B N (tkS false B N T) = 5) (_ : Mg false B N m I K (tkS false B N j)) (hj : j ≤ T) (k0 : tkK false B N (tkS false B N j) ≠ 0) (k5 : tkK false B N (tkS false B N j) ≠ 5) : j < T := by
  by_cases q : j = T
  · rw [q] at k0 k5
    rcases hTe with t | t
    · exact absurd t k0
    · exact absurd t k5
  · omega
/-- one more on the pile, and on -/
theorem m_push (hB : BR B) (hTe : tkK false B N (tkS false B N T) = 0 ∨ tkK false B N (tkS false B N T) = 5) (h1 : Mg false B N m I K (tkS false B N j)) (h2 : j ≤ T) (h3 : I m 48 = (S.length : Int)) (h4 : pmW (I (m + 32)) S) (h7 : I m 49 = z) (h8 : b + c.length + S.length ≤ j + 1) (h9 : pmB S) (h11 : pmZ (I (m + 33)) (mlA B N) S) (h12 : MD B N m g gn b I c) (k0 : tkK false B N (tkS false B N j) ≠ 0) (k5 : tkK false B N (tkS false B N j) ≠ 5) {w : Nat} (hw : 1 ≤ w ∧ w < 8) {W : Int} (hW : W = (w : Int)) (sg : Int) {i : Nat} (hsg : w ≤ 6 → sg = mlA B N (w, i)) (hN : (if w = 3 ∨ w = 7 then 1 else 0) + pmN S = d) : ∃ I2, gModel_pile_0 m I K W sg = (0, I2, K) ∧ I2 m 47 = I m 47 ∧ (∀ r y, ¬ (r = m ∧ y = 48) → r ≠ m + 32 → r ≠ m + 33 → I2 r y = I r y) ∧ ∀ I3 : gJ, (∀ r y, ¬ (r = m ∧ y = 47) → I3 r y = I2 r y) → I3 m 47 = (d : Int) → I3 m 46 = (u : Int) → ∃ I4 K4, gModel_next_0 m I3 K = (0, I4, K4) ∧ PM B N T m g gn b z ((w, i) :: S) d (j + 1) u c I4 K4 ∧ MrF m I I4 K K4 := by
  obtain ⟨I2, p1, p2, p3, p4, p6, p7, p5⟩ := m_pile (K := K) h3 W sg
  refine ⟨I2, p1, p5 m 47 (by omega) (by omega) (by omega), p5, fun I3 e g47 g46 => ?_⟩
  have m3 : Mg false B N m I3 K (tkS false B N j) := h1.mv (fun y hy => by rw [e m y (by omega), p5 m y (by omega) (by omega) (by omega)]) (by funext y; rw [e (m + 2) y (by omega), p5 (m + 2) y (by omega) (by omega) (by omega)]) rfl
  obtain ⟨I4, K4, n1, n2, n3, n4⟩ := m_nx hB hTe m3 h2 k0 k5
  have r32 : I4 (m + 32) = I2 (m + 32) := by funext y; rw [n4.1 (m + 32) y (by omega), e (m + 32) y (by omega)]
  have r33 : I4 (m + 33) = I2 (m + 33) := by funext y; rw [n4.1 (m + 33) y (by omega), e (m + 33) y (by omega)]
  refine ⟨I4, K4, n1, ⟨n2, n3, ?_, ⟨?_, ?_⟩, ?_, ?_, ?_, ?_, Or.inr ⟨hw, h9⟩, hN, ⟨fun q => ?_, ?_⟩, h12.mv ?_ ?_ ?_ ?_⟩, ⟨fun r y q q2 _ => ?_, fun r y q => n4.2 r y q⟩⟩
  · rw [n4.1 m 48 (by omega), e m 48 (by omega), p2]; rfl
  · rw [r32, p3, hW]
  · rw [r32]; exact h4.mv (fun y hy => p4 y (by omega))
  · rw [n4.1 m 47 (by omega)]; exact g47
  · rw [n4.1 m 46 (by omega)]; exact g46
  · rw [n4.1 m 49 (by omega), e m 49 (by omega), p5 m 49 (by omega) (by omega) (by omega)]; exact h7
  · show b + c.length + (S.length + 1) ≤ j + 1 + 1; omega
  · rw [r33, p6]; exact hsg q
  · rw [r33]; exact h11.mv (fun y hy => p7 y (by omega))
  · rw [n4.1 m 44 (by omega), e m 44 (by omega), p5 m 44 (by omega) (by omega) (by omega)]
  · rw [n4.1 m 45 (by omega), e m 45 (by omega), p5 m 45 (by omega) (by omega) (by omega)]
  · funext y; rw [n4.1 (m + 30) y (by omega), e (m + 30) y (by omega), p5 (m + 30) y (by omega) (by omega) (by omega)]
  · funext y; rw [n4.1 (m + 31) y (by omega), e (m + 31) y (by omega), p5 (m + 31) y (by omega) (by omega) (by omega)]
  · rw [n4.1 r y (by omega), e r y (by omega), p5 r y (by omega) (by omega) (by omega)]
theorem m_top {w i : Nat} (h3 : I m 48 = (((w, i) :: S : rdC).length : Int)) (h4 : pmW (I (m + 32)) ((w, i) :: S)) : I (m + 32) (Int.toNat (I m 48 - 1)) = (w : Int) := by
  have e : Int.toNat (I m 48 - 1) = S.length := by
    rw [h3]
    show Int.toNat (((S.length + 1 : Nat) : Int) - 1) = S.length
    omega
  rw [e]
  exact h4.1
/-- a step that wants -/
theorem m_unit (hT7 : T ≤ 700) (hB : BR B) (hTe : tkK false B N (tkS false B N T) = 0 ∨ tkK false B N (tkS false B N T) = 5) (hu : u ≤ 100) (h : PM B N T m g gn b z S d j u c I K) : mS B N T m g gn b z I K (gModel_unit_0 m I K) (pmU (tkT B N T) z S d j u c) := by
  obtain ⟨h1, h2, h3, h4, h5, h6, h7, h8, h9, h10, h11, h12⟩ := id h
  have hg := h1.2.2.1
  obtain ⟨w0, i0, S0, rfl⟩ : ∃ w0 i0 S0, S = (w0, i0) :: S0 := match S, h9 with
    | (w0, i0) :: S0, _ => ⟨w0, i0, S0, rfl⟩
  have top := m_top h3 h4
  have e0 : gModel_unit_0 m I K = gModel_unit_36 m I K (if w0 ≤ 3 ∨ 7 ≤ w0 then 1 else 0) := by
    unfold gModel_unit_0 gModel_unit_31
    simp only [gLetp]
    rw [top]
    by_cases p : w0 ≤ 3
    · rw [if_pos (show (w0 : Int) ≤ 3 by omega), if_pos (Or.inl p)]
    · rw [if_neg (show ¬ (w0 : Int) ≤ 3 by omega)]
      by_cases q : w0 < 7
      · rw [if_pos (show (w0 : Int) < 7 by omega), if_neg (by omega)]
      · rw [if_neg (show ¬ (w0 : Int) < 7 by omega), if_pos (by omega)]
  have W22 : gModel_isWord_0 m I K 7237492 = if rdW (tkT B N T) j 22 then 1 else 0 := h1.rW h2 (k := 22) (by decide)
  have ht : pmTop ((w0, i0) :: S0) = w0 := rfl
  rw [e0]
  unfold pmU
  rw [ht]
  by_cases n : (w0 ≤ 3 ∨ 7 ≤ w0) ∧ rdW (tkT B N T) j 22
  · have kn : tkK false B N (tkS false B N j) = 1 := ((rdW_t h2).mp n.2).1
    rw [if_pos n, if_pos n.1]
    unfold gModel_unit_36
    rw [if_neg (show ¬ (1 : Int) = 0 by decide), gLetp, W22, if_pos n.2, if_neg (show ¬ (1 : Int) = 0 by decide), gLetp, h5]
    by_cases e : d = 7
    · rw [if_pos e, if_pos (by omega), gB3t h1.wrong, gLetp, mb_isGood (by rw [q_u_k (by decide), q_u_at]; split <;> decide), if_pos (show (0 : Int) = 0 by decide)]
      exact mS.err (by rw [rdMi_t h2]; split <;> decide) ⟨fun r y p _ _ => by rw [q_u_off (by omega), q_u_off (by omega)], fun _ _ _ => rfl⟩ (by rw [q_u_k (by decide), q_u_at, rdMi_t h2]) q_u_at
    · rw [if_neg e, if_neg (by omega), gLetp, h1.isGood, if_neg (show ¬ (1 : Int) = 0 by decide)]
      obtain ⟨I2, p1, p2, p3, p4⟩ := m_push (S := (w0, i0) :: S0) (d := d + 1) (u := u) (w := 3) (W := 3) (i := j) hB hTe h1 h2 h3 h4 h7 h8 h9 h11 h12 (by omega) (by omega) (by decide) rfl 126 (fun _ => mlA_3.symm) (by rw [if_pos (Or.inl rfl), h10]; omega)
      rw [gB3t p1, gLetp, gLetp, p2, h5, show (d : Int) + 1 = ((d + 1 : Nat) : Int) from rfl, gLetp]
      obtain ⟨I4, K4, q1, q2, q3⟩ := p4 (q_u I2 m 47 ((d + 1 : Nat) : Int)) (fun r y q => q_u_off q) q_u_at (by rw [q_u_k (by decide), p3 m 46 (by omega) (by omega) (by omega)]; exact h6)
      rw [gB3t q1]
      exact ⟨1, I4, K4, rfl, q3, rfl, q2⟩
  · rw [if_neg n]
    have e36 : gModel_unit_36 m I K (if w0 ≤ 3 ∨ 7 ≤ w0 then 1 else 0) = gModel_unit_96 m I K (if w0 ≤ 3 ∨ 7 ≤ w0 then 1 else 0) := by
      unfold gModel_unit_36
      by_cases p : w0 ≤ 3 ∨ 7 ≤ w0
      · rw [if_pos p, if_neg (show ¬ (1 : Int) = 0 by decide), gLetp, W22, if_neg (fun q => n ⟨p, q⟩), if_pos (show (0 : Int) = 0 by decide)]
      · rw [if_neg p, if_pos (show (0 : Int) = 0 by decide)]
    rw [e36]
    generalize (if w0 ≤ 3 ∨ 7 ≤ w0 then (1 : Int) else 0) = x1
    obtain ⟨r, er, e⟩ := m_wordHere h
    have r0 : r = 0 ↔ ¬ rdA (tkT B N T) j := by
      rw [er]
      by_cases p : rdA (tkT B N T) j
      · rw [if_pos p]; exact ⟨fun q => absurd q mlL_ne, fun q => absurd p q⟩
      · rw [if_neg p]; exact ⟨fun _ => p, fun _ => rfl⟩
    unfold gModel_unit_96
    by_cases c2 : rdA (tkT B N T) j ∧ rdY z (tkT B N T j).2.1 = false ∧ u < 100
    · rw [if_pos c2] at e ⊢
      rw [gB3t e, gLetp, mb_isGood (by rw [q_u_k (by decide), q_u_at]; decide), if_pos (show (0 : Int) = 0 by decide)]
      exact mS.err (by decide) ⟨fun r y p _ _ => by rw [q_u_off (by omega), q_u_off (by omega)], fun _ _ _ => rfl⟩ (by rw [q_u_k (by decide), q_u_at]) q_u_at
    · rw [if_neg c2] at e ⊢
      rw [gB3t e, gLetp, h1.isGood, if_neg (show ¬ (1 : Int) = 0 by decide)]
      -- both fail, or take
      have bad : mS B N T m g gn b z I K (gModel_unit_140 m I K x1 r) (.inr (.inl (rdMi (tkT B N T) j, j))) := by
        unfold gModel_unit_140
        rw [gB3t h1.wrong, gLetp, mb_isGood (by rw [q_u_k (by decide), q_u_at]; split <;> decide), if_pos (show (0 : Int) = 0 by decide)]
        exact mS.err (by rw [rdMi_t h2]; split <;> decide) ⟨fun r y p _ _ => by rw [q_u_off (by omega), q_u_off (by omega)], fun _ _ _ => rfl⟩ (by rw [q_u_k (by decide), q_u_at, rdMi_t h2]) q_u_at
      have e131 : u = 100 → gModel_unit_131 m I K x1 r = gModel_unit_140 m I K x1 r := fun q => by
        unfold gModel_unit_131
        rw [gLetp, h6, if_pos (by omega)]
      have kd : (tkT B N T j).1 = tkK false B N (tkS false B N j) := by rw [tkT_at h2]
      have n8 : I m 8 = 4 ↔ tkK false B N (tkS false B N j) = 2 := h1.2.2.2.2.c4
      -- which end
      have e96 : (if r = 0 then gLet (I m 8) (fun (v_5 : Int) => (if v_5 = 4 then gModel_unit_131 m I K x1 r else gLet (gModel_is_0 m I K 40) (fun (r_6 : Int) => (if r_6 = 0 then gModel_unit_140 m I K x1 r else gModel_unit_131 m I K x1 r)))) else gModel_unit_131 m I K x1 r) = if ¬ rdA (tkT B N T) j ∧ (tkT B N T j).1 ≠ 2 ∧ ¬ rdG (tkT B N T) j 40 then gModel_unit_140 m I K x1 r else gModel_unit_131 m I K x1 r := by
        rw [gLetp, gLetp, h1.rG h2 40]
        by_cases p : rdA (tkT B N T) j
        · rw [if_neg (fun q => (r0.mp q) p), if_neg (fun q => q.1 p)]
        · rw [if_pos (r0.mpr p)]
          by_cases q : tkK false B N (tkS false B N j) = 2
          · rw [if_pos (n8.mpr q), if_neg (fun t => t.2.1 (kd.trans q))]
          · rw [if_neg (fun t => q (n8.mp t))]
            by_cases t : rdG (tkT B N T) j 40
            · rw [if_pos t, if_neg (show ¬ (1 : Int) = 0 by decide), if_neg (fun y => y.2.2 t)]
            · rw [if_neg t, if_pos (show (0 : Int) = 0 by decide), if_pos ⟨p, fun y => q (kd.symm.trans y), t⟩]
      rw [e96]
      by_cases c3 : ¬ rdA (tkT B N T) j ∧ (tkT B N T j).1 ≠ 2 ∧ ¬ rdG (tkT B N T) j 40
      · rw [if_pos c3, if_pos (Or.inl c3)]
        exact bad
      · rw [if_neg c3]
        by_cases u1 : u = 100
        · rw [if_pos (Or.inr u1), e131 u1]
          exact bad
        · rw [if_neg (by rintro (q | q); exact c3 q; exact u1 q)]
          have k05 : tkK false B N (tkS false B N j) ≠ 0 ∧ tkK false B N (tkS false B N j) ≠ 5 := by
            have kk : tkK false B N (tkS false B N j) = 1 ∨ tkK false B N (tkS false B N j) = 2 ∨ tkK false B N (tkS false B N j) = 4 := Classical.byContradiction (fun q => c3 ⟨fun p => q (Or.inl ((rdA_t h2).mp p).1), fun p => q (Or.inr (Or.inl (kd.symm.trans p))), fun p => q (Or.inr (Or.inr ((rdG_t h2).mp p).1))⟩)
            omega
          unfold gModel_unit_131
          rw [gLetp, h6, if_neg (by omega), gLetp, h1.isGood, if_neg (show ¬ (1 : Int) = 0 by decide), gLetp, gLetp, show (u : Int) + 1 = ((u + 1 : Nat) : Int) from rfl, gLetp]
          have g6 : ∀ r y, ¬ (r = m ∧ y = 46) → q_u I m 46 ((u + 1 : Nat) : Int) r y = I r y := fun r y q => q_u_off q
          have v6 : q_u I m 46 ((u + 1 : Nat) : Int) m 46 = ((u + 1 : Nat) : Int) := q_u_at
          generalize q_u I m 46 ((u + 1 : Nat) : Int) = I1 at g6 v6 ⊢
          have r33 : I1 (m + 33) = I (m + 33) := by funext y; exact g6 _ y (by omega)
          have md1 : MD B N m g gn b I1 c := h12.mv (g6 m 44 (by omega)) (g6 m 45 (by omega)) (by funext y; exact g6 _ y (by omega)) (by funext y; exact g6 _ y (by omega))
          have m1 : Mg false B N m I1 K (tkS false B N j) := h1.mv (fun y hy => g6 m y (by omega)) (by funext y; exact g6 (m + 2) y (by omega)) rfl
          have f1 : MrF m I I1 K K := ⟨fun r y p _ _ => g6 r y (by omega), fun _ _ _ => rfl⟩
          rw [gLetp, m1.rG h2 40]
          by_cases c4 : rdG (tkT B N T) j 40
          · rw [if_pos c4, if_pos c4, if_neg (show ¬ (1 : Int) = 0 by decide), gLetp, g6 m 47 (by omega), h5]
            by_cases e7 : d = 7
            · rw [if_pos e7, if_pos (by omega), gB3t m1.wrong, gLetp, mb_isGood (by rw [q_u_k (by decide), q_u_at]; split <;> decide), if_pos (show (0 : Int) = 0 by decide)]
              exact mS.err (by rw [rdMi_t h2]; split <;> decide) (f1.tr ⟨fun r y p _ _ => by rw [q_u_off (by omega), q_u_off (by omega)], fun _ _ _ => rfl⟩) (by rw [q_u_k (by decide), q_u_at, rdMi_t h2]) q_u_at
            · rw [if_neg e7, if_neg (by omega), gLetp, m1.isGood, if_neg (show ¬ (1 : Int) = 0 by decide)]
              obtain ⟨I2, p1, p2, p3, p4⟩ := m_push (z := z) (S := (w0, i0) :: S0) (d := d + 1) (u := u + 1) (w := 7) (W := 7) (i := j) hB hTe m1 h2 (by rw [g6 m 48 (by omega)]; exact h3) (by rw [show I1 (m + 32) = I (m + 32) from by funext y; exact g6 _ y (by omega)]; exact h4) (by rw [g6 m 49 (by omega)]; exact h7) h8 h9 (by rw [r33]; exact h11) md1 k05.1 k05.2 (by decide) rfl 0 (fun q => absurd q (by decide)) (by rw [if_pos (Or.inr rfl), h10]; omega)
              rw [gB3t p1, gLetp, gLetp, p2, g6 m 47 (by omega), h5, show (d : Int) + 1 = ((d + 1 : Nat) : Int) from rfl, gLetp]
              obtain ⟨I4, K4, q1, q2, q3⟩ := p4 (q_u I2 m 47 ((d + 1 : Nat) : Int)) (fun r y q => q_u_off q) q_u_at (by rw [q_u_k (by decide), p3 m 46 (by omega) (by omega) (by omega)]; exact v6)
              rw [gB3t q1]
              exact ⟨1, I4, K4, rfl, f1.tr q3, rfl, q2⟩
          · rw [if_neg c4, if_neg c4, if_pos (show (0 : Int) = 0 by decide)]
            have pm1 : PM B N T m g gn b z ((w0, i0) :: S0) d j (u + 1) c I1 K := ⟨m1, h2, by rw [g6 m 48 (by omega)]; exact h3, by rw [show I1 (m + 32) = I (m + 32) from by funext y; exact g6 _ y (by omega)]; exact h4, by rw [g6 m 47 (by omega)]; exact h5, v6, by rw [g6 m 49 (by omega)]; exact h7, h8, h9, h10, by rw [r33]; exact h11, md1⟩
            have go : ∀ a v : Int, a = mlA B N (0, j) → v = mlN B N (0, j) → mS B N T m g gn b z I K (gB3 (gModel_step_0 m I1 K a v) (fun _ J_3 L_4 => gB3 (gModel_next_0 m J_3 L_4) (fun _ J_6 L_7 => ((0 : Int), J_6, L_7)))) (.inl (false, (w0, i0) :: S0, d, j + 1, u + 1, (0, j) :: c)) := fun a v ea ev => by
              have jT := h1.ltT hTe h2 k05.1 k05.2
              obtain ⟨I2, s1, ⟨a1, a3, a4, a5, a6, a7, a11, a12⟩, s2⟩ := pm1.st (by have hl : ((w0, i0) :: S0 : rdC).length = S0.length + 1 := rfl; omega) ea ev
              obtain ⟨I3, K3, n1, n2, n3, n4⟩ := m_nx hB hTe a1 h2 k05.1 k05.2
              rw [gB3t s1, gB3t n1]
              refine ⟨0, I3, K3, rfl, (f1.tr s2).tr n4.mrf, rfl, n2, n3, ?_, ?_, ?_, ?_, ?_, by show b + (c.length + 1) + ((w0, i0) :: S0 : rdC).length ≤ j + 1 + 1; omega, h9, h10, ?_, a12.mv (n4.1 m 44 (by omega)) (n4.1 m 45 (by omega)) (by funext y; exact n4.1 _ y (by omega)) (by funext y; exact n4.1 _ y (by omega))⟩
              · rw [n4.1 m 48 (by omega)]; exact a3
              · rw [show I3 (m + 32) = I2 (m + 32) from by funext y; exact n4.1 _ y (by omega)]; exact a4
              · rw [n4.1 m 47 (by omega)]; exact a5
              · rw [n4.1 m 46 (by omega)]; exact a6
              · rw [n4.1 m 49 (by omega)]; exact a7
              · rw [show I3 (m + 33) = I2 (m + 33) from by funext y; exact n4.1 _ y (by omega)]; exact a11
            unfold gModel_unit_228
            by_cases y : r = 0
            · have na := r0.mp y
              have k2 : tkK false B N (tkS false B N j) = 2 := Classical.byContradiction (fun q => c3 ⟨na, fun p => q (kd.symm.trans p), c4⟩)
              rw [if_pos y, if_pos y, gLetp]
              exact go _ _ (by rw [mlA_0, if_neg (by omega)]) (by rw [mlN_0, if_neg (by omega)]; exact m1.2.2.2.2.num k2)
            · have ya : rdA (tkT B N T) j := Classical.byContradiction (fun q => y (r0.mpr q))
              have k1 : tkK false B N (tkS false B N j) = 1 := ((rdA_t h2).mp ya).1
              rw [if_neg y, if_neg y]
              exact go _ _ (by rw [mlA_0, if_pos k1, er, if_pos ya, tkT_at h2]) (by rw [mlN_0, if_pos k1])
theorem m_cmp : ∀ {S : rdC} {k : Nat} {x : Int}, S.length < k → pmB S → pmW (I (m + 32)) S → x = (S.length : Int) - 1 → gModel_isCompared_7 k m I K x = if pmCmp S = true then 1 else 0
  | [], _, _, _, h, _, _ => h.elim
  | (w, i) :: S, k, x, hk, hb, hw, hx => by
    obtain ⟨k, rfl⟩ : ∃ k', k = k' + 1 := ⟨k - 1, by omega⟩
    have hl : ((w, i) :: S : rdC).length = S.length + 1 := rfl
    rw [eModel_isCompared_7]
    simp only [gLetp]
    rw [show Int.toNat x = S.length by omega, hw.1, pmCmp]
    unfold gModel_isCompared_28
    rw [gLetp]
    by_cases a : w = 5 ∨ w = 6
    · have hb' : pmB S := by
        rcases hb with q | q
        · omega
        · exact q.2
      have r := m_cmp (k := k) (x := x + -1) (by omega) hb' hw.2 (by omega)
      rw [if_pos a, r]
      by_cases b : w = 5
      · rw [if_pos (by omega)]
      · rw [if_neg (by omega), if_pos (by omega)]
    · rw [if_neg a, if_neg (by omega), if_neg (by omega)]
      by_cases b : w = 4
      · rw [if_pos (by omega), if_pos (decide_eq_true b)]
      · rw [if_neg (by omega), if_neg (fun q => b (of_decide_eq_true q))]
/-- what goes off the pile -/
theorem m_pops (hT7 : T ≤ 700) {x1 : Int} {r : Nat} (hx1 : x1 = (r : Int)) : ∀ {S : rdC} {k d : Nat} {I : gJ} {c : rdC}, S.length < k → PM B N T m g gn b z S d j u c I K → ∃ I2, gModel_behind_23 k m I K x1 0 = gModel_behind_108 m I2 K x1 0 ∧ PM B N T m g gn b z (pmPop r S d c).1 (pmPop r S d c).2.1 j u (pmPop r S d c).2.2 I2 K ∧ MrF m I I2 K K
  | [], _, _, _, _, _, h => (h.2.2.2.2.2.2.2.2.1).elim
  | (w, i) :: S, k, d, I, c, hk, h => by
    obtain ⟨k, rfl⟩ : ∃ k', k = k' + 1 := ⟨k - 1, by omega⟩
    obtain ⟨h1, h2, h3, h4, h5, h6, h7, h8, h9, h10, h11, h12⟩ := id h
    have top := m_top h3 h4
    have hl : ((w, i) :: S : rdC).length = S.length + 1 := rfl
    rw [eModel_behind_23]
    rw [gLetp, gLetp, gLetp, top, pmPop]
    by_cases a : w ≤ 6 ∧ r ≤ w
    · have hb' : pmB S := by
        rcases h9 with q | q
        · omega
        · exact q.2
      rw [if_pos a, if_neg (by omega), gLetp, gLetp, gLetp, top, if_neg (by omega), if_pos (show (0 : Int) = 0 by decide), gLetp, gLetp, gLetp, gLetp, gLetp]
      have l48 : I m 48 - 1 = (S.length : Int) := by rw [h3, hl]; omega
      rw [l48]
      have g6 : ∀ r y, ¬ (r = m ∧ y = 48) → q_u I m 48 (S.length : Int) r y = I r y := fun r y q => q_u_off q
      have v6 : q_u I m 48 (S.length : Int) m 48 = (S.length : Int) := q_u_at
      generalize q_u I m 48 (S.length : Int) = I1 at g6 v6 ⊢
      have m1 : Mg false B N m I1 K (tkS false B N j) := h1.mv (fun y hy => g6 m y (by omega)) (by funext y; exact g6 (m + 2) y (by omega)) rfl
      have r32 : I1 (m + 32) = I (m + 32) := by funext y; exact g6 _ y (by omega)
      have r33 : I1 (m + 33) = I (m + 33) := by funext y; exact g6 _ y (by omega)
      have md1 : MD B N m g gn b I1 c := h12.mv (g6 m 44 (by omega)) (g6 m 45 (by omega)) (by funext y; exact g6 _ y (by omega)) (by funext y; exact g6 _ y (by omega))
      have tw : I1 (m + 32) (Int.toNat (I1 m 48)) = (w : Int) := by rw [r32, v6, Int.toNat_natCast]; exact h4.1
      have f1 : MrF m I I1 K K := ⟨fun r y p _ _ => g6 r y (by omega), fun _ _ _ => rfl⟩
      have st : ∀ (J : gJ) (d' : Nat), PM B N T m g gn b z S d' j u c J K → J (m + 33) = I (m + 33) → J m 48 = (S.length : Int) → MrF m I J K K → ∃ I2, gModel_behind_91 (gModel_behind_23 k m) m J K x1 0 = gModel_behind_108 m I2 K x1 0 ∧ PM B N T m g gn b z (pmPop r S d' ((w, i) :: c)).1 (pmPop r S d' ((w, i) :: c)).2.1 j u (pmPop r S d' ((w, i) :: c)).2.2 I2 K ∧ MrF m I I2 K K := fun J d' hp e33 e48 hf => by
        unfold gModel_behind_91
        rw [gLetp, gLetp]
        have w1 : 1 ≤ w := by rcases h9 with q | q <;> omega
        obtain ⟨p1, p2, p3, p4, p5, p6, p7, p8, p9, p10, p11, p12⟩ := id hp
        have hS1 : 1 ≤ S.length := by match S, p9 with | [], q => exact q.elim | _ :: _, _ => exact Nat.succ_le_succ (Nat.zero_le _)
        obtain ⟨I2, s1, ⟨a1, a3, a4, a5, a6, a7, a11, a12⟩, s2⟩ := hp.st (by omega) (x := (w, i)) (a := J (m + 33) (Int.toNat (J m 48))) (v := 0) (by rw [e33, e48, Int.toNat_natCast]; exact h11.1 a.1) (mlN_p w1).symm
        rw [gB3t s1]
        obtain ⟨I3, t1, t2, t3⟩ := m_pops hT7 hx1 (S := S) (k := k) (d := d') (I := I2) (c := (w, i) :: c) (by omega) ⟨a1, p2, a3, a4, a5, a6, a7, by show b + (c.length + 1) + S.length ≤ j + 1; omega, p9, p10, a11, a12⟩
        exact ⟨I3, t1, t2, (hf.tr s2).tr t3⟩
      rw [tw]
      by_cases b : w = 3
      · rw [if_pos b, if_pos (by omega), gLetp, gLetp, gLetp, g6 m 47 (by omega), h5]
        have n10 : 1 + pmN S = d := by rw [← h10, pmN, if_pos (Or.inl b)]
        rw [show (d : Int) - 1 = ((d - 1 : Nat) : Int) by omega]
        refine st _ (d - 1) ⟨m1.mv (fun y hy => q_u_k (by omega)) (by rw [q_u_ne (by omega)]) rfl, h2, by rw [q_u_k (by decide)]; exact v6, by rw [q_u_ne (by omega), r32]; exact h4.2, q_u_at, by rw [q_u_k (by decide), g6 m 46 (by omega)]; exact h6, by rw [q_u_k (by decide), g6 m 49 (by omega)]; exact h7, by omega, hb', by omega, by rw [q_u_ne (by omega), r33]; exact h11.2, md1.mv (q_u_k (by decide)) (q_u_k (by decide)) (q_u_ne (by omega)) (q_u_ne (by omega))⟩ (by rw [q_u_ne (by omega)]; exact r33) (by rw [q_u_k (by decide)]; exact v6) (f1.tr ⟨fun r y p _ _ => q_u_off (by omega), fun _ _ _ => rfl⟩)
      · rw [if_neg b, if_neg (by omega)]
        exact st I1 d ⟨m1, h2, v6, by rw [r32]; exact h4.2, by rw [g6 m 47 (by omega)]; exact h5, by rw [g6 m 46 (by omega)]; exact h6, by rw [g6 m 49 (by omega)]; exact h7, by omega, hb', by rw [← h10, pmN, if_neg (by omega), Nat.zero_add], by rw [r33]; exact h11.2, md1⟩ r33 v6 f1
    · rw [if_neg a]
      refine ⟨I, ?_, h, MrF.rf⟩
      by_cases b : 6 < w
      · rw [if_pos (by omega)]
      · rw [if_neg (by omega), gLetp, gLetp, gLetp, top, if_pos (by omega)]
/-- the pile's top may be off: a bracket, or all -/
theorem m_108 (hB : BR B) (hTe : tkK false B N (tkS false B N T) = 0 ∨ tkK false B N (tkS false B N T) = 5) {S : rdC} {d : Nat} {c : rdC} (h : PM B N T m g gn b z S d j u c I K) (hk : 6 < pmTop S ∨ pmTop S < rkT (tkT B N T) j ∨ S = []) : mS B N T m g gn b z I K (gModel_behind_108 m I K ((rkT (tkT B N T) j : Nat) : Int) 0) (if 0 < rkT (tkT B N T) j then .inl (true, (rkT (tkT B N T) j, j) :: S, d, j + 1, u, c) else pmE (tkT B N T) u j (S, d, c)) := by
  obtain ⟨h1, h2, h3, h4, h5, h6, h7, h8, h9, h10, h11, h12⟩ := id h
  have le := rkT_le (t := tkT B N T) (j := j)
  have n3 := rkT_3 (t := tkT B N T) (j := j)
  unfold gModel_behind_108
  by_cases a : 0 < rkT (tkT B N T) j
  · obtain ⟨_, k0, k5⟩ := rk_kind (B := B) (N := N) (T := T) (j := j) (by omega)
    rw [if_pos a, if_neg (by omega), if_pos (show (0 : Int) = 0 by decide)]
    have go : ∀ sg : Int, sg = mlA B N (rkT (tkT B N T) j, j) → mS B N T m g gn b z I K (gB3 (gModel_pile_0 m I K ((rkT (tkT B N T) j : Nat) : Int) sg) (fun _ J_1 L_1 => gB3 (gModel_next_0 m J_1 L_1) (fun _ J_2 L_2 => ((1 : Int), J_2, L_2)))) (.inl (true, (rkT (tkT B N T) j, j) :: S, d, j + 1, u, c))   := fun sg hsg => by
      obtain ⟨I2, p1, p2, p3, p4⟩ := m_push (z := z) (S := S) (d := d) (u := u) (w := rkT (tkT B N T) j) (W := ((rkT (tkT B N T) j : Nat) : Int)) (i := j) hB hTe h1 h2 h3 h4 h7 h8 h9 h11 h12 k0 k5 (by omega) rfl sg (fun _ => hsg) (by rw [if_neg (by omega), Nat.zero_add]; exact h10)
      obtain ⟨I4, K4, q1, q2, q3⟩ := p4 I2 (fun _ _ _ => rfl) (p2.trans h5) (by rw [p3 m 46 (by omega) (by omega) (by omega)]; exact h6)
      rw [gB3t p1, gB3t q1]
      exact ⟨1, I4, K4, rfl, q3, rfl, q2⟩
    by_cases e2 : rkT (tkT B N T) j = 2
    · rw [if_pos (by omega)]
      exact go _ (by rw [e2, mlA_2])
    · rw [if_neg (by omega)]
      by_cases e1 : rkT (tkT B N T) j = 1
      · rw [if_pos (by omega)]
        exact go _ (by rw [e1, mlA_1])
      · rw [if_neg (by omega), gLetp, gLetp]
        refine go _ ?_
        have lt : tkS false B N j < N := Classical.byContradiction (fun q => k0 (by unfold tkK; rw [if_pos (by omega)]))
        rw [mlA_s (by omega), h1.2.2.2.2.1, m_sign h1.1]
        unfold bN
        rw [if_pos lt]
  · have r0 : rkT (tkT B N T) j = 0 := by omega
    rw [if_neg a, if_pos (by omega), if_pos (show (0 : Int) = 0 by decide), gLetp, gLetp, gLetp, gLetp, gLetp]
    match S, h, h3, h4, h8, h9, h10, h11, hk with
    | [], _, _, _, _, h9, _, _, _ => exact h9.elim
    | (w, i) :: S, h, h3, h4, h8, h9, h10, h11, hk =>
      have hw : 6 < w := by
        have q : 6 < w ∨ w < rkT (tkT B N T) j ∨ ((w, i) :: S : rdC) = [] := hk
        rcases q with q | q | q
        · exact q
        · omega
        · cases q
      have hl : ((w, i) :: S : rdC).length = S.length + 1 := rfl
      have l48 : I m 48 - 1 = (S.length : Int) := by rw [h3, hl]; omega
      rw [l48]
      have g6 : ∀ r y, ¬ (r = m ∧ y = 48) → q_u I m 48 (S.length : Int) r y = I r y := fun r y q => q_u_off q
      have v6 : q_u I m 48 (S.length : Int) m 48 = (S.length : Int) := q_u_at
      generalize q_u I m 48 (S.length : Int) = I1 at g6 v6 ⊢
      have m1 : Mg false B N m I1 K (tkS false B N j) := h1.mv (fun y hy => g6 m y (by omega)) (by funext y; exact g6 (m + 2) y (by omega)) rfl
      have r32 : I1 (m + 32) = I (m + 32) := by funext y; exact g6 _ y (by omega)
      have r33 : I1 (m + 33) = I (m + 33) := by funext y; exact g6 _ y (by omega)
      have md1 : MD B N m g gn b I1 c := h12.mv (g6 m 44 (by omega)) (g6 m 45 (by omega)) (by funext y; exact g6 _ y (by omega)) (by funext y; exact g6 _ y (by omega))
      have f1 : MrF m I I1 K K := ⟨fun r y p _ _ => g6 r y (by omega), fun _ _ _ => rfl⟩
      rw [v6, Int.toNat_natCast, r32, h4.1]
      unfold pmE
      dsimp only
      by_cases b : w = 7
      · have hb' : pmB S := by
          rcases h9 with q | q
          · omega
          · exact q.2
        have n10 : 1 + pmN S = d := by rw [← h10, pmN, if_pos (Or.inr b)]
        rw [if_pos (by omega), gLetp, gLetp, gLetp, gLetp, g6 m 47 (by omega), h5, show (d : Int) - 1 = ((d - 1 : Nat) : Int) by omega]
        have m2 : Mg false B N m (q_u I1 m 47 ((d - 1 : Nat) : Int)) K (tkS false B N j) := m1.mv (fun y hy => q_u_k (by omega)) (by rw [q_u_ne (by omega)]) rfl
        have f2 : MrF m I (q_u I1 m 47 ((d - 1 : Nat) : Int)) K K := f1.tr ⟨fun r y p _ _ => q_u_off (by omega), fun _ _ _ => rfl⟩
        have v7 : q_u I1 m 47 ((d - 1 : Nat) : Int) m 47 = ((d - 1 : Nat) : Int) := q_u_at
        have g7 : ∀ r y, ¬ (r = m ∧ y = 47) → q_u I1 m 47 ((d - 1 : Nat) : Int) r y = I1 r y := fun r y q => q_u_off q
        generalize q_u I1 m 47 ((d - 1 : Nat) : Int) = I2 at m2 f2 v7 g7 ⊢
        rw [m2.rG h2 41]
        unfold gModel_must_0
        rw [gLetp, m2.isGood, if_neg (show ¬ (1 : Int) = 0 by decide)]
        rw [if_pos b]
        by_cases e : rdG (tkT B N T) j 41
        · have ke : tkK false B N (tkS false B N j) = 4 := ((rdG_t h2).mp e).1
          obtain ⟨I3, K3, n1, n2, n3, n4⟩ := m_nx hB hTe m2 h2 (by omega) (by omega)
          rw [if_pos e, if_pos e, if_neg (show ¬ (1 : Int) = 0 by decide), gB3t n1, gB3p]
          refine ⟨0, I3, K3, rfl, f2.tr n4.mrf, rfl, n2, n3, ?_, ?_, ?_, ?_, ?_, by omega, hb', by omega, ?_, md1.mv ?_ ?_ ?_ ?_⟩
          · rw [n4.1 m 48 (by omega), g7 m 48 (by omega)]; exact v6
          · rw [show I3 (m + 32) = I (m + 32) from by funext y; rw [n4.1 _ y (by omega), g7 _ y (by omega), g6 _ y (by omega)]]; exact h4.2
          · rw [n4.1 m 47 (by omega)]; exact v7
          · rw [n4.1 m 46 (by omega), g7 m 46 (by omega), g6 m 46 (by omega)]; exact h6
          · rw [n4.1 m 49 (by omega), g7 m 49 (by omega), g6 m 49 (by omega)]; exact h7
          · rw [show I3 (m + 33) = I (m + 33) from by funext y; rw [n4.1 _ y (by omega), g7 _ y (by omega), g6 _ y (by omega)]]; exact h11.2
          · rw [n4.1 m 44 (by omega), g7 m 44 (by omega)]
          · rw [n4.1 m 45 (by omega), g7 m 45 (by omega)]
          · funext y; rw [n4.1 _ y (by omega), g7 _ y (by omega)]
          · funext y; rw [n4.1 _ y (by omega), g7 _ y (by omega)]
        · rw [if_neg e, if_neg e, if_pos (show (0 : Int) = 0 by decide), gB3t m2.wrong, gB3p]
          dsimp only
          exact mS.err (by rw [rdMi_t h2]; split <;> decide) (f2.tr ⟨fun r y p _ _ => by rw [q_u_off (by omega), q_u_off (by omega)], fun _ _ _ => rfl⟩) (by rw [q_u_k (by decide), q_u_at, rdMi_t h2]) q_u_at
      · have w8 : w = 8 ∧ S = [] := by
          rcases h9 with q | q
          · exact q
          · omega
        rw [if_neg (by omega), if_neg b]
        refine ⟨0, I1, K, rfl, f1, m1, h2, ?_, ?_, md1⟩
        · rw [v6, w8.2]; rfl
        · rw [g6 m 46 (by omega)]; exact h6
/-- a step behind -/
theorem m_behind (hB : BR B) (hTe : tkK false B N (tkS false B N T) = 0 ∨ tkK false B N (tkS false B N T) = 5) {S : rdC} {d : Nat} {c : rdC} (hT : T ≤ 700) (h : PM B N T m g gn b z S d j u c I K) : mS B N T m g gn b z I K (gModel_behind_0 m I K) (pmH (tkT B N T) S d j u c) := by
  obtain ⟨h1, h2, h3, h4, h5, h6, h7, h8, h9, h10, h11, h12⟩ := id h
  have le := rkT_le (t := tkT B N T) (j := j)
  have ec : gModel_isCompared_0 m I K = if pmCmp S = true then 1 else 0 := by
    unfold gModel_isCompared_0
    rw [gLetp, gLetp]
    exact m_cmp (by omega) h9 h4 (by rw [h3])
  unfold gModel_behind_0 pmH
  rw [gLetp, m_rank h1 h2]
  by_cases a : rkT (tkT B N T) j = 4 ∧ pmCmp S = true
  · rw [if_pos a, if_pos (by omega), gLetp, ec, if_pos a.2, if_neg (show ¬ (1 : Int) = 0 by decide)]
    unfold gModel_behind_22
    -- nothing goes off; it is wrong
    have w108 : mS B N T m g gn b z I K (gModel_behind_108 m I K ((rkT (tkT B N T) j : Nat) : Int) 1) (.inr (.inl (rdMi (tkT B N T) j, j))) := by
      unfold gModel_behind_108
      rw [if_neg (by omega), if_neg (show ¬ (1 : Int) = 0 by decide), if_neg (show ¬ (1 : Int) = 0 by decide), gB3t h1.wrong]
      exact mS.err (by rw [rdMi_t h2]; split <;> decide) ⟨fun r y p _ _ => by rw [q_u_off (by omega), q_u_off (by omega)], fun _ _ _ => rfl⟩ (by rw [q_u_k (by decide), q_u_at, rdMi_t h2]) q_u_at
    have e : gModel_behind_23 20000 m I K ((rkT (tkT B N T) j : Nat) : Int) 1 = gModel_behind_108 m I K ((rkT (tkT B N T) j : Nat) : Int) 1 := by
      show gModel_behind_23 (19999 + 1) m I K ((rkT (tkT B N T) j : Nat) : Int) 1 = _
      rw [eModel_behind_23, gLetp, gLetp, gLetp, gLetp, gLetp, gLetp, if_neg (show ¬ (1 : Int) = 0 by decide)]
      split
      · rfl
      · split <;> rfl
    rw [e]
    exact w108
  · rw [if_neg a]
    have e0 : (if ((rkT (tkT B N T) j : Nat) : Int) = 4 then gLet (gModel_isCompared_0 m I K) (fun (r_2 : Int) => (if r_2 = 0 then gModel_behind_21 m I K ((rkT (tkT B N T) j : Nat) : Int) else gModel_behind_22 m I K ((rkT (tkT B N T) j : Nat) : Int) 1)) else gModel_behind_21 m I K ((rkT (tkT B N T) j : Nat) : Int)) = gModel_behind_23 20000 m I K ((rkT (tkT B N T) j : Nat) : Int) 0 := by
      unfold gModel_behind_21 gModel_behind_22
      rw [gLetp, ec]
      by_cases b : rkT (tkT B N T) j = 4
      · rw [if_pos (by omega), if_neg (fun q => a ⟨b, q⟩), if_pos (show (0 : Int) = 0 by decide)]
      · rw [if_neg (by omega)]
    rw [e0]
    obtain ⟨I2, p1, p2, p3⟩ := m_pops hT (r := rkT (tkT B N T) j) rfl (S := S) (k := 20000) (d := d) (I := I) (c := c) (by omega) h
    rw [p1]
    have top := pm_pop_top (r := rkT (tkT B N T) j) (S := S) (d := d) (c := c)
    have q := m_108 (c := (pmPop (rkT (tkT B N T) j) S d c).2.2) hB hTe p2 top
    refine mS.pre ?_ p3
    by_cases b : 0 < rkT (tkT B N T) j
    · rw [if_pos b] at q ⊢
      exact q
    · have r0 : rkT (tkT B N T) j = 0 := by omega
      rw [if_neg b] at q ⊢
      rw [r0] at q ⊢
      exact q
/-- how the reference's expression ends -/
def mQ (B : Nat → Int) (N T m : Nat) (g gn : Nat → Int) (b : Nat) (I2 : gJ) (K2 : gL) : (Int × Nat) ⊕ (Nat × Nat × rdC) → Prop
  | .inl (f, p) => I2 m 4 = f ∧ f ≠ 0 ∧ I2 m 5 = ((tkS false B N p : Nat) : Int)
  | .inr (j', u', c') => Mg false B N m I2 K2 (tkS false B N j') ∧ j' ≤ T ∧ I2 m 46 = (u' : Int) ∧ MD B N m g gn b I2 c'
/-- all steps -/
theorem m_e19 (hB : BR B) (hTe : tkK false B N (tkS false B N T) = 0 ∨ tkK false B N (tkS false B N T) = 5) (hT : T ≤ 700) : ∀ (n k : Nat) (wa : Bool) (S : rdC) (d j u : Nat) (c : rdC) (I : gJ) (K : gL), n < k → u ≤ 100 → PM B N T m g gn b z S d j u c I K → ∀ e, pmR (tkT B N T) z n (.inl (wa, S, d, j, u, c)) = .inr e → ∃ I2 K2, gModel_e_19 k m I K (if wa = true then 1 else 0) = (0, I2, K2) ∧ MrF m I I2 K K2 ∧ mQ B N T m g gn b I2 K2 e := by
  intro n
  induction n with
  | zero => intro k wa S d j u c I K _ _ _ e he; exact nomatch (show (Sum.inl (wa, S, d, j, u, c) : pmS) = .inr e from he)
  | succ n ih =>
    intro k wa S d j u c I K hk hu h e he
    obtain ⟨k, rfl⟩ : ∃ k', k = k' + 1 := ⟨k - 1, by omega⟩
    have h48 : ¬ I m 48 ≤ 0 := by
      obtain ⟨h1, h2, h3, h4, h5, h6, h7, h8, h9, h10⟩ := h
      match S, h3, h9 with
      | (w, i) :: S, h3, _ =>
        have hl : ((w, i) :: S : rdC).length = S.length + 1 := rfl
        rw [h3, hl]; omega
    have st : ∀ (q : Int × gJ × gL) (s : pmS), (∀ wa S d j u c, s = .inl (wa, S, d, j, u, c) → u ≤ 100) → mS B N T m g gn b z I K q s → pmR (tkT B N T) z n s = .inr e → ∃ I2 K2, gB3 q (fun r J_4 L_5 => gModel_e_48 (gModel_e_19 k m) m J_4 L_5 (if wa = true then 1 else 0) r) = (0, I2, K2) ∧ MrF m I I2 K K2 ∧ mQ B N T m g gn b I2 K2 e := by
      intro q s hus hs hr
      obtain ⟨r, I1, K1, e1, e2, e3⟩ := hs
      rw [gB3t e1]
      unfold gModel_e_48
      match s, hus, e3, hr with
      | .inl (wa1, S1, d1, j1, u1, c1), hus, ⟨r1, pm⟩, hr =>
        obtain ⟨I2, K2, g1, g2, g3⟩ := ih k wa1 S1 d1 j1 u1 c1 I1 K1 (by omega) (hus _ _ _ _ _ _ rfl) pm e hr
        rw [r1]
        exact ⟨I2, K2, g1, e2.tr g2, g3⟩
      | .inr (.inl (f, p)), _, ⟨f1, f2, f3⟩, hr =>
        rw [pmR_r] at hr
        cases hr
        obtain ⟨k, rfl⟩ : ∃ k', k = k' + 1 := ⟨k - 1, by omega⟩
        refine ⟨I1, K1, ?_, e2, f1, f2, f3⟩
        rw [eModel_e_19, gLetp, mb_isGood (by rw [f1]; exact f2), if_pos (show (0 : Int) = 0 by decide)]
      | .inr (.inr (j1, u1, c1)), _, ⟨f1, f2, f3, f4, f5⟩, hr =>
        rw [pmR_r] at hr
        cases hr
        obtain ⟨k, rfl⟩ : ∃ k', k = k' + 1 := ⟨k - 1, by omega⟩
        refine ⟨I1, K1, ?_, e2, f1, f2, f4, f5⟩
        rw [eModel_e_19, gLetp, f1.isGood, if_neg (show ¬ (1 : Int) = 0 by decide), gLetp, f3, if_pos (by decide)]
    rw [eModel_e_19, gLetp, h.1.isGood, if_neg (show ¬ (1 : Int) = 0 by decide), gLetp, if_neg h48]
    cases wa with
    | true =>
      rw [if_neg (show ¬ (if true = true then (1 : Int) else 0) = 0 by decide)]
      exact st _ _ (fun wa S d j u c q => pmU_u hu q) (m_unit hT hB hTe hu h) he
    | false =>
      rw [if_pos (show (if false = true then (1 : Int) else 0) = 0 by decide)]
      exact st _ _ (fun wa S d j u c q => pmH_u hu q) (m_behind hB hTe hT h) he
end MR2
