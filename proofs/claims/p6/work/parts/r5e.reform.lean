/-! A REFORM's lines, its beginning and its end, in both. By hand. -/
def RfL5 (o x : Nat) (J J' : gJ) : Prop := ∀ r y, ¬ (r = x ∧ (y = 7 ∨ y = 8 ∨ y = 10)) → ¬ (r = o ∧ 4 ≤ y ∧ y ≤ 8) → ¬ (o + 1 ≤ r ∧ r ≤ o + 3) → J' r y = J r y
/-- what both did with a REFORM's text -/
def RfRes (x o m t : Nat) (J2 I I2 : gJ) (r a : Int) : Prop := (r = 0 ∨ r = 1) ∧ (r = 0 → a = -1 ∧ (∀ r y, r ≠ m → r ≠ m + 2 → ¬ ((r = m + 26 ∨ r = m + 27) ∧ 40 ≤ y ∧ y < 50) → ¬ ((r = m + 28 ∨ r = m + 29) ∧ y = 4) → ¬ ((r = m + 30 ∨ r = m + 31) ∧ 2800 ≤ y ∧ y < 3500) → r ≠ m + 32 → r ≠ m + 33 → I2 r y = I r y)) ∧ (r = 1 → a = J2 o 5 ∧ (∃ b : Nat, RfB J2 o I2 m t b) ∧ J2 o 5 = I2 (m + 29) t ∧ 0 ≤ J2 o 5 ∧ J2 o 5 ≤ 700 ∧ (∀ r y, r ≠ m → r ≠ m + 2 → ¬ ((r = m + 26 ∨ r = m + 27) ∧ ((40 ≤ y ∧ y < 50) ∨ (10 * t ≤ y ∧ y < 10 * t + 10))) → ¬ ((r = m + 28 ∨ r = m + 29) ∧ (y = 4 ∨ y = t)) → ¬ ((r = m + 30 ∨ r = m + 31) ∧ ((2800 ≤ y ∧ y < 3500) ∨ (700 * t ≤ y ∧ y < 700 * t + 700))) → r ≠ m + 32 → r ≠ m + 33 → I2 r y = I r y)) ∧ I2 m 4 = J2 x 7 ∧ I2 m 5 = J2 x 8 ∧ I2 m 2 = 0 ∧ ∀ y, ¬ (2 ≤ y ∧ y ≤ 9) → y ≠ 11 → ¬ (44 ≤ y ∧ y ≤ 49) → I2 m y = I m y
section RR
variable {B : Nat → Int} {N T o x m j u b n : Nat} {J J2 J3 J' : gJ} {L : gL} {I I2 I3 I' : gJ} {K K2 K3 : gL} {z sh x2 : Int} {g gn : Nat → Int} {c : rdC}
theorem RfL.five (h : RfL o x J J2) : RfL5 o x J J2 := fun r y a b c => h r y a (by omega) c
theorem RfL5.tr (h : RfL5 o x J J2) (q : RfL5 o x J2 J3) : RfL5 o x J J3 := fun r y a b c => (q r y a b c).trans (h r y a b c)
/-- both have read all lines -/
def RAll (x o m : Nat) (J' : gJ) (I' : gJ) : Prop := I' m 44 = 4 ∧ (∃ b : Nat, RfB J' o I' m 4 b) ∧ (∃ n : Nat, J' o 5 = (n : Int) ∧ I' (m + 29) 4 = (n : Int) ∧ n ≤ 700) ∧ J' x 7 = 0 ∧ J' x 8 = -1 ∧ I' m 4 = 0 ∧ I' m 5 = -1
theorem m_95bad {k : Nat} (h : I m 4 ≠ 0) : gModel_reform_95 (k + 1) m I K sh x2 = (-1, I, K) := by
  rw [eModel_reform_95, gLetp, mb_isGood h, if_pos (show (0 : Int) = 0 by decide), gLetp, if_pos (show (0 : Int) = 0 by decide)]
theorem s_rlines (hB : BR B) (hN : N ≤ 700) (hs : o + 5 ≤ x ∨ x + 7 ≤ o) : ∀ (f i n kc km j : Nat) (J : gJ) (I : gJ) (K : gL), T < f + j → f < kc → f < km → RQ B N T x o m J L I K j → J o 5 = (n : Int) → I (m + 29) 4 = (n : Int) → n ≤ j → i ≤ j → ∃ r J' I' K', gReform_read_11 kc o x J L (i : Int) = (r, J', L) ∧ RfL5 o x J J' ∧ MrL m I I' K K' ∧ ((r = 1 ∧ gModel_reform_95 km m I K sh x2 = gLet (I' m 44) (fun (v_10 : Int) => gB3 (gModel_lay_0 m I' K' v_10 sh) (fun _ J_12 L_13 => gLet (J_12 (m + 29) (Int.toNat sh)) (fun (v_14 : Int) => (v_14, J_12, L_13)))) ∧ RAll x o m J' I') ∨ (r = 0 ∧ gModel_reform_95 km m I K sh x2 = (-1, I', K') ∧ J' x 7 ≠ 0 ∧ I' m 4 = J' x 7 ∧ I' m 5 = J' x 8)) := by
  intro f
  induction f with
  | zero => intro i n kc km j J I K hf _ _ h; have := h.1.1.2.1; omega
  | succ f ih =>
    intro i n kc km j J I K hf hkc hkm h h5 h29 hn hi
    obtain ⟨kc, rfl⟩ : ∃ k', kc = k' + 1 := ⟨kc - 1, by omega⟩
    obtain ⟨km, rfl⟩ : ∃ k', km = k' + 1 := ⟨km - 1, by omega⟩
    obtain ⟨hC, hM⟩ := id h.1
    have TN := hC.1.TN
    have hj := hC.2.1
    by_cases k0 : tkK false B N (tkS false B N j) = 0
    · -- the end
      refine ⟨1, J, I, K, ?_, fun _ _ _ _ _ => rfl, ⟨fun _ _ _ _ _ _ _ => rfl, fun _ _ _ => rfl⟩, Or.inl ⟨rfl, ?_, h.2.1, ?_, ⟨n, h5, h29, by omega⟩, hC.2.2.2.1, hC.2.2.2.2, hM.2.2.1, hM.2.2.2.1⟩⟩
      · rw [eReform_read_11]
        by_cases a : (700 : Int) ≤ (i : Int)
        · rw [if_pos a]
        · rw [if_neg a, gLetp, hC.atEnd, if_pos k0, if_neg (show ¬ (1 : Int) = 0 by decide)]
      · rw [eModel_reform_95, gLetp, hM.isGood, if_neg (show ¬ (1 : Int) = 0 by decide), gLetp, if_pos (hM.2.2.2.2.c0.mpr k0), gLetp, if_neg (show ¬ (1 : Int) = 0 by decide)]
      · obtain ⟨_, _, b, hb, _⟩ := h.2
        exact ⟨b, hb⟩
    · obtain ⟨r, J1, I1, K1, e1, e2, e3, e4, e5⟩ := s_rline hB hN hs h h29 hn
      have i700 : ¬ (700 : Int) ≤ (i : Int) := fun q => by
        have e : j = T := by omega
        have jN : tkS false B N j = N := by
          have g1 := tkS_grow hC.1 j hj
          have g2 := tkS_le false B N j
          omega
        exact k0 (tkK_end.mpr (by omega))
      have ec : gReform_read_11 (kc + 1) o x J L (i : Int) = (if r = 0 then (0, J1, L) else gReform_read_11 kc o x (q_u J1 o 5 (wAdd (J1 o 5) 1)) L ((i : Int) + 1)) := by
        rw [eReform_read_11, if_neg i700, gLetp, hC.atEnd, if_neg k0, if_pos (show (0 : Int) = 0 by decide), gB3t e1]
        split
        · rfl
        · rw [gLetp, gLetp, gLetp, gLetp]
      have em : gModel_reform_95 (km + 1) m I K sh x2 = gModel_reform_95 km m I1 K1 sh x2 := by
        rw [eModel_reform_95, gLetp, hM.isGood, if_neg (show ¬ (1 : Int) = 0 by decide), gLetp, if_neg (fun q => k0 (hM.2.2.2.2.c0.mp q)), gB3t e2]
      rcases e5 with ⟨r1, j', j1, j2, j3⟩ | ⟨r0, sb⟩
      · rw [r1, if_neg (show ¬ (1 : Int) = 0 by decide)] at ec
        have e15 : J1 o 5 = (n : Int) := (e3 o 5 (by omega) (by omega) (by omega)).trans h5
        have ew : wAdd (J1 o 5) 1 = ((n + 1 : Nat) : Int) := by
          rw [e15, wAdd_r (by omega) (by omega) (by decide) (by decide) (by omega) (by omega)]
          rfl
        rw [ew] at ec
        have q5 : ∀ r y, ¬ (r = o ∧ y = 5) → q_u J1 o 5 ((n + 1 : Nat) : Int) r y = J1 r y := fun r y q => q_u_off q
        have q55 : q_u J1 o 5 ((n + 1 : Nat) : Int) o 5 = ((n + 1 : Nat) : Int) := q_u_at
        generalize q_u J1 o 5 ((n + 1 : Nat) : Int) = J2 at q5 q55 ec
        have row : ∀ i, 1 ≤ i → i ≤ 3 → J2 (o + i) = J1 (o + i) := fun i a c => by funext y; exact q5 (o + i) y (by omega)
        have h2 : RQ B N T x o m J2 L I1 K1 j' := by
          obtain ⟨⟨gC, gM⟩, g44, ⟨u, u1, u2, u3⟩, b, ⟨b1, b2, b3, b4, b5, b6, b7, b8⟩, b9, b10⟩ := j2
          refine ⟨⟨gC.mvO (fun r y p q => q5 r y (by omega)), gM⟩, g44, ⟨u, (q5 o 7 (by omega)).trans u1, u2, u3⟩, b, ⟨(q5 o 4 (by omega)).trans b1, b2, ?_, ?_, ?_, ?_, fun z hz => ?_, fun z hz hz2 => ?_⟩, b9, b10⟩
          · rw [q5 o 6 (by omega)]; exact b3
          · rw [q5 o 6 (by omega)]; exact b4
          · rw [q5 o 6 (by omega)]; exact b5
          · rw [row 1 (by decide) (by decide)]; exact b6
          · have q := b7 z hz
            unfold SLt at q ⊢
            rw [row 1 (by decide) (by decide), row 2 (by decide) (by decide), row 3 (by decide) (by decide)]
            exact q
          · rw [q5 o 6 (by omega)] at hz
            rw [row 3 (by decide) (by decide)]
            exact b8 z hz hz2
        obtain ⟨r', J', I', K', w1, w2, w3, w4⟩ := ih (i + 1) (n + 1) kc km j' J2 I1 K1 (by omega) (by omega) (by omega) h2 q55 j3 (by omega) (by omega)
        refine ⟨r', J', I', K', ec.trans w1, (e3.five.tr (fun r y _ p _ => q5 r y (by omega))).tr w2, e4.tr w3, ?_⟩
        rw [em]
        exact w4
      · rw [r0, if_pos rfl] at ec
        obtain ⟨km, rfl⟩ : ∃ k', km = k' + 1 := ⟨km - 1, by omega⟩
        refine ⟨0, J1, I1, K1, ec, e3.five, e4, Or.inr ⟨rfl, ?_, sb.2.2.2.1, sb.2.2.2.2.1, sb.2.2.2.2.2⟩⟩
        rw [em]
        exact m_95bad (by rw [sb.2.2.2.2.1]; exact sb.2.2.2.1)
/-- the reference clears its sorts -/
theorem m_54 : ∀ (f i k : Nat) (I : gJ), i + f = 10 → f < k → I m 44 = 4 → ∃ I2, gModel_reform_54 k m I K sh (i : Int) = gB3 (gModel_next_0 m (q_u (q_u I2 m 45 0) m 46 0) K) (fun _ J_4 L_5 => gModel_reform_95 20000 m J_4 L_5 sh 10) ∧ (∀ y, 40 + i ≤ y → y < 50 → I2 (m + 26) y = -1) ∧ ∀ r y, ¬ (r = m + 26 ∧ 40 + i ≤ y ∧ y < 50) → I2 r y = I r y := by
  intro f
  induction f with
  | zero =>
    intro i k I hi hk h44
    obtain ⟨k, rfl⟩ : ∃ k', k = k' + 1 := ⟨k - 1, by omega⟩
    have i10 : i = 10 := by omega
    subst i10
    rw [eModel_reform_54, if_pos (by decide), gLetp, gLetp]
    exact ⟨I, rfl, fun y a c => by omega, fun _ _ _ => rfl⟩
  | succ f ih =>
    intro i k I hi hk h44
    obtain ⟨k, rfl⟩ : ∃ k', k = k' + 1 := ⟨k - 1, by omega⟩
    rw [eModel_reform_54, if_neg (by omega), gLetp, gLetp, gLetp, gLetp, gLetp, h44, show Int.toNat (10 * 4 + (i : Int)) = 40 + i by omega, nat1]
    obtain ⟨I2, e, f1, f2⟩ := ih (i + 1) k (q_u I (m + 26) (40 + i) (-1)) (by omega) (by omega) (by rw [q_u_ne (by omega)]; exact h44)
    refine ⟨I2, e, fun y a c => ?_, fun r y q => ?_⟩
    · by_cases e : y = 40 + i
      · rw [f2 _ _ (by omega), e, q_u_at]
      · exact f1 y (by omega) c
    · rw [f2 r y (by omega), q_u_off (by omega)]
/-- the reference begins a REFORM -/
theorem mg_reform (hB : BR B) (h2 : I m 2 = (N : Int)) (hN : N ≤ 700) (hby : ∀ k, k < N → wAnd (I (m + 1) k) 255 = B k) (hs0 : 0 ≤ sh) (hs3 : sh < 4) : ∃ I2 K2, gModel_reform_0 m I K sh = gModel_reform_95 20000 m I2 K2 sh 10 ∧ Mg false B N m I2 K2 (tkS false B N 0) ∧ I2 m 44 = 4 ∧ I2 m 45 = 0 ∧ I2 m 46 = 0 ∧ I2 (m + 28) 4 = 0 ∧ I2 (m + 29) 4 = 0 ∧ (∀ y, 40 ≤ y → y < 50 → I2 (m + 26) y = -1) ∧ I2 m 2 = 0 ∧ (∀ r y, r ≠ m → r ≠ m + 2 → ¬ (r = m + 26 ∧ 40 ≤ y ∧ y < 50) → ¬ ((r = m + 28 ∨ r = m + 29) ∧ y = 4) → I2 r y = I r y) ∧ (∀ y, ¬ (2 ≤ y ∧ y ≤ 9) → y ≠ 11 → ¬ (44 ≤ y ∧ y ≤ 46) → I2 m y = I m y) ∧ ∀ r, r ≠ m → K2 r = K r := by
  unfold gModel_reform_0
  obtain ⟨I1, e1, g1, g2, g3, g4, g5, g6, g7, g8⟩ := m_takeTape (I := I) (K := K) (x1 := 1) h2 (by omega) hby
  rw [gLetp, h2, if_neg (by omega), if_neg (by omega), if_pos (by omega), gB3t e1, gLetp, gLetp]
  have n4 : Int.toNat 4 = 4 := rfl
  have a44 : q_u I1 m 44 4 m 44 = 4 := q_u_at
  rw [a44, n4, gLetp, gLetp]
  have b44 : q_u (q_u I1 m 44 4) (m + 28) 4 0 m 44 = 4 := by rw [q_u_ne (by omega)]; exact a44
  rw [b44, n4, gLetp]
  have c44 : q_u (q_u (q_u I1 m 44 4) (m + 28) 4 0) (m + 29) 4 0 m 44 = 4 := by rw [q_u_ne (by omega)]; exact b44
  have c28 : q_u (q_u (q_u I1 m 44 4) (m + 28) 4 0) (m + 29) 4 0 (m + 28) 4 = 0 := by rw [q_u_ne (by omega), q_u_at]
  have c29 : q_u (q_u (q_u I1 m 44 4) (m + 28) 4 0) (m + 29) 4 0 (m + 29) 4 = 0 := q_u_at
  have co : ∀ r y, ¬ (r = m ∧ y = 44) → ¬ ((r = m + 28 ∨ r = m + 29) ∧ y = 4) → q_u (q_u (q_u I1 m 44 4) (m + 28) 4 0) (m + 29) 4 0 r y = I1 r y := fun r y p q => by rw [q_u_off (by omega), q_u_off (by omega), q_u_off p]
  generalize q_u (q_u (q_u I1 m 44 4) (m + 28) 4 0) (m + 29) 4 0 = I5 at c44 c28 c29 co ⊢
  obtain ⟨I6, e6, f1, f2⟩ := m_54 (m := m) (K := K) (sh := sh) 10 0 20000 I5 rfl (by decide) c44
  have e6' : gModel_reform_54 20000 m I5 K sh 0 = _ := e6
  rw [e6']
  have d46 : q_u (q_u I6 m 45 0) m 46 0 m 46 = 0 := q_u_at
  have d45 : q_u (q_u I6 m 45 0) m 46 0 m 45 = 0 := by rw [q_u_k (by decide), q_u_at]
  have dof : ∀ r y, ¬ (r = m ∧ (y = 45 ∨ y = 46)) → q_u (q_u I6 m 45 0) m 46 0 r y = I6 r y := fun r y p => by rw [q_u_off (by omega), q_u_off (by omega)]
  generalize q_u (q_u I6 m 45 0) m 46 0 = I7 at d46 d45 dof ⊢
  have all : ∀ r y, ¬ (r = m ∧ (y = 44 ∨ y = 45 ∨ y = 46)) → ¬ ((r = m + 28 ∨ r = m + 29) ∧ y = 4) → ¬ (r = m + 26 ∧ 40 ≤ y ∧ y < 50) → I7 r y = I1 r y := fun r y p q s => by rw [dof r y (by omega), f2 r y (by omega), co r y (by omega) q]
  have mx : MX B N m I7 := g1.mv (all _ _ (by omega) (by omega) (by omega)) (by funext y; exact all _ y (by omega) (by omega) (by omega))
  have z11 : I7 m 11 = (if false = true then 0 else 1) := by rw [if_neg (by decide), all m 11 (by omega) (by omega) (by omega)]; exact g2
  obtain ⟨I8, K8, n1, n2, n3⟩ := m_next (L := K) hB mx z11 (fr := 0) (Nat.zero_le _) (by rw [all m 7 (by omega) (by omega) (by omega)]; exact g5)
  rw [gB3t n1]
  have fin : ∀ r y, ¬ (r = m ∧ ((2 ≤ y ∧ y ≤ 9) ∨ y = 11 ∨ (44 ≤ y ∧ y ≤ 46))) → r ≠ m + 2 → ¬ ((r = m + 28 ∨ r = m + 29) ∧ y = 4) → ¬ (r = m + 26 ∧ 40 ≤ y ∧ y < 50) → I8 r y = I r y := by
    intro r y p p2 q s
    rw [n3.1 r y (by omega), all r y (by omega) q s]
    by_cases e : r = m
    · subst e; exact g8 y (by omega) (by omega) (by omega) (by omega) (by omega) (by omega)
    · rw [g7 r e p2]
  refine ⟨I8, K8, rfl, ⟨n3.mx mx, by rw [n3.1 _ _ (by omega)]; exact z11, by rw [n3.1 _ _ (by omega), all m 4 (by omega) (by omega) (by omega)]; exact g3, by rw [n3.1 _ _ (by omega), all m 5 (by omega) (by omega) (by omega)]; exact g4, n2⟩, ?_, ?_, ?_, ?_, ?_, fun y a c => ?_, ?_, fun r y a c d e => fin r y (by omega) c e d, fun y a c d => fin m y (by omega) (by omega) (by omega) (by omega), fun r a => by funext y; exact n3.2 r y (fun q => a q.1)⟩
  · rw [n3.1 m 44 (by omega), dof m 44 (by omega), f2 m 44 (by omega)]; exact c44
  · rw [n3.1 m 45 (by omega)]; exact d45
  · rw [n3.1 m 46 (by omega)]; exact d46
  · rw [n3.1 _ 4 (by omega), dof _ 4 (by omega), f2 _ 4 (by omega)]; exact c28
  · rw [n3.1 _ 4 (by omega), dof _ 4 (by omega), f2 _ 4 (by omega)]; exact c29
  · rw [n3.1 _ y (by omega), dof _ y (by omega)]; exact f1 y (by omega) c
  · rw [n3.1 m 2 (by omega), all m 2 (by omega) (by omega) (by omega)]; exact g6
/-- what is on shelf 4 is laid on shelf t -/
theorem m_lay84 {t : Nat} : ∀ (f i k : Nat) (I : gJ), i + f = 700 → f < k → t ≠ 4 → ∃ I2, gModel_lay_84 k m I K 4 (t : Int) (i : Int) = (0, I2, K) ∧ (∀ y, i ≤ y → y < 700 → I2 (m + 30) (700 * t + y) = I (m + 30) (2800 + y) ∧ I2 (m + 31) (700 * t + y) = I (m + 31) (2800 + y)) ∧ ∀ r y, ¬ ((r = m + 30 ∨ r = m + 31) ∧ 700 * t + i ≤ y ∧ y < 700 * t + 700) → I2 r y = I r y := by
  intro f
  induction f with
  | zero =>
    intro i k I hi hk ht
    obtain ⟨k, rfl⟩ : ∃ k', k = k' + 1 := ⟨k - 1, by omega⟩
    rw [eModel_lay_84, if_pos (by omega)]
    exact ⟨I, rfl, fun y a c => by omega, fun _ _ _ => rfl⟩
  | succ f ih =>
    intro i k I hi hk ht
    obtain ⟨k, rfl⟩ : ∃ k', k = k' + 1 := ⟨k - 1, by omega⟩
    rw [eModel_lay_84, if_neg (by omega)]
    simp only [gLetp]
    rw [show Int.toNat (700 * (t : Int) + (i : Int)) = 700 * t + i by omega, show Int.toNat (700 * 4 + (i : Int)) = 2800 + i by omega, nat1, q_u_ne (show m + 31 ≠ m + 30 by omega)]
    obtain ⟨I2, e, f1, f2⟩ := ih (i + 1) k (q_u (q_u I (m + 30) (700 * t + i) (I (m + 30) (2800 + i))) (m + 31) (700 * t + i) (I (m + 31) (2800 + i))) (by omega) (by omega) ht
    have ne : ∀ y z : Nat, y < 700 → z < 700 → 2800 + y ≠ 700 * t + z := fun y z a c => by omega
    refine ⟨I2, e, fun y a c => ?_, fun r y q => ?_⟩
    · by_cases ey : y = i
      · subst ey
        rw [f2 _ _ (by omega), f2 _ _ (by omega), q_u_ne (by omega), q_u_at, q_u_at]
        exact ⟨rfl, rfl⟩
      · obtain ⟨p, q⟩ := f1 y (by omega) c
        rw [p, q, q_u_ne (by omega), q_u_k (ne y i c (by omega)), q_u_k (ne y i c (by omega)), q_u_ne (by omega)]
        exact ⟨rfl, rfl⟩
    · rw [f2 r y (by omega), q_u_off (by omega), q_u_off (by omega)]
theorem m_lay26 {t : Nat} : ∀ (f i k : Nat) (I : gJ), i + f = 10 → f < k → t ≠ 4 → ∃ I2, gModel_lay_26 k m I K 4 (t : Int) (i : Int) = gModel_lay_84 20000 m I2 K 4 (t : Int) 0 ∧ (∀ y, i ≤ y → y < 10 → I2 (m + 26) (10 * t + y) = I (m + 26) (40 + y) ∧ I2 (m + 27) (10 * t + y) = I (m + 27) (40 + y)) ∧ ∀ r y, ¬ ((r = m + 26 ∨ r = m + 27) ∧ 10 * t + i ≤ y ∧ y < 10 * t + 10) → I2 r y = I r y := by
  intro f
  induction f with
  | zero =>
    intro i k I hi hk ht
    obtain ⟨k, rfl⟩ : ∃ k', k = k' + 1 := ⟨k - 1, by omega⟩
    rw [eModel_lay_26, if_pos (by omega)]
    exact ⟨I, rfl, fun y a c => by omega, fun _ _ _ => rfl⟩
  | succ f ih =>
    intro i k I hi hk ht
    obtain ⟨k, rfl⟩ : ∃ k', k = k' + 1 := ⟨k - 1, by omega⟩
    rw [eModel_lay_26, if_neg (by omega)]
    simp only [gLetp]
    rw [show Int.toNat (10 * (t : Int) + (i : Int)) = 10 * t + i by omega, show Int.toNat (10 * 4 + (i : Int)) = 40 + i by omega, nat1, q_u_ne (show m + 27 ≠ m + 26 by omega)]
    obtain ⟨I2, e, f1, f2⟩ := ih (i + 1) k (q_u (q_u I (m + 26) (10 * t + i) (I (m + 26) (40 + i))) (m + 27) (10 * t + i) (I (m + 27) (40 + i))) (by omega) (by omega) ht
    have ne : ∀ y z : Nat, y < 10 → z < 10 → 40 + y ≠ 10 * t + z := fun y z a c => by omega
    refine ⟨I2, e, fun y a c => ?_, fun r y q => ?_⟩
    · by_cases ey : y = i
      · subst ey
        rw [f2 _ _ (by omega), f2 _ _ (by omega), q_u_ne (by omega), q_u_at, q_u_at]
        exact ⟨rfl, rfl⟩
      · obtain ⟨p, q⟩ := f1 y (by omega) c
        rw [p, q, q_u_ne (by omega), q_u_k (ne y i c (by omega)), q_u_k (ne y i c (by omega)), q_u_ne (by omega)]
        exact ⟨rfl, rfl⟩
    · rw [f2 r y (by omega), q_u_off (by omega), q_u_off (by omega)]
theorem m_lay {t : Nat} (ht : t ≠ 4) : ∃ I2, gModel_lay_0 m I K 4 (t : Int) = (0, I2, K) ∧ I2 (m + 28) t = I (m + 28) 4 ∧ I2 (m + 29) t = I (m + 29) 4 ∧ (∀ y, y < 10 → I2 (m + 26) (10 * t + y) = I (m + 26) (40 + y) ∧ I2 (m + 27) (10 * t + y) = I (m + 27) (40 + y)) ∧ (∀ y, y < 700 → I2 (m + 30) (700 * t + y) = I (m + 30) (2800 + y) ∧ I2 (m + 31) (700 * t + y) = I (m + 31) (2800 + y)) ∧ ∀ r y, ¬ ((r = m + 26 ∨ r = m + 27) ∧ 10 * t ≤ y ∧ y < 10 * t + 10) → ¬ ((r = m + 28 ∨ r = m + 29) ∧ y = t) → ¬ ((r = m + 30 ∨ r = m + 31) ∧ 700 * t ≤ y ∧ y < 700 * t + 700) → I2 r y = I r y := by
  unfold gModel_lay_0
  rw [gLetp, gLetp, gLetp, gLetp, Int.toNat_natCast, show Int.toNat 4 = 4 from rfl, q_u_ne (show m + 29 ≠ m + 28 by omega)]
  obtain ⟨I2, e2, a1, a2⟩ := m_lay26 (m := m) (K := K) (t := t) 10 0 20000 (q_u (q_u I (m + 28) t (I (m + 28) 4)) (m + 29) t (I (m + 29) 4)) rfl (by decide) ht
  obtain ⟨I3, e3, b1, b2⟩ := m_lay84 (m := m) (K := K) (t := t) 700 0 20000 I2 rfl (by decide) ht
  have e2' : gModel_lay_26 20000 m (q_u (q_u I (m + 28) t (I (m + 28) 4)) (m + 29) t (I (m + 29) 4)) K 4 (t : Int) 0 = _ := e2
  have e3' : gModel_lay_84 20000 m I2 K 4 (t : Int) 0 = _ := e3
  rw [e2', e3']
  refine ⟨I3, rfl, ?_, ?_, fun y hy => ?_, fun y hy => ?_, fun r y p q s => ?_⟩
  · rw [b2 _ _ (by omega), a2 _ _ (by omega), q_u_ne (by omega), q_u_at]
  · rw [b2 _ _ (by omega), a2 _ _ (by omega), q_u_at]
  · obtain ⟨p, q⟩ := a1 y (Nat.zero_le _) hy
    rw [b2 _ _ (by omega), b2 _ _ (by omega), p, q, q_u_ne (by omega), q_u_ne (by omega), q_u_ne (by omega), q_u_ne (by omega)]
    exact ⟨rfl, rfl⟩
  · obtain ⟨p, q⟩ := b1 y (Nat.zero_le _) hy
    rw [p, q, a2 _ _ (by omega), a2 _ _ (by omega), q_u_ne (by omega), q_u_ne (by omega), q_u_ne (by omega), q_u_ne (by omega)]
    exact ⟨rfl, rfl⟩
  · rw [b2 r y (by omega), a2 r y (by omega), q_u_off (by omega), q_u_off (by omega)]
/-- the class clears its REFORM -/
theorem c_rclear (J : gJ) (L : gL) : ∃ J2, gReform_clear_0 o J L = (0, J2, L) ∧ (∀ y, y < 11 → J2 (o + 2) y = 0 ∧ J2 (o + 3) y = 0) ∧ (∀ y, 4 ≤ y → y ≤ 7 → J2 o y = 0) ∧ ∀ r y, ¬ (r = o ∧ 4 ≤ y ∧ y ≤ 7) → r ≠ o + 2 → r ≠ o + 3 → J2 r y = J r y := by
  unfold gReform_clear_0
  rw [gLetp, gLetp, gLetp, gLetp, gLetp, gLetp]
  refine ⟨_, rfl, fun y hy => ⟨?_, ?_⟩, fun y a c => ?_, fun r y p q s => ?_⟩
  · rw [q_u_ne (by omega), q_u_ne (by omega), q_u_ne (by omega), q_u_ne (by omega), gFl_off (by omega), gFl_at hy]
  · rw [q_u_ne (by omega), q_u_ne (by omega), q_u_ne (by omega), q_u_ne (by omega), gFl_at hy]
  · by_cases e7 : y = 7
    · rw [e7, q_u_at]
    · rw [q_u_k e7]
      by_cases e6 : y = 6
      · rw [e6, q_u_at]
      · rw [q_u_k e6]
        by_cases e5 : y = 5
        · rw [e5, q_u_at]
        · rw [q_u_k e5, show y = 4 by omega, q_u_at]
  · rw [q_u_off (by omega), q_u_off (by omega), q_u_off (by omega), q_u_off (by omega), gFl_off s, gFl_off q]
/-- a REFORM, in both -/
theorem s_reform {t : Nat} (hB : BR B) (hT : CT B N x J) (hK : KW x L) (hN : N ≤ 700) (hs : o + 5 ≤ x ∨ x + 7 ≤ o) (h2 : I m 2 = (N : Int)) (hby : ∀ k, k < N → wAnd (I (m + 1) k) 255 = B k) (ht : t < 4) : ∃ r J2 L2 a I2 K2, gReform_read_0 o x J L = (r, J2, L2) ∧ gModel_reform_0 m I K (t : Int) = (a, I2, K2) ∧ RfRes x o m t J2 I I2 r a ∧ KW x L2 := by
  obtain ⟨J0, e0, p1, p2, p3⟩ := c_rclear (o := o) J L
  have q0 : ∀ r y, x ≤ r → r ≤ x + 6 → J0 r y = J r y := fun r y a c => p3 r y (by omega) (by omega) (by omega)
  have hT0 : CT B N x J0 := hT.mv (q0 x 6 (by omega) (by omega)) (by funext y; exact q0 _ y (by omega) (by omega))
  obtain ⟨T, J1, L1, e1, s1, s2, s3, s4, s5⟩ := c_startReading (pl := false) hB hT0 hK
  rw [if_neg (by decide)] at e1
  obtain ⟨I1, K1, f0, f1, f2, f3, f4, f5, f6, f7, f8, f9, f10, f11⟩ := mg_reform (K := K) (I := I) (sh := (t : Int)) hB h2 hN hby (by omega) (by omega)
  have TN := s1.TN
  have ec : gReform_read_0 o x J L = gReform_read_11 20000 o x J1 L1 0 := by
    unfold gReform_read_0
    rw [gB3t e0, gB3t e1]
  have o0 : ∀ r, o ≤ r → r ≤ o + 4 → J1 r = J0 r := fun r a c => s5.1 r (by omega) (by omega) (by omega) (by omega)
  have o1 : ∀ y, 4 ≤ y → y ≤ 7 → J1 o y = 0 := fun y a c => by rw [o0 o (by omega) (by omega)]; exact p2 y a c
  have o3 : ∀ y, y < 11 → J1 (o + 3) y = 0 := fun y a => by rw [o0 (o + 3) (by omega) (by omega)]; exact (p1 y a).2
  have o2 : ∀ y, y < 11 → J1 (o + 2) y = 0 := fun y a => by rw [o0 (o + 2) (by omega) (by omega)]; exact (p1 y a).1
  have rq : RQ B N T x o m J1 L1 I1 K1 0 := by
    refine ⟨⟨⟨s1, Nat.zero_le _, s2, s3, s4⟩, f1⟩, f2, ⟨0, o1 7 (by decide) (by decide), f4, by decide⟩, 0, ⟨o1 4 (by decide) (by decide), by decide, ?_, ?_, ?_, fun y hy => absurd hy (Nat.not_lt_zero _), fun z hz => Or.inl ⟨o3 _ (by unfold sgS; split <;> omega), f7 _ (by omega) (by omega), by rw [o2 _ (by unfold sgS; split <;> omega)]; decide⟩, fun z _ hz => o3 _ (by omega)⟩, Nat.le_refl _, f3⟩
    · rw [o1 6 (by decide) (by decide)]; exact f5.symm
    · rw [o1 6 (by decide) (by decide)]; decide
    · rw [o1 6 (by decide) (by decide)]; decide
  obtain ⟨r, J', I', K', w1, w2, w3, w4⟩ := s_rlines (sh := (t : Int)) (x2 := 10) hB hN hs (T + 1) 0 0 20000 20000 0 J1 I1 K1 (by omega) (by omega) (by omega) rq (o1 5 (by decide) (by decide)) f6 (Nat.le_refl _) (Nat.le_refl _)
  have w1' : gReform_read_11 20000 o x J1 L1 0 = (r, J', L1) := w1
  have kw : KW x L1 := fun k hk => by rw [s5.2.1 _ (by omega)]; exact hK k hk
  have i2 : I' m 2 = 0 := (w3.1 m 2 (by omega) (by omega) (by omega) (by omega) (by omega)).trans f8
  have im : ∀ y, ¬ (2 ≤ y ∧ y ≤ 9) → y ≠ 11 → ¬ (44 ≤ y ∧ y ≤ 49) → I' m y = I m y := fun y a c d => (w3.1 m y (by omega) (by omega) (by omega) (by omega) (by omega)).trans (f10 y a c (by omega))
  have ir : ∀ r y, r ≠ m → r ≠ m + 2 → ¬ ((r = m + 26 ∨ r = m + 27) ∧ 40 ≤ y ∧ y < 50) → ¬ ((r = m + 28 ∨ r = m + 29) ∧ y = 4) → ¬ ((r = m + 30 ∨ r = m + 31) ∧ 2800 ≤ y ∧ y < 3500) → r ≠ m + 32 → r ≠ m + 33 → I' r y = I r y := fun r y a c d e f g h => (w3.1 r y (by omega) (by omega) f d e).trans (f9 r y a c (by omega) e)
  rcases w4 with ⟨r1, wm, a44, ⟨b, hb⟩, ⟨n, n1, n2, n3⟩, a7, a8, a4, a5⟩ | ⟨r0, wm, a7, a4, a5⟩
  · obtain ⟨I3, g1, g2, g3, g4, g5, g6⟩ := m_lay (m := m) (I := I') (K := K') (t := t) (by omega)
    rw [a44, gLetp, gB3t g1, gLetp, Int.toNat_natCast] at wm
    have im3 : ∀ y, I3 m y = I' m y := fun y => g6 m y (by omega) (by omega) (by omega)
    refine ⟨1, J', L1, _, I3, K', by rw [ec, w1', r1], f0.trans wm, ⟨Or.inr rfl, fun q => absurd q (by decide), fun _ => ⟨by rw [g3, n1, n2], ⟨b, ?_⟩, by rw [g3, n1, n2], by rw [n1]; omega, by rw [n1]; omega, fun r y a c d e f g h => (g6 r y (by omega) (by omega) (by omega)).trans (ir r y a c (by omega) (by omega) (by omega) g h)⟩, by rw [im3, a4, a7], by rw [im3, a5, a8], by rw [im3]; exact i2, fun y a c d => (im3 y).trans (im y a c d)⟩, kw⟩
    obtain ⟨b1, b2, b3, b4, b5, b6, b7, b8⟩ := hb
    refine ⟨b1, b2, by rw [g2]; exact b3, b4, b5, fun y hy => ?_, fun z hz => ?_, b8⟩
    · obtain ⟨p, q⟩ := g5 y (by omega)
      rw [p, q]
      exact b6 y hy
    · obtain ⟨p, q⟩ := g4 z hz
      have s := b7 z hz
      unfold SLt at s ⊢
      rw [p, q]
      exact s
  · refine ⟨0, J', L1, _, I', K', by rw [ec, w1', r0], f0.trans wm, ⟨Or.inl rfl, fun _ => ⟨rfl, ir⟩, fun q => absurd q (by decide), a4, a5, i2, im⟩, kw⟩
end RR
