/-! The line road, in both. By hand. -/
section RO
variable {pl : Bool} {B : Nat → Int} {N T o m l b : Nat} {J J2 J3 : gJ} {L L2 L3 : gL} {I I2 I3 : gJ} {K K2 K3 : gL}
/-- the second place of a road -/
theorem Sy.place2 (hB : BR B) (h : Sy pl B N T o m J L I K) {oth cell : Int} (ho : J o 7 = 0 → cell = oth) : ∃ I1 r J2 r' I2 K2, (∀ X : gJ → gL → Int × gJ × gL, (if gModel_isGood_0 m I K = 0 then X I K else if I m 8 = 5 then (if I m 9 = cell then X (gModel_fails_0 m I K 4 (I m 6)).2.1 (gModel_fails_0 m I K 4 (I m 6)).2.2 else X I K) else X I K) = X I1 K) ∧ gTape_takePlaceUnlike_0 o J L oth = (r, J2, L) ∧ gModel_point_0 m I1 K = (r', I2, K2) ∧ Sy pl B N T o m J2 L I2 K2 ∧ CFr o J J2 ∧ MFr m I I2 K K2 ∧ (J2 o 7 = 0 → r' = r ∧ 0 ≤ r ∧ r ≤ 15 ∧ r ≠ oth) := by
  rcases h with ⟨j, h⟩ | h
  · have t := h.2.2.2.2.2
    have tc := h.1.tok
    by_cases c : tkK pl B N (tkS pl B N j) = 3
    · have c8 : I m 8 = 5 := t.c5.mpr c
      have c9 := t.pt c
      by_cases c2 : ptV B N (tkS pl B N j + 1) = oth
      · -- the same place once more
        have hf := h.fail (f := 4) (by decide)
        have c5 : tkK pl B N (tkS pl B N j) ≠ 5 := by rw [c]; decide
        refine ⟨q_u (q_u I m 4 4) m 5 ((tkS pl B N j : Nat) : Int), -1, q_u (q_u J o 7 4) o 8 ((tkS pl B N j : Nat) : Int), 0, q_u (q_u I m 4 4) m 5 ((tkS pl B N j : Nat) : Int), K, fun X => ?_, ?_, ?_, Or.inr hf, cfr78 h.1.2.2.2.1, mfr45, fun q => absurd q hf.2.2.2.1⟩
        · rw [h.2.isGood, if_neg (show ¬ (1 : Int) = 0 by decide), if_pos c8, c9, if_pos (by rw [c2, ho h.1.2.2.2.1]), t.1, m_fails h.2.2.2.1]
        · unfold gTape_takePlaceUnlike_0
          simp only [gLetp, gB3p]
          rw [h.1.2.2.2.1, if_pos (by decide), h.1.2.2.1, Int.toNat_natCast, tc.1, if_pos c, tc.2.2.2.2.1 c, if_pos c2, h.1.refuse, if_neg c5]
        · have h4 : q_u (q_u I m 4 4) m 5 ((tkS pl B N j : Nat) : Int) m 4 ≠ 0 := by rw [q_u_k (by decide), q_u_at]; decide
          unfold gModel_point_0 gModel_point_19
          simp only [gLetp, gB3p, mb_must h4, mb_isGood h4]
          split <;> rfl
      · -- another one
        have c0 : tkK pl B N (tkS pl B N j) ≠ 0 := by rw [c]; decide
        have c5 : tkK pl B N (tkS pl B N j) ≠ 5 := by rw [c]; decide
        have hs : Sy pl B N T o m J L I K := Or.inl ⟨j, h⟩
        obtain ⟨r, J2, r', I2, K2, e1, e2, e3, e4, e5, e6⟩ := hs.place hB (-1) rfl
        refine ⟨I, r, J2, r', I2, K2, fun X => ?_, ?_, e2, e3, e4, e5, fun q => ?_⟩
        · rw [h.2.isGood, if_neg (show ¬ (1 : Int) = 0 by decide), if_pos c8, c9, if_neg (fun q => c2 (q.trans (ho h.1.2.2.2.1)))]
        · have pv := ptV_rg (B := B) (N := N) (d := tkS pl B N j + 1) (kPt c)
          rw [← e1]
          unfold gTape_takePlaceUnlike_0
          simp only [gLetp, gB3p]
          rw [h.1.2.2.2.1, if_pos (show (0 : Int) = 0 by decide), if_pos (show (0 : Int) = 0 by decide), h.1.2.2.1, Int.toNat_natCast, tc.1, if_pos c, if_pos c, tc.2.2.2.2.1 c, if_neg c2, if_neg (by omega)]
        · obtain ⟨q1, q2, q3⟩ := e6 q
          refine ⟨q1, q2, q3, fun z => c2 ?_⟩
          have pv := ptV_rg (B := B) (N := N) (d := tkS pl B N j + 1) (kPt c)
          have w : r = ptV B N (tkS pl B N j + 1) := by
            unfold gTape_takePlaceUnlike_0 at e1
            simp only [gLetp, gB3p] at e1
            rw [h.1.2.2.2.1, if_pos (by decide), h.1.2.2.1, Int.toNat_natCast, tc.1, if_pos c, tc.2.2.2.2.1 c, if_neg (by omega)] at e1
            exact (congrArg Prod.fst e1).symm
          rw [← w]; exact z
    · have hs : Sy pl B N T o m J L I K := Or.inl ⟨j, h⟩
      obtain ⟨r, J2, r', I2, K2, e1, e2, e3, e4, e5, e6⟩ := hs.place hB (-1) rfl
      have c8 : ¬ I m 8 = 5 := fun q => c (t.c5.mp q)
      have e0 : gTape_takePlaceUnlike_0 o J L oth = gTape_takePlaceUnlike_0 o J L (-1) := by
        unfold gTape_takePlaceUnlike_0 gTape_takePlaceUnlike_30
        simp only [gLetp, gB3p]
        rw [h.1.2.2.2.1, if_pos (show (0 : Int) = 0 by decide), if_pos (show (0 : Int) = 0 by decide), h.1.2.2.1, Int.toNat_natCast, tc.1, if_neg c, if_neg c]
      have hr : ¬ J2 o 7 = 0 := by
        have e1' := e1
        unfold gTape_takePlaceUnlike_0 gTape_takePlaceUnlike_30 at e1'
        simp only [gLetp, gB3p] at e1'
        rw [h.1.2.2.2.1, if_pos (by decide), h.1.2.2.1, Int.toNat_natCast, tc.1, if_neg c, h.1.refuse] at e1'
        have w := congrArg (fun z => z.2.1 o 7) e1'
        dsimp only at w
        rw [q_u_k (by decide), q_u_at] at w
        rw [← w]
        split <;> decide
      refine ⟨I, r, J2, r', I2, K2, fun X => ?_, by rw [e0]; exact e1, e2, e3, e4, e5, fun q => absurd q hr⟩
      rw [h.2.isGood, if_neg (show ¬ (1 : Int) = 0 by decide), if_neg c8]
  · have h4 : I m 4 ≠ 0 := by rw [h.2.2.2.2.1]; exact h.2.2.2.1
    have hs : Sy pl B N T o m J L I K := Or.inr h
    obtain ⟨r, J2, r', I2, K2, e1, e2, e3, e4, e5, e6⟩ := hs.place hB (-1) rfl
    have e0 : gTape_takePlaceUnlike_0 o J L oth = gTape_takePlaceUnlike_0 o J L (-1) := by
      unfold gTape_takePlaceUnlike_0 gTape_takePlaceUnlike_30
      simp only [gLetp, gB3p]
      rw [if_neg h.2.2.2.1, if_neg h.2.2.2.1]
    refine ⟨I, r, J2, r', I2, K2, fun X => ?_, by rw [e0]; exact e1, e2, e3, e4, e5, fun q => absurd (e4.2.1 q) h.2.2.2.1⟩
    rw [mb_isGood h4, if_pos (show (0 : Int) = 0 by decide)]
theorem c_daysB {x y : Nat} (hx : x < 16) (hy : y < 16) : gLand_daysBetween_0 l J L (x : Int) (y : Int) = J (l + 2) (16 * x + y) := by
  unfold gLand_daysBetween_0
  simp only [gLetp]
  have e : Int.toNat ((x : Int) * 16 + (y : Int)) = 16 * x + y := by omega
  rw [if_neg (by omega), if_neg (by omega), if_neg (by omega), if_pos (by omega), e]
/-- a way made shorter, in the class -/
theorem c_shorten {x y : Nat} (hx : x < 16) (hy : y < 16) (d : Int) : gLand_shorten_0 l J L x y d = (0, (if J (l + 2) (16 * x + y) = -1 ∨ d < J (l + 2) (16 * x + y) then q_u J (l + 2) (16 * x + y) d else J), L) := by
  unfold gLand_shorten_0 gLand_shorten_20
  simp only [gLetp]
  have e : Int.toNat ((x : Int) * 16 + (y : Int)) = 16 * x + y := by omega
  rw [c_daysB hx hy, e]
  by_cases c1 : J (l + 2) (16 * x + y) = -1
  · rw [if_pos c1, if_pos (Or.inl c1)]
  · rw [if_neg c1]
    by_cases c2 : J (l + 2) (16 * x + y) ≤ d
    · rw [if_pos c2, if_neg (by rintro (q | q); exact c1 q; omega)]
    · rw [if_neg c2, if_pos (Or.inr (by omega))]
/-- its matrix -/
theorem shM_row {M : Nat → Nat → Int} {x y : Nat} (hx : x < 16) (hy : y < 16) {d : Int} (h : ∀ a c, a < 16 → c < 16 → J (l + 2) (16 * a + c) = M a c) : ∀ a c, a < 16 → c < 16 → (if J (l + 2) (16 * x + y) = -1 ∨ d < J (l + 2) (16 * x + y) then q_u J (l + 2) (16 * x + y) d else J) (l + 2) (16 * a + c) = shM M x y d a c := by
  intro a c ha hc
  have e := h x y hx hy
  unfold shM
  by_cases q : M x y = -1 ∨ d < M x y
  · rw [if_pos (by rw [e]; exact q)]
    by_cases w : a = x ∧ c = y
    · rw [w.1, w.2, q_u_at, if_pos ⟨rfl, rfl, q⟩]
    · rw [q_u_k (by omega), h a c ha hc, if_neg (fun z => w ⟨z.1, z.2.1⟩)]
  · rw [if_neg (by rw [e]; exact q), h a c ha hc, if_neg (fun z => q z.2.2)]
theorem sh_fr {x : Nat} {d : Int} (r y : Nat) (h : r ≠ l + 2) : (if J (l + 2) x = -1 ∨ d < J (l + 2) x then q_u J (l + 2) x d else J) r y = J r y := by
  split
  · rw [q_u_ne h]
  · rfl
theorem s_road {j nr nf np nt : Nat} (hB : BR B) (h : Sg pl B N T o m J L I K j) (hk : tkK pl B N (tkS pl B N j) = 1) (hsep : l + 16 ≤ o ∨ o + 7 ≤ l) (hR : LR l m b J L I K nr nf np nt) (hq : nr < 24) : ∃ r J2 L2 I2 K2, gLand_readRoad_0 l o J L = (r, J2, L2) ∧ gB3 (gModel_next_0 m I K) (fun _ I1 K1 => gB3 (gModel_readRoad_0 m I1 K1) (fun _ I2 K2 => gLet (gModel_is_0 m I2 K2 59) (fun r8 => gB3 (gModel_must_0 m I2 K2 r8) (fun _ I3 K3 => ((0 : Int), I3, K3))))) = (0, I2, K2) ∧ Sy pl B N T o m J2 L2 I2 K2 ∧ LnFr o l J J2 L L2 ∧ LmFr m b I I2 K K2 ∧ (J2 o 7 = 0 → r = 1 ∧ J o 10 + 2 ≤ J2 o 10 ∧ LR l m b J2 L2 I2 K2 (nr + 1) nf np nt) ∧ (J2 o 7 ≠ 0 → r = 0) := by
  obtain ⟨⟨⟨c0, c1, c2, c3, c4⟩, ⟨d0, d1, d2, d3, d4⟩, b0, b1, b2, b3, b4⟩, rF, rP, rZ, rT, ⟨rA, rM⟩, rN⟩ := hR
  have k0 : tkK pl B N (tkS pl B N j) ≠ 0 := by rw [hk]; decide
  have k5 : tkK pl B N (tkS pl B N j) ≠ 5 := by rw [hk]; decide
  obtain ⟨s1, s2⟩ := h.1.step k0 k5
  obtain ⟨I1, K1, n1, n2, n3⟩ := h.2.next hB (tkS_le pl B N j) k0 k5
  have y1 : Sy pl B N T o m (q_u J o 10 ((j + 1 : Nat) : Int)) L I1 K1 := Or.inl ⟨j + 1, s2, n2⟩
  have N1 : J o 10 + 1 ≤ q_u J o 10 ((j + 1 : Nat) : Int) o 10 := by rw [q_u_at, h.1.2.2.1]; omega
  have F1 : ∀ r y, ¬ (r = o ∧ (y = 7 ∨ y = 8 ∨ y = 10)) → q_u J o 10 ((j + 1 : Nat) : Int) r y = J r y := fun r y q => q_u_off (by omega)
  generalize q_u J o 10 ((j + 1 : Nat) : Int) = J1 at s1 y1 N1 F1
  have G1 : ∀ r y, ¬ (r = m ∧ (y = 4 ∨ y = 5 ∨ y = 6 ∨ y = 7 ∨ y = 8 ∨ y = 9)) → I1 r y = I r y := fun r y q => n3.1 r y (by omega)
  have H1 : ∀ r y, ¬ (r = m ∧ y = 10) → K1 r y = K r y := n3.2
  obtain ⟨r1, J2, r1m, I2, K2, p1, p2, p3, p4, p5, p6⟩ := y1.place hB (-1) rfl
  have y3 : Sy pl B N T o m J2 L (q_u I2 (m + 10) (24 * b + nr) r1m) K2 := p3.mv (fun _ => rfl) (fun _ _ _ => rfl) (fun _ _ _ => rfl) (fun _ => by rw [q_u_ne (by omega)]) (q_u_ne (by omega)) rfl
  have G3 : ∀ r y, ¬ (r = m ∧ (y = 4 ∨ y = 5 ∨ y = 6 ∨ y = 7 ∨ y = 8 ∨ y = 9)) → ¬ ((r = m + 6 ∧ y = b) ∨ (r = m + 10 ∧ y = 24 * b + nr) ∨ (r = m + 11 ∧ y = 24 * b + nr) ∨ (r = m + 12 ∧ y = 24 * b + nr)) → q_u I2 (m + 10) (24 * b + nr) r1m r y = I r y := fun r y p q => by rw [q_u_off (by omega), p5.1 r y p]; exact G1 r y p
  have x3 : q_u I2 (m + 10) (24 * b + nr) r1m (m + 10) (24 * b + nr) = r1m := q_u_at
  have f3 : q_u I2 (m + 10) (24 * b + nr) r1m (m + 6) b = (nr : Int) := by rw [q_u_ne (by omega), p5.1 _ _ (by omega), G1 _ _ (by omega)]; exact d1
  generalize eI3 : q_u I2 (m + 10) (24 * b + nr) r1m = I3 at y3 G3 x3 f3
  obtain ⟨I4, r2, J3, r2m, I5, K5, q0, q1, q2, q3, q4, q5, q6⟩ := y3.place2 hB (oth := r1) (cell := I3 (m + 10) (24 * b + nr)) (fun z => by rw [x3]; exact (p6 z).1)
  have y6 : Sy pl B N T o m J3 L (q_u I5 (m + 11) (24 * b + nr) r2m) K5 := q3.mv (fun _ => rfl) (fun _ _ _ => rfl) (fun _ _ _ => rfl) (fun _ => by rw [q_u_ne (by omega)]) (q_u_ne (by omega)) rfl
  have G6 : ∀ r y, ¬ (r = m ∧ (y = 4 ∨ y = 5 ∨ y = 6 ∨ y = 7 ∨ y = 8 ∨ y = 9)) → ¬ ((r = m + 6 ∧ y = b) ∨ (r = m + 10 ∧ y = 24 * b + nr) ∨ (r = m + 11 ∧ y = 24 * b + nr) ∨ (r = m + 12 ∧ y = 24 * b + nr)) → q_u I5 (m + 11) (24 * b + nr) r2m r y = I r y := fun r y p q => by rw [q_u_off (by omega), q5.1 r y p]; exact G3 r y p q
  have x6 : q_u I5 (m + 11) (24 * b + nr) r2m (m + 10) (24 * b + nr) = r1m := by rw [q_u_ne (by omega), q5.1 _ _ (by omega)]; exact x3
  have x6b : q_u I5 (m + 11) (24 * b + nr) r2m (m + 11) (24 * b + nr) = r2m := q_u_at
  have f6 : q_u I5 (m + 11) (24 * b + nr) r2m (m + 6) b = (nr : Int) := by rw [q_u_ne (by omega), q5.1 _ _ (by omega)]; exact f3
  generalize eI6 : q_u I5 (m + 11) (24 * b + nr) r2m = I6 at y6 G6 x6 x6b f6
  obtain ⟨r3, J4, r3m, I7, K7, u1, u2, u3, u4, u5, u6, u7⟩ := y6.num hB 1 90
  have y8 : Sy pl B N T o m J4 L (q_u I7 (m + 12) (24 * b + nr) r3m) K7 := u3.mv (fun _ => rfl) (fun _ _ _ => rfl) (fun _ _ _ => rfl) (fun _ => by rw [q_u_ne (by omega)]) (q_u_ne (by omega)) rfl
  have G8 : ∀ r y, ¬ (r = m ∧ (y = 4 ∨ y = 5 ∨ y = 6 ∨ y = 7 ∨ y = 8 ∨ y = 9)) → ¬ ((r = m + 6 ∧ y = b) ∨ (r = m + 10 ∧ y = 24 * b + nr) ∨ (r = m + 11 ∧ y = 24 * b + nr) ∨ (r = m + 12 ∧ y = 24 * b + nr)) → q_u I7 (m + 12) (24 * b + nr) r3m r y = I r y := fun r y p q => by rw [q_u_off (by omega), u5.1 r y p]; exact G6 r y p q
  have x8 : q_u I7 (m + 12) (24 * b + nr) r3m (m + 10) (24 * b + nr) = r1m := by rw [q_u_ne (by omega), u5.1 _ _ (by omega)]; exact x6
  have x8b : q_u I7 (m + 12) (24 * b + nr) r3m (m + 11) (24 * b + nr) = r2m := by rw [q_u_ne (by omega), u5.1 _ _ (by omega)]; exact x6b
  have x8c : q_u I7 (m + 12) (24 * b + nr) r3m (m + 12) (24 * b + nr) = r3m := q_u_at
  have f8 : q_u I7 (m + 12) (24 * b + nr) r3m (m + 6) b = (nr : Int) := by rw [q_u_ne (by omega), u5.1 _ _ (by omega)]; exact f6
  have g8 : q_u I7 (m + 12) (24 * b + nr) r3m m 35 = (b : Int) := (G8 m 35 (by omega) (by omega)).trans d0
  generalize eI8 : q_u I7 (m + 12) (24 * b + nr) r3m = I8 at y8 G8 x8 x8b x8c f8 g8
  have F4 : ∀ r y, ¬ (r = o ∧ (y = 7 ∨ y = 8 ∨ y = 10)) → J4 r y = J r y := fun r y p => by rw [u4.1 r y p, q4.1 r y p, p4.1 r y p]; exact F1 r y p
  have H7 : ∀ r y, ¬ (r = m ∧ y = 10) → K7 r y = K r y := fun r y p => by rw [u5.2 r y p, q5.2 r y p, p5.2 r y p]; exact H1 r y p
  have em0 : gModel_readRoad_0 m I1 K1 = (if gModel_isGood_0 m I8 K7 = 0 then (0, I8, K7) else (0, q_u I8 (m + 6) b ((nr + 1 : Nat) : Int), K7)) := by
    unfold gModel_readRoad_0
    simp only [gLetp, gB3p]
    rw [show I1 m 35 = (b : Int) from (G1 m 35 (by omega)).trans d0, Int.toNat_natCast, show I1 (m + 6) b = (nr : Int) from (G1 _ _ (by omega)).trans d1, show Int.toNat (24 * (b : Int) + (nr : Int)) = 24 * b + nr by omega, p2]
    dsimp only
    rw [eI3]
    have q0' := q0 (fun I K => gModel_readRoad_65 m I K (24 * (b : Int) + (nr : Int)))
    try dsimp only at q0'
    rw [q0']
    unfold gModel_readRoad_65
    simp only [gLetp, gB3p, q2, show Int.toNat (24 * (b : Int) + (nr : Int)) = 24 * b + nr by omega, eI6, u2, eI8, g8, Int.toNat_natCast, f8, nat1]
  by_cases cg : J4 o 7 = 0
  · have cm : gModel_isGood_0 m I8 K7 = 1 := by
      obtain ⟨jj, sg⟩ := y8.gd cg
      exact sg.2.isGood
    have em : gModel_readRoad_0 m I1 K1 = (0, q_u I8 (m + 6) b ((nr + 1 : Nat) : Int), K7) := by rw [em0, cm, if_neg (show ¬ (1 : Int) = 0 by decide)]
    have z1 : Sy pl B N T o m J4 L (q_u I8 (m + 6) b ((nr + 1 : Nat) : Int)) K7 := y8.mv (fun _ => rfl) (fun _ _ _ => rfl) (fun _ _ _ => rfl) (fun _ => by rw [q_u_ne (by omega)]) (q_u_ne (by omega)) rfl
    obtain ⟨J9, I9, K9, w1, w2, w3, w4, w5, w6⟩ := z1.close hB
    by_cases cz : J9 o 7 = 0
    · have gd3 : J3 o 7 = 0 := u4.2.1 cg
      have gd2 : J2 o 7 = 0 := q4.2.1 gd3
      obtain ⟨e1, e1l, e1h⟩ := p6 gd2
      obtain ⟨e2, e2l, e2h, e2n⟩ := q6 gd3
      obtain ⟨e3, e3l, e3h⟩ := u6 cg
      obtain ⟨xa, rfl⟩ : ∃ x : Nat, r1 = (x : Int) := ⟨r1.toNat, by omega⟩
      obtain ⟨xb, rfl⟩ : ∃ x : Nat, r2 = (x : Int) := ⟨r2.toNat, by omega⟩
      have F9 : ∀ r y, ¬ (r = o ∧ (y = 7 ∨ y = 8 ∨ y = 10)) → J9 r y = J r y := fun r y p => by rw [w4.1 r y p]; exact F4 r y p
      have mm := shM_row (l := l) (J := J9) (x := xa) (y := xb) (by omega) (by omega) (d := r3) (M := rdM (I (m + 10)) (I (m + 11)) (I (m + 12)) b nr) (fun a c ha hc => by rw [F9 _ _ (by omega)]; exact rM a c ha hc)
      have E9 : ∀ r y, r ≠ l + 2 → (if J9 (l + 2) (16 * xa + xb) = -1 ∨ r3 < J9 (l + 2) (16 * xa + xb) then q_u J9 (l + 2) (16 * xa + xb) r3 else J9) r y = J9 r y := fun r y q => sh_fr r y q
      have s9 := c_shorten (l := l) (J := J9) (L := L) (x := xa) (y := xb) (by omega) (by omega) r3
      generalize (if J9 (l + 2) (16 * xa + xb) = -1 ∨ r3 < J9 (l + 2) (16 * xa + xb) then q_u J9 (l + 2) (16 * xa + xb) r3 else J9) = JA at mm E9 s9
      have mm2 := shM_row (l := l) (J := JA) (x := xb) (y := xa) (by omega) (by omega) (d := r3) mm
      have EA : ∀ r y, r ≠ l + 2 → (if JA (l + 2) (16 * xb + xa) = -1 ∨ r3 < JA (l + 2) (16 * xb + xa) then q_u JA (l + 2) (16 * xb + xa) r3 else JA) r y = J9 r y := fun r y q => (sh_fr r y q).trans (E9 r y q)
      have sA := c_shorten (l := l) (J := JA) (L := L) (x := xb) (y := xa) (by omega) (by omega) r3
      generalize (if JA (l + 2) (16 * xb + xa) = -1 ∨ r3 < JA (l + 2) (16 * xb + xa) then q_u JA (l + 2) (16 * xb + xa) r3 else JA) = JB at mm2 EA sA
      refine ⟨1, q_u JB l 0 ((nr + 1 : Nat) : Int), L, I9, K9, ?_, ?_, ?_, ?_, ?_, fun _ => ⟨rfl, ?_, ?_⟩, fun z => ?_⟩
      · unfold gLand_readRoad_0
        have fB : JB l 0 = (nr : Int) := by rw [EA _ _ (by omega), F9 _ _ (by omega)]; exact c0
        simp only [gLetp, gB3p, s1, p1, q1, u1, w1]
        rw [if_pos cz, if_neg (by decide), s9, sA]
        dsimp only
        rw [fB, nat1]
      · simp only [gLetp, gB3p, n1, em, w2]
      · exact w3.mv (fun _ => by rw [q_u_ne (by omega), EA _ _ (by omega)]) (fun r q1 q2 => by funext y; rw [q_u_ne (by omega), EA _ _ (by omega)]) (fun _ _ _ => rfl) (fun _ => rfl) rfl rfl
      · exact ⟨fun r y p q => by rw [q_u_ne (by omega), EA _ _ (by omega)]; exact F9 r y p, fun r hr => rfl⟩
      · exact ⟨fun r y p q => by rw [w5.1 r y p, q_u_off (by omega)]; exact G8 r y p (by omega), fun r q1 q2 q3 q4 => by funext y; rw [w5.2 r y (by omega)]; exact H7 r y (by omega)⟩
      · have n2 := p4.2.2
        have n3 := q4.2.2
        have n4 := u4.2.2
        have n9 := w6 cz
        rw [q_u_ne (by omega), EA _ _ (by omega)]
        omega
      · have hJ : ∀ r y, ¬ (r = o ∧ (y = 7 ∨ y = 8 ∨ y = 10)) → r ≠ l + 2 → ¬ (r = l ∧ y = 0) → q_u JB l 0 ((nr + 1 : Nat) : Int) r y = J r y := fun r y p z1 z2 => by rw [q_u_off z2, EA _ _ z1]; exact F9 r y p
        have hI : ∀ r y, ¬ (r = m ∧ (y = 4 ∨ y = 5 ∨ y = 6 ∨ y = 7 ∨ y = 8 ∨ y = 9)) → ¬ ((r = m + 6 ∧ y = b) ∨ (r = m + 10 ∧ y = 24 * b + nr) ∨ (r = m + 11 ∧ y = 24 * b + nr) ∨ (r = m + 12 ∧ y = 24 * b + nr)) → I9 r y = I r y := fun r y p z => by rw [w5.1 r y p, q_u_off (by omega)]; exact G8 r y p z
        have hK : ∀ r y, ¬ (r = m ∧ y = 10) → K9 r y = K r y := fun r y p => by rw [w5.2 r y p]; exact H7 r y p
        have hJr : ∀ r, r ≠ o → r ≠ l → r ≠ l + 2 → q_u JB l 0 ((nr + 1 : Nat) : Int) r = J r := fun r z0 z1 z2 => by funext y; exact hJ r y (by omega) z2 (by omega)
        have hIr : ∀ r, r ≠ m → r ≠ m + 6 → r ≠ m + 10 → r ≠ m + 11 → r ≠ m + 12 → I9 r = I r := fun r z0 z1 z2 z3 z4 => by funext y; exact hI r y (by omega) (by omega)
        have vA : I9 (m + 10) (24 * b + nr) = (xa : Int) := by rw [w5.1 _ _ (by omega), q_u_ne (by omega), x8]; exact e1
        have vB : I9 (m + 11) (24 * b + nr) = (xb : Int) := by rw [w5.1 _ _ (by omega), q_u_ne (by omega), x8b]; exact e2
        have vD : I9 (m + 12) (24 * b + nr) = r3 := by rw [w5.1 _ _ (by omega), q_u_ne (by omega), x8c]; exact e3
        refine ⟨⟨⟨q_u_at, (hJ l 1 (by omega) (by omega) (by omega)).trans c1, (hJ l 2 (by omega) (by omega) (by omega)).trans c2, (hJ l 3 (by omega) (by omega) (by omega)).trans c3, (hJ l 4 (by omega) (by omega) (by omega)).trans c4⟩, ⟨(hI m 35 (by omega) (by omega)).trans d0, by rw [w5.1 _ _ (by omega), q_u_at], (hI _ _ (by omega) (by omega)).trans d2, (hI _ _ (by omega) (by omega)).trans d3, (hI _ _ (by omega) (by omega)).trans d4⟩, by omega, b1, b2, b3, b4⟩, fun f hf => ?_, fun p hp => ?_, fun p d z1 z2 z3 => ?_, fun t ht => ?_, ⟨fun k hk => ?_, fun x y hx hy => ?_⟩, ?_⟩
        · unfold LFt
          rw [hJr (l + 3) (by omega) (by omega) (by omega), hJr (l + 4) (by omega) (by omega) (by omega), hJr (l + 5) (by omega) (by omega) (by omega), hIr (m + 13) (by omega) (by omega) (by omega) (by omega) (by omega), hIr (m + 14) (by omega) (by omega) (by omega) (by omega) (by omega), hIr (m + 15) (by omega) (by omega) (by omega) (by omega) (by omega)]
          exact rF f hf
        · unfold LPn
          rw [hJr (l + 6) (by omega) (by omega) (by omega), hJr (l + 7) (by omega) (by omega) (by omega), hJr (l + 8) (by omega) (by omega) (by omega), hJr (l + 9) (by omega) (by omega) (by omega), hIr (m + 16) (by omega) (by omega) (by omega) (by omega) (by omega), hIr (m + 17) (by omega) (by omega) (by omega) (by omega) (by omega), hIr (m + 18) (by omega) (by omega) (by omega) (by omega) (by omega)]
          exact rP p hp
        · rw [hJr (l + 8) (by omega) (by omega) (by omega)]
          exact rZ p d z1 z2 z3
        · unfold LTn
          rw [hJr (l + 10) (by omega) (by omega) (by omega), hJr (l + 11) (by omega) (by omega) (by omega), hJr (l + 12) (by omega) (by omega) (by omega), hJr (l + 13) (by omega) (by omega) (by omega), hJr (l + 14) (by omega) (by omega) (by omega), hJr (l + 15) (by omega) (by omega) (by omega), hIr (m + 19) (by omega) (by omega) (by omega) (by omega) (by omega), hIr (m + 20) (by omega) (by omega) (by omega) (by omega) (by omega), hIr (m + 21) (by omega) (by omega) (by omega) (by omega) (by omega), hIr (m + 22) (by omega) (by omega) (by omega) (by omega) (by omega), hIr (m + 23) (by omega) (by omega) (by omega) (by omega) (by omega), hIr (m + 24) (by omega) (by omega) (by omega) (by omega) (by omega)]
          exact rT t ht
        · by_cases z : k = nr
          · rw [z, vA, vB, vD]
            exact ⟨e1l, e1h, e2l, e2h, fun w => e2n w.symm, e3l, e3h⟩
          · have zz := rA k (by omega)
            rw [hI (m + 10) (24 * b + k) (by omega) (by omega), hI (m + 11) (24 * b + k) (by omega) (by omega), hI (m + 12) (24 * b + k) (by omega) (by omega)]
            exact zz
        · rw [q_u_ne (by omega), mm2 x y hx hy]
          show _ = shM (shM (rdM (I9 (m + 10)) (I9 (m + 11)) (I9 (m + 12)) b nr) (I9 (m + 10) (24 * b + nr)).toNat (I9 (m + 11) (24 * b + nr)).toNat (I9 (m + 12) (24 * b + nr))) (I9 (m + 11) (24 * b + nr)).toNat (I9 (m + 10) (24 * b + nr)).toNat (I9 (m + 12) (24 * b + nr)) x y
          rw [vA, vB, vD, Int.toNat_natCast, Int.toNat_natCast, rdM_congr (RA := I (m + 10)) (RB := I (m + 11)) (RD := I (m + 12)) nr (fun k hk => ⟨hI _ _ (by omega) (by omega), hI _ _ (by omega) (by omega), hI _ _ (by omega) (by omega)⟩)]
        · intro w hw
          have e := rN w hw
          unfold mTold at e ⊢
          have k3 : K9 (m + 3) = K (m + 3) := by funext y; exact hK (m + 3) y (by omega)
          have k4 : K9 (m + 4) = K (m + 4) := by funext y; exact hK (m + 4) y (by omega)
          have k5 : K9 (m + 5) = K (m + 5) := by funext y; exact hK (m + 5) y (by omega)
          rw [e, k3, k4, k5]
      · exact absurd (by rw [q_u_ne (by omega), EA _ _ (by omega)]; exact cz) z
    · refine ⟨0, J9, L, I9, K9, ?_, ?_, w3, ?_, ?_, fun z => absurd z cz, fun _ => rfl⟩
      · unfold gLand_readRoad_0
        simp only [gLetp, gB3p, s1, p1, q1, u1, w1]
        rw [if_neg cz, if_pos (by decide)]
      · simp only [gLetp, gB3p, n1, em, w2]
      · exact ⟨fun r y p q => by rw [w4.1 r y p]; exact F4 r y p, fun r hr => rfl⟩
      · exact ⟨fun r y p q => by rw [w5.1 r y p, q_u_off (by omega)]; exact G8 r y p (by omega), fun r q1 q2 q3 q4 => by funext y; rw [w5.2 r y (by omega)]; exact H7 r y (by omega)⟩
  · have cm : gModel_isGood_0 m I8 K7 = 0 := mb_isGood (fun z => cg (y8.good.mpr z))
    have em : gModel_readRoad_0 m I1 K1 = (0, I8, K7) := by rw [em0, cm, if_pos (show (0 : Int) = 0 by decide)]
    obtain ⟨J9, I9, K9, w1, w2, w3, w4, w5, w6⟩ := y8.close hB
    have cz : J9 o 7 ≠ 0 := fun z => cg (w4.2.1 z)
    refine ⟨0, J9, L, I9, K9, ?_, ?_, w3, ?_, ?_, fun z => absurd z cz, fun _ => rfl⟩
    · unfold gLand_readRoad_0
      simp only [gLetp, gB3p, s1, p1, q1, u1, w1]
      rw [if_neg cz, if_pos (by decide)]
    · simp only [gLetp, gB3p, n1, em, w2]
    · exact ⟨fun r y p q => by rw [w4.1 r y p]; exact F4 r y p, fun r hr => rfl⟩
    · exact ⟨fun r y p q => by rw [w5.1 r y p]; exact G8 r y p (by omega), fun r q1 q2 q3 q4 => by funext y; rw [w5.2 r y (by omega)]; exact H7 r y (by omega)⟩
end RO
