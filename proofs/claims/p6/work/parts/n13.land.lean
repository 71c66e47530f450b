/-! A line of a LAND, and all of them, in both. By hand. -/
section LD
variable {pl : Bool} {B : Nat → Int} {N T o m l b : Nat} {J J2 J3 : gJ} {L L2 L3 : gL} {I I2 I3 : gJ} {K K2 K3 : gL}
/-- what both have read, of any counts -/
def LRx (l m b : Nat) (J : gJ) (L : gL) (I : gJ) (K : gL) : Prop := ∃ nr nf np nt, LR l m b J L I K nr nf np nt
theorem s_line {j nr nf np nt : Nat} (hB : BR B) (h : Sg pl B N T o m J L I K j) (hsep : l + 16 ≤ o ∨ o + 7 ≤ l) (hR : LR l m b J L I K nr nf np nt) : ∃ r J2 L2 I2 K2, gLand_readLine_0 l o J L = (r, J2, L2) ∧ gModel_readLine_0 m I K = (0, I2, K2) ∧ Sy pl B N T o m J2 L2 I2 K2 ∧ LnFr o l J J2 L L2 ∧ LmFr m b I I2 K K2 ∧ (J2 o 7 = 0 → r = 1 ∧ J o 10 + 2 ≤ J2 o 10 ∧ LRx l m b J2 L2 I2 K2) ∧ (J2 o 7 ≠ 0 → r = 0) := by
  have hL := hR
  obtain ⟨⟨⟨c0, c1, c2, c3, c4⟩, ⟨d0, d1, d2, d3, d4⟩, b0, b1, b2, b3, b4⟩, _⟩ := hL
  have w0 := h.1.isWord 0
  have w1 := h.1.isWord 1
  have w5 := h.1.isWord 5
  have w8 := h.1.isWord 8
  have v0 := h.2.isWord (k := 0) (by decide)
  have v1 := h.2.isWord (k := 1) (by decide)
  have v5 := h.2.isWord (k := 5) (by decide)
  have v8 := h.2.isWord (k := 8) (by decide)
  rw [show kwV.getD 0 0 = 1919902052 from rfl] at v0
  rw [show kwV.getD 1 0 = 1718579828 from rfl] at v1
  rw [show kwV.getD 5 0 = 7364974 from rfl] at v5
  rw [show kwV.getD 8 0 = 1953462126 from rfl] at v8
  -- neither takes the line
  have bad : gLand_readLine_0 l o J L = (0, (gTape_refuse_0 o J L 2).2.1, (gTape_refuse_0 o J L 2).2.2) → (∀ r1 r2 r3 : Int, gModel_readLine_128 m I K r1 r2 r3 1 = gModel_readLine_128 m I K (gModel_isWord_0 m I K 1919902052) (gModel_isWord_0 m I K 1718579828) (gModel_isWord_0 m I K 7364974) 1 → gModel_readLine_0 m I K = gModel_readLine_128 m I K r1 r2 r3 1 → ∃ r J2 L2 I2 K2, gLand_readLine_0 l o J L = (r, J2, L2) ∧ gModel_readLine_0 m I K = (0, I2, K2) ∧ Sy pl B N T o m J2 L2 I2 K2 ∧ LnFr o l J J2 L L2 ∧ LmFr m b I I2 K K2 ∧ (J2 o 7 = 0 → r = 1 ∧ J o 10 + 2 ≤ J2 o 10 ∧ LRx l m b J2 L2 I2 K2) ∧ (J2 o 7 ≠ 0 → r = 0)) := by
    intro e r1 r2 r3 _ e2
    rw [h.1.refuse] at e
    have hf := h.fail (f := if tkK pl B N (tkS pl B N j) = 5 then 1 else 2) (by split <;> decide)
    have g0 : gModel_isGood_0 m (q_u (q_u I m 4 (if tkK pl B N (tkS pl B N j) = 5 then 1 else 2)) m 5 ((tkS pl B N j : Nat) : Int)) K = 0 := mb_isGood (by rw [q_u_k (by decide), q_u_at]; split <;> decide)
    refine ⟨0, _, _, _, _, e, ?_, Or.inr hf, ⟨fun r y q _ => (cfr78 h.1.2.2.2.1).1 r y q, fun _ _ => rfl⟩, ⟨fun r y q _ => (mfr45 (K := K)).1 r y q, fun _ _ _ _ _ => rfl⟩, fun q => absurd q hf.2.2.2.1, fun _ => rfl⟩
    rw [e2]
    unfold gModel_readLine_128
    simp only [gLetp, gB3p]
    rw [if_neg (show ¬ (1 : Int) = 0 by decide), h.2.wrong]
    dsimp only
    rw [g0, if_pos (show (0 : Int) = 0 by decide)]
  -- both take it
  have good : ∀ (x1 x2 x3 : Int), gModel_readLine_128 m I K x1 x2 x3 0 = gB3 (gModel_next_0 m I K) (fun _ J_3 L_4 => if x1 = 0 then (if x2 = 0 then (if x3 = 0 then gB3 (gModel_readTown_0 m J_3 L_4) (fun _ I2 K2 => gLet (gModel_is_0 m I2 K2 59) (fun r8 => gB3 (gModel_must_0 m I2 K2 r8) (fun _ I3 K3 => ((0 : Int), I3, K3)))) else gB3 (gModel_readPan_0 m J_3 L_4) (fun _ I2 K2 => gLet (gModel_is_0 m I2 K2 59) (fun r8 => gB3 (gModel_must_0 m I2 K2 r8) (fun _ I3 K3 => ((0 : Int), I3, K3))))) else gB3 (gModel_readFort_0 m J_3 L_4) (fun _ I2 K2 => gLet (gModel_is_0 m I2 K2 59) (fun r8 => gB3 (gModel_must_0 m I2 K2 r8) (fun _ I3 K3 => ((0 : Int), I3, K3))))) else gB3 (gModel_readRoad_0 m J_3 L_4) (fun _ I2 K2 => gLet (gModel_is_0 m I2 K2 59) (fun r8 => gB3 (gModel_must_0 m I2 K2 r8) (fun _ I3 K3 => ((0 : Int), I3, K3))))) := by
    intro x1 x2 x3
    unfold gModel_readLine_128
    rw [if_pos (show (0 : Int) = 0 by decide)]
    simp only [gLetp]
    rw [h.2.isGood, if_neg (show ¬ (1 : Int) = 0 by decide)]
  have gR : ∀ (x2 x3 : Int), gModel_readLine_128 m I K 1 x2 x3 0 = gB3 (gModel_next_0 m I K) (fun _ I1 K1 => gB3 (gModel_readRoad_0 m I1 K1) (fun _ I2 K2 => gLet (gModel_is_0 m I2 K2 59) (fun r8 => gB3 (gModel_must_0 m I2 K2 r8) (fun _ I3 K3 => ((0 : Int), I3, K3))))) := fun x2 x3 => (good 1 x2 x3).trans (congrArg (gB3 (gModel_next_0 m I K)) (funext fun _ => funext fun _ => funext fun _ => (if_neg (show ¬ (1 : Int) = 0 by decide))))
  have gF : ∀ (x3 : Int), gModel_readLine_128 m I K 0 1 x3 0 = gB3 (gModel_next_0 m I K) (fun _ I1 K1 => gB3 (gModel_readFort_0 m I1 K1) (fun _ I2 K2 => gLet (gModel_is_0 m I2 K2 59) (fun r8 => gB3 (gModel_must_0 m I2 K2 r8) (fun _ I3 K3 => ((0 : Int), I3, K3))))) := fun x3 => (good 0 1 x3).trans (congrArg (gB3 (gModel_next_0 m I K)) (funext fun _ => funext fun _ => funext fun _ => (if_pos (show (0 : Int) = 0 by decide)).trans (if_neg (show ¬ (1 : Int) = 0 by decide))))
  have gP : gModel_readLine_128 m I K 0 0 1 0 = gB3 (gModel_next_0 m I K) (fun _ I1 K1 => gB3 (gModel_readPan_0 m I1 K1) (fun _ I2 K2 => gLet (gModel_is_0 m I2 K2 59) (fun r8 => gB3 (gModel_must_0 m I2 K2 r8) (fun _ I3 K3 => ((0 : Int), I3, K3))))) := (good 0 0 1).trans (congrArg (gB3 (gModel_next_0 m I K)) (funext fun _ => funext fun _ => funext fun _ => ((if_pos (show (0 : Int) = 0 by decide)).trans (if_pos (show (0 : Int) = 0 by decide))).trans (if_neg (show ¬ (1 : Int) = 0 by decide))))
  have gT : gModel_readLine_128 m I K 0 0 0 0 = gB3 (gModel_next_0 m I K) (fun _ I1 K1 => gB3 (gModel_readTown_0 m I1 K1) (fun _ I2 K2 => gLet (gModel_is_0 m I2 K2 59) (fun r8 => gB3 (gModel_must_0 m I2 K2 r8) (fun _ I3 K3 => ((0 : Int), I3, K3))))) := (good 0 0 0).trans (congrArg (gB3 (gModel_next_0 m I K)) (funext fun _ => funext fun _ => funext fun _ => ((if_pos (show (0 : Int) = 0 by decide)).trans (if_pos (show (0 : Int) = 0 by decide))).trans (if_pos (show (0 : Int) = 0 by decide))))
  by_cases k1 : tkK pl B N (tkS pl B N j) = 1
  · simp only [k1, true_and] at w0 w1 w5 w8 v0 v1 v5 v8
    by_cases q0 : vW (tkW B N (tkS pl B N j)) = 0
    · -- road
      have n1 : ¬ vW (tkW B N (tkS pl B N j)) = 1 := by omega
      have n5 : ¬ vW (tkW B N (tkS pl B N j)) = 5 := by omega
      have n8 : ¬ vW (tkW B N (tkS pl B N j)) = 8 := by omega
      rw [if_pos q0] at w0
      rw [if_neg n1] at w1
      rw [if_neg n5] at w5
      rw [if_neg n8] at w8
      rw [show ((0 : Nat) : Int) = 0 from rfl, if_pos q0] at v0
      rw [show ((1 : Nat) : Int) = 1 from rfl, if_neg n1] at v1
      rw [show ((5 : Nat) : Int) = 5 from rfl, if_neg n5] at v5
      by_cases z : nr < 24
      · obtain ⟨r, J2, L2, I2, K2, e1, e2, e3, e4, e5, e6, e7⟩ := s_road hB h k1 hsep hR z
        refine ⟨r, J2, L2, I2, K2, ?_, ?_, e3, e4, e5, fun q => ⟨(e6 q).1, (e6 q).2.1, _, _, _, _, (e6 q).2.2⟩, e7⟩
        · unfold gLand_readLine_0
          simp only [gLetp, gB3p]
          rw [w0, if_neg (show ¬ (1 : Int) = 0 by decide), c0, if_neg (by omega), e1]
        · unfold gModel_readLine_0
          simp only [gLetp]
          rw [v0, if_neg (show ¬ (1 : Int) = 0 by decide), d0, Int.toNat_natCast, d1, if_neg (by omega), gR]
          exact e2
      · have zn : nr = 24 := by omega
        refine bad ?_ 1 (gModel_isWord_0 m I K 1718579828) (gModel_isWord_0 m I K 7364974) (by rw [v0]) ?_
        · unfold gLand_readLine_0 gLand_readLine_23 gLand_readLine_45 gLand_readLine_67
          simp only [gLetp, gB3p]
          rw [w0, if_neg (show ¬ (1 : Int) = 0 by decide), c0, if_pos (by omega), w1, if_pos (show (0 : Int) = 0 by decide), w5, if_pos (show (0 : Int) = 0 by decide), w8, if_pos (show (0 : Int) = 0 by decide)]
        · unfold gModel_readLine_0
          simp only [gLetp]
          rw [v0, if_neg (show ¬ (1 : Int) = 0 by decide), d0, Int.toNat_natCast, d1, if_pos (by omega)]
    · rw [if_neg q0] at w0
      rw [show ((0 : Nat) : Int) = 0 from rfl, if_neg q0] at v0
      by_cases q1 : vW (tkW B N (tkS pl B N j)) = 1
      · have n5 : ¬ vW (tkW B N (tkS pl B N j)) = 5 := by omega
        have n8 : ¬ vW (tkW B N (tkS pl B N j)) = 8 := by omega
        rw [if_pos q1] at w1
        rw [if_neg n5] at w5
        rw [if_neg n8] at w8
        rw [show ((1 : Nat) : Int) = 1 from rfl, if_pos q1] at v1
        by_cases z : nf < 3
        · obtain ⟨r, J2, L2, I2, K2, e1, e2, e3, e4, e5, e6, e7⟩ := s_fort hB h k1 hsep hR z
          refine ⟨r, J2, L2, I2, K2, ?_, ?_, e3, e4, e5, fun q => ⟨(e6 q).1, (e6 q).2.1, _, _, _, _, (e6 q).2.2⟩, e7⟩
          · unfold gLand_readLine_0 gLand_readLine_23
            simp only [gLetp, gB3p]
            rw [w0, if_pos (show (0 : Int) = 0 by decide), w1, if_neg (show ¬ (1 : Int) = 0 by decide), c1, if_neg (by omega), e1]
          · unfold gModel_readLine_0
            simp only [gLetp]
            rw [v0, v1, if_pos (show (0 : Int) = 0 by decide), if_neg (show ¬ (1 : Int) = 0 by decide), d0, Int.toNat_natCast, d2, if_neg (by omega), gF]
            exact e2
        · refine bad ?_ 0 1 (gModel_isWord_0 m I K 7364974) (by rw [v0, v1]) ?_
          · unfold gLand_readLine_0 gLand_readLine_23 gLand_readLine_45 gLand_readLine_67
            simp only [gLetp, gB3p]
            rw [w0, if_pos (show (0 : Int) = 0 by decide), w1, if_neg (show ¬ (1 : Int) = 0 by decide), c1, if_pos (by omega), w5, if_pos (show (0 : Int) = 0 by decide), w8, if_pos (show (0 : Int) = 0 by decide)]
          · unfold gModel_readLine_0
            simp only [gLetp]
            rw [v0, v1, if_pos (show (0 : Int) = 0 by decide), if_neg (show ¬ (1 : Int) = 0 by decide), d0, Int.toNat_natCast, d2, if_pos (by omega)]
      · rw [if_neg q1] at w1
        rw [show ((1 : Nat) : Int) = 1 from rfl, if_neg q1] at v1
        by_cases q5 : vW (tkW B N (tkS pl B N j)) = 5
        · have n8 : ¬ vW (tkW B N (tkS pl B N j)) = 8 := by omega
          rw [if_pos q5] at w5
          rw [if_neg n8] at w8
          rw [show ((5 : Nat) : Int) = 5 from rfl, if_pos q5] at v5
          by_cases z : np < 3
          · obtain ⟨r, J2, L2, I2, K2, e1, e2, e3, e4, e5, e6, e7⟩ := s_pan hB h k1 hsep hR z
            refine ⟨r, J2, L2, I2, K2, ?_, ?_, e3, e4, e5, fun q => ⟨(e6 q).1, (e6 q).2.1, _, _, _, _, (e6 q).2.2⟩, e7⟩
            · unfold gLand_readLine_0 gLand_readLine_23 gLand_readLine_45
              simp only [gLetp, gB3p]
              rw [w0, if_pos (show (0 : Int) = 0 by decide), w1, if_pos (show (0 : Int) = 0 by decide), w5, if_neg (show ¬ (1 : Int) = 0 by decide), c2, if_neg (by omega), e1]
            · unfold gModel_readLine_0
              simp only [gLetp]
              rw [v0, v1, v5, if_pos (show (0 : Int) = 0 by decide), if_pos (show (0 : Int) = 0 by decide), if_neg (show ¬ (1 : Int) = 0 by decide), d0, Int.toNat_natCast, d3, if_neg (by omega), gP]
              exact e2
          · refine bad ?_ 0 0 1 (by rw [v0, v1, v5]) ?_
            · unfold gLand_readLine_0 gLand_readLine_23 gLand_readLine_45 gLand_readLine_67
              simp only [gLetp, gB3p]
              rw [w0, if_pos (show (0 : Int) = 0 by decide), w1, if_pos (show (0 : Int) = 0 by decide), w5, if_neg (show ¬ (1 : Int) = 0 by decide), c2, if_pos (by omega), w8, if_pos (show (0 : Int) = 0 by decide)]
            · unfold gModel_readLine_0
              simp only [gLetp]
              rw [v0, v1, v5, if_pos (show (0 : Int) = 0 by decide), if_pos (show (0 : Int) = 0 by decide), if_neg (show ¬ (1 : Int) = 0 by decide), d0, Int.toNat_natCast, d3, if_pos (by omega)]
        · rw [if_neg q5] at w5
          rw [show ((5 : Nat) : Int) = 5 from rfl, if_neg q5] at v5
          by_cases q8 : vW (tkW B N (tkS pl B N j)) = 8
          · rw [if_pos q8] at w8
            rw [show ((8 : Nat) : Int) = 8 from rfl, if_pos q8] at v8
            by_cases z : nt < 5
            · obtain ⟨r, J2, L2, I2, K2, e1, e2, e3, e4, e5, e6, e7⟩ := s_town hB h k1 hsep hR z
              refine ⟨r, J2, L2, I2, K2, ?_, ?_, e3, e4, e5, fun q => ⟨(e6 q).1, (e6 q).2.1, _, _, _, _, (e6 q).2.2⟩, e7⟩
              · unfold gLand_readLine_0 gLand_readLine_23 gLand_readLine_45 gLand_readLine_67
                simp only [gLetp, gB3p]
                rw [w0, if_pos (show (0 : Int) = 0 by decide), w1, if_pos (show (0 : Int) = 0 by decide), w5, if_pos (show (0 : Int) = 0 by decide), w8, if_neg (show ¬ (1 : Int) = 0 by decide), c3, if_neg (by omega), e1]
              · unfold gModel_readLine_0
                simp only [gLetp]
                rw [v0, v1, v5, v8, if_pos (show (0 : Int) = 0 by decide), if_pos (show (0 : Int) = 0 by decide), if_pos (show (0 : Int) = 0 by decide), if_neg (show ¬ (1 : Int) = 0 by decide), d0, Int.toNat_natCast, d4, if_neg (by omega), gT]
                exact e2
            · refine bad ?_ 0 0 0 (by rw [v0, v1, v5]) ?_
              · unfold gLand_readLine_0 gLand_readLine_23 gLand_readLine_45 gLand_readLine_67
                simp only [gLetp, gB3p]
                rw [w0, if_pos (show (0 : Int) = 0 by decide), w1, if_pos (show (0 : Int) = 0 by decide), w5, if_pos (show (0 : Int) = 0 by decide), w8, if_neg (show ¬ (1 : Int) = 0 by decide), c3, if_pos (by omega)]
              · unfold gModel_readLine_0 gModel_readLine_123
                simp only [gLetp]
                rw [v0, v1, v5, v8, if_pos (show (0 : Int) = 0 by decide), if_pos (show (0 : Int) = 0 by decide), if_pos (show (0 : Int) = 0 by decide), if_neg (show ¬ (1 : Int) = 0 by decide), d0, Int.toNat_natCast, d4, if_pos (by omega)]
          · rw [if_neg q8] at w8
            rw [show ((8 : Nat) : Int) = 8 from rfl, if_neg q8] at v8
            refine bad ?_ 0 0 0 (by rw [v0, v1, v5]) ?_
            · unfold gLand_readLine_0 gLand_readLine_23 gLand_readLine_45 gLand_readLine_67
              simp only [gLetp, gB3p]
              rw [w0, if_pos (show (0 : Int) = 0 by decide), w1, if_pos (show (0 : Int) = 0 by decide), w5, if_pos (show (0 : Int) = 0 by decide), w8, if_pos (show (0 : Int) = 0 by decide)]
            · unfold gModel_readLine_0 gModel_readLine_123
              simp only [gLetp]
              rw [v0, v1, v5, v8, if_pos (show (0 : Int) = 0 by decide), if_pos (show (0 : Int) = 0 by decide), if_pos (show (0 : Int) = 0 by decide), if_pos (show (0 : Int) = 0 by decide)]
  · rw [if_neg (fun q => k1 q.1)] at w0 w1 w5 w8 v0 v1 v5 v8
    refine bad ?_ 0 0 0 (by rw [v0, v1, v5]) ?_
    · unfold gLand_readLine_0 gLand_readLine_23 gLand_readLine_45 gLand_readLine_67
      simp only [gLetp, gB3p]
      rw [w0, if_pos (show (0 : Int) = 0 by decide), w1, if_pos (show (0 : Int) = 0 by decide), w5, if_pos (show (0 : Int) = 0 by decide), w8, if_pos (show (0 : Int) = 0 by decide)]
    · unfold gModel_readLine_0 gModel_readLine_123
      simp only [gLetp]
      rw [v0, v1, v5, v8, if_pos (show (0 : Int) = 0 by decide), if_pos (show (0 : Int) = 0 by decide), if_pos (show (0 : Int) = 0 by decide), if_pos (show (0 : Int) = 0 by decide)]
/-- all lines: the class comes to its ways, or refuses; the reference likewise -/
theorem s_lines (hB : BR B) (hsep : l + 16 ≤ o ∨ o + 7 ≤ l) : ∀ (f i k k' : Nat) (J : gJ) (L : gL) (I : gJ) (K : gL) (j : Nat), Sg pl B N T o m J L I K j → LRx l m b J L I K → 2 * i ≤ j → T + 1 - j < f → f < k → f < k' → ∃ J2 L2 I2 K2, Sy pl B N T o m J2 L2 I2 K2 ∧ LnFr o l J J2 L L2 ∧ LmFr m b I I2 K K2 ∧ (J2 o 7 = 0 → gLand_read_11 k l o J L i = (1, (gLand_shortenWays_0 l J2 L2).2.1, (gLand_shortenWays_0 l J2 L2).2.2) ∧ (∃ k2, gModel_land_59 k' m I K = gModel_land_59 (k2 + 1) m I2 K2) ∧ I2 m 8 = 0 ∧ I2 m 4 = 0 ∧ LRx l m b J2 L2 I2 K2) ∧ (J2 o 7 ≠ 0 → gLand_read_11 k l o J L i = (0, J2, L2) ∧ ∃ k2, gModel_land_59 k' m I K = gModel_land_59 (k2 + 1) m I2 K2) := by
  intro f
  induction f with
  | zero => intro i k k' J L I K j _ _ _ h; omega
  | succ f ih =>
    intro i k k' J L I K j hg hR hij hf hk hk'
    obtain ⟨k, rfl⟩ : ∃ z, k = z + 1 := ⟨k - 1, by omega⟩
    obtain ⟨k', rfl⟩ : ∃ z, k' = z + 1 := ⟨k' - 1, by omega⟩
    have hT := hg.1.1.2.2.1
    have hjT := hg.1.2.1
    by_cases c : tkK pl B N (tkS pl B N j) = 0
    · -- the end
      refine ⟨J, L, I, K, Or.inl ⟨j, hg⟩, ⟨fun _ _ _ _ => rfl, fun _ _ => rfl⟩, ⟨fun _ _ _ _ => rfl, fun _ _ _ _ _ => rfl⟩, fun _ => ⟨?_, ⟨k', rfl⟩, hg.2.2.2.2.2.c0.mpr c, hg.2.2.2.1, hR⟩, fun q => absurd hg.1.2.2.2.1 q⟩
      rw [eLand_read_11]
      simp only [gLetp, gB3p]
      rw [hg.1.atEnd, if_pos c]
      by_cases z : (1600 : Int) ≤ (i : Int)
      · rw [if_pos z]
      · rw [if_neg z, if_neg (show ¬ (1 : Int) = 0 by decide)]
    · obtain ⟨nr, nf, np, nt, hR⟩ := hR
      have c8 : ¬ I m 8 = 0 := fun q => c (hg.2.2.2.2.2.c0.mp q)
      obtain ⟨r, J1, L1, I1, K1, e1, e2, e3, e4, e5, e6, e7⟩ := s_line hB hg hsep hR
      have ec : gLand_read_11 (k + 1) l o J L i = (if r = 0 then (0, J1, L1) else gLand_read_11 k l o J1 L1 ((i + 1 : Nat) : Int)) := by
        rw [eLand_read_11]
        simp only [gLetp, gB3p]
        rw [hg.1.atEnd, if_neg c, if_neg (by omega), if_pos (show (0 : Int) = 0 by decide), e1, nat1]
      have em : gModel_land_59 (k' + 1) m I K = gModel_land_59 k' m I1 K1 := by
        rw [eModel_land_59]
        simp only [gLetp, gB3p]
        rw [hg.2.isGood, if_neg (show ¬ (1 : Int) = 0 by decide), if_neg c8, e2]
      by_cases g : J1 o 7 = 0
      · obtain ⟨q1, q2, q3⟩ := e6 g
        obtain ⟨j1, hg1⟩ := e3.gd g
        have hj : (j : Int) + 2 ≤ (j1 : Int) := by
          have a := hg.1.2.2.1
          have b := hg1.1.2.2.1
          omega
        obtain ⟨J2, L2, I2, K2, a1, a2, a3, a4, a5⟩ := ih (i + 1) k k' J1 L1 I1 K1 j1 hg1 q3 (by omega) (by omega) (by omega) (by omega)
        refine ⟨J2, L2, I2, K2, a1, ⟨fun r y p q => (a2.1 r y p q).trans (e4.1 r y p q), fun r q => (a2.2 r q).trans (e4.2 r q)⟩, ⟨fun r y p q => (a3.1 r y p q).trans (e5.1 r y p q), fun r q1 q2 q3 q4 => (a3.2 r q1 q2 q3 q4).trans (e5.2 r q1 q2 q3 q4)⟩, fun q => ?_, fun q => ?_⟩
        · obtain ⟨b1, ⟨k2, b2⟩, b3⟩ := a4 q
          exact ⟨by rw [ec, q1, if_neg (show ¬ (1 : Int) = 0 by decide)]; exact b1, ⟨k2, em.trans b2⟩, b3⟩
        · obtain ⟨b1, k2, b2⟩ := a5 q
          exact ⟨by rw [ec, q1, if_neg (show ¬ (1 : Int) = 0 by decide)]; exact b1, k2, em.trans b2⟩
      · refine ⟨J1, L1, I1, K1, e3, e4, e5, fun q => absurd q g, fun _ => ⟨by rw [ec, e7 g, if_pos (show (0 : Int) = 0 by decide)], ?_⟩⟩
        obtain ⟨k', rfl⟩ : ∃ z, k' = z + 1 := ⟨k' - 1, by omega⟩
        exact ⟨k', em⟩
end LD
