/-! A REFORM's line, in both: whole. By hand. -/
section RL2
variable {B : Nat → Int} {N T o x m j u b n : Nat} {J J2 J3 J' : gJ} {L : gL} {I I2 I3 I' : gJ} {K K2 K3 : gL} {z : Int} {g gn : Nat → Int} {c : rdC}
/-- what both hold behind a good expression: the class at JA, the reference at IA -/
theorem rl_good (hTe : tkK false B N (tkS false B N T) = 0 ∨ tkK false B N (tkS false B N T) = 5) (hN7 : T ≤ 700) {zn b u' j' : Nat} {JA IA JZ IZ : gJ} {c' : rdC} (hz : zn < 10) (hzc : zn < 5 ∨ (zn : Int) = 5 + J o 6) (hR : RfB J o I m 4 b) (hj' : j' ≤ T) (hCA : CD B N (J (o + 1)) b 0 JA o c' j') (hMA : MD B N m (fun y => I (m + 30) (2800 + y)) (fun y => I (m + 31) (2800 + y)) b IA c') (hok : okL (tkT B N T) (zn : Int) c') (hdp : dpL c' = 1) (hu : JA o 7 = (u' : Int)) (hu2 : IA m 46 = (u' : Int)) (hu1 : u' ≤ 100)
    (fA : JA o 6 = J o 6 ∧ (∀ y, JA (o + 3) y = J (o + 3) y) ∧ JA (o + 2) (sgS zn) = (b : Int) ∧ ∀ y, y ≠ sgS zn → JA (o + 2) y = J (o + 2) y) (fI : (∀ y, IA (m + 26) y = I (m + 26) y) ∧ (∀ y, IA (m + 27) y = I (m + 27) y) ∧ (∀ y, IA (m + 28) y = I (m + 28) y))
    (z1 : JZ (o + 3) (sgS zn) = JA o 4) (z2 : ∀ y, y ≠ sgS zn → JZ (o + 3) y = JA (o + 3) y) (z3 : JZ o 6 = (if sgS zn < 6 then JA o 6 else JA o 6 + 1)) (z4 : ∀ r y, o ≤ r → r ≤ o + 4 → ¬ (r = o ∧ y = 6) → r ≠ o + 3 → JZ r y = JA r y)
    (i1 : IZ (m + 26) (40 + zn) = (b : Int)) (i2 : IZ (m + 27) (40 + zn) = IA m 45) (i3 : IZ (m + 28) 4 = (if zn < 5 then IA (m + 28) 4 else IA (m + 28) 4 + 1)) (i4 : ∀ r y, (r = m + 26 ∨ r = m + 27 ∨ r = m + 30 ∨ r = m + 31 ∨ (r = m ∧ 44 ≤ y ∧ y ≤ 49)) → ¬ ((r = m + 26 ∨ r = m + 27) ∧ y = 40 + zn) → IZ r y = IA r y) : IZ m 44 = 4 ∧ (∃ u : Nat, JZ o 7 = (u : Int) ∧ IZ m 46 = (u : Int) ∧ u ≤ 100) ∧ ∃ b : Nat, RfB JZ o IZ m 4 b ∧ b ≤ j' ∧ IZ m 45 = (b : Int) := by
  obtain ⟨r1, r2, r3, r4, r5, r6, r7, r8⟩ := hR
  obtain ⟨c1, c2, c3, c4⟩ := hCA
  obtain ⟨d1, d2, d3, d4, d5⟩ := hMA
  obtain ⟨a1, a2, a3, a4⟩ := fA
  obtain ⟨f1, f2, f3⟩ := fI
  obtain ⟨wf1, wf2⟩ := cl_wf hok c4
  have mt := cl_mt hok c4 d4 d5
  have row1 : ∀ y, JZ (o + 1) y = JA (o + 1) y := fun y => z4 (o + 1) y (by omega) (by omega) (by omega) (by omega)
  have row2 : ∀ y, JZ (o + 2) y = JA (o + 2) y := fun y => z4 (o + 2) y (by omega) (by omega) (by omega) (by omega)
  have J4 : JZ o 4 = ((b + c'.length : Nat) : Int) := (z4 o 4 (by omega) (by omega) (by omega) (by omega)).trans c1
  have c5 : b + c'.length ≤ j' := by omega
  refine ⟨(i4 m 44 (by omega) (by omega)).trans d1, ⟨u', (z4 o 7 (by omega) (by omega) (by omega) (by omega)).trans hu, (i4 m 46 (by omega) (by omega)).trans hu2, hu1⟩, b + c'.length, ⟨J4, by omega, ?_, ?_, ?_, fun y hy => ?_, fun zz hzz => ?_, fun zz hzz hz10 => ?_⟩, c5, (i4 m 45 (by omega) (by omega)).trans d2⟩
  · rw [z3, i3, a1, f3]
    unfold sgS
    by_cases q : zn < 5
    · rw [if_pos q, if_pos (by split <;> omega)]; exact r3
    · rw [if_neg q, if_neg (by split <;> omega)]; omega
  · rw [z3, a1]; split <;> omega
  · rw [z3, a1]
    unfold sgS
    by_cases q : zn < 5
    · rw [if_pos (by split <;> omega)]; exact r5
    · rw [if_neg (by split <;> omega)]; omega
  · rw [row1, i4 (m + 30) _ (by omega) (by omega), i4 (m + 31) _ (by omega) (by omega)]
    by_cases q : y < b
    · have e3 := d3 y q
      rw [c3 y q, e3.1, e3.2]
      exact r6 y q
    · exact mt y (by omega) hy
  · by_cases q : zz = zn
    · subst q
      right
      have np : 1 ≤ c'.length := by
        match c', hdp with
        | [], h => exact absurd h (by decide)
        | _ :: _, _ => exact Nat.succ_le_succ (Nat.zero_le _)
      refine ⟨b, c'.length, np, Nat.le_refl _, ?_, ?_, i1, ?_, WfC.mv (f := JA (o + 1)) ⟨wf1, wf2.trans hdp⟩ (fun y _ _ => row1 y)⟩
      · rw [row2]; exact a3
      · rw [z1]; exact c1
      · rw [show 10 * 4 + zz = 40 + zz by omega, i2]; exact d2
    · have sn : sgS zz ≠ sgS zn := by unfold sgS; split <;> split <;> omega
      rcases r7 zz hzz with ⟨s1, s2, s8⟩ | ⟨F, n, s1, s2, s3, s4, s5, s6, s7⟩
      · left
        exact ⟨by rw [z2 _ sn, a2]; exact s1, by rw [i4 (m + 26) _ (by omega) (by omega), f1]; exact s2, by rw [row2, a4 _ sn]; exact s8⟩
      · right
        refine ⟨F, n, s1, by omega, ?_, ?_, ?_, ?_, s7.mv (fun y y1 y2 => ?_)⟩
        · rw [row2, a4 _ sn]; exact s3
        · rw [z2 _ sn, a2]; exact s4
        · rw [i4 (m + 26) _ (by omega) (by omega), f1]; exact s5
        · rw [i4 (m + 27) _ (by omega) (by omega), f2]; exact s6
        · rw [row1]; exact c3 y (by omega)
  · have nq : zz + 1 ≠ sgS zn := by
      unfold sgS
      rw [z3, a1] at hzz
      unfold sgS at hzz
      by_cases q : zn < 5
      · rw [if_pos (by split <;> omega)] at hzz; split <;> omega
      · rw [if_neg (by split <;> omega)] at hzz; split <;> omega
    rw [z2 _ nq, a2]
    refine r8 zz ?_ hz10
    rw [z3, a1] at hzz
    split at hzz <;> omega
set_option maxHeartbeats 1000000 in
theorem s_rline (hB : BR B) (hN : N ≤ 700) (hs : o + 5 ≤ x ∨ x + 7 ≤ o) (h : RQ B N T x o m J L I K j) (hn : I (m + 29) 4 = (n : Int)) (hn2 : n ≤ j) : ∃ r J' I' K', gReform_readLine_0 o x J L = (r, J', L) ∧ gModel_readReform_0 m I K = (0, I', K') ∧ RfL o x J J' ∧ MrL m I I' K K' ∧ ((r = 1 ∧ ∃ j', j < j' ∧ RQ B N T x o m J' L I' K' j' ∧ I' (m + 29) 4 = ((n + 1 : Nat) : Int)) ∨ (r = 0 ∧ Sb false B N T x m J' L I')) := by
  obtain ⟨hSg, h44, ⟨u, hu1, hu2, hu3⟩, b, hRf, hb1, hb2⟩ := h
  obtain ⟨hC, hM⟩ := id hSg
  have hTe := hC.1.2.2.2.2.2
  have TN := hC.1.TN
  have hT7 : T ≤ 700 := Nat.le_trans TN hN
  have hj := hC.2.1
  rcases rl_slot hSg h44 hRf.2.2.1 hRf.2.2.2.1 hRf.2.2.2.2.1 hRf.2.2.2.2.2.2.1 hRf.2.2.2.2.2.2.2 with ⟨zn, hz, k1, f1, f2, hzc, free1, free2⟩ | ⟨f1, f2⟩
  · -- the line's expression, in the class
    have k0 : tkK false B N (tkS false B N j) ≠ 0 := by omega
    have k5 : tkK false B N (tkS false B N j) ≠ 5 := by omega
    have jT := hC.lt k0 k5
    have c8 : ∀ r y, ¬ (r = o ∧ y = 8) → q_u J o 8 ((sgS zn : Nat) : Int) r y = J r y := fun r y q => q_u_off q
    have c88 : q_u J o 8 ((sgS zn : Nat) : Int) o 8 = ((sgS zn : Nat) : Int) := q_u_at
    have hC2 : Cg false B N T x (q_u J o 8 ((sgS zn : Nat) : Int)) L j := hC.mvO (fun r y p q => c8 r y (by omega))
    have ecl : gReform_readLine_0 o x J L = gB3 (gTape_step_0 x (q_u J o 8 ((sgS zn : Nat) : Int)) L) (fun _ J_5 L_6 => gLet (J_5 o 8) (fun (v_7 : Int) => gLet (J_5 o 4) (fun (v_8 : Int) => gLet (q_u J_5 (o + 2) (Int.toNat v_7) v_8) (fun (J_9 : gJ) => gB3 ((gRP o x 8).1 J_9 L_6 0) (fun _ J_11 L_12 => gLet (J_11 o 8) (fun (v_13 : Int) => gLet (J_11 o 4) (fun (v_14 : Int) => gLet (q_u J_11 (o + 3) (Int.toNat v_13) v_14) (fun (J_15 : gJ) => gLet (J_15 o 8) (fun (v_16 : Int) => (if v_16 < 6 then gB3 (gTape_closeLine_0 x J_15 L_12) (fun r_17 J_18 L_19 => (r_17, J_18, L_19)) else gLet (J_15 o 6) (fun (v_20 : Int) => gLet (v_20 + 1) (fun (v_21 : Int) => gLet (q_u J_15 o 6 v_21) (fun (J_22 : gJ) => gB3 (gTape_closeLine_0 x J_22 L_12) (fun r_23 J_24 L_25 => (r_23, J_24, L_25))))))))))))))) := by
      unfold gReform_readLine_0
      rw [gLetp, f1, gLetp, gLetp, c88, if_neg (by omega)]
    obtain ⟨s1, s2⟩ := hC2.step k0 k5
    rw [gB3t s1] at ecl
    have c10 : ∀ r y, ¬ (r = o ∧ y = 8) → ¬ (r = x ∧ y = 10) → q_u (q_u J o 8 ((sgS zn : Nat) : Int)) x 10 ((j + 1 : Nat) : Int) r y = J r y := fun r y p q => by rw [q_u_off q]; exact c8 r y p
    have c108 : q_u (q_u J o 8 ((sgS zn : Nat) : Int)) x 10 ((j + 1 : Nat) : Int) o 8 = ((sgS zn : Nat) : Int) := by rw [q_u_ne (by omega)]; exact c88
    generalize q_u (q_u J o 8 ((sgS zn : Nat) : Int)) x 10 ((j + 1 : Nat) : Int) = J5 at s2 c10 c108 ecl
    have c4 : J5 o 4 = (b : Int) := (c10 o 4 (by omega) (by omega)).trans hRf.1
    rw [gLetp, gLetp, gLetp, c108, c4, Int.toNat_natCast] at ecl
    have c9 : ∀ r y, ¬ (r = o ∧ y = 8) → ¬ (r = x ∧ y = 10) → ¬ (r = o + 2 ∧ y = sgS zn) → q_u J5 (o + 2) (sgS zn) (b : Int) r y = J r y := fun r y p q s => by rw [q_u_off s]; exact c10 r y p q
    have c98 : q_u J5 (o + 2) (sgS zn) (b : Int) o 8 = ((sgS zn : Nat) : Int) := by rw [q_u_ne (by omega)]; exact c108
    have c92 : q_u J5 (o + 2) (sgS zn) (b : Int) (o + 2) (sgS zn) = (b : Int) := q_u_at
    have hC9 : Cg false B N T x (q_u J5 (o + 2) (sgS zn) (b : Int)) L (j + 1) := s2.mvO (fun r y p q => by rw [q_u_ne (by omega)])
    generalize q_u J5 (o + 2) (sgS zn) (b : Int) = J9 at c9 c98 c92 hC9 ecl
    have rd := (c_reads (z := (zn : Int)) (s := ((sgS zn : Nat) : Int)) (g := J (o + 1)) (b := b) (T := T) (L := L) (B := B) hs hN (by unfold sgS; split <;> (constructor <;> constructor <;> intro q <;> omega)) 8 0 rfl (by decide)).1 J9 (j + 1) u 0 [] hC9 ((c9 o 7 (by omega) (by omega) (by omega)).trans hu1) ⟨(c9 o 4 (by omega) (by omega) (by omega)).trans hRf.1, by show b + 0 + 0 ≤ j + 1; omega, fun y _ => c9 (o + 1) y (by omega) (by omega) (by omega), trivial⟩ c98
    -- in the reference
    have eml : gModel_readReform_0 m I K = gB3 (gModel_next_0 m I K) (fun _ J_5 L_6 => gLet (q_u J_5 m 49 (zn : Int)) (fun (J_7 : gJ) => gLet (J_7 m 45) (fun (v_8 : Int) => gB3 (gModel_e_0 m J_7 L_6) (fun _ J_10 L_11 => gLet (gModel_is_0 m J_10 L_11 59) (fun (r_12 : Int) => gB3 (gModel_must_0 m J_10 L_11 r_12) (fun _ J_14 L_15 => gLet (J_14 m 44) (fun (v_16 : Int) => gLet (10 * v_16) (fun (v_17 : Int) => gLet (v_17 + (zn : Int)) (fun (v_18 : Int) => gLet (q_u J_14 (m + 26) (Int.toNat v_18) v_8) (fun (J_19 : gJ) => gLet (J_19 m 44) (fun (v_20 : Int) => gLet (10 * v_20) (fun (v_21 : Int) => gLet (v_21 + (zn : Int)) (fun (v_22 : Int) => gLet (J_19 m 45) (fun (v_23 : Int) => gLet (q_u J_19 (m + 27) (Int.toNat v_22) v_23) (fun (J_24 : gJ) => (if (zn : Int) < 5 then (gModel_readReform_228 m J_24 L_15 (zn : Int) v_8) else gLet (J_24 m 44) (fun (v_25 : Int) => gLet (J_24 (m + 28) (Int.toNat v_25)) (fun (v_26 : Int) => gLet (v_26 + 1) (fun (v_27 : Int) => gLet (q_u J_24 (m + 28) (Int.toNat v_25) v_27) (fun (J_28 : gJ) => (gModel_readReform_228 m J_28 L_15 (zn : Int) v_8))))))))))))))))))))) := by
      rw [f2]
      unfold gModel_readReform_132
      rw [gLetp, gLetp, show Int.toNat (40 + (zn : Int)) = 40 + zn by omega, free2, if_pos (by decide), gLetp, hM.isGood, if_neg (show ¬ (1 : Int) = 0 by decide)]
    obtain ⟨I2, K2, n1, n2, n3, n4⟩ := m_nx hB hTe hM hj k0 k5
    rw [gB3t n1, gLetp, gLetp] at eml
    have m49 : ∀ r y, ¬ (r = m ∧ (y = 6 ∨ y = 7 ∨ y = 8 ∨ y = 9)) → ¬ (r = m ∧ y = 49) → q_u I2 m 49 (zn : Int) r y = I r y := fun r y p q => by rw [q_u_off q]; exact n4.1 r y p
    have m499 : q_u I2 m 49 (zn : Int) m 49 = (zn : Int) := q_u_at
    have hM3 : Mg false B N m (q_u I2 m 49 (zn : Int)) K2 (tkS false B N (j + 1)) := n2.mv (fun y hy => q_u_k (by omega)) (q_u_ne (by omega)) rfl
    generalize q_u I2 m 49 (zn : Int) = I3 at m49 m499 hM3 eml
    have m45 : I3 m 45 = (b : Int) := (m49 m 45 (by omega) (by omega)).trans hb2
    rw [m45] at eml
    obtain ⟨I4, K4, e1, e2, e3⟩ := m_e (g := fun y => I (m + 30) (2800 + y)) (gn := fun y => I (m + 31) (2800 + y)) (b := b) hB hTe hT7 hM3 n3 ((m49 m 46 (by omega) (by omega)).trans hu2) hu3 m499 (by omega) ⟨(m49 m 44 (by omega) (by omega)).trans h44, m45, fun y _ => ⟨m49 (m + 30) _ (by omega) (by omega), m49 (m + 31) _ (by omega) (by omega)⟩, trivial, trivial⟩
    have ok := rd_ok (t := tkT B N T) (z := (zn : Int)) (u := u) (tkT_K hTe) n3 hu3
    rw [gB3t e1, gLetp] at eml
    have hX3 : MX B N m I4 := hM3.1.mv (e2.1 _ _ (by omega) (by omega) (by omega)) (by funext y; exact e2.1 _ y (by omega) (by omega) (by omega))
    have h11 : I4 m 11 = 1 := (e2.1 m 11 (by omega) (by omega) (by omega)).trans hM3.2.1
    have I44 : I4 m 44 = 4 := (e2.1 m 44 (by omega) (by omega) (by omega)).trans ((m49 m 44 (by omega) (by omega)).trans h44)
    have i4o : ∀ r y, ¬ (r = m ∧ ((4 ≤ y ∧ y ≤ 9) ∨ (45 ≤ y ∧ y ≤ 49))) → ¬ (m + 32 ≤ r ∧ r ≤ m + 33) → ¬ ((r = m + 30 ∨ r = m + 31) ∧ 2800 ≤ y ∧ y < 3500) → I4 r y = I r y := fun r y p q s => (e2.1 r y (by omega) q s).trans (m49 r y (by omega) (by omega))
    have k4o : ∀ r y, ¬ (r = m ∧ y = 10) → K4 r y = K r y := fun r y p => (e2.2 r y p).trans (n4.2 r y p)
    -- what both do behind the expression, the class at JA, the reference at IA
    have bad : ∀ (JA : gJ) (f : Int) (p : Nat), (gRP o x 8).1 J9 L 0 = (0, JA, L) → RfF o x J9 JA → I4 m 4 = f → f ≠ 0 → I4 m 5 = ((tkS false B N p : Nat) : Int) → (∀ JC : gJ, (∀ r y, ¬ (r = o ∧ y = 6) → r ≠ o + 3 → JC r y = JA r y) → ∃ J', gTape_closeLine_0 x JC L = (0, J', L) ∧ SRd false B N T x J' L ∧ J' x 7 = f ∧ J' x 8 = ((tkS false B N p : Nat) : Int) ∧ ∀ r y, ¬ (r = x ∧ (y = 7 ∨ y = 8 ∨ y = 10)) → J' r y = JC r y) → ∃ r J' I' K', gReform_readLine_0 o x J L = (r, J', L) ∧ gModel_readReform_0 m I K = (0, I', K') ∧ RfL o x J J' ∧ MrL m I I' K K' ∧ ((r = 1 ∧ ∃ j', j < j' ∧ RQ B N T x o m J' L I' K' j' ∧ I' (m + 29) 4 = ((n + 1 : Nat) : Int)) ∨ (r = 0 ∧ Sb false B N T x m J' L I')) := by
      intro JA f p a1 a2 i4 hf i5 hcl
      rw [gB3t a1] at ecl
      obtain ⟨JC, t1, t2, t3, t4, t5⟩ := c_tail (x := x) (L := L) (J := JA) (o := o) (s := sgS zn) ((a2.1 o 8 (by omega) (by omega) (by omega)).trans c98)
      obtain ⟨J', q1, q2, q3, q4, q5⟩ := hcl JC t5
      rw [gB3t (mb_must (by rw [i4]; exact hf) _)] at eml
      obtain ⟨I', y1, y2, y3, y4, y5, y6⟩ := m_tail (m := m) (I := I4) (K := K4) (zn := zn) I44 (b : Int)
      refine ⟨0, J', I', K4, ecl.trans (t1.trans q1), eml.trans y1, fun r y p1 p2 p3 => ?_, ⟨fun r y p1 p2 p3 p4 p5 => (y6 r y (by omega) p5).trans (i4o r y p1 p2 p3), k4o⟩, Or.inr ⟨rfl, q2, hX3.mv (y6 _ _ (by omega) (by omega)) (by funext y; exact y6 _ y (by omega) (by omega)), (y6 m 11 (by omega) (by omega)).trans h11, by rw [q3]; exact hf, by rw [q3, y6 m 4 (by omega) (by omega)]; exact i4, by rw [q4, y6 m 5 (by omega) (by omega)]; exact i5⟩⟩
      rw [q5 r y p1, t5 r y (by omega) (by omega), a2.1 r y p1 (by omega) (by omega)]
      exact c9 r y (by omega) (by omega) (by omega)
    generalize (rdP (tkT B N T) (zn : Int) 8).1 0 (j + 1) u [] = r at rd e3 ok
    match r, rd, e3, ok with
    | .inr (f, p), ⟨JA, a1, a2, a3, a4, a5, a6⟩, ⟨b1, b2, b3⟩, _ =>
      refine bad JA f p a1 a2 b1 b2 b3 (fun JC hJ => ⟨JC, cb_close (by rw [hJ x 7 (by omega) (by omega), a4]; exact a5), a3.mvR (fun r p q => by funext y; exact hJ r y (by omega) (by omega)) (hJ x 6 (by omega) (by omega)), by rw [hJ x 7 (by omega) (by omega)]; exact a4, by rw [hJ x 8 (by omega) (by omega)]; exact a6, fun _ _ _ => rfl⟩)
    | .inl (j', u', c'), ⟨JA, a1, a2, a3, a4, a5⟩, e3, ok =>
      obtain ⟨o1, o2, o3, o4, o5, o6⟩ := ok
      have m10 := a2.2
      have m11 := a3.2.2.1
      have m12 := hC9.2.2.1
      by_cases q4 : rkT (tkT B N T) j' = 4
      · have e4 : (if rkT (tkT B N T) j' = 4 then (I4 m 4 = rdMi (tkT B N T) j' ∧ I4 m 5 = ((tkS false B N j' : Nat) : Int)) else (Mg false B N m I4 K4 (tkS false B N j') ∧ j' ≤ T ∧ I4 m 46 = (u' : Int) ∧ MD B N m (fun y => I (m + 30) (2800 + y)) (fun y => I (m + 31) (2800 + y)) b I4 c')) := e3
        rw [if_pos q4] at e4
        refine bad JA _ j' a1 a2 e4.1 (by unfold rdMi; split <;> decide) e4.2 (fun JC hJ => ?_)
        have hCC : Cg false B N T x JC L j' := a3.mvO (fun r y p q => hJ r y (by omega) (by omega))
        have n59 : ¬ rdG (tkT B N T) j' 59 := fun q => by
          rcases (rk_g (t := tkT B N T) (j := j')).1.mp q4 with s | s | s <;> (have s1 := s.2; have s2 := q.2; omega)
        have ep : gTape_passIf_0 x JC L 0 = (0, q_u (q_u JC x 7 (if tkK false B N (tkS false B N j') = 5 then 1 else 2)) x 8 ((tkS false B N j' : Nat) : Int), L) := by
          unfold gTape_passIf_0
          rw [if_pos (show (0 : Int) = 0 by decide), gB3t (hCC.refuse 2)]
        have v7 : q_u (q_u JC x 7 (if tkK false B N (tkS false B N j') = 5 then 1 else 2)) x 8 ((tkS false B N j' : Nat) : Int) x 7 = rdMi (tkT B N T) j' := by rw [q_u_k (by decide), q_u_at, rdMi_t a3.2.1]
        refine ⟨_, ?_, hCC.1.mv (cfr78 hCC.2.2.2.1), v7, q_u_at, fun r y p => by rw [q_u_off (by omega), q_u_off (by omega)]⟩
        unfold gTape_closeLine_0
        rw [gLetp, hCC.rG 59, if_neg n59, gB3t ep, gLetp, v7, if_neg (by unfold rdMi; split <;> decide)]
      · have e4 : (if rkT (tkT B N T) j' = 4 then (I4 m 4 = rdMi (tkT B N T) j' ∧ I4 m 5 = ((tkS false B N j' : Nat) : Int)) else (Mg false B N m I4 K4 (tkS false B N j') ∧ j' ≤ T ∧ I4 m 46 = (u' : Int) ∧ MD B N m (fun y => I (m + 30) (2800 + y)) (fun y => I (m + 31) (2800 + y)) b I4 c')) := e3
        rw [if_neg q4] at e4
        obtain ⟨x1, x2, x3, x4⟩ := e4
        have a1' : (gRP o x 8).1 J9 L 0 = (0, JA, L) := a1
        rw [gB3t a1'] at ecl
        obtain ⟨JC, t1, t2, t3, t4, t5⟩ := c_tail (x := x) (L := L) (J := JA) (o := o) (s := sgS zn) ((a2.1 o 8 (by omega) (by omega) (by omega)).trans c98)
        have hCC : Cg false B N T x JC L j' := a3.mvO (fun r y p q => t5 r y (by omega) (by omega))
        have sy : Sy false B N T x m JC L I4 K4 := Or.inl ⟨j', hCC, x1⟩
        obtain ⟨JZ, IA, KA, w1, w2, w3, w4, w5, w6⟩ := sy.close hB
        rw [gB3t w2] at eml
        have IA44 : IA m 44 = 4 := (w5.1 m 44 (by omega)).trans I44
        obtain ⟨I', y1, y2, y3, y4, y5, y6⟩ := m_tail (m := m) (I := IA) (K := KA) (zn := zn) IA44 (b : Int)
        have fJ : RfL o x J JZ := fun r y p1 p2 p3 => by
          rw [w4.1 r y (by omega), t5 r y (by omega) (by omega), a2.1 r y p1 (by omega) (by omega)]
          exact c9 r y (by omega) (by omega) (by omega)
        have fI : MrL m I I' K KA := ⟨fun r y p1 p2 p3 p4 p5 => (y6 r y (by omega) p5).trans ((w5.1 r y (by omega)).trans (i4o r y p1 p2 p3)), fun r y p => (w5.2 r y p).trans (k4o r y p)⟩
        refine ⟨_, JZ, I', KA, ecl.trans (t1.trans w1), eml.trans y1, fJ, fI, ?_⟩
        have uz : ∀ r y, ¬ (r = x ∧ (y = 7 ∨ y = 8 ∨ y = 10)) → JZ r y = JC r y := fun r y p => w4.1 r y p
        by_cases gd : JZ x 7 = 0
        · left
          rw [if_pos gd]
          obtain ⟨j2, g1, g2⟩ := w3.gd gd
          have j2j : j < j2 := by
            have q1 := w6 gd
            have q2 := g1.2.2.1
            have q3 := hCC.2.2.1
            omega
          have gm : Mg false B N m I' KA (tkS false B N j2) := g2.mv (fun y hy => y6 m y (by omega) (by omega)) (by funext y; exact y6 (m + 2) y (by omega) (by omega)) rfl
          have rg := rl_good (zn := zn) (b := b) (u' := u') (j' := j') (J := J) (I := I) (o := o) (m := m) (JA := JA) (IA := I4) (JZ := JZ) (IZ := I') hTe hT7 hz hzc hRf o6 a5 x4 o1 o2 a4 x3 o4 ⟨(a2.1 o 6 (by omega) (by omega) (by omega)).trans (c9 o 6 (by omega) (by omega) (by omega)), fun y => (a2.1 (o + 3) y (by omega) (by omega) (by omega)).trans (c9 (o + 3) y (by omega) (by omega) (by omega)), (a2.1 (o + 2) _ (by omega) (by omega) (by omega)).trans c92, fun y hy => (a2.1 (o + 2) y (by omega) (by omega) (by omega)).trans (c9 (o + 2) y (by omega) (by omega) (by omega))⟩ ⟨fun y => i4o _ y (by omega) (by omega) (by omega), fun y => i4o _ y (by omega) (by omega) (by omega), fun y => i4o _ y (by omega) (by omega) (by omega)⟩ ((uz _ _ (by omega)).trans t2) (fun y hy => (uz _ _ (by omega)).trans (t3 y hy)) ((uz _ _ (by omega)).trans t4) (fun r y p1 p2 p3 p4 => (uz _ _ (by omega)).trans (t5 r y p3 p4)) y2 (y3.trans (w5.1 m 45 (by omega))) (by rw [y4, w5.1 (m + 28) 4 (by omega)]) (fun r y p q => (y6 r y q (by omega)).trans (w5.1 r y (by omega)))
          obtain ⟨p1, p2, b2, p3, p4, p5⟩ := rg
          have jj : j' ≤ j2 := by
            have q1 := w6 gd
            have q2 := g1.2.2.1
            have q3 := hCC.2.2.1
            omega
          refine ⟨rfl, j2, j2j, ⟨⟨g1, gm⟩, p1, p2, b2, p3, Nat.le_trans p4 jj, p5⟩, ?_⟩
          rw [y5, w5.1 (m + 29) 4 (by omega), i4o (m + 29) 4 (by omega) (by omega) (by omega), hn, wAdd_r (by omega) (by omega) (by decide) (by decide) (by omega) (by omega)]
          rfl
        · right
          rw [if_neg gd]
          obtain ⟨v1, v2, v3, v4, v5, v6⟩ := w3.bd gd
          exact ⟨rfl, v1, v2.mv (y6 _ _ (by omega) (by omega)) (by funext y; exact y6 _ y (by omega) (by omega)), (y6 m 11 (by omega) (by omega)).trans v3, v4, (y6 m 4 (by omega) (by omega)).trans v5, (y6 m 5 (by omega) (by omega)).trans v6⟩
  · -- no line may begin here
    have c8 : ∀ r y, ¬ (r = o ∧ y = 8) → q_u J o 8 (-1) r y = J r y := fun r y q => q_u_off q
    have hC2 : Cg false B N T x (q_u J o 8 (-1)) L j := hC.mvO (fun r y p q => c8 r y (by omega))
    have sb := Sg.fail (J := q_u J o 8 (-1)) (I := I) ⟨hC2, hM⟩ (f := if tkK false B N (tkS false B N j) = 5 then 1 else 2) (by split <;> decide)
    refine ⟨0, _, _, K, ?_, f2, fun r y p1 p2 p3 => ?_, ⟨fun r y p1 _ _ _ _ => by rw [q_u_off (by omega), q_u_off (by omega)], fun _ _ _ => rfl⟩, Or.inr ⟨rfl, sb⟩⟩
    · unfold gReform_readLine_0
      rw [gLetp, f1, gLetp, gLetp, q_u_at, if_pos rfl, gB3t (hC2.refuse 2)]
    · rw [q_u_off (by omega), q_u_off (by omega)]
      exact c8 r y (by omega)
end RL2
