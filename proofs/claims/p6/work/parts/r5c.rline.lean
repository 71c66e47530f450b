/-! A REFORM's line, in both. By hand. -/
/-- where the class keeps the line of a sort -/
def sgS (z : Nat) : Nat := if z = 0 then 0 else z + 1
/-- a line of both: in neither, or the same code -/
def SLt (J : gJ) (o : Nat) (I : gJ) (m k z b : Nat) : Prop := (J (o + 3) (sgS z) = 0 ∧ I (m + 26) (10 * k + z) = -1 ∧ 0 ≤ J (o + 2) (sgS z)) ∨ ∃ F n : Nat, 1 ≤ n ∧ F + n ≤ b ∧ J (o + 2) (sgS z) = (F : Int) ∧ J (o + 3) (sgS z) = ((F + n : Nat) : Int) ∧ I (m + 26) (10 * k + z) = (F : Int) ∧ I (m + 27) (10 * k + z) = ((F + n : Nat) : Int) ∧ WfC (J (o + 1)) (z : Int) F n
/-- the class's REFORM at o is the reference's on shelf k -/
def RfB (J : gJ) (o : Nat) (I : gJ) (m k b : Nat) : Prop := J o 4 = (b : Int) ∧ b ≤ 700 ∧ J o 6 = I (m + 28) k ∧ 0 ≤ J o 6 ∧ J o 6 ≤ 5 ∧ (∀ y, y < b → MT (J (o + 1) y) (I (m + 30) (700 * k + y)) (I (m + 31) (700 * k + y))) ∧ (∀ z, z < 10 → SLt J o I m k z b) ∧ ∀ z : Nat, 5 + J o 6 ≤ (z : Int) → z < 10 → J (o + 3) (z + 1) = 0
/-- both between two lines -/
def RQ (B : Nat → Int) (N T x o m : Nat) (J : gJ) (L : gL) (I : gJ) (K : gL) (j : Nat) : Prop := Sg false B N T x m J L I K j ∧ I m 44 = 4 ∧ (∃ u : Nat, J o 7 = (u : Int) ∧ I m 46 = (u : Int) ∧ u ≤ 100) ∧ ∃ b : Nat, RfB J o I m 4 b ∧ b ≤ j ∧ I m 45 = (b : Int)
def RfL (o x : Nat) (J J' : gJ) : Prop := ∀ r y, ¬ (r = x ∧ (y = 7 ∨ y = 8 ∨ y = 10)) → ¬ (r = o ∧ (y = 4 ∨ y = 6 ∨ y = 7 ∨ y = 8)) → ¬ (o + 1 ≤ r ∧ r ≤ o + 3) → J' r y = J r y
def MrL (m : Nat) (I I' : gJ) (K K' : gL) : Prop := (∀ r y, ¬ (r = m ∧ ((4 ≤ y ∧ y ≤ 9) ∨ (45 ≤ y ∧ y ≤ 49))) → ¬ (m + 32 ≤ r ∧ r ≤ m + 33) → ¬ ((r = m + 30 ∨ r = m + 31) ∧ 2800 ≤ y ∧ y < 3500) → ¬ ((r = m + 26 ∨ r = m + 27) ∧ 40 ≤ y ∧ y < 50) → ¬ ((r = m + 28 ∨ r = m + 29) ∧ y = 4) → I' r y = I r y) ∧ ∀ r y, ¬ (r = m ∧ y = 10) → K' r y = K r y
section RL
variable {B : Nat → Int} {N T o x m j u b : Nat} {J J2 J3 J' : gJ} {L : gL} {I I2 I3 I' : gJ} {K K2 K3 : gL} {z : Int} {g gn : Nat → Int} {c : rdC}
theorem RfL.tr (h : RfL o x J J2) (q : RfL o x J2 J3) : RfL o x J J3 := fun r y a b c => (q r y a b c).trans (h r y a b c)
theorem MrL.tr (h : MrL m I I2 K K2) (q : MrL m I2 I3 K2 K3) : MrL m I I3 K K3 := ⟨fun r y a b c d e => (q.1 r y a b c d e).trans (h.1 r y a b c d e), fun r y a => (q.2 r y a).trans (h.2 r y a)⟩
theorem MrF.mrl (h : MrF m I I2 K K2) : MrL m I I2 K K2 := ⟨fun r y a b c _ _ => h.1 r y (by omega) b c, h.2⟩
/-- the reference reads a line's expression -/
theorem m_e (hB : BR B) (hTe : tkK false B N (tkS false B N T) = 0 ∨ tkK false B N (tkS false B N T) = 5) (hT : T ≤ 700) (h1 : Mg false B N m I K (tkS false B N j)) (h2 : j ≤ T) (h46 : I m 46 = (u : Int)) (hu : u ≤ 100) (h49 : I m 49 = z) (hb : b ≤ j) (hM : MD B N m g gn b I []) : ∃ I2 K2, gModel_e_0 m I K = (0, I2, K2) ∧ MrF m I I2 K K2 ∧ match (rdP (tkT B N T) z 8).1 0 j u [] with
    | .inl (j', u', c') => if rkT (tkT B N T) j' = 4 then (I2 m 4 = rdMi (tkT B N T) j' ∧ I2 m 5 = ((tkS false B N j' : Nat) : Int)) else (Mg false B N m I2 K2 (tkS false B N j') ∧ j' ≤ T ∧ I2 m 46 = (u' : Int) ∧ MD B N m g gn b I2 c')
    | .inr (f, p) => I2 m 4 = f ∧ f ≠ 0 ∧ I2 m 5 = ((tkS false B N p : Nat) : Int) := by
  unfold gModel_e_0
  rw [gLetp, gLetp]
  have e48 : q_u (q_u I m 48 0) m 47 0 m 48 = ((0 : Nat) : Int) := by rw [q_u_k (by decide), q_u_at]; rfl
  have e47 : q_u (q_u I m 48 0) m 47 0 m 47 = 0 := q_u_at
  have eo : ∀ r y, ¬ (r = m ∧ (y = 47 ∨ y = 48)) → q_u (q_u I m 48 0) m 47 0 r y = I r y := fun r y q => by rw [q_u_off (by omega), q_u_off (by omega)]
  generalize q_u (q_u I m 48 0) m 47 0 = I1 at e48 e47 eo ⊢
  obtain ⟨I3, p1, p2, p3, p4, p5, p6, p7⟩ := m_pile (K := K) e48 8 0
  have eo3 : ∀ r y, ¬ (r = m ∧ (y = 47 ∨ y = 48)) → r ≠ m + 32 → r ≠ m + 33 → I3 r y = I r y := fun r y q a b => (p7 r y (by omega) a b).trans (eo r y q)
  rw [gB3t p1]
  have fr : MrF m I I3 K K := ⟨fun r y p q _ => eo3 r y (by omega) (by omega) (by omega), fun _ _ _ => rfl⟩
  have pm : PM B N T m g gn b z [(8, 0)] 0 j u [] I3 K := by
    refine ⟨h1.mv (fun y hy => eo3 m y (by omega) (by omega) (by omega)) (by funext y; exact eo3 _ y (by omega) (by omega) (by omega)) rfl, h2, p2, ⟨p3, trivial⟩, ?_, ?_, ?_, ?_, Or.inl ⟨rfl, rfl⟩, rfl, ⟨fun q => absurd q (by decide), trivial⟩, hM.mv (eo3 _ _ (by omega) (by omega) (by omega)) (eo3 _ _ (by omega) (by omega) (by omega)) (by funext y; exact eo3 _ y (by omega) (by omega) (by omega)) (by funext y; exact eo3 _ y (by omega) (by omega) (by omega))⟩
    · rw [p7 m 47 (by omega) (by omega) (by omega), e47]; rfl
    · rw [eo3 m 46 (by omega) (by omega) (by omega)]; exact h46
    · rw [eo3 m 49 (by omega) (by omega) (by omega)]; exact h49
    · show b + 0 + 1 ≤ j + 1; omega
  have w := pm_whole (t := tkT B N T) (z := z) (T := T) (j := j) (u := u) (fun i q => (tkT_K hTe).rk q) (by omega) hu
  have ok := rd_ok (t := tkT B N T) (z := z) (tkT_K hTe) h2 hu
  generalize (rdP (tkT B N T) z 8).1 0 j u [] = r at w ok ⊢
  match r, w, ok with
  | .inl (j', u', c'), ⟨w1, w2, n, w3, w4⟩, ok =>
    have jT : j' ≤ T := ok.2.2.2.2.2
    have w5 := w4 0
    by_cases a : rkT (tkT B N T) j' = 4
    · rw [if_pos a] at w5
      obtain ⟨I4, K4, e1, e2, e3⟩ := m_e19 hB hTe hT (n + 0) 1000000 true [(8, 0)] 0 j u [] I3 K (by omega) hu pm _ w5
      rw [if_pos rfl] at e1
      refine ⟨I4, K4, e1, fr.tr e2, ?_⟩
      dsimp only
      rw [if_pos a]
      exact ⟨e3.1, e3.2.2⟩
    · rw [if_neg a] at w5
      obtain ⟨I4, K4, e1, e2, e3⟩ := m_e19 hB hTe hT (n + 0) 1000000 true [(8, 0)] 0 j u [] I3 K (by omega) hu pm _ w5
      rw [if_pos rfl] at e1
      refine ⟨I4, K4, e1, fr.tr e2, ?_⟩
      dsimp only
      rw [if_neg a]
      exact e3
  | .inr (f, p), ⟨w1, n, w3, w4⟩, ok =>
    have pT : p ≤ T := ok
    obtain ⟨I4, K4, e1, e2, e3⟩ := m_e19 hB hTe hT (n + 0) 1000000 true [(8, 0)] 0 j u [] I3 K (by omega) hu pm _ (w4 0)
    rw [if_pos rfl] at e1
    exact ⟨I4, K4, e1, fr.tr e2, e3⟩
theorem Cg.mvO (h : Cg false B N T x J L j) (e : ∀ r y, x ≤ r → r ≤ x + 6 → J' r y = J r y) : Cg false B N T x J' L j := ⟨h.1.mvR (fun r a b => by funext y; exact e r y (by omega) (by omega)) (e x 6 (by omega) (by omega)), h.2.1, by rw [e x 10 (by omega) (by omega)]; exact h.2.2.1, by rw [e x 7 (by omega) (by omega)]; exact h.2.2.2.1, by rw [e x 8 (by omega) (by omega)]; exact h.2.2.2.2⟩
theorem cb_close (h : J x 7 ≠ 0) : gTape_closeLine_0 x J L = (0, J, L) := by
  have e : gTape_passIf_0 x J L 0 = (0, J, L) := by
    unfold gTape_passIf_0
    rw [if_pos (show (0 : Int) = 0 by decide), gB3t (cb_refuse h 2)]
  unfold gTape_closeLine_0
  rw [gLetp, cb_isSign h, gB3t e, gLetp, if_neg h]
/-- the end of a line in the class -/
theorem c_tail {s : Nat} (h8 : J o 8 = (s : Int)) : ∃ J', (gLet (J o 8) (fun (v_13 : Int) => gLet (J o 4) (fun (v_14 : Int) => gLet (q_u J (o + 3) (Int.toNat v_13) v_14) (fun (J_15 : gJ) => gLet (J_15 o 8) (fun (v_16 : Int) => (if v_16 < 6 then gB3 (gTape_closeLine_0 x J_15 L) (fun r_17 J_18 L_19 => (r_17, J_18, L_19)) else gLet (J_15 o 6) (fun (v_20 : Int) => gLet (v_20 + 1) (fun (v_21 : Int) => gLet (q_u J_15 o 6 v_21) (fun (J_22 : gJ) => gB3 (gTape_closeLine_0 x J_22 L) (fun r_23 J_24 L_25 => (r_23, J_24, L_25))))))))))) = gTape_closeLine_0 x J' L ∧ J' (o + 3) s = J o 4 ∧ (∀ y, y ≠ s → J' (o + 3) y = J (o + 3) y) ∧ J' o 6 = (if s < 6 then J o 6 else J o 6 + 1) ∧ ∀ r y, ¬ (r = o ∧ y = 6) → r ≠ o + 3 → J' r y = J r y := by
  rw [gLetp, gLetp, gLetp, gLetp, h8, Int.toNat_natCast, q_u_ne (show o ≠ o + 3 by omega), h8]
  by_cases a : s < 6
  · rw [if_pos (by omega), if_pos a, gB3p]
    exact ⟨_, rfl, q_u_at, fun y hy => q_u_k hy, by rw [q_u_ne (by omega)], fun r y p q => by rw [q_u_ne q]⟩
  · rw [if_neg (by omega), if_neg a, gLetp, gLetp, gLetp, gB3p]
    refine ⟨_, rfl, ?_, fun y hy => ?_, ?_, fun r y p q => ?_⟩
    · rw [q_u_ne (by omega), q_u_at]
    · rw [q_u_ne (by omega), q_u_k hy]
    · rw [q_u_at]
    · rw [q_u_off p, q_u_ne q]
/-- the end of a line in the reference -/
theorem m_tail {zn : Nat} (h44 : I m 44 = 4) (F : Int) : ∃ I', (gLet (I m 44) (fun (v_16 : Int) => gLet (10 * v_16) (fun (v_17 : Int) => gLet (v_17 + (zn : Int)) (fun (v_18 : Int) => gLet (q_u I (m + 26) (Int.toNat v_18) F) (fun (J_19 : gJ) => gLet (J_19 m 44) (fun (v_20 : Int) => gLet (10 * v_20) (fun (v_21 : Int) => gLet (v_21 + (zn : Int)) (fun (v_22 : Int) => gLet (J_19 m 45) (fun (v_23 : Int) => gLet (q_u J_19 (m + 27) (Int.toNat v_22) v_23) (fun (J_24 : gJ) => (if (zn : Int) < 5 then (gModel_readReform_228 m J_24 K (zn : Int) F) else gLet (J_24 m 44) (fun (v_25 : Int) => gLet (J_24 (m + 28) (Int.toNat v_25)) (fun (v_26 : Int) => gLet (v_26 + 1) (fun (v_27 : Int) => gLet (q_u J_24 (m + 28) (Int.toNat v_25) v_27) (fun (J_28 : gJ) => (gModel_readReform_228 m J_28 K (zn : Int) F)))))))))))))))) = (0, I', K) ∧ I' (m + 26) (40 + zn) = F ∧ I' (m + 27) (40 + zn) = I m 45 ∧ I' (m + 28) 4 = (if zn < 5 then I (m + 28) 4 else I (m + 28) 4 + 1) ∧ I' (m + 29) 4 = wAdd (I (m + 29) 4) 1 ∧ ∀ r y, ¬ ((r = m + 26 ∨ r = m + 27) ∧ y = 40 + zn) → ¬ ((r = m + 28 ∨ r = m + 29) ∧ y = 4) → I' r y = I r y := by
  have n1 : Int.toNat (10 * 4 + (zn : Int)) = 40 + zn := by omega
  rw [gLetp, gLetp, gLetp, h44, n1, gLetp]
  have a44 : q_u I (m + 26) (40 + zn) F m 44 = 4 := by rw [q_u_ne (by omega)]; exact h44
  have a45 : q_u I (m + 26) (40 + zn) F m 45 = I m 45 := by rw [q_u_ne (by omega)]
  rw [gLetp, gLetp, gLetp, gLetp, a44, n1, a45, gLetp]
  have b44 : q_u (q_u I (m + 26) (40 + zn) F) (m + 27) (40 + zn) (I m 45) m 44 = 4 := by rw [q_u_ne (by omega)]; exact a44
  have b26 : q_u (q_u I (m + 26) (40 + zn) F) (m + 27) (40 + zn) (I m 45) (m + 26) (40 + zn) = F := by rw [q_u_ne (by omega), q_u_at]
  have b27 : q_u (q_u I (m + 26) (40 + zn) F) (m + 27) (40 + zn) (I m 45) (m + 27) (40 + zn) = I m 45 := q_u_at
  have bo : ∀ r y, ¬ ((r = m + 26 ∨ r = m + 27) ∧ y = 40 + zn) → q_u (q_u I (m + 26) (40 + zn) F) (m + 27) (40 + zn) (I m 45) r y = I r y := fun r y q => by rw [q_u_off (by omega), q_u_off (by omega)]
  generalize q_u (q_u I (m + 26) (40 + zn) F) (m + 27) (40 + zn) (I m 45) = I2 at b44 b26 b27 bo ⊢
  have n4 : Int.toNat 4 = 4 := rfl
  by_cases a : zn < 5
  · rw [if_pos (show (zn : Int) < 5 by omega), if_pos a]
    unfold gModel_readReform_228
    rw [gLetp, gLetp, gLetp, gLetp, b44, n4]
    refine ⟨_, rfl, ?_, ?_, ?_, ?_, fun r y p q => ?_⟩
    · rw [q_u_ne (by omega)]; exact b26
    · rw [q_u_ne (by omega)]; exact b27
    · rw [q_u_ne (by omega)]; exact bo _ _ (by omega)
    · rw [q_u_at, bo _ _ (by omega)]
    · rw [q_u_off (by omega)]; exact bo r y p
  · rw [if_neg (show ¬ (zn : Int) < 5 by omega), if_neg a, gLetp, gLetp, gLetp, gLetp, b44, n4]
    unfold gModel_readReform_228
    have c44 : q_u I2 (m + 28) 4 (I2 (m + 28) 4 + 1) m 44 = 4 := by rw [q_u_ne (by omega)]; exact b44
    rw [gLetp, gLetp, gLetp, gLetp, c44, n4]
    refine ⟨_, rfl, ?_, ?_, ?_, ?_, fun r y p q => ?_⟩
    · rw [q_u_ne (by omega), q_u_ne (by omega)]; exact b26
    · rw [q_u_ne (by omega), q_u_ne (by omega)]; exact b27
    · rw [q_u_ne (by omega), q_u_at, bo _ _ (by omega)]
    · rw [q_u_at, q_u_ne (by omega), bo _ _ (by omega)]
    · rw [q_u_off (by omega), q_u_off (by omega)]; exact bo r y p
/-- what is wrong stops a line at once -/
theorem m_wr (h : Mg false B N m I K (tkS false B N j)) (F : gJ → gL → Int × gJ × gL) : gB3 (gModel_wrong_0 m I K) (fun _ J2 L3 => gLet (gModel_isGood_0 m J2 L3) (fun (r : Int) => (if r = 0 then ((0 : Int), J2, L3) else F J2 L3))) = (0, q_u (q_u I m 4 (if tkK false B N (tkS false B N j) = 5 then 1 else 2)) m 5 ((tkS false B N j : Nat) : Int), K) := by
  rw [gB3t h.wrong, gLetp, mb_isGood (by rw [q_u_k (by decide), q_u_at]; split <;> decide), if_pos (show (0 : Int) = 0 by decide)]
/-- the line's sort, in both -/
theorem rl_slot (h : Sg false B N T x m J L I K j) (h44 : I m 44 = 4) (h6 : J o 6 = I (m + 28) 4) (h60 : 0 ≤ J o 6) (h65 : J o 6 ≤ 5) (hS : ∀ z, z < 10 → SLt J o I m 4 z b) (hU : ∀ z : Nat, 5 + J o 6 ≤ (z : Int) → z < 10 → J (o + 3) (z + 1) = 0) : (∃ zn : Nat, zn < 10 ∧ tkK false B N (tkS false B N j) = 1 ∧ gReform_freeSlot_0 o x J L = ((sgS zn : Nat) : Int) ∧ gModel_readReform_0 m I K = gModel_readReform_132 m I K (zn : Int) (zn : Int) 40 ∧ (zn < 5 ∨ (zn : Int) = 5 + J o 6) ∧ J (o + 3) (sgS zn) = 0 ∧ I (m + 26) (40 + zn) = -1) ∨ (gReform_freeSlot_0 o x J L = -1 ∧ gModel_readReform_0 m I K = (0, q_u (q_u I m 4 (if tkK false B N (tkS false B N j) = 5 then 1 else 2)) m 5 ((tkS false B N j : Nat) : Int), K)) := by
  obtain ⟨hC, hM⟩ := h
  have hj := hC.2.1
  have n4 : Int.toNat 4 = 4 := rfl
  -- a sort that both know
  have some : ∀ zn : Nat, zn < 10 → tkK false B N (tkS false B N j) = 1 → (zn < 5 ∨ (zn : Int) = 5 + J o 6) → gReform_freeSlot_0 o x J L = (if J (o + 3) (sgS zn) = 0 then ((sgS zn : Nat) : Int) else -1) → gModel_readReform_0 m I K = gModel_readReform_95 m I K (zn : Int) → (∃ zn : Nat, zn < 10 ∧ tkK false B N (tkS false B N j) = 1 ∧ gReform_freeSlot_0 o x J L = ((sgS zn : Nat) : Int) ∧ gModel_readReform_0 m I K = gModel_readReform_132 m I K (zn : Int) (zn : Int) 40 ∧ (zn < 5 ∨ (zn : Int) = 5 + J o 6) ∧ J (o + 3) (sgS zn) = 0 ∧ I (m + 26) (40 + zn) = -1) ∨ (gReform_freeSlot_0 o x J L = -1 ∧ gModel_readReform_0 m I K = (0, q_u (q_u I m 4 (if tkK false B N (tkS false B N j) = 5 then 1 else 2)) m 5 ((tkS false B N j : Nat) : Int), K)) := by
    intro zn hz k1 hc ec em
    have e95 : gModel_readReform_95 m I K (zn : Int) = gModel_readReform_132 m I K (zn : Int) (zn : Int) 40 := by
      unfold gModel_readReform_95
      rw [if_neg (by omega), if_neg (by omega), gLetp, gLetp, h44, if_neg (by omega), if_pos (by omega)]
      rfl
    rcases hS zn hz with ⟨s1, s2, _⟩ | ⟨F, n, s1, s2, s3, s4, s5, s6, s7⟩
    · left
      rw [if_pos s1] at ec
      exact ⟨zn, hz, k1, ec, em.trans e95, hc, s1, s2⟩
    · right
      rw [if_neg (by rw [s4]; omega)] at ec
      refine ⟨ec, em.trans (e95.trans ?_)⟩
      unfold gModel_readReform_132
      have s5' : I (m + 26) (40 + zn) = (F : Int) := s5
      rw [gLetp, gLetp, show Int.toNat (40 + (zn : Int)) = 40 + zn by omega, s5', if_neg (by omega)]
      exact m_wr hM _
  -- none
  have none : gReform_freeSlot_0 o x J L = -1 → gModel_readReform_0 m I K = gModel_readReform_95 m I K (-1) ∨ gModel_readReform_0 m I K = gModel_readReform_95 m I K 10 → gReform_freeSlot_0 o x J L = -1 ∧ gModel_readReform_0 m I K = (0, q_u (q_u I m 4 (if tkK false B N (tkS false B N j) = 5 then 1 else 2)) m 5 ((tkS false B N j : Nat) : Int), K) := by
    intro ec em
    refine ⟨ec, ?_⟩
    rcases em with em | em
    · rw [em]
      unfold gModel_readReform_95
      rw [if_pos (by decide)]
      exact m_wr hM _
    · rw [em]
      unfold gModel_readReform_95
      rw [if_neg (by decide), if_pos rfl]
      exact m_wr hM _
  have w14 : gModel_isWord_0 m I K 1918989413 = if rdW (tkT B N T) j 14 then 1 else 0 := hM.rW hj (k := 14) (by decide)
  have w16 : gModel_isWord_0 m I K 1668245870 = if rdW (tkT B N T) j 16 then 1 else 0 := hM.rW hj (k := 16) (by decide)
  have w17 : gModel_isWord_0 m I K 1836020596 = if rdW (tkT B N T) j 17 then 1 else 0 := hM.rW hj (k := 17) (by decide)
  have w18 : gModel_isWord_0 m I K 7627128 = if rdW (tkT B N T) j 18 then 1 else 0 := hM.rW hj (k := 18) (by decide)
  have w19 : gModel_isWord_0 m I K 444350952036 = if rdW (tkT B N T) j 19 then 1 else 0 := hM.rW hj (k := 19) (by decide)
  have w15 : gModel_isWord_0 m I K 427020088179 = if rdW (tkT B N T) j 15 then 1 else 0 := hM.rW hj (k := 15) (by decide)
  have em : gModel_readReform_0 m I K = (if rdW (tkT B N T) j 14 then gModel_readReform_95 m I K 0 else if rdW (tkT B N T) j 16 then gModel_readReform_95 m I K 1 else if rdW (tkT B N T) j 17 then gModel_readReform_95 m I K 2 else if rdW (tkT B N T) j 18 then gModel_readReform_95 m I K 3 else if rdW (tkT B N T) j 19 then gModel_readReform_95 m I K 4 else if rdW (tkT B N T) j 15 then gModel_readReform_95 m I K (5 + J o 6) else gModel_readReform_95 m I K (-1)) := by
    unfold gModel_readReform_0
    rw [gLetp, w14, if_one, gLetp, w16, if_one, gLetp, w17, if_one, gLetp, w18, if_one, gLetp, w19, if_one, gLetp, w15, if_one, gLetp, gLetp, gLetp, h44, n4, ← h6]
  by_cases k1 : tkK false B N (tkS false B N j) = 1
  · have wv : ∀ k : Int, rdW (tkT B N T) j k ↔ vW (tkW B N (tkS false B N j)) = k := fun k => ⟨fun q => ((rdW_t hj).mp q).2, fun q => (rdW_t hj).mpr ⟨k1, q⟩⟩
    have ec : gReform_freeSlot_0 o x J L = (if vW (tkW B N (tkS false B N j)) < 14 then -1 else if vW (tkW B N (tkS false B N j)) ≤ 19 then (if vW (tkW B N (tkS false B N j)) = 15 then (if 5 ≤ J o 6 then -1 else 6 + J o 6) else (if J (o + 3) (Int.toNat (vW (tkW B N (tkS false B N j)) - 14)) = 0 then vW (tkW B N (tkS false B N j)) - 14 else -1)) else -1) := by
      unfold gReform_freeSlot_0
      simp only [gLetp]
      rw [hC.kind, if_pos k1, hC.valW k1]
    generalize vW (tkW B N (tkS false B N j)) = y at wv ec
    have pick : ∀ (k : Int) (zn : Nat), zn < 5 → k = ((sgS zn : Nat) : Int) + 14 → k ≠ 15 → k ≤ 19 → y = k → gReform_freeSlot_0 o x J L = (if J (o + 3) (sgS zn) = 0 then ((sgS zn : Nat) : Int) else -1) := by
      intro k zn hz hk k15 k19 hy
      rw [ec, if_neg (by omega), if_pos (by omega), if_neg (by omega), show Int.toNat (y - 14) = sgS zn by omega, show y - 14 = ((sgS zn : Nat) : Int) by omega]
    have nw : ∀ k : Int, y ≠ k → ¬ rdW (tkT B N T) j k := fun k q p => q ((wv k).mp p)
    by_cases y14 : y = 14
    · rw [if_pos ((wv _).mpr y14)] at em
      exact some 0 (by decide) k1 (Or.inl (by decide)) (pick 14 0 (by decide) rfl (by decide) (by decide) y14) em
    rw [if_neg (nw _ y14)] at em
    by_cases y16 : y = 16
    · rw [if_pos ((wv _).mpr y16)] at em
      exact some 1 (by decide) k1 (Or.inl (by decide)) (pick 16 1 (by decide) rfl (by decide) (by decide) y16) em
    rw [if_neg (nw _ y16)] at em
    by_cases y17 : y = 17
    · rw [if_pos ((wv _).mpr y17)] at em
      exact some 2 (by decide) k1 (Or.inl (by decide)) (pick 17 2 (by decide) rfl (by decide) (by decide) y17) em
    rw [if_neg (nw _ y17)] at em
    by_cases y18 : y = 18
    · rw [if_pos ((wv _).mpr y18)] at em
      exact some 3 (by decide) k1 (Or.inl (by decide)) (pick 18 3 (by decide) rfl (by decide) (by decide) y18) em
    rw [if_neg (nw _ y18)] at em
    by_cases y19 : y = 19
    · rw [if_pos ((wv _).mpr y19)] at em
      exact some 4 (by decide) k1 (Or.inl (by decide)) (pick 19 4 (by decide) rfl (by decide) (by decide) y19) em
    rw [if_neg (nw _ y19)] at em
    by_cases y15 : y = 15
    · rw [if_pos ((wv _).mpr y15)] at em
      rw [if_neg (by omega), if_pos (by omega), if_pos y15] at ec
      by_cases f : 5 ≤ J o 6
      · rw [if_pos f] at ec
        exact Or.inr (none ec (Or.inr (by rw [em, show 5 + J o 6 = 10 by omega])))
      · rw [if_neg f] at ec
        obtain ⟨n, hn⟩ : ∃ n : Nat, J o 6 = (n : Int) := ⟨(J o 6).toNat, by omega⟩
        have sg : sgS (5 + n) = 6 + n := by unfold sgS; rw [if_neg (by omega)]; omega
        have fr : J (o + 3) (sgS (5 + n)) = 0 := by
          have q := hU (5 + n) (by omega) (by omega)
          rw [sg, show 6 + n = 5 + n + 1 by omega]
          exact q
        refine some (5 + n) (by omega) k1 (Or.inr (by omega)) ?_ (by rw [em, hn]; rfl)
        rw [if_pos fr, ec, sg, hn]
        rfl
    · rw [if_neg (nw _ y15)] at em
      refine Or.inr (none ?_ (Or.inl em))
      rw [ec]
      by_cases a : y < 14
      · rw [if_pos a]
      · rw [if_neg a, if_neg (by omega)]
  · have nw : ∀ k : Int, ¬ rdW (tkT B N T) j k := fun k q => k1 ((rdW_t hj).mp q).1
    rw [if_neg (nw _), if_neg (nw _), if_neg (nw _), if_neg (nw _), if_neg (nw _), if_neg (nw _)] at em
    refine Or.inr (none ?_ (Or.inl em))
    unfold gReform_freeSlot_0
    rw [gLetp, hC.kind, if_neg k1]
end RL
