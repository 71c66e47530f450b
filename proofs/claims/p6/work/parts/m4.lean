/-! The mirror: m4. By program (grun.py). -/
noncomputable def gModel_measure_239 (K179 : gJ → gL → Int → Int → Int → (Int × gJ × gL)) (o : Nat) (J : gJ) (L : gL) (x1 : Int) (x2 : Int) (x3 : Int) (x4 : Int) : Int × gJ × gL := gLet (x3 + 1) (fun (v_1 : Int) => (K179 J L x1 x2 v_1))
theorem eModel_measure_239 {K179 : gJ → gL → Int → Int → Int → (Int × gJ × gL)} {o : Nat} {J : gJ} {L : gL} {x1 : Int} {x2 : Int} {x3 : Int} {x4 : Int} : gModel_measure_239 K179 o J L x1 x2 x3 x4 = gLet (x3 + 1) (fun (v_1 : Int) => (K179 J L x1 x2 v_1)) := rfl
noncomputable def gModel_measure_179 (k : Nat) (K171 : gJ → gL → Int → Int → (Int × gJ × gL)) (o : Nat) (J : gJ) (L : gL) (x1 : Int) (x2 : Int) (x3 : Int) : Int × gJ × gL := match k with
  | 0 => default
  | k + 1 => (if 16 ≤ x3 then gLet (x2 + 1) (fun (v_1 : Int) => (K171 J L x1 v_1)) else gLet (16 * x2) (fun (v_2 : Int) => gLet (v_2 + x1) (fun (v_3 : Int) => gLet (J (o + 25) (Int.toNat v_3)) (fun (v_4 : Int) => gLet (16 * x1) (fun (v_5 : Int) => gLet (v_5 + x3) (fun (v_6 : Int) => gLet (J (o + 25) (Int.toNat v_6)) (fun (v_7 : Int) => gLet (wAdd v_4 v_7) (fun (v_8 : Int) => gLet (16 * x2) (fun (v_9 : Int) => gLet (v_9 + x3) (fun (v_10 : Int) => gLet (J (o + 25) (Int.toNat v_10)) (fun (v_11 : Int) => (if v_11 ≤ v_8 then (gModel_measure_239 (gModel_measure_179 k K171 o) o J L x1 x2 x3 v_8) else gLet (16 * x2) (fun (v_12 : Int) => gLet (v_12 + x3) (fun (v_13 : Int) => gLet (q_u J (o + 25) (Int.toNat v_13) v_8) (fun (J_14 : gJ) => (gModel_measure_239 (gModel_measure_179 k K171 o) o J_14 L x1 x2 x3 v_8))))))))))))))))
theorem eModel_measure_179 {k : Nat} {K171 : gJ → gL → Int → Int → (Int × gJ × gL)} {o : Nat} {J : gJ} {L : gL} {x1 : Int} {x2 : Int} {x3 : Int} : gModel_measure_179 (k + 1) K171 o J L x1 x2 x3 = (if 16 ≤ x3 then gLet (x2 + 1) (fun (v_1 : Int) => (K171 J L x1 v_1)) else gLet (16 * x2) (fun (v_2 : Int) => gLet (v_2 + x1) (fun (v_3 : Int) => gLet (J (o + 25) (Int.toNat v_3)) (fun (v_4 : Int) => gLet (16 * x1) (fun (v_5 : Int) => gLet (v_5 + x3) (fun (v_6 : Int) => gLet (J (o + 25) (Int.toNat v_6)) (fun (v_7 : Int) => gLet (wAdd v_4 v_7) (fun (v_8 : Int) => gLet (16 * x2) (fun (v_9 : Int) => gLet (v_9 + x3) (fun (v_10 : Int) => gLet (J (o + 25) (Int.toNat v_10)) (fun (v_11 : Int) => (if v_11 ≤ v_8 then (gModel_measure_239 (gModel_measure_179 k K171 o) o J L x1 x2 x3 v_8) else gLet (16 * x2) (fun (v_12 : Int) => gLet (v_12 + x3) (fun (v_13 : Int) => gLet (q_u J (o + 25) (Int.toNat v_13) v_8) (fun (J_14 : gJ) => (gModel_measure_239 (gModel_measure_179 k K171 o) o J_14 L x1 x2 x3 v_8)))))))))))))))) := rfl
noncomputable def gModel_measure_171 (k : Nat) (K163 : gJ → gL → Int → (Int × gJ × gL)) (o : Nat) (J : gJ) (L : gL) (x1 : Int) (x2 : Int) : Int × gJ × gL := match k with
  | 0 => default
  | k + 1 => (if 16 ≤ x2 then gLet (x1 + 1) (fun (v_1 : Int) => (K163 J L v_1)) else (gModel_measure_179 20000 (gModel_measure_171 k K163 o) o J L x1 x2 0))
theorem eModel_measure_171 {k : Nat} {K163 : gJ → gL → Int → (Int × gJ × gL)} {o : Nat} {J : gJ} {L : gL} {x1 : Int} {x2 : Int} : gModel_measure_171 (k + 1) K163 o J L x1 x2 = (if 16 ≤ x2 then gLet (x1 + 1) (fun (v_1 : Int) => (K163 J L v_1)) else (gModel_measure_179 20000 (gModel_measure_171 k K163 o) o J L x1 x2 0)) := rfl
noncomputable def gModel_measure_163 (k : Nat) (o : Nat) (J : gJ) (L : gL) (x1 : Int) : Int × gJ × gL := match k with
  | 0 => default
  | k + 1 => (if 16 ≤ x1 then (0, J, L) else (gModel_measure_171 20000 (gModel_measure_163 k o) o J L x1 0))
theorem eModel_measure_163 {k : Nat} {o : Nat} {J : gJ} {L : gL} {x1 : Int} : gModel_measure_163 (k + 1) o J L x1 = (if 16 ≤ x1 then (0, J, L) else (gModel_measure_171 20000 (gModel_measure_163 k o) o J L x1 0)) := rfl
noncomputable def gModel_measure_155 (K47 : gJ → gL → Int → (Int × gJ × gL)) (o : Nat) (J : gJ) (L : gL) (x1 : Int) : Int × gJ × gL := gLet (x1 + 1) (fun (v_1 : Int) => (K47 J L v_1))
theorem eModel_measure_155 {K47 : gJ → gL → Int → (Int × gJ × gL)} {o : Nat} {J : gJ} {L : gL} {x1 : Int} : gModel_measure_155 K47 o J L x1 = gLet (x1 + 1) (fun (v_1 : Int) => (K47 J L v_1)) := rfl
noncomputable def gModel_measure_47 (k : Nat) (o : Nat) (J : gJ) (L : gL) (x1 : Int) : Int × gJ × gL := match k with
  | 0 => default
  | k + 1 => gLet (J o 34) (fun (v_1 : Int) => gLet (24 * v_1) (fun (v_2 : Int) => gLet (J o 34) (fun (v_3 : Int) => gLet (J (o + 6) (Int.toNat v_3)) (fun (v_4 : Int) => gLet (v_2 + v_4) (fun (v_5 : Int) => (if v_5 ≤ x1 then (gModel_measure_163 20000 o J L 0) else gLet (J (o + 12) (Int.toNat x1)) (fun (v_6 : Int) => gLet (J (o + 10) (Int.toNat x1)) (fun (v_7 : Int) => gLet (16 * v_7) (fun (v_8 : Int) => gLet (J (o + 11) (Int.toNat x1)) (fun (v_9 : Int) => gLet (v_8 + v_9) (fun (v_10 : Int) => gLet (J (o + 25) (Int.toNat v_10)) (fun (v_11 : Int) => (if v_6 < v_11 then gLet (J (o + 10) (Int.toNat x1)) (fun (v_12 : Int) => gLet (16 * v_12) (fun (v_13 : Int) => gLet (J (o + 11) (Int.toNat x1)) (fun (v_14 : Int) => gLet (v_13 + v_14) (fun (v_15 : Int) => gLet (J (o + 12) (Int.toNat x1)) (fun (v_16 : Int) => gLet (q_u J (o + 25) (Int.toNat v_15) v_16) (fun (J_17 : gJ) => gLet (J_17 (o + 11) (Int.toNat x1)) (fun (v_18 : Int) => gLet (16 * v_18) (fun (v_19 : Int) => gLet (J_17 (o + 10) (Int.toNat x1)) (fun (v_20 : Int) => gLet (v_19 + v_20) (fun (v_21 : Int) => gLet (J_17 (o + 12) (Int.toNat x1)) (fun (v_22 : Int) => gLet (q_u J_17 (o + 25) (Int.toNat v_21) v_22) (fun (J_23 : gJ) => (gModel_measure_155 (gModel_measure_47 k o) o J_23 L x1))))))))))))) else (gModel_measure_155 (gModel_measure_47 k o) o J L x1))))))))))))))
theorem eModel_measure_47 {k : Nat} {o : Nat} {J : gJ} {L : gL} {x1 : Int} : gModel_measure_47 (k + 1) o J L x1 = gLet (J o 34) (fun (v_1 : Int) => gLet (24 * v_1) (fun (v_2 : Int) => gLet (J o 34) (fun (v_3 : Int) => gLet (J (o + 6) (Int.toNat v_3)) (fun (v_4 : Int) => gLet (v_2 + v_4) (fun (v_5 : Int) => (if v_5 ≤ x1 then (gModel_measure_163 20000 o J L 0) else gLet (J (o + 12) (Int.toNat x1)) (fun (v_6 : Int) => gLet (J (o + 10) (Int.toNat x1)) (fun (v_7 : Int) => gLet (16 * v_7) (fun (v_8 : Int) => gLet (J (o + 11) (Int.toNat x1)) (fun (v_9 : Int) => gLet (v_8 + v_9) (fun (v_10 : Int) => gLet (J (o + 25) (Int.toNat v_10)) (fun (v_11 : Int) => (if v_6 < v_11 then gLet (J (o + 10) (Int.toNat x1)) (fun (v_12 : Int) => gLet (16 * v_12) (fun (v_13 : Int) => gLet (J (o + 11) (Int.toNat x1)) (fun (v_14 : Int) => gLet (v_13 + v_14) (fun (v_15 : Int) => gLet (J (o + 12) (Int.toNat x1)) (fun (v_16 : Int) => gLet (q_u J (o + 25) (Int.toNat v_15) v_16) (fun (J_17 : gJ) => gLet (J_17 (o + 11) (Int.toNat x1)) (fun (v_18 : Int) => gLet (16 * v_18) (fun (v_19 : Int) => gLet (J_17 (o + 10) (Int.toNat x1)) (fun (v_20 : Int) => gLet (v_19 + v_20) (fun (v_21 : Int) => gLet (J_17 (o + 12) (Int.toNat x1)) (fun (v_22 : Int) => gLet (q_u J_17 (o + 25) (Int.toNat v_21) v_22) (fun (J_23 : gJ) => (gModel_measure_155 (gModel_measure_47 k o) o J_23 L x1))))))))))))) else (gModel_measure_155 (gModel_measure_47 k o) o J L x1)))))))))))))) := rfl
noncomputable def gModel_measure_32 (K2 : gJ → gL → Int → (Int × gJ × gL)) (o : Nat) (J : gJ) (L : gL) (x1 : Int) (z0 : Int) (z1 : Int) : Int × gJ × gL := gLet (q_u J (o + 25) (Int.toNat z1) z0) (fun (J_1 : gJ) => gLet (x1 + 1) (fun (v_2 : Int) => (K2 J_1 L v_2)))
theorem eModel_measure_32 {K2 : gJ → gL → Int → (Int × gJ × gL)} {o : Nat} {J : gJ} {L : gL} {x1 : Int} {z0 : Int} {z1 : Int} : gModel_measure_32 K2 o J L x1 z0 z1 = gLet (q_u J (o + 25) (Int.toNat z1) z0) (fun (J_1 : gJ) => gLet (x1 + 1) (fun (v_2 : Int) => (K2 J_1 L v_2))) := rfl
noncomputable def gModel_measure_2 (k : Nat) (o : Nat) (J : gJ) (L : gL) (x1 : Int) : Int × gJ × gL := match k with
  | 0 => default
  | k + 1 => (if 256 ≤ x1 then gLet (J o 34) (fun (v_1 : Int) => gLet (24 * v_1) (fun (v_2 : Int) => (gModel_measure_47 20000 o J L v_2))) else gLet (x1 / 16) (fun (v_3 : Int) => gLet (x1 - x1 / 16 * 16) (fun (v_4 : Int) => (if v_3 = v_4 then (gModel_measure_32 (gModel_measure_2 k o) o J L x1 0 x1) else (gModel_measure_32 (gModel_measure_2 k o) o J L x1 1000000 x1)))))
theorem eModel_measure_2 {k : Nat} {o : Nat} {J : gJ} {L : gL} {x1 : Int} : gModel_measure_2 (k + 1) o J L x1 = (if 256 ≤ x1 then gLet (J o 34) (fun (v_1 : Int) => gLet (24 * v_1) (fun (v_2 : Int) => (gModel_measure_47 20000 o J L v_2))) else gLet (x1 / 16) (fun (v_3 : Int) => gLet (x1 - x1 / 16 * 16) (fun (v_4 : Int) => (if v_3 = v_4 then (gModel_measure_32 (gModel_measure_2 k o) o J L x1 0 x1) else (gModel_measure_32 (gModel_measure_2 k o) o J L x1 1000000 x1))))) := rfl
noncomputable def gModel_measure_0 (o : Nat) (J : gJ) (L : gL) : Int × gJ × gL := (gModel_measure_2 20000 o J L 0)
theorem eModel_measure_0 {o : Nat} {J : gJ} {L : gL} : gModel_measure_0 o J L  = (gModel_measure_2 20000 o J L 0) := rfl
set_option maxHeartbeats 4000000 in
set_option maxRecDepth 20000 in
theorem yModel_measure_179g {D : va_G} {cA : FieldType → ClassId} {b : Nat} {E : State → Prop} {R : qRg} {o n : Nat} {sh : Nat → qC} {Rf : Nat → Nat → Option Nat} {I0 : Nat → Nat → Int32} {L0 : Nat → Nat → Int64} {post : Option Value → qS → Prop} (hok : q_ok (qGG D cA b E)) (hw : WfModel (qGG D cA b E) n sh Rf o) (ra : RAModel R o) (hZ : Fz R I0 o wModel_measure) (hR0 : RI R I0) (hp : ∀ (I' : Nat → Nat → Int32) (L' : Nat → Nat → Int64), RI R I' → Fm (fun c => c = o + 25) I0 I' → (gModel_measure_0 o (tI I0) L0 = (0, tI I', L')) → post none (n, sh, Rf, I', L')) {K171 : gJ → gL → Int → Int → (Int × gJ × gL)} {k163 : Nat} {k171 : Nat} (ho171 : ∀ {x1 : Int32} {x2 : Int32} {I : Nat → Nat → Int32} {L : Nat → Nat → Int64}, RI R I → Fm (fun c => c = o + 25) I0 I → ((0 : Int) ≤ x2.toInt ∧ x2.toInt ≤ 16) → ((0 : Int) ≤ x1.toInt ∧ x1.toInt ≤ 15) → ((16 - x1.toInt).toNat < k163 + 1) → (K171 (tI I) L (x1).toInt (x2).toInt = gModel_measure_0 o (tI I0) L0) → (16 - x2.toInt).toNat < k171 → Ev (qGG D cA b E) mModel_measure 0 (0, 0) 171 [(0, .ref o), (1, .int x1), (2, .int x2)] [] (n, sh, Rf, I, L) post) : ∀ (k : Nat) {x1 : Int32} {x2 : Int32} {x3 : Int32} {I : Nat → Nat → Int32} {L : Nat → Nat → Int64}, RI R I → Fm (fun c => c = o + 25) I0 I → ((0 : Int) ≤ x3.toInt ∧ x3.toInt ≤ 16) → ((0 : Int) ≤ x1.toInt ∧ x1.toInt ≤ 15) → ((0 : Int) ≤ x2.toInt ∧ x2.toInt ≤ 15) → ((16 - x2.toInt).toNat < k171 + 1) → ((16 - x1.toInt).toNat < k163 + 1) → (gModel_measure_179 k K171 o (tI I) L (x1).toInt (x2).toInt (x3).toInt = gModel_measure_0 o (tI I0) L0) → (16 - x3.toInt).toNat < k → Ev (qGG D cA b E) mModel_measure 0 (0, 0) 179 [(0, .ref o), (1, .int x1), (2, .int x2), (3, .int x3)] [] (n, sh, Rf, I, L) post := by
  intro k
  induction k with
  | zero =>
    intro x1 x2 x3 I L hR hf hi0 hi1 hi2 hi3 hi4 hg hm
    exact absurd hm (Nat.not_lt_zero _)
  | succ k ih =>
    intro x1 x2 x3 I L hR hf hi0 hi1 hi2 hi3 hi4 hg hm
    refine sModel_measure_179 o n sh Rf I L post x1 x2 x3 hok hw ?_
    unfold fModel_measure_179
    replace hg := (eModel_measure_179).symm.trans hg
    have l_1 : (16 : Int32).toInt = 16 := rfl
    refine ⟨fun c_2 => ?_, fun c_2 => ?_⟩
    · have d_3 := iLe c_2
      replace hg := gt_pos (by first | exact d_3 | omega) hg
      have a_5 : (x2 + Int32.ofInt 1).toInt = x2.toInt + (1) := tIc (by omega) (by omega) (by decide) (by decide)
      generalize ez_4 : (x2 + Int32.ofInt 1) = z_4 at a_5 ⊢
      replace hg := gt_let (y := z_4.toInt) (by omega) hg
      exact ho171 hR hf (by first | omega | (intro h; omega) | exact Or.inl rfl | exact Or.inr rfl) (by first | omega | (intro h; omega) | exact Or.inl rfl | exact Or.inr rfl) (by first | omega | (intro h; omega) | exact Or.inl rfl | exact Or.inr rfl) hg (by omega)
    · have d_6 := iNle c_2
      replace hg := gt_neg (by first | exact d_6 | omega) hg
      have a_7 : (16 * x2).toInt = 16 * x2.toInt := tMulL rfl (by omega) (by omega)
      replace hg := gt_let (y := ((16 * x2) : Int32).toInt) (by omega) hg
      have a_8 : ((16 * x2) + x1).toInt = (16 * x2).toInt + x1.toInt := tAdd (by omega) (by omega)
      replace hg := gt_let (y := (((16 * x2) + x1) : Int32).toInt) (by omega) hg
      refine ⟨tIn (by omega) (by omega), ?_⟩
      replace hg := gt_let (y := (I (o + 25) (((16 * x2) + x1) : Int32).toNatClampNeg).toInt) rfl hg
      have a_9 : (16 * x1).toInt = 16 * x1.toInt := tMulL rfl (by omega) (by omega)
      replace hg := gt_let (y := ((16 * x1) : Int32).toInt) (by omega) hg
      have a_10 : ((16 * x1) + x3).toInt = (16 * x1).toInt + x3.toInt := tAdd (by omega) (by omega)
      replace hg := gt_let (y := (((16 * x1) + x3) : Int32).toInt) (by omega) hg
      refine ⟨tIn (by omega) (by omega), ?_⟩
      replace hg := gt_let (y := (I (o + 25) (((16 * x1) + x3) : Int32).toNatClampNeg).toInt) rfl hg
      replace hg := gt_let (y := (((I (o + 25) (((16 * x2) + x1) : Int32).toNatClampNeg) + (I (o + 25) (((16 * x1) + x3) : Int32).toNatClampNeg)) : Int32).toInt) (wAdd_eq ((I (o + 25) (((16 * x2) + x1) : Int32).toNatClampNeg) : Int32) ((I (o + 25) (((16 * x1) + x3) : Int32).toNatClampNeg) : Int32)) hg
      have a_11 : (16 * x2).toInt = 16 * x2.toInt := tMulL rfl (by omega) (by omega)
      replace hg := gt_let (y := ((16 * x2) : Int32).toInt) (by omega) hg
      have a_12 : ((16 * x2) + x3).toInt = (16 * x2).toInt + x3.toInt := tAdd (by omega) (by omega)
      replace hg := gt_let (y := (((16 * x2) + x3) : Int32).toInt) (by omega) hg
      refine ⟨tIn (by omega) (by omega), ?_⟩
      replace hg := gt_let (y := (I (o + 25) (((16 * x2) + x3) : Int32).toNatClampNeg).toInt) rfl hg
      refine ⟨fun c_13 => ?_, fun c_13 => ?_⟩
      · have d_14 := iLe c_13
        replace hg := gt_pos (by first | exact d_14 | omega) hg
        unfold fModel_measure_239
        replace hg := (eModel_measure_239).symm.trans hg
        have a_16 : (x3 + Int32.ofInt 1).toInt = x3.toInt + (1) := tIc (by omega) (by omega) (by decide) (by decide)
        generalize ez_15 : (x3 + Int32.ofInt 1) = z_15 at a_16 ⊢
        replace hg := gt_let (y := z_15.toInt) (by omega) hg
        exact ih hR hf (by first | omega | (intro h; omega) | exact Or.inl rfl | exact Or.inr rfl) (by first | omega | (intro h; omega) | exact Or.inl rfl | exact Or.inr rfl) (by first | omega | (intro h; omega) | exact Or.inl rfl | exact Or.inr rfl) (by first | omega | (intro h; omega) | exact Or.inl rfl | exact Or.inr rfl) (by first | omega | (intro h; omega) | exact Or.inl rfl | exact Or.inr rfl) hg (by omega)
      · have d_17 := iNle c_13
        replace hg := gt_neg (by first | exact d_17 | omega) hg
        have a_18 : (16 * x2).toInt = 16 * x2.toInt := tMulL rfl (by omega) (by omega)
        replace hg := gt_let (y := ((16 * x2) : Int32).toInt) (by omega) hg
        have a_19 : ((16 * x2) + x3).toInt = (16 * x2).toInt + x3.toInt := tAdd (by omega) (by omega)
        replace hg := gt_let (y := (((16 * x2) + x3) : Int32).toInt) (by omega) hg
        refine ⟨tIn (by omega) (by omega), fun I_20 e_21 => ?_⟩
        replace hg := gt_let (y := tI I_20) (tI_q e_21) hg
        have hR_22 : RI R I_20 := hR.up ra 25 (by decide) (Or.inl rfl) e_21 (i_lo _) (i_hi _)
        have hf_23 : Fm (fun c => c = o + 25) I0 I_20 := hf.set (by first | rfl | omega | (dsimp only; omega)) e_21
        unfold fModel_measure_239
        replace hg := (eModel_measure_239).symm.trans hg
        have a_25 : (x3 + Int32.ofInt 1).toInt = x3.toInt + (1) := tIc (by omega) (by omega) (by decide) (by decide)
        generalize ez_24 : (x3 + Int32.ofInt 1) = z_24 at a_25 ⊢
        replace hg := gt_let (y := z_24.toInt) (by omega) hg
        exact ih hR_22 hf_23 (by first | omega | (intro h; omega) | exact Or.inl rfl | exact Or.inr rfl) (by first | omega | (intro h; omega) | exact Or.inl rfl | exact Or.inr rfl) (by first | omega | (intro h; omega) | exact Or.inl rfl | exact Or.inr rfl) (by first | omega | (intro h; omega) | exact Or.inl rfl | exact Or.inr rfl) (by first | omega | (intro h; omega) | exact Or.inl rfl | exact Or.inr rfl) hg (by omega)
set_option maxHeartbeats 4000000 in
set_option maxRecDepth 20000 in
theorem yModel_measure_171g {D : va_G} {cA : FieldType → ClassId} {b : Nat} {E : State → Prop} {R : qRg} {o n : Nat} {sh : Nat → qC} {Rf : Nat → Nat → Option Nat} {I0 : Nat → Nat → Int32} {L0 : Nat → Nat → Int64} {post : Option Value → qS → Prop} (hok : q_ok (qGG D cA b E)) (hw : WfModel (qGG D cA b E) n sh Rf o) (ra : RAModel R o) (hZ : Fz R I0 o wModel_measure) (hR0 : RI R I0) (hp : ∀ (I' : Nat → Nat → Int32) (L' : Nat → Nat → Int64), RI R I' → Fm (fun c => c = o + 25) I0 I' → (gModel_measure_0 o (tI I0) L0 = (0, tI I', L')) → post none (n, sh, Rf, I', L')) {K163 : gJ → gL → Int → (Int × gJ × gL)} {k163 : Nat} (ho163 : ∀ {x1 : Int32} {I : Nat → Nat → Int32} {L : Nat → Nat → Int64}, RI R I → Fm (fun c => c = o + 25) I0 I → ((0 : Int) ≤ x1.toInt ∧ x1.toInt ≤ 16) → (K163 (tI I) L (x1).toInt = gModel_measure_0 o (tI I0) L0) → (16 - x1.toInt).toNat < k163 → Ev (qGG D cA b E) mModel_measure 0 (0, 0) 163 [(0, .ref o), (1, .int x1)] [] (n, sh, Rf, I, L) post) : ∀ (k : Nat) {x1 : Int32} {x2 : Int32} {I : Nat → Nat → Int32} {L : Nat → Nat → Int64}, RI R I → Fm (fun c => c = o + 25) I0 I → ((0 : Int) ≤ x2.toInt ∧ x2.toInt ≤ 16) → ((0 : Int) ≤ x1.toInt ∧ x1.toInt ≤ 15) → ((16 - x1.toInt).toNat < k163 + 1) → (gModel_measure_171 k K163 o (tI I) L (x1).toInt (x2).toInt = gModel_measure_0 o (tI I0) L0) → (16 - x2.toInt).toNat < k → Ev (qGG D cA b E) mModel_measure 0 (0, 0) 171 [(0, .ref o), (1, .int x1), (2, .int x2)] [] (n, sh, Rf, I, L) post := by
  intro k
  induction k with
  | zero =>
    intro x1 x2 I L hR hf hi0 hi1 hi2 hg hm
    exact absurd hm (Nat.not_lt_zero _)
  | succ k ih =>
    intro x1 x2 I L hR hf hi0 hi1 hi2 hg hm
    refine sModel_measure_171 o n sh Rf I L post x1 x2 hok hw ?_
    unfold fModel_measure_171
    replace hg := (eModel_measure_171).symm.trans hg
    have l_26 : (16 : Int32).toInt = 16 := rfl
    refine ⟨fun c_27 => ?_, fun c_27 => ?_⟩
    · have d_28 := iLe c_27
      replace hg := gt_pos (by first | exact d_28 | omega) hg
      have a_30 : (x1 + Int32.ofInt 1).toInt = x1.toInt + (1) := tIc (by omega) (by omega) (by decide) (by decide)
      generalize ez_29 : (x1 + Int32.ofInt 1) = z_29 at a_30 ⊢
      replace hg := gt_let (y := z_29.toInt) (by omega) hg
      exact ho163 hR hf (by first | omega | (intro h; omega) | exact Or.inl rfl | exact Or.inr rfl) hg (by omega)
    · have d_31 := iNle c_27
      replace hg := gt_neg (by first | exact d_31 | omega) hg
      have l_32 : (0 : Int32).toInt = 0 := rfl
      exact yModel_measure_179g (I0 := I0) (L0 := L0) (K171 := (gModel_measure_171 k K163 o)) hok hw ra hZ hR0 hp ih 20000 hR hf (by first | omega | (intro h; omega) | exact Or.inl rfl | exact Or.inr rfl) (by first | omega | (intro h; omega) | exact Or.inl rfl | exact Or.inr rfl) (by first | omega | (intro h; omega) | exact Or.inl rfl | exact Or.inr rfl) (by first | omega | (intro h; omega) | exact Or.inl rfl | exact Or.inr rfl) (by first | omega | (intro h; omega) | exact Or.inl rfl | exact Or.inr rfl) hg (by omega)
set_option maxHeartbeats 4000000 in
set_option maxRecDepth 20000 in
theorem yModel_measure_163g {D : va_G} {cA : FieldType → ClassId} {b : Nat} {E : State → Prop} {R : qRg} {o n : Nat} {sh : Nat → qC} {Rf : Nat → Nat → Option Nat} {I0 : Nat → Nat → Int32} {L0 : Nat → Nat → Int64} {post : Option Value → qS → Prop} (hok : q_ok (qGG D cA b E)) (hw : WfModel (qGG D cA b E) n sh Rf o) (ra : RAModel R o) (hZ : Fz R I0 o wModel_measure) (hR0 : RI R I0) (hp : ∀ (I' : Nat → Nat → Int32) (L' : Nat → Nat → Int64), RI R I' → Fm (fun c => c = o + 25) I0 I' → (gModel_measure_0 o (tI I0) L0 = (0, tI I', L')) → post none (n, sh, Rf, I', L')) : ∀ (k : Nat) {x1 : Int32} {I : Nat → Nat → Int32} {L : Nat → Nat → Int64}, RI R I → Fm (fun c => c = o + 25) I0 I → ((0 : Int) ≤ x1.toInt ∧ x1.toInt ≤ 16) → (gModel_measure_163 k o (tI I) L (x1).toInt = gModel_measure_0 o (tI I0) L0) → (16 - x1.toInt).toNat < k → Ev (qGG D cA b E) mModel_measure 0 (0, 0) 163 [(0, .ref o), (1, .int x1)] [] (n, sh, Rf, I, L) post := by
  intro k
  induction k with
  | zero =>
    intro x1 I L hR hf hi0 hg hm
    exact absurd hm (Nat.not_lt_zero _)
  | succ k ih =>
    intro x1 I L hR hf hi0 hg hm
    refine sModel_measure_163 o n sh Rf I L post x1 hok hw ?_
    unfold fModel_measure_163
    replace hg := (eModel_measure_163).symm.trans hg
    have l_33 : (16 : Int32).toInt = 16 := rfl
    refine ⟨fun c_34 => ?_, fun c_34 => ?_⟩
    · have d_35 := iLe c_34
      replace hg := gt_pos (by first | exact d_35 | omega) hg
      exact (hp _ _ hR hf  hg.symm)
    · have d_36 := iNle c_34
      replace hg := gt_neg (by first | exact d_36 | omega) hg
      have l_37 : (0 : Int32).toInt = 0 := rfl
      exact yModel_measure_171g (I0 := I0) (L0 := L0) (K163 := (gModel_measure_163 k o)) hok hw ra hZ hR0 hp ih 20000 hR hf (by first | omega | (intro h; omega) | exact Or.inl rfl | exact Or.inr rfl) (by first | omega | (intro h; omega) | exact Or.inl rfl | exact Or.inr rfl) (by first | omega | (intro h; omega) | exact Or.inl rfl | exact Or.inr rfl) hg (by omega)
set_option maxHeartbeats 4000000 in
set_option maxRecDepth 20000 in
theorem yModel_measure_47g {D : va_G} {cA : FieldType → ClassId} {b : Nat} {E : State → Prop} {R : qRg} {o n : Nat} {sh : Nat → qC} {Rf : Nat → Nat → Option Nat} {I0 : Nat → Nat → Int32} {L0 : Nat → Nat → Int64} {post : Option Value → qS → Prop} (hok : q_ok (qGG D cA b E)) (hw : WfModel (qGG D cA b E) n sh Rf o) (ra : RAModel R o) (hZ : Fz R I0 o wModel_measure) (hR0 : RI R I0) (hp : ∀ (I' : Nat → Nat → Int32) (L' : Nat → Nat → Int64), RI R I' → Fm (fun c => c = o + 25) I0 I' → (gModel_measure_0 o (tI I0) L0 = (0, tI I', L')) → post none (n, sh, Rf, I', L')) : ∀ (k : Nat) {x1 : Int32} {I : Nat → Nat → Int32} {L : Nat → Nat → Int64}, RI R I → Fm (fun c => c = o + 25) I0 I → ((0 : Int) ≤ x1.toInt ∧ x1.toInt ≤ 48) → (gModel_measure_47 k o (tI I) L (x1).toInt = gModel_measure_0 o (tI I0) L0) → (48 - x1.toInt).toNat < k → Ev (qGG D cA b E) mModel_measure 0 (0, 0) 47 [(0, .ref o), (1, .int x1)] [] (n, sh, Rf, I, L) post := by
  intro k
  induction k with
  | zero =>
    intro x1 I L hR hf hi0 hg hm
    exact absurd hm (Nat.not_lt_zero _)
  | succ k ih =>
    intro x1 I L hR hf hi0 hg hm
    refine sModel_measure_47 o n sh Rf I L post x1 hok hw ?_
    unfold fModel_measure_47
    replace hg := (eModel_measure_47).symm.trans hg
    have g_38 : (0 : Int) ≤ (I o 34).toInt ∧ (I o 34).toInt ≤ 1 := hR.at0 ra 34 (by decide)
    replace hg := gt_let (y := (I o 34).toInt) rfl hg
    have l_39 : (24 : Int32).toInt = 24 := rfl
    have a_40 : (24 * (I o 34)).toInt = 24 * (I o 34).toInt := tMulL rfl (by omega) (by omega)
    replace hg := gt_let (y := ((24 * (I o 34)) : Int32).toInt) (by omega) hg
    have g_41 : (0 : Int) ≤ (I o 34).toInt ∧ (I o 34).toInt ≤ 1 := hR.at0 ra 34 (by decide)
    replace hg := gt_let (y := (I o 34).toInt) rfl hg
    refine ⟨tIn (by omega) (by omega), ?_⟩
    have g_42 : (0 : Int) ≤ (I (o + 6) ((I o 34) : Int32).toNatClampNeg).toInt ∧ (I (o + 6) ((I o 34) : Int32).toNatClampNeg).toInt ≤ 24 := hR.at ra 6 _ (by decide)
    replace hg := gt_let (y := (I (o + 6) ((I o 34) : Int32).toNatClampNeg).toInt) rfl hg
    have a_43 : ((24 * (I o 34)) + (I (o + 6) ((I o 34) : Int32).toNatClampNeg)).toInt = (24 * (I o 34)).toInt + (I (o + 6) ((I o 34) : Int32).toNatClampNeg).toInt := tAdd (by omega) (by omega)
    replace hg := gt_let (y := (((24 * (I o 34)) + (I (o + 6) ((I o 34) : Int32).toNatClampNeg)) : Int32).toInt) (by omega) hg
    refine ⟨fun c_44 => ?_, fun c_44 => ?_⟩
    · have d_45 := iLe c_44
      replace hg := gt_pos (by first | exact d_45 | omega) hg
      have l_46 : (0 : Int32).toInt = 0 := rfl
      exact yModel_measure_163g (I0 := I0) (L0 := L0) hok hw ra hZ hR0 hp  20000 hR hf (by first | omega | (intro h; omega) | exact Or.inl rfl | exact Or.inr rfl) hg (by omega)
    · have d_47 := iNle c_44
      replace hg := gt_neg (by first | exact d_47 | omega) hg
      refine ⟨tIn (by omega) (by omega), ?_⟩
      replace hg := gt_let (y := (I (o + 12) (x1 : Int32).toNatClampNeg).toInt) rfl hg
      refine ⟨tIn (by omega) (by omega), ?_⟩
      have g_48 : (0 : Int) ≤ (I (o + 10) (x1 : Int32).toNatClampNeg).toInt ∧ (I (o + 10) (x1 : Int32).toNatClampNeg).toInt ≤ 15 := hR.at ra 10 _ (by decide)
      replace hg := gt_let (y := (I (o + 10) (x1 : Int32).toNatClampNeg).toInt) rfl hg
      have l_49 : (16 : Int32).toInt = 16 := rfl
      have a_50 : (16 * (I (o + 10) (x1 : Int32).toNatClampNeg)).toInt = 16 * (I (o + 10) (x1 : Int32).toNatClampNeg).toInt := tMulL rfl (by omega) (by omega)
      replace hg := gt_let (y := ((16 * (I (o + 10) (x1 : Int32).toNatClampNeg)) : Int32).toInt) (by omega) hg
      refine ⟨tIn (by omega) (by omega), ?_⟩
      have g_51 : (0 : Int) ≤ (I (o + 11) (x1 : Int32).toNatClampNeg).toInt ∧ (I (o + 11) (x1 : Int32).toNatClampNeg).toInt ≤ 15 := hR.at ra 11 _ (by decide)
      replace hg := gt_let (y := (I (o + 11) (x1 : Int32).toNatClampNeg).toInt) rfl hg
      have a_52 : ((16 * (I (o + 10) (x1 : Int32).toNatClampNeg)) + (I (o + 11) (x1 : Int32).toNatClampNeg)).toInt = (16 * (I (o + 10) (x1 : Int32).toNatClampNeg)).toInt + (I (o + 11) (x1 : Int32).toNatClampNeg).toInt := tAdd (by omega) (by omega)
      replace hg := gt_let (y := (((16 * (I (o + 10) (x1 : Int32).toNatClampNeg)) + (I (o + 11) (x1 : Int32).toNatClampNeg)) : Int32).toInt) (by omega) hg
      refine ⟨tIn (by omega) (by omega), ?_⟩
      replace hg := gt_let (y := (I (o + 25) (((16 * (I (o + 10) (x1 : Int32).toNatClampNeg)) + (I (o + 11) (x1 : Int32).toNatClampNeg)) : Int32).toNatClampNeg).toInt) rfl hg
      refine ⟨fun c_53 => ?_, fun c_53 => ?_⟩
      · have d_54 := iLt c_53
        replace hg := gt_pos (by first | exact d_54 | omega) hg
        refine ⟨tIn (by omega) (by omega), ?_⟩
        have g_55 : (0 : Int) ≤ (I (o + 10) (x1 : Int32).toNatClampNeg).toInt ∧ (I (o + 10) (x1 : Int32).toNatClampNeg).toInt ≤ 15 := hR.at ra 10 _ (by decide)
        replace hg := gt_let (y := (I (o + 10) (x1 : Int32).toNatClampNeg).toInt) rfl hg
        have a_56 : (16 * (I (o + 10) (x1 : Int32).toNatClampNeg)).toInt = 16 * (I (o + 10) (x1 : Int32).toNatClampNeg).toInt := tMulL rfl (by omega) (by omega)
        replace hg := gt_let (y := ((16 * (I (o + 10) (x1 : Int32).toNatClampNeg)) : Int32).toInt) (by omega) hg
        refine ⟨tIn (by omega) (by omega), ?_⟩
        have g_57 : (0 : Int) ≤ (I (o + 11) (x1 : Int32).toNatClampNeg).toInt ∧ (I (o + 11) (x1 : Int32).toNatClampNeg).toInt ≤ 15 := hR.at ra 11 _ (by decide)
        replace hg := gt_let (y := (I (o + 11) (x1 : Int32).toNatClampNeg).toInt) rfl hg
        have a_58 : ((16 * (I (o + 10) (x1 : Int32).toNatClampNeg)) + (I (o + 11) (x1 : Int32).toNatClampNeg)).toInt = (16 * (I (o + 10) (x1 : Int32).toNatClampNeg)).toInt + (I (o + 11) (x1 : Int32).toNatClampNeg).toInt := tAdd (by omega) (by omega)
        replace hg := gt_let (y := (((16 * (I (o + 10) (x1 : Int32).toNatClampNeg)) + (I (o + 11) (x1 : Int32).toNatClampNeg)) : Int32).toInt) (by omega) hg
        refine ⟨tIn (by omega) (by omega), ?_⟩
        replace hg := gt_let (y := (I (o + 12) (x1 : Int32).toNatClampNeg).toInt) rfl hg
        refine ⟨tIn (by omega) (by omega), fun I_59 e_60 => ?_⟩
        replace hg := gt_let (y := tI I_59) (tI_q e_60) hg
        have hR_61 : RI R I_59 := hR.up ra 25 (by decide) (Or.inl rfl) e_60 (i_lo _) (i_hi _)
        have hf_62 : Fm (fun c => c = o + 25) I0 I_59 := hf.set (by first | rfl | omega | (dsimp only; omega)) e_60
        have t_63 : (I_59 o 34).toInt = (I o 34).toInt := by rw [← e_60, q_u_ne (by omega)]
        refine ⟨tIn (by omega) (by omega), ?_⟩
        have g_64 : (0 : Int) ≤ (I_59 (o + 11) (x1 : Int32).toNatClampNeg).toInt ∧ (I_59 (o + 11) (x1 : Int32).toNatClampNeg).toInt ≤ 15 := hR_61.at ra 11 _ (by decide)
        replace hg := gt_let (y := (I_59 (o + 11) (x1 : Int32).toNatClampNeg).toInt) rfl hg
        have a_65 : (16 * (I_59 (o + 11) (x1 : Int32).toNatClampNeg)).toInt = 16 * (I_59 (o + 11) (x1 : Int32).toNatClampNeg).toInt := tMulL rfl (by omega) (by omega)
        replace hg := gt_let (y := ((16 * (I_59 (o + 11) (x1 : Int32).toNatClampNeg)) : Int32).toInt) (by omega) hg
        refine ⟨tIn (by omega) (by omega), ?_⟩
        have g_66 : (0 : Int) ≤ (I_59 (o + 10) (x1 : Int32).toNatClampNeg).toInt ∧ (I_59 (o + 10) (x1 : Int32).toNatClampNeg).toInt ≤ 15 := hR_61.at ra 10 _ (by decide)
        replace hg := gt_let (y := (I_59 (o + 10) (x1 : Int32).toNatClampNeg).toInt) rfl hg
        have a_67 : ((16 * (I_59 (o + 11) (x1 : Int32).toNatClampNeg)) + (I_59 (o + 10) (x1 : Int32).toNatClampNeg)).toInt = (16 * (I_59 (o + 11) (x1 : Int32).toNatClampNeg)).toInt + (I_59 (o + 10) (x1 : Int32).toNatClampNeg).toInt := tAdd (by omega) (by omega)
        replace hg := gt_let (y := (((16 * (I_59 (o + 11) (x1 : Int32).toNatClampNeg)) + (I_59 (o + 10) (x1 : Int32).toNatClampNeg)) : Int32).toInt) (by omega) hg
        refine ⟨tIn (by omega) (by omega), ?_⟩
        replace hg := gt_let (y := (I_59 (o + 12) (x1 : Int32).toNatClampNeg).toInt) rfl hg
        refine ⟨tIn (by omega) (by omega), fun I_68 e_69 => ?_⟩
        replace hg := gt_let (y := tI I_68) (tI_q e_69) hg
        have hR_70 : RI R I_68 := hR_61.up ra 25 (by decide) (Or.inl rfl) e_69 (i_lo _) (i_hi _)
        have hf_71 : Fm (fun c => c = o + 25) I0 I_68 := hf_62.set (by first | rfl | omega | (dsimp only; omega)) e_69
        have t_72 : (I_68 o 34).toInt = (I_59 o 34).toInt := by rw [← e_69, q_u_ne (by omega)]
        unfold fModel_measure_155
        replace hg := (eModel_measure_155).symm.trans hg
        have a_74 : (x1 + Int32.ofInt 1).toInt = x1.toInt + (1) := tIc (by omega) (by omega) (by decide) (by decide)
        generalize ez_73 : (x1 + Int32.ofInt 1) = z_73 at a_74 ⊢
        replace hg := gt_let (y := z_73.toInt) (by omega) hg
        exact ih hR_70 hf_71 (by first | omega | (intro h; omega) | exact Or.inl rfl | exact Or.inr rfl) hg (by omega)
      · have d_75 := iNlt c_53
        replace hg := gt_neg (by first | exact d_75 | omega) hg
        unfold fModel_measure_155
        replace hg := (eModel_measure_155).symm.trans hg
        have a_77 : (x1 + Int32.ofInt 1).toInt = x1.toInt + (1) := tIc (by omega) (by omega) (by decide) (by decide)
        generalize ez_76 : (x1 + Int32.ofInt 1) = z_76 at a_77 ⊢
        replace hg := gt_let (y := z_76.toInt) (by omega) hg
        exact ih hR hf (by first | omega | (intro h; omega) | exact Or.inl rfl | exact Or.inr rfl) hg (by omega)
set_option maxHeartbeats 4000000 in
set_option maxRecDepth 20000 in
theorem yModel_measure_2g {D : va_G} {cA : FieldType → ClassId} {b : Nat} {E : State → Prop} {R : qRg} {o n : Nat} {sh : Nat → qC} {Rf : Nat → Nat → Option Nat} {I0 : Nat → Nat → Int32} {L0 : Nat → Nat → Int64} {post : Option Value → qS → Prop} (hok : q_ok (qGG D cA b E)) (hw : WfModel (qGG D cA b E) n sh Rf o) (ra : RAModel R o) (hZ : Fz R I0 o wModel_measure) (hR0 : RI R I0) (hp : ∀ (I' : Nat → Nat → Int32) (L' : Nat → Nat → Int64), RI R I' → Fm (fun c => c = o + 25) I0 I' → (gModel_measure_0 o (tI I0) L0 = (0, tI I', L')) → post none (n, sh, Rf, I', L')) : ∀ (k : Nat) {x1 : Int32} {I : Nat → Nat → Int32} {L : Nat → Nat → Int64}, RI R I → Fm (fun c => c = o + 25) I0 I → ((0 : Int) ≤ x1.toInt ∧ x1.toInt ≤ 256) → (gModel_measure_2 k o (tI I) L (x1).toInt = gModel_measure_0 o (tI I0) L0) → (256 - x1.toInt).toNat < k → Ev (qGG D cA b E) mModel_measure 0 (0, 0) 2 [(0, .ref o), (1, .int x1)] [] (n, sh, Rf, I, L) post := by
  intro k
  induction k with
  | zero =>
    intro x1 I L hR hf hi0 hg hm
    exact absurd hm (Nat.not_lt_zero _)
  | succ k ih =>
    intro x1 I L hR hf hi0 hg hm
    refine sModel_measure_2 o n sh Rf I L post x1 hok hw ?_
    unfold fModel_measure_2
    replace hg := (eModel_measure_2).symm.trans hg
    have l_78 : (256 : Int32).toInt = 256 := rfl
    refine ⟨fun c_79 => ?_, fun c_79 => ?_⟩
    · have d_80 := iLe c_79
      replace hg := gt_pos (by first | exact d_80 | omega) hg
      have g_81 : (0 : Int) ≤ (I o 34).toInt ∧ (I o 34).toInt ≤ 1 := hR.at0 ra 34 (by decide)
      replace hg := gt_let (y := (I o 34).toInt) rfl hg
      have l_82 : (24 : Int32).toInt = 24 := rfl
      have a_83 : (24 * (I o 34)).toInt = 24 * (I o 34).toInt := tMulL rfl (by omega) (by omega)
      replace hg := gt_let (y := ((24 * (I o 34)) : Int32).toInt) (by omega) hg
      exact yModel_measure_47g (I0 := I0) (L0 := L0) hok hw ra hZ hR0 hp  20000 hR hf (by first | omega | (intro h; omega) | exact Or.inl rfl | exact Or.inr rfl) hg (by omega)
    · have d_84 := iNle c_79
      replace hg := gt_neg (by first | exact d_84 | omega) hg
      have l_85 : (16 : Int32).toInt = 16 := rfl
      have q_86 : (x1 / 16 : Int32).toInt = x1.toInt / 16 := tDiv rfl (by decide) (by omega)
      replace hg := gt_let (y := ((x1 / 16) : Int32).toInt) (by omega) hg
      have q_87 : (x1 / 16 : Int32).toInt = x1.toInt / 16 := tDiv rfl (by decide) (by omega)
      have q_88 : (x1 / 16 * 16 : Int32).toInt = x1.toInt / 16 * 16 := (tMul (c := 16) rfl (by omega) (by omega)).trans (by omega)
      have q_89 : (x1 - x1 / 16 * 16).toInt = x1.toInt - x1.toInt / 16 * 16 := (tSub (by omega) (by omega)).trans (by omega)
      replace hg := gt_let (y := ((x1 - x1 / 16 * 16) : Int32).toInt) (by omega) hg
      refine ⟨fun c_90 => ?_, fun c_90 => ?_⟩
      · have d_91 := iNe c_90
        replace hg := gt_neg (by first | exact d_91 | omega) hg
        unfold fModel_measure_32
        replace hg := (eModel_measure_32).symm.trans hg
        have l_92 : (1000000 : Int32).toInt = 1000000 := rfl
        refine ⟨tIn (by omega) (by omega), fun I_93 e_94 => ?_⟩
        replace hg := gt_let (y := tI I_93) (tI_q e_94) hg
        have hR_95 : RI R I_93 := hR.up ra 25 (by decide) (Or.inl rfl) e_94 (i_lo _) (i_hi _)
        have hf_96 : Fm (fun c => c = o + 25) I0 I_93 := hf.set (by first | rfl | omega | (dsimp only; omega)) e_94
        have a_98 : (x1 + Int32.ofInt 1).toInt = x1.toInt + (1) := tIc (by omega) (by omega) (by decide) (by decide)
        generalize ez_97 : (x1 + Int32.ofInt 1) = z_97 at a_98 ⊢
        replace hg := gt_let (y := z_97.toInt) (by omega) hg
        exact ih hR_95 hf_96 (by first | omega | (intro h; omega) | exact Or.inl rfl | exact Or.inr rfl) hg (by omega)
      · have d_99 := iEq c_90
        replace hg := gt_pos (by first | exact d_99 | omega) hg
        unfold fModel_measure_32
        replace hg := (eModel_measure_32).symm.trans hg
        have l_100 : (0 : Int32).toInt = 0 := rfl
        refine ⟨tIn (by omega) (by omega), fun I_101 e_102 => ?_⟩
        replace hg := gt_let (y := tI I_101) (tI_q e_102) hg
        have hR_103 : RI R I_101 := hR.up ra 25 (by decide) (Or.inl rfl) e_102 (i_lo _) (i_hi _)
        have hf_104 : Fm (fun c => c = o + 25) I0 I_101 := hf.set (by first | rfl | omega | (dsimp only; omega)) e_102
        have a_106 : (x1 + Int32.ofInt 1).toInt = x1.toInt + (1) := tIc (by omega) (by omega) (by decide) (by decide)
        generalize ez_105 : (x1 + Int32.ofInt 1) = z_105 at a_106 ⊢
        replace hg := gt_let (y := z_105.toInt) (by omega) hg
        exact ih hR_103 hf_104 (by first | omega | (intro h; omega) | exact Or.inl rfl | exact Or.inr rfl) hg (by omega)
set_option maxHeartbeats 4000000 in
set_option maxRecDepth 20000 in
theorem yc_Model_measureg {D : va_G} {cA : FieldType → ClassId} {b : Nat} {E : State → Prop} {R : qRg} {o n : Nat} {sh : Nat → qC} {Rf : Nat → Nat → Option Nat} {I0 : Nat → Nat → Int32} {L0 : Nat → Nat → Int64} {post : Option Value → qS → Prop} (hok : q_ok (qGG D cA b E)) (hw : WfModel (qGG D cA b E) n sh Rf o) (ra : RAModel R o) (hZ : Fz R I0 o wModel_measure) (hR0 : RI R I0) (hR : RI R I0) (hp : ∀ (I' : Nat → Nat → Int32) (L' : Nat → Nat → Int64), RI R I' → Fm (fun c => c = o + 25) I0 I' → (gModel_measure_0 o (tI I0) L0 = (0, tI I', L')) → post none (n, sh, Rf, I', L')) : Ev (qGG D cA b E) mModel_measure 0 (0, 0) 0 (lv_args 0 [.ref o]) [] (n, sh, Rf, I0, L0) post := by
  have hf : Fm (fun c => c = o + 25) I0 I0 := Fm.rf
  refine sModel_measure_0 o n sh Rf I0 L0 post  hok hw ?_
  unfold fModel_measure_0
  have hg : gModel_measure_0 o (tI I0) L0 = gModel_measure_0 o (tI I0) L0 := rfl
  replace hg := (eModel_measure_0).symm.trans hg
  have l_107 : (0 : Int32).toInt = 0 := rfl
  exact yModel_measure_2g (I0 := I0) (L0 := L0) hok hw ra hZ hR0 hp  20000 hR hf (by first | omega | (intro h; omega) | exact Or.inl rfl | exact Or.inr rfl) hg (by omega)
theorem y_Model_measureg {D : va_G} {cA : FieldType → ClassId} {b : Nat} {E : State → Prop} {R : qRg} {o n : Nat} {sh : Nat → qC} {Rf : Nat → Nat → Option Nat} {I0 : Nat → Nat → Int32} {L0 : Nat → Nat → Int64} {post : Option Value → qS → Prop} (hok : q_ok (qGG D cA b E)) (hw : WfModel (qGG D cA b E) n sh Rf o) (ra : RAModel R o) (hR : RI R I0) (hp : ∀ (I' : Nat → Nat → Int32) (L' : Nat → Nat → Int64), RI R I' → Fm (fun c => c = o + 25) I0 I' → Kp wModel_measure I0 I' o → (gModel_measure_0 o (tI I0) L0 = (0, tI I', L')) → post none (n, sh, Rf, I', L')) : Ev (qGG D cA b E) mModel_measure 0 (0, 0) 0 (lv_args 0 [.ref o]) [] (n, sh, Rf, I0, L0) post :=
  yc_Model_measureg (R := fzR R I0 o wModel_measure) hok hw (fzA ra hR _) fzZ (fzI hR) (fzI hR) (fun I' L' h1 h2  ug => hp I' L' (fzB hR h1) h2 (fzP h1)  ug)
noncomputable def gModel_isTold_99 (k : Nat) (o : Nat) (J : gJ) (L : gL) (x1 : Int64) (x3 : Int) : Int := match k with
  | 0 => default
  | k + 1 => gLet (J o 35) (fun (v_1 : Int) => gLet (5 * v_1) (fun (v_2 : Int) => gLet (J o 35) (fun (v_3 : Int) => gLet (J (o + 9) (Int.toNat v_3)) (fun (v_4 : Int) => gLet (v_2 + v_4) (fun (v_5 : Int) => (if v_5 ≤ x3 then 0 else gLet ((lg_cmp (L (o + 5) (Int.toNat x3)) x1).toInt) (fun (v_6 : Int) => (if v_6 = 0 then 1 else gLet (x3 + 1) (fun (v_7 : Int) => (gModel_isTold_99 k o J L x1 v_7))))))))))
theorem eModel_isTold_99 {k : Nat} {o : Nat} {J : gJ} {L : gL} {x1 : Int64} {x3 : Int} : gModel_isTold_99 (k + 1) o J L x1 x3 = gLet (J o 35) (fun (v_1 : Int) => gLet (5 * v_1) (fun (v_2 : Int) => gLet (J o 35) (fun (v_3 : Int) => gLet (J (o + 9) (Int.toNat v_3)) (fun (v_4 : Int) => gLet (v_2 + v_4) (fun (v_5 : Int) => (if v_5 ≤ x3 then 0 else gLet ((lg_cmp (L (o + 5) (Int.toNat x3)) x1).toInt) (fun (v_6 : Int) => (if v_6 = 0 then 1 else gLet (x3 + 1) (fun (v_7 : Int) => (gModel_isTold_99 k o J L x1 v_7)))))))))) := rfl
noncomputable def gModel_isTold_53 (k : Nat) (o : Nat) (J : gJ) (L : gL) (x1 : Int64) (x3 : Int) : Int := match k with
  | 0 => default
  | k + 1 => gLet (J o 35) (fun (v_1 : Int) => gLet (3 * v_1) (fun (v_2 : Int) => gLet (J o 35) (fun (v_3 : Int) => gLet (J (o + 8) (Int.toNat v_3)) (fun (v_4 : Int) => gLet (v_2 + v_4) (fun (v_5 : Int) => (if v_5 ≤ x3 then gLet (J o 35) (fun (v_6 : Int) => gLet (5 * v_6) (fun (v_7 : Int) => (gModel_isTold_99 20000 o J L x1 v_7))) else gLet ((lg_cmp (L (o + 4) (Int.toNat x3)) x1).toInt) (fun (v_8 : Int) => (if v_8 = 0 then 1 else gLet (x3 + 1) (fun (v_9 : Int) => (gModel_isTold_53 k o J L x1 v_9))))))))))
theorem eModel_isTold_53 {k : Nat} {o : Nat} {J : gJ} {L : gL} {x1 : Int64} {x3 : Int} : gModel_isTold_53 (k + 1) o J L x1 x3 = gLet (J o 35) (fun (v_1 : Int) => gLet (3 * v_1) (fun (v_2 : Int) => gLet (J o 35) (fun (v_3 : Int) => gLet (J (o + 8) (Int.toNat v_3)) (fun (v_4 : Int) => gLet (v_2 + v_4) (fun (v_5 : Int) => (if v_5 ≤ x3 then gLet (J o 35) (fun (v_6 : Int) => gLet (5 * v_6) (fun (v_7 : Int) => (gModel_isTold_99 20000 o J L x1 v_7))) else gLet ((lg_cmp (L (o + 4) (Int.toNat x3)) x1).toInt) (fun (v_8 : Int) => (if v_8 = 0 then 1 else gLet (x3 + 1) (fun (v_9 : Int) => (gModel_isTold_53 k o J L x1 v_9)))))))))) := rfl
noncomputable def gModel_isTold_7 (k : Nat) (o : Nat) (J : gJ) (L : gL) (x1 : Int64) (x3 : Int) : Int := match k with
  | 0 => default
  | k + 1 => gLet (J o 35) (fun (v_1 : Int) => gLet (3 * v_1) (fun (v_2 : Int) => gLet (J o 35) (fun (v_3 : Int) => gLet (J (o + 7) (Int.toNat v_3)) (fun (v_4 : Int) => gLet (v_2 + v_4) (fun (v_5 : Int) => (if v_5 ≤ x3 then gLet (J o 35) (fun (v_6 : Int) => gLet (3 * v_6) (fun (v_7 : Int) => (gModel_isTold_53 20000 o J L x1 v_7))) else gLet ((lg_cmp (L (o + 3) (Int.toNat x3)) x1).toInt) (fun (v_8 : Int) => (if v_8 = 0 then 1 else gLet (x3 + 1) (fun (v_9 : Int) => (gModel_isTold_7 k o J L x1 v_9))))))))))
theorem eModel_isTold_7 {k : Nat} {o : Nat} {J : gJ} {L : gL} {x1 : Int64} {x3 : Int} : gModel_isTold_7 (k + 1) o J L x1 x3 = gLet (J o 35) (fun (v_1 : Int) => gLet (3 * v_1) (fun (v_2 : Int) => gLet (J o 35) (fun (v_3 : Int) => gLet (J (o + 7) (Int.toNat v_3)) (fun (v_4 : Int) => gLet (v_2 + v_4) (fun (v_5 : Int) => (if v_5 ≤ x3 then gLet (J o 35) (fun (v_6 : Int) => gLet (3 * v_6) (fun (v_7 : Int) => (gModel_isTold_53 20000 o J L x1 v_7))) else gLet ((lg_cmp (L (o + 3) (Int.toNat x3)) x1).toInt) (fun (v_8 : Int) => (if v_8 = 0 then 1 else gLet (x3 + 1) (fun (v_9 : Int) => (gModel_isTold_7 k o J L x1 v_9)))))))))) := rfl
noncomputable def gModel_isTold_0 (o : Nat) (J : gJ) (L : gL) (x1 : Int64) : Int := gLet (J o 35) (fun (v_1 : Int) => gLet (3 * v_1) (fun (v_2 : Int) => (gModel_isTold_7 20000 o J L x1 v_2)))
theorem eModel_isTold_0 {o : Nat} {J : gJ} {L : gL} {x1 : Int64} : gModel_isTold_0 o J L x1 = gLet (J o 35) (fun (v_1 : Int) => gLet (3 * v_1) (fun (v_2 : Int) => (gModel_isTold_7 20000 o J L x1 v_2))) := rfl
set_option maxHeartbeats 4000000 in
set_option maxRecDepth 20000 in
theorem yModel_isTold_99g {D : va_G} {cA : FieldType → ClassId} {b : Nat} {E : State → Prop} {R : qRg} {o n : Nat} {sh : Nat → qC} {Rf : Nat → Nat → Option Nat} {I0 : Nat → Nat → Int32} {L0 : Nat → Nat → Int64} {post : Option Value → qS → Prop} {p1 : Int64} (hok : q_ok (qGG D cA b E)) (hw : WfModel (qGG D cA b E) n sh Rf o) (ra : RAModel R o) (hR : RI R I0) (hp : ∀ (r : Int32) , (Bz r) → (gModel_isTold_0 o (tI I0) L0 p1 = r.toInt) → post (some (.int r)) (n, sh, Rf, I0, L0)) : ∀ (k : Nat) {x1 : Int64} {x3 : Int32} , ((0 : Int) ≤ x3.toInt ∧ x3.toInt ≤ 10) → (gModel_isTold_99 k o (tI I0) L0 x1 (x3).toInt = gModel_isTold_0 o (tI I0) L0 p1) → (10 - x3.toInt).toNat < k → Ev (qGG D cA b E) mModel_isTold 0 (0, 0) 99 [(0, .ref o), (1, .long x1), (3, .int x3)] [] (n, sh, Rf, I0, L0) post := by
  intro k
  induction k with
  | zero =>
    intro x1 x3 hi0 hg hm
    exact absurd hm (Nat.not_lt_zero _)
  | succ k ih =>
    intro x1 x3 hi0 hg hm
    refine sModel_isTold_99 o n sh Rf I0 L0 post x1 x3 hok hw ?_
    unfold fModel_isTold_99
    replace hg := (eModel_isTold_99).symm.trans hg
    have g_1 : (0 : Int) ≤ (I0 o 35).toInt ∧ (I0 o 35).toInt ≤ 1 := hR.at0 ra 35 (by decide)
    replace hg := gt_let (y := (I0 o 35).toInt) rfl hg
    have l_2 : (5 : Int32).toInt = 5 := rfl
    have a_3 : (5 * (I0 o 35)).toInt = 5 * (I0 o 35).toInt := tMulL rfl (by omega) (by omega)
    replace hg := gt_let (y := ((5 * (I0 o 35)) : Int32).toInt) (by omega) hg
    have g_4 : (0 : Int) ≤ (I0 o 35).toInt ∧ (I0 o 35).toInt ≤ 1 := hR.at0 ra 35 (by decide)
    replace hg := gt_let (y := (I0 o 35).toInt) rfl hg
    refine ⟨tIn (by omega) (by omega), ?_⟩
    have g_5 : (0 : Int) ≤ (I0 (o + 9) ((I0 o 35) : Int32).toNatClampNeg).toInt ∧ (I0 (o + 9) ((I0 o 35) : Int32).toNatClampNeg).toInt ≤ 5 := hR.at ra 9 _ (by decide)
    replace hg := gt_let (y := (I0 (o + 9) ((I0 o 35) : Int32).toNatClampNeg).toInt) rfl hg
    have a_6 : ((5 * (I0 o 35)) + (I0 (o + 9) ((I0 o 35) : Int32).toNatClampNeg)).toInt = (5 * (I0 o 35)).toInt + (I0 (o + 9) ((I0 o 35) : Int32).toNatClampNeg).toInt := tAdd (by omega) (by omega)
    replace hg := gt_let (y := (((5 * (I0 o 35)) + (I0 (o + 9) ((I0 o 35) : Int32).toNatClampNeg)) : Int32).toInt) (by omega) hg
    refine ⟨fun c_7 => ?_, fun c_7 => ?_⟩
    · have d_8 := iLe c_7
      replace hg := gt_pos (by first | exact d_8 | omega) hg
      have l_9 : (0 : Int32).toInt = 0 := rfl
      exact (hp _ (Or.inl rfl) hg.symm)
    · have d_10 := iNle c_7
      replace hg := gt_neg (by first | exact d_10 | omega) hg
      refine ⟨tIn (by omega) (by omega), ?_⟩
      replace hg := gt_let (y := (lg_cmp (L0 (o + 5) (x3 : Int32).toNatClampNeg) x1).toInt) rfl hg
      have l_11 : (0 : Int32).toInt = 0 := rfl
      refine ⟨fun c_12 => ?_, fun c_12 => ?_⟩
      · have d_13 := iNe c_12
        replace hg := gt_neg (by first | exact d_13 | omega) hg
        have a_15 : (x3 + Int32.ofInt 1).toInt = x3.toInt + (1) := tIc (by omega) (by omega) (by decide) (by decide)
        generalize ez_14 : (x3 + Int32.ofInt 1) = z_14 at a_15 ⊢
        replace hg := gt_let (y := z_14.toInt) (by omega) hg
        exact ih (by first | omega | (intro h; omega) | exact Or.inl rfl | exact Or.inr rfl) hg (by omega)
      · have d_16 := iEq c_12
        replace hg := gt_pos (by first | exact d_16 | omega) hg
        have l_17 : (1 : Int32).toInt = 1 := rfl
        exact (hp _ (Or.inr rfl) hg.symm)
set_option maxHeartbeats 4000000 in
set_option maxRecDepth 20000 in
theorem yModel_isTold_53g {D : va_G} {cA : FieldType → ClassId} {b : Nat} {E : State → Prop} {R : qRg} {o n : Nat} {sh : Nat → qC} {Rf : Nat → Nat → Option Nat} {I0 : Nat → Nat → Int32} {L0 : Nat → Nat → Int64} {post : Option Value → qS → Prop} {p1 : Int64} (hok : q_ok (qGG D cA b E)) (hw : WfModel (qGG D cA b E) n sh Rf o) (ra : RAModel R o) (hR : RI R I0) (hp : ∀ (r : Int32) , (Bz r) → (gModel_isTold_0 o (tI I0) L0 p1 = r.toInt) → post (some (.int r)) (n, sh, Rf, I0, L0)) : ∀ (k : Nat) {x1 : Int64} {x3 : Int32} , ((0 : Int) ≤ x3.toInt ∧ x3.toInt ≤ 6) → (gModel_isTold_53 k o (tI I0) L0 x1 (x3).toInt = gModel_isTold_0 o (tI I0) L0 p1) → (6 - x3.toInt).toNat < k → Ev (qGG D cA b E) mModel_isTold 0 (0, 0) 53 [(0, .ref o), (1, .long x1), (3, .int x3)] [] (n, sh, Rf, I0, L0) post := by
  intro k
  induction k with
  | zero =>
    intro x1 x3 hi0 hg hm
    exact absurd hm (Nat.not_lt_zero _)
  | succ k ih =>
    intro x1 x3 hi0 hg hm
    refine sModel_isTold_53 o n sh Rf I0 L0 post x1 x3 hok hw ?_
    unfold fModel_isTold_53
    replace hg := (eModel_isTold_53).symm.trans hg
    have g_18 : (0 : Int) ≤ (I0 o 35).toInt ∧ (I0 o 35).toInt ≤ 1 := hR.at0 ra 35 (by decide)
    replace hg := gt_let (y := (I0 o 35).toInt) rfl hg
    have l_19 : (3 : Int32).toInt = 3 := rfl
    have a_20 : (3 * (I0 o 35)).toInt = 3 * (I0 o 35).toInt := tMulL rfl (by omega) (by omega)
    replace hg := gt_let (y := ((3 * (I0 o 35)) : Int32).toInt) (by omega) hg
    have g_21 : (0 : Int) ≤ (I0 o 35).toInt ∧ (I0 o 35).toInt ≤ 1 := hR.at0 ra 35 (by decide)
    replace hg := gt_let (y := (I0 o 35).toInt) rfl hg
    refine ⟨tIn (by omega) (by omega), ?_⟩
    have g_22 : (0 : Int) ≤ (I0 (o + 8) ((I0 o 35) : Int32).toNatClampNeg).toInt ∧ (I0 (o + 8) ((I0 o 35) : Int32).toNatClampNeg).toInt ≤ 3 := hR.at ra 8 _ (by decide)
    replace hg := gt_let (y := (I0 (o + 8) ((I0 o 35) : Int32).toNatClampNeg).toInt) rfl hg
    have a_23 : ((3 * (I0 o 35)) + (I0 (o + 8) ((I0 o 35) : Int32).toNatClampNeg)).toInt = (3 * (I0 o 35)).toInt + (I0 (o + 8) ((I0 o 35) : Int32).toNatClampNeg).toInt := tAdd (by omega) (by omega)
    replace hg := gt_let (y := (((3 * (I0 o 35)) + (I0 (o + 8) ((I0 o 35) : Int32).toNatClampNeg)) : Int32).toInt) (by omega) hg
    refine ⟨fun c_24 => ?_, fun c_24 => ?_⟩
    · have d_25 := iLe c_24
      replace hg := gt_pos (by first | exact d_25 | omega) hg
      have g_26 : (0 : Int) ≤ (I0 o 35).toInt ∧ (I0 o 35).toInt ≤ 1 := hR.at0 ra 35 (by decide)
      replace hg := gt_let (y := (I0 o 35).toInt) rfl hg
      have l_27 : (5 : Int32).toInt = 5 := rfl
      have a_28 : (5 * (I0 o 35)).toInt = 5 * (I0 o 35).toInt := tMulL rfl (by omega) (by omega)
      replace hg := gt_let (y := ((5 * (I0 o 35)) : Int32).toInt) (by omega) hg
      exact yModel_isTold_99g (I0 := I0) (L0 := L0) (p1 := p1) hok hw ra hR hp  20000 (by first | omega | (intro h; omega) | exact Or.inl rfl | exact Or.inr rfl) hg (by omega)
    · have d_29 := iNle c_24
      replace hg := gt_neg (by first | exact d_29 | omega) hg
      refine ⟨tIn (by omega) (by omega), ?_⟩
      replace hg := gt_let (y := (lg_cmp (L0 (o + 4) (x3 : Int32).toNatClampNeg) x1).toInt) rfl hg
      have l_30 : (0 : Int32).toInt = 0 := rfl
      refine ⟨fun c_31 => ?_, fun c_31 => ?_⟩
      · have d_32 := iNe c_31
        replace hg := gt_neg (by first | exact d_32 | omega) hg
        have a_34 : (x3 + Int32.ofInt 1).toInt = x3.toInt + (1) := tIc (by omega) (by omega) (by decide) (by decide)
        generalize ez_33 : (x3 + Int32.ofInt 1) = z_33 at a_34 ⊢
        replace hg := gt_let (y := z_33.toInt) (by omega) hg
        exact ih (by first | omega | (intro h; omega) | exact Or.inl rfl | exact Or.inr rfl) hg (by omega)
      · have d_35 := iEq c_31
        replace hg := gt_pos (by first | exact d_35 | omega) hg
        have l_36 : (1 : Int32).toInt = 1 := rfl
        exact (hp _ (Or.inr rfl) hg.symm)
set_option maxHeartbeats 4000000 in
set_option maxRecDepth 20000 in
theorem yModel_isTold_7g {D : va_G} {cA : FieldType → ClassId} {b : Nat} {E : State → Prop} {R : qRg} {o n : Nat} {sh : Nat → qC} {Rf : Nat → Nat → Option Nat} {I0 : Nat → Nat → Int32} {L0 : Nat → Nat → Int64} {post : Option Value → qS → Prop} {p1 : Int64} (hok : q_ok (qGG D cA b E)) (hw : WfModel (qGG D cA b E) n sh Rf o) (ra : RAModel R o) (hR : RI R I0) (hp : ∀ (r : Int32) , (Bz r) → (gModel_isTold_0 o (tI I0) L0 p1 = r.toInt) → post (some (.int r)) (n, sh, Rf, I0, L0)) : ∀ (k : Nat) {x1 : Int64} {x3 : Int32} , ((0 : Int) ≤ x3.toInt ∧ x3.toInt ≤ 6) → (gModel_isTold_7 k o (tI I0) L0 x1 (x3).toInt = gModel_isTold_0 o (tI I0) L0 p1) → (6 - x3.toInt).toNat < k → Ev (qGG D cA b E) mModel_isTold 0 (0, 0) 7 [(0, .ref o), (1, .long x1), (3, .int x3)] [] (n, sh, Rf, I0, L0) post := by
  intro k
  induction k with
  | zero =>
    intro x1 x3 hi0 hg hm
    exact absurd hm (Nat.not_lt_zero _)
  | succ k ih =>
    intro x1 x3 hi0 hg hm
    refine sModel_isTold_7 o n sh Rf I0 L0 post x1 x3 hok hw ?_
    unfold fModel_isTold_7
    replace hg := (eModel_isTold_7).symm.trans hg
    have g_37 : (0 : Int) ≤ (I0 o 35).toInt ∧ (I0 o 35).toInt ≤ 1 := hR.at0 ra 35 (by decide)
    replace hg := gt_let (y := (I0 o 35).toInt) rfl hg
    have l_38 : (3 : Int32).toInt = 3 := rfl
    have a_39 : (3 * (I0 o 35)).toInt = 3 * (I0 o 35).toInt := tMulL rfl (by omega) (by omega)
    replace hg := gt_let (y := ((3 * (I0 o 35)) : Int32).toInt) (by omega) hg
    have g_40 : (0 : Int) ≤ (I0 o 35).toInt ∧ (I0 o 35).toInt ≤ 1 := hR.at0 ra 35 (by decide)
    replace hg := gt_let (y := (I0 o 35).toInt) rfl hg
    refine ⟨tIn (by omega) (by omega), ?_⟩
    have g_41 : (0 : Int) ≤ (I0 (o + 7) ((I0 o 35) : Int32).toNatClampNeg).toInt ∧ (I0 (o + 7) ((I0 o 35) : Int32).toNatClampNeg).toInt ≤ 3 := hR.at ra 7 _ (by decide)
    replace hg := gt_let (y := (I0 (o + 7) ((I0 o 35) : Int32).toNatClampNeg).toInt) rfl hg
    have a_42 : ((3 * (I0 o 35)) + (I0 (o + 7) ((I0 o 35) : Int32).toNatClampNeg)).toInt = (3 * (I0 o 35)).toInt + (I0 (o + 7) ((I0 o 35) : Int32).toNatClampNeg).toInt := tAdd (by omega) (by omega)
    replace hg := gt_let (y := (((3 * (I0 o 35)) + (I0 (o + 7) ((I0 o 35) : Int32).toNatClampNeg)) : Int32).toInt) (by omega) hg
    refine ⟨fun c_43 => ?_, fun c_43 => ?_⟩
    · have d_44 := iLe c_43
      replace hg := gt_pos (by first | exact d_44 | omega) hg
      have g_45 : (0 : Int) ≤ (I0 o 35).toInt ∧ (I0 o 35).toInt ≤ 1 := hR.at0 ra 35 (by decide)
      replace hg := gt_let (y := (I0 o 35).toInt) rfl hg
      have a_46 : (3 * (I0 o 35)).toInt = 3 * (I0 o 35).toInt := tMulL rfl (by omega) (by omega)
      replace hg := gt_let (y := ((3 * (I0 o 35)) : Int32).toInt) (by omega) hg
      exact yModel_isTold_53g (I0 := I0) (L0 := L0) (p1 := p1) hok hw ra hR hp  20000 (by first | omega | (intro h; omega) | exact Or.inl rfl | exact Or.inr rfl) hg (by omega)
    · have d_47 := iNle c_43
      replace hg := gt_neg (by first | exact d_47 | omega) hg
      refine ⟨tIn (by omega) (by omega), ?_⟩
      replace hg := gt_let (y := (lg_cmp (L0 (o + 3) (x3 : Int32).toNatClampNeg) x1).toInt) rfl hg
      have l_48 : (0 : Int32).toInt = 0 := rfl
      refine ⟨fun c_49 => ?_, fun c_49 => ?_⟩
      · have d_50 := iNe c_49
        replace hg := gt_neg (by first | exact d_50 | omega) hg
        have a_52 : (x3 + Int32.ofInt 1).toInt = x3.toInt + (1) := tIc (by omega) (by omega) (by decide) (by decide)
        generalize ez_51 : (x3 + Int32.ofInt 1) = z_51 at a_52 ⊢
        replace hg := gt_let (y := z_51.toInt) (by omega) hg
        exact ih (by first | omega | (intro h; omega) | exact Or.inl rfl | exact Or.inr rfl) hg (by omega)
      · have d_53 := iEq c_49
        replace hg := gt_pos (by first | exact d_53 | omega) hg
        have l_54 : (1 : Int32).toInt = 1 := rfl
        exact (hp _ (Or.inr rfl) hg.symm)
set_option maxHeartbeats 4000000 in
set_option maxRecDepth 20000 in
theorem y_Model_isToldg {D : va_G} {cA : FieldType → ClassId} {b : Nat} {E : State → Prop} {R : qRg} {o n : Nat} {sh : Nat → qC} {Rf : Nat → Nat → Option Nat} {I0 : Nat → Nat → Int32} {L0 : Nat → Nat → Int64} {post : Option Value → qS → Prop} {p1 : Int64} (hok : q_ok (qGG D cA b E)) (hw : WfModel (qGG D cA b E) n sh Rf o) (ra : RAModel R o) (hR : RI R I0) (hp : ∀ (r : Int32) , (Bz r) → (gModel_isTold_0 o (tI I0) L0 p1 = r.toInt) → post (some (.int r)) (n, sh, Rf, I0, L0)) : Ev (qGG D cA b E) mModel_isTold 0 (0, 0) 0 (lv_args 0 [.ref o, .long p1]) [] (n, sh, Rf, I0, L0) post := by
  refine sModel_isTold_0 o n sh Rf I0 L0 post p1 hok hw ?_
  unfold fModel_isTold_0
  have hg : gModel_isTold_0 o (tI I0) L0 p1 = gModel_isTold_0 o (tI I0) L0 p1 := rfl
  replace hg := (eModel_isTold_0).symm.trans hg
  have g_55 : (0 : Int) ≤ (I0 o 35).toInt ∧ (I0 o 35).toInt ≤ 1 := hR.at0 ra 35 (by decide)
  replace hg := gt_let (y := (I0 o 35).toInt) rfl hg
  have l_56 : (3 : Int32).toInt = 3 := rfl
  have a_57 : (3 * (I0 o 35)).toInt = 3 * (I0 o 35).toInt := tMulL rfl (by omega) (by omega)
  replace hg := gt_let (y := ((3 * (I0 o 35)) : Int32).toInt) (by omega) hg
  exact yModel_isTold_7g (I0 := I0) (L0 := L0) (p1 := p1) hok hw ra hR hp  20000 (by first | omega | (intro h; omega) | exact Or.inl rfl | exact Or.inr rfl) hg (by omega)
noncomputable def gModel_point_19 (o : Nat) (J : gJ) (L : gL) (x1 : Int) (z0 : Int) : Int × gJ × gL := gB3 (gModel_must_0 o J L z0) (fun r_1 J_2 L_3 => gLet (gModel_isGood_0 o J_2 L_3) (fun (r_4 : Int) => (if r_4 = 0 then (0, J_2, L_3) else (x1, J_2, L_3))))
theorem eModel_point_19 {o : Nat} {J : gJ} {L : gL} {x1 : Int} {z0 : Int} : gModel_point_19 o J L x1 z0 = gB3 (gModel_must_0 o J L z0) (fun r_1 J_2 L_3 => gLet (gModel_isGood_0 o J_2 L_3) (fun (r_4 : Int) => (if r_4 = 0 then (0, J_2, L_3) else (x1, J_2, L_3)))) := rfl
noncomputable def gModel_point_0 (o : Nat) (J : gJ) (L : gL) : Int × gJ × gL := gLet (J o 9) (fun (v_1 : Int) => gLet (J o 8) (fun (v_2 : Int) => (if v_2 = 5 then (gModel_point_19 o J L v_1 1) else (gModel_point_19 o J L v_1 0))))
theorem eModel_point_0 {o : Nat} {J : gJ} {L : gL} : gModel_point_0 o J L  = gLet (J o 9) (fun (v_1 : Int) => gLet (J o 8) (fun (v_2 : Int) => (if v_2 = 5 then (gModel_point_19 o J L v_1 1) else (gModel_point_19 o J L v_1 0)))) := rfl
set_option maxHeartbeats 4000000 in
set_option maxRecDepth 20000 in
theorem yc_Model_pointg {D : va_G} {cA : FieldType → ClassId} {b : Nat} {E : State → Prop} {R : qRg} {o n : Nat} {sh : Nat → qC} {Rf : Nat → Nat → Option Nat} {I0 : Nat → Nat → Int32} {L0 : Nat → Nat → Int64} {post : Option Value → qS → Prop} (hok : q_ok (qGG D cA b E)) (hw : WfModel (qGG D cA b E) n sh Rf o) (ra : RAModel R o) (hz14 : R.2 14 = true) (hz15 : R.2 15 = true) (hz16 : R.2 16 = true) (hz17 : R.2 17 = true) (hz18 : R.2 18 = true) (hz19 : R.2 19 = true) (hZ : Fz R I0 o wModel_point) (hR0 : RI R I0) (hq0 : (I0 o 7).toInt ≤ (I0 o 3).toInt) (hq1 : MPo I0 o) (hq2 : MTk I0 o) (hR : RI R I0) (hp : ∀ (r : Int32) (I' : Nat → Nat → Int32) (L' : Nat → Nat → Int64), RI R I' → Fm (fun c => c = o) I0 I' → (((0 : Int) ≤ r.toInt ∧ r.toInt ≤ 15)) → ((I' o 7).toInt ≤ (I' o 3).toInt) → ((I0 o 7).toInt ≤ (I' o 7).toInt) → ((I0 o 4).toInt ≤ (I' o 4).toInt) → (7 * (I0 o 7).toInt - (I0 o 8).toInt + (I0 o 4).toInt ≤ 7 * (I' o 7).toInt - (I' o 8).toInt + (I' o 4).toInt) → (MPo I' o) → (MTk I' o) → (gModel_point_0 o (tI I0) L0 = (r.toInt, tI I', L')) → post (some (.int r)) (n, sh, Rf, I', L')) : Ev (qGG D cA b E) mModel_point 4 (0, 0) 0 (lv_args 0 [.ref o]) [] (n, sh, Rf, I0, L0) post := by
  have hf : Fm (fun c => c = o) I0 I0 := Fm.rf
  have g_1 : (0 : Int) ≤ (I0 o 3).toInt ∧ (I0 o 3).toInt ≤ 1600 := hR.at0 ra 3 (by decide)
  have g_2 : (0 : Int) ≤ (I0 o 4).toInt ∧ (I0 o 4).toInt ≤ 5 := hR.at0 ra 4 (by decide)
  have g_3 : (0 : Int) ≤ (I0 o 6).toInt ∧ (I0 o 6).toInt ≤ 1600 := hR.at0 ra 6 (by decide)
  have g_4 : (0 : Int) ≤ (I0 o 7).toInt ∧ (I0 o 7).toInt ≤ 1601 := hR.at0 ra 7 (by decide)
  have g_5 : (0 : Int) ≤ (I0 o 8).toInt ∧ (I0 o 8).toInt ≤ 6 := hR.at0 ra 8 (by decide)
  refine sModel_point_0 o n sh Rf I0 L0 post  hok hw ?_
  unfold fModel_point_0
  have hg : gModel_point_0 o (tI I0) L0 = gModel_point_0 o (tI I0) L0 := rfl
  replace hg := (eModel_point_0).symm.trans hg
  replace hg := gt_let (y := (I0 o 9).toInt) rfl hg
  have g_6 : (0 : Int) ≤ (I0 o 8).toInt ∧ (I0 o 8).toInt ≤ 6 := hR.at0 ra 8 (by decide)
  replace hg := gt_let (y := (I0 o 8).toInt) rfl hg
  have l_7 : (5 : Int32).toInt = 5 := rfl
  refine ⟨fun c_8 => ?_, fun c_8 => ?_⟩
  · have d_9 := iNe c_8
    replace hg := gt_neg (by first | exact d_9 | omega) hg
    unfold fModel_point_19
    replace hg := (eModel_point_19).symm.trans hg
    have l_10 : (0 : Int32).toInt = 0 := rfl
    refine y_Model_mustg hok hw ra hz14 hz15 hz16 hz17 hz18 hz19 (by first | omega | (intro h; omega) | exact Or.inl rfl | exact Or.inr rfl) hq1 hq2 hR (fun I_22 L_23 hR_24 fr_25 kp_26 u_12 u_13 u_14 u_15 u_16 u_17 u_18 u_19 u_20 gn_21 => ⟨I_22, L_23, rfl, rfl, ?_⟩)
    replace hg := gt_b3 gn_21 hg
    clear gn_21
    have hf_27 : Fm (fun c => c = o) I0 I_22 := hf.call fr_25 (fun c hc => by first | exact hc | (dsimp only at hc ⊢; omega) | omega)
    have t_28 : (I_22 o 3).toInt = (I0 o 3).toInt := by rw [kp_26 3 rfl]
    have g_29 : (0 : Int) ≤ (I_22 o 4).toInt ∧ (I_22 o 4).toInt ≤ 5 := hR_24.at0 ra 4 (by decide)
    have g_30 : (0 : Int) ≤ (I_22 o 6).toInt ∧ (I_22 o 6).toInt ≤ 1600 := hR_24.at0 ra 6 (by decide)
    have g_31 : (0 : Int) ≤ (I_22 o 7).toInt ∧ (I_22 o 7).toInt ≤ 1601 := hR_24.at0 ra 7 (by decide)
    have g_32 : (0 : Int) ≤ (I_22 o 8).toInt ∧ (I_22 o 8).toInt ≤ 6 := hR_24.at0 ra 8 (by decide)
    refine y_Model_isGoodg hok hw ra hR_24 (fun r_33 u_34 u_35 u_36 gn_37 => ⟨r_33, I_22, L_23, rfl, rfl, ?_⟩)
    replace hg := gt_let gn_37 hg
    clear gn_37
    have b_38 : 0 ≤ r_33.toInt ∧ r_33.toInt ≤ 1 := u_34.rg
    refine ⟨fun c_39 => ?_, fun c_39 => ?_⟩
    · have d_40 := iEq c_39
      have i_41 := u_36 (by omega)
      replace hg := gt_pos (by first | exact d_40 | omega) hg
      exact (hp _ _ _ hR_24 hf_27 (by first | omega | (intro h; omega) | exact Or.inl rfl | exact Or.inr rfl) (by first | omega | (intro h; omega) | exact Or.inl rfl | exact Or.inr rfl) (by first | omega | (intro h; omega) | exact Or.inl rfl | exact Or.inr rfl) (by first | omega | (intro h; omega) | exact Or.inl rfl | exact Or.inr rfl) (by first | omega | (intro h; omega) | exact Or.inl rfl | exact Or.inr rfl) u_19 u_20 hg.symm)
    · have d_42 := iNe c_39
      have i_43 := u_35 (by omega)
      replace hg := gt_neg (by first | exact d_42 | omega) hg
      have gd := u_35 (by omega)
      have mq : 0 ≤ (I0 o 9).toInt ∧ (I0 o 9).toInt ≤ 15 := by first | exact hq1 (by omega) | exact absurd (u_16 (by omega)) (by omega)
      exact (hp _ _ _ hR_24 hf_27 (by first | omega | (intro h; omega) | exact Or.inl rfl | exact Or.inr rfl) (by first | omega | (intro h; omega) | exact Or.inl rfl | exact Or.inr rfl) (by first | omega | (intro h; omega) | exact Or.inl rfl | exact Or.inr rfl) (by first | omega | (intro h; omega) | exact Or.inl rfl | exact Or.inr rfl) (by first | omega | (intro h; omega) | exact Or.inl rfl | exact Or.inr rfl) u_19 u_20 hg.symm)
  · have d_44 := iEq c_8
    replace hg := gt_pos (by first | exact d_44 | omega) hg
    unfold fModel_point_19
    replace hg := (eModel_point_19).symm.trans hg
    have l_45 : (1 : Int32).toInt = 1 := rfl
    refine y_Model_mustg hok hw ra hz14 hz15 hz16 hz17 hz18 hz19 (by first | omega | (intro h; omega) | exact Or.inl rfl | exact Or.inr rfl) hq1 hq2 hR (fun I_57 L_58 hR_59 fr_60 kp_61 u_47 u_48 u_49 u_50 u_51 u_52 u_53 u_54 u_55 gn_56 => ⟨I_57, L_58, rfl, rfl, ?_⟩)
    replace hg := gt_b3 gn_56 hg
    clear gn_56
    have hf_62 : Fm (fun c => c = o) I0 I_57 := hf.call fr_60 (fun c hc => by first | exact hc | (dsimp only at hc ⊢; omega) | omega)
    have t_63 : (I_57 o 3).toInt = (I0 o 3).toInt := by rw [kp_61 3 rfl]
    have g_64 : (0 : Int) ≤ (I_57 o 4).toInt ∧ (I_57 o 4).toInt ≤ 5 := hR_59.at0 ra 4 (by decide)
    have g_65 : (0 : Int) ≤ (I_57 o 6).toInt ∧ (I_57 o 6).toInt ≤ 1600 := hR_59.at0 ra 6 (by decide)
    have g_66 : (0 : Int) ≤ (I_57 o 7).toInt ∧ (I_57 o 7).toInt ≤ 1601 := hR_59.at0 ra 7 (by decide)
    have g_67 : (0 : Int) ≤ (I_57 o 8).toInt ∧ (I_57 o 8).toInt ≤ 6 := hR_59.at0 ra 8 (by decide)
    refine y_Model_isGoodg hok hw ra hR_59 (fun r_68 u_69 u_70 u_71 gn_72 => ⟨r_68, I_57, L_58, rfl, rfl, ?_⟩)
    replace hg := gt_let gn_72 hg
    clear gn_72
    have b_73 : 0 ≤ r_68.toInt ∧ r_68.toInt ≤ 1 := u_69.rg
    have l_74 : (0 : Int32).toInt = 0 := rfl
    refine ⟨fun c_75 => ?_, fun c_75 => ?_⟩
    · have d_76 := iEq c_75
      have i_77 := u_71 (by omega)
      replace hg := gt_pos (by first | exact d_76 | omega) hg
      exact (hp _ _ _ hR_59 hf_62 (by first | omega | (intro h; omega) | exact Or.inl rfl | exact Or.inr rfl) (by first | omega | (intro h; omega) | exact Or.inl rfl | exact Or.inr rfl) (by first | omega | (intro h; omega) | exact Or.inl rfl | exact Or.inr rfl) (by first | omega | (intro h; omega) | exact Or.inl rfl | exact Or.inr rfl) (by first | omega | (intro h; omega) | exact Or.inl rfl | exact Or.inr rfl) u_54 u_55 hg.symm)
    · have d_78 := iNe c_75
      have i_79 := u_70 (by omega)
      replace hg := gt_neg (by first | exact d_78 | omega) hg
      have gd := u_70 (by omega)
      have mq : 0 ≤ (I0 o 9).toInt ∧ (I0 o 9).toInt ≤ 15 := by first | exact hq1 (by omega) | exact absurd (u_51 (by omega)) (by omega)
      exact (hp _ _ _ hR_59 hf_62 (by first | omega | (intro h; omega) | exact Or.inl rfl | exact Or.inr rfl) (by first | omega | (intro h; omega) | exact Or.inl rfl | exact Or.inr rfl) (by first | omega | (intro h; omega) | exact Or.inl rfl | exact Or.inr rfl) (by first | omega | (intro h; omega) | exact Or.inl rfl | exact Or.inr rfl) (by first | omega | (intro h; omega) | exact Or.inl rfl | exact Or.inr rfl) u_54 u_55 hg.symm)
theorem y_Model_pointg {D : va_G} {cA : FieldType → ClassId} {b : Nat} {E : State → Prop} {R : qRg} {o n : Nat} {sh : Nat → qC} {Rf : Nat → Nat → Option Nat} {I0 : Nat → Nat → Int32} {L0 : Nat → Nat → Int64} {post : Option Value → qS → Prop} (hok : q_ok (qGG D cA b E)) (hw : WfModel (qGG D cA b E) n sh Rf o) (ra : RAModel R o) (hz14 : R.2 14 = true) (hz15 : R.2 15 = true) (hz16 : R.2 16 = true) (hz17 : R.2 17 = true) (hz18 : R.2 18 = true) (hz19 : R.2 19 = true) (hq0 : (I0 o 7).toInt ≤ (I0 o 3).toInt) (hq1 : MPo I0 o) (hq2 : MTk I0 o) (hR : RI R I0) (hp : ∀ (r : Int32) (I' : Nat → Nat → Int32) (L' : Nat → Nat → Int64), RI R I' → Fm (fun c => c = o) I0 I' → Kp wModel_point I0 I' o → (((0 : Int) ≤ r.toInt ∧ r.toInt ≤ 15)) → ((I' o 7).toInt ≤ (I' o 3).toInt) → ((I0 o 7).toInt ≤ (I' o 7).toInt) → ((I0 o 4).toInt ≤ (I' o 4).toInt) → (7 * (I0 o 7).toInt - (I0 o 8).toInt + (I0 o 4).toInt ≤ 7 * (I' o 7).toInt - (I' o 8).toInt + (I' o 4).toInt) → (MPo I' o) → (MTk I' o) → (gModel_point_0 o (tI I0) L0 = (r.toInt, tI I', L')) → post (some (.int r)) (n, sh, Rf, I', L')) : Ev (qGG D cA b E) mModel_point 4 (0, 0) 0 (lv_args 0 [.ref o]) [] (n, sh, Rf, I0, L0) post :=
  yc_Model_pointg (R := fzR R I0 o wModel_point) hok hw (fzA ra hR _) (fzT hz14 rfl) (fzT hz15 rfl) (fzT hz16 rfl) (fzT hz17 rfl) (fzT hz18 rfl) (fzT hz19 rfl) fzZ (fzI hR) hq0 hq1 hq2 (fzI hR) (fun r I' L' h1 h2 u0 u1 u2 u3 u4 u5 u6 ug => hp r I' L' (fzB hR h1) h2 (fzP h1) u0 u1 u2 u3 u4 u5 u6 ug)
noncomputable def gModel_newName_51 (o : Nat) (J : gJ) (L : gL) (x1 : Int64) (z0 : Int) : Int64 × gJ × gL := gB3 (gModel_must_0 o J L z0) (fun r_1 J_2 L_3 => gLet (gModel_isWord_0 o J_2 L_3 24948) (fun (r_4 : Int) => gB3 (gModel_must_0 o J_2 L_3 r_4) (fun r_5 J_6 L_7 => (x1, J_6, L_7))))
theorem eModel_newName_51 {o : Nat} {J : gJ} {L : gL} {x1 : Int64} {z0 : Int} : gModel_newName_51 o J L x1 z0 = gB3 (gModel_must_0 o J L z0) (fun r_1 J_2 L_3 => gLet (gModel_isWord_0 o J_2 L_3 24948) (fun (r_4 : Int) => gB3 (gModel_must_0 o J_2 L_3 r_4) (fun r_5 J_6 L_7 => (x1, J_6, L_7)))) := rfl
noncomputable def gModel_newName_37 (o : Nat) (J : gJ) (L : gL) (x1 : Int64) : Int64 × gJ × gL := gLet (J o 8) (fun (v_1 : Int) => (if v_1 = 2 then (gModel_newName_51 o J L x1 1) else (gModel_newName_51 o J L x1 0)))
theorem eModel_newName_37 {o : Nat} {J : gJ} {L : gL} {x1 : Int64} : gModel_newName_37 o J L x1 = gLet (J o 8) (fun (v_1 : Int) => (if v_1 = 2 then (gModel_newName_51 o J L x1 1) else (gModel_newName_51 o J L x1 0))) := rfl
noncomputable def gModel_newName_0 (o : Nat) (J : gJ) (L : gL) : Int64 × gJ × gL := gLet (gModel_isGood_0 o J L) (fun (r_1 : Int) => (if r_1 = 0 then (gModel_newName_37 o J L (L o 10)) else gLet (J o 8) (fun (v_2 : Int) => (if v_2 = 2 then gLet (gModel_isTold_0 o J L (L o 10)) (fun (r_3 : Int) => (if r_3 = 0 then (gModel_newName_37 o J L (L o 10)) else gLet (J o 6) (fun (v_4 : Int) => gB3 (gModel_fails_0 o J L 3 v_4) (fun r_5 J_6 L_7 => (gModel_newName_37 o J_6 L_7 (L o 10)))))) else (gModel_newName_37 o J L (L o 10))))))
theorem eModel_newName_0 {o : Nat} {J : gJ} {L : gL} : gModel_newName_0 o J L  = gLet (gModel_isGood_0 o J L) (fun (r_1 : Int) => (if r_1 = 0 then (gModel_newName_37 o J L (L o 10)) else gLet (J o 8) (fun (v_2 : Int) => (if v_2 = 2 then gLet (gModel_isTold_0 o J L (L o 10)) (fun (r_3 : Int) => (if r_3 = 0 then (gModel_newName_37 o J L (L o 10)) else gLet (J o 6) (fun (v_4 : Int) => gB3 (gModel_fails_0 o J L 3 v_4) (fun r_5 J_6 L_7 => (gModel_newName_37 o J_6 L_7 (L o 10)))))) else (gModel_newName_37 o J L (L o 10)))))) := rfl
set_option maxHeartbeats 4000000 in
set_option maxRecDepth 20000 in
theorem yc_Model_newNameg {D : va_G} {cA : FieldType → ClassId} {b : Nat} {E : State → Prop} {R : qRg} {o n : Nat} {sh : Nat → qC} {Rf : Nat → Nat → Option Nat} {I0 : Nat → Nat → Int32} {L0 : Nat → Nat → Int64} {post : Option Value → qS → Prop} (hok : q_ok (qGG D cA b E)) (hw : WfModel (qGG D cA b E) n sh Rf o) (ra : RAModel R o) (hz14 : R.2 14 = true) (hz15 : R.2 15 = true) (hz16 : R.2 16 = true) (hz17 : R.2 17 = true) (hz18 : R.2 18 = true) (hz19 : R.2 19 = true) (hZ : Fz R I0 o wModel_newName) (hR0 : RI R I0) (hq0 : (I0 o 7).toInt ≤ (I0 o 3).toInt) (hq1 : MPo I0 o) (hq2 : MTk I0 o) (hR : RI R I0) (hp : ∀ (r : Int64) (I' : Nat → Nat → Int32) (L' : Nat → Nat → Int64), RI R I' → Fm (fun c => c = o) I0 I' → ((I' o 7).toInt ≤ (I' o 3).toInt) → ((I0 o 7).toInt ≤ (I' o 7).toInt) → ((I0 o 4).toInt ≤ (I' o 4).toInt) → (7 * (I0 o 7).toInt - (I0 o 8).toInt + (I0 o 4).toInt ≤ 7 * (I' o 7).toInt - (I' o 8).toInt + (I' o 4).toInt) → (MPo I' o) → (MTk I' o) → (gModel_newName_0 o (tI I0) L0 = (r, tI I', L')) → post (some (.long r)) (n, sh, Rf, I', L')) : Ev (qGG D cA b E) mModel_newName 4 (0, 0) 0 (lv_args 0 [.ref o]) [] (n, sh, Rf, I0, L0) post := by
  have hf : Fm (fun c => c = o) I0 I0 := Fm.rf
  have g_1 : (0 : Int) ≤ (I0 o 3).toInt ∧ (I0 o 3).toInt ≤ 1600 := hR.at0 ra 3 (by decide)
  have g_2 : (0 : Int) ≤ (I0 o 4).toInt ∧ (I0 o 4).toInt ≤ 5 := hR.at0 ra 4 (by decide)
  have g_3 : (0 : Int) ≤ (I0 o 6).toInt ∧ (I0 o 6).toInt ≤ 1600 := hR.at0 ra 6 (by decide)
  have g_4 : (0 : Int) ≤ (I0 o 7).toInt ∧ (I0 o 7).toInt ≤ 1601 := hR.at0 ra 7 (by decide)
  have g_5 : (0 : Int) ≤ (I0 o 8).toInt ∧ (I0 o 8).toInt ≤ 6 := hR.at0 ra 8 (by decide)
  refine sModel_newName_0 o n sh Rf I0 L0 post  hok hw ?_
  unfold fModel_newName_0
  have hg : gModel_newName_0 o (tI I0) L0 = gModel_newName_0 o (tI I0) L0 := rfl
  replace hg := (eModel_newName_0).symm.trans hg
  refine y_Model_isGoodg hok hw ra hR (fun r_6 u_7 u_8 u_9 gn_10 => ⟨r_6, I0, L0, rfl, rfl, ?_⟩)
  replace hg := gt_let gn_10 hg
  clear gn_10
  have b_11 : 0 ≤ r_6.toInt ∧ r_6.toInt ≤ 1 := u_7.rg
  have l_12 : (0 : Int32).toInt = 0 := rfl
  refine ⟨fun c_13 => ?_, fun c_13 => ?_⟩
  · have d_14 := iEq c_13
    have i_15 := u_9 (by omega)
    replace hg := gt_pos (by first | exact d_14 | omega) hg
    unfold fModel_newName_37
    replace hg := (eModel_newName_37).symm.trans hg
    have g_16 : (0 : Int) ≤ (I0 o 8).toInt ∧ (I0 o 8).toInt ≤ 6 := hR.at0 ra 8 (by decide)
    replace hg := gt_let (y := (I0 o 8).toInt) rfl hg
    have l_17 : (2 : Int32).toInt = 2 := rfl
    refine ⟨fun c_18 => ?_, fun c_18 => ?_⟩
    · have d_19 := iNe c_18
      replace hg := gt_neg (by first | exact d_19 | omega) hg
      unfold fModel_newName_51
      replace hg := (eModel_newName_51).symm.trans hg
      refine y_Model_mustg hok hw ra hz14 hz15 hz16 hz17 hz18 hz19 (by first | omega | (intro h; omega) | exact Or.inl rfl | exact Or.inr rfl) hq1 hq2 hR (fun I_31 L_32 hR_33 fr_34 kp_35 u_21 u_22 u_23 u_24 u_25 u_26 u_27 u_28 u_29 gn_30 => ⟨I_31, L_32, rfl, rfl, ?_⟩)
      replace hg := gt_b3 gn_30 hg
      clear gn_30
      have hf_36 : Fm (fun c => c = o) I0 I_31 := hf.call fr_34 (fun c hc => by first | exact hc | (dsimp only at hc ⊢; omega) | omega)
      have t_37 : (I_31 o 3).toInt = (I0 o 3).toInt := by rw [kp_35 3 rfl]
      have g_38 : (0 : Int) ≤ (I_31 o 4).toInt ∧ (I_31 o 4).toInt ≤ 5 := hR_33.at0 ra 4 (by decide)
      have g_39 : (0 : Int) ≤ (I_31 o 6).toInt ∧ (I_31 o 6).toInt ≤ 1600 := hR_33.at0 ra 6 (by decide)
      have g_40 : (0 : Int) ≤ (I_31 o 7).toInt ∧ (I_31 o 7).toInt ≤ 1601 := hR_33.at0 ra 7 (by decide)
      have g_41 : (0 : Int) ≤ (I_31 o 8).toInt ∧ (I_31 o 8).toInt ≤ 6 := hR_33.at0 ra 8 (by decide)
      have l_42 : (24948 : Int32).toInt = 24948 := rfl
      refine y_Model_isWordg hok hw ra hR_33 (fun r_43 u_44 u_45 gn_46 => ⟨r_43, I_31, L_32, rfl, rfl, ?_⟩)
      replace hg := gt_let gn_46 hg
      clear gn_46
      have b_47 : 0 ≤ r_43.toInt ∧ r_43.toInt ≤ 1 := u_44.rg
      refine y_Model_mustg hok hw ra hz14 hz15 hz16 hz17 hz18 hz19 (by first | omega | (intro h; omega) | exact Or.inl rfl | exact Or.inr rfl) u_28 u_29 hR_33 (fun I_59 L_60 hR_61 fr_62 kp_63 u_49 u_50 u_51 u_52 u_53 u_54 u_55 u_56 u_57 gn_58 => ⟨I_59, L_60, rfl, rfl, ?_⟩)
      replace hg := gt_b3 gn_58 hg
      clear gn_58
      have hf_64 : Fm (fun c => c = o) I0 I_59 := hf_36.call fr_62 (fun c hc => by first | exact hc | (dsimp only at hc ⊢; omega) | omega)
      have t_65 : (I_59 o 3).toInt = (I_31 o 3).toInt := by rw [kp_63 3 rfl]
      have g_66 : (0 : Int) ≤ (I_59 o 4).toInt ∧ (I_59 o 4).toInt ≤ 5 := hR_61.at0 ra 4 (by decide)
      have g_67 : (0 : Int) ≤ (I_59 o 6).toInt ∧ (I_59 o 6).toInt ≤ 1600 := hR_61.at0 ra 6 (by decide)
      have g_68 : (0 : Int) ≤ (I_59 o 7).toInt ∧ (I_59 o 7).toInt ≤ 1601 := hR_61.at0 ra 7 (by decide)
      have g_69 : (0 : Int) ≤ (I_59 o 8).toInt ∧ (I_59 o 8).toInt ≤ 6 := hR_61.at0 ra 8 (by decide)
      exact (hp _ _ _ hR_61 hf_64 (by first | omega | (intro h; omega) | exact Or.inl rfl | exact Or.inr rfl) (by first | omega | (intro h; omega) | exact Or.inl rfl | exact Or.inr rfl) (by first | omega | (intro h; omega) | exact Or.inl rfl | exact Or.inr rfl) (by first | omega | (intro h; omega) | exact Or.inl rfl | exact Or.inr rfl) u_56 u_57 hg.symm)
    · have d_70 := iEq c_18
      replace hg := gt_pos (by first | exact d_70 | omega) hg
      unfold fModel_newName_51
      replace hg := (eModel_newName_51).symm.trans hg
      have l_71 : (1 : Int32).toInt = 1 := rfl
      refine y_Model_mustg hok hw ra hz14 hz15 hz16 hz17 hz18 hz19 (by first | omega | (intro h; omega) | exact Or.inl rfl | exact Or.inr rfl) hq1 hq2 hR (fun I_83 L_84 hR_85 fr_86 kp_87 u_73 u_74 u_75 u_76 u_77 u_78 u_79 u_80 u_81 gn_82 => ⟨I_83, L_84, rfl, rfl, ?_⟩)
      replace hg := gt_b3 gn_82 hg
      clear gn_82
      have hf_88 : Fm (fun c => c = o) I0 I_83 := hf.call fr_86 (fun c hc => by first | exact hc | (dsimp only at hc ⊢; omega) | omega)
      have t_89 : (I_83 o 3).toInt = (I0 o 3).toInt := by rw [kp_87 3 rfl]
      have g_90 : (0 : Int) ≤ (I_83 o 4).toInt ∧ (I_83 o 4).toInt ≤ 5 := hR_85.at0 ra 4 (by decide)
      have g_91 : (0 : Int) ≤ (I_83 o 6).toInt ∧ (I_83 o 6).toInt ≤ 1600 := hR_85.at0 ra 6 (by decide)
      have g_92 : (0 : Int) ≤ (I_83 o 7).toInt ∧ (I_83 o 7).toInt ≤ 1601 := hR_85.at0 ra 7 (by decide)
      have g_93 : (0 : Int) ≤ (I_83 o 8).toInt ∧ (I_83 o 8).toInt ≤ 6 := hR_85.at0 ra 8 (by decide)
      have l_94 : (24948 : Int32).toInt = 24948 := rfl
      refine y_Model_isWordg hok hw ra hR_85 (fun r_95 u_96 u_97 gn_98 => ⟨r_95, I_83, L_84, rfl, rfl, ?_⟩)
      replace hg := gt_let gn_98 hg
      clear gn_98
      have b_99 : 0 ≤ r_95.toInt ∧ r_95.toInt ≤ 1 := u_96.rg
      refine y_Model_mustg hok hw ra hz14 hz15 hz16 hz17 hz18 hz19 (by first | omega | (intro h; omega) | exact Or.inl rfl | exact Or.inr rfl) u_80 u_81 hR_85 (fun I_111 L_112 hR_113 fr_114 kp_115 u_101 u_102 u_103 u_104 u_105 u_106 u_107 u_108 u_109 gn_110 => ⟨I_111, L_112, rfl, rfl, ?_⟩)
      replace hg := gt_b3 gn_110 hg
      clear gn_110
      have hf_116 : Fm (fun c => c = o) I0 I_111 := hf_88.call fr_114 (fun c hc => by first | exact hc | (dsimp only at hc ⊢; omega) | omega)
      have t_117 : (I_111 o 3).toInt = (I_83 o 3).toInt := by rw [kp_115 3 rfl]
      have g_118 : (0 : Int) ≤ (I_111 o 4).toInt ∧ (I_111 o 4).toInt ≤ 5 := hR_113.at0 ra 4 (by decide)
      have g_119 : (0 : Int) ≤ (I_111 o 6).toInt ∧ (I_111 o 6).toInt ≤ 1600 := hR_113.at0 ra 6 (by decide)
      have g_120 : (0 : Int) ≤ (I_111 o 7).toInt ∧ (I_111 o 7).toInt ≤ 1601 := hR_113.at0 ra 7 (by decide)
      have g_121 : (0 : Int) ≤ (I_111 o 8).toInt ∧ (I_111 o 8).toInt ≤ 6 := hR_113.at0 ra 8 (by decide)
      exact (hp _ _ _ hR_113 hf_116 (by first | omega | (intro h; omega) | exact Or.inl rfl | exact Or.inr rfl) (by first | omega | (intro h; omega) | exact Or.inl rfl | exact Or.inr rfl) (by first | omega | (intro h; omega) | exact Or.inl rfl | exact Or.inr rfl) (by first | omega | (intro h; omega) | exact Or.inl rfl | exact Or.inr rfl) u_108 u_109 hg.symm)
  · have d_122 := iNe c_13
    have i_123 := u_8 (by omega)
    replace hg := gt_neg (by first | exact d_122 | omega) hg
    have g_124 : (0 : Int) ≤ (I0 o 8).toInt ∧ (I0 o 8).toInt ≤ 6 := hR.at0 ra 8 (by decide)
    replace hg := gt_let (y := (I0 o 8).toInt) rfl hg
    have l_125 : (2 : Int32).toInt = 2 := rfl
    refine ⟨fun c_126 => ?_, fun c_126 => ?_⟩
    · have d_127 := iNe c_126
      replace hg := gt_neg (by first | exact d_127 | omega) hg
      unfold fModel_newName_37
      replace hg := (eModel_newName_37).symm.trans hg
      have g_128 : (0 : Int) ≤ (I0 o 8).toInt ∧ (I0 o 8).toInt ≤ 6 := hR.at0 ra 8 (by decide)
      replace hg := gt_let (y := (I0 o 8).toInt) rfl hg
      refine ⟨fun c_129 => ?_, fun c_129 => ?_⟩
      · have d_130 := iNe c_129
        replace hg := gt_neg (by first | exact d_130 | omega) hg
        unfold fModel_newName_51
        replace hg := (eModel_newName_51).symm.trans hg
        refine y_Model_mustg hok hw ra hz14 hz15 hz16 hz17 hz18 hz19 (by first | omega | (intro h; omega) | exact Or.inl rfl | exact Or.inr rfl) hq1 hq2 hR (fun I_142 L_143 hR_144 fr_145 kp_146 u_132 u_133 u_134 u_135 u_136 u_137 u_138 u_139 u_140 gn_141 => ⟨I_142, L_143, rfl, rfl, ?_⟩)
        replace hg := gt_b3 gn_141 hg
        clear gn_141
        have hf_147 : Fm (fun c => c = o) I0 I_142 := hf.call fr_145 (fun c hc => by first | exact hc | (dsimp only at hc ⊢; omega) | omega)
        have t_148 : (I_142 o 3).toInt = (I0 o 3).toInt := by rw [kp_146 3 rfl]
        have g_149 : (0 : Int) ≤ (I_142 o 4).toInt ∧ (I_142 o 4).toInt ≤ 5 := hR_144.at0 ra 4 (by decide)
        have g_150 : (0 : Int) ≤ (I_142 o 6).toInt ∧ (I_142 o 6).toInt ≤ 1600 := hR_144.at0 ra 6 (by decide)
        have g_151 : (0 : Int) ≤ (I_142 o 7).toInt ∧ (I_142 o 7).toInt ≤ 1601 := hR_144.at0 ra 7 (by decide)
        have g_152 : (0 : Int) ≤ (I_142 o 8).toInt ∧ (I_142 o 8).toInt ≤ 6 := hR_144.at0 ra 8 (by decide)
        have l_153 : (24948 : Int32).toInt = 24948 := rfl
        refine y_Model_isWordg hok hw ra hR_144 (fun r_154 u_155 u_156 gn_157 => ⟨r_154, I_142, L_143, rfl, rfl, ?_⟩)
        replace hg := gt_let gn_157 hg
        clear gn_157
        have b_158 : 0 ≤ r_154.toInt ∧ r_154.toInt ≤ 1 := u_155.rg
        refine y_Model_mustg hok hw ra hz14 hz15 hz16 hz17 hz18 hz19 (by first | omega | (intro h; omega) | exact Or.inl rfl | exact Or.inr rfl) u_139 u_140 hR_144 (fun I_170 L_171 hR_172 fr_173 kp_174 u_160 u_161 u_162 u_163 u_164 u_165 u_166 u_167 u_168 gn_169 => ⟨I_170, L_171, rfl, rfl, ?_⟩)
        replace hg := gt_b3 gn_169 hg
        clear gn_169
        have hf_175 : Fm (fun c => c = o) I0 I_170 := hf_147.call fr_173 (fun c hc => by first | exact hc | (dsimp only at hc ⊢; omega) | omega)
        have t_176 : (I_170 o 3).toInt = (I_142 o 3).toInt := by rw [kp_174 3 rfl]
        have g_177 : (0 : Int) ≤ (I_170 o 4).toInt ∧ (I_170 o 4).toInt ≤ 5 := hR_172.at0 ra 4 (by decide)
        have g_178 : (0 : Int) ≤ (I_170 o 6).toInt ∧ (I_170 o 6).toInt ≤ 1600 := hR_172.at0 ra 6 (by decide)
        have g_179 : (0 : Int) ≤ (I_170 o 7).toInt ∧ (I_170 o 7).toInt ≤ 1601 := hR_172.at0 ra 7 (by decide)
        have g_180 : (0 : Int) ≤ (I_170 o 8).toInt ∧ (I_170 o 8).toInt ≤ 6 := hR_172.at0 ra 8 (by decide)
        exact (hp _ _ _ hR_172 hf_175 (by first | omega | (intro h; omega) | exact Or.inl rfl | exact Or.inr rfl) (by first | omega | (intro h; omega) | exact Or.inl rfl | exact Or.inr rfl) (by first | omega | (intro h; omega) | exact Or.inl rfl | exact Or.inr rfl) (by first | omega | (intro h; omega) | exact Or.inl rfl | exact Or.inr rfl) u_167 u_168 hg.symm)
      · have d_181 := iEq c_129
        replace hg := gt_pos (by first | exact d_181 | omega) hg
        unfold fModel_newName_51
        replace hg := (eModel_newName_51).symm.trans hg
        have l_182 : (1 : Int32).toInt = 1 := rfl
        refine y_Model_mustg hok hw ra hz14 hz15 hz16 hz17 hz18 hz19 (by first | omega | (intro h; omega) | exact Or.inl rfl | exact Or.inr rfl) hq1 hq2 hR (fun I_194 L_195 hR_196 fr_197 kp_198 u_184 u_185 u_186 u_187 u_188 u_189 u_190 u_191 u_192 gn_193 => ⟨I_194, L_195, rfl, rfl, ?_⟩)
        replace hg := gt_b3 gn_193 hg
        clear gn_193
        have hf_199 : Fm (fun c => c = o) I0 I_194 := hf.call fr_197 (fun c hc => by first | exact hc | (dsimp only at hc ⊢; omega) | omega)
        have t_200 : (I_194 o 3).toInt = (I0 o 3).toInt := by rw [kp_198 3 rfl]
        have g_201 : (0 : Int) ≤ (I_194 o 4).toInt ∧ (I_194 o 4).toInt ≤ 5 := hR_196.at0 ra 4 (by decide)
        have g_202 : (0 : Int) ≤ (I_194 o 6).toInt ∧ (I_194 o 6).toInt ≤ 1600 := hR_196.at0 ra 6 (by decide)
        have g_203 : (0 : Int) ≤ (I_194 o 7).toInt ∧ (I_194 o 7).toInt ≤ 1601 := hR_196.at0 ra 7 (by decide)
        have g_204 : (0 : Int) ≤ (I_194 o 8).toInt ∧ (I_194 o 8).toInt ≤ 6 := hR_196.at0 ra 8 (by decide)
        have l_205 : (24948 : Int32).toInt = 24948 := rfl
        refine y_Model_isWordg hok hw ra hR_196 (fun r_206 u_207 u_208 gn_209 => ⟨r_206, I_194, L_195, rfl, rfl, ?_⟩)
        replace hg := gt_let gn_209 hg
        clear gn_209
        have b_210 : 0 ≤ r_206.toInt ∧ r_206.toInt ≤ 1 := u_207.rg
        refine y_Model_mustg hok hw ra hz14 hz15 hz16 hz17 hz18 hz19 (by first | omega | (intro h; omega) | exact Or.inl rfl | exact Or.inr rfl) u_191 u_192 hR_196 (fun I_222 L_223 hR_224 fr_225 kp_226 u_212 u_213 u_214 u_215 u_216 u_217 u_218 u_219 u_220 gn_221 => ⟨I_222, L_223, rfl, rfl, ?_⟩)
        replace hg := gt_b3 gn_221 hg
        clear gn_221
        have hf_227 : Fm (fun c => c = o) I0 I_222 := hf_199.call fr_225 (fun c hc => by first | exact hc | (dsimp only at hc ⊢; omega) | omega)
        have t_228 : (I_222 o 3).toInt = (I_194 o 3).toInt := by rw [kp_226 3 rfl]
        have g_229 : (0 : Int) ≤ (I_222 o 4).toInt ∧ (I_222 o 4).toInt ≤ 5 := hR_224.at0 ra 4 (by decide)
        have g_230 : (0 : Int) ≤ (I_222 o 6).toInt ∧ (I_222 o 6).toInt ≤ 1600 := hR_224.at0 ra 6 (by decide)
        have g_231 : (0 : Int) ≤ (I_222 o 7).toInt ∧ (I_222 o 7).toInt ≤ 1601 := hR_224.at0 ra 7 (by decide)
        have g_232 : (0 : Int) ≤ (I_222 o 8).toInt ∧ (I_222 o 8).toInt ≤ 6 := hR_224.at0 ra 8 (by decide)
        exact (hp _ _ _ hR_224 hf_227 (by first | omega | (intro h; omega) | exact Or.inl rfl | exact Or.inr rfl) (by first | omega | (intro h; omega) | exact Or.inl rfl | exact Or.inr rfl) (by first | omega | (intro h; omega) | exact Or.inl rfl | exact Or.inr rfl) (by first | omega | (intro h; omega) | exact Or.inl rfl | exact Or.inr rfl) u_219 u_220 hg.symm)
    · have d_233 := iEq c_126
      replace hg := gt_pos (by first | exact d_233 | omega) hg
      refine y_Model_isToldg hok hw ra hR (fun r_234 u_235 gn_236 => ⟨r_234, I0, L0, rfl, rfl, ?_⟩)
      replace hg := gt_let gn_236 hg
      clear gn_236
      have b_237 : 0 ≤ r_234.toInt ∧ r_234.toInt ≤ 1 := u_235.rg
      refine ⟨fun c_238 => ?_, fun c_238 => ?_⟩
      · have d_239 := iEq c_238
        replace hg := gt_pos (by first | exact d_239 | omega) hg
        unfold fModel_newName_37
        replace hg := (eModel_newName_37).symm.trans hg
        have g_240 : (0 : Int) ≤ (I0 o 8).toInt ∧ (I0 o 8).toInt ≤ 6 := hR.at0 ra 8 (by decide)
        replace hg := gt_let (y := (I0 o 8).toInt) rfl hg
        refine ⟨fun c_241 => ?_, fun c_241 => ?_⟩
        · have d_242 := iNe c_241
          replace hg := gt_neg (by first | exact d_242 | omega) hg
          unfold fModel_newName_51
          replace hg := (eModel_newName_51).symm.trans hg
          refine y_Model_mustg hok hw ra hz14 hz15 hz16 hz17 hz18 hz19 (by first | omega | (intro h; omega) | exact Or.inl rfl | exact Or.inr rfl) hq1 hq2 hR (fun I_254 L_255 hR_256 fr_257 kp_258 u_244 u_245 u_246 u_247 u_248 u_249 u_250 u_251 u_252 gn_253 => ⟨I_254, L_255, rfl, rfl, ?_⟩)
          replace hg := gt_b3 gn_253 hg
          clear gn_253
          have hf_259 : Fm (fun c => c = o) I0 I_254 := hf.call fr_257 (fun c hc => by first | exact hc | (dsimp only at hc ⊢; omega) | omega)
          have t_260 : (I_254 o 3).toInt = (I0 o 3).toInt := by rw [kp_258 3 rfl]
          have g_261 : (0 : Int) ≤ (I_254 o 4).toInt ∧ (I_254 o 4).toInt ≤ 5 := hR_256.at0 ra 4 (by decide)
          have g_262 : (0 : Int) ≤ (I_254 o 6).toInt ∧ (I_254 o 6).toInt ≤ 1600 := hR_256.at0 ra 6 (by decide)
          have g_263 : (0 : Int) ≤ (I_254 o 7).toInt ∧ (I_254 o 7).toInt ≤ 1601 := hR_256.at0 ra 7 (by decide)
          have g_264 : (0 : Int) ≤ (I_254 o 8).toInt ∧ (I_254 o 8).toInt ≤ 6 := hR_256.at0 ra 8 (by decide)
          have l_265 : (24948 : Int32).toInt = 24948 := rfl
          refine y_Model_isWordg hok hw ra hR_256 (fun r_266 u_267 u_268 gn_269 => ⟨r_266, I_254, L_255, rfl, rfl, ?_⟩)
          replace hg := gt_let gn_269 hg
          clear gn_269
          have b_270 : 0 ≤ r_266.toInt ∧ r_266.toInt ≤ 1 := u_267.rg
          refine y_Model_mustg hok hw ra hz14 hz15 hz16 hz17 hz18 hz19 (by first | omega | (intro h; omega) | exact Or.inl rfl | exact Or.inr rfl) u_251 u_252 hR_256 (fun I_282 L_283 hR_284 fr_285 kp_286 u_272 u_273 u_274 u_275 u_276 u_277 u_278 u_279 u_280 gn_281 => ⟨I_282, L_283, rfl, rfl, ?_⟩)
          replace hg := gt_b3 gn_281 hg
          clear gn_281
          have hf_287 : Fm (fun c => c = o) I0 I_282 := hf_259.call fr_285 (fun c hc => by first | exact hc | (dsimp only at hc ⊢; omega) | omega)
          have t_288 : (I_282 o 3).toInt = (I_254 o 3).toInt := by rw [kp_286 3 rfl]
          have g_289 : (0 : Int) ≤ (I_282 o 4).toInt ∧ (I_282 o 4).toInt ≤ 5 := hR_284.at0 ra 4 (by decide)
          have g_290 : (0 : Int) ≤ (I_282 o 6).toInt ∧ (I_282 o 6).toInt ≤ 1600 := hR_284.at0 ra 6 (by decide)
          have g_291 : (0 : Int) ≤ (I_282 o 7).toInt ∧ (I_282 o 7).toInt ≤ 1601 := hR_284.at0 ra 7 (by decide)
          have g_292 : (0 : Int) ≤ (I_282 o 8).toInt ∧ (I_282 o 8).toInt ≤ 6 := hR_284.at0 ra 8 (by decide)
          exact (hp _ _ _ hR_284 hf_287 (by first | omega | (intro h; omega) | exact Or.inl rfl | exact Or.inr rfl) (by first | omega | (intro h; omega) | exact Or.inl rfl | exact Or.inr rfl) (by first | omega | (intro h; omega) | exact Or.inl rfl | exact Or.inr rfl) (by first | omega | (intro h; omega) | exact Or.inl rfl | exact Or.inr rfl) u_279 u_280 hg.symm)
        · have d_293 := iEq c_241
          replace hg := gt_pos (by first | exact d_293 | omega) hg
          unfold fModel_newName_51
          replace hg := (eModel_newName_51).symm.trans hg
          have l_294 : (1 : Int32).toInt = 1 := rfl
          refine y_Model_mustg hok hw ra hz14 hz15 hz16 hz17 hz18 hz19 (by first | omega | (intro h; omega) | exact Or.inl rfl | exact Or.inr rfl) hq1 hq2 hR (fun I_306 L_307 hR_308 fr_309 kp_310 u_296 u_297 u_298 u_299 u_300 u_301 u_302 u_303 u_304 gn_305 => ⟨I_306, L_307, rfl, rfl, ?_⟩)
          replace hg := gt_b3 gn_305 hg
          clear gn_305
          have hf_311 : Fm (fun c => c = o) I0 I_306 := hf.call fr_309 (fun c hc => by first | exact hc | (dsimp only at hc ⊢; omega) | omega)
          have t_312 : (I_306 o 3).toInt = (I0 o 3).toInt := by rw [kp_310 3 rfl]
          have g_313 : (0 : Int) ≤ (I_306 o 4).toInt ∧ (I_306 o 4).toInt ≤ 5 := hR_308.at0 ra 4 (by decide)
          have g_314 : (0 : Int) ≤ (I_306 o 6).toInt ∧ (I_306 o 6).toInt ≤ 1600 := hR_308.at0 ra 6 (by decide)
          have g_315 : (0 : Int) ≤ (I_306 o 7).toInt ∧ (I_306 o 7).toInt ≤ 1601 := hR_308.at0 ra 7 (by decide)
          have g_316 : (0 : Int) ≤ (I_306 o 8).toInt ∧ (I_306 o 8).toInt ≤ 6 := hR_308.at0 ra 8 (by decide)
          have l_317 : (24948 : Int32).toInt = 24948 := rfl
          refine y_Model_isWordg hok hw ra hR_308 (fun r_318 u_319 u_320 gn_321 => ⟨r_318, I_306, L_307, rfl, rfl, ?_⟩)
          replace hg := gt_let gn_321 hg
          clear gn_321
          have b_322 : 0 ≤ r_318.toInt ∧ r_318.toInt ≤ 1 := u_319.rg
          refine y_Model_mustg hok hw ra hz14 hz15 hz16 hz17 hz18 hz19 (by first | omega | (intro h; omega) | exact Or.inl rfl | exact Or.inr rfl) u_303 u_304 hR_308 (fun I_334 L_335 hR_336 fr_337 kp_338 u_324 u_325 u_326 u_327 u_328 u_329 u_330 u_331 u_332 gn_333 => ⟨I_334, L_335, rfl, rfl, ?_⟩)
          replace hg := gt_b3 gn_333 hg
          clear gn_333
          have hf_339 : Fm (fun c => c = o) I0 I_334 := hf_311.call fr_337 (fun c hc => by first | exact hc | (dsimp only at hc ⊢; omega) | omega)
          have t_340 : (I_334 o 3).toInt = (I_306 o 3).toInt := by rw [kp_338 3 rfl]
          have g_341 : (0 : Int) ≤ (I_334 o 4).toInt ∧ (I_334 o 4).toInt ≤ 5 := hR_336.at0 ra 4 (by decide)
          have g_342 : (0 : Int) ≤ (I_334 o 6).toInt ∧ (I_334 o 6).toInt ≤ 1600 := hR_336.at0 ra 6 (by decide)
          have g_343 : (0 : Int) ≤ (I_334 o 7).toInt ∧ (I_334 o 7).toInt ≤ 1601 := hR_336.at0 ra 7 (by decide)
          have g_344 : (0 : Int) ≤ (I_334 o 8).toInt ∧ (I_334 o 8).toInt ≤ 6 := hR_336.at0 ra 8 (by decide)
          exact (hp _ _ _ hR_336 hf_339 (by first | omega | (intro h; omega) | exact Or.inl rfl | exact Or.inr rfl) (by first | omega | (intro h; omega) | exact Or.inl rfl | exact Or.inr rfl) (by first | omega | (intro h; omega) | exact Or.inl rfl | exact Or.inr rfl) (by first | omega | (intro h; omega) | exact Or.inl rfl | exact Or.inr rfl) u_331 u_332 hg.symm)
      · have d_345 := iNe c_238
        replace hg := gt_neg (by first | exact d_345 | omega) hg
        have g_346 : (0 : Int) ≤ (I0 o 6).toInt ∧ (I0 o 6).toInt ≤ 1600 := hR.at0 ra 6 (by decide)
        replace hg := gt_let (y := (I0 o 6).toInt) rfl hg
        have l_347 : (3 : Int32).toInt = 3 := rfl
        refine y_Model_failsg hok hw ra hz14 hz15 (by first | omega | (intro h; omega) | exact Or.inl rfl | exact Or.inr rfl) hR (fun I_352 L_353 hR_354 fr_355 kp_356 u_349 u_350 gn_351 => ⟨I_352, L_353, rfl, rfl, ?_⟩)
        replace hg := gt_b3 gn_351 hg
        clear gn_351
        have hf_357 : Fm (fun c => c = o) I0 I_352 := hf.call fr_355 (fun c hc => by first | exact hc | (dsimp only at hc ⊢; omega) | omega)
        have t_358 : (I_352 o 3).toInt = (I0 o 3).toInt := by rw [kp_356 3 rfl]
        have g_359 : (0 : Int) ≤ (I_352 o 4).toInt ∧ (I_352 o 4).toInt ≤ 5 := hR_354.at0 ra 4 (by decide)
        have t_360 : (I_352 o 6).toInt = (I0 o 6).toInt := by rw [kp_356 6 rfl]
        have t_361 : (I_352 o 7).toInt = (I0 o 7).toInt := by rw [kp_356 7 rfl]
        have t_362 : (I_352 o 8).toInt = (I0 o 8).toInt := by rw [kp_356 8 rfl]
        have t_363 : (I_352 o 9).toInt = (I0 o 9).toInt := by rw [kp_356 9 rfl]
        have k_364 : MPo I_352 o := hq1.fr (kp_356 8 rfl) (kp_356 9 rfl)
        have k_365 : MTk I_352 o := hq2.fr (kp_356 6 rfl) (kp_356 7 rfl) (kp_356 8 rfl)
        unfold fModel_newName_37
        replace hg := (eModel_newName_37).symm.trans hg
        have g_366 : (0 : Int) ≤ (I_352 o 8).toInt ∧ (I_352 o 8).toInt ≤ 6 := hR_354.at0 ra 8 (by decide)
        replace hg := gt_let (y := (I_352 o 8).toInt) rfl hg
        refine ⟨fun c_367 => ?_, fun c_367 => ?_⟩
        · have d_368 := iNe c_367
          replace hg := gt_neg (by first | exact d_368 | omega) hg
          unfold fModel_newName_51
          replace hg := (eModel_newName_51).symm.trans hg
          refine y_Model_mustg hok hw ra hz14 hz15 hz16 hz17 hz18 hz19 (by first | omega | (intro h; omega) | exact Or.inl rfl | exact Or.inr rfl) k_364 k_365 hR_354 (fun I_380 L_381 hR_382 fr_383 kp_384 u_370 u_371 u_372 u_373 u_374 u_375 u_376 u_377 u_378 gn_379 => ⟨I_380, L_381, rfl, rfl, ?_⟩)
          replace hg := gt_b3 gn_379 hg
          clear gn_379
          have hf_385 : Fm (fun c => c = o) I0 I_380 := hf_357.call fr_383 (fun c hc => by first | exact hc | (dsimp only at hc ⊢; omega) | omega)
          have t_386 : (I_380 o 3).toInt = (I_352 o 3).toInt := by rw [kp_384 3 rfl]
          have g_387 : (0 : Int) ≤ (I_380 o 4).toInt ∧ (I_380 o 4).toInt ≤ 5 := hR_382.at0 ra 4 (by decide)
          have g_388 : (0 : Int) ≤ (I_380 o 6).toInt ∧ (I_380 o 6).toInt ≤ 1600 := hR_382.at0 ra 6 (by decide)
          have g_389 : (0 : Int) ≤ (I_380 o 7).toInt ∧ (I_380 o 7).toInt ≤ 1601 := hR_382.at0 ra 7 (by decide)
          have g_390 : (0 : Int) ≤ (I_380 o 8).toInt ∧ (I_380 o 8).toInt ≤ 6 := hR_382.at0 ra 8 (by decide)
          have l_391 : (24948 : Int32).toInt = 24948 := rfl
          refine y_Model_isWordg hok hw ra hR_382 (fun r_392 u_393 u_394 gn_395 => ⟨r_392, I_380, L_381, rfl, rfl, ?_⟩)
          replace hg := gt_let gn_395 hg
          clear gn_395
          have b_396 : 0 ≤ r_392.toInt ∧ r_392.toInt ≤ 1 := u_393.rg
          refine y_Model_mustg hok hw ra hz14 hz15 hz16 hz17 hz18 hz19 (by first | omega | (intro h; omega) | exact Or.inl rfl | exact Or.inr rfl) u_377 u_378 hR_382 (fun I_408 L_409 hR_410 fr_411 kp_412 u_398 u_399 u_400 u_401 u_402 u_403 u_404 u_405 u_406 gn_407 => ⟨I_408, L_409, rfl, rfl, ?_⟩)
          replace hg := gt_b3 gn_407 hg
          clear gn_407
          have hf_413 : Fm (fun c => c = o) I0 I_408 := hf_385.call fr_411 (fun c hc => by first | exact hc | (dsimp only at hc ⊢; omega) | omega)
          have t_414 : (I_408 o 3).toInt = (I_380 o 3).toInt := by rw [kp_412 3 rfl]
          have g_415 : (0 : Int) ≤ (I_408 o 4).toInt ∧ (I_408 o 4).toInt ≤ 5 := hR_410.at0 ra 4 (by decide)
          have g_416 : (0 : Int) ≤ (I_408 o 6).toInt ∧ (I_408 o 6).toInt ≤ 1600 := hR_410.at0 ra 6 (by decide)
          have g_417 : (0 : Int) ≤ (I_408 o 7).toInt ∧ (I_408 o 7).toInt ≤ 1601 := hR_410.at0 ra 7 (by decide)
          have g_418 : (0 : Int) ≤ (I_408 o 8).toInt ∧ (I_408 o 8).toInt ≤ 6 := hR_410.at0 ra 8 (by decide)
          exact (hp _ _ _ hR_410 hf_413 (by first | omega | (intro h; omega) | exact Or.inl rfl | exact Or.inr rfl) (by first | omega | (intro h; omega) | exact Or.inl rfl | exact Or.inr rfl) (by first | omega | (intro h; omega) | exact Or.inl rfl | exact Or.inr rfl) (by first | omega | (intro h; omega) | exact Or.inl rfl | exact Or.inr rfl) u_405 u_406 hg.symm)
        · have d_419 := iEq c_367
          replace hg := gt_pos (by first | exact d_419 | omega) hg
          unfold fModel_newName_51
          replace hg := (eModel_newName_51).symm.trans hg
          have l_420 : (1 : Int32).toInt = 1 := rfl
          refine y_Model_mustg hok hw ra hz14 hz15 hz16 hz17 hz18 hz19 (by first | omega | (intro h; omega) | exact Or.inl rfl | exact Or.inr rfl) k_364 k_365 hR_354 (fun I_432 L_433 hR_434 fr_435 kp_436 u_422 u_423 u_424 u_425 u_426 u_427 u_428 u_429 u_430 gn_431 => ⟨I_432, L_433, rfl, rfl, ?_⟩)
          replace hg := gt_b3 gn_431 hg
          clear gn_431
          have hf_437 : Fm (fun c => c = o) I0 I_432 := hf_357.call fr_435 (fun c hc => by first | exact hc | (dsimp only at hc ⊢; omega) | omega)
          have t_438 : (I_432 o 3).toInt = (I_352 o 3).toInt := by rw [kp_436 3 rfl]
          have g_439 : (0 : Int) ≤ (I_432 o 4).toInt ∧ (I_432 o 4).toInt ≤ 5 := hR_434.at0 ra 4 (by decide)
          have g_440 : (0 : Int) ≤ (I_432 o 6).toInt ∧ (I_432 o 6).toInt ≤ 1600 := hR_434.at0 ra 6 (by decide)
          have g_441 : (0 : Int) ≤ (I_432 o 7).toInt ∧ (I_432 o 7).toInt ≤ 1601 := hR_434.at0 ra 7 (by decide)
          have g_442 : (0 : Int) ≤ (I_432 o 8).toInt ∧ (I_432 o 8).toInt ≤ 6 := hR_434.at0 ra 8 (by decide)
          have l_443 : (24948 : Int32).toInt = 24948 := rfl
          refine y_Model_isWordg hok hw ra hR_434 (fun r_444 u_445 u_446 gn_447 => ⟨r_444, I_432, L_433, rfl, rfl, ?_⟩)
          replace hg := gt_let gn_447 hg
          clear gn_447
          have b_448 : 0 ≤ r_444.toInt ∧ r_444.toInt ≤ 1 := u_445.rg
          refine y_Model_mustg hok hw ra hz14 hz15 hz16 hz17 hz18 hz19 (by first | omega | (intro h; omega) | exact Or.inl rfl | exact Or.inr rfl) u_429 u_430 hR_434 (fun I_460 L_461 hR_462 fr_463 kp_464 u_450 u_451 u_452 u_453 u_454 u_455 u_456 u_457 u_458 gn_459 => ⟨I_460, L_461, rfl, rfl, ?_⟩)
          replace hg := gt_b3 gn_459 hg
          clear gn_459
          have hf_465 : Fm (fun c => c = o) I0 I_460 := hf_437.call fr_463 (fun c hc => by first | exact hc | (dsimp only at hc ⊢; omega) | omega)
          have t_466 : (I_460 o 3).toInt = (I_432 o 3).toInt := by rw [kp_464 3 rfl]
          have g_467 : (0 : Int) ≤ (I_460 o 4).toInt ∧ (I_460 o 4).toInt ≤ 5 := hR_462.at0 ra 4 (by decide)
          have g_468 : (0 : Int) ≤ (I_460 o 6).toInt ∧ (I_460 o 6).toInt ≤ 1600 := hR_462.at0 ra 6 (by decide)
          have g_469 : (0 : Int) ≤ (I_460 o 7).toInt ∧ (I_460 o 7).toInt ≤ 1601 := hR_462.at0 ra 7 (by decide)
          have g_470 : (0 : Int) ≤ (I_460 o 8).toInt ∧ (I_460 o 8).toInt ≤ 6 := hR_462.at0 ra 8 (by decide)
          exact (hp _ _ _ hR_462 hf_465 (by first | omega | (intro h; omega) | exact Or.inl rfl | exact Or.inr rfl) (by first | omega | (intro h; omega) | exact Or.inl rfl | exact Or.inr rfl) (by first | omega | (intro h; omega) | exact Or.inl rfl | exact Or.inr rfl) (by first | omega | (intro h; omega) | exact Or.inl rfl | exact Or.inr rfl) u_457 u_458 hg.symm)
theorem y_Model_newNameg {D : va_G} {cA : FieldType → ClassId} {b : Nat} {E : State → Prop} {R : qRg} {o n : Nat} {sh : Nat → qC} {Rf : Nat → Nat → Option Nat} {I0 : Nat → Nat → Int32} {L0 : Nat → Nat → Int64} {post : Option Value → qS → Prop} (hok : q_ok (qGG D cA b E)) (hw : WfModel (qGG D cA b E) n sh Rf o) (ra : RAModel R o) (hz14 : R.2 14 = true) (hz15 : R.2 15 = true) (hz16 : R.2 16 = true) (hz17 : R.2 17 = true) (hz18 : R.2 18 = true) (hz19 : R.2 19 = true) (hq0 : (I0 o 7).toInt ≤ (I0 o 3).toInt) (hq1 : MPo I0 o) (hq2 : MTk I0 o) (hR : RI R I0) (hp : ∀ (r : Int64) (I' : Nat → Nat → Int32) (L' : Nat → Nat → Int64), RI R I' → Fm (fun c => c = o) I0 I' → Kp wModel_newName I0 I' o → ((I' o 7).toInt ≤ (I' o 3).toInt) → ((I0 o 7).toInt ≤ (I' o 7).toInt) → ((I0 o 4).toInt ≤ (I' o 4).toInt) → (7 * (I0 o 7).toInt - (I0 o 8).toInt + (I0 o 4).toInt ≤ 7 * (I' o 7).toInt - (I' o 8).toInt + (I' o 4).toInt) → (MPo I' o) → (MTk I' o) → (gModel_newName_0 o (tI I0) L0 = (r, tI I', L')) → post (some (.long r)) (n, sh, Rf, I', L')) : Ev (qGG D cA b E) mModel_newName 4 (0, 0) 0 (lv_args 0 [.ref o]) [] (n, sh, Rf, I0, L0) post :=
  yc_Model_newNameg (R := fzR R I0 o wModel_newName) hok hw (fzA ra hR _) (fzT hz14 rfl) (fzT hz15 rfl) (fzT hz16 rfl) (fzT hz17 rfl) (fzT hz18 rfl) (fzT hz19 rfl) fzZ (fzI hR) hq0 hq1 hq2 (fzI hR) (fun r I' L' h1 h2 u0 u1 u2 u3 u4 u5 ug => hp r I' L' (fzB hR h1) h2 (fzP h1) u0 u1 u2 u3 u4 u5 ug)
noncomputable def gModel_readRoad_65 (o : Nat) (J : gJ) (L : gL) (x1 : Int) : Int × gJ × gL := gB3 (gModel_point_0 o J L) (fun r_1 J_2 L_3 => gLet (q_u J_2 (o + 11) (Int.toNat x1) r_1) (fun (J_4 : gJ) => gB3 (gModel_numeral_0 o J_4 L_3 1 90) (fun r_5 J_6 L_7 => gLet (q_u J_6 (o + 12) (Int.toNat x1) r_5) (fun (J_8 : gJ) => gLet (gModel_isGood_0 o J_8 L_7) (fun (r_9 : Int) => (if r_9 = 0 then (0, J_8, L_7) else gLet (J_8 o 35) (fun (v_10 : Int) => gLet (J_8 (o + 6) (Int.toNat v_10)) (fun (v_11 : Int) => gLet (v_11 + 1) (fun (v_12 : Int) => gLet (q_u J_8 (o + 6) (Int.toNat v_10) v_12) (fun (J_13 : gJ) => (0, J_13, L_7)))))))))))
theorem eModel_readRoad_65 {o : Nat} {J : gJ} {L : gL} {x1 : Int} : gModel_readRoad_65 o J L x1 = gB3 (gModel_point_0 o J L) (fun r_1 J_2 L_3 => gLet (q_u J_2 (o + 11) (Int.toNat x1) r_1) (fun (J_4 : gJ) => gB3 (gModel_numeral_0 o J_4 L_3 1 90) (fun r_5 J_6 L_7 => gLet (q_u J_6 (o + 12) (Int.toNat x1) r_5) (fun (J_8 : gJ) => gLet (gModel_isGood_0 o J_8 L_7) (fun (r_9 : Int) => (if r_9 = 0 then (0, J_8, L_7) else gLet (J_8 o 35) (fun (v_10 : Int) => gLet (J_8 (o + 6) (Int.toNat v_10)) (fun (v_11 : Int) => gLet (v_11 + 1) (fun (v_12 : Int) => gLet (q_u J_8 (o + 6) (Int.toNat v_10) v_12) (fun (J_13 : gJ) => (0, J_13, L_7))))))))))) := rfl
noncomputable def gModel_readRoad_0 (o : Nat) (J : gJ) (L : gL) : Int × gJ × gL := gLet (J o 35) (fun (v_1 : Int) => gLet (24 * v_1) (fun (v_2 : Int) => gLet (J o 35) (fun (v_3 : Int) => gLet (J (o + 6) (Int.toNat v_3)) (fun (v_4 : Int) => gLet (v_2 + v_4) (fun (v_5 : Int) => gB3 (gModel_point_0 o J L) (fun r_6 J_7 L_8 => gLet (q_u J_7 (o + 10) (Int.toNat v_5) r_6) (fun (J_9 : gJ) => gLet (gModel_isGood_0 o J_9 L_8) (fun (r_10 : Int) => (if r_10 = 0 then (gModel_readRoad_65 o J_9 L_8 v_5) else gLet (J_9 o 8) (fun (v_11 : Int) => (if v_11 = 5 then gLet (J_9 o 9) (fun (v_12 : Int) => gLet (J_9 (o + 10) (Int.toNat v_5)) (fun (v_13 : Int) => (if v_12 = v_13 then gLet (J_9 o 6) (fun (v_14 : Int) => gB3 (gModel_fails_0 o J_9 L_8 4 v_14) (fun r_15 J_16 L_17 => (gModel_readRoad_65 o J_16 L_17 v_5))) else (gModel_readRoad_65 o J_9 L_8 v_5)))) else (gModel_readRoad_65 o J_9 L_8 v_5))))))))))))
theorem eModel_readRoad_0 {o : Nat} {J : gJ} {L : gL} : gModel_readRoad_0 o J L  = gLet (J o 35) (fun (v_1 : Int) => gLet (24 * v_1) (fun (v_2 : Int) => gLet (J o 35) (fun (v_3 : Int) => gLet (J (o + 6) (Int.toNat v_3)) (fun (v_4 : Int) => gLet (v_2 + v_4) (fun (v_5 : Int) => gB3 (gModel_point_0 o J L) (fun r_6 J_7 L_8 => gLet (q_u J_7 (o + 10) (Int.toNat v_5) r_6) (fun (J_9 : gJ) => gLet (gModel_isGood_0 o J_9 L_8) (fun (r_10 : Int) => (if r_10 = 0 then (gModel_readRoad_65 o J_9 L_8 v_5) else gLet (J_9 o 8) (fun (v_11 : Int) => (if v_11 = 5 then gLet (J_9 o 9) (fun (v_12 : Int) => gLet (J_9 (o + 10) (Int.toNat v_5)) (fun (v_13 : Int) => (if v_12 = v_13 then gLet (J_9 o 6) (fun (v_14 : Int) => gB3 (gModel_fails_0 o J_9 L_8 4 v_14) (fun r_15 J_16 L_17 => (gModel_readRoad_65 o J_16 L_17 v_5))) else (gModel_readRoad_65 o J_9 L_8 v_5)))) else (gModel_readRoad_65 o J_9 L_8 v_5)))))))))))) := rfl
set_option maxHeartbeats 4000000 in
set_option maxRecDepth 20000 in
theorem yc_Model_readRoadg {D : va_G} {cA : FieldType → ClassId} {b : Nat} {E : State → Prop} {R : qRg} {o n : Nat} {sh : Nat → qC} {Rf : Nat → Nat → Option Nat} {I0 : Nat → Nat → Int32} {L0 : Nat → Nat → Int64} {post : Option Value → qS → Prop} (hok : q_ok (qGG D cA b E)) (hw : WfModel (qGG D cA b E) n sh Rf o) (ra : RAModel R o) (hz14 : R.2 14 = true) (hz15 : R.2 15 = true) (hz16 : R.2 16 = true) (hz17 : R.2 17 = true) (hz18 : R.2 18 = true) (hz19 : R.2 19 = true) (hZ : Fz R I0 o wModel_readRoad) (hR0 : RI R I0) (hq0 : (I0 o 7).toInt ≤ (I0 o 3).toInt) (hq1 : (I0 (o + 6) (I0 o 35 : Int32).toNatClampNeg).toInt ≤ 23) (hq2 : MPo I0 o) (hq3 : MTk I0 o) (hR : RI R I0) (hp : ∀ (I' : Nat → Nat → Int32) (L' : Nat → Nat → Int64), RI R I' → Fm (fun c => c = o ∨ c = o + 6 ∨ (o + 10 ≤ c ∧ c < o + 13)) I0 I' → ((I' o 7).toInt ≤ (I' o 3).toInt) → ((I0 o 7).toInt ≤ (I' o 7).toInt) → ((I0 o 4).toInt ≤ (I' o 4).toInt) → (7 * (I0 o 7).toInt - (I0 o 8).toInt + (I0 o 4).toInt ≤ 7 * (I' o 7).toInt - (I' o 8).toInt + (I' o 4).toInt) → (MPo I' o) → (MTk I' o) → (gModel_readRoad_0 o (tI I0) L0 = (0, tI I', L')) → post none (n, sh, Rf, I', L')) : Ev (qGG D cA b E) mModel_readRoad 5 (0, 0) 0 (lv_args 0 [.ref o]) [] (n, sh, Rf, I0, L0) post := by
  have hf : Fm (fun c => c = o ∨ c = o + 6 ∨ (o + 10 ≤ c ∧ c < o + 13)) I0 I0 := Fm.rf
  have g_1 : (0 : Int) ≤ (I0 o 3).toInt ∧ (I0 o 3).toInt ≤ 1600 := hR.at0 ra 3 (by decide)
  have g_2 : (0 : Int) ≤ (I0 o 4).toInt ∧ (I0 o 4).toInt ≤ 5 := hR.at0 ra 4 (by decide)
  have g_3 : (0 : Int) ≤ (I0 o 6).toInt ∧ (I0 o 6).toInt ≤ 1600 := hR.at0 ra 6 (by decide)
  have g_4 : (0 : Int) ≤ (I0 o 7).toInt ∧ (I0 o 7).toInt ≤ 1601 := hR.at0 ra 7 (by decide)
  have g_5 : (0 : Int) ≤ (I0 o 8).toInt ∧ (I0 o 8).toInt ≤ 6 := hR.at0 ra 8 (by decide)
  refine sModel_readRoad_0 o n sh Rf I0 L0 post  hok hw ?_
  unfold fModel_readRoad_0
  have hg : gModel_readRoad_0 o (tI I0) L0 = gModel_readRoad_0 o (tI I0) L0 := rfl
  replace hg := (eModel_readRoad_0).symm.trans hg
  have g_6 : (0 : Int) ≤ (I0 o 35).toInt ∧ (I0 o 35).toInt ≤ 1 := hR.at0 ra 35 (by decide)
  replace hg := gt_let (y := (I0 o 35).toInt) rfl hg
  have l_7 : (24 : Int32).toInt = 24 := rfl
  have a_8 : (24 * (I0 o 35)).toInt = 24 * (I0 o 35).toInt := tMulL rfl (by omega) (by omega)
  replace hg := gt_let (y := ((24 * (I0 o 35)) : Int32).toInt) (by omega) hg
  have g_9 : (0 : Int) ≤ (I0 o 35).toInt ∧ (I0 o 35).toInt ≤ 1 := hR.at0 ra 35 (by decide)
  replace hg := gt_let (y := (I0 o 35).toInt) rfl hg
  refine ⟨tIn (by omega) (by omega), ?_⟩
  have g_10 : (0 : Int) ≤ (I0 (o + 6) ((I0 o 35) : Int32).toNatClampNeg).toInt ∧ (I0 (o + 6) ((I0 o 35) : Int32).toNatClampNeg).toInt ≤ 24 := hR.at ra 6 _ (by decide)
  replace hg := gt_let (y := (I0 (o + 6) ((I0 o 35) : Int32).toNatClampNeg).toInt) rfl hg
  have a_11 : ((24 * (I0 o 35)) + (I0 (o + 6) ((I0 o 35) : Int32).toNatClampNeg)).toInt = (24 * (I0 o 35)).toInt + (I0 (o + 6) ((I0 o 35) : Int32).toNatClampNeg).toInt := tAdd (by omega) (by omega)
  replace hg := gt_let (y := (((24 * (I0 o 35)) + (I0 (o + 6) ((I0 o 35) : Int32).toNatClampNeg)) : Int32).toInt) (by omega) hg
  refine y_Model_pointg hok hw ra hz14 hz15 hz16 hz17 hz18 hz19 (by first | omega | (intro h; omega) | exact Or.inl rfl | exact Or.inr rfl) hq2 hq3 hR (fun r_12 I_21 L_22 hR_23 fr_24 kp_25 u_13 u_14 u_15 u_16 u_17 u_18 u_19 gn_20 => ⟨r_12, I_21, L_22, rfl, rfl, ?_⟩)
  replace hg := gt_b3 gn_20 hg
  clear gn_20
  have hf_26 : Fm (fun c => c = o ∨ c = o + 6 ∨ (o + 10 ≤ c ∧ c < o + 13)) I0 I_21 := hf.call fr_24 (fun c hc => by first | exact hc | (dsimp only at hc ⊢; omega) | omega)
  have t_27 : (I_21 o 3).toInt = (I0 o 3).toInt := by rw [kp_25 3 rfl]
  have g_28 : (0 : Int) ≤ (I_21 o 4).toInt ∧ (I_21 o 4).toInt ≤ 5 := hR_23.at0 ra 4 (by decide)
  have g_29 : (0 : Int) ≤ (I_21 o 6).toInt ∧ (I_21 o 6).toInt ≤ 1600 := hR_23.at0 ra 6 (by decide)
  have g_30 : (0 : Int) ≤ (I_21 o 7).toInt ∧ (I_21 o 7).toInt ≤ 1601 := hR_23.at0 ra 7 (by decide)
  have g_31 : (0 : Int) ≤ (I_21 o 8).toInt ∧ (I_21 o 8).toInt ≤ 6 := hR_23.at0 ra 8 (by decide)
  have t_32 : (I_21 o 35).toInt = (I0 o 35).toInt := by rw [kp_25 35 rfl]
  have s_33 : (I0 o 7).toInt ≤ (I_21 o 7).toInt := by omega
  have s_34 : (I0 o 4).toInt ≤ (I_21 o 4).toInt := by omega
  have s_35 : (I_21 o 7).toInt ≤ (I_21 o 3).toInt := by omega
  have s_36 : 7 * (I0 o 7).toInt - (I0 o 8).toInt + (I0 o 4).toInt ≤ 7 * (I_21 o 7).toInt - (I_21 o 8).toInt + (I_21 o 4).toInt := by omega
  clear t_27 g_28 g_29 g_30 g_31 t_32 u_14 u_15 u_16 u_17
  have t_37 : (I_21 o 3).toInt = (I0 o 3).toInt := by rw [hZ I_21 3 rfl hR_23]
  have g_38 : (0 : Int) ≤ (I_21 o 3).toInt ∧ (I_21 o 3).toInt ≤ 1600 := hR_23.at0 ra 3 (by decide)
  have g_39 : (0 : Int) ≤ (I_21 o 4).toInt ∧ (I_21 o 4).toInt ≤ 5 := hR_23.at0 ra 4 (by decide)
  have g_40 : (0 : Int) ≤ (I_21 o 6).toInt ∧ (I_21 o 6).toInt ≤ 1600 := hR_23.at0 ra 6 (by decide)
  have g_41 : (0 : Int) ≤ (I_21 o 7).toInt ∧ (I_21 o 7).toInt ≤ 1601 := hR_23.at0 ra 7 (by decide)
  have g_42 : (0 : Int) ≤ (I_21 o 8).toInt ∧ (I_21 o 8).toInt ≤ 6 := hR_23.at0 ra 8 (by decide)
  have t_43 : (I_21 o 35).toInt = (I0 o 35).toInt := by rw [hZ I_21 35 rfl hR_23]
  have g_44 : (0 : Int) ≤ (I_21 o 35).toInt ∧ (I_21 o 35).toInt ≤ 1 := hR_23.at0 ra 35 (by decide)
  have w_45 : I_21 (o + 6) = I0 (o + 6) := (fr_24 (o + 6) (by first | omega | (dsimp only; omega)))
  refine ⟨tIn (by omega) (by omega), fun I_46 e_47 => ?_⟩
  replace hg := gt_let (y := tI I_46) (tI_q e_47) hg
  have hR_48 : RI R I_46 := hR_23.up ra 10 (by decide) (Or.inl rfl) e_47 (show (0 : Int) ≤ r_12.toInt by omega) (show r_12.toInt ≤ (15 : Int) by omega)
  have hf_49 : Fm (fun c => c = o ∨ c = o + 6 ∨ (o + 10 ≤ c ∧ c < o + 13)) I0 I_46 := hf_26.set (by first | rfl | omega | (dsimp only; omega)) e_47
  have t_50 : (I_46 o 3).toInt = (I_21 o 3).toInt := by rw [← e_47, q_u_ne (by omega)]
  have t_51 : (I_46 o 4).toInt = (I_21 o 4).toInt := by rw [← e_47, q_u_ne (by omega)]
  have t_52 : (I_46 o 6).toInt = (I_21 o 6).toInt := by rw [← e_47, q_u_ne (by omega)]
  have t_53 : (I_46 o 7).toInt = (I_21 o 7).toInt := by rw [← e_47, q_u_ne (by omega)]
  have t_54 : (I_46 o 8).toInt = (I_21 o 8).toInt := by rw [← e_47, q_u_ne (by omega)]
  have t_55 : (I_46 o 9).toInt = (I_21 o 9).toInt := by rw [← e_47, q_u_ne (by omega)]
  have t_56 : (I_46 o 35).toInt = (I_21 o 35).toInt := by rw [← e_47, q_u_ne (by omega)]
  have k_57 : MPo I_46 o := u_18.fr (by rw [← e_47, q_u_ne (by omega)]) (by rw [← e_47, q_u_ne (by omega)])
  have k_58 : MTk I_46 o := u_19.fr (by rw [← e_47, q_u_ne (by omega)]) (by rw [← e_47, q_u_ne (by omega)]) (by rw [← e_47, q_u_ne (by omega)])
  have w_59 : I_46 (o + 6) = I0 (o + 6) := by rw [← e_47, q_u_ne (by omega)]; exact w_45
  refine y_Model_isGoodg hok hw ra hR_48 (fun r_60 u_61 u_62 u_63 gn_64 => ⟨r_60, I_46, L_22, rfl, rfl, ?_⟩)
  replace hg := gt_let gn_64 hg
  clear gn_64
  have b_65 : 0 ≤ r_60.toInt ∧ r_60.toInt ≤ 1 := u_61.rg
  have l_66 : (0 : Int32).toInt = 0 := rfl
  refine ⟨fun c_67 => ?_, fun c_67 => ?_⟩
  · have d_68 := iEq c_67
    have i_69 := u_63 (by omega)
    replace hg := gt_pos (by first | exact d_68 | omega) hg
    unfold fModel_readRoad_65
    replace hg := (eModel_readRoad_65).symm.trans hg
    refine y_Model_pointg hok hw ra hz14 hz15 hz16 hz17 hz18 hz19 (by first | omega | (intro h; omega) | exact Or.inl rfl | exact Or.inr rfl) k_57 k_58 hR_48 (fun r_70 I_79 L_80 hR_81 fr_82 kp_83 u_71 u_72 u_73 u_74 u_75 u_76 u_77 gn_78 => ⟨r_70, I_79, L_80, rfl, rfl, ?_⟩)
    replace hg := gt_b3 gn_78 hg
    clear gn_78
    have hf_84 : Fm (fun c => c = o ∨ c = o + 6 ∨ (o + 10 ≤ c ∧ c < o + 13)) I0 I_79 := hf_49.call fr_82 (fun c hc => by first | exact hc | (dsimp only at hc ⊢; omega) | omega)
    have t_85 : (I_79 o 3).toInt = (I_46 o 3).toInt := by rw [kp_83 3 rfl]
    have g_86 : (0 : Int) ≤ (I_79 o 4).toInt ∧ (I_79 o 4).toInt ≤ 5 := hR_81.at0 ra 4 (by decide)
    have g_87 : (0 : Int) ≤ (I_79 o 6).toInt ∧ (I_79 o 6).toInt ≤ 1600 := hR_81.at0 ra 6 (by decide)
    have g_88 : (0 : Int) ≤ (I_79 o 7).toInt ∧ (I_79 o 7).toInt ≤ 1601 := hR_81.at0 ra 7 (by decide)
    have g_89 : (0 : Int) ≤ (I_79 o 8).toInt ∧ (I_79 o 8).toInt ≤ 6 := hR_81.at0 ra 8 (by decide)
    have t_90 : (I_79 o 35).toInt = (I_46 o 35).toInt := by rw [kp_83 35 rfl]
    have s_91 : (I0 o 7).toInt ≤ (I_79 o 7).toInt := by omega
    have s_92 : (I0 o 4).toInt ≤ (I_79 o 4).toInt := by omega
    have s_93 : (I_79 o 7).toInt ≤ (I_79 o 3).toInt := by omega
    have s_94 : 7 * (I0 o 7).toInt - (I0 o 8).toInt + (I0 o 4).toInt ≤ 7 * (I_79 o 7).toInt - (I_79 o 8).toInt + (I_79 o 4).toInt := by omega
    clear s_33 s_34 s_35 s_36 t_37 g_38 g_39 g_40 g_41 g_42 t_43 g_44 t_50 t_51 t_52 t_53 t_54 t_55 t_56 t_85 g_86 g_87 g_88 g_89 t_90 u_72 u_73 u_74 u_75
    have t_95 : (I_79 o 3).toInt = (I0 o 3).toInt := by rw [hZ I_79 3 rfl hR_81]
    have g_96 : (0 : Int) ≤ (I_79 o 3).toInt ∧ (I_79 o 3).toInt ≤ 1600 := hR_81.at0 ra 3 (by decide)
    have g_97 : (0 : Int) ≤ (I_79 o 4).toInt ∧ (I_79 o 4).toInt ≤ 5 := hR_81.at0 ra 4 (by decide)
    have g_98 : (0 : Int) ≤ (I_79 o 6).toInt ∧ (I_79 o 6).toInt ≤ 1600 := hR_81.at0 ra 6 (by decide)
    have g_99 : (0 : Int) ≤ (I_79 o 7).toInt ∧ (I_79 o 7).toInt ≤ 1601 := hR_81.at0 ra 7 (by decide)
    have g_100 : (0 : Int) ≤ (I_79 o 8).toInt ∧ (I_79 o 8).toInt ≤ 6 := hR_81.at0 ra 8 (by decide)
    have t_101 : (I_79 o 35).toInt = (I0 o 35).toInt := by rw [hZ I_79 35 rfl hR_81]
    have g_102 : (0 : Int) ≤ (I_79 o 35).toInt ∧ (I_79 o 35).toInt ≤ 1 := hR_81.at0 ra 35 (by decide)
    have w_103 : I_79 (o + 6) = I0 (o + 6) := (fr_82 (o + 6) (by first | omega | (dsimp only; omega))).trans w_59
    refine ⟨tIn (by omega) (by omega), fun I_104 e_105 => ?_⟩
    replace hg := gt_let (y := tI I_104) (tI_q e_105) hg
    have hR_106 : RI R I_104 := hR_81.up ra 11 (by decide) (Or.inl rfl) e_105 (show (0 : Int) ≤ r_70.toInt by omega) (show r_70.toInt ≤ (15 : Int) by omega)
    have hf_107 : Fm (fun c => c = o ∨ c = o + 6 ∨ (o + 10 ≤ c ∧ c < o + 13)) I0 I_104 := hf_84.set (by first | rfl | omega | (dsimp only; omega)) e_105
    have t_108 : (I_104 o 3).toInt = (I_79 o 3).toInt := by rw [← e_105, q_u_ne (by omega)]
    have t_109 : (I_104 o 4).toInt = (I_79 o 4).toInt := by rw [← e_105, q_u_ne (by omega)]
    have t_110 : (I_104 o 6).toInt = (I_79 o 6).toInt := by rw [← e_105, q_u_ne (by omega)]
    have t_111 : (I_104 o 7).toInt = (I_79 o 7).toInt := by rw [← e_105, q_u_ne (by omega)]
    have t_112 : (I_104 o 8).toInt = (I_79 o 8).toInt := by rw [← e_105, q_u_ne (by omega)]
    have t_113 : (I_104 o 9).toInt = (I_79 o 9).toInt := by rw [← e_105, q_u_ne (by omega)]
    have t_114 : (I_104 o 35).toInt = (I_79 o 35).toInt := by rw [← e_105, q_u_ne (by omega)]
    have k_115 : MPo I_104 o := u_76.fr (by rw [← e_105, q_u_ne (by omega)]) (by rw [← e_105, q_u_ne (by omega)])
    have k_116 : MTk I_104 o := u_77.fr (by rw [← e_105, q_u_ne (by omega)]) (by rw [← e_105, q_u_ne (by omega)]) (by rw [← e_105, q_u_ne (by omega)])
    have w_117 : I_104 (o + 6) = I0 (o + 6) := by rw [← e_105, q_u_ne (by omega)]; exact w_103
    have l_118 : (1 : Int32).toInt = 1 := rfl
    have l_119 : (90 : Int32).toInt = 90 := rfl
    refine y_Model_numeralg hok hw ra hz14 hz15 hz16 hz17 hz18 hz19 (by first | omega | (intro h; omega) | exact Or.inl rfl | exact Or.inr rfl) k_115 k_116 hR_106 (fun r_120 I_129 L_130 hR_131 fr_132 kp_133 u_121 u_122 u_123 u_124 u_125 u_126 u_127 gn_128 => ⟨r_120, I_129, L_130, rfl, rfl, ?_⟩)
    replace hg := gt_b3 gn_128 hg
    clear gn_128
    have hf_134 : Fm (fun c => c = o ∨ c = o + 6 ∨ (o + 10 ≤ c ∧ c < o + 13)) I0 I_129 := hf_107.call fr_132 (fun c hc => by first | exact hc | (dsimp only at hc ⊢; omega) | omega)
    have t_135 : (I_129 o 3).toInt = (I_104 o 3).toInt := by rw [kp_133 3 rfl]
    have g_136 : (0 : Int) ≤ (I_129 o 4).toInt ∧ (I_129 o 4).toInt ≤ 5 := hR_131.at0 ra 4 (by decide)
    have g_137 : (0 : Int) ≤ (I_129 o 6).toInt ∧ (I_129 o 6).toInt ≤ 1600 := hR_131.at0 ra 6 (by decide)
    have g_138 : (0 : Int) ≤ (I_129 o 7).toInt ∧ (I_129 o 7).toInt ≤ 1601 := hR_131.at0 ra 7 (by decide)
    have g_139 : (0 : Int) ≤ (I_129 o 8).toInt ∧ (I_129 o 8).toInt ≤ 6 := hR_131.at0 ra 8 (by decide)
    have t_140 : (I_129 o 35).toInt = (I_104 o 35).toInt := by rw [kp_133 35 rfl]
    have s_141 : (I0 o 7).toInt ≤ (I_129 o 7).toInt := by omega
    have s_142 : (I0 o 4).toInt ≤ (I_129 o 4).toInt := by omega
    have s_143 : (I_129 o 7).toInt ≤ (I_129 o 3).toInt := by omega
    have s_144 : 7 * (I0 o 7).toInt - (I0 o 8).toInt + (I0 o 4).toInt ≤ 7 * (I_129 o 7).toInt - (I_129 o 8).toInt + (I_129 o 4).toInt := by omega
    clear s_91 s_92 s_93 s_94 t_95 g_96 g_97 g_98 g_99 g_100 t_101 g_102 t_108 t_109 t_110 t_111 t_112 t_113 t_114 t_135 g_136 g_137 g_138 g_139 t_140 u_121 u_122 u_123 u_124
    have t_145 : (I_129 o 3).toInt = (I0 o 3).toInt := by rw [hZ I_129 3 rfl hR_131]
    have g_146 : (0 : Int) ≤ (I_129 o 3).toInt ∧ (I_129 o 3).toInt ≤ 1600 := hR_131.at0 ra 3 (by decide)
    have g_147 : (0 : Int) ≤ (I_129 o 4).toInt ∧ (I_129 o 4).toInt ≤ 5 := hR_131.at0 ra 4 (by decide)
    have g_148 : (0 : Int) ≤ (I_129 o 6).toInt ∧ (I_129 o 6).toInt ≤ 1600 := hR_131.at0 ra 6 (by decide)
    have g_149 : (0 : Int) ≤ (I_129 o 7).toInt ∧ (I_129 o 7).toInt ≤ 1601 := hR_131.at0 ra 7 (by decide)
    have g_150 : (0 : Int) ≤ (I_129 o 8).toInt ∧ (I_129 o 8).toInt ≤ 6 := hR_131.at0 ra 8 (by decide)
    have t_151 : (I_129 o 35).toInt = (I0 o 35).toInt := by rw [hZ I_129 35 rfl hR_131]
    have g_152 : (0 : Int) ≤ (I_129 o 35).toInt ∧ (I_129 o 35).toInt ≤ 1 := hR_131.at0 ra 35 (by decide)
    have w_153 : I_129 (o + 6) = I0 (o + 6) := (fr_132 (o + 6) (by first | omega | (dsimp only; omega))).trans w_117
    refine ⟨tIn (by omega) (by omega), fun I_154 e_155 => ?_⟩
    replace hg := gt_let (y := tI I_154) (tI_q e_155) hg
    have hR_156 : RI R I_154 := hR_131.up ra 12 (by decide) (Or.inl rfl) e_155 (i_lo _) (i_hi _)
    have hf_157 : Fm (fun c => c = o ∨ c = o + 6 ∨ (o + 10 ≤ c ∧ c < o + 13)) I0 I_154 := hf_134.set (by first | rfl | omega | (dsimp only; omega)) e_155
    have t_158 : (I_154 o 3).toInt = (I_129 o 3).toInt := by rw [← e_155, q_u_ne (by omega)]
    have t_159 : (I_154 o 4).toInt = (I_129 o 4).toInt := by rw [← e_155, q_u_ne (by omega)]
    have t_160 : (I_154 o 6).toInt = (I_129 o 6).toInt := by rw [← e_155, q_u_ne (by omega)]
    have t_161 : (I_154 o 7).toInt = (I_129 o 7).toInt := by rw [← e_155, q_u_ne (by omega)]
    have t_162 : (I_154 o 8).toInt = (I_129 o 8).toInt := by rw [← e_155, q_u_ne (by omega)]
    have t_163 : (I_154 o 9).toInt = (I_129 o 9).toInt := by rw [← e_155, q_u_ne (by omega)]
    have t_164 : (I_154 o 35).toInt = (I_129 o 35).toInt := by rw [← e_155, q_u_ne (by omega)]
    have k_165 : MPo I_154 o := u_126.fr (by rw [← e_155, q_u_ne (by omega)]) (by rw [← e_155, q_u_ne (by omega)])
    have k_166 : MTk I_154 o := u_127.fr (by rw [← e_155, q_u_ne (by omega)]) (by rw [← e_155, q_u_ne (by omega)]) (by rw [← e_155, q_u_ne (by omega)])
    have w_167 : I_154 (o + 6) = I0 (o + 6) := by rw [← e_155, q_u_ne (by omega)]; exact w_153
    refine y_Model_isGoodg hok hw ra hR_156 (fun r_168 u_169 u_170 u_171 gn_172 => ⟨r_168, I_154, L_130, rfl, rfl, ?_⟩)
    replace hg := gt_let gn_172 hg
    clear gn_172
    have b_173 : 0 ≤ r_168.toInt ∧ r_168.toInt ≤ 1 := u_169.rg
    refine ⟨fun c_174 => ?_, fun c_174 => ?_⟩
    · have d_175 := iEq c_174
      have i_176 := u_171 (by omega)
      replace hg := gt_pos (by first | exact d_175 | omega) hg
      exact (hp _ _ hR_156 hf_157 (by first | omega | (intro h; omega) | exact Or.inl rfl | exact Or.inr rfl) (by first | omega | (intro h; omega) | exact Or.inl rfl | exact Or.inr rfl) (by first | omega | (intro h; omega) | exact Or.inl rfl | exact Or.inr rfl) (by first | omega | (intro h; omega) | exact Or.inl rfl | exact Or.inr rfl) k_165 k_166 hg.symm)
    · have d_177 := iNe c_174
      have i_178 := u_170 (by omega)
      replace hg := gt_neg (by first | exact d_177 | omega) hg
      have g_179 : (0 : Int) ≤ (I_154 o 35).toInt ∧ (I_154 o 35).toInt ≤ 1 := hR_156.at0 ra 35 (by decide)
      replace hg := gt_let (y := (I_154 o 35).toInt) rfl hg
      have rk : (I_154 (o + 6) (I_154 o 35 : Int32).toNatClampNeg).toInt = (I0 (o + 6) (I0 o 35 : Int32).toNatClampNeg).toInt := by rw [w_167, hZ I_154 35 rfl hR_156]
      refine ⟨tIn (by omega) (by omega), ?_⟩
      have g_180 : (0 : Int) ≤ (I_154 (o + 6) ((I_154 o 35) : Int32).toNatClampNeg).toInt ∧ (I_154 (o + 6) ((I_154 o 35) : Int32).toNatClampNeg).toInt ≤ 24 := hR_156.at ra 6 _ (by decide)
      replace hg := gt_let (y := (I_154 (o + 6) ((I_154 o 35) : Int32).toNatClampNeg).toInt) rfl hg
      have a_181 : ((I_154 (o + 6) ((I_154 o 35) : Int32).toNatClampNeg) + 1).toInt = (I_154 (o + 6) ((I_154 o 35) : Int32).toNatClampNeg).toInt + (1 : Int32).toInt := tAdd (by omega) (by omega)
      replace hg := gt_let (y := (((I_154 (o + 6) ((I_154 o 35) : Int32).toNatClampNeg) + 1) : Int32).toInt) (by omega) hg
      refine ⟨tIn (by omega) (by omega), fun I_182 e_183 => ?_⟩
      replace hg := gt_let (y := tI I_182) (tI_q e_183) hg
      have hR_184 : RI R I_182 := hR_156.up ra 6 (by decide) (Or.inl rfl) e_183 (show (0 : Int) ≤ ((I_154 (o + 6) ((I_154 o 35) : Int32).toNatClampNeg) + 1).toInt by omega) (show ((I_154 (o + 6) ((I_154 o 35) : Int32).toNatClampNeg) + 1).toInt ≤ (24 : Int) by omega)
      have hf_185 : Fm (fun c => c = o ∨ c = o + 6 ∨ (o + 10 ≤ c ∧ c < o + 13)) I0 I_182 := hf_157.set (by first | rfl | omega | (dsimp only; omega)) e_183
      have t_186 : (I_182 o 3).toInt = (I_154 o 3).toInt := by rw [← e_183, q_u_ne (by omega)]
      have t_187 : (I_182 o 4).toInt = (I_154 o 4).toInt := by rw [← e_183, q_u_ne (by omega)]
      have t_188 : (I_182 o 6).toInt = (I_154 o 6).toInt := by rw [← e_183, q_u_ne (by omega)]
      have t_189 : (I_182 o 7).toInt = (I_154 o 7).toInt := by rw [← e_183, q_u_ne (by omega)]
      have t_190 : (I_182 o 8).toInt = (I_154 o 8).toInt := by rw [← e_183, q_u_ne (by omega)]
      have t_191 : (I_182 o 9).toInt = (I_154 o 9).toInt := by rw [← e_183, q_u_ne (by omega)]
      have t_192 : (I_182 o 35).toInt = (I_154 o 35).toInt := by rw [← e_183, q_u_ne (by omega)]
      have k_193 : MPo I_182 o := k_165.fr (by rw [← e_183, q_u_ne (by omega)]) (by rw [← e_183, q_u_ne (by omega)])
      have k_194 : MTk I_182 o := k_166.fr (by rw [← e_183, q_u_ne (by omega)]) (by rw [← e_183, q_u_ne (by omega)]) (by rw [← e_183, q_u_ne (by omega)])
      exact (hp _ _ hR_184 hf_185 (by first | omega | (intro h; omega) | exact Or.inl rfl | exact Or.inr rfl) (by first | omega | (intro h; omega) | exact Or.inl rfl | exact Or.inr rfl) (by first | omega | (intro h; omega) | exact Or.inl rfl | exact Or.inr rfl) (by first | omega | (intro h; omega) | exact Or.inl rfl | exact Or.inr rfl) k_193 k_194 hg.symm)
  · have d_195 := iNe c_67
    have i_196 := u_62 (by omega)
    replace hg := gt_neg (by first | exact d_195 | omega) hg
    have g_197 : (0 : Int) ≤ (I_46 o 8).toInt ∧ (I_46 o 8).toInt ≤ 6 := hR_48.at0 ra 8 (by decide)
    replace hg := gt_let (y := (I_46 o 8).toInt) rfl hg
    have l_198 : (5 : Int32).toInt = 5 := rfl
    refine ⟨fun c_199 => ?_, fun c_199 => ?_⟩
    · have d_200 := iNe c_199
      replace hg := gt_neg (by first | exact d_200 | omega) hg
      unfold fModel_readRoad_65
      replace hg := (eModel_readRoad_65).symm.trans hg
      refine y_Model_pointg hok hw ra hz14 hz15 hz16 hz17 hz18 hz19 (by first | omega | (intro h; omega) | exact Or.inl rfl | exact Or.inr rfl) k_57 k_58 hR_48 (fun r_201 I_210 L_211 hR_212 fr_213 kp_214 u_202 u_203 u_204 u_205 u_206 u_207 u_208 gn_209 => ⟨r_201, I_210, L_211, rfl, rfl, ?_⟩)
      replace hg := gt_b3 gn_209 hg
      clear gn_209
      have hf_215 : Fm (fun c => c = o ∨ c = o + 6 ∨ (o + 10 ≤ c ∧ c < o + 13)) I0 I_210 := hf_49.call fr_213 (fun c hc => by first | exact hc | (dsimp only at hc ⊢; omega) | omega)
      have t_216 : (I_210 o 3).toInt = (I_46 o 3).toInt := by rw [kp_214 3 rfl]
      have g_217 : (0 : Int) ≤ (I_210 o 4).toInt ∧ (I_210 o 4).toInt ≤ 5 := hR_212.at0 ra 4 (by decide)
      have g_218 : (0 : Int) ≤ (I_210 o 6).toInt ∧ (I_210 o 6).toInt ≤ 1600 := hR_212.at0 ra 6 (by decide)
      have g_219 : (0 : Int) ≤ (I_210 o 7).toInt ∧ (I_210 o 7).toInt ≤ 1601 := hR_212.at0 ra 7 (by decide)
      have g_220 : (0 : Int) ≤ (I_210 o 8).toInt ∧ (I_210 o 8).toInt ≤ 6 := hR_212.at0 ra 8 (by decide)
      have t_221 : (I_210 o 35).toInt = (I_46 o 35).toInt := by rw [kp_214 35 rfl]
      have s_222 : (I0 o 7).toInt ≤ (I_210 o 7).toInt := by omega
      have s_223 : (I0 o 4).toInt ≤ (I_210 o 4).toInt := by omega
      have s_224 : (I_210 o 7).toInt ≤ (I_210 o 3).toInt := by omega
      have s_225 : 7 * (I0 o 7).toInt - (I0 o 8).toInt + (I0 o 4).toInt ≤ 7 * (I_210 o 7).toInt - (I_210 o 8).toInt + (I_210 o 4).toInt := by omega
      clear s_33 s_34 s_35 s_36 t_37 g_38 g_39 g_40 g_41 g_42 t_43 g_44 t_50 t_51 t_52 t_53 t_54 t_55 t_56 t_216 g_217 g_218 g_219 g_220 t_221 u_203 u_204 u_205 u_206
      have t_226 : (I_210 o 3).toInt = (I0 o 3).toInt := by rw [hZ I_210 3 rfl hR_212]
      have g_227 : (0 : Int) ≤ (I_210 o 3).toInt ∧ (I_210 o 3).toInt ≤ 1600 := hR_212.at0 ra 3 (by decide)
      have g_228 : (0 : Int) ≤ (I_210 o 4).toInt ∧ (I_210 o 4).toInt ≤ 5 := hR_212.at0 ra 4 (by decide)
      have g_229 : (0 : Int) ≤ (I_210 o 6).toInt ∧ (I_210 o 6).toInt ≤ 1600 := hR_212.at0 ra 6 (by decide)
      have g_230 : (0 : Int) ≤ (I_210 o 7).toInt ∧ (I_210 o 7).toInt ≤ 1601 := hR_212.at0 ra 7 (by decide)
      have g_231 : (0 : Int) ≤ (I_210 o 8).toInt ∧ (I_210 o 8).toInt ≤ 6 := hR_212.at0 ra 8 (by decide)
      have t_232 : (I_210 o 35).toInt = (I0 o 35).toInt := by rw [hZ I_210 35 rfl hR_212]
      have g_233 : (0 : Int) ≤ (I_210 o 35).toInt ∧ (I_210 o 35).toInt ≤ 1 := hR_212.at0 ra 35 (by decide)
      have w_234 : I_210 (o + 6) = I0 (o + 6) := (fr_213 (o + 6) (by first | omega | (dsimp only; omega))).trans w_59
      refine ⟨tIn (by omega) (by omega), fun I_235 e_236 => ?_⟩
      replace hg := gt_let (y := tI I_235) (tI_q e_236) hg
      have hR_237 : RI R I_235 := hR_212.up ra 11 (by decide) (Or.inl rfl) e_236 (show (0 : Int) ≤ r_201.toInt by omega) (show r_201.toInt ≤ (15 : Int) by omega)
      have hf_238 : Fm (fun c => c = o ∨ c = o + 6 ∨ (o + 10 ≤ c ∧ c < o + 13)) I0 I_235 := hf_215.set (by first | rfl | omega | (dsimp only; omega)) e_236
      have t_239 : (I_235 o 3).toInt = (I_210 o 3).toInt := by rw [← e_236, q_u_ne (by omega)]
      have t_240 : (I_235 o 4).toInt = (I_210 o 4).toInt := by rw [← e_236, q_u_ne (by omega)]
      have t_241 : (I_235 o 6).toInt = (I_210 o 6).toInt := by rw [← e_236, q_u_ne (by omega)]
      have t_242 : (I_235 o 7).toInt = (I_210 o 7).toInt := by rw [← e_236, q_u_ne (by omega)]
      have t_243 : (I_235 o 8).toInt = (I_210 o 8).toInt := by rw [← e_236, q_u_ne (by omega)]
      have t_244 : (I_235 o 9).toInt = (I_210 o 9).toInt := by rw [← e_236, q_u_ne (by omega)]
      have t_245 : (I_235 o 35).toInt = (I_210 o 35).toInt := by rw [← e_236, q_u_ne (by omega)]
      have k_246 : MPo I_235 o := u_207.fr (by rw [← e_236, q_u_ne (by omega)]) (by rw [← e_236, q_u_ne (by omega)])
      have k_247 : MTk I_235 o := u_208.fr (by rw [← e_236, q_u_ne (by omega)]) (by rw [← e_236, q_u_ne (by omega)]) (by rw [← e_236, q_u_ne (by omega)])
      have w_248 : I_235 (o + 6) = I0 (o + 6) := by rw [← e_236, q_u_ne (by omega)]; exact w_234
      have l_249 : (1 : Int32).toInt = 1 := rfl
      have l_250 : (90 : Int32).toInt = 90 := rfl
      refine y_Model_numeralg hok hw ra hz14 hz15 hz16 hz17 hz18 hz19 (by first | omega | (intro h; omega) | exact Or.inl rfl | exact Or.inr rfl) k_246 k_247 hR_237 (fun r_251 I_260 L_261 hR_262 fr_263 kp_264 u_252 u_253 u_254 u_255 u_256 u_257 u_258 gn_259 => ⟨r_251, I_260, L_261, rfl, rfl, ?_⟩)
      replace hg := gt_b3 gn_259 hg
      clear gn_259
      have hf_265 : Fm (fun c => c = o ∨ c = o + 6 ∨ (o + 10 ≤ c ∧ c < o + 13)) I0 I_260 := hf_238.call fr_263 (fun c hc => by first | exact hc | (dsimp only at hc ⊢; omega) | omega)
      have t_266 : (I_260 o 3).toInt = (I_235 o 3).toInt := by rw [kp_264 3 rfl]
      have g_267 : (0 : Int) ≤ (I_260 o 4).toInt ∧ (I_260 o 4).toInt ≤ 5 := hR_262.at0 ra 4 (by decide)
      have g_268 : (0 : Int) ≤ (I_260 o 6).toInt ∧ (I_260 o 6).toInt ≤ 1600 := hR_262.at0 ra 6 (by decide)
      have g_269 : (0 : Int) ≤ (I_260 o 7).toInt ∧ (I_260 o 7).toInt ≤ 1601 := hR_262.at0 ra 7 (by decide)
      have g_270 : (0 : Int) ≤ (I_260 o 8).toInt ∧ (I_260 o 8).toInt ≤ 6 := hR_262.at0 ra 8 (by decide)
      have t_271 : (I_260 o 35).toInt = (I_235 o 35).toInt := by rw [kp_264 35 rfl]
      have s_272 : (I0 o 7).toInt ≤ (I_260 o 7).toInt := by omega
      have s_273 : (I0 o 4).toInt ≤ (I_260 o 4).toInt := by omega
      have s_274 : (I_260 o 7).toInt ≤ (I_260 o 3).toInt := by omega
      have s_275 : 7 * (I0 o 7).toInt - (I0 o 8).toInt + (I0 o 4).toInt ≤ 7 * (I_260 o 7).toInt - (I_260 o 8).toInt + (I_260 o 4).toInt := by omega
      clear s_222 s_223 s_224 s_225 t_226 g_227 g_228 g_229 g_230 g_231 t_232 g_233 t_239 t_240 t_241 t_242 t_243 t_244 t_245 t_266 g_267 g_268 g_269 g_270 t_271 u_252 u_253 u_254 u_255
      have t_276 : (I_260 o 3).toInt = (I0 o 3).toInt := by rw [hZ I_260 3 rfl hR_262]
      have g_277 : (0 : Int) ≤ (I_260 o 3).toInt ∧ (I_260 o 3).toInt ≤ 1600 := hR_262.at0 ra 3 (by decide)
      have g_278 : (0 : Int) ≤ (I_260 o 4).toInt ∧ (I_260 o 4).toInt ≤ 5 := hR_262.at0 ra 4 (by decide)
      have g_279 : (0 : Int) ≤ (I_260 o 6).toInt ∧ (I_260 o 6).toInt ≤ 1600 := hR_262.at0 ra 6 (by decide)
      have g_280 : (0 : Int) ≤ (I_260 o 7).toInt ∧ (I_260 o 7).toInt ≤ 1601 := hR_262.at0 ra 7 (by decide)
      have g_281 : (0 : Int) ≤ (I_260 o 8).toInt ∧ (I_260 o 8).toInt ≤ 6 := hR_262.at0 ra 8 (by decide)
      have t_282 : (I_260 o 35).toInt = (I0 o 35).toInt := by rw [hZ I_260 35 rfl hR_262]
      have g_283 : (0 : Int) ≤ (I_260 o 35).toInt ∧ (I_260 o 35).toInt ≤ 1 := hR_262.at0 ra 35 (by decide)
      have w_284 : I_260 (o + 6) = I0 (o + 6) := (fr_263 (o + 6) (by first | omega | (dsimp only; omega))).trans w_248
      refine ⟨tIn (by omega) (by omega), fun I_285 e_286 => ?_⟩
      replace hg := gt_let (y := tI I_285) (tI_q e_286) hg
      have hR_287 : RI R I_285 := hR_262.up ra 12 (by decide) (Or.inl rfl) e_286 (i_lo _) (i_hi _)
      have hf_288 : Fm (fun c => c = o ∨ c = o + 6 ∨ (o + 10 ≤ c ∧ c < o + 13)) I0 I_285 := hf_265.set (by first | rfl | omega | (dsimp only; omega)) e_286
      have t_289 : (I_285 o 3).toInt = (I_260 o 3).toInt := by rw [← e_286, q_u_ne (by omega)]
      have t_290 : (I_285 o 4).toInt = (I_260 o 4).toInt := by rw [← e_286, q_u_ne (by omega)]
      have t_291 : (I_285 o 6).toInt = (I_260 o 6).toInt := by rw [← e_286, q_u_ne (by omega)]
      have t_292 : (I_285 o 7).toInt = (I_260 o 7).toInt := by rw [← e_286, q_u_ne (by omega)]
      have t_293 : (I_285 o 8).toInt = (I_260 o 8).toInt := by rw [← e_286, q_u_ne (by omega)]
      have t_294 : (I_285 o 9).toInt = (I_260 o 9).toInt := by rw [← e_286, q_u_ne (by omega)]
      have t_295 : (I_285 o 35).toInt = (I_260 o 35).toInt := by rw [← e_286, q_u_ne (by omega)]
      have k_296 : MPo I_285 o := u_257.fr (by rw [← e_286, q_u_ne (by omega)]) (by rw [← e_286, q_u_ne (by omega)])
      have k_297 : MTk I_285 o := u_258.fr (by rw [← e_286, q_u_ne (by omega)]) (by rw [← e_286, q_u_ne (by omega)]) (by rw [← e_286, q_u_ne (by omega)])
      have w_298 : I_285 (o + 6) = I0 (o + 6) := by rw [← e_286, q_u_ne (by omega)]; exact w_284
      refine y_Model_isGoodg hok hw ra hR_287 (fun r_299 u_300 u_301 u_302 gn_303 => ⟨r_299, I_285, L_261, rfl, rfl, ?_⟩)
      replace hg := gt_let gn_303 hg
      clear gn_303
      have b_304 : 0 ≤ r_299.toInt ∧ r_299.toInt ≤ 1 := u_300.rg
      refine ⟨fun c_305 => ?_, fun c_305 => ?_⟩
      · have d_306 := iEq c_305
        have i_307 := u_302 (by omega)
        replace hg := gt_pos (by first | exact d_306 | omega) hg
        exact (hp _ _ hR_287 hf_288 (by first | omega | (intro h; omega) | exact Or.inl rfl | exact Or.inr rfl) (by first | omega | (intro h; omega) | exact Or.inl rfl | exact Or.inr rfl) (by first | omega | (intro h; omega) | exact Or.inl rfl | exact Or.inr rfl) (by first | omega | (intro h; omega) | exact Or.inl rfl | exact Or.inr rfl) k_296 k_297 hg.symm)
      · have d_308 := iNe c_305
        have i_309 := u_301 (by omega)
        replace hg := gt_neg (by first | exact d_308 | omega) hg
        have g_310 : (0 : Int) ≤ (I_285 o 35).toInt ∧ (I_285 o 35).toInt ≤ 1 := hR_287.at0 ra 35 (by decide)
        replace hg := gt_let (y := (I_285 o 35).toInt) rfl hg
        have rk : (I_285 (o + 6) (I_285 o 35 : Int32).toNatClampNeg).toInt = (I0 (o + 6) (I0 o 35 : Int32).toNatClampNeg).toInt := by rw [w_298, hZ I_285 35 rfl hR_287]
        refine ⟨tIn (by omega) (by omega), ?_⟩
        have g_311 : (0 : Int) ≤ (I_285 (o + 6) ((I_285 o 35) : Int32).toNatClampNeg).toInt ∧ (I_285 (o + 6) ((I_285 o 35) : Int32).toNatClampNeg).toInt ≤ 24 := hR_287.at ra 6 _ (by decide)
        replace hg := gt_let (y := (I_285 (o + 6) ((I_285 o 35) : Int32).toNatClampNeg).toInt) rfl hg
        have a_312 : ((I_285 (o + 6) ((I_285 o 35) : Int32).toNatClampNeg) + 1).toInt = (I_285 (o + 6) ((I_285 o 35) : Int32).toNatClampNeg).toInt + (1 : Int32).toInt := tAdd (by omega) (by omega)
        replace hg := gt_let (y := (((I_285 (o + 6) ((I_285 o 35) : Int32).toNatClampNeg) + 1) : Int32).toInt) (by omega) hg
        refine ⟨tIn (by omega) (by omega), fun I_313 e_314 => ?_⟩
        replace hg := gt_let (y := tI I_313) (tI_q e_314) hg
        have hR_315 : RI R I_313 := hR_287.up ra 6 (by decide) (Or.inl rfl) e_314 (show (0 : Int) ≤ ((I_285 (o + 6) ((I_285 o 35) : Int32).toNatClampNeg) + 1).toInt by omega) (show ((I_285 (o + 6) ((I_285 o 35) : Int32).toNatClampNeg) + 1).toInt ≤ (24 : Int) by omega)
        have hf_316 : Fm (fun c => c = o ∨ c = o + 6 ∨ (o + 10 ≤ c ∧ c < o + 13)) I0 I_313 := hf_288.set (by first | rfl | omega | (dsimp only; omega)) e_314
        have t_317 : (I_313 o 3).toInt = (I_285 o 3).toInt := by rw [← e_314, q_u_ne (by omega)]
        have t_318 : (I_313 o 4).toInt = (I_285 o 4).toInt := by rw [← e_314, q_u_ne (by omega)]
        have t_319 : (I_313 o 6).toInt = (I_285 o 6).toInt := by rw [← e_314, q_u_ne (by omega)]
        have t_320 : (I_313 o 7).toInt = (I_285 o 7).toInt := by rw [← e_314, q_u_ne (by omega)]
        have t_321 : (I_313 o 8).toInt = (I_285 o 8).toInt := by rw [← e_314, q_u_ne (by omega)]
        have t_322 : (I_313 o 9).toInt = (I_285 o 9).toInt := by rw [← e_314, q_u_ne (by omega)]
        have t_323 : (I_313 o 35).toInt = (I_285 o 35).toInt := by rw [← e_314, q_u_ne (by omega)]
        have k_324 : MPo I_313 o := k_296.fr (by rw [← e_314, q_u_ne (by omega)]) (by rw [← e_314, q_u_ne (by omega)])
        have k_325 : MTk I_313 o := k_297.fr (by rw [← e_314, q_u_ne (by omega)]) (by rw [← e_314, q_u_ne (by omega)]) (by rw [← e_314, q_u_ne (by omega)])
        exact (hp _ _ hR_315 hf_316 (by first | omega | (intro h; omega) | exact Or.inl rfl | exact Or.inr rfl) (by first | omega | (intro h; omega) | exact Or.inl rfl | exact Or.inr rfl) (by first | omega | (intro h; omega) | exact Or.inl rfl | exact Or.inr rfl) (by first | omega | (intro h; omega) | exact Or.inl rfl | exact Or.inr rfl) k_324 k_325 hg.symm)
    · have d_326 := iEq c_199
      replace hg := gt_pos (by first | exact d_326 | omega) hg
      replace hg := gt_let (y := (I_46 o 9).toInt) rfl hg
      refine ⟨tIn (by omega) (by omega), ?_⟩
      have g_327 : (0 : Int) ≤ (I_46 (o + 10) (((24 * (I0 o 35)) + (I0 (o + 6) ((I0 o 35) : Int32).toNatClampNeg)) : Int32).toNatClampNeg).toInt ∧ (I_46 (o + 10) (((24 * (I0 o 35)) + (I0 (o + 6) ((I0 o 35) : Int32).toNatClampNeg)) : Int32).toNatClampNeg).toInt ≤ 15 := hR_48.at ra 10 _ (by decide)
      replace hg := gt_let (y := (I_46 (o + 10) (((24 * (I0 o 35)) + (I0 (o + 6) ((I0 o 35) : Int32).toNatClampNeg)) : Int32).toNatClampNeg).toInt) rfl hg
      refine ⟨fun c_328 => ?_, fun c_328 => ?_⟩
      · have d_329 := iNe c_328
        replace hg := gt_neg (by first | exact d_329 | omega) hg
        unfold fModel_readRoad_65
        replace hg := (eModel_readRoad_65).symm.trans hg
        refine y_Model_pointg hok hw ra hz14 hz15 hz16 hz17 hz18 hz19 (by first | omega | (intro h; omega) | exact Or.inl rfl | exact Or.inr rfl) k_57 k_58 hR_48 (fun r_330 I_339 L_340 hR_341 fr_342 kp_343 u_331 u_332 u_333 u_334 u_335 u_336 u_337 gn_338 => ⟨r_330, I_339, L_340, rfl, rfl, ?_⟩)
        replace hg := gt_b3 gn_338 hg
        clear gn_338
        have hf_344 : Fm (fun c => c = o ∨ c = o + 6 ∨ (o + 10 ≤ c ∧ c < o + 13)) I0 I_339 := hf_49.call fr_342 (fun c hc => by first | exact hc | (dsimp only at hc ⊢; omega) | omega)
        have t_345 : (I_339 o 3).toInt = (I_46 o 3).toInt := by rw [kp_343 3 rfl]
        have g_346 : (0 : Int) ≤ (I_339 o 4).toInt ∧ (I_339 o 4).toInt ≤ 5 := hR_341.at0 ra 4 (by decide)
        have g_347 : (0 : Int) ≤ (I_339 o 6).toInt ∧ (I_339 o 6).toInt ≤ 1600 := hR_341.at0 ra 6 (by decide)
        have g_348 : (0 : Int) ≤ (I_339 o 7).toInt ∧ (I_339 o 7).toInt ≤ 1601 := hR_341.at0 ra 7 (by decide)
        have g_349 : (0 : Int) ≤ (I_339 o 8).toInt ∧ (I_339 o 8).toInt ≤ 6 := hR_341.at0 ra 8 (by decide)
        have t_350 : (I_339 o 35).toInt = (I_46 o 35).toInt := by rw [kp_343 35 rfl]
        have s_351 : (I0 o 7).toInt ≤ (I_339 o 7).toInt := by omega
        have s_352 : (I0 o 4).toInt ≤ (I_339 o 4).toInt := by omega
        have s_353 : (I_339 o 7).toInt ≤ (I_339 o 3).toInt := by omega
        have s_354 : 7 * (I0 o 7).toInt - (I0 o 8).toInt + (I0 o 4).toInt ≤ 7 * (I_339 o 7).toInt - (I_339 o 8).toInt + (I_339 o 4).toInt := by omega
        clear s_33 s_34 s_35 s_36 t_37 g_38 g_39 g_40 g_41 g_42 t_43 g_44 t_50 t_51 t_52 t_53 t_54 t_55 t_56 t_345 g_346 g_347 g_348 g_349 t_350 u_332 u_333 u_334 u_335
        have t_355 : (I_339 o 3).toInt = (I0 o 3).toInt := by rw [hZ I_339 3 rfl hR_341]
        have g_356 : (0 : Int) ≤ (I_339 o 3).toInt ∧ (I_339 o 3).toInt ≤ 1600 := hR_341.at0 ra 3 (by decide)
        have g_357 : (0 : Int) ≤ (I_339 o 4).toInt ∧ (I_339 o 4).toInt ≤ 5 := hR_341.at0 ra 4 (by decide)
        have g_358 : (0 : Int) ≤ (I_339 o 6).toInt ∧ (I_339 o 6).toInt ≤ 1600 := hR_341.at0 ra 6 (by decide)
        have g_359 : (0 : Int) ≤ (I_339 o 7).toInt ∧ (I_339 o 7).toInt ≤ 1601 := hR_341.at0 ra 7 (by decide)
        have g_360 : (0 : Int) ≤ (I_339 o 8).toInt ∧ (I_339 o 8).toInt ≤ 6 := hR_341.at0 ra 8 (by decide)
        have t_361 : (I_339 o 35).toInt = (I0 o 35).toInt := by rw [hZ I_339 35 rfl hR_341]
        have g_362 : (0 : Int) ≤ (I_339 o 35).toInt ∧ (I_339 o 35).toInt ≤ 1 := hR_341.at0 ra 35 (by decide)
        have w_363 : I_339 (o + 6) = I0 (o + 6) := (fr_342 (o + 6) (by first | omega | (dsimp only; omega))).trans w_59
        refine ⟨tIn (by omega) (by omega), fun I_364 e_365 => ?_⟩
        replace hg := gt_let (y := tI I_364) (tI_q e_365) hg
        have hR_366 : RI R I_364 := hR_341.up ra 11 (by decide) (Or.inl rfl) e_365 (show (0 : Int) ≤ r_330.toInt by omega) (show r_330.toInt ≤ (15 : Int) by omega)
        have hf_367 : Fm (fun c => c = o ∨ c = o + 6 ∨ (o + 10 ≤ c ∧ c < o + 13)) I0 I_364 := hf_344.set (by first | rfl | omega | (dsimp only; omega)) e_365
        have t_368 : (I_364 o 3).toInt = (I_339 o 3).toInt := by rw [← e_365, q_u_ne (by omega)]
        have t_369 : (I_364 o 4).toInt = (I_339 o 4).toInt := by rw [← e_365, q_u_ne (by omega)]
        have t_370 : (I_364 o 6).toInt = (I_339 o 6).toInt := by rw [← e_365, q_u_ne (by omega)]
        have t_371 : (I_364 o 7).toInt = (I_339 o 7).toInt := by rw [← e_365, q_u_ne (by omega)]
        have t_372 : (I_364 o 8).toInt = (I_339 o 8).toInt := by rw [← e_365, q_u_ne (by omega)]
        have t_373 : (I_364 o 9).toInt = (I_339 o 9).toInt := by rw [← e_365, q_u_ne (by omega)]
        have t_374 : (I_364 o 35).toInt = (I_339 o 35).toInt := by rw [← e_365, q_u_ne (by omega)]
        have k_375 : MPo I_364 o := u_336.fr (by rw [← e_365, q_u_ne (by omega)]) (by rw [← e_365, q_u_ne (by omega)])
        have k_376 : MTk I_364 o := u_337.fr (by rw [← e_365, q_u_ne (by omega)]) (by rw [← e_365, q_u_ne (by omega)]) (by rw [← e_365, q_u_ne (by omega)])
        have w_377 : I_364 (o + 6) = I0 (o + 6) := by rw [← e_365, q_u_ne (by omega)]; exact w_363
        have l_378 : (1 : Int32).toInt = 1 := rfl
        have l_379 : (90 : Int32).toInt = 90 := rfl
        refine y_Model_numeralg hok hw ra hz14 hz15 hz16 hz17 hz18 hz19 (by first | omega | (intro h; omega) | exact Or.inl rfl | exact Or.inr rfl) k_375 k_376 hR_366 (fun r_380 I_389 L_390 hR_391 fr_392 kp_393 u_381 u_382 u_383 u_384 u_385 u_386 u_387 gn_388 => ⟨r_380, I_389, L_390, rfl, rfl, ?_⟩)
        replace hg := gt_b3 gn_388 hg
        clear gn_388
        have hf_394 : Fm (fun c => c = o ∨ c = o + 6 ∨ (o + 10 ≤ c ∧ c < o + 13)) I0 I_389 := hf_367.call fr_392 (fun c hc => by first | exact hc | (dsimp only at hc ⊢; omega) | omega)
        have t_395 : (I_389 o 3).toInt = (I_364 o 3).toInt := by rw [kp_393 3 rfl]
        have g_396 : (0 : Int) ≤ (I_389 o 4).toInt ∧ (I_389 o 4).toInt ≤ 5 := hR_391.at0 ra 4 (by decide)
        have g_397 : (0 : Int) ≤ (I_389 o 6).toInt ∧ (I_389 o 6).toInt ≤ 1600 := hR_391.at0 ra 6 (by decide)
        have g_398 : (0 : Int) ≤ (I_389 o 7).toInt ∧ (I_389 o 7).toInt ≤ 1601 := hR_391.at0 ra 7 (by decide)
        have g_399 : (0 : Int) ≤ (I_389 o 8).toInt ∧ (I_389 o 8).toInt ≤ 6 := hR_391.at0 ra 8 (by decide)
        have t_400 : (I_389 o 35).toInt = (I_364 o 35).toInt := by rw [kp_393 35 rfl]
        have s_401 : (I0 o 7).toInt ≤ (I_389 o 7).toInt := by omega
        have s_402 : (I0 o 4).toInt ≤ (I_389 o 4).toInt := by omega
        have s_403 : (I_389 o 7).toInt ≤ (I_389 o 3).toInt := by omega
        have s_404 : 7 * (I0 o 7).toInt - (I0 o 8).toInt + (I0 o 4).toInt ≤ 7 * (I_389 o 7).toInt - (I_389 o 8).toInt + (I_389 o 4).toInt := by omega
        clear s_351 s_352 s_353 s_354 t_355 g_356 g_357 g_358 g_359 g_360 t_361 g_362 t_368 t_369 t_370 t_371 t_372 t_373 t_374 t_395 g_396 g_397 g_398 g_399 t_400 u_381 u_382 u_383 u_384
        have t_405 : (I_389 o 3).toInt = (I0 o 3).toInt := by rw [hZ I_389 3 rfl hR_391]
        have g_406 : (0 : Int) ≤ (I_389 o 3).toInt ∧ (I_389 o 3).toInt ≤ 1600 := hR_391.at0 ra 3 (by decide)
        have g_407 : (0 : Int) ≤ (I_389 o 4).toInt ∧ (I_389 o 4).toInt ≤ 5 := hR_391.at0 ra 4 (by decide)
        have g_408 : (0 : Int) ≤ (I_389 o 6).toInt ∧ (I_389 o 6).toInt ≤ 1600 := hR_391.at0 ra 6 (by decide)
        have g_409 : (0 : Int) ≤ (I_389 o 7).toInt ∧ (I_389 o 7).toInt ≤ 1601 := hR_391.at0 ra 7 (by decide)
        have g_410 : (0 : Int) ≤ (I_389 o 8).toInt ∧ (I_389 o 8).toInt ≤ 6 := hR_391.at0 ra 8 (by decide)
        have t_411 : (I_389 o 35).toInt = (I0 o 35).toInt := by rw [hZ I_389 35 rfl hR_391]
        have g_412 : (0 : Int) ≤ (I_389 o 35).toInt ∧ (I_389 o 35).toInt ≤ 1 := hR_391.at0 ra 35 (by decide)
        have w_413 : I_389 (o + 6) = I0 (o + 6) := (fr_392 (o + 6) (by first | omega | (dsimp only; omega))).trans w_377
        refine ⟨tIn (by omega) (by omega), fun I_414 e_415 => ?_⟩
        replace hg := gt_let (y := tI I_414) (tI_q e_415) hg
        have hR_416 : RI R I_414 := hR_391.up ra 12 (by decide) (Or.inl rfl) e_415 (i_lo _) (i_hi _)
        have hf_417 : Fm (fun c => c = o ∨ c = o + 6 ∨ (o + 10 ≤ c ∧ c < o + 13)) I0 I_414 := hf_394.set (by first | rfl | omega | (dsimp only; omega)) e_415
        have t_418 : (I_414 o 3).toInt = (I_389 o 3).toInt := by rw [← e_415, q_u_ne (by omega)]
        have t_419 : (I_414 o 4).toInt = (I_389 o 4).toInt := by rw [← e_415, q_u_ne (by omega)]
        have t_420 : (I_414 o 6).toInt = (I_389 o 6).toInt := by rw [← e_415, q_u_ne (by omega)]
        have t_421 : (I_414 o 7).toInt = (I_389 o 7).toInt := by rw [← e_415, q_u_ne (by omega)]
        have t_422 : (I_414 o 8).toInt = (I_389 o 8).toInt := by rw [← e_415, q_u_ne (by omega)]
        have t_423 : (I_414 o 9).toInt = (I_389 o 9).toInt := by rw [← e_415, q_u_ne (by omega)]
        have t_424 : (I_414 o 35).toInt = (I_389 o 35).toInt := by rw [← e_415, q_u_ne (by omega)]
        have k_425 : MPo I_414 o := u_386.fr (by rw [← e_415, q_u_ne (by omega)]) (by rw [← e_415, q_u_ne (by omega)])
        have k_426 : MTk I_414 o := u_387.fr (by rw [← e_415, q_u_ne (by omega)]) (by rw [← e_415, q_u_ne (by omega)]) (by rw [← e_415, q_u_ne (by omega)])
        have w_427 : I_414 (o + 6) = I0 (o + 6) := by rw [← e_415, q_u_ne (by omega)]; exact w_413
        refine y_Model_isGoodg hok hw ra hR_416 (fun r_428 u_429 u_430 u_431 gn_432 => ⟨r_428, I_414, L_390, rfl, rfl, ?_⟩)
        replace hg := gt_let gn_432 hg
        clear gn_432
        have b_433 : 0 ≤ r_428.toInt ∧ r_428.toInt ≤ 1 := u_429.rg
        refine ⟨fun c_434 => ?_, fun c_434 => ?_⟩
        · have d_435 := iEq c_434
          have i_436 := u_431 (by omega)
          replace hg := gt_pos (by first | exact d_435 | omega) hg
          exact (hp _ _ hR_416 hf_417 (by first | omega | (intro h; omega) | exact Or.inl rfl | exact Or.inr rfl) (by first | omega | (intro h; omega) | exact Or.inl rfl | exact Or.inr rfl) (by first | omega | (intro h; omega) | exact Or.inl rfl | exact Or.inr rfl) (by first | omega | (intro h; omega) | exact Or.inl rfl | exact Or.inr rfl) k_425 k_426 hg.symm)
        · have d_437 := iNe c_434
          have i_438 := u_430 (by omega)
          replace hg := gt_neg (by first | exact d_437 | omega) hg
          have g_439 : (0 : Int) ≤ (I_414 o 35).toInt ∧ (I_414 o 35).toInt ≤ 1 := hR_416.at0 ra 35 (by decide)
          replace hg := gt_let (y := (I_414 o 35).toInt) rfl hg
          have rk : (I_414 (o + 6) (I_414 o 35 : Int32).toNatClampNeg).toInt = (I0 (o + 6) (I0 o 35 : Int32).toNatClampNeg).toInt := by rw [w_427, hZ I_414 35 rfl hR_416]
          refine ⟨tIn (by omega) (by omega), ?_⟩
          have g_440 : (0 : Int) ≤ (I_414 (o + 6) ((I_414 o 35) : Int32).toNatClampNeg).toInt ∧ (I_414 (o + 6) ((I_414 o 35) : Int32).toNatClampNeg).toInt ≤ 24 := hR_416.at ra 6 _ (by decide)
          replace hg := gt_let (y := (I_414 (o + 6) ((I_414 o 35) : Int32).toNatClampNeg).toInt) rfl hg
          have a_441 : ((I_414 (o + 6) ((I_414 o 35) : Int32).toNatClampNeg) + 1).toInt = (I_414 (o + 6) ((I_414 o 35) : Int32).toNatClampNeg).toInt + (1 : Int32).toInt := tAdd (by omega) (by omega)
          replace hg := gt_let (y := (((I_414 (o + 6) ((I_414 o 35) : Int32).toNatClampNeg) + 1) : Int32).toInt) (by omega) hg
          refine ⟨tIn (by omega) (by omega), fun I_442 e_443 => ?_⟩
          replace hg := gt_let (y := tI I_442) (tI_q e_443) hg
          have hR_444 : RI R I_442 := hR_416.up ra 6 (by decide) (Or.inl rfl) e_443 (show (0 : Int) ≤ ((I_414 (o + 6) ((I_414 o 35) : Int32).toNatClampNeg) + 1).toInt by omega) (show ((I_414 (o + 6) ((I_414 o 35) : Int32).toNatClampNeg) + 1).toInt ≤ (24 : Int) by omega)
          have hf_445 : Fm (fun c => c = o ∨ c = o + 6 ∨ (o + 10 ≤ c ∧ c < o + 13)) I0 I_442 := hf_417.set (by first | rfl | omega | (dsimp only; omega)) e_443
          have t_446 : (I_442 o 3).toInt = (I_414 o 3).toInt := by rw [← e_443, q_u_ne (by omega)]
          have t_447 : (I_442 o 4).toInt = (I_414 o 4).toInt := by rw [← e_443, q_u_ne (by omega)]
          have t_448 : (I_442 o 6).toInt = (I_414 o 6).toInt := by rw [← e_443, q_u_ne (by omega)]
          have t_449 : (I_442 o 7).toInt = (I_414 o 7).toInt := by rw [← e_443, q_u_ne (by omega)]
          have t_450 : (I_442 o 8).toInt = (I_414 o 8).toInt := by rw [← e_443, q_u_ne (by omega)]
          have t_451 : (I_442 o 9).toInt = (I_414 o 9).toInt := by rw [← e_443, q_u_ne (by omega)]
          have t_452 : (I_442 o 35).toInt = (I_414 o 35).toInt := by rw [← e_443, q_u_ne (by omega)]
          have k_453 : MPo I_442 o := k_425.fr (by rw [← e_443, q_u_ne (by omega)]) (by rw [← e_443, q_u_ne (by omega)])
          have k_454 : MTk I_442 o := k_426.fr (by rw [← e_443, q_u_ne (by omega)]) (by rw [← e_443, q_u_ne (by omega)]) (by rw [← e_443, q_u_ne (by omega)])
          exact (hp _ _ hR_444 hf_445 (by first | omega | (intro h; omega) | exact Or.inl rfl | exact Or.inr rfl) (by first | omega | (intro h; omega) | exact Or.inl rfl | exact Or.inr rfl) (by first | omega | (intro h; omega) | exact Or.inl rfl | exact Or.inr rfl) (by first | omega | (intro h; omega) | exact Or.inl rfl | exact Or.inr rfl) k_453 k_454 hg.symm)
      · have d_455 := iEq c_328
        replace hg := gt_pos (by first | exact d_455 | omega) hg
        have g_456 : (0 : Int) ≤ (I_46 o 6).toInt ∧ (I_46 o 6).toInt ≤ 1600 := hR_48.at0 ra 6 (by decide)
        replace hg := gt_let (y := (I_46 o 6).toInt) rfl hg
        have l_457 : (4 : Int32).toInt = 4 := rfl
        refine y_Model_failsg hok hw ra hz14 hz15 (by first | omega | (intro h; omega) | exact Or.inl rfl | exact Or.inr rfl) hR_48 (fun I_462 L_463 hR_464 fr_465 kp_466 u_459 u_460 gn_461 => ⟨I_462, L_463, rfl, rfl, ?_⟩)
        replace hg := gt_b3 gn_461 hg
        clear gn_461
        have hf_467 : Fm (fun c => c = o ∨ c = o + 6 ∨ (o + 10 ≤ c ∧ c < o + 13)) I0 I_462 := hf_49.call fr_465 (fun c hc => by first | exact hc | (dsimp only at hc ⊢; omega) | omega)
        have t_468 : (I_462 o 3).toInt = (I_46 o 3).toInt := by rw [kp_466 3 rfl]
        have g_469 : (0 : Int) ≤ (I_462 o 4).toInt ∧ (I_462 o 4).toInt ≤ 5 := hR_464.at0 ra 4 (by decide)
        have t_470 : (I_462 o 6).toInt = (I_46 o 6).toInt := by rw [kp_466 6 rfl]
        have t_471 : (I_462 o 7).toInt = (I_46 o 7).toInt := by rw [kp_466 7 rfl]
        have t_472 : (I_462 o 8).toInt = (I_46 o 8).toInt := by rw [kp_466 8 rfl]
        have t_473 : (I_462 o 9).toInt = (I_46 o 9).toInt := by rw [kp_466 9 rfl]
        have t_474 : (I_462 o 35).toInt = (I_46 o 35).toInt := by rw [kp_466 35 rfl]
        have s_475 : (I0 o 7).toInt ≤ (I_462 o 7).toInt := by omega
        have s_476 : (I0 o 4).toInt ≤ (I_462 o 4).toInt := by omega
        have s_477 : (I_462 o 7).toInt ≤ (I_462 o 3).toInt := by omega
        have s_478 : 7 * (I0 o 7).toInt - (I0 o 8).toInt + (I0 o 4).toInt ≤ 7 * (I_462 o 7).toInt - (I_462 o 8).toInt + (I_462 o 4).toInt := by omega
        clear s_33 s_34 s_35 s_36 t_37 g_38 g_39 g_40 g_41 g_42 t_43 g_44 t_50 t_51 t_52 t_53 t_54 t_55 t_56 t_468 g_469 t_470 t_471 t_472 t_473 t_474 u_459 u_460
        have t_479 : (I_462 o 3).toInt = (I0 o 3).toInt := by rw [hZ I_462 3 rfl hR_464]
        have g_480 : (0 : Int) ≤ (I_462 o 3).toInt ∧ (I_462 o 3).toInt ≤ 1600 := hR_464.at0 ra 3 (by decide)
        have g_481 : (0 : Int) ≤ (I_462 o 4).toInt ∧ (I_462 o 4).toInt ≤ 5 := hR_464.at0 ra 4 (by decide)
        have g_482 : (0 : Int) ≤ (I_462 o 6).toInt ∧ (I_462 o 6).toInt ≤ 1600 := hR_464.at0 ra 6 (by decide)
        have g_483 : (0 : Int) ≤ (I_462 o 7).toInt ∧ (I_462 o 7).toInt ≤ 1601 := hR_464.at0 ra 7 (by decide)
        have g_484 : (0 : Int) ≤ (I_462 o 8).toInt ∧ (I_462 o 8).toInt ≤ 6 := hR_464.at0 ra 8 (by decide)
        have t_485 : (I_462 o 35).toInt = (I0 o 35).toInt := by rw [hZ I_462 35 rfl hR_464]
        have g_486 : (0 : Int) ≤ (I_462 o 35).toInt ∧ (I_462 o 35).toInt ≤ 1 := hR_464.at0 ra 35 (by decide)
        have k_487 : MPo I_462 o := k_57.fr (kp_466 8 rfl) (kp_466 9 rfl)
        have k_488 : MTk I_462 o := k_58.fr (kp_466 6 rfl) (kp_466 7 rfl) (kp_466 8 rfl)
        have w_489 : I_462 (o + 6) = I0 (o + 6) := (fr_465 (o + 6) (by first | omega | (dsimp only; omega))).trans w_59
        unfold fModel_readRoad_65
        replace hg := (eModel_readRoad_65).symm.trans hg
        refine y_Model_pointg hok hw ra hz14 hz15 hz16 hz17 hz18 hz19 (by first | omega | (intro h; omega) | exact Or.inl rfl | exact Or.inr rfl) k_487 k_488 hR_464 (fun r_490 I_499 L_500 hR_501 fr_502 kp_503 u_491 u_492 u_493 u_494 u_495 u_496 u_497 gn_498 => ⟨r_490, I_499, L_500, rfl, rfl, ?_⟩)
        replace hg := gt_b3 gn_498 hg
        clear gn_498
        have hf_504 : Fm (fun c => c = o ∨ c = o + 6 ∨ (o + 10 ≤ c ∧ c < o + 13)) I0 I_499 := hf_467.call fr_502 (fun c hc => by first | exact hc | (dsimp only at hc ⊢; omega) | omega)
        have t_505 : (I_499 o 3).toInt = (I_462 o 3).toInt := by rw [kp_503 3 rfl]
        have g_506 : (0 : Int) ≤ (I_499 o 4).toInt ∧ (I_499 o 4).toInt ≤ 5 := hR_501.at0 ra 4 (by decide)
        have g_507 : (0 : Int) ≤ (I_499 o 6).toInt ∧ (I_499 o 6).toInt ≤ 1600 := hR_501.at0 ra 6 (by decide)
        have g_508 : (0 : Int) ≤ (I_499 o 7).toInt ∧ (I_499 o 7).toInt ≤ 1601 := hR_501.at0 ra 7 (by decide)
        have g_509 : (0 : Int) ≤ (I_499 o 8).toInt ∧ (I_499 o 8).toInt ≤ 6 := hR_501.at0 ra 8 (by decide)
        have t_510 : (I_499 o 35).toInt = (I_462 o 35).toInt := by rw [kp_503 35 rfl]
        have s_511 : (I0 o 7).toInt ≤ (I_499 o 7).toInt := by omega
        have s_512 : (I0 o 4).toInt ≤ (I_499 o 4).toInt := by omega
        have s_513 : (I_499 o 7).toInt ≤ (I_499 o 3).toInt := by omega
        have s_514 : 7 * (I0 o 7).toInt - (I0 o 8).toInt + (I0 o 4).toInt ≤ 7 * (I_499 o 7).toInt - (I_499 o 8).toInt + (I_499 o 4).toInt := by omega
        clear s_475 s_476 s_477 s_478 t_479 g_480 g_481 g_482 g_483 g_484 t_485 g_486 t_505 g_506 g_507 g_508 g_509 t_510 u_492 u_493 u_494 u_495
        have t_515 : (I_499 o 3).toInt = (I0 o 3).toInt := by rw [hZ I_499 3 rfl hR_501]
        have g_516 : (0 : Int) ≤ (I_499 o 3).toInt ∧ (I_499 o 3).toInt ≤ 1600 := hR_501.at0 ra 3 (by decide)
        have g_517 : (0 : Int) ≤ (I_499 o 4).toInt ∧ (I_499 o 4).toInt ≤ 5 := hR_501.at0 ra 4 (by decide)
        have g_518 : (0 : Int) ≤ (I_499 o 6).toInt ∧ (I_499 o 6).toInt ≤ 1600 := hR_501.at0 ra 6 (by decide)
        have g_519 : (0 : Int) ≤ (I_499 o 7).toInt ∧ (I_499 o 7).toInt ≤ 1601 := hR_501.at0 ra 7 (by decide)
        have g_520 : (0 : Int) ≤ (I_499 o 8).toInt ∧ (I_499 o 8).toInt ≤ 6 := hR_501.at0 ra 8 (by decide)
        have t_521 : (I_499 o 35).toInt = (I0 o 35).toInt := by rw [hZ I_499 35 rfl hR_501]
        have g_522 : (0 : Int) ≤ (I_499 o 35).toInt ∧ (I_499 o 35).toInt ≤ 1 := hR_501.at0 ra 35 (by decide)
        have w_523 : I_499 (o + 6) = I0 (o + 6) := (fr_502 (o + 6) (by first | omega | (dsimp only; omega))).trans w_489
        refine ⟨tIn (by omega) (by omega), fun I_524 e_525 => ?_⟩
        replace hg := gt_let (y := tI I_524) (tI_q e_525) hg
        have hR_526 : RI R I_524 := hR_501.up ra 11 (by decide) (Or.inl rfl) e_525 (show (0 : Int) ≤ r_490.toInt by omega) (show r_490.toInt ≤ (15 : Int) by omega)
        have hf_527 : Fm (fun c => c = o ∨ c = o + 6 ∨ (o + 10 ≤ c ∧ c < o + 13)) I0 I_524 := hf_504.set (by first | rfl | omega | (dsimp only; omega)) e_525
        have t_528 : (I_524 o 3).toInt = (I_499 o 3).toInt := by rw [← e_525, q_u_ne (by omega)]
        have t_529 : (I_524 o 4).toInt = (I_499 o 4).toInt := by rw [← e_525, q_u_ne (by omega)]
        have t_530 : (I_524 o 6).toInt = (I_499 o 6).toInt := by rw [← e_525, q_u_ne (by omega)]
        have t_531 : (I_524 o 7).toInt = (I_499 o 7).toInt := by rw [← e_525, q_u_ne (by omega)]
        have t_532 : (I_524 o 8).toInt = (I_499 o 8).toInt := by rw [← e_525, q_u_ne (by omega)]
        have t_533 : (I_524 o 9).toInt = (I_499 o 9).toInt := by rw [← e_525, q_u_ne (by omega)]
        have t_534 : (I_524 o 35).toInt = (I_499 o 35).toInt := by rw [← e_525, q_u_ne (by omega)]
        have k_535 : MPo I_524 o := u_496.fr (by rw [← e_525, q_u_ne (by omega)]) (by rw [← e_525, q_u_ne (by omega)])
        have k_536 : MTk I_524 o := u_497.fr (by rw [← e_525, q_u_ne (by omega)]) (by rw [← e_525, q_u_ne (by omega)]) (by rw [← e_525, q_u_ne (by omega)])
        have w_537 : I_524 (o + 6) = I0 (o + 6) := by rw [← e_525, q_u_ne (by omega)]; exact w_523
        have l_538 : (1 : Int32).toInt = 1 := rfl
        have l_539 : (90 : Int32).toInt = 90 := rfl
        refine y_Model_numeralg hok hw ra hz14 hz15 hz16 hz17 hz18 hz19 (by first | omega | (intro h; omega) | exact Or.inl rfl | exact Or.inr rfl) k_535 k_536 hR_526 (fun r_540 I_549 L_550 hR_551 fr_552 kp_553 u_541 u_542 u_543 u_544 u_545 u_546 u_547 gn_548 => ⟨r_540, I_549, L_550, rfl, rfl, ?_⟩)
        replace hg := gt_b3 gn_548 hg
        clear gn_548
        have hf_554 : Fm (fun c => c = o ∨ c = o + 6 ∨ (o + 10 ≤ c ∧ c < o + 13)) I0 I_549 := hf_527.call fr_552 (fun c hc => by first | exact hc | (dsimp only at hc ⊢; omega) | omega)
        have t_555 : (I_549 o 3).toInt = (I_524 o 3).toInt := by rw [kp_553 3 rfl]
        have g_556 : (0 : Int) ≤ (I_549 o 4).toInt ∧ (I_549 o 4).toInt ≤ 5 := hR_551.at0 ra 4 (by decide)
        have g_557 : (0 : Int) ≤ (I_549 o 6).toInt ∧ (I_549 o 6).toInt ≤ 1600 := hR_551.at0 ra 6 (by decide)
        have g_558 : (0 : Int) ≤ (I_549 o 7).toInt ∧ (I_549 o 7).toInt ≤ 1601 := hR_551.at0 ra 7 (by decide)
        have g_559 : (0 : Int) ≤ (I_549 o 8).toInt ∧ (I_549 o 8).toInt ≤ 6 := hR_551.at0 ra 8 (by decide)
        have t_560 : (I_549 o 35).toInt = (I_524 o 35).toInt := by rw [kp_553 35 rfl]
        have s_561 : (I0 o 7).toInt ≤ (I_549 o 7).toInt := by omega
        have s_562 : (I0 o 4).toInt ≤ (I_549 o 4).toInt := by omega
        have s_563 : (I_549 o 7).toInt ≤ (I_549 o 3).toInt := by omega
        have s_564 : 7 * (I0 o 7).toInt - (I0 o 8).toInt + (I0 o 4).toInt ≤ 7 * (I_549 o 7).toInt - (I_549 o 8).toInt + (I_549 o 4).toInt := by omega
        clear s_511 s_512 s_513 s_514 t_515 g_516 g_517 g_518 g_519 g_520 t_521 g_522 t_528 t_529 t_530 t_531 t_532 t_533 t_534 t_555 g_556 g_557 g_558 g_559 t_560 u_541 u_542 u_543 u_544
        have t_565 : (I_549 o 3).toInt = (I0 o 3).toInt := by rw [hZ I_549 3 rfl hR_551]
        have g_566 : (0 : Int) ≤ (I_549 o 3).toInt ∧ (I_549 o 3).toInt ≤ 1600 := hR_551.at0 ra 3 (by decide)
        have g_567 : (0 : Int) ≤ (I_549 o 4).toInt ∧ (I_549 o 4).toInt ≤ 5 := hR_551.at0 ra 4 (by decide)
        have g_568 : (0 : Int) ≤ (I_549 o 6).toInt ∧ (I_549 o 6).toInt ≤ 1600 := hR_551.at0 ra 6 (by decide)
        have g_569 : (0 : Int) ≤ (I_549 o 7).toInt ∧ (I_549 o 7).toInt ≤ 1601 := hR_551.at0 ra 7 (by decide)
        have g_570 : (0 : Int) ≤ (I_549 o 8).toInt ∧ (I_549 o 8).toInt ≤ 6 := hR_551.at0 ra 8 (by decide)
        have t_571 : (I_549 o 35).toInt = (I0 o 35).toInt := by rw [hZ I_549 35 rfl hR_551]
        have g_572 : (0 : Int) ≤ (I_549 o 35).toInt ∧ (I_549 o 35).toInt ≤ 1 := hR_551.at0 ra 35 (by decide)
        have w_573 : I_549 (o + 6) = I0 (o + 6) := (fr_552 (o + 6) (by first | omega | (dsimp only; omega))).trans w_537
        refine ⟨tIn (by omega) (by omega), fun I_574 e_575 => ?_⟩
        replace hg := gt_let (y := tI I_574) (tI_q e_575) hg
        have hR_576 : RI R I_574 := hR_551.up ra 12 (by decide) (Or.inl rfl) e_575 (i_lo _) (i_hi _)
        have hf_577 : Fm (fun c => c = o ∨ c = o + 6 ∨ (o + 10 ≤ c ∧ c < o + 13)) I0 I_574 := hf_554.set (by first | rfl | omega | (dsimp only; omega)) e_575
        have t_578 : (I_574 o 3).toInt = (I_549 o 3).toInt := by rw [← e_575, q_u_ne (by omega)]
        have t_579 : (I_574 o 4).toInt = (I_549 o 4).toInt := by rw [← e_575, q_u_ne (by omega)]
        have t_580 : (I_574 o 6).toInt = (I_549 o 6).toInt := by rw [← e_575, q_u_ne (by omega)]
        have t_581 : (I_574 o 7).toInt = (I_549 o 7).toInt := by rw [← e_575, q_u_ne (by omega)]
        have t_582 : (I_574 o 8).toInt = (I_549 o 8).toInt := by rw [← e_575, q_u_ne (by omega)]
        have t_583 : (I_574 o 9).toInt = (I_549 o 9).toInt := by rw [← e_575, q_u_ne (by omega)]
        have t_584 : (I_574 o 35).toInt = (I_549 o 35).toInt := by rw [← e_575, q_u_ne (by omega)]
        have k_585 : MPo I_574 o := u_546.fr (by rw [← e_575, q_u_ne (by omega)]) (by rw [← e_575, q_u_ne (by omega)])
        have k_586 : MTk I_574 o := u_547.fr (by rw [← e_575, q_u_ne (by omega)]) (by rw [← e_575, q_u_ne (by omega)]) (by rw [← e_575, q_u_ne (by omega)])
        have w_587 : I_574 (o + 6) = I0 (o + 6) := by rw [← e_575, q_u_ne (by omega)]; exact w_573
        refine y_Model_isGoodg hok hw ra hR_576 (fun r_588 u_589 u_590 u_591 gn_592 => ⟨r_588, I_574, L_550, rfl, rfl, ?_⟩)
        replace hg := gt_let gn_592 hg
        clear gn_592
        have b_593 : 0 ≤ r_588.toInt ∧ r_588.toInt ≤ 1 := u_589.rg
        refine ⟨fun c_594 => ?_, fun c_594 => ?_⟩
        · have d_595 := iEq c_594
          have i_596 := u_591 (by omega)
          replace hg := gt_pos (by first | exact d_595 | omega) hg
          exact (hp _ _ hR_576 hf_577 (by first | omega | (intro h; omega) | exact Or.inl rfl | exact Or.inr rfl) (by first | omega | (intro h; omega) | exact Or.inl rfl | exact Or.inr rfl) (by first | omega | (intro h; omega) | exact Or.inl rfl | exact Or.inr rfl) (by first | omega | (intro h; omega) | exact Or.inl rfl | exact Or.inr rfl) k_585 k_586 hg.symm)
        · have d_597 := iNe c_594
          have i_598 := u_590 (by omega)
          replace hg := gt_neg (by first | exact d_597 | omega) hg
          have g_599 : (0 : Int) ≤ (I_574 o 35).toInt ∧ (I_574 o 35).toInt ≤ 1 := hR_576.at0 ra 35 (by decide)
          replace hg := gt_let (y := (I_574 o 35).toInt) rfl hg
          have rk : (I_574 (o + 6) (I_574 o 35 : Int32).toNatClampNeg).toInt = (I0 (o + 6) (I0 o 35 : Int32).toNatClampNeg).toInt := by rw [w_587, hZ I_574 35 rfl hR_576]
          refine ⟨tIn (by omega) (by omega), ?_⟩
          have g_600 : (0 : Int) ≤ (I_574 (o + 6) ((I_574 o 35) : Int32).toNatClampNeg).toInt ∧ (I_574 (o + 6) ((I_574 o 35) : Int32).toNatClampNeg).toInt ≤ 24 := hR_576.at ra 6 _ (by decide)
          replace hg := gt_let (y := (I_574 (o + 6) ((I_574 o 35) : Int32).toNatClampNeg).toInt) rfl hg
          have a_601 : ((I_574 (o + 6) ((I_574 o 35) : Int32).toNatClampNeg) + 1).toInt = (I_574 (o + 6) ((I_574 o 35) : Int32).toNatClampNeg).toInt + (1 : Int32).toInt := tAdd (by omega) (by omega)
          replace hg := gt_let (y := (((I_574 (o + 6) ((I_574 o 35) : Int32).toNatClampNeg) + 1) : Int32).toInt) (by omega) hg
          refine ⟨tIn (by omega) (by omega), fun I_602 e_603 => ?_⟩
          replace hg := gt_let (y := tI I_602) (tI_q e_603) hg
          have hR_604 : RI R I_602 := hR_576.up ra 6 (by decide) (Or.inl rfl) e_603 (show (0 : Int) ≤ ((I_574 (o + 6) ((I_574 o 35) : Int32).toNatClampNeg) + 1).toInt by omega) (show ((I_574 (o + 6) ((I_574 o 35) : Int32).toNatClampNeg) + 1).toInt ≤ (24 : Int) by omega)
          have hf_605 : Fm (fun c => c = o ∨ c = o + 6 ∨ (o + 10 ≤ c ∧ c < o + 13)) I0 I_602 := hf_577.set (by first | rfl | omega | (dsimp only; omega)) e_603
          have t_606 : (I_602 o 3).toInt = (I_574 o 3).toInt := by rw [← e_603, q_u_ne (by omega)]
          have t_607 : (I_602 o 4).toInt = (I_574 o 4).toInt := by rw [← e_603, q_u_ne (by omega)]
          have t_608 : (I_602 o 6).toInt = (I_574 o 6).toInt := by rw [← e_603, q_u_ne (by omega)]
          have t_609 : (I_602 o 7).toInt = (I_574 o 7).toInt := by rw [← e_603, q_u_ne (by omega)]
          have t_610 : (I_602 o 8).toInt = (I_574 o 8).toInt := by rw [← e_603, q_u_ne (by omega)]
          have t_611 : (I_602 o 9).toInt = (I_574 o 9).toInt := by rw [← e_603, q_u_ne (by omega)]
          have t_612 : (I_602 o 35).toInt = (I_574 o 35).toInt := by rw [← e_603, q_u_ne (by omega)]
          have k_613 : MPo I_602 o := k_585.fr (by rw [← e_603, q_u_ne (by omega)]) (by rw [← e_603, q_u_ne (by omega)])
          have k_614 : MTk I_602 o := k_586.fr (by rw [← e_603, q_u_ne (by omega)]) (by rw [← e_603, q_u_ne (by omega)]) (by rw [← e_603, q_u_ne (by omega)])
          exact (hp _ _ hR_604 hf_605 (by first | omega | (intro h; omega) | exact Or.inl rfl | exact Or.inr rfl) (by first | omega | (intro h; omega) | exact Or.inl rfl | exact Or.inr rfl) (by first | omega | (intro h; omega) | exact Or.inl rfl | exact Or.inr rfl) (by first | omega | (intro h; omega) | exact Or.inl rfl | exact Or.inr rfl) k_613 k_614 hg.symm)
theorem y_Model_readRoadg {D : va_G} {cA : FieldType → ClassId} {b : Nat} {E : State → Prop} {R : qRg} {o n : Nat} {sh : Nat → qC} {Rf : Nat → Nat → Option Nat} {I0 : Nat → Nat → Int32} {L0 : Nat → Nat → Int64} {post : Option Value → qS → Prop} (hok : q_ok (qGG D cA b E)) (hw : WfModel (qGG D cA b E) n sh Rf o) (ra : RAModel R o) (hz14 : R.2 14 = true) (hz15 : R.2 15 = true) (hz16 : R.2 16 = true) (hz17 : R.2 17 = true) (hz18 : R.2 18 = true) (hz19 : R.2 19 = true) (hq0 : (I0 o 7).toInt ≤ (I0 o 3).toInt) (hq1 : (I0 (o + 6) (I0 o 35 : Int32).toNatClampNeg).toInt ≤ 23) (hq2 : MPo I0 o) (hq3 : MTk I0 o) (hR : RI R I0) (hp : ∀ (I' : Nat → Nat → Int32) (L' : Nat → Nat → Int64), RI R I' → Fm (fun c => c = o ∨ c = o + 6 ∨ (o + 10 ≤ c ∧ c < o + 13)) I0 I' → Kp wModel_readRoad I0 I' o → ((I' o 7).toInt ≤ (I' o 3).toInt) → ((I0 o 7).toInt ≤ (I' o 7).toInt) → ((I0 o 4).toInt ≤ (I' o 4).toInt) → (7 * (I0 o 7).toInt - (I0 o 8).toInt + (I0 o 4).toInt ≤ 7 * (I' o 7).toInt - (I' o 8).toInt + (I' o 4).toInt) → (MPo I' o) → (MTk I' o) → (gModel_readRoad_0 o (tI I0) L0 = (0, tI I', L')) → post none (n, sh, Rf, I', L')) : Ev (qGG D cA b E) mModel_readRoad 5 (0, 0) 0 (lv_args 0 [.ref o]) [] (n, sh, Rf, I0, L0) post :=
  yc_Model_readRoadg (R := fzR R I0 o wModel_readRoad) hok hw (fzA ra hR _) (fzT hz14 rfl) (fzT hz15 rfl) (fzT hz16 rfl) (fzT hz17 rfl) (fzT hz18 rfl) (fzT hz19 rfl) fzZ (fzI hR) hq0 hq1 hq2 hq3 (fzI hR) (fun I' L' h1 h2 u0 u1 u2 u3 u4 u5 ug => hp I' L' (fzB hR h1) h2 (fzP h1) u0 u1 u2 u3 u4 u5 ug)
noncomputable def gModel_readFort_0 (o : Nat) (J : gJ) (L : gL) : Int × gJ × gL := gLet (J o 35) (fun (v_1 : Int) => gLet (3 * v_1) (fun (v_2 : Int) => gLet (J o 35) (fun (v_3 : Int) => gLet (J (o + 7) (Int.toNat v_3)) (fun (v_4 : Int) => gLet (v_2 + v_4) (fun (v_5 : Int) => gB3 (gModel_newName_0 o J L) (fun r_6 J_7 L_8 => gLet (q_u L_8 (o + 3) (Int.toNat v_5) r_6) (fun (L_9 : gL) => gB3 (gModel_point_0 o J_7 L_9) (fun r_10 J_11 L_12 => gLet (q_u J_11 (o + 13) (Int.toNat v_5) r_10) (fun (J_13 : gJ) => gLet (gModel_isWord_0 o J_13 L_12 1700885619) (fun (r_14 : Int) => gB3 (gModel_must_0 o J_13 L_12 r_14) (fun r_15 J_16 L_17 => gB3 (gModel_numeral_0 o J_16 L_17 0 999) (fun r_18 J_19 L_20 => gLet (q_u J_19 (o + 14) (Int.toNat v_5) r_18) (fun (J_21 : gJ) => gLet (gModel_isWord_0 o J_21 L_20 495874699877) (fun (r_22 : Int) => gB3 (gModel_must_0 o J_21 L_20 r_22) (fun r_23 J_24 L_25 => gB3 (gModel_numeral_0 o J_24 L_25 0 9999) (fun r_26 J_27 L_28 => gLet (q_u J_27 (o + 15) (Int.toNat v_5) r_26) (fun (J_29 : gJ) => gLet (gModel_isGood_0 o J_29 L_28) (fun (r_30 : Int) => (if r_30 = 0 then (0, J_29, L_28) else gLet (J_29 o 35) (fun (v_31 : Int) => gLet (J_29 (o + 7) (Int.toNat v_31)) (fun (v_32 : Int) => gLet (v_32 + 1) (fun (v_33 : Int) => gLet (q_u J_29 (o + 7) (Int.toNat v_31) v_33) (fun (J_34 : gJ) => (0, J_34, L_28))))))))))))))))))))))))
theorem eModel_readFort_0 {o : Nat} {J : gJ} {L : gL} : gModel_readFort_0 o J L  = gLet (J o 35) (fun (v_1 : Int) => gLet (3 * v_1) (fun (v_2 : Int) => gLet (J o 35) (fun (v_3 : Int) => gLet (J (o + 7) (Int.toNat v_3)) (fun (v_4 : Int) => gLet (v_2 + v_4) (fun (v_5 : Int) => gB3 (gModel_newName_0 o J L) (fun r_6 J_7 L_8 => gLet (q_u L_8 (o + 3) (Int.toNat v_5) r_6) (fun (L_9 : gL) => gB3 (gModel_point_0 o J_7 L_9) (fun r_10 J_11 L_12 => gLet (q_u J_11 (o + 13) (Int.toNat v_5) r_10) (fun (J_13 : gJ) => gLet (gModel_isWord_0 o J_13 L_12 1700885619) (fun (r_14 : Int) => gB3 (gModel_must_0 o J_13 L_12 r_14) (fun r_15 J_16 L_17 => gB3 (gModel_numeral_0 o J_16 L_17 0 999) (fun r_18 J_19 L_20 => gLet (q_u J_19 (o + 14) (Int.toNat v_5) r_18) (fun (J_21 : gJ) => gLet (gModel_isWord_0 o J_21 L_20 495874699877) (fun (r_22 : Int) => gB3 (gModel_must_0 o J_21 L_20 r_22) (fun r_23 J_24 L_25 => gB3 (gModel_numeral_0 o J_24 L_25 0 9999) (fun r_26 J_27 L_28 => gLet (q_u J_27 (o + 15) (Int.toNat v_5) r_26) (fun (J_29 : gJ) => gLet (gModel_isGood_0 o J_29 L_28) (fun (r_30 : Int) => (if r_30 = 0 then (0, J_29, L_28) else gLet (J_29 o 35) (fun (v_31 : Int) => gLet (J_29 (o + 7) (Int.toNat v_31)) (fun (v_32 : Int) => gLet (v_32 + 1) (fun (v_33 : Int) => gLet (q_u J_29 (o + 7) (Int.toNat v_31) v_33) (fun (J_34 : gJ) => (0, J_34, L_28)))))))))))))))))))))))) := rfl
set_option maxHeartbeats 4000000 in
set_option maxRecDepth 20000 in
theorem yc_Model_readFortg {D : va_G} {cA : FieldType → ClassId} {b : Nat} {E : State → Prop} {R : qRg} {o n : Nat} {sh : Nat → qC} {Rf : Nat → Nat → Option Nat} {I0 : Nat → Nat → Int32} {L0 : Nat → Nat → Int64} {post : Option Value → qS → Prop} (hok : q_ok (qGG D cA b E)) (hw : WfModel (qGG D cA b E) n sh Rf o) (ra : RAModel R o) (hz14 : R.2 14 = true) (hz15 : R.2 15 = true) (hz16 : R.2 16 = true) (hz17 : R.2 17 = true) (hz18 : R.2 18 = true) (hz19 : R.2 19 = true) (hZ : Fz R I0 o wModel_readFort) (hR0 : RI R I0) (hq0 : (I0 o 7).toInt ≤ (I0 o 3).toInt) (hq1 : (I0 (o + 7) (I0 o 35 : Int32).toNatClampNeg).toInt ≤ 2) (hq2 : MPo I0 o) (hq3 : MTk I0 o) (hR : RI R I0) (hp : ∀ (I' : Nat → Nat → Int32) (L' : Nat → Nat → Int64), RI R I' → Fm (fun c => c = o ∨ c = o + 7 ∨ (o + 13 ≤ c ∧ c < o + 16)) I0 I' → ((I' o 7).toInt ≤ (I' o 3).toInt) → ((I0 o 7).toInt ≤ (I' o 7).toInt) → ((I0 o 4).toInt ≤ (I' o 4).toInt) → (7 * (I0 o 7).toInt - (I0 o 8).toInt + (I0 o 4).toInt ≤ 7 * (I' o 7).toInt - (I' o 8).toInt + (I' o 4).toInt) → (MPo I' o) → (MTk I' o) → (gModel_readFort_0 o (tI I0) L0 = (0, tI I', L')) → post none (n, sh, Rf, I', L')) : Ev (qGG D cA b E) mModel_readFort 5 (0, 0) 0 (lv_args 0 [.ref o]) [] (n, sh, Rf, I0, L0) post := by
  have hf : Fm (fun c => c = o ∨ c = o + 7 ∨ (o + 13 ≤ c ∧ c < o + 16)) I0 I0 := Fm.rf
  have g_1 : (0 : Int) ≤ (I0 o 3).toInt ∧ (I0 o 3).toInt ≤ 1600 := hR.at0 ra 3 (by decide)
  have g_2 : (0 : Int) ≤ (I0 o 4).toInt ∧ (I0 o 4).toInt ≤ 5 := hR.at0 ra 4 (by decide)
  have g_3 : (0 : Int) ≤ (I0 o 6).toInt ∧ (I0 o 6).toInt ≤ 1600 := hR.at0 ra 6 (by decide)
  have g_4 : (0 : Int) ≤ (I0 o 7).toInt ∧ (I0 o 7).toInt ≤ 1601 := hR.at0 ra 7 (by decide)
  have g_5 : (0 : Int) ≤ (I0 o 8).toInt ∧ (I0 o 8).toInt ≤ 6 := hR.at0 ra 8 (by decide)
  refine sModel_readFort_0 o n sh Rf I0 L0 post  hok hw ?_
  unfold fModel_readFort_0
  have hg : gModel_readFort_0 o (tI I0) L0 = gModel_readFort_0 o (tI I0) L0 := rfl
  replace hg := (eModel_readFort_0).symm.trans hg
  have g_6 : (0 : Int) ≤ (I0 o 35).toInt ∧ (I0 o 35).toInt ≤ 1 := hR.at0 ra 35 (by decide)
  replace hg := gt_let (y := (I0 o 35).toInt) rfl hg
  have l_7 : (3 : Int32).toInt = 3 := rfl
  have a_8 : (3 * (I0 o 35)).toInt = 3 * (I0 o 35).toInt := tMulL rfl (by omega) (by omega)
  replace hg := gt_let (y := ((3 * (I0 o 35)) : Int32).toInt) (by omega) hg
  have g_9 : (0 : Int) ≤ (I0 o 35).toInt ∧ (I0 o 35).toInt ≤ 1 := hR.at0 ra 35 (by decide)
  replace hg := gt_let (y := (I0 o 35).toInt) rfl hg
  refine ⟨tIn (by omega) (by omega), ?_⟩
  have g_10 : (0 : Int) ≤ (I0 (o + 7) ((I0 o 35) : Int32).toNatClampNeg).toInt ∧ (I0 (o + 7) ((I0 o 35) : Int32).toNatClampNeg).toInt ≤ 3 := hR.at ra 7 _ (by decide)
  replace hg := gt_let (y := (I0 (o + 7) ((I0 o 35) : Int32).toNatClampNeg).toInt) rfl hg
  have a_11 : ((3 * (I0 o 35)) + (I0 (o + 7) ((I0 o 35) : Int32).toNatClampNeg)).toInt = (3 * (I0 o 35)).toInt + (I0 (o + 7) ((I0 o 35) : Int32).toNatClampNeg).toInt := tAdd (by omega) (by omega)
  replace hg := gt_let (y := (((3 * (I0 o 35)) + (I0 (o + 7) ((I0 o 35) : Int32).toNatClampNeg)) : Int32).toInt) (by omega) hg
  refine y_Model_newNameg hok hw ra hz14 hz15 hz16 hz17 hz18 hz19 (by first | omega | (intro h; omega) | exact Or.inl rfl | exact Or.inr rfl) hq2 hq3 hR (fun r_12 I_20 L_21 hR_22 fr_23 kp_24 u_13 u_14 u_15 u_16 u_17 u_18 gn_19 => ⟨r_12, I_20, L_21, rfl, rfl, ?_⟩)
  replace hg := gt_b3 gn_19 hg
  clear gn_19
  have hf_25 : Fm (fun c => c = o ∨ c = o + 7 ∨ (o + 13 ≤ c ∧ c < o + 16)) I0 I_20 := hf.call fr_23 (fun c hc => by first | exact hc | (dsimp only at hc ⊢; omega) | omega)
  have t_26 : (I_20 o 3).toInt = (I0 o 3).toInt := by rw [kp_24 3 rfl]
  have g_27 : (0 : Int) ≤ (I_20 o 4).toInt ∧ (I_20 o 4).toInt ≤ 5 := hR_22.at0 ra 4 (by decide)
  have g_28 : (0 : Int) ≤ (I_20 o 6).toInt ∧ (I_20 o 6).toInt ≤ 1600 := hR_22.at0 ra 6 (by decide)
  have g_29 : (0 : Int) ≤ (I_20 o 7).toInt ∧ (I_20 o 7).toInt ≤ 1601 := hR_22.at0 ra 7 (by decide)
  have g_30 : (0 : Int) ≤ (I_20 o 8).toInt ∧ (I_20 o 8).toInt ≤ 6 := hR_22.at0 ra 8 (by decide)
  have t_31 : (I_20 o 35).toInt = (I0 o 35).toInt := by rw [kp_24 35 rfl]
  have s_32 : (I0 o 7).toInt ≤ (I_20 o 7).toInt := by omega
  have s_33 : (I0 o 4).toInt ≤ (I_20 o 4).toInt := by omega
  have s_34 : (I_20 o 7).toInt ≤ (I_20 o 3).toInt := by omega
  have s_35 : 7 * (I0 o 7).toInt - (I0 o 8).toInt + (I0 o 4).toInt ≤ 7 * (I_20 o 7).toInt - (I_20 o 8).toInt + (I_20 o 4).toInt := by omega
  clear t_26 g_27 g_28 g_29 g_30 t_31 u_13 u_14 u_15 u_16
  have t_36 : (I_20 o 3).toInt = (I0 o 3).toInt := by rw [hZ I_20 3 rfl hR_22]
  have g_37 : (0 : Int) ≤ (I_20 o 3).toInt ∧ (I_20 o 3).toInt ≤ 1600 := hR_22.at0 ra 3 (by decide)
  have g_38 : (0 : Int) ≤ (I_20 o 4).toInt ∧ (I_20 o 4).toInt ≤ 5 := hR_22.at0 ra 4 (by decide)
  have g_39 : (0 : Int) ≤ (I_20 o 6).toInt ∧ (I_20 o 6).toInt ≤ 1600 := hR_22.at0 ra 6 (by decide)
  have g_40 : (0 : Int) ≤ (I_20 o 7).toInt ∧ (I_20 o 7).toInt ≤ 1601 := hR_22.at0 ra 7 (by decide)
  have g_41 : (0 : Int) ≤ (I_20 o 8).toInt ∧ (I_20 o 8).toInt ≤ 6 := hR_22.at0 ra 8 (by decide)
  have t_42 : (I_20 o 35).toInt = (I0 o 35).toInt := by rw [hZ I_20 35 rfl hR_22]
  have g_43 : (0 : Int) ≤ (I_20 o 35).toInt ∧ (I_20 o 35).toInt ≤ 1 := hR_22.at0 ra 35 (by decide)
  have w_44 : I_20 (o + 7) = I0 (o + 7) := (fr_23 (o + 7) (by first | omega | (dsimp only; omega)))
  refine ⟨tIn (by omega) (by omega), fun L_45 e_46 => ?_⟩
  replace hg := gt_let (y := L_45) e_46 hg
  refine y_Model_pointg hok hw ra hz14 hz15 hz16 hz17 hz18 hz19 (by first | omega | (intro h; omega) | exact Or.inl rfl | exact Or.inr rfl) u_17 u_18 hR_22 (fun r_47 I_56 L_57 hR_58 fr_59 kp_60 u_48 u_49 u_50 u_51 u_52 u_53 u_54 gn_55 => ⟨r_47, I_56, L_57, rfl, rfl, ?_⟩)
  replace hg := gt_b3 gn_55 hg
  clear gn_55
  have hf_61 : Fm (fun c => c = o ∨ c = o + 7 ∨ (o + 13 ≤ c ∧ c < o + 16)) I0 I_56 := hf_25.call fr_59 (fun c hc => by first | exact hc | (dsimp only at hc ⊢; omega) | omega)
  have t_62 : (I_56 o 3).toInt = (I_20 o 3).toInt := by rw [kp_60 3 rfl]
  have g_63 : (0 : Int) ≤ (I_56 o 4).toInt ∧ (I_56 o 4).toInt ≤ 5 := hR_58.at0 ra 4 (by decide)
  have g_64 : (0 : Int) ≤ (I_56 o 6).toInt ∧ (I_56 o 6).toInt ≤ 1600 := hR_58.at0 ra 6 (by decide)
  have g_65 : (0 : Int) ≤ (I_56 o 7).toInt ∧ (I_56 o 7).toInt ≤ 1601 := hR_58.at0 ra 7 (by decide)
  have g_66 : (0 : Int) ≤ (I_56 o 8).toInt ∧ (I_56 o 8).toInt ≤ 6 := hR_58.at0 ra 8 (by decide)
  have t_67 : (I_56 o 35).toInt = (I_20 o 35).toInt := by rw [kp_60 35 rfl]
  have s_68 : (I0 o 7).toInt ≤ (I_56 o 7).toInt := by omega
  have s_69 : (I0 o 4).toInt ≤ (I_56 o 4).toInt := by omega
  have s_70 : (I_56 o 7).toInt ≤ (I_56 o 3).toInt := by omega
  have s_71 : 7 * (I0 o 7).toInt - (I0 o 8).toInt + (I0 o 4).toInt ≤ 7 * (I_56 o 7).toInt - (I_56 o 8).toInt + (I_56 o 4).toInt := by omega
  clear s_32 s_33 s_34 s_35 t_36 g_37 g_38 g_39 g_40 g_41 t_42 g_43 t_62 g_63 g_64 g_65 g_66 t_67 u_49 u_50 u_51 u_52
  have t_72 : (I_56 o 3).toInt = (I0 o 3).toInt := by rw [hZ I_56 3 rfl hR_58]
  have g_73 : (0 : Int) ≤ (I_56 o 3).toInt ∧ (I_56 o 3).toInt ≤ 1600 := hR_58.at0 ra 3 (by decide)
  have g_74 : (0 : Int) ≤ (I_56 o 4).toInt ∧ (I_56 o 4).toInt ≤ 5 := hR_58.at0 ra 4 (by decide)
  have g_75 : (0 : Int) ≤ (I_56 o 6).toInt ∧ (I_56 o 6).toInt ≤ 1600 := hR_58.at0 ra 6 (by decide)
  have g_76 : (0 : Int) ≤ (I_56 o 7).toInt ∧ (I_56 o 7).toInt ≤ 1601 := hR_58.at0 ra 7 (by decide)
  have g_77 : (0 : Int) ≤ (I_56 o 8).toInt ∧ (I_56 o 8).toInt ≤ 6 := hR_58.at0 ra 8 (by decide)
  have t_78 : (I_56 o 35).toInt = (I0 o 35).toInt := by rw [hZ I_56 35 rfl hR_58]
  have g_79 : (0 : Int) ≤ (I_56 o 35).toInt ∧ (I_56 o 35).toInt ≤ 1 := hR_58.at0 ra 35 (by decide)
  have w_80 : I_56 (o + 7) = I0 (o + 7) := (fr_59 (o + 7) (by first | omega | (dsimp only; omega))).trans w_44
  refine ⟨tIn (by omega) (by omega), fun I_81 e_82 => ?_⟩
  replace hg := gt_let (y := tI I_81) (tI_q e_82) hg
  have hR_83 : RI R I_81 := hR_58.up ra 13 (by decide) (Or.inl rfl) e_82 (show (0 : Int) ≤ r_47.toInt by omega) (show r_47.toInt ≤ (15 : Int) by omega)
  have hf_84 : Fm (fun c => c = o ∨ c = o + 7 ∨ (o + 13 ≤ c ∧ c < o + 16)) I0 I_81 := hf_61.set (by first | rfl | omega | (dsimp only; omega)) e_82
  have t_85 : (I_81 o 3).toInt = (I_56 o 3).toInt := by rw [← e_82, q_u_ne (by omega)]
  have t_86 : (I_81 o 4).toInt = (I_56 o 4).toInt := by rw [← e_82, q_u_ne (by omega)]
  have t_87 : (I_81 o 6).toInt = (I_56 o 6).toInt := by rw [← e_82, q_u_ne (by omega)]
  have t_88 : (I_81 o 7).toInt = (I_56 o 7).toInt := by rw [← e_82, q_u_ne (by omega)]
  have t_89 : (I_81 o 8).toInt = (I_56 o 8).toInt := by rw [← e_82, q_u_ne (by omega)]
  have t_90 : (I_81 o 9).toInt = (I_56 o 9).toInt := by rw [← e_82, q_u_ne (by omega)]
  have t_91 : (I_81 o 35).toInt = (I_56 o 35).toInt := by rw [← e_82, q_u_ne (by omega)]
  have k_92 : MPo I_81 o := u_53.fr (by rw [← e_82, q_u_ne (by omega)]) (by rw [← e_82, q_u_ne (by omega)])
  have k_93 : MTk I_81 o := u_54.fr (by rw [← e_82, q_u_ne (by omega)]) (by rw [← e_82, q_u_ne (by omega)]) (by rw [← e_82, q_u_ne (by omega)])
  have w_94 : I_81 (o + 7) = I0 (o + 7) := by rw [← e_82, q_u_ne (by omega)]; exact w_80
  have l_95 : (1700885619 : Int32).toInt = 1700885619 := rfl
  refine y_Model_isWordg hok hw ra hR_83 (fun r_96 u_97 u_98 gn_99 => ⟨r_96, I_81, L_57, rfl, rfl, ?_⟩)
  replace hg := gt_let gn_99 hg
  clear gn_99
  have b_100 : 0 ≤ r_96.toInt ∧ r_96.toInt ≤ 1 := u_97.rg
  refine y_Model_mustg hok hw ra hz14 hz15 hz16 hz17 hz18 hz19 (by first | omega | (intro h; omega) | exact Or.inl rfl | exact Or.inr rfl) k_92 k_93 hR_83 (fun I_112 L_113 hR_114 fr_115 kp_116 u_102 u_103 u_104 u_105 u_106 u_107 u_108 u_109 u_110 gn_111 => ⟨I_112, L_113, rfl, rfl, ?_⟩)
  replace hg := gt_b3 gn_111 hg
  clear gn_111
  have hf_117 : Fm (fun c => c = o ∨ c = o + 7 ∨ (o + 13 ≤ c ∧ c < o + 16)) I0 I_112 := hf_84.call fr_115 (fun c hc => by first | exact hc | (dsimp only at hc ⊢; omega) | omega)
  have t_118 : (I_112 o 3).toInt = (I_81 o 3).toInt := by rw [kp_116 3 rfl]
  have g_119 : (0 : Int) ≤ (I_112 o 4).toInt ∧ (I_112 o 4).toInt ≤ 5 := hR_114.at0 ra 4 (by decide)
  have g_120 : (0 : Int) ≤ (I_112 o 6).toInt ∧ (I_112 o 6).toInt ≤ 1600 := hR_114.at0 ra 6 (by decide)
  have g_121 : (0 : Int) ≤ (I_112 o 7).toInt ∧ (I_112 o 7).toInt ≤ 1601 := hR_114.at0 ra 7 (by decide)
  have g_122 : (0 : Int) ≤ (I_112 o 8).toInt ∧ (I_112 o 8).toInt ≤ 6 := hR_114.at0 ra 8 (by decide)
  have t_123 : (I_112 o 35).toInt = (I_81 o 35).toInt := by rw [kp_116 35 rfl]
  have s_124 : (I0 o 7).toInt ≤ (I_112 o 7).toInt := by omega
  have s_125 : (I0 o 4).toInt ≤ (I_112 o 4).toInt := by omega
  have s_126 : (I_112 o 7).toInt ≤ (I_112 o 3).toInt := by omega
  have s_127 : 7 * (I0 o 7).toInt - (I0 o 8).toInt + (I0 o 4).toInt ≤ 7 * (I_112 o 7).toInt - (I_112 o 8).toInt + (I_112 o 4).toInt := by omega
  clear s_68 s_69 s_70 s_71 t_72 g_73 g_74 g_75 g_76 g_77 t_78 g_79 t_85 t_86 t_87 t_88 t_89 t_90 t_91 t_118 g_119 g_120 g_121 g_122 t_123 u_102 u_103 u_104 u_105 u_107
  have t_128 : (I_112 o 3).toInt = (I0 o 3).toInt := by rw [hZ I_112 3 rfl hR_114]
  have g_129 : (0 : Int) ≤ (I_112 o 3).toInt ∧ (I_112 o 3).toInt ≤ 1600 := hR_114.at0 ra 3 (by decide)
  have g_130 : (0 : Int) ≤ (I_112 o 4).toInt ∧ (I_112 o 4).toInt ≤ 5 := hR_114.at0 ra 4 (by decide)
  have g_131 : (0 : Int) ≤ (I_112 o 6).toInt ∧ (I_112 o 6).toInt ≤ 1600 := hR_114.at0 ra 6 (by decide)
  have g_132 : (0 : Int) ≤ (I_112 o 7).toInt ∧ (I_112 o 7).toInt ≤ 1601 := hR_114.at0 ra 7 (by decide)
  have g_133 : (0 : Int) ≤ (I_112 o 8).toInt ∧ (I_112 o 8).toInt ≤ 6 := hR_114.at0 ra 8 (by decide)
  have t_134 : (I_112 o 35).toInt = (I0 o 35).toInt := by rw [hZ I_112 35 rfl hR_114]
  have g_135 : (0 : Int) ≤ (I_112 o 35).toInt ∧ (I_112 o 35).toInt ≤ 1 := hR_114.at0 ra 35 (by decide)
  have w_136 : I_112 (o + 7) = I0 (o + 7) := (fr_115 (o + 7) (by first | omega | (dsimp only; omega))).trans w_94
  have l_137 : (0 : Int32).toInt = 0 := rfl
  have l_138 : (999 : Int32).toInt = 999 := rfl
  refine y_Model_numeralg hok hw ra hz14 hz15 hz16 hz17 hz18 hz19 (by first | omega | (intro h; omega) | exact Or.inl rfl | exact Or.inr rfl) u_109 u_110 hR_114 (fun r_139 I_148 L_149 hR_150 fr_151 kp_152 u_140 u_141 u_142 u_143 u_144 u_145 u_146 gn_147 => ⟨r_139, I_148, L_149, rfl, rfl, ?_⟩)
  replace hg := gt_b3 gn_147 hg
  clear gn_147
  have hf_153 : Fm (fun c => c = o ∨ c = o + 7 ∨ (o + 13 ≤ c ∧ c < o + 16)) I0 I_148 := hf_117.call fr_151 (fun c hc => by first | exact hc | (dsimp only at hc ⊢; omega) | omega)
  have t_154 : (I_148 o 3).toInt = (I_112 o 3).toInt := by rw [kp_152 3 rfl]
  have g_155 : (0 : Int) ≤ (I_148 o 4).toInt ∧ (I_148 o 4).toInt ≤ 5 := hR_150.at0 ra 4 (by decide)
  have g_156 : (0 : Int) ≤ (I_148 o 6).toInt ∧ (I_148 o 6).toInt ≤ 1600 := hR_150.at0 ra 6 (by decide)
  have g_157 : (0 : Int) ≤ (I_148 o 7).toInt ∧ (I_148 o 7).toInt ≤ 1601 := hR_150.at0 ra 7 (by decide)
  have g_158 : (0 : Int) ≤ (I_148 o 8).toInt ∧ (I_148 o 8).toInt ≤ 6 := hR_150.at0 ra 8 (by decide)
  have t_159 : (I_148 o 35).toInt = (I_112 o 35).toInt := by rw [kp_152 35 rfl]
  have s_160 : (I0 o 7).toInt ≤ (I_148 o 7).toInt := by omega
  have s_161 : (I0 o 4).toInt ≤ (I_148 o 4).toInt := by omega
  have s_162 : (I_148 o 7).toInt ≤ (I_148 o 3).toInt := by omega
  have s_163 : 7 * (I0 o 7).toInt - (I0 o 8).toInt + (I0 o 4).toInt ≤ 7 * (I_148 o 7).toInt - (I_148 o 8).toInt + (I_148 o 4).toInt := by omega
  clear s_124 s_125 s_126 s_127 t_128 g_129 g_130 g_131 g_132 g_133 t_134 g_135 t_154 g_155 g_156 g_157 g_158 t_159 u_140 u_141 u_142 u_143
  have t_164 : (I_148 o 3).toInt = (I0 o 3).toInt := by rw [hZ I_148 3 rfl hR_150]
  have g_165 : (0 : Int) ≤ (I_148 o 3).toInt ∧ (I_148 o 3).toInt ≤ 1600 := hR_150.at0 ra 3 (by decide)
  have g_166 : (0 : Int) ≤ (I_148 o 4).toInt ∧ (I_148 o 4).toInt ≤ 5 := hR_150.at0 ra 4 (by decide)
  have g_167 : (0 : Int) ≤ (I_148 o 6).toInt ∧ (I_148 o 6).toInt ≤ 1600 := hR_150.at0 ra 6 (by decide)
  have g_168 : (0 : Int) ≤ (I_148 o 7).toInt ∧ (I_148 o 7).toInt ≤ 1601 := hR_150.at0 ra 7 (by decide)
  have g_169 : (0 : Int) ≤ (I_148 o 8).toInt ∧ (I_148 o 8).toInt ≤ 6 := hR_150.at0 ra 8 (by decide)
  have t_170 : (I_148 o 35).toInt = (I0 o 35).toInt := by rw [hZ I_148 35 rfl hR_150]
  have g_171 : (0 : Int) ≤ (I_148 o 35).toInt ∧ (I_148 o 35).toInt ≤ 1 := hR_150.at0 ra 35 (by decide)
  have w_172 : I_148 (o + 7) = I0 (o + 7) := (fr_151 (o + 7) (by first | omega | (dsimp only; omega))).trans w_136
  refine ⟨tIn (by omega) (by omega), fun I_173 e_174 => ?_⟩
  replace hg := gt_let (y := tI I_173) (tI_q e_174) hg
  have hR_175 : RI R I_173 := hR_150.up ra 14 (by decide) (Or.inl rfl) e_174 (i_lo _) (i_hi _)
  have hf_176 : Fm (fun c => c = o ∨ c = o + 7 ∨ (o + 13 ≤ c ∧ c < o + 16)) I0 I_173 := hf_153.set (by first | rfl | omega | (dsimp only; omega)) e_174
  have t_177 : (I_173 o 3).toInt = (I_148 o 3).toInt := by rw [← e_174, q_u_ne (by omega)]
  have t_178 : (I_173 o 4).toInt = (I_148 o 4).toInt := by rw [← e_174, q_u_ne (by omega)]
  have t_179 : (I_173 o 6).toInt = (I_148 o 6).toInt := by rw [← e_174, q_u_ne (by omega)]
  have t_180 : (I_173 o 7).toInt = (I_148 o 7).toInt := by rw [← e_174, q_u_ne (by omega)]
  have t_181 : (I_173 o 8).toInt = (I_148 o 8).toInt := by rw [← e_174, q_u_ne (by omega)]
  have t_182 : (I_173 o 9).toInt = (I_148 o 9).toInt := by rw [← e_174, q_u_ne (by omega)]
  have t_183 : (I_173 o 35).toInt = (I_148 o 35).toInt := by rw [← e_174, q_u_ne (by omega)]
  have k_184 : MPo I_173 o := u_145.fr (by rw [← e_174, q_u_ne (by omega)]) (by rw [← e_174, q_u_ne (by omega)])
  have k_185 : MTk I_173 o := u_146.fr (by rw [← e_174, q_u_ne (by omega)]) (by rw [← e_174, q_u_ne (by omega)]) (by rw [← e_174, q_u_ne (by omega)])
  have w_186 : I_173 (o + 7) = I0 (o + 7) := by rw [← e_174, q_u_ne (by omega)]; exact w_172
  refine y_Model_isWordg hok hw ra hR_175 (fun r_187 u_188 u_189 gn_190 => ⟨r_187, I_173, L_149, rfl, rfl, ?_⟩)
  replace hg := gt_let gn_190 hg
  clear gn_190
  have b_191 : 0 ≤ r_187.toInt ∧ r_187.toInt ≤ 1 := u_188.rg
  refine y_Model_mustg hok hw ra hz14 hz15 hz16 hz17 hz18 hz19 (by first | omega | (intro h; omega) | exact Or.inl rfl | exact Or.inr rfl) k_184 k_185 hR_175 (fun I_203 L_204 hR_205 fr_206 kp_207 u_193 u_194 u_195 u_196 u_197 u_198 u_199 u_200 u_201 gn_202 => ⟨I_203, L_204, rfl, rfl, ?_⟩)
  replace hg := gt_b3 gn_202 hg
  clear gn_202
  have hf_208 : Fm (fun c => c = o ∨ c = o + 7 ∨ (o + 13 ≤ c ∧ c < o + 16)) I0 I_203 := hf_176.call fr_206 (fun c hc => by first | exact hc | (dsimp only at hc ⊢; omega) | omega)
  have t_209 : (I_203 o 3).toInt = (I_173 o 3).toInt := by rw [kp_207 3 rfl]
  have g_210 : (0 : Int) ≤ (I_203 o 4).toInt ∧ (I_203 o 4).toInt ≤ 5 := hR_205.at0 ra 4 (by decide)
  have g_211 : (0 : Int) ≤ (I_203 o 6).toInt ∧ (I_203 o 6).toInt ≤ 1600 := hR_205.at0 ra 6 (by decide)
  have g_212 : (0 : Int) ≤ (I_203 o 7).toInt ∧ (I_203 o 7).toInt ≤ 1601 := hR_205.at0 ra 7 (by decide)
  have g_213 : (0 : Int) ≤ (I_203 o 8).toInt ∧ (I_203 o 8).toInt ≤ 6 := hR_205.at0 ra 8 (by decide)
  have t_214 : (I_203 o 35).toInt = (I_173 o 35).toInt := by rw [kp_207 35 rfl]
  have s_215 : (I0 o 7).toInt ≤ (I_203 o 7).toInt := by omega
  have s_216 : (I0 o 4).toInt ≤ (I_203 o 4).toInt := by omega
  have s_217 : (I_203 o 7).toInt ≤ (I_203 o 3).toInt := by omega
  have s_218 : 7 * (I0 o 7).toInt - (I0 o 8).toInt + (I0 o 4).toInt ≤ 7 * (I_203 o 7).toInt - (I_203 o 8).toInt + (I_203 o 4).toInt := by omega
  clear s_160 s_161 s_162 s_163 t_164 g_165 g_166 g_167 g_168 g_169 t_170 g_171 t_177 t_178 t_179 t_180 t_181 t_182 t_183 t_209 g_210 g_211 g_212 g_213 t_214 u_193 u_194 u_195 u_196 u_198
  have t_219 : (I_203 o 3).toInt = (I0 o 3).toInt := by rw [hZ I_203 3 rfl hR_205]
  have g_220 : (0 : Int) ≤ (I_203 o 3).toInt ∧ (I_203 o 3).toInt ≤ 1600 := hR_205.at0 ra 3 (by decide)
  have g_221 : (0 : Int) ≤ (I_203 o 4).toInt ∧ (I_203 o 4).toInt ≤ 5 := hR_205.at0 ra 4 (by decide)
  have g_222 : (0 : Int) ≤ (I_203 o 6).toInt ∧ (I_203 o 6).toInt ≤ 1600 := hR_205.at0 ra 6 (by decide)
  have g_223 : (0 : Int) ≤ (I_203 o 7).toInt ∧ (I_203 o 7).toInt ≤ 1601 := hR_205.at0 ra 7 (by decide)
  have g_224 : (0 : Int) ≤ (I_203 o 8).toInt ∧ (I_203 o 8).toInt ≤ 6 := hR_205.at0 ra 8 (by decide)
  have t_225 : (I_203 o 35).toInt = (I0 o 35).toInt := by rw [hZ I_203 35 rfl hR_205]
  have g_226 : (0 : Int) ≤ (I_203 o 35).toInt ∧ (I_203 o 35).toInt ≤ 1 := hR_205.at0 ra 35 (by decide)
  have w_227 : I_203 (o + 7) = I0 (o + 7) := (fr_206 (o + 7) (by first | omega | (dsimp only; omega))).trans w_186
  have l_228 : (9999 : Int32).toInt = 9999 := rfl
  refine y_Model_numeralg hok hw ra hz14 hz15 hz16 hz17 hz18 hz19 (by first | omega | (intro h; omega) | exact Or.inl rfl | exact Or.inr rfl) u_200 u_201 hR_205 (fun r_229 I_238 L_239 hR_240 fr_241 kp_242 u_230 u_231 u_232 u_233 u_234 u_235 u_236 gn_237 => ⟨r_229, I_238, L_239, rfl, rfl, ?_⟩)
  replace hg := gt_b3 gn_237 hg
  clear gn_237
  have hf_243 : Fm (fun c => c = o ∨ c = o + 7 ∨ (o + 13 ≤ c ∧ c < o + 16)) I0 I_238 := hf_208.call fr_241 (fun c hc => by first | exact hc | (dsimp only at hc ⊢; omega) | omega)
  have t_244 : (I_238 o 3).toInt = (I_203 o 3).toInt := by rw [kp_242 3 rfl]
  have g_245 : (0 : Int) ≤ (I_238 o 4).toInt ∧ (I_238 o 4).toInt ≤ 5 := hR_240.at0 ra 4 (by decide)
  have g_246 : (0 : Int) ≤ (I_238 o 6).toInt ∧ (I_238 o 6).toInt ≤ 1600 := hR_240.at0 ra 6 (by decide)
  have g_247 : (0 : Int) ≤ (I_238 o 7).toInt ∧ (I_238 o 7).toInt ≤ 1601 := hR_240.at0 ra 7 (by decide)
  have g_248 : (0 : Int) ≤ (I_238 o 8).toInt ∧ (I_238 o 8).toInt ≤ 6 := hR_240.at0 ra 8 (by decide)
  have t_249 : (I_238 o 35).toInt = (I_203 o 35).toInt := by rw [kp_242 35 rfl]
  have s_250 : (I0 o 7).toInt ≤ (I_238 o 7).toInt := by omega
  have s_251 : (I0 o 4).toInt ≤ (I_238 o 4).toInt := by omega
  have s_252 : (I_238 o 7).toInt ≤ (I_238 o 3).toInt := by omega
  have s_253 : 7 * (I0 o 7).toInt - (I0 o 8).toInt + (I0 o 4).toInt ≤ 7 * (I_238 o 7).toInt - (I_238 o 8).toInt + (I_238 o 4).toInt := by omega
  clear s_215 s_216 s_217 s_218 t_219 g_220 g_221 g_222 g_223 g_224 t_225 g_226 t_244 g_245 g_246 g_247 g_248 t_249 u_230 u_231 u_232 u_233
  have t_254 : (I_238 o 3).toInt = (I0 o 3).toInt := by rw [hZ I_238 3 rfl hR_240]
  have g_255 : (0 : Int) ≤ (I_238 o 3).toInt ∧ (I_238 o 3).toInt ≤ 1600 := hR_240.at0 ra 3 (by decide)
  have g_256 : (0 : Int) ≤ (I_238 o 4).toInt ∧ (I_238 o 4).toInt ≤ 5 := hR_240.at0 ra 4 (by decide)
  have g_257 : (0 : Int) ≤ (I_238 o 6).toInt ∧ (I_238 o 6).toInt ≤ 1600 := hR_240.at0 ra 6 (by decide)
  have g_258 : (0 : Int) ≤ (I_238 o 7).toInt ∧ (I_238 o 7).toInt ≤ 1601 := hR_240.at0 ra 7 (by decide)
  have g_259 : (0 : Int) ≤ (I_238 o 8).toInt ∧ (I_238 o 8).toInt ≤ 6 := hR_240.at0 ra 8 (by decide)
  have t_260 : (I_238 o 35).toInt = (I0 o 35).toInt := by rw [hZ I_238 35 rfl hR_240]
  have g_261 : (0 : Int) ≤ (I_238 o 35).toInt ∧ (I_238 o 35).toInt ≤ 1 := hR_240.at0 ra 35 (by decide)
  have w_262 : I_238 (o + 7) = I0 (o + 7) := (fr_241 (o + 7) (by first | omega | (dsimp only; omega))).trans w_227
  refine ⟨tIn (by omega) (by omega), fun I_263 e_264 => ?_⟩
  replace hg := gt_let (y := tI I_263) (tI_q e_264) hg
  have hR_265 : RI R I_263 := hR_240.up ra 15 (by decide) (Or.inl rfl) e_264 (i_lo _) (i_hi _)
  have hf_266 : Fm (fun c => c = o ∨ c = o + 7 ∨ (o + 13 ≤ c ∧ c < o + 16)) I0 I_263 := hf_243.set (by first | rfl | omega | (dsimp only; omega)) e_264
  have t_267 : (I_263 o 3).toInt = (I_238 o 3).toInt := by rw [← e_264, q_u_ne (by omega)]
  have t_268 : (I_263 o 4).toInt = (I_238 o 4).toInt := by rw [← e_264, q_u_ne (by omega)]
  have t_269 : (I_263 o 6).toInt = (I_238 o 6).toInt := by rw [← e_264, q_u_ne (by omega)]
  have t_270 : (I_263 o 7).toInt = (I_238 o 7).toInt := by rw [← e_264, q_u_ne (by omega)]
  have t_271 : (I_263 o 8).toInt = (I_238 o 8).toInt := by rw [← e_264, q_u_ne (by omega)]
  have t_272 : (I_263 o 9).toInt = (I_238 o 9).toInt := by rw [← e_264, q_u_ne (by omega)]
  have t_273 : (I_263 o 35).toInt = (I_238 o 35).toInt := by rw [← e_264, q_u_ne (by omega)]
  have k_274 : MPo I_263 o := u_235.fr (by rw [← e_264, q_u_ne (by omega)]) (by rw [← e_264, q_u_ne (by omega)])
  have k_275 : MTk I_263 o := u_236.fr (by rw [← e_264, q_u_ne (by omega)]) (by rw [← e_264, q_u_ne (by omega)]) (by rw [← e_264, q_u_ne (by omega)])
  have w_276 : I_263 (o + 7) = I0 (o + 7) := by rw [← e_264, q_u_ne (by omega)]; exact w_262
  refine y_Model_isGoodg hok hw ra hR_265 (fun r_277 u_278 u_279 u_280 gn_281 => ⟨r_277, I_263, L_239, rfl, rfl, ?_⟩)
  replace hg := gt_let gn_281 hg
  clear gn_281
  have b_282 : 0 ≤ r_277.toInt ∧ r_277.toInt ≤ 1 := u_278.rg
  refine ⟨fun c_283 => ?_, fun c_283 => ?_⟩
  · have d_284 := iEq c_283
    have i_285 := u_280 (by omega)
    replace hg := gt_pos (by first | exact d_284 | omega) hg
    exact (hp _ _ hR_265 hf_266 (by first | omega | (intro h; omega) | exact Or.inl rfl | exact Or.inr rfl) (by first | omega | (intro h; omega) | exact Or.inl rfl | exact Or.inr rfl) (by first | omega | (intro h; omega) | exact Or.inl rfl | exact Or.inr rfl) (by first | omega | (intro h; omega) | exact Or.inl rfl | exact Or.inr rfl) k_274 k_275 hg.symm)
  · have d_286 := iNe c_283
    have i_287 := u_279 (by omega)
    replace hg := gt_neg (by first | exact d_286 | omega) hg
    have g_288 : (0 : Int) ≤ (I_263 o 35).toInt ∧ (I_263 o 35).toInt ≤ 1 := hR_265.at0 ra 35 (by decide)
    replace hg := gt_let (y := (I_263 o 35).toInt) rfl hg
    have rk : (I_263 (o + 7) (I_263 o 35 : Int32).toNatClampNeg).toInt = (I0 (o + 7) (I0 o 35 : Int32).toNatClampNeg).toInt := by rw [w_276, hZ I_263 35 rfl hR_265]
    refine ⟨tIn (by omega) (by omega), ?_⟩
    have g_289 : (0 : Int) ≤ (I_263 (o + 7) ((I_263 o 35) : Int32).toNatClampNeg).toInt ∧ (I_263 (o + 7) ((I_263 o 35) : Int32).toNatClampNeg).toInt ≤ 3 := hR_265.at ra 7 _ (by decide)
    replace hg := gt_let (y := (I_263 (o + 7) ((I_263 o 35) : Int32).toNatClampNeg).toInt) rfl hg
    have l_290 : (1 : Int32).toInt = 1 := rfl
    have a_291 : ((I_263 (o + 7) ((I_263 o 35) : Int32).toNatClampNeg) + 1).toInt = (I_263 (o + 7) ((I_263 o 35) : Int32).toNatClampNeg).toInt + (1 : Int32).toInt := tAdd (by omega) (by omega)
    replace hg := gt_let (y := (((I_263 (o + 7) ((I_263 o 35) : Int32).toNatClampNeg) + 1) : Int32).toInt) (by omega) hg
    refine ⟨tIn (by omega) (by omega), fun I_292 e_293 => ?_⟩
    replace hg := gt_let (y := tI I_292) (tI_q e_293) hg
    have hR_294 : RI R I_292 := hR_265.up ra 7 (by decide) (Or.inl rfl) e_293 (show (0 : Int) ≤ ((I_263 (o + 7) ((I_263 o 35) : Int32).toNatClampNeg) + 1).toInt by omega) (show ((I_263 (o + 7) ((I_263 o 35) : Int32).toNatClampNeg) + 1).toInt ≤ (3 : Int) by omega)
    have hf_295 : Fm (fun c => c = o ∨ c = o + 7 ∨ (o + 13 ≤ c ∧ c < o + 16)) I0 I_292 := hf_266.set (by first | rfl | omega | (dsimp only; omega)) e_293
    have t_296 : (I_292 o 3).toInt = (I_263 o 3).toInt := by rw [← e_293, q_u_ne (by omega)]
    have t_297 : (I_292 o 4).toInt = (I_263 o 4).toInt := by rw [← e_293, q_u_ne (by omega)]
    have t_298 : (I_292 o 6).toInt = (I_263 o 6).toInt := by rw [← e_293, q_u_ne (by omega)]
    have t_299 : (I_292 o 7).toInt = (I_263 o 7).toInt := by rw [← e_293, q_u_ne (by omega)]
    have t_300 : (I_292 o 8).toInt = (I_263 o 8).toInt := by rw [← e_293, q_u_ne (by omega)]
    have t_301 : (I_292 o 9).toInt = (I_263 o 9).toInt := by rw [← e_293, q_u_ne (by omega)]
    have t_302 : (I_292 o 35).toInt = (I_263 o 35).toInt := by rw [← e_293, q_u_ne (by omega)]
    have k_303 : MPo I_292 o := k_274.fr (by rw [← e_293, q_u_ne (by omega)]) (by rw [← e_293, q_u_ne (by omega)])
    have k_304 : MTk I_292 o := k_275.fr (by rw [← e_293, q_u_ne (by omega)]) (by rw [← e_293, q_u_ne (by omega)]) (by rw [← e_293, q_u_ne (by omega)])
    exact (hp _ _ hR_294 hf_295 (by first | omega | (intro h; omega) | exact Or.inl rfl | exact Or.inr rfl) (by first | omega | (intro h; omega) | exact Or.inl rfl | exact Or.inr rfl) (by first | omega | (intro h; omega) | exact Or.inl rfl | exact Or.inr rfl) (by first | omega | (intro h; omega) | exact Or.inl rfl | exact Or.inr rfl) k_303 k_304 hg.symm)
theorem y_Model_readFortg {D : va_G} {cA : FieldType → ClassId} {b : Nat} {E : State → Prop} {R : qRg} {o n : Nat} {sh : Nat → qC} {Rf : Nat → Nat → Option Nat} {I0 : Nat → Nat → Int32} {L0 : Nat → Nat → Int64} {post : Option Value → qS → Prop} (hok : q_ok (qGG D cA b E)) (hw : WfModel (qGG D cA b E) n sh Rf o) (ra : RAModel R o) (hz14 : R.2 14 = true) (hz15 : R.2 15 = true) (hz16 : R.2 16 = true) (hz17 : R.2 17 = true) (hz18 : R.2 18 = true) (hz19 : R.2 19 = true) (hq0 : (I0 o 7).toInt ≤ (I0 o 3).toInt) (hq1 : (I0 (o + 7) (I0 o 35 : Int32).toNatClampNeg).toInt ≤ 2) (hq2 : MPo I0 o) (hq3 : MTk I0 o) (hR : RI R I0) (hp : ∀ (I' : Nat → Nat → Int32) (L' : Nat → Nat → Int64), RI R I' → Fm (fun c => c = o ∨ c = o + 7 ∨ (o + 13 ≤ c ∧ c < o + 16)) I0 I' → Kp wModel_readFort I0 I' o → ((I' o 7).toInt ≤ (I' o 3).toInt) → ((I0 o 7).toInt ≤ (I' o 7).toInt) → ((I0 o 4).toInt ≤ (I' o 4).toInt) → (7 * (I0 o 7).toInt - (I0 o 8).toInt + (I0 o 4).toInt ≤ 7 * (I' o 7).toInt - (I' o 8).toInt + (I' o 4).toInt) → (MPo I' o) → (MTk I' o) → (gModel_readFort_0 o (tI I0) L0 = (0, tI I', L')) → post none (n, sh, Rf, I', L')) : Ev (qGG D cA b E) mModel_readFort 5 (0, 0) 0 (lv_args 0 [.ref o]) [] (n, sh, Rf, I0, L0) post :=
  yc_Model_readFortg (R := fzR R I0 o wModel_readFort) hok hw (fzA ra hR _) (fzT hz14 rfl) (fzT hz15 rfl) (fzT hz16 rfl) (fzT hz17 rfl) (fzT hz18 rfl) (fzT hz19 rfl) fzZ (fzI hR) hq0 hq1 hq2 hq3 (fzI hR) (fun I' L' h1 h2 u0 u1 u2 u3 u4 u5 ug => hp I' L' (fzB hR h1) h2 (fzP h1) u0 u1 u2 u3 u4 u5 ug)
noncomputable def gModel_readTown_0 (o : Nat) (J : gJ) (L : gL) : Int × gJ × gL := gLet (J o 35) (fun (v_1 : Int) => gLet (5 * v_1) (fun (v_2 : Int) => gLet (J o 35) (fun (v_3 : Int) => gLet (J (o + 9) (Int.toNat v_3)) (fun (v_4 : Int) => gLet (v_2 + v_4) (fun (v_5 : Int) => gB3 (gModel_newName_0 o J L) (fun r_6 J_7 L_8 => gLet (q_u L_8 (o + 5) (Int.toNat v_5) r_6) (fun (L_9 : gL) => gB3 (gModel_point_0 o J_7 L_9) (fun r_10 J_11 L_12 => gLet (q_u J_11 (o + 19) (Int.toNat v_5) r_10) (fun (J_13 : gJ) => gLet (gModel_isWord_0 o J_13 L_12 28518) (fun (r_14 : Int) => gB3 (gModel_must_0 o J_13 L_12 r_14) (fun r_15 J_16 L_17 => gB3 (gModel_numeral_0 o J_16 L_17 0 4) (fun r_18 J_19 L_20 => gLet (q_u J_19 (o + 20) (Int.toNat v_5) r_18) (fun (J_21 : gJ) => gLet (gModel_isWord_0 o J_21 L_20 512735736947) (fun (r_22 : Int) => gB3 (gModel_must_0 o J_21 L_20 r_22) (fun r_23 J_24 L_25 => gB3 (gModel_numeral_0 o J_24 L_25 0 999) (fun r_26 J_27 L_28 => gLet (q_u J_27 (o + 21) (Int.toNat v_5) r_26) (fun (J_29 : gJ) => gLet (gModel_isWord_0 o J_29 L_28 482955846501) (fun (r_30 : Int) => gB3 (gModel_must_0 o J_29 L_28 r_30) (fun r_31 J_32 L_33 => gB3 (gModel_numeral_0 o J_32 L_33 1 999) (fun r_34 J_35 L_36 => gLet (q_u J_35 (o + 22) (Int.toNat v_5) r_34) (fun (J_37 : gJ) => gLet (gModel_isWord_0 o J_37 L_36 444300618094) (fun (r_38 : Int) => gB3 (gModel_must_0 o J_37 L_36 r_38) (fun r_39 J_40 L_41 => gB3 (gModel_numeral_0 o J_40 L_41 0 999) (fun r_42 J_43 L_44 => gLet (q_u J_43 (o + 23) (Int.toNat v_5) r_42) (fun (J_45 : gJ) => gLet (gModel_isWord_0 o J_45 L_44 1668248436) (fun (r_46 : Int) => gB3 (gModel_must_0 o J_45 L_44 r_46) (fun r_47 J_48 L_49 => gB3 (gModel_numeral_0 o J_48 L_49 1 99) (fun r_50 J_51 L_52 => gLet (q_u J_51 (o + 24) (Int.toNat v_5) r_50) (fun (J_53 : gJ) => gLet (gModel_isGood_0 o J_53 L_52) (fun (r_54 : Int) => (if r_54 = 0 then (0, J_53, L_52) else gLet (J_53 o 35) (fun (v_55 : Int) => gLet (J_53 (o + 9) (Int.toNat v_55)) (fun (v_56 : Int) => gLet (v_56 + 1) (fun (v_57 : Int) => gLet (q_u J_53 (o + 9) (Int.toNat v_55) v_57) (fun (J_58 : gJ) => (0, J_58, L_52))))))))))))))))))))))))))))))))))))
theorem eModel_readTown_0 {o : Nat} {J : gJ} {L : gL} : gModel_readTown_0 o J L  = gLet (J o 35) (fun (v_1 : Int) => gLet (5 * v_1) (fun (v_2 : Int) => gLet (J o 35) (fun (v_3 : Int) => gLet (J (o + 9) (Int.toNat v_3)) (fun (v_4 : Int) => gLet (v_2 + v_4) (fun (v_5 : Int) => gB3 (gModel_newName_0 o J L) (fun r_6 J_7 L_8 => gLet (q_u L_8 (o + 5) (Int.toNat v_5) r_6) (fun (L_9 : gL) => gB3 (gModel_point_0 o J_7 L_9) (fun r_10 J_11 L_12 => gLet (q_u J_11 (o + 19) (Int.toNat v_5) r_10) (fun (J_13 : gJ) => gLet (gModel_isWord_0 o J_13 L_12 28518) (fun (r_14 : Int) => gB3 (gModel_must_0 o J_13 L_12 r_14) (fun r_15 J_16 L_17 => gB3 (gModel_numeral_0 o J_16 L_17 0 4) (fun r_18 J_19 L_20 => gLet (q_u J_19 (o + 20) (Int.toNat v_5) r_18) (fun (J_21 : gJ) => gLet (gModel_isWord_0 o J_21 L_20 512735736947) (fun (r_22 : Int) => gB3 (gModel_must_0 o J_21 L_20 r_22) (fun r_23 J_24 L_25 => gB3 (gModel_numeral_0 o J_24 L_25 0 999) (fun r_26 J_27 L_28 => gLet (q_u J_27 (o + 21) (Int.toNat v_5) r_26) (fun (J_29 : gJ) => gLet (gModel_isWord_0 o J_29 L_28 482955846501) (fun (r_30 : Int) => gB3 (gModel_must_0 o J_29 L_28 r_30) (fun r_31 J_32 L_33 => gB3 (gModel_numeral_0 o J_32 L_33 1 999) (fun r_34 J_35 L_36 => gLet (q_u J_35 (o + 22) (Int.toNat v_5) r_34) (fun (J_37 : gJ) => gLet (gModel_isWord_0 o J_37 L_36 444300618094) (fun (r_38 : Int) => gB3 (gModel_must_0 o J_37 L_36 r_38) (fun r_39 J_40 L_41 => gB3 (gModel_numeral_0 o J_40 L_41 0 999) (fun r_42 J_43 L_44 => gLet (q_u J_43 (o + 23) (Int.toNat v_5) r_42) (fun (J_45 : gJ) => gLet (gModel_isWord_0 o J_45 L_44 1668248436) (fun (r_46 : Int) => gB3 (gModel_must_0 o J_45 L_44 r_46) (fun r_47 J_48 L_49 => gB3 (gModel_numeral_0 o J_48 L_49 1 99) (fun r_50 J_51 L_52 => gLet (q_u J_51 (o + 24) (Int.toNat v_5) r_50) (fun (J_53 : gJ) => gLet (gModel_isGood_0 o J_53 L_52) (fun (r_54 : Int) => (if r_54 = 0 then (0, J_53, L_52) else gLet (J_53 o 35) (fun (v_55 : Int) => gLet (J_53 (o + 9) (Int.toNat v_55)) (fun (v_56 : Int) => gLet (v_56 + 1) (fun (v_57 : Int) => gLet (q_u J_53 (o + 9) (Int.toNat v_55) v_57) (fun (J_58 : gJ) => (0, J_58, L_52)))))))))))))))))))))))))))))))))))) := rfl
set_option maxHeartbeats 4000000 in
set_option maxRecDepth 20000 in
theorem yc_Model_readTowng {D : va_G} {cA : FieldType → ClassId} {b : Nat} {E : State → Prop} {R : qRg} {o n : Nat} {sh : Nat → qC} {Rf : Nat → Nat → Option Nat} {I0 : Nat → Nat → Int32} {L0 : Nat → Nat → Int64} {post : Option Value → qS → Prop} (hok : q_ok (qGG D cA b E)) (hw : WfModel (qGG D cA b E) n sh Rf o) (ra : RAModel R o) (hz14 : R.2 14 = true) (hz15 : R.2 15 = true) (hz16 : R.2 16 = true) (hz17 : R.2 17 = true) (hz18 : R.2 18 = true) (hz19 : R.2 19 = true) (hZ : Fz R I0 o wModel_readTown) (hR0 : RI R I0) (hq0 : (I0 o 7).toInt ≤ (I0 o 3).toInt) (hq1 : (I0 (o + 9) (I0 o 35 : Int32).toNatClampNeg).toInt ≤ 4) (hq2 : MPo I0 o) (hq3 : MTk I0 o) (hR : RI R I0) (hp : ∀ (I' : Nat → Nat → Int32) (L' : Nat → Nat → Int64), RI R I' → Fm (fun c => c = o ∨ c = o + 9 ∨ (o + 19 ≤ c ∧ c < o + 25)) I0 I' → ((I' o 7).toInt ≤ (I' o 3).toInt) → ((I0 o 7).toInt ≤ (I' o 7).toInt) → ((I0 o 4).toInt ≤ (I' o 4).toInt) → (7 * (I0 o 7).toInt - (I0 o 8).toInt + (I0 o 4).toInt ≤ 7 * (I' o 7).toInt - (I' o 8).toInt + (I' o 4).toInt) → (MPo I' o) → (MTk I' o) → (gModel_readTown_0 o (tI I0) L0 = (0, tI I', L')) → post none (n, sh, Rf, I', L')) : Ev (qGG D cA b E) mModel_readTown 5 (0, 0) 0 (lv_args 0 [.ref o]) [] (n, sh, Rf, I0, L0) post := by
  have hf : Fm (fun c => c = o ∨ c = o + 9 ∨ (o + 19 ≤ c ∧ c < o + 25)) I0 I0 := Fm.rf
  have g_1 : (0 : Int) ≤ (I0 o 3).toInt ∧ (I0 o 3).toInt ≤ 1600 := hR.at0 ra 3 (by decide)
  have g_2 : (0 : Int) ≤ (I0 o 4).toInt ∧ (I0 o 4).toInt ≤ 5 := hR.at0 ra 4 (by decide)
  have g_3 : (0 : Int) ≤ (I0 o 6).toInt ∧ (I0 o 6).toInt ≤ 1600 := hR.at0 ra 6 (by decide)
  have g_4 : (0 : Int) ≤ (I0 o 7).toInt ∧ (I0 o 7).toInt ≤ 1601 := hR.at0 ra 7 (by decide)
  have g_5 : (0 : Int) ≤ (I0 o 8).toInt ∧ (I0 o 8).toInt ≤ 6 := hR.at0 ra 8 (by decide)
  refine sModel_readTown_0 o n sh Rf I0 L0 post  hok hw ?_
  unfold fModel_readTown_0
  have hg : gModel_readTown_0 o (tI I0) L0 = gModel_readTown_0 o (tI I0) L0 := rfl
  replace hg := (eModel_readTown_0).symm.trans hg
  have g_6 : (0 : Int) ≤ (I0 o 35).toInt ∧ (I0 o 35).toInt ≤ 1 := hR.at0 ra 35 (by decide)
  replace hg := gt_let (y := (I0 o 35).toInt) rfl hg
  have l_7 : (5 : Int32).toInt = 5 := rfl
  have a_8 : (5 * (I0 o 35)).toInt = 5 * (I0 o 35).toInt := tMulL rfl (by omega) (by omega)
  replace hg := gt_let (y := ((5 * (I0 o 35)) : Int32).toInt) (by omega) hg
  have g_9 : (0 : Int) ≤ (I0 o 35).toInt ∧ (I0 o 35).toInt ≤ 1 := hR.at0 ra 35 (by decide)
  replace hg := gt_let (y := (I0 o 35).toInt) rfl hg
  refine ⟨tIn (by omega) (by omega), ?_⟩
  have g_10 : (0 : Int) ≤ (I0 (o + 9) ((I0 o 35) : Int32).toNatClampNeg).toInt ∧ (I0 (o + 9) ((I0 o 35) : Int32).toNatClampNeg).toInt ≤ 5 := hR.at ra 9 _ (by decide)
  replace hg := gt_let (y := (I0 (o + 9) ((I0 o 35) : Int32).toNatClampNeg).toInt) rfl hg
  have a_11 : ((5 * (I0 o 35)) + (I0 (o + 9) ((I0 o 35) : Int32).toNatClampNeg)).toInt = (5 * (I0 o 35)).toInt + (I0 (o + 9) ((I0 o 35) : Int32).toNatClampNeg).toInt := tAdd (by omega) (by omega)
  replace hg := gt_let (y := (((5 * (I0 o 35)) + (I0 (o + 9) ((I0 o 35) : Int32).toNatClampNeg)) : Int32).toInt) (by omega) hg
  refine y_Model_newNameg hok hw ra hz14 hz15 hz16 hz17 hz18 hz19 (by first | omega | (intro h; omega) | exact Or.inl rfl | exact Or.inr rfl) hq2 hq3 hR (fun r_12 I_20 L_21 hR_22 fr_23 kp_24 u_13 u_14 u_15 u_16 u_17 u_18 gn_19 => ⟨r_12, I_20, L_21, rfl, rfl, ?_⟩)
  replace hg := gt_b3 gn_19 hg
  clear gn_19
  have hf_25 : Fm (fun c => c = o ∨ c = o + 9 ∨ (o + 19 ≤ c ∧ c < o + 25)) I0 I_20 := hf.call fr_23 (fun c hc => by first | exact hc | (dsimp only at hc ⊢; omega) | omega)
  have t_26 : (I_20 o 3).toInt = (I0 o 3).toInt := by rw [kp_24 3 rfl]
  have g_27 : (0 : Int) ≤ (I_20 o 4).toInt ∧ (I_20 o 4).toInt ≤ 5 := hR_22.at0 ra 4 (by decide)
  have g_28 : (0 : Int) ≤ (I_20 o 6).toInt ∧ (I_20 o 6).toInt ≤ 1600 := hR_22.at0 ra 6 (by decide)
  have g_29 : (0 : Int) ≤ (I_20 o 7).toInt ∧ (I_20 o 7).toInt ≤ 1601 := hR_22.at0 ra 7 (by decide)
  have g_30 : (0 : Int) ≤ (I_20 o 8).toInt ∧ (I_20 o 8).toInt ≤ 6 := hR_22.at0 ra 8 (by decide)
  have t_31 : (I_20 o 35).toInt = (I0 o 35).toInt := by rw [kp_24 35 rfl]
  have s_32 : (I0 o 7).toInt ≤ (I_20 o 7).toInt := by omega
  have s_33 : (I0 o 4).toInt ≤ (I_20 o 4).toInt := by omega
  have s_34 : (I_20 o 7).toInt ≤ (I_20 o 3).toInt := by omega
  have s_35 : 7 * (I0 o 7).toInt - (I0 o 8).toInt + (I0 o 4).toInt ≤ 7 * (I_20 o 7).toInt - (I_20 o 8).toInt + (I_20 o 4).toInt := by omega
  clear t_26 g_27 g_28 g_29 g_30 t_31 u_13 u_14 u_15 u_16
  have t_36 : (I_20 o 3).toInt = (I0 o 3).toInt := by rw [hZ I_20 3 rfl hR_22]
  have g_37 : (0 : Int) ≤ (I_20 o 3).toInt ∧ (I_20 o 3).toInt ≤ 1600 := hR_22.at0 ra 3 (by decide)
  have g_38 : (0 : Int) ≤ (I_20 o 4).toInt ∧ (I_20 o 4).toInt ≤ 5 := hR_22.at0 ra 4 (by decide)
  have g_39 : (0 : Int) ≤ (I_20 o 6).toInt ∧ (I_20 o 6).toInt ≤ 1600 := hR_22.at0 ra 6 (by decide)
  have g_40 : (0 : Int) ≤ (I_20 o 7).toInt ∧ (I_20 o 7).toInt ≤ 1601 := hR_22.at0 ra 7 (by decide)
  have g_41 : (0 : Int) ≤ (I_20 o 8).toInt ∧ (I_20 o 8).toInt ≤ 6 := hR_22.at0 ra 8 (by decide)
  have t_42 : (I_20 o 35).toInt = (I0 o 35).toInt := by rw [hZ I_20 35 rfl hR_22]
  have g_43 : (0 : Int) ≤ (I_20 o 35).toInt ∧ (I_20 o 35).toInt ≤ 1 := hR_22.at0 ra 35 (by decide)
  have w_44 : I_20 (o + 9) = I0 (o + 9) := (fr_23 (o + 9) (by first | omega | (dsimp only; omega)))
  refine ⟨tIn (by omega) (by omega), fun L_45 e_46 => ?_⟩
  replace hg := gt_let (y := L_45) e_46 hg
  refine y_Model_pointg hok hw ra hz14 hz15 hz16 hz17 hz18 hz19 (by first | omega | (intro h; omega) | exact Or.inl rfl | exact Or.inr rfl) u_17 u_18 hR_22 (fun r_47 I_56 L_57 hR_58 fr_59 kp_60 u_48 u_49 u_50 u_51 u_52 u_53 u_54 gn_55 => ⟨r_47, I_56, L_57, rfl, rfl, ?_⟩)
  replace hg := gt_b3 gn_55 hg
  clear gn_55
  have hf_61 : Fm (fun c => c = o ∨ c = o + 9 ∨ (o + 19 ≤ c ∧ c < o + 25)) I0 I_56 := hf_25.call fr_59 (fun c hc => by first | exact hc | (dsimp only at hc ⊢; omega) | omega)
  have t_62 : (I_56 o 3).toInt = (I_20 o 3).toInt := by rw [kp_60 3 rfl]
  have g_63 : (0 : Int) ≤ (I_56 o 4).toInt ∧ (I_56 o 4).toInt ≤ 5 := hR_58.at0 ra 4 (by decide)
  have g_64 : (0 : Int) ≤ (I_56 o 6).toInt ∧ (I_56 o 6).toInt ≤ 1600 := hR_58.at0 ra 6 (by decide)
  have g_65 : (0 : Int) ≤ (I_56 o 7).toInt ∧ (I_56 o 7).toInt ≤ 1601 := hR_58.at0 ra 7 (by decide)
  have g_66 : (0 : Int) ≤ (I_56 o 8).toInt ∧ (I_56 o 8).toInt ≤ 6 := hR_58.at0 ra 8 (by decide)
  have t_67 : (I_56 o 35).toInt = (I_20 o 35).toInt := by rw [kp_60 35 rfl]
  have s_68 : (I0 o 7).toInt ≤ (I_56 o 7).toInt := by omega
  have s_69 : (I0 o 4).toInt ≤ (I_56 o 4).toInt := by omega
  have s_70 : (I_56 o 7).toInt ≤ (I_56 o 3).toInt := by omega
  have s_71 : 7 * (I0 o 7).toInt - (I0 o 8).toInt + (I0 o 4).toInt ≤ 7 * (I_56 o 7).toInt - (I_56 o 8).toInt + (I_56 o 4).toInt := by omega
  clear s_32 s_33 s_34 s_35 t_36 g_37 g_38 g_39 g_40 g_41 t_42 g_43 t_62 g_63 g_64 g_65 g_66 t_67 u_49 u_50 u_51 u_52
  have t_72 : (I_56 o 3).toInt = (I0 o 3).toInt := by rw [hZ I_56 3 rfl hR_58]
  have g_73 : (0 : Int) ≤ (I_56 o 3).toInt ∧ (I_56 o 3).toInt ≤ 1600 := hR_58.at0 ra 3 (by decide)
  have g_74 : (0 : Int) ≤ (I_56 o 4).toInt ∧ (I_56 o 4).toInt ≤ 5 := hR_58.at0 ra 4 (by decide)
  have g_75 : (0 : Int) ≤ (I_56 o 6).toInt ∧ (I_56 o 6).toInt ≤ 1600 := hR_58.at0 ra 6 (by decide)
  have g_76 : (0 : Int) ≤ (I_56 o 7).toInt ∧ (I_56 o 7).toInt ≤ 1601 := hR_58.at0 ra 7 (by decide)
  have g_77 : (0 : Int) ≤ (I_56 o 8).toInt ∧ (I_56 o 8).toInt ≤ 6 := hR_58.at0 ra 8 (by decide)
  have t_78 : (I_56 o 35).toInt = (I0 o 35).toInt := by rw [hZ I_56 35 rfl hR_58]
  have g_79 : (0 : Int) ≤ (I_56 o 35).toInt ∧ (I_56 o 35).toInt ≤ 1 := hR_58.at0 ra 35 (by decide)
  have w_80 : I_56 (o + 9) = I0 (o + 9) := (fr_59 (o + 9) (by first | omega | (dsimp only; omega))).trans w_44
  refine ⟨tIn (by omega) (by omega), fun I_81 e_82 => ?_⟩
  replace hg := gt_let (y := tI I_81) (tI_q e_82) hg
  have hR_83 : RI R I_81 := hR_58.up ra 19 (by decide) (Or.inl rfl) e_82 (show (0 : Int) ≤ r_47.toInt by omega) (show r_47.toInt ≤ (15 : Int) by omega)
  have hf_84 : Fm (fun c => c = o ∨ c = o + 9 ∨ (o + 19 ≤ c ∧ c < o + 25)) I0 I_81 := hf_61.set (by first | rfl | omega | (dsimp only; omega)) e_82
  have t_85 : (I_81 o 3).toInt = (I_56 o 3).toInt := by rw [← e_82, q_u_ne (by omega)]
  have t_86 : (I_81 o 4).toInt = (I_56 o 4).toInt := by rw [← e_82, q_u_ne (by omega)]
  have t_87 : (I_81 o 6).toInt = (I_56 o 6).toInt := by rw [← e_82, q_u_ne (by omega)]
  have t_88 : (I_81 o 7).toInt = (I_56 o 7).toInt := by rw [← e_82, q_u_ne (by omega)]
  have t_89 : (I_81 o 8).toInt = (I_56 o 8).toInt := by rw [← e_82, q_u_ne (by omega)]
  have t_90 : (I_81 o 9).toInt = (I_56 o 9).toInt := by rw [← e_82, q_u_ne (by omega)]
  have t_91 : (I_81 o 35).toInt = (I_56 o 35).toInt := by rw [← e_82, q_u_ne (by omega)]
  have k_92 : MPo I_81 o := u_53.fr (by rw [← e_82, q_u_ne (by omega)]) (by rw [← e_82, q_u_ne (by omega)])
  have k_93 : MTk I_81 o := u_54.fr (by rw [← e_82, q_u_ne (by omega)]) (by rw [← e_82, q_u_ne (by omega)]) (by rw [← e_82, q_u_ne (by omega)])
  have w_94 : I_81 (o + 9) = I0 (o + 9) := by rw [← e_82, q_u_ne (by omega)]; exact w_80
  have l_95 : (28518 : Int32).toInt = 28518 := rfl
  refine y_Model_isWordg hok hw ra hR_83 (fun r_96 u_97 u_98 gn_99 => ⟨r_96, I_81, L_57, rfl, rfl, ?_⟩)
  replace hg := gt_let gn_99 hg
  clear gn_99
  have b_100 : 0 ≤ r_96.toInt ∧ r_96.toInt ≤ 1 := u_97.rg
  refine y_Model_mustg hok hw ra hz14 hz15 hz16 hz17 hz18 hz19 (by first | omega | (intro h; omega) | exact Or.inl rfl | exact Or.inr rfl) k_92 k_93 hR_83 (fun I_112 L_113 hR_114 fr_115 kp_116 u_102 u_103 u_104 u_105 u_106 u_107 u_108 u_109 u_110 gn_111 => ⟨I_112, L_113, rfl, rfl, ?_⟩)
  replace hg := gt_b3 gn_111 hg
  clear gn_111
  have hf_117 : Fm (fun c => c = o ∨ c = o + 9 ∨ (o + 19 ≤ c ∧ c < o + 25)) I0 I_112 := hf_84.call fr_115 (fun c hc => by first | exact hc | (dsimp only at hc ⊢; omega) | omega)
  have t_118 : (I_112 o 3).toInt = (I_81 o 3).toInt := by rw [kp_116 3 rfl]
  have g_119 : (0 : Int) ≤ (I_112 o 4).toInt ∧ (I_112 o 4).toInt ≤ 5 := hR_114.at0 ra 4 (by decide)
  have g_120 : (0 : Int) ≤ (I_112 o 6).toInt ∧ (I_112 o 6).toInt ≤ 1600 := hR_114.at0 ra 6 (by decide)
  have g_121 : (0 : Int) ≤ (I_112 o 7).toInt ∧ (I_112 o 7).toInt ≤ 1601 := hR_114.at0 ra 7 (by decide)
  have g_122 : (0 : Int) ≤ (I_112 o 8).toInt ∧ (I_112 o 8).toInt ≤ 6 := hR_114.at0 ra 8 (by decide)
  have t_123 : (I_112 o 35).toInt = (I_81 o 35).toInt := by rw [kp_116 35 rfl]
  have s_124 : (I0 o 7).toInt ≤ (I_112 o 7).toInt := by omega
  have s_125 : (I0 o 4).toInt ≤ (I_112 o 4).toInt := by omega
  have s_126 : (I_112 o 7).toInt ≤ (I_112 o 3).toInt := by omega
  have s_127 : 7 * (I0 o 7).toInt - (I0 o 8).toInt + (I0 o 4).toInt ≤ 7 * (I_112 o 7).toInt - (I_112 o 8).toInt + (I_112 o 4).toInt := by omega
  clear s_68 s_69 s_70 s_71 t_72 g_73 g_74 g_75 g_76 g_77 t_78 g_79 t_85 t_86 t_87 t_88 t_89 t_90 t_91 t_118 g_119 g_120 g_121 g_122 t_123 u_102 u_103 u_104 u_105 u_107
  have t_128 : (I_112 o 3).toInt = (I0 o 3).toInt := by rw [hZ I_112 3 rfl hR_114]
  have g_129 : (0 : Int) ≤ (I_112 o 3).toInt ∧ (I_112 o 3).toInt ≤ 1600 := hR_114.at0 ra 3 (by decide)
  have g_130 : (0 : Int) ≤ (I_112 o 4).toInt ∧ (I_112 o 4).toInt ≤ 5 := hR_114.at0 ra 4 (by decide)
  have g_131 : (0 : Int) ≤ (I_112 o 6).toInt ∧ (I_112 o 6).toInt ≤ 1600 := hR_114.at0 ra 6 (by decide)
  have g_132 : (0 : Int) ≤ (I_112 o 7).toInt ∧ (I_112 o 7).toInt ≤ 1601 := hR_114.at0 ra 7 (by decide)
  have g_133 : (0 : Int) ≤ (I_112 o 8).toInt ∧ (I_112 o 8).toInt ≤ 6 := hR_114.at0 ra 8 (by decide)
  have t_134 : (I_112 o 35).toInt = (I0 o 35).toInt := by rw [hZ I_112 35 rfl hR_114]
  have g_135 : (0 : Int) ≤ (I_112 o 35).toInt ∧ (I_112 o 35).toInt ≤ 1 := hR_114.at0 ra 35 (by decide)
  have w_136 : I_112 (o + 9) = I0 (o + 9) := (fr_115 (o + 9) (by first | omega | (dsimp only; omega))).trans w_94
  have l_137 : (0 : Int32).toInt = 0 := rfl
  have l_138 : (4 : Int32).toInt = 4 := rfl
  refine y_Model_numeralg hok hw ra hz14 hz15 hz16 hz17 hz18 hz19 (by first | omega | (intro h; omega) | exact Or.inl rfl | exact Or.inr rfl) u_109 u_110 hR_114 (fun r_139 I_148 L_149 hR_150 fr_151 kp_152 u_140 u_141 u_142 u_143 u_144 u_145 u_146 gn_147 => ⟨r_139, I_148, L_149, rfl, rfl, ?_⟩)
  replace hg := gt_b3 gn_147 hg
  clear gn_147
  have hf_153 : Fm (fun c => c = o ∨ c = o + 9 ∨ (o + 19 ≤ c ∧ c < o + 25)) I0 I_148 := hf_117.call fr_151 (fun c hc => by first | exact hc | (dsimp only at hc ⊢; omega) | omega)
  have t_154 : (I_148 o 3).toInt = (I_112 o 3).toInt := by rw [kp_152 3 rfl]
  have g_155 : (0 : Int) ≤ (I_148 o 4).toInt ∧ (I_148 o 4).toInt ≤ 5 := hR_150.at0 ra 4 (by decide)
  have g_156 : (0 : Int) ≤ (I_148 o 6).toInt ∧ (I_148 o 6).toInt ≤ 1600 := hR_150.at0 ra 6 (by decide)
  have g_157 : (0 : Int) ≤ (I_148 o 7).toInt ∧ (I_148 o 7).toInt ≤ 1601 := hR_150.at0 ra 7 (by decide)
  have g_158 : (0 : Int) ≤ (I_148 o 8).toInt ∧ (I_148 o 8).toInt ≤ 6 := hR_150.at0 ra 8 (by decide)
  have t_159 : (I_148 o 35).toInt = (I_112 o 35).toInt := by rw [kp_152 35 rfl]
  have s_160 : (I0 o 7).toInt ≤ (I_148 o 7).toInt := by omega
  have s_161 : (I0 o 4).toInt ≤ (I_148 o 4).toInt := by omega
  have s_162 : (I_148 o 7).toInt ≤ (I_148 o 3).toInt := by omega
  have s_163 : 7 * (I0 o 7).toInt - (I0 o 8).toInt + (I0 o 4).toInt ≤ 7 * (I_148 o 7).toInt - (I_148 o 8).toInt + (I_148 o 4).toInt := by omega
  clear s_124 s_125 s_126 s_127 t_128 g_129 g_130 g_131 g_132 g_133 t_134 g_135 t_154 g_155 g_156 g_157 g_158 t_159 u_140 u_141 u_142 u_143
  have t_164 : (I_148 o 3).toInt = (I0 o 3).toInt := by rw [hZ I_148 3 rfl hR_150]
  have g_165 : (0 : Int) ≤ (I_148 o 3).toInt ∧ (I_148 o 3).toInt ≤ 1600 := hR_150.at0 ra 3 (by decide)
  have g_166 : (0 : Int) ≤ (I_148 o 4).toInt ∧ (I_148 o 4).toInt ≤ 5 := hR_150.at0 ra 4 (by decide)
  have g_167 : (0 : Int) ≤ (I_148 o 6).toInt ∧ (I_148 o 6).toInt ≤ 1600 := hR_150.at0 ra 6 (by decide)
  have g_168 : (0 : Int) ≤ (I_148 o 7).toInt ∧ (I_148 o 7).toInt ≤ 1601 := hR_150.at0 ra 7 (by decide)
  have g_169 : (0 : Int) ≤ (I_148 o 8).toInt ∧ (I_148 o 8).toInt ≤ 6 := hR_150.at0 ra 8 (by decide)
  have t_170 : (I_148 o 35).toInt = (I0 o 35).toInt := by rw [hZ I_148 35 rfl hR_150]
  have g_171 : (0 : Int) ≤ (I_148 o 35).toInt ∧ (I_148 o 35).toInt ≤ 1 := hR_150.at0 ra 35 (by decide)
  have w_172 : I_148 (o + 9) = I0 (o + 9) := (fr_151 (o + 9) (by first | omega | (dsimp only; omega))).trans w_136
  refine ⟨tIn (by omega) (by omega), fun I_173 e_174 => ?_⟩
  replace hg := gt_let (y := tI I_173) (tI_q e_174) hg
  have hR_175 : RI R I_173 := hR_150.up ra 20 (by decide) (Or.inl rfl) e_174 (i_lo _) (i_hi _)
  have hf_176 : Fm (fun c => c = o ∨ c = o + 9 ∨ (o + 19 ≤ c ∧ c < o + 25)) I0 I_173 := hf_153.set (by first | rfl | omega | (dsimp only; omega)) e_174
  have t_177 : (I_173 o 3).toInt = (I_148 o 3).toInt := by rw [← e_174, q_u_ne (by omega)]
  have t_178 : (I_173 o 4).toInt = (I_148 o 4).toInt := by rw [← e_174, q_u_ne (by omega)]
  have t_179 : (I_173 o 6).toInt = (I_148 o 6).toInt := by rw [← e_174, q_u_ne (by omega)]
  have t_180 : (I_173 o 7).toInt = (I_148 o 7).toInt := by rw [← e_174, q_u_ne (by omega)]
  have t_181 : (I_173 o 8).toInt = (I_148 o 8).toInt := by rw [← e_174, q_u_ne (by omega)]
  have t_182 : (I_173 o 9).toInt = (I_148 o 9).toInt := by rw [← e_174, q_u_ne (by omega)]
  have t_183 : (I_173 o 35).toInt = (I_148 o 35).toInt := by rw [← e_174, q_u_ne (by omega)]
  have k_184 : MPo I_173 o := u_145.fr (by rw [← e_174, q_u_ne (by omega)]) (by rw [← e_174, q_u_ne (by omega)])
  have k_185 : MTk I_173 o := u_146.fr (by rw [← e_174, q_u_ne (by omega)]) (by rw [← e_174, q_u_ne (by omega)]) (by rw [← e_174, q_u_ne (by omega)])
  have w_186 : I_173 (o + 9) = I0 (o + 9) := by rw [← e_174, q_u_ne (by omega)]; exact w_172
  refine y_Model_isWordg hok hw ra hR_175 (fun r_187 u_188 u_189 gn_190 => ⟨r_187, I_173, L_149, rfl, rfl, ?_⟩)
  replace hg := gt_let gn_190 hg
  clear gn_190
  have b_191 : 0 ≤ r_187.toInt ∧ r_187.toInt ≤ 1 := u_188.rg
  refine y_Model_mustg hok hw ra hz14 hz15 hz16 hz17 hz18 hz19 (by first | omega | (intro h; omega) | exact Or.inl rfl | exact Or.inr rfl) k_184 k_185 hR_175 (fun I_203 L_204 hR_205 fr_206 kp_207 u_193 u_194 u_195 u_196 u_197 u_198 u_199 u_200 u_201 gn_202 => ⟨I_203, L_204, rfl, rfl, ?_⟩)
  replace hg := gt_b3 gn_202 hg
  clear gn_202
  have hf_208 : Fm (fun c => c = o ∨ c = o + 9 ∨ (o + 19 ≤ c ∧ c < o + 25)) I0 I_203 := hf_176.call fr_206 (fun c hc => by first | exact hc | (dsimp only at hc ⊢; omega) | omega)
  have t_209 : (I_203 o 3).toInt = (I_173 o 3).toInt := by rw [kp_207 3 rfl]
  have g_210 : (0 : Int) ≤ (I_203 o 4).toInt ∧ (I_203 o 4).toInt ≤ 5 := hR_205.at0 ra 4 (by decide)
  have g_211 : (0 : Int) ≤ (I_203 o 6).toInt ∧ (I_203 o 6).toInt ≤ 1600 := hR_205.at0 ra 6 (by decide)
  have g_212 : (0 : Int) ≤ (I_203 o 7).toInt ∧ (I_203 o 7).toInt ≤ 1601 := hR_205.at0 ra 7 (by decide)
  have g_213 : (0 : Int) ≤ (I_203 o 8).toInt ∧ (I_203 o 8).toInt ≤ 6 := hR_205.at0 ra 8 (by decide)
  have t_214 : (I_203 o 35).toInt = (I_173 o 35).toInt := by rw [kp_207 35 rfl]
  have s_215 : (I0 o 7).toInt ≤ (I_203 o 7).toInt := by omega
  have s_216 : (I0 o 4).toInt ≤ (I_203 o 4).toInt := by omega
  have s_217 : (I_203 o 7).toInt ≤ (I_203 o 3).toInt := by omega
  have s_218 : 7 * (I0 o 7).toInt - (I0 o 8).toInt + (I0 o 4).toInt ≤ 7 * (I_203 o 7).toInt - (I_203 o 8).toInt + (I_203 o 4).toInt := by omega
  clear s_160 s_161 s_162 s_163 t_164 g_165 g_166 g_167 g_168 g_169 t_170 g_171 t_177 t_178 t_179 t_180 t_181 t_182 t_183 t_209 g_210 g_211 g_212 g_213 t_214 u_193 u_194 u_195 u_196 u_198
  have t_219 : (I_203 o 3).toInt = (I0 o 3).toInt := by rw [hZ I_203 3 rfl hR_205]
  have g_220 : (0 : Int) ≤ (I_203 o 3).toInt ∧ (I_203 o 3).toInt ≤ 1600 := hR_205.at0 ra 3 (by decide)
  have g_221 : (0 : Int) ≤ (I_203 o 4).toInt ∧ (I_203 o 4).toInt ≤ 5 := hR_205.at0 ra 4 (by decide)
  have g_222 : (0 : Int) ≤ (I_203 o 6).toInt ∧ (I_203 o 6).toInt ≤ 1600 := hR_205.at0 ra 6 (by decide)
  have g_223 : (0 : Int) ≤ (I_203 o 7).toInt ∧ (I_203 o 7).toInt ≤ 1601 := hR_205.at0 ra 7 (by decide)
  have g_224 : (0 : Int) ≤ (I_203 o 8).toInt ∧ (I_203 o 8).toInt ≤ 6 := hR_205.at0 ra 8 (by decide)
  have t_225 : (I_203 o 35).toInt = (I0 o 35).toInt := by rw [hZ I_203 35 rfl hR_205]
  have g_226 : (0 : Int) ≤ (I_203 o 35).toInt ∧ (I_203 o 35).toInt ≤ 1 := hR_205.at0 ra 35 (by decide)
  have w_227 : I_203 (o + 9) = I0 (o + 9) := (fr_206 (o + 9) (by first | omega | (dsimp only; omega))).trans w_186
  have l_228 : (999 : Int32).toInt = 999 := rfl
  refine y_Model_numeralg hok hw ra hz14 hz15 hz16 hz17 hz18 hz19 (by first | omega | (intro h; omega) | exact Or.inl rfl | exact Or.inr rfl) u_200 u_201 hR_205 (fun r_229 I_238 L_239 hR_240 fr_241 kp_242 u_230 u_231 u_232 u_233 u_234 u_235 u_236 gn_237 => ⟨r_229, I_238, L_239, rfl, rfl, ?_⟩)
  replace hg := gt_b3 gn_237 hg
  clear gn_237
  have hf_243 : Fm (fun c => c = o ∨ c = o + 9 ∨ (o + 19 ≤ c ∧ c < o + 25)) I0 I_238 := hf_208.call fr_241 (fun c hc => by first | exact hc | (dsimp only at hc ⊢; omega) | omega)
  have t_244 : (I_238 o 3).toInt = (I_203 o 3).toInt := by rw [kp_242 3 rfl]
  have g_245 : (0 : Int) ≤ (I_238 o 4).toInt ∧ (I_238 o 4).toInt ≤ 5 := hR_240.at0 ra 4 (by decide)
  have g_246 : (0 : Int) ≤ (I_238 o 6).toInt ∧ (I_238 o 6).toInt ≤ 1600 := hR_240.at0 ra 6 (by decide)
  have g_247 : (0 : Int) ≤ (I_238 o 7).toInt ∧ (I_238 o 7).toInt ≤ 1601 := hR_240.at0 ra 7 (by decide)
  have g_248 : (0 : Int) ≤ (I_238 o 8).toInt ∧ (I_238 o 8).toInt ≤ 6 := hR_240.at0 ra 8 (by decide)
  have t_249 : (I_238 o 35).toInt = (I_203 o 35).toInt := by rw [kp_242 35 rfl]
  have s_250 : (I0 o 7).toInt ≤ (I_238 o 7).toInt := by omega
  have s_251 : (I0 o 4).toInt ≤ (I_238 o 4).toInt := by omega
  have s_252 : (I_238 o 7).toInt ≤ (I_238 o 3).toInt := by omega
  have s_253 : 7 * (I0 o 7).toInt - (I0 o 8).toInt + (I0 o 4).toInt ≤ 7 * (I_238 o 7).toInt - (I_238 o 8).toInt + (I_238 o 4).toInt := by omega
  clear s_215 s_216 s_217 s_218 t_219 g_220 g_221 g_222 g_223 g_224 t_225 g_226 t_244 g_245 g_246 g_247 g_248 t_249 u_230 u_231 u_232 u_233
  have t_254 : (I_238 o 3).toInt = (I0 o 3).toInt := by rw [hZ I_238 3 rfl hR_240]
  have g_255 : (0 : Int) ≤ (I_238 o 3).toInt ∧ (I_238 o 3).toInt ≤ 1600 := hR_240.at0 ra 3 (by decide)
  have g_256 : (0 : Int) ≤ (I_238 o 4).toInt ∧ (I_238 o 4).toInt ≤ 5 := hR_240.at0 ra 4 (by decide)
  have g_257 : (0 : Int) ≤ (I_238 o 6).toInt ∧ (I_238 o 6).toInt ≤ 1600 := hR_240.at0 ra 6 (by decide)
  have g_258 : (0 : Int) ≤ (I_238 o 7).toInt ∧ (I_238 o 7).toInt ≤ 1601 := hR_240.at0 ra 7 (by decide)
  have g_259 : (0 : Int) ≤ (I_238 o 8).toInt ∧ (I_238 o 8).toInt ≤ 6 := hR_240.at0 ra 8 (by decide)
  have t_260 : (I_238 o 35).toInt = (I0 o 35).toInt := by rw [hZ I_238 35 rfl hR_240]
  have g_261 : (0 : Int) ≤ (I_238 o 35).toInt ∧ (I_238 o 35).toInt ≤ 1 := hR_240.at0 ra 35 (by decide)
  have w_262 : I_238 (o + 9) = I0 (o + 9) := (fr_241 (o + 9) (by first | omega | (dsimp only; omega))).trans w_227
  refine ⟨tIn (by omega) (by omega), fun I_263 e_264 => ?_⟩
  replace hg := gt_let (y := tI I_263) (tI_q e_264) hg
  have hR_265 : RI R I_263 := hR_240.up ra 21 (by decide) (Or.inl rfl) e_264 (i_lo _) (i_hi _)
  have hf_266 : Fm (fun c => c = o ∨ c = o + 9 ∨ (o + 19 ≤ c ∧ c < o + 25)) I0 I_263 := hf_243.set (by first | rfl | omega | (dsimp only; omega)) e_264
  have t_267 : (I_263 o 3).toInt = (I_238 o 3).toInt := by rw [← e_264, q_u_ne (by omega)]
  have t_268 : (I_263 o 4).toInt = (I_238 o 4).toInt := by rw [← e_264, q_u_ne (by omega)]
  have t_269 : (I_263 o 6).toInt = (I_238 o 6).toInt := by rw [← e_264, q_u_ne (by omega)]
  have t_270 : (I_263 o 7).toInt = (I_238 o 7).toInt := by rw [← e_264, q_u_ne (by omega)]
  have t_271 : (I_263 o 8).toInt = (I_238 o 8).toInt := by rw [← e_264, q_u_ne (by omega)]
  have t_272 : (I_263 o 9).toInt = (I_238 o 9).toInt := by rw [← e_264, q_u_ne (by omega)]
  have t_273 : (I_263 o 35).toInt = (I_238 o 35).toInt := by rw [← e_264, q_u_ne (by omega)]
  have k_274 : MPo I_263 o := u_235.fr (by rw [← e_264, q_u_ne (by omega)]) (by rw [← e_264, q_u_ne (by omega)])
  have k_275 : MTk I_263 o := u_236.fr (by rw [← e_264, q_u_ne (by omega)]) (by rw [← e_264, q_u_ne (by omega)]) (by rw [← e_264, q_u_ne (by omega)])
  have w_276 : I_263 (o + 9) = I0 (o + 9) := by rw [← e_264, q_u_ne (by omega)]; exact w_262
  refine y_Model_isWordg hok hw ra hR_265 (fun r_277 u_278 u_279 gn_280 => ⟨r_277, I_263, L_239, rfl, rfl, ?_⟩)
  replace hg := gt_let gn_280 hg
  clear gn_280
  have b_281 : 0 ≤ r_277.toInt ∧ r_277.toInt ≤ 1 := u_278.rg
  refine y_Model_mustg hok hw ra hz14 hz15 hz16 hz17 hz18 hz19 (by first | omega | (intro h; omega) | exact Or.inl rfl | exact Or.inr rfl) k_274 k_275 hR_265 (fun I_293 L_294 hR_295 fr_296 kp_297 u_283 u_284 u_285 u_286 u_287 u_288 u_289 u_290 u_291 gn_292 => ⟨I_293, L_294, rfl, rfl, ?_⟩)
  replace hg := gt_b3 gn_292 hg
  clear gn_292
  have hf_298 : Fm (fun c => c = o ∨ c = o + 9 ∨ (o + 19 ≤ c ∧ c < o + 25)) I0 I_293 := hf_266.call fr_296 (fun c hc => by first | exact hc | (dsimp only at hc ⊢; omega) | omega)
  have t_299 : (I_293 o 3).toInt = (I_263 o 3).toInt := by rw [kp_297 3 rfl]
  have g_300 : (0 : Int) ≤ (I_293 o 4).toInt ∧ (I_293 o 4).toInt ≤ 5 := hR_295.at0 ra 4 (by decide)
  have g_301 : (0 : Int) ≤ (I_293 o 6).toInt ∧ (I_293 o 6).toInt ≤ 1600 := hR_295.at0 ra 6 (by decide)
  have g_302 : (0 : Int) ≤ (I_293 o 7).toInt ∧ (I_293 o 7).toInt ≤ 1601 := hR_295.at0 ra 7 (by decide)
  have g_303 : (0 : Int) ≤ (I_293 o 8).toInt ∧ (I_293 o 8).toInt ≤ 6 := hR_295.at0 ra 8 (by decide)
  have t_304 : (I_293 o 35).toInt = (I_263 o 35).toInt := by rw [kp_297 35 rfl]
  have s_305 : (I0 o 7).toInt ≤ (I_293 o 7).toInt := by omega
  have s_306 : (I0 o 4).toInt ≤ (I_293 o 4).toInt := by omega
  have s_307 : (I_293 o 7).toInt ≤ (I_293 o 3).toInt := by omega
  have s_308 : 7 * (I0 o 7).toInt - (I0 o 8).toInt + (I0 o 4).toInt ≤ 7 * (I_293 o 7).toInt - (I_293 o 8).toInt + (I_293 o 4).toInt := by omega
  clear s_250 s_251 s_252 s_253 t_254 g_255 g_256 g_257 g_258 g_259 t_260 g_261 t_267 t_268 t_269 t_270 t_271 t_272 t_273 t_299 g_300 g_301 g_302 g_303 t_304 u_283 u_284 u_285 u_286 u_288
  have t_309 : (I_293 o 3).toInt = (I0 o 3).toInt := by rw [hZ I_293 3 rfl hR_295]
  have g_310 : (0 : Int) ≤ (I_293 o 3).toInt ∧ (I_293 o 3).toInt ≤ 1600 := hR_295.at0 ra 3 (by decide)
  have g_311 : (0 : Int) ≤ (I_293 o 4).toInt ∧ (I_293 o 4).toInt ≤ 5 := hR_295.at0 ra 4 (by decide)
  have g_312 : (0 : Int) ≤ (I_293 o 6).toInt ∧ (I_293 o 6).toInt ≤ 1600 := hR_295.at0 ra 6 (by decide)
  have g_313 : (0 : Int) ≤ (I_293 o 7).toInt ∧ (I_293 o 7).toInt ≤ 1601 := hR_295.at0 ra 7 (by decide)
  have g_314 : (0 : Int) ≤ (I_293 o 8).toInt ∧ (I_293 o 8).toInt ≤ 6 := hR_295.at0 ra 8 (by decide)
  have t_315 : (I_293 o 35).toInt = (I0 o 35).toInt := by rw [hZ I_293 35 rfl hR_295]
  have g_316 : (0 : Int) ≤ (I_293 o 35).toInt ∧ (I_293 o 35).toInt ≤ 1 := hR_295.at0 ra 35 (by decide)
  have w_317 : I_293 (o + 9) = I0 (o + 9) := (fr_296 (o + 9) (by first | omega | (dsimp only; omega))).trans w_276
  have l_318 : (1 : Int32).toInt = 1 := rfl
  refine y_Model_numeralg hok hw ra hz14 hz15 hz16 hz17 hz18 hz19 (by first | omega | (intro h; omega) | exact Or.inl rfl | exact Or.inr rfl) u_290 u_291 hR_295 (fun r_319 I_328 L_329 hR_330 fr_331 kp_332 u_320 u_321 u_322 u_323 u_324 u_325 u_326 gn_327 => ⟨r_319, I_328, L_329, rfl, rfl, ?_⟩)
  replace hg := gt_b3 gn_327 hg
  clear gn_327
  have hf_333 : Fm (fun c => c = o ∨ c = o + 9 ∨ (o + 19 ≤ c ∧ c < o + 25)) I0 I_328 := hf_298.call fr_331 (fun c hc => by first | exact hc | (dsimp only at hc ⊢; omega) | omega)
  have t_334 : (I_328 o 3).toInt = (I_293 o 3).toInt := by rw [kp_332 3 rfl]
  have g_335 : (0 : Int) ≤ (I_328 o 4).toInt ∧ (I_328 o 4).toInt ≤ 5 := hR_330.at0 ra 4 (by decide)
  have g_336 : (0 : Int) ≤ (I_328 o 6).toInt ∧ (I_328 o 6).toInt ≤ 1600 := hR_330.at0 ra 6 (by decide)
  have g_337 : (0 : Int) ≤ (I_328 o 7).toInt ∧ (I_328 o 7).toInt ≤ 1601 := hR_330.at0 ra 7 (by decide)
  have g_338 : (0 : Int) ≤ (I_328 o 8).toInt ∧ (I_328 o 8).toInt ≤ 6 := hR_330.at0 ra 8 (by decide)
  have t_339 : (I_328 o 35).toInt = (I_293 o 35).toInt := by rw [kp_332 35 rfl]
  have s_340 : (I0 o 7).toInt ≤ (I_328 o 7).toInt := by omega
  have s_341 : (I0 o 4).toInt ≤ (I_328 o 4).toInt := by omega
  have s_342 : (I_328 o 7).toInt ≤ (I_328 o 3).toInt := by omega
  have s_343 : 7 * (I0 o 7).toInt - (I0 o 8).toInt + (I0 o 4).toInt ≤ 7 * (I_328 o 7).toInt - (I_328 o 8).toInt + (I_328 o 4).toInt := by omega
  clear s_305 s_306 s_307 s_308 t_309 g_310 g_311 g_312 g_313 g_314 t_315 g_316 t_334 g_335 g_336 g_337 g_338 t_339 u_320 u_321 u_322 u_323
  have t_344 : (I_328 o 3).toInt = (I0 o 3).toInt := by rw [hZ I_328 3 rfl hR_330]
  have g_345 : (0 : Int) ≤ (I_328 o 3).toInt ∧ (I_328 o 3).toInt ≤ 1600 := hR_330.at0 ra 3 (by decide)
  have g_346 : (0 : Int) ≤ (I_328 o 4).toInt ∧ (I_328 o 4).toInt ≤ 5 := hR_330.at0 ra 4 (by decide)
  have g_347 : (0 : Int) ≤ (I_328 o 6).toInt ∧ (I_328 o 6).toInt ≤ 1600 := hR_330.at0 ra 6 (by decide)
  have g_348 : (0 : Int) ≤ (I_328 o 7).toInt ∧ (I_328 o 7).toInt ≤ 1601 := hR_330.at0 ra 7 (by decide)
  have g_349 : (0 : Int) ≤ (I_328 o 8).toInt ∧ (I_328 o 8).toInt ≤ 6 := hR_330.at0 ra 8 (by decide)
  have t_350 : (I_328 o 35).toInt = (I0 o 35).toInt := by rw [hZ I_328 35 rfl hR_330]
  have g_351 : (0 : Int) ≤ (I_328 o 35).toInt ∧ (I_328 o 35).toInt ≤ 1 := hR_330.at0 ra 35 (by decide)
  have w_352 : I_328 (o + 9) = I0 (o + 9) := (fr_331 (o + 9) (by first | omega | (dsimp only; omega))).trans w_317
  refine ⟨tIn (by omega) (by omega), fun I_353 e_354 => ?_⟩
  replace hg := gt_let (y := tI I_353) (tI_q e_354) hg
  have hR_355 : RI R I_353 := hR_330.up ra 22 (by decide) (Or.inl rfl) e_354 (i_lo _) (i_hi _)
  have hf_356 : Fm (fun c => c = o ∨ c = o + 9 ∨ (o + 19 ≤ c ∧ c < o + 25)) I0 I_353 := hf_333.set (by first | rfl | omega | (dsimp only; omega)) e_354
  have t_357 : (I_353 o 3).toInt = (I_328 o 3).toInt := by rw [← e_354, q_u_ne (by omega)]
  have t_358 : (I_353 o 4).toInt = (I_328 o 4).toInt := by rw [← e_354, q_u_ne (by omega)]
  have t_359 : (I_353 o 6).toInt = (I_328 o 6).toInt := by rw [← e_354, q_u_ne (by omega)]
  have t_360 : (I_353 o 7).toInt = (I_328 o 7).toInt := by rw [← e_354, q_u_ne (by omega)]
  have t_361 : (I_353 o 8).toInt = (I_328 o 8).toInt := by rw [← e_354, q_u_ne (by omega)]
  have t_362 : (I_353 o 9).toInt = (I_328 o 9).toInt := by rw [← e_354, q_u_ne (by omega)]
  have t_363 : (I_353 o 35).toInt = (I_328 o 35).toInt := by rw [← e_354, q_u_ne (by omega)]
  have k_364 : MPo I_353 o := u_325.fr (by rw [← e_354, q_u_ne (by omega)]) (by rw [← e_354, q_u_ne (by omega)])
  have k_365 : MTk I_353 o := u_326.fr (by rw [← e_354, q_u_ne (by omega)]) (by rw [← e_354, q_u_ne (by omega)]) (by rw [← e_354, q_u_ne (by omega)])
  have w_366 : I_353 (o + 9) = I0 (o + 9) := by rw [← e_354, q_u_ne (by omega)]; exact w_352
  refine y_Model_isWordg hok hw ra hR_355 (fun r_367 u_368 u_369 gn_370 => ⟨r_367, I_353, L_329, rfl, rfl, ?_⟩)
  replace hg := gt_let gn_370 hg
  clear gn_370
  have b_371 : 0 ≤ r_367.toInt ∧ r_367.toInt ≤ 1 := u_368.rg
  refine y_Model_mustg hok hw ra hz14 hz15 hz16 hz17 hz18 hz19 (by first | omega | (intro h; omega) | exact Or.inl rfl | exact Or.inr rfl) k_364 k_365 hR_355 (fun I_383 L_384 hR_385 fr_386 kp_387 u_373 u_374 u_375 u_376 u_377 u_378 u_379 u_380 u_381 gn_382 => ⟨I_383, L_384, rfl, rfl, ?_⟩)
  replace hg := gt_b3 gn_382 hg
  clear gn_382
  have hf_388 : Fm (fun c => c = o ∨ c = o + 9 ∨ (o + 19 ≤ c ∧ c < o + 25)) I0 I_383 := hf_356.call fr_386 (fun c hc => by first | exact hc | (dsimp only at hc ⊢; omega) | omega)
  have t_389 : (I_383 o 3).toInt = (I_353 o 3).toInt := by rw [kp_387 3 rfl]
  have g_390 : (0 : Int) ≤ (I_383 o 4).toInt ∧ (I_383 o 4).toInt ≤ 5 := hR_385.at0 ra 4 (by decide)
  have g_391 : (0 : Int) ≤ (I_383 o 6).toInt ∧ (I_383 o 6).toInt ≤ 1600 := hR_385.at0 ra 6 (by decide)
  have g_392 : (0 : Int) ≤ (I_383 o 7).toInt ∧ (I_383 o 7).toInt ≤ 1601 := hR_385.at0 ra 7 (by decide)
  have g_393 : (0 : Int) ≤ (I_383 o 8).toInt ∧ (I_383 o 8).toInt ≤ 6 := hR_385.at0 ra 8 (by decide)
  have t_394 : (I_383 o 35).toInt = (I_353 o 35).toInt := by rw [kp_387 35 rfl]
  have s_395 : (I0 o 7).toInt ≤ (I_383 o 7).toInt := by omega
  have s_396 : (I0 o 4).toInt ≤ (I_383 o 4).toInt := by omega
  have s_397 : (I_383 o 7).toInt ≤ (I_383 o 3).toInt := by omega
  have s_398 : 7 * (I0 o 7).toInt - (I0 o 8).toInt + (I0 o 4).toInt ≤ 7 * (I_383 o 7).toInt - (I_383 o 8).toInt + (I_383 o 4).toInt := by omega
  clear s_340 s_341 s_342 s_343 t_344 g_345 g_346 g_347 g_348 g_349 t_350 g_351 t_357 t_358 t_359 t_360 t_361 t_362 t_363 t_389 g_390 g_391 g_392 g_393 t_394 u_373 u_374 u_375 u_376 u_378
  have t_399 : (I_383 o 3).toInt = (I0 o 3).toInt := by rw [hZ I_383 3 rfl hR_385]
  have g_400 : (0 : Int) ≤ (I_383 o 3).toInt ∧ (I_383 o 3).toInt ≤ 1600 := hR_385.at0 ra 3 (by decide)
  have g_401 : (0 : Int) ≤ (I_383 o 4).toInt ∧ (I_383 o 4).toInt ≤ 5 := hR_385.at0 ra 4 (by decide)
  have g_402 : (0 : Int) ≤ (I_383 o 6).toInt ∧ (I_383 o 6).toInt ≤ 1600 := hR_385.at0 ra 6 (by decide)
  have g_403 : (0 : Int) ≤ (I_383 o 7).toInt ∧ (I_383 o 7).toInt ≤ 1601 := hR_385.at0 ra 7 (by decide)
  have g_404 : (0 : Int) ≤ (I_383 o 8).toInt ∧ (I_383 o 8).toInt ≤ 6 := hR_385.at0 ra 8 (by decide)
  have t_405 : (I_383 o 35).toInt = (I0 o 35).toInt := by rw [hZ I_383 35 rfl hR_385]
  have g_406 : (0 : Int) ≤ (I_383 o 35).toInt ∧ (I_383 o 35).toInt ≤ 1 := hR_385.at0 ra 35 (by decide)
  have w_407 : I_383 (o + 9) = I0 (o + 9) := (fr_386 (o + 9) (by first | omega | (dsimp only; omega))).trans w_366
  refine y_Model_numeralg hok hw ra hz14 hz15 hz16 hz17 hz18 hz19 (by first | omega | (intro h; omega) | exact Or.inl rfl | exact Or.inr rfl) u_380 u_381 hR_385 (fun r_408 I_417 L_418 hR_419 fr_420 kp_421 u_409 u_410 u_411 u_412 u_413 u_414 u_415 gn_416 => ⟨r_408, I_417, L_418, rfl, rfl, ?_⟩)
  replace hg := gt_b3 gn_416 hg
  clear gn_416
  have hf_422 : Fm (fun c => c = o ∨ c = o + 9 ∨ (o + 19 ≤ c ∧ c < o + 25)) I0 I_417 := hf_388.call fr_420 (fun c hc => by first | exact hc | (dsimp only at hc ⊢; omega) | omega)
  have t_423 : (I_417 o 3).toInt = (I_383 o 3).toInt := by rw [kp_421 3 rfl]
  have g_424 : (0 : Int) ≤ (I_417 o 4).toInt ∧ (I_417 o 4).toInt ≤ 5 := hR_419.at0 ra 4 (by decide)
  have g_425 : (0 : Int) ≤ (I_417 o 6).toInt ∧ (I_417 o 6).toInt ≤ 1600 := hR_419.at0 ra 6 (by decide)
  have g_426 : (0 : Int) ≤ (I_417 o 7).toInt ∧ (I_417 o 7).toInt ≤ 1601 := hR_419.at0 ra 7 (by decide)
  have g_427 : (0 : Int) ≤ (I_417 o 8).toInt ∧ (I_417 o 8).toInt ≤ 6 := hR_419.at0 ra 8 (by decide)
  have t_428 : (I_417 o 35).toInt = (I_383 o 35).toInt := by rw [kp_421 35 rfl]
  have s_429 : (I0 o 7).toInt ≤ (I_417 o 7).toInt := by omega
  have s_430 : (I0 o 4).toInt ≤ (I_417 o 4).toInt := by omega
  have s_431 : (I_417 o 7).toInt ≤ (I_417 o 3).toInt := by omega
  have s_432 : 7 * (I0 o 7).toInt - (I0 o 8).toInt + (I0 o 4).toInt ≤ 7 * (I_417 o 7).toInt - (I_417 o 8).toInt + (I_417 o 4).toInt := by omega
  clear s_395 s_396 s_397 s_398 t_399 g_400 g_401 g_402 g_403 g_404 t_405 g_406 t_423 g_424 g_425 g_426 g_427 t_428 u_409 u_410 u_411 u_412
  have t_433 : (I_417 o 3).toInt = (I0 o 3).toInt := by rw [hZ I_417 3 rfl hR_419]
  have g_434 : (0 : Int) ≤ (I_417 o 3).toInt ∧ (I_417 o 3).toInt ≤ 1600 := hR_419.at0 ra 3 (by decide)
  have g_435 : (0 : Int) ≤ (I_417 o 4).toInt ∧ (I_417 o 4).toInt ≤ 5 := hR_419.at0 ra 4 (by decide)
  have g_436 : (0 : Int) ≤ (I_417 o 6).toInt ∧ (I_417 o 6).toInt ≤ 1600 := hR_419.at0 ra 6 (by decide)
  have g_437 : (0 : Int) ≤ (I_417 o 7).toInt ∧ (I_417 o 7).toInt ≤ 1601 := hR_419.at0 ra 7 (by decide)
  have g_438 : (0 : Int) ≤ (I_417 o 8).toInt ∧ (I_417 o 8).toInt ≤ 6 := hR_419.at0 ra 8 (by decide)
  have t_439 : (I_417 o 35).toInt = (I0 o 35).toInt := by rw [hZ I_417 35 rfl hR_419]
  have g_440 : (0 : Int) ≤ (I_417 o 35).toInt ∧ (I_417 o 35).toInt ≤ 1 := hR_419.at0 ra 35 (by decide)
  have w_441 : I_417 (o + 9) = I0 (o + 9) := (fr_420 (o + 9) (by first | omega | (dsimp only; omega))).trans w_407
  refine ⟨tIn (by omega) (by omega), fun I_442 e_443 => ?_⟩
  replace hg := gt_let (y := tI I_442) (tI_q e_443) hg
  have hR_444 : RI R I_442 := hR_419.up ra 23 (by decide) (Or.inl rfl) e_443 (i_lo _) (i_hi _)
  have hf_445 : Fm (fun c => c = o ∨ c = o + 9 ∨ (o + 19 ≤ c ∧ c < o + 25)) I0 I_442 := hf_422.set (by first | rfl | omega | (dsimp only; omega)) e_443
  have t_446 : (I_442 o 3).toInt = (I_417 o 3).toInt := by rw [← e_443, q_u_ne (by omega)]
  have t_447 : (I_442 o 4).toInt = (I_417 o 4).toInt := by rw [← e_443, q_u_ne (by omega)]
  have t_448 : (I_442 o 6).toInt = (I_417 o 6).toInt := by rw [← e_443, q_u_ne (by omega)]
  have t_449 : (I_442 o 7).toInt = (I_417 o 7).toInt := by rw [← e_443, q_u_ne (by omega)]
  have t_450 : (I_442 o 8).toInt = (I_417 o 8).toInt := by rw [← e_443, q_u_ne (by omega)]
  have t_451 : (I_442 o 9).toInt = (I_417 o 9).toInt := by rw [← e_443, q_u_ne (by omega)]
  have t_452 : (I_442 o 35).toInt = (I_417 o 35).toInt := by rw [← e_443, q_u_ne (by omega)]
  have k_453 : MPo I_442 o := u_414.fr (by rw [← e_443, q_u_ne (by omega)]) (by rw [← e_443, q_u_ne (by omega)])
  have k_454 : MTk I_442 o := u_415.fr (by rw [← e_443, q_u_ne (by omega)]) (by rw [← e_443, q_u_ne (by omega)]) (by rw [← e_443, q_u_ne (by omega)])
  have w_455 : I_442 (o + 9) = I0 (o + 9) := by rw [← e_443, q_u_ne (by omega)]; exact w_441
  have l_456 : (1668248436 : Int32).toInt = 1668248436 := rfl
  refine y_Model_isWordg hok hw ra hR_444 (fun r_457 u_458 u_459 gn_460 => ⟨r_457, I_442, L_418, rfl, rfl, ?_⟩)
  replace hg := gt_let gn_460 hg
  clear gn_460
  have b_461 : 0 ≤ r_457.toInt ∧ r_457.toInt ≤ 1 := u_458.rg
  refine y_Model_mustg hok hw ra hz14 hz15 hz16 hz17 hz18 hz19 (by first | omega | (intro h; omega) | exact Or.inl rfl | exact Or.inr rfl) k_453 k_454 hR_444 (fun I_473 L_474 hR_475 fr_476 kp_477 u_463 u_464 u_465 u_466 u_467 u_468 u_469 u_470 u_471 gn_472 => ⟨I_473, L_474, rfl, rfl, ?_⟩)
  replace hg := gt_b3 gn_472 hg
  clear gn_472
  have hf_478 : Fm (fun c => c = o ∨ c = o + 9 ∨ (o + 19 ≤ c ∧ c < o + 25)) I0 I_473 := hf_445.call fr_476 (fun c hc => by first | exact hc | (dsimp only at hc ⊢; omega) | omega)
  have t_479 : (I_473 o 3).toInt = (I_442 o 3).toInt := by rw [kp_477 3 rfl]
  have g_480 : (0 : Int) ≤ (I_473 o 4).toInt ∧ (I_473 o 4).toInt ≤ 5 := hR_475.at0 ra 4 (by decide)
  have g_481 : (0 : Int) ≤ (I_473 o 6).toInt ∧ (I_473 o 6).toInt ≤ 1600 := hR_475.at0 ra 6 (by decide)
  have g_482 : (0 : Int) ≤ (I_473 o 7).toInt ∧ (I_473 o 7).toInt ≤ 1601 := hR_475.at0 ra 7 (by decide)
  have g_483 : (0 : Int) ≤ (I_473 o 8).toInt ∧ (I_473 o 8).toInt ≤ 6 := hR_475.at0 ra 8 (by decide)
  have t_484 : (I_473 o 35).toInt = (I_442 o 35).toInt := by rw [kp_477 35 rfl]
  have s_485 : (I0 o 7).toInt ≤ (I_473 o 7).toInt := by omega
  have s_486 : (I0 o 4).toInt ≤ (I_473 o 4).toInt := by omega
  have s_487 : (I_473 o 7).toInt ≤ (I_473 o 3).toInt := by omega
  have s_488 : 7 * (I0 o 7).toInt - (I0 o 8).toInt + (I0 o 4).toInt ≤ 7 * (I_473 o 7).toInt - (I_473 o 8).toInt + (I_473 o 4).toInt := by omega
  clear s_429 s_430 s_431 s_432 t_433 g_434 g_435 g_436 g_437 g_438 t_439 g_440 t_446 t_447 t_448 t_449 t_450 t_451 t_452 t_479 g_480 g_481 g_482 g_483 t_484 u_463 u_464 u_465 u_466 u_468
  have t_489 : (I_473 o 3).toInt = (I0 o 3).toInt := by rw [hZ I_473 3 rfl hR_475]
  have g_490 : (0 : Int) ≤ (I_473 o 3).toInt ∧ (I_473 o 3).toInt ≤ 1600 := hR_475.at0 ra 3 (by decide)
  have g_491 : (0 : Int) ≤ (I_473 o 4).toInt ∧ (I_473 o 4).toInt ≤ 5 := hR_475.at0 ra 4 (by decide)
  have g_492 : (0 : Int) ≤ (I_473 o 6).toInt ∧ (I_473 o 6).toInt ≤ 1600 := hR_475.at0 ra 6 (by decide)
  have g_493 : (0 : Int) ≤ (I_473 o 7).toInt ∧ (I_473 o 7).toInt ≤ 1601 := hR_475.at0 ra 7 (by decide)
  have g_494 : (0 : Int) ≤ (I_473 o 8).toInt ∧ (I_473 o 8).toInt ≤ 6 := hR_475.at0 ra 8 (by decide)
  have t_495 : (I_473 o 35).toInt = (I0 o 35).toInt := by rw [hZ I_473 35 rfl hR_475]
  have g_496 : (0 : Int) ≤ (I_473 o 35).toInt ∧ (I_473 o 35).toInt ≤ 1 := hR_475.at0 ra 35 (by decide)
  have w_497 : I_473 (o + 9) = I0 (o + 9) := (fr_476 (o + 9) (by first | omega | (dsimp only; omega))).trans w_455
  have l_498 : (99 : Int32).toInt = 99 := rfl
  refine y_Model_numeralg hok hw ra hz14 hz15 hz16 hz17 hz18 hz19 (by first | omega | (intro h; omega) | exact Or.inl rfl | exact Or.inr rfl) u_470 u_471 hR_475 (fun r_499 I_508 L_509 hR_510 fr_511 kp_512 u_500 u_501 u_502 u_503 u_504 u_505 u_506 gn_507 => ⟨r_499, I_508, L_509, rfl, rfl, ?_⟩)
  replace hg := gt_b3 gn_507 hg
  clear gn_507
  have hf_513 : Fm (fun c => c = o ∨ c = o + 9 ∨ (o + 19 ≤ c ∧ c < o + 25)) I0 I_508 := hf_478.call fr_511 (fun c hc => by first | exact hc | (dsimp only at hc ⊢; omega) | omega)
  have t_514 : (I_508 o 3).toInt = (I_473 o 3).toInt := by rw [kp_512 3 rfl]
  have g_515 : (0 : Int) ≤ (I_508 o 4).toInt ∧ (I_508 o 4).toInt ≤ 5 := hR_510.at0 ra 4 (by decide)
  have g_516 : (0 : Int) ≤ (I_508 o 6).toInt ∧ (I_508 o 6).toInt ≤ 1600 := hR_510.at0 ra 6 (by decide)
  have g_517 : (0 : Int) ≤ (I_508 o 7).toInt ∧ (I_508 o 7).toInt ≤ 1601 := hR_510.at0 ra 7 (by decide)
  have g_518 : (0 : Int) ≤ (I_508 o 8).toInt ∧ (I_508 o 8).toInt ≤ 6 := hR_510.at0 ra 8 (by decide)
  have t_519 : (I_508 o 35).toInt = (I_473 o 35).toInt := by rw [kp_512 35 rfl]
  have s_520 : (I0 o 7).toInt ≤ (I_508 o 7).toInt := by omega
  have s_521 : (I0 o 4).toInt ≤ (I_508 o 4).toInt := by omega
  have s_522 : (I_508 o 7).toInt ≤ (I_508 o 3).toInt := by omega
  have s_523 : 7 * (I0 o 7).toInt - (I0 o 8).toInt + (I0 o 4).toInt ≤ 7 * (I_508 o 7).toInt - (I_508 o 8).toInt + (I_508 o 4).toInt := by omega
  clear s_485 s_486 s_487 s_488 t_489 g_490 g_491 g_492 g_493 g_494 t_495 g_496 t_514 g_515 g_516 g_517 g_518 t_519 u_500 u_501 u_502 u_503
  have t_524 : (I_508 o 3).toInt = (I0 o 3).toInt := by rw [hZ I_508 3 rfl hR_510]
  have g_525 : (0 : Int) ≤ (I_508 o 3).toInt ∧ (I_508 o 3).toInt ≤ 1600 := hR_510.at0 ra 3 (by decide)
  have g_526 : (0 : Int) ≤ (I_508 o 4).toInt ∧ (I_508 o 4).toInt ≤ 5 := hR_510.at0 ra 4 (by decide)
  have g_527 : (0 : Int) ≤ (I_508 o 6).toInt ∧ (I_508 o 6).toInt ≤ 1600 := hR_510.at0 ra 6 (by decide)
  have g_528 : (0 : Int) ≤ (I_508 o 7).toInt ∧ (I_508 o 7).toInt ≤ 1601 := hR_510.at0 ra 7 (by decide)
  have g_529 : (0 : Int) ≤ (I_508 o 8).toInt ∧ (I_508 o 8).toInt ≤ 6 := hR_510.at0 ra 8 (by decide)
  have t_530 : (I_508 o 35).toInt = (I0 o 35).toInt := by rw [hZ I_508 35 rfl hR_510]
  have g_531 : (0 : Int) ≤ (I_508 o 35).toInt ∧ (I_508 o 35).toInt ≤ 1 := hR_510.at0 ra 35 (by decide)
  have w_532 : I_508 (o + 9) = I0 (o + 9) := (fr_511 (o + 9) (by first | omega | (dsimp only; omega))).trans w_497
  refine ⟨tIn (by omega) (by omega), fun I_533 e_534 => ?_⟩
  replace hg := gt_let (y := tI I_533) (tI_q e_534) hg
  have hR_535 : RI R I_533 := hR_510.up ra 24 (by decide) (Or.inl rfl) e_534 (i_lo _) (i_hi _)
  have hf_536 : Fm (fun c => c = o ∨ c = o + 9 ∨ (o + 19 ≤ c ∧ c < o + 25)) I0 I_533 := hf_513.set (by first | rfl | omega | (dsimp only; omega)) e_534
  have t_537 : (I_533 o 3).toInt = (I_508 o 3).toInt := by rw [← e_534, q_u_ne (by omega)]
  have t_538 : (I_533 o 4).toInt = (I_508 o 4).toInt := by rw [← e_534, q_u_ne (by omega)]
  have t_539 : (I_533 o 6).toInt = (I_508 o 6).toInt := by rw [← e_534, q_u_ne (by omega)]
  have t_540 : (I_533 o 7).toInt = (I_508 o 7).toInt := by rw [← e_534, q_u_ne (by omega)]
  have t_541 : (I_533 o 8).toInt = (I_508 o 8).toInt := by rw [← e_534, q_u_ne (by omega)]
  have t_542 : (I_533 o 9).toInt = (I_508 o 9).toInt := by rw [← e_534, q_u_ne (by omega)]
  have t_543 : (I_533 o 35).toInt = (I_508 o 35).toInt := by rw [← e_534, q_u_ne (by omega)]
  have k_544 : MPo I_533 o := u_505.fr (by rw [← e_534, q_u_ne (by omega)]) (by rw [← e_534, q_u_ne (by omega)])
  have k_545 : MTk I_533 o := u_506.fr (by rw [← e_534, q_u_ne (by omega)]) (by rw [← e_534, q_u_ne (by omega)]) (by rw [← e_534, q_u_ne (by omega)])
  have w_546 : I_533 (o + 9) = I0 (o + 9) := by rw [← e_534, q_u_ne (by omega)]; exact w_532
  refine y_Model_isGoodg hok hw ra hR_535 (fun r_547 u_548 u_549 u_550 gn_551 => ⟨r_547, I_533, L_509, rfl, rfl, ?_⟩)
  replace hg := gt_let gn_551 hg
  clear gn_551
  have b_552 : 0 ≤ r_547.toInt ∧ r_547.toInt ≤ 1 := u_548.rg
  refine ⟨fun c_553 => ?_, fun c_553 => ?_⟩
  · have d_554 := iEq c_553
    have i_555 := u_550 (by omega)
    replace hg := gt_pos (by first | exact d_554 | omega) hg
    exact (hp _ _ hR_535 hf_536 (by first | omega | (intro h; omega) | exact Or.inl rfl | exact Or.inr rfl) (by first | omega | (intro h; omega) | exact Or.inl rfl | exact Or.inr rfl) (by first | omega | (intro h; omega) | exact Or.inl rfl | exact Or.inr rfl) (by first | omega | (intro h; omega) | exact Or.inl rfl | exact Or.inr rfl) k_544 k_545 hg.symm)
  · have d_556 := iNe c_553
    have i_557 := u_549 (by omega)
    replace hg := gt_neg (by first | exact d_556 | omega) hg
    have g_558 : (0 : Int) ≤ (I_533 o 35).toInt ∧ (I_533 o 35).toInt ≤ 1 := hR_535.at0 ra 35 (by decide)
    replace hg := gt_let (y := (I_533 o 35).toInt) rfl hg
    have rk : (I_533 (o + 9) (I_533 o 35 : Int32).toNatClampNeg).toInt = (I0 (o + 9) (I0 o 35 : Int32).toNatClampNeg).toInt := by rw [w_546, hZ I_533 35 rfl hR_535]
    refine ⟨tIn (by omega) (by omega), ?_⟩
    have g_559 : (0 : Int) ≤ (I_533 (o + 9) ((I_533 o 35) : Int32).toNatClampNeg).toInt ∧ (I_533 (o + 9) ((I_533 o 35) : Int32).toNatClampNeg).toInt ≤ 5 := hR_535.at ra 9 _ (by decide)
    replace hg := gt_let (y := (I_533 (o + 9) ((I_533 o 35) : Int32).toNatClampNeg).toInt) rfl hg
    have a_560 : ((I_533 (o + 9) ((I_533 o 35) : Int32).toNatClampNeg) + 1).toInt = (I_533 (o + 9) ((I_533 o 35) : Int32).toNatClampNeg).toInt + (1 : Int32).toInt := tAdd (by omega) (by omega)
    replace hg := gt_let (y := (((I_533 (o + 9) ((I_533 o 35) : Int32).toNatClampNeg) + 1) : Int32).toInt) (by omega) hg
    refine ⟨tIn (by omega) (by omega), fun I_561 e_562 => ?_⟩
    replace hg := gt_let (y := tI I_561) (tI_q e_562) hg
    have hR_563 : RI R I_561 := hR_535.up ra 9 (by decide) (Or.inl rfl) e_562 (show (0 : Int) ≤ ((I_533 (o + 9) ((I_533 o 35) : Int32).toNatClampNeg) + 1).toInt by omega) (show ((I_533 (o + 9) ((I_533 o 35) : Int32).toNatClampNeg) + 1).toInt ≤ (5 : Int) by omega)
    have hf_564 : Fm (fun c => c = o ∨ c = o + 9 ∨ (o + 19 ≤ c ∧ c < o + 25)) I0 I_561 := hf_536.set (by first | rfl | omega | (dsimp only; omega)) e_562
    have t_565 : (I_561 o 3).toInt = (I_533 o 3).toInt := by rw [← e_562, q_u_ne (by omega)]
    have t_566 : (I_561 o 4).toInt = (I_533 o 4).toInt := by rw [← e_562, q_u_ne (by omega)]
    have t_567 : (I_561 o 6).toInt = (I_533 o 6).toInt := by rw [← e_562, q_u_ne (by omega)]
    have t_568 : (I_561 o 7).toInt = (I_533 o 7).toInt := by rw [← e_562, q_u_ne (by omega)]
    have t_569 : (I_561 o 8).toInt = (I_533 o 8).toInt := by rw [← e_562, q_u_ne (by omega)]
    have t_570 : (I_561 o 9).toInt = (I_533 o 9).toInt := by rw [← e_562, q_u_ne (by omega)]
    have t_571 : (I_561 o 35).toInt = (I_533 o 35).toInt := by rw [← e_562, q_u_ne (by omega)]
    have k_572 : MPo I_561 o := k_544.fr (by rw [← e_562, q_u_ne (by omega)]) (by rw [← e_562, q_u_ne (by omega)])
    have k_573 : MTk I_561 o := k_545.fr (by rw [← e_562, q_u_ne (by omega)]) (by rw [← e_562, q_u_ne (by omega)]) (by rw [← e_562, q_u_ne (by omega)])
    exact (hp _ _ hR_563 hf_564 (by first | omega | (intro h; omega) | exact Or.inl rfl | exact Or.inr rfl) (by first | omega | (intro h; omega) | exact Or.inl rfl | exact Or.inr rfl) (by first | omega | (intro h; omega) | exact Or.inl rfl | exact Or.inr rfl) (by first | omega | (intro h; omega) | exact Or.inl rfl | exact Or.inr rfl) k_572 k_573 hg.symm)
theorem y_Model_readTowng {D : va_G} {cA : FieldType → ClassId} {b : Nat} {E : State → Prop} {R : qRg} {o n : Nat} {sh : Nat → qC} {Rf : Nat → Nat → Option Nat} {I0 : Nat → Nat → Int32} {L0 : Nat → Nat → Int64} {post : Option Value → qS → Prop} (hok : q_ok (qGG D cA b E)) (hw : WfModel (qGG D cA b E) n sh Rf o) (ra : RAModel R o) (hz14 : R.2 14 = true) (hz15 : R.2 15 = true) (hz16 : R.2 16 = true) (hz17 : R.2 17 = true) (hz18 : R.2 18 = true) (hz19 : R.2 19 = true) (hq0 : (I0 o 7).toInt ≤ (I0 o 3).toInt) (hq1 : (I0 (o + 9) (I0 o 35 : Int32).toNatClampNeg).toInt ≤ 4) (hq2 : MPo I0 o) (hq3 : MTk I0 o) (hR : RI R I0) (hp : ∀ (I' : Nat → Nat → Int32) (L' : Nat → Nat → Int64), RI R I' → Fm (fun c => c = o ∨ c = o + 9 ∨ (o + 19 ≤ c ∧ c < o + 25)) I0 I' → Kp wModel_readTown I0 I' o → ((I' o 7).toInt ≤ (I' o 3).toInt) → ((I0 o 7).toInt ≤ (I' o 7).toInt) → ((I0 o 4).toInt ≤ (I' o 4).toInt) → (7 * (I0 o 7).toInt - (I0 o 8).toInt + (I0 o 4).toInt ≤ 7 * (I' o 7).toInt - (I' o 8).toInt + (I' o 4).toInt) → (MPo I' o) → (MTk I' o) → (gModel_readTown_0 o (tI I0) L0 = (0, tI I', L')) → post none (n, sh, Rf, I', L')) : Ev (qGG D cA b E) mModel_readTown 5 (0, 0) 0 (lv_args 0 [.ref o]) [] (n, sh, Rf, I0, L0) post :=
  yc_Model_readTowng (R := fzR R I0 o wModel_readTown) hok hw (fzA ra hR _) (fzT hz14 rfl) (fzT hz15 rfl) (fzT hz16 rfl) (fzT hz17 rfl) (fzT hz18 rfl) (fzT hz19 rfl) fzZ (fzI hR) hq0 hq1 hq2 hq3 (fzI hR) (fun I' L' h1 h2 u0 u1 u2 u3 u4 u5 ug => hp I' L' (fzB hR h1) h2 (fzP h1) u0 u1 u2 u3 u4 u5 ug)
noncomputable def gModel_readPan_183 (o : Nat) (J : gJ) (L : gL) (x1 : Int) (x2 : Int) : Int × gJ × gL := gLet (gModel_isGood_0 o J L) (fun (r_1 : Int) => (if r_1 = 0 then (0, J, L) else gLet (J o 35) (fun (v_2 : Int) => gLet (J (o + 8) (Int.toNat v_2)) (fun (v_3 : Int) => gLet (v_3 + 1) (fun (v_4 : Int) => gLet (q_u J (o + 8) (Int.toNat v_2) v_4) (fun (J_5 : gJ) => (0, J_5, L)))))))
theorem eModel_readPan_183 {o : Nat} {J : gJ} {L : gL} {x1 : Int} {x2 : Int} : gModel_readPan_183 o J L x1 x2 = gLet (gModel_isGood_0 o J L) (fun (r_1 : Int) => (if r_1 = 0 then (0, J, L) else gLet (J o 35) (fun (v_2 : Int) => gLet (J (o + 8) (Int.toNat v_2)) (fun (v_3 : Int) => gLet (v_3 + 1) (fun (v_4 : Int) => gLet (q_u J (o + 8) (Int.toNat v_2) v_4) (fun (J_5 : gJ) => (0, J_5, L))))))) := rfl
noncomputable def gModel_readPan_179 (K101 : gJ → gL → Int → Int → (Int × gJ × gL)) (o : Nat) (J : gJ) (L : gL) (x1 : Int) (x2 : Int) (x3 : Int) (x4 : Int) (z0 : Int) : Int × gJ × gL := (K101 J L x1 z0)
theorem eModel_readPan_179 {K101 : gJ → gL → Int → Int → (Int × gJ × gL)} {o : Nat} {J : gJ} {L : gL} {x1 : Int} {x2 : Int} {x3 : Int} {x4 : Int} {z0 : Int} : gModel_readPan_179 K101 o J L x1 x2 x3 x4 z0 = (K101 J L x1 z0) := rfl
noncomputable def gModel_readPan_153 (K101 : gJ → gL → Int → Int → (Int × gJ × gL)) (o : Nat) (J : gJ) (L : gL) (x1 : Int) (x2 : Int) (x3 : Int) (x4 : Int) : Int × gJ × gL := gLet (J (o + 18) (Int.toNat x1)) (fun (v_1 : Int) => gLet (wShl 1 x4) (fun (v_2 : Int) => gLet (wOr v_1 v_2) (fun (v_3 : Int) => gLet (q_u J (o + 18) (Int.toNat x1) v_3) (fun (J_4 : gJ) => gLet (J_4 o 8) (fun (v_5 : Int) => (if v_5 = 4 then (gModel_readPan_179 K101 o J_4 L x1 x2 x3 x4 1) else (gModel_readPan_179 K101 o J_4 L x1 x2 x3 x4 0)))))))
theorem eModel_readPan_153 {K101 : gJ → gL → Int → Int → (Int × gJ × gL)} {o : Nat} {J : gJ} {L : gL} {x1 : Int} {x2 : Int} {x3 : Int} {x4 : Int} : gModel_readPan_153 K101 o J L x1 x2 x3 x4 = gLet (J (o + 18) (Int.toNat x1)) (fun (v_1 : Int) => gLet (wShl 1 x4) (fun (v_2 : Int) => gLet (wOr v_1 v_2) (fun (v_3 : Int) => gLet (q_u J (o + 18) (Int.toNat x1) v_3) (fun (J_4 : gJ) => gLet (J_4 o 8) (fun (v_5 : Int) => (if v_5 = 4 then (gModel_readPan_179 K101 o J_4 L x1 x2 x3 x4 1) else (gModel_readPan_179 K101 o J_4 L x1 x2 x3 x4 0))))))) := rfl
noncomputable def gModel_readPan_101 (k : Nat) (o : Nat) (J : gJ) (L : gL) (x1 : Int) (x2 : Int) : Int × gJ × gL := match k with
  | 0 => default
  | k + 1 => (if x2 = 0 then (gModel_readPan_183 o J L x1 x2) else gLet (gModel_isGood_0 o J L) (fun (r_1 : Int) => (if r_1 = 0 then (gModel_readPan_183 o J L x1 x2) else gLet (J o 6) (fun (v_2 : Int) => gB3 (gModel_numeral_0 o J L 0 4) (fun r_3 J_4 L_5 => gLet (gModel_isGood_0 o J_4 L_5) (fun (r_6 : Int) => (if r_6 = 0 then (gModel_readPan_153 (gModel_readPan_101 k o) o J_4 L_5 x1 x2 v_2 r_3) else gLet (J_4 (o + 18) (Int.toNat x1)) (fun (v_7 : Int) => gLet (wShr v_7 r_3) (fun (v_8 : Int) => gLet (wAnd v_8 1) (fun (v_9 : Int) => (if v_9 = 1 then gB3 (gModel_fails_0 o J_4 L_5 4 v_2) (fun r_10 J_11 L_12 => (gModel_readPan_153 (gModel_readPan_101 k o) o J_11 L_12 x1 x2 v_2 r_3)) else (gModel_readPan_153 (gModel_readPan_101 k o) o J_4 L_5 x1 x2 v_2 r_3))))))))))))
theorem eModel_readPan_101 {k : Nat} {o : Nat} {J : gJ} {L : gL} {x1 : Int} {x2 : Int} : gModel_readPan_101 (k + 1) o J L x1 x2 = (if x2 = 0 then (gModel_readPan_183 o J L x1 x2) else gLet (gModel_isGood_0 o J L) (fun (r_1 : Int) => (if r_1 = 0 then (gModel_readPan_183 o J L x1 x2) else gLet (J o 6) (fun (v_2 : Int) => gB3 (gModel_numeral_0 o J L 0 4) (fun r_3 J_4 L_5 => gLet (gModel_isGood_0 o J_4 L_5) (fun (r_6 : Int) => (if r_6 = 0 then (gModel_readPan_153 (gModel_readPan_101 k o) o J_4 L_5 x1 x2 v_2 r_3) else gLet (J_4 (o + 18) (Int.toNat x1)) (fun (v_7 : Int) => gLet (wShr v_7 r_3) (fun (v_8 : Int) => gLet (wAnd v_8 1) (fun (v_9 : Int) => (if v_9 = 1 then gB3 (gModel_fails_0 o J_4 L_5 4 v_2) (fun r_10 J_11 L_12 => (gModel_readPan_153 (gModel_readPan_101 k o) o J_11 L_12 x1 x2 v_2 r_3)) else (gModel_readPan_153 (gModel_readPan_101 k o) o J_4 L_5 x1 x2 v_2 r_3)))))))))))) := rfl
noncomputable def gModel_readPan_50 (k : Nat) (o : Nat) (J : gJ) (L : gL) (x1 : Int) (x2 : Int) : Int × gJ × gL := match k with
  | 0 => default
  | k + 1 => (if 12 ≤ x2 then gLet (gModel_isWord_0 o J L 126879549252979) (fun (r_1 : Int) => gB3 (gModel_must_0 o J L r_1) (fun r_2 J_3 L_4 => gLet (q_u J_3 (o + 18) (Int.toNat x1) 0) (fun (J_5 : gJ) => (gModel_readPan_101 20000 o J_5 L_4 x1 1)))) else gLet (12 * x1) (fun (v_6 : Int) => gLet (v_6 + x2) (fun (v_7 : Int) => gB3 (gModel_numeral_0 o J L 0 999) (fun r_8 J_9 L_10 => gLet (q_u J_9 (o + 17) (Int.toNat v_7) r_8) (fun (J_11 : gJ) => gLet (x2 + 1) (fun (v_12 : Int) => (gModel_readPan_50 k o J_11 L_10 x1 v_12)))))))
theorem eModel_readPan_50 {k : Nat} {o : Nat} {J : gJ} {L : gL} {x1 : Int} {x2 : Int} : gModel_readPan_50 (k + 1) o J L x1 x2 = (if 12 ≤ x2 then gLet (gModel_isWord_0 o J L 126879549252979) (fun (r_1 : Int) => gB3 (gModel_must_0 o J L r_1) (fun r_2 J_3 L_4 => gLet (q_u J_3 (o + 18) (Int.toNat x1) 0) (fun (J_5 : gJ) => (gModel_readPan_101 20000 o J_5 L_4 x1 1)))) else gLet (12 * x1) (fun (v_6 : Int) => gLet (v_6 + x2) (fun (v_7 : Int) => gB3 (gModel_numeral_0 o J L 0 999) (fun r_8 J_9 L_10 => gLet (q_u J_9 (o + 17) (Int.toNat v_7) r_8) (fun (J_11 : gJ) => gLet (x2 + 1) (fun (v_12 : Int) => (gModel_readPan_50 k o J_11 L_10 x1 v_12))))))) := rfl
noncomputable def gModel_readPan_0 (o : Nat) (J : gJ) (L : gL) : Int × gJ × gL := gLet (J o 35) (fun (v_1 : Int) => gLet (3 * v_1) (fun (v_2 : Int) => gLet (J o 35) (fun (v_3 : Int) => gLet (J (o + 8) (Int.toNat v_3)) (fun (v_4 : Int) => gLet (v_2 + v_4) (fun (v_5 : Int) => gB3 (gModel_newName_0 o J L) (fun r_6 J_7 L_8 => gLet (q_u L_8 (o + 4) (Int.toNat v_5) r_6) (fun (L_9 : gL) => gB3 (gModel_point_0 o J_7 L_9) (fun r_10 J_11 L_12 => gLet (q_u J_11 (o + 16) (Int.toNat v_5) r_10) (fun (J_13 : gJ) => gLet (gModel_isWord_0 o J_13 L_12 469785863539) (fun (r_14 : Int) => gB3 (gModel_must_0 o J_13 L_12 r_14) (fun r_15 J_16 L_17 => (gModel_readPan_50 20000 o J_16 L_17 v_5 0))))))))))))
theorem eModel_readPan_0 {o : Nat} {J : gJ} {L : gL} : gModel_readPan_0 o J L  = gLet (J o 35) (fun (v_1 : Int) => gLet (3 * v_1) (fun (v_2 : Int) => gLet (J o 35) (fun (v_3 : Int) => gLet (J (o + 8) (Int.toNat v_3)) (fun (v_4 : Int) => gLet (v_2 + v_4) (fun (v_5 : Int) => gB3 (gModel_newName_0 o J L) (fun r_6 J_7 L_8 => gLet (q_u L_8 (o + 4) (Int.toNat v_5) r_6) (fun (L_9 : gL) => gB3 (gModel_point_0 o J_7 L_9) (fun r_10 J_11 L_12 => gLet (q_u J_11 (o + 16) (Int.toNat v_5) r_10) (fun (J_13 : gJ) => gLet (gModel_isWord_0 o J_13 L_12 469785863539) (fun (r_14 : Int) => gB3 (gModel_must_0 o J_13 L_12 r_14) (fun r_15 J_16 L_17 => (gModel_readPan_50 20000 o J_16 L_17 v_5 0)))))))))))) := rfl
set_option maxHeartbeats 4000000 in
set_option maxRecDepth 20000 in
theorem yModel_readPan_101g {D : va_G} {cA : FieldType → ClassId} {b : Nat} {E : State → Prop} {R : qRg} {o n : Nat} {sh : Nat → qC} {Rf : Nat → Nat → Option Nat} {I0 : Nat → Nat → Int32} {L0 : Nat → Nat → Int64} {post : Option Value → qS → Prop} (hok : q_ok (qGG D cA b E)) (hw : WfModel (qGG D cA b E) n sh Rf o) (ra : RAModel R o) (hz14 : R.2 14 = true) (hz15 : R.2 15 = true) (hz16 : R.2 16 = true) (hz17 : R.2 17 = true) (hz18 : R.2 18 = true) (hz19 : R.2 19 = true) (hZ : Fz R I0 o wModel_readPan) (hR0 : RI R I0) (hq0 : (I0 o 7).toInt ≤ (I0 o 3).toInt) (hq1 : (I0 (o + 8) (I0 o 35 : Int32).toNatClampNeg).toInt ≤ 2) (hq2 : MPo I0 o) (hq3 : MTk I0 o) (hp : ∀ (I' : Nat → Nat → Int32) (L' : Nat → Nat → Int64), RI R I' → Fm (fun c => c = o ∨ c = o + 8 ∨ (o + 16 ≤ c ∧ c < o + 19)) I0 I' → ((I' o 7).toInt ≤ (I' o 3).toInt) → ((I0 o 7).toInt ≤ (I' o 7).toInt) → ((I0 o 4).toInt ≤ (I' o 4).toInt) → (7 * (I0 o 7).toInt - (I0 o 8).toInt + (I0 o 4).toInt ≤ 7 * (I' o 7).toInt - (I' o 8).toInt + (I' o 4).toInt) → (MPo I' o) → (MTk I' o) → (gModel_readPan_0 o (tI I0) L0 = (0, tI I', L')) → post none (n, sh, Rf, I', L')) : ∀ (k : Nat) {x1 : Int32} {x2 : Int32} {I : Nat → Nat → Int32} {L : Nat → Nat → Int64}, RI R I → Fm (fun c => c = o ∨ c = o + 8 ∨ (o + 16 ≤ c ∧ c < o + 19)) I0 I → ((0 : Int) ≤ x1.toInt ∧ x1.toInt ≤ 5) → ((I o 7).toInt ≤ (I o 3).toInt) → ((I0 o 7).toInt ≤ (I o 7).toInt) → ((I0 o 4).toInt ≤ (I o 4).toInt) → (7 * (I0 o 7).toInt - (I0 o 8).toInt + (I0 o 4).toInt ≤ 7 * (I o 7).toInt - (I o 8).toInt + (I o 4).toInt) → (MPo I o) → (MTk I o) → (I (o + 8) = I0 (o + 8)) → (gModel_readPan_101 k o (tI I) L (x1).toInt (x2).toInt = gModel_readPan_0 o (tI I0) L0) → (11300 - (7 * (I o 7).toInt - (I o 8).toInt + (I o 4).toInt)).toNat < k → Ev (qGG D cA b E) mModel_readPan 5 (0, 0) 101 [(0, .ref o), (1, .int x1), (2, .int x2)] [] (n, sh, Rf, I, L) post := by
  intro k
  induction k with
  | zero =>
    intro x1 x2 I L hR hf hi0 hi1 hi2 hi3 hi4 hi5 hi6 hi7 hg hm
    exact absurd hm (Nat.not_lt_zero _)
  | succ k ih =>
    intro x1 x2 I L hR hf hi0 hi1 hi2 hi3 hi4 hi5 hi6 hi7 hg hm
    have g_1 : (0 : Int) ≤ (I o 3).toInt ∧ (I o 3).toInt ≤ 1600 := hR.at0 ra 3 (by decide)
    have z_2 : (I o 3).toInt = (I0 o 3).toInt := by rw [hZ I 3 rfl hR]
    have g_3 : (0 : Int) ≤ (I o 4).toInt ∧ (I o 4).toInt ≤ 5 := hR.at0 ra 4 (by decide)
    have g_4 : (0 : Int) ≤ (I0 o 4).toInt ∧ (I0 o 4).toInt ≤ 5 := hR0.at0 ra 4 (by decide)
    have g_5 : (0 : Int) ≤ (I o 6).toInt ∧ (I o 6).toInt ≤ 1600 := hR.at0 ra 6 (by decide)
    have g_6 : (0 : Int) ≤ (I0 o 6).toInt ∧ (I0 o 6).toInt ≤ 1600 := hR0.at0 ra 6 (by decide)
    have g_7 : (0 : Int) ≤ (I o 7).toInt ∧ (I o 7).toInt ≤ 1601 := hR.at0 ra 7 (by decide)
    have g_8 : (0 : Int) ≤ (I0 o 7).toInt ∧ (I0 o 7).toInt ≤ 1601 := hR0.at0 ra 7 (by decide)
    have g_9 : (0 : Int) ≤ (I o 8).toInt ∧ (I o 8).toInt ≤ 6 := hR.at0 ra 8 (by decide)
    have g_10 : (0 : Int) ≤ (I0 o 8).toInt ∧ (I0 o 8).toInt ≤ 6 := hR0.at0 ra 8 (by decide)
    refine sModel_readPan_101 o n sh Rf I L post x1 x2 hok hw ?_
    unfold fModel_readPan_101
    replace hg := (eModel_readPan_101).symm.trans hg
    have l_11 : (0 : Int32).toInt = 0 := rfl
    refine ⟨fun c_12 => ?_, fun c_12 => ?_⟩
    · have d_13 := iEq c_12
      replace hg := gt_pos (by first | exact d_13 | omega) hg
      unfold fModel_readPan_183
      replace hg := (eModel_readPan_183).symm.trans hg
      refine y_Model_isGoodg hok hw ra hR (fun r_14 u_15 u_16 u_17 gn_18 => ⟨r_14, I, L, rfl, rfl, ?_⟩)
      replace hg := gt_let gn_18 hg
      clear gn_18
      have b_19 : 0 ≤ r_14.toInt ∧ r_14.toInt ≤ 1 := u_15.rg
      refine ⟨fun c_20 => ?_, fun c_20 => ?_⟩
      · have d_21 := iEq c_20
        have i_22 := u_17 (by omega)
        replace hg := gt_pos (by first | exact d_21 | omega) hg
        exact (hp _ _ hR hf (by first | omega | (intro h; omega) | exact Or.inl rfl | exact Or.inr rfl) (by first | omega | (intro h; omega) | exact Or.inl rfl | exact Or.inr rfl) (by first | omega | (intro h; omega) | exact Or.inl rfl | exact Or.inr rfl) (by first | omega | (intro h; omega) | exact Or.inl rfl | exact Or.inr rfl) hi5 hi6 hg.symm)
      · have d_23 := iNe c_20
        have i_24 := u_16 (by omega)
        replace hg := gt_neg (by first | exact d_23 | omega) hg
        have g_25 : (0 : Int) ≤ (I o 35).toInt ∧ (I o 35).toInt ≤ 1 := hR.at0 ra 35 (by decide)
        replace hg := gt_let (y := (I o 35).toInt) rfl hg
        have rk : (I (o + 8) (I o 35 : Int32).toNatClampNeg).toInt = (I0 (o + 8) (I0 o 35 : Int32).toNatClampNeg).toInt := by rw [hi7, hZ I 35 rfl hR]
        refine ⟨tIn (by omega) (by omega), ?_⟩
        have g_26 : (0 : Int) ≤ (I (o + 8) ((I o 35) : Int32).toNatClampNeg).toInt ∧ (I (o + 8) ((I o 35) : Int32).toNatClampNeg).toInt ≤ 3 := hR.at ra 8 _ (by decide)
        replace hg := gt_let (y := (I (o + 8) ((I o 35) : Int32).toNatClampNeg).toInt) rfl hg
        have l_27 : (1 : Int32).toInt = 1 := rfl
        have a_28 : ((I (o + 8) ((I o 35) : Int32).toNatClampNeg) + 1).toInt = (I (o + 8) ((I o 35) : Int32).toNatClampNeg).toInt + (1 : Int32).toInt := tAdd (by omega) (by omega)
        replace hg := gt_let (y := (((I (o + 8) ((I o 35) : Int32).toNatClampNeg) + 1) : Int32).toInt) (by omega) hg
        refine ⟨tIn (by omega) (by omega), fun I_29 e_30 => ?_⟩
        replace hg := gt_let (y := tI I_29) (tI_q e_30) hg
        have hR_31 : RI R I_29 := hR.up ra 8 (by decide) (Or.inl rfl) e_30 (show (0 : Int) ≤ ((I (o + 8) ((I o 35) : Int32).toNatClampNeg) + 1).toInt by omega) (show ((I (o + 8) ((I o 35) : Int32).toNatClampNeg) + 1).toInt ≤ (3 : Int) by omega)
        have hf_32 : Fm (fun c => c = o ∨ c = o + 8 ∨ (o + 16 ≤ c ∧ c < o + 19)) I0 I_29 := hf.set (by first | rfl | omega | (dsimp only; omega)) e_30
        have t_33 : (I_29 o 3).toInt = (I o 3).toInt := by rw [← e_30, q_u_ne (by omega)]
        have t_34 : (I_29 o 4).toInt = (I o 4).toInt := by rw [← e_30, q_u_ne (by omega)]
        have t_35 : (I_29 o 6).toInt = (I o 6).toInt := by rw [← e_30, q_u_ne (by omega)]
        have t_36 : (I_29 o 7).toInt = (I o 7).toInt := by rw [← e_30, q_u_ne (by omega)]
        have t_37 : (I_29 o 8).toInt = (I o 8).toInt := by rw [← e_30, q_u_ne (by omega)]
        have t_38 : (I_29 o 9).toInt = (I o 9).toInt := by rw [← e_30, q_u_ne (by omega)]
        have t_39 : (I_29 o 35).toInt = (I o 35).toInt := by rw [← e_30, q_u_ne (by omega)]
        have k_40 : MPo I_29 o := hi5.fr (by rw [← e_30, q_u_ne (by omega)]) (by rw [← e_30, q_u_ne (by omega)])
        have k_41 : MTk I_29 o := hi6.fr (by rw [← e_30, q_u_ne (by omega)]) (by rw [← e_30, q_u_ne (by omega)]) (by rw [← e_30, q_u_ne (by omega)])
        exact (hp _ _ hR_31 hf_32 (by first | omega | (intro h; omega) | exact Or.inl rfl | exact Or.inr rfl) (by first | omega | (intro h; omega) | exact Or.inl rfl | exact Or.inr rfl) (by first | omega | (intro h; omega) | exact Or.inl rfl | exact Or.inr rfl) (by first | omega | (intro h; omega) | exact Or.inl rfl | exact Or.inr rfl) k_40 k_41 hg.symm)
    · have d_42 := iNe c_12
      replace hg := gt_neg (by first | exact d_42 | omega) hg
      refine y_Model_isGoodg hok hw ra hR (fun r_43 u_44 u_45 u_46 gn_47 => ⟨r_43, I, L, rfl, rfl, ?_⟩)
      replace hg := gt_let gn_47 hg
      clear gn_47
      have b_48 : 0 ≤ r_43.toInt ∧ r_43.toInt ≤ 1 := u_44.rg
      refine ⟨fun c_49 => ?_, fun c_49 => ?_⟩
      · have d_50 := iEq c_49
        have i_51 := u_46 (by omega)
        replace hg := gt_pos (by first | exact d_50 | omega) hg
        unfold fModel_readPan_183
        replace hg := (eModel_readPan_183).symm.trans hg
        refine y_Model_isGoodg hok hw ra hR (fun r_52 u_53 u_54 u_55 gn_56 => ⟨r_52, I, L, rfl, rfl, ?_⟩)
        replace hg := gt_let gn_56 hg
        clear gn_56
        have b_57 : 0 ≤ r_52.toInt ∧ r_52.toInt ≤ 1 := u_53.rg
        refine ⟨fun c_58 => ?_, fun c_58 => ?_⟩
        · have d_59 := iEq c_58
          have i_60 := u_55 (by omega)
          replace hg := gt_pos (by first | exact d_59 | omega) hg
          exact (hp _ _ hR hf (by first | omega | (intro h; omega) | exact Or.inl rfl | exact Or.inr rfl) (by first | omega | (intro h; omega) | exact Or.inl rfl | exact Or.inr rfl) (by first | omega | (intro h; omega) | exact Or.inl rfl | exact Or.inr rfl) (by first | omega | (intro h; omega) | exact Or.inl rfl | exact Or.inr rfl) hi5 hi6 hg.symm)
        · have d_61 := iNe c_58
          have i_62 := u_54 (by omega)
          replace hg := gt_neg (by first | exact d_61 | omega) hg
          have g_63 : (0 : Int) ≤ (I o 35).toInt ∧ (I o 35).toInt ≤ 1 := hR.at0 ra 35 (by decide)
          replace hg := gt_let (y := (I o 35).toInt) rfl hg
          have rk : (I (o + 8) (I o 35 : Int32).toNatClampNeg).toInt = (I0 (o + 8) (I0 o 35 : Int32).toNatClampNeg).toInt := by rw [hi7, hZ I 35 rfl hR]
          refine ⟨tIn (by omega) (by omega), ?_⟩
          have g_64 : (0 : Int) ≤ (I (o + 8) ((I o 35) : Int32).toNatClampNeg).toInt ∧ (I (o + 8) ((I o 35) : Int32).toNatClampNeg).toInt ≤ 3 := hR.at ra 8 _ (by decide)
          replace hg := gt_let (y := (I (o + 8) ((I o 35) : Int32).toNatClampNeg).toInt) rfl hg
          have l_65 : (1 : Int32).toInt = 1 := rfl
          have a_66 : ((I (o + 8) ((I o 35) : Int32).toNatClampNeg) + 1).toInt = (I (o + 8) ((I o 35) : Int32).toNatClampNeg).toInt + (1 : Int32).toInt := tAdd (by omega) (by omega)
          replace hg := gt_let (y := (((I (o + 8) ((I o 35) : Int32).toNatClampNeg) + 1) : Int32).toInt) (by omega) hg
          refine ⟨tIn (by omega) (by omega), fun I_67 e_68 => ?_⟩
          replace hg := gt_let (y := tI I_67) (tI_q e_68) hg
          have hR_69 : RI R I_67 := hR.up ra 8 (by decide) (Or.inl rfl) e_68 (show (0 : Int) ≤ ((I (o + 8) ((I o 35) : Int32).toNatClampNeg) + 1).toInt by omega) (show ((I (o + 8) ((I o 35) : Int32).toNatClampNeg) + 1).toInt ≤ (3 : Int) by omega)
          have hf_70 : Fm (fun c => c = o ∨ c = o + 8 ∨ (o + 16 ≤ c ∧ c < o + 19)) I0 I_67 := hf.set (by first | rfl | omega | (dsimp only; omega)) e_68
          have t_71 : (I_67 o 3).toInt = (I o 3).toInt := by rw [← e_68, q_u_ne (by omega)]
          have t_72 : (I_67 o 4).toInt = (I o 4).toInt := by rw [← e_68, q_u_ne (by omega)]
          have t_73 : (I_67 o 6).toInt = (I o 6).toInt := by rw [← e_68, q_u_ne (by omega)]
          have t_74 : (I_67 o 7).toInt = (I o 7).toInt := by rw [← e_68, q_u_ne (by omega)]
          have t_75 : (I_67 o 8).toInt = (I o 8).toInt := by rw [← e_68, q_u_ne (by omega)]
          have t_76 : (I_67 o 9).toInt = (I o 9).toInt := by rw [← e_68, q_u_ne (by omega)]
          have t_77 : (I_67 o 35).toInt = (I o 35).toInt := by rw [← e_68, q_u_ne (by omega)]
          have k_78 : MPo I_67 o := hi5.fr (by rw [← e_68, q_u_ne (by omega)]) (by rw [← e_68, q_u_ne (by omega)])
          have k_79 : MTk I_67 o := hi6.fr (by rw [← e_68, q_u_ne (by omega)]) (by rw [← e_68, q_u_ne (by omega)]) (by rw [← e_68, q_u_ne (by omega)])
          exact (hp _ _ hR_69 hf_70 (by first | omega | (intro h; omega) | exact Or.inl rfl | exact Or.inr rfl) (by first | omega | (intro h; omega) | exact Or.inl rfl | exact Or.inr rfl) (by first | omega | (intro h; omega) | exact Or.inl rfl | exact Or.inr rfl) (by first | omega | (intro h; omega) | exact Or.inl rfl | exact Or.inr rfl) k_78 k_79 hg.symm)
      · have d_80 := iNe c_49
        have i_81 := u_45 (by omega)
        replace hg := gt_neg (by first | exact d_80 | omega) hg
        have gd := u_45 (by omega)
        have g_82 : (0 : Int) ≤ (I o 6).toInt ∧ (I o 6).toInt ≤ 1600 := hR.at0 ra 6 (by decide)
        replace hg := gt_let (y := (I o 6).toInt) rfl hg
        have l_83 : (4 : Int32).toInt = 4 := rfl
        refine y_Model_numeralg hok hw ra hz14 hz15 hz16 hz17 hz18 hz19 (by first | omega | (intro h; omega) | exact Or.inl rfl | exact Or.inr rfl) hi5 hi6 hR (fun r_84 I_93 L_94 hR_95 fr_96 kp_97 u_85 u_86 u_87 u_88 u_89 u_90 u_91 gn_92 => ⟨r_84, I_93, L_94, rfl, rfl, ?_⟩)
        replace hg := gt_b3 gn_92 hg
        clear gn_92
        have hf_98 : Fm (fun c => c = o ∨ c = o + 8 ∨ (o + 16 ≤ c ∧ c < o + 19)) I0 I_93 := hf.call fr_96 (fun c hc => by first | exact hc | (dsimp only at hc ⊢; omega) | omega)
        have t_99 : (I_93 o 3).toInt = (I o 3).toInt := by rw [kp_97 3 rfl]
        have g_100 : (0 : Int) ≤ (I_93 o 4).toInt ∧ (I_93 o 4).toInt ≤ 5 := hR_95.at0 ra 4 (by decide)
        have g_101 : (0 : Int) ≤ (I_93 o 6).toInt ∧ (I_93 o 6).toInt ≤ 1600 := hR_95.at0 ra 6 (by decide)
        have g_102 : (0 : Int) ≤ (I_93 o 7).toInt ∧ (I_93 o 7).toInt ≤ 1601 := hR_95.at0 ra 7 (by decide)
        have g_103 : (0 : Int) ≤ (I_93 o 8).toInt ∧ (I_93 o 8).toInt ≤ 6 := hR_95.at0 ra 8 (by decide)
        have w_104 : I_93 (o + 8) = I0 (o + 8) := (fr_96 (o + 8) (by first | omega | (dsimp only; omega))).trans hi7
        have mu := u_89 (by omega)
        refine y_Model_isGoodg hok hw ra hR_95 (fun r_105 u_106 u_107 u_108 gn_109 => ⟨r_105, I_93, L_94, rfl, rfl, ?_⟩)
        replace hg := gt_let gn_109 hg
        clear gn_109
        have b_110 : 0 ≤ r_105.toInt ∧ r_105.toInt ≤ 1 := u_106.rg
        refine ⟨fun c_111 => ?_, fun c_111 => ?_⟩
        · have d_112 := iEq c_111
          have i_113 := u_108 (by omega)
          replace hg := gt_pos (by first | exact d_112 | omega) hg
          unfold fModel_readPan_153
          replace hg := (eModel_readPan_153).symm.trans hg
          refine ⟨tIn (by omega) (by omega), ?_⟩
          replace hg := gt_let (y := (I_93 (o + 18) (x1 : Int32).toNatClampNeg).toInt) rfl hg
          replace hg := gt_let (y := ((1 <<< (r_84 &&& 31)) : Int32).toInt) (wShl_eq (1 : Int32) (r_84 : Int32)) hg
          replace hg := gt_let (y := (((I_93 (o + 18) (x1 : Int32).toNatClampNeg) ||| (1 <<< (r_84 &&& 31))) : Int32).toInt) (wOr_eq ((I_93 (o + 18) (x1 : Int32).toNatClampNeg) : Int32) ((1 <<< (r_84 &&& 31)) : Int32)) hg
          refine ⟨tIn (by omega) (by omega), fun I_114 e_115 => ?_⟩
          replace hg := gt_let (y := tI I_114) (tI_q e_115) hg
          have hR_116 : RI R I_114 := hR_95.up ra 18 (by decide) (Or.inl rfl) e_115 (i_lo _) (i_hi _)
          have hf_117 : Fm (fun c => c = o ∨ c = o + 8 ∨ (o + 16 ≤ c ∧ c < o + 19)) I0 I_114 := hf_98.set (by first | rfl | omega | (dsimp only; omega)) e_115
          have t_118 : (I_114 o 3).toInt = (I_93 o 3).toInt := by rw [← e_115, q_u_ne (by omega)]
          have t_119 : (I_114 o 4).toInt = (I_93 o 4).toInt := by rw [← e_115, q_u_ne (by omega)]
          have t_120 : (I_114 o 6).toInt = (I_93 o 6).toInt := by rw [← e_115, q_u_ne (by omega)]
          have t_121 : (I_114 o 7).toInt = (I_93 o 7).toInt := by rw [← e_115, q_u_ne (by omega)]
          have t_122 : (I_114 o 8).toInt = (I_93 o 8).toInt := by rw [← e_115, q_u_ne (by omega)]
          have t_123 : (I_114 o 9).toInt = (I_93 o 9).toInt := by rw [← e_115, q_u_ne (by omega)]
          have k_124 : MPo I_114 o := u_90.fr (by rw [← e_115, q_u_ne (by omega)]) (by rw [← e_115, q_u_ne (by omega)])
          have k_125 : MTk I_114 o := u_91.fr (by rw [← e_115, q_u_ne (by omega)]) (by rw [← e_115, q_u_ne (by omega)]) (by rw [← e_115, q_u_ne (by omega)])
          have w_126 : I_114 (o + 8) = I0 (o + 8) := by rw [← e_115, q_u_ne (by omega)]; exact w_104
          have g_127 : (0 : Int) ≤ (I_114 o 8).toInt ∧ (I_114 o 8).toInt ≤ 6 := hR_116.at0 ra 8 (by decide)
          replace hg := gt_let (y := (I_114 o 8).toInt) rfl hg
          refine ⟨fun c_128 => ?_, fun c_128 => ?_⟩
          · have d_129 := iNe c_128
            replace hg := gt_neg (by first | exact d_129 | omega) hg
            unfold fModel_readPan_179
            replace hg := (eModel_readPan_179).symm.trans hg
            exact ih hR_116 hf_117 (by first | omega | (intro h; omega) | exact Or.inl rfl | exact Or.inr rfl) (by first | omega | (intro h; omega) | exact Or.inl rfl | exact Or.inr rfl) (by first | omega | (intro h; omega) | exact Or.inl rfl | exact Or.inr rfl) (by first | omega | (intro h; omega) | exact Or.inl rfl | exact Or.inr rfl) (by first | omega | (intro h; omega) | exact Or.inl rfl | exact Or.inr rfl) k_124 k_125 w_126 hg (by omega)
          · have d_130 := iEq c_128
            replace hg := gt_pos (by first | exact d_130 | omega) hg
            unfold fModel_readPan_179
            replace hg := (eModel_readPan_179).symm.trans hg
            have l_131 : (1 : Int32).toInt = 1 := rfl
            exact ih hR_116 hf_117 (by first | omega | (intro h; omega) | exact Or.inl rfl | exact Or.inr rfl) (by first | omega | (intro h; omega) | exact Or.inl rfl | exact Or.inr rfl) (by first | omega | (intro h; omega) | exact Or.inl rfl | exact Or.inr rfl) (by first | omega | (intro h; omega) | exact Or.inl rfl | exact Or.inr rfl) (by first | omega | (intro h; omega) | exact Or.inl rfl | exact Or.inr rfl) k_124 k_125 w_126 hg (by omega)
        · have d_132 := iNe c_111
          have i_133 := u_107 (by omega)
          replace hg := gt_neg (by first | exact d_132 | omega) hg
          refine ⟨tIn (by omega) (by omega), ?_⟩
          replace hg := gt_let (y := (I_93 (o + 18) (x1 : Int32).toNatClampNeg).toInt) rfl hg
          replace hg := gt_let (y := (((I_93 (o + 18) (x1 : Int32).toNatClampNeg) >>> (r_84 &&& 31)) : Int32).toInt) (wShr_eq ((I_93 (o + 18) (x1 : Int32).toNatClampNeg) : Int32) (r_84 : Int32)) hg
          have l_134 : (1 : Int32).toInt = 1 := rfl
          replace hg := gt_let (y := ((((I_93 (o + 18) (x1 : Int32).toNatClampNeg) >>> (r_84 &&& 31)) &&& 1) : Int32).toInt) (wAnd_eq (((I_93 (o + 18) (x1 : Int32).toNatClampNeg) >>> (r_84 &&& 31)) : Int32) (1 : Int32)) hg
          refine ⟨fun c_135 => ?_, fun c_135 => ?_⟩
          · have d_136 := iNe c_135
            replace hg := gt_neg (by first | exact d_136 | omega) hg
            unfold fModel_readPan_153
            replace hg := (eModel_readPan_153).symm.trans hg
            refine ⟨tIn (by omega) (by omega), ?_⟩
            replace hg := gt_let (y := (I_93 (o + 18) (x1 : Int32).toNatClampNeg).toInt) rfl hg
            replace hg := gt_let (y := ((1 <<< (r_84 &&& 31)) : Int32).toInt) (wShl_eq (1 : Int32) (r_84 : Int32)) hg
            replace hg := gt_let (y := (((I_93 (o + 18) (x1 : Int32).toNatClampNeg) ||| (1 <<< (r_84 &&& 31))) : Int32).toInt) (wOr_eq ((I_93 (o + 18) (x1 : Int32).toNatClampNeg) : Int32) ((1 <<< (r_84 &&& 31)) : Int32)) hg
            refine ⟨tIn (by omega) (by omega), fun I_137 e_138 => ?_⟩
            replace hg := gt_let (y := tI I_137) (tI_q e_138) hg
            have hR_139 : RI R I_137 := hR_95.up ra 18 (by decide) (Or.inl rfl) e_138 (i_lo _) (i_hi _)
            have hf_140 : Fm (fun c => c = o ∨ c = o + 8 ∨ (o + 16 ≤ c ∧ c < o + 19)) I0 I_137 := hf_98.set (by first | rfl | omega | (dsimp only; omega)) e_138
            have t_141 : (I_137 o 3).toInt = (I_93 o 3).toInt := by rw [← e_138, q_u_ne (by omega)]
            have t_142 : (I_137 o 4).toInt = (I_93 o 4).toInt := by rw [← e_138, q_u_ne (by omega)]
            have t_143 : (I_137 o 6).toInt = (I_93 o 6).toInt := by rw [← e_138, q_u_ne (by omega)]
            have t_144 : (I_137 o 7).toInt = (I_93 o 7).toInt := by rw [← e_138, q_u_ne (by omega)]
            have t_145 : (I_137 o 8).toInt = (I_93 o 8).toInt := by rw [← e_138, q_u_ne (by omega)]
            have t_146 : (I_137 o 9).toInt = (I_93 o 9).toInt := by rw [← e_138, q_u_ne (by omega)]
            have k_147 : MPo I_137 o := u_90.fr (by rw [← e_138, q_u_ne (by omega)]) (by rw [← e_138, q_u_ne (by omega)])
            have k_148 : MTk I_137 o := u_91.fr (by rw [← e_138, q_u_ne (by omega)]) (by rw [← e_138, q_u_ne (by omega)]) (by rw [← e_138, q_u_ne (by omega)])
            have w_149 : I_137 (o + 8) = I0 (o + 8) := by rw [← e_138, q_u_ne (by omega)]; exact w_104
            have g_150 : (0 : Int) ≤ (I_137 o 8).toInt ∧ (I_137 o 8).toInt ≤ 6 := hR_139.at0 ra 8 (by decide)
            replace hg := gt_let (y := (I_137 o 8).toInt) rfl hg
            refine ⟨fun c_151 => ?_, fun c_151 => ?_⟩
            · have d_152 := iNe c_151
              replace hg := gt_neg (by first | exact d_152 | omega) hg
              unfold fModel_readPan_179
              replace hg := (eModel_readPan_179).symm.trans hg
              exact ih hR_139 hf_140 (by first | omega | (intro h; omega) | exact Or.inl rfl | exact Or.inr rfl) (by first | omega | (intro h; omega) | exact Or.inl rfl | exact Or.inr rfl) (by first | omega | (intro h; omega) | exact Or.inl rfl | exact Or.inr rfl) (by first | omega | (intro h; omega) | exact Or.inl rfl | exact Or.inr rfl) (by first | omega | (intro h; omega) | exact Or.inl rfl | exact Or.inr rfl) k_147 k_148 w_149 hg (by omega)
            · have d_153 := iEq c_151
              replace hg := gt_pos (by first | exact d_153 | omega) hg
              unfold fModel_readPan_179
              replace hg := (eModel_readPan_179).symm.trans hg
              exact ih hR_139 hf_140 (by first | omega | (intro h; omega) | exact Or.inl rfl | exact Or.inr rfl) (by first | omega | (intro h; omega) | exact Or.inl rfl | exact Or.inr rfl) (by first | omega | (intro h; omega) | exact Or.inl rfl | exact Or.inr rfl) (by first | omega | (intro h; omega) | exact Or.inl rfl | exact Or.inr rfl) (by first | omega | (intro h; omega) | exact Or.inl rfl | exact Or.inr rfl) k_147 k_148 w_149 hg (by omega)
          · have d_154 := iEq c_135
            replace hg := gt_pos (by first | exact d_154 | omega) hg
            refine y_Model_failsg hok hw ra hz14 hz15 (by first | omega | (intro h; omega) | exact Or.inl rfl | exact Or.inr rfl) hR_95 (fun I_159 L_160 hR_161 fr_162 kp_163 u_156 u_157 gn_158 => ⟨I_159, L_160, rfl, rfl, ?_⟩)
            replace hg := gt_b3 gn_158 hg
            clear gn_158
            have hf_164 : Fm (fun c => c = o ∨ c = o + 8 ∨ (o + 16 ≤ c ∧ c < o + 19)) I0 I_159 := hf_98.call fr_162 (fun c hc => by first | exact hc | (dsimp only at hc ⊢; omega) | omega)
            have t_165 : (I_159 o 3).toInt = (I_93 o 3).toInt := by rw [kp_163 3 rfl]
            have g_166 : (0 : Int) ≤ (I_159 o 4).toInt ∧ (I_159 o 4).toInt ≤ 5 := hR_161.at0 ra 4 (by decide)
            have t_167 : (I_159 o 6).toInt = (I_93 o 6).toInt := by rw [kp_163 6 rfl]
            have t_168 : (I_159 o 7).toInt = (I_93 o 7).toInt := by rw [kp_163 7 rfl]
            have t_169 : (I_159 o 8).toInt = (I_93 o 8).toInt := by rw [kp_163 8 rfl]
            have t_170 : (I_159 o 9).toInt = (I_93 o 9).toInt := by rw [kp_163 9 rfl]
            have k_171 : MPo I_159 o := u_90.fr (kp_163 8 rfl) (kp_163 9 rfl)
            have k_172 : MTk I_159 o := u_91.fr (kp_163 6 rfl) (kp_163 7 rfl) (kp_163 8 rfl)
            have w_173 : I_159 (o + 8) = I0 (o + 8) := (fr_162 (o + 8) (by first | omega | (dsimp only; omega))).trans w_104
            unfold fModel_readPan_153
            replace hg := (eModel_readPan_153).symm.trans hg
            refine ⟨tIn (by omega) (by omega), ?_⟩
            replace hg := gt_let (y := (I_159 (o + 18) (x1 : Int32).toNatClampNeg).toInt) rfl hg
            replace hg := gt_let (y := ((1 <<< (r_84 &&& 31)) : Int32).toInt) (wShl_eq (1 : Int32) (r_84 : Int32)) hg
            replace hg := gt_let (y := (((I_159 (o + 18) (x1 : Int32).toNatClampNeg) ||| (1 <<< (r_84 &&& 31))) : Int32).toInt) (wOr_eq ((I_159 (o + 18) (x1 : Int32).toNatClampNeg) : Int32) ((1 <<< (r_84 &&& 31)) : Int32)) hg
            refine ⟨tIn (by omega) (by omega), fun I_174 e_175 => ?_⟩
            replace hg := gt_let (y := tI I_174) (tI_q e_175) hg
            have hR_176 : RI R I_174 := hR_161.up ra 18 (by decide) (Or.inl rfl) e_175 (i_lo _) (i_hi _)
            have hf_177 : Fm (fun c => c = o ∨ c = o + 8 ∨ (o + 16 ≤ c ∧ c < o + 19)) I0 I_174 := hf_164.set (by first | rfl | omega | (dsimp only; omega)) e_175
            have t_178 : (I_174 o 3).toInt = (I_159 o 3).toInt := by rw [← e_175, q_u_ne (by omega)]
            have t_179 : (I_174 o 4).toInt = (I_159 o 4).toInt := by rw [← e_175, q_u_ne (by omega)]
            have t_180 : (I_174 o 6).toInt = (I_159 o 6).toInt := by rw [← e_175, q_u_ne (by omega)]
            have t_181 : (I_174 o 7).toInt = (I_159 o 7).toInt := by rw [← e_175, q_u_ne (by omega)]
            have t_182 : (I_174 o 8).toInt = (I_159 o 8).toInt := by rw [← e_175, q_u_ne (by omega)]
            have t_183 : (I_174 o 9).toInt = (I_159 o 9).toInt := by rw [← e_175, q_u_ne (by omega)]
            have k_184 : MPo I_174 o := k_171.fr (by rw [← e_175, q_u_ne (by omega)]) (by rw [← e_175, q_u_ne (by omega)])
            have k_185 : MTk I_174 o := k_172.fr (by rw [← e_175, q_u_ne (by omega)]) (by rw [← e_175, q_u_ne (by omega)]) (by rw [← e_175, q_u_ne (by omega)])
            have w_186 : I_174 (o + 8) = I0 (o + 8) := by rw [← e_175, q_u_ne (by omega)]; exact w_173
            have g_187 : (0 : Int) ≤ (I_174 o 8).toInt ∧ (I_174 o 8).toInt ≤ 6 := hR_176.at0 ra 8 (by decide)
            replace hg := gt_let (y := (I_174 o 8).toInt) rfl hg
            refine ⟨fun c_188 => ?_, fun c_188 => ?_⟩
            · have d_189 := iNe c_188
              replace hg := gt_neg (by first | exact d_189 | omega) hg
              unfold fModel_readPan_179
              replace hg := (eModel_readPan_179).symm.trans hg
              exact ih hR_176 hf_177 (by first | omega | (intro h; omega) | exact Or.inl rfl | exact Or.inr rfl) (by first | omega | (intro h; omega) | exact Or.inl rfl | exact Or.inr rfl) (by first | omega | (intro h; omega) | exact Or.inl rfl | exact Or.inr rfl) (by first | omega | (intro h; omega) | exact Or.inl rfl | exact Or.inr rfl) (by first | omega | (intro h; omega) | exact Or.inl rfl | exact Or.inr rfl) k_184 k_185 w_186 hg (by omega)
            · have d_190 := iEq c_188
              replace hg := gt_pos (by first | exact d_190 | omega) hg
              unfold fModel_readPan_179
              replace hg := (eModel_readPan_179).symm.trans hg
              exact ih hR_176 hf_177 (by first | omega | (intro h; omega) | exact Or.inl rfl | exact Or.inr rfl) (by first | omega | (intro h; omega) | exact Or.inl rfl | exact Or.inr rfl) (by first | omega | (intro h; omega) | exact Or.inl rfl | exact Or.inr rfl) (by first | omega | (intro h; omega) | exact Or.inl rfl | exact Or.inr rfl) (by first | omega | (intro h; omega) | exact Or.inl rfl | exact Or.inr rfl) k_184 k_185 w_186 hg (by omega)
set_option maxHeartbeats 4000000 in
set_option maxRecDepth 20000 in
theorem yModel_readPan_50g {D : va_G} {cA : FieldType → ClassId} {b : Nat} {E : State → Prop} {R : qRg} {o n : Nat} {sh : Nat → qC} {Rf : Nat → Nat → Option Nat} {I0 : Nat → Nat → Int32} {L0 : Nat → Nat → Int64} {post : Option Value → qS → Prop} (hok : q_ok (qGG D cA b E)) (hw : WfModel (qGG D cA b E) n sh Rf o) (ra : RAModel R o) (hz14 : R.2 14 = true) (hz15 : R.2 15 = true) (hz16 : R.2 16 = true) (hz17 : R.2 17 = true) (hz18 : R.2 18 = true) (hz19 : R.2 19 = true) (hZ : Fz R I0 o wModel_readPan) (hR0 : RI R I0) (hq0 : (I0 o 7).toInt ≤ (I0 o 3).toInt) (hq1 : (I0 (o + 8) (I0 o 35 : Int32).toNatClampNeg).toInt ≤ 2) (hq2 : MPo I0 o) (hq3 : MTk I0 o) (hp : ∀ (I' : Nat → Nat → Int32) (L' : Nat → Nat → Int64), RI R I' → Fm (fun c => c = o ∨ c = o + 8 ∨ (o + 16 ≤ c ∧ c < o + 19)) I0 I' → ((I' o 7).toInt ≤ (I' o 3).toInt) → ((I0 o 7).toInt ≤ (I' o 7).toInt) → ((I0 o 4).toInt ≤ (I' o 4).toInt) → (7 * (I0 o 7).toInt - (I0 o 8).toInt + (I0 o 4).toInt ≤ 7 * (I' o 7).toInt - (I' o 8).toInt + (I' o 4).toInt) → (MPo I' o) → (MTk I' o) → (gModel_readPan_0 o (tI I0) L0 = (0, tI I', L')) → post none (n, sh, Rf, I', L')) : ∀ (k : Nat) {x1 : Int32} {x2 : Int32} {I : Nat → Nat → Int32} {L : Nat → Nat → Int64}, RI R I → Fm (fun c => c = o ∨ c = o + 8 ∨ (o + 16 ≤ c ∧ c < o + 19)) I0 I → ((0 : Int) ≤ x1.toInt ∧ x1.toInt ≤ 5) → ((0 : Int) ≤ x2.toInt ∧ x2.toInt ≤ 12) → ((I o 7).toInt ≤ (I o 3).toInt) → ((I0 o 7).toInt ≤ (I o 7).toInt) → ((I0 o 4).toInt ≤ (I o 4).toInt) → (7 * (I0 o 7).toInt - (I0 o 8).toInt + (I0 o 4).toInt ≤ 7 * (I o 7).toInt - (I o 8).toInt + (I o 4).toInt) → (MPo I o) → (MTk I o) → (I (o + 8) = I0 (o + 8)) → (gModel_readPan_50 k o (tI I) L (x1).toInt (x2).toInt = gModel_readPan_0 o (tI I0) L0) → (12 - x2.toInt).toNat < k → Ev (qGG D cA b E) mModel_readPan 5 (0, 0) 50 [(0, .ref o), (1, .int x1), (2, .int x2)] [] (n, sh, Rf, I, L) post := by
  intro k
  induction k with
  | zero =>
    intro x1 x2 I L hR hf hi0 hi1 hi2 hi3 hi4 hi5 hi6 hi7 hi8 hg hm
    exact absurd hm (Nat.not_lt_zero _)
  | succ k ih =>
    intro x1 x2 I L hR hf hi0 hi1 hi2 hi3 hi4 hi5 hi6 hi7 hi8 hg hm
    have g_191 : (0 : Int) ≤ (I o 3).toInt ∧ (I o 3).toInt ≤ 1600 := hR.at0 ra 3 (by decide)
    have z_192 : (I o 3).toInt = (I0 o 3).toInt := by rw [hZ I 3 rfl hR]
    have g_193 : (0 : Int) ≤ (I o 4).toInt ∧ (I o 4).toInt ≤ 5 := hR.at0 ra 4 (by decide)
    have g_194 : (0 : Int) ≤ (I0 o 4).toInt ∧ (I0 o 4).toInt ≤ 5 := hR0.at0 ra 4 (by decide)
    have g_195 : (0 : Int) ≤ (I o 6).toInt ∧ (I o 6).toInt ≤ 1600 := hR.at0 ra 6 (by decide)
    have g_196 : (0 : Int) ≤ (I0 o 6).toInt ∧ (I0 o 6).toInt ≤ 1600 := hR0.at0 ra 6 (by decide)
    have g_197 : (0 : Int) ≤ (I o 7).toInt ∧ (I o 7).toInt ≤ 1601 := hR.at0 ra 7 (by decide)
    have g_198 : (0 : Int) ≤ (I0 o 7).toInt ∧ (I0 o 7).toInt ≤ 1601 := hR0.at0 ra 7 (by decide)
    have g_199 : (0 : Int) ≤ (I o 8).toInt ∧ (I o 8).toInt ≤ 6 := hR.at0 ra 8 (by decide)
    have g_200 : (0 : Int) ≤ (I0 o 8).toInt ∧ (I0 o 8).toInt ≤ 6 := hR0.at0 ra 8 (by decide)
    refine sModel_readPan_50 o n sh Rf I L post x1 x2 hok hw ?_
    unfold fModel_readPan_50
    replace hg := (eModel_readPan_50).symm.trans hg
    have l_201 : (12 : Int32).toInt = 12 := rfl
    refine ⟨fun c_202 => ?_, fun c_202 => ?_⟩
    · have d_203 := iLe c_202
      replace hg := gt_pos (by first | exact d_203 | omega) hg
      refine y_Model_isWordg hok hw ra hR (fun r_204 u_205 u_206 gn_207 => ⟨r_204, I, L, rfl, rfl, ?_⟩)
      replace hg := gt_let gn_207 hg
      clear gn_207
      have b_208 : 0 ≤ r_204.toInt ∧ r_204.toInt ≤ 1 := u_205.rg
      refine y_Model_mustg hok hw ra hz14 hz15 hz16 hz17 hz18 hz19 (by first | omega | (intro h; omega) | exact Or.inl rfl | exact Or.inr rfl) hi6 hi7 hR (fun I_220 L_221 hR_222 fr_223 kp_224 u_210 u_211 u_212 u_213 u_214 u_215 u_216 u_217 u_218 gn_219 => ⟨I_220, L_221, rfl, rfl, ?_⟩)
      replace hg := gt_b3 gn_219 hg
      clear gn_219
      have hf_225 : Fm (fun c => c = o ∨ c = o + 8 ∨ (o + 16 ≤ c ∧ c < o + 19)) I0 I_220 := hf.call fr_223 (fun c hc => by first | exact hc | (dsimp only at hc ⊢; omega) | omega)
      have t_226 : (I_220 o 3).toInt = (I o 3).toInt := by rw [kp_224 3 rfl]
      have g_227 : (0 : Int) ≤ (I_220 o 4).toInt ∧ (I_220 o 4).toInt ≤ 5 := hR_222.at0 ra 4 (by decide)
      have g_228 : (0 : Int) ≤ (I_220 o 6).toInt ∧ (I_220 o 6).toInt ≤ 1600 := hR_222.at0 ra 6 (by decide)
      have g_229 : (0 : Int) ≤ (I_220 o 7).toInt ∧ (I_220 o 7).toInt ≤ 1601 := hR_222.at0 ra 7 (by decide)
      have g_230 : (0 : Int) ≤ (I_220 o 8).toInt ∧ (I_220 o 8).toInt ≤ 6 := hR_222.at0 ra 8 (by decide)
      have s_231 : (I0 o 7).toInt ≤ (I_220 o 7).toInt := by omega
      have s_232 : (I0 o 4).toInt ≤ (I_220 o 4).toInt := by omega
      have s_233 : (I_220 o 7).toInt ≤ (I_220 o 3).toInt := by omega
      have s_234 : 7 * (I0 o 7).toInt - (I0 o 8).toInt + (I0 o 4).toInt ≤ 7 * (I_220 o 7).toInt - (I_220 o 8).toInt + (I_220 o 4).toInt := by omega
      clear t_226 g_227 g_228 g_229 g_230 u_210 u_211 u_212 u_213 u_215
      have t_235 : (I_220 o 3).toInt = (I0 o 3).toInt := by rw [hZ I_220 3 rfl hR_222]
      have g_236 : (0 : Int) ≤ (I_220 o 3).toInt ∧ (I_220 o 3).toInt ≤ 1600 := hR_222.at0 ra 3 (by decide)
      have g_237 : (0 : Int) ≤ (I_220 o 4).toInt ∧ (I_220 o 4).toInt ≤ 5 := hR_222.at0 ra 4 (by decide)
      have g_238 : (0 : Int) ≤ (I_220 o 6).toInt ∧ (I_220 o 6).toInt ≤ 1600 := hR_222.at0 ra 6 (by decide)
      have g_239 : (0 : Int) ≤ (I_220 o 7).toInt ∧ (I_220 o 7).toInt ≤ 1601 := hR_222.at0 ra 7 (by decide)
      have g_240 : (0 : Int) ≤ (I_220 o 8).toInt ∧ (I_220 o 8).toInt ≤ 6 := hR_222.at0 ra 8 (by decide)
      have w_241 : I_220 (o + 8) = I0 (o + 8) := (fr_223 (o + 8) (by first | omega | (dsimp only; omega))).trans hi8
      have l_242 : (0 : Int32).toInt = 0 := rfl
      refine ⟨tIn (by omega) (by omega), fun I_243 e_244 => ?_⟩
      replace hg := gt_let (y := tI I_243) (tI_q e_244) hg
      have hR_245 : RI R I_243 := hR_222.up ra 18 (by decide) (Or.inl rfl) e_244 (i_lo _) (i_hi _)
      have hf_246 : Fm (fun c => c = o ∨ c = o + 8 ∨ (o + 16 ≤ c ∧ c < o + 19)) I0 I_243 := hf_225.set (by first | rfl | omega | (dsimp only; omega)) e_244
      have t_247 : (I_243 o 3).toInt = (I_220 o 3).toInt := by rw [← e_244, q_u_ne (by omega)]
      have t_248 : (I_243 o 4).toInt = (I_220 o 4).toInt := by rw [← e_244, q_u_ne (by omega)]
      have t_249 : (I_243 o 6).toInt = (I_220 o 6).toInt := by rw [← e_244, q_u_ne (by omega)]
      have t_250 : (I_243 o 7).toInt = (I_220 o 7).toInt := by rw [← e_244, q_u_ne (by omega)]
      have t_251 : (I_243 o 8).toInt = (I_220 o 8).toInt := by rw [← e_244, q_u_ne (by omega)]
      have t_252 : (I_243 o 9).toInt = (I_220 o 9).toInt := by rw [← e_244, q_u_ne (by omega)]
      have k_253 : MPo I_243 o := u_217.fr (by rw [← e_244, q_u_ne (by omega)]) (by rw [← e_244, q_u_ne (by omega)])
      have k_254 : MTk I_243 o := u_218.fr (by rw [← e_244, q_u_ne (by omega)]) (by rw [← e_244, q_u_ne (by omega)]) (by rw [← e_244, q_u_ne (by omega)])
      have w_255 : I_243 (o + 8) = I0 (o + 8) := by rw [← e_244, q_u_ne (by omega)]; exact w_241
      have l_256 : (1 : Int32).toInt = 1 := rfl
      exact yModel_readPan_101g (I0 := I0) (L0 := L0) hok hw ra hz14 hz15 hz16 hz17 hz18 hz19 hZ hR0 hq0 hq1 hq2 hq3 hp  20000 hR_245 hf_246 (by first | omega | (intro h; omega) | exact Or.inl rfl | exact Or.inr rfl) (by first | omega | (intro h; omega) | exact Or.inl rfl | exact Or.inr rfl) (by first | omega | (intro h; omega) | exact Or.inl rfl | exact Or.inr rfl) (by first | omega | (intro h; omega) | exact Or.inl rfl | exact Or.inr rfl) (by first | omega | (intro h; omega) | exact Or.inl rfl | exact Or.inr rfl) k_253 k_254 w_255 hg (by omega)
    · have d_257 := iNle c_202
      replace hg := gt_neg (by first | exact d_257 | omega) hg
      have a_258 : (12 * x1).toInt = 12 * x1.toInt := tMulL rfl (by omega) (by omega)
      replace hg := gt_let (y := ((12 * x1) : Int32).toInt) (by omega) hg
      have a_259 : ((12 * x1) + x2).toInt = (12 * x1).toInt + x2.toInt := tAdd (by omega) (by omega)
      replace hg := gt_let (y := (((12 * x1) + x2) : Int32).toInt) (by omega) hg
      have l_260 : (0 : Int32).toInt = 0 := rfl
      have l_261 : (999 : Int32).toInt = 999 := rfl
      refine y_Model_numeralg hok hw ra hz14 hz15 hz16 hz17 hz18 hz19 (by first | omega | (intro h; omega) | exact Or.inl rfl | exact Or.inr rfl) hi6 hi7 hR (fun r_262 I_271 L_272 hR_273 fr_274 kp_275 u_263 u_264 u_265 u_266 u_267 u_268 u_269 gn_270 => ⟨r_262, I_271, L_272, rfl, rfl, ?_⟩)
      replace hg := gt_b3 gn_270 hg
      clear gn_270
      have hf_276 : Fm (fun c => c = o ∨ c = o + 8 ∨ (o + 16 ≤ c ∧ c < o + 19)) I0 I_271 := hf.call fr_274 (fun c hc => by first | exact hc | (dsimp only at hc ⊢; omega) | omega)
      have t_277 : (I_271 o 3).toInt = (I o 3).toInt := by rw [kp_275 3 rfl]
      have g_278 : (0 : Int) ≤ (I_271 o 4).toInt ∧ (I_271 o 4).toInt ≤ 5 := hR_273.at0 ra 4 (by decide)
      have g_279 : (0 : Int) ≤ (I_271 o 6).toInt ∧ (I_271 o 6).toInt ≤ 1600 := hR_273.at0 ra 6 (by decide)
      have g_280 : (0 : Int) ≤ (I_271 o 7).toInt ∧ (I_271 o 7).toInt ≤ 1601 := hR_273.at0 ra 7 (by decide)
      have g_281 : (0 : Int) ≤ (I_271 o 8).toInt ∧ (I_271 o 8).toInt ≤ 6 := hR_273.at0 ra 8 (by decide)
      have s_282 : (I0 o 7).toInt ≤ (I_271 o 7).toInt := by omega
      have s_283 : (I0 o 4).toInt ≤ (I_271 o 4).toInt := by omega
      have s_284 : (I_271 o 7).toInt ≤ (I_271 o 3).toInt := by omega
      have s_285 : 7 * (I0 o 7).toInt - (I0 o 8).toInt + (I0 o 4).toInt ≤ 7 * (I_271 o 7).toInt - (I_271 o 8).toInt + (I_271 o 4).toInt := by omega
      clear t_277 g_278 g_279 g_280 g_281 u_263 u_264 u_265 u_266
      have t_286 : (I_271 o 3).toInt = (I0 o 3).toInt := by rw [hZ I_271 3 rfl hR_273]
      have g_287 : (0 : Int) ≤ (I_271 o 3).toInt ∧ (I_271 o 3).toInt ≤ 1600 := hR_273.at0 ra 3 (by decide)
      have g_288 : (0 : Int) ≤ (I_271 o 4).toInt ∧ (I_271 o 4).toInt ≤ 5 := hR_273.at0 ra 4 (by decide)
      have g_289 : (0 : Int) ≤ (I_271 o 6).toInt ∧ (I_271 o 6).toInt ≤ 1600 := hR_273.at0 ra 6 (by decide)
      have g_290 : (0 : Int) ≤ (I_271 o 7).toInt ∧ (I_271 o 7).toInt ≤ 1601 := hR_273.at0 ra 7 (by decide)
      have g_291 : (0 : Int) ≤ (I_271 o 8).toInt ∧ (I_271 o 8).toInt ≤ 6 := hR_273.at0 ra 8 (by decide)
      have w_292 : I_271 (o + 8) = I0 (o + 8) := (fr_274 (o + 8) (by first | omega | (dsimp only; omega))).trans hi8
      refine ⟨tIn (by omega) (by omega), fun I_293 e_294 => ?_⟩
      replace hg := gt_let (y := tI I_293) (tI_q e_294) hg
      have hR_295 : RI R I_293 := hR_273.up ra 17 (by decide) (Or.inl rfl) e_294 (i_lo _) (i_hi _)
      have hf_296 : Fm (fun c => c = o ∨ c = o + 8 ∨ (o + 16 ≤ c ∧ c < o + 19)) I0 I_293 := hf_276.set (by first | rfl | omega | (dsimp only; omega)) e_294
      have t_297 : (I_293 o 3).toInt = (I_271 o 3).toInt := by rw [← e_294, q_u_ne (by omega)]
      have t_298 : (I_293 o 4).toInt = (I_271 o 4).toInt := by rw [← e_294, q_u_ne (by omega)]
      have t_299 : (I_293 o 6).toInt = (I_271 o 6).toInt := by rw [← e_294, q_u_ne (by omega)]
      have t_300 : (I_293 o 7).toInt = (I_271 o 7).toInt := by rw [← e_294, q_u_ne (by omega)]
      have t_301 : (I_293 o 8).toInt = (I_271 o 8).toInt := by rw [← e_294, q_u_ne (by omega)]
      have t_302 : (I_293 o 9).toInt = (I_271 o 9).toInt := by rw [← e_294, q_u_ne (by omega)]
      have k_303 : MPo I_293 o := u_268.fr (by rw [← e_294, q_u_ne (by omega)]) (by rw [← e_294, q_u_ne (by omega)])
      have k_304 : MTk I_293 o := u_269.fr (by rw [← e_294, q_u_ne (by omega)]) (by rw [← e_294, q_u_ne (by omega)]) (by rw [← e_294, q_u_ne (by omega)])
      have w_305 : I_293 (o + 8) = I0 (o + 8) := by rw [← e_294, q_u_ne (by omega)]; exact w_292
      have a_307 : (x2 + Int32.ofInt 1).toInt = x2.toInt + (1) := tIc (by omega) (by omega) (by decide) (by decide)
      generalize ez_306 : (x2 + Int32.ofInt 1) = z_306 at a_307 ⊢
      replace hg := gt_let (y := z_306.toInt) (by omega) hg
      exact ih hR_295 hf_296 (by first | omega | (intro h; omega) | exact Or.inl rfl | exact Or.inr rfl) (by first | omega | (intro h; omega) | exact Or.inl rfl | exact Or.inr rfl) (by first | omega | (intro h; omega) | exact Or.inl rfl | exact Or.inr rfl) (by first | omega | (intro h; omega) | exact Or.inl rfl | exact Or.inr rfl) (by first | omega | (intro h; omega) | exact Or.inl rfl | exact Or.inr rfl) (by first | omega | (intro h; omega) | exact Or.inl rfl | exact Or.inr rfl) k_303 k_304 w_305 hg (by omega)
set_option maxHeartbeats 4000000 in
set_option maxRecDepth 20000 in
theorem yc_Model_readPang {D : va_G} {cA : FieldType → ClassId} {b : Nat} {E : State → Prop} {R : qRg} {o n : Nat} {sh : Nat → qC} {Rf : Nat → Nat → Option Nat} {I0 : Nat → Nat → Int32} {L0 : Nat → Nat → Int64} {post : Option Value → qS → Prop} (hok : q_ok (qGG D cA b E)) (hw : WfModel (qGG D cA b E) n sh Rf o) (ra : RAModel R o) (hz14 : R.2 14 = true) (hz15 : R.2 15 = true) (hz16 : R.2 16 = true) (hz17 : R.2 17 = true) (hz18 : R.2 18 = true) (hz19 : R.2 19 = true) (hZ : Fz R I0 o wModel_readPan) (hR0 : RI R I0) (hq0 : (I0 o 7).toInt ≤ (I0 o 3).toInt) (hq1 : (I0 (o + 8) (I0 o 35 : Int32).toNatClampNeg).toInt ≤ 2) (hq2 : MPo I0 o) (hq3 : MTk I0 o) (hR : RI R I0) (hp : ∀ (I' : Nat → Nat → Int32) (L' : Nat → Nat → Int64), RI R I' → Fm (fun c => c = o ∨ c = o + 8 ∨ (o + 16 ≤ c ∧ c < o + 19)) I0 I' → ((I' o 7).toInt ≤ (I' o 3).toInt) → ((I0 o 7).toInt ≤ (I' o 7).toInt) → ((I0 o 4).toInt ≤ (I' o 4).toInt) → (7 * (I0 o 7).toInt - (I0 o 8).toInt + (I0 o 4).toInt ≤ 7 * (I' o 7).toInt - (I' o 8).toInt + (I' o 4).toInt) → (MPo I' o) → (MTk I' o) → (gModel_readPan_0 o (tI I0) L0 = (0, tI I', L')) → post none (n, sh, Rf, I', L')) : Ev (qGG D cA b E) mModel_readPan 5 (0, 0) 0 (lv_args 0 [.ref o]) [] (n, sh, Rf, I0, L0) post := by
  have hf : Fm (fun c => c = o ∨ c = o + 8 ∨ (o + 16 ≤ c ∧ c < o + 19)) I0 I0 := Fm.rf
  have g_308 : (0 : Int) ≤ (I0 o 3).toInt ∧ (I0 o 3).toInt ≤ 1600 := hR.at0 ra 3 (by decide)
  have g_309 : (0 : Int) ≤ (I0 o 4).toInt ∧ (I0 o 4).toInt ≤ 5 := hR.at0 ra 4 (by decide)
  have g_310 : (0 : Int) ≤ (I0 o 6).toInt ∧ (I0 o 6).toInt ≤ 1600 := hR.at0 ra 6 (by decide)
  have g_311 : (0 : Int) ≤ (I0 o 7).toInt ∧ (I0 o 7).toInt ≤ 1601 := hR.at0 ra 7 (by decide)
  have g_312 : (0 : Int) ≤ (I0 o 8).toInt ∧ (I0 o 8).toInt ≤ 6 := hR.at0 ra 8 (by decide)
  refine sModel_readPan_0 o n sh Rf I0 L0 post  hok hw ?_
  unfold fModel_readPan_0
  have hg : gModel_readPan_0 o (tI I0) L0 = gModel_readPan_0 o (tI I0) L0 := rfl
  replace hg := (eModel_readPan_0).symm.trans hg
  have g_313 : (0 : Int) ≤ (I0 o 35).toInt ∧ (I0 o 35).toInt ≤ 1 := hR.at0 ra 35 (by decide)
  replace hg := gt_let (y := (I0 o 35).toInt) rfl hg
  have l_314 : (3 : Int32).toInt = 3 := rfl
  have a_315 : (3 * (I0 o 35)).toInt = 3 * (I0 o 35).toInt := tMulL rfl (by omega) (by omega)
  replace hg := gt_let (y := ((3 * (I0 o 35)) : Int32).toInt) (by omega) hg
  have g_316 : (0 : Int) ≤ (I0 o 35).toInt ∧ (I0 o 35).toInt ≤ 1 := hR.at0 ra 35 (by decide)
  replace hg := gt_let (y := (I0 o 35).toInt) rfl hg
  refine ⟨tIn (by omega) (by omega), ?_⟩
  have g_317 : (0 : Int) ≤ (I0 (o + 8) ((I0 o 35) : Int32).toNatClampNeg).toInt ∧ (I0 (o + 8) ((I0 o 35) : Int32).toNatClampNeg).toInt ≤ 3 := hR.at ra 8 _ (by decide)
  replace hg := gt_let (y := (I0 (o + 8) ((I0 o 35) : Int32).toNatClampNeg).toInt) rfl hg
  have a_318 : ((3 * (I0 o 35)) + (I0 (o + 8) ((I0 o 35) : Int32).toNatClampNeg)).toInt = (3 * (I0 o 35)).toInt + (I0 (o + 8) ((I0 o 35) : Int32).toNatClampNeg).toInt := tAdd (by omega) (by omega)
  replace hg := gt_let (y := (((3 * (I0 o 35)) + (I0 (o + 8) ((I0 o 35) : Int32).toNatClampNeg)) : Int32).toInt) (by omega) hg
  refine y_Model_newNameg hok hw ra hz14 hz15 hz16 hz17 hz18 hz19 (by first | omega | (intro h; omega) | exact Or.inl rfl | exact Or.inr rfl) hq2 hq3 hR (fun r_319 I_327 L_328 hR_329 fr_330 kp_331 u_320 u_321 u_322 u_323 u_324 u_325 gn_326 => ⟨r_319, I_327, L_328, rfl, rfl, ?_⟩)
  replace hg := gt_b3 gn_326 hg
  clear gn_326
  have hf_332 : Fm (fun c => c = o ∨ c = o + 8 ∨ (o + 16 ≤ c ∧ c < o + 19)) I0 I_327 := hf.call fr_330 (fun c hc => by first | exact hc | (dsimp only at hc ⊢; omega) | omega)
  have t_333 : (I_327 o 3).toInt = (I0 o 3).toInt := by rw [kp_331 3 rfl]
  have g_334 : (0 : Int) ≤ (I_327 o 4).toInt ∧ (I_327 o 4).toInt ≤ 5 := hR_329.at0 ra 4 (by decide)
  have g_335 : (0 : Int) ≤ (I_327 o 6).toInt ∧ (I_327 o 6).toInt ≤ 1600 := hR_329.at0 ra 6 (by decide)
  have g_336 : (0 : Int) ≤ (I_327 o 7).toInt ∧ (I_327 o 7).toInt ≤ 1601 := hR_329.at0 ra 7 (by decide)
  have g_337 : (0 : Int) ≤ (I_327 o 8).toInt ∧ (I_327 o 8).toInt ≤ 6 := hR_329.at0 ra 8 (by decide)
  have t_338 : (I_327 o 35).toInt = (I0 o 35).toInt := by rw [kp_331 35 rfl]
  have s_339 : (I0 o 7).toInt ≤ (I_327 o 7).toInt := by omega
  have s_340 : (I0 o 4).toInt ≤ (I_327 o 4).toInt := by omega
  have s_341 : (I_327 o 7).toInt ≤ (I_327 o 3).toInt := by omega
  have s_342 : 7 * (I0 o 7).toInt - (I0 o 8).toInt + (I0 o 4).toInt ≤ 7 * (I_327 o 7).toInt - (I_327 o 8).toInt + (I_327 o 4).toInt := by omega
  clear t_333 g_334 g_335 g_336 g_337 t_338 u_320 u_321 u_322 u_323
  have t_343 : (I_327 o 3).toInt = (I0 o 3).toInt := by rw [hZ I_327 3 rfl hR_329]
  have g_344 : (0 : Int) ≤ (I_327 o 3).toInt ∧ (I_327 o 3).toInt ≤ 1600 := hR_329.at0 ra 3 (by decide)
  have g_345 : (0 : Int) ≤ (I_327 o 4).toInt ∧ (I_327 o 4).toInt ≤ 5 := hR_329.at0 ra 4 (by decide)
  have g_346 : (0 : Int) ≤ (I_327 o 6).toInt ∧ (I_327 o 6).toInt ≤ 1600 := hR_329.at0 ra 6 (by decide)
  have g_347 : (0 : Int) ≤ (I_327 o 7).toInt ∧ (I_327 o 7).toInt ≤ 1601 := hR_329.at0 ra 7 (by decide)
  have g_348 : (0 : Int) ≤ (I_327 o 8).toInt ∧ (I_327 o 8).toInt ≤ 6 := hR_329.at0 ra 8 (by decide)
  have t_349 : (I_327 o 35).toInt = (I0 o 35).toInt := by rw [hZ I_327 35 rfl hR_329]
  have g_350 : (0 : Int) ≤ (I_327 o 35).toInt ∧ (I_327 o 35).toInt ≤ 1 := hR_329.at0 ra 35 (by decide)
  have w_351 : I_327 (o + 8) = I0 (o + 8) := (fr_330 (o + 8) (by first | omega | (dsimp only; omega)))
  refine ⟨tIn (by omega) (by omega), fun L_352 e_353 => ?_⟩
  replace hg := gt_let (y := L_352) e_353 hg
  refine y_Model_pointg hok hw ra hz14 hz15 hz16 hz17 hz18 hz19 (by first | omega | (intro h; omega) | exact Or.inl rfl | exact Or.inr rfl) u_324 u_325 hR_329 (fun r_354 I_363 L_364 hR_365 fr_366 kp_367 u_355 u_356 u_357 u_358 u_359 u_360 u_361 gn_362 => ⟨r_354, I_363, L_364, rfl, rfl, ?_⟩)
  replace hg := gt_b3 gn_362 hg
  clear gn_362
  have hf_368 : Fm (fun c => c = o ∨ c = o + 8 ∨ (o + 16 ≤ c ∧ c < o + 19)) I0 I_363 := hf_332.call fr_366 (fun c hc => by first | exact hc | (dsimp only at hc ⊢; omega) | omega)
  have t_369 : (I_363 o 3).toInt = (I_327 o 3).toInt := by rw [kp_367 3 rfl]
  have g_370 : (0 : Int) ≤ (I_363 o 4).toInt ∧ (I_363 o 4).toInt ≤ 5 := hR_365.at0 ra 4 (by decide)
  have g_371 : (0 : Int) ≤ (I_363 o 6).toInt ∧ (I_363 o 6).toInt ≤ 1600 := hR_365.at0 ra 6 (by decide)
  have g_372 : (0 : Int) ≤ (I_363 o 7).toInt ∧ (I_363 o 7).toInt ≤ 1601 := hR_365.at0 ra 7 (by decide)
  have g_373 : (0 : Int) ≤ (I_363 o 8).toInt ∧ (I_363 o 8).toInt ≤ 6 := hR_365.at0 ra 8 (by decide)
  have t_374 : (I_363 o 35).toInt = (I_327 o 35).toInt := by rw [kp_367 35 rfl]
  have s_375 : (I0 o 7).toInt ≤ (I_363 o 7).toInt := by omega
  have s_376 : (I0 o 4).toInt ≤ (I_363 o 4).toInt := by omega
  have s_377 : (I_363 o 7).toInt ≤ (I_363 o 3).toInt := by omega
  have s_378 : 7 * (I0 o 7).toInt - (I0 o 8).toInt + (I0 o 4).toInt ≤ 7 * (I_363 o 7).toInt - (I_363 o 8).toInt + (I_363 o 4).toInt := by omega
  clear s_339 s_340 s_341 s_342 t_343 g_344 g_345 g_346 g_347 g_348 t_349 g_350 t_369 g_370 g_371 g_372 g_373 t_374 u_356 u_357 u_358 u_359
  have t_379 : (I_363 o 3).toInt = (I0 o 3).toInt := by rw [hZ I_363 3 rfl hR_365]
  have g_380 : (0 : Int) ≤ (I_363 o 3).toInt ∧ (I_363 o 3).toInt ≤ 1600 := hR_365.at0 ra 3 (by decide)
  have g_381 : (0 : Int) ≤ (I_363 o 4).toInt ∧ (I_363 o 4).toInt ≤ 5 := hR_365.at0 ra 4 (by decide)
  have g_382 : (0 : Int) ≤ (I_363 o 6).toInt ∧ (I_363 o 6).toInt ≤ 1600 := hR_365.at0 ra 6 (by decide)
  have g_383 : (0 : Int) ≤ (I_363 o 7).toInt ∧ (I_363 o 7).toInt ≤ 1601 := hR_365.at0 ra 7 (by decide)
  have g_384 : (0 : Int) ≤ (I_363 o 8).toInt ∧ (I_363 o 8).toInt ≤ 6 := hR_365.at0 ra 8 (by decide)
  have t_385 : (I_363 o 35).toInt = (I0 o 35).toInt := by rw [hZ I_363 35 rfl hR_365]
  have g_386 : (0 : Int) ≤ (I_363 o 35).toInt ∧ (I_363 o 35).toInt ≤ 1 := hR_365.at0 ra 35 (by decide)
  have w_387 : I_363 (o + 8) = I0 (o + 8) := (fr_366 (o + 8) (by first | omega | (dsimp only; omega))).trans w_351
  refine ⟨tIn (by omega) (by omega), fun I_388 e_389 => ?_⟩
  replace hg := gt_let (y := tI I_388) (tI_q e_389) hg
  have hR_390 : RI R I_388 := hR_365.up ra 16 (by decide) (Or.inl rfl) e_389 (show (0 : Int) ≤ r_354.toInt by omega) (show r_354.toInt ≤ (15 : Int) by omega)
  have hf_391 : Fm (fun c => c = o ∨ c = o + 8 ∨ (o + 16 ≤ c ∧ c < o + 19)) I0 I_388 := hf_368.set (by first | rfl | omega | (dsimp only; omega)) e_389
  have t_392 : (I_388 o 3).toInt = (I_363 o 3).toInt := by rw [← e_389, q_u_ne (by omega)]
  have t_393 : (I_388 o 4).toInt = (I_363 o 4).toInt := by rw [← e_389, q_u_ne (by omega)]
  have t_394 : (I_388 o 6).toInt = (I_363 o 6).toInt := by rw [← e_389, q_u_ne (by omega)]
  have t_395 : (I_388 o 7).toInt = (I_363 o 7).toInt := by rw [← e_389, q_u_ne (by omega)]
  have t_396 : (I_388 o 8).toInt = (I_363 o 8).toInt := by rw [← e_389, q_u_ne (by omega)]
  have t_397 : (I_388 o 9).toInt = (I_363 o 9).toInt := by rw [← e_389, q_u_ne (by omega)]
  have t_398 : (I_388 o 35).toInt = (I_363 o 35).toInt := by rw [← e_389, q_u_ne (by omega)]
  have k_399 : MPo I_388 o := u_360.fr (by rw [← e_389, q_u_ne (by omega)]) (by rw [← e_389, q_u_ne (by omega)])
  have k_400 : MTk I_388 o := u_361.fr (by rw [← e_389, q_u_ne (by omega)]) (by rw [← e_389, q_u_ne (by omega)]) (by rw [← e_389, q_u_ne (by omega)])
  have w_401 : I_388 (o + 8) = I0 (o + 8) := by rw [← e_389, q_u_ne (by omega)]; exact w_387
  refine y_Model_isWordg hok hw ra hR_390 (fun r_402 u_403 u_404 gn_405 => ⟨r_402, I_388, L_364, rfl, rfl, ?_⟩)
  replace hg := gt_let gn_405 hg
  clear gn_405
  have b_406 : 0 ≤ r_402.toInt ∧ r_402.toInt ≤ 1 := u_403.rg
  refine y_Model_mustg hok hw ra hz14 hz15 hz16 hz17 hz18 hz19 (by first | omega | (intro h; omega) | exact Or.inl rfl | exact Or.inr rfl) k_399 k_400 hR_390 (fun I_418 L_419 hR_420 fr_421 kp_422 u_408 u_409 u_410 u_411 u_412 u_413 u_414 u_415 u_416 gn_417 => ⟨I_418, L_419, rfl, rfl, ?_⟩)
  replace hg := gt_b3 gn_417 hg
  clear gn_417
  have hf_423 : Fm (fun c => c = o ∨ c = o + 8 ∨ (o + 16 ≤ c ∧ c < o + 19)) I0 I_418 := hf_391.call fr_421 (fun c hc => by first | exact hc | (dsimp only at hc ⊢; omega) | omega)
  have t_424 : (I_418 o 3).toInt = (I_388 o 3).toInt := by rw [kp_422 3 rfl]
  have g_425 : (0 : Int) ≤ (I_418 o 4).toInt ∧ (I_418 o 4).toInt ≤ 5 := hR_420.at0 ra 4 (by decide)
  have g_426 : (0 : Int) ≤ (I_418 o 6).toInt ∧ (I_418 o 6).toInt ≤ 1600 := hR_420.at0 ra 6 (by decide)
  have g_427 : (0 : Int) ≤ (I_418 o 7).toInt ∧ (I_418 o 7).toInt ≤ 1601 := hR_420.at0 ra 7 (by decide)
  have g_428 : (0 : Int) ≤ (I_418 o 8).toInt ∧ (I_418 o 8).toInt ≤ 6 := hR_420.at0 ra 8 (by decide)
  have t_429 : (I_418 o 35).toInt = (I_388 o 35).toInt := by rw [kp_422 35 rfl]
  have s_430 : (I0 o 7).toInt ≤ (I_418 o 7).toInt := by omega
  have s_431 : (I0 o 4).toInt ≤ (I_418 o 4).toInt := by omega
  have s_432 : (I_418 o 7).toInt ≤ (I_418 o 3).toInt := by omega
  have s_433 : 7 * (I0 o 7).toInt - (I0 o 8).toInt + (I0 o 4).toInt ≤ 7 * (I_418 o 7).toInt - (I_418 o 8).toInt + (I_418 o 4).toInt := by omega
  clear s_375 s_376 s_377 s_378 t_379 g_380 g_381 g_382 g_383 g_384 t_385 g_386 t_392 t_393 t_394 t_395 t_396 t_397 t_398 t_424 g_425 g_426 g_427 g_428 t_429 u_408 u_409 u_410 u_411 u_413
  have t_434 : (I_418 o 3).toInt = (I0 o 3).toInt := by rw [hZ I_418 3 rfl hR_420]
  have g_435 : (0 : Int) ≤ (I_418 o 3).toInt ∧ (I_418 o 3).toInt ≤ 1600 := hR_420.at0 ra 3 (by decide)
  have g_436 : (0 : Int) ≤ (I_418 o 4).toInt ∧ (I_418 o 4).toInt ≤ 5 := hR_420.at0 ra 4 (by decide)
  have g_437 : (0 : Int) ≤ (I_418 o 6).toInt ∧ (I_418 o 6).toInt ≤ 1600 := hR_420.at0 ra 6 (by decide)
  have g_438 : (0 : Int) ≤ (I_418 o 7).toInt ∧ (I_418 o 7).toInt ≤ 1601 := hR_420.at0 ra 7 (by decide)
  have g_439 : (0 : Int) ≤ (I_418 o 8).toInt ∧ (I_418 o 8).toInt ≤ 6 := hR_420.at0 ra 8 (by decide)
  have t_440 : (I_418 o 35).toInt = (I0 o 35).toInt := by rw [hZ I_418 35 rfl hR_420]
  have g_441 : (0 : Int) ≤ (I_418 o 35).toInt ∧ (I_418 o 35).toInt ≤ 1 := hR_420.at0 ra 35 (by decide)
  have w_442 : I_418 (o + 8) = I0 (o + 8) := (fr_421 (o + 8) (by first | omega | (dsimp only; omega))).trans w_401
  have l_443 : (0 : Int32).toInt = 0 := rfl
  exact yModel_readPan_50g (I0 := I0) (L0 := L0) hok hw ra hz14 hz15 hz16 hz17 hz18 hz19 hZ hR0 hq0 hq1 hq2 hq3 hp  20000 hR_420 hf_423 (by first | omega | (intro h; omega) | exact Or.inl rfl | exact Or.inr rfl) (by first | omega | (intro h; omega) | exact Or.inl rfl | exact Or.inr rfl) (by first | omega | (intro h; omega) | exact Or.inl rfl | exact Or.inr rfl) (by first | omega | (intro h; omega) | exact Or.inl rfl | exact Or.inr rfl) (by first | omega | (intro h; omega) | exact Or.inl rfl | exact Or.inr rfl) (by first | omega | (intro h; omega) | exact Or.inl rfl | exact Or.inr rfl) u_415 u_416 w_442 hg (by omega)
theorem y_Model_readPang {D : va_G} {cA : FieldType → ClassId} {b : Nat} {E : State → Prop} {R : qRg} {o n : Nat} {sh : Nat → qC} {Rf : Nat → Nat → Option Nat} {I0 : Nat → Nat → Int32} {L0 : Nat → Nat → Int64} {post : Option Value → qS → Prop} (hok : q_ok (qGG D cA b E)) (hw : WfModel (qGG D cA b E) n sh Rf o) (ra : RAModel R o) (hz14 : R.2 14 = true) (hz15 : R.2 15 = true) (hz16 : R.2 16 = true) (hz17 : R.2 17 = true) (hz18 : R.2 18 = true) (hz19 : R.2 19 = true) (hq0 : (I0 o 7).toInt ≤ (I0 o 3).toInt) (hq1 : (I0 (o + 8) (I0 o 35 : Int32).toNatClampNeg).toInt ≤ 2) (hq2 : MPo I0 o) (hq3 : MTk I0 o) (hR : RI R I0) (hp : ∀ (I' : Nat → Nat → Int32) (L' : Nat → Nat → Int64), RI R I' → Fm (fun c => c = o ∨ c = o + 8 ∨ (o + 16 ≤ c ∧ c < o + 19)) I0 I' → Kp wModel_readPan I0 I' o → ((I' o 7).toInt ≤ (I' o 3).toInt) → ((I0 o 7).toInt ≤ (I' o 7).toInt) → ((I0 o 4).toInt ≤ (I' o 4).toInt) → (7 * (I0 o 7).toInt - (I0 o 8).toInt + (I0 o 4).toInt ≤ 7 * (I' o 7).toInt - (I' o 8).toInt + (I' o 4).toInt) → (MPo I' o) → (MTk I' o) → (gModel_readPan_0 o (tI I0) L0 = (0, tI I', L')) → post none (n, sh, Rf, I', L')) : Ev (qGG D cA b E) mModel_readPan 5 (0, 0) 0 (lv_args 0 [.ref o]) [] (n, sh, Rf, I0, L0) post :=
  yc_Model_readPang (R := fzR R I0 o wModel_readPan) hok hw (fzA ra hR _) (fzT hz14 rfl) (fzT hz15 rfl) (fzT hz16 rfl) (fzT hz17 rfl) (fzT hz18 rfl) (fzT hz19 rfl) fzZ (fzI hR) hq0 hq1 hq2 hq3 (fzI hR) (fun I' L' h1 h2 u0 u1 u2 u3 u4 u5 ug => hp I' L' (fzB hR h1) h2 (fzP h1) u0 u1 u2 u3 u4 u5 ug)
noncomputable def gModel_readLine_128 (o : Nat) (J : gJ) (L : gL) (x1 : Int) (x2 : Int) (x3 : Int) (z0 : Int) : Int × gJ × gL := (if z0 = 0 then gLet (gModel_isGood_0 o J L) (fun (r_1 : Int) => (if r_1 = 0 then (0, J, L) else gB3 (gModel_next_0 o J L) (fun r_2 J_3 L_4 => (if x1 = 0 then (if x2 = 0 then (if x3 = 0 then gB3 (gModel_readTown_0 o J_3 L_4) (fun r_5 J_6 L_7 => gLet (gModel_is_0 o J_6 L_7 59) (fun (r_8 : Int) => gB3 (gModel_must_0 o J_6 L_7 r_8) (fun r_9 J_10 L_11 => (0, J_10, L_11)))) else gB3 (gModel_readPan_0 o J_3 L_4) (fun r_12 J_13 L_14 => gLet (gModel_is_0 o J_13 L_14 59) (fun (r_15 : Int) => gB3 (gModel_must_0 o J_13 L_14 r_15) (fun r_16 J_17 L_18 => (0, J_17, L_18))))) else gB3 (gModel_readFort_0 o J_3 L_4) (fun r_19 J_20 L_21 => gLet (gModel_is_0 o J_20 L_21 59) (fun (r_22 : Int) => gB3 (gModel_must_0 o J_20 L_21 r_22) (fun r_23 J_24 L_25 => (0, J_24, L_25))))) else gB3 (gModel_readRoad_0 o J_3 L_4) (fun r_26 J_27 L_28 => gLet (gModel_is_0 o J_27 L_28 59) (fun (r_29 : Int) => gB3 (gModel_must_0 o J_27 L_28 r_29) (fun r_30 J_31 L_32 => (0, J_31, L_32)))))))) else gB3 (gModel_wrong_0 o J L) (fun r_33 J_34 L_35 => gLet (gModel_isGood_0 o J_34 L_35) (fun (r_36 : Int) => (if r_36 = 0 then (0, J_34, L_35) else gB3 (gModel_next_0 o J_34 L_35) (fun r_37 J_38 L_39 => (if x1 = 0 then (if x2 = 0 then (if x3 = 0 then gB3 (gModel_readTown_0 o J_38 L_39) (fun r_40 J_41 L_42 => gLet (gModel_is_0 o J_41 L_42 59) (fun (r_43 : Int) => gB3 (gModel_must_0 o J_41 L_42 r_43) (fun r_44 J_45 L_46 => (0, J_45, L_46)))) else gB3 (gModel_readPan_0 o J_38 L_39) (fun r_47 J_48 L_49 => gLet (gModel_is_0 o J_48 L_49 59) (fun (r_50 : Int) => gB3 (gModel_must_0 o J_48 L_49 r_50) (fun r_51 J_52 L_53 => (0, J_52, L_53))))) else gB3 (gModel_readFort_0 o J_38 L_39) (fun r_54 J_55 L_56 => gLet (gModel_is_0 o J_55 L_56 59) (fun (r_57 : Int) => gB3 (gModel_must_0 o J_55 L_56 r_57) (fun r_58 J_59 L_60 => (0, J_59, L_60))))) else gB3 (gModel_readRoad_0 o J_38 L_39) (fun r_61 J_62 L_63 => gLet (gModel_is_0 o J_62 L_63 59) (fun (r_64 : Int) => gB3 (gModel_must_0 o J_62 L_63 r_64) (fun r_65 J_66 L_67 => (0, J_66, L_67))))))))))
theorem eModel_readLine_128 {o : Nat} {J : gJ} {L : gL} {x1 : Int} {x2 : Int} {x3 : Int} {z0 : Int} : gModel_readLine_128 o J L x1 x2 x3 z0 = (if z0 = 0 then gLet (gModel_isGood_0 o J L) (fun (r_1 : Int) => (if r_1 = 0 then (0, J, L) else gB3 (gModel_next_0 o J L) (fun r_2 J_3 L_4 => (if x1 = 0 then (if x2 = 0 then (if x3 = 0 then gB3 (gModel_readTown_0 o J_3 L_4) (fun r_5 J_6 L_7 => gLet (gModel_is_0 o J_6 L_7 59) (fun (r_8 : Int) => gB3 (gModel_must_0 o J_6 L_7 r_8) (fun r_9 J_10 L_11 => (0, J_10, L_11)))) else gB3 (gModel_readPan_0 o J_3 L_4) (fun r_12 J_13 L_14 => gLet (gModel_is_0 o J_13 L_14 59) (fun (r_15 : Int) => gB3 (gModel_must_0 o J_13 L_14 r_15) (fun r_16 J_17 L_18 => (0, J_17, L_18))))) else gB3 (gModel_readFort_0 o J_3 L_4) (fun r_19 J_20 L_21 => gLet (gModel_is_0 o J_20 L_21 59) (fun (r_22 : Int) => gB3 (gModel_must_0 o J_20 L_21 r_22) (fun r_23 J_24 L_25 => (0, J_24, L_25))))) else gB3 (gModel_readRoad_0 o J_3 L_4) (fun r_26 J_27 L_28 => gLet (gModel_is_0 o J_27 L_28 59) (fun (r_29 : Int) => gB3 (gModel_must_0 o J_27 L_28 r_29) (fun r_30 J_31 L_32 => (0, J_31, L_32)))))))) else gB3 (gModel_wrong_0 o J L) (fun r_33 J_34 L_35 => gLet (gModel_isGood_0 o J_34 L_35) (fun (r_36 : Int) => (if r_36 = 0 then (0, J_34, L_35) else gB3 (gModel_next_0 o J_34 L_35) (fun r_37 J_38 L_39 => (if x1 = 0 then (if x2 = 0 then (if x3 = 0 then gB3 (gModel_readTown_0 o J_38 L_39) (fun r_40 J_41 L_42 => gLet (gModel_is_0 o J_41 L_42 59) (fun (r_43 : Int) => gB3 (gModel_must_0 o J_41 L_42 r_43) (fun r_44 J_45 L_46 => (0, J_45, L_46)))) else gB3 (gModel_readPan_0 o J_38 L_39) (fun r_47 J_48 L_49 => gLet (gModel_is_0 o J_48 L_49 59) (fun (r_50 : Int) => gB3 (gModel_must_0 o J_48 L_49 r_50) (fun r_51 J_52 L_53 => (0, J_52, L_53))))) else gB3 (gModel_readFort_0 o J_38 L_39) (fun r_54 J_55 L_56 => gLet (gModel_is_0 o J_55 L_56 59) (fun (r_57 : Int) => gB3 (gModel_must_0 o J_55 L_56 r_57) (fun r_58 J_59 L_60 => (0, J_59, L_60))))) else gB3 (gModel_readRoad_0 o J_38 L_39) (fun r_61 J_62 L_63 => gLet (gModel_is_0 o J_62 L_63 59) (fun (r_64 : Int) => gB3 (gModel_must_0 o J_62 L_63 r_64) (fun r_65 J_66 L_67 => (0, J_66, L_67)))))))))) := rfl
noncomputable def gModel_readLine_123 (o : Nat) (J : gJ) (L : gL) (x1 : Int) (x2 : Int) (x3 : Int) : Int × gJ × gL := (gModel_readLine_128 o J L x1 x2 x3 1)
theorem eModel_readLine_123 {o : Nat} {J : gJ} {L : gL} {x1 : Int} {x2 : Int} {x3 : Int} : gModel_readLine_123 o J L x1 x2 x3 = (gModel_readLine_128 o J L x1 x2 x3 1) := rfl
noncomputable def gModel_readLine_0 (o : Nat) (J : gJ) (L : gL) : Int × gJ × gL := gLet (gModel_isWord_0 o J L 1919902052) (fun (r_1 : Int) => gLet (gModel_isWord_0 o J L 1718579828) (fun (r_2 : Int) => gLet (gModel_isWord_0 o J L 7364974) (fun (r_3 : Int) => (if r_1 = 0 then (if r_2 = 0 then (if r_3 = 0 then gLet (gModel_isWord_0 o J L 1953462126) (fun (r_4 : Int) => (if r_4 = 0 then (gModel_readLine_123 o J L r_1 r_2 r_3) else gLet (J o 35) (fun (v_5 : Int) => gLet (J (o + 9) (Int.toNat v_5)) (fun (v_6 : Int) => (if v_6 = 5 then (gModel_readLine_123 o J L r_1 r_2 r_3) else (gModel_readLine_128 o J L r_1 r_2 r_3 0)))))) else gLet (J o 35) (fun (v_7 : Int) => gLet (J (o + 8) (Int.toNat v_7)) (fun (v_8 : Int) => (if v_8 = 3 then (gModel_readLine_128 o J L r_1 r_2 r_3 1) else (gModel_readLine_128 o J L r_1 r_2 r_3 0))))) else gLet (J o 35) (fun (v_9 : Int) => gLet (J (o + 7) (Int.toNat v_9)) (fun (v_10 : Int) => (if v_10 = 3 then (gModel_readLine_128 o J L r_1 r_2 r_3 1) else (gModel_readLine_128 o J L r_1 r_2 r_3 0))))) else gLet (J o 35) (fun (v_11 : Int) => gLet (J (o + 6) (Int.toNat v_11)) (fun (v_12 : Int) => (if v_12 = 24 then (gModel_readLine_128 o J L r_1 r_2 r_3 1) else (gModel_readLine_128 o J L r_1 r_2 r_3 0))))))))
theorem eModel_readLine_0 {o : Nat} {J : gJ} {L : gL} : gModel_readLine_0 o J L  = gLet (gModel_isWord_0 o J L 1919902052) (fun (r_1 : Int) => gLet (gModel_isWord_0 o J L 1718579828) (fun (r_2 : Int) => gLet (gModel_isWord_0 o J L 7364974) (fun (r_3 : Int) => (if r_1 = 0 then (if r_2 = 0 then (if r_3 = 0 then gLet (gModel_isWord_0 o J L 1953462126) (fun (r_4 : Int) => (if r_4 = 0 then (gModel_readLine_123 o J L r_1 r_2 r_3) else gLet (J o 35) (fun (v_5 : Int) => gLet (J (o + 9) (Int.toNat v_5)) (fun (v_6 : Int) => (if v_6 = 5 then (gModel_readLine_123 o J L r_1 r_2 r_3) else (gModel_readLine_128 o J L r_1 r_2 r_3 0)))))) else gLet (J o 35) (fun (v_7 : Int) => gLet (J (o + 8) (Int.toNat v_7)) (fun (v_8 : Int) => (if v_8 = 3 then (gModel_readLine_128 o J L r_1 r_2 r_3 1) else (gModel_readLine_128 o J L r_1 r_2 r_3 0))))) else gLet (J o 35) (fun (v_9 : Int) => gLet (J (o + 7) (Int.toNat v_9)) (fun (v_10 : Int) => (if v_10 = 3 then (gModel_readLine_128 o J L r_1 r_2 r_3 1) else (gModel_readLine_128 o J L r_1 r_2 r_3 0))))) else gLet (J o 35) (fun (v_11 : Int) => gLet (J (o + 6) (Int.toNat v_11)) (fun (v_12 : Int) => (if v_12 = 24 then (gModel_readLine_128 o J L r_1 r_2 r_3 1) else (gModel_readLine_128 o J L r_1 r_2 r_3 0)))))))) := rfl
set_option maxHeartbeats 4000000 in
set_option maxRecDepth 20000 in
theorem yc_Model_readLineg {D : va_G} {cA : FieldType → ClassId} {b : Nat} {E : State → Prop} {R : qRg} {o n : Nat} {sh : Nat → qC} {Rf : Nat → Nat → Option Nat} {I0 : Nat → Nat → Int32} {L0 : Nat → Nat → Int64} {post : Option Value → qS → Prop} (hok : q_ok (qGG D cA b E)) (hw : WfModel (qGG D cA b E) n sh Rf o) (ra : RAModel R o) (hz14 : R.2 14 = true) (hz15 : R.2 15 = true) (hz16 : R.2 16 = true) (hz17 : R.2 17 = true) (hz18 : R.2 18 = true) (hz19 : R.2 19 = true) (hZ : Fz R I0 o wModel_readLine) (hR0 : RI R I0) (hq0 : (I0 o 7).toInt ≤ (I0 o 3).toInt) (hq1 : (I0 o 4).toInt = 0) (hq2 : (I0 o 8).toInt ≠ 0) (hq3 : MPo I0 o) (hq4 : MTk I0 o) (hR : RI R I0) (hp : ∀ (I' : Nat → Nat → Int32) (L' : Nat → Nat → Int64), RI R I' → Fm (fun c => c = o ∨ (o + 6 ≤ c ∧ c < o + 25)) I0 I' → ((I' o 7).toInt ≤ (I' o 3).toInt) → ((I0 o 7).toInt ≤ (I' o 7).toInt) → ((I0 o 4).toInt ≤ (I' o 4).toInt) → (7 * (I0 o 7).toInt - (I0 o 8).toInt + (I0 o 4).toInt ≤ 7 * (I' o 7).toInt - (I' o 8).toInt + (I' o 4).toInt) → (7 * (I0 o 7).toInt - (I0 o 8).toInt + (I0 o 4).toInt < 7 * (I' o 7).toInt - (I' o 8).toInt + (I' o 4).toInt) → (MPo I' o) → (MTk I' o) → (gModel_readLine_0 o (tI I0) L0 = (0, tI I', L')) → post none (n, sh, Rf, I', L')) : Ev (qGG D cA b E) mModel_readLine 6 (0, 0) 0 (lv_args 0 [.ref o]) [] (n, sh, Rf, I0, L0) post := by
  have hf : Fm (fun c => c = o ∨ (o + 6 ≤ c ∧ c < o + 25)) I0 I0 := Fm.rf
  have g_1 : (0 : Int) ≤ (I0 o 3).toInt ∧ (I0 o 3).toInt ≤ 1600 := hR.at0 ra 3 (by decide)
  have g_2 : (0 : Int) ≤ (I0 o 4).toInt ∧ (I0 o 4).toInt ≤ 5 := hR.at0 ra 4 (by decide)
  have g_3 : (0 : Int) ≤ (I0 o 6).toInt ∧ (I0 o 6).toInt ≤ 1600 := hR.at0 ra 6 (by decide)
  have g_4 : (0 : Int) ≤ (I0 o 7).toInt ∧ (I0 o 7).toInt ≤ 1601 := hR.at0 ra 7 (by decide)
  have g_5 : (0 : Int) ≤ (I0 o 8).toInt ∧ (I0 o 8).toInt ≤ 6 := hR.at0 ra 8 (by decide)
  refine sModel_readLine_0 o n sh Rf I0 L0 post  hok hw ?_
  unfold fModel_readLine_0
  have hg : gModel_readLine_0 o (tI I0) L0 = gModel_readLine_0 o (tI I0) L0 := rfl
  replace hg := (eModel_readLine_0).symm.trans hg
  have l_6 : (1919902052 : Int32).toInt = 1919902052 := rfl
  refine y_Model_isWordg hok hw ra hR (fun r_7 u_8 u_9 gn_10 => ⟨r_7, I0, L0, rfl, rfl, ?_⟩)
  replace hg := gt_let gn_10 hg
  clear gn_10
  have b_11 : 0 ≤ r_7.toInt ∧ r_7.toInt ≤ 1 := u_8.rg
  have l_12 : (1718579828 : Int32).toInt = 1718579828 := rfl
  refine y_Model_isWordg hok hw ra hR (fun r_13 u_14 u_15 gn_16 => ⟨r_13, I0, L0, rfl, rfl, ?_⟩)
  replace hg := gt_let gn_16 hg
  clear gn_16
  have b_17 : 0 ≤ r_13.toInt ∧ r_13.toInt ≤ 1 := u_14.rg
  have l_18 : (7364974 : Int32).toInt = 7364974 := rfl
  refine y_Model_isWordg hok hw ra hR (fun r_19 u_20 u_21 gn_22 => ⟨r_19, I0, L0, rfl, rfl, ?_⟩)
  replace hg := gt_let gn_22 hg
  clear gn_22
  have b_23 : 0 ≤ r_19.toInt ∧ r_19.toInt ≤ 1 := u_20.rg
  have l_24 : (0 : Int32).toInt = 0 := rfl
  refine ⟨fun c_25 => ?_, fun c_25 => ?_⟩
  · have d_26 := iEq c_25
    replace hg := gt_pos (by first | exact d_26 | omega) hg
    refine ⟨fun c_27 => ?_, fun c_27 => ?_⟩
    · have d_28 := iEq c_27
      replace hg := gt_pos (by first | exact d_28 | omega) hg
      refine ⟨fun c_29 => ?_, fun c_29 => ?_⟩
      · have d_30 := iEq c_29
        replace hg := gt_pos (by first | exact d_30 | omega) hg
        have l_31 : (1953462126 : Int32).toInt = 1953462126 := rfl
        refine y_Model_isWordg hok hw ra hR (fun r_32 u_33 u_34 gn_35 => ⟨r_32, I0, L0, rfl, rfl, ?_⟩)
        replace hg := gt_let gn_35 hg
        clear gn_35
        have b_36 : 0 ≤ r_32.toInt ∧ r_32.toInt ≤ 1 := u_33.rg
        refine ⟨fun c_37 => ?_, fun c_37 => ?_⟩
        · have d_38 := iEq c_37
          replace hg := gt_pos (by first | exact d_38 | omega) hg
          unfold fModel_readLine_123
          replace hg := (eModel_readLine_123).symm.trans hg
          unfold fModel_readLine_128
          replace hg := (eModel_readLine_128).symm.trans hg
          have l_39 : (1 : Int32).toInt = 1 := rfl
          refine ⟨fun c_40 => ?_, fun c_40 => ?_⟩
          · have d_41 := iEq c_40
            exfalso; omega
          · have d_42 := iNe c_40
            replace hg := gt_neg (by first | exact d_42 | omega) hg
            refine y_Model_wrongg hok hw ra hz14 hz15 hR (fun I_47 L_48 hR_49 fr_50 kp_51 u_44 u_45 gn_46 => ⟨I_47, L_48, rfl, rfl, ?_⟩)
            replace hg := gt_b3 gn_46 hg
            clear gn_46
            have hf_52 : Fm (fun c => c = o ∨ (o + 6 ≤ c ∧ c < o + 25)) I0 I_47 := hf.call fr_50 (fun c hc => by first | exact hc | (dsimp only at hc ⊢; omega) | omega)
            have t_53 : (I_47 o 3).toInt = (I0 o 3).toInt := by rw [kp_51 3 rfl]
            have g_54 : (0 : Int) ≤ (I_47 o 4).toInt ∧ (I_47 o 4).toInt ≤ 5 := hR_49.at0 ra 4 (by decide)
            have t_55 : (I_47 o 6).toInt = (I0 o 6).toInt := by rw [kp_51 6 rfl]
            have t_56 : (I_47 o 7).toInt = (I0 o 7).toInt := by rw [kp_51 7 rfl]
            have t_57 : (I_47 o 8).toInt = (I0 o 8).toInt := by rw [kp_51 8 rfl]
            have t_58 : (I_47 o 9).toInt = (I0 o 9).toInt := by rw [kp_51 9 rfl]
            have k_59 : MPo I_47 o := hq3.fr (kp_51 8 rfl) (kp_51 9 rfl)
            have k_60 : MTk I_47 o := hq4.fr (kp_51 6 rfl) (kp_51 7 rfl) (kp_51 8 rfl)
            have w_61 : I_47 (o + 6) = I0 (o + 6) := (fr_50 (o + 6) (by first | omega | (dsimp only; omega)))
            have w_62 : I_47 (o + 7) = I0 (o + 7) := (fr_50 (o + 7) (by first | omega | (dsimp only; omega)))
            have w_63 : I_47 (o + 8) = I0 (o + 8) := (fr_50 (o + 8) (by first | omega | (dsimp only; omega)))
            have w_64 : I_47 (o + 9) = I0 (o + 9) := (fr_50 (o + 9) (by first | omega | (dsimp only; omega)))
            refine y_Model_isGoodg hok hw ra hR_49 (fun r_65 u_66 u_67 u_68 gn_69 => ⟨r_65, I_47, L_48, rfl, rfl, ?_⟩)
            replace hg := gt_let gn_69 hg
            clear gn_69
            have b_70 : 0 ≤ r_65.toInt ∧ r_65.toInt ≤ 1 := u_66.rg
            refine ⟨fun c_71 => ?_, fun c_71 => ?_⟩
            · have d_72 := iNe c_71
              have i_73 := u_67 (by omega)
              replace hg := gt_neg (by first | exact d_72 | omega) hg
              have gd := u_67 (by omega)
              refine y_Model_nextg hok hw ra hz16 hz17 hz18 hz19 (by first | omega | (intro h; omega) | exact Or.inl rfl | exact Or.inr rfl) hR_49 (fun I_84 L_85 hR_86 fr_87 kp_88 u_75 u_76 u_77 u_78 u_79 u_80 u_81 u_82 gn_83 => ⟨I_84, L_85, rfl, rfl, ?_⟩)
              replace hg := gt_b3 gn_83 hg
              clear gn_83
              have hf_89 : Fm (fun c => c = o ∨ (o + 6 ≤ c ∧ c < o + 25)) I0 I_84 := hf_52.call fr_87 (fun c hc => by first | exact hc | (dsimp only at hc ⊢; omega) | omega)
              have t_90 : (I_84 o 3).toInt = (I_47 o 3).toInt := by rw [kp_88 3 rfl]
              have t_91 : (I_84 o 4).toInt = (I_47 o 4).toInt := by rw [kp_88 4 rfl]
              have g_92 : (0 : Int) ≤ (I_84 o 6).toInt ∧ (I_84 o 6).toInt ≤ 1600 := hR_86.at0 ra 6 (by decide)
              have g_93 : (0 : Int) ≤ (I_84 o 7).toInt ∧ (I_84 o 7).toInt ≤ 1601 := hR_86.at0 ra 7 (by decide)
              have g_94 : (0 : Int) ≤ (I_84 o 8).toInt ∧ (I_84 o 8).toInt ≤ 6 := hR_86.at0 ra 8 (by decide)
              have w_95 : I_84 (o + 6) = I0 (o + 6) := (fr_87 (o + 6) (by first | omega | (dsimp only; omega))).trans w_61
              have w_96 : I_84 (o + 7) = I0 (o + 7) := (fr_87 (o + 7) (by first | omega | (dsimp only; omega))).trans w_62
              have w_97 : I_84 (o + 8) = I0 (o + 8) := (fr_87 (o + 8) (by first | omega | (dsimp only; omega))).trans w_63
              have w_98 : I_84 (o + 9) = I0 (o + 9) := (fr_87 (o + 9) (by first | omega | (dsimp only; omega))).trans w_64
              have ms := u_78 (by omega)
              refine ⟨fun c_99 => ?_, fun c_99 => ?_⟩
              · have d_100 := iEq c_99
                replace hg := gt_pos (by first | exact d_100 | omega) hg
                refine ⟨fun c_101 => ?_, fun c_101 => ?_⟩
                · have d_102 := iEq c_101
                  replace hg := gt_pos (by first | exact d_102 | omega) hg
                  refine ⟨fun c_103 => ?_, fun c_103 => ?_⟩
                  · have d_104 := iEq c_103
                    replace hg := gt_pos (by first | exact d_104 | omega) hg
                    refine y_Model_readTowng hok hw ra hz14 hz15 hz16 hz17 hz18 hz19 (by first | omega | (intro h; omega) | exact Or.inl rfl | exact Or.inr rfl) (by rw [w_98, hZ _ 35 rfl hR_86]; omega) u_81 u_82 hR_86 (fun I_113 L_114 hR_115 fr_116 kp_117 u_106 u_107 u_108 u_109 u_110 u_111 gn_112 => ⟨I_113, L_114, rfl, rfl, ?_⟩)
                    replace hg := gt_b3 gn_112 hg
                    clear gn_112
                    have hf_118 : Fm (fun c => c = o ∨ (o + 6 ≤ c ∧ c < o + 25)) I0 I_113 := hf_89.call fr_116 (fun c hc => by first | exact hc | (dsimp only at hc ⊢; omega) | omega)
                    have t_119 : (I_113 o 3).toInt = (I_84 o 3).toInt := by rw [kp_117 3 rfl]
                    have g_120 : (0 : Int) ≤ (I_113 o 4).toInt ∧ (I_113 o 4).toInt ≤ 5 := hR_115.at0 ra 4 (by decide)
                    have g_121 : (0 : Int) ≤ (I_113 o 6).toInt ∧ (I_113 o 6).toInt ≤ 1600 := hR_115.at0 ra 6 (by decide)
                    have g_122 : (0 : Int) ≤ (I_113 o 7).toInt ∧ (I_113 o 7).toInt ≤ 1601 := hR_115.at0 ra 7 (by decide)
                    have g_123 : (0 : Int) ≤ (I_113 o 8).toInt ∧ (I_113 o 8).toInt ≤ 6 := hR_115.at0 ra 8 (by decide)
                    have w_124 : I_113 (o + 6) = I0 (o + 6) := (fr_116 (o + 6) (by first | omega | (dsimp only; omega))).trans w_95
                    have w_125 : I_113 (o + 7) = I0 (o + 7) := (fr_116 (o + 7) (by first | omega | (dsimp only; omega))).trans w_96
                    have w_126 : I_113 (o + 8) = I0 (o + 8) := (fr_116 (o + 8) (by first | omega | (dsimp only; omega))).trans w_97
                    have l_127 : (59 : Int32).toInt = 59 := rfl
                    refine y_Model_isg hok hw ra hR_115 (fun r_128 u_129 u_130 u_131 gn_132 => ⟨r_128, I_113, L_114, rfl, rfl, ?_⟩)
                    replace hg := gt_let gn_132 hg
                    clear gn_132
                    have b_133 : 0 ≤ r_128.toInt ∧ r_128.toInt ≤ 1 := u_129.rg
                    refine y_Model_mustg hok hw ra hz14 hz15 hz16 hz17 hz18 hz19 (by first | omega | (intro h; omega) | exact Or.inl rfl | exact Or.inr rfl) u_110 u_111 hR_115 (fun I_145 L_146 hR_147 fr_148 kp_149 u_135 u_136 u_137 u_138 u_139 u_140 u_141 u_142 u_143 gn_144 => ⟨I_145, L_146, rfl, rfl, ?_⟩)
                    replace hg := gt_b3 gn_144 hg
                    clear gn_144
                    have hf_150 : Fm (fun c => c = o ∨ (o + 6 ≤ c ∧ c < o + 25)) I0 I_145 := hf_118.call fr_148 (fun c hc => by first | exact hc | (dsimp only at hc ⊢; omega) | omega)
                    have t_151 : (I_145 o 3).toInt = (I_113 o 3).toInt := by rw [kp_149 3 rfl]
                    have g_152 : (0 : Int) ≤ (I_145 o 4).toInt ∧ (I_145 o 4).toInt ≤ 5 := hR_147.at0 ra 4 (by decide)
                    have g_153 : (0 : Int) ≤ (I_145 o 6).toInt ∧ (I_145 o 6).toInt ≤ 1600 := hR_147.at0 ra 6 (by decide)
                    have g_154 : (0 : Int) ≤ (I_145 o 7).toInt ∧ (I_145 o 7).toInt ≤ 1601 := hR_147.at0 ra 7 (by decide)
                    have g_155 : (0 : Int) ≤ (I_145 o 8).toInt ∧ (I_145 o 8).toInt ≤ 6 := hR_147.at0 ra 8 (by decide)
                    have w_156 : I_145 (o + 6) = I0 (o + 6) := (fr_148 (o + 6) (by first | omega | (dsimp only; omega))).trans w_124
                    have w_157 : I_145 (o + 7) = I0 (o + 7) := (fr_148 (o + 7) (by first | omega | (dsimp only; omega))).trans w_125
                    have w_158 : I_145 (o + 8) = I0 (o + 8) := (fr_148 (o + 8) (by first | omega | (dsimp only; omega))).trans w_126
                    exact (hp _ _ hR_147 hf_150 (by first | omega | (intro h; omega) | exact Or.inl rfl | exact Or.inr rfl) (by first | omega | (intro h; omega) | exact Or.inl rfl | exact Or.inr rfl) (by first | omega | (intro h; omega) | exact Or.inl rfl | exact Or.inr rfl) (by first | omega | (intro h; omega) | exact Or.inl rfl | exact Or.inr rfl) (by first | omega | (intro h; omega) | exact Or.inl rfl | exact Or.inr rfl) u_142 u_143 hg.symm)
                  · have d_159 := iNe c_103
                    have i_160 := u_21 (by omega)
                    exfalso; omega
                · have d_161 := iNe c_101
                  have i_162 := u_15 (by omega)
                  exfalso; omega
              · have d_163 := iNe c_99
                have i_164 := u_9 (by omega)
                exfalso; omega
            · have d_165 := iEq c_71
              have i_166 := u_68 (by omega)
              replace hg := gt_pos (by first | exact d_165 | omega) hg
              have gb := u_68 (by omega)
              exact (hp _ _ hR_49 hf_52 (by first | omega | (intro h; omega) | exact Or.inl rfl | exact Or.inr rfl) (by first | omega | (intro h; omega) | exact Or.inl rfl | exact Or.inr rfl) (by first | omega | (intro h; omega) | exact Or.inl rfl | exact Or.inr rfl) (by first | omega | (intro h; omega) | exact Or.inl rfl | exact Or.inr rfl) (by first | omega | (intro h; omega) | exact Or.inl rfl | exact Or.inr rfl) k_59 k_60 hg.symm)
        · have d_167 := iNe c_37
          have i_168 := u_34 (by omega)
          replace hg := gt_neg (by first | exact d_167 | omega) hg
          have g_169 : (0 : Int) ≤ (I0 o 35).toInt ∧ (I0 o 35).toInt ≤ 1 := hR.at0 ra 35 (by decide)
          replace hg := gt_let (y := (I0 o 35).toInt) rfl hg
          refine ⟨tIn (by omega) (by omega), ?_⟩
          have g_170 : (0 : Int) ≤ (I0 (o + 9) ((I0 o 35) : Int32).toNatClampNeg).toInt ∧ (I0 (o + 9) ((I0 o 35) : Int32).toNatClampNeg).toInt ≤ 5 := hR.at ra 9 _ (by decide)
          replace hg := gt_let (y := (I0 (o + 9) ((I0 o 35) : Int32).toNatClampNeg).toInt) rfl hg
          have l_171 : (5 : Int32).toInt = 5 := rfl
          refine ⟨fun c_172 => ?_, fun c_172 => ?_⟩
          · have d_173 := iNe c_172
            replace hg := gt_neg (by first | exact d_173 | omega) hg
            unfold fModel_readLine_128
            replace hg := (eModel_readLine_128).symm.trans hg
            refine ⟨fun c_174 => ?_, fun c_174 => ?_⟩
            · have d_175 := iEq c_174
              replace hg := gt_pos (by first | exact d_175 | omega) hg
              refine y_Model_isGoodg hok hw ra hR (fun r_176 u_177 u_178 u_179 gn_180 => ⟨r_176, I0, L0, rfl, rfl, ?_⟩)
              replace hg := gt_let gn_180 hg
              clear gn_180
              have b_181 : 0 ≤ r_176.toInt ∧ r_176.toInt ≤ 1 := u_177.rg
              refine ⟨fun c_182 => ?_, fun c_182 => ?_⟩
              · have d_183 := iNe c_182
                have i_184 := u_178 (by omega)
                replace hg := gt_neg (by first | exact d_183 | omega) hg
                have gd := u_178 (by omega)
                refine y_Model_nextg hok hw ra hz16 hz17 hz18 hz19 (by first | omega | (intro h; omega) | exact Or.inl rfl | exact Or.inr rfl) hR (fun I_195 L_196 hR_197 fr_198 kp_199 u_186 u_187 u_188 u_189 u_190 u_191 u_192 u_193 gn_194 => ⟨I_195, L_196, rfl, rfl, ?_⟩)
                replace hg := gt_b3 gn_194 hg
                clear gn_194
                have hf_200 : Fm (fun c => c = o ∨ (o + 6 ≤ c ∧ c < o + 25)) I0 I_195 := hf.call fr_198 (fun c hc => by first | exact hc | (dsimp only at hc ⊢; omega) | omega)
                have t_201 : (I_195 o 3).toInt = (I0 o 3).toInt := by rw [kp_199 3 rfl]
                have t_202 : (I_195 o 4).toInt = (I0 o 4).toInt := by rw [kp_199 4 rfl]
                have g_203 : (0 : Int) ≤ (I_195 o 6).toInt ∧ (I_195 o 6).toInt ≤ 1600 := hR_197.at0 ra 6 (by decide)
                have g_204 : (0 : Int) ≤ (I_195 o 7).toInt ∧ (I_195 o 7).toInt ≤ 1601 := hR_197.at0 ra 7 (by decide)
                have g_205 : (0 : Int) ≤ (I_195 o 8).toInt ∧ (I_195 o 8).toInt ≤ 6 := hR_197.at0 ra 8 (by decide)
                have t_206 : (I_195 o 35).toInt = (I0 o 35).toInt := by rw [kp_199 35 rfl]
                have w_207 : I_195 (o + 6) = I0 (o + 6) := (fr_198 (o + 6) (by first | omega | (dsimp only; omega)))
                have w_208 : I_195 (o + 7) = I0 (o + 7) := (fr_198 (o + 7) (by first | omega | (dsimp only; omega)))
                have w_209 : I_195 (o + 8) = I0 (o + 8) := (fr_198 (o + 8) (by first | omega | (dsimp only; omega)))
                have w_210 : I_195 (o + 9) = I0 (o + 9) := (fr_198 (o + 9) (by first | omega | (dsimp only; omega)))
                have ms := u_189 (by omega)
                refine ⟨fun c_211 => ?_, fun c_211 => ?_⟩
                · have d_212 := iEq c_211
                  replace hg := gt_pos (by first | exact d_212 | omega) hg
                  refine ⟨fun c_213 => ?_, fun c_213 => ?_⟩
                  · have d_214 := iEq c_213
                    replace hg := gt_pos (by first | exact d_214 | omega) hg
                    refine ⟨fun c_215 => ?_, fun c_215 => ?_⟩
                    · have d_216 := iEq c_215
                      replace hg := gt_pos (by first | exact d_216 | omega) hg
                      refine y_Model_readTowng hok hw ra hz14 hz15 hz16 hz17 hz18 hz19 (by first | omega | (intro h; omega) | exact Or.inl rfl | exact Or.inr rfl) (by rw [w_210, hZ _ 35 rfl hR_197]; omega) u_192 u_193 hR_197 (fun I_225 L_226 hR_227 fr_228 kp_229 u_218 u_219 u_220 u_221 u_222 u_223 gn_224 => ⟨I_225, L_226, rfl, rfl, ?_⟩)
                      replace hg := gt_b3 gn_224 hg
                      clear gn_224
                      have hf_230 : Fm (fun c => c = o ∨ (o + 6 ≤ c ∧ c < o + 25)) I0 I_225 := hf_200.call fr_228 (fun c hc => by first | exact hc | (dsimp only at hc ⊢; omega) | omega)
                      have t_231 : (I_225 o 3).toInt = (I_195 o 3).toInt := by rw [kp_229 3 rfl]
                      have g_232 : (0 : Int) ≤ (I_225 o 4).toInt ∧ (I_225 o 4).toInt ≤ 5 := hR_227.at0 ra 4 (by decide)
                      have g_233 : (0 : Int) ≤ (I_225 o 6).toInt ∧ (I_225 o 6).toInt ≤ 1600 := hR_227.at0 ra 6 (by decide)
                      have g_234 : (0 : Int) ≤ (I_225 o 7).toInt ∧ (I_225 o 7).toInt ≤ 1601 := hR_227.at0 ra 7 (by decide)
                      have g_235 : (0 : Int) ≤ (I_225 o 8).toInt ∧ (I_225 o 8).toInt ≤ 6 := hR_227.at0 ra 8 (by decide)
                      have t_236 : (I_225 o 35).toInt = (I_195 o 35).toInt := by rw [kp_229 35 rfl]
                      have w_237 : I_225 (o + 6) = I0 (o + 6) := (fr_228 (o + 6) (by first | omega | (dsimp only; omega))).trans w_207
                      have w_238 : I_225 (o + 7) = I0 (o + 7) := (fr_228 (o + 7) (by first | omega | (dsimp only; omega))).trans w_208
                      have w_239 : I_225 (o + 8) = I0 (o + 8) := (fr_228 (o + 8) (by first | omega | (dsimp only; omega))).trans w_209
                      have l_240 : (59 : Int32).toInt = 59 := rfl
                      refine y_Model_isg hok hw ra hR_227 (fun r_241 u_242 u_243 u_244 gn_245 => ⟨r_241, I_225, L_226, rfl, rfl, ?_⟩)
                      replace hg := gt_let gn_245 hg
                      clear gn_245
                      have b_246 : 0 ≤ r_241.toInt ∧ r_241.toInt ≤ 1 := u_242.rg
                      refine y_Model_mustg hok hw ra hz14 hz15 hz16 hz17 hz18 hz19 (by first | omega | (intro h; omega) | exact Or.inl rfl | exact Or.inr rfl) u_222 u_223 hR_227 (fun I_258 L_259 hR_260 fr_261 kp_262 u_248 u_249 u_250 u_251 u_252 u_253 u_254 u_255 u_256 gn_257 => ⟨I_258, L_259, rfl, rfl, ?_⟩)
                      replace hg := gt_b3 gn_257 hg
                      clear gn_257
                      have hf_263 : Fm (fun c => c = o ∨ (o + 6 ≤ c ∧ c < o + 25)) I0 I_258 := hf_230.call fr_261 (fun c hc => by first | exact hc | (dsimp only at hc ⊢; omega) | omega)
                      have t_264 : (I_258 o 3).toInt = (I_225 o 3).toInt := by rw [kp_262 3 rfl]
                      have g_265 : (0 : Int) ≤ (I_258 o 4).toInt ∧ (I_258 o 4).toInt ≤ 5 := hR_260.at0 ra 4 (by decide)
                      have g_266 : (0 : Int) ≤ (I_258 o 6).toInt ∧ (I_258 o 6).toInt ≤ 1600 := hR_260.at0 ra 6 (by decide)
                      have g_267 : (0 : Int) ≤ (I_258 o 7).toInt ∧ (I_258 o 7).toInt ≤ 1601 := hR_260.at0 ra 7 (by decide)
                      have g_268 : (0 : Int) ≤ (I_258 o 8).toInt ∧ (I_258 o 8).toInt ≤ 6 := hR_260.at0 ra 8 (by decide)
                      have t_269 : (I_258 o 35).toInt = (I_225 o 35).toInt := by rw [kp_262 35 rfl]
                      have w_270 : I_258 (o + 6) = I0 (o + 6) := (fr_261 (o + 6) (by first | omega | (dsimp only; omega))).trans w_237
                      have w_271 : I_258 (o + 7) = I0 (o + 7) := (fr_261 (o + 7) (by first | omega | (dsimp only; omega))).trans w_238
                      have w_272 : I_258 (o + 8) = I0 (o + 8) := (fr_261 (o + 8) (by first | omega | (dsimp only; omega))).trans w_239
                      exact (hp _ _ hR_260 hf_263 (by first | omega | (intro h; omega) | exact Or.inl rfl | exact Or.inr rfl) (by first | omega | (intro h; omega) | exact Or.inl rfl | exact Or.inr rfl) (by first | omega | (intro h; omega) | exact Or.inl rfl | exact Or.inr rfl) (by first | omega | (intro h; omega) | exact Or.inl rfl | exact Or.inr rfl) (by first | omega | (intro h; omega) | exact Or.inl rfl | exact Or.inr rfl) u_255 u_256 hg.symm)
                    · have d_273 := iNe c_215
                      have i_274 := u_21 (by omega)
                      exfalso; omega
                  · have d_275 := iNe c_213
                    have i_276 := u_15 (by omega)
                    exfalso; omega
                · have d_277 := iNe c_211
                  have i_278 := u_9 (by omega)
                  exfalso; omega
              · have d_279 := iEq c_182
                have i_280 := u_179 (by omega)
                replace hg := gt_pos (by first | exact d_279 | omega) hg
                have gb := u_179 (by omega)
                exact (hp _ _ hR hf (by first | omega | (intro h; omega) | exact Or.inl rfl | exact Or.inr rfl) (by first | omega | (intro h; omega) | exact Or.inl rfl | exact Or.inr rfl) (by first | omega | (intro h; omega) | exact Or.inl rfl | exact Or.inr rfl) (by first | omega | (intro h; omega) | exact Or.inl rfl | exact Or.inr rfl) (by first | omega | (intro h; omega) | exact Or.inl rfl | exact Or.inr rfl) hq3 hq4 hg.symm)
            · have d_281 := iNe c_174
              exfalso; omega
          · have d_282 := iEq c_172
            replace hg := gt_pos (by first | exact d_282 | omega) hg
            unfold fModel_readLine_123
            replace hg := (eModel_readLine_123).symm.trans hg
            unfold fModel_readLine_128
            replace hg := (eModel_readLine_128).symm.trans hg
            have l_283 : (1 : Int32).toInt = 1 := rfl
            refine ⟨fun c_284 => ?_, fun c_284 => ?_⟩
            · have d_285 := iEq c_284
              exfalso; omega
            · have d_286 := iNe c_284
              replace hg := gt_neg (by first | exact d_286 | omega) hg
              refine y_Model_wrongg hok hw ra hz14 hz15 hR (fun I_291 L_292 hR_293 fr_294 kp_295 u_288 u_289 gn_290 => ⟨I_291, L_292, rfl, rfl, ?_⟩)
              replace hg := gt_b3 gn_290 hg
              clear gn_290
              have hf_296 : Fm (fun c => c = o ∨ (o + 6 ≤ c ∧ c < o + 25)) I0 I_291 := hf.call fr_294 (fun c hc => by first | exact hc | (dsimp only at hc ⊢; omega) | omega)
              have t_297 : (I_291 o 3).toInt = (I0 o 3).toInt := by rw [kp_295 3 rfl]
              have g_298 : (0 : Int) ≤ (I_291 o 4).toInt ∧ (I_291 o 4).toInt ≤ 5 := hR_293.at0 ra 4 (by decide)
              have t_299 : (I_291 o 6).toInt = (I0 o 6).toInt := by rw [kp_295 6 rfl]
              have t_300 : (I_291 o 7).toInt = (I0 o 7).toInt := by rw [kp_295 7 rfl]
              have t_301 : (I_291 o 8).toInt = (I0 o 8).toInt := by rw [kp_295 8 rfl]
              have t_302 : (I_291 o 9).toInt = (I0 o 9).toInt := by rw [kp_295 9 rfl]
              have t_303 : (I_291 o 35).toInt = (I0 o 35).toInt := by rw [kp_295 35 rfl]
              have k_304 : MPo I_291 o := hq3.fr (kp_295 8 rfl) (kp_295 9 rfl)
              have k_305 : MTk I_291 o := hq4.fr (kp_295 6 rfl) (kp_295 7 rfl) (kp_295 8 rfl)
              have w_306 : I_291 (o + 6) = I0 (o + 6) := (fr_294 (o + 6) (by first | omega | (dsimp only; omega)))
              have w_307 : I_291 (o + 7) = I0 (o + 7) := (fr_294 (o + 7) (by first | omega | (dsimp only; omega)))
              have w_308 : I_291 (o + 8) = I0 (o + 8) := (fr_294 (o + 8) (by first | omega | (dsimp only; omega)))
              have w_309 : I_291 (o + 9) = I0 (o + 9) := (fr_294 (o + 9) (by first | omega | (dsimp only; omega)))
              refine y_Model_isGoodg hok hw ra hR_293 (fun r_310 u_311 u_312 u_313 gn_314 => ⟨r_310, I_291, L_292, rfl, rfl, ?_⟩)
              replace hg := gt_let gn_314 hg
              clear gn_314
              have b_315 : 0 ≤ r_310.toInt ∧ r_310.toInt ≤ 1 := u_311.rg
              refine ⟨fun c_316 => ?_, fun c_316 => ?_⟩
              · have d_317 := iNe c_316
                have i_318 := u_312 (by omega)
                replace hg := gt_neg (by first | exact d_317 | omega) hg
                have gd := u_312 (by omega)
                refine y_Model_nextg hok hw ra hz16 hz17 hz18 hz19 (by first | omega | (intro h; omega) | exact Or.inl rfl | exact Or.inr rfl) hR_293 (fun I_329 L_330 hR_331 fr_332 kp_333 u_320 u_321 u_322 u_323 u_324 u_325 u_326 u_327 gn_328 => ⟨I_329, L_330, rfl, rfl, ?_⟩)
                replace hg := gt_b3 gn_328 hg
                clear gn_328
                have hf_334 : Fm (fun c => c = o ∨ (o + 6 ≤ c ∧ c < o + 25)) I0 I_329 := hf_296.call fr_332 (fun c hc => by first | exact hc | (dsimp only at hc ⊢; omega) | omega)
                have t_335 : (I_329 o 3).toInt = (I_291 o 3).toInt := by rw [kp_333 3 rfl]
                have t_336 : (I_329 o 4).toInt = (I_291 o 4).toInt := by rw [kp_333 4 rfl]
                have g_337 : (0 : Int) ≤ (I_329 o 6).toInt ∧ (I_329 o 6).toInt ≤ 1600 := hR_331.at0 ra 6 (by decide)
                have g_338 : (0 : Int) ≤ (I_329 o 7).toInt ∧ (I_329 o 7).toInt ≤ 1601 := hR_331.at0 ra 7 (by decide)
                have g_339 : (0 : Int) ≤ (I_329 o 8).toInt ∧ (I_329 o 8).toInt ≤ 6 := hR_331.at0 ra 8 (by decide)
                have t_340 : (I_329 o 35).toInt = (I_291 o 35).toInt := by rw [kp_333 35 rfl]
                have w_341 : I_329 (o + 6) = I0 (o + 6) := (fr_332 (o + 6) (by first | omega | (dsimp only; omega))).trans w_306
                have w_342 : I_329 (o + 7) = I0 (o + 7) := (fr_332 (o + 7) (by first | omega | (dsimp only; omega))).trans w_307
                have w_343 : I_329 (o + 8) = I0 (o + 8) := (fr_332 (o + 8) (by first | omega | (dsimp only; omega))).trans w_308
                have w_344 : I_329 (o + 9) = I0 (o + 9) := (fr_332 (o + 9) (by first | omega | (dsimp only; omega))).trans w_309
                have ms := u_323 (by omega)
                refine ⟨fun c_345 => ?_, fun c_345 => ?_⟩
                · have d_346 := iEq c_345
                  replace hg := gt_pos (by first | exact d_346 | omega) hg
                  refine ⟨fun c_347 => ?_, fun c_347 => ?_⟩
                  · have d_348 := iEq c_347
                    replace hg := gt_pos (by first | exact d_348 | omega) hg
                    refine ⟨fun c_349 => ?_, fun c_349 => ?_⟩
                    · have d_350 := iEq c_349
                      replace hg := gt_pos (by first | exact d_350 | omega) hg
                      refine y_Model_readTowng hok hw ra hz14 hz15 hz16 hz17 hz18 hz19 (by first | omega | (intro h; omega) | exact Or.inl rfl | exact Or.inr rfl) (by rw [w_344, hZ _ 35 rfl hR_331]; omega) u_326 u_327 hR_331 (fun I_359 L_360 hR_361 fr_362 kp_363 u_352 u_353 u_354 u_355 u_356 u_357 gn_358 => ⟨I_359, L_360, rfl, rfl, ?_⟩)
                      replace hg := gt_b3 gn_358 hg
                      clear gn_358
                      have hf_364 : Fm (fun c => c = o ∨ (o + 6 ≤ c ∧ c < o + 25)) I0 I_359 := hf_334.call fr_362 (fun c hc => by first | exact hc | (dsimp only at hc ⊢; omega) | omega)
                      have t_365 : (I_359 o 3).toInt = (I_329 o 3).toInt := by rw [kp_363 3 rfl]
                      have g_366 : (0 : Int) ≤ (I_359 o 4).toInt ∧ (I_359 o 4).toInt ≤ 5 := hR_361.at0 ra 4 (by decide)
                      have g_367 : (0 : Int) ≤ (I_359 o 6).toInt ∧ (I_359 o 6).toInt ≤ 1600 := hR_361.at0 ra 6 (by decide)
                      have g_368 : (0 : Int) ≤ (I_359 o 7).toInt ∧ (I_359 o 7).toInt ≤ 1601 := hR_361.at0 ra 7 (by decide)
                      have g_369 : (0 : Int) ≤ (I_359 o 8).toInt ∧ (I_359 o 8).toInt ≤ 6 := hR_361.at0 ra 8 (by decide)
                      have t_370 : (I_359 o 35).toInt = (I_329 o 35).toInt := by rw [kp_363 35 rfl]
                      have w_371 : I_359 (o + 6) = I0 (o + 6) := (fr_362 (o + 6) (by first | omega | (dsimp only; omega))).trans w_341
                      have w_372 : I_359 (o + 7) = I0 (o + 7) := (fr_362 (o + 7) (by first | omega | (dsimp only; omega))).trans w_342
                      have w_373 : I_359 (o + 8) = I0 (o + 8) := (fr_362 (o + 8) (by first | omega | (dsimp only; omega))).trans w_343
                      have l_374 : (59 : Int32).toInt = 59 := rfl
                      refine y_Model_isg hok hw ra hR_361 (fun r_375 u_376 u_377 u_378 gn_379 => ⟨r_375, I_359, L_360, rfl, rfl, ?_⟩)
                      replace hg := gt_let gn_379 hg
                      clear gn_379
                      have b_380 : 0 ≤ r_375.toInt ∧ r_375.toInt ≤ 1 := u_376.rg
                      refine y_Model_mustg hok hw ra hz14 hz15 hz16 hz17 hz18 hz19 (by first | omega | (intro h; omega) | exact Or.inl rfl | exact Or.inr rfl) u_356 u_357 hR_361 (fun I_392 L_393 hR_394 fr_395 kp_396 u_382 u_383 u_384 u_385 u_386 u_387 u_388 u_389 u_390 gn_391 => ⟨I_392, L_393, rfl, rfl, ?_⟩)
                      replace hg := gt_b3 gn_391 hg
                      clear gn_391
                      have hf_397 : Fm (fun c => c = o ∨ (o + 6 ≤ c ∧ c < o + 25)) I0 I_392 := hf_364.call fr_395 (fun c hc => by first | exact hc | (dsimp only at hc ⊢; omega) | omega)
                      have t_398 : (I_392 o 3).toInt = (I_359 o 3).toInt := by rw [kp_396 3 rfl]
                      have g_399 : (0 : Int) ≤ (I_392 o 4).toInt ∧ (I_392 o 4).toInt ≤ 5 := hR_394.at0 ra 4 (by decide)
                      have g_400 : (0 : Int) ≤ (I_392 o 6).toInt ∧ (I_392 o 6).toInt ≤ 1600 := hR_394.at0 ra 6 (by decide)
                      have g_401 : (0 : Int) ≤ (I_392 o 7).toInt ∧ (I_392 o 7).toInt ≤ 1601 := hR_394.at0 ra 7 (by decide)
                      have g_402 : (0 : Int) ≤ (I_392 o 8).toInt ∧ (I_392 o 8).toInt ≤ 6 := hR_394.at0 ra 8 (by decide)
                      have t_403 : (I_392 o 35).toInt = (I_359 o 35).toInt := by rw [kp_396 35 rfl]
                      have w_404 : I_392 (o + 6) = I0 (o + 6) := (fr_395 (o + 6) (by first | omega | (dsimp only; omega))).trans w_371
                      have w_405 : I_392 (o + 7) = I0 (o + 7) := (fr_395 (o + 7) (by first | omega | (dsimp only; omega))).trans w_372
                      have w_406 : I_392 (o + 8) = I0 (o + 8) := (fr_395 (o + 8) (by first | omega | (dsimp only; omega))).trans w_373
                      exact (hp _ _ hR_394 hf_397 (by first | omega | (intro h; omega) | exact Or.inl rfl | exact Or.inr rfl) (by first | omega | (intro h; omega) | exact Or.inl rfl | exact Or.inr rfl) (by first | omega | (intro h; omega) | exact Or.inl rfl | exact Or.inr rfl) (by first | omega | (intro h; omega) | exact Or.inl rfl | exact Or.inr rfl) (by first | omega | (intro h; omega) | exact Or.inl rfl | exact Or.inr rfl) u_389 u_390 hg.symm)
                    · have d_407 := iNe c_349
                      have i_408 := u_21 (by omega)
                      exfalso; omega
                  · have d_409 := iNe c_347
                    have i_410 := u_15 (by omega)
                    exfalso; omega
                · have d_411 := iNe c_345
                  have i_412 := u_9 (by omega)
                  exfalso; omega
              · have d_413 := iEq c_316
                have i_414 := u_313 (by omega)
                replace hg := gt_pos (by first | exact d_413 | omega) hg
                have gb := u_313 (by omega)
                exact (hp _ _ hR_293 hf_296 (by first | omega | (intro h; omega) | exact Or.inl rfl | exact Or.inr rfl) (by first | omega | (intro h; omega) | exact Or.inl rfl | exact Or.inr rfl) (by first | omega | (intro h; omega) | exact Or.inl rfl | exact Or.inr rfl) (by first | omega | (intro h; omega) | exact Or.inl rfl | exact Or.inr rfl) (by first | omega | (intro h; omega) | exact Or.inl rfl | exact Or.inr rfl) k_304 k_305 hg.symm)
      · have d_415 := iNe c_29
        have i_416 := u_21 (by omega)
        replace hg := gt_neg (by first | exact d_415 | omega) hg
        have g_417 : (0 : Int) ≤ (I0 o 35).toInt ∧ (I0 o 35).toInt ≤ 1 := hR.at0 ra 35 (by decide)
        replace hg := gt_let (y := (I0 o 35).toInt) rfl hg
        refine ⟨tIn (by omega) (by omega), ?_⟩
        have g_418 : (0 : Int) ≤ (I0 (o + 8) ((I0 o 35) : Int32).toNatClampNeg).toInt ∧ (I0 (o + 8) ((I0 o 35) : Int32).toNatClampNeg).toInt ≤ 3 := hR.at ra 8 _ (by decide)
        replace hg := gt_let (y := (I0 (o + 8) ((I0 o 35) : Int32).toNatClampNeg).toInt) rfl hg
        have l_419 : (3 : Int32).toInt = 3 := rfl
        refine ⟨fun c_420 => ?_, fun c_420 => ?_⟩
        · have d_421 := iNe c_420
          replace hg := gt_neg (by first | exact d_421 | omega) hg
          unfold fModel_readLine_128
          replace hg := (eModel_readLine_128).symm.trans hg
          refine ⟨fun c_422 => ?_, fun c_422 => ?_⟩
          · have d_423 := iEq c_422
            replace hg := gt_pos (by first | exact d_423 | omega) hg
            refine y_Model_isGoodg hok hw ra hR (fun r_424 u_425 u_426 u_427 gn_428 => ⟨r_424, I0, L0, rfl, rfl, ?_⟩)
            replace hg := gt_let gn_428 hg
            clear gn_428
            have b_429 : 0 ≤ r_424.toInt ∧ r_424.toInt ≤ 1 := u_425.rg
            refine ⟨fun c_430 => ?_, fun c_430 => ?_⟩
            · have d_431 := iNe c_430
              have i_432 := u_426 (by omega)
              replace hg := gt_neg (by first | exact d_431 | omega) hg
              have gd := u_426 (by omega)
              refine y_Model_nextg hok hw ra hz16 hz17 hz18 hz19 (by first | omega | (intro h; omega) | exact Or.inl rfl | exact Or.inr rfl) hR (fun I_443 L_444 hR_445 fr_446 kp_447 u_434 u_435 u_436 u_437 u_438 u_439 u_440 u_441 gn_442 => ⟨I_443, L_444, rfl, rfl, ?_⟩)
              replace hg := gt_b3 gn_442 hg
              clear gn_442
              have hf_448 : Fm (fun c => c = o ∨ (o + 6 ≤ c ∧ c < o + 25)) I0 I_443 := hf.call fr_446 (fun c hc => by first | exact hc | (dsimp only at hc ⊢; omega) | omega)
              have t_449 : (I_443 o 3).toInt = (I0 o 3).toInt := by rw [kp_447 3 rfl]
              have t_450 : (I_443 o 4).toInt = (I0 o 4).toInt := by rw [kp_447 4 rfl]
              have g_451 : (0 : Int) ≤ (I_443 o 6).toInt ∧ (I_443 o 6).toInt ≤ 1600 := hR_445.at0 ra 6 (by decide)
              have g_452 : (0 : Int) ≤ (I_443 o 7).toInt ∧ (I_443 o 7).toInt ≤ 1601 := hR_445.at0 ra 7 (by decide)
              have g_453 : (0 : Int) ≤ (I_443 o 8).toInt ∧ (I_443 o 8).toInt ≤ 6 := hR_445.at0 ra 8 (by decide)
              have t_454 : (I_443 o 35).toInt = (I0 o 35).toInt := by rw [kp_447 35 rfl]
              have w_455 : I_443 (o + 6) = I0 (o + 6) := (fr_446 (o + 6) (by first | omega | (dsimp only; omega)))
              have w_456 : I_443 (o + 7) = I0 (o + 7) := (fr_446 (o + 7) (by first | omega | (dsimp only; omega)))
              have w_457 : I_443 (o + 8) = I0 (o + 8) := (fr_446 (o + 8) (by first | omega | (dsimp only; omega)))
              have w_458 : I_443 (o + 9) = I0 (o + 9) := (fr_446 (o + 9) (by first | omega | (dsimp only; omega)))
              have ms := u_437 (by omega)
              refine ⟨fun c_459 => ?_, fun c_459 => ?_⟩
              · have d_460 := iEq c_459
                replace hg := gt_pos (by first | exact d_460 | omega) hg
                refine ⟨fun c_461 => ?_, fun c_461 => ?_⟩
                · have d_462 := iEq c_461
                  replace hg := gt_pos (by first | exact d_462 | omega) hg
                  refine ⟨fun c_463 => ?_, fun c_463 => ?_⟩
                  · have d_464 := iEq c_463
                    exfalso; omega
                  · have d_465 := iNe c_463
                    have i_466 := u_21 (by omega)
                    replace hg := gt_neg (by first | exact d_465 | omega) hg
                    refine y_Model_readPang hok hw ra hz14 hz15 hz16 hz17 hz18 hz19 (by first | omega | (intro h; omega) | exact Or.inl rfl | exact Or.inr rfl) (by rw [w_457, hZ _ 35 rfl hR_445]; omega) u_440 u_441 hR_445 (fun I_475 L_476 hR_477 fr_478 kp_479 u_468 u_469 u_470 u_471 u_472 u_473 gn_474 => ⟨I_475, L_476, rfl, rfl, ?_⟩)
                    replace hg := gt_b3 gn_474 hg
                    clear gn_474
                    have hf_480 : Fm (fun c => c = o ∨ (o + 6 ≤ c ∧ c < o + 25)) I0 I_475 := hf_448.call fr_478 (fun c hc => by first | exact hc | (dsimp only at hc ⊢; omega) | omega)
                    have t_481 : (I_475 o 3).toInt = (I_443 o 3).toInt := by rw [kp_479 3 rfl]
                    have g_482 : (0 : Int) ≤ (I_475 o 4).toInt ∧ (I_475 o 4).toInt ≤ 5 := hR_477.at0 ra 4 (by decide)
                    have g_483 : (0 : Int) ≤ (I_475 o 6).toInt ∧ (I_475 o 6).toInt ≤ 1600 := hR_477.at0 ra 6 (by decide)
                    have g_484 : (0 : Int) ≤ (I_475 o 7).toInt ∧ (I_475 o 7).toInt ≤ 1601 := hR_477.at0 ra 7 (by decide)
                    have g_485 : (0 : Int) ≤ (I_475 o 8).toInt ∧ (I_475 o 8).toInt ≤ 6 := hR_477.at0 ra 8 (by decide)
                    have t_486 : (I_475 o 35).toInt = (I_443 o 35).toInt := by rw [kp_479 35 rfl]
                    have w_487 : I_475 (o + 6) = I0 (o + 6) := (fr_478 (o + 6) (by first | omega | (dsimp only; omega))).trans w_455
                    have w_488 : I_475 (o + 7) = I0 (o + 7) := (fr_478 (o + 7) (by first | omega | (dsimp only; omega))).trans w_456
                    have w_489 : I_475 (o + 9) = I0 (o + 9) := (fr_478 (o + 9) (by first | omega | (dsimp only; omega))).trans w_458
                    have l_490 : (59 : Int32).toInt = 59 := rfl
                    refine y_Model_isg hok hw ra hR_477 (fun r_491 u_492 u_493 u_494 gn_495 => ⟨r_491, I_475, L_476, rfl, rfl, ?_⟩)
                    replace hg := gt_let gn_495 hg
                    clear gn_495
                    have b_496 : 0 ≤ r_491.toInt ∧ r_491.toInt ≤ 1 := u_492.rg
                    refine y_Model_mustg hok hw ra hz14 hz15 hz16 hz17 hz18 hz19 (by first | omega | (intro h; omega) | exact Or.inl rfl | exact Or.inr rfl) u_472 u_473 hR_477 (fun I_508 L_509 hR_510 fr_511 kp_512 u_498 u_499 u_500 u_501 u_502 u_503 u_504 u_505 u_506 gn_507 => ⟨I_508, L_509, rfl, rfl, ?_⟩)
                    replace hg := gt_b3 gn_507 hg
                    clear gn_507
                    have hf_513 : Fm (fun c => c = o ∨ (o + 6 ≤ c ∧ c < o + 25)) I0 I_508 := hf_480.call fr_511 (fun c hc => by first | exact hc | (dsimp only at hc ⊢; omega) | omega)
                    have t_514 : (I_508 o 3).toInt = (I_475 o 3).toInt := by rw [kp_512 3 rfl]
                    have g_515 : (0 : Int) ≤ (I_508 o 4).toInt ∧ (I_508 o 4).toInt ≤ 5 := hR_510.at0 ra 4 (by decide)
                    have g_516 : (0 : Int) ≤ (I_508 o 6).toInt ∧ (I_508 o 6).toInt ≤ 1600 := hR_510.at0 ra 6 (by decide)
                    have g_517 : (0 : Int) ≤ (I_508 o 7).toInt ∧ (I_508 o 7).toInt ≤ 1601 := hR_510.at0 ra 7 (by decide)
                    have g_518 : (0 : Int) ≤ (I_508 o 8).toInt ∧ (I_508 o 8).toInt ≤ 6 := hR_510.at0 ra 8 (by decide)
                    have t_519 : (I_508 o 35).toInt = (I_475 o 35).toInt := by rw [kp_512 35 rfl]
                    have w_520 : I_508 (o + 6) = I0 (o + 6) := (fr_511 (o + 6) (by first | omega | (dsimp only; omega))).trans w_487
                    have w_521 : I_508 (o + 7) = I0 (o + 7) := (fr_511 (o + 7) (by first | omega | (dsimp only; omega))).trans w_488
                    have w_522 : I_508 (o + 9) = I0 (o + 9) := (fr_511 (o + 9) (by first | omega | (dsimp only; omega))).trans w_489
                    exact (hp _ _ hR_510 hf_513 (by first | omega | (intro h; omega) | exact Or.inl rfl | exact Or.inr rfl) (by first | omega | (intro h; omega) | exact Or.inl rfl | exact Or.inr rfl) (by first | omega | (intro h; omega) | exact Or.inl rfl | exact Or.inr rfl) (by first | omega | (intro h; omega) | exact Or.inl rfl | exact Or.inr rfl) (by first | omega | (intro h; omega) | exact Or.inl rfl | exact Or.inr rfl) u_505 u_506 hg.symm)
                · have d_523 := iNe c_461
                  have i_524 := u_15 (by omega)
                  exfalso; omega
              · have d_525 := iNe c_459
                have i_526 := u_9 (by omega)
                exfalso; omega
            · have d_527 := iEq c_430
              have i_528 := u_427 (by omega)
              replace hg := gt_pos (by first | exact d_527 | omega) hg
              have gb := u_427 (by omega)
              exact (hp _ _ hR hf (by first | omega | (intro h; omega) | exact Or.inl rfl | exact Or.inr rfl) (by first | omega | (intro h; omega) | exact Or.inl rfl | exact Or.inr rfl) (by first | omega | (intro h; omega) | exact Or.inl rfl | exact Or.inr rfl) (by first | omega | (intro h; omega) | exact Or.inl rfl | exact Or.inr rfl) (by first | omega | (intro h; omega) | exact Or.inl rfl | exact Or.inr rfl) hq3 hq4 hg.symm)
          · have d_529 := iNe c_422
            exfalso; omega
        · have d_530 := iEq c_420
          replace hg := gt_pos (by first | exact d_530 | omega) hg
          unfold fModel_readLine_128
          replace hg := (eModel_readLine_128).symm.trans hg
          have l_531 : (1 : Int32).toInt = 1 := rfl
          refine ⟨fun c_532 => ?_, fun c_532 => ?_⟩
          · have d_533 := iEq c_532
            exfalso; omega
          · have d_534 := iNe c_532
            replace hg := gt_neg (by first | exact d_534 | omega) hg
            refine y_Model_wrongg hok hw ra hz14 hz15 hR (fun I_539 L_540 hR_541 fr_542 kp_543 u_536 u_537 gn_538 => ⟨I_539, L_540, rfl, rfl, ?_⟩)
            replace hg := gt_b3 gn_538 hg
            clear gn_538
            have hf_544 : Fm (fun c => c = o ∨ (o + 6 ≤ c ∧ c < o + 25)) I0 I_539 := hf.call fr_542 (fun c hc => by first | exact hc | (dsimp only at hc ⊢; omega) | omega)
            have t_545 : (I_539 o 3).toInt = (I0 o 3).toInt := by rw [kp_543 3 rfl]
            have g_546 : (0 : Int) ≤ (I_539 o 4).toInt ∧ (I_539 o 4).toInt ≤ 5 := hR_541.at0 ra 4 (by decide)
            have t_547 : (I_539 o 6).toInt = (I0 o 6).toInt := by rw [kp_543 6 rfl]
            have t_548 : (I_539 o 7).toInt = (I0 o 7).toInt := by rw [kp_543 7 rfl]
            have t_549 : (I_539 o 8).toInt = (I0 o 8).toInt := by rw [kp_543 8 rfl]
            have t_550 : (I_539 o 9).toInt = (I0 o 9).toInt := by rw [kp_543 9 rfl]
            have t_551 : (I_539 o 35).toInt = (I0 o 35).toInt := by rw [kp_543 35 rfl]
            have k_552 : MPo I_539 o := hq3.fr (kp_543 8 rfl) (kp_543 9 rfl)
            have k_553 : MTk I_539 o := hq4.fr (kp_543 6 rfl) (kp_543 7 rfl) (kp_543 8 rfl)
            have w_554 : I_539 (o + 6) = I0 (o + 6) := (fr_542 (o + 6) (by first | omega | (dsimp only; omega)))
            have w_555 : I_539 (o + 7) = I0 (o + 7) := (fr_542 (o + 7) (by first | omega | (dsimp only; omega)))
            have w_556 : I_539 (o + 8) = I0 (o + 8) := (fr_542 (o + 8) (by first | omega | (dsimp only; omega)))
            have w_557 : I_539 (o + 9) = I0 (o + 9) := (fr_542 (o + 9) (by first | omega | (dsimp only; omega)))
            refine y_Model_isGoodg hok hw ra hR_541 (fun r_558 u_559 u_560 u_561 gn_562 => ⟨r_558, I_539, L_540, rfl, rfl, ?_⟩)
            replace hg := gt_let gn_562 hg
            clear gn_562
            have b_563 : 0 ≤ r_558.toInt ∧ r_558.toInt ≤ 1 := u_559.rg
            refine ⟨fun c_564 => ?_, fun c_564 => ?_⟩
            · have d_565 := iNe c_564
              have i_566 := u_560 (by omega)
              replace hg := gt_neg (by first | exact d_565 | omega) hg
              have gd := u_560 (by omega)
              refine y_Model_nextg hok hw ra hz16 hz17 hz18 hz19 (by first | omega | (intro h; omega) | exact Or.inl rfl | exact Or.inr rfl) hR_541 (fun I_577 L_578 hR_579 fr_580 kp_581 u_568 u_569 u_570 u_571 u_572 u_573 u_574 u_575 gn_576 => ⟨I_577, L_578, rfl, rfl, ?_⟩)
              replace hg := gt_b3 gn_576 hg
              clear gn_576
              have hf_582 : Fm (fun c => c = o ∨ (o + 6 ≤ c ∧ c < o + 25)) I0 I_577 := hf_544.call fr_580 (fun c hc => by first | exact hc | (dsimp only at hc ⊢; omega) | omega)
              have t_583 : (I_577 o 3).toInt = (I_539 o 3).toInt := by rw [kp_581 3 rfl]
              have t_584 : (I_577 o 4).toInt = (I_539 o 4).toInt := by rw [kp_581 4 rfl]
              have g_585 : (0 : Int) ≤ (I_577 o 6).toInt ∧ (I_577 o 6).toInt ≤ 1600 := hR_579.at0 ra 6 (by decide)
              have g_586 : (0 : Int) ≤ (I_577 o 7).toInt ∧ (I_577 o 7).toInt ≤ 1601 := hR_579.at0 ra 7 (by decide)
              have g_587 : (0 : Int) ≤ (I_577 o 8).toInt ∧ (I_577 o 8).toInt ≤ 6 := hR_579.at0 ra 8 (by decide)
              have t_588 : (I_577 o 35).toInt = (I_539 o 35).toInt := by rw [kp_581 35 rfl]
              have w_589 : I_577 (o + 6) = I0 (o + 6) := (fr_580 (o + 6) (by first | omega | (dsimp only; omega))).trans w_554
              have w_590 : I_577 (o + 7) = I0 (o + 7) := (fr_580 (o + 7) (by first | omega | (dsimp only; omega))).trans w_555
              have w_591 : I_577 (o + 8) = I0 (o + 8) := (fr_580 (o + 8) (by first | omega | (dsimp only; omega))).trans w_556
              have w_592 : I_577 (o + 9) = I0 (o + 9) := (fr_580 (o + 9) (by first | omega | (dsimp only; omega))).trans w_557
              have ms := u_571 (by omega)
              refine ⟨fun c_593 => ?_, fun c_593 => ?_⟩
              · have d_594 := iEq c_593
                replace hg := gt_pos (by first | exact d_594 | omega) hg
                refine ⟨fun c_595 => ?_, fun c_595 => ?_⟩
                · have d_596 := iEq c_595
                  replace hg := gt_pos (by first | exact d_596 | omega) hg
                  refine ⟨fun c_597 => ?_, fun c_597 => ?_⟩
                  · have d_598 := iEq c_597
                    exfalso; omega
                  · have d_599 := iNe c_597
                    have i_600 := u_21 (by omega)
                    replace hg := gt_neg (by first | exact d_599 | omega) hg
                    refine y_Model_readPang hok hw ra hz14 hz15 hz16 hz17 hz18 hz19 (by first | omega | (intro h; omega) | exact Or.inl rfl | exact Or.inr rfl) (by rw [w_591, hZ _ 35 rfl hR_579]; omega) u_574 u_575 hR_579 (fun I_609 L_610 hR_611 fr_612 kp_613 u_602 u_603 u_604 u_605 u_606 u_607 gn_608 => ⟨I_609, L_610, rfl, rfl, ?_⟩)
                    replace hg := gt_b3 gn_608 hg
                    clear gn_608
                    have hf_614 : Fm (fun c => c = o ∨ (o + 6 ≤ c ∧ c < o + 25)) I0 I_609 := hf_582.call fr_612 (fun c hc => by first | exact hc | (dsimp only at hc ⊢; omega) | omega)
                    have t_615 : (I_609 o 3).toInt = (I_577 o 3).toInt := by rw [kp_613 3 rfl]
                    have g_616 : (0 : Int) ≤ (I_609 o 4).toInt ∧ (I_609 o 4).toInt ≤ 5 := hR_611.at0 ra 4 (by decide)
                    have g_617 : (0 : Int) ≤ (I_609 o 6).toInt ∧ (I_609 o 6).toInt ≤ 1600 := hR_611.at0 ra 6 (by decide)
                    have g_618 : (0 : Int) ≤ (I_609 o 7).toInt ∧ (I_609 o 7).toInt ≤ 1601 := hR_611.at0 ra 7 (by decide)
                    have g_619 : (0 : Int) ≤ (I_609 o 8).toInt ∧ (I_609 o 8).toInt ≤ 6 := hR_611.at0 ra 8 (by decide)
                    have t_620 : (I_609 o 35).toInt = (I_577 o 35).toInt := by rw [kp_613 35 rfl]
                    have w_621 : I_609 (o + 6) = I0 (o + 6) := (fr_612 (o + 6) (by first | omega | (dsimp only; omega))).trans w_589
                    have w_622 : I_609 (o + 7) = I0 (o + 7) := (fr_612 (o + 7) (by first | omega | (dsimp only; omega))).trans w_590
                    have w_623 : I_609 (o + 9) = I0 (o + 9) := (fr_612 (o + 9) (by first | omega | (dsimp only; omega))).trans w_592
                    have l_624 : (59 : Int32).toInt = 59 := rfl
                    refine y_Model_isg hok hw ra hR_611 (fun r_625 u_626 u_627 u_628 gn_629 => ⟨r_625, I_609, L_610, rfl, rfl, ?_⟩)
                    replace hg := gt_let gn_629 hg
                    clear gn_629
                    have b_630 : 0 ≤ r_625.toInt ∧ r_625.toInt ≤ 1 := u_626.rg
                    refine y_Model_mustg hok hw ra hz14 hz15 hz16 hz17 hz18 hz19 (by first | omega | (intro h; omega) | exact Or.inl rfl | exact Or.inr rfl) u_606 u_607 hR_611 (fun I_642 L_643 hR_644 fr_645 kp_646 u_632 u_633 u_634 u_635 u_636 u_637 u_638 u_639 u_640 gn_641 => ⟨I_642, L_643, rfl, rfl, ?_⟩)
                    replace hg := gt_b3 gn_641 hg
                    clear gn_641
                    have hf_647 : Fm (fun c => c = o ∨ (o + 6 ≤ c ∧ c < o + 25)) I0 I_642 := hf_614.call fr_645 (fun c hc => by first | exact hc | (dsimp only at hc ⊢; omega) | omega)
                    have t_648 : (I_642 o 3).toInt = (I_609 o 3).toInt := by rw [kp_646 3 rfl]
                    have g_649 : (0 : Int) ≤ (I_642 o 4).toInt ∧ (I_642 o 4).toInt ≤ 5 := hR_644.at0 ra 4 (by decide)
                    have g_650 : (0 : Int) ≤ (I_642 o 6).toInt ∧ (I_642 o 6).toInt ≤ 1600 := hR_644.at0 ra 6 (by decide)
                    have g_651 : (0 : Int) ≤ (I_642 o 7).toInt ∧ (I_642 o 7).toInt ≤ 1601 := hR_644.at0 ra 7 (by decide)
                    have g_652 : (0 : Int) ≤ (I_642 o 8).toInt ∧ (I_642 o 8).toInt ≤ 6 := hR_644.at0 ra 8 (by decide)
                    have t_653 : (I_642 o 35).toInt = (I_609 o 35).toInt := by rw [kp_646 35 rfl]
                    have w_654 : I_642 (o + 6) = I0 (o + 6) := (fr_645 (o + 6) (by first | omega | (dsimp only; omega))).trans w_621
                    have w_655 : I_642 (o + 7) = I0 (o + 7) := (fr_645 (o + 7) (by first | omega | (dsimp only; omega))).trans w_622
                    have w_656 : I_642 (o + 9) = I0 (o + 9) := (fr_645 (o + 9) (by first | omega | (dsimp only; omega))).trans w_623
                    exact (hp _ _ hR_644 hf_647 (by first | omega | (intro h; omega) | exact Or.inl rfl | exact Or.inr rfl) (by first | omega | (intro h; omega) | exact Or.inl rfl | exact Or.inr rfl) (by first | omega | (intro h; omega) | exact Or.inl rfl | exact Or.inr rfl) (by first | omega | (intro h; omega) | exact Or.inl rfl | exact Or.inr rfl) (by first | omega | (intro h; omega) | exact Or.inl rfl | exact Or.inr rfl) u_639 u_640 hg.symm)
                · have d_657 := iNe c_595
                  have i_658 := u_15 (by omega)
                  exfalso; omega
              · have d_659 := iNe c_593
                have i_660 := u_9 (by omega)
                exfalso; omega
            · have d_661 := iEq c_564
              have i_662 := u_561 (by omega)
              replace hg := gt_pos (by first | exact d_661 | omega) hg
              have gb := u_561 (by omega)
              exact (hp _ _ hR_541 hf_544 (by first | omega | (intro h; omega) | exact Or.inl rfl | exact Or.inr rfl) (by first | omega | (intro h; omega) | exact Or.inl rfl | exact Or.inr rfl) (by first | omega | (intro h; omega) | exact Or.inl rfl | exact Or.inr rfl) (by first | omega | (intro h; omega) | exact Or.inl rfl | exact Or.inr rfl) (by first | omega | (intro h; omega) | exact Or.inl rfl | exact Or.inr rfl) k_552 k_553 hg.symm)
    · have d_663 := iNe c_27
      have i_664 := u_15 (by omega)
      replace hg := gt_neg (by first | exact d_663 | omega) hg
      have g_665 : (0 : Int) ≤ (I0 o 35).toInt ∧ (I0 o 35).toInt ≤ 1 := hR.at0 ra 35 (by decide)
      replace hg := gt_let (y := (I0 o 35).toInt) rfl hg
      refine ⟨tIn (by omega) (by omega), ?_⟩
      have g_666 : (0 : Int) ≤ (I0 (o + 7) ((I0 o 35) : Int32).toNatClampNeg).toInt ∧ (I0 (o + 7) ((I0 o 35) : Int32).toNatClampNeg).toInt ≤ 3 := hR.at ra 7 _ (by decide)
      replace hg := gt_let (y := (I0 (o + 7) ((I0 o 35) : Int32).toNatClampNeg).toInt) rfl hg
      have l_667 : (3 : Int32).toInt = 3 := rfl
      refine ⟨fun c_668 => ?_, fun c_668 => ?_⟩
      · have d_669 := iNe c_668
        replace hg := gt_neg (by first | exact d_669 | omega) hg
        unfold fModel_readLine_128
        replace hg := (eModel_readLine_128).symm.trans hg
        refine ⟨fun c_670 => ?_, fun c_670 => ?_⟩
        · have d_671 := iEq c_670
          replace hg := gt_pos (by first | exact d_671 | omega) hg
          refine y_Model_isGoodg hok hw ra hR (fun r_672 u_673 u_674 u_675 gn_676 => ⟨r_672, I0, L0, rfl, rfl, ?_⟩)
          replace hg := gt_let gn_676 hg
          clear gn_676
          have b_677 : 0 ≤ r_672.toInt ∧ r_672.toInt ≤ 1 := u_673.rg
          refine ⟨fun c_678 => ?_, fun c_678 => ?_⟩
          · have d_679 := iNe c_678
            have i_680 := u_674 (by omega)
            replace hg := gt_neg (by first | exact d_679 | omega) hg
            have gd := u_674 (by omega)
            refine y_Model_nextg hok hw ra hz16 hz17 hz18 hz19 (by first | omega | (intro h; omega) | exact Or.inl rfl | exact Or.inr rfl) hR (fun I_691 L_692 hR_693 fr_694 kp_695 u_682 u_683 u_684 u_685 u_686 u_687 u_688 u_689 gn_690 => ⟨I_691, L_692, rfl, rfl, ?_⟩)
            replace hg := gt_b3 gn_690 hg
            clear gn_690
            have hf_696 : Fm (fun c => c = o ∨ (o + 6 ≤ c ∧ c < o + 25)) I0 I_691 := hf.call fr_694 (fun c hc => by first | exact hc | (dsimp only at hc ⊢; omega) | omega)
            have t_697 : (I_691 o 3).toInt = (I0 o 3).toInt := by rw [kp_695 3 rfl]
            have t_698 : (I_691 o 4).toInt = (I0 o 4).toInt := by rw [kp_695 4 rfl]
            have g_699 : (0 : Int) ≤ (I_691 o 6).toInt ∧ (I_691 o 6).toInt ≤ 1600 := hR_693.at0 ra 6 (by decide)
            have g_700 : (0 : Int) ≤ (I_691 o 7).toInt ∧ (I_691 o 7).toInt ≤ 1601 := hR_693.at0 ra 7 (by decide)
            have g_701 : (0 : Int) ≤ (I_691 o 8).toInt ∧ (I_691 o 8).toInt ≤ 6 := hR_693.at0 ra 8 (by decide)
            have t_702 : (I_691 o 35).toInt = (I0 o 35).toInt := by rw [kp_695 35 rfl]
            have w_703 : I_691 (o + 6) = I0 (o + 6) := (fr_694 (o + 6) (by first | omega | (dsimp only; omega)))
            have w_704 : I_691 (o + 7) = I0 (o + 7) := (fr_694 (o + 7) (by first | omega | (dsimp only; omega)))
            have w_705 : I_691 (o + 8) = I0 (o + 8) := (fr_694 (o + 8) (by first | omega | (dsimp only; omega)))
            have w_706 : I_691 (o + 9) = I0 (o + 9) := (fr_694 (o + 9) (by first | omega | (dsimp only; omega)))
            have ms := u_685 (by omega)
            refine ⟨fun c_707 => ?_, fun c_707 => ?_⟩
            · have d_708 := iEq c_707
              replace hg := gt_pos (by first | exact d_708 | omega) hg
              refine ⟨fun c_709 => ?_, fun c_709 => ?_⟩
              · have d_710 := iEq c_709
                exfalso; omega
              · have d_711 := iNe c_709
                have i_712 := u_15 (by omega)
                replace hg := gt_neg (by first | exact d_711 | omega) hg
                refine y_Model_readFortg hok hw ra hz14 hz15 hz16 hz17 hz18 hz19 (by first | omega | (intro h; omega) | exact Or.inl rfl | exact Or.inr rfl) (by rw [w_704, hZ _ 35 rfl hR_693]; omega) u_688 u_689 hR_693 (fun I_721 L_722 hR_723 fr_724 kp_725 u_714 u_715 u_716 u_717 u_718 u_719 gn_720 => ⟨I_721, L_722, rfl, rfl, ?_⟩)
                replace hg := gt_b3 gn_720 hg
                clear gn_720
                have hf_726 : Fm (fun c => c = o ∨ (o + 6 ≤ c ∧ c < o + 25)) I0 I_721 := hf_696.call fr_724 (fun c hc => by first | exact hc | (dsimp only at hc ⊢; omega) | omega)
                have t_727 : (I_721 o 3).toInt = (I_691 o 3).toInt := by rw [kp_725 3 rfl]
                have g_728 : (0 : Int) ≤ (I_721 o 4).toInt ∧ (I_721 o 4).toInt ≤ 5 := hR_723.at0 ra 4 (by decide)
                have g_729 : (0 : Int) ≤ (I_721 o 6).toInt ∧ (I_721 o 6).toInt ≤ 1600 := hR_723.at0 ra 6 (by decide)
                have g_730 : (0 : Int) ≤ (I_721 o 7).toInt ∧ (I_721 o 7).toInt ≤ 1601 := hR_723.at0 ra 7 (by decide)
                have g_731 : (0 : Int) ≤ (I_721 o 8).toInt ∧ (I_721 o 8).toInt ≤ 6 := hR_723.at0 ra 8 (by decide)
                have t_732 : (I_721 o 35).toInt = (I_691 o 35).toInt := by rw [kp_725 35 rfl]
                have w_733 : I_721 (o + 6) = I0 (o + 6) := (fr_724 (o + 6) (by first | omega | (dsimp only; omega))).trans w_703
                have w_734 : I_721 (o + 8) = I0 (o + 8) := (fr_724 (o + 8) (by first | omega | (dsimp only; omega))).trans w_705
                have w_735 : I_721 (o + 9) = I0 (o + 9) := (fr_724 (o + 9) (by first | omega | (dsimp only; omega))).trans w_706
                have l_736 : (59 : Int32).toInt = 59 := rfl
                refine y_Model_isg hok hw ra hR_723 (fun r_737 u_738 u_739 u_740 gn_741 => ⟨r_737, I_721, L_722, rfl, rfl, ?_⟩)
                replace hg := gt_let gn_741 hg
                clear gn_741
                have b_742 : 0 ≤ r_737.toInt ∧ r_737.toInt ≤ 1 := u_738.rg
                refine y_Model_mustg hok hw ra hz14 hz15 hz16 hz17 hz18 hz19 (by first | omega | (intro h; omega) | exact Or.inl rfl | exact Or.inr rfl) u_718 u_719 hR_723 (fun I_754 L_755 hR_756 fr_757 kp_758 u_744 u_745 u_746 u_747 u_748 u_749 u_750 u_751 u_752 gn_753 => ⟨I_754, L_755, rfl, rfl, ?_⟩)
                replace hg := gt_b3 gn_753 hg
                clear gn_753
                have hf_759 : Fm (fun c => c = o ∨ (o + 6 ≤ c ∧ c < o + 25)) I0 I_754 := hf_726.call fr_757 (fun c hc => by first | exact hc | (dsimp only at hc ⊢; omega) | omega)
                have t_760 : (I_754 o 3).toInt = (I_721 o 3).toInt := by rw [kp_758 3 rfl]
                have g_761 : (0 : Int) ≤ (I_754 o 4).toInt ∧ (I_754 o 4).toInt ≤ 5 := hR_756.at0 ra 4 (by decide)
                have g_762 : (0 : Int) ≤ (I_754 o 6).toInt ∧ (I_754 o 6).toInt ≤ 1600 := hR_756.at0 ra 6 (by decide)
                have g_763 : (0 : Int) ≤ (I_754 o 7).toInt ∧ (I_754 o 7).toInt ≤ 1601 := hR_756.at0 ra 7 (by decide)
                have g_764 : (0 : Int) ≤ (I_754 o 8).toInt ∧ (I_754 o 8).toInt ≤ 6 := hR_756.at0 ra 8 (by decide)
                have t_765 : (I_754 o 35).toInt = (I_721 o 35).toInt := by rw [kp_758 35 rfl]
                have w_766 : I_754 (o + 6) = I0 (o + 6) := (fr_757 (o + 6) (by first | omega | (dsimp only; omega))).trans w_733
                have w_767 : I_754 (o + 8) = I0 (o + 8) := (fr_757 (o + 8) (by first | omega | (dsimp only; omega))).trans w_734
                have w_768 : I_754 (o + 9) = I0 (o + 9) := (fr_757 (o + 9) (by first | omega | (dsimp only; omega))).trans w_735
                exact (hp _ _ hR_756 hf_759 (by first | omega | (intro h; omega) | exact Or.inl rfl | exact Or.inr rfl) (by first | omega | (intro h; omega) | exact Or.inl rfl | exact Or.inr rfl) (by first | omega | (intro h; omega) | exact Or.inl rfl | exact Or.inr rfl) (by first | omega | (intro h; omega) | exact Or.inl rfl | exact Or.inr rfl) (by first | omega | (intro h; omega) | exact Or.inl rfl | exact Or.inr rfl) u_751 u_752 hg.symm)
            · have d_769 := iNe c_707
              have i_770 := u_9 (by omega)
              exfalso; omega
          · have d_771 := iEq c_678
            have i_772 := u_675 (by omega)
            replace hg := gt_pos (by first | exact d_771 | omega) hg
            have gb := u_675 (by omega)
            exact (hp _ _ hR hf (by first | omega | (intro h; omega) | exact Or.inl rfl | exact Or.inr rfl) (by first | omega | (intro h; omega) | exact Or.inl rfl | exact Or.inr rfl) (by first | omega | (intro h; omega) | exact Or.inl rfl | exact Or.inr rfl) (by first | omega | (intro h; omega) | exact Or.inl rfl | exact Or.inr rfl) (by first | omega | (intro h; omega) | exact Or.inl rfl | exact Or.inr rfl) hq3 hq4 hg.symm)
        · have d_773 := iNe c_670
          exfalso; omega
      · have d_774 := iEq c_668
        replace hg := gt_pos (by first | exact d_774 | omega) hg
        unfold fModel_readLine_128
        replace hg := (eModel_readLine_128).symm.trans hg
        have l_775 : (1 : Int32).toInt = 1 := rfl
        refine ⟨fun c_776 => ?_, fun c_776 => ?_⟩
        · have d_777 := iEq c_776
          exfalso; omega
        · have d_778 := iNe c_776
          replace hg := gt_neg (by first | exact d_778 | omega) hg
          refine y_Model_wrongg hok hw ra hz14 hz15 hR (fun I_783 L_784 hR_785 fr_786 kp_787 u_780 u_781 gn_782 => ⟨I_783, L_784, rfl, rfl, ?_⟩)
          replace hg := gt_b3 gn_782 hg
          clear gn_782
          have hf_788 : Fm (fun c => c = o ∨ (o + 6 ≤ c ∧ c < o + 25)) I0 I_783 := hf.call fr_786 (fun c hc => by first | exact hc | (dsimp only at hc ⊢; omega) | omega)
          have t_789 : (I_783 o 3).toInt = (I0 o 3).toInt := by rw [kp_787 3 rfl]
          have g_790 : (0 : Int) ≤ (I_783 o 4).toInt ∧ (I_783 o 4).toInt ≤ 5 := hR_785.at0 ra 4 (by decide)
          have t_791 : (I_783 o 6).toInt = (I0 o 6).toInt := by rw [kp_787 6 rfl]
          have t_792 : (I_783 o 7).toInt = (I0 o 7).toInt := by rw [kp_787 7 rfl]
          have t_793 : (I_783 o 8).toInt = (I0 o 8).toInt := by rw [kp_787 8 rfl]
          have t_794 : (I_783 o 9).toInt = (I0 o 9).toInt := by rw [kp_787 9 rfl]
          have t_795 : (I_783 o 35).toInt = (I0 o 35).toInt := by rw [kp_787 35 rfl]
          have k_796 : MPo I_783 o := hq3.fr (kp_787 8 rfl) (kp_787 9 rfl)
          have k_797 : MTk I_783 o := hq4.fr (kp_787 6 rfl) (kp_787 7 rfl) (kp_787 8 rfl)
          have w_798 : I_783 (o + 6) = I0 (o + 6) := (fr_786 (o + 6) (by first | omega | (dsimp only; omega)))
          have w_799 : I_783 (o + 7) = I0 (o + 7) := (fr_786 (o + 7) (by first | omega | (dsimp only; omega)))
          have w_800 : I_783 (o + 8) = I0 (o + 8) := (fr_786 (o + 8) (by first | omega | (dsimp only; omega)))
          have w_801 : I_783 (o + 9) = I0 (o + 9) := (fr_786 (o + 9) (by first | omega | (dsimp only; omega)))
          refine y_Model_isGoodg hok hw ra hR_785 (fun r_802 u_803 u_804 u_805 gn_806 => ⟨r_802, I_783, L_784, rfl, rfl, ?_⟩)
          replace hg := gt_let gn_806 hg
          clear gn_806
          have b_807 : 0 ≤ r_802.toInt ∧ r_802.toInt ≤ 1 := u_803.rg
          refine ⟨fun c_808 => ?_, fun c_808 => ?_⟩
          · have d_809 := iNe c_808
            have i_810 := u_804 (by omega)
            replace hg := gt_neg (by first | exact d_809 | omega) hg
            have gd := u_804 (by omega)
            refine y_Model_nextg hok hw ra hz16 hz17 hz18 hz19 (by first | omega | (intro h; omega) | exact Or.inl rfl | exact Or.inr rfl) hR_785 (fun I_821 L_822 hR_823 fr_824 kp_825 u_812 u_813 u_814 u_815 u_816 u_817 u_818 u_819 gn_820 => ⟨I_821, L_822, rfl, rfl, ?_⟩)
            replace hg := gt_b3 gn_820 hg
            clear gn_820
            have hf_826 : Fm (fun c => c = o ∨ (o + 6 ≤ c ∧ c < o + 25)) I0 I_821 := hf_788.call fr_824 (fun c hc => by first | exact hc | (dsimp only at hc ⊢; omega) | omega)
            have t_827 : (I_821 o 3).toInt = (I_783 o 3).toInt := by rw [kp_825 3 rfl]
            have t_828 : (I_821 o 4).toInt = (I_783 o 4).toInt := by rw [kp_825 4 rfl]
            have g_829 : (0 : Int) ≤ (I_821 o 6).toInt ∧ (I_821 o 6).toInt ≤ 1600 := hR_823.at0 ra 6 (by decide)
            have g_830 : (0 : Int) ≤ (I_821 o 7).toInt ∧ (I_821 o 7).toInt ≤ 1601 := hR_823.at0 ra 7 (by decide)
            have g_831 : (0 : Int) ≤ (I_821 o 8).toInt ∧ (I_821 o 8).toInt ≤ 6 := hR_823.at0 ra 8 (by decide)
            have t_832 : (I_821 o 35).toInt = (I_783 o 35).toInt := by rw [kp_825 35 rfl]
            have w_833 : I_821 (o + 6) = I0 (o + 6) := (fr_824 (o + 6) (by first | omega | (dsimp only; omega))).trans w_798
            have w_834 : I_821 (o + 7) = I0 (o + 7) := (fr_824 (o + 7) (by first | omega | (dsimp only; omega))).trans w_799
            have w_835 : I_821 (o + 8) = I0 (o + 8) := (fr_824 (o + 8) (by first | omega | (dsimp only; omega))).trans w_800
            have w_836 : I_821 (o + 9) = I0 (o + 9) := (fr_824 (o + 9) (by first | omega | (dsimp only; omega))).trans w_801
            have ms := u_815 (by omega)
            refine ⟨fun c_837 => ?_, fun c_837 => ?_⟩
            · have d_838 := iEq c_837
              replace hg := gt_pos (by first | exact d_838 | omega) hg
              refine ⟨fun c_839 => ?_, fun c_839 => ?_⟩
              · have d_840 := iEq c_839
                exfalso; omega
              · have d_841 := iNe c_839
                have i_842 := u_15 (by omega)
                replace hg := gt_neg (by first | exact d_841 | omega) hg
                refine y_Model_readFortg hok hw ra hz14 hz15 hz16 hz17 hz18 hz19 (by first | omega | (intro h; omega) | exact Or.inl rfl | exact Or.inr rfl) (by rw [w_834, hZ _ 35 rfl hR_823]; omega) u_818 u_819 hR_823 (fun I_851 L_852 hR_853 fr_854 kp_855 u_844 u_845 u_846 u_847 u_848 u_849 gn_850 => ⟨I_851, L_852, rfl, rfl, ?_⟩)
                replace hg := gt_b3 gn_850 hg
                clear gn_850
                have hf_856 : Fm (fun c => c = o ∨ (o + 6 ≤ c ∧ c < o + 25)) I0 I_851 := hf_826.call fr_854 (fun c hc => by first | exact hc | (dsimp only at hc ⊢; omega) | omega)
                have t_857 : (I_851 o 3).toInt = (I_821 o 3).toInt := by rw [kp_855 3 rfl]
                have g_858 : (0 : Int) ≤ (I_851 o 4).toInt ∧ (I_851 o 4).toInt ≤ 5 := hR_853.at0 ra 4 (by decide)
                have g_859 : (0 : Int) ≤ (I_851 o 6).toInt ∧ (I_851 o 6).toInt ≤ 1600 := hR_853.at0 ra 6 (by decide)
                have g_860 : (0 : Int) ≤ (I_851 o 7).toInt ∧ (I_851 o 7).toInt ≤ 1601 := hR_853.at0 ra 7 (by decide)
                have g_861 : (0 : Int) ≤ (I_851 o 8).toInt ∧ (I_851 o 8).toInt ≤ 6 := hR_853.at0 ra 8 (by decide)
                have t_862 : (I_851 o 35).toInt = (I_821 o 35).toInt := by rw [kp_855 35 rfl]
                have w_863 : I_851 (o + 6) = I0 (o + 6) := (fr_854 (o + 6) (by first | omega | (dsimp only; omega))).trans w_833
                have w_864 : I_851 (o + 8) = I0 (o + 8) := (fr_854 (o + 8) (by first | omega | (dsimp only; omega))).trans w_835
                have w_865 : I_851 (o + 9) = I0 (o + 9) := (fr_854 (o + 9) (by first | omega | (dsimp only; omega))).trans w_836
                have l_866 : (59 : Int32).toInt = 59 := rfl
                refine y_Model_isg hok hw ra hR_853 (fun r_867 u_868 u_869 u_870 gn_871 => ⟨r_867, I_851, L_852, rfl, rfl, ?_⟩)
                replace hg := gt_let gn_871 hg
                clear gn_871
                have b_872 : 0 ≤ r_867.toInt ∧ r_867.toInt ≤ 1 := u_868.rg
                refine y_Model_mustg hok hw ra hz14 hz15 hz16 hz17 hz18 hz19 (by first | omega | (intro h; omega) | exact Or.inl rfl | exact Or.inr rfl) u_848 u_849 hR_853 (fun I_884 L_885 hR_886 fr_887 kp_888 u_874 u_875 u_876 u_877 u_878 u_879 u_880 u_881 u_882 gn_883 => ⟨I_884, L_885, rfl, rfl, ?_⟩)
                replace hg := gt_b3 gn_883 hg
                clear gn_883
                have hf_889 : Fm (fun c => c = o ∨ (o + 6 ≤ c ∧ c < o + 25)) I0 I_884 := hf_856.call fr_887 (fun c hc => by first | exact hc | (dsimp only at hc ⊢; omega) | omega)
                have t_890 : (I_884 o 3).toInt = (I_851 o 3).toInt := by rw [kp_888 3 rfl]
                have g_891 : (0 : Int) ≤ (I_884 o 4).toInt ∧ (I_884 o 4).toInt ≤ 5 := hR_886.at0 ra 4 (by decide)
                have g_892 : (0 : Int) ≤ (I_884 o 6).toInt ∧ (I_884 o 6).toInt ≤ 1600 := hR_886.at0 ra 6 (by decide)
                have g_893 : (0 : Int) ≤ (I_884 o 7).toInt ∧ (I_884 o 7).toInt ≤ 1601 := hR_886.at0 ra 7 (by decide)
                have g_894 : (0 : Int) ≤ (I_884 o 8).toInt ∧ (I_884 o 8).toInt ≤ 6 := hR_886.at0 ra 8 (by decide)
                have t_895 : (I_884 o 35).toInt = (I_851 o 35).toInt := by rw [kp_888 35 rfl]
                have w_896 : I_884 (o + 6) = I0 (o + 6) := (fr_887 (o + 6) (by first | omega | (dsimp only; omega))).trans w_863
                have w_897 : I_884 (o + 8) = I0 (o + 8) := (fr_887 (o + 8) (by first | omega | (dsimp only; omega))).trans w_864
                have w_898 : I_884 (o + 9) = I0 (o + 9) := (fr_887 (o + 9) (by first | omega | (dsimp only; omega))).trans w_865
                exact (hp _ _ hR_886 hf_889 (by first | omega | (intro h; omega) | exact Or.inl rfl | exact Or.inr rfl) (by first | omega | (intro h; omega) | exact Or.inl rfl | exact Or.inr rfl) (by first | omega | (intro h; omega) | exact Or.inl rfl | exact Or.inr rfl) (by first | omega | (intro h; omega) | exact Or.inl rfl | exact Or.inr rfl) (by first | omega | (intro h; omega) | exact Or.inl rfl | exact Or.inr rfl) u_881 u_882 hg.symm)
            · have d_899 := iNe c_837
              have i_900 := u_9 (by omega)
              exfalso; omega
          · have d_901 := iEq c_808
            have i_902 := u_805 (by omega)
            replace hg := gt_pos (by first | exact d_901 | omega) hg
            have gb := u_805 (by omega)
            exact (hp _ _ hR_785 hf_788 (by first | omega | (intro h; omega) | exact Or.inl rfl | exact Or.inr rfl) (by first | omega | (intro h; omega) | exact Or.inl rfl | exact Or.inr rfl) (by first | omega | (intro h; omega) | exact Or.inl rfl | exact Or.inr rfl) (by first | omega | (intro h; omega) | exact Or.inl rfl | exact Or.inr rfl) (by first | omega | (intro h; omega) | exact Or.inl rfl | exact Or.inr rfl) k_796 k_797 hg.symm)
  · have d_903 := iNe c_25
    have i_904 := u_9 (by omega)
    replace hg := gt_neg (by first | exact d_903 | omega) hg
    have g_905 : (0 : Int) ≤ (I0 o 35).toInt ∧ (I0 o 35).toInt ≤ 1 := hR.at0 ra 35 (by decide)
    replace hg := gt_let (y := (I0 o 35).toInt) rfl hg
    refine ⟨tIn (by omega) (by omega), ?_⟩
    have g_906 : (0 : Int) ≤ (I0 (o + 6) ((I0 o 35) : Int32).toNatClampNeg).toInt ∧ (I0 (o + 6) ((I0 o 35) : Int32).toNatClampNeg).toInt ≤ 24 := hR.at ra 6 _ (by decide)
    replace hg := gt_let (y := (I0 (o + 6) ((I0 o 35) : Int32).toNatClampNeg).toInt) rfl hg
    have l_907 : (24 : Int32).toInt = 24 := rfl
    refine ⟨fun c_908 => ?_, fun c_908 => ?_⟩
    · have d_909 := iNe c_908
      replace hg := gt_neg (by first | exact d_909 | omega) hg
      unfold fModel_readLine_128
      replace hg := (eModel_readLine_128).symm.trans hg
      refine ⟨fun c_910 => ?_, fun c_910 => ?_⟩
      · have d_911 := iEq c_910
        replace hg := gt_pos (by first | exact d_911 | omega) hg
        refine y_Model_isGoodg hok hw ra hR (fun r_912 u_913 u_914 u_915 gn_916 => ⟨r_912, I0, L0, rfl, rfl, ?_⟩)
        replace hg := gt_let gn_916 hg
        clear gn_916
        have b_917 : 0 ≤ r_912.toInt ∧ r_912.toInt ≤ 1 := u_913.rg
        refine ⟨fun c_918 => ?_, fun c_918 => ?_⟩
        · have d_919 := iNe c_918
          have i_920 := u_914 (by omega)
          replace hg := gt_neg (by first | exact d_919 | omega) hg
          have gd := u_914 (by omega)
          refine y_Model_nextg hok hw ra hz16 hz17 hz18 hz19 (by first | omega | (intro h; omega) | exact Or.inl rfl | exact Or.inr rfl) hR (fun I_931 L_932 hR_933 fr_934 kp_935 u_922 u_923 u_924 u_925 u_926 u_927 u_928 u_929 gn_930 => ⟨I_931, L_932, rfl, rfl, ?_⟩)
          replace hg := gt_b3 gn_930 hg
          clear gn_930
          have hf_936 : Fm (fun c => c = o ∨ (o + 6 ≤ c ∧ c < o + 25)) I0 I_931 := hf.call fr_934 (fun c hc => by first | exact hc | (dsimp only at hc ⊢; omega) | omega)
          have t_937 : (I_931 o 3).toInt = (I0 o 3).toInt := by rw [kp_935 3 rfl]
          have t_938 : (I_931 o 4).toInt = (I0 o 4).toInt := by rw [kp_935 4 rfl]
          have g_939 : (0 : Int) ≤ (I_931 o 6).toInt ∧ (I_931 o 6).toInt ≤ 1600 := hR_933.at0 ra 6 (by decide)
          have g_940 : (0 : Int) ≤ (I_931 o 7).toInt ∧ (I_931 o 7).toInt ≤ 1601 := hR_933.at0 ra 7 (by decide)
          have g_941 : (0 : Int) ≤ (I_931 o 8).toInt ∧ (I_931 o 8).toInt ≤ 6 := hR_933.at0 ra 8 (by decide)
          have t_942 : (I_931 o 35).toInt = (I0 o 35).toInt := by rw [kp_935 35 rfl]
          have w_943 : I_931 (o + 6) = I0 (o + 6) := (fr_934 (o + 6) (by first | omega | (dsimp only; omega)))
          have w_944 : I_931 (o + 7) = I0 (o + 7) := (fr_934 (o + 7) (by first | omega | (dsimp only; omega)))
          have w_945 : I_931 (o + 8) = I0 (o + 8) := (fr_934 (o + 8) (by first | omega | (dsimp only; omega)))
          have w_946 : I_931 (o + 9) = I0 (o + 9) := (fr_934 (o + 9) (by first | omega | (dsimp only; omega)))
          have ms := u_925 (by omega)
          refine ⟨fun c_947 => ?_, fun c_947 => ?_⟩
          · have d_948 := iEq c_947
            exfalso; omega
          · have d_949 := iNe c_947
            have i_950 := u_9 (by omega)
            replace hg := gt_neg (by first | exact d_949 | omega) hg
            refine y_Model_readRoadg hok hw ra hz14 hz15 hz16 hz17 hz18 hz19 (by first | omega | (intro h; omega) | exact Or.inl rfl | exact Or.inr rfl) (by rw [w_943, hZ _ 35 rfl hR_933]; omega) u_928 u_929 hR_933 (fun I_959 L_960 hR_961 fr_962 kp_963 u_952 u_953 u_954 u_955 u_956 u_957 gn_958 => ⟨I_959, L_960, rfl, rfl, ?_⟩)
            replace hg := gt_b3 gn_958 hg
            clear gn_958
            have hf_964 : Fm (fun c => c = o ∨ (o + 6 ≤ c ∧ c < o + 25)) I0 I_959 := hf_936.call fr_962 (fun c hc => by first | exact hc | (dsimp only at hc ⊢; omega) | omega)
            have t_965 : (I_959 o 3).toInt = (I_931 o 3).toInt := by rw [kp_963 3 rfl]
            have g_966 : (0 : Int) ≤ (I_959 o 4).toInt ∧ (I_959 o 4).toInt ≤ 5 := hR_961.at0 ra 4 (by decide)
            have g_967 : (0 : Int) ≤ (I_959 o 6).toInt ∧ (I_959 o 6).toInt ≤ 1600 := hR_961.at0 ra 6 (by decide)
            have g_968 : (0 : Int) ≤ (I_959 o 7).toInt ∧ (I_959 o 7).toInt ≤ 1601 := hR_961.at0 ra 7 (by decide)
            have g_969 : (0 : Int) ≤ (I_959 o 8).toInt ∧ (I_959 o 8).toInt ≤ 6 := hR_961.at0 ra 8 (by decide)
            have t_970 : (I_959 o 35).toInt = (I_931 o 35).toInt := by rw [kp_963 35 rfl]
            have w_971 : I_959 (o + 7) = I0 (o + 7) := (fr_962 (o + 7) (by first | omega | (dsimp only; omega))).trans w_944
            have w_972 : I_959 (o + 8) = I0 (o + 8) := (fr_962 (o + 8) (by first | omega | (dsimp only; omega))).trans w_945
            have w_973 : I_959 (o + 9) = I0 (o + 9) := (fr_962 (o + 9) (by first | omega | (dsimp only; omega))).trans w_946
            have l_974 : (59 : Int32).toInt = 59 := rfl
            refine y_Model_isg hok hw ra hR_961 (fun r_975 u_976 u_977 u_978 gn_979 => ⟨r_975, I_959, L_960, rfl, rfl, ?_⟩)
            replace hg := gt_let gn_979 hg
            clear gn_979
            have b_980 : 0 ≤ r_975.toInt ∧ r_975.toInt ≤ 1 := u_976.rg
            refine y_Model_mustg hok hw ra hz14 hz15 hz16 hz17 hz18 hz19 (by first | omega | (intro h; omega) | exact Or.inl rfl | exact Or.inr rfl) u_956 u_957 hR_961 (fun I_992 L_993 hR_994 fr_995 kp_996 u_982 u_983 u_984 u_985 u_986 u_987 u_988 u_989 u_990 gn_991 => ⟨I_992, L_993, rfl, rfl, ?_⟩)
            replace hg := gt_b3 gn_991 hg
            clear gn_991
            have hf_997 : Fm (fun c => c = o ∨ (o + 6 ≤ c ∧ c < o + 25)) I0 I_992 := hf_964.call fr_995 (fun c hc => by first | exact hc | (dsimp only at hc ⊢; omega) | omega)
            have t_998 : (I_992 o 3).toInt = (I_959 o 3).toInt := by rw [kp_996 3 rfl]
            have g_999 : (0 : Int) ≤ (I_992 o 4).toInt ∧ (I_992 o 4).toInt ≤ 5 := hR_994.at0 ra 4 (by decide)
            have g_1000 : (0 : Int) ≤ (I_992 o 6).toInt ∧ (I_992 o 6).toInt ≤ 1600 := hR_994.at0 ra 6 (by decide)
            have g_1001 : (0 : Int) ≤ (I_992 o 7).toInt ∧ (I_992 o 7).toInt ≤ 1601 := hR_994.at0 ra 7 (by decide)
            have g_1002 : (0 : Int) ≤ (I_992 o 8).toInt ∧ (I_992 o 8).toInt ≤ 6 := hR_994.at0 ra 8 (by decide)
            have t_1003 : (I_992 o 35).toInt = (I_959 o 35).toInt := by rw [kp_996 35 rfl]
            have w_1004 : I_992 (o + 7) = I0 (o + 7) := (fr_995 (o + 7) (by first | omega | (dsimp only; omega))).trans w_971
            have w_1005 : I_992 (o + 8) = I0 (o + 8) := (fr_995 (o + 8) (by first | omega | (dsimp only; omega))).trans w_972
            have w_1006 : I_992 (o + 9) = I0 (o + 9) := (fr_995 (o + 9) (by first | omega | (dsimp only; omega))).trans w_973
            exact (hp _ _ hR_994 hf_997 (by first | omega | (intro h; omega) | exact Or.inl rfl | exact Or.inr rfl) (by first | omega | (intro h; omega) | exact Or.inl rfl | exact Or.inr rfl) (by first | omega | (intro h; omega) | exact Or.inl rfl | exact Or.inr rfl) (by first | omega | (intro h; omega) | exact Or.inl rfl | exact Or.inr rfl) (by first | omega | (intro h; omega) | exact Or.inl rfl | exact Or.inr rfl) u_989 u_990 hg.symm)
        · have d_1007 := iEq c_918
          have i_1008 := u_915 (by omega)
          replace hg := gt_pos (by first | exact d_1007 | omega) hg
          have gb := u_915 (by omega)
          exact (hp _ _ hR hf (by first | omega | (intro h; omega) | exact Or.inl rfl | exact Or.inr rfl) (by first | omega | (intro h; omega) | exact Or.inl rfl | exact Or.inr rfl) (by first | omega | (intro h; omega) | exact Or.inl rfl | exact Or.inr rfl) (by first | omega | (intro h; omega) | exact Or.inl rfl | exact Or.inr rfl) (by first | omega | (intro h; omega) | exact Or.inl rfl | exact Or.inr rfl) hq3 hq4 hg.symm)
      · have d_1009 := iNe c_910
        exfalso; omega
    · have d_1010 := iEq c_908
      replace hg := gt_pos (by first | exact d_1010 | omega) hg
      unfold fModel_readLine_128
      replace hg := (eModel_readLine_128).symm.trans hg
      have l_1011 : (1 : Int32).toInt = 1 := rfl
      refine ⟨fun c_1012 => ?_, fun c_1012 => ?_⟩
      · have d_1013 := iEq c_1012
        exfalso; omega
      · have d_1014 := iNe c_1012
        replace hg := gt_neg (by first | exact d_1014 | omega) hg
        refine y_Model_wrongg hok hw ra hz14 hz15 hR (fun I_1019 L_1020 hR_1021 fr_1022 kp_1023 u_1016 u_1017 gn_1018 => ⟨I_1019, L_1020, rfl, rfl, ?_⟩)
        replace hg := gt_b3 gn_1018 hg
        clear gn_1018
        have hf_1024 : Fm (fun c => c = o ∨ (o + 6 ≤ c ∧ c < o + 25)) I0 I_1019 := hf.call fr_1022 (fun c hc => by first | exact hc | (dsimp only at hc ⊢; omega) | omega)
        have t_1025 : (I_1019 o 3).toInt = (I0 o 3).toInt := by rw [kp_1023 3 rfl]
        have g_1026 : (0 : Int) ≤ (I_1019 o 4).toInt ∧ (I_1019 o 4).toInt ≤ 5 := hR_1021.at0 ra 4 (by decide)
        have t_1027 : (I_1019 o 6).toInt = (I0 o 6).toInt := by rw [kp_1023 6 rfl]
        have t_1028 : (I_1019 o 7).toInt = (I0 o 7).toInt := by rw [kp_1023 7 rfl]
        have t_1029 : (I_1019 o 8).toInt = (I0 o 8).toInt := by rw [kp_1023 8 rfl]
        have t_1030 : (I_1019 o 9).toInt = (I0 o 9).toInt := by rw [kp_1023 9 rfl]
        have t_1031 : (I_1019 o 35).toInt = (I0 o 35).toInt := by rw [kp_1023 35 rfl]
        have k_1032 : MPo I_1019 o := hq3.fr (kp_1023 8 rfl) (kp_1023 9 rfl)
        have k_1033 : MTk I_1019 o := hq4.fr (kp_1023 6 rfl) (kp_1023 7 rfl) (kp_1023 8 rfl)
        have w_1034 : I_1019 (o + 6) = I0 (o + 6) := (fr_1022 (o + 6) (by first | omega | (dsimp only; omega)))
        have w_1035 : I_1019 (o + 7) = I0 (o + 7) := (fr_1022 (o + 7) (by first | omega | (dsimp only; omega)))
        have w_1036 : I_1019 (o + 8) = I0 (o + 8) := (fr_1022 (o + 8) (by first | omega | (dsimp only; omega)))
        have w_1037 : I_1019 (o + 9) = I0 (o + 9) := (fr_1022 (o + 9) (by first | omega | (dsimp only; omega)))
        refine y_Model_isGoodg hok hw ra hR_1021 (fun r_1038 u_1039 u_1040 u_1041 gn_1042 => ⟨r_1038, I_1019, L_1020, rfl, rfl, ?_⟩)
        replace hg := gt_let gn_1042 hg
        clear gn_1042
        have b_1043 : 0 ≤ r_1038.toInt ∧ r_1038.toInt ≤ 1 := u_1039.rg
        refine ⟨fun c_1044 => ?_, fun c_1044 => ?_⟩
        · have d_1045 := iNe c_1044
          have i_1046 := u_1040 (by omega)
          replace hg := gt_neg (by first | exact d_1045 | omega) hg
          have gd := u_1040 (by omega)
          refine y_Model_nextg hok hw ra hz16 hz17 hz18 hz19 (by first | omega | (intro h; omega) | exact Or.inl rfl | exact Or.inr rfl) hR_1021 (fun I_1057 L_1058 hR_1059 fr_1060 kp_1061 u_1048 u_1049 u_1050 u_1051 u_1052 u_1053 u_1054 u_1055 gn_1056 => ⟨I_1057, L_1058, rfl, rfl, ?_⟩)
          replace hg := gt_b3 gn_1056 hg
          clear gn_1056
          have hf_1062 : Fm (fun c => c = o ∨ (o + 6 ≤ c ∧ c < o + 25)) I0 I_1057 := hf_1024.call fr_1060 (fun c hc => by first | exact hc | (dsimp only at hc ⊢; omega) | omega)
          have t_1063 : (I_1057 o 3).toInt = (I_1019 o 3).toInt := by rw [kp_1061 3 rfl]
          have t_1064 : (I_1057 o 4).toInt = (I_1019 o 4).toInt := by rw [kp_1061 4 rfl]
          have g_1065 : (0 : Int) ≤ (I_1057 o 6).toInt ∧ (I_1057 o 6).toInt ≤ 1600 := hR_1059.at0 ra 6 (by decide)
          have g_1066 : (0 : Int) ≤ (I_1057 o 7).toInt ∧ (I_1057 o 7).toInt ≤ 1601 := hR_1059.at0 ra 7 (by decide)
          have g_1067 : (0 : Int) ≤ (I_1057 o 8).toInt ∧ (I_1057 o 8).toInt ≤ 6 := hR_1059.at0 ra 8 (by decide)
          have t_1068 : (I_1057 o 35).toInt = (I_1019 o 35).toInt := by rw [kp_1061 35 rfl]
          have w_1069 : I_1057 (o + 6) = I0 (o + 6) := (fr_1060 (o + 6) (by first | omega | (dsimp only; omega))).trans w_1034
          have w_1070 : I_1057 (o + 7) = I0 (o + 7) := (fr_1060 (o + 7) (by first | omega | (dsimp only; omega))).trans w_1035
          have w_1071 : I_1057 (o + 8) = I0 (o + 8) := (fr_1060 (o + 8) (by first | omega | (dsimp only; omega))).trans w_1036
          have w_1072 : I_1057 (o + 9) = I0 (o + 9) := (fr_1060 (o + 9) (by first | omega | (dsimp only; omega))).trans w_1037
          have ms := u_1051 (by omega)
          refine ⟨fun c_1073 => ?_, fun c_1073 => ?_⟩
          · have d_1074 := iEq c_1073
            exfalso; omega
          · have d_1075 := iNe c_1073
            have i_1076 := u_9 (by omega)
            replace hg := gt_neg (by first | exact d_1075 | omega) hg
            refine y_Model_readRoadg hok hw ra hz14 hz15 hz16 hz17 hz18 hz19 (by first | omega | (intro h; omega) | exact Or.inl rfl | exact Or.inr rfl) (by rw [w_1069, hZ _ 35 rfl hR_1059]; omega) u_1054 u_1055 hR_1059 (fun I_1085 L_1086 hR_1087 fr_1088 kp_1089 u_1078 u_1079 u_1080 u_1081 u_1082 u_1083 gn_1084 => ⟨I_1085, L_1086, rfl, rfl, ?_⟩)
            replace hg := gt_b3 gn_1084 hg
            clear gn_1084
            have hf_1090 : Fm (fun c => c = o ∨ (o + 6 ≤ c ∧ c < o + 25)) I0 I_1085 := hf_1062.call fr_1088 (fun c hc => by first | exact hc | (dsimp only at hc ⊢; omega) | omega)
            have t_1091 : (I_1085 o 3).toInt = (I_1057 o 3).toInt := by rw [kp_1089 3 rfl]
            have g_1092 : (0 : Int) ≤ (I_1085 o 4).toInt ∧ (I_1085 o 4).toInt ≤ 5 := hR_1087.at0 ra 4 (by decide)
            have g_1093 : (0 : Int) ≤ (I_1085 o 6).toInt ∧ (I_1085 o 6).toInt ≤ 1600 := hR_1087.at0 ra 6 (by decide)
            have g_1094 : (0 : Int) ≤ (I_1085 o 7).toInt ∧ (I_1085 o 7).toInt ≤ 1601 := hR_1087.at0 ra 7 (by decide)
            have g_1095 : (0 : Int) ≤ (I_1085 o 8).toInt ∧ (I_1085 o 8).toInt ≤ 6 := hR_1087.at0 ra 8 (by decide)
            have t_1096 : (I_1085 o 35).toInt = (I_1057 o 35).toInt := by rw [kp_1089 35 rfl]
            have w_1097 : I_1085 (o + 7) = I0 (o + 7) := (fr_1088 (o + 7) (by first | omega | (dsimp only; omega))).trans w_1070
            have w_1098 : I_1085 (o + 8) = I0 (o + 8) := (fr_1088 (o + 8) (by first | omega | (dsimp only; omega))).trans w_1071
            have w_1099 : I_1085 (o + 9) = I0 (o + 9) := (fr_1088 (o + 9) (by first | omega | (dsimp only; omega))).trans w_1072
            have l_1100 : (59 : Int32).toInt = 59 := rfl
            refine y_Model_isg hok hw ra hR_1087 (fun r_1101 u_1102 u_1103 u_1104 gn_1105 => ⟨r_1101, I_1085, L_1086, rfl, rfl, ?_⟩)
            replace hg := gt_let gn_1105 hg
            clear gn_1105
            have b_1106 : 0 ≤ r_1101.toInt ∧ r_1101.toInt ≤ 1 := u_1102.rg
            refine y_Model_mustg hok hw ra hz14 hz15 hz16 hz17 hz18 hz19 (by first | omega | (intro h; omega) | exact Or.inl rfl | exact Or.inr rfl) u_1082 u_1083 hR_1087 (fun I_1118 L_1119 hR_1120 fr_1121 kp_1122 u_1108 u_1109 u_1110 u_1111 u_1112 u_1113 u_1114 u_1115 u_1116 gn_1117 => ⟨I_1118, L_1119, rfl, rfl, ?_⟩)
            replace hg := gt_b3 gn_1117 hg
            clear gn_1117
            have hf_1123 : Fm (fun c => c = o ∨ (o + 6 ≤ c ∧ c < o + 25)) I0 I_1118 := hf_1090.call fr_1121 (fun c hc => by first | exact hc | (dsimp only at hc ⊢; omega) | omega)
            have t_1124 : (I_1118 o 3).toInt = (I_1085 o 3).toInt := by rw [kp_1122 3 rfl]
            have g_1125 : (0 : Int) ≤ (I_1118 o 4).toInt ∧ (I_1118 o 4).toInt ≤ 5 := hR_1120.at0 ra 4 (by decide)
            have g_1126 : (0 : Int) ≤ (I_1118 o 6).toInt ∧ (I_1118 o 6).toInt ≤ 1600 := hR_1120.at0 ra 6 (by decide)
            have g_1127 : (0 : Int) ≤ (I_1118 o 7).toInt ∧ (I_1118 o 7).toInt ≤ 1601 := hR_1120.at0 ra 7 (by decide)
            have g_1128 : (0 : Int) ≤ (I_1118 o 8).toInt ∧ (I_1118 o 8).toInt ≤ 6 := hR_1120.at0 ra 8 (by decide)
            have t_1129 : (I_1118 o 35).toInt = (I_1085 o 35).toInt := by rw [kp_1122 35 rfl]
            have w_1130 : I_1118 (o + 7) = I0 (o + 7) := (fr_1121 (o + 7) (by first | omega | (dsimp only; omega))).trans w_1097
            have w_1131 : I_1118 (o + 8) = I0 (o + 8) := (fr_1121 (o + 8) (by first | omega | (dsimp only; omega))).trans w_1098
            have w_1132 : I_1118 (o + 9) = I0 (o + 9) := (fr_1121 (o + 9) (by first | omega | (dsimp only; omega))).trans w_1099
            exact (hp _ _ hR_1120 hf_1123 (by first | omega | (intro h; omega) | exact Or.inl rfl | exact Or.inr rfl) (by first | omega | (intro h; omega) | exact Or.inl rfl | exact Or.inr rfl) (by first | omega | (intro h; omega) | exact Or.inl rfl | exact Or.inr rfl) (by first | omega | (intro h; omega) | exact Or.inl rfl | exact Or.inr rfl) (by first | omega | (intro h; omega) | exact Or.inl rfl | exact Or.inr rfl) u_1115 u_1116 hg.symm)
        · have d_1133 := iEq c_1044
          have i_1134 := u_1041 (by omega)
          replace hg := gt_pos (by first | exact d_1133 | omega) hg
          have gb := u_1041 (by omega)
          exact (hp _ _ hR_1021 hf_1024 (by first | omega | (intro h; omega) | exact Or.inl rfl | exact Or.inr rfl) (by first | omega | (intro h; omega) | exact Or.inl rfl | exact Or.inr rfl) (by first | omega | (intro h; omega) | exact Or.inl rfl | exact Or.inr rfl) (by first | omega | (intro h; omega) | exact Or.inl rfl | exact Or.inr rfl) (by first | omega | (intro h; omega) | exact Or.inl rfl | exact Or.inr rfl) k_1032 k_1033 hg.symm)
theorem y_Model_readLineg {D : va_G} {cA : FieldType → ClassId} {b : Nat} {E : State → Prop} {R : qRg} {o n : Nat} {sh : Nat → qC} {Rf : Nat → Nat → Option Nat} {I0 : Nat → Nat → Int32} {L0 : Nat → Nat → Int64} {post : Option Value → qS → Prop} (hok : q_ok (qGG D cA b E)) (hw : WfModel (qGG D cA b E) n sh Rf o) (ra : RAModel R o) (hz14 : R.2 14 = true) (hz15 : R.2 15 = true) (hz16 : R.2 16 = true) (hz17 : R.2 17 = true) (hz18 : R.2 18 = true) (hz19 : R.2 19 = true) (hq0 : (I0 o 7).toInt ≤ (I0 o 3).toInt) (hq1 : (I0 o 4).toInt = 0) (hq2 : (I0 o 8).toInt ≠ 0) (hq3 : MPo I0 o) (hq4 : MTk I0 o) (hR : RI R I0) (hp : ∀ (I' : Nat → Nat → Int32) (L' : Nat → Nat → Int64), RI R I' → Fm (fun c => c = o ∨ (o + 6 ≤ c ∧ c < o + 25)) I0 I' → Kp wModel_readLine I0 I' o → ((I' o 7).toInt ≤ (I' o 3).toInt) → ((I0 o 7).toInt ≤ (I' o 7).toInt) → ((I0 o 4).toInt ≤ (I' o 4).toInt) → (7 * (I0 o 7).toInt - (I0 o 8).toInt + (I0 o 4).toInt ≤ 7 * (I' o 7).toInt - (I' o 8).toInt + (I' o 4).toInt) → (7 * (I0 o 7).toInt - (I0 o 8).toInt + (I0 o 4).toInt < 7 * (I' o 7).toInt - (I' o 8).toInt + (I' o 4).toInt) → (MPo I' o) → (MTk I' o) → (gModel_readLine_0 o (tI I0) L0 = (0, tI I', L')) → post none (n, sh, Rf, I', L')) : Ev (qGG D cA b E) mModel_readLine 6 (0, 0) 0 (lv_args 0 [.ref o]) [] (n, sh, Rf, I0, L0) post :=
  yc_Model_readLineg (R := fzR R I0 o wModel_readLine) hok hw (fzA ra hR _) (fzT hz14 rfl) (fzT hz15 rfl) (fzT hz16 rfl) (fzT hz17 rfl) (fzT hz18 rfl) (fzT hz19 rfl) fzZ (fzI hR) hq0 hq1 hq2 hq3 hq4 (fzI hR) (fun I' L' h1 h2 u0 u1 u2 u3 u4 u5 u6 ug => hp I' L' (fzB hR h1) h2 (fzP h1) u0 u1 u2 u3 u4 u5 u6 ug)
noncomputable def gModel_land_59 (k : Nat) (o : Nat) (J : gJ) (L : gL) : Int × gJ × gL := match k with
  | 0 => default
  | k + 1 => gLet (gModel_isGood_0 o J L) (fun (r_1 : Int) => (if r_1 = 0 then gLet (gModel_isGood_0 o J L) (fun (r_2 : Int) => (if r_2 = 0 then ((-1), J, L) else gLet (J o 35) (fun (v_3 : Int) => gLet (q_u J o 34 v_3) (fun (J_4 : gJ) => gLet (q_u J_4 o 67 0) (fun (J_5 : gJ) => gLet (q_u J_5 o 135 0) (fun (J_6 : gJ) => gB3 (gModel_measure_0 o J_6 L) (fun r_7 J_8 L_9 => gLet (J_8 o 34) (fun (v_10 : Int) => gLet (J_8 (o + 6) (Int.toNat v_10)) (fun (v_11 : Int) => gLet (J_8 o 34) (fun (v_12 : Int) => gLet (J_8 (o + 7) (Int.toNat v_12)) (fun (v_13 : Int) => gLet (v_11 + v_13) (fun (v_14 : Int) => gLet (J_8 o 34) (fun (v_15 : Int) => gLet (J_8 (o + 8) (Int.toNat v_15)) (fun (v_16 : Int) => gLet (v_14 + v_16) (fun (v_17 : Int) => gLet (J_8 o 34) (fun (v_18 : Int) => gLet (J_8 (o + 9) (Int.toNat v_18)) (fun (v_19 : Int) => gLet (v_17 + v_19) (fun (v_20 : Int) => (v_20, J_8, L_9))))))))))))))))))) else gLet (J o 8) (fun (v_21 : Int) => (if v_21 = 0 then gLet (gModel_isGood_0 o J L) (fun (r_22 : Int) => (if r_22 = 0 then ((-1), J, L) else gLet (J o 35) (fun (v_23 : Int) => gLet (q_u J o 34 v_23) (fun (J_24 : gJ) => gLet (q_u J_24 o 67 0) (fun (J_25 : gJ) => gLet (q_u J_25 o 135 0) (fun (J_26 : gJ) => gB3 (gModel_measure_0 o J_26 L) (fun r_27 J_28 L_29 => gLet (J_28 o 34) (fun (v_30 : Int) => gLet (J_28 (o + 6) (Int.toNat v_30)) (fun (v_31 : Int) => gLet (J_28 o 34) (fun (v_32 : Int) => gLet (J_28 (o + 7) (Int.toNat v_32)) (fun (v_33 : Int) => gLet (v_31 + v_33) (fun (v_34 : Int) => gLet (J_28 o 34) (fun (v_35 : Int) => gLet (J_28 (o + 8) (Int.toNat v_35)) (fun (v_36 : Int) => gLet (v_34 + v_36) (fun (v_37 : Int) => gLet (J_28 o 34) (fun (v_38 : Int) => gLet (J_28 (o + 9) (Int.toNat v_38)) (fun (v_39 : Int) => gLet (v_37 + v_39) (fun (v_40 : Int) => (v_40, J_28, L_29))))))))))))))))))) else gB3 (gModel_readLine_0 o J L) (fun r_41 J_42 L_43 => (gModel_land_59 k o J_42 L_43 ))))))
theorem eModel_land_59 {k : Nat} {o : Nat} {J : gJ} {L : gL} : gModel_land_59 (k + 1) o J L  = gLet (gModel_isGood_0 o J L) (fun (r_1 : Int) => (if r_1 = 0 then gLet (gModel_isGood_0 o J L) (fun (r_2 : Int) => (if r_2 = 0 then ((-1), J, L) else gLet (J o 35) (fun (v_3 : Int) => gLet (q_u J o 34 v_3) (fun (J_4 : gJ) => gLet (q_u J_4 o 67 0) (fun (J_5 : gJ) => gLet (q_u J_5 o 135 0) (fun (J_6 : gJ) => gB3 (gModel_measure_0 o J_6 L) (fun r_7 J_8 L_9 => gLet (J_8 o 34) (fun (v_10 : Int) => gLet (J_8 (o + 6) (Int.toNat v_10)) (fun (v_11 : Int) => gLet (J_8 o 34) (fun (v_12 : Int) => gLet (J_8 (o + 7) (Int.toNat v_12)) (fun (v_13 : Int) => gLet (v_11 + v_13) (fun (v_14 : Int) => gLet (J_8 o 34) (fun (v_15 : Int) => gLet (J_8 (o + 8) (Int.toNat v_15)) (fun (v_16 : Int) => gLet (v_14 + v_16) (fun (v_17 : Int) => gLet (J_8 o 34) (fun (v_18 : Int) => gLet (J_8 (o + 9) (Int.toNat v_18)) (fun (v_19 : Int) => gLet (v_17 + v_19) (fun (v_20 : Int) => (v_20, J_8, L_9))))))))))))))))))) else gLet (J o 8) (fun (v_21 : Int) => (if v_21 = 0 then gLet (gModel_isGood_0 o J L) (fun (r_22 : Int) => (if r_22 = 0 then ((-1), J, L) else gLet (J o 35) (fun (v_23 : Int) => gLet (q_u J o 34 v_23) (fun (J_24 : gJ) => gLet (q_u J_24 o 67 0) (fun (J_25 : gJ) => gLet (q_u J_25 o 135 0) (fun (J_26 : gJ) => gB3 (gModel_measure_0 o J_26 L) (fun r_27 J_28 L_29 => gLet (J_28 o 34) (fun (v_30 : Int) => gLet (J_28 (o + 6) (Int.toNat v_30)) (fun (v_31 : Int) => gLet (J_28 o 34) (fun (v_32 : Int) => gLet (J_28 (o + 7) (Int.toNat v_32)) (fun (v_33 : Int) => gLet (v_31 + v_33) (fun (v_34 : Int) => gLet (J_28 o 34) (fun (v_35 : Int) => gLet (J_28 (o + 8) (Int.toNat v_35)) (fun (v_36 : Int) => gLet (v_34 + v_36) (fun (v_37 : Int) => gLet (J_28 o 34) (fun (v_38 : Int) => gLet (J_28 (o + 9) (Int.toNat v_38)) (fun (v_39 : Int) => gLet (v_37 + v_39) (fun (v_40 : Int) => (v_40, J_28, L_29))))))))))))))))))) else gB3 (gModel_readLine_0 o J L) (fun r_41 J_42 L_43 => (gModel_land_59 k o J_42 L_43 )))))) := rfl
noncomputable def gModel_land_0 (o : Nat) (J : gJ) (L : gL) : Int × gJ × gL := gB3 (gModel_takeTape_0 o J L 0) (fun r_1 J_2 L_3 => gLet (J_2 o 34) (fun (v_4 : Int) => gLet (1 - v_4) (fun (v_5 : Int) => gLet (q_u J_2 o 35 v_5) (fun (J_6 : gJ) => gLet (J_6 o 35) (fun (v_7 : Int) => gLet (q_u J_6 (o + 6) (Int.toNat v_7) 0) (fun (J_8 : gJ) => gLet (J_8 o 35) (fun (v_9 : Int) => gLet (q_u J_8 (o + 7) (Int.toNat v_9) 0) (fun (J_10 : gJ) => gLet (J_10 o 35) (fun (v_11 : Int) => gLet (q_u J_10 (o + 8) (Int.toNat v_11) 0) (fun (J_12 : gJ) => gLet (J_12 o 35) (fun (v_13 : Int) => gLet (q_u J_12 (o + 9) (Int.toNat v_13) 0) (fun (J_14 : gJ) => gB3 (gModel_next_0 o J_14 L_3) (fun r_15 J_16 L_17 => (gModel_land_59 20000 o J_16 L_17 ))))))))))))))
theorem eModel_land_0 {o : Nat} {J : gJ} {L : gL} : gModel_land_0 o J L  = gB3 (gModel_takeTape_0 o J L 0) (fun r_1 J_2 L_3 => gLet (J_2 o 34) (fun (v_4 : Int) => gLet (1 - v_4) (fun (v_5 : Int) => gLet (q_u J_2 o 35 v_5) (fun (J_6 : gJ) => gLet (J_6 o 35) (fun (v_7 : Int) => gLet (q_u J_6 (o + 6) (Int.toNat v_7) 0) (fun (J_8 : gJ) => gLet (J_8 o 35) (fun (v_9 : Int) => gLet (q_u J_8 (o + 7) (Int.toNat v_9) 0) (fun (J_10 : gJ) => gLet (J_10 o 35) (fun (v_11 : Int) => gLet (q_u J_10 (o + 8) (Int.toNat v_11) 0) (fun (J_12 : gJ) => gLet (J_12 o 35) (fun (v_13 : Int) => gLet (q_u J_12 (o + 9) (Int.toNat v_13) 0) (fun (J_14 : gJ) => gB3 (gModel_next_0 o J_14 L_3) (fun r_15 J_16 L_17 => (gModel_land_59 20000 o J_16 L_17 )))))))))))))) := rfl
set_option maxHeartbeats 4000000 in
set_option maxRecDepth 20000 in
theorem yModel_land_59g {D : va_G} {cA : FieldType → ClassId} {b : Nat} {E : State → Prop} {R : qRg} {o n : Nat} {sh : Nat → qC} {Rf : Nat → Nat → Option Nat} {I0 : Nat → Nat → Int32} {L0 : Nat → Nat → Int64} {post : Option Value → qS → Prop} (hok : q_ok (qGG D cA b E)) (hw : WfModel (qGG D cA b E) n sh Rf o) (ra : RAModel R o) (hz12 : R.2 12 = true) (hz13 : R.2 13 = true) (hz14 : R.2 14 = true) (hz15 : R.2 15 = true) (hz16 : R.2 16 = true) (hz17 : R.2 17 = true) (hz18 : R.2 18 = true) (hz19 : R.2 19 = true) (hz21 : R.2 21 = true) (hz44 : R.2 44 = true) (hz45 : R.2 45 = true) (hz77 : R.2 77 = true) (hz145 : R.2 145 = true) (hZ : Fz R I0 o wModel_land) (hR0 : RI R I0) (hq0 : MFac I0 o) (hp : ∀ (r : Int32) (I' : Nat → Nat → Int32) (L' : Nat → Nat → Int64), RI R I' → Fm (fun c => c = o ∨ c = o + 2 ∨ (o + 6 ≤ c ∧ c < o + 26)) I0 I' → ((I' o 2).toInt = 0) → (MFac I' o) → (gModel_land_0 o (tI I0) L0 = (r.toInt, tI I', L')) → post (some (.int r)) (n, sh, Rf, I', L')) : ∀ (k : Nat)  {I : Nat → Nat → Int32} {L : Nat → Nat → Int64}, RI R I → Fm (fun c => c = o ∨ c = o + 2 ∨ (o + 6 ≤ c ∧ c < o + 26)) I0 I → ((I o 2).toInt = 0) → ((I o 7).toInt ≤ (I o 3).toInt) → (MFac I o) → (MPo I o) → (MTk I o) → (gModel_land_59 k o (tI I) L  = gModel_land_0 o (tI I0) L0) → (11300 - (7 * (I o 7).toInt - (I o 8).toInt + (I o 4).toInt)).toNat < k → Ev (qGG D cA b E) mModel_land 7 (0, 0) 59 [(0, .ref o)] [] (n, sh, Rf, I, L) post := by
  intro k
  induction k with
  | zero =>
    intro  I L hR hf hi0 hi1 hi2 hi3 hi4 hg hm
    exact absurd hm (Nat.not_lt_zero _)
  | succ k ih =>
    intro  I L hR hf hi0 hi1 hi2 hi3 hi4 hg hm
    have g_1 : (0 : Int) ≤ (I o 3).toInt ∧ (I o 3).toInt ≤ 1600 := hR.at0 ra 3 (by decide)
    have g_2 : (0 : Int) ≤ (I0 o 3).toInt ∧ (I0 o 3).toInt ≤ 1600 := hR0.at0 ra 3 (by decide)
    have g_3 : (0 : Int) ≤ (I o 4).toInt ∧ (I o 4).toInt ≤ 5 := hR.at0 ra 4 (by decide)
    have g_4 : (0 : Int) ≤ (I0 o 4).toInt ∧ (I0 o 4).toInt ≤ 5 := hR0.at0 ra 4 (by decide)
    have g_5 : (0 : Int) ≤ (I o 6).toInt ∧ (I o 6).toInt ≤ 1600 := hR.at0 ra 6 (by decide)
    have g_6 : (0 : Int) ≤ (I0 o 6).toInt ∧ (I0 o 6).toInt ≤ 1600 := hR0.at0 ra 6 (by decide)
    have g_7 : (0 : Int) ≤ (I o 7).toInt ∧ (I o 7).toInt ≤ 1601 := hR.at0 ra 7 (by decide)
    have g_8 : (0 : Int) ≤ (I0 o 7).toInt ∧ (I0 o 7).toInt ≤ 1601 := hR0.at0 ra 7 (by decide)
    have g_9 : (0 : Int) ≤ (I o 8).toInt ∧ (I o 8).toInt ≤ 6 := hR.at0 ra 8 (by decide)
    have g_10 : (0 : Int) ≤ (I0 o 8).toInt ∧ (I0 o 8).toInt ≤ 6 := hR0.at0 ra 8 (by decide)
    have g_11 : (0 : Int) ≤ (I o 2).toInt ∧ (I o 2).toInt ≤ 1600 := hR.at0 ra 2 (by decide)
    have g_12 : (0 : Int) ≤ (I0 o 2).toInt ∧ (I0 o 2).toInt ≤ 1600 := hR0.at0 ra 2 (by decide)
    have g_13 : (0 : Int) ≤ (I o 67).toInt ∧ (I o 67).toInt ≤ 40 := hR.at0 ra 67 (by decide)
    have g_14 : (0 : Int) ≤ (I0 o 67).toInt ∧ (I0 o 67).toInt ≤ 40 := hR0.at0 ra 67 (by decide)
    refine sModel_land_59 o n sh Rf I L post  hok hw ?_
    unfold fModel_land_59
    replace hg := (eModel_land_59).symm.trans hg
    refine y_Model_isGoodg hok hw ra hR (fun r_15 u_16 u_17 u_18 gn_19 => ⟨r_15, I, L, rfl, rfl, ?_⟩)
    replace hg := gt_let gn_19 hg
    clear gn_19
    have b_20 : 0 ≤ r_15.toInt ∧ r_15.toInt ≤ 1 := u_16.rg
    have l_21 : (0 : Int32).toInt = 0 := rfl
    refine ⟨fun c_22 => ?_, fun c_22 => ?_⟩
    · have d_23 := iEq c_22
      have i_24 := u_18 (by omega)
      replace hg := gt_pos (by first | exact d_23 | omega) hg
      refine y_Model_isGoodg hok hw ra hR (fun r_25 u_26 u_27 u_28 gn_29 => ⟨r_25, I, L, rfl, rfl, ?_⟩)
      replace hg := gt_let gn_29 hg
      clear gn_29
      have b_30 : 0 ≤ r_25.toInt ∧ r_25.toInt ≤ 1 := u_26.rg
      refine ⟨fun c_31 => ?_, fun c_31 => ?_⟩
      · have d_32 := iNe c_31
        have i_33 := u_27 (by omega)
        replace hg := gt_neg (by first | exact d_32 | omega) hg
        have g_34 : (0 : Int) ≤ (I o 35).toInt ∧ (I o 35).toInt ≤ 1 := hR.at0 ra 35 (by decide)
        replace hg := gt_let (y := (I o 35).toInt) rfl hg
        refine fun I_35 e_36 => ?_
        replace hg := gt_let (y := tI I_35) (tI_q e_36) hg
        have hR_37 : RI R I_35 := hR.up0 (k := 34) ra (by decide) (Or.inr hz44) e_36 (show (0 : Int) ≤ (I o 35).toInt by omega) (show (I o 35).toInt ≤ (1 : Int) by omega)
        have hf_38 : Fm (fun c => c = o ∨ c = o + 2 ∨ (o + 6 ≤ c ∧ c < o + 26)) I0 I_35 := hf.set (by first | rfl | omega | (dsimp only; omega)) e_36
        have t_39 : (I_35 o 3).toInt = (I o 3).toInt := by rw [← e_36, q_u_k (by decide)]
        have t_40 : (I_35 o 4).toInt = (I o 4).toInt := by rw [← e_36, q_u_k (by decide)]
        have t_41 : (I_35 o 6).toInt = (I o 6).toInt := by rw [← e_36, q_u_k (by decide)]
        have t_42 : (I_35 o 7).toInt = (I o 7).toInt := by rw [← e_36, q_u_k (by decide)]
        have t_43 : (I_35 o 8).toInt = (I o 8).toInt := by rw [← e_36, q_u_k (by decide)]
        have t_44 : (I_35 o 9).toInt = (I o 9).toInt := by rw [← e_36, q_u_k (by decide)]
        have t_45 : (I_35 o 2).toInt = (I o 2).toInt := by rw [← e_36, q_u_k (by decide)]
        have t_46 : (I_35 o 67).toInt = (I o 67).toInt := by rw [← e_36, q_u_k (by decide)]
        have t_47 : (I_35 o 35).toInt = (I o 35).toInt := by rw [← e_36, q_u_k (by decide)]
        have t_48 : (I_35 o 34).toInt = (I o 35).toInt := by rw [← e_36, q_u_at]
        have k_49 : MFac I_35 o := hi2.fr (by rw [← e_36]; exact q_u_ne (by omega)) (by rw [← e_36]; exact q_u_ne (by omega)) (by rw [← e_36, q_u_k (by decide)])
        have k_50 : MPo I_35 o := hi3.fr (by rw [← e_36, q_u_k (by decide)]) (by rw [← e_36, q_u_k (by decide)])
        have k_51 : MTk I_35 o := hi4.fr (by rw [← e_36, q_u_k (by decide)]) (by rw [← e_36, q_u_k (by decide)]) (by rw [← e_36, q_u_k (by decide)])
        refine fun I_52 e_53 => ?_
        replace hg := gt_let (y := tI I_52) (tI_q e_53) hg
        have hR_54 : RI R I_52 := hR_37.up0 (k := 67) ra (by decide) (Or.inr hz77) e_53 (show (0 : Int) ≤ (0 : Int32).toInt by omega) (show (0 : Int32).toInt ≤ (40 : Int) by omega)
        have hf_55 : Fm (fun c => c = o ∨ c = o + 2 ∨ (o + 6 ≤ c ∧ c < o + 26)) I0 I_52 := hf_38.set (by first | rfl | omega | (dsimp only; omega)) e_53
        have t_56 : (I_52 o 3).toInt = (I_35 o 3).toInt := by rw [← e_53, q_u_k (by decide)]
        have t_57 : (I_52 o 4).toInt = (I_35 o 4).toInt := by rw [← e_53, q_u_k (by decide)]
        have t_58 : (I_52 o 6).toInt = (I_35 o 6).toInt := by rw [← e_53, q_u_k (by decide)]
        have t_59 : (I_52 o 7).toInt = (I_35 o 7).toInt := by rw [← e_53, q_u_k (by decide)]
        have t_60 : (I_52 o 8).toInt = (I_35 o 8).toInt := by rw [← e_53, q_u_k (by decide)]
        have t_61 : (I_52 o 9).toInt = (I_35 o 9).toInt := by rw [← e_53, q_u_k (by decide)]
        have t_62 : (I_52 o 2).toInt = (I_35 o 2).toInt := by rw [← e_53, q_u_k (by decide)]
        have t_63 : (I_52 o 67).toInt = (0 : Int32).toInt := by rw [← e_53, q_u_at]
        have t_64 : (I_52 o 35).toInt = (I_35 o 35).toInt := by rw [← e_53, q_u_k (by decide)]
        have t_65 : (I_52 o 34).toInt = (I_35 o 34).toInt := by rw [← e_53, q_u_k (by decide)]
        have k_67 : MPo I_52 o := k_50.fr (by rw [← e_53, q_u_k (by decide)]) (by rw [← e_53, q_u_k (by decide)])
        have k_68 : MTk I_52 o := k_51.fr (by rw [← e_53, q_u_k (by decide)]) (by rw [← e_53, q_u_k (by decide)]) (by rw [← e_53, q_u_k (by decide)])
        have k_69 : MFac I_52 o := by intro j hj; exfalso; omega
        refine fun I_70 e_71 => ?_
        replace hg := gt_let (y := tI I_70) (tI_q e_71) hg
        have hR_72 : RI R I_70 := hR_54.up0 (k := 135) ra (by decide) (Or.inr hz145) e_71 (i_lo _) (i_hi _)
        have hf_73 : Fm (fun c => c = o ∨ c = o + 2 ∨ (o + 6 ≤ c ∧ c < o + 26)) I0 I_70 := hf_55.set (by first | rfl | omega | (dsimp only; omega)) e_71
        have t_74 : (I_70 o 3).toInt = (I_52 o 3).toInt := by rw [← e_71, q_u_k (by decide)]
        have t_75 : (I_70 o 4).toInt = (I_52 o 4).toInt := by rw [← e_71, q_u_k (by decide)]
        have t_76 : (I_70 o 6).toInt = (I_52 o 6).toInt := by rw [← e_71, q_u_k (by decide)]
        have t_77 : (I_70 o 7).toInt = (I_52 o 7).toInt := by rw [← e_71, q_u_k (by decide)]
        have t_78 : (I_70 o 8).toInt = (I_52 o 8).toInt := by rw [← e_71, q_u_k (by decide)]
        have t_79 : (I_70 o 9).toInt = (I_52 o 9).toInt := by rw [← e_71, q_u_k (by decide)]
        have t_80 : (I_70 o 2).toInt = (I_52 o 2).toInt := by rw [← e_71, q_u_k (by decide)]
        have t_81 : (I_70 o 67).toInt = (I_52 o 67).toInt := by rw [← e_71, q_u_k (by decide)]
        have t_82 : (I_70 o 35).toInt = (I_52 o 35).toInt := by rw [← e_71, q_u_k (by decide)]
        have t_83 : (I_70 o 34).toInt = (I_52 o 34).toInt := by rw [← e_71, q_u_k (by decide)]
        have k_84 : MPo I_70 o := k_67.fr (by rw [← e_71, q_u_k (by decide)]) (by rw [← e_71, q_u_k (by decide)])
        have k_85 : MTk I_70 o := k_68.fr (by rw [← e_71, q_u_k (by decide)]) (by rw [← e_71, q_u_k (by decide)]) (by rw [← e_71, q_u_k (by decide)])
        have k_86 : MFac I_70 o := k_69.fr (by rw [← e_71]; exact q_u_ne (by omega)) (by rw [← e_71]; exact q_u_ne (by omega)) (by rw [← e_71, q_u_k (by decide)])
        refine y_Model_measureg hok hw ra hR_72 (fun I_89 L_90 hR_91 fr_92 kp_93 gn_88 => ⟨I_89, L_90, rfl, rfl, ?_⟩)
        replace hg := gt_b3 gn_88 hg
        clear gn_88
        have hf_94 : Fm (fun c => c = o ∨ c = o + 2 ∨ (o + 6 ≤ c ∧ c < o + 26)) I0 I_89 := hf_73.call fr_92 (fun c hc => by first | exact hc | (dsimp only at hc ⊢; omega) | omega)
        have t_95 : (I_89 o 3).toInt = (I_70 o 3).toInt := by rw [kp_93 3 rfl]
        have t_96 : (I_89 o 4).toInt = (I_70 o 4).toInt := by rw [kp_93 4 rfl]
        have t_97 : (I_89 o 6).toInt = (I_70 o 6).toInt := by rw [kp_93 6 rfl]
        have t_98 : (I_89 o 7).toInt = (I_70 o 7).toInt := by rw [kp_93 7 rfl]
        have t_99 : (I_89 o 8).toInt = (I_70 o 8).toInt := by rw [kp_93 8 rfl]
        have t_100 : (I_89 o 9).toInt = (I_70 o 9).toInt := by rw [kp_93 9 rfl]
        have t_101 : (I_89 o 2).toInt = (I_70 o 2).toInt := by rw [kp_93 2 rfl]
        have t_102 : (I_89 o 67).toInt = (I_70 o 67).toInt := by rw [kp_93 67 rfl]
        have t_103 : (I_89 o 35).toInt = (I_70 o 35).toInt := by rw [kp_93 35 rfl]
        have t_104 : (I_89 o 34).toInt = (I_70 o 34).toInt := by rw [kp_93 34 rfl]
        have k_105 : MPo I_89 o := k_84.fr (kp_93 8 rfl) (kp_93 9 rfl)
        have k_106 : MTk I_89 o := k_85.fr (kp_93 6 rfl) (kp_93 7 rfl) (kp_93 8 rfl)
        have k_107 : MFac I_89 o := k_86.fr (fr_92 _ (by first | omega | (dsimp only; omega))) (fr_92 _ (by first | omega | (dsimp only; omega))) (kp_93 67 rfl)
        have g_108 : (0 : Int) ≤ (I_89 o 34).toInt ∧ (I_89 o 34).toInt ≤ 1 := hR_91.at0 ra 34 (by decide)
        replace hg := gt_let (y := (I_89 o 34).toInt) rfl hg
        refine ⟨tIn (by omega) (by omega), ?_⟩
        have g_109 : (0 : Int) ≤ (I_89 (o + 6) ((I_89 o 34) : Int32).toNatClampNeg).toInt ∧ (I_89 (o + 6) ((I_89 o 34) : Int32).toNatClampNeg).toInt ≤ 24 := hR_91.at ra 6 _ (by decide)
        replace hg := gt_let (y := (I_89 (o + 6) ((I_89 o 34) : Int32).toNatClampNeg).toInt) rfl hg
        have g_110 : (0 : Int) ≤ (I_89 o 34).toInt ∧ (I_89 o 34).toInt ≤ 1 := hR_91.at0 ra 34 (by decide)
        replace hg := gt_let (y := (I_89 o 34).toInt) rfl hg
        refine ⟨tIn (by omega) (by omega), ?_⟩
        have g_111 : (0 : Int) ≤ (I_89 (o + 7) ((I_89 o 34) : Int32).toNatClampNeg).toInt ∧ (I_89 (o + 7) ((I_89 o 34) : Int32).toNatClampNeg).toInt ≤ 3 := hR_91.at ra 7 _ (by decide)
        replace hg := gt_let (y := (I_89 (o + 7) ((I_89 o 34) : Int32).toNatClampNeg).toInt) rfl hg
        have a_112 : ((I_89 (o + 6) ((I_89 o 34) : Int32).toNatClampNeg) + (I_89 (o + 7) ((I_89 o 34) : Int32).toNatClampNeg)).toInt = (I_89 (o + 6) ((I_89 o 34) : Int32).toNatClampNeg).toInt + (I_89 (o + 7) ((I_89 o 34) : Int32).toNatClampNeg).toInt := tAdd (by omega) (by omega)
        replace hg := gt_let (y := (((I_89 (o + 6) ((I_89 o 34) : Int32).toNatClampNeg) + (I_89 (o + 7) ((I_89 o 34) : Int32).toNatClampNeg)) : Int32).toInt) (by omega) hg
        have g_113 : (0 : Int) ≤ (I_89 o 34).toInt ∧ (I_89 o 34).toInt ≤ 1 := hR_91.at0 ra 34 (by decide)
        replace hg := gt_let (y := (I_89 o 34).toInt) rfl hg
        refine ⟨tIn (by omega) (by omega), ?_⟩
        have g_114 : (0 : Int) ≤ (I_89 (o + 8) ((I_89 o 34) : Int32).toNatClampNeg).toInt ∧ (I_89 (o + 8) ((I_89 o 34) : Int32).toNatClampNeg).toInt ≤ 3 := hR_91.at ra 8 _ (by decide)
        replace hg := gt_let (y := (I_89 (o + 8) ((I_89 o 34) : Int32).toNatClampNeg).toInt) rfl hg
        have a_115 : (((I_89 (o + 6) ((I_89 o 34) : Int32).toNatClampNeg) + (I_89 (o + 7) ((I_89 o 34) : Int32).toNatClampNeg)) + (I_89 (o + 8) ((I_89 o 34) : Int32).toNatClampNeg)).toInt = ((I_89 (o + 6) ((I_89 o 34) : Int32).toNatClampNeg) + (I_89 (o + 7) ((I_89 o 34) : Int32).toNatClampNeg)).toInt + (I_89 (o + 8) ((I_89 o 34) : Int32).toNatClampNeg).toInt := tAdd (by omega) (by omega)
        replace hg := gt_let (y := ((((I_89 (o + 6) ((I_89 o 34) : Int32).toNatClampNeg) + (I_89 (o + 7) ((I_89 o 34) : Int32).toNatClampNeg)) + (I_89 (o + 8) ((I_89 o 34) : Int32).toNatClampNeg)) : Int32).toInt) (by omega) hg
        have g_116 : (0 : Int) ≤ (I_89 o 34).toInt ∧ (I_89 o 34).toInt ≤ 1 := hR_91.at0 ra 34 (by decide)
        replace hg := gt_let (y := (I_89 o 34).toInt) rfl hg
        refine ⟨tIn (by omega) (by omega), ?_⟩
        have g_117 : (0 : Int) ≤ (I_89 (o + 9) ((I_89 o 34) : Int32).toNatClampNeg).toInt ∧ (I_89 (o + 9) ((I_89 o 34) : Int32).toNatClampNeg).toInt ≤ 5 := hR_91.at ra 9 _ (by decide)
        replace hg := gt_let (y := (I_89 (o + 9) ((I_89 o 34) : Int32).toNatClampNeg).toInt) rfl hg
        have a_118 : ((((I_89 (o + 6) ((I_89 o 34) : Int32).toNatClampNeg) + (I_89 (o + 7) ((I_89 o 34) : Int32).toNatClampNeg)) + (I_89 (o + 8) ((I_89 o 34) : Int32).toNatClampNeg)) + (I_89 (o + 9) ((I_89 o 34) : Int32).toNatClampNeg)).toInt = (((I_89 (o + 6) ((I_89 o 34) : Int32).toNatClampNeg) + (I_89 (o + 7) ((I_89 o 34) : Int32).toNatClampNeg)) + (I_89 (o + 8) ((I_89 o 34) : Int32).toNatClampNeg)).toInt + (I_89 (o + 9) ((I_89 o 34) : Int32).toNatClampNeg).toInt := tAdd (by omega) (by omega)
        replace hg := gt_let (y := (((((I_89 (o + 6) ((I_89 o 34) : Int32).toNatClampNeg) + (I_89 (o + 7) ((I_89 o 34) : Int32).toNatClampNeg)) + (I_89 (o + 8) ((I_89 o 34) : Int32).toNatClampNeg)) + (I_89 (o + 9) ((I_89 o 34) : Int32).toNatClampNeg)) : Int32).toInt) (by omega) hg
        exact (hp _ _ _ hR_91 hf_94 (by first | omega | (intro h; omega) | exact Or.inl rfl | exact Or.inr rfl) k_107 hg.symm)
      · have d_119 := iEq c_31
        have i_120 := u_28 (by omega)
        replace hg := gt_pos (by first | exact d_119 | omega) hg
        have l_121 : (-1 : Int32).toInt = -1 := rfl
        exact (hp _ _ _ hR hf (by first | omega | (intro h; omega) | exact Or.inl rfl | exact Or.inr rfl) hi2 hg.symm)
    · have d_122 := iNe c_22
      have i_123 := u_17 (by omega)
      replace hg := gt_neg (by first | exact d_122 | omega) hg
      have gd := u_17 (by omega)
      have g_124 : (0 : Int) ≤ (I o 8).toInt ∧ (I o 8).toInt ≤ 6 := hR.at0 ra 8 (by decide)
      replace hg := gt_let (y := (I o 8).toInt) rfl hg
      refine ⟨fun c_125 => ?_, fun c_125 => ?_⟩
      · have d_126 := iEq c_125
        replace hg := gt_pos (by first | exact d_126 | omega) hg
        refine y_Model_isGoodg hok hw ra hR (fun r_127 u_128 u_129 u_130 gn_131 => ⟨r_127, I, L, rfl, rfl, ?_⟩)
        replace hg := gt_let gn_131 hg
        clear gn_131
        have b_132 : 0 ≤ r_127.toInt ∧ r_127.toInt ≤ 1 := u_128.rg
        refine ⟨fun c_133 => ?_, fun c_133 => ?_⟩
        · have d_134 := iNe c_133
          have i_135 := u_129 (by omega)
          replace hg := gt_neg (by first | exact d_134 | omega) hg
          have g_136 : (0 : Int) ≤ (I o 35).toInt ∧ (I o 35).toInt ≤ 1 := hR.at0 ra 35 (by decide)
          replace hg := gt_let (y := (I o 35).toInt) rfl hg
          refine fun I_137 e_138 => ?_
          replace hg := gt_let (y := tI I_137) (tI_q e_138) hg
          have hR_139 : RI R I_137 := hR.up0 (k := 34) ra (by decide) (Or.inr hz44) e_138 (show (0 : Int) ≤ (I o 35).toInt by omega) (show (I o 35).toInt ≤ (1 : Int) by omega)
          have hf_140 : Fm (fun c => c = o ∨ c = o + 2 ∨ (o + 6 ≤ c ∧ c < o + 26)) I0 I_137 := hf.set (by first | rfl | omega | (dsimp only; omega)) e_138
          have t_141 : (I_137 o 3).toInt = (I o 3).toInt := by rw [← e_138, q_u_k (by decide)]
          have t_142 : (I_137 o 4).toInt = (I o 4).toInt := by rw [← e_138, q_u_k (by decide)]
          have t_143 : (I_137 o 6).toInt = (I o 6).toInt := by rw [← e_138, q_u_k (by decide)]
          have t_144 : (I_137 o 7).toInt = (I o 7).toInt := by rw [← e_138, q_u_k (by decide)]
          have t_145 : (I_137 o 8).toInt = (I o 8).toInt := by rw [← e_138, q_u_k (by decide)]
          have t_146 : (I_137 o 9).toInt = (I o 9).toInt := by rw [← e_138, q_u_k (by decide)]
          have t_147 : (I_137 o 2).toInt = (I o 2).toInt := by rw [← e_138, q_u_k (by decide)]
          have t_148 : (I_137 o 67).toInt = (I o 67).toInt := by rw [← e_138, q_u_k (by decide)]
          have t_149 : (I_137 o 35).toInt = (I o 35).toInt := by rw [← e_138, q_u_k (by decide)]
          have t_150 : (I_137 o 34).toInt = (I o 35).toInt := by rw [← e_138, q_u_at]
          have k_151 : MFac I_137 o := hi2.fr (by rw [← e_138]; exact q_u_ne (by omega)) (by rw [← e_138]; exact q_u_ne (by omega)) (by rw [← e_138, q_u_k (by decide)])
          have k_152 : MPo I_137 o := hi3.fr (by rw [← e_138, q_u_k (by decide)]) (by rw [← e_138, q_u_k (by decide)])
          have k_153 : MTk I_137 o := hi4.fr (by rw [← e_138, q_u_k (by decide)]) (by rw [← e_138, q_u_k (by decide)]) (by rw [← e_138, q_u_k (by decide)])
          refine fun I_154 e_155 => ?_
          replace hg := gt_let (y := tI I_154) (tI_q e_155) hg
          have hR_156 : RI R I_154 := hR_139.up0 (k := 67) ra (by decide) (Or.inr hz77) e_155 (show (0 : Int) ≤ (0 : Int32).toInt by omega) (show (0 : Int32).toInt ≤ (40 : Int) by omega)
          have hf_157 : Fm (fun c => c = o ∨ c = o + 2 ∨ (o + 6 ≤ c ∧ c < o + 26)) I0 I_154 := hf_140.set (by first | rfl | omega | (dsimp only; omega)) e_155
          have t_158 : (I_154 o 3).toInt = (I_137 o 3).toInt := by rw [← e_155, q_u_k (by decide)]
          have t_159 : (I_154 o 4).toInt = (I_137 o 4).toInt := by rw [← e_155, q_u_k (by decide)]
          have t_160 : (I_154 o 6).toInt = (I_137 o 6).toInt := by rw [← e_155, q_u_k (by decide)]
          have t_161 : (I_154 o 7).toInt = (I_137 o 7).toInt := by rw [← e_155, q_u_k (by decide)]
          have t_162 : (I_154 o 8).toInt = (I_137 o 8).toInt := by rw [← e_155, q_u_k (by decide)]
          have t_163 : (I_154 o 9).toInt = (I_137 o 9).toInt := by rw [← e_155, q_u_k (by decide)]
          have t_164 : (I_154 o 2).toInt = (I_137 o 2).toInt := by rw [← e_155, q_u_k (by decide)]
          have t_165 : (I_154 o 67).toInt = (0 : Int32).toInt := by rw [← e_155, q_u_at]
          have t_166 : (I_154 o 35).toInt = (I_137 o 35).toInt := by rw [← e_155, q_u_k (by decide)]
          have t_167 : (I_154 o 34).toInt = (I_137 o 34).toInt := by rw [← e_155, q_u_k (by decide)]
          have k_169 : MPo I_154 o := k_152.fr (by rw [← e_155, q_u_k (by decide)]) (by rw [← e_155, q_u_k (by decide)])
          have k_170 : MTk I_154 o := k_153.fr (by rw [← e_155, q_u_k (by decide)]) (by rw [← e_155, q_u_k (by decide)]) (by rw [← e_155, q_u_k (by decide)])
          have k_171 : MFac I_154 o := by intro j hj; exfalso; omega
          refine fun I_172 e_173 => ?_
          replace hg := gt_let (y := tI I_172) (tI_q e_173) hg
          have hR_174 : RI R I_172 := hR_156.up0 (k := 135) ra (by decide) (Or.inr hz145) e_173 (i_lo _) (i_hi _)
          have hf_175 : Fm (fun c => c = o ∨ c = o + 2 ∨ (o + 6 ≤ c ∧ c < o + 26)) I0 I_172 := hf_157.set (by first | rfl | omega | (dsimp only; omega)) e_173
          have t_176 : (I_172 o 3).toInt = (I_154 o 3).toInt := by rw [← e_173, q_u_k (by decide)]
          have t_177 : (I_172 o 4).toInt = (I_154 o 4).toInt := by rw [← e_173, q_u_k (by decide)]
          have t_178 : (I_172 o 6).toInt = (I_154 o 6).toInt := by rw [← e_173, q_u_k (by decide)]
          have t_179 : (I_172 o 7).toInt = (I_154 o 7).toInt := by rw [← e_173, q_u_k (by decide)]
          have t_180 : (I_172 o 8).toInt = (I_154 o 8).toInt := by rw [← e_173, q_u_k (by decide)]
          have t_181 : (I_172 o 9).toInt = (I_154 o 9).toInt := by rw [← e_173, q_u_k (by decide)]
          have t_182 : (I_172 o 2).toInt = (I_154 o 2).toInt := by rw [← e_173, q_u_k (by decide)]
          have t_183 : (I_172 o 67).toInt = (I_154 o 67).toInt := by rw [← e_173, q_u_k (by decide)]
          have t_184 : (I_172 o 35).toInt = (I_154 o 35).toInt := by rw [← e_173, q_u_k (by decide)]
          have t_185 : (I_172 o 34).toInt = (I_154 o 34).toInt := by rw [← e_173, q_u_k (by decide)]
          have k_186 : MPo I_172 o := k_169.fr (by rw [← e_173, q_u_k (by decide)]) (by rw [← e_173, q_u_k (by decide)])
          have k_187 : MTk I_172 o := k_170.fr (by rw [← e_173, q_u_k (by decide)]) (by rw [← e_173, q_u_k (by decide)]) (by rw [← e_173, q_u_k (by decide)])
          have k_188 : MFac I_172 o := k_171.fr (by rw [← e_173]; exact q_u_ne (by omega)) (by rw [← e_173]; exact q_u_ne (by omega)) (by rw [← e_173, q_u_k (by decide)])
          refine y_Model_measureg hok hw ra hR_174 (fun I_191 L_192 hR_193 fr_194 kp_195 gn_190 => ⟨I_191, L_192, rfl, rfl, ?_⟩)
          replace hg := gt_b3 gn_190 hg
          clear gn_190
          have hf_196 : Fm (fun c => c = o ∨ c = o + 2 ∨ (o + 6 ≤ c ∧ c < o + 26)) I0 I_191 := hf_175.call fr_194 (fun c hc => by first | exact hc | (dsimp only at hc ⊢; omega) | omega)
          have t_197 : (I_191 o 3).toInt = (I_172 o 3).toInt := by rw [kp_195 3 rfl]
          have t_198 : (I_191 o 4).toInt = (I_172 o 4).toInt := by rw [kp_195 4 rfl]
          have t_199 : (I_191 o 6).toInt = (I_172 o 6).toInt := by rw [kp_195 6 rfl]
          have t_200 : (I_191 o 7).toInt = (I_172 o 7).toInt := by rw [kp_195 7 rfl]
          have t_201 : (I_191 o 8).toInt = (I_172 o 8).toInt := by rw [kp_195 8 rfl]
          have t_202 : (I_191 o 9).toInt = (I_172 o 9).toInt := by rw [kp_195 9 rfl]
          have t_203 : (I_191 o 2).toInt = (I_172 o 2).toInt := by rw [kp_195 2 rfl]
          have t_204 : (I_191 o 67).toInt = (I_172 o 67).toInt := by rw [kp_195 67 rfl]
          have t_205 : (I_191 o 35).toInt = (I_172 o 35).toInt := by rw [kp_195 35 rfl]
          have t_206 : (I_191 o 34).toInt = (I_172 o 34).toInt := by rw [kp_195 34 rfl]
          have k_207 : MPo I_191 o := k_186.fr (kp_195 8 rfl) (kp_195 9 rfl)
          have k_208 : MTk I_191 o := k_187.fr (kp_195 6 rfl) (kp_195 7 rfl) (kp_195 8 rfl)
          have k_209 : MFac I_191 o := k_188.fr (fr_194 _ (by first | omega | (dsimp only; omega))) (fr_194 _ (by first | omega | (dsimp only; omega))) (kp_195 67 rfl)
          have g_210 : (0 : Int) ≤ (I_191 o 34).toInt ∧ (I_191 o 34).toInt ≤ 1 := hR_193.at0 ra 34 (by decide)
          replace hg := gt_let (y := (I_191 o 34).toInt) rfl hg
          refine ⟨tIn (by omega) (by omega), ?_⟩
          have g_211 : (0 : Int) ≤ (I_191 (o + 6) ((I_191 o 34) : Int32).toNatClampNeg).toInt ∧ (I_191 (o + 6) ((I_191 o 34) : Int32).toNatClampNeg).toInt ≤ 24 := hR_193.at ra 6 _ (by decide)
          replace hg := gt_let (y := (I_191 (o + 6) ((I_191 o 34) : Int32).toNatClampNeg).toInt) rfl hg
          have g_212 : (0 : Int) ≤ (I_191 o 34).toInt ∧ (I_191 o 34).toInt ≤ 1 := hR_193.at0 ra 34 (by decide)
          replace hg := gt_let (y := (I_191 o 34).toInt) rfl hg
          refine ⟨tIn (by omega) (by omega), ?_⟩
          have g_213 : (0 : Int) ≤ (I_191 (o + 7) ((I_191 o 34) : Int32).toNatClampNeg).toInt ∧ (I_191 (o + 7) ((I_191 o 34) : Int32).toNatClampNeg).toInt ≤ 3 := hR_193.at ra 7 _ (by decide)
          replace hg := gt_let (y := (I_191 (o + 7) ((I_191 o 34) : Int32).toNatClampNeg).toInt) rfl hg
          have a_214 : ((I_191 (o + 6) ((I_191 o 34) : Int32).toNatClampNeg) + (I_191 (o + 7) ((I_191 o 34) : Int32).toNatClampNeg)).toInt = (I_191 (o + 6) ((I_191 o 34) : Int32).toNatClampNeg).toInt + (I_191 (o + 7) ((I_191 o 34) : Int32).toNatClampNeg).toInt := tAdd (by omega) (by omega)
          replace hg := gt_let (y := (((I_191 (o + 6) ((I_191 o 34) : Int32).toNatClampNeg) + (I_191 (o + 7) ((I_191 o 34) : Int32).toNatClampNeg)) : Int32).toInt) (by omega) hg
          have g_215 : (0 : Int) ≤ (I_191 o 34).toInt ∧ (I_191 o 34).toInt ≤ 1 := hR_193.at0 ra 34 (by decide)
          replace hg := gt_let (y := (I_191 o 34).toInt) rfl hg
          refine ⟨tIn (by omega) (by omega), ?_⟩
          have g_216 : (0 : Int) ≤ (I_191 (o + 8) ((I_191 o 34) : Int32).toNatClampNeg).toInt ∧ (I_191 (o + 8) ((I_191 o 34) : Int32).toNatClampNeg).toInt ≤ 3 := hR_193.at ra 8 _ (by decide)
          replace hg := gt_let (y := (I_191 (o + 8) ((I_191 o 34) : Int32).toNatClampNeg).toInt) rfl hg
          have a_217 : (((I_191 (o + 6) ((I_191 o 34) : Int32).toNatClampNeg) + (I_191 (o + 7) ((I_191 o 34) : Int32).toNatClampNeg)) + (I_191 (o + 8) ((I_191 o 34) : Int32).toNatClampNeg)).toInt = ((I_191 (o + 6) ((I_191 o 34) : Int32).toNatClampNeg) + (I_191 (o + 7) ((I_191 o 34) : Int32).toNatClampNeg)).toInt + (I_191 (o + 8) ((I_191 o 34) : Int32).toNatClampNeg).toInt := tAdd (by omega) (by omega)
          replace hg := gt_let (y := ((((I_191 (o + 6) ((I_191 o 34) : Int32).toNatClampNeg) + (I_191 (o + 7) ((I_191 o 34) : Int32).toNatClampNeg)) + (I_191 (o + 8) ((I_191 o 34) : Int32).toNatClampNeg)) : Int32).toInt) (by omega) hg
          have g_218 : (0 : Int) ≤ (I_191 o 34).toInt ∧ (I_191 o 34).toInt ≤ 1 := hR_193.at0 ra 34 (by decide)
          replace hg := gt_let (y := (I_191 o 34).toInt) rfl hg
          refine ⟨tIn (by omega) (by omega), ?_⟩
          have g_219 : (0 : Int) ≤ (I_191 (o + 9) ((I_191 o 34) : Int32).toNatClampNeg).toInt ∧ (I_191 (o + 9) ((I_191 o 34) : Int32).toNatClampNeg).toInt ≤ 5 := hR_193.at ra 9 _ (by decide)
          replace hg := gt_let (y := (I_191 (o + 9) ((I_191 o 34) : Int32).toNatClampNeg).toInt) rfl hg
          have a_220 : ((((I_191 (o + 6) ((I_191 o 34) : Int32).toNatClampNeg) + (I_191 (o + 7) ((I_191 o 34) : Int32).toNatClampNeg)) + (I_191 (o + 8) ((I_191 o 34) : Int32).toNatClampNeg)) + (I_191 (o + 9) ((I_191 o 34) : Int32).toNatClampNeg)).toInt = (((I_191 (o + 6) ((I_191 o 34) : Int32).toNatClampNeg) + (I_191 (o + 7) ((I_191 o 34) : Int32).toNatClampNeg)) + (I_191 (o + 8) ((I_191 o 34) : Int32).toNatClampNeg)).toInt + (I_191 (o + 9) ((I_191 o 34) : Int32).toNatClampNeg).toInt := tAdd (by omega) (by omega)
          replace hg := gt_let (y := (((((I_191 (o + 6) ((I_191 o 34) : Int32).toNatClampNeg) + (I_191 (o + 7) ((I_191 o 34) : Int32).toNatClampNeg)) + (I_191 (o + 8) ((I_191 o 34) : Int32).toNatClampNeg)) + (I_191 (o + 9) ((I_191 o 34) : Int32).toNatClampNeg)) : Int32).toInt) (by omega) hg
          exact (hp _ _ _ hR_193 hf_196 (by first | omega | (intro h; omega) | exact Or.inl rfl | exact Or.inr rfl) k_209 hg.symm)
        · have d_221 := iEq c_133
          have i_222 := u_130 (by omega)
          replace hg := gt_pos (by first | exact d_221 | omega) hg
          have l_223 : (-1 : Int32).toInt = -1 := rfl
          exact (hp _ _ _ hR hf (by first | omega | (intro h; omega) | exact Or.inl rfl | exact Or.inr rfl) hi2 hg.symm)
      · have d_224 := iNe c_125
        replace hg := gt_neg (by first | exact d_224 | omega) hg
        refine y_Model_readLineg hok hw ra hz14 hz15 hz16 hz17 hz18 hz19 (by first | omega | (intro h; omega) | exact Or.inl rfl | exact Or.inr rfl) (by first | omega | (intro h; omega) | exact Or.inl rfl | exact Or.inr rfl) (by first | omega | (intro h; omega) | exact Or.inl rfl | exact Or.inr rfl) hi3 hi4 hR (fun I_234 L_235 hR_236 fr_237 kp_238 u_226 u_227 u_228 u_229 u_230 u_231 u_232 gn_233 => ⟨I_234, L_235, rfl, rfl, ?_⟩)
        replace hg := gt_b3 gn_233 hg
        clear gn_233
        have hf_239 : Fm (fun c => c = o ∨ c = o + 2 ∨ (o + 6 ≤ c ∧ c < o + 26)) I0 I_234 := hf.call fr_237 (fun c hc => by first | exact hc | (dsimp only at hc ⊢; omega) | omega)
        have t_240 : (I_234 o 3).toInt = (I o 3).toInt := by rw [kp_238 3 rfl]
        have g_241 : (0 : Int) ≤ (I_234 o 4).toInt ∧ (I_234 o 4).toInt ≤ 5 := hR_236.at0 ra 4 (by decide)
        have g_242 : (0 : Int) ≤ (I_234 o 6).toInt ∧ (I_234 o 6).toInt ≤ 1600 := hR_236.at0 ra 6 (by decide)
        have g_243 : (0 : Int) ≤ (I_234 o 7).toInt ∧ (I_234 o 7).toInt ≤ 1601 := hR_236.at0 ra 7 (by decide)
        have g_244 : (0 : Int) ≤ (I_234 o 8).toInt ∧ (I_234 o 8).toInt ≤ 6 := hR_236.at0 ra 8 (by decide)
        have t_245 : (I_234 o 2).toInt = (I o 2).toInt := by rw [kp_238 2 rfl]
        have t_246 : (I_234 o 67).toInt = (I o 67).toInt := by rw [kp_238 67 rfl]
        have k_247 : MFac I_234 o := hi2.fr (fr_237 _ (by first | omega | (dsimp only; omega))) (fr_237 _ (by first | omega | (dsimp only; omega))) (kp_238 67 rfl)
        exact ih hR_236 hf_239 (by first | omega | (intro h; omega) | exact Or.inl rfl | exact Or.inr rfl) (by first | omega | (intro h; omega) | exact Or.inl rfl | exact Or.inr rfl) k_247 u_231 u_232 hg (by omega)
set_option maxHeartbeats 4000000 in
set_option maxRecDepth 20000 in
theorem yc_Model_landg {D : va_G} {cA : FieldType → ClassId} {b : Nat} {E : State → Prop} {R : qRg} {o n : Nat} {sh : Nat → qC} {Rf : Nat → Nat → Option Nat} {I0 : Nat → Nat → Int32} {L0 : Nat → Nat → Int64} {post : Option Value → qS → Prop} (hok : q_ok (qGG D cA b E)) (hw : WfModel (qGG D cA b E) n sh Rf o) (ra : RAModel R o) (hz12 : R.2 12 = true) (hz13 : R.2 13 = true) (hz14 : R.2 14 = true) (hz15 : R.2 15 = true) (hz16 : R.2 16 = true) (hz17 : R.2 17 = true) (hz18 : R.2 18 = true) (hz19 : R.2 19 = true) (hz21 : R.2 21 = true) (hz44 : R.2 44 = true) (hz45 : R.2 45 = true) (hz77 : R.2 77 = true) (hz145 : R.2 145 = true) (hZ : Fz R I0 o wModel_land) (hR0 : RI R I0) (hq0 : MFac I0 o) (hR : RI R I0) (hp : ∀ (r : Int32) (I' : Nat → Nat → Int32) (L' : Nat → Nat → Int64), RI R I' → Fm (fun c => c = o ∨ c = o + 2 ∨ (o + 6 ≤ c ∧ c < o + 26)) I0 I' → ((I' o 2).toInt = 0) → (MFac I' o) → (gModel_land_0 o (tI I0) L0 = (r.toInt, tI I', L')) → post (some (.int r)) (n, sh, Rf, I', L')) : Ev (qGG D cA b E) mModel_land 7 (0, 0) 0 (lv_args 0 [.ref o]) [] (n, sh, Rf, I0, L0) post := by
  have hf : Fm (fun c => c = o ∨ c = o + 2 ∨ (o + 6 ≤ c ∧ c < o + 26)) I0 I0 := Fm.rf
  have g_248 : (0 : Int) ≤ (I0 o 3).toInt ∧ (I0 o 3).toInt ≤ 1600 := hR.at0 ra 3 (by decide)
  have g_249 : (0 : Int) ≤ (I0 o 4).toInt ∧ (I0 o 4).toInt ≤ 5 := hR.at0 ra 4 (by decide)
  have g_250 : (0 : Int) ≤ (I0 o 6).toInt ∧ (I0 o 6).toInt ≤ 1600 := hR.at0 ra 6 (by decide)
  have g_251 : (0 : Int) ≤ (I0 o 7).toInt ∧ (I0 o 7).toInt ≤ 1601 := hR.at0 ra 7 (by decide)
  have g_252 : (0 : Int) ≤ (I0 o 8).toInt ∧ (I0 o 8).toInt ≤ 6 := hR.at0 ra 8 (by decide)
  have g_253 : (0 : Int) ≤ (I0 o 2).toInt ∧ (I0 o 2).toInt ≤ 1600 := hR.at0 ra 2 (by decide)
  have g_254 : (0 : Int) ≤ (I0 o 67).toInt ∧ (I0 o 67).toInt ≤ 40 := hR.at0 ra 67 (by decide)
  refine sModel_land_0 o n sh Rf I0 L0 post  hok hw ?_
  unfold fModel_land_0
  have hg : gModel_land_0 o (tI I0) L0 = gModel_land_0 o (tI I0) L0 := rfl
  replace hg := (eModel_land_0).symm.trans hg
  have l_255 : (0 : Int32).toInt = 0 := rfl
  refine y_Model_takeTapeg hok hw ra hz12 hz13 hz14 hz15 hz17 hz21 (by first | omega | (intro h; omega) | exact Or.inl rfl | exact Or.inr rfl) hR (fun I_262 L_263 hR_264 fr_265 kp_266 u_257 u_258 u_259 u_260 gn_261 => ⟨I_262, L_263, rfl, rfl, ?_⟩)
  replace hg := gt_b3 gn_261 hg
  clear gn_261
  have hf_267 : Fm (fun c => c = o ∨ c = o + 2 ∨ (o + 6 ≤ c ∧ c < o + 26)) I0 I_262 := hf.call fr_265 (fun c hc => by first | exact hc | (dsimp only at hc ⊢; omega) | omega)
  have g_268 : (0 : Int) ≤ (I_262 o 3).toInt ∧ (I_262 o 3).toInt ≤ 1600 := hR_264.at0 ra 3 (by decide)
  have g_269 : (0 : Int) ≤ (I_262 o 4).toInt ∧ (I_262 o 4).toInt ≤ 5 := hR_264.at0 ra 4 (by decide)
  have t_270 : (I_262 o 6).toInt = (I0 o 6).toInt := by rw [kp_266 6 rfl]
  have g_271 : (0 : Int) ≤ (I_262 o 7).toInt ∧ (I_262 o 7).toInt ≤ 1601 := hR_264.at0 ra 7 (by decide)
  have t_272 : (I_262 o 8).toInt = (I0 o 8).toInt := by rw [kp_266 8 rfl]
  have t_273 : (I_262 o 9).toInt = (I0 o 9).toInt := by rw [kp_266 9 rfl]
  have g_274 : (0 : Int) ≤ (I_262 o 2).toInt ∧ (I_262 o 2).toInt ≤ 1600 := hR_264.at0 ra 2 (by decide)
  have t_275 : (I_262 o 67).toInt = (I0 o 67).toInt := by rw [kp_266 67 rfl]
  have k_276 : MFac I_262 o := hq0.fr (fr_265 _ (by first | omega | (dsimp only; omega))) (fr_265 _ (by first | omega | (dsimp only; omega))) (kp_266 67 rfl)
  have g_277 : (0 : Int) ≤ (I_262 o 34).toInt ∧ (I_262 o 34).toInt ≤ 1 := hR_264.at0 ra 34 (by decide)
  replace hg := gt_let (y := (I_262 o 34).toInt) rfl hg
  have l_278 : (1 : Int32).toInt = 1 := rfl
  have a_279 : (1 - (I_262 o 34)).toInt = (1 : Int32).toInt - (I_262 o 34).toInt := tSub (by omega) (by omega)
  replace hg := gt_let (y := ((1 - (I_262 o 34)) : Int32).toInt) (by omega) hg
  refine fun I_280 e_281 => ?_
  replace hg := gt_let (y := tI I_280) (tI_q e_281) hg
  have hR_282 : RI R I_280 := hR_264.up0 (k := 35) ra (by decide) (Or.inr hz45) e_281 (show (0 : Int) ≤ (1 - (I_262 o 34)).toInt by omega) (show (1 - (I_262 o 34)).toInt ≤ (1 : Int) by omega)
  have hf_283 : Fm (fun c => c = o ∨ c = o + 2 ∨ (o + 6 ≤ c ∧ c < o + 26)) I0 I_280 := hf_267.set (by first | rfl | omega | (dsimp only; omega)) e_281
  have t_284 : (I_280 o 3).toInt = (I_262 o 3).toInt := by rw [← e_281, q_u_k (by decide)]
  have t_285 : (I_280 o 4).toInt = (I_262 o 4).toInt := by rw [← e_281, q_u_k (by decide)]
  have t_286 : (I_280 o 6).toInt = (I_262 o 6).toInt := by rw [← e_281, q_u_k (by decide)]
  have t_287 : (I_280 o 7).toInt = (I_262 o 7).toInt := by rw [← e_281, q_u_k (by decide)]
  have t_288 : (I_280 o 8).toInt = (I_262 o 8).toInt := by rw [← e_281, q_u_k (by decide)]
  have t_289 : (I_280 o 9).toInt = (I_262 o 9).toInt := by rw [← e_281, q_u_k (by decide)]
  have t_290 : (I_280 o 2).toInt = (I_262 o 2).toInt := by rw [← e_281, q_u_k (by decide)]
  have t_291 : (I_280 o 67).toInt = (I_262 o 67).toInt := by rw [← e_281, q_u_k (by decide)]
  have t_292 : (I_280 o 34).toInt = (I_262 o 34).toInt := by rw [← e_281, q_u_k (by decide)]
  have t_293 : (I_280 o 35).toInt = (1 - (I_262 o 34)).toInt := by rw [← e_281, q_u_at]
  have k_294 : MFac I_280 o := k_276.fr (by rw [← e_281]; exact q_u_ne (by omega)) (by rw [← e_281]; exact q_u_ne (by omega)) (by rw [← e_281, q_u_k (by decide)])
  have g_295 : (0 : Int) ≤ (I_280 o 35).toInt ∧ (I_280 o 35).toInt ≤ 1 := hR_282.at0 ra 35 (by decide)
  replace hg := gt_let (y := (I_280 o 35).toInt) rfl hg
  refine ⟨tIn (by omega) (by omega), fun I_296 e_297 => ?_⟩
  replace hg := gt_let (y := tI I_296) (tI_q e_297) hg
  have hR_298 : RI R I_296 := hR_282.up ra 6 (by decide) (Or.inl rfl) e_297 (show (0 : Int) ≤ (0 : Int32).toInt by omega) (show (0 : Int32).toInt ≤ (24 : Int) by omega)
  have hf_299 : Fm (fun c => c = o ∨ c = o + 2 ∨ (o + 6 ≤ c ∧ c < o + 26)) I0 I_296 := hf_283.set (by first | rfl | omega | (dsimp only; omega)) e_297
  have t_300 : (I_296 o 3).toInt = (I_280 o 3).toInt := by rw [← e_297, q_u_ne (by omega)]
  have t_301 : (I_296 o 4).toInt = (I_280 o 4).toInt := by rw [← e_297, q_u_ne (by omega)]
  have t_302 : (I_296 o 6).toInt = (I_280 o 6).toInt := by rw [← e_297, q_u_ne (by omega)]
  have t_303 : (I_296 o 7).toInt = (I_280 o 7).toInt := by rw [← e_297, q_u_ne (by omega)]
  have t_304 : (I_296 o 8).toInt = (I_280 o 8).toInt := by rw [← e_297, q_u_ne (by omega)]
  have t_305 : (I_296 o 9).toInt = (I_280 o 9).toInt := by rw [← e_297, q_u_ne (by omega)]
  have t_306 : (I_296 o 2).toInt = (I_280 o 2).toInt := by rw [← e_297, q_u_ne (by omega)]
  have t_307 : (I_296 o 67).toInt = (I_280 o 67).toInt := by rw [← e_297, q_u_ne (by omega)]
  have t_308 : (I_296 o 34).toInt = (I_280 o 34).toInt := by rw [← e_297, q_u_ne (by omega)]
  have t_309 : (I_296 o 35).toInt = (I_280 o 35).toInt := by rw [← e_297, q_u_ne (by omega)]
  have k_310 : MFac I_296 o := k_294.fr (by rw [← e_297]; exact q_u_ne (by omega)) (by rw [← e_297]; exact q_u_ne (by omega)) (by rw [← e_297, q_u_ne (by omega)])
  have g_311 : (0 : Int) ≤ (I_296 o 35).toInt ∧ (I_296 o 35).toInt ≤ 1 := hR_298.at0 ra 35 (by decide)
  replace hg := gt_let (y := (I_296 o 35).toInt) rfl hg
  refine ⟨tIn (by omega) (by omega), fun I_312 e_313 => ?_⟩
  replace hg := gt_let (y := tI I_312) (tI_q e_313) hg
  have hR_314 : RI R I_312 := hR_298.up ra 7 (by decide) (Or.inl rfl) e_313 (show (0 : Int) ≤ (0 : Int32).toInt by omega) (show (0 : Int32).toInt ≤ (3 : Int) by omega)
  have hf_315 : Fm (fun c => c = o ∨ c = o + 2 ∨ (o + 6 ≤ c ∧ c < o + 26)) I0 I_312 := hf_299.set (by first | rfl | omega | (dsimp only; omega)) e_313
  have t_316 : (I_312 o 3).toInt = (I_296 o 3).toInt := by rw [← e_313, q_u_ne (by omega)]
  have t_317 : (I_312 o 4).toInt = (I_296 o 4).toInt := by rw [← e_313, q_u_ne (by omega)]
  have t_318 : (I_312 o 6).toInt = (I_296 o 6).toInt := by rw [← e_313, q_u_ne (by omega)]
  have t_319 : (I_312 o 7).toInt = (I_296 o 7).toInt := by rw [← e_313, q_u_ne (by omega)]
  have t_320 : (I_312 o 8).toInt = (I_296 o 8).toInt := by rw [← e_313, q_u_ne (by omega)]
  have t_321 : (I_312 o 9).toInt = (I_296 o 9).toInt := by rw [← e_313, q_u_ne (by omega)]
  have t_322 : (I_312 o 2).toInt = (I_296 o 2).toInt := by rw [← e_313, q_u_ne (by omega)]
  have t_323 : (I_312 o 67).toInt = (I_296 o 67).toInt := by rw [← e_313, q_u_ne (by omega)]
  have t_324 : (I_312 o 34).toInt = (I_296 o 34).toInt := by rw [← e_313, q_u_ne (by omega)]
  have t_325 : (I_312 o 35).toInt = (I_296 o 35).toInt := by rw [← e_313, q_u_ne (by omega)]
  have k_326 : MFac I_312 o := k_310.fr (by rw [← e_313]; exact q_u_ne (by omega)) (by rw [← e_313]; exact q_u_ne (by omega)) (by rw [← e_313, q_u_ne (by omega)])
  have g_327 : (0 : Int) ≤ (I_312 o 35).toInt ∧ (I_312 o 35).toInt ≤ 1 := hR_314.at0 ra 35 (by decide)
  replace hg := gt_let (y := (I_312 o 35).toInt) rfl hg
  refine ⟨tIn (by omega) (by omega), fun I_328 e_329 => ?_⟩
  replace hg := gt_let (y := tI I_328) (tI_q e_329) hg
  have hR_330 : RI R I_328 := hR_314.up ra 8 (by decide) (Or.inl rfl) e_329 (show (0 : Int) ≤ (0 : Int32).toInt by omega) (show (0 : Int32).toInt ≤ (3 : Int) by omega)
  have hf_331 : Fm (fun c => c = o ∨ c = o + 2 ∨ (o + 6 ≤ c ∧ c < o + 26)) I0 I_328 := hf_315.set (by first | rfl | omega | (dsimp only; omega)) e_329
  have t_332 : (I_328 o 3).toInt = (I_312 o 3).toInt := by rw [← e_329, q_u_ne (by omega)]
  have t_333 : (I_328 o 4).toInt = (I_312 o 4).toInt := by rw [← e_329, q_u_ne (by omega)]
  have t_334 : (I_328 o 6).toInt = (I_312 o 6).toInt := by rw [← e_329, q_u_ne (by omega)]
  have t_335 : (I_328 o 7).toInt = (I_312 o 7).toInt := by rw [← e_329, q_u_ne (by omega)]
  have t_336 : (I_328 o 8).toInt = (I_312 o 8).toInt := by rw [← e_329, q_u_ne (by omega)]
  have t_337 : (I_328 o 9).toInt = (I_312 o 9).toInt := by rw [← e_329, q_u_ne (by omega)]
  have t_338 : (I_328 o 2).toInt = (I_312 o 2).toInt := by rw [← e_329, q_u_ne (by omega)]
  have t_339 : (I_328 o 67).toInt = (I_312 o 67).toInt := by rw [← e_329, q_u_ne (by omega)]
  have t_340 : (I_328 o 34).toInt = (I_312 o 34).toInt := by rw [← e_329, q_u_ne (by omega)]
  have t_341 : (I_328 o 35).toInt = (I_312 o 35).toInt := by rw [← e_329, q_u_ne (by omega)]
  have k_342 : MFac I_328 o := k_326.fr (by rw [← e_329]; exact q_u_ne (by omega)) (by rw [← e_329]; exact q_u_ne (by omega)) (by rw [← e_329, q_u_ne (by omega)])
  have g_343 : (0 : Int) ≤ (I_328 o 35).toInt ∧ (I_328 o 35).toInt ≤ 1 := hR_330.at0 ra 35 (by decide)
  replace hg := gt_let (y := (I_328 o 35).toInt) rfl hg
  refine ⟨tIn (by omega) (by omega), fun I_344 e_345 => ?_⟩
  replace hg := gt_let (y := tI I_344) (tI_q e_345) hg
  have hR_346 : RI R I_344 := hR_330.up ra 9 (by decide) (Or.inl rfl) e_345 (show (0 : Int) ≤ (0 : Int32).toInt by omega) (show (0 : Int32).toInt ≤ (5 : Int) by omega)
  have hf_347 : Fm (fun c => c = o ∨ c = o + 2 ∨ (o + 6 ≤ c ∧ c < o + 26)) I0 I_344 := hf_331.set (by first | rfl | omega | (dsimp only; omega)) e_345
  have t_348 : (I_344 o 3).toInt = (I_328 o 3).toInt := by rw [← e_345, q_u_ne (by omega)]
  have t_349 : (I_344 o 4).toInt = (I_328 o 4).toInt := by rw [← e_345, q_u_ne (by omega)]
  have t_350 : (I_344 o 6).toInt = (I_328 o 6).toInt := by rw [← e_345, q_u_ne (by omega)]
  have t_351 : (I_344 o 7).toInt = (I_328 o 7).toInt := by rw [← e_345, q_u_ne (by omega)]
  have t_352 : (I_344 o 8).toInt = (I_328 o 8).toInt := by rw [← e_345, q_u_ne (by omega)]
  have t_353 : (I_344 o 9).toInt = (I_328 o 9).toInt := by rw [← e_345, q_u_ne (by omega)]
  have t_354 : (I_344 o 2).toInt = (I_328 o 2).toInt := by rw [← e_345, q_u_ne (by omega)]
  have t_355 : (I_344 o 67).toInt = (I_328 o 67).toInt := by rw [← e_345, q_u_ne (by omega)]
  have t_356 : (I_344 o 34).toInt = (I_328 o 34).toInt := by rw [← e_345, q_u_ne (by omega)]
  have t_357 : (I_344 o 35).toInt = (I_328 o 35).toInt := by rw [← e_345, q_u_ne (by omega)]
  have k_358 : MFac I_344 o := k_342.fr (by rw [← e_345]; exact q_u_ne (by omega)) (by rw [← e_345]; exact q_u_ne (by omega)) (by rw [← e_345, q_u_ne (by omega)])
  refine y_Model_nextg hok hw ra hz16 hz17 hz18 hz19 (by first | omega | (intro h; omega) | exact Or.inl rfl | exact Or.inr rfl) hR_346 (fun I_369 L_370 hR_371 fr_372 kp_373 u_360 u_361 u_362 u_363 u_364 u_365 u_366 u_367 gn_368 => ⟨I_369, L_370, rfl, rfl, ?_⟩)
  replace hg := gt_b3 gn_368 hg
  clear gn_368
  have hf_374 : Fm (fun c => c = o ∨ c = o + 2 ∨ (o + 6 ≤ c ∧ c < o + 26)) I0 I_369 := hf_347.call fr_372 (fun c hc => by first | exact hc | (dsimp only at hc ⊢; omega) | omega)
  have t_375 : (I_369 o 3).toInt = (I_344 o 3).toInt := by rw [kp_373 3 rfl]
  have t_376 : (I_369 o 4).toInt = (I_344 o 4).toInt := by rw [kp_373 4 rfl]
  have g_377 : (0 : Int) ≤ (I_369 o 6).toInt ∧ (I_369 o 6).toInt ≤ 1600 := hR_371.at0 ra 6 (by decide)
  have g_378 : (0 : Int) ≤ (I_369 o 7).toInt ∧ (I_369 o 7).toInt ≤ 1601 := hR_371.at0 ra 7 (by decide)
  have g_379 : (0 : Int) ≤ (I_369 o 8).toInt ∧ (I_369 o 8).toInt ≤ 6 := hR_371.at0 ra 8 (by decide)
  have t_380 : (I_369 o 2).toInt = (I_344 o 2).toInt := by rw [kp_373 2 rfl]
  have t_381 : (I_369 o 67).toInt = (I_344 o 67).toInt := by rw [kp_373 67 rfl]
  have t_382 : (I_369 o 34).toInt = (I_344 o 34).toInt := by rw [kp_373 34 rfl]
  have t_383 : (I_369 o 35).toInt = (I_344 o 35).toInt := by rw [kp_373 35 rfl]
  have k_384 : MFac I_369 o := k_358.fr (fr_372 _ (by first | omega | (dsimp only; omega))) (fr_372 _ (by first | omega | (dsimp only; omega))) (kp_373 67 rfl)
  exact yModel_land_59g (I0 := I0) (L0 := L0) hok hw ra hz12 hz13 hz14 hz15 hz16 hz17 hz18 hz19 hz21 hz44 hz45 hz77 hz145 hZ hR0 hq0 hp  20000 hR_371 hf_374 (by first | omega | (intro h; omega) | exact Or.inl rfl | exact Or.inr rfl) (by first | omega | (intro h; omega) | exact Or.inl rfl | exact Or.inr rfl) k_384 u_366 u_367 hg (by omega)
theorem y_Model_landg {D : va_G} {cA : FieldType → ClassId} {b : Nat} {E : State → Prop} {R : qRg} {o n : Nat} {sh : Nat → qC} {Rf : Nat → Nat → Option Nat} {I0 : Nat → Nat → Int32} {L0 : Nat → Nat → Int64} {post : Option Value → qS → Prop} (hok : q_ok (qGG D cA b E)) (hw : WfModel (qGG D cA b E) n sh Rf o) (ra : RAModel R o) (hz12 : R.2 12 = true) (hz13 : R.2 13 = true) (hz14 : R.2 14 = true) (hz15 : R.2 15 = true) (hz16 : R.2 16 = true) (hz17 : R.2 17 = true) (hz18 : R.2 18 = true) (hz19 : R.2 19 = true) (hz21 : R.2 21 = true) (hz44 : R.2 44 = true) (hz45 : R.2 45 = true) (hz77 : R.2 77 = true) (hz145 : R.2 145 = true) (hq0 : MFac I0 o) (hR : RI R I0) (hp : ∀ (r : Int32) (I' : Nat → Nat → Int32) (L' : Nat → Nat → Int64), RI R I' → Fm (fun c => c = o ∨ c = o + 2 ∨ (o + 6 ≤ c ∧ c < o + 26)) I0 I' → Kp wModel_land I0 I' o → ((I' o 2).toInt = 0) → (MFac I' o) → (gModel_land_0 o (tI I0) L0 = (r.toInt, tI I', L')) → post (some (.int r)) (n, sh, Rf, I', L')) : Ev (qGG D cA b E) mModel_land 7 (0, 0) 0 (lv_args 0 [.ref o]) [] (n, sh, Rf, I0, L0) post :=
  yc_Model_landg (R := fzR R I0 o wModel_land) hok hw (fzA ra hR _) (fzT hz12 rfl) (fzT hz13 rfl) (fzT hz14 rfl) (fzT hz15 rfl) (fzT hz16 rfl) (fzT hz17 rfl) (fzT hz18 rfl) (fzT hz19 rfl) (fzT hz21 rfl) (fzT hz44 rfl) (fzT hz45 rfl) (fzT hz77 rfl) (fzT hz145 rfl) fzZ (fzI hR) hq0 (fzI hR) (fun r I' L' h1 h2 u0 u1 ug => hp r I' L' (fzB hR h1) h2 (fzP h1) u0 u1 ug)
