/-! The mirror of REFORM's reading, reference: r3c. By program (rrun.py). -/
noncomputable def gModel_behind_108 (o : Nat) (J : gJ) (L : gL) (x1 : Int) (x2 : Int) : Int × gJ × gL := (if x1 ≤ 0 then (if x2 = 0 then gLet (J o 48) (fun (v_1 : Int) => gLet (v_1 - 1) (fun (v_2 : Int) => gLet (q_u J o 48 v_2) (fun (J_3 : gJ) => gLet (J_3 o 48) (fun (v_4 : Int) => gLet (J_3 (o + 32) (Int.toNat v_4)) (fun (v_5 : Int) => (if v_5 = 7 then gLet (J_3 o 47) (fun (v_6 : Int) => gLet (v_6 - 1) (fun (v_7 : Int) => gLet (q_u J_3 o 47 v_7) (fun (J_8 : gJ) => gLet (gModel_is_0 o J_8 L 41) (fun (r_9 : Int) => gB3 (gModel_must_0 o J_8 L r_9) (fun r_10 J_11 L_12 => (0, J_11, L_12)))))) else (0, J_3, L))))))) else gB3 (gModel_wrong_0 o J L) (fun r_13 J_14 L_15 => (1, J_14, L_15))) else (if x2 = 0 then (if x1 = 2 then gB3 (gModel_pile_0 o J L x1 38) (fun r_45 J_46 L_47 => gB3 (gModel_next_0 o J_46 L_47) (fun r_48 J_49 L_50 => (1, J_49, L_50))) else (if x1 = 1 then gB3 (gModel_pile_0 o J L x1 124) (fun r_39 J_40 L_41 => gB3 (gModel_next_0 o J_40 L_41) (fun r_42 J_43 L_44 => (1, J_43, L_44))) else gLet (J o 6) (fun (v_31 : Int) => gLet (gModel_sign_0 o J L v_31) (fun (r_32 : Int) => gB3 (gModel_pile_0 o J L x1 r_32) (fun r_33 J_34 L_35 => gB3 (gModel_next_0 o J_34 L_35) (fun r_36 J_37 L_38 => (1, J_37, L_38))))))) else (if x2 = 0 then gLet (J o 48) (fun (v_16 : Int) => gLet (v_16 - 1) (fun (v_17 : Int) => gLet (q_u J o 48 v_17) (fun (J_18 : gJ) => gLet (J_18 o 48) (fun (v_19 : Int) => gLet (J_18 (o + 32) (Int.toNat v_19)) (fun (v_20 : Int) => (if v_20 = 7 then gLet (J_18 o 47) (fun (v_21 : Int) => gLet (v_21 - 1) (fun (v_22 : Int) => gLet (q_u J_18 o 47 v_22) (fun (J_23 : gJ) => gLet (gModel_is_0 o J_23 L 41) (fun (r_24 : Int) => gB3 (gModel_must_0 o J_23 L r_24) (fun r_25 J_26 L_27 => (0, J_26, L_27)))))) else (0, J_18, L))))))) else gB3 (gModel_wrong_0 o J L) (fun r_28 J_29 L_30 => (1, J_29, L_30)))))
theorem eModel_behind_108 {o : Nat} {J : gJ} {L : gL} {x1 : Int} {x2 : Int} : gModel_behind_108 o J L x1 x2 = (if x1 ≤ 0 then (if x2 = 0 then gLet (J o 48) (fun (v_1 : Int) => gLet (v_1 - 1) (fun (v_2 : Int) => gLet (q_u J o 48 v_2) (fun (J_3 : gJ) => gLet (J_3 o 48) (fun (v_4 : Int) => gLet (J_3 (o + 32) (Int.toNat v_4)) (fun (v_5 : Int) => (if v_5 = 7 then gLet (J_3 o 47) (fun (v_6 : Int) => gLet (v_6 - 1) (fun (v_7 : Int) => gLet (q_u J_3 o 47 v_7) (fun (J_8 : gJ) => gLet (gModel_is_0 o J_8 L 41) (fun (r_9 : Int) => gB3 (gModel_must_0 o J_8 L r_9) (fun r_10 J_11 L_12 => (0, J_11, L_12)))))) else (0, J_3, L))))))) else gB3 (gModel_wrong_0 o J L) (fun r_13 J_14 L_15 => (1, J_14, L_15))) else (if x2 = 0 then (if x1 = 2 then gB3 (gModel_pile_0 o J L x1 38) (fun r_45 J_46 L_47 => gB3 (gModel_next_0 o J_46 L_47) (fun r_48 J_49 L_50 => (1, J_49, L_50))) else (if x1 = 1 then gB3 (gModel_pile_0 o J L x1 124) (fun r_39 J_40 L_41 => gB3 (gModel_next_0 o J_40 L_41) (fun r_42 J_43 L_44 => (1, J_43, L_44))) else gLet (J o 6) (fun (v_31 : Int) => gLet (gModel_sign_0 o J L v_31) (fun (r_32 : Int) => gB3 (gModel_pile_0 o J L x1 r_32) (fun r_33 J_34 L_35 => gB3 (gModel_next_0 o J_34 L_35) (fun r_36 J_37 L_38 => (1, J_37, L_38))))))) else (if x2 = 0 then gLet (J o 48) (fun (v_16 : Int) => gLet (v_16 - 1) (fun (v_17 : Int) => gLet (q_u J o 48 v_17) (fun (J_18 : gJ) => gLet (J_18 o 48) (fun (v_19 : Int) => gLet (J_18 (o + 32) (Int.toNat v_19)) (fun (v_20 : Int) => (if v_20 = 7 then gLet (J_18 o 47) (fun (v_21 : Int) => gLet (v_21 - 1) (fun (v_22 : Int) => gLet (q_u J_18 o 47 v_22) (fun (J_23 : gJ) => gLet (gModel_is_0 o J_23 L 41) (fun (r_24 : Int) => gB3 (gModel_must_0 o J_23 L r_24) (fun r_25 J_26 L_27 => (0, J_26, L_27)))))) else (0, J_18, L))))))) else gB3 (gModel_wrong_0 o J L) (fun r_28 J_29 L_30 => (1, J_29, L_30))))) := rfl
noncomputable def gModel_behind_91 (K23 : gJ → gL → Int → Int → (Int × gJ × gL)) (o : Nat) (J : gJ) (L : gL) (x1 : Int) (x2 : Int) : Int × gJ × gL := gLet (J o 48) (fun (v_1 : Int) => gLet (J (o + 33) (Int.toNat v_1)) (fun (v_2 : Int) => gB3 (gModel_step_0 o J L v_2 0) (fun r_3 J_4 L_5 => (K23 J_4 L_5 x1 x2))))
theorem eModel_behind_91 {K23 : gJ → gL → Int → Int → (Int × gJ × gL)} {o : Nat} {J : gJ} {L : gL} {x1 : Int} {x2 : Int} : gModel_behind_91 K23 o J L x1 x2 = gLet (J o 48) (fun (v_1 : Int) => gLet (J (o + 33) (Int.toNat v_1)) (fun (v_2 : Int) => gB3 (gModel_step_0 o J L v_2 0) (fun r_3 J_4 L_5 => (K23 J_4 L_5 x1 x2)))) := rfl
noncomputable def gModel_behind_23 (k : Nat) (o : Nat) (J : gJ) (L : gL) (x1 : Int) (x2 : Int) : Int × gJ × gL := match k with
  | 0 => default
  | k + 1 => gLet (J o 48) (fun (v_1 : Int) => gLet (v_1 - 1) (fun (v_2 : Int) => gLet (J (o + 32) (Int.toNat v_2)) (fun (v_3 : Int) => (if 6 < v_3 then (gModel_behind_108 o J L x1 x2) else gLet (J o 48) (fun (v_4 : Int) => gLet (v_4 - 1) (fun (v_5 : Int) => gLet (J (o + 32) (Int.toNat v_5)) (fun (v_6 : Int) => (if v_6 < x1 then (gModel_behind_108 o J L x1 x2) else (if x2 = 0 then gLet (J o 48) (fun (v_7 : Int) => gLet (v_7 - 1) (fun (v_8 : Int) => gLet (q_u J o 48 v_8) (fun (J_9 : gJ) => gLet (J_9 o 48) (fun (v_10 : Int) => gLet (J_9 (o + 32) (Int.toNat v_10)) (fun (v_11 : Int) => (if v_11 = 3 then gLet (J_9 o 47) (fun (v_12 : Int) => gLet (v_12 - 1) (fun (v_13 : Int) => gLet (q_u J_9 o 47 v_13) (fun (J_14 : gJ) => (gModel_behind_91 (gModel_behind_23 k o) o J_14 L x1 x2)))) else (gModel_behind_91 (gModel_behind_23 k o) o J_9 L x1 x2))))))) else (gModel_behind_108 o J L x1 x2))))))))))
theorem eModel_behind_23 {k : Nat} {o : Nat} {J : gJ} {L : gL} {x1 : Int} {x2 : Int} : gModel_behind_23 (k + 1) o J L x1 x2 = gLet (J o 48) (fun (v_1 : Int) => gLet (v_1 - 1) (fun (v_2 : Int) => gLet (J (o + 32) (Int.toNat v_2)) (fun (v_3 : Int) => (if 6 < v_3 then (gModel_behind_108 o J L x1 x2) else gLet (J o 48) (fun (v_4 : Int) => gLet (v_4 - 1) (fun (v_5 : Int) => gLet (J (o + 32) (Int.toNat v_5)) (fun (v_6 : Int) => (if v_6 < x1 then (gModel_behind_108 o J L x1 x2) else (if x2 = 0 then gLet (J o 48) (fun (v_7 : Int) => gLet (v_7 - 1) (fun (v_8 : Int) => gLet (q_u J o 48 v_8) (fun (J_9 : gJ) => gLet (J_9 o 48) (fun (v_10 : Int) => gLet (J_9 (o + 32) (Int.toNat v_10)) (fun (v_11 : Int) => (if v_11 = 3 then gLet (J_9 o 47) (fun (v_12 : Int) => gLet (v_12 - 1) (fun (v_13 : Int) => gLet (q_u J_9 o 47 v_13) (fun (J_14 : gJ) => (gModel_behind_91 (gModel_behind_23 k o) o J_14 L x1 x2)))) else (gModel_behind_91 (gModel_behind_23 k o) o J_9 L x1 x2))))))) else (gModel_behind_108 o J L x1 x2)))))))))) := rfl
noncomputable def gModel_behind_22 (o : Nat) (J : gJ) (L : gL) (x1 : Int) (z0 : Int) : Int × gJ × gL := (gModel_behind_23 20000 o J L x1 z0)
theorem eModel_behind_22 {o : Nat} {J : gJ} {L : gL} {x1 : Int} {z0 : Int} : gModel_behind_22 o J L x1 z0 = (gModel_behind_23 20000 o J L x1 z0) := rfl
noncomputable def gModel_behind_21 (o : Nat) (J : gJ) (L : gL) (x1 : Int) : Int × gJ × gL := (gModel_behind_22 o J L x1 0)
theorem eModel_behind_21 {o : Nat} {J : gJ} {L : gL} {x1 : Int} : gModel_behind_21 o J L x1 = (gModel_behind_22 o J L x1 0) := rfl
noncomputable def gModel_behind_0 (o : Nat) (J : gJ) (L : gL) : Int × gJ × gL := gLet (gModel_rankHere_0 o J L) (fun (r_1 : Int) => (if r_1 = 4 then gLet (gModel_isCompared_0 o J L) (fun (r_2 : Int) => (if r_2 = 0 then (gModel_behind_21 o J L r_1) else (gModel_behind_22 o J L r_1 1))) else (gModel_behind_21 o J L r_1)))
theorem eModel_behind_0 {o : Nat} {J : gJ} {L : gL} : gModel_behind_0 o J L  = gLet (gModel_rankHere_0 o J L) (fun (r_1 : Int) => (if r_1 = 4 then gLet (gModel_isCompared_0 o J L) (fun (r_2 : Int) => (if r_2 = 0 then (gModel_behind_21 o J L r_1) else (gModel_behind_22 o J L r_1 1))) else (gModel_behind_21 o J L r_1))) := rfl
set_option maxHeartbeats 4000000 in
set_option maxRecDepth 20000 in
theorem yModel_behind_23g {D : va_G} {cA : FieldType → ClassId} {b : Nat} {E : State → Prop} {R : qRg} {o n : Nat} {sh : Nat → qC} {Rf : Nat → Nat → Option Nat} {I0 : Nat → Nat → Int32} {L0 : Nat → Nat → Int64} {post : Option Value → qS → Prop} {f0 : Nat} (hok : q_ok (qGG D cA b E)) (hw : WfModel (qGG D cA b E) n sh Rf o) (ra : RAModel R o) (hz14 : R.2 14 = true) (hz15 : R.2 15 = true) (hz16 : R.2 16 = true) (hz17 : R.2 17 = true) (hz18 : R.2 18 = true) (hz19 : R.2 19 = true) (hz55 : R.2 55 = true) (hz57 : R.2 57 = true) (hz58 : R.2 58 = true) (hZ : Fz R I0 o wModel_behind) (hR0 : RI R I0) (hq0 : (I0 o 7).toInt ≤ (I0 o 3).toInt) (hq1 : (I0 o 4).toInt = 0) (hq2 : 1 ≤ (I0 o 48).toInt) (hq3 : EX 0 0 0 f0 0 I0 o) (hq4 : MTd I0 o) (hq5 : MPo I0 o) (hq6 : MTk I0 o) (hp : ∀ (r : Int32) (I' : Nat → Nat → Int32) (L' : Nat → Nat → Int64), RI R I' → Fm (fun c => c = o ∨ (o + 30 ≤ c ∧ c < o + 34)) I0 I' → (Bz r) → ((I' o 7).toInt ≤ (I' o 3).toInt) → ((I0 o 7).toInt ≤ (I' o 7).toInt) → ((I0 o 4).toInt ≤ (I' o 4).toInt) → (7 * (I0 o 7).toInt - (I0 o 8).toInt + (I0 o 4).toInt ≤ 7 * (I' o 7).toInt - (I' o 8).toInt + (I' o 4).toInt) → (81 * (7 * (I0 o 7).toInt - (I0 o 8).toInt + (I0 o 4).toInt) - (I0 o 48).toInt < 81 * (7 * (I' o 7).toInt - (I' o 8).toInt + (I' o 4).toInt) - (I' o 48).toInt) → (Im ((I' o 4).toInt = 0) (EX 0 0 0 f0 r.toInt I' o)) → (MTd I' o) → (MPo I' o) → (MTk I' o) → (gModel_behind_0 o (tI I0) L0 = (r.toInt, tI I', L')) → post (some (.int r)) (n, sh, Rf, I', L')) : ∀ (k : Nat) {x1 : Int32} {x2 : Int32} {I : Nat → Nat → Int32} {L : Nat → Nat → Int64}, RI R I → Fm (fun c => c = o ∨ (o + 30 ≤ c ∧ c < o + 34)) I0 I → ((0 : Int) ≤ x1.toInt ∧ x1.toInt ≤ 6) → ((0 : Int) ≤ x2.toInt ∧ x2.toInt ≤ 1) → ((I o 4).toInt = 0) → ((I o 6).toInt = (I0 o 6).toInt) → ((I o 7).toInt = (I0 o 7).toInt) → ((I o 8).toInt = (I0 o 8).toInt) → (1 ≤ (I o 48).toInt) → ((I o 48).toInt ≤ (I0 o 48).toInt) → (x1.toInt ≠ 3) → (Im (x1.toInt ≠ 0) ((I0 o 8).toInt ≠ 0)) → (Im (4 ≤ x1.toInt) (Bn (sgF (I0 (o + 2)) (I0 o 3) (I0 o 6)).toInt)) → (EX 0 0 0 f0 0 I o) → (MTd I o) → (MPo I o) → (MTk I o) → (gModel_behind_23 k o (tI I) L (x1).toInt (x2).toInt = gModel_behind_0 o (tI I0) L0) → (I o 48).toInt.toNat < k → Ev (qGG D cA b E) mModel_behind 4 (0, 0) 23 [(0, .ref o), (1, .int x1), (2, .int x2)] [] (n, sh, Rf, I, L) post := by
  intro k
  induction k with
  | zero =>
    intro x1 x2 I L hR hf hi0 hi1 hi2 hi3 hi4 hi5 hi6 hi7 hi8 hi9 hi10 hi11 hi12 hi13 hi14 hg hm
    exact absurd hm (Nat.not_lt_zero _)
  | succ k ih =>
    intro x1 x2 I L hR hf hi0 hi1 hi2 hi3 hi4 hi5 hi6 hi7 hi8 hi9 hi10 hi11 hi12 hi13 hi14 hg hm
    have g_1 : (0 : Int) ≤ (I o 3).toInt ∧ (I o 3).toInt ≤ 1600 := hR.at0 ra 3 (by decide)
    have z_2 : (I o 3).toInt = (I0 o 3).toInt := by rw [hZ I 3 rfl hR]
    have g_3 : (0 : Int) ≤ (I o 4).toInt ∧ (I o 4).toInt ≤ 5 := hR.at0 ra 4 (by decide)
    have g_4 : (0 : Int) ≤ (I0 o 4).toInt ∧ (I0 o 4).toInt ≤ 5 := hR0.at0 ra 4 (by decide)
    have g_5 : (0 : Int) ≤ (I o 6).toInt ∧ (I o 6).toInt ≤ 1600 := hR.at0 ra 6 (by decide)
    have g_6 : (0 : Int) ≤ (I0 o 6).toInt ∧ (I0 o 6).toInt ≤ 1600 := hR0.at0 ra 6 (by decide)
    have g_7 : (0 : Int) ≤ (I o 7).toInt ∧ (I o 7).toInt ≤ 1601 := hR.at0 ra 7 (by decide)
    have g_8 : (0 : Int) ≤ (I0 o 7).toInt ∧ (I0 o 7).toInt ≤ 1601 := hR0.at0 ra 7 (by decide)
    have g_9 : (0 : Int) ≤ (I o 8).toInt ∧ (I o 8).toInt ≤ 6 := hR.at0 ra 8 (by decide)
    have g_10 : (0 : Int) ≤ (I0 o 8).toInt ∧ (I0 o 8).toInt ≤ 6 := hR0.at0 ra 8 (by decide)
    have g_11 : (0 : Int) ≤ (I o 44).toInt ∧ (I o 44).toInt ≤ 4 := hR.at0 ra 44 (by decide)
    have z_12 : (I o 44).toInt = (I0 o 44).toInt := by rw [hZ I 44 rfl hR]
    have g_13 : (0 : Int) ≤ (I o 45).toInt ∧ (I o 45).toInt ≤ 700 := hR.at0 ra 45 (by decide)
    have g_14 : (0 : Int) ≤ (I0 o 45).toInt ∧ (I0 o 45).toInt ≤ 700 := hR0.at0 ra 45 (by decide)
    have g_15 : (0 : Int) ≤ (I o 47).toInt ∧ (I o 47).toInt ≤ 7 := hR.at0 ra 47 (by decide)
    have g_16 : (0 : Int) ≤ (I0 o 47).toInt ∧ (I0 o 47).toInt ≤ 7 := hR0.at0 ra 47 (by decide)
    have g_17 : (0 : Int) ≤ (I o 48).toInt ∧ (I o 48).toInt ≤ 80 := hR.at0 ra 48 (by decide)
    have g_18 : (0 : Int) ≤ (I0 o 48).toInt ∧ (I0 o 48).toInt ≤ 80 := hR0.at0 ra 48 (by decide)
    refine sModel_behind_23 o n sh Rf I L post x1 x2 hok hw ?_
    unfold fModel_behind_23
    replace hg := (eModel_behind_23).symm.trans hg
    have g_19 : (0 : Int) ≤ (I o 48).toInt ∧ (I o 48).toInt ≤ 80 := hR.at0 ra 48 (by decide)
    replace hg := gt_let (y := (I o 48).toInt) rfl hg
    have l_20 : (1 : Int32).toInt = 1 := rfl
    have a_21 : ((I o 48) - 1).toInt = (I o 48).toInt - (1 : Int32).toInt := tSub (by omega) (by omega)
    replace hg := gt_let (y := (((I o 48) - 1) : Int32).toInt) (by omega) hg
    refine ⟨tIn (by omega) (by omega), ?_⟩
    have g_22 : (0 : Int) ≤ (I (o + 32) (((I o 48) - 1) : Int32).toNatClampNeg).toInt ∧ (I (o + 32) (((I o 48) - 1) : Int32).toNatClampNeg).toInt ≤ 8 := hR.at ra 32 _ (by decide)
    replace hg := gt_let (y := (I (o + 32) (((I o 48) - 1) : Int32).toNatClampNeg).toInt) rfl hg
    have l_23 : (6 : Int32).toInt = 6 := rfl
    refine ⟨fun c_24 => ?_, fun c_24 => ?_⟩
    · have d_25 := iLt c_24
      replace hg := gt_pos (by first | exact d_25 | omega) hg
      unfold fModel_behind_108
      replace hg := (eModel_behind_108).symm.trans hg
      have lw := hi11.low (by omega)
      have l_26 : (0 : Int32).toInt = 0 := rfl
      refine ⟨fun c_27 => ?_, fun c_27 => ?_⟩
      · have d_28 := iLe c_27
        replace hg := gt_pos (by first | exact d_28 | omega) hg
        refine ⟨fun c_29 => ?_, fun c_29 => ?_⟩
        · have d_30 := iEq c_29
          replace hg := gt_pos (by first | exact d_30 | omega) hg
          have g_31 : (0 : Int) ≤ (I o 48).toInt ∧ (I o 48).toInt ≤ 80 := hR.at0 ra 48 (by decide)
          replace hg := gt_let (y := (I o 48).toInt) rfl hg
          have a_32 : ((I o 48) - 1).toInt = (I o 48).toInt - (1 : Int32).toInt := tSub (by omega) (by omega)
          replace hg := gt_let (y := (((I o 48) - 1) : Int32).toInt) (by omega) hg
          refine fun I_33 e_34 => ?_
          replace hg := gt_let (y := tI I_33) (tI_q e_34) hg
          have hR_35 : RI R I_33 := hR.up0 (k := 48) ra (by decide) (Or.inr hz58) e_34 (show (0 : Int) ≤ ((I o 48) - 1).toInt by omega) (show ((I o 48) - 1).toInt ≤ (80 : Int) by omega)
          have hf_36 : Fm (fun c => c = o ∨ (o + 30 ≤ c ∧ c < o + 34)) I0 I_33 := hf.set (by first | rfl | omega | (dsimp only; omega)) e_34
          have t_37 : (I_33 o 3).toInt = (I o 3).toInt := by rw [← e_34, q_u_k (by decide)]
          have t_38 : (I_33 o 4).toInt = (I o 4).toInt := by rw [← e_34, q_u_k (by decide)]
          have t_39 : (I_33 o 6).toInt = (I o 6).toInt := by rw [← e_34, q_u_k (by decide)]
          have t_40 : (I_33 o 7).toInt = (I o 7).toInt := by rw [← e_34, q_u_k (by decide)]
          have t_41 : (I_33 o 8).toInt = (I o 8).toInt := by rw [← e_34, q_u_k (by decide)]
          have t_42 : (I_33 o 9).toInt = (I o 9).toInt := by rw [← e_34, q_u_k (by decide)]
          have t_43 : (I_33 o 44).toInt = (I o 44).toInt := by rw [← e_34, q_u_k (by decide)]
          have t_44 : (I_33 o 45).toInt = (I o 45).toInt := by rw [← e_34, q_u_k (by decide)]
          have t_45 : (I_33 o 47).toInt = (I o 47).toInt := by rw [← e_34, q_u_k (by decide)]
          have t_46 : (I_33 o 48).toInt = ((I o 48) - 1).toInt := by rw [← e_34, q_u_at]
          have k_48 : MTd I_33 o := hi12.fr (by rw [← e_34]; exact q_u_ne (by omega)) (by rw [← e_34]; exact q_u_ne (by omega)) (by rw [← e_34]; exact q_u_ne (by omega))
          have k_49 : MPo I_33 o := hi13.fr (by rw [← e_34, q_u_k (by decide)]) (by rw [← e_34, q_u_k (by decide)])
          have k_50 : MTk I_33 o := hi14.fr (by rw [← e_34, q_u_k (by decide)]) (by rw [← e_34, q_u_k (by decide)]) (by rw [← e_34, q_u_k (by decide)])
          have wq : I_33 (o + 32) (I_33 o 48).toNatClampNeg = I (o + 32) ((I o 48) - 1).toNatClampNeg := by rw [← e_34, q_u_ne (by omega), q_u_at]
          have wi := iEq wq
          have k_51 : EX 1 0 0 f0 0 I_33 o := by exact EX.put48 hi11 e_34 (by omega)
          have of := (k_51.off (by omega)).2
          have pb := pB_r (I_33 (o + 32) (I_33 o 48).toNatClampNeg).toInt
          have po := pO_r (I_33 (o + 32) (I_33 o 48).toNatClampNeg).toInt
          have g_52 : (0 : Int) ≤ (I_33 o 48).toInt ∧ (I_33 o 48).toInt ≤ 80 := hR_35.at0 ra 48 (by decide)
          replace hg := gt_let (y := (I_33 o 48).toInt) rfl hg
          refine ⟨tIn (by omega) (by omega), ?_⟩
          have g_53 : (0 : Int) ≤ (I_33 (o + 32) ((I_33 o 48) : Int32).toNatClampNeg).toInt ∧ (I_33 (o + 32) ((I_33 o 48) : Int32).toNatClampNeg).toInt ≤ 8 := hR_35.at ra 32 _ (by decide)
          replace hg := gt_let (y := (I_33 (o + 32) ((I_33 o 48) : Int32).toNatClampNeg).toInt) rfl hg
          have l_54 : (7 : Int32).toInt = 7 := rfl
          refine ⟨fun c_55 => ?_, fun c_55 => ?_⟩
          · have d_56 := iNe c_55
            replace hg := gt_neg (by first | exact d_56 | omega) hg
            have tk := k_50.1
            have pb := pB_r (I_33 (o + 32) (I_33 o 48).toNatClampNeg).toInt
            have po := pO_r (I_33 (o + 32) (I_33 o 48).toNatClampNeg).toInt
            have k_57 : EX 0 0 0 f0 0 I_33 o := by exact EX.drop k_51 (by omega) (by omega) (by omega)
            exact (hp _ _ _ hR_35 hf_36 (Or.inl rfl) (by first | omega | (intro h; omega) | exact Or.inl rfl | exact Or.inr rfl) (by first | omega | (intro h; omega) | exact Or.inl rfl | exact Or.inr rfl) (by first | omega | (intro h; omega) | exact Or.inl rfl | exact Or.inr rfl) (by first | omega | (intro h; omega) | exact Or.inl rfl | exact Or.inr rfl) (by first | omega | (intro h; omega) | exact Or.inl rfl | exact Or.inr rfl) (by clear hg; first | (intro h; exfalso; omega) | exact fun _ => (False.elim (by omega)) | exact fun _ => k_57) k_48 k_49 k_50 hg.symm)
          · have d_58 := iEq c_55
            replace hg := gt_pos (by first | exact d_58 | omega) hg
            have pb := pB_r (I_33 (o + 32) (I_33 o 48).toNatClampNeg).toInt
            have g_59 : (0 : Int) ≤ (I_33 o 47).toInt ∧ (I_33 o 47).toInt ≤ 7 := hR_35.at0 ra 47 (by decide)
            replace hg := gt_let (y := (I_33 o 47).toInt) rfl hg
            have a_60 : ((I_33 o 47) - 1).toInt = (I_33 o 47).toInt - (1 : Int32).toInt := tSub (by omega) (by omega)
            replace hg := gt_let (y := (((I_33 o 47) - 1) : Int32).toInt) (by omega) hg
            refine fun I_61 e_62 => ?_
            replace hg := gt_let (y := tI I_61) (tI_q e_62) hg
            have hR_63 : RI R I_61 := hR_35.up0 (k := 47) ra (by decide) (Or.inr hz57) e_62 (show (0 : Int) ≤ ((I_33 o 47) - 1).toInt by omega) (show ((I_33 o 47) - 1).toInt ≤ (7 : Int) by omega)
            have hf_64 : Fm (fun c => c = o ∨ (o + 30 ≤ c ∧ c < o + 34)) I0 I_61 := hf_36.set (by first | rfl | omega | (dsimp only; omega)) e_62
            have t_65 : (I_61 o 3).toInt = (I_33 o 3).toInt := by rw [← e_62, q_u_k (by decide)]
            have t_66 : (I_61 o 4).toInt = (I_33 o 4).toInt := by rw [← e_62, q_u_k (by decide)]
            have t_67 : (I_61 o 6).toInt = (I_33 o 6).toInt := by rw [← e_62, q_u_k (by decide)]
            have t_68 : (I_61 o 7).toInt = (I_33 o 7).toInt := by rw [← e_62, q_u_k (by decide)]
            have t_69 : (I_61 o 8).toInt = (I_33 o 8).toInt := by rw [← e_62, q_u_k (by decide)]
            have t_70 : (I_61 o 9).toInt = (I_33 o 9).toInt := by rw [← e_62, q_u_k (by decide)]
            have t_71 : (I_61 o 44).toInt = (I_33 o 44).toInt := by rw [← e_62, q_u_k (by decide)]
            have t_72 : (I_61 o 45).toInt = (I_33 o 45).toInt := by rw [← e_62, q_u_k (by decide)]
            have t_73 : (I_61 o 47).toInt = ((I_33 o 47) - 1).toInt := by rw [← e_62, q_u_at]
            have t_74 : (I_61 o 48).toInt = (I_33 o 48).toInt := by rw [← e_62, q_u_k (by decide)]
            have k_75 : MTd I_61 o := k_48.fr (by rw [← e_62]; exact q_u_ne (by omega)) (by rw [← e_62]; exact q_u_ne (by omega)) (by rw [← e_62]; exact q_u_ne (by omega))
            have k_76 : MPo I_61 o := k_49.fr (by rw [← e_62, q_u_k (by decide)]) (by rw [← e_62, q_u_k (by decide)])
            have k_77 : MTk I_61 o := k_50.fr (by rw [← e_62, q_u_k (by decide)]) (by rw [← e_62, q_u_k (by decide)]) (by rw [← e_62, q_u_k (by decide)])
            have wz : I_61 (o + 32) (I_61 o 48).toNatClampNeg = I_33 (o + 32) (I_33 o 48).toNatClampNeg := by rw [← e_62, q_u_ne (by omega), q_u_k (by decide)]
            have wy := iEq wz
            have pb := pB_r (I_61 (o + 32) (I_61 o 48).toNatClampNeg).toInt
            have po := pO_r (I_61 (o + 32) (I_61 o 48).toNatClampNeg).toInt
            have k_79 : EX 1 1 0 f0 0 I_61 o := by exact EX.put47 k_51 e_62 (by omega)
            have k_80 : EX 0 0 0 f0 0 I_61 o := by exact EX.drop k_79 (by omega) (by omega) (by omega)
            have l_81 : (41 : Int32).toInt = 41 := rfl
            refine y_Model_isg hok hw ra hR_63 (fun r_82 u_83 u_84 u_85 gn_86 => ⟨r_82, I_61, L, rfl, rfl, ?_⟩)
            replace hg := gt_let gn_86 hg
            clear gn_86
            have b_87 : 0 ≤ r_82.toInt ∧ r_82.toInt ≤ 1 := u_83.rg
            refine y_Model_mustg hok hw ra hz14 hz15 hz16 hz17 hz18 hz19 (by first | omega | (intro h; omega) | exact Or.inl rfl | exact Or.inr rfl) k_76 k_77 hR_63 (fun I_99 L_100 hR_101 fr_102 kp_103 u_89 u_90 u_91 u_92 u_93 u_94 u_95 u_96 u_97 gn_98 => ⟨I_99, L_100, rfl, rfl, ?_⟩)
            replace hg := gt_b3 gn_98 hg
            clear gn_98
            have hf_104 : Fm (fun c => c = o ∨ (o + 30 ≤ c ∧ c < o + 34)) I0 I_99 := hf_64.call fr_102 (fun c hc => by first | exact hc | (dsimp only at hc ⊢; omega) | omega)
            have t_105 : (I_99 o 3).toInt = (I_61 o 3).toInt := by rw [kp_103 3 rfl]
            have g_106 : (0 : Int) ≤ (I_99 o 4).toInt ∧ (I_99 o 4).toInt ≤ 5 := hR_101.at0 ra 4 (by decide)
            have g_107 : (0 : Int) ≤ (I_99 o 6).toInt ∧ (I_99 o 6).toInt ≤ 1600 := hR_101.at0 ra 6 (by decide)
            have g_108 : (0 : Int) ≤ (I_99 o 7).toInt ∧ (I_99 o 7).toInt ≤ 1601 := hR_101.at0 ra 7 (by decide)
            have g_109 : (0 : Int) ≤ (I_99 o 8).toInt ∧ (I_99 o 8).toInt ≤ 6 := hR_101.at0 ra 8 (by decide)
            have t_110 : (I_99 o 44).toInt = (I_61 o 44).toInt := by rw [kp_103 44 rfl]
            have t_111 : (I_99 o 45).toInt = (I_61 o 45).toInt := by rw [kp_103 45 rfl]
            have t_112 : (I_99 o 47).toInt = (I_61 o 47).toInt := by rw [kp_103 47 rfl]
            have t_113 : (I_99 o 48).toInt = (I_61 o 48).toInt := by rw [kp_103 48 rfl]
            have k_114 : MTd I_99 o := k_75.fr (fr_102 _ (by first | omega | (dsimp only; omega))) (fr_102 _ (by first | omega | (dsimp only; omega))) (fr_102 _ (by first | omega | (dsimp only; omega)))
            have tk := u_97.1
            have pb := pB_r (I_99 (o + 32) (I_99 o 48).toNatClampNeg).toInt
            have po := pO_r (I_99 (o + 32) (I_99 o 48).toNatClampNeg).toInt
            have k_115 : EX 0 0 0 f0 0 I_99 o := by exact EX.nx k_80 (fr_102 _ (by first | omega | (dsimp only; omega))) (fr_102 _ (by first | omega | (dsimp only; omega))) (fr_102 _ (by first | omega | (dsimp only; omega))) (fr_102 _ (by first | omega | (dsimp only; omega))) (fr_102 _ (by first | omega | (dsimp only; omega))) (kp_103 3 rfl) (kp_103 44 rfl) (kp_103 45 rfl) (kp_103 47 rfl) (kp_103 48 rfl) (by omega) (by omega)
            exact (hp _ _ _ hR_101 hf_104 (Or.inl rfl) (by first | omega | (intro h; omega) | exact Or.inl rfl | exact Or.inr rfl) (by first | omega | (intro h; omega) | exact Or.inl rfl | exact Or.inr rfl) (by first | omega | (intro h; omega) | exact Or.inl rfl | exact Or.inr rfl) (by first | omega | (intro h; omega) | exact Or.inl rfl | exact Or.inr rfl) (by first | omega | (intro h; omega) | exact Or.inl rfl | exact Or.inr rfl) (by clear hg; first | (intro h; exfalso; omega) | exact fun _ => (False.elim (by omega)) | exact fun _ => k_115) k_114 u_96 u_97 hg.symm)
        · have d_116 := iNe c_29
          replace hg := gt_neg (by first | exact d_116 | omega) hg
          refine y_Model_wrongg hok hw ra hz14 hz15 hR (fun I_121 L_122 hR_123 fr_124 kp_125 u_118 u_119 gn_120 => ⟨I_121, L_122, rfl, rfl, ?_⟩)
          replace hg := gt_b3 gn_120 hg
          clear gn_120
          have hf_126 : Fm (fun c => c = o ∨ (o + 30 ≤ c ∧ c < o + 34)) I0 I_121 := hf.call fr_124 (fun c hc => by first | exact hc | (dsimp only at hc ⊢; omega) | omega)
          have t_127 : (I_121 o 3).toInt = (I o 3).toInt := by rw [kp_125 3 rfl]
          have g_128 : (0 : Int) ≤ (I_121 o 4).toInt ∧ (I_121 o 4).toInt ≤ 5 := hR_123.at0 ra 4 (by decide)
          have t_129 : (I_121 o 6).toInt = (I o 6).toInt := by rw [kp_125 6 rfl]
          have t_130 : (I_121 o 7).toInt = (I o 7).toInt := by rw [kp_125 7 rfl]
          have t_131 : (I_121 o 8).toInt = (I o 8).toInt := by rw [kp_125 8 rfl]
          have t_132 : (I_121 o 9).toInt = (I o 9).toInt := by rw [kp_125 9 rfl]
          have t_133 : (I_121 o 44).toInt = (I o 44).toInt := by rw [kp_125 44 rfl]
          have t_134 : (I_121 o 45).toInt = (I o 45).toInt := by rw [kp_125 45 rfl]
          have t_135 : (I_121 o 47).toInt = (I o 47).toInt := by rw [kp_125 47 rfl]
          have t_136 : (I_121 o 48).toInt = (I o 48).toInt := by rw [kp_125 48 rfl]
          have k_137 : EX 0 0 0 f0 0 I_121 o := hi11.fr (fr_124 _ (by first | omega | (dsimp only; omega))) (fr_124 _ (by first | omega | (dsimp only; omega))) (fr_124 _ (by first | omega | (dsimp only; omega))) (fr_124 _ (by first | omega | (dsimp only; omega))) (fr_124 _ (by first | omega | (dsimp only; omega))) (kp_125 3 rfl) (kp_125 6 rfl) (kp_125 44 rfl) (kp_125 45 rfl) (kp_125 47 rfl) (kp_125 48 rfl)
          have k_138 : MTd I_121 o := hi12.fr (fr_124 _ (by first | omega | (dsimp only; omega))) (fr_124 _ (by first | omega | (dsimp only; omega))) (fr_124 _ (by first | omega | (dsimp only; omega)))
          have k_139 : MPo I_121 o := hi13.fr (kp_125 8 rfl) (kp_125 9 rfl)
          have k_140 : MTk I_121 o := hi14.fr (kp_125 6 rfl) (kp_125 7 rfl) (kp_125 8 rfl)
          exact (hp _ _ _ hR_123 hf_126 (Or.inr rfl) (by first | omega | (intro h; omega) | exact Or.inl rfl | exact Or.inr rfl) (by first | omega | (intro h; omega) | exact Or.inl rfl | exact Or.inr rfl) (by first | omega | (intro h; omega) | exact Or.inl rfl | exact Or.inr rfl) (by first | omega | (intro h; omega) | exact Or.inl rfl | exact Or.inr rfl) (by first | omega | (intro h; omega) | exact Or.inl rfl | exact Or.inr rfl) (by clear hg; first | (intro h; exfalso; omega) | exact fun _ => (False.elim (by omega)) | exact fun _ => k_137) k_138 k_139 k_140 hg.symm)
      · have d_141 := iNle c_27
        replace hg := gt_neg (by first | exact d_141 | omega) hg
        refine ⟨fun c_142 => ?_, fun c_142 => ?_⟩
        · have d_143 := iNe c_142
          replace hg := gt_neg (by first | exact d_143 | omega) hg
          refine ⟨fun c_144 => ?_, fun c_144 => ?_⟩
          · have d_145 := iEq c_144
            exfalso; omega
          · have d_146 := iNe c_144
            replace hg := gt_neg (by first | exact d_146 | omega) hg
            refine y_Model_wrongg hok hw ra hz14 hz15 hR (fun I_151 L_152 hR_153 fr_154 kp_155 u_148 u_149 gn_150 => ⟨I_151, L_152, rfl, rfl, ?_⟩)
            replace hg := gt_b3 gn_150 hg
            clear gn_150
            have hf_156 : Fm (fun c => c = o ∨ (o + 30 ≤ c ∧ c < o + 34)) I0 I_151 := hf.call fr_154 (fun c hc => by first | exact hc | (dsimp only at hc ⊢; omega) | omega)
            have t_157 : (I_151 o 3).toInt = (I o 3).toInt := by rw [kp_155 3 rfl]
            have g_158 : (0 : Int) ≤ (I_151 o 4).toInt ∧ (I_151 o 4).toInt ≤ 5 := hR_153.at0 ra 4 (by decide)
            have t_159 : (I_151 o 6).toInt = (I o 6).toInt := by rw [kp_155 6 rfl]
            have t_160 : (I_151 o 7).toInt = (I o 7).toInt := by rw [kp_155 7 rfl]
            have t_161 : (I_151 o 8).toInt = (I o 8).toInt := by rw [kp_155 8 rfl]
            have t_162 : (I_151 o 9).toInt = (I o 9).toInt := by rw [kp_155 9 rfl]
            have t_163 : (I_151 o 44).toInt = (I o 44).toInt := by rw [kp_155 44 rfl]
            have t_164 : (I_151 o 45).toInt = (I o 45).toInt := by rw [kp_155 45 rfl]
            have t_165 : (I_151 o 47).toInt = (I o 47).toInt := by rw [kp_155 47 rfl]
            have t_166 : (I_151 o 48).toInt = (I o 48).toInt := by rw [kp_155 48 rfl]
            have k_167 : EX 0 0 0 f0 0 I_151 o := hi11.fr (fr_154 _ (by first | omega | (dsimp only; omega))) (fr_154 _ (by first | omega | (dsimp only; omega))) (fr_154 _ (by first | omega | (dsimp only; omega))) (fr_154 _ (by first | omega | (dsimp only; omega))) (fr_154 _ (by first | omega | (dsimp only; omega))) (kp_155 3 rfl) (kp_155 6 rfl) (kp_155 44 rfl) (kp_155 45 rfl) (kp_155 47 rfl) (kp_155 48 rfl)
            have k_168 : MTd I_151 o := hi12.fr (fr_154 _ (by first | omega | (dsimp only; omega))) (fr_154 _ (by first | omega | (dsimp only; omega))) (fr_154 _ (by first | omega | (dsimp only; omega)))
            have k_169 : MPo I_151 o := hi13.fr (kp_155 8 rfl) (kp_155 9 rfl)
            have k_170 : MTk I_151 o := hi14.fr (kp_155 6 rfl) (kp_155 7 rfl) (kp_155 8 rfl)
            exact (hp _ _ _ hR_153 hf_156 (Or.inr rfl) (by first | omega | (intro h; omega) | exact Or.inl rfl | exact Or.inr rfl) (by first | omega | (intro h; omega) | exact Or.inl rfl | exact Or.inr rfl) (by first | omega | (intro h; omega) | exact Or.inl rfl | exact Or.inr rfl) (by first | omega | (intro h; omega) | exact Or.inl rfl | exact Or.inr rfl) (by first | omega | (intro h; omega) | exact Or.inl rfl | exact Or.inr rfl) (by clear hg; first | (intro h; exfalso; omega) | exact fun _ => (False.elim (by omega)) | exact fun _ => k_167) k_168 k_169 k_170 hg.symm)
        · have d_171 := iEq c_142
          replace hg := gt_pos (by first | exact d_171 | omega) hg
          have l_172 : (2 : Int32).toInt = 2 := rfl
          refine ⟨fun c_173 => ?_, fun c_173 => ?_⟩
          · have d_174 := iNe c_173
            replace hg := gt_neg (by first | exact d_174 | omega) hg
            refine ⟨fun c_175 => ?_, fun c_175 => ?_⟩
            · have d_176 := iNe c_175
              replace hg := gt_neg (by first | exact d_176 | omega) hg
              have g_177 : (0 : Int) ≤ (I o 6).toInt ∧ (I o 6).toInt ≤ 1600 := hR.at0 ra 6 (by decide)
              replace hg := gt_let (y := (I o 6).toInt) rfl hg
              refine y_Model_signg hok hw ra (by first | omega | (intro h; omega) | exact Or.inl rfl | exact Or.inr rfl) hR (fun r_178 u_179 u_180 gn_181 => ⟨r_178, I, L, rfl, rfl, ?_⟩)
              replace hg := gt_let gn_181 hg
              clear gn_181
              have pt := pN_r (I (o + 32) ((I o 48) - 1).toNatClampNeg).toInt
              have pv := pN_r x1.toInt
              have pw := pB_r x1.toInt
              have px := pO_r x1.toInt
              have tn := hi9 (by omega)
              have tk := hi14.2 (by omega)
              refine y_Model_pileg hok hw ra hz58 (by first | omega | (intro h; omega) | exact Or.inl rfl | exact Or.inr rfl) (by first | omega | (intro h; omega) | exact Or.inl rfl | exact Or.inr rfl) hR (fun I_187 L_188 hR_189 fr_190 kp_191 u_183 u_184 u_185 gn_186 => ⟨I_187, L_188, rfl, rfl, ?_⟩)
              replace hg := gt_b3 gn_186 hg
              clear gn_186
              have hf_192 : Fm (fun c => c = o ∨ (o + 30 ≤ c ∧ c < o + 34)) I0 I_187 := hf.call fr_190 (fun c hc => by first | exact hc | (dsimp only at hc ⊢; omega) | omega)
              have t_193 : (I_187 o 3).toInt = (I o 3).toInt := by rw [kp_191 3 rfl]
              have t_194 : (I_187 o 4).toInt = (I o 4).toInt := by rw [kp_191 4 rfl]
              have t_195 : (I_187 o 6).toInt = (I o 6).toInt := by rw [kp_191 6 rfl]
              have t_196 : (I_187 o 7).toInt = (I o 7).toInt := by rw [kp_191 7 rfl]
              have t_197 : (I_187 o 8).toInt = (I o 8).toInt := by rw [kp_191 8 rfl]
              have t_198 : (I_187 o 9).toInt = (I o 9).toInt := by rw [kp_191 9 rfl]
              have t_199 : (I_187 o 44).toInt = (I o 44).toInt := by rw [kp_191 44 rfl]
              have t_200 : (I_187 o 45).toInt = (I o 45).toInt := by rw [kp_191 45 rfl]
              have t_201 : (I_187 o 47).toInt = (I o 47).toInt := by rw [kp_191 47 rfl]
              have g_202 : (0 : Int) ≤ (I_187 o 48).toInt ∧ (I_187 o 48).toInt ≤ 80 := hR_189.at0 ra 48 (by decide)
              have k_203 : MTd I_187 o := hi12.fr (fr_190 _ (by first | omega | (dsimp only; omega))) (fr_190 _ (by first | omega | (dsimp only; omega))) (fr_190 _ (by first | omega | (dsimp only; omega)))
              have k_204 : MPo I_187 o := hi13.fr (kp_191 8 rfl) (kp_191 9 rfl)
              have k_205 : MTk I_187 o := hi14.fr (kp_191 6 rfl) (kp_191 7 rfl) (kp_191 8 rfl)
              have k_206 : EX 0 0 1 f0 1 I_187 o := by exact EX.push hi11 (by omega) (by omega) (by omega) (by omega) ⟨by omega, by omega⟩ (SgOK.bn (by omega) (by first | (unfold Bn isT; decide) | (rw [u_180, hf (o + 2) (by first | omega | (dsimp only; omega)), show I o 3 = I0 o 3 from hZ _ 3 rfl hR, show I o 6 = I0 o 6 from Int32.toInt_inj.mp (by omega)]; exact hi10 (by omega)))) (Or.inr (by omega)) (fr_190 _ (by first | omega | (dsimp only; omega))) (fr_190 _ (by first | omega | (dsimp only; omega))) (fr_190 _ (by first | omega | (dsimp only; omega))) u_183 u_184 (kp_191 3 rfl) (kp_191 6 rfl) (kp_191 44 rfl) (kp_191 45 rfl) (kp_191 47 rfl) u_185
              refine y_Model_nextg hok hw ra hz16 hz17 hz18 hz19 (by first | omega | (intro h; omega) | exact Or.inl rfl | exact Or.inr rfl) hR_189 (fun I_217 L_218 hR_219 fr_220 kp_221 u_208 u_209 u_210 u_211 u_212 u_213 u_214 u_215 gn_216 => ⟨I_217, L_218, rfl, rfl, ?_⟩)
              replace hg := gt_b3 gn_216 hg
              clear gn_216
              have hf_222 : Fm (fun c => c = o ∨ (o + 30 ≤ c ∧ c < o + 34)) I0 I_217 := hf_192.call fr_220 (fun c hc => by first | exact hc | (dsimp only at hc ⊢; omega) | omega)
              have t_223 : (I_217 o 3).toInt = (I_187 o 3).toInt := by rw [kp_221 3 rfl]
              have t_224 : (I_217 o 4).toInt = (I_187 o 4).toInt := by rw [kp_221 4 rfl]
              have g_225 : (0 : Int) ≤ (I_217 o 6).toInt ∧ (I_217 o 6).toInt ≤ 1600 := hR_219.at0 ra 6 (by decide)
              have g_226 : (0 : Int) ≤ (I_217 o 7).toInt ∧ (I_217 o 7).toInt ≤ 1601 := hR_219.at0 ra 7 (by decide)
              have g_227 : (0 : Int) ≤ (I_217 o 8).toInt ∧ (I_217 o 8).toInt ≤ 6 := hR_219.at0 ra 8 (by decide)
              have t_228 : (I_217 o 44).toInt = (I_187 o 44).toInt := by rw [kp_221 44 rfl]
              have t_229 : (I_217 o 45).toInt = (I_187 o 45).toInt := by rw [kp_221 45 rfl]
              have t_230 : (I_217 o 47).toInt = (I_187 o 47).toInt := by rw [kp_221 47 rfl]
              have t_231 : (I_217 o 48).toInt = (I_187 o 48).toInt := by rw [kp_221 48 rfl]
              have k_232 : MTd I_217 o := k_203.fr (fr_220 _ (by first | omega | (dsimp only; omega))) (fr_220 _ (by first | omega | (dsimp only; omega))) (fr_220 _ (by first | omega | (dsimp only; omega)))
              have ms := u_211 (by omega)
              have k_233 : EX 0 0 0 f0 1 I_217 o := by exact EX.nx k_206 (fr_220 _ (by first | omega | (dsimp only; omega))) (fr_220 _ (by first | omega | (dsimp only; omega))) (fr_220 _ (by first | omega | (dsimp only; omega))) (fr_220 _ (by first | omega | (dsimp only; omega))) (fr_220 _ (by first | omega | (dsimp only; omega))) (kp_221 3 rfl) (kp_221 44 rfl) (kp_221 45 rfl) (kp_221 47 rfl) (kp_221 48 rfl) (by omega) (by omega)
              exact (hp _ _ _ hR_219 hf_222 (Or.inr rfl) (by first | omega | (intro h; omega) | exact Or.inl rfl | exact Or.inr rfl) (by first | omega | (intro h; omega) | exact Or.inl rfl | exact Or.inr rfl) (by first | omega | (intro h; omega) | exact Or.inl rfl | exact Or.inr rfl) (by first | omega | (intro h; omega) | exact Or.inl rfl | exact Or.inr rfl) (by first | omega | (intro h; omega) | exact Or.inl rfl | exact Or.inr rfl) (by clear hg; first | (intro h; exfalso; omega) | exact fun _ => k_233 | exact fun _ => (False.elim (by omega))) k_232 u_214 u_215 hg.symm)
            · have d_234 := iEq c_175
              replace hg := gt_pos (by first | exact d_234 | omega) hg
              have pt := pN_r (I (o + 32) ((I o 48) - 1).toNatClampNeg).toInt
              have pv := pN_r x1.toInt
              have pw := pB_r x1.toInt
              have px := pO_r x1.toInt
              have tn := hi9 (by omega)
              have tk := hi14.2 (by omega)
              have l_235 : (124 : Int32).toInt = 124 := rfl
              refine y_Model_pileg hok hw ra hz58 (by first | omega | (intro h; omega) | exact Or.inl rfl | exact Or.inr rfl) (by first | omega | (intro h; omega) | exact Or.inl rfl | exact Or.inr rfl) hR (fun I_241 L_242 hR_243 fr_244 kp_245 u_237 u_238 u_239 gn_240 => ⟨I_241, L_242, rfl, rfl, ?_⟩)
              replace hg := gt_b3 gn_240 hg
              clear gn_240
              have hf_246 : Fm (fun c => c = o ∨ (o + 30 ≤ c ∧ c < o + 34)) I0 I_241 := hf.call fr_244 (fun c hc => by first | exact hc | (dsimp only at hc ⊢; omega) | omega)
              have t_247 : (I_241 o 3).toInt = (I o 3).toInt := by rw [kp_245 3 rfl]
              have t_248 : (I_241 o 4).toInt = (I o 4).toInt := by rw [kp_245 4 rfl]
              have t_249 : (I_241 o 6).toInt = (I o 6).toInt := by rw [kp_245 6 rfl]
              have t_250 : (I_241 o 7).toInt = (I o 7).toInt := by rw [kp_245 7 rfl]
              have t_251 : (I_241 o 8).toInt = (I o 8).toInt := by rw [kp_245 8 rfl]
              have t_252 : (I_241 o 9).toInt = (I o 9).toInt := by rw [kp_245 9 rfl]
              have t_253 : (I_241 o 44).toInt = (I o 44).toInt := by rw [kp_245 44 rfl]
              have t_254 : (I_241 o 45).toInt = (I o 45).toInt := by rw [kp_245 45 rfl]
              have t_255 : (I_241 o 47).toInt = (I o 47).toInt := by rw [kp_245 47 rfl]
              have g_256 : (0 : Int) ≤ (I_241 o 48).toInt ∧ (I_241 o 48).toInt ≤ 80 := hR_243.at0 ra 48 (by decide)
              have k_257 : MTd I_241 o := hi12.fr (fr_244 _ (by first | omega | (dsimp only; omega))) (fr_244 _ (by first | omega | (dsimp only; omega))) (fr_244 _ (by first | omega | (dsimp only; omega)))
              have k_258 : MPo I_241 o := hi13.fr (kp_245 8 rfl) (kp_245 9 rfl)
              have k_259 : MTk I_241 o := hi14.fr (kp_245 6 rfl) (kp_245 7 rfl) (kp_245 8 rfl)
              have k_260 : EX 0 0 1 f0 1 I_241 o := by exact EX.push hi11 (by omega) (by omega) (by omega) (by omega) ⟨by omega, by omega⟩ (SgOK.bn (by omega) (by first | (unfold Bn isT; decide) | (rw [(False.elim (by omega)), hf (o + 2) (by first | omega | (dsimp only; omega)), show I o 3 = I0 o 3 from hZ _ 3 rfl hR, show I o 6 = I0 o 6 from Int32.toInt_inj.mp (by omega)]; exact hi10 (by omega)))) (Or.inr (by omega)) (fr_244 _ (by first | omega | (dsimp only; omega))) (fr_244 _ (by first | omega | (dsimp only; omega))) (fr_244 _ (by first | omega | (dsimp only; omega))) u_237 u_238 (kp_245 3 rfl) (kp_245 6 rfl) (kp_245 44 rfl) (kp_245 45 rfl) (kp_245 47 rfl) u_239
              refine y_Model_nextg hok hw ra hz16 hz17 hz18 hz19 (by first | omega | (intro h; omega) | exact Or.inl rfl | exact Or.inr rfl) hR_243 (fun I_271 L_272 hR_273 fr_274 kp_275 u_262 u_263 u_264 u_265 u_266 u_267 u_268 u_269 gn_270 => ⟨I_271, L_272, rfl, rfl, ?_⟩)
              replace hg := gt_b3 gn_270 hg
              clear gn_270
              have hf_276 : Fm (fun c => c = o ∨ (o + 30 ≤ c ∧ c < o + 34)) I0 I_271 := hf_246.call fr_274 (fun c hc => by first | exact hc | (dsimp only at hc ⊢; omega) | omega)
              have t_277 : (I_271 o 3).toInt = (I_241 o 3).toInt := by rw [kp_275 3 rfl]
              have t_278 : (I_271 o 4).toInt = (I_241 o 4).toInt := by rw [kp_275 4 rfl]
              have g_279 : (0 : Int) ≤ (I_271 o 6).toInt ∧ (I_271 o 6).toInt ≤ 1600 := hR_273.at0 ra 6 (by decide)
              have g_280 : (0 : Int) ≤ (I_271 o 7).toInt ∧ (I_271 o 7).toInt ≤ 1601 := hR_273.at0 ra 7 (by decide)
              have g_281 : (0 : Int) ≤ (I_271 o 8).toInt ∧ (I_271 o 8).toInt ≤ 6 := hR_273.at0 ra 8 (by decide)
              have t_282 : (I_271 o 44).toInt = (I_241 o 44).toInt := by rw [kp_275 44 rfl]
              have t_283 : (I_271 o 45).toInt = (I_241 o 45).toInt := by rw [kp_275 45 rfl]
              have t_284 : (I_271 o 47).toInt = (I_241 o 47).toInt := by rw [kp_275 47 rfl]
              have t_285 : (I_271 o 48).toInt = (I_241 o 48).toInt := by rw [kp_275 48 rfl]
              have k_286 : MTd I_271 o := k_257.fr (fr_274 _ (by first | omega | (dsimp only; omega))) (fr_274 _ (by first | omega | (dsimp only; omega))) (fr_274 _ (by first | omega | (dsimp only; omega)))
              have ms := u_265 (by omega)
              have k_287 : EX 0 0 0 f0 1 I_271 o := by exact EX.nx k_260 (fr_274 _ (by first | omega | (dsimp only; omega))) (fr_274 _ (by first | omega | (dsimp only; omega))) (fr_274 _ (by first | omega | (dsimp only; omega))) (fr_274 _ (by first | omega | (dsimp only; omega))) (fr_274 _ (by first | omega | (dsimp only; omega))) (kp_275 3 rfl) (kp_275 44 rfl) (kp_275 45 rfl) (kp_275 47 rfl) (kp_275 48 rfl) (by omega) (by omega)
              exact (hp _ _ _ hR_273 hf_276 (Or.inr rfl) (by first | omega | (intro h; omega) | exact Or.inl rfl | exact Or.inr rfl) (by first | omega | (intro h; omega) | exact Or.inl rfl | exact Or.inr rfl) (by first | omega | (intro h; omega) | exact Or.inl rfl | exact Or.inr rfl) (by first | omega | (intro h; omega) | exact Or.inl rfl | exact Or.inr rfl) (by first | omega | (intro h; omega) | exact Or.inl rfl | exact Or.inr rfl) (by clear hg; first | (intro h; exfalso; omega) | exact fun _ => k_287 | exact fun _ => (False.elim (by omega))) k_286 u_268 u_269 hg.symm)
          · have d_288 := iEq c_173
            replace hg := gt_pos (by first | exact d_288 | omega) hg
            have pt := pN_r (I (o + 32) ((I o 48) - 1).toNatClampNeg).toInt
            have pv := pN_r x1.toInt
            have pw := pB_r x1.toInt
            have px := pO_r x1.toInt
            have tn := hi9 (by omega)
            have tk := hi14.2 (by omega)
            have l_289 : (38 : Int32).toInt = 38 := rfl
            refine y_Model_pileg hok hw ra hz58 (by first | omega | (intro h; omega) | exact Or.inl rfl | exact Or.inr rfl) (by first | omega | (intro h; omega) | exact Or.inl rfl | exact Or.inr rfl) hR (fun I_295 L_296 hR_297 fr_298 kp_299 u_291 u_292 u_293 gn_294 => ⟨I_295, L_296, rfl, rfl, ?_⟩)
            replace hg := gt_b3 gn_294 hg
            clear gn_294
            have hf_300 : Fm (fun c => c = o ∨ (o + 30 ≤ c ∧ c < o + 34)) I0 I_295 := hf.call fr_298 (fun c hc => by first | exact hc | (dsimp only at hc ⊢; omega) | omega)
            have t_301 : (I_295 o 3).toInt = (I o 3).toInt := by rw [kp_299 3 rfl]
            have t_302 : (I_295 o 4).toInt = (I o 4).toInt := by rw [kp_299 4 rfl]
            have t_303 : (I_295 o 6).toInt = (I o 6).toInt := by rw [kp_299 6 rfl]
            have t_304 : (I_295 o 7).toInt = (I o 7).toInt := by rw [kp_299 7 rfl]
            have t_305 : (I_295 o 8).toInt = (I o 8).toInt := by rw [kp_299 8 rfl]
            have t_306 : (I_295 o 9).toInt = (I o 9).toInt := by rw [kp_299 9 rfl]
            have t_307 : (I_295 o 44).toInt = (I o 44).toInt := by rw [kp_299 44 rfl]
            have t_308 : (I_295 o 45).toInt = (I o 45).toInt := by rw [kp_299 45 rfl]
            have t_309 : (I_295 o 47).toInt = (I o 47).toInt := by rw [kp_299 47 rfl]
            have g_310 : (0 : Int) ≤ (I_295 o 48).toInt ∧ (I_295 o 48).toInt ≤ 80 := hR_297.at0 ra 48 (by decide)
            have k_311 : MTd I_295 o := hi12.fr (fr_298 _ (by first | omega | (dsimp only; omega))) (fr_298 _ (by first | omega | (dsimp only; omega))) (fr_298 _ (by first | omega | (dsimp only; omega)))
            have k_312 : MPo I_295 o := hi13.fr (kp_299 8 rfl) (kp_299 9 rfl)
            have k_313 : MTk I_295 o := hi14.fr (kp_299 6 rfl) (kp_299 7 rfl) (kp_299 8 rfl)
            have k_314 : EX 0 0 1 f0 1 I_295 o := by exact EX.push hi11 (by omega) (by omega) (by omega) (by omega) ⟨by omega, by omega⟩ (SgOK.bn (by omega) (by first | (unfold Bn isT; decide) | (rw [(False.elim (by omega)), hf (o + 2) (by first | omega | (dsimp only; omega)), show I o 3 = I0 o 3 from hZ _ 3 rfl hR, show I o 6 = I0 o 6 from Int32.toInt_inj.mp (by omega)]; exact hi10 (by omega)))) (Or.inr (by omega)) (fr_298 _ (by first | omega | (dsimp only; omega))) (fr_298 _ (by first | omega | (dsimp only; omega))) (fr_298 _ (by first | omega | (dsimp only; omega))) u_291 u_292 (kp_299 3 rfl) (kp_299 6 rfl) (kp_299 44 rfl) (kp_299 45 rfl) (kp_299 47 rfl) u_293
            refine y_Model_nextg hok hw ra hz16 hz17 hz18 hz19 (by first | omega | (intro h; omega) | exact Or.inl rfl | exact Or.inr rfl) hR_297 (fun I_325 L_326 hR_327 fr_328 kp_329 u_316 u_317 u_318 u_319 u_320 u_321 u_322 u_323 gn_324 => ⟨I_325, L_326, rfl, rfl, ?_⟩)
            replace hg := gt_b3 gn_324 hg
            clear gn_324
            have hf_330 : Fm (fun c => c = o ∨ (o + 30 ≤ c ∧ c < o + 34)) I0 I_325 := hf_300.call fr_328 (fun c hc => by first | exact hc | (dsimp only at hc ⊢; omega) | omega)
            have t_331 : (I_325 o 3).toInt = (I_295 o 3).toInt := by rw [kp_329 3 rfl]
            have t_332 : (I_325 o 4).toInt = (I_295 o 4).toInt := by rw [kp_329 4 rfl]
            have g_333 : (0 : Int) ≤ (I_325 o 6).toInt ∧ (I_325 o 6).toInt ≤ 1600 := hR_327.at0 ra 6 (by decide)
            have g_334 : (0 : Int) ≤ (I_325 o 7).toInt ∧ (I_325 o 7).toInt ≤ 1601 := hR_327.at0 ra 7 (by decide)
            have g_335 : (0 : Int) ≤ (I_325 o 8).toInt ∧ (I_325 o 8).toInt ≤ 6 := hR_327.at0 ra 8 (by decide)
            have t_336 : (I_325 o 44).toInt = (I_295 o 44).toInt := by rw [kp_329 44 rfl]
            have t_337 : (I_325 o 45).toInt = (I_295 o 45).toInt := by rw [kp_329 45 rfl]
            have t_338 : (I_325 o 47).toInt = (I_295 o 47).toInt := by rw [kp_329 47 rfl]
            have t_339 : (I_325 o 48).toInt = (I_295 o 48).toInt := by rw [kp_329 48 rfl]
            have k_340 : MTd I_325 o := k_311.fr (fr_328 _ (by first | omega | (dsimp only; omega))) (fr_328 _ (by first | omega | (dsimp only; omega))) (fr_328 _ (by first | omega | (dsimp only; omega)))
            have ms := u_319 (by omega)
            have k_341 : EX 0 0 0 f0 1 I_325 o := by exact EX.nx k_314 (fr_328 _ (by first | omega | (dsimp only; omega))) (fr_328 _ (by first | omega | (dsimp only; omega))) (fr_328 _ (by first | omega | (dsimp only; omega))) (fr_328 _ (by first | omega | (dsimp only; omega))) (fr_328 _ (by first | omega | (dsimp only; omega))) (kp_329 3 rfl) (kp_329 44 rfl) (kp_329 45 rfl) (kp_329 47 rfl) (kp_329 48 rfl) (by omega) (by omega)
            exact (hp _ _ _ hR_327 hf_330 (Or.inr rfl) (by first | omega | (intro h; omega) | exact Or.inl rfl | exact Or.inr rfl) (by first | omega | (intro h; omega) | exact Or.inl rfl | exact Or.inr rfl) (by first | omega | (intro h; omega) | exact Or.inl rfl | exact Or.inr rfl) (by first | omega | (intro h; omega) | exact Or.inl rfl | exact Or.inr rfl) (by first | omega | (intro h; omega) | exact Or.inl rfl | exact Or.inr rfl) (by clear hg; first | (intro h; exfalso; omega) | exact fun _ => k_341 | exact fun _ => (False.elim (by omega))) k_340 u_322 u_323 hg.symm)
    · have d_342 := iNlt c_24
      replace hg := gt_neg (by first | exact d_342 | omega) hg
      have g_343 : (0 : Int) ≤ (I o 48).toInt ∧ (I o 48).toInt ≤ 80 := hR.at0 ra 48 (by decide)
      replace hg := gt_let (y := (I o 48).toInt) rfl hg
      have a_344 : ((I o 48) - 1).toInt = (I o 48).toInt - (1 : Int32).toInt := tSub (by omega) (by omega)
      replace hg := gt_let (y := (((I o 48) - 1) : Int32).toInt) (by omega) hg
      refine ⟨tIn (by omega) (by omega), ?_⟩
      have g_345 : (0 : Int) ≤ (I (o + 32) (((I o 48) - 1) : Int32).toNatClampNeg).toInt ∧ (I (o + 32) (((I o 48) - 1) : Int32).toNatClampNeg).toInt ≤ 8 := hR.at ra 32 _ (by decide)
      replace hg := gt_let (y := (I (o + 32) (((I o 48) - 1) : Int32).toNatClampNeg).toInt) rfl hg
      refine ⟨fun c_346 => ?_, fun c_346 => ?_⟩
      · have d_347 := iLt c_346
        replace hg := gt_pos (by first | exact d_347 | omega) hg
        unfold fModel_behind_108
        replace hg := (eModel_behind_108).symm.trans hg
        have lw := hi11.low (by omega)
        have l_348 : (0 : Int32).toInt = 0 := rfl
        refine ⟨fun c_349 => ?_, fun c_349 => ?_⟩
        · have d_350 := iLe c_349
          exfalso; omega
        · have d_351 := iNle c_349
          replace hg := gt_neg (by first | exact d_351 | omega) hg
          refine ⟨fun c_352 => ?_, fun c_352 => ?_⟩
          · have d_353 := iNe c_352
            replace hg := gt_neg (by first | exact d_353 | omega) hg
            refine ⟨fun c_354 => ?_, fun c_354 => ?_⟩
            · have d_355 := iEq c_354
              exfalso; omega
            · have d_356 := iNe c_354
              replace hg := gt_neg (by first | exact d_356 | omega) hg
              refine y_Model_wrongg hok hw ra hz14 hz15 hR (fun I_361 L_362 hR_363 fr_364 kp_365 u_358 u_359 gn_360 => ⟨I_361, L_362, rfl, rfl, ?_⟩)
              replace hg := gt_b3 gn_360 hg
              clear gn_360
              have hf_366 : Fm (fun c => c = o ∨ (o + 30 ≤ c ∧ c < o + 34)) I0 I_361 := hf.call fr_364 (fun c hc => by first | exact hc | (dsimp only at hc ⊢; omega) | omega)
              have t_367 : (I_361 o 3).toInt = (I o 3).toInt := by rw [kp_365 3 rfl]
              have g_368 : (0 : Int) ≤ (I_361 o 4).toInt ∧ (I_361 o 4).toInt ≤ 5 := hR_363.at0 ra 4 (by decide)
              have t_369 : (I_361 o 6).toInt = (I o 6).toInt := by rw [kp_365 6 rfl]
              have t_370 : (I_361 o 7).toInt = (I o 7).toInt := by rw [kp_365 7 rfl]
              have t_371 : (I_361 o 8).toInt = (I o 8).toInt := by rw [kp_365 8 rfl]
              have t_372 : (I_361 o 9).toInt = (I o 9).toInt := by rw [kp_365 9 rfl]
              have t_373 : (I_361 o 44).toInt = (I o 44).toInt := by rw [kp_365 44 rfl]
              have t_374 : (I_361 o 45).toInt = (I o 45).toInt := by rw [kp_365 45 rfl]
              have t_375 : (I_361 o 47).toInt = (I o 47).toInt := by rw [kp_365 47 rfl]
              have t_376 : (I_361 o 48).toInt = (I o 48).toInt := by rw [kp_365 48 rfl]
              have k_377 : EX 0 0 0 f0 0 I_361 o := hi11.fr (fr_364 _ (by first | omega | (dsimp only; omega))) (fr_364 _ (by first | omega | (dsimp only; omega))) (fr_364 _ (by first | omega | (dsimp only; omega))) (fr_364 _ (by first | omega | (dsimp only; omega))) (fr_364 _ (by first | omega | (dsimp only; omega))) (kp_365 3 rfl) (kp_365 6 rfl) (kp_365 44 rfl) (kp_365 45 rfl) (kp_365 47 rfl) (kp_365 48 rfl)
              have k_378 : MTd I_361 o := hi12.fr (fr_364 _ (by first | omega | (dsimp only; omega))) (fr_364 _ (by first | omega | (dsimp only; omega))) (fr_364 _ (by first | omega | (dsimp only; omega)))
              have k_379 : MPo I_361 o := hi13.fr (kp_365 8 rfl) (kp_365 9 rfl)
              have k_380 : MTk I_361 o := hi14.fr (kp_365 6 rfl) (kp_365 7 rfl) (kp_365 8 rfl)
              exact (hp _ _ _ hR_363 hf_366 (Or.inr rfl) (by first | omega | (intro h; omega) | exact Or.inl rfl | exact Or.inr rfl) (by first | omega | (intro h; omega) | exact Or.inl rfl | exact Or.inr rfl) (by first | omega | (intro h; omega) | exact Or.inl rfl | exact Or.inr rfl) (by first | omega | (intro h; omega) | exact Or.inl rfl | exact Or.inr rfl) (by first | omega | (intro h; omega) | exact Or.inl rfl | exact Or.inr rfl) (by clear hg; first | (intro h; exfalso; omega) | exact fun _ => (False.elim (by omega)) | exact fun _ => k_377) k_378 k_379 k_380 hg.symm)
          · have d_381 := iEq c_352
            replace hg := gt_pos (by first | exact d_381 | omega) hg
            have l_382 : (2 : Int32).toInt = 2 := rfl
            refine ⟨fun c_383 => ?_, fun c_383 => ?_⟩
            · have d_384 := iNe c_383
              replace hg := gt_neg (by first | exact d_384 | omega) hg
              refine ⟨fun c_385 => ?_, fun c_385 => ?_⟩
              · have d_386 := iNe c_385
                replace hg := gt_neg (by first | exact d_386 | omega) hg
                have g_387 : (0 : Int) ≤ (I o 6).toInt ∧ (I o 6).toInt ≤ 1600 := hR.at0 ra 6 (by decide)
                replace hg := gt_let (y := (I o 6).toInt) rfl hg
                refine y_Model_signg hok hw ra (by first | omega | (intro h; omega) | exact Or.inl rfl | exact Or.inr rfl) hR (fun r_388 u_389 u_390 gn_391 => ⟨r_388, I, L, rfl, rfl, ?_⟩)
                replace hg := gt_let gn_391 hg
                clear gn_391
                have pt := pN_r (I (o + 32) ((I o 48) - 1).toNatClampNeg).toInt
                have pv := pN_r x1.toInt
                have pw := pB_r x1.toInt
                have px := pO_r x1.toInt
                have tn := hi9 (by omega)
                have tk := hi14.2 (by omega)
                refine y_Model_pileg hok hw ra hz58 (by first | omega | (intro h; omega) | exact Or.inl rfl | exact Or.inr rfl) (by first | omega | (intro h; omega) | exact Or.inl rfl | exact Or.inr rfl) hR (fun I_397 L_398 hR_399 fr_400 kp_401 u_393 u_394 u_395 gn_396 => ⟨I_397, L_398, rfl, rfl, ?_⟩)
                replace hg := gt_b3 gn_396 hg
                clear gn_396
                have hf_402 : Fm (fun c => c = o ∨ (o + 30 ≤ c ∧ c < o + 34)) I0 I_397 := hf.call fr_400 (fun c hc => by first | exact hc | (dsimp only at hc ⊢; omega) | omega)
                have t_403 : (I_397 o 3).toInt = (I o 3).toInt := by rw [kp_401 3 rfl]
                have t_404 : (I_397 o 4).toInt = (I o 4).toInt := by rw [kp_401 4 rfl]
                have t_405 : (I_397 o 6).toInt = (I o 6).toInt := by rw [kp_401 6 rfl]
                have t_406 : (I_397 o 7).toInt = (I o 7).toInt := by rw [kp_401 7 rfl]
                have t_407 : (I_397 o 8).toInt = (I o 8).toInt := by rw [kp_401 8 rfl]
                have t_408 : (I_397 o 9).toInt = (I o 9).toInt := by rw [kp_401 9 rfl]
                have t_409 : (I_397 o 44).toInt = (I o 44).toInt := by rw [kp_401 44 rfl]
                have t_410 : (I_397 o 45).toInt = (I o 45).toInt := by rw [kp_401 45 rfl]
                have t_411 : (I_397 o 47).toInt = (I o 47).toInt := by rw [kp_401 47 rfl]
                have g_412 : (0 : Int) ≤ (I_397 o 48).toInt ∧ (I_397 o 48).toInt ≤ 80 := hR_399.at0 ra 48 (by decide)
                have k_413 : MTd I_397 o := hi12.fr (fr_400 _ (by first | omega | (dsimp only; omega))) (fr_400 _ (by first | omega | (dsimp only; omega))) (fr_400 _ (by first | omega | (dsimp only; omega)))
                have k_414 : MPo I_397 o := hi13.fr (kp_401 8 rfl) (kp_401 9 rfl)
                have k_415 : MTk I_397 o := hi14.fr (kp_401 6 rfl) (kp_401 7 rfl) (kp_401 8 rfl)
                have k_416 : EX 0 0 1 f0 1 I_397 o := by exact EX.push hi11 (by omega) (by omega) (by omega) (by omega) ⟨by omega, by omega⟩ (SgOK.bn (by omega) (by first | (unfold Bn isT; decide) | (rw [u_390, hf (o + 2) (by first | omega | (dsimp only; omega)), show I o 3 = I0 o 3 from hZ _ 3 rfl hR, show I o 6 = I0 o 6 from Int32.toInt_inj.mp (by omega)]; exact hi10 (by omega)))) (Or.inr (by omega)) (fr_400 _ (by first | omega | (dsimp only; omega))) (fr_400 _ (by first | omega | (dsimp only; omega))) (fr_400 _ (by first | omega | (dsimp only; omega))) u_393 u_394 (kp_401 3 rfl) (kp_401 6 rfl) (kp_401 44 rfl) (kp_401 45 rfl) (kp_401 47 rfl) u_395
                refine y_Model_nextg hok hw ra hz16 hz17 hz18 hz19 (by first | omega | (intro h; omega) | exact Or.inl rfl | exact Or.inr rfl) hR_399 (fun I_427 L_428 hR_429 fr_430 kp_431 u_418 u_419 u_420 u_421 u_422 u_423 u_424 u_425 gn_426 => ⟨I_427, L_428, rfl, rfl, ?_⟩)
                replace hg := gt_b3 gn_426 hg
                clear gn_426
                have hf_432 : Fm (fun c => c = o ∨ (o + 30 ≤ c ∧ c < o + 34)) I0 I_427 := hf_402.call fr_430 (fun c hc => by first | exact hc | (dsimp only at hc ⊢; omega) | omega)
                have t_433 : (I_427 o 3).toInt = (I_397 o 3).toInt := by rw [kp_431 3 rfl]
                have t_434 : (I_427 o 4).toInt = (I_397 o 4).toInt := by rw [kp_431 4 rfl]
                have g_435 : (0 : Int) ≤ (I_427 o 6).toInt ∧ (I_427 o 6).toInt ≤ 1600 := hR_429.at0 ra 6 (by decide)
                have g_436 : (0 : Int) ≤ (I_427 o 7).toInt ∧ (I_427 o 7).toInt ≤ 1601 := hR_429.at0 ra 7 (by decide)
                have g_437 : (0 : Int) ≤ (I_427 o 8).toInt ∧ (I_427 o 8).toInt ≤ 6 := hR_429.at0 ra 8 (by decide)
                have t_438 : (I_427 o 44).toInt = (I_397 o 44).toInt := by rw [kp_431 44 rfl]
                have t_439 : (I_427 o 45).toInt = (I_397 o 45).toInt := by rw [kp_431 45 rfl]
                have t_440 : (I_427 o 47).toInt = (I_397 o 47).toInt := by rw [kp_431 47 rfl]
                have t_441 : (I_427 o 48).toInt = (I_397 o 48).toInt := by rw [kp_431 48 rfl]
                have k_442 : MTd I_427 o := k_413.fr (fr_430 _ (by first | omega | (dsimp only; omega))) (fr_430 _ (by first | omega | (dsimp only; omega))) (fr_430 _ (by first | omega | (dsimp only; omega)))
                have ms := u_421 (by omega)
                have k_443 : EX 0 0 0 f0 1 I_427 o := by exact EX.nx k_416 (fr_430 _ (by first | omega | (dsimp only; omega))) (fr_430 _ (by first | omega | (dsimp only; omega))) (fr_430 _ (by first | omega | (dsimp only; omega))) (fr_430 _ (by first | omega | (dsimp only; omega))) (fr_430 _ (by first | omega | (dsimp only; omega))) (kp_431 3 rfl) (kp_431 44 rfl) (kp_431 45 rfl) (kp_431 47 rfl) (kp_431 48 rfl) (by omega) (by omega)
                exact (hp _ _ _ hR_429 hf_432 (Or.inr rfl) (by first | omega | (intro h; omega) | exact Or.inl rfl | exact Or.inr rfl) (by first | omega | (intro h; omega) | exact Or.inl rfl | exact Or.inr rfl) (by first | omega | (intro h; omega) | exact Or.inl rfl | exact Or.inr rfl) (by first | omega | (intro h; omega) | exact Or.inl rfl | exact Or.inr rfl) (by first | omega | (intro h; omega) | exact Or.inl rfl | exact Or.inr rfl) (by clear hg; first | (intro h; exfalso; omega) | exact fun _ => k_443 | exact fun _ => (False.elim (by omega))) k_442 u_424 u_425 hg.symm)
              · have d_444 := iEq c_385
                replace hg := gt_pos (by first | exact d_444 | omega) hg
                have pt := pN_r (I (o + 32) ((I o 48) - 1).toNatClampNeg).toInt
                have pv := pN_r x1.toInt
                have pw := pB_r x1.toInt
                have px := pO_r x1.toInt
                have tn := hi9 (by omega)
                have tk := hi14.2 (by omega)
                have l_445 : (124 : Int32).toInt = 124 := rfl
                refine y_Model_pileg hok hw ra hz58 (by first | omega | (intro h; omega) | exact Or.inl rfl | exact Or.inr rfl) (by first | omega | (intro h; omega) | exact Or.inl rfl | exact Or.inr rfl) hR (fun I_451 L_452 hR_453 fr_454 kp_455 u_447 u_448 u_449 gn_450 => ⟨I_451, L_452, rfl, rfl, ?_⟩)
                replace hg := gt_b3 gn_450 hg
                clear gn_450
                have hf_456 : Fm (fun c => c = o ∨ (o + 30 ≤ c ∧ c < o + 34)) I0 I_451 := hf.call fr_454 (fun c hc => by first | exact hc | (dsimp only at hc ⊢; omega) | omega)
                have t_457 : (I_451 o 3).toInt = (I o 3).toInt := by rw [kp_455 3 rfl]
                have t_458 : (I_451 o 4).toInt = (I o 4).toInt := by rw [kp_455 4 rfl]
                have t_459 : (I_451 o 6).toInt = (I o 6).toInt := by rw [kp_455 6 rfl]
                have t_460 : (I_451 o 7).toInt = (I o 7).toInt := by rw [kp_455 7 rfl]
                have t_461 : (I_451 o 8).toInt = (I o 8).toInt := by rw [kp_455 8 rfl]
                have t_462 : (I_451 o 9).toInt = (I o 9).toInt := by rw [kp_455 9 rfl]
                have t_463 : (I_451 o 44).toInt = (I o 44).toInt := by rw [kp_455 44 rfl]
                have t_464 : (I_451 o 45).toInt = (I o 45).toInt := by rw [kp_455 45 rfl]
                have t_465 : (I_451 o 47).toInt = (I o 47).toInt := by rw [kp_455 47 rfl]
                have g_466 : (0 : Int) ≤ (I_451 o 48).toInt ∧ (I_451 o 48).toInt ≤ 80 := hR_453.at0 ra 48 (by decide)
                have k_467 : MTd I_451 o := hi12.fr (fr_454 _ (by first | omega | (dsimp only; omega))) (fr_454 _ (by first | omega | (dsimp only; omega))) (fr_454 _ (by first | omega | (dsimp only; omega)))
                have k_468 : MPo I_451 o := hi13.fr (kp_455 8 rfl) (kp_455 9 rfl)
                have k_469 : MTk I_451 o := hi14.fr (kp_455 6 rfl) (kp_455 7 rfl) (kp_455 8 rfl)
                have k_470 : EX 0 0 1 f0 1 I_451 o := by exact EX.push hi11 (by omega) (by omega) (by omega) (by omega) ⟨by omega, by omega⟩ (SgOK.bn (by omega) (by first | (unfold Bn isT; decide) | (rw [(False.elim (by omega)), hf (o + 2) (by first | omega | (dsimp only; omega)), show I o 3 = I0 o 3 from hZ _ 3 rfl hR, show I o 6 = I0 o 6 from Int32.toInt_inj.mp (by omega)]; exact hi10 (by omega)))) (Or.inr (by omega)) (fr_454 _ (by first | omega | (dsimp only; omega))) (fr_454 _ (by first | omega | (dsimp only; omega))) (fr_454 _ (by first | omega | (dsimp only; omega))) u_447 u_448 (kp_455 3 rfl) (kp_455 6 rfl) (kp_455 44 rfl) (kp_455 45 rfl) (kp_455 47 rfl) u_449
                refine y_Model_nextg hok hw ra hz16 hz17 hz18 hz19 (by first | omega | (intro h; omega) | exact Or.inl rfl | exact Or.inr rfl) hR_453 (fun I_481 L_482 hR_483 fr_484 kp_485 u_472 u_473 u_474 u_475 u_476 u_477 u_478 u_479 gn_480 => ⟨I_481, L_482, rfl, rfl, ?_⟩)
                replace hg := gt_b3 gn_480 hg
                clear gn_480
                have hf_486 : Fm (fun c => c = o ∨ (o + 30 ≤ c ∧ c < o + 34)) I0 I_481 := hf_456.call fr_484 (fun c hc => by first | exact hc | (dsimp only at hc ⊢; omega) | omega)
                have t_487 : (I_481 o 3).toInt = (I_451 o 3).toInt := by rw [kp_485 3 rfl]
                have t_488 : (I_481 o 4).toInt = (I_451 o 4).toInt := by rw [kp_485 4 rfl]
                have g_489 : (0 : Int) ≤ (I_481 o 6).toInt ∧ (I_481 o 6).toInt ≤ 1600 := hR_483.at0 ra 6 (by decide)
                have g_490 : (0 : Int) ≤ (I_481 o 7).toInt ∧ (I_481 o 7).toInt ≤ 1601 := hR_483.at0 ra 7 (by decide)
                have g_491 : (0 : Int) ≤ (I_481 o 8).toInt ∧ (I_481 o 8).toInt ≤ 6 := hR_483.at0 ra 8 (by decide)
                have t_492 : (I_481 o 44).toInt = (I_451 o 44).toInt := by rw [kp_485 44 rfl]
                have t_493 : (I_481 o 45).toInt = (I_451 o 45).toInt := by rw [kp_485 45 rfl]
                have t_494 : (I_481 o 47).toInt = (I_451 o 47).toInt := by rw [kp_485 47 rfl]
                have t_495 : (I_481 o 48).toInt = (I_451 o 48).toInt := by rw [kp_485 48 rfl]
                have k_496 : MTd I_481 o := k_467.fr (fr_484 _ (by first | omega | (dsimp only; omega))) (fr_484 _ (by first | omega | (dsimp only; omega))) (fr_484 _ (by first | omega | (dsimp only; omega)))
                have ms := u_475 (by omega)
                have k_497 : EX 0 0 0 f0 1 I_481 o := by exact EX.nx k_470 (fr_484 _ (by first | omega | (dsimp only; omega))) (fr_484 _ (by first | omega | (dsimp only; omega))) (fr_484 _ (by first | omega | (dsimp only; omega))) (fr_484 _ (by first | omega | (dsimp only; omega))) (fr_484 _ (by first | omega | (dsimp only; omega))) (kp_485 3 rfl) (kp_485 44 rfl) (kp_485 45 rfl) (kp_485 47 rfl) (kp_485 48 rfl) (by omega) (by omega)
                exact (hp _ _ _ hR_483 hf_486 (Or.inr rfl) (by first | omega | (intro h; omega) | exact Or.inl rfl | exact Or.inr rfl) (by first | omega | (intro h; omega) | exact Or.inl rfl | exact Or.inr rfl) (by first | omega | (intro h; omega) | exact Or.inl rfl | exact Or.inr rfl) (by first | omega | (intro h; omega) | exact Or.inl rfl | exact Or.inr rfl) (by first | omega | (intro h; omega) | exact Or.inl rfl | exact Or.inr rfl) (by clear hg; first | (intro h; exfalso; omega) | exact fun _ => k_497 | exact fun _ => (False.elim (by omega))) k_496 u_478 u_479 hg.symm)
            · have d_498 := iEq c_383
              replace hg := gt_pos (by first | exact d_498 | omega) hg
              have pt := pN_r (I (o + 32) ((I o 48) - 1).toNatClampNeg).toInt
              have pv := pN_r x1.toInt
              have pw := pB_r x1.toInt
              have px := pO_r x1.toInt
              have tn := hi9 (by omega)
              have tk := hi14.2 (by omega)
              have l_499 : (38 : Int32).toInt = 38 := rfl
              refine y_Model_pileg hok hw ra hz58 (by first | omega | (intro h; omega) | exact Or.inl rfl | exact Or.inr rfl) (by first | omega | (intro h; omega) | exact Or.inl rfl | exact Or.inr rfl) hR (fun I_505 L_506 hR_507 fr_508 kp_509 u_501 u_502 u_503 gn_504 => ⟨I_505, L_506, rfl, rfl, ?_⟩)
              replace hg := gt_b3 gn_504 hg
              clear gn_504
              have hf_510 : Fm (fun c => c = o ∨ (o + 30 ≤ c ∧ c < o + 34)) I0 I_505 := hf.call fr_508 (fun c hc => by first | exact hc | (dsimp only at hc ⊢; omega) | omega)
              have t_511 : (I_505 o 3).toInt = (I o 3).toInt := by rw [kp_509 3 rfl]
              have t_512 : (I_505 o 4).toInt = (I o 4).toInt := by rw [kp_509 4 rfl]
              have t_513 : (I_505 o 6).toInt = (I o 6).toInt := by rw [kp_509 6 rfl]
              have t_514 : (I_505 o 7).toInt = (I o 7).toInt := by rw [kp_509 7 rfl]
              have t_515 : (I_505 o 8).toInt = (I o 8).toInt := by rw [kp_509 8 rfl]
              have t_516 : (I_505 o 9).toInt = (I o 9).toInt := by rw [kp_509 9 rfl]
              have t_517 : (I_505 o 44).toInt = (I o 44).toInt := by rw [kp_509 44 rfl]
              have t_518 : (I_505 o 45).toInt = (I o 45).toInt := by rw [kp_509 45 rfl]
              have t_519 : (I_505 o 47).toInt = (I o 47).toInt := by rw [kp_509 47 rfl]
              have g_520 : (0 : Int) ≤ (I_505 o 48).toInt ∧ (I_505 o 48).toInt ≤ 80 := hR_507.at0 ra 48 (by decide)
              have k_521 : MTd I_505 o := hi12.fr (fr_508 _ (by first | omega | (dsimp only; omega))) (fr_508 _ (by first | omega | (dsimp only; omega))) (fr_508 _ (by first | omega | (dsimp only; omega)))
              have k_522 : MPo I_505 o := hi13.fr (kp_509 8 rfl) (kp_509 9 rfl)
              have k_523 : MTk I_505 o := hi14.fr (kp_509 6 rfl) (kp_509 7 rfl) (kp_509 8 rfl)
              have k_524 : EX 0 0 1 f0 1 I_505 o := by exact EX.push hi11 (by omega) (by omega) (by omega) (by omega) ⟨by omega, by omega⟩ (SgOK.bn (by omega) (by first | (unfold Bn isT; decide) | (rw [(False.elim (by omega)), hf (o + 2) (by first | omega | (dsimp only; omega)), show I o 3 = I0 o 3 from hZ _ 3 rfl hR, show I o 6 = I0 o 6 from Int32.toInt_inj.mp (by omega)]; exact hi10 (by omega)))) (Or.inr (by omega)) (fr_508 _ (by first | omega | (dsimp only; omega))) (fr_508 _ (by first | omega | (dsimp only; omega))) (fr_508 _ (by first | omega | (dsimp only; omega))) u_501 u_502 (kp_509 3 rfl) (kp_509 6 rfl) (kp_509 44 rfl) (kp_509 45 rfl) (kp_509 47 rfl) u_503
              refine y_Model_nextg hok hw ra hz16 hz17 hz18 hz19 (by first | omega | (intro h; omega) | exact Or.inl rfl | exact Or.inr rfl) hR_507 (fun I_535 L_536 hR_537 fr_538 kp_539 u_526 u_527 u_528 u_529 u_530 u_531 u_532 u_533 gn_534 => ⟨I_535, L_536, rfl, rfl, ?_⟩)
              replace hg := gt_b3 gn_534 hg
              clear gn_534
              have hf_540 : Fm (fun c => c = o ∨ (o + 30 ≤ c ∧ c < o + 34)) I0 I_535 := hf_510.call fr_538 (fun c hc => by first | exact hc | (dsimp only at hc ⊢; omega) | omega)
              have t_541 : (I_535 o 3).toInt = (I_505 o 3).toInt := by rw [kp_539 3 rfl]
              have t_542 : (I_535 o 4).toInt = (I_505 o 4).toInt := by rw [kp_539 4 rfl]
              have g_543 : (0 : Int) ≤ (I_535 o 6).toInt ∧ (I_535 o 6).toInt ≤ 1600 := hR_537.at0 ra 6 (by decide)
              have g_544 : (0 : Int) ≤ (I_535 o 7).toInt ∧ (I_535 o 7).toInt ≤ 1601 := hR_537.at0 ra 7 (by decide)
              have g_545 : (0 : Int) ≤ (I_535 o 8).toInt ∧ (I_535 o 8).toInt ≤ 6 := hR_537.at0 ra 8 (by decide)
              have t_546 : (I_535 o 44).toInt = (I_505 o 44).toInt := by rw [kp_539 44 rfl]
              have t_547 : (I_535 o 45).toInt = (I_505 o 45).toInt := by rw [kp_539 45 rfl]
              have t_548 : (I_535 o 47).toInt = (I_505 o 47).toInt := by rw [kp_539 47 rfl]
              have t_549 : (I_535 o 48).toInt = (I_505 o 48).toInt := by rw [kp_539 48 rfl]
              have k_550 : MTd I_535 o := k_521.fr (fr_538 _ (by first | omega | (dsimp only; omega))) (fr_538 _ (by first | omega | (dsimp only; omega))) (fr_538 _ (by first | omega | (dsimp only; omega)))
              have ms := u_529 (by omega)
              have k_551 : EX 0 0 0 f0 1 I_535 o := by exact EX.nx k_524 (fr_538 _ (by first | omega | (dsimp only; omega))) (fr_538 _ (by first | omega | (dsimp only; omega))) (fr_538 _ (by first | omega | (dsimp only; omega))) (fr_538 _ (by first | omega | (dsimp only; omega))) (fr_538 _ (by first | omega | (dsimp only; omega))) (kp_539 3 rfl) (kp_539 44 rfl) (kp_539 45 rfl) (kp_539 47 rfl) (kp_539 48 rfl) (by omega) (by omega)
              exact (hp _ _ _ hR_537 hf_540 (Or.inr rfl) (by first | omega | (intro h; omega) | exact Or.inl rfl | exact Or.inr rfl) (by first | omega | (intro h; omega) | exact Or.inl rfl | exact Or.inr rfl) (by first | omega | (intro h; omega) | exact Or.inl rfl | exact Or.inr rfl) (by first | omega | (intro h; omega) | exact Or.inl rfl | exact Or.inr rfl) (by first | omega | (intro h; omega) | exact Or.inl rfl | exact Or.inr rfl) (by clear hg; first | (intro h; exfalso; omega) | exact fun _ => k_551 | exact fun _ => (False.elim (by omega))) k_550 u_532 u_533 hg.symm)
      · have d_552 := iNlt c_346
        replace hg := gt_neg (by first | exact d_552 | omega) hg
        have l_553 : (0 : Int32).toInt = 0 := rfl
        refine ⟨fun c_554 => ?_, fun c_554 => ?_⟩
        · have d_555 := iNe c_554
          replace hg := gt_neg (by first | exact d_555 | omega) hg
          unfold fModel_behind_108
          replace hg := (eModel_behind_108).symm.trans hg
          have lw := hi11.low (by omega)
          refine ⟨fun c_556 => ?_, fun c_556 => ?_⟩
          · have d_557 := iLe c_556
            replace hg := gt_pos (by first | exact d_557 | omega) hg
            refine ⟨fun c_558 => ?_, fun c_558 => ?_⟩
            · have d_559 := iEq c_558
              exfalso; omega
            · have d_560 := iNe c_558
              replace hg := gt_neg (by first | exact d_560 | omega) hg
              refine y_Model_wrongg hok hw ra hz14 hz15 hR (fun I_565 L_566 hR_567 fr_568 kp_569 u_562 u_563 gn_564 => ⟨I_565, L_566, rfl, rfl, ?_⟩)
              replace hg := gt_b3 gn_564 hg
              clear gn_564
              have hf_570 : Fm (fun c => c = o ∨ (o + 30 ≤ c ∧ c < o + 34)) I0 I_565 := hf.call fr_568 (fun c hc => by first | exact hc | (dsimp only at hc ⊢; omega) | omega)
              have t_571 : (I_565 o 3).toInt = (I o 3).toInt := by rw [kp_569 3 rfl]
              have g_572 : (0 : Int) ≤ (I_565 o 4).toInt ∧ (I_565 o 4).toInt ≤ 5 := hR_567.at0 ra 4 (by decide)
              have t_573 : (I_565 o 6).toInt = (I o 6).toInt := by rw [kp_569 6 rfl]
              have t_574 : (I_565 o 7).toInt = (I o 7).toInt := by rw [kp_569 7 rfl]
              have t_575 : (I_565 o 8).toInt = (I o 8).toInt := by rw [kp_569 8 rfl]
              have t_576 : (I_565 o 9).toInt = (I o 9).toInt := by rw [kp_569 9 rfl]
              have t_577 : (I_565 o 44).toInt = (I o 44).toInt := by rw [kp_569 44 rfl]
              have t_578 : (I_565 o 45).toInt = (I o 45).toInt := by rw [kp_569 45 rfl]
              have t_579 : (I_565 o 47).toInt = (I o 47).toInt := by rw [kp_569 47 rfl]
              have t_580 : (I_565 o 48).toInt = (I o 48).toInt := by rw [kp_569 48 rfl]
              have k_581 : EX 0 0 0 f0 0 I_565 o := hi11.fr (fr_568 _ (by first | omega | (dsimp only; omega))) (fr_568 _ (by first | omega | (dsimp only; omega))) (fr_568 _ (by first | omega | (dsimp only; omega))) (fr_568 _ (by first | omega | (dsimp only; omega))) (fr_568 _ (by first | omega | (dsimp only; omega))) (kp_569 3 rfl) (kp_569 6 rfl) (kp_569 44 rfl) (kp_569 45 rfl) (kp_569 47 rfl) (kp_569 48 rfl)
              have k_582 : MTd I_565 o := hi12.fr (fr_568 _ (by first | omega | (dsimp only; omega))) (fr_568 _ (by first | omega | (dsimp only; omega))) (fr_568 _ (by first | omega | (dsimp only; omega)))
              have k_583 : MPo I_565 o := hi13.fr (kp_569 8 rfl) (kp_569 9 rfl)
              have k_584 : MTk I_565 o := hi14.fr (kp_569 6 rfl) (kp_569 7 rfl) (kp_569 8 rfl)
              exact (hp _ _ _ hR_567 hf_570 (Or.inr rfl) (by first | omega | (intro h; omega) | exact Or.inl rfl | exact Or.inr rfl) (by first | omega | (intro h; omega) | exact Or.inl rfl | exact Or.inr rfl) (by first | omega | (intro h; omega) | exact Or.inl rfl | exact Or.inr rfl) (by first | omega | (intro h; omega) | exact Or.inl rfl | exact Or.inr rfl) (by first | omega | (intro h; omega) | exact Or.inl rfl | exact Or.inr rfl) (by clear hg; first | (intro h; exfalso; omega) | exact fun _ => (False.elim (by omega)) | exact fun _ => k_581) k_582 k_583 k_584 hg.symm)
          · have d_585 := iNle c_556
            replace hg := gt_neg (by first | exact d_585 | omega) hg
            refine ⟨fun c_586 => ?_, fun c_586 => ?_⟩
            · have d_587 := iNe c_586
              replace hg := gt_neg (by first | exact d_587 | omega) hg
              refine ⟨fun c_588 => ?_, fun c_588 => ?_⟩
              · have d_589 := iEq c_588
                exfalso; omega
              · have d_590 := iNe c_588
                replace hg := gt_neg (by first | exact d_590 | omega) hg
                refine y_Model_wrongg hok hw ra hz14 hz15 hR (fun I_595 L_596 hR_597 fr_598 kp_599 u_592 u_593 gn_594 => ⟨I_595, L_596, rfl, rfl, ?_⟩)
                replace hg := gt_b3 gn_594 hg
                clear gn_594
                have hf_600 : Fm (fun c => c = o ∨ (o + 30 ≤ c ∧ c < o + 34)) I0 I_595 := hf.call fr_598 (fun c hc => by first | exact hc | (dsimp only at hc ⊢; omega) | omega)
                have t_601 : (I_595 o 3).toInt = (I o 3).toInt := by rw [kp_599 3 rfl]
                have g_602 : (0 : Int) ≤ (I_595 o 4).toInt ∧ (I_595 o 4).toInt ≤ 5 := hR_597.at0 ra 4 (by decide)
                have t_603 : (I_595 o 6).toInt = (I o 6).toInt := by rw [kp_599 6 rfl]
                have t_604 : (I_595 o 7).toInt = (I o 7).toInt := by rw [kp_599 7 rfl]
                have t_605 : (I_595 o 8).toInt = (I o 8).toInt := by rw [kp_599 8 rfl]
                have t_606 : (I_595 o 9).toInt = (I o 9).toInt := by rw [kp_599 9 rfl]
                have t_607 : (I_595 o 44).toInt = (I o 44).toInt := by rw [kp_599 44 rfl]
                have t_608 : (I_595 o 45).toInt = (I o 45).toInt := by rw [kp_599 45 rfl]
                have t_609 : (I_595 o 47).toInt = (I o 47).toInt := by rw [kp_599 47 rfl]
                have t_610 : (I_595 o 48).toInt = (I o 48).toInt := by rw [kp_599 48 rfl]
                have k_611 : EX 0 0 0 f0 0 I_595 o := hi11.fr (fr_598 _ (by first | omega | (dsimp only; omega))) (fr_598 _ (by first | omega | (dsimp only; omega))) (fr_598 _ (by first | omega | (dsimp only; omega))) (fr_598 _ (by first | omega | (dsimp only; omega))) (fr_598 _ (by first | omega | (dsimp only; omega))) (kp_599 3 rfl) (kp_599 6 rfl) (kp_599 44 rfl) (kp_599 45 rfl) (kp_599 47 rfl) (kp_599 48 rfl)
                have k_612 : MTd I_595 o := hi12.fr (fr_598 _ (by first | omega | (dsimp only; omega))) (fr_598 _ (by first | omega | (dsimp only; omega))) (fr_598 _ (by first | omega | (dsimp only; omega)))
                have k_613 : MPo I_595 o := hi13.fr (kp_599 8 rfl) (kp_599 9 rfl)
                have k_614 : MTk I_595 o := hi14.fr (kp_599 6 rfl) (kp_599 7 rfl) (kp_599 8 rfl)
                exact (hp _ _ _ hR_597 hf_600 (Or.inr rfl) (by first | omega | (intro h; omega) | exact Or.inl rfl | exact Or.inr rfl) (by first | omega | (intro h; omega) | exact Or.inl rfl | exact Or.inr rfl) (by first | omega | (intro h; omega) | exact Or.inl rfl | exact Or.inr rfl) (by first | omega | (intro h; omega) | exact Or.inl rfl | exact Or.inr rfl) (by first | omega | (intro h; omega) | exact Or.inl rfl | exact Or.inr rfl) (by clear hg; first | (intro h; exfalso; omega) | exact fun _ => (False.elim (by omega)) | exact fun _ => k_611) k_612 k_613 k_614 hg.symm)
            · have d_615 := iEq c_586
              exfalso; omega
        · have d_616 := iEq c_554
          replace hg := gt_pos (by first | exact d_616 | omega) hg
          have lw := hi11.low (by omega)
          have g_617 : (0 : Int) ≤ (I o 48).toInt ∧ (I o 48).toInt ≤ 80 := hR.at0 ra 48 (by decide)
          replace hg := gt_let (y := (I o 48).toInt) rfl hg
          have a_618 : ((I o 48) - 1).toInt = (I o 48).toInt - (1 : Int32).toInt := tSub (by omega) (by omega)
          replace hg := gt_let (y := (((I o 48) - 1) : Int32).toInt) (by omega) hg
          refine fun I_619 e_620 => ?_
          replace hg := gt_let (y := tI I_619) (tI_q e_620) hg
          have hR_621 : RI R I_619 := hR.up0 (k := 48) ra (by decide) (Or.inr hz58) e_620 (show (0 : Int) ≤ ((I o 48) - 1).toInt by omega) (show ((I o 48) - 1).toInt ≤ (80 : Int) by omega)
          have hf_622 : Fm (fun c => c = o ∨ (o + 30 ≤ c ∧ c < o + 34)) I0 I_619 := hf.set (by first | rfl | omega | (dsimp only; omega)) e_620
          have t_623 : (I_619 o 3).toInt = (I o 3).toInt := by rw [← e_620, q_u_k (by decide)]
          have t_624 : (I_619 o 4).toInt = (I o 4).toInt := by rw [← e_620, q_u_k (by decide)]
          have t_625 : (I_619 o 6).toInt = (I o 6).toInt := by rw [← e_620, q_u_k (by decide)]
          have t_626 : (I_619 o 7).toInt = (I o 7).toInt := by rw [← e_620, q_u_k (by decide)]
          have t_627 : (I_619 o 8).toInt = (I o 8).toInt := by rw [← e_620, q_u_k (by decide)]
          have t_628 : (I_619 o 9).toInt = (I o 9).toInt := by rw [← e_620, q_u_k (by decide)]
          have t_629 : (I_619 o 44).toInt = (I o 44).toInt := by rw [← e_620, q_u_k (by decide)]
          have t_630 : (I_619 o 45).toInt = (I o 45).toInt := by rw [← e_620, q_u_k (by decide)]
          have t_631 : (I_619 o 47).toInt = (I o 47).toInt := by rw [← e_620, q_u_k (by decide)]
          have t_632 : (I_619 o 48).toInt = ((I o 48) - 1).toInt := by rw [← e_620, q_u_at]
          have k_634 : MTd I_619 o := hi12.fr (by rw [← e_620]; exact q_u_ne (by omega)) (by rw [← e_620]; exact q_u_ne (by omega)) (by rw [← e_620]; exact q_u_ne (by omega))
          have k_635 : MPo I_619 o := hi13.fr (by rw [← e_620, q_u_k (by decide)]) (by rw [← e_620, q_u_k (by decide)])
          have k_636 : MTk I_619 o := hi14.fr (by rw [← e_620, q_u_k (by decide)]) (by rw [← e_620, q_u_k (by decide)]) (by rw [← e_620, q_u_k (by decide)])
          have wq : I_619 (o + 32) (I_619 o 48).toNatClampNeg = I (o + 32) ((I o 48) - 1).toNatClampNeg := by rw [← e_620, q_u_ne (by omega), q_u_at]
          have wi := iEq wq
          have k_637 : EX 1 0 0 f0 0 I_619 o := by exact EX.put48 hi11 e_620 (by omega)
          have of := (k_637.off (by omega)).2
          have g_638 : (0 : Int) ≤ (I_619 o 48).toInt ∧ (I_619 o 48).toInt ≤ 80 := hR_621.at0 ra 48 (by decide)
          replace hg := gt_let (y := (I_619 o 48).toInt) rfl hg
          refine ⟨tIn (by omega) (by omega), ?_⟩
          have g_639 : (0 : Int) ≤ (I_619 (o + 32) ((I_619 o 48) : Int32).toNatClampNeg).toInt ∧ (I_619 (o + 32) ((I_619 o 48) : Int32).toNatClampNeg).toInt ≤ 8 := hR_621.at ra 32 _ (by decide)
          replace hg := gt_let (y := (I_619 (o + 32) ((I_619 o 48) : Int32).toNatClampNeg).toInt) rfl hg
          have l_640 : (3 : Int32).toInt = 3 := rfl
          refine ⟨fun c_641 => ?_, fun c_641 => ?_⟩
          · have d_642 := iNe c_641
            replace hg := gt_neg (by first | exact d_642 | omega) hg
            unfold fModel_behind_91
            replace hg := (eModel_behind_91).symm.trans hg
            have cd := k_637.cod
            have of := (k_637.off (by omega)).2
            have pb := pB_r (I_619 (o + 32) (I_619 o 48).toNatClampNeg).toInt
            have po := pO_r (I_619 (o + 32) (I_619 o 48).toNatClampNeg).toInt
            have g_643 : (0 : Int) ≤ (I_619 o 48).toInt ∧ (I_619 o 48).toInt ≤ 80 := hR_621.at0 ra 48 (by decide)
            replace hg := gt_let (y := (I_619 o 48).toInt) rfl hg
            refine ⟨tIn (by omega) (by omega), ?_⟩
            replace hg := gt_let (y := (I_619 (o + 33) ((I_619 o 48) : Int32).toNatClampNeg).toInt) rfl hg
            refine y_Model_stepg hok hw ra hz55 (by first | omega | (intro h; omega) | exact Or.inl rfl | exact Or.inr rfl) (by first | omega | (intro h; omega) | exact Or.inl rfl | exact Or.inr rfl) hR_621 (fun I_648 L_649 hR_650 fr_651 kp_652 u_645 u_646 gn_647 => ⟨I_648, L_649, rfl, rfl, ?_⟩)
            replace hg := gt_b3 gn_647 hg
            clear gn_647
            have hf_653 : Fm (fun c => c = o ∨ (o + 30 ≤ c ∧ c < o + 34)) I0 I_648 := hf_622.call fr_651 (fun c hc => by first | exact hc | (dsimp only at hc ⊢; omega) | omega)
            have t_654 : (I_648 o 3).toInt = (I_619 o 3).toInt := by rw [kp_652 3 rfl]
            have t_655 : (I_648 o 4).toInt = (I_619 o 4).toInt := by rw [kp_652 4 rfl]
            have t_656 : (I_648 o 6).toInt = (I_619 o 6).toInt := by rw [kp_652 6 rfl]
            have t_657 : (I_648 o 7).toInt = (I_619 o 7).toInt := by rw [kp_652 7 rfl]
            have t_658 : (I_648 o 8).toInt = (I_619 o 8).toInt := by rw [kp_652 8 rfl]
            have t_659 : (I_648 o 9).toInt = (I_619 o 9).toInt := by rw [kp_652 9 rfl]
            have t_660 : (I_648 o 44).toInt = (I_619 o 44).toInt := by rw [kp_652 44 rfl]
            have g_661 : (0 : Int) ≤ (I_648 o 45).toInt ∧ (I_648 o 45).toInt ≤ 700 := hR_650.at0 ra 45 (by decide)
            have t_662 : (I_648 o 47).toInt = (I_619 o 47).toInt := by rw [kp_652 47 rfl]
            have t_663 : (I_648 o 48).toInt = (I_619 o 48).toInt := by rw [kp_652 48 rfl]
            have k_664 : MPo I_648 o := k_635.fr (kp_652 8 rfl) (kp_652 9 rfl)
            have k_665 : MTk I_648 o := k_636.fr (kp_652 6 rfl) (kp_652 7 rfl) (kp_652 8 rfl)
            have k_666 : EX 0 0 0 f0 0 I_648 o := by first | exact EX.step0 (d := 1) (False.elim (by omega)) (by omega) (by omega) (by omega) rfl (fr_651 _ (by first | omega | (dsimp only; omega))) (fr_651 _ (by first | omega | (dsimp only; omega))) u_645 (fr_651 _ (by first | omega | (dsimp only; omega))) (fr_651 _ (by first | omega | (dsimp only; omega))) (kp_652 3 rfl) (kp_652 6 rfl) (kp_652 44 rfl) u_646 (kp_652 47 rfl) (kp_652 48 rfl) | exact EX.step0 (d := 0) k_637 (by omega) (by omega) (by omega) rfl (fr_651 _ (by first | omega | (dsimp only; omega))) (fr_651 _ (by first | omega | (dsimp only; omega))) u_645 (fr_651 _ (by first | omega | (dsimp only; omega))) (fr_651 _ (by first | omega | (dsimp only; omega))) (kp_652 3 rfl) (kp_652 6 rfl) (kp_652 44 rfl) u_646 (kp_652 47 rfl) (kp_652 48 rfl)
            have k_667 : MTd I_648 o := by exact MTd.step k_634 (fr_651 _ (by first | omega | (dsimp only; omega))) (fr_651 _ (by first | omega | (dsimp only; omega))) u_645 (by omega)
            exact ih hR_650 hf_653 (by first | omega | (intro h; omega) | exact Or.inl rfl | exact Or.inr rfl) (by first | omega | (intro h; omega) | exact Or.inl rfl | exact Or.inr rfl) (by first | omega | (intro h; omega) | exact Or.inl rfl | exact Or.inr rfl) (by first | omega | (intro h; omega) | exact Or.inl rfl | exact Or.inr rfl) (by first | omega | (intro h; omega) | exact Or.inl rfl | exact Or.inr rfl) (by first | omega | (intro h; omega) | exact Or.inl rfl | exact Or.inr rfl) (by first | omega | (intro h; omega) | exact Or.inl rfl | exact Or.inr rfl) (by first | omega | (intro h; omega) | exact Or.inl rfl | exact Or.inr rfl) (by first | omega | (intro h; omega) | exact Or.inl rfl | exact Or.inr rfl) (by first | assumption | exact False.elim) (by first | assumption | exact False.elim) k_666 k_667 k_664 k_665 hg (by omega)
          · have d_668 := iEq c_641
            replace hg := gt_pos (by first | exact d_668 | omega) hg
            have pb := pB_r (I_619 (o + 32) (I_619 o 48).toNatClampNeg).toInt
            have g_669 : (0 : Int) ≤ (I_619 o 47).toInt ∧ (I_619 o 47).toInt ≤ 7 := hR_621.at0 ra 47 (by decide)
            replace hg := gt_let (y := (I_619 o 47).toInt) rfl hg
            have a_670 : ((I_619 o 47) - 1).toInt = (I_619 o 47).toInt - (1 : Int32).toInt := tSub (by omega) (by omega)
            replace hg := gt_let (y := (((I_619 o 47) - 1) : Int32).toInt) (by omega) hg
            refine fun I_671 e_672 => ?_
            replace hg := gt_let (y := tI I_671) (tI_q e_672) hg
            have hR_673 : RI R I_671 := hR_621.up0 (k := 47) ra (by decide) (Or.inr hz57) e_672 (show (0 : Int) ≤ ((I_619 o 47) - 1).toInt by omega) (show ((I_619 o 47) - 1).toInt ≤ (7 : Int) by omega)
            have hf_674 : Fm (fun c => c = o ∨ (o + 30 ≤ c ∧ c < o + 34)) I0 I_671 := hf_622.set (by first | rfl | omega | (dsimp only; omega)) e_672
            have t_675 : (I_671 o 3).toInt = (I_619 o 3).toInt := by rw [← e_672, q_u_k (by decide)]
            have t_676 : (I_671 o 4).toInt = (I_619 o 4).toInt := by rw [← e_672, q_u_k (by decide)]
            have t_677 : (I_671 o 6).toInt = (I_619 o 6).toInt := by rw [← e_672, q_u_k (by decide)]
            have t_678 : (I_671 o 7).toInt = (I_619 o 7).toInt := by rw [← e_672, q_u_k (by decide)]
            have t_679 : (I_671 o 8).toInt = (I_619 o 8).toInt := by rw [← e_672, q_u_k (by decide)]
            have t_680 : (I_671 o 9).toInt = (I_619 o 9).toInt := by rw [← e_672, q_u_k (by decide)]
            have t_681 : (I_671 o 44).toInt = (I_619 o 44).toInt := by rw [← e_672, q_u_k (by decide)]
            have t_682 : (I_671 o 45).toInt = (I_619 o 45).toInt := by rw [← e_672, q_u_k (by decide)]
            have t_683 : (I_671 o 47).toInt = ((I_619 o 47) - 1).toInt := by rw [← e_672, q_u_at]
            have t_684 : (I_671 o 48).toInt = (I_619 o 48).toInt := by rw [← e_672, q_u_k (by decide)]
            have k_685 : MTd I_671 o := k_634.fr (by rw [← e_672]; exact q_u_ne (by omega)) (by rw [← e_672]; exact q_u_ne (by omega)) (by rw [← e_672]; exact q_u_ne (by omega))
            have k_686 : MPo I_671 o := k_635.fr (by rw [← e_672, q_u_k (by decide)]) (by rw [← e_672, q_u_k (by decide)])
            have k_687 : MTk I_671 o := k_636.fr (by rw [← e_672, q_u_k (by decide)]) (by rw [← e_672, q_u_k (by decide)]) (by rw [← e_672, q_u_k (by decide)])
            unfold fModel_behind_91
            replace hg := (eModel_behind_91).symm.trans hg
            have k_689 : EX 1 1 0 f0 0 I_671 o := by exact EX.put47 k_637 e_672 (by omega)
            have wz_k_689 : I_671 (o + 32) (I_671 o 48).toNatClampNeg = I_619 (o + 32) (I_619 o 48).toNatClampNeg := by rw [← e_672, q_u_ne (by omega), q_u_k (by decide)]
            have wy := iEq wz_k_689
            have cd := k_689.cod
            have of := (k_689.off (by omega)).2
            have pb := pB_r (I_671 (o + 32) (I_671 o 48).toNatClampNeg).toInt
            have po := pO_r (I_671 (o + 32) (I_671 o 48).toNatClampNeg).toInt
            have g_690 : (0 : Int) ≤ (I_671 o 48).toInt ∧ (I_671 o 48).toInt ≤ 80 := hR_673.at0 ra 48 (by decide)
            replace hg := gt_let (y := (I_671 o 48).toInt) rfl hg
            refine ⟨tIn (by omega) (by omega), ?_⟩
            replace hg := gt_let (y := (I_671 (o + 33) ((I_671 o 48) : Int32).toNatClampNeg).toInt) rfl hg
            refine y_Model_stepg hok hw ra hz55 (by first | omega | (intro h; omega) | exact Or.inl rfl | exact Or.inr rfl) (by first | omega | (intro h; omega) | exact Or.inl rfl | exact Or.inr rfl) hR_673 (fun I_695 L_696 hR_697 fr_698 kp_699 u_692 u_693 gn_694 => ⟨I_695, L_696, rfl, rfl, ?_⟩)
            replace hg := gt_b3 gn_694 hg
            clear gn_694
            have hf_700 : Fm (fun c => c = o ∨ (o + 30 ≤ c ∧ c < o + 34)) I0 I_695 := hf_674.call fr_698 (fun c hc => by first | exact hc | (dsimp only at hc ⊢; omega) | omega)
            have t_701 : (I_695 o 3).toInt = (I_671 o 3).toInt := by rw [kp_699 3 rfl]
            have t_702 : (I_695 o 4).toInt = (I_671 o 4).toInt := by rw [kp_699 4 rfl]
            have t_703 : (I_695 o 6).toInt = (I_671 o 6).toInt := by rw [kp_699 6 rfl]
            have t_704 : (I_695 o 7).toInt = (I_671 o 7).toInt := by rw [kp_699 7 rfl]
            have t_705 : (I_695 o 8).toInt = (I_671 o 8).toInt := by rw [kp_699 8 rfl]
            have t_706 : (I_695 o 9).toInt = (I_671 o 9).toInt := by rw [kp_699 9 rfl]
            have t_707 : (I_695 o 44).toInt = (I_671 o 44).toInt := by rw [kp_699 44 rfl]
            have g_708 : (0 : Int) ≤ (I_695 o 45).toInt ∧ (I_695 o 45).toInt ≤ 700 := hR_697.at0 ra 45 (by decide)
            have t_709 : (I_695 o 47).toInt = (I_671 o 47).toInt := by rw [kp_699 47 rfl]
            have t_710 : (I_695 o 48).toInt = (I_671 o 48).toInt := by rw [kp_699 48 rfl]
            have k_711 : MPo I_695 o := k_686.fr (kp_699 8 rfl) (kp_699 9 rfl)
            have k_712 : MTk I_695 o := k_687.fr (kp_699 6 rfl) (kp_699 7 rfl) (kp_699 8 rfl)
            have k_713 : EX 0 0 0 f0 0 I_695 o := by first | exact EX.step0 (d := 1) k_689 (by omega) (by omega) (by omega) rfl (fr_698 _ (by first | omega | (dsimp only; omega))) (fr_698 _ (by first | omega | (dsimp only; omega))) u_692 (fr_698 _ (by first | omega | (dsimp only; omega))) (fr_698 _ (by first | omega | (dsimp only; omega))) (kp_699 3 rfl) (kp_699 6 rfl) (kp_699 44 rfl) u_693 (kp_699 47 rfl) (kp_699 48 rfl) | exact EX.step0 (d := 0) k_637 (by omega) (by omega) (by omega) rfl (fr_698 _ (by first | omega | (dsimp only; omega))) (fr_698 _ (by first | omega | (dsimp only; omega))) u_692 (fr_698 _ (by first | omega | (dsimp only; omega))) (fr_698 _ (by first | omega | (dsimp only; omega))) (kp_699 3 rfl) (kp_699 6 rfl) (kp_699 44 rfl) u_693 (kp_699 47 rfl) (kp_699 48 rfl)
            have k_714 : MTd I_695 o := by exact MTd.step k_685 (fr_698 _ (by first | omega | (dsimp only; omega))) (fr_698 _ (by first | omega | (dsimp only; omega))) u_692 (by omega)
            exact ih hR_697 hf_700 (by first | omega | (intro h; omega) | exact Or.inl rfl | exact Or.inr rfl) (by first | omega | (intro h; omega) | exact Or.inl rfl | exact Or.inr rfl) (by first | omega | (intro h; omega) | exact Or.inl rfl | exact Or.inr rfl) (by first | omega | (intro h; omega) | exact Or.inl rfl | exact Or.inr rfl) (by first | omega | (intro h; omega) | exact Or.inl rfl | exact Or.inr rfl) (by first | omega | (intro h; omega) | exact Or.inl rfl | exact Or.inr rfl) (by first | omega | (intro h; omega) | exact Or.inl rfl | exact Or.inr rfl) (by first | omega | (intro h; omega) | exact Or.inl rfl | exact Or.inr rfl) (by first | omega | (intro h; omega) | exact Or.inl rfl | exact Or.inr rfl) (by first | assumption | exact False.elim) (by first | assumption | exact False.elim) k_713 k_714 k_711 k_712 hg (by omega)
set_option maxHeartbeats 4000000 in
set_option maxRecDepth 20000 in
theorem yc_Model_behindg {D : va_G} {cA : FieldType → ClassId} {b : Nat} {E : State → Prop} {R : qRg} {o n : Nat} {sh : Nat → qC} {Rf : Nat → Nat → Option Nat} {I0 : Nat → Nat → Int32} {L0 : Nat → Nat → Int64} {post : Option Value → qS → Prop} {f0 : Nat} (hok : q_ok (qGG D cA b E)) (hw : WfModel (qGG D cA b E) n sh Rf o) (ra : RAModel R o) (hz14 : R.2 14 = true) (hz15 : R.2 15 = true) (hz16 : R.2 16 = true) (hz17 : R.2 17 = true) (hz18 : R.2 18 = true) (hz19 : R.2 19 = true) (hz55 : R.2 55 = true) (hz57 : R.2 57 = true) (hz58 : R.2 58 = true) (hZ : Fz R I0 o wModel_behind) (hR0 : RI R I0) (hq0 : (I0 o 7).toInt ≤ (I0 o 3).toInt) (hq1 : (I0 o 4).toInt = 0) (hq2 : 1 ≤ (I0 o 48).toInt) (hq3 : EX 0 0 0 f0 0 I0 o) (hq4 : MTd I0 o) (hq5 : MPo I0 o) (hq6 : MTk I0 o) (hR : RI R I0) (hp : ∀ (r : Int32) (I' : Nat → Nat → Int32) (L' : Nat → Nat → Int64), RI R I' → Fm (fun c => c = o ∨ (o + 30 ≤ c ∧ c < o + 34)) I0 I' → (Bz r) → ((I' o 7).toInt ≤ (I' o 3).toInt) → ((I0 o 7).toInt ≤ (I' o 7).toInt) → ((I0 o 4).toInt ≤ (I' o 4).toInt) → (7 * (I0 o 7).toInt - (I0 o 8).toInt + (I0 o 4).toInt ≤ 7 * (I' o 7).toInt - (I' o 8).toInt + (I' o 4).toInt) → (81 * (7 * (I0 o 7).toInt - (I0 o 8).toInt + (I0 o 4).toInt) - (I0 o 48).toInt < 81 * (7 * (I' o 7).toInt - (I' o 8).toInt + (I' o 4).toInt) - (I' o 48).toInt) → (Im ((I' o 4).toInt = 0) (EX 0 0 0 f0 r.toInt I' o)) → (MTd I' o) → (MPo I' o) → (MTk I' o) → (gModel_behind_0 o (tI I0) L0 = (r.toInt, tI I', L')) → post (some (.int r)) (n, sh, Rf, I', L')) : Ev (qGG D cA b E) mModel_behind 4 (0, 0) 0 (lv_args 0 [.ref o]) [] (n, sh, Rf, I0, L0) post := by
  have hf : Fm (fun c => c = o ∨ (o + 30 ≤ c ∧ c < o + 34)) I0 I0 := Fm.rf
  have g_715 : (0 : Int) ≤ (I0 o 3).toInt ∧ (I0 o 3).toInt ≤ 1600 := hR.at0 ra 3 (by decide)
  have g_716 : (0 : Int) ≤ (I0 o 4).toInt ∧ (I0 o 4).toInt ≤ 5 := hR.at0 ra 4 (by decide)
  have g_717 : (0 : Int) ≤ (I0 o 6).toInt ∧ (I0 o 6).toInt ≤ 1600 := hR.at0 ra 6 (by decide)
  have g_718 : (0 : Int) ≤ (I0 o 7).toInt ∧ (I0 o 7).toInt ≤ 1601 := hR.at0 ra 7 (by decide)
  have g_719 : (0 : Int) ≤ (I0 o 8).toInt ∧ (I0 o 8).toInt ≤ 6 := hR.at0 ra 8 (by decide)
  have g_720 : (0 : Int) ≤ (I0 o 44).toInt ∧ (I0 o 44).toInt ≤ 4 := hR.at0 ra 44 (by decide)
  have g_721 : (0 : Int) ≤ (I0 o 45).toInt ∧ (I0 o 45).toInt ≤ 700 := hR.at0 ra 45 (by decide)
  have g_722 : (0 : Int) ≤ (I0 o 47).toInt ∧ (I0 o 47).toInt ≤ 7 := hR.at0 ra 47 (by decide)
  have g_723 : (0 : Int) ≤ (I0 o 48).toInt ∧ (I0 o 48).toInt ≤ 80 := hR.at0 ra 48 (by decide)
  refine sModel_behind_0 o n sh Rf I0 L0 post  hok hw ?_
  unfold fModel_behind_0
  have hg : gModel_behind_0 o (tI I0) L0 = gModel_behind_0 o (tI I0) L0 := rfl
  replace hg := (eModel_behind_0).symm.trans hg
  have al := hq3.all (by omega)
  have lw := hq3.low (by omega)
  refine y_Model_rankHereg hok hw ra hR (fun r_724 u_725 u_726 u_727 u_728 gn_729 => ⟨r_724, I0, L0, rfl, rfl, ?_⟩)
  replace hg := gt_let gn_729 hg
  clear gn_729
  have l_730 : (4 : Int32).toInt = 4 := rfl
  refine ⟨fun c_731 => ?_, fun c_731 => ?_⟩
  · have d_732 := iNe c_731
    replace hg := gt_neg (by first | exact d_732 | omega) hg
    unfold fModel_behind_21
    replace hg := (eModel_behind_21).symm.trans hg
    unfold fModel_behind_22
    replace hg := (eModel_behind_22).symm.trans hg
    have l_733 : (0 : Int32).toInt = 0 := rfl
    exact yModel_behind_23g (I0 := I0) (L0 := L0) hok hw ra hz14 hz15 hz16 hz17 hz18 hz19 hz55 hz57 hz58 hZ hR0 hq0 hq1 hq2 hq3 hq4 hq5 hq6 hp  20000 hR hf (by first | omega | (intro h; omega) | exact Or.inl rfl | exact Or.inr rfl) (by first | omega | (intro h; omega) | exact Or.inl rfl | exact Or.inr rfl) (by first | omega | (intro h; omega) | exact Or.inl rfl | exact Or.inr rfl) (by first | omega | (intro h; omega) | exact Or.inl rfl | exact Or.inr rfl) (by first | omega | (intro h; omega) | exact Or.inl rfl | exact Or.inr rfl) (by first | omega | (intro h; omega) | exact Or.inl rfl | exact Or.inr rfl) (by first | omega | (intro h; omega) | exact Or.inl rfl | exact Or.inr rfl) (by first | omega | (intro h; omega) | exact Or.inl rfl | exact Or.inr rfl) (by first | omega | (intro h; omega) | exact Or.inl rfl | exact Or.inr rfl) (by first | assumption | exact u_727) (by first | assumption | exact u_728) hq3 hq4 hq5 hq6 hg (by omega)
  · have d_734 := iEq c_731
    replace hg := gt_pos (by first | exact d_734 | omega) hg
    refine y_Model_isComparedg hok hw ra (by first | omega | (intro h; omega) | exact Or.inl rfl | exact Or.inr rfl) (by first | omega | (intro h; omega) | exact Or.inl rfl | exact Or.inr rfl) hR (fun r_735 u_736 gn_737 => ⟨r_735, I0, L0, rfl, rfl, ?_⟩)
    replace hg := gt_let gn_737 hg
    clear gn_737
    have b_738 : 0 ≤ r_735.toInt ∧ r_735.toInt ≤ 1 := u_736.rg
    have l_739 : (0 : Int32).toInt = 0 := rfl
    refine ⟨fun c_740 => ?_, fun c_740 => ?_⟩
    · have d_741 := iEq c_740
      replace hg := gt_pos (by first | exact d_741 | omega) hg
      unfold fModel_behind_21
      replace hg := (eModel_behind_21).symm.trans hg
      unfold fModel_behind_22
      replace hg := (eModel_behind_22).symm.trans hg
      exact yModel_behind_23g (I0 := I0) (L0 := L0) hok hw ra hz14 hz15 hz16 hz17 hz18 hz19 hz55 hz57 hz58 hZ hR0 hq0 hq1 hq2 hq3 hq4 hq5 hq6 hp  20000 hR hf (by first | omega | (intro h; omega) | exact Or.inl rfl | exact Or.inr rfl) (by first | omega | (intro h; omega) | exact Or.inl rfl | exact Or.inr rfl) (by first | omega | (intro h; omega) | exact Or.inl rfl | exact Or.inr rfl) (by first | omega | (intro h; omega) | exact Or.inl rfl | exact Or.inr rfl) (by first | omega | (intro h; omega) | exact Or.inl rfl | exact Or.inr rfl) (by first | omega | (intro h; omega) | exact Or.inl rfl | exact Or.inr rfl) (by first | omega | (intro h; omega) | exact Or.inl rfl | exact Or.inr rfl) (by first | omega | (intro h; omega) | exact Or.inl rfl | exact Or.inr rfl) (by first | omega | (intro h; omega) | exact Or.inl rfl | exact Or.inr rfl) (by first | assumption | exact u_727) (by first | assumption | exact u_728) hq3 hq4 hq5 hq6 hg (by omega)
    · have d_742 := iNe c_740
      replace hg := gt_neg (by first | exact d_742 | omega) hg
      unfold fModel_behind_22
      replace hg := (eModel_behind_22).symm.trans hg
      have l_743 : (1 : Int32).toInt = 1 := rfl
      exact yModel_behind_23g (I0 := I0) (L0 := L0) hok hw ra hz14 hz15 hz16 hz17 hz18 hz19 hz55 hz57 hz58 hZ hR0 hq0 hq1 hq2 hq3 hq4 hq5 hq6 hp  20000 hR hf (by first | omega | (intro h; omega) | exact Or.inl rfl | exact Or.inr rfl) (by first | omega | (intro h; omega) | exact Or.inl rfl | exact Or.inr rfl) (by first | omega | (intro h; omega) | exact Or.inl rfl | exact Or.inr rfl) (by first | omega | (intro h; omega) | exact Or.inl rfl | exact Or.inr rfl) (by first | omega | (intro h; omega) | exact Or.inl rfl | exact Or.inr rfl) (by first | omega | (intro h; omega) | exact Or.inl rfl | exact Or.inr rfl) (by first | omega | (intro h; omega) | exact Or.inl rfl | exact Or.inr rfl) (by first | omega | (intro h; omega) | exact Or.inl rfl | exact Or.inr rfl) (by first | omega | (intro h; omega) | exact Or.inl rfl | exact Or.inr rfl) (by first | assumption | exact u_727) (by first | assumption | exact u_728) hq3 hq4 hq5 hq6 hg (by omega)
theorem y_Model_behindg {D : va_G} {cA : FieldType → ClassId} {b : Nat} {E : State → Prop} {R : qRg} {o n : Nat} {sh : Nat → qC} {Rf : Nat → Nat → Option Nat} {I0 : Nat → Nat → Int32} {L0 : Nat → Nat → Int64} {post : Option Value → qS → Prop} {f0 : Nat} (hok : q_ok (qGG D cA b E)) (hw : WfModel (qGG D cA b E) n sh Rf o) (ra : RAModel R o) (hz14 : R.2 14 = true) (hz15 : R.2 15 = true) (hz16 : R.2 16 = true) (hz17 : R.2 17 = true) (hz18 : R.2 18 = true) (hz19 : R.2 19 = true) (hz55 : R.2 55 = true) (hz57 : R.2 57 = true) (hz58 : R.2 58 = true) (hq0 : (I0 o 7).toInt ≤ (I0 o 3).toInt) (hq1 : (I0 o 4).toInt = 0) (hq2 : 1 ≤ (I0 o 48).toInt) (hq3 : EX 0 0 0 f0 0 I0 o) (hq4 : MTd I0 o) (hq5 : MPo I0 o) (hq6 : MTk I0 o) (hR : RI R I0) (hp : ∀ (r : Int32) (I' : Nat → Nat → Int32) (L' : Nat → Nat → Int64), RI R I' → Fm (fun c => c = o ∨ (o + 30 ≤ c ∧ c < o + 34)) I0 I' → Kp wModel_behind I0 I' o → (Bz r) → ((I' o 7).toInt ≤ (I' o 3).toInt) → ((I0 o 7).toInt ≤ (I' o 7).toInt) → ((I0 o 4).toInt ≤ (I' o 4).toInt) → (7 * (I0 o 7).toInt - (I0 o 8).toInt + (I0 o 4).toInt ≤ 7 * (I' o 7).toInt - (I' o 8).toInt + (I' o 4).toInt) → (81 * (7 * (I0 o 7).toInt - (I0 o 8).toInt + (I0 o 4).toInt) - (I0 o 48).toInt < 81 * (7 * (I' o 7).toInt - (I' o 8).toInt + (I' o 4).toInt) - (I' o 48).toInt) → (Im ((I' o 4).toInt = 0) (EX 0 0 0 f0 r.toInt I' o)) → (MTd I' o) → (MPo I' o) → (MTk I' o) → (gModel_behind_0 o (tI I0) L0 = (r.toInt, tI I', L')) → post (some (.int r)) (n, sh, Rf, I', L')) : Ev (qGG D cA b E) mModel_behind 4 (0, 0) 0 (lv_args 0 [.ref o]) [] (n, sh, Rf, I0, L0) post :=
  yc_Model_behindg (R := fzR R I0 o wModel_behind) hok hw (fzA ra hR _) (fzT hz14 rfl) (fzT hz15 rfl) (fzT hz16 rfl) (fzT hz17 rfl) (fzT hz18 rfl) (fzT hz19 rfl) (fzT hz55 rfl) (fzT hz57 rfl) (fzT hz58 rfl) fzZ (fzI hR) hq0 hq1 hq2 hq3 hq4 hq5 hq6 (fzI hR) (fun r I' L' h1 h2 u0 u1 u2 u3 u4 u5 u6 u7 u8 u9 ug => hp r I' L' (fzB hR h1) h2 (fzP h1) u0 u1 u2 u3 u4 u5 u6 u7 u8 u9 ug)
noncomputable def gModel_e_48 (K19 : gJ → gL → Int → (Int × gJ × gL)) (o : Nat) (J : gJ) (L : gL) (x1 : Int) (z0 : Int) : Int × gJ × gL := (K19 J L z0)
theorem eModel_e_48 {K19 : gJ → gL → Int → (Int × gJ × gL)} {o : Nat} {J : gJ} {L : gL} {x1 : Int} {z0 : Int} : gModel_e_48 K19 o J L x1 z0 = (K19 J L z0) := rfl
noncomputable def gModel_e_19 (k : Nat) (o : Nat) (J : gJ) (L : gL) (x1 : Int) : Int × gJ × gL := match k with
  | 0 => default
  | k + 1 => gLet (gModel_isGood_0 o J L) (fun (r_1 : Int) => (if r_1 = 0 then (0, J, L) else gLet (J o 48) (fun (v_2 : Int) => (if v_2 ≤ 0 then (0, J, L) else (if x1 = 0 then gB3 (gModel_behind_0 o J L) (fun r_3 J_4 L_5 => (gModel_e_48 (gModel_e_19 k o) o J_4 L_5 x1 r_3)) else gB3 (gModel_unit_0 o J L) (fun r_6 J_7 L_8 => (gModel_e_48 (gModel_e_19 k o) o J_7 L_8 x1 r_6)))))))
theorem eModel_e_19 {k : Nat} {o : Nat} {J : gJ} {L : gL} {x1 : Int} : gModel_e_19 (k + 1) o J L x1 = gLet (gModel_isGood_0 o J L) (fun (r_1 : Int) => (if r_1 = 0 then (0, J, L) else gLet (J o 48) (fun (v_2 : Int) => (if v_2 ≤ 0 then (0, J, L) else (if x1 = 0 then gB3 (gModel_behind_0 o J L) (fun r_3 J_4 L_5 => (gModel_e_48 (gModel_e_19 k o) o J_4 L_5 x1 r_3)) else gB3 (gModel_unit_0 o J L) (fun r_6 J_7 L_8 => (gModel_e_48 (gModel_e_19 k o) o J_7 L_8 x1 r_6))))))) := rfl
noncomputable def gModel_e_0 (o : Nat) (J : gJ) (L : gL) : Int × gJ × gL := gLet (q_u J o 48 0) (fun (J_1 : gJ) => gLet (q_u J_1 o 47 0) (fun (J_2 : gJ) => gB3 (gModel_pile_0 o J_2 L 8 0) (fun r_3 J_4 L_5 => (gModel_e_19 1000000 o J_4 L_5 1))))
theorem eModel_e_0 {o : Nat} {J : gJ} {L : gL} : gModel_e_0 o J L  = gLet (q_u J o 48 0) (fun (J_1 : gJ) => gLet (q_u J_1 o 47 0) (fun (J_2 : gJ) => gB3 (gModel_pile_0 o J_2 L 8 0) (fun r_3 J_4 L_5 => (gModel_e_19 1000000 o J_4 L_5 1)))) := rfl
set_option maxHeartbeats 4000000 in
set_option maxRecDepth 20000 in
theorem yModel_e_19g {D : va_G} {cA : FieldType → ClassId} {b : Nat} {E : State → Prop} {R : qRg} {o n : Nat} {sh : Nat → qC} {Rf : Nat → Nat → Option Nat} {I0 : Nat → Nat → Int32} {L0 : Nat → Nat → Int64} {post : Option Value → qS → Prop} (hok : q_ok (qGG D cA b E)) (hw : WfModel (qGG D cA b E) n sh Rf o) (ra : RAModel R o) (hz14 : R.2 14 = true) (hz15 : R.2 15 = true) (hz16 : R.2 16 = true) (hz17 : R.2 17 = true) (hz18 : R.2 18 = true) (hz19 : R.2 19 = true) (hz55 : R.2 55 = true) (hz56 : R.2 56 = true) (hz57 : R.2 57 = true) (hz58 : R.2 58 = true) (hZ : Fz R I0 o wModel_e) (hR0 : RI R I0) (hq0 : (I0 o 7).toInt ≤ (I0 o 3).toInt) (hq1 : (I0 o 4).toInt = 0) (hq2 : ReS I0 o) (hq3 : MTd I0 o) (hq4 : MPo I0 o) (hq5 : MTk I0 o) (hp : ∀ (I' : Nat → Nat → Int32) (L' : Nat → Nat → Int64), RI R I' → Fm (fun c => c = o ∨ (o + 30 ≤ c ∧ c < o + 34)) I0 I' → ((I' o 7).toInt ≤ (I' o 3).toInt) → ((I0 o 7).toInt ≤ (I' o 7).toInt) → ((I0 o 4).toInt ≤ (I' o 4).toInt) → (7 * (I0 o 7).toInt - (I0 o 8).toInt + (I0 o 4).toInt ≤ 7 * (I' o 7).toInt - (I' o 8).toInt + (I' o 4).toInt) → (Im ((I' o 4).toInt = 0) (ReS I' o ∧ De (I' (o + 30)) (2800 + (I0 o 45).toInt.toNat) ((I' o 45).toInt - ((I0 o 45).toInt.toNat : Nat)).toNat = some 1 ∧ (((I0 o 45).toInt.toNat : Nat) : Int) ≤ (I' o 45).toInt)) → (MTd I' o) → (MPo I' o) → (MTk I' o) → (gModel_e_0 o (tI I0) L0 = (0, tI I', L')) → post none (n, sh, Rf, I', L')) : ∀ (k : Nat) {x1 : Int32} {I : Nat → Nat → Int32} {L : Nat → Nat → Int64}, RI R I → Fm (fun c => c = o ∨ (o + 30 ≤ c ∧ c < o + 34)) I0 I → ((0 : Int) ≤ x1.toInt ∧ x1.toInt ≤ 1) → ((I o 7).toInt ≤ (I o 3).toInt) → ((I0 o 7).toInt ≤ (I o 7).toInt) → (Im ((I o 4).toInt = 0) (EX 0 0 0 (I0 o 45).toInt.toNat x1.toInt I o)) → ((I0 o 4).toInt ≤ (I o 4).toInt) → (7 * (I0 o 7).toInt - (I0 o 8).toInt + (I0 o 4).toInt ≤ 7 * (I o 7).toInt - (I o 8).toInt + (I o 4).toInt) → (MTd I o) → (MPo I o) → (MTk I o) → (gModel_e_19 k o (tI I) L (x1).toInt = gModel_e_0 o (tI I0) L0) → (81 * (11300 - (7 * (I o 7).toInt - (I o 8).toInt + (I o 4).toInt)) + (I o 48).toInt).toNat < k → Ev (qGG D cA b E) mModel_e 5 (0, 0) 19 [(0, .ref o), (1, .int x1)] [] (n, sh, Rf, I, L) post := by
  intro k
  induction k with
  | zero =>
    intro x1 I L hR hf hi0 hi1 hi2 hi3 hi4 hi5 hi6 hi7 hi8 hg hm
    exact absurd hm (Nat.not_lt_zero _)
  | succ k ih =>
    intro x1 I L hR hf hi0 hi1 hi2 hi3 hi4 hi5 hi6 hi7 hi8 hg hm
    have g_1 : (0 : Int) ≤ (I o 3).toInt ∧ (I o 3).toInt ≤ 1600 := hR.at0 ra 3 (by decide)
    have z_2 : (I o 3).toInt = (I0 o 3).toInt := by rw [hZ I 3 rfl hR]
    have g_3 : (0 : Int) ≤ (I o 4).toInt ∧ (I o 4).toInt ≤ 5 := hR.at0 ra 4 (by decide)
    have g_4 : (0 : Int) ≤ (I0 o 4).toInt ∧ (I0 o 4).toInt ≤ 5 := hR0.at0 ra 4 (by decide)
    have g_5 : (0 : Int) ≤ (I o 6).toInt ∧ (I o 6).toInt ≤ 1600 := hR.at0 ra 6 (by decide)
    have g_6 : (0 : Int) ≤ (I0 o 6).toInt ∧ (I0 o 6).toInt ≤ 1600 := hR0.at0 ra 6 (by decide)
    have g_7 : (0 : Int) ≤ (I o 7).toInt ∧ (I o 7).toInt ≤ 1601 := hR.at0 ra 7 (by decide)
    have g_8 : (0 : Int) ≤ (I0 o 7).toInt ∧ (I0 o 7).toInt ≤ 1601 := hR0.at0 ra 7 (by decide)
    have g_9 : (0 : Int) ≤ (I o 8).toInt ∧ (I o 8).toInt ≤ 6 := hR.at0 ra 8 (by decide)
    have g_10 : (0 : Int) ≤ (I0 o 8).toInt ∧ (I0 o 8).toInt ≤ 6 := hR0.at0 ra 8 (by decide)
    have g_11 : (0 : Int) ≤ (I o 44).toInt ∧ (I o 44).toInt ≤ 4 := hR.at0 ra 44 (by decide)
    have z_12 : (I o 44).toInt = (I0 o 44).toInt := by rw [hZ I 44 rfl hR]
    have g_13 : (0 : Int) ≤ (I o 45).toInt ∧ (I o 45).toInt ≤ 700 := hR.at0 ra 45 (by decide)
    have g_14 : (0 : Int) ≤ (I0 o 45).toInt ∧ (I0 o 45).toInt ≤ 700 := hR0.at0 ra 45 (by decide)
    have g_15 : (0 : Int) ≤ (I o 47).toInt ∧ (I o 47).toInt ≤ 7 := hR.at0 ra 47 (by decide)
    have g_16 : (0 : Int) ≤ (I0 o 47).toInt ∧ (I0 o 47).toInt ≤ 7 := hR0.at0 ra 47 (by decide)
    have g_17 : (0 : Int) ≤ (I o 48).toInt ∧ (I o 48).toInt ≤ 80 := hR.at0 ra 48 (by decide)
    have g_18 : (0 : Int) ≤ (I0 o 48).toInt ∧ (I0 o 48).toInt ≤ 80 := hR0.at0 ra 48 (by decide)
    refine sModel_e_19 o n sh Rf I L post x1 hok hw ?_
    unfold fModel_e_19
    replace hg := (eModel_e_19).symm.trans hg
    refine y_Model_isGoodg hok hw ra hR (fun r_19 u_20 u_21 u_22 gn_23 => ⟨r_19, I, L, rfl, rfl, ?_⟩)
    replace hg := gt_let gn_23 hg
    clear gn_23
    have b_24 : 0 ≤ r_19.toInt ∧ r_19.toInt ≤ 1 := u_20.rg
    have l_25 : (0 : Int32).toInt = 0 := rfl
    refine ⟨fun c_26 => ?_, fun c_26 => ?_⟩
    · have d_27 := iEq c_26
      have i_28 := u_22 (by omega)
      replace hg := gt_pos (by first | exact d_27 | omega) hg
      exact (hp _ _ hR hf (by first | omega | (intro h; omega) | exact Or.inl rfl | exact Or.inr rfl) (by first | omega | (intro h; omega) | exact Or.inl rfl | exact Or.inr rfl) (by first | omega | (intro h; omega) | exact Or.inl rfl | exact Or.inr rfl) (by first | omega | (intro h; omega) | exact Or.inl rfl | exact Or.inr rfl) (by clear hg; first | (intro h; exfalso; omega) | (intro h; have q := hi3 h; have x0 : x1.toInt = 0 := (by by_cases y : x1.toInt = 0; exact y; exfalso; have y1 : x1.toInt = 1 := (by omega); rw [y1] at q; have z := q.pos; omega); rw [x0] at q; exact q.done (by omega))) hi6 hi7 hi8 hg.symm)
    · have d_29 := iNe c_26
      have i_30 := u_21 (by omega)
      replace hg := gt_neg (by first | exact d_29 | omega) hg
      have g_31 : (0 : Int) ≤ (I o 48).toInt ∧ (I o 48).toInt ≤ 80 := hR.at0 ra 48 (by decide)
      replace hg := gt_let (y := (I o 48).toInt) rfl hg
      refine ⟨fun c_32 => ?_, fun c_32 => ?_⟩
      · have d_33 := iLe c_32
        replace hg := gt_pos (by first | exact d_33 | omega) hg
        exact (hp _ _ hR hf (by first | omega | (intro h; omega) | exact Or.inl rfl | exact Or.inr rfl) (by first | omega | (intro h; omega) | exact Or.inl rfl | exact Or.inr rfl) (by first | omega | (intro h; omega) | exact Or.inl rfl | exact Or.inr rfl) (by first | omega | (intro h; omega) | exact Or.inl rfl | exact Or.inr rfl) (by clear hg; first | (intro h; exfalso; omega) | (intro h; have q := hi3 h; have x0 : x1.toInt = 0 := (by by_cases y : x1.toInt = 0; exact y; exfalso; have y1 : x1.toInt = 1 := (by omega); rw [y1] at q; have z := q.pos; omega); rw [x0] at q; exact q.done (by omega))) hi6 hi7 hi8 hg.symm)
      · have d_34 := iNle c_32
        replace hg := gt_neg (by first | exact d_34 | omega) hg
        refine ⟨fun c_35 => ?_, fun c_35 => ?_⟩
        · have d_36 := iEq c_35
          replace hg := gt_pos (by first | exact d_36 | omega) hg
          have k_37 : EX 0 0 0 (I0 o 45).toInt.toNat 0 I o := by have q := hi3 (by omega); rw [show x1.toInt = 0 by omega] at q; exact q
          refine y_Model_behindg hok hw ra hz14 hz15 hz16 hz17 hz18 hz19 hz55 hz57 hz58 (by first | omega | (intro h; omega) | exact Or.inl rfl | exact Or.inr rfl) (by first | omega | (intro h; omega) | exact Or.inl rfl | exact Or.inr rfl) (by first | omega | (intro h; omega) | exact Or.inl rfl | exact Or.inr rfl) k_37 hi6 hi7 hi8 hR (fun r_38 I_50 L_51 hR_52 fr_53 kp_54 u_39 u_40 u_41 u_42 u_43 u_44 u_45 u_46 u_47 u_48 gn_49 => ⟨r_38, I_50, L_51, rfl, rfl, ?_⟩)
          replace hg := gt_b3 gn_49 hg
          clear gn_49
          have hf_55 : Fm (fun c => c = o ∨ (o + 30 ≤ c ∧ c < o + 34)) I0 I_50 := hf.call fr_53 (fun c hc => by first | exact hc | (dsimp only at hc ⊢; omega) | omega)
          have t_56 : (I_50 o 3).toInt = (I o 3).toInt := by rw [kp_54 3 rfl]
          have g_57 : (0 : Int) ≤ (I_50 o 4).toInt ∧ (I_50 o 4).toInt ≤ 5 := hR_52.at0 ra 4 (by decide)
          have g_58 : (0 : Int) ≤ (I_50 o 6).toInt ∧ (I_50 o 6).toInt ≤ 1600 := hR_52.at0 ra 6 (by decide)
          have g_59 : (0 : Int) ≤ (I_50 o 7).toInt ∧ (I_50 o 7).toInt ≤ 1601 := hR_52.at0 ra 7 (by decide)
          have g_60 : (0 : Int) ≤ (I_50 o 8).toInt ∧ (I_50 o 8).toInt ≤ 6 := hR_52.at0 ra 8 (by decide)
          have t_61 : (I_50 o 44).toInt = (I o 44).toInt := by rw [kp_54 44 rfl]
          have g_62 : (0 : Int) ≤ (I_50 o 45).toInt ∧ (I_50 o 45).toInt ≤ 700 := hR_52.at0 ra 45 (by decide)
          have g_63 : (0 : Int) ≤ (I_50 o 47).toInt ∧ (I_50 o 47).toInt ≤ 7 := hR_52.at0 ra 47 (by decide)
          have g_64 : (0 : Int) ≤ (I_50 o 48).toInt ∧ (I_50 o 48).toInt ≤ 80 := hR_52.at0 ra 48 (by decide)
          have b_65 : 0 ≤ r_38.toInt ∧ r_38.toInt ≤ 1 := u_39.rg
          unfold fModel_e_48
          replace hg := (eModel_e_48).symm.trans hg
          exact ih hR_52 hf_55 (by first | omega | (intro h; omega) | exact Or.inl rfl | exact Or.inr rfl) (by first | omega | (intro h; omega) | exact Or.inl rfl | exact Or.inr rfl) (by first | omega | (intro h; omega) | exact Or.inl rfl | exact Or.inr rfl) (by first | exact False.elim | exact u_45 | exact fun _ => (False.elim (by omega))) (by first | omega | (intro h; omega) | exact Or.inl rfl | exact Or.inr rfl) (by first | omega | (intro h; omega) | exact Or.inl rfl | exact Or.inr rfl) u_46 u_47 u_48 hg (by omega)
        · have d_66 := iNe c_35
          replace hg := gt_neg (by first | exact d_66 | omega) hg
          have k_67 : EX 0 0 0 (I0 o 45).toInt.toNat 1 I o := by have q := hi3 (by omega); rw [show x1.toInt = 1 by omega] at q; exact q
          refine y_Model_unitg hok hw ra hz14 hz15 hz16 hz17 hz18 hz19 hz55 hz56 hz57 hz58 (by first | omega | (intro h; omega) | exact Or.inl rfl | exact Or.inr rfl) (by first | omega | (intro h; omega) | exact Or.inl rfl | exact Or.inr rfl) k_67 hi6 hi7 hi8 hR (fun r_68 I_80 L_81 hR_82 fr_83 kp_84 u_69 u_70 u_71 u_72 u_73 u_74 u_75 u_76 u_77 u_78 gn_79 => ⟨r_68, I_80, L_81, rfl, rfl, ?_⟩)
          replace hg := gt_b3 gn_79 hg
          clear gn_79
          have hf_85 : Fm (fun c => c = o ∨ (o + 30 ≤ c ∧ c < o + 34)) I0 I_80 := hf.call fr_83 (fun c hc => by first | exact hc | (dsimp only at hc ⊢; omega) | omega)
          have t_86 : (I_80 o 3).toInt = (I o 3).toInt := by rw [kp_84 3 rfl]
          have g_87 : (0 : Int) ≤ (I_80 o 4).toInt ∧ (I_80 o 4).toInt ≤ 5 := hR_82.at0 ra 4 (by decide)
          have g_88 : (0 : Int) ≤ (I_80 o 6).toInt ∧ (I_80 o 6).toInt ≤ 1600 := hR_82.at0 ra 6 (by decide)
          have g_89 : (0 : Int) ≤ (I_80 o 7).toInt ∧ (I_80 o 7).toInt ≤ 1601 := hR_82.at0 ra 7 (by decide)
          have g_90 : (0 : Int) ≤ (I_80 o 8).toInt ∧ (I_80 o 8).toInt ≤ 6 := hR_82.at0 ra 8 (by decide)
          have t_91 : (I_80 o 44).toInt = (I o 44).toInt := by rw [kp_84 44 rfl]
          have g_92 : (0 : Int) ≤ (I_80 o 45).toInt ∧ (I_80 o 45).toInt ≤ 700 := hR_82.at0 ra 45 (by decide)
          have g_93 : (0 : Int) ≤ (I_80 o 47).toInt ∧ (I_80 o 47).toInt ≤ 7 := hR_82.at0 ra 47 (by decide)
          have g_94 : (0 : Int) ≤ (I_80 o 48).toInt ∧ (I_80 o 48).toInt ≤ 80 := hR_82.at0 ra 48 (by decide)
          have b_95 : 0 ≤ r_68.toInt ∧ r_68.toInt ≤ 1 := u_69.rg
          unfold fModel_e_48
          replace hg := (eModel_e_48).symm.trans hg
          exact ih hR_82 hf_85 (by first | omega | (intro h; omega) | exact Or.inl rfl | exact Or.inr rfl) (by first | omega | (intro h; omega) | exact Or.inl rfl | exact Or.inr rfl) (by first | omega | (intro h; omega) | exact Or.inl rfl | exact Or.inr rfl) (by first | exact u_75 | exact False.elim | exact fun _ => (False.elim (by omega))) (by first | omega | (intro h; omega) | exact Or.inl rfl | exact Or.inr rfl) (by first | omega | (intro h; omega) | exact Or.inl rfl | exact Or.inr rfl) u_76 u_77 u_78 hg (by omega)
set_option maxHeartbeats 4000000 in
set_option maxRecDepth 20000 in
theorem yc_Model_eg {D : va_G} {cA : FieldType → ClassId} {b : Nat} {E : State → Prop} {R : qRg} {o n : Nat} {sh : Nat → qC} {Rf : Nat → Nat → Option Nat} {I0 : Nat → Nat → Int32} {L0 : Nat → Nat → Int64} {post : Option Value → qS → Prop} (hok : q_ok (qGG D cA b E)) (hw : WfModel (qGG D cA b E) n sh Rf o) (ra : RAModel R o) (hz14 : R.2 14 = true) (hz15 : R.2 15 = true) (hz16 : R.2 16 = true) (hz17 : R.2 17 = true) (hz18 : R.2 18 = true) (hz19 : R.2 19 = true) (hz55 : R.2 55 = true) (hz56 : R.2 56 = true) (hz57 : R.2 57 = true) (hz58 : R.2 58 = true) (hZ : Fz R I0 o wModel_e) (hR0 : RI R I0) (hq0 : (I0 o 7).toInt ≤ (I0 o 3).toInt) (hq1 : (I0 o 4).toInt = 0) (hq2 : ReS I0 o) (hq3 : MTd I0 o) (hq4 : MPo I0 o) (hq5 : MTk I0 o) (hR : RI R I0) (hp : ∀ (I' : Nat → Nat → Int32) (L' : Nat → Nat → Int64), RI R I' → Fm (fun c => c = o ∨ (o + 30 ≤ c ∧ c < o + 34)) I0 I' → ((I' o 7).toInt ≤ (I' o 3).toInt) → ((I0 o 7).toInt ≤ (I' o 7).toInt) → ((I0 o 4).toInt ≤ (I' o 4).toInt) → (7 * (I0 o 7).toInt - (I0 o 8).toInt + (I0 o 4).toInt ≤ 7 * (I' o 7).toInt - (I' o 8).toInt + (I' o 4).toInt) → (Im ((I' o 4).toInt = 0) (ReS I' o ∧ De (I' (o + 30)) (2800 + (I0 o 45).toInt.toNat) ((I' o 45).toInt - ((I0 o 45).toInt.toNat : Nat)).toNat = some 1 ∧ (((I0 o 45).toInt.toNat : Nat) : Int) ≤ (I' o 45).toInt)) → (MTd I' o) → (MPo I' o) → (MTk I' o) → (gModel_e_0 o (tI I0) L0 = (0, tI I', L')) → post none (n, sh, Rf, I', L')) : Ev (qGG D cA b E) mModel_e 5 (0, 0) 0 (lv_args 0 [.ref o]) [] (n, sh, Rf, I0, L0) post := by
  have hf : Fm (fun c => c = o ∨ (o + 30 ≤ c ∧ c < o + 34)) I0 I0 := Fm.rf
  have g_96 : (0 : Int) ≤ (I0 o 3).toInt ∧ (I0 o 3).toInt ≤ 1600 := hR.at0 ra 3 (by decide)
  have g_97 : (0 : Int) ≤ (I0 o 4).toInt ∧ (I0 o 4).toInt ≤ 5 := hR.at0 ra 4 (by decide)
  have g_98 : (0 : Int) ≤ (I0 o 6).toInt ∧ (I0 o 6).toInt ≤ 1600 := hR.at0 ra 6 (by decide)
  have g_99 : (0 : Int) ≤ (I0 o 7).toInt ∧ (I0 o 7).toInt ≤ 1601 := hR.at0 ra 7 (by decide)
  have g_100 : (0 : Int) ≤ (I0 o 8).toInt ∧ (I0 o 8).toInt ≤ 6 := hR.at0 ra 8 (by decide)
  have g_101 : (0 : Int) ≤ (I0 o 44).toInt ∧ (I0 o 44).toInt ≤ 4 := hR.at0 ra 44 (by decide)
  have g_102 : (0 : Int) ≤ (I0 o 45).toInt ∧ (I0 o 45).toInt ≤ 700 := hR.at0 ra 45 (by decide)
  have g_103 : (0 : Int) ≤ (I0 o 47).toInt ∧ (I0 o 47).toInt ≤ 7 := hR.at0 ra 47 (by decide)
  have g_104 : (0 : Int) ≤ (I0 o 48).toInt ∧ (I0 o 48).toInt ≤ 80 := hR.at0 ra 48 (by decide)
  refine sModel_e_0 o n sh Rf I0 L0 post  hok hw ?_
  unfold fModel_e_0
  have hg : gModel_e_0 o (tI I0) L0 = gModel_e_0 o (tI I0) L0 := rfl
  replace hg := (eModel_e_0).symm.trans hg
  have l_105 : (0 : Int32).toInt = 0 := rfl
  refine fun I_106 e_107 => ?_
  replace hg := gt_let (y := tI I_106) (tI_q e_107) hg
  have hR_108 : RI R I_106 := hR.up0 (k := 48) ra (by decide) (Or.inr hz58) e_107 (show (0 : Int) ≤ (0 : Int32).toInt by omega) (show (0 : Int32).toInt ≤ (80 : Int) by omega)
  have hf_109 : Fm (fun c => c = o ∨ (o + 30 ≤ c ∧ c < o + 34)) I0 I_106 := hf.set (by first | rfl | omega | (dsimp only; omega)) e_107
  have t_110 : (I_106 o 3).toInt = (I0 o 3).toInt := by rw [← e_107, q_u_k (by decide)]
  have t_111 : (I_106 o 4).toInt = (I0 o 4).toInt := by rw [← e_107, q_u_k (by decide)]
  have t_112 : (I_106 o 6).toInt = (I0 o 6).toInt := by rw [← e_107, q_u_k (by decide)]
  have t_113 : (I_106 o 7).toInt = (I0 o 7).toInt := by rw [← e_107, q_u_k (by decide)]
  have t_114 : (I_106 o 8).toInt = (I0 o 8).toInt := by rw [← e_107, q_u_k (by decide)]
  have t_115 : (I_106 o 9).toInt = (I0 o 9).toInt := by rw [← e_107, q_u_k (by decide)]
  have t_116 : (I_106 o 44).toInt = (I0 o 44).toInt := by rw [← e_107, q_u_k (by decide)]
  have t_117 : (I_106 o 45).toInt = (I0 o 45).toInt := by rw [← e_107, q_u_k (by decide)]
  have t_118 : (I_106 o 47).toInt = (I0 o 47).toInt := by rw [← e_107, q_u_k (by decide)]
  have t_119 : (I_106 o 48).toInt = (0 : Int32).toInt := by rw [← e_107, q_u_at]
  have k_120 : ReS I_106 o := hq2.fr (by rw [← e_107]; exact q_u_ne (by omega)) (by rw [← e_107]; exact q_u_ne (by omega)) (by rw [← e_107]; exact q_u_ne (by omega)) (by rw [← e_107, q_u_k (by decide)]) (by rw [← e_107, q_u_k (by decide)]) (by rw [← e_107, q_u_k (by decide)]) (by rw [← e_107, q_u_k (by decide)])
  have k_121 : MTd I_106 o := hq3.fr (by rw [← e_107]; exact q_u_ne (by omega)) (by rw [← e_107]; exact q_u_ne (by omega)) (by rw [← e_107]; exact q_u_ne (by omega))
  have k_122 : MPo I_106 o := hq4.fr (by rw [← e_107, q_u_k (by decide)]) (by rw [← e_107, q_u_k (by decide)])
  have k_123 : MTk I_106 o := hq5.fr (by rw [← e_107, q_u_k (by decide)]) (by rw [← e_107, q_u_k (by decide)]) (by rw [← e_107, q_u_k (by decide)])
  refine fun I_124 e_125 => ?_
  replace hg := gt_let (y := tI I_124) (tI_q e_125) hg
  have hR_126 : RI R I_124 := hR_108.up0 (k := 47) ra (by decide) (Or.inr hz57) e_125 (show (0 : Int) ≤ (0 : Int32).toInt by omega) (show (0 : Int32).toInt ≤ (7 : Int) by omega)
  have hf_127 : Fm (fun c => c = o ∨ (o + 30 ≤ c ∧ c < o + 34)) I0 I_124 := hf_109.set (by first | rfl | omega | (dsimp only; omega)) e_125
  have t_128 : (I_124 o 3).toInt = (I_106 o 3).toInt := by rw [← e_125, q_u_k (by decide)]
  have t_129 : (I_124 o 4).toInt = (I_106 o 4).toInt := by rw [← e_125, q_u_k (by decide)]
  have t_130 : (I_124 o 6).toInt = (I_106 o 6).toInt := by rw [← e_125, q_u_k (by decide)]
  have t_131 : (I_124 o 7).toInt = (I_106 o 7).toInt := by rw [← e_125, q_u_k (by decide)]
  have t_132 : (I_124 o 8).toInt = (I_106 o 8).toInt := by rw [← e_125, q_u_k (by decide)]
  have t_133 : (I_124 o 9).toInt = (I_106 o 9).toInt := by rw [← e_125, q_u_k (by decide)]
  have t_134 : (I_124 o 44).toInt = (I_106 o 44).toInt := by rw [← e_125, q_u_k (by decide)]
  have t_135 : (I_124 o 45).toInt = (I_106 o 45).toInt := by rw [← e_125, q_u_k (by decide)]
  have t_136 : (I_124 o 47).toInt = (0 : Int32).toInt := by rw [← e_125, q_u_at]
  have t_137 : (I_124 o 48).toInt = (I_106 o 48).toInt := by rw [← e_125, q_u_k (by decide)]
  have k_138 : ReS I_124 o := k_120.fr (by rw [← e_125]; exact q_u_ne (by omega)) (by rw [← e_125]; exact q_u_ne (by omega)) (by rw [← e_125]; exact q_u_ne (by omega)) (by rw [← e_125, q_u_k (by decide)]) (by rw [← e_125, q_u_k (by decide)]) (by rw [← e_125, q_u_k (by decide)]) (by rw [← e_125, q_u_k (by decide)])
  have k_139 : MTd I_124 o := k_121.fr (by rw [← e_125]; exact q_u_ne (by omega)) (by rw [← e_125]; exact q_u_ne (by omega)) (by rw [← e_125]; exact q_u_ne (by omega))
  have k_140 : MPo I_124 o := k_122.fr (by rw [← e_125, q_u_k (by decide)]) (by rw [← e_125, q_u_k (by decide)])
  have k_141 : MTk I_124 o := k_123.fr (by rw [← e_125, q_u_k (by decide)]) (by rw [← e_125, q_u_k (by decide)]) (by rw [← e_125, q_u_k (by decide)])
  have l_142 : (8 : Int32).toInt = 8 := rfl
  refine y_Model_pileg hok hw ra hz58 (by first | omega | (intro h; omega) | exact Or.inl rfl | exact Or.inr rfl) (by first | omega | (intro h; omega) | exact Or.inl rfl | exact Or.inr rfl) hR_126 (fun I_148 L_149 hR_150 fr_151 kp_152 u_144 u_145 u_146 gn_147 => ⟨I_148, L_149, rfl, rfl, ?_⟩)
  replace hg := gt_b3 gn_147 hg
  clear gn_147
  have hf_153 : Fm (fun c => c = o ∨ (o + 30 ≤ c ∧ c < o + 34)) I0 I_148 := hf_127.call fr_151 (fun c hc => by first | exact hc | (dsimp only at hc ⊢; omega) | omega)
  have t_154 : (I_148 o 3).toInt = (I_124 o 3).toInt := by rw [kp_152 3 rfl]
  have t_155 : (I_148 o 4).toInt = (I_124 o 4).toInt := by rw [kp_152 4 rfl]
  have t_156 : (I_148 o 6).toInt = (I_124 o 6).toInt := by rw [kp_152 6 rfl]
  have t_157 : (I_148 o 7).toInt = (I_124 o 7).toInt := by rw [kp_152 7 rfl]
  have t_158 : (I_148 o 8).toInt = (I_124 o 8).toInt := by rw [kp_152 8 rfl]
  have t_159 : (I_148 o 9).toInt = (I_124 o 9).toInt := by rw [kp_152 9 rfl]
  have t_160 : (I_148 o 44).toInt = (I_124 o 44).toInt := by rw [kp_152 44 rfl]
  have t_161 : (I_148 o 45).toInt = (I_124 o 45).toInt := by rw [kp_152 45 rfl]
  have t_162 : (I_148 o 47).toInt = (I_124 o 47).toInt := by rw [kp_152 47 rfl]
  have g_163 : (0 : Int) ≤ (I_148 o 48).toInt ∧ (I_148 o 48).toInt ≤ 80 := hR_150.at0 ra 48 (by decide)
  have k_164 : ReS I_148 o := k_138.fr (fr_151 _ (by first | omega | (dsimp only; omega))) (fr_151 _ (by first | omega | (dsimp only; omega))) (fr_151 _ (by first | omega | (dsimp only; omega))) (kp_152 3 rfl) (kp_152 6 rfl) (kp_152 44 rfl) (kp_152 45 rfl)
  have k_165 : MTd I_148 o := k_139.fr (fr_151 _ (by first | omega | (dsimp only; omega))) (fr_151 _ (by first | omega | (dsimp only; omega))) (fr_151 _ (by first | omega | (dsimp only; omega)))
  have k_166 : MPo I_148 o := k_140.fr (kp_152 8 rfl) (kp_152 9 rfl)
  have k_167 : MTk I_148 o := k_141.fr (kp_152 6 rfl) (kp_152 7 rfl) (kp_152 8 rfl)
  have k_168 : EX 0 0 0 (I0 o 45).toInt.toNat 1 I_148 o := by have q := ReS.begin k_164 rfl rfl rfl (by rw [u_144, show (I_124 o 48).toNatClampNeg = 0 from (by have cl := tCl (x := I_124 o 48) (by omega); omega), rU_at]; rfl) rfl rfl rfl rfl (by omega) (by omega); rw [show I_148 o 45 = I0 o 45 from Int32.toInt_inj.mp (by omega)] at q; exact q
  have l_169 : (1 : Int32).toInt = 1 := rfl
  exact yModel_e_19g (I0 := I0) (L0 := L0) hok hw ra hz14 hz15 hz16 hz17 hz18 hz19 hz55 hz56 hz57 hz58 hZ hR0 hq0 hq1 hq2 hq3 hq4 hq5 hp  1000000 hR_150 hf_153 (by first | omega | (intro h; omega) | exact Or.inl rfl | exact Or.inr rfl) (by first | omega | (intro h; omega) | exact Or.inl rfl | exact Or.inr rfl) (by first | omega | (intro h; omega) | exact Or.inl rfl | exact Or.inr rfl) (by first | exact False.elim | exact False.elim | exact fun _ => k_168) (by first | omega | (intro h; omega) | exact Or.inl rfl | exact Or.inr rfl) (by first | omega | (intro h; omega) | exact Or.inl rfl | exact Or.inr rfl) k_165 k_166 k_167 hg (by omega)
theorem y_Model_eg {D : va_G} {cA : FieldType → ClassId} {b : Nat} {E : State → Prop} {R : qRg} {o n : Nat} {sh : Nat → qC} {Rf : Nat → Nat → Option Nat} {I0 : Nat → Nat → Int32} {L0 : Nat → Nat → Int64} {post : Option Value → qS → Prop} (hok : q_ok (qGG D cA b E)) (hw : WfModel (qGG D cA b E) n sh Rf o) (ra : RAModel R o) (hz14 : R.2 14 = true) (hz15 : R.2 15 = true) (hz16 : R.2 16 = true) (hz17 : R.2 17 = true) (hz18 : R.2 18 = true) (hz19 : R.2 19 = true) (hz55 : R.2 55 = true) (hz56 : R.2 56 = true) (hz57 : R.2 57 = true) (hz58 : R.2 58 = true) (hq0 : (I0 o 7).toInt ≤ (I0 o 3).toInt) (hq1 : (I0 o 4).toInt = 0) (hq2 : ReS I0 o) (hq3 : MTd I0 o) (hq4 : MPo I0 o) (hq5 : MTk I0 o) (hR : RI R I0) (hp : ∀ (I' : Nat → Nat → Int32) (L' : Nat → Nat → Int64), RI R I' → Fm (fun c => c = o ∨ (o + 30 ≤ c ∧ c < o + 34)) I0 I' → Kp wModel_e I0 I' o → ((I' o 7).toInt ≤ (I' o 3).toInt) → ((I0 o 7).toInt ≤ (I' o 7).toInt) → ((I0 o 4).toInt ≤ (I' o 4).toInt) → (7 * (I0 o 7).toInt - (I0 o 8).toInt + (I0 o 4).toInt ≤ 7 * (I' o 7).toInt - (I' o 8).toInt + (I' o 4).toInt) → (Im ((I' o 4).toInt = 0) (ReS I' o ∧ De (I' (o + 30)) (2800 + (I0 o 45).toInt.toNat) ((I' o 45).toInt - ((I0 o 45).toInt.toNat : Nat)).toNat = some 1 ∧ (((I0 o 45).toInt.toNat : Nat) : Int) ≤ (I' o 45).toInt)) → (MTd I' o) → (MPo I' o) → (MTk I' o) → (gModel_e_0 o (tI I0) L0 = (0, tI I', L')) → post none (n, sh, Rf, I', L')) : Ev (qGG D cA b E) mModel_e 5 (0, 0) 0 (lv_args 0 [.ref o]) [] (n, sh, Rf, I0, L0) post :=
  yc_Model_eg (R := fzR R I0 o wModel_e) hok hw (fzA ra hR _) (fzT hz14 rfl) (fzT hz15 rfl) (fzT hz16 rfl) (fzT hz17 rfl) (fzT hz18 rfl) (fzT hz19 rfl) (fzT hz55 rfl) (fzT hz56 rfl) (fzT hz57 rfl) (fzT hz58 rfl) fzZ (fzI hR) hq0 hq1 hq2 hq3 hq4 hq5 (fzI hR) (fun I' L' h1 h2 u0 u1 u2 u3 u4 u5 u6 u7 ug => hp I' L' (fzB hR h1) h2 (fzP h1) u0 u1 u2 u3 u4 u5 u6 u7 ug)
