/-! The mirror of REFORM's reading, reference: r3b. By program (rrun.py). -/
noncomputable def gModel_unit_228 (o : Nat) (J : gJ) (L : gL) (x1 : Int) (x2 : Int) (z0 : Int) : Int × gJ × gL := (if x2 = 0 then gLet (J o 9) (fun (v_7 : Int) => gB3 (gModel_step_0 o J L z0 v_7) (fun r_8 J_9 L_10 => gB3 (gModel_next_0 o J_9 L_10) (fun r_11 J_12 L_13 => (0, J_12, L_13)))) else gB3 (gModel_step_0 o J L z0 0) (fun r_1 J_2 L_3 => gB3 (gModel_next_0 o J_2 L_3) (fun r_4 J_5 L_6 => (0, J_5, L_6))))
theorem eModel_unit_228 {o : Nat} {J : gJ} {L : gL} {x1 : Int} {x2 : Int} {z0 : Int} : gModel_unit_228 o J L x1 x2 z0 = (if x2 = 0 then gLet (J o 9) (fun (v_7 : Int) => gB3 (gModel_step_0 o J L z0 v_7) (fun r_8 J_9 L_10 => gB3 (gModel_next_0 o J_9 L_10) (fun r_11 J_12 L_13 => (0, J_12, L_13)))) else gB3 (gModel_step_0 o J L z0 0) (fun r_1 J_2 L_3 => gB3 (gModel_next_0 o J_2 L_3) (fun r_4 J_5 L_6 => (0, J_5, L_6)))) := rfl
noncomputable def gModel_unit_140 (o : Nat) (J : gJ) (L : gL) (x1 : Int) (x2 : Int) : Int × gJ × gL := gB3 (gModel_wrong_0 o J L) (fun r_1 J_2 L_3 => gLet (gModel_isGood_0 o J_2 L_3) (fun (r_4 : Int) => (if r_4 = 0 then (1, J_2, L_3) else gLet (J_2 o 46) (fun (v_5 : Int) => gLet (v_5 + 1) (fun (v_6 : Int) => gLet (q_u J_2 o 46 v_6) (fun (J_7 : gJ) => gLet (gModel_is_0 o J_7 L_3 40) (fun (r_8 : Int) => (if r_8 = 0 then (if x2 = 0 then (gModel_unit_228 o J_7 L_3 x1 x2 78) else (gModel_unit_228 o J_7 L_3 x1 x2 x2)) else gLet (J_7 o 47) (fun (v_9 : Int) => (if v_9 = 7 then gB3 (gModel_wrong_0 o J_7 L_3) (fun r_20 J_21 L_22 => gLet (gModel_isGood_0 o J_21 L_22) (fun (r_23 : Int) => (if r_23 = 0 then (1, J_21, L_22) else gB3 (gModel_pile_0 o J_21 L_22 7 0) (fun r_24 J_25 L_26 => gLet (J_25 o 47) (fun (v_27 : Int) => gLet (v_27 + 1) (fun (v_28 : Int) => gLet (q_u J_25 o 47 v_28) (fun (J_29 : gJ) => gB3 (gModel_next_0 o J_29 L_26) (fun r_30 J_31 L_32 => (1, J_31, L_32))))))))) else gLet (gModel_isGood_0 o J_7 L_3) (fun (r_10 : Int) => (if r_10 = 0 then (1, J_7, L_3) else gB3 (gModel_pile_0 o J_7 L_3 7 0) (fun r_11 J_12 L_13 => gLet (J_12 o 47) (fun (v_14 : Int) => gLet (v_14 + 1) (fun (v_15 : Int) => gLet (q_u J_12 o 47 v_15) (fun (J_16 : gJ) => gB3 (gModel_next_0 o J_16 L_13) (fun r_17 J_18 L_19 => (1, J_18, L_19))))))))))))))))))
theorem eModel_unit_140 {o : Nat} {J : gJ} {L : gL} {x1 : Int} {x2 : Int} : gModel_unit_140 o J L x1 x2 = gB3 (gModel_wrong_0 o J L) (fun r_1 J_2 L_3 => gLet (gModel_isGood_0 o J_2 L_3) (fun (r_4 : Int) => (if r_4 = 0 then (1, J_2, L_3) else gLet (J_2 o 46) (fun (v_5 : Int) => gLet (v_5 + 1) (fun (v_6 : Int) => gLet (q_u J_2 o 46 v_6) (fun (J_7 : gJ) => gLet (gModel_is_0 o J_7 L_3 40) (fun (r_8 : Int) => (if r_8 = 0 then (if x2 = 0 then (gModel_unit_228 o J_7 L_3 x1 x2 78) else (gModel_unit_228 o J_7 L_3 x1 x2 x2)) else gLet (J_7 o 47) (fun (v_9 : Int) => (if v_9 = 7 then gB3 (gModel_wrong_0 o J_7 L_3) (fun r_20 J_21 L_22 => gLet (gModel_isGood_0 o J_21 L_22) (fun (r_23 : Int) => (if r_23 = 0 then (1, J_21, L_22) else gB3 (gModel_pile_0 o J_21 L_22 7 0) (fun r_24 J_25 L_26 => gLet (J_25 o 47) (fun (v_27 : Int) => gLet (v_27 + 1) (fun (v_28 : Int) => gLet (q_u J_25 o 47 v_28) (fun (J_29 : gJ) => gB3 (gModel_next_0 o J_29 L_26) (fun r_30 J_31 L_32 => (1, J_31, L_32))))))))) else gLet (gModel_isGood_0 o J_7 L_3) (fun (r_10 : Int) => (if r_10 = 0 then (1, J_7, L_3) else gB3 (gModel_pile_0 o J_7 L_3 7 0) (fun r_11 J_12 L_13 => gLet (J_12 o 47) (fun (v_14 : Int) => gLet (v_14 + 1) (fun (v_15 : Int) => gLet (q_u J_12 o 47 v_15) (fun (J_16 : gJ) => gB3 (gModel_next_0 o J_16 L_13) (fun r_17 J_18 L_19 => (1, J_18, L_19)))))))))))))))))) := rfl
noncomputable def gModel_unit_131 (o : Nat) (J : gJ) (L : gL) (x1 : Int) (x2 : Int) : Int × gJ × gL := gLet (J o 46) (fun (v_1 : Int) => (if v_1 = 100 then (gModel_unit_140 o J L x1 x2) else gLet (gModel_isGood_0 o J L) (fun (r_2 : Int) => (if r_2 = 0 then (1, J, L) else gLet (J o 46) (fun (v_3 : Int) => gLet (v_3 + 1) (fun (v_4 : Int) => gLet (q_u J o 46 v_4) (fun (J_5 : gJ) => gLet (gModel_is_0 o J_5 L 40) (fun (r_6 : Int) => (if r_6 = 0 then (if x2 = 0 then (gModel_unit_228 o J_5 L x1 x2 78) else (gModel_unit_228 o J_5 L x1 x2 x2)) else gLet (J_5 o 47) (fun (v_7 : Int) => (if v_7 = 7 then gB3 (gModel_wrong_0 o J_5 L) (fun r_18 J_19 L_20 => gLet (gModel_isGood_0 o J_19 L_20) (fun (r_21 : Int) => (if r_21 = 0 then (1, J_19, L_20) else gB3 (gModel_pile_0 o J_19 L_20 7 0) (fun r_22 J_23 L_24 => gLet (J_23 o 47) (fun (v_25 : Int) => gLet (v_25 + 1) (fun (v_26 : Int) => gLet (q_u J_23 o 47 v_26) (fun (J_27 : gJ) => gB3 (gModel_next_0 o J_27 L_24) (fun r_28 J_29 L_30 => (1, J_29, L_30))))))))) else gLet (gModel_isGood_0 o J_5 L) (fun (r_8 : Int) => (if r_8 = 0 then (1, J_5, L) else gB3 (gModel_pile_0 o J_5 L 7 0) (fun r_9 J_10 L_11 => gLet (J_10 o 47) (fun (v_12 : Int) => gLet (v_12 + 1) (fun (v_13 : Int) => gLet (q_u J_10 o 47 v_13) (fun (J_14 : gJ) => gB3 (gModel_next_0 o J_14 L_11) (fun r_15 J_16 L_17 => (1, J_16, L_17)))))))))))))))))))
theorem eModel_unit_131 {o : Nat} {J : gJ} {L : gL} {x1 : Int} {x2 : Int} : gModel_unit_131 o J L x1 x2 = gLet (J o 46) (fun (v_1 : Int) => (if v_1 = 100 then (gModel_unit_140 o J L x1 x2) else gLet (gModel_isGood_0 o J L) (fun (r_2 : Int) => (if r_2 = 0 then (1, J, L) else gLet (J o 46) (fun (v_3 : Int) => gLet (v_3 + 1) (fun (v_4 : Int) => gLet (q_u J o 46 v_4) (fun (J_5 : gJ) => gLet (gModel_is_0 o J_5 L 40) (fun (r_6 : Int) => (if r_6 = 0 then (if x2 = 0 then (gModel_unit_228 o J_5 L x1 x2 78) else (gModel_unit_228 o J_5 L x1 x2 x2)) else gLet (J_5 o 47) (fun (v_7 : Int) => (if v_7 = 7 then gB3 (gModel_wrong_0 o J_5 L) (fun r_18 J_19 L_20 => gLet (gModel_isGood_0 o J_19 L_20) (fun (r_21 : Int) => (if r_21 = 0 then (1, J_19, L_20) else gB3 (gModel_pile_0 o J_19 L_20 7 0) (fun r_22 J_23 L_24 => gLet (J_23 o 47) (fun (v_25 : Int) => gLet (v_25 + 1) (fun (v_26 : Int) => gLet (q_u J_23 o 47 v_26) (fun (J_27 : gJ) => gB3 (gModel_next_0 o J_27 L_24) (fun r_28 J_29 L_30 => (1, J_29, L_30))))))))) else gLet (gModel_isGood_0 o J_5 L) (fun (r_8 : Int) => (if r_8 = 0 then (1, J_5, L) else gB3 (gModel_pile_0 o J_5 L 7 0) (fun r_9 J_10 L_11 => gLet (J_10 o 47) (fun (v_12 : Int) => gLet (v_12 + 1) (fun (v_13 : Int) => gLet (q_u J_10 o 47 v_13) (fun (J_14 : gJ) => gB3 (gModel_next_0 o J_14 L_11) (fun r_15 J_16 L_17 => (1, J_16, L_17))))))))))))))))))) := rfl
noncomputable def gModel_unit_96 (o : Nat) (J : gJ) (L : gL) (x1 : Int) : Int × gJ × gL := gB3 (gModel_wordHere_0 o J L) (fun r_1 J_2 L_3 => gLet (gModel_isGood_0 o J_2 L_3) (fun (r_4 : Int) => (if r_4 = 0 then (1, J_2, L_3) else (if r_1 = 0 then gLet (J_2 o 8) (fun (v_5 : Int) => (if v_5 = 4 then (gModel_unit_131 o J_2 L_3 x1 r_1) else gLet (gModel_is_0 o J_2 L_3 40) (fun (r_6 : Int) => (if r_6 = 0 then (gModel_unit_140 o J_2 L_3 x1 r_1) else (gModel_unit_131 o J_2 L_3 x1 r_1))))) else (gModel_unit_131 o J_2 L_3 x1 r_1)))))
theorem eModel_unit_96 {o : Nat} {J : gJ} {L : gL} {x1 : Int} : gModel_unit_96 o J L x1 = gB3 (gModel_wordHere_0 o J L) (fun r_1 J_2 L_3 => gLet (gModel_isGood_0 o J_2 L_3) (fun (r_4 : Int) => (if r_4 = 0 then (1, J_2, L_3) else (if r_1 = 0 then gLet (J_2 o 8) (fun (v_5 : Int) => (if v_5 = 4 then (gModel_unit_131 o J_2 L_3 x1 r_1) else gLet (gModel_is_0 o J_2 L_3 40) (fun (r_6 : Int) => (if r_6 = 0 then (gModel_unit_140 o J_2 L_3 x1 r_1) else (gModel_unit_131 o J_2 L_3 x1 r_1))))) else (gModel_unit_131 o J_2 L_3 x1 r_1))))) := rfl
noncomputable def gModel_unit_36 (o : Nat) (J : gJ) (L : gL) (z0 : Int) : Int × gJ × gL := (if z0 = 0 then (gModel_unit_96 o J L z0) else gLet (gModel_isWord_0 o J L 7237492) (fun (r_1 : Int) => (if r_1 = 0 then (gModel_unit_96 o J L z0) else gLet (J o 47) (fun (v_2 : Int) => (if v_2 = 7 then gB3 (gModel_wrong_0 o J L) (fun r_13 J_14 L_15 => gLet (gModel_isGood_0 o J_14 L_15) (fun (r_16 : Int) => (if r_16 = 0 then (1, J_14, L_15) else gB3 (gModel_pile_0 o J_14 L_15 3 126) (fun r_17 J_18 L_19 => gLet (J_18 o 47) (fun (v_20 : Int) => gLet (v_20 + 1) (fun (v_21 : Int) => gLet (q_u J_18 o 47 v_21) (fun (J_22 : gJ) => gB3 (gModel_next_0 o J_22 L_19) (fun r_23 J_24 L_25 => (1, J_24, L_25))))))))) else gLet (gModel_isGood_0 o J L) (fun (r_3 : Int) => (if r_3 = 0 then (1, J, L) else gB3 (gModel_pile_0 o J L 3 126) (fun r_4 J_5 L_6 => gLet (J_5 o 47) (fun (v_7 : Int) => gLet (v_7 + 1) (fun (v_8 : Int) => gLet (q_u J_5 o 47 v_8) (fun (J_9 : gJ) => gB3 (gModel_next_0 o J_9 L_6) (fun r_10 J_11 L_12 => (1, J_11, L_12)))))))))))))
theorem eModel_unit_36 {o : Nat} {J : gJ} {L : gL} {z0 : Int} : gModel_unit_36 o J L z0 = (if z0 = 0 then (gModel_unit_96 o J L z0) else gLet (gModel_isWord_0 o J L 7237492) (fun (r_1 : Int) => (if r_1 = 0 then (gModel_unit_96 o J L z0) else gLet (J o 47) (fun (v_2 : Int) => (if v_2 = 7 then gB3 (gModel_wrong_0 o J L) (fun r_13 J_14 L_15 => gLet (gModel_isGood_0 o J_14 L_15) (fun (r_16 : Int) => (if r_16 = 0 then (1, J_14, L_15) else gB3 (gModel_pile_0 o J_14 L_15 3 126) (fun r_17 J_18 L_19 => gLet (J_18 o 47) (fun (v_20 : Int) => gLet (v_20 + 1) (fun (v_21 : Int) => gLet (q_u J_18 o 47 v_21) (fun (J_22 : gJ) => gB3 (gModel_next_0 o J_22 L_19) (fun r_23 J_24 L_25 => (1, J_24, L_25))))))))) else gLet (gModel_isGood_0 o J L) (fun (r_3 : Int) => (if r_3 = 0 then (1, J, L) else gB3 (gModel_pile_0 o J L 3 126) (fun r_4 J_5 L_6 => gLet (J_5 o 47) (fun (v_7 : Int) => gLet (v_7 + 1) (fun (v_8 : Int) => gLet (q_u J_5 o 47 v_8) (fun (J_9 : gJ) => gB3 (gModel_next_0 o J_9 L_6) (fun r_10 J_11 L_12 => (1, J_11, L_12))))))))))))) := rfl
noncomputable def gModel_unit_31 (o : Nat) (J : gJ) (L : gL) : Int × gJ × gL := (gModel_unit_36 o J L 1)
theorem eModel_unit_31 {o : Nat} {J : gJ} {L : gL} : gModel_unit_31 o J L  = (gModel_unit_36 o J L 1) := rfl
noncomputable def gModel_unit_0 (o : Nat) (J : gJ) (L : gL) : Int × gJ × gL := gLet (J o 48) (fun (v_1 : Int) => gLet (v_1 - 1) (fun (v_2 : Int) => gLet (J (o + 32) (Int.toNat v_2)) (fun (v_3 : Int) => (if v_3 ≤ 3 then (gModel_unit_31 o J L ) else gLet (J o 48) (fun (v_4 : Int) => gLet (v_4 - 1) (fun (v_5 : Int) => gLet (J (o + 32) (Int.toNat v_5)) (fun (v_6 : Int) => (if v_6 < 7 then (gModel_unit_36 o J L 0) else (gModel_unit_31 o J L )))))))))
theorem eModel_unit_0 {o : Nat} {J : gJ} {L : gL} : gModel_unit_0 o J L  = gLet (J o 48) (fun (v_1 : Int) => gLet (v_1 - 1) (fun (v_2 : Int) => gLet (J (o + 32) (Int.toNat v_2)) (fun (v_3 : Int) => (if v_3 ≤ 3 then (gModel_unit_31 o J L ) else gLet (J o 48) (fun (v_4 : Int) => gLet (v_4 - 1) (fun (v_5 : Int) => gLet (J (o + 32) (Int.toNat v_5)) (fun (v_6 : Int) => (if v_6 < 7 then (gModel_unit_36 o J L 0) else (gModel_unit_31 o J L ))))))))) := rfl
set_option maxHeartbeats 4000000 in
set_option maxRecDepth 20000 in
theorem yc_Model_unitg {D : va_G} {cA : FieldType → ClassId} {b : Nat} {E : State → Prop} {R : qRg} {o n : Nat} {sh : Nat → qC} {Rf : Nat → Nat → Option Nat} {I0 : Nat → Nat → Int32} {L0 : Nat → Nat → Int64} {post : Option Value → qS → Prop} {f0 : Nat} (hok : q_ok (qGG D cA b E)) (hw : WfModel (qGG D cA b E) n sh Rf o) (ra : RAModel R o) (hz14 : R.2 14 = true) (hz15 : R.2 15 = true) (hz16 : R.2 16 = true) (hz17 : R.2 17 = true) (hz18 : R.2 18 = true) (hz19 : R.2 19 = true) (hz55 : R.2 55 = true) (hz56 : R.2 56 = true) (hz57 : R.2 57 = true) (hz58 : R.2 58 = true) (hZ : Fz R I0 o wModel_unit) (hR0 : RI R I0) (hq0 : (I0 o 7).toInt ≤ (I0 o 3).toInt) (hq1 : (I0 o 4).toInt = 0) (hq2 : EX 0 0 0 f0 1 I0 o) (hq3 : MTd I0 o) (hq4 : MPo I0 o) (hq5 : MTk I0 o) (hR : RI R I0) (hp : ∀ (r : Int32) (I' : Nat → Nat → Int32) (L' : Nat → Nat → Int64), RI R I' → Fm (fun c => c = o ∨ (o + 30 ≤ c ∧ c < o + 34)) I0 I' → (Bz r) → ((I' o 7).toInt ≤ (I' o 3).toInt) → ((I0 o 7).toInt ≤ (I' o 7).toInt) → ((I0 o 4).toInt ≤ (I' o 4).toInt) → (7 * (I0 o 7).toInt - (I0 o 8).toInt + (I0 o 4).toInt ≤ 7 * (I' o 7).toInt - (I' o 8).toInt + (I' o 4).toInt) → (81 * (7 * (I0 o 7).toInt - (I0 o 8).toInt + (I0 o 4).toInt) - (I0 o 48).toInt < 81 * (7 * (I' o 7).toInt - (I' o 8).toInt + (I' o 4).toInt) - (I' o 48).toInt) → (Im ((I' o 4).toInt = 0) (EX 0 0 0 f0 r.toInt I' o)) → (MTd I' o) → (MPo I' o) → (MTk I' o) → (gModel_unit_0 o (tI I0) L0 = (r.toInt, tI I', L')) → post (some (.int r)) (n, sh, Rf, I', L')) : Ev (qGG D cA b E) mModel_unit 3 (0, 0) 0 (lv_args 0 [.ref o]) [] (n, sh, Rf, I0, L0) post := by
  have hf : Fm (fun c => c = o ∨ (o + 30 ≤ c ∧ c < o + 34)) I0 I0 := Fm.rf
  have g_1 : (0 : Int) ≤ (I0 o 3).toInt ∧ (I0 o 3).toInt ≤ 1600 := hR.at0 ra 3 (by decide)
  have g_2 : (0 : Int) ≤ (I0 o 4).toInt ∧ (I0 o 4).toInt ≤ 5 := hR.at0 ra 4 (by decide)
  have g_3 : (0 : Int) ≤ (I0 o 6).toInt ∧ (I0 o 6).toInt ≤ 1600 := hR.at0 ra 6 (by decide)
  have g_4 : (0 : Int) ≤ (I0 o 7).toInt ∧ (I0 o 7).toInt ≤ 1601 := hR.at0 ra 7 (by decide)
  have g_5 : (0 : Int) ≤ (I0 o 8).toInt ∧ (I0 o 8).toInt ≤ 6 := hR.at0 ra 8 (by decide)
  have g_6 : (0 : Int) ≤ (I0 o 44).toInt ∧ (I0 o 44).toInt ≤ 4 := hR.at0 ra 44 (by decide)
  have g_7 : (0 : Int) ≤ (I0 o 45).toInt ∧ (I0 o 45).toInt ≤ 700 := hR.at0 ra 45 (by decide)
  have g_8 : (0 : Int) ≤ (I0 o 47).toInt ∧ (I0 o 47).toInt ≤ 7 := hR.at0 ra 47 (by decide)
  have g_9 : (0 : Int) ≤ (I0 o 48).toInt ∧ (I0 o 48).toInt ≤ 80 := hR.at0 ra 48 (by decide)
  refine sModel_unit_0 o n sh Rf I0 L0 post  hok hw ?_
  unfold fModel_unit_0
  have hg : gModel_unit_0 o (tI I0) L0 = gModel_unit_0 o (tI I0) L0 := rfl
  replace hg := (eModel_unit_0).symm.trans hg
  have ps := hq2.pos
  have lw := hq2.low (by omega)
  have g_10 : (0 : Int) ≤ (I0 o 48).toInt ∧ (I0 o 48).toInt ≤ 80 := hR.at0 ra 48 (by decide)
  replace hg := gt_let (y := (I0 o 48).toInt) rfl hg
  have l_11 : (1 : Int32).toInt = 1 := rfl
  have a_12 : ((I0 o 48) - 1).toInt = (I0 o 48).toInt - (1 : Int32).toInt := tSub (by omega) (by omega)
  replace hg := gt_let (y := (((I0 o 48) - 1) : Int32).toInt) (by omega) hg
  refine ⟨tIn (by omega) (by omega), ?_⟩
  have g_13 : (0 : Int) ≤ (I0 (o + 32) (((I0 o 48) - 1) : Int32).toNatClampNeg).toInt ∧ (I0 (o + 32) (((I0 o 48) - 1) : Int32).toNatClampNeg).toInt ≤ 8 := hR.at ra 32 _ (by decide)
  replace hg := gt_let (y := (I0 (o + 32) (((I0 o 48) - 1) : Int32).toNatClampNeg).toInt) rfl hg
  have l_14 : (3 : Int32).toInt = 3 := rfl
  refine ⟨fun c_15 => ?_, fun c_15 => ?_⟩
  · have d_16 := iLe c_15
    replace hg := gt_pos (by first | exact d_16 | omega) hg
    unfold fModel_unit_31
    replace hg := (eModel_unit_31).symm.trans hg
    unfold fModel_unit_36
    replace hg := (eModel_unit_36).symm.trans hg
    have l_17 : (0 : Int32).toInt = 0 := rfl
    refine ⟨fun c_18 => ?_, fun c_18 => ?_⟩
    · have d_19 := iEq c_18
      exfalso; omega
    · have d_20 := iNe c_18
      replace hg := gt_neg (by first | exact d_20 | omega) hg
      have l_21 : (7237492 : Int32).toInt = 7237492 := rfl
      refine y_Model_isWordg hok hw ra hR (fun r_22 u_23 u_24 gn_25 => ⟨r_22, I0, L0, rfl, rfl, ?_⟩)
      replace hg := gt_let gn_25 hg
      clear gn_25
      have b_26 : 0 ≤ r_22.toInt ∧ r_22.toInt ≤ 1 := u_23.rg
      refine ⟨fun c_27 => ?_, fun c_27 => ?_⟩
      · have d_28 := iEq c_27
        replace hg := gt_pos (by first | exact d_28 | omega) hg
        unfold fModel_unit_96
        replace hg := (eModel_unit_96).symm.trans hg
        refine y_Model_wordHereg hok hw ra hz14 hz15 hR (fun r_29 I_34 L_35 hR_36 fr_37 kp_38 u_30 u_31 u_32 gn_33 => ⟨r_29, I_34, L_35, rfl, rfl, ?_⟩)
        replace hg := gt_b3 gn_33 hg
        clear gn_33
        have hf_39 : Fm (fun c => c = o ∨ (o + 30 ≤ c ∧ c < o + 34)) I0 I_34 := hf.call fr_37 (fun c hc => by first | exact hc | (dsimp only at hc ⊢; omega) | omega)
        have t_40 : (I_34 o 3).toInt = (I0 o 3).toInt := by rw [kp_38 3 rfl]
        have g_41 : (0 : Int) ≤ (I_34 o 4).toInt ∧ (I_34 o 4).toInt ≤ 5 := hR_36.at0 ra 4 (by decide)
        have t_42 : (I_34 o 6).toInt = (I0 o 6).toInt := by rw [kp_38 6 rfl]
        have t_43 : (I_34 o 7).toInt = (I0 o 7).toInt := by rw [kp_38 7 rfl]
        have t_44 : (I_34 o 8).toInt = (I0 o 8).toInt := by rw [kp_38 8 rfl]
        have t_45 : (I_34 o 9).toInt = (I0 o 9).toInt := by rw [kp_38 9 rfl]
        have t_46 : (I_34 o 44).toInt = (I0 o 44).toInt := by rw [kp_38 44 rfl]
        have t_47 : (I_34 o 45).toInt = (I0 o 45).toInt := by rw [kp_38 45 rfl]
        have t_48 : (I_34 o 47).toInt = (I0 o 47).toInt := by rw [kp_38 47 rfl]
        have t_49 : (I_34 o 48).toInt = (I0 o 48).toInt := by rw [kp_38 48 rfl]
        have k_50 : EX 0 0 0 f0 1 I_34 o := hq2.fr (fr_37 _ (by first | omega | (dsimp only; omega))) (fr_37 _ (by first | omega | (dsimp only; omega))) (fr_37 _ (by first | omega | (dsimp only; omega))) (fr_37 _ (by first | omega | (dsimp only; omega))) (fr_37 _ (by first | omega | (dsimp only; omega))) (kp_38 3 rfl) (kp_38 6 rfl) (kp_38 44 rfl) (kp_38 45 rfl) (kp_38 47 rfl) (kp_38 48 rfl)
        have k_51 : MTd I_34 o := hq3.fr (fr_37 _ (by first | omega | (dsimp only; omega))) (fr_37 _ (by first | omega | (dsimp only; omega))) (fr_37 _ (by first | omega | (dsimp only; omega)))
        have k_52 : MPo I_34 o := hq4.fr (kp_38 8 rfl) (kp_38 9 rfl)
        have k_53 : MTk I_34 o := hq5.fr (kp_38 6 rfl) (kp_38 7 rfl) (kp_38 8 rfl)
        refine y_Model_isGoodg hok hw ra hR_36 (fun r_54 u_55 u_56 u_57 gn_58 => ⟨r_54, I_34, L_35, rfl, rfl, ?_⟩)
        replace hg := gt_let gn_58 hg
        clear gn_58
        have b_59 : 0 ≤ r_54.toInt ∧ r_54.toInt ≤ 1 := u_55.rg
        refine ⟨fun c_60 => ?_, fun c_60 => ?_⟩
        · have d_61 := iNe c_60
          have i_62 := u_56 (by omega)
          replace hg := gt_neg (by first | exact d_61 | omega) hg
          refine ⟨fun c_63 => ?_, fun c_63 => ?_⟩
          · have d_64 := iNe c_63
            have i_65 := u_30 (by omega)
            have i_66 := u_31 (by omega)
            replace hg := gt_neg (by first | exact d_64 | omega) hg
            unfold fModel_unit_131
            replace hg := (eModel_unit_131).symm.trans hg
            have g_67 : (0 : Int) ≤ (I_34 o 46).toInt ∧ (I_34 o 46).toInt ≤ 100 := hR_36.at0 ra 46 (by decide)
            replace hg := gt_let (y := (I_34 o 46).toInt) rfl hg
            have l_68 : (100 : Int32).toInt = 100 := rfl
            refine ⟨fun c_69 => ?_, fun c_69 => ?_⟩
            · have d_70 := iNe c_69
              replace hg := gt_neg (by first | exact d_70 | omega) hg
              refine y_Model_isGoodg hok hw ra hR_36 (fun r_71 u_72 u_73 u_74 gn_75 => ⟨r_71, I_34, L_35, rfl, rfl, ?_⟩)
              replace hg := gt_let gn_75 hg
              clear gn_75
              have b_76 : 0 ≤ r_71.toInt ∧ r_71.toInt ≤ 1 := u_72.rg
              refine ⟨fun c_77 => ?_, fun c_77 => ?_⟩
              · have d_78 := iNe c_77
                have i_79 := u_73 (by omega)
                replace hg := gt_neg (by first | exact d_78 | omega) hg
                have g_80 : (0 : Int) ≤ (I_34 o 46).toInt ∧ (I_34 o 46).toInt ≤ 100 := hR_36.at0 ra 46 (by decide)
                replace hg := gt_let (y := (I_34 o 46).toInt) rfl hg
                have a_81 : ((I_34 o 46) + 1).toInt = (I_34 o 46).toInt + (1 : Int32).toInt := tAdd (by omega) (by omega)
                replace hg := gt_let (y := (((I_34 o 46) + 1) : Int32).toInt) (by omega) hg
                refine fun I_82 e_83 => ?_
                replace hg := gt_let (y := tI I_82) (tI_q e_83) hg
                have hR_84 : RI R I_82 := hR_36.up0 (k := 46) ra (by decide) (Or.inr hz56) e_83 (show (0 : Int) ≤ ((I_34 o 46) + 1).toInt by omega) (show ((I_34 o 46) + 1).toInt ≤ (100 : Int) by omega)
                have hf_85 : Fm (fun c => c = o ∨ (o + 30 ≤ c ∧ c < o + 34)) I0 I_82 := hf_39.set (by first | rfl | omega | (dsimp only; omega)) e_83
                have t_86 : (I_82 o 3).toInt = (I_34 o 3).toInt := by rw [← e_83, q_u_k (by decide)]
                have t_87 : (I_82 o 4).toInt = (I_34 o 4).toInt := by rw [← e_83, q_u_k (by decide)]
                have t_88 : (I_82 o 6).toInt = (I_34 o 6).toInt := by rw [← e_83, q_u_k (by decide)]
                have t_89 : (I_82 o 7).toInt = (I_34 o 7).toInt := by rw [← e_83, q_u_k (by decide)]
                have t_90 : (I_82 o 8).toInt = (I_34 o 8).toInt := by rw [← e_83, q_u_k (by decide)]
                have t_91 : (I_82 o 9).toInt = (I_34 o 9).toInt := by rw [← e_83, q_u_k (by decide)]
                have t_92 : (I_82 o 44).toInt = (I_34 o 44).toInt := by rw [← e_83, q_u_k (by decide)]
                have t_93 : (I_82 o 45).toInt = (I_34 o 45).toInt := by rw [← e_83, q_u_k (by decide)]
                have t_94 : (I_82 o 47).toInt = (I_34 o 47).toInt := by rw [← e_83, q_u_k (by decide)]
                have t_95 : (I_82 o 48).toInt = (I_34 o 48).toInt := by rw [← e_83, q_u_k (by decide)]
                have t_96 : (I_82 o 46).toInt = ((I_34 o 46) + 1).toInt := by rw [← e_83, q_u_at]
                have k_97 : EX 0 0 0 f0 1 I_82 o := k_50.fr (by rw [← e_83]; exact q_u_ne (by omega)) (by rw [← e_83]; exact q_u_ne (by omega)) (by rw [← e_83]; exact q_u_ne (by omega)) (by rw [← e_83]; exact q_u_ne (by omega)) (by rw [← e_83]; exact q_u_ne (by omega)) (by rw [← e_83, q_u_k (by decide)]) (by rw [← e_83, q_u_k (by decide)]) (by rw [← e_83, q_u_k (by decide)]) (by rw [← e_83, q_u_k (by decide)]) (by rw [← e_83, q_u_k (by decide)]) (by rw [← e_83, q_u_k (by decide)])
                have k_98 : MTd I_82 o := k_51.fr (by rw [← e_83]; exact q_u_ne (by omega)) (by rw [← e_83]; exact q_u_ne (by omega)) (by rw [← e_83]; exact q_u_ne (by omega))
                have k_99 : MPo I_82 o := k_52.fr (by rw [← e_83, q_u_k (by decide)]) (by rw [← e_83, q_u_k (by decide)])
                have k_100 : MTk I_82 o := k_53.fr (by rw [← e_83, q_u_k (by decide)]) (by rw [← e_83, q_u_k (by decide)]) (by rw [← e_83, q_u_k (by decide)])
                have l_101 : (40 : Int32).toInt = 40 := rfl
                refine y_Model_isg hok hw ra hR_84 (fun r_102 u_103 u_104 u_105 gn_106 => ⟨r_102, I_82, L_35, rfl, rfl, ?_⟩)
                replace hg := gt_let gn_106 hg
                clear gn_106
                have b_107 : 0 ≤ r_102.toInt ∧ r_102.toInt ≤ 1 := u_103.rg
                refine ⟨fun c_108 => ?_, fun c_108 => ?_⟩
                · have d_109 := iEq c_108
                  replace hg := gt_pos (by first | exact d_109 | omega) hg
                  have cd := k_97.cod
                  have tk := k_100.2 (by omega)
                  refine ⟨fun c_110 => ?_, fun c_110 => ?_⟩
                  · have d_111 := iNe c_110
                    have i_112 := u_30 (by omega)
                    have i_113 := u_31 (by omega)
                    replace hg := gt_neg (by first | exact d_111 | omega) hg
                    unfold fModel_unit_228
                    replace hg := (eModel_unit_228).symm.trans hg
                    refine ⟨fun c_114 => ?_, fun c_114 => ?_⟩
                    · have d_115 := iNe c_114
                      have i_116 := u_30 (by omega)
                      have i_117 := u_31 (by omega)
                      replace hg := gt_neg (by first | exact d_115 | omega) hg
                      refine y_Model_stepg hok hw ra hz55 (by first | omega | (intro h; omega) | exact Or.inl rfl | exact Or.inr rfl) (by first | omega | (intro h; omega) | exact Or.inl rfl | exact Or.inr rfl) hR_84 (fun I_122 L_123 hR_124 fr_125 kp_126 u_119 u_120 gn_121 => ⟨I_122, L_123, rfl, rfl, ?_⟩)
                      replace hg := gt_b3 gn_121 hg
                      clear gn_121
                      have hf_127 : Fm (fun c => c = o ∨ (o + 30 ≤ c ∧ c < o + 34)) I0 I_122 := hf_85.call fr_125 (fun c hc => by first | exact hc | (dsimp only at hc ⊢; omega) | omega)
                      have t_128 : (I_122 o 3).toInt = (I_82 o 3).toInt := by rw [kp_126 3 rfl]
                      have t_129 : (I_122 o 4).toInt = (I_82 o 4).toInt := by rw [kp_126 4 rfl]
                      have t_130 : (I_122 o 6).toInt = (I_82 o 6).toInt := by rw [kp_126 6 rfl]
                      have t_131 : (I_122 o 7).toInt = (I_82 o 7).toInt := by rw [kp_126 7 rfl]
                      have t_132 : (I_122 o 8).toInt = (I_82 o 8).toInt := by rw [kp_126 8 rfl]
                      have t_133 : (I_122 o 9).toInt = (I_82 o 9).toInt := by rw [kp_126 9 rfl]
                      have t_134 : (I_122 o 44).toInt = (I_82 o 44).toInt := by rw [kp_126 44 rfl]
                      have g_135 : (0 : Int) ≤ (I_122 o 45).toInt ∧ (I_122 o 45).toInt ≤ 700 := hR_124.at0 ra 45 (by decide)
                      have t_136 : (I_122 o 47).toInt = (I_82 o 47).toInt := by rw [kp_126 47 rfl]
                      have t_137 : (I_122 o 48).toInt = (I_82 o 48).toInt := by rw [kp_126 48 rfl]
                      have t_138 : (I_122 o 46).toInt = (I_82 o 46).toInt := by rw [kp_126 46 rfl]
                      have k_139 : MPo I_122 o := k_99.fr (kp_126 8 rfl) (kp_126 9 rfl)
                      have k_140 : MTk I_122 o := k_100.fr (kp_126 6 rfl) (kp_126 7 rfl) (kp_126 8 rfl)
                      have tk := k_140.2 (by omega)
                      have k_141 : EX 0 0 1 f0 0 I_122 o := by exact EX.step1 k_97 (by first | exact u_30 (by omega) | (unfold isT; decide)) (by omega) (fr_125 _ (by first | omega | (dsimp only; omega))) (fr_125 _ (by first | omega | (dsimp only; omega))) u_119 (fr_125 _ (by first | omega | (dsimp only; omega))) (fr_125 _ (by first | omega | (dsimp only; omega))) (kp_126 3 rfl) (kp_126 6 rfl) (kp_126 44 rfl) u_120 (kp_126 47 rfl) (kp_126 48 rfl)
                      have k_142 : MTd I_122 o := by exact MTd.step k_98 (fr_125 _ (by first | omega | (dsimp only; omega))) (fr_125 _ (by first | omega | (dsimp only; omega))) u_119 (by omega)
                      refine y_Model_nextg hok hw ra hz16 hz17 hz18 hz19 (by first | omega | (intro h; omega) | exact Or.inl rfl | exact Or.inr rfl) hR_124 (fun I_153 L_154 hR_155 fr_156 kp_157 u_144 u_145 u_146 u_147 u_148 u_149 u_150 u_151 gn_152 => ⟨I_153, L_154, rfl, rfl, ?_⟩)
                      replace hg := gt_b3 gn_152 hg
                      clear gn_152
                      have hf_158 : Fm (fun c => c = o ∨ (o + 30 ≤ c ∧ c < o + 34)) I0 I_153 := hf_127.call fr_156 (fun c hc => by first | exact hc | (dsimp only at hc ⊢; omega) | omega)
                      have t_159 : (I_153 o 3).toInt = (I_122 o 3).toInt := by rw [kp_157 3 rfl]
                      have t_160 : (I_153 o 4).toInt = (I_122 o 4).toInt := by rw [kp_157 4 rfl]
                      have g_161 : (0 : Int) ≤ (I_153 o 6).toInt ∧ (I_153 o 6).toInt ≤ 1600 := hR_155.at0 ra 6 (by decide)
                      have g_162 : (0 : Int) ≤ (I_153 o 7).toInt ∧ (I_153 o 7).toInt ≤ 1601 := hR_155.at0 ra 7 (by decide)
                      have g_163 : (0 : Int) ≤ (I_153 o 8).toInt ∧ (I_153 o 8).toInt ≤ 6 := hR_155.at0 ra 8 (by decide)
                      have t_164 : (I_153 o 44).toInt = (I_122 o 44).toInt := by rw [kp_157 44 rfl]
                      have t_165 : (I_153 o 45).toInt = (I_122 o 45).toInt := by rw [kp_157 45 rfl]
                      have t_166 : (I_153 o 47).toInt = (I_122 o 47).toInt := by rw [kp_157 47 rfl]
                      have t_167 : (I_153 o 48).toInt = (I_122 o 48).toInt := by rw [kp_157 48 rfl]
                      have t_168 : (I_153 o 46).toInt = (I_122 o 46).toInt := by rw [kp_157 46 rfl]
                      have k_169 : MTd I_153 o := k_142.fr (fr_156 _ (by first | omega | (dsimp only; omega))) (fr_156 _ (by first | omega | (dsimp only; omega))) (fr_156 _ (by first | omega | (dsimp only; omega)))
                      have ms := u_147 (by omega)
                      have k_170 : EX 0 0 0 f0 0 I_153 o := by exact EX.nx k_141 (fr_156 _ (by first | omega | (dsimp only; omega))) (fr_156 _ (by first | omega | (dsimp only; omega))) (fr_156 _ (by first | omega | (dsimp only; omega))) (fr_156 _ (by first | omega | (dsimp only; omega))) (fr_156 _ (by first | omega | (dsimp only; omega))) (kp_157 3 rfl) (kp_157 44 rfl) (kp_157 45 rfl) (kp_157 47 rfl) (kp_157 48 rfl) (by omega) (by omega)
                      exact (hp _ _ _ hR_155 hf_158 (Or.inl rfl) (by first | omega | (intro h; omega) | exact Or.inl rfl | exact Or.inr rfl) (by first | omega | (intro h; omega) | exact Or.inl rfl | exact Or.inr rfl) (by first | omega | (intro h; omega) | exact Or.inl rfl | exact Or.inr rfl) (by first | omega | (intro h; omega) | exact Or.inl rfl | exact Or.inr rfl) (by first | omega | (intro h; omega) | exact Or.inl rfl | exact Or.inr rfl) (by clear hg; first | (intro h; exfalso; omega) | exact fun _ => (False.elim (by omega)) | exact fun _ => k_170) k_169 u_150 u_151 hg.symm)
                    · have d_171 := iEq c_114
                      replace hg := gt_pos (by first | exact d_171 | omega) hg
                      replace hg := gt_let (y := (I_82 o 9).toInt) rfl hg
                      refine y_Model_stepg hok hw ra hz55 (by first | omega | (intro h; omega) | exact Or.inl rfl | exact Or.inr rfl) (by first | omega | (intro h; omega) | exact Or.inl rfl | exact Or.inr rfl) hR_84 (fun I_176 L_177 hR_178 fr_179 kp_180 u_173 u_174 gn_175 => ⟨I_176, L_177, rfl, rfl, ?_⟩)
                      replace hg := gt_b3 gn_175 hg
                      clear gn_175
                      have hf_181 : Fm (fun c => c = o ∨ (o + 30 ≤ c ∧ c < o + 34)) I0 I_176 := hf_85.call fr_179 (fun c hc => by first | exact hc | (dsimp only at hc ⊢; omega) | omega)
                      have t_182 : (I_176 o 3).toInt = (I_82 o 3).toInt := by rw [kp_180 3 rfl]
                      have t_183 : (I_176 o 4).toInt = (I_82 o 4).toInt := by rw [kp_180 4 rfl]
                      have t_184 : (I_176 o 6).toInt = (I_82 o 6).toInt := by rw [kp_180 6 rfl]
                      have t_185 : (I_176 o 7).toInt = (I_82 o 7).toInt := by rw [kp_180 7 rfl]
                      have t_186 : (I_176 o 8).toInt = (I_82 o 8).toInt := by rw [kp_180 8 rfl]
                      have t_187 : (I_176 o 9).toInt = (I_82 o 9).toInt := by rw [kp_180 9 rfl]
                      have t_188 : (I_176 o 44).toInt = (I_82 o 44).toInt := by rw [kp_180 44 rfl]
                      have g_189 : (0 : Int) ≤ (I_176 o 45).toInt ∧ (I_176 o 45).toInt ≤ 700 := hR_178.at0 ra 45 (by decide)
                      have t_190 : (I_176 o 47).toInt = (I_82 o 47).toInt := by rw [kp_180 47 rfl]
                      have t_191 : (I_176 o 48).toInt = (I_82 o 48).toInt := by rw [kp_180 48 rfl]
                      have t_192 : (I_176 o 46).toInt = (I_82 o 46).toInt := by rw [kp_180 46 rfl]
                      have k_193 : MPo I_176 o := k_99.fr (kp_180 8 rfl) (kp_180 9 rfl)
                      have k_194 : MTk I_176 o := k_100.fr (kp_180 6 rfl) (kp_180 7 rfl) (kp_180 8 rfl)
                      have tk := k_194.2 (by omega)
                      have k_195 : EX 0 0 1 f0 0 I_176 o := by exact EX.step1 k_97 (by first | exact u_30 (by omega) | (unfold isT; decide)) (by omega) (fr_179 _ (by first | omega | (dsimp only; omega))) (fr_179 _ (by first | omega | (dsimp only; omega))) u_173 (fr_179 _ (by first | omega | (dsimp only; omega))) (fr_179 _ (by first | omega | (dsimp only; omega))) (kp_180 3 rfl) (kp_180 6 rfl) (kp_180 44 rfl) u_174 (kp_180 47 rfl) (kp_180 48 rfl)
                      have k_196 : MTd I_176 o := by exact MTd.step k_98 (fr_179 _ (by first | omega | (dsimp only; omega))) (fr_179 _ (by first | omega | (dsimp only; omega))) u_173 (by omega)
                      refine y_Model_nextg hok hw ra hz16 hz17 hz18 hz19 (by first | omega | (intro h; omega) | exact Or.inl rfl | exact Or.inr rfl) hR_178 (fun I_207 L_208 hR_209 fr_210 kp_211 u_198 u_199 u_200 u_201 u_202 u_203 u_204 u_205 gn_206 => ⟨I_207, L_208, rfl, rfl, ?_⟩)
                      replace hg := gt_b3 gn_206 hg
                      clear gn_206
                      have hf_212 : Fm (fun c => c = o ∨ (o + 30 ≤ c ∧ c < o + 34)) I0 I_207 := hf_181.call fr_210 (fun c hc => by first | exact hc | (dsimp only at hc ⊢; omega) | omega)
                      have t_213 : (I_207 o 3).toInt = (I_176 o 3).toInt := by rw [kp_211 3 rfl]
                      have t_214 : (I_207 o 4).toInt = (I_176 o 4).toInt := by rw [kp_211 4 rfl]
                      have g_215 : (0 : Int) ≤ (I_207 o 6).toInt ∧ (I_207 o 6).toInt ≤ 1600 := hR_209.at0 ra 6 (by decide)
                      have g_216 : (0 : Int) ≤ (I_207 o 7).toInt ∧ (I_207 o 7).toInt ≤ 1601 := hR_209.at0 ra 7 (by decide)
                      have g_217 : (0 : Int) ≤ (I_207 o 8).toInt ∧ (I_207 o 8).toInt ≤ 6 := hR_209.at0 ra 8 (by decide)
                      have t_218 : (I_207 o 44).toInt = (I_176 o 44).toInt := by rw [kp_211 44 rfl]
                      have t_219 : (I_207 o 45).toInt = (I_176 o 45).toInt := by rw [kp_211 45 rfl]
                      have t_220 : (I_207 o 47).toInt = (I_176 o 47).toInt := by rw [kp_211 47 rfl]
                      have t_221 : (I_207 o 48).toInt = (I_176 o 48).toInt := by rw [kp_211 48 rfl]
                      have t_222 : (I_207 o 46).toInt = (I_176 o 46).toInt := by rw [kp_211 46 rfl]
                      have k_223 : MTd I_207 o := k_196.fr (fr_210 _ (by first | omega | (dsimp only; omega))) (fr_210 _ (by first | omega | (dsimp only; omega))) (fr_210 _ (by first | omega | (dsimp only; omega)))
                      have ms := u_201 (by omega)
                      have k_224 : EX 0 0 0 f0 0 I_207 o := by exact EX.nx k_195 (fr_210 _ (by first | omega | (dsimp only; omega))) (fr_210 _ (by first | omega | (dsimp only; omega))) (fr_210 _ (by first | omega | (dsimp only; omega))) (fr_210 _ (by first | omega | (dsimp only; omega))) (fr_210 _ (by first | omega | (dsimp only; omega))) (kp_211 3 rfl) (kp_211 44 rfl) (kp_211 45 rfl) (kp_211 47 rfl) (kp_211 48 rfl) (by omega) (by omega)
                      exact (hp _ _ _ hR_209 hf_212 (Or.inl rfl) (by first | omega | (intro h; omega) | exact Or.inl rfl | exact Or.inr rfl) (by first | omega | (intro h; omega) | exact Or.inl rfl | exact Or.inr rfl) (by first | omega | (intro h; omega) | exact Or.inl rfl | exact Or.inr rfl) (by first | omega | (intro h; omega) | exact Or.inl rfl | exact Or.inr rfl) (by first | omega | (intro h; omega) | exact Or.inl rfl | exact Or.inr rfl) (by clear hg; first | (intro h; exfalso; omega) | exact fun _ => (False.elim (by omega)) | exact fun _ => k_224) k_223 u_204 u_205 hg.symm)
                  · have d_225 := iEq c_110
                    replace hg := gt_pos (by first | exact d_225 | omega) hg
                    unfold fModel_unit_228
                    replace hg := (eModel_unit_228).symm.trans hg
                    have l_226 : (78 : Int32).toInt = 78 := rfl
                    refine ⟨fun c_227 => ?_, fun c_227 => ?_⟩
                    · have d_228 := iNe c_227
                      have i_229 := u_30 (by omega)
                      have i_230 := u_31 (by omega)
                      exfalso; omega
                    · have d_231 := iEq c_227
                      replace hg := gt_pos (by first | exact d_231 | omega) hg
                      replace hg := gt_let (y := (I_82 o 9).toInt) rfl hg
                      refine y_Model_stepg hok hw ra hz55 (by first | omega | (intro h; omega) | exact Or.inl rfl | exact Or.inr rfl) (by first | omega | (intro h; omega) | exact Or.inl rfl | exact Or.inr rfl) hR_84 (fun I_236 L_237 hR_238 fr_239 kp_240 u_233 u_234 gn_235 => ⟨I_236, L_237, rfl, rfl, ?_⟩)
                      replace hg := gt_b3 gn_235 hg
                      clear gn_235
                      have hf_241 : Fm (fun c => c = o ∨ (o + 30 ≤ c ∧ c < o + 34)) I0 I_236 := hf_85.call fr_239 (fun c hc => by first | exact hc | (dsimp only at hc ⊢; omega) | omega)
                      have t_242 : (I_236 o 3).toInt = (I_82 o 3).toInt := by rw [kp_240 3 rfl]
                      have t_243 : (I_236 o 4).toInt = (I_82 o 4).toInt := by rw [kp_240 4 rfl]
                      have t_244 : (I_236 o 6).toInt = (I_82 o 6).toInt := by rw [kp_240 6 rfl]
                      have t_245 : (I_236 o 7).toInt = (I_82 o 7).toInt := by rw [kp_240 7 rfl]
                      have t_246 : (I_236 o 8).toInt = (I_82 o 8).toInt := by rw [kp_240 8 rfl]
                      have t_247 : (I_236 o 9).toInt = (I_82 o 9).toInt := by rw [kp_240 9 rfl]
                      have t_248 : (I_236 o 44).toInt = (I_82 o 44).toInt := by rw [kp_240 44 rfl]
                      have g_249 : (0 : Int) ≤ (I_236 o 45).toInt ∧ (I_236 o 45).toInt ≤ 700 := hR_238.at0 ra 45 (by decide)
                      have t_250 : (I_236 o 47).toInt = (I_82 o 47).toInt := by rw [kp_240 47 rfl]
                      have t_251 : (I_236 o 48).toInt = (I_82 o 48).toInt := by rw [kp_240 48 rfl]
                      have t_252 : (I_236 o 46).toInt = (I_82 o 46).toInt := by rw [kp_240 46 rfl]
                      have k_253 : MPo I_236 o := k_99.fr (kp_240 8 rfl) (kp_240 9 rfl)
                      have k_254 : MTk I_236 o := k_100.fr (kp_240 6 rfl) (kp_240 7 rfl) (kp_240 8 rfl)
                      have tk := k_254.2 (by omega)
                      have k_255 : EX 0 0 1 f0 0 I_236 o := by exact EX.step1 k_97 (by first | exact u_30 (by omega) | (unfold isT; decide)) (by omega) (fr_239 _ (by first | omega | (dsimp only; omega))) (fr_239 _ (by first | omega | (dsimp only; omega))) u_233 (fr_239 _ (by first | omega | (dsimp only; omega))) (fr_239 _ (by first | omega | (dsimp only; omega))) (kp_240 3 rfl) (kp_240 6 rfl) (kp_240 44 rfl) u_234 (kp_240 47 rfl) (kp_240 48 rfl)
                      have k_256 : MTd I_236 o := by exact MTd.step k_98 (fr_239 _ (by first | omega | (dsimp only; omega))) (fr_239 _ (by first | omega | (dsimp only; omega))) u_233 (by omega)
                      refine y_Model_nextg hok hw ra hz16 hz17 hz18 hz19 (by first | omega | (intro h; omega) | exact Or.inl rfl | exact Or.inr rfl) hR_238 (fun I_267 L_268 hR_269 fr_270 kp_271 u_258 u_259 u_260 u_261 u_262 u_263 u_264 u_265 gn_266 => ⟨I_267, L_268, rfl, rfl, ?_⟩)
                      replace hg := gt_b3 gn_266 hg
                      clear gn_266
                      have hf_272 : Fm (fun c => c = o ∨ (o + 30 ≤ c ∧ c < o + 34)) I0 I_267 := hf_241.call fr_270 (fun c hc => by first | exact hc | (dsimp only at hc ⊢; omega) | omega)
                      have t_273 : (I_267 o 3).toInt = (I_236 o 3).toInt := by rw [kp_271 3 rfl]
                      have t_274 : (I_267 o 4).toInt = (I_236 o 4).toInt := by rw [kp_271 4 rfl]
                      have g_275 : (0 : Int) ≤ (I_267 o 6).toInt ∧ (I_267 o 6).toInt ≤ 1600 := hR_269.at0 ra 6 (by decide)
                      have g_276 : (0 : Int) ≤ (I_267 o 7).toInt ∧ (I_267 o 7).toInt ≤ 1601 := hR_269.at0 ra 7 (by decide)
                      have g_277 : (0 : Int) ≤ (I_267 o 8).toInt ∧ (I_267 o 8).toInt ≤ 6 := hR_269.at0 ra 8 (by decide)
                      have t_278 : (I_267 o 44).toInt = (I_236 o 44).toInt := by rw [kp_271 44 rfl]
                      have t_279 : (I_267 o 45).toInt = (I_236 o 45).toInt := by rw [kp_271 45 rfl]
                      have t_280 : (I_267 o 47).toInt = (I_236 o 47).toInt := by rw [kp_271 47 rfl]
                      have t_281 : (I_267 o 48).toInt = (I_236 o 48).toInt := by rw [kp_271 48 rfl]
                      have t_282 : (I_267 o 46).toInt = (I_236 o 46).toInt := by rw [kp_271 46 rfl]
                      have k_283 : MTd I_267 o := k_256.fr (fr_270 _ (by first | omega | (dsimp only; omega))) (fr_270 _ (by first | omega | (dsimp only; omega))) (fr_270 _ (by first | omega | (dsimp only; omega)))
                      have ms := u_261 (by omega)
                      have k_284 : EX 0 0 0 f0 0 I_267 o := by exact EX.nx k_255 (fr_270 _ (by first | omega | (dsimp only; omega))) (fr_270 _ (by first | omega | (dsimp only; omega))) (fr_270 _ (by first | omega | (dsimp only; omega))) (fr_270 _ (by first | omega | (dsimp only; omega))) (fr_270 _ (by first | omega | (dsimp only; omega))) (kp_271 3 rfl) (kp_271 44 rfl) (kp_271 45 rfl) (kp_271 47 rfl) (kp_271 48 rfl) (by omega) (by omega)
                      exact (hp _ _ _ hR_269 hf_272 (Or.inl rfl) (by first | omega | (intro h; omega) | exact Or.inl rfl | exact Or.inr rfl) (by first | omega | (intro h; omega) | exact Or.inl rfl | exact Or.inr rfl) (by first | omega | (intro h; omega) | exact Or.inl rfl | exact Or.inr rfl) (by first | omega | (intro h; omega) | exact Or.inl rfl | exact Or.inr rfl) (by first | omega | (intro h; omega) | exact Or.inl rfl | exact Or.inr rfl) (by clear hg; first | (intro h; exfalso; omega) | exact fun _ => (False.elim (by omega)) | exact fun _ => k_284) k_283 u_264 u_265 hg.symm)
                · have d_285 := iNe c_108
                  have i_286 := u_104 (by omega)
                  have i_287 := u_105 (by omega)
                  replace hg := gt_neg (by first | exact d_285 | omega) hg
                  have g_288 : (0 : Int) ≤ (I_82 o 47).toInt ∧ (I_82 o 47).toInt ≤ 7 := hR_84.at0 ra 47 (by decide)
                  replace hg := gt_let (y := (I_82 o 47).toInt) rfl hg
                  have l_289 : (7 : Int32).toInt = 7 := rfl
                  refine ⟨fun c_290 => ?_, fun c_290 => ?_⟩
                  · have d_291 := iNe c_290
                    replace hg := gt_neg (by first | exact d_291 | omega) hg
                    refine y_Model_isGoodg hok hw ra hR_84 (fun r_292 u_293 u_294 u_295 gn_296 => ⟨r_292, I_82, L_35, rfl, rfl, ?_⟩)
                    replace hg := gt_let gn_296 hg
                    clear gn_296
                    have b_297 : 0 ≤ r_292.toInt ∧ r_292.toInt ≤ 1 := u_293.rg
                    refine ⟨fun c_298 => ?_, fun c_298 => ?_⟩
                    · have d_299 := iNe c_298
                      have i_300 := u_294 (by omega)
                      replace hg := gt_neg (by first | exact d_299 | omega) hg
                      refine y_Model_pileg hok hw ra hz58 (by first | omega | (intro h; omega) | exact Or.inl rfl | exact Or.inr rfl) (by first | omega | (intro h; omega) | exact Or.inl rfl | exact Or.inr rfl) hR_84 (fun I_306 L_307 hR_308 fr_309 kp_310 u_302 u_303 u_304 gn_305 => ⟨I_306, L_307, rfl, rfl, ?_⟩)
                      replace hg := gt_b3 gn_305 hg
                      clear gn_305
                      have hf_311 : Fm (fun c => c = o ∨ (o + 30 ≤ c ∧ c < o + 34)) I0 I_306 := hf_85.call fr_309 (fun c hc => by first | exact hc | (dsimp only at hc ⊢; omega) | omega)
                      have t_312 : (I_306 o 3).toInt = (I_82 o 3).toInt := by rw [kp_310 3 rfl]
                      have t_313 : (I_306 o 4).toInt = (I_82 o 4).toInt := by rw [kp_310 4 rfl]
                      have t_314 : (I_306 o 6).toInt = (I_82 o 6).toInt := by rw [kp_310 6 rfl]
                      have t_315 : (I_306 o 7).toInt = (I_82 o 7).toInt := by rw [kp_310 7 rfl]
                      have t_316 : (I_306 o 8).toInt = (I_82 o 8).toInt := by rw [kp_310 8 rfl]
                      have t_317 : (I_306 o 9).toInt = (I_82 o 9).toInt := by rw [kp_310 9 rfl]
                      have t_318 : (I_306 o 44).toInt = (I_82 o 44).toInt := by rw [kp_310 44 rfl]
                      have t_319 : (I_306 o 45).toInt = (I_82 o 45).toInt := by rw [kp_310 45 rfl]
                      have t_320 : (I_306 o 47).toInt = (I_82 o 47).toInt := by rw [kp_310 47 rfl]
                      have g_321 : (0 : Int) ≤ (I_306 o 48).toInt ∧ (I_306 o 48).toInt ≤ 80 := hR_308.at0 ra 48 (by decide)
                      have t_322 : (I_306 o 46).toInt = (I_82 o 46).toInt := by rw [kp_310 46 rfl]
                      have k_323 : MTd I_306 o := k_98.fr (fr_309 _ (by first | omega | (dsimp only; omega))) (fr_309 _ (by first | omega | (dsimp only; omega))) (fr_309 _ (by first | omega | (dsimp only; omega)))
                      have k_324 : MPo I_306 o := k_99.fr (kp_310 8 rfl) (kp_310 9 rfl)
                      have k_325 : MTk I_306 o := k_100.fr (kp_310 6 rfl) (kp_310 7 rfl) (kp_310 8 rfl)
                      have k_326 : EX 0 1 1 f0 1 I_306 o := by have z := EX.push k_97 (v := 7) (s := 0) (dB := 1) (dO := 0) (wt' := 1) (by decide) (by decide) (by decide) (by omega) ⟨by decide, by decide⟩ ⟨fun h => absurd h (by decide), fun h => absurd h (by decide)⟩ (Or.inl rfl) (fr_309 _ (by first | omega | (dsimp only; omega))) (fr_309 _ (by first | omega | (dsimp only; omega))) (fr_309 _ (by first | omega | (dsimp only; omega))) u_302 u_303 (kp_310 3 rfl) (kp_310 6 rfl) (kp_310 44 rfl) (kp_310 45 rfl) (kp_310 47 rfl) u_304; exact EX.chg (b' := 1) z rfl rfl rfl rfl rfl rfl rfl rfl rfl rfl (by omega) z.pl
                      have g_327 : (0 : Int) ≤ (I_306 o 47).toInt ∧ (I_306 o 47).toInt ≤ 7 := hR_308.at0 ra 47 (by decide)
                      replace hg := gt_let (y := (I_306 o 47).toInt) rfl hg
                      have a_328 : ((I_306 o 47) + 1).toInt = (I_306 o 47).toInt + (1 : Int32).toInt := tAdd (by omega) (by omega)
                      replace hg := gt_let (y := (((I_306 o 47) + 1) : Int32).toInt) (by omega) hg
                      refine fun I_329 e_330 => ?_
                      replace hg := gt_let (y := tI I_329) (tI_q e_330) hg
                      have hR_331 : RI R I_329 := hR_308.up0 (k := 47) ra (by decide) (Or.inr hz57) e_330 (show (0 : Int) ≤ ((I_306 o 47) + 1).toInt by omega) (show ((I_306 o 47) + 1).toInt ≤ (7 : Int) by omega)
                      have hf_332 : Fm (fun c => c = o ∨ (o + 30 ≤ c ∧ c < o + 34)) I0 I_329 := hf_311.set (by first | rfl | omega | (dsimp only; omega)) e_330
                      have t_333 : (I_329 o 3).toInt = (I_306 o 3).toInt := by rw [← e_330, q_u_k (by decide)]
                      have t_334 : (I_329 o 4).toInt = (I_306 o 4).toInt := by rw [← e_330, q_u_k (by decide)]
                      have t_335 : (I_329 o 6).toInt = (I_306 o 6).toInt := by rw [← e_330, q_u_k (by decide)]
                      have t_336 : (I_329 o 7).toInt = (I_306 o 7).toInt := by rw [← e_330, q_u_k (by decide)]
                      have t_337 : (I_329 o 8).toInt = (I_306 o 8).toInt := by rw [← e_330, q_u_k (by decide)]
                      have t_338 : (I_329 o 9).toInt = (I_306 o 9).toInt := by rw [← e_330, q_u_k (by decide)]
                      have t_339 : (I_329 o 44).toInt = (I_306 o 44).toInt := by rw [← e_330, q_u_k (by decide)]
                      have t_340 : (I_329 o 45).toInt = (I_306 o 45).toInt := by rw [← e_330, q_u_k (by decide)]
                      have t_341 : (I_329 o 47).toInt = ((I_306 o 47) + 1).toInt := by rw [← e_330, q_u_at]
                      have t_342 : (I_329 o 48).toInt = (I_306 o 48).toInt := by rw [← e_330, q_u_k (by decide)]
                      have t_343 : (I_329 o 46).toInt = (I_306 o 46).toInt := by rw [← e_330, q_u_k (by decide)]
                      have k_344 : MTd I_329 o := k_323.fr (by rw [← e_330]; exact q_u_ne (by omega)) (by rw [← e_330]; exact q_u_ne (by omega)) (by rw [← e_330]; exact q_u_ne (by omega))
                      have k_345 : MPo I_329 o := k_324.fr (by rw [← e_330, q_u_k (by decide)]) (by rw [← e_330, q_u_k (by decide)])
                      have k_346 : MTk I_329 o := k_325.fr (by rw [← e_330, q_u_k (by decide)]) (by rw [← e_330, q_u_k (by decide)]) (by rw [← e_330, q_u_k (by decide)])
                      have tk := k_346.2 (by omega)
                      have k_348 : EX 0 0 1 f0 1 I_329 o := by exact EX.put47 k_326 e_330 (by omega)
                      refine y_Model_nextg hok hw ra hz16 hz17 hz18 hz19 (by first | omega | (intro h; omega) | exact Or.inl rfl | exact Or.inr rfl) hR_331 (fun I_359 L_360 hR_361 fr_362 kp_363 u_350 u_351 u_352 u_353 u_354 u_355 u_356 u_357 gn_358 => ⟨I_359, L_360, rfl, rfl, ?_⟩)
                      replace hg := gt_b3 gn_358 hg
                      clear gn_358
                      have hf_364 : Fm (fun c => c = o ∨ (o + 30 ≤ c ∧ c < o + 34)) I0 I_359 := hf_332.call fr_362 (fun c hc => by first | exact hc | (dsimp only at hc ⊢; omega) | omega)
                      have t_365 : (I_359 o 3).toInt = (I_329 o 3).toInt := by rw [kp_363 3 rfl]
                      have t_366 : (I_359 o 4).toInt = (I_329 o 4).toInt := by rw [kp_363 4 rfl]
                      have g_367 : (0 : Int) ≤ (I_359 o 6).toInt ∧ (I_359 o 6).toInt ≤ 1600 := hR_361.at0 ra 6 (by decide)
                      have g_368 : (0 : Int) ≤ (I_359 o 7).toInt ∧ (I_359 o 7).toInt ≤ 1601 := hR_361.at0 ra 7 (by decide)
                      have g_369 : (0 : Int) ≤ (I_359 o 8).toInt ∧ (I_359 o 8).toInt ≤ 6 := hR_361.at0 ra 8 (by decide)
                      have t_370 : (I_359 o 44).toInt = (I_329 o 44).toInt := by rw [kp_363 44 rfl]
                      have t_371 : (I_359 o 45).toInt = (I_329 o 45).toInt := by rw [kp_363 45 rfl]
                      have t_372 : (I_359 o 47).toInt = (I_329 o 47).toInt := by rw [kp_363 47 rfl]
                      have t_373 : (I_359 o 48).toInt = (I_329 o 48).toInt := by rw [kp_363 48 rfl]
                      have t_374 : (I_359 o 46).toInt = (I_329 o 46).toInt := by rw [kp_363 46 rfl]
                      have k_375 : MTd I_359 o := k_344.fr (fr_362 _ (by first | omega | (dsimp only; omega))) (fr_362 _ (by first | omega | (dsimp only; omega))) (fr_362 _ (by first | omega | (dsimp only; omega)))
                      have ms := u_353 (by omega)
                      have k_376 : EX 0 0 0 f0 1 I_359 o := by exact EX.nx k_348 (fr_362 _ (by first | omega | (dsimp only; omega))) (fr_362 _ (by first | omega | (dsimp only; omega))) (fr_362 _ (by first | omega | (dsimp only; omega))) (fr_362 _ (by first | omega | (dsimp only; omega))) (fr_362 _ (by first | omega | (dsimp only; omega))) (kp_363 3 rfl) (kp_363 44 rfl) (kp_363 45 rfl) (kp_363 47 rfl) (kp_363 48 rfl) (by omega) (by omega)
                      exact (hp _ _ _ hR_361 hf_364 (Or.inr rfl) (by first | omega | (intro h; omega) | exact Or.inl rfl | exact Or.inr rfl) (by first | omega | (intro h; omega) | exact Or.inl rfl | exact Or.inr rfl) (by first | omega | (intro h; omega) | exact Or.inl rfl | exact Or.inr rfl) (by first | omega | (intro h; omega) | exact Or.inl rfl | exact Or.inr rfl) (by first | omega | (intro h; omega) | exact Or.inl rfl | exact Or.inr rfl) (by clear hg; first | (intro h; exfalso; omega) | exact fun _ => k_376 | exact fun _ => (False.elim (by omega))) k_375 u_356 u_357 hg.symm)
                    · have d_377 := iEq c_298
                      have i_378 := u_295 (by omega)
                      replace hg := gt_pos (by first | exact d_377 | omega) hg
                      exact (hp _ _ _ hR_84 hf_85 (Or.inr rfl) (by first | omega | (intro h; omega) | exact Or.inl rfl | exact Or.inr rfl) (by first | omega | (intro h; omega) | exact Or.inl rfl | exact Or.inr rfl) (by first | omega | (intro h; omega) | exact Or.inl rfl | exact Or.inr rfl) (by first | omega | (intro h; omega) | exact Or.inl rfl | exact Or.inr rfl) (by first | omega | (intro h; omega) | exact Or.inl rfl | exact Or.inr rfl) (by clear hg; first | (intro h; exfalso; omega) | exact fun _ => k_97 | exact fun _ => (False.elim (by omega))) k_98 k_99 k_100 hg.symm)
                  · have d_379 := iEq c_290
                    replace hg := gt_pos (by first | exact d_379 | omega) hg
                    refine y_Model_wrongg hok hw ra hz14 hz15 hR_84 (fun I_384 L_385 hR_386 fr_387 kp_388 u_381 u_382 gn_383 => ⟨I_384, L_385, rfl, rfl, ?_⟩)
                    replace hg := gt_b3 gn_383 hg
                    clear gn_383
                    have hf_389 : Fm (fun c => c = o ∨ (o + 30 ≤ c ∧ c < o + 34)) I0 I_384 := hf_85.call fr_387 (fun c hc => by first | exact hc | (dsimp only at hc ⊢; omega) | omega)
                    have t_390 : (I_384 o 3).toInt = (I_82 o 3).toInt := by rw [kp_388 3 rfl]
                    have g_391 : (0 : Int) ≤ (I_384 o 4).toInt ∧ (I_384 o 4).toInt ≤ 5 := hR_386.at0 ra 4 (by decide)
                    have t_392 : (I_384 o 6).toInt = (I_82 o 6).toInt := by rw [kp_388 6 rfl]
                    have t_393 : (I_384 o 7).toInt = (I_82 o 7).toInt := by rw [kp_388 7 rfl]
                    have t_394 : (I_384 o 8).toInt = (I_82 o 8).toInt := by rw [kp_388 8 rfl]
                    have t_395 : (I_384 o 9).toInt = (I_82 o 9).toInt := by rw [kp_388 9 rfl]
                    have t_396 : (I_384 o 44).toInt = (I_82 o 44).toInt := by rw [kp_388 44 rfl]
                    have t_397 : (I_384 o 45).toInt = (I_82 o 45).toInt := by rw [kp_388 45 rfl]
                    have t_398 : (I_384 o 47).toInt = (I_82 o 47).toInt := by rw [kp_388 47 rfl]
                    have t_399 : (I_384 o 48).toInt = (I_82 o 48).toInt := by rw [kp_388 48 rfl]
                    have t_400 : (I_384 o 46).toInt = (I_82 o 46).toInt := by rw [kp_388 46 rfl]
                    have k_401 : EX 0 0 0 f0 1 I_384 o := k_97.fr (fr_387 _ (by first | omega | (dsimp only; omega))) (fr_387 _ (by first | omega | (dsimp only; omega))) (fr_387 _ (by first | omega | (dsimp only; omega))) (fr_387 _ (by first | omega | (dsimp only; omega))) (fr_387 _ (by first | omega | (dsimp only; omega))) (kp_388 3 rfl) (kp_388 6 rfl) (kp_388 44 rfl) (kp_388 45 rfl) (kp_388 47 rfl) (kp_388 48 rfl)
                    have k_402 : MTd I_384 o := k_98.fr (fr_387 _ (by first | omega | (dsimp only; omega))) (fr_387 _ (by first | omega | (dsimp only; omega))) (fr_387 _ (by first | omega | (dsimp only; omega)))
                    have k_403 : MPo I_384 o := k_99.fr (kp_388 8 rfl) (kp_388 9 rfl)
                    have k_404 : MTk I_384 o := k_100.fr (kp_388 6 rfl) (kp_388 7 rfl) (kp_388 8 rfl)
                    refine y_Model_isGoodg hok hw ra hR_386 (fun r_405 u_406 u_407 u_408 gn_409 => ⟨r_405, I_384, L_385, rfl, rfl, ?_⟩)
                    replace hg := gt_let gn_409 hg
                    clear gn_409
                    have b_410 : 0 ≤ r_405.toInt ∧ r_405.toInt ≤ 1 := u_406.rg
                    refine ⟨fun c_411 => ?_, fun c_411 => ?_⟩
                    · have d_412 := iNe c_411
                      have i_413 := u_407 (by omega)
                      replace hg := gt_neg (by first | exact d_412 | omega) hg
                      refine y_Model_pileg hok hw ra hz58 (by first | omega | (intro h; omega) | exact Or.inl rfl | exact Or.inr rfl) (by first | omega | (intro h; omega) | exact Or.inl rfl | exact Or.inr rfl) hR_386 (fun I_419 L_420 hR_421 fr_422 kp_423 u_415 u_416 u_417 gn_418 => ⟨I_419, L_420, rfl, rfl, ?_⟩)
                      replace hg := gt_b3 gn_418 hg
                      clear gn_418
                      have hf_424 : Fm (fun c => c = o ∨ (o + 30 ≤ c ∧ c < o + 34)) I0 I_419 := hf_389.call fr_422 (fun c hc => by first | exact hc | (dsimp only at hc ⊢; omega) | omega)
                      have t_425 : (I_419 o 3).toInt = (I_384 o 3).toInt := by rw [kp_423 3 rfl]
                      have t_426 : (I_419 o 4).toInt = (I_384 o 4).toInt := by rw [kp_423 4 rfl]
                      have t_427 : (I_419 o 6).toInt = (I_384 o 6).toInt := by rw [kp_423 6 rfl]
                      have t_428 : (I_419 o 7).toInt = (I_384 o 7).toInt := by rw [kp_423 7 rfl]
                      have t_429 : (I_419 o 8).toInt = (I_384 o 8).toInt := by rw [kp_423 8 rfl]
                      have t_430 : (I_419 o 9).toInt = (I_384 o 9).toInt := by rw [kp_423 9 rfl]
                      have t_431 : (I_419 o 44).toInt = (I_384 o 44).toInt := by rw [kp_423 44 rfl]
                      have t_432 : (I_419 o 45).toInt = (I_384 o 45).toInt := by rw [kp_423 45 rfl]
                      have t_433 : (I_419 o 47).toInt = (I_384 o 47).toInt := by rw [kp_423 47 rfl]
                      have g_434 : (0 : Int) ≤ (I_419 o 48).toInt ∧ (I_419 o 48).toInt ≤ 80 := hR_421.at0 ra 48 (by decide)
                      have t_435 : (I_419 o 46).toInt = (I_384 o 46).toInt := by rw [kp_423 46 rfl]
                      have k_436 : MTd I_419 o := k_402.fr (fr_422 _ (by first | omega | (dsimp only; omega))) (fr_422 _ (by first | omega | (dsimp only; omega))) (fr_422 _ (by first | omega | (dsimp only; omega)))
                      have k_437 : MPo I_419 o := k_403.fr (kp_423 8 rfl) (kp_423 9 rfl)
                      have k_438 : MTk I_419 o := k_404.fr (kp_423 6 rfl) (kp_423 7 rfl) (kp_423 8 rfl)
                      have k_439 : EX 0 1 1 f0 1 I_419 o := by have z := EX.push k_401 (v := 7) (s := 0) (dB := 1) (dO := 0) (wt' := 1) (by decide) (by decide) (by decide) (by omega) ⟨by decide, by decide⟩ ⟨fun h => absurd h (by decide), fun h => absurd h (by decide)⟩ (Or.inl rfl) (fr_422 _ (by first | omega | (dsimp only; omega))) (fr_422 _ (by first | omega | (dsimp only; omega))) (fr_422 _ (by first | omega | (dsimp only; omega))) u_415 u_416 (kp_423 3 rfl) (kp_423 6 rfl) (kp_423 44 rfl) (kp_423 45 rfl) (kp_423 47 rfl) u_417; exact EX.chg (b' := 1) z rfl rfl rfl rfl rfl rfl rfl rfl rfl rfl (by omega) z.pl
                      have g_440 : (0 : Int) ≤ (I_419 o 47).toInt ∧ (I_419 o 47).toInt ≤ 7 := hR_421.at0 ra 47 (by decide)
                      replace hg := gt_let (y := (I_419 o 47).toInt) rfl hg
                      have a_441 : ((I_419 o 47) + 1).toInt = (I_419 o 47).toInt + (1 : Int32).toInt := tAdd (by omega) (by omega)
                      replace hg := gt_let (y := (((I_419 o 47) + 1) : Int32).toInt) (by omega) hg
                      refine fun I_442 e_443 => ?_
                      replace hg := gt_let (y := tI I_442) (tI_q e_443) hg
                      have hR_444 : RI R I_442 := hR_421.up0 (k := 47) ra (by decide) (Or.inr hz57) e_443 (show (0 : Int) ≤ ((I_419 o 47) + 1).toInt by omega) (show ((I_419 o 47) + 1).toInt ≤ (7 : Int) by omega)
                      have hf_445 : Fm (fun c => c = o ∨ (o + 30 ≤ c ∧ c < o + 34)) I0 I_442 := hf_424.set (by first | rfl | omega | (dsimp only; omega)) e_443
                      have t_446 : (I_442 o 3).toInt = (I_419 o 3).toInt := by rw [← e_443, q_u_k (by decide)]
                      have t_447 : (I_442 o 4).toInt = (I_419 o 4).toInt := by rw [← e_443, q_u_k (by decide)]
                      have t_448 : (I_442 o 6).toInt = (I_419 o 6).toInt := by rw [← e_443, q_u_k (by decide)]
                      have t_449 : (I_442 o 7).toInt = (I_419 o 7).toInt := by rw [← e_443, q_u_k (by decide)]
                      have t_450 : (I_442 o 8).toInt = (I_419 o 8).toInt := by rw [← e_443, q_u_k (by decide)]
                      have t_451 : (I_442 o 9).toInt = (I_419 o 9).toInt := by rw [← e_443, q_u_k (by decide)]
                      have t_452 : (I_442 o 44).toInt = (I_419 o 44).toInt := by rw [← e_443, q_u_k (by decide)]
                      have t_453 : (I_442 o 45).toInt = (I_419 o 45).toInt := by rw [← e_443, q_u_k (by decide)]
                      have t_454 : (I_442 o 47).toInt = ((I_419 o 47) + 1).toInt := by rw [← e_443, q_u_at]
                      have t_455 : (I_442 o 48).toInt = (I_419 o 48).toInt := by rw [← e_443, q_u_k (by decide)]
                      have t_456 : (I_442 o 46).toInt = (I_419 o 46).toInt := by rw [← e_443, q_u_k (by decide)]
                      have k_457 : MTd I_442 o := k_436.fr (by rw [← e_443]; exact q_u_ne (by omega)) (by rw [← e_443]; exact q_u_ne (by omega)) (by rw [← e_443]; exact q_u_ne (by omega))
                      have k_458 : MPo I_442 o := k_437.fr (by rw [← e_443, q_u_k (by decide)]) (by rw [← e_443, q_u_k (by decide)])
                      have k_459 : MTk I_442 o := k_438.fr (by rw [← e_443, q_u_k (by decide)]) (by rw [← e_443, q_u_k (by decide)]) (by rw [← e_443, q_u_k (by decide)])
                      have tk := k_459.2 (by omega)
                      have k_461 : EX 0 0 1 f0 1 I_442 o := by exact EX.put47 k_439 e_443 (by omega)
                      refine y_Model_nextg hok hw ra hz16 hz17 hz18 hz19 (by first | omega | (intro h; omega) | exact Or.inl rfl | exact Or.inr rfl) hR_444 (fun I_472 L_473 hR_474 fr_475 kp_476 u_463 u_464 u_465 u_466 u_467 u_468 u_469 u_470 gn_471 => ⟨I_472, L_473, rfl, rfl, ?_⟩)
                      replace hg := gt_b3 gn_471 hg
                      clear gn_471
                      have hf_477 : Fm (fun c => c = o ∨ (o + 30 ≤ c ∧ c < o + 34)) I0 I_472 := hf_445.call fr_475 (fun c hc => by first | exact hc | (dsimp only at hc ⊢; omega) | omega)
                      have t_478 : (I_472 o 3).toInt = (I_442 o 3).toInt := by rw [kp_476 3 rfl]
                      have t_479 : (I_472 o 4).toInt = (I_442 o 4).toInt := by rw [kp_476 4 rfl]
                      have g_480 : (0 : Int) ≤ (I_472 o 6).toInt ∧ (I_472 o 6).toInt ≤ 1600 := hR_474.at0 ra 6 (by decide)
                      have g_481 : (0 : Int) ≤ (I_472 o 7).toInt ∧ (I_472 o 7).toInt ≤ 1601 := hR_474.at0 ra 7 (by decide)
                      have g_482 : (0 : Int) ≤ (I_472 o 8).toInt ∧ (I_472 o 8).toInt ≤ 6 := hR_474.at0 ra 8 (by decide)
                      have t_483 : (I_472 o 44).toInt = (I_442 o 44).toInt := by rw [kp_476 44 rfl]
                      have t_484 : (I_472 o 45).toInt = (I_442 o 45).toInt := by rw [kp_476 45 rfl]
                      have t_485 : (I_472 o 47).toInt = (I_442 o 47).toInt := by rw [kp_476 47 rfl]
                      have t_486 : (I_472 o 48).toInt = (I_442 o 48).toInt := by rw [kp_476 48 rfl]
                      have t_487 : (I_472 o 46).toInt = (I_442 o 46).toInt := by rw [kp_476 46 rfl]
                      have k_488 : MTd I_472 o := k_457.fr (fr_475 _ (by first | omega | (dsimp only; omega))) (fr_475 _ (by first | omega | (dsimp only; omega))) (fr_475 _ (by first | omega | (dsimp only; omega)))
                      have ms := u_466 (by omega)
                      have k_489 : EX 0 0 0 f0 1 I_472 o := by exact EX.nx k_461 (fr_475 _ (by first | omega | (dsimp only; omega))) (fr_475 _ (by first | omega | (dsimp only; omega))) (fr_475 _ (by first | omega | (dsimp only; omega))) (fr_475 _ (by first | omega | (dsimp only; omega))) (fr_475 _ (by first | omega | (dsimp only; omega))) (kp_476 3 rfl) (kp_476 44 rfl) (kp_476 45 rfl) (kp_476 47 rfl) (kp_476 48 rfl) (by omega) (by omega)
                      exact (hp _ _ _ hR_474 hf_477 (Or.inr rfl) (by first | omega | (intro h; omega) | exact Or.inl rfl | exact Or.inr rfl) (by first | omega | (intro h; omega) | exact Or.inl rfl | exact Or.inr rfl) (by first | omega | (intro h; omega) | exact Or.inl rfl | exact Or.inr rfl) (by first | omega | (intro h; omega) | exact Or.inl rfl | exact Or.inr rfl) (by first | omega | (intro h; omega) | exact Or.inl rfl | exact Or.inr rfl) (by clear hg; first | (intro h; exfalso; omega) | exact fun _ => k_489 | exact fun _ => (False.elim (by omega))) k_488 u_469 u_470 hg.symm)
                    · have d_490 := iEq c_411
                      have i_491 := u_408 (by omega)
                      replace hg := gt_pos (by first | exact d_490 | omega) hg
                      exact (hp _ _ _ hR_386 hf_389 (Or.inr rfl) (by first | omega | (intro h; omega) | exact Or.inl rfl | exact Or.inr rfl) (by first | omega | (intro h; omega) | exact Or.inl rfl | exact Or.inr rfl) (by first | omega | (intro h; omega) | exact Or.inl rfl | exact Or.inr rfl) (by first | omega | (intro h; omega) | exact Or.inl rfl | exact Or.inr rfl) (by first | omega | (intro h; omega) | exact Or.inl rfl | exact Or.inr rfl) (by clear hg; first | (intro h; exfalso; omega) | exact fun _ => k_401 | exact fun _ => (False.elim (by omega))) k_402 k_403 k_404 hg.symm)
              · have d_492 := iEq c_77
                have i_493 := u_74 (by omega)
                replace hg := gt_pos (by first | exact d_492 | omega) hg
                exact (hp _ _ _ hR_36 hf_39 (Or.inr rfl) (by first | omega | (intro h; omega) | exact Or.inl rfl | exact Or.inr rfl) (by first | omega | (intro h; omega) | exact Or.inl rfl | exact Or.inr rfl) (by first | omega | (intro h; omega) | exact Or.inl rfl | exact Or.inr rfl) (by first | omega | (intro h; omega) | exact Or.inl rfl | exact Or.inr rfl) (by first | omega | (intro h; omega) | exact Or.inl rfl | exact Or.inr rfl) (by clear hg; first | (intro h; exfalso; omega) | exact fun _ => k_50 | exact fun _ => (False.elim (by omega))) k_51 k_52 k_53 hg.symm)
            · have d_494 := iEq c_69
              replace hg := gt_pos (by first | exact d_494 | omega) hg
              unfold fModel_unit_140
              replace hg := (eModel_unit_140).symm.trans hg
              refine y_Model_wrongg hok hw ra hz14 hz15 hR_36 (fun I_499 L_500 hR_501 fr_502 kp_503 u_496 u_497 gn_498 => ⟨I_499, L_500, rfl, rfl, ?_⟩)
              replace hg := gt_b3 gn_498 hg
              clear gn_498
              have hf_504 : Fm (fun c => c = o ∨ (o + 30 ≤ c ∧ c < o + 34)) I0 I_499 := hf_39.call fr_502 (fun c hc => by first | exact hc | (dsimp only at hc ⊢; omega) | omega)
              have t_505 : (I_499 o 3).toInt = (I_34 o 3).toInt := by rw [kp_503 3 rfl]
              have g_506 : (0 : Int) ≤ (I_499 o 4).toInt ∧ (I_499 o 4).toInt ≤ 5 := hR_501.at0 ra 4 (by decide)
              have t_507 : (I_499 o 6).toInt = (I_34 o 6).toInt := by rw [kp_503 6 rfl]
              have t_508 : (I_499 o 7).toInt = (I_34 o 7).toInt := by rw [kp_503 7 rfl]
              have t_509 : (I_499 o 8).toInt = (I_34 o 8).toInt := by rw [kp_503 8 rfl]
              have t_510 : (I_499 o 9).toInt = (I_34 o 9).toInt := by rw [kp_503 9 rfl]
              have t_511 : (I_499 o 44).toInt = (I_34 o 44).toInt := by rw [kp_503 44 rfl]
              have t_512 : (I_499 o 45).toInt = (I_34 o 45).toInt := by rw [kp_503 45 rfl]
              have t_513 : (I_499 o 47).toInt = (I_34 o 47).toInt := by rw [kp_503 47 rfl]
              have t_514 : (I_499 o 48).toInt = (I_34 o 48).toInt := by rw [kp_503 48 rfl]
              have t_515 : (I_499 o 46).toInt = (I_34 o 46).toInt := by rw [kp_503 46 rfl]
              have k_516 : EX 0 0 0 f0 1 I_499 o := k_50.fr (fr_502 _ (by first | omega | (dsimp only; omega))) (fr_502 _ (by first | omega | (dsimp only; omega))) (fr_502 _ (by first | omega | (dsimp only; omega))) (fr_502 _ (by first | omega | (dsimp only; omega))) (fr_502 _ (by first | omega | (dsimp only; omega))) (kp_503 3 rfl) (kp_503 6 rfl) (kp_503 44 rfl) (kp_503 45 rfl) (kp_503 47 rfl) (kp_503 48 rfl)
              have k_517 : MTd I_499 o := k_51.fr (fr_502 _ (by first | omega | (dsimp only; omega))) (fr_502 _ (by first | omega | (dsimp only; omega))) (fr_502 _ (by first | omega | (dsimp only; omega)))
              have k_518 : MPo I_499 o := k_52.fr (kp_503 8 rfl) (kp_503 9 rfl)
              have k_519 : MTk I_499 o := k_53.fr (kp_503 6 rfl) (kp_503 7 rfl) (kp_503 8 rfl)
              refine y_Model_isGoodg hok hw ra hR_501 (fun r_520 u_521 u_522 u_523 gn_524 => ⟨r_520, I_499, L_500, rfl, rfl, ?_⟩)
              replace hg := gt_let gn_524 hg
              clear gn_524
              have b_525 : 0 ≤ r_520.toInt ∧ r_520.toInt ≤ 1 := u_521.rg
              refine ⟨fun c_526 => ?_, fun c_526 => ?_⟩
              · have d_527 := iNe c_526
                have i_528 := u_522 (by omega)
                replace hg := gt_neg (by first | exact d_527 | omega) hg
                have g_529 : (0 : Int) ≤ (I_499 o 46).toInt ∧ (I_499 o 46).toInt ≤ 100 := hR_501.at0 ra 46 (by decide)
                replace hg := gt_let (y := (I_499 o 46).toInt) rfl hg
                have a_530 : ((I_499 o 46) + 1).toInt = (I_499 o 46).toInt + (1 : Int32).toInt := tAdd (by omega) (by omega)
                replace hg := gt_let (y := (((I_499 o 46) + 1) : Int32).toInt) (by omega) hg
                refine fun I_531 e_532 => ?_
                replace hg := gt_let (y := tI I_531) (tI_q e_532) hg
                have hR_533 : RI R I_531 := hR_501.up0 (k := 46) ra (by decide) (Or.inr hz56) e_532 (show (0 : Int) ≤ ((I_499 o 46) + 1).toInt by omega) (show ((I_499 o 46) + 1).toInt ≤ (100 : Int) by omega)
                have hf_534 : Fm (fun c => c = o ∨ (o + 30 ≤ c ∧ c < o + 34)) I0 I_531 := hf_504.set (by first | rfl | omega | (dsimp only; omega)) e_532
                have t_535 : (I_531 o 3).toInt = (I_499 o 3).toInt := by rw [← e_532, q_u_k (by decide)]
                have t_536 : (I_531 o 4).toInt = (I_499 o 4).toInt := by rw [← e_532, q_u_k (by decide)]
                have t_537 : (I_531 o 6).toInt = (I_499 o 6).toInt := by rw [← e_532, q_u_k (by decide)]
                have t_538 : (I_531 o 7).toInt = (I_499 o 7).toInt := by rw [← e_532, q_u_k (by decide)]
                have t_539 : (I_531 o 8).toInt = (I_499 o 8).toInt := by rw [← e_532, q_u_k (by decide)]
                have t_540 : (I_531 o 9).toInt = (I_499 o 9).toInt := by rw [← e_532, q_u_k (by decide)]
                have t_541 : (I_531 o 44).toInt = (I_499 o 44).toInt := by rw [← e_532, q_u_k (by decide)]
                have t_542 : (I_531 o 45).toInt = (I_499 o 45).toInt := by rw [← e_532, q_u_k (by decide)]
                have t_543 : (I_531 o 47).toInt = (I_499 o 47).toInt := by rw [← e_532, q_u_k (by decide)]
                have t_544 : (I_531 o 48).toInt = (I_499 o 48).toInt := by rw [← e_532, q_u_k (by decide)]
                have t_545 : (I_531 o 46).toInt = ((I_499 o 46) + 1).toInt := by rw [← e_532, q_u_at]
                have k_546 : EX 0 0 0 f0 1 I_531 o := k_516.fr (by rw [← e_532]; exact q_u_ne (by omega)) (by rw [← e_532]; exact q_u_ne (by omega)) (by rw [← e_532]; exact q_u_ne (by omega)) (by rw [← e_532]; exact q_u_ne (by omega)) (by rw [← e_532]; exact q_u_ne (by omega)) (by rw [← e_532, q_u_k (by decide)]) (by rw [← e_532, q_u_k (by decide)]) (by rw [← e_532, q_u_k (by decide)]) (by rw [← e_532, q_u_k (by decide)]) (by rw [← e_532, q_u_k (by decide)]) (by rw [← e_532, q_u_k (by decide)])
                have k_547 : MTd I_531 o := k_517.fr (by rw [← e_532]; exact q_u_ne (by omega)) (by rw [← e_532]; exact q_u_ne (by omega)) (by rw [← e_532]; exact q_u_ne (by omega))
                have k_548 : MPo I_531 o := k_518.fr (by rw [← e_532, q_u_k (by decide)]) (by rw [← e_532, q_u_k (by decide)])
                have k_549 : MTk I_531 o := k_519.fr (by rw [← e_532, q_u_k (by decide)]) (by rw [← e_532, q_u_k (by decide)]) (by rw [← e_532, q_u_k (by decide)])
                have l_550 : (40 : Int32).toInt = 40 := rfl
                refine y_Model_isg hok hw ra hR_533 (fun r_551 u_552 u_553 u_554 gn_555 => ⟨r_551, I_531, L_500, rfl, rfl, ?_⟩)
                replace hg := gt_let gn_555 hg
                clear gn_555
                have b_556 : 0 ≤ r_551.toInt ∧ r_551.toInt ≤ 1 := u_552.rg
                refine ⟨fun c_557 => ?_, fun c_557 => ?_⟩
                · have d_558 := iEq c_557
                  replace hg := gt_pos (by first | exact d_558 | omega) hg
                  have cd := k_546.cod
                  have tk := k_549.2 (by omega)
                  refine ⟨fun c_559 => ?_, fun c_559 => ?_⟩
                  · have d_560 := iNe c_559
                    have i_561 := u_30 (by omega)
                    have i_562 := u_31 (by omega)
                    replace hg := gt_neg (by first | exact d_560 | omega) hg
                    unfold fModel_unit_228
                    replace hg := (eModel_unit_228).symm.trans hg
                    refine ⟨fun c_563 => ?_, fun c_563 => ?_⟩
                    · have d_564 := iNe c_563
                      have i_565 := u_30 (by omega)
                      have i_566 := u_31 (by omega)
                      replace hg := gt_neg (by first | exact d_564 | omega) hg
                      refine y_Model_stepg hok hw ra hz55 (by first | omega | (intro h; omega) | exact Or.inl rfl | exact Or.inr rfl) (by first | omega | (intro h; omega) | exact Or.inl rfl | exact Or.inr rfl) hR_533 (fun I_571 L_572 hR_573 fr_574 kp_575 u_568 u_569 gn_570 => ⟨I_571, L_572, rfl, rfl, ?_⟩)
                      replace hg := gt_b3 gn_570 hg
                      clear gn_570
                      have hf_576 : Fm (fun c => c = o ∨ (o + 30 ≤ c ∧ c < o + 34)) I0 I_571 := hf_534.call fr_574 (fun c hc => by first | exact hc | (dsimp only at hc ⊢; omega) | omega)
                      have t_577 : (I_571 o 3).toInt = (I_531 o 3).toInt := by rw [kp_575 3 rfl]
                      have t_578 : (I_571 o 4).toInt = (I_531 o 4).toInt := by rw [kp_575 4 rfl]
                      have t_579 : (I_571 o 6).toInt = (I_531 o 6).toInt := by rw [kp_575 6 rfl]
                      have t_580 : (I_571 o 7).toInt = (I_531 o 7).toInt := by rw [kp_575 7 rfl]
                      have t_581 : (I_571 o 8).toInt = (I_531 o 8).toInt := by rw [kp_575 8 rfl]
                      have t_582 : (I_571 o 9).toInt = (I_531 o 9).toInt := by rw [kp_575 9 rfl]
                      have t_583 : (I_571 o 44).toInt = (I_531 o 44).toInt := by rw [kp_575 44 rfl]
                      have g_584 : (0 : Int) ≤ (I_571 o 45).toInt ∧ (I_571 o 45).toInt ≤ 700 := hR_573.at0 ra 45 (by decide)
                      have t_585 : (I_571 o 47).toInt = (I_531 o 47).toInt := by rw [kp_575 47 rfl]
                      have t_586 : (I_571 o 48).toInt = (I_531 o 48).toInt := by rw [kp_575 48 rfl]
                      have t_587 : (I_571 o 46).toInt = (I_531 o 46).toInt := by rw [kp_575 46 rfl]
                      have k_588 : MPo I_571 o := k_548.fr (kp_575 8 rfl) (kp_575 9 rfl)
                      have k_589 : MTk I_571 o := k_549.fr (kp_575 6 rfl) (kp_575 7 rfl) (kp_575 8 rfl)
                      have tk := k_589.2 (by omega)
                      have k_590 : EX 0 0 1 f0 0 I_571 o := by exact EX.step1 k_546 (by first | exact u_30 (by omega) | (unfold isT; decide)) (by omega) (fr_574 _ (by first | omega | (dsimp only; omega))) (fr_574 _ (by first | omega | (dsimp only; omega))) u_568 (fr_574 _ (by first | omega | (dsimp only; omega))) (fr_574 _ (by first | omega | (dsimp only; omega))) (kp_575 3 rfl) (kp_575 6 rfl) (kp_575 44 rfl) u_569 (kp_575 47 rfl) (kp_575 48 rfl)
                      have k_591 : MTd I_571 o := by exact MTd.step k_547 (fr_574 _ (by first | omega | (dsimp only; omega))) (fr_574 _ (by first | omega | (dsimp only; omega))) u_568 (by omega)
                      refine y_Model_nextg hok hw ra hz16 hz17 hz18 hz19 (by first | omega | (intro h; omega) | exact Or.inl rfl | exact Or.inr rfl) hR_573 (fun I_602 L_603 hR_604 fr_605 kp_606 u_593 u_594 u_595 u_596 u_597 u_598 u_599 u_600 gn_601 => ⟨I_602, L_603, rfl, rfl, ?_⟩)
                      replace hg := gt_b3 gn_601 hg
                      clear gn_601
                      have hf_607 : Fm (fun c => c = o ∨ (o + 30 ≤ c ∧ c < o + 34)) I0 I_602 := hf_576.call fr_605 (fun c hc => by first | exact hc | (dsimp only at hc ⊢; omega) | omega)
                      have t_608 : (I_602 o 3).toInt = (I_571 o 3).toInt := by rw [kp_606 3 rfl]
                      have t_609 : (I_602 o 4).toInt = (I_571 o 4).toInt := by rw [kp_606 4 rfl]
                      have g_610 : (0 : Int) ≤ (I_602 o 6).toInt ∧ (I_602 o 6).toInt ≤ 1600 := hR_604.at0 ra 6 (by decide)
                      have g_611 : (0 : Int) ≤ (I_602 o 7).toInt ∧ (I_602 o 7).toInt ≤ 1601 := hR_604.at0 ra 7 (by decide)
                      have g_612 : (0 : Int) ≤ (I_602 o 8).toInt ∧ (I_602 o 8).toInt ≤ 6 := hR_604.at0 ra 8 (by decide)
                      have t_613 : (I_602 o 44).toInt = (I_571 o 44).toInt := by rw [kp_606 44 rfl]
                      have t_614 : (I_602 o 45).toInt = (I_571 o 45).toInt := by rw [kp_606 45 rfl]
                      have t_615 : (I_602 o 47).toInt = (I_571 o 47).toInt := by rw [kp_606 47 rfl]
                      have t_616 : (I_602 o 48).toInt = (I_571 o 48).toInt := by rw [kp_606 48 rfl]
                      have t_617 : (I_602 o 46).toInt = (I_571 o 46).toInt := by rw [kp_606 46 rfl]
                      have k_618 : MTd I_602 o := k_591.fr (fr_605 _ (by first | omega | (dsimp only; omega))) (fr_605 _ (by first | omega | (dsimp only; omega))) (fr_605 _ (by first | omega | (dsimp only; omega)))
                      have ms := u_596 (by omega)
                      have k_619 : EX 0 0 0 f0 0 I_602 o := by exact EX.nx k_590 (fr_605 _ (by first | omega | (dsimp only; omega))) (fr_605 _ (by first | omega | (dsimp only; omega))) (fr_605 _ (by first | omega | (dsimp only; omega))) (fr_605 _ (by first | omega | (dsimp only; omega))) (fr_605 _ (by first | omega | (dsimp only; omega))) (kp_606 3 rfl) (kp_606 44 rfl) (kp_606 45 rfl) (kp_606 47 rfl) (kp_606 48 rfl) (by omega) (by omega)
                      exact (hp _ _ _ hR_604 hf_607 (Or.inl rfl) (by first | omega | (intro h; omega) | exact Or.inl rfl | exact Or.inr rfl) (by first | omega | (intro h; omega) | exact Or.inl rfl | exact Or.inr rfl) (by first | omega | (intro h; omega) | exact Or.inl rfl | exact Or.inr rfl) (by first | omega | (intro h; omega) | exact Or.inl rfl | exact Or.inr rfl) (by first | omega | (intro h; omega) | exact Or.inl rfl | exact Or.inr rfl) (by clear hg; first | (intro h; exfalso; omega) | exact fun _ => (False.elim (by omega)) | exact fun _ => k_619) k_618 u_599 u_600 hg.symm)
                    · have d_620 := iEq c_563
                      replace hg := gt_pos (by first | exact d_620 | omega) hg
                      replace hg := gt_let (y := (I_531 o 9).toInt) rfl hg
                      refine y_Model_stepg hok hw ra hz55 (by first | omega | (intro h; omega) | exact Or.inl rfl | exact Or.inr rfl) (by first | omega | (intro h; omega) | exact Or.inl rfl | exact Or.inr rfl) hR_533 (fun I_625 L_626 hR_627 fr_628 kp_629 u_622 u_623 gn_624 => ⟨I_625, L_626, rfl, rfl, ?_⟩)
                      replace hg := gt_b3 gn_624 hg
                      clear gn_624
                      have hf_630 : Fm (fun c => c = o ∨ (o + 30 ≤ c ∧ c < o + 34)) I0 I_625 := hf_534.call fr_628 (fun c hc => by first | exact hc | (dsimp only at hc ⊢; omega) | omega)
                      have t_631 : (I_625 o 3).toInt = (I_531 o 3).toInt := by rw [kp_629 3 rfl]
                      have t_632 : (I_625 o 4).toInt = (I_531 o 4).toInt := by rw [kp_629 4 rfl]
                      have t_633 : (I_625 o 6).toInt = (I_531 o 6).toInt := by rw [kp_629 6 rfl]
                      have t_634 : (I_625 o 7).toInt = (I_531 o 7).toInt := by rw [kp_629 7 rfl]
                      have t_635 : (I_625 o 8).toInt = (I_531 o 8).toInt := by rw [kp_629 8 rfl]
                      have t_636 : (I_625 o 9).toInt = (I_531 o 9).toInt := by rw [kp_629 9 rfl]
                      have t_637 : (I_625 o 44).toInt = (I_531 o 44).toInt := by rw [kp_629 44 rfl]
                      have g_638 : (0 : Int) ≤ (I_625 o 45).toInt ∧ (I_625 o 45).toInt ≤ 700 := hR_627.at0 ra 45 (by decide)
                      have t_639 : (I_625 o 47).toInt = (I_531 o 47).toInt := by rw [kp_629 47 rfl]
                      have t_640 : (I_625 o 48).toInt = (I_531 o 48).toInt := by rw [kp_629 48 rfl]
                      have t_641 : (I_625 o 46).toInt = (I_531 o 46).toInt := by rw [kp_629 46 rfl]
                      have k_642 : MPo I_625 o := k_548.fr (kp_629 8 rfl) (kp_629 9 rfl)
                      have k_643 : MTk I_625 o := k_549.fr (kp_629 6 rfl) (kp_629 7 rfl) (kp_629 8 rfl)
                      have tk := k_643.2 (by omega)
                      have k_644 : EX 0 0 1 f0 0 I_625 o := by exact EX.step1 k_546 (by first | exact u_30 (by omega) | (unfold isT; decide)) (by omega) (fr_628 _ (by first | omega | (dsimp only; omega))) (fr_628 _ (by first | omega | (dsimp only; omega))) u_622 (fr_628 _ (by first | omega | (dsimp only; omega))) (fr_628 _ (by first | omega | (dsimp only; omega))) (kp_629 3 rfl) (kp_629 6 rfl) (kp_629 44 rfl) u_623 (kp_629 47 rfl) (kp_629 48 rfl)
                      have k_645 : MTd I_625 o := by exact MTd.step k_547 (fr_628 _ (by first | omega | (dsimp only; omega))) (fr_628 _ (by first | omega | (dsimp only; omega))) u_622 (by omega)
                      refine y_Model_nextg hok hw ra hz16 hz17 hz18 hz19 (by first | omega | (intro h; omega) | exact Or.inl rfl | exact Or.inr rfl) hR_627 (fun I_656 L_657 hR_658 fr_659 kp_660 u_647 u_648 u_649 u_650 u_651 u_652 u_653 u_654 gn_655 => ⟨I_656, L_657, rfl, rfl, ?_⟩)
                      replace hg := gt_b3 gn_655 hg
                      clear gn_655
                      have hf_661 : Fm (fun c => c = o ∨ (o + 30 ≤ c ∧ c < o + 34)) I0 I_656 := hf_630.call fr_659 (fun c hc => by first | exact hc | (dsimp only at hc ⊢; omega) | omega)
                      have t_662 : (I_656 o 3).toInt = (I_625 o 3).toInt := by rw [kp_660 3 rfl]
                      have t_663 : (I_656 o 4).toInt = (I_625 o 4).toInt := by rw [kp_660 4 rfl]
                      have g_664 : (0 : Int) ≤ (I_656 o 6).toInt ∧ (I_656 o 6).toInt ≤ 1600 := hR_658.at0 ra 6 (by decide)
                      have g_665 : (0 : Int) ≤ (I_656 o 7).toInt ∧ (I_656 o 7).toInt ≤ 1601 := hR_658.at0 ra 7 (by decide)
                      have g_666 : (0 : Int) ≤ (I_656 o 8).toInt ∧ (I_656 o 8).toInt ≤ 6 := hR_658.at0 ra 8 (by decide)
                      have t_667 : (I_656 o 44).toInt = (I_625 o 44).toInt := by rw [kp_660 44 rfl]
                      have t_668 : (I_656 o 45).toInt = (I_625 o 45).toInt := by rw [kp_660 45 rfl]
                      have t_669 : (I_656 o 47).toInt = (I_625 o 47).toInt := by rw [kp_660 47 rfl]
                      have t_670 : (I_656 o 48).toInt = (I_625 o 48).toInt := by rw [kp_660 48 rfl]
                      have t_671 : (I_656 o 46).toInt = (I_625 o 46).toInt := by rw [kp_660 46 rfl]
                      have k_672 : MTd I_656 o := k_645.fr (fr_659 _ (by first | omega | (dsimp only; omega))) (fr_659 _ (by first | omega | (dsimp only; omega))) (fr_659 _ (by first | omega | (dsimp only; omega)))
                      have ms := u_650 (by omega)
                      have k_673 : EX 0 0 0 f0 0 I_656 o := by exact EX.nx k_644 (fr_659 _ (by first | omega | (dsimp only; omega))) (fr_659 _ (by first | omega | (dsimp only; omega))) (fr_659 _ (by first | omega | (dsimp only; omega))) (fr_659 _ (by first | omega | (dsimp only; omega))) (fr_659 _ (by first | omega | (dsimp only; omega))) (kp_660 3 rfl) (kp_660 44 rfl) (kp_660 45 rfl) (kp_660 47 rfl) (kp_660 48 rfl) (by omega) (by omega)
                      exact (hp _ _ _ hR_658 hf_661 (Or.inl rfl) (by first | omega | (intro h; omega) | exact Or.inl rfl | exact Or.inr rfl) (by first | omega | (intro h; omega) | exact Or.inl rfl | exact Or.inr rfl) (by first | omega | (intro h; omega) | exact Or.inl rfl | exact Or.inr rfl) (by first | omega | (intro h; omega) | exact Or.inl rfl | exact Or.inr rfl) (by first | omega | (intro h; omega) | exact Or.inl rfl | exact Or.inr rfl) (by clear hg; first | (intro h; exfalso; omega) | exact fun _ => (False.elim (by omega)) | exact fun _ => k_673) k_672 u_653 u_654 hg.symm)
                  · have d_674 := iEq c_559
                    replace hg := gt_pos (by first | exact d_674 | omega) hg
                    unfold fModel_unit_228
                    replace hg := (eModel_unit_228).symm.trans hg
                    have l_675 : (78 : Int32).toInt = 78 := rfl
                    refine ⟨fun c_676 => ?_, fun c_676 => ?_⟩
                    · have d_677 := iNe c_676
                      have i_678 := u_30 (by omega)
                      have i_679 := u_31 (by omega)
                      exfalso; omega
                    · have d_680 := iEq c_676
                      replace hg := gt_pos (by first | exact d_680 | omega) hg
                      replace hg := gt_let (y := (I_531 o 9).toInt) rfl hg
                      refine y_Model_stepg hok hw ra hz55 (by first | omega | (intro h; omega) | exact Or.inl rfl | exact Or.inr rfl) (by first | omega | (intro h; omega) | exact Or.inl rfl | exact Or.inr rfl) hR_533 (fun I_685 L_686 hR_687 fr_688 kp_689 u_682 u_683 gn_684 => ⟨I_685, L_686, rfl, rfl, ?_⟩)
                      replace hg := gt_b3 gn_684 hg
                      clear gn_684
                      have hf_690 : Fm (fun c => c = o ∨ (o + 30 ≤ c ∧ c < o + 34)) I0 I_685 := hf_534.call fr_688 (fun c hc => by first | exact hc | (dsimp only at hc ⊢; omega) | omega)
                      have t_691 : (I_685 o 3).toInt = (I_531 o 3).toInt := by rw [kp_689 3 rfl]
                      have t_692 : (I_685 o 4).toInt = (I_531 o 4).toInt := by rw [kp_689 4 rfl]
                      have t_693 : (I_685 o 6).toInt = (I_531 o 6).toInt := by rw [kp_689 6 rfl]
                      have t_694 : (I_685 o 7).toInt = (I_531 o 7).toInt := by rw [kp_689 7 rfl]
                      have t_695 : (I_685 o 8).toInt = (I_531 o 8).toInt := by rw [kp_689 8 rfl]
                      have t_696 : (I_685 o 9).toInt = (I_531 o 9).toInt := by rw [kp_689 9 rfl]
                      have t_697 : (I_685 o 44).toInt = (I_531 o 44).toInt := by rw [kp_689 44 rfl]
                      have g_698 : (0 : Int) ≤ (I_685 o 45).toInt ∧ (I_685 o 45).toInt ≤ 700 := hR_687.at0 ra 45 (by decide)
                      have t_699 : (I_685 o 47).toInt = (I_531 o 47).toInt := by rw [kp_689 47 rfl]
                      have t_700 : (I_685 o 48).toInt = (I_531 o 48).toInt := by rw [kp_689 48 rfl]
                      have t_701 : (I_685 o 46).toInt = (I_531 o 46).toInt := by rw [kp_689 46 rfl]
                      have k_702 : MPo I_685 o := k_548.fr (kp_689 8 rfl) (kp_689 9 rfl)
                      have k_703 : MTk I_685 o := k_549.fr (kp_689 6 rfl) (kp_689 7 rfl) (kp_689 8 rfl)
                      have tk := k_703.2 (by omega)
                      have k_704 : EX 0 0 1 f0 0 I_685 o := by exact EX.step1 k_546 (by first | exact u_30 (by omega) | (unfold isT; decide)) (by omega) (fr_688 _ (by first | omega | (dsimp only; omega))) (fr_688 _ (by first | omega | (dsimp only; omega))) u_682 (fr_688 _ (by first | omega | (dsimp only; omega))) (fr_688 _ (by first | omega | (dsimp only; omega))) (kp_689 3 rfl) (kp_689 6 rfl) (kp_689 44 rfl) u_683 (kp_689 47 rfl) (kp_689 48 rfl)
                      have k_705 : MTd I_685 o := by exact MTd.step k_547 (fr_688 _ (by first | omega | (dsimp only; omega))) (fr_688 _ (by first | omega | (dsimp only; omega))) u_682 (by omega)
                      refine y_Model_nextg hok hw ra hz16 hz17 hz18 hz19 (by first | omega | (intro h; omega) | exact Or.inl rfl | exact Or.inr rfl) hR_687 (fun I_716 L_717 hR_718 fr_719 kp_720 u_707 u_708 u_709 u_710 u_711 u_712 u_713 u_714 gn_715 => ⟨I_716, L_717, rfl, rfl, ?_⟩)
                      replace hg := gt_b3 gn_715 hg
                      clear gn_715
                      have hf_721 : Fm (fun c => c = o ∨ (o + 30 ≤ c ∧ c < o + 34)) I0 I_716 := hf_690.call fr_719 (fun c hc => by first | exact hc | (dsimp only at hc ⊢; omega) | omega)
                      have t_722 : (I_716 o 3).toInt = (I_685 o 3).toInt := by rw [kp_720 3 rfl]
                      have t_723 : (I_716 o 4).toInt = (I_685 o 4).toInt := by rw [kp_720 4 rfl]
                      have g_724 : (0 : Int) ≤ (I_716 o 6).toInt ∧ (I_716 o 6).toInt ≤ 1600 := hR_718.at0 ra 6 (by decide)
                      have g_725 : (0 : Int) ≤ (I_716 o 7).toInt ∧ (I_716 o 7).toInt ≤ 1601 := hR_718.at0 ra 7 (by decide)
                      have g_726 : (0 : Int) ≤ (I_716 o 8).toInt ∧ (I_716 o 8).toInt ≤ 6 := hR_718.at0 ra 8 (by decide)
                      have t_727 : (I_716 o 44).toInt = (I_685 o 44).toInt := by rw [kp_720 44 rfl]
                      have t_728 : (I_716 o 45).toInt = (I_685 o 45).toInt := by rw [kp_720 45 rfl]
                      have t_729 : (I_716 o 47).toInt = (I_685 o 47).toInt := by rw [kp_720 47 rfl]
                      have t_730 : (I_716 o 48).toInt = (I_685 o 48).toInt := by rw [kp_720 48 rfl]
                      have t_731 : (I_716 o 46).toInt = (I_685 o 46).toInt := by rw [kp_720 46 rfl]
                      have k_732 : MTd I_716 o := k_705.fr (fr_719 _ (by first | omega | (dsimp only; omega))) (fr_719 _ (by first | omega | (dsimp only; omega))) (fr_719 _ (by first | omega | (dsimp only; omega)))
                      have ms := u_710 (by omega)
                      have k_733 : EX 0 0 0 f0 0 I_716 o := by exact EX.nx k_704 (fr_719 _ (by first | omega | (dsimp only; omega))) (fr_719 _ (by first | omega | (dsimp only; omega))) (fr_719 _ (by first | omega | (dsimp only; omega))) (fr_719 _ (by first | omega | (dsimp only; omega))) (fr_719 _ (by first | omega | (dsimp only; omega))) (kp_720 3 rfl) (kp_720 44 rfl) (kp_720 45 rfl) (kp_720 47 rfl) (kp_720 48 rfl) (by omega) (by omega)
                      exact (hp _ _ _ hR_718 hf_721 (Or.inl rfl) (by first | omega | (intro h; omega) | exact Or.inl rfl | exact Or.inr rfl) (by first | omega | (intro h; omega) | exact Or.inl rfl | exact Or.inr rfl) (by first | omega | (intro h; omega) | exact Or.inl rfl | exact Or.inr rfl) (by first | omega | (intro h; omega) | exact Or.inl rfl | exact Or.inr rfl) (by first | omega | (intro h; omega) | exact Or.inl rfl | exact Or.inr rfl) (by clear hg; first | (intro h; exfalso; omega) | exact fun _ => (False.elim (by omega)) | exact fun _ => k_733) k_732 u_713 u_714 hg.symm)
                · have d_734 := iNe c_557
                  have i_735 := u_553 (by omega)
                  have i_736 := u_554 (by omega)
                  replace hg := gt_neg (by first | exact d_734 | omega) hg
                  have g_737 : (0 : Int) ≤ (I_531 o 47).toInt ∧ (I_531 o 47).toInt ≤ 7 := hR_533.at0 ra 47 (by decide)
                  replace hg := gt_let (y := (I_531 o 47).toInt) rfl hg
                  have l_738 : (7 : Int32).toInt = 7 := rfl
                  refine ⟨fun c_739 => ?_, fun c_739 => ?_⟩
                  · have d_740 := iNe c_739
                    replace hg := gt_neg (by first | exact d_740 | omega) hg
                    refine y_Model_isGoodg hok hw ra hR_533 (fun r_741 u_742 u_743 u_744 gn_745 => ⟨r_741, I_531, L_500, rfl, rfl, ?_⟩)
                    replace hg := gt_let gn_745 hg
                    clear gn_745
                    have b_746 : 0 ≤ r_741.toInt ∧ r_741.toInt ≤ 1 := u_742.rg
                    refine ⟨fun c_747 => ?_, fun c_747 => ?_⟩
                    · have d_748 := iNe c_747
                      have i_749 := u_743 (by omega)
                      replace hg := gt_neg (by first | exact d_748 | omega) hg
                      refine y_Model_pileg hok hw ra hz58 (by first | omega | (intro h; omega) | exact Or.inl rfl | exact Or.inr rfl) (by first | omega | (intro h; omega) | exact Or.inl rfl | exact Or.inr rfl) hR_533 (fun I_755 L_756 hR_757 fr_758 kp_759 u_751 u_752 u_753 gn_754 => ⟨I_755, L_756, rfl, rfl, ?_⟩)
                      replace hg := gt_b3 gn_754 hg
                      clear gn_754
                      have hf_760 : Fm (fun c => c = o ∨ (o + 30 ≤ c ∧ c < o + 34)) I0 I_755 := hf_534.call fr_758 (fun c hc => by first | exact hc | (dsimp only at hc ⊢; omega) | omega)
                      have t_761 : (I_755 o 3).toInt = (I_531 o 3).toInt := by rw [kp_759 3 rfl]
                      have t_762 : (I_755 o 4).toInt = (I_531 o 4).toInt := by rw [kp_759 4 rfl]
                      have t_763 : (I_755 o 6).toInt = (I_531 o 6).toInt := by rw [kp_759 6 rfl]
                      have t_764 : (I_755 o 7).toInt = (I_531 o 7).toInt := by rw [kp_759 7 rfl]
                      have t_765 : (I_755 o 8).toInt = (I_531 o 8).toInt := by rw [kp_759 8 rfl]
                      have t_766 : (I_755 o 9).toInt = (I_531 o 9).toInt := by rw [kp_759 9 rfl]
                      have t_767 : (I_755 o 44).toInt = (I_531 o 44).toInt := by rw [kp_759 44 rfl]
                      have t_768 : (I_755 o 45).toInt = (I_531 o 45).toInt := by rw [kp_759 45 rfl]
                      have t_769 : (I_755 o 47).toInt = (I_531 o 47).toInt := by rw [kp_759 47 rfl]
                      have g_770 : (0 : Int) ≤ (I_755 o 48).toInt ∧ (I_755 o 48).toInt ≤ 80 := hR_757.at0 ra 48 (by decide)
                      have t_771 : (I_755 o 46).toInt = (I_531 o 46).toInt := by rw [kp_759 46 rfl]
                      have k_772 : MTd I_755 o := k_547.fr (fr_758 _ (by first | omega | (dsimp only; omega))) (fr_758 _ (by first | omega | (dsimp only; omega))) (fr_758 _ (by first | omega | (dsimp only; omega)))
                      have k_773 : MPo I_755 o := k_548.fr (kp_759 8 rfl) (kp_759 9 rfl)
                      have k_774 : MTk I_755 o := k_549.fr (kp_759 6 rfl) (kp_759 7 rfl) (kp_759 8 rfl)
                      have k_775 : EX 0 1 1 f0 1 I_755 o := by have z := EX.push k_546 (v := 7) (s := 0) (dB := 1) (dO := 0) (wt' := 1) (by decide) (by decide) (by decide) (by omega) ⟨by decide, by decide⟩ ⟨fun h => absurd h (by decide), fun h => absurd h (by decide)⟩ (Or.inl rfl) (fr_758 _ (by first | omega | (dsimp only; omega))) (fr_758 _ (by first | omega | (dsimp only; omega))) (fr_758 _ (by first | omega | (dsimp only; omega))) u_751 u_752 (kp_759 3 rfl) (kp_759 6 rfl) (kp_759 44 rfl) (kp_759 45 rfl) (kp_759 47 rfl) u_753; exact EX.chg (b' := 1) z rfl rfl rfl rfl rfl rfl rfl rfl rfl rfl (by omega) z.pl
                      have g_776 : (0 : Int) ≤ (I_755 o 47).toInt ∧ (I_755 o 47).toInt ≤ 7 := hR_757.at0 ra 47 (by decide)
                      replace hg := gt_let (y := (I_755 o 47).toInt) rfl hg
                      have a_777 : ((I_755 o 47) + 1).toInt = (I_755 o 47).toInt + (1 : Int32).toInt := tAdd (by omega) (by omega)
                      replace hg := gt_let (y := (((I_755 o 47) + 1) : Int32).toInt) (by omega) hg
                      refine fun I_778 e_779 => ?_
                      replace hg := gt_let (y := tI I_778) (tI_q e_779) hg
                      have hR_780 : RI R I_778 := hR_757.up0 (k := 47) ra (by decide) (Or.inr hz57) e_779 (show (0 : Int) ≤ ((I_755 o 47) + 1).toInt by omega) (show ((I_755 o 47) + 1).toInt ≤ (7 : Int) by omega)
                      have hf_781 : Fm (fun c => c = o ∨ (o + 30 ≤ c ∧ c < o + 34)) I0 I_778 := hf_760.set (by first | rfl | omega | (dsimp only; omega)) e_779
                      have t_782 : (I_778 o 3).toInt = (I_755 o 3).toInt := by rw [← e_779, q_u_k (by decide)]
                      have t_783 : (I_778 o 4).toInt = (I_755 o 4).toInt := by rw [← e_779, q_u_k (by decide)]
                      have t_784 : (I_778 o 6).toInt = (I_755 o 6).toInt := by rw [← e_779, q_u_k (by decide)]
                      have t_785 : (I_778 o 7).toInt = (I_755 o 7).toInt := by rw [← e_779, q_u_k (by decide)]
                      have t_786 : (I_778 o 8).toInt = (I_755 o 8).toInt := by rw [← e_779, q_u_k (by decide)]
                      have t_787 : (I_778 o 9).toInt = (I_755 o 9).toInt := by rw [← e_779, q_u_k (by decide)]
                      have t_788 : (I_778 o 44).toInt = (I_755 o 44).toInt := by rw [← e_779, q_u_k (by decide)]
                      have t_789 : (I_778 o 45).toInt = (I_755 o 45).toInt := by rw [← e_779, q_u_k (by decide)]
                      have t_790 : (I_778 o 47).toInt = ((I_755 o 47) + 1).toInt := by rw [← e_779, q_u_at]
                      have t_791 : (I_778 o 48).toInt = (I_755 o 48).toInt := by rw [← e_779, q_u_k (by decide)]
                      have t_792 : (I_778 o 46).toInt = (I_755 o 46).toInt := by rw [← e_779, q_u_k (by decide)]
                      have k_793 : MTd I_778 o := k_772.fr (by rw [← e_779]; exact q_u_ne (by omega)) (by rw [← e_779]; exact q_u_ne (by omega)) (by rw [← e_779]; exact q_u_ne (by omega))
                      have k_794 : MPo I_778 o := k_773.fr (by rw [← e_779, q_u_k (by decide)]) (by rw [← e_779, q_u_k (by decide)])
                      have k_795 : MTk I_778 o := k_774.fr (by rw [← e_779, q_u_k (by decide)]) (by rw [← e_779, q_u_k (by decide)]) (by rw [← e_779, q_u_k (by decide)])
                      have tk := k_795.2 (by omega)
                      have k_797 : EX 0 0 1 f0 1 I_778 o := by exact EX.put47 k_775 e_779 (by omega)
                      refine y_Model_nextg hok hw ra hz16 hz17 hz18 hz19 (by first | omega | (intro h; omega) | exact Or.inl rfl | exact Or.inr rfl) hR_780 (fun I_808 L_809 hR_810 fr_811 kp_812 u_799 u_800 u_801 u_802 u_803 u_804 u_805 u_806 gn_807 => ⟨I_808, L_809, rfl, rfl, ?_⟩)
                      replace hg := gt_b3 gn_807 hg
                      clear gn_807
                      have hf_813 : Fm (fun c => c = o ∨ (o + 30 ≤ c ∧ c < o + 34)) I0 I_808 := hf_781.call fr_811 (fun c hc => by first | exact hc | (dsimp only at hc ⊢; omega) | omega)
                      have t_814 : (I_808 o 3).toInt = (I_778 o 3).toInt := by rw [kp_812 3 rfl]
                      have t_815 : (I_808 o 4).toInt = (I_778 o 4).toInt := by rw [kp_812 4 rfl]
                      have g_816 : (0 : Int) ≤ (I_808 o 6).toInt ∧ (I_808 o 6).toInt ≤ 1600 := hR_810.at0 ra 6 (by decide)
                      have g_817 : (0 : Int) ≤ (I_808 o 7).toInt ∧ (I_808 o 7).toInt ≤ 1601 := hR_810.at0 ra 7 (by decide)
                      have g_818 : (0 : Int) ≤ (I_808 o 8).toInt ∧ (I_808 o 8).toInt ≤ 6 := hR_810.at0 ra 8 (by decide)
                      have t_819 : (I_808 o 44).toInt = (I_778 o 44).toInt := by rw [kp_812 44 rfl]
                      have t_820 : (I_808 o 45).toInt = (I_778 o 45).toInt := by rw [kp_812 45 rfl]
                      have t_821 : (I_808 o 47).toInt = (I_778 o 47).toInt := by rw [kp_812 47 rfl]
                      have t_822 : (I_808 o 48).toInt = (I_778 o 48).toInt := by rw [kp_812 48 rfl]
                      have t_823 : (I_808 o 46).toInt = (I_778 o 46).toInt := by rw [kp_812 46 rfl]
                      have k_824 : MTd I_808 o := k_793.fr (fr_811 _ (by first | omega | (dsimp only; omega))) (fr_811 _ (by first | omega | (dsimp only; omega))) (fr_811 _ (by first | omega | (dsimp only; omega)))
                      have ms := u_802 (by omega)
                      have k_825 : EX 0 0 0 f0 1 I_808 o := by exact EX.nx k_797 (fr_811 _ (by first | omega | (dsimp only; omega))) (fr_811 _ (by first | omega | (dsimp only; omega))) (fr_811 _ (by first | omega | (dsimp only; omega))) (fr_811 _ (by first | omega | (dsimp only; omega))) (fr_811 _ (by first | omega | (dsimp only; omega))) (kp_812 3 rfl) (kp_812 44 rfl) (kp_812 45 rfl) (kp_812 47 rfl) (kp_812 48 rfl) (by omega) (by omega)
                      exact (hp _ _ _ hR_810 hf_813 (Or.inr rfl) (by first | omega | (intro h; omega) | exact Or.inl rfl | exact Or.inr rfl) (by first | omega | (intro h; omega) | exact Or.inl rfl | exact Or.inr rfl) (by first | omega | (intro h; omega) | exact Or.inl rfl | exact Or.inr rfl) (by first | omega | (intro h; omega) | exact Or.inl rfl | exact Or.inr rfl) (by first | omega | (intro h; omega) | exact Or.inl rfl | exact Or.inr rfl) (by clear hg; first | (intro h; exfalso; omega) | exact fun _ => k_825 | exact fun _ => (False.elim (by omega))) k_824 u_805 u_806 hg.symm)
                    · have d_826 := iEq c_747
                      have i_827 := u_744 (by omega)
                      replace hg := gt_pos (by first | exact d_826 | omega) hg
                      exact (hp _ _ _ hR_533 hf_534 (Or.inr rfl) (by first | omega | (intro h; omega) | exact Or.inl rfl | exact Or.inr rfl) (by first | omega | (intro h; omega) | exact Or.inl rfl | exact Or.inr rfl) (by first | omega | (intro h; omega) | exact Or.inl rfl | exact Or.inr rfl) (by first | omega | (intro h; omega) | exact Or.inl rfl | exact Or.inr rfl) (by first | omega | (intro h; omega) | exact Or.inl rfl | exact Or.inr rfl) (by clear hg; first | (intro h; exfalso; omega) | exact fun _ => k_546 | exact fun _ => (False.elim (by omega))) k_547 k_548 k_549 hg.symm)
                  · have d_828 := iEq c_739
                    replace hg := gt_pos (by first | exact d_828 | omega) hg
                    refine y_Model_wrongg hok hw ra hz14 hz15 hR_533 (fun I_833 L_834 hR_835 fr_836 kp_837 u_830 u_831 gn_832 => ⟨I_833, L_834, rfl, rfl, ?_⟩)
                    replace hg := gt_b3 gn_832 hg
                    clear gn_832
                    have hf_838 : Fm (fun c => c = o ∨ (o + 30 ≤ c ∧ c < o + 34)) I0 I_833 := hf_534.call fr_836 (fun c hc => by first | exact hc | (dsimp only at hc ⊢; omega) | omega)
                    have t_839 : (I_833 o 3).toInt = (I_531 o 3).toInt := by rw [kp_837 3 rfl]
                    have g_840 : (0 : Int) ≤ (I_833 o 4).toInt ∧ (I_833 o 4).toInt ≤ 5 := hR_835.at0 ra 4 (by decide)
                    have t_841 : (I_833 o 6).toInt = (I_531 o 6).toInt := by rw [kp_837 6 rfl]
                    have t_842 : (I_833 o 7).toInt = (I_531 o 7).toInt := by rw [kp_837 7 rfl]
                    have t_843 : (I_833 o 8).toInt = (I_531 o 8).toInt := by rw [kp_837 8 rfl]
                    have t_844 : (I_833 o 9).toInt = (I_531 o 9).toInt := by rw [kp_837 9 rfl]
                    have t_845 : (I_833 o 44).toInt = (I_531 o 44).toInt := by rw [kp_837 44 rfl]
                    have t_846 : (I_833 o 45).toInt = (I_531 o 45).toInt := by rw [kp_837 45 rfl]
                    have t_847 : (I_833 o 47).toInt = (I_531 o 47).toInt := by rw [kp_837 47 rfl]
                    have t_848 : (I_833 o 48).toInt = (I_531 o 48).toInt := by rw [kp_837 48 rfl]
                    have t_849 : (I_833 o 46).toInt = (I_531 o 46).toInt := by rw [kp_837 46 rfl]
                    have k_850 : EX 0 0 0 f0 1 I_833 o := k_546.fr (fr_836 _ (by first | omega | (dsimp only; omega))) (fr_836 _ (by first | omega | (dsimp only; omega))) (fr_836 _ (by first | omega | (dsimp only; omega))) (fr_836 _ (by first | omega | (dsimp only; omega))) (fr_836 _ (by first | omega | (dsimp only; omega))) (kp_837 3 rfl) (kp_837 6 rfl) (kp_837 44 rfl) (kp_837 45 rfl) (kp_837 47 rfl) (kp_837 48 rfl)
                    have k_851 : MTd I_833 o := k_547.fr (fr_836 _ (by first | omega | (dsimp only; omega))) (fr_836 _ (by first | omega | (dsimp only; omega))) (fr_836 _ (by first | omega | (dsimp only; omega)))
                    have k_852 : MPo I_833 o := k_548.fr (kp_837 8 rfl) (kp_837 9 rfl)
                    have k_853 : MTk I_833 o := k_549.fr (kp_837 6 rfl) (kp_837 7 rfl) (kp_837 8 rfl)
                    refine y_Model_isGoodg hok hw ra hR_835 (fun r_854 u_855 u_856 u_857 gn_858 => ⟨r_854, I_833, L_834, rfl, rfl, ?_⟩)
                    replace hg := gt_let gn_858 hg
                    clear gn_858
                    have b_859 : 0 ≤ r_854.toInt ∧ r_854.toInt ≤ 1 := u_855.rg
                    refine ⟨fun c_860 => ?_, fun c_860 => ?_⟩
                    · have d_861 := iNe c_860
                      have i_862 := u_856 (by omega)
                      replace hg := gt_neg (by first | exact d_861 | omega) hg
                      refine y_Model_pileg hok hw ra hz58 (by first | omega | (intro h; omega) | exact Or.inl rfl | exact Or.inr rfl) (by first | omega | (intro h; omega) | exact Or.inl rfl | exact Or.inr rfl) hR_835 (fun I_868 L_869 hR_870 fr_871 kp_872 u_864 u_865 u_866 gn_867 => ⟨I_868, L_869, rfl, rfl, ?_⟩)
                      replace hg := gt_b3 gn_867 hg
                      clear gn_867
                      have hf_873 : Fm (fun c => c = o ∨ (o + 30 ≤ c ∧ c < o + 34)) I0 I_868 := hf_838.call fr_871 (fun c hc => by first | exact hc | (dsimp only at hc ⊢; omega) | omega)
                      have t_874 : (I_868 o 3).toInt = (I_833 o 3).toInt := by rw [kp_872 3 rfl]
                      have t_875 : (I_868 o 4).toInt = (I_833 o 4).toInt := by rw [kp_872 4 rfl]
                      have t_876 : (I_868 o 6).toInt = (I_833 o 6).toInt := by rw [kp_872 6 rfl]
                      have t_877 : (I_868 o 7).toInt = (I_833 o 7).toInt := by rw [kp_872 7 rfl]
                      have t_878 : (I_868 o 8).toInt = (I_833 o 8).toInt := by rw [kp_872 8 rfl]
                      have t_879 : (I_868 o 9).toInt = (I_833 o 9).toInt := by rw [kp_872 9 rfl]
                      have t_880 : (I_868 o 44).toInt = (I_833 o 44).toInt := by rw [kp_872 44 rfl]
                      have t_881 : (I_868 o 45).toInt = (I_833 o 45).toInt := by rw [kp_872 45 rfl]
                      have t_882 : (I_868 o 47).toInt = (I_833 o 47).toInt := by rw [kp_872 47 rfl]
                      have g_883 : (0 : Int) ≤ (I_868 o 48).toInt ∧ (I_868 o 48).toInt ≤ 80 := hR_870.at0 ra 48 (by decide)
                      have t_884 : (I_868 o 46).toInt = (I_833 o 46).toInt := by rw [kp_872 46 rfl]
                      have k_885 : MTd I_868 o := k_851.fr (fr_871 _ (by first | omega | (dsimp only; omega))) (fr_871 _ (by first | omega | (dsimp only; omega))) (fr_871 _ (by first | omega | (dsimp only; omega)))
                      have k_886 : MPo I_868 o := k_852.fr (kp_872 8 rfl) (kp_872 9 rfl)
                      have k_887 : MTk I_868 o := k_853.fr (kp_872 6 rfl) (kp_872 7 rfl) (kp_872 8 rfl)
                      have k_888 : EX 0 1 1 f0 1 I_868 o := by have z := EX.push k_850 (v := 7) (s := 0) (dB := 1) (dO := 0) (wt' := 1) (by decide) (by decide) (by decide) (by omega) ⟨by decide, by decide⟩ ⟨fun h => absurd h (by decide), fun h => absurd h (by decide)⟩ (Or.inl rfl) (fr_871 _ (by first | omega | (dsimp only; omega))) (fr_871 _ (by first | omega | (dsimp only; omega))) (fr_871 _ (by first | omega | (dsimp only; omega))) u_864 u_865 (kp_872 3 rfl) (kp_872 6 rfl) (kp_872 44 rfl) (kp_872 45 rfl) (kp_872 47 rfl) u_866; exact EX.chg (b' := 1) z rfl rfl rfl rfl rfl rfl rfl rfl rfl rfl (by omega) z.pl
                      have g_889 : (0 : Int) ≤ (I_868 o 47).toInt ∧ (I_868 o 47).toInt ≤ 7 := hR_870.at0 ra 47 (by decide)
                      replace hg := gt_let (y := (I_868 o 47).toInt) rfl hg
                      have a_890 : ((I_868 o 47) + 1).toInt = (I_868 o 47).toInt + (1 : Int32).toInt := tAdd (by omega) (by omega)
                      replace hg := gt_let (y := (((I_868 o 47) + 1) : Int32).toInt) (by omega) hg
                      refine fun I_891 e_892 => ?_
                      replace hg := gt_let (y := tI I_891) (tI_q e_892) hg
                      have hR_893 : RI R I_891 := hR_870.up0 (k := 47) ra (by decide) (Or.inr hz57) e_892 (show (0 : Int) ≤ ((I_868 o 47) + 1).toInt by omega) (show ((I_868 o 47) + 1).toInt ≤ (7 : Int) by omega)
                      have hf_894 : Fm (fun c => c = o ∨ (o + 30 ≤ c ∧ c < o + 34)) I0 I_891 := hf_873.set (by first | rfl | omega | (dsimp only; omega)) e_892
                      have t_895 : (I_891 o 3).toInt = (I_868 o 3).toInt := by rw [← e_892, q_u_k (by decide)]
                      have t_896 : (I_891 o 4).toInt = (I_868 o 4).toInt := by rw [← e_892, q_u_k (by decide)]
                      have t_897 : (I_891 o 6).toInt = (I_868 o 6).toInt := by rw [← e_892, q_u_k (by decide)]
                      have t_898 : (I_891 o 7).toInt = (I_868 o 7).toInt := by rw [← e_892, q_u_k (by decide)]
                      have t_899 : (I_891 o 8).toInt = (I_868 o 8).toInt := by rw [← e_892, q_u_k (by decide)]
                      have t_900 : (I_891 o 9).toInt = (I_868 o 9).toInt := by rw [← e_892, q_u_k (by decide)]
                      have t_901 : (I_891 o 44).toInt = (I_868 o 44).toInt := by rw [← e_892, q_u_k (by decide)]
                      have t_902 : (I_891 o 45).toInt = (I_868 o 45).toInt := by rw [← e_892, q_u_k (by decide)]
                      have t_903 : (I_891 o 47).toInt = ((I_868 o 47) + 1).toInt := by rw [← e_892, q_u_at]
                      have t_904 : (I_891 o 48).toInt = (I_868 o 48).toInt := by rw [← e_892, q_u_k (by decide)]
                      have t_905 : (I_891 o 46).toInt = (I_868 o 46).toInt := by rw [← e_892, q_u_k (by decide)]
                      have k_906 : MTd I_891 o := k_885.fr (by rw [← e_892]; exact q_u_ne (by omega)) (by rw [← e_892]; exact q_u_ne (by omega)) (by rw [← e_892]; exact q_u_ne (by omega))
                      have k_907 : MPo I_891 o := k_886.fr (by rw [← e_892, q_u_k (by decide)]) (by rw [← e_892, q_u_k (by decide)])
                      have k_908 : MTk I_891 o := k_887.fr (by rw [← e_892, q_u_k (by decide)]) (by rw [← e_892, q_u_k (by decide)]) (by rw [← e_892, q_u_k (by decide)])
                      have tk := k_908.2 (by omega)
                      have k_910 : EX 0 0 1 f0 1 I_891 o := by exact EX.put47 k_888 e_892 (by omega)
                      refine y_Model_nextg hok hw ra hz16 hz17 hz18 hz19 (by first | omega | (intro h; omega) | exact Or.inl rfl | exact Or.inr rfl) hR_893 (fun I_921 L_922 hR_923 fr_924 kp_925 u_912 u_913 u_914 u_915 u_916 u_917 u_918 u_919 gn_920 => ⟨I_921, L_922, rfl, rfl, ?_⟩)
                      replace hg := gt_b3 gn_920 hg
                      clear gn_920
                      have hf_926 : Fm (fun c => c = o ∨ (o + 30 ≤ c ∧ c < o + 34)) I0 I_921 := hf_894.call fr_924 (fun c hc => by first | exact hc | (dsimp only at hc ⊢; omega) | omega)
                      have t_927 : (I_921 o 3).toInt = (I_891 o 3).toInt := by rw [kp_925 3 rfl]
                      have t_928 : (I_921 o 4).toInt = (I_891 o 4).toInt := by rw [kp_925 4 rfl]
                      have g_929 : (0 : Int) ≤ (I_921 o 6).toInt ∧ (I_921 o 6).toInt ≤ 1600 := hR_923.at0 ra 6 (by decide)
                      have g_930 : (0 : Int) ≤ (I_921 o 7).toInt ∧ (I_921 o 7).toInt ≤ 1601 := hR_923.at0 ra 7 (by decide)
                      have g_931 : (0 : Int) ≤ (I_921 o 8).toInt ∧ (I_921 o 8).toInt ≤ 6 := hR_923.at0 ra 8 (by decide)
                      have t_932 : (I_921 o 44).toInt = (I_891 o 44).toInt := by rw [kp_925 44 rfl]
                      have t_933 : (I_921 o 45).toInt = (I_891 o 45).toInt := by rw [kp_925 45 rfl]
                      have t_934 : (I_921 o 47).toInt = (I_891 o 47).toInt := by rw [kp_925 47 rfl]
                      have t_935 : (I_921 o 48).toInt = (I_891 o 48).toInt := by rw [kp_925 48 rfl]
                      have t_936 : (I_921 o 46).toInt = (I_891 o 46).toInt := by rw [kp_925 46 rfl]
                      have k_937 : MTd I_921 o := k_906.fr (fr_924 _ (by first | omega | (dsimp only; omega))) (fr_924 _ (by first | omega | (dsimp only; omega))) (fr_924 _ (by first | omega | (dsimp only; omega)))
                      have ms := u_915 (by omega)
                      have k_938 : EX 0 0 0 f0 1 I_921 o := by exact EX.nx k_910 (fr_924 _ (by first | omega | (dsimp only; omega))) (fr_924 _ (by first | omega | (dsimp only; omega))) (fr_924 _ (by first | omega | (dsimp only; omega))) (fr_924 _ (by first | omega | (dsimp only; omega))) (fr_924 _ (by first | omega | (dsimp only; omega))) (kp_925 3 rfl) (kp_925 44 rfl) (kp_925 45 rfl) (kp_925 47 rfl) (kp_925 48 rfl) (by omega) (by omega)
                      exact (hp _ _ _ hR_923 hf_926 (Or.inr rfl) (by first | omega | (intro h; omega) | exact Or.inl rfl | exact Or.inr rfl) (by first | omega | (intro h; omega) | exact Or.inl rfl | exact Or.inr rfl) (by first | omega | (intro h; omega) | exact Or.inl rfl | exact Or.inr rfl) (by first | omega | (intro h; omega) | exact Or.inl rfl | exact Or.inr rfl) (by first | omega | (intro h; omega) | exact Or.inl rfl | exact Or.inr rfl) (by clear hg; first | (intro h; exfalso; omega) | exact fun _ => k_938 | exact fun _ => (False.elim (by omega))) k_937 u_918 u_919 hg.symm)
                    · have d_939 := iEq c_860
                      have i_940 := u_857 (by omega)
                      replace hg := gt_pos (by first | exact d_939 | omega) hg
                      exact (hp _ _ _ hR_835 hf_838 (Or.inr rfl) (by first | omega | (intro h; omega) | exact Or.inl rfl | exact Or.inr rfl) (by first | omega | (intro h; omega) | exact Or.inl rfl | exact Or.inr rfl) (by first | omega | (intro h; omega) | exact Or.inl rfl | exact Or.inr rfl) (by first | omega | (intro h; omega) | exact Or.inl rfl | exact Or.inr rfl) (by first | omega | (intro h; omega) | exact Or.inl rfl | exact Or.inr rfl) (by clear hg; first | (intro h; exfalso; omega) | exact fun _ => k_850 | exact fun _ => (False.elim (by omega))) k_851 k_852 k_853 hg.symm)
              · have d_941 := iEq c_526
                have i_942 := u_523 (by omega)
                replace hg := gt_pos (by first | exact d_941 | omega) hg
                exact (hp _ _ _ hR_501 hf_504 (Or.inr rfl) (by first | omega | (intro h; omega) | exact Or.inl rfl | exact Or.inr rfl) (by first | omega | (intro h; omega) | exact Or.inl rfl | exact Or.inr rfl) (by first | omega | (intro h; omega) | exact Or.inl rfl | exact Or.inr rfl) (by first | omega | (intro h; omega) | exact Or.inl rfl | exact Or.inr rfl) (by first | omega | (intro h; omega) | exact Or.inl rfl | exact Or.inr rfl) (by clear hg; first | (intro h; exfalso; omega) | exact fun _ => k_516 | exact fun _ => (False.elim (by omega))) k_517 k_518 k_519 hg.symm)
          · have d_943 := iEq c_63
            replace hg := gt_pos (by first | exact d_943 | omega) hg
            have g_944 : (0 : Int) ≤ (I_34 o 8).toInt ∧ (I_34 o 8).toInt ≤ 6 := hR_36.at0 ra 8 (by decide)
            replace hg := gt_let (y := (I_34 o 8).toInt) rfl hg
            have l_945 : (4 : Int32).toInt = 4 := rfl
            refine ⟨fun c_946 => ?_, fun c_946 => ?_⟩
            · have d_947 := iEq c_946
              replace hg := gt_pos (by first | exact d_947 | omega) hg
              unfold fModel_unit_131
              replace hg := (eModel_unit_131).symm.trans hg
              have g_948 : (0 : Int) ≤ (I_34 o 46).toInt ∧ (I_34 o 46).toInt ≤ 100 := hR_36.at0 ra 46 (by decide)
              replace hg := gt_let (y := (I_34 o 46).toInt) rfl hg
              have l_949 : (100 : Int32).toInt = 100 := rfl
              refine ⟨fun c_950 => ?_, fun c_950 => ?_⟩
              · have d_951 := iNe c_950
                replace hg := gt_neg (by first | exact d_951 | omega) hg
                refine y_Model_isGoodg hok hw ra hR_36 (fun r_952 u_953 u_954 u_955 gn_956 => ⟨r_952, I_34, L_35, rfl, rfl, ?_⟩)
                replace hg := gt_let gn_956 hg
                clear gn_956
                have b_957 : 0 ≤ r_952.toInt ∧ r_952.toInt ≤ 1 := u_953.rg
                refine ⟨fun c_958 => ?_, fun c_958 => ?_⟩
                · have d_959 := iNe c_958
                  have i_960 := u_954 (by omega)
                  replace hg := gt_neg (by first | exact d_959 | omega) hg
                  have g_961 : (0 : Int) ≤ (I_34 o 46).toInt ∧ (I_34 o 46).toInt ≤ 100 := hR_36.at0 ra 46 (by decide)
                  replace hg := gt_let (y := (I_34 o 46).toInt) rfl hg
                  have a_962 : ((I_34 o 46) + 1).toInt = (I_34 o 46).toInt + (1 : Int32).toInt := tAdd (by omega) (by omega)
                  replace hg := gt_let (y := (((I_34 o 46) + 1) : Int32).toInt) (by omega) hg
                  refine fun I_963 e_964 => ?_
                  replace hg := gt_let (y := tI I_963) (tI_q e_964) hg
                  have hR_965 : RI R I_963 := hR_36.up0 (k := 46) ra (by decide) (Or.inr hz56) e_964 (show (0 : Int) ≤ ((I_34 o 46) + 1).toInt by omega) (show ((I_34 o 46) + 1).toInt ≤ (100 : Int) by omega)
                  have hf_966 : Fm (fun c => c = o ∨ (o + 30 ≤ c ∧ c < o + 34)) I0 I_963 := hf_39.set (by first | rfl | omega | (dsimp only; omega)) e_964
                  have t_967 : (I_963 o 3).toInt = (I_34 o 3).toInt := by rw [← e_964, q_u_k (by decide)]
                  have t_968 : (I_963 o 4).toInt = (I_34 o 4).toInt := by rw [← e_964, q_u_k (by decide)]
                  have t_969 : (I_963 o 6).toInt = (I_34 o 6).toInt := by rw [← e_964, q_u_k (by decide)]
                  have t_970 : (I_963 o 7).toInt = (I_34 o 7).toInt := by rw [← e_964, q_u_k (by decide)]
                  have t_971 : (I_963 o 8).toInt = (I_34 o 8).toInt := by rw [← e_964, q_u_k (by decide)]
                  have t_972 : (I_963 o 9).toInt = (I_34 o 9).toInt := by rw [← e_964, q_u_k (by decide)]
                  have t_973 : (I_963 o 44).toInt = (I_34 o 44).toInt := by rw [← e_964, q_u_k (by decide)]
                  have t_974 : (I_963 o 45).toInt = (I_34 o 45).toInt := by rw [← e_964, q_u_k (by decide)]
                  have t_975 : (I_963 o 47).toInt = (I_34 o 47).toInt := by rw [← e_964, q_u_k (by decide)]
                  have t_976 : (I_963 o 48).toInt = (I_34 o 48).toInt := by rw [← e_964, q_u_k (by decide)]
                  have t_977 : (I_963 o 46).toInt = ((I_34 o 46) + 1).toInt := by rw [← e_964, q_u_at]
                  have k_978 : EX 0 0 0 f0 1 I_963 o := k_50.fr (by rw [← e_964]; exact q_u_ne (by omega)) (by rw [← e_964]; exact q_u_ne (by omega)) (by rw [← e_964]; exact q_u_ne (by omega)) (by rw [← e_964]; exact q_u_ne (by omega)) (by rw [← e_964]; exact q_u_ne (by omega)) (by rw [← e_964, q_u_k (by decide)]) (by rw [← e_964, q_u_k (by decide)]) (by rw [← e_964, q_u_k (by decide)]) (by rw [← e_964, q_u_k (by decide)]) (by rw [← e_964, q_u_k (by decide)]) (by rw [← e_964, q_u_k (by decide)])
                  have k_979 : MTd I_963 o := k_51.fr (by rw [← e_964]; exact q_u_ne (by omega)) (by rw [← e_964]; exact q_u_ne (by omega)) (by rw [← e_964]; exact q_u_ne (by omega))
                  have k_980 : MPo I_963 o := k_52.fr (by rw [← e_964, q_u_k (by decide)]) (by rw [← e_964, q_u_k (by decide)])
                  have k_981 : MTk I_963 o := k_53.fr (by rw [← e_964, q_u_k (by decide)]) (by rw [← e_964, q_u_k (by decide)]) (by rw [← e_964, q_u_k (by decide)])
                  have l_982 : (40 : Int32).toInt = 40 := rfl
                  refine y_Model_isg hok hw ra hR_965 (fun r_983 u_984 u_985 u_986 gn_987 => ⟨r_983, I_963, L_35, rfl, rfl, ?_⟩)
                  replace hg := gt_let gn_987 hg
                  clear gn_987
                  have b_988 : 0 ≤ r_983.toInt ∧ r_983.toInt ≤ 1 := u_984.rg
                  refine ⟨fun c_989 => ?_, fun c_989 => ?_⟩
                  · have d_990 := iEq c_989
                    replace hg := gt_pos (by first | exact d_990 | omega) hg
                    have cd := k_978.cod
                    have tk := k_981.2 (by omega)
                    refine ⟨fun c_991 => ?_, fun c_991 => ?_⟩
                    · have d_992 := iNe c_991
                      have i_993 := u_30 (by omega)
                      have i_994 := u_31 (by omega)
                      exfalso; omega
                    · have d_995 := iEq c_991
                      replace hg := gt_pos (by first | exact d_995 | omega) hg
                      unfold fModel_unit_228
                      replace hg := (eModel_unit_228).symm.trans hg
                      have l_996 : (78 : Int32).toInt = 78 := rfl
                      refine ⟨fun c_997 => ?_, fun c_997 => ?_⟩
                      · have d_998 := iNe c_997
                        have i_999 := u_30 (by omega)
                        have i_1000 := u_31 (by omega)
                        exfalso; omega
                      · have d_1001 := iEq c_997
                        replace hg := gt_pos (by first | exact d_1001 | omega) hg
                        replace hg := gt_let (y := (I_963 o 9).toInt) rfl hg
                        refine y_Model_stepg hok hw ra hz55 (by first | omega | (intro h; omega) | exact Or.inl rfl | exact Or.inr rfl) (by first | omega | (intro h; omega) | exact Or.inl rfl | exact Or.inr rfl) hR_965 (fun I_1006 L_1007 hR_1008 fr_1009 kp_1010 u_1003 u_1004 gn_1005 => ⟨I_1006, L_1007, rfl, rfl, ?_⟩)
                        replace hg := gt_b3 gn_1005 hg
                        clear gn_1005
                        have hf_1011 : Fm (fun c => c = o ∨ (o + 30 ≤ c ∧ c < o + 34)) I0 I_1006 := hf_966.call fr_1009 (fun c hc => by first | exact hc | (dsimp only at hc ⊢; omega) | omega)
                        have t_1012 : (I_1006 o 3).toInt = (I_963 o 3).toInt := by rw [kp_1010 3 rfl]
                        have t_1013 : (I_1006 o 4).toInt = (I_963 o 4).toInt := by rw [kp_1010 4 rfl]
                        have t_1014 : (I_1006 o 6).toInt = (I_963 o 6).toInt := by rw [kp_1010 6 rfl]
                        have t_1015 : (I_1006 o 7).toInt = (I_963 o 7).toInt := by rw [kp_1010 7 rfl]
                        have t_1016 : (I_1006 o 8).toInt = (I_963 o 8).toInt := by rw [kp_1010 8 rfl]
                        have t_1017 : (I_1006 o 9).toInt = (I_963 o 9).toInt := by rw [kp_1010 9 rfl]
                        have t_1018 : (I_1006 o 44).toInt = (I_963 o 44).toInt := by rw [kp_1010 44 rfl]
                        have g_1019 : (0 : Int) ≤ (I_1006 o 45).toInt ∧ (I_1006 o 45).toInt ≤ 700 := hR_1008.at0 ra 45 (by decide)
                        have t_1020 : (I_1006 o 47).toInt = (I_963 o 47).toInt := by rw [kp_1010 47 rfl]
                        have t_1021 : (I_1006 o 48).toInt = (I_963 o 48).toInt := by rw [kp_1010 48 rfl]
                        have t_1022 : (I_1006 o 46).toInt = (I_963 o 46).toInt := by rw [kp_1010 46 rfl]
                        have k_1023 : MPo I_1006 o := k_980.fr (kp_1010 8 rfl) (kp_1010 9 rfl)
                        have k_1024 : MTk I_1006 o := k_981.fr (kp_1010 6 rfl) (kp_1010 7 rfl) (kp_1010 8 rfl)
                        have tk := k_1024.2 (by omega)
                        have k_1025 : EX 0 0 1 f0 0 I_1006 o := by exact EX.step1 k_978 (by first | exact u_30 (by omega) | (unfold isT; decide)) (by omega) (fr_1009 _ (by first | omega | (dsimp only; omega))) (fr_1009 _ (by first | omega | (dsimp only; omega))) u_1003 (fr_1009 _ (by first | omega | (dsimp only; omega))) (fr_1009 _ (by first | omega | (dsimp only; omega))) (kp_1010 3 rfl) (kp_1010 6 rfl) (kp_1010 44 rfl) u_1004 (kp_1010 47 rfl) (kp_1010 48 rfl)
                        have k_1026 : MTd I_1006 o := by exact MTd.step k_979 (fr_1009 _ (by first | omega | (dsimp only; omega))) (fr_1009 _ (by first | omega | (dsimp only; omega))) u_1003 (by omega)
                        refine y_Model_nextg hok hw ra hz16 hz17 hz18 hz19 (by first | omega | (intro h; omega) | exact Or.inl rfl | exact Or.inr rfl) hR_1008 (fun I_1037 L_1038 hR_1039 fr_1040 kp_1041 u_1028 u_1029 u_1030 u_1031 u_1032 u_1033 u_1034 u_1035 gn_1036 => ⟨I_1037, L_1038, rfl, rfl, ?_⟩)
                        replace hg := gt_b3 gn_1036 hg
                        clear gn_1036
                        have hf_1042 : Fm (fun c => c = o ∨ (o + 30 ≤ c ∧ c < o + 34)) I0 I_1037 := hf_1011.call fr_1040 (fun c hc => by first | exact hc | (dsimp only at hc ⊢; omega) | omega)
                        have t_1043 : (I_1037 o 3).toInt = (I_1006 o 3).toInt := by rw [kp_1041 3 rfl]
                        have t_1044 : (I_1037 o 4).toInt = (I_1006 o 4).toInt := by rw [kp_1041 4 rfl]
                        have g_1045 : (0 : Int) ≤ (I_1037 o 6).toInt ∧ (I_1037 o 6).toInt ≤ 1600 := hR_1039.at0 ra 6 (by decide)
                        have g_1046 : (0 : Int) ≤ (I_1037 o 7).toInt ∧ (I_1037 o 7).toInt ≤ 1601 := hR_1039.at0 ra 7 (by decide)
                        have g_1047 : (0 : Int) ≤ (I_1037 o 8).toInt ∧ (I_1037 o 8).toInt ≤ 6 := hR_1039.at0 ra 8 (by decide)
                        have t_1048 : (I_1037 o 44).toInt = (I_1006 o 44).toInt := by rw [kp_1041 44 rfl]
                        have t_1049 : (I_1037 o 45).toInt = (I_1006 o 45).toInt := by rw [kp_1041 45 rfl]
                        have t_1050 : (I_1037 o 47).toInt = (I_1006 o 47).toInt := by rw [kp_1041 47 rfl]
                        have t_1051 : (I_1037 o 48).toInt = (I_1006 o 48).toInt := by rw [kp_1041 48 rfl]
                        have t_1052 : (I_1037 o 46).toInt = (I_1006 o 46).toInt := by rw [kp_1041 46 rfl]
                        have k_1053 : MTd I_1037 o := k_1026.fr (fr_1040 _ (by first | omega | (dsimp only; omega))) (fr_1040 _ (by first | omega | (dsimp only; omega))) (fr_1040 _ (by first | omega | (dsimp only; omega)))
                        have ms := u_1031 (by omega)
                        have k_1054 : EX 0 0 0 f0 0 I_1037 o := by exact EX.nx k_1025 (fr_1040 _ (by first | omega | (dsimp only; omega))) (fr_1040 _ (by first | omega | (dsimp only; omega))) (fr_1040 _ (by first | omega | (dsimp only; omega))) (fr_1040 _ (by first | omega | (dsimp only; omega))) (fr_1040 _ (by first | omega | (dsimp only; omega))) (kp_1041 3 rfl) (kp_1041 44 rfl) (kp_1041 45 rfl) (kp_1041 47 rfl) (kp_1041 48 rfl) (by omega) (by omega)
                        exact (hp _ _ _ hR_1039 hf_1042 (Or.inl rfl) (by first | omega | (intro h; omega) | exact Or.inl rfl | exact Or.inr rfl) (by first | omega | (intro h; omega) | exact Or.inl rfl | exact Or.inr rfl) (by first | omega | (intro h; omega) | exact Or.inl rfl | exact Or.inr rfl) (by first | omega | (intro h; omega) | exact Or.inl rfl | exact Or.inr rfl) (by first | omega | (intro h; omega) | exact Or.inl rfl | exact Or.inr rfl) (by clear hg; first | (intro h; exfalso; omega) | exact fun _ => (False.elim (by omega)) | exact fun _ => k_1054) k_1053 u_1034 u_1035 hg.symm)
                  · have d_1055 := iNe c_989
                    have i_1056 := u_985 (by omega)
                    have i_1057 := u_986 (by omega)
                    replace hg := gt_neg (by first | exact d_1055 | omega) hg
                    have g_1058 : (0 : Int) ≤ (I_963 o 47).toInt ∧ (I_963 o 47).toInt ≤ 7 := hR_965.at0 ra 47 (by decide)
                    replace hg := gt_let (y := (I_963 o 47).toInt) rfl hg
                    have l_1059 : (7 : Int32).toInt = 7 := rfl
                    refine ⟨fun c_1060 => ?_, fun c_1060 => ?_⟩
                    · have d_1061 := iNe c_1060
                      replace hg := gt_neg (by first | exact d_1061 | omega) hg
                      refine y_Model_isGoodg hok hw ra hR_965 (fun r_1062 u_1063 u_1064 u_1065 gn_1066 => ⟨r_1062, I_963, L_35, rfl, rfl, ?_⟩)
                      replace hg := gt_let gn_1066 hg
                      clear gn_1066
                      have b_1067 : 0 ≤ r_1062.toInt ∧ r_1062.toInt ≤ 1 := u_1063.rg
                      refine ⟨fun c_1068 => ?_, fun c_1068 => ?_⟩
                      · have d_1069 := iNe c_1068
                        have i_1070 := u_1064 (by omega)
                        replace hg := gt_neg (by first | exact d_1069 | omega) hg
                        refine y_Model_pileg hok hw ra hz58 (by first | omega | (intro h; omega) | exact Or.inl rfl | exact Or.inr rfl) (by first | omega | (intro h; omega) | exact Or.inl rfl | exact Or.inr rfl) hR_965 (fun I_1076 L_1077 hR_1078 fr_1079 kp_1080 u_1072 u_1073 u_1074 gn_1075 => ⟨I_1076, L_1077, rfl, rfl, ?_⟩)
                        replace hg := gt_b3 gn_1075 hg
                        clear gn_1075
                        have hf_1081 : Fm (fun c => c = o ∨ (o + 30 ≤ c ∧ c < o + 34)) I0 I_1076 := hf_966.call fr_1079 (fun c hc => by first | exact hc | (dsimp only at hc ⊢; omega) | omega)
                        have t_1082 : (I_1076 o 3).toInt = (I_963 o 3).toInt := by rw [kp_1080 3 rfl]
                        have t_1083 : (I_1076 o 4).toInt = (I_963 o 4).toInt := by rw [kp_1080 4 rfl]
                        have t_1084 : (I_1076 o 6).toInt = (I_963 o 6).toInt := by rw [kp_1080 6 rfl]
                        have t_1085 : (I_1076 o 7).toInt = (I_963 o 7).toInt := by rw [kp_1080 7 rfl]
                        have t_1086 : (I_1076 o 8).toInt = (I_963 o 8).toInt := by rw [kp_1080 8 rfl]
                        have t_1087 : (I_1076 o 9).toInt = (I_963 o 9).toInt := by rw [kp_1080 9 rfl]
                        have t_1088 : (I_1076 o 44).toInt = (I_963 o 44).toInt := by rw [kp_1080 44 rfl]
                        have t_1089 : (I_1076 o 45).toInt = (I_963 o 45).toInt := by rw [kp_1080 45 rfl]
                        have t_1090 : (I_1076 o 47).toInt = (I_963 o 47).toInt := by rw [kp_1080 47 rfl]
                        have g_1091 : (0 : Int) ≤ (I_1076 o 48).toInt ∧ (I_1076 o 48).toInt ≤ 80 := hR_1078.at0 ra 48 (by decide)
                        have t_1092 : (I_1076 o 46).toInt = (I_963 o 46).toInt := by rw [kp_1080 46 rfl]
                        have k_1093 : MTd I_1076 o := k_979.fr (fr_1079 _ (by first | omega | (dsimp only; omega))) (fr_1079 _ (by first | omega | (dsimp only; omega))) (fr_1079 _ (by first | omega | (dsimp only; omega)))
                        have k_1094 : MPo I_1076 o := k_980.fr (kp_1080 8 rfl) (kp_1080 9 rfl)
                        have k_1095 : MTk I_1076 o := k_981.fr (kp_1080 6 rfl) (kp_1080 7 rfl) (kp_1080 8 rfl)
                        have k_1096 : EX 0 1 1 f0 1 I_1076 o := by have z := EX.push k_978 (v := 7) (s := 0) (dB := 1) (dO := 0) (wt' := 1) (by decide) (by decide) (by decide) (by omega) ⟨by decide, by decide⟩ ⟨fun h => absurd h (by decide), fun h => absurd h (by decide)⟩ (Or.inl rfl) (fr_1079 _ (by first | omega | (dsimp only; omega))) (fr_1079 _ (by first | omega | (dsimp only; omega))) (fr_1079 _ (by first | omega | (dsimp only; omega))) u_1072 u_1073 (kp_1080 3 rfl) (kp_1080 6 rfl) (kp_1080 44 rfl) (kp_1080 45 rfl) (kp_1080 47 rfl) u_1074; exact EX.chg (b' := 1) z rfl rfl rfl rfl rfl rfl rfl rfl rfl rfl (by omega) z.pl
                        have g_1097 : (0 : Int) ≤ (I_1076 o 47).toInt ∧ (I_1076 o 47).toInt ≤ 7 := hR_1078.at0 ra 47 (by decide)
                        replace hg := gt_let (y := (I_1076 o 47).toInt) rfl hg
                        have a_1098 : ((I_1076 o 47) + 1).toInt = (I_1076 o 47).toInt + (1 : Int32).toInt := tAdd (by omega) (by omega)
                        replace hg := gt_let (y := (((I_1076 o 47) + 1) : Int32).toInt) (by omega) hg
                        refine fun I_1099 e_1100 => ?_
                        replace hg := gt_let (y := tI I_1099) (tI_q e_1100) hg
                        have hR_1101 : RI R I_1099 := hR_1078.up0 (k := 47) ra (by decide) (Or.inr hz57) e_1100 (show (0 : Int) ≤ ((I_1076 o 47) + 1).toInt by omega) (show ((I_1076 o 47) + 1).toInt ≤ (7 : Int) by omega)
                        have hf_1102 : Fm (fun c => c = o ∨ (o + 30 ≤ c ∧ c < o + 34)) I0 I_1099 := hf_1081.set (by first | rfl | omega | (dsimp only; omega)) e_1100
                        have t_1103 : (I_1099 o 3).toInt = (I_1076 o 3).toInt := by rw [← e_1100, q_u_k (by decide)]
                        have t_1104 : (I_1099 o 4).toInt = (I_1076 o 4).toInt := by rw [← e_1100, q_u_k (by decide)]
                        have t_1105 : (I_1099 o 6).toInt = (I_1076 o 6).toInt := by rw [← e_1100, q_u_k (by decide)]
                        have t_1106 : (I_1099 o 7).toInt = (I_1076 o 7).toInt := by rw [← e_1100, q_u_k (by decide)]
                        have t_1107 : (I_1099 o 8).toInt = (I_1076 o 8).toInt := by rw [← e_1100, q_u_k (by decide)]
                        have t_1108 : (I_1099 o 9).toInt = (I_1076 o 9).toInt := by rw [← e_1100, q_u_k (by decide)]
                        have t_1109 : (I_1099 o 44).toInt = (I_1076 o 44).toInt := by rw [← e_1100, q_u_k (by decide)]
                        have t_1110 : (I_1099 o 45).toInt = (I_1076 o 45).toInt := by rw [← e_1100, q_u_k (by decide)]
                        have t_1111 : (I_1099 o 47).toInt = ((I_1076 o 47) + 1).toInt := by rw [← e_1100, q_u_at]
                        have t_1112 : (I_1099 o 48).toInt = (I_1076 o 48).toInt := by rw [← e_1100, q_u_k (by decide)]
                        have t_1113 : (I_1099 o 46).toInt = (I_1076 o 46).toInt := by rw [← e_1100, q_u_k (by decide)]
                        have k_1114 : MTd I_1099 o := k_1093.fr (by rw [← e_1100]; exact q_u_ne (by omega)) (by rw [← e_1100]; exact q_u_ne (by omega)) (by rw [← e_1100]; exact q_u_ne (by omega))
                        have k_1115 : MPo I_1099 o := k_1094.fr (by rw [← e_1100, q_u_k (by decide)]) (by rw [← e_1100, q_u_k (by decide)])
                        have k_1116 : MTk I_1099 o := k_1095.fr (by rw [← e_1100, q_u_k (by decide)]) (by rw [← e_1100, q_u_k (by decide)]) (by rw [← e_1100, q_u_k (by decide)])
                        have tk := k_1116.2 (by omega)
                        have k_1118 : EX 0 0 1 f0 1 I_1099 o := by exact EX.put47 k_1096 e_1100 (by omega)
                        refine y_Model_nextg hok hw ra hz16 hz17 hz18 hz19 (by first | omega | (intro h; omega) | exact Or.inl rfl | exact Or.inr rfl) hR_1101 (fun I_1129 L_1130 hR_1131 fr_1132 kp_1133 u_1120 u_1121 u_1122 u_1123 u_1124 u_1125 u_1126 u_1127 gn_1128 => ⟨I_1129, L_1130, rfl, rfl, ?_⟩)
                        replace hg := gt_b3 gn_1128 hg
                        clear gn_1128
                        have hf_1134 : Fm (fun c => c = o ∨ (o + 30 ≤ c ∧ c < o + 34)) I0 I_1129 := hf_1102.call fr_1132 (fun c hc => by first | exact hc | (dsimp only at hc ⊢; omega) | omega)
                        have t_1135 : (I_1129 o 3).toInt = (I_1099 o 3).toInt := by rw [kp_1133 3 rfl]
                        have t_1136 : (I_1129 o 4).toInt = (I_1099 o 4).toInt := by rw [kp_1133 4 rfl]
                        have g_1137 : (0 : Int) ≤ (I_1129 o 6).toInt ∧ (I_1129 o 6).toInt ≤ 1600 := hR_1131.at0 ra 6 (by decide)
                        have g_1138 : (0 : Int) ≤ (I_1129 o 7).toInt ∧ (I_1129 o 7).toInt ≤ 1601 := hR_1131.at0 ra 7 (by decide)
                        have g_1139 : (0 : Int) ≤ (I_1129 o 8).toInt ∧ (I_1129 o 8).toInt ≤ 6 := hR_1131.at0 ra 8 (by decide)
                        have t_1140 : (I_1129 o 44).toInt = (I_1099 o 44).toInt := by rw [kp_1133 44 rfl]
                        have t_1141 : (I_1129 o 45).toInt = (I_1099 o 45).toInt := by rw [kp_1133 45 rfl]
                        have t_1142 : (I_1129 o 47).toInt = (I_1099 o 47).toInt := by rw [kp_1133 47 rfl]
                        have t_1143 : (I_1129 o 48).toInt = (I_1099 o 48).toInt := by rw [kp_1133 48 rfl]
                        have t_1144 : (I_1129 o 46).toInt = (I_1099 o 46).toInt := by rw [kp_1133 46 rfl]
                        have k_1145 : MTd I_1129 o := k_1114.fr (fr_1132 _ (by first | omega | (dsimp only; omega))) (fr_1132 _ (by first | omega | (dsimp only; omega))) (fr_1132 _ (by first | omega | (dsimp only; omega)))
                        have ms := u_1123 (by omega)
                        have k_1146 : EX 0 0 0 f0 1 I_1129 o := by exact EX.nx k_1118 (fr_1132 _ (by first | omega | (dsimp only; omega))) (fr_1132 _ (by first | omega | (dsimp only; omega))) (fr_1132 _ (by first | omega | (dsimp only; omega))) (fr_1132 _ (by first | omega | (dsimp only; omega))) (fr_1132 _ (by first | omega | (dsimp only; omega))) (kp_1133 3 rfl) (kp_1133 44 rfl) (kp_1133 45 rfl) (kp_1133 47 rfl) (kp_1133 48 rfl) (by omega) (by omega)
                        exact (hp _ _ _ hR_1131 hf_1134 (Or.inr rfl) (by first | omega | (intro h; omega) | exact Or.inl rfl | exact Or.inr rfl) (by first | omega | (intro h; omega) | exact Or.inl rfl | exact Or.inr rfl) (by first | omega | (intro h; omega) | exact Or.inl rfl | exact Or.inr rfl) (by first | omega | (intro h; omega) | exact Or.inl rfl | exact Or.inr rfl) (by first | omega | (intro h; omega) | exact Or.inl rfl | exact Or.inr rfl) (by clear hg; first | (intro h; exfalso; omega) | exact fun _ => k_1146 | exact fun _ => (False.elim (by omega))) k_1145 u_1126 u_1127 hg.symm)
                      · have d_1147 := iEq c_1068
                        have i_1148 := u_1065 (by omega)
                        replace hg := gt_pos (by first | exact d_1147 | omega) hg
                        exact (hp _ _ _ hR_965 hf_966 (Or.inr rfl) (by first | omega | (intro h; omega) | exact Or.inl rfl | exact Or.inr rfl) (by first | omega | (intro h; omega) | exact Or.inl rfl | exact Or.inr rfl) (by first | omega | (intro h; omega) | exact Or.inl rfl | exact Or.inr rfl) (by first | omega | (intro h; omega) | exact Or.inl rfl | exact Or.inr rfl) (by first | omega | (intro h; omega) | exact Or.inl rfl | exact Or.inr rfl) (by clear hg; first | (intro h; exfalso; omega) | exact fun _ => k_978 | exact fun _ => (False.elim (by omega))) k_979 k_980 k_981 hg.symm)
                    · have d_1149 := iEq c_1060
                      replace hg := gt_pos (by first | exact d_1149 | omega) hg
                      refine y_Model_wrongg hok hw ra hz14 hz15 hR_965 (fun I_1154 L_1155 hR_1156 fr_1157 kp_1158 u_1151 u_1152 gn_1153 => ⟨I_1154, L_1155, rfl, rfl, ?_⟩)
                      replace hg := gt_b3 gn_1153 hg
                      clear gn_1153
                      have hf_1159 : Fm (fun c => c = o ∨ (o + 30 ≤ c ∧ c < o + 34)) I0 I_1154 := hf_966.call fr_1157 (fun c hc => by first | exact hc | (dsimp only at hc ⊢; omega) | omega)
                      have t_1160 : (I_1154 o 3).toInt = (I_963 o 3).toInt := by rw [kp_1158 3 rfl]
                      have g_1161 : (0 : Int) ≤ (I_1154 o 4).toInt ∧ (I_1154 o 4).toInt ≤ 5 := hR_1156.at0 ra 4 (by decide)
                      have t_1162 : (I_1154 o 6).toInt = (I_963 o 6).toInt := by rw [kp_1158 6 rfl]
                      have t_1163 : (I_1154 o 7).toInt = (I_963 o 7).toInt := by rw [kp_1158 7 rfl]
                      have t_1164 : (I_1154 o 8).toInt = (I_963 o 8).toInt := by rw [kp_1158 8 rfl]
                      have t_1165 : (I_1154 o 9).toInt = (I_963 o 9).toInt := by rw [kp_1158 9 rfl]
                      have t_1166 : (I_1154 o 44).toInt = (I_963 o 44).toInt := by rw [kp_1158 44 rfl]
                      have t_1167 : (I_1154 o 45).toInt = (I_963 o 45).toInt := by rw [kp_1158 45 rfl]
                      have t_1168 : (I_1154 o 47).toInt = (I_963 o 47).toInt := by rw [kp_1158 47 rfl]
                      have t_1169 : (I_1154 o 48).toInt = (I_963 o 48).toInt := by rw [kp_1158 48 rfl]
                      have t_1170 : (I_1154 o 46).toInt = (I_963 o 46).toInt := by rw [kp_1158 46 rfl]
                      have k_1171 : EX 0 0 0 f0 1 I_1154 o := k_978.fr (fr_1157 _ (by first | omega | (dsimp only; omega))) (fr_1157 _ (by first | omega | (dsimp only; omega))) (fr_1157 _ (by first | omega | (dsimp only; omega))) (fr_1157 _ (by first | omega | (dsimp only; omega))) (fr_1157 _ (by first | omega | (dsimp only; omega))) (kp_1158 3 rfl) (kp_1158 6 rfl) (kp_1158 44 rfl) (kp_1158 45 rfl) (kp_1158 47 rfl) (kp_1158 48 rfl)
                      have k_1172 : MTd I_1154 o := k_979.fr (fr_1157 _ (by first | omega | (dsimp only; omega))) (fr_1157 _ (by first | omega | (dsimp only; omega))) (fr_1157 _ (by first | omega | (dsimp only; omega)))
                      have k_1173 : MPo I_1154 o := k_980.fr (kp_1158 8 rfl) (kp_1158 9 rfl)
                      have k_1174 : MTk I_1154 o := k_981.fr (kp_1158 6 rfl) (kp_1158 7 rfl) (kp_1158 8 rfl)
                      refine y_Model_isGoodg hok hw ra hR_1156 (fun r_1175 u_1176 u_1177 u_1178 gn_1179 => ⟨r_1175, I_1154, L_1155, rfl, rfl, ?_⟩)
                      replace hg := gt_let gn_1179 hg
                      clear gn_1179
                      have b_1180 : 0 ≤ r_1175.toInt ∧ r_1175.toInt ≤ 1 := u_1176.rg
                      refine ⟨fun c_1181 => ?_, fun c_1181 => ?_⟩
                      · have d_1182 := iNe c_1181
                        have i_1183 := u_1177 (by omega)
                        replace hg := gt_neg (by first | exact d_1182 | omega) hg
                        refine y_Model_pileg hok hw ra hz58 (by first | omega | (intro h; omega) | exact Or.inl rfl | exact Or.inr rfl) (by first | omega | (intro h; omega) | exact Or.inl rfl | exact Or.inr rfl) hR_1156 (fun I_1189 L_1190 hR_1191 fr_1192 kp_1193 u_1185 u_1186 u_1187 gn_1188 => ⟨I_1189, L_1190, rfl, rfl, ?_⟩)
                        replace hg := gt_b3 gn_1188 hg
                        clear gn_1188
                        have hf_1194 : Fm (fun c => c = o ∨ (o + 30 ≤ c ∧ c < o + 34)) I0 I_1189 := hf_1159.call fr_1192 (fun c hc => by first | exact hc | (dsimp only at hc ⊢; omega) | omega)
                        have t_1195 : (I_1189 o 3).toInt = (I_1154 o 3).toInt := by rw [kp_1193 3 rfl]
                        have t_1196 : (I_1189 o 4).toInt = (I_1154 o 4).toInt := by rw [kp_1193 4 rfl]
                        have t_1197 : (I_1189 o 6).toInt = (I_1154 o 6).toInt := by rw [kp_1193 6 rfl]
                        have t_1198 : (I_1189 o 7).toInt = (I_1154 o 7).toInt := by rw [kp_1193 7 rfl]
                        have t_1199 : (I_1189 o 8).toInt = (I_1154 o 8).toInt := by rw [kp_1193 8 rfl]
                        have t_1200 : (I_1189 o 9).toInt = (I_1154 o 9).toInt := by rw [kp_1193 9 rfl]
                        have t_1201 : (I_1189 o 44).toInt = (I_1154 o 44).toInt := by rw [kp_1193 44 rfl]
                        have t_1202 : (I_1189 o 45).toInt = (I_1154 o 45).toInt := by rw [kp_1193 45 rfl]
                        have t_1203 : (I_1189 o 47).toInt = (I_1154 o 47).toInt := by rw [kp_1193 47 rfl]
                        have g_1204 : (0 : Int) ≤ (I_1189 o 48).toInt ∧ (I_1189 o 48).toInt ≤ 80 := hR_1191.at0 ra 48 (by decide)
                        have t_1205 : (I_1189 o 46).toInt = (I_1154 o 46).toInt := by rw [kp_1193 46 rfl]
                        have k_1206 : MTd I_1189 o := k_1172.fr (fr_1192 _ (by first | omega | (dsimp only; omega))) (fr_1192 _ (by first | omega | (dsimp only; omega))) (fr_1192 _ (by first | omega | (dsimp only; omega)))
                        have k_1207 : MPo I_1189 o := k_1173.fr (kp_1193 8 rfl) (kp_1193 9 rfl)
                        have k_1208 : MTk I_1189 o := k_1174.fr (kp_1193 6 rfl) (kp_1193 7 rfl) (kp_1193 8 rfl)
                        have k_1209 : EX 0 1 1 f0 1 I_1189 o := by have z := EX.push k_1171 (v := 7) (s := 0) (dB := 1) (dO := 0) (wt' := 1) (by decide) (by decide) (by decide) (by omega) ⟨by decide, by decide⟩ ⟨fun h => absurd h (by decide), fun h => absurd h (by decide)⟩ (Or.inl rfl) (fr_1192 _ (by first | omega | (dsimp only; omega))) (fr_1192 _ (by first | omega | (dsimp only; omega))) (fr_1192 _ (by first | omega | (dsimp only; omega))) u_1185 u_1186 (kp_1193 3 rfl) (kp_1193 6 rfl) (kp_1193 44 rfl) (kp_1193 45 rfl) (kp_1193 47 rfl) u_1187; exact EX.chg (b' := 1) z rfl rfl rfl rfl rfl rfl rfl rfl rfl rfl (by omega) z.pl
                        have g_1210 : (0 : Int) ≤ (I_1189 o 47).toInt ∧ (I_1189 o 47).toInt ≤ 7 := hR_1191.at0 ra 47 (by decide)
                        replace hg := gt_let (y := (I_1189 o 47).toInt) rfl hg
                        have a_1211 : ((I_1189 o 47) + 1).toInt = (I_1189 o 47).toInt + (1 : Int32).toInt := tAdd (by omega) (by omega)
                        replace hg := gt_let (y := (((I_1189 o 47) + 1) : Int32).toInt) (by omega) hg
                        refine fun I_1212 e_1213 => ?_
                        replace hg := gt_let (y := tI I_1212) (tI_q e_1213) hg
                        have hR_1214 : RI R I_1212 := hR_1191.up0 (k := 47) ra (by decide) (Or.inr hz57) e_1213 (show (0 : Int) ≤ ((I_1189 o 47) + 1).toInt by omega) (show ((I_1189 o 47) + 1).toInt ≤ (7 : Int) by omega)
                        have hf_1215 : Fm (fun c => c = o ∨ (o + 30 ≤ c ∧ c < o + 34)) I0 I_1212 := hf_1194.set (by first | rfl | omega | (dsimp only; omega)) e_1213
                        have t_1216 : (I_1212 o 3).toInt = (I_1189 o 3).toInt := by rw [← e_1213, q_u_k (by decide)]
                        have t_1217 : (I_1212 o 4).toInt = (I_1189 o 4).toInt := by rw [← e_1213, q_u_k (by decide)]
                        have t_1218 : (I_1212 o 6).toInt = (I_1189 o 6).toInt := by rw [← e_1213, q_u_k (by decide)]
                        have t_1219 : (I_1212 o 7).toInt = (I_1189 o 7).toInt := by rw [← e_1213, q_u_k (by decide)]
                        have t_1220 : (I_1212 o 8).toInt = (I_1189 o 8).toInt := by rw [← e_1213, q_u_k (by decide)]
                        have t_1221 : (I_1212 o 9).toInt = (I_1189 o 9).toInt := by rw [← e_1213, q_u_k (by decide)]
                        have t_1222 : (I_1212 o 44).toInt = (I_1189 o 44).toInt := by rw [← e_1213, q_u_k (by decide)]
                        have t_1223 : (I_1212 o 45).toInt = (I_1189 o 45).toInt := by rw [← e_1213, q_u_k (by decide)]
                        have t_1224 : (I_1212 o 47).toInt = ((I_1189 o 47) + 1).toInt := by rw [← e_1213, q_u_at]
                        have t_1225 : (I_1212 o 48).toInt = (I_1189 o 48).toInt := by rw [← e_1213, q_u_k (by decide)]
                        have t_1226 : (I_1212 o 46).toInt = (I_1189 o 46).toInt := by rw [← e_1213, q_u_k (by decide)]
                        have k_1227 : MTd I_1212 o := k_1206.fr (by rw [← e_1213]; exact q_u_ne (by omega)) (by rw [← e_1213]; exact q_u_ne (by omega)) (by rw [← e_1213]; exact q_u_ne (by omega))
                        have k_1228 : MPo I_1212 o := k_1207.fr (by rw [← e_1213, q_u_k (by decide)]) (by rw [← e_1213, q_u_k (by decide)])
                        have k_1229 : MTk I_1212 o := k_1208.fr (by rw [← e_1213, q_u_k (by decide)]) (by rw [← e_1213, q_u_k (by decide)]) (by rw [← e_1213, q_u_k (by decide)])
                        have tk := k_1229.2 (by omega)
                        have k_1231 : EX 0 0 1 f0 1 I_1212 o := by exact EX.put47 k_1209 e_1213 (by omega)
                        refine y_Model_nextg hok hw ra hz16 hz17 hz18 hz19 (by first | omega | (intro h; omega) | exact Or.inl rfl | exact Or.inr rfl) hR_1214 (fun I_1242 L_1243 hR_1244 fr_1245 kp_1246 u_1233 u_1234 u_1235 u_1236 u_1237 u_1238 u_1239 u_1240 gn_1241 => ⟨I_1242, L_1243, rfl, rfl, ?_⟩)
                        replace hg := gt_b3 gn_1241 hg
                        clear gn_1241
                        have hf_1247 : Fm (fun c => c = o ∨ (o + 30 ≤ c ∧ c < o + 34)) I0 I_1242 := hf_1215.call fr_1245 (fun c hc => by first | exact hc | (dsimp only at hc ⊢; omega) | omega)
                        have t_1248 : (I_1242 o 3).toInt = (I_1212 o 3).toInt := by rw [kp_1246 3 rfl]
                        have t_1249 : (I_1242 o 4).toInt = (I_1212 o 4).toInt := by rw [kp_1246 4 rfl]
                        have g_1250 : (0 : Int) ≤ (I_1242 o 6).toInt ∧ (I_1242 o 6).toInt ≤ 1600 := hR_1244.at0 ra 6 (by decide)
                        have g_1251 : (0 : Int) ≤ (I_1242 o 7).toInt ∧ (I_1242 o 7).toInt ≤ 1601 := hR_1244.at0 ra 7 (by decide)
                        have g_1252 : (0 : Int) ≤ (I_1242 o 8).toInt ∧ (I_1242 o 8).toInt ≤ 6 := hR_1244.at0 ra 8 (by decide)
                        have t_1253 : (I_1242 o 44).toInt = (I_1212 o 44).toInt := by rw [kp_1246 44 rfl]
                        have t_1254 : (I_1242 o 45).toInt = (I_1212 o 45).toInt := by rw [kp_1246 45 rfl]
                        have t_1255 : (I_1242 o 47).toInt = (I_1212 o 47).toInt := by rw [kp_1246 47 rfl]
                        have t_1256 : (I_1242 o 48).toInt = (I_1212 o 48).toInt := by rw [kp_1246 48 rfl]
                        have t_1257 : (I_1242 o 46).toInt = (I_1212 o 46).toInt := by rw [kp_1246 46 rfl]
                        have k_1258 : MTd I_1242 o := k_1227.fr (fr_1245 _ (by first | omega | (dsimp only; omega))) (fr_1245 _ (by first | omega | (dsimp only; omega))) (fr_1245 _ (by first | omega | (dsimp only; omega)))
                        have ms := u_1236 (by omega)
                        have k_1259 : EX 0 0 0 f0 1 I_1242 o := by exact EX.nx k_1231 (fr_1245 _ (by first | omega | (dsimp only; omega))) (fr_1245 _ (by first | omega | (dsimp only; omega))) (fr_1245 _ (by first | omega | (dsimp only; omega))) (fr_1245 _ (by first | omega | (dsimp only; omega))) (fr_1245 _ (by first | omega | (dsimp only; omega))) (kp_1246 3 rfl) (kp_1246 44 rfl) (kp_1246 45 rfl) (kp_1246 47 rfl) (kp_1246 48 rfl) (by omega) (by omega)
                        exact (hp _ _ _ hR_1244 hf_1247 (Or.inr rfl) (by first | omega | (intro h; omega) | exact Or.inl rfl | exact Or.inr rfl) (by first | omega | (intro h; omega) | exact Or.inl rfl | exact Or.inr rfl) (by first | omega | (intro h; omega) | exact Or.inl rfl | exact Or.inr rfl) (by first | omega | (intro h; omega) | exact Or.inl rfl | exact Or.inr rfl) (by first | omega | (intro h; omega) | exact Or.inl rfl | exact Or.inr rfl) (by clear hg; first | (intro h; exfalso; omega) | exact fun _ => k_1259 | exact fun _ => (False.elim (by omega))) k_1258 u_1239 u_1240 hg.symm)
                      · have d_1260 := iEq c_1181
                        have i_1261 := u_1178 (by omega)
                        replace hg := gt_pos (by first | exact d_1260 | omega) hg
                        exact (hp _ _ _ hR_1156 hf_1159 (Or.inr rfl) (by first | omega | (intro h; omega) | exact Or.inl rfl | exact Or.inr rfl) (by first | omega | (intro h; omega) | exact Or.inl rfl | exact Or.inr rfl) (by first | omega | (intro h; omega) | exact Or.inl rfl | exact Or.inr rfl) (by first | omega | (intro h; omega) | exact Or.inl rfl | exact Or.inr rfl) (by first | omega | (intro h; omega) | exact Or.inl rfl | exact Or.inr rfl) (by clear hg; first | (intro h; exfalso; omega) | exact fun _ => k_1171 | exact fun _ => (False.elim (by omega))) k_1172 k_1173 k_1174 hg.symm)
                · have d_1262 := iEq c_958
                  have i_1263 := u_955 (by omega)
                  replace hg := gt_pos (by first | exact d_1262 | omega) hg
                  exact (hp _ _ _ hR_36 hf_39 (Or.inr rfl) (by first | omega | (intro h; omega) | exact Or.inl rfl | exact Or.inr rfl) (by first | omega | (intro h; omega) | exact Or.inl rfl | exact Or.inr rfl) (by first | omega | (intro h; omega) | exact Or.inl rfl | exact Or.inr rfl) (by first | omega | (intro h; omega) | exact Or.inl rfl | exact Or.inr rfl) (by first | omega | (intro h; omega) | exact Or.inl rfl | exact Or.inr rfl) (by clear hg; first | (intro h; exfalso; omega) | exact fun _ => k_50 | exact fun _ => (False.elim (by omega))) k_51 k_52 k_53 hg.symm)
              · have d_1264 := iEq c_950
                replace hg := gt_pos (by first | exact d_1264 | omega) hg
                unfold fModel_unit_140
                replace hg := (eModel_unit_140).symm.trans hg
                refine y_Model_wrongg hok hw ra hz14 hz15 hR_36 (fun I_1269 L_1270 hR_1271 fr_1272 kp_1273 u_1266 u_1267 gn_1268 => ⟨I_1269, L_1270, rfl, rfl, ?_⟩)
                replace hg := gt_b3 gn_1268 hg
                clear gn_1268
                have hf_1274 : Fm (fun c => c = o ∨ (o + 30 ≤ c ∧ c < o + 34)) I0 I_1269 := hf_39.call fr_1272 (fun c hc => by first | exact hc | (dsimp only at hc ⊢; omega) | omega)
                have t_1275 : (I_1269 o 3).toInt = (I_34 o 3).toInt := by rw [kp_1273 3 rfl]
                have g_1276 : (0 : Int) ≤ (I_1269 o 4).toInt ∧ (I_1269 o 4).toInt ≤ 5 := hR_1271.at0 ra 4 (by decide)
                have t_1277 : (I_1269 o 6).toInt = (I_34 o 6).toInt := by rw [kp_1273 6 rfl]
                have t_1278 : (I_1269 o 7).toInt = (I_34 o 7).toInt := by rw [kp_1273 7 rfl]
                have t_1279 : (I_1269 o 8).toInt = (I_34 o 8).toInt := by rw [kp_1273 8 rfl]
                have t_1280 : (I_1269 o 9).toInt = (I_34 o 9).toInt := by rw [kp_1273 9 rfl]
                have t_1281 : (I_1269 o 44).toInt = (I_34 o 44).toInt := by rw [kp_1273 44 rfl]
                have t_1282 : (I_1269 o 45).toInt = (I_34 o 45).toInt := by rw [kp_1273 45 rfl]
                have t_1283 : (I_1269 o 47).toInt = (I_34 o 47).toInt := by rw [kp_1273 47 rfl]
                have t_1284 : (I_1269 o 48).toInt = (I_34 o 48).toInt := by rw [kp_1273 48 rfl]
                have t_1285 : (I_1269 o 46).toInt = (I_34 o 46).toInt := by rw [kp_1273 46 rfl]
                have k_1286 : EX 0 0 0 f0 1 I_1269 o := k_50.fr (fr_1272 _ (by first | omega | (dsimp only; omega))) (fr_1272 _ (by first | omega | (dsimp only; omega))) (fr_1272 _ (by first | omega | (dsimp only; omega))) (fr_1272 _ (by first | omega | (dsimp only; omega))) (fr_1272 _ (by first | omega | (dsimp only; omega))) (kp_1273 3 rfl) (kp_1273 6 rfl) (kp_1273 44 rfl) (kp_1273 45 rfl) (kp_1273 47 rfl) (kp_1273 48 rfl)
                have k_1287 : MTd I_1269 o := k_51.fr (fr_1272 _ (by first | omega | (dsimp only; omega))) (fr_1272 _ (by first | omega | (dsimp only; omega))) (fr_1272 _ (by first | omega | (dsimp only; omega)))
                have k_1288 : MPo I_1269 o := k_52.fr (kp_1273 8 rfl) (kp_1273 9 rfl)
                have k_1289 : MTk I_1269 o := k_53.fr (kp_1273 6 rfl) (kp_1273 7 rfl) (kp_1273 8 rfl)
                refine y_Model_isGoodg hok hw ra hR_1271 (fun r_1290 u_1291 u_1292 u_1293 gn_1294 => ⟨r_1290, I_1269, L_1270, rfl, rfl, ?_⟩)
                replace hg := gt_let gn_1294 hg
                clear gn_1294
                have b_1295 : 0 ≤ r_1290.toInt ∧ r_1290.toInt ≤ 1 := u_1291.rg
                refine ⟨fun c_1296 => ?_, fun c_1296 => ?_⟩
                · have d_1297 := iNe c_1296
                  have i_1298 := u_1292 (by omega)
                  replace hg := gt_neg (by first | exact d_1297 | omega) hg
                  have g_1299 : (0 : Int) ≤ (I_1269 o 46).toInt ∧ (I_1269 o 46).toInt ≤ 100 := hR_1271.at0 ra 46 (by decide)
                  replace hg := gt_let (y := (I_1269 o 46).toInt) rfl hg
                  have a_1300 : ((I_1269 o 46) + 1).toInt = (I_1269 o 46).toInt + (1 : Int32).toInt := tAdd (by omega) (by omega)
                  replace hg := gt_let (y := (((I_1269 o 46) + 1) : Int32).toInt) (by omega) hg
                  refine fun I_1301 e_1302 => ?_
                  replace hg := gt_let (y := tI I_1301) (tI_q e_1302) hg
                  have hR_1303 : RI R I_1301 := hR_1271.up0 (k := 46) ra (by decide) (Or.inr hz56) e_1302 (show (0 : Int) ≤ ((I_1269 o 46) + 1).toInt by omega) (show ((I_1269 o 46) + 1).toInt ≤ (100 : Int) by omega)
                  have hf_1304 : Fm (fun c => c = o ∨ (o + 30 ≤ c ∧ c < o + 34)) I0 I_1301 := hf_1274.set (by first | rfl | omega | (dsimp only; omega)) e_1302
                  have t_1305 : (I_1301 o 3).toInt = (I_1269 o 3).toInt := by rw [← e_1302, q_u_k (by decide)]
                  have t_1306 : (I_1301 o 4).toInt = (I_1269 o 4).toInt := by rw [← e_1302, q_u_k (by decide)]
                  have t_1307 : (I_1301 o 6).toInt = (I_1269 o 6).toInt := by rw [← e_1302, q_u_k (by decide)]
                  have t_1308 : (I_1301 o 7).toInt = (I_1269 o 7).toInt := by rw [← e_1302, q_u_k (by decide)]
                  have t_1309 : (I_1301 o 8).toInt = (I_1269 o 8).toInt := by rw [← e_1302, q_u_k (by decide)]
                  have t_1310 : (I_1301 o 9).toInt = (I_1269 o 9).toInt := by rw [← e_1302, q_u_k (by decide)]
                  have t_1311 : (I_1301 o 44).toInt = (I_1269 o 44).toInt := by rw [← e_1302, q_u_k (by decide)]
                  have t_1312 : (I_1301 o 45).toInt = (I_1269 o 45).toInt := by rw [← e_1302, q_u_k (by decide)]
                  have t_1313 : (I_1301 o 47).toInt = (I_1269 o 47).toInt := by rw [← e_1302, q_u_k (by decide)]
                  have t_1314 : (I_1301 o 48).toInt = (I_1269 o 48).toInt := by rw [← e_1302, q_u_k (by decide)]
                  have t_1315 : (I_1301 o 46).toInt = ((I_1269 o 46) + 1).toInt := by rw [← e_1302, q_u_at]
                  have k_1316 : EX 0 0 0 f0 1 I_1301 o := k_1286.fr (by rw [← e_1302]; exact q_u_ne (by omega)) (by rw [← e_1302]; exact q_u_ne (by omega)) (by rw [← e_1302]; exact q_u_ne (by omega)) (by rw [← e_1302]; exact q_u_ne (by omega)) (by rw [← e_1302]; exact q_u_ne (by omega)) (by rw [← e_1302, q_u_k (by decide)]) (by rw [← e_1302, q_u_k (by decide)]) (by rw [← e_1302, q_u_k (by decide)]) (by rw [← e_1302, q_u_k (by decide)]) (by rw [← e_1302, q_u_k (by decide)]) (by rw [← e_1302, q_u_k (by decide)])
                  have k_1317 : MTd I_1301 o := k_1287.fr (by rw [← e_1302]; exact q_u_ne (by omega)) (by rw [← e_1302]; exact q_u_ne (by omega)) (by rw [← e_1302]; exact q_u_ne (by omega))
                  have k_1318 : MPo I_1301 o := k_1288.fr (by rw [← e_1302, q_u_k (by decide)]) (by rw [← e_1302, q_u_k (by decide)])
                  have k_1319 : MTk I_1301 o := k_1289.fr (by rw [← e_1302, q_u_k (by decide)]) (by rw [← e_1302, q_u_k (by decide)]) (by rw [← e_1302, q_u_k (by decide)])
                  have l_1320 : (40 : Int32).toInt = 40 := rfl
                  refine y_Model_isg hok hw ra hR_1303 (fun r_1321 u_1322 u_1323 u_1324 gn_1325 => ⟨r_1321, I_1301, L_1270, rfl, rfl, ?_⟩)
                  replace hg := gt_let gn_1325 hg
                  clear gn_1325
                  have b_1326 : 0 ≤ r_1321.toInt ∧ r_1321.toInt ≤ 1 := u_1322.rg
                  refine ⟨fun c_1327 => ?_, fun c_1327 => ?_⟩
                  · have d_1328 := iEq c_1327
                    replace hg := gt_pos (by first | exact d_1328 | omega) hg
                    have cd := k_1316.cod
                    have tk := k_1319.2 (by omega)
                    refine ⟨fun c_1329 => ?_, fun c_1329 => ?_⟩
                    · have d_1330 := iNe c_1329
                      have i_1331 := u_30 (by omega)
                      have i_1332 := u_31 (by omega)
                      exfalso; omega
                    · have d_1333 := iEq c_1329
                      replace hg := gt_pos (by first | exact d_1333 | omega) hg
                      unfold fModel_unit_228
                      replace hg := (eModel_unit_228).symm.trans hg
                      have l_1334 : (78 : Int32).toInt = 78 := rfl
                      refine ⟨fun c_1335 => ?_, fun c_1335 => ?_⟩
                      · have d_1336 := iNe c_1335
                        have i_1337 := u_30 (by omega)
                        have i_1338 := u_31 (by omega)
                        exfalso; omega
                      · have d_1339 := iEq c_1335
                        replace hg := gt_pos (by first | exact d_1339 | omega) hg
                        replace hg := gt_let (y := (I_1301 o 9).toInt) rfl hg
                        refine y_Model_stepg hok hw ra hz55 (by first | omega | (intro h; omega) | exact Or.inl rfl | exact Or.inr rfl) (by first | omega | (intro h; omega) | exact Or.inl rfl | exact Or.inr rfl) hR_1303 (fun I_1344 L_1345 hR_1346 fr_1347 kp_1348 u_1341 u_1342 gn_1343 => ⟨I_1344, L_1345, rfl, rfl, ?_⟩)
                        replace hg := gt_b3 gn_1343 hg
                        clear gn_1343
                        have hf_1349 : Fm (fun c => c = o ∨ (o + 30 ≤ c ∧ c < o + 34)) I0 I_1344 := hf_1304.call fr_1347 (fun c hc => by first | exact hc | (dsimp only at hc ⊢; omega) | omega)
                        have t_1350 : (I_1344 o 3).toInt = (I_1301 o 3).toInt := by rw [kp_1348 3 rfl]
                        have t_1351 : (I_1344 o 4).toInt = (I_1301 o 4).toInt := by rw [kp_1348 4 rfl]
                        have t_1352 : (I_1344 o 6).toInt = (I_1301 o 6).toInt := by rw [kp_1348 6 rfl]
                        have t_1353 : (I_1344 o 7).toInt = (I_1301 o 7).toInt := by rw [kp_1348 7 rfl]
                        have t_1354 : (I_1344 o 8).toInt = (I_1301 o 8).toInt := by rw [kp_1348 8 rfl]
                        have t_1355 : (I_1344 o 9).toInt = (I_1301 o 9).toInt := by rw [kp_1348 9 rfl]
                        have t_1356 : (I_1344 o 44).toInt = (I_1301 o 44).toInt := by rw [kp_1348 44 rfl]
                        have g_1357 : (0 : Int) ≤ (I_1344 o 45).toInt ∧ (I_1344 o 45).toInt ≤ 700 := hR_1346.at0 ra 45 (by decide)
                        have t_1358 : (I_1344 o 47).toInt = (I_1301 o 47).toInt := by rw [kp_1348 47 rfl]
                        have t_1359 : (I_1344 o 48).toInt = (I_1301 o 48).toInt := by rw [kp_1348 48 rfl]
                        have t_1360 : (I_1344 o 46).toInt = (I_1301 o 46).toInt := by rw [kp_1348 46 rfl]
                        have k_1361 : MPo I_1344 o := k_1318.fr (kp_1348 8 rfl) (kp_1348 9 rfl)
                        have k_1362 : MTk I_1344 o := k_1319.fr (kp_1348 6 rfl) (kp_1348 7 rfl) (kp_1348 8 rfl)
                        have tk := k_1362.2 (by omega)
                        have k_1363 : EX 0 0 1 f0 0 I_1344 o := by exact EX.step1 k_1316 (by first | exact u_30 (by omega) | (unfold isT; decide)) (by omega) (fr_1347 _ (by first | omega | (dsimp only; omega))) (fr_1347 _ (by first | omega | (dsimp only; omega))) u_1341 (fr_1347 _ (by first | omega | (dsimp only; omega))) (fr_1347 _ (by first | omega | (dsimp only; omega))) (kp_1348 3 rfl) (kp_1348 6 rfl) (kp_1348 44 rfl) u_1342 (kp_1348 47 rfl) (kp_1348 48 rfl)
                        have k_1364 : MTd I_1344 o := by exact MTd.step k_1317 (fr_1347 _ (by first | omega | (dsimp only; omega))) (fr_1347 _ (by first | omega | (dsimp only; omega))) u_1341 (by omega)
                        refine y_Model_nextg hok hw ra hz16 hz17 hz18 hz19 (by first | omega | (intro h; omega) | exact Or.inl rfl | exact Or.inr rfl) hR_1346 (fun I_1375 L_1376 hR_1377 fr_1378 kp_1379 u_1366 u_1367 u_1368 u_1369 u_1370 u_1371 u_1372 u_1373 gn_1374 => ⟨I_1375, L_1376, rfl, rfl, ?_⟩)
                        replace hg := gt_b3 gn_1374 hg
                        clear gn_1374
                        have hf_1380 : Fm (fun c => c = o ∨ (o + 30 ≤ c ∧ c < o + 34)) I0 I_1375 := hf_1349.call fr_1378 (fun c hc => by first | exact hc | (dsimp only at hc ⊢; omega) | omega)
                        have t_1381 : (I_1375 o 3).toInt = (I_1344 o 3).toInt := by rw [kp_1379 3 rfl]
                        have t_1382 : (I_1375 o 4).toInt = (I_1344 o 4).toInt := by rw [kp_1379 4 rfl]
                        have g_1383 : (0 : Int) ≤ (I_1375 o 6).toInt ∧ (I_1375 o 6).toInt ≤ 1600 := hR_1377.at0 ra 6 (by decide)
                        have g_1384 : (0 : Int) ≤ (I_1375 o 7).toInt ∧ (I_1375 o 7).toInt ≤ 1601 := hR_1377.at0 ra 7 (by decide)
                        have g_1385 : (0 : Int) ≤ (I_1375 o 8).toInt ∧ (I_1375 o 8).toInt ≤ 6 := hR_1377.at0 ra 8 (by decide)
                        have t_1386 : (I_1375 o 44).toInt = (I_1344 o 44).toInt := by rw [kp_1379 44 rfl]
                        have t_1387 : (I_1375 o 45).toInt = (I_1344 o 45).toInt := by rw [kp_1379 45 rfl]
                        have t_1388 : (I_1375 o 47).toInt = (I_1344 o 47).toInt := by rw [kp_1379 47 rfl]
                        have t_1389 : (I_1375 o 48).toInt = (I_1344 o 48).toInt := by rw [kp_1379 48 rfl]
                        have t_1390 : (I_1375 o 46).toInt = (I_1344 o 46).toInt := by rw [kp_1379 46 rfl]
                        have k_1391 : MTd I_1375 o := k_1364.fr (fr_1378 _ (by first | omega | (dsimp only; omega))) (fr_1378 _ (by first | omega | (dsimp only; omega))) (fr_1378 _ (by first | omega | (dsimp only; omega)))
                        have ms := u_1369 (by omega)
                        have k_1392 : EX 0 0 0 f0 0 I_1375 o := by exact EX.nx k_1363 (fr_1378 _ (by first | omega | (dsimp only; omega))) (fr_1378 _ (by first | omega | (dsimp only; omega))) (fr_1378 _ (by first | omega | (dsimp only; omega))) (fr_1378 _ (by first | omega | (dsimp only; omega))) (fr_1378 _ (by first | omega | (dsimp only; omega))) (kp_1379 3 rfl) (kp_1379 44 rfl) (kp_1379 45 rfl) (kp_1379 47 rfl) (kp_1379 48 rfl) (by omega) (by omega)
                        exact (hp _ _ _ hR_1377 hf_1380 (Or.inl rfl) (by first | omega | (intro h; omega) | exact Or.inl rfl | exact Or.inr rfl) (by first | omega | (intro h; omega) | exact Or.inl rfl | exact Or.inr rfl) (by first | omega | (intro h; omega) | exact Or.inl rfl | exact Or.inr rfl) (by first | omega | (intro h; omega) | exact Or.inl rfl | exact Or.inr rfl) (by first | omega | (intro h; omega) | exact Or.inl rfl | exact Or.inr rfl) (by clear hg; first | (intro h; exfalso; omega) | exact fun _ => (False.elim (by omega)) | exact fun _ => k_1392) k_1391 u_1372 u_1373 hg.symm)
                  · have d_1393 := iNe c_1327
                    have i_1394 := u_1323 (by omega)
                    have i_1395 := u_1324 (by omega)
                    replace hg := gt_neg (by first | exact d_1393 | omega) hg
                    have g_1396 : (0 : Int) ≤ (I_1301 o 47).toInt ∧ (I_1301 o 47).toInt ≤ 7 := hR_1303.at0 ra 47 (by decide)
                    replace hg := gt_let (y := (I_1301 o 47).toInt) rfl hg
                    have l_1397 : (7 : Int32).toInt = 7 := rfl
                    refine ⟨fun c_1398 => ?_, fun c_1398 => ?_⟩
                    · have d_1399 := iNe c_1398
                      replace hg := gt_neg (by first | exact d_1399 | omega) hg
                      refine y_Model_isGoodg hok hw ra hR_1303 (fun r_1400 u_1401 u_1402 u_1403 gn_1404 => ⟨r_1400, I_1301, L_1270, rfl, rfl, ?_⟩)
                      replace hg := gt_let gn_1404 hg
                      clear gn_1404
                      have b_1405 : 0 ≤ r_1400.toInt ∧ r_1400.toInt ≤ 1 := u_1401.rg
                      refine ⟨fun c_1406 => ?_, fun c_1406 => ?_⟩
                      · have d_1407 := iNe c_1406
                        have i_1408 := u_1402 (by omega)
                        replace hg := gt_neg (by first | exact d_1407 | omega) hg
                        refine y_Model_pileg hok hw ra hz58 (by first | omega | (intro h; omega) | exact Or.inl rfl | exact Or.inr rfl) (by first | omega | (intro h; omega) | exact Or.inl rfl | exact Or.inr rfl) hR_1303 (fun I_1414 L_1415 hR_1416 fr_1417 kp_1418 u_1410 u_1411 u_1412 gn_1413 => ⟨I_1414, L_1415, rfl, rfl, ?_⟩)
                        replace hg := gt_b3 gn_1413 hg
                        clear gn_1413
                        have hf_1419 : Fm (fun c => c = o ∨ (o + 30 ≤ c ∧ c < o + 34)) I0 I_1414 := hf_1304.call fr_1417 (fun c hc => by first | exact hc | (dsimp only at hc ⊢; omega) | omega)
                        have t_1420 : (I_1414 o 3).toInt = (I_1301 o 3).toInt := by rw [kp_1418 3 rfl]
                        have t_1421 : (I_1414 o 4).toInt = (I_1301 o 4).toInt := by rw [kp_1418 4 rfl]
                        have t_1422 : (I_1414 o 6).toInt = (I_1301 o 6).toInt := by rw [kp_1418 6 rfl]
                        have t_1423 : (I_1414 o 7).toInt = (I_1301 o 7).toInt := by rw [kp_1418 7 rfl]
                        have t_1424 : (I_1414 o 8).toInt = (I_1301 o 8).toInt := by rw [kp_1418 8 rfl]
                        have t_1425 : (I_1414 o 9).toInt = (I_1301 o 9).toInt := by rw [kp_1418 9 rfl]
                        have t_1426 : (I_1414 o 44).toInt = (I_1301 o 44).toInt := by rw [kp_1418 44 rfl]
                        have t_1427 : (I_1414 o 45).toInt = (I_1301 o 45).toInt := by rw [kp_1418 45 rfl]
                        have t_1428 : (I_1414 o 47).toInt = (I_1301 o 47).toInt := by rw [kp_1418 47 rfl]
                        have g_1429 : (0 : Int) ≤ (I_1414 o 48).toInt ∧ (I_1414 o 48).toInt ≤ 80 := hR_1416.at0 ra 48 (by decide)
                        have t_1430 : (I_1414 o 46).toInt = (I_1301 o 46).toInt := by rw [kp_1418 46 rfl]
                        have k_1431 : MTd I_1414 o := k_1317.fr (fr_1417 _ (by first | omega | (dsimp only; omega))) (fr_1417 _ (by first | omega | (dsimp only; omega))) (fr_1417 _ (by first | omega | (dsimp only; omega)))
                        have k_1432 : MPo I_1414 o := k_1318.fr (kp_1418 8 rfl) (kp_1418 9 rfl)
                        have k_1433 : MTk I_1414 o := k_1319.fr (kp_1418 6 rfl) (kp_1418 7 rfl) (kp_1418 8 rfl)
                        have k_1434 : EX 0 1 1 f0 1 I_1414 o := by have z := EX.push k_1316 (v := 7) (s := 0) (dB := 1) (dO := 0) (wt' := 1) (by decide) (by decide) (by decide) (by omega) ⟨by decide, by decide⟩ ⟨fun h => absurd h (by decide), fun h => absurd h (by decide)⟩ (Or.inl rfl) (fr_1417 _ (by first | omega | (dsimp only; omega))) (fr_1417 _ (by first | omega | (dsimp only; omega))) (fr_1417 _ (by first | omega | (dsimp only; omega))) u_1410 u_1411 (kp_1418 3 rfl) (kp_1418 6 rfl) (kp_1418 44 rfl) (kp_1418 45 rfl) (kp_1418 47 rfl) u_1412; exact EX.chg (b' := 1) z rfl rfl rfl rfl rfl rfl rfl rfl rfl rfl (by omega) z.pl
                        have g_1435 : (0 : Int) ≤ (I_1414 o 47).toInt ∧ (I_1414 o 47).toInt ≤ 7 := hR_1416.at0 ra 47 (by decide)
                        replace hg := gt_let (y := (I_1414 o 47).toInt) rfl hg
                        have a_1436 : ((I_1414 o 47) + 1).toInt = (I_1414 o 47).toInt + (1 : Int32).toInt := tAdd (by omega) (by omega)
                        replace hg := gt_let (y := (((I_1414 o 47) + 1) : Int32).toInt) (by omega) hg
                        refine fun I_1437 e_1438 => ?_
                        replace hg := gt_let (y := tI I_1437) (tI_q e_1438) hg
                        have hR_1439 : RI R I_1437 := hR_1416.up0 (k := 47) ra (by decide) (Or.inr hz57) e_1438 (show (0 : Int) ≤ ((I_1414 o 47) + 1).toInt by omega) (show ((I_1414 o 47) + 1).toInt ≤ (7 : Int) by omega)
                        have hf_1440 : Fm (fun c => c = o ∨ (o + 30 ≤ c ∧ c < o + 34)) I0 I_1437 := hf_1419.set (by first | rfl | omega | (dsimp only; omega)) e_1438
                        have t_1441 : (I_1437 o 3).toInt = (I_1414 o 3).toInt := by rw [← e_1438, q_u_k (by decide)]
                        have t_1442 : (I_1437 o 4).toInt = (I_1414 o 4).toInt := by rw [← e_1438, q_u_k (by decide)]
                        have t_1443 : (I_1437 o 6).toInt = (I_1414 o 6).toInt := by rw [← e_1438, q_u_k (by decide)]
                        have t_1444 : (I_1437 o 7).toInt = (I_1414 o 7).toInt := by rw [← e_1438, q_u_k (by decide)]
                        have t_1445 : (I_1437 o 8).toInt = (I_1414 o 8).toInt := by rw [← e_1438, q_u_k (by decide)]
                        have t_1446 : (I_1437 o 9).toInt = (I_1414 o 9).toInt := by rw [← e_1438, q_u_k (by decide)]
                        have t_1447 : (I_1437 o 44).toInt = (I_1414 o 44).toInt := by rw [← e_1438, q_u_k (by decide)]
                        have t_1448 : (I_1437 o 45).toInt = (I_1414 o 45).toInt := by rw [← e_1438, q_u_k (by decide)]
                        have t_1449 : (I_1437 o 47).toInt = ((I_1414 o 47) + 1).toInt := by rw [← e_1438, q_u_at]
                        have t_1450 : (I_1437 o 48).toInt = (I_1414 o 48).toInt := by rw [← e_1438, q_u_k (by decide)]
                        have t_1451 : (I_1437 o 46).toInt = (I_1414 o 46).toInt := by rw [← e_1438, q_u_k (by decide)]
                        have k_1452 : MTd I_1437 o := k_1431.fr (by rw [← e_1438]; exact q_u_ne (by omega)) (by rw [← e_1438]; exact q_u_ne (by omega)) (by rw [← e_1438]; exact q_u_ne (by omega))
                        have k_1453 : MPo I_1437 o := k_1432.fr (by rw [← e_1438, q_u_k (by decide)]) (by rw [← e_1438, q_u_k (by decide)])
                        have k_1454 : MTk I_1437 o := k_1433.fr (by rw [← e_1438, q_u_k (by decide)]) (by rw [← e_1438, q_u_k (by decide)]) (by rw [← e_1438, q_u_k (by decide)])
                        have tk := k_1454.2 (by omega)
                        have k_1456 : EX 0 0 1 f0 1 I_1437 o := by exact EX.put47 k_1434 e_1438 (by omega)
                        refine y_Model_nextg hok hw ra hz16 hz17 hz18 hz19 (by first | omega | (intro h; omega) | exact Or.inl rfl | exact Or.inr rfl) hR_1439 (fun I_1467 L_1468 hR_1469 fr_1470 kp_1471 u_1458 u_1459 u_1460 u_1461 u_1462 u_1463 u_1464 u_1465 gn_1466 => ⟨I_1467, L_1468, rfl, rfl, ?_⟩)
                        replace hg := gt_b3 gn_1466 hg
                        clear gn_1466
                        have hf_1472 : Fm (fun c => c = o ∨ (o + 30 ≤ c ∧ c < o + 34)) I0 I_1467 := hf_1440.call fr_1470 (fun c hc => by first | exact hc | (dsimp only at hc ⊢; omega) | omega)
                        have t_1473 : (I_1467 o 3).toInt = (I_1437 o 3).toInt := by rw [kp_1471 3 rfl]
                        have t_1474 : (I_1467 o 4).toInt = (I_1437 o 4).toInt := by rw [kp_1471 4 rfl]
                        have g_1475 : (0 : Int) ≤ (I_1467 o 6).toInt ∧ (I_1467 o 6).toInt ≤ 1600 := hR_1469.at0 ra 6 (by decide)
                        have g_1476 : (0 : Int) ≤ (I_1467 o 7).toInt ∧ (I_1467 o 7).toInt ≤ 1601 := hR_1469.at0 ra 7 (by decide)
                        have g_1477 : (0 : Int) ≤ (I_1467 o 8).toInt ∧ (I_1467 o 8).toInt ≤ 6 := hR_1469.at0 ra 8 (by decide)
                        have t_1478 : (I_1467 o 44).toInt = (I_1437 o 44).toInt := by rw [kp_1471 44 rfl]
                        have t_1479 : (I_1467 o 45).toInt = (I_1437 o 45).toInt := by rw [kp_1471 45 rfl]
                        have t_1480 : (I_1467 o 47).toInt = (I_1437 o 47).toInt := by rw [kp_1471 47 rfl]
                        have t_1481 : (I_1467 o 48).toInt = (I_1437 o 48).toInt := by rw [kp_1471 48 rfl]
                        have t_1482 : (I_1467 o 46).toInt = (I_1437 o 46).toInt := by rw [kp_1471 46 rfl]
                        have k_1483 : MTd I_1467 o := k_1452.fr (fr_1470 _ (by first | omega | (dsimp only; omega))) (fr_1470 _ (by first | omega | (dsimp only; omega))) (fr_1470 _ (by first | omega | (dsimp only; omega)))
                        have ms := u_1461 (by omega)
                        have k_1484 : EX 0 0 0 f0 1 I_1467 o := by exact EX.nx k_1456 (fr_1470 _ (by first | omega | (dsimp only; omega))) (fr_1470 _ (by first | omega | (dsimp only; omega))) (fr_1470 _ (by first | omega | (dsimp only; omega))) (fr_1470 _ (by first | omega | (dsimp only; omega))) (fr_1470 _ (by first | omega | (dsimp only; omega))) (kp_1471 3 rfl) (kp_1471 44 rfl) (kp_1471 45 rfl) (kp_1471 47 rfl) (kp_1471 48 rfl) (by omega) (by omega)
                        exact (hp _ _ _ hR_1469 hf_1472 (Or.inr rfl) (by first | omega | (intro h; omega) | exact Or.inl rfl | exact Or.inr rfl) (by first | omega | (intro h; omega) | exact Or.inl rfl | exact Or.inr rfl) (by first | omega | (intro h; omega) | exact Or.inl rfl | exact Or.inr rfl) (by first | omega | (intro h; omega) | exact Or.inl rfl | exact Or.inr rfl) (by first | omega | (intro h; omega) | exact Or.inl rfl | exact Or.inr rfl) (by clear hg; first | (intro h; exfalso; omega) | exact fun _ => k_1484 | exact fun _ => (False.elim (by omega))) k_1483 u_1464 u_1465 hg.symm)
                      · have d_1485 := iEq c_1406
                        have i_1486 := u_1403 (by omega)
                        replace hg := gt_pos (by first | exact d_1485 | omega) hg
                        exact (hp _ _ _ hR_1303 hf_1304 (Or.inr rfl) (by first | omega | (intro h; omega) | exact Or.inl rfl | exact Or.inr rfl) (by first | omega | (intro h; omega) | exact Or.inl rfl | exact Or.inr rfl) (by first | omega | (intro h; omega) | exact Or.inl rfl | exact Or.inr rfl) (by first | omega | (intro h; omega) | exact Or.inl rfl | exact Or.inr rfl) (by first | omega | (intro h; omega) | exact Or.inl rfl | exact Or.inr rfl) (by clear hg; first | (intro h; exfalso; omega) | exact fun _ => k_1316 | exact fun _ => (False.elim (by omega))) k_1317 k_1318 k_1319 hg.symm)
                    · have d_1487 := iEq c_1398
                      replace hg := gt_pos (by first | exact d_1487 | omega) hg
                      refine y_Model_wrongg hok hw ra hz14 hz15 hR_1303 (fun I_1492 L_1493 hR_1494 fr_1495 kp_1496 u_1489 u_1490 gn_1491 => ⟨I_1492, L_1493, rfl, rfl, ?_⟩)
                      replace hg := gt_b3 gn_1491 hg
                      clear gn_1491
                      have hf_1497 : Fm (fun c => c = o ∨ (o + 30 ≤ c ∧ c < o + 34)) I0 I_1492 := hf_1304.call fr_1495 (fun c hc => by first | exact hc | (dsimp only at hc ⊢; omega) | omega)
                      have t_1498 : (I_1492 o 3).toInt = (I_1301 o 3).toInt := by rw [kp_1496 3 rfl]
                      have g_1499 : (0 : Int) ≤ (I_1492 o 4).toInt ∧ (I_1492 o 4).toInt ≤ 5 := hR_1494.at0 ra 4 (by decide)
                      have t_1500 : (I_1492 o 6).toInt = (I_1301 o 6).toInt := by rw [kp_1496 6 rfl]
                      have t_1501 : (I_1492 o 7).toInt = (I_1301 o 7).toInt := by rw [kp_1496 7 rfl]
                      have t_1502 : (I_1492 o 8).toInt = (I_1301 o 8).toInt := by rw [kp_1496 8 rfl]
                      have t_1503 : (I_1492 o 9).toInt = (I_1301 o 9).toInt := by rw [kp_1496 9 rfl]
                      have t_1504 : (I_1492 o 44).toInt = (I_1301 o 44).toInt := by rw [kp_1496 44 rfl]
                      have t_1505 : (I_1492 o 45).toInt = (I_1301 o 45).toInt := by rw [kp_1496 45 rfl]
                      have t_1506 : (I_1492 o 47).toInt = (I_1301 o 47).toInt := by rw [kp_1496 47 rfl]
                      have t_1507 : (I_1492 o 48).toInt = (I_1301 o 48).toInt := by rw [kp_1496 48 rfl]
                      have t_1508 : (I_1492 o 46).toInt = (I_1301 o 46).toInt := by rw [kp_1496 46 rfl]
                      have k_1509 : EX 0 0 0 f0 1 I_1492 o := k_1316.fr (fr_1495 _ (by first | omega | (dsimp only; omega))) (fr_1495 _ (by first | omega | (dsimp only; omega))) (fr_1495 _ (by first | omega | (dsimp only; omega))) (fr_1495 _ (by first | omega | (dsimp only; omega))) (fr_1495 _ (by first | omega | (dsimp only; omega))) (kp_1496 3 rfl) (kp_1496 6 rfl) (kp_1496 44 rfl) (kp_1496 45 rfl) (kp_1496 47 rfl) (kp_1496 48 rfl)
                      have k_1510 : MTd I_1492 o := k_1317.fr (fr_1495 _ (by first | omega | (dsimp only; omega))) (fr_1495 _ (by first | omega | (dsimp only; omega))) (fr_1495 _ (by first | omega | (dsimp only; omega)))
                      have k_1511 : MPo I_1492 o := k_1318.fr (kp_1496 8 rfl) (kp_1496 9 rfl)
                      have k_1512 : MTk I_1492 o := k_1319.fr (kp_1496 6 rfl) (kp_1496 7 rfl) (kp_1496 8 rfl)
                      refine y_Model_isGoodg hok hw ra hR_1494 (fun r_1513 u_1514 u_1515 u_1516 gn_1517 => ⟨r_1513, I_1492, L_1493, rfl, rfl, ?_⟩)
                      replace hg := gt_let gn_1517 hg
                      clear gn_1517
                      have b_1518 : 0 ≤ r_1513.toInt ∧ r_1513.toInt ≤ 1 := u_1514.rg
                      refine ⟨fun c_1519 => ?_, fun c_1519 => ?_⟩
                      · have d_1520 := iNe c_1519
                        have i_1521 := u_1515 (by omega)
                        replace hg := gt_neg (by first | exact d_1520 | omega) hg
                        refine y_Model_pileg hok hw ra hz58 (by first | omega | (intro h; omega) | exact Or.inl rfl | exact Or.inr rfl) (by first | omega | (intro h; omega) | exact Or.inl rfl | exact Or.inr rfl) hR_1494 (fun I_1527 L_1528 hR_1529 fr_1530 kp_1531 u_1523 u_1524 u_1525 gn_1526 => ⟨I_1527, L_1528, rfl, rfl, ?_⟩)
                        replace hg := gt_b3 gn_1526 hg
                        clear gn_1526
                        have hf_1532 : Fm (fun c => c = o ∨ (o + 30 ≤ c ∧ c < o + 34)) I0 I_1527 := hf_1497.call fr_1530 (fun c hc => by first | exact hc | (dsimp only at hc ⊢; omega) | omega)
                        have t_1533 : (I_1527 o 3).toInt = (I_1492 o 3).toInt := by rw [kp_1531 3 rfl]
                        have t_1534 : (I_1527 o 4).toInt = (I_1492 o 4).toInt := by rw [kp_1531 4 rfl]
                        have t_1535 : (I_1527 o 6).toInt = (I_1492 o 6).toInt := by rw [kp_1531 6 rfl]
                        have t_1536 : (I_1527 o 7).toInt = (I_1492 o 7).toInt := by rw [kp_1531 7 rfl]
                        have t_1537 : (I_1527 o 8).toInt = (I_1492 o 8).toInt := by rw [kp_1531 8 rfl]
                        have t_1538 : (I_1527 o 9).toInt = (I_1492 o 9).toInt := by rw [kp_1531 9 rfl]
                        have t_1539 : (I_1527 o 44).toInt = (I_1492 o 44).toInt := by rw [kp_1531 44 rfl]
                        have t_1540 : (I_1527 o 45).toInt = (I_1492 o 45).toInt := by rw [kp_1531 45 rfl]
                        have t_1541 : (I_1527 o 47).toInt = (I_1492 o 47).toInt := by rw [kp_1531 47 rfl]
                        have g_1542 : (0 : Int) ≤ (I_1527 o 48).toInt ∧ (I_1527 o 48).toInt ≤ 80 := hR_1529.at0 ra 48 (by decide)
                        have t_1543 : (I_1527 o 46).toInt = (I_1492 o 46).toInt := by rw [kp_1531 46 rfl]
                        have k_1544 : MTd I_1527 o := k_1510.fr (fr_1530 _ (by first | omega | (dsimp only; omega))) (fr_1530 _ (by first | omega | (dsimp only; omega))) (fr_1530 _ (by first | omega | (dsimp only; omega)))
                        have k_1545 : MPo I_1527 o := k_1511.fr (kp_1531 8 rfl) (kp_1531 9 rfl)
                        have k_1546 : MTk I_1527 o := k_1512.fr (kp_1531 6 rfl) (kp_1531 7 rfl) (kp_1531 8 rfl)
                        have k_1547 : EX 0 1 1 f0 1 I_1527 o := by have z := EX.push k_1509 (v := 7) (s := 0) (dB := 1) (dO := 0) (wt' := 1) (by decide) (by decide) (by decide) (by omega) ⟨by decide, by decide⟩ ⟨fun h => absurd h (by decide), fun h => absurd h (by decide)⟩ (Or.inl rfl) (fr_1530 _ (by first | omega | (dsimp only; omega))) (fr_1530 _ (by first | omega | (dsimp only; omega))) (fr_1530 _ (by first | omega | (dsimp only; omega))) u_1523 u_1524 (kp_1531 3 rfl) (kp_1531 6 rfl) (kp_1531 44 rfl) (kp_1531 45 rfl) (kp_1531 47 rfl) u_1525; exact EX.chg (b' := 1) z rfl rfl rfl rfl rfl rfl rfl rfl rfl rfl (by omega) z.pl
                        have g_1548 : (0 : Int) ≤ (I_1527 o 47).toInt ∧ (I_1527 o 47).toInt ≤ 7 := hR_1529.at0 ra 47 (by decide)
                        replace hg := gt_let (y := (I_1527 o 47).toInt) rfl hg
                        have a_1549 : ((I_1527 o 47) + 1).toInt = (I_1527 o 47).toInt + (1 : Int32).toInt := tAdd (by omega) (by omega)
                        replace hg := gt_let (y := (((I_1527 o 47) + 1) : Int32).toInt) (by omega) hg
                        refine fun I_1550 e_1551 => ?_
                        replace hg := gt_let (y := tI I_1550) (tI_q e_1551) hg
                        have hR_1552 : RI R I_1550 := hR_1529.up0 (k := 47) ra (by decide) (Or.inr hz57) e_1551 (show (0 : Int) ≤ ((I_1527 o 47) + 1).toInt by omega) (show ((I_1527 o 47) + 1).toInt ≤ (7 : Int) by omega)
                        have hf_1553 : Fm (fun c => c = o ∨ (o + 30 ≤ c ∧ c < o + 34)) I0 I_1550 := hf_1532.set (by first | rfl | omega | (dsimp only; omega)) e_1551
                        have t_1554 : (I_1550 o 3).toInt = (I_1527 o 3).toInt := by rw [← e_1551, q_u_k (by decide)]
                        have t_1555 : (I_1550 o 4).toInt = (I_1527 o 4).toInt := by rw [← e_1551, q_u_k (by decide)]
                        have t_1556 : (I_1550 o 6).toInt = (I_1527 o 6).toInt := by rw [← e_1551, q_u_k (by decide)]
                        have t_1557 : (I_1550 o 7).toInt = (I_1527 o 7).toInt := by rw [← e_1551, q_u_k (by decide)]
                        have t_1558 : (I_1550 o 8).toInt = (I_1527 o 8).toInt := by rw [← e_1551, q_u_k (by decide)]
                        have t_1559 : (I_1550 o 9).toInt = (I_1527 o 9).toInt := by rw [← e_1551, q_u_k (by decide)]
                        have t_1560 : (I_1550 o 44).toInt = (I_1527 o 44).toInt := by rw [← e_1551, q_u_k (by decide)]
                        have t_1561 : (I_1550 o 45).toInt = (I_1527 o 45).toInt := by rw [← e_1551, q_u_k (by decide)]
                        have t_1562 : (I_1550 o 47).toInt = ((I_1527 o 47) + 1).toInt := by rw [← e_1551, q_u_at]
                        have t_1563 : (I_1550 o 48).toInt = (I_1527 o 48).toInt := by rw [← e_1551, q_u_k (by decide)]
                        have t_1564 : (I_1550 o 46).toInt = (I_1527 o 46).toInt := by rw [← e_1551, q_u_k (by decide)]
                        have k_1565 : MTd I_1550 o := k_1544.fr (by rw [← e_1551]; exact q_u_ne (by omega)) (by rw [← e_1551]; exact q_u_ne (by omega)) (by rw [← e_1551]; exact q_u_ne (by omega))
                        have k_1566 : MPo I_1550 o := k_1545.fr (by rw [← e_1551, q_u_k (by decide)]) (by rw [← e_1551, q_u_k (by decide)])
                        have k_1567 : MTk I_1550 o := k_1546.fr (by rw [← e_1551, q_u_k (by decide)]) (by rw [← e_1551, q_u_k (by decide)]) (by rw [← e_1551, q_u_k (by decide)])
                        have tk := k_1567.2 (by omega)
                        have k_1569 : EX 0 0 1 f0 1 I_1550 o := by exact EX.put47 k_1547 e_1551 (by omega)
                        refine y_Model_nextg hok hw ra hz16 hz17 hz18 hz19 (by first | omega | (intro h; omega) | exact Or.inl rfl | exact Or.inr rfl) hR_1552 (fun I_1580 L_1581 hR_1582 fr_1583 kp_1584 u_1571 u_1572 u_1573 u_1574 u_1575 u_1576 u_1577 u_1578 gn_1579 => ⟨I_1580, L_1581, rfl, rfl, ?_⟩)
                        replace hg := gt_b3 gn_1579 hg
                        clear gn_1579
                        have hf_1585 : Fm (fun c => c = o ∨ (o + 30 ≤ c ∧ c < o + 34)) I0 I_1580 := hf_1553.call fr_1583 (fun c hc => by first | exact hc | (dsimp only at hc ⊢; omega) | omega)
                        have t_1586 : (I_1580 o 3).toInt = (I_1550 o 3).toInt := by rw [kp_1584 3 rfl]
                        have t_1587 : (I_1580 o 4).toInt = (I_1550 o 4).toInt := by rw [kp_1584 4 rfl]
                        have g_1588 : (0 : Int) ≤ (I_1580 o 6).toInt ∧ (I_1580 o 6).toInt ≤ 1600 := hR_1582.at0 ra 6 (by decide)
                        have g_1589 : (0 : Int) ≤ (I_1580 o 7).toInt ∧ (I_1580 o 7).toInt ≤ 1601 := hR_1582.at0 ra 7 (by decide)
                        have g_1590 : (0 : Int) ≤ (I_1580 o 8).toInt ∧ (I_1580 o 8).toInt ≤ 6 := hR_1582.at0 ra 8 (by decide)
                        have t_1591 : (I_1580 o 44).toInt = (I_1550 o 44).toInt := by rw [kp_1584 44 rfl]
                        have t_1592 : (I_1580 o 45).toInt = (I_1550 o 45).toInt := by rw [kp_1584 45 rfl]
                        have t_1593 : (I_1580 o 47).toInt = (I_1550 o 47).toInt := by rw [kp_1584 47 rfl]
                        have t_1594 : (I_1580 o 48).toInt = (I_1550 o 48).toInt := by rw [kp_1584 48 rfl]
                        have t_1595 : (I_1580 o 46).toInt = (I_1550 o 46).toInt := by rw [kp_1584 46 rfl]
                        have k_1596 : MTd I_1580 o := k_1565.fr (fr_1583 _ (by first | omega | (dsimp only; omega))) (fr_1583 _ (by first | omega | (dsimp only; omega))) (fr_1583 _ (by first | omega | (dsimp only; omega)))
                        have ms := u_1574 (by omega)
                        have k_1597 : EX 0 0 0 f0 1 I_1580 o := by exact EX.nx k_1569 (fr_1583 _ (by first | omega | (dsimp only; omega))) (fr_1583 _ (by first | omega | (dsimp only; omega))) (fr_1583 _ (by first | omega | (dsimp only; omega))) (fr_1583 _ (by first | omega | (dsimp only; omega))) (fr_1583 _ (by first | omega | (dsimp only; omega))) (kp_1584 3 rfl) (kp_1584 44 rfl) (kp_1584 45 rfl) (kp_1584 47 rfl) (kp_1584 48 rfl) (by omega) (by omega)
                        exact (hp _ _ _ hR_1582 hf_1585 (Or.inr rfl) (by first | omega | (intro h; omega) | exact Or.inl rfl | exact Or.inr rfl) (by first | omega | (intro h; omega) | exact Or.inl rfl | exact Or.inr rfl) (by first | omega | (intro h; omega) | exact Or.inl rfl | exact Or.inr rfl) (by first | omega | (intro h; omega) | exact Or.inl rfl | exact Or.inr rfl) (by first | omega | (intro h; omega) | exact Or.inl rfl | exact Or.inr rfl) (by clear hg; first | (intro h; exfalso; omega) | exact fun _ => k_1597 | exact fun _ => (False.elim (by omega))) k_1596 u_1577 u_1578 hg.symm)
                      · have d_1598 := iEq c_1519
                        have i_1599 := u_1516 (by omega)
                        replace hg := gt_pos (by first | exact d_1598 | omega) hg
                        exact (hp _ _ _ hR_1494 hf_1497 (Or.inr rfl) (by first | omega | (intro h; omega) | exact Or.inl rfl | exact Or.inr rfl) (by first | omega | (intro h; omega) | exact Or.inl rfl | exact Or.inr rfl) (by first | omega | (intro h; omega) | exact Or.inl rfl | exact Or.inr rfl) (by first | omega | (intro h; omega) | exact Or.inl rfl | exact Or.inr rfl) (by first | omega | (intro h; omega) | exact Or.inl rfl | exact Or.inr rfl) (by clear hg; first | (intro h; exfalso; omega) | exact fun _ => k_1509 | exact fun _ => (False.elim (by omega))) k_1510 k_1511 k_1512 hg.symm)
                · have d_1600 := iEq c_1296
                  have i_1601 := u_1293 (by omega)
                  replace hg := gt_pos (by first | exact d_1600 | omega) hg
                  exact (hp _ _ _ hR_1271 hf_1274 (Or.inr rfl) (by first | omega | (intro h; omega) | exact Or.inl rfl | exact Or.inr rfl) (by first | omega | (intro h; omega) | exact Or.inl rfl | exact Or.inr rfl) (by first | omega | (intro h; omega) | exact Or.inl rfl | exact Or.inr rfl) (by first | omega | (intro h; omega) | exact Or.inl rfl | exact Or.inr rfl) (by first | omega | (intro h; omega) | exact Or.inl rfl | exact Or.inr rfl) (by clear hg; first | (intro h; exfalso; omega) | exact fun _ => k_1286 | exact fun _ => (False.elim (by omega))) k_1287 k_1288 k_1289 hg.symm)
            · have d_1602 := iNe c_946
              replace hg := gt_neg (by first | exact d_1602 | omega) hg
              have l_1603 : (40 : Int32).toInt = 40 := rfl
              refine y_Model_isg hok hw ra hR_36 (fun r_1604 u_1605 u_1606 u_1607 gn_1608 => ⟨r_1604, I_34, L_35, rfl, rfl, ?_⟩)
              replace hg := gt_let gn_1608 hg
              clear gn_1608
              have b_1609 : 0 ≤ r_1604.toInt ∧ r_1604.toInt ≤ 1 := u_1605.rg
              refine ⟨fun c_1610 => ?_, fun c_1610 => ?_⟩
              · have d_1611 := iEq c_1610
                replace hg := gt_pos (by first | exact d_1611 | omega) hg
                unfold fModel_unit_140
                replace hg := (eModel_unit_140).symm.trans hg
                refine y_Model_wrongg hok hw ra hz14 hz15 hR_36 (fun I_1616 L_1617 hR_1618 fr_1619 kp_1620 u_1613 u_1614 gn_1615 => ⟨I_1616, L_1617, rfl, rfl, ?_⟩)
                replace hg := gt_b3 gn_1615 hg
                clear gn_1615
                have hf_1621 : Fm (fun c => c = o ∨ (o + 30 ≤ c ∧ c < o + 34)) I0 I_1616 := hf_39.call fr_1619 (fun c hc => by first | exact hc | (dsimp only at hc ⊢; omega) | omega)
                have t_1622 : (I_1616 o 3).toInt = (I_34 o 3).toInt := by rw [kp_1620 3 rfl]
                have g_1623 : (0 : Int) ≤ (I_1616 o 4).toInt ∧ (I_1616 o 4).toInt ≤ 5 := hR_1618.at0 ra 4 (by decide)
                have t_1624 : (I_1616 o 6).toInt = (I_34 o 6).toInt := by rw [kp_1620 6 rfl]
                have t_1625 : (I_1616 o 7).toInt = (I_34 o 7).toInt := by rw [kp_1620 7 rfl]
                have t_1626 : (I_1616 o 8).toInt = (I_34 o 8).toInt := by rw [kp_1620 8 rfl]
                have t_1627 : (I_1616 o 9).toInt = (I_34 o 9).toInt := by rw [kp_1620 9 rfl]
                have t_1628 : (I_1616 o 44).toInt = (I_34 o 44).toInt := by rw [kp_1620 44 rfl]
                have t_1629 : (I_1616 o 45).toInt = (I_34 o 45).toInt := by rw [kp_1620 45 rfl]
                have t_1630 : (I_1616 o 47).toInt = (I_34 o 47).toInt := by rw [kp_1620 47 rfl]
                have t_1631 : (I_1616 o 48).toInt = (I_34 o 48).toInt := by rw [kp_1620 48 rfl]
                have k_1632 : EX 0 0 0 f0 1 I_1616 o := k_50.fr (fr_1619 _ (by first | omega | (dsimp only; omega))) (fr_1619 _ (by first | omega | (dsimp only; omega))) (fr_1619 _ (by first | omega | (dsimp only; omega))) (fr_1619 _ (by first | omega | (dsimp only; omega))) (fr_1619 _ (by first | omega | (dsimp only; omega))) (kp_1620 3 rfl) (kp_1620 6 rfl) (kp_1620 44 rfl) (kp_1620 45 rfl) (kp_1620 47 rfl) (kp_1620 48 rfl)
                have k_1633 : MTd I_1616 o := k_51.fr (fr_1619 _ (by first | omega | (dsimp only; omega))) (fr_1619 _ (by first | omega | (dsimp only; omega))) (fr_1619 _ (by first | omega | (dsimp only; omega)))
                have k_1634 : MPo I_1616 o := k_52.fr (kp_1620 8 rfl) (kp_1620 9 rfl)
                have k_1635 : MTk I_1616 o := k_53.fr (kp_1620 6 rfl) (kp_1620 7 rfl) (kp_1620 8 rfl)
                refine y_Model_isGoodg hok hw ra hR_1618 (fun r_1636 u_1637 u_1638 u_1639 gn_1640 => ⟨r_1636, I_1616, L_1617, rfl, rfl, ?_⟩)
                replace hg := gt_let gn_1640 hg
                clear gn_1640
                have b_1641 : 0 ≤ r_1636.toInt ∧ r_1636.toInt ≤ 1 := u_1637.rg
                refine ⟨fun c_1642 => ?_, fun c_1642 => ?_⟩
                · have d_1643 := iNe c_1642
                  have i_1644 := u_1638 (by omega)
                  replace hg := gt_neg (by first | exact d_1643 | omega) hg
                  have g_1645 : (0 : Int) ≤ (I_1616 o 46).toInt ∧ (I_1616 o 46).toInt ≤ 100 := hR_1618.at0 ra 46 (by decide)
                  replace hg := gt_let (y := (I_1616 o 46).toInt) rfl hg
                  have a_1646 : ((I_1616 o 46) + 1).toInt = (I_1616 o 46).toInt + (1 : Int32).toInt := tAdd (by omega) (by omega)
                  replace hg := gt_let (y := (((I_1616 o 46) + 1) : Int32).toInt) (by omega) hg
                  refine fun I_1647 e_1648 => ?_
                  replace hg := gt_let (y := tI I_1647) (tI_q e_1648) hg
                  have hR_1649 : RI R I_1647 := hR_1618.up0 (k := 46) ra (by decide) (Or.inr hz56) e_1648 (show (0 : Int) ≤ ((I_1616 o 46) + 1).toInt by omega) (show ((I_1616 o 46) + 1).toInt ≤ (100 : Int) by omega)
                  have hf_1650 : Fm (fun c => c = o ∨ (o + 30 ≤ c ∧ c < o + 34)) I0 I_1647 := hf_1621.set (by first | rfl | omega | (dsimp only; omega)) e_1648
                  have t_1651 : (I_1647 o 3).toInt = (I_1616 o 3).toInt := by rw [← e_1648, q_u_k (by decide)]
                  have t_1652 : (I_1647 o 4).toInt = (I_1616 o 4).toInt := by rw [← e_1648, q_u_k (by decide)]
                  have t_1653 : (I_1647 o 6).toInt = (I_1616 o 6).toInt := by rw [← e_1648, q_u_k (by decide)]
                  have t_1654 : (I_1647 o 7).toInt = (I_1616 o 7).toInt := by rw [← e_1648, q_u_k (by decide)]
                  have t_1655 : (I_1647 o 8).toInt = (I_1616 o 8).toInt := by rw [← e_1648, q_u_k (by decide)]
                  have t_1656 : (I_1647 o 9).toInt = (I_1616 o 9).toInt := by rw [← e_1648, q_u_k (by decide)]
                  have t_1657 : (I_1647 o 44).toInt = (I_1616 o 44).toInt := by rw [← e_1648, q_u_k (by decide)]
                  have t_1658 : (I_1647 o 45).toInt = (I_1616 o 45).toInt := by rw [← e_1648, q_u_k (by decide)]
                  have t_1659 : (I_1647 o 47).toInt = (I_1616 o 47).toInt := by rw [← e_1648, q_u_k (by decide)]
                  have t_1660 : (I_1647 o 48).toInt = (I_1616 o 48).toInt := by rw [← e_1648, q_u_k (by decide)]
                  have t_1661 : (I_1647 o 46).toInt = ((I_1616 o 46) + 1).toInt := by rw [← e_1648, q_u_at]
                  have k_1662 : EX 0 0 0 f0 1 I_1647 o := k_1632.fr (by rw [← e_1648]; exact q_u_ne (by omega)) (by rw [← e_1648]; exact q_u_ne (by omega)) (by rw [← e_1648]; exact q_u_ne (by omega)) (by rw [← e_1648]; exact q_u_ne (by omega)) (by rw [← e_1648]; exact q_u_ne (by omega)) (by rw [← e_1648, q_u_k (by decide)]) (by rw [← e_1648, q_u_k (by decide)]) (by rw [← e_1648, q_u_k (by decide)]) (by rw [← e_1648, q_u_k (by decide)]) (by rw [← e_1648, q_u_k (by decide)]) (by rw [← e_1648, q_u_k (by decide)])
                  have k_1663 : MTd I_1647 o := k_1633.fr (by rw [← e_1648]; exact q_u_ne (by omega)) (by rw [← e_1648]; exact q_u_ne (by omega)) (by rw [← e_1648]; exact q_u_ne (by omega))
                  have k_1664 : MPo I_1647 o := k_1634.fr (by rw [← e_1648, q_u_k (by decide)]) (by rw [← e_1648, q_u_k (by decide)])
                  have k_1665 : MTk I_1647 o := k_1635.fr (by rw [← e_1648, q_u_k (by decide)]) (by rw [← e_1648, q_u_k (by decide)]) (by rw [← e_1648, q_u_k (by decide)])
                  refine y_Model_isg hok hw ra hR_1649 (fun r_1666 u_1667 u_1668 u_1669 gn_1670 => ⟨r_1666, I_1647, L_1617, rfl, rfl, ?_⟩)
                  replace hg := gt_let gn_1670 hg
                  clear gn_1670
                  have b_1671 : 0 ≤ r_1666.toInt ∧ r_1666.toInt ≤ 1 := u_1667.rg
                  refine ⟨fun c_1672 => ?_, fun c_1672 => ?_⟩
                  · have d_1673 := iEq c_1672
                    replace hg := gt_pos (by first | exact d_1673 | omega) hg
                    have cd := k_1662.cod
                    have tk := k_1665.2 (by omega)
                    refine ⟨fun c_1674 => ?_, fun c_1674 => ?_⟩
                    · have d_1675 := iNe c_1674
                      have i_1676 := u_30 (by omega)
                      have i_1677 := u_31 (by omega)
                      exfalso; omega
                    · have d_1678 := iEq c_1674
                      replace hg := gt_pos (by first | exact d_1678 | omega) hg
                      unfold fModel_unit_228
                      replace hg := (eModel_unit_228).symm.trans hg
                      have l_1679 : (78 : Int32).toInt = 78 := rfl
                      refine ⟨fun c_1680 => ?_, fun c_1680 => ?_⟩
                      · have d_1681 := iNe c_1680
                        have i_1682 := u_30 (by omega)
                        have i_1683 := u_31 (by omega)
                        exfalso; omega
                      · have d_1684 := iEq c_1680
                        replace hg := gt_pos (by first | exact d_1684 | omega) hg
                        replace hg := gt_let (y := (I_1647 o 9).toInt) rfl hg
                        refine y_Model_stepg hok hw ra hz55 (by first | omega | (intro h; omega) | exact Or.inl rfl | exact Or.inr rfl) (by first | omega | (intro h; omega) | exact Or.inl rfl | exact Or.inr rfl) hR_1649 (fun I_1689 L_1690 hR_1691 fr_1692 kp_1693 u_1686 u_1687 gn_1688 => ⟨I_1689, L_1690, rfl, rfl, ?_⟩)
                        replace hg := gt_b3 gn_1688 hg
                        clear gn_1688
                        have hf_1694 : Fm (fun c => c = o ∨ (o + 30 ≤ c ∧ c < o + 34)) I0 I_1689 := hf_1650.call fr_1692 (fun c hc => by first | exact hc | (dsimp only at hc ⊢; omega) | omega)
                        have t_1695 : (I_1689 o 3).toInt = (I_1647 o 3).toInt := by rw [kp_1693 3 rfl]
                        have t_1696 : (I_1689 o 4).toInt = (I_1647 o 4).toInt := by rw [kp_1693 4 rfl]
                        have t_1697 : (I_1689 o 6).toInt = (I_1647 o 6).toInt := by rw [kp_1693 6 rfl]
                        have t_1698 : (I_1689 o 7).toInt = (I_1647 o 7).toInt := by rw [kp_1693 7 rfl]
                        have t_1699 : (I_1689 o 8).toInt = (I_1647 o 8).toInt := by rw [kp_1693 8 rfl]
                        have t_1700 : (I_1689 o 9).toInt = (I_1647 o 9).toInt := by rw [kp_1693 9 rfl]
                        have t_1701 : (I_1689 o 44).toInt = (I_1647 o 44).toInt := by rw [kp_1693 44 rfl]
                        have g_1702 : (0 : Int) ≤ (I_1689 o 45).toInt ∧ (I_1689 o 45).toInt ≤ 700 := hR_1691.at0 ra 45 (by decide)
                        have t_1703 : (I_1689 o 47).toInt = (I_1647 o 47).toInt := by rw [kp_1693 47 rfl]
                        have t_1704 : (I_1689 o 48).toInt = (I_1647 o 48).toInt := by rw [kp_1693 48 rfl]
                        have t_1705 : (I_1689 o 46).toInt = (I_1647 o 46).toInt := by rw [kp_1693 46 rfl]
                        have k_1706 : MPo I_1689 o := k_1664.fr (kp_1693 8 rfl) (kp_1693 9 rfl)
                        have k_1707 : MTk I_1689 o := k_1665.fr (kp_1693 6 rfl) (kp_1693 7 rfl) (kp_1693 8 rfl)
                        have tk := k_1707.2 (by omega)
                        have k_1708 : EX 0 0 1 f0 0 I_1689 o := by exact EX.step1 k_1662 (by first | exact u_30 (by omega) | (unfold isT; decide)) (by omega) (fr_1692 _ (by first | omega | (dsimp only; omega))) (fr_1692 _ (by first | omega | (dsimp only; omega))) u_1686 (fr_1692 _ (by first | omega | (dsimp only; omega))) (fr_1692 _ (by first | omega | (dsimp only; omega))) (kp_1693 3 rfl) (kp_1693 6 rfl) (kp_1693 44 rfl) u_1687 (kp_1693 47 rfl) (kp_1693 48 rfl)
                        have k_1709 : MTd I_1689 o := by exact MTd.step k_1663 (fr_1692 _ (by first | omega | (dsimp only; omega))) (fr_1692 _ (by first | omega | (dsimp only; omega))) u_1686 (by omega)
                        refine y_Model_nextg hok hw ra hz16 hz17 hz18 hz19 (by first | omega | (intro h; omega) | exact Or.inl rfl | exact Or.inr rfl) hR_1691 (fun I_1720 L_1721 hR_1722 fr_1723 kp_1724 u_1711 u_1712 u_1713 u_1714 u_1715 u_1716 u_1717 u_1718 gn_1719 => ⟨I_1720, L_1721, rfl, rfl, ?_⟩)
                        replace hg := gt_b3 gn_1719 hg
                        clear gn_1719
                        have hf_1725 : Fm (fun c => c = o ∨ (o + 30 ≤ c ∧ c < o + 34)) I0 I_1720 := hf_1694.call fr_1723 (fun c hc => by first | exact hc | (dsimp only at hc ⊢; omega) | omega)
                        have t_1726 : (I_1720 o 3).toInt = (I_1689 o 3).toInt := by rw [kp_1724 3 rfl]
                        have t_1727 : (I_1720 o 4).toInt = (I_1689 o 4).toInt := by rw [kp_1724 4 rfl]
                        have g_1728 : (0 : Int) ≤ (I_1720 o 6).toInt ∧ (I_1720 o 6).toInt ≤ 1600 := hR_1722.at0 ra 6 (by decide)
                        have g_1729 : (0 : Int) ≤ (I_1720 o 7).toInt ∧ (I_1720 o 7).toInt ≤ 1601 := hR_1722.at0 ra 7 (by decide)
                        have g_1730 : (0 : Int) ≤ (I_1720 o 8).toInt ∧ (I_1720 o 8).toInt ≤ 6 := hR_1722.at0 ra 8 (by decide)
                        have t_1731 : (I_1720 o 44).toInt = (I_1689 o 44).toInt := by rw [kp_1724 44 rfl]
                        have t_1732 : (I_1720 o 45).toInt = (I_1689 o 45).toInt := by rw [kp_1724 45 rfl]
                        have t_1733 : (I_1720 o 47).toInt = (I_1689 o 47).toInt := by rw [kp_1724 47 rfl]
                        have t_1734 : (I_1720 o 48).toInt = (I_1689 o 48).toInt := by rw [kp_1724 48 rfl]
                        have t_1735 : (I_1720 o 46).toInt = (I_1689 o 46).toInt := by rw [kp_1724 46 rfl]
                        have k_1736 : MTd I_1720 o := k_1709.fr (fr_1723 _ (by first | omega | (dsimp only; omega))) (fr_1723 _ (by first | omega | (dsimp only; omega))) (fr_1723 _ (by first | omega | (dsimp only; omega)))
                        have ms := u_1714 (by omega)
                        have k_1737 : EX 0 0 0 f0 0 I_1720 o := by exact EX.nx k_1708 (fr_1723 _ (by first | omega | (dsimp only; omega))) (fr_1723 _ (by first | omega | (dsimp only; omega))) (fr_1723 _ (by first | omega | (dsimp only; omega))) (fr_1723 _ (by first | omega | (dsimp only; omega))) (fr_1723 _ (by first | omega | (dsimp only; omega))) (kp_1724 3 rfl) (kp_1724 44 rfl) (kp_1724 45 rfl) (kp_1724 47 rfl) (kp_1724 48 rfl) (by omega) (by omega)
                        exact (hp _ _ _ hR_1722 hf_1725 (Or.inl rfl) (by first | omega | (intro h; omega) | exact Or.inl rfl | exact Or.inr rfl) (by first | omega | (intro h; omega) | exact Or.inl rfl | exact Or.inr rfl) (by first | omega | (intro h; omega) | exact Or.inl rfl | exact Or.inr rfl) (by first | omega | (intro h; omega) | exact Or.inl rfl | exact Or.inr rfl) (by first | omega | (intro h; omega) | exact Or.inl rfl | exact Or.inr rfl) (by clear hg; first | (intro h; exfalso; omega) | exact fun _ => (False.elim (by omega)) | exact fun _ => k_1737) k_1736 u_1717 u_1718 hg.symm)
                  · have d_1738 := iNe c_1672
                    have i_1739 := u_1668 (by omega)
                    have i_1740 := u_1669 (by omega)
                    replace hg := gt_neg (by first | exact d_1738 | omega) hg
                    have g_1741 : (0 : Int) ≤ (I_1647 o 47).toInt ∧ (I_1647 o 47).toInt ≤ 7 := hR_1649.at0 ra 47 (by decide)
                    replace hg := gt_let (y := (I_1647 o 47).toInt) rfl hg
                    have l_1742 : (7 : Int32).toInt = 7 := rfl
                    refine ⟨fun c_1743 => ?_, fun c_1743 => ?_⟩
                    · have d_1744 := iNe c_1743
                      replace hg := gt_neg (by first | exact d_1744 | omega) hg
                      refine y_Model_isGoodg hok hw ra hR_1649 (fun r_1745 u_1746 u_1747 u_1748 gn_1749 => ⟨r_1745, I_1647, L_1617, rfl, rfl, ?_⟩)
                      replace hg := gt_let gn_1749 hg
                      clear gn_1749
                      have b_1750 : 0 ≤ r_1745.toInt ∧ r_1745.toInt ≤ 1 := u_1746.rg
                      refine ⟨fun c_1751 => ?_, fun c_1751 => ?_⟩
                      · have d_1752 := iNe c_1751
                        have i_1753 := u_1747 (by omega)
                        replace hg := gt_neg (by first | exact d_1752 | omega) hg
                        refine y_Model_pileg hok hw ra hz58 (by first | omega | (intro h; omega) | exact Or.inl rfl | exact Or.inr rfl) (by first | omega | (intro h; omega) | exact Or.inl rfl | exact Or.inr rfl) hR_1649 (fun I_1759 L_1760 hR_1761 fr_1762 kp_1763 u_1755 u_1756 u_1757 gn_1758 => ⟨I_1759, L_1760, rfl, rfl, ?_⟩)
                        replace hg := gt_b3 gn_1758 hg
                        clear gn_1758
                        have hf_1764 : Fm (fun c => c = o ∨ (o + 30 ≤ c ∧ c < o + 34)) I0 I_1759 := hf_1650.call fr_1762 (fun c hc => by first | exact hc | (dsimp only at hc ⊢; omega) | omega)
                        have t_1765 : (I_1759 o 3).toInt = (I_1647 o 3).toInt := by rw [kp_1763 3 rfl]
                        have t_1766 : (I_1759 o 4).toInt = (I_1647 o 4).toInt := by rw [kp_1763 4 rfl]
                        have t_1767 : (I_1759 o 6).toInt = (I_1647 o 6).toInt := by rw [kp_1763 6 rfl]
                        have t_1768 : (I_1759 o 7).toInt = (I_1647 o 7).toInt := by rw [kp_1763 7 rfl]
                        have t_1769 : (I_1759 o 8).toInt = (I_1647 o 8).toInt := by rw [kp_1763 8 rfl]
                        have t_1770 : (I_1759 o 9).toInt = (I_1647 o 9).toInt := by rw [kp_1763 9 rfl]
                        have t_1771 : (I_1759 o 44).toInt = (I_1647 o 44).toInt := by rw [kp_1763 44 rfl]
                        have t_1772 : (I_1759 o 45).toInt = (I_1647 o 45).toInt := by rw [kp_1763 45 rfl]
                        have t_1773 : (I_1759 o 47).toInt = (I_1647 o 47).toInt := by rw [kp_1763 47 rfl]
                        have g_1774 : (0 : Int) ≤ (I_1759 o 48).toInt ∧ (I_1759 o 48).toInt ≤ 80 := hR_1761.at0 ra 48 (by decide)
                        have t_1775 : (I_1759 o 46).toInt = (I_1647 o 46).toInt := by rw [kp_1763 46 rfl]
                        have k_1776 : MTd I_1759 o := k_1663.fr (fr_1762 _ (by first | omega | (dsimp only; omega))) (fr_1762 _ (by first | omega | (dsimp only; omega))) (fr_1762 _ (by first | omega | (dsimp only; omega)))
                        have k_1777 : MPo I_1759 o := k_1664.fr (kp_1763 8 rfl) (kp_1763 9 rfl)
                        have k_1778 : MTk I_1759 o := k_1665.fr (kp_1763 6 rfl) (kp_1763 7 rfl) (kp_1763 8 rfl)
                        have k_1779 : EX 0 1 1 f0 1 I_1759 o := by have z := EX.push k_1662 (v := 7) (s := 0) (dB := 1) (dO := 0) (wt' := 1) (by decide) (by decide) (by decide) (by omega) ⟨by decide, by decide⟩ ⟨fun h => absurd h (by decide), fun h => absurd h (by decide)⟩ (Or.inl rfl) (fr_1762 _ (by first | omega | (dsimp only; omega))) (fr_1762 _ (by first | omega | (dsimp only; omega))) (fr_1762 _ (by first | omega | (dsimp only; omega))) u_1755 u_1756 (kp_1763 3 rfl) (kp_1763 6 rfl) (kp_1763 44 rfl) (kp_1763 45 rfl) (kp_1763 47 rfl) u_1757; exact EX.chg (b' := 1) z rfl rfl rfl rfl rfl rfl rfl rfl rfl rfl (by omega) z.pl
                        have g_1780 : (0 : Int) ≤ (I_1759 o 47).toInt ∧ (I_1759 o 47).toInt ≤ 7 := hR_1761.at0 ra 47 (by decide)
                        replace hg := gt_let (y := (I_1759 o 47).toInt) rfl hg
                        have a_1781 : ((I_1759 o 47) + 1).toInt = (I_1759 o 47).toInt + (1 : Int32).toInt := tAdd (by omega) (by omega)
                        replace hg := gt_let (y := (((I_1759 o 47) + 1) : Int32).toInt) (by omega) hg
                        refine fun I_1782 e_1783 => ?_
                        replace hg := gt_let (y := tI I_1782) (tI_q e_1783) hg
                        have hR_1784 : RI R I_1782 := hR_1761.up0 (k := 47) ra (by decide) (Or.inr hz57) e_1783 (show (0 : Int) ≤ ((I_1759 o 47) + 1).toInt by omega) (show ((I_1759 o 47) + 1).toInt ≤ (7 : Int) by omega)
                        have hf_1785 : Fm (fun c => c = o ∨ (o + 30 ≤ c ∧ c < o + 34)) I0 I_1782 := hf_1764.set (by first | rfl | omega | (dsimp only; omega)) e_1783
                        have t_1786 : (I_1782 o 3).toInt = (I_1759 o 3).toInt := by rw [← e_1783, q_u_k (by decide)]
                        have t_1787 : (I_1782 o 4).toInt = (I_1759 o 4).toInt := by rw [← e_1783, q_u_k (by decide)]
                        have t_1788 : (I_1782 o 6).toInt = (I_1759 o 6).toInt := by rw [← e_1783, q_u_k (by decide)]
                        have t_1789 : (I_1782 o 7).toInt = (I_1759 o 7).toInt := by rw [← e_1783, q_u_k (by decide)]
                        have t_1790 : (I_1782 o 8).toInt = (I_1759 o 8).toInt := by rw [← e_1783, q_u_k (by decide)]
                        have t_1791 : (I_1782 o 9).toInt = (I_1759 o 9).toInt := by rw [← e_1783, q_u_k (by decide)]
                        have t_1792 : (I_1782 o 44).toInt = (I_1759 o 44).toInt := by rw [← e_1783, q_u_k (by decide)]
                        have t_1793 : (I_1782 o 45).toInt = (I_1759 o 45).toInt := by rw [← e_1783, q_u_k (by decide)]
                        have t_1794 : (I_1782 o 47).toInt = ((I_1759 o 47) + 1).toInt := by rw [← e_1783, q_u_at]
                        have t_1795 : (I_1782 o 48).toInt = (I_1759 o 48).toInt := by rw [← e_1783, q_u_k (by decide)]
                        have t_1796 : (I_1782 o 46).toInt = (I_1759 o 46).toInt := by rw [← e_1783, q_u_k (by decide)]
                        have k_1797 : MTd I_1782 o := k_1776.fr (by rw [← e_1783]; exact q_u_ne (by omega)) (by rw [← e_1783]; exact q_u_ne (by omega)) (by rw [← e_1783]; exact q_u_ne (by omega))
                        have k_1798 : MPo I_1782 o := k_1777.fr (by rw [← e_1783, q_u_k (by decide)]) (by rw [← e_1783, q_u_k (by decide)])
                        have k_1799 : MTk I_1782 o := k_1778.fr (by rw [← e_1783, q_u_k (by decide)]) (by rw [← e_1783, q_u_k (by decide)]) (by rw [← e_1783, q_u_k (by decide)])
                        have tk := k_1799.2 (by omega)
                        have k_1801 : EX 0 0 1 f0 1 I_1782 o := by exact EX.put47 k_1779 e_1783 (by omega)
                        refine y_Model_nextg hok hw ra hz16 hz17 hz18 hz19 (by first | omega | (intro h; omega) | exact Or.inl rfl | exact Or.inr rfl) hR_1784 (fun I_1812 L_1813 hR_1814 fr_1815 kp_1816 u_1803 u_1804 u_1805 u_1806 u_1807 u_1808 u_1809 u_1810 gn_1811 => ⟨I_1812, L_1813, rfl, rfl, ?_⟩)
                        replace hg := gt_b3 gn_1811 hg
                        clear gn_1811
                        have hf_1817 : Fm (fun c => c = o ∨ (o + 30 ≤ c ∧ c < o + 34)) I0 I_1812 := hf_1785.call fr_1815 (fun c hc => by first | exact hc | (dsimp only at hc ⊢; omega) | omega)
                        have t_1818 : (I_1812 o 3).toInt = (I_1782 o 3).toInt := by rw [kp_1816 3 rfl]
                        have t_1819 : (I_1812 o 4).toInt = (I_1782 o 4).toInt := by rw [kp_1816 4 rfl]
                        have g_1820 : (0 : Int) ≤ (I_1812 o 6).toInt ∧ (I_1812 o 6).toInt ≤ 1600 := hR_1814.at0 ra 6 (by decide)
                        have g_1821 : (0 : Int) ≤ (I_1812 o 7).toInt ∧ (I_1812 o 7).toInt ≤ 1601 := hR_1814.at0 ra 7 (by decide)
                        have g_1822 : (0 : Int) ≤ (I_1812 o 8).toInt ∧ (I_1812 o 8).toInt ≤ 6 := hR_1814.at0 ra 8 (by decide)
                        have t_1823 : (I_1812 o 44).toInt = (I_1782 o 44).toInt := by rw [kp_1816 44 rfl]
                        have t_1824 : (I_1812 o 45).toInt = (I_1782 o 45).toInt := by rw [kp_1816 45 rfl]
                        have t_1825 : (I_1812 o 47).toInt = (I_1782 o 47).toInt := by rw [kp_1816 47 rfl]
                        have t_1826 : (I_1812 o 48).toInt = (I_1782 o 48).toInt := by rw [kp_1816 48 rfl]
                        have t_1827 : (I_1812 o 46).toInt = (I_1782 o 46).toInt := by rw [kp_1816 46 rfl]
                        have k_1828 : MTd I_1812 o := k_1797.fr (fr_1815 _ (by first | omega | (dsimp only; omega))) (fr_1815 _ (by first | omega | (dsimp only; omega))) (fr_1815 _ (by first | omega | (dsimp only; omega)))
                        have ms := u_1806 (by omega)
                        have k_1829 : EX 0 0 0 f0 1 I_1812 o := by exact EX.nx k_1801 (fr_1815 _ (by first | omega | (dsimp only; omega))) (fr_1815 _ (by first | omega | (dsimp only; omega))) (fr_1815 _ (by first | omega | (dsimp only; omega))) (fr_1815 _ (by first | omega | (dsimp only; omega))) (fr_1815 _ (by first | omega | (dsimp only; omega))) (kp_1816 3 rfl) (kp_1816 44 rfl) (kp_1816 45 rfl) (kp_1816 47 rfl) (kp_1816 48 rfl) (by omega) (by omega)
                        exact (hp _ _ _ hR_1814 hf_1817 (Or.inr rfl) (by first | omega | (intro h; omega) | exact Or.inl rfl | exact Or.inr rfl) (by first | omega | (intro h; omega) | exact Or.inl rfl | exact Or.inr rfl) (by first | omega | (intro h; omega) | exact Or.inl rfl | exact Or.inr rfl) (by first | omega | (intro h; omega) | exact Or.inl rfl | exact Or.inr rfl) (by first | omega | (intro h; omega) | exact Or.inl rfl | exact Or.inr rfl) (by clear hg; first | (intro h; exfalso; omega) | exact fun _ => k_1829 | exact fun _ => (False.elim (by omega))) k_1828 u_1809 u_1810 hg.symm)
                      · have d_1830 := iEq c_1751
                        have i_1831 := u_1748 (by omega)
                        replace hg := gt_pos (by first | exact d_1830 | omega) hg
                        exact (hp _ _ _ hR_1649 hf_1650 (Or.inr rfl) (by first | omega | (intro h; omega) | exact Or.inl rfl | exact Or.inr rfl) (by first | omega | (intro h; omega) | exact Or.inl rfl | exact Or.inr rfl) (by first | omega | (intro h; omega) | exact Or.inl rfl | exact Or.inr rfl) (by first | omega | (intro h; omega) | exact Or.inl rfl | exact Or.inr rfl) (by first | omega | (intro h; omega) | exact Or.inl rfl | exact Or.inr rfl) (by clear hg; first | (intro h; exfalso; omega) | exact fun _ => k_1662 | exact fun _ => (False.elim (by omega))) k_1663 k_1664 k_1665 hg.symm)
                    · have d_1832 := iEq c_1743
                      replace hg := gt_pos (by first | exact d_1832 | omega) hg
                      refine y_Model_wrongg hok hw ra hz14 hz15 hR_1649 (fun I_1837 L_1838 hR_1839 fr_1840 kp_1841 u_1834 u_1835 gn_1836 => ⟨I_1837, L_1838, rfl, rfl, ?_⟩)
                      replace hg := gt_b3 gn_1836 hg
                      clear gn_1836
                      have hf_1842 : Fm (fun c => c = o ∨ (o + 30 ≤ c ∧ c < o + 34)) I0 I_1837 := hf_1650.call fr_1840 (fun c hc => by first | exact hc | (dsimp only at hc ⊢; omega) | omega)
                      have t_1843 : (I_1837 o 3).toInt = (I_1647 o 3).toInt := by rw [kp_1841 3 rfl]
                      have g_1844 : (0 : Int) ≤ (I_1837 o 4).toInt ∧ (I_1837 o 4).toInt ≤ 5 := hR_1839.at0 ra 4 (by decide)
                      have t_1845 : (I_1837 o 6).toInt = (I_1647 o 6).toInt := by rw [kp_1841 6 rfl]
                      have t_1846 : (I_1837 o 7).toInt = (I_1647 o 7).toInt := by rw [kp_1841 7 rfl]
                      have t_1847 : (I_1837 o 8).toInt = (I_1647 o 8).toInt := by rw [kp_1841 8 rfl]
                      have t_1848 : (I_1837 o 9).toInt = (I_1647 o 9).toInt := by rw [kp_1841 9 rfl]
                      have t_1849 : (I_1837 o 44).toInt = (I_1647 o 44).toInt := by rw [kp_1841 44 rfl]
                      have t_1850 : (I_1837 o 45).toInt = (I_1647 o 45).toInt := by rw [kp_1841 45 rfl]
                      have t_1851 : (I_1837 o 47).toInt = (I_1647 o 47).toInt := by rw [kp_1841 47 rfl]
                      have t_1852 : (I_1837 o 48).toInt = (I_1647 o 48).toInt := by rw [kp_1841 48 rfl]
                      have t_1853 : (I_1837 o 46).toInt = (I_1647 o 46).toInt := by rw [kp_1841 46 rfl]
                      have k_1854 : EX 0 0 0 f0 1 I_1837 o := k_1662.fr (fr_1840 _ (by first | omega | (dsimp only; omega))) (fr_1840 _ (by first | omega | (dsimp only; omega))) (fr_1840 _ (by first | omega | (dsimp only; omega))) (fr_1840 _ (by first | omega | (dsimp only; omega))) (fr_1840 _ (by first | omega | (dsimp only; omega))) (kp_1841 3 rfl) (kp_1841 6 rfl) (kp_1841 44 rfl) (kp_1841 45 rfl) (kp_1841 47 rfl) (kp_1841 48 rfl)
                      have k_1855 : MTd I_1837 o := k_1663.fr (fr_1840 _ (by first | omega | (dsimp only; omega))) (fr_1840 _ (by first | omega | (dsimp only; omega))) (fr_1840 _ (by first | omega | (dsimp only; omega)))
                      have k_1856 : MPo I_1837 o := k_1664.fr (kp_1841 8 rfl) (kp_1841 9 rfl)
                      have k_1857 : MTk I_1837 o := k_1665.fr (kp_1841 6 rfl) (kp_1841 7 rfl) (kp_1841 8 rfl)
                      refine y_Model_isGoodg hok hw ra hR_1839 (fun r_1858 u_1859 u_1860 u_1861 gn_1862 => ⟨r_1858, I_1837, L_1838, rfl, rfl, ?_⟩)
                      replace hg := gt_let gn_1862 hg
                      clear gn_1862
                      have b_1863 : 0 ≤ r_1858.toInt ∧ r_1858.toInt ≤ 1 := u_1859.rg
                      refine ⟨fun c_1864 => ?_, fun c_1864 => ?_⟩
                      · have d_1865 := iNe c_1864
                        have i_1866 := u_1860 (by omega)
                        replace hg := gt_neg (by first | exact d_1865 | omega) hg
                        refine y_Model_pileg hok hw ra hz58 (by first | omega | (intro h; omega) | exact Or.inl rfl | exact Or.inr rfl) (by first | omega | (intro h; omega) | exact Or.inl rfl | exact Or.inr rfl) hR_1839 (fun I_1872 L_1873 hR_1874 fr_1875 kp_1876 u_1868 u_1869 u_1870 gn_1871 => ⟨I_1872, L_1873, rfl, rfl, ?_⟩)
                        replace hg := gt_b3 gn_1871 hg
                        clear gn_1871
                        have hf_1877 : Fm (fun c => c = o ∨ (o + 30 ≤ c ∧ c < o + 34)) I0 I_1872 := hf_1842.call fr_1875 (fun c hc => by first | exact hc | (dsimp only at hc ⊢; omega) | omega)
                        have t_1878 : (I_1872 o 3).toInt = (I_1837 o 3).toInt := by rw [kp_1876 3 rfl]
                        have t_1879 : (I_1872 o 4).toInt = (I_1837 o 4).toInt := by rw [kp_1876 4 rfl]
                        have t_1880 : (I_1872 o 6).toInt = (I_1837 o 6).toInt := by rw [kp_1876 6 rfl]
                        have t_1881 : (I_1872 o 7).toInt = (I_1837 o 7).toInt := by rw [kp_1876 7 rfl]
                        have t_1882 : (I_1872 o 8).toInt = (I_1837 o 8).toInt := by rw [kp_1876 8 rfl]
                        have t_1883 : (I_1872 o 9).toInt = (I_1837 o 9).toInt := by rw [kp_1876 9 rfl]
                        have t_1884 : (I_1872 o 44).toInt = (I_1837 o 44).toInt := by rw [kp_1876 44 rfl]
                        have t_1885 : (I_1872 o 45).toInt = (I_1837 o 45).toInt := by rw [kp_1876 45 rfl]
                        have t_1886 : (I_1872 o 47).toInt = (I_1837 o 47).toInt := by rw [kp_1876 47 rfl]
                        have g_1887 : (0 : Int) ≤ (I_1872 o 48).toInt ∧ (I_1872 o 48).toInt ≤ 80 := hR_1874.at0 ra 48 (by decide)
                        have t_1888 : (I_1872 o 46).toInt = (I_1837 o 46).toInt := by rw [kp_1876 46 rfl]
                        have k_1889 : MTd I_1872 o := k_1855.fr (fr_1875 _ (by first | omega | (dsimp only; omega))) (fr_1875 _ (by first | omega | (dsimp only; omega))) (fr_1875 _ (by first | omega | (dsimp only; omega)))
                        have k_1890 : MPo I_1872 o := k_1856.fr (kp_1876 8 rfl) (kp_1876 9 rfl)
                        have k_1891 : MTk I_1872 o := k_1857.fr (kp_1876 6 rfl) (kp_1876 7 rfl) (kp_1876 8 rfl)
                        have k_1892 : EX 0 1 1 f0 1 I_1872 o := by have z := EX.push k_1854 (v := 7) (s := 0) (dB := 1) (dO := 0) (wt' := 1) (by decide) (by decide) (by decide) (by omega) ⟨by decide, by decide⟩ ⟨fun h => absurd h (by decide), fun h => absurd h (by decide)⟩ (Or.inl rfl) (fr_1875 _ (by first | omega | (dsimp only; omega))) (fr_1875 _ (by first | omega | (dsimp only; omega))) (fr_1875 _ (by first | omega | (dsimp only; omega))) u_1868 u_1869 (kp_1876 3 rfl) (kp_1876 6 rfl) (kp_1876 44 rfl) (kp_1876 45 rfl) (kp_1876 47 rfl) u_1870; exact EX.chg (b' := 1) z rfl rfl rfl rfl rfl rfl rfl rfl rfl rfl (by omega) z.pl
                        have g_1893 : (0 : Int) ≤ (I_1872 o 47).toInt ∧ (I_1872 o 47).toInt ≤ 7 := hR_1874.at0 ra 47 (by decide)
                        replace hg := gt_let (y := (I_1872 o 47).toInt) rfl hg
                        have a_1894 : ((I_1872 o 47) + 1).toInt = (I_1872 o 47).toInt + (1 : Int32).toInt := tAdd (by omega) (by omega)
                        replace hg := gt_let (y := (((I_1872 o 47) + 1) : Int32).toInt) (by omega) hg
                        refine fun I_1895 e_1896 => ?_
                        replace hg := gt_let (y := tI I_1895) (tI_q e_1896) hg
                        have hR_1897 : RI R I_1895 := hR_1874.up0 (k := 47) ra (by decide) (Or.inr hz57) e_1896 (show (0 : Int) ≤ ((I_1872 o 47) + 1).toInt by omega) (show ((I_1872 o 47) + 1).toInt ≤ (7 : Int) by omega)
                        have hf_1898 : Fm (fun c => c = o ∨ (o + 30 ≤ c ∧ c < o + 34)) I0 I_1895 := hf_1877.set (by first | rfl | omega | (dsimp only; omega)) e_1896
                        have t_1899 : (I_1895 o 3).toInt = (I_1872 o 3).toInt := by rw [← e_1896, q_u_k (by decide)]
                        have t_1900 : (I_1895 o 4).toInt = (I_1872 o 4).toInt := by rw [← e_1896, q_u_k (by decide)]
                        have t_1901 : (I_1895 o 6).toInt = (I_1872 o 6).toInt := by rw [← e_1896, q_u_k (by decide)]
                        have t_1902 : (I_1895 o 7).toInt = (I_1872 o 7).toInt := by rw [← e_1896, q_u_k (by decide)]
                        have t_1903 : (I_1895 o 8).toInt = (I_1872 o 8).toInt := by rw [← e_1896, q_u_k (by decide)]
                        have t_1904 : (I_1895 o 9).toInt = (I_1872 o 9).toInt := by rw [← e_1896, q_u_k (by decide)]
                        have t_1905 : (I_1895 o 44).toInt = (I_1872 o 44).toInt := by rw [← e_1896, q_u_k (by decide)]
                        have t_1906 : (I_1895 o 45).toInt = (I_1872 o 45).toInt := by rw [← e_1896, q_u_k (by decide)]
                        have t_1907 : (I_1895 o 47).toInt = ((I_1872 o 47) + 1).toInt := by rw [← e_1896, q_u_at]
                        have t_1908 : (I_1895 o 48).toInt = (I_1872 o 48).toInt := by rw [← e_1896, q_u_k (by decide)]
                        have t_1909 : (I_1895 o 46).toInt = (I_1872 o 46).toInt := by rw [← e_1896, q_u_k (by decide)]
                        have k_1910 : MTd I_1895 o := k_1889.fr (by rw [← e_1896]; exact q_u_ne (by omega)) (by rw [← e_1896]; exact q_u_ne (by omega)) (by rw [← e_1896]; exact q_u_ne (by omega))
                        have k_1911 : MPo I_1895 o := k_1890.fr (by rw [← e_1896, q_u_k (by decide)]) (by rw [← e_1896, q_u_k (by decide)])
                        have k_1912 : MTk I_1895 o := k_1891.fr (by rw [← e_1896, q_u_k (by decide)]) (by rw [← e_1896, q_u_k (by decide)]) (by rw [← e_1896, q_u_k (by decide)])
                        have tk := k_1912.2 (by omega)
                        have k_1914 : EX 0 0 1 f0 1 I_1895 o := by exact EX.put47 k_1892 e_1896 (by omega)
                        refine y_Model_nextg hok hw ra hz16 hz17 hz18 hz19 (by first | omega | (intro h; omega) | exact Or.inl rfl | exact Or.inr rfl) hR_1897 (fun I_1925 L_1926 hR_1927 fr_1928 kp_1929 u_1916 u_1917 u_1918 u_1919 u_1920 u_1921 u_1922 u_1923 gn_1924 => ⟨I_1925, L_1926, rfl, rfl, ?_⟩)
                        replace hg := gt_b3 gn_1924 hg
                        clear gn_1924
                        have hf_1930 : Fm (fun c => c = o ∨ (o + 30 ≤ c ∧ c < o + 34)) I0 I_1925 := hf_1898.call fr_1928 (fun c hc => by first | exact hc | (dsimp only at hc ⊢; omega) | omega)
                        have t_1931 : (I_1925 o 3).toInt = (I_1895 o 3).toInt := by rw [kp_1929 3 rfl]
                        have t_1932 : (I_1925 o 4).toInt = (I_1895 o 4).toInt := by rw [kp_1929 4 rfl]
                        have g_1933 : (0 : Int) ≤ (I_1925 o 6).toInt ∧ (I_1925 o 6).toInt ≤ 1600 := hR_1927.at0 ra 6 (by decide)
                        have g_1934 : (0 : Int) ≤ (I_1925 o 7).toInt ∧ (I_1925 o 7).toInt ≤ 1601 := hR_1927.at0 ra 7 (by decide)
                        have g_1935 : (0 : Int) ≤ (I_1925 o 8).toInt ∧ (I_1925 o 8).toInt ≤ 6 := hR_1927.at0 ra 8 (by decide)
                        have t_1936 : (I_1925 o 44).toInt = (I_1895 o 44).toInt := by rw [kp_1929 44 rfl]
                        have t_1937 : (I_1925 o 45).toInt = (I_1895 o 45).toInt := by rw [kp_1929 45 rfl]
                        have t_1938 : (I_1925 o 47).toInt = (I_1895 o 47).toInt := by rw [kp_1929 47 rfl]
                        have t_1939 : (I_1925 o 48).toInt = (I_1895 o 48).toInt := by rw [kp_1929 48 rfl]
                        have t_1940 : (I_1925 o 46).toInt = (I_1895 o 46).toInt := by rw [kp_1929 46 rfl]
                        have k_1941 : MTd I_1925 o := k_1910.fr (fr_1928 _ (by first | omega | (dsimp only; omega))) (fr_1928 _ (by first | omega | (dsimp only; omega))) (fr_1928 _ (by first | omega | (dsimp only; omega)))
                        have ms := u_1919 (by omega)
                        have k_1942 : EX 0 0 0 f0 1 I_1925 o := by exact EX.nx k_1914 (fr_1928 _ (by first | omega | (dsimp only; omega))) (fr_1928 _ (by first | omega | (dsimp only; omega))) (fr_1928 _ (by first | omega | (dsimp only; omega))) (fr_1928 _ (by first | omega | (dsimp only; omega))) (fr_1928 _ (by first | omega | (dsimp only; omega))) (kp_1929 3 rfl) (kp_1929 44 rfl) (kp_1929 45 rfl) (kp_1929 47 rfl) (kp_1929 48 rfl) (by omega) (by omega)
                        exact (hp _ _ _ hR_1927 hf_1930 (Or.inr rfl) (by first | omega | (intro h; omega) | exact Or.inl rfl | exact Or.inr rfl) (by first | omega | (intro h; omega) | exact Or.inl rfl | exact Or.inr rfl) (by first | omega | (intro h; omega) | exact Or.inl rfl | exact Or.inr rfl) (by first | omega | (intro h; omega) | exact Or.inl rfl | exact Or.inr rfl) (by first | omega | (intro h; omega) | exact Or.inl rfl | exact Or.inr rfl) (by clear hg; first | (intro h; exfalso; omega) | exact fun _ => k_1942 | exact fun _ => (False.elim (by omega))) k_1941 u_1922 u_1923 hg.symm)
                      · have d_1943 := iEq c_1864
                        have i_1944 := u_1861 (by omega)
                        replace hg := gt_pos (by first | exact d_1943 | omega) hg
                        exact (hp _ _ _ hR_1839 hf_1842 (Or.inr rfl) (by first | omega | (intro h; omega) | exact Or.inl rfl | exact Or.inr rfl) (by first | omega | (intro h; omega) | exact Or.inl rfl | exact Or.inr rfl) (by first | omega | (intro h; omega) | exact Or.inl rfl | exact Or.inr rfl) (by first | omega | (intro h; omega) | exact Or.inl rfl | exact Or.inr rfl) (by first | omega | (intro h; omega) | exact Or.inl rfl | exact Or.inr rfl) (by clear hg; first | (intro h; exfalso; omega) | exact fun _ => k_1854 | exact fun _ => (False.elim (by omega))) k_1855 k_1856 k_1857 hg.symm)
                · have d_1945 := iEq c_1642
                  have i_1946 := u_1639 (by omega)
                  replace hg := gt_pos (by first | exact d_1945 | omega) hg
                  exact (hp _ _ _ hR_1618 hf_1621 (Or.inr rfl) (by first | omega | (intro h; omega) | exact Or.inl rfl | exact Or.inr rfl) (by first | omega | (intro h; omega) | exact Or.inl rfl | exact Or.inr rfl) (by first | omega | (intro h; omega) | exact Or.inl rfl | exact Or.inr rfl) (by first | omega | (intro h; omega) | exact Or.inl rfl | exact Or.inr rfl) (by first | omega | (intro h; omega) | exact Or.inl rfl | exact Or.inr rfl) (by clear hg; first | (intro h; exfalso; omega) | exact fun _ => k_1632 | exact fun _ => (False.elim (by omega))) k_1633 k_1634 k_1635 hg.symm)
              · have d_1947 := iNe c_1610
                have i_1948 := u_1606 (by omega)
                have i_1949 := u_1607 (by omega)
                replace hg := gt_neg (by first | exact d_1947 | omega) hg
                unfold fModel_unit_131
                replace hg := (eModel_unit_131).symm.trans hg
                have g_1950 : (0 : Int) ≤ (I_34 o 46).toInt ∧ (I_34 o 46).toInt ≤ 100 := hR_36.at0 ra 46 (by decide)
                replace hg := gt_let (y := (I_34 o 46).toInt) rfl hg
                have l_1951 : (100 : Int32).toInt = 100 := rfl
                refine ⟨fun c_1952 => ?_, fun c_1952 => ?_⟩
                · have d_1953 := iNe c_1952
                  replace hg := gt_neg (by first | exact d_1953 | omega) hg
                  refine y_Model_isGoodg hok hw ra hR_36 (fun r_1954 u_1955 u_1956 u_1957 gn_1958 => ⟨r_1954, I_34, L_35, rfl, rfl, ?_⟩)
                  replace hg := gt_let gn_1958 hg
                  clear gn_1958
                  have b_1959 : 0 ≤ r_1954.toInt ∧ r_1954.toInt ≤ 1 := u_1955.rg
                  refine ⟨fun c_1960 => ?_, fun c_1960 => ?_⟩
                  · have d_1961 := iNe c_1960
                    have i_1962 := u_1956 (by omega)
                    replace hg := gt_neg (by first | exact d_1961 | omega) hg
                    have g_1963 : (0 : Int) ≤ (I_34 o 46).toInt ∧ (I_34 o 46).toInt ≤ 100 := hR_36.at0 ra 46 (by decide)
                    replace hg := gt_let (y := (I_34 o 46).toInt) rfl hg
                    have a_1964 : ((I_34 o 46) + 1).toInt = (I_34 o 46).toInt + (1 : Int32).toInt := tAdd (by omega) (by omega)
                    replace hg := gt_let (y := (((I_34 o 46) + 1) : Int32).toInt) (by omega) hg
                    refine fun I_1965 e_1966 => ?_
                    replace hg := gt_let (y := tI I_1965) (tI_q e_1966) hg
                    have hR_1967 : RI R I_1965 := hR_36.up0 (k := 46) ra (by decide) (Or.inr hz56) e_1966 (show (0 : Int) ≤ ((I_34 o 46) + 1).toInt by omega) (show ((I_34 o 46) + 1).toInt ≤ (100 : Int) by omega)
                    have hf_1968 : Fm (fun c => c = o ∨ (o + 30 ≤ c ∧ c < o + 34)) I0 I_1965 := hf_39.set (by first | rfl | omega | (dsimp only; omega)) e_1966
                    have t_1969 : (I_1965 o 3).toInt = (I_34 o 3).toInt := by rw [← e_1966, q_u_k (by decide)]
                    have t_1970 : (I_1965 o 4).toInt = (I_34 o 4).toInt := by rw [← e_1966, q_u_k (by decide)]
                    have t_1971 : (I_1965 o 6).toInt = (I_34 o 6).toInt := by rw [← e_1966, q_u_k (by decide)]
                    have t_1972 : (I_1965 o 7).toInt = (I_34 o 7).toInt := by rw [← e_1966, q_u_k (by decide)]
                    have t_1973 : (I_1965 o 8).toInt = (I_34 o 8).toInt := by rw [← e_1966, q_u_k (by decide)]
                    have t_1974 : (I_1965 o 9).toInt = (I_34 o 9).toInt := by rw [← e_1966, q_u_k (by decide)]
                    have t_1975 : (I_1965 o 44).toInt = (I_34 o 44).toInt := by rw [← e_1966, q_u_k (by decide)]
                    have t_1976 : (I_1965 o 45).toInt = (I_34 o 45).toInt := by rw [← e_1966, q_u_k (by decide)]
                    have t_1977 : (I_1965 o 47).toInt = (I_34 o 47).toInt := by rw [← e_1966, q_u_k (by decide)]
                    have t_1978 : (I_1965 o 48).toInt = (I_34 o 48).toInt := by rw [← e_1966, q_u_k (by decide)]
                    have t_1979 : (I_1965 o 46).toInt = ((I_34 o 46) + 1).toInt := by rw [← e_1966, q_u_at]
                    have k_1980 : EX 0 0 0 f0 1 I_1965 o := k_50.fr (by rw [← e_1966]; exact q_u_ne (by omega)) (by rw [← e_1966]; exact q_u_ne (by omega)) (by rw [← e_1966]; exact q_u_ne (by omega)) (by rw [← e_1966]; exact q_u_ne (by omega)) (by rw [← e_1966]; exact q_u_ne (by omega)) (by rw [← e_1966, q_u_k (by decide)]) (by rw [← e_1966, q_u_k (by decide)]) (by rw [← e_1966, q_u_k (by decide)]) (by rw [← e_1966, q_u_k (by decide)]) (by rw [← e_1966, q_u_k (by decide)]) (by rw [← e_1966, q_u_k (by decide)])
                    have k_1981 : MTd I_1965 o := k_51.fr (by rw [← e_1966]; exact q_u_ne (by omega)) (by rw [← e_1966]; exact q_u_ne (by omega)) (by rw [← e_1966]; exact q_u_ne (by omega))
                    have k_1982 : MPo I_1965 o := k_52.fr (by rw [← e_1966, q_u_k (by decide)]) (by rw [← e_1966, q_u_k (by decide)])
                    have k_1983 : MTk I_1965 o := k_53.fr (by rw [← e_1966, q_u_k (by decide)]) (by rw [← e_1966, q_u_k (by decide)]) (by rw [← e_1966, q_u_k (by decide)])
                    refine y_Model_isg hok hw ra hR_1967 (fun r_1984 u_1985 u_1986 u_1987 gn_1988 => ⟨r_1984, I_1965, L_35, rfl, rfl, ?_⟩)
                    replace hg := gt_let gn_1988 hg
                    clear gn_1988
                    have b_1989 : 0 ≤ r_1984.toInt ∧ r_1984.toInt ≤ 1 := u_1985.rg
                    refine ⟨fun c_1990 => ?_, fun c_1990 => ?_⟩
                    · have d_1991 := iEq c_1990
                      replace hg := gt_pos (by first | exact d_1991 | omega) hg
                      have cd := k_1980.cod
                      have tk := k_1983.2 (by omega)
                      refine ⟨fun c_1992 => ?_, fun c_1992 => ?_⟩
                      · have d_1993 := iNe c_1992
                        have i_1994 := u_30 (by omega)
                        have i_1995 := u_31 (by omega)
                        exfalso; omega
                      · have d_1996 := iEq c_1992
                        replace hg := gt_pos (by first | exact d_1996 | omega) hg
                        unfold fModel_unit_228
                        replace hg := (eModel_unit_228).symm.trans hg
                        have l_1997 : (78 : Int32).toInt = 78 := rfl
                        refine ⟨fun c_1998 => ?_, fun c_1998 => ?_⟩
                        · have d_1999 := iNe c_1998
                          have i_2000 := u_30 (by omega)
                          have i_2001 := u_31 (by omega)
                          exfalso; omega
                        · have d_2002 := iEq c_1998
                          replace hg := gt_pos (by first | exact d_2002 | omega) hg
                          replace hg := gt_let (y := (I_1965 o 9).toInt) rfl hg
                          refine y_Model_stepg hok hw ra hz55 (by first | omega | (intro h; omega) | exact Or.inl rfl | exact Or.inr rfl) (by first | omega | (intro h; omega) | exact Or.inl rfl | exact Or.inr rfl) hR_1967 (fun I_2007 L_2008 hR_2009 fr_2010 kp_2011 u_2004 u_2005 gn_2006 => ⟨I_2007, L_2008, rfl, rfl, ?_⟩)
                          replace hg := gt_b3 gn_2006 hg
                          clear gn_2006
                          have hf_2012 : Fm (fun c => c = o ∨ (o + 30 ≤ c ∧ c < o + 34)) I0 I_2007 := hf_1968.call fr_2010 (fun c hc => by first | exact hc | (dsimp only at hc ⊢; omega) | omega)
                          have t_2013 : (I_2007 o 3).toInt = (I_1965 o 3).toInt := by rw [kp_2011 3 rfl]
                          have t_2014 : (I_2007 o 4).toInt = (I_1965 o 4).toInt := by rw [kp_2011 4 rfl]
                          have t_2015 : (I_2007 o 6).toInt = (I_1965 o 6).toInt := by rw [kp_2011 6 rfl]
                          have t_2016 : (I_2007 o 7).toInt = (I_1965 o 7).toInt := by rw [kp_2011 7 rfl]
                          have t_2017 : (I_2007 o 8).toInt = (I_1965 o 8).toInt := by rw [kp_2011 8 rfl]
                          have t_2018 : (I_2007 o 9).toInt = (I_1965 o 9).toInt := by rw [kp_2011 9 rfl]
                          have t_2019 : (I_2007 o 44).toInt = (I_1965 o 44).toInt := by rw [kp_2011 44 rfl]
                          have g_2020 : (0 : Int) ≤ (I_2007 o 45).toInt ∧ (I_2007 o 45).toInt ≤ 700 := hR_2009.at0 ra 45 (by decide)
                          have t_2021 : (I_2007 o 47).toInt = (I_1965 o 47).toInt := by rw [kp_2011 47 rfl]
                          have t_2022 : (I_2007 o 48).toInt = (I_1965 o 48).toInt := by rw [kp_2011 48 rfl]
                          have t_2023 : (I_2007 o 46).toInt = (I_1965 o 46).toInt := by rw [kp_2011 46 rfl]
                          have k_2024 : MPo I_2007 o := k_1982.fr (kp_2011 8 rfl) (kp_2011 9 rfl)
                          have k_2025 : MTk I_2007 o := k_1983.fr (kp_2011 6 rfl) (kp_2011 7 rfl) (kp_2011 8 rfl)
                          have tk := k_2025.2 (by omega)
                          have k_2026 : EX 0 0 1 f0 0 I_2007 o := by exact EX.step1 k_1980 (by first | exact u_30 (by omega) | (unfold isT; decide)) (by omega) (fr_2010 _ (by first | omega | (dsimp only; omega))) (fr_2010 _ (by first | omega | (dsimp only; omega))) u_2004 (fr_2010 _ (by first | omega | (dsimp only; omega))) (fr_2010 _ (by first | omega | (dsimp only; omega))) (kp_2011 3 rfl) (kp_2011 6 rfl) (kp_2011 44 rfl) u_2005 (kp_2011 47 rfl) (kp_2011 48 rfl)
                          have k_2027 : MTd I_2007 o := by exact MTd.step k_1981 (fr_2010 _ (by first | omega | (dsimp only; omega))) (fr_2010 _ (by first | omega | (dsimp only; omega))) u_2004 (by omega)
                          refine y_Model_nextg hok hw ra hz16 hz17 hz18 hz19 (by first | omega | (intro h; omega) | exact Or.inl rfl | exact Or.inr rfl) hR_2009 (fun I_2038 L_2039 hR_2040 fr_2041 kp_2042 u_2029 u_2030 u_2031 u_2032 u_2033 u_2034 u_2035 u_2036 gn_2037 => ⟨I_2038, L_2039, rfl, rfl, ?_⟩)
                          replace hg := gt_b3 gn_2037 hg
                          clear gn_2037
                          have hf_2043 : Fm (fun c => c = o ∨ (o + 30 ≤ c ∧ c < o + 34)) I0 I_2038 := hf_2012.call fr_2041 (fun c hc => by first | exact hc | (dsimp only at hc ⊢; omega) | omega)
                          have t_2044 : (I_2038 o 3).toInt = (I_2007 o 3).toInt := by rw [kp_2042 3 rfl]
                          have t_2045 : (I_2038 o 4).toInt = (I_2007 o 4).toInt := by rw [kp_2042 4 rfl]
                          have g_2046 : (0 : Int) ≤ (I_2038 o 6).toInt ∧ (I_2038 o 6).toInt ≤ 1600 := hR_2040.at0 ra 6 (by decide)
                          have g_2047 : (0 : Int) ≤ (I_2038 o 7).toInt ∧ (I_2038 o 7).toInt ≤ 1601 := hR_2040.at0 ra 7 (by decide)
                          have g_2048 : (0 : Int) ≤ (I_2038 o 8).toInt ∧ (I_2038 o 8).toInt ≤ 6 := hR_2040.at0 ra 8 (by decide)
                          have t_2049 : (I_2038 o 44).toInt = (I_2007 o 44).toInt := by rw [kp_2042 44 rfl]
                          have t_2050 : (I_2038 o 45).toInt = (I_2007 o 45).toInt := by rw [kp_2042 45 rfl]
                          have t_2051 : (I_2038 o 47).toInt = (I_2007 o 47).toInt := by rw [kp_2042 47 rfl]
                          have t_2052 : (I_2038 o 48).toInt = (I_2007 o 48).toInt := by rw [kp_2042 48 rfl]
                          have t_2053 : (I_2038 o 46).toInt = (I_2007 o 46).toInt := by rw [kp_2042 46 rfl]
                          have k_2054 : MTd I_2038 o := k_2027.fr (fr_2041 _ (by first | omega | (dsimp only; omega))) (fr_2041 _ (by first | omega | (dsimp only; omega))) (fr_2041 _ (by first | omega | (dsimp only; omega)))
                          have ms := u_2032 (by omega)
                          have k_2055 : EX 0 0 0 f0 0 I_2038 o := by exact EX.nx k_2026 (fr_2041 _ (by first | omega | (dsimp only; omega))) (fr_2041 _ (by first | omega | (dsimp only; omega))) (fr_2041 _ (by first | omega | (dsimp only; omega))) (fr_2041 _ (by first | omega | (dsimp only; omega))) (fr_2041 _ (by first | omega | (dsimp only; omega))) (kp_2042 3 rfl) (kp_2042 44 rfl) (kp_2042 45 rfl) (kp_2042 47 rfl) (kp_2042 48 rfl) (by omega) (by omega)
                          exact (hp _ _ _ hR_2040 hf_2043 (Or.inl rfl) (by first | omega | (intro h; omega) | exact Or.inl rfl | exact Or.inr rfl) (by first | omega | (intro h; omega) | exact Or.inl rfl | exact Or.inr rfl) (by first | omega | (intro h; omega) | exact Or.inl rfl | exact Or.inr rfl) (by first | omega | (intro h; omega) | exact Or.inl rfl | exact Or.inr rfl) (by first | omega | (intro h; omega) | exact Or.inl rfl | exact Or.inr rfl) (by clear hg; first | (intro h; exfalso; omega) | exact fun _ => (False.elim (by omega)) | exact fun _ => k_2055) k_2054 u_2035 u_2036 hg.symm)
                    · have d_2056 := iNe c_1990
                      have i_2057 := u_1986 (by omega)
                      have i_2058 := u_1987 (by omega)
                      replace hg := gt_neg (by first | exact d_2056 | omega) hg
                      have g_2059 : (0 : Int) ≤ (I_1965 o 47).toInt ∧ (I_1965 o 47).toInt ≤ 7 := hR_1967.at0 ra 47 (by decide)
                      replace hg := gt_let (y := (I_1965 o 47).toInt) rfl hg
                      have l_2060 : (7 : Int32).toInt = 7 := rfl
                      refine ⟨fun c_2061 => ?_, fun c_2061 => ?_⟩
                      · have d_2062 := iNe c_2061
                        replace hg := gt_neg (by first | exact d_2062 | omega) hg
                        refine y_Model_isGoodg hok hw ra hR_1967 (fun r_2063 u_2064 u_2065 u_2066 gn_2067 => ⟨r_2063, I_1965, L_35, rfl, rfl, ?_⟩)
                        replace hg := gt_let gn_2067 hg
                        clear gn_2067
                        have b_2068 : 0 ≤ r_2063.toInt ∧ r_2063.toInt ≤ 1 := u_2064.rg
                        refine ⟨fun c_2069 => ?_, fun c_2069 => ?_⟩
                        · have d_2070 := iNe c_2069
                          have i_2071 := u_2065 (by omega)
                          replace hg := gt_neg (by first | exact d_2070 | omega) hg
                          refine y_Model_pileg hok hw ra hz58 (by first | omega | (intro h; omega) | exact Or.inl rfl | exact Or.inr rfl) (by first | omega | (intro h; omega) | exact Or.inl rfl | exact Or.inr rfl) hR_1967 (fun I_2077 L_2078 hR_2079 fr_2080 kp_2081 u_2073 u_2074 u_2075 gn_2076 => ⟨I_2077, L_2078, rfl, rfl, ?_⟩)
                          replace hg := gt_b3 gn_2076 hg
                          clear gn_2076
                          have hf_2082 : Fm (fun c => c = o ∨ (o + 30 ≤ c ∧ c < o + 34)) I0 I_2077 := hf_1968.call fr_2080 (fun c hc => by first | exact hc | (dsimp only at hc ⊢; omega) | omega)
                          have t_2083 : (I_2077 o 3).toInt = (I_1965 o 3).toInt := by rw [kp_2081 3 rfl]
                          have t_2084 : (I_2077 o 4).toInt = (I_1965 o 4).toInt := by rw [kp_2081 4 rfl]
                          have t_2085 : (I_2077 o 6).toInt = (I_1965 o 6).toInt := by rw [kp_2081 6 rfl]
                          have t_2086 : (I_2077 o 7).toInt = (I_1965 o 7).toInt := by rw [kp_2081 7 rfl]
                          have t_2087 : (I_2077 o 8).toInt = (I_1965 o 8).toInt := by rw [kp_2081 8 rfl]
                          have t_2088 : (I_2077 o 9).toInt = (I_1965 o 9).toInt := by rw [kp_2081 9 rfl]
                          have t_2089 : (I_2077 o 44).toInt = (I_1965 o 44).toInt := by rw [kp_2081 44 rfl]
                          have t_2090 : (I_2077 o 45).toInt = (I_1965 o 45).toInt := by rw [kp_2081 45 rfl]
                          have t_2091 : (I_2077 o 47).toInt = (I_1965 o 47).toInt := by rw [kp_2081 47 rfl]
                          have g_2092 : (0 : Int) ≤ (I_2077 o 48).toInt ∧ (I_2077 o 48).toInt ≤ 80 := hR_2079.at0 ra 48 (by decide)
                          have t_2093 : (I_2077 o 46).toInt = (I_1965 o 46).toInt := by rw [kp_2081 46 rfl]
                          have k_2094 : MTd I_2077 o := k_1981.fr (fr_2080 _ (by first | omega | (dsimp only; omega))) (fr_2080 _ (by first | omega | (dsimp only; omega))) (fr_2080 _ (by first | omega | (dsimp only; omega)))
                          have k_2095 : MPo I_2077 o := k_1982.fr (kp_2081 8 rfl) (kp_2081 9 rfl)
                          have k_2096 : MTk I_2077 o := k_1983.fr (kp_2081 6 rfl) (kp_2081 7 rfl) (kp_2081 8 rfl)
                          have k_2097 : EX 0 1 1 f0 1 I_2077 o := by have z := EX.push k_1980 (v := 7) (s := 0) (dB := 1) (dO := 0) (wt' := 1) (by decide) (by decide) (by decide) (by omega) ⟨by decide, by decide⟩ ⟨fun h => absurd h (by decide), fun h => absurd h (by decide)⟩ (Or.inl rfl) (fr_2080 _ (by first | omega | (dsimp only; omega))) (fr_2080 _ (by first | omega | (dsimp only; omega))) (fr_2080 _ (by first | omega | (dsimp only; omega))) u_2073 u_2074 (kp_2081 3 rfl) (kp_2081 6 rfl) (kp_2081 44 rfl) (kp_2081 45 rfl) (kp_2081 47 rfl) u_2075; exact EX.chg (b' := 1) z rfl rfl rfl rfl rfl rfl rfl rfl rfl rfl (by omega) z.pl
                          have g_2098 : (0 : Int) ≤ (I_2077 o 47).toInt ∧ (I_2077 o 47).toInt ≤ 7 := hR_2079.at0 ra 47 (by decide)
                          replace hg := gt_let (y := (I_2077 o 47).toInt) rfl hg
                          have a_2099 : ((I_2077 o 47) + 1).toInt = (I_2077 o 47).toInt + (1 : Int32).toInt := tAdd (by omega) (by omega)
                          replace hg := gt_let (y := (((I_2077 o 47) + 1) : Int32).toInt) (by omega) hg
                          refine fun I_2100 e_2101 => ?_
                          replace hg := gt_let (y := tI I_2100) (tI_q e_2101) hg
                          have hR_2102 : RI R I_2100 := hR_2079.up0 (k := 47) ra (by decide) (Or.inr hz57) e_2101 (show (0 : Int) ≤ ((I_2077 o 47) + 1).toInt by omega) (show ((I_2077 o 47) + 1).toInt ≤ (7 : Int) by omega)
                          have hf_2103 : Fm (fun c => c = o ∨ (o + 30 ≤ c ∧ c < o + 34)) I0 I_2100 := hf_2082.set (by first | rfl | omega | (dsimp only; omega)) e_2101
                          have t_2104 : (I_2100 o 3).toInt = (I_2077 o 3).toInt := by rw [← e_2101, q_u_k (by decide)]
                          have t_2105 : (I_2100 o 4).toInt = (I_2077 o 4).toInt := by rw [← e_2101, q_u_k (by decide)]
                          have t_2106 : (I_2100 o 6).toInt = (I_2077 o 6).toInt := by rw [← e_2101, q_u_k (by decide)]
                          have t_2107 : (I_2100 o 7).toInt = (I_2077 o 7).toInt := by rw [← e_2101, q_u_k (by decide)]
                          have t_2108 : (I_2100 o 8).toInt = (I_2077 o 8).toInt := by rw [← e_2101, q_u_k (by decide)]
                          have t_2109 : (I_2100 o 9).toInt = (I_2077 o 9).toInt := by rw [← e_2101, q_u_k (by decide)]
                          have t_2110 : (I_2100 o 44).toInt = (I_2077 o 44).toInt := by rw [← e_2101, q_u_k (by decide)]
                          have t_2111 : (I_2100 o 45).toInt = (I_2077 o 45).toInt := by rw [← e_2101, q_u_k (by decide)]
                          have t_2112 : (I_2100 o 47).toInt = ((I_2077 o 47) + 1).toInt := by rw [← e_2101, q_u_at]
                          have t_2113 : (I_2100 o 48).toInt = (I_2077 o 48).toInt := by rw [← e_2101, q_u_k (by decide)]
                          have t_2114 : (I_2100 o 46).toInt = (I_2077 o 46).toInt := by rw [← e_2101, q_u_k (by decide)]
                          have k_2115 : MTd I_2100 o := k_2094.fr (by rw [← e_2101]; exact q_u_ne (by omega)) (by rw [← e_2101]; exact q_u_ne (by omega)) (by rw [← e_2101]; exact q_u_ne (by omega))
                          have k_2116 : MPo I_2100 o := k_2095.fr (by rw [← e_2101, q_u_k (by decide)]) (by rw [← e_2101, q_u_k (by decide)])
                          have k_2117 : MTk I_2100 o := k_2096.fr (by rw [← e_2101, q_u_k (by decide)]) (by rw [← e_2101, q_u_k (by decide)]) (by rw [← e_2101, q_u_k (by decide)])
                          have tk := k_2117.2 (by omega)
                          have k_2119 : EX 0 0 1 f0 1 I_2100 o := by exact EX.put47 k_2097 e_2101 (by omega)
                          refine y_Model_nextg hok hw ra hz16 hz17 hz18 hz19 (by first | omega | (intro h; omega) | exact Or.inl rfl | exact Or.inr rfl) hR_2102 (fun I_2130 L_2131 hR_2132 fr_2133 kp_2134 u_2121 u_2122 u_2123 u_2124 u_2125 u_2126 u_2127 u_2128 gn_2129 => ⟨I_2130, L_2131, rfl, rfl, ?_⟩)
                          replace hg := gt_b3 gn_2129 hg
                          clear gn_2129
                          have hf_2135 : Fm (fun c => c = o ∨ (o + 30 ≤ c ∧ c < o + 34)) I0 I_2130 := hf_2103.call fr_2133 (fun c hc => by first | exact hc | (dsimp only at hc ⊢; omega) | omega)
                          have t_2136 : (I_2130 o 3).toInt = (I_2100 o 3).toInt := by rw [kp_2134 3 rfl]
                          have t_2137 : (I_2130 o 4).toInt = (I_2100 o 4).toInt := by rw [kp_2134 4 rfl]
                          have g_2138 : (0 : Int) ≤ (I_2130 o 6).toInt ∧ (I_2130 o 6).toInt ≤ 1600 := hR_2132.at0 ra 6 (by decide)
                          have g_2139 : (0 : Int) ≤ (I_2130 o 7).toInt ∧ (I_2130 o 7).toInt ≤ 1601 := hR_2132.at0 ra 7 (by decide)
                          have g_2140 : (0 : Int) ≤ (I_2130 o 8).toInt ∧ (I_2130 o 8).toInt ≤ 6 := hR_2132.at0 ra 8 (by decide)
                          have t_2141 : (I_2130 o 44).toInt = (I_2100 o 44).toInt := by rw [kp_2134 44 rfl]
                          have t_2142 : (I_2130 o 45).toInt = (I_2100 o 45).toInt := by rw [kp_2134 45 rfl]
                          have t_2143 : (I_2130 o 47).toInt = (I_2100 o 47).toInt := by rw [kp_2134 47 rfl]
                          have t_2144 : (I_2130 o 48).toInt = (I_2100 o 48).toInt := by rw [kp_2134 48 rfl]
                          have t_2145 : (I_2130 o 46).toInt = (I_2100 o 46).toInt := by rw [kp_2134 46 rfl]
                          have k_2146 : MTd I_2130 o := k_2115.fr (fr_2133 _ (by first | omega | (dsimp only; omega))) (fr_2133 _ (by first | omega | (dsimp only; omega))) (fr_2133 _ (by first | omega | (dsimp only; omega)))
                          have ms := u_2124 (by omega)
                          have k_2147 : EX 0 0 0 f0 1 I_2130 o := by exact EX.nx k_2119 (fr_2133 _ (by first | omega | (dsimp only; omega))) (fr_2133 _ (by first | omega | (dsimp only; omega))) (fr_2133 _ (by first | omega | (dsimp only; omega))) (fr_2133 _ (by first | omega | (dsimp only; omega))) (fr_2133 _ (by first | omega | (dsimp only; omega))) (kp_2134 3 rfl) (kp_2134 44 rfl) (kp_2134 45 rfl) (kp_2134 47 rfl) (kp_2134 48 rfl) (by omega) (by omega)
                          exact (hp _ _ _ hR_2132 hf_2135 (Or.inr rfl) (by first | omega | (intro h; omega) | exact Or.inl rfl | exact Or.inr rfl) (by first | omega | (intro h; omega) | exact Or.inl rfl | exact Or.inr rfl) (by first | omega | (intro h; omega) | exact Or.inl rfl | exact Or.inr rfl) (by first | omega | (intro h; omega) | exact Or.inl rfl | exact Or.inr rfl) (by first | omega | (intro h; omega) | exact Or.inl rfl | exact Or.inr rfl) (by clear hg; first | (intro h; exfalso; omega) | exact fun _ => k_2147 | exact fun _ => (False.elim (by omega))) k_2146 u_2127 u_2128 hg.symm)
                        · have d_2148 := iEq c_2069
                          have i_2149 := u_2066 (by omega)
                          replace hg := gt_pos (by first | exact d_2148 | omega) hg
                          exact (hp _ _ _ hR_1967 hf_1968 (Or.inr rfl) (by first | omega | (intro h; omega) | exact Or.inl rfl | exact Or.inr rfl) (by first | omega | (intro h; omega) | exact Or.inl rfl | exact Or.inr rfl) (by first | omega | (intro h; omega) | exact Or.inl rfl | exact Or.inr rfl) (by first | omega | (intro h; omega) | exact Or.inl rfl | exact Or.inr rfl) (by first | omega | (intro h; omega) | exact Or.inl rfl | exact Or.inr rfl) (by clear hg; first | (intro h; exfalso; omega) | exact fun _ => k_1980 | exact fun _ => (False.elim (by omega))) k_1981 k_1982 k_1983 hg.symm)
                      · have d_2150 := iEq c_2061
                        replace hg := gt_pos (by first | exact d_2150 | omega) hg
                        refine y_Model_wrongg hok hw ra hz14 hz15 hR_1967 (fun I_2155 L_2156 hR_2157 fr_2158 kp_2159 u_2152 u_2153 gn_2154 => ⟨I_2155, L_2156, rfl, rfl, ?_⟩)
                        replace hg := gt_b3 gn_2154 hg
                        clear gn_2154
                        have hf_2160 : Fm (fun c => c = o ∨ (o + 30 ≤ c ∧ c < o + 34)) I0 I_2155 := hf_1968.call fr_2158 (fun c hc => by first | exact hc | (dsimp only at hc ⊢; omega) | omega)
                        have t_2161 : (I_2155 o 3).toInt = (I_1965 o 3).toInt := by rw [kp_2159 3 rfl]
                        have g_2162 : (0 : Int) ≤ (I_2155 o 4).toInt ∧ (I_2155 o 4).toInt ≤ 5 := hR_2157.at0 ra 4 (by decide)
                        have t_2163 : (I_2155 o 6).toInt = (I_1965 o 6).toInt := by rw [kp_2159 6 rfl]
                        have t_2164 : (I_2155 o 7).toInt = (I_1965 o 7).toInt := by rw [kp_2159 7 rfl]
                        have t_2165 : (I_2155 o 8).toInt = (I_1965 o 8).toInt := by rw [kp_2159 8 rfl]
                        have t_2166 : (I_2155 o 9).toInt = (I_1965 o 9).toInt := by rw [kp_2159 9 rfl]
                        have t_2167 : (I_2155 o 44).toInt = (I_1965 o 44).toInt := by rw [kp_2159 44 rfl]
                        have t_2168 : (I_2155 o 45).toInt = (I_1965 o 45).toInt := by rw [kp_2159 45 rfl]
                        have t_2169 : (I_2155 o 47).toInt = (I_1965 o 47).toInt := by rw [kp_2159 47 rfl]
                        have t_2170 : (I_2155 o 48).toInt = (I_1965 o 48).toInt := by rw [kp_2159 48 rfl]
                        have t_2171 : (I_2155 o 46).toInt = (I_1965 o 46).toInt := by rw [kp_2159 46 rfl]
                        have k_2172 : EX 0 0 0 f0 1 I_2155 o := k_1980.fr (fr_2158 _ (by first | omega | (dsimp only; omega))) (fr_2158 _ (by first | omega | (dsimp only; omega))) (fr_2158 _ (by first | omega | (dsimp only; omega))) (fr_2158 _ (by first | omega | (dsimp only; omega))) (fr_2158 _ (by first | omega | (dsimp only; omega))) (kp_2159 3 rfl) (kp_2159 6 rfl) (kp_2159 44 rfl) (kp_2159 45 rfl) (kp_2159 47 rfl) (kp_2159 48 rfl)
                        have k_2173 : MTd I_2155 o := k_1981.fr (fr_2158 _ (by first | omega | (dsimp only; omega))) (fr_2158 _ (by first | omega | (dsimp only; omega))) (fr_2158 _ (by first | omega | (dsimp only; omega)))
                        have k_2174 : MPo I_2155 o := k_1982.fr (kp_2159 8 rfl) (kp_2159 9 rfl)
                        have k_2175 : MTk I_2155 o := k_1983.fr (kp_2159 6 rfl) (kp_2159 7 rfl) (kp_2159 8 rfl)
                        refine y_Model_isGoodg hok hw ra hR_2157 (fun r_2176 u_2177 u_2178 u_2179 gn_2180 => ⟨r_2176, I_2155, L_2156, rfl, rfl, ?_⟩)
                        replace hg := gt_let gn_2180 hg
                        clear gn_2180
                        have b_2181 : 0 ≤ r_2176.toInt ∧ r_2176.toInt ≤ 1 := u_2177.rg
                        refine ⟨fun c_2182 => ?_, fun c_2182 => ?_⟩
                        · have d_2183 := iNe c_2182
                          have i_2184 := u_2178 (by omega)
                          replace hg := gt_neg (by first | exact d_2183 | omega) hg
                          refine y_Model_pileg hok hw ra hz58 (by first | omega | (intro h; omega) | exact Or.inl rfl | exact Or.inr rfl) (by first | omega | (intro h; omega) | exact Or.inl rfl | exact Or.inr rfl) hR_2157 (fun I_2190 L_2191 hR_2192 fr_2193 kp_2194 u_2186 u_2187 u_2188 gn_2189 => ⟨I_2190, L_2191, rfl, rfl, ?_⟩)
                          replace hg := gt_b3 gn_2189 hg
                          clear gn_2189
                          have hf_2195 : Fm (fun c => c = o ∨ (o + 30 ≤ c ∧ c < o + 34)) I0 I_2190 := hf_2160.call fr_2193 (fun c hc => by first | exact hc | (dsimp only at hc ⊢; omega) | omega)
                          have t_2196 : (I_2190 o 3).toInt = (I_2155 o 3).toInt := by rw [kp_2194 3 rfl]
                          have t_2197 : (I_2190 o 4).toInt = (I_2155 o 4).toInt := by rw [kp_2194 4 rfl]
                          have t_2198 : (I_2190 o 6).toInt = (I_2155 o 6).toInt := by rw [kp_2194 6 rfl]
                          have t_2199 : (I_2190 o 7).toInt = (I_2155 o 7).toInt := by rw [kp_2194 7 rfl]
                          have t_2200 : (I_2190 o 8).toInt = (I_2155 o 8).toInt := by rw [kp_2194 8 rfl]
                          have t_2201 : (I_2190 o 9).toInt = (I_2155 o 9).toInt := by rw [kp_2194 9 rfl]
                          have t_2202 : (I_2190 o 44).toInt = (I_2155 o 44).toInt := by rw [kp_2194 44 rfl]
                          have t_2203 : (I_2190 o 45).toInt = (I_2155 o 45).toInt := by rw [kp_2194 45 rfl]
                          have t_2204 : (I_2190 o 47).toInt = (I_2155 o 47).toInt := by rw [kp_2194 47 rfl]
                          have g_2205 : (0 : Int) ≤ (I_2190 o 48).toInt ∧ (I_2190 o 48).toInt ≤ 80 := hR_2192.at0 ra 48 (by decide)
                          have t_2206 : (I_2190 o 46).toInt = (I_2155 o 46).toInt := by rw [kp_2194 46 rfl]
                          have k_2207 : MTd I_2190 o := k_2173.fr (fr_2193 _ (by first | omega | (dsimp only; omega))) (fr_2193 _ (by first | omega | (dsimp only; omega))) (fr_2193 _ (by first | omega | (dsimp only; omega)))
                          have k_2208 : MPo I_2190 o := k_2174.fr (kp_2194 8 rfl) (kp_2194 9 rfl)
                          have k_2209 : MTk I_2190 o := k_2175.fr (kp_2194 6 rfl) (kp_2194 7 rfl) (kp_2194 8 rfl)
                          have k_2210 : EX 0 1 1 f0 1 I_2190 o := by have z := EX.push k_2172 (v := 7) (s := 0) (dB := 1) (dO := 0) (wt' := 1) (by decide) (by decide) (by decide) (by omega) ⟨by decide, by decide⟩ ⟨fun h => absurd h (by decide), fun h => absurd h (by decide)⟩ (Or.inl rfl) (fr_2193 _ (by first | omega | (dsimp only; omega))) (fr_2193 _ (by first | omega | (dsimp only; omega))) (fr_2193 _ (by first | omega | (dsimp only; omega))) u_2186 u_2187 (kp_2194 3 rfl) (kp_2194 6 rfl) (kp_2194 44 rfl) (kp_2194 45 rfl) (kp_2194 47 rfl) u_2188; exact EX.chg (b' := 1) z rfl rfl rfl rfl rfl rfl rfl rfl rfl rfl (by omega) z.pl
                          have g_2211 : (0 : Int) ≤ (I_2190 o 47).toInt ∧ (I_2190 o 47).toInt ≤ 7 := hR_2192.at0 ra 47 (by decide)
                          replace hg := gt_let (y := (I_2190 o 47).toInt) rfl hg
                          have a_2212 : ((I_2190 o 47) + 1).toInt = (I_2190 o 47).toInt + (1 : Int32).toInt := tAdd (by omega) (by omega)
                          replace hg := gt_let (y := (((I_2190 o 47) + 1) : Int32).toInt) (by omega) hg
                          refine fun I_2213 e_2214 => ?_
                          replace hg := gt_let (y := tI I_2213) (tI_q e_2214) hg
                          have hR_2215 : RI R I_2213 := hR_2192.up0 (k := 47) ra (by decide) (Or.inr hz57) e_2214 (show (0 : Int) ≤ ((I_2190 o 47) + 1).toInt by omega) (show ((I_2190 o 47) + 1).toInt ≤ (7 : Int) by omega)
                          have hf_2216 : Fm (fun c => c = o ∨ (o + 30 ≤ c ∧ c < o + 34)) I0 I_2213 := hf_2195.set (by first | rfl | omega | (dsimp only; omega)) e_2214
                          have t_2217 : (I_2213 o 3).toInt = (I_2190 o 3).toInt := by rw [← e_2214, q_u_k (by decide)]
                          have t_2218 : (I_2213 o 4).toInt = (I_2190 o 4).toInt := by rw [← e_2214, q_u_k (by decide)]
                          have t_2219 : (I_2213 o 6).toInt = (I_2190 o 6).toInt := by rw [← e_2214, q_u_k (by decide)]
                          have t_2220 : (I_2213 o 7).toInt = (I_2190 o 7).toInt := by rw [← e_2214, q_u_k (by decide)]
                          have t_2221 : (I_2213 o 8).toInt = (I_2190 o 8).toInt := by rw [← e_2214, q_u_k (by decide)]
                          have t_2222 : (I_2213 o 9).toInt = (I_2190 o 9).toInt := by rw [← e_2214, q_u_k (by decide)]
                          have t_2223 : (I_2213 o 44).toInt = (I_2190 o 44).toInt := by rw [← e_2214, q_u_k (by decide)]
                          have t_2224 : (I_2213 o 45).toInt = (I_2190 o 45).toInt := by rw [← e_2214, q_u_k (by decide)]
                          have t_2225 : (I_2213 o 47).toInt = ((I_2190 o 47) + 1).toInt := by rw [← e_2214, q_u_at]
                          have t_2226 : (I_2213 o 48).toInt = (I_2190 o 48).toInt := by rw [← e_2214, q_u_k (by decide)]
                          have t_2227 : (I_2213 o 46).toInt = (I_2190 o 46).toInt := by rw [← e_2214, q_u_k (by decide)]
                          have k_2228 : MTd I_2213 o := k_2207.fr (by rw [← e_2214]; exact q_u_ne (by omega)) (by rw [← e_2214]; exact q_u_ne (by omega)) (by rw [← e_2214]; exact q_u_ne (by omega))
                          have k_2229 : MPo I_2213 o := k_2208.fr (by rw [← e_2214, q_u_k (by decide)]) (by rw [← e_2214, q_u_k (by decide)])
                          have k_2230 : MTk I_2213 o := k_2209.fr (by rw [← e_2214, q_u_k (by decide)]) (by rw [← e_2214, q_u_k (by decide)]) (by rw [← e_2214, q_u_k (by decide)])
                          have tk := k_2230.2 (by omega)
                          have k_2232 : EX 0 0 1 f0 1 I_2213 o := by exact EX.put47 k_2210 e_2214 (by omega)
                          refine y_Model_nextg hok hw ra hz16 hz17 hz18 hz19 (by first | omega | (intro h; omega) | exact Or.inl rfl | exact Or.inr rfl) hR_2215 (fun I_2243 L_2244 hR_2245 fr_2246 kp_2247 u_2234 u_2235 u_2236 u_2237 u_2238 u_2239 u_2240 u_2241 gn_2242 => ⟨I_2243, L_2244, rfl, rfl, ?_⟩)
                          replace hg := gt_b3 gn_2242 hg
                          clear gn_2242
                          have hf_2248 : Fm (fun c => c = o ∨ (o + 30 ≤ c ∧ c < o + 34)) I0 I_2243 := hf_2216.call fr_2246 (fun c hc => by first | exact hc | (dsimp only at hc ⊢; omega) | omega)
                          have t_2249 : (I_2243 o 3).toInt = (I_2213 o 3).toInt := by rw [kp_2247 3 rfl]
                          have t_2250 : (I_2243 o 4).toInt = (I_2213 o 4).toInt := by rw [kp_2247 4 rfl]
                          have g_2251 : (0 : Int) ≤ (I_2243 o 6).toInt ∧ (I_2243 o 6).toInt ≤ 1600 := hR_2245.at0 ra 6 (by decide)
                          have g_2252 : (0 : Int) ≤ (I_2243 o 7).toInt ∧ (I_2243 o 7).toInt ≤ 1601 := hR_2245.at0 ra 7 (by decide)
                          have g_2253 : (0 : Int) ≤ (I_2243 o 8).toInt ∧ (I_2243 o 8).toInt ≤ 6 := hR_2245.at0 ra 8 (by decide)
                          have t_2254 : (I_2243 o 44).toInt = (I_2213 o 44).toInt := by rw [kp_2247 44 rfl]
                          have t_2255 : (I_2243 o 45).toInt = (I_2213 o 45).toInt := by rw [kp_2247 45 rfl]
                          have t_2256 : (I_2243 o 47).toInt = (I_2213 o 47).toInt := by rw [kp_2247 47 rfl]
                          have t_2257 : (I_2243 o 48).toInt = (I_2213 o 48).toInt := by rw [kp_2247 48 rfl]
                          have t_2258 : (I_2243 o 46).toInt = (I_2213 o 46).toInt := by rw [kp_2247 46 rfl]
                          have k_2259 : MTd I_2243 o := k_2228.fr (fr_2246 _ (by first | omega | (dsimp only; omega))) (fr_2246 _ (by first | omega | (dsimp only; omega))) (fr_2246 _ (by first | omega | (dsimp only; omega)))
                          have ms := u_2237 (by omega)
                          have k_2260 : EX 0 0 0 f0 1 I_2243 o := by exact EX.nx k_2232 (fr_2246 _ (by first | omega | (dsimp only; omega))) (fr_2246 _ (by first | omega | (dsimp only; omega))) (fr_2246 _ (by first | omega | (dsimp only; omega))) (fr_2246 _ (by first | omega | (dsimp only; omega))) (fr_2246 _ (by first | omega | (dsimp only; omega))) (kp_2247 3 rfl) (kp_2247 44 rfl) (kp_2247 45 rfl) (kp_2247 47 rfl) (kp_2247 48 rfl) (by omega) (by omega)
                          exact (hp _ _ _ hR_2245 hf_2248 (Or.inr rfl) (by first | omega | (intro h; omega) | exact Or.inl rfl | exact Or.inr rfl) (by first | omega | (intro h; omega) | exact Or.inl rfl | exact Or.inr rfl) (by first | omega | (intro h; omega) | exact Or.inl rfl | exact Or.inr rfl) (by first | omega | (intro h; omega) | exact Or.inl rfl | exact Or.inr rfl) (by first | omega | (intro h; omega) | exact Or.inl rfl | exact Or.inr rfl) (by clear hg; first | (intro h; exfalso; omega) | exact fun _ => k_2260 | exact fun _ => (False.elim (by omega))) k_2259 u_2240 u_2241 hg.symm)
                        · have d_2261 := iEq c_2182
                          have i_2262 := u_2179 (by omega)
                          replace hg := gt_pos (by first | exact d_2261 | omega) hg
                          exact (hp _ _ _ hR_2157 hf_2160 (Or.inr rfl) (by first | omega | (intro h; omega) | exact Or.inl rfl | exact Or.inr rfl) (by first | omega | (intro h; omega) | exact Or.inl rfl | exact Or.inr rfl) (by first | omega | (intro h; omega) | exact Or.inl rfl | exact Or.inr rfl) (by first | omega | (intro h; omega) | exact Or.inl rfl | exact Or.inr rfl) (by first | omega | (intro h; omega) | exact Or.inl rfl | exact Or.inr rfl) (by clear hg; first | (intro h; exfalso; omega) | exact fun _ => k_2172 | exact fun _ => (False.elim (by omega))) k_2173 k_2174 k_2175 hg.symm)
                  · have d_2263 := iEq c_1960
                    have i_2264 := u_1957 (by omega)
                    replace hg := gt_pos (by first | exact d_2263 | omega) hg
                    exact (hp _ _ _ hR_36 hf_39 (Or.inr rfl) (by first | omega | (intro h; omega) | exact Or.inl rfl | exact Or.inr rfl) (by first | omega | (intro h; omega) | exact Or.inl rfl | exact Or.inr rfl) (by first | omega | (intro h; omega) | exact Or.inl rfl | exact Or.inr rfl) (by first | omega | (intro h; omega) | exact Or.inl rfl | exact Or.inr rfl) (by first | omega | (intro h; omega) | exact Or.inl rfl | exact Or.inr rfl) (by clear hg; first | (intro h; exfalso; omega) | exact fun _ => k_50 | exact fun _ => (False.elim (by omega))) k_51 k_52 k_53 hg.symm)
                · have d_2265 := iEq c_1952
                  replace hg := gt_pos (by first | exact d_2265 | omega) hg
                  unfold fModel_unit_140
                  replace hg := (eModel_unit_140).symm.trans hg
                  refine y_Model_wrongg hok hw ra hz14 hz15 hR_36 (fun I_2270 L_2271 hR_2272 fr_2273 kp_2274 u_2267 u_2268 gn_2269 => ⟨I_2270, L_2271, rfl, rfl, ?_⟩)
                  replace hg := gt_b3 gn_2269 hg
                  clear gn_2269
                  have hf_2275 : Fm (fun c => c = o ∨ (o + 30 ≤ c ∧ c < o + 34)) I0 I_2270 := hf_39.call fr_2273 (fun c hc => by first | exact hc | (dsimp only at hc ⊢; omega) | omega)
                  have t_2276 : (I_2270 o 3).toInt = (I_34 o 3).toInt := by rw [kp_2274 3 rfl]
                  have g_2277 : (0 : Int) ≤ (I_2270 o 4).toInt ∧ (I_2270 o 4).toInt ≤ 5 := hR_2272.at0 ra 4 (by decide)
                  have t_2278 : (I_2270 o 6).toInt = (I_34 o 6).toInt := by rw [kp_2274 6 rfl]
                  have t_2279 : (I_2270 o 7).toInt = (I_34 o 7).toInt := by rw [kp_2274 7 rfl]
                  have t_2280 : (I_2270 o 8).toInt = (I_34 o 8).toInt := by rw [kp_2274 8 rfl]
                  have t_2281 : (I_2270 o 9).toInt = (I_34 o 9).toInt := by rw [kp_2274 9 rfl]
                  have t_2282 : (I_2270 o 44).toInt = (I_34 o 44).toInt := by rw [kp_2274 44 rfl]
                  have t_2283 : (I_2270 o 45).toInt = (I_34 o 45).toInt := by rw [kp_2274 45 rfl]
                  have t_2284 : (I_2270 o 47).toInt = (I_34 o 47).toInt := by rw [kp_2274 47 rfl]
                  have t_2285 : (I_2270 o 48).toInt = (I_34 o 48).toInt := by rw [kp_2274 48 rfl]
                  have t_2286 : (I_2270 o 46).toInt = (I_34 o 46).toInt := by rw [kp_2274 46 rfl]
                  have k_2287 : EX 0 0 0 f0 1 I_2270 o := k_50.fr (fr_2273 _ (by first | omega | (dsimp only; omega))) (fr_2273 _ (by first | omega | (dsimp only; omega))) (fr_2273 _ (by first | omega | (dsimp only; omega))) (fr_2273 _ (by first | omega | (dsimp only; omega))) (fr_2273 _ (by first | omega | (dsimp only; omega))) (kp_2274 3 rfl) (kp_2274 6 rfl) (kp_2274 44 rfl) (kp_2274 45 rfl) (kp_2274 47 rfl) (kp_2274 48 rfl)
                  have k_2288 : MTd I_2270 o := k_51.fr (fr_2273 _ (by first | omega | (dsimp only; omega))) (fr_2273 _ (by first | omega | (dsimp only; omega))) (fr_2273 _ (by first | omega | (dsimp only; omega)))
                  have k_2289 : MPo I_2270 o := k_52.fr (kp_2274 8 rfl) (kp_2274 9 rfl)
                  have k_2290 : MTk I_2270 o := k_53.fr (kp_2274 6 rfl) (kp_2274 7 rfl) (kp_2274 8 rfl)
                  refine y_Model_isGoodg hok hw ra hR_2272 (fun r_2291 u_2292 u_2293 u_2294 gn_2295 => ⟨r_2291, I_2270, L_2271, rfl, rfl, ?_⟩)
                  replace hg := gt_let gn_2295 hg
                  clear gn_2295
                  have b_2296 : 0 ≤ r_2291.toInt ∧ r_2291.toInt ≤ 1 := u_2292.rg
                  refine ⟨fun c_2297 => ?_, fun c_2297 => ?_⟩
                  · have d_2298 := iNe c_2297
                    have i_2299 := u_2293 (by omega)
                    replace hg := gt_neg (by first | exact d_2298 | omega) hg
                    have g_2300 : (0 : Int) ≤ (I_2270 o 46).toInt ∧ (I_2270 o 46).toInt ≤ 100 := hR_2272.at0 ra 46 (by decide)
                    replace hg := gt_let (y := (I_2270 o 46).toInt) rfl hg
                    have a_2301 : ((I_2270 o 46) + 1).toInt = (I_2270 o 46).toInt + (1 : Int32).toInt := tAdd (by omega) (by omega)
                    replace hg := gt_let (y := (((I_2270 o 46) + 1) : Int32).toInt) (by omega) hg
                    refine fun I_2302 e_2303 => ?_
                    replace hg := gt_let (y := tI I_2302) (tI_q e_2303) hg
                    have hR_2304 : RI R I_2302 := hR_2272.up0 (k := 46) ra (by decide) (Or.inr hz56) e_2303 (show (0 : Int) ≤ ((I_2270 o 46) + 1).toInt by omega) (show ((I_2270 o 46) + 1).toInt ≤ (100 : Int) by omega)
                    have hf_2305 : Fm (fun c => c = o ∨ (o + 30 ≤ c ∧ c < o + 34)) I0 I_2302 := hf_2275.set (by first | rfl | omega | (dsimp only; omega)) e_2303
                    have t_2306 : (I_2302 o 3).toInt = (I_2270 o 3).toInt := by rw [← e_2303, q_u_k (by decide)]
                    have t_2307 : (I_2302 o 4).toInt = (I_2270 o 4).toInt := by rw [← e_2303, q_u_k (by decide)]
                    have t_2308 : (I_2302 o 6).toInt = (I_2270 o 6).toInt := by rw [← e_2303, q_u_k (by decide)]
                    have t_2309 : (I_2302 o 7).toInt = (I_2270 o 7).toInt := by rw [← e_2303, q_u_k (by decide)]
                    have t_2310 : (I_2302 o 8).toInt = (I_2270 o 8).toInt := by rw [← e_2303, q_u_k (by decide)]
                    have t_2311 : (I_2302 o 9).toInt = (I_2270 o 9).toInt := by rw [← e_2303, q_u_k (by decide)]
                    have t_2312 : (I_2302 o 44).toInt = (I_2270 o 44).toInt := by rw [← e_2303, q_u_k (by decide)]
                    have t_2313 : (I_2302 o 45).toInt = (I_2270 o 45).toInt := by rw [← e_2303, q_u_k (by decide)]
                    have t_2314 : (I_2302 o 47).toInt = (I_2270 o 47).toInt := by rw [← e_2303, q_u_k (by decide)]
                    have t_2315 : (I_2302 o 48).toInt = (I_2270 o 48).toInt := by rw [← e_2303, q_u_k (by decide)]
                    have t_2316 : (I_2302 o 46).toInt = ((I_2270 o 46) + 1).toInt := by rw [← e_2303, q_u_at]
                    have k_2317 : EX 0 0 0 f0 1 I_2302 o := k_2287.fr (by rw [← e_2303]; exact q_u_ne (by omega)) (by rw [← e_2303]; exact q_u_ne (by omega)) (by rw [← e_2303]; exact q_u_ne (by omega)) (by rw [← e_2303]; exact q_u_ne (by omega)) (by rw [← e_2303]; exact q_u_ne (by omega)) (by rw [← e_2303, q_u_k (by decide)]) (by rw [← e_2303, q_u_k (by decide)]) (by rw [← e_2303, q_u_k (by decide)]) (by rw [← e_2303, q_u_k (by decide)]) (by rw [← e_2303, q_u_k (by decide)]) (by rw [← e_2303, q_u_k (by decide)])
                    have k_2318 : MTd I_2302 o := k_2288.fr (by rw [← e_2303]; exact q_u_ne (by omega)) (by rw [← e_2303]; exact q_u_ne (by omega)) (by rw [← e_2303]; exact q_u_ne (by omega))
                    have k_2319 : MPo I_2302 o := k_2289.fr (by rw [← e_2303, q_u_k (by decide)]) (by rw [← e_2303, q_u_k (by decide)])
                    have k_2320 : MTk I_2302 o := k_2290.fr (by rw [← e_2303, q_u_k (by decide)]) (by rw [← e_2303, q_u_k (by decide)]) (by rw [← e_2303, q_u_k (by decide)])
                    refine y_Model_isg hok hw ra hR_2304 (fun r_2321 u_2322 u_2323 u_2324 gn_2325 => ⟨r_2321, I_2302, L_2271, rfl, rfl, ?_⟩)
                    replace hg := gt_let gn_2325 hg
                    clear gn_2325
                    have b_2326 : 0 ≤ r_2321.toInt ∧ r_2321.toInt ≤ 1 := u_2322.rg
                    refine ⟨fun c_2327 => ?_, fun c_2327 => ?_⟩
                    · have d_2328 := iEq c_2327
                      replace hg := gt_pos (by first | exact d_2328 | omega) hg
                      have cd := k_2317.cod
                      have tk := k_2320.2 (by omega)
                      refine ⟨fun c_2329 => ?_, fun c_2329 => ?_⟩
                      · have d_2330 := iNe c_2329
                        have i_2331 := u_30 (by omega)
                        have i_2332 := u_31 (by omega)
                        exfalso; omega
                      · have d_2333 := iEq c_2329
                        replace hg := gt_pos (by first | exact d_2333 | omega) hg
                        unfold fModel_unit_228
                        replace hg := (eModel_unit_228).symm.trans hg
                        have l_2334 : (78 : Int32).toInt = 78 := rfl
                        refine ⟨fun c_2335 => ?_, fun c_2335 => ?_⟩
                        · have d_2336 := iNe c_2335
                          have i_2337 := u_30 (by omega)
                          have i_2338 := u_31 (by omega)
                          exfalso; omega
                        · have d_2339 := iEq c_2335
                          replace hg := gt_pos (by first | exact d_2339 | omega) hg
                          replace hg := gt_let (y := (I_2302 o 9).toInt) rfl hg
                          refine y_Model_stepg hok hw ra hz55 (by first | omega | (intro h; omega) | exact Or.inl rfl | exact Or.inr rfl) (by first | omega | (intro h; omega) | exact Or.inl rfl | exact Or.inr rfl) hR_2304 (fun I_2344 L_2345 hR_2346 fr_2347 kp_2348 u_2341 u_2342 gn_2343 => ⟨I_2344, L_2345, rfl, rfl, ?_⟩)
                          replace hg := gt_b3 gn_2343 hg
                          clear gn_2343
                          have hf_2349 : Fm (fun c => c = o ∨ (o + 30 ≤ c ∧ c < o + 34)) I0 I_2344 := hf_2305.call fr_2347 (fun c hc => by first | exact hc | (dsimp only at hc ⊢; omega) | omega)
                          have t_2350 : (I_2344 o 3).toInt = (I_2302 o 3).toInt := by rw [kp_2348 3 rfl]
                          have t_2351 : (I_2344 o 4).toInt = (I_2302 o 4).toInt := by rw [kp_2348 4 rfl]
                          have t_2352 : (I_2344 o 6).toInt = (I_2302 o 6).toInt := by rw [kp_2348 6 rfl]
                          have t_2353 : (I_2344 o 7).toInt = (I_2302 o 7).toInt := by rw [kp_2348 7 rfl]
                          have t_2354 : (I_2344 o 8).toInt = (I_2302 o 8).toInt := by rw [kp_2348 8 rfl]
                          have t_2355 : (I_2344 o 9).toInt = (I_2302 o 9).toInt := by rw [kp_2348 9 rfl]
                          have t_2356 : (I_2344 o 44).toInt = (I_2302 o 44).toInt := by rw [kp_2348 44 rfl]
                          have g_2357 : (0 : Int) ≤ (I_2344 o 45).toInt ∧ (I_2344 o 45).toInt ≤ 700 := hR_2346.at0 ra 45 (by decide)
                          have t_2358 : (I_2344 o 47).toInt = (I_2302 o 47).toInt := by rw [kp_2348 47 rfl]
                          have t_2359 : (I_2344 o 48).toInt = (I_2302 o 48).toInt := by rw [kp_2348 48 rfl]
                          have t_2360 : (I_2344 o 46).toInt = (I_2302 o 46).toInt := by rw [kp_2348 46 rfl]
                          have k_2361 : MPo I_2344 o := k_2319.fr (kp_2348 8 rfl) (kp_2348 9 rfl)
                          have k_2362 : MTk I_2344 o := k_2320.fr (kp_2348 6 rfl) (kp_2348 7 rfl) (kp_2348 8 rfl)
                          have tk := k_2362.2 (by omega)
                          have k_2363 : EX 0 0 1 f0 0 I_2344 o := by exact EX.step1 k_2317 (by first | exact u_30 (by omega) | (unfold isT; decide)) (by omega) (fr_2347 _ (by first | omega | (dsimp only; omega))) (fr_2347 _ (by first | omega | (dsimp only; omega))) u_2341 (fr_2347 _ (by first | omega | (dsimp only; omega))) (fr_2347 _ (by first | omega | (dsimp only; omega))) (kp_2348 3 rfl) (kp_2348 6 rfl) (kp_2348 44 rfl) u_2342 (kp_2348 47 rfl) (kp_2348 48 rfl)
                          have k_2364 : MTd I_2344 o := by exact MTd.step k_2318 (fr_2347 _ (by first | omega | (dsimp only; omega))) (fr_2347 _ (by first | omega | (dsimp only; omega))) u_2341 (by omega)
                          refine y_Model_nextg hok hw ra hz16 hz17 hz18 hz19 (by first | omega | (intro h; omega) | exact Or.inl rfl | exact Or.inr rfl) hR_2346 (fun I_2375 L_2376 hR_2377 fr_2378 kp_2379 u_2366 u_2367 u_2368 u_2369 u_2370 u_2371 u_2372 u_2373 gn_2374 => ⟨I_2375, L_2376, rfl, rfl, ?_⟩)
                          replace hg := gt_b3 gn_2374 hg
                          clear gn_2374
                          have hf_2380 : Fm (fun c => c = o ∨ (o + 30 ≤ c ∧ c < o + 34)) I0 I_2375 := hf_2349.call fr_2378 (fun c hc => by first | exact hc | (dsimp only at hc ⊢; omega) | omega)
                          have t_2381 : (I_2375 o 3).toInt = (I_2344 o 3).toInt := by rw [kp_2379 3 rfl]
                          have t_2382 : (I_2375 o 4).toInt = (I_2344 o 4).toInt := by rw [kp_2379 4 rfl]
                          have g_2383 : (0 : Int) ≤ (I_2375 o 6).toInt ∧ (I_2375 o 6).toInt ≤ 1600 := hR_2377.at0 ra 6 (by decide)
                          have g_2384 : (0 : Int) ≤ (I_2375 o 7).toInt ∧ (I_2375 o 7).toInt ≤ 1601 := hR_2377.at0 ra 7 (by decide)
                          have g_2385 : (0 : Int) ≤ (I_2375 o 8).toInt ∧ (I_2375 o 8).toInt ≤ 6 := hR_2377.at0 ra 8 (by decide)
                          have t_2386 : (I_2375 o 44).toInt = (I_2344 o 44).toInt := by rw [kp_2379 44 rfl]
                          have t_2387 : (I_2375 o 45).toInt = (I_2344 o 45).toInt := by rw [kp_2379 45 rfl]
                          have t_2388 : (I_2375 o 47).toInt = (I_2344 o 47).toInt := by rw [kp_2379 47 rfl]
                          have t_2389 : (I_2375 o 48).toInt = (I_2344 o 48).toInt := by rw [kp_2379 48 rfl]
                          have t_2390 : (I_2375 o 46).toInt = (I_2344 o 46).toInt := by rw [kp_2379 46 rfl]
                          have k_2391 : MTd I_2375 o := k_2364.fr (fr_2378 _ (by first | omega | (dsimp only; omega))) (fr_2378 _ (by first | omega | (dsimp only; omega))) (fr_2378 _ (by first | omega | (dsimp only; omega)))
                          have ms := u_2369 (by omega)
                          have k_2392 : EX 0 0 0 f0 0 I_2375 o := by exact EX.nx k_2363 (fr_2378 _ (by first | omega | (dsimp only; omega))) (fr_2378 _ (by first | omega | (dsimp only; omega))) (fr_2378 _ (by first | omega | (dsimp only; omega))) (fr_2378 _ (by first | omega | (dsimp only; omega))) (fr_2378 _ (by first | omega | (dsimp only; omega))) (kp_2379 3 rfl) (kp_2379 44 rfl) (kp_2379 45 rfl) (kp_2379 47 rfl) (kp_2379 48 rfl) (by omega) (by omega)
                          exact (hp _ _ _ hR_2377 hf_2380 (Or.inl rfl) (by first | omega | (intro h; omega) | exact Or.inl rfl | exact Or.inr rfl) (by first | omega | (intro h; omega) | exact Or.inl rfl | exact Or.inr rfl) (by first | omega | (intro h; omega) | exact Or.inl rfl | exact Or.inr rfl) (by first | omega | (intro h; omega) | exact Or.inl rfl | exact Or.inr rfl) (by first | omega | (intro h; omega) | exact Or.inl rfl | exact Or.inr rfl) (by clear hg; first | (intro h; exfalso; omega) | exact fun _ => (False.elim (by omega)) | exact fun _ => k_2392) k_2391 u_2372 u_2373 hg.symm)
                    · have d_2393 := iNe c_2327
                      have i_2394 := u_2323 (by omega)
                      have i_2395 := u_2324 (by omega)
                      replace hg := gt_neg (by first | exact d_2393 | omega) hg
                      have g_2396 : (0 : Int) ≤ (I_2302 o 47).toInt ∧ (I_2302 o 47).toInt ≤ 7 := hR_2304.at0 ra 47 (by decide)
                      replace hg := gt_let (y := (I_2302 o 47).toInt) rfl hg
                      have l_2397 : (7 : Int32).toInt = 7 := rfl
                      refine ⟨fun c_2398 => ?_, fun c_2398 => ?_⟩
                      · have d_2399 := iNe c_2398
                        replace hg := gt_neg (by first | exact d_2399 | omega) hg
                        refine y_Model_isGoodg hok hw ra hR_2304 (fun r_2400 u_2401 u_2402 u_2403 gn_2404 => ⟨r_2400, I_2302, L_2271, rfl, rfl, ?_⟩)
                        replace hg := gt_let gn_2404 hg
                        clear gn_2404
                        have b_2405 : 0 ≤ r_2400.toInt ∧ r_2400.toInt ≤ 1 := u_2401.rg
                        refine ⟨fun c_2406 => ?_, fun c_2406 => ?_⟩
                        · have d_2407 := iNe c_2406
                          have i_2408 := u_2402 (by omega)
                          replace hg := gt_neg (by first | exact d_2407 | omega) hg
                          refine y_Model_pileg hok hw ra hz58 (by first | omega | (intro h; omega) | exact Or.inl rfl | exact Or.inr rfl) (by first | omega | (intro h; omega) | exact Or.inl rfl | exact Or.inr rfl) hR_2304 (fun I_2414 L_2415 hR_2416 fr_2417 kp_2418 u_2410 u_2411 u_2412 gn_2413 => ⟨I_2414, L_2415, rfl, rfl, ?_⟩)
                          replace hg := gt_b3 gn_2413 hg
                          clear gn_2413
                          have hf_2419 : Fm (fun c => c = o ∨ (o + 30 ≤ c ∧ c < o + 34)) I0 I_2414 := hf_2305.call fr_2417 (fun c hc => by first | exact hc | (dsimp only at hc ⊢; omega) | omega)
                          have t_2420 : (I_2414 o 3).toInt = (I_2302 o 3).toInt := by rw [kp_2418 3 rfl]
                          have t_2421 : (I_2414 o 4).toInt = (I_2302 o 4).toInt := by rw [kp_2418 4 rfl]
                          have t_2422 : (I_2414 o 6).toInt = (I_2302 o 6).toInt := by rw [kp_2418 6 rfl]
                          have t_2423 : (I_2414 o 7).toInt = (I_2302 o 7).toInt := by rw [kp_2418 7 rfl]
                          have t_2424 : (I_2414 o 8).toInt = (I_2302 o 8).toInt := by rw [kp_2418 8 rfl]
                          have t_2425 : (I_2414 o 9).toInt = (I_2302 o 9).toInt := by rw [kp_2418 9 rfl]
                          have t_2426 : (I_2414 o 44).toInt = (I_2302 o 44).toInt := by rw [kp_2418 44 rfl]
                          have t_2427 : (I_2414 o 45).toInt = (I_2302 o 45).toInt := by rw [kp_2418 45 rfl]
                          have t_2428 : (I_2414 o 47).toInt = (I_2302 o 47).toInt := by rw [kp_2418 47 rfl]
                          have g_2429 : (0 : Int) ≤ (I_2414 o 48).toInt ∧ (I_2414 o 48).toInt ≤ 80 := hR_2416.at0 ra 48 (by decide)
                          have t_2430 : (I_2414 o 46).toInt = (I_2302 o 46).toInt := by rw [kp_2418 46 rfl]
                          have k_2431 : MTd I_2414 o := k_2318.fr (fr_2417 _ (by first | omega | (dsimp only; omega))) (fr_2417 _ (by first | omega | (dsimp only; omega))) (fr_2417 _ (by first | omega | (dsimp only; omega)))
                          have k_2432 : MPo I_2414 o := k_2319.fr (kp_2418 8 rfl) (kp_2418 9 rfl)
                          have k_2433 : MTk I_2414 o := k_2320.fr (kp_2418 6 rfl) (kp_2418 7 rfl) (kp_2418 8 rfl)
                          have k_2434 : EX 0 1 1 f0 1 I_2414 o := by have z := EX.push k_2317 (v := 7) (s := 0) (dB := 1) (dO := 0) (wt' := 1) (by decide) (by decide) (by decide) (by omega) ⟨by decide, by decide⟩ ⟨fun h => absurd h (by decide), fun h => absurd h (by decide)⟩ (Or.inl rfl) (fr_2417 _ (by first | omega | (dsimp only; omega))) (fr_2417 _ (by first | omega | (dsimp only; omega))) (fr_2417 _ (by first | omega | (dsimp only; omega))) u_2410 u_2411 (kp_2418 3 rfl) (kp_2418 6 rfl) (kp_2418 44 rfl) (kp_2418 45 rfl) (kp_2418 47 rfl) u_2412; exact EX.chg (b' := 1) z rfl rfl rfl rfl rfl rfl rfl rfl rfl rfl (by omega) z.pl
                          have g_2435 : (0 : Int) ≤ (I_2414 o 47).toInt ∧ (I_2414 o 47).toInt ≤ 7 := hR_2416.at0 ra 47 (by decide)
                          replace hg := gt_let (y := (I_2414 o 47).toInt) rfl hg
                          have a_2436 : ((I_2414 o 47) + 1).toInt = (I_2414 o 47).toInt + (1 : Int32).toInt := tAdd (by omega) (by omega)
                          replace hg := gt_let (y := (((I_2414 o 47) + 1) : Int32).toInt) (by omega) hg
                          refine fun I_2437 e_2438 => ?_
                          replace hg := gt_let (y := tI I_2437) (tI_q e_2438) hg
                          have hR_2439 : RI R I_2437 := hR_2416.up0 (k := 47) ra (by decide) (Or.inr hz57) e_2438 (show (0 : Int) ≤ ((I_2414 o 47) + 1).toInt by omega) (show ((I_2414 o 47) + 1).toInt ≤ (7 : Int) by omega)
                          have hf_2440 : Fm (fun c => c = o ∨ (o + 30 ≤ c ∧ c < o + 34)) I0 I_2437 := hf_2419.set (by first | rfl | omega | (dsimp only; omega)) e_2438
                          have t_2441 : (I_2437 o 3).toInt = (I_2414 o 3).toInt := by rw [← e_2438, q_u_k (by decide)]
                          have t_2442 : (I_2437 o 4).toInt = (I_2414 o 4).toInt := by rw [← e_2438, q_u_k (by decide)]
                          have t_2443 : (I_2437 o 6).toInt = (I_2414 o 6).toInt := by rw [← e_2438, q_u_k (by decide)]
                          have t_2444 : (I_2437 o 7).toInt = (I_2414 o 7).toInt := by rw [← e_2438, q_u_k (by decide)]
                          have t_2445 : (I_2437 o 8).toInt = (I_2414 o 8).toInt := by rw [← e_2438, q_u_k (by decide)]
                          have t_2446 : (I_2437 o 9).toInt = (I_2414 o 9).toInt := by rw [← e_2438, q_u_k (by decide)]
                          have t_2447 : (I_2437 o 44).toInt = (I_2414 o 44).toInt := by rw [← e_2438, q_u_k (by decide)]
                          have t_2448 : (I_2437 o 45).toInt = (I_2414 o 45).toInt := by rw [← e_2438, q_u_k (by decide)]
                          have t_2449 : (I_2437 o 47).toInt = ((I_2414 o 47) + 1).toInt := by rw [← e_2438, q_u_at]
                          have t_2450 : (I_2437 o 48).toInt = (I_2414 o 48).toInt := by rw [← e_2438, q_u_k (by decide)]
                          have t_2451 : (I_2437 o 46).toInt = (I_2414 o 46).toInt := by rw [← e_2438, q_u_k (by decide)]
                          have k_2452 : MTd I_2437 o := k_2431.fr (by rw [← e_2438]; exact q_u_ne (by omega)) (by rw [← e_2438]; exact q_u_ne (by omega)) (by rw [← e_2438]; exact q_u_ne (by omega))
                          have k_2453 : MPo I_2437 o := k_2432.fr (by rw [← e_2438, q_u_k (by decide)]) (by rw [← e_2438, q_u_k (by decide)])
                          have k_2454 : MTk I_2437 o := k_2433.fr (by rw [← e_2438, q_u_k (by decide)]) (by rw [← e_2438, q_u_k (by decide)]) (by rw [← e_2438, q_u_k (by decide)])
                          have tk := k_2454.2 (by omega)
                          have k_2456 : EX 0 0 1 f0 1 I_2437 o := by exact EX.put47 k_2434 e_2438 (by omega)
                          refine y_Model_nextg hok hw ra hz16 hz17 hz18 hz19 (by first | omega | (intro h; omega) | exact Or.inl rfl | exact Or.inr rfl) hR_2439 (fun I_2467 L_2468 hR_2469 fr_2470 kp_2471 u_2458 u_2459 u_2460 u_2461 u_2462 u_2463 u_2464 u_2465 gn_2466 => ⟨I_2467, L_2468, rfl, rfl, ?_⟩)
                          replace hg := gt_b3 gn_2466 hg
                          clear gn_2466
                          have hf_2472 : Fm (fun c => c = o ∨ (o + 30 ≤ c ∧ c < o + 34)) I0 I_2467 := hf_2440.call fr_2470 (fun c hc => by first | exact hc | (dsimp only at hc ⊢; omega) | omega)
                          have t_2473 : (I_2467 o 3).toInt = (I_2437 o 3).toInt := by rw [kp_2471 3 rfl]
                          have t_2474 : (I_2467 o 4).toInt = (I_2437 o 4).toInt := by rw [kp_2471 4 rfl]
                          have g_2475 : (0 : Int) ≤ (I_2467 o 6).toInt ∧ (I_2467 o 6).toInt ≤ 1600 := hR_2469.at0 ra 6 (by decide)
                          have g_2476 : (0 : Int) ≤ (I_2467 o 7).toInt ∧ (I_2467 o 7).toInt ≤ 1601 := hR_2469.at0 ra 7 (by decide)
                          have g_2477 : (0 : Int) ≤ (I_2467 o 8).toInt ∧ (I_2467 o 8).toInt ≤ 6 := hR_2469.at0 ra 8 (by decide)
                          have t_2478 : (I_2467 o 44).toInt = (I_2437 o 44).toInt := by rw [kp_2471 44 rfl]
                          have t_2479 : (I_2467 o 45).toInt = (I_2437 o 45).toInt := by rw [kp_2471 45 rfl]
                          have t_2480 : (I_2467 o 47).toInt = (I_2437 o 47).toInt := by rw [kp_2471 47 rfl]
                          have t_2481 : (I_2467 o 48).toInt = (I_2437 o 48).toInt := by rw [kp_2471 48 rfl]
                          have t_2482 : (I_2467 o 46).toInt = (I_2437 o 46).toInt := by rw [kp_2471 46 rfl]
                          have k_2483 : MTd I_2467 o := k_2452.fr (fr_2470 _ (by first | omega | (dsimp only; omega))) (fr_2470 _ (by first | omega | (dsimp only; omega))) (fr_2470 _ (by first | omega | (dsimp only; omega)))
                          have ms := u_2461 (by omega)
                          have k_2484 : EX 0 0 0 f0 1 I_2467 o := by exact EX.nx k_2456 (fr_2470 _ (by first | omega | (dsimp only; omega))) (fr_2470 _ (by first | omega | (dsimp only; omega))) (fr_2470 _ (by first | omega | (dsimp only; omega))) (fr_2470 _ (by first | omega | (dsimp only; omega))) (fr_2470 _ (by first | omega | (dsimp only; omega))) (kp_2471 3 rfl) (kp_2471 44 rfl) (kp_2471 45 rfl) (kp_2471 47 rfl) (kp_2471 48 rfl) (by omega) (by omega)
                          exact (hp _ _ _ hR_2469 hf_2472 (Or.inr rfl) (by first | omega | (intro h; omega) | exact Or.inl rfl | exact Or.inr rfl) (by first | omega | (intro h; omega) | exact Or.inl rfl | exact Or.inr rfl) (by first | omega | (intro h; omega) | exact Or.inl rfl | exact Or.inr rfl) (by first | omega | (intro h; omega) | exact Or.inl rfl | exact Or.inr rfl) (by first | omega | (intro h; omega) | exact Or.inl rfl | exact Or.inr rfl) (by clear hg; first | (intro h; exfalso; omega) | exact fun _ => k_2484 | exact fun _ => (False.elim (by omega))) k_2483 u_2464 u_2465 hg.symm)
                        · have d_2485 := iEq c_2406
                          have i_2486 := u_2403 (by omega)
                          replace hg := gt_pos (by first | exact d_2485 | omega) hg
                          exact (hp _ _ _ hR_2304 hf_2305 (Or.inr rfl) (by first | omega | (intro h; omega) | exact Or.inl rfl | exact Or.inr rfl) (by first | omega | (intro h; omega) | exact Or.inl rfl | exact Or.inr rfl) (by first | omega | (intro h; omega) | exact Or.inl rfl | exact Or.inr rfl) (by first | omega | (intro h; omega) | exact Or.inl rfl | exact Or.inr rfl) (by first | omega | (intro h; omega) | exact Or.inl rfl | exact Or.inr rfl) (by clear hg; first | (intro h; exfalso; omega) | exact fun _ => k_2317 | exact fun _ => (False.elim (by omega))) k_2318 k_2319 k_2320 hg.symm)
                      · have d_2487 := iEq c_2398
                        replace hg := gt_pos (by first | exact d_2487 | omega) hg
                        refine y_Model_wrongg hok hw ra hz14 hz15 hR_2304 (fun I_2492 L_2493 hR_2494 fr_2495 kp_2496 u_2489 u_2490 gn_2491 => ⟨I_2492, L_2493, rfl, rfl, ?_⟩)
                        replace hg := gt_b3 gn_2491 hg
                        clear gn_2491
                        have hf_2497 : Fm (fun c => c = o ∨ (o + 30 ≤ c ∧ c < o + 34)) I0 I_2492 := hf_2305.call fr_2495 (fun c hc => by first | exact hc | (dsimp only at hc ⊢; omega) | omega)
                        have t_2498 : (I_2492 o 3).toInt = (I_2302 o 3).toInt := by rw [kp_2496 3 rfl]
                        have g_2499 : (0 : Int) ≤ (I_2492 o 4).toInt ∧ (I_2492 o 4).toInt ≤ 5 := hR_2494.at0 ra 4 (by decide)
                        have t_2500 : (I_2492 o 6).toInt = (I_2302 o 6).toInt := by rw [kp_2496 6 rfl]
                        have t_2501 : (I_2492 o 7).toInt = (I_2302 o 7).toInt := by rw [kp_2496 7 rfl]
                        have t_2502 : (I_2492 o 8).toInt = (I_2302 o 8).toInt := by rw [kp_2496 8 rfl]
                        have t_2503 : (I_2492 o 9).toInt = (I_2302 o 9).toInt := by rw [kp_2496 9 rfl]
                        have t_2504 : (I_2492 o 44).toInt = (I_2302 o 44).toInt := by rw [kp_2496 44 rfl]
                        have t_2505 : (I_2492 o 45).toInt = (I_2302 o 45).toInt := by rw [kp_2496 45 rfl]
                        have t_2506 : (I_2492 o 47).toInt = (I_2302 o 47).toInt := by rw [kp_2496 47 rfl]
                        have t_2507 : (I_2492 o 48).toInt = (I_2302 o 48).toInt := by rw [kp_2496 48 rfl]
                        have t_2508 : (I_2492 o 46).toInt = (I_2302 o 46).toInt := by rw [kp_2496 46 rfl]
                        have k_2509 : EX 0 0 0 f0 1 I_2492 o := k_2317.fr (fr_2495 _ (by first | omega | (dsimp only; omega))) (fr_2495 _ (by first | omega | (dsimp only; omega))) (fr_2495 _ (by first | omega | (dsimp only; omega))) (fr_2495 _ (by first | omega | (dsimp only; omega))) (fr_2495 _ (by first | omega | (dsimp only; omega))) (kp_2496 3 rfl) (kp_2496 6 rfl) (kp_2496 44 rfl) (kp_2496 45 rfl) (kp_2496 47 rfl) (kp_2496 48 rfl)
                        have k_2510 : MTd I_2492 o := k_2318.fr (fr_2495 _ (by first | omega | (dsimp only; omega))) (fr_2495 _ (by first | omega | (dsimp only; omega))) (fr_2495 _ (by first | omega | (dsimp only; omega)))
                        have k_2511 : MPo I_2492 o := k_2319.fr (kp_2496 8 rfl) (kp_2496 9 rfl)
                        have k_2512 : MTk I_2492 o := k_2320.fr (kp_2496 6 rfl) (kp_2496 7 rfl) (kp_2496 8 rfl)
                        refine y_Model_isGoodg hok hw ra hR_2494 (fun r_2513 u_2514 u_2515 u_2516 gn_2517 => ⟨r_2513, I_2492, L_2493, rfl, rfl, ?_⟩)
                        replace hg := gt_let gn_2517 hg
                        clear gn_2517
                        have b_2518 : 0 ≤ r_2513.toInt ∧ r_2513.toInt ≤ 1 := u_2514.rg
                        refine ⟨fun c_2519 => ?_, fun c_2519 => ?_⟩
                        · have d_2520 := iNe c_2519
                          have i_2521 := u_2515 (by omega)
                          replace hg := gt_neg (by first | exact d_2520 | omega) hg
                          refine y_Model_pileg hok hw ra hz58 (by first | omega | (intro h; omega) | exact Or.inl rfl | exact Or.inr rfl) (by first | omega | (intro h; omega) | exact Or.inl rfl | exact Or.inr rfl) hR_2494 (fun I_2527 L_2528 hR_2529 fr_2530 kp_2531 u_2523 u_2524 u_2525 gn_2526 => ⟨I_2527, L_2528, rfl, rfl, ?_⟩)
                          replace hg := gt_b3 gn_2526 hg
                          clear gn_2526
                          have hf_2532 : Fm (fun c => c = o ∨ (o + 30 ≤ c ∧ c < o + 34)) I0 I_2527 := hf_2497.call fr_2530 (fun c hc => by first | exact hc | (dsimp only at hc ⊢; omega) | omega)
                          have t_2533 : (I_2527 o 3).toInt = (I_2492 o 3).toInt := by rw [kp_2531 3 rfl]
                          have t_2534 : (I_2527 o 4).toInt = (I_2492 o 4).toInt := by rw [kp_2531 4 rfl]
                          have t_2535 : (I_2527 o 6).toInt = (I_2492 o 6).toInt := by rw [kp_2531 6 rfl]
                          have t_2536 : (I_2527 o 7).toInt = (I_2492 o 7).toInt := by rw [kp_2531 7 rfl]
                          have t_2537 : (I_2527 o 8).toInt = (I_2492 o 8).toInt := by rw [kp_2531 8 rfl]
                          have t_2538 : (I_2527 o 9).toInt = (I_2492 o 9).toInt := by rw [kp_2531 9 rfl]
                          have t_2539 : (I_2527 o 44).toInt = (I_2492 o 44).toInt := by rw [kp_2531 44 rfl]
                          have t_2540 : (I_2527 o 45).toInt = (I_2492 o 45).toInt := by rw [kp_2531 45 rfl]
                          have t_2541 : (I_2527 o 47).toInt = (I_2492 o 47).toInt := by rw [kp_2531 47 rfl]
                          have g_2542 : (0 : Int) ≤ (I_2527 o 48).toInt ∧ (I_2527 o 48).toInt ≤ 80 := hR_2529.at0 ra 48 (by decide)
                          have t_2543 : (I_2527 o 46).toInt = (I_2492 o 46).toInt := by rw [kp_2531 46 rfl]
                          have k_2544 : MTd I_2527 o := k_2510.fr (fr_2530 _ (by first | omega | (dsimp only; omega))) (fr_2530 _ (by first | omega | (dsimp only; omega))) (fr_2530 _ (by first | omega | (dsimp only; omega)))
                          have k_2545 : MPo I_2527 o := k_2511.fr (kp_2531 8 rfl) (kp_2531 9 rfl)
                          have k_2546 : MTk I_2527 o := k_2512.fr (kp_2531 6 rfl) (kp_2531 7 rfl) (kp_2531 8 rfl)
                          have k_2547 : EX 0 1 1 f0 1 I_2527 o := by have z := EX.push k_2509 (v := 7) (s := 0) (dB := 1) (dO := 0) (wt' := 1) (by decide) (by decide) (by decide) (by omega) ⟨by decide, by decide⟩ ⟨fun h => absurd h (by decide), fun h => absurd h (by decide)⟩ (Or.inl rfl) (fr_2530 _ (by first | omega | (dsimp only; omega))) (fr_2530 _ (by first | omega | (dsimp only; omega))) (fr_2530 _ (by first | omega | (dsimp only; omega))) u_2523 u_2524 (kp_2531 3 rfl) (kp_2531 6 rfl) (kp_2531 44 rfl) (kp_2531 45 rfl) (kp_2531 47 rfl) u_2525; exact EX.chg (b' := 1) z rfl rfl rfl rfl rfl rfl rfl rfl rfl rfl (by omega) z.pl
                          have g_2548 : (0 : Int) ≤ (I_2527 o 47).toInt ∧ (I_2527 o 47).toInt ≤ 7 := hR_2529.at0 ra 47 (by decide)
                          replace hg := gt_let (y := (I_2527 o 47).toInt) rfl hg
                          have a_2549 : ((I_2527 o 47) + 1).toInt = (I_2527 o 47).toInt + (1 : Int32).toInt := tAdd (by omega) (by omega)
                          replace hg := gt_let (y := (((I_2527 o 47) + 1) : Int32).toInt) (by omega) hg
                          refine fun I_2550 e_2551 => ?_
                          replace hg := gt_let (y := tI I_2550) (tI_q e_2551) hg
                          have hR_2552 : RI R I_2550 := hR_2529.up0 (k := 47) ra (by decide) (Or.inr hz57) e_2551 (show (0 : Int) ≤ ((I_2527 o 47) + 1).toInt by omega) (show ((I_2527 o 47) + 1).toInt ≤ (7 : Int) by omega)
                          have hf_2553 : Fm (fun c => c = o ∨ (o + 30 ≤ c ∧ c < o + 34)) I0 I_2550 := hf_2532.set (by first | rfl | omega | (dsimp only; omega)) e_2551
                          have t_2554 : (I_2550 o 3).toInt = (I_2527 o 3).toInt := by rw [← e_2551, q_u_k (by decide)]
                          have t_2555 : (I_2550 o 4).toInt = (I_2527 o 4).toInt := by rw [← e_2551, q_u_k (by decide)]
                          have t_2556 : (I_2550 o 6).toInt = (I_2527 o 6).toInt := by rw [← e_2551, q_u_k (by decide)]
                          have t_2557 : (I_2550 o 7).toInt = (I_2527 o 7).toInt := by rw [← e_2551, q_u_k (by decide)]
                          have t_2558 : (I_2550 o 8).toInt = (I_2527 o 8).toInt := by rw [← e_2551, q_u_k (by decide)]
                          have t_2559 : (I_2550 o 9).toInt = (I_2527 o 9).toInt := by rw [← e_2551, q_u_k (by decide)]
                          have t_2560 : (I_2550 o 44).toInt = (I_2527 o 44).toInt := by rw [← e_2551, q_u_k (by decide)]
                          have t_2561 : (I_2550 o 45).toInt = (I_2527 o 45).toInt := by rw [← e_2551, q_u_k (by decide)]
                          have t_2562 : (I_2550 o 47).toInt = ((I_2527 o 47) + 1).toInt := by rw [← e_2551, q_u_at]
                          have t_2563 : (I_2550 o 48).toInt = (I_2527 o 48).toInt := by rw [← e_2551, q_u_k (by decide)]
                          have t_2564 : (I_2550 o 46).toInt = (I_2527 o 46).toInt := by rw [← e_2551, q_u_k (by decide)]
                          have k_2565 : MTd I_2550 o := k_2544.fr (by rw [← e_2551]; exact q_u_ne (by omega)) (by rw [← e_2551]; exact q_u_ne (by omega)) (by rw [← e_2551]; exact q_u_ne (by omega))
                          have k_2566 : MPo I_2550 o := k_2545.fr (by rw [← e_2551, q_u_k (by decide)]) (by rw [← e_2551, q_u_k (by decide)])
                          have k_2567 : MTk I_2550 o := k_2546.fr (by rw [← e_2551, q_u_k (by decide)]) (by rw [← e_2551, q_u_k (by decide)]) (by rw [← e_2551, q_u_k (by decide)])
                          have tk := k_2567.2 (by omega)
                          have k_2569 : EX 0 0 1 f0 1 I_2550 o := by exact EX.put47 k_2547 e_2551 (by omega)
                          refine y_Model_nextg hok hw ra hz16 hz17 hz18 hz19 (by first | omega | (intro h; omega) | exact Or.inl rfl | exact Or.inr rfl) hR_2552 (fun I_2580 L_2581 hR_2582 fr_2583 kp_2584 u_2571 u_2572 u_2573 u_2574 u_2575 u_2576 u_2577 u_2578 gn_2579 => ⟨I_2580, L_2581, rfl, rfl, ?_⟩)
                          replace hg := gt_b3 gn_2579 hg
                          clear gn_2579
                          have hf_2585 : Fm (fun c => c = o ∨ (o + 30 ≤ c ∧ c < o + 34)) I0 I_2580 := hf_2553.call fr_2583 (fun c hc => by first | exact hc | (dsimp only at hc ⊢; omega) | omega)
                          have t_2586 : (I_2580 o 3).toInt = (I_2550 o 3).toInt := by rw [kp_2584 3 rfl]
                          have t_2587 : (I_2580 o 4).toInt = (I_2550 o 4).toInt := by rw [kp_2584 4 rfl]
                          have g_2588 : (0 : Int) ≤ (I_2580 o 6).toInt ∧ (I_2580 o 6).toInt ≤ 1600 := hR_2582.at0 ra 6 (by decide)
                          have g_2589 : (0 : Int) ≤ (I_2580 o 7).toInt ∧ (I_2580 o 7).toInt ≤ 1601 := hR_2582.at0 ra 7 (by decide)
                          have g_2590 : (0 : Int) ≤ (I_2580 o 8).toInt ∧ (I_2580 o 8).toInt ≤ 6 := hR_2582.at0 ra 8 (by decide)
                          have t_2591 : (I_2580 o 44).toInt = (I_2550 o 44).toInt := by rw [kp_2584 44 rfl]
                          have t_2592 : (I_2580 o 45).toInt = (I_2550 o 45).toInt := by rw [kp_2584 45 rfl]
                          have t_2593 : (I_2580 o 47).toInt = (I_2550 o 47).toInt := by rw [kp_2584 47 rfl]
                          have t_2594 : (I_2580 o 48).toInt = (I_2550 o 48).toInt := by rw [kp_2584 48 rfl]
                          have t_2595 : (I_2580 o 46).toInt = (I_2550 o 46).toInt := by rw [kp_2584 46 rfl]
                          have k_2596 : MTd I_2580 o := k_2565.fr (fr_2583 _ (by first | omega | (dsimp only; omega))) (fr_2583 _ (by first | omega | (dsimp only; omega))) (fr_2583 _ (by first | omega | (dsimp only; omega)))
                          have ms := u_2574 (by omega)
                          have k_2597 : EX 0 0 0 f0 1 I_2580 o := by exact EX.nx k_2569 (fr_2583 _ (by first | omega | (dsimp only; omega))) (fr_2583 _ (by first | omega | (dsimp only; omega))) (fr_2583 _ (by first | omega | (dsimp only; omega))) (fr_2583 _ (by first | omega | (dsimp only; omega))) (fr_2583 _ (by first | omega | (dsimp only; omega))) (kp_2584 3 rfl) (kp_2584 44 rfl) (kp_2584 45 rfl) (kp_2584 47 rfl) (kp_2584 48 rfl) (by omega) (by omega)
                          exact (hp _ _ _ hR_2582 hf_2585 (Or.inr rfl) (by first | omega | (intro h; omega) | exact Or.inl rfl | exact Or.inr rfl) (by first | omega | (intro h; omega) | exact Or.inl rfl | exact Or.inr rfl) (by first | omega | (intro h; omega) | exact Or.inl rfl | exact Or.inr rfl) (by first | omega | (intro h; omega) | exact Or.inl rfl | exact Or.inr rfl) (by first | omega | (intro h; omega) | exact Or.inl rfl | exact Or.inr rfl) (by clear hg; first | (intro h; exfalso; omega) | exact fun _ => k_2597 | exact fun _ => (False.elim (by omega))) k_2596 u_2577 u_2578 hg.symm)
                        · have d_2598 := iEq c_2519
                          have i_2599 := u_2516 (by omega)
                          replace hg := gt_pos (by first | exact d_2598 | omega) hg
                          exact (hp _ _ _ hR_2494 hf_2497 (Or.inr rfl) (by first | omega | (intro h; omega) | exact Or.inl rfl | exact Or.inr rfl) (by first | omega | (intro h; omega) | exact Or.inl rfl | exact Or.inr rfl) (by first | omega | (intro h; omega) | exact Or.inl rfl | exact Or.inr rfl) (by first | omega | (intro h; omega) | exact Or.inl rfl | exact Or.inr rfl) (by first | omega | (intro h; omega) | exact Or.inl rfl | exact Or.inr rfl) (by clear hg; first | (intro h; exfalso; omega) | exact fun _ => k_2509 | exact fun _ => (False.elim (by omega))) k_2510 k_2511 k_2512 hg.symm)
                  · have d_2600 := iEq c_2297
                    have i_2601 := u_2294 (by omega)
                    replace hg := gt_pos (by first | exact d_2600 | omega) hg
                    exact (hp _ _ _ hR_2272 hf_2275 (Or.inr rfl) (by first | omega | (intro h; omega) | exact Or.inl rfl | exact Or.inr rfl) (by first | omega | (intro h; omega) | exact Or.inl rfl | exact Or.inr rfl) (by first | omega | (intro h; omega) | exact Or.inl rfl | exact Or.inr rfl) (by first | omega | (intro h; omega) | exact Or.inl rfl | exact Or.inr rfl) (by first | omega | (intro h; omega) | exact Or.inl rfl | exact Or.inr rfl) (by clear hg; first | (intro h; exfalso; omega) | exact fun _ => k_2287 | exact fun _ => (False.elim (by omega))) k_2288 k_2289 k_2290 hg.symm)
        · have d_2602 := iEq c_60
          have i_2603 := u_57 (by omega)
          replace hg := gt_pos (by first | exact d_2602 | omega) hg
          exact (hp _ _ _ hR_36 hf_39 (Or.inr rfl) (by first | omega | (intro h; omega) | exact Or.inl rfl | exact Or.inr rfl) (by first | omega | (intro h; omega) | exact Or.inl rfl | exact Or.inr rfl) (by first | omega | (intro h; omega) | exact Or.inl rfl | exact Or.inr rfl) (by first | omega | (intro h; omega) | exact Or.inl rfl | exact Or.inr rfl) (by first | omega | (intro h; omega) | exact Or.inl rfl | exact Or.inr rfl) (by clear hg; first | (intro h; exfalso; omega) | exact fun _ => k_50 | exact fun _ => (False.elim (by omega))) k_51 k_52 k_53 hg.symm)
      · have d_2604 := iNe c_27
        have i_2605 := u_24 (by omega)
        replace hg := gt_neg (by first | exact d_2604 | omega) hg
        have g_2606 : (0 : Int) ≤ (I0 o 47).toInt ∧ (I0 o 47).toInt ≤ 7 := hR.at0 ra 47 (by decide)
        replace hg := gt_let (y := (I0 o 47).toInt) rfl hg
        have l_2607 : (7 : Int32).toInt = 7 := rfl
        refine ⟨fun c_2608 => ?_, fun c_2608 => ?_⟩
        · have d_2609 := iNe c_2608
          replace hg := gt_neg (by first | exact d_2609 | omega) hg
          refine y_Model_isGoodg hok hw ra hR (fun r_2610 u_2611 u_2612 u_2613 gn_2614 => ⟨r_2610, I0, L0, rfl, rfl, ?_⟩)
          replace hg := gt_let gn_2614 hg
          clear gn_2614
          have b_2615 : 0 ≤ r_2610.toInt ∧ r_2610.toInt ≤ 1 := u_2611.rg
          refine ⟨fun c_2616 => ?_, fun c_2616 => ?_⟩
          · have d_2617 := iNe c_2616
            have i_2618 := u_2612 (by omega)
            replace hg := gt_neg (by first | exact d_2617 | omega) hg
            have l_2619 : (126 : Int32).toInt = 126 := rfl
            refine y_Model_pileg hok hw ra hz58 (by first | omega | (intro h; omega) | exact Or.inl rfl | exact Or.inr rfl) (by first | omega | (intro h; omega) | exact Or.inl rfl | exact Or.inr rfl) hR (fun I_2625 L_2626 hR_2627 fr_2628 kp_2629 u_2621 u_2622 u_2623 gn_2624 => ⟨I_2625, L_2626, rfl, rfl, ?_⟩)
            replace hg := gt_b3 gn_2624 hg
            clear gn_2624
            have hf_2630 : Fm (fun c => c = o ∨ (o + 30 ≤ c ∧ c < o + 34)) I0 I_2625 := hf.call fr_2628 (fun c hc => by first | exact hc | (dsimp only at hc ⊢; omega) | omega)
            have t_2631 : (I_2625 o 3).toInt = (I0 o 3).toInt := by rw [kp_2629 3 rfl]
            have t_2632 : (I_2625 o 4).toInt = (I0 o 4).toInt := by rw [kp_2629 4 rfl]
            have t_2633 : (I_2625 o 6).toInt = (I0 o 6).toInt := by rw [kp_2629 6 rfl]
            have t_2634 : (I_2625 o 7).toInt = (I0 o 7).toInt := by rw [kp_2629 7 rfl]
            have t_2635 : (I_2625 o 8).toInt = (I0 o 8).toInt := by rw [kp_2629 8 rfl]
            have t_2636 : (I_2625 o 9).toInt = (I0 o 9).toInt := by rw [kp_2629 9 rfl]
            have t_2637 : (I_2625 o 44).toInt = (I0 o 44).toInt := by rw [kp_2629 44 rfl]
            have t_2638 : (I_2625 o 45).toInt = (I0 o 45).toInt := by rw [kp_2629 45 rfl]
            have t_2639 : (I_2625 o 47).toInt = (I0 o 47).toInt := by rw [kp_2629 47 rfl]
            have g_2640 : (0 : Int) ≤ (I_2625 o 48).toInt ∧ (I_2625 o 48).toInt ≤ 80 := hR_2627.at0 ra 48 (by decide)
            have k_2641 : MTd I_2625 o := hq3.fr (fr_2628 _ (by first | omega | (dsimp only; omega))) (fr_2628 _ (by first | omega | (dsimp only; omega))) (fr_2628 _ (by first | omega | (dsimp only; omega)))
            have k_2642 : MPo I_2625 o := hq4.fr (kp_2629 8 rfl) (kp_2629 9 rfl)
            have k_2643 : MTk I_2625 o := hq5.fr (kp_2629 6 rfl) (kp_2629 7 rfl) (kp_2629 8 rfl)
            have k_2644 : EX 0 1 1 f0 1 I_2625 o := by exact EX.push hq2 (by decide) (by decide) (by decide) (by omega) ⟨by decide, by decide⟩ ⟨fun _ => rfl, fun h => absurd h (by decide)⟩ (Or.inl rfl) (fr_2628 _ (by first | omega | (dsimp only; omega))) (fr_2628 _ (by first | omega | (dsimp only; omega))) (fr_2628 _ (by first | omega | (dsimp only; omega))) u_2621 u_2622 (kp_2629 3 rfl) (kp_2629 6 rfl) (kp_2629 44 rfl) (kp_2629 45 rfl) (kp_2629 47 rfl) u_2623
            have g_2645 : (0 : Int) ≤ (I_2625 o 47).toInt ∧ (I_2625 o 47).toInt ≤ 7 := hR_2627.at0 ra 47 (by decide)
            replace hg := gt_let (y := (I_2625 o 47).toInt) rfl hg
            have a_2646 : ((I_2625 o 47) + 1).toInt = (I_2625 o 47).toInt + (1 : Int32).toInt := tAdd (by omega) (by omega)
            replace hg := gt_let (y := (((I_2625 o 47) + 1) : Int32).toInt) (by omega) hg
            refine fun I_2647 e_2648 => ?_
            replace hg := gt_let (y := tI I_2647) (tI_q e_2648) hg
            have hR_2649 : RI R I_2647 := hR_2627.up0 (k := 47) ra (by decide) (Or.inr hz57) e_2648 (show (0 : Int) ≤ ((I_2625 o 47) + 1).toInt by omega) (show ((I_2625 o 47) + 1).toInt ≤ (7 : Int) by omega)
            have hf_2650 : Fm (fun c => c = o ∨ (o + 30 ≤ c ∧ c < o + 34)) I0 I_2647 := hf_2630.set (by first | rfl | omega | (dsimp only; omega)) e_2648
            have t_2651 : (I_2647 o 3).toInt = (I_2625 o 3).toInt := by rw [← e_2648, q_u_k (by decide)]
            have t_2652 : (I_2647 o 4).toInt = (I_2625 o 4).toInt := by rw [← e_2648, q_u_k (by decide)]
            have t_2653 : (I_2647 o 6).toInt = (I_2625 o 6).toInt := by rw [← e_2648, q_u_k (by decide)]
            have t_2654 : (I_2647 o 7).toInt = (I_2625 o 7).toInt := by rw [← e_2648, q_u_k (by decide)]
            have t_2655 : (I_2647 o 8).toInt = (I_2625 o 8).toInt := by rw [← e_2648, q_u_k (by decide)]
            have t_2656 : (I_2647 o 9).toInt = (I_2625 o 9).toInt := by rw [← e_2648, q_u_k (by decide)]
            have t_2657 : (I_2647 o 44).toInt = (I_2625 o 44).toInt := by rw [← e_2648, q_u_k (by decide)]
            have t_2658 : (I_2647 o 45).toInt = (I_2625 o 45).toInt := by rw [← e_2648, q_u_k (by decide)]
            have t_2659 : (I_2647 o 47).toInt = ((I_2625 o 47) + 1).toInt := by rw [← e_2648, q_u_at]
            have t_2660 : (I_2647 o 48).toInt = (I_2625 o 48).toInt := by rw [← e_2648, q_u_k (by decide)]
            have k_2661 : MTd I_2647 o := k_2641.fr (by rw [← e_2648]; exact q_u_ne (by omega)) (by rw [← e_2648]; exact q_u_ne (by omega)) (by rw [← e_2648]; exact q_u_ne (by omega))
            have k_2662 : MPo I_2647 o := k_2642.fr (by rw [← e_2648, q_u_k (by decide)]) (by rw [← e_2648, q_u_k (by decide)])
            have k_2663 : MTk I_2647 o := k_2643.fr (by rw [← e_2648, q_u_k (by decide)]) (by rw [← e_2648, q_u_k (by decide)]) (by rw [← e_2648, q_u_k (by decide)])
            have tk := k_2663.2 (by omega)
            have k_2665 : EX 0 0 1 f0 1 I_2647 o := by exact EX.put47 k_2644 e_2648 (by omega)
            refine y_Model_nextg hok hw ra hz16 hz17 hz18 hz19 (by first | omega | (intro h; omega) | exact Or.inl rfl | exact Or.inr rfl) hR_2649 (fun I_2676 L_2677 hR_2678 fr_2679 kp_2680 u_2667 u_2668 u_2669 u_2670 u_2671 u_2672 u_2673 u_2674 gn_2675 => ⟨I_2676, L_2677, rfl, rfl, ?_⟩)
            replace hg := gt_b3 gn_2675 hg
            clear gn_2675
            have hf_2681 : Fm (fun c => c = o ∨ (o + 30 ≤ c ∧ c < o + 34)) I0 I_2676 := hf_2650.call fr_2679 (fun c hc => by first | exact hc | (dsimp only at hc ⊢; omega) | omega)
            have t_2682 : (I_2676 o 3).toInt = (I_2647 o 3).toInt := by rw [kp_2680 3 rfl]
            have t_2683 : (I_2676 o 4).toInt = (I_2647 o 4).toInt := by rw [kp_2680 4 rfl]
            have g_2684 : (0 : Int) ≤ (I_2676 o 6).toInt ∧ (I_2676 o 6).toInt ≤ 1600 := hR_2678.at0 ra 6 (by decide)
            have g_2685 : (0 : Int) ≤ (I_2676 o 7).toInt ∧ (I_2676 o 7).toInt ≤ 1601 := hR_2678.at0 ra 7 (by decide)
            have g_2686 : (0 : Int) ≤ (I_2676 o 8).toInt ∧ (I_2676 o 8).toInt ≤ 6 := hR_2678.at0 ra 8 (by decide)
            have t_2687 : (I_2676 o 44).toInt = (I_2647 o 44).toInt := by rw [kp_2680 44 rfl]
            have t_2688 : (I_2676 o 45).toInt = (I_2647 o 45).toInt := by rw [kp_2680 45 rfl]
            have t_2689 : (I_2676 o 47).toInt = (I_2647 o 47).toInt := by rw [kp_2680 47 rfl]
            have t_2690 : (I_2676 o 48).toInt = (I_2647 o 48).toInt := by rw [kp_2680 48 rfl]
            have k_2691 : MTd I_2676 o := k_2661.fr (fr_2679 _ (by first | omega | (dsimp only; omega))) (fr_2679 _ (by first | omega | (dsimp only; omega))) (fr_2679 _ (by first | omega | (dsimp only; omega)))
            have ms := u_2670 (by omega)
            have k_2692 : EX 0 0 0 f0 1 I_2676 o := by exact EX.nx k_2665 (fr_2679 _ (by first | omega | (dsimp only; omega))) (fr_2679 _ (by first | omega | (dsimp only; omega))) (fr_2679 _ (by first | omega | (dsimp only; omega))) (fr_2679 _ (by first | omega | (dsimp only; omega))) (fr_2679 _ (by first | omega | (dsimp only; omega))) (kp_2680 3 rfl) (kp_2680 44 rfl) (kp_2680 45 rfl) (kp_2680 47 rfl) (kp_2680 48 rfl) (by omega) (by omega)
            exact (hp _ _ _ hR_2678 hf_2681 (Or.inr rfl) (by first | omega | (intro h; omega) | exact Or.inl rfl | exact Or.inr rfl) (by first | omega | (intro h; omega) | exact Or.inl rfl | exact Or.inr rfl) (by first | omega | (intro h; omega) | exact Or.inl rfl | exact Or.inr rfl) (by first | omega | (intro h; omega) | exact Or.inl rfl | exact Or.inr rfl) (by first | omega | (intro h; omega) | exact Or.inl rfl | exact Or.inr rfl) (by clear hg; first | (intro h; exfalso; omega) | exact fun _ => k_2692 | exact fun _ => (False.elim (by omega))) k_2691 u_2673 u_2674 hg.symm)
          · have d_2693 := iEq c_2616
            have i_2694 := u_2613 (by omega)
            replace hg := gt_pos (by first | exact d_2693 | omega) hg
            exact (hp _ _ _ hR hf (Or.inr rfl) (by first | omega | (intro h; omega) | exact Or.inl rfl | exact Or.inr rfl) (by first | omega | (intro h; omega) | exact Or.inl rfl | exact Or.inr rfl) (by first | omega | (intro h; omega) | exact Or.inl rfl | exact Or.inr rfl) (by first | omega | (intro h; omega) | exact Or.inl rfl | exact Or.inr rfl) (by first | omega | (intro h; omega) | exact Or.inl rfl | exact Or.inr rfl) (by clear hg; first | (intro h; exfalso; omega) | exact fun _ => hq2 | exact fun _ => (False.elim (by omega))) hq3 hq4 hq5 hg.symm)
        · have d_2695 := iEq c_2608
          replace hg := gt_pos (by first | exact d_2695 | omega) hg
          refine y_Model_wrongg hok hw ra hz14 hz15 hR (fun I_2700 L_2701 hR_2702 fr_2703 kp_2704 u_2697 u_2698 gn_2699 => ⟨I_2700, L_2701, rfl, rfl, ?_⟩)
          replace hg := gt_b3 gn_2699 hg
          clear gn_2699
          have hf_2705 : Fm (fun c => c = o ∨ (o + 30 ≤ c ∧ c < o + 34)) I0 I_2700 := hf.call fr_2703 (fun c hc => by first | exact hc | (dsimp only at hc ⊢; omega) | omega)
          have t_2706 : (I_2700 o 3).toInt = (I0 o 3).toInt := by rw [kp_2704 3 rfl]
          have g_2707 : (0 : Int) ≤ (I_2700 o 4).toInt ∧ (I_2700 o 4).toInt ≤ 5 := hR_2702.at0 ra 4 (by decide)
          have t_2708 : (I_2700 o 6).toInt = (I0 o 6).toInt := by rw [kp_2704 6 rfl]
          have t_2709 : (I_2700 o 7).toInt = (I0 o 7).toInt := by rw [kp_2704 7 rfl]
          have t_2710 : (I_2700 o 8).toInt = (I0 o 8).toInt := by rw [kp_2704 8 rfl]
          have t_2711 : (I_2700 o 9).toInt = (I0 o 9).toInt := by rw [kp_2704 9 rfl]
          have t_2712 : (I_2700 o 44).toInt = (I0 o 44).toInt := by rw [kp_2704 44 rfl]
          have t_2713 : (I_2700 o 45).toInt = (I0 o 45).toInt := by rw [kp_2704 45 rfl]
          have t_2714 : (I_2700 o 47).toInt = (I0 o 47).toInt := by rw [kp_2704 47 rfl]
          have t_2715 : (I_2700 o 48).toInt = (I0 o 48).toInt := by rw [kp_2704 48 rfl]
          have k_2716 : EX 0 0 0 f0 1 I_2700 o := hq2.fr (fr_2703 _ (by first | omega | (dsimp only; omega))) (fr_2703 _ (by first | omega | (dsimp only; omega))) (fr_2703 _ (by first | omega | (dsimp only; omega))) (fr_2703 _ (by first | omega | (dsimp only; omega))) (fr_2703 _ (by first | omega | (dsimp only; omega))) (kp_2704 3 rfl) (kp_2704 6 rfl) (kp_2704 44 rfl) (kp_2704 45 rfl) (kp_2704 47 rfl) (kp_2704 48 rfl)
          have k_2717 : MTd I_2700 o := hq3.fr (fr_2703 _ (by first | omega | (dsimp only; omega))) (fr_2703 _ (by first | omega | (dsimp only; omega))) (fr_2703 _ (by first | omega | (dsimp only; omega)))
          have k_2718 : MPo I_2700 o := hq4.fr (kp_2704 8 rfl) (kp_2704 9 rfl)
          have k_2719 : MTk I_2700 o := hq5.fr (kp_2704 6 rfl) (kp_2704 7 rfl) (kp_2704 8 rfl)
          refine y_Model_isGoodg hok hw ra hR_2702 (fun r_2720 u_2721 u_2722 u_2723 gn_2724 => ⟨r_2720, I_2700, L_2701, rfl, rfl, ?_⟩)
          replace hg := gt_let gn_2724 hg
          clear gn_2724
          have b_2725 : 0 ≤ r_2720.toInt ∧ r_2720.toInt ≤ 1 := u_2721.rg
          refine ⟨fun c_2726 => ?_, fun c_2726 => ?_⟩
          · have d_2727 := iNe c_2726
            have i_2728 := u_2722 (by omega)
            replace hg := gt_neg (by first | exact d_2727 | omega) hg
            have l_2729 : (126 : Int32).toInt = 126 := rfl
            refine y_Model_pileg hok hw ra hz58 (by first | omega | (intro h; omega) | exact Or.inl rfl | exact Or.inr rfl) (by first | omega | (intro h; omega) | exact Or.inl rfl | exact Or.inr rfl) hR_2702 (fun I_2735 L_2736 hR_2737 fr_2738 kp_2739 u_2731 u_2732 u_2733 gn_2734 => ⟨I_2735, L_2736, rfl, rfl, ?_⟩)
            replace hg := gt_b3 gn_2734 hg
            clear gn_2734
            have hf_2740 : Fm (fun c => c = o ∨ (o + 30 ≤ c ∧ c < o + 34)) I0 I_2735 := hf_2705.call fr_2738 (fun c hc => by first | exact hc | (dsimp only at hc ⊢; omega) | omega)
            have t_2741 : (I_2735 o 3).toInt = (I_2700 o 3).toInt := by rw [kp_2739 3 rfl]
            have t_2742 : (I_2735 o 4).toInt = (I_2700 o 4).toInt := by rw [kp_2739 4 rfl]
            have t_2743 : (I_2735 o 6).toInt = (I_2700 o 6).toInt := by rw [kp_2739 6 rfl]
            have t_2744 : (I_2735 o 7).toInt = (I_2700 o 7).toInt := by rw [kp_2739 7 rfl]
            have t_2745 : (I_2735 o 8).toInt = (I_2700 o 8).toInt := by rw [kp_2739 8 rfl]
            have t_2746 : (I_2735 o 9).toInt = (I_2700 o 9).toInt := by rw [kp_2739 9 rfl]
            have t_2747 : (I_2735 o 44).toInt = (I_2700 o 44).toInt := by rw [kp_2739 44 rfl]
            have t_2748 : (I_2735 o 45).toInt = (I_2700 o 45).toInt := by rw [kp_2739 45 rfl]
            have t_2749 : (I_2735 o 47).toInt = (I_2700 o 47).toInt := by rw [kp_2739 47 rfl]
            have g_2750 : (0 : Int) ≤ (I_2735 o 48).toInt ∧ (I_2735 o 48).toInt ≤ 80 := hR_2737.at0 ra 48 (by decide)
            have k_2751 : MTd I_2735 o := k_2717.fr (fr_2738 _ (by first | omega | (dsimp only; omega))) (fr_2738 _ (by first | omega | (dsimp only; omega))) (fr_2738 _ (by first | omega | (dsimp only; omega)))
            have k_2752 : MPo I_2735 o := k_2718.fr (kp_2739 8 rfl) (kp_2739 9 rfl)
            have k_2753 : MTk I_2735 o := k_2719.fr (kp_2739 6 rfl) (kp_2739 7 rfl) (kp_2739 8 rfl)
            have k_2754 : EX 0 1 1 f0 1 I_2735 o := by exact EX.push k_2716 (by decide) (by decide) (by decide) (by omega) ⟨by decide, by decide⟩ ⟨fun _ => rfl, fun h => absurd h (by decide)⟩ (Or.inl rfl) (fr_2738 _ (by first | omega | (dsimp only; omega))) (fr_2738 _ (by first | omega | (dsimp only; omega))) (fr_2738 _ (by first | omega | (dsimp only; omega))) u_2731 u_2732 (kp_2739 3 rfl) (kp_2739 6 rfl) (kp_2739 44 rfl) (kp_2739 45 rfl) (kp_2739 47 rfl) u_2733
            have g_2755 : (0 : Int) ≤ (I_2735 o 47).toInt ∧ (I_2735 o 47).toInt ≤ 7 := hR_2737.at0 ra 47 (by decide)
            replace hg := gt_let (y := (I_2735 o 47).toInt) rfl hg
            have a_2756 : ((I_2735 o 47) + 1).toInt = (I_2735 o 47).toInt + (1 : Int32).toInt := tAdd (by omega) (by omega)
            replace hg := gt_let (y := (((I_2735 o 47) + 1) : Int32).toInt) (by omega) hg
            refine fun I_2757 e_2758 => ?_
            replace hg := gt_let (y := tI I_2757) (tI_q e_2758) hg
            have hR_2759 : RI R I_2757 := hR_2737.up0 (k := 47) ra (by decide) (Or.inr hz57) e_2758 (show (0 : Int) ≤ ((I_2735 o 47) + 1).toInt by omega) (show ((I_2735 o 47) + 1).toInt ≤ (7 : Int) by omega)
            have hf_2760 : Fm (fun c => c = o ∨ (o + 30 ≤ c ∧ c < o + 34)) I0 I_2757 := hf_2740.set (by first | rfl | omega | (dsimp only; omega)) e_2758
            have t_2761 : (I_2757 o 3).toInt = (I_2735 o 3).toInt := by rw [← e_2758, q_u_k (by decide)]
            have t_2762 : (I_2757 o 4).toInt = (I_2735 o 4).toInt := by rw [← e_2758, q_u_k (by decide)]
            have t_2763 : (I_2757 o 6).toInt = (I_2735 o 6).toInt := by rw [← e_2758, q_u_k (by decide)]
            have t_2764 : (I_2757 o 7).toInt = (I_2735 o 7).toInt := by rw [← e_2758, q_u_k (by decide)]
            have t_2765 : (I_2757 o 8).toInt = (I_2735 o 8).toInt := by rw [← e_2758, q_u_k (by decide)]
            have t_2766 : (I_2757 o 9).toInt = (I_2735 o 9).toInt := by rw [← e_2758, q_u_k (by decide)]
            have t_2767 : (I_2757 o 44).toInt = (I_2735 o 44).toInt := by rw [← e_2758, q_u_k (by decide)]
            have t_2768 : (I_2757 o 45).toInt = (I_2735 o 45).toInt := by rw [← e_2758, q_u_k (by decide)]
            have t_2769 : (I_2757 o 47).toInt = ((I_2735 o 47) + 1).toInt := by rw [← e_2758, q_u_at]
            have t_2770 : (I_2757 o 48).toInt = (I_2735 o 48).toInt := by rw [← e_2758, q_u_k (by decide)]
            have k_2771 : MTd I_2757 o := k_2751.fr (by rw [← e_2758]; exact q_u_ne (by omega)) (by rw [← e_2758]; exact q_u_ne (by omega)) (by rw [← e_2758]; exact q_u_ne (by omega))
            have k_2772 : MPo I_2757 o := k_2752.fr (by rw [← e_2758, q_u_k (by decide)]) (by rw [← e_2758, q_u_k (by decide)])
            have k_2773 : MTk I_2757 o := k_2753.fr (by rw [← e_2758, q_u_k (by decide)]) (by rw [← e_2758, q_u_k (by decide)]) (by rw [← e_2758, q_u_k (by decide)])
            have tk := k_2773.2 (by omega)
            have k_2775 : EX 0 0 1 f0 1 I_2757 o := by exact EX.put47 k_2754 e_2758 (by omega)
            refine y_Model_nextg hok hw ra hz16 hz17 hz18 hz19 (by first | omega | (intro h; omega) | exact Or.inl rfl | exact Or.inr rfl) hR_2759 (fun I_2786 L_2787 hR_2788 fr_2789 kp_2790 u_2777 u_2778 u_2779 u_2780 u_2781 u_2782 u_2783 u_2784 gn_2785 => ⟨I_2786, L_2787, rfl, rfl, ?_⟩)
            replace hg := gt_b3 gn_2785 hg
            clear gn_2785
            have hf_2791 : Fm (fun c => c = o ∨ (o + 30 ≤ c ∧ c < o + 34)) I0 I_2786 := hf_2760.call fr_2789 (fun c hc => by first | exact hc | (dsimp only at hc ⊢; omega) | omega)
            have t_2792 : (I_2786 o 3).toInt = (I_2757 o 3).toInt := by rw [kp_2790 3 rfl]
            have t_2793 : (I_2786 o 4).toInt = (I_2757 o 4).toInt := by rw [kp_2790 4 rfl]
            have g_2794 : (0 : Int) ≤ (I_2786 o 6).toInt ∧ (I_2786 o 6).toInt ≤ 1600 := hR_2788.at0 ra 6 (by decide)
            have g_2795 : (0 : Int) ≤ (I_2786 o 7).toInt ∧ (I_2786 o 7).toInt ≤ 1601 := hR_2788.at0 ra 7 (by decide)
            have g_2796 : (0 : Int) ≤ (I_2786 o 8).toInt ∧ (I_2786 o 8).toInt ≤ 6 := hR_2788.at0 ra 8 (by decide)
            have t_2797 : (I_2786 o 44).toInt = (I_2757 o 44).toInt := by rw [kp_2790 44 rfl]
            have t_2798 : (I_2786 o 45).toInt = (I_2757 o 45).toInt := by rw [kp_2790 45 rfl]
            have t_2799 : (I_2786 o 47).toInt = (I_2757 o 47).toInt := by rw [kp_2790 47 rfl]
            have t_2800 : (I_2786 o 48).toInt = (I_2757 o 48).toInt := by rw [kp_2790 48 rfl]
            have k_2801 : MTd I_2786 o := k_2771.fr (fr_2789 _ (by first | omega | (dsimp only; omega))) (fr_2789 _ (by first | omega | (dsimp only; omega))) (fr_2789 _ (by first | omega | (dsimp only; omega)))
            have ms := u_2780 (by omega)
            have k_2802 : EX 0 0 0 f0 1 I_2786 o := by exact EX.nx k_2775 (fr_2789 _ (by first | omega | (dsimp only; omega))) (fr_2789 _ (by first | omega | (dsimp only; omega))) (fr_2789 _ (by first | omega | (dsimp only; omega))) (fr_2789 _ (by first | omega | (dsimp only; omega))) (fr_2789 _ (by first | omega | (dsimp only; omega))) (kp_2790 3 rfl) (kp_2790 44 rfl) (kp_2790 45 rfl) (kp_2790 47 rfl) (kp_2790 48 rfl) (by omega) (by omega)
            exact (hp _ _ _ hR_2788 hf_2791 (Or.inr rfl) (by first | omega | (intro h; omega) | exact Or.inl rfl | exact Or.inr rfl) (by first | omega | (intro h; omega) | exact Or.inl rfl | exact Or.inr rfl) (by first | omega | (intro h; omega) | exact Or.inl rfl | exact Or.inr rfl) (by first | omega | (intro h; omega) | exact Or.inl rfl | exact Or.inr rfl) (by first | omega | (intro h; omega) | exact Or.inl rfl | exact Or.inr rfl) (by clear hg; first | (intro h; exfalso; omega) | exact fun _ => k_2802 | exact fun _ => (False.elim (by omega))) k_2801 u_2783 u_2784 hg.symm)
          · have d_2803 := iEq c_2726
            have i_2804 := u_2723 (by omega)
            replace hg := gt_pos (by first | exact d_2803 | omega) hg
            exact (hp _ _ _ hR_2702 hf_2705 (Or.inr rfl) (by first | omega | (intro h; omega) | exact Or.inl rfl | exact Or.inr rfl) (by first | omega | (intro h; omega) | exact Or.inl rfl | exact Or.inr rfl) (by first | omega | (intro h; omega) | exact Or.inl rfl | exact Or.inr rfl) (by first | omega | (intro h; omega) | exact Or.inl rfl | exact Or.inr rfl) (by first | omega | (intro h; omega) | exact Or.inl rfl | exact Or.inr rfl) (by clear hg; first | (intro h; exfalso; omega) | exact fun _ => k_2716 | exact fun _ => (False.elim (by omega))) k_2717 k_2718 k_2719 hg.symm)
  · have d_2805 := iNle c_15
    replace hg := gt_neg (by first | exact d_2805 | omega) hg
    have g_2806 : (0 : Int) ≤ (I0 o 48).toInt ∧ (I0 o 48).toInt ≤ 80 := hR.at0 ra 48 (by decide)
    replace hg := gt_let (y := (I0 o 48).toInt) rfl hg
    have a_2807 : ((I0 o 48) - 1).toInt = (I0 o 48).toInt - (1 : Int32).toInt := tSub (by omega) (by omega)
    replace hg := gt_let (y := (((I0 o 48) - 1) : Int32).toInt) (by omega) hg
    refine ⟨tIn (by omega) (by omega), ?_⟩
    have g_2808 : (0 : Int) ≤ (I0 (o + 32) (((I0 o 48) - 1) : Int32).toNatClampNeg).toInt ∧ (I0 (o + 32) (((I0 o 48) - 1) : Int32).toNatClampNeg).toInt ≤ 8 := hR.at ra 32 _ (by decide)
    replace hg := gt_let (y := (I0 (o + 32) (((I0 o 48) - 1) : Int32).toNatClampNeg).toInt) rfl hg
    have l_2809 : (7 : Int32).toInt = 7 := rfl
    refine ⟨fun c_2810 => ?_, fun c_2810 => ?_⟩
    · have d_2811 := iLt c_2810
      replace hg := gt_pos (by first | exact d_2811 | omega) hg
      unfold fModel_unit_36
      replace hg := (eModel_unit_36).symm.trans hg
      have l_2812 : (0 : Int32).toInt = 0 := rfl
      refine ⟨fun c_2813 => ?_, fun c_2813 => ?_⟩
      · have d_2814 := iEq c_2813
        replace hg := gt_pos (by first | exact d_2814 | omega) hg
        unfold fModel_unit_96
        replace hg := (eModel_unit_96).symm.trans hg
        refine y_Model_wordHereg hok hw ra hz14 hz15 hR (fun r_2815 I_2820 L_2821 hR_2822 fr_2823 kp_2824 u_2816 u_2817 u_2818 gn_2819 => ⟨r_2815, I_2820, L_2821, rfl, rfl, ?_⟩)
        replace hg := gt_b3 gn_2819 hg
        clear gn_2819
        have hf_2825 : Fm (fun c => c = o ∨ (o + 30 ≤ c ∧ c < o + 34)) I0 I_2820 := hf.call fr_2823 (fun c hc => by first | exact hc | (dsimp only at hc ⊢; omega) | omega)
        have t_2826 : (I_2820 o 3).toInt = (I0 o 3).toInt := by rw [kp_2824 3 rfl]
        have g_2827 : (0 : Int) ≤ (I_2820 o 4).toInt ∧ (I_2820 o 4).toInt ≤ 5 := hR_2822.at0 ra 4 (by decide)
        have t_2828 : (I_2820 o 6).toInt = (I0 o 6).toInt := by rw [kp_2824 6 rfl]
        have t_2829 : (I_2820 o 7).toInt = (I0 o 7).toInt := by rw [kp_2824 7 rfl]
        have t_2830 : (I_2820 o 8).toInt = (I0 o 8).toInt := by rw [kp_2824 8 rfl]
        have t_2831 : (I_2820 o 9).toInt = (I0 o 9).toInt := by rw [kp_2824 9 rfl]
        have t_2832 : (I_2820 o 44).toInt = (I0 o 44).toInt := by rw [kp_2824 44 rfl]
        have t_2833 : (I_2820 o 45).toInt = (I0 o 45).toInt := by rw [kp_2824 45 rfl]
        have t_2834 : (I_2820 o 47).toInt = (I0 o 47).toInt := by rw [kp_2824 47 rfl]
        have t_2835 : (I_2820 o 48).toInt = (I0 o 48).toInt := by rw [kp_2824 48 rfl]
        have k_2836 : EX 0 0 0 f0 1 I_2820 o := hq2.fr (fr_2823 _ (by first | omega | (dsimp only; omega))) (fr_2823 _ (by first | omega | (dsimp only; omega))) (fr_2823 _ (by first | omega | (dsimp only; omega))) (fr_2823 _ (by first | omega | (dsimp only; omega))) (fr_2823 _ (by first | omega | (dsimp only; omega))) (kp_2824 3 rfl) (kp_2824 6 rfl) (kp_2824 44 rfl) (kp_2824 45 rfl) (kp_2824 47 rfl) (kp_2824 48 rfl)
        have k_2837 : MTd I_2820 o := hq3.fr (fr_2823 _ (by first | omega | (dsimp only; omega))) (fr_2823 _ (by first | omega | (dsimp only; omega))) (fr_2823 _ (by first | omega | (dsimp only; omega)))
        have k_2838 : MPo I_2820 o := hq4.fr (kp_2824 8 rfl) (kp_2824 9 rfl)
        have k_2839 : MTk I_2820 o := hq5.fr (kp_2824 6 rfl) (kp_2824 7 rfl) (kp_2824 8 rfl)
        refine y_Model_isGoodg hok hw ra hR_2822 (fun r_2840 u_2841 u_2842 u_2843 gn_2844 => ⟨r_2840, I_2820, L_2821, rfl, rfl, ?_⟩)
        replace hg := gt_let gn_2844 hg
        clear gn_2844
        have b_2845 : 0 ≤ r_2840.toInt ∧ r_2840.toInt ≤ 1 := u_2841.rg
        refine ⟨fun c_2846 => ?_, fun c_2846 => ?_⟩
        · have d_2847 := iNe c_2846
          have i_2848 := u_2842 (by omega)
          replace hg := gt_neg (by first | exact d_2847 | omega) hg
          refine ⟨fun c_2849 => ?_, fun c_2849 => ?_⟩
          · have d_2850 := iNe c_2849
            have i_2851 := u_2816 (by omega)
            have i_2852 := u_2817 (by omega)
            replace hg := gt_neg (by first | exact d_2850 | omega) hg
            unfold fModel_unit_131
            replace hg := (eModel_unit_131).symm.trans hg
            have g_2853 : (0 : Int) ≤ (I_2820 o 46).toInt ∧ (I_2820 o 46).toInt ≤ 100 := hR_2822.at0 ra 46 (by decide)
            replace hg := gt_let (y := (I_2820 o 46).toInt) rfl hg
            have l_2854 : (100 : Int32).toInt = 100 := rfl
            refine ⟨fun c_2855 => ?_, fun c_2855 => ?_⟩
            · have d_2856 := iNe c_2855
              replace hg := gt_neg (by first | exact d_2856 | omega) hg
              refine y_Model_isGoodg hok hw ra hR_2822 (fun r_2857 u_2858 u_2859 u_2860 gn_2861 => ⟨r_2857, I_2820, L_2821, rfl, rfl, ?_⟩)
              replace hg := gt_let gn_2861 hg
              clear gn_2861
              have b_2862 : 0 ≤ r_2857.toInt ∧ r_2857.toInt ≤ 1 := u_2858.rg
              refine ⟨fun c_2863 => ?_, fun c_2863 => ?_⟩
              · have d_2864 := iNe c_2863
                have i_2865 := u_2859 (by omega)
                replace hg := gt_neg (by first | exact d_2864 | omega) hg
                have g_2866 : (0 : Int) ≤ (I_2820 o 46).toInt ∧ (I_2820 o 46).toInt ≤ 100 := hR_2822.at0 ra 46 (by decide)
                replace hg := gt_let (y := (I_2820 o 46).toInt) rfl hg
                have a_2867 : ((I_2820 o 46) + 1).toInt = (I_2820 o 46).toInt + (1 : Int32).toInt := tAdd (by omega) (by omega)
                replace hg := gt_let (y := (((I_2820 o 46) + 1) : Int32).toInt) (by omega) hg
                refine fun I_2868 e_2869 => ?_
                replace hg := gt_let (y := tI I_2868) (tI_q e_2869) hg
                have hR_2870 : RI R I_2868 := hR_2822.up0 (k := 46) ra (by decide) (Or.inr hz56) e_2869 (show (0 : Int) ≤ ((I_2820 o 46) + 1).toInt by omega) (show ((I_2820 o 46) + 1).toInt ≤ (100 : Int) by omega)
                have hf_2871 : Fm (fun c => c = o ∨ (o + 30 ≤ c ∧ c < o + 34)) I0 I_2868 := hf_2825.set (by first | rfl | omega | (dsimp only; omega)) e_2869
                have t_2872 : (I_2868 o 3).toInt = (I_2820 o 3).toInt := by rw [← e_2869, q_u_k (by decide)]
                have t_2873 : (I_2868 o 4).toInt = (I_2820 o 4).toInt := by rw [← e_2869, q_u_k (by decide)]
                have t_2874 : (I_2868 o 6).toInt = (I_2820 o 6).toInt := by rw [← e_2869, q_u_k (by decide)]
                have t_2875 : (I_2868 o 7).toInt = (I_2820 o 7).toInt := by rw [← e_2869, q_u_k (by decide)]
                have t_2876 : (I_2868 o 8).toInt = (I_2820 o 8).toInt := by rw [← e_2869, q_u_k (by decide)]
                have t_2877 : (I_2868 o 9).toInt = (I_2820 o 9).toInt := by rw [← e_2869, q_u_k (by decide)]
                have t_2878 : (I_2868 o 44).toInt = (I_2820 o 44).toInt := by rw [← e_2869, q_u_k (by decide)]
                have t_2879 : (I_2868 o 45).toInt = (I_2820 o 45).toInt := by rw [← e_2869, q_u_k (by decide)]
                have t_2880 : (I_2868 o 47).toInt = (I_2820 o 47).toInt := by rw [← e_2869, q_u_k (by decide)]
                have t_2881 : (I_2868 o 48).toInt = (I_2820 o 48).toInt := by rw [← e_2869, q_u_k (by decide)]
                have t_2882 : (I_2868 o 46).toInt = ((I_2820 o 46) + 1).toInt := by rw [← e_2869, q_u_at]
                have k_2883 : EX 0 0 0 f0 1 I_2868 o := k_2836.fr (by rw [← e_2869]; exact q_u_ne (by omega)) (by rw [← e_2869]; exact q_u_ne (by omega)) (by rw [← e_2869]; exact q_u_ne (by omega)) (by rw [← e_2869]; exact q_u_ne (by omega)) (by rw [← e_2869]; exact q_u_ne (by omega)) (by rw [← e_2869, q_u_k (by decide)]) (by rw [← e_2869, q_u_k (by decide)]) (by rw [← e_2869, q_u_k (by decide)]) (by rw [← e_2869, q_u_k (by decide)]) (by rw [← e_2869, q_u_k (by decide)]) (by rw [← e_2869, q_u_k (by decide)])
                have k_2884 : MTd I_2868 o := k_2837.fr (by rw [← e_2869]; exact q_u_ne (by omega)) (by rw [← e_2869]; exact q_u_ne (by omega)) (by rw [← e_2869]; exact q_u_ne (by omega))
                have k_2885 : MPo I_2868 o := k_2838.fr (by rw [← e_2869, q_u_k (by decide)]) (by rw [← e_2869, q_u_k (by decide)])
                have k_2886 : MTk I_2868 o := k_2839.fr (by rw [← e_2869, q_u_k (by decide)]) (by rw [← e_2869, q_u_k (by decide)]) (by rw [← e_2869, q_u_k (by decide)])
                have l_2887 : (40 : Int32).toInt = 40 := rfl
                refine y_Model_isg hok hw ra hR_2870 (fun r_2888 u_2889 u_2890 u_2891 gn_2892 => ⟨r_2888, I_2868, L_2821, rfl, rfl, ?_⟩)
                replace hg := gt_let gn_2892 hg
                clear gn_2892
                have b_2893 : 0 ≤ r_2888.toInt ∧ r_2888.toInt ≤ 1 := u_2889.rg
                refine ⟨fun c_2894 => ?_, fun c_2894 => ?_⟩
                · have d_2895 := iEq c_2894
                  replace hg := gt_pos (by first | exact d_2895 | omega) hg
                  have cd := k_2883.cod
                  have tk := k_2886.2 (by omega)
                  refine ⟨fun c_2896 => ?_, fun c_2896 => ?_⟩
                  · have d_2897 := iNe c_2896
                    have i_2898 := u_2816 (by omega)
                    have i_2899 := u_2817 (by omega)
                    replace hg := gt_neg (by first | exact d_2897 | omega) hg
                    unfold fModel_unit_228
                    replace hg := (eModel_unit_228).symm.trans hg
                    refine ⟨fun c_2900 => ?_, fun c_2900 => ?_⟩
                    · have d_2901 := iNe c_2900
                      have i_2902 := u_2816 (by omega)
                      have i_2903 := u_2817 (by omega)
                      replace hg := gt_neg (by first | exact d_2901 | omega) hg
                      refine y_Model_stepg hok hw ra hz55 (by first | omega | (intro h; omega) | exact Or.inl rfl | exact Or.inr rfl) (by first | omega | (intro h; omega) | exact Or.inl rfl | exact Or.inr rfl) hR_2870 (fun I_2908 L_2909 hR_2910 fr_2911 kp_2912 u_2905 u_2906 gn_2907 => ⟨I_2908, L_2909, rfl, rfl, ?_⟩)
                      replace hg := gt_b3 gn_2907 hg
                      clear gn_2907
                      have hf_2913 : Fm (fun c => c = o ∨ (o + 30 ≤ c ∧ c < o + 34)) I0 I_2908 := hf_2871.call fr_2911 (fun c hc => by first | exact hc | (dsimp only at hc ⊢; omega) | omega)
                      have t_2914 : (I_2908 o 3).toInt = (I_2868 o 3).toInt := by rw [kp_2912 3 rfl]
                      have t_2915 : (I_2908 o 4).toInt = (I_2868 o 4).toInt := by rw [kp_2912 4 rfl]
                      have t_2916 : (I_2908 o 6).toInt = (I_2868 o 6).toInt := by rw [kp_2912 6 rfl]
                      have t_2917 : (I_2908 o 7).toInt = (I_2868 o 7).toInt := by rw [kp_2912 7 rfl]
                      have t_2918 : (I_2908 o 8).toInt = (I_2868 o 8).toInt := by rw [kp_2912 8 rfl]
                      have t_2919 : (I_2908 o 9).toInt = (I_2868 o 9).toInt := by rw [kp_2912 9 rfl]
                      have t_2920 : (I_2908 o 44).toInt = (I_2868 o 44).toInt := by rw [kp_2912 44 rfl]
                      have g_2921 : (0 : Int) ≤ (I_2908 o 45).toInt ∧ (I_2908 o 45).toInt ≤ 700 := hR_2910.at0 ra 45 (by decide)
                      have t_2922 : (I_2908 o 47).toInt = (I_2868 o 47).toInt := by rw [kp_2912 47 rfl]
                      have t_2923 : (I_2908 o 48).toInt = (I_2868 o 48).toInt := by rw [kp_2912 48 rfl]
                      have t_2924 : (I_2908 o 46).toInt = (I_2868 o 46).toInt := by rw [kp_2912 46 rfl]
                      have k_2925 : MPo I_2908 o := k_2885.fr (kp_2912 8 rfl) (kp_2912 9 rfl)
                      have k_2926 : MTk I_2908 o := k_2886.fr (kp_2912 6 rfl) (kp_2912 7 rfl) (kp_2912 8 rfl)
                      have tk := k_2926.2 (by omega)
                      have k_2927 : EX 0 0 1 f0 0 I_2908 o := by exact EX.step1 k_2883 (by first | exact u_2816 (by omega) | (unfold isT; decide)) (by omega) (fr_2911 _ (by first | omega | (dsimp only; omega))) (fr_2911 _ (by first | omega | (dsimp only; omega))) u_2905 (fr_2911 _ (by first | omega | (dsimp only; omega))) (fr_2911 _ (by first | omega | (dsimp only; omega))) (kp_2912 3 rfl) (kp_2912 6 rfl) (kp_2912 44 rfl) u_2906 (kp_2912 47 rfl) (kp_2912 48 rfl)
                      have k_2928 : MTd I_2908 o := by exact MTd.step k_2884 (fr_2911 _ (by first | omega | (dsimp only; omega))) (fr_2911 _ (by first | omega | (dsimp only; omega))) u_2905 (by omega)
                      refine y_Model_nextg hok hw ra hz16 hz17 hz18 hz19 (by first | omega | (intro h; omega) | exact Or.inl rfl | exact Or.inr rfl) hR_2910 (fun I_2939 L_2940 hR_2941 fr_2942 kp_2943 u_2930 u_2931 u_2932 u_2933 u_2934 u_2935 u_2936 u_2937 gn_2938 => ⟨I_2939, L_2940, rfl, rfl, ?_⟩)
                      replace hg := gt_b3 gn_2938 hg
                      clear gn_2938
                      have hf_2944 : Fm (fun c => c = o ∨ (o + 30 ≤ c ∧ c < o + 34)) I0 I_2939 := hf_2913.call fr_2942 (fun c hc => by first | exact hc | (dsimp only at hc ⊢; omega) | omega)
                      have t_2945 : (I_2939 o 3).toInt = (I_2908 o 3).toInt := by rw [kp_2943 3 rfl]
                      have t_2946 : (I_2939 o 4).toInt = (I_2908 o 4).toInt := by rw [kp_2943 4 rfl]
                      have g_2947 : (0 : Int) ≤ (I_2939 o 6).toInt ∧ (I_2939 o 6).toInt ≤ 1600 := hR_2941.at0 ra 6 (by decide)
                      have g_2948 : (0 : Int) ≤ (I_2939 o 7).toInt ∧ (I_2939 o 7).toInt ≤ 1601 := hR_2941.at0 ra 7 (by decide)
                      have g_2949 : (0 : Int) ≤ (I_2939 o 8).toInt ∧ (I_2939 o 8).toInt ≤ 6 := hR_2941.at0 ra 8 (by decide)
                      have t_2950 : (I_2939 o 44).toInt = (I_2908 o 44).toInt := by rw [kp_2943 44 rfl]
                      have t_2951 : (I_2939 o 45).toInt = (I_2908 o 45).toInt := by rw [kp_2943 45 rfl]
                      have t_2952 : (I_2939 o 47).toInt = (I_2908 o 47).toInt := by rw [kp_2943 47 rfl]
                      have t_2953 : (I_2939 o 48).toInt = (I_2908 o 48).toInt := by rw [kp_2943 48 rfl]
                      have t_2954 : (I_2939 o 46).toInt = (I_2908 o 46).toInt := by rw [kp_2943 46 rfl]
                      have k_2955 : MTd I_2939 o := k_2928.fr (fr_2942 _ (by first | omega | (dsimp only; omega))) (fr_2942 _ (by first | omega | (dsimp only; omega))) (fr_2942 _ (by first | omega | (dsimp only; omega)))
                      have ms := u_2933 (by omega)
                      have k_2956 : EX 0 0 0 f0 0 I_2939 o := by exact EX.nx k_2927 (fr_2942 _ (by first | omega | (dsimp only; omega))) (fr_2942 _ (by first | omega | (dsimp only; omega))) (fr_2942 _ (by first | omega | (dsimp only; omega))) (fr_2942 _ (by first | omega | (dsimp only; omega))) (fr_2942 _ (by first | omega | (dsimp only; omega))) (kp_2943 3 rfl) (kp_2943 44 rfl) (kp_2943 45 rfl) (kp_2943 47 rfl) (kp_2943 48 rfl) (by omega) (by omega)
                      exact (hp _ _ _ hR_2941 hf_2944 (Or.inl rfl) (by first | omega | (intro h; omega) | exact Or.inl rfl | exact Or.inr rfl) (by first | omega | (intro h; omega) | exact Or.inl rfl | exact Or.inr rfl) (by first | omega | (intro h; omega) | exact Or.inl rfl | exact Or.inr rfl) (by first | omega | (intro h; omega) | exact Or.inl rfl | exact Or.inr rfl) (by first | omega | (intro h; omega) | exact Or.inl rfl | exact Or.inr rfl) (by clear hg; first | (intro h; exfalso; omega) | exact fun _ => (False.elim (by omega)) | exact fun _ => k_2956) k_2955 u_2936 u_2937 hg.symm)
                    · have d_2957 := iEq c_2900
                      replace hg := gt_pos (by first | exact d_2957 | omega) hg
                      replace hg := gt_let (y := (I_2868 o 9).toInt) rfl hg
                      refine y_Model_stepg hok hw ra hz55 (by first | omega | (intro h; omega) | exact Or.inl rfl | exact Or.inr rfl) (by first | omega | (intro h; omega) | exact Or.inl rfl | exact Or.inr rfl) hR_2870 (fun I_2962 L_2963 hR_2964 fr_2965 kp_2966 u_2959 u_2960 gn_2961 => ⟨I_2962, L_2963, rfl, rfl, ?_⟩)
                      replace hg := gt_b3 gn_2961 hg
                      clear gn_2961
                      have hf_2967 : Fm (fun c => c = o ∨ (o + 30 ≤ c ∧ c < o + 34)) I0 I_2962 := hf_2871.call fr_2965 (fun c hc => by first | exact hc | (dsimp only at hc ⊢; omega) | omega)
                      have t_2968 : (I_2962 o 3).toInt = (I_2868 o 3).toInt := by rw [kp_2966 3 rfl]
                      have t_2969 : (I_2962 o 4).toInt = (I_2868 o 4).toInt := by rw [kp_2966 4 rfl]
                      have t_2970 : (I_2962 o 6).toInt = (I_2868 o 6).toInt := by rw [kp_2966 6 rfl]
                      have t_2971 : (I_2962 o 7).toInt = (I_2868 o 7).toInt := by rw [kp_2966 7 rfl]
                      have t_2972 : (I_2962 o 8).toInt = (I_2868 o 8).toInt := by rw [kp_2966 8 rfl]
                      have t_2973 : (I_2962 o 9).toInt = (I_2868 o 9).toInt := by rw [kp_2966 9 rfl]
                      have t_2974 : (I_2962 o 44).toInt = (I_2868 o 44).toInt := by rw [kp_2966 44 rfl]
                      have g_2975 : (0 : Int) ≤ (I_2962 o 45).toInt ∧ (I_2962 o 45).toInt ≤ 700 := hR_2964.at0 ra 45 (by decide)
                      have t_2976 : (I_2962 o 47).toInt = (I_2868 o 47).toInt := by rw [kp_2966 47 rfl]
                      have t_2977 : (I_2962 o 48).toInt = (I_2868 o 48).toInt := by rw [kp_2966 48 rfl]
                      have t_2978 : (I_2962 o 46).toInt = (I_2868 o 46).toInt := by rw [kp_2966 46 rfl]
                      have k_2979 : MPo I_2962 o := k_2885.fr (kp_2966 8 rfl) (kp_2966 9 rfl)
                      have k_2980 : MTk I_2962 o := k_2886.fr (kp_2966 6 rfl) (kp_2966 7 rfl) (kp_2966 8 rfl)
                      have tk := k_2980.2 (by omega)
                      have k_2981 : EX 0 0 1 f0 0 I_2962 o := by exact EX.step1 k_2883 (by first | exact u_2816 (by omega) | (unfold isT; decide)) (by omega) (fr_2965 _ (by first | omega | (dsimp only; omega))) (fr_2965 _ (by first | omega | (dsimp only; omega))) u_2959 (fr_2965 _ (by first | omega | (dsimp only; omega))) (fr_2965 _ (by first | omega | (dsimp only; omega))) (kp_2966 3 rfl) (kp_2966 6 rfl) (kp_2966 44 rfl) u_2960 (kp_2966 47 rfl) (kp_2966 48 rfl)
                      have k_2982 : MTd I_2962 o := by exact MTd.step k_2884 (fr_2965 _ (by first | omega | (dsimp only; omega))) (fr_2965 _ (by first | omega | (dsimp only; omega))) u_2959 (by omega)
                      refine y_Model_nextg hok hw ra hz16 hz17 hz18 hz19 (by first | omega | (intro h; omega) | exact Or.inl rfl | exact Or.inr rfl) hR_2964 (fun I_2993 L_2994 hR_2995 fr_2996 kp_2997 u_2984 u_2985 u_2986 u_2987 u_2988 u_2989 u_2990 u_2991 gn_2992 => ⟨I_2993, L_2994, rfl, rfl, ?_⟩)
                      replace hg := gt_b3 gn_2992 hg
                      clear gn_2992
                      have hf_2998 : Fm (fun c => c = o ∨ (o + 30 ≤ c ∧ c < o + 34)) I0 I_2993 := hf_2967.call fr_2996 (fun c hc => by first | exact hc | (dsimp only at hc ⊢; omega) | omega)
                      have t_2999 : (I_2993 o 3).toInt = (I_2962 o 3).toInt := by rw [kp_2997 3 rfl]
                      have t_3000 : (I_2993 o 4).toInt = (I_2962 o 4).toInt := by rw [kp_2997 4 rfl]
                      have g_3001 : (0 : Int) ≤ (I_2993 o 6).toInt ∧ (I_2993 o 6).toInt ≤ 1600 := hR_2995.at0 ra 6 (by decide)
                      have g_3002 : (0 : Int) ≤ (I_2993 o 7).toInt ∧ (I_2993 o 7).toInt ≤ 1601 := hR_2995.at0 ra 7 (by decide)
                      have g_3003 : (0 : Int) ≤ (I_2993 o 8).toInt ∧ (I_2993 o 8).toInt ≤ 6 := hR_2995.at0 ra 8 (by decide)
                      have t_3004 : (I_2993 o 44).toInt = (I_2962 o 44).toInt := by rw [kp_2997 44 rfl]
                      have t_3005 : (I_2993 o 45).toInt = (I_2962 o 45).toInt := by rw [kp_2997 45 rfl]
                      have t_3006 : (I_2993 o 47).toInt = (I_2962 o 47).toInt := by rw [kp_2997 47 rfl]
                      have t_3007 : (I_2993 o 48).toInt = (I_2962 o 48).toInt := by rw [kp_2997 48 rfl]
                      have t_3008 : (I_2993 o 46).toInt = (I_2962 o 46).toInt := by rw [kp_2997 46 rfl]
                      have k_3009 : MTd I_2993 o := k_2982.fr (fr_2996 _ (by first | omega | (dsimp only; omega))) (fr_2996 _ (by first | omega | (dsimp only; omega))) (fr_2996 _ (by first | omega | (dsimp only; omega)))
                      have ms := u_2987 (by omega)
                      have k_3010 : EX 0 0 0 f0 0 I_2993 o := by exact EX.nx k_2981 (fr_2996 _ (by first | omega | (dsimp only; omega))) (fr_2996 _ (by first | omega | (dsimp only; omega))) (fr_2996 _ (by first | omega | (dsimp only; omega))) (fr_2996 _ (by first | omega | (dsimp only; omega))) (fr_2996 _ (by first | omega | (dsimp only; omega))) (kp_2997 3 rfl) (kp_2997 44 rfl) (kp_2997 45 rfl) (kp_2997 47 rfl) (kp_2997 48 rfl) (by omega) (by omega)
                      exact (hp _ _ _ hR_2995 hf_2998 (Or.inl rfl) (by first | omega | (intro h; omega) | exact Or.inl rfl | exact Or.inr rfl) (by first | omega | (intro h; omega) | exact Or.inl rfl | exact Or.inr rfl) (by first | omega | (intro h; omega) | exact Or.inl rfl | exact Or.inr rfl) (by first | omega | (intro h; omega) | exact Or.inl rfl | exact Or.inr rfl) (by first | omega | (intro h; omega) | exact Or.inl rfl | exact Or.inr rfl) (by clear hg; first | (intro h; exfalso; omega) | exact fun _ => (False.elim (by omega)) | exact fun _ => k_3010) k_3009 u_2990 u_2991 hg.symm)
                  · have d_3011 := iEq c_2896
                    replace hg := gt_pos (by first | exact d_3011 | omega) hg
                    unfold fModel_unit_228
                    replace hg := (eModel_unit_228).symm.trans hg
                    have l_3012 : (78 : Int32).toInt = 78 := rfl
                    refine ⟨fun c_3013 => ?_, fun c_3013 => ?_⟩
                    · have d_3014 := iNe c_3013
                      have i_3015 := u_2816 (by omega)
                      have i_3016 := u_2817 (by omega)
                      exfalso; omega
                    · have d_3017 := iEq c_3013
                      replace hg := gt_pos (by first | exact d_3017 | omega) hg
                      replace hg := gt_let (y := (I_2868 o 9).toInt) rfl hg
                      refine y_Model_stepg hok hw ra hz55 (by first | omega | (intro h; omega) | exact Or.inl rfl | exact Or.inr rfl) (by first | omega | (intro h; omega) | exact Or.inl rfl | exact Or.inr rfl) hR_2870 (fun I_3022 L_3023 hR_3024 fr_3025 kp_3026 u_3019 u_3020 gn_3021 => ⟨I_3022, L_3023, rfl, rfl, ?_⟩)
                      replace hg := gt_b3 gn_3021 hg
                      clear gn_3021
                      have hf_3027 : Fm (fun c => c = o ∨ (o + 30 ≤ c ∧ c < o + 34)) I0 I_3022 := hf_2871.call fr_3025 (fun c hc => by first | exact hc | (dsimp only at hc ⊢; omega) | omega)
                      have t_3028 : (I_3022 o 3).toInt = (I_2868 o 3).toInt := by rw [kp_3026 3 rfl]
                      have t_3029 : (I_3022 o 4).toInt = (I_2868 o 4).toInt := by rw [kp_3026 4 rfl]
                      have t_3030 : (I_3022 o 6).toInt = (I_2868 o 6).toInt := by rw [kp_3026 6 rfl]
                      have t_3031 : (I_3022 o 7).toInt = (I_2868 o 7).toInt := by rw [kp_3026 7 rfl]
                      have t_3032 : (I_3022 o 8).toInt = (I_2868 o 8).toInt := by rw [kp_3026 8 rfl]
                      have t_3033 : (I_3022 o 9).toInt = (I_2868 o 9).toInt := by rw [kp_3026 9 rfl]
                      have t_3034 : (I_3022 o 44).toInt = (I_2868 o 44).toInt := by rw [kp_3026 44 rfl]
                      have g_3035 : (0 : Int) ≤ (I_3022 o 45).toInt ∧ (I_3022 o 45).toInt ≤ 700 := hR_3024.at0 ra 45 (by decide)
                      have t_3036 : (I_3022 o 47).toInt = (I_2868 o 47).toInt := by rw [kp_3026 47 rfl]
                      have t_3037 : (I_3022 o 48).toInt = (I_2868 o 48).toInt := by rw [kp_3026 48 rfl]
                      have t_3038 : (I_3022 o 46).toInt = (I_2868 o 46).toInt := by rw [kp_3026 46 rfl]
                      have k_3039 : MPo I_3022 o := k_2885.fr (kp_3026 8 rfl) (kp_3026 9 rfl)
                      have k_3040 : MTk I_3022 o := k_2886.fr (kp_3026 6 rfl) (kp_3026 7 rfl) (kp_3026 8 rfl)
                      have tk := k_3040.2 (by omega)
                      have k_3041 : EX 0 0 1 f0 0 I_3022 o := by exact EX.step1 k_2883 (by first | exact u_2816 (by omega) | (unfold isT; decide)) (by omega) (fr_3025 _ (by first | omega | (dsimp only; omega))) (fr_3025 _ (by first | omega | (dsimp only; omega))) u_3019 (fr_3025 _ (by first | omega | (dsimp only; omega))) (fr_3025 _ (by first | omega | (dsimp only; omega))) (kp_3026 3 rfl) (kp_3026 6 rfl) (kp_3026 44 rfl) u_3020 (kp_3026 47 rfl) (kp_3026 48 rfl)
                      have k_3042 : MTd I_3022 o := by exact MTd.step k_2884 (fr_3025 _ (by first | omega | (dsimp only; omega))) (fr_3025 _ (by first | omega | (dsimp only; omega))) u_3019 (by omega)
                      refine y_Model_nextg hok hw ra hz16 hz17 hz18 hz19 (by first | omega | (intro h; omega) | exact Or.inl rfl | exact Or.inr rfl) hR_3024 (fun I_3053 L_3054 hR_3055 fr_3056 kp_3057 u_3044 u_3045 u_3046 u_3047 u_3048 u_3049 u_3050 u_3051 gn_3052 => ⟨I_3053, L_3054, rfl, rfl, ?_⟩)
                      replace hg := gt_b3 gn_3052 hg
                      clear gn_3052
                      have hf_3058 : Fm (fun c => c = o ∨ (o + 30 ≤ c ∧ c < o + 34)) I0 I_3053 := hf_3027.call fr_3056 (fun c hc => by first | exact hc | (dsimp only at hc ⊢; omega) | omega)
                      have t_3059 : (I_3053 o 3).toInt = (I_3022 o 3).toInt := by rw [kp_3057 3 rfl]
                      have t_3060 : (I_3053 o 4).toInt = (I_3022 o 4).toInt := by rw [kp_3057 4 rfl]
                      have g_3061 : (0 : Int) ≤ (I_3053 o 6).toInt ∧ (I_3053 o 6).toInt ≤ 1600 := hR_3055.at0 ra 6 (by decide)
                      have g_3062 : (0 : Int) ≤ (I_3053 o 7).toInt ∧ (I_3053 o 7).toInt ≤ 1601 := hR_3055.at0 ra 7 (by decide)
                      have g_3063 : (0 : Int) ≤ (I_3053 o 8).toInt ∧ (I_3053 o 8).toInt ≤ 6 := hR_3055.at0 ra 8 (by decide)
                      have t_3064 : (I_3053 o 44).toInt = (I_3022 o 44).toInt := by rw [kp_3057 44 rfl]
                      have t_3065 : (I_3053 o 45).toInt = (I_3022 o 45).toInt := by rw [kp_3057 45 rfl]
                      have t_3066 : (I_3053 o 47).toInt = (I_3022 o 47).toInt := by rw [kp_3057 47 rfl]
                      have t_3067 : (I_3053 o 48).toInt = (I_3022 o 48).toInt := by rw [kp_3057 48 rfl]
                      have t_3068 : (I_3053 o 46).toInt = (I_3022 o 46).toInt := by rw [kp_3057 46 rfl]
                      have k_3069 : MTd I_3053 o := k_3042.fr (fr_3056 _ (by first | omega | (dsimp only; omega))) (fr_3056 _ (by first | omega | (dsimp only; omega))) (fr_3056 _ (by first | omega | (dsimp only; omega)))
                      have ms := u_3047 (by omega)
                      have k_3070 : EX 0 0 0 f0 0 I_3053 o := by exact EX.nx k_3041 (fr_3056 _ (by first | omega | (dsimp only; omega))) (fr_3056 _ (by first | omega | (dsimp only; omega))) (fr_3056 _ (by first | omega | (dsimp only; omega))) (fr_3056 _ (by first | omega | (dsimp only; omega))) (fr_3056 _ (by first | omega | (dsimp only; omega))) (kp_3057 3 rfl) (kp_3057 44 rfl) (kp_3057 45 rfl) (kp_3057 47 rfl) (kp_3057 48 rfl) (by omega) (by omega)
                      exact (hp _ _ _ hR_3055 hf_3058 (Or.inl rfl) (by first | omega | (intro h; omega) | exact Or.inl rfl | exact Or.inr rfl) (by first | omega | (intro h; omega) | exact Or.inl rfl | exact Or.inr rfl) (by first | omega | (intro h; omega) | exact Or.inl rfl | exact Or.inr rfl) (by first | omega | (intro h; omega) | exact Or.inl rfl | exact Or.inr rfl) (by first | omega | (intro h; omega) | exact Or.inl rfl | exact Or.inr rfl) (by clear hg; first | (intro h; exfalso; omega) | exact fun _ => (False.elim (by omega)) | exact fun _ => k_3070) k_3069 u_3050 u_3051 hg.symm)
                · have d_3071 := iNe c_2894
                  have i_3072 := u_2890 (by omega)
                  have i_3073 := u_2891 (by omega)
                  replace hg := gt_neg (by first | exact d_3071 | omega) hg
                  have g_3074 : (0 : Int) ≤ (I_2868 o 47).toInt ∧ (I_2868 o 47).toInt ≤ 7 := hR_2870.at0 ra 47 (by decide)
                  replace hg := gt_let (y := (I_2868 o 47).toInt) rfl hg
                  refine ⟨fun c_3075 => ?_, fun c_3075 => ?_⟩
                  · have d_3076 := iNe c_3075
                    replace hg := gt_neg (by first | exact d_3076 | omega) hg
                    refine y_Model_isGoodg hok hw ra hR_2870 (fun r_3077 u_3078 u_3079 u_3080 gn_3081 => ⟨r_3077, I_2868, L_2821, rfl, rfl, ?_⟩)
                    replace hg := gt_let gn_3081 hg
                    clear gn_3081
                    have b_3082 : 0 ≤ r_3077.toInt ∧ r_3077.toInt ≤ 1 := u_3078.rg
                    refine ⟨fun c_3083 => ?_, fun c_3083 => ?_⟩
                    · have d_3084 := iNe c_3083
                      have i_3085 := u_3079 (by omega)
                      replace hg := gt_neg (by first | exact d_3084 | omega) hg
                      refine y_Model_pileg hok hw ra hz58 (by first | omega | (intro h; omega) | exact Or.inl rfl | exact Or.inr rfl) (by first | omega | (intro h; omega) | exact Or.inl rfl | exact Or.inr rfl) hR_2870 (fun I_3091 L_3092 hR_3093 fr_3094 kp_3095 u_3087 u_3088 u_3089 gn_3090 => ⟨I_3091, L_3092, rfl, rfl, ?_⟩)
                      replace hg := gt_b3 gn_3090 hg
                      clear gn_3090
                      have hf_3096 : Fm (fun c => c = o ∨ (o + 30 ≤ c ∧ c < o + 34)) I0 I_3091 := hf_2871.call fr_3094 (fun c hc => by first | exact hc | (dsimp only at hc ⊢; omega) | omega)
                      have t_3097 : (I_3091 o 3).toInt = (I_2868 o 3).toInt := by rw [kp_3095 3 rfl]
                      have t_3098 : (I_3091 o 4).toInt = (I_2868 o 4).toInt := by rw [kp_3095 4 rfl]
                      have t_3099 : (I_3091 o 6).toInt = (I_2868 o 6).toInt := by rw [kp_3095 6 rfl]
                      have t_3100 : (I_3091 o 7).toInt = (I_2868 o 7).toInt := by rw [kp_3095 7 rfl]
                      have t_3101 : (I_3091 o 8).toInt = (I_2868 o 8).toInt := by rw [kp_3095 8 rfl]
                      have t_3102 : (I_3091 o 9).toInt = (I_2868 o 9).toInt := by rw [kp_3095 9 rfl]
                      have t_3103 : (I_3091 o 44).toInt = (I_2868 o 44).toInt := by rw [kp_3095 44 rfl]
                      have t_3104 : (I_3091 o 45).toInt = (I_2868 o 45).toInt := by rw [kp_3095 45 rfl]
                      have t_3105 : (I_3091 o 47).toInt = (I_2868 o 47).toInt := by rw [kp_3095 47 rfl]
                      have g_3106 : (0 : Int) ≤ (I_3091 o 48).toInt ∧ (I_3091 o 48).toInt ≤ 80 := hR_3093.at0 ra 48 (by decide)
                      have t_3107 : (I_3091 o 46).toInt = (I_2868 o 46).toInt := by rw [kp_3095 46 rfl]
                      have k_3108 : MTd I_3091 o := k_2884.fr (fr_3094 _ (by first | omega | (dsimp only; omega))) (fr_3094 _ (by first | omega | (dsimp only; omega))) (fr_3094 _ (by first | omega | (dsimp only; omega)))
                      have k_3109 : MPo I_3091 o := k_2885.fr (kp_3095 8 rfl) (kp_3095 9 rfl)
                      have k_3110 : MTk I_3091 o := k_2886.fr (kp_3095 6 rfl) (kp_3095 7 rfl) (kp_3095 8 rfl)
                      have k_3111 : EX 0 1 1 f0 1 I_3091 o := by have z := EX.push k_2883 (v := 7) (s := 0) (dB := 1) (dO := 0) (wt' := 1) (by decide) (by decide) (by decide) (by omega) ⟨by decide, by decide⟩ ⟨fun h => absurd h (by decide), fun h => absurd h (by decide)⟩ (Or.inl rfl) (fr_3094 _ (by first | omega | (dsimp only; omega))) (fr_3094 _ (by first | omega | (dsimp only; omega))) (fr_3094 _ (by first | omega | (dsimp only; omega))) u_3087 u_3088 (kp_3095 3 rfl) (kp_3095 6 rfl) (kp_3095 44 rfl) (kp_3095 45 rfl) (kp_3095 47 rfl) u_3089; exact EX.chg (b' := 1) z rfl rfl rfl rfl rfl rfl rfl rfl rfl rfl (by omega) z.pl
                      have g_3112 : (0 : Int) ≤ (I_3091 o 47).toInt ∧ (I_3091 o 47).toInt ≤ 7 := hR_3093.at0 ra 47 (by decide)
                      replace hg := gt_let (y := (I_3091 o 47).toInt) rfl hg
                      have a_3113 : ((I_3091 o 47) + 1).toInt = (I_3091 o 47).toInt + (1 : Int32).toInt := tAdd (by omega) (by omega)
                      replace hg := gt_let (y := (((I_3091 o 47) + 1) : Int32).toInt) (by omega) hg
                      refine fun I_3114 e_3115 => ?_
                      replace hg := gt_let (y := tI I_3114) (tI_q e_3115) hg
                      have hR_3116 : RI R I_3114 := hR_3093.up0 (k := 47) ra (by decide) (Or.inr hz57) e_3115 (show (0 : Int) ≤ ((I_3091 o 47) + 1).toInt by omega) (show ((I_3091 o 47) + 1).toInt ≤ (7 : Int) by omega)
                      have hf_3117 : Fm (fun c => c = o ∨ (o + 30 ≤ c ∧ c < o + 34)) I0 I_3114 := hf_3096.set (by first | rfl | omega | (dsimp only; omega)) e_3115
                      have t_3118 : (I_3114 o 3).toInt = (I_3091 o 3).toInt := by rw [← e_3115, q_u_k (by decide)]
                      have t_3119 : (I_3114 o 4).toInt = (I_3091 o 4).toInt := by rw [← e_3115, q_u_k (by decide)]
                      have t_3120 : (I_3114 o 6).toInt = (I_3091 o 6).toInt := by rw [← e_3115, q_u_k (by decide)]
                      have t_3121 : (I_3114 o 7).toInt = (I_3091 o 7).toInt := by rw [← e_3115, q_u_k (by decide)]
                      have t_3122 : (I_3114 o 8).toInt = (I_3091 o 8).toInt := by rw [← e_3115, q_u_k (by decide)]
                      have t_3123 : (I_3114 o 9).toInt = (I_3091 o 9).toInt := by rw [← e_3115, q_u_k (by decide)]
                      have t_3124 : (I_3114 o 44).toInt = (I_3091 o 44).toInt := by rw [← e_3115, q_u_k (by decide)]
                      have t_3125 : (I_3114 o 45).toInt = (I_3091 o 45).toInt := by rw [← e_3115, q_u_k (by decide)]
                      have t_3126 : (I_3114 o 47).toInt = ((I_3091 o 47) + 1).toInt := by rw [← e_3115, q_u_at]
                      have t_3127 : (I_3114 o 48).toInt = (I_3091 o 48).toInt := by rw [← e_3115, q_u_k (by decide)]
                      have t_3128 : (I_3114 o 46).toInt = (I_3091 o 46).toInt := by rw [← e_3115, q_u_k (by decide)]
                      have k_3129 : MTd I_3114 o := k_3108.fr (by rw [← e_3115]; exact q_u_ne (by omega)) (by rw [← e_3115]; exact q_u_ne (by omega)) (by rw [← e_3115]; exact q_u_ne (by omega))
                      have k_3130 : MPo I_3114 o := k_3109.fr (by rw [← e_3115, q_u_k (by decide)]) (by rw [← e_3115, q_u_k (by decide)])
                      have k_3131 : MTk I_3114 o := k_3110.fr (by rw [← e_3115, q_u_k (by decide)]) (by rw [← e_3115, q_u_k (by decide)]) (by rw [← e_3115, q_u_k (by decide)])
                      have tk := k_3131.2 (by omega)
                      have k_3133 : EX 0 0 1 f0 1 I_3114 o := by exact EX.put47 k_3111 e_3115 (by omega)
                      refine y_Model_nextg hok hw ra hz16 hz17 hz18 hz19 (by first | omega | (intro h; omega) | exact Or.inl rfl | exact Or.inr rfl) hR_3116 (fun I_3144 L_3145 hR_3146 fr_3147 kp_3148 u_3135 u_3136 u_3137 u_3138 u_3139 u_3140 u_3141 u_3142 gn_3143 => ⟨I_3144, L_3145, rfl, rfl, ?_⟩)
                      replace hg := gt_b3 gn_3143 hg
                      clear gn_3143
                      have hf_3149 : Fm (fun c => c = o ∨ (o + 30 ≤ c ∧ c < o + 34)) I0 I_3144 := hf_3117.call fr_3147 (fun c hc => by first | exact hc | (dsimp only at hc ⊢; omega) | omega)
                      have t_3150 : (I_3144 o 3).toInt = (I_3114 o 3).toInt := by rw [kp_3148 3 rfl]
                      have t_3151 : (I_3144 o 4).toInt = (I_3114 o 4).toInt := by rw [kp_3148 4 rfl]
                      have g_3152 : (0 : Int) ≤ (I_3144 o 6).toInt ∧ (I_3144 o 6).toInt ≤ 1600 := hR_3146.at0 ra 6 (by decide)
                      have g_3153 : (0 : Int) ≤ (I_3144 o 7).toInt ∧ (I_3144 o 7).toInt ≤ 1601 := hR_3146.at0 ra 7 (by decide)
                      have g_3154 : (0 : Int) ≤ (I_3144 o 8).toInt ∧ (I_3144 o 8).toInt ≤ 6 := hR_3146.at0 ra 8 (by decide)
                      have t_3155 : (I_3144 o 44).toInt = (I_3114 o 44).toInt := by rw [kp_3148 44 rfl]
                      have t_3156 : (I_3144 o 45).toInt = (I_3114 o 45).toInt := by rw [kp_3148 45 rfl]
                      have t_3157 : (I_3144 o 47).toInt = (I_3114 o 47).toInt := by rw [kp_3148 47 rfl]
                      have t_3158 : (I_3144 o 48).toInt = (I_3114 o 48).toInt := by rw [kp_3148 48 rfl]
                      have t_3159 : (I_3144 o 46).toInt = (I_3114 o 46).toInt := by rw [kp_3148 46 rfl]
                      have k_3160 : MTd I_3144 o := k_3129.fr (fr_3147 _ (by first | omega | (dsimp only; omega))) (fr_3147 _ (by first | omega | (dsimp only; omega))) (fr_3147 _ (by first | omega | (dsimp only; omega)))
                      have ms := u_3138 (by omega)
                      have k_3161 : EX 0 0 0 f0 1 I_3144 o := by exact EX.nx k_3133 (fr_3147 _ (by first | omega | (dsimp only; omega))) (fr_3147 _ (by first | omega | (dsimp only; omega))) (fr_3147 _ (by first | omega | (dsimp only; omega))) (fr_3147 _ (by first | omega | (dsimp only; omega))) (fr_3147 _ (by first | omega | (dsimp only; omega))) (kp_3148 3 rfl) (kp_3148 44 rfl) (kp_3148 45 rfl) (kp_3148 47 rfl) (kp_3148 48 rfl) (by omega) (by omega)
                      exact (hp _ _ _ hR_3146 hf_3149 (Or.inr rfl) (by first | omega | (intro h; omega) | exact Or.inl rfl | exact Or.inr rfl) (by first | omega | (intro h; omega) | exact Or.inl rfl | exact Or.inr rfl) (by first | omega | (intro h; omega) | exact Or.inl rfl | exact Or.inr rfl) (by first | omega | (intro h; omega) | exact Or.inl rfl | exact Or.inr rfl) (by first | omega | (intro h; omega) | exact Or.inl rfl | exact Or.inr rfl) (by clear hg; first | (intro h; exfalso; omega) | exact fun _ => k_3161 | exact fun _ => (False.elim (by omega))) k_3160 u_3141 u_3142 hg.symm)
                    · have d_3162 := iEq c_3083
                      have i_3163 := u_3080 (by omega)
                      replace hg := gt_pos (by first | exact d_3162 | omega) hg
                      exact (hp _ _ _ hR_2870 hf_2871 (Or.inr rfl) (by first | omega | (intro h; omega) | exact Or.inl rfl | exact Or.inr rfl) (by first | omega | (intro h; omega) | exact Or.inl rfl | exact Or.inr rfl) (by first | omega | (intro h; omega) | exact Or.inl rfl | exact Or.inr rfl) (by first | omega | (intro h; omega) | exact Or.inl rfl | exact Or.inr rfl) (by first | omega | (intro h; omega) | exact Or.inl rfl | exact Or.inr rfl) (by clear hg; first | (intro h; exfalso; omega) | exact fun _ => k_2883 | exact fun _ => (False.elim (by omega))) k_2884 k_2885 k_2886 hg.symm)
                  · have d_3164 := iEq c_3075
                    replace hg := gt_pos (by first | exact d_3164 | omega) hg
                    refine y_Model_wrongg hok hw ra hz14 hz15 hR_2870 (fun I_3169 L_3170 hR_3171 fr_3172 kp_3173 u_3166 u_3167 gn_3168 => ⟨I_3169, L_3170, rfl, rfl, ?_⟩)
                    replace hg := gt_b3 gn_3168 hg
                    clear gn_3168
                    have hf_3174 : Fm (fun c => c = o ∨ (o + 30 ≤ c ∧ c < o + 34)) I0 I_3169 := hf_2871.call fr_3172 (fun c hc => by first | exact hc | (dsimp only at hc ⊢; omega) | omega)
                    have t_3175 : (I_3169 o 3).toInt = (I_2868 o 3).toInt := by rw [kp_3173 3 rfl]
                    have g_3176 : (0 : Int) ≤ (I_3169 o 4).toInt ∧ (I_3169 o 4).toInt ≤ 5 := hR_3171.at0 ra 4 (by decide)
                    have t_3177 : (I_3169 o 6).toInt = (I_2868 o 6).toInt := by rw [kp_3173 6 rfl]
                    have t_3178 : (I_3169 o 7).toInt = (I_2868 o 7).toInt := by rw [kp_3173 7 rfl]
                    have t_3179 : (I_3169 o 8).toInt = (I_2868 o 8).toInt := by rw [kp_3173 8 rfl]
                    have t_3180 : (I_3169 o 9).toInt = (I_2868 o 9).toInt := by rw [kp_3173 9 rfl]
                    have t_3181 : (I_3169 o 44).toInt = (I_2868 o 44).toInt := by rw [kp_3173 44 rfl]
                    have t_3182 : (I_3169 o 45).toInt = (I_2868 o 45).toInt := by rw [kp_3173 45 rfl]
                    have t_3183 : (I_3169 o 47).toInt = (I_2868 o 47).toInt := by rw [kp_3173 47 rfl]
                    have t_3184 : (I_3169 o 48).toInt = (I_2868 o 48).toInt := by rw [kp_3173 48 rfl]
                    have t_3185 : (I_3169 o 46).toInt = (I_2868 o 46).toInt := by rw [kp_3173 46 rfl]
                    have k_3186 : EX 0 0 0 f0 1 I_3169 o := k_2883.fr (fr_3172 _ (by first | omega | (dsimp only; omega))) (fr_3172 _ (by first | omega | (dsimp only; omega))) (fr_3172 _ (by first | omega | (dsimp only; omega))) (fr_3172 _ (by first | omega | (dsimp only; omega))) (fr_3172 _ (by first | omega | (dsimp only; omega))) (kp_3173 3 rfl) (kp_3173 6 rfl) (kp_3173 44 rfl) (kp_3173 45 rfl) (kp_3173 47 rfl) (kp_3173 48 rfl)
                    have k_3187 : MTd I_3169 o := k_2884.fr (fr_3172 _ (by first | omega | (dsimp only; omega))) (fr_3172 _ (by first | omega | (dsimp only; omega))) (fr_3172 _ (by first | omega | (dsimp only; omega)))
                    have k_3188 : MPo I_3169 o := k_2885.fr (kp_3173 8 rfl) (kp_3173 9 rfl)
                    have k_3189 : MTk I_3169 o := k_2886.fr (kp_3173 6 rfl) (kp_3173 7 rfl) (kp_3173 8 rfl)
                    refine y_Model_isGoodg hok hw ra hR_3171 (fun r_3190 u_3191 u_3192 u_3193 gn_3194 => ⟨r_3190, I_3169, L_3170, rfl, rfl, ?_⟩)
                    replace hg := gt_let gn_3194 hg
                    clear gn_3194
                    have b_3195 : 0 ≤ r_3190.toInt ∧ r_3190.toInt ≤ 1 := u_3191.rg
                    refine ⟨fun c_3196 => ?_, fun c_3196 => ?_⟩
                    · have d_3197 := iNe c_3196
                      have i_3198 := u_3192 (by omega)
                      replace hg := gt_neg (by first | exact d_3197 | omega) hg
                      refine y_Model_pileg hok hw ra hz58 (by first | omega | (intro h; omega) | exact Or.inl rfl | exact Or.inr rfl) (by first | omega | (intro h; omega) | exact Or.inl rfl | exact Or.inr rfl) hR_3171 (fun I_3204 L_3205 hR_3206 fr_3207 kp_3208 u_3200 u_3201 u_3202 gn_3203 => ⟨I_3204, L_3205, rfl, rfl, ?_⟩)
                      replace hg := gt_b3 gn_3203 hg
                      clear gn_3203
                      have hf_3209 : Fm (fun c => c = o ∨ (o + 30 ≤ c ∧ c < o + 34)) I0 I_3204 := hf_3174.call fr_3207 (fun c hc => by first | exact hc | (dsimp only at hc ⊢; omega) | omega)
                      have t_3210 : (I_3204 o 3).toInt = (I_3169 o 3).toInt := by rw [kp_3208 3 rfl]
                      have t_3211 : (I_3204 o 4).toInt = (I_3169 o 4).toInt := by rw [kp_3208 4 rfl]
                      have t_3212 : (I_3204 o 6).toInt = (I_3169 o 6).toInt := by rw [kp_3208 6 rfl]
                      have t_3213 : (I_3204 o 7).toInt = (I_3169 o 7).toInt := by rw [kp_3208 7 rfl]
                      have t_3214 : (I_3204 o 8).toInt = (I_3169 o 8).toInt := by rw [kp_3208 8 rfl]
                      have t_3215 : (I_3204 o 9).toInt = (I_3169 o 9).toInt := by rw [kp_3208 9 rfl]
                      have t_3216 : (I_3204 o 44).toInt = (I_3169 o 44).toInt := by rw [kp_3208 44 rfl]
                      have t_3217 : (I_3204 o 45).toInt = (I_3169 o 45).toInt := by rw [kp_3208 45 rfl]
                      have t_3218 : (I_3204 o 47).toInt = (I_3169 o 47).toInt := by rw [kp_3208 47 rfl]
                      have g_3219 : (0 : Int) ≤ (I_3204 o 48).toInt ∧ (I_3204 o 48).toInt ≤ 80 := hR_3206.at0 ra 48 (by decide)
                      have t_3220 : (I_3204 o 46).toInt = (I_3169 o 46).toInt := by rw [kp_3208 46 rfl]
                      have k_3221 : MTd I_3204 o := k_3187.fr (fr_3207 _ (by first | omega | (dsimp only; omega))) (fr_3207 _ (by first | omega | (dsimp only; omega))) (fr_3207 _ (by first | omega | (dsimp only; omega)))
                      have k_3222 : MPo I_3204 o := k_3188.fr (kp_3208 8 rfl) (kp_3208 9 rfl)
                      have k_3223 : MTk I_3204 o := k_3189.fr (kp_3208 6 rfl) (kp_3208 7 rfl) (kp_3208 8 rfl)
                      have k_3224 : EX 0 1 1 f0 1 I_3204 o := by have z := EX.push k_3186 (v := 7) (s := 0) (dB := 1) (dO := 0) (wt' := 1) (by decide) (by decide) (by decide) (by omega) ⟨by decide, by decide⟩ ⟨fun h => absurd h (by decide), fun h => absurd h (by decide)⟩ (Or.inl rfl) (fr_3207 _ (by first | omega | (dsimp only; omega))) (fr_3207 _ (by first | omega | (dsimp only; omega))) (fr_3207 _ (by first | omega | (dsimp only; omega))) u_3200 u_3201 (kp_3208 3 rfl) (kp_3208 6 rfl) (kp_3208 44 rfl) (kp_3208 45 rfl) (kp_3208 47 rfl) u_3202; exact EX.chg (b' := 1) z rfl rfl rfl rfl rfl rfl rfl rfl rfl rfl (by omega) z.pl
                      have g_3225 : (0 : Int) ≤ (I_3204 o 47).toInt ∧ (I_3204 o 47).toInt ≤ 7 := hR_3206.at0 ra 47 (by decide)
                      replace hg := gt_let (y := (I_3204 o 47).toInt) rfl hg
                      have a_3226 : ((I_3204 o 47) + 1).toInt = (I_3204 o 47).toInt + (1 : Int32).toInt := tAdd (by omega) (by omega)
                      replace hg := gt_let (y := (((I_3204 o 47) + 1) : Int32).toInt) (by omega) hg
                      refine fun I_3227 e_3228 => ?_
                      replace hg := gt_let (y := tI I_3227) (tI_q e_3228) hg
                      have hR_3229 : RI R I_3227 := hR_3206.up0 (k := 47) ra (by decide) (Or.inr hz57) e_3228 (show (0 : Int) ≤ ((I_3204 o 47) + 1).toInt by omega) (show ((I_3204 o 47) + 1).toInt ≤ (7 : Int) by omega)
                      have hf_3230 : Fm (fun c => c = o ∨ (o + 30 ≤ c ∧ c < o + 34)) I0 I_3227 := hf_3209.set (by first | rfl | omega | (dsimp only; omega)) e_3228
                      have t_3231 : (I_3227 o 3).toInt = (I_3204 o 3).toInt := by rw [← e_3228, q_u_k (by decide)]
                      have t_3232 : (I_3227 o 4).toInt = (I_3204 o 4).toInt := by rw [← e_3228, q_u_k (by decide)]
                      have t_3233 : (I_3227 o 6).toInt = (I_3204 o 6).toInt := by rw [← e_3228, q_u_k (by decide)]
                      have t_3234 : (I_3227 o 7).toInt = (I_3204 o 7).toInt := by rw [← e_3228, q_u_k (by decide)]
                      have t_3235 : (I_3227 o 8).toInt = (I_3204 o 8).toInt := by rw [← e_3228, q_u_k (by decide)]
                      have t_3236 : (I_3227 o 9).toInt = (I_3204 o 9).toInt := by rw [← e_3228, q_u_k (by decide)]
                      have t_3237 : (I_3227 o 44).toInt = (I_3204 o 44).toInt := by rw [← e_3228, q_u_k (by decide)]
                      have t_3238 : (I_3227 o 45).toInt = (I_3204 o 45).toInt := by rw [← e_3228, q_u_k (by decide)]
                      have t_3239 : (I_3227 o 47).toInt = ((I_3204 o 47) + 1).toInt := by rw [← e_3228, q_u_at]
                      have t_3240 : (I_3227 o 48).toInt = (I_3204 o 48).toInt := by rw [← e_3228, q_u_k (by decide)]
                      have t_3241 : (I_3227 o 46).toInt = (I_3204 o 46).toInt := by rw [← e_3228, q_u_k (by decide)]
                      have k_3242 : MTd I_3227 o := k_3221.fr (by rw [← e_3228]; exact q_u_ne (by omega)) (by rw [← e_3228]; exact q_u_ne (by omega)) (by rw [← e_3228]; exact q_u_ne (by omega))
                      have k_3243 : MPo I_3227 o := k_3222.fr (by rw [← e_3228, q_u_k (by decide)]) (by rw [← e_3228, q_u_k (by decide)])
                      have k_3244 : MTk I_3227 o := k_3223.fr (by rw [← e_3228, q_u_k (by decide)]) (by rw [← e_3228, q_u_k (by decide)]) (by rw [← e_3228, q_u_k (by decide)])
                      have tk := k_3244.2 (by omega)
                      have k_3246 : EX 0 0 1 f0 1 I_3227 o := by exact EX.put47 k_3224 e_3228 (by omega)
                      refine y_Model_nextg hok hw ra hz16 hz17 hz18 hz19 (by first | omega | (intro h; omega) | exact Or.inl rfl | exact Or.inr rfl) hR_3229 (fun I_3257 L_3258 hR_3259 fr_3260 kp_3261 u_3248 u_3249 u_3250 u_3251 u_3252 u_3253 u_3254 u_3255 gn_3256 => ⟨I_3257, L_3258, rfl, rfl, ?_⟩)
                      replace hg := gt_b3 gn_3256 hg
                      clear gn_3256
                      have hf_3262 : Fm (fun c => c = o ∨ (o + 30 ≤ c ∧ c < o + 34)) I0 I_3257 := hf_3230.call fr_3260 (fun c hc => by first | exact hc | (dsimp only at hc ⊢; omega) | omega)
                      have t_3263 : (I_3257 o 3).toInt = (I_3227 o 3).toInt := by rw [kp_3261 3 rfl]
                      have t_3264 : (I_3257 o 4).toInt = (I_3227 o 4).toInt := by rw [kp_3261 4 rfl]
                      have g_3265 : (0 : Int) ≤ (I_3257 o 6).toInt ∧ (I_3257 o 6).toInt ≤ 1600 := hR_3259.at0 ra 6 (by decide)
                      have g_3266 : (0 : Int) ≤ (I_3257 o 7).toInt ∧ (I_3257 o 7).toInt ≤ 1601 := hR_3259.at0 ra 7 (by decide)
                      have g_3267 : (0 : Int) ≤ (I_3257 o 8).toInt ∧ (I_3257 o 8).toInt ≤ 6 := hR_3259.at0 ra 8 (by decide)
                      have t_3268 : (I_3257 o 44).toInt = (I_3227 o 44).toInt := by rw [kp_3261 44 rfl]
                      have t_3269 : (I_3257 o 45).toInt = (I_3227 o 45).toInt := by rw [kp_3261 45 rfl]
                      have t_3270 : (I_3257 o 47).toInt = (I_3227 o 47).toInt := by rw [kp_3261 47 rfl]
                      have t_3271 : (I_3257 o 48).toInt = (I_3227 o 48).toInt := by rw [kp_3261 48 rfl]
                      have t_3272 : (I_3257 o 46).toInt = (I_3227 o 46).toInt := by rw [kp_3261 46 rfl]
                      have k_3273 : MTd I_3257 o := k_3242.fr (fr_3260 _ (by first | omega | (dsimp only; omega))) (fr_3260 _ (by first | omega | (dsimp only; omega))) (fr_3260 _ (by first | omega | (dsimp only; omega)))
                      have ms := u_3251 (by omega)
                      have k_3274 : EX 0 0 0 f0 1 I_3257 o := by exact EX.nx k_3246 (fr_3260 _ (by first | omega | (dsimp only; omega))) (fr_3260 _ (by first | omega | (dsimp only; omega))) (fr_3260 _ (by first | omega | (dsimp only; omega))) (fr_3260 _ (by first | omega | (dsimp only; omega))) (fr_3260 _ (by first | omega | (dsimp only; omega))) (kp_3261 3 rfl) (kp_3261 44 rfl) (kp_3261 45 rfl) (kp_3261 47 rfl) (kp_3261 48 rfl) (by omega) (by omega)
                      exact (hp _ _ _ hR_3259 hf_3262 (Or.inr rfl) (by first | omega | (intro h; omega) | exact Or.inl rfl | exact Or.inr rfl) (by first | omega | (intro h; omega) | exact Or.inl rfl | exact Or.inr rfl) (by first | omega | (intro h; omega) | exact Or.inl rfl | exact Or.inr rfl) (by first | omega | (intro h; omega) | exact Or.inl rfl | exact Or.inr rfl) (by first | omega | (intro h; omega) | exact Or.inl rfl | exact Or.inr rfl) (by clear hg; first | (intro h; exfalso; omega) | exact fun _ => k_3274 | exact fun _ => (False.elim (by omega))) k_3273 u_3254 u_3255 hg.symm)
                    · have d_3275 := iEq c_3196
                      have i_3276 := u_3193 (by omega)
                      replace hg := gt_pos (by first | exact d_3275 | omega) hg
                      exact (hp _ _ _ hR_3171 hf_3174 (Or.inr rfl) (by first | omega | (intro h; omega) | exact Or.inl rfl | exact Or.inr rfl) (by first | omega | (intro h; omega) | exact Or.inl rfl | exact Or.inr rfl) (by first | omega | (intro h; omega) | exact Or.inl rfl | exact Or.inr rfl) (by first | omega | (intro h; omega) | exact Or.inl rfl | exact Or.inr rfl) (by first | omega | (intro h; omega) | exact Or.inl rfl | exact Or.inr rfl) (by clear hg; first | (intro h; exfalso; omega) | exact fun _ => k_3186 | exact fun _ => (False.elim (by omega))) k_3187 k_3188 k_3189 hg.symm)
              · have d_3277 := iEq c_2863
                have i_3278 := u_2860 (by omega)
                replace hg := gt_pos (by first | exact d_3277 | omega) hg
                exact (hp _ _ _ hR_2822 hf_2825 (Or.inr rfl) (by first | omega | (intro h; omega) | exact Or.inl rfl | exact Or.inr rfl) (by first | omega | (intro h; omega) | exact Or.inl rfl | exact Or.inr rfl) (by first | omega | (intro h; omega) | exact Or.inl rfl | exact Or.inr rfl) (by first | omega | (intro h; omega) | exact Or.inl rfl | exact Or.inr rfl) (by first | omega | (intro h; omega) | exact Or.inl rfl | exact Or.inr rfl) (by clear hg; first | (intro h; exfalso; omega) | exact fun _ => k_2836 | exact fun _ => (False.elim (by omega))) k_2837 k_2838 k_2839 hg.symm)
            · have d_3279 := iEq c_2855
              replace hg := gt_pos (by first | exact d_3279 | omega) hg
              unfold fModel_unit_140
              replace hg := (eModel_unit_140).symm.trans hg
              refine y_Model_wrongg hok hw ra hz14 hz15 hR_2822 (fun I_3284 L_3285 hR_3286 fr_3287 kp_3288 u_3281 u_3282 gn_3283 => ⟨I_3284, L_3285, rfl, rfl, ?_⟩)
              replace hg := gt_b3 gn_3283 hg
              clear gn_3283
              have hf_3289 : Fm (fun c => c = o ∨ (o + 30 ≤ c ∧ c < o + 34)) I0 I_3284 := hf_2825.call fr_3287 (fun c hc => by first | exact hc | (dsimp only at hc ⊢; omega) | omega)
              have t_3290 : (I_3284 o 3).toInt = (I_2820 o 3).toInt := by rw [kp_3288 3 rfl]
              have g_3291 : (0 : Int) ≤ (I_3284 o 4).toInt ∧ (I_3284 o 4).toInt ≤ 5 := hR_3286.at0 ra 4 (by decide)
              have t_3292 : (I_3284 o 6).toInt = (I_2820 o 6).toInt := by rw [kp_3288 6 rfl]
              have t_3293 : (I_3284 o 7).toInt = (I_2820 o 7).toInt := by rw [kp_3288 7 rfl]
              have t_3294 : (I_3284 o 8).toInt = (I_2820 o 8).toInt := by rw [kp_3288 8 rfl]
              have t_3295 : (I_3284 o 9).toInt = (I_2820 o 9).toInt := by rw [kp_3288 9 rfl]
              have t_3296 : (I_3284 o 44).toInt = (I_2820 o 44).toInt := by rw [kp_3288 44 rfl]
              have t_3297 : (I_3284 o 45).toInt = (I_2820 o 45).toInt := by rw [kp_3288 45 rfl]
              have t_3298 : (I_3284 o 47).toInt = (I_2820 o 47).toInt := by rw [kp_3288 47 rfl]
              have t_3299 : (I_3284 o 48).toInt = (I_2820 o 48).toInt := by rw [kp_3288 48 rfl]
              have t_3300 : (I_3284 o 46).toInt = (I_2820 o 46).toInt := by rw [kp_3288 46 rfl]
              have k_3301 : EX 0 0 0 f0 1 I_3284 o := k_2836.fr (fr_3287 _ (by first | omega | (dsimp only; omega))) (fr_3287 _ (by first | omega | (dsimp only; omega))) (fr_3287 _ (by first | omega | (dsimp only; omega))) (fr_3287 _ (by first | omega | (dsimp only; omega))) (fr_3287 _ (by first | omega | (dsimp only; omega))) (kp_3288 3 rfl) (kp_3288 6 rfl) (kp_3288 44 rfl) (kp_3288 45 rfl) (kp_3288 47 rfl) (kp_3288 48 rfl)
              have k_3302 : MTd I_3284 o := k_2837.fr (fr_3287 _ (by first | omega | (dsimp only; omega))) (fr_3287 _ (by first | omega | (dsimp only; omega))) (fr_3287 _ (by first | omega | (dsimp only; omega)))
              have k_3303 : MPo I_3284 o := k_2838.fr (kp_3288 8 rfl) (kp_3288 9 rfl)
              have k_3304 : MTk I_3284 o := k_2839.fr (kp_3288 6 rfl) (kp_3288 7 rfl) (kp_3288 8 rfl)
              refine y_Model_isGoodg hok hw ra hR_3286 (fun r_3305 u_3306 u_3307 u_3308 gn_3309 => ⟨r_3305, I_3284, L_3285, rfl, rfl, ?_⟩)
              replace hg := gt_let gn_3309 hg
              clear gn_3309
              have b_3310 : 0 ≤ r_3305.toInt ∧ r_3305.toInt ≤ 1 := u_3306.rg
              refine ⟨fun c_3311 => ?_, fun c_3311 => ?_⟩
              · have d_3312 := iNe c_3311
                have i_3313 := u_3307 (by omega)
                replace hg := gt_neg (by first | exact d_3312 | omega) hg
                have g_3314 : (0 : Int) ≤ (I_3284 o 46).toInt ∧ (I_3284 o 46).toInt ≤ 100 := hR_3286.at0 ra 46 (by decide)
                replace hg := gt_let (y := (I_3284 o 46).toInt) rfl hg
                have a_3315 : ((I_3284 o 46) + 1).toInt = (I_3284 o 46).toInt + (1 : Int32).toInt := tAdd (by omega) (by omega)
                replace hg := gt_let (y := (((I_3284 o 46) + 1) : Int32).toInt) (by omega) hg
                refine fun I_3316 e_3317 => ?_
                replace hg := gt_let (y := tI I_3316) (tI_q e_3317) hg
                have hR_3318 : RI R I_3316 := hR_3286.up0 (k := 46) ra (by decide) (Or.inr hz56) e_3317 (show (0 : Int) ≤ ((I_3284 o 46) + 1).toInt by omega) (show ((I_3284 o 46) + 1).toInt ≤ (100 : Int) by omega)
                have hf_3319 : Fm (fun c => c = o ∨ (o + 30 ≤ c ∧ c < o + 34)) I0 I_3316 := hf_3289.set (by first | rfl | omega | (dsimp only; omega)) e_3317
                have t_3320 : (I_3316 o 3).toInt = (I_3284 o 3).toInt := by rw [← e_3317, q_u_k (by decide)]
                have t_3321 : (I_3316 o 4).toInt = (I_3284 o 4).toInt := by rw [← e_3317, q_u_k (by decide)]
                have t_3322 : (I_3316 o 6).toInt = (I_3284 o 6).toInt := by rw [← e_3317, q_u_k (by decide)]
                have t_3323 : (I_3316 o 7).toInt = (I_3284 o 7).toInt := by rw [← e_3317, q_u_k (by decide)]
                have t_3324 : (I_3316 o 8).toInt = (I_3284 o 8).toInt := by rw [← e_3317, q_u_k (by decide)]
                have t_3325 : (I_3316 o 9).toInt = (I_3284 o 9).toInt := by rw [← e_3317, q_u_k (by decide)]
                have t_3326 : (I_3316 o 44).toInt = (I_3284 o 44).toInt := by rw [← e_3317, q_u_k (by decide)]
                have t_3327 : (I_3316 o 45).toInt = (I_3284 o 45).toInt := by rw [← e_3317, q_u_k (by decide)]
                have t_3328 : (I_3316 o 47).toInt = (I_3284 o 47).toInt := by rw [← e_3317, q_u_k (by decide)]
                have t_3329 : (I_3316 o 48).toInt = (I_3284 o 48).toInt := by rw [← e_3317, q_u_k (by decide)]
                have t_3330 : (I_3316 o 46).toInt = ((I_3284 o 46) + 1).toInt := by rw [← e_3317, q_u_at]
                have k_3331 : EX 0 0 0 f0 1 I_3316 o := k_3301.fr (by rw [← e_3317]; exact q_u_ne (by omega)) (by rw [← e_3317]; exact q_u_ne (by omega)) (by rw [← e_3317]; exact q_u_ne (by omega)) (by rw [← e_3317]; exact q_u_ne (by omega)) (by rw [← e_3317]; exact q_u_ne (by omega)) (by rw [← e_3317, q_u_k (by decide)]) (by rw [← e_3317, q_u_k (by decide)]) (by rw [← e_3317, q_u_k (by decide)]) (by rw [← e_3317, q_u_k (by decide)]) (by rw [← e_3317, q_u_k (by decide)]) (by rw [← e_3317, q_u_k (by decide)])
                have k_3332 : MTd I_3316 o := k_3302.fr (by rw [← e_3317]; exact q_u_ne (by omega)) (by rw [← e_3317]; exact q_u_ne (by omega)) (by rw [← e_3317]; exact q_u_ne (by omega))
                have k_3333 : MPo I_3316 o := k_3303.fr (by rw [← e_3317, q_u_k (by decide)]) (by rw [← e_3317, q_u_k (by decide)])
                have k_3334 : MTk I_3316 o := k_3304.fr (by rw [← e_3317, q_u_k (by decide)]) (by rw [← e_3317, q_u_k (by decide)]) (by rw [← e_3317, q_u_k (by decide)])
                have l_3335 : (40 : Int32).toInt = 40 := rfl
                refine y_Model_isg hok hw ra hR_3318 (fun r_3336 u_3337 u_3338 u_3339 gn_3340 => ⟨r_3336, I_3316, L_3285, rfl, rfl, ?_⟩)
                replace hg := gt_let gn_3340 hg
                clear gn_3340
                have b_3341 : 0 ≤ r_3336.toInt ∧ r_3336.toInt ≤ 1 := u_3337.rg
                refine ⟨fun c_3342 => ?_, fun c_3342 => ?_⟩
                · have d_3343 := iEq c_3342
                  replace hg := gt_pos (by first | exact d_3343 | omega) hg
                  have cd := k_3331.cod
                  have tk := k_3334.2 (by omega)
                  refine ⟨fun c_3344 => ?_, fun c_3344 => ?_⟩
                  · have d_3345 := iNe c_3344
                    have i_3346 := u_2816 (by omega)
                    have i_3347 := u_2817 (by omega)
                    replace hg := gt_neg (by first | exact d_3345 | omega) hg
                    unfold fModel_unit_228
                    replace hg := (eModel_unit_228).symm.trans hg
                    refine ⟨fun c_3348 => ?_, fun c_3348 => ?_⟩
                    · have d_3349 := iNe c_3348
                      have i_3350 := u_2816 (by omega)
                      have i_3351 := u_2817 (by omega)
                      replace hg := gt_neg (by first | exact d_3349 | omega) hg
                      refine y_Model_stepg hok hw ra hz55 (by first | omega | (intro h; omega) | exact Or.inl rfl | exact Or.inr rfl) (by first | omega | (intro h; omega) | exact Or.inl rfl | exact Or.inr rfl) hR_3318 (fun I_3356 L_3357 hR_3358 fr_3359 kp_3360 u_3353 u_3354 gn_3355 => ⟨I_3356, L_3357, rfl, rfl, ?_⟩)
                      replace hg := gt_b3 gn_3355 hg
                      clear gn_3355
                      have hf_3361 : Fm (fun c => c = o ∨ (o + 30 ≤ c ∧ c < o + 34)) I0 I_3356 := hf_3319.call fr_3359 (fun c hc => by first | exact hc | (dsimp only at hc ⊢; omega) | omega)
                      have t_3362 : (I_3356 o 3).toInt = (I_3316 o 3).toInt := by rw [kp_3360 3 rfl]
                      have t_3363 : (I_3356 o 4).toInt = (I_3316 o 4).toInt := by rw [kp_3360 4 rfl]
                      have t_3364 : (I_3356 o 6).toInt = (I_3316 o 6).toInt := by rw [kp_3360 6 rfl]
                      have t_3365 : (I_3356 o 7).toInt = (I_3316 o 7).toInt := by rw [kp_3360 7 rfl]
                      have t_3366 : (I_3356 o 8).toInt = (I_3316 o 8).toInt := by rw [kp_3360 8 rfl]
                      have t_3367 : (I_3356 o 9).toInt = (I_3316 o 9).toInt := by rw [kp_3360 9 rfl]
                      have t_3368 : (I_3356 o 44).toInt = (I_3316 o 44).toInt := by rw [kp_3360 44 rfl]
                      have g_3369 : (0 : Int) ≤ (I_3356 o 45).toInt ∧ (I_3356 o 45).toInt ≤ 700 := hR_3358.at0 ra 45 (by decide)
                      have t_3370 : (I_3356 o 47).toInt = (I_3316 o 47).toInt := by rw [kp_3360 47 rfl]
                      have t_3371 : (I_3356 o 48).toInt = (I_3316 o 48).toInt := by rw [kp_3360 48 rfl]
                      have t_3372 : (I_3356 o 46).toInt = (I_3316 o 46).toInt := by rw [kp_3360 46 rfl]
                      have k_3373 : MPo I_3356 o := k_3333.fr (kp_3360 8 rfl) (kp_3360 9 rfl)
                      have k_3374 : MTk I_3356 o := k_3334.fr (kp_3360 6 rfl) (kp_3360 7 rfl) (kp_3360 8 rfl)
                      have tk := k_3374.2 (by omega)
                      have k_3375 : EX 0 0 1 f0 0 I_3356 o := by exact EX.step1 k_3331 (by first | exact u_2816 (by omega) | (unfold isT; decide)) (by omega) (fr_3359 _ (by first | omega | (dsimp only; omega))) (fr_3359 _ (by first | omega | (dsimp only; omega))) u_3353 (fr_3359 _ (by first | omega | (dsimp only; omega))) (fr_3359 _ (by first | omega | (dsimp only; omega))) (kp_3360 3 rfl) (kp_3360 6 rfl) (kp_3360 44 rfl) u_3354 (kp_3360 47 rfl) (kp_3360 48 rfl)
                      have k_3376 : MTd I_3356 o := by exact MTd.step k_3332 (fr_3359 _ (by first | omega | (dsimp only; omega))) (fr_3359 _ (by first | omega | (dsimp only; omega))) u_3353 (by omega)
                      refine y_Model_nextg hok hw ra hz16 hz17 hz18 hz19 (by first | omega | (intro h; omega) | exact Or.inl rfl | exact Or.inr rfl) hR_3358 (fun I_3387 L_3388 hR_3389 fr_3390 kp_3391 u_3378 u_3379 u_3380 u_3381 u_3382 u_3383 u_3384 u_3385 gn_3386 => ⟨I_3387, L_3388, rfl, rfl, ?_⟩)
                      replace hg := gt_b3 gn_3386 hg
                      clear gn_3386
                      have hf_3392 : Fm (fun c => c = o ∨ (o + 30 ≤ c ∧ c < o + 34)) I0 I_3387 := hf_3361.call fr_3390 (fun c hc => by first | exact hc | (dsimp only at hc ⊢; omega) | omega)
                      have t_3393 : (I_3387 o 3).toInt = (I_3356 o 3).toInt := by rw [kp_3391 3 rfl]
                      have t_3394 : (I_3387 o 4).toInt = (I_3356 o 4).toInt := by rw [kp_3391 4 rfl]
                      have g_3395 : (0 : Int) ≤ (I_3387 o 6).toInt ∧ (I_3387 o 6).toInt ≤ 1600 := hR_3389.at0 ra 6 (by decide)
                      have g_3396 : (0 : Int) ≤ (I_3387 o 7).toInt ∧ (I_3387 o 7).toInt ≤ 1601 := hR_3389.at0 ra 7 (by decide)
                      have g_3397 : (0 : Int) ≤ (I_3387 o 8).toInt ∧ (I_3387 o 8).toInt ≤ 6 := hR_3389.at0 ra 8 (by decide)
                      have t_3398 : (I_3387 o 44).toInt = (I_3356 o 44).toInt := by rw [kp_3391 44 rfl]
                      have t_3399 : (I_3387 o 45).toInt = (I_3356 o 45).toInt := by rw [kp_3391 45 rfl]
                      have t_3400 : (I_3387 o 47).toInt = (I_3356 o 47).toInt := by rw [kp_3391 47 rfl]
                      have t_3401 : (I_3387 o 48).toInt = (I_3356 o 48).toInt := by rw [kp_3391 48 rfl]
                      have t_3402 : (I_3387 o 46).toInt = (I_3356 o 46).toInt := by rw [kp_3391 46 rfl]
                      have k_3403 : MTd I_3387 o := k_3376.fr (fr_3390 _ (by first | omega | (dsimp only; omega))) (fr_3390 _ (by first | omega | (dsimp only; omega))) (fr_3390 _ (by first | omega | (dsimp only; omega)))
                      have ms := u_3381 (by omega)
                      have k_3404 : EX 0 0 0 f0 0 I_3387 o := by exact EX.nx k_3375 (fr_3390 _ (by first | omega | (dsimp only; omega))) (fr_3390 _ (by first | omega | (dsimp only; omega))) (fr_3390 _ (by first | omega | (dsimp only; omega))) (fr_3390 _ (by first | omega | (dsimp only; omega))) (fr_3390 _ (by first | omega | (dsimp only; omega))) (kp_3391 3 rfl) (kp_3391 44 rfl) (kp_3391 45 rfl) (kp_3391 47 rfl) (kp_3391 48 rfl) (by omega) (by omega)
                      exact (hp _ _ _ hR_3389 hf_3392 (Or.inl rfl) (by first | omega | (intro h; omega) | exact Or.inl rfl | exact Or.inr rfl) (by first | omega | (intro h; omega) | exact Or.inl rfl | exact Or.inr rfl) (by first | omega | (intro h; omega) | exact Or.inl rfl | exact Or.inr rfl) (by first | omega | (intro h; omega) | exact Or.inl rfl | exact Or.inr rfl) (by first | omega | (intro h; omega) | exact Or.inl rfl | exact Or.inr rfl) (by clear hg; first | (intro h; exfalso; omega) | exact fun _ => (False.elim (by omega)) | exact fun _ => k_3404) k_3403 u_3384 u_3385 hg.symm)
                    · have d_3405 := iEq c_3348
                      replace hg := gt_pos (by first | exact d_3405 | omega) hg
                      replace hg := gt_let (y := (I_3316 o 9).toInt) rfl hg
                      refine y_Model_stepg hok hw ra hz55 (by first | omega | (intro h; omega) | exact Or.inl rfl | exact Or.inr rfl) (by first | omega | (intro h; omega) | exact Or.inl rfl | exact Or.inr rfl) hR_3318 (fun I_3410 L_3411 hR_3412 fr_3413 kp_3414 u_3407 u_3408 gn_3409 => ⟨I_3410, L_3411, rfl, rfl, ?_⟩)
                      replace hg := gt_b3 gn_3409 hg
                      clear gn_3409
                      have hf_3415 : Fm (fun c => c = o ∨ (o + 30 ≤ c ∧ c < o + 34)) I0 I_3410 := hf_3319.call fr_3413 (fun c hc => by first | exact hc | (dsimp only at hc ⊢; omega) | omega)
                      have t_3416 : (I_3410 o 3).toInt = (I_3316 o 3).toInt := by rw [kp_3414 3 rfl]
                      have t_3417 : (I_3410 o 4).toInt = (I_3316 o 4).toInt := by rw [kp_3414 4 rfl]
                      have t_3418 : (I_3410 o 6).toInt = (I_3316 o 6).toInt := by rw [kp_3414 6 rfl]
                      have t_3419 : (I_3410 o 7).toInt = (I_3316 o 7).toInt := by rw [kp_3414 7 rfl]
                      have t_3420 : (I_3410 o 8).toInt = (I_3316 o 8).toInt := by rw [kp_3414 8 rfl]
                      have t_3421 : (I_3410 o 9).toInt = (I_3316 o 9).toInt := by rw [kp_3414 9 rfl]
                      have t_3422 : (I_3410 o 44).toInt = (I_3316 o 44).toInt := by rw [kp_3414 44 rfl]
                      have g_3423 : (0 : Int) ≤ (I_3410 o 45).toInt ∧ (I_3410 o 45).toInt ≤ 700 := hR_3412.at0 ra 45 (by decide)
                      have t_3424 : (I_3410 o 47).toInt = (I_3316 o 47).toInt := by rw [kp_3414 47 rfl]
                      have t_3425 : (I_3410 o 48).toInt = (I_3316 o 48).toInt := by rw [kp_3414 48 rfl]
                      have t_3426 : (I_3410 o 46).toInt = (I_3316 o 46).toInt := by rw [kp_3414 46 rfl]
                      have k_3427 : MPo I_3410 o := k_3333.fr (kp_3414 8 rfl) (kp_3414 9 rfl)
                      have k_3428 : MTk I_3410 o := k_3334.fr (kp_3414 6 rfl) (kp_3414 7 rfl) (kp_3414 8 rfl)
                      have tk := k_3428.2 (by omega)
                      have k_3429 : EX 0 0 1 f0 0 I_3410 o := by exact EX.step1 k_3331 (by first | exact u_2816 (by omega) | (unfold isT; decide)) (by omega) (fr_3413 _ (by first | omega | (dsimp only; omega))) (fr_3413 _ (by first | omega | (dsimp only; omega))) u_3407 (fr_3413 _ (by first | omega | (dsimp only; omega))) (fr_3413 _ (by first | omega | (dsimp only; omega))) (kp_3414 3 rfl) (kp_3414 6 rfl) (kp_3414 44 rfl) u_3408 (kp_3414 47 rfl) (kp_3414 48 rfl)
                      have k_3430 : MTd I_3410 o := by exact MTd.step k_3332 (fr_3413 _ (by first | omega | (dsimp only; omega))) (fr_3413 _ (by first | omega | (dsimp only; omega))) u_3407 (by omega)
                      refine y_Model_nextg hok hw ra hz16 hz17 hz18 hz19 (by first | omega | (intro h; omega) | exact Or.inl rfl | exact Or.inr rfl) hR_3412 (fun I_3441 L_3442 hR_3443 fr_3444 kp_3445 u_3432 u_3433 u_3434 u_3435 u_3436 u_3437 u_3438 u_3439 gn_3440 => ⟨I_3441, L_3442, rfl, rfl, ?_⟩)
                      replace hg := gt_b3 gn_3440 hg
                      clear gn_3440
                      have hf_3446 : Fm (fun c => c = o ∨ (o + 30 ≤ c ∧ c < o + 34)) I0 I_3441 := hf_3415.call fr_3444 (fun c hc => by first | exact hc | (dsimp only at hc ⊢; omega) | omega)
                      have t_3447 : (I_3441 o 3).toInt = (I_3410 o 3).toInt := by rw [kp_3445 3 rfl]
                      have t_3448 : (I_3441 o 4).toInt = (I_3410 o 4).toInt := by rw [kp_3445 4 rfl]
                      have g_3449 : (0 : Int) ≤ (I_3441 o 6).toInt ∧ (I_3441 o 6).toInt ≤ 1600 := hR_3443.at0 ra 6 (by decide)
                      have g_3450 : (0 : Int) ≤ (I_3441 o 7).toInt ∧ (I_3441 o 7).toInt ≤ 1601 := hR_3443.at0 ra 7 (by decide)
                      have g_3451 : (0 : Int) ≤ (I_3441 o 8).toInt ∧ (I_3441 o 8).toInt ≤ 6 := hR_3443.at0 ra 8 (by decide)
                      have t_3452 : (I_3441 o 44).toInt = (I_3410 o 44).toInt := by rw [kp_3445 44 rfl]
                      have t_3453 : (I_3441 o 45).toInt = (I_3410 o 45).toInt := by rw [kp_3445 45 rfl]
                      have t_3454 : (I_3441 o 47).toInt = (I_3410 o 47).toInt := by rw [kp_3445 47 rfl]
                      have t_3455 : (I_3441 o 48).toInt = (I_3410 o 48).toInt := by rw [kp_3445 48 rfl]
                      have t_3456 : (I_3441 o 46).toInt = (I_3410 o 46).toInt := by rw [kp_3445 46 rfl]
                      have k_3457 : MTd I_3441 o := k_3430.fr (fr_3444 _ (by first | omega | (dsimp only; omega))) (fr_3444 _ (by first | omega | (dsimp only; omega))) (fr_3444 _ (by first | omega | (dsimp only; omega)))
                      have ms := u_3435 (by omega)
                      have k_3458 : EX 0 0 0 f0 0 I_3441 o := by exact EX.nx k_3429 (fr_3444 _ (by first | omega | (dsimp only; omega))) (fr_3444 _ (by first | omega | (dsimp only; omega))) (fr_3444 _ (by first | omega | (dsimp only; omega))) (fr_3444 _ (by first | omega | (dsimp only; omega))) (fr_3444 _ (by first | omega | (dsimp only; omega))) (kp_3445 3 rfl) (kp_3445 44 rfl) (kp_3445 45 rfl) (kp_3445 47 rfl) (kp_3445 48 rfl) (by omega) (by omega)
                      exact (hp _ _ _ hR_3443 hf_3446 (Or.inl rfl) (by first | omega | (intro h; omega) | exact Or.inl rfl | exact Or.inr rfl) (by first | omega | (intro h; omega) | exact Or.inl rfl | exact Or.inr rfl) (by first | omega | (intro h; omega) | exact Or.inl rfl | exact Or.inr rfl) (by first | omega | (intro h; omega) | exact Or.inl rfl | exact Or.inr rfl) (by first | omega | (intro h; omega) | exact Or.inl rfl | exact Or.inr rfl) (by clear hg; first | (intro h; exfalso; omega) | exact fun _ => (False.elim (by omega)) | exact fun _ => k_3458) k_3457 u_3438 u_3439 hg.symm)
                  · have d_3459 := iEq c_3344
                    replace hg := gt_pos (by first | exact d_3459 | omega) hg
                    unfold fModel_unit_228
                    replace hg := (eModel_unit_228).symm.trans hg
                    have l_3460 : (78 : Int32).toInt = 78 := rfl
                    refine ⟨fun c_3461 => ?_, fun c_3461 => ?_⟩
                    · have d_3462 := iNe c_3461
                      have i_3463 := u_2816 (by omega)
                      have i_3464 := u_2817 (by omega)
                      exfalso; omega
                    · have d_3465 := iEq c_3461
                      replace hg := gt_pos (by first | exact d_3465 | omega) hg
                      replace hg := gt_let (y := (I_3316 o 9).toInt) rfl hg
                      refine y_Model_stepg hok hw ra hz55 (by first | omega | (intro h; omega) | exact Or.inl rfl | exact Or.inr rfl) (by first | omega | (intro h; omega) | exact Or.inl rfl | exact Or.inr rfl) hR_3318 (fun I_3470 L_3471 hR_3472 fr_3473 kp_3474 u_3467 u_3468 gn_3469 => ⟨I_3470, L_3471, rfl, rfl, ?_⟩)
                      replace hg := gt_b3 gn_3469 hg
                      clear gn_3469
                      have hf_3475 : Fm (fun c => c = o ∨ (o + 30 ≤ c ∧ c < o + 34)) I0 I_3470 := hf_3319.call fr_3473 (fun c hc => by first | exact hc | (dsimp only at hc ⊢; omega) | omega)
                      have t_3476 : (I_3470 o 3).toInt = (I_3316 o 3).toInt := by rw [kp_3474 3 rfl]
                      have t_3477 : (I_3470 o 4).toInt = (I_3316 o 4).toInt := by rw [kp_3474 4 rfl]
                      have t_3478 : (I_3470 o 6).toInt = (I_3316 o 6).toInt := by rw [kp_3474 6 rfl]
                      have t_3479 : (I_3470 o 7).toInt = (I_3316 o 7).toInt := by rw [kp_3474 7 rfl]
                      have t_3480 : (I_3470 o 8).toInt = (I_3316 o 8).toInt := by rw [kp_3474 8 rfl]
                      have t_3481 : (I_3470 o 9).toInt = (I_3316 o 9).toInt := by rw [kp_3474 9 rfl]
                      have t_3482 : (I_3470 o 44).toInt = (I_3316 o 44).toInt := by rw [kp_3474 44 rfl]
                      have g_3483 : (0 : Int) ≤ (I_3470 o 45).toInt ∧ (I_3470 o 45).toInt ≤ 700 := hR_3472.at0 ra 45 (by decide)
                      have t_3484 : (I_3470 o 47).toInt = (I_3316 o 47).toInt := by rw [kp_3474 47 rfl]
                      have t_3485 : (I_3470 o 48).toInt = (I_3316 o 48).toInt := by rw [kp_3474 48 rfl]
                      have t_3486 : (I_3470 o 46).toInt = (I_3316 o 46).toInt := by rw [kp_3474 46 rfl]
                      have k_3487 : MPo I_3470 o := k_3333.fr (kp_3474 8 rfl) (kp_3474 9 rfl)
                      have k_3488 : MTk I_3470 o := k_3334.fr (kp_3474 6 rfl) (kp_3474 7 rfl) (kp_3474 8 rfl)
                      have tk := k_3488.2 (by omega)
                      have k_3489 : EX 0 0 1 f0 0 I_3470 o := by exact EX.step1 k_3331 (by first | exact u_2816 (by omega) | (unfold isT; decide)) (by omega) (fr_3473 _ (by first | omega | (dsimp only; omega))) (fr_3473 _ (by first | omega | (dsimp only; omega))) u_3467 (fr_3473 _ (by first | omega | (dsimp only; omega))) (fr_3473 _ (by first | omega | (dsimp only; omega))) (kp_3474 3 rfl) (kp_3474 6 rfl) (kp_3474 44 rfl) u_3468 (kp_3474 47 rfl) (kp_3474 48 rfl)
                      have k_3490 : MTd I_3470 o := by exact MTd.step k_3332 (fr_3473 _ (by first | omega | (dsimp only; omega))) (fr_3473 _ (by first | omega | (dsimp only; omega))) u_3467 (by omega)
                      refine y_Model_nextg hok hw ra hz16 hz17 hz18 hz19 (by first | omega | (intro h; omega) | exact Or.inl rfl | exact Or.inr rfl) hR_3472 (fun I_3501 L_3502 hR_3503 fr_3504 kp_3505 u_3492 u_3493 u_3494 u_3495 u_3496 u_3497 u_3498 u_3499 gn_3500 => ⟨I_3501, L_3502, rfl, rfl, ?_⟩)
                      replace hg := gt_b3 gn_3500 hg
                      clear gn_3500
                      have hf_3506 : Fm (fun c => c = o ∨ (o + 30 ≤ c ∧ c < o + 34)) I0 I_3501 := hf_3475.call fr_3504 (fun c hc => by first | exact hc | (dsimp only at hc ⊢; omega) | omega)
                      have t_3507 : (I_3501 o 3).toInt = (I_3470 o 3).toInt := by rw [kp_3505 3 rfl]
                      have t_3508 : (I_3501 o 4).toInt = (I_3470 o 4).toInt := by rw [kp_3505 4 rfl]
                      have g_3509 : (0 : Int) ≤ (I_3501 o 6).toInt ∧ (I_3501 o 6).toInt ≤ 1600 := hR_3503.at0 ra 6 (by decide)
                      have g_3510 : (0 : Int) ≤ (I_3501 o 7).toInt ∧ (I_3501 o 7).toInt ≤ 1601 := hR_3503.at0 ra 7 (by decide)
                      have g_3511 : (0 : Int) ≤ (I_3501 o 8).toInt ∧ (I_3501 o 8).toInt ≤ 6 := hR_3503.at0 ra 8 (by decide)
                      have t_3512 : (I_3501 o 44).toInt = (I_3470 o 44).toInt := by rw [kp_3505 44 rfl]
                      have t_3513 : (I_3501 o 45).toInt = (I_3470 o 45).toInt := by rw [kp_3505 45 rfl]
                      have t_3514 : (I_3501 o 47).toInt = (I_3470 o 47).toInt := by rw [kp_3505 47 rfl]
                      have t_3515 : (I_3501 o 48).toInt = (I_3470 o 48).toInt := by rw [kp_3505 48 rfl]
                      have t_3516 : (I_3501 o 46).toInt = (I_3470 o 46).toInt := by rw [kp_3505 46 rfl]
                      have k_3517 : MTd I_3501 o := k_3490.fr (fr_3504 _ (by first | omega | (dsimp only; omega))) (fr_3504 _ (by first | omega | (dsimp only; omega))) (fr_3504 _ (by first | omega | (dsimp only; omega)))
                      have ms := u_3495 (by omega)
                      have k_3518 : EX 0 0 0 f0 0 I_3501 o := by exact EX.nx k_3489 (fr_3504 _ (by first | omega | (dsimp only; omega))) (fr_3504 _ (by first | omega | (dsimp only; omega))) (fr_3504 _ (by first | omega | (dsimp only; omega))) (fr_3504 _ (by first | omega | (dsimp only; omega))) (fr_3504 _ (by first | omega | (dsimp only; omega))) (kp_3505 3 rfl) (kp_3505 44 rfl) (kp_3505 45 rfl) (kp_3505 47 rfl) (kp_3505 48 rfl) (by omega) (by omega)
                      exact (hp _ _ _ hR_3503 hf_3506 (Or.inl rfl) (by first | omega | (intro h; omega) | exact Or.inl rfl | exact Or.inr rfl) (by first | omega | (intro h; omega) | exact Or.inl rfl | exact Or.inr rfl) (by first | omega | (intro h; omega) | exact Or.inl rfl | exact Or.inr rfl) (by first | omega | (intro h; omega) | exact Or.inl rfl | exact Or.inr rfl) (by first | omega | (intro h; omega) | exact Or.inl rfl | exact Or.inr rfl) (by clear hg; first | (intro h; exfalso; omega) | exact fun _ => (False.elim (by omega)) | exact fun _ => k_3518) k_3517 u_3498 u_3499 hg.symm)
                · have d_3519 := iNe c_3342
                  have i_3520 := u_3338 (by omega)
                  have i_3521 := u_3339 (by omega)
                  replace hg := gt_neg (by first | exact d_3519 | omega) hg
                  have g_3522 : (0 : Int) ≤ (I_3316 o 47).toInt ∧ (I_3316 o 47).toInt ≤ 7 := hR_3318.at0 ra 47 (by decide)
                  replace hg := gt_let (y := (I_3316 o 47).toInt) rfl hg
                  refine ⟨fun c_3523 => ?_, fun c_3523 => ?_⟩
                  · have d_3524 := iNe c_3523
                    replace hg := gt_neg (by first | exact d_3524 | omega) hg
                    refine y_Model_isGoodg hok hw ra hR_3318 (fun r_3525 u_3526 u_3527 u_3528 gn_3529 => ⟨r_3525, I_3316, L_3285, rfl, rfl, ?_⟩)
                    replace hg := gt_let gn_3529 hg
                    clear gn_3529
                    have b_3530 : 0 ≤ r_3525.toInt ∧ r_3525.toInt ≤ 1 := u_3526.rg
                    refine ⟨fun c_3531 => ?_, fun c_3531 => ?_⟩
                    · have d_3532 := iNe c_3531
                      have i_3533 := u_3527 (by omega)
                      replace hg := gt_neg (by first | exact d_3532 | omega) hg
                      refine y_Model_pileg hok hw ra hz58 (by first | omega | (intro h; omega) | exact Or.inl rfl | exact Or.inr rfl) (by first | omega | (intro h; omega) | exact Or.inl rfl | exact Or.inr rfl) hR_3318 (fun I_3539 L_3540 hR_3541 fr_3542 kp_3543 u_3535 u_3536 u_3537 gn_3538 => ⟨I_3539, L_3540, rfl, rfl, ?_⟩)
                      replace hg := gt_b3 gn_3538 hg
                      clear gn_3538
                      have hf_3544 : Fm (fun c => c = o ∨ (o + 30 ≤ c ∧ c < o + 34)) I0 I_3539 := hf_3319.call fr_3542 (fun c hc => by first | exact hc | (dsimp only at hc ⊢; omega) | omega)
                      have t_3545 : (I_3539 o 3).toInt = (I_3316 o 3).toInt := by rw [kp_3543 3 rfl]
                      have t_3546 : (I_3539 o 4).toInt = (I_3316 o 4).toInt := by rw [kp_3543 4 rfl]
                      have t_3547 : (I_3539 o 6).toInt = (I_3316 o 6).toInt := by rw [kp_3543 6 rfl]
                      have t_3548 : (I_3539 o 7).toInt = (I_3316 o 7).toInt := by rw [kp_3543 7 rfl]
                      have t_3549 : (I_3539 o 8).toInt = (I_3316 o 8).toInt := by rw [kp_3543 8 rfl]
                      have t_3550 : (I_3539 o 9).toInt = (I_3316 o 9).toInt := by rw [kp_3543 9 rfl]
                      have t_3551 : (I_3539 o 44).toInt = (I_3316 o 44).toInt := by rw [kp_3543 44 rfl]
                      have t_3552 : (I_3539 o 45).toInt = (I_3316 o 45).toInt := by rw [kp_3543 45 rfl]
                      have t_3553 : (I_3539 o 47).toInt = (I_3316 o 47).toInt := by rw [kp_3543 47 rfl]
                      have g_3554 : (0 : Int) ≤ (I_3539 o 48).toInt ∧ (I_3539 o 48).toInt ≤ 80 := hR_3541.at0 ra 48 (by decide)
                      have t_3555 : (I_3539 o 46).toInt = (I_3316 o 46).toInt := by rw [kp_3543 46 rfl]
                      have k_3556 : MTd I_3539 o := k_3332.fr (fr_3542 _ (by first | omega | (dsimp only; omega))) (fr_3542 _ (by first | omega | (dsimp only; omega))) (fr_3542 _ (by first | omega | (dsimp only; omega)))
                      have k_3557 : MPo I_3539 o := k_3333.fr (kp_3543 8 rfl) (kp_3543 9 rfl)
                      have k_3558 : MTk I_3539 o := k_3334.fr (kp_3543 6 rfl) (kp_3543 7 rfl) (kp_3543 8 rfl)
                      have k_3559 : EX 0 1 1 f0 1 I_3539 o := by have z := EX.push k_3331 (v := 7) (s := 0) (dB := 1) (dO := 0) (wt' := 1) (by decide) (by decide) (by decide) (by omega) ⟨by decide, by decide⟩ ⟨fun h => absurd h (by decide), fun h => absurd h (by decide)⟩ (Or.inl rfl) (fr_3542 _ (by first | omega | (dsimp only; omega))) (fr_3542 _ (by first | omega | (dsimp only; omega))) (fr_3542 _ (by first | omega | (dsimp only; omega))) u_3535 u_3536 (kp_3543 3 rfl) (kp_3543 6 rfl) (kp_3543 44 rfl) (kp_3543 45 rfl) (kp_3543 47 rfl) u_3537; exact EX.chg (b' := 1) z rfl rfl rfl rfl rfl rfl rfl rfl rfl rfl (by omega) z.pl
                      have g_3560 : (0 : Int) ≤ (I_3539 o 47).toInt ∧ (I_3539 o 47).toInt ≤ 7 := hR_3541.at0 ra 47 (by decide)
                      replace hg := gt_let (y := (I_3539 o 47).toInt) rfl hg
                      have a_3561 : ((I_3539 o 47) + 1).toInt = (I_3539 o 47).toInt + (1 : Int32).toInt := tAdd (by omega) (by omega)
                      replace hg := gt_let (y := (((I_3539 o 47) + 1) : Int32).toInt) (by omega) hg
                      refine fun I_3562 e_3563 => ?_
                      replace hg := gt_let (y := tI I_3562) (tI_q e_3563) hg
                      have hR_3564 : RI R I_3562 := hR_3541.up0 (k := 47) ra (by decide) (Or.inr hz57) e_3563 (show (0 : Int) ≤ ((I_3539 o 47) + 1).toInt by omega) (show ((I_3539 o 47) + 1).toInt ≤ (7 : Int) by omega)
                      have hf_3565 : Fm (fun c => c = o ∨ (o + 30 ≤ c ∧ c < o + 34)) I0 I_3562 := hf_3544.set (by first | rfl | omega | (dsimp only; omega)) e_3563
                      have t_3566 : (I_3562 o 3).toInt = (I_3539 o 3).toInt := by rw [← e_3563, q_u_k (by decide)]
                      have t_3567 : (I_3562 o 4).toInt = (I_3539 o 4).toInt := by rw [← e_3563, q_u_k (by decide)]
                      have t_3568 : (I_3562 o 6).toInt = (I_3539 o 6).toInt := by rw [← e_3563, q_u_k (by decide)]
                      have t_3569 : (I_3562 o 7).toInt = (I_3539 o 7).toInt := by rw [← e_3563, q_u_k (by decide)]
                      have t_3570 : (I_3562 o 8).toInt = (I_3539 o 8).toInt := by rw [← e_3563, q_u_k (by decide)]
                      have t_3571 : (I_3562 o 9).toInt = (I_3539 o 9).toInt := by rw [← e_3563, q_u_k (by decide)]
                      have t_3572 : (I_3562 o 44).toInt = (I_3539 o 44).toInt := by rw [← e_3563, q_u_k (by decide)]
                      have t_3573 : (I_3562 o 45).toInt = (I_3539 o 45).toInt := by rw [← e_3563, q_u_k (by decide)]
                      have t_3574 : (I_3562 o 47).toInt = ((I_3539 o 47) + 1).toInt := by rw [← e_3563, q_u_at]
                      have t_3575 : (I_3562 o 48).toInt = (I_3539 o 48).toInt := by rw [← e_3563, q_u_k (by decide)]
                      have t_3576 : (I_3562 o 46).toInt = (I_3539 o 46).toInt := by rw [← e_3563, q_u_k (by decide)]
                      have k_3577 : MTd I_3562 o := k_3556.fr (by rw [← e_3563]; exact q_u_ne (by omega)) (by rw [← e_3563]; exact q_u_ne (by omega)) (by rw [← e_3563]; exact q_u_ne (by omega))
                      have k_3578 : MPo I_3562 o := k_3557.fr (by rw [← e_3563, q_u_k (by decide)]) (by rw [← e_3563, q_u_k (by decide)])
                      have k_3579 : MTk I_3562 o := k_3558.fr (by rw [← e_3563, q_u_k (by decide)]) (by rw [← e_3563, q_u_k (by decide)]) (by rw [← e_3563, q_u_k (by decide)])
                      have tk := k_3579.2 (by omega)
                      have k_3581 : EX 0 0 1 f0 1 I_3562 o := by exact EX.put47 k_3559 e_3563 (by omega)
                      refine y_Model_nextg hok hw ra hz16 hz17 hz18 hz19 (by first | omega | (intro h; omega) | exact Or.inl rfl | exact Or.inr rfl) hR_3564 (fun I_3592 L_3593 hR_3594 fr_3595 kp_3596 u_3583 u_3584 u_3585 u_3586 u_3587 u_3588 u_3589 u_3590 gn_3591 => ⟨I_3592, L_3593, rfl, rfl, ?_⟩)
                      replace hg := gt_b3 gn_3591 hg
                      clear gn_3591
                      have hf_3597 : Fm (fun c => c = o ∨ (o + 30 ≤ c ∧ c < o + 34)) I0 I_3592 := hf_3565.call fr_3595 (fun c hc => by first | exact hc | (dsimp only at hc ⊢; omega) | omega)
                      have t_3598 : (I_3592 o 3).toInt = (I_3562 o 3).toInt := by rw [kp_3596 3 rfl]
                      have t_3599 : (I_3592 o 4).toInt = (I_3562 o 4).toInt := by rw [kp_3596 4 rfl]
                      have g_3600 : (0 : Int) ≤ (I_3592 o 6).toInt ∧ (I_3592 o 6).toInt ≤ 1600 := hR_3594.at0 ra 6 (by decide)
                      have g_3601 : (0 : Int) ≤ (I_3592 o 7).toInt ∧ (I_3592 o 7).toInt ≤ 1601 := hR_3594.at0 ra 7 (by decide)
                      have g_3602 : (0 : Int) ≤ (I_3592 o 8).toInt ∧ (I_3592 o 8).toInt ≤ 6 := hR_3594.at0 ra 8 (by decide)
                      have t_3603 : (I_3592 o 44).toInt = (I_3562 o 44).toInt := by rw [kp_3596 44 rfl]
                      have t_3604 : (I_3592 o 45).toInt = (I_3562 o 45).toInt := by rw [kp_3596 45 rfl]
                      have t_3605 : (I_3592 o 47).toInt = (I_3562 o 47).toInt := by rw [kp_3596 47 rfl]
                      have t_3606 : (I_3592 o 48).toInt = (I_3562 o 48).toInt := by rw [kp_3596 48 rfl]
                      have t_3607 : (I_3592 o 46).toInt = (I_3562 o 46).toInt := by rw [kp_3596 46 rfl]
                      have k_3608 : MTd I_3592 o := k_3577.fr (fr_3595 _ (by first | omega | (dsimp only; omega))) (fr_3595 _ (by first | omega | (dsimp only; omega))) (fr_3595 _ (by first | omega | (dsimp only; omega)))
                      have ms := u_3586 (by omega)
                      have k_3609 : EX 0 0 0 f0 1 I_3592 o := by exact EX.nx k_3581 (fr_3595 _ (by first | omega | (dsimp only; omega))) (fr_3595 _ (by first | omega | (dsimp only; omega))) (fr_3595 _ (by first | omega | (dsimp only; omega))) (fr_3595 _ (by first | omega | (dsimp only; omega))) (fr_3595 _ (by first | omega | (dsimp only; omega))) (kp_3596 3 rfl) (kp_3596 44 rfl) (kp_3596 45 rfl) (kp_3596 47 rfl) (kp_3596 48 rfl) (by omega) (by omega)
                      exact (hp _ _ _ hR_3594 hf_3597 (Or.inr rfl) (by first | omega | (intro h; omega) | exact Or.inl rfl | exact Or.inr rfl) (by first | omega | (intro h; omega) | exact Or.inl rfl | exact Or.inr rfl) (by first | omega | (intro h; omega) | exact Or.inl rfl | exact Or.inr rfl) (by first | omega | (intro h; omega) | exact Or.inl rfl | exact Or.inr rfl) (by first | omega | (intro h; omega) | exact Or.inl rfl | exact Or.inr rfl) (by clear hg; first | (intro h; exfalso; omega) | exact fun _ => k_3609 | exact fun _ => (False.elim (by omega))) k_3608 u_3589 u_3590 hg.symm)
                    · have d_3610 := iEq c_3531
                      have i_3611 := u_3528 (by omega)
                      replace hg := gt_pos (by first | exact d_3610 | omega) hg
                      exact (hp _ _ _ hR_3318 hf_3319 (Or.inr rfl) (by first | omega | (intro h; omega) | exact Or.inl rfl | exact Or.inr rfl) (by first | omega | (intro h; omega) | exact Or.inl rfl | exact Or.inr rfl) (by first | omega | (intro h; omega) | exact Or.inl rfl | exact Or.inr rfl) (by first | omega | (intro h; omega) | exact Or.inl rfl | exact Or.inr rfl) (by first | omega | (intro h; omega) | exact Or.inl rfl | exact Or.inr rfl) (by clear hg; first | (intro h; exfalso; omega) | exact fun _ => k_3331 | exact fun _ => (False.elim (by omega))) k_3332 k_3333 k_3334 hg.symm)
                  · have d_3612 := iEq c_3523
                    replace hg := gt_pos (by first | exact d_3612 | omega) hg
                    refine y_Model_wrongg hok hw ra hz14 hz15 hR_3318 (fun I_3617 L_3618 hR_3619 fr_3620 kp_3621 u_3614 u_3615 gn_3616 => ⟨I_3617, L_3618, rfl, rfl, ?_⟩)
                    replace hg := gt_b3 gn_3616 hg
                    clear gn_3616
                    have hf_3622 : Fm (fun c => c = o ∨ (o + 30 ≤ c ∧ c < o + 34)) I0 I_3617 := hf_3319.call fr_3620 (fun c hc => by first | exact hc | (dsimp only at hc ⊢; omega) | omega)
                    have t_3623 : (I_3617 o 3).toInt = (I_3316 o 3).toInt := by rw [kp_3621 3 rfl]
                    have g_3624 : (0 : Int) ≤ (I_3617 o 4).toInt ∧ (I_3617 o 4).toInt ≤ 5 := hR_3619.at0 ra 4 (by decide)
                    have t_3625 : (I_3617 o 6).toInt = (I_3316 o 6).toInt := by rw [kp_3621 6 rfl]
                    have t_3626 : (I_3617 o 7).toInt = (I_3316 o 7).toInt := by rw [kp_3621 7 rfl]
                    have t_3627 : (I_3617 o 8).toInt = (I_3316 o 8).toInt := by rw [kp_3621 8 rfl]
                    have t_3628 : (I_3617 o 9).toInt = (I_3316 o 9).toInt := by rw [kp_3621 9 rfl]
                    have t_3629 : (I_3617 o 44).toInt = (I_3316 o 44).toInt := by rw [kp_3621 44 rfl]
                    have t_3630 : (I_3617 o 45).toInt = (I_3316 o 45).toInt := by rw [kp_3621 45 rfl]
                    have t_3631 : (I_3617 o 47).toInt = (I_3316 o 47).toInt := by rw [kp_3621 47 rfl]
                    have t_3632 : (I_3617 o 48).toInt = (I_3316 o 48).toInt := by rw [kp_3621 48 rfl]
                    have t_3633 : (I_3617 o 46).toInt = (I_3316 o 46).toInt := by rw [kp_3621 46 rfl]
                    have k_3634 : EX 0 0 0 f0 1 I_3617 o := k_3331.fr (fr_3620 _ (by first | omega | (dsimp only; omega))) (fr_3620 _ (by first | omega | (dsimp only; omega))) (fr_3620 _ (by first | omega | (dsimp only; omega))) (fr_3620 _ (by first | omega | (dsimp only; omega))) (fr_3620 _ (by first | omega | (dsimp only; omega))) (kp_3621 3 rfl) (kp_3621 6 rfl) (kp_3621 44 rfl) (kp_3621 45 rfl) (kp_3621 47 rfl) (kp_3621 48 rfl)
                    have k_3635 : MTd I_3617 o := k_3332.fr (fr_3620 _ (by first | omega | (dsimp only; omega))) (fr_3620 _ (by first | omega | (dsimp only; omega))) (fr_3620 _ (by first | omega | (dsimp only; omega)))
                    have k_3636 : MPo I_3617 o := k_3333.fr (kp_3621 8 rfl) (kp_3621 9 rfl)
                    have k_3637 : MTk I_3617 o := k_3334.fr (kp_3621 6 rfl) (kp_3621 7 rfl) (kp_3621 8 rfl)
                    refine y_Model_isGoodg hok hw ra hR_3619 (fun r_3638 u_3639 u_3640 u_3641 gn_3642 => ⟨r_3638, I_3617, L_3618, rfl, rfl, ?_⟩)
                    replace hg := gt_let gn_3642 hg
                    clear gn_3642
                    have b_3643 : 0 ≤ r_3638.toInt ∧ r_3638.toInt ≤ 1 := u_3639.rg
                    refine ⟨fun c_3644 => ?_, fun c_3644 => ?_⟩
                    · have d_3645 := iNe c_3644
                      have i_3646 := u_3640 (by omega)
                      replace hg := gt_neg (by first | exact d_3645 | omega) hg
                      refine y_Model_pileg hok hw ra hz58 (by first | omega | (intro h; omega) | exact Or.inl rfl | exact Or.inr rfl) (by first | omega | (intro h; omega) | exact Or.inl rfl | exact Or.inr rfl) hR_3619 (fun I_3652 L_3653 hR_3654 fr_3655 kp_3656 u_3648 u_3649 u_3650 gn_3651 => ⟨I_3652, L_3653, rfl, rfl, ?_⟩)
                      replace hg := gt_b3 gn_3651 hg
                      clear gn_3651
                      have hf_3657 : Fm (fun c => c = o ∨ (o + 30 ≤ c ∧ c < o + 34)) I0 I_3652 := hf_3622.call fr_3655 (fun c hc => by first | exact hc | (dsimp only at hc ⊢; omega) | omega)
                      have t_3658 : (I_3652 o 3).toInt = (I_3617 o 3).toInt := by rw [kp_3656 3 rfl]
                      have t_3659 : (I_3652 o 4).toInt = (I_3617 o 4).toInt := by rw [kp_3656 4 rfl]
                      have t_3660 : (I_3652 o 6).toInt = (I_3617 o 6).toInt := by rw [kp_3656 6 rfl]
                      have t_3661 : (I_3652 o 7).toInt = (I_3617 o 7).toInt := by rw [kp_3656 7 rfl]
                      have t_3662 : (I_3652 o 8).toInt = (I_3617 o 8).toInt := by rw [kp_3656 8 rfl]
                      have t_3663 : (I_3652 o 9).toInt = (I_3617 o 9).toInt := by rw [kp_3656 9 rfl]
                      have t_3664 : (I_3652 o 44).toInt = (I_3617 o 44).toInt := by rw [kp_3656 44 rfl]
                      have t_3665 : (I_3652 o 45).toInt = (I_3617 o 45).toInt := by rw [kp_3656 45 rfl]
                      have t_3666 : (I_3652 o 47).toInt = (I_3617 o 47).toInt := by rw [kp_3656 47 rfl]
                      have g_3667 : (0 : Int) ≤ (I_3652 o 48).toInt ∧ (I_3652 o 48).toInt ≤ 80 := hR_3654.at0 ra 48 (by decide)
                      have t_3668 : (I_3652 o 46).toInt = (I_3617 o 46).toInt := by rw [kp_3656 46 rfl]
                      have k_3669 : MTd I_3652 o := k_3635.fr (fr_3655 _ (by first | omega | (dsimp only; omega))) (fr_3655 _ (by first | omega | (dsimp only; omega))) (fr_3655 _ (by first | omega | (dsimp only; omega)))
                      have k_3670 : MPo I_3652 o := k_3636.fr (kp_3656 8 rfl) (kp_3656 9 rfl)
                      have k_3671 : MTk I_3652 o := k_3637.fr (kp_3656 6 rfl) (kp_3656 7 rfl) (kp_3656 8 rfl)
                      have k_3672 : EX 0 1 1 f0 1 I_3652 o := by have z := EX.push k_3634 (v := 7) (s := 0) (dB := 1) (dO := 0) (wt' := 1) (by decide) (by decide) (by decide) (by omega) ⟨by decide, by decide⟩ ⟨fun h => absurd h (by decide), fun h => absurd h (by decide)⟩ (Or.inl rfl) (fr_3655 _ (by first | omega | (dsimp only; omega))) (fr_3655 _ (by first | omega | (dsimp only; omega))) (fr_3655 _ (by first | omega | (dsimp only; omega))) u_3648 u_3649 (kp_3656 3 rfl) (kp_3656 6 rfl) (kp_3656 44 rfl) (kp_3656 45 rfl) (kp_3656 47 rfl) u_3650; exact EX.chg (b' := 1) z rfl rfl rfl rfl rfl rfl rfl rfl rfl rfl (by omega) z.pl
                      have g_3673 : (0 : Int) ≤ (I_3652 o 47).toInt ∧ (I_3652 o 47).toInt ≤ 7 := hR_3654.at0 ra 47 (by decide)
                      replace hg := gt_let (y := (I_3652 o 47).toInt) rfl hg
                      have a_3674 : ((I_3652 o 47) + 1).toInt = (I_3652 o 47).toInt + (1 : Int32).toInt := tAdd (by omega) (by omega)
                      replace hg := gt_let (y := (((I_3652 o 47) + 1) : Int32).toInt) (by omega) hg
                      refine fun I_3675 e_3676 => ?_
                      replace hg := gt_let (y := tI I_3675) (tI_q e_3676) hg
                      have hR_3677 : RI R I_3675 := hR_3654.up0 (k := 47) ra (by decide) (Or.inr hz57) e_3676 (show (0 : Int) ≤ ((I_3652 o 47) + 1).toInt by omega) (show ((I_3652 o 47) + 1).toInt ≤ (7 : Int) by omega)
                      have hf_3678 : Fm (fun c => c = o ∨ (o + 30 ≤ c ∧ c < o + 34)) I0 I_3675 := hf_3657.set (by first | rfl | omega | (dsimp only; omega)) e_3676
                      have t_3679 : (I_3675 o 3).toInt = (I_3652 o 3).toInt := by rw [← e_3676, q_u_k (by decide)]
                      have t_3680 : (I_3675 o 4).toInt = (I_3652 o 4).toInt := by rw [← e_3676, q_u_k (by decide)]
                      have t_3681 : (I_3675 o 6).toInt = (I_3652 o 6).toInt := by rw [← e_3676, q_u_k (by decide)]
                      have t_3682 : (I_3675 o 7).toInt = (I_3652 o 7).toInt := by rw [← e_3676, q_u_k (by decide)]
                      have t_3683 : (I_3675 o 8).toInt = (I_3652 o 8).toInt := by rw [← e_3676, q_u_k (by decide)]
                      have t_3684 : (I_3675 o 9).toInt = (I_3652 o 9).toInt := by rw [← e_3676, q_u_k (by decide)]
                      have t_3685 : (I_3675 o 44).toInt = (I_3652 o 44).toInt := by rw [← e_3676, q_u_k (by decide)]
                      have t_3686 : (I_3675 o 45).toInt = (I_3652 o 45).toInt := by rw [← e_3676, q_u_k (by decide)]
                      have t_3687 : (I_3675 o 47).toInt = ((I_3652 o 47) + 1).toInt := by rw [← e_3676, q_u_at]
                      have t_3688 : (I_3675 o 48).toInt = (I_3652 o 48).toInt := by rw [← e_3676, q_u_k (by decide)]
                      have t_3689 : (I_3675 o 46).toInt = (I_3652 o 46).toInt := by rw [← e_3676, q_u_k (by decide)]
                      have k_3690 : MTd I_3675 o := k_3669.fr (by rw [← e_3676]; exact q_u_ne (by omega)) (by rw [← e_3676]; exact q_u_ne (by omega)) (by rw [← e_3676]; exact q_u_ne (by omega))
                      have k_3691 : MPo I_3675 o := k_3670.fr (by rw [← e_3676, q_u_k (by decide)]) (by rw [← e_3676, q_u_k (by decide)])
                      have k_3692 : MTk I_3675 o := k_3671.fr (by rw [← e_3676, q_u_k (by decide)]) (by rw [← e_3676, q_u_k (by decide)]) (by rw [← e_3676, q_u_k (by decide)])
                      have tk := k_3692.2 (by omega)
                      have k_3694 : EX 0 0 1 f0 1 I_3675 o := by exact EX.put47 k_3672 e_3676 (by omega)
                      refine y_Model_nextg hok hw ra hz16 hz17 hz18 hz19 (by first | omega | (intro h; omega) | exact Or.inl rfl | exact Or.inr rfl) hR_3677 (fun I_3705 L_3706 hR_3707 fr_3708 kp_3709 u_3696 u_3697 u_3698 u_3699 u_3700 u_3701 u_3702 u_3703 gn_3704 => ⟨I_3705, L_3706, rfl, rfl, ?_⟩)
                      replace hg := gt_b3 gn_3704 hg
                      clear gn_3704
                      have hf_3710 : Fm (fun c => c = o ∨ (o + 30 ≤ c ∧ c < o + 34)) I0 I_3705 := hf_3678.call fr_3708 (fun c hc => by first | exact hc | (dsimp only at hc ⊢; omega) | omega)
                      have t_3711 : (I_3705 o 3).toInt = (I_3675 o 3).toInt := by rw [kp_3709 3 rfl]
                      have t_3712 : (I_3705 o 4).toInt = (I_3675 o 4).toInt := by rw [kp_3709 4 rfl]
                      have g_3713 : (0 : Int) ≤ (I_3705 o 6).toInt ∧ (I_3705 o 6).toInt ≤ 1600 := hR_3707.at0 ra 6 (by decide)
                      have g_3714 : (0 : Int) ≤ (I_3705 o 7).toInt ∧ (I_3705 o 7).toInt ≤ 1601 := hR_3707.at0 ra 7 (by decide)
                      have g_3715 : (0 : Int) ≤ (I_3705 o 8).toInt ∧ (I_3705 o 8).toInt ≤ 6 := hR_3707.at0 ra 8 (by decide)
                      have t_3716 : (I_3705 o 44).toInt = (I_3675 o 44).toInt := by rw [kp_3709 44 rfl]
                      have t_3717 : (I_3705 o 45).toInt = (I_3675 o 45).toInt := by rw [kp_3709 45 rfl]
                      have t_3718 : (I_3705 o 47).toInt = (I_3675 o 47).toInt := by rw [kp_3709 47 rfl]
                      have t_3719 : (I_3705 o 48).toInt = (I_3675 o 48).toInt := by rw [kp_3709 48 rfl]
                      have t_3720 : (I_3705 o 46).toInt = (I_3675 o 46).toInt := by rw [kp_3709 46 rfl]
                      have k_3721 : MTd I_3705 o := k_3690.fr (fr_3708 _ (by first | omega | (dsimp only; omega))) (fr_3708 _ (by first | omega | (dsimp only; omega))) (fr_3708 _ (by first | omega | (dsimp only; omega)))
                      have ms := u_3699 (by omega)
                      have k_3722 : EX 0 0 0 f0 1 I_3705 o := by exact EX.nx k_3694 (fr_3708 _ (by first | omega | (dsimp only; omega))) (fr_3708 _ (by first | omega | (dsimp only; omega))) (fr_3708 _ (by first | omega | (dsimp only; omega))) (fr_3708 _ (by first | omega | (dsimp only; omega))) (fr_3708 _ (by first | omega | (dsimp only; omega))) (kp_3709 3 rfl) (kp_3709 44 rfl) (kp_3709 45 rfl) (kp_3709 47 rfl) (kp_3709 48 rfl) (by omega) (by omega)
                      exact (hp _ _ _ hR_3707 hf_3710 (Or.inr rfl) (by first | omega | (intro h; omega) | exact Or.inl rfl | exact Or.inr rfl) (by first | omega | (intro h; omega) | exact Or.inl rfl | exact Or.inr rfl) (by first | omega | (intro h; omega) | exact Or.inl rfl | exact Or.inr rfl) (by first | omega | (intro h; omega) | exact Or.inl rfl | exact Or.inr rfl) (by first | omega | (intro h; omega) | exact Or.inl rfl | exact Or.inr rfl) (by clear hg; first | (intro h; exfalso; omega) | exact fun _ => k_3722 | exact fun _ => (False.elim (by omega))) k_3721 u_3702 u_3703 hg.symm)
                    · have d_3723 := iEq c_3644
                      have i_3724 := u_3641 (by omega)
                      replace hg := gt_pos (by first | exact d_3723 | omega) hg
                      exact (hp _ _ _ hR_3619 hf_3622 (Or.inr rfl) (by first | omega | (intro h; omega) | exact Or.inl rfl | exact Or.inr rfl) (by first | omega | (intro h; omega) | exact Or.inl rfl | exact Or.inr rfl) (by first | omega | (intro h; omega) | exact Or.inl rfl | exact Or.inr rfl) (by first | omega | (intro h; omega) | exact Or.inl rfl | exact Or.inr rfl) (by first | omega | (intro h; omega) | exact Or.inl rfl | exact Or.inr rfl) (by clear hg; first | (intro h; exfalso; omega) | exact fun _ => k_3634 | exact fun _ => (False.elim (by omega))) k_3635 k_3636 k_3637 hg.symm)
              · have d_3725 := iEq c_3311
                have i_3726 := u_3308 (by omega)
                replace hg := gt_pos (by first | exact d_3725 | omega) hg
                exact (hp _ _ _ hR_3286 hf_3289 (Or.inr rfl) (by first | omega | (intro h; omega) | exact Or.inl rfl | exact Or.inr rfl) (by first | omega | (intro h; omega) | exact Or.inl rfl | exact Or.inr rfl) (by first | omega | (intro h; omega) | exact Or.inl rfl | exact Or.inr rfl) (by first | omega | (intro h; omega) | exact Or.inl rfl | exact Or.inr rfl) (by first | omega | (intro h; omega) | exact Or.inl rfl | exact Or.inr rfl) (by clear hg; first | (intro h; exfalso; omega) | exact fun _ => k_3301 | exact fun _ => (False.elim (by omega))) k_3302 k_3303 k_3304 hg.symm)
          · have d_3727 := iEq c_2849
            replace hg := gt_pos (by first | exact d_3727 | omega) hg
            have g_3728 : (0 : Int) ≤ (I_2820 o 8).toInt ∧ (I_2820 o 8).toInt ≤ 6 := hR_2822.at0 ra 8 (by decide)
            replace hg := gt_let (y := (I_2820 o 8).toInt) rfl hg
            have l_3729 : (4 : Int32).toInt = 4 := rfl
            refine ⟨fun c_3730 => ?_, fun c_3730 => ?_⟩
            · have d_3731 := iEq c_3730
              replace hg := gt_pos (by first | exact d_3731 | omega) hg
              unfold fModel_unit_131
              replace hg := (eModel_unit_131).symm.trans hg
              have g_3732 : (0 : Int) ≤ (I_2820 o 46).toInt ∧ (I_2820 o 46).toInt ≤ 100 := hR_2822.at0 ra 46 (by decide)
              replace hg := gt_let (y := (I_2820 o 46).toInt) rfl hg
              have l_3733 : (100 : Int32).toInt = 100 := rfl
              refine ⟨fun c_3734 => ?_, fun c_3734 => ?_⟩
              · have d_3735 := iNe c_3734
                replace hg := gt_neg (by first | exact d_3735 | omega) hg
                refine y_Model_isGoodg hok hw ra hR_2822 (fun r_3736 u_3737 u_3738 u_3739 gn_3740 => ⟨r_3736, I_2820, L_2821, rfl, rfl, ?_⟩)
                replace hg := gt_let gn_3740 hg
                clear gn_3740
                have b_3741 : 0 ≤ r_3736.toInt ∧ r_3736.toInt ≤ 1 := u_3737.rg
                refine ⟨fun c_3742 => ?_, fun c_3742 => ?_⟩
                · have d_3743 := iNe c_3742
                  have i_3744 := u_3738 (by omega)
                  replace hg := gt_neg (by first | exact d_3743 | omega) hg
                  have g_3745 : (0 : Int) ≤ (I_2820 o 46).toInt ∧ (I_2820 o 46).toInt ≤ 100 := hR_2822.at0 ra 46 (by decide)
                  replace hg := gt_let (y := (I_2820 o 46).toInt) rfl hg
                  have a_3746 : ((I_2820 o 46) + 1).toInt = (I_2820 o 46).toInt + (1 : Int32).toInt := tAdd (by omega) (by omega)
                  replace hg := gt_let (y := (((I_2820 o 46) + 1) : Int32).toInt) (by omega) hg
                  refine fun I_3747 e_3748 => ?_
                  replace hg := gt_let (y := tI I_3747) (tI_q e_3748) hg
                  have hR_3749 : RI R I_3747 := hR_2822.up0 (k := 46) ra (by decide) (Or.inr hz56) e_3748 (show (0 : Int) ≤ ((I_2820 o 46) + 1).toInt by omega) (show ((I_2820 o 46) + 1).toInt ≤ (100 : Int) by omega)
                  have hf_3750 : Fm (fun c => c = o ∨ (o + 30 ≤ c ∧ c < o + 34)) I0 I_3747 := hf_2825.set (by first | rfl | omega | (dsimp only; omega)) e_3748
                  have t_3751 : (I_3747 o 3).toInt = (I_2820 o 3).toInt := by rw [← e_3748, q_u_k (by decide)]
                  have t_3752 : (I_3747 o 4).toInt = (I_2820 o 4).toInt := by rw [← e_3748, q_u_k (by decide)]
                  have t_3753 : (I_3747 o 6).toInt = (I_2820 o 6).toInt := by rw [← e_3748, q_u_k (by decide)]
                  have t_3754 : (I_3747 o 7).toInt = (I_2820 o 7).toInt := by rw [← e_3748, q_u_k (by decide)]
                  have t_3755 : (I_3747 o 8).toInt = (I_2820 o 8).toInt := by rw [← e_3748, q_u_k (by decide)]
                  have t_3756 : (I_3747 o 9).toInt = (I_2820 o 9).toInt := by rw [← e_3748, q_u_k (by decide)]
                  have t_3757 : (I_3747 o 44).toInt = (I_2820 o 44).toInt := by rw [← e_3748, q_u_k (by decide)]
                  have t_3758 : (I_3747 o 45).toInt = (I_2820 o 45).toInt := by rw [← e_3748, q_u_k (by decide)]
                  have t_3759 : (I_3747 o 47).toInt = (I_2820 o 47).toInt := by rw [← e_3748, q_u_k (by decide)]
                  have t_3760 : (I_3747 o 48).toInt = (I_2820 o 48).toInt := by rw [← e_3748, q_u_k (by decide)]
                  have t_3761 : (I_3747 o 46).toInt = ((I_2820 o 46) + 1).toInt := by rw [← e_3748, q_u_at]
                  have k_3762 : EX 0 0 0 f0 1 I_3747 o := k_2836.fr (by rw [← e_3748]; exact q_u_ne (by omega)) (by rw [← e_3748]; exact q_u_ne (by omega)) (by rw [← e_3748]; exact q_u_ne (by omega)) (by rw [← e_3748]; exact q_u_ne (by omega)) (by rw [← e_3748]; exact q_u_ne (by omega)) (by rw [← e_3748, q_u_k (by decide)]) (by rw [← e_3748, q_u_k (by decide)]) (by rw [← e_3748, q_u_k (by decide)]) (by rw [← e_3748, q_u_k (by decide)]) (by rw [← e_3748, q_u_k (by decide)]) (by rw [← e_3748, q_u_k (by decide)])
                  have k_3763 : MTd I_3747 o := k_2837.fr (by rw [← e_3748]; exact q_u_ne (by omega)) (by rw [← e_3748]; exact q_u_ne (by omega)) (by rw [← e_3748]; exact q_u_ne (by omega))
                  have k_3764 : MPo I_3747 o := k_2838.fr (by rw [← e_3748, q_u_k (by decide)]) (by rw [← e_3748, q_u_k (by decide)])
                  have k_3765 : MTk I_3747 o := k_2839.fr (by rw [← e_3748, q_u_k (by decide)]) (by rw [← e_3748, q_u_k (by decide)]) (by rw [← e_3748, q_u_k (by decide)])
                  have l_3766 : (40 : Int32).toInt = 40 := rfl
                  refine y_Model_isg hok hw ra hR_3749 (fun r_3767 u_3768 u_3769 u_3770 gn_3771 => ⟨r_3767, I_3747, L_2821, rfl, rfl, ?_⟩)
                  replace hg := gt_let gn_3771 hg
                  clear gn_3771
                  have b_3772 : 0 ≤ r_3767.toInt ∧ r_3767.toInt ≤ 1 := u_3768.rg
                  refine ⟨fun c_3773 => ?_, fun c_3773 => ?_⟩
                  · have d_3774 := iEq c_3773
                    replace hg := gt_pos (by first | exact d_3774 | omega) hg
                    have cd := k_3762.cod
                    have tk := k_3765.2 (by omega)
                    refine ⟨fun c_3775 => ?_, fun c_3775 => ?_⟩
                    · have d_3776 := iNe c_3775
                      have i_3777 := u_2816 (by omega)
                      have i_3778 := u_2817 (by omega)
                      exfalso; omega
                    · have d_3779 := iEq c_3775
                      replace hg := gt_pos (by first | exact d_3779 | omega) hg
                      unfold fModel_unit_228
                      replace hg := (eModel_unit_228).symm.trans hg
                      have l_3780 : (78 : Int32).toInt = 78 := rfl
                      refine ⟨fun c_3781 => ?_, fun c_3781 => ?_⟩
                      · have d_3782 := iNe c_3781
                        have i_3783 := u_2816 (by omega)
                        have i_3784 := u_2817 (by omega)
                        exfalso; omega
                      · have d_3785 := iEq c_3781
                        replace hg := gt_pos (by first | exact d_3785 | omega) hg
                        replace hg := gt_let (y := (I_3747 o 9).toInt) rfl hg
                        refine y_Model_stepg hok hw ra hz55 (by first | omega | (intro h; omega) | exact Or.inl rfl | exact Or.inr rfl) (by first | omega | (intro h; omega) | exact Or.inl rfl | exact Or.inr rfl) hR_3749 (fun I_3790 L_3791 hR_3792 fr_3793 kp_3794 u_3787 u_3788 gn_3789 => ⟨I_3790, L_3791, rfl, rfl, ?_⟩)
                        replace hg := gt_b3 gn_3789 hg
                        clear gn_3789
                        have hf_3795 : Fm (fun c => c = o ∨ (o + 30 ≤ c ∧ c < o + 34)) I0 I_3790 := hf_3750.call fr_3793 (fun c hc => by first | exact hc | (dsimp only at hc ⊢; omega) | omega)
                        have t_3796 : (I_3790 o 3).toInt = (I_3747 o 3).toInt := by rw [kp_3794 3 rfl]
                        have t_3797 : (I_3790 o 4).toInt = (I_3747 o 4).toInt := by rw [kp_3794 4 rfl]
                        have t_3798 : (I_3790 o 6).toInt = (I_3747 o 6).toInt := by rw [kp_3794 6 rfl]
                        have t_3799 : (I_3790 o 7).toInt = (I_3747 o 7).toInt := by rw [kp_3794 7 rfl]
                        have t_3800 : (I_3790 o 8).toInt = (I_3747 o 8).toInt := by rw [kp_3794 8 rfl]
                        have t_3801 : (I_3790 o 9).toInt = (I_3747 o 9).toInt := by rw [kp_3794 9 rfl]
                        have t_3802 : (I_3790 o 44).toInt = (I_3747 o 44).toInt := by rw [kp_3794 44 rfl]
                        have g_3803 : (0 : Int) ≤ (I_3790 o 45).toInt ∧ (I_3790 o 45).toInt ≤ 700 := hR_3792.at0 ra 45 (by decide)
                        have t_3804 : (I_3790 o 47).toInt = (I_3747 o 47).toInt := by rw [kp_3794 47 rfl]
                        have t_3805 : (I_3790 o 48).toInt = (I_3747 o 48).toInt := by rw [kp_3794 48 rfl]
                        have t_3806 : (I_3790 o 46).toInt = (I_3747 o 46).toInt := by rw [kp_3794 46 rfl]
                        have k_3807 : MPo I_3790 o := k_3764.fr (kp_3794 8 rfl) (kp_3794 9 rfl)
                        have k_3808 : MTk I_3790 o := k_3765.fr (kp_3794 6 rfl) (kp_3794 7 rfl) (kp_3794 8 rfl)
                        have tk := k_3808.2 (by omega)
                        have k_3809 : EX 0 0 1 f0 0 I_3790 o := by exact EX.step1 k_3762 (by first | exact u_2816 (by omega) | (unfold isT; decide)) (by omega) (fr_3793 _ (by first | omega | (dsimp only; omega))) (fr_3793 _ (by first | omega | (dsimp only; omega))) u_3787 (fr_3793 _ (by first | omega | (dsimp only; omega))) (fr_3793 _ (by first | omega | (dsimp only; omega))) (kp_3794 3 rfl) (kp_3794 6 rfl) (kp_3794 44 rfl) u_3788 (kp_3794 47 rfl) (kp_3794 48 rfl)
                        have k_3810 : MTd I_3790 o := by exact MTd.step k_3763 (fr_3793 _ (by first | omega | (dsimp only; omega))) (fr_3793 _ (by first | omega | (dsimp only; omega))) u_3787 (by omega)
                        refine y_Model_nextg hok hw ra hz16 hz17 hz18 hz19 (by first | omega | (intro h; omega) | exact Or.inl rfl | exact Or.inr rfl) hR_3792 (fun I_3821 L_3822 hR_3823 fr_3824 kp_3825 u_3812 u_3813 u_3814 u_3815 u_3816 u_3817 u_3818 u_3819 gn_3820 => ⟨I_3821, L_3822, rfl, rfl, ?_⟩)
                        replace hg := gt_b3 gn_3820 hg
                        clear gn_3820
                        have hf_3826 : Fm (fun c => c = o ∨ (o + 30 ≤ c ∧ c < o + 34)) I0 I_3821 := hf_3795.call fr_3824 (fun c hc => by first | exact hc | (dsimp only at hc ⊢; omega) | omega)
                        have t_3827 : (I_3821 o 3).toInt = (I_3790 o 3).toInt := by rw [kp_3825 3 rfl]
                        have t_3828 : (I_3821 o 4).toInt = (I_3790 o 4).toInt := by rw [kp_3825 4 rfl]
                        have g_3829 : (0 : Int) ≤ (I_3821 o 6).toInt ∧ (I_3821 o 6).toInt ≤ 1600 := hR_3823.at0 ra 6 (by decide)
                        have g_3830 : (0 : Int) ≤ (I_3821 o 7).toInt ∧ (I_3821 o 7).toInt ≤ 1601 := hR_3823.at0 ra 7 (by decide)
                        have g_3831 : (0 : Int) ≤ (I_3821 o 8).toInt ∧ (I_3821 o 8).toInt ≤ 6 := hR_3823.at0 ra 8 (by decide)
                        have t_3832 : (I_3821 o 44).toInt = (I_3790 o 44).toInt := by rw [kp_3825 44 rfl]
                        have t_3833 : (I_3821 o 45).toInt = (I_3790 o 45).toInt := by rw [kp_3825 45 rfl]
                        have t_3834 : (I_3821 o 47).toInt = (I_3790 o 47).toInt := by rw [kp_3825 47 rfl]
                        have t_3835 : (I_3821 o 48).toInt = (I_3790 o 48).toInt := by rw [kp_3825 48 rfl]
                        have t_3836 : (I_3821 o 46).toInt = (I_3790 o 46).toInt := by rw [kp_3825 46 rfl]
                        have k_3837 : MTd I_3821 o := k_3810.fr (fr_3824 _ (by first | omega | (dsimp only; omega))) (fr_3824 _ (by first | omega | (dsimp only; omega))) (fr_3824 _ (by first | omega | (dsimp only; omega)))
                        have ms := u_3815 (by omega)
                        have k_3838 : EX 0 0 0 f0 0 I_3821 o := by exact EX.nx k_3809 (fr_3824 _ (by first | omega | (dsimp only; omega))) (fr_3824 _ (by first | omega | (dsimp only; omega))) (fr_3824 _ (by first | omega | (dsimp only; omega))) (fr_3824 _ (by first | omega | (dsimp only; omega))) (fr_3824 _ (by first | omega | (dsimp only; omega))) (kp_3825 3 rfl) (kp_3825 44 rfl) (kp_3825 45 rfl) (kp_3825 47 rfl) (kp_3825 48 rfl) (by omega) (by omega)
                        exact (hp _ _ _ hR_3823 hf_3826 (Or.inl rfl) (by first | omega | (intro h; omega) | exact Or.inl rfl | exact Or.inr rfl) (by first | omega | (intro h; omega) | exact Or.inl rfl | exact Or.inr rfl) (by first | omega | (intro h; omega) | exact Or.inl rfl | exact Or.inr rfl) (by first | omega | (intro h; omega) | exact Or.inl rfl | exact Or.inr rfl) (by first | omega | (intro h; omega) | exact Or.inl rfl | exact Or.inr rfl) (by clear hg; first | (intro h; exfalso; omega) | exact fun _ => (False.elim (by omega)) | exact fun _ => k_3838) k_3837 u_3818 u_3819 hg.symm)
                  · have d_3839 := iNe c_3773
                    have i_3840 := u_3769 (by omega)
                    have i_3841 := u_3770 (by omega)
                    replace hg := gt_neg (by first | exact d_3839 | omega) hg
                    have g_3842 : (0 : Int) ≤ (I_3747 o 47).toInt ∧ (I_3747 o 47).toInt ≤ 7 := hR_3749.at0 ra 47 (by decide)
                    replace hg := gt_let (y := (I_3747 o 47).toInt) rfl hg
                    refine ⟨fun c_3843 => ?_, fun c_3843 => ?_⟩
                    · have d_3844 := iNe c_3843
                      replace hg := gt_neg (by first | exact d_3844 | omega) hg
                      refine y_Model_isGoodg hok hw ra hR_3749 (fun r_3845 u_3846 u_3847 u_3848 gn_3849 => ⟨r_3845, I_3747, L_2821, rfl, rfl, ?_⟩)
                      replace hg := gt_let gn_3849 hg
                      clear gn_3849
                      have b_3850 : 0 ≤ r_3845.toInt ∧ r_3845.toInt ≤ 1 := u_3846.rg
                      refine ⟨fun c_3851 => ?_, fun c_3851 => ?_⟩
                      · have d_3852 := iNe c_3851
                        have i_3853 := u_3847 (by omega)
                        replace hg := gt_neg (by first | exact d_3852 | omega) hg
                        refine y_Model_pileg hok hw ra hz58 (by first | omega | (intro h; omega) | exact Or.inl rfl | exact Or.inr rfl) (by first | omega | (intro h; omega) | exact Or.inl rfl | exact Or.inr rfl) hR_3749 (fun I_3859 L_3860 hR_3861 fr_3862 kp_3863 u_3855 u_3856 u_3857 gn_3858 => ⟨I_3859, L_3860, rfl, rfl, ?_⟩)
                        replace hg := gt_b3 gn_3858 hg
                        clear gn_3858
                        have hf_3864 : Fm (fun c => c = o ∨ (o + 30 ≤ c ∧ c < o + 34)) I0 I_3859 := hf_3750.call fr_3862 (fun c hc => by first | exact hc | (dsimp only at hc ⊢; omega) | omega)
                        have t_3865 : (I_3859 o 3).toInt = (I_3747 o 3).toInt := by rw [kp_3863 3 rfl]
                        have t_3866 : (I_3859 o 4).toInt = (I_3747 o 4).toInt := by rw [kp_3863 4 rfl]
                        have t_3867 : (I_3859 o 6).toInt = (I_3747 o 6).toInt := by rw [kp_3863 6 rfl]
                        have t_3868 : (I_3859 o 7).toInt = (I_3747 o 7).toInt := by rw [kp_3863 7 rfl]
                        have t_3869 : (I_3859 o 8).toInt = (I_3747 o 8).toInt := by rw [kp_3863 8 rfl]
                        have t_3870 : (I_3859 o 9).toInt = (I_3747 o 9).toInt := by rw [kp_3863 9 rfl]
                        have t_3871 : (I_3859 o 44).toInt = (I_3747 o 44).toInt := by rw [kp_3863 44 rfl]
                        have t_3872 : (I_3859 o 45).toInt = (I_3747 o 45).toInt := by rw [kp_3863 45 rfl]
                        have t_3873 : (I_3859 o 47).toInt = (I_3747 o 47).toInt := by rw [kp_3863 47 rfl]
                        have g_3874 : (0 : Int) ≤ (I_3859 o 48).toInt ∧ (I_3859 o 48).toInt ≤ 80 := hR_3861.at0 ra 48 (by decide)
                        have t_3875 : (I_3859 o 46).toInt = (I_3747 o 46).toInt := by rw [kp_3863 46 rfl]
                        have k_3876 : MTd I_3859 o := k_3763.fr (fr_3862 _ (by first | omega | (dsimp only; omega))) (fr_3862 _ (by first | omega | (dsimp only; omega))) (fr_3862 _ (by first | omega | (dsimp only; omega)))
                        have k_3877 : MPo I_3859 o := k_3764.fr (kp_3863 8 rfl) (kp_3863 9 rfl)
                        have k_3878 : MTk I_3859 o := k_3765.fr (kp_3863 6 rfl) (kp_3863 7 rfl) (kp_3863 8 rfl)
                        have k_3879 : EX 0 1 1 f0 1 I_3859 o := by have z := EX.push k_3762 (v := 7) (s := 0) (dB := 1) (dO := 0) (wt' := 1) (by decide) (by decide) (by decide) (by omega) ⟨by decide, by decide⟩ ⟨fun h => absurd h (by decide), fun h => absurd h (by decide)⟩ (Or.inl rfl) (fr_3862 _ (by first | omega | (dsimp only; omega))) (fr_3862 _ (by first | omega | (dsimp only; omega))) (fr_3862 _ (by first | omega | (dsimp only; omega))) u_3855 u_3856 (kp_3863 3 rfl) (kp_3863 6 rfl) (kp_3863 44 rfl) (kp_3863 45 rfl) (kp_3863 47 rfl) u_3857; exact EX.chg (b' := 1) z rfl rfl rfl rfl rfl rfl rfl rfl rfl rfl (by omega) z.pl
                        have g_3880 : (0 : Int) ≤ (I_3859 o 47).toInt ∧ (I_3859 o 47).toInt ≤ 7 := hR_3861.at0 ra 47 (by decide)
                        replace hg := gt_let (y := (I_3859 o 47).toInt) rfl hg
                        have a_3881 : ((I_3859 o 47) + 1).toInt = (I_3859 o 47).toInt + (1 : Int32).toInt := tAdd (by omega) (by omega)
                        replace hg := gt_let (y := (((I_3859 o 47) + 1) : Int32).toInt) (by omega) hg
                        refine fun I_3882 e_3883 => ?_
                        replace hg := gt_let (y := tI I_3882) (tI_q e_3883) hg
                        have hR_3884 : RI R I_3882 := hR_3861.up0 (k := 47) ra (by decide) (Or.inr hz57) e_3883 (show (0 : Int) ≤ ((I_3859 o 47) + 1).toInt by omega) (show ((I_3859 o 47) + 1).toInt ≤ (7 : Int) by omega)
                        have hf_3885 : Fm (fun c => c = o ∨ (o + 30 ≤ c ∧ c < o + 34)) I0 I_3882 := hf_3864.set (by first | rfl | omega | (dsimp only; omega)) e_3883
                        have t_3886 : (I_3882 o 3).toInt = (I_3859 o 3).toInt := by rw [← e_3883, q_u_k (by decide)]
                        have t_3887 : (I_3882 o 4).toInt = (I_3859 o 4).toInt := by rw [← e_3883, q_u_k (by decide)]
                        have t_3888 : (I_3882 o 6).toInt = (I_3859 o 6).toInt := by rw [← e_3883, q_u_k (by decide)]
                        have t_3889 : (I_3882 o 7).toInt = (I_3859 o 7).toInt := by rw [← e_3883, q_u_k (by decide)]
                        have t_3890 : (I_3882 o 8).toInt = (I_3859 o 8).toInt := by rw [← e_3883, q_u_k (by decide)]
                        have t_3891 : (I_3882 o 9).toInt = (I_3859 o 9).toInt := by rw [← e_3883, q_u_k (by decide)]
                        have t_3892 : (I_3882 o 44).toInt = (I_3859 o 44).toInt := by rw [← e_3883, q_u_k (by decide)]
                        have t_3893 : (I_3882 o 45).toInt = (I_3859 o 45).toInt := by rw [← e_3883, q_u_k (by decide)]
                        have t_3894 : (I_3882 o 47).toInt = ((I_3859 o 47) + 1).toInt := by rw [← e_3883, q_u_at]
                        have t_3895 : (I_3882 o 48).toInt = (I_3859 o 48).toInt := by rw [← e_3883, q_u_k (by decide)]
                        have t_3896 : (I_3882 o 46).toInt = (I_3859 o 46).toInt := by rw [← e_3883, q_u_k (by decide)]
                        have k_3897 : MTd I_3882 o := k_3876.fr (by rw [← e_3883]; exact q_u_ne (by omega)) (by rw [← e_3883]; exact q_u_ne (by omega)) (by rw [← e_3883]; exact q_u_ne (by omega))
                        have k_3898 : MPo I_3882 o := k_3877.fr (by rw [← e_3883, q_u_k (by decide)]) (by rw [← e_3883, q_u_k (by decide)])
                        have k_3899 : MTk I_3882 o := k_3878.fr (by rw [← e_3883, q_u_k (by decide)]) (by rw [← e_3883, q_u_k (by decide)]) (by rw [← e_3883, q_u_k (by decide)])
                        have tk := k_3899.2 (by omega)
                        have k_3901 : EX 0 0 1 f0 1 I_3882 o := by exact EX.put47 k_3879 e_3883 (by omega)
                        refine y_Model_nextg hok hw ra hz16 hz17 hz18 hz19 (by first | omega | (intro h; omega) | exact Or.inl rfl | exact Or.inr rfl) hR_3884 (fun I_3912 L_3913 hR_3914 fr_3915 kp_3916 u_3903 u_3904 u_3905 u_3906 u_3907 u_3908 u_3909 u_3910 gn_3911 => ⟨I_3912, L_3913, rfl, rfl, ?_⟩)
                        replace hg := gt_b3 gn_3911 hg
                        clear gn_3911
                        have hf_3917 : Fm (fun c => c = o ∨ (o + 30 ≤ c ∧ c < o + 34)) I0 I_3912 := hf_3885.call fr_3915 (fun c hc => by first | exact hc | (dsimp only at hc ⊢; omega) | omega)
                        have t_3918 : (I_3912 o 3).toInt = (I_3882 o 3).toInt := by rw [kp_3916 3 rfl]
                        have t_3919 : (I_3912 o 4).toInt = (I_3882 o 4).toInt := by rw [kp_3916 4 rfl]
                        have g_3920 : (0 : Int) ≤ (I_3912 o 6).toInt ∧ (I_3912 o 6).toInt ≤ 1600 := hR_3914.at0 ra 6 (by decide)
                        have g_3921 : (0 : Int) ≤ (I_3912 o 7).toInt ∧ (I_3912 o 7).toInt ≤ 1601 := hR_3914.at0 ra 7 (by decide)
                        have g_3922 : (0 : Int) ≤ (I_3912 o 8).toInt ∧ (I_3912 o 8).toInt ≤ 6 := hR_3914.at0 ra 8 (by decide)
                        have t_3923 : (I_3912 o 44).toInt = (I_3882 o 44).toInt := by rw [kp_3916 44 rfl]
                        have t_3924 : (I_3912 o 45).toInt = (I_3882 o 45).toInt := by rw [kp_3916 45 rfl]
                        have t_3925 : (I_3912 o 47).toInt = (I_3882 o 47).toInt := by rw [kp_3916 47 rfl]
                        have t_3926 : (I_3912 o 48).toInt = (I_3882 o 48).toInt := by rw [kp_3916 48 rfl]
                        have t_3927 : (I_3912 o 46).toInt = (I_3882 o 46).toInt := by rw [kp_3916 46 rfl]
                        have k_3928 : MTd I_3912 o := k_3897.fr (fr_3915 _ (by first | omega | (dsimp only; omega))) (fr_3915 _ (by first | omega | (dsimp only; omega))) (fr_3915 _ (by first | omega | (dsimp only; omega)))
                        have ms := u_3906 (by omega)
                        have k_3929 : EX 0 0 0 f0 1 I_3912 o := by exact EX.nx k_3901 (fr_3915 _ (by first | omega | (dsimp only; omega))) (fr_3915 _ (by first | omega | (dsimp only; omega))) (fr_3915 _ (by first | omega | (dsimp only; omega))) (fr_3915 _ (by first | omega | (dsimp only; omega))) (fr_3915 _ (by first | omega | (dsimp only; omega))) (kp_3916 3 rfl) (kp_3916 44 rfl) (kp_3916 45 rfl) (kp_3916 47 rfl) (kp_3916 48 rfl) (by omega) (by omega)
                        exact (hp _ _ _ hR_3914 hf_3917 (Or.inr rfl) (by first | omega | (intro h; omega) | exact Or.inl rfl | exact Or.inr rfl) (by first | omega | (intro h; omega) | exact Or.inl rfl | exact Or.inr rfl) (by first | omega | (intro h; omega) | exact Or.inl rfl | exact Or.inr rfl) (by first | omega | (intro h; omega) | exact Or.inl rfl | exact Or.inr rfl) (by first | omega | (intro h; omega) | exact Or.inl rfl | exact Or.inr rfl) (by clear hg; first | (intro h; exfalso; omega) | exact fun _ => k_3929 | exact fun _ => (False.elim (by omega))) k_3928 u_3909 u_3910 hg.symm)
                      · have d_3930 := iEq c_3851
                        have i_3931 := u_3848 (by omega)
                        replace hg := gt_pos (by first | exact d_3930 | omega) hg
                        exact (hp _ _ _ hR_3749 hf_3750 (Or.inr rfl) (by first | omega | (intro h; omega) | exact Or.inl rfl | exact Or.inr rfl) (by first | omega | (intro h; omega) | exact Or.inl rfl | exact Or.inr rfl) (by first | omega | (intro h; omega) | exact Or.inl rfl | exact Or.inr rfl) (by first | omega | (intro h; omega) | exact Or.inl rfl | exact Or.inr rfl) (by first | omega | (intro h; omega) | exact Or.inl rfl | exact Or.inr rfl) (by clear hg; first | (intro h; exfalso; omega) | exact fun _ => k_3762 | exact fun _ => (False.elim (by omega))) k_3763 k_3764 k_3765 hg.symm)
                    · have d_3932 := iEq c_3843
                      replace hg := gt_pos (by first | exact d_3932 | omega) hg
                      refine y_Model_wrongg hok hw ra hz14 hz15 hR_3749 (fun I_3937 L_3938 hR_3939 fr_3940 kp_3941 u_3934 u_3935 gn_3936 => ⟨I_3937, L_3938, rfl, rfl, ?_⟩)
                      replace hg := gt_b3 gn_3936 hg
                      clear gn_3936
                      have hf_3942 : Fm (fun c => c = o ∨ (o + 30 ≤ c ∧ c < o + 34)) I0 I_3937 := hf_3750.call fr_3940 (fun c hc => by first | exact hc | (dsimp only at hc ⊢; omega) | omega)
                      have t_3943 : (I_3937 o 3).toInt = (I_3747 o 3).toInt := by rw [kp_3941 3 rfl]
                      have g_3944 : (0 : Int) ≤ (I_3937 o 4).toInt ∧ (I_3937 o 4).toInt ≤ 5 := hR_3939.at0 ra 4 (by decide)
                      have t_3945 : (I_3937 o 6).toInt = (I_3747 o 6).toInt := by rw [kp_3941 6 rfl]
                      have t_3946 : (I_3937 o 7).toInt = (I_3747 o 7).toInt := by rw [kp_3941 7 rfl]
                      have t_3947 : (I_3937 o 8).toInt = (I_3747 o 8).toInt := by rw [kp_3941 8 rfl]
                      have t_3948 : (I_3937 o 9).toInt = (I_3747 o 9).toInt := by rw [kp_3941 9 rfl]
                      have t_3949 : (I_3937 o 44).toInt = (I_3747 o 44).toInt := by rw [kp_3941 44 rfl]
                      have t_3950 : (I_3937 o 45).toInt = (I_3747 o 45).toInt := by rw [kp_3941 45 rfl]
                      have t_3951 : (I_3937 o 47).toInt = (I_3747 o 47).toInt := by rw [kp_3941 47 rfl]
                      have t_3952 : (I_3937 o 48).toInt = (I_3747 o 48).toInt := by rw [kp_3941 48 rfl]
                      have t_3953 : (I_3937 o 46).toInt = (I_3747 o 46).toInt := by rw [kp_3941 46 rfl]
                      have k_3954 : EX 0 0 0 f0 1 I_3937 o := k_3762.fr (fr_3940 _ (by first | omega | (dsimp only; omega))) (fr_3940 _ (by first | omega | (dsimp only; omega))) (fr_3940 _ (by first | omega | (dsimp only; omega))) (fr_3940 _ (by first | omega | (dsimp only; omega))) (fr_3940 _ (by first | omega | (dsimp only; omega))) (kp_3941 3 rfl) (kp_3941 6 rfl) (kp_3941 44 rfl) (kp_3941 45 rfl) (kp_3941 47 rfl) (kp_3941 48 rfl)
                      have k_3955 : MTd I_3937 o := k_3763.fr (fr_3940 _ (by first | omega | (dsimp only; omega))) (fr_3940 _ (by first | omega | (dsimp only; omega))) (fr_3940 _ (by first | omega | (dsimp only; omega)))
                      have k_3956 : MPo I_3937 o := k_3764.fr (kp_3941 8 rfl) (kp_3941 9 rfl)
                      have k_3957 : MTk I_3937 o := k_3765.fr (kp_3941 6 rfl) (kp_3941 7 rfl) (kp_3941 8 rfl)
                      refine y_Model_isGoodg hok hw ra hR_3939 (fun r_3958 u_3959 u_3960 u_3961 gn_3962 => ⟨r_3958, I_3937, L_3938, rfl, rfl, ?_⟩)
                      replace hg := gt_let gn_3962 hg
                      clear gn_3962
                      have b_3963 : 0 ≤ r_3958.toInt ∧ r_3958.toInt ≤ 1 := u_3959.rg
                      refine ⟨fun c_3964 => ?_, fun c_3964 => ?_⟩
                      · have d_3965 := iNe c_3964
                        have i_3966 := u_3960 (by omega)
                        replace hg := gt_neg (by first | exact d_3965 | omega) hg
                        refine y_Model_pileg hok hw ra hz58 (by first | omega | (intro h; omega) | exact Or.inl rfl | exact Or.inr rfl) (by first | omega | (intro h; omega) | exact Or.inl rfl | exact Or.inr rfl) hR_3939 (fun I_3972 L_3973 hR_3974 fr_3975 kp_3976 u_3968 u_3969 u_3970 gn_3971 => ⟨I_3972, L_3973, rfl, rfl, ?_⟩)
                        replace hg := gt_b3 gn_3971 hg
                        clear gn_3971
                        have hf_3977 : Fm (fun c => c = o ∨ (o + 30 ≤ c ∧ c < o + 34)) I0 I_3972 := hf_3942.call fr_3975 (fun c hc => by first | exact hc | (dsimp only at hc ⊢; omega) | omega)
                        have t_3978 : (I_3972 o 3).toInt = (I_3937 o 3).toInt := by rw [kp_3976 3 rfl]
                        have t_3979 : (I_3972 o 4).toInt = (I_3937 o 4).toInt := by rw [kp_3976 4 rfl]
                        have t_3980 : (I_3972 o 6).toInt = (I_3937 o 6).toInt := by rw [kp_3976 6 rfl]
                        have t_3981 : (I_3972 o 7).toInt = (I_3937 o 7).toInt := by rw [kp_3976 7 rfl]
                        have t_3982 : (I_3972 o 8).toInt = (I_3937 o 8).toInt := by rw [kp_3976 8 rfl]
                        have t_3983 : (I_3972 o 9).toInt = (I_3937 o 9).toInt := by rw [kp_3976 9 rfl]
                        have t_3984 : (I_3972 o 44).toInt = (I_3937 o 44).toInt := by rw [kp_3976 44 rfl]
                        have t_3985 : (I_3972 o 45).toInt = (I_3937 o 45).toInt := by rw [kp_3976 45 rfl]
                        have t_3986 : (I_3972 o 47).toInt = (I_3937 o 47).toInt := by rw [kp_3976 47 rfl]
                        have g_3987 : (0 : Int) ≤ (I_3972 o 48).toInt ∧ (I_3972 o 48).toInt ≤ 80 := hR_3974.at0 ra 48 (by decide)
                        have t_3988 : (I_3972 o 46).toInt = (I_3937 o 46).toInt := by rw [kp_3976 46 rfl]
                        have k_3989 : MTd I_3972 o := k_3955.fr (fr_3975 _ (by first | omega | (dsimp only; omega))) (fr_3975 _ (by first | omega | (dsimp only; omega))) (fr_3975 _ (by first | omega | (dsimp only; omega)))
                        have k_3990 : MPo I_3972 o := k_3956.fr (kp_3976 8 rfl) (kp_3976 9 rfl)
                        have k_3991 : MTk I_3972 o := k_3957.fr (kp_3976 6 rfl) (kp_3976 7 rfl) (kp_3976 8 rfl)
                        have k_3992 : EX 0 1 1 f0 1 I_3972 o := by have z := EX.push k_3954 (v := 7) (s := 0) (dB := 1) (dO := 0) (wt' := 1) (by decide) (by decide) (by decide) (by omega) ⟨by decide, by decide⟩ ⟨fun h => absurd h (by decide), fun h => absurd h (by decide)⟩ (Or.inl rfl) (fr_3975 _ (by first | omega | (dsimp only; omega))) (fr_3975 _ (by first | omega | (dsimp only; omega))) (fr_3975 _ (by first | omega | (dsimp only; omega))) u_3968 u_3969 (kp_3976 3 rfl) (kp_3976 6 rfl) (kp_3976 44 rfl) (kp_3976 45 rfl) (kp_3976 47 rfl) u_3970; exact EX.chg (b' := 1) z rfl rfl rfl rfl rfl rfl rfl rfl rfl rfl (by omega) z.pl
                        have g_3993 : (0 : Int) ≤ (I_3972 o 47).toInt ∧ (I_3972 o 47).toInt ≤ 7 := hR_3974.at0 ra 47 (by decide)
                        replace hg := gt_let (y := (I_3972 o 47).toInt) rfl hg
                        have a_3994 : ((I_3972 o 47) + 1).toInt = (I_3972 o 47).toInt + (1 : Int32).toInt := tAdd (by omega) (by omega)
                        replace hg := gt_let (y := (((I_3972 o 47) + 1) : Int32).toInt) (by omega) hg
                        refine fun I_3995 e_3996 => ?_
                        replace hg := gt_let (y := tI I_3995) (tI_q e_3996) hg
                        have hR_3997 : RI R I_3995 := hR_3974.up0 (k := 47) ra (by decide) (Or.inr hz57) e_3996 (show (0 : Int) ≤ ((I_3972 o 47) + 1).toInt by omega) (show ((I_3972 o 47) + 1).toInt ≤ (7 : Int) by omega)
                        have hf_3998 : Fm (fun c => c = o ∨ (o + 30 ≤ c ∧ c < o + 34)) I0 I_3995 := hf_3977.set (by first | rfl | omega | (dsimp only; omega)) e_3996
                        have t_3999 : (I_3995 o 3).toInt = (I_3972 o 3).toInt := by rw [← e_3996, q_u_k (by decide)]
                        have t_4000 : (I_3995 o 4).toInt = (I_3972 o 4).toInt := by rw [← e_3996, q_u_k (by decide)]
                        have t_4001 : (I_3995 o 6).toInt = (I_3972 o 6).toInt := by rw [← e_3996, q_u_k (by decide)]
                        have t_4002 : (I_3995 o 7).toInt = (I_3972 o 7).toInt := by rw [← e_3996, q_u_k (by decide)]
                        have t_4003 : (I_3995 o 8).toInt = (I_3972 o 8).toInt := by rw [← e_3996, q_u_k (by decide)]
                        have t_4004 : (I_3995 o 9).toInt = (I_3972 o 9).toInt := by rw [← e_3996, q_u_k (by decide)]
                        have t_4005 : (I_3995 o 44).toInt = (I_3972 o 44).toInt := by rw [← e_3996, q_u_k (by decide)]
                        have t_4006 : (I_3995 o 45).toInt = (I_3972 o 45).toInt := by rw [← e_3996, q_u_k (by decide)]
                        have t_4007 : (I_3995 o 47).toInt = ((I_3972 o 47) + 1).toInt := by rw [← e_3996, q_u_at]
                        have t_4008 : (I_3995 o 48).toInt = (I_3972 o 48).toInt := by rw [← e_3996, q_u_k (by decide)]
                        have t_4009 : (I_3995 o 46).toInt = (I_3972 o 46).toInt := by rw [← e_3996, q_u_k (by decide)]
                        have k_4010 : MTd I_3995 o := k_3989.fr (by rw [← e_3996]; exact q_u_ne (by omega)) (by rw [← e_3996]; exact q_u_ne (by omega)) (by rw [← e_3996]; exact q_u_ne (by omega))
                        have k_4011 : MPo I_3995 o := k_3990.fr (by rw [← e_3996, q_u_k (by decide)]) (by rw [← e_3996, q_u_k (by decide)])
                        have k_4012 : MTk I_3995 o := k_3991.fr (by rw [← e_3996, q_u_k (by decide)]) (by rw [← e_3996, q_u_k (by decide)]) (by rw [← e_3996, q_u_k (by decide)])
                        have tk := k_4012.2 (by omega)
                        have k_4014 : EX 0 0 1 f0 1 I_3995 o := by exact EX.put47 k_3992 e_3996 (by omega)
                        refine y_Model_nextg hok hw ra hz16 hz17 hz18 hz19 (by first | omega | (intro h; omega) | exact Or.inl rfl | exact Or.inr rfl) hR_3997 (fun I_4025 L_4026 hR_4027 fr_4028 kp_4029 u_4016 u_4017 u_4018 u_4019 u_4020 u_4021 u_4022 u_4023 gn_4024 => ⟨I_4025, L_4026, rfl, rfl, ?_⟩)
                        replace hg := gt_b3 gn_4024 hg
                        clear gn_4024
                        have hf_4030 : Fm (fun c => c = o ∨ (o + 30 ≤ c ∧ c < o + 34)) I0 I_4025 := hf_3998.call fr_4028 (fun c hc => by first | exact hc | (dsimp only at hc ⊢; omega) | omega)
                        have t_4031 : (I_4025 o 3).toInt = (I_3995 o 3).toInt := by rw [kp_4029 3 rfl]
                        have t_4032 : (I_4025 o 4).toInt = (I_3995 o 4).toInt := by rw [kp_4029 4 rfl]
                        have g_4033 : (0 : Int) ≤ (I_4025 o 6).toInt ∧ (I_4025 o 6).toInt ≤ 1600 := hR_4027.at0 ra 6 (by decide)
                        have g_4034 : (0 : Int) ≤ (I_4025 o 7).toInt ∧ (I_4025 o 7).toInt ≤ 1601 := hR_4027.at0 ra 7 (by decide)
                        have g_4035 : (0 : Int) ≤ (I_4025 o 8).toInt ∧ (I_4025 o 8).toInt ≤ 6 := hR_4027.at0 ra 8 (by decide)
                        have t_4036 : (I_4025 o 44).toInt = (I_3995 o 44).toInt := by rw [kp_4029 44 rfl]
                        have t_4037 : (I_4025 o 45).toInt = (I_3995 o 45).toInt := by rw [kp_4029 45 rfl]
                        have t_4038 : (I_4025 o 47).toInt = (I_3995 o 47).toInt := by rw [kp_4029 47 rfl]
                        have t_4039 : (I_4025 o 48).toInt = (I_3995 o 48).toInt := by rw [kp_4029 48 rfl]
                        have t_4040 : (I_4025 o 46).toInt = (I_3995 o 46).toInt := by rw [kp_4029 46 rfl]
                        have k_4041 : MTd I_4025 o := k_4010.fr (fr_4028 _ (by first | omega | (dsimp only; omega))) (fr_4028 _ (by first | omega | (dsimp only; omega))) (fr_4028 _ (by first | omega | (dsimp only; omega)))
                        have ms := u_4019 (by omega)
                        have k_4042 : EX 0 0 0 f0 1 I_4025 o := by exact EX.nx k_4014 (fr_4028 _ (by first | omega | (dsimp only; omega))) (fr_4028 _ (by first | omega | (dsimp only; omega))) (fr_4028 _ (by first | omega | (dsimp only; omega))) (fr_4028 _ (by first | omega | (dsimp only; omega))) (fr_4028 _ (by first | omega | (dsimp only; omega))) (kp_4029 3 rfl) (kp_4029 44 rfl) (kp_4029 45 rfl) (kp_4029 47 rfl) (kp_4029 48 rfl) (by omega) (by omega)
                        exact (hp _ _ _ hR_4027 hf_4030 (Or.inr rfl) (by first | omega | (intro h; omega) | exact Or.inl rfl | exact Or.inr rfl) (by first | omega | (intro h; omega) | exact Or.inl rfl | exact Or.inr rfl) (by first | omega | (intro h; omega) | exact Or.inl rfl | exact Or.inr rfl) (by first | omega | (intro h; omega) | exact Or.inl rfl | exact Or.inr rfl) (by first | omega | (intro h; omega) | exact Or.inl rfl | exact Or.inr rfl) (by clear hg; first | (intro h; exfalso; omega) | exact fun _ => k_4042 | exact fun _ => (False.elim (by omega))) k_4041 u_4022 u_4023 hg.symm)
                      · have d_4043 := iEq c_3964
                        have i_4044 := u_3961 (by omega)
                        replace hg := gt_pos (by first | exact d_4043 | omega) hg
                        exact (hp _ _ _ hR_3939 hf_3942 (Or.inr rfl) (by first | omega | (intro h; omega) | exact Or.inl rfl | exact Or.inr rfl) (by first | omega | (intro h; omega) | exact Or.inl rfl | exact Or.inr rfl) (by first | omega | (intro h; omega) | exact Or.inl rfl | exact Or.inr rfl) (by first | omega | (intro h; omega) | exact Or.inl rfl | exact Or.inr rfl) (by first | omega | (intro h; omega) | exact Or.inl rfl | exact Or.inr rfl) (by clear hg; first | (intro h; exfalso; omega) | exact fun _ => k_3954 | exact fun _ => (False.elim (by omega))) k_3955 k_3956 k_3957 hg.symm)
                · have d_4045 := iEq c_3742
                  have i_4046 := u_3739 (by omega)
                  replace hg := gt_pos (by first | exact d_4045 | omega) hg
                  exact (hp _ _ _ hR_2822 hf_2825 (Or.inr rfl) (by first | omega | (intro h; omega) | exact Or.inl rfl | exact Or.inr rfl) (by first | omega | (intro h; omega) | exact Or.inl rfl | exact Or.inr rfl) (by first | omega | (intro h; omega) | exact Or.inl rfl | exact Or.inr rfl) (by first | omega | (intro h; omega) | exact Or.inl rfl | exact Or.inr rfl) (by first | omega | (intro h; omega) | exact Or.inl rfl | exact Or.inr rfl) (by clear hg; first | (intro h; exfalso; omega) | exact fun _ => k_2836 | exact fun _ => (False.elim (by omega))) k_2837 k_2838 k_2839 hg.symm)
              · have d_4047 := iEq c_3734
                replace hg := gt_pos (by first | exact d_4047 | omega) hg
                unfold fModel_unit_140
                replace hg := (eModel_unit_140).symm.trans hg
                refine y_Model_wrongg hok hw ra hz14 hz15 hR_2822 (fun I_4052 L_4053 hR_4054 fr_4055 kp_4056 u_4049 u_4050 gn_4051 => ⟨I_4052, L_4053, rfl, rfl, ?_⟩)
                replace hg := gt_b3 gn_4051 hg
                clear gn_4051
                have hf_4057 : Fm (fun c => c = o ∨ (o + 30 ≤ c ∧ c < o + 34)) I0 I_4052 := hf_2825.call fr_4055 (fun c hc => by first | exact hc | (dsimp only at hc ⊢; omega) | omega)
                have t_4058 : (I_4052 o 3).toInt = (I_2820 o 3).toInt := by rw [kp_4056 3 rfl]
                have g_4059 : (0 : Int) ≤ (I_4052 o 4).toInt ∧ (I_4052 o 4).toInt ≤ 5 := hR_4054.at0 ra 4 (by decide)
                have t_4060 : (I_4052 o 6).toInt = (I_2820 o 6).toInt := by rw [kp_4056 6 rfl]
                have t_4061 : (I_4052 o 7).toInt = (I_2820 o 7).toInt := by rw [kp_4056 7 rfl]
                have t_4062 : (I_4052 o 8).toInt = (I_2820 o 8).toInt := by rw [kp_4056 8 rfl]
                have t_4063 : (I_4052 o 9).toInt = (I_2820 o 9).toInt := by rw [kp_4056 9 rfl]
                have t_4064 : (I_4052 o 44).toInt = (I_2820 o 44).toInt := by rw [kp_4056 44 rfl]
                have t_4065 : (I_4052 o 45).toInt = (I_2820 o 45).toInt := by rw [kp_4056 45 rfl]
                have t_4066 : (I_4052 o 47).toInt = (I_2820 o 47).toInt := by rw [kp_4056 47 rfl]
                have t_4067 : (I_4052 o 48).toInt = (I_2820 o 48).toInt := by rw [kp_4056 48 rfl]
                have t_4068 : (I_4052 o 46).toInt = (I_2820 o 46).toInt := by rw [kp_4056 46 rfl]
                have k_4069 : EX 0 0 0 f0 1 I_4052 o := k_2836.fr (fr_4055 _ (by first | omega | (dsimp only; omega))) (fr_4055 _ (by first | omega | (dsimp only; omega))) (fr_4055 _ (by first | omega | (dsimp only; omega))) (fr_4055 _ (by first | omega | (dsimp only; omega))) (fr_4055 _ (by first | omega | (dsimp only; omega))) (kp_4056 3 rfl) (kp_4056 6 rfl) (kp_4056 44 rfl) (kp_4056 45 rfl) (kp_4056 47 rfl) (kp_4056 48 rfl)
                have k_4070 : MTd I_4052 o := k_2837.fr (fr_4055 _ (by first | omega | (dsimp only; omega))) (fr_4055 _ (by first | omega | (dsimp only; omega))) (fr_4055 _ (by first | omega | (dsimp only; omega)))
                have k_4071 : MPo I_4052 o := k_2838.fr (kp_4056 8 rfl) (kp_4056 9 rfl)
                have k_4072 : MTk I_4052 o := k_2839.fr (kp_4056 6 rfl) (kp_4056 7 rfl) (kp_4056 8 rfl)
                refine y_Model_isGoodg hok hw ra hR_4054 (fun r_4073 u_4074 u_4075 u_4076 gn_4077 => ⟨r_4073, I_4052, L_4053, rfl, rfl, ?_⟩)
                replace hg := gt_let gn_4077 hg
                clear gn_4077
                have b_4078 : 0 ≤ r_4073.toInt ∧ r_4073.toInt ≤ 1 := u_4074.rg
                refine ⟨fun c_4079 => ?_, fun c_4079 => ?_⟩
                · have d_4080 := iNe c_4079
                  have i_4081 := u_4075 (by omega)
                  replace hg := gt_neg (by first | exact d_4080 | omega) hg
                  have g_4082 : (0 : Int) ≤ (I_4052 o 46).toInt ∧ (I_4052 o 46).toInt ≤ 100 := hR_4054.at0 ra 46 (by decide)
                  replace hg := gt_let (y := (I_4052 o 46).toInt) rfl hg
                  have a_4083 : ((I_4052 o 46) + 1).toInt = (I_4052 o 46).toInt + (1 : Int32).toInt := tAdd (by omega) (by omega)
                  replace hg := gt_let (y := (((I_4052 o 46) + 1) : Int32).toInt) (by omega) hg
                  refine fun I_4084 e_4085 => ?_
                  replace hg := gt_let (y := tI I_4084) (tI_q e_4085) hg
                  have hR_4086 : RI R I_4084 := hR_4054.up0 (k := 46) ra (by decide) (Or.inr hz56) e_4085 (show (0 : Int) ≤ ((I_4052 o 46) + 1).toInt by omega) (show ((I_4052 o 46) + 1).toInt ≤ (100 : Int) by omega)
                  have hf_4087 : Fm (fun c => c = o ∨ (o + 30 ≤ c ∧ c < o + 34)) I0 I_4084 := hf_4057.set (by first | rfl | omega | (dsimp only; omega)) e_4085
                  have t_4088 : (I_4084 o 3).toInt = (I_4052 o 3).toInt := by rw [← e_4085, q_u_k (by decide)]
                  have t_4089 : (I_4084 o 4).toInt = (I_4052 o 4).toInt := by rw [← e_4085, q_u_k (by decide)]
                  have t_4090 : (I_4084 o 6).toInt = (I_4052 o 6).toInt := by rw [← e_4085, q_u_k (by decide)]
                  have t_4091 : (I_4084 o 7).toInt = (I_4052 o 7).toInt := by rw [← e_4085, q_u_k (by decide)]
                  have t_4092 : (I_4084 o 8).toInt = (I_4052 o 8).toInt := by rw [← e_4085, q_u_k (by decide)]
                  have t_4093 : (I_4084 o 9).toInt = (I_4052 o 9).toInt := by rw [← e_4085, q_u_k (by decide)]
                  have t_4094 : (I_4084 o 44).toInt = (I_4052 o 44).toInt := by rw [← e_4085, q_u_k (by decide)]
                  have t_4095 : (I_4084 o 45).toInt = (I_4052 o 45).toInt := by rw [← e_4085, q_u_k (by decide)]
                  have t_4096 : (I_4084 o 47).toInt = (I_4052 o 47).toInt := by rw [← e_4085, q_u_k (by decide)]
                  have t_4097 : (I_4084 o 48).toInt = (I_4052 o 48).toInt := by rw [← e_4085, q_u_k (by decide)]
                  have t_4098 : (I_4084 o 46).toInt = ((I_4052 o 46) + 1).toInt := by rw [← e_4085, q_u_at]
                  have k_4099 : EX 0 0 0 f0 1 I_4084 o := k_4069.fr (by rw [← e_4085]; exact q_u_ne (by omega)) (by rw [← e_4085]; exact q_u_ne (by omega)) (by rw [← e_4085]; exact q_u_ne (by omega)) (by rw [← e_4085]; exact q_u_ne (by omega)) (by rw [← e_4085]; exact q_u_ne (by omega)) (by rw [← e_4085, q_u_k (by decide)]) (by rw [← e_4085, q_u_k (by decide)]) (by rw [← e_4085, q_u_k (by decide)]) (by rw [← e_4085, q_u_k (by decide)]) (by rw [← e_4085, q_u_k (by decide)]) (by rw [← e_4085, q_u_k (by decide)])
                  have k_4100 : MTd I_4084 o := k_4070.fr (by rw [← e_4085]; exact q_u_ne (by omega)) (by rw [← e_4085]; exact q_u_ne (by omega)) (by rw [← e_4085]; exact q_u_ne (by omega))
                  have k_4101 : MPo I_4084 o := k_4071.fr (by rw [← e_4085, q_u_k (by decide)]) (by rw [← e_4085, q_u_k (by decide)])
                  have k_4102 : MTk I_4084 o := k_4072.fr (by rw [← e_4085, q_u_k (by decide)]) (by rw [← e_4085, q_u_k (by decide)]) (by rw [← e_4085, q_u_k (by decide)])
                  have l_4103 : (40 : Int32).toInt = 40 := rfl
                  refine y_Model_isg hok hw ra hR_4086 (fun r_4104 u_4105 u_4106 u_4107 gn_4108 => ⟨r_4104, I_4084, L_4053, rfl, rfl, ?_⟩)
                  replace hg := gt_let gn_4108 hg
                  clear gn_4108
                  have b_4109 : 0 ≤ r_4104.toInt ∧ r_4104.toInt ≤ 1 := u_4105.rg
                  refine ⟨fun c_4110 => ?_, fun c_4110 => ?_⟩
                  · have d_4111 := iEq c_4110
                    replace hg := gt_pos (by first | exact d_4111 | omega) hg
                    have cd := k_4099.cod
                    have tk := k_4102.2 (by omega)
                    refine ⟨fun c_4112 => ?_, fun c_4112 => ?_⟩
                    · have d_4113 := iNe c_4112
                      have i_4114 := u_2816 (by omega)
                      have i_4115 := u_2817 (by omega)
                      exfalso; omega
                    · have d_4116 := iEq c_4112
                      replace hg := gt_pos (by first | exact d_4116 | omega) hg
                      unfold fModel_unit_228
                      replace hg := (eModel_unit_228).symm.trans hg
                      have l_4117 : (78 : Int32).toInt = 78 := rfl
                      refine ⟨fun c_4118 => ?_, fun c_4118 => ?_⟩
                      · have d_4119 := iNe c_4118
                        have i_4120 := u_2816 (by omega)
                        have i_4121 := u_2817 (by omega)
                        exfalso; omega
                      · have d_4122 := iEq c_4118
                        replace hg := gt_pos (by first | exact d_4122 | omega) hg
                        replace hg := gt_let (y := (I_4084 o 9).toInt) rfl hg
                        refine y_Model_stepg hok hw ra hz55 (by first | omega | (intro h; omega) | exact Or.inl rfl | exact Or.inr rfl) (by first | omega | (intro h; omega) | exact Or.inl rfl | exact Or.inr rfl) hR_4086 (fun I_4127 L_4128 hR_4129 fr_4130 kp_4131 u_4124 u_4125 gn_4126 => ⟨I_4127, L_4128, rfl, rfl, ?_⟩)
                        replace hg := gt_b3 gn_4126 hg
                        clear gn_4126
                        have hf_4132 : Fm (fun c => c = o ∨ (o + 30 ≤ c ∧ c < o + 34)) I0 I_4127 := hf_4087.call fr_4130 (fun c hc => by first | exact hc | (dsimp only at hc ⊢; omega) | omega)
                        have t_4133 : (I_4127 o 3).toInt = (I_4084 o 3).toInt := by rw [kp_4131 3 rfl]
                        have t_4134 : (I_4127 o 4).toInt = (I_4084 o 4).toInt := by rw [kp_4131 4 rfl]
                        have t_4135 : (I_4127 o 6).toInt = (I_4084 o 6).toInt := by rw [kp_4131 6 rfl]
                        have t_4136 : (I_4127 o 7).toInt = (I_4084 o 7).toInt := by rw [kp_4131 7 rfl]
                        have t_4137 : (I_4127 o 8).toInt = (I_4084 o 8).toInt := by rw [kp_4131 8 rfl]
                        have t_4138 : (I_4127 o 9).toInt = (I_4084 o 9).toInt := by rw [kp_4131 9 rfl]
                        have t_4139 : (I_4127 o 44).toInt = (I_4084 o 44).toInt := by rw [kp_4131 44 rfl]
                        have g_4140 : (0 : Int) ≤ (I_4127 o 45).toInt ∧ (I_4127 o 45).toInt ≤ 700 := hR_4129.at0 ra 45 (by decide)
                        have t_4141 : (I_4127 o 47).toInt = (I_4084 o 47).toInt := by rw [kp_4131 47 rfl]
                        have t_4142 : (I_4127 o 48).toInt = (I_4084 o 48).toInt := by rw [kp_4131 48 rfl]
                        have t_4143 : (I_4127 o 46).toInt = (I_4084 o 46).toInt := by rw [kp_4131 46 rfl]
                        have k_4144 : MPo I_4127 o := k_4101.fr (kp_4131 8 rfl) (kp_4131 9 rfl)
                        have k_4145 : MTk I_4127 o := k_4102.fr (kp_4131 6 rfl) (kp_4131 7 rfl) (kp_4131 8 rfl)
                        have tk := k_4145.2 (by omega)
                        have k_4146 : EX 0 0 1 f0 0 I_4127 o := by exact EX.step1 k_4099 (by first | exact u_2816 (by omega) | (unfold isT; decide)) (by omega) (fr_4130 _ (by first | omega | (dsimp only; omega))) (fr_4130 _ (by first | omega | (dsimp only; omega))) u_4124 (fr_4130 _ (by first | omega | (dsimp only; omega))) (fr_4130 _ (by first | omega | (dsimp only; omega))) (kp_4131 3 rfl) (kp_4131 6 rfl) (kp_4131 44 rfl) u_4125 (kp_4131 47 rfl) (kp_4131 48 rfl)
                        have k_4147 : MTd I_4127 o := by exact MTd.step k_4100 (fr_4130 _ (by first | omega | (dsimp only; omega))) (fr_4130 _ (by first | omega | (dsimp only; omega))) u_4124 (by omega)
                        refine y_Model_nextg hok hw ra hz16 hz17 hz18 hz19 (by first | omega | (intro h; omega) | exact Or.inl rfl | exact Or.inr rfl) hR_4129 (fun I_4158 L_4159 hR_4160 fr_4161 kp_4162 u_4149 u_4150 u_4151 u_4152 u_4153 u_4154 u_4155 u_4156 gn_4157 => ⟨I_4158, L_4159, rfl, rfl, ?_⟩)
                        replace hg := gt_b3 gn_4157 hg
                        clear gn_4157
                        have hf_4163 : Fm (fun c => c = o ∨ (o + 30 ≤ c ∧ c < o + 34)) I0 I_4158 := hf_4132.call fr_4161 (fun c hc => by first | exact hc | (dsimp only at hc ⊢; omega) | omega)
                        have t_4164 : (I_4158 o 3).toInt = (I_4127 o 3).toInt := by rw [kp_4162 3 rfl]
                        have t_4165 : (I_4158 o 4).toInt = (I_4127 o 4).toInt := by rw [kp_4162 4 rfl]
                        have g_4166 : (0 : Int) ≤ (I_4158 o 6).toInt ∧ (I_4158 o 6).toInt ≤ 1600 := hR_4160.at0 ra 6 (by decide)
                        have g_4167 : (0 : Int) ≤ (I_4158 o 7).toInt ∧ (I_4158 o 7).toInt ≤ 1601 := hR_4160.at0 ra 7 (by decide)
                        have g_4168 : (0 : Int) ≤ (I_4158 o 8).toInt ∧ (I_4158 o 8).toInt ≤ 6 := hR_4160.at0 ra 8 (by decide)
                        have t_4169 : (I_4158 o 44).toInt = (I_4127 o 44).toInt := by rw [kp_4162 44 rfl]
                        have t_4170 : (I_4158 o 45).toInt = (I_4127 o 45).toInt := by rw [kp_4162 45 rfl]
                        have t_4171 : (I_4158 o 47).toInt = (I_4127 o 47).toInt := by rw [kp_4162 47 rfl]
                        have t_4172 : (I_4158 o 48).toInt = (I_4127 o 48).toInt := by rw [kp_4162 48 rfl]
                        have t_4173 : (I_4158 o 46).toInt = (I_4127 o 46).toInt := by rw [kp_4162 46 rfl]
                        have k_4174 : MTd I_4158 o := k_4147.fr (fr_4161 _ (by first | omega | (dsimp only; omega))) (fr_4161 _ (by first | omega | (dsimp only; omega))) (fr_4161 _ (by first | omega | (dsimp only; omega)))
                        have ms := u_4152 (by omega)
                        have k_4175 : EX 0 0 0 f0 0 I_4158 o := by exact EX.nx k_4146 (fr_4161 _ (by first | omega | (dsimp only; omega))) (fr_4161 _ (by first | omega | (dsimp only; omega))) (fr_4161 _ (by first | omega | (dsimp only; omega))) (fr_4161 _ (by first | omega | (dsimp only; omega))) (fr_4161 _ (by first | omega | (dsimp only; omega))) (kp_4162 3 rfl) (kp_4162 44 rfl) (kp_4162 45 rfl) (kp_4162 47 rfl) (kp_4162 48 rfl) (by omega) (by omega)
                        exact (hp _ _ _ hR_4160 hf_4163 (Or.inl rfl) (by first | omega | (intro h; omega) | exact Or.inl rfl | exact Or.inr rfl) (by first | omega | (intro h; omega) | exact Or.inl rfl | exact Or.inr rfl) (by first | omega | (intro h; omega) | exact Or.inl rfl | exact Or.inr rfl) (by first | omega | (intro h; omega) | exact Or.inl rfl | exact Or.inr rfl) (by first | omega | (intro h; omega) | exact Or.inl rfl | exact Or.inr rfl) (by clear hg; first | (intro h; exfalso; omega) | exact fun _ => (False.elim (by omega)) | exact fun _ => k_4175) k_4174 u_4155 u_4156 hg.symm)
                  · have d_4176 := iNe c_4110
                    have i_4177 := u_4106 (by omega)
                    have i_4178 := u_4107 (by omega)
                    replace hg := gt_neg (by first | exact d_4176 | omega) hg
                    have g_4179 : (0 : Int) ≤ (I_4084 o 47).toInt ∧ (I_4084 o 47).toInt ≤ 7 := hR_4086.at0 ra 47 (by decide)
                    replace hg := gt_let (y := (I_4084 o 47).toInt) rfl hg
                    refine ⟨fun c_4180 => ?_, fun c_4180 => ?_⟩
                    · have d_4181 := iNe c_4180
                      replace hg := gt_neg (by first | exact d_4181 | omega) hg
                      refine y_Model_isGoodg hok hw ra hR_4086 (fun r_4182 u_4183 u_4184 u_4185 gn_4186 => ⟨r_4182, I_4084, L_4053, rfl, rfl, ?_⟩)
                      replace hg := gt_let gn_4186 hg
                      clear gn_4186
                      have b_4187 : 0 ≤ r_4182.toInt ∧ r_4182.toInt ≤ 1 := u_4183.rg
                      refine ⟨fun c_4188 => ?_, fun c_4188 => ?_⟩
                      · have d_4189 := iNe c_4188
                        have i_4190 := u_4184 (by omega)
                        replace hg := gt_neg (by first | exact d_4189 | omega) hg
                        refine y_Model_pileg hok hw ra hz58 (by first | omega | (intro h; omega) | exact Or.inl rfl | exact Or.inr rfl) (by first | omega | (intro h; omega) | exact Or.inl rfl | exact Or.inr rfl) hR_4086 (fun I_4196 L_4197 hR_4198 fr_4199 kp_4200 u_4192 u_4193 u_4194 gn_4195 => ⟨I_4196, L_4197, rfl, rfl, ?_⟩)
                        replace hg := gt_b3 gn_4195 hg
                        clear gn_4195
                        have hf_4201 : Fm (fun c => c = o ∨ (o + 30 ≤ c ∧ c < o + 34)) I0 I_4196 := hf_4087.call fr_4199 (fun c hc => by first | exact hc | (dsimp only at hc ⊢; omega) | omega)
                        have t_4202 : (I_4196 o 3).toInt = (I_4084 o 3).toInt := by rw [kp_4200 3 rfl]
                        have t_4203 : (I_4196 o 4).toInt = (I_4084 o 4).toInt := by rw [kp_4200 4 rfl]
                        have t_4204 : (I_4196 o 6).toInt = (I_4084 o 6).toInt := by rw [kp_4200 6 rfl]
                        have t_4205 : (I_4196 o 7).toInt = (I_4084 o 7).toInt := by rw [kp_4200 7 rfl]
                        have t_4206 : (I_4196 o 8).toInt = (I_4084 o 8).toInt := by rw [kp_4200 8 rfl]
                        have t_4207 : (I_4196 o 9).toInt = (I_4084 o 9).toInt := by rw [kp_4200 9 rfl]
                        have t_4208 : (I_4196 o 44).toInt = (I_4084 o 44).toInt := by rw [kp_4200 44 rfl]
                        have t_4209 : (I_4196 o 45).toInt = (I_4084 o 45).toInt := by rw [kp_4200 45 rfl]
                        have t_4210 : (I_4196 o 47).toInt = (I_4084 o 47).toInt := by rw [kp_4200 47 rfl]
                        have g_4211 : (0 : Int) ≤ (I_4196 o 48).toInt ∧ (I_4196 o 48).toInt ≤ 80 := hR_4198.at0 ra 48 (by decide)
                        have t_4212 : (I_4196 o 46).toInt = (I_4084 o 46).toInt := by rw [kp_4200 46 rfl]
                        have k_4213 : MTd I_4196 o := k_4100.fr (fr_4199 _ (by first | omega | (dsimp only; omega))) (fr_4199 _ (by first | omega | (dsimp only; omega))) (fr_4199 _ (by first | omega | (dsimp only; omega)))
                        have k_4214 : MPo I_4196 o := k_4101.fr (kp_4200 8 rfl) (kp_4200 9 rfl)
                        have k_4215 : MTk I_4196 o := k_4102.fr (kp_4200 6 rfl) (kp_4200 7 rfl) (kp_4200 8 rfl)
                        have k_4216 : EX 0 1 1 f0 1 I_4196 o := by have z := EX.push k_4099 (v := 7) (s := 0) (dB := 1) (dO := 0) (wt' := 1) (by decide) (by decide) (by decide) (by omega) ⟨by decide, by decide⟩ ⟨fun h => absurd h (by decide), fun h => absurd h (by decide)⟩ (Or.inl rfl) (fr_4199 _ (by first | omega | (dsimp only; omega))) (fr_4199 _ (by first | omega | (dsimp only; omega))) (fr_4199 _ (by first | omega | (dsimp only; omega))) u_4192 u_4193 (kp_4200 3 rfl) (kp_4200 6 rfl) (kp_4200 44 rfl) (kp_4200 45 rfl) (kp_4200 47 rfl) u_4194; exact EX.chg (b' := 1) z rfl rfl rfl rfl rfl rfl rfl rfl rfl rfl (by omega) z.pl
                        have g_4217 : (0 : Int) ≤ (I_4196 o 47).toInt ∧ (I_4196 o 47).toInt ≤ 7 := hR_4198.at0 ra 47 (by decide)
                        replace hg := gt_let (y := (I_4196 o 47).toInt) rfl hg
                        have a_4218 : ((I_4196 o 47) + 1).toInt = (I_4196 o 47).toInt + (1 : Int32).toInt := tAdd (by omega) (by omega)
                        replace hg := gt_let (y := (((I_4196 o 47) + 1) : Int32).toInt) (by omega) hg
                        refine fun I_4219 e_4220 => ?_
                        replace hg := gt_let (y := tI I_4219) (tI_q e_4220) hg
                        have hR_4221 : RI R I_4219 := hR_4198.up0 (k := 47) ra (by decide) (Or.inr hz57) e_4220 (show (0 : Int) ≤ ((I_4196 o 47) + 1).toInt by omega) (show ((I_4196 o 47) + 1).toInt ≤ (7 : Int) by omega)
                        have hf_4222 : Fm (fun c => c = o ∨ (o + 30 ≤ c ∧ c < o + 34)) I0 I_4219 := hf_4201.set (by first | rfl | omega | (dsimp only; omega)) e_4220
                        have t_4223 : (I_4219 o 3).toInt = (I_4196 o 3).toInt := by rw [← e_4220, q_u_k (by decide)]
                        have t_4224 : (I_4219 o 4).toInt = (I_4196 o 4).toInt := by rw [← e_4220, q_u_k (by decide)]
                        have t_4225 : (I_4219 o 6).toInt = (I_4196 o 6).toInt := by rw [← e_4220, q_u_k (by decide)]
                        have t_4226 : (I_4219 o 7).toInt = (I_4196 o 7).toInt := by rw [← e_4220, q_u_k (by decide)]
                        have t_4227 : (I_4219 o 8).toInt = (I_4196 o 8).toInt := by rw [← e_4220, q_u_k (by decide)]
                        have t_4228 : (I_4219 o 9).toInt = (I_4196 o 9).toInt := by rw [← e_4220, q_u_k (by decide)]
                        have t_4229 : (I_4219 o 44).toInt = (I_4196 o 44).toInt := by rw [← e_4220, q_u_k (by decide)]
                        have t_4230 : (I_4219 o 45).toInt = (I_4196 o 45).toInt := by rw [← e_4220, q_u_k (by decide)]
                        have t_4231 : (I_4219 o 47).toInt = ((I_4196 o 47) + 1).toInt := by rw [← e_4220, q_u_at]
                        have t_4232 : (I_4219 o 48).toInt = (I_4196 o 48).toInt := by rw [← e_4220, q_u_k (by decide)]
                        have t_4233 : (I_4219 o 46).toInt = (I_4196 o 46).toInt := by rw [← e_4220, q_u_k (by decide)]
                        have k_4234 : MTd I_4219 o := k_4213.fr (by rw [← e_4220]; exact q_u_ne (by omega)) (by rw [← e_4220]; exact q_u_ne (by omega)) (by rw [← e_4220]; exact q_u_ne (by omega))
                        have k_4235 : MPo I_4219 o := k_4214.fr (by rw [← e_4220, q_u_k (by decide)]) (by rw [← e_4220, q_u_k (by decide)])
                        have k_4236 : MTk I_4219 o := k_4215.fr (by rw [← e_4220, q_u_k (by decide)]) (by rw [← e_4220, q_u_k (by decide)]) (by rw [← e_4220, q_u_k (by decide)])
                        have tk := k_4236.2 (by omega)
                        have k_4238 : EX 0 0 1 f0 1 I_4219 o := by exact EX.put47 k_4216 e_4220 (by omega)
                        refine y_Model_nextg hok hw ra hz16 hz17 hz18 hz19 (by first | omega | (intro h; omega) | exact Or.inl rfl | exact Or.inr rfl) hR_4221 (fun I_4249 L_4250 hR_4251 fr_4252 kp_4253 u_4240 u_4241 u_4242 u_4243 u_4244 u_4245 u_4246 u_4247 gn_4248 => ⟨I_4249, L_4250, rfl, rfl, ?_⟩)
                        replace hg := gt_b3 gn_4248 hg
                        clear gn_4248
                        have hf_4254 : Fm (fun c => c = o ∨ (o + 30 ≤ c ∧ c < o + 34)) I0 I_4249 := hf_4222.call fr_4252 (fun c hc => by first | exact hc | (dsimp only at hc ⊢; omega) | omega)
                        have t_4255 : (I_4249 o 3).toInt = (I_4219 o 3).toInt := by rw [kp_4253 3 rfl]
                        have t_4256 : (I_4249 o 4).toInt = (I_4219 o 4).toInt := by rw [kp_4253 4 rfl]
                        have g_4257 : (0 : Int) ≤ (I_4249 o 6).toInt ∧ (I_4249 o 6).toInt ≤ 1600 := hR_4251.at0 ra 6 (by decide)
                        have g_4258 : (0 : Int) ≤ (I_4249 o 7).toInt ∧ (I_4249 o 7).toInt ≤ 1601 := hR_4251.at0 ra 7 (by decide)
                        have g_4259 : (0 : Int) ≤ (I_4249 o 8).toInt ∧ (I_4249 o 8).toInt ≤ 6 := hR_4251.at0 ra 8 (by decide)
                        have t_4260 : (I_4249 o 44).toInt = (I_4219 o 44).toInt := by rw [kp_4253 44 rfl]
                        have t_4261 : (I_4249 o 45).toInt = (I_4219 o 45).toInt := by rw [kp_4253 45 rfl]
                        have t_4262 : (I_4249 o 47).toInt = (I_4219 o 47).toInt := by rw [kp_4253 47 rfl]
                        have t_4263 : (I_4249 o 48).toInt = (I_4219 o 48).toInt := by rw [kp_4253 48 rfl]
                        have t_4264 : (I_4249 o 46).toInt = (I_4219 o 46).toInt := by rw [kp_4253 46 rfl]
                        have k_4265 : MTd I_4249 o := k_4234.fr (fr_4252 _ (by first | omega | (dsimp only; omega))) (fr_4252 _ (by first | omega | (dsimp only; omega))) (fr_4252 _ (by first | omega | (dsimp only; omega)))
                        have ms := u_4243 (by omega)
                        have k_4266 : EX 0 0 0 f0 1 I_4249 o := by exact EX.nx k_4238 (fr_4252 _ (by first | omega | (dsimp only; omega))) (fr_4252 _ (by first | omega | (dsimp only; omega))) (fr_4252 _ (by first | omega | (dsimp only; omega))) (fr_4252 _ (by first | omega | (dsimp only; omega))) (fr_4252 _ (by first | omega | (dsimp only; omega))) (kp_4253 3 rfl) (kp_4253 44 rfl) (kp_4253 45 rfl) (kp_4253 47 rfl) (kp_4253 48 rfl) (by omega) (by omega)
                        exact (hp _ _ _ hR_4251 hf_4254 (Or.inr rfl) (by first | omega | (intro h; omega) | exact Or.inl rfl | exact Or.inr rfl) (by first | omega | (intro h; omega) | exact Or.inl rfl | exact Or.inr rfl) (by first | omega | (intro h; omega) | exact Or.inl rfl | exact Or.inr rfl) (by first | omega | (intro h; omega) | exact Or.inl rfl | exact Or.inr rfl) (by first | omega | (intro h; omega) | exact Or.inl rfl | exact Or.inr rfl) (by clear hg; first | (intro h; exfalso; omega) | exact fun _ => k_4266 | exact fun _ => (False.elim (by omega))) k_4265 u_4246 u_4247 hg.symm)
                      · have d_4267 := iEq c_4188
                        have i_4268 := u_4185 (by omega)
                        replace hg := gt_pos (by first | exact d_4267 | omega) hg
                        exact (hp _ _ _ hR_4086 hf_4087 (Or.inr rfl) (by first | omega | (intro h; omega) | exact Or.inl rfl | exact Or.inr rfl) (by first | omega | (intro h; omega) | exact Or.inl rfl | exact Or.inr rfl) (by first | omega | (intro h; omega) | exact Or.inl rfl | exact Or.inr rfl) (by first | omega | (intro h; omega) | exact Or.inl rfl | exact Or.inr rfl) (by first | omega | (intro h; omega) | exact Or.inl rfl | exact Or.inr rfl) (by clear hg; first | (intro h; exfalso; omega) | exact fun _ => k_4099 | exact fun _ => (False.elim (by omega))) k_4100 k_4101 k_4102 hg.symm)
                    · have d_4269 := iEq c_4180
                      replace hg := gt_pos (by first | exact d_4269 | omega) hg
                      refine y_Model_wrongg hok hw ra hz14 hz15 hR_4086 (fun I_4274 L_4275 hR_4276 fr_4277 kp_4278 u_4271 u_4272 gn_4273 => ⟨I_4274, L_4275, rfl, rfl, ?_⟩)
                      replace hg := gt_b3 gn_4273 hg
                      clear gn_4273
                      have hf_4279 : Fm (fun c => c = o ∨ (o + 30 ≤ c ∧ c < o + 34)) I0 I_4274 := hf_4087.call fr_4277 (fun c hc => by first | exact hc | (dsimp only at hc ⊢; omega) | omega)
                      have t_4280 : (I_4274 o 3).toInt = (I_4084 o 3).toInt := by rw [kp_4278 3 rfl]
                      have g_4281 : (0 : Int) ≤ (I_4274 o 4).toInt ∧ (I_4274 o 4).toInt ≤ 5 := hR_4276.at0 ra 4 (by decide)
                      have t_4282 : (I_4274 o 6).toInt = (I_4084 o 6).toInt := by rw [kp_4278 6 rfl]
                      have t_4283 : (I_4274 o 7).toInt = (I_4084 o 7).toInt := by rw [kp_4278 7 rfl]
                      have t_4284 : (I_4274 o 8).toInt = (I_4084 o 8).toInt := by rw [kp_4278 8 rfl]
                      have t_4285 : (I_4274 o 9).toInt = (I_4084 o 9).toInt := by rw [kp_4278 9 rfl]
                      have t_4286 : (I_4274 o 44).toInt = (I_4084 o 44).toInt := by rw [kp_4278 44 rfl]
                      have t_4287 : (I_4274 o 45).toInt = (I_4084 o 45).toInt := by rw [kp_4278 45 rfl]
                      have t_4288 : (I_4274 o 47).toInt = (I_4084 o 47).toInt := by rw [kp_4278 47 rfl]
                      have t_4289 : (I_4274 o 48).toInt = (I_4084 o 48).toInt := by rw [kp_4278 48 rfl]
                      have t_4290 : (I_4274 o 46).toInt = (I_4084 o 46).toInt := by rw [kp_4278 46 rfl]
                      have k_4291 : EX 0 0 0 f0 1 I_4274 o := k_4099.fr (fr_4277 _ (by first | omega | (dsimp only; omega))) (fr_4277 _ (by first | omega | (dsimp only; omega))) (fr_4277 _ (by first | omega | (dsimp only; omega))) (fr_4277 _ (by first | omega | (dsimp only; omega))) (fr_4277 _ (by first | omega | (dsimp only; omega))) (kp_4278 3 rfl) (kp_4278 6 rfl) (kp_4278 44 rfl) (kp_4278 45 rfl) (kp_4278 47 rfl) (kp_4278 48 rfl)
                      have k_4292 : MTd I_4274 o := k_4100.fr (fr_4277 _ (by first | omega | (dsimp only; omega))) (fr_4277 _ (by first | omega | (dsimp only; omega))) (fr_4277 _ (by first | omega | (dsimp only; omega)))
                      have k_4293 : MPo I_4274 o := k_4101.fr (kp_4278 8 rfl) (kp_4278 9 rfl)
                      have k_4294 : MTk I_4274 o := k_4102.fr (kp_4278 6 rfl) (kp_4278 7 rfl) (kp_4278 8 rfl)
                      refine y_Model_isGoodg hok hw ra hR_4276 (fun r_4295 u_4296 u_4297 u_4298 gn_4299 => ⟨r_4295, I_4274, L_4275, rfl, rfl, ?_⟩)
                      replace hg := gt_let gn_4299 hg
                      clear gn_4299
                      have b_4300 : 0 ≤ r_4295.toInt ∧ r_4295.toInt ≤ 1 := u_4296.rg
                      refine ⟨fun c_4301 => ?_, fun c_4301 => ?_⟩
                      · have d_4302 := iNe c_4301
                        have i_4303 := u_4297 (by omega)
                        replace hg := gt_neg (by first | exact d_4302 | omega) hg
                        refine y_Model_pileg hok hw ra hz58 (by first | omega | (intro h; omega) | exact Or.inl rfl | exact Or.inr rfl) (by first | omega | (intro h; omega) | exact Or.inl rfl | exact Or.inr rfl) hR_4276 (fun I_4309 L_4310 hR_4311 fr_4312 kp_4313 u_4305 u_4306 u_4307 gn_4308 => ⟨I_4309, L_4310, rfl, rfl, ?_⟩)
                        replace hg := gt_b3 gn_4308 hg
                        clear gn_4308
                        have hf_4314 : Fm (fun c => c = o ∨ (o + 30 ≤ c ∧ c < o + 34)) I0 I_4309 := hf_4279.call fr_4312 (fun c hc => by first | exact hc | (dsimp only at hc ⊢; omega) | omega)
                        have t_4315 : (I_4309 o 3).toInt = (I_4274 o 3).toInt := by rw [kp_4313 3 rfl]
                        have t_4316 : (I_4309 o 4).toInt = (I_4274 o 4).toInt := by rw [kp_4313 4 rfl]
                        have t_4317 : (I_4309 o 6).toInt = (I_4274 o 6).toInt := by rw [kp_4313 6 rfl]
                        have t_4318 : (I_4309 o 7).toInt = (I_4274 o 7).toInt := by rw [kp_4313 7 rfl]
                        have t_4319 : (I_4309 o 8).toInt = (I_4274 o 8).toInt := by rw [kp_4313 8 rfl]
                        have t_4320 : (I_4309 o 9).toInt = (I_4274 o 9).toInt := by rw [kp_4313 9 rfl]
                        have t_4321 : (I_4309 o 44).toInt = (I_4274 o 44).toInt := by rw [kp_4313 44 rfl]
                        have t_4322 : (I_4309 o 45).toInt = (I_4274 o 45).toInt := by rw [kp_4313 45 rfl]
                        have t_4323 : (I_4309 o 47).toInt = (I_4274 o 47).toInt := by rw [kp_4313 47 rfl]
                        have g_4324 : (0 : Int) ≤ (I_4309 o 48).toInt ∧ (I_4309 o 48).toInt ≤ 80 := hR_4311.at0 ra 48 (by decide)
                        have t_4325 : (I_4309 o 46).toInt = (I_4274 o 46).toInt := by rw [kp_4313 46 rfl]
                        have k_4326 : MTd I_4309 o := k_4292.fr (fr_4312 _ (by first | omega | (dsimp only; omega))) (fr_4312 _ (by first | omega | (dsimp only; omega))) (fr_4312 _ (by first | omega | (dsimp only; omega)))
                        have k_4327 : MPo I_4309 o := k_4293.fr (kp_4313 8 rfl) (kp_4313 9 rfl)
                        have k_4328 : MTk I_4309 o := k_4294.fr (kp_4313 6 rfl) (kp_4313 7 rfl) (kp_4313 8 rfl)
                        have k_4329 : EX 0 1 1 f0 1 I_4309 o := by have z := EX.push k_4291 (v := 7) (s := 0) (dB := 1) (dO := 0) (wt' := 1) (by decide) (by decide) (by decide) (by omega) ⟨by decide, by decide⟩ ⟨fun h => absurd h (by decide), fun h => absurd h (by decide)⟩ (Or.inl rfl) (fr_4312 _ (by first | omega | (dsimp only; omega))) (fr_4312 _ (by first | omega | (dsimp only; omega))) (fr_4312 _ (by first | omega | (dsimp only; omega))) u_4305 u_4306 (kp_4313 3 rfl) (kp_4313 6 rfl) (kp_4313 44 rfl) (kp_4313 45 rfl) (kp_4313 47 rfl) u_4307; exact EX.chg (b' := 1) z rfl rfl rfl rfl rfl rfl rfl rfl rfl rfl (by omega) z.pl
                        have g_4330 : (0 : Int) ≤ (I_4309 o 47).toInt ∧ (I_4309 o 47).toInt ≤ 7 := hR_4311.at0 ra 47 (by decide)
                        replace hg := gt_let (y := (I_4309 o 47).toInt) rfl hg
                        have a_4331 : ((I_4309 o 47) + 1).toInt = (I_4309 o 47).toInt + (1 : Int32).toInt := tAdd (by omega) (by omega)
                        replace hg := gt_let (y := (((I_4309 o 47) + 1) : Int32).toInt) (by omega) hg
                        refine fun I_4332 e_4333 => ?_
                        replace hg := gt_let (y := tI I_4332) (tI_q e_4333) hg
                        have hR_4334 : RI R I_4332 := hR_4311.up0 (k := 47) ra (by decide) (Or.inr hz57) e_4333 (show (0 : Int) ≤ ((I_4309 o 47) + 1).toInt by omega) (show ((I_4309 o 47) + 1).toInt ≤ (7 : Int) by omega)
                        have hf_4335 : Fm (fun c => c = o ∨ (o + 30 ≤ c ∧ c < o + 34)) I0 I_4332 := hf_4314.set (by first | rfl | omega | (dsimp only; omega)) e_4333
                        have t_4336 : (I_4332 o 3).toInt = (I_4309 o 3).toInt := by rw [← e_4333, q_u_k (by decide)]
                        have t_4337 : (I_4332 o 4).toInt = (I_4309 o 4).toInt := by rw [← e_4333, q_u_k (by decide)]
                        have t_4338 : (I_4332 o 6).toInt = (I_4309 o 6).toInt := by rw [← e_4333, q_u_k (by decide)]
                        have t_4339 : (I_4332 o 7).toInt = (I_4309 o 7).toInt := by rw [← e_4333, q_u_k (by decide)]
                        have t_4340 : (I_4332 o 8).toInt = (I_4309 o 8).toInt := by rw [← e_4333, q_u_k (by decide)]
                        have t_4341 : (I_4332 o 9).toInt = (I_4309 o 9).toInt := by rw [← e_4333, q_u_k (by decide)]
                        have t_4342 : (I_4332 o 44).toInt = (I_4309 o 44).toInt := by rw [← e_4333, q_u_k (by decide)]
                        have t_4343 : (I_4332 o 45).toInt = (I_4309 o 45).toInt := by rw [← e_4333, q_u_k (by decide)]
                        have t_4344 : (I_4332 o 47).toInt = ((I_4309 o 47) + 1).toInt := by rw [← e_4333, q_u_at]
                        have t_4345 : (I_4332 o 48).toInt = (I_4309 o 48).toInt := by rw [← e_4333, q_u_k (by decide)]
                        have t_4346 : (I_4332 o 46).toInt = (I_4309 o 46).toInt := by rw [← e_4333, q_u_k (by decide)]
                        have k_4347 : MTd I_4332 o := k_4326.fr (by rw [← e_4333]; exact q_u_ne (by omega)) (by rw [← e_4333]; exact q_u_ne (by omega)) (by rw [← e_4333]; exact q_u_ne (by omega))
                        have k_4348 : MPo I_4332 o := k_4327.fr (by rw [← e_4333, q_u_k (by decide)]) (by rw [← e_4333, q_u_k (by decide)])
                        have k_4349 : MTk I_4332 o := k_4328.fr (by rw [← e_4333, q_u_k (by decide)]) (by rw [← e_4333, q_u_k (by decide)]) (by rw [← e_4333, q_u_k (by decide)])
                        have tk := k_4349.2 (by omega)
                        have k_4351 : EX 0 0 1 f0 1 I_4332 o := by exact EX.put47 k_4329 e_4333 (by omega)
                        refine y_Model_nextg hok hw ra hz16 hz17 hz18 hz19 (by first | omega | (intro h; omega) | exact Or.inl rfl | exact Or.inr rfl) hR_4334 (fun I_4362 L_4363 hR_4364 fr_4365 kp_4366 u_4353 u_4354 u_4355 u_4356 u_4357 u_4358 u_4359 u_4360 gn_4361 => ⟨I_4362, L_4363, rfl, rfl, ?_⟩)
                        replace hg := gt_b3 gn_4361 hg
                        clear gn_4361
                        have hf_4367 : Fm (fun c => c = o ∨ (o + 30 ≤ c ∧ c < o + 34)) I0 I_4362 := hf_4335.call fr_4365 (fun c hc => by first | exact hc | (dsimp only at hc ⊢; omega) | omega)
                        have t_4368 : (I_4362 o 3).toInt = (I_4332 o 3).toInt := by rw [kp_4366 3 rfl]
                        have t_4369 : (I_4362 o 4).toInt = (I_4332 o 4).toInt := by rw [kp_4366 4 rfl]
                        have g_4370 : (0 : Int) ≤ (I_4362 o 6).toInt ∧ (I_4362 o 6).toInt ≤ 1600 := hR_4364.at0 ra 6 (by decide)
                        have g_4371 : (0 : Int) ≤ (I_4362 o 7).toInt ∧ (I_4362 o 7).toInt ≤ 1601 := hR_4364.at0 ra 7 (by decide)
                        have g_4372 : (0 : Int) ≤ (I_4362 o 8).toInt ∧ (I_4362 o 8).toInt ≤ 6 := hR_4364.at0 ra 8 (by decide)
                        have t_4373 : (I_4362 o 44).toInt = (I_4332 o 44).toInt := by rw [kp_4366 44 rfl]
                        have t_4374 : (I_4362 o 45).toInt = (I_4332 o 45).toInt := by rw [kp_4366 45 rfl]
                        have t_4375 : (I_4362 o 47).toInt = (I_4332 o 47).toInt := by rw [kp_4366 47 rfl]
                        have t_4376 : (I_4362 o 48).toInt = (I_4332 o 48).toInt := by rw [kp_4366 48 rfl]
                        have t_4377 : (I_4362 o 46).toInt = (I_4332 o 46).toInt := by rw [kp_4366 46 rfl]
                        have k_4378 : MTd I_4362 o := k_4347.fr (fr_4365 _ (by first | omega | (dsimp only; omega))) (fr_4365 _ (by first | omega | (dsimp only; omega))) (fr_4365 _ (by first | omega | (dsimp only; omega)))
                        have ms := u_4356 (by omega)
                        have k_4379 : EX 0 0 0 f0 1 I_4362 o := by exact EX.nx k_4351 (fr_4365 _ (by first | omega | (dsimp only; omega))) (fr_4365 _ (by first | omega | (dsimp only; omega))) (fr_4365 _ (by first | omega | (dsimp only; omega))) (fr_4365 _ (by first | omega | (dsimp only; omega))) (fr_4365 _ (by first | omega | (dsimp only; omega))) (kp_4366 3 rfl) (kp_4366 44 rfl) (kp_4366 45 rfl) (kp_4366 47 rfl) (kp_4366 48 rfl) (by omega) (by omega)
                        exact (hp _ _ _ hR_4364 hf_4367 (Or.inr rfl) (by first | omega | (intro h; omega) | exact Or.inl rfl | exact Or.inr rfl) (by first | omega | (intro h; omega) | exact Or.inl rfl | exact Or.inr rfl) (by first | omega | (intro h; omega) | exact Or.inl rfl | exact Or.inr rfl) (by first | omega | (intro h; omega) | exact Or.inl rfl | exact Or.inr rfl) (by first | omega | (intro h; omega) | exact Or.inl rfl | exact Or.inr rfl) (by clear hg; first | (intro h; exfalso; omega) | exact fun _ => k_4379 | exact fun _ => (False.elim (by omega))) k_4378 u_4359 u_4360 hg.symm)
                      · have d_4380 := iEq c_4301
                        have i_4381 := u_4298 (by omega)
                        replace hg := gt_pos (by first | exact d_4380 | omega) hg
                        exact (hp _ _ _ hR_4276 hf_4279 (Or.inr rfl) (by first | omega | (intro h; omega) | exact Or.inl rfl | exact Or.inr rfl) (by first | omega | (intro h; omega) | exact Or.inl rfl | exact Or.inr rfl) (by first | omega | (intro h; omega) | exact Or.inl rfl | exact Or.inr rfl) (by first | omega | (intro h; omega) | exact Or.inl rfl | exact Or.inr rfl) (by first | omega | (intro h; omega) | exact Or.inl rfl | exact Or.inr rfl) (by clear hg; first | (intro h; exfalso; omega) | exact fun _ => k_4291 | exact fun _ => (False.elim (by omega))) k_4292 k_4293 k_4294 hg.symm)
                · have d_4382 := iEq c_4079
                  have i_4383 := u_4076 (by omega)
                  replace hg := gt_pos (by first | exact d_4382 | omega) hg
                  exact (hp _ _ _ hR_4054 hf_4057 (Or.inr rfl) (by first | omega | (intro h; omega) | exact Or.inl rfl | exact Or.inr rfl) (by first | omega | (intro h; omega) | exact Or.inl rfl | exact Or.inr rfl) (by first | omega | (intro h; omega) | exact Or.inl rfl | exact Or.inr rfl) (by first | omega | (intro h; omega) | exact Or.inl rfl | exact Or.inr rfl) (by first | omega | (intro h; omega) | exact Or.inl rfl | exact Or.inr rfl) (by clear hg; first | (intro h; exfalso; omega) | exact fun _ => k_4069 | exact fun _ => (False.elim (by omega))) k_4070 k_4071 k_4072 hg.symm)
            · have d_4384 := iNe c_3730
              replace hg := gt_neg (by first | exact d_4384 | omega) hg
              have l_4385 : (40 : Int32).toInt = 40 := rfl
              refine y_Model_isg hok hw ra hR_2822 (fun r_4386 u_4387 u_4388 u_4389 gn_4390 => ⟨r_4386, I_2820, L_2821, rfl, rfl, ?_⟩)
              replace hg := gt_let gn_4390 hg
              clear gn_4390
              have b_4391 : 0 ≤ r_4386.toInt ∧ r_4386.toInt ≤ 1 := u_4387.rg
              refine ⟨fun c_4392 => ?_, fun c_4392 => ?_⟩
              · have d_4393 := iEq c_4392
                replace hg := gt_pos (by first | exact d_4393 | omega) hg
                unfold fModel_unit_140
                replace hg := (eModel_unit_140).symm.trans hg
                refine y_Model_wrongg hok hw ra hz14 hz15 hR_2822 (fun I_4398 L_4399 hR_4400 fr_4401 kp_4402 u_4395 u_4396 gn_4397 => ⟨I_4398, L_4399, rfl, rfl, ?_⟩)
                replace hg := gt_b3 gn_4397 hg
                clear gn_4397
                have hf_4403 : Fm (fun c => c = o ∨ (o + 30 ≤ c ∧ c < o + 34)) I0 I_4398 := hf_2825.call fr_4401 (fun c hc => by first | exact hc | (dsimp only at hc ⊢; omega) | omega)
                have t_4404 : (I_4398 o 3).toInt = (I_2820 o 3).toInt := by rw [kp_4402 3 rfl]
                have g_4405 : (0 : Int) ≤ (I_4398 o 4).toInt ∧ (I_4398 o 4).toInt ≤ 5 := hR_4400.at0 ra 4 (by decide)
                have t_4406 : (I_4398 o 6).toInt = (I_2820 o 6).toInt := by rw [kp_4402 6 rfl]
                have t_4407 : (I_4398 o 7).toInt = (I_2820 o 7).toInt := by rw [kp_4402 7 rfl]
                have t_4408 : (I_4398 o 8).toInt = (I_2820 o 8).toInt := by rw [kp_4402 8 rfl]
                have t_4409 : (I_4398 o 9).toInt = (I_2820 o 9).toInt := by rw [kp_4402 9 rfl]
                have t_4410 : (I_4398 o 44).toInt = (I_2820 o 44).toInt := by rw [kp_4402 44 rfl]
                have t_4411 : (I_4398 o 45).toInt = (I_2820 o 45).toInt := by rw [kp_4402 45 rfl]
                have t_4412 : (I_4398 o 47).toInt = (I_2820 o 47).toInt := by rw [kp_4402 47 rfl]
                have t_4413 : (I_4398 o 48).toInt = (I_2820 o 48).toInt := by rw [kp_4402 48 rfl]
                have k_4414 : EX 0 0 0 f0 1 I_4398 o := k_2836.fr (fr_4401 _ (by first | omega | (dsimp only; omega))) (fr_4401 _ (by first | omega | (dsimp only; omega))) (fr_4401 _ (by first | omega | (dsimp only; omega))) (fr_4401 _ (by first | omega | (dsimp only; omega))) (fr_4401 _ (by first | omega | (dsimp only; omega))) (kp_4402 3 rfl) (kp_4402 6 rfl) (kp_4402 44 rfl) (kp_4402 45 rfl) (kp_4402 47 rfl) (kp_4402 48 rfl)
                have k_4415 : MTd I_4398 o := k_2837.fr (fr_4401 _ (by first | omega | (dsimp only; omega))) (fr_4401 _ (by first | omega | (dsimp only; omega))) (fr_4401 _ (by first | omega | (dsimp only; omega)))
                have k_4416 : MPo I_4398 o := k_2838.fr (kp_4402 8 rfl) (kp_4402 9 rfl)
                have k_4417 : MTk I_4398 o := k_2839.fr (kp_4402 6 rfl) (kp_4402 7 rfl) (kp_4402 8 rfl)
                refine y_Model_isGoodg hok hw ra hR_4400 (fun r_4418 u_4419 u_4420 u_4421 gn_4422 => ⟨r_4418, I_4398, L_4399, rfl, rfl, ?_⟩)
                replace hg := gt_let gn_4422 hg
                clear gn_4422
                have b_4423 : 0 ≤ r_4418.toInt ∧ r_4418.toInt ≤ 1 := u_4419.rg
                refine ⟨fun c_4424 => ?_, fun c_4424 => ?_⟩
                · have d_4425 := iNe c_4424
                  have i_4426 := u_4420 (by omega)
                  replace hg := gt_neg (by first | exact d_4425 | omega) hg
                  have g_4427 : (0 : Int) ≤ (I_4398 o 46).toInt ∧ (I_4398 o 46).toInt ≤ 100 := hR_4400.at0 ra 46 (by decide)
                  replace hg := gt_let (y := (I_4398 o 46).toInt) rfl hg
                  have a_4428 : ((I_4398 o 46) + 1).toInt = (I_4398 o 46).toInt + (1 : Int32).toInt := tAdd (by omega) (by omega)
                  replace hg := gt_let (y := (((I_4398 o 46) + 1) : Int32).toInt) (by omega) hg
                  refine fun I_4429 e_4430 => ?_
                  replace hg := gt_let (y := tI I_4429) (tI_q e_4430) hg
                  have hR_4431 : RI R I_4429 := hR_4400.up0 (k := 46) ra (by decide) (Or.inr hz56) e_4430 (show (0 : Int) ≤ ((I_4398 o 46) + 1).toInt by omega) (show ((I_4398 o 46) + 1).toInt ≤ (100 : Int) by omega)
                  have hf_4432 : Fm (fun c => c = o ∨ (o + 30 ≤ c ∧ c < o + 34)) I0 I_4429 := hf_4403.set (by first | rfl | omega | (dsimp only; omega)) e_4430
                  have t_4433 : (I_4429 o 3).toInt = (I_4398 o 3).toInt := by rw [← e_4430, q_u_k (by decide)]
                  have t_4434 : (I_4429 o 4).toInt = (I_4398 o 4).toInt := by rw [← e_4430, q_u_k (by decide)]
                  have t_4435 : (I_4429 o 6).toInt = (I_4398 o 6).toInt := by rw [← e_4430, q_u_k (by decide)]
                  have t_4436 : (I_4429 o 7).toInt = (I_4398 o 7).toInt := by rw [← e_4430, q_u_k (by decide)]
                  have t_4437 : (I_4429 o 8).toInt = (I_4398 o 8).toInt := by rw [← e_4430, q_u_k (by decide)]
                  have t_4438 : (I_4429 o 9).toInt = (I_4398 o 9).toInt := by rw [← e_4430, q_u_k (by decide)]
                  have t_4439 : (I_4429 o 44).toInt = (I_4398 o 44).toInt := by rw [← e_4430, q_u_k (by decide)]
                  have t_4440 : (I_4429 o 45).toInt = (I_4398 o 45).toInt := by rw [← e_4430, q_u_k (by decide)]
                  have t_4441 : (I_4429 o 47).toInt = (I_4398 o 47).toInt := by rw [← e_4430, q_u_k (by decide)]
                  have t_4442 : (I_4429 o 48).toInt = (I_4398 o 48).toInt := by rw [← e_4430, q_u_k (by decide)]
                  have t_4443 : (I_4429 o 46).toInt = ((I_4398 o 46) + 1).toInt := by rw [← e_4430, q_u_at]
                  have k_4444 : EX 0 0 0 f0 1 I_4429 o := k_4414.fr (by rw [← e_4430]; exact q_u_ne (by omega)) (by rw [← e_4430]; exact q_u_ne (by omega)) (by rw [← e_4430]; exact q_u_ne (by omega)) (by rw [← e_4430]; exact q_u_ne (by omega)) (by rw [← e_4430]; exact q_u_ne (by omega)) (by rw [← e_4430, q_u_k (by decide)]) (by rw [← e_4430, q_u_k (by decide)]) (by rw [← e_4430, q_u_k (by decide)]) (by rw [← e_4430, q_u_k (by decide)]) (by rw [← e_4430, q_u_k (by decide)]) (by rw [← e_4430, q_u_k (by decide)])
                  have k_4445 : MTd I_4429 o := k_4415.fr (by rw [← e_4430]; exact q_u_ne (by omega)) (by rw [← e_4430]; exact q_u_ne (by omega)) (by rw [← e_4430]; exact q_u_ne (by omega))
                  have k_4446 : MPo I_4429 o := k_4416.fr (by rw [← e_4430, q_u_k (by decide)]) (by rw [← e_4430, q_u_k (by decide)])
                  have k_4447 : MTk I_4429 o := k_4417.fr (by rw [← e_4430, q_u_k (by decide)]) (by rw [← e_4430, q_u_k (by decide)]) (by rw [← e_4430, q_u_k (by decide)])
                  refine y_Model_isg hok hw ra hR_4431 (fun r_4448 u_4449 u_4450 u_4451 gn_4452 => ⟨r_4448, I_4429, L_4399, rfl, rfl, ?_⟩)
                  replace hg := gt_let gn_4452 hg
                  clear gn_4452
                  have b_4453 : 0 ≤ r_4448.toInt ∧ r_4448.toInt ≤ 1 := u_4449.rg
                  refine ⟨fun c_4454 => ?_, fun c_4454 => ?_⟩
                  · have d_4455 := iEq c_4454
                    replace hg := gt_pos (by first | exact d_4455 | omega) hg
                    have cd := k_4444.cod
                    have tk := k_4447.2 (by omega)
                    refine ⟨fun c_4456 => ?_, fun c_4456 => ?_⟩
                    · have d_4457 := iNe c_4456
                      have i_4458 := u_2816 (by omega)
                      have i_4459 := u_2817 (by omega)
                      exfalso; omega
                    · have d_4460 := iEq c_4456
                      replace hg := gt_pos (by first | exact d_4460 | omega) hg
                      unfold fModel_unit_228
                      replace hg := (eModel_unit_228).symm.trans hg
                      have l_4461 : (78 : Int32).toInt = 78 := rfl
                      refine ⟨fun c_4462 => ?_, fun c_4462 => ?_⟩
                      · have d_4463 := iNe c_4462
                        have i_4464 := u_2816 (by omega)
                        have i_4465 := u_2817 (by omega)
                        exfalso; omega
                      · have d_4466 := iEq c_4462
                        replace hg := gt_pos (by first | exact d_4466 | omega) hg
                        replace hg := gt_let (y := (I_4429 o 9).toInt) rfl hg
                        refine y_Model_stepg hok hw ra hz55 (by first | omega | (intro h; omega) | exact Or.inl rfl | exact Or.inr rfl) (by first | omega | (intro h; omega) | exact Or.inl rfl | exact Or.inr rfl) hR_4431 (fun I_4471 L_4472 hR_4473 fr_4474 kp_4475 u_4468 u_4469 gn_4470 => ⟨I_4471, L_4472, rfl, rfl, ?_⟩)
                        replace hg := gt_b3 gn_4470 hg
                        clear gn_4470
                        have hf_4476 : Fm (fun c => c = o ∨ (o + 30 ≤ c ∧ c < o + 34)) I0 I_4471 := hf_4432.call fr_4474 (fun c hc => by first | exact hc | (dsimp only at hc ⊢; omega) | omega)
                        have t_4477 : (I_4471 o 3).toInt = (I_4429 o 3).toInt := by rw [kp_4475 3 rfl]
                        have t_4478 : (I_4471 o 4).toInt = (I_4429 o 4).toInt := by rw [kp_4475 4 rfl]
                        have t_4479 : (I_4471 o 6).toInt = (I_4429 o 6).toInt := by rw [kp_4475 6 rfl]
                        have t_4480 : (I_4471 o 7).toInt = (I_4429 o 7).toInt := by rw [kp_4475 7 rfl]
                        have t_4481 : (I_4471 o 8).toInt = (I_4429 o 8).toInt := by rw [kp_4475 8 rfl]
                        have t_4482 : (I_4471 o 9).toInt = (I_4429 o 9).toInt := by rw [kp_4475 9 rfl]
                        have t_4483 : (I_4471 o 44).toInt = (I_4429 o 44).toInt := by rw [kp_4475 44 rfl]
                        have g_4484 : (0 : Int) ≤ (I_4471 o 45).toInt ∧ (I_4471 o 45).toInt ≤ 700 := hR_4473.at0 ra 45 (by decide)
                        have t_4485 : (I_4471 o 47).toInt = (I_4429 o 47).toInt := by rw [kp_4475 47 rfl]
                        have t_4486 : (I_4471 o 48).toInt = (I_4429 o 48).toInt := by rw [kp_4475 48 rfl]
                        have t_4487 : (I_4471 o 46).toInt = (I_4429 o 46).toInt := by rw [kp_4475 46 rfl]
                        have k_4488 : MPo I_4471 o := k_4446.fr (kp_4475 8 rfl) (kp_4475 9 rfl)
                        have k_4489 : MTk I_4471 o := k_4447.fr (kp_4475 6 rfl) (kp_4475 7 rfl) (kp_4475 8 rfl)
                        have tk := k_4489.2 (by omega)
                        have k_4490 : EX 0 0 1 f0 0 I_4471 o := by exact EX.step1 k_4444 (by first | exact u_2816 (by omega) | (unfold isT; decide)) (by omega) (fr_4474 _ (by first | omega | (dsimp only; omega))) (fr_4474 _ (by first | omega | (dsimp only; omega))) u_4468 (fr_4474 _ (by first | omega | (dsimp only; omega))) (fr_4474 _ (by first | omega | (dsimp only; omega))) (kp_4475 3 rfl) (kp_4475 6 rfl) (kp_4475 44 rfl) u_4469 (kp_4475 47 rfl) (kp_4475 48 rfl)
                        have k_4491 : MTd I_4471 o := by exact MTd.step k_4445 (fr_4474 _ (by first | omega | (dsimp only; omega))) (fr_4474 _ (by first | omega | (dsimp only; omega))) u_4468 (by omega)
                        refine y_Model_nextg hok hw ra hz16 hz17 hz18 hz19 (by first | omega | (intro h; omega) | exact Or.inl rfl | exact Or.inr rfl) hR_4473 (fun I_4502 L_4503 hR_4504 fr_4505 kp_4506 u_4493 u_4494 u_4495 u_4496 u_4497 u_4498 u_4499 u_4500 gn_4501 => ⟨I_4502, L_4503, rfl, rfl, ?_⟩)
                        replace hg := gt_b3 gn_4501 hg
                        clear gn_4501
                        have hf_4507 : Fm (fun c => c = o ∨ (o + 30 ≤ c ∧ c < o + 34)) I0 I_4502 := hf_4476.call fr_4505 (fun c hc => by first | exact hc | (dsimp only at hc ⊢; omega) | omega)
                        have t_4508 : (I_4502 o 3).toInt = (I_4471 o 3).toInt := by rw [kp_4506 3 rfl]
                        have t_4509 : (I_4502 o 4).toInt = (I_4471 o 4).toInt := by rw [kp_4506 4 rfl]
                        have g_4510 : (0 : Int) ≤ (I_4502 o 6).toInt ∧ (I_4502 o 6).toInt ≤ 1600 := hR_4504.at0 ra 6 (by decide)
                        have g_4511 : (0 : Int) ≤ (I_4502 o 7).toInt ∧ (I_4502 o 7).toInt ≤ 1601 := hR_4504.at0 ra 7 (by decide)
                        have g_4512 : (0 : Int) ≤ (I_4502 o 8).toInt ∧ (I_4502 o 8).toInt ≤ 6 := hR_4504.at0 ra 8 (by decide)
                        have t_4513 : (I_4502 o 44).toInt = (I_4471 o 44).toInt := by rw [kp_4506 44 rfl]
                        have t_4514 : (I_4502 o 45).toInt = (I_4471 o 45).toInt := by rw [kp_4506 45 rfl]
                        have t_4515 : (I_4502 o 47).toInt = (I_4471 o 47).toInt := by rw [kp_4506 47 rfl]
                        have t_4516 : (I_4502 o 48).toInt = (I_4471 o 48).toInt := by rw [kp_4506 48 rfl]
                        have t_4517 : (I_4502 o 46).toInt = (I_4471 o 46).toInt := by rw [kp_4506 46 rfl]
                        have k_4518 : MTd I_4502 o := k_4491.fr (fr_4505 _ (by first | omega | (dsimp only; omega))) (fr_4505 _ (by first | omega | (dsimp only; omega))) (fr_4505 _ (by first | omega | (dsimp only; omega)))
                        have ms := u_4496 (by omega)
                        have k_4519 : EX 0 0 0 f0 0 I_4502 o := by exact EX.nx k_4490 (fr_4505 _ (by first | omega | (dsimp only; omega))) (fr_4505 _ (by first | omega | (dsimp only; omega))) (fr_4505 _ (by first | omega | (dsimp only; omega))) (fr_4505 _ (by first | omega | (dsimp only; omega))) (fr_4505 _ (by first | omega | (dsimp only; omega))) (kp_4506 3 rfl) (kp_4506 44 rfl) (kp_4506 45 rfl) (kp_4506 47 rfl) (kp_4506 48 rfl) (by omega) (by omega)
                        exact (hp _ _ _ hR_4504 hf_4507 (Or.inl rfl) (by first | omega | (intro h; omega) | exact Or.inl rfl | exact Or.inr rfl) (by first | omega | (intro h; omega) | exact Or.inl rfl | exact Or.inr rfl) (by first | omega | (intro h; omega) | exact Or.inl rfl | exact Or.inr rfl) (by first | omega | (intro h; omega) | exact Or.inl rfl | exact Or.inr rfl) (by first | omega | (intro h; omega) | exact Or.inl rfl | exact Or.inr rfl) (by clear hg; first | (intro h; exfalso; omega) | exact fun _ => (False.elim (by omega)) | exact fun _ => k_4519) k_4518 u_4499 u_4500 hg.symm)
                  · have d_4520 := iNe c_4454
                    have i_4521 := u_4450 (by omega)
                    have i_4522 := u_4451 (by omega)
                    replace hg := gt_neg (by first | exact d_4520 | omega) hg
                    have g_4523 : (0 : Int) ≤ (I_4429 o 47).toInt ∧ (I_4429 o 47).toInt ≤ 7 := hR_4431.at0 ra 47 (by decide)
                    replace hg := gt_let (y := (I_4429 o 47).toInt) rfl hg
                    refine ⟨fun c_4524 => ?_, fun c_4524 => ?_⟩
                    · have d_4525 := iNe c_4524
                      replace hg := gt_neg (by first | exact d_4525 | omega) hg
                      refine y_Model_isGoodg hok hw ra hR_4431 (fun r_4526 u_4527 u_4528 u_4529 gn_4530 => ⟨r_4526, I_4429, L_4399, rfl, rfl, ?_⟩)
                      replace hg := gt_let gn_4530 hg
                      clear gn_4530
                      have b_4531 : 0 ≤ r_4526.toInt ∧ r_4526.toInt ≤ 1 := u_4527.rg
                      refine ⟨fun c_4532 => ?_, fun c_4532 => ?_⟩
                      · have d_4533 := iNe c_4532
                        have i_4534 := u_4528 (by omega)
                        replace hg := gt_neg (by first | exact d_4533 | omega) hg
                        refine y_Model_pileg hok hw ra hz58 (by first | omega | (intro h; omega) | exact Or.inl rfl | exact Or.inr rfl) (by first | omega | (intro h; omega) | exact Or.inl rfl | exact Or.inr rfl) hR_4431 (fun I_4540 L_4541 hR_4542 fr_4543 kp_4544 u_4536 u_4537 u_4538 gn_4539 => ⟨I_4540, L_4541, rfl, rfl, ?_⟩)
                        replace hg := gt_b3 gn_4539 hg
                        clear gn_4539
                        have hf_4545 : Fm (fun c => c = o ∨ (o + 30 ≤ c ∧ c < o + 34)) I0 I_4540 := hf_4432.call fr_4543 (fun c hc => by first | exact hc | (dsimp only at hc ⊢; omega) | omega)
                        have t_4546 : (I_4540 o 3).toInt = (I_4429 o 3).toInt := by rw [kp_4544 3 rfl]
                        have t_4547 : (I_4540 o 4).toInt = (I_4429 o 4).toInt := by rw [kp_4544 4 rfl]
                        have t_4548 : (I_4540 o 6).toInt = (I_4429 o 6).toInt := by rw [kp_4544 6 rfl]
                        have t_4549 : (I_4540 o 7).toInt = (I_4429 o 7).toInt := by rw [kp_4544 7 rfl]
                        have t_4550 : (I_4540 o 8).toInt = (I_4429 o 8).toInt := by rw [kp_4544 8 rfl]
                        have t_4551 : (I_4540 o 9).toInt = (I_4429 o 9).toInt := by rw [kp_4544 9 rfl]
                        have t_4552 : (I_4540 o 44).toInt = (I_4429 o 44).toInt := by rw [kp_4544 44 rfl]
                        have t_4553 : (I_4540 o 45).toInt = (I_4429 o 45).toInt := by rw [kp_4544 45 rfl]
                        have t_4554 : (I_4540 o 47).toInt = (I_4429 o 47).toInt := by rw [kp_4544 47 rfl]
                        have g_4555 : (0 : Int) ≤ (I_4540 o 48).toInt ∧ (I_4540 o 48).toInt ≤ 80 := hR_4542.at0 ra 48 (by decide)
                        have t_4556 : (I_4540 o 46).toInt = (I_4429 o 46).toInt := by rw [kp_4544 46 rfl]
                        have k_4557 : MTd I_4540 o := k_4445.fr (fr_4543 _ (by first | omega | (dsimp only; omega))) (fr_4543 _ (by first | omega | (dsimp only; omega))) (fr_4543 _ (by first | omega | (dsimp only; omega)))
                        have k_4558 : MPo I_4540 o := k_4446.fr (kp_4544 8 rfl) (kp_4544 9 rfl)
                        have k_4559 : MTk I_4540 o := k_4447.fr (kp_4544 6 rfl) (kp_4544 7 rfl) (kp_4544 8 rfl)
                        have k_4560 : EX 0 1 1 f0 1 I_4540 o := by have z := EX.push k_4444 (v := 7) (s := 0) (dB := 1) (dO := 0) (wt' := 1) (by decide) (by decide) (by decide) (by omega) ⟨by decide, by decide⟩ ⟨fun h => absurd h (by decide), fun h => absurd h (by decide)⟩ (Or.inl rfl) (fr_4543 _ (by first | omega | (dsimp only; omega))) (fr_4543 _ (by first | omega | (dsimp only; omega))) (fr_4543 _ (by first | omega | (dsimp only; omega))) u_4536 u_4537 (kp_4544 3 rfl) (kp_4544 6 rfl) (kp_4544 44 rfl) (kp_4544 45 rfl) (kp_4544 47 rfl) u_4538; exact EX.chg (b' := 1) z rfl rfl rfl rfl rfl rfl rfl rfl rfl rfl (by omega) z.pl
                        have g_4561 : (0 : Int) ≤ (I_4540 o 47).toInt ∧ (I_4540 o 47).toInt ≤ 7 := hR_4542.at0 ra 47 (by decide)
                        replace hg := gt_let (y := (I_4540 o 47).toInt) rfl hg
                        have a_4562 : ((I_4540 o 47) + 1).toInt = (I_4540 o 47).toInt + (1 : Int32).toInt := tAdd (by omega) (by omega)
                        replace hg := gt_let (y := (((I_4540 o 47) + 1) : Int32).toInt) (by omega) hg
                        refine fun I_4563 e_4564 => ?_
                        replace hg := gt_let (y := tI I_4563) (tI_q e_4564) hg
                        have hR_4565 : RI R I_4563 := hR_4542.up0 (k := 47) ra (by decide) (Or.inr hz57) e_4564 (show (0 : Int) ≤ ((I_4540 o 47) + 1).toInt by omega) (show ((I_4540 o 47) + 1).toInt ≤ (7 : Int) by omega)
                        have hf_4566 : Fm (fun c => c = o ∨ (o + 30 ≤ c ∧ c < o + 34)) I0 I_4563 := hf_4545.set (by first | rfl | omega | (dsimp only; omega)) e_4564
                        have t_4567 : (I_4563 o 3).toInt = (I_4540 o 3).toInt := by rw [← e_4564, q_u_k (by decide)]
                        have t_4568 : (I_4563 o 4).toInt = (I_4540 o 4).toInt := by rw [← e_4564, q_u_k (by decide)]
                        have t_4569 : (I_4563 o 6).toInt = (I_4540 o 6).toInt := by rw [← e_4564, q_u_k (by decide)]
                        have t_4570 : (I_4563 o 7).toInt = (I_4540 o 7).toInt := by rw [← e_4564, q_u_k (by decide)]
                        have t_4571 : (I_4563 o 8).toInt = (I_4540 o 8).toInt := by rw [← e_4564, q_u_k (by decide)]
                        have t_4572 : (I_4563 o 9).toInt = (I_4540 o 9).toInt := by rw [← e_4564, q_u_k (by decide)]
                        have t_4573 : (I_4563 o 44).toInt = (I_4540 o 44).toInt := by rw [← e_4564, q_u_k (by decide)]
                        have t_4574 : (I_4563 o 45).toInt = (I_4540 o 45).toInt := by rw [← e_4564, q_u_k (by decide)]
                        have t_4575 : (I_4563 o 47).toInt = ((I_4540 o 47) + 1).toInt := by rw [← e_4564, q_u_at]
                        have t_4576 : (I_4563 o 48).toInt = (I_4540 o 48).toInt := by rw [← e_4564, q_u_k (by decide)]
                        have t_4577 : (I_4563 o 46).toInt = (I_4540 o 46).toInt := by rw [← e_4564, q_u_k (by decide)]
                        have k_4578 : MTd I_4563 o := k_4557.fr (by rw [← e_4564]; exact q_u_ne (by omega)) (by rw [← e_4564]; exact q_u_ne (by omega)) (by rw [← e_4564]; exact q_u_ne (by omega))
                        have k_4579 : MPo I_4563 o := k_4558.fr (by rw [← e_4564, q_u_k (by decide)]) (by rw [← e_4564, q_u_k (by decide)])
                        have k_4580 : MTk I_4563 o := k_4559.fr (by rw [← e_4564, q_u_k (by decide)]) (by rw [← e_4564, q_u_k (by decide)]) (by rw [← e_4564, q_u_k (by decide)])
                        have tk := k_4580.2 (by omega)
                        have k_4582 : EX 0 0 1 f0 1 I_4563 o := by exact EX.put47 k_4560 e_4564 (by omega)
                        refine y_Model_nextg hok hw ra hz16 hz17 hz18 hz19 (by first | omega | (intro h; omega) | exact Or.inl rfl | exact Or.inr rfl) hR_4565 (fun I_4593 L_4594 hR_4595 fr_4596 kp_4597 u_4584 u_4585 u_4586 u_4587 u_4588 u_4589 u_4590 u_4591 gn_4592 => ⟨I_4593, L_4594, rfl, rfl, ?_⟩)
                        replace hg := gt_b3 gn_4592 hg
                        clear gn_4592
                        have hf_4598 : Fm (fun c => c = o ∨ (o + 30 ≤ c ∧ c < o + 34)) I0 I_4593 := hf_4566.call fr_4596 (fun c hc => by first | exact hc | (dsimp only at hc ⊢; omega) | omega)
                        have t_4599 : (I_4593 o 3).toInt = (I_4563 o 3).toInt := by rw [kp_4597 3 rfl]
                        have t_4600 : (I_4593 o 4).toInt = (I_4563 o 4).toInt := by rw [kp_4597 4 rfl]
                        have g_4601 : (0 : Int) ≤ (I_4593 o 6).toInt ∧ (I_4593 o 6).toInt ≤ 1600 := hR_4595.at0 ra 6 (by decide)
                        have g_4602 : (0 : Int) ≤ (I_4593 o 7).toInt ∧ (I_4593 o 7).toInt ≤ 1601 := hR_4595.at0 ra 7 (by decide)
                        have g_4603 : (0 : Int) ≤ (I_4593 o 8).toInt ∧ (I_4593 o 8).toInt ≤ 6 := hR_4595.at0 ra 8 (by decide)
                        have t_4604 : (I_4593 o 44).toInt = (I_4563 o 44).toInt := by rw [kp_4597 44 rfl]
                        have t_4605 : (I_4593 o 45).toInt = (I_4563 o 45).toInt := by rw [kp_4597 45 rfl]
                        have t_4606 : (I_4593 o 47).toInt = (I_4563 o 47).toInt := by rw [kp_4597 47 rfl]
                        have t_4607 : (I_4593 o 48).toInt = (I_4563 o 48).toInt := by rw [kp_4597 48 rfl]
                        have t_4608 : (I_4593 o 46).toInt = (I_4563 o 46).toInt := by rw [kp_4597 46 rfl]
                        have k_4609 : MTd I_4593 o := k_4578.fr (fr_4596 _ (by first | omega | (dsimp only; omega))) (fr_4596 _ (by first | omega | (dsimp only; omega))) (fr_4596 _ (by first | omega | (dsimp only; omega)))
                        have ms := u_4587 (by omega)
                        have k_4610 : EX 0 0 0 f0 1 I_4593 o := by exact EX.nx k_4582 (fr_4596 _ (by first | omega | (dsimp only; omega))) (fr_4596 _ (by first | omega | (dsimp only; omega))) (fr_4596 _ (by first | omega | (dsimp only; omega))) (fr_4596 _ (by first | omega | (dsimp only; omega))) (fr_4596 _ (by first | omega | (dsimp only; omega))) (kp_4597 3 rfl) (kp_4597 44 rfl) (kp_4597 45 rfl) (kp_4597 47 rfl) (kp_4597 48 rfl) (by omega) (by omega)
                        exact (hp _ _ _ hR_4595 hf_4598 (Or.inr rfl) (by first | omega | (intro h; omega) | exact Or.inl rfl | exact Or.inr rfl) (by first | omega | (intro h; omega) | exact Or.inl rfl | exact Or.inr rfl) (by first | omega | (intro h; omega) | exact Or.inl rfl | exact Or.inr rfl) (by first | omega | (intro h; omega) | exact Or.inl rfl | exact Or.inr rfl) (by first | omega | (intro h; omega) | exact Or.inl rfl | exact Or.inr rfl) (by clear hg; first | (intro h; exfalso; omega) | exact fun _ => k_4610 | exact fun _ => (False.elim (by omega))) k_4609 u_4590 u_4591 hg.symm)
                      · have d_4611 := iEq c_4532
                        have i_4612 := u_4529 (by omega)
                        replace hg := gt_pos (by first | exact d_4611 | omega) hg
                        exact (hp _ _ _ hR_4431 hf_4432 (Or.inr rfl) (by first | omega | (intro h; omega) | exact Or.inl rfl | exact Or.inr rfl) (by first | omega | (intro h; omega) | exact Or.inl rfl | exact Or.inr rfl) (by first | omega | (intro h; omega) | exact Or.inl rfl | exact Or.inr rfl) (by first | omega | (intro h; omega) | exact Or.inl rfl | exact Or.inr rfl) (by first | omega | (intro h; omega) | exact Or.inl rfl | exact Or.inr rfl) (by clear hg; first | (intro h; exfalso; omega) | exact fun _ => k_4444 | exact fun _ => (False.elim (by omega))) k_4445 k_4446 k_4447 hg.symm)
                    · have d_4613 := iEq c_4524
                      replace hg := gt_pos (by first | exact d_4613 | omega) hg
                      refine y_Model_wrongg hok hw ra hz14 hz15 hR_4431 (fun I_4618 L_4619 hR_4620 fr_4621 kp_4622 u_4615 u_4616 gn_4617 => ⟨I_4618, L_4619, rfl, rfl, ?_⟩)
                      replace hg := gt_b3 gn_4617 hg
                      clear gn_4617
                      have hf_4623 : Fm (fun c => c = o ∨ (o + 30 ≤ c ∧ c < o + 34)) I0 I_4618 := hf_4432.call fr_4621 (fun c hc => by first | exact hc | (dsimp only at hc ⊢; omega) | omega)
                      have t_4624 : (I_4618 o 3).toInt = (I_4429 o 3).toInt := by rw [kp_4622 3 rfl]
                      have g_4625 : (0 : Int) ≤ (I_4618 o 4).toInt ∧ (I_4618 o 4).toInt ≤ 5 := hR_4620.at0 ra 4 (by decide)
                      have t_4626 : (I_4618 o 6).toInt = (I_4429 o 6).toInt := by rw [kp_4622 6 rfl]
                      have t_4627 : (I_4618 o 7).toInt = (I_4429 o 7).toInt := by rw [kp_4622 7 rfl]
                      have t_4628 : (I_4618 o 8).toInt = (I_4429 o 8).toInt := by rw [kp_4622 8 rfl]
                      have t_4629 : (I_4618 o 9).toInt = (I_4429 o 9).toInt := by rw [kp_4622 9 rfl]
                      have t_4630 : (I_4618 o 44).toInt = (I_4429 o 44).toInt := by rw [kp_4622 44 rfl]
                      have t_4631 : (I_4618 o 45).toInt = (I_4429 o 45).toInt := by rw [kp_4622 45 rfl]
                      have t_4632 : (I_4618 o 47).toInt = (I_4429 o 47).toInt := by rw [kp_4622 47 rfl]
                      have t_4633 : (I_4618 o 48).toInt = (I_4429 o 48).toInt := by rw [kp_4622 48 rfl]
                      have t_4634 : (I_4618 o 46).toInt = (I_4429 o 46).toInt := by rw [kp_4622 46 rfl]
                      have k_4635 : EX 0 0 0 f0 1 I_4618 o := k_4444.fr (fr_4621 _ (by first | omega | (dsimp only; omega))) (fr_4621 _ (by first | omega | (dsimp only; omega))) (fr_4621 _ (by first | omega | (dsimp only; omega))) (fr_4621 _ (by first | omega | (dsimp only; omega))) (fr_4621 _ (by first | omega | (dsimp only; omega))) (kp_4622 3 rfl) (kp_4622 6 rfl) (kp_4622 44 rfl) (kp_4622 45 rfl) (kp_4622 47 rfl) (kp_4622 48 rfl)
                      have k_4636 : MTd I_4618 o := k_4445.fr (fr_4621 _ (by first | omega | (dsimp only; omega))) (fr_4621 _ (by first | omega | (dsimp only; omega))) (fr_4621 _ (by first | omega | (dsimp only; omega)))
                      have k_4637 : MPo I_4618 o := k_4446.fr (kp_4622 8 rfl) (kp_4622 9 rfl)
                      have k_4638 : MTk I_4618 o := k_4447.fr (kp_4622 6 rfl) (kp_4622 7 rfl) (kp_4622 8 rfl)
                      refine y_Model_isGoodg hok hw ra hR_4620 (fun r_4639 u_4640 u_4641 u_4642 gn_4643 => ⟨r_4639, I_4618, L_4619, rfl, rfl, ?_⟩)
                      replace hg := gt_let gn_4643 hg
                      clear gn_4643
                      have b_4644 : 0 ≤ r_4639.toInt ∧ r_4639.toInt ≤ 1 := u_4640.rg
                      refine ⟨fun c_4645 => ?_, fun c_4645 => ?_⟩
                      · have d_4646 := iNe c_4645
                        have i_4647 := u_4641 (by omega)
                        replace hg := gt_neg (by first | exact d_4646 | omega) hg
                        refine y_Model_pileg hok hw ra hz58 (by first | omega | (intro h; omega) | exact Or.inl rfl | exact Or.inr rfl) (by first | omega | (intro h; omega) | exact Or.inl rfl | exact Or.inr rfl) hR_4620 (fun I_4653 L_4654 hR_4655 fr_4656 kp_4657 u_4649 u_4650 u_4651 gn_4652 => ⟨I_4653, L_4654, rfl, rfl, ?_⟩)
                        replace hg := gt_b3 gn_4652 hg
                        clear gn_4652
                        have hf_4658 : Fm (fun c => c = o ∨ (o + 30 ≤ c ∧ c < o + 34)) I0 I_4653 := hf_4623.call fr_4656 (fun c hc => by first | exact hc | (dsimp only at hc ⊢; omega) | omega)
                        have t_4659 : (I_4653 o 3).toInt = (I_4618 o 3).toInt := by rw [kp_4657 3 rfl]
                        have t_4660 : (I_4653 o 4).toInt = (I_4618 o 4).toInt := by rw [kp_4657 4 rfl]
                        have t_4661 : (I_4653 o 6).toInt = (I_4618 o 6).toInt := by rw [kp_4657 6 rfl]
                        have t_4662 : (I_4653 o 7).toInt = (I_4618 o 7).toInt := by rw [kp_4657 7 rfl]
                        have t_4663 : (I_4653 o 8).toInt = (I_4618 o 8).toInt := by rw [kp_4657 8 rfl]
                        have t_4664 : (I_4653 o 9).toInt = (I_4618 o 9).toInt := by rw [kp_4657 9 rfl]
                        have t_4665 : (I_4653 o 44).toInt = (I_4618 o 44).toInt := by rw [kp_4657 44 rfl]
                        have t_4666 : (I_4653 o 45).toInt = (I_4618 o 45).toInt := by rw [kp_4657 45 rfl]
                        have t_4667 : (I_4653 o 47).toInt = (I_4618 o 47).toInt := by rw [kp_4657 47 rfl]
                        have g_4668 : (0 : Int) ≤ (I_4653 o 48).toInt ∧ (I_4653 o 48).toInt ≤ 80 := hR_4655.at0 ra 48 (by decide)
                        have t_4669 : (I_4653 o 46).toInt = (I_4618 o 46).toInt := by rw [kp_4657 46 rfl]
                        have k_4670 : MTd I_4653 o := k_4636.fr (fr_4656 _ (by first | omega | (dsimp only; omega))) (fr_4656 _ (by first | omega | (dsimp only; omega))) (fr_4656 _ (by first | omega | (dsimp only; omega)))
                        have k_4671 : MPo I_4653 o := k_4637.fr (kp_4657 8 rfl) (kp_4657 9 rfl)
                        have k_4672 : MTk I_4653 o := k_4638.fr (kp_4657 6 rfl) (kp_4657 7 rfl) (kp_4657 8 rfl)
                        have k_4673 : EX 0 1 1 f0 1 I_4653 o := by have z := EX.push k_4635 (v := 7) (s := 0) (dB := 1) (dO := 0) (wt' := 1) (by decide) (by decide) (by decide) (by omega) ⟨by decide, by decide⟩ ⟨fun h => absurd h (by decide), fun h => absurd h (by decide)⟩ (Or.inl rfl) (fr_4656 _ (by first | omega | (dsimp only; omega))) (fr_4656 _ (by first | omega | (dsimp only; omega))) (fr_4656 _ (by first | omega | (dsimp only; omega))) u_4649 u_4650 (kp_4657 3 rfl) (kp_4657 6 rfl) (kp_4657 44 rfl) (kp_4657 45 rfl) (kp_4657 47 rfl) u_4651; exact EX.chg (b' := 1) z rfl rfl rfl rfl rfl rfl rfl rfl rfl rfl (by omega) z.pl
                        have g_4674 : (0 : Int) ≤ (I_4653 o 47).toInt ∧ (I_4653 o 47).toInt ≤ 7 := hR_4655.at0 ra 47 (by decide)
                        replace hg := gt_let (y := (I_4653 o 47).toInt) rfl hg
                        have a_4675 : ((I_4653 o 47) + 1).toInt = (I_4653 o 47).toInt + (1 : Int32).toInt := tAdd (by omega) (by omega)
                        replace hg := gt_let (y := (((I_4653 o 47) + 1) : Int32).toInt) (by omega) hg
                        refine fun I_4676 e_4677 => ?_
                        replace hg := gt_let (y := tI I_4676) (tI_q e_4677) hg
                        have hR_4678 : RI R I_4676 := hR_4655.up0 (k := 47) ra (by decide) (Or.inr hz57) e_4677 (show (0 : Int) ≤ ((I_4653 o 47) + 1).toInt by omega) (show ((I_4653 o 47) + 1).toInt ≤ (7 : Int) by omega)
                        have hf_4679 : Fm (fun c => c = o ∨ (o + 30 ≤ c ∧ c < o + 34)) I0 I_4676 := hf_4658.set (by first | rfl | omega | (dsimp only; omega)) e_4677
                        have t_4680 : (I_4676 o 3).toInt = (I_4653 o 3).toInt := by rw [← e_4677, q_u_k (by decide)]
                        have t_4681 : (I_4676 o 4).toInt = (I_4653 o 4).toInt := by rw [← e_4677, q_u_k (by decide)]
                        have t_4682 : (I_4676 o 6).toInt = (I_4653 o 6).toInt := by rw [← e_4677, q_u_k (by decide)]
                        have t_4683 : (I_4676 o 7).toInt = (I_4653 o 7).toInt := by rw [← e_4677, q_u_k (by decide)]
                        have t_4684 : (I_4676 o 8).toInt = (I_4653 o 8).toInt := by rw [← e_4677, q_u_k (by decide)]
                        have t_4685 : (I_4676 o 9).toInt = (I_4653 o 9).toInt := by rw [← e_4677, q_u_k (by decide)]
                        have t_4686 : (I_4676 o 44).toInt = (I_4653 o 44).toInt := by rw [← e_4677, q_u_k (by decide)]
                        have t_4687 : (I_4676 o 45).toInt = (I_4653 o 45).toInt := by rw [← e_4677, q_u_k (by decide)]
                        have t_4688 : (I_4676 o 47).toInt = ((I_4653 o 47) + 1).toInt := by rw [← e_4677, q_u_at]
                        have t_4689 : (I_4676 o 48).toInt = (I_4653 o 48).toInt := by rw [← e_4677, q_u_k (by decide)]
                        have t_4690 : (I_4676 o 46).toInt = (I_4653 o 46).toInt := by rw [← e_4677, q_u_k (by decide)]
                        have k_4691 : MTd I_4676 o := k_4670.fr (by rw [← e_4677]; exact q_u_ne (by omega)) (by rw [← e_4677]; exact q_u_ne (by omega)) (by rw [← e_4677]; exact q_u_ne (by omega))
                        have k_4692 : MPo I_4676 o := k_4671.fr (by rw [← e_4677, q_u_k (by decide)]) (by rw [← e_4677, q_u_k (by decide)])
                        have k_4693 : MTk I_4676 o := k_4672.fr (by rw [← e_4677, q_u_k (by decide)]) (by rw [← e_4677, q_u_k (by decide)]) (by rw [← e_4677, q_u_k (by decide)])
                        have tk := k_4693.2 (by omega)
                        have k_4695 : EX 0 0 1 f0 1 I_4676 o := by exact EX.put47 k_4673 e_4677 (by omega)
                        refine y_Model_nextg hok hw ra hz16 hz17 hz18 hz19 (by first | omega | (intro h; omega) | exact Or.inl rfl | exact Or.inr rfl) hR_4678 (fun I_4706 L_4707 hR_4708 fr_4709 kp_4710 u_4697 u_4698 u_4699 u_4700 u_4701 u_4702 u_4703 u_4704 gn_4705 => ⟨I_4706, L_4707, rfl, rfl, ?_⟩)
                        replace hg := gt_b3 gn_4705 hg
                        clear gn_4705
                        have hf_4711 : Fm (fun c => c = o ∨ (o + 30 ≤ c ∧ c < o + 34)) I0 I_4706 := hf_4679.call fr_4709 (fun c hc => by first | exact hc | (dsimp only at hc ⊢; omega) | omega)
                        have t_4712 : (I_4706 o 3).toInt = (I_4676 o 3).toInt := by rw [kp_4710 3 rfl]
                        have t_4713 : (I_4706 o 4).toInt = (I_4676 o 4).toInt := by rw [kp_4710 4 rfl]
                        have g_4714 : (0 : Int) ≤ (I_4706 o 6).toInt ∧ (I_4706 o 6).toInt ≤ 1600 := hR_4708.at0 ra 6 (by decide)
                        have g_4715 : (0 : Int) ≤ (I_4706 o 7).toInt ∧ (I_4706 o 7).toInt ≤ 1601 := hR_4708.at0 ra 7 (by decide)
                        have g_4716 : (0 : Int) ≤ (I_4706 o 8).toInt ∧ (I_4706 o 8).toInt ≤ 6 := hR_4708.at0 ra 8 (by decide)
                        have t_4717 : (I_4706 o 44).toInt = (I_4676 o 44).toInt := by rw [kp_4710 44 rfl]
                        have t_4718 : (I_4706 o 45).toInt = (I_4676 o 45).toInt := by rw [kp_4710 45 rfl]
                        have t_4719 : (I_4706 o 47).toInt = (I_4676 o 47).toInt := by rw [kp_4710 47 rfl]
                        have t_4720 : (I_4706 o 48).toInt = (I_4676 o 48).toInt := by rw [kp_4710 48 rfl]
                        have t_4721 : (I_4706 o 46).toInt = (I_4676 o 46).toInt := by rw [kp_4710 46 rfl]
                        have k_4722 : MTd I_4706 o := k_4691.fr (fr_4709 _ (by first | omega | (dsimp only; omega))) (fr_4709 _ (by first | omega | (dsimp only; omega))) (fr_4709 _ (by first | omega | (dsimp only; omega)))
                        have ms := u_4700 (by omega)
                        have k_4723 : EX 0 0 0 f0 1 I_4706 o := by exact EX.nx k_4695 (fr_4709 _ (by first | omega | (dsimp only; omega))) (fr_4709 _ (by first | omega | (dsimp only; omega))) (fr_4709 _ (by first | omega | (dsimp only; omega))) (fr_4709 _ (by first | omega | (dsimp only; omega))) (fr_4709 _ (by first | omega | (dsimp only; omega))) (kp_4710 3 rfl) (kp_4710 44 rfl) (kp_4710 45 rfl) (kp_4710 47 rfl) (kp_4710 48 rfl) (by omega) (by omega)
                        exact (hp _ _ _ hR_4708 hf_4711 (Or.inr rfl) (by first | omega | (intro h; omega) | exact Or.inl rfl | exact Or.inr rfl) (by first | omega | (intro h; omega) | exact Or.inl rfl | exact Or.inr rfl) (by first | omega | (intro h; omega) | exact Or.inl rfl | exact Or.inr rfl) (by first | omega | (intro h; omega) | exact Or.inl rfl | exact Or.inr rfl) (by first | omega | (intro h; omega) | exact Or.inl rfl | exact Or.inr rfl) (by clear hg; first | (intro h; exfalso; omega) | exact fun _ => k_4723 | exact fun _ => (False.elim (by omega))) k_4722 u_4703 u_4704 hg.symm)
                      · have d_4724 := iEq c_4645
                        have i_4725 := u_4642 (by omega)
                        replace hg := gt_pos (by first | exact d_4724 | omega) hg
                        exact (hp _ _ _ hR_4620 hf_4623 (Or.inr rfl) (by first | omega | (intro h; omega) | exact Or.inl rfl | exact Or.inr rfl) (by first | omega | (intro h; omega) | exact Or.inl rfl | exact Or.inr rfl) (by first | omega | (intro h; omega) | exact Or.inl rfl | exact Or.inr rfl) (by first | omega | (intro h; omega) | exact Or.inl rfl | exact Or.inr rfl) (by first | omega | (intro h; omega) | exact Or.inl rfl | exact Or.inr rfl) (by clear hg; first | (intro h; exfalso; omega) | exact fun _ => k_4635 | exact fun _ => (False.elim (by omega))) k_4636 k_4637 k_4638 hg.symm)
                · have d_4726 := iEq c_4424
                  have i_4727 := u_4421 (by omega)
                  replace hg := gt_pos (by first | exact d_4726 | omega) hg
                  exact (hp _ _ _ hR_4400 hf_4403 (Or.inr rfl) (by first | omega | (intro h; omega) | exact Or.inl rfl | exact Or.inr rfl) (by first | omega | (intro h; omega) | exact Or.inl rfl | exact Or.inr rfl) (by first | omega | (intro h; omega) | exact Or.inl rfl | exact Or.inr rfl) (by first | omega | (intro h; omega) | exact Or.inl rfl | exact Or.inr rfl) (by first | omega | (intro h; omega) | exact Or.inl rfl | exact Or.inr rfl) (by clear hg; first | (intro h; exfalso; omega) | exact fun _ => k_4414 | exact fun _ => (False.elim (by omega))) k_4415 k_4416 k_4417 hg.symm)
              · have d_4728 := iNe c_4392
                have i_4729 := u_4388 (by omega)
                have i_4730 := u_4389 (by omega)
                replace hg := gt_neg (by first | exact d_4728 | omega) hg
                unfold fModel_unit_131
                replace hg := (eModel_unit_131).symm.trans hg
                have g_4731 : (0 : Int) ≤ (I_2820 o 46).toInt ∧ (I_2820 o 46).toInt ≤ 100 := hR_2822.at0 ra 46 (by decide)
                replace hg := gt_let (y := (I_2820 o 46).toInt) rfl hg
                have l_4732 : (100 : Int32).toInt = 100 := rfl
                refine ⟨fun c_4733 => ?_, fun c_4733 => ?_⟩
                · have d_4734 := iNe c_4733
                  replace hg := gt_neg (by first | exact d_4734 | omega) hg
                  refine y_Model_isGoodg hok hw ra hR_2822 (fun r_4735 u_4736 u_4737 u_4738 gn_4739 => ⟨r_4735, I_2820, L_2821, rfl, rfl, ?_⟩)
                  replace hg := gt_let gn_4739 hg
                  clear gn_4739
                  have b_4740 : 0 ≤ r_4735.toInt ∧ r_4735.toInt ≤ 1 := u_4736.rg
                  refine ⟨fun c_4741 => ?_, fun c_4741 => ?_⟩
                  · have d_4742 := iNe c_4741
                    have i_4743 := u_4737 (by omega)
                    replace hg := gt_neg (by first | exact d_4742 | omega) hg
                    have g_4744 : (0 : Int) ≤ (I_2820 o 46).toInt ∧ (I_2820 o 46).toInt ≤ 100 := hR_2822.at0 ra 46 (by decide)
                    replace hg := gt_let (y := (I_2820 o 46).toInt) rfl hg
                    have a_4745 : ((I_2820 o 46) + 1).toInt = (I_2820 o 46).toInt + (1 : Int32).toInt := tAdd (by omega) (by omega)
                    replace hg := gt_let (y := (((I_2820 o 46) + 1) : Int32).toInt) (by omega) hg
                    refine fun I_4746 e_4747 => ?_
                    replace hg := gt_let (y := tI I_4746) (tI_q e_4747) hg
                    have hR_4748 : RI R I_4746 := hR_2822.up0 (k := 46) ra (by decide) (Or.inr hz56) e_4747 (show (0 : Int) ≤ ((I_2820 o 46) + 1).toInt by omega) (show ((I_2820 o 46) + 1).toInt ≤ (100 : Int) by omega)
                    have hf_4749 : Fm (fun c => c = o ∨ (o + 30 ≤ c ∧ c < o + 34)) I0 I_4746 := hf_2825.set (by first | rfl | omega | (dsimp only; omega)) e_4747
                    have t_4750 : (I_4746 o 3).toInt = (I_2820 o 3).toInt := by rw [← e_4747, q_u_k (by decide)]
                    have t_4751 : (I_4746 o 4).toInt = (I_2820 o 4).toInt := by rw [← e_4747, q_u_k (by decide)]
                    have t_4752 : (I_4746 o 6).toInt = (I_2820 o 6).toInt := by rw [← e_4747, q_u_k (by decide)]
                    have t_4753 : (I_4746 o 7).toInt = (I_2820 o 7).toInt := by rw [← e_4747, q_u_k (by decide)]
                    have t_4754 : (I_4746 o 8).toInt = (I_2820 o 8).toInt := by rw [← e_4747, q_u_k (by decide)]
                    have t_4755 : (I_4746 o 9).toInt = (I_2820 o 9).toInt := by rw [← e_4747, q_u_k (by decide)]
                    have t_4756 : (I_4746 o 44).toInt = (I_2820 o 44).toInt := by rw [← e_4747, q_u_k (by decide)]
                    have t_4757 : (I_4746 o 45).toInt = (I_2820 o 45).toInt := by rw [← e_4747, q_u_k (by decide)]
                    have t_4758 : (I_4746 o 47).toInt = (I_2820 o 47).toInt := by rw [← e_4747, q_u_k (by decide)]
                    have t_4759 : (I_4746 o 48).toInt = (I_2820 o 48).toInt := by rw [← e_4747, q_u_k (by decide)]
                    have t_4760 : (I_4746 o 46).toInt = ((I_2820 o 46) + 1).toInt := by rw [← e_4747, q_u_at]
                    have k_4761 : EX 0 0 0 f0 1 I_4746 o := k_2836.fr (by rw [← e_4747]; exact q_u_ne (by omega)) (by rw [← e_4747]; exact q_u_ne (by omega)) (by rw [← e_4747]; exact q_u_ne (by omega)) (by rw [← e_4747]; exact q_u_ne (by omega)) (by rw [← e_4747]; exact q_u_ne (by omega)) (by rw [← e_4747, q_u_k (by decide)]) (by rw [← e_4747, q_u_k (by decide)]) (by rw [← e_4747, q_u_k (by decide)]) (by rw [← e_4747, q_u_k (by decide)]) (by rw [← e_4747, q_u_k (by decide)]) (by rw [← e_4747, q_u_k (by decide)])
                    have k_4762 : MTd I_4746 o := k_2837.fr (by rw [← e_4747]; exact q_u_ne (by omega)) (by rw [← e_4747]; exact q_u_ne (by omega)) (by rw [← e_4747]; exact q_u_ne (by omega))
                    have k_4763 : MPo I_4746 o := k_2838.fr (by rw [← e_4747, q_u_k (by decide)]) (by rw [← e_4747, q_u_k (by decide)])
                    have k_4764 : MTk I_4746 o := k_2839.fr (by rw [← e_4747, q_u_k (by decide)]) (by rw [← e_4747, q_u_k (by decide)]) (by rw [← e_4747, q_u_k (by decide)])
                    refine y_Model_isg hok hw ra hR_4748 (fun r_4765 u_4766 u_4767 u_4768 gn_4769 => ⟨r_4765, I_4746, L_2821, rfl, rfl, ?_⟩)
                    replace hg := gt_let gn_4769 hg
                    clear gn_4769
                    have b_4770 : 0 ≤ r_4765.toInt ∧ r_4765.toInt ≤ 1 := u_4766.rg
                    refine ⟨fun c_4771 => ?_, fun c_4771 => ?_⟩
                    · have d_4772 := iEq c_4771
                      replace hg := gt_pos (by first | exact d_4772 | omega) hg
                      have cd := k_4761.cod
                      have tk := k_4764.2 (by omega)
                      refine ⟨fun c_4773 => ?_, fun c_4773 => ?_⟩
                      · have d_4774 := iNe c_4773
                        have i_4775 := u_2816 (by omega)
                        have i_4776 := u_2817 (by omega)
                        exfalso; omega
                      · have d_4777 := iEq c_4773
                        replace hg := gt_pos (by first | exact d_4777 | omega) hg
                        unfold fModel_unit_228
                        replace hg := (eModel_unit_228).symm.trans hg
                        have l_4778 : (78 : Int32).toInt = 78 := rfl
                        refine ⟨fun c_4779 => ?_, fun c_4779 => ?_⟩
                        · have d_4780 := iNe c_4779
                          have i_4781 := u_2816 (by omega)
                          have i_4782 := u_2817 (by omega)
                          exfalso; omega
                        · have d_4783 := iEq c_4779
                          replace hg := gt_pos (by first | exact d_4783 | omega) hg
                          replace hg := gt_let (y := (I_4746 o 9).toInt) rfl hg
                          refine y_Model_stepg hok hw ra hz55 (by first | omega | (intro h; omega) | exact Or.inl rfl | exact Or.inr rfl) (by first | omega | (intro h; omega) | exact Or.inl rfl | exact Or.inr rfl) hR_4748 (fun I_4788 L_4789 hR_4790 fr_4791 kp_4792 u_4785 u_4786 gn_4787 => ⟨I_4788, L_4789, rfl, rfl, ?_⟩)
                          replace hg := gt_b3 gn_4787 hg
                          clear gn_4787
                          have hf_4793 : Fm (fun c => c = o ∨ (o + 30 ≤ c ∧ c < o + 34)) I0 I_4788 := hf_4749.call fr_4791 (fun c hc => by first | exact hc | (dsimp only at hc ⊢; omega) | omega)
                          have t_4794 : (I_4788 o 3).toInt = (I_4746 o 3).toInt := by rw [kp_4792 3 rfl]
                          have t_4795 : (I_4788 o 4).toInt = (I_4746 o 4).toInt := by rw [kp_4792 4 rfl]
                          have t_4796 : (I_4788 o 6).toInt = (I_4746 o 6).toInt := by rw [kp_4792 6 rfl]
                          have t_4797 : (I_4788 o 7).toInt = (I_4746 o 7).toInt := by rw [kp_4792 7 rfl]
                          have t_4798 : (I_4788 o 8).toInt = (I_4746 o 8).toInt := by rw [kp_4792 8 rfl]
                          have t_4799 : (I_4788 o 9).toInt = (I_4746 o 9).toInt := by rw [kp_4792 9 rfl]
                          have t_4800 : (I_4788 o 44).toInt = (I_4746 o 44).toInt := by rw [kp_4792 44 rfl]
                          have g_4801 : (0 : Int) ≤ (I_4788 o 45).toInt ∧ (I_4788 o 45).toInt ≤ 700 := hR_4790.at0 ra 45 (by decide)
                          have t_4802 : (I_4788 o 47).toInt = (I_4746 o 47).toInt := by rw [kp_4792 47 rfl]
                          have t_4803 : (I_4788 o 48).toInt = (I_4746 o 48).toInt := by rw [kp_4792 48 rfl]
                          have t_4804 : (I_4788 o 46).toInt = (I_4746 o 46).toInt := by rw [kp_4792 46 rfl]
                          have k_4805 : MPo I_4788 o := k_4763.fr (kp_4792 8 rfl) (kp_4792 9 rfl)
                          have k_4806 : MTk I_4788 o := k_4764.fr (kp_4792 6 rfl) (kp_4792 7 rfl) (kp_4792 8 rfl)
                          have tk := k_4806.2 (by omega)
                          have k_4807 : EX 0 0 1 f0 0 I_4788 o := by exact EX.step1 k_4761 (by first | exact u_2816 (by omega) | (unfold isT; decide)) (by omega) (fr_4791 _ (by first | omega | (dsimp only; omega))) (fr_4791 _ (by first | omega | (dsimp only; omega))) u_4785 (fr_4791 _ (by first | omega | (dsimp only; omega))) (fr_4791 _ (by first | omega | (dsimp only; omega))) (kp_4792 3 rfl) (kp_4792 6 rfl) (kp_4792 44 rfl) u_4786 (kp_4792 47 rfl) (kp_4792 48 rfl)
                          have k_4808 : MTd I_4788 o := by exact MTd.step k_4762 (fr_4791 _ (by first | omega | (dsimp only; omega))) (fr_4791 _ (by first | omega | (dsimp only; omega))) u_4785 (by omega)
                          refine y_Model_nextg hok hw ra hz16 hz17 hz18 hz19 (by first | omega | (intro h; omega) | exact Or.inl rfl | exact Or.inr rfl) hR_4790 (fun I_4819 L_4820 hR_4821 fr_4822 kp_4823 u_4810 u_4811 u_4812 u_4813 u_4814 u_4815 u_4816 u_4817 gn_4818 => ⟨I_4819, L_4820, rfl, rfl, ?_⟩)
                          replace hg := gt_b3 gn_4818 hg
                          clear gn_4818
                          have hf_4824 : Fm (fun c => c = o ∨ (o + 30 ≤ c ∧ c < o + 34)) I0 I_4819 := hf_4793.call fr_4822 (fun c hc => by first | exact hc | (dsimp only at hc ⊢; omega) | omega)
                          have t_4825 : (I_4819 o 3).toInt = (I_4788 o 3).toInt := by rw [kp_4823 3 rfl]
                          have t_4826 : (I_4819 o 4).toInt = (I_4788 o 4).toInt := by rw [kp_4823 4 rfl]
                          have g_4827 : (0 : Int) ≤ (I_4819 o 6).toInt ∧ (I_4819 o 6).toInt ≤ 1600 := hR_4821.at0 ra 6 (by decide)
                          have g_4828 : (0 : Int) ≤ (I_4819 o 7).toInt ∧ (I_4819 o 7).toInt ≤ 1601 := hR_4821.at0 ra 7 (by decide)
                          have g_4829 : (0 : Int) ≤ (I_4819 o 8).toInt ∧ (I_4819 o 8).toInt ≤ 6 := hR_4821.at0 ra 8 (by decide)
                          have t_4830 : (I_4819 o 44).toInt = (I_4788 o 44).toInt := by rw [kp_4823 44 rfl]
                          have t_4831 : (I_4819 o 45).toInt = (I_4788 o 45).toInt := by rw [kp_4823 45 rfl]
                          have t_4832 : (I_4819 o 47).toInt = (I_4788 o 47).toInt := by rw [kp_4823 47 rfl]
                          have t_4833 : (I_4819 o 48).toInt = (I_4788 o 48).toInt := by rw [kp_4823 48 rfl]
                          have t_4834 : (I_4819 o 46).toInt = (I_4788 o 46).toInt := by rw [kp_4823 46 rfl]
                          have k_4835 : MTd I_4819 o := k_4808.fr (fr_4822 _ (by first | omega | (dsimp only; omega))) (fr_4822 _ (by first | omega | (dsimp only; omega))) (fr_4822 _ (by first | omega | (dsimp only; omega)))
                          have ms := u_4813 (by omega)
                          have k_4836 : EX 0 0 0 f0 0 I_4819 o := by exact EX.nx k_4807 (fr_4822 _ (by first | omega | (dsimp only; omega))) (fr_4822 _ (by first | omega | (dsimp only; omega))) (fr_4822 _ (by first | omega | (dsimp only; omega))) (fr_4822 _ (by first | omega | (dsimp only; omega))) (fr_4822 _ (by first | omega | (dsimp only; omega))) (kp_4823 3 rfl) (kp_4823 44 rfl) (kp_4823 45 rfl) (kp_4823 47 rfl) (kp_4823 48 rfl) (by omega) (by omega)
                          exact (hp _ _ _ hR_4821 hf_4824 (Or.inl rfl) (by first | omega | (intro h; omega) | exact Or.inl rfl | exact Or.inr rfl) (by first | omega | (intro h; omega) | exact Or.inl rfl | exact Or.inr rfl) (by first | omega | (intro h; omega) | exact Or.inl rfl | exact Or.inr rfl) (by first | omega | (intro h; omega) | exact Or.inl rfl | exact Or.inr rfl) (by first | omega | (intro h; omega) | exact Or.inl rfl | exact Or.inr rfl) (by clear hg; first | (intro h; exfalso; omega) | exact fun _ => (False.elim (by omega)) | exact fun _ => k_4836) k_4835 u_4816 u_4817 hg.symm)
                    · have d_4837 := iNe c_4771
                      have i_4838 := u_4767 (by omega)
                      have i_4839 := u_4768 (by omega)
                      replace hg := gt_neg (by first | exact d_4837 | omega) hg
                      have g_4840 : (0 : Int) ≤ (I_4746 o 47).toInt ∧ (I_4746 o 47).toInt ≤ 7 := hR_4748.at0 ra 47 (by decide)
                      replace hg := gt_let (y := (I_4746 o 47).toInt) rfl hg
                      refine ⟨fun c_4841 => ?_, fun c_4841 => ?_⟩
                      · have d_4842 := iNe c_4841
                        replace hg := gt_neg (by first | exact d_4842 | omega) hg
                        refine y_Model_isGoodg hok hw ra hR_4748 (fun r_4843 u_4844 u_4845 u_4846 gn_4847 => ⟨r_4843, I_4746, L_2821, rfl, rfl, ?_⟩)
                        replace hg := gt_let gn_4847 hg
                        clear gn_4847
                        have b_4848 : 0 ≤ r_4843.toInt ∧ r_4843.toInt ≤ 1 := u_4844.rg
                        refine ⟨fun c_4849 => ?_, fun c_4849 => ?_⟩
                        · have d_4850 := iNe c_4849
                          have i_4851 := u_4845 (by omega)
                          replace hg := gt_neg (by first | exact d_4850 | omega) hg
                          refine y_Model_pileg hok hw ra hz58 (by first | omega | (intro h; omega) | exact Or.inl rfl | exact Or.inr rfl) (by first | omega | (intro h; omega) | exact Or.inl rfl | exact Or.inr rfl) hR_4748 (fun I_4857 L_4858 hR_4859 fr_4860 kp_4861 u_4853 u_4854 u_4855 gn_4856 => ⟨I_4857, L_4858, rfl, rfl, ?_⟩)
                          replace hg := gt_b3 gn_4856 hg
                          clear gn_4856
                          have hf_4862 : Fm (fun c => c = o ∨ (o + 30 ≤ c ∧ c < o + 34)) I0 I_4857 := hf_4749.call fr_4860 (fun c hc => by first | exact hc | (dsimp only at hc ⊢; omega) | omega)
                          have t_4863 : (I_4857 o 3).toInt = (I_4746 o 3).toInt := by rw [kp_4861 3 rfl]
                          have t_4864 : (I_4857 o 4).toInt = (I_4746 o 4).toInt := by rw [kp_4861 4 rfl]
                          have t_4865 : (I_4857 o 6).toInt = (I_4746 o 6).toInt := by rw [kp_4861 6 rfl]
                          have t_4866 : (I_4857 o 7).toInt = (I_4746 o 7).toInt := by rw [kp_4861 7 rfl]
                          have t_4867 : (I_4857 o 8).toInt = (I_4746 o 8).toInt := by rw [kp_4861 8 rfl]
                          have t_4868 : (I_4857 o 9).toInt = (I_4746 o 9).toInt := by rw [kp_4861 9 rfl]
                          have t_4869 : (I_4857 o 44).toInt = (I_4746 o 44).toInt := by rw [kp_4861 44 rfl]
                          have t_4870 : (I_4857 o 45).toInt = (I_4746 o 45).toInt := by rw [kp_4861 45 rfl]
                          have t_4871 : (I_4857 o 47).toInt = (I_4746 o 47).toInt := by rw [kp_4861 47 rfl]
                          have g_4872 : (0 : Int) ≤ (I_4857 o 48).toInt ∧ (I_4857 o 48).toInt ≤ 80 := hR_4859.at0 ra 48 (by decide)
                          have t_4873 : (I_4857 o 46).toInt = (I_4746 o 46).toInt := by rw [kp_4861 46 rfl]
                          have k_4874 : MTd I_4857 o := k_4762.fr (fr_4860 _ (by first | omega | (dsimp only; omega))) (fr_4860 _ (by first | omega | (dsimp only; omega))) (fr_4860 _ (by first | omega | (dsimp only; omega)))
                          have k_4875 : MPo I_4857 o := k_4763.fr (kp_4861 8 rfl) (kp_4861 9 rfl)
                          have k_4876 : MTk I_4857 o := k_4764.fr (kp_4861 6 rfl) (kp_4861 7 rfl) (kp_4861 8 rfl)
                          have k_4877 : EX 0 1 1 f0 1 I_4857 o := by have z := EX.push k_4761 (v := 7) (s := 0) (dB := 1) (dO := 0) (wt' := 1) (by decide) (by decide) (by decide) (by omega) ⟨by decide, by decide⟩ ⟨fun h => absurd h (by decide), fun h => absurd h (by decide)⟩ (Or.inl rfl) (fr_4860 _ (by first | omega | (dsimp only; omega))) (fr_4860 _ (by first | omega | (dsimp only; omega))) (fr_4860 _ (by first | omega | (dsimp only; omega))) u_4853 u_4854 (kp_4861 3 rfl) (kp_4861 6 rfl) (kp_4861 44 rfl) (kp_4861 45 rfl) (kp_4861 47 rfl) u_4855; exact EX.chg (b' := 1) z rfl rfl rfl rfl rfl rfl rfl rfl rfl rfl (by omega) z.pl
                          have g_4878 : (0 : Int) ≤ (I_4857 o 47).toInt ∧ (I_4857 o 47).toInt ≤ 7 := hR_4859.at0 ra 47 (by decide)
                          replace hg := gt_let (y := (I_4857 o 47).toInt) rfl hg
                          have a_4879 : ((I_4857 o 47) + 1).toInt = (I_4857 o 47).toInt + (1 : Int32).toInt := tAdd (by omega) (by omega)
                          replace hg := gt_let (y := (((I_4857 o 47) + 1) : Int32).toInt) (by omega) hg
                          refine fun I_4880 e_4881 => ?_
                          replace hg := gt_let (y := tI I_4880) (tI_q e_4881) hg
                          have hR_4882 : RI R I_4880 := hR_4859.up0 (k := 47) ra (by decide) (Or.inr hz57) e_4881 (show (0 : Int) ≤ ((I_4857 o 47) + 1).toInt by omega) (show ((I_4857 o 47) + 1).toInt ≤ (7 : Int) by omega)
                          have hf_4883 : Fm (fun c => c = o ∨ (o + 30 ≤ c ∧ c < o + 34)) I0 I_4880 := hf_4862.set (by first | rfl | omega | (dsimp only; omega)) e_4881
                          have t_4884 : (I_4880 o 3).toInt = (I_4857 o 3).toInt := by rw [← e_4881, q_u_k (by decide)]
                          have t_4885 : (I_4880 o 4).toInt = (I_4857 o 4).toInt := by rw [← e_4881, q_u_k (by decide)]
                          have t_4886 : (I_4880 o 6).toInt = (I_4857 o 6).toInt := by rw [← e_4881, q_u_k (by decide)]
                          have t_4887 : (I_4880 o 7).toInt = (I_4857 o 7).toInt := by rw [← e_4881, q_u_k (by decide)]
                          have t_4888 : (I_4880 o 8).toInt = (I_4857 o 8).toInt := by rw [← e_4881, q_u_k (by decide)]
                          have t_4889 : (I_4880 o 9).toInt = (I_4857 o 9).toInt := by rw [← e_4881, q_u_k (by decide)]
                          have t_4890 : (I_4880 o 44).toInt = (I_4857 o 44).toInt := by rw [← e_4881, q_u_k (by decide)]
                          have t_4891 : (I_4880 o 45).toInt = (I_4857 o 45).toInt := by rw [← e_4881, q_u_k (by decide)]
                          have t_4892 : (I_4880 o 47).toInt = ((I_4857 o 47) + 1).toInt := by rw [← e_4881, q_u_at]
                          have t_4893 : (I_4880 o 48).toInt = (I_4857 o 48).toInt := by rw [← e_4881, q_u_k (by decide)]
                          have t_4894 : (I_4880 o 46).toInt = (I_4857 o 46).toInt := by rw [← e_4881, q_u_k (by decide)]
                          have k_4895 : MTd I_4880 o := k_4874.fr (by rw [← e_4881]; exact q_u_ne (by omega)) (by rw [← e_4881]; exact q_u_ne (by omega)) (by rw [← e_4881]; exact q_u_ne (by omega))
                          have k_4896 : MPo I_4880 o := k_4875.fr (by rw [← e_4881, q_u_k (by decide)]) (by rw [← e_4881, q_u_k (by decide)])
                          have k_4897 : MTk I_4880 o := k_4876.fr (by rw [← e_4881, q_u_k (by decide)]) (by rw [← e_4881, q_u_k (by decide)]) (by rw [← e_4881, q_u_k (by decide)])
                          have tk := k_4897.2 (by omega)
                          have k_4899 : EX 0 0 1 f0 1 I_4880 o := by exact EX.put47 k_4877 e_4881 (by omega)
                          refine y_Model_nextg hok hw ra hz16 hz17 hz18 hz19 (by first | omega | (intro h; omega) | exact Or.inl rfl | exact Or.inr rfl) hR_4882 (fun I_4910 L_4911 hR_4912 fr_4913 kp_4914 u_4901 u_4902 u_4903 u_4904 u_4905 u_4906 u_4907 u_4908 gn_4909 => ⟨I_4910, L_4911, rfl, rfl, ?_⟩)
                          replace hg := gt_b3 gn_4909 hg
                          clear gn_4909
                          have hf_4915 : Fm (fun c => c = o ∨ (o + 30 ≤ c ∧ c < o + 34)) I0 I_4910 := hf_4883.call fr_4913 (fun c hc => by first | exact hc | (dsimp only at hc ⊢; omega) | omega)
                          have t_4916 : (I_4910 o 3).toInt = (I_4880 o 3).toInt := by rw [kp_4914 3 rfl]
                          have t_4917 : (I_4910 o 4).toInt = (I_4880 o 4).toInt := by rw [kp_4914 4 rfl]
                          have g_4918 : (0 : Int) ≤ (I_4910 o 6).toInt ∧ (I_4910 o 6).toInt ≤ 1600 := hR_4912.at0 ra 6 (by decide)
                          have g_4919 : (0 : Int) ≤ (I_4910 o 7).toInt ∧ (I_4910 o 7).toInt ≤ 1601 := hR_4912.at0 ra 7 (by decide)
                          have g_4920 : (0 : Int) ≤ (I_4910 o 8).toInt ∧ (I_4910 o 8).toInt ≤ 6 := hR_4912.at0 ra 8 (by decide)
                          have t_4921 : (I_4910 o 44).toInt = (I_4880 o 44).toInt := by rw [kp_4914 44 rfl]
                          have t_4922 : (I_4910 o 45).toInt = (I_4880 o 45).toInt := by rw [kp_4914 45 rfl]
                          have t_4923 : (I_4910 o 47).toInt = (I_4880 o 47).toInt := by rw [kp_4914 47 rfl]
                          have t_4924 : (I_4910 o 48).toInt = (I_4880 o 48).toInt := by rw [kp_4914 48 rfl]
                          have t_4925 : (I_4910 o 46).toInt = (I_4880 o 46).toInt := by rw [kp_4914 46 rfl]
                          have k_4926 : MTd I_4910 o := k_4895.fr (fr_4913 _ (by first | omega | (dsimp only; omega))) (fr_4913 _ (by first | omega | (dsimp only; omega))) (fr_4913 _ (by first | omega | (dsimp only; omega)))
                          have ms := u_4904 (by omega)
                          have k_4927 : EX 0 0 0 f0 1 I_4910 o := by exact EX.nx k_4899 (fr_4913 _ (by first | omega | (dsimp only; omega))) (fr_4913 _ (by first | omega | (dsimp only; omega))) (fr_4913 _ (by first | omega | (dsimp only; omega))) (fr_4913 _ (by first | omega | (dsimp only; omega))) (fr_4913 _ (by first | omega | (dsimp only; omega))) (kp_4914 3 rfl) (kp_4914 44 rfl) (kp_4914 45 rfl) (kp_4914 47 rfl) (kp_4914 48 rfl) (by omega) (by omega)
                          exact (hp _ _ _ hR_4912 hf_4915 (Or.inr rfl) (by first | omega | (intro h; omega) | exact Or.inl rfl | exact Or.inr rfl) (by first | omega | (intro h; omega) | exact Or.inl rfl | exact Or.inr rfl) (by first | omega | (intro h; omega) | exact Or.inl rfl | exact Or.inr rfl) (by first | omega | (intro h; omega) | exact Or.inl rfl | exact Or.inr rfl) (by first | omega | (intro h; omega) | exact Or.inl rfl | exact Or.inr rfl) (by clear hg; first | (intro h; exfalso; omega) | exact fun _ => k_4927 | exact fun _ => (False.elim (by omega))) k_4926 u_4907 u_4908 hg.symm)
                        · have d_4928 := iEq c_4849
                          have i_4929 := u_4846 (by omega)
                          replace hg := gt_pos (by first | exact d_4928 | omega) hg
                          exact (hp _ _ _ hR_4748 hf_4749 (Or.inr rfl) (by first | omega | (intro h; omega) | exact Or.inl rfl | exact Or.inr rfl) (by first | omega | (intro h; omega) | exact Or.inl rfl | exact Or.inr rfl) (by first | omega | (intro h; omega) | exact Or.inl rfl | exact Or.inr rfl) (by first | omega | (intro h; omega) | exact Or.inl rfl | exact Or.inr rfl) (by first | omega | (intro h; omega) | exact Or.inl rfl | exact Or.inr rfl) (by clear hg; first | (intro h; exfalso; omega) | exact fun _ => k_4761 | exact fun _ => (False.elim (by omega))) k_4762 k_4763 k_4764 hg.symm)
                      · have d_4930 := iEq c_4841
                        replace hg := gt_pos (by first | exact d_4930 | omega) hg
                        refine y_Model_wrongg hok hw ra hz14 hz15 hR_4748 (fun I_4935 L_4936 hR_4937 fr_4938 kp_4939 u_4932 u_4933 gn_4934 => ⟨I_4935, L_4936, rfl, rfl, ?_⟩)
                        replace hg := gt_b3 gn_4934 hg
                        clear gn_4934
                        have hf_4940 : Fm (fun c => c = o ∨ (o + 30 ≤ c ∧ c < o + 34)) I0 I_4935 := hf_4749.call fr_4938 (fun c hc => by first | exact hc | (dsimp only at hc ⊢; omega) | omega)
                        have t_4941 : (I_4935 o 3).toInt = (I_4746 o 3).toInt := by rw [kp_4939 3 rfl]
                        have g_4942 : (0 : Int) ≤ (I_4935 o 4).toInt ∧ (I_4935 o 4).toInt ≤ 5 := hR_4937.at0 ra 4 (by decide)
                        have t_4943 : (I_4935 o 6).toInt = (I_4746 o 6).toInt := by rw [kp_4939 6 rfl]
                        have t_4944 : (I_4935 o 7).toInt = (I_4746 o 7).toInt := by rw [kp_4939 7 rfl]
                        have t_4945 : (I_4935 o 8).toInt = (I_4746 o 8).toInt := by rw [kp_4939 8 rfl]
                        have t_4946 : (I_4935 o 9).toInt = (I_4746 o 9).toInt := by rw [kp_4939 9 rfl]
                        have t_4947 : (I_4935 o 44).toInt = (I_4746 o 44).toInt := by rw [kp_4939 44 rfl]
                        have t_4948 : (I_4935 o 45).toInt = (I_4746 o 45).toInt := by rw [kp_4939 45 rfl]
                        have t_4949 : (I_4935 o 47).toInt = (I_4746 o 47).toInt := by rw [kp_4939 47 rfl]
                        have t_4950 : (I_4935 o 48).toInt = (I_4746 o 48).toInt := by rw [kp_4939 48 rfl]
                        have t_4951 : (I_4935 o 46).toInt = (I_4746 o 46).toInt := by rw [kp_4939 46 rfl]
                        have k_4952 : EX 0 0 0 f0 1 I_4935 o := k_4761.fr (fr_4938 _ (by first | omega | (dsimp only; omega))) (fr_4938 _ (by first | omega | (dsimp only; omega))) (fr_4938 _ (by first | omega | (dsimp only; omega))) (fr_4938 _ (by first | omega | (dsimp only; omega))) (fr_4938 _ (by first | omega | (dsimp only; omega))) (kp_4939 3 rfl) (kp_4939 6 rfl) (kp_4939 44 rfl) (kp_4939 45 rfl) (kp_4939 47 rfl) (kp_4939 48 rfl)
                        have k_4953 : MTd I_4935 o := k_4762.fr (fr_4938 _ (by first | omega | (dsimp only; omega))) (fr_4938 _ (by first | omega | (dsimp only; omega))) (fr_4938 _ (by first | omega | (dsimp only; omega)))
                        have k_4954 : MPo I_4935 o := k_4763.fr (kp_4939 8 rfl) (kp_4939 9 rfl)
                        have k_4955 : MTk I_4935 o := k_4764.fr (kp_4939 6 rfl) (kp_4939 7 rfl) (kp_4939 8 rfl)
                        refine y_Model_isGoodg hok hw ra hR_4937 (fun r_4956 u_4957 u_4958 u_4959 gn_4960 => ⟨r_4956, I_4935, L_4936, rfl, rfl, ?_⟩)
                        replace hg := gt_let gn_4960 hg
                        clear gn_4960
                        have b_4961 : 0 ≤ r_4956.toInt ∧ r_4956.toInt ≤ 1 := u_4957.rg
                        refine ⟨fun c_4962 => ?_, fun c_4962 => ?_⟩
                        · have d_4963 := iNe c_4962
                          have i_4964 := u_4958 (by omega)
                          replace hg := gt_neg (by first | exact d_4963 | omega) hg
                          refine y_Model_pileg hok hw ra hz58 (by first | omega | (intro h; omega) | exact Or.inl rfl | exact Or.inr rfl) (by first | omega | (intro h; omega) | exact Or.inl rfl | exact Or.inr rfl) hR_4937 (fun I_4970 L_4971 hR_4972 fr_4973 kp_4974 u_4966 u_4967 u_4968 gn_4969 => ⟨I_4970, L_4971, rfl, rfl, ?_⟩)
                          replace hg := gt_b3 gn_4969 hg
                          clear gn_4969
                          have hf_4975 : Fm (fun c => c = o ∨ (o + 30 ≤ c ∧ c < o + 34)) I0 I_4970 := hf_4940.call fr_4973 (fun c hc => by first | exact hc | (dsimp only at hc ⊢; omega) | omega)
                          have t_4976 : (I_4970 o 3).toInt = (I_4935 o 3).toInt := by rw [kp_4974 3 rfl]
                          have t_4977 : (I_4970 o 4).toInt = (I_4935 o 4).toInt := by rw [kp_4974 4 rfl]
                          have t_4978 : (I_4970 o 6).toInt = (I_4935 o 6).toInt := by rw [kp_4974 6 rfl]
                          have t_4979 : (I_4970 o 7).toInt = (I_4935 o 7).toInt := by rw [kp_4974 7 rfl]
                          have t_4980 : (I_4970 o 8).toInt = (I_4935 o 8).toInt := by rw [kp_4974 8 rfl]
                          have t_4981 : (I_4970 o 9).toInt = (I_4935 o 9).toInt := by rw [kp_4974 9 rfl]
                          have t_4982 : (I_4970 o 44).toInt = (I_4935 o 44).toInt := by rw [kp_4974 44 rfl]
                          have t_4983 : (I_4970 o 45).toInt = (I_4935 o 45).toInt := by rw [kp_4974 45 rfl]
                          have t_4984 : (I_4970 o 47).toInt = (I_4935 o 47).toInt := by rw [kp_4974 47 rfl]
                          have g_4985 : (0 : Int) ≤ (I_4970 o 48).toInt ∧ (I_4970 o 48).toInt ≤ 80 := hR_4972.at0 ra 48 (by decide)
                          have t_4986 : (I_4970 o 46).toInt = (I_4935 o 46).toInt := by rw [kp_4974 46 rfl]
                          have k_4987 : MTd I_4970 o := k_4953.fr (fr_4973 _ (by first | omega | (dsimp only; omega))) (fr_4973 _ (by first | omega | (dsimp only; omega))) (fr_4973 _ (by first | omega | (dsimp only; omega)))
                          have k_4988 : MPo I_4970 o := k_4954.fr (kp_4974 8 rfl) (kp_4974 9 rfl)
                          have k_4989 : MTk I_4970 o := k_4955.fr (kp_4974 6 rfl) (kp_4974 7 rfl) (kp_4974 8 rfl)
                          have k_4990 : EX 0 1 1 f0 1 I_4970 o := by have z := EX.push k_4952 (v := 7) (s := 0) (dB := 1) (dO := 0) (wt' := 1) (by decide) (by decide) (by decide) (by omega) ⟨by decide, by decide⟩ ⟨fun h => absurd h (by decide), fun h => absurd h (by decide)⟩ (Or.inl rfl) (fr_4973 _ (by first | omega | (dsimp only; omega))) (fr_4973 _ (by first | omega | (dsimp only; omega))) (fr_4973 _ (by first | omega | (dsimp only; omega))) u_4966 u_4967 (kp_4974 3 rfl) (kp_4974 6 rfl) (kp_4974 44 rfl) (kp_4974 45 rfl) (kp_4974 47 rfl) u_4968; exact EX.chg (b' := 1) z rfl rfl rfl rfl rfl rfl rfl rfl rfl rfl (by omega) z.pl
                          have g_4991 : (0 : Int) ≤ (I_4970 o 47).toInt ∧ (I_4970 o 47).toInt ≤ 7 := hR_4972.at0 ra 47 (by decide)
                          replace hg := gt_let (y := (I_4970 o 47).toInt) rfl hg
                          have a_4992 : ((I_4970 o 47) + 1).toInt = (I_4970 o 47).toInt + (1 : Int32).toInt := tAdd (by omega) (by omega)
                          replace hg := gt_let (y := (((I_4970 o 47) + 1) : Int32).toInt) (by omega) hg
                          refine fun I_4993 e_4994 => ?_
                          replace hg := gt_let (y := tI I_4993) (tI_q e_4994) hg
                          have hR_4995 : RI R I_4993 := hR_4972.up0 (k := 47) ra (by decide) (Or.inr hz57) e_4994 (show (0 : Int) ≤ ((I_4970 o 47) + 1).toInt by omega) (show ((I_4970 o 47) + 1).toInt ≤ (7 : Int) by omega)
                          have hf_4996 : Fm (fun c => c = o ∨ (o + 30 ≤ c ∧ c < o + 34)) I0 I_4993 := hf_4975.set (by first | rfl | omega | (dsimp only; omega)) e_4994
                          have t_4997 : (I_4993 o 3).toInt = (I_4970 o 3).toInt := by rw [← e_4994, q_u_k (by decide)]
                          have t_4998 : (I_4993 o 4).toInt = (I_4970 o 4).toInt := by rw [← e_4994, q_u_k (by decide)]
                          have t_4999 : (I_4993 o 6).toInt = (I_4970 o 6).toInt := by rw [← e_4994, q_u_k (by decide)]
                          have t_5000 : (I_4993 o 7).toInt = (I_4970 o 7).toInt := by rw [← e_4994, q_u_k (by decide)]
                          have t_5001 : (I_4993 o 8).toInt = (I_4970 o 8).toInt := by rw [← e_4994, q_u_k (by decide)]
                          have t_5002 : (I_4993 o 9).toInt = (I_4970 o 9).toInt := by rw [← e_4994, q_u_k (by decide)]
                          have t_5003 : (I_4993 o 44).toInt = (I_4970 o 44).toInt := by rw [← e_4994, q_u_k (by decide)]
                          have t_5004 : (I_4993 o 45).toInt = (I_4970 o 45).toInt := by rw [← e_4994, q_u_k (by decide)]
                          have t_5005 : (I_4993 o 47).toInt = ((I_4970 o 47) + 1).toInt := by rw [← e_4994, q_u_at]
                          have t_5006 : (I_4993 o 48).toInt = (I_4970 o 48).toInt := by rw [← e_4994, q_u_k (by decide)]
                          have t_5007 : (I_4993 o 46).toInt = (I_4970 o 46).toInt := by rw [← e_4994, q_u_k (by decide)]
                          have k_5008 : MTd I_4993 o := k_4987.fr (by rw [← e_4994]; exact q_u_ne (by omega)) (by rw [← e_4994]; exact q_u_ne (by omega)) (by rw [← e_4994]; exact q_u_ne (by omega))
                          have k_5009 : MPo I_4993 o := k_4988.fr (by rw [← e_4994, q_u_k (by decide)]) (by rw [← e_4994, q_u_k (by decide)])
                          have k_5010 : MTk I_4993 o := k_4989.fr (by rw [← e_4994, q_u_k (by decide)]) (by rw [← e_4994, q_u_k (by decide)]) (by rw [← e_4994, q_u_k (by decide)])
                          have tk := k_5010.2 (by omega)
                          have k_5012 : EX 0 0 1 f0 1 I_4993 o := by exact EX.put47 k_4990 e_4994 (by omega)
                          refine y_Model_nextg hok hw ra hz16 hz17 hz18 hz19 (by first | omega | (intro h; omega) | exact Or.inl rfl | exact Or.inr rfl) hR_4995 (fun I_5023 L_5024 hR_5025 fr_5026 kp_5027 u_5014 u_5015 u_5016 u_5017 u_5018 u_5019 u_5020 u_5021 gn_5022 => ⟨I_5023, L_5024, rfl, rfl, ?_⟩)
                          replace hg := gt_b3 gn_5022 hg
                          clear gn_5022
                          have hf_5028 : Fm (fun c => c = o ∨ (o + 30 ≤ c ∧ c < o + 34)) I0 I_5023 := hf_4996.call fr_5026 (fun c hc => by first | exact hc | (dsimp only at hc ⊢; omega) | omega)
                          have t_5029 : (I_5023 o 3).toInt = (I_4993 o 3).toInt := by rw [kp_5027 3 rfl]
                          have t_5030 : (I_5023 o 4).toInt = (I_4993 o 4).toInt := by rw [kp_5027 4 rfl]
                          have g_5031 : (0 : Int) ≤ (I_5023 o 6).toInt ∧ (I_5023 o 6).toInt ≤ 1600 := hR_5025.at0 ra 6 (by decide)
                          have g_5032 : (0 : Int) ≤ (I_5023 o 7).toInt ∧ (I_5023 o 7).toInt ≤ 1601 := hR_5025.at0 ra 7 (by decide)
                          have g_5033 : (0 : Int) ≤ (I_5023 o 8).toInt ∧ (I_5023 o 8).toInt ≤ 6 := hR_5025.at0 ra 8 (by decide)
                          have t_5034 : (I_5023 o 44).toInt = (I_4993 o 44).toInt := by rw [kp_5027 44 rfl]
                          have t_5035 : (I_5023 o 45).toInt = (I_4993 o 45).toInt := by rw [kp_5027 45 rfl]
                          have t_5036 : (I_5023 o 47).toInt = (I_4993 o 47).toInt := by rw [kp_5027 47 rfl]
                          have t_5037 : (I_5023 o 48).toInt = (I_4993 o 48).toInt := by rw [kp_5027 48 rfl]
                          have t_5038 : (I_5023 o 46).toInt = (I_4993 o 46).toInt := by rw [kp_5027 46 rfl]
                          have k_5039 : MTd I_5023 o := k_5008.fr (fr_5026 _ (by first | omega | (dsimp only; omega))) (fr_5026 _ (by first | omega | (dsimp only; omega))) (fr_5026 _ (by first | omega | (dsimp only; omega)))
                          have ms := u_5017 (by omega)
                          have k_5040 : EX 0 0 0 f0 1 I_5023 o := by exact EX.nx k_5012 (fr_5026 _ (by first | omega | (dsimp only; omega))) (fr_5026 _ (by first | omega | (dsimp only; omega))) (fr_5026 _ (by first | omega | (dsimp only; omega))) (fr_5026 _ (by first | omega | (dsimp only; omega))) (fr_5026 _ (by first | omega | (dsimp only; omega))) (kp_5027 3 rfl) (kp_5027 44 rfl) (kp_5027 45 rfl) (kp_5027 47 rfl) (kp_5027 48 rfl) (by omega) (by omega)
                          exact (hp _ _ _ hR_5025 hf_5028 (Or.inr rfl) (by first | omega | (intro h; omega) | exact Or.inl rfl | exact Or.inr rfl) (by first | omega | (intro h; omega) | exact Or.inl rfl | exact Or.inr rfl) (by first | omega | (intro h; omega) | exact Or.inl rfl | exact Or.inr rfl) (by first | omega | (intro h; omega) | exact Or.inl rfl | exact Or.inr rfl) (by first | omega | (intro h; omega) | exact Or.inl rfl | exact Or.inr rfl) (by clear hg; first | (intro h; exfalso; omega) | exact fun _ => k_5040 | exact fun _ => (False.elim (by omega))) k_5039 u_5020 u_5021 hg.symm)
                        · have d_5041 := iEq c_4962
                          have i_5042 := u_4959 (by omega)
                          replace hg := gt_pos (by first | exact d_5041 | omega) hg
                          exact (hp _ _ _ hR_4937 hf_4940 (Or.inr rfl) (by first | omega | (intro h; omega) | exact Or.inl rfl | exact Or.inr rfl) (by first | omega | (intro h; omega) | exact Or.inl rfl | exact Or.inr rfl) (by first | omega | (intro h; omega) | exact Or.inl rfl | exact Or.inr rfl) (by first | omega | (intro h; omega) | exact Or.inl rfl | exact Or.inr rfl) (by first | omega | (intro h; omega) | exact Or.inl rfl | exact Or.inr rfl) (by clear hg; first | (intro h; exfalso; omega) | exact fun _ => k_4952 | exact fun _ => (False.elim (by omega))) k_4953 k_4954 k_4955 hg.symm)
                  · have d_5043 := iEq c_4741
                    have i_5044 := u_4738 (by omega)
                    replace hg := gt_pos (by first | exact d_5043 | omega) hg
                    exact (hp _ _ _ hR_2822 hf_2825 (Or.inr rfl) (by first | omega | (intro h; omega) | exact Or.inl rfl | exact Or.inr rfl) (by first | omega | (intro h; omega) | exact Or.inl rfl | exact Or.inr rfl) (by first | omega | (intro h; omega) | exact Or.inl rfl | exact Or.inr rfl) (by first | omega | (intro h; omega) | exact Or.inl rfl | exact Or.inr rfl) (by first | omega | (intro h; omega) | exact Or.inl rfl | exact Or.inr rfl) (by clear hg; first | (intro h; exfalso; omega) | exact fun _ => k_2836 | exact fun _ => (False.elim (by omega))) k_2837 k_2838 k_2839 hg.symm)
                · have d_5045 := iEq c_4733
                  replace hg := gt_pos (by first | exact d_5045 | omega) hg
                  unfold fModel_unit_140
                  replace hg := (eModel_unit_140).symm.trans hg
                  refine y_Model_wrongg hok hw ra hz14 hz15 hR_2822 (fun I_5050 L_5051 hR_5052 fr_5053 kp_5054 u_5047 u_5048 gn_5049 => ⟨I_5050, L_5051, rfl, rfl, ?_⟩)
                  replace hg := gt_b3 gn_5049 hg
                  clear gn_5049
                  have hf_5055 : Fm (fun c => c = o ∨ (o + 30 ≤ c ∧ c < o + 34)) I0 I_5050 := hf_2825.call fr_5053 (fun c hc => by first | exact hc | (dsimp only at hc ⊢; omega) | omega)
                  have t_5056 : (I_5050 o 3).toInt = (I_2820 o 3).toInt := by rw [kp_5054 3 rfl]
                  have g_5057 : (0 : Int) ≤ (I_5050 o 4).toInt ∧ (I_5050 o 4).toInt ≤ 5 := hR_5052.at0 ra 4 (by decide)
                  have t_5058 : (I_5050 o 6).toInt = (I_2820 o 6).toInt := by rw [kp_5054 6 rfl]
                  have t_5059 : (I_5050 o 7).toInt = (I_2820 o 7).toInt := by rw [kp_5054 7 rfl]
                  have t_5060 : (I_5050 o 8).toInt = (I_2820 o 8).toInt := by rw [kp_5054 8 rfl]
                  have t_5061 : (I_5050 o 9).toInt = (I_2820 o 9).toInt := by rw [kp_5054 9 rfl]
                  have t_5062 : (I_5050 o 44).toInt = (I_2820 o 44).toInt := by rw [kp_5054 44 rfl]
                  have t_5063 : (I_5050 o 45).toInt = (I_2820 o 45).toInt := by rw [kp_5054 45 rfl]
                  have t_5064 : (I_5050 o 47).toInt = (I_2820 o 47).toInt := by rw [kp_5054 47 rfl]
                  have t_5065 : (I_5050 o 48).toInt = (I_2820 o 48).toInt := by rw [kp_5054 48 rfl]
                  have t_5066 : (I_5050 o 46).toInt = (I_2820 o 46).toInt := by rw [kp_5054 46 rfl]
                  have k_5067 : EX 0 0 0 f0 1 I_5050 o := k_2836.fr (fr_5053 _ (by first | omega | (dsimp only; omega))) (fr_5053 _ (by first | omega | (dsimp only; omega))) (fr_5053 _ (by first | omega | (dsimp only; omega))) (fr_5053 _ (by first | omega | (dsimp only; omega))) (fr_5053 _ (by first | omega | (dsimp only; omega))) (kp_5054 3 rfl) (kp_5054 6 rfl) (kp_5054 44 rfl) (kp_5054 45 rfl) (kp_5054 47 rfl) (kp_5054 48 rfl)
                  have k_5068 : MTd I_5050 o := k_2837.fr (fr_5053 _ (by first | omega | (dsimp only; omega))) (fr_5053 _ (by first | omega | (dsimp only; omega))) (fr_5053 _ (by first | omega | (dsimp only; omega)))
                  have k_5069 : MPo I_5050 o := k_2838.fr (kp_5054 8 rfl) (kp_5054 9 rfl)
                  have k_5070 : MTk I_5050 o := k_2839.fr (kp_5054 6 rfl) (kp_5054 7 rfl) (kp_5054 8 rfl)
                  refine y_Model_isGoodg hok hw ra hR_5052 (fun r_5071 u_5072 u_5073 u_5074 gn_5075 => ⟨r_5071, I_5050, L_5051, rfl, rfl, ?_⟩)
                  replace hg := gt_let gn_5075 hg
                  clear gn_5075
                  have b_5076 : 0 ≤ r_5071.toInt ∧ r_5071.toInt ≤ 1 := u_5072.rg
                  refine ⟨fun c_5077 => ?_, fun c_5077 => ?_⟩
                  · have d_5078 := iNe c_5077
                    have i_5079 := u_5073 (by omega)
                    replace hg := gt_neg (by first | exact d_5078 | omega) hg
                    have g_5080 : (0 : Int) ≤ (I_5050 o 46).toInt ∧ (I_5050 o 46).toInt ≤ 100 := hR_5052.at0 ra 46 (by decide)
                    replace hg := gt_let (y := (I_5050 o 46).toInt) rfl hg
                    have a_5081 : ((I_5050 o 46) + 1).toInt = (I_5050 o 46).toInt + (1 : Int32).toInt := tAdd (by omega) (by omega)
                    replace hg := gt_let (y := (((I_5050 o 46) + 1) : Int32).toInt) (by omega) hg
                    refine fun I_5082 e_5083 => ?_
                    replace hg := gt_let (y := tI I_5082) (tI_q e_5083) hg
                    have hR_5084 : RI R I_5082 := hR_5052.up0 (k := 46) ra (by decide) (Or.inr hz56) e_5083 (show (0 : Int) ≤ ((I_5050 o 46) + 1).toInt by omega) (show ((I_5050 o 46) + 1).toInt ≤ (100 : Int) by omega)
                    have hf_5085 : Fm (fun c => c = o ∨ (o + 30 ≤ c ∧ c < o + 34)) I0 I_5082 := hf_5055.set (by first | rfl | omega | (dsimp only; omega)) e_5083
                    have t_5086 : (I_5082 o 3).toInt = (I_5050 o 3).toInt := by rw [← e_5083, q_u_k (by decide)]
                    have t_5087 : (I_5082 o 4).toInt = (I_5050 o 4).toInt := by rw [← e_5083, q_u_k (by decide)]
                    have t_5088 : (I_5082 o 6).toInt = (I_5050 o 6).toInt := by rw [← e_5083, q_u_k (by decide)]
                    have t_5089 : (I_5082 o 7).toInt = (I_5050 o 7).toInt := by rw [← e_5083, q_u_k (by decide)]
                    have t_5090 : (I_5082 o 8).toInt = (I_5050 o 8).toInt := by rw [← e_5083, q_u_k (by decide)]
                    have t_5091 : (I_5082 o 9).toInt = (I_5050 o 9).toInt := by rw [← e_5083, q_u_k (by decide)]
                    have t_5092 : (I_5082 o 44).toInt = (I_5050 o 44).toInt := by rw [← e_5083, q_u_k (by decide)]
                    have t_5093 : (I_5082 o 45).toInt = (I_5050 o 45).toInt := by rw [← e_5083, q_u_k (by decide)]
                    have t_5094 : (I_5082 o 47).toInt = (I_5050 o 47).toInt := by rw [← e_5083, q_u_k (by decide)]
                    have t_5095 : (I_5082 o 48).toInt = (I_5050 o 48).toInt := by rw [← e_5083, q_u_k (by decide)]
                    have t_5096 : (I_5082 o 46).toInt = ((I_5050 o 46) + 1).toInt := by rw [← e_5083, q_u_at]
                    have k_5097 : EX 0 0 0 f0 1 I_5082 o := k_5067.fr (by rw [← e_5083]; exact q_u_ne (by omega)) (by rw [← e_5083]; exact q_u_ne (by omega)) (by rw [← e_5083]; exact q_u_ne (by omega)) (by rw [← e_5083]; exact q_u_ne (by omega)) (by rw [← e_5083]; exact q_u_ne (by omega)) (by rw [← e_5083, q_u_k (by decide)]) (by rw [← e_5083, q_u_k (by decide)]) (by rw [← e_5083, q_u_k (by decide)]) (by rw [← e_5083, q_u_k (by decide)]) (by rw [← e_5083, q_u_k (by decide)]) (by rw [← e_5083, q_u_k (by decide)])
                    have k_5098 : MTd I_5082 o := k_5068.fr (by rw [← e_5083]; exact q_u_ne (by omega)) (by rw [← e_5083]; exact q_u_ne (by omega)) (by rw [← e_5083]; exact q_u_ne (by omega))
                    have k_5099 : MPo I_5082 o := k_5069.fr (by rw [← e_5083, q_u_k (by decide)]) (by rw [← e_5083, q_u_k (by decide)])
                    have k_5100 : MTk I_5082 o := k_5070.fr (by rw [← e_5083, q_u_k (by decide)]) (by rw [← e_5083, q_u_k (by decide)]) (by rw [← e_5083, q_u_k (by decide)])
                    refine y_Model_isg hok hw ra hR_5084 (fun r_5101 u_5102 u_5103 u_5104 gn_5105 => ⟨r_5101, I_5082, L_5051, rfl, rfl, ?_⟩)
                    replace hg := gt_let gn_5105 hg
                    clear gn_5105
                    have b_5106 : 0 ≤ r_5101.toInt ∧ r_5101.toInt ≤ 1 := u_5102.rg
                    refine ⟨fun c_5107 => ?_, fun c_5107 => ?_⟩
                    · have d_5108 := iEq c_5107
                      replace hg := gt_pos (by first | exact d_5108 | omega) hg
                      have cd := k_5097.cod
                      have tk := k_5100.2 (by omega)
                      refine ⟨fun c_5109 => ?_, fun c_5109 => ?_⟩
                      · have d_5110 := iNe c_5109
                        have i_5111 := u_2816 (by omega)
                        have i_5112 := u_2817 (by omega)
                        exfalso; omega
                      · have d_5113 := iEq c_5109
                        replace hg := gt_pos (by first | exact d_5113 | omega) hg
                        unfold fModel_unit_228
                        replace hg := (eModel_unit_228).symm.trans hg
                        have l_5114 : (78 : Int32).toInt = 78 := rfl
                        refine ⟨fun c_5115 => ?_, fun c_5115 => ?_⟩
                        · have d_5116 := iNe c_5115
                          have i_5117 := u_2816 (by omega)
                          have i_5118 := u_2817 (by omega)
                          exfalso; omega
                        · have d_5119 := iEq c_5115
                          replace hg := gt_pos (by first | exact d_5119 | omega) hg
                          replace hg := gt_let (y := (I_5082 o 9).toInt) rfl hg
                          refine y_Model_stepg hok hw ra hz55 (by first | omega | (intro h; omega) | exact Or.inl rfl | exact Or.inr rfl) (by first | omega | (intro h; omega) | exact Or.inl rfl | exact Or.inr rfl) hR_5084 (fun I_5124 L_5125 hR_5126 fr_5127 kp_5128 u_5121 u_5122 gn_5123 => ⟨I_5124, L_5125, rfl, rfl, ?_⟩)
                          replace hg := gt_b3 gn_5123 hg
                          clear gn_5123
                          have hf_5129 : Fm (fun c => c = o ∨ (o + 30 ≤ c ∧ c < o + 34)) I0 I_5124 := hf_5085.call fr_5127 (fun c hc => by first | exact hc | (dsimp only at hc ⊢; omega) | omega)
                          have t_5130 : (I_5124 o 3).toInt = (I_5082 o 3).toInt := by rw [kp_5128 3 rfl]
                          have t_5131 : (I_5124 o 4).toInt = (I_5082 o 4).toInt := by rw [kp_5128 4 rfl]
                          have t_5132 : (I_5124 o 6).toInt = (I_5082 o 6).toInt := by rw [kp_5128 6 rfl]
                          have t_5133 : (I_5124 o 7).toInt = (I_5082 o 7).toInt := by rw [kp_5128 7 rfl]
                          have t_5134 : (I_5124 o 8).toInt = (I_5082 o 8).toInt := by rw [kp_5128 8 rfl]
                          have t_5135 : (I_5124 o 9).toInt = (I_5082 o 9).toInt := by rw [kp_5128 9 rfl]
                          have t_5136 : (I_5124 o 44).toInt = (I_5082 o 44).toInt := by rw [kp_5128 44 rfl]
                          have g_5137 : (0 : Int) ≤ (I_5124 o 45).toInt ∧ (I_5124 o 45).toInt ≤ 700 := hR_5126.at0 ra 45 (by decide)
                          have t_5138 : (I_5124 o 47).toInt = (I_5082 o 47).toInt := by rw [kp_5128 47 rfl]
                          have t_5139 : (I_5124 o 48).toInt = (I_5082 o 48).toInt := by rw [kp_5128 48 rfl]
                          have t_5140 : (I_5124 o 46).toInt = (I_5082 o 46).toInt := by rw [kp_5128 46 rfl]
                          have k_5141 : MPo I_5124 o := k_5099.fr (kp_5128 8 rfl) (kp_5128 9 rfl)
                          have k_5142 : MTk I_5124 o := k_5100.fr (kp_5128 6 rfl) (kp_5128 7 rfl) (kp_5128 8 rfl)
                          have tk := k_5142.2 (by omega)
                          have k_5143 : EX 0 0 1 f0 0 I_5124 o := by exact EX.step1 k_5097 (by first | exact u_2816 (by omega) | (unfold isT; decide)) (by omega) (fr_5127 _ (by first | omega | (dsimp only; omega))) (fr_5127 _ (by first | omega | (dsimp only; omega))) u_5121 (fr_5127 _ (by first | omega | (dsimp only; omega))) (fr_5127 _ (by first | omega | (dsimp only; omega))) (kp_5128 3 rfl) (kp_5128 6 rfl) (kp_5128 44 rfl) u_5122 (kp_5128 47 rfl) (kp_5128 48 rfl)
                          have k_5144 : MTd I_5124 o := by exact MTd.step k_5098 (fr_5127 _ (by first | omega | (dsimp only; omega))) (fr_5127 _ (by first | omega | (dsimp only; omega))) u_5121 (by omega)
                          refine y_Model_nextg hok hw ra hz16 hz17 hz18 hz19 (by first | omega | (intro h; omega) | exact Or.inl rfl | exact Or.inr rfl) hR_5126 (fun I_5155 L_5156 hR_5157 fr_5158 kp_5159 u_5146 u_5147 u_5148 u_5149 u_5150 u_5151 u_5152 u_5153 gn_5154 => ⟨I_5155, L_5156, rfl, rfl, ?_⟩)
                          replace hg := gt_b3 gn_5154 hg
                          clear gn_5154
                          have hf_5160 : Fm (fun c => c = o ∨ (o + 30 ≤ c ∧ c < o + 34)) I0 I_5155 := hf_5129.call fr_5158 (fun c hc => by first | exact hc | (dsimp only at hc ⊢; omega) | omega)
                          have t_5161 : (I_5155 o 3).toInt = (I_5124 o 3).toInt := by rw [kp_5159 3 rfl]
                          have t_5162 : (I_5155 o 4).toInt = (I_5124 o 4).toInt := by rw [kp_5159 4 rfl]
                          have g_5163 : (0 : Int) ≤ (I_5155 o 6).toInt ∧ (I_5155 o 6).toInt ≤ 1600 := hR_5157.at0 ra 6 (by decide)
                          have g_5164 : (0 : Int) ≤ (I_5155 o 7).toInt ∧ (I_5155 o 7).toInt ≤ 1601 := hR_5157.at0 ra 7 (by decide)
                          have g_5165 : (0 : Int) ≤ (I_5155 o 8).toInt ∧ (I_5155 o 8).toInt ≤ 6 := hR_5157.at0 ra 8 (by decide)
                          have t_5166 : (I_5155 o 44).toInt = (I_5124 o 44).toInt := by rw [kp_5159 44 rfl]
                          have t_5167 : (I_5155 o 45).toInt = (I_5124 o 45).toInt := by rw [kp_5159 45 rfl]
                          have t_5168 : (I_5155 o 47).toInt = (I_5124 o 47).toInt := by rw [kp_5159 47 rfl]
                          have t_5169 : (I_5155 o 48).toInt = (I_5124 o 48).toInt := by rw [kp_5159 48 rfl]
                          have t_5170 : (I_5155 o 46).toInt = (I_5124 o 46).toInt := by rw [kp_5159 46 rfl]
                          have k_5171 : MTd I_5155 o := k_5144.fr (fr_5158 _ (by first | omega | (dsimp only; omega))) (fr_5158 _ (by first | omega | (dsimp only; omega))) (fr_5158 _ (by first | omega | (dsimp only; omega)))
                          have ms := u_5149 (by omega)
                          have k_5172 : EX 0 0 0 f0 0 I_5155 o := by exact EX.nx k_5143 (fr_5158 _ (by first | omega | (dsimp only; omega))) (fr_5158 _ (by first | omega | (dsimp only; omega))) (fr_5158 _ (by first | omega | (dsimp only; omega))) (fr_5158 _ (by first | omega | (dsimp only; omega))) (fr_5158 _ (by first | omega | (dsimp only; omega))) (kp_5159 3 rfl) (kp_5159 44 rfl) (kp_5159 45 rfl) (kp_5159 47 rfl) (kp_5159 48 rfl) (by omega) (by omega)
                          exact (hp _ _ _ hR_5157 hf_5160 (Or.inl rfl) (by first | omega | (intro h; omega) | exact Or.inl rfl | exact Or.inr rfl) (by first | omega | (intro h; omega) | exact Or.inl rfl | exact Or.inr rfl) (by first | omega | (intro h; omega) | exact Or.inl rfl | exact Or.inr rfl) (by first | omega | (intro h; omega) | exact Or.inl rfl | exact Or.inr rfl) (by first | omega | (intro h; omega) | exact Or.inl rfl | exact Or.inr rfl) (by clear hg; first | (intro h; exfalso; omega) | exact fun _ => (False.elim (by omega)) | exact fun _ => k_5172) k_5171 u_5152 u_5153 hg.symm)
                    · have d_5173 := iNe c_5107
                      have i_5174 := u_5103 (by omega)
                      have i_5175 := u_5104 (by omega)
                      replace hg := gt_neg (by first | exact d_5173 | omega) hg
                      have g_5176 : (0 : Int) ≤ (I_5082 o 47).toInt ∧ (I_5082 o 47).toInt ≤ 7 := hR_5084.at0 ra 47 (by decide)
                      replace hg := gt_let (y := (I_5082 o 47).toInt) rfl hg
                      refine ⟨fun c_5177 => ?_, fun c_5177 => ?_⟩
                      · have d_5178 := iNe c_5177
                        replace hg := gt_neg (by first | exact d_5178 | omega) hg
                        refine y_Model_isGoodg hok hw ra hR_5084 (fun r_5179 u_5180 u_5181 u_5182 gn_5183 => ⟨r_5179, I_5082, L_5051, rfl, rfl, ?_⟩)
                        replace hg := gt_let gn_5183 hg
                        clear gn_5183
                        have b_5184 : 0 ≤ r_5179.toInt ∧ r_5179.toInt ≤ 1 := u_5180.rg
                        refine ⟨fun c_5185 => ?_, fun c_5185 => ?_⟩
                        · have d_5186 := iNe c_5185
                          have i_5187 := u_5181 (by omega)
                          replace hg := gt_neg (by first | exact d_5186 | omega) hg
                          refine y_Model_pileg hok hw ra hz58 (by first | omega | (intro h; omega) | exact Or.inl rfl | exact Or.inr rfl) (by first | omega | (intro h; omega) | exact Or.inl rfl | exact Or.inr rfl) hR_5084 (fun I_5193 L_5194 hR_5195 fr_5196 kp_5197 u_5189 u_5190 u_5191 gn_5192 => ⟨I_5193, L_5194, rfl, rfl, ?_⟩)
                          replace hg := gt_b3 gn_5192 hg
                          clear gn_5192
                          have hf_5198 : Fm (fun c => c = o ∨ (o + 30 ≤ c ∧ c < o + 34)) I0 I_5193 := hf_5085.call fr_5196 (fun c hc => by first | exact hc | (dsimp only at hc ⊢; omega) | omega)
                          have t_5199 : (I_5193 o 3).toInt = (I_5082 o 3).toInt := by rw [kp_5197 3 rfl]
                          have t_5200 : (I_5193 o 4).toInt = (I_5082 o 4).toInt := by rw [kp_5197 4 rfl]
                          have t_5201 : (I_5193 o 6).toInt = (I_5082 o 6).toInt := by rw [kp_5197 6 rfl]
                          have t_5202 : (I_5193 o 7).toInt = (I_5082 o 7).toInt := by rw [kp_5197 7 rfl]
                          have t_5203 : (I_5193 o 8).toInt = (I_5082 o 8).toInt := by rw [kp_5197 8 rfl]
                          have t_5204 : (I_5193 o 9).toInt = (I_5082 o 9).toInt := by rw [kp_5197 9 rfl]
                          have t_5205 : (I_5193 o 44).toInt = (I_5082 o 44).toInt := by rw [kp_5197 44 rfl]
                          have t_5206 : (I_5193 o 45).toInt = (I_5082 o 45).toInt := by rw [kp_5197 45 rfl]
                          have t_5207 : (I_5193 o 47).toInt = (I_5082 o 47).toInt := by rw [kp_5197 47 rfl]
                          have g_5208 : (0 : Int) ≤ (I_5193 o 48).toInt ∧ (I_5193 o 48).toInt ≤ 80 := hR_5195.at0 ra 48 (by decide)
                          have t_5209 : (I_5193 o 46).toInt = (I_5082 o 46).toInt := by rw [kp_5197 46 rfl]
                          have k_5210 : MTd I_5193 o := k_5098.fr (fr_5196 _ (by first | omega | (dsimp only; omega))) (fr_5196 _ (by first | omega | (dsimp only; omega))) (fr_5196 _ (by first | omega | (dsimp only; omega)))
                          have k_5211 : MPo I_5193 o := k_5099.fr (kp_5197 8 rfl) (kp_5197 9 rfl)
                          have k_5212 : MTk I_5193 o := k_5100.fr (kp_5197 6 rfl) (kp_5197 7 rfl) (kp_5197 8 rfl)
                          have k_5213 : EX 0 1 1 f0 1 I_5193 o := by have z := EX.push k_5097 (v := 7) (s := 0) (dB := 1) (dO := 0) (wt' := 1) (by decide) (by decide) (by decide) (by omega) ⟨by decide, by decide⟩ ⟨fun h => absurd h (by decide), fun h => absurd h (by decide)⟩ (Or.inl rfl) (fr_5196 _ (by first | omega | (dsimp only; omega))) (fr_5196 _ (by first | omega | (dsimp only; omega))) (fr_5196 _ (by first | omega | (dsimp only; omega))) u_5189 u_5190 (kp_5197 3 rfl) (kp_5197 6 rfl) (kp_5197 44 rfl) (kp_5197 45 rfl) (kp_5197 47 rfl) u_5191; exact EX.chg (b' := 1) z rfl rfl rfl rfl rfl rfl rfl rfl rfl rfl (by omega) z.pl
                          have g_5214 : (0 : Int) ≤ (I_5193 o 47).toInt ∧ (I_5193 o 47).toInt ≤ 7 := hR_5195.at0 ra 47 (by decide)
                          replace hg := gt_let (y := (I_5193 o 47).toInt) rfl hg
                          have a_5215 : ((I_5193 o 47) + 1).toInt = (I_5193 o 47).toInt + (1 : Int32).toInt := tAdd (by omega) (by omega)
                          replace hg := gt_let (y := (((I_5193 o 47) + 1) : Int32).toInt) (by omega) hg
                          refine fun I_5216 e_5217 => ?_
                          replace hg := gt_let (y := tI I_5216) (tI_q e_5217) hg
                          have hR_5218 : RI R I_5216 := hR_5195.up0 (k := 47) ra (by decide) (Or.inr hz57) e_5217 (show (0 : Int) ≤ ((I_5193 o 47) + 1).toInt by omega) (show ((I_5193 o 47) + 1).toInt ≤ (7 : Int) by omega)
                          have hf_5219 : Fm (fun c => c = o ∨ (o + 30 ≤ c ∧ c < o + 34)) I0 I_5216 := hf_5198.set (by first | rfl | omega | (dsimp only; omega)) e_5217
                          have t_5220 : (I_5216 o 3).toInt = (I_5193 o 3).toInt := by rw [← e_5217, q_u_k (by decide)]
                          have t_5221 : (I_5216 o 4).toInt = (I_5193 o 4).toInt := by rw [← e_5217, q_u_k (by decide)]
                          have t_5222 : (I_5216 o 6).toInt = (I_5193 o 6).toInt := by rw [← e_5217, q_u_k (by decide)]
                          have t_5223 : (I_5216 o 7).toInt = (I_5193 o 7).toInt := by rw [← e_5217, q_u_k (by decide)]
                          have t_5224 : (I_5216 o 8).toInt = (I_5193 o 8).toInt := by rw [← e_5217, q_u_k (by decide)]
                          have t_5225 : (I_5216 o 9).toInt = (I_5193 o 9).toInt := by rw [← e_5217, q_u_k (by decide)]
                          have t_5226 : (I_5216 o 44).toInt = (I_5193 o 44).toInt := by rw [← e_5217, q_u_k (by decide)]
                          have t_5227 : (I_5216 o 45).toInt = (I_5193 o 45).toInt := by rw [← e_5217, q_u_k (by decide)]
                          have t_5228 : (I_5216 o 47).toInt = ((I_5193 o 47) + 1).toInt := by rw [← e_5217, q_u_at]
                          have t_5229 : (I_5216 o 48).toInt = (I_5193 o 48).toInt := by rw [← e_5217, q_u_k (by decide)]
                          have t_5230 : (I_5216 o 46).toInt = (I_5193 o 46).toInt := by rw [← e_5217, q_u_k (by decide)]
                          have k_5231 : MTd I_5216 o := k_5210.fr (by rw [← e_5217]; exact q_u_ne (by omega)) (by rw [← e_5217]; exact q_u_ne (by omega)) (by rw [← e_5217]; exact q_u_ne (by omega))
                          have k_5232 : MPo I_5216 o := k_5211.fr (by rw [← e_5217, q_u_k (by decide)]) (by rw [← e_5217, q_u_k (by decide)])
                          have k_5233 : MTk I_5216 o := k_5212.fr (by rw [← e_5217, q_u_k (by decide)]) (by rw [← e_5217, q_u_k (by decide)]) (by rw [← e_5217, q_u_k (by decide)])
                          have tk := k_5233.2 (by omega)
                          have k_5235 : EX 0 0 1 f0 1 I_5216 o := by exact EX.put47 k_5213 e_5217 (by omega)
                          refine y_Model_nextg hok hw ra hz16 hz17 hz18 hz19 (by first | omega | (intro h; omega) | exact Or.inl rfl | exact Or.inr rfl) hR_5218 (fun I_5246 L_5247 hR_5248 fr_5249 kp_5250 u_5237 u_5238 u_5239 u_5240 u_5241 u_5242 u_5243 u_5244 gn_5245 => ⟨I_5246, L_5247, rfl, rfl, ?_⟩)
                          replace hg := gt_b3 gn_5245 hg
                          clear gn_5245
                          have hf_5251 : Fm (fun c => c = o ∨ (o + 30 ≤ c ∧ c < o + 34)) I0 I_5246 := hf_5219.call fr_5249 (fun c hc => by first | exact hc | (dsimp only at hc ⊢; omega) | omega)
                          have t_5252 : (I_5246 o 3).toInt = (I_5216 o 3).toInt := by rw [kp_5250 3 rfl]
                          have t_5253 : (I_5246 o 4).toInt = (I_5216 o 4).toInt := by rw [kp_5250 4 rfl]
                          have g_5254 : (0 : Int) ≤ (I_5246 o 6).toInt ∧ (I_5246 o 6).toInt ≤ 1600 := hR_5248.at0 ra 6 (by decide)
                          have g_5255 : (0 : Int) ≤ (I_5246 o 7).toInt ∧ (I_5246 o 7).toInt ≤ 1601 := hR_5248.at0 ra 7 (by decide)
                          have g_5256 : (0 : Int) ≤ (I_5246 o 8).toInt ∧ (I_5246 o 8).toInt ≤ 6 := hR_5248.at0 ra 8 (by decide)
                          have t_5257 : (I_5246 o 44).toInt = (I_5216 o 44).toInt := by rw [kp_5250 44 rfl]
                          have t_5258 : (I_5246 o 45).toInt = (I_5216 o 45).toInt := by rw [kp_5250 45 rfl]
                          have t_5259 : (I_5246 o 47).toInt = (I_5216 o 47).toInt := by rw [kp_5250 47 rfl]
                          have t_5260 : (I_5246 o 48).toInt = (I_5216 o 48).toInt := by rw [kp_5250 48 rfl]
                          have t_5261 : (I_5246 o 46).toInt = (I_5216 o 46).toInt := by rw [kp_5250 46 rfl]
                          have k_5262 : MTd I_5246 o := k_5231.fr (fr_5249 _ (by first | omega | (dsimp only; omega))) (fr_5249 _ (by first | omega | (dsimp only; omega))) (fr_5249 _ (by first | omega | (dsimp only; omega)))
                          have ms := u_5240 (by omega)
                          have k_5263 : EX 0 0 0 f0 1 I_5246 o := by exact EX.nx k_5235 (fr_5249 _ (by first | omega | (dsimp only; omega))) (fr_5249 _ (by first | omega | (dsimp only; omega))) (fr_5249 _ (by first | omega | (dsimp only; omega))) (fr_5249 _ (by first | omega | (dsimp only; omega))) (fr_5249 _ (by first | omega | (dsimp only; omega))) (kp_5250 3 rfl) (kp_5250 44 rfl) (kp_5250 45 rfl) (kp_5250 47 rfl) (kp_5250 48 rfl) (by omega) (by omega)
                          exact (hp _ _ _ hR_5248 hf_5251 (Or.inr rfl) (by first | omega | (intro h; omega) | exact Or.inl rfl | exact Or.inr rfl) (by first | omega | (intro h; omega) | exact Or.inl rfl | exact Or.inr rfl) (by first | omega | (intro h; omega) | exact Or.inl rfl | exact Or.inr rfl) (by first | omega | (intro h; omega) | exact Or.inl rfl | exact Or.inr rfl) (by first | omega | (intro h; omega) | exact Or.inl rfl | exact Or.inr rfl) (by clear hg; first | (intro h; exfalso; omega) | exact fun _ => k_5263 | exact fun _ => (False.elim (by omega))) k_5262 u_5243 u_5244 hg.symm)
                        · have d_5264 := iEq c_5185
                          have i_5265 := u_5182 (by omega)
                          replace hg := gt_pos (by first | exact d_5264 | omega) hg
                          exact (hp _ _ _ hR_5084 hf_5085 (Or.inr rfl) (by first | omega | (intro h; omega) | exact Or.inl rfl | exact Or.inr rfl) (by first | omega | (intro h; omega) | exact Or.inl rfl | exact Or.inr rfl) (by first | omega | (intro h; omega) | exact Or.inl rfl | exact Or.inr rfl) (by first | omega | (intro h; omega) | exact Or.inl rfl | exact Or.inr rfl) (by first | omega | (intro h; omega) | exact Or.inl rfl | exact Or.inr rfl) (by clear hg; first | (intro h; exfalso; omega) | exact fun _ => k_5097 | exact fun _ => (False.elim (by omega))) k_5098 k_5099 k_5100 hg.symm)
                      · have d_5266 := iEq c_5177
                        replace hg := gt_pos (by first | exact d_5266 | omega) hg
                        refine y_Model_wrongg hok hw ra hz14 hz15 hR_5084 (fun I_5271 L_5272 hR_5273 fr_5274 kp_5275 u_5268 u_5269 gn_5270 => ⟨I_5271, L_5272, rfl, rfl, ?_⟩)
                        replace hg := gt_b3 gn_5270 hg
                        clear gn_5270
                        have hf_5276 : Fm (fun c => c = o ∨ (o + 30 ≤ c ∧ c < o + 34)) I0 I_5271 := hf_5085.call fr_5274 (fun c hc => by first | exact hc | (dsimp only at hc ⊢; omega) | omega)
                        have t_5277 : (I_5271 o 3).toInt = (I_5082 o 3).toInt := by rw [kp_5275 3 rfl]
                        have g_5278 : (0 : Int) ≤ (I_5271 o 4).toInt ∧ (I_5271 o 4).toInt ≤ 5 := hR_5273.at0 ra 4 (by decide)
                        have t_5279 : (I_5271 o 6).toInt = (I_5082 o 6).toInt := by rw [kp_5275 6 rfl]
                        have t_5280 : (I_5271 o 7).toInt = (I_5082 o 7).toInt := by rw [kp_5275 7 rfl]
                        have t_5281 : (I_5271 o 8).toInt = (I_5082 o 8).toInt := by rw [kp_5275 8 rfl]
                        have t_5282 : (I_5271 o 9).toInt = (I_5082 o 9).toInt := by rw [kp_5275 9 rfl]
                        have t_5283 : (I_5271 o 44).toInt = (I_5082 o 44).toInt := by rw [kp_5275 44 rfl]
                        have t_5284 : (I_5271 o 45).toInt = (I_5082 o 45).toInt := by rw [kp_5275 45 rfl]
                        have t_5285 : (I_5271 o 47).toInt = (I_5082 o 47).toInt := by rw [kp_5275 47 rfl]
                        have t_5286 : (I_5271 o 48).toInt = (I_5082 o 48).toInt := by rw [kp_5275 48 rfl]
                        have t_5287 : (I_5271 o 46).toInt = (I_5082 o 46).toInt := by rw [kp_5275 46 rfl]
                        have k_5288 : EX 0 0 0 f0 1 I_5271 o := k_5097.fr (fr_5274 _ (by first | omega | (dsimp only; omega))) (fr_5274 _ (by first | omega | (dsimp only; omega))) (fr_5274 _ (by first | omega | (dsimp only; omega))) (fr_5274 _ (by first | omega | (dsimp only; omega))) (fr_5274 _ (by first | omega | (dsimp only; omega))) (kp_5275 3 rfl) (kp_5275 6 rfl) (kp_5275 44 rfl) (kp_5275 45 rfl) (kp_5275 47 rfl) (kp_5275 48 rfl)
                        have k_5289 : MTd I_5271 o := k_5098.fr (fr_5274 _ (by first | omega | (dsimp only; omega))) (fr_5274 _ (by first | omega | (dsimp only; omega))) (fr_5274 _ (by first | omega | (dsimp only; omega)))
                        have k_5290 : MPo I_5271 o := k_5099.fr (kp_5275 8 rfl) (kp_5275 9 rfl)
                        have k_5291 : MTk I_5271 o := k_5100.fr (kp_5275 6 rfl) (kp_5275 7 rfl) (kp_5275 8 rfl)
                        refine y_Model_isGoodg hok hw ra hR_5273 (fun r_5292 u_5293 u_5294 u_5295 gn_5296 => ⟨r_5292, I_5271, L_5272, rfl, rfl, ?_⟩)
                        replace hg := gt_let gn_5296 hg
                        clear gn_5296
                        have b_5297 : 0 ≤ r_5292.toInt ∧ r_5292.toInt ≤ 1 := u_5293.rg
                        refine ⟨fun c_5298 => ?_, fun c_5298 => ?_⟩
                        · have d_5299 := iNe c_5298
                          have i_5300 := u_5294 (by omega)
                          replace hg := gt_neg (by first | exact d_5299 | omega) hg
                          refine y_Model_pileg hok hw ra hz58 (by first | omega | (intro h; omega) | exact Or.inl rfl | exact Or.inr rfl) (by first | omega | (intro h; omega) | exact Or.inl rfl | exact Or.inr rfl) hR_5273 (fun I_5306 L_5307 hR_5308 fr_5309 kp_5310 u_5302 u_5303 u_5304 gn_5305 => ⟨I_5306, L_5307, rfl, rfl, ?_⟩)
                          replace hg := gt_b3 gn_5305 hg
                          clear gn_5305
                          have hf_5311 : Fm (fun c => c = o ∨ (o + 30 ≤ c ∧ c < o + 34)) I0 I_5306 := hf_5276.call fr_5309 (fun c hc => by first | exact hc | (dsimp only at hc ⊢; omega) | omega)
                          have t_5312 : (I_5306 o 3).toInt = (I_5271 o 3).toInt := by rw [kp_5310 3 rfl]
                          have t_5313 : (I_5306 o 4).toInt = (I_5271 o 4).toInt := by rw [kp_5310 4 rfl]
                          have t_5314 : (I_5306 o 6).toInt = (I_5271 o 6).toInt := by rw [kp_5310 6 rfl]
                          have t_5315 : (I_5306 o 7).toInt = (I_5271 o 7).toInt := by rw [kp_5310 7 rfl]
                          have t_5316 : (I_5306 o 8).toInt = (I_5271 o 8).toInt := by rw [kp_5310 8 rfl]
                          have t_5317 : (I_5306 o 9).toInt = (I_5271 o 9).toInt := by rw [kp_5310 9 rfl]
                          have t_5318 : (I_5306 o 44).toInt = (I_5271 o 44).toInt := by rw [kp_5310 44 rfl]
                          have t_5319 : (I_5306 o 45).toInt = (I_5271 o 45).toInt := by rw [kp_5310 45 rfl]
                          have t_5320 : (I_5306 o 47).toInt = (I_5271 o 47).toInt := by rw [kp_5310 47 rfl]
                          have g_5321 : (0 : Int) ≤ (I_5306 o 48).toInt ∧ (I_5306 o 48).toInt ≤ 80 := hR_5308.at0 ra 48 (by decide)
                          have t_5322 : (I_5306 o 46).toInt = (I_5271 o 46).toInt := by rw [kp_5310 46 rfl]
                          have k_5323 : MTd I_5306 o := k_5289.fr (fr_5309 _ (by first | omega | (dsimp only; omega))) (fr_5309 _ (by first | omega | (dsimp only; omega))) (fr_5309 _ (by first | omega | (dsimp only; omega)))
                          have k_5324 : MPo I_5306 o := k_5290.fr (kp_5310 8 rfl) (kp_5310 9 rfl)
                          have k_5325 : MTk I_5306 o := k_5291.fr (kp_5310 6 rfl) (kp_5310 7 rfl) (kp_5310 8 rfl)
                          have k_5326 : EX 0 1 1 f0 1 I_5306 o := by have z := EX.push k_5288 (v := 7) (s := 0) (dB := 1) (dO := 0) (wt' := 1) (by decide) (by decide) (by decide) (by omega) ⟨by decide, by decide⟩ ⟨fun h => absurd h (by decide), fun h => absurd h (by decide)⟩ (Or.inl rfl) (fr_5309 _ (by first | omega | (dsimp only; omega))) (fr_5309 _ (by first | omega | (dsimp only; omega))) (fr_5309 _ (by first | omega | (dsimp only; omega))) u_5302 u_5303 (kp_5310 3 rfl) (kp_5310 6 rfl) (kp_5310 44 rfl) (kp_5310 45 rfl) (kp_5310 47 rfl) u_5304; exact EX.chg (b' := 1) z rfl rfl rfl rfl rfl rfl rfl rfl rfl rfl (by omega) z.pl
                          have g_5327 : (0 : Int) ≤ (I_5306 o 47).toInt ∧ (I_5306 o 47).toInt ≤ 7 := hR_5308.at0 ra 47 (by decide)
                          replace hg := gt_let (y := (I_5306 o 47).toInt) rfl hg
                          have a_5328 : ((I_5306 o 47) + 1).toInt = (I_5306 o 47).toInt + (1 : Int32).toInt := tAdd (by omega) (by omega)
                          replace hg := gt_let (y := (((I_5306 o 47) + 1) : Int32).toInt) (by omega) hg
                          refine fun I_5329 e_5330 => ?_
                          replace hg := gt_let (y := tI I_5329) (tI_q e_5330) hg
                          have hR_5331 : RI R I_5329 := hR_5308.up0 (k := 47) ra (by decide) (Or.inr hz57) e_5330 (show (0 : Int) ≤ ((I_5306 o 47) + 1).toInt by omega) (show ((I_5306 o 47) + 1).toInt ≤ (7 : Int) by omega)
                          have hf_5332 : Fm (fun c => c = o ∨ (o + 30 ≤ c ∧ c < o + 34)) I0 I_5329 := hf_5311.set (by first | rfl | omega | (dsimp only; omega)) e_5330
                          have t_5333 : (I_5329 o 3).toInt = (I_5306 o 3).toInt := by rw [← e_5330, q_u_k (by decide)]
                          have t_5334 : (I_5329 o 4).toInt = (I_5306 o 4).toInt := by rw [← e_5330, q_u_k (by decide)]
                          have t_5335 : (I_5329 o 6).toInt = (I_5306 o 6).toInt := by rw [← e_5330, q_u_k (by decide)]
                          have t_5336 : (I_5329 o 7).toInt = (I_5306 o 7).toInt := by rw [← e_5330, q_u_k (by decide)]
                          have t_5337 : (I_5329 o 8).toInt = (I_5306 o 8).toInt := by rw [← e_5330, q_u_k (by decide)]
                          have t_5338 : (I_5329 o 9).toInt = (I_5306 o 9).toInt := by rw [← e_5330, q_u_k (by decide)]
                          have t_5339 : (I_5329 o 44).toInt = (I_5306 o 44).toInt := by rw [← e_5330, q_u_k (by decide)]
                          have t_5340 : (I_5329 o 45).toInt = (I_5306 o 45).toInt := by rw [← e_5330, q_u_k (by decide)]
                          have t_5341 : (I_5329 o 47).toInt = ((I_5306 o 47) + 1).toInt := by rw [← e_5330, q_u_at]
                          have t_5342 : (I_5329 o 48).toInt = (I_5306 o 48).toInt := by rw [← e_5330, q_u_k (by decide)]
                          have t_5343 : (I_5329 o 46).toInt = (I_5306 o 46).toInt := by rw [← e_5330, q_u_k (by decide)]
                          have k_5344 : MTd I_5329 o := k_5323.fr (by rw [← e_5330]; exact q_u_ne (by omega)) (by rw [← e_5330]; exact q_u_ne (by omega)) (by rw [← e_5330]; exact q_u_ne (by omega))
                          have k_5345 : MPo I_5329 o := k_5324.fr (by rw [← e_5330, q_u_k (by decide)]) (by rw [← e_5330, q_u_k (by decide)])
                          have k_5346 : MTk I_5329 o := k_5325.fr (by rw [← e_5330, q_u_k (by decide)]) (by rw [← e_5330, q_u_k (by decide)]) (by rw [← e_5330, q_u_k (by decide)])
                          have tk := k_5346.2 (by omega)
                          have k_5348 : EX 0 0 1 f0 1 I_5329 o := by exact EX.put47 k_5326 e_5330 (by omega)
                          refine y_Model_nextg hok hw ra hz16 hz17 hz18 hz19 (by first | omega | (intro h; omega) | exact Or.inl rfl | exact Or.inr rfl) hR_5331 (fun I_5359 L_5360 hR_5361 fr_5362 kp_5363 u_5350 u_5351 u_5352 u_5353 u_5354 u_5355 u_5356 u_5357 gn_5358 => ⟨I_5359, L_5360, rfl, rfl, ?_⟩)
                          replace hg := gt_b3 gn_5358 hg
                          clear gn_5358
                          have hf_5364 : Fm (fun c => c = o ∨ (o + 30 ≤ c ∧ c < o + 34)) I0 I_5359 := hf_5332.call fr_5362 (fun c hc => by first | exact hc | (dsimp only at hc ⊢; omega) | omega)
                          have t_5365 : (I_5359 o 3).toInt = (I_5329 o 3).toInt := by rw [kp_5363 3 rfl]
                          have t_5366 : (I_5359 o 4).toInt = (I_5329 o 4).toInt := by rw [kp_5363 4 rfl]
                          have g_5367 : (0 : Int) ≤ (I_5359 o 6).toInt ∧ (I_5359 o 6).toInt ≤ 1600 := hR_5361.at0 ra 6 (by decide)
                          have g_5368 : (0 : Int) ≤ (I_5359 o 7).toInt ∧ (I_5359 o 7).toInt ≤ 1601 := hR_5361.at0 ra 7 (by decide)
                          have g_5369 : (0 : Int) ≤ (I_5359 o 8).toInt ∧ (I_5359 o 8).toInt ≤ 6 := hR_5361.at0 ra 8 (by decide)
                          have t_5370 : (I_5359 o 44).toInt = (I_5329 o 44).toInt := by rw [kp_5363 44 rfl]
                          have t_5371 : (I_5359 o 45).toInt = (I_5329 o 45).toInt := by rw [kp_5363 45 rfl]
                          have t_5372 : (I_5359 o 47).toInt = (I_5329 o 47).toInt := by rw [kp_5363 47 rfl]
                          have t_5373 : (I_5359 o 48).toInt = (I_5329 o 48).toInt := by rw [kp_5363 48 rfl]
                          have t_5374 : (I_5359 o 46).toInt = (I_5329 o 46).toInt := by rw [kp_5363 46 rfl]
                          have k_5375 : MTd I_5359 o := k_5344.fr (fr_5362 _ (by first | omega | (dsimp only; omega))) (fr_5362 _ (by first | omega | (dsimp only; omega))) (fr_5362 _ (by first | omega | (dsimp only; omega)))
                          have ms := u_5353 (by omega)
                          have k_5376 : EX 0 0 0 f0 1 I_5359 o := by exact EX.nx k_5348 (fr_5362 _ (by first | omega | (dsimp only; omega))) (fr_5362 _ (by first | omega | (dsimp only; omega))) (fr_5362 _ (by first | omega | (dsimp only; omega))) (fr_5362 _ (by first | omega | (dsimp only; omega))) (fr_5362 _ (by first | omega | (dsimp only; omega))) (kp_5363 3 rfl) (kp_5363 44 rfl) (kp_5363 45 rfl) (kp_5363 47 rfl) (kp_5363 48 rfl) (by omega) (by omega)
                          exact (hp _ _ _ hR_5361 hf_5364 (Or.inr rfl) (by first | omega | (intro h; omega) | exact Or.inl rfl | exact Or.inr rfl) (by first | omega | (intro h; omega) | exact Or.inl rfl | exact Or.inr rfl) (by first | omega | (intro h; omega) | exact Or.inl rfl | exact Or.inr rfl) (by first | omega | (intro h; omega) | exact Or.inl rfl | exact Or.inr rfl) (by first | omega | (intro h; omega) | exact Or.inl rfl | exact Or.inr rfl) (by clear hg; first | (intro h; exfalso; omega) | exact fun _ => k_5376 | exact fun _ => (False.elim (by omega))) k_5375 u_5356 u_5357 hg.symm)
                        · have d_5377 := iEq c_5298
                          have i_5378 := u_5295 (by omega)
                          replace hg := gt_pos (by first | exact d_5377 | omega) hg
                          exact (hp _ _ _ hR_5273 hf_5276 (Or.inr rfl) (by first | omega | (intro h; omega) | exact Or.inl rfl | exact Or.inr rfl) (by first | omega | (intro h; omega) | exact Or.inl rfl | exact Or.inr rfl) (by first | omega | (intro h; omega) | exact Or.inl rfl | exact Or.inr rfl) (by first | omega | (intro h; omega) | exact Or.inl rfl | exact Or.inr rfl) (by first | omega | (intro h; omega) | exact Or.inl rfl | exact Or.inr rfl) (by clear hg; first | (intro h; exfalso; omega) | exact fun _ => k_5288 | exact fun _ => (False.elim (by omega))) k_5289 k_5290 k_5291 hg.symm)
                  · have d_5379 := iEq c_5077
                    have i_5380 := u_5074 (by omega)
                    replace hg := gt_pos (by first | exact d_5379 | omega) hg
                    exact (hp _ _ _ hR_5052 hf_5055 (Or.inr rfl) (by first | omega | (intro h; omega) | exact Or.inl rfl | exact Or.inr rfl) (by first | omega | (intro h; omega) | exact Or.inl rfl | exact Or.inr rfl) (by first | omega | (intro h; omega) | exact Or.inl rfl | exact Or.inr rfl) (by first | omega | (intro h; omega) | exact Or.inl rfl | exact Or.inr rfl) (by first | omega | (intro h; omega) | exact Or.inl rfl | exact Or.inr rfl) (by clear hg; first | (intro h; exfalso; omega) | exact fun _ => k_5067 | exact fun _ => (False.elim (by omega))) k_5068 k_5069 k_5070 hg.symm)
        · have d_5381 := iEq c_2846
          have i_5382 := u_2843 (by omega)
          replace hg := gt_pos (by first | exact d_5381 | omega) hg
          exact (hp _ _ _ hR_2822 hf_2825 (Or.inr rfl) (by first | omega | (intro h; omega) | exact Or.inl rfl | exact Or.inr rfl) (by first | omega | (intro h; omega) | exact Or.inl rfl | exact Or.inr rfl) (by first | omega | (intro h; omega) | exact Or.inl rfl | exact Or.inr rfl) (by first | omega | (intro h; omega) | exact Or.inl rfl | exact Or.inr rfl) (by first | omega | (intro h; omega) | exact Or.inl rfl | exact Or.inr rfl) (by clear hg; first | (intro h; exfalso; omega) | exact fun _ => k_2836 | exact fun _ => (False.elim (by omega))) k_2837 k_2838 k_2839 hg.symm)
      · have d_5383 := iNe c_2813
        exfalso; omega
    · have d_5384 := iNlt c_2810
      replace hg := gt_neg (by first | exact d_5384 | omega) hg
      unfold fModel_unit_31
      replace hg := (eModel_unit_31).symm.trans hg
      unfold fModel_unit_36
      replace hg := (eModel_unit_36).symm.trans hg
      have l_5385 : (0 : Int32).toInt = 0 := rfl
      refine ⟨fun c_5386 => ?_, fun c_5386 => ?_⟩
      · have d_5387 := iEq c_5386
        exfalso; omega
      · have d_5388 := iNe c_5386
        replace hg := gt_neg (by first | exact d_5388 | omega) hg
        have l_5389 : (7237492 : Int32).toInt = 7237492 := rfl
        refine y_Model_isWordg hok hw ra hR (fun r_5390 u_5391 u_5392 gn_5393 => ⟨r_5390, I0, L0, rfl, rfl, ?_⟩)
        replace hg := gt_let gn_5393 hg
        clear gn_5393
        have b_5394 : 0 ≤ r_5390.toInt ∧ r_5390.toInt ≤ 1 := u_5391.rg
        refine ⟨fun c_5395 => ?_, fun c_5395 => ?_⟩
        · have d_5396 := iEq c_5395
          replace hg := gt_pos (by first | exact d_5396 | omega) hg
          unfold fModel_unit_96
          replace hg := (eModel_unit_96).symm.trans hg
          refine y_Model_wordHereg hok hw ra hz14 hz15 hR (fun r_5397 I_5402 L_5403 hR_5404 fr_5405 kp_5406 u_5398 u_5399 u_5400 gn_5401 => ⟨r_5397, I_5402, L_5403, rfl, rfl, ?_⟩)
          replace hg := gt_b3 gn_5401 hg
          clear gn_5401
          have hf_5407 : Fm (fun c => c = o ∨ (o + 30 ≤ c ∧ c < o + 34)) I0 I_5402 := hf.call fr_5405 (fun c hc => by first | exact hc | (dsimp only at hc ⊢; omega) | omega)
          have t_5408 : (I_5402 o 3).toInt = (I0 o 3).toInt := by rw [kp_5406 3 rfl]
          have g_5409 : (0 : Int) ≤ (I_5402 o 4).toInt ∧ (I_5402 o 4).toInt ≤ 5 := hR_5404.at0 ra 4 (by decide)
          have t_5410 : (I_5402 o 6).toInt = (I0 o 6).toInt := by rw [kp_5406 6 rfl]
          have t_5411 : (I_5402 o 7).toInt = (I0 o 7).toInt := by rw [kp_5406 7 rfl]
          have t_5412 : (I_5402 o 8).toInt = (I0 o 8).toInt := by rw [kp_5406 8 rfl]
          have t_5413 : (I_5402 o 9).toInt = (I0 o 9).toInt := by rw [kp_5406 9 rfl]
          have t_5414 : (I_5402 o 44).toInt = (I0 o 44).toInt := by rw [kp_5406 44 rfl]
          have t_5415 : (I_5402 o 45).toInt = (I0 o 45).toInt := by rw [kp_5406 45 rfl]
          have t_5416 : (I_5402 o 47).toInt = (I0 o 47).toInt := by rw [kp_5406 47 rfl]
          have t_5417 : (I_5402 o 48).toInt = (I0 o 48).toInt := by rw [kp_5406 48 rfl]
          have k_5418 : EX 0 0 0 f0 1 I_5402 o := hq2.fr (fr_5405 _ (by first | omega | (dsimp only; omega))) (fr_5405 _ (by first | omega | (dsimp only; omega))) (fr_5405 _ (by first | omega | (dsimp only; omega))) (fr_5405 _ (by first | omega | (dsimp only; omega))) (fr_5405 _ (by first | omega | (dsimp only; omega))) (kp_5406 3 rfl) (kp_5406 6 rfl) (kp_5406 44 rfl) (kp_5406 45 rfl) (kp_5406 47 rfl) (kp_5406 48 rfl)
          have k_5419 : MTd I_5402 o := hq3.fr (fr_5405 _ (by first | omega | (dsimp only; omega))) (fr_5405 _ (by first | omega | (dsimp only; omega))) (fr_5405 _ (by first | omega | (dsimp only; omega)))
          have k_5420 : MPo I_5402 o := hq4.fr (kp_5406 8 rfl) (kp_5406 9 rfl)
          have k_5421 : MTk I_5402 o := hq5.fr (kp_5406 6 rfl) (kp_5406 7 rfl) (kp_5406 8 rfl)
          refine y_Model_isGoodg hok hw ra hR_5404 (fun r_5422 u_5423 u_5424 u_5425 gn_5426 => ⟨r_5422, I_5402, L_5403, rfl, rfl, ?_⟩)
          replace hg := gt_let gn_5426 hg
          clear gn_5426
          have b_5427 : 0 ≤ r_5422.toInt ∧ r_5422.toInt ≤ 1 := u_5423.rg
          refine ⟨fun c_5428 => ?_, fun c_5428 => ?_⟩
          · have d_5429 := iNe c_5428
            have i_5430 := u_5424 (by omega)
            replace hg := gt_neg (by first | exact d_5429 | omega) hg
            refine ⟨fun c_5431 => ?_, fun c_5431 => ?_⟩
            · have d_5432 := iNe c_5431
              have i_5433 := u_5398 (by omega)
              have i_5434 := u_5399 (by omega)
              replace hg := gt_neg (by first | exact d_5432 | omega) hg
              unfold fModel_unit_131
              replace hg := (eModel_unit_131).symm.trans hg
              have g_5435 : (0 : Int) ≤ (I_5402 o 46).toInt ∧ (I_5402 o 46).toInt ≤ 100 := hR_5404.at0 ra 46 (by decide)
              replace hg := gt_let (y := (I_5402 o 46).toInt) rfl hg
              have l_5436 : (100 : Int32).toInt = 100 := rfl
              refine ⟨fun c_5437 => ?_, fun c_5437 => ?_⟩
              · have d_5438 := iNe c_5437
                replace hg := gt_neg (by first | exact d_5438 | omega) hg
                refine y_Model_isGoodg hok hw ra hR_5404 (fun r_5439 u_5440 u_5441 u_5442 gn_5443 => ⟨r_5439, I_5402, L_5403, rfl, rfl, ?_⟩)
                replace hg := gt_let gn_5443 hg
                clear gn_5443
                have b_5444 : 0 ≤ r_5439.toInt ∧ r_5439.toInt ≤ 1 := u_5440.rg
                refine ⟨fun c_5445 => ?_, fun c_5445 => ?_⟩
                · have d_5446 := iNe c_5445
                  have i_5447 := u_5441 (by omega)
                  replace hg := gt_neg (by first | exact d_5446 | omega) hg
                  have g_5448 : (0 : Int) ≤ (I_5402 o 46).toInt ∧ (I_5402 o 46).toInt ≤ 100 := hR_5404.at0 ra 46 (by decide)
                  replace hg := gt_let (y := (I_5402 o 46).toInt) rfl hg
                  have a_5449 : ((I_5402 o 46) + 1).toInt = (I_5402 o 46).toInt + (1 : Int32).toInt := tAdd (by omega) (by omega)
                  replace hg := gt_let (y := (((I_5402 o 46) + 1) : Int32).toInt) (by omega) hg
                  refine fun I_5450 e_5451 => ?_
                  replace hg := gt_let (y := tI I_5450) (tI_q e_5451) hg
                  have hR_5452 : RI R I_5450 := hR_5404.up0 (k := 46) ra (by decide) (Or.inr hz56) e_5451 (show (0 : Int) ≤ ((I_5402 o 46) + 1).toInt by omega) (show ((I_5402 o 46) + 1).toInt ≤ (100 : Int) by omega)
                  have hf_5453 : Fm (fun c => c = o ∨ (o + 30 ≤ c ∧ c < o + 34)) I0 I_5450 := hf_5407.set (by first | rfl | omega | (dsimp only; omega)) e_5451
                  have t_5454 : (I_5450 o 3).toInt = (I_5402 o 3).toInt := by rw [← e_5451, q_u_k (by decide)]
                  have t_5455 : (I_5450 o 4).toInt = (I_5402 o 4).toInt := by rw [← e_5451, q_u_k (by decide)]
                  have t_5456 : (I_5450 o 6).toInt = (I_5402 o 6).toInt := by rw [← e_5451, q_u_k (by decide)]
                  have t_5457 : (I_5450 o 7).toInt = (I_5402 o 7).toInt := by rw [← e_5451, q_u_k (by decide)]
                  have t_5458 : (I_5450 o 8).toInt = (I_5402 o 8).toInt := by rw [← e_5451, q_u_k (by decide)]
                  have t_5459 : (I_5450 o 9).toInt = (I_5402 o 9).toInt := by rw [← e_5451, q_u_k (by decide)]
                  have t_5460 : (I_5450 o 44).toInt = (I_5402 o 44).toInt := by rw [← e_5451, q_u_k (by decide)]
                  have t_5461 : (I_5450 o 45).toInt = (I_5402 o 45).toInt := by rw [← e_5451, q_u_k (by decide)]
                  have t_5462 : (I_5450 o 47).toInt = (I_5402 o 47).toInt := by rw [← e_5451, q_u_k (by decide)]
                  have t_5463 : (I_5450 o 48).toInt = (I_5402 o 48).toInt := by rw [← e_5451, q_u_k (by decide)]
                  have t_5464 : (I_5450 o 46).toInt = ((I_5402 o 46) + 1).toInt := by rw [← e_5451, q_u_at]
                  have k_5465 : EX 0 0 0 f0 1 I_5450 o := k_5418.fr (by rw [← e_5451]; exact q_u_ne (by omega)) (by rw [← e_5451]; exact q_u_ne (by omega)) (by rw [← e_5451]; exact q_u_ne (by omega)) (by rw [← e_5451]; exact q_u_ne (by omega)) (by rw [← e_5451]; exact q_u_ne (by omega)) (by rw [← e_5451, q_u_k (by decide)]) (by rw [← e_5451, q_u_k (by decide)]) (by rw [← e_5451, q_u_k (by decide)]) (by rw [← e_5451, q_u_k (by decide)]) (by rw [← e_5451, q_u_k (by decide)]) (by rw [← e_5451, q_u_k (by decide)])
                  have k_5466 : MTd I_5450 o := k_5419.fr (by rw [← e_5451]; exact q_u_ne (by omega)) (by rw [← e_5451]; exact q_u_ne (by omega)) (by rw [← e_5451]; exact q_u_ne (by omega))
                  have k_5467 : MPo I_5450 o := k_5420.fr (by rw [← e_5451, q_u_k (by decide)]) (by rw [← e_5451, q_u_k (by decide)])
                  have k_5468 : MTk I_5450 o := k_5421.fr (by rw [← e_5451, q_u_k (by decide)]) (by rw [← e_5451, q_u_k (by decide)]) (by rw [← e_5451, q_u_k (by decide)])
                  have l_5469 : (40 : Int32).toInt = 40 := rfl
                  refine y_Model_isg hok hw ra hR_5452 (fun r_5470 u_5471 u_5472 u_5473 gn_5474 => ⟨r_5470, I_5450, L_5403, rfl, rfl, ?_⟩)
                  replace hg := gt_let gn_5474 hg
                  clear gn_5474
                  have b_5475 : 0 ≤ r_5470.toInt ∧ r_5470.toInt ≤ 1 := u_5471.rg
                  refine ⟨fun c_5476 => ?_, fun c_5476 => ?_⟩
                  · have d_5477 := iEq c_5476
                    replace hg := gt_pos (by first | exact d_5477 | omega) hg
                    have cd := k_5465.cod
                    have tk := k_5468.2 (by omega)
                    refine ⟨fun c_5478 => ?_, fun c_5478 => ?_⟩
                    · have d_5479 := iNe c_5478
                      have i_5480 := u_5398 (by omega)
                      have i_5481 := u_5399 (by omega)
                      replace hg := gt_neg (by first | exact d_5479 | omega) hg
                      unfold fModel_unit_228
                      replace hg := (eModel_unit_228).symm.trans hg
                      refine ⟨fun c_5482 => ?_, fun c_5482 => ?_⟩
                      · have d_5483 := iNe c_5482
                        have i_5484 := u_5398 (by omega)
                        have i_5485 := u_5399 (by omega)
                        replace hg := gt_neg (by first | exact d_5483 | omega) hg
                        refine y_Model_stepg hok hw ra hz55 (by first | omega | (intro h; omega) | exact Or.inl rfl | exact Or.inr rfl) (by first | omega | (intro h; omega) | exact Or.inl rfl | exact Or.inr rfl) hR_5452 (fun I_5490 L_5491 hR_5492 fr_5493 kp_5494 u_5487 u_5488 gn_5489 => ⟨I_5490, L_5491, rfl, rfl, ?_⟩)
                        replace hg := gt_b3 gn_5489 hg
                        clear gn_5489
                        have hf_5495 : Fm (fun c => c = o ∨ (o + 30 ≤ c ∧ c < o + 34)) I0 I_5490 := hf_5453.call fr_5493 (fun c hc => by first | exact hc | (dsimp only at hc ⊢; omega) | omega)
                        have t_5496 : (I_5490 o 3).toInt = (I_5450 o 3).toInt := by rw [kp_5494 3 rfl]
                        have t_5497 : (I_5490 o 4).toInt = (I_5450 o 4).toInt := by rw [kp_5494 4 rfl]
                        have t_5498 : (I_5490 o 6).toInt = (I_5450 o 6).toInt := by rw [kp_5494 6 rfl]
                        have t_5499 : (I_5490 o 7).toInt = (I_5450 o 7).toInt := by rw [kp_5494 7 rfl]
                        have t_5500 : (I_5490 o 8).toInt = (I_5450 o 8).toInt := by rw [kp_5494 8 rfl]
                        have t_5501 : (I_5490 o 9).toInt = (I_5450 o 9).toInt := by rw [kp_5494 9 rfl]
                        have t_5502 : (I_5490 o 44).toInt = (I_5450 o 44).toInt := by rw [kp_5494 44 rfl]
                        have g_5503 : (0 : Int) ≤ (I_5490 o 45).toInt ∧ (I_5490 o 45).toInt ≤ 700 := hR_5492.at0 ra 45 (by decide)
                        have t_5504 : (I_5490 o 47).toInt = (I_5450 o 47).toInt := by rw [kp_5494 47 rfl]
                        have t_5505 : (I_5490 o 48).toInt = (I_5450 o 48).toInt := by rw [kp_5494 48 rfl]
                        have t_5506 : (I_5490 o 46).toInt = (I_5450 o 46).toInt := by rw [kp_5494 46 rfl]
                        have k_5507 : MPo I_5490 o := k_5467.fr (kp_5494 8 rfl) (kp_5494 9 rfl)
                        have k_5508 : MTk I_5490 o := k_5468.fr (kp_5494 6 rfl) (kp_5494 7 rfl) (kp_5494 8 rfl)
                        have tk := k_5508.2 (by omega)
                        have k_5509 : EX 0 0 1 f0 0 I_5490 o := by exact EX.step1 k_5465 (by first | exact u_5398 (by omega) | (unfold isT; decide)) (by omega) (fr_5493 _ (by first | omega | (dsimp only; omega))) (fr_5493 _ (by first | omega | (dsimp only; omega))) u_5487 (fr_5493 _ (by first | omega | (dsimp only; omega))) (fr_5493 _ (by first | omega | (dsimp only; omega))) (kp_5494 3 rfl) (kp_5494 6 rfl) (kp_5494 44 rfl) u_5488 (kp_5494 47 rfl) (kp_5494 48 rfl)
                        have k_5510 : MTd I_5490 o := by exact MTd.step k_5466 (fr_5493 _ (by first | omega | (dsimp only; omega))) (fr_5493 _ (by first | omega | (dsimp only; omega))) u_5487 (by omega)
                        refine y_Model_nextg hok hw ra hz16 hz17 hz18 hz19 (by first | omega | (intro h; omega) | exact Or.inl rfl | exact Or.inr rfl) hR_5492 (fun I_5521 L_5522 hR_5523 fr_5524 kp_5525 u_5512 u_5513 u_5514 u_5515 u_5516 u_5517 u_5518 u_5519 gn_5520 => ⟨I_5521, L_5522, rfl, rfl, ?_⟩)
                        replace hg := gt_b3 gn_5520 hg
                        clear gn_5520
                        have hf_5526 : Fm (fun c => c = o ∨ (o + 30 ≤ c ∧ c < o + 34)) I0 I_5521 := hf_5495.call fr_5524 (fun c hc => by first | exact hc | (dsimp only at hc ⊢; omega) | omega)
                        have t_5527 : (I_5521 o 3).toInt = (I_5490 o 3).toInt := by rw [kp_5525 3 rfl]
                        have t_5528 : (I_5521 o 4).toInt = (I_5490 o 4).toInt := by rw [kp_5525 4 rfl]
                        have g_5529 : (0 : Int) ≤ (I_5521 o 6).toInt ∧ (I_5521 o 6).toInt ≤ 1600 := hR_5523.at0 ra 6 (by decide)
                        have g_5530 : (0 : Int) ≤ (I_5521 o 7).toInt ∧ (I_5521 o 7).toInt ≤ 1601 := hR_5523.at0 ra 7 (by decide)
                        have g_5531 : (0 : Int) ≤ (I_5521 o 8).toInt ∧ (I_5521 o 8).toInt ≤ 6 := hR_5523.at0 ra 8 (by decide)
                        have t_5532 : (I_5521 o 44).toInt = (I_5490 o 44).toInt := by rw [kp_5525 44 rfl]
                        have t_5533 : (I_5521 o 45).toInt = (I_5490 o 45).toInt := by rw [kp_5525 45 rfl]
                        have t_5534 : (I_5521 o 47).toInt = (I_5490 o 47).toInt := by rw [kp_5525 47 rfl]
                        have t_5535 : (I_5521 o 48).toInt = (I_5490 o 48).toInt := by rw [kp_5525 48 rfl]
                        have t_5536 : (I_5521 o 46).toInt = (I_5490 o 46).toInt := by rw [kp_5525 46 rfl]
                        have k_5537 : MTd I_5521 o := k_5510.fr (fr_5524 _ (by first | omega | (dsimp only; omega))) (fr_5524 _ (by first | omega | (dsimp only; omega))) (fr_5524 _ (by first | omega | (dsimp only; omega)))
                        have ms := u_5515 (by omega)
                        have k_5538 : EX 0 0 0 f0 0 I_5521 o := by exact EX.nx k_5509 (fr_5524 _ (by first | omega | (dsimp only; omega))) (fr_5524 _ (by first | omega | (dsimp only; omega))) (fr_5524 _ (by first | omega | (dsimp only; omega))) (fr_5524 _ (by first | omega | (dsimp only; omega))) (fr_5524 _ (by first | omega | (dsimp only; omega))) (kp_5525 3 rfl) (kp_5525 44 rfl) (kp_5525 45 rfl) (kp_5525 47 rfl) (kp_5525 48 rfl) (by omega) (by omega)
                        exact (hp _ _ _ hR_5523 hf_5526 (Or.inl rfl) (by first | omega | (intro h; omega) | exact Or.inl rfl | exact Or.inr rfl) (by first | omega | (intro h; omega) | exact Or.inl rfl | exact Or.inr rfl) (by first | omega | (intro h; omega) | exact Or.inl rfl | exact Or.inr rfl) (by first | omega | (intro h; omega) | exact Or.inl rfl | exact Or.inr rfl) (by first | omega | (intro h; omega) | exact Or.inl rfl | exact Or.inr rfl) (by clear hg; first | (intro h; exfalso; omega) | exact fun _ => (False.elim (by omega)) | exact fun _ => k_5538) k_5537 u_5518 u_5519 hg.symm)
                      · have d_5539 := iEq c_5482
                        replace hg := gt_pos (by first | exact d_5539 | omega) hg
                        replace hg := gt_let (y := (I_5450 o 9).toInt) rfl hg
                        refine y_Model_stepg hok hw ra hz55 (by first | omega | (intro h; omega) | exact Or.inl rfl | exact Or.inr rfl) (by first | omega | (intro h; omega) | exact Or.inl rfl | exact Or.inr rfl) hR_5452 (fun I_5544 L_5545 hR_5546 fr_5547 kp_5548 u_5541 u_5542 gn_5543 => ⟨I_5544, L_5545, rfl, rfl, ?_⟩)
                        replace hg := gt_b3 gn_5543 hg
                        clear gn_5543
                        have hf_5549 : Fm (fun c => c = o ∨ (o + 30 ≤ c ∧ c < o + 34)) I0 I_5544 := hf_5453.call fr_5547 (fun c hc => by first | exact hc | (dsimp only at hc ⊢; omega) | omega)
                        have t_5550 : (I_5544 o 3).toInt = (I_5450 o 3).toInt := by rw [kp_5548 3 rfl]
                        have t_5551 : (I_5544 o 4).toInt = (I_5450 o 4).toInt := by rw [kp_5548 4 rfl]
                        have t_5552 : (I_5544 o 6).toInt = (I_5450 o 6).toInt := by rw [kp_5548 6 rfl]
                        have t_5553 : (I_5544 o 7).toInt = (I_5450 o 7).toInt := by rw [kp_5548 7 rfl]
                        have t_5554 : (I_5544 o 8).toInt = (I_5450 o 8).toInt := by rw [kp_5548 8 rfl]
                        have t_5555 : (I_5544 o 9).toInt = (I_5450 o 9).toInt := by rw [kp_5548 9 rfl]
                        have t_5556 : (I_5544 o 44).toInt = (I_5450 o 44).toInt := by rw [kp_5548 44 rfl]
                        have g_5557 : (0 : Int) ≤ (I_5544 o 45).toInt ∧ (I_5544 o 45).toInt ≤ 700 := hR_5546.at0 ra 45 (by decide)
                        have t_5558 : (I_5544 o 47).toInt = (I_5450 o 47).toInt := by rw [kp_5548 47 rfl]
                        have t_5559 : (I_5544 o 48).toInt = (I_5450 o 48).toInt := by rw [kp_5548 48 rfl]
                        have t_5560 : (I_5544 o 46).toInt = (I_5450 o 46).toInt := by rw [kp_5548 46 rfl]
                        have k_5561 : MPo I_5544 o := k_5467.fr (kp_5548 8 rfl) (kp_5548 9 rfl)
                        have k_5562 : MTk I_5544 o := k_5468.fr (kp_5548 6 rfl) (kp_5548 7 rfl) (kp_5548 8 rfl)
                        have tk := k_5562.2 (by omega)
                        have k_5563 : EX 0 0 1 f0 0 I_5544 o := by exact EX.step1 k_5465 (by first | exact u_5398 (by omega) | (unfold isT; decide)) (by omega) (fr_5547 _ (by first | omega | (dsimp only; omega))) (fr_5547 _ (by first | omega | (dsimp only; omega))) u_5541 (fr_5547 _ (by first | omega | (dsimp only; omega))) (fr_5547 _ (by first | omega | (dsimp only; omega))) (kp_5548 3 rfl) (kp_5548 6 rfl) (kp_5548 44 rfl) u_5542 (kp_5548 47 rfl) (kp_5548 48 rfl)
                        have k_5564 : MTd I_5544 o := by exact MTd.step k_5466 (fr_5547 _ (by first | omega | (dsimp only; omega))) (fr_5547 _ (by first | omega | (dsimp only; omega))) u_5541 (by omega)
                        refine y_Model_nextg hok hw ra hz16 hz17 hz18 hz19 (by first | omega | (intro h; omega) | exact Or.inl rfl | exact Or.inr rfl) hR_5546 (fun I_5575 L_5576 hR_5577 fr_5578 kp_5579 u_5566 u_5567 u_5568 u_5569 u_5570 u_5571 u_5572 u_5573 gn_5574 => ⟨I_5575, L_5576, rfl, rfl, ?_⟩)
                        replace hg := gt_b3 gn_5574 hg
                        clear gn_5574
                        have hf_5580 : Fm (fun c => c = o ∨ (o + 30 ≤ c ∧ c < o + 34)) I0 I_5575 := hf_5549.call fr_5578 (fun c hc => by first | exact hc | (dsimp only at hc ⊢; omega) | omega)
                        have t_5581 : (I_5575 o 3).toInt = (I_5544 o 3).toInt := by rw [kp_5579 3 rfl]
                        have t_5582 : (I_5575 o 4).toInt = (I_5544 o 4).toInt := by rw [kp_5579 4 rfl]
                        have g_5583 : (0 : Int) ≤ (I_5575 o 6).toInt ∧ (I_5575 o 6).toInt ≤ 1600 := hR_5577.at0 ra 6 (by decide)
                        have g_5584 : (0 : Int) ≤ (I_5575 o 7).toInt ∧ (I_5575 o 7).toInt ≤ 1601 := hR_5577.at0 ra 7 (by decide)
                        have g_5585 : (0 : Int) ≤ (I_5575 o 8).toInt ∧ (I_5575 o 8).toInt ≤ 6 := hR_5577.at0 ra 8 (by decide)
                        have t_5586 : (I_5575 o 44).toInt = (I_5544 o 44).toInt := by rw [kp_5579 44 rfl]
                        have t_5587 : (I_5575 o 45).toInt = (I_5544 o 45).toInt := by rw [kp_5579 45 rfl]
                        have t_5588 : (I_5575 o 47).toInt = (I_5544 o 47).toInt := by rw [kp_5579 47 rfl]
                        have t_5589 : (I_5575 o 48).toInt = (I_5544 o 48).toInt := by rw [kp_5579 48 rfl]
                        have t_5590 : (I_5575 o 46).toInt = (I_5544 o 46).toInt := by rw [kp_5579 46 rfl]
                        have k_5591 : MTd I_5575 o := k_5564.fr (fr_5578 _ (by first | omega | (dsimp only; omega))) (fr_5578 _ (by first | omega | (dsimp only; omega))) (fr_5578 _ (by first | omega | (dsimp only; omega)))
                        have ms := u_5569 (by omega)
                        have k_5592 : EX 0 0 0 f0 0 I_5575 o := by exact EX.nx k_5563 (fr_5578 _ (by first | omega | (dsimp only; omega))) (fr_5578 _ (by first | omega | (dsimp only; omega))) (fr_5578 _ (by first | omega | (dsimp only; omega))) (fr_5578 _ (by first | omega | (dsimp only; omega))) (fr_5578 _ (by first | omega | (dsimp only; omega))) (kp_5579 3 rfl) (kp_5579 44 rfl) (kp_5579 45 rfl) (kp_5579 47 rfl) (kp_5579 48 rfl) (by omega) (by omega)
                        exact (hp _ _ _ hR_5577 hf_5580 (Or.inl rfl) (by first | omega | (intro h; omega) | exact Or.inl rfl | exact Or.inr rfl) (by first | omega | (intro h; omega) | exact Or.inl rfl | exact Or.inr rfl) (by first | omega | (intro h; omega) | exact Or.inl rfl | exact Or.inr rfl) (by first | omega | (intro h; omega) | exact Or.inl rfl | exact Or.inr rfl) (by first | omega | (intro h; omega) | exact Or.inl rfl | exact Or.inr rfl) (by clear hg; first | (intro h; exfalso; omega) | exact fun _ => (False.elim (by omega)) | exact fun _ => k_5592) k_5591 u_5572 u_5573 hg.symm)
                    · have d_5593 := iEq c_5478
                      replace hg := gt_pos (by first | exact d_5593 | omega) hg
                      unfold fModel_unit_228
                      replace hg := (eModel_unit_228).symm.trans hg
                      have l_5594 : (78 : Int32).toInt = 78 := rfl
                      refine ⟨fun c_5595 => ?_, fun c_5595 => ?_⟩
                      · have d_5596 := iNe c_5595
                        have i_5597 := u_5398 (by omega)
                        have i_5598 := u_5399 (by omega)
                        exfalso; omega
                      · have d_5599 := iEq c_5595
                        replace hg := gt_pos (by first | exact d_5599 | omega) hg
                        replace hg := gt_let (y := (I_5450 o 9).toInt) rfl hg
                        refine y_Model_stepg hok hw ra hz55 (by first | omega | (intro h; omega) | exact Or.inl rfl | exact Or.inr rfl) (by first | omega | (intro h; omega) | exact Or.inl rfl | exact Or.inr rfl) hR_5452 (fun I_5604 L_5605 hR_5606 fr_5607 kp_5608 u_5601 u_5602 gn_5603 => ⟨I_5604, L_5605, rfl, rfl, ?_⟩)
                        replace hg := gt_b3 gn_5603 hg
                        clear gn_5603
                        have hf_5609 : Fm (fun c => c = o ∨ (o + 30 ≤ c ∧ c < o + 34)) I0 I_5604 := hf_5453.call fr_5607 (fun c hc => by first | exact hc | (dsimp only at hc ⊢; omega) | omega)
                        have t_5610 : (I_5604 o 3).toInt = (I_5450 o 3).toInt := by rw [kp_5608 3 rfl]
                        have t_5611 : (I_5604 o 4).toInt = (I_5450 o 4).toInt := by rw [kp_5608 4 rfl]
                        have t_5612 : (I_5604 o 6).toInt = (I_5450 o 6).toInt := by rw [kp_5608 6 rfl]
                        have t_5613 : (I_5604 o 7).toInt = (I_5450 o 7).toInt := by rw [kp_5608 7 rfl]
                        have t_5614 : (I_5604 o 8).toInt = (I_5450 o 8).toInt := by rw [kp_5608 8 rfl]
                        have t_5615 : (I_5604 o 9).toInt = (I_5450 o 9).toInt := by rw [kp_5608 9 rfl]
                        have t_5616 : (I_5604 o 44).toInt = (I_5450 o 44).toInt := by rw [kp_5608 44 rfl]
                        have g_5617 : (0 : Int) ≤ (I_5604 o 45).toInt ∧ (I_5604 o 45).toInt ≤ 700 := hR_5606.at0 ra 45 (by decide)
                        have t_5618 : (I_5604 o 47).toInt = (I_5450 o 47).toInt := by rw [kp_5608 47 rfl]
                        have t_5619 : (I_5604 o 48).toInt = (I_5450 o 48).toInt := by rw [kp_5608 48 rfl]
                        have t_5620 : (I_5604 o 46).toInt = (I_5450 o 46).toInt := by rw [kp_5608 46 rfl]
                        have k_5621 : MPo I_5604 o := k_5467.fr (kp_5608 8 rfl) (kp_5608 9 rfl)
                        have k_5622 : MTk I_5604 o := k_5468.fr (kp_5608 6 rfl) (kp_5608 7 rfl) (kp_5608 8 rfl)
                        have tk := k_5622.2 (by omega)
                        have k_5623 : EX 0 0 1 f0 0 I_5604 o := by exact EX.step1 k_5465 (by first | exact u_5398 (by omega) | (unfold isT; decide)) (by omega) (fr_5607 _ (by first | omega | (dsimp only; omega))) (fr_5607 _ (by first | omega | (dsimp only; omega))) u_5601 (fr_5607 _ (by first | omega | (dsimp only; omega))) (fr_5607 _ (by first | omega | (dsimp only; omega))) (kp_5608 3 rfl) (kp_5608 6 rfl) (kp_5608 44 rfl) u_5602 (kp_5608 47 rfl) (kp_5608 48 rfl)
                        have k_5624 : MTd I_5604 o := by exact MTd.step k_5466 (fr_5607 _ (by first | omega | (dsimp only; omega))) (fr_5607 _ (by first | omega | (dsimp only; omega))) u_5601 (by omega)
                        refine y_Model_nextg hok hw ra hz16 hz17 hz18 hz19 (by first | omega | (intro h; omega) | exact Or.inl rfl | exact Or.inr rfl) hR_5606 (fun I_5635 L_5636 hR_5637 fr_5638 kp_5639 u_5626 u_5627 u_5628 u_5629 u_5630 u_5631 u_5632 u_5633 gn_5634 => ⟨I_5635, L_5636, rfl, rfl, ?_⟩)
                        replace hg := gt_b3 gn_5634 hg
                        clear gn_5634
                        have hf_5640 : Fm (fun c => c = o ∨ (o + 30 ≤ c ∧ c < o + 34)) I0 I_5635 := hf_5609.call fr_5638 (fun c hc => by first | exact hc | (dsimp only at hc ⊢; omega) | omega)
                        have t_5641 : (I_5635 o 3).toInt = (I_5604 o 3).toInt := by rw [kp_5639 3 rfl]
                        have t_5642 : (I_5635 o 4).toInt = (I_5604 o 4).toInt := by rw [kp_5639 4 rfl]
                        have g_5643 : (0 : Int) ≤ (I_5635 o 6).toInt ∧ (I_5635 o 6).toInt ≤ 1600 := hR_5637.at0 ra 6 (by decide)
                        have g_5644 : (0 : Int) ≤ (I_5635 o 7).toInt ∧ (I_5635 o 7).toInt ≤ 1601 := hR_5637.at0 ra 7 (by decide)
                        have g_5645 : (0 : Int) ≤ (I_5635 o 8).toInt ∧ (I_5635 o 8).toInt ≤ 6 := hR_5637.at0 ra 8 (by decide)
                        have t_5646 : (I_5635 o 44).toInt = (I_5604 o 44).toInt := by rw [kp_5639 44 rfl]
                        have t_5647 : (I_5635 o 45).toInt = (I_5604 o 45).toInt := by rw [kp_5639 45 rfl]
                        have t_5648 : (I_5635 o 47).toInt = (I_5604 o 47).toInt := by rw [kp_5639 47 rfl]
                        have t_5649 : (I_5635 o 48).toInt = (I_5604 o 48).toInt := by rw [kp_5639 48 rfl]
                        have t_5650 : (I_5635 o 46).toInt = (I_5604 o 46).toInt := by rw [kp_5639 46 rfl]
                        have k_5651 : MTd I_5635 o := k_5624.fr (fr_5638 _ (by first | omega | (dsimp only; omega))) (fr_5638 _ (by first | omega | (dsimp only; omega))) (fr_5638 _ (by first | omega | (dsimp only; omega)))
                        have ms := u_5629 (by omega)
                        have k_5652 : EX 0 0 0 f0 0 I_5635 o := by exact EX.nx k_5623 (fr_5638 _ (by first | omega | (dsimp only; omega))) (fr_5638 _ (by first | omega | (dsimp only; omega))) (fr_5638 _ (by first | omega | (dsimp only; omega))) (fr_5638 _ (by first | omega | (dsimp only; omega))) (fr_5638 _ (by first | omega | (dsimp only; omega))) (kp_5639 3 rfl) (kp_5639 44 rfl) (kp_5639 45 rfl) (kp_5639 47 rfl) (kp_5639 48 rfl) (by omega) (by omega)
                        exact (hp _ _ _ hR_5637 hf_5640 (Or.inl rfl) (by first | omega | (intro h; omega) | exact Or.inl rfl | exact Or.inr rfl) (by first | omega | (intro h; omega) | exact Or.inl rfl | exact Or.inr rfl) (by first | omega | (intro h; omega) | exact Or.inl rfl | exact Or.inr rfl) (by first | omega | (intro h; omega) | exact Or.inl rfl | exact Or.inr rfl) (by first | omega | (intro h; omega) | exact Or.inl rfl | exact Or.inr rfl) (by clear hg; first | (intro h; exfalso; omega) | exact fun _ => (False.elim (by omega)) | exact fun _ => k_5652) k_5651 u_5632 u_5633 hg.symm)
                  · have d_5653 := iNe c_5476
                    have i_5654 := u_5472 (by omega)
                    have i_5655 := u_5473 (by omega)
                    replace hg := gt_neg (by first | exact d_5653 | omega) hg
                    have g_5656 : (0 : Int) ≤ (I_5450 o 47).toInt ∧ (I_5450 o 47).toInt ≤ 7 := hR_5452.at0 ra 47 (by decide)
                    replace hg := gt_let (y := (I_5450 o 47).toInt) rfl hg
                    refine ⟨fun c_5657 => ?_, fun c_5657 => ?_⟩
                    · have d_5658 := iNe c_5657
                      replace hg := gt_neg (by first | exact d_5658 | omega) hg
                      refine y_Model_isGoodg hok hw ra hR_5452 (fun r_5659 u_5660 u_5661 u_5662 gn_5663 => ⟨r_5659, I_5450, L_5403, rfl, rfl, ?_⟩)
                      replace hg := gt_let gn_5663 hg
                      clear gn_5663
                      have b_5664 : 0 ≤ r_5659.toInt ∧ r_5659.toInt ≤ 1 := u_5660.rg
                      refine ⟨fun c_5665 => ?_, fun c_5665 => ?_⟩
                      · have d_5666 := iNe c_5665
                        have i_5667 := u_5661 (by omega)
                        replace hg := gt_neg (by first | exact d_5666 | omega) hg
                        refine y_Model_pileg hok hw ra hz58 (by first | omega | (intro h; omega) | exact Or.inl rfl | exact Or.inr rfl) (by first | omega | (intro h; omega) | exact Or.inl rfl | exact Or.inr rfl) hR_5452 (fun I_5673 L_5674 hR_5675 fr_5676 kp_5677 u_5669 u_5670 u_5671 gn_5672 => ⟨I_5673, L_5674, rfl, rfl, ?_⟩)
                        replace hg := gt_b3 gn_5672 hg
                        clear gn_5672
                        have hf_5678 : Fm (fun c => c = o ∨ (o + 30 ≤ c ∧ c < o + 34)) I0 I_5673 := hf_5453.call fr_5676 (fun c hc => by first | exact hc | (dsimp only at hc ⊢; omega) | omega)
                        have t_5679 : (I_5673 o 3).toInt = (I_5450 o 3).toInt := by rw [kp_5677 3 rfl]
                        have t_5680 : (I_5673 o 4).toInt = (I_5450 o 4).toInt := by rw [kp_5677 4 rfl]
                        have t_5681 : (I_5673 o 6).toInt = (I_5450 o 6).toInt := by rw [kp_5677 6 rfl]
                        have t_5682 : (I_5673 o 7).toInt = (I_5450 o 7).toInt := by rw [kp_5677 7 rfl]
                        have t_5683 : (I_5673 o 8).toInt = (I_5450 o 8).toInt := by rw [kp_5677 8 rfl]
                        have t_5684 : (I_5673 o 9).toInt = (I_5450 o 9).toInt := by rw [kp_5677 9 rfl]
                        have t_5685 : (I_5673 o 44).toInt = (I_5450 o 44).toInt := by rw [kp_5677 44 rfl]
                        have t_5686 : (I_5673 o 45).toInt = (I_5450 o 45).toInt := by rw [kp_5677 45 rfl]
                        have t_5687 : (I_5673 o 47).toInt = (I_5450 o 47).toInt := by rw [kp_5677 47 rfl]
                        have g_5688 : (0 : Int) ≤ (I_5673 o 48).toInt ∧ (I_5673 o 48).toInt ≤ 80 := hR_5675.at0 ra 48 (by decide)
                        have t_5689 : (I_5673 o 46).toInt = (I_5450 o 46).toInt := by rw [kp_5677 46 rfl]
                        have k_5690 : MTd I_5673 o := k_5466.fr (fr_5676 _ (by first | omega | (dsimp only; omega))) (fr_5676 _ (by first | omega | (dsimp only; omega))) (fr_5676 _ (by first | omega | (dsimp only; omega)))
                        have k_5691 : MPo I_5673 o := k_5467.fr (kp_5677 8 rfl) (kp_5677 9 rfl)
                        have k_5692 : MTk I_5673 o := k_5468.fr (kp_5677 6 rfl) (kp_5677 7 rfl) (kp_5677 8 rfl)
                        have k_5693 : EX 0 1 1 f0 1 I_5673 o := by have z := EX.push k_5465 (v := 7) (s := 0) (dB := 1) (dO := 0) (wt' := 1) (by decide) (by decide) (by decide) (by omega) ⟨by decide, by decide⟩ ⟨fun h => absurd h (by decide), fun h => absurd h (by decide)⟩ (Or.inl rfl) (fr_5676 _ (by first | omega | (dsimp only; omega))) (fr_5676 _ (by first | omega | (dsimp only; omega))) (fr_5676 _ (by first | omega | (dsimp only; omega))) u_5669 u_5670 (kp_5677 3 rfl) (kp_5677 6 rfl) (kp_5677 44 rfl) (kp_5677 45 rfl) (kp_5677 47 rfl) u_5671; exact EX.chg (b' := 1) z rfl rfl rfl rfl rfl rfl rfl rfl rfl rfl (by omega) z.pl
                        have g_5694 : (0 : Int) ≤ (I_5673 o 47).toInt ∧ (I_5673 o 47).toInt ≤ 7 := hR_5675.at0 ra 47 (by decide)
                        replace hg := gt_let (y := (I_5673 o 47).toInt) rfl hg
                        have a_5695 : ((I_5673 o 47) + 1).toInt = (I_5673 o 47).toInt + (1 : Int32).toInt := tAdd (by omega) (by omega)
                        replace hg := gt_let (y := (((I_5673 o 47) + 1) : Int32).toInt) (by omega) hg
                        refine fun I_5696 e_5697 => ?_
                        replace hg := gt_let (y := tI I_5696) (tI_q e_5697) hg
                        have hR_5698 : RI R I_5696 := hR_5675.up0 (k := 47) ra (by decide) (Or.inr hz57) e_5697 (show (0 : Int) ≤ ((I_5673 o 47) + 1).toInt by omega) (show ((I_5673 o 47) + 1).toInt ≤ (7 : Int) by omega)
                        have hf_5699 : Fm (fun c => c = o ∨ (o + 30 ≤ c ∧ c < o + 34)) I0 I_5696 := hf_5678.set (by first | rfl | omega | (dsimp only; omega)) e_5697
                        have t_5700 : (I_5696 o 3).toInt = (I_5673 o 3).toInt := by rw [← e_5697, q_u_k (by decide)]
                        have t_5701 : (I_5696 o 4).toInt = (I_5673 o 4).toInt := by rw [← e_5697, q_u_k (by decide)]
                        have t_5702 : (I_5696 o 6).toInt = (I_5673 o 6).toInt := by rw [← e_5697, q_u_k (by decide)]
                        have t_5703 : (I_5696 o 7).toInt = (I_5673 o 7).toInt := by rw [← e_5697, q_u_k (by decide)]
                        have t_5704 : (I_5696 o 8).toInt = (I_5673 o 8).toInt := by rw [← e_5697, q_u_k (by decide)]
                        have t_5705 : (I_5696 o 9).toInt = (I_5673 o 9).toInt := by rw [← e_5697, q_u_k (by decide)]
                        have t_5706 : (I_5696 o 44).toInt = (I_5673 o 44).toInt := by rw [← e_5697, q_u_k (by decide)]
                        have t_5707 : (I_5696 o 45).toInt = (I_5673 o 45).toInt := by rw [← e_5697, q_u_k (by decide)]
                        have t_5708 : (I_5696 o 47).toInt = ((I_5673 o 47) + 1).toInt := by rw [← e_5697, q_u_at]
                        have t_5709 : (I_5696 o 48).toInt = (I_5673 o 48).toInt := by rw [← e_5697, q_u_k (by decide)]
                        have t_5710 : (I_5696 o 46).toInt = (I_5673 o 46).toInt := by rw [← e_5697, q_u_k (by decide)]
                        have k_5711 : MTd I_5696 o := k_5690.fr (by rw [← e_5697]; exact q_u_ne (by omega)) (by rw [← e_5697]; exact q_u_ne (by omega)) (by rw [← e_5697]; exact q_u_ne (by omega))
                        have k_5712 : MPo I_5696 o := k_5691.fr (by rw [← e_5697, q_u_k (by decide)]) (by rw [← e_5697, q_u_k (by decide)])
                        have k_5713 : MTk I_5696 o := k_5692.fr (by rw [← e_5697, q_u_k (by decide)]) (by rw [← e_5697, q_u_k (by decide)]) (by rw [← e_5697, q_u_k (by decide)])
                        have tk := k_5713.2 (by omega)
                        have k_5715 : EX 0 0 1 f0 1 I_5696 o := by exact EX.put47 k_5693 e_5697 (by omega)
                        refine y_Model_nextg hok hw ra hz16 hz17 hz18 hz19 (by first | omega | (intro h; omega) | exact Or.inl rfl | exact Or.inr rfl) hR_5698 (fun I_5726 L_5727 hR_5728 fr_5729 kp_5730 u_5717 u_5718 u_5719 u_5720 u_5721 u_5722 u_5723 u_5724 gn_5725 => ⟨I_5726, L_5727, rfl, rfl, ?_⟩)
                        replace hg := gt_b3 gn_5725 hg
                        clear gn_5725
                        have hf_5731 : Fm (fun c => c = o ∨ (o + 30 ≤ c ∧ c < o + 34)) I0 I_5726 := hf_5699.call fr_5729 (fun c hc => by first | exact hc | (dsimp only at hc ⊢; omega) | omega)
                        have t_5732 : (I_5726 o 3).toInt = (I_5696 o 3).toInt := by rw [kp_5730 3 rfl]
                        have t_5733 : (I_5726 o 4).toInt = (I_5696 o 4).toInt := by rw [kp_5730 4 rfl]
                        have g_5734 : (0 : Int) ≤ (I_5726 o 6).toInt ∧ (I_5726 o 6).toInt ≤ 1600 := hR_5728.at0 ra 6 (by decide)
                        have g_5735 : (0 : Int) ≤ (I_5726 o 7).toInt ∧ (I_5726 o 7).toInt ≤ 1601 := hR_5728.at0 ra 7 (by decide)
                        have g_5736 : (0 : Int) ≤ (I_5726 o 8).toInt ∧ (I_5726 o 8).toInt ≤ 6 := hR_5728.at0 ra 8 (by decide)
                        have t_5737 : (I_5726 o 44).toInt = (I_5696 o 44).toInt := by rw [kp_5730 44 rfl]
                        have t_5738 : (I_5726 o 45).toInt = (I_5696 o 45).toInt := by rw [kp_5730 45 rfl]
                        have t_5739 : (I_5726 o 47).toInt = (I_5696 o 47).toInt := by rw [kp_5730 47 rfl]
                        have t_5740 : (I_5726 o 48).toInt = (I_5696 o 48).toInt := by rw [kp_5730 48 rfl]
                        have t_5741 : (I_5726 o 46).toInt = (I_5696 o 46).toInt := by rw [kp_5730 46 rfl]
                        have k_5742 : MTd I_5726 o := k_5711.fr (fr_5729 _ (by first | omega | (dsimp only; omega))) (fr_5729 _ (by first | omega | (dsimp only; omega))) (fr_5729 _ (by first | omega | (dsimp only; omega)))
                        have ms := u_5720 (by omega)
                        have k_5743 : EX 0 0 0 f0 1 I_5726 o := by exact EX.nx k_5715 (fr_5729 _ (by first | omega | (dsimp only; omega))) (fr_5729 _ (by first | omega | (dsimp only; omega))) (fr_5729 _ (by first | omega | (dsimp only; omega))) (fr_5729 _ (by first | omega | (dsimp only; omega))) (fr_5729 _ (by first | omega | (dsimp only; omega))) (kp_5730 3 rfl) (kp_5730 44 rfl) (kp_5730 45 rfl) (kp_5730 47 rfl) (kp_5730 48 rfl) (by omega) (by omega)
                        exact (hp _ _ _ hR_5728 hf_5731 (Or.inr rfl) (by first | omega | (intro h; omega) | exact Or.inl rfl | exact Or.inr rfl) (by first | omega | (intro h; omega) | exact Or.inl rfl | exact Or.inr rfl) (by first | omega | (intro h; omega) | exact Or.inl rfl | exact Or.inr rfl) (by first | omega | (intro h; omega) | exact Or.inl rfl | exact Or.inr rfl) (by first | omega | (intro h; omega) | exact Or.inl rfl | exact Or.inr rfl) (by clear hg; first | (intro h; exfalso; omega) | exact fun _ => k_5743 | exact fun _ => (False.elim (by omega))) k_5742 u_5723 u_5724 hg.symm)
                      · have d_5744 := iEq c_5665
                        have i_5745 := u_5662 (by omega)
                        replace hg := gt_pos (by first | exact d_5744 | omega) hg
                        exact (hp _ _ _ hR_5452 hf_5453 (Or.inr rfl) (by first | omega | (intro h; omega) | exact Or.inl rfl | exact Or.inr rfl) (by first | omega | (intro h; omega) | exact Or.inl rfl | exact Or.inr rfl) (by first | omega | (intro h; omega) | exact Or.inl rfl | exact Or.inr rfl) (by first | omega | (intro h; omega) | exact Or.inl rfl | exact Or.inr rfl) (by first | omega | (intro h; omega) | exact Or.inl rfl | exact Or.inr rfl) (by clear hg; first | (intro h; exfalso; omega) | exact fun _ => k_5465 | exact fun _ => (False.elim (by omega))) k_5466 k_5467 k_5468 hg.symm)
                    · have d_5746 := iEq c_5657
                      replace hg := gt_pos (by first | exact d_5746 | omega) hg
                      refine y_Model_wrongg hok hw ra hz14 hz15 hR_5452 (fun I_5751 L_5752 hR_5753 fr_5754 kp_5755 u_5748 u_5749 gn_5750 => ⟨I_5751, L_5752, rfl, rfl, ?_⟩)
                      replace hg := gt_b3 gn_5750 hg
                      clear gn_5750
                      have hf_5756 : Fm (fun c => c = o ∨ (o + 30 ≤ c ∧ c < o + 34)) I0 I_5751 := hf_5453.call fr_5754 (fun c hc => by first | exact hc | (dsimp only at hc ⊢; omega) | omega)
                      have t_5757 : (I_5751 o 3).toInt = (I_5450 o 3).toInt := by rw [kp_5755 3 rfl]
                      have g_5758 : (0 : Int) ≤ (I_5751 o 4).toInt ∧ (I_5751 o 4).toInt ≤ 5 := hR_5753.at0 ra 4 (by decide)
                      have t_5759 : (I_5751 o 6).toInt = (I_5450 o 6).toInt := by rw [kp_5755 6 rfl]
                      have t_5760 : (I_5751 o 7).toInt = (I_5450 o 7).toInt := by rw [kp_5755 7 rfl]
                      have t_5761 : (I_5751 o 8).toInt = (I_5450 o 8).toInt := by rw [kp_5755 8 rfl]
                      have t_5762 : (I_5751 o 9).toInt = (I_5450 o 9).toInt := by rw [kp_5755 9 rfl]
                      have t_5763 : (I_5751 o 44).toInt = (I_5450 o 44).toInt := by rw [kp_5755 44 rfl]
                      have t_5764 : (I_5751 o 45).toInt = (I_5450 o 45).toInt := by rw [kp_5755 45 rfl]
                      have t_5765 : (I_5751 o 47).toInt = (I_5450 o 47).toInt := by rw [kp_5755 47 rfl]
                      have t_5766 : (I_5751 o 48).toInt = (I_5450 o 48).toInt := by rw [kp_5755 48 rfl]
                      have t_5767 : (I_5751 o 46).toInt = (I_5450 o 46).toInt := by rw [kp_5755 46 rfl]
                      have k_5768 : EX 0 0 0 f0 1 I_5751 o := k_5465.fr (fr_5754 _ (by first | omega | (dsimp only; omega))) (fr_5754 _ (by first | omega | (dsimp only; omega))) (fr_5754 _ (by first | omega | (dsimp only; omega))) (fr_5754 _ (by first | omega | (dsimp only; omega))) (fr_5754 _ (by first | omega | (dsimp only; omega))) (kp_5755 3 rfl) (kp_5755 6 rfl) (kp_5755 44 rfl) (kp_5755 45 rfl) (kp_5755 47 rfl) (kp_5755 48 rfl)
                      have k_5769 : MTd I_5751 o := k_5466.fr (fr_5754 _ (by first | omega | (dsimp only; omega))) (fr_5754 _ (by first | omega | (dsimp only; omega))) (fr_5754 _ (by first | omega | (dsimp only; omega)))
                      have k_5770 : MPo I_5751 o := k_5467.fr (kp_5755 8 rfl) (kp_5755 9 rfl)
                      have k_5771 : MTk I_5751 o := k_5468.fr (kp_5755 6 rfl) (kp_5755 7 rfl) (kp_5755 8 rfl)
                      refine y_Model_isGoodg hok hw ra hR_5753 (fun r_5772 u_5773 u_5774 u_5775 gn_5776 => ⟨r_5772, I_5751, L_5752, rfl, rfl, ?_⟩)
                      replace hg := gt_let gn_5776 hg
                      clear gn_5776
                      have b_5777 : 0 ≤ r_5772.toInt ∧ r_5772.toInt ≤ 1 := u_5773.rg
                      refine ⟨fun c_5778 => ?_, fun c_5778 => ?_⟩
                      · have d_5779 := iNe c_5778
                        have i_5780 := u_5774 (by omega)
                        replace hg := gt_neg (by first | exact d_5779 | omega) hg
                        refine y_Model_pileg hok hw ra hz58 (by first | omega | (intro h; omega) | exact Or.inl rfl | exact Or.inr rfl) (by first | omega | (intro h; omega) | exact Or.inl rfl | exact Or.inr rfl) hR_5753 (fun I_5786 L_5787 hR_5788 fr_5789 kp_5790 u_5782 u_5783 u_5784 gn_5785 => ⟨I_5786, L_5787, rfl, rfl, ?_⟩)
                        replace hg := gt_b3 gn_5785 hg
                        clear gn_5785
                        have hf_5791 : Fm (fun c => c = o ∨ (o + 30 ≤ c ∧ c < o + 34)) I0 I_5786 := hf_5756.call fr_5789 (fun c hc => by first | exact hc | (dsimp only at hc ⊢; omega) | omega)
                        have t_5792 : (I_5786 o 3).toInt = (I_5751 o 3).toInt := by rw [kp_5790 3 rfl]
                        have t_5793 : (I_5786 o 4).toInt = (I_5751 o 4).toInt := by rw [kp_5790 4 rfl]
                        have t_5794 : (I_5786 o 6).toInt = (I_5751 o 6).toInt := by rw [kp_5790 6 rfl]
                        have t_5795 : (I_5786 o 7).toInt = (I_5751 o 7).toInt := by rw [kp_5790 7 rfl]
                        have t_5796 : (I_5786 o 8).toInt = (I_5751 o 8).toInt := by rw [kp_5790 8 rfl]
                        have t_5797 : (I_5786 o 9).toInt = (I_5751 o 9).toInt := by rw [kp_5790 9 rfl]
                        have t_5798 : (I_5786 o 44).toInt = (I_5751 o 44).toInt := by rw [kp_5790 44 rfl]
                        have t_5799 : (I_5786 o 45).toInt = (I_5751 o 45).toInt := by rw [kp_5790 45 rfl]
                        have t_5800 : (I_5786 o 47).toInt = (I_5751 o 47).toInt := by rw [kp_5790 47 rfl]
                        have g_5801 : (0 : Int) ≤ (I_5786 o 48).toInt ∧ (I_5786 o 48).toInt ≤ 80 := hR_5788.at0 ra 48 (by decide)
                        have t_5802 : (I_5786 o 46).toInt = (I_5751 o 46).toInt := by rw [kp_5790 46 rfl]
                        have k_5803 : MTd I_5786 o := k_5769.fr (fr_5789 _ (by first | omega | (dsimp only; omega))) (fr_5789 _ (by first | omega | (dsimp only; omega))) (fr_5789 _ (by first | omega | (dsimp only; omega)))
                        have k_5804 : MPo I_5786 o := k_5770.fr (kp_5790 8 rfl) (kp_5790 9 rfl)
                        have k_5805 : MTk I_5786 o := k_5771.fr (kp_5790 6 rfl) (kp_5790 7 rfl) (kp_5790 8 rfl)
                        have k_5806 : EX 0 1 1 f0 1 I_5786 o := by have z := EX.push k_5768 (v := 7) (s := 0) (dB := 1) (dO := 0) (wt' := 1) (by decide) (by decide) (by decide) (by omega) ⟨by decide, by decide⟩ ⟨fun h => absurd h (by decide), fun h => absurd h (by decide)⟩ (Or.inl rfl) (fr_5789 _ (by first | omega | (dsimp only; omega))) (fr_5789 _ (by first | omega | (dsimp only; omega))) (fr_5789 _ (by first | omega | (dsimp only; omega))) u_5782 u_5783 (kp_5790 3 rfl) (kp_5790 6 rfl) (kp_5790 44 rfl) (kp_5790 45 rfl) (kp_5790 47 rfl) u_5784; exact EX.chg (b' := 1) z rfl rfl rfl rfl rfl rfl rfl rfl rfl rfl (by omega) z.pl
                        have g_5807 : (0 : Int) ≤ (I_5786 o 47).toInt ∧ (I_5786 o 47).toInt ≤ 7 := hR_5788.at0 ra 47 (by decide)
                        replace hg := gt_let (y := (I_5786 o 47).toInt) rfl hg
                        have a_5808 : ((I_5786 o 47) + 1).toInt = (I_5786 o 47).toInt + (1 : Int32).toInt := tAdd (by omega) (by omega)
                        replace hg := gt_let (y := (((I_5786 o 47) + 1) : Int32).toInt) (by omega) hg
                        refine fun I_5809 e_5810 => ?_
                        replace hg := gt_let (y := tI I_5809) (tI_q e_5810) hg
                        have hR_5811 : RI R I_5809 := hR_5788.up0 (k := 47) ra (by decide) (Or.inr hz57) e_5810 (show (0 : Int) ≤ ((I_5786 o 47) + 1).toInt by omega) (show ((I_5786 o 47) + 1).toInt ≤ (7 : Int) by omega)
                        have hf_5812 : Fm (fun c => c = o ∨ (o + 30 ≤ c ∧ c < o + 34)) I0 I_5809 := hf_5791.set (by first | rfl | omega | (dsimp only; omega)) e_5810
                        have t_5813 : (I_5809 o 3).toInt = (I_5786 o 3).toInt := by rw [← e_5810, q_u_k (by decide)]
                        have t_5814 : (I_5809 o 4).toInt = (I_5786 o 4).toInt := by rw [← e_5810, q_u_k (by decide)]
                        have t_5815 : (I_5809 o 6).toInt = (I_5786 o 6).toInt := by rw [← e_5810, q_u_k (by decide)]
                        have t_5816 : (I_5809 o 7).toInt = (I_5786 o 7).toInt := by rw [← e_5810, q_u_k (by decide)]
                        have t_5817 : (I_5809 o 8).toInt = (I_5786 o 8).toInt := by rw [← e_5810, q_u_k (by decide)]
                        have t_5818 : (I_5809 o 9).toInt = (I_5786 o 9).toInt := by rw [← e_5810, q_u_k (by decide)]
                        have t_5819 : (I_5809 o 44).toInt = (I_5786 o 44).toInt := by rw [← e_5810, q_u_k (by decide)]
                        have t_5820 : (I_5809 o 45).toInt = (I_5786 o 45).toInt := by rw [← e_5810, q_u_k (by decide)]
                        have t_5821 : (I_5809 o 47).toInt = ((I_5786 o 47) + 1).toInt := by rw [← e_5810, q_u_at]
                        have t_5822 : (I_5809 o 48).toInt = (I_5786 o 48).toInt := by rw [← e_5810, q_u_k (by decide)]
                        have t_5823 : (I_5809 o 46).toInt = (I_5786 o 46).toInt := by rw [← e_5810, q_u_k (by decide)]
                        have k_5824 : MTd I_5809 o := k_5803.fr (by rw [← e_5810]; exact q_u_ne (by omega)) (by rw [← e_5810]; exact q_u_ne (by omega)) (by rw [← e_5810]; exact q_u_ne (by omega))
                        have k_5825 : MPo I_5809 o := k_5804.fr (by rw [← e_5810, q_u_k (by decide)]) (by rw [← e_5810, q_u_k (by decide)])
                        have k_5826 : MTk I_5809 o := k_5805.fr (by rw [← e_5810, q_u_k (by decide)]) (by rw [← e_5810, q_u_k (by decide)]) (by rw [← e_5810, q_u_k (by decide)])
                        have tk := k_5826.2 (by omega)
                        have k_5828 : EX 0 0 1 f0 1 I_5809 o := by exact EX.put47 k_5806 e_5810 (by omega)
                        refine y_Model_nextg hok hw ra hz16 hz17 hz18 hz19 (by first | omega | (intro h; omega) | exact Or.inl rfl | exact Or.inr rfl) hR_5811 (fun I_5839 L_5840 hR_5841 fr_5842 kp_5843 u_5830 u_5831 u_5832 u_5833 u_5834 u_5835 u_5836 u_5837 gn_5838 => ⟨I_5839, L_5840, rfl, rfl, ?_⟩)
                        replace hg := gt_b3 gn_5838 hg
                        clear gn_5838
                        have hf_5844 : Fm (fun c => c = o ∨ (o + 30 ≤ c ∧ c < o + 34)) I0 I_5839 := hf_5812.call fr_5842 (fun c hc => by first | exact hc | (dsimp only at hc ⊢; omega) | omega)
                        have t_5845 : (I_5839 o 3).toInt = (I_5809 o 3).toInt := by rw [kp_5843 3 rfl]
                        have t_5846 : (I_5839 o 4).toInt = (I_5809 o 4).toInt := by rw [kp_5843 4 rfl]
                        have g_5847 : (0 : Int) ≤ (I_5839 o 6).toInt ∧ (I_5839 o 6).toInt ≤ 1600 := hR_5841.at0 ra 6 (by decide)
                        have g_5848 : (0 : Int) ≤ (I_5839 o 7).toInt ∧ (I_5839 o 7).toInt ≤ 1601 := hR_5841.at0 ra 7 (by decide)
                        have g_5849 : (0 : Int) ≤ (I_5839 o 8).toInt ∧ (I_5839 o 8).toInt ≤ 6 := hR_5841.at0 ra 8 (by decide)
                        have t_5850 : (I_5839 o 44).toInt = (I_5809 o 44).toInt := by rw [kp_5843 44 rfl]
                        have t_5851 : (I_5839 o 45).toInt = (I_5809 o 45).toInt := by rw [kp_5843 45 rfl]
                        have t_5852 : (I_5839 o 47).toInt = (I_5809 o 47).toInt := by rw [kp_5843 47 rfl]
                        have t_5853 : (I_5839 o 48).toInt = (I_5809 o 48).toInt := by rw [kp_5843 48 rfl]
                        have t_5854 : (I_5839 o 46).toInt = (I_5809 o 46).toInt := by rw [kp_5843 46 rfl]
                        have k_5855 : MTd I_5839 o := k_5824.fr (fr_5842 _ (by first | omega | (dsimp only; omega))) (fr_5842 _ (by first | omega | (dsimp only; omega))) (fr_5842 _ (by first | omega | (dsimp only; omega)))
                        have ms := u_5833 (by omega)
                        have k_5856 : EX 0 0 0 f0 1 I_5839 o := by exact EX.nx k_5828 (fr_5842 _ (by first | omega | (dsimp only; omega))) (fr_5842 _ (by first | omega | (dsimp only; omega))) (fr_5842 _ (by first | omega | (dsimp only; omega))) (fr_5842 _ (by first | omega | (dsimp only; omega))) (fr_5842 _ (by first | omega | (dsimp only; omega))) (kp_5843 3 rfl) (kp_5843 44 rfl) (kp_5843 45 rfl) (kp_5843 47 rfl) (kp_5843 48 rfl) (by omega) (by omega)
                        exact (hp _ _ _ hR_5841 hf_5844 (Or.inr rfl) (by first | omega | (intro h; omega) | exact Or.inl rfl | exact Or.inr rfl) (by first | omega | (intro h; omega) | exact Or.inl rfl | exact Or.inr rfl) (by first | omega | (intro h; omega) | exact Or.inl rfl | exact Or.inr rfl) (by first | omega | (intro h; omega) | exact Or.inl rfl | exact Or.inr rfl) (by first | omega | (intro h; omega) | exact Or.inl rfl | exact Or.inr rfl) (by clear hg; first | (intro h; exfalso; omega) | exact fun _ => k_5856 | exact fun _ => (False.elim (by omega))) k_5855 u_5836 u_5837 hg.symm)
                      · have d_5857 := iEq c_5778
                        have i_5858 := u_5775 (by omega)
                        replace hg := gt_pos (by first | exact d_5857 | omega) hg
                        exact (hp _ _ _ hR_5753 hf_5756 (Or.inr rfl) (by first | omega | (intro h; omega) | exact Or.inl rfl | exact Or.inr rfl) (by first | omega | (intro h; omega) | exact Or.inl rfl | exact Or.inr rfl) (by first | omega | (intro h; omega) | exact Or.inl rfl | exact Or.inr rfl) (by first | omega | (intro h; omega) | exact Or.inl rfl | exact Or.inr rfl) (by first | omega | (intro h; omega) | exact Or.inl rfl | exact Or.inr rfl) (by clear hg; first | (intro h; exfalso; omega) | exact fun _ => k_5768 | exact fun _ => (False.elim (by omega))) k_5769 k_5770 k_5771 hg.symm)
                · have d_5859 := iEq c_5445
                  have i_5860 := u_5442 (by omega)
                  replace hg := gt_pos (by first | exact d_5859 | omega) hg
                  exact (hp _ _ _ hR_5404 hf_5407 (Or.inr rfl) (by first | omega | (intro h; omega) | exact Or.inl rfl | exact Or.inr rfl) (by first | omega | (intro h; omega) | exact Or.inl rfl | exact Or.inr rfl) (by first | omega | (intro h; omega) | exact Or.inl rfl | exact Or.inr rfl) (by first | omega | (intro h; omega) | exact Or.inl rfl | exact Or.inr rfl) (by first | omega | (intro h; omega) | exact Or.inl rfl | exact Or.inr rfl) (by clear hg; first | (intro h; exfalso; omega) | exact fun _ => k_5418 | exact fun _ => (False.elim (by omega))) k_5419 k_5420 k_5421 hg.symm)
              · have d_5861 := iEq c_5437
                replace hg := gt_pos (by first | exact d_5861 | omega) hg
                unfold fModel_unit_140
                replace hg := (eModel_unit_140).symm.trans hg
                refine y_Model_wrongg hok hw ra hz14 hz15 hR_5404 (fun I_5866 L_5867 hR_5868 fr_5869 kp_5870 u_5863 u_5864 gn_5865 => ⟨I_5866, L_5867, rfl, rfl, ?_⟩)
                replace hg := gt_b3 gn_5865 hg
                clear gn_5865
                have hf_5871 : Fm (fun c => c = o ∨ (o + 30 ≤ c ∧ c < o + 34)) I0 I_5866 := hf_5407.call fr_5869 (fun c hc => by first | exact hc | (dsimp only at hc ⊢; omega) | omega)
                have t_5872 : (I_5866 o 3).toInt = (I_5402 o 3).toInt := by rw [kp_5870 3 rfl]
                have g_5873 : (0 : Int) ≤ (I_5866 o 4).toInt ∧ (I_5866 o 4).toInt ≤ 5 := hR_5868.at0 ra 4 (by decide)
                have t_5874 : (I_5866 o 6).toInt = (I_5402 o 6).toInt := by rw [kp_5870 6 rfl]
                have t_5875 : (I_5866 o 7).toInt = (I_5402 o 7).toInt := by rw [kp_5870 7 rfl]
                have t_5876 : (I_5866 o 8).toInt = (I_5402 o 8).toInt := by rw [kp_5870 8 rfl]
                have t_5877 : (I_5866 o 9).toInt = (I_5402 o 9).toInt := by rw [kp_5870 9 rfl]
                have t_5878 : (I_5866 o 44).toInt = (I_5402 o 44).toInt := by rw [kp_5870 44 rfl]
                have t_5879 : (I_5866 o 45).toInt = (I_5402 o 45).toInt := by rw [kp_5870 45 rfl]
                have t_5880 : (I_5866 o 47).toInt = (I_5402 o 47).toInt := by rw [kp_5870 47 rfl]
                have t_5881 : (I_5866 o 48).toInt = (I_5402 o 48).toInt := by rw [kp_5870 48 rfl]
                have t_5882 : (I_5866 o 46).toInt = (I_5402 o 46).toInt := by rw [kp_5870 46 rfl]
                have k_5883 : EX 0 0 0 f0 1 I_5866 o := k_5418.fr (fr_5869 _ (by first | omega | (dsimp only; omega))) (fr_5869 _ (by first | omega | (dsimp only; omega))) (fr_5869 _ (by first | omega | (dsimp only; omega))) (fr_5869 _ (by first | omega | (dsimp only; omega))) (fr_5869 _ (by first | omega | (dsimp only; omega))) (kp_5870 3 rfl) (kp_5870 6 rfl) (kp_5870 44 rfl) (kp_5870 45 rfl) (kp_5870 47 rfl) (kp_5870 48 rfl)
                have k_5884 : MTd I_5866 o := k_5419.fr (fr_5869 _ (by first | omega | (dsimp only; omega))) (fr_5869 _ (by first | omega | (dsimp only; omega))) (fr_5869 _ (by first | omega | (dsimp only; omega)))
                have k_5885 : MPo I_5866 o := k_5420.fr (kp_5870 8 rfl) (kp_5870 9 rfl)
                have k_5886 : MTk I_5866 o := k_5421.fr (kp_5870 6 rfl) (kp_5870 7 rfl) (kp_5870 8 rfl)
                refine y_Model_isGoodg hok hw ra hR_5868 (fun r_5887 u_5888 u_5889 u_5890 gn_5891 => ⟨r_5887, I_5866, L_5867, rfl, rfl, ?_⟩)
                replace hg := gt_let gn_5891 hg
                clear gn_5891
                have b_5892 : 0 ≤ r_5887.toInt ∧ r_5887.toInt ≤ 1 := u_5888.rg
                refine ⟨fun c_5893 => ?_, fun c_5893 => ?_⟩
                · have d_5894 := iNe c_5893
                  have i_5895 := u_5889 (by omega)
                  replace hg := gt_neg (by first | exact d_5894 | omega) hg
                  have g_5896 : (0 : Int) ≤ (I_5866 o 46).toInt ∧ (I_5866 o 46).toInt ≤ 100 := hR_5868.at0 ra 46 (by decide)
                  replace hg := gt_let (y := (I_5866 o 46).toInt) rfl hg
                  have a_5897 : ((I_5866 o 46) + 1).toInt = (I_5866 o 46).toInt + (1 : Int32).toInt := tAdd (by omega) (by omega)
                  replace hg := gt_let (y := (((I_5866 o 46) + 1) : Int32).toInt) (by omega) hg
                  refine fun I_5898 e_5899 => ?_
                  replace hg := gt_let (y := tI I_5898) (tI_q e_5899) hg
                  have hR_5900 : RI R I_5898 := hR_5868.up0 (k := 46) ra (by decide) (Or.inr hz56) e_5899 (show (0 : Int) ≤ ((I_5866 o 46) + 1).toInt by omega) (show ((I_5866 o 46) + 1).toInt ≤ (100 : Int) by omega)
                  have hf_5901 : Fm (fun c => c = o ∨ (o + 30 ≤ c ∧ c < o + 34)) I0 I_5898 := hf_5871.set (by first | rfl | omega | (dsimp only; omega)) e_5899
                  have t_5902 : (I_5898 o 3).toInt = (I_5866 o 3).toInt := by rw [← e_5899, q_u_k (by decide)]
                  have t_5903 : (I_5898 o 4).toInt = (I_5866 o 4).toInt := by rw [← e_5899, q_u_k (by decide)]
                  have t_5904 : (I_5898 o 6).toInt = (I_5866 o 6).toInt := by rw [← e_5899, q_u_k (by decide)]
                  have t_5905 : (I_5898 o 7).toInt = (I_5866 o 7).toInt := by rw [← e_5899, q_u_k (by decide)]
                  have t_5906 : (I_5898 o 8).toInt = (I_5866 o 8).toInt := by rw [← e_5899, q_u_k (by decide)]
                  have t_5907 : (I_5898 o 9).toInt = (I_5866 o 9).toInt := by rw [← e_5899, q_u_k (by decide)]
                  have t_5908 : (I_5898 o 44).toInt = (I_5866 o 44).toInt := by rw [← e_5899, q_u_k (by decide)]
                  have t_5909 : (I_5898 o 45).toInt = (I_5866 o 45).toInt := by rw [← e_5899, q_u_k (by decide)]
                  have t_5910 : (I_5898 o 47).toInt = (I_5866 o 47).toInt := by rw [← e_5899, q_u_k (by decide)]
                  have t_5911 : (I_5898 o 48).toInt = (I_5866 o 48).toInt := by rw [← e_5899, q_u_k (by decide)]
                  have t_5912 : (I_5898 o 46).toInt = ((I_5866 o 46) + 1).toInt := by rw [← e_5899, q_u_at]
                  have k_5913 : EX 0 0 0 f0 1 I_5898 o := k_5883.fr (by rw [← e_5899]; exact q_u_ne (by omega)) (by rw [← e_5899]; exact q_u_ne (by omega)) (by rw [← e_5899]; exact q_u_ne (by omega)) (by rw [← e_5899]; exact q_u_ne (by omega)) (by rw [← e_5899]; exact q_u_ne (by omega)) (by rw [← e_5899, q_u_k (by decide)]) (by rw [← e_5899, q_u_k (by decide)]) (by rw [← e_5899, q_u_k (by decide)]) (by rw [← e_5899, q_u_k (by decide)]) (by rw [← e_5899, q_u_k (by decide)]) (by rw [← e_5899, q_u_k (by decide)])
                  have k_5914 : MTd I_5898 o := k_5884.fr (by rw [← e_5899]; exact q_u_ne (by omega)) (by rw [← e_5899]; exact q_u_ne (by omega)) (by rw [← e_5899]; exact q_u_ne (by omega))
                  have k_5915 : MPo I_5898 o := k_5885.fr (by rw [← e_5899, q_u_k (by decide)]) (by rw [← e_5899, q_u_k (by decide)])
                  have k_5916 : MTk I_5898 o := k_5886.fr (by rw [← e_5899, q_u_k (by decide)]) (by rw [← e_5899, q_u_k (by decide)]) (by rw [← e_5899, q_u_k (by decide)])
                  have l_5917 : (40 : Int32).toInt = 40 := rfl
                  refine y_Model_isg hok hw ra hR_5900 (fun r_5918 u_5919 u_5920 u_5921 gn_5922 => ⟨r_5918, I_5898, L_5867, rfl, rfl, ?_⟩)
                  replace hg := gt_let gn_5922 hg
                  clear gn_5922
                  have b_5923 : 0 ≤ r_5918.toInt ∧ r_5918.toInt ≤ 1 := u_5919.rg
                  refine ⟨fun c_5924 => ?_, fun c_5924 => ?_⟩
                  · have d_5925 := iEq c_5924
                    replace hg := gt_pos (by first | exact d_5925 | omega) hg
                    have cd := k_5913.cod
                    have tk := k_5916.2 (by omega)
                    refine ⟨fun c_5926 => ?_, fun c_5926 => ?_⟩
                    · have d_5927 := iNe c_5926
                      have i_5928 := u_5398 (by omega)
                      have i_5929 := u_5399 (by omega)
                      replace hg := gt_neg (by first | exact d_5927 | omega) hg
                      unfold fModel_unit_228
                      replace hg := (eModel_unit_228).symm.trans hg
                      refine ⟨fun c_5930 => ?_, fun c_5930 => ?_⟩
                      · have d_5931 := iNe c_5930
                        have i_5932 := u_5398 (by omega)
                        have i_5933 := u_5399 (by omega)
                        replace hg := gt_neg (by first | exact d_5931 | omega) hg
                        refine y_Model_stepg hok hw ra hz55 (by first | omega | (intro h; omega) | exact Or.inl rfl | exact Or.inr rfl) (by first | omega | (intro h; omega) | exact Or.inl rfl | exact Or.inr rfl) hR_5900 (fun I_5938 L_5939 hR_5940 fr_5941 kp_5942 u_5935 u_5936 gn_5937 => ⟨I_5938, L_5939, rfl, rfl, ?_⟩)
                        replace hg := gt_b3 gn_5937 hg
                        clear gn_5937
                        have hf_5943 : Fm (fun c => c = o ∨ (o + 30 ≤ c ∧ c < o + 34)) I0 I_5938 := hf_5901.call fr_5941 (fun c hc => by first | exact hc | (dsimp only at hc ⊢; omega) | omega)
                        have t_5944 : (I_5938 o 3).toInt = (I_5898 o 3).toInt := by rw [kp_5942 3 rfl]
                        have t_5945 : (I_5938 o 4).toInt = (I_5898 o 4).toInt := by rw [kp_5942 4 rfl]
                        have t_5946 : (I_5938 o 6).toInt = (I_5898 o 6).toInt := by rw [kp_5942 6 rfl]
                        have t_5947 : (I_5938 o 7).toInt = (I_5898 o 7).toInt := by rw [kp_5942 7 rfl]
                        have t_5948 : (I_5938 o 8).toInt = (I_5898 o 8).toInt := by rw [kp_5942 8 rfl]
                        have t_5949 : (I_5938 o 9).toInt = (I_5898 o 9).toInt := by rw [kp_5942 9 rfl]
                        have t_5950 : (I_5938 o 44).toInt = (I_5898 o 44).toInt := by rw [kp_5942 44 rfl]
                        have g_5951 : (0 : Int) ≤ (I_5938 o 45).toInt ∧ (I_5938 o 45).toInt ≤ 700 := hR_5940.at0 ra 45 (by decide)
                        have t_5952 : (I_5938 o 47).toInt = (I_5898 o 47).toInt := by rw [kp_5942 47 rfl]
                        have t_5953 : (I_5938 o 48).toInt = (I_5898 o 48).toInt := by rw [kp_5942 48 rfl]
                        have t_5954 : (I_5938 o 46).toInt = (I_5898 o 46).toInt := by rw [kp_5942 46 rfl]
                        have k_5955 : MPo I_5938 o := k_5915.fr (kp_5942 8 rfl) (kp_5942 9 rfl)
                        have k_5956 : MTk I_5938 o := k_5916.fr (kp_5942 6 rfl) (kp_5942 7 rfl) (kp_5942 8 rfl)
                        have tk := k_5956.2 (by omega)
                        have k_5957 : EX 0 0 1 f0 0 I_5938 o := by exact EX.step1 k_5913 (by first | exact u_5398 (by omega) | (unfold isT; decide)) (by omega) (fr_5941 _ (by first | omega | (dsimp only; omega))) (fr_5941 _ (by first | omega | (dsimp only; omega))) u_5935 (fr_5941 _ (by first | omega | (dsimp only; omega))) (fr_5941 _ (by first | omega | (dsimp only; omega))) (kp_5942 3 rfl) (kp_5942 6 rfl) (kp_5942 44 rfl) u_5936 (kp_5942 47 rfl) (kp_5942 48 rfl)
                        have k_5958 : MTd I_5938 o := by exact MTd.step k_5914 (fr_5941 _ (by first | omega | (dsimp only; omega))) (fr_5941 _ (by first | omega | (dsimp only; omega))) u_5935 (by omega)
                        refine y_Model_nextg hok hw ra hz16 hz17 hz18 hz19 (by first | omega | (intro h; omega) | exact Or.inl rfl | exact Or.inr rfl) hR_5940 (fun I_5969 L_5970 hR_5971 fr_5972 kp_5973 u_5960 u_5961 u_5962 u_5963 u_5964 u_5965 u_5966 u_5967 gn_5968 => ⟨I_5969, L_5970, rfl, rfl, ?_⟩)
                        replace hg := gt_b3 gn_5968 hg
                        clear gn_5968
                        have hf_5974 : Fm (fun c => c = o ∨ (o + 30 ≤ c ∧ c < o + 34)) I0 I_5969 := hf_5943.call fr_5972 (fun c hc => by first | exact hc | (dsimp only at hc ⊢; omega) | omega)
                        have t_5975 : (I_5969 o 3).toInt = (I_5938 o 3).toInt := by rw [kp_5973 3 rfl]
                        have t_5976 : (I_5969 o 4).toInt = (I_5938 o 4).toInt := by rw [kp_5973 4 rfl]
                        have g_5977 : (0 : Int) ≤ (I_5969 o 6).toInt ∧ (I_5969 o 6).toInt ≤ 1600 := hR_5971.at0 ra 6 (by decide)
                        have g_5978 : (0 : Int) ≤ (I_5969 o 7).toInt ∧ (I_5969 o 7).toInt ≤ 1601 := hR_5971.at0 ra 7 (by decide)
                        have g_5979 : (0 : Int) ≤ (I_5969 o 8).toInt ∧ (I_5969 o 8).toInt ≤ 6 := hR_5971.at0 ra 8 (by decide)
                        have t_5980 : (I_5969 o 44).toInt = (I_5938 o 44).toInt := by rw [kp_5973 44 rfl]
                        have t_5981 : (I_5969 o 45).toInt = (I_5938 o 45).toInt := by rw [kp_5973 45 rfl]
                        have t_5982 : (I_5969 o 47).toInt = (I_5938 o 47).toInt := by rw [kp_5973 47 rfl]
                        have t_5983 : (I_5969 o 48).toInt = (I_5938 o 48).toInt := by rw [kp_5973 48 rfl]
                        have t_5984 : (I_5969 o 46).toInt = (I_5938 o 46).toInt := by rw [kp_5973 46 rfl]
                        have k_5985 : MTd I_5969 o := k_5958.fr (fr_5972 _ (by first | omega | (dsimp only; omega))) (fr_5972 _ (by first | omega | (dsimp only; omega))) (fr_5972 _ (by first | omega | (dsimp only; omega)))
                        have ms := u_5963 (by omega)
                        have k_5986 : EX 0 0 0 f0 0 I_5969 o := by exact EX.nx k_5957 (fr_5972 _ (by first | omega | (dsimp only; omega))) (fr_5972 _ (by first | omega | (dsimp only; omega))) (fr_5972 _ (by first | omega | (dsimp only; omega))) (fr_5972 _ (by first | omega | (dsimp only; omega))) (fr_5972 _ (by first | omega | (dsimp only; omega))) (kp_5973 3 rfl) (kp_5973 44 rfl) (kp_5973 45 rfl) (kp_5973 47 rfl) (kp_5973 48 rfl) (by omega) (by omega)
                        exact (hp _ _ _ hR_5971 hf_5974 (Or.inl rfl) (by first | omega | (intro h; omega) | exact Or.inl rfl | exact Or.inr rfl) (by first | omega | (intro h; omega) | exact Or.inl rfl | exact Or.inr rfl) (by first | omega | (intro h; omega) | exact Or.inl rfl | exact Or.inr rfl) (by first | omega | (intro h; omega) | exact Or.inl rfl | exact Or.inr rfl) (by first | omega | (intro h; omega) | exact Or.inl rfl | exact Or.inr rfl) (by clear hg; first | (intro h; exfalso; omega) | exact fun _ => (False.elim (by omega)) | exact fun _ => k_5986) k_5985 u_5966 u_5967 hg.symm)
                      · have d_5987 := iEq c_5930
                        replace hg := gt_pos (by first | exact d_5987 | omega) hg
                        replace hg := gt_let (y := (I_5898 o 9).toInt) rfl hg
                        refine y_Model_stepg hok hw ra hz55 (by first | omega | (intro h; omega) | exact Or.inl rfl | exact Or.inr rfl) (by first | omega | (intro h; omega) | exact Or.inl rfl | exact Or.inr rfl) hR_5900 (fun I_5992 L_5993 hR_5994 fr_5995 kp_5996 u_5989 u_5990 gn_5991 => ⟨I_5992, L_5993, rfl, rfl, ?_⟩)
                        replace hg := gt_b3 gn_5991 hg
                        clear gn_5991
                        have hf_5997 : Fm (fun c => c = o ∨ (o + 30 ≤ c ∧ c < o + 34)) I0 I_5992 := hf_5901.call fr_5995 (fun c hc => by first | exact hc | (dsimp only at hc ⊢; omega) | omega)
                        have t_5998 : (I_5992 o 3).toInt = (I_5898 o 3).toInt := by rw [kp_5996 3 rfl]
                        have t_5999 : (I_5992 o 4).toInt = (I_5898 o 4).toInt := by rw [kp_5996 4 rfl]
                        have t_6000 : (I_5992 o 6).toInt = (I_5898 o 6).toInt := by rw [kp_5996 6 rfl]
                        have t_6001 : (I_5992 o 7).toInt = (I_5898 o 7).toInt := by rw [kp_5996 7 rfl]
                        have t_6002 : (I_5992 o 8).toInt = (I_5898 o 8).toInt := by rw [kp_5996 8 rfl]
                        have t_6003 : (I_5992 o 9).toInt = (I_5898 o 9).toInt := by rw [kp_5996 9 rfl]
                        have t_6004 : (I_5992 o 44).toInt = (I_5898 o 44).toInt := by rw [kp_5996 44 rfl]
                        have g_6005 : (0 : Int) ≤ (I_5992 o 45).toInt ∧ (I_5992 o 45).toInt ≤ 700 := hR_5994.at0 ra 45 (by decide)
                        have t_6006 : (I_5992 o 47).toInt = (I_5898 o 47).toInt := by rw [kp_5996 47 rfl]
                        have t_6007 : (I_5992 o 48).toInt = (I_5898 o 48).toInt := by rw [kp_5996 48 rfl]
                        have t_6008 : (I_5992 o 46).toInt = (I_5898 o 46).toInt := by rw [kp_5996 46 rfl]
                        have k_6009 : MPo I_5992 o := k_5915.fr (kp_5996 8 rfl) (kp_5996 9 rfl)
                        have k_6010 : MTk I_5992 o := k_5916.fr (kp_5996 6 rfl) (kp_5996 7 rfl) (kp_5996 8 rfl)
                        have tk := k_6010.2 (by omega)
                        have k_6011 : EX 0 0 1 f0 0 I_5992 o := by exact EX.step1 k_5913 (by first | exact u_5398 (by omega) | (unfold isT; decide)) (by omega) (fr_5995 _ (by first | omega | (dsimp only; omega))) (fr_5995 _ (by first | omega | (dsimp only; omega))) u_5989 (fr_5995 _ (by first | omega | (dsimp only; omega))) (fr_5995 _ (by first | omega | (dsimp only; omega))) (kp_5996 3 rfl) (kp_5996 6 rfl) (kp_5996 44 rfl) u_5990 (kp_5996 47 rfl) (kp_5996 48 rfl)
                        have k_6012 : MTd I_5992 o := by exact MTd.step k_5914 (fr_5995 _ (by first | omega | (dsimp only; omega))) (fr_5995 _ (by first | omega | (dsimp only; omega))) u_5989 (by omega)
                        refine y_Model_nextg hok hw ra hz16 hz17 hz18 hz19 (by first | omega | (intro h; omega) | exact Or.inl rfl | exact Or.inr rfl) hR_5994 (fun I_6023 L_6024 hR_6025 fr_6026 kp_6027 u_6014 u_6015 u_6016 u_6017 u_6018 u_6019 u_6020 u_6021 gn_6022 => ⟨I_6023, L_6024, rfl, rfl, ?_⟩)
                        replace hg := gt_b3 gn_6022 hg
                        clear gn_6022
                        have hf_6028 : Fm (fun c => c = o ∨ (o + 30 ≤ c ∧ c < o + 34)) I0 I_6023 := hf_5997.call fr_6026 (fun c hc => by first | exact hc | (dsimp only at hc ⊢; omega) | omega)
                        have t_6029 : (I_6023 o 3).toInt = (I_5992 o 3).toInt := by rw [kp_6027 3 rfl]
                        have t_6030 : (I_6023 o 4).toInt = (I_5992 o 4).toInt := by rw [kp_6027 4 rfl]
                        have g_6031 : (0 : Int) ≤ (I_6023 o 6).toInt ∧ (I_6023 o 6).toInt ≤ 1600 := hR_6025.at0 ra 6 (by decide)
                        have g_6032 : (0 : Int) ≤ (I_6023 o 7).toInt ∧ (I_6023 o 7).toInt ≤ 1601 := hR_6025.at0 ra 7 (by decide)
                        have g_6033 : (0 : Int) ≤ (I_6023 o 8).toInt ∧ (I_6023 o 8).toInt ≤ 6 := hR_6025.at0 ra 8 (by decide)
                        have t_6034 : (I_6023 o 44).toInt = (I_5992 o 44).toInt := by rw [kp_6027 44 rfl]
                        have t_6035 : (I_6023 o 45).toInt = (I_5992 o 45).toInt := by rw [kp_6027 45 rfl]
                        have t_6036 : (I_6023 o 47).toInt = (I_5992 o 47).toInt := by rw [kp_6027 47 rfl]
                        have t_6037 : (I_6023 o 48).toInt = (I_5992 o 48).toInt := by rw [kp_6027 48 rfl]
                        have t_6038 : (I_6023 o 46).toInt = (I_5992 o 46).toInt := by rw [kp_6027 46 rfl]
                        have k_6039 : MTd I_6023 o := k_6012.fr (fr_6026 _ (by first | omega | (dsimp only; omega))) (fr_6026 _ (by first | omega | (dsimp only; omega))) (fr_6026 _ (by first | omega | (dsimp only; omega)))
                        have ms := u_6017 (by omega)
                        have k_6040 : EX 0 0 0 f0 0 I_6023 o := by exact EX.nx k_6011 (fr_6026 _ (by first | omega | (dsimp only; omega))) (fr_6026 _ (by first | omega | (dsimp only; omega))) (fr_6026 _ (by first | omega | (dsimp only; omega))) (fr_6026 _ (by first | omega | (dsimp only; omega))) (fr_6026 _ (by first | omega | (dsimp only; omega))) (kp_6027 3 rfl) (kp_6027 44 rfl) (kp_6027 45 rfl) (kp_6027 47 rfl) (kp_6027 48 rfl) (by omega) (by omega)
                        exact (hp _ _ _ hR_6025 hf_6028 (Or.inl rfl) (by first | omega | (intro h; omega) | exact Or.inl rfl | exact Or.inr rfl) (by first | omega | (intro h; omega) | exact Or.inl rfl | exact Or.inr rfl) (by first | omega | (intro h; omega) | exact Or.inl rfl | exact Or.inr rfl) (by first | omega | (intro h; omega) | exact Or.inl rfl | exact Or.inr rfl) (by first | omega | (intro h; omega) | exact Or.inl rfl | exact Or.inr rfl) (by clear hg; first | (intro h; exfalso; omega) | exact fun _ => (False.elim (by omega)) | exact fun _ => k_6040) k_6039 u_6020 u_6021 hg.symm)
                    · have d_6041 := iEq c_5926
                      replace hg := gt_pos (by first | exact d_6041 | omega) hg
                      unfold fModel_unit_228
                      replace hg := (eModel_unit_228).symm.trans hg
                      have l_6042 : (78 : Int32).toInt = 78 := rfl
                      refine ⟨fun c_6043 => ?_, fun c_6043 => ?_⟩
                      · have d_6044 := iNe c_6043
                        have i_6045 := u_5398 (by omega)
                        have i_6046 := u_5399 (by omega)
                        exfalso; omega
                      · have d_6047 := iEq c_6043
                        replace hg := gt_pos (by first | exact d_6047 | omega) hg
                        replace hg := gt_let (y := (I_5898 o 9).toInt) rfl hg
                        refine y_Model_stepg hok hw ra hz55 (by first | omega | (intro h; omega) | exact Or.inl rfl | exact Or.inr rfl) (by first | omega | (intro h; omega) | exact Or.inl rfl | exact Or.inr rfl) hR_5900 (fun I_6052 L_6053 hR_6054 fr_6055 kp_6056 u_6049 u_6050 gn_6051 => ⟨I_6052, L_6053, rfl, rfl, ?_⟩)
                        replace hg := gt_b3 gn_6051 hg
                        clear gn_6051
                        have hf_6057 : Fm (fun c => c = o ∨ (o + 30 ≤ c ∧ c < o + 34)) I0 I_6052 := hf_5901.call fr_6055 (fun c hc => by first | exact hc | (dsimp only at hc ⊢; omega) | omega)
                        have t_6058 : (I_6052 o 3).toInt = (I_5898 o 3).toInt := by rw [kp_6056 3 rfl]
                        have t_6059 : (I_6052 o 4).toInt = (I_5898 o 4).toInt := by rw [kp_6056 4 rfl]
                        have t_6060 : (I_6052 o 6).toInt = (I_5898 o 6).toInt := by rw [kp_6056 6 rfl]
                        have t_6061 : (I_6052 o 7).toInt = (I_5898 o 7).toInt := by rw [kp_6056 7 rfl]
                        have t_6062 : (I_6052 o 8).toInt = (I_5898 o 8).toInt := by rw [kp_6056 8 rfl]
                        have t_6063 : (I_6052 o 9).toInt = (I_5898 o 9).toInt := by rw [kp_6056 9 rfl]
                        have t_6064 : (I_6052 o 44).toInt = (I_5898 o 44).toInt := by rw [kp_6056 44 rfl]
                        have g_6065 : (0 : Int) ≤ (I_6052 o 45).toInt ∧ (I_6052 o 45).toInt ≤ 700 := hR_6054.at0 ra 45 (by decide)
                        have t_6066 : (I_6052 o 47).toInt = (I_5898 o 47).toInt := by rw [kp_6056 47 rfl]
                        have t_6067 : (I_6052 o 48).toInt = (I_5898 o 48).toInt := by rw [kp_6056 48 rfl]
                        have t_6068 : (I_6052 o 46).toInt = (I_5898 o 46).toInt := by rw [kp_6056 46 rfl]
                        have k_6069 : MPo I_6052 o := k_5915.fr (kp_6056 8 rfl) (kp_6056 9 rfl)
                        have k_6070 : MTk I_6052 o := k_5916.fr (kp_6056 6 rfl) (kp_6056 7 rfl) (kp_6056 8 rfl)
                        have tk := k_6070.2 (by omega)
                        have k_6071 : EX 0 0 1 f0 0 I_6052 o := by exact EX.step1 k_5913 (by first | exact u_5398 (by omega) | (unfold isT; decide)) (by omega) (fr_6055 _ (by first | omega | (dsimp only; omega))) (fr_6055 _ (by first | omega | (dsimp only; omega))) u_6049 (fr_6055 _ (by first | omega | (dsimp only; omega))) (fr_6055 _ (by first | omega | (dsimp only; omega))) (kp_6056 3 rfl) (kp_6056 6 rfl) (kp_6056 44 rfl) u_6050 (kp_6056 47 rfl) (kp_6056 48 rfl)
                        have k_6072 : MTd I_6052 o := by exact MTd.step k_5914 (fr_6055 _ (by first | omega | (dsimp only; omega))) (fr_6055 _ (by first | omega | (dsimp only; omega))) u_6049 (by omega)
                        refine y_Model_nextg hok hw ra hz16 hz17 hz18 hz19 (by first | omega | (intro h; omega) | exact Or.inl rfl | exact Or.inr rfl) hR_6054 (fun I_6083 L_6084 hR_6085 fr_6086 kp_6087 u_6074 u_6075 u_6076 u_6077 u_6078 u_6079 u_6080 u_6081 gn_6082 => ⟨I_6083, L_6084, rfl, rfl, ?_⟩)
                        replace hg := gt_b3 gn_6082 hg
                        clear gn_6082
                        have hf_6088 : Fm (fun c => c = o ∨ (o + 30 ≤ c ∧ c < o + 34)) I0 I_6083 := hf_6057.call fr_6086 (fun c hc => by first | exact hc | (dsimp only at hc ⊢; omega) | omega)
                        have t_6089 : (I_6083 o 3).toInt = (I_6052 o 3).toInt := by rw [kp_6087 3 rfl]
                        have t_6090 : (I_6083 o 4).toInt = (I_6052 o 4).toInt := by rw [kp_6087 4 rfl]
                        have g_6091 : (0 : Int) ≤ (I_6083 o 6).toInt ∧ (I_6083 o 6).toInt ≤ 1600 := hR_6085.at0 ra 6 (by decide)
                        have g_6092 : (0 : Int) ≤ (I_6083 o 7).toInt ∧ (I_6083 o 7).toInt ≤ 1601 := hR_6085.at0 ra 7 (by decide)
                        have g_6093 : (0 : Int) ≤ (I_6083 o 8).toInt ∧ (I_6083 o 8).toInt ≤ 6 := hR_6085.at0 ra 8 (by decide)
                        have t_6094 : (I_6083 o 44).toInt = (I_6052 o 44).toInt := by rw [kp_6087 44 rfl]
                        have t_6095 : (I_6083 o 45).toInt = (I_6052 o 45).toInt := by rw [kp_6087 45 rfl]
                        have t_6096 : (I_6083 o 47).toInt = (I_6052 o 47).toInt := by rw [kp_6087 47 rfl]
                        have t_6097 : (I_6083 o 48).toInt = (I_6052 o 48).toInt := by rw [kp_6087 48 rfl]
                        have t_6098 : (I_6083 o 46).toInt = (I_6052 o 46).toInt := by rw [kp_6087 46 rfl]
                        have k_6099 : MTd I_6083 o := k_6072.fr (fr_6086 _ (by first | omega | (dsimp only; omega))) (fr_6086 _ (by first | omega | (dsimp only; omega))) (fr_6086 _ (by first | omega | (dsimp only; omega)))
                        have ms := u_6077 (by omega)
                        have k_6100 : EX 0 0 0 f0 0 I_6083 o := by exact EX.nx k_6071 (fr_6086 _ (by first | omega | (dsimp only; omega))) (fr_6086 _ (by first | omega | (dsimp only; omega))) (fr_6086 _ (by first | omega | (dsimp only; omega))) (fr_6086 _ (by first | omega | (dsimp only; omega))) (fr_6086 _ (by first | omega | (dsimp only; omega))) (kp_6087 3 rfl) (kp_6087 44 rfl) (kp_6087 45 rfl) (kp_6087 47 rfl) (kp_6087 48 rfl) (by omega) (by omega)
                        exact (hp _ _ _ hR_6085 hf_6088 (Or.inl rfl) (by first | omega | (intro h; omega) | exact Or.inl rfl | exact Or.inr rfl) (by first | omega | (intro h; omega) | exact Or.inl rfl | exact Or.inr rfl) (by first | omega | (intro h; omega) | exact Or.inl rfl | exact Or.inr rfl) (by first | omega | (intro h; omega) | exact Or.inl rfl | exact Or.inr rfl) (by first | omega | (intro h; omega) | exact Or.inl rfl | exact Or.inr rfl) (by clear hg; first | (intro h; exfalso; omega) | exact fun _ => (False.elim (by omega)) | exact fun _ => k_6100) k_6099 u_6080 u_6081 hg.symm)
                  · have d_6101 := iNe c_5924
                    have i_6102 := u_5920 (by omega)
                    have i_6103 := u_5921 (by omega)
                    replace hg := gt_neg (by first | exact d_6101 | omega) hg
                    have g_6104 : (0 : Int) ≤ (I_5898 o 47).toInt ∧ (I_5898 o 47).toInt ≤ 7 := hR_5900.at0 ra 47 (by decide)
                    replace hg := gt_let (y := (I_5898 o 47).toInt) rfl hg
                    refine ⟨fun c_6105 => ?_, fun c_6105 => ?_⟩
                    · have d_6106 := iNe c_6105
                      replace hg := gt_neg (by first | exact d_6106 | omega) hg
                      refine y_Model_isGoodg hok hw ra hR_5900 (fun r_6107 u_6108 u_6109 u_6110 gn_6111 => ⟨r_6107, I_5898, L_5867, rfl, rfl, ?_⟩)
                      replace hg := gt_let gn_6111 hg
                      clear gn_6111
                      have b_6112 : 0 ≤ r_6107.toInt ∧ r_6107.toInt ≤ 1 := u_6108.rg
                      refine ⟨fun c_6113 => ?_, fun c_6113 => ?_⟩
                      · have d_6114 := iNe c_6113
                        have i_6115 := u_6109 (by omega)
                        replace hg := gt_neg (by first | exact d_6114 | omega) hg
                        refine y_Model_pileg hok hw ra hz58 (by first | omega | (intro h; omega) | exact Or.inl rfl | exact Or.inr rfl) (by first | omega | (intro h; omega) | exact Or.inl rfl | exact Or.inr rfl) hR_5900 (fun I_6121 L_6122 hR_6123 fr_6124 kp_6125 u_6117 u_6118 u_6119 gn_6120 => ⟨I_6121, L_6122, rfl, rfl, ?_⟩)
                        replace hg := gt_b3 gn_6120 hg
                        clear gn_6120
                        have hf_6126 : Fm (fun c => c = o ∨ (o + 30 ≤ c ∧ c < o + 34)) I0 I_6121 := hf_5901.call fr_6124 (fun c hc => by first | exact hc | (dsimp only at hc ⊢; omega) | omega)
                        have t_6127 : (I_6121 o 3).toInt = (I_5898 o 3).toInt := by rw [kp_6125 3 rfl]
                        have t_6128 : (I_6121 o 4).toInt = (I_5898 o 4).toInt := by rw [kp_6125 4 rfl]
                        have t_6129 : (I_6121 o 6).toInt = (I_5898 o 6).toInt := by rw [kp_6125 6 rfl]
                        have t_6130 : (I_6121 o 7).toInt = (I_5898 o 7).toInt := by rw [kp_6125 7 rfl]
                        have t_6131 : (I_6121 o 8).toInt = (I_5898 o 8).toInt := by rw [kp_6125 8 rfl]
                        have t_6132 : (I_6121 o 9).toInt = (I_5898 o 9).toInt := by rw [kp_6125 9 rfl]
                        have t_6133 : (I_6121 o 44).toInt = (I_5898 o 44).toInt := by rw [kp_6125 44 rfl]
                        have t_6134 : (I_6121 o 45).toInt = (I_5898 o 45).toInt := by rw [kp_6125 45 rfl]
                        have t_6135 : (I_6121 o 47).toInt = (I_5898 o 47).toInt := by rw [kp_6125 47 rfl]
                        have g_6136 : (0 : Int) ≤ (I_6121 o 48).toInt ∧ (I_6121 o 48).toInt ≤ 80 := hR_6123.at0 ra 48 (by decide)
                        have t_6137 : (I_6121 o 46).toInt = (I_5898 o 46).toInt := by rw [kp_6125 46 rfl]
                        have k_6138 : MTd I_6121 o := k_5914.fr (fr_6124 _ (by first | omega | (dsimp only; omega))) (fr_6124 _ (by first | omega | (dsimp only; omega))) (fr_6124 _ (by first | omega | (dsimp only; omega)))
                        have k_6139 : MPo I_6121 o := k_5915.fr (kp_6125 8 rfl) (kp_6125 9 rfl)
                        have k_6140 : MTk I_6121 o := k_5916.fr (kp_6125 6 rfl) (kp_6125 7 rfl) (kp_6125 8 rfl)
                        have k_6141 : EX 0 1 1 f0 1 I_6121 o := by have z := EX.push k_5913 (v := 7) (s := 0) (dB := 1) (dO := 0) (wt' := 1) (by decide) (by decide) (by decide) (by omega) ⟨by decide, by decide⟩ ⟨fun h => absurd h (by decide), fun h => absurd h (by decide)⟩ (Or.inl rfl) (fr_6124 _ (by first | omega | (dsimp only; omega))) (fr_6124 _ (by first | omega | (dsimp only; omega))) (fr_6124 _ (by first | omega | (dsimp only; omega))) u_6117 u_6118 (kp_6125 3 rfl) (kp_6125 6 rfl) (kp_6125 44 rfl) (kp_6125 45 rfl) (kp_6125 47 rfl) u_6119; exact EX.chg (b' := 1) z rfl rfl rfl rfl rfl rfl rfl rfl rfl rfl (by omega) z.pl
                        have g_6142 : (0 : Int) ≤ (I_6121 o 47).toInt ∧ (I_6121 o 47).toInt ≤ 7 := hR_6123.at0 ra 47 (by decide)
                        replace hg := gt_let (y := (I_6121 o 47).toInt) rfl hg
                        have a_6143 : ((I_6121 o 47) + 1).toInt = (I_6121 o 47).toInt + (1 : Int32).toInt := tAdd (by omega) (by omega)
                        replace hg := gt_let (y := (((I_6121 o 47) + 1) : Int32).toInt) (by omega) hg
                        refine fun I_6144 e_6145 => ?_
                        replace hg := gt_let (y := tI I_6144) (tI_q e_6145) hg
                        have hR_6146 : RI R I_6144 := hR_6123.up0 (k := 47) ra (by decide) (Or.inr hz57) e_6145 (show (0 : Int) ≤ ((I_6121 o 47) + 1).toInt by omega) (show ((I_6121 o 47) + 1).toInt ≤ (7 : Int) by omega)
                        have hf_6147 : Fm (fun c => c = o ∨ (o + 30 ≤ c ∧ c < o + 34)) I0 I_6144 := hf_6126.set (by first | rfl | omega | (dsimp only; omega)) e_6145
                        have t_6148 : (I_6144 o 3).toInt = (I_6121 o 3).toInt := by rw [← e_6145, q_u_k (by decide)]
                        have t_6149 : (I_6144 o 4).toInt = (I_6121 o 4).toInt := by rw [← e_6145, q_u_k (by decide)]
                        have t_6150 : (I_6144 o 6).toInt = (I_6121 o 6).toInt := by rw [← e_6145, q_u_k (by decide)]
                        have t_6151 : (I_6144 o 7).toInt = (I_6121 o 7).toInt := by rw [← e_6145, q_u_k (by decide)]
                        have t_6152 : (I_6144 o 8).toInt = (I_6121 o 8).toInt := by rw [← e_6145, q_u_k (by decide)]
                        have t_6153 : (I_6144 o 9).toInt = (I_6121 o 9).toInt := by rw [← e_6145, q_u_k (by decide)]
                        have t_6154 : (I_6144 o 44).toInt = (I_6121 o 44).toInt := by rw [← e_6145, q_u_k (by decide)]
                        have t_6155 : (I_6144 o 45).toInt = (I_6121 o 45).toInt := by rw [← e_6145, q_u_k (by decide)]
                        have t_6156 : (I_6144 o 47).toInt = ((I_6121 o 47) + 1).toInt := by rw [← e_6145, q_u_at]
                        have t_6157 : (I_6144 o 48).toInt = (I_6121 o 48).toInt := by rw [← e_6145, q_u_k (by decide)]
                        have t_6158 : (I_6144 o 46).toInt = (I_6121 o 46).toInt := by rw [← e_6145, q_u_k (by decide)]
                        have k_6159 : MTd I_6144 o := k_6138.fr (by rw [← e_6145]; exact q_u_ne (by omega)) (by rw [← e_6145]; exact q_u_ne (by omega)) (by rw [← e_6145]; exact q_u_ne (by omega))
                        have k_6160 : MPo I_6144 o := k_6139.fr (by rw [← e_6145, q_u_k (by decide)]) (by rw [← e_6145, q_u_k (by decide)])
                        have k_6161 : MTk I_6144 o := k_6140.fr (by rw [← e_6145, q_u_k (by decide)]) (by rw [← e_6145, q_u_k (by decide)]) (by rw [← e_6145, q_u_k (by decide)])
                        have tk := k_6161.2 (by omega)
                        have k_6163 : EX 0 0 1 f0 1 I_6144 o := by exact EX.put47 k_6141 e_6145 (by omega)
                        refine y_Model_nextg hok hw ra hz16 hz17 hz18 hz19 (by first | omega | (intro h; omega) | exact Or.inl rfl | exact Or.inr rfl) hR_6146 (fun I_6174 L_6175 hR_6176 fr_6177 kp_6178 u_6165 u_6166 u_6167 u_6168 u_6169 u_6170 u_6171 u_6172 gn_6173 => ⟨I_6174, L_6175, rfl, rfl, ?_⟩)
                        replace hg := gt_b3 gn_6173 hg
                        clear gn_6173
                        have hf_6179 : Fm (fun c => c = o ∨ (o + 30 ≤ c ∧ c < o + 34)) I0 I_6174 := hf_6147.call fr_6177 (fun c hc => by first | exact hc | (dsimp only at hc ⊢; omega) | omega)
                        have t_6180 : (I_6174 o 3).toInt = (I_6144 o 3).toInt := by rw [kp_6178 3 rfl]
                        have t_6181 : (I_6174 o 4).toInt = (I_6144 o 4).toInt := by rw [kp_6178 4 rfl]
                        have g_6182 : (0 : Int) ≤ (I_6174 o 6).toInt ∧ (I_6174 o 6).toInt ≤ 1600 := hR_6176.at0 ra 6 (by decide)
                        have g_6183 : (0 : Int) ≤ (I_6174 o 7).toInt ∧ (I_6174 o 7).toInt ≤ 1601 := hR_6176.at0 ra 7 (by decide)
                        have g_6184 : (0 : Int) ≤ (I_6174 o 8).toInt ∧ (I_6174 o 8).toInt ≤ 6 := hR_6176.at0 ra 8 (by decide)
                        have t_6185 : (I_6174 o 44).toInt = (I_6144 o 44).toInt := by rw [kp_6178 44 rfl]
                        have t_6186 : (I_6174 o 45).toInt = (I_6144 o 45).toInt := by rw [kp_6178 45 rfl]
                        have t_6187 : (I_6174 o 47).toInt = (I_6144 o 47).toInt := by rw [kp_6178 47 rfl]
                        have t_6188 : (I_6174 o 48).toInt = (I_6144 o 48).toInt := by rw [kp_6178 48 rfl]
                        have t_6189 : (I_6174 o 46).toInt = (I_6144 o 46).toInt := by rw [kp_6178 46 rfl]
                        have k_6190 : MTd I_6174 o := k_6159.fr (fr_6177 _ (by first | omega | (dsimp only; omega))) (fr_6177 _ (by first | omega | (dsimp only; omega))) (fr_6177 _ (by first | omega | (dsimp only; omega)))
                        have ms := u_6168 (by omega)
                        have k_6191 : EX 0 0 0 f0 1 I_6174 o := by exact EX.nx k_6163 (fr_6177 _ (by first | omega | (dsimp only; omega))) (fr_6177 _ (by first | omega | (dsimp only; omega))) (fr_6177 _ (by first | omega | (dsimp only; omega))) (fr_6177 _ (by first | omega | (dsimp only; omega))) (fr_6177 _ (by first | omega | (dsimp only; omega))) (kp_6178 3 rfl) (kp_6178 44 rfl) (kp_6178 45 rfl) (kp_6178 47 rfl) (kp_6178 48 rfl) (by omega) (by omega)
                        exact (hp _ _ _ hR_6176 hf_6179 (Or.inr rfl) (by first | omega | (intro h; omega) | exact Or.inl rfl | exact Or.inr rfl) (by first | omega | (intro h; omega) | exact Or.inl rfl | exact Or.inr rfl) (by first | omega | (intro h; omega) | exact Or.inl rfl | exact Or.inr rfl) (by first | omega | (intro h; omega) | exact Or.inl rfl | exact Or.inr rfl) (by first | omega | (intro h; omega) | exact Or.inl rfl | exact Or.inr rfl) (by clear hg; first | (intro h; exfalso; omega) | exact fun _ => k_6191 | exact fun _ => (False.elim (by omega))) k_6190 u_6171 u_6172 hg.symm)
                      · have d_6192 := iEq c_6113
                        have i_6193 := u_6110 (by omega)
                        replace hg := gt_pos (by first | exact d_6192 | omega) hg
                        exact (hp _ _ _ hR_5900 hf_5901 (Or.inr rfl) (by first | omega | (intro h; omega) | exact Or.inl rfl | exact Or.inr rfl) (by first | omega | (intro h; omega) | exact Or.inl rfl | exact Or.inr rfl) (by first | omega | (intro h; omega) | exact Or.inl rfl | exact Or.inr rfl) (by first | omega | (intro h; omega) | exact Or.inl rfl | exact Or.inr rfl) (by first | omega | (intro h; omega) | exact Or.inl rfl | exact Or.inr rfl) (by clear hg; first | (intro h; exfalso; omega) | exact fun _ => k_5913 | exact fun _ => (False.elim (by omega))) k_5914 k_5915 k_5916 hg.symm)
                    · have d_6194 := iEq c_6105
                      replace hg := gt_pos (by first | exact d_6194 | omega) hg
                      refine y_Model_wrongg hok hw ra hz14 hz15 hR_5900 (fun I_6199 L_6200 hR_6201 fr_6202 kp_6203 u_6196 u_6197 gn_6198 => ⟨I_6199, L_6200, rfl, rfl, ?_⟩)
                      replace hg := gt_b3 gn_6198 hg
                      clear gn_6198
                      have hf_6204 : Fm (fun c => c = o ∨ (o + 30 ≤ c ∧ c < o + 34)) I0 I_6199 := hf_5901.call fr_6202 (fun c hc => by first | exact hc | (dsimp only at hc ⊢; omega) | omega)
                      have t_6205 : (I_6199 o 3).toInt = (I_5898 o 3).toInt := by rw [kp_6203 3 rfl]
                      have g_6206 : (0 : Int) ≤ (I_6199 o 4).toInt ∧ (I_6199 o 4).toInt ≤ 5 := hR_6201.at0 ra 4 (by decide)
                      have t_6207 : (I_6199 o 6).toInt = (I_5898 o 6).toInt := by rw [kp_6203 6 rfl]
                      have t_6208 : (I_6199 o 7).toInt = (I_5898 o 7).toInt := by rw [kp_6203 7 rfl]
                      have t_6209 : (I_6199 o 8).toInt = (I_5898 o 8).toInt := by rw [kp_6203 8 rfl]
                      have t_6210 : (I_6199 o 9).toInt = (I_5898 o 9).toInt := by rw [kp_6203 9 rfl]
                      have t_6211 : (I_6199 o 44).toInt = (I_5898 o 44).toInt := by rw [kp_6203 44 rfl]
                      have t_6212 : (I_6199 o 45).toInt = (I_5898 o 45).toInt := by rw [kp_6203 45 rfl]
                      have t_6213 : (I_6199 o 47).toInt = (I_5898 o 47).toInt := by rw [kp_6203 47 rfl]
                      have t_6214 : (I_6199 o 48).toInt = (I_5898 o 48).toInt := by rw [kp_6203 48 rfl]
                      have t_6215 : (I_6199 o 46).toInt = (I_5898 o 46).toInt := by rw [kp_6203 46 rfl]
                      have k_6216 : EX 0 0 0 f0 1 I_6199 o := k_5913.fr (fr_6202 _ (by first | omega | (dsimp only; omega))) (fr_6202 _ (by first | omega | (dsimp only; omega))) (fr_6202 _ (by first | omega | (dsimp only; omega))) (fr_6202 _ (by first | omega | (dsimp only; omega))) (fr_6202 _ (by first | omega | (dsimp only; omega))) (kp_6203 3 rfl) (kp_6203 6 rfl) (kp_6203 44 rfl) (kp_6203 45 rfl) (kp_6203 47 rfl) (kp_6203 48 rfl)
                      have k_6217 : MTd I_6199 o := k_5914.fr (fr_6202 _ (by first | omega | (dsimp only; omega))) (fr_6202 _ (by first | omega | (dsimp only; omega))) (fr_6202 _ (by first | omega | (dsimp only; omega)))
                      have k_6218 : MPo I_6199 o := k_5915.fr (kp_6203 8 rfl) (kp_6203 9 rfl)
                      have k_6219 : MTk I_6199 o := k_5916.fr (kp_6203 6 rfl) (kp_6203 7 rfl) (kp_6203 8 rfl)
                      refine y_Model_isGoodg hok hw ra hR_6201 (fun r_6220 u_6221 u_6222 u_6223 gn_6224 => ⟨r_6220, I_6199, L_6200, rfl, rfl, ?_⟩)
                      replace hg := gt_let gn_6224 hg
                      clear gn_6224
                      have b_6225 : 0 ≤ r_6220.toInt ∧ r_6220.toInt ≤ 1 := u_6221.rg
                      refine ⟨fun c_6226 => ?_, fun c_6226 => ?_⟩
                      · have d_6227 := iNe c_6226
                        have i_6228 := u_6222 (by omega)
                        replace hg := gt_neg (by first | exact d_6227 | omega) hg
                        refine y_Model_pileg hok hw ra hz58 (by first | omega | (intro h; omega) | exact Or.inl rfl | exact Or.inr rfl) (by first | omega | (intro h; omega) | exact Or.inl rfl | exact Or.inr rfl) hR_6201 (fun I_6234 L_6235 hR_6236 fr_6237 kp_6238 u_6230 u_6231 u_6232 gn_6233 => ⟨I_6234, L_6235, rfl, rfl, ?_⟩)
                        replace hg := gt_b3 gn_6233 hg
                        clear gn_6233
                        have hf_6239 : Fm (fun c => c = o ∨ (o + 30 ≤ c ∧ c < o + 34)) I0 I_6234 := hf_6204.call fr_6237 (fun c hc => by first | exact hc | (dsimp only at hc ⊢; omega) | omega)
                        have t_6240 : (I_6234 o 3).toInt = (I_6199 o 3).toInt := by rw [kp_6238 3 rfl]
                        have t_6241 : (I_6234 o 4).toInt = (I_6199 o 4).toInt := by rw [kp_6238 4 rfl]
                        have t_6242 : (I_6234 o 6).toInt = (I_6199 o 6).toInt := by rw [kp_6238 6 rfl]
                        have t_6243 : (I_6234 o 7).toInt = (I_6199 o 7).toInt := by rw [kp_6238 7 rfl]
                        have t_6244 : (I_6234 o 8).toInt = (I_6199 o 8).toInt := by rw [kp_6238 8 rfl]
                        have t_6245 : (I_6234 o 9).toInt = (I_6199 o 9).toInt := by rw [kp_6238 9 rfl]
                        have t_6246 : (I_6234 o 44).toInt = (I_6199 o 44).toInt := by rw [kp_6238 44 rfl]
                        have t_6247 : (I_6234 o 45).toInt = (I_6199 o 45).toInt := by rw [kp_6238 45 rfl]
                        have t_6248 : (I_6234 o 47).toInt = (I_6199 o 47).toInt := by rw [kp_6238 47 rfl]
                        have g_6249 : (0 : Int) ≤ (I_6234 o 48).toInt ∧ (I_6234 o 48).toInt ≤ 80 := hR_6236.at0 ra 48 (by decide)
                        have t_6250 : (I_6234 o 46).toInt = (I_6199 o 46).toInt := by rw [kp_6238 46 rfl]
                        have k_6251 : MTd I_6234 o := k_6217.fr (fr_6237 _ (by first | omega | (dsimp only; omega))) (fr_6237 _ (by first | omega | (dsimp only; omega))) (fr_6237 _ (by first | omega | (dsimp only; omega)))
                        have k_6252 : MPo I_6234 o := k_6218.fr (kp_6238 8 rfl) (kp_6238 9 rfl)
                        have k_6253 : MTk I_6234 o := k_6219.fr (kp_6238 6 rfl) (kp_6238 7 rfl) (kp_6238 8 rfl)
                        have k_6254 : EX 0 1 1 f0 1 I_6234 o := by have z := EX.push k_6216 (v := 7) (s := 0) (dB := 1) (dO := 0) (wt' := 1) (by decide) (by decide) (by decide) (by omega) ⟨by decide, by decide⟩ ⟨fun h => absurd h (by decide), fun h => absurd h (by decide)⟩ (Or.inl rfl) (fr_6237 _ (by first | omega | (dsimp only; omega))) (fr_6237 _ (by first | omega | (dsimp only; omega))) (fr_6237 _ (by first | omega | (dsimp only; omega))) u_6230 u_6231 (kp_6238 3 rfl) (kp_6238 6 rfl) (kp_6238 44 rfl) (kp_6238 45 rfl) (kp_6238 47 rfl) u_6232; exact EX.chg (b' := 1) z rfl rfl rfl rfl rfl rfl rfl rfl rfl rfl (by omega) z.pl
                        have g_6255 : (0 : Int) ≤ (I_6234 o 47).toInt ∧ (I_6234 o 47).toInt ≤ 7 := hR_6236.at0 ra 47 (by decide)
                        replace hg := gt_let (y := (I_6234 o 47).toInt) rfl hg
                        have a_6256 : ((I_6234 o 47) + 1).toInt = (I_6234 o 47).toInt + (1 : Int32).toInt := tAdd (by omega) (by omega)
                        replace hg := gt_let (y := (((I_6234 o 47) + 1) : Int32).toInt) (by omega) hg
                        refine fun I_6257 e_6258 => ?_
                        replace hg := gt_let (y := tI I_6257) (tI_q e_6258) hg
                        have hR_6259 : RI R I_6257 := hR_6236.up0 (k := 47) ra (by decide) (Or.inr hz57) e_6258 (show (0 : Int) ≤ ((I_6234 o 47) + 1).toInt by omega) (show ((I_6234 o 47) + 1).toInt ≤ (7 : Int) by omega)
                        have hf_6260 : Fm (fun c => c = o ∨ (o + 30 ≤ c ∧ c < o + 34)) I0 I_6257 := hf_6239.set (by first | rfl | omega | (dsimp only; omega)) e_6258
                        have t_6261 : (I_6257 o 3).toInt = (I_6234 o 3).toInt := by rw [← e_6258, q_u_k (by decide)]
                        have t_6262 : (I_6257 o 4).toInt = (I_6234 o 4).toInt := by rw [← e_6258, q_u_k (by decide)]
                        have t_6263 : (I_6257 o 6).toInt = (I_6234 o 6).toInt := by rw [← e_6258, q_u_k (by decide)]
                        have t_6264 : (I_6257 o 7).toInt = (I_6234 o 7).toInt := by rw [← e_6258, q_u_k (by decide)]
                        have t_6265 : (I_6257 o 8).toInt = (I_6234 o 8).toInt := by rw [← e_6258, q_u_k (by decide)]
                        have t_6266 : (I_6257 o 9).toInt = (I_6234 o 9).toInt := by rw [← e_6258, q_u_k (by decide)]
                        have t_6267 : (I_6257 o 44).toInt = (I_6234 o 44).toInt := by rw [← e_6258, q_u_k (by decide)]
                        have t_6268 : (I_6257 o 45).toInt = (I_6234 o 45).toInt := by rw [← e_6258, q_u_k (by decide)]
                        have t_6269 : (I_6257 o 47).toInt = ((I_6234 o 47) + 1).toInt := by rw [← e_6258, q_u_at]
                        have t_6270 : (I_6257 o 48).toInt = (I_6234 o 48).toInt := by rw [← e_6258, q_u_k (by decide)]
                        have t_6271 : (I_6257 o 46).toInt = (I_6234 o 46).toInt := by rw [← e_6258, q_u_k (by decide)]
                        have k_6272 : MTd I_6257 o := k_6251.fr (by rw [← e_6258]; exact q_u_ne (by omega)) (by rw [← e_6258]; exact q_u_ne (by omega)) (by rw [← e_6258]; exact q_u_ne (by omega))
                        have k_6273 : MPo I_6257 o := k_6252.fr (by rw [← e_6258, q_u_k (by decide)]) (by rw [← e_6258, q_u_k (by decide)])
                        have k_6274 : MTk I_6257 o := k_6253.fr (by rw [← e_6258, q_u_k (by decide)]) (by rw [← e_6258, q_u_k (by decide)]) (by rw [← e_6258, q_u_k (by decide)])
                        have tk := k_6274.2 (by omega)
                        have k_6276 : EX 0 0 1 f0 1 I_6257 o := by exact EX.put47 k_6254 e_6258 (by omega)
                        refine y_Model_nextg hok hw ra hz16 hz17 hz18 hz19 (by first | omega | (intro h; omega) | exact Or.inl rfl | exact Or.inr rfl) hR_6259 (fun I_6287 L_6288 hR_6289 fr_6290 kp_6291 u_6278 u_6279 u_6280 u_6281 u_6282 u_6283 u_6284 u_6285 gn_6286 => ⟨I_6287, L_6288, rfl, rfl, ?_⟩)
                        replace hg := gt_b3 gn_6286 hg
                        clear gn_6286
                        have hf_6292 : Fm (fun c => c = o ∨ (o + 30 ≤ c ∧ c < o + 34)) I0 I_6287 := hf_6260.call fr_6290 (fun c hc => by first | exact hc | (dsimp only at hc ⊢; omega) | omega)
                        have t_6293 : (I_6287 o 3).toInt = (I_6257 o 3).toInt := by rw [kp_6291 3 rfl]
                        have t_6294 : (I_6287 o 4).toInt = (I_6257 o 4).toInt := by rw [kp_6291 4 rfl]
                        have g_6295 : (0 : Int) ≤ (I_6287 o 6).toInt ∧ (I_6287 o 6).toInt ≤ 1600 := hR_6289.at0 ra 6 (by decide)
                        have g_6296 : (0 : Int) ≤ (I_6287 o 7).toInt ∧ (I_6287 o 7).toInt ≤ 1601 := hR_6289.at0 ra 7 (by decide)
                        have g_6297 : (0 : Int) ≤ (I_6287 o 8).toInt ∧ (I_6287 o 8).toInt ≤ 6 := hR_6289.at0 ra 8 (by decide)
                        have t_6298 : (I_6287 o 44).toInt = (I_6257 o 44).toInt := by rw [kp_6291 44 rfl]
                        have t_6299 : (I_6287 o 45).toInt = (I_6257 o 45).toInt := by rw [kp_6291 45 rfl]
                        have t_6300 : (I_6287 o 47).toInt = (I_6257 o 47).toInt := by rw [kp_6291 47 rfl]
                        have t_6301 : (I_6287 o 48).toInt = (I_6257 o 48).toInt := by rw [kp_6291 48 rfl]
                        have t_6302 : (I_6287 o 46).toInt = (I_6257 o 46).toInt := by rw [kp_6291 46 rfl]
                        have k_6303 : MTd I_6287 o := k_6272.fr (fr_6290 _ (by first | omega | (dsimp only; omega))) (fr_6290 _ (by first | omega | (dsimp only; omega))) (fr_6290 _ (by first | omega | (dsimp only; omega)))
                        have ms := u_6281 (by omega)
                        have k_6304 : EX 0 0 0 f0 1 I_6287 o := by exact EX.nx k_6276 (fr_6290 _ (by first | omega | (dsimp only; omega))) (fr_6290 _ (by first | omega | (dsimp only; omega))) (fr_6290 _ (by first | omega | (dsimp only; omega))) (fr_6290 _ (by first | omega | (dsimp only; omega))) (fr_6290 _ (by first | omega | (dsimp only; omega))) (kp_6291 3 rfl) (kp_6291 44 rfl) (kp_6291 45 rfl) (kp_6291 47 rfl) (kp_6291 48 rfl) (by omega) (by omega)
                        exact (hp _ _ _ hR_6289 hf_6292 (Or.inr rfl) (by first | omega | (intro h; omega) | exact Or.inl rfl | exact Or.inr rfl) (by first | omega | (intro h; omega) | exact Or.inl rfl | exact Or.inr rfl) (by first | omega | (intro h; omega) | exact Or.inl rfl | exact Or.inr rfl) (by first | omega | (intro h; omega) | exact Or.inl rfl | exact Or.inr rfl) (by first | omega | (intro h; omega) | exact Or.inl rfl | exact Or.inr rfl) (by clear hg; first | (intro h; exfalso; omega) | exact fun _ => k_6304 | exact fun _ => (False.elim (by omega))) k_6303 u_6284 u_6285 hg.symm)
                      · have d_6305 := iEq c_6226
                        have i_6306 := u_6223 (by omega)
                        replace hg := gt_pos (by first | exact d_6305 | omega) hg
                        exact (hp _ _ _ hR_6201 hf_6204 (Or.inr rfl) (by first | omega | (intro h; omega) | exact Or.inl rfl | exact Or.inr rfl) (by first | omega | (intro h; omega) | exact Or.inl rfl | exact Or.inr rfl) (by first | omega | (intro h; omega) | exact Or.inl rfl | exact Or.inr rfl) (by first | omega | (intro h; omega) | exact Or.inl rfl | exact Or.inr rfl) (by first | omega | (intro h; omega) | exact Or.inl rfl | exact Or.inr rfl) (by clear hg; first | (intro h; exfalso; omega) | exact fun _ => k_6216 | exact fun _ => (False.elim (by omega))) k_6217 k_6218 k_6219 hg.symm)
                · have d_6307 := iEq c_5893
                  have i_6308 := u_5890 (by omega)
                  replace hg := gt_pos (by first | exact d_6307 | omega) hg
                  exact (hp _ _ _ hR_5868 hf_5871 (Or.inr rfl) (by first | omega | (intro h; omega) | exact Or.inl rfl | exact Or.inr rfl) (by first | omega | (intro h; omega) | exact Or.inl rfl | exact Or.inr rfl) (by first | omega | (intro h; omega) | exact Or.inl rfl | exact Or.inr rfl) (by first | omega | (intro h; omega) | exact Or.inl rfl | exact Or.inr rfl) (by first | omega | (intro h; omega) | exact Or.inl rfl | exact Or.inr rfl) (by clear hg; first | (intro h; exfalso; omega) | exact fun _ => k_5883 | exact fun _ => (False.elim (by omega))) k_5884 k_5885 k_5886 hg.symm)
            · have d_6309 := iEq c_5431
              replace hg := gt_pos (by first | exact d_6309 | omega) hg
              have g_6310 : (0 : Int) ≤ (I_5402 o 8).toInt ∧ (I_5402 o 8).toInt ≤ 6 := hR_5404.at0 ra 8 (by decide)
              replace hg := gt_let (y := (I_5402 o 8).toInt) rfl hg
              have l_6311 : (4 : Int32).toInt = 4 := rfl
              refine ⟨fun c_6312 => ?_, fun c_6312 => ?_⟩
              · have d_6313 := iEq c_6312
                replace hg := gt_pos (by first | exact d_6313 | omega) hg
                unfold fModel_unit_131
                replace hg := (eModel_unit_131).symm.trans hg
                have g_6314 : (0 : Int) ≤ (I_5402 o 46).toInt ∧ (I_5402 o 46).toInt ≤ 100 := hR_5404.at0 ra 46 (by decide)
                replace hg := gt_let (y := (I_5402 o 46).toInt) rfl hg
                have l_6315 : (100 : Int32).toInt = 100 := rfl
                refine ⟨fun c_6316 => ?_, fun c_6316 => ?_⟩
                · have d_6317 := iNe c_6316
                  replace hg := gt_neg (by first | exact d_6317 | omega) hg
                  refine y_Model_isGoodg hok hw ra hR_5404 (fun r_6318 u_6319 u_6320 u_6321 gn_6322 => ⟨r_6318, I_5402, L_5403, rfl, rfl, ?_⟩)
                  replace hg := gt_let gn_6322 hg
                  clear gn_6322
                  have b_6323 : 0 ≤ r_6318.toInt ∧ r_6318.toInt ≤ 1 := u_6319.rg
                  refine ⟨fun c_6324 => ?_, fun c_6324 => ?_⟩
                  · have d_6325 := iNe c_6324
                    have i_6326 := u_6320 (by omega)
                    replace hg := gt_neg (by first | exact d_6325 | omega) hg
                    have g_6327 : (0 : Int) ≤ (I_5402 o 46).toInt ∧ (I_5402 o 46).toInt ≤ 100 := hR_5404.at0 ra 46 (by decide)
                    replace hg := gt_let (y := (I_5402 o 46).toInt) rfl hg
                    have a_6328 : ((I_5402 o 46) + 1).toInt = (I_5402 o 46).toInt + (1 : Int32).toInt := tAdd (by omega) (by omega)
                    replace hg := gt_let (y := (((I_5402 o 46) + 1) : Int32).toInt) (by omega) hg
                    refine fun I_6329 e_6330 => ?_
                    replace hg := gt_let (y := tI I_6329) (tI_q e_6330) hg
                    have hR_6331 : RI R I_6329 := hR_5404.up0 (k := 46) ra (by decide) (Or.inr hz56) e_6330 (show (0 : Int) ≤ ((I_5402 o 46) + 1).toInt by omega) (show ((I_5402 o 46) + 1).toInt ≤ (100 : Int) by omega)
                    have hf_6332 : Fm (fun c => c = o ∨ (o + 30 ≤ c ∧ c < o + 34)) I0 I_6329 := hf_5407.set (by first | rfl | omega | (dsimp only; omega)) e_6330
                    have t_6333 : (I_6329 o 3).toInt = (I_5402 o 3).toInt := by rw [← e_6330, q_u_k (by decide)]
                    have t_6334 : (I_6329 o 4).toInt = (I_5402 o 4).toInt := by rw [← e_6330, q_u_k (by decide)]
                    have t_6335 : (I_6329 o 6).toInt = (I_5402 o 6).toInt := by rw [← e_6330, q_u_k (by decide)]
                    have t_6336 : (I_6329 o 7).toInt = (I_5402 o 7).toInt := by rw [← e_6330, q_u_k (by decide)]
                    have t_6337 : (I_6329 o 8).toInt = (I_5402 o 8).toInt := by rw [← e_6330, q_u_k (by decide)]
                    have t_6338 : (I_6329 o 9).toInt = (I_5402 o 9).toInt := by rw [← e_6330, q_u_k (by decide)]
                    have t_6339 : (I_6329 o 44).toInt = (I_5402 o 44).toInt := by rw [← e_6330, q_u_k (by decide)]
                    have t_6340 : (I_6329 o 45).toInt = (I_5402 o 45).toInt := by rw [← e_6330, q_u_k (by decide)]
                    have t_6341 : (I_6329 o 47).toInt = (I_5402 o 47).toInt := by rw [← e_6330, q_u_k (by decide)]
                    have t_6342 : (I_6329 o 48).toInt = (I_5402 o 48).toInt := by rw [← e_6330, q_u_k (by decide)]
                    have t_6343 : (I_6329 o 46).toInt = ((I_5402 o 46) + 1).toInt := by rw [← e_6330, q_u_at]
                    have k_6344 : EX 0 0 0 f0 1 I_6329 o := k_5418.fr (by rw [← e_6330]; exact q_u_ne (by omega)) (by rw [← e_6330]; exact q_u_ne (by omega)) (by rw [← e_6330]; exact q_u_ne (by omega)) (by rw [← e_6330]; exact q_u_ne (by omega)) (by rw [← e_6330]; exact q_u_ne (by omega)) (by rw [← e_6330, q_u_k (by decide)]) (by rw [← e_6330, q_u_k (by decide)]) (by rw [← e_6330, q_u_k (by decide)]) (by rw [← e_6330, q_u_k (by decide)]) (by rw [← e_6330, q_u_k (by decide)]) (by rw [← e_6330, q_u_k (by decide)])
                    have k_6345 : MTd I_6329 o := k_5419.fr (by rw [← e_6330]; exact q_u_ne (by omega)) (by rw [← e_6330]; exact q_u_ne (by omega)) (by rw [← e_6330]; exact q_u_ne (by omega))
                    have k_6346 : MPo I_6329 o := k_5420.fr (by rw [← e_6330, q_u_k (by decide)]) (by rw [← e_6330, q_u_k (by decide)])
                    have k_6347 : MTk I_6329 o := k_5421.fr (by rw [← e_6330, q_u_k (by decide)]) (by rw [← e_6330, q_u_k (by decide)]) (by rw [← e_6330, q_u_k (by decide)])
                    have l_6348 : (40 : Int32).toInt = 40 := rfl
                    refine y_Model_isg hok hw ra hR_6331 (fun r_6349 u_6350 u_6351 u_6352 gn_6353 => ⟨r_6349, I_6329, L_5403, rfl, rfl, ?_⟩)
                    replace hg := gt_let gn_6353 hg
                    clear gn_6353
                    have b_6354 : 0 ≤ r_6349.toInt ∧ r_6349.toInt ≤ 1 := u_6350.rg
                    refine ⟨fun c_6355 => ?_, fun c_6355 => ?_⟩
                    · have d_6356 := iEq c_6355
                      replace hg := gt_pos (by first | exact d_6356 | omega) hg
                      have cd := k_6344.cod
                      have tk := k_6347.2 (by omega)
                      refine ⟨fun c_6357 => ?_, fun c_6357 => ?_⟩
                      · have d_6358 := iNe c_6357
                        have i_6359 := u_5398 (by omega)
                        have i_6360 := u_5399 (by omega)
                        exfalso; omega
                      · have d_6361 := iEq c_6357
                        replace hg := gt_pos (by first | exact d_6361 | omega) hg
                        unfold fModel_unit_228
                        replace hg := (eModel_unit_228).symm.trans hg
                        have l_6362 : (78 : Int32).toInt = 78 := rfl
                        refine ⟨fun c_6363 => ?_, fun c_6363 => ?_⟩
                        · have d_6364 := iNe c_6363
                          have i_6365 := u_5398 (by omega)
                          have i_6366 := u_5399 (by omega)
                          exfalso; omega
                        · have d_6367 := iEq c_6363
                          replace hg := gt_pos (by first | exact d_6367 | omega) hg
                          replace hg := gt_let (y := (I_6329 o 9).toInt) rfl hg
                          refine y_Model_stepg hok hw ra hz55 (by first | omega | (intro h; omega) | exact Or.inl rfl | exact Or.inr rfl) (by first | omega | (intro h; omega) | exact Or.inl rfl | exact Or.inr rfl) hR_6331 (fun I_6372 L_6373 hR_6374 fr_6375 kp_6376 u_6369 u_6370 gn_6371 => ⟨I_6372, L_6373, rfl, rfl, ?_⟩)
                          replace hg := gt_b3 gn_6371 hg
                          clear gn_6371
                          have hf_6377 : Fm (fun c => c = o ∨ (o + 30 ≤ c ∧ c < o + 34)) I0 I_6372 := hf_6332.call fr_6375 (fun c hc => by first | exact hc | (dsimp only at hc ⊢; omega) | omega)
                          have t_6378 : (I_6372 o 3).toInt = (I_6329 o 3).toInt := by rw [kp_6376 3 rfl]
                          have t_6379 : (I_6372 o 4).toInt = (I_6329 o 4).toInt := by rw [kp_6376 4 rfl]
                          have t_6380 : (I_6372 o 6).toInt = (I_6329 o 6).toInt := by rw [kp_6376 6 rfl]
                          have t_6381 : (I_6372 o 7).toInt = (I_6329 o 7).toInt := by rw [kp_6376 7 rfl]
                          have t_6382 : (I_6372 o 8).toInt = (I_6329 o 8).toInt := by rw [kp_6376 8 rfl]
                          have t_6383 : (I_6372 o 9).toInt = (I_6329 o 9).toInt := by rw [kp_6376 9 rfl]
                          have t_6384 : (I_6372 o 44).toInt = (I_6329 o 44).toInt := by rw [kp_6376 44 rfl]
                          have g_6385 : (0 : Int) ≤ (I_6372 o 45).toInt ∧ (I_6372 o 45).toInt ≤ 700 := hR_6374.at0 ra 45 (by decide)
                          have t_6386 : (I_6372 o 47).toInt = (I_6329 o 47).toInt := by rw [kp_6376 47 rfl]
                          have t_6387 : (I_6372 o 48).toInt = (I_6329 o 48).toInt := by rw [kp_6376 48 rfl]
                          have t_6388 : (I_6372 o 46).toInt = (I_6329 o 46).toInt := by rw [kp_6376 46 rfl]
                          have k_6389 : MPo I_6372 o := k_6346.fr (kp_6376 8 rfl) (kp_6376 9 rfl)
                          have k_6390 : MTk I_6372 o := k_6347.fr (kp_6376 6 rfl) (kp_6376 7 rfl) (kp_6376 8 rfl)
                          have tk := k_6390.2 (by omega)
                          have k_6391 : EX 0 0 1 f0 0 I_6372 o := by exact EX.step1 k_6344 (by first | exact u_5398 (by omega) | (unfold isT; decide)) (by omega) (fr_6375 _ (by first | omega | (dsimp only; omega))) (fr_6375 _ (by first | omega | (dsimp only; omega))) u_6369 (fr_6375 _ (by first | omega | (dsimp only; omega))) (fr_6375 _ (by first | omega | (dsimp only; omega))) (kp_6376 3 rfl) (kp_6376 6 rfl) (kp_6376 44 rfl) u_6370 (kp_6376 47 rfl) (kp_6376 48 rfl)
                          have k_6392 : MTd I_6372 o := by exact MTd.step k_6345 (fr_6375 _ (by first | omega | (dsimp only; omega))) (fr_6375 _ (by first | omega | (dsimp only; omega))) u_6369 (by omega)
                          refine y_Model_nextg hok hw ra hz16 hz17 hz18 hz19 (by first | omega | (intro h; omega) | exact Or.inl rfl | exact Or.inr rfl) hR_6374 (fun I_6403 L_6404 hR_6405 fr_6406 kp_6407 u_6394 u_6395 u_6396 u_6397 u_6398 u_6399 u_6400 u_6401 gn_6402 => ⟨I_6403, L_6404, rfl, rfl, ?_⟩)
                          replace hg := gt_b3 gn_6402 hg
                          clear gn_6402
                          have hf_6408 : Fm (fun c => c = o ∨ (o + 30 ≤ c ∧ c < o + 34)) I0 I_6403 := hf_6377.call fr_6406 (fun c hc => by first | exact hc | (dsimp only at hc ⊢; omega) | omega)
                          have t_6409 : (I_6403 o 3).toInt = (I_6372 o 3).toInt := by rw [kp_6407 3 rfl]
                          have t_6410 : (I_6403 o 4).toInt = (I_6372 o 4).toInt := by rw [kp_6407 4 rfl]
                          have g_6411 : (0 : Int) ≤ (I_6403 o 6).toInt ∧ (I_6403 o 6).toInt ≤ 1600 := hR_6405.at0 ra 6 (by decide)
                          have g_6412 : (0 : Int) ≤ (I_6403 o 7).toInt ∧ (I_6403 o 7).toInt ≤ 1601 := hR_6405.at0 ra 7 (by decide)
                          have g_6413 : (0 : Int) ≤ (I_6403 o 8).toInt ∧ (I_6403 o 8).toInt ≤ 6 := hR_6405.at0 ra 8 (by decide)
                          have t_6414 : (I_6403 o 44).toInt = (I_6372 o 44).toInt := by rw [kp_6407 44 rfl]
                          have t_6415 : (I_6403 o 45).toInt = (I_6372 o 45).toInt := by rw [kp_6407 45 rfl]
                          have t_6416 : (I_6403 o 47).toInt = (I_6372 o 47).toInt := by rw [kp_6407 47 rfl]
                          have t_6417 : (I_6403 o 48).toInt = (I_6372 o 48).toInt := by rw [kp_6407 48 rfl]
                          have t_6418 : (I_6403 o 46).toInt = (I_6372 o 46).toInt := by rw [kp_6407 46 rfl]
                          have k_6419 : MTd I_6403 o := k_6392.fr (fr_6406 _ (by first | omega | (dsimp only; omega))) (fr_6406 _ (by first | omega | (dsimp only; omega))) (fr_6406 _ (by first | omega | (dsimp only; omega)))
                          have ms := u_6397 (by omega)
                          have k_6420 : EX 0 0 0 f0 0 I_6403 o := by exact EX.nx k_6391 (fr_6406 _ (by first | omega | (dsimp only; omega))) (fr_6406 _ (by first | omega | (dsimp only; omega))) (fr_6406 _ (by first | omega | (dsimp only; omega))) (fr_6406 _ (by first | omega | (dsimp only; omega))) (fr_6406 _ (by first | omega | (dsimp only; omega))) (kp_6407 3 rfl) (kp_6407 44 rfl) (kp_6407 45 rfl) (kp_6407 47 rfl) (kp_6407 48 rfl) (by omega) (by omega)
                          exact (hp _ _ _ hR_6405 hf_6408 (Or.inl rfl) (by first | omega | (intro h; omega) | exact Or.inl rfl | exact Or.inr rfl) (by first | omega | (intro h; omega) | exact Or.inl rfl | exact Or.inr rfl) (by first | omega | (intro h; omega) | exact Or.inl rfl | exact Or.inr rfl) (by first | omega | (intro h; omega) | exact Or.inl rfl | exact Or.inr rfl) (by first | omega | (intro h; omega) | exact Or.inl rfl | exact Or.inr rfl) (by clear hg; first | (intro h; exfalso; omega) | exact fun _ => (False.elim (by omega)) | exact fun _ => k_6420) k_6419 u_6400 u_6401 hg.symm)
                    · have d_6421 := iNe c_6355
                      have i_6422 := u_6351 (by omega)
                      have i_6423 := u_6352 (by omega)
                      replace hg := gt_neg (by first | exact d_6421 | omega) hg
                      have g_6424 : (0 : Int) ≤ (I_6329 o 47).toInt ∧ (I_6329 o 47).toInt ≤ 7 := hR_6331.at0 ra 47 (by decide)
                      replace hg := gt_let (y := (I_6329 o 47).toInt) rfl hg
                      refine ⟨fun c_6425 => ?_, fun c_6425 => ?_⟩
                      · have d_6426 := iNe c_6425
                        replace hg := gt_neg (by first | exact d_6426 | omega) hg
                        refine y_Model_isGoodg hok hw ra hR_6331 (fun r_6427 u_6428 u_6429 u_6430 gn_6431 => ⟨r_6427, I_6329, L_5403, rfl, rfl, ?_⟩)
                        replace hg := gt_let gn_6431 hg
                        clear gn_6431
                        have b_6432 : 0 ≤ r_6427.toInt ∧ r_6427.toInt ≤ 1 := u_6428.rg
                        refine ⟨fun c_6433 => ?_, fun c_6433 => ?_⟩
                        · have d_6434 := iNe c_6433
                          have i_6435 := u_6429 (by omega)
                          replace hg := gt_neg (by first | exact d_6434 | omega) hg
                          refine y_Model_pileg hok hw ra hz58 (by first | omega | (intro h; omega) | exact Or.inl rfl | exact Or.inr rfl) (by first | omega | (intro h; omega) | exact Or.inl rfl | exact Or.inr rfl) hR_6331 (fun I_6441 L_6442 hR_6443 fr_6444 kp_6445 u_6437 u_6438 u_6439 gn_6440 => ⟨I_6441, L_6442, rfl, rfl, ?_⟩)
                          replace hg := gt_b3 gn_6440 hg
                          clear gn_6440
                          have hf_6446 : Fm (fun c => c = o ∨ (o + 30 ≤ c ∧ c < o + 34)) I0 I_6441 := hf_6332.call fr_6444 (fun c hc => by first | exact hc | (dsimp only at hc ⊢; omega) | omega)
                          have t_6447 : (I_6441 o 3).toInt = (I_6329 o 3).toInt := by rw [kp_6445 3 rfl]
                          have t_6448 : (I_6441 o 4).toInt = (I_6329 o 4).toInt := by rw [kp_6445 4 rfl]
                          have t_6449 : (I_6441 o 6).toInt = (I_6329 o 6).toInt := by rw [kp_6445 6 rfl]
                          have t_6450 : (I_6441 o 7).toInt = (I_6329 o 7).toInt := by rw [kp_6445 7 rfl]
                          have t_6451 : (I_6441 o 8).toInt = (I_6329 o 8).toInt := by rw [kp_6445 8 rfl]
                          have t_6452 : (I_6441 o 9).toInt = (I_6329 o 9).toInt := by rw [kp_6445 9 rfl]
                          have t_6453 : (I_6441 o 44).toInt = (I_6329 o 44).toInt := by rw [kp_6445 44 rfl]
                          have t_6454 : (I_6441 o 45).toInt = (I_6329 o 45).toInt := by rw [kp_6445 45 rfl]
                          have t_6455 : (I_6441 o 47).toInt = (I_6329 o 47).toInt := by rw [kp_6445 47 rfl]
                          have g_6456 : (0 : Int) ≤ (I_6441 o 48).toInt ∧ (I_6441 o 48).toInt ≤ 80 := hR_6443.at0 ra 48 (by decide)
                          have t_6457 : (I_6441 o 46).toInt = (I_6329 o 46).toInt := by rw [kp_6445 46 rfl]
                          have k_6458 : MTd I_6441 o := k_6345.fr (fr_6444 _ (by first | omega | (dsimp only; omega))) (fr_6444 _ (by first | omega | (dsimp only; omega))) (fr_6444 _ (by first | omega | (dsimp only; omega)))
                          have k_6459 : MPo I_6441 o := k_6346.fr (kp_6445 8 rfl) (kp_6445 9 rfl)
                          have k_6460 : MTk I_6441 o := k_6347.fr (kp_6445 6 rfl) (kp_6445 7 rfl) (kp_6445 8 rfl)
                          have k_6461 : EX 0 1 1 f0 1 I_6441 o := by have z := EX.push k_6344 (v := 7) (s := 0) (dB := 1) (dO := 0) (wt' := 1) (by decide) (by decide) (by decide) (by omega) ⟨by decide, by decide⟩ ⟨fun h => absurd h (by decide), fun h => absurd h (by decide)⟩ (Or.inl rfl) (fr_6444 _ (by first | omega | (dsimp only; omega))) (fr_6444 _ (by first | omega | (dsimp only; omega))) (fr_6444 _ (by first | omega | (dsimp only; omega))) u_6437 u_6438 (kp_6445 3 rfl) (kp_6445 6 rfl) (kp_6445 44 rfl) (kp_6445 45 rfl) (kp_6445 47 rfl) u_6439; exact EX.chg (b' := 1) z rfl rfl rfl rfl rfl rfl rfl rfl rfl rfl (by omega) z.pl
                          have g_6462 : (0 : Int) ≤ (I_6441 o 47).toInt ∧ (I_6441 o 47).toInt ≤ 7 := hR_6443.at0 ra 47 (by decide)
                          replace hg := gt_let (y := (I_6441 o 47).toInt) rfl hg
                          have a_6463 : ((I_6441 o 47) + 1).toInt = (I_6441 o 47).toInt + (1 : Int32).toInt := tAdd (by omega) (by omega)
                          replace hg := gt_let (y := (((I_6441 o 47) + 1) : Int32).toInt) (by omega) hg
                          refine fun I_6464 e_6465 => ?_
                          replace hg := gt_let (y := tI I_6464) (tI_q e_6465) hg
                          have hR_6466 : RI R I_6464 := hR_6443.up0 (k := 47) ra (by decide) (Or.inr hz57) e_6465 (show (0 : Int) ≤ ((I_6441 o 47) + 1).toInt by omega) (show ((I_6441 o 47) + 1).toInt ≤ (7 : Int) by omega)
                          have hf_6467 : Fm (fun c => c = o ∨ (o + 30 ≤ c ∧ c < o + 34)) I0 I_6464 := hf_6446.set (by first | rfl | omega | (dsimp only; omega)) e_6465
                          have t_6468 : (I_6464 o 3).toInt = (I_6441 o 3).toInt := by rw [← e_6465, q_u_k (by decide)]
                          have t_6469 : (I_6464 o 4).toInt = (I_6441 o 4).toInt := by rw [← e_6465, q_u_k (by decide)]
                          have t_6470 : (I_6464 o 6).toInt = (I_6441 o 6).toInt := by rw [← e_6465, q_u_k (by decide)]
                          have t_6471 : (I_6464 o 7).toInt = (I_6441 o 7).toInt := by rw [← e_6465, q_u_k (by decide)]
                          have t_6472 : (I_6464 o 8).toInt = (I_6441 o 8).toInt := by rw [← e_6465, q_u_k (by decide)]
                          have t_6473 : (I_6464 o 9).toInt = (I_6441 o 9).toInt := by rw [← e_6465, q_u_k (by decide)]
                          have t_6474 : (I_6464 o 44).toInt = (I_6441 o 44).toInt := by rw [← e_6465, q_u_k (by decide)]
                          have t_6475 : (I_6464 o 45).toInt = (I_6441 o 45).toInt := by rw [← e_6465, q_u_k (by decide)]
                          have t_6476 : (I_6464 o 47).toInt = ((I_6441 o 47) + 1).toInt := by rw [← e_6465, q_u_at]
                          have t_6477 : (I_6464 o 48).toInt = (I_6441 o 48).toInt := by rw [← e_6465, q_u_k (by decide)]
                          have t_6478 : (I_6464 o 46).toInt = (I_6441 o 46).toInt := by rw [← e_6465, q_u_k (by decide)]
                          have k_6479 : MTd I_6464 o := k_6458.fr (by rw [← e_6465]; exact q_u_ne (by omega)) (by rw [← e_6465]; exact q_u_ne (by omega)) (by rw [← e_6465]; exact q_u_ne (by omega))
                          have k_6480 : MPo I_6464 o := k_6459.fr (by rw [← e_6465, q_u_k (by decide)]) (by rw [← e_6465, q_u_k (by decide)])
                          have k_6481 : MTk I_6464 o := k_6460.fr (by rw [← e_6465, q_u_k (by decide)]) (by rw [← e_6465, q_u_k (by decide)]) (by rw [← e_6465, q_u_k (by decide)])
                          have tk := k_6481.2 (by omega)
                          have k_6483 : EX 0 0 1 f0 1 I_6464 o := by exact EX.put47 k_6461 e_6465 (by omega)
                          refine y_Model_nextg hok hw ra hz16 hz17 hz18 hz19 (by first | omega | (intro h; omega) | exact Or.inl rfl | exact Or.inr rfl) hR_6466 (fun I_6494 L_6495 hR_6496 fr_6497 kp_6498 u_6485 u_6486 u_6487 u_6488 u_6489 u_6490 u_6491 u_6492 gn_6493 => ⟨I_6494, L_6495, rfl, rfl, ?_⟩)
                          replace hg := gt_b3 gn_6493 hg
                          clear gn_6493
                          have hf_6499 : Fm (fun c => c = o ∨ (o + 30 ≤ c ∧ c < o + 34)) I0 I_6494 := hf_6467.call fr_6497 (fun c hc => by first | exact hc | (dsimp only at hc ⊢; omega) | omega)
                          have t_6500 : (I_6494 o 3).toInt = (I_6464 o 3).toInt := by rw [kp_6498 3 rfl]
                          have t_6501 : (I_6494 o 4).toInt = (I_6464 o 4).toInt := by rw [kp_6498 4 rfl]
                          have g_6502 : (0 : Int) ≤ (I_6494 o 6).toInt ∧ (I_6494 o 6).toInt ≤ 1600 := hR_6496.at0 ra 6 (by decide)
                          have g_6503 : (0 : Int) ≤ (I_6494 o 7).toInt ∧ (I_6494 o 7).toInt ≤ 1601 := hR_6496.at0 ra 7 (by decide)
                          have g_6504 : (0 : Int) ≤ (I_6494 o 8).toInt ∧ (I_6494 o 8).toInt ≤ 6 := hR_6496.at0 ra 8 (by decide)
                          have t_6505 : (I_6494 o 44).toInt = (I_6464 o 44).toInt := by rw [kp_6498 44 rfl]
                          have t_6506 : (I_6494 o 45).toInt = (I_6464 o 45).toInt := by rw [kp_6498 45 rfl]
                          have t_6507 : (I_6494 o 47).toInt = (I_6464 o 47).toInt := by rw [kp_6498 47 rfl]
                          have t_6508 : (I_6494 o 48).toInt = (I_6464 o 48).toInt := by rw [kp_6498 48 rfl]
                          have t_6509 : (I_6494 o 46).toInt = (I_6464 o 46).toInt := by rw [kp_6498 46 rfl]
                          have k_6510 : MTd I_6494 o := k_6479.fr (fr_6497 _ (by first | omega | (dsimp only; omega))) (fr_6497 _ (by first | omega | (dsimp only; omega))) (fr_6497 _ (by first | omega | (dsimp only; omega)))
                          have ms := u_6488 (by omega)
                          have k_6511 : EX 0 0 0 f0 1 I_6494 o := by exact EX.nx k_6483 (fr_6497 _ (by first | omega | (dsimp only; omega))) (fr_6497 _ (by first | omega | (dsimp only; omega))) (fr_6497 _ (by first | omega | (dsimp only; omega))) (fr_6497 _ (by first | omega | (dsimp only; omega))) (fr_6497 _ (by first | omega | (dsimp only; omega))) (kp_6498 3 rfl) (kp_6498 44 rfl) (kp_6498 45 rfl) (kp_6498 47 rfl) (kp_6498 48 rfl) (by omega) (by omega)
                          exact (hp _ _ _ hR_6496 hf_6499 (Or.inr rfl) (by first | omega | (intro h; omega) | exact Or.inl rfl | exact Or.inr rfl) (by first | omega | (intro h; omega) | exact Or.inl rfl | exact Or.inr rfl) (by first | omega | (intro h; omega) | exact Or.inl rfl | exact Or.inr rfl) (by first | omega | (intro h; omega) | exact Or.inl rfl | exact Or.inr rfl) (by first | omega | (intro h; omega) | exact Or.inl rfl | exact Or.inr rfl) (by clear hg; first | (intro h; exfalso; omega) | exact fun _ => k_6511 | exact fun _ => (False.elim (by omega))) k_6510 u_6491 u_6492 hg.symm)
                        · have d_6512 := iEq c_6433
                          have i_6513 := u_6430 (by omega)
                          replace hg := gt_pos (by first | exact d_6512 | omega) hg
                          exact (hp _ _ _ hR_6331 hf_6332 (Or.inr rfl) (by first | omega | (intro h; omega) | exact Or.inl rfl | exact Or.inr rfl) (by first | omega | (intro h; omega) | exact Or.inl rfl | exact Or.inr rfl) (by first | omega | (intro h; omega) | exact Or.inl rfl | exact Or.inr rfl) (by first | omega | (intro h; omega) | exact Or.inl rfl | exact Or.inr rfl) (by first | omega | (intro h; omega) | exact Or.inl rfl | exact Or.inr rfl) (by clear hg; first | (intro h; exfalso; omega) | exact fun _ => k_6344 | exact fun _ => (False.elim (by omega))) k_6345 k_6346 k_6347 hg.symm)
                      · have d_6514 := iEq c_6425
                        replace hg := gt_pos (by first | exact d_6514 | omega) hg
                        refine y_Model_wrongg hok hw ra hz14 hz15 hR_6331 (fun I_6519 L_6520 hR_6521 fr_6522 kp_6523 u_6516 u_6517 gn_6518 => ⟨I_6519, L_6520, rfl, rfl, ?_⟩)
                        replace hg := gt_b3 gn_6518 hg
                        clear gn_6518
                        have hf_6524 : Fm (fun c => c = o ∨ (o + 30 ≤ c ∧ c < o + 34)) I0 I_6519 := hf_6332.call fr_6522 (fun c hc => by first | exact hc | (dsimp only at hc ⊢; omega) | omega)
                        have t_6525 : (I_6519 o 3).toInt = (I_6329 o 3).toInt := by rw [kp_6523 3 rfl]
                        have g_6526 : (0 : Int) ≤ (I_6519 o 4).toInt ∧ (I_6519 o 4).toInt ≤ 5 := hR_6521.at0 ra 4 (by decide)
                        have t_6527 : (I_6519 o 6).toInt = (I_6329 o 6).toInt := by rw [kp_6523 6 rfl]
                        have t_6528 : (I_6519 o 7).toInt = (I_6329 o 7).toInt := by rw [kp_6523 7 rfl]
                        have t_6529 : (I_6519 o 8).toInt = (I_6329 o 8).toInt := by rw [kp_6523 8 rfl]
                        have t_6530 : (I_6519 o 9).toInt = (I_6329 o 9).toInt := by rw [kp_6523 9 rfl]
                        have t_6531 : (I_6519 o 44).toInt = (I_6329 o 44).toInt := by rw [kp_6523 44 rfl]
                        have t_6532 : (I_6519 o 45).toInt = (I_6329 o 45).toInt := by rw [kp_6523 45 rfl]
                        have t_6533 : (I_6519 o 47).toInt = (I_6329 o 47).toInt := by rw [kp_6523 47 rfl]
                        have t_6534 : (I_6519 o 48).toInt = (I_6329 o 48).toInt := by rw [kp_6523 48 rfl]
                        have t_6535 : (I_6519 o 46).toInt = (I_6329 o 46).toInt := by rw [kp_6523 46 rfl]
                        have k_6536 : EX 0 0 0 f0 1 I_6519 o := k_6344.fr (fr_6522 _ (by first | omega | (dsimp only; omega))) (fr_6522 _ (by first | omega | (dsimp only; omega))) (fr_6522 _ (by first | omega | (dsimp only; omega))) (fr_6522 _ (by first | omega | (dsimp only; omega))) (fr_6522 _ (by first | omega | (dsimp only; omega))) (kp_6523 3 rfl) (kp_6523 6 rfl) (kp_6523 44 rfl) (kp_6523 45 rfl) (kp_6523 47 rfl) (kp_6523 48 rfl)
                        have k_6537 : MTd I_6519 o := k_6345.fr (fr_6522 _ (by first | omega | (dsimp only; omega))) (fr_6522 _ (by first | omega | (dsimp only; omega))) (fr_6522 _ (by first | omega | (dsimp only; omega)))
                        have k_6538 : MPo I_6519 o := k_6346.fr (kp_6523 8 rfl) (kp_6523 9 rfl)
                        have k_6539 : MTk I_6519 o := k_6347.fr (kp_6523 6 rfl) (kp_6523 7 rfl) (kp_6523 8 rfl)
                        refine y_Model_isGoodg hok hw ra hR_6521 (fun r_6540 u_6541 u_6542 u_6543 gn_6544 => ⟨r_6540, I_6519, L_6520, rfl, rfl, ?_⟩)
                        replace hg := gt_let gn_6544 hg
                        clear gn_6544
                        have b_6545 : 0 ≤ r_6540.toInt ∧ r_6540.toInt ≤ 1 := u_6541.rg
                        refine ⟨fun c_6546 => ?_, fun c_6546 => ?_⟩
                        · have d_6547 := iNe c_6546
                          have i_6548 := u_6542 (by omega)
                          replace hg := gt_neg (by first | exact d_6547 | omega) hg
                          refine y_Model_pileg hok hw ra hz58 (by first | omega | (intro h; omega) | exact Or.inl rfl | exact Or.inr rfl) (by first | omega | (intro h; omega) | exact Or.inl rfl | exact Or.inr rfl) hR_6521 (fun I_6554 L_6555 hR_6556 fr_6557 kp_6558 u_6550 u_6551 u_6552 gn_6553 => ⟨I_6554, L_6555, rfl, rfl, ?_⟩)
                          replace hg := gt_b3 gn_6553 hg
                          clear gn_6553
                          have hf_6559 : Fm (fun c => c = o ∨ (o + 30 ≤ c ∧ c < o + 34)) I0 I_6554 := hf_6524.call fr_6557 (fun c hc => by first | exact hc | (dsimp only at hc ⊢; omega) | omega)
                          have t_6560 : (I_6554 o 3).toInt = (I_6519 o 3).toInt := by rw [kp_6558 3 rfl]
                          have t_6561 : (I_6554 o 4).toInt = (I_6519 o 4).toInt := by rw [kp_6558 4 rfl]
                          have t_6562 : (I_6554 o 6).toInt = (I_6519 o 6).toInt := by rw [kp_6558 6 rfl]
                          have t_6563 : (I_6554 o 7).toInt = (I_6519 o 7).toInt := by rw [kp_6558 7 rfl]
                          have t_6564 : (I_6554 o 8).toInt = (I_6519 o 8).toInt := by rw [kp_6558 8 rfl]
                          have t_6565 : (I_6554 o 9).toInt = (I_6519 o 9).toInt := by rw [kp_6558 9 rfl]
                          have t_6566 : (I_6554 o 44).toInt = (I_6519 o 44).toInt := by rw [kp_6558 44 rfl]
                          have t_6567 : (I_6554 o 45).toInt = (I_6519 o 45).toInt := by rw [kp_6558 45 rfl]
                          have t_6568 : (I_6554 o 47).toInt = (I_6519 o 47).toInt := by rw [kp_6558 47 rfl]
                          have g_6569 : (0 : Int) ≤ (I_6554 o 48).toInt ∧ (I_6554 o 48).toInt ≤ 80 := hR_6556.at0 ra 48 (by decide)
                          have t_6570 : (I_6554 o 46).toInt = (I_6519 o 46).toInt := by rw [kp_6558 46 rfl]
                          have k_6571 : MTd I_6554 o := k_6537.fr (fr_6557 _ (by first | omega | (dsimp only; omega))) (fr_6557 _ (by first | omega | (dsimp only; omega))) (fr_6557 _ (by first | omega | (dsimp only; omega)))
                          have k_6572 : MPo I_6554 o := k_6538.fr (kp_6558 8 rfl) (kp_6558 9 rfl)
                          have k_6573 : MTk I_6554 o := k_6539.fr (kp_6558 6 rfl) (kp_6558 7 rfl) (kp_6558 8 rfl)
                          have k_6574 : EX 0 1 1 f0 1 I_6554 o := by have z := EX.push k_6536 (v := 7) (s := 0) (dB := 1) (dO := 0) (wt' := 1) (by decide) (by decide) (by decide) (by omega) ⟨by decide, by decide⟩ ⟨fun h => absurd h (by decide), fun h => absurd h (by decide)⟩ (Or.inl rfl) (fr_6557 _ (by first | omega | (dsimp only; omega))) (fr_6557 _ (by first | omega | (dsimp only; omega))) (fr_6557 _ (by first | omega | (dsimp only; omega))) u_6550 u_6551 (kp_6558 3 rfl) (kp_6558 6 rfl) (kp_6558 44 rfl) (kp_6558 45 rfl) (kp_6558 47 rfl) u_6552; exact EX.chg (b' := 1) z rfl rfl rfl rfl rfl rfl rfl rfl rfl rfl (by omega) z.pl
                          have g_6575 : (0 : Int) ≤ (I_6554 o 47).toInt ∧ (I_6554 o 47).toInt ≤ 7 := hR_6556.at0 ra 47 (by decide)
                          replace hg := gt_let (y := (I_6554 o 47).toInt) rfl hg
                          have a_6576 : ((I_6554 o 47) + 1).toInt = (I_6554 o 47).toInt + (1 : Int32).toInt := tAdd (by omega) (by omega)
                          replace hg := gt_let (y := (((I_6554 o 47) + 1) : Int32).toInt) (by omega) hg
                          refine fun I_6577 e_6578 => ?_
                          replace hg := gt_let (y := tI I_6577) (tI_q e_6578) hg
                          have hR_6579 : RI R I_6577 := hR_6556.up0 (k := 47) ra (by decide) (Or.inr hz57) e_6578 (show (0 : Int) ≤ ((I_6554 o 47) + 1).toInt by omega) (show ((I_6554 o 47) + 1).toInt ≤ (7 : Int) by omega)
                          have hf_6580 : Fm (fun c => c = o ∨ (o + 30 ≤ c ∧ c < o + 34)) I0 I_6577 := hf_6559.set (by first | rfl | omega | (dsimp only; omega)) e_6578
                          have t_6581 : (I_6577 o 3).toInt = (I_6554 o 3).toInt := by rw [← e_6578, q_u_k (by decide)]
                          have t_6582 : (I_6577 o 4).toInt = (I_6554 o 4).toInt := by rw [← e_6578, q_u_k (by decide)]
                          have t_6583 : (I_6577 o 6).toInt = (I_6554 o 6).toInt := by rw [← e_6578, q_u_k (by decide)]
                          have t_6584 : (I_6577 o 7).toInt = (I_6554 o 7).toInt := by rw [← e_6578, q_u_k (by decide)]
                          have t_6585 : (I_6577 o 8).toInt = (I_6554 o 8).toInt := by rw [← e_6578, q_u_k (by decide)]
                          have t_6586 : (I_6577 o 9).toInt = (I_6554 o 9).toInt := by rw [← e_6578, q_u_k (by decide)]
                          have t_6587 : (I_6577 o 44).toInt = (I_6554 o 44).toInt := by rw [← e_6578, q_u_k (by decide)]
                          have t_6588 : (I_6577 o 45).toInt = (I_6554 o 45).toInt := by rw [← e_6578, q_u_k (by decide)]
                          have t_6589 : (I_6577 o 47).toInt = ((I_6554 o 47) + 1).toInt := by rw [← e_6578, q_u_at]
                          have t_6590 : (I_6577 o 48).toInt = (I_6554 o 48).toInt := by rw [← e_6578, q_u_k (by decide)]
                          have t_6591 : (I_6577 o 46).toInt = (I_6554 o 46).toInt := by rw [← e_6578, q_u_k (by decide)]
                          have k_6592 : MTd I_6577 o := k_6571.fr (by rw [← e_6578]; exact q_u_ne (by omega)) (by rw [← e_6578]; exact q_u_ne (by omega)) (by rw [← e_6578]; exact q_u_ne (by omega))
                          have k_6593 : MPo I_6577 o := k_6572.fr (by rw [← e_6578, q_u_k (by decide)]) (by rw [← e_6578, q_u_k (by decide)])
                          have k_6594 : MTk I_6577 o := k_6573.fr (by rw [← e_6578, q_u_k (by decide)]) (by rw [← e_6578, q_u_k (by decide)]) (by rw [← e_6578, q_u_k (by decide)])
                          have tk := k_6594.2 (by omega)
                          have k_6596 : EX 0 0 1 f0 1 I_6577 o := by exact EX.put47 k_6574 e_6578 (by omega)
                          refine y_Model_nextg hok hw ra hz16 hz17 hz18 hz19 (by first | omega | (intro h; omega) | exact Or.inl rfl | exact Or.inr rfl) hR_6579 (fun I_6607 L_6608 hR_6609 fr_6610 kp_6611 u_6598 u_6599 u_6600 u_6601 u_6602 u_6603 u_6604 u_6605 gn_6606 => ⟨I_6607, L_6608, rfl, rfl, ?_⟩)
                          replace hg := gt_b3 gn_6606 hg
                          clear gn_6606
                          have hf_6612 : Fm (fun c => c = o ∨ (o + 30 ≤ c ∧ c < o + 34)) I0 I_6607 := hf_6580.call fr_6610 (fun c hc => by first | exact hc | (dsimp only at hc ⊢; omega) | omega)
                          have t_6613 : (I_6607 o 3).toInt = (I_6577 o 3).toInt := by rw [kp_6611 3 rfl]
                          have t_6614 : (I_6607 o 4).toInt = (I_6577 o 4).toInt := by rw [kp_6611 4 rfl]
                          have g_6615 : (0 : Int) ≤ (I_6607 o 6).toInt ∧ (I_6607 o 6).toInt ≤ 1600 := hR_6609.at0 ra 6 (by decide)
                          have g_6616 : (0 : Int) ≤ (I_6607 o 7).toInt ∧ (I_6607 o 7).toInt ≤ 1601 := hR_6609.at0 ra 7 (by decide)
                          have g_6617 : (0 : Int) ≤ (I_6607 o 8).toInt ∧ (I_6607 o 8).toInt ≤ 6 := hR_6609.at0 ra 8 (by decide)
                          have t_6618 : (I_6607 o 44).toInt = (I_6577 o 44).toInt := by rw [kp_6611 44 rfl]
                          have t_6619 : (I_6607 o 45).toInt = (I_6577 o 45).toInt := by rw [kp_6611 45 rfl]
                          have t_6620 : (I_6607 o 47).toInt = (I_6577 o 47).toInt := by rw [kp_6611 47 rfl]
                          have t_6621 : (I_6607 o 48).toInt = (I_6577 o 48).toInt := by rw [kp_6611 48 rfl]
                          have t_6622 : (I_6607 o 46).toInt = (I_6577 o 46).toInt := by rw [kp_6611 46 rfl]
                          have k_6623 : MTd I_6607 o := k_6592.fr (fr_6610 _ (by first | omega | (dsimp only; omega))) (fr_6610 _ (by first | omega | (dsimp only; omega))) (fr_6610 _ (by first | omega | (dsimp only; omega)))
                          have ms := u_6601 (by omega)
                          have k_6624 : EX 0 0 0 f0 1 I_6607 o := by exact EX.nx k_6596 (fr_6610 _ (by first | omega | (dsimp only; omega))) (fr_6610 _ (by first | omega | (dsimp only; omega))) (fr_6610 _ (by first | omega | (dsimp only; omega))) (fr_6610 _ (by first | omega | (dsimp only; omega))) (fr_6610 _ (by first | omega | (dsimp only; omega))) (kp_6611 3 rfl) (kp_6611 44 rfl) (kp_6611 45 rfl) (kp_6611 47 rfl) (kp_6611 48 rfl) (by omega) (by omega)
                          exact (hp _ _ _ hR_6609 hf_6612 (Or.inr rfl) (by first | omega | (intro h; omega) | exact Or.inl rfl | exact Or.inr rfl) (by first | omega | (intro h; omega) | exact Or.inl rfl | exact Or.inr rfl) (by first | omega | (intro h; omega) | exact Or.inl rfl | exact Or.inr rfl) (by first | omega | (intro h; omega) | exact Or.inl rfl | exact Or.inr rfl) (by first | omega | (intro h; omega) | exact Or.inl rfl | exact Or.inr rfl) (by clear hg; first | (intro h; exfalso; omega) | exact fun _ => k_6624 | exact fun _ => (False.elim (by omega))) k_6623 u_6604 u_6605 hg.symm)
                        · have d_6625 := iEq c_6546
                          have i_6626 := u_6543 (by omega)
                          replace hg := gt_pos (by first | exact d_6625 | omega) hg
                          exact (hp _ _ _ hR_6521 hf_6524 (Or.inr rfl) (by first | omega | (intro h; omega) | exact Or.inl rfl | exact Or.inr rfl) (by first | omega | (intro h; omega) | exact Or.inl rfl | exact Or.inr rfl) (by first | omega | (intro h; omega) | exact Or.inl rfl | exact Or.inr rfl) (by first | omega | (intro h; omega) | exact Or.inl rfl | exact Or.inr rfl) (by first | omega | (intro h; omega) | exact Or.inl rfl | exact Or.inr rfl) (by clear hg; first | (intro h; exfalso; omega) | exact fun _ => k_6536 | exact fun _ => (False.elim (by omega))) k_6537 k_6538 k_6539 hg.symm)
                  · have d_6627 := iEq c_6324
                    have i_6628 := u_6321 (by omega)
                    replace hg := gt_pos (by first | exact d_6627 | omega) hg
                    exact (hp _ _ _ hR_5404 hf_5407 (Or.inr rfl) (by first | omega | (intro h; omega) | exact Or.inl rfl | exact Or.inr rfl) (by first | omega | (intro h; omega) | exact Or.inl rfl | exact Or.inr rfl) (by first | omega | (intro h; omega) | exact Or.inl rfl | exact Or.inr rfl) (by first | omega | (intro h; omega) | exact Or.inl rfl | exact Or.inr rfl) (by first | omega | (intro h; omega) | exact Or.inl rfl | exact Or.inr rfl) (by clear hg; first | (intro h; exfalso; omega) | exact fun _ => k_5418 | exact fun _ => (False.elim (by omega))) k_5419 k_5420 k_5421 hg.symm)
                · have d_6629 := iEq c_6316
                  replace hg := gt_pos (by first | exact d_6629 | omega) hg
                  unfold fModel_unit_140
                  replace hg := (eModel_unit_140).symm.trans hg
                  refine y_Model_wrongg hok hw ra hz14 hz15 hR_5404 (fun I_6634 L_6635 hR_6636 fr_6637 kp_6638 u_6631 u_6632 gn_6633 => ⟨I_6634, L_6635, rfl, rfl, ?_⟩)
                  replace hg := gt_b3 gn_6633 hg
                  clear gn_6633
                  have hf_6639 : Fm (fun c => c = o ∨ (o + 30 ≤ c ∧ c < o + 34)) I0 I_6634 := hf_5407.call fr_6637 (fun c hc => by first | exact hc | (dsimp only at hc ⊢; omega) | omega)
                  have t_6640 : (I_6634 o 3).toInt = (I_5402 o 3).toInt := by rw [kp_6638 3 rfl]
                  have g_6641 : (0 : Int) ≤ (I_6634 o 4).toInt ∧ (I_6634 o 4).toInt ≤ 5 := hR_6636.at0 ra 4 (by decide)
                  have t_6642 : (I_6634 o 6).toInt = (I_5402 o 6).toInt := by rw [kp_6638 6 rfl]
                  have t_6643 : (I_6634 o 7).toInt = (I_5402 o 7).toInt := by rw [kp_6638 7 rfl]
                  have t_6644 : (I_6634 o 8).toInt = (I_5402 o 8).toInt := by rw [kp_6638 8 rfl]
                  have t_6645 : (I_6634 o 9).toInt = (I_5402 o 9).toInt := by rw [kp_6638 9 rfl]
                  have t_6646 : (I_6634 o 44).toInt = (I_5402 o 44).toInt := by rw [kp_6638 44 rfl]
                  have t_6647 : (I_6634 o 45).toInt = (I_5402 o 45).toInt := by rw [kp_6638 45 rfl]
                  have t_6648 : (I_6634 o 47).toInt = (I_5402 o 47).toInt := by rw [kp_6638 47 rfl]
                  have t_6649 : (I_6634 o 48).toInt = (I_5402 o 48).toInt := by rw [kp_6638 48 rfl]
                  have t_6650 : (I_6634 o 46).toInt = (I_5402 o 46).toInt := by rw [kp_6638 46 rfl]
                  have k_6651 : EX 0 0 0 f0 1 I_6634 o := k_5418.fr (fr_6637 _ (by first | omega | (dsimp only; omega))) (fr_6637 _ (by first | omega | (dsimp only; omega))) (fr_6637 _ (by first | omega | (dsimp only; omega))) (fr_6637 _ (by first | omega | (dsimp only; omega))) (fr_6637 _ (by first | omega | (dsimp only; omega))) (kp_6638 3 rfl) (kp_6638 6 rfl) (kp_6638 44 rfl) (kp_6638 45 rfl) (kp_6638 47 rfl) (kp_6638 48 rfl)
                  have k_6652 : MTd I_6634 o := k_5419.fr (fr_6637 _ (by first | omega | (dsimp only; omega))) (fr_6637 _ (by first | omega | (dsimp only; omega))) (fr_6637 _ (by first | omega | (dsimp only; omega)))
                  have k_6653 : MPo I_6634 o := k_5420.fr (kp_6638 8 rfl) (kp_6638 9 rfl)
                  have k_6654 : MTk I_6634 o := k_5421.fr (kp_6638 6 rfl) (kp_6638 7 rfl) (kp_6638 8 rfl)
                  refine y_Model_isGoodg hok hw ra hR_6636 (fun r_6655 u_6656 u_6657 u_6658 gn_6659 => ⟨r_6655, I_6634, L_6635, rfl, rfl, ?_⟩)
                  replace hg := gt_let gn_6659 hg
                  clear gn_6659
                  have b_6660 : 0 ≤ r_6655.toInt ∧ r_6655.toInt ≤ 1 := u_6656.rg
                  refine ⟨fun c_6661 => ?_, fun c_6661 => ?_⟩
                  · have d_6662 := iNe c_6661
                    have i_6663 := u_6657 (by omega)
                    replace hg := gt_neg (by first | exact d_6662 | omega) hg
                    have g_6664 : (0 : Int) ≤ (I_6634 o 46).toInt ∧ (I_6634 o 46).toInt ≤ 100 := hR_6636.at0 ra 46 (by decide)
                    replace hg := gt_let (y := (I_6634 o 46).toInt) rfl hg
                    have a_6665 : ((I_6634 o 46) + 1).toInt = (I_6634 o 46).toInt + (1 : Int32).toInt := tAdd (by omega) (by omega)
                    replace hg := gt_let (y := (((I_6634 o 46) + 1) : Int32).toInt) (by omega) hg
                    refine fun I_6666 e_6667 => ?_
                    replace hg := gt_let (y := tI I_6666) (tI_q e_6667) hg
                    have hR_6668 : RI R I_6666 := hR_6636.up0 (k := 46) ra (by decide) (Or.inr hz56) e_6667 (show (0 : Int) ≤ ((I_6634 o 46) + 1).toInt by omega) (show ((I_6634 o 46) + 1).toInt ≤ (100 : Int) by omega)
                    have hf_6669 : Fm (fun c => c = o ∨ (o + 30 ≤ c ∧ c < o + 34)) I0 I_6666 := hf_6639.set (by first | rfl | omega | (dsimp only; omega)) e_6667
                    have t_6670 : (I_6666 o 3).toInt = (I_6634 o 3).toInt := by rw [← e_6667, q_u_k (by decide)]
                    have t_6671 : (I_6666 o 4).toInt = (I_6634 o 4).toInt := by rw [← e_6667, q_u_k (by decide)]
                    have t_6672 : (I_6666 o 6).toInt = (I_6634 o 6).toInt := by rw [← e_6667, q_u_k (by decide)]
                    have t_6673 : (I_6666 o 7).toInt = (I_6634 o 7).toInt := by rw [← e_6667, q_u_k (by decide)]
                    have t_6674 : (I_6666 o 8).toInt = (I_6634 o 8).toInt := by rw [← e_6667, q_u_k (by decide)]
                    have t_6675 : (I_6666 o 9).toInt = (I_6634 o 9).toInt := by rw [← e_6667, q_u_k (by decide)]
                    have t_6676 : (I_6666 o 44).toInt = (I_6634 o 44).toInt := by rw [← e_6667, q_u_k (by decide)]
                    have t_6677 : (I_6666 o 45).toInt = (I_6634 o 45).toInt := by rw [← e_6667, q_u_k (by decide)]
                    have t_6678 : (I_6666 o 47).toInt = (I_6634 o 47).toInt := by rw [← e_6667, q_u_k (by decide)]
                    have t_6679 : (I_6666 o 48).toInt = (I_6634 o 48).toInt := by rw [← e_6667, q_u_k (by decide)]
                    have t_6680 : (I_6666 o 46).toInt = ((I_6634 o 46) + 1).toInt := by rw [← e_6667, q_u_at]
                    have k_6681 : EX 0 0 0 f0 1 I_6666 o := k_6651.fr (by rw [← e_6667]; exact q_u_ne (by omega)) (by rw [← e_6667]; exact q_u_ne (by omega)) (by rw [← e_6667]; exact q_u_ne (by omega)) (by rw [← e_6667]; exact q_u_ne (by omega)) (by rw [← e_6667]; exact q_u_ne (by omega)) (by rw [← e_6667, q_u_k (by decide)]) (by rw [← e_6667, q_u_k (by decide)]) (by rw [← e_6667, q_u_k (by decide)]) (by rw [← e_6667, q_u_k (by decide)]) (by rw [← e_6667, q_u_k (by decide)]) (by rw [← e_6667, q_u_k (by decide)])
                    have k_6682 : MTd I_6666 o := k_6652.fr (by rw [← e_6667]; exact q_u_ne (by omega)) (by rw [← e_6667]; exact q_u_ne (by omega)) (by rw [← e_6667]; exact q_u_ne (by omega))
                    have k_6683 : MPo I_6666 o := k_6653.fr (by rw [← e_6667, q_u_k (by decide)]) (by rw [← e_6667, q_u_k (by decide)])
                    have k_6684 : MTk I_6666 o := k_6654.fr (by rw [← e_6667, q_u_k (by decide)]) (by rw [← e_6667, q_u_k (by decide)]) (by rw [← e_6667, q_u_k (by decide)])
                    have l_6685 : (40 : Int32).toInt = 40 := rfl
                    refine y_Model_isg hok hw ra hR_6668 (fun r_6686 u_6687 u_6688 u_6689 gn_6690 => ⟨r_6686, I_6666, L_6635, rfl, rfl, ?_⟩)
                    replace hg := gt_let gn_6690 hg
                    clear gn_6690
                    have b_6691 : 0 ≤ r_6686.toInt ∧ r_6686.toInt ≤ 1 := u_6687.rg
                    refine ⟨fun c_6692 => ?_, fun c_6692 => ?_⟩
                    · have d_6693 := iEq c_6692
                      replace hg := gt_pos (by first | exact d_6693 | omega) hg
                      have cd := k_6681.cod
                      have tk := k_6684.2 (by omega)
                      refine ⟨fun c_6694 => ?_, fun c_6694 => ?_⟩
                      · have d_6695 := iNe c_6694
                        have i_6696 := u_5398 (by omega)
                        have i_6697 := u_5399 (by omega)
                        exfalso; omega
                      · have d_6698 := iEq c_6694
                        replace hg := gt_pos (by first | exact d_6698 | omega) hg
                        unfold fModel_unit_228
                        replace hg := (eModel_unit_228).symm.trans hg
                        have l_6699 : (78 : Int32).toInt = 78 := rfl
                        refine ⟨fun c_6700 => ?_, fun c_6700 => ?_⟩
                        · have d_6701 := iNe c_6700
                          have i_6702 := u_5398 (by omega)
                          have i_6703 := u_5399 (by omega)
                          exfalso; omega
                        · have d_6704 := iEq c_6700
                          replace hg := gt_pos (by first | exact d_6704 | omega) hg
                          replace hg := gt_let (y := (I_6666 o 9).toInt) rfl hg
                          refine y_Model_stepg hok hw ra hz55 (by first | omega | (intro h; omega) | exact Or.inl rfl | exact Or.inr rfl) (by first | omega | (intro h; omega) | exact Or.inl rfl | exact Or.inr rfl) hR_6668 (fun I_6709 L_6710 hR_6711 fr_6712 kp_6713 u_6706 u_6707 gn_6708 => ⟨I_6709, L_6710, rfl, rfl, ?_⟩)
                          replace hg := gt_b3 gn_6708 hg
                          clear gn_6708
                          have hf_6714 : Fm (fun c => c = o ∨ (o + 30 ≤ c ∧ c < o + 34)) I0 I_6709 := hf_6669.call fr_6712 (fun c hc => by first | exact hc | (dsimp only at hc ⊢; omega) | omega)
                          have t_6715 : (I_6709 o 3).toInt = (I_6666 o 3).toInt := by rw [kp_6713 3 rfl]
                          have t_6716 : (I_6709 o 4).toInt = (I_6666 o 4).toInt := by rw [kp_6713 4 rfl]
                          have t_6717 : (I_6709 o 6).toInt = (I_6666 o 6).toInt := by rw [kp_6713 6 rfl]
                          have t_6718 : (I_6709 o 7).toInt = (I_6666 o 7).toInt := by rw [kp_6713 7 rfl]
                          have t_6719 : (I_6709 o 8).toInt = (I_6666 o 8).toInt := by rw [kp_6713 8 rfl]
                          have t_6720 : (I_6709 o 9).toInt = (I_6666 o 9).toInt := by rw [kp_6713 9 rfl]
                          have t_6721 : (I_6709 o 44).toInt = (I_6666 o 44).toInt := by rw [kp_6713 44 rfl]
                          have g_6722 : (0 : Int) ≤ (I_6709 o 45).toInt ∧ (I_6709 o 45).toInt ≤ 700 := hR_6711.at0 ra 45 (by decide)
                          have t_6723 : (I_6709 o 47).toInt = (I_6666 o 47).toInt := by rw [kp_6713 47 rfl]
                          have t_6724 : (I_6709 o 48).toInt = (I_6666 o 48).toInt := by rw [kp_6713 48 rfl]
                          have t_6725 : (I_6709 o 46).toInt = (I_6666 o 46).toInt := by rw [kp_6713 46 rfl]
                          have k_6726 : MPo I_6709 o := k_6683.fr (kp_6713 8 rfl) (kp_6713 9 rfl)
                          have k_6727 : MTk I_6709 o := k_6684.fr (kp_6713 6 rfl) (kp_6713 7 rfl) (kp_6713 8 rfl)
                          have tk := k_6727.2 (by omega)
                          have k_6728 : EX 0 0 1 f0 0 I_6709 o := by exact EX.step1 k_6681 (by first | exact u_5398 (by omega) | (unfold isT; decide)) (by omega) (fr_6712 _ (by first | omega | (dsimp only; omega))) (fr_6712 _ (by first | omega | (dsimp only; omega))) u_6706 (fr_6712 _ (by first | omega | (dsimp only; omega))) (fr_6712 _ (by first | omega | (dsimp only; omega))) (kp_6713 3 rfl) (kp_6713 6 rfl) (kp_6713 44 rfl) u_6707 (kp_6713 47 rfl) (kp_6713 48 rfl)
                          have k_6729 : MTd I_6709 o := by exact MTd.step k_6682 (fr_6712 _ (by first | omega | (dsimp only; omega))) (fr_6712 _ (by first | omega | (dsimp only; omega))) u_6706 (by omega)
                          refine y_Model_nextg hok hw ra hz16 hz17 hz18 hz19 (by first | omega | (intro h; omega) | exact Or.inl rfl | exact Or.inr rfl) hR_6711 (fun I_6740 L_6741 hR_6742 fr_6743 kp_6744 u_6731 u_6732 u_6733 u_6734 u_6735 u_6736 u_6737 u_6738 gn_6739 => ⟨I_6740, L_6741, rfl, rfl, ?_⟩)
                          replace hg := gt_b3 gn_6739 hg
                          clear gn_6739
                          have hf_6745 : Fm (fun c => c = o ∨ (o + 30 ≤ c ∧ c < o + 34)) I0 I_6740 := hf_6714.call fr_6743 (fun c hc => by first | exact hc | (dsimp only at hc ⊢; omega) | omega)
                          have t_6746 : (I_6740 o 3).toInt = (I_6709 o 3).toInt := by rw [kp_6744 3 rfl]
                          have t_6747 : (I_6740 o 4).toInt = (I_6709 o 4).toInt := by rw [kp_6744 4 rfl]
                          have g_6748 : (0 : Int) ≤ (I_6740 o 6).toInt ∧ (I_6740 o 6).toInt ≤ 1600 := hR_6742.at0 ra 6 (by decide)
                          have g_6749 : (0 : Int) ≤ (I_6740 o 7).toInt ∧ (I_6740 o 7).toInt ≤ 1601 := hR_6742.at0 ra 7 (by decide)
                          have g_6750 : (0 : Int) ≤ (I_6740 o 8).toInt ∧ (I_6740 o 8).toInt ≤ 6 := hR_6742.at0 ra 8 (by decide)
                          have t_6751 : (I_6740 o 44).toInt = (I_6709 o 44).toInt := by rw [kp_6744 44 rfl]
                          have t_6752 : (I_6740 o 45).toInt = (I_6709 o 45).toInt := by rw [kp_6744 45 rfl]
                          have t_6753 : (I_6740 o 47).toInt = (I_6709 o 47).toInt := by rw [kp_6744 47 rfl]
                          have t_6754 : (I_6740 o 48).toInt = (I_6709 o 48).toInt := by rw [kp_6744 48 rfl]
                          have t_6755 : (I_6740 o 46).toInt = (I_6709 o 46).toInt := by rw [kp_6744 46 rfl]
                          have k_6756 : MTd I_6740 o := k_6729.fr (fr_6743 _ (by first | omega | (dsimp only; omega))) (fr_6743 _ (by first | omega | (dsimp only; omega))) (fr_6743 _ (by first | omega | (dsimp only; omega)))
                          have ms := u_6734 (by omega)
                          have k_6757 : EX 0 0 0 f0 0 I_6740 o := by exact EX.nx k_6728 (fr_6743 _ (by first | omega | (dsimp only; omega))) (fr_6743 _ (by first | omega | (dsimp only; omega))) (fr_6743 _ (by first | omega | (dsimp only; omega))) (fr_6743 _ (by first | omega | (dsimp only; omega))) (fr_6743 _ (by first | omega | (dsimp only; omega))) (kp_6744 3 rfl) (kp_6744 44 rfl) (kp_6744 45 rfl) (kp_6744 47 rfl) (kp_6744 48 rfl) (by omega) (by omega)
                          exact (hp _ _ _ hR_6742 hf_6745 (Or.inl rfl) (by first | omega | (intro h; omega) | exact Or.inl rfl | exact Or.inr rfl) (by first | omega | (intro h; omega) | exact Or.inl rfl | exact Or.inr rfl) (by first | omega | (intro h; omega) | exact Or.inl rfl | exact Or.inr rfl) (by first | omega | (intro h; omega) | exact Or.inl rfl | exact Or.inr rfl) (by first | omega | (intro h; omega) | exact Or.inl rfl | exact Or.inr rfl) (by clear hg; first | (intro h; exfalso; omega) | exact fun _ => (False.elim (by omega)) | exact fun _ => k_6757) k_6756 u_6737 u_6738 hg.symm)
                    · have d_6758 := iNe c_6692
                      have i_6759 := u_6688 (by omega)
                      have i_6760 := u_6689 (by omega)
                      replace hg := gt_neg (by first | exact d_6758 | omega) hg
                      have g_6761 : (0 : Int) ≤ (I_6666 o 47).toInt ∧ (I_6666 o 47).toInt ≤ 7 := hR_6668.at0 ra 47 (by decide)
                      replace hg := gt_let (y := (I_6666 o 47).toInt) rfl hg
                      refine ⟨fun c_6762 => ?_, fun c_6762 => ?_⟩
                      · have d_6763 := iNe c_6762
                        replace hg := gt_neg (by first | exact d_6763 | omega) hg
                        refine y_Model_isGoodg hok hw ra hR_6668 (fun r_6764 u_6765 u_6766 u_6767 gn_6768 => ⟨r_6764, I_6666, L_6635, rfl, rfl, ?_⟩)
                        replace hg := gt_let gn_6768 hg
                        clear gn_6768
                        have b_6769 : 0 ≤ r_6764.toInt ∧ r_6764.toInt ≤ 1 := u_6765.rg
                        refine ⟨fun c_6770 => ?_, fun c_6770 => ?_⟩
                        · have d_6771 := iNe c_6770
                          have i_6772 := u_6766 (by omega)
                          replace hg := gt_neg (by first | exact d_6771 | omega) hg
                          refine y_Model_pileg hok hw ra hz58 (by first | omega | (intro h; omega) | exact Or.inl rfl | exact Or.inr rfl) (by first | omega | (intro h; omega) | exact Or.inl rfl | exact Or.inr rfl) hR_6668 (fun I_6778 L_6779 hR_6780 fr_6781 kp_6782 u_6774 u_6775 u_6776 gn_6777 => ⟨I_6778, L_6779, rfl, rfl, ?_⟩)
                          replace hg := gt_b3 gn_6777 hg
                          clear gn_6777
                          have hf_6783 : Fm (fun c => c = o ∨ (o + 30 ≤ c ∧ c < o + 34)) I0 I_6778 := hf_6669.call fr_6781 (fun c hc => by first | exact hc | (dsimp only at hc ⊢; omega) | omega)
                          have t_6784 : (I_6778 o 3).toInt = (I_6666 o 3).toInt := by rw [kp_6782 3 rfl]
                          have t_6785 : (I_6778 o 4).toInt = (I_6666 o 4).toInt := by rw [kp_6782 4 rfl]
                          have t_6786 : (I_6778 o 6).toInt = (I_6666 o 6).toInt := by rw [kp_6782 6 rfl]
                          have t_6787 : (I_6778 o 7).toInt = (I_6666 o 7).toInt := by rw [kp_6782 7 rfl]
                          have t_6788 : (I_6778 o 8).toInt = (I_6666 o 8).toInt := by rw [kp_6782 8 rfl]
                          have t_6789 : (I_6778 o 9).toInt = (I_6666 o 9).toInt := by rw [kp_6782 9 rfl]
                          have t_6790 : (I_6778 o 44).toInt = (I_6666 o 44).toInt := by rw [kp_6782 44 rfl]
                          have t_6791 : (I_6778 o 45).toInt = (I_6666 o 45).toInt := by rw [kp_6782 45 rfl]
                          have t_6792 : (I_6778 o 47).toInt = (I_6666 o 47).toInt := by rw [kp_6782 47 rfl]
                          have g_6793 : (0 : Int) ≤ (I_6778 o 48).toInt ∧ (I_6778 o 48).toInt ≤ 80 := hR_6780.at0 ra 48 (by decide)
                          have t_6794 : (I_6778 o 46).toInt = (I_6666 o 46).toInt := by rw [kp_6782 46 rfl]
                          have k_6795 : MTd I_6778 o := k_6682.fr (fr_6781 _ (by first | omega | (dsimp only; omega))) (fr_6781 _ (by first | omega | (dsimp only; omega))) (fr_6781 _ (by first | omega | (dsimp only; omega)))
                          have k_6796 : MPo I_6778 o := k_6683.fr (kp_6782 8 rfl) (kp_6782 9 rfl)
                          have k_6797 : MTk I_6778 o := k_6684.fr (kp_6782 6 rfl) (kp_6782 7 rfl) (kp_6782 8 rfl)
                          have k_6798 : EX 0 1 1 f0 1 I_6778 o := by have z := EX.push k_6681 (v := 7) (s := 0) (dB := 1) (dO := 0) (wt' := 1) (by decide) (by decide) (by decide) (by omega) ⟨by decide, by decide⟩ ⟨fun h => absurd h (by decide), fun h => absurd h (by decide)⟩ (Or.inl rfl) (fr_6781 _ (by first | omega | (dsimp only; omega))) (fr_6781 _ (by first | omega | (dsimp only; omega))) (fr_6781 _ (by first | omega | (dsimp only; omega))) u_6774 u_6775 (kp_6782 3 rfl) (kp_6782 6 rfl) (kp_6782 44 rfl) (kp_6782 45 rfl) (kp_6782 47 rfl) u_6776; exact EX.chg (b' := 1) z rfl rfl rfl rfl rfl rfl rfl rfl rfl rfl (by omega) z.pl
                          have g_6799 : (0 : Int) ≤ (I_6778 o 47).toInt ∧ (I_6778 o 47).toInt ≤ 7 := hR_6780.at0 ra 47 (by decide)
                          replace hg := gt_let (y := (I_6778 o 47).toInt) rfl hg
                          have a_6800 : ((I_6778 o 47) + 1).toInt = (I_6778 o 47).toInt + (1 : Int32).toInt := tAdd (by omega) (by omega)
                          replace hg := gt_let (y := (((I_6778 o 47) + 1) : Int32).toInt) (by omega) hg
                          refine fun I_6801 e_6802 => ?_
                          replace hg := gt_let (y := tI I_6801) (tI_q e_6802) hg
                          have hR_6803 : RI R I_6801 := hR_6780.up0 (k := 47) ra (by decide) (Or.inr hz57) e_6802 (show (0 : Int) ≤ ((I_6778 o 47) + 1).toInt by omega) (show ((I_6778 o 47) + 1).toInt ≤ (7 : Int) by omega)
                          have hf_6804 : Fm (fun c => c = o ∨ (o + 30 ≤ c ∧ c < o + 34)) I0 I_6801 := hf_6783.set (by first | rfl | omega | (dsimp only; omega)) e_6802
                          have t_6805 : (I_6801 o 3).toInt = (I_6778 o 3).toInt := by rw [← e_6802, q_u_k (by decide)]
                          have t_6806 : (I_6801 o 4).toInt = (I_6778 o 4).toInt := by rw [← e_6802, q_u_k (by decide)]
                          have t_6807 : (I_6801 o 6).toInt = (I_6778 o 6).toInt := by rw [← e_6802, q_u_k (by decide)]
                          have t_6808 : (I_6801 o 7).toInt = (I_6778 o 7).toInt := by rw [← e_6802, q_u_k (by decide)]
                          have t_6809 : (I_6801 o 8).toInt = (I_6778 o 8).toInt := by rw [← e_6802, q_u_k (by decide)]
                          have t_6810 : (I_6801 o 9).toInt = (I_6778 o 9).toInt := by rw [← e_6802, q_u_k (by decide)]
                          have t_6811 : (I_6801 o 44).toInt = (I_6778 o 44).toInt := by rw [← e_6802, q_u_k (by decide)]
                          have t_6812 : (I_6801 o 45).toInt = (I_6778 o 45).toInt := by rw [← e_6802, q_u_k (by decide)]
                          have t_6813 : (I_6801 o 47).toInt = ((I_6778 o 47) + 1).toInt := by rw [← e_6802, q_u_at]
                          have t_6814 : (I_6801 o 48).toInt = (I_6778 o 48).toInt := by rw [← e_6802, q_u_k (by decide)]
                          have t_6815 : (I_6801 o 46).toInt = (I_6778 o 46).toInt := by rw [← e_6802, q_u_k (by decide)]
                          have k_6816 : MTd I_6801 o := k_6795.fr (by rw [← e_6802]; exact q_u_ne (by omega)) (by rw [← e_6802]; exact q_u_ne (by omega)) (by rw [← e_6802]; exact q_u_ne (by omega))
                          have k_6817 : MPo I_6801 o := k_6796.fr (by rw [← e_6802, q_u_k (by decide)]) (by rw [← e_6802, q_u_k (by decide)])
                          have k_6818 : MTk I_6801 o := k_6797.fr (by rw [← e_6802, q_u_k (by decide)]) (by rw [← e_6802, q_u_k (by decide)]) (by rw [← e_6802, q_u_k (by decide)])
                          have tk := k_6818.2 (by omega)
                          have k_6820 : EX 0 0 1 f0 1 I_6801 o := by exact EX.put47 k_6798 e_6802 (by omega)
                          refine y_Model_nextg hok hw ra hz16 hz17 hz18 hz19 (by first | omega | (intro h; omega) | exact Or.inl rfl | exact Or.inr rfl) hR_6803 (fun I_6831 L_6832 hR_6833 fr_6834 kp_6835 u_6822 u_6823 u_6824 u_6825 u_6826 u_6827 u_6828 u_6829 gn_6830 => ⟨I_6831, L_6832, rfl, rfl, ?_⟩)
                          replace hg := gt_b3 gn_6830 hg
                          clear gn_6830
                          have hf_6836 : Fm (fun c => c = o ∨ (o + 30 ≤ c ∧ c < o + 34)) I0 I_6831 := hf_6804.call fr_6834 (fun c hc => by first | exact hc | (dsimp only at hc ⊢; omega) | omega)
                          have t_6837 : (I_6831 o 3).toInt = (I_6801 o 3).toInt := by rw [kp_6835 3 rfl]
                          have t_6838 : (I_6831 o 4).toInt = (I_6801 o 4).toInt := by rw [kp_6835 4 rfl]
                          have g_6839 : (0 : Int) ≤ (I_6831 o 6).toInt ∧ (I_6831 o 6).toInt ≤ 1600 := hR_6833.at0 ra 6 (by decide)
                          have g_6840 : (0 : Int) ≤ (I_6831 o 7).toInt ∧ (I_6831 o 7).toInt ≤ 1601 := hR_6833.at0 ra 7 (by decide)
                          have g_6841 : (0 : Int) ≤ (I_6831 o 8).toInt ∧ (I_6831 o 8).toInt ≤ 6 := hR_6833.at0 ra 8 (by decide)
                          have t_6842 : (I_6831 o 44).toInt = (I_6801 o 44).toInt := by rw [kp_6835 44 rfl]
                          have t_6843 : (I_6831 o 45).toInt = (I_6801 o 45).toInt := by rw [kp_6835 45 rfl]
                          have t_6844 : (I_6831 o 47).toInt = (I_6801 o 47).toInt := by rw [kp_6835 47 rfl]
                          have t_6845 : (I_6831 o 48).toInt = (I_6801 o 48).toInt := by rw [kp_6835 48 rfl]
                          have t_6846 : (I_6831 o 46).toInt = (I_6801 o 46).toInt := by rw [kp_6835 46 rfl]
                          have k_6847 : MTd I_6831 o := k_6816.fr (fr_6834 _ (by first | omega | (dsimp only; omega))) (fr_6834 _ (by first | omega | (dsimp only; omega))) (fr_6834 _ (by first | omega | (dsimp only; omega)))
                          have ms := u_6825 (by omega)
                          have k_6848 : EX 0 0 0 f0 1 I_6831 o := by exact EX.nx k_6820 (fr_6834 _ (by first | omega | (dsimp only; omega))) (fr_6834 _ (by first | omega | (dsimp only; omega))) (fr_6834 _ (by first | omega | (dsimp only; omega))) (fr_6834 _ (by first | omega | (dsimp only; omega))) (fr_6834 _ (by first | omega | (dsimp only; omega))) (kp_6835 3 rfl) (kp_6835 44 rfl) (kp_6835 45 rfl) (kp_6835 47 rfl) (kp_6835 48 rfl) (by omega) (by omega)
                          exact (hp _ _ _ hR_6833 hf_6836 (Or.inr rfl) (by first | omega | (intro h; omega) | exact Or.inl rfl | exact Or.inr rfl) (by first | omega | (intro h; omega) | exact Or.inl rfl | exact Or.inr rfl) (by first | omega | (intro h; omega) | exact Or.inl rfl | exact Or.inr rfl) (by first | omega | (intro h; omega) | exact Or.inl rfl | exact Or.inr rfl) (by first | omega | (intro h; omega) | exact Or.inl rfl | exact Or.inr rfl) (by clear hg; first | (intro h; exfalso; omega) | exact fun _ => k_6848 | exact fun _ => (False.elim (by omega))) k_6847 u_6828 u_6829 hg.symm)
                        · have d_6849 := iEq c_6770
                          have i_6850 := u_6767 (by omega)
                          replace hg := gt_pos (by first | exact d_6849 | omega) hg
                          exact (hp _ _ _ hR_6668 hf_6669 (Or.inr rfl) (by first | omega | (intro h; omega) | exact Or.inl rfl | exact Or.inr rfl) (by first | omega | (intro h; omega) | exact Or.inl rfl | exact Or.inr rfl) (by first | omega | (intro h; omega) | exact Or.inl rfl | exact Or.inr rfl) (by first | omega | (intro h; omega) | exact Or.inl rfl | exact Or.inr rfl) (by first | omega | (intro h; omega) | exact Or.inl rfl | exact Or.inr rfl) (by clear hg; first | (intro h; exfalso; omega) | exact fun _ => k_6681 | exact fun _ => (False.elim (by omega))) k_6682 k_6683 k_6684 hg.symm)
                      · have d_6851 := iEq c_6762
                        replace hg := gt_pos (by first | exact d_6851 | omega) hg
                        refine y_Model_wrongg hok hw ra hz14 hz15 hR_6668 (fun I_6856 L_6857 hR_6858 fr_6859 kp_6860 u_6853 u_6854 gn_6855 => ⟨I_6856, L_6857, rfl, rfl, ?_⟩)
                        replace hg := gt_b3 gn_6855 hg
                        clear gn_6855
                        have hf_6861 : Fm (fun c => c = o ∨ (o + 30 ≤ c ∧ c < o + 34)) I0 I_6856 := hf_6669.call fr_6859 (fun c hc => by first | exact hc | (dsimp only at hc ⊢; omega) | omega)
                        have t_6862 : (I_6856 o 3).toInt = (I_6666 o 3).toInt := by rw [kp_6860 3 rfl]
                        have g_6863 : (0 : Int) ≤ (I_6856 o 4).toInt ∧ (I_6856 o 4).toInt ≤ 5 := hR_6858.at0 ra 4 (by decide)
                        have t_6864 : (I_6856 o 6).toInt = (I_6666 o 6).toInt := by rw [kp_6860 6 rfl]
                        have t_6865 : (I_6856 o 7).toInt = (I_6666 o 7).toInt := by rw [kp_6860 7 rfl]
                        have t_6866 : (I_6856 o 8).toInt = (I_6666 o 8).toInt := by rw [kp_6860 8 rfl]
                        have t_6867 : (I_6856 o 9).toInt = (I_6666 o 9).toInt := by rw [kp_6860 9 rfl]
                        have t_6868 : (I_6856 o 44).toInt = (I_6666 o 44).toInt := by rw [kp_6860 44 rfl]
                        have t_6869 : (I_6856 o 45).toInt = (I_6666 o 45).toInt := by rw [kp_6860 45 rfl]
                        have t_6870 : (I_6856 o 47).toInt = (I_6666 o 47).toInt := by rw [kp_6860 47 rfl]
                        have t_6871 : (I_6856 o 48).toInt = (I_6666 o 48).toInt := by rw [kp_6860 48 rfl]
                        have t_6872 : (I_6856 o 46).toInt = (I_6666 o 46).toInt := by rw [kp_6860 46 rfl]
                        have k_6873 : EX 0 0 0 f0 1 I_6856 o := k_6681.fr (fr_6859 _ (by first | omega | (dsimp only; omega))) (fr_6859 _ (by first | omega | (dsimp only; omega))) (fr_6859 _ (by first | omega | (dsimp only; omega))) (fr_6859 _ (by first | omega | (dsimp only; omega))) (fr_6859 _ (by first | omega | (dsimp only; omega))) (kp_6860 3 rfl) (kp_6860 6 rfl) (kp_6860 44 rfl) (kp_6860 45 rfl) (kp_6860 47 rfl) (kp_6860 48 rfl)
                        have k_6874 : MTd I_6856 o := k_6682.fr (fr_6859 _ (by first | omega | (dsimp only; omega))) (fr_6859 _ (by first | omega | (dsimp only; omega))) (fr_6859 _ (by first | omega | (dsimp only; omega)))
                        have k_6875 : MPo I_6856 o := k_6683.fr (kp_6860 8 rfl) (kp_6860 9 rfl)
                        have k_6876 : MTk I_6856 o := k_6684.fr (kp_6860 6 rfl) (kp_6860 7 rfl) (kp_6860 8 rfl)
                        refine y_Model_isGoodg hok hw ra hR_6858 (fun r_6877 u_6878 u_6879 u_6880 gn_6881 => ⟨r_6877, I_6856, L_6857, rfl, rfl, ?_⟩)
                        replace hg := gt_let gn_6881 hg
                        clear gn_6881
                        have b_6882 : 0 ≤ r_6877.toInt ∧ r_6877.toInt ≤ 1 := u_6878.rg
                        refine ⟨fun c_6883 => ?_, fun c_6883 => ?_⟩
                        · have d_6884 := iNe c_6883
                          have i_6885 := u_6879 (by omega)
                          replace hg := gt_neg (by first | exact d_6884 | omega) hg
                          refine y_Model_pileg hok hw ra hz58 (by first | omega | (intro h; omega) | exact Or.inl rfl | exact Or.inr rfl) (by first | omega | (intro h; omega) | exact Or.inl rfl | exact Or.inr rfl) hR_6858 (fun I_6891 L_6892 hR_6893 fr_6894 kp_6895 u_6887 u_6888 u_6889 gn_6890 => ⟨I_6891, L_6892, rfl, rfl, ?_⟩)
                          replace hg := gt_b3 gn_6890 hg
                          clear gn_6890
                          have hf_6896 : Fm (fun c => c = o ∨ (o + 30 ≤ c ∧ c < o + 34)) I0 I_6891 := hf_6861.call fr_6894 (fun c hc => by first | exact hc | (dsimp only at hc ⊢; omega) | omega)
                          have t_6897 : (I_6891 o 3).toInt = (I_6856 o 3).toInt := by rw [kp_6895 3 rfl]
                          have t_6898 : (I_6891 o 4).toInt = (I_6856 o 4).toInt := by rw [kp_6895 4 rfl]
                          have t_6899 : (I_6891 o 6).toInt = (I_6856 o 6).toInt := by rw [kp_6895 6 rfl]
                          have t_6900 : (I_6891 o 7).toInt = (I_6856 o 7).toInt := by rw [kp_6895 7 rfl]
                          have t_6901 : (I_6891 o 8).toInt = (I_6856 o 8).toInt := by rw [kp_6895 8 rfl]
                          have t_6902 : (I_6891 o 9).toInt = (I_6856 o 9).toInt := by rw [kp_6895 9 rfl]
                          have t_6903 : (I_6891 o 44).toInt = (I_6856 o 44).toInt := by rw [kp_6895 44 rfl]
                          have t_6904 : (I_6891 o 45).toInt = (I_6856 o 45).toInt := by rw [kp_6895 45 rfl]
                          have t_6905 : (I_6891 o 47).toInt = (I_6856 o 47).toInt := by rw [kp_6895 47 rfl]
                          have g_6906 : (0 : Int) ≤ (I_6891 o 48).toInt ∧ (I_6891 o 48).toInt ≤ 80 := hR_6893.at0 ra 48 (by decide)
                          have t_6907 : (I_6891 o 46).toInt = (I_6856 o 46).toInt := by rw [kp_6895 46 rfl]
                          have k_6908 : MTd I_6891 o := k_6874.fr (fr_6894 _ (by first | omega | (dsimp only; omega))) (fr_6894 _ (by first | omega | (dsimp only; omega))) (fr_6894 _ (by first | omega | (dsimp only; omega)))
                          have k_6909 : MPo I_6891 o := k_6875.fr (kp_6895 8 rfl) (kp_6895 9 rfl)
                          have k_6910 : MTk I_6891 o := k_6876.fr (kp_6895 6 rfl) (kp_6895 7 rfl) (kp_6895 8 rfl)
                          have k_6911 : EX 0 1 1 f0 1 I_6891 o := by have z := EX.push k_6873 (v := 7) (s := 0) (dB := 1) (dO := 0) (wt' := 1) (by decide) (by decide) (by decide) (by omega) ⟨by decide, by decide⟩ ⟨fun h => absurd h (by decide), fun h => absurd h (by decide)⟩ (Or.inl rfl) (fr_6894 _ (by first | omega | (dsimp only; omega))) (fr_6894 _ (by first | omega | (dsimp only; omega))) (fr_6894 _ (by first | omega | (dsimp only; omega))) u_6887 u_6888 (kp_6895 3 rfl) (kp_6895 6 rfl) (kp_6895 44 rfl) (kp_6895 45 rfl) (kp_6895 47 rfl) u_6889; exact EX.chg (b' := 1) z rfl rfl rfl rfl rfl rfl rfl rfl rfl rfl (by omega) z.pl
                          have g_6912 : (0 : Int) ≤ (I_6891 o 47).toInt ∧ (I_6891 o 47).toInt ≤ 7 := hR_6893.at0 ra 47 (by decide)
                          replace hg := gt_let (y := (I_6891 o 47).toInt) rfl hg
                          have a_6913 : ((I_6891 o 47) + 1).toInt = (I_6891 o 47).toInt + (1 : Int32).toInt := tAdd (by omega) (by omega)
                          replace hg := gt_let (y := (((I_6891 o 47) + 1) : Int32).toInt) (by omega) hg
                          refine fun I_6914 e_6915 => ?_
                          replace hg := gt_let (y := tI I_6914) (tI_q e_6915) hg
                          have hR_6916 : RI R I_6914 := hR_6893.up0 (k := 47) ra (by decide) (Or.inr hz57) e_6915 (show (0 : Int) ≤ ((I_6891 o 47) + 1).toInt by omega) (show ((I_6891 o 47) + 1).toInt ≤ (7 : Int) by omega)
                          have hf_6917 : Fm (fun c => c = o ∨ (o + 30 ≤ c ∧ c < o + 34)) I0 I_6914 := hf_6896.set (by first | rfl | omega | (dsimp only; omega)) e_6915
                          have t_6918 : (I_6914 o 3).toInt = (I_6891 o 3).toInt := by rw [← e_6915, q_u_k (by decide)]
                          have t_6919 : (I_6914 o 4).toInt = (I_6891 o 4).toInt := by rw [← e_6915, q_u_k (by decide)]
                          have t_6920 : (I_6914 o 6).toInt = (I_6891 o 6).toInt := by rw [← e_6915, q_u_k (by decide)]
                          have t_6921 : (I_6914 o 7).toInt = (I_6891 o 7).toInt := by rw [← e_6915, q_u_k (by decide)]
                          have t_6922 : (I_6914 o 8).toInt = (I_6891 o 8).toInt := by rw [← e_6915, q_u_k (by decide)]
                          have t_6923 : (I_6914 o 9).toInt = (I_6891 o 9).toInt := by rw [← e_6915, q_u_k (by decide)]
                          have t_6924 : (I_6914 o 44).toInt = (I_6891 o 44).toInt := by rw [← e_6915, q_u_k (by decide)]
                          have t_6925 : (I_6914 o 45).toInt = (I_6891 o 45).toInt := by rw [← e_6915, q_u_k (by decide)]
                          have t_6926 : (I_6914 o 47).toInt = ((I_6891 o 47) + 1).toInt := by rw [← e_6915, q_u_at]
                          have t_6927 : (I_6914 o 48).toInt = (I_6891 o 48).toInt := by rw [← e_6915, q_u_k (by decide)]
                          have t_6928 : (I_6914 o 46).toInt = (I_6891 o 46).toInt := by rw [← e_6915, q_u_k (by decide)]
                          have k_6929 : MTd I_6914 o := k_6908.fr (by rw [← e_6915]; exact q_u_ne (by omega)) (by rw [← e_6915]; exact q_u_ne (by omega)) (by rw [← e_6915]; exact q_u_ne (by omega))
                          have k_6930 : MPo I_6914 o := k_6909.fr (by rw [← e_6915, q_u_k (by decide)]) (by rw [← e_6915, q_u_k (by decide)])
                          have k_6931 : MTk I_6914 o := k_6910.fr (by rw [← e_6915, q_u_k (by decide)]) (by rw [← e_6915, q_u_k (by decide)]) (by rw [← e_6915, q_u_k (by decide)])
                          have tk := k_6931.2 (by omega)
                          have k_6933 : EX 0 0 1 f0 1 I_6914 o := by exact EX.put47 k_6911 e_6915 (by omega)
                          refine y_Model_nextg hok hw ra hz16 hz17 hz18 hz19 (by first | omega | (intro h; omega) | exact Or.inl rfl | exact Or.inr rfl) hR_6916 (fun I_6944 L_6945 hR_6946 fr_6947 kp_6948 u_6935 u_6936 u_6937 u_6938 u_6939 u_6940 u_6941 u_6942 gn_6943 => ⟨I_6944, L_6945, rfl, rfl, ?_⟩)
                          replace hg := gt_b3 gn_6943 hg
                          clear gn_6943
                          have hf_6949 : Fm (fun c => c = o ∨ (o + 30 ≤ c ∧ c < o + 34)) I0 I_6944 := hf_6917.call fr_6947 (fun c hc => by first | exact hc | (dsimp only at hc ⊢; omega) | omega)
                          have t_6950 : (I_6944 o 3).toInt = (I_6914 o 3).toInt := by rw [kp_6948 3 rfl]
                          have t_6951 : (I_6944 o 4).toInt = (I_6914 o 4).toInt := by rw [kp_6948 4 rfl]
                          have g_6952 : (0 : Int) ≤ (I_6944 o 6).toInt ∧ (I_6944 o 6).toInt ≤ 1600 := hR_6946.at0 ra 6 (by decide)
                          have g_6953 : (0 : Int) ≤ (I_6944 o 7).toInt ∧ (I_6944 o 7).toInt ≤ 1601 := hR_6946.at0 ra 7 (by decide)
                          have g_6954 : (0 : Int) ≤ (I_6944 o 8).toInt ∧ (I_6944 o 8).toInt ≤ 6 := hR_6946.at0 ra 8 (by decide)
                          have t_6955 : (I_6944 o 44).toInt = (I_6914 o 44).toInt := by rw [kp_6948 44 rfl]
                          have t_6956 : (I_6944 o 45).toInt = (I_6914 o 45).toInt := by rw [kp_6948 45 rfl]
                          have t_6957 : (I_6944 o 47).toInt = (I_6914 o 47).toInt := by rw [kp_6948 47 rfl]
                          have t_6958 : (I_6944 o 48).toInt = (I_6914 o 48).toInt := by rw [kp_6948 48 rfl]
                          have t_6959 : (I_6944 o 46).toInt = (I_6914 o 46).toInt := by rw [kp_6948 46 rfl]
                          have k_6960 : MTd I_6944 o := k_6929.fr (fr_6947 _ (by first | omega | (dsimp only; omega))) (fr_6947 _ (by first | omega | (dsimp only; omega))) (fr_6947 _ (by first | omega | (dsimp only; omega)))
                          have ms := u_6938 (by omega)
                          have k_6961 : EX 0 0 0 f0 1 I_6944 o := by exact EX.nx k_6933 (fr_6947 _ (by first | omega | (dsimp only; omega))) (fr_6947 _ (by first | omega | (dsimp only; omega))) (fr_6947 _ (by first | omega | (dsimp only; omega))) (fr_6947 _ (by first | omega | (dsimp only; omega))) (fr_6947 _ (by first | omega | (dsimp only; omega))) (kp_6948 3 rfl) (kp_6948 44 rfl) (kp_6948 45 rfl) (kp_6948 47 rfl) (kp_6948 48 rfl) (by omega) (by omega)
                          exact (hp _ _ _ hR_6946 hf_6949 (Or.inr rfl) (by first | omega | (intro h; omega) | exact Or.inl rfl | exact Or.inr rfl) (by first | omega | (intro h; omega) | exact Or.inl rfl | exact Or.inr rfl) (by first | omega | (intro h; omega) | exact Or.inl rfl | exact Or.inr rfl) (by first | omega | (intro h; omega) | exact Or.inl rfl | exact Or.inr rfl) (by first | omega | (intro h; omega) | exact Or.inl rfl | exact Or.inr rfl) (by clear hg; first | (intro h; exfalso; omega) | exact fun _ => k_6961 | exact fun _ => (False.elim (by omega))) k_6960 u_6941 u_6942 hg.symm)
                        · have d_6962 := iEq c_6883
                          have i_6963 := u_6880 (by omega)
                          replace hg := gt_pos (by first | exact d_6962 | omega) hg
                          exact (hp _ _ _ hR_6858 hf_6861 (Or.inr rfl) (by first | omega | (intro h; omega) | exact Or.inl rfl | exact Or.inr rfl) (by first | omega | (intro h; omega) | exact Or.inl rfl | exact Or.inr rfl) (by first | omega | (intro h; omega) | exact Or.inl rfl | exact Or.inr rfl) (by first | omega | (intro h; omega) | exact Or.inl rfl | exact Or.inr rfl) (by first | omega | (intro h; omega) | exact Or.inl rfl | exact Or.inr rfl) (by clear hg; first | (intro h; exfalso; omega) | exact fun _ => k_6873 | exact fun _ => (False.elim (by omega))) k_6874 k_6875 k_6876 hg.symm)
                  · have d_6964 := iEq c_6661
                    have i_6965 := u_6658 (by omega)
                    replace hg := gt_pos (by first | exact d_6964 | omega) hg
                    exact (hp _ _ _ hR_6636 hf_6639 (Or.inr rfl) (by first | omega | (intro h; omega) | exact Or.inl rfl | exact Or.inr rfl) (by first | omega | (intro h; omega) | exact Or.inl rfl | exact Or.inr rfl) (by first | omega | (intro h; omega) | exact Or.inl rfl | exact Or.inr rfl) (by first | omega | (intro h; omega) | exact Or.inl rfl | exact Or.inr rfl) (by first | omega | (intro h; omega) | exact Or.inl rfl | exact Or.inr rfl) (by clear hg; first | (intro h; exfalso; omega) | exact fun _ => k_6651 | exact fun _ => (False.elim (by omega))) k_6652 k_6653 k_6654 hg.symm)
              · have d_6966 := iNe c_6312
                replace hg := gt_neg (by first | exact d_6966 | omega) hg
                have l_6967 : (40 : Int32).toInt = 40 := rfl
                refine y_Model_isg hok hw ra hR_5404 (fun r_6968 u_6969 u_6970 u_6971 gn_6972 => ⟨r_6968, I_5402, L_5403, rfl, rfl, ?_⟩)
                replace hg := gt_let gn_6972 hg
                clear gn_6972
                have b_6973 : 0 ≤ r_6968.toInt ∧ r_6968.toInt ≤ 1 := u_6969.rg
                refine ⟨fun c_6974 => ?_, fun c_6974 => ?_⟩
                · have d_6975 := iEq c_6974
                  replace hg := gt_pos (by first | exact d_6975 | omega) hg
                  unfold fModel_unit_140
                  replace hg := (eModel_unit_140).symm.trans hg
                  refine y_Model_wrongg hok hw ra hz14 hz15 hR_5404 (fun I_6980 L_6981 hR_6982 fr_6983 kp_6984 u_6977 u_6978 gn_6979 => ⟨I_6980, L_6981, rfl, rfl, ?_⟩)
                  replace hg := gt_b3 gn_6979 hg
                  clear gn_6979
                  have hf_6985 : Fm (fun c => c = o ∨ (o + 30 ≤ c ∧ c < o + 34)) I0 I_6980 := hf_5407.call fr_6983 (fun c hc => by first | exact hc | (dsimp only at hc ⊢; omega) | omega)
                  have t_6986 : (I_6980 o 3).toInt = (I_5402 o 3).toInt := by rw [kp_6984 3 rfl]
                  have g_6987 : (0 : Int) ≤ (I_6980 o 4).toInt ∧ (I_6980 o 4).toInt ≤ 5 := hR_6982.at0 ra 4 (by decide)
                  have t_6988 : (I_6980 o 6).toInt = (I_5402 o 6).toInt := by rw [kp_6984 6 rfl]
                  have t_6989 : (I_6980 o 7).toInt = (I_5402 o 7).toInt := by rw [kp_6984 7 rfl]
                  have t_6990 : (I_6980 o 8).toInt = (I_5402 o 8).toInt := by rw [kp_6984 8 rfl]
                  have t_6991 : (I_6980 o 9).toInt = (I_5402 o 9).toInt := by rw [kp_6984 9 rfl]
                  have t_6992 : (I_6980 o 44).toInt = (I_5402 o 44).toInt := by rw [kp_6984 44 rfl]
                  have t_6993 : (I_6980 o 45).toInt = (I_5402 o 45).toInt := by rw [kp_6984 45 rfl]
                  have t_6994 : (I_6980 o 47).toInt = (I_5402 o 47).toInt := by rw [kp_6984 47 rfl]
                  have t_6995 : (I_6980 o 48).toInt = (I_5402 o 48).toInt := by rw [kp_6984 48 rfl]
                  have k_6996 : EX 0 0 0 f0 1 I_6980 o := k_5418.fr (fr_6983 _ (by first | omega | (dsimp only; omega))) (fr_6983 _ (by first | omega | (dsimp only; omega))) (fr_6983 _ (by first | omega | (dsimp only; omega))) (fr_6983 _ (by first | omega | (dsimp only; omega))) (fr_6983 _ (by first | omega | (dsimp only; omega))) (kp_6984 3 rfl) (kp_6984 6 rfl) (kp_6984 44 rfl) (kp_6984 45 rfl) (kp_6984 47 rfl) (kp_6984 48 rfl)
                  have k_6997 : MTd I_6980 o := k_5419.fr (fr_6983 _ (by first | omega | (dsimp only; omega))) (fr_6983 _ (by first | omega | (dsimp only; omega))) (fr_6983 _ (by first | omega | (dsimp only; omega)))
                  have k_6998 : MPo I_6980 o := k_5420.fr (kp_6984 8 rfl) (kp_6984 9 rfl)
                  have k_6999 : MTk I_6980 o := k_5421.fr (kp_6984 6 rfl) (kp_6984 7 rfl) (kp_6984 8 rfl)
                  refine y_Model_isGoodg hok hw ra hR_6982 (fun r_7000 u_7001 u_7002 u_7003 gn_7004 => ⟨r_7000, I_6980, L_6981, rfl, rfl, ?_⟩)
                  replace hg := gt_let gn_7004 hg
                  clear gn_7004
                  have b_7005 : 0 ≤ r_7000.toInt ∧ r_7000.toInt ≤ 1 := u_7001.rg
                  refine ⟨fun c_7006 => ?_, fun c_7006 => ?_⟩
                  · have d_7007 := iNe c_7006
                    have i_7008 := u_7002 (by omega)
                    replace hg := gt_neg (by first | exact d_7007 | omega) hg
                    have g_7009 : (0 : Int) ≤ (I_6980 o 46).toInt ∧ (I_6980 o 46).toInt ≤ 100 := hR_6982.at0 ra 46 (by decide)
                    replace hg := gt_let (y := (I_6980 o 46).toInt) rfl hg
                    have a_7010 : ((I_6980 o 46) + 1).toInt = (I_6980 o 46).toInt + (1 : Int32).toInt := tAdd (by omega) (by omega)
                    replace hg := gt_let (y := (((I_6980 o 46) + 1) : Int32).toInt) (by omega) hg
                    refine fun I_7011 e_7012 => ?_
                    replace hg := gt_let (y := tI I_7011) (tI_q e_7012) hg
                    have hR_7013 : RI R I_7011 := hR_6982.up0 (k := 46) ra (by decide) (Or.inr hz56) e_7012 (show (0 : Int) ≤ ((I_6980 o 46) + 1).toInt by omega) (show ((I_6980 o 46) + 1).toInt ≤ (100 : Int) by omega)
                    have hf_7014 : Fm (fun c => c = o ∨ (o + 30 ≤ c ∧ c < o + 34)) I0 I_7011 := hf_6985.set (by first | rfl | omega | (dsimp only; omega)) e_7012
                    have t_7015 : (I_7011 o 3).toInt = (I_6980 o 3).toInt := by rw [← e_7012, q_u_k (by decide)]
                    have t_7016 : (I_7011 o 4).toInt = (I_6980 o 4).toInt := by rw [← e_7012, q_u_k (by decide)]
                    have t_7017 : (I_7011 o 6).toInt = (I_6980 o 6).toInt := by rw [← e_7012, q_u_k (by decide)]
                    have t_7018 : (I_7011 o 7).toInt = (I_6980 o 7).toInt := by rw [← e_7012, q_u_k (by decide)]
                    have t_7019 : (I_7011 o 8).toInt = (I_6980 o 8).toInt := by rw [← e_7012, q_u_k (by decide)]
                    have t_7020 : (I_7011 o 9).toInt = (I_6980 o 9).toInt := by rw [← e_7012, q_u_k (by decide)]
                    have t_7021 : (I_7011 o 44).toInt = (I_6980 o 44).toInt := by rw [← e_7012, q_u_k (by decide)]
                    have t_7022 : (I_7011 o 45).toInt = (I_6980 o 45).toInt := by rw [← e_7012, q_u_k (by decide)]
                    have t_7023 : (I_7011 o 47).toInt = (I_6980 o 47).toInt := by rw [← e_7012, q_u_k (by decide)]
                    have t_7024 : (I_7011 o 48).toInt = (I_6980 o 48).toInt := by rw [← e_7012, q_u_k (by decide)]
                    have t_7025 : (I_7011 o 46).toInt = ((I_6980 o 46) + 1).toInt := by rw [← e_7012, q_u_at]
                    have k_7026 : EX 0 0 0 f0 1 I_7011 o := k_6996.fr (by rw [← e_7012]; exact q_u_ne (by omega)) (by rw [← e_7012]; exact q_u_ne (by omega)) (by rw [← e_7012]; exact q_u_ne (by omega)) (by rw [← e_7012]; exact q_u_ne (by omega)) (by rw [← e_7012]; exact q_u_ne (by omega)) (by rw [← e_7012, q_u_k (by decide)]) (by rw [← e_7012, q_u_k (by decide)]) (by rw [← e_7012, q_u_k (by decide)]) (by rw [← e_7012, q_u_k (by decide)]) (by rw [← e_7012, q_u_k (by decide)]) (by rw [← e_7012, q_u_k (by decide)])
                    have k_7027 : MTd I_7011 o := k_6997.fr (by rw [← e_7012]; exact q_u_ne (by omega)) (by rw [← e_7012]; exact q_u_ne (by omega)) (by rw [← e_7012]; exact q_u_ne (by omega))
                    have k_7028 : MPo I_7011 o := k_6998.fr (by rw [← e_7012, q_u_k (by decide)]) (by rw [← e_7012, q_u_k (by decide)])
                    have k_7029 : MTk I_7011 o := k_6999.fr (by rw [← e_7012, q_u_k (by decide)]) (by rw [← e_7012, q_u_k (by decide)]) (by rw [← e_7012, q_u_k (by decide)])
                    refine y_Model_isg hok hw ra hR_7013 (fun r_7030 u_7031 u_7032 u_7033 gn_7034 => ⟨r_7030, I_7011, L_6981, rfl, rfl, ?_⟩)
                    replace hg := gt_let gn_7034 hg
                    clear gn_7034
                    have b_7035 : 0 ≤ r_7030.toInt ∧ r_7030.toInt ≤ 1 := u_7031.rg
                    refine ⟨fun c_7036 => ?_, fun c_7036 => ?_⟩
                    · have d_7037 := iEq c_7036
                      replace hg := gt_pos (by first | exact d_7037 | omega) hg
                      have cd := k_7026.cod
                      have tk := k_7029.2 (by omega)
                      refine ⟨fun c_7038 => ?_, fun c_7038 => ?_⟩
                      · have d_7039 := iNe c_7038
                        have i_7040 := u_5398 (by omega)
                        have i_7041 := u_5399 (by omega)
                        exfalso; omega
                      · have d_7042 := iEq c_7038
                        replace hg := gt_pos (by first | exact d_7042 | omega) hg
                        unfold fModel_unit_228
                        replace hg := (eModel_unit_228).symm.trans hg
                        have l_7043 : (78 : Int32).toInt = 78 := rfl
                        refine ⟨fun c_7044 => ?_, fun c_7044 => ?_⟩
                        · have d_7045 := iNe c_7044
                          have i_7046 := u_5398 (by omega)
                          have i_7047 := u_5399 (by omega)
                          exfalso; omega
                        · have d_7048 := iEq c_7044
                          replace hg := gt_pos (by first | exact d_7048 | omega) hg
                          replace hg := gt_let (y := (I_7011 o 9).toInt) rfl hg
                          refine y_Model_stepg hok hw ra hz55 (by first | omega | (intro h; omega) | exact Or.inl rfl | exact Or.inr rfl) (by first | omega | (intro h; omega) | exact Or.inl rfl | exact Or.inr rfl) hR_7013 (fun I_7053 L_7054 hR_7055 fr_7056 kp_7057 u_7050 u_7051 gn_7052 => ⟨I_7053, L_7054, rfl, rfl, ?_⟩)
                          replace hg := gt_b3 gn_7052 hg
                          clear gn_7052
                          have hf_7058 : Fm (fun c => c = o ∨ (o + 30 ≤ c ∧ c < o + 34)) I0 I_7053 := hf_7014.call fr_7056 (fun c hc => by first | exact hc | (dsimp only at hc ⊢; omega) | omega)
                          have t_7059 : (I_7053 o 3).toInt = (I_7011 o 3).toInt := by rw [kp_7057 3 rfl]
                          have t_7060 : (I_7053 o 4).toInt = (I_7011 o 4).toInt := by rw [kp_7057 4 rfl]
                          have t_7061 : (I_7053 o 6).toInt = (I_7011 o 6).toInt := by rw [kp_7057 6 rfl]
                          have t_7062 : (I_7053 o 7).toInt = (I_7011 o 7).toInt := by rw [kp_7057 7 rfl]
                          have t_7063 : (I_7053 o 8).toInt = (I_7011 o 8).toInt := by rw [kp_7057 8 rfl]
                          have t_7064 : (I_7053 o 9).toInt = (I_7011 o 9).toInt := by rw [kp_7057 9 rfl]
                          have t_7065 : (I_7053 o 44).toInt = (I_7011 o 44).toInt := by rw [kp_7057 44 rfl]
                          have g_7066 : (0 : Int) ≤ (I_7053 o 45).toInt ∧ (I_7053 o 45).toInt ≤ 700 := hR_7055.at0 ra 45 (by decide)
                          have t_7067 : (I_7053 o 47).toInt = (I_7011 o 47).toInt := by rw [kp_7057 47 rfl]
                          have t_7068 : (I_7053 o 48).toInt = (I_7011 o 48).toInt := by rw [kp_7057 48 rfl]
                          have t_7069 : (I_7053 o 46).toInt = (I_7011 o 46).toInt := by rw [kp_7057 46 rfl]
                          have k_7070 : MPo I_7053 o := k_7028.fr (kp_7057 8 rfl) (kp_7057 9 rfl)
                          have k_7071 : MTk I_7053 o := k_7029.fr (kp_7057 6 rfl) (kp_7057 7 rfl) (kp_7057 8 rfl)
                          have tk := k_7071.2 (by omega)
                          have k_7072 : EX 0 0 1 f0 0 I_7053 o := by exact EX.step1 k_7026 (by first | exact u_5398 (by omega) | (unfold isT; decide)) (by omega) (fr_7056 _ (by first | omega | (dsimp only; omega))) (fr_7056 _ (by first | omega | (dsimp only; omega))) u_7050 (fr_7056 _ (by first | omega | (dsimp only; omega))) (fr_7056 _ (by first | omega | (dsimp only; omega))) (kp_7057 3 rfl) (kp_7057 6 rfl) (kp_7057 44 rfl) u_7051 (kp_7057 47 rfl) (kp_7057 48 rfl)
                          have k_7073 : MTd I_7053 o := by exact MTd.step k_7027 (fr_7056 _ (by first | omega | (dsimp only; omega))) (fr_7056 _ (by first | omega | (dsimp only; omega))) u_7050 (by omega)
                          refine y_Model_nextg hok hw ra hz16 hz17 hz18 hz19 (by first | omega | (intro h; omega) | exact Or.inl rfl | exact Or.inr rfl) hR_7055 (fun I_7084 L_7085 hR_7086 fr_7087 kp_7088 u_7075 u_7076 u_7077 u_7078 u_7079 u_7080 u_7081 u_7082 gn_7083 => ⟨I_7084, L_7085, rfl, rfl, ?_⟩)
                          replace hg := gt_b3 gn_7083 hg
                          clear gn_7083
                          have hf_7089 : Fm (fun c => c = o ∨ (o + 30 ≤ c ∧ c < o + 34)) I0 I_7084 := hf_7058.call fr_7087 (fun c hc => by first | exact hc | (dsimp only at hc ⊢; omega) | omega)
                          have t_7090 : (I_7084 o 3).toInt = (I_7053 o 3).toInt := by rw [kp_7088 3 rfl]
                          have t_7091 : (I_7084 o 4).toInt = (I_7053 o 4).toInt := by rw [kp_7088 4 rfl]
                          have g_7092 : (0 : Int) ≤ (I_7084 o 6).toInt ∧ (I_7084 o 6).toInt ≤ 1600 := hR_7086.at0 ra 6 (by decide)
                          have g_7093 : (0 : Int) ≤ (I_7084 o 7).toInt ∧ (I_7084 o 7).toInt ≤ 1601 := hR_7086.at0 ra 7 (by decide)
                          have g_7094 : (0 : Int) ≤ (I_7084 o 8).toInt ∧ (I_7084 o 8).toInt ≤ 6 := hR_7086.at0 ra 8 (by decide)
                          have t_7095 : (I_7084 o 44).toInt = (I_7053 o 44).toInt := by rw [kp_7088 44 rfl]
                          have t_7096 : (I_7084 o 45).toInt = (I_7053 o 45).toInt := by rw [kp_7088 45 rfl]
                          have t_7097 : (I_7084 o 47).toInt = (I_7053 o 47).toInt := by rw [kp_7088 47 rfl]
                          have t_7098 : (I_7084 o 48).toInt = (I_7053 o 48).toInt := by rw [kp_7088 48 rfl]
                          have t_7099 : (I_7084 o 46).toInt = (I_7053 o 46).toInt := by rw [kp_7088 46 rfl]
                          have k_7100 : MTd I_7084 o := k_7073.fr (fr_7087 _ (by first | omega | (dsimp only; omega))) (fr_7087 _ (by first | omega | (dsimp only; omega))) (fr_7087 _ (by first | omega | (dsimp only; omega)))
                          have ms := u_7078 (by omega)
                          have k_7101 : EX 0 0 0 f0 0 I_7084 o := by exact EX.nx k_7072 (fr_7087 _ (by first | omega | (dsimp only; omega))) (fr_7087 _ (by first | omega | (dsimp only; omega))) (fr_7087 _ (by first | omega | (dsimp only; omega))) (fr_7087 _ (by first | omega | (dsimp only; omega))) (fr_7087 _ (by first | omega | (dsimp only; omega))) (kp_7088 3 rfl) (kp_7088 44 rfl) (kp_7088 45 rfl) (kp_7088 47 rfl) (kp_7088 48 rfl) (by omega) (by omega)
                          exact (hp _ _ _ hR_7086 hf_7089 (Or.inl rfl) (by first | omega | (intro h; omega) | exact Or.inl rfl | exact Or.inr rfl) (by first | omega | (intro h; omega) | exact Or.inl rfl | exact Or.inr rfl) (by first | omega | (intro h; omega) | exact Or.inl rfl | exact Or.inr rfl) (by first | omega | (intro h; omega) | exact Or.inl rfl | exact Or.inr rfl) (by first | omega | (intro h; omega) | exact Or.inl rfl | exact Or.inr rfl) (by clear hg; first | (intro h; exfalso; omega) | exact fun _ => (False.elim (by omega)) | exact fun _ => k_7101) k_7100 u_7081 u_7082 hg.symm)
                    · have d_7102 := iNe c_7036
                      have i_7103 := u_7032 (by omega)
                      have i_7104 := u_7033 (by omega)
                      replace hg := gt_neg (by first | exact d_7102 | omega) hg
                      have g_7105 : (0 : Int) ≤ (I_7011 o 47).toInt ∧ (I_7011 o 47).toInt ≤ 7 := hR_7013.at0 ra 47 (by decide)
                      replace hg := gt_let (y := (I_7011 o 47).toInt) rfl hg
                      refine ⟨fun c_7106 => ?_, fun c_7106 => ?_⟩
                      · have d_7107 := iNe c_7106
                        replace hg := gt_neg (by first | exact d_7107 | omega) hg
                        refine y_Model_isGoodg hok hw ra hR_7013 (fun r_7108 u_7109 u_7110 u_7111 gn_7112 => ⟨r_7108, I_7011, L_6981, rfl, rfl, ?_⟩)
                        replace hg := gt_let gn_7112 hg
                        clear gn_7112
                        have b_7113 : 0 ≤ r_7108.toInt ∧ r_7108.toInt ≤ 1 := u_7109.rg
                        refine ⟨fun c_7114 => ?_, fun c_7114 => ?_⟩
                        · have d_7115 := iNe c_7114
                          have i_7116 := u_7110 (by omega)
                          replace hg := gt_neg (by first | exact d_7115 | omega) hg
                          refine y_Model_pileg hok hw ra hz58 (by first | omega | (intro h; omega) | exact Or.inl rfl | exact Or.inr rfl) (by first | omega | (intro h; omega) | exact Or.inl rfl | exact Or.inr rfl) hR_7013 (fun I_7122 L_7123 hR_7124 fr_7125 kp_7126 u_7118 u_7119 u_7120 gn_7121 => ⟨I_7122, L_7123, rfl, rfl, ?_⟩)
                          replace hg := gt_b3 gn_7121 hg
                          clear gn_7121
                          have hf_7127 : Fm (fun c => c = o ∨ (o + 30 ≤ c ∧ c < o + 34)) I0 I_7122 := hf_7014.call fr_7125 (fun c hc => by first | exact hc | (dsimp only at hc ⊢; omega) | omega)
                          have t_7128 : (I_7122 o 3).toInt = (I_7011 o 3).toInt := by rw [kp_7126 3 rfl]
                          have t_7129 : (I_7122 o 4).toInt = (I_7011 o 4).toInt := by rw [kp_7126 4 rfl]
                          have t_7130 : (I_7122 o 6).toInt = (I_7011 o 6).toInt := by rw [kp_7126 6 rfl]
                          have t_7131 : (I_7122 o 7).toInt = (I_7011 o 7).toInt := by rw [kp_7126 7 rfl]
                          have t_7132 : (I_7122 o 8).toInt = (I_7011 o 8).toInt := by rw [kp_7126 8 rfl]
                          have t_7133 : (I_7122 o 9).toInt = (I_7011 o 9).toInt := by rw [kp_7126 9 rfl]
                          have t_7134 : (I_7122 o 44).toInt = (I_7011 o 44).toInt := by rw [kp_7126 44 rfl]
                          have t_7135 : (I_7122 o 45).toInt = (I_7011 o 45).toInt := by rw [kp_7126 45 rfl]
                          have t_7136 : (I_7122 o 47).toInt = (I_7011 o 47).toInt := by rw [kp_7126 47 rfl]
                          have g_7137 : (0 : Int) ≤ (I_7122 o 48).toInt ∧ (I_7122 o 48).toInt ≤ 80 := hR_7124.at0 ra 48 (by decide)
                          have t_7138 : (I_7122 o 46).toInt = (I_7011 o 46).toInt := by rw [kp_7126 46 rfl]
                          have k_7139 : MTd I_7122 o := k_7027.fr (fr_7125 _ (by first | omega | (dsimp only; omega))) (fr_7125 _ (by first | omega | (dsimp only; omega))) (fr_7125 _ (by first | omega | (dsimp only; omega)))
                          have k_7140 : MPo I_7122 o := k_7028.fr (kp_7126 8 rfl) (kp_7126 9 rfl)
                          have k_7141 : MTk I_7122 o := k_7029.fr (kp_7126 6 rfl) (kp_7126 7 rfl) (kp_7126 8 rfl)
                          have k_7142 : EX 0 1 1 f0 1 I_7122 o := by have z := EX.push k_7026 (v := 7) (s := 0) (dB := 1) (dO := 0) (wt' := 1) (by decide) (by decide) (by decide) (by omega) ⟨by decide, by decide⟩ ⟨fun h => absurd h (by decide), fun h => absurd h (by decide)⟩ (Or.inl rfl) (fr_7125 _ (by first | omega | (dsimp only; omega))) (fr_7125 _ (by first | omega | (dsimp only; omega))) (fr_7125 _ (by first | omega | (dsimp only; omega))) u_7118 u_7119 (kp_7126 3 rfl) (kp_7126 6 rfl) (kp_7126 44 rfl) (kp_7126 45 rfl) (kp_7126 47 rfl) u_7120; exact EX.chg (b' := 1) z rfl rfl rfl rfl rfl rfl rfl rfl rfl rfl (by omega) z.pl
                          have g_7143 : (0 : Int) ≤ (I_7122 o 47).toInt ∧ (I_7122 o 47).toInt ≤ 7 := hR_7124.at0 ra 47 (by decide)
                          replace hg := gt_let (y := (I_7122 o 47).toInt) rfl hg
                          have a_7144 : ((I_7122 o 47) + 1).toInt = (I_7122 o 47).toInt + (1 : Int32).toInt := tAdd (by omega) (by omega)
                          replace hg := gt_let (y := (((I_7122 o 47) + 1) : Int32).toInt) (by omega) hg
                          refine fun I_7145 e_7146 => ?_
                          replace hg := gt_let (y := tI I_7145) (tI_q e_7146) hg
                          have hR_7147 : RI R I_7145 := hR_7124.up0 (k := 47) ra (by decide) (Or.inr hz57) e_7146 (show (0 : Int) ≤ ((I_7122 o 47) + 1).toInt by omega) (show ((I_7122 o 47) + 1).toInt ≤ (7 : Int) by omega)
                          have hf_7148 : Fm (fun c => c = o ∨ (o + 30 ≤ c ∧ c < o + 34)) I0 I_7145 := hf_7127.set (by first | rfl | omega | (dsimp only; omega)) e_7146
                          have t_7149 : (I_7145 o 3).toInt = (I_7122 o 3).toInt := by rw [← e_7146, q_u_k (by decide)]
                          have t_7150 : (I_7145 o 4).toInt = (I_7122 o 4).toInt := by rw [← e_7146, q_u_k (by decide)]
                          have t_7151 : (I_7145 o 6).toInt = (I_7122 o 6).toInt := by rw [← e_7146, q_u_k (by decide)]
                          have t_7152 : (I_7145 o 7).toInt = (I_7122 o 7).toInt := by rw [← e_7146, q_u_k (by decide)]
                          have t_7153 : (I_7145 o 8).toInt = (I_7122 o 8).toInt := by rw [← e_7146, q_u_k (by decide)]
                          have t_7154 : (I_7145 o 9).toInt = (I_7122 o 9).toInt := by rw [← e_7146, q_u_k (by decide)]
                          have t_7155 : (I_7145 o 44).toInt = (I_7122 o 44).toInt := by rw [← e_7146, q_u_k (by decide)]
                          have t_7156 : (I_7145 o 45).toInt = (I_7122 o 45).toInt := by rw [← e_7146, q_u_k (by decide)]
                          have t_7157 : (I_7145 o 47).toInt = ((I_7122 o 47) + 1).toInt := by rw [← e_7146, q_u_at]
                          have t_7158 : (I_7145 o 48).toInt = (I_7122 o 48).toInt := by rw [← e_7146, q_u_k (by decide)]
                          have t_7159 : (I_7145 o 46).toInt = (I_7122 o 46).toInt := by rw [← e_7146, q_u_k (by decide)]
                          have k_7160 : MTd I_7145 o := k_7139.fr (by rw [← e_7146]; exact q_u_ne (by omega)) (by rw [← e_7146]; exact q_u_ne (by omega)) (by rw [← e_7146]; exact q_u_ne (by omega))
                          have k_7161 : MPo I_7145 o := k_7140.fr (by rw [← e_7146, q_u_k (by decide)]) (by rw [← e_7146, q_u_k (by decide)])
                          have k_7162 : MTk I_7145 o := k_7141.fr (by rw [← e_7146, q_u_k (by decide)]) (by rw [← e_7146, q_u_k (by decide)]) (by rw [← e_7146, q_u_k (by decide)])
                          have tk := k_7162.2 (by omega)
                          have k_7164 : EX 0 0 1 f0 1 I_7145 o := by exact EX.put47 k_7142 e_7146 (by omega)
                          refine y_Model_nextg hok hw ra hz16 hz17 hz18 hz19 (by first | omega | (intro h; omega) | exact Or.inl rfl | exact Or.inr rfl) hR_7147 (fun I_7175 L_7176 hR_7177 fr_7178 kp_7179 u_7166 u_7167 u_7168 u_7169 u_7170 u_7171 u_7172 u_7173 gn_7174 => ⟨I_7175, L_7176, rfl, rfl, ?_⟩)
                          replace hg := gt_b3 gn_7174 hg
                          clear gn_7174
                          have hf_7180 : Fm (fun c => c = o ∨ (o + 30 ≤ c ∧ c < o + 34)) I0 I_7175 := hf_7148.call fr_7178 (fun c hc => by first | exact hc | (dsimp only at hc ⊢; omega) | omega)
                          have t_7181 : (I_7175 o 3).toInt = (I_7145 o 3).toInt := by rw [kp_7179 3 rfl]
                          have t_7182 : (I_7175 o 4).toInt = (I_7145 o 4).toInt := by rw [kp_7179 4 rfl]
                          have g_7183 : (0 : Int) ≤ (I_7175 o 6).toInt ∧ (I_7175 o 6).toInt ≤ 1600 := hR_7177.at0 ra 6 (by decide)
                          have g_7184 : (0 : Int) ≤ (I_7175 o 7).toInt ∧ (I_7175 o 7).toInt ≤ 1601 := hR_7177.at0 ra 7 (by decide)
                          have g_7185 : (0 : Int) ≤ (I_7175 o 8).toInt ∧ (I_7175 o 8).toInt ≤ 6 := hR_7177.at0 ra 8 (by decide)
                          have t_7186 : (I_7175 o 44).toInt = (I_7145 o 44).toInt := by rw [kp_7179 44 rfl]
                          have t_7187 : (I_7175 o 45).toInt = (I_7145 o 45).toInt := by rw [kp_7179 45 rfl]
                          have t_7188 : (I_7175 o 47).toInt = (I_7145 o 47).toInt := by rw [kp_7179 47 rfl]
                          have t_7189 : (I_7175 o 48).toInt = (I_7145 o 48).toInt := by rw [kp_7179 48 rfl]
                          have t_7190 : (I_7175 o 46).toInt = (I_7145 o 46).toInt := by rw [kp_7179 46 rfl]
                          have k_7191 : MTd I_7175 o := k_7160.fr (fr_7178 _ (by first | omega | (dsimp only; omega))) (fr_7178 _ (by first | omega | (dsimp only; omega))) (fr_7178 _ (by first | omega | (dsimp only; omega)))
                          have ms := u_7169 (by omega)
                          have k_7192 : EX 0 0 0 f0 1 I_7175 o := by exact EX.nx k_7164 (fr_7178 _ (by first | omega | (dsimp only; omega))) (fr_7178 _ (by first | omega | (dsimp only; omega))) (fr_7178 _ (by first | omega | (dsimp only; omega))) (fr_7178 _ (by first | omega | (dsimp only; omega))) (fr_7178 _ (by first | omega | (dsimp only; omega))) (kp_7179 3 rfl) (kp_7179 44 rfl) (kp_7179 45 rfl) (kp_7179 47 rfl) (kp_7179 48 rfl) (by omega) (by omega)
                          exact (hp _ _ _ hR_7177 hf_7180 (Or.inr rfl) (by first | omega | (intro h; omega) | exact Or.inl rfl | exact Or.inr rfl) (by first | omega | (intro h; omega) | exact Or.inl rfl | exact Or.inr rfl) (by first | omega | (intro h; omega) | exact Or.inl rfl | exact Or.inr rfl) (by first | omega | (intro h; omega) | exact Or.inl rfl | exact Or.inr rfl) (by first | omega | (intro h; omega) | exact Or.inl rfl | exact Or.inr rfl) (by clear hg; first | (intro h; exfalso; omega) | exact fun _ => k_7192 | exact fun _ => (False.elim (by omega))) k_7191 u_7172 u_7173 hg.symm)
                        · have d_7193 := iEq c_7114
                          have i_7194 := u_7111 (by omega)
                          replace hg := gt_pos (by first | exact d_7193 | omega) hg
                          exact (hp _ _ _ hR_7013 hf_7014 (Or.inr rfl) (by first | omega | (intro h; omega) | exact Or.inl rfl | exact Or.inr rfl) (by first | omega | (intro h; omega) | exact Or.inl rfl | exact Or.inr rfl) (by first | omega | (intro h; omega) | exact Or.inl rfl | exact Or.inr rfl) (by first | omega | (intro h; omega) | exact Or.inl rfl | exact Or.inr rfl) (by first | omega | (intro h; omega) | exact Or.inl rfl | exact Or.inr rfl) (by clear hg; first | (intro h; exfalso; omega) | exact fun _ => k_7026 | exact fun _ => (False.elim (by omega))) k_7027 k_7028 k_7029 hg.symm)
                      · have d_7195 := iEq c_7106
                        replace hg := gt_pos (by first | exact d_7195 | omega) hg
                        refine y_Model_wrongg hok hw ra hz14 hz15 hR_7013 (fun I_7200 L_7201 hR_7202 fr_7203 kp_7204 u_7197 u_7198 gn_7199 => ⟨I_7200, L_7201, rfl, rfl, ?_⟩)
                        replace hg := gt_b3 gn_7199 hg
                        clear gn_7199
                        have hf_7205 : Fm (fun c => c = o ∨ (o + 30 ≤ c ∧ c < o + 34)) I0 I_7200 := hf_7014.call fr_7203 (fun c hc => by first | exact hc | (dsimp only at hc ⊢; omega) | omega)
                        have t_7206 : (I_7200 o 3).toInt = (I_7011 o 3).toInt := by rw [kp_7204 3 rfl]
                        have g_7207 : (0 : Int) ≤ (I_7200 o 4).toInt ∧ (I_7200 o 4).toInt ≤ 5 := hR_7202.at0 ra 4 (by decide)
                        have t_7208 : (I_7200 o 6).toInt = (I_7011 o 6).toInt := by rw [kp_7204 6 rfl]
                        have t_7209 : (I_7200 o 7).toInt = (I_7011 o 7).toInt := by rw [kp_7204 7 rfl]
                        have t_7210 : (I_7200 o 8).toInt = (I_7011 o 8).toInt := by rw [kp_7204 8 rfl]
                        have t_7211 : (I_7200 o 9).toInt = (I_7011 o 9).toInt := by rw [kp_7204 9 rfl]
                        have t_7212 : (I_7200 o 44).toInt = (I_7011 o 44).toInt := by rw [kp_7204 44 rfl]
                        have t_7213 : (I_7200 o 45).toInt = (I_7011 o 45).toInt := by rw [kp_7204 45 rfl]
                        have t_7214 : (I_7200 o 47).toInt = (I_7011 o 47).toInt := by rw [kp_7204 47 rfl]
                        have t_7215 : (I_7200 o 48).toInt = (I_7011 o 48).toInt := by rw [kp_7204 48 rfl]
                        have t_7216 : (I_7200 o 46).toInt = (I_7011 o 46).toInt := by rw [kp_7204 46 rfl]
                        have k_7217 : EX 0 0 0 f0 1 I_7200 o := k_7026.fr (fr_7203 _ (by first | omega | (dsimp only; omega))) (fr_7203 _ (by first | omega | (dsimp only; omega))) (fr_7203 _ (by first | omega | (dsimp only; omega))) (fr_7203 _ (by first | omega | (dsimp only; omega))) (fr_7203 _ (by first | omega | (dsimp only; omega))) (kp_7204 3 rfl) (kp_7204 6 rfl) (kp_7204 44 rfl) (kp_7204 45 rfl) (kp_7204 47 rfl) (kp_7204 48 rfl)
                        have k_7218 : MTd I_7200 o := k_7027.fr (fr_7203 _ (by first | omega | (dsimp only; omega))) (fr_7203 _ (by first | omega | (dsimp only; omega))) (fr_7203 _ (by first | omega | (dsimp only; omega)))
                        have k_7219 : MPo I_7200 o := k_7028.fr (kp_7204 8 rfl) (kp_7204 9 rfl)
                        have k_7220 : MTk I_7200 o := k_7029.fr (kp_7204 6 rfl) (kp_7204 7 rfl) (kp_7204 8 rfl)
                        refine y_Model_isGoodg hok hw ra hR_7202 (fun r_7221 u_7222 u_7223 u_7224 gn_7225 => ⟨r_7221, I_7200, L_7201, rfl, rfl, ?_⟩)
                        replace hg := gt_let gn_7225 hg
                        clear gn_7225
                        have b_7226 : 0 ≤ r_7221.toInt ∧ r_7221.toInt ≤ 1 := u_7222.rg
                        refine ⟨fun c_7227 => ?_, fun c_7227 => ?_⟩
                        · have d_7228 := iNe c_7227
                          have i_7229 := u_7223 (by omega)
                          replace hg := gt_neg (by first | exact d_7228 | omega) hg
                          refine y_Model_pileg hok hw ra hz58 (by first | omega | (intro h; omega) | exact Or.inl rfl | exact Or.inr rfl) (by first | omega | (intro h; omega) | exact Or.inl rfl | exact Or.inr rfl) hR_7202 (fun I_7235 L_7236 hR_7237 fr_7238 kp_7239 u_7231 u_7232 u_7233 gn_7234 => ⟨I_7235, L_7236, rfl, rfl, ?_⟩)
                          replace hg := gt_b3 gn_7234 hg
                          clear gn_7234
                          have hf_7240 : Fm (fun c => c = o ∨ (o + 30 ≤ c ∧ c < o + 34)) I0 I_7235 := hf_7205.call fr_7238 (fun c hc => by first | exact hc | (dsimp only at hc ⊢; omega) | omega)
                          have t_7241 : (I_7235 o 3).toInt = (I_7200 o 3).toInt := by rw [kp_7239 3 rfl]
                          have t_7242 : (I_7235 o 4).toInt = (I_7200 o 4).toInt := by rw [kp_7239 4 rfl]
                          have t_7243 : (I_7235 o 6).toInt = (I_7200 o 6).toInt := by rw [kp_7239 6 rfl]
                          have t_7244 : (I_7235 o 7).toInt = (I_7200 o 7).toInt := by rw [kp_7239 7 rfl]
                          have t_7245 : (I_7235 o 8).toInt = (I_7200 o 8).toInt := by rw [kp_7239 8 rfl]
                          have t_7246 : (I_7235 o 9).toInt = (I_7200 o 9).toInt := by rw [kp_7239 9 rfl]
                          have t_7247 : (I_7235 o 44).toInt = (I_7200 o 44).toInt := by rw [kp_7239 44 rfl]
                          have t_7248 : (I_7235 o 45).toInt = (I_7200 o 45).toInt := by rw [kp_7239 45 rfl]
                          have t_7249 : (I_7235 o 47).toInt = (I_7200 o 47).toInt := by rw [kp_7239 47 rfl]
                          have g_7250 : (0 : Int) ≤ (I_7235 o 48).toInt ∧ (I_7235 o 48).toInt ≤ 80 := hR_7237.at0 ra 48 (by decide)
                          have t_7251 : (I_7235 o 46).toInt = (I_7200 o 46).toInt := by rw [kp_7239 46 rfl]
                          have k_7252 : MTd I_7235 o := k_7218.fr (fr_7238 _ (by first | omega | (dsimp only; omega))) (fr_7238 _ (by first | omega | (dsimp only; omega))) (fr_7238 _ (by first | omega | (dsimp only; omega)))
                          have k_7253 : MPo I_7235 o := k_7219.fr (kp_7239 8 rfl) (kp_7239 9 rfl)
                          have k_7254 : MTk I_7235 o := k_7220.fr (kp_7239 6 rfl) (kp_7239 7 rfl) (kp_7239 8 rfl)
                          have k_7255 : EX 0 1 1 f0 1 I_7235 o := by have z := EX.push k_7217 (v := 7) (s := 0) (dB := 1) (dO := 0) (wt' := 1) (by decide) (by decide) (by decide) (by omega) ⟨by decide, by decide⟩ ⟨fun h => absurd h (by decide), fun h => absurd h (by decide)⟩ (Or.inl rfl) (fr_7238 _ (by first | omega | (dsimp only; omega))) (fr_7238 _ (by first | omega | (dsimp only; omega))) (fr_7238 _ (by first | omega | (dsimp only; omega))) u_7231 u_7232 (kp_7239 3 rfl) (kp_7239 6 rfl) (kp_7239 44 rfl) (kp_7239 45 rfl) (kp_7239 47 rfl) u_7233; exact EX.chg (b' := 1) z rfl rfl rfl rfl rfl rfl rfl rfl rfl rfl (by omega) z.pl
                          have g_7256 : (0 : Int) ≤ (I_7235 o 47).toInt ∧ (I_7235 o 47).toInt ≤ 7 := hR_7237.at0 ra 47 (by decide)
                          replace hg := gt_let (y := (I_7235 o 47).toInt) rfl hg
                          have a_7257 : ((I_7235 o 47) + 1).toInt = (I_7235 o 47).toInt + (1 : Int32).toInt := tAdd (by omega) (by omega)
                          replace hg := gt_let (y := (((I_7235 o 47) + 1) : Int32).toInt) (by omega) hg
                          refine fun I_7258 e_7259 => ?_
                          replace hg := gt_let (y := tI I_7258) (tI_q e_7259) hg
                          have hR_7260 : RI R I_7258 := hR_7237.up0 (k := 47) ra (by decide) (Or.inr hz57) e_7259 (show (0 : Int) ≤ ((I_7235 o 47) + 1).toInt by omega) (show ((I_7235 o 47) + 1).toInt ≤ (7 : Int) by omega)
                          have hf_7261 : Fm (fun c => c = o ∨ (o + 30 ≤ c ∧ c < o + 34)) I0 I_7258 := hf_7240.set (by first | rfl | omega | (dsimp only; omega)) e_7259
                          have t_7262 : (I_7258 o 3).toInt = (I_7235 o 3).toInt := by rw [← e_7259, q_u_k (by decide)]
                          have t_7263 : (I_7258 o 4).toInt = (I_7235 o 4).toInt := by rw [← e_7259, q_u_k (by decide)]
                          have t_7264 : (I_7258 o 6).toInt = (I_7235 o 6).toInt := by rw [← e_7259, q_u_k (by decide)]
                          have t_7265 : (I_7258 o 7).toInt = (I_7235 o 7).toInt := by rw [← e_7259, q_u_k (by decide)]
                          have t_7266 : (I_7258 o 8).toInt = (I_7235 o 8).toInt := by rw [← e_7259, q_u_k (by decide)]
                          have t_7267 : (I_7258 o 9).toInt = (I_7235 o 9).toInt := by rw [← e_7259, q_u_k (by decide)]
                          have t_7268 : (I_7258 o 44).toInt = (I_7235 o 44).toInt := by rw [← e_7259, q_u_k (by decide)]
                          have t_7269 : (I_7258 o 45).toInt = (I_7235 o 45).toInt := by rw [← e_7259, q_u_k (by decide)]
                          have t_7270 : (I_7258 o 47).toInt = ((I_7235 o 47) + 1).toInt := by rw [← e_7259, q_u_at]
                          have t_7271 : (I_7258 o 48).toInt = (I_7235 o 48).toInt := by rw [← e_7259, q_u_k (by decide)]
                          have t_7272 : (I_7258 o 46).toInt = (I_7235 o 46).toInt := by rw [← e_7259, q_u_k (by decide)]
                          have k_7273 : MTd I_7258 o := k_7252.fr (by rw [← e_7259]; exact q_u_ne (by omega)) (by rw [← e_7259]; exact q_u_ne (by omega)) (by rw [← e_7259]; exact q_u_ne (by omega))
                          have k_7274 : MPo I_7258 o := k_7253.fr (by rw [← e_7259, q_u_k (by decide)]) (by rw [← e_7259, q_u_k (by decide)])
                          have k_7275 : MTk I_7258 o := k_7254.fr (by rw [← e_7259, q_u_k (by decide)]) (by rw [← e_7259, q_u_k (by decide)]) (by rw [← e_7259, q_u_k (by decide)])
                          have tk := k_7275.2 (by omega)
                          have k_7277 : EX 0 0 1 f0 1 I_7258 o := by exact EX.put47 k_7255 e_7259 (by omega)
                          refine y_Model_nextg hok hw ra hz16 hz17 hz18 hz19 (by first | omega | (intro h; omega) | exact Or.inl rfl | exact Or.inr rfl) hR_7260 (fun I_7288 L_7289 hR_7290 fr_7291 kp_7292 u_7279 u_7280 u_7281 u_7282 u_7283 u_7284 u_7285 u_7286 gn_7287 => ⟨I_7288, L_7289, rfl, rfl, ?_⟩)
                          replace hg := gt_b3 gn_7287 hg
                          clear gn_7287
                          have hf_7293 : Fm (fun c => c = o ∨ (o + 30 ≤ c ∧ c < o + 34)) I0 I_7288 := hf_7261.call fr_7291 (fun c hc => by first | exact hc | (dsimp only at hc ⊢; omega) | omega)
                          have t_7294 : (I_7288 o 3).toInt = (I_7258 o 3).toInt := by rw [kp_7292 3 rfl]
                          have t_7295 : (I_7288 o 4).toInt = (I_7258 o 4).toInt := by rw [kp_7292 4 rfl]
                          have g_7296 : (0 : Int) ≤ (I_7288 o 6).toInt ∧ (I_7288 o 6).toInt ≤ 1600 := hR_7290.at0 ra 6 (by decide)
                          have g_7297 : (0 : Int) ≤ (I_7288 o 7).toInt ∧ (I_7288 o 7).toInt ≤ 1601 := hR_7290.at0 ra 7 (by decide)
                          have g_7298 : (0 : Int) ≤ (I_7288 o 8).toInt ∧ (I_7288 o 8).toInt ≤ 6 := hR_7290.at0 ra 8 (by decide)
                          have t_7299 : (I_7288 o 44).toInt = (I_7258 o 44).toInt := by rw [kp_7292 44 rfl]
                          have t_7300 : (I_7288 o 45).toInt = (I_7258 o 45).toInt := by rw [kp_7292 45 rfl]
                          have t_7301 : (I_7288 o 47).toInt = (I_7258 o 47).toInt := by rw [kp_7292 47 rfl]
                          have t_7302 : (I_7288 o 48).toInt = (I_7258 o 48).toInt := by rw [kp_7292 48 rfl]
                          have t_7303 : (I_7288 o 46).toInt = (I_7258 o 46).toInt := by rw [kp_7292 46 rfl]
                          have k_7304 : MTd I_7288 o := k_7273.fr (fr_7291 _ (by first | omega | (dsimp only; omega))) (fr_7291 _ (by first | omega | (dsimp only; omega))) (fr_7291 _ (by first | omega | (dsimp only; omega)))
                          have ms := u_7282 (by omega)
                          have k_7305 : EX 0 0 0 f0 1 I_7288 o := by exact EX.nx k_7277 (fr_7291 _ (by first | omega | (dsimp only; omega))) (fr_7291 _ (by first | omega | (dsimp only; omega))) (fr_7291 _ (by first | omega | (dsimp only; omega))) (fr_7291 _ (by first | omega | (dsimp only; omega))) (fr_7291 _ (by first | omega | (dsimp only; omega))) (kp_7292 3 rfl) (kp_7292 44 rfl) (kp_7292 45 rfl) (kp_7292 47 rfl) (kp_7292 48 rfl) (by omega) (by omega)
                          exact (hp _ _ _ hR_7290 hf_7293 (Or.inr rfl) (by first | omega | (intro h; omega) | exact Or.inl rfl | exact Or.inr rfl) (by first | omega | (intro h; omega) | exact Or.inl rfl | exact Or.inr rfl) (by first | omega | (intro h; omega) | exact Or.inl rfl | exact Or.inr rfl) (by first | omega | (intro h; omega) | exact Or.inl rfl | exact Or.inr rfl) (by first | omega | (intro h; omega) | exact Or.inl rfl | exact Or.inr rfl) (by clear hg; first | (intro h; exfalso; omega) | exact fun _ => k_7305 | exact fun _ => (False.elim (by omega))) k_7304 u_7285 u_7286 hg.symm)
                        · have d_7306 := iEq c_7227
                          have i_7307 := u_7224 (by omega)
                          replace hg := gt_pos (by first | exact d_7306 | omega) hg
                          exact (hp _ _ _ hR_7202 hf_7205 (Or.inr rfl) (by first | omega | (intro h; omega) | exact Or.inl rfl | exact Or.inr rfl) (by first | omega | (intro h; omega) | exact Or.inl rfl | exact Or.inr rfl) (by first | omega | (intro h; omega) | exact Or.inl rfl | exact Or.inr rfl) (by first | omega | (intro h; omega) | exact Or.inl rfl | exact Or.inr rfl) (by first | omega | (intro h; omega) | exact Or.inl rfl | exact Or.inr rfl) (by clear hg; first | (intro h; exfalso; omega) | exact fun _ => k_7217 | exact fun _ => (False.elim (by omega))) k_7218 k_7219 k_7220 hg.symm)
                  · have d_7308 := iEq c_7006
                    have i_7309 := u_7003 (by omega)
                    replace hg := gt_pos (by first | exact d_7308 | omega) hg
                    exact (hp _ _ _ hR_6982 hf_6985 (Or.inr rfl) (by first | omega | (intro h; omega) | exact Or.inl rfl | exact Or.inr rfl) (by first | omega | (intro h; omega) | exact Or.inl rfl | exact Or.inr rfl) (by first | omega | (intro h; omega) | exact Or.inl rfl | exact Or.inr rfl) (by first | omega | (intro h; omega) | exact Or.inl rfl | exact Or.inr rfl) (by first | omega | (intro h; omega) | exact Or.inl rfl | exact Or.inr rfl) (by clear hg; first | (intro h; exfalso; omega) | exact fun _ => k_6996 | exact fun _ => (False.elim (by omega))) k_6997 k_6998 k_6999 hg.symm)
                · have d_7310 := iNe c_6974
                  have i_7311 := u_6970 (by omega)
                  have i_7312 := u_6971 (by omega)
                  replace hg := gt_neg (by first | exact d_7310 | omega) hg
                  unfold fModel_unit_131
                  replace hg := (eModel_unit_131).symm.trans hg
                  have g_7313 : (0 : Int) ≤ (I_5402 o 46).toInt ∧ (I_5402 o 46).toInt ≤ 100 := hR_5404.at0 ra 46 (by decide)
                  replace hg := gt_let (y := (I_5402 o 46).toInt) rfl hg
                  have l_7314 : (100 : Int32).toInt = 100 := rfl
                  refine ⟨fun c_7315 => ?_, fun c_7315 => ?_⟩
                  · have d_7316 := iNe c_7315
                    replace hg := gt_neg (by first | exact d_7316 | omega) hg
                    refine y_Model_isGoodg hok hw ra hR_5404 (fun r_7317 u_7318 u_7319 u_7320 gn_7321 => ⟨r_7317, I_5402, L_5403, rfl, rfl, ?_⟩)
                    replace hg := gt_let gn_7321 hg
                    clear gn_7321
                    have b_7322 : 0 ≤ r_7317.toInt ∧ r_7317.toInt ≤ 1 := u_7318.rg
                    refine ⟨fun c_7323 => ?_, fun c_7323 => ?_⟩
                    · have d_7324 := iNe c_7323
                      have i_7325 := u_7319 (by omega)
                      replace hg := gt_neg (by first | exact d_7324 | omega) hg
                      have g_7326 : (0 : Int) ≤ (I_5402 o 46).toInt ∧ (I_5402 o 46).toInt ≤ 100 := hR_5404.at0 ra 46 (by decide)
                      replace hg := gt_let (y := (I_5402 o 46).toInt) rfl hg
                      have a_7327 : ((I_5402 o 46) + 1).toInt = (I_5402 o 46).toInt + (1 : Int32).toInt := tAdd (by omega) (by omega)
                      replace hg := gt_let (y := (((I_5402 o 46) + 1) : Int32).toInt) (by omega) hg
                      refine fun I_7328 e_7329 => ?_
                      replace hg := gt_let (y := tI I_7328) (tI_q e_7329) hg
                      have hR_7330 : RI R I_7328 := hR_5404.up0 (k := 46) ra (by decide) (Or.inr hz56) e_7329 (show (0 : Int) ≤ ((I_5402 o 46) + 1).toInt by omega) (show ((I_5402 o 46) + 1).toInt ≤ (100 : Int) by omega)
                      have hf_7331 : Fm (fun c => c = o ∨ (o + 30 ≤ c ∧ c < o + 34)) I0 I_7328 := hf_5407.set (by first | rfl | omega | (dsimp only; omega)) e_7329
                      have t_7332 : (I_7328 o 3).toInt = (I_5402 o 3).toInt := by rw [← e_7329, q_u_k (by decide)]
                      have t_7333 : (I_7328 o 4).toInt = (I_5402 o 4).toInt := by rw [← e_7329, q_u_k (by decide)]
                      have t_7334 : (I_7328 o 6).toInt = (I_5402 o 6).toInt := by rw [← e_7329, q_u_k (by decide)]
                      have t_7335 : (I_7328 o 7).toInt = (I_5402 o 7).toInt := by rw [← e_7329, q_u_k (by decide)]
                      have t_7336 : (I_7328 o 8).toInt = (I_5402 o 8).toInt := by rw [← e_7329, q_u_k (by decide)]
                      have t_7337 : (I_7328 o 9).toInt = (I_5402 o 9).toInt := by rw [← e_7329, q_u_k (by decide)]
                      have t_7338 : (I_7328 o 44).toInt = (I_5402 o 44).toInt := by rw [← e_7329, q_u_k (by decide)]
                      have t_7339 : (I_7328 o 45).toInt = (I_5402 o 45).toInt := by rw [← e_7329, q_u_k (by decide)]
                      have t_7340 : (I_7328 o 47).toInt = (I_5402 o 47).toInt := by rw [← e_7329, q_u_k (by decide)]
                      have t_7341 : (I_7328 o 48).toInt = (I_5402 o 48).toInt := by rw [← e_7329, q_u_k (by decide)]
                      have t_7342 : (I_7328 o 46).toInt = ((I_5402 o 46) + 1).toInt := by rw [← e_7329, q_u_at]
                      have k_7343 : EX 0 0 0 f0 1 I_7328 o := k_5418.fr (by rw [← e_7329]; exact q_u_ne (by omega)) (by rw [← e_7329]; exact q_u_ne (by omega)) (by rw [← e_7329]; exact q_u_ne (by omega)) (by rw [← e_7329]; exact q_u_ne (by omega)) (by rw [← e_7329]; exact q_u_ne (by omega)) (by rw [← e_7329, q_u_k (by decide)]) (by rw [← e_7329, q_u_k (by decide)]) (by rw [← e_7329, q_u_k (by decide)]) (by rw [← e_7329, q_u_k (by decide)]) (by rw [← e_7329, q_u_k (by decide)]) (by rw [← e_7329, q_u_k (by decide)])
                      have k_7344 : MTd I_7328 o := k_5419.fr (by rw [← e_7329]; exact q_u_ne (by omega)) (by rw [← e_7329]; exact q_u_ne (by omega)) (by rw [← e_7329]; exact q_u_ne (by omega))
                      have k_7345 : MPo I_7328 o := k_5420.fr (by rw [← e_7329, q_u_k (by decide)]) (by rw [← e_7329, q_u_k (by decide)])
                      have k_7346 : MTk I_7328 o := k_5421.fr (by rw [← e_7329, q_u_k (by decide)]) (by rw [← e_7329, q_u_k (by decide)]) (by rw [← e_7329, q_u_k (by decide)])
                      refine y_Model_isg hok hw ra hR_7330 (fun r_7347 u_7348 u_7349 u_7350 gn_7351 => ⟨r_7347, I_7328, L_5403, rfl, rfl, ?_⟩)
                      replace hg := gt_let gn_7351 hg
                      clear gn_7351
                      have b_7352 : 0 ≤ r_7347.toInt ∧ r_7347.toInt ≤ 1 := u_7348.rg
                      refine ⟨fun c_7353 => ?_, fun c_7353 => ?_⟩
                      · have d_7354 := iEq c_7353
                        replace hg := gt_pos (by first | exact d_7354 | omega) hg
                        have cd := k_7343.cod
                        have tk := k_7346.2 (by omega)
                        refine ⟨fun c_7355 => ?_, fun c_7355 => ?_⟩
                        · have d_7356 := iNe c_7355
                          have i_7357 := u_5398 (by omega)
                          have i_7358 := u_5399 (by omega)
                          exfalso; omega
                        · have d_7359 := iEq c_7355
                          replace hg := gt_pos (by first | exact d_7359 | omega) hg
                          unfold fModel_unit_228
                          replace hg := (eModel_unit_228).symm.trans hg
                          have l_7360 : (78 : Int32).toInt = 78 := rfl
                          refine ⟨fun c_7361 => ?_, fun c_7361 => ?_⟩
                          · have d_7362 := iNe c_7361
                            have i_7363 := u_5398 (by omega)
                            have i_7364 := u_5399 (by omega)
                            exfalso; omega
                          · have d_7365 := iEq c_7361
                            replace hg := gt_pos (by first | exact d_7365 | omega) hg
                            replace hg := gt_let (y := (I_7328 o 9).toInt) rfl hg
                            refine y_Model_stepg hok hw ra hz55 (by first | omega | (intro h; omega) | exact Or.inl rfl | exact Or.inr rfl) (by first | omega | (intro h; omega) | exact Or.inl rfl | exact Or.inr rfl) hR_7330 (fun I_7370 L_7371 hR_7372 fr_7373 kp_7374 u_7367 u_7368 gn_7369 => ⟨I_7370, L_7371, rfl, rfl, ?_⟩)
                            replace hg := gt_b3 gn_7369 hg
                            clear gn_7369
                            have hf_7375 : Fm (fun c => c = o ∨ (o + 30 ≤ c ∧ c < o + 34)) I0 I_7370 := hf_7331.call fr_7373 (fun c hc => by first | exact hc | (dsimp only at hc ⊢; omega) | omega)
                            have t_7376 : (I_7370 o 3).toInt = (I_7328 o 3).toInt := by rw [kp_7374 3 rfl]
                            have t_7377 : (I_7370 o 4).toInt = (I_7328 o 4).toInt := by rw [kp_7374 4 rfl]
                            have t_7378 : (I_7370 o 6).toInt = (I_7328 o 6).toInt := by rw [kp_7374 6 rfl]
                            have t_7379 : (I_7370 o 7).toInt = (I_7328 o 7).toInt := by rw [kp_7374 7 rfl]
                            have t_7380 : (I_7370 o 8).toInt = (I_7328 o 8).toInt := by rw [kp_7374 8 rfl]
                            have t_7381 : (I_7370 o 9).toInt = (I_7328 o 9).toInt := by rw [kp_7374 9 rfl]
                            have t_7382 : (I_7370 o 44).toInt = (I_7328 o 44).toInt := by rw [kp_7374 44 rfl]
                            have g_7383 : (0 : Int) ≤ (I_7370 o 45).toInt ∧ (I_7370 o 45).toInt ≤ 700 := hR_7372.at0 ra 45 (by decide)
                            have t_7384 : (I_7370 o 47).toInt = (I_7328 o 47).toInt := by rw [kp_7374 47 rfl]
                            have t_7385 : (I_7370 o 48).toInt = (I_7328 o 48).toInt := by rw [kp_7374 48 rfl]
                            have t_7386 : (I_7370 o 46).toInt = (I_7328 o 46).toInt := by rw [kp_7374 46 rfl]
                            have k_7387 : MPo I_7370 o := k_7345.fr (kp_7374 8 rfl) (kp_7374 9 rfl)
                            have k_7388 : MTk I_7370 o := k_7346.fr (kp_7374 6 rfl) (kp_7374 7 rfl) (kp_7374 8 rfl)
                            have tk := k_7388.2 (by omega)
                            have k_7389 : EX 0 0 1 f0 0 I_7370 o := by exact EX.step1 k_7343 (by first | exact u_5398 (by omega) | (unfold isT; decide)) (by omega) (fr_7373 _ (by first | omega | (dsimp only; omega))) (fr_7373 _ (by first | omega | (dsimp only; omega))) u_7367 (fr_7373 _ (by first | omega | (dsimp only; omega))) (fr_7373 _ (by first | omega | (dsimp only; omega))) (kp_7374 3 rfl) (kp_7374 6 rfl) (kp_7374 44 rfl) u_7368 (kp_7374 47 rfl) (kp_7374 48 rfl)
                            have k_7390 : MTd I_7370 o := by exact MTd.step k_7344 (fr_7373 _ (by first | omega | (dsimp only; omega))) (fr_7373 _ (by first | omega | (dsimp only; omega))) u_7367 (by omega)
                            refine y_Model_nextg hok hw ra hz16 hz17 hz18 hz19 (by first | omega | (intro h; omega) | exact Or.inl rfl | exact Or.inr rfl) hR_7372 (fun I_7401 L_7402 hR_7403 fr_7404 kp_7405 u_7392 u_7393 u_7394 u_7395 u_7396 u_7397 u_7398 u_7399 gn_7400 => ⟨I_7401, L_7402, rfl, rfl, ?_⟩)
                            replace hg := gt_b3 gn_7400 hg
                            clear gn_7400
                            have hf_7406 : Fm (fun c => c = o ∨ (o + 30 ≤ c ∧ c < o + 34)) I0 I_7401 := hf_7375.call fr_7404 (fun c hc => by first | exact hc | (dsimp only at hc ⊢; omega) | omega)
                            have t_7407 : (I_7401 o 3).toInt = (I_7370 o 3).toInt := by rw [kp_7405 3 rfl]
                            have t_7408 : (I_7401 o 4).toInt = (I_7370 o 4).toInt := by rw [kp_7405 4 rfl]
                            have g_7409 : (0 : Int) ≤ (I_7401 o 6).toInt ∧ (I_7401 o 6).toInt ≤ 1600 := hR_7403.at0 ra 6 (by decide)
                            have g_7410 : (0 : Int) ≤ (I_7401 o 7).toInt ∧ (I_7401 o 7).toInt ≤ 1601 := hR_7403.at0 ra 7 (by decide)
                            have g_7411 : (0 : Int) ≤ (I_7401 o 8).toInt ∧ (I_7401 o 8).toInt ≤ 6 := hR_7403.at0 ra 8 (by decide)
                            have t_7412 : (I_7401 o 44).toInt = (I_7370 o 44).toInt := by rw [kp_7405 44 rfl]
                            have t_7413 : (I_7401 o 45).toInt = (I_7370 o 45).toInt := by rw [kp_7405 45 rfl]
                            have t_7414 : (I_7401 o 47).toInt = (I_7370 o 47).toInt := by rw [kp_7405 47 rfl]
                            have t_7415 : (I_7401 o 48).toInt = (I_7370 o 48).toInt := by rw [kp_7405 48 rfl]
                            have t_7416 : (I_7401 o 46).toInt = (I_7370 o 46).toInt := by rw [kp_7405 46 rfl]
                            have k_7417 : MTd I_7401 o := k_7390.fr (fr_7404 _ (by first | omega | (dsimp only; omega))) (fr_7404 _ (by first | omega | (dsimp only; omega))) (fr_7404 _ (by first | omega | (dsimp only; omega)))
                            have ms := u_7395 (by omega)
                            have k_7418 : EX 0 0 0 f0 0 I_7401 o := by exact EX.nx k_7389 (fr_7404 _ (by first | omega | (dsimp only; omega))) (fr_7404 _ (by first | omega | (dsimp only; omega))) (fr_7404 _ (by first | omega | (dsimp only; omega))) (fr_7404 _ (by first | omega | (dsimp only; omega))) (fr_7404 _ (by first | omega | (dsimp only; omega))) (kp_7405 3 rfl) (kp_7405 44 rfl) (kp_7405 45 rfl) (kp_7405 47 rfl) (kp_7405 48 rfl) (by omega) (by omega)
                            exact (hp _ _ _ hR_7403 hf_7406 (Or.inl rfl) (by first | omega | (intro h; omega) | exact Or.inl rfl | exact Or.inr rfl) (by first | omega | (intro h; omega) | exact Or.inl rfl | exact Or.inr rfl) (by first | omega | (intro h; omega) | exact Or.inl rfl | exact Or.inr rfl) (by first | omega | (intro h; omega) | exact Or.inl rfl | exact Or.inr rfl) (by first | omega | (intro h; omega) | exact Or.inl rfl | exact Or.inr rfl) (by clear hg; first | (intro h; exfalso; omega) | exact fun _ => (False.elim (by omega)) | exact fun _ => k_7418) k_7417 u_7398 u_7399 hg.symm)
                      · have d_7419 := iNe c_7353
                        have i_7420 := u_7349 (by omega)
                        have i_7421 := u_7350 (by omega)
                        replace hg := gt_neg (by first | exact d_7419 | omega) hg
                        have g_7422 : (0 : Int) ≤ (I_7328 o 47).toInt ∧ (I_7328 o 47).toInt ≤ 7 := hR_7330.at0 ra 47 (by decide)
                        replace hg := gt_let (y := (I_7328 o 47).toInt) rfl hg
                        refine ⟨fun c_7423 => ?_, fun c_7423 => ?_⟩
                        · have d_7424 := iNe c_7423
                          replace hg := gt_neg (by first | exact d_7424 | omega) hg
                          refine y_Model_isGoodg hok hw ra hR_7330 (fun r_7425 u_7426 u_7427 u_7428 gn_7429 => ⟨r_7425, I_7328, L_5403, rfl, rfl, ?_⟩)
                          replace hg := gt_let gn_7429 hg
                          clear gn_7429
                          have b_7430 : 0 ≤ r_7425.toInt ∧ r_7425.toInt ≤ 1 := u_7426.rg
                          refine ⟨fun c_7431 => ?_, fun c_7431 => ?_⟩
                          · have d_7432 := iNe c_7431
                            have i_7433 := u_7427 (by omega)
                            replace hg := gt_neg (by first | exact d_7432 | omega) hg
                            refine y_Model_pileg hok hw ra hz58 (by first | omega | (intro h; omega) | exact Or.inl rfl | exact Or.inr rfl) (by first | omega | (intro h; omega) | exact Or.inl rfl | exact Or.inr rfl) hR_7330 (fun I_7439 L_7440 hR_7441 fr_7442 kp_7443 u_7435 u_7436 u_7437 gn_7438 => ⟨I_7439, L_7440, rfl, rfl, ?_⟩)
                            replace hg := gt_b3 gn_7438 hg
                            clear gn_7438
                            have hf_7444 : Fm (fun c => c = o ∨ (o + 30 ≤ c ∧ c < o + 34)) I0 I_7439 := hf_7331.call fr_7442 (fun c hc => by first | exact hc | (dsimp only at hc ⊢; omega) | omega)
                            have t_7445 : (I_7439 o 3).toInt = (I_7328 o 3).toInt := by rw [kp_7443 3 rfl]
                            have t_7446 : (I_7439 o 4).toInt = (I_7328 o 4).toInt := by rw [kp_7443 4 rfl]
                            have t_7447 : (I_7439 o 6).toInt = (I_7328 o 6).toInt := by rw [kp_7443 6 rfl]
                            have t_7448 : (I_7439 o 7).toInt = (I_7328 o 7).toInt := by rw [kp_7443 7 rfl]
                            have t_7449 : (I_7439 o 8).toInt = (I_7328 o 8).toInt := by rw [kp_7443 8 rfl]
                            have t_7450 : (I_7439 o 9).toInt = (I_7328 o 9).toInt := by rw [kp_7443 9 rfl]
                            have t_7451 : (I_7439 o 44).toInt = (I_7328 o 44).toInt := by rw [kp_7443 44 rfl]
                            have t_7452 : (I_7439 o 45).toInt = (I_7328 o 45).toInt := by rw [kp_7443 45 rfl]
                            have t_7453 : (I_7439 o 47).toInt = (I_7328 o 47).toInt := by rw [kp_7443 47 rfl]
                            have g_7454 : (0 : Int) ≤ (I_7439 o 48).toInt ∧ (I_7439 o 48).toInt ≤ 80 := hR_7441.at0 ra 48 (by decide)
                            have t_7455 : (I_7439 o 46).toInt = (I_7328 o 46).toInt := by rw [kp_7443 46 rfl]
                            have k_7456 : MTd I_7439 o := k_7344.fr (fr_7442 _ (by first | omega | (dsimp only; omega))) (fr_7442 _ (by first | omega | (dsimp only; omega))) (fr_7442 _ (by first | omega | (dsimp only; omega)))
                            have k_7457 : MPo I_7439 o := k_7345.fr (kp_7443 8 rfl) (kp_7443 9 rfl)
                            have k_7458 : MTk I_7439 o := k_7346.fr (kp_7443 6 rfl) (kp_7443 7 rfl) (kp_7443 8 rfl)
                            have k_7459 : EX 0 1 1 f0 1 I_7439 o := by have z := EX.push k_7343 (v := 7) (s := 0) (dB := 1) (dO := 0) (wt' := 1) (by decide) (by decide) (by decide) (by omega) ⟨by decide, by decide⟩ ⟨fun h => absurd h (by decide), fun h => absurd h (by decide)⟩ (Or.inl rfl) (fr_7442 _ (by first | omega | (dsimp only; omega))) (fr_7442 _ (by first | omega | (dsimp only; omega))) (fr_7442 _ (by first | omega | (dsimp only; omega))) u_7435 u_7436 (kp_7443 3 rfl) (kp_7443 6 rfl) (kp_7443 44 rfl) (kp_7443 45 rfl) (kp_7443 47 rfl) u_7437; exact EX.chg (b' := 1) z rfl rfl rfl rfl rfl rfl rfl rfl rfl rfl (by omega) z.pl
                            have g_7460 : (0 : Int) ≤ (I_7439 o 47).toInt ∧ (I_7439 o 47).toInt ≤ 7 := hR_7441.at0 ra 47 (by decide)
                            replace hg := gt_let (y := (I_7439 o 47).toInt) rfl hg
                            have a_7461 : ((I_7439 o 47) + 1).toInt = (I_7439 o 47).toInt + (1 : Int32).toInt := tAdd (by omega) (by omega)
                            replace hg := gt_let (y := (((I_7439 o 47) + 1) : Int32).toInt) (by omega) hg
                            refine fun I_7462 e_7463 => ?_
                            replace hg := gt_let (y := tI I_7462) (tI_q e_7463) hg
                            have hR_7464 : RI R I_7462 := hR_7441.up0 (k := 47) ra (by decide) (Or.inr hz57) e_7463 (show (0 : Int) ≤ ((I_7439 o 47) + 1).toInt by omega) (show ((I_7439 o 47) + 1).toInt ≤ (7 : Int) by omega)
                            have hf_7465 : Fm (fun c => c = o ∨ (o + 30 ≤ c ∧ c < o + 34)) I0 I_7462 := hf_7444.set (by first | rfl | omega | (dsimp only; omega)) e_7463
                            have t_7466 : (I_7462 o 3).toInt = (I_7439 o 3).toInt := by rw [← e_7463, q_u_k (by decide)]
                            have t_7467 : (I_7462 o 4).toInt = (I_7439 o 4).toInt := by rw [← e_7463, q_u_k (by decide)]
                            have t_7468 : (I_7462 o 6).toInt = (I_7439 o 6).toInt := by rw [← e_7463, q_u_k (by decide)]
                            have t_7469 : (I_7462 o 7).toInt = (I_7439 o 7).toInt := by rw [← e_7463, q_u_k (by decide)]
                            have t_7470 : (I_7462 o 8).toInt = (I_7439 o 8).toInt := by rw [← e_7463, q_u_k (by decide)]
                            have t_7471 : (I_7462 o 9).toInt = (I_7439 o 9).toInt := by rw [← e_7463, q_u_k (by decide)]
                            have t_7472 : (I_7462 o 44).toInt = (I_7439 o 44).toInt := by rw [← e_7463, q_u_k (by decide)]
                            have t_7473 : (I_7462 o 45).toInt = (I_7439 o 45).toInt := by rw [← e_7463, q_u_k (by decide)]
                            have t_7474 : (I_7462 o 47).toInt = ((I_7439 o 47) + 1).toInt := by rw [← e_7463, q_u_at]
                            have t_7475 : (I_7462 o 48).toInt = (I_7439 o 48).toInt := by rw [← e_7463, q_u_k (by decide)]
                            have t_7476 : (I_7462 o 46).toInt = (I_7439 o 46).toInt := by rw [← e_7463, q_u_k (by decide)]
                            have k_7477 : MTd I_7462 o := k_7456.fr (by rw [← e_7463]; exact q_u_ne (by omega)) (by rw [← e_7463]; exact q_u_ne (by omega)) (by rw [← e_7463]; exact q_u_ne (by omega))
                            have k_7478 : MPo I_7462 o := k_7457.fr (by rw [← e_7463, q_u_k (by decide)]) (by rw [← e_7463, q_u_k (by decide)])
                            have k_7479 : MTk I_7462 o := k_7458.fr (by rw [← e_7463, q_u_k (by decide)]) (by rw [← e_7463, q_u_k (by decide)]) (by rw [← e_7463, q_u_k (by decide)])
                            have tk := k_7479.2 (by omega)
                            have k_7481 : EX 0 0 1 f0 1 I_7462 o := by exact EX.put47 k_7459 e_7463 (by omega)
                            refine y_Model_nextg hok hw ra hz16 hz17 hz18 hz19 (by first | omega | (intro h; omega) | exact Or.inl rfl | exact Or.inr rfl) hR_7464 (fun I_7492 L_7493 hR_7494 fr_7495 kp_7496 u_7483 u_7484 u_7485 u_7486 u_7487 u_7488 u_7489 u_7490 gn_7491 => ⟨I_7492, L_7493, rfl, rfl, ?_⟩)
                            replace hg := gt_b3 gn_7491 hg
                            clear gn_7491
                            have hf_7497 : Fm (fun c => c = o ∨ (o + 30 ≤ c ∧ c < o + 34)) I0 I_7492 := hf_7465.call fr_7495 (fun c hc => by first | exact hc | (dsimp only at hc ⊢; omega) | omega)
                            have t_7498 : (I_7492 o 3).toInt = (I_7462 o 3).toInt := by rw [kp_7496 3 rfl]
                            have t_7499 : (I_7492 o 4).toInt = (I_7462 o 4).toInt := by rw [kp_7496 4 rfl]
                            have g_7500 : (0 : Int) ≤ (I_7492 o 6).toInt ∧ (I_7492 o 6).toInt ≤ 1600 := hR_7494.at0 ra 6 (by decide)
                            have g_7501 : (0 : Int) ≤ (I_7492 o 7).toInt ∧ (I_7492 o 7).toInt ≤ 1601 := hR_7494.at0 ra 7 (by decide)
                            have g_7502 : (0 : Int) ≤ (I_7492 o 8).toInt ∧ (I_7492 o 8).toInt ≤ 6 := hR_7494.at0 ra 8 (by decide)
                            have t_7503 : (I_7492 o 44).toInt = (I_7462 o 44).toInt := by rw [kp_7496 44 rfl]
                            have t_7504 : (I_7492 o 45).toInt = (I_7462 o 45).toInt := by rw [kp_7496 45 rfl]
                            have t_7505 : (I_7492 o 47).toInt = (I_7462 o 47).toInt := by rw [kp_7496 47 rfl]
                            have t_7506 : (I_7492 o 48).toInt = (I_7462 o 48).toInt := by rw [kp_7496 48 rfl]
                            have t_7507 : (I_7492 o 46).toInt = (I_7462 o 46).toInt := by rw [kp_7496 46 rfl]
                            have k_7508 : MTd I_7492 o := k_7477.fr (fr_7495 _ (by first | omega | (dsimp only; omega))) (fr_7495 _ (by first | omega | (dsimp only; omega))) (fr_7495 _ (by first | omega | (dsimp only; omega)))
                            have ms := u_7486 (by omega)
                            have k_7509 : EX 0 0 0 f0 1 I_7492 o := by exact EX.nx k_7481 (fr_7495 _ (by first | omega | (dsimp only; omega))) (fr_7495 _ (by first | omega | (dsimp only; omega))) (fr_7495 _ (by first | omega | (dsimp only; omega))) (fr_7495 _ (by first | omega | (dsimp only; omega))) (fr_7495 _ (by first | omega | (dsimp only; omega))) (kp_7496 3 rfl) (kp_7496 44 rfl) (kp_7496 45 rfl) (kp_7496 47 rfl) (kp_7496 48 rfl) (by omega) (by omega)
                            exact (hp _ _ _ hR_7494 hf_7497 (Or.inr rfl) (by first | omega | (intro h; omega) | exact Or.inl rfl | exact Or.inr rfl) (by first | omega | (intro h; omega) | exact Or.inl rfl | exact Or.inr rfl) (by first | omega | (intro h; omega) | exact Or.inl rfl | exact Or.inr rfl) (by first | omega | (intro h; omega) | exact Or.inl rfl | exact Or.inr rfl) (by first | omega | (intro h; omega) | exact Or.inl rfl | exact Or.inr rfl) (by clear hg; first | (intro h; exfalso; omega) | exact fun _ => k_7509 | exact fun _ => (False.elim (by omega))) k_7508 u_7489 u_7490 hg.symm)
                          · have d_7510 := iEq c_7431
                            have i_7511 := u_7428 (by omega)
                            replace hg := gt_pos (by first | exact d_7510 | omega) hg
                            exact (hp _ _ _ hR_7330 hf_7331 (Or.inr rfl) (by first | omega | (intro h; omega) | exact Or.inl rfl | exact Or.inr rfl) (by first | omega | (intro h; omega) | exact Or.inl rfl | exact Or.inr rfl) (by first | omega | (intro h; omega) | exact Or.inl rfl | exact Or.inr rfl) (by first | omega | (intro h; omega) | exact Or.inl rfl | exact Or.inr rfl) (by first | omega | (intro h; omega) | exact Or.inl rfl | exact Or.inr rfl) (by clear hg; first | (intro h; exfalso; omega) | exact fun _ => k_7343 | exact fun _ => (False.elim (by omega))) k_7344 k_7345 k_7346 hg.symm)
                        · have d_7512 := iEq c_7423
                          replace hg := gt_pos (by first | exact d_7512 | omega) hg
                          refine y_Model_wrongg hok hw ra hz14 hz15 hR_7330 (fun I_7517 L_7518 hR_7519 fr_7520 kp_7521 u_7514 u_7515 gn_7516 => ⟨I_7517, L_7518, rfl, rfl, ?_⟩)
                          replace hg := gt_b3 gn_7516 hg
                          clear gn_7516
                          have hf_7522 : Fm (fun c => c = o ∨ (o + 30 ≤ c ∧ c < o + 34)) I0 I_7517 := hf_7331.call fr_7520 (fun c hc => by first | exact hc | (dsimp only at hc ⊢; omega) | omega)
                          have t_7523 : (I_7517 o 3).toInt = (I_7328 o 3).toInt := by rw [kp_7521 3 rfl]
                          have g_7524 : (0 : Int) ≤ (I_7517 o 4).toInt ∧ (I_7517 o 4).toInt ≤ 5 := hR_7519.at0 ra 4 (by decide)
                          have t_7525 : (I_7517 o 6).toInt = (I_7328 o 6).toInt := by rw [kp_7521 6 rfl]
                          have t_7526 : (I_7517 o 7).toInt = (I_7328 o 7).toInt := by rw [kp_7521 7 rfl]
                          have t_7527 : (I_7517 o 8).toInt = (I_7328 o 8).toInt := by rw [kp_7521 8 rfl]
                          have t_7528 : (I_7517 o 9).toInt = (I_7328 o 9).toInt := by rw [kp_7521 9 rfl]
                          have t_7529 : (I_7517 o 44).toInt = (I_7328 o 44).toInt := by rw [kp_7521 44 rfl]
                          have t_7530 : (I_7517 o 45).toInt = (I_7328 o 45).toInt := by rw [kp_7521 45 rfl]
                          have t_7531 : (I_7517 o 47).toInt = (I_7328 o 47).toInt := by rw [kp_7521 47 rfl]
                          have t_7532 : (I_7517 o 48).toInt = (I_7328 o 48).toInt := by rw [kp_7521 48 rfl]
                          have t_7533 : (I_7517 o 46).toInt = (I_7328 o 46).toInt := by rw [kp_7521 46 rfl]
                          have k_7534 : EX 0 0 0 f0 1 I_7517 o := k_7343.fr (fr_7520 _ (by first | omega | (dsimp only; omega))) (fr_7520 _ (by first | omega | (dsimp only; omega))) (fr_7520 _ (by first | omega | (dsimp only; omega))) (fr_7520 _ (by first | omega | (dsimp only; omega))) (fr_7520 _ (by first | omega | (dsimp only; omega))) (kp_7521 3 rfl) (kp_7521 6 rfl) (kp_7521 44 rfl) (kp_7521 45 rfl) (kp_7521 47 rfl) (kp_7521 48 rfl)
                          have k_7535 : MTd I_7517 o := k_7344.fr (fr_7520 _ (by first | omega | (dsimp only; omega))) (fr_7520 _ (by first | omega | (dsimp only; omega))) (fr_7520 _ (by first | omega | (dsimp only; omega)))
                          have k_7536 : MPo I_7517 o := k_7345.fr (kp_7521 8 rfl) (kp_7521 9 rfl)
                          have k_7537 : MTk I_7517 o := k_7346.fr (kp_7521 6 rfl) (kp_7521 7 rfl) (kp_7521 8 rfl)
                          refine y_Model_isGoodg hok hw ra hR_7519 (fun r_7538 u_7539 u_7540 u_7541 gn_7542 => ⟨r_7538, I_7517, L_7518, rfl, rfl, ?_⟩)
                          replace hg := gt_let gn_7542 hg
                          clear gn_7542
                          have b_7543 : 0 ≤ r_7538.toInt ∧ r_7538.toInt ≤ 1 := u_7539.rg
                          refine ⟨fun c_7544 => ?_, fun c_7544 => ?_⟩
                          · have d_7545 := iNe c_7544
                            have i_7546 := u_7540 (by omega)
                            replace hg := gt_neg (by first | exact d_7545 | omega) hg
                            refine y_Model_pileg hok hw ra hz58 (by first | omega | (intro h; omega) | exact Or.inl rfl | exact Or.inr rfl) (by first | omega | (intro h; omega) | exact Or.inl rfl | exact Or.inr rfl) hR_7519 (fun I_7552 L_7553 hR_7554 fr_7555 kp_7556 u_7548 u_7549 u_7550 gn_7551 => ⟨I_7552, L_7553, rfl, rfl, ?_⟩)
                            replace hg := gt_b3 gn_7551 hg
                            clear gn_7551
                            have hf_7557 : Fm (fun c => c = o ∨ (o + 30 ≤ c ∧ c < o + 34)) I0 I_7552 := hf_7522.call fr_7555 (fun c hc => by first | exact hc | (dsimp only at hc ⊢; omega) | omega)
                            have t_7558 : (I_7552 o 3).toInt = (I_7517 o 3).toInt := by rw [kp_7556 3 rfl]
                            have t_7559 : (I_7552 o 4).toInt = (I_7517 o 4).toInt := by rw [kp_7556 4 rfl]
                            have t_7560 : (I_7552 o 6).toInt = (I_7517 o 6).toInt := by rw [kp_7556 6 rfl]
                            have t_7561 : (I_7552 o 7).toInt = (I_7517 o 7).toInt := by rw [kp_7556 7 rfl]
                            have t_7562 : (I_7552 o 8).toInt = (I_7517 o 8).toInt := by rw [kp_7556 8 rfl]
                            have t_7563 : (I_7552 o 9).toInt = (I_7517 o 9).toInt := by rw [kp_7556 9 rfl]
                            have t_7564 : (I_7552 o 44).toInt = (I_7517 o 44).toInt := by rw [kp_7556 44 rfl]
                            have t_7565 : (I_7552 o 45).toInt = (I_7517 o 45).toInt := by rw [kp_7556 45 rfl]
                            have t_7566 : (I_7552 o 47).toInt = (I_7517 o 47).toInt := by rw [kp_7556 47 rfl]
                            have g_7567 : (0 : Int) ≤ (I_7552 o 48).toInt ∧ (I_7552 o 48).toInt ≤ 80 := hR_7554.at0 ra 48 (by decide)
                            have t_7568 : (I_7552 o 46).toInt = (I_7517 o 46).toInt := by rw [kp_7556 46 rfl]
                            have k_7569 : MTd I_7552 o := k_7535.fr (fr_7555 _ (by first | omega | (dsimp only; omega))) (fr_7555 _ (by first | omega | (dsimp only; omega))) (fr_7555 _ (by first | omega | (dsimp only; omega)))
                            have k_7570 : MPo I_7552 o := k_7536.fr (kp_7556 8 rfl) (kp_7556 9 rfl)
                            have k_7571 : MTk I_7552 o := k_7537.fr (kp_7556 6 rfl) (kp_7556 7 rfl) (kp_7556 8 rfl)
                            have k_7572 : EX 0 1 1 f0 1 I_7552 o := by have z := EX.push k_7534 (v := 7) (s := 0) (dB := 1) (dO := 0) (wt' := 1) (by decide) (by decide) (by decide) (by omega) ⟨by decide, by decide⟩ ⟨fun h => absurd h (by decide), fun h => absurd h (by decide)⟩ (Or.inl rfl) (fr_7555 _ (by first | omega | (dsimp only; omega))) (fr_7555 _ (by first | omega | (dsimp only; omega))) (fr_7555 _ (by first | omega | (dsimp only; omega))) u_7548 u_7549 (kp_7556 3 rfl) (kp_7556 6 rfl) (kp_7556 44 rfl) (kp_7556 45 rfl) (kp_7556 47 rfl) u_7550; exact EX.chg (b' := 1) z rfl rfl rfl rfl rfl rfl rfl rfl rfl rfl (by omega) z.pl
                            have g_7573 : (0 : Int) ≤ (I_7552 o 47).toInt ∧ (I_7552 o 47).toInt ≤ 7 := hR_7554.at0 ra 47 (by decide)
                            replace hg := gt_let (y := (I_7552 o 47).toInt) rfl hg
                            have a_7574 : ((I_7552 o 47) + 1).toInt = (I_7552 o 47).toInt + (1 : Int32).toInt := tAdd (by omega) (by omega)
                            replace hg := gt_let (y := (((I_7552 o 47) + 1) : Int32).toInt) (by omega) hg
                            refine fun I_7575 e_7576 => ?_
                            replace hg := gt_let (y := tI I_7575) (tI_q e_7576) hg
                            have hR_7577 : RI R I_7575 := hR_7554.up0 (k := 47) ra (by decide) (Or.inr hz57) e_7576 (show (0 : Int) ≤ ((I_7552 o 47) + 1).toInt by omega) (show ((I_7552 o 47) + 1).toInt ≤ (7 : Int) by omega)
                            have hf_7578 : Fm (fun c => c = o ∨ (o + 30 ≤ c ∧ c < o + 34)) I0 I_7575 := hf_7557.set (by first | rfl | omega | (dsimp only; omega)) e_7576
                            have t_7579 : (I_7575 o 3).toInt = (I_7552 o 3).toInt := by rw [← e_7576, q_u_k (by decide)]
                            have t_7580 : (I_7575 o 4).toInt = (I_7552 o 4).toInt := by rw [← e_7576, q_u_k (by decide)]
                            have t_7581 : (I_7575 o 6).toInt = (I_7552 o 6).toInt := by rw [← e_7576, q_u_k (by decide)]
                            have t_7582 : (I_7575 o 7).toInt = (I_7552 o 7).toInt := by rw [← e_7576, q_u_k (by decide)]
                            have t_7583 : (I_7575 o 8).toInt = (I_7552 o 8).toInt := by rw [← e_7576, q_u_k (by decide)]
                            have t_7584 : (I_7575 o 9).toInt = (I_7552 o 9).toInt := by rw [← e_7576, q_u_k (by decide)]
                            have t_7585 : (I_7575 o 44).toInt = (I_7552 o 44).toInt := by rw [← e_7576, q_u_k (by decide)]
                            have t_7586 : (I_7575 o 45).toInt = (I_7552 o 45).toInt := by rw [← e_7576, q_u_k (by decide)]
                            have t_7587 : (I_7575 o 47).toInt = ((I_7552 o 47) + 1).toInt := by rw [← e_7576, q_u_at]
                            have t_7588 : (I_7575 o 48).toInt = (I_7552 o 48).toInt := by rw [← e_7576, q_u_k (by decide)]
                            have t_7589 : (I_7575 o 46).toInt = (I_7552 o 46).toInt := by rw [← e_7576, q_u_k (by decide)]
                            have k_7590 : MTd I_7575 o := k_7569.fr (by rw [← e_7576]; exact q_u_ne (by omega)) (by rw [← e_7576]; exact q_u_ne (by omega)) (by rw [← e_7576]; exact q_u_ne (by omega))
                            have k_7591 : MPo I_7575 o := k_7570.fr (by rw [← e_7576, q_u_k (by decide)]) (by rw [← e_7576, q_u_k (by decide)])
                            have k_7592 : MTk I_7575 o := k_7571.fr (by rw [← e_7576, q_u_k (by decide)]) (by rw [← e_7576, q_u_k (by decide)]) (by rw [← e_7576, q_u_k (by decide)])
                            have tk := k_7592.2 (by omega)
                            have k_7594 : EX 0 0 1 f0 1 I_7575 o := by exact EX.put47 k_7572 e_7576 (by omega)
                            refine y_Model_nextg hok hw ra hz16 hz17 hz18 hz19 (by first | omega | (intro h; omega) | exact Or.inl rfl | exact Or.inr rfl) hR_7577 (fun I_7605 L_7606 hR_7607 fr_7608 kp_7609 u_7596 u_7597 u_7598 u_7599 u_7600 u_7601 u_7602 u_7603 gn_7604 => ⟨I_7605, L_7606, rfl, rfl, ?_⟩)
                            replace hg := gt_b3 gn_7604 hg
                            clear gn_7604
                            have hf_7610 : Fm (fun c => c = o ∨ (o + 30 ≤ c ∧ c < o + 34)) I0 I_7605 := hf_7578.call fr_7608 (fun c hc => by first | exact hc | (dsimp only at hc ⊢; omega) | omega)
                            have t_7611 : (I_7605 o 3).toInt = (I_7575 o 3).toInt := by rw [kp_7609 3 rfl]
                            have t_7612 : (I_7605 o 4).toInt = (I_7575 o 4).toInt := by rw [kp_7609 4 rfl]
                            have g_7613 : (0 : Int) ≤ (I_7605 o 6).toInt ∧ (I_7605 o 6).toInt ≤ 1600 := hR_7607.at0 ra 6 (by decide)
                            have g_7614 : (0 : Int) ≤ (I_7605 o 7).toInt ∧ (I_7605 o 7).toInt ≤ 1601 := hR_7607.at0 ra 7 (by decide)
                            have g_7615 : (0 : Int) ≤ (I_7605 o 8).toInt ∧ (I_7605 o 8).toInt ≤ 6 := hR_7607.at0 ra 8 (by decide)
                            have t_7616 : (I_7605 o 44).toInt = (I_7575 o 44).toInt := by rw [kp_7609 44 rfl]
                            have t_7617 : (I_7605 o 45).toInt = (I_7575 o 45).toInt := by rw [kp_7609 45 rfl]
                            have t_7618 : (I_7605 o 47).toInt = (I_7575 o 47).toInt := by rw [kp_7609 47 rfl]
                            have t_7619 : (I_7605 o 48).toInt = (I_7575 o 48).toInt := by rw [kp_7609 48 rfl]
                            have t_7620 : (I_7605 o 46).toInt = (I_7575 o 46).toInt := by rw [kp_7609 46 rfl]
                            have k_7621 : MTd I_7605 o := k_7590.fr (fr_7608 _ (by first | omega | (dsimp only; omega))) (fr_7608 _ (by first | omega | (dsimp only; omega))) (fr_7608 _ (by first | omega | (dsimp only; omega)))
                            have ms := u_7599 (by omega)
                            have k_7622 : EX 0 0 0 f0 1 I_7605 o := by exact EX.nx k_7594 (fr_7608 _ (by first | omega | (dsimp only; omega))) (fr_7608 _ (by first | omega | (dsimp only; omega))) (fr_7608 _ (by first | omega | (dsimp only; omega))) (fr_7608 _ (by first | omega | (dsimp only; omega))) (fr_7608 _ (by first | omega | (dsimp only; omega))) (kp_7609 3 rfl) (kp_7609 44 rfl) (kp_7609 45 rfl) (kp_7609 47 rfl) (kp_7609 48 rfl) (by omega) (by omega)
                            exact (hp _ _ _ hR_7607 hf_7610 (Or.inr rfl) (by first | omega | (intro h; omega) | exact Or.inl rfl | exact Or.inr rfl) (by first | omega | (intro h; omega) | exact Or.inl rfl | exact Or.inr rfl) (by first | omega | (intro h; omega) | exact Or.inl rfl | exact Or.inr rfl) (by first | omega | (intro h; omega) | exact Or.inl rfl | exact Or.inr rfl) (by first | omega | (intro h; omega) | exact Or.inl rfl | exact Or.inr rfl) (by clear hg; first | (intro h; exfalso; omega) | exact fun _ => k_7622 | exact fun _ => (False.elim (by omega))) k_7621 u_7602 u_7603 hg.symm)
                          · have d_7623 := iEq c_7544
                            have i_7624 := u_7541 (by omega)
                            replace hg := gt_pos (by first | exact d_7623 | omega) hg
                            exact (hp _ _ _ hR_7519 hf_7522 (Or.inr rfl) (by first | omega | (intro h; omega) | exact Or.inl rfl | exact Or.inr rfl) (by first | omega | (intro h; omega) | exact Or.inl rfl | exact Or.inr rfl) (by first | omega | (intro h; omega) | exact Or.inl rfl | exact Or.inr rfl) (by first | omega | (intro h; omega) | exact Or.inl rfl | exact Or.inr rfl) (by first | omega | (intro h; omega) | exact Or.inl rfl | exact Or.inr rfl) (by clear hg; first | (intro h; exfalso; omega) | exact fun _ => k_7534 | exact fun _ => (False.elim (by omega))) k_7535 k_7536 k_7537 hg.symm)
                    · have d_7625 := iEq c_7323
                      have i_7626 := u_7320 (by omega)
                      replace hg := gt_pos (by first | exact d_7625 | omega) hg
                      exact (hp _ _ _ hR_5404 hf_5407 (Or.inr rfl) (by first | omega | (intro h; omega) | exact Or.inl rfl | exact Or.inr rfl) (by first | omega | (intro h; omega) | exact Or.inl rfl | exact Or.inr rfl) (by first | omega | (intro h; omega) | exact Or.inl rfl | exact Or.inr rfl) (by first | omega | (intro h; omega) | exact Or.inl rfl | exact Or.inr rfl) (by first | omega | (intro h; omega) | exact Or.inl rfl | exact Or.inr rfl) (by clear hg; first | (intro h; exfalso; omega) | exact fun _ => k_5418 | exact fun _ => (False.elim (by omega))) k_5419 k_5420 k_5421 hg.symm)
                  · have d_7627 := iEq c_7315
                    replace hg := gt_pos (by first | exact d_7627 | omega) hg
                    unfold fModel_unit_140
                    replace hg := (eModel_unit_140).symm.trans hg
                    refine y_Model_wrongg hok hw ra hz14 hz15 hR_5404 (fun I_7632 L_7633 hR_7634 fr_7635 kp_7636 u_7629 u_7630 gn_7631 => ⟨I_7632, L_7633, rfl, rfl, ?_⟩)
                    replace hg := gt_b3 gn_7631 hg
                    clear gn_7631
                    have hf_7637 : Fm (fun c => c = o ∨ (o + 30 ≤ c ∧ c < o + 34)) I0 I_7632 := hf_5407.call fr_7635 (fun c hc => by first | exact hc | (dsimp only at hc ⊢; omega) | omega)
                    have t_7638 : (I_7632 o 3).toInt = (I_5402 o 3).toInt := by rw [kp_7636 3 rfl]
                    have g_7639 : (0 : Int) ≤ (I_7632 o 4).toInt ∧ (I_7632 o 4).toInt ≤ 5 := hR_7634.at0 ra 4 (by decide)
                    have t_7640 : (I_7632 o 6).toInt = (I_5402 o 6).toInt := by rw [kp_7636 6 rfl]
                    have t_7641 : (I_7632 o 7).toInt = (I_5402 o 7).toInt := by rw [kp_7636 7 rfl]
                    have t_7642 : (I_7632 o 8).toInt = (I_5402 o 8).toInt := by rw [kp_7636 8 rfl]
                    have t_7643 : (I_7632 o 9).toInt = (I_5402 o 9).toInt := by rw [kp_7636 9 rfl]
                    have t_7644 : (I_7632 o 44).toInt = (I_5402 o 44).toInt := by rw [kp_7636 44 rfl]
                    have t_7645 : (I_7632 o 45).toInt = (I_5402 o 45).toInt := by rw [kp_7636 45 rfl]
                    have t_7646 : (I_7632 o 47).toInt = (I_5402 o 47).toInt := by rw [kp_7636 47 rfl]
                    have t_7647 : (I_7632 o 48).toInt = (I_5402 o 48).toInt := by rw [kp_7636 48 rfl]
                    have t_7648 : (I_7632 o 46).toInt = (I_5402 o 46).toInt := by rw [kp_7636 46 rfl]
                    have k_7649 : EX 0 0 0 f0 1 I_7632 o := k_5418.fr (fr_7635 _ (by first | omega | (dsimp only; omega))) (fr_7635 _ (by first | omega | (dsimp only; omega))) (fr_7635 _ (by first | omega | (dsimp only; omega))) (fr_7635 _ (by first | omega | (dsimp only; omega))) (fr_7635 _ (by first | omega | (dsimp only; omega))) (kp_7636 3 rfl) (kp_7636 6 rfl) (kp_7636 44 rfl) (kp_7636 45 rfl) (kp_7636 47 rfl) (kp_7636 48 rfl)
                    have k_7650 : MTd I_7632 o := k_5419.fr (fr_7635 _ (by first | omega | (dsimp only; omega))) (fr_7635 _ (by first | omega | (dsimp only; omega))) (fr_7635 _ (by first | omega | (dsimp only; omega)))
                    have k_7651 : MPo I_7632 o := k_5420.fr (kp_7636 8 rfl) (kp_7636 9 rfl)
                    have k_7652 : MTk I_7632 o := k_5421.fr (kp_7636 6 rfl) (kp_7636 7 rfl) (kp_7636 8 rfl)
                    refine y_Model_isGoodg hok hw ra hR_7634 (fun r_7653 u_7654 u_7655 u_7656 gn_7657 => ⟨r_7653, I_7632, L_7633, rfl, rfl, ?_⟩)
                    replace hg := gt_let gn_7657 hg
                    clear gn_7657
                    have b_7658 : 0 ≤ r_7653.toInt ∧ r_7653.toInt ≤ 1 := u_7654.rg
                    refine ⟨fun c_7659 => ?_, fun c_7659 => ?_⟩
                    · have d_7660 := iNe c_7659
                      have i_7661 := u_7655 (by omega)
                      replace hg := gt_neg (by first | exact d_7660 | omega) hg
                      have g_7662 : (0 : Int) ≤ (I_7632 o 46).toInt ∧ (I_7632 o 46).toInt ≤ 100 := hR_7634.at0 ra 46 (by decide)
                      replace hg := gt_let (y := (I_7632 o 46).toInt) rfl hg
                      have a_7663 : ((I_7632 o 46) + 1).toInt = (I_7632 o 46).toInt + (1 : Int32).toInt := tAdd (by omega) (by omega)
                      replace hg := gt_let (y := (((I_7632 o 46) + 1) : Int32).toInt) (by omega) hg
                      refine fun I_7664 e_7665 => ?_
                      replace hg := gt_let (y := tI I_7664) (tI_q e_7665) hg
                      have hR_7666 : RI R I_7664 := hR_7634.up0 (k := 46) ra (by decide) (Or.inr hz56) e_7665 (show (0 : Int) ≤ ((I_7632 o 46) + 1).toInt by omega) (show ((I_7632 o 46) + 1).toInt ≤ (100 : Int) by omega)
                      have hf_7667 : Fm (fun c => c = o ∨ (o + 30 ≤ c ∧ c < o + 34)) I0 I_7664 := hf_7637.set (by first | rfl | omega | (dsimp only; omega)) e_7665
                      have t_7668 : (I_7664 o 3).toInt = (I_7632 o 3).toInt := by rw [← e_7665, q_u_k (by decide)]
                      have t_7669 : (I_7664 o 4).toInt = (I_7632 o 4).toInt := by rw [← e_7665, q_u_k (by decide)]
                      have t_7670 : (I_7664 o 6).toInt = (I_7632 o 6).toInt := by rw [← e_7665, q_u_k (by decide)]
                      have t_7671 : (I_7664 o 7).toInt = (I_7632 o 7).toInt := by rw [← e_7665, q_u_k (by decide)]
                      have t_7672 : (I_7664 o 8).toInt = (I_7632 o 8).toInt := by rw [← e_7665, q_u_k (by decide)]
                      have t_7673 : (I_7664 o 9).toInt = (I_7632 o 9).toInt := by rw [← e_7665, q_u_k (by decide)]
                      have t_7674 : (I_7664 o 44).toInt = (I_7632 o 44).toInt := by rw [← e_7665, q_u_k (by decide)]
                      have t_7675 : (I_7664 o 45).toInt = (I_7632 o 45).toInt := by rw [← e_7665, q_u_k (by decide)]
                      have t_7676 : (I_7664 o 47).toInt = (I_7632 o 47).toInt := by rw [← e_7665, q_u_k (by decide)]
                      have t_7677 : (I_7664 o 48).toInt = (I_7632 o 48).toInt := by rw [← e_7665, q_u_k (by decide)]
                      have t_7678 : (I_7664 o 46).toInt = ((I_7632 o 46) + 1).toInt := by rw [← e_7665, q_u_at]
                      have k_7679 : EX 0 0 0 f0 1 I_7664 o := k_7649.fr (by rw [← e_7665]; exact q_u_ne (by omega)) (by rw [← e_7665]; exact q_u_ne (by omega)) (by rw [← e_7665]; exact q_u_ne (by omega)) (by rw [← e_7665]; exact q_u_ne (by omega)) (by rw [← e_7665]; exact q_u_ne (by omega)) (by rw [← e_7665, q_u_k (by decide)]) (by rw [← e_7665, q_u_k (by decide)]) (by rw [← e_7665, q_u_k (by decide)]) (by rw [← e_7665, q_u_k (by decide)]) (by rw [← e_7665, q_u_k (by decide)]) (by rw [← e_7665, q_u_k (by decide)])
                      have k_7680 : MTd I_7664 o := k_7650.fr (by rw [← e_7665]; exact q_u_ne (by omega)) (by rw [← e_7665]; exact q_u_ne (by omega)) (by rw [← e_7665]; exact q_u_ne (by omega))
                      have k_7681 : MPo I_7664 o := k_7651.fr (by rw [← e_7665, q_u_k (by decide)]) (by rw [← e_7665, q_u_k (by decide)])
                      have k_7682 : MTk I_7664 o := k_7652.fr (by rw [← e_7665, q_u_k (by decide)]) (by rw [← e_7665, q_u_k (by decide)]) (by rw [← e_7665, q_u_k (by decide)])
                      refine y_Model_isg hok hw ra hR_7666 (fun r_7683 u_7684 u_7685 u_7686 gn_7687 => ⟨r_7683, I_7664, L_7633, rfl, rfl, ?_⟩)
                      replace hg := gt_let gn_7687 hg
                      clear gn_7687
                      have b_7688 : 0 ≤ r_7683.toInt ∧ r_7683.toInt ≤ 1 := u_7684.rg
                      refine ⟨fun c_7689 => ?_, fun c_7689 => ?_⟩
                      · have d_7690 := iEq c_7689
                        replace hg := gt_pos (by first | exact d_7690 | omega) hg
                        have cd := k_7679.cod
                        have tk := k_7682.2 (by omega)
                        refine ⟨fun c_7691 => ?_, fun c_7691 => ?_⟩
                        · have d_7692 := iNe c_7691
                          have i_7693 := u_5398 (by omega)
                          have i_7694 := u_5399 (by omega)
                          exfalso; omega
                        · have d_7695 := iEq c_7691
                          replace hg := gt_pos (by first | exact d_7695 | omega) hg
                          unfold fModel_unit_228
                          replace hg := (eModel_unit_228).symm.trans hg
                          have l_7696 : (78 : Int32).toInt = 78 := rfl
                          refine ⟨fun c_7697 => ?_, fun c_7697 => ?_⟩
                          · have d_7698 := iNe c_7697
                            have i_7699 := u_5398 (by omega)
                            have i_7700 := u_5399 (by omega)
                            exfalso; omega
                          · have d_7701 := iEq c_7697
                            replace hg := gt_pos (by first | exact d_7701 | omega) hg
                            replace hg := gt_let (y := (I_7664 o 9).toInt) rfl hg
                            refine y_Model_stepg hok hw ra hz55 (by first | omega | (intro h; omega) | exact Or.inl rfl | exact Or.inr rfl) (by first | omega | (intro h; omega) | exact Or.inl rfl | exact Or.inr rfl) hR_7666 (fun I_7706 L_7707 hR_7708 fr_7709 kp_7710 u_7703 u_7704 gn_7705 => ⟨I_7706, L_7707, rfl, rfl, ?_⟩)
                            replace hg := gt_b3 gn_7705 hg
                            clear gn_7705
                            have hf_7711 : Fm (fun c => c = o ∨ (o + 30 ≤ c ∧ c < o + 34)) I0 I_7706 := hf_7667.call fr_7709 (fun c hc => by first | exact hc | (dsimp only at hc ⊢; omega) | omega)
                            have t_7712 : (I_7706 o 3).toInt = (I_7664 o 3).toInt := by rw [kp_7710 3 rfl]
                            have t_7713 : (I_7706 o 4).toInt = (I_7664 o 4).toInt := by rw [kp_7710 4 rfl]
                            have t_7714 : (I_7706 o 6).toInt = (I_7664 o 6).toInt := by rw [kp_7710 6 rfl]
                            have t_7715 : (I_7706 o 7).toInt = (I_7664 o 7).toInt := by rw [kp_7710 7 rfl]
                            have t_7716 : (I_7706 o 8).toInt = (I_7664 o 8).toInt := by rw [kp_7710 8 rfl]
                            have t_7717 : (I_7706 o 9).toInt = (I_7664 o 9).toInt := by rw [kp_7710 9 rfl]
                            have t_7718 : (I_7706 o 44).toInt = (I_7664 o 44).toInt := by rw [kp_7710 44 rfl]
                            have g_7719 : (0 : Int) ≤ (I_7706 o 45).toInt ∧ (I_7706 o 45).toInt ≤ 700 := hR_7708.at0 ra 45 (by decide)
                            have t_7720 : (I_7706 o 47).toInt = (I_7664 o 47).toInt := by rw [kp_7710 47 rfl]
                            have t_7721 : (I_7706 o 48).toInt = (I_7664 o 48).toInt := by rw [kp_7710 48 rfl]
                            have t_7722 : (I_7706 o 46).toInt = (I_7664 o 46).toInt := by rw [kp_7710 46 rfl]
                            have k_7723 : MPo I_7706 o := k_7681.fr (kp_7710 8 rfl) (kp_7710 9 rfl)
                            have k_7724 : MTk I_7706 o := k_7682.fr (kp_7710 6 rfl) (kp_7710 7 rfl) (kp_7710 8 rfl)
                            have tk := k_7724.2 (by omega)
                            have k_7725 : EX 0 0 1 f0 0 I_7706 o := by exact EX.step1 k_7679 (by first | exact u_5398 (by omega) | (unfold isT; decide)) (by omega) (fr_7709 _ (by first | omega | (dsimp only; omega))) (fr_7709 _ (by first | omega | (dsimp only; omega))) u_7703 (fr_7709 _ (by first | omega | (dsimp only; omega))) (fr_7709 _ (by first | omega | (dsimp only; omega))) (kp_7710 3 rfl) (kp_7710 6 rfl) (kp_7710 44 rfl) u_7704 (kp_7710 47 rfl) (kp_7710 48 rfl)
                            have k_7726 : MTd I_7706 o := by exact MTd.step k_7680 (fr_7709 _ (by first | omega | (dsimp only; omega))) (fr_7709 _ (by first | omega | (dsimp only; omega))) u_7703 (by omega)
                            refine y_Model_nextg hok hw ra hz16 hz17 hz18 hz19 (by first | omega | (intro h; omega) | exact Or.inl rfl | exact Or.inr rfl) hR_7708 (fun I_7737 L_7738 hR_7739 fr_7740 kp_7741 u_7728 u_7729 u_7730 u_7731 u_7732 u_7733 u_7734 u_7735 gn_7736 => ⟨I_7737, L_7738, rfl, rfl, ?_⟩)
                            replace hg := gt_b3 gn_7736 hg
                            clear gn_7736
                            have hf_7742 : Fm (fun c => c = o ∨ (o + 30 ≤ c ∧ c < o + 34)) I0 I_7737 := hf_7711.call fr_7740 (fun c hc => by first | exact hc | (dsimp only at hc ⊢; omega) | omega)
                            have t_7743 : (I_7737 o 3).toInt = (I_7706 o 3).toInt := by rw [kp_7741 3 rfl]
                            have t_7744 : (I_7737 o 4).toInt = (I_7706 o 4).toInt := by rw [kp_7741 4 rfl]
                            have g_7745 : (0 : Int) ≤ (I_7737 o 6).toInt ∧ (I_7737 o 6).toInt ≤ 1600 := hR_7739.at0 ra 6 (by decide)
                            have g_7746 : (0 : Int) ≤ (I_7737 o 7).toInt ∧ (I_7737 o 7).toInt ≤ 1601 := hR_7739.at0 ra 7 (by decide)
                            have g_7747 : (0 : Int) ≤ (I_7737 o 8).toInt ∧ (I_7737 o 8).toInt ≤ 6 := hR_7739.at0 ra 8 (by decide)
                            have t_7748 : (I_7737 o 44).toInt = (I_7706 o 44).toInt := by rw [kp_7741 44 rfl]
                            have t_7749 : (I_7737 o 45).toInt = (I_7706 o 45).toInt := by rw [kp_7741 45 rfl]
                            have t_7750 : (I_7737 o 47).toInt = (I_7706 o 47).toInt := by rw [kp_7741 47 rfl]
                            have t_7751 : (I_7737 o 48).toInt = (I_7706 o 48).toInt := by rw [kp_7741 48 rfl]
                            have t_7752 : (I_7737 o 46).toInt = (I_7706 o 46).toInt := by rw [kp_7741 46 rfl]
                            have k_7753 : MTd I_7737 o := k_7726.fr (fr_7740 _ (by first | omega | (dsimp only; omega))) (fr_7740 _ (by first | omega | (dsimp only; omega))) (fr_7740 _ (by first | omega | (dsimp only; omega)))
                            have ms := u_7731 (by omega)
                            have k_7754 : EX 0 0 0 f0 0 I_7737 o := by exact EX.nx k_7725 (fr_7740 _ (by first | omega | (dsimp only; omega))) (fr_7740 _ (by first | omega | (dsimp only; omega))) (fr_7740 _ (by first | omega | (dsimp only; omega))) (fr_7740 _ (by first | omega | (dsimp only; omega))) (fr_7740 _ (by first | omega | (dsimp only; omega))) (kp_7741 3 rfl) (kp_7741 44 rfl) (kp_7741 45 rfl) (kp_7741 47 rfl) (kp_7741 48 rfl) (by omega) (by omega)
                            exact (hp _ _ _ hR_7739 hf_7742 (Or.inl rfl) (by first | omega | (intro h; omega) | exact Or.inl rfl | exact Or.inr rfl) (by first | omega | (intro h; omega) | exact Or.inl rfl | exact Or.inr rfl) (by first | omega | (intro h; omega) | exact Or.inl rfl | exact Or.inr rfl) (by first | omega | (intro h; omega) | exact Or.inl rfl | exact Or.inr rfl) (by first | omega | (intro h; omega) | exact Or.inl rfl | exact Or.inr rfl) (by clear hg; first | (intro h; exfalso; omega) | exact fun _ => (False.elim (by omega)) | exact fun _ => k_7754) k_7753 u_7734 u_7735 hg.symm)
                      · have d_7755 := iNe c_7689
                        have i_7756 := u_7685 (by omega)
                        have i_7757 := u_7686 (by omega)
                        replace hg := gt_neg (by first | exact d_7755 | omega) hg
                        have g_7758 : (0 : Int) ≤ (I_7664 o 47).toInt ∧ (I_7664 o 47).toInt ≤ 7 := hR_7666.at0 ra 47 (by decide)
                        replace hg := gt_let (y := (I_7664 o 47).toInt) rfl hg
                        refine ⟨fun c_7759 => ?_, fun c_7759 => ?_⟩
                        · have d_7760 := iNe c_7759
                          replace hg := gt_neg (by first | exact d_7760 | omega) hg
                          refine y_Model_isGoodg hok hw ra hR_7666 (fun r_7761 u_7762 u_7763 u_7764 gn_7765 => ⟨r_7761, I_7664, L_7633, rfl, rfl, ?_⟩)
                          replace hg := gt_let gn_7765 hg
                          clear gn_7765
                          have b_7766 : 0 ≤ r_7761.toInt ∧ r_7761.toInt ≤ 1 := u_7762.rg
                          refine ⟨fun c_7767 => ?_, fun c_7767 => ?_⟩
                          · have d_7768 := iNe c_7767
                            have i_7769 := u_7763 (by omega)
                            replace hg := gt_neg (by first | exact d_7768 | omega) hg
                            refine y_Model_pileg hok hw ra hz58 (by first | omega | (intro h; omega) | exact Or.inl rfl | exact Or.inr rfl) (by first | omega | (intro h; omega) | exact Or.inl rfl | exact Or.inr rfl) hR_7666 (fun I_7775 L_7776 hR_7777 fr_7778 kp_7779 u_7771 u_7772 u_7773 gn_7774 => ⟨I_7775, L_7776, rfl, rfl, ?_⟩)
                            replace hg := gt_b3 gn_7774 hg
                            clear gn_7774
                            have hf_7780 : Fm (fun c => c = o ∨ (o + 30 ≤ c ∧ c < o + 34)) I0 I_7775 := hf_7667.call fr_7778 (fun c hc => by first | exact hc | (dsimp only at hc ⊢; omega) | omega)
                            have t_7781 : (I_7775 o 3).toInt = (I_7664 o 3).toInt := by rw [kp_7779 3 rfl]
                            have t_7782 : (I_7775 o 4).toInt = (I_7664 o 4).toInt := by rw [kp_7779 4 rfl]
                            have t_7783 : (I_7775 o 6).toInt = (I_7664 o 6).toInt := by rw [kp_7779 6 rfl]
                            have t_7784 : (I_7775 o 7).toInt = (I_7664 o 7).toInt := by rw [kp_7779 7 rfl]
                            have t_7785 : (I_7775 o 8).toInt = (I_7664 o 8).toInt := by rw [kp_7779 8 rfl]
                            have t_7786 : (I_7775 o 9).toInt = (I_7664 o 9).toInt := by rw [kp_7779 9 rfl]
                            have t_7787 : (I_7775 o 44).toInt = (I_7664 o 44).toInt := by rw [kp_7779 44 rfl]
                            have t_7788 : (I_7775 o 45).toInt = (I_7664 o 45).toInt := by rw [kp_7779 45 rfl]
                            have t_7789 : (I_7775 o 47).toInt = (I_7664 o 47).toInt := by rw [kp_7779 47 rfl]
                            have g_7790 : (0 : Int) ≤ (I_7775 o 48).toInt ∧ (I_7775 o 48).toInt ≤ 80 := hR_7777.at0 ra 48 (by decide)
                            have t_7791 : (I_7775 o 46).toInt = (I_7664 o 46).toInt := by rw [kp_7779 46 rfl]
                            have k_7792 : MTd I_7775 o := k_7680.fr (fr_7778 _ (by first | omega | (dsimp only; omega))) (fr_7778 _ (by first | omega | (dsimp only; omega))) (fr_7778 _ (by first | omega | (dsimp only; omega)))
                            have k_7793 : MPo I_7775 o := k_7681.fr (kp_7779 8 rfl) (kp_7779 9 rfl)
                            have k_7794 : MTk I_7775 o := k_7682.fr (kp_7779 6 rfl) (kp_7779 7 rfl) (kp_7779 8 rfl)
                            have k_7795 : EX 0 1 1 f0 1 I_7775 o := by have z := EX.push k_7679 (v := 7) (s := 0) (dB := 1) (dO := 0) (wt' := 1) (by decide) (by decide) (by decide) (by omega) ⟨by decide, by decide⟩ ⟨fun h => absurd h (by decide), fun h => absurd h (by decide)⟩ (Or.inl rfl) (fr_7778 _ (by first | omega | (dsimp only; omega))) (fr_7778 _ (by first | omega | (dsimp only; omega))) (fr_7778 _ (by first | omega | (dsimp only; omega))) u_7771 u_7772 (kp_7779 3 rfl) (kp_7779 6 rfl) (kp_7779 44 rfl) (kp_7779 45 rfl) (kp_7779 47 rfl) u_7773; exact EX.chg (b' := 1) z rfl rfl rfl rfl rfl rfl rfl rfl rfl rfl (by omega) z.pl
                            have g_7796 : (0 : Int) ≤ (I_7775 o 47).toInt ∧ (I_7775 o 47).toInt ≤ 7 := hR_7777.at0 ra 47 (by decide)
                            replace hg := gt_let (y := (I_7775 o 47).toInt) rfl hg
                            have a_7797 : ((I_7775 o 47) + 1).toInt = (I_7775 o 47).toInt + (1 : Int32).toInt := tAdd (by omega) (by omega)
                            replace hg := gt_let (y := (((I_7775 o 47) + 1) : Int32).toInt) (by omega) hg
                            refine fun I_7798 e_7799 => ?_
                            replace hg := gt_let (y := tI I_7798) (tI_q e_7799) hg
                            have hR_7800 : RI R I_7798 := hR_7777.up0 (k := 47) ra (by decide) (Or.inr hz57) e_7799 (show (0 : Int) ≤ ((I_7775 o 47) + 1).toInt by omega) (show ((I_7775 o 47) + 1).toInt ≤ (7 : Int) by omega)
                            have hf_7801 : Fm (fun c => c = o ∨ (o + 30 ≤ c ∧ c < o + 34)) I0 I_7798 := hf_7780.set (by first | rfl | omega | (dsimp only; omega)) e_7799
                            have t_7802 : (I_7798 o 3).toInt = (I_7775 o 3).toInt := by rw [← e_7799, q_u_k (by decide)]
                            have t_7803 : (I_7798 o 4).toInt = (I_7775 o 4).toInt := by rw [← e_7799, q_u_k (by decide)]
                            have t_7804 : (I_7798 o 6).toInt = (I_7775 o 6).toInt := by rw [← e_7799, q_u_k (by decide)]
                            have t_7805 : (I_7798 o 7).toInt = (I_7775 o 7).toInt := by rw [← e_7799, q_u_k (by decide)]
                            have t_7806 : (I_7798 o 8).toInt = (I_7775 o 8).toInt := by rw [← e_7799, q_u_k (by decide)]
                            have t_7807 : (I_7798 o 9).toInt = (I_7775 o 9).toInt := by rw [← e_7799, q_u_k (by decide)]
                            have t_7808 : (I_7798 o 44).toInt = (I_7775 o 44).toInt := by rw [← e_7799, q_u_k (by decide)]
                            have t_7809 : (I_7798 o 45).toInt = (I_7775 o 45).toInt := by rw [← e_7799, q_u_k (by decide)]
                            have t_7810 : (I_7798 o 47).toInt = ((I_7775 o 47) + 1).toInt := by rw [← e_7799, q_u_at]
                            have t_7811 : (I_7798 o 48).toInt = (I_7775 o 48).toInt := by rw [← e_7799, q_u_k (by decide)]
                            have t_7812 : (I_7798 o 46).toInt = (I_7775 o 46).toInt := by rw [← e_7799, q_u_k (by decide)]
                            have k_7813 : MTd I_7798 o := k_7792.fr (by rw [← e_7799]; exact q_u_ne (by omega)) (by rw [← e_7799]; exact q_u_ne (by omega)) (by rw [← e_7799]; exact q_u_ne (by omega))
                            have k_7814 : MPo I_7798 o := k_7793.fr (by rw [← e_7799, q_u_k (by decide)]) (by rw [← e_7799, q_u_k (by decide)])
                            have k_7815 : MTk I_7798 o := k_7794.fr (by rw [← e_7799, q_u_k (by decide)]) (by rw [← e_7799, q_u_k (by decide)]) (by rw [← e_7799, q_u_k (by decide)])
                            have tk := k_7815.2 (by omega)
                            have k_7817 : EX 0 0 1 f0 1 I_7798 o := by exact EX.put47 k_7795 e_7799 (by omega)
                            refine y_Model_nextg hok hw ra hz16 hz17 hz18 hz19 (by first | omega | (intro h; omega) | exact Or.inl rfl | exact Or.inr rfl) hR_7800 (fun I_7828 L_7829 hR_7830 fr_7831 kp_7832 u_7819 u_7820 u_7821 u_7822 u_7823 u_7824 u_7825 u_7826 gn_7827 => ⟨I_7828, L_7829, rfl, rfl, ?_⟩)
                            replace hg := gt_b3 gn_7827 hg
                            clear gn_7827
                            have hf_7833 : Fm (fun c => c = o ∨ (o + 30 ≤ c ∧ c < o + 34)) I0 I_7828 := hf_7801.call fr_7831 (fun c hc => by first | exact hc | (dsimp only at hc ⊢; omega) | omega)
                            have t_7834 : (I_7828 o 3).toInt = (I_7798 o 3).toInt := by rw [kp_7832 3 rfl]
                            have t_7835 : (I_7828 o 4).toInt = (I_7798 o 4).toInt := by rw [kp_7832 4 rfl]
                            have g_7836 : (0 : Int) ≤ (I_7828 o 6).toInt ∧ (I_7828 o 6).toInt ≤ 1600 := hR_7830.at0 ra 6 (by decide)
                            have g_7837 : (0 : Int) ≤ (I_7828 o 7).toInt ∧ (I_7828 o 7).toInt ≤ 1601 := hR_7830.at0 ra 7 (by decide)
                            have g_7838 : (0 : Int) ≤ (I_7828 o 8).toInt ∧ (I_7828 o 8).toInt ≤ 6 := hR_7830.at0 ra 8 (by decide)
                            have t_7839 : (I_7828 o 44).toInt = (I_7798 o 44).toInt := by rw [kp_7832 44 rfl]
                            have t_7840 : (I_7828 o 45).toInt = (I_7798 o 45).toInt := by rw [kp_7832 45 rfl]
                            have t_7841 : (I_7828 o 47).toInt = (I_7798 o 47).toInt := by rw [kp_7832 47 rfl]
                            have t_7842 : (I_7828 o 48).toInt = (I_7798 o 48).toInt := by rw [kp_7832 48 rfl]
                            have t_7843 : (I_7828 o 46).toInt = (I_7798 o 46).toInt := by rw [kp_7832 46 rfl]
                            have k_7844 : MTd I_7828 o := k_7813.fr (fr_7831 _ (by first | omega | (dsimp only; omega))) (fr_7831 _ (by first | omega | (dsimp only; omega))) (fr_7831 _ (by first | omega | (dsimp only; omega)))
                            have ms := u_7822 (by omega)
                            have k_7845 : EX 0 0 0 f0 1 I_7828 o := by exact EX.nx k_7817 (fr_7831 _ (by first | omega | (dsimp only; omega))) (fr_7831 _ (by first | omega | (dsimp only; omega))) (fr_7831 _ (by first | omega | (dsimp only; omega))) (fr_7831 _ (by first | omega | (dsimp only; omega))) (fr_7831 _ (by first | omega | (dsimp only; omega))) (kp_7832 3 rfl) (kp_7832 44 rfl) (kp_7832 45 rfl) (kp_7832 47 rfl) (kp_7832 48 rfl) (by omega) (by omega)
                            exact (hp _ _ _ hR_7830 hf_7833 (Or.inr rfl) (by first | omega | (intro h; omega) | exact Or.inl rfl | exact Or.inr rfl) (by first | omega | (intro h; omega) | exact Or.inl rfl | exact Or.inr rfl) (by first | omega | (intro h; omega) | exact Or.inl rfl | exact Or.inr rfl) (by first | omega | (intro h; omega) | exact Or.inl rfl | exact Or.inr rfl) (by first | omega | (intro h; omega) | exact Or.inl rfl | exact Or.inr rfl) (by clear hg; first | (intro h; exfalso; omega) | exact fun _ => k_7845 | exact fun _ => (False.elim (by omega))) k_7844 u_7825 u_7826 hg.symm)
                          · have d_7846 := iEq c_7767
                            have i_7847 := u_7764 (by omega)
                            replace hg := gt_pos (by first | exact d_7846 | omega) hg
                            exact (hp _ _ _ hR_7666 hf_7667 (Or.inr rfl) (by first | omega | (intro h; omega) | exact Or.inl rfl | exact Or.inr rfl) (by first | omega | (intro h; omega) | exact Or.inl rfl | exact Or.inr rfl) (by first | omega | (intro h; omega) | exact Or.inl rfl | exact Or.inr rfl) (by first | omega | (intro h; omega) | exact Or.inl rfl | exact Or.inr rfl) (by first | omega | (intro h; omega) | exact Or.inl rfl | exact Or.inr rfl) (by clear hg; first | (intro h; exfalso; omega) | exact fun _ => k_7679 | exact fun _ => (False.elim (by omega))) k_7680 k_7681 k_7682 hg.symm)
                        · have d_7848 := iEq c_7759
                          replace hg := gt_pos (by first | exact d_7848 | omega) hg
                          refine y_Model_wrongg hok hw ra hz14 hz15 hR_7666 (fun I_7853 L_7854 hR_7855 fr_7856 kp_7857 u_7850 u_7851 gn_7852 => ⟨I_7853, L_7854, rfl, rfl, ?_⟩)
                          replace hg := gt_b3 gn_7852 hg
                          clear gn_7852
                          have hf_7858 : Fm (fun c => c = o ∨ (o + 30 ≤ c ∧ c < o + 34)) I0 I_7853 := hf_7667.call fr_7856 (fun c hc => by first | exact hc | (dsimp only at hc ⊢; omega) | omega)
                          have t_7859 : (I_7853 o 3).toInt = (I_7664 o 3).toInt := by rw [kp_7857 3 rfl]
                          have g_7860 : (0 : Int) ≤ (I_7853 o 4).toInt ∧ (I_7853 o 4).toInt ≤ 5 := hR_7855.at0 ra 4 (by decide)
                          have t_7861 : (I_7853 o 6).toInt = (I_7664 o 6).toInt := by rw [kp_7857 6 rfl]
                          have t_7862 : (I_7853 o 7).toInt = (I_7664 o 7).toInt := by rw [kp_7857 7 rfl]
                          have t_7863 : (I_7853 o 8).toInt = (I_7664 o 8).toInt := by rw [kp_7857 8 rfl]
                          have t_7864 : (I_7853 o 9).toInt = (I_7664 o 9).toInt := by rw [kp_7857 9 rfl]
                          have t_7865 : (I_7853 o 44).toInt = (I_7664 o 44).toInt := by rw [kp_7857 44 rfl]
                          have t_7866 : (I_7853 o 45).toInt = (I_7664 o 45).toInt := by rw [kp_7857 45 rfl]
                          have t_7867 : (I_7853 o 47).toInt = (I_7664 o 47).toInt := by rw [kp_7857 47 rfl]
                          have t_7868 : (I_7853 o 48).toInt = (I_7664 o 48).toInt := by rw [kp_7857 48 rfl]
                          have t_7869 : (I_7853 o 46).toInt = (I_7664 o 46).toInt := by rw [kp_7857 46 rfl]
                          have k_7870 : EX 0 0 0 f0 1 I_7853 o := k_7679.fr (fr_7856 _ (by first | omega | (dsimp only; omega))) (fr_7856 _ (by first | omega | (dsimp only; omega))) (fr_7856 _ (by first | omega | (dsimp only; omega))) (fr_7856 _ (by first | omega | (dsimp only; omega))) (fr_7856 _ (by first | omega | (dsimp only; omega))) (kp_7857 3 rfl) (kp_7857 6 rfl) (kp_7857 44 rfl) (kp_7857 45 rfl) (kp_7857 47 rfl) (kp_7857 48 rfl)
                          have k_7871 : MTd I_7853 o := k_7680.fr (fr_7856 _ (by first | omega | (dsimp only; omega))) (fr_7856 _ (by first | omega | (dsimp only; omega))) (fr_7856 _ (by first | omega | (dsimp only; omega)))
                          have k_7872 : MPo I_7853 o := k_7681.fr (kp_7857 8 rfl) (kp_7857 9 rfl)
                          have k_7873 : MTk I_7853 o := k_7682.fr (kp_7857 6 rfl) (kp_7857 7 rfl) (kp_7857 8 rfl)
                          refine y_Model_isGoodg hok hw ra hR_7855 (fun r_7874 u_7875 u_7876 u_7877 gn_7878 => ⟨r_7874, I_7853, L_7854, rfl, rfl, ?_⟩)
                          replace hg := gt_let gn_7878 hg
                          clear gn_7878
                          have b_7879 : 0 ≤ r_7874.toInt ∧ r_7874.toInt ≤ 1 := u_7875.rg
                          refine ⟨fun c_7880 => ?_, fun c_7880 => ?_⟩
                          · have d_7881 := iNe c_7880
                            have i_7882 := u_7876 (by omega)
                            replace hg := gt_neg (by first | exact d_7881 | omega) hg
                            refine y_Model_pileg hok hw ra hz58 (by first | omega | (intro h; omega) | exact Or.inl rfl | exact Or.inr rfl) (by first | omega | (intro h; omega) | exact Or.inl rfl | exact Or.inr rfl) hR_7855 (fun I_7888 L_7889 hR_7890 fr_7891 kp_7892 u_7884 u_7885 u_7886 gn_7887 => ⟨I_7888, L_7889, rfl, rfl, ?_⟩)
                            replace hg := gt_b3 gn_7887 hg
                            clear gn_7887
                            have hf_7893 : Fm (fun c => c = o ∨ (o + 30 ≤ c ∧ c < o + 34)) I0 I_7888 := hf_7858.call fr_7891 (fun c hc => by first | exact hc | (dsimp only at hc ⊢; omega) | omega)
                            have t_7894 : (I_7888 o 3).toInt = (I_7853 o 3).toInt := by rw [kp_7892 3 rfl]
                            have t_7895 : (I_7888 o 4).toInt = (I_7853 o 4).toInt := by rw [kp_7892 4 rfl]
                            have t_7896 : (I_7888 o 6).toInt = (I_7853 o 6).toInt := by rw [kp_7892 6 rfl]
                            have t_7897 : (I_7888 o 7).toInt = (I_7853 o 7).toInt := by rw [kp_7892 7 rfl]
                            have t_7898 : (I_7888 o 8).toInt = (I_7853 o 8).toInt := by rw [kp_7892 8 rfl]
                            have t_7899 : (I_7888 o 9).toInt = (I_7853 o 9).toInt := by rw [kp_7892 9 rfl]
                            have t_7900 : (I_7888 o 44).toInt = (I_7853 o 44).toInt := by rw [kp_7892 44 rfl]
                            have t_7901 : (I_7888 o 45).toInt = (I_7853 o 45).toInt := by rw [kp_7892 45 rfl]
                            have t_7902 : (I_7888 o 47).toInt = (I_7853 o 47).toInt := by rw [kp_7892 47 rfl]
                            have g_7903 : (0 : Int) ≤ (I_7888 o 48).toInt ∧ (I_7888 o 48).toInt ≤ 80 := hR_7890.at0 ra 48 (by decide)
                            have t_7904 : (I_7888 o 46).toInt = (I_7853 o 46).toInt := by rw [kp_7892 46 rfl]
                            have k_7905 : MTd I_7888 o := k_7871.fr (fr_7891 _ (by first | omega | (dsimp only; omega))) (fr_7891 _ (by first | omega | (dsimp only; omega))) (fr_7891 _ (by first | omega | (dsimp only; omega)))
                            have k_7906 : MPo I_7888 o := k_7872.fr (kp_7892 8 rfl) (kp_7892 9 rfl)
                            have k_7907 : MTk I_7888 o := k_7873.fr (kp_7892 6 rfl) (kp_7892 7 rfl) (kp_7892 8 rfl)
                            have k_7908 : EX 0 1 1 f0 1 I_7888 o := by have z := EX.push k_7870 (v := 7) (s := 0) (dB := 1) (dO := 0) (wt' := 1) (by decide) (by decide) (by decide) (by omega) ⟨by decide, by decide⟩ ⟨fun h => absurd h (by decide), fun h => absurd h (by decide)⟩ (Or.inl rfl) (fr_7891 _ (by first | omega | (dsimp only; omega))) (fr_7891 _ (by first | omega | (dsimp only; omega))) (fr_7891 _ (by first | omega | (dsimp only; omega))) u_7884 u_7885 (kp_7892 3 rfl) (kp_7892 6 rfl) (kp_7892 44 rfl) (kp_7892 45 rfl) (kp_7892 47 rfl) u_7886; exact EX.chg (b' := 1) z rfl rfl rfl rfl rfl rfl rfl rfl rfl rfl (by omega) z.pl
                            have g_7909 : (0 : Int) ≤ (I_7888 o 47).toInt ∧ (I_7888 o 47).toInt ≤ 7 := hR_7890.at0 ra 47 (by decide)
                            replace hg := gt_let (y := (I_7888 o 47).toInt) rfl hg
                            have a_7910 : ((I_7888 o 47) + 1).toInt = (I_7888 o 47).toInt + (1 : Int32).toInt := tAdd (by omega) (by omega)
                            replace hg := gt_let (y := (((I_7888 o 47) + 1) : Int32).toInt) (by omega) hg
                            refine fun I_7911 e_7912 => ?_
                            replace hg := gt_let (y := tI I_7911) (tI_q e_7912) hg
                            have hR_7913 : RI R I_7911 := hR_7890.up0 (k := 47) ra (by decide) (Or.inr hz57) e_7912 (show (0 : Int) ≤ ((I_7888 o 47) + 1).toInt by omega) (show ((I_7888 o 47) + 1).toInt ≤ (7 : Int) by omega)
                            have hf_7914 : Fm (fun c => c = o ∨ (o + 30 ≤ c ∧ c < o + 34)) I0 I_7911 := hf_7893.set (by first | rfl | omega | (dsimp only; omega)) e_7912
                            have t_7915 : (I_7911 o 3).toInt = (I_7888 o 3).toInt := by rw [← e_7912, q_u_k (by decide)]
                            have t_7916 : (I_7911 o 4).toInt = (I_7888 o 4).toInt := by rw [← e_7912, q_u_k (by decide)]
                            have t_7917 : (I_7911 o 6).toInt = (I_7888 o 6).toInt := by rw [← e_7912, q_u_k (by decide)]
                            have t_7918 : (I_7911 o 7).toInt = (I_7888 o 7).toInt := by rw [← e_7912, q_u_k (by decide)]
                            have t_7919 : (I_7911 o 8).toInt = (I_7888 o 8).toInt := by rw [← e_7912, q_u_k (by decide)]
                            have t_7920 : (I_7911 o 9).toInt = (I_7888 o 9).toInt := by rw [← e_7912, q_u_k (by decide)]
                            have t_7921 : (I_7911 o 44).toInt = (I_7888 o 44).toInt := by rw [← e_7912, q_u_k (by decide)]
                            have t_7922 : (I_7911 o 45).toInt = (I_7888 o 45).toInt := by rw [← e_7912, q_u_k (by decide)]
                            have t_7923 : (I_7911 o 47).toInt = ((I_7888 o 47) + 1).toInt := by rw [← e_7912, q_u_at]
                            have t_7924 : (I_7911 o 48).toInt = (I_7888 o 48).toInt := by rw [← e_7912, q_u_k (by decide)]
                            have t_7925 : (I_7911 o 46).toInt = (I_7888 o 46).toInt := by rw [← e_7912, q_u_k (by decide)]
                            have k_7926 : MTd I_7911 o := k_7905.fr (by rw [← e_7912]; exact q_u_ne (by omega)) (by rw [← e_7912]; exact q_u_ne (by omega)) (by rw [← e_7912]; exact q_u_ne (by omega))
                            have k_7927 : MPo I_7911 o := k_7906.fr (by rw [← e_7912, q_u_k (by decide)]) (by rw [← e_7912, q_u_k (by decide)])
                            have k_7928 : MTk I_7911 o := k_7907.fr (by rw [← e_7912, q_u_k (by decide)]) (by rw [← e_7912, q_u_k (by decide)]) (by rw [← e_7912, q_u_k (by decide)])
                            have tk := k_7928.2 (by omega)
                            have k_7930 : EX 0 0 1 f0 1 I_7911 o := by exact EX.put47 k_7908 e_7912 (by omega)
                            refine y_Model_nextg hok hw ra hz16 hz17 hz18 hz19 (by first | omega | (intro h; omega) | exact Or.inl rfl | exact Or.inr rfl) hR_7913 (fun I_7941 L_7942 hR_7943 fr_7944 kp_7945 u_7932 u_7933 u_7934 u_7935 u_7936 u_7937 u_7938 u_7939 gn_7940 => ⟨I_7941, L_7942, rfl, rfl, ?_⟩)
                            replace hg := gt_b3 gn_7940 hg
                            clear gn_7940
                            have hf_7946 : Fm (fun c => c = o ∨ (o + 30 ≤ c ∧ c < o + 34)) I0 I_7941 := hf_7914.call fr_7944 (fun c hc => by first | exact hc | (dsimp only at hc ⊢; omega) | omega)
                            have t_7947 : (I_7941 o 3).toInt = (I_7911 o 3).toInt := by rw [kp_7945 3 rfl]
                            have t_7948 : (I_7941 o 4).toInt = (I_7911 o 4).toInt := by rw [kp_7945 4 rfl]
                            have g_7949 : (0 : Int) ≤ (I_7941 o 6).toInt ∧ (I_7941 o 6).toInt ≤ 1600 := hR_7943.at0 ra 6 (by decide)
                            have g_7950 : (0 : Int) ≤ (I_7941 o 7).toInt ∧ (I_7941 o 7).toInt ≤ 1601 := hR_7943.at0 ra 7 (by decide)
                            have g_7951 : (0 : Int) ≤ (I_7941 o 8).toInt ∧ (I_7941 o 8).toInt ≤ 6 := hR_7943.at0 ra 8 (by decide)
                            have t_7952 : (I_7941 o 44).toInt = (I_7911 o 44).toInt := by rw [kp_7945 44 rfl]
                            have t_7953 : (I_7941 o 45).toInt = (I_7911 o 45).toInt := by rw [kp_7945 45 rfl]
                            have t_7954 : (I_7941 o 47).toInt = (I_7911 o 47).toInt := by rw [kp_7945 47 rfl]
                            have t_7955 : (I_7941 o 48).toInt = (I_7911 o 48).toInt := by rw [kp_7945 48 rfl]
                            have t_7956 : (I_7941 o 46).toInt = (I_7911 o 46).toInt := by rw [kp_7945 46 rfl]
                            have k_7957 : MTd I_7941 o := k_7926.fr (fr_7944 _ (by first | omega | (dsimp only; omega))) (fr_7944 _ (by first | omega | (dsimp only; omega))) (fr_7944 _ (by first | omega | (dsimp only; omega)))
                            have ms := u_7935 (by omega)
                            have k_7958 : EX 0 0 0 f0 1 I_7941 o := by exact EX.nx k_7930 (fr_7944 _ (by first | omega | (dsimp only; omega))) (fr_7944 _ (by first | omega | (dsimp only; omega))) (fr_7944 _ (by first | omega | (dsimp only; omega))) (fr_7944 _ (by first | omega | (dsimp only; omega))) (fr_7944 _ (by first | omega | (dsimp only; omega))) (kp_7945 3 rfl) (kp_7945 44 rfl) (kp_7945 45 rfl) (kp_7945 47 rfl) (kp_7945 48 rfl) (by omega) (by omega)
                            exact (hp _ _ _ hR_7943 hf_7946 (Or.inr rfl) (by first | omega | (intro h; omega) | exact Or.inl rfl | exact Or.inr rfl) (by first | omega | (intro h; omega) | exact Or.inl rfl | exact Or.inr rfl) (by first | omega | (intro h; omega) | exact Or.inl rfl | exact Or.inr rfl) (by first | omega | (intro h; omega) | exact Or.inl rfl | exact Or.inr rfl) (by first | omega | (intro h; omega) | exact Or.inl rfl | exact Or.inr rfl) (by clear hg; first | (intro h; exfalso; omega) | exact fun _ => k_7958 | exact fun _ => (False.elim (by omega))) k_7957 u_7938 u_7939 hg.symm)
                          · have d_7959 := iEq c_7880
                            have i_7960 := u_7877 (by omega)
                            replace hg := gt_pos (by first | exact d_7959 | omega) hg
                            exact (hp _ _ _ hR_7855 hf_7858 (Or.inr rfl) (by first | omega | (intro h; omega) | exact Or.inl rfl | exact Or.inr rfl) (by first | omega | (intro h; omega) | exact Or.inl rfl | exact Or.inr rfl) (by first | omega | (intro h; omega) | exact Or.inl rfl | exact Or.inr rfl) (by first | omega | (intro h; omega) | exact Or.inl rfl | exact Or.inr rfl) (by first | omega | (intro h; omega) | exact Or.inl rfl | exact Or.inr rfl) (by clear hg; first | (intro h; exfalso; omega) | exact fun _ => k_7870 | exact fun _ => (False.elim (by omega))) k_7871 k_7872 k_7873 hg.symm)
                    · have d_7961 := iEq c_7659
                      have i_7962 := u_7656 (by omega)
                      replace hg := gt_pos (by first | exact d_7961 | omega) hg
                      exact (hp _ _ _ hR_7634 hf_7637 (Or.inr rfl) (by first | omega | (intro h; omega) | exact Or.inl rfl | exact Or.inr rfl) (by first | omega | (intro h; omega) | exact Or.inl rfl | exact Or.inr rfl) (by first | omega | (intro h; omega) | exact Or.inl rfl | exact Or.inr rfl) (by first | omega | (intro h; omega) | exact Or.inl rfl | exact Or.inr rfl) (by first | omega | (intro h; omega) | exact Or.inl rfl | exact Or.inr rfl) (by clear hg; first | (intro h; exfalso; omega) | exact fun _ => k_7649 | exact fun _ => (False.elim (by omega))) k_7650 k_7651 k_7652 hg.symm)
          · have d_7963 := iEq c_5428
            have i_7964 := u_5425 (by omega)
            replace hg := gt_pos (by first | exact d_7963 | omega) hg
            exact (hp _ _ _ hR_5404 hf_5407 (Or.inr rfl) (by first | omega | (intro h; omega) | exact Or.inl rfl | exact Or.inr rfl) (by first | omega | (intro h; omega) | exact Or.inl rfl | exact Or.inr rfl) (by first | omega | (intro h; omega) | exact Or.inl rfl | exact Or.inr rfl) (by first | omega | (intro h; omega) | exact Or.inl rfl | exact Or.inr rfl) (by first | omega | (intro h; omega) | exact Or.inl rfl | exact Or.inr rfl) (by clear hg; first | (intro h; exfalso; omega) | exact fun _ => k_5418 | exact fun _ => (False.elim (by omega))) k_5419 k_5420 k_5421 hg.symm)
        · have d_7965 := iNe c_5395
          have i_7966 := u_5392 (by omega)
          replace hg := gt_neg (by first | exact d_7965 | omega) hg
          have g_7967 : (0 : Int) ≤ (I0 o 47).toInt ∧ (I0 o 47).toInt ≤ 7 := hR.at0 ra 47 (by decide)
          replace hg := gt_let (y := (I0 o 47).toInt) rfl hg
          refine ⟨fun c_7968 => ?_, fun c_7968 => ?_⟩
          · have d_7969 := iNe c_7968
            replace hg := gt_neg (by first | exact d_7969 | omega) hg
            refine y_Model_isGoodg hok hw ra hR (fun r_7970 u_7971 u_7972 u_7973 gn_7974 => ⟨r_7970, I0, L0, rfl, rfl, ?_⟩)
            replace hg := gt_let gn_7974 hg
            clear gn_7974
            have b_7975 : 0 ≤ r_7970.toInt ∧ r_7970.toInt ≤ 1 := u_7971.rg
            refine ⟨fun c_7976 => ?_, fun c_7976 => ?_⟩
            · have d_7977 := iNe c_7976
              have i_7978 := u_7972 (by omega)
              replace hg := gt_neg (by first | exact d_7977 | omega) hg
              have l_7979 : (126 : Int32).toInt = 126 := rfl
              refine y_Model_pileg hok hw ra hz58 (by first | omega | (intro h; omega) | exact Or.inl rfl | exact Or.inr rfl) (by first | omega | (intro h; omega) | exact Or.inl rfl | exact Or.inr rfl) hR (fun I_7985 L_7986 hR_7987 fr_7988 kp_7989 u_7981 u_7982 u_7983 gn_7984 => ⟨I_7985, L_7986, rfl, rfl, ?_⟩)
              replace hg := gt_b3 gn_7984 hg
              clear gn_7984
              have hf_7990 : Fm (fun c => c = o ∨ (o + 30 ≤ c ∧ c < o + 34)) I0 I_7985 := hf.call fr_7988 (fun c hc => by first | exact hc | (dsimp only at hc ⊢; omega) | omega)
              have t_7991 : (I_7985 o 3).toInt = (I0 o 3).toInt := by rw [kp_7989 3 rfl]
              have t_7992 : (I_7985 o 4).toInt = (I0 o 4).toInt := by rw [kp_7989 4 rfl]
              have t_7993 : (I_7985 o 6).toInt = (I0 o 6).toInt := by rw [kp_7989 6 rfl]
              have t_7994 : (I_7985 o 7).toInt = (I0 o 7).toInt := by rw [kp_7989 7 rfl]
              have t_7995 : (I_7985 o 8).toInt = (I0 o 8).toInt := by rw [kp_7989 8 rfl]
              have t_7996 : (I_7985 o 9).toInt = (I0 o 9).toInt := by rw [kp_7989 9 rfl]
              have t_7997 : (I_7985 o 44).toInt = (I0 o 44).toInt := by rw [kp_7989 44 rfl]
              have t_7998 : (I_7985 o 45).toInt = (I0 o 45).toInt := by rw [kp_7989 45 rfl]
              have t_7999 : (I_7985 o 47).toInt = (I0 o 47).toInt := by rw [kp_7989 47 rfl]
              have g_8000 : (0 : Int) ≤ (I_7985 o 48).toInt ∧ (I_7985 o 48).toInt ≤ 80 := hR_7987.at0 ra 48 (by decide)
              have k_8001 : MTd I_7985 o := hq3.fr (fr_7988 _ (by first | omega | (dsimp only; omega))) (fr_7988 _ (by first | omega | (dsimp only; omega))) (fr_7988 _ (by first | omega | (dsimp only; omega)))
              have k_8002 : MPo I_7985 o := hq4.fr (kp_7989 8 rfl) (kp_7989 9 rfl)
              have k_8003 : MTk I_7985 o := hq5.fr (kp_7989 6 rfl) (kp_7989 7 rfl) (kp_7989 8 rfl)
              have k_8004 : EX 0 1 1 f0 1 I_7985 o := by exact EX.push hq2 (by decide) (by decide) (by decide) (by omega) ⟨by decide, by decide⟩ ⟨fun _ => rfl, fun h => absurd h (by decide)⟩ (Or.inl rfl) (fr_7988 _ (by first | omega | (dsimp only; omega))) (fr_7988 _ (by first | omega | (dsimp only; omega))) (fr_7988 _ (by first | omega | (dsimp only; omega))) u_7981 u_7982 (kp_7989 3 rfl) (kp_7989 6 rfl) (kp_7989 44 rfl) (kp_7989 45 rfl) (kp_7989 47 rfl) u_7983
              have g_8005 : (0 : Int) ≤ (I_7985 o 47).toInt ∧ (I_7985 o 47).toInt ≤ 7 := hR_7987.at0 ra 47 (by decide)
              replace hg := gt_let (y := (I_7985 o 47).toInt) rfl hg
              have a_8006 : ((I_7985 o 47) + 1).toInt = (I_7985 o 47).toInt + (1 : Int32).toInt := tAdd (by omega) (by omega)
              replace hg := gt_let (y := (((I_7985 o 47) + 1) : Int32).toInt) (by omega) hg
              refine fun I_8007 e_8008 => ?_
              replace hg := gt_let (y := tI I_8007) (tI_q e_8008) hg
              have hR_8009 : RI R I_8007 := hR_7987.up0 (k := 47) ra (by decide) (Or.inr hz57) e_8008 (show (0 : Int) ≤ ((I_7985 o 47) + 1).toInt by omega) (show ((I_7985 o 47) + 1).toInt ≤ (7 : Int) by omega)
              have hf_8010 : Fm (fun c => c = o ∨ (o + 30 ≤ c ∧ c < o + 34)) I0 I_8007 := hf_7990.set (by first | rfl | omega | (dsimp only; omega)) e_8008
              have t_8011 : (I_8007 o 3).toInt = (I_7985 o 3).toInt := by rw [← e_8008, q_u_k (by decide)]
              have t_8012 : (I_8007 o 4).toInt = (I_7985 o 4).toInt := by rw [← e_8008, q_u_k (by decide)]
              have t_8013 : (I_8007 o 6).toInt = (I_7985 o 6).toInt := by rw [← e_8008, q_u_k (by decide)]
              have t_8014 : (I_8007 o 7).toInt = (I_7985 o 7).toInt := by rw [← e_8008, q_u_k (by decide)]
              have t_8015 : (I_8007 o 8).toInt = (I_7985 o 8).toInt := by rw [← e_8008, q_u_k (by decide)]
              have t_8016 : (I_8007 o 9).toInt = (I_7985 o 9).toInt := by rw [← e_8008, q_u_k (by decide)]
              have t_8017 : (I_8007 o 44).toInt = (I_7985 o 44).toInt := by rw [← e_8008, q_u_k (by decide)]
              have t_8018 : (I_8007 o 45).toInt = (I_7985 o 45).toInt := by rw [← e_8008, q_u_k (by decide)]
              have t_8019 : (I_8007 o 47).toInt = ((I_7985 o 47) + 1).toInt := by rw [← e_8008, q_u_at]
              have t_8020 : (I_8007 o 48).toInt = (I_7985 o 48).toInt := by rw [← e_8008, q_u_k (by decide)]
              have k_8021 : MTd I_8007 o := k_8001.fr (by rw [← e_8008]; exact q_u_ne (by omega)) (by rw [← e_8008]; exact q_u_ne (by omega)) (by rw [← e_8008]; exact q_u_ne (by omega))
              have k_8022 : MPo I_8007 o := k_8002.fr (by rw [← e_8008, q_u_k (by decide)]) (by rw [← e_8008, q_u_k (by decide)])
              have k_8023 : MTk I_8007 o := k_8003.fr (by rw [← e_8008, q_u_k (by decide)]) (by rw [← e_8008, q_u_k (by decide)]) (by rw [← e_8008, q_u_k (by decide)])
              have tk := k_8023.2 (by omega)
              have k_8025 : EX 0 0 1 f0 1 I_8007 o := by exact EX.put47 k_8004 e_8008 (by omega)
              refine y_Model_nextg hok hw ra hz16 hz17 hz18 hz19 (by first | omega | (intro h; omega) | exact Or.inl rfl | exact Or.inr rfl) hR_8009 (fun I_8036 L_8037 hR_8038 fr_8039 kp_8040 u_8027 u_8028 u_8029 u_8030 u_8031 u_8032 u_8033 u_8034 gn_8035 => ⟨I_8036, L_8037, rfl, rfl, ?_⟩)
              replace hg := gt_b3 gn_8035 hg
              clear gn_8035
              have hf_8041 : Fm (fun c => c = o ∨ (o + 30 ≤ c ∧ c < o + 34)) I0 I_8036 := hf_8010.call fr_8039 (fun c hc => by first | exact hc | (dsimp only at hc ⊢; omega) | omega)
              have t_8042 : (I_8036 o 3).toInt = (I_8007 o 3).toInt := by rw [kp_8040 3 rfl]
              have t_8043 : (I_8036 o 4).toInt = (I_8007 o 4).toInt := by rw [kp_8040 4 rfl]
              have g_8044 : (0 : Int) ≤ (I_8036 o 6).toInt ∧ (I_8036 o 6).toInt ≤ 1600 := hR_8038.at0 ra 6 (by decide)
              have g_8045 : (0 : Int) ≤ (I_8036 o 7).toInt ∧ (I_8036 o 7).toInt ≤ 1601 := hR_8038.at0 ra 7 (by decide)
              have g_8046 : (0 : Int) ≤ (I_8036 o 8).toInt ∧ (I_8036 o 8).toInt ≤ 6 := hR_8038.at0 ra 8 (by decide)
              have t_8047 : (I_8036 o 44).toInt = (I_8007 o 44).toInt := by rw [kp_8040 44 rfl]
              have t_8048 : (I_8036 o 45).toInt = (I_8007 o 45).toInt := by rw [kp_8040 45 rfl]
              have t_8049 : (I_8036 o 47).toInt = (I_8007 o 47).toInt := by rw [kp_8040 47 rfl]
              have t_8050 : (I_8036 o 48).toInt = (I_8007 o 48).toInt := by rw [kp_8040 48 rfl]
              have k_8051 : MTd I_8036 o := k_8021.fr (fr_8039 _ (by first | omega | (dsimp only; omega))) (fr_8039 _ (by first | omega | (dsimp only; omega))) (fr_8039 _ (by first | omega | (dsimp only; omega)))
              have ms := u_8030 (by omega)
              have k_8052 : EX 0 0 0 f0 1 I_8036 o := by exact EX.nx k_8025 (fr_8039 _ (by first | omega | (dsimp only; omega))) (fr_8039 _ (by first | omega | (dsimp only; omega))) (fr_8039 _ (by first | omega | (dsimp only; omega))) (fr_8039 _ (by first | omega | (dsimp only; omega))) (fr_8039 _ (by first | omega | (dsimp only; omega))) (kp_8040 3 rfl) (kp_8040 44 rfl) (kp_8040 45 rfl) (kp_8040 47 rfl) (kp_8040 48 rfl) (by omega) (by omega)
              exact (hp _ _ _ hR_8038 hf_8041 (Or.inr rfl) (by first | omega | (intro h; omega) | exact Or.inl rfl | exact Or.inr rfl) (by first | omega | (intro h; omega) | exact Or.inl rfl | exact Or.inr rfl) (by first | omega | (intro h; omega) | exact Or.inl rfl | exact Or.inr rfl) (by first | omega | (intro h; omega) | exact Or.inl rfl | exact Or.inr rfl) (by first | omega | (intro h; omega) | exact Or.inl rfl | exact Or.inr rfl) (by clear hg; first | (intro h; exfalso; omega) | exact fun _ => k_8052 | exact fun _ => (False.elim (by omega))) k_8051 u_8033 u_8034 hg.symm)
            · have d_8053 := iEq c_7976
              have i_8054 := u_7973 (by omega)
              replace hg := gt_pos (by first | exact d_8053 | omega) hg
              exact (hp _ _ _ hR hf (Or.inr rfl) (by first | omega | (intro h; omega) | exact Or.inl rfl | exact Or.inr rfl) (by first | omega | (intro h; omega) | exact Or.inl rfl | exact Or.inr rfl) (by first | omega | (intro h; omega) | exact Or.inl rfl | exact Or.inr rfl) (by first | omega | (intro h; omega) | exact Or.inl rfl | exact Or.inr rfl) (by first | omega | (intro h; omega) | exact Or.inl rfl | exact Or.inr rfl) (by clear hg; first | (intro h; exfalso; omega) | exact fun _ => hq2 | exact fun _ => (False.elim (by omega))) hq3 hq4 hq5 hg.symm)
          · have d_8055 := iEq c_7968
            replace hg := gt_pos (by first | exact d_8055 | omega) hg
            refine y_Model_wrongg hok hw ra hz14 hz15 hR (fun I_8060 L_8061 hR_8062 fr_8063 kp_8064 u_8057 u_8058 gn_8059 => ⟨I_8060, L_8061, rfl, rfl, ?_⟩)
            replace hg := gt_b3 gn_8059 hg
            clear gn_8059
            have hf_8065 : Fm (fun c => c = o ∨ (o + 30 ≤ c ∧ c < o + 34)) I0 I_8060 := hf.call fr_8063 (fun c hc => by first | exact hc | (dsimp only at hc ⊢; omega) | omega)
            have t_8066 : (I_8060 o 3).toInt = (I0 o 3).toInt := by rw [kp_8064 3 rfl]
            have g_8067 : (0 : Int) ≤ (I_8060 o 4).toInt ∧ (I_8060 o 4).toInt ≤ 5 := hR_8062.at0 ra 4 (by decide)
            have t_8068 : (I_8060 o 6).toInt = (I0 o 6).toInt := by rw [kp_8064 6 rfl]
            have t_8069 : (I_8060 o 7).toInt = (I0 o 7).toInt := by rw [kp_8064 7 rfl]
            have t_8070 : (I_8060 o 8).toInt = (I0 o 8).toInt := by rw [kp_8064 8 rfl]
            have t_8071 : (I_8060 o 9).toInt = (I0 o 9).toInt := by rw [kp_8064 9 rfl]
            have t_8072 : (I_8060 o 44).toInt = (I0 o 44).toInt := by rw [kp_8064 44 rfl]
            have t_8073 : (I_8060 o 45).toInt = (I0 o 45).toInt := by rw [kp_8064 45 rfl]
            have t_8074 : (I_8060 o 47).toInt = (I0 o 47).toInt := by rw [kp_8064 47 rfl]
            have t_8075 : (I_8060 o 48).toInt = (I0 o 48).toInt := by rw [kp_8064 48 rfl]
            have k_8076 : EX 0 0 0 f0 1 I_8060 o := hq2.fr (fr_8063 _ (by first | omega | (dsimp only; omega))) (fr_8063 _ (by first | omega | (dsimp only; omega))) (fr_8063 _ (by first | omega | (dsimp only; omega))) (fr_8063 _ (by first | omega | (dsimp only; omega))) (fr_8063 _ (by first | omega | (dsimp only; omega))) (kp_8064 3 rfl) (kp_8064 6 rfl) (kp_8064 44 rfl) (kp_8064 45 rfl) (kp_8064 47 rfl) (kp_8064 48 rfl)
            have k_8077 : MTd I_8060 o := hq3.fr (fr_8063 _ (by first | omega | (dsimp only; omega))) (fr_8063 _ (by first | omega | (dsimp only; omega))) (fr_8063 _ (by first | omega | (dsimp only; omega)))
            have k_8078 : MPo I_8060 o := hq4.fr (kp_8064 8 rfl) (kp_8064 9 rfl)
            have k_8079 : MTk I_8060 o := hq5.fr (kp_8064 6 rfl) (kp_8064 7 rfl) (kp_8064 8 rfl)
            refine y_Model_isGoodg hok hw ra hR_8062 (fun r_8080 u_8081 u_8082 u_8083 gn_8084 => ⟨r_8080, I_8060, L_8061, rfl, rfl, ?_⟩)
            replace hg := gt_let gn_8084 hg
            clear gn_8084
            have b_8085 : 0 ≤ r_8080.toInt ∧ r_8080.toInt ≤ 1 := u_8081.rg
            refine ⟨fun c_8086 => ?_, fun c_8086 => ?_⟩
            · have d_8087 := iNe c_8086
              have i_8088 := u_8082 (by omega)
              replace hg := gt_neg (by first | exact d_8087 | omega) hg
              have l_8089 : (126 : Int32).toInt = 126 := rfl
              refine y_Model_pileg hok hw ra hz58 (by first | omega | (intro h; omega) | exact Or.inl rfl | exact Or.inr rfl) (by first | omega | (intro h; omega) | exact Or.inl rfl | exact Or.inr rfl) hR_8062 (fun I_8095 L_8096 hR_8097 fr_8098 kp_8099 u_8091 u_8092 u_8093 gn_8094 => ⟨I_8095, L_8096, rfl, rfl, ?_⟩)
              replace hg := gt_b3 gn_8094 hg
              clear gn_8094
              have hf_8100 : Fm (fun c => c = o ∨ (o + 30 ≤ c ∧ c < o + 34)) I0 I_8095 := hf_8065.call fr_8098 (fun c hc => by first | exact hc | (dsimp only at hc ⊢; omega) | omega)
              have t_8101 : (I_8095 o 3).toInt = (I_8060 o 3).toInt := by rw [kp_8099 3 rfl]
              have t_8102 : (I_8095 o 4).toInt = (I_8060 o 4).toInt := by rw [kp_8099 4 rfl]
              have t_8103 : (I_8095 o 6).toInt = (I_8060 o 6).toInt := by rw [kp_8099 6 rfl]
              have t_8104 : (I_8095 o 7).toInt = (I_8060 o 7).toInt := by rw [kp_8099 7 rfl]
              have t_8105 : (I_8095 o 8).toInt = (I_8060 o 8).toInt := by rw [kp_8099 8 rfl]
              have t_8106 : (I_8095 o 9).toInt = (I_8060 o 9).toInt := by rw [kp_8099 9 rfl]
              have t_8107 : (I_8095 o 44).toInt = (I_8060 o 44).toInt := by rw [kp_8099 44 rfl]
              have t_8108 : (I_8095 o 45).toInt = (I_8060 o 45).toInt := by rw [kp_8099 45 rfl]
              have t_8109 : (I_8095 o 47).toInt = (I_8060 o 47).toInt := by rw [kp_8099 47 rfl]
              have g_8110 : (0 : Int) ≤ (I_8095 o 48).toInt ∧ (I_8095 o 48).toInt ≤ 80 := hR_8097.at0 ra 48 (by decide)
              have k_8111 : MTd I_8095 o := k_8077.fr (fr_8098 _ (by first | omega | (dsimp only; omega))) (fr_8098 _ (by first | omega | (dsimp only; omega))) (fr_8098 _ (by first | omega | (dsimp only; omega)))
              have k_8112 : MPo I_8095 o := k_8078.fr (kp_8099 8 rfl) (kp_8099 9 rfl)
              have k_8113 : MTk I_8095 o := k_8079.fr (kp_8099 6 rfl) (kp_8099 7 rfl) (kp_8099 8 rfl)
              have k_8114 : EX 0 1 1 f0 1 I_8095 o := by exact EX.push k_8076 (by decide) (by decide) (by decide) (by omega) ⟨by decide, by decide⟩ ⟨fun _ => rfl, fun h => absurd h (by decide)⟩ (Or.inl rfl) (fr_8098 _ (by first | omega | (dsimp only; omega))) (fr_8098 _ (by first | omega | (dsimp only; omega))) (fr_8098 _ (by first | omega | (dsimp only; omega))) u_8091 u_8092 (kp_8099 3 rfl) (kp_8099 6 rfl) (kp_8099 44 rfl) (kp_8099 45 rfl) (kp_8099 47 rfl) u_8093
              have g_8115 : (0 : Int) ≤ (I_8095 o 47).toInt ∧ (I_8095 o 47).toInt ≤ 7 := hR_8097.at0 ra 47 (by decide)
              replace hg := gt_let (y := (I_8095 o 47).toInt) rfl hg
              have a_8116 : ((I_8095 o 47) + 1).toInt = (I_8095 o 47).toInt + (1 : Int32).toInt := tAdd (by omega) (by omega)
              replace hg := gt_let (y := (((I_8095 o 47) + 1) : Int32).toInt) (by omega) hg
              refine fun I_8117 e_8118 => ?_
              replace hg := gt_let (y := tI I_8117) (tI_q e_8118) hg
              have hR_8119 : RI R I_8117 := hR_8097.up0 (k := 47) ra (by decide) (Or.inr hz57) e_8118 (show (0 : Int) ≤ ((I_8095 o 47) + 1).toInt by omega) (show ((I_8095 o 47) + 1).toInt ≤ (7 : Int) by omega)
              have hf_8120 : Fm (fun c => c = o ∨ (o + 30 ≤ c ∧ c < o + 34)) I0 I_8117 := hf_8100.set (by first | rfl | omega | (dsimp only; omega)) e_8118
              have t_8121 : (I_8117 o 3).toInt = (I_8095 o 3).toInt := by rw [← e_8118, q_u_k (by decide)]
              have t_8122 : (I_8117 o 4).toInt = (I_8095 o 4).toInt := by rw [← e_8118, q_u_k (by decide)]
              have t_8123 : (I_8117 o 6).toInt = (I_8095 o 6).toInt := by rw [← e_8118, q_u_k (by decide)]
              have t_8124 : (I_8117 o 7).toInt = (I_8095 o 7).toInt := by rw [← e_8118, q_u_k (by decide)]
              have t_8125 : (I_8117 o 8).toInt = (I_8095 o 8).toInt := by rw [← e_8118, q_u_k (by decide)]
              have t_8126 : (I_8117 o 9).toInt = (I_8095 o 9).toInt := by rw [← e_8118, q_u_k (by decide)]
              have t_8127 : (I_8117 o 44).toInt = (I_8095 o 44).toInt := by rw [← e_8118, q_u_k (by decide)]
              have t_8128 : (I_8117 o 45).toInt = (I_8095 o 45).toInt := by rw [← e_8118, q_u_k (by decide)]
              have t_8129 : (I_8117 o 47).toInt = ((I_8095 o 47) + 1).toInt := by rw [← e_8118, q_u_at]
              have t_8130 : (I_8117 o 48).toInt = (I_8095 o 48).toInt := by rw [← e_8118, q_u_k (by decide)]
              have k_8131 : MTd I_8117 o := k_8111.fr (by rw [← e_8118]; exact q_u_ne (by omega)) (by rw [← e_8118]; exact q_u_ne (by omega)) (by rw [← e_8118]; exact q_u_ne (by omega))
              have k_8132 : MPo I_8117 o := k_8112.fr (by rw [← e_8118, q_u_k (by decide)]) (by rw [← e_8118, q_u_k (by decide)])
              have k_8133 : MTk I_8117 o := k_8113.fr (by rw [← e_8118, q_u_k (by decide)]) (by rw [← e_8118, q_u_k (by decide)]) (by rw [← e_8118, q_u_k (by decide)])
              have tk := k_8133.2 (by omega)
              have k_8135 : EX 0 0 1 f0 1 I_8117 o := by exact EX.put47 k_8114 e_8118 (by omega)
              refine y_Model_nextg hok hw ra hz16 hz17 hz18 hz19 (by first | omega | (intro h; omega) | exact Or.inl rfl | exact Or.inr rfl) hR_8119 (fun I_8146 L_8147 hR_8148 fr_8149 kp_8150 u_8137 u_8138 u_8139 u_8140 u_8141 u_8142 u_8143 u_8144 gn_8145 => ⟨I_8146, L_8147, rfl, rfl, ?_⟩)
              replace hg := gt_b3 gn_8145 hg
              clear gn_8145
              have hf_8151 : Fm (fun c => c = o ∨ (o + 30 ≤ c ∧ c < o + 34)) I0 I_8146 := hf_8120.call fr_8149 (fun c hc => by first | exact hc | (dsimp only at hc ⊢; omega) | omega)
              have t_8152 : (I_8146 o 3).toInt = (I_8117 o 3).toInt := by rw [kp_8150 3 rfl]
              have t_8153 : (I_8146 o 4).toInt = (I_8117 o 4).toInt := by rw [kp_8150 4 rfl]
              have g_8154 : (0 : Int) ≤ (I_8146 o 6).toInt ∧ (I_8146 o 6).toInt ≤ 1600 := hR_8148.at0 ra 6 (by decide)
              have g_8155 : (0 : Int) ≤ (I_8146 o 7).toInt ∧ (I_8146 o 7).toInt ≤ 1601 := hR_8148.at0 ra 7 (by decide)
              have g_8156 : (0 : Int) ≤ (I_8146 o 8).toInt ∧ (I_8146 o 8).toInt ≤ 6 := hR_8148.at0 ra 8 (by decide)
              have t_8157 : (I_8146 o 44).toInt = (I_8117 o 44).toInt := by rw [kp_8150 44 rfl]
              have t_8158 : (I_8146 o 45).toInt = (I_8117 o 45).toInt := by rw [kp_8150 45 rfl]
              have t_8159 : (I_8146 o 47).toInt = (I_8117 o 47).toInt := by rw [kp_8150 47 rfl]
              have t_8160 : (I_8146 o 48).toInt = (I_8117 o 48).toInt := by rw [kp_8150 48 rfl]
              have k_8161 : MTd I_8146 o := k_8131.fr (fr_8149 _ (by first | omega | (dsimp only; omega))) (fr_8149 _ (by first | omega | (dsimp only; omega))) (fr_8149 _ (by first | omega | (dsimp only; omega)))
              have ms := u_8140 (by omega)
              have k_8162 : EX 0 0 0 f0 1 I_8146 o := by exact EX.nx k_8135 (fr_8149 _ (by first | omega | (dsimp only; omega))) (fr_8149 _ (by first | omega | (dsimp only; omega))) (fr_8149 _ (by first | omega | (dsimp only; omega))) (fr_8149 _ (by first | omega | (dsimp only; omega))) (fr_8149 _ (by first | omega | (dsimp only; omega))) (kp_8150 3 rfl) (kp_8150 44 rfl) (kp_8150 45 rfl) (kp_8150 47 rfl) (kp_8150 48 rfl) (by omega) (by omega)
              exact (hp _ _ _ hR_8148 hf_8151 (Or.inr rfl) (by first | omega | (intro h; omega) | exact Or.inl rfl | exact Or.inr rfl) (by first | omega | (intro h; omega) | exact Or.inl rfl | exact Or.inr rfl) (by first | omega | (intro h; omega) | exact Or.inl rfl | exact Or.inr rfl) (by first | omega | (intro h; omega) | exact Or.inl rfl | exact Or.inr rfl) (by first | omega | (intro h; omega) | exact Or.inl rfl | exact Or.inr rfl) (by clear hg; first | (intro h; exfalso; omega) | exact fun _ => k_8162 | exact fun _ => (False.elim (by omega))) k_8161 u_8143 u_8144 hg.symm)
            · have d_8163 := iEq c_8086
              have i_8164 := u_8083 (by omega)
              replace hg := gt_pos (by first | exact d_8163 | omega) hg
              exact (hp _ _ _ hR_8062 hf_8065 (Or.inr rfl) (by first | omega | (intro h; omega) | exact Or.inl rfl | exact Or.inr rfl) (by first | omega | (intro h; omega) | exact Or.inl rfl | exact Or.inr rfl) (by first | omega | (intro h; omega) | exact Or.inl rfl | exact Or.inr rfl) (by first | omega | (intro h; omega) | exact Or.inl rfl | exact Or.inr rfl) (by first | omega | (intro h; omega) | exact Or.inl rfl | exact Or.inr rfl) (by clear hg; first | (intro h; exfalso; omega) | exact fun _ => k_8076 | exact fun _ => (False.elim (by omega))) k_8077 k_8078 k_8079 hg.symm)
theorem y_Model_unitg {D : va_G} {cA : FieldType → ClassId} {b : Nat} {E : State → Prop} {R : qRg} {o n : Nat} {sh : Nat → qC} {Rf : Nat → Nat → Option Nat} {I0 : Nat → Nat → Int32} {L0 : Nat → Nat → Int64} {post : Option Value → qS → Prop} {f0 : Nat} (hok : q_ok (qGG D cA b E)) (hw : WfModel (qGG D cA b E) n sh Rf o) (ra : RAModel R o) (hz14 : R.2 14 = true) (hz15 : R.2 15 = true) (hz16 : R.2 16 = true) (hz17 : R.2 17 = true) (hz18 : R.2 18 = true) (hz19 : R.2 19 = true) (hz55 : R.2 55 = true) (hz56 : R.2 56 = true) (hz57 : R.2 57 = true) (hz58 : R.2 58 = true) (hq0 : (I0 o 7).toInt ≤ (I0 o 3).toInt) (hq1 : (I0 o 4).toInt = 0) (hq2 : EX 0 0 0 f0 1 I0 o) (hq3 : MTd I0 o) (hq4 : MPo I0 o) (hq5 : MTk I0 o) (hR : RI R I0) (hp : ∀ (r : Int32) (I' : Nat → Nat → Int32) (L' : Nat → Nat → Int64), RI R I' → Fm (fun c => c = o ∨ (o + 30 ≤ c ∧ c < o + 34)) I0 I' → Kp wModel_unit I0 I' o → (Bz r) → ((I' o 7).toInt ≤ (I' o 3).toInt) → ((I0 o 7).toInt ≤ (I' o 7).toInt) → ((I0 o 4).toInt ≤ (I' o 4).toInt) → (7 * (I0 o 7).toInt - (I0 o 8).toInt + (I0 o 4).toInt ≤ 7 * (I' o 7).toInt - (I' o 8).toInt + (I' o 4).toInt) → (81 * (7 * (I0 o 7).toInt - (I0 o 8).toInt + (I0 o 4).toInt) - (I0 o 48).toInt < 81 * (7 * (I' o 7).toInt - (I' o 8).toInt + (I' o 4).toInt) - (I' o 48).toInt) → (Im ((I' o 4).toInt = 0) (EX 0 0 0 f0 r.toInt I' o)) → (MTd I' o) → (MPo I' o) → (MTk I' o) → (gModel_unit_0 o (tI I0) L0 = (r.toInt, tI I', L')) → post (some (.int r)) (n, sh, Rf, I', L')) : Ev (qGG D cA b E) mModel_unit 3 (0, 0) 0 (lv_args 0 [.ref o]) [] (n, sh, Rf, I0, L0) post :=
  yc_Model_unitg (R := fzR R I0 o wModel_unit) hok hw (fzA ra hR _) (fzT hz14 rfl) (fzT hz15 rfl) (fzT hz16 rfl) (fzT hz17 rfl) (fzT hz18 rfl) (fzT hz19 rfl) (fzT hz55 rfl) (fzT hz56 rfl) (fzT hz57 rfl) (fzT hz58 rfl) fzZ (fzI hR) hq0 hq1 hq2 hq3 hq4 hq5 (fzI hR) (fun r I' L' h1 h2 u0 u1 u2 u3 u4 u5 u6 u7 u8 u9 ug => hp r I' L' (fzB hR h1) h2 (fzP h1) u0 u1 u2 u3 u4 u5 u6 u7 u8 u9 ug)
