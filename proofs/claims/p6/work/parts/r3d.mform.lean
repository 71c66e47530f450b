/-! The mirror of REFORM's reading, reference: r3d. By program (rrun.py). -/
noncomputable def gModel_readReform_228 (o : Nat) (J : gJ) (L : gL) (x1 : Int) (x2 : Int) : Int × gJ × gL := gLet (J o 44) (fun (v_1 : Int) => gLet (J (o + 29) (Int.toNat v_1)) (fun (v_2 : Int) => gLet (wAdd v_2 1) (fun (v_3 : Int) => gLet (q_u J (o + 29) (Int.toNat v_1) v_3) (fun (J_4 : gJ) => (0, J_4, L)))))
theorem eModel_readReform_228 {o : Nat} {J : gJ} {L : gL} {x1 : Int} {x2 : Int} : gModel_readReform_228 o J L x1 x2 = gLet (J o 44) (fun (v_1 : Int) => gLet (J (o + 29) (Int.toNat v_1)) (fun (v_2 : Int) => gLet (wAdd v_2 1) (fun (v_3 : Int) => gLet (q_u J (o + 29) (Int.toNat v_1) v_3) (fun (J_4 : gJ) => (0, J_4, L))))) := rfl
noncomputable def gModel_readReform_132 (o : Nat) (J : gJ) (L : gL) (x1 : Int) (z0 : Int) (z1 : Int) : Int × gJ × gL := gLet (z1 + z0) (fun (v_1 : Int) => gLet (J (o + 26) (Int.toNat v_1)) (fun (v_2 : Int) => (if v_2 < 0 then gLet (gModel_isGood_0 o J L) (fun (r_3 : Int) => (if r_3 = 0 then (0, J, L) else gB3 (gModel_next_0 o J L) (fun r_4 J_5 L_6 => gLet (q_u J_5 o 49 x1) (fun (J_7 : gJ) => gLet (J_7 o 45) (fun (v_8 : Int) => gB3 (gModel_e_0 o J_7 L_6) (fun r_9 J_10 L_11 => gLet (gModel_is_0 o J_10 L_11 59) (fun (r_12 : Int) => gB3 (gModel_must_0 o J_10 L_11 r_12) (fun r_13 J_14 L_15 => gLet (J_14 o 44) (fun (v_16 : Int) => gLet (10 * v_16) (fun (v_17 : Int) => gLet (v_17 + x1) (fun (v_18 : Int) => gLet (q_u J_14 (o + 26) (Int.toNat v_18) v_8) (fun (J_19 : gJ) => gLet (J_19 o 44) (fun (v_20 : Int) => gLet (10 * v_20) (fun (v_21 : Int) => gLet (v_21 + x1) (fun (v_22 : Int) => gLet (J_19 o 45) (fun (v_23 : Int) => gLet (q_u J_19 (o + 27) (Int.toNat v_22) v_23) (fun (J_24 : gJ) => (if x1 < 5 then (gModel_readReform_228 o J_24 L_15 x1 v_8) else gLet (J_24 o 44) (fun (v_25 : Int) => gLet (J_24 (o + 28) (Int.toNat v_25)) (fun (v_26 : Int) => gLet (v_26 + 1) (fun (v_27 : Int) => gLet (q_u J_24 (o + 28) (Int.toNat v_25) v_27) (fun (J_28 : gJ) => (gModel_readReform_228 o J_28 L_15 x1 v_8))))))))))))))))))))))) else gB3 (gModel_wrong_0 o J L) (fun r_29 J_30 L_31 => gLet (gModel_isGood_0 o J_30 L_31) (fun (r_32 : Int) => (if r_32 = 0 then (0, J_30, L_31) else gB3 (gModel_next_0 o J_30 L_31) (fun r_33 J_34 L_35 => gLet (q_u J_34 o 49 x1) (fun (J_36 : gJ) => gLet (J_36 o 45) (fun (v_37 : Int) => gB3 (gModel_e_0 o J_36 L_35) (fun r_38 J_39 L_40 => gLet (gModel_is_0 o J_39 L_40 59) (fun (r_41 : Int) => gB3 (gModel_must_0 o J_39 L_40 r_41) (fun r_42 J_43 L_44 => gLet (J_43 o 44) (fun (v_45 : Int) => gLet (10 * v_45) (fun (v_46 : Int) => gLet (v_46 + x1) (fun (v_47 : Int) => gLet (q_u J_43 (o + 26) (Int.toNat v_47) v_37) (fun (J_48 : gJ) => gLet (J_48 o 44) (fun (v_49 : Int) => gLet (10 * v_49) (fun (v_50 : Int) => gLet (v_50 + x1) (fun (v_51 : Int) => gLet (J_48 o 45) (fun (v_52 : Int) => gLet (q_u J_48 (o + 27) (Int.toNat v_51) v_52) (fun (J_53 : gJ) => (if x1 < 5 then (gModel_readReform_228 o J_53 L_44 x1 v_37) else gLet (J_53 o 44) (fun (v_54 : Int) => gLet (J_53 (o + 28) (Int.toNat v_54)) (fun (v_55 : Int) => gLet (v_55 + 1) (fun (v_56 : Int) => gLet (q_u J_53 (o + 28) (Int.toNat v_54) v_56) (fun (J_57 : gJ) => (gModel_readReform_228 o J_57 L_44 x1 v_37)))))))))))))))))))))))))))
theorem eModel_readReform_132 {o : Nat} {J : gJ} {L : gL} {x1 : Int} {z0 : Int} {z1 : Int} : gModel_readReform_132 o J L x1 z0 z1 = gLet (z1 + z0) (fun (v_1 : Int) => gLet (J (o + 26) (Int.toNat v_1)) (fun (v_2 : Int) => (if v_2 < 0 then gLet (gModel_isGood_0 o J L) (fun (r_3 : Int) => (if r_3 = 0 then (0, J, L) else gB3 (gModel_next_0 o J L) (fun r_4 J_5 L_6 => gLet (q_u J_5 o 49 x1) (fun (J_7 : gJ) => gLet (J_7 o 45) (fun (v_8 : Int) => gB3 (gModel_e_0 o J_7 L_6) (fun r_9 J_10 L_11 => gLet (gModel_is_0 o J_10 L_11 59) (fun (r_12 : Int) => gB3 (gModel_must_0 o J_10 L_11 r_12) (fun r_13 J_14 L_15 => gLet (J_14 o 44) (fun (v_16 : Int) => gLet (10 * v_16) (fun (v_17 : Int) => gLet (v_17 + x1) (fun (v_18 : Int) => gLet (q_u J_14 (o + 26) (Int.toNat v_18) v_8) (fun (J_19 : gJ) => gLet (J_19 o 44) (fun (v_20 : Int) => gLet (10 * v_20) (fun (v_21 : Int) => gLet (v_21 + x1) (fun (v_22 : Int) => gLet (J_19 o 45) (fun (v_23 : Int) => gLet (q_u J_19 (o + 27) (Int.toNat v_22) v_23) (fun (J_24 : gJ) => (if x1 < 5 then (gModel_readReform_228 o J_24 L_15 x1 v_8) else gLet (J_24 o 44) (fun (v_25 : Int) => gLet (J_24 (o + 28) (Int.toNat v_25)) (fun (v_26 : Int) => gLet (v_26 + 1) (fun (v_27 : Int) => gLet (q_u J_24 (o + 28) (Int.toNat v_25) v_27) (fun (J_28 : gJ) => (gModel_readReform_228 o J_28 L_15 x1 v_8))))))))))))))))))))))) else gB3 (gModel_wrong_0 o J L) (fun r_29 J_30 L_31 => gLet (gModel_isGood_0 o J_30 L_31) (fun (r_32 : Int) => (if r_32 = 0 then (0, J_30, L_31) else gB3 (gModel_next_0 o J_30 L_31) (fun r_33 J_34 L_35 => gLet (q_u J_34 o 49 x1) (fun (J_36 : gJ) => gLet (J_36 o 45) (fun (v_37 : Int) => gB3 (gModel_e_0 o J_36 L_35) (fun r_38 J_39 L_40 => gLet (gModel_is_0 o J_39 L_40 59) (fun (r_41 : Int) => gB3 (gModel_must_0 o J_39 L_40 r_41) (fun r_42 J_43 L_44 => gLet (J_43 o 44) (fun (v_45 : Int) => gLet (10 * v_45) (fun (v_46 : Int) => gLet (v_46 + x1) (fun (v_47 : Int) => gLet (q_u J_43 (o + 26) (Int.toNat v_47) v_37) (fun (J_48 : gJ) => gLet (J_48 o 44) (fun (v_49 : Int) => gLet (10 * v_49) (fun (v_50 : Int) => gLet (v_50 + x1) (fun (v_51 : Int) => gLet (J_48 o 45) (fun (v_52 : Int) => gLet (q_u J_48 (o + 27) (Int.toNat v_51) v_52) (fun (J_53 : gJ) => (if x1 < 5 then (gModel_readReform_228 o J_53 L_44 x1 v_37) else gLet (J_53 o 44) (fun (v_54 : Int) => gLet (J_53 (o + 28) (Int.toNat v_54)) (fun (v_55 : Int) => gLet (v_55 + 1) (fun (v_56 : Int) => gLet (q_u J_53 (o + 28) (Int.toNat v_54) v_56) (fun (J_57 : gJ) => (gModel_readReform_228 o J_57 L_44 x1 v_37))))))))))))))))))))))))))) := rfl
noncomputable def gModel_readReform_127 (o : Nat) (J : gJ) (L : gL) (x1 : Int) (z0 : Int) : Int × gJ × gL := (gModel_readReform_132 o J L x1 0 z0)
theorem eModel_readReform_127 {o : Nat} {J : gJ} {L : gL} {x1 : Int} {z0 : Int} : gModel_readReform_127 o J L x1 z0 = (gModel_readReform_132 o J L x1 0 z0) := rfl
noncomputable def gModel_readReform_95 (o : Nat) (J : gJ) (L : gL) (z0 : Int) : Int × gJ × gL := (if z0 < 0 then gB3 (gModel_wrong_0 o J L) (fun r_1 J_2 L_3 => gLet (gModel_isGood_0 o J_2 L_3) (fun (r_4 : Int) => (if r_4 = 0 then (0, J_2, L_3) else gB3 (gModel_next_0 o J_2 L_3) (fun r_5 J_6 L_7 => gLet (q_u J_6 o 49 z0) (fun (J_8 : gJ) => gLet (J_8 o 45) (fun (v_9 : Int) => gB3 (gModel_e_0 o J_8 L_7) (fun r_10 J_11 L_12 => gLet (gModel_is_0 o J_11 L_12 59) (fun (r_13 : Int) => gB3 (gModel_must_0 o J_11 L_12 r_13) (fun r_14 J_15 L_16 => gLet (J_15 o 44) (fun (v_17 : Int) => gLet (10 * v_17) (fun (v_18 : Int) => gLet (v_18 + z0) (fun (v_19 : Int) => gLet (q_u J_15 (o + 26) (Int.toNat v_19) v_9) (fun (J_20 : gJ) => gLet (J_20 o 44) (fun (v_21 : Int) => gLet (10 * v_21) (fun (v_22 : Int) => gLet (v_22 + z0) (fun (v_23 : Int) => gLet (J_20 o 45) (fun (v_24 : Int) => gLet (q_u J_20 (o + 27) (Int.toNat v_23) v_24) (fun (J_25 : gJ) => (if z0 < 5 then (gModel_readReform_228 o J_25 L_16 z0 v_9) else gLet (J_25 o 44) (fun (v_26 : Int) => gLet (J_25 (o + 28) (Int.toNat v_26)) (fun (v_27 : Int) => gLet (v_27 + 1) (fun (v_28 : Int) => gLet (q_u J_25 (o + 28) (Int.toNat v_26) v_28) (fun (J_29 : gJ) => (gModel_readReform_228 o J_29 L_16 z0 v_9)))))))))))))))))))))))) else (if z0 = 10 then gB3 (gModel_wrong_0 o J L) (fun r_30 J_31 L_32 => gLet (gModel_isGood_0 o J_31 L_32) (fun (r_33 : Int) => (if r_33 = 0 then (0, J_31, L_32) else gB3 (gModel_next_0 o J_31 L_32) (fun r_34 J_35 L_36 => gLet (q_u J_35 o 49 z0) (fun (J_37 : gJ) => gLet (J_37 o 45) (fun (v_38 : Int) => gB3 (gModel_e_0 o J_37 L_36) (fun r_39 J_40 L_41 => gLet (gModel_is_0 o J_40 L_41 59) (fun (r_42 : Int) => gB3 (gModel_must_0 o J_40 L_41 r_42) (fun r_43 J_44 L_45 => gLet (J_44 o 44) (fun (v_46 : Int) => gLet (10 * v_46) (fun (v_47 : Int) => gLet (v_47 + z0) (fun (v_48 : Int) => gLet (q_u J_44 (o + 26) (Int.toNat v_48) v_38) (fun (J_49 : gJ) => gLet (J_49 o 44) (fun (v_50 : Int) => gLet (10 * v_50) (fun (v_51 : Int) => gLet (v_51 + z0) (fun (v_52 : Int) => gLet (J_49 o 45) (fun (v_53 : Int) => gLet (q_u J_49 (o + 27) (Int.toNat v_52) v_53) (fun (J_54 : gJ) => (if z0 < 5 then (gModel_readReform_228 o J_54 L_45 z0 v_38) else gLet (J_54 o 44) (fun (v_55 : Int) => gLet (J_54 (o + 28) (Int.toNat v_55)) (fun (v_56 : Int) => gLet (v_56 + 1) (fun (v_57 : Int) => gLet (q_u J_54 (o + 28) (Int.toNat v_55) v_57) (fun (J_58 : gJ) => (gModel_readReform_228 o J_58 L_45 z0 v_38)))))))))))))))))))))))) else gLet (J o 44) (fun (v_59 : Int) => gLet (10 * v_59) (fun (v_60 : Int) => (if z0 < 0 then (gModel_readReform_127 o J L z0 v_60) else (if z0 < 10 then (gModel_readReform_132 o J L z0 z0 v_60) else (gModel_readReform_127 o J L z0 v_60)))))))
theorem eModel_readReform_95 {o : Nat} {J : gJ} {L : gL} {z0 : Int} : gModel_readReform_95 o J L z0 = (if z0 < 0 then gB3 (gModel_wrong_0 o J L) (fun r_1 J_2 L_3 => gLet (gModel_isGood_0 o J_2 L_3) (fun (r_4 : Int) => (if r_4 = 0 then (0, J_2, L_3) else gB3 (gModel_next_0 o J_2 L_3) (fun r_5 J_6 L_7 => gLet (q_u J_6 o 49 z0) (fun (J_8 : gJ) => gLet (J_8 o 45) (fun (v_9 : Int) => gB3 (gModel_e_0 o J_8 L_7) (fun r_10 J_11 L_12 => gLet (gModel_is_0 o J_11 L_12 59) (fun (r_13 : Int) => gB3 (gModel_must_0 o J_11 L_12 r_13) (fun r_14 J_15 L_16 => gLet (J_15 o 44) (fun (v_17 : Int) => gLet (10 * v_17) (fun (v_18 : Int) => gLet (v_18 + z0) (fun (v_19 : Int) => gLet (q_u J_15 (o + 26) (Int.toNat v_19) v_9) (fun (J_20 : gJ) => gLet (J_20 o 44) (fun (v_21 : Int) => gLet (10 * v_21) (fun (v_22 : Int) => gLet (v_22 + z0) (fun (v_23 : Int) => gLet (J_20 o 45) (fun (v_24 : Int) => gLet (q_u J_20 (o + 27) (Int.toNat v_23) v_24) (fun (J_25 : gJ) => (if z0 < 5 then (gModel_readReform_228 o J_25 L_16 z0 v_9) else gLet (J_25 o 44) (fun (v_26 : Int) => gLet (J_25 (o + 28) (Int.toNat v_26)) (fun (v_27 : Int) => gLet (v_27 + 1) (fun (v_28 : Int) => gLet (q_u J_25 (o + 28) (Int.toNat v_26) v_28) (fun (J_29 : gJ) => (gModel_readReform_228 o J_29 L_16 z0 v_9)))))))))))))))))))))))) else (if z0 = 10 then gB3 (gModel_wrong_0 o J L) (fun r_30 J_31 L_32 => gLet (gModel_isGood_0 o J_31 L_32) (fun (r_33 : Int) => (if r_33 = 0 then (0, J_31, L_32) else gB3 (gModel_next_0 o J_31 L_32) (fun r_34 J_35 L_36 => gLet (q_u J_35 o 49 z0) (fun (J_37 : gJ) => gLet (J_37 o 45) (fun (v_38 : Int) => gB3 (gModel_e_0 o J_37 L_36) (fun r_39 J_40 L_41 => gLet (gModel_is_0 o J_40 L_41 59) (fun (r_42 : Int) => gB3 (gModel_must_0 o J_40 L_41 r_42) (fun r_43 J_44 L_45 => gLet (J_44 o 44) (fun (v_46 : Int) => gLet (10 * v_46) (fun (v_47 : Int) => gLet (v_47 + z0) (fun (v_48 : Int) => gLet (q_u J_44 (o + 26) (Int.toNat v_48) v_38) (fun (J_49 : gJ) => gLet (J_49 o 44) (fun (v_50 : Int) => gLet (10 * v_50) (fun (v_51 : Int) => gLet (v_51 + z0) (fun (v_52 : Int) => gLet (J_49 o 45) (fun (v_53 : Int) => gLet (q_u J_49 (o + 27) (Int.toNat v_52) v_53) (fun (J_54 : gJ) => (if z0 < 5 then (gModel_readReform_228 o J_54 L_45 z0 v_38) else gLet (J_54 o 44) (fun (v_55 : Int) => gLet (J_54 (o + 28) (Int.toNat v_55)) (fun (v_56 : Int) => gLet (v_56 + 1) (fun (v_57 : Int) => gLet (q_u J_54 (o + 28) (Int.toNat v_55) v_57) (fun (J_58 : gJ) => (gModel_readReform_228 o J_58 L_45 z0 v_38)))))))))))))))))))))))) else gLet (J o 44) (fun (v_59 : Int) => gLet (10 * v_59) (fun (v_60 : Int) => (if z0 < 0 then (gModel_readReform_127 o J L z0 v_60) else (if z0 < 10 then (gModel_readReform_132 o J L z0 z0 v_60) else (gModel_readReform_127 o J L z0 v_60))))))) := rfl
noncomputable def gModel_readReform_0 (o : Nat) (J : gJ) (L : gL) : Int × gJ × gL := gLet (gModel_isWord_0 o J L 1918989413) (fun (r_1 : Int) => (if r_1 = 0 then gLet (gModel_isWord_0 o J L 1668245870) (fun (r_2 : Int) => (if r_2 = 0 then gLet (gModel_isWord_0 o J L 1836020596) (fun (r_3 : Int) => (if r_3 = 0 then gLet (gModel_isWord_0 o J L 7627128) (fun (r_4 : Int) => (if r_4 = 0 then gLet (gModel_isWord_0 o J L 444350952036) (fun (r_5 : Int) => (if r_5 = 0 then gLet (gModel_isWord_0 o J L 427020088179) (fun (r_6 : Int) => (if r_6 = 0 then (gModel_readReform_95 o J L (-1)) else gLet (J o 44) (fun (v_7 : Int) => gLet (J (o + 28) (Int.toNat v_7)) (fun (v_8 : Int) => gLet (5 + v_8) (fun (v_9 : Int) => (gModel_readReform_95 o J L v_9)))))) else (gModel_readReform_95 o J L 4))) else (gModel_readReform_95 o J L 3))) else (gModel_readReform_95 o J L 2))) else (gModel_readReform_95 o J L 1))) else (gModel_readReform_95 o J L 0)))
theorem eModel_readReform_0 {o : Nat} {J : gJ} {L : gL} : gModel_readReform_0 o J L  = gLet (gModel_isWord_0 o J L 1918989413) (fun (r_1 : Int) => (if r_1 = 0 then gLet (gModel_isWord_0 o J L 1668245870) (fun (r_2 : Int) => (if r_2 = 0 then gLet (gModel_isWord_0 o J L 1836020596) (fun (r_3 : Int) => (if r_3 = 0 then gLet (gModel_isWord_0 o J L 7627128) (fun (r_4 : Int) => (if r_4 = 0 then gLet (gModel_isWord_0 o J L 444350952036) (fun (r_5 : Int) => (if r_5 = 0 then gLet (gModel_isWord_0 o J L 427020088179) (fun (r_6 : Int) => (if r_6 = 0 then (gModel_readReform_95 o J L (-1)) else gLet (J o 44) (fun (v_7 : Int) => gLet (J (o + 28) (Int.toNat v_7)) (fun (v_8 : Int) => gLet (5 + v_8) (fun (v_9 : Int) => (gModel_readReform_95 o J L v_9)))))) else (gModel_readReform_95 o J L 4))) else (gModel_readReform_95 o J L 3))) else (gModel_readReform_95 o J L 2))) else (gModel_readReform_95 o J L 1))) else (gModel_readReform_95 o J L 0))) := rfl
set_option maxHeartbeats 4000000 in
set_option maxRecDepth 20000 in
theorem yc_Model_readReformg {D : va_G} {cA : FieldType → ClassId} {b : Nat} {E : State → Prop} {R : qRg} {o n : Nat} {sh : Nat → qC} {Rf : Nat → Nat → Option Nat} {I0 : Nat → Nat → Int32} {L0 : Nat → Nat → Int64} {post : Option Value → qS → Prop} (hok : q_ok (qGG D cA b E)) (hw : WfModel (qGG D cA b E) n sh Rf o) (ra : RAModel R o) (hz14 : R.2 14 = true) (hz15 : R.2 15 = true) (hz16 : R.2 16 = true) (hz17 : R.2 17 = true) (hz18 : R.2 18 = true) (hz19 : R.2 19 = true) (hz55 : R.2 55 = true) (hz56 : R.2 56 = true) (hz57 : R.2 57 = true) (hz58 : R.2 58 = true) (hz59 : R.2 59 = true) (hZ : Fz R I0 o wModel_readReform) (hR0 : RI R I0) (hq0 : (I0 o 7).toInt ≤ (I0 o 3).toInt) (hq1 : (I0 o 4).toInt = 0) (hq2 : (I0 o 8).toInt ≠ 0) (hq3 : ReS I0 o) (hq4 : MTd I0 o) (hq5 : MPo I0 o) (hq6 : MTk I0 o) (hR : RI R I0) (hp : ∀ (I' : Nat → Nat → Int32) (L' : Nat → Nat → Int64), RI R I' → Fm (fun c => c = o ∨ (o + 26 ≤ c ∧ c < o + 34)) I0 I' → ((I' o 7).toInt ≤ (I' o 3).toInt) → ((I0 o 7).toInt ≤ (I' o 7).toInt) → ((I0 o 4).toInt ≤ (I' o 4).toInt) → (7 * (I0 o 7).toInt - (I0 o 8).toInt + (I0 o 4).toInt ≤ 7 * (I' o 7).toInt - (I' o 8).toInt + (I' o 4).toInt) → (7 * (I0 o 7).toInt - (I0 o 8).toInt + (I0 o 4).toInt < 7 * (I' o 7).toInt - (I' o 8).toInt + (I' o 4).toInt) → (MTd I' o) → (MPo I' o) → (MTk I' o) → (ReG I' o) → (gModel_readReform_0 o (tI I0) L0 = (0, tI I', L')) → post none (n, sh, Rf, I', L')) : Ev (qGG D cA b E) mModel_readReform 6 (0, 0) 0 (lv_args 0 [.ref o]) [] (n, sh, Rf, I0, L0) post := by
  have hf : Fm (fun c => c = o ∨ (o + 26 ≤ c ∧ c < o + 34)) I0 I0 := Fm.rf
  have g_1 : (0 : Int) ≤ (I0 o 3).toInt ∧ (I0 o 3).toInt ≤ 1600 := hR.at0 ra 3 (by decide)
  have g_2 : (0 : Int) ≤ (I0 o 4).toInt ∧ (I0 o 4).toInt ≤ 5 := hR.at0 ra 4 (by decide)
  have g_3 : (0 : Int) ≤ (I0 o 6).toInt ∧ (I0 o 6).toInt ≤ 1600 := hR.at0 ra 6 (by decide)
  have g_4 : (0 : Int) ≤ (I0 o 7).toInt ∧ (I0 o 7).toInt ≤ 1601 := hR.at0 ra 7 (by decide)
  have g_5 : (0 : Int) ≤ (I0 o 8).toInt ∧ (I0 o 8).toInt ≤ 6 := hR.at0 ra 8 (by decide)
  have g_6 : (0 : Int) ≤ (I0 o 44).toInt ∧ (I0 o 44).toInt ≤ 4 := hR.at0 ra 44 (by decide)
  have g_7 : (0 : Int) ≤ (I0 o 45).toInt ∧ (I0 o 45).toInt ≤ 700 := hR.at0 ra 45 (by decide)
  have g_8 : (0 : Int) ≤ (I0 o 47).toInt ∧ (I0 o 47).toInt ≤ 7 := hR.at0 ra 47 (by decide)
  have g_9 : (0 : Int) ≤ (I0 o 48).toInt ∧ (I0 o 48).toInt ≤ 80 := hR.at0 ra 48 (by decide)
  refine sModel_readReform_0 o n sh Rf I0 L0 post  hok hw ?_
  unfold fModel_readReform_0
  have hg : gModel_readReform_0 o (tI I0) L0 = gModel_readReform_0 o (tI I0) L0 := rfl
  replace hg := (eModel_readReform_0).symm.trans hg
  have r4 := hq3.1
  have l_10 : (1918989413 : Int32).toInt = 1918989413 := rfl
  refine y_Model_isWordg hok hw ra hR (fun r_11 u_12 u_13 gn_14 => ⟨r_11, I0, L0, rfl, rfl, ?_⟩)
  replace hg := gt_let gn_14 hg
  clear gn_14
  have b_15 : 0 ≤ r_11.toInt ∧ r_11.toInt ≤ 1 := u_12.rg
  have l_16 : (0 : Int32).toInt = 0 := rfl
  refine ⟨fun c_17 => ?_, fun c_17 => ?_⟩
  · have d_18 := iEq c_17
    replace hg := gt_pos (by first | exact d_18 | omega) hg
    have l_19 : (1668245870 : Int32).toInt = 1668245870 := rfl
    refine y_Model_isWordg hok hw ra hR (fun r_20 u_21 u_22 gn_23 => ⟨r_20, I0, L0, rfl, rfl, ?_⟩)
    replace hg := gt_let gn_23 hg
    clear gn_23
    have b_24 : 0 ≤ r_20.toInt ∧ r_20.toInt ≤ 1 := u_21.rg
    refine ⟨fun c_25 => ?_, fun c_25 => ?_⟩
    · have d_26 := iEq c_25
      replace hg := gt_pos (by first | exact d_26 | omega) hg
      have l_27 : (1836020596 : Int32).toInt = 1836020596 := rfl
      refine y_Model_isWordg hok hw ra hR (fun r_28 u_29 u_30 gn_31 => ⟨r_28, I0, L0, rfl, rfl, ?_⟩)
      replace hg := gt_let gn_31 hg
      clear gn_31
      have b_32 : 0 ≤ r_28.toInt ∧ r_28.toInt ≤ 1 := u_29.rg
      refine ⟨fun c_33 => ?_, fun c_33 => ?_⟩
      · have d_34 := iEq c_33
        replace hg := gt_pos (by first | exact d_34 | omega) hg
        have l_35 : (7627128 : Int32).toInt = 7627128 := rfl
        refine y_Model_isWordg hok hw ra hR (fun r_36 u_37 u_38 gn_39 => ⟨r_36, I0, L0, rfl, rfl, ?_⟩)
        replace hg := gt_let gn_39 hg
        clear gn_39
        have b_40 : 0 ≤ r_36.toInt ∧ r_36.toInt ≤ 1 := u_37.rg
        refine ⟨fun c_41 => ?_, fun c_41 => ?_⟩
        · have d_42 := iEq c_41
          replace hg := gt_pos (by first | exact d_42 | omega) hg
          refine y_Model_isWordg hok hw ra hR (fun r_43 u_44 u_45 gn_46 => ⟨r_43, I0, L0, rfl, rfl, ?_⟩)
          replace hg := gt_let gn_46 hg
          clear gn_46
          have b_47 : 0 ≤ r_43.toInt ∧ r_43.toInt ≤ 1 := u_44.rg
          refine ⟨fun c_48 => ?_, fun c_48 => ?_⟩
          · have d_49 := iEq c_48
            replace hg := gt_pos (by first | exact d_49 | omega) hg
            refine y_Model_isWordg hok hw ra hR (fun r_50 u_51 u_52 gn_53 => ⟨r_50, I0, L0, rfl, rfl, ?_⟩)
            replace hg := gt_let gn_53 hg
            clear gn_53
            have b_54 : 0 ≤ r_50.toInt ∧ r_50.toInt ≤ 1 := u_51.rg
            refine ⟨fun c_55 => ?_, fun c_55 => ?_⟩
            · have d_56 := iEq c_55
              replace hg := gt_pos (by first | exact d_56 | omega) hg
              unfold fModel_readReform_95
              replace hg := (eModel_readReform_95).symm.trans hg
              have l_57 : (-1 : Int32).toInt = -1 := rfl
              refine ⟨fun c_58 => ?_, fun c_58 => ?_⟩
              · have d_59 := iLt c_58
                replace hg := gt_pos (by first | exact d_59 | omega) hg
                refine y_Model_wrongg hok hw ra hz14 hz15 hR (fun I_64 L_65 hR_66 fr_67 kp_68 u_61 u_62 gn_63 => ⟨I_64, L_65, rfl, rfl, ?_⟩)
                replace hg := gt_b3 gn_63 hg
                clear gn_63
                have hf_69 : Fm (fun c => c = o ∨ (o + 26 ≤ c ∧ c < o + 34)) I0 I_64 := hf.call fr_67 (fun c hc => by first | exact hc | (dsimp only at hc ⊢; omega) | omega)
                have t_70 : (I_64 o 3).toInt = (I0 o 3).toInt := by rw [kp_68 3 rfl]
                have g_71 : (0 : Int) ≤ (I_64 o 4).toInt ∧ (I_64 o 4).toInt ≤ 5 := hR_66.at0 ra 4 (by decide)
                have t_72 : (I_64 o 6).toInt = (I0 o 6).toInt := by rw [kp_68 6 rfl]
                have t_73 : (I_64 o 7).toInt = (I0 o 7).toInt := by rw [kp_68 7 rfl]
                have t_74 : (I_64 o 8).toInt = (I0 o 8).toInt := by rw [kp_68 8 rfl]
                have t_75 : (I_64 o 9).toInt = (I0 o 9).toInt := by rw [kp_68 9 rfl]
                have t_76 : (I_64 o 44).toInt = (I0 o 44).toInt := by rw [kp_68 44 rfl]
                have t_77 : (I_64 o 45).toInt = (I0 o 45).toInt := by rw [kp_68 45 rfl]
                have t_78 : (I_64 o 47).toInt = (I0 o 47).toInt := by rw [kp_68 47 rfl]
                have t_79 : (I_64 o 48).toInt = (I0 o 48).toInt := by rw [kp_68 48 rfl]
                have k_80 : ReS I_64 o := hq3.fr (fr_67 _ (by first | omega | (dsimp only; omega))) (fr_67 _ (by first | omega | (dsimp only; omega))) (fr_67 _ (by first | omega | (dsimp only; omega))) (kp_68 3 rfl) (kp_68 6 rfl) (kp_68 44 rfl) (kp_68 45 rfl)
                have k_81 : MTd I_64 o := hq4.fr (fr_67 _ (by first | omega | (dsimp only; omega))) (fr_67 _ (by first | omega | (dsimp only; omega))) (fr_67 _ (by first | omega | (dsimp only; omega)))
                have k_82 : MPo I_64 o := hq5.fr (kp_68 8 rfl) (kp_68 9 rfl)
                have k_83 : MTk I_64 o := hq6.fr (kp_68 6 rfl) (kp_68 7 rfl) (kp_68 8 rfl)
                have w_84 : I_64 (o + 28) = I0 (o + 28) := (fr_67 (o + 28) (by first | omega | (dsimp only; omega)))
                refine y_Model_isGoodg hok hw ra hR_66 (fun r_85 u_86 u_87 u_88 gn_89 => ⟨r_85, I_64, L_65, rfl, rfl, ?_⟩)
                replace hg := gt_let gn_89 hg
                clear gn_89
                have b_90 : 0 ≤ r_85.toInt ∧ r_85.toInt ≤ 1 := u_86.rg
                refine ⟨fun c_91 => ?_, fun c_91 => ?_⟩
                · have d_92 := iNe c_91
                  have i_93 := u_87 (by omega)
                  replace hg := gt_neg (by first | exact d_92 | omega) hg
                  have tk := k_83.1
                  refine y_Model_nextg hok hw ra hz16 hz17 hz18 hz19 (by first | omega | (intro h; omega) | exact Or.inl rfl | exact Or.inr rfl) hR_66 (fun I_104 L_105 hR_106 fr_107 kp_108 u_95 u_96 u_97 u_98 u_99 u_100 u_101 u_102 gn_103 => ⟨I_104, L_105, rfl, rfl, ?_⟩)
                  replace hg := gt_b3 gn_103 hg
                  clear gn_103
                  have hf_109 : Fm (fun c => c = o ∨ (o + 26 ≤ c ∧ c < o + 34)) I0 I_104 := hf_69.call fr_107 (fun c hc => by first | exact hc | (dsimp only at hc ⊢; omega) | omega)
                  have t_110 : (I_104 o 3).toInt = (I_64 o 3).toInt := by rw [kp_108 3 rfl]
                  have t_111 : (I_104 o 4).toInt = (I_64 o 4).toInt := by rw [kp_108 4 rfl]
                  have g_112 : (0 : Int) ≤ (I_104 o 6).toInt ∧ (I_104 o 6).toInt ≤ 1600 := hR_106.at0 ra 6 (by decide)
                  have g_113 : (0 : Int) ≤ (I_104 o 7).toInt ∧ (I_104 o 7).toInt ≤ 1601 := hR_106.at0 ra 7 (by decide)
                  have g_114 : (0 : Int) ≤ (I_104 o 8).toInt ∧ (I_104 o 8).toInt ≤ 6 := hR_106.at0 ra 8 (by decide)
                  have t_115 : (I_104 o 44).toInt = (I_64 o 44).toInt := by rw [kp_108 44 rfl]
                  have t_116 : (I_104 o 45).toInt = (I_64 o 45).toInt := by rw [kp_108 45 rfl]
                  have t_117 : (I_104 o 47).toInt = (I_64 o 47).toInt := by rw [kp_108 47 rfl]
                  have t_118 : (I_104 o 48).toInt = (I_64 o 48).toInt := by rw [kp_108 48 rfl]
                  have k_119 : MTd I_104 o := k_81.fr (fr_107 _ (by first | omega | (dsimp only; omega))) (fr_107 _ (by first | omega | (dsimp only; omega))) (fr_107 _ (by first | omega | (dsimp only; omega)))
                  have w_120 : I_104 (o + 28) = I0 (o + 28) := (fr_107 (o + 28) (by first | omega | (dsimp only; omega))).trans w_84
                  have ms := u_98 (by omega)
                  have k_121 : ReS I_104 o := by exact ReS.at k_80 (fr_107 _ (by first | omega | (dsimp only; omega))) (fr_107 _ (by first | omega | (dsimp only; omega))) (fr_107 _ (by first | omega | (dsimp only; omega))) (kp_108 3 rfl) (by omega) (by omega) (kp_108 44 rfl) (kp_108 45 rfl)
                  refine fun I_122 e_123 => ?_
                  replace hg := gt_let (y := tI I_122) (tI_q e_123) hg
                  have hR_124 : RI R I_122 := hR_106.up0 (k := 49) ra (by decide) (Or.inr hz59) e_123 (i_lo _) (i_hi _)
                  have hf_125 : Fm (fun c => c = o ∨ (o + 26 ≤ c ∧ c < o + 34)) I0 I_122 := hf_109.set (by first | rfl | omega | (dsimp only; omega)) e_123
                  have t_126 : (I_122 o 3).toInt = (I_104 o 3).toInt := by rw [← e_123, q_u_k (by decide)]
                  have t_127 : (I_122 o 4).toInt = (I_104 o 4).toInt := by rw [← e_123, q_u_k (by decide)]
                  have t_128 : (I_122 o 6).toInt = (I_104 o 6).toInt := by rw [← e_123, q_u_k (by decide)]
                  have t_129 : (I_122 o 7).toInt = (I_104 o 7).toInt := by rw [← e_123, q_u_k (by decide)]
                  have t_130 : (I_122 o 8).toInt = (I_104 o 8).toInt := by rw [← e_123, q_u_k (by decide)]
                  have t_131 : (I_122 o 9).toInt = (I_104 o 9).toInt := by rw [← e_123, q_u_k (by decide)]
                  have t_132 : (I_122 o 44).toInt = (I_104 o 44).toInt := by rw [← e_123, q_u_k (by decide)]
                  have t_133 : (I_122 o 45).toInt = (I_104 o 45).toInt := by rw [← e_123, q_u_k (by decide)]
                  have t_134 : (I_122 o 47).toInt = (I_104 o 47).toInt := by rw [← e_123, q_u_k (by decide)]
                  have t_135 : (I_122 o 48).toInt = (I_104 o 48).toInt := by rw [← e_123, q_u_k (by decide)]
                  have k_136 : MTd I_122 o := k_119.fr (by rw [← e_123]; exact q_u_ne (by omega)) (by rw [← e_123]; exact q_u_ne (by omega)) (by rw [← e_123]; exact q_u_ne (by omega))
                  have k_137 : MPo I_122 o := u_101.fr (by rw [← e_123, q_u_k (by decide)]) (by rw [← e_123, q_u_k (by decide)])
                  have k_138 : MTk I_122 o := u_102.fr (by rw [← e_123, q_u_k (by decide)]) (by rw [← e_123, q_u_k (by decide)]) (by rw [← e_123, q_u_k (by decide)])
                  have k_139 : ReS I_122 o := k_121.fr (by rw [← e_123]; exact q_u_ne (by omega)) (by rw [← e_123]; exact q_u_ne (by omega)) (by rw [← e_123]; exact q_u_ne (by omega)) (by rw [← e_123, q_u_k (by decide)]) (by rw [← e_123, q_u_k (by decide)]) (by rw [← e_123, q_u_k (by decide)]) (by rw [← e_123, q_u_k (by decide)])
                  have w_140 : I_122 (o + 28) = I0 (o + 28) := by rw [← e_123, q_u_ne (by omega)]; exact w_120
                  have g_141 : (0 : Int) ≤ (I_122 o 45).toInt ∧ (I_122 o 45).toInt ≤ 700 := hR_124.at0 ra 45 (by decide)
                  replace hg := gt_let (y := (I_122 o 45).toInt) rfl hg
                  refine y_Model_eg hok hw ra hz14 hz15 hz16 hz17 hz18 hz19 hz55 hz56 hz57 hz58 (by first | omega | (intro h; omega) | exact Or.inl rfl | exact Or.inr rfl) (by first | omega | (intro h; omega) | exact Or.inl rfl | exact Or.inr rfl) k_139 k_136 k_137 k_138 hR_124 (fun I_152 L_153 hR_154 fr_155 kp_156 u_143 u_144 u_145 u_146 u_147 u_148 u_149 u_150 gn_151 => ⟨I_152, L_153, rfl, rfl, ?_⟩)
                  replace hg := gt_b3 gn_151 hg
                  clear gn_151
                  have hf_157 : Fm (fun c => c = o ∨ (o + 26 ≤ c ∧ c < o + 34)) I0 I_152 := hf_125.call fr_155 (fun c hc => by first | exact hc | (dsimp only at hc ⊢; omega) | omega)
                  have t_158 : (I_152 o 3).toInt = (I_122 o 3).toInt := by rw [kp_156 3 rfl]
                  have g_159 : (0 : Int) ≤ (I_152 o 4).toInt ∧ (I_152 o 4).toInt ≤ 5 := hR_154.at0 ra 4 (by decide)
                  have g_160 : (0 : Int) ≤ (I_152 o 6).toInt ∧ (I_152 o 6).toInt ≤ 1600 := hR_154.at0 ra 6 (by decide)
                  have g_161 : (0 : Int) ≤ (I_152 o 7).toInt ∧ (I_152 o 7).toInt ≤ 1601 := hR_154.at0 ra 7 (by decide)
                  have g_162 : (0 : Int) ≤ (I_152 o 8).toInt ∧ (I_152 o 8).toInt ≤ 6 := hR_154.at0 ra 8 (by decide)
                  have t_163 : (I_152 o 44).toInt = (I_122 o 44).toInt := by rw [kp_156 44 rfl]
                  have g_164 : (0 : Int) ≤ (I_152 o 45).toInt ∧ (I_152 o 45).toInt ≤ 700 := hR_154.at0 ra 45 (by decide)
                  have g_165 : (0 : Int) ≤ (I_152 o 47).toInt ∧ (I_152 o 47).toInt ≤ 7 := hR_154.at0 ra 47 (by decide)
                  have g_166 : (0 : Int) ≤ (I_152 o 48).toInt ∧ (I_152 o 48).toInt ≤ 80 := hR_154.at0 ra 48 (by decide)
                  have w_167 : I_152 (o + 28) = I0 (o + 28) := (fr_155 (o + 28) (by first | omega | (dsimp only; omega))).trans w_140
                  have l_168 : (59 : Int32).toInt = 59 := rfl
                  refine y_Model_isg hok hw ra hR_154 (fun r_169 u_170 u_171 u_172 gn_173 => ⟨r_169, I_152, L_153, rfl, rfl, ?_⟩)
                  replace hg := gt_let gn_173 hg
                  clear gn_173
                  have b_174 : 0 ≤ r_169.toInt ∧ r_169.toInt ≤ 1 := u_170.rg
                  refine y_Model_mustg hok hw ra hz14 hz15 hz16 hz17 hz18 hz19 (by first | omega | (intro h; omega) | exact Or.inl rfl | exact Or.inr rfl) u_149 u_150 hR_154 (fun I_186 L_187 hR_188 fr_189 kp_190 u_176 u_177 u_178 u_179 u_180 u_181 u_182 u_183 u_184 gn_185 => ⟨I_186, L_187, rfl, rfl, ?_⟩)
                  replace hg := gt_b3 gn_185 hg
                  clear gn_185
                  have hf_191 : Fm (fun c => c = o ∨ (o + 26 ≤ c ∧ c < o + 34)) I0 I_186 := hf_157.call fr_189 (fun c hc => by first | exact hc | (dsimp only at hc ⊢; omega) | omega)
                  have t_192 : (I_186 o 3).toInt = (I_152 o 3).toInt := by rw [kp_190 3 rfl]
                  have g_193 : (0 : Int) ≤ (I_186 o 4).toInt ∧ (I_186 o 4).toInt ≤ 5 := hR_188.at0 ra 4 (by decide)
                  have g_194 : (0 : Int) ≤ (I_186 o 6).toInt ∧ (I_186 o 6).toInt ≤ 1600 := hR_188.at0 ra 6 (by decide)
                  have g_195 : (0 : Int) ≤ (I_186 o 7).toInt ∧ (I_186 o 7).toInt ≤ 1601 := hR_188.at0 ra 7 (by decide)
                  have g_196 : (0 : Int) ≤ (I_186 o 8).toInt ∧ (I_186 o 8).toInt ≤ 6 := hR_188.at0 ra 8 (by decide)
                  have t_197 : (I_186 o 44).toInt = (I_152 o 44).toInt := by rw [kp_190 44 rfl]
                  have t_198 : (I_186 o 45).toInt = (I_152 o 45).toInt := by rw [kp_190 45 rfl]
                  have t_199 : (I_186 o 47).toInt = (I_152 o 47).toInt := by rw [kp_190 47 rfl]
                  have t_200 : (I_186 o 48).toInt = (I_152 o 48).toInt := by rw [kp_190 48 rfl]
                  have k_201 : MTd I_186 o := u_148.fr (fr_189 _ (by first | omega | (dsimp only; omega))) (fr_189 _ (by first | omega | (dsimp only; omega))) (fr_189 _ (by first | omega | (dsimp only; omega)))
                  have w_202 : I_186 (o + 28) = I0 (o + 28) := (fr_189 (o + 28) (by first | omega | (dsimp only; omega))).trans w_167
                  have hm26 := fr_189 (o + 26) (by first | omega | (dsimp only; omega))
                  have hm27 := fr_189 (o + 27) (by first | omega | (dsimp only; omega))
                  have hm30 := fr_189 (o + 30) (by first | omega | (dsimp only; omega))
                  have hm3 := kp_190 3 rfl
                  have hm44 := kp_190 44 rfl
                  have hm45 := kp_190 45 rfl
                  have tk2 := u_184.1
                  have g_203 : (0 : Int) ≤ (I_186 o 44).toInt ∧ (I_186 o 44).toInt ≤ 4 := hR_188.at0 ra 44 (by decide)
                  replace hg := gt_let (y := (I_186 o 44).toInt) rfl hg
                  have l_204 : (10 : Int32).toInt = 10 := rfl
                  have a_205 : (10 * (I_186 o 44)).toInt = 10 * (I_186 o 44).toInt := tMulL rfl (by omega) (by omega)
                  replace hg := gt_let (y := ((10 * (I_186 o 44)) : Int32).toInt) (by omega) hg
                  have a_206 : ((10 * (I_186 o 44)) + (-1 : Int32)).toInt = (10 * (I_186 o 44)).toInt + (-1 : Int32).toInt := tAdd (by omega) (by omega)
                  replace hg := gt_let (y := (((10 * (I_186 o 44)) + (-1 : Int32)) : Int32).toInt) (by omega) hg
                  refine ⟨tIn (by omega) (by omega), fun I_207 e_208 => ?_⟩
                  replace hg := gt_let (y := tI I_207) (tI_q e_208) hg
                  have hR_209 : RI R I_207 := hR_188.up ra 26 (by decide) (Or.inl rfl) e_208 (show (-1 : Int) ≤ (I_122 o 45).toInt by omega) (show (I_122 o 45).toInt ≤ (700 : Int) by omega)
                  have hf_210 : Fm (fun c => c = o ∨ (o + 26 ≤ c ∧ c < o + 34)) I0 I_207 := hf_191.set (by first | rfl | omega | (dsimp only; omega)) e_208
                  have t_211 : (I_207 o 3).toInt = (I_186 o 3).toInt := by rw [← e_208, q_u_ne (by omega)]
                  have t_212 : (I_207 o 4).toInt = (I_186 o 4).toInt := by rw [← e_208, q_u_ne (by omega)]
                  have t_213 : (I_207 o 6).toInt = (I_186 o 6).toInt := by rw [← e_208, q_u_ne (by omega)]
                  have t_214 : (I_207 o 7).toInt = (I_186 o 7).toInt := by rw [← e_208, q_u_ne (by omega)]
                  have t_215 : (I_207 o 8).toInt = (I_186 o 8).toInt := by rw [← e_208, q_u_ne (by omega)]
                  have t_216 : (I_207 o 9).toInt = (I_186 o 9).toInt := by rw [← e_208, q_u_ne (by omega)]
                  have t_217 : (I_207 o 44).toInt = (I_186 o 44).toInt := by rw [← e_208, q_u_ne (by omega)]
                  have t_218 : (I_207 o 45).toInt = (I_186 o 45).toInt := by rw [← e_208, q_u_ne (by omega)]
                  have t_219 : (I_207 o 47).toInt = (I_186 o 47).toInt := by rw [← e_208, q_u_ne (by omega)]
                  have t_220 : (I_207 o 48).toInt = (I_186 o 48).toInt := by rw [← e_208, q_u_ne (by omega)]
                  have k_222 : MPo I_207 o := u_183.fr (by rw [← e_208, q_u_ne (by omega)]) (by rw [← e_208, q_u_ne (by omega)])
                  have k_223 : MTk I_207 o := u_184.fr (by rw [← e_208, q_u_ne (by omega)]) (by rw [← e_208, q_u_ne (by omega)]) (by rw [← e_208, q_u_ne (by omega)])
                  have w_224 : I_207 (o + 28) = I0 (o + 28) := by rw [← e_208, q_u_ne (by omega)]; exact w_202
                  have k_225 : MTd I_207 o := by exact MTd.p26 k_201 e_208 (by omega)
                  have g_226 : (0 : Int) ≤ (I_207 o 44).toInt ∧ (I_207 o 44).toInt ≤ 4 := hR_209.at0 ra 44 (by decide)
                  replace hg := gt_let (y := (I_207 o 44).toInt) rfl hg
                  have a_227 : (10 * (I_207 o 44)).toInt = 10 * (I_207 o 44).toInt := tMulL rfl (by omega) (by omega)
                  replace hg := gt_let (y := ((10 * (I_207 o 44)) : Int32).toInt) (by omega) hg
                  have a_228 : ((10 * (I_207 o 44)) + (-1 : Int32)).toInt = (10 * (I_207 o 44)).toInt + (-1 : Int32).toInt := tAdd (by omega) (by omega)
                  replace hg := gt_let (y := (((10 * (I_207 o 44)) + (-1 : Int32)) : Int32).toInt) (by omega) hg
                  have g_229 : (0 : Int) ≤ (I_207 o 45).toInt ∧ (I_207 o 45).toInt ≤ 700 := hR_209.at0 ra 45 (by decide)
                  replace hg := gt_let (y := (I_207 o 45).toInt) rfl hg
                  refine ⟨tIn (by omega) (by omega), fun I_230 e_231 => ?_⟩
                  replace hg := gt_let (y := tI I_230) (tI_q e_231) hg
                  have hR_232 : RI R I_230 := hR_209.up ra 27 (by decide) (Or.inl rfl) e_231 (show (0 : Int) ≤ (I_207 o 45).toInt by omega) (show (I_207 o 45).toInt ≤ (700 : Int) by omega)
                  have hf_233 : Fm (fun c => c = o ∨ (o + 26 ≤ c ∧ c < o + 34)) I0 I_230 := hf_210.set (by first | rfl | omega | (dsimp only; omega)) e_231
                  have t_234 : (I_230 o 3).toInt = (I_207 o 3).toInt := by rw [← e_231, q_u_ne (by omega)]
                  have t_235 : (I_230 o 4).toInt = (I_207 o 4).toInt := by rw [← e_231, q_u_ne (by omega)]
                  have t_236 : (I_230 o 6).toInt = (I_207 o 6).toInt := by rw [← e_231, q_u_ne (by omega)]
                  have t_237 : (I_230 o 7).toInt = (I_207 o 7).toInt := by rw [← e_231, q_u_ne (by omega)]
                  have t_238 : (I_230 o 8).toInt = (I_207 o 8).toInt := by rw [← e_231, q_u_ne (by omega)]
                  have t_239 : (I_230 o 9).toInt = (I_207 o 9).toInt := by rw [← e_231, q_u_ne (by omega)]
                  have t_240 : (I_230 o 44).toInt = (I_207 o 44).toInt := by rw [← e_231, q_u_ne (by omega)]
                  have t_241 : (I_230 o 45).toInt = (I_207 o 45).toInt := by rw [← e_231, q_u_ne (by omega)]
                  have t_242 : (I_230 o 47).toInt = (I_207 o 47).toInt := by rw [← e_231, q_u_ne (by omega)]
                  have t_243 : (I_230 o 48).toInt = (I_207 o 48).toInt := by rw [← e_231, q_u_ne (by omega)]
                  have k_244 : MPo I_230 o := k_222.fr (by rw [← e_231, q_u_ne (by omega)]) (by rw [← e_231, q_u_ne (by omega)])
                  have k_245 : MTk I_230 o := k_223.fr (by rw [← e_231, q_u_ne (by omega)]) (by rw [← e_231, q_u_ne (by omega)]) (by rw [← e_231, q_u_ne (by omega)])
                  have w_247 : I_230 (o + 28) = I0 (o + 28) := by rw [← e_231, q_u_ne (by omega)]; exact w_224
                  have k_248 : MTd I_230 o := by exact MTd.p27 k_225 e_231 (by omega)
                  have k_249 : ReG I_230 o := by intro h; exact ReS.put (u_147 (by omega)) (by omega) hm26 hm27 hm30 hm3 hm44 hm45 (by omega) (by omega) e_208 e_231 (by omega) (by omega)
                  have l_250 : (5 : Int32).toInt = 5 := rfl
                  refine ⟨fun c_251 => ?_, fun c_251 => ?_⟩
                  · have d_252 := iLt c_251
                    replace hg := gt_pos (by first | exact d_252 | omega) hg
                    unfold fModel_readReform_228
                    replace hg := (eModel_readReform_228).symm.trans hg
                    have g_253 : (0 : Int) ≤ (I_230 o 44).toInt ∧ (I_230 o 44).toInt ≤ 4 := hR_232.at0 ra 44 (by decide)
                    replace hg := gt_let (y := (I_230 o 44).toInt) rfl hg
                    refine ⟨tIn (by omega) (by omega), ?_⟩
                    replace hg := gt_let (y := (I_230 (o + 29) ((I_230 o 44) : Int32).toNatClampNeg).toInt) rfl hg
                    have l_254 : (1 : Int32).toInt = 1 := rfl
                    replace hg := gt_let (y := (((I_230 (o + 29) ((I_230 o 44) : Int32).toNatClampNeg) + 1) : Int32).toInt) (wAdd_eq ((I_230 (o + 29) ((I_230 o 44) : Int32).toNatClampNeg) : Int32) (1 : Int32)) hg
                    refine ⟨tIn (by omega) (by omega), fun I_255 e_256 => ?_⟩
                    replace hg := gt_let (y := tI I_255) (tI_q e_256) hg
                    have hR_257 : RI R I_255 := hR_232.up ra 29 (by decide) (Or.inl rfl) e_256 (i_lo _) (i_hi _)
                    have hf_258 : Fm (fun c => c = o ∨ (o + 26 ≤ c ∧ c < o + 34)) I0 I_255 := hf_233.set (by first | rfl | omega | (dsimp only; omega)) e_256
                    have t_259 : (I_255 o 3).toInt = (I_230 o 3).toInt := by rw [← e_256, q_u_ne (by omega)]
                    have t_260 : (I_255 o 4).toInt = (I_230 o 4).toInt := by rw [← e_256, q_u_ne (by omega)]
                    have t_261 : (I_255 o 6).toInt = (I_230 o 6).toInt := by rw [← e_256, q_u_ne (by omega)]
                    have t_262 : (I_255 o 7).toInt = (I_230 o 7).toInt := by rw [← e_256, q_u_ne (by omega)]
                    have t_263 : (I_255 o 8).toInt = (I_230 o 8).toInt := by rw [← e_256, q_u_ne (by omega)]
                    have t_264 : (I_255 o 9).toInt = (I_230 o 9).toInt := by rw [← e_256, q_u_ne (by omega)]
                    have t_265 : (I_255 o 44).toInt = (I_230 o 44).toInt := by rw [← e_256, q_u_ne (by omega)]
                    have t_266 : (I_255 o 45).toInt = (I_230 o 45).toInt := by rw [← e_256, q_u_ne (by omega)]
                    have t_267 : (I_255 o 47).toInt = (I_230 o 47).toInt := by rw [← e_256, q_u_ne (by omega)]
                    have t_268 : (I_255 o 48).toInt = (I_230 o 48).toInt := by rw [← e_256, q_u_ne (by omega)]
                    have k_269 : MPo I_255 o := k_244.fr (by rw [← e_256, q_u_ne (by omega)]) (by rw [← e_256, q_u_ne (by omega)])
                    have k_270 : MTk I_255 o := k_245.fr (by rw [← e_256, q_u_ne (by omega)]) (by rw [← e_256, q_u_ne (by omega)]) (by rw [← e_256, q_u_ne (by omega)])
                    have k_271 : MTd I_255 o := k_248.fr (by rw [← e_256]; exact q_u_ne (by omega)) (by rw [← e_256]; exact q_u_ne (by omega)) (by rw [← e_256]; exact q_u_ne (by omega))
                    have k_272 : ReG I_255 o := k_249.fr (by rw [← e_256]; exact q_u_ne (by omega)) (by rw [← e_256]; exact q_u_ne (by omega)) (by rw [← e_256]; exact q_u_ne (by omega)) (by rw [← e_256, q_u_ne (by omega)]) (by rw [← e_256, q_u_ne (by omega)]) (by rw [← e_256, q_u_ne (by omega)]) (by rw [← e_256, q_u_ne (by omega)]) (by rw [← e_256, q_u_ne (by omega)])
                    have w_273 : I_255 (o + 28) = I0 (o + 28) := by rw [← e_256, q_u_ne (by omega)]; exact w_247
                    exact (hp _ _ hR_257 hf_258 (by first | omega | (intro h; omega) | exact Or.inl rfl | exact Or.inr rfl) (by first | omega | (intro h; omega) | exact Or.inl rfl | exact Or.inr rfl) (by first | omega | (intro h; omega) | exact Or.inl rfl | exact Or.inr rfl) (by first | omega | (intro h; omega) | exact Or.inl rfl | exact Or.inr rfl) (by first | omega | (intro h; omega) | exact Or.inl rfl | exact Or.inr rfl) k_271 k_269 k_270 k_272 hg.symm)
                  · have d_274 := iNlt c_251
                    exfalso; omega
                · have d_275 := iEq c_91
                  have i_276 := u_88 (by omega)
                  replace hg := gt_pos (by first | exact d_275 | omega) hg
                  exact (hp _ _ hR_66 hf_69 (by first | omega | (intro h; omega) | exact Or.inl rfl | exact Or.inr rfl) (by first | omega | (intro h; omega) | exact Or.inl rfl | exact Or.inr rfl) (by first | omega | (intro h; omega) | exact Or.inl rfl | exact Or.inr rfl) (by first | omega | (intro h; omega) | exact Or.inl rfl | exact Or.inr rfl) (by first | omega | (intro h; omega) | exact Or.inl rfl | exact Or.inr rfl) k_81 k_82 k_83 (fun h => absurd h (by omega)) hg.symm)
              · have d_277 := iNlt c_58
                exfalso; omega
            · have d_278 := iNe c_55
              have i_279 := u_52 (by omega)
              replace hg := gt_neg (by first | exact d_278 | omega) hg
              have g_280 : (0 : Int) ≤ (I0 o 44).toInt ∧ (I0 o 44).toInt ≤ 4 := hR.at0 ra 44 (by decide)
              replace hg := gt_let (y := (I0 o 44).toInt) rfl hg
              refine ⟨tIn (by omega) (by omega), ?_⟩
              have g_281 : (0 : Int) ≤ (I0 (o + 28) ((I0 o 44) : Int32).toNatClampNeg).toInt ∧ (I0 (o + 28) ((I0 o 44) : Int32).toNatClampNeg).toInt ≤ 5 := hR.at ra 28 _ (by decide)
              replace hg := gt_let (y := (I0 (o + 28) ((I0 o 44) : Int32).toNatClampNeg).toInt) rfl hg
              have l_282 : (5 : Int32).toInt = 5 := rfl
              have a_283 : (5 + (I0 (o + 28) ((I0 o 44) : Int32).toNatClampNeg)).toInt = (5 : Int32).toInt + (I0 (o + 28) ((I0 o 44) : Int32).toNatClampNeg).toInt := tAdd (by omega) (by omega)
              replace hg := gt_let (y := ((5 + (I0 (o + 28) ((I0 o 44) : Int32).toNatClampNeg)) : Int32).toInt) (by omega) hg
              unfold fModel_readReform_95
              replace hg := (eModel_readReform_95).symm.trans hg
              refine ⟨fun c_284 => ?_, fun c_284 => ?_⟩
              · have d_285 := iLt c_284
                exfalso; omega
              · have d_286 := iNlt c_284
                replace hg := gt_neg (by first | exact d_286 | omega) hg
                have l_287 : (10 : Int32).toInt = 10 := rfl
                refine ⟨fun c_288 => ?_, fun c_288 => ?_⟩
                · have d_289 := iEq c_288
                  replace hg := gt_pos (by first | exact d_289 | omega) hg
                  refine y_Model_wrongg hok hw ra hz14 hz15 hR (fun I_294 L_295 hR_296 fr_297 kp_298 u_291 u_292 gn_293 => ⟨I_294, L_295, rfl, rfl, ?_⟩)
                  replace hg := gt_b3 gn_293 hg
                  clear gn_293
                  have hf_299 : Fm (fun c => c = o ∨ (o + 26 ≤ c ∧ c < o + 34)) I0 I_294 := hf.call fr_297 (fun c hc => by first | exact hc | (dsimp only at hc ⊢; omega) | omega)
                  have t_300 : (I_294 o 3).toInt = (I0 o 3).toInt := by rw [kp_298 3 rfl]
                  have g_301 : (0 : Int) ≤ (I_294 o 4).toInt ∧ (I_294 o 4).toInt ≤ 5 := hR_296.at0 ra 4 (by decide)
                  have t_302 : (I_294 o 6).toInt = (I0 o 6).toInt := by rw [kp_298 6 rfl]
                  have t_303 : (I_294 o 7).toInt = (I0 o 7).toInt := by rw [kp_298 7 rfl]
                  have t_304 : (I_294 o 8).toInt = (I0 o 8).toInt := by rw [kp_298 8 rfl]
                  have t_305 : (I_294 o 9).toInt = (I0 o 9).toInt := by rw [kp_298 9 rfl]
                  have t_306 : (I_294 o 44).toInt = (I0 o 44).toInt := by rw [kp_298 44 rfl]
                  have t_307 : (I_294 o 45).toInt = (I0 o 45).toInt := by rw [kp_298 45 rfl]
                  have t_308 : (I_294 o 47).toInt = (I0 o 47).toInt := by rw [kp_298 47 rfl]
                  have t_309 : (I_294 o 48).toInt = (I0 o 48).toInt := by rw [kp_298 48 rfl]
                  have k_310 : ReS I_294 o := hq3.fr (fr_297 _ (by first | omega | (dsimp only; omega))) (fr_297 _ (by first | omega | (dsimp only; omega))) (fr_297 _ (by first | omega | (dsimp only; omega))) (kp_298 3 rfl) (kp_298 6 rfl) (kp_298 44 rfl) (kp_298 45 rfl)
                  have k_311 : MTd I_294 o := hq4.fr (fr_297 _ (by first | omega | (dsimp only; omega))) (fr_297 _ (by first | omega | (dsimp only; omega))) (fr_297 _ (by first | omega | (dsimp only; omega)))
                  have k_312 : MPo I_294 o := hq5.fr (kp_298 8 rfl) (kp_298 9 rfl)
                  have k_313 : MTk I_294 o := hq6.fr (kp_298 6 rfl) (kp_298 7 rfl) (kp_298 8 rfl)
                  have w_314 : I_294 (o + 28) = I0 (o + 28) := (fr_297 (o + 28) (by first | omega | (dsimp only; omega)))
                  refine y_Model_isGoodg hok hw ra hR_296 (fun r_315 u_316 u_317 u_318 gn_319 => ⟨r_315, I_294, L_295, rfl, rfl, ?_⟩)
                  replace hg := gt_let gn_319 hg
                  clear gn_319
                  have b_320 : 0 ≤ r_315.toInt ∧ r_315.toInt ≤ 1 := u_316.rg
                  refine ⟨fun c_321 => ?_, fun c_321 => ?_⟩
                  · have d_322 := iNe c_321
                    have i_323 := u_317 (by omega)
                    replace hg := gt_neg (by first | exact d_322 | omega) hg
                    have tk := k_313.1
                    refine y_Model_nextg hok hw ra hz16 hz17 hz18 hz19 (by first | omega | (intro h; omega) | exact Or.inl rfl | exact Or.inr rfl) hR_296 (fun I_334 L_335 hR_336 fr_337 kp_338 u_325 u_326 u_327 u_328 u_329 u_330 u_331 u_332 gn_333 => ⟨I_334, L_335, rfl, rfl, ?_⟩)
                    replace hg := gt_b3 gn_333 hg
                    clear gn_333
                    have hf_339 : Fm (fun c => c = o ∨ (o + 26 ≤ c ∧ c < o + 34)) I0 I_334 := hf_299.call fr_337 (fun c hc => by first | exact hc | (dsimp only at hc ⊢; omega) | omega)
                    have t_340 : (I_334 o 3).toInt = (I_294 o 3).toInt := by rw [kp_338 3 rfl]
                    have t_341 : (I_334 o 4).toInt = (I_294 o 4).toInt := by rw [kp_338 4 rfl]
                    have g_342 : (0 : Int) ≤ (I_334 o 6).toInt ∧ (I_334 o 6).toInt ≤ 1600 := hR_336.at0 ra 6 (by decide)
                    have g_343 : (0 : Int) ≤ (I_334 o 7).toInt ∧ (I_334 o 7).toInt ≤ 1601 := hR_336.at0 ra 7 (by decide)
                    have g_344 : (0 : Int) ≤ (I_334 o 8).toInt ∧ (I_334 o 8).toInt ≤ 6 := hR_336.at0 ra 8 (by decide)
                    have t_345 : (I_334 o 44).toInt = (I_294 o 44).toInt := by rw [kp_338 44 rfl]
                    have t_346 : (I_334 o 45).toInt = (I_294 o 45).toInt := by rw [kp_338 45 rfl]
                    have t_347 : (I_334 o 47).toInt = (I_294 o 47).toInt := by rw [kp_338 47 rfl]
                    have t_348 : (I_334 o 48).toInt = (I_294 o 48).toInt := by rw [kp_338 48 rfl]
                    have k_349 : MTd I_334 o := k_311.fr (fr_337 _ (by first | omega | (dsimp only; omega))) (fr_337 _ (by first | omega | (dsimp only; omega))) (fr_337 _ (by first | omega | (dsimp only; omega)))
                    have w_350 : I_334 (o + 28) = I0 (o + 28) := (fr_337 (o + 28) (by first | omega | (dsimp only; omega))).trans w_314
                    have ms := u_328 (by omega)
                    have k_351 : ReS I_334 o := by exact ReS.at k_310 (fr_337 _ (by first | omega | (dsimp only; omega))) (fr_337 _ (by first | omega | (dsimp only; omega))) (fr_337 _ (by first | omega | (dsimp only; omega))) (kp_338 3 rfl) (by omega) (by omega) (kp_338 44 rfl) (kp_338 45 rfl)
                    refine fun I_352 e_353 => ?_
                    replace hg := gt_let (y := tI I_352) (tI_q e_353) hg
                    have hR_354 : RI R I_352 := hR_336.up0 (k := 49) ra (by decide) (Or.inr hz59) e_353 (i_lo _) (i_hi _)
                    have hf_355 : Fm (fun c => c = o ∨ (o + 26 ≤ c ∧ c < o + 34)) I0 I_352 := hf_339.set (by first | rfl | omega | (dsimp only; omega)) e_353
                    have t_356 : (I_352 o 3).toInt = (I_334 o 3).toInt := by rw [← e_353, q_u_k (by decide)]
                    have t_357 : (I_352 o 4).toInt = (I_334 o 4).toInt := by rw [← e_353, q_u_k (by decide)]
                    have t_358 : (I_352 o 6).toInt = (I_334 o 6).toInt := by rw [← e_353, q_u_k (by decide)]
                    have t_359 : (I_352 o 7).toInt = (I_334 o 7).toInt := by rw [← e_353, q_u_k (by decide)]
                    have t_360 : (I_352 o 8).toInt = (I_334 o 8).toInt := by rw [← e_353, q_u_k (by decide)]
                    have t_361 : (I_352 o 9).toInt = (I_334 o 9).toInt := by rw [← e_353, q_u_k (by decide)]
                    have t_362 : (I_352 o 44).toInt = (I_334 o 44).toInt := by rw [← e_353, q_u_k (by decide)]
                    have t_363 : (I_352 o 45).toInt = (I_334 o 45).toInt := by rw [← e_353, q_u_k (by decide)]
                    have t_364 : (I_352 o 47).toInt = (I_334 o 47).toInt := by rw [← e_353, q_u_k (by decide)]
                    have t_365 : (I_352 o 48).toInt = (I_334 o 48).toInt := by rw [← e_353, q_u_k (by decide)]
                    have k_366 : MTd I_352 o := k_349.fr (by rw [← e_353]; exact q_u_ne (by omega)) (by rw [← e_353]; exact q_u_ne (by omega)) (by rw [← e_353]; exact q_u_ne (by omega))
                    have k_367 : MPo I_352 o := u_331.fr (by rw [← e_353, q_u_k (by decide)]) (by rw [← e_353, q_u_k (by decide)])
                    have k_368 : MTk I_352 o := u_332.fr (by rw [← e_353, q_u_k (by decide)]) (by rw [← e_353, q_u_k (by decide)]) (by rw [← e_353, q_u_k (by decide)])
                    have k_369 : ReS I_352 o := k_351.fr (by rw [← e_353]; exact q_u_ne (by omega)) (by rw [← e_353]; exact q_u_ne (by omega)) (by rw [← e_353]; exact q_u_ne (by omega)) (by rw [← e_353, q_u_k (by decide)]) (by rw [← e_353, q_u_k (by decide)]) (by rw [← e_353, q_u_k (by decide)]) (by rw [← e_353, q_u_k (by decide)])
                    have w_370 : I_352 (o + 28) = I0 (o + 28) := by rw [← e_353, q_u_ne (by omega)]; exact w_350
                    have g_371 : (0 : Int) ≤ (I_352 o 45).toInt ∧ (I_352 o 45).toInt ≤ 700 := hR_354.at0 ra 45 (by decide)
                    replace hg := gt_let (y := (I_352 o 45).toInt) rfl hg
                    refine y_Model_eg hok hw ra hz14 hz15 hz16 hz17 hz18 hz19 hz55 hz56 hz57 hz58 (by first | omega | (intro h; omega) | exact Or.inl rfl | exact Or.inr rfl) (by first | omega | (intro h; omega) | exact Or.inl rfl | exact Or.inr rfl) k_369 k_366 k_367 k_368 hR_354 (fun I_382 L_383 hR_384 fr_385 kp_386 u_373 u_374 u_375 u_376 u_377 u_378 u_379 u_380 gn_381 => ⟨I_382, L_383, rfl, rfl, ?_⟩)
                    replace hg := gt_b3 gn_381 hg
                    clear gn_381
                    have hf_387 : Fm (fun c => c = o ∨ (o + 26 ≤ c ∧ c < o + 34)) I0 I_382 := hf_355.call fr_385 (fun c hc => by first | exact hc | (dsimp only at hc ⊢; omega) | omega)
                    have t_388 : (I_382 o 3).toInt = (I_352 o 3).toInt := by rw [kp_386 3 rfl]
                    have g_389 : (0 : Int) ≤ (I_382 o 4).toInt ∧ (I_382 o 4).toInt ≤ 5 := hR_384.at0 ra 4 (by decide)
                    have g_390 : (0 : Int) ≤ (I_382 o 6).toInt ∧ (I_382 o 6).toInt ≤ 1600 := hR_384.at0 ra 6 (by decide)
                    have g_391 : (0 : Int) ≤ (I_382 o 7).toInt ∧ (I_382 o 7).toInt ≤ 1601 := hR_384.at0 ra 7 (by decide)
                    have g_392 : (0 : Int) ≤ (I_382 o 8).toInt ∧ (I_382 o 8).toInt ≤ 6 := hR_384.at0 ra 8 (by decide)
                    have t_393 : (I_382 o 44).toInt = (I_352 o 44).toInt := by rw [kp_386 44 rfl]
                    have g_394 : (0 : Int) ≤ (I_382 o 45).toInt ∧ (I_382 o 45).toInt ≤ 700 := hR_384.at0 ra 45 (by decide)
                    have g_395 : (0 : Int) ≤ (I_382 o 47).toInt ∧ (I_382 o 47).toInt ≤ 7 := hR_384.at0 ra 47 (by decide)
                    have g_396 : (0 : Int) ≤ (I_382 o 48).toInt ∧ (I_382 o 48).toInt ≤ 80 := hR_384.at0 ra 48 (by decide)
                    have w_397 : I_382 (o + 28) = I0 (o + 28) := (fr_385 (o + 28) (by first | omega | (dsimp only; omega))).trans w_370
                    have l_398 : (59 : Int32).toInt = 59 := rfl
                    refine y_Model_isg hok hw ra hR_384 (fun r_399 u_400 u_401 u_402 gn_403 => ⟨r_399, I_382, L_383, rfl, rfl, ?_⟩)
                    replace hg := gt_let gn_403 hg
                    clear gn_403
                    have b_404 : 0 ≤ r_399.toInt ∧ r_399.toInt ≤ 1 := u_400.rg
                    refine y_Model_mustg hok hw ra hz14 hz15 hz16 hz17 hz18 hz19 (by first | omega | (intro h; omega) | exact Or.inl rfl | exact Or.inr rfl) u_379 u_380 hR_384 (fun I_416 L_417 hR_418 fr_419 kp_420 u_406 u_407 u_408 u_409 u_410 u_411 u_412 u_413 u_414 gn_415 => ⟨I_416, L_417, rfl, rfl, ?_⟩)
                    replace hg := gt_b3 gn_415 hg
                    clear gn_415
                    have hf_421 : Fm (fun c => c = o ∨ (o + 26 ≤ c ∧ c < o + 34)) I0 I_416 := hf_387.call fr_419 (fun c hc => by first | exact hc | (dsimp only at hc ⊢; omega) | omega)
                    have t_422 : (I_416 o 3).toInt = (I_382 o 3).toInt := by rw [kp_420 3 rfl]
                    have g_423 : (0 : Int) ≤ (I_416 o 4).toInt ∧ (I_416 o 4).toInt ≤ 5 := hR_418.at0 ra 4 (by decide)
                    have g_424 : (0 : Int) ≤ (I_416 o 6).toInt ∧ (I_416 o 6).toInt ≤ 1600 := hR_418.at0 ra 6 (by decide)
                    have g_425 : (0 : Int) ≤ (I_416 o 7).toInt ∧ (I_416 o 7).toInt ≤ 1601 := hR_418.at0 ra 7 (by decide)
                    have g_426 : (0 : Int) ≤ (I_416 o 8).toInt ∧ (I_416 o 8).toInt ≤ 6 := hR_418.at0 ra 8 (by decide)
                    have t_427 : (I_416 o 44).toInt = (I_382 o 44).toInt := by rw [kp_420 44 rfl]
                    have t_428 : (I_416 o 45).toInt = (I_382 o 45).toInt := by rw [kp_420 45 rfl]
                    have t_429 : (I_416 o 47).toInt = (I_382 o 47).toInt := by rw [kp_420 47 rfl]
                    have t_430 : (I_416 o 48).toInt = (I_382 o 48).toInt := by rw [kp_420 48 rfl]
                    have k_431 : MTd I_416 o := u_378.fr (fr_419 _ (by first | omega | (dsimp only; omega))) (fr_419 _ (by first | omega | (dsimp only; omega))) (fr_419 _ (by first | omega | (dsimp only; omega)))
                    have w_432 : I_416 (o + 28) = I0 (o + 28) := (fr_419 (o + 28) (by first | omega | (dsimp only; omega))).trans w_397
                    have hm26 := fr_419 (o + 26) (by first | omega | (dsimp only; omega))
                    have hm27 := fr_419 (o + 27) (by first | omega | (dsimp only; omega))
                    have hm30 := fr_419 (o + 30) (by first | omega | (dsimp only; omega))
                    have hm3 := kp_420 3 rfl
                    have hm44 := kp_420 44 rfl
                    have hm45 := kp_420 45 rfl
                    have tk2 := u_414.1
                    have g_433 : (0 : Int) ≤ (I_416 o 44).toInt ∧ (I_416 o 44).toInt ≤ 4 := hR_418.at0 ra 44 (by decide)
                    replace hg := gt_let (y := (I_416 o 44).toInt) rfl hg
                    have a_434 : (10 * (I_416 o 44)).toInt = 10 * (I_416 o 44).toInt := tMulL rfl (by omega) (by omega)
                    replace hg := gt_let (y := ((10 * (I_416 o 44)) : Int32).toInt) (by omega) hg
                    have a_435 : ((10 * (I_416 o 44)) + (5 + (I0 (o + 28) ((I0 o 44) : Int32).toNatClampNeg))).toInt = (10 * (I_416 o 44)).toInt + (5 + (I0 (o + 28) ((I0 o 44) : Int32).toNatClampNeg)).toInt := tAdd (by omega) (by omega)
                    replace hg := gt_let (y := (((10 * (I_416 o 44)) + (5 + (I0 (o + 28) ((I0 o 44) : Int32).toNatClampNeg))) : Int32).toInt) (by omega) hg
                    refine ⟨tIn (by omega) (by omega), fun I_436 e_437 => ?_⟩
                    replace hg := gt_let (y := tI I_436) (tI_q e_437) hg
                    have hR_438 : RI R I_436 := hR_418.up ra 26 (by decide) (Or.inl rfl) e_437 (show (-1 : Int) ≤ (I_352 o 45).toInt by omega) (show (I_352 o 45).toInt ≤ (700 : Int) by omega)
                    have hf_439 : Fm (fun c => c = o ∨ (o + 26 ≤ c ∧ c < o + 34)) I0 I_436 := hf_421.set (by first | rfl | omega | (dsimp only; omega)) e_437
                    have t_440 : (I_436 o 3).toInt = (I_416 o 3).toInt := by rw [← e_437, q_u_ne (by omega)]
                    have t_441 : (I_436 o 4).toInt = (I_416 o 4).toInt := by rw [← e_437, q_u_ne (by omega)]
                    have t_442 : (I_436 o 6).toInt = (I_416 o 6).toInt := by rw [← e_437, q_u_ne (by omega)]
                    have t_443 : (I_436 o 7).toInt = (I_416 o 7).toInt := by rw [← e_437, q_u_ne (by omega)]
                    have t_444 : (I_436 o 8).toInt = (I_416 o 8).toInt := by rw [← e_437, q_u_ne (by omega)]
                    have t_445 : (I_436 o 9).toInt = (I_416 o 9).toInt := by rw [← e_437, q_u_ne (by omega)]
                    have t_446 : (I_436 o 44).toInt = (I_416 o 44).toInt := by rw [← e_437, q_u_ne (by omega)]
                    have t_447 : (I_436 o 45).toInt = (I_416 o 45).toInt := by rw [← e_437, q_u_ne (by omega)]
                    have t_448 : (I_436 o 47).toInt = (I_416 o 47).toInt := by rw [← e_437, q_u_ne (by omega)]
                    have t_449 : (I_436 o 48).toInt = (I_416 o 48).toInt := by rw [← e_437, q_u_ne (by omega)]
                    have k_451 : MPo I_436 o := u_413.fr (by rw [← e_437, q_u_ne (by omega)]) (by rw [← e_437, q_u_ne (by omega)])
                    have k_452 : MTk I_436 o := u_414.fr (by rw [← e_437, q_u_ne (by omega)]) (by rw [← e_437, q_u_ne (by omega)]) (by rw [← e_437, q_u_ne (by omega)])
                    have w_453 : I_436 (o + 28) = I0 (o + 28) := by rw [← e_437, q_u_ne (by omega)]; exact w_432
                    have k_454 : MTd I_436 o := by exact MTd.p26 k_431 e_437 (by omega)
                    have g_455 : (0 : Int) ≤ (I_436 o 44).toInt ∧ (I_436 o 44).toInt ≤ 4 := hR_438.at0 ra 44 (by decide)
                    replace hg := gt_let (y := (I_436 o 44).toInt) rfl hg
                    have a_456 : (10 * (I_436 o 44)).toInt = 10 * (I_436 o 44).toInt := tMulL rfl (by omega) (by omega)
                    replace hg := gt_let (y := ((10 * (I_436 o 44)) : Int32).toInt) (by omega) hg
                    have a_457 : ((10 * (I_436 o 44)) + (5 + (I0 (o + 28) ((I0 o 44) : Int32).toNatClampNeg))).toInt = (10 * (I_436 o 44)).toInt + (5 + (I0 (o + 28) ((I0 o 44) : Int32).toNatClampNeg)).toInt := tAdd (by omega) (by omega)
                    replace hg := gt_let (y := (((10 * (I_436 o 44)) + (5 + (I0 (o + 28) ((I0 o 44) : Int32).toNatClampNeg))) : Int32).toInt) (by omega) hg
                    have g_458 : (0 : Int) ≤ (I_436 o 45).toInt ∧ (I_436 o 45).toInt ≤ 700 := hR_438.at0 ra 45 (by decide)
                    replace hg := gt_let (y := (I_436 o 45).toInt) rfl hg
                    refine ⟨tIn (by omega) (by omega), fun I_459 e_460 => ?_⟩
                    replace hg := gt_let (y := tI I_459) (tI_q e_460) hg
                    have hR_461 : RI R I_459 := hR_438.up ra 27 (by decide) (Or.inl rfl) e_460 (show (0 : Int) ≤ (I_436 o 45).toInt by omega) (show (I_436 o 45).toInt ≤ (700 : Int) by omega)
                    have hf_462 : Fm (fun c => c = o ∨ (o + 26 ≤ c ∧ c < o + 34)) I0 I_459 := hf_439.set (by first | rfl | omega | (dsimp only; omega)) e_460
                    have t_463 : (I_459 o 3).toInt = (I_436 o 3).toInt := by rw [← e_460, q_u_ne (by omega)]
                    have t_464 : (I_459 o 4).toInt = (I_436 o 4).toInt := by rw [← e_460, q_u_ne (by omega)]
                    have t_465 : (I_459 o 6).toInt = (I_436 o 6).toInt := by rw [← e_460, q_u_ne (by omega)]
                    have t_466 : (I_459 o 7).toInt = (I_436 o 7).toInt := by rw [← e_460, q_u_ne (by omega)]
                    have t_467 : (I_459 o 8).toInt = (I_436 o 8).toInt := by rw [← e_460, q_u_ne (by omega)]
                    have t_468 : (I_459 o 9).toInt = (I_436 o 9).toInt := by rw [← e_460, q_u_ne (by omega)]
                    have t_469 : (I_459 o 44).toInt = (I_436 o 44).toInt := by rw [← e_460, q_u_ne (by omega)]
                    have t_470 : (I_459 o 45).toInt = (I_436 o 45).toInt := by rw [← e_460, q_u_ne (by omega)]
                    have t_471 : (I_459 o 47).toInt = (I_436 o 47).toInt := by rw [← e_460, q_u_ne (by omega)]
                    have t_472 : (I_459 o 48).toInt = (I_436 o 48).toInt := by rw [← e_460, q_u_ne (by omega)]
                    have k_473 : MPo I_459 o := k_451.fr (by rw [← e_460, q_u_ne (by omega)]) (by rw [← e_460, q_u_ne (by omega)])
                    have k_474 : MTk I_459 o := k_452.fr (by rw [← e_460, q_u_ne (by omega)]) (by rw [← e_460, q_u_ne (by omega)]) (by rw [← e_460, q_u_ne (by omega)])
                    have w_476 : I_459 (o + 28) = I0 (o + 28) := by rw [← e_460, q_u_ne (by omega)]; exact w_453
                    have k_477 : MTd I_459 o := by exact MTd.p27 k_454 e_460 (by omega)
                    have k_478 : ReG I_459 o := by intro h; exact ReS.put (u_377 (by omega)) (by omega) hm26 hm27 hm30 hm3 hm44 hm45 (by omega) (by omega) e_437 e_460 (by omega) (by omega)
                    refine ⟨fun c_479 => ?_, fun c_479 => ?_⟩
                    · have d_480 := iLt c_479
                      exfalso; omega
                    · have d_481 := iNlt c_479
                      replace hg := gt_neg (by first | exact d_481 | omega) hg
                      have g_482 : (0 : Int) ≤ (I_459 o 44).toInt ∧ (I_459 o 44).toInt ≤ 4 := hR_461.at0 ra 44 (by decide)
                      replace hg := gt_let (y := (I_459 o 44).toInt) rfl hg
                      have rk : (I_459 (o + 28) (I_459 o 44 : Int32).toNatClampNeg).toInt = (I0 (o + 28) (I0 o 44 : Int32).toNatClampNeg).toInt := by rw [w_476, hZ I_459 44 rfl hR_461]
                      refine ⟨tIn (by omega) (by omega), ?_⟩
                      have g_483 : (0 : Int) ≤ (I_459 (o + 28) ((I_459 o 44) : Int32).toNatClampNeg).toInt ∧ (I_459 (o + 28) ((I_459 o 44) : Int32).toNatClampNeg).toInt ≤ 5 := hR_461.at ra 28 _ (by decide)
                      replace hg := gt_let (y := (I_459 (o + 28) ((I_459 o 44) : Int32).toNatClampNeg).toInt) rfl hg
                      have l_484 : (1 : Int32).toInt = 1 := rfl
                      have a_485 : ((I_459 (o + 28) ((I_459 o 44) : Int32).toNatClampNeg) + 1).toInt = (I_459 (o + 28) ((I_459 o 44) : Int32).toNatClampNeg).toInt + (1 : Int32).toInt := tAdd (by omega) (by omega)
                      replace hg := gt_let (y := (((I_459 (o + 28) ((I_459 o 44) : Int32).toNatClampNeg) + 1) : Int32).toInt) (by omega) hg
                      refine ⟨tIn (by omega) (by omega), fun I_486 e_487 => ?_⟩
                      replace hg := gt_let (y := tI I_486) (tI_q e_487) hg
                      have hR_488 : RI R I_486 := hR_461.up ra 28 (by decide) (Or.inl rfl) e_487 (show (0 : Int) ≤ ((I_459 (o + 28) ((I_459 o 44) : Int32).toNatClampNeg) + 1).toInt by omega) (show ((I_459 (o + 28) ((I_459 o 44) : Int32).toNatClampNeg) + 1).toInt ≤ (5 : Int) by omega)
                      have hf_489 : Fm (fun c => c = o ∨ (o + 26 ≤ c ∧ c < o + 34)) I0 I_486 := hf_462.set (by first | rfl | omega | (dsimp only; omega)) e_487
                      have t_490 : (I_486 o 3).toInt = (I_459 o 3).toInt := by rw [← e_487, q_u_ne (by omega)]
                      have t_491 : (I_486 o 4).toInt = (I_459 o 4).toInt := by rw [← e_487, q_u_ne (by omega)]
                      have t_492 : (I_486 o 6).toInt = (I_459 o 6).toInt := by rw [← e_487, q_u_ne (by omega)]
                      have t_493 : (I_486 o 7).toInt = (I_459 o 7).toInt := by rw [← e_487, q_u_ne (by omega)]
                      have t_494 : (I_486 o 8).toInt = (I_459 o 8).toInt := by rw [← e_487, q_u_ne (by omega)]
                      have t_495 : (I_486 o 9).toInt = (I_459 o 9).toInt := by rw [← e_487, q_u_ne (by omega)]
                      have t_496 : (I_486 o 44).toInt = (I_459 o 44).toInt := by rw [← e_487, q_u_ne (by omega)]
                      have t_497 : (I_486 o 45).toInt = (I_459 o 45).toInt := by rw [← e_487, q_u_ne (by omega)]
                      have t_498 : (I_486 o 47).toInt = (I_459 o 47).toInt := by rw [← e_487, q_u_ne (by omega)]
                      have t_499 : (I_486 o 48).toInt = (I_459 o 48).toInt := by rw [← e_487, q_u_ne (by omega)]
                      have k_500 : MPo I_486 o := k_473.fr (by rw [← e_487, q_u_ne (by omega)]) (by rw [← e_487, q_u_ne (by omega)])
                      have k_501 : MTk I_486 o := k_474.fr (by rw [← e_487, q_u_ne (by omega)]) (by rw [← e_487, q_u_ne (by omega)]) (by rw [← e_487, q_u_ne (by omega)])
                      have k_502 : MTd I_486 o := k_477.fr (by rw [← e_487]; exact q_u_ne (by omega)) (by rw [← e_487]; exact q_u_ne (by omega)) (by rw [← e_487]; exact q_u_ne (by omega))
                      have k_503 : ReG I_486 o := k_478.fr (by rw [← e_487]; exact q_u_ne (by omega)) (by rw [← e_487]; exact q_u_ne (by omega)) (by rw [← e_487]; exact q_u_ne (by omega)) (by rw [← e_487, q_u_ne (by omega)]) (by rw [← e_487, q_u_ne (by omega)]) (by rw [← e_487, q_u_ne (by omega)]) (by rw [← e_487, q_u_ne (by omega)]) (by rw [← e_487, q_u_ne (by omega)])
                      unfold fModel_readReform_228
                      replace hg := (eModel_readReform_228).symm.trans hg
                      have g_504 : (0 : Int) ≤ (I_486 o 44).toInt ∧ (I_486 o 44).toInt ≤ 4 := hR_488.at0 ra 44 (by decide)
                      replace hg := gt_let (y := (I_486 o 44).toInt) rfl hg
                      refine ⟨tIn (by omega) (by omega), ?_⟩
                      replace hg := gt_let (y := (I_486 (o + 29) ((I_486 o 44) : Int32).toNatClampNeg).toInt) rfl hg
                      replace hg := gt_let (y := (((I_486 (o + 29) ((I_486 o 44) : Int32).toNatClampNeg) + 1) : Int32).toInt) (wAdd_eq ((I_486 (o + 29) ((I_486 o 44) : Int32).toNatClampNeg) : Int32) (1 : Int32)) hg
                      refine ⟨tIn (by omega) (by omega), fun I_505 e_506 => ?_⟩
                      replace hg := gt_let (y := tI I_505) (tI_q e_506) hg
                      have hR_507 : RI R I_505 := hR_488.up ra 29 (by decide) (Or.inl rfl) e_506 (i_lo _) (i_hi _)
                      have hf_508 : Fm (fun c => c = o ∨ (o + 26 ≤ c ∧ c < o + 34)) I0 I_505 := hf_489.set (by first | rfl | omega | (dsimp only; omega)) e_506
                      have t_509 : (I_505 o 3).toInt = (I_486 o 3).toInt := by rw [← e_506, q_u_ne (by omega)]
                      have t_510 : (I_505 o 4).toInt = (I_486 o 4).toInt := by rw [← e_506, q_u_ne (by omega)]
                      have t_511 : (I_505 o 6).toInt = (I_486 o 6).toInt := by rw [← e_506, q_u_ne (by omega)]
                      have t_512 : (I_505 o 7).toInt = (I_486 o 7).toInt := by rw [← e_506, q_u_ne (by omega)]
                      have t_513 : (I_505 o 8).toInt = (I_486 o 8).toInt := by rw [← e_506, q_u_ne (by omega)]
                      have t_514 : (I_505 o 9).toInt = (I_486 o 9).toInt := by rw [← e_506, q_u_ne (by omega)]
                      have t_515 : (I_505 o 44).toInt = (I_486 o 44).toInt := by rw [← e_506, q_u_ne (by omega)]
                      have t_516 : (I_505 o 45).toInt = (I_486 o 45).toInt := by rw [← e_506, q_u_ne (by omega)]
                      have t_517 : (I_505 o 47).toInt = (I_486 o 47).toInt := by rw [← e_506, q_u_ne (by omega)]
                      have t_518 : (I_505 o 48).toInt = (I_486 o 48).toInt := by rw [← e_506, q_u_ne (by omega)]
                      have k_519 : MPo I_505 o := k_500.fr (by rw [← e_506, q_u_ne (by omega)]) (by rw [← e_506, q_u_ne (by omega)])
                      have k_520 : MTk I_505 o := k_501.fr (by rw [← e_506, q_u_ne (by omega)]) (by rw [← e_506, q_u_ne (by omega)]) (by rw [← e_506, q_u_ne (by omega)])
                      have k_521 : MTd I_505 o := k_502.fr (by rw [← e_506]; exact q_u_ne (by omega)) (by rw [← e_506]; exact q_u_ne (by omega)) (by rw [← e_506]; exact q_u_ne (by omega))
                      have k_522 : ReG I_505 o := k_503.fr (by rw [← e_506]; exact q_u_ne (by omega)) (by rw [← e_506]; exact q_u_ne (by omega)) (by rw [← e_506]; exact q_u_ne (by omega)) (by rw [← e_506, q_u_ne (by omega)]) (by rw [← e_506, q_u_ne (by omega)]) (by rw [← e_506, q_u_ne (by omega)]) (by rw [← e_506, q_u_ne (by omega)]) (by rw [← e_506, q_u_ne (by omega)])
                      exact (hp _ _ hR_507 hf_508 (by first | omega | (intro h; omega) | exact Or.inl rfl | exact Or.inr rfl) (by first | omega | (intro h; omega) | exact Or.inl rfl | exact Or.inr rfl) (by first | omega | (intro h; omega) | exact Or.inl rfl | exact Or.inr rfl) (by first | omega | (intro h; omega) | exact Or.inl rfl | exact Or.inr rfl) (by first | omega | (intro h; omega) | exact Or.inl rfl | exact Or.inr rfl) k_521 k_519 k_520 k_522 hg.symm)
                  · have d_523 := iEq c_321
                    have i_524 := u_318 (by omega)
                    replace hg := gt_pos (by first | exact d_523 | omega) hg
                    exact (hp _ _ hR_296 hf_299 (by first | omega | (intro h; omega) | exact Or.inl rfl | exact Or.inr rfl) (by first | omega | (intro h; omega) | exact Or.inl rfl | exact Or.inr rfl) (by first | omega | (intro h; omega) | exact Or.inl rfl | exact Or.inr rfl) (by first | omega | (intro h; omega) | exact Or.inl rfl | exact Or.inr rfl) (by first | omega | (intro h; omega) | exact Or.inl rfl | exact Or.inr rfl) k_311 k_312 k_313 (fun h => absurd h (by omega)) hg.symm)
                · have d_525 := iNe c_288
                  replace hg := gt_neg (by first | exact d_525 | omega) hg
                  have g_526 : (0 : Int) ≤ (I0 o 44).toInt ∧ (I0 o 44).toInt ≤ 4 := hR.at0 ra 44 (by decide)
                  replace hg := gt_let (y := (I0 o 44).toInt) rfl hg
                  have a_527 : (10 * (I0 o 44)).toInt = 10 * (I0 o 44).toInt := tMulL rfl (by omega) (by omega)
                  replace hg := gt_let (y := ((10 * (I0 o 44)) : Int32).toInt) (by omega) hg
                  refine ⟨fun c_528 => ?_, fun c_528 => ?_⟩
                  · have d_529 := iLt c_528
                    exfalso; omega
                  · have d_530 := iNlt c_528
                    replace hg := gt_neg (by first | exact d_530 | omega) hg
                    refine ⟨fun c_531 => ?_, fun c_531 => ?_⟩
                    · have d_532 := iLt c_531
                      replace hg := gt_pos (by first | exact d_532 | omega) hg
                      unfold fModel_readReform_132
                      replace hg := (eModel_readReform_132).symm.trans hg
                      have a_533 : ((10 * (I0 o 44)) + (5 + (I0 (o + 28) ((I0 o 44) : Int32).toNatClampNeg))).toInt = (10 * (I0 o 44)).toInt + (5 + (I0 (o + 28) ((I0 o 44) : Int32).toNatClampNeg)).toInt := tAdd (by omega) (by omega)
                      replace hg := gt_let (y := (((10 * (I0 o 44)) + (5 + (I0 (o + 28) ((I0 o 44) : Int32).toNatClampNeg))) : Int32).toInt) (by omega) hg
                      refine ⟨tIn (by omega) (by omega), ?_⟩
                      have g_534 : (-1 : Int) ≤ (I0 (o + 26) (((10 * (I0 o 44)) + (5 + (I0 (o + 28) ((I0 o 44) : Int32).toNatClampNeg))) : Int32).toNatClampNeg).toInt ∧ (I0 (o + 26) (((10 * (I0 o 44)) + (5 + (I0 (o + 28) ((I0 o 44) : Int32).toNatClampNeg))) : Int32).toNatClampNeg).toInt ≤ 700 := hR.at ra 26 _ (by decide)
                      replace hg := gt_let (y := (I0 (o + 26) (((10 * (I0 o 44)) + (5 + (I0 (o + 28) ((I0 o 44) : Int32).toNatClampNeg))) : Int32).toNatClampNeg).toInt) rfl hg
                      refine ⟨fun c_535 => ?_, fun c_535 => ?_⟩
                      · have d_536 := iLt c_535
                        replace hg := gt_pos (by first | exact d_536 | omega) hg
                        refine y_Model_isGoodg hok hw ra hR (fun r_537 u_538 u_539 u_540 gn_541 => ⟨r_537, I0, L0, rfl, rfl, ?_⟩)
                        replace hg := gt_let gn_541 hg
                        clear gn_541
                        have b_542 : 0 ≤ r_537.toInt ∧ r_537.toInt ≤ 1 := u_538.rg
                        refine ⟨fun c_543 => ?_, fun c_543 => ?_⟩
                        · have d_544 := iNe c_543
                          have i_545 := u_539 (by omega)
                          replace hg := gt_neg (by first | exact d_544 | omega) hg
                          have tk := hq6.1
                          refine y_Model_nextg hok hw ra hz16 hz17 hz18 hz19 (by first | omega | (intro h; omega) | exact Or.inl rfl | exact Or.inr rfl) hR (fun I_556 L_557 hR_558 fr_559 kp_560 u_547 u_548 u_549 u_550 u_551 u_552 u_553 u_554 gn_555 => ⟨I_556, L_557, rfl, rfl, ?_⟩)
                          replace hg := gt_b3 gn_555 hg
                          clear gn_555
                          have hf_561 : Fm (fun c => c = o ∨ (o + 26 ≤ c ∧ c < o + 34)) I0 I_556 := hf.call fr_559 (fun c hc => by first | exact hc | (dsimp only at hc ⊢; omega) | omega)
                          have t_562 : (I_556 o 3).toInt = (I0 o 3).toInt := by rw [kp_560 3 rfl]
                          have t_563 : (I_556 o 4).toInt = (I0 o 4).toInt := by rw [kp_560 4 rfl]
                          have g_564 : (0 : Int) ≤ (I_556 o 6).toInt ∧ (I_556 o 6).toInt ≤ 1600 := hR_558.at0 ra 6 (by decide)
                          have g_565 : (0 : Int) ≤ (I_556 o 7).toInt ∧ (I_556 o 7).toInt ≤ 1601 := hR_558.at0 ra 7 (by decide)
                          have g_566 : (0 : Int) ≤ (I_556 o 8).toInt ∧ (I_556 o 8).toInt ≤ 6 := hR_558.at0 ra 8 (by decide)
                          have t_567 : (I_556 o 44).toInt = (I0 o 44).toInt := by rw [kp_560 44 rfl]
                          have t_568 : (I_556 o 45).toInt = (I0 o 45).toInt := by rw [kp_560 45 rfl]
                          have t_569 : (I_556 o 47).toInt = (I0 o 47).toInt := by rw [kp_560 47 rfl]
                          have t_570 : (I_556 o 48).toInt = (I0 o 48).toInt := by rw [kp_560 48 rfl]
                          have k_571 : MTd I_556 o := hq4.fr (fr_559 _ (by first | omega | (dsimp only; omega))) (fr_559 _ (by first | omega | (dsimp only; omega))) (fr_559 _ (by first | omega | (dsimp only; omega)))
                          have w_572 : I_556 (o + 28) = I0 (o + 28) := (fr_559 (o + 28) (by first | omega | (dsimp only; omega)))
                          have ms := u_550 (by omega)
                          have k_573 : ReS I_556 o := by exact ReS.at hq3 (fr_559 _ (by first | omega | (dsimp only; omega))) (fr_559 _ (by first | omega | (dsimp only; omega))) (fr_559 _ (by first | omega | (dsimp only; omega))) (kp_560 3 rfl) (by omega) (by omega) (kp_560 44 rfl) (kp_560 45 rfl)
                          refine fun I_574 e_575 => ?_
                          replace hg := gt_let (y := tI I_574) (tI_q e_575) hg
                          have hR_576 : RI R I_574 := hR_558.up0 (k := 49) ra (by decide) (Or.inr hz59) e_575 (i_lo _) (i_hi _)
                          have hf_577 : Fm (fun c => c = o ∨ (o + 26 ≤ c ∧ c < o + 34)) I0 I_574 := hf_561.set (by first | rfl | omega | (dsimp only; omega)) e_575
                          have t_578 : (I_574 o 3).toInt = (I_556 o 3).toInt := by rw [← e_575, q_u_k (by decide)]
                          have t_579 : (I_574 o 4).toInt = (I_556 o 4).toInt := by rw [← e_575, q_u_k (by decide)]
                          have t_580 : (I_574 o 6).toInt = (I_556 o 6).toInt := by rw [← e_575, q_u_k (by decide)]
                          have t_581 : (I_574 o 7).toInt = (I_556 o 7).toInt := by rw [← e_575, q_u_k (by decide)]
                          have t_582 : (I_574 o 8).toInt = (I_556 o 8).toInt := by rw [← e_575, q_u_k (by decide)]
                          have t_583 : (I_574 o 9).toInt = (I_556 o 9).toInt := by rw [← e_575, q_u_k (by decide)]
                          have t_584 : (I_574 o 44).toInt = (I_556 o 44).toInt := by rw [← e_575, q_u_k (by decide)]
                          have t_585 : (I_574 o 45).toInt = (I_556 o 45).toInt := by rw [← e_575, q_u_k (by decide)]
                          have t_586 : (I_574 o 47).toInt = (I_556 o 47).toInt := by rw [← e_575, q_u_k (by decide)]
                          have t_587 : (I_574 o 48).toInt = (I_556 o 48).toInt := by rw [← e_575, q_u_k (by decide)]
                          have k_588 : MTd I_574 o := k_571.fr (by rw [← e_575]; exact q_u_ne (by omega)) (by rw [← e_575]; exact q_u_ne (by omega)) (by rw [← e_575]; exact q_u_ne (by omega))
                          have k_589 : MPo I_574 o := u_553.fr (by rw [← e_575, q_u_k (by decide)]) (by rw [← e_575, q_u_k (by decide)])
                          have k_590 : MTk I_574 o := u_554.fr (by rw [← e_575, q_u_k (by decide)]) (by rw [← e_575, q_u_k (by decide)]) (by rw [← e_575, q_u_k (by decide)])
                          have k_591 : ReS I_574 o := k_573.fr (by rw [← e_575]; exact q_u_ne (by omega)) (by rw [← e_575]; exact q_u_ne (by omega)) (by rw [← e_575]; exact q_u_ne (by omega)) (by rw [← e_575, q_u_k (by decide)]) (by rw [← e_575, q_u_k (by decide)]) (by rw [← e_575, q_u_k (by decide)]) (by rw [← e_575, q_u_k (by decide)])
                          have w_592 : I_574 (o + 28) = I0 (o + 28) := by rw [← e_575, q_u_ne (by omega)]; exact w_572
                          have g_593 : (0 : Int) ≤ (I_574 o 45).toInt ∧ (I_574 o 45).toInt ≤ 700 := hR_576.at0 ra 45 (by decide)
                          replace hg := gt_let (y := (I_574 o 45).toInt) rfl hg
                          refine y_Model_eg hok hw ra hz14 hz15 hz16 hz17 hz18 hz19 hz55 hz56 hz57 hz58 (by first | omega | (intro h; omega) | exact Or.inl rfl | exact Or.inr rfl) (by first | omega | (intro h; omega) | exact Or.inl rfl | exact Or.inr rfl) k_591 k_588 k_589 k_590 hR_576 (fun I_604 L_605 hR_606 fr_607 kp_608 u_595 u_596 u_597 u_598 u_599 u_600 u_601 u_602 gn_603 => ⟨I_604, L_605, rfl, rfl, ?_⟩)
                          replace hg := gt_b3 gn_603 hg
                          clear gn_603
                          have hf_609 : Fm (fun c => c = o ∨ (o + 26 ≤ c ∧ c < o + 34)) I0 I_604 := hf_577.call fr_607 (fun c hc => by first | exact hc | (dsimp only at hc ⊢; omega) | omega)
                          have t_610 : (I_604 o 3).toInt = (I_574 o 3).toInt := by rw [kp_608 3 rfl]
                          have g_611 : (0 : Int) ≤ (I_604 o 4).toInt ∧ (I_604 o 4).toInt ≤ 5 := hR_606.at0 ra 4 (by decide)
                          have g_612 : (0 : Int) ≤ (I_604 o 6).toInt ∧ (I_604 o 6).toInt ≤ 1600 := hR_606.at0 ra 6 (by decide)
                          have g_613 : (0 : Int) ≤ (I_604 o 7).toInt ∧ (I_604 o 7).toInt ≤ 1601 := hR_606.at0 ra 7 (by decide)
                          have g_614 : (0 : Int) ≤ (I_604 o 8).toInt ∧ (I_604 o 8).toInt ≤ 6 := hR_606.at0 ra 8 (by decide)
                          have t_615 : (I_604 o 44).toInt = (I_574 o 44).toInt := by rw [kp_608 44 rfl]
                          have g_616 : (0 : Int) ≤ (I_604 o 45).toInt ∧ (I_604 o 45).toInt ≤ 700 := hR_606.at0 ra 45 (by decide)
                          have g_617 : (0 : Int) ≤ (I_604 o 47).toInt ∧ (I_604 o 47).toInt ≤ 7 := hR_606.at0 ra 47 (by decide)
                          have g_618 : (0 : Int) ≤ (I_604 o 48).toInt ∧ (I_604 o 48).toInt ≤ 80 := hR_606.at0 ra 48 (by decide)
                          have w_619 : I_604 (o + 28) = I0 (o + 28) := (fr_607 (o + 28) (by first | omega | (dsimp only; omega))).trans w_592
                          have l_620 : (59 : Int32).toInt = 59 := rfl
                          refine y_Model_isg hok hw ra hR_606 (fun r_621 u_622 u_623 u_624 gn_625 => ⟨r_621, I_604, L_605, rfl, rfl, ?_⟩)
                          replace hg := gt_let gn_625 hg
                          clear gn_625
                          have b_626 : 0 ≤ r_621.toInt ∧ r_621.toInt ≤ 1 := u_622.rg
                          refine y_Model_mustg hok hw ra hz14 hz15 hz16 hz17 hz18 hz19 (by first | omega | (intro h; omega) | exact Or.inl rfl | exact Or.inr rfl) u_601 u_602 hR_606 (fun I_638 L_639 hR_640 fr_641 kp_642 u_628 u_629 u_630 u_631 u_632 u_633 u_634 u_635 u_636 gn_637 => ⟨I_638, L_639, rfl, rfl, ?_⟩)
                          replace hg := gt_b3 gn_637 hg
                          clear gn_637
                          have hf_643 : Fm (fun c => c = o ∨ (o + 26 ≤ c ∧ c < o + 34)) I0 I_638 := hf_609.call fr_641 (fun c hc => by first | exact hc | (dsimp only at hc ⊢; omega) | omega)
                          have t_644 : (I_638 o 3).toInt = (I_604 o 3).toInt := by rw [kp_642 3 rfl]
                          have g_645 : (0 : Int) ≤ (I_638 o 4).toInt ∧ (I_638 o 4).toInt ≤ 5 := hR_640.at0 ra 4 (by decide)
                          have g_646 : (0 : Int) ≤ (I_638 o 6).toInt ∧ (I_638 o 6).toInt ≤ 1600 := hR_640.at0 ra 6 (by decide)
                          have g_647 : (0 : Int) ≤ (I_638 o 7).toInt ∧ (I_638 o 7).toInt ≤ 1601 := hR_640.at0 ra 7 (by decide)
                          have g_648 : (0 : Int) ≤ (I_638 o 8).toInt ∧ (I_638 o 8).toInt ≤ 6 := hR_640.at0 ra 8 (by decide)
                          have t_649 : (I_638 o 44).toInt = (I_604 o 44).toInt := by rw [kp_642 44 rfl]
                          have t_650 : (I_638 o 45).toInt = (I_604 o 45).toInt := by rw [kp_642 45 rfl]
                          have t_651 : (I_638 o 47).toInt = (I_604 o 47).toInt := by rw [kp_642 47 rfl]
                          have t_652 : (I_638 o 48).toInt = (I_604 o 48).toInt := by rw [kp_642 48 rfl]
                          have k_653 : MTd I_638 o := u_600.fr (fr_641 _ (by first | omega | (dsimp only; omega))) (fr_641 _ (by first | omega | (dsimp only; omega))) (fr_641 _ (by first | omega | (dsimp only; omega)))
                          have w_654 : I_638 (o + 28) = I0 (o + 28) := (fr_641 (o + 28) (by first | omega | (dsimp only; omega))).trans w_619
                          have hm26 := fr_641 (o + 26) (by first | omega | (dsimp only; omega))
                          have hm27 := fr_641 (o + 27) (by first | omega | (dsimp only; omega))
                          have hm30 := fr_641 (o + 30) (by first | omega | (dsimp only; omega))
                          have hm3 := kp_642 3 rfl
                          have hm44 := kp_642 44 rfl
                          have hm45 := kp_642 45 rfl
                          have tk2 := u_636.1
                          have g_655 : (0 : Int) ≤ (I_638 o 44).toInt ∧ (I_638 o 44).toInt ≤ 4 := hR_640.at0 ra 44 (by decide)
                          replace hg := gt_let (y := (I_638 o 44).toInt) rfl hg
                          have a_656 : (10 * (I_638 o 44)).toInt = 10 * (I_638 o 44).toInt := tMulL rfl (by omega) (by omega)
                          replace hg := gt_let (y := ((10 * (I_638 o 44)) : Int32).toInt) (by omega) hg
                          have a_657 : ((10 * (I_638 o 44)) + (5 + (I0 (o + 28) ((I0 o 44) : Int32).toNatClampNeg))).toInt = (10 * (I_638 o 44)).toInt + (5 + (I0 (o + 28) ((I0 o 44) : Int32).toNatClampNeg)).toInt := tAdd (by omega) (by omega)
                          replace hg := gt_let (y := (((10 * (I_638 o 44)) + (5 + (I0 (o + 28) ((I0 o 44) : Int32).toNatClampNeg))) : Int32).toInt) (by omega) hg
                          refine ⟨tIn (by omega) (by omega), fun I_658 e_659 => ?_⟩
                          replace hg := gt_let (y := tI I_658) (tI_q e_659) hg
                          have hR_660 : RI R I_658 := hR_640.up ra 26 (by decide) (Or.inl rfl) e_659 (show (-1 : Int) ≤ (I_574 o 45).toInt by omega) (show (I_574 o 45).toInt ≤ (700 : Int) by omega)
                          have hf_661 : Fm (fun c => c = o ∨ (o + 26 ≤ c ∧ c < o + 34)) I0 I_658 := hf_643.set (by first | rfl | omega | (dsimp only; omega)) e_659
                          have t_662 : (I_658 o 3).toInt = (I_638 o 3).toInt := by rw [← e_659, q_u_ne (by omega)]
                          have t_663 : (I_658 o 4).toInt = (I_638 o 4).toInt := by rw [← e_659, q_u_ne (by omega)]
                          have t_664 : (I_658 o 6).toInt = (I_638 o 6).toInt := by rw [← e_659, q_u_ne (by omega)]
                          have t_665 : (I_658 o 7).toInt = (I_638 o 7).toInt := by rw [← e_659, q_u_ne (by omega)]
                          have t_666 : (I_658 o 8).toInt = (I_638 o 8).toInt := by rw [← e_659, q_u_ne (by omega)]
                          have t_667 : (I_658 o 9).toInt = (I_638 o 9).toInt := by rw [← e_659, q_u_ne (by omega)]
                          have t_668 : (I_658 o 44).toInt = (I_638 o 44).toInt := by rw [← e_659, q_u_ne (by omega)]
                          have t_669 : (I_658 o 45).toInt = (I_638 o 45).toInt := by rw [← e_659, q_u_ne (by omega)]
                          have t_670 : (I_658 o 47).toInt = (I_638 o 47).toInt := by rw [← e_659, q_u_ne (by omega)]
                          have t_671 : (I_658 o 48).toInt = (I_638 o 48).toInt := by rw [← e_659, q_u_ne (by omega)]
                          have k_673 : MPo I_658 o := u_635.fr (by rw [← e_659, q_u_ne (by omega)]) (by rw [← e_659, q_u_ne (by omega)])
                          have k_674 : MTk I_658 o := u_636.fr (by rw [← e_659, q_u_ne (by omega)]) (by rw [← e_659, q_u_ne (by omega)]) (by rw [← e_659, q_u_ne (by omega)])
                          have w_675 : I_658 (o + 28) = I0 (o + 28) := by rw [← e_659, q_u_ne (by omega)]; exact w_654
                          have k_676 : MTd I_658 o := by exact MTd.p26 k_653 e_659 (by omega)
                          have g_677 : (0 : Int) ≤ (I_658 o 44).toInt ∧ (I_658 o 44).toInt ≤ 4 := hR_660.at0 ra 44 (by decide)
                          replace hg := gt_let (y := (I_658 o 44).toInt) rfl hg
                          have a_678 : (10 * (I_658 o 44)).toInt = 10 * (I_658 o 44).toInt := tMulL rfl (by omega) (by omega)
                          replace hg := gt_let (y := ((10 * (I_658 o 44)) : Int32).toInt) (by omega) hg
                          have a_679 : ((10 * (I_658 o 44)) + (5 + (I0 (o + 28) ((I0 o 44) : Int32).toNatClampNeg))).toInt = (10 * (I_658 o 44)).toInt + (5 + (I0 (o + 28) ((I0 o 44) : Int32).toNatClampNeg)).toInt := tAdd (by omega) (by omega)
                          replace hg := gt_let (y := (((10 * (I_658 o 44)) + (5 + (I0 (o + 28) ((I0 o 44) : Int32).toNatClampNeg))) : Int32).toInt) (by omega) hg
                          have g_680 : (0 : Int) ≤ (I_658 o 45).toInt ∧ (I_658 o 45).toInt ≤ 700 := hR_660.at0 ra 45 (by decide)
                          replace hg := gt_let (y := (I_658 o 45).toInt) rfl hg
                          refine ⟨tIn (by omega) (by omega), fun I_681 e_682 => ?_⟩
                          replace hg := gt_let (y := tI I_681) (tI_q e_682) hg
                          have hR_683 : RI R I_681 := hR_660.up ra 27 (by decide) (Or.inl rfl) e_682 (show (0 : Int) ≤ (I_658 o 45).toInt by omega) (show (I_658 o 45).toInt ≤ (700 : Int) by omega)
                          have hf_684 : Fm (fun c => c = o ∨ (o + 26 ≤ c ∧ c < o + 34)) I0 I_681 := hf_661.set (by first | rfl | omega | (dsimp only; omega)) e_682
                          have t_685 : (I_681 o 3).toInt = (I_658 o 3).toInt := by rw [← e_682, q_u_ne (by omega)]
                          have t_686 : (I_681 o 4).toInt = (I_658 o 4).toInt := by rw [← e_682, q_u_ne (by omega)]
                          have t_687 : (I_681 o 6).toInt = (I_658 o 6).toInt := by rw [← e_682, q_u_ne (by omega)]
                          have t_688 : (I_681 o 7).toInt = (I_658 o 7).toInt := by rw [← e_682, q_u_ne (by omega)]
                          have t_689 : (I_681 o 8).toInt = (I_658 o 8).toInt := by rw [← e_682, q_u_ne (by omega)]
                          have t_690 : (I_681 o 9).toInt = (I_658 o 9).toInt := by rw [← e_682, q_u_ne (by omega)]
                          have t_691 : (I_681 o 44).toInt = (I_658 o 44).toInt := by rw [← e_682, q_u_ne (by omega)]
                          have t_692 : (I_681 o 45).toInt = (I_658 o 45).toInt := by rw [← e_682, q_u_ne (by omega)]
                          have t_693 : (I_681 o 47).toInt = (I_658 o 47).toInt := by rw [← e_682, q_u_ne (by omega)]
                          have t_694 : (I_681 o 48).toInt = (I_658 o 48).toInt := by rw [← e_682, q_u_ne (by omega)]
                          have k_695 : MPo I_681 o := k_673.fr (by rw [← e_682, q_u_ne (by omega)]) (by rw [← e_682, q_u_ne (by omega)])
                          have k_696 : MTk I_681 o := k_674.fr (by rw [← e_682, q_u_ne (by omega)]) (by rw [← e_682, q_u_ne (by omega)]) (by rw [← e_682, q_u_ne (by omega)])
                          have w_698 : I_681 (o + 28) = I0 (o + 28) := by rw [← e_682, q_u_ne (by omega)]; exact w_675
                          have k_699 : MTd I_681 o := by exact MTd.p27 k_676 e_682 (by omega)
                          have k_700 : ReG I_681 o := by intro h; exact ReS.put (u_599 (by omega)) (by omega) hm26 hm27 hm30 hm3 hm44 hm45 (by omega) (by omega) e_659 e_682 (by omega) (by omega)
                          refine ⟨fun c_701 => ?_, fun c_701 => ?_⟩
                          · have d_702 := iLt c_701
                            exfalso; omega
                          · have d_703 := iNlt c_701
                            replace hg := gt_neg (by first | exact d_703 | omega) hg
                            have g_704 : (0 : Int) ≤ (I_681 o 44).toInt ∧ (I_681 o 44).toInt ≤ 4 := hR_683.at0 ra 44 (by decide)
                            replace hg := gt_let (y := (I_681 o 44).toInt) rfl hg
                            have rk : (I_681 (o + 28) (I_681 o 44 : Int32).toNatClampNeg).toInt = (I0 (o + 28) (I0 o 44 : Int32).toNatClampNeg).toInt := by rw [w_698, hZ I_681 44 rfl hR_683]
                            refine ⟨tIn (by omega) (by omega), ?_⟩
                            have g_705 : (0 : Int) ≤ (I_681 (o + 28) ((I_681 o 44) : Int32).toNatClampNeg).toInt ∧ (I_681 (o + 28) ((I_681 o 44) : Int32).toNatClampNeg).toInt ≤ 5 := hR_683.at ra 28 _ (by decide)
                            replace hg := gt_let (y := (I_681 (o + 28) ((I_681 o 44) : Int32).toNatClampNeg).toInt) rfl hg
                            have l_706 : (1 : Int32).toInt = 1 := rfl
                            have a_707 : ((I_681 (o + 28) ((I_681 o 44) : Int32).toNatClampNeg) + 1).toInt = (I_681 (o + 28) ((I_681 o 44) : Int32).toNatClampNeg).toInt + (1 : Int32).toInt := tAdd (by omega) (by omega)
                            replace hg := gt_let (y := (((I_681 (o + 28) ((I_681 o 44) : Int32).toNatClampNeg) + 1) : Int32).toInt) (by omega) hg
                            refine ⟨tIn (by omega) (by omega), fun I_708 e_709 => ?_⟩
                            replace hg := gt_let (y := tI I_708) (tI_q e_709) hg
                            have hR_710 : RI R I_708 := hR_683.up ra 28 (by decide) (Or.inl rfl) e_709 (show (0 : Int) ≤ ((I_681 (o + 28) ((I_681 o 44) : Int32).toNatClampNeg) + 1).toInt by omega) (show ((I_681 (o + 28) ((I_681 o 44) : Int32).toNatClampNeg) + 1).toInt ≤ (5 : Int) by omega)
                            have hf_711 : Fm (fun c => c = o ∨ (o + 26 ≤ c ∧ c < o + 34)) I0 I_708 := hf_684.set (by first | rfl | omega | (dsimp only; omega)) e_709
                            have t_712 : (I_708 o 3).toInt = (I_681 o 3).toInt := by rw [← e_709, q_u_ne (by omega)]
                            have t_713 : (I_708 o 4).toInt = (I_681 o 4).toInt := by rw [← e_709, q_u_ne (by omega)]
                            have t_714 : (I_708 o 6).toInt = (I_681 o 6).toInt := by rw [← e_709, q_u_ne (by omega)]
                            have t_715 : (I_708 o 7).toInt = (I_681 o 7).toInt := by rw [← e_709, q_u_ne (by omega)]
                            have t_716 : (I_708 o 8).toInt = (I_681 o 8).toInt := by rw [← e_709, q_u_ne (by omega)]
                            have t_717 : (I_708 o 9).toInt = (I_681 o 9).toInt := by rw [← e_709, q_u_ne (by omega)]
                            have t_718 : (I_708 o 44).toInt = (I_681 o 44).toInt := by rw [← e_709, q_u_ne (by omega)]
                            have t_719 : (I_708 o 45).toInt = (I_681 o 45).toInt := by rw [← e_709, q_u_ne (by omega)]
                            have t_720 : (I_708 o 47).toInt = (I_681 o 47).toInt := by rw [← e_709, q_u_ne (by omega)]
                            have t_721 : (I_708 o 48).toInt = (I_681 o 48).toInt := by rw [← e_709, q_u_ne (by omega)]
                            have k_722 : MPo I_708 o := k_695.fr (by rw [← e_709, q_u_ne (by omega)]) (by rw [← e_709, q_u_ne (by omega)])
                            have k_723 : MTk I_708 o := k_696.fr (by rw [← e_709, q_u_ne (by omega)]) (by rw [← e_709, q_u_ne (by omega)]) (by rw [← e_709, q_u_ne (by omega)])
                            have k_724 : MTd I_708 o := k_699.fr (by rw [← e_709]; exact q_u_ne (by omega)) (by rw [← e_709]; exact q_u_ne (by omega)) (by rw [← e_709]; exact q_u_ne (by omega))
                            have k_725 : ReG I_708 o := k_700.fr (by rw [← e_709]; exact q_u_ne (by omega)) (by rw [← e_709]; exact q_u_ne (by omega)) (by rw [← e_709]; exact q_u_ne (by omega)) (by rw [← e_709, q_u_ne (by omega)]) (by rw [← e_709, q_u_ne (by omega)]) (by rw [← e_709, q_u_ne (by omega)]) (by rw [← e_709, q_u_ne (by omega)]) (by rw [← e_709, q_u_ne (by omega)])
                            unfold fModel_readReform_228
                            replace hg := (eModel_readReform_228).symm.trans hg
                            have g_726 : (0 : Int) ≤ (I_708 o 44).toInt ∧ (I_708 o 44).toInt ≤ 4 := hR_710.at0 ra 44 (by decide)
                            replace hg := gt_let (y := (I_708 o 44).toInt) rfl hg
                            refine ⟨tIn (by omega) (by omega), ?_⟩
                            replace hg := gt_let (y := (I_708 (o + 29) ((I_708 o 44) : Int32).toNatClampNeg).toInt) rfl hg
                            replace hg := gt_let (y := (((I_708 (o + 29) ((I_708 o 44) : Int32).toNatClampNeg) + 1) : Int32).toInt) (wAdd_eq ((I_708 (o + 29) ((I_708 o 44) : Int32).toNatClampNeg) : Int32) (1 : Int32)) hg
                            refine ⟨tIn (by omega) (by omega), fun I_727 e_728 => ?_⟩
                            replace hg := gt_let (y := tI I_727) (tI_q e_728) hg
                            have hR_729 : RI R I_727 := hR_710.up ra 29 (by decide) (Or.inl rfl) e_728 (i_lo _) (i_hi _)
                            have hf_730 : Fm (fun c => c = o ∨ (o + 26 ≤ c ∧ c < o + 34)) I0 I_727 := hf_711.set (by first | rfl | omega | (dsimp only; omega)) e_728
                            have t_731 : (I_727 o 3).toInt = (I_708 o 3).toInt := by rw [← e_728, q_u_ne (by omega)]
                            have t_732 : (I_727 o 4).toInt = (I_708 o 4).toInt := by rw [← e_728, q_u_ne (by omega)]
                            have t_733 : (I_727 o 6).toInt = (I_708 o 6).toInt := by rw [← e_728, q_u_ne (by omega)]
                            have t_734 : (I_727 o 7).toInt = (I_708 o 7).toInt := by rw [← e_728, q_u_ne (by omega)]
                            have t_735 : (I_727 o 8).toInt = (I_708 o 8).toInt := by rw [← e_728, q_u_ne (by omega)]
                            have t_736 : (I_727 o 9).toInt = (I_708 o 9).toInt := by rw [← e_728, q_u_ne (by omega)]
                            have t_737 : (I_727 o 44).toInt = (I_708 o 44).toInt := by rw [← e_728, q_u_ne (by omega)]
                            have t_738 : (I_727 o 45).toInt = (I_708 o 45).toInt := by rw [← e_728, q_u_ne (by omega)]
                            have t_739 : (I_727 o 47).toInt = (I_708 o 47).toInt := by rw [← e_728, q_u_ne (by omega)]
                            have t_740 : (I_727 o 48).toInt = (I_708 o 48).toInt := by rw [← e_728, q_u_ne (by omega)]
                            have k_741 : MPo I_727 o := k_722.fr (by rw [← e_728, q_u_ne (by omega)]) (by rw [← e_728, q_u_ne (by omega)])
                            have k_742 : MTk I_727 o := k_723.fr (by rw [← e_728, q_u_ne (by omega)]) (by rw [← e_728, q_u_ne (by omega)]) (by rw [← e_728, q_u_ne (by omega)])
                            have k_743 : MTd I_727 o := k_724.fr (by rw [← e_728]; exact q_u_ne (by omega)) (by rw [← e_728]; exact q_u_ne (by omega)) (by rw [← e_728]; exact q_u_ne (by omega))
                            have k_744 : ReG I_727 o := k_725.fr (by rw [← e_728]; exact q_u_ne (by omega)) (by rw [← e_728]; exact q_u_ne (by omega)) (by rw [← e_728]; exact q_u_ne (by omega)) (by rw [← e_728, q_u_ne (by omega)]) (by rw [← e_728, q_u_ne (by omega)]) (by rw [← e_728, q_u_ne (by omega)]) (by rw [← e_728, q_u_ne (by omega)]) (by rw [← e_728, q_u_ne (by omega)])
                            exact (hp _ _ hR_729 hf_730 (by first | omega | (intro h; omega) | exact Or.inl rfl | exact Or.inr rfl) (by first | omega | (intro h; omega) | exact Or.inl rfl | exact Or.inr rfl) (by first | omega | (intro h; omega) | exact Or.inl rfl | exact Or.inr rfl) (by first | omega | (intro h; omega) | exact Or.inl rfl | exact Or.inr rfl) (by first | omega | (intro h; omega) | exact Or.inl rfl | exact Or.inr rfl) k_743 k_741 k_742 k_744 hg.symm)
                        · have d_745 := iEq c_543
                          have i_746 := u_540 (by omega)
                          replace hg := gt_pos (by first | exact d_745 | omega) hg
                          exact (hp _ _ hR hf (by first | omega | (intro h; omega) | exact Or.inl rfl | exact Or.inr rfl) (by first | omega | (intro h; omega) | exact Or.inl rfl | exact Or.inr rfl) (by first | omega | (intro h; omega) | exact Or.inl rfl | exact Or.inr rfl) (by first | omega | (intro h; omega) | exact Or.inl rfl | exact Or.inr rfl) (by first | omega | (intro h; omega) | exact Or.inl rfl | exact Or.inr rfl) hq4 hq5 hq6 (fun h => absurd h (by omega)) hg.symm)
                      · have d_747 := iNlt c_535
                        replace hg := gt_neg (by first | exact d_747 | omega) hg
                        refine y_Model_wrongg hok hw ra hz14 hz15 hR (fun I_752 L_753 hR_754 fr_755 kp_756 u_749 u_750 gn_751 => ⟨I_752, L_753, rfl, rfl, ?_⟩)
                        replace hg := gt_b3 gn_751 hg
                        clear gn_751
                        have hf_757 : Fm (fun c => c = o ∨ (o + 26 ≤ c ∧ c < o + 34)) I0 I_752 := hf.call fr_755 (fun c hc => by first | exact hc | (dsimp only at hc ⊢; omega) | omega)
                        have t_758 : (I_752 o 3).toInt = (I0 o 3).toInt := by rw [kp_756 3 rfl]
                        have g_759 : (0 : Int) ≤ (I_752 o 4).toInt ∧ (I_752 o 4).toInt ≤ 5 := hR_754.at0 ra 4 (by decide)
                        have t_760 : (I_752 o 6).toInt = (I0 o 6).toInt := by rw [kp_756 6 rfl]
                        have t_761 : (I_752 o 7).toInt = (I0 o 7).toInt := by rw [kp_756 7 rfl]
                        have t_762 : (I_752 o 8).toInt = (I0 o 8).toInt := by rw [kp_756 8 rfl]
                        have t_763 : (I_752 o 9).toInt = (I0 o 9).toInt := by rw [kp_756 9 rfl]
                        have t_764 : (I_752 o 44).toInt = (I0 o 44).toInt := by rw [kp_756 44 rfl]
                        have t_765 : (I_752 o 45).toInt = (I0 o 45).toInt := by rw [kp_756 45 rfl]
                        have t_766 : (I_752 o 47).toInt = (I0 o 47).toInt := by rw [kp_756 47 rfl]
                        have t_767 : (I_752 o 48).toInt = (I0 o 48).toInt := by rw [kp_756 48 rfl]
                        have k_768 : ReS I_752 o := hq3.fr (fr_755 _ (by first | omega | (dsimp only; omega))) (fr_755 _ (by first | omega | (dsimp only; omega))) (fr_755 _ (by first | omega | (dsimp only; omega))) (kp_756 3 rfl) (kp_756 6 rfl) (kp_756 44 rfl) (kp_756 45 rfl)
                        have k_769 : MTd I_752 o := hq4.fr (fr_755 _ (by first | omega | (dsimp only; omega))) (fr_755 _ (by first | omega | (dsimp only; omega))) (fr_755 _ (by first | omega | (dsimp only; omega)))
                        have k_770 : MPo I_752 o := hq5.fr (kp_756 8 rfl) (kp_756 9 rfl)
                        have k_771 : MTk I_752 o := hq6.fr (kp_756 6 rfl) (kp_756 7 rfl) (kp_756 8 rfl)
                        have w_772 : I_752 (o + 28) = I0 (o + 28) := (fr_755 (o + 28) (by first | omega | (dsimp only; omega)))
                        refine y_Model_isGoodg hok hw ra hR_754 (fun r_773 u_774 u_775 u_776 gn_777 => ⟨r_773, I_752, L_753, rfl, rfl, ?_⟩)
                        replace hg := gt_let gn_777 hg
                        clear gn_777
                        have b_778 : 0 ≤ r_773.toInt ∧ r_773.toInt ≤ 1 := u_774.rg
                        refine ⟨fun c_779 => ?_, fun c_779 => ?_⟩
                        · have d_780 := iNe c_779
                          have i_781 := u_775 (by omega)
                          replace hg := gt_neg (by first | exact d_780 | omega) hg
                          have tk := k_771.1
                          refine y_Model_nextg hok hw ra hz16 hz17 hz18 hz19 (by first | omega | (intro h; omega) | exact Or.inl rfl | exact Or.inr rfl) hR_754 (fun I_792 L_793 hR_794 fr_795 kp_796 u_783 u_784 u_785 u_786 u_787 u_788 u_789 u_790 gn_791 => ⟨I_792, L_793, rfl, rfl, ?_⟩)
                          replace hg := gt_b3 gn_791 hg
                          clear gn_791
                          have hf_797 : Fm (fun c => c = o ∨ (o + 26 ≤ c ∧ c < o + 34)) I0 I_792 := hf_757.call fr_795 (fun c hc => by first | exact hc | (dsimp only at hc ⊢; omega) | omega)
                          have t_798 : (I_792 o 3).toInt = (I_752 o 3).toInt := by rw [kp_796 3 rfl]
                          have t_799 : (I_792 o 4).toInt = (I_752 o 4).toInt := by rw [kp_796 4 rfl]
                          have g_800 : (0 : Int) ≤ (I_792 o 6).toInt ∧ (I_792 o 6).toInt ≤ 1600 := hR_794.at0 ra 6 (by decide)
                          have g_801 : (0 : Int) ≤ (I_792 o 7).toInt ∧ (I_792 o 7).toInt ≤ 1601 := hR_794.at0 ra 7 (by decide)
                          have g_802 : (0 : Int) ≤ (I_792 o 8).toInt ∧ (I_792 o 8).toInt ≤ 6 := hR_794.at0 ra 8 (by decide)
                          have t_803 : (I_792 o 44).toInt = (I_752 o 44).toInt := by rw [kp_796 44 rfl]
                          have t_804 : (I_792 o 45).toInt = (I_752 o 45).toInt := by rw [kp_796 45 rfl]
                          have t_805 : (I_792 o 47).toInt = (I_752 o 47).toInt := by rw [kp_796 47 rfl]
                          have t_806 : (I_792 o 48).toInt = (I_752 o 48).toInt := by rw [kp_796 48 rfl]
                          have k_807 : MTd I_792 o := k_769.fr (fr_795 _ (by first | omega | (dsimp only; omega))) (fr_795 _ (by first | omega | (dsimp only; omega))) (fr_795 _ (by first | omega | (dsimp only; omega)))
                          have w_808 : I_792 (o + 28) = I0 (o + 28) := (fr_795 (o + 28) (by first | omega | (dsimp only; omega))).trans w_772
                          have ms := u_786 (by omega)
                          have k_809 : ReS I_792 o := by exact ReS.at k_768 (fr_795 _ (by first | omega | (dsimp only; omega))) (fr_795 _ (by first | omega | (dsimp only; omega))) (fr_795 _ (by first | omega | (dsimp only; omega))) (kp_796 3 rfl) (by omega) (by omega) (kp_796 44 rfl) (kp_796 45 rfl)
                          refine fun I_810 e_811 => ?_
                          replace hg := gt_let (y := tI I_810) (tI_q e_811) hg
                          have hR_812 : RI R I_810 := hR_794.up0 (k := 49) ra (by decide) (Or.inr hz59) e_811 (i_lo _) (i_hi _)
                          have hf_813 : Fm (fun c => c = o ∨ (o + 26 ≤ c ∧ c < o + 34)) I0 I_810 := hf_797.set (by first | rfl | omega | (dsimp only; omega)) e_811
                          have t_814 : (I_810 o 3).toInt = (I_792 o 3).toInt := by rw [← e_811, q_u_k (by decide)]
                          have t_815 : (I_810 o 4).toInt = (I_792 o 4).toInt := by rw [← e_811, q_u_k (by decide)]
                          have t_816 : (I_810 o 6).toInt = (I_792 o 6).toInt := by rw [← e_811, q_u_k (by decide)]
                          have t_817 : (I_810 o 7).toInt = (I_792 o 7).toInt := by rw [← e_811, q_u_k (by decide)]
                          have t_818 : (I_810 o 8).toInt = (I_792 o 8).toInt := by rw [← e_811, q_u_k (by decide)]
                          have t_819 : (I_810 o 9).toInt = (I_792 o 9).toInt := by rw [← e_811, q_u_k (by decide)]
                          have t_820 : (I_810 o 44).toInt = (I_792 o 44).toInt := by rw [← e_811, q_u_k (by decide)]
                          have t_821 : (I_810 o 45).toInt = (I_792 o 45).toInt := by rw [← e_811, q_u_k (by decide)]
                          have t_822 : (I_810 o 47).toInt = (I_792 o 47).toInt := by rw [← e_811, q_u_k (by decide)]
                          have t_823 : (I_810 o 48).toInt = (I_792 o 48).toInt := by rw [← e_811, q_u_k (by decide)]
                          have k_824 : MTd I_810 o := k_807.fr (by rw [← e_811]; exact q_u_ne (by omega)) (by rw [← e_811]; exact q_u_ne (by omega)) (by rw [← e_811]; exact q_u_ne (by omega))
                          have k_825 : MPo I_810 o := u_789.fr (by rw [← e_811, q_u_k (by decide)]) (by rw [← e_811, q_u_k (by decide)])
                          have k_826 : MTk I_810 o := u_790.fr (by rw [← e_811, q_u_k (by decide)]) (by rw [← e_811, q_u_k (by decide)]) (by rw [← e_811, q_u_k (by decide)])
                          have k_827 : ReS I_810 o := k_809.fr (by rw [← e_811]; exact q_u_ne (by omega)) (by rw [← e_811]; exact q_u_ne (by omega)) (by rw [← e_811]; exact q_u_ne (by omega)) (by rw [← e_811, q_u_k (by decide)]) (by rw [← e_811, q_u_k (by decide)]) (by rw [← e_811, q_u_k (by decide)]) (by rw [← e_811, q_u_k (by decide)])
                          have w_828 : I_810 (o + 28) = I0 (o + 28) := by rw [← e_811, q_u_ne (by omega)]; exact w_808
                          have g_829 : (0 : Int) ≤ (I_810 o 45).toInt ∧ (I_810 o 45).toInt ≤ 700 := hR_812.at0 ra 45 (by decide)
                          replace hg := gt_let (y := (I_810 o 45).toInt) rfl hg
                          refine y_Model_eg hok hw ra hz14 hz15 hz16 hz17 hz18 hz19 hz55 hz56 hz57 hz58 (by first | omega | (intro h; omega) | exact Or.inl rfl | exact Or.inr rfl) (by first | omega | (intro h; omega) | exact Or.inl rfl | exact Or.inr rfl) k_827 k_824 k_825 k_826 hR_812 (fun I_840 L_841 hR_842 fr_843 kp_844 u_831 u_832 u_833 u_834 u_835 u_836 u_837 u_838 gn_839 => ⟨I_840, L_841, rfl, rfl, ?_⟩)
                          replace hg := gt_b3 gn_839 hg
                          clear gn_839
                          have hf_845 : Fm (fun c => c = o ∨ (o + 26 ≤ c ∧ c < o + 34)) I0 I_840 := hf_813.call fr_843 (fun c hc => by first | exact hc | (dsimp only at hc ⊢; omega) | omega)
                          have t_846 : (I_840 o 3).toInt = (I_810 o 3).toInt := by rw [kp_844 3 rfl]
                          have g_847 : (0 : Int) ≤ (I_840 o 4).toInt ∧ (I_840 o 4).toInt ≤ 5 := hR_842.at0 ra 4 (by decide)
                          have g_848 : (0 : Int) ≤ (I_840 o 6).toInt ∧ (I_840 o 6).toInt ≤ 1600 := hR_842.at0 ra 6 (by decide)
                          have g_849 : (0 : Int) ≤ (I_840 o 7).toInt ∧ (I_840 o 7).toInt ≤ 1601 := hR_842.at0 ra 7 (by decide)
                          have g_850 : (0 : Int) ≤ (I_840 o 8).toInt ∧ (I_840 o 8).toInt ≤ 6 := hR_842.at0 ra 8 (by decide)
                          have t_851 : (I_840 o 44).toInt = (I_810 o 44).toInt := by rw [kp_844 44 rfl]
                          have g_852 : (0 : Int) ≤ (I_840 o 45).toInt ∧ (I_840 o 45).toInt ≤ 700 := hR_842.at0 ra 45 (by decide)
                          have g_853 : (0 : Int) ≤ (I_840 o 47).toInt ∧ (I_840 o 47).toInt ≤ 7 := hR_842.at0 ra 47 (by decide)
                          have g_854 : (0 : Int) ≤ (I_840 o 48).toInt ∧ (I_840 o 48).toInt ≤ 80 := hR_842.at0 ra 48 (by decide)
                          have w_855 : I_840 (o + 28) = I0 (o + 28) := (fr_843 (o + 28) (by first | omega | (dsimp only; omega))).trans w_828
                          have l_856 : (59 : Int32).toInt = 59 := rfl
                          refine y_Model_isg hok hw ra hR_842 (fun r_857 u_858 u_859 u_860 gn_861 => ⟨r_857, I_840, L_841, rfl, rfl, ?_⟩)
                          replace hg := gt_let gn_861 hg
                          clear gn_861
                          have b_862 : 0 ≤ r_857.toInt ∧ r_857.toInt ≤ 1 := u_858.rg
                          refine y_Model_mustg hok hw ra hz14 hz15 hz16 hz17 hz18 hz19 (by first | omega | (intro h; omega) | exact Or.inl rfl | exact Or.inr rfl) u_837 u_838 hR_842 (fun I_874 L_875 hR_876 fr_877 kp_878 u_864 u_865 u_866 u_867 u_868 u_869 u_870 u_871 u_872 gn_873 => ⟨I_874, L_875, rfl, rfl, ?_⟩)
                          replace hg := gt_b3 gn_873 hg
                          clear gn_873
                          have hf_879 : Fm (fun c => c = o ∨ (o + 26 ≤ c ∧ c < o + 34)) I0 I_874 := hf_845.call fr_877 (fun c hc => by first | exact hc | (dsimp only at hc ⊢; omega) | omega)
                          have t_880 : (I_874 o 3).toInt = (I_840 o 3).toInt := by rw [kp_878 3 rfl]
                          have g_881 : (0 : Int) ≤ (I_874 o 4).toInt ∧ (I_874 o 4).toInt ≤ 5 := hR_876.at0 ra 4 (by decide)
                          have g_882 : (0 : Int) ≤ (I_874 o 6).toInt ∧ (I_874 o 6).toInt ≤ 1600 := hR_876.at0 ra 6 (by decide)
                          have g_883 : (0 : Int) ≤ (I_874 o 7).toInt ∧ (I_874 o 7).toInt ≤ 1601 := hR_876.at0 ra 7 (by decide)
                          have g_884 : (0 : Int) ≤ (I_874 o 8).toInt ∧ (I_874 o 8).toInt ≤ 6 := hR_876.at0 ra 8 (by decide)
                          have t_885 : (I_874 o 44).toInt = (I_840 o 44).toInt := by rw [kp_878 44 rfl]
                          have t_886 : (I_874 o 45).toInt = (I_840 o 45).toInt := by rw [kp_878 45 rfl]
                          have t_887 : (I_874 o 47).toInt = (I_840 o 47).toInt := by rw [kp_878 47 rfl]
                          have t_888 : (I_874 o 48).toInt = (I_840 o 48).toInt := by rw [kp_878 48 rfl]
                          have k_889 : MTd I_874 o := u_836.fr (fr_877 _ (by first | omega | (dsimp only; omega))) (fr_877 _ (by first | omega | (dsimp only; omega))) (fr_877 _ (by first | omega | (dsimp only; omega)))
                          have w_890 : I_874 (o + 28) = I0 (o + 28) := (fr_877 (o + 28) (by first | omega | (dsimp only; omega))).trans w_855
                          have hm26 := fr_877 (o + 26) (by first | omega | (dsimp only; omega))
                          have hm27 := fr_877 (o + 27) (by first | omega | (dsimp only; omega))
                          have hm30 := fr_877 (o + 30) (by first | omega | (dsimp only; omega))
                          have hm3 := kp_878 3 rfl
                          have hm44 := kp_878 44 rfl
                          have hm45 := kp_878 45 rfl
                          have tk2 := u_872.1
                          have g_891 : (0 : Int) ≤ (I_874 o 44).toInt ∧ (I_874 o 44).toInt ≤ 4 := hR_876.at0 ra 44 (by decide)
                          replace hg := gt_let (y := (I_874 o 44).toInt) rfl hg
                          have a_892 : (10 * (I_874 o 44)).toInt = 10 * (I_874 o 44).toInt := tMulL rfl (by omega) (by omega)
                          replace hg := gt_let (y := ((10 * (I_874 o 44)) : Int32).toInt) (by omega) hg
                          have a_893 : ((10 * (I_874 o 44)) + (5 + (I0 (o + 28) ((I0 o 44) : Int32).toNatClampNeg))).toInt = (10 * (I_874 o 44)).toInt + (5 + (I0 (o + 28) ((I0 o 44) : Int32).toNatClampNeg)).toInt := tAdd (by omega) (by omega)
                          replace hg := gt_let (y := (((10 * (I_874 o 44)) + (5 + (I0 (o + 28) ((I0 o 44) : Int32).toNatClampNeg))) : Int32).toInt) (by omega) hg
                          refine ⟨tIn (by omega) (by omega), fun I_894 e_895 => ?_⟩
                          replace hg := gt_let (y := tI I_894) (tI_q e_895) hg
                          have hR_896 : RI R I_894 := hR_876.up ra 26 (by decide) (Or.inl rfl) e_895 (show (-1 : Int) ≤ (I_810 o 45).toInt by omega) (show (I_810 o 45).toInt ≤ (700 : Int) by omega)
                          have hf_897 : Fm (fun c => c = o ∨ (o + 26 ≤ c ∧ c < o + 34)) I0 I_894 := hf_879.set (by first | rfl | omega | (dsimp only; omega)) e_895
                          have t_898 : (I_894 o 3).toInt = (I_874 o 3).toInt := by rw [← e_895, q_u_ne (by omega)]
                          have t_899 : (I_894 o 4).toInt = (I_874 o 4).toInt := by rw [← e_895, q_u_ne (by omega)]
                          have t_900 : (I_894 o 6).toInt = (I_874 o 6).toInt := by rw [← e_895, q_u_ne (by omega)]
                          have t_901 : (I_894 o 7).toInt = (I_874 o 7).toInt := by rw [← e_895, q_u_ne (by omega)]
                          have t_902 : (I_894 o 8).toInt = (I_874 o 8).toInt := by rw [← e_895, q_u_ne (by omega)]
                          have t_903 : (I_894 o 9).toInt = (I_874 o 9).toInt := by rw [← e_895, q_u_ne (by omega)]
                          have t_904 : (I_894 o 44).toInt = (I_874 o 44).toInt := by rw [← e_895, q_u_ne (by omega)]
                          have t_905 : (I_894 o 45).toInt = (I_874 o 45).toInt := by rw [← e_895, q_u_ne (by omega)]
                          have t_906 : (I_894 o 47).toInt = (I_874 o 47).toInt := by rw [← e_895, q_u_ne (by omega)]
                          have t_907 : (I_894 o 48).toInt = (I_874 o 48).toInt := by rw [← e_895, q_u_ne (by omega)]
                          have k_909 : MPo I_894 o := u_871.fr (by rw [← e_895, q_u_ne (by omega)]) (by rw [← e_895, q_u_ne (by omega)])
                          have k_910 : MTk I_894 o := u_872.fr (by rw [← e_895, q_u_ne (by omega)]) (by rw [← e_895, q_u_ne (by omega)]) (by rw [← e_895, q_u_ne (by omega)])
                          have w_911 : I_894 (o + 28) = I0 (o + 28) := by rw [← e_895, q_u_ne (by omega)]; exact w_890
                          have k_912 : MTd I_894 o := by exact MTd.p26 k_889 e_895 (by omega)
                          have g_913 : (0 : Int) ≤ (I_894 o 44).toInt ∧ (I_894 o 44).toInt ≤ 4 := hR_896.at0 ra 44 (by decide)
                          replace hg := gt_let (y := (I_894 o 44).toInt) rfl hg
                          have a_914 : (10 * (I_894 o 44)).toInt = 10 * (I_894 o 44).toInt := tMulL rfl (by omega) (by omega)
                          replace hg := gt_let (y := ((10 * (I_894 o 44)) : Int32).toInt) (by omega) hg
                          have a_915 : ((10 * (I_894 o 44)) + (5 + (I0 (o + 28) ((I0 o 44) : Int32).toNatClampNeg))).toInt = (10 * (I_894 o 44)).toInt + (5 + (I0 (o + 28) ((I0 o 44) : Int32).toNatClampNeg)).toInt := tAdd (by omega) (by omega)
                          replace hg := gt_let (y := (((10 * (I_894 o 44)) + (5 + (I0 (o + 28) ((I0 o 44) : Int32).toNatClampNeg))) : Int32).toInt) (by omega) hg
                          have g_916 : (0 : Int) ≤ (I_894 o 45).toInt ∧ (I_894 o 45).toInt ≤ 700 := hR_896.at0 ra 45 (by decide)
                          replace hg := gt_let (y := (I_894 o 45).toInt) rfl hg
                          refine ⟨tIn (by omega) (by omega), fun I_917 e_918 => ?_⟩
                          replace hg := gt_let (y := tI I_917) (tI_q e_918) hg
                          have hR_919 : RI R I_917 := hR_896.up ra 27 (by decide) (Or.inl rfl) e_918 (show (0 : Int) ≤ (I_894 o 45).toInt by omega) (show (I_894 o 45).toInt ≤ (700 : Int) by omega)
                          have hf_920 : Fm (fun c => c = o ∨ (o + 26 ≤ c ∧ c < o + 34)) I0 I_917 := hf_897.set (by first | rfl | omega | (dsimp only; omega)) e_918
                          have t_921 : (I_917 o 3).toInt = (I_894 o 3).toInt := by rw [← e_918, q_u_ne (by omega)]
                          have t_922 : (I_917 o 4).toInt = (I_894 o 4).toInt := by rw [← e_918, q_u_ne (by omega)]
                          have t_923 : (I_917 o 6).toInt = (I_894 o 6).toInt := by rw [← e_918, q_u_ne (by omega)]
                          have t_924 : (I_917 o 7).toInt = (I_894 o 7).toInt := by rw [← e_918, q_u_ne (by omega)]
                          have t_925 : (I_917 o 8).toInt = (I_894 o 8).toInt := by rw [← e_918, q_u_ne (by omega)]
                          have t_926 : (I_917 o 9).toInt = (I_894 o 9).toInt := by rw [← e_918, q_u_ne (by omega)]
                          have t_927 : (I_917 o 44).toInt = (I_894 o 44).toInt := by rw [← e_918, q_u_ne (by omega)]
                          have t_928 : (I_917 o 45).toInt = (I_894 o 45).toInt := by rw [← e_918, q_u_ne (by omega)]
                          have t_929 : (I_917 o 47).toInt = (I_894 o 47).toInt := by rw [← e_918, q_u_ne (by omega)]
                          have t_930 : (I_917 o 48).toInt = (I_894 o 48).toInt := by rw [← e_918, q_u_ne (by omega)]
                          have k_931 : MPo I_917 o := k_909.fr (by rw [← e_918, q_u_ne (by omega)]) (by rw [← e_918, q_u_ne (by omega)])
                          have k_932 : MTk I_917 o := k_910.fr (by rw [← e_918, q_u_ne (by omega)]) (by rw [← e_918, q_u_ne (by omega)]) (by rw [← e_918, q_u_ne (by omega)])
                          have w_934 : I_917 (o + 28) = I0 (o + 28) := by rw [← e_918, q_u_ne (by omega)]; exact w_911
                          have k_935 : MTd I_917 o := by exact MTd.p27 k_912 e_918 (by omega)
                          have k_936 : ReG I_917 o := by intro h; exact ReS.put (u_835 (by omega)) (by omega) hm26 hm27 hm30 hm3 hm44 hm45 (by omega) (by omega) e_895 e_918 (by omega) (by omega)
                          refine ⟨fun c_937 => ?_, fun c_937 => ?_⟩
                          · have d_938 := iLt c_937
                            exfalso; omega
                          · have d_939 := iNlt c_937
                            replace hg := gt_neg (by first | exact d_939 | omega) hg
                            have g_940 : (0 : Int) ≤ (I_917 o 44).toInt ∧ (I_917 o 44).toInt ≤ 4 := hR_919.at0 ra 44 (by decide)
                            replace hg := gt_let (y := (I_917 o 44).toInt) rfl hg
                            have rk : (I_917 (o + 28) (I_917 o 44 : Int32).toNatClampNeg).toInt = (I0 (o + 28) (I0 o 44 : Int32).toNatClampNeg).toInt := by rw [w_934, hZ I_917 44 rfl hR_919]
                            refine ⟨tIn (by omega) (by omega), ?_⟩
                            have g_941 : (0 : Int) ≤ (I_917 (o + 28) ((I_917 o 44) : Int32).toNatClampNeg).toInt ∧ (I_917 (o + 28) ((I_917 o 44) : Int32).toNatClampNeg).toInt ≤ 5 := hR_919.at ra 28 _ (by decide)
                            replace hg := gt_let (y := (I_917 (o + 28) ((I_917 o 44) : Int32).toNatClampNeg).toInt) rfl hg
                            have l_942 : (1 : Int32).toInt = 1 := rfl
                            have a_943 : ((I_917 (o + 28) ((I_917 o 44) : Int32).toNatClampNeg) + 1).toInt = (I_917 (o + 28) ((I_917 o 44) : Int32).toNatClampNeg).toInt + (1 : Int32).toInt := tAdd (by omega) (by omega)
                            replace hg := gt_let (y := (((I_917 (o + 28) ((I_917 o 44) : Int32).toNatClampNeg) + 1) : Int32).toInt) (by omega) hg
                            refine ⟨tIn (by omega) (by omega), fun I_944 e_945 => ?_⟩
                            replace hg := gt_let (y := tI I_944) (tI_q e_945) hg
                            have hR_946 : RI R I_944 := hR_919.up ra 28 (by decide) (Or.inl rfl) e_945 (show (0 : Int) ≤ ((I_917 (o + 28) ((I_917 o 44) : Int32).toNatClampNeg) + 1).toInt by omega) (show ((I_917 (o + 28) ((I_917 o 44) : Int32).toNatClampNeg) + 1).toInt ≤ (5 : Int) by omega)
                            have hf_947 : Fm (fun c => c = o ∨ (o + 26 ≤ c ∧ c < o + 34)) I0 I_944 := hf_920.set (by first | rfl | omega | (dsimp only; omega)) e_945
                            have t_948 : (I_944 o 3).toInt = (I_917 o 3).toInt := by rw [← e_945, q_u_ne (by omega)]
                            have t_949 : (I_944 o 4).toInt = (I_917 o 4).toInt := by rw [← e_945, q_u_ne (by omega)]
                            have t_950 : (I_944 o 6).toInt = (I_917 o 6).toInt := by rw [← e_945, q_u_ne (by omega)]
                            have t_951 : (I_944 o 7).toInt = (I_917 o 7).toInt := by rw [← e_945, q_u_ne (by omega)]
                            have t_952 : (I_944 o 8).toInt = (I_917 o 8).toInt := by rw [← e_945, q_u_ne (by omega)]
                            have t_953 : (I_944 o 9).toInt = (I_917 o 9).toInt := by rw [← e_945, q_u_ne (by omega)]
                            have t_954 : (I_944 o 44).toInt = (I_917 o 44).toInt := by rw [← e_945, q_u_ne (by omega)]
                            have t_955 : (I_944 o 45).toInt = (I_917 o 45).toInt := by rw [← e_945, q_u_ne (by omega)]
                            have t_956 : (I_944 o 47).toInt = (I_917 o 47).toInt := by rw [← e_945, q_u_ne (by omega)]
                            have t_957 : (I_944 o 48).toInt = (I_917 o 48).toInt := by rw [← e_945, q_u_ne (by omega)]
                            have k_958 : MPo I_944 o := k_931.fr (by rw [← e_945, q_u_ne (by omega)]) (by rw [← e_945, q_u_ne (by omega)])
                            have k_959 : MTk I_944 o := k_932.fr (by rw [← e_945, q_u_ne (by omega)]) (by rw [← e_945, q_u_ne (by omega)]) (by rw [← e_945, q_u_ne (by omega)])
                            have k_960 : MTd I_944 o := k_935.fr (by rw [← e_945]; exact q_u_ne (by omega)) (by rw [← e_945]; exact q_u_ne (by omega)) (by rw [← e_945]; exact q_u_ne (by omega))
                            have k_961 : ReG I_944 o := k_936.fr (by rw [← e_945]; exact q_u_ne (by omega)) (by rw [← e_945]; exact q_u_ne (by omega)) (by rw [← e_945]; exact q_u_ne (by omega)) (by rw [← e_945, q_u_ne (by omega)]) (by rw [← e_945, q_u_ne (by omega)]) (by rw [← e_945, q_u_ne (by omega)]) (by rw [← e_945, q_u_ne (by omega)]) (by rw [← e_945, q_u_ne (by omega)])
                            unfold fModel_readReform_228
                            replace hg := (eModel_readReform_228).symm.trans hg
                            have g_962 : (0 : Int) ≤ (I_944 o 44).toInt ∧ (I_944 o 44).toInt ≤ 4 := hR_946.at0 ra 44 (by decide)
                            replace hg := gt_let (y := (I_944 o 44).toInt) rfl hg
                            refine ⟨tIn (by omega) (by omega), ?_⟩
                            replace hg := gt_let (y := (I_944 (o + 29) ((I_944 o 44) : Int32).toNatClampNeg).toInt) rfl hg
                            replace hg := gt_let (y := (((I_944 (o + 29) ((I_944 o 44) : Int32).toNatClampNeg) + 1) : Int32).toInt) (wAdd_eq ((I_944 (o + 29) ((I_944 o 44) : Int32).toNatClampNeg) : Int32) (1 : Int32)) hg
                            refine ⟨tIn (by omega) (by omega), fun I_963 e_964 => ?_⟩
                            replace hg := gt_let (y := tI I_963) (tI_q e_964) hg
                            have hR_965 : RI R I_963 := hR_946.up ra 29 (by decide) (Or.inl rfl) e_964 (i_lo _) (i_hi _)
                            have hf_966 : Fm (fun c => c = o ∨ (o + 26 ≤ c ∧ c < o + 34)) I0 I_963 := hf_947.set (by first | rfl | omega | (dsimp only; omega)) e_964
                            have t_967 : (I_963 o 3).toInt = (I_944 o 3).toInt := by rw [← e_964, q_u_ne (by omega)]
                            have t_968 : (I_963 o 4).toInt = (I_944 o 4).toInt := by rw [← e_964, q_u_ne (by omega)]
                            have t_969 : (I_963 o 6).toInt = (I_944 o 6).toInt := by rw [← e_964, q_u_ne (by omega)]
                            have t_970 : (I_963 o 7).toInt = (I_944 o 7).toInt := by rw [← e_964, q_u_ne (by omega)]
                            have t_971 : (I_963 o 8).toInt = (I_944 o 8).toInt := by rw [← e_964, q_u_ne (by omega)]
                            have t_972 : (I_963 o 9).toInt = (I_944 o 9).toInt := by rw [← e_964, q_u_ne (by omega)]
                            have t_973 : (I_963 o 44).toInt = (I_944 o 44).toInt := by rw [← e_964, q_u_ne (by omega)]
                            have t_974 : (I_963 o 45).toInt = (I_944 o 45).toInt := by rw [← e_964, q_u_ne (by omega)]
                            have t_975 : (I_963 o 47).toInt = (I_944 o 47).toInt := by rw [← e_964, q_u_ne (by omega)]
                            have t_976 : (I_963 o 48).toInt = (I_944 o 48).toInt := by rw [← e_964, q_u_ne (by omega)]
                            have k_977 : MPo I_963 o := k_958.fr (by rw [← e_964, q_u_ne (by omega)]) (by rw [← e_964, q_u_ne (by omega)])
                            have k_978 : MTk I_963 o := k_959.fr (by rw [← e_964, q_u_ne (by omega)]) (by rw [← e_964, q_u_ne (by omega)]) (by rw [← e_964, q_u_ne (by omega)])
                            have k_979 : MTd I_963 o := k_960.fr (by rw [← e_964]; exact q_u_ne (by omega)) (by rw [← e_964]; exact q_u_ne (by omega)) (by rw [← e_964]; exact q_u_ne (by omega))
                            have k_980 : ReG I_963 o := k_961.fr (by rw [← e_964]; exact q_u_ne (by omega)) (by rw [← e_964]; exact q_u_ne (by omega)) (by rw [← e_964]; exact q_u_ne (by omega)) (by rw [← e_964, q_u_ne (by omega)]) (by rw [← e_964, q_u_ne (by omega)]) (by rw [← e_964, q_u_ne (by omega)]) (by rw [← e_964, q_u_ne (by omega)]) (by rw [← e_964, q_u_ne (by omega)])
                            exact (hp _ _ hR_965 hf_966 (by first | omega | (intro h; omega) | exact Or.inl rfl | exact Or.inr rfl) (by first | omega | (intro h; omega) | exact Or.inl rfl | exact Or.inr rfl) (by first | omega | (intro h; omega) | exact Or.inl rfl | exact Or.inr rfl) (by first | omega | (intro h; omega) | exact Or.inl rfl | exact Or.inr rfl) (by first | omega | (intro h; omega) | exact Or.inl rfl | exact Or.inr rfl) k_979 k_977 k_978 k_980 hg.symm)
                        · have d_981 := iEq c_779
                          have i_982 := u_776 (by omega)
                          replace hg := gt_pos (by first | exact d_981 | omega) hg
                          exact (hp _ _ hR_754 hf_757 (by first | omega | (intro h; omega) | exact Or.inl rfl | exact Or.inr rfl) (by first | omega | (intro h; omega) | exact Or.inl rfl | exact Or.inr rfl) (by first | omega | (intro h; omega) | exact Or.inl rfl | exact Or.inr rfl) (by first | omega | (intro h; omega) | exact Or.inl rfl | exact Or.inr rfl) (by first | omega | (intro h; omega) | exact Or.inl rfl | exact Or.inr rfl) k_769 k_770 k_771 (fun h => absurd h (by omega)) hg.symm)
                    · have d_983 := iNlt c_531
                      exfalso; omega
          · have d_984 := iNe c_48
            have i_985 := u_45 (by omega)
            replace hg := gt_neg (by first | exact d_984 | omega) hg
            unfold fModel_readReform_95
            replace hg := (eModel_readReform_95).symm.trans hg
            have l_986 : (4 : Int32).toInt = 4 := rfl
            refine ⟨fun c_987 => ?_, fun c_987 => ?_⟩
            · have d_988 := iLt c_987
              exfalso; omega
            · have d_989 := iNlt c_987
              replace hg := gt_neg (by first | exact d_989 | omega) hg
              have l_990 : (10 : Int32).toInt = 10 := rfl
              refine ⟨fun c_991 => ?_, fun c_991 => ?_⟩
              · have d_992 := iEq c_991
                exfalso; omega
              · have d_993 := iNe c_991
                replace hg := gt_neg (by first | exact d_993 | omega) hg
                have g_994 : (0 : Int) ≤ (I0 o 44).toInt ∧ (I0 o 44).toInt ≤ 4 := hR.at0 ra 44 (by decide)
                replace hg := gt_let (y := (I0 o 44).toInt) rfl hg
                have a_995 : (10 * (I0 o 44)).toInt = 10 * (I0 o 44).toInt := tMulL rfl (by omega) (by omega)
                replace hg := gt_let (y := ((10 * (I0 o 44)) : Int32).toInt) (by omega) hg
                refine ⟨fun c_996 => ?_, fun c_996 => ?_⟩
                · have d_997 := iLt c_996
                  exfalso; omega
                · have d_998 := iNlt c_996
                  replace hg := gt_neg (by first | exact d_998 | omega) hg
                  refine ⟨fun c_999 => ?_, fun c_999 => ?_⟩
                  · have d_1000 := iLt c_999
                    replace hg := gt_pos (by first | exact d_1000 | omega) hg
                    unfold fModel_readReform_132
                    replace hg := (eModel_readReform_132).symm.trans hg
                    have a_1001 : ((10 * (I0 o 44)) + (4 : Int32)).toInt = (10 * (I0 o 44)).toInt + (4 : Int32).toInt := tAdd (by omega) (by omega)
                    replace hg := gt_let (y := (((10 * (I0 o 44)) + (4 : Int32)) : Int32).toInt) (by omega) hg
                    refine ⟨tIn (by omega) (by omega), ?_⟩
                    have g_1002 : (-1 : Int) ≤ (I0 (o + 26) (((10 * (I0 o 44)) + (4 : Int32)) : Int32).toNatClampNeg).toInt ∧ (I0 (o + 26) (((10 * (I0 o 44)) + (4 : Int32)) : Int32).toNatClampNeg).toInt ≤ 700 := hR.at ra 26 _ (by decide)
                    replace hg := gt_let (y := (I0 (o + 26) (((10 * (I0 o 44)) + (4 : Int32)) : Int32).toNatClampNeg).toInt) rfl hg
                    refine ⟨fun c_1003 => ?_, fun c_1003 => ?_⟩
                    · have d_1004 := iLt c_1003
                      replace hg := gt_pos (by first | exact d_1004 | omega) hg
                      refine y_Model_isGoodg hok hw ra hR (fun r_1005 u_1006 u_1007 u_1008 gn_1009 => ⟨r_1005, I0, L0, rfl, rfl, ?_⟩)
                      replace hg := gt_let gn_1009 hg
                      clear gn_1009
                      have b_1010 : 0 ≤ r_1005.toInt ∧ r_1005.toInt ≤ 1 := u_1006.rg
                      refine ⟨fun c_1011 => ?_, fun c_1011 => ?_⟩
                      · have d_1012 := iNe c_1011
                        have i_1013 := u_1007 (by omega)
                        replace hg := gt_neg (by first | exact d_1012 | omega) hg
                        have tk := hq6.1
                        refine y_Model_nextg hok hw ra hz16 hz17 hz18 hz19 (by first | omega | (intro h; omega) | exact Or.inl rfl | exact Or.inr rfl) hR (fun I_1024 L_1025 hR_1026 fr_1027 kp_1028 u_1015 u_1016 u_1017 u_1018 u_1019 u_1020 u_1021 u_1022 gn_1023 => ⟨I_1024, L_1025, rfl, rfl, ?_⟩)
                        replace hg := gt_b3 gn_1023 hg
                        clear gn_1023
                        have hf_1029 : Fm (fun c => c = o ∨ (o + 26 ≤ c ∧ c < o + 34)) I0 I_1024 := hf.call fr_1027 (fun c hc => by first | exact hc | (dsimp only at hc ⊢; omega) | omega)
                        have t_1030 : (I_1024 o 3).toInt = (I0 o 3).toInt := by rw [kp_1028 3 rfl]
                        have t_1031 : (I_1024 o 4).toInt = (I0 o 4).toInt := by rw [kp_1028 4 rfl]
                        have g_1032 : (0 : Int) ≤ (I_1024 o 6).toInt ∧ (I_1024 o 6).toInt ≤ 1600 := hR_1026.at0 ra 6 (by decide)
                        have g_1033 : (0 : Int) ≤ (I_1024 o 7).toInt ∧ (I_1024 o 7).toInt ≤ 1601 := hR_1026.at0 ra 7 (by decide)
                        have g_1034 : (0 : Int) ≤ (I_1024 o 8).toInt ∧ (I_1024 o 8).toInt ≤ 6 := hR_1026.at0 ra 8 (by decide)
                        have t_1035 : (I_1024 o 44).toInt = (I0 o 44).toInt := by rw [kp_1028 44 rfl]
                        have t_1036 : (I_1024 o 45).toInt = (I0 o 45).toInt := by rw [kp_1028 45 rfl]
                        have t_1037 : (I_1024 o 47).toInt = (I0 o 47).toInt := by rw [kp_1028 47 rfl]
                        have t_1038 : (I_1024 o 48).toInt = (I0 o 48).toInt := by rw [kp_1028 48 rfl]
                        have k_1039 : MTd I_1024 o := hq4.fr (fr_1027 _ (by first | omega | (dsimp only; omega))) (fr_1027 _ (by first | omega | (dsimp only; omega))) (fr_1027 _ (by first | omega | (dsimp only; omega)))
                        have w_1040 : I_1024 (o + 28) = I0 (o + 28) := (fr_1027 (o + 28) (by first | omega | (dsimp only; omega)))
                        have ms := u_1018 (by omega)
                        have k_1041 : ReS I_1024 o := by exact ReS.at hq3 (fr_1027 _ (by first | omega | (dsimp only; omega))) (fr_1027 _ (by first | omega | (dsimp only; omega))) (fr_1027 _ (by first | omega | (dsimp only; omega))) (kp_1028 3 rfl) (by omega) (by omega) (kp_1028 44 rfl) (kp_1028 45 rfl)
                        refine fun I_1042 e_1043 => ?_
                        replace hg := gt_let (y := tI I_1042) (tI_q e_1043) hg
                        have hR_1044 : RI R I_1042 := hR_1026.up0 (k := 49) ra (by decide) (Or.inr hz59) e_1043 (i_lo _) (i_hi _)
                        have hf_1045 : Fm (fun c => c = o ∨ (o + 26 ≤ c ∧ c < o + 34)) I0 I_1042 := hf_1029.set (by first | rfl | omega | (dsimp only; omega)) e_1043
                        have t_1046 : (I_1042 o 3).toInt = (I_1024 o 3).toInt := by rw [← e_1043, q_u_k (by decide)]
                        have t_1047 : (I_1042 o 4).toInt = (I_1024 o 4).toInt := by rw [← e_1043, q_u_k (by decide)]
                        have t_1048 : (I_1042 o 6).toInt = (I_1024 o 6).toInt := by rw [← e_1043, q_u_k (by decide)]
                        have t_1049 : (I_1042 o 7).toInt = (I_1024 o 7).toInt := by rw [← e_1043, q_u_k (by decide)]
                        have t_1050 : (I_1042 o 8).toInt = (I_1024 o 8).toInt := by rw [← e_1043, q_u_k (by decide)]
                        have t_1051 : (I_1042 o 9).toInt = (I_1024 o 9).toInt := by rw [← e_1043, q_u_k (by decide)]
                        have t_1052 : (I_1042 o 44).toInt = (I_1024 o 44).toInt := by rw [← e_1043, q_u_k (by decide)]
                        have t_1053 : (I_1042 o 45).toInt = (I_1024 o 45).toInt := by rw [← e_1043, q_u_k (by decide)]
                        have t_1054 : (I_1042 o 47).toInt = (I_1024 o 47).toInt := by rw [← e_1043, q_u_k (by decide)]
                        have t_1055 : (I_1042 o 48).toInt = (I_1024 o 48).toInt := by rw [← e_1043, q_u_k (by decide)]
                        have k_1056 : MTd I_1042 o := k_1039.fr (by rw [← e_1043]; exact q_u_ne (by omega)) (by rw [← e_1043]; exact q_u_ne (by omega)) (by rw [← e_1043]; exact q_u_ne (by omega))
                        have k_1057 : MPo I_1042 o := u_1021.fr (by rw [← e_1043, q_u_k (by decide)]) (by rw [← e_1043, q_u_k (by decide)])
                        have k_1058 : MTk I_1042 o := u_1022.fr (by rw [← e_1043, q_u_k (by decide)]) (by rw [← e_1043, q_u_k (by decide)]) (by rw [← e_1043, q_u_k (by decide)])
                        have k_1059 : ReS I_1042 o := k_1041.fr (by rw [← e_1043]; exact q_u_ne (by omega)) (by rw [← e_1043]; exact q_u_ne (by omega)) (by rw [← e_1043]; exact q_u_ne (by omega)) (by rw [← e_1043, q_u_k (by decide)]) (by rw [← e_1043, q_u_k (by decide)]) (by rw [← e_1043, q_u_k (by decide)]) (by rw [← e_1043, q_u_k (by decide)])
                        have w_1060 : I_1042 (o + 28) = I0 (o + 28) := by rw [← e_1043, q_u_ne (by omega)]; exact w_1040
                        have g_1061 : (0 : Int) ≤ (I_1042 o 45).toInt ∧ (I_1042 o 45).toInt ≤ 700 := hR_1044.at0 ra 45 (by decide)
                        replace hg := gt_let (y := (I_1042 o 45).toInt) rfl hg
                        refine y_Model_eg hok hw ra hz14 hz15 hz16 hz17 hz18 hz19 hz55 hz56 hz57 hz58 (by first | omega | (intro h; omega) | exact Or.inl rfl | exact Or.inr rfl) (by first | omega | (intro h; omega) | exact Or.inl rfl | exact Or.inr rfl) k_1059 k_1056 k_1057 k_1058 hR_1044 (fun I_1072 L_1073 hR_1074 fr_1075 kp_1076 u_1063 u_1064 u_1065 u_1066 u_1067 u_1068 u_1069 u_1070 gn_1071 => ⟨I_1072, L_1073, rfl, rfl, ?_⟩)
                        replace hg := gt_b3 gn_1071 hg
                        clear gn_1071
                        have hf_1077 : Fm (fun c => c = o ∨ (o + 26 ≤ c ∧ c < o + 34)) I0 I_1072 := hf_1045.call fr_1075 (fun c hc => by first | exact hc | (dsimp only at hc ⊢; omega) | omega)
                        have t_1078 : (I_1072 o 3).toInt = (I_1042 o 3).toInt := by rw [kp_1076 3 rfl]
                        have g_1079 : (0 : Int) ≤ (I_1072 o 4).toInt ∧ (I_1072 o 4).toInt ≤ 5 := hR_1074.at0 ra 4 (by decide)
                        have g_1080 : (0 : Int) ≤ (I_1072 o 6).toInt ∧ (I_1072 o 6).toInt ≤ 1600 := hR_1074.at0 ra 6 (by decide)
                        have g_1081 : (0 : Int) ≤ (I_1072 o 7).toInt ∧ (I_1072 o 7).toInt ≤ 1601 := hR_1074.at0 ra 7 (by decide)
                        have g_1082 : (0 : Int) ≤ (I_1072 o 8).toInt ∧ (I_1072 o 8).toInt ≤ 6 := hR_1074.at0 ra 8 (by decide)
                        have t_1083 : (I_1072 o 44).toInt = (I_1042 o 44).toInt := by rw [kp_1076 44 rfl]
                        have g_1084 : (0 : Int) ≤ (I_1072 o 45).toInt ∧ (I_1072 o 45).toInt ≤ 700 := hR_1074.at0 ra 45 (by decide)
                        have g_1085 : (0 : Int) ≤ (I_1072 o 47).toInt ∧ (I_1072 o 47).toInt ≤ 7 := hR_1074.at0 ra 47 (by decide)
                        have g_1086 : (0 : Int) ≤ (I_1072 o 48).toInt ∧ (I_1072 o 48).toInt ≤ 80 := hR_1074.at0 ra 48 (by decide)
                        have w_1087 : I_1072 (o + 28) = I0 (o + 28) := (fr_1075 (o + 28) (by first | omega | (dsimp only; omega))).trans w_1060
                        have l_1088 : (59 : Int32).toInt = 59 := rfl
                        refine y_Model_isg hok hw ra hR_1074 (fun r_1089 u_1090 u_1091 u_1092 gn_1093 => ⟨r_1089, I_1072, L_1073, rfl, rfl, ?_⟩)
                        replace hg := gt_let gn_1093 hg
                        clear gn_1093
                        have b_1094 : 0 ≤ r_1089.toInt ∧ r_1089.toInt ≤ 1 := u_1090.rg
                        refine y_Model_mustg hok hw ra hz14 hz15 hz16 hz17 hz18 hz19 (by first | omega | (intro h; omega) | exact Or.inl rfl | exact Or.inr rfl) u_1069 u_1070 hR_1074 (fun I_1106 L_1107 hR_1108 fr_1109 kp_1110 u_1096 u_1097 u_1098 u_1099 u_1100 u_1101 u_1102 u_1103 u_1104 gn_1105 => ⟨I_1106, L_1107, rfl, rfl, ?_⟩)
                        replace hg := gt_b3 gn_1105 hg
                        clear gn_1105
                        have hf_1111 : Fm (fun c => c = o ∨ (o + 26 ≤ c ∧ c < o + 34)) I0 I_1106 := hf_1077.call fr_1109 (fun c hc => by first | exact hc | (dsimp only at hc ⊢; omega) | omega)
                        have t_1112 : (I_1106 o 3).toInt = (I_1072 o 3).toInt := by rw [kp_1110 3 rfl]
                        have g_1113 : (0 : Int) ≤ (I_1106 o 4).toInt ∧ (I_1106 o 4).toInt ≤ 5 := hR_1108.at0 ra 4 (by decide)
                        have g_1114 : (0 : Int) ≤ (I_1106 o 6).toInt ∧ (I_1106 o 6).toInt ≤ 1600 := hR_1108.at0 ra 6 (by decide)
                        have g_1115 : (0 : Int) ≤ (I_1106 o 7).toInt ∧ (I_1106 o 7).toInt ≤ 1601 := hR_1108.at0 ra 7 (by decide)
                        have g_1116 : (0 : Int) ≤ (I_1106 o 8).toInt ∧ (I_1106 o 8).toInt ≤ 6 := hR_1108.at0 ra 8 (by decide)
                        have t_1117 : (I_1106 o 44).toInt = (I_1072 o 44).toInt := by rw [kp_1110 44 rfl]
                        have t_1118 : (I_1106 o 45).toInt = (I_1072 o 45).toInt := by rw [kp_1110 45 rfl]
                        have t_1119 : (I_1106 o 47).toInt = (I_1072 o 47).toInt := by rw [kp_1110 47 rfl]
                        have t_1120 : (I_1106 o 48).toInt = (I_1072 o 48).toInt := by rw [kp_1110 48 rfl]
                        have k_1121 : MTd I_1106 o := u_1068.fr (fr_1109 _ (by first | omega | (dsimp only; omega))) (fr_1109 _ (by first | omega | (dsimp only; omega))) (fr_1109 _ (by first | omega | (dsimp only; omega)))
                        have w_1122 : I_1106 (o + 28) = I0 (o + 28) := (fr_1109 (o + 28) (by first | omega | (dsimp only; omega))).trans w_1087
                        have hm26 := fr_1109 (o + 26) (by first | omega | (dsimp only; omega))
                        have hm27 := fr_1109 (o + 27) (by first | omega | (dsimp only; omega))
                        have hm30 := fr_1109 (o + 30) (by first | omega | (dsimp only; omega))
                        have hm3 := kp_1110 3 rfl
                        have hm44 := kp_1110 44 rfl
                        have hm45 := kp_1110 45 rfl
                        have tk2 := u_1104.1
                        have g_1123 : (0 : Int) ≤ (I_1106 o 44).toInt ∧ (I_1106 o 44).toInt ≤ 4 := hR_1108.at0 ra 44 (by decide)
                        replace hg := gt_let (y := (I_1106 o 44).toInt) rfl hg
                        have a_1124 : (10 * (I_1106 o 44)).toInt = 10 * (I_1106 o 44).toInt := tMulL rfl (by omega) (by omega)
                        replace hg := gt_let (y := ((10 * (I_1106 o 44)) : Int32).toInt) (by omega) hg
                        have a_1125 : ((10 * (I_1106 o 44)) + (4 : Int32)).toInt = (10 * (I_1106 o 44)).toInt + (4 : Int32).toInt := tAdd (by omega) (by omega)
                        replace hg := gt_let (y := (((10 * (I_1106 o 44)) + (4 : Int32)) : Int32).toInt) (by omega) hg
                        refine ⟨tIn (by omega) (by omega), fun I_1126 e_1127 => ?_⟩
                        replace hg := gt_let (y := tI I_1126) (tI_q e_1127) hg
                        have hR_1128 : RI R I_1126 := hR_1108.up ra 26 (by decide) (Or.inl rfl) e_1127 (show (-1 : Int) ≤ (I_1042 o 45).toInt by omega) (show (I_1042 o 45).toInt ≤ (700 : Int) by omega)
                        have hf_1129 : Fm (fun c => c = o ∨ (o + 26 ≤ c ∧ c < o + 34)) I0 I_1126 := hf_1111.set (by first | rfl | omega | (dsimp only; omega)) e_1127
                        have t_1130 : (I_1126 o 3).toInt = (I_1106 o 3).toInt := by rw [← e_1127, q_u_ne (by omega)]
                        have t_1131 : (I_1126 o 4).toInt = (I_1106 o 4).toInt := by rw [← e_1127, q_u_ne (by omega)]
                        have t_1132 : (I_1126 o 6).toInt = (I_1106 o 6).toInt := by rw [← e_1127, q_u_ne (by omega)]
                        have t_1133 : (I_1126 o 7).toInt = (I_1106 o 7).toInt := by rw [← e_1127, q_u_ne (by omega)]
                        have t_1134 : (I_1126 o 8).toInt = (I_1106 o 8).toInt := by rw [← e_1127, q_u_ne (by omega)]
                        have t_1135 : (I_1126 o 9).toInt = (I_1106 o 9).toInt := by rw [← e_1127, q_u_ne (by omega)]
                        have t_1136 : (I_1126 o 44).toInt = (I_1106 o 44).toInt := by rw [← e_1127, q_u_ne (by omega)]
                        have t_1137 : (I_1126 o 45).toInt = (I_1106 o 45).toInt := by rw [← e_1127, q_u_ne (by omega)]
                        have t_1138 : (I_1126 o 47).toInt = (I_1106 o 47).toInt := by rw [← e_1127, q_u_ne (by omega)]
                        have t_1139 : (I_1126 o 48).toInt = (I_1106 o 48).toInt := by rw [← e_1127, q_u_ne (by omega)]
                        have k_1141 : MPo I_1126 o := u_1103.fr (by rw [← e_1127, q_u_ne (by omega)]) (by rw [← e_1127, q_u_ne (by omega)])
                        have k_1142 : MTk I_1126 o := u_1104.fr (by rw [← e_1127, q_u_ne (by omega)]) (by rw [← e_1127, q_u_ne (by omega)]) (by rw [← e_1127, q_u_ne (by omega)])
                        have w_1143 : I_1126 (o + 28) = I0 (o + 28) := by rw [← e_1127, q_u_ne (by omega)]; exact w_1122
                        have k_1144 : MTd I_1126 o := by exact MTd.p26 k_1121 e_1127 (by omega)
                        have g_1145 : (0 : Int) ≤ (I_1126 o 44).toInt ∧ (I_1126 o 44).toInt ≤ 4 := hR_1128.at0 ra 44 (by decide)
                        replace hg := gt_let (y := (I_1126 o 44).toInt) rfl hg
                        have a_1146 : (10 * (I_1126 o 44)).toInt = 10 * (I_1126 o 44).toInt := tMulL rfl (by omega) (by omega)
                        replace hg := gt_let (y := ((10 * (I_1126 o 44)) : Int32).toInt) (by omega) hg
                        have a_1147 : ((10 * (I_1126 o 44)) + (4 : Int32)).toInt = (10 * (I_1126 o 44)).toInt + (4 : Int32).toInt := tAdd (by omega) (by omega)
                        replace hg := gt_let (y := (((10 * (I_1126 o 44)) + (4 : Int32)) : Int32).toInt) (by omega) hg
                        have g_1148 : (0 : Int) ≤ (I_1126 o 45).toInt ∧ (I_1126 o 45).toInt ≤ 700 := hR_1128.at0 ra 45 (by decide)
                        replace hg := gt_let (y := (I_1126 o 45).toInt) rfl hg
                        refine ⟨tIn (by omega) (by omega), fun I_1149 e_1150 => ?_⟩
                        replace hg := gt_let (y := tI I_1149) (tI_q e_1150) hg
                        have hR_1151 : RI R I_1149 := hR_1128.up ra 27 (by decide) (Or.inl rfl) e_1150 (show (0 : Int) ≤ (I_1126 o 45).toInt by omega) (show (I_1126 o 45).toInt ≤ (700 : Int) by omega)
                        have hf_1152 : Fm (fun c => c = o ∨ (o + 26 ≤ c ∧ c < o + 34)) I0 I_1149 := hf_1129.set (by first | rfl | omega | (dsimp only; omega)) e_1150
                        have t_1153 : (I_1149 o 3).toInt = (I_1126 o 3).toInt := by rw [← e_1150, q_u_ne (by omega)]
                        have t_1154 : (I_1149 o 4).toInt = (I_1126 o 4).toInt := by rw [← e_1150, q_u_ne (by omega)]
                        have t_1155 : (I_1149 o 6).toInt = (I_1126 o 6).toInt := by rw [← e_1150, q_u_ne (by omega)]
                        have t_1156 : (I_1149 o 7).toInt = (I_1126 o 7).toInt := by rw [← e_1150, q_u_ne (by omega)]
                        have t_1157 : (I_1149 o 8).toInt = (I_1126 o 8).toInt := by rw [← e_1150, q_u_ne (by omega)]
                        have t_1158 : (I_1149 o 9).toInt = (I_1126 o 9).toInt := by rw [← e_1150, q_u_ne (by omega)]
                        have t_1159 : (I_1149 o 44).toInt = (I_1126 o 44).toInt := by rw [← e_1150, q_u_ne (by omega)]
                        have t_1160 : (I_1149 o 45).toInt = (I_1126 o 45).toInt := by rw [← e_1150, q_u_ne (by omega)]
                        have t_1161 : (I_1149 o 47).toInt = (I_1126 o 47).toInt := by rw [← e_1150, q_u_ne (by omega)]
                        have t_1162 : (I_1149 o 48).toInt = (I_1126 o 48).toInt := by rw [← e_1150, q_u_ne (by omega)]
                        have k_1163 : MPo I_1149 o := k_1141.fr (by rw [← e_1150, q_u_ne (by omega)]) (by rw [← e_1150, q_u_ne (by omega)])
                        have k_1164 : MTk I_1149 o := k_1142.fr (by rw [← e_1150, q_u_ne (by omega)]) (by rw [← e_1150, q_u_ne (by omega)]) (by rw [← e_1150, q_u_ne (by omega)])
                        have w_1166 : I_1149 (o + 28) = I0 (o + 28) := by rw [← e_1150, q_u_ne (by omega)]; exact w_1143
                        have k_1167 : MTd I_1149 o := by exact MTd.p27 k_1144 e_1150 (by omega)
                        have k_1168 : ReG I_1149 o := by intro h; exact ReS.put (u_1067 (by omega)) (by omega) hm26 hm27 hm30 hm3 hm44 hm45 (by omega) (by omega) e_1127 e_1150 (by omega) (by omega)
                        have l_1169 : (5 : Int32).toInt = 5 := rfl
                        refine ⟨fun c_1170 => ?_, fun c_1170 => ?_⟩
                        · have d_1171 := iLt c_1170
                          replace hg := gt_pos (by first | exact d_1171 | omega) hg
                          unfold fModel_readReform_228
                          replace hg := (eModel_readReform_228).symm.trans hg
                          have g_1172 : (0 : Int) ≤ (I_1149 o 44).toInt ∧ (I_1149 o 44).toInt ≤ 4 := hR_1151.at0 ra 44 (by decide)
                          replace hg := gt_let (y := (I_1149 o 44).toInt) rfl hg
                          refine ⟨tIn (by omega) (by omega), ?_⟩
                          replace hg := gt_let (y := (I_1149 (o + 29) ((I_1149 o 44) : Int32).toNatClampNeg).toInt) rfl hg
                          have l_1173 : (1 : Int32).toInt = 1 := rfl
                          replace hg := gt_let (y := (((I_1149 (o + 29) ((I_1149 o 44) : Int32).toNatClampNeg) + 1) : Int32).toInt) (wAdd_eq ((I_1149 (o + 29) ((I_1149 o 44) : Int32).toNatClampNeg) : Int32) (1 : Int32)) hg
                          refine ⟨tIn (by omega) (by omega), fun I_1174 e_1175 => ?_⟩
                          replace hg := gt_let (y := tI I_1174) (tI_q e_1175) hg
                          have hR_1176 : RI R I_1174 := hR_1151.up ra 29 (by decide) (Or.inl rfl) e_1175 (i_lo _) (i_hi _)
                          have hf_1177 : Fm (fun c => c = o ∨ (o + 26 ≤ c ∧ c < o + 34)) I0 I_1174 := hf_1152.set (by first | rfl | omega | (dsimp only; omega)) e_1175
                          have t_1178 : (I_1174 o 3).toInt = (I_1149 o 3).toInt := by rw [← e_1175, q_u_ne (by omega)]
                          have t_1179 : (I_1174 o 4).toInt = (I_1149 o 4).toInt := by rw [← e_1175, q_u_ne (by omega)]
                          have t_1180 : (I_1174 o 6).toInt = (I_1149 o 6).toInt := by rw [← e_1175, q_u_ne (by omega)]
                          have t_1181 : (I_1174 o 7).toInt = (I_1149 o 7).toInt := by rw [← e_1175, q_u_ne (by omega)]
                          have t_1182 : (I_1174 o 8).toInt = (I_1149 o 8).toInt := by rw [← e_1175, q_u_ne (by omega)]
                          have t_1183 : (I_1174 o 9).toInt = (I_1149 o 9).toInt := by rw [← e_1175, q_u_ne (by omega)]
                          have t_1184 : (I_1174 o 44).toInt = (I_1149 o 44).toInt := by rw [← e_1175, q_u_ne (by omega)]
                          have t_1185 : (I_1174 o 45).toInt = (I_1149 o 45).toInt := by rw [← e_1175, q_u_ne (by omega)]
                          have t_1186 : (I_1174 o 47).toInt = (I_1149 o 47).toInt := by rw [← e_1175, q_u_ne (by omega)]
                          have t_1187 : (I_1174 o 48).toInt = (I_1149 o 48).toInt := by rw [← e_1175, q_u_ne (by omega)]
                          have k_1188 : MPo I_1174 o := k_1163.fr (by rw [← e_1175, q_u_ne (by omega)]) (by rw [← e_1175, q_u_ne (by omega)])
                          have k_1189 : MTk I_1174 o := k_1164.fr (by rw [← e_1175, q_u_ne (by omega)]) (by rw [← e_1175, q_u_ne (by omega)]) (by rw [← e_1175, q_u_ne (by omega)])
                          have k_1190 : MTd I_1174 o := k_1167.fr (by rw [← e_1175]; exact q_u_ne (by omega)) (by rw [← e_1175]; exact q_u_ne (by omega)) (by rw [← e_1175]; exact q_u_ne (by omega))
                          have k_1191 : ReG I_1174 o := k_1168.fr (by rw [← e_1175]; exact q_u_ne (by omega)) (by rw [← e_1175]; exact q_u_ne (by omega)) (by rw [← e_1175]; exact q_u_ne (by omega)) (by rw [← e_1175, q_u_ne (by omega)]) (by rw [← e_1175, q_u_ne (by omega)]) (by rw [← e_1175, q_u_ne (by omega)]) (by rw [← e_1175, q_u_ne (by omega)]) (by rw [← e_1175, q_u_ne (by omega)])
                          have w_1192 : I_1174 (o + 28) = I0 (o + 28) := by rw [← e_1175, q_u_ne (by omega)]; exact w_1166
                          exact (hp _ _ hR_1176 hf_1177 (by first | omega | (intro h; omega) | exact Or.inl rfl | exact Or.inr rfl) (by first | omega | (intro h; omega) | exact Or.inl rfl | exact Or.inr rfl) (by first | omega | (intro h; omega) | exact Or.inl rfl | exact Or.inr rfl) (by first | omega | (intro h; omega) | exact Or.inl rfl | exact Or.inr rfl) (by first | omega | (intro h; omega) | exact Or.inl rfl | exact Or.inr rfl) k_1190 k_1188 k_1189 k_1191 hg.symm)
                        · have d_1193 := iNlt c_1170
                          exfalso; omega
                      · have d_1194 := iEq c_1011
                        have i_1195 := u_1008 (by omega)
                        replace hg := gt_pos (by first | exact d_1194 | omega) hg
                        exact (hp _ _ hR hf (by first | omega | (intro h; omega) | exact Or.inl rfl | exact Or.inr rfl) (by first | omega | (intro h; omega) | exact Or.inl rfl | exact Or.inr rfl) (by first | omega | (intro h; omega) | exact Or.inl rfl | exact Or.inr rfl) (by first | omega | (intro h; omega) | exact Or.inl rfl | exact Or.inr rfl) (by first | omega | (intro h; omega) | exact Or.inl rfl | exact Or.inr rfl) hq4 hq5 hq6 (fun h => absurd h (by omega)) hg.symm)
                    · have d_1196 := iNlt c_1003
                      replace hg := gt_neg (by first | exact d_1196 | omega) hg
                      refine y_Model_wrongg hok hw ra hz14 hz15 hR (fun I_1201 L_1202 hR_1203 fr_1204 kp_1205 u_1198 u_1199 gn_1200 => ⟨I_1201, L_1202, rfl, rfl, ?_⟩)
                      replace hg := gt_b3 gn_1200 hg
                      clear gn_1200
                      have hf_1206 : Fm (fun c => c = o ∨ (o + 26 ≤ c ∧ c < o + 34)) I0 I_1201 := hf.call fr_1204 (fun c hc => by first | exact hc | (dsimp only at hc ⊢; omega) | omega)
                      have t_1207 : (I_1201 o 3).toInt = (I0 o 3).toInt := by rw [kp_1205 3 rfl]
                      have g_1208 : (0 : Int) ≤ (I_1201 o 4).toInt ∧ (I_1201 o 4).toInt ≤ 5 := hR_1203.at0 ra 4 (by decide)
                      have t_1209 : (I_1201 o 6).toInt = (I0 o 6).toInt := by rw [kp_1205 6 rfl]
                      have t_1210 : (I_1201 o 7).toInt = (I0 o 7).toInt := by rw [kp_1205 7 rfl]
                      have t_1211 : (I_1201 o 8).toInt = (I0 o 8).toInt := by rw [kp_1205 8 rfl]
                      have t_1212 : (I_1201 o 9).toInt = (I0 o 9).toInt := by rw [kp_1205 9 rfl]
                      have t_1213 : (I_1201 o 44).toInt = (I0 o 44).toInt := by rw [kp_1205 44 rfl]
                      have t_1214 : (I_1201 o 45).toInt = (I0 o 45).toInt := by rw [kp_1205 45 rfl]
                      have t_1215 : (I_1201 o 47).toInt = (I0 o 47).toInt := by rw [kp_1205 47 rfl]
                      have t_1216 : (I_1201 o 48).toInt = (I0 o 48).toInt := by rw [kp_1205 48 rfl]
                      have k_1217 : ReS I_1201 o := hq3.fr (fr_1204 _ (by first | omega | (dsimp only; omega))) (fr_1204 _ (by first | omega | (dsimp only; omega))) (fr_1204 _ (by first | omega | (dsimp only; omega))) (kp_1205 3 rfl) (kp_1205 6 rfl) (kp_1205 44 rfl) (kp_1205 45 rfl)
                      have k_1218 : MTd I_1201 o := hq4.fr (fr_1204 _ (by first | omega | (dsimp only; omega))) (fr_1204 _ (by first | omega | (dsimp only; omega))) (fr_1204 _ (by first | omega | (dsimp only; omega)))
                      have k_1219 : MPo I_1201 o := hq5.fr (kp_1205 8 rfl) (kp_1205 9 rfl)
                      have k_1220 : MTk I_1201 o := hq6.fr (kp_1205 6 rfl) (kp_1205 7 rfl) (kp_1205 8 rfl)
                      have w_1221 : I_1201 (o + 28) = I0 (o + 28) := (fr_1204 (o + 28) (by first | omega | (dsimp only; omega)))
                      refine y_Model_isGoodg hok hw ra hR_1203 (fun r_1222 u_1223 u_1224 u_1225 gn_1226 => ⟨r_1222, I_1201, L_1202, rfl, rfl, ?_⟩)
                      replace hg := gt_let gn_1226 hg
                      clear gn_1226
                      have b_1227 : 0 ≤ r_1222.toInt ∧ r_1222.toInt ≤ 1 := u_1223.rg
                      refine ⟨fun c_1228 => ?_, fun c_1228 => ?_⟩
                      · have d_1229 := iNe c_1228
                        have i_1230 := u_1224 (by omega)
                        replace hg := gt_neg (by first | exact d_1229 | omega) hg
                        have tk := k_1220.1
                        refine y_Model_nextg hok hw ra hz16 hz17 hz18 hz19 (by first | omega | (intro h; omega) | exact Or.inl rfl | exact Or.inr rfl) hR_1203 (fun I_1241 L_1242 hR_1243 fr_1244 kp_1245 u_1232 u_1233 u_1234 u_1235 u_1236 u_1237 u_1238 u_1239 gn_1240 => ⟨I_1241, L_1242, rfl, rfl, ?_⟩)
                        replace hg := gt_b3 gn_1240 hg
                        clear gn_1240
                        have hf_1246 : Fm (fun c => c = o ∨ (o + 26 ≤ c ∧ c < o + 34)) I0 I_1241 := hf_1206.call fr_1244 (fun c hc => by first | exact hc | (dsimp only at hc ⊢; omega) | omega)
                        have t_1247 : (I_1241 o 3).toInt = (I_1201 o 3).toInt := by rw [kp_1245 3 rfl]
                        have t_1248 : (I_1241 o 4).toInt = (I_1201 o 4).toInt := by rw [kp_1245 4 rfl]
                        have g_1249 : (0 : Int) ≤ (I_1241 o 6).toInt ∧ (I_1241 o 6).toInt ≤ 1600 := hR_1243.at0 ra 6 (by decide)
                        have g_1250 : (0 : Int) ≤ (I_1241 o 7).toInt ∧ (I_1241 o 7).toInt ≤ 1601 := hR_1243.at0 ra 7 (by decide)
                        have g_1251 : (0 : Int) ≤ (I_1241 o 8).toInt ∧ (I_1241 o 8).toInt ≤ 6 := hR_1243.at0 ra 8 (by decide)
                        have t_1252 : (I_1241 o 44).toInt = (I_1201 o 44).toInt := by rw [kp_1245 44 rfl]
                        have t_1253 : (I_1241 o 45).toInt = (I_1201 o 45).toInt := by rw [kp_1245 45 rfl]
                        have t_1254 : (I_1241 o 47).toInt = (I_1201 o 47).toInt := by rw [kp_1245 47 rfl]
                        have t_1255 : (I_1241 o 48).toInt = (I_1201 o 48).toInt := by rw [kp_1245 48 rfl]
                        have k_1256 : MTd I_1241 o := k_1218.fr (fr_1244 _ (by first | omega | (dsimp only; omega))) (fr_1244 _ (by first | omega | (dsimp only; omega))) (fr_1244 _ (by first | omega | (dsimp only; omega)))
                        have w_1257 : I_1241 (o + 28) = I0 (o + 28) := (fr_1244 (o + 28) (by first | omega | (dsimp only; omega))).trans w_1221
                        have ms := u_1235 (by omega)
                        have k_1258 : ReS I_1241 o := by exact ReS.at k_1217 (fr_1244 _ (by first | omega | (dsimp only; omega))) (fr_1244 _ (by first | omega | (dsimp only; omega))) (fr_1244 _ (by first | omega | (dsimp only; omega))) (kp_1245 3 rfl) (by omega) (by omega) (kp_1245 44 rfl) (kp_1245 45 rfl)
                        refine fun I_1259 e_1260 => ?_
                        replace hg := gt_let (y := tI I_1259) (tI_q e_1260) hg
                        have hR_1261 : RI R I_1259 := hR_1243.up0 (k := 49) ra (by decide) (Or.inr hz59) e_1260 (i_lo _) (i_hi _)
                        have hf_1262 : Fm (fun c => c = o ∨ (o + 26 ≤ c ∧ c < o + 34)) I0 I_1259 := hf_1246.set (by first | rfl | omega | (dsimp only; omega)) e_1260
                        have t_1263 : (I_1259 o 3).toInt = (I_1241 o 3).toInt := by rw [← e_1260, q_u_k (by decide)]
                        have t_1264 : (I_1259 o 4).toInt = (I_1241 o 4).toInt := by rw [← e_1260, q_u_k (by decide)]
                        have t_1265 : (I_1259 o 6).toInt = (I_1241 o 6).toInt := by rw [← e_1260, q_u_k (by decide)]
                        have t_1266 : (I_1259 o 7).toInt = (I_1241 o 7).toInt := by rw [← e_1260, q_u_k (by decide)]
                        have t_1267 : (I_1259 o 8).toInt = (I_1241 o 8).toInt := by rw [← e_1260, q_u_k (by decide)]
                        have t_1268 : (I_1259 o 9).toInt = (I_1241 o 9).toInt := by rw [← e_1260, q_u_k (by decide)]
                        have t_1269 : (I_1259 o 44).toInt = (I_1241 o 44).toInt := by rw [← e_1260, q_u_k (by decide)]
                        have t_1270 : (I_1259 o 45).toInt = (I_1241 o 45).toInt := by rw [← e_1260, q_u_k (by decide)]
                        have t_1271 : (I_1259 o 47).toInt = (I_1241 o 47).toInt := by rw [← e_1260, q_u_k (by decide)]
                        have t_1272 : (I_1259 o 48).toInt = (I_1241 o 48).toInt := by rw [← e_1260, q_u_k (by decide)]
                        have k_1273 : MTd I_1259 o := k_1256.fr (by rw [← e_1260]; exact q_u_ne (by omega)) (by rw [← e_1260]; exact q_u_ne (by omega)) (by rw [← e_1260]; exact q_u_ne (by omega))
                        have k_1274 : MPo I_1259 o := u_1238.fr (by rw [← e_1260, q_u_k (by decide)]) (by rw [← e_1260, q_u_k (by decide)])
                        have k_1275 : MTk I_1259 o := u_1239.fr (by rw [← e_1260, q_u_k (by decide)]) (by rw [← e_1260, q_u_k (by decide)]) (by rw [← e_1260, q_u_k (by decide)])
                        have k_1276 : ReS I_1259 o := k_1258.fr (by rw [← e_1260]; exact q_u_ne (by omega)) (by rw [← e_1260]; exact q_u_ne (by omega)) (by rw [← e_1260]; exact q_u_ne (by omega)) (by rw [← e_1260, q_u_k (by decide)]) (by rw [← e_1260, q_u_k (by decide)]) (by rw [← e_1260, q_u_k (by decide)]) (by rw [← e_1260, q_u_k (by decide)])
                        have w_1277 : I_1259 (o + 28) = I0 (o + 28) := by rw [← e_1260, q_u_ne (by omega)]; exact w_1257
                        have g_1278 : (0 : Int) ≤ (I_1259 o 45).toInt ∧ (I_1259 o 45).toInt ≤ 700 := hR_1261.at0 ra 45 (by decide)
                        replace hg := gt_let (y := (I_1259 o 45).toInt) rfl hg
                        refine y_Model_eg hok hw ra hz14 hz15 hz16 hz17 hz18 hz19 hz55 hz56 hz57 hz58 (by first | omega | (intro h; omega) | exact Or.inl rfl | exact Or.inr rfl) (by first | omega | (intro h; omega) | exact Or.inl rfl | exact Or.inr rfl) k_1276 k_1273 k_1274 k_1275 hR_1261 (fun I_1289 L_1290 hR_1291 fr_1292 kp_1293 u_1280 u_1281 u_1282 u_1283 u_1284 u_1285 u_1286 u_1287 gn_1288 => ⟨I_1289, L_1290, rfl, rfl, ?_⟩)
                        replace hg := gt_b3 gn_1288 hg
                        clear gn_1288
                        have hf_1294 : Fm (fun c => c = o ∨ (o + 26 ≤ c ∧ c < o + 34)) I0 I_1289 := hf_1262.call fr_1292 (fun c hc => by first | exact hc | (dsimp only at hc ⊢; omega) | omega)
                        have t_1295 : (I_1289 o 3).toInt = (I_1259 o 3).toInt := by rw [kp_1293 3 rfl]
                        have g_1296 : (0 : Int) ≤ (I_1289 o 4).toInt ∧ (I_1289 o 4).toInt ≤ 5 := hR_1291.at0 ra 4 (by decide)
                        have g_1297 : (0 : Int) ≤ (I_1289 o 6).toInt ∧ (I_1289 o 6).toInt ≤ 1600 := hR_1291.at0 ra 6 (by decide)
                        have g_1298 : (0 : Int) ≤ (I_1289 o 7).toInt ∧ (I_1289 o 7).toInt ≤ 1601 := hR_1291.at0 ra 7 (by decide)
                        have g_1299 : (0 : Int) ≤ (I_1289 o 8).toInt ∧ (I_1289 o 8).toInt ≤ 6 := hR_1291.at0 ra 8 (by decide)
                        have t_1300 : (I_1289 o 44).toInt = (I_1259 o 44).toInt := by rw [kp_1293 44 rfl]
                        have g_1301 : (0 : Int) ≤ (I_1289 o 45).toInt ∧ (I_1289 o 45).toInt ≤ 700 := hR_1291.at0 ra 45 (by decide)
                        have g_1302 : (0 : Int) ≤ (I_1289 o 47).toInt ∧ (I_1289 o 47).toInt ≤ 7 := hR_1291.at0 ra 47 (by decide)
                        have g_1303 : (0 : Int) ≤ (I_1289 o 48).toInt ∧ (I_1289 o 48).toInt ≤ 80 := hR_1291.at0 ra 48 (by decide)
                        have w_1304 : I_1289 (o + 28) = I0 (o + 28) := (fr_1292 (o + 28) (by first | omega | (dsimp only; omega))).trans w_1277
                        have l_1305 : (59 : Int32).toInt = 59 := rfl
                        refine y_Model_isg hok hw ra hR_1291 (fun r_1306 u_1307 u_1308 u_1309 gn_1310 => ⟨r_1306, I_1289, L_1290, rfl, rfl, ?_⟩)
                        replace hg := gt_let gn_1310 hg
                        clear gn_1310
                        have b_1311 : 0 ≤ r_1306.toInt ∧ r_1306.toInt ≤ 1 := u_1307.rg
                        refine y_Model_mustg hok hw ra hz14 hz15 hz16 hz17 hz18 hz19 (by first | omega | (intro h; omega) | exact Or.inl rfl | exact Or.inr rfl) u_1286 u_1287 hR_1291 (fun I_1323 L_1324 hR_1325 fr_1326 kp_1327 u_1313 u_1314 u_1315 u_1316 u_1317 u_1318 u_1319 u_1320 u_1321 gn_1322 => ⟨I_1323, L_1324, rfl, rfl, ?_⟩)
                        replace hg := gt_b3 gn_1322 hg
                        clear gn_1322
                        have hf_1328 : Fm (fun c => c = o ∨ (o + 26 ≤ c ∧ c < o + 34)) I0 I_1323 := hf_1294.call fr_1326 (fun c hc => by first | exact hc | (dsimp only at hc ⊢; omega) | omega)
                        have t_1329 : (I_1323 o 3).toInt = (I_1289 o 3).toInt := by rw [kp_1327 3 rfl]
                        have g_1330 : (0 : Int) ≤ (I_1323 o 4).toInt ∧ (I_1323 o 4).toInt ≤ 5 := hR_1325.at0 ra 4 (by decide)
                        have g_1331 : (0 : Int) ≤ (I_1323 o 6).toInt ∧ (I_1323 o 6).toInt ≤ 1600 := hR_1325.at0 ra 6 (by decide)
                        have g_1332 : (0 : Int) ≤ (I_1323 o 7).toInt ∧ (I_1323 o 7).toInt ≤ 1601 := hR_1325.at0 ra 7 (by decide)
                        have g_1333 : (0 : Int) ≤ (I_1323 o 8).toInt ∧ (I_1323 o 8).toInt ≤ 6 := hR_1325.at0 ra 8 (by decide)
                        have t_1334 : (I_1323 o 44).toInt = (I_1289 o 44).toInt := by rw [kp_1327 44 rfl]
                        have t_1335 : (I_1323 o 45).toInt = (I_1289 o 45).toInt := by rw [kp_1327 45 rfl]
                        have t_1336 : (I_1323 o 47).toInt = (I_1289 o 47).toInt := by rw [kp_1327 47 rfl]
                        have t_1337 : (I_1323 o 48).toInt = (I_1289 o 48).toInt := by rw [kp_1327 48 rfl]
                        have k_1338 : MTd I_1323 o := u_1285.fr (fr_1326 _ (by first | omega | (dsimp only; omega))) (fr_1326 _ (by first | omega | (dsimp only; omega))) (fr_1326 _ (by first | omega | (dsimp only; omega)))
                        have w_1339 : I_1323 (o + 28) = I0 (o + 28) := (fr_1326 (o + 28) (by first | omega | (dsimp only; omega))).trans w_1304
                        have hm26 := fr_1326 (o + 26) (by first | omega | (dsimp only; omega))
                        have hm27 := fr_1326 (o + 27) (by first | omega | (dsimp only; omega))
                        have hm30 := fr_1326 (o + 30) (by first | omega | (dsimp only; omega))
                        have hm3 := kp_1327 3 rfl
                        have hm44 := kp_1327 44 rfl
                        have hm45 := kp_1327 45 rfl
                        have tk2 := u_1321.1
                        have g_1340 : (0 : Int) ≤ (I_1323 o 44).toInt ∧ (I_1323 o 44).toInt ≤ 4 := hR_1325.at0 ra 44 (by decide)
                        replace hg := gt_let (y := (I_1323 o 44).toInt) rfl hg
                        have a_1341 : (10 * (I_1323 o 44)).toInt = 10 * (I_1323 o 44).toInt := tMulL rfl (by omega) (by omega)
                        replace hg := gt_let (y := ((10 * (I_1323 o 44)) : Int32).toInt) (by omega) hg
                        have a_1342 : ((10 * (I_1323 o 44)) + (4 : Int32)).toInt = (10 * (I_1323 o 44)).toInt + (4 : Int32).toInt := tAdd (by omega) (by omega)
                        replace hg := gt_let (y := (((10 * (I_1323 o 44)) + (4 : Int32)) : Int32).toInt) (by omega) hg
                        refine ⟨tIn (by omega) (by omega), fun I_1343 e_1344 => ?_⟩
                        replace hg := gt_let (y := tI I_1343) (tI_q e_1344) hg
                        have hR_1345 : RI R I_1343 := hR_1325.up ra 26 (by decide) (Or.inl rfl) e_1344 (show (-1 : Int) ≤ (I_1259 o 45).toInt by omega) (show (I_1259 o 45).toInt ≤ (700 : Int) by omega)
                        have hf_1346 : Fm (fun c => c = o ∨ (o + 26 ≤ c ∧ c < o + 34)) I0 I_1343 := hf_1328.set (by first | rfl | omega | (dsimp only; omega)) e_1344
                        have t_1347 : (I_1343 o 3).toInt = (I_1323 o 3).toInt := by rw [← e_1344, q_u_ne (by omega)]
                        have t_1348 : (I_1343 o 4).toInt = (I_1323 o 4).toInt := by rw [← e_1344, q_u_ne (by omega)]
                        have t_1349 : (I_1343 o 6).toInt = (I_1323 o 6).toInt := by rw [← e_1344, q_u_ne (by omega)]
                        have t_1350 : (I_1343 o 7).toInt = (I_1323 o 7).toInt := by rw [← e_1344, q_u_ne (by omega)]
                        have t_1351 : (I_1343 o 8).toInt = (I_1323 o 8).toInt := by rw [← e_1344, q_u_ne (by omega)]
                        have t_1352 : (I_1343 o 9).toInt = (I_1323 o 9).toInt := by rw [← e_1344, q_u_ne (by omega)]
                        have t_1353 : (I_1343 o 44).toInt = (I_1323 o 44).toInt := by rw [← e_1344, q_u_ne (by omega)]
                        have t_1354 : (I_1343 o 45).toInt = (I_1323 o 45).toInt := by rw [← e_1344, q_u_ne (by omega)]
                        have t_1355 : (I_1343 o 47).toInt = (I_1323 o 47).toInt := by rw [← e_1344, q_u_ne (by omega)]
                        have t_1356 : (I_1343 o 48).toInt = (I_1323 o 48).toInt := by rw [← e_1344, q_u_ne (by omega)]
                        have k_1358 : MPo I_1343 o := u_1320.fr (by rw [← e_1344, q_u_ne (by omega)]) (by rw [← e_1344, q_u_ne (by omega)])
                        have k_1359 : MTk I_1343 o := u_1321.fr (by rw [← e_1344, q_u_ne (by omega)]) (by rw [← e_1344, q_u_ne (by omega)]) (by rw [← e_1344, q_u_ne (by omega)])
                        have w_1360 : I_1343 (o + 28) = I0 (o + 28) := by rw [← e_1344, q_u_ne (by omega)]; exact w_1339
                        have k_1361 : MTd I_1343 o := by exact MTd.p26 k_1338 e_1344 (by omega)
                        have g_1362 : (0 : Int) ≤ (I_1343 o 44).toInt ∧ (I_1343 o 44).toInt ≤ 4 := hR_1345.at0 ra 44 (by decide)
                        replace hg := gt_let (y := (I_1343 o 44).toInt) rfl hg
                        have a_1363 : (10 * (I_1343 o 44)).toInt = 10 * (I_1343 o 44).toInt := tMulL rfl (by omega) (by omega)
                        replace hg := gt_let (y := ((10 * (I_1343 o 44)) : Int32).toInt) (by omega) hg
                        have a_1364 : ((10 * (I_1343 o 44)) + (4 : Int32)).toInt = (10 * (I_1343 o 44)).toInt + (4 : Int32).toInt := tAdd (by omega) (by omega)
                        replace hg := gt_let (y := (((10 * (I_1343 o 44)) + (4 : Int32)) : Int32).toInt) (by omega) hg
                        have g_1365 : (0 : Int) ≤ (I_1343 o 45).toInt ∧ (I_1343 o 45).toInt ≤ 700 := hR_1345.at0 ra 45 (by decide)
                        replace hg := gt_let (y := (I_1343 o 45).toInt) rfl hg
                        refine ⟨tIn (by omega) (by omega), fun I_1366 e_1367 => ?_⟩
                        replace hg := gt_let (y := tI I_1366) (tI_q e_1367) hg
                        have hR_1368 : RI R I_1366 := hR_1345.up ra 27 (by decide) (Or.inl rfl) e_1367 (show (0 : Int) ≤ (I_1343 o 45).toInt by omega) (show (I_1343 o 45).toInt ≤ (700 : Int) by omega)
                        have hf_1369 : Fm (fun c => c = o ∨ (o + 26 ≤ c ∧ c < o + 34)) I0 I_1366 := hf_1346.set (by first | rfl | omega | (dsimp only; omega)) e_1367
                        have t_1370 : (I_1366 o 3).toInt = (I_1343 o 3).toInt := by rw [← e_1367, q_u_ne (by omega)]
                        have t_1371 : (I_1366 o 4).toInt = (I_1343 o 4).toInt := by rw [← e_1367, q_u_ne (by omega)]
                        have t_1372 : (I_1366 o 6).toInt = (I_1343 o 6).toInt := by rw [← e_1367, q_u_ne (by omega)]
                        have t_1373 : (I_1366 o 7).toInt = (I_1343 o 7).toInt := by rw [← e_1367, q_u_ne (by omega)]
                        have t_1374 : (I_1366 o 8).toInt = (I_1343 o 8).toInt := by rw [← e_1367, q_u_ne (by omega)]
                        have t_1375 : (I_1366 o 9).toInt = (I_1343 o 9).toInt := by rw [← e_1367, q_u_ne (by omega)]
                        have t_1376 : (I_1366 o 44).toInt = (I_1343 o 44).toInt := by rw [← e_1367, q_u_ne (by omega)]
                        have t_1377 : (I_1366 o 45).toInt = (I_1343 o 45).toInt := by rw [← e_1367, q_u_ne (by omega)]
                        have t_1378 : (I_1366 o 47).toInt = (I_1343 o 47).toInt := by rw [← e_1367, q_u_ne (by omega)]
                        have t_1379 : (I_1366 o 48).toInt = (I_1343 o 48).toInt := by rw [← e_1367, q_u_ne (by omega)]
                        have k_1380 : MPo I_1366 o := k_1358.fr (by rw [← e_1367, q_u_ne (by omega)]) (by rw [← e_1367, q_u_ne (by omega)])
                        have k_1381 : MTk I_1366 o := k_1359.fr (by rw [← e_1367, q_u_ne (by omega)]) (by rw [← e_1367, q_u_ne (by omega)]) (by rw [← e_1367, q_u_ne (by omega)])
                        have w_1383 : I_1366 (o + 28) = I0 (o + 28) := by rw [← e_1367, q_u_ne (by omega)]; exact w_1360
                        have k_1384 : MTd I_1366 o := by exact MTd.p27 k_1361 e_1367 (by omega)
                        have k_1385 : ReG I_1366 o := by intro h; exact ReS.put (u_1284 (by omega)) (by omega) hm26 hm27 hm30 hm3 hm44 hm45 (by omega) (by omega) e_1344 e_1367 (by omega) (by omega)
                        have l_1386 : (5 : Int32).toInt = 5 := rfl
                        refine ⟨fun c_1387 => ?_, fun c_1387 => ?_⟩
                        · have d_1388 := iLt c_1387
                          replace hg := gt_pos (by first | exact d_1388 | omega) hg
                          unfold fModel_readReform_228
                          replace hg := (eModel_readReform_228).symm.trans hg
                          have g_1389 : (0 : Int) ≤ (I_1366 o 44).toInt ∧ (I_1366 o 44).toInt ≤ 4 := hR_1368.at0 ra 44 (by decide)
                          replace hg := gt_let (y := (I_1366 o 44).toInt) rfl hg
                          refine ⟨tIn (by omega) (by omega), ?_⟩
                          replace hg := gt_let (y := (I_1366 (o + 29) ((I_1366 o 44) : Int32).toNatClampNeg).toInt) rfl hg
                          have l_1390 : (1 : Int32).toInt = 1 := rfl
                          replace hg := gt_let (y := (((I_1366 (o + 29) ((I_1366 o 44) : Int32).toNatClampNeg) + 1) : Int32).toInt) (wAdd_eq ((I_1366 (o + 29) ((I_1366 o 44) : Int32).toNatClampNeg) : Int32) (1 : Int32)) hg
                          refine ⟨tIn (by omega) (by omega), fun I_1391 e_1392 => ?_⟩
                          replace hg := gt_let (y := tI I_1391) (tI_q e_1392) hg
                          have hR_1393 : RI R I_1391 := hR_1368.up ra 29 (by decide) (Or.inl rfl) e_1392 (i_lo _) (i_hi _)
                          have hf_1394 : Fm (fun c => c = o ∨ (o + 26 ≤ c ∧ c < o + 34)) I0 I_1391 := hf_1369.set (by first | rfl | omega | (dsimp only; omega)) e_1392
                          have t_1395 : (I_1391 o 3).toInt = (I_1366 o 3).toInt := by rw [← e_1392, q_u_ne (by omega)]
                          have t_1396 : (I_1391 o 4).toInt = (I_1366 o 4).toInt := by rw [← e_1392, q_u_ne (by omega)]
                          have t_1397 : (I_1391 o 6).toInt = (I_1366 o 6).toInt := by rw [← e_1392, q_u_ne (by omega)]
                          have t_1398 : (I_1391 o 7).toInt = (I_1366 o 7).toInt := by rw [← e_1392, q_u_ne (by omega)]
                          have t_1399 : (I_1391 o 8).toInt = (I_1366 o 8).toInt := by rw [← e_1392, q_u_ne (by omega)]
                          have t_1400 : (I_1391 o 9).toInt = (I_1366 o 9).toInt := by rw [← e_1392, q_u_ne (by omega)]
                          have t_1401 : (I_1391 o 44).toInt = (I_1366 o 44).toInt := by rw [← e_1392, q_u_ne (by omega)]
                          have t_1402 : (I_1391 o 45).toInt = (I_1366 o 45).toInt := by rw [← e_1392, q_u_ne (by omega)]
                          have t_1403 : (I_1391 o 47).toInt = (I_1366 o 47).toInt := by rw [← e_1392, q_u_ne (by omega)]
                          have t_1404 : (I_1391 o 48).toInt = (I_1366 o 48).toInt := by rw [← e_1392, q_u_ne (by omega)]
                          have k_1405 : MPo I_1391 o := k_1380.fr (by rw [← e_1392, q_u_ne (by omega)]) (by rw [← e_1392, q_u_ne (by omega)])
                          have k_1406 : MTk I_1391 o := k_1381.fr (by rw [← e_1392, q_u_ne (by omega)]) (by rw [← e_1392, q_u_ne (by omega)]) (by rw [← e_1392, q_u_ne (by omega)])
                          have k_1407 : MTd I_1391 o := k_1384.fr (by rw [← e_1392]; exact q_u_ne (by omega)) (by rw [← e_1392]; exact q_u_ne (by omega)) (by rw [← e_1392]; exact q_u_ne (by omega))
                          have k_1408 : ReG I_1391 o := k_1385.fr (by rw [← e_1392]; exact q_u_ne (by omega)) (by rw [← e_1392]; exact q_u_ne (by omega)) (by rw [← e_1392]; exact q_u_ne (by omega)) (by rw [← e_1392, q_u_ne (by omega)]) (by rw [← e_1392, q_u_ne (by omega)]) (by rw [← e_1392, q_u_ne (by omega)]) (by rw [← e_1392, q_u_ne (by omega)]) (by rw [← e_1392, q_u_ne (by omega)])
                          have w_1409 : I_1391 (o + 28) = I0 (o + 28) := by rw [← e_1392, q_u_ne (by omega)]; exact w_1383
                          exact (hp _ _ hR_1393 hf_1394 (by first | omega | (intro h; omega) | exact Or.inl rfl | exact Or.inr rfl) (by first | omega | (intro h; omega) | exact Or.inl rfl | exact Or.inr rfl) (by first | omega | (intro h; omega) | exact Or.inl rfl | exact Or.inr rfl) (by first | omega | (intro h; omega) | exact Or.inl rfl | exact Or.inr rfl) (by first | omega | (intro h; omega) | exact Or.inl rfl | exact Or.inr rfl) k_1407 k_1405 k_1406 k_1408 hg.symm)
                        · have d_1410 := iNlt c_1387
                          exfalso; omega
                      · have d_1411 := iEq c_1228
                        have i_1412 := u_1225 (by omega)
                        replace hg := gt_pos (by first | exact d_1411 | omega) hg
                        exact (hp _ _ hR_1203 hf_1206 (by first | omega | (intro h; omega) | exact Or.inl rfl | exact Or.inr rfl) (by first | omega | (intro h; omega) | exact Or.inl rfl | exact Or.inr rfl) (by first | omega | (intro h; omega) | exact Or.inl rfl | exact Or.inr rfl) (by first | omega | (intro h; omega) | exact Or.inl rfl | exact Or.inr rfl) (by first | omega | (intro h; omega) | exact Or.inl rfl | exact Or.inr rfl) k_1218 k_1219 k_1220 (fun h => absurd h (by omega)) hg.symm)
                  · have d_1413 := iNlt c_999
                    exfalso; omega
        · have d_1414 := iNe c_41
          have i_1415 := u_38 (by omega)
          replace hg := gt_neg (by first | exact d_1414 | omega) hg
          unfold fModel_readReform_95
          replace hg := (eModel_readReform_95).symm.trans hg
          have l_1416 : (3 : Int32).toInt = 3 := rfl
          refine ⟨fun c_1417 => ?_, fun c_1417 => ?_⟩
          · have d_1418 := iLt c_1417
            exfalso; omega
          · have d_1419 := iNlt c_1417
            replace hg := gt_neg (by first | exact d_1419 | omega) hg
            have l_1420 : (10 : Int32).toInt = 10 := rfl
            refine ⟨fun c_1421 => ?_, fun c_1421 => ?_⟩
            · have d_1422 := iEq c_1421
              exfalso; omega
            · have d_1423 := iNe c_1421
              replace hg := gt_neg (by first | exact d_1423 | omega) hg
              have g_1424 : (0 : Int) ≤ (I0 o 44).toInt ∧ (I0 o 44).toInt ≤ 4 := hR.at0 ra 44 (by decide)
              replace hg := gt_let (y := (I0 o 44).toInt) rfl hg
              have a_1425 : (10 * (I0 o 44)).toInt = 10 * (I0 o 44).toInt := tMulL rfl (by omega) (by omega)
              replace hg := gt_let (y := ((10 * (I0 o 44)) : Int32).toInt) (by omega) hg
              refine ⟨fun c_1426 => ?_, fun c_1426 => ?_⟩
              · have d_1427 := iLt c_1426
                exfalso; omega
              · have d_1428 := iNlt c_1426
                replace hg := gt_neg (by first | exact d_1428 | omega) hg
                refine ⟨fun c_1429 => ?_, fun c_1429 => ?_⟩
                · have d_1430 := iLt c_1429
                  replace hg := gt_pos (by first | exact d_1430 | omega) hg
                  unfold fModel_readReform_132
                  replace hg := (eModel_readReform_132).symm.trans hg
                  have a_1431 : ((10 * (I0 o 44)) + (3 : Int32)).toInt = (10 * (I0 o 44)).toInt + (3 : Int32).toInt := tAdd (by omega) (by omega)
                  replace hg := gt_let (y := (((10 * (I0 o 44)) + (3 : Int32)) : Int32).toInt) (by omega) hg
                  refine ⟨tIn (by omega) (by omega), ?_⟩
                  have g_1432 : (-1 : Int) ≤ (I0 (o + 26) (((10 * (I0 o 44)) + (3 : Int32)) : Int32).toNatClampNeg).toInt ∧ (I0 (o + 26) (((10 * (I0 o 44)) + (3 : Int32)) : Int32).toNatClampNeg).toInt ≤ 700 := hR.at ra 26 _ (by decide)
                  replace hg := gt_let (y := (I0 (o + 26) (((10 * (I0 o 44)) + (3 : Int32)) : Int32).toNatClampNeg).toInt) rfl hg
                  refine ⟨fun c_1433 => ?_, fun c_1433 => ?_⟩
                  · have d_1434 := iLt c_1433
                    replace hg := gt_pos (by first | exact d_1434 | omega) hg
                    refine y_Model_isGoodg hok hw ra hR (fun r_1435 u_1436 u_1437 u_1438 gn_1439 => ⟨r_1435, I0, L0, rfl, rfl, ?_⟩)
                    replace hg := gt_let gn_1439 hg
                    clear gn_1439
                    have b_1440 : 0 ≤ r_1435.toInt ∧ r_1435.toInt ≤ 1 := u_1436.rg
                    refine ⟨fun c_1441 => ?_, fun c_1441 => ?_⟩
                    · have d_1442 := iNe c_1441
                      have i_1443 := u_1437 (by omega)
                      replace hg := gt_neg (by first | exact d_1442 | omega) hg
                      have tk := hq6.1
                      refine y_Model_nextg hok hw ra hz16 hz17 hz18 hz19 (by first | omega | (intro h; omega) | exact Or.inl rfl | exact Or.inr rfl) hR (fun I_1454 L_1455 hR_1456 fr_1457 kp_1458 u_1445 u_1446 u_1447 u_1448 u_1449 u_1450 u_1451 u_1452 gn_1453 => ⟨I_1454, L_1455, rfl, rfl, ?_⟩)
                      replace hg := gt_b3 gn_1453 hg
                      clear gn_1453
                      have hf_1459 : Fm (fun c => c = o ∨ (o + 26 ≤ c ∧ c < o + 34)) I0 I_1454 := hf.call fr_1457 (fun c hc => by first | exact hc | (dsimp only at hc ⊢; omega) | omega)
                      have t_1460 : (I_1454 o 3).toInt = (I0 o 3).toInt := by rw [kp_1458 3 rfl]
                      have t_1461 : (I_1454 o 4).toInt = (I0 o 4).toInt := by rw [kp_1458 4 rfl]
                      have g_1462 : (0 : Int) ≤ (I_1454 o 6).toInt ∧ (I_1454 o 6).toInt ≤ 1600 := hR_1456.at0 ra 6 (by decide)
                      have g_1463 : (0 : Int) ≤ (I_1454 o 7).toInt ∧ (I_1454 o 7).toInt ≤ 1601 := hR_1456.at0 ra 7 (by decide)
                      have g_1464 : (0 : Int) ≤ (I_1454 o 8).toInt ∧ (I_1454 o 8).toInt ≤ 6 := hR_1456.at0 ra 8 (by decide)
                      have t_1465 : (I_1454 o 44).toInt = (I0 o 44).toInt := by rw [kp_1458 44 rfl]
                      have t_1466 : (I_1454 o 45).toInt = (I0 o 45).toInt := by rw [kp_1458 45 rfl]
                      have t_1467 : (I_1454 o 47).toInt = (I0 o 47).toInt := by rw [kp_1458 47 rfl]
                      have t_1468 : (I_1454 o 48).toInt = (I0 o 48).toInt := by rw [kp_1458 48 rfl]
                      have k_1469 : MTd I_1454 o := hq4.fr (fr_1457 _ (by first | omega | (dsimp only; omega))) (fr_1457 _ (by first | omega | (dsimp only; omega))) (fr_1457 _ (by first | omega | (dsimp only; omega)))
                      have w_1470 : I_1454 (o + 28) = I0 (o + 28) := (fr_1457 (o + 28) (by first | omega | (dsimp only; omega)))
                      have ms := u_1448 (by omega)
                      have k_1471 : ReS I_1454 o := by exact ReS.at hq3 (fr_1457 _ (by first | omega | (dsimp only; omega))) (fr_1457 _ (by first | omega | (dsimp only; omega))) (fr_1457 _ (by first | omega | (dsimp only; omega))) (kp_1458 3 rfl) (by omega) (by omega) (kp_1458 44 rfl) (kp_1458 45 rfl)
                      refine fun I_1472 e_1473 => ?_
                      replace hg := gt_let (y := tI I_1472) (tI_q e_1473) hg
                      have hR_1474 : RI R I_1472 := hR_1456.up0 (k := 49) ra (by decide) (Or.inr hz59) e_1473 (i_lo _) (i_hi _)
                      have hf_1475 : Fm (fun c => c = o ∨ (o + 26 ≤ c ∧ c < o + 34)) I0 I_1472 := hf_1459.set (by first | rfl | omega | (dsimp only; omega)) e_1473
                      have t_1476 : (I_1472 o 3).toInt = (I_1454 o 3).toInt := by rw [← e_1473, q_u_k (by decide)]
                      have t_1477 : (I_1472 o 4).toInt = (I_1454 o 4).toInt := by rw [← e_1473, q_u_k (by decide)]
                      have t_1478 : (I_1472 o 6).toInt = (I_1454 o 6).toInt := by rw [← e_1473, q_u_k (by decide)]
                      have t_1479 : (I_1472 o 7).toInt = (I_1454 o 7).toInt := by rw [← e_1473, q_u_k (by decide)]
                      have t_1480 : (I_1472 o 8).toInt = (I_1454 o 8).toInt := by rw [← e_1473, q_u_k (by decide)]
                      have t_1481 : (I_1472 o 9).toInt = (I_1454 o 9).toInt := by rw [← e_1473, q_u_k (by decide)]
                      have t_1482 : (I_1472 o 44).toInt = (I_1454 o 44).toInt := by rw [← e_1473, q_u_k (by decide)]
                      have t_1483 : (I_1472 o 45).toInt = (I_1454 o 45).toInt := by rw [← e_1473, q_u_k (by decide)]
                      have t_1484 : (I_1472 o 47).toInt = (I_1454 o 47).toInt := by rw [← e_1473, q_u_k (by decide)]
                      have t_1485 : (I_1472 o 48).toInt = (I_1454 o 48).toInt := by rw [← e_1473, q_u_k (by decide)]
                      have k_1486 : MTd I_1472 o := k_1469.fr (by rw [← e_1473]; exact q_u_ne (by omega)) (by rw [← e_1473]; exact q_u_ne (by omega)) (by rw [← e_1473]; exact q_u_ne (by omega))
                      have k_1487 : MPo I_1472 o := u_1451.fr (by rw [← e_1473, q_u_k (by decide)]) (by rw [← e_1473, q_u_k (by decide)])
                      have k_1488 : MTk I_1472 o := u_1452.fr (by rw [← e_1473, q_u_k (by decide)]) (by rw [← e_1473, q_u_k (by decide)]) (by rw [← e_1473, q_u_k (by decide)])
                      have k_1489 : ReS I_1472 o := k_1471.fr (by rw [← e_1473]; exact q_u_ne (by omega)) (by rw [← e_1473]; exact q_u_ne (by omega)) (by rw [← e_1473]; exact q_u_ne (by omega)) (by rw [← e_1473, q_u_k (by decide)]) (by rw [← e_1473, q_u_k (by decide)]) (by rw [← e_1473, q_u_k (by decide)]) (by rw [← e_1473, q_u_k (by decide)])
                      have w_1490 : I_1472 (o + 28) = I0 (o + 28) := by rw [← e_1473, q_u_ne (by omega)]; exact w_1470
                      have g_1491 : (0 : Int) ≤ (I_1472 o 45).toInt ∧ (I_1472 o 45).toInt ≤ 700 := hR_1474.at0 ra 45 (by decide)
                      replace hg := gt_let (y := (I_1472 o 45).toInt) rfl hg
                      refine y_Model_eg hok hw ra hz14 hz15 hz16 hz17 hz18 hz19 hz55 hz56 hz57 hz58 (by first | omega | (intro h; omega) | exact Or.inl rfl | exact Or.inr rfl) (by first | omega | (intro h; omega) | exact Or.inl rfl | exact Or.inr rfl) k_1489 k_1486 k_1487 k_1488 hR_1474 (fun I_1502 L_1503 hR_1504 fr_1505 kp_1506 u_1493 u_1494 u_1495 u_1496 u_1497 u_1498 u_1499 u_1500 gn_1501 => ⟨I_1502, L_1503, rfl, rfl, ?_⟩)
                      replace hg := gt_b3 gn_1501 hg
                      clear gn_1501
                      have hf_1507 : Fm (fun c => c = o ∨ (o + 26 ≤ c ∧ c < o + 34)) I0 I_1502 := hf_1475.call fr_1505 (fun c hc => by first | exact hc | (dsimp only at hc ⊢; omega) | omega)
                      have t_1508 : (I_1502 o 3).toInt = (I_1472 o 3).toInt := by rw [kp_1506 3 rfl]
                      have g_1509 : (0 : Int) ≤ (I_1502 o 4).toInt ∧ (I_1502 o 4).toInt ≤ 5 := hR_1504.at0 ra 4 (by decide)
                      have g_1510 : (0 : Int) ≤ (I_1502 o 6).toInt ∧ (I_1502 o 6).toInt ≤ 1600 := hR_1504.at0 ra 6 (by decide)
                      have g_1511 : (0 : Int) ≤ (I_1502 o 7).toInt ∧ (I_1502 o 7).toInt ≤ 1601 := hR_1504.at0 ra 7 (by decide)
                      have g_1512 : (0 : Int) ≤ (I_1502 o 8).toInt ∧ (I_1502 o 8).toInt ≤ 6 := hR_1504.at0 ra 8 (by decide)
                      have t_1513 : (I_1502 o 44).toInt = (I_1472 o 44).toInt := by rw [kp_1506 44 rfl]
                      have g_1514 : (0 : Int) ≤ (I_1502 o 45).toInt ∧ (I_1502 o 45).toInt ≤ 700 := hR_1504.at0 ra 45 (by decide)
                      have g_1515 : (0 : Int) ≤ (I_1502 o 47).toInt ∧ (I_1502 o 47).toInt ≤ 7 := hR_1504.at0 ra 47 (by decide)
                      have g_1516 : (0 : Int) ≤ (I_1502 o 48).toInt ∧ (I_1502 o 48).toInt ≤ 80 := hR_1504.at0 ra 48 (by decide)
                      have w_1517 : I_1502 (o + 28) = I0 (o + 28) := (fr_1505 (o + 28) (by first | omega | (dsimp only; omega))).trans w_1490
                      have l_1518 : (59 : Int32).toInt = 59 := rfl
                      refine y_Model_isg hok hw ra hR_1504 (fun r_1519 u_1520 u_1521 u_1522 gn_1523 => ⟨r_1519, I_1502, L_1503, rfl, rfl, ?_⟩)
                      replace hg := gt_let gn_1523 hg
                      clear gn_1523
                      have b_1524 : 0 ≤ r_1519.toInt ∧ r_1519.toInt ≤ 1 := u_1520.rg
                      refine y_Model_mustg hok hw ra hz14 hz15 hz16 hz17 hz18 hz19 (by first | omega | (intro h; omega) | exact Or.inl rfl | exact Or.inr rfl) u_1499 u_1500 hR_1504 (fun I_1536 L_1537 hR_1538 fr_1539 kp_1540 u_1526 u_1527 u_1528 u_1529 u_1530 u_1531 u_1532 u_1533 u_1534 gn_1535 => ⟨I_1536, L_1537, rfl, rfl, ?_⟩)
                      replace hg := gt_b3 gn_1535 hg
                      clear gn_1535
                      have hf_1541 : Fm (fun c => c = o ∨ (o + 26 ≤ c ∧ c < o + 34)) I0 I_1536 := hf_1507.call fr_1539 (fun c hc => by first | exact hc | (dsimp only at hc ⊢; omega) | omega)
                      have t_1542 : (I_1536 o 3).toInt = (I_1502 o 3).toInt := by rw [kp_1540 3 rfl]
                      have g_1543 : (0 : Int) ≤ (I_1536 o 4).toInt ∧ (I_1536 o 4).toInt ≤ 5 := hR_1538.at0 ra 4 (by decide)
                      have g_1544 : (0 : Int) ≤ (I_1536 o 6).toInt ∧ (I_1536 o 6).toInt ≤ 1600 := hR_1538.at0 ra 6 (by decide)
                      have g_1545 : (0 : Int) ≤ (I_1536 o 7).toInt ∧ (I_1536 o 7).toInt ≤ 1601 := hR_1538.at0 ra 7 (by decide)
                      have g_1546 : (0 : Int) ≤ (I_1536 o 8).toInt ∧ (I_1536 o 8).toInt ≤ 6 := hR_1538.at0 ra 8 (by decide)
                      have t_1547 : (I_1536 o 44).toInt = (I_1502 o 44).toInt := by rw [kp_1540 44 rfl]
                      have t_1548 : (I_1536 o 45).toInt = (I_1502 o 45).toInt := by rw [kp_1540 45 rfl]
                      have t_1549 : (I_1536 o 47).toInt = (I_1502 o 47).toInt := by rw [kp_1540 47 rfl]
                      have t_1550 : (I_1536 o 48).toInt = (I_1502 o 48).toInt := by rw [kp_1540 48 rfl]
                      have k_1551 : MTd I_1536 o := u_1498.fr (fr_1539 _ (by first | omega | (dsimp only; omega))) (fr_1539 _ (by first | omega | (dsimp only; omega))) (fr_1539 _ (by first | omega | (dsimp only; omega)))
                      have w_1552 : I_1536 (o + 28) = I0 (o + 28) := (fr_1539 (o + 28) (by first | omega | (dsimp only; omega))).trans w_1517
                      have hm26 := fr_1539 (o + 26) (by first | omega | (dsimp only; omega))
                      have hm27 := fr_1539 (o + 27) (by first | omega | (dsimp only; omega))
                      have hm30 := fr_1539 (o + 30) (by first | omega | (dsimp only; omega))
                      have hm3 := kp_1540 3 rfl
                      have hm44 := kp_1540 44 rfl
                      have hm45 := kp_1540 45 rfl
                      have tk2 := u_1534.1
                      have g_1553 : (0 : Int) ≤ (I_1536 o 44).toInt ∧ (I_1536 o 44).toInt ≤ 4 := hR_1538.at0 ra 44 (by decide)
                      replace hg := gt_let (y := (I_1536 o 44).toInt) rfl hg
                      have a_1554 : (10 * (I_1536 o 44)).toInt = 10 * (I_1536 o 44).toInt := tMulL rfl (by omega) (by omega)
                      replace hg := gt_let (y := ((10 * (I_1536 o 44)) : Int32).toInt) (by omega) hg
                      have a_1555 : ((10 * (I_1536 o 44)) + (3 : Int32)).toInt = (10 * (I_1536 o 44)).toInt + (3 : Int32).toInt := tAdd (by omega) (by omega)
                      replace hg := gt_let (y := (((10 * (I_1536 o 44)) + (3 : Int32)) : Int32).toInt) (by omega) hg
                      refine ⟨tIn (by omega) (by omega), fun I_1556 e_1557 => ?_⟩
                      replace hg := gt_let (y := tI I_1556) (tI_q e_1557) hg
                      have hR_1558 : RI R I_1556 := hR_1538.up ra 26 (by decide) (Or.inl rfl) e_1557 (show (-1 : Int) ≤ (I_1472 o 45).toInt by omega) (show (I_1472 o 45).toInt ≤ (700 : Int) by omega)
                      have hf_1559 : Fm (fun c => c = o ∨ (o + 26 ≤ c ∧ c < o + 34)) I0 I_1556 := hf_1541.set (by first | rfl | omega | (dsimp only; omega)) e_1557
                      have t_1560 : (I_1556 o 3).toInt = (I_1536 o 3).toInt := by rw [← e_1557, q_u_ne (by omega)]
                      have t_1561 : (I_1556 o 4).toInt = (I_1536 o 4).toInt := by rw [← e_1557, q_u_ne (by omega)]
                      have t_1562 : (I_1556 o 6).toInt = (I_1536 o 6).toInt := by rw [← e_1557, q_u_ne (by omega)]
                      have t_1563 : (I_1556 o 7).toInt = (I_1536 o 7).toInt := by rw [← e_1557, q_u_ne (by omega)]
                      have t_1564 : (I_1556 o 8).toInt = (I_1536 o 8).toInt := by rw [← e_1557, q_u_ne (by omega)]
                      have t_1565 : (I_1556 o 9).toInt = (I_1536 o 9).toInt := by rw [← e_1557, q_u_ne (by omega)]
                      have t_1566 : (I_1556 o 44).toInt = (I_1536 o 44).toInt := by rw [← e_1557, q_u_ne (by omega)]
                      have t_1567 : (I_1556 o 45).toInt = (I_1536 o 45).toInt := by rw [← e_1557, q_u_ne (by omega)]
                      have t_1568 : (I_1556 o 47).toInt = (I_1536 o 47).toInt := by rw [← e_1557, q_u_ne (by omega)]
                      have t_1569 : (I_1556 o 48).toInt = (I_1536 o 48).toInt := by rw [← e_1557, q_u_ne (by omega)]
                      have k_1571 : MPo I_1556 o := u_1533.fr (by rw [← e_1557, q_u_ne (by omega)]) (by rw [← e_1557, q_u_ne (by omega)])
                      have k_1572 : MTk I_1556 o := u_1534.fr (by rw [← e_1557, q_u_ne (by omega)]) (by rw [← e_1557, q_u_ne (by omega)]) (by rw [← e_1557, q_u_ne (by omega)])
                      have w_1573 : I_1556 (o + 28) = I0 (o + 28) := by rw [← e_1557, q_u_ne (by omega)]; exact w_1552
                      have k_1574 : MTd I_1556 o := by exact MTd.p26 k_1551 e_1557 (by omega)
                      have g_1575 : (0 : Int) ≤ (I_1556 o 44).toInt ∧ (I_1556 o 44).toInt ≤ 4 := hR_1558.at0 ra 44 (by decide)
                      replace hg := gt_let (y := (I_1556 o 44).toInt) rfl hg
                      have a_1576 : (10 * (I_1556 o 44)).toInt = 10 * (I_1556 o 44).toInt := tMulL rfl (by omega) (by omega)
                      replace hg := gt_let (y := ((10 * (I_1556 o 44)) : Int32).toInt) (by omega) hg
                      have a_1577 : ((10 * (I_1556 o 44)) + (3 : Int32)).toInt = (10 * (I_1556 o 44)).toInt + (3 : Int32).toInt := tAdd (by omega) (by omega)
                      replace hg := gt_let (y := (((10 * (I_1556 o 44)) + (3 : Int32)) : Int32).toInt) (by omega) hg
                      have g_1578 : (0 : Int) ≤ (I_1556 o 45).toInt ∧ (I_1556 o 45).toInt ≤ 700 := hR_1558.at0 ra 45 (by decide)
                      replace hg := gt_let (y := (I_1556 o 45).toInt) rfl hg
                      refine ⟨tIn (by omega) (by omega), fun I_1579 e_1580 => ?_⟩
                      replace hg := gt_let (y := tI I_1579) (tI_q e_1580) hg
                      have hR_1581 : RI R I_1579 := hR_1558.up ra 27 (by decide) (Or.inl rfl) e_1580 (show (0 : Int) ≤ (I_1556 o 45).toInt by omega) (show (I_1556 o 45).toInt ≤ (700 : Int) by omega)
                      have hf_1582 : Fm (fun c => c = o ∨ (o + 26 ≤ c ∧ c < o + 34)) I0 I_1579 := hf_1559.set (by first | rfl | omega | (dsimp only; omega)) e_1580
                      have t_1583 : (I_1579 o 3).toInt = (I_1556 o 3).toInt := by rw [← e_1580, q_u_ne (by omega)]
                      have t_1584 : (I_1579 o 4).toInt = (I_1556 o 4).toInt := by rw [← e_1580, q_u_ne (by omega)]
                      have t_1585 : (I_1579 o 6).toInt = (I_1556 o 6).toInt := by rw [← e_1580, q_u_ne (by omega)]
                      have t_1586 : (I_1579 o 7).toInt = (I_1556 o 7).toInt := by rw [← e_1580, q_u_ne (by omega)]
                      have t_1587 : (I_1579 o 8).toInt = (I_1556 o 8).toInt := by rw [← e_1580, q_u_ne (by omega)]
                      have t_1588 : (I_1579 o 9).toInt = (I_1556 o 9).toInt := by rw [← e_1580, q_u_ne (by omega)]
                      have t_1589 : (I_1579 o 44).toInt = (I_1556 o 44).toInt := by rw [← e_1580, q_u_ne (by omega)]
                      have t_1590 : (I_1579 o 45).toInt = (I_1556 o 45).toInt := by rw [← e_1580, q_u_ne (by omega)]
                      have t_1591 : (I_1579 o 47).toInt = (I_1556 o 47).toInt := by rw [← e_1580, q_u_ne (by omega)]
                      have t_1592 : (I_1579 o 48).toInt = (I_1556 o 48).toInt := by rw [← e_1580, q_u_ne (by omega)]
                      have k_1593 : MPo I_1579 o := k_1571.fr (by rw [← e_1580, q_u_ne (by omega)]) (by rw [← e_1580, q_u_ne (by omega)])
                      have k_1594 : MTk I_1579 o := k_1572.fr (by rw [← e_1580, q_u_ne (by omega)]) (by rw [← e_1580, q_u_ne (by omega)]) (by rw [← e_1580, q_u_ne (by omega)])
                      have w_1596 : I_1579 (o + 28) = I0 (o + 28) := by rw [← e_1580, q_u_ne (by omega)]; exact w_1573
                      have k_1597 : MTd I_1579 o := by exact MTd.p27 k_1574 e_1580 (by omega)
                      have k_1598 : ReG I_1579 o := by intro h; exact ReS.put (u_1497 (by omega)) (by omega) hm26 hm27 hm30 hm3 hm44 hm45 (by omega) (by omega) e_1557 e_1580 (by omega) (by omega)
                      have l_1599 : (5 : Int32).toInt = 5 := rfl
                      refine ⟨fun c_1600 => ?_, fun c_1600 => ?_⟩
                      · have d_1601 := iLt c_1600
                        replace hg := gt_pos (by first | exact d_1601 | omega) hg
                        unfold fModel_readReform_228
                        replace hg := (eModel_readReform_228).symm.trans hg
                        have g_1602 : (0 : Int) ≤ (I_1579 o 44).toInt ∧ (I_1579 o 44).toInt ≤ 4 := hR_1581.at0 ra 44 (by decide)
                        replace hg := gt_let (y := (I_1579 o 44).toInt) rfl hg
                        refine ⟨tIn (by omega) (by omega), ?_⟩
                        replace hg := gt_let (y := (I_1579 (o + 29) ((I_1579 o 44) : Int32).toNatClampNeg).toInt) rfl hg
                        have l_1603 : (1 : Int32).toInt = 1 := rfl
                        replace hg := gt_let (y := (((I_1579 (o + 29) ((I_1579 o 44) : Int32).toNatClampNeg) + 1) : Int32).toInt) (wAdd_eq ((I_1579 (o + 29) ((I_1579 o 44) : Int32).toNatClampNeg) : Int32) (1 : Int32)) hg
                        refine ⟨tIn (by omega) (by omega), fun I_1604 e_1605 => ?_⟩
                        replace hg := gt_let (y := tI I_1604) (tI_q e_1605) hg
                        have hR_1606 : RI R I_1604 := hR_1581.up ra 29 (by decide) (Or.inl rfl) e_1605 (i_lo _) (i_hi _)
                        have hf_1607 : Fm (fun c => c = o ∨ (o + 26 ≤ c ∧ c < o + 34)) I0 I_1604 := hf_1582.set (by first | rfl | omega | (dsimp only; omega)) e_1605
                        have t_1608 : (I_1604 o 3).toInt = (I_1579 o 3).toInt := by rw [← e_1605, q_u_ne (by omega)]
                        have t_1609 : (I_1604 o 4).toInt = (I_1579 o 4).toInt := by rw [← e_1605, q_u_ne (by omega)]
                        have t_1610 : (I_1604 o 6).toInt = (I_1579 o 6).toInt := by rw [← e_1605, q_u_ne (by omega)]
                        have t_1611 : (I_1604 o 7).toInt = (I_1579 o 7).toInt := by rw [← e_1605, q_u_ne (by omega)]
                        have t_1612 : (I_1604 o 8).toInt = (I_1579 o 8).toInt := by rw [← e_1605, q_u_ne (by omega)]
                        have t_1613 : (I_1604 o 9).toInt = (I_1579 o 9).toInt := by rw [← e_1605, q_u_ne (by omega)]
                        have t_1614 : (I_1604 o 44).toInt = (I_1579 o 44).toInt := by rw [← e_1605, q_u_ne (by omega)]
                        have t_1615 : (I_1604 o 45).toInt = (I_1579 o 45).toInt := by rw [← e_1605, q_u_ne (by omega)]
                        have t_1616 : (I_1604 o 47).toInt = (I_1579 o 47).toInt := by rw [← e_1605, q_u_ne (by omega)]
                        have t_1617 : (I_1604 o 48).toInt = (I_1579 o 48).toInt := by rw [← e_1605, q_u_ne (by omega)]
                        have k_1618 : MPo I_1604 o := k_1593.fr (by rw [← e_1605, q_u_ne (by omega)]) (by rw [← e_1605, q_u_ne (by omega)])
                        have k_1619 : MTk I_1604 o := k_1594.fr (by rw [← e_1605, q_u_ne (by omega)]) (by rw [← e_1605, q_u_ne (by omega)]) (by rw [← e_1605, q_u_ne (by omega)])
                        have k_1620 : MTd I_1604 o := k_1597.fr (by rw [← e_1605]; exact q_u_ne (by omega)) (by rw [← e_1605]; exact q_u_ne (by omega)) (by rw [← e_1605]; exact q_u_ne (by omega))
                        have k_1621 : ReG I_1604 o := k_1598.fr (by rw [← e_1605]; exact q_u_ne (by omega)) (by rw [← e_1605]; exact q_u_ne (by omega)) (by rw [← e_1605]; exact q_u_ne (by omega)) (by rw [← e_1605, q_u_ne (by omega)]) (by rw [← e_1605, q_u_ne (by omega)]) (by rw [← e_1605, q_u_ne (by omega)]) (by rw [← e_1605, q_u_ne (by omega)]) (by rw [← e_1605, q_u_ne (by omega)])
                        have w_1622 : I_1604 (o + 28) = I0 (o + 28) := by rw [← e_1605, q_u_ne (by omega)]; exact w_1596
                        exact (hp _ _ hR_1606 hf_1607 (by first | omega | (intro h; omega) | exact Or.inl rfl | exact Or.inr rfl) (by first | omega | (intro h; omega) | exact Or.inl rfl | exact Or.inr rfl) (by first | omega | (intro h; omega) | exact Or.inl rfl | exact Or.inr rfl) (by first | omega | (intro h; omega) | exact Or.inl rfl | exact Or.inr rfl) (by first | omega | (intro h; omega) | exact Or.inl rfl | exact Or.inr rfl) k_1620 k_1618 k_1619 k_1621 hg.symm)
                      · have d_1623 := iNlt c_1600
                        exfalso; omega
                    · have d_1624 := iEq c_1441
                      have i_1625 := u_1438 (by omega)
                      replace hg := gt_pos (by first | exact d_1624 | omega) hg
                      exact (hp _ _ hR hf (by first | omega | (intro h; omega) | exact Or.inl rfl | exact Or.inr rfl) (by first | omega | (intro h; omega) | exact Or.inl rfl | exact Or.inr rfl) (by first | omega | (intro h; omega) | exact Or.inl rfl | exact Or.inr rfl) (by first | omega | (intro h; omega) | exact Or.inl rfl | exact Or.inr rfl) (by first | omega | (intro h; omega) | exact Or.inl rfl | exact Or.inr rfl) hq4 hq5 hq6 (fun h => absurd h (by omega)) hg.symm)
                  · have d_1626 := iNlt c_1433
                    replace hg := gt_neg (by first | exact d_1626 | omega) hg
                    refine y_Model_wrongg hok hw ra hz14 hz15 hR (fun I_1631 L_1632 hR_1633 fr_1634 kp_1635 u_1628 u_1629 gn_1630 => ⟨I_1631, L_1632, rfl, rfl, ?_⟩)
                    replace hg := gt_b3 gn_1630 hg
                    clear gn_1630
                    have hf_1636 : Fm (fun c => c = o ∨ (o + 26 ≤ c ∧ c < o + 34)) I0 I_1631 := hf.call fr_1634 (fun c hc => by first | exact hc | (dsimp only at hc ⊢; omega) | omega)
                    have t_1637 : (I_1631 o 3).toInt = (I0 o 3).toInt := by rw [kp_1635 3 rfl]
                    have g_1638 : (0 : Int) ≤ (I_1631 o 4).toInt ∧ (I_1631 o 4).toInt ≤ 5 := hR_1633.at0 ra 4 (by decide)
                    have t_1639 : (I_1631 o 6).toInt = (I0 o 6).toInt := by rw [kp_1635 6 rfl]
                    have t_1640 : (I_1631 o 7).toInt = (I0 o 7).toInt := by rw [kp_1635 7 rfl]
                    have t_1641 : (I_1631 o 8).toInt = (I0 o 8).toInt := by rw [kp_1635 8 rfl]
                    have t_1642 : (I_1631 o 9).toInt = (I0 o 9).toInt := by rw [kp_1635 9 rfl]
                    have t_1643 : (I_1631 o 44).toInt = (I0 o 44).toInt := by rw [kp_1635 44 rfl]
                    have t_1644 : (I_1631 o 45).toInt = (I0 o 45).toInt := by rw [kp_1635 45 rfl]
                    have t_1645 : (I_1631 o 47).toInt = (I0 o 47).toInt := by rw [kp_1635 47 rfl]
                    have t_1646 : (I_1631 o 48).toInt = (I0 o 48).toInt := by rw [kp_1635 48 rfl]
                    have k_1647 : ReS I_1631 o := hq3.fr (fr_1634 _ (by first | omega | (dsimp only; omega))) (fr_1634 _ (by first | omega | (dsimp only; omega))) (fr_1634 _ (by first | omega | (dsimp only; omega))) (kp_1635 3 rfl) (kp_1635 6 rfl) (kp_1635 44 rfl) (kp_1635 45 rfl)
                    have k_1648 : MTd I_1631 o := hq4.fr (fr_1634 _ (by first | omega | (dsimp only; omega))) (fr_1634 _ (by first | omega | (dsimp only; omega))) (fr_1634 _ (by first | omega | (dsimp only; omega)))
                    have k_1649 : MPo I_1631 o := hq5.fr (kp_1635 8 rfl) (kp_1635 9 rfl)
                    have k_1650 : MTk I_1631 o := hq6.fr (kp_1635 6 rfl) (kp_1635 7 rfl) (kp_1635 8 rfl)
                    have w_1651 : I_1631 (o + 28) = I0 (o + 28) := (fr_1634 (o + 28) (by first | omega | (dsimp only; omega)))
                    refine y_Model_isGoodg hok hw ra hR_1633 (fun r_1652 u_1653 u_1654 u_1655 gn_1656 => ⟨r_1652, I_1631, L_1632, rfl, rfl, ?_⟩)
                    replace hg := gt_let gn_1656 hg
                    clear gn_1656
                    have b_1657 : 0 ≤ r_1652.toInt ∧ r_1652.toInt ≤ 1 := u_1653.rg
                    refine ⟨fun c_1658 => ?_, fun c_1658 => ?_⟩
                    · have d_1659 := iNe c_1658
                      have i_1660 := u_1654 (by omega)
                      replace hg := gt_neg (by first | exact d_1659 | omega) hg
                      have tk := k_1650.1
                      refine y_Model_nextg hok hw ra hz16 hz17 hz18 hz19 (by first | omega | (intro h; omega) | exact Or.inl rfl | exact Or.inr rfl) hR_1633 (fun I_1671 L_1672 hR_1673 fr_1674 kp_1675 u_1662 u_1663 u_1664 u_1665 u_1666 u_1667 u_1668 u_1669 gn_1670 => ⟨I_1671, L_1672, rfl, rfl, ?_⟩)
                      replace hg := gt_b3 gn_1670 hg
                      clear gn_1670
                      have hf_1676 : Fm (fun c => c = o ∨ (o + 26 ≤ c ∧ c < o + 34)) I0 I_1671 := hf_1636.call fr_1674 (fun c hc => by first | exact hc | (dsimp only at hc ⊢; omega) | omega)
                      have t_1677 : (I_1671 o 3).toInt = (I_1631 o 3).toInt := by rw [kp_1675 3 rfl]
                      have t_1678 : (I_1671 o 4).toInt = (I_1631 o 4).toInt := by rw [kp_1675 4 rfl]
                      have g_1679 : (0 : Int) ≤ (I_1671 o 6).toInt ∧ (I_1671 o 6).toInt ≤ 1600 := hR_1673.at0 ra 6 (by decide)
                      have g_1680 : (0 : Int) ≤ (I_1671 o 7).toInt ∧ (I_1671 o 7).toInt ≤ 1601 := hR_1673.at0 ra 7 (by decide)
                      have g_1681 : (0 : Int) ≤ (I_1671 o 8).toInt ∧ (I_1671 o 8).toInt ≤ 6 := hR_1673.at0 ra 8 (by decide)
                      have t_1682 : (I_1671 o 44).toInt = (I_1631 o 44).toInt := by rw [kp_1675 44 rfl]
                      have t_1683 : (I_1671 o 45).toInt = (I_1631 o 45).toInt := by rw [kp_1675 45 rfl]
                      have t_1684 : (I_1671 o 47).toInt = (I_1631 o 47).toInt := by rw [kp_1675 47 rfl]
                      have t_1685 : (I_1671 o 48).toInt = (I_1631 o 48).toInt := by rw [kp_1675 48 rfl]
                      have k_1686 : MTd I_1671 o := k_1648.fr (fr_1674 _ (by first | omega | (dsimp only; omega))) (fr_1674 _ (by first | omega | (dsimp only; omega))) (fr_1674 _ (by first | omega | (dsimp only; omega)))
                      have w_1687 : I_1671 (o + 28) = I0 (o + 28) := (fr_1674 (o + 28) (by first | omega | (dsimp only; omega))).trans w_1651
                      have ms := u_1665 (by omega)
                      have k_1688 : ReS I_1671 o := by exact ReS.at k_1647 (fr_1674 _ (by first | omega | (dsimp only; omega))) (fr_1674 _ (by first | omega | (dsimp only; omega))) (fr_1674 _ (by first | omega | (dsimp only; omega))) (kp_1675 3 rfl) (by omega) (by omega) (kp_1675 44 rfl) (kp_1675 45 rfl)
                      refine fun I_1689 e_1690 => ?_
                      replace hg := gt_let (y := tI I_1689) (tI_q e_1690) hg
                      have hR_1691 : RI R I_1689 := hR_1673.up0 (k := 49) ra (by decide) (Or.inr hz59) e_1690 (i_lo _) (i_hi _)
                      have hf_1692 : Fm (fun c => c = o ∨ (o + 26 ≤ c ∧ c < o + 34)) I0 I_1689 := hf_1676.set (by first | rfl | omega | (dsimp only; omega)) e_1690
                      have t_1693 : (I_1689 o 3).toInt = (I_1671 o 3).toInt := by rw [← e_1690, q_u_k (by decide)]
                      have t_1694 : (I_1689 o 4).toInt = (I_1671 o 4).toInt := by rw [← e_1690, q_u_k (by decide)]
                      have t_1695 : (I_1689 o 6).toInt = (I_1671 o 6).toInt := by rw [← e_1690, q_u_k (by decide)]
                      have t_1696 : (I_1689 o 7).toInt = (I_1671 o 7).toInt := by rw [← e_1690, q_u_k (by decide)]
                      have t_1697 : (I_1689 o 8).toInt = (I_1671 o 8).toInt := by rw [← e_1690, q_u_k (by decide)]
                      have t_1698 : (I_1689 o 9).toInt = (I_1671 o 9).toInt := by rw [← e_1690, q_u_k (by decide)]
                      have t_1699 : (I_1689 o 44).toInt = (I_1671 o 44).toInt := by rw [← e_1690, q_u_k (by decide)]
                      have t_1700 : (I_1689 o 45).toInt = (I_1671 o 45).toInt := by rw [← e_1690, q_u_k (by decide)]
                      have t_1701 : (I_1689 o 47).toInt = (I_1671 o 47).toInt := by rw [← e_1690, q_u_k (by decide)]
                      have t_1702 : (I_1689 o 48).toInt = (I_1671 o 48).toInt := by rw [← e_1690, q_u_k (by decide)]
                      have k_1703 : MTd I_1689 o := k_1686.fr (by rw [← e_1690]; exact q_u_ne (by omega)) (by rw [← e_1690]; exact q_u_ne (by omega)) (by rw [← e_1690]; exact q_u_ne (by omega))
                      have k_1704 : MPo I_1689 o := u_1668.fr (by rw [← e_1690, q_u_k (by decide)]) (by rw [← e_1690, q_u_k (by decide)])
                      have k_1705 : MTk I_1689 o := u_1669.fr (by rw [← e_1690, q_u_k (by decide)]) (by rw [← e_1690, q_u_k (by decide)]) (by rw [← e_1690, q_u_k (by decide)])
                      have k_1706 : ReS I_1689 o := k_1688.fr (by rw [← e_1690]; exact q_u_ne (by omega)) (by rw [← e_1690]; exact q_u_ne (by omega)) (by rw [← e_1690]; exact q_u_ne (by omega)) (by rw [← e_1690, q_u_k (by decide)]) (by rw [← e_1690, q_u_k (by decide)]) (by rw [← e_1690, q_u_k (by decide)]) (by rw [← e_1690, q_u_k (by decide)])
                      have w_1707 : I_1689 (o + 28) = I0 (o + 28) := by rw [← e_1690, q_u_ne (by omega)]; exact w_1687
                      have g_1708 : (0 : Int) ≤ (I_1689 o 45).toInt ∧ (I_1689 o 45).toInt ≤ 700 := hR_1691.at0 ra 45 (by decide)
                      replace hg := gt_let (y := (I_1689 o 45).toInt) rfl hg
                      refine y_Model_eg hok hw ra hz14 hz15 hz16 hz17 hz18 hz19 hz55 hz56 hz57 hz58 (by first | omega | (intro h; omega) | exact Or.inl rfl | exact Or.inr rfl) (by first | omega | (intro h; omega) | exact Or.inl rfl | exact Or.inr rfl) k_1706 k_1703 k_1704 k_1705 hR_1691 (fun I_1719 L_1720 hR_1721 fr_1722 kp_1723 u_1710 u_1711 u_1712 u_1713 u_1714 u_1715 u_1716 u_1717 gn_1718 => ⟨I_1719, L_1720, rfl, rfl, ?_⟩)
                      replace hg := gt_b3 gn_1718 hg
                      clear gn_1718
                      have hf_1724 : Fm (fun c => c = o ∨ (o + 26 ≤ c ∧ c < o + 34)) I0 I_1719 := hf_1692.call fr_1722 (fun c hc => by first | exact hc | (dsimp only at hc ⊢; omega) | omega)
                      have t_1725 : (I_1719 o 3).toInt = (I_1689 o 3).toInt := by rw [kp_1723 3 rfl]
                      have g_1726 : (0 : Int) ≤ (I_1719 o 4).toInt ∧ (I_1719 o 4).toInt ≤ 5 := hR_1721.at0 ra 4 (by decide)
                      have g_1727 : (0 : Int) ≤ (I_1719 o 6).toInt ∧ (I_1719 o 6).toInt ≤ 1600 := hR_1721.at0 ra 6 (by decide)
                      have g_1728 : (0 : Int) ≤ (I_1719 o 7).toInt ∧ (I_1719 o 7).toInt ≤ 1601 := hR_1721.at0 ra 7 (by decide)
                      have g_1729 : (0 : Int) ≤ (I_1719 o 8).toInt ∧ (I_1719 o 8).toInt ≤ 6 := hR_1721.at0 ra 8 (by decide)
                      have t_1730 : (I_1719 o 44).toInt = (I_1689 o 44).toInt := by rw [kp_1723 44 rfl]
                      have g_1731 : (0 : Int) ≤ (I_1719 o 45).toInt ∧ (I_1719 o 45).toInt ≤ 700 := hR_1721.at0 ra 45 (by decide)
                      have g_1732 : (0 : Int) ≤ (I_1719 o 47).toInt ∧ (I_1719 o 47).toInt ≤ 7 := hR_1721.at0 ra 47 (by decide)
                      have g_1733 : (0 : Int) ≤ (I_1719 o 48).toInt ∧ (I_1719 o 48).toInt ≤ 80 := hR_1721.at0 ra 48 (by decide)
                      have w_1734 : I_1719 (o + 28) = I0 (o + 28) := (fr_1722 (o + 28) (by first | omega | (dsimp only; omega))).trans w_1707
                      have l_1735 : (59 : Int32).toInt = 59 := rfl
                      refine y_Model_isg hok hw ra hR_1721 (fun r_1736 u_1737 u_1738 u_1739 gn_1740 => ⟨r_1736, I_1719, L_1720, rfl, rfl, ?_⟩)
                      replace hg := gt_let gn_1740 hg
                      clear gn_1740
                      have b_1741 : 0 ≤ r_1736.toInt ∧ r_1736.toInt ≤ 1 := u_1737.rg
                      refine y_Model_mustg hok hw ra hz14 hz15 hz16 hz17 hz18 hz19 (by first | omega | (intro h; omega) | exact Or.inl rfl | exact Or.inr rfl) u_1716 u_1717 hR_1721 (fun I_1753 L_1754 hR_1755 fr_1756 kp_1757 u_1743 u_1744 u_1745 u_1746 u_1747 u_1748 u_1749 u_1750 u_1751 gn_1752 => ⟨I_1753, L_1754, rfl, rfl, ?_⟩)
                      replace hg := gt_b3 gn_1752 hg
                      clear gn_1752
                      have hf_1758 : Fm (fun c => c = o ∨ (o + 26 ≤ c ∧ c < o + 34)) I0 I_1753 := hf_1724.call fr_1756 (fun c hc => by first | exact hc | (dsimp only at hc ⊢; omega) | omega)
                      have t_1759 : (I_1753 o 3).toInt = (I_1719 o 3).toInt := by rw [kp_1757 3 rfl]
                      have g_1760 : (0 : Int) ≤ (I_1753 o 4).toInt ∧ (I_1753 o 4).toInt ≤ 5 := hR_1755.at0 ra 4 (by decide)
                      have g_1761 : (0 : Int) ≤ (I_1753 o 6).toInt ∧ (I_1753 o 6).toInt ≤ 1600 := hR_1755.at0 ra 6 (by decide)
                      have g_1762 : (0 : Int) ≤ (I_1753 o 7).toInt ∧ (I_1753 o 7).toInt ≤ 1601 := hR_1755.at0 ra 7 (by decide)
                      have g_1763 : (0 : Int) ≤ (I_1753 o 8).toInt ∧ (I_1753 o 8).toInt ≤ 6 := hR_1755.at0 ra 8 (by decide)
                      have t_1764 : (I_1753 o 44).toInt = (I_1719 o 44).toInt := by rw [kp_1757 44 rfl]
                      have t_1765 : (I_1753 o 45).toInt = (I_1719 o 45).toInt := by rw [kp_1757 45 rfl]
                      have t_1766 : (I_1753 o 47).toInt = (I_1719 o 47).toInt := by rw [kp_1757 47 rfl]
                      have t_1767 : (I_1753 o 48).toInt = (I_1719 o 48).toInt := by rw [kp_1757 48 rfl]
                      have k_1768 : MTd I_1753 o := u_1715.fr (fr_1756 _ (by first | omega | (dsimp only; omega))) (fr_1756 _ (by first | omega | (dsimp only; omega))) (fr_1756 _ (by first | omega | (dsimp only; omega)))
                      have w_1769 : I_1753 (o + 28) = I0 (o + 28) := (fr_1756 (o + 28) (by first | omega | (dsimp only; omega))).trans w_1734
                      have hm26 := fr_1756 (o + 26) (by first | omega | (dsimp only; omega))
                      have hm27 := fr_1756 (o + 27) (by first | omega | (dsimp only; omega))
                      have hm30 := fr_1756 (o + 30) (by first | omega | (dsimp only; omega))
                      have hm3 := kp_1757 3 rfl
                      have hm44 := kp_1757 44 rfl
                      have hm45 := kp_1757 45 rfl
                      have tk2 := u_1751.1
                      have g_1770 : (0 : Int) ≤ (I_1753 o 44).toInt ∧ (I_1753 o 44).toInt ≤ 4 := hR_1755.at0 ra 44 (by decide)
                      replace hg := gt_let (y := (I_1753 o 44).toInt) rfl hg
                      have a_1771 : (10 * (I_1753 o 44)).toInt = 10 * (I_1753 o 44).toInt := tMulL rfl (by omega) (by omega)
                      replace hg := gt_let (y := ((10 * (I_1753 o 44)) : Int32).toInt) (by omega) hg
                      have a_1772 : ((10 * (I_1753 o 44)) + (3 : Int32)).toInt = (10 * (I_1753 o 44)).toInt + (3 : Int32).toInt := tAdd (by omega) (by omega)
                      replace hg := gt_let (y := (((10 * (I_1753 o 44)) + (3 : Int32)) : Int32).toInt) (by omega) hg
                      refine ⟨tIn (by omega) (by omega), fun I_1773 e_1774 => ?_⟩
                      replace hg := gt_let (y := tI I_1773) (tI_q e_1774) hg
                      have hR_1775 : RI R I_1773 := hR_1755.up ra 26 (by decide) (Or.inl rfl) e_1774 (show (-1 : Int) ≤ (I_1689 o 45).toInt by omega) (show (I_1689 o 45).toInt ≤ (700 : Int) by omega)
                      have hf_1776 : Fm (fun c => c = o ∨ (o + 26 ≤ c ∧ c < o + 34)) I0 I_1773 := hf_1758.set (by first | rfl | omega | (dsimp only; omega)) e_1774
                      have t_1777 : (I_1773 o 3).toInt = (I_1753 o 3).toInt := by rw [← e_1774, q_u_ne (by omega)]
                      have t_1778 : (I_1773 o 4).toInt = (I_1753 o 4).toInt := by rw [← e_1774, q_u_ne (by omega)]
                      have t_1779 : (I_1773 o 6).toInt = (I_1753 o 6).toInt := by rw [← e_1774, q_u_ne (by omega)]
                      have t_1780 : (I_1773 o 7).toInt = (I_1753 o 7).toInt := by rw [← e_1774, q_u_ne (by omega)]
                      have t_1781 : (I_1773 o 8).toInt = (I_1753 o 8).toInt := by rw [← e_1774, q_u_ne (by omega)]
                      have t_1782 : (I_1773 o 9).toInt = (I_1753 o 9).toInt := by rw [← e_1774, q_u_ne (by omega)]
                      have t_1783 : (I_1773 o 44).toInt = (I_1753 o 44).toInt := by rw [← e_1774, q_u_ne (by omega)]
                      have t_1784 : (I_1773 o 45).toInt = (I_1753 o 45).toInt := by rw [← e_1774, q_u_ne (by omega)]
                      have t_1785 : (I_1773 o 47).toInt = (I_1753 o 47).toInt := by rw [← e_1774, q_u_ne (by omega)]
                      have t_1786 : (I_1773 o 48).toInt = (I_1753 o 48).toInt := by rw [← e_1774, q_u_ne (by omega)]
                      have k_1788 : MPo I_1773 o := u_1750.fr (by rw [← e_1774, q_u_ne (by omega)]) (by rw [← e_1774, q_u_ne (by omega)])
                      have k_1789 : MTk I_1773 o := u_1751.fr (by rw [← e_1774, q_u_ne (by omega)]) (by rw [← e_1774, q_u_ne (by omega)]) (by rw [← e_1774, q_u_ne (by omega)])
                      have w_1790 : I_1773 (o + 28) = I0 (o + 28) := by rw [← e_1774, q_u_ne (by omega)]; exact w_1769
                      have k_1791 : MTd I_1773 o := by exact MTd.p26 k_1768 e_1774 (by omega)
                      have g_1792 : (0 : Int) ≤ (I_1773 o 44).toInt ∧ (I_1773 o 44).toInt ≤ 4 := hR_1775.at0 ra 44 (by decide)
                      replace hg := gt_let (y := (I_1773 o 44).toInt) rfl hg
                      have a_1793 : (10 * (I_1773 o 44)).toInt = 10 * (I_1773 o 44).toInt := tMulL rfl (by omega) (by omega)
                      replace hg := gt_let (y := ((10 * (I_1773 o 44)) : Int32).toInt) (by omega) hg
                      have a_1794 : ((10 * (I_1773 o 44)) + (3 : Int32)).toInt = (10 * (I_1773 o 44)).toInt + (3 : Int32).toInt := tAdd (by omega) (by omega)
                      replace hg := gt_let (y := (((10 * (I_1773 o 44)) + (3 : Int32)) : Int32).toInt) (by omega) hg
                      have g_1795 : (0 : Int) ≤ (I_1773 o 45).toInt ∧ (I_1773 o 45).toInt ≤ 700 := hR_1775.at0 ra 45 (by decide)
                      replace hg := gt_let (y := (I_1773 o 45).toInt) rfl hg
                      refine ⟨tIn (by omega) (by omega), fun I_1796 e_1797 => ?_⟩
                      replace hg := gt_let (y := tI I_1796) (tI_q e_1797) hg
                      have hR_1798 : RI R I_1796 := hR_1775.up ra 27 (by decide) (Or.inl rfl) e_1797 (show (0 : Int) ≤ (I_1773 o 45).toInt by omega) (show (I_1773 o 45).toInt ≤ (700 : Int) by omega)
                      have hf_1799 : Fm (fun c => c = o ∨ (o + 26 ≤ c ∧ c < o + 34)) I0 I_1796 := hf_1776.set (by first | rfl | omega | (dsimp only; omega)) e_1797
                      have t_1800 : (I_1796 o 3).toInt = (I_1773 o 3).toInt := by rw [← e_1797, q_u_ne (by omega)]
                      have t_1801 : (I_1796 o 4).toInt = (I_1773 o 4).toInt := by rw [← e_1797, q_u_ne (by omega)]
                      have t_1802 : (I_1796 o 6).toInt = (I_1773 o 6).toInt := by rw [← e_1797, q_u_ne (by omega)]
                      have t_1803 : (I_1796 o 7).toInt = (I_1773 o 7).toInt := by rw [← e_1797, q_u_ne (by omega)]
                      have t_1804 : (I_1796 o 8).toInt = (I_1773 o 8).toInt := by rw [← e_1797, q_u_ne (by omega)]
                      have t_1805 : (I_1796 o 9).toInt = (I_1773 o 9).toInt := by rw [← e_1797, q_u_ne (by omega)]
                      have t_1806 : (I_1796 o 44).toInt = (I_1773 o 44).toInt := by rw [← e_1797, q_u_ne (by omega)]
                      have t_1807 : (I_1796 o 45).toInt = (I_1773 o 45).toInt := by rw [← e_1797, q_u_ne (by omega)]
                      have t_1808 : (I_1796 o 47).toInt = (I_1773 o 47).toInt := by rw [← e_1797, q_u_ne (by omega)]
                      have t_1809 : (I_1796 o 48).toInt = (I_1773 o 48).toInt := by rw [← e_1797, q_u_ne (by omega)]
                      have k_1810 : MPo I_1796 o := k_1788.fr (by rw [← e_1797, q_u_ne (by omega)]) (by rw [← e_1797, q_u_ne (by omega)])
                      have k_1811 : MTk I_1796 o := k_1789.fr (by rw [← e_1797, q_u_ne (by omega)]) (by rw [← e_1797, q_u_ne (by omega)]) (by rw [← e_1797, q_u_ne (by omega)])
                      have w_1813 : I_1796 (o + 28) = I0 (o + 28) := by rw [← e_1797, q_u_ne (by omega)]; exact w_1790
                      have k_1814 : MTd I_1796 o := by exact MTd.p27 k_1791 e_1797 (by omega)
                      have k_1815 : ReG I_1796 o := by intro h; exact ReS.put (u_1714 (by omega)) (by omega) hm26 hm27 hm30 hm3 hm44 hm45 (by omega) (by omega) e_1774 e_1797 (by omega) (by omega)
                      have l_1816 : (5 : Int32).toInt = 5 := rfl
                      refine ⟨fun c_1817 => ?_, fun c_1817 => ?_⟩
                      · have d_1818 := iLt c_1817
                        replace hg := gt_pos (by first | exact d_1818 | omega) hg
                        unfold fModel_readReform_228
                        replace hg := (eModel_readReform_228).symm.trans hg
                        have g_1819 : (0 : Int) ≤ (I_1796 o 44).toInt ∧ (I_1796 o 44).toInt ≤ 4 := hR_1798.at0 ra 44 (by decide)
                        replace hg := gt_let (y := (I_1796 o 44).toInt) rfl hg
                        refine ⟨tIn (by omega) (by omega), ?_⟩
                        replace hg := gt_let (y := (I_1796 (o + 29) ((I_1796 o 44) : Int32).toNatClampNeg).toInt) rfl hg
                        have l_1820 : (1 : Int32).toInt = 1 := rfl
                        replace hg := gt_let (y := (((I_1796 (o + 29) ((I_1796 o 44) : Int32).toNatClampNeg) + 1) : Int32).toInt) (wAdd_eq ((I_1796 (o + 29) ((I_1796 o 44) : Int32).toNatClampNeg) : Int32) (1 : Int32)) hg
                        refine ⟨tIn (by omega) (by omega), fun I_1821 e_1822 => ?_⟩
                        replace hg := gt_let (y := tI I_1821) (tI_q e_1822) hg
                        have hR_1823 : RI R I_1821 := hR_1798.up ra 29 (by decide) (Or.inl rfl) e_1822 (i_lo _) (i_hi _)
                        have hf_1824 : Fm (fun c => c = o ∨ (o + 26 ≤ c ∧ c < o + 34)) I0 I_1821 := hf_1799.set (by first | rfl | omega | (dsimp only; omega)) e_1822
                        have t_1825 : (I_1821 o 3).toInt = (I_1796 o 3).toInt := by rw [← e_1822, q_u_ne (by omega)]
                        have t_1826 : (I_1821 o 4).toInt = (I_1796 o 4).toInt := by rw [← e_1822, q_u_ne (by omega)]
                        have t_1827 : (I_1821 o 6).toInt = (I_1796 o 6).toInt := by rw [← e_1822, q_u_ne (by omega)]
                        have t_1828 : (I_1821 o 7).toInt = (I_1796 o 7).toInt := by rw [← e_1822, q_u_ne (by omega)]
                        have t_1829 : (I_1821 o 8).toInt = (I_1796 o 8).toInt := by rw [← e_1822, q_u_ne (by omega)]
                        have t_1830 : (I_1821 o 9).toInt = (I_1796 o 9).toInt := by rw [← e_1822, q_u_ne (by omega)]
                        have t_1831 : (I_1821 o 44).toInt = (I_1796 o 44).toInt := by rw [← e_1822, q_u_ne (by omega)]
                        have t_1832 : (I_1821 o 45).toInt = (I_1796 o 45).toInt := by rw [← e_1822, q_u_ne (by omega)]
                        have t_1833 : (I_1821 o 47).toInt = (I_1796 o 47).toInt := by rw [← e_1822, q_u_ne (by omega)]
                        have t_1834 : (I_1821 o 48).toInt = (I_1796 o 48).toInt := by rw [← e_1822, q_u_ne (by omega)]
                        have k_1835 : MPo I_1821 o := k_1810.fr (by rw [← e_1822, q_u_ne (by omega)]) (by rw [← e_1822, q_u_ne (by omega)])
                        have k_1836 : MTk I_1821 o := k_1811.fr (by rw [← e_1822, q_u_ne (by omega)]) (by rw [← e_1822, q_u_ne (by omega)]) (by rw [← e_1822, q_u_ne (by omega)])
                        have k_1837 : MTd I_1821 o := k_1814.fr (by rw [← e_1822]; exact q_u_ne (by omega)) (by rw [← e_1822]; exact q_u_ne (by omega)) (by rw [← e_1822]; exact q_u_ne (by omega))
                        have k_1838 : ReG I_1821 o := k_1815.fr (by rw [← e_1822]; exact q_u_ne (by omega)) (by rw [← e_1822]; exact q_u_ne (by omega)) (by rw [← e_1822]; exact q_u_ne (by omega)) (by rw [← e_1822, q_u_ne (by omega)]) (by rw [← e_1822, q_u_ne (by omega)]) (by rw [← e_1822, q_u_ne (by omega)]) (by rw [← e_1822, q_u_ne (by omega)]) (by rw [← e_1822, q_u_ne (by omega)])
                        have w_1839 : I_1821 (o + 28) = I0 (o + 28) := by rw [← e_1822, q_u_ne (by omega)]; exact w_1813
                        exact (hp _ _ hR_1823 hf_1824 (by first | omega | (intro h; omega) | exact Or.inl rfl | exact Or.inr rfl) (by first | omega | (intro h; omega) | exact Or.inl rfl | exact Or.inr rfl) (by first | omega | (intro h; omega) | exact Or.inl rfl | exact Or.inr rfl) (by first | omega | (intro h; omega) | exact Or.inl rfl | exact Or.inr rfl) (by first | omega | (intro h; omega) | exact Or.inl rfl | exact Or.inr rfl) k_1837 k_1835 k_1836 k_1838 hg.symm)
                      · have d_1840 := iNlt c_1817
                        exfalso; omega
                    · have d_1841 := iEq c_1658
                      have i_1842 := u_1655 (by omega)
                      replace hg := gt_pos (by first | exact d_1841 | omega) hg
                      exact (hp _ _ hR_1633 hf_1636 (by first | omega | (intro h; omega) | exact Or.inl rfl | exact Or.inr rfl) (by first | omega | (intro h; omega) | exact Or.inl rfl | exact Or.inr rfl) (by first | omega | (intro h; omega) | exact Or.inl rfl | exact Or.inr rfl) (by first | omega | (intro h; omega) | exact Or.inl rfl | exact Or.inr rfl) (by first | omega | (intro h; omega) | exact Or.inl rfl | exact Or.inr rfl) k_1648 k_1649 k_1650 (fun h => absurd h (by omega)) hg.symm)
                · have d_1843 := iNlt c_1429
                  exfalso; omega
      · have d_1844 := iNe c_33
        have i_1845 := u_30 (by omega)
        replace hg := gt_neg (by first | exact d_1844 | omega) hg
        unfold fModel_readReform_95
        replace hg := (eModel_readReform_95).symm.trans hg
        have l_1846 : (2 : Int32).toInt = 2 := rfl
        refine ⟨fun c_1847 => ?_, fun c_1847 => ?_⟩
        · have d_1848 := iLt c_1847
          exfalso; omega
        · have d_1849 := iNlt c_1847
          replace hg := gt_neg (by first | exact d_1849 | omega) hg
          have l_1850 : (10 : Int32).toInt = 10 := rfl
          refine ⟨fun c_1851 => ?_, fun c_1851 => ?_⟩
          · have d_1852 := iEq c_1851
            exfalso; omega
          · have d_1853 := iNe c_1851
            replace hg := gt_neg (by first | exact d_1853 | omega) hg
            have g_1854 : (0 : Int) ≤ (I0 o 44).toInt ∧ (I0 o 44).toInt ≤ 4 := hR.at0 ra 44 (by decide)
            replace hg := gt_let (y := (I0 o 44).toInt) rfl hg
            have a_1855 : (10 * (I0 o 44)).toInt = 10 * (I0 o 44).toInt := tMulL rfl (by omega) (by omega)
            replace hg := gt_let (y := ((10 * (I0 o 44)) : Int32).toInt) (by omega) hg
            refine ⟨fun c_1856 => ?_, fun c_1856 => ?_⟩
            · have d_1857 := iLt c_1856
              exfalso; omega
            · have d_1858 := iNlt c_1856
              replace hg := gt_neg (by first | exact d_1858 | omega) hg
              refine ⟨fun c_1859 => ?_, fun c_1859 => ?_⟩
              · have d_1860 := iLt c_1859
                replace hg := gt_pos (by first | exact d_1860 | omega) hg
                unfold fModel_readReform_132
                replace hg := (eModel_readReform_132).symm.trans hg
                have a_1861 : ((10 * (I0 o 44)) + (2 : Int32)).toInt = (10 * (I0 o 44)).toInt + (2 : Int32).toInt := tAdd (by omega) (by omega)
                replace hg := gt_let (y := (((10 * (I0 o 44)) + (2 : Int32)) : Int32).toInt) (by omega) hg
                refine ⟨tIn (by omega) (by omega), ?_⟩
                have g_1862 : (-1 : Int) ≤ (I0 (o + 26) (((10 * (I0 o 44)) + (2 : Int32)) : Int32).toNatClampNeg).toInt ∧ (I0 (o + 26) (((10 * (I0 o 44)) + (2 : Int32)) : Int32).toNatClampNeg).toInt ≤ 700 := hR.at ra 26 _ (by decide)
                replace hg := gt_let (y := (I0 (o + 26) (((10 * (I0 o 44)) + (2 : Int32)) : Int32).toNatClampNeg).toInt) rfl hg
                refine ⟨fun c_1863 => ?_, fun c_1863 => ?_⟩
                · have d_1864 := iLt c_1863
                  replace hg := gt_pos (by first | exact d_1864 | omega) hg
                  refine y_Model_isGoodg hok hw ra hR (fun r_1865 u_1866 u_1867 u_1868 gn_1869 => ⟨r_1865, I0, L0, rfl, rfl, ?_⟩)
                  replace hg := gt_let gn_1869 hg
                  clear gn_1869
                  have b_1870 : 0 ≤ r_1865.toInt ∧ r_1865.toInt ≤ 1 := u_1866.rg
                  refine ⟨fun c_1871 => ?_, fun c_1871 => ?_⟩
                  · have d_1872 := iNe c_1871
                    have i_1873 := u_1867 (by omega)
                    replace hg := gt_neg (by first | exact d_1872 | omega) hg
                    have tk := hq6.1
                    refine y_Model_nextg hok hw ra hz16 hz17 hz18 hz19 (by first | omega | (intro h; omega) | exact Or.inl rfl | exact Or.inr rfl) hR (fun I_1884 L_1885 hR_1886 fr_1887 kp_1888 u_1875 u_1876 u_1877 u_1878 u_1879 u_1880 u_1881 u_1882 gn_1883 => ⟨I_1884, L_1885, rfl, rfl, ?_⟩)
                    replace hg := gt_b3 gn_1883 hg
                    clear gn_1883
                    have hf_1889 : Fm (fun c => c = o ∨ (o + 26 ≤ c ∧ c < o + 34)) I0 I_1884 := hf.call fr_1887 (fun c hc => by first | exact hc | (dsimp only at hc ⊢; omega) | omega)
                    have t_1890 : (I_1884 o 3).toInt = (I0 o 3).toInt := by rw [kp_1888 3 rfl]
                    have t_1891 : (I_1884 o 4).toInt = (I0 o 4).toInt := by rw [kp_1888 4 rfl]
                    have g_1892 : (0 : Int) ≤ (I_1884 o 6).toInt ∧ (I_1884 o 6).toInt ≤ 1600 := hR_1886.at0 ra 6 (by decide)
                    have g_1893 : (0 : Int) ≤ (I_1884 o 7).toInt ∧ (I_1884 o 7).toInt ≤ 1601 := hR_1886.at0 ra 7 (by decide)
                    have g_1894 : (0 : Int) ≤ (I_1884 o 8).toInt ∧ (I_1884 o 8).toInt ≤ 6 := hR_1886.at0 ra 8 (by decide)
                    have t_1895 : (I_1884 o 44).toInt = (I0 o 44).toInt := by rw [kp_1888 44 rfl]
                    have t_1896 : (I_1884 o 45).toInt = (I0 o 45).toInt := by rw [kp_1888 45 rfl]
                    have t_1897 : (I_1884 o 47).toInt = (I0 o 47).toInt := by rw [kp_1888 47 rfl]
                    have t_1898 : (I_1884 o 48).toInt = (I0 o 48).toInt := by rw [kp_1888 48 rfl]
                    have k_1899 : MTd I_1884 o := hq4.fr (fr_1887 _ (by first | omega | (dsimp only; omega))) (fr_1887 _ (by first | omega | (dsimp only; omega))) (fr_1887 _ (by first | omega | (dsimp only; omega)))
                    have w_1900 : I_1884 (o + 28) = I0 (o + 28) := (fr_1887 (o + 28) (by first | omega | (dsimp only; omega)))
                    have ms := u_1878 (by omega)
                    have k_1901 : ReS I_1884 o := by exact ReS.at hq3 (fr_1887 _ (by first | omega | (dsimp only; omega))) (fr_1887 _ (by first | omega | (dsimp only; omega))) (fr_1887 _ (by first | omega | (dsimp only; omega))) (kp_1888 3 rfl) (by omega) (by omega) (kp_1888 44 rfl) (kp_1888 45 rfl)
                    refine fun I_1902 e_1903 => ?_
                    replace hg := gt_let (y := tI I_1902) (tI_q e_1903) hg
                    have hR_1904 : RI R I_1902 := hR_1886.up0 (k := 49) ra (by decide) (Or.inr hz59) e_1903 (i_lo _) (i_hi _)
                    have hf_1905 : Fm (fun c => c = o ∨ (o + 26 ≤ c ∧ c < o + 34)) I0 I_1902 := hf_1889.set (by first | rfl | omega | (dsimp only; omega)) e_1903
                    have t_1906 : (I_1902 o 3).toInt = (I_1884 o 3).toInt := by rw [← e_1903, q_u_k (by decide)]
                    have t_1907 : (I_1902 o 4).toInt = (I_1884 o 4).toInt := by rw [← e_1903, q_u_k (by decide)]
                    have t_1908 : (I_1902 o 6).toInt = (I_1884 o 6).toInt := by rw [← e_1903, q_u_k (by decide)]
                    have t_1909 : (I_1902 o 7).toInt = (I_1884 o 7).toInt := by rw [← e_1903, q_u_k (by decide)]
                    have t_1910 : (I_1902 o 8).toInt = (I_1884 o 8).toInt := by rw [← e_1903, q_u_k (by decide)]
                    have t_1911 : (I_1902 o 9).toInt = (I_1884 o 9).toInt := by rw [← e_1903, q_u_k (by decide)]
                    have t_1912 : (I_1902 o 44).toInt = (I_1884 o 44).toInt := by rw [← e_1903, q_u_k (by decide)]
                    have t_1913 : (I_1902 o 45).toInt = (I_1884 o 45).toInt := by rw [← e_1903, q_u_k (by decide)]
                    have t_1914 : (I_1902 o 47).toInt = (I_1884 o 47).toInt := by rw [← e_1903, q_u_k (by decide)]
                    have t_1915 : (I_1902 o 48).toInt = (I_1884 o 48).toInt := by rw [← e_1903, q_u_k (by decide)]
                    have k_1916 : MTd I_1902 o := k_1899.fr (by rw [← e_1903]; exact q_u_ne (by omega)) (by rw [← e_1903]; exact q_u_ne (by omega)) (by rw [← e_1903]; exact q_u_ne (by omega))
                    have k_1917 : MPo I_1902 o := u_1881.fr (by rw [← e_1903, q_u_k (by decide)]) (by rw [← e_1903, q_u_k (by decide)])
                    have k_1918 : MTk I_1902 o := u_1882.fr (by rw [← e_1903, q_u_k (by decide)]) (by rw [← e_1903, q_u_k (by decide)]) (by rw [← e_1903, q_u_k (by decide)])
                    have k_1919 : ReS I_1902 o := k_1901.fr (by rw [← e_1903]; exact q_u_ne (by omega)) (by rw [← e_1903]; exact q_u_ne (by omega)) (by rw [← e_1903]; exact q_u_ne (by omega)) (by rw [← e_1903, q_u_k (by decide)]) (by rw [← e_1903, q_u_k (by decide)]) (by rw [← e_1903, q_u_k (by decide)]) (by rw [← e_1903, q_u_k (by decide)])
                    have w_1920 : I_1902 (o + 28) = I0 (o + 28) := by rw [← e_1903, q_u_ne (by omega)]; exact w_1900
                    have g_1921 : (0 : Int) ≤ (I_1902 o 45).toInt ∧ (I_1902 o 45).toInt ≤ 700 := hR_1904.at0 ra 45 (by decide)
                    replace hg := gt_let (y := (I_1902 o 45).toInt) rfl hg
                    refine y_Model_eg hok hw ra hz14 hz15 hz16 hz17 hz18 hz19 hz55 hz56 hz57 hz58 (by first | omega | (intro h; omega) | exact Or.inl rfl | exact Or.inr rfl) (by first | omega | (intro h; omega) | exact Or.inl rfl | exact Or.inr rfl) k_1919 k_1916 k_1917 k_1918 hR_1904 (fun I_1932 L_1933 hR_1934 fr_1935 kp_1936 u_1923 u_1924 u_1925 u_1926 u_1927 u_1928 u_1929 u_1930 gn_1931 => ⟨I_1932, L_1933, rfl, rfl, ?_⟩)
                    replace hg := gt_b3 gn_1931 hg
                    clear gn_1931
                    have hf_1937 : Fm (fun c => c = o ∨ (o + 26 ≤ c ∧ c < o + 34)) I0 I_1932 := hf_1905.call fr_1935 (fun c hc => by first | exact hc | (dsimp only at hc ⊢; omega) | omega)
                    have t_1938 : (I_1932 o 3).toInt = (I_1902 o 3).toInt := by rw [kp_1936 3 rfl]
                    have g_1939 : (0 : Int) ≤ (I_1932 o 4).toInt ∧ (I_1932 o 4).toInt ≤ 5 := hR_1934.at0 ra 4 (by decide)
                    have g_1940 : (0 : Int) ≤ (I_1932 o 6).toInt ∧ (I_1932 o 6).toInt ≤ 1600 := hR_1934.at0 ra 6 (by decide)
                    have g_1941 : (0 : Int) ≤ (I_1932 o 7).toInt ∧ (I_1932 o 7).toInt ≤ 1601 := hR_1934.at0 ra 7 (by decide)
                    have g_1942 : (0 : Int) ≤ (I_1932 o 8).toInt ∧ (I_1932 o 8).toInt ≤ 6 := hR_1934.at0 ra 8 (by decide)
                    have t_1943 : (I_1932 o 44).toInt = (I_1902 o 44).toInt := by rw [kp_1936 44 rfl]
                    have g_1944 : (0 : Int) ≤ (I_1932 o 45).toInt ∧ (I_1932 o 45).toInt ≤ 700 := hR_1934.at0 ra 45 (by decide)
                    have g_1945 : (0 : Int) ≤ (I_1932 o 47).toInt ∧ (I_1932 o 47).toInt ≤ 7 := hR_1934.at0 ra 47 (by decide)
                    have g_1946 : (0 : Int) ≤ (I_1932 o 48).toInt ∧ (I_1932 o 48).toInt ≤ 80 := hR_1934.at0 ra 48 (by decide)
                    have w_1947 : I_1932 (o + 28) = I0 (o + 28) := (fr_1935 (o + 28) (by first | omega | (dsimp only; omega))).trans w_1920
                    have l_1948 : (59 : Int32).toInt = 59 := rfl
                    refine y_Model_isg hok hw ra hR_1934 (fun r_1949 u_1950 u_1951 u_1952 gn_1953 => ⟨r_1949, I_1932, L_1933, rfl, rfl, ?_⟩)
                    replace hg := gt_let gn_1953 hg
                    clear gn_1953
                    have b_1954 : 0 ≤ r_1949.toInt ∧ r_1949.toInt ≤ 1 := u_1950.rg
                    refine y_Model_mustg hok hw ra hz14 hz15 hz16 hz17 hz18 hz19 (by first | omega | (intro h; omega) | exact Or.inl rfl | exact Or.inr rfl) u_1929 u_1930 hR_1934 (fun I_1966 L_1967 hR_1968 fr_1969 kp_1970 u_1956 u_1957 u_1958 u_1959 u_1960 u_1961 u_1962 u_1963 u_1964 gn_1965 => ⟨I_1966, L_1967, rfl, rfl, ?_⟩)
                    replace hg := gt_b3 gn_1965 hg
                    clear gn_1965
                    have hf_1971 : Fm (fun c => c = o ∨ (o + 26 ≤ c ∧ c < o + 34)) I0 I_1966 := hf_1937.call fr_1969 (fun c hc => by first | exact hc | (dsimp only at hc ⊢; omega) | omega)
                    have t_1972 : (I_1966 o 3).toInt = (I_1932 o 3).toInt := by rw [kp_1970 3 rfl]
                    have g_1973 : (0 : Int) ≤ (I_1966 o 4).toInt ∧ (I_1966 o 4).toInt ≤ 5 := hR_1968.at0 ra 4 (by decide)
                    have g_1974 : (0 : Int) ≤ (I_1966 o 6).toInt ∧ (I_1966 o 6).toInt ≤ 1600 := hR_1968.at0 ra 6 (by decide)
                    have g_1975 : (0 : Int) ≤ (I_1966 o 7).toInt ∧ (I_1966 o 7).toInt ≤ 1601 := hR_1968.at0 ra 7 (by decide)
                    have g_1976 : (0 : Int) ≤ (I_1966 o 8).toInt ∧ (I_1966 o 8).toInt ≤ 6 := hR_1968.at0 ra 8 (by decide)
                    have t_1977 : (I_1966 o 44).toInt = (I_1932 o 44).toInt := by rw [kp_1970 44 rfl]
                    have t_1978 : (I_1966 o 45).toInt = (I_1932 o 45).toInt := by rw [kp_1970 45 rfl]
                    have t_1979 : (I_1966 o 47).toInt = (I_1932 o 47).toInt := by rw [kp_1970 47 rfl]
                    have t_1980 : (I_1966 o 48).toInt = (I_1932 o 48).toInt := by rw [kp_1970 48 rfl]
                    have k_1981 : MTd I_1966 o := u_1928.fr (fr_1969 _ (by first | omega | (dsimp only; omega))) (fr_1969 _ (by first | omega | (dsimp only; omega))) (fr_1969 _ (by first | omega | (dsimp only; omega)))
                    have w_1982 : I_1966 (o + 28) = I0 (o + 28) := (fr_1969 (o + 28) (by first | omega | (dsimp only; omega))).trans w_1947
                    have hm26 := fr_1969 (o + 26) (by first | omega | (dsimp only; omega))
                    have hm27 := fr_1969 (o + 27) (by first | omega | (dsimp only; omega))
                    have hm30 := fr_1969 (o + 30) (by first | omega | (dsimp only; omega))
                    have hm3 := kp_1970 3 rfl
                    have hm44 := kp_1970 44 rfl
                    have hm45 := kp_1970 45 rfl
                    have tk2 := u_1964.1
                    have g_1983 : (0 : Int) ≤ (I_1966 o 44).toInt ∧ (I_1966 o 44).toInt ≤ 4 := hR_1968.at0 ra 44 (by decide)
                    replace hg := gt_let (y := (I_1966 o 44).toInt) rfl hg
                    have a_1984 : (10 * (I_1966 o 44)).toInt = 10 * (I_1966 o 44).toInt := tMulL rfl (by omega) (by omega)
                    replace hg := gt_let (y := ((10 * (I_1966 o 44)) : Int32).toInt) (by omega) hg
                    have a_1985 : ((10 * (I_1966 o 44)) + (2 : Int32)).toInt = (10 * (I_1966 o 44)).toInt + (2 : Int32).toInt := tAdd (by omega) (by omega)
                    replace hg := gt_let (y := (((10 * (I_1966 o 44)) + (2 : Int32)) : Int32).toInt) (by omega) hg
                    refine ⟨tIn (by omega) (by omega), fun I_1986 e_1987 => ?_⟩
                    replace hg := gt_let (y := tI I_1986) (tI_q e_1987) hg
                    have hR_1988 : RI R I_1986 := hR_1968.up ra 26 (by decide) (Or.inl rfl) e_1987 (show (-1 : Int) ≤ (I_1902 o 45).toInt by omega) (show (I_1902 o 45).toInt ≤ (700 : Int) by omega)
                    have hf_1989 : Fm (fun c => c = o ∨ (o + 26 ≤ c ∧ c < o + 34)) I0 I_1986 := hf_1971.set (by first | rfl | omega | (dsimp only; omega)) e_1987
                    have t_1990 : (I_1986 o 3).toInt = (I_1966 o 3).toInt := by rw [← e_1987, q_u_ne (by omega)]
                    have t_1991 : (I_1986 o 4).toInt = (I_1966 o 4).toInt := by rw [← e_1987, q_u_ne (by omega)]
                    have t_1992 : (I_1986 o 6).toInt = (I_1966 o 6).toInt := by rw [← e_1987, q_u_ne (by omega)]
                    have t_1993 : (I_1986 o 7).toInt = (I_1966 o 7).toInt := by rw [← e_1987, q_u_ne (by omega)]
                    have t_1994 : (I_1986 o 8).toInt = (I_1966 o 8).toInt := by rw [← e_1987, q_u_ne (by omega)]
                    have t_1995 : (I_1986 o 9).toInt = (I_1966 o 9).toInt := by rw [← e_1987, q_u_ne (by omega)]
                    have t_1996 : (I_1986 o 44).toInt = (I_1966 o 44).toInt := by rw [← e_1987, q_u_ne (by omega)]
                    have t_1997 : (I_1986 o 45).toInt = (I_1966 o 45).toInt := by rw [← e_1987, q_u_ne (by omega)]
                    have t_1998 : (I_1986 o 47).toInt = (I_1966 o 47).toInt := by rw [← e_1987, q_u_ne (by omega)]
                    have t_1999 : (I_1986 o 48).toInt = (I_1966 o 48).toInt := by rw [← e_1987, q_u_ne (by omega)]
                    have k_2001 : MPo I_1986 o := u_1963.fr (by rw [← e_1987, q_u_ne (by omega)]) (by rw [← e_1987, q_u_ne (by omega)])
                    have k_2002 : MTk I_1986 o := u_1964.fr (by rw [← e_1987, q_u_ne (by omega)]) (by rw [← e_1987, q_u_ne (by omega)]) (by rw [← e_1987, q_u_ne (by omega)])
                    have w_2003 : I_1986 (o + 28) = I0 (o + 28) := by rw [← e_1987, q_u_ne (by omega)]; exact w_1982
                    have k_2004 : MTd I_1986 o := by exact MTd.p26 k_1981 e_1987 (by omega)
                    have g_2005 : (0 : Int) ≤ (I_1986 o 44).toInt ∧ (I_1986 o 44).toInt ≤ 4 := hR_1988.at0 ra 44 (by decide)
                    replace hg := gt_let (y := (I_1986 o 44).toInt) rfl hg
                    have a_2006 : (10 * (I_1986 o 44)).toInt = 10 * (I_1986 o 44).toInt := tMulL rfl (by omega) (by omega)
                    replace hg := gt_let (y := ((10 * (I_1986 o 44)) : Int32).toInt) (by omega) hg
                    have a_2007 : ((10 * (I_1986 o 44)) + (2 : Int32)).toInt = (10 * (I_1986 o 44)).toInt + (2 : Int32).toInt := tAdd (by omega) (by omega)
                    replace hg := gt_let (y := (((10 * (I_1986 o 44)) + (2 : Int32)) : Int32).toInt) (by omega) hg
                    have g_2008 : (0 : Int) ≤ (I_1986 o 45).toInt ∧ (I_1986 o 45).toInt ≤ 700 := hR_1988.at0 ra 45 (by decide)
                    replace hg := gt_let (y := (I_1986 o 45).toInt) rfl hg
                    refine ⟨tIn (by omega) (by omega), fun I_2009 e_2010 => ?_⟩
                    replace hg := gt_let (y := tI I_2009) (tI_q e_2010) hg
                    have hR_2011 : RI R I_2009 := hR_1988.up ra 27 (by decide) (Or.inl rfl) e_2010 (show (0 : Int) ≤ (I_1986 o 45).toInt by omega) (show (I_1986 o 45).toInt ≤ (700 : Int) by omega)
                    have hf_2012 : Fm (fun c => c = o ∨ (o + 26 ≤ c ∧ c < o + 34)) I0 I_2009 := hf_1989.set (by first | rfl | omega | (dsimp only; omega)) e_2010
                    have t_2013 : (I_2009 o 3).toInt = (I_1986 o 3).toInt := by rw [← e_2010, q_u_ne (by omega)]
                    have t_2014 : (I_2009 o 4).toInt = (I_1986 o 4).toInt := by rw [← e_2010, q_u_ne (by omega)]
                    have t_2015 : (I_2009 o 6).toInt = (I_1986 o 6).toInt := by rw [← e_2010, q_u_ne (by omega)]
                    have t_2016 : (I_2009 o 7).toInt = (I_1986 o 7).toInt := by rw [← e_2010, q_u_ne (by omega)]
                    have t_2017 : (I_2009 o 8).toInt = (I_1986 o 8).toInt := by rw [← e_2010, q_u_ne (by omega)]
                    have t_2018 : (I_2009 o 9).toInt = (I_1986 o 9).toInt := by rw [← e_2010, q_u_ne (by omega)]
                    have t_2019 : (I_2009 o 44).toInt = (I_1986 o 44).toInt := by rw [← e_2010, q_u_ne (by omega)]
                    have t_2020 : (I_2009 o 45).toInt = (I_1986 o 45).toInt := by rw [← e_2010, q_u_ne (by omega)]
                    have t_2021 : (I_2009 o 47).toInt = (I_1986 o 47).toInt := by rw [← e_2010, q_u_ne (by omega)]
                    have t_2022 : (I_2009 o 48).toInt = (I_1986 o 48).toInt := by rw [← e_2010, q_u_ne (by omega)]
                    have k_2023 : MPo I_2009 o := k_2001.fr (by rw [← e_2010, q_u_ne (by omega)]) (by rw [← e_2010, q_u_ne (by omega)])
                    have k_2024 : MTk I_2009 o := k_2002.fr (by rw [← e_2010, q_u_ne (by omega)]) (by rw [← e_2010, q_u_ne (by omega)]) (by rw [← e_2010, q_u_ne (by omega)])
                    have w_2026 : I_2009 (o + 28) = I0 (o + 28) := by rw [← e_2010, q_u_ne (by omega)]; exact w_2003
                    have k_2027 : MTd I_2009 o := by exact MTd.p27 k_2004 e_2010 (by omega)
                    have k_2028 : ReG I_2009 o := by intro h; exact ReS.put (u_1927 (by omega)) (by omega) hm26 hm27 hm30 hm3 hm44 hm45 (by omega) (by omega) e_1987 e_2010 (by omega) (by omega)
                    have l_2029 : (5 : Int32).toInt = 5 := rfl
                    refine ⟨fun c_2030 => ?_, fun c_2030 => ?_⟩
                    · have d_2031 := iLt c_2030
                      replace hg := gt_pos (by first | exact d_2031 | omega) hg
                      unfold fModel_readReform_228
                      replace hg := (eModel_readReform_228).symm.trans hg
                      have g_2032 : (0 : Int) ≤ (I_2009 o 44).toInt ∧ (I_2009 o 44).toInt ≤ 4 := hR_2011.at0 ra 44 (by decide)
                      replace hg := gt_let (y := (I_2009 o 44).toInt) rfl hg
                      refine ⟨tIn (by omega) (by omega), ?_⟩
                      replace hg := gt_let (y := (I_2009 (o + 29) ((I_2009 o 44) : Int32).toNatClampNeg).toInt) rfl hg
                      have l_2033 : (1 : Int32).toInt = 1 := rfl
                      replace hg := gt_let (y := (((I_2009 (o + 29) ((I_2009 o 44) : Int32).toNatClampNeg) + 1) : Int32).toInt) (wAdd_eq ((I_2009 (o + 29) ((I_2009 o 44) : Int32).toNatClampNeg) : Int32) (1 : Int32)) hg
                      refine ⟨tIn (by omega) (by omega), fun I_2034 e_2035 => ?_⟩
                      replace hg := gt_let (y := tI I_2034) (tI_q e_2035) hg
                      have hR_2036 : RI R I_2034 := hR_2011.up ra 29 (by decide) (Or.inl rfl) e_2035 (i_lo _) (i_hi _)
                      have hf_2037 : Fm (fun c => c = o ∨ (o + 26 ≤ c ∧ c < o + 34)) I0 I_2034 := hf_2012.set (by first | rfl | omega | (dsimp only; omega)) e_2035
                      have t_2038 : (I_2034 o 3).toInt = (I_2009 o 3).toInt := by rw [← e_2035, q_u_ne (by omega)]
                      have t_2039 : (I_2034 o 4).toInt = (I_2009 o 4).toInt := by rw [← e_2035, q_u_ne (by omega)]
                      have t_2040 : (I_2034 o 6).toInt = (I_2009 o 6).toInt := by rw [← e_2035, q_u_ne (by omega)]
                      have t_2041 : (I_2034 o 7).toInt = (I_2009 o 7).toInt := by rw [← e_2035, q_u_ne (by omega)]
                      have t_2042 : (I_2034 o 8).toInt = (I_2009 o 8).toInt := by rw [← e_2035, q_u_ne (by omega)]
                      have t_2043 : (I_2034 o 9).toInt = (I_2009 o 9).toInt := by rw [← e_2035, q_u_ne (by omega)]
                      have t_2044 : (I_2034 o 44).toInt = (I_2009 o 44).toInt := by rw [← e_2035, q_u_ne (by omega)]
                      have t_2045 : (I_2034 o 45).toInt = (I_2009 o 45).toInt := by rw [← e_2035, q_u_ne (by omega)]
                      have t_2046 : (I_2034 o 47).toInt = (I_2009 o 47).toInt := by rw [← e_2035, q_u_ne (by omega)]
                      have t_2047 : (I_2034 o 48).toInt = (I_2009 o 48).toInt := by rw [← e_2035, q_u_ne (by omega)]
                      have k_2048 : MPo I_2034 o := k_2023.fr (by rw [← e_2035, q_u_ne (by omega)]) (by rw [← e_2035, q_u_ne (by omega)])
                      have k_2049 : MTk I_2034 o := k_2024.fr (by rw [← e_2035, q_u_ne (by omega)]) (by rw [← e_2035, q_u_ne (by omega)]) (by rw [← e_2035, q_u_ne (by omega)])
                      have k_2050 : MTd I_2034 o := k_2027.fr (by rw [← e_2035]; exact q_u_ne (by omega)) (by rw [← e_2035]; exact q_u_ne (by omega)) (by rw [← e_2035]; exact q_u_ne (by omega))
                      have k_2051 : ReG I_2034 o := k_2028.fr (by rw [← e_2035]; exact q_u_ne (by omega)) (by rw [← e_2035]; exact q_u_ne (by omega)) (by rw [← e_2035]; exact q_u_ne (by omega)) (by rw [← e_2035, q_u_ne (by omega)]) (by rw [← e_2035, q_u_ne (by omega)]) (by rw [← e_2035, q_u_ne (by omega)]) (by rw [← e_2035, q_u_ne (by omega)]) (by rw [← e_2035, q_u_ne (by omega)])
                      have w_2052 : I_2034 (o + 28) = I0 (o + 28) := by rw [← e_2035, q_u_ne (by omega)]; exact w_2026
                      exact (hp _ _ hR_2036 hf_2037 (by first | omega | (intro h; omega) | exact Or.inl rfl | exact Or.inr rfl) (by first | omega | (intro h; omega) | exact Or.inl rfl | exact Or.inr rfl) (by first | omega | (intro h; omega) | exact Or.inl rfl | exact Or.inr rfl) (by first | omega | (intro h; omega) | exact Or.inl rfl | exact Or.inr rfl) (by first | omega | (intro h; omega) | exact Or.inl rfl | exact Or.inr rfl) k_2050 k_2048 k_2049 k_2051 hg.symm)
                    · have d_2053 := iNlt c_2030
                      exfalso; omega
                  · have d_2054 := iEq c_1871
                    have i_2055 := u_1868 (by omega)
                    replace hg := gt_pos (by first | exact d_2054 | omega) hg
                    exact (hp _ _ hR hf (by first | omega | (intro h; omega) | exact Or.inl rfl | exact Or.inr rfl) (by first | omega | (intro h; omega) | exact Or.inl rfl | exact Or.inr rfl) (by first | omega | (intro h; omega) | exact Or.inl rfl | exact Or.inr rfl) (by first | omega | (intro h; omega) | exact Or.inl rfl | exact Or.inr rfl) (by first | omega | (intro h; omega) | exact Or.inl rfl | exact Or.inr rfl) hq4 hq5 hq6 (fun h => absurd h (by omega)) hg.symm)
                · have d_2056 := iNlt c_1863
                  replace hg := gt_neg (by first | exact d_2056 | omega) hg
                  refine y_Model_wrongg hok hw ra hz14 hz15 hR (fun I_2061 L_2062 hR_2063 fr_2064 kp_2065 u_2058 u_2059 gn_2060 => ⟨I_2061, L_2062, rfl, rfl, ?_⟩)
                  replace hg := gt_b3 gn_2060 hg
                  clear gn_2060
                  have hf_2066 : Fm (fun c => c = o ∨ (o + 26 ≤ c ∧ c < o + 34)) I0 I_2061 := hf.call fr_2064 (fun c hc => by first | exact hc | (dsimp only at hc ⊢; omega) | omega)
                  have t_2067 : (I_2061 o 3).toInt = (I0 o 3).toInt := by rw [kp_2065 3 rfl]
                  have g_2068 : (0 : Int) ≤ (I_2061 o 4).toInt ∧ (I_2061 o 4).toInt ≤ 5 := hR_2063.at0 ra 4 (by decide)
                  have t_2069 : (I_2061 o 6).toInt = (I0 o 6).toInt := by rw [kp_2065 6 rfl]
                  have t_2070 : (I_2061 o 7).toInt = (I0 o 7).toInt := by rw [kp_2065 7 rfl]
                  have t_2071 : (I_2061 o 8).toInt = (I0 o 8).toInt := by rw [kp_2065 8 rfl]
                  have t_2072 : (I_2061 o 9).toInt = (I0 o 9).toInt := by rw [kp_2065 9 rfl]
                  have t_2073 : (I_2061 o 44).toInt = (I0 o 44).toInt := by rw [kp_2065 44 rfl]
                  have t_2074 : (I_2061 o 45).toInt = (I0 o 45).toInt := by rw [kp_2065 45 rfl]
                  have t_2075 : (I_2061 o 47).toInt = (I0 o 47).toInt := by rw [kp_2065 47 rfl]
                  have t_2076 : (I_2061 o 48).toInt = (I0 o 48).toInt := by rw [kp_2065 48 rfl]
                  have k_2077 : ReS I_2061 o := hq3.fr (fr_2064 _ (by first | omega | (dsimp only; omega))) (fr_2064 _ (by first | omega | (dsimp only; omega))) (fr_2064 _ (by first | omega | (dsimp only; omega))) (kp_2065 3 rfl) (kp_2065 6 rfl) (kp_2065 44 rfl) (kp_2065 45 rfl)
                  have k_2078 : MTd I_2061 o := hq4.fr (fr_2064 _ (by first | omega | (dsimp only; omega))) (fr_2064 _ (by first | omega | (dsimp only; omega))) (fr_2064 _ (by first | omega | (dsimp only; omega)))
                  have k_2079 : MPo I_2061 o := hq5.fr (kp_2065 8 rfl) (kp_2065 9 rfl)
                  have k_2080 : MTk I_2061 o := hq6.fr (kp_2065 6 rfl) (kp_2065 7 rfl) (kp_2065 8 rfl)
                  have w_2081 : I_2061 (o + 28) = I0 (o + 28) := (fr_2064 (o + 28) (by first | omega | (dsimp only; omega)))
                  refine y_Model_isGoodg hok hw ra hR_2063 (fun r_2082 u_2083 u_2084 u_2085 gn_2086 => ⟨r_2082, I_2061, L_2062, rfl, rfl, ?_⟩)
                  replace hg := gt_let gn_2086 hg
                  clear gn_2086
                  have b_2087 : 0 ≤ r_2082.toInt ∧ r_2082.toInt ≤ 1 := u_2083.rg
                  refine ⟨fun c_2088 => ?_, fun c_2088 => ?_⟩
                  · have d_2089 := iNe c_2088
                    have i_2090 := u_2084 (by omega)
                    replace hg := gt_neg (by first | exact d_2089 | omega) hg
                    have tk := k_2080.1
                    refine y_Model_nextg hok hw ra hz16 hz17 hz18 hz19 (by first | omega | (intro h; omega) | exact Or.inl rfl | exact Or.inr rfl) hR_2063 (fun I_2101 L_2102 hR_2103 fr_2104 kp_2105 u_2092 u_2093 u_2094 u_2095 u_2096 u_2097 u_2098 u_2099 gn_2100 => ⟨I_2101, L_2102, rfl, rfl, ?_⟩)
                    replace hg := gt_b3 gn_2100 hg
                    clear gn_2100
                    have hf_2106 : Fm (fun c => c = o ∨ (o + 26 ≤ c ∧ c < o + 34)) I0 I_2101 := hf_2066.call fr_2104 (fun c hc => by first | exact hc | (dsimp only at hc ⊢; omega) | omega)
                    have t_2107 : (I_2101 o 3).toInt = (I_2061 o 3).toInt := by rw [kp_2105 3 rfl]
                    have t_2108 : (I_2101 o 4).toInt = (I_2061 o 4).toInt := by rw [kp_2105 4 rfl]
                    have g_2109 : (0 : Int) ≤ (I_2101 o 6).toInt ∧ (I_2101 o 6).toInt ≤ 1600 := hR_2103.at0 ra 6 (by decide)
                    have g_2110 : (0 : Int) ≤ (I_2101 o 7).toInt ∧ (I_2101 o 7).toInt ≤ 1601 := hR_2103.at0 ra 7 (by decide)
                    have g_2111 : (0 : Int) ≤ (I_2101 o 8).toInt ∧ (I_2101 o 8).toInt ≤ 6 := hR_2103.at0 ra 8 (by decide)
                    have t_2112 : (I_2101 o 44).toInt = (I_2061 o 44).toInt := by rw [kp_2105 44 rfl]
                    have t_2113 : (I_2101 o 45).toInt = (I_2061 o 45).toInt := by rw [kp_2105 45 rfl]
                    have t_2114 : (I_2101 o 47).toInt = (I_2061 o 47).toInt := by rw [kp_2105 47 rfl]
                    have t_2115 : (I_2101 o 48).toInt = (I_2061 o 48).toInt := by rw [kp_2105 48 rfl]
                    have k_2116 : MTd I_2101 o := k_2078.fr (fr_2104 _ (by first | omega | (dsimp only; omega))) (fr_2104 _ (by first | omega | (dsimp only; omega))) (fr_2104 _ (by first | omega | (dsimp only; omega)))
                    have w_2117 : I_2101 (o + 28) = I0 (o + 28) := (fr_2104 (o + 28) (by first | omega | (dsimp only; omega))).trans w_2081
                    have ms := u_2095 (by omega)
                    have k_2118 : ReS I_2101 o := by exact ReS.at k_2077 (fr_2104 _ (by first | omega | (dsimp only; omega))) (fr_2104 _ (by first | omega | (dsimp only; omega))) (fr_2104 _ (by first | omega | (dsimp only; omega))) (kp_2105 3 rfl) (by omega) (by omega) (kp_2105 44 rfl) (kp_2105 45 rfl)
                    refine fun I_2119 e_2120 => ?_
                    replace hg := gt_let (y := tI I_2119) (tI_q e_2120) hg
                    have hR_2121 : RI R I_2119 := hR_2103.up0 (k := 49) ra (by decide) (Or.inr hz59) e_2120 (i_lo _) (i_hi _)
                    have hf_2122 : Fm (fun c => c = o ∨ (o + 26 ≤ c ∧ c < o + 34)) I0 I_2119 := hf_2106.set (by first | rfl | omega | (dsimp only; omega)) e_2120
                    have t_2123 : (I_2119 o 3).toInt = (I_2101 o 3).toInt := by rw [← e_2120, q_u_k (by decide)]
                    have t_2124 : (I_2119 o 4).toInt = (I_2101 o 4).toInt := by rw [← e_2120, q_u_k (by decide)]
                    have t_2125 : (I_2119 o 6).toInt = (I_2101 o 6).toInt := by rw [← e_2120, q_u_k (by decide)]
                    have t_2126 : (I_2119 o 7).toInt = (I_2101 o 7).toInt := by rw [← e_2120, q_u_k (by decide)]
                    have t_2127 : (I_2119 o 8).toInt = (I_2101 o 8).toInt := by rw [← e_2120, q_u_k (by decide)]
                    have t_2128 : (I_2119 o 9).toInt = (I_2101 o 9).toInt := by rw [← e_2120, q_u_k (by decide)]
                    have t_2129 : (I_2119 o 44).toInt = (I_2101 o 44).toInt := by rw [← e_2120, q_u_k (by decide)]
                    have t_2130 : (I_2119 o 45).toInt = (I_2101 o 45).toInt := by rw [← e_2120, q_u_k (by decide)]
                    have t_2131 : (I_2119 o 47).toInt = (I_2101 o 47).toInt := by rw [← e_2120, q_u_k (by decide)]
                    have t_2132 : (I_2119 o 48).toInt = (I_2101 o 48).toInt := by rw [← e_2120, q_u_k (by decide)]
                    have k_2133 : MTd I_2119 o := k_2116.fr (by rw [← e_2120]; exact q_u_ne (by omega)) (by rw [← e_2120]; exact q_u_ne (by omega)) (by rw [← e_2120]; exact q_u_ne (by omega))
                    have k_2134 : MPo I_2119 o := u_2098.fr (by rw [← e_2120, q_u_k (by decide)]) (by rw [← e_2120, q_u_k (by decide)])
                    have k_2135 : MTk I_2119 o := u_2099.fr (by rw [← e_2120, q_u_k (by decide)]) (by rw [← e_2120, q_u_k (by decide)]) (by rw [← e_2120, q_u_k (by decide)])
                    have k_2136 : ReS I_2119 o := k_2118.fr (by rw [← e_2120]; exact q_u_ne (by omega)) (by rw [← e_2120]; exact q_u_ne (by omega)) (by rw [← e_2120]; exact q_u_ne (by omega)) (by rw [← e_2120, q_u_k (by decide)]) (by rw [← e_2120, q_u_k (by decide)]) (by rw [← e_2120, q_u_k (by decide)]) (by rw [← e_2120, q_u_k (by decide)])
                    have w_2137 : I_2119 (o + 28) = I0 (o + 28) := by rw [← e_2120, q_u_ne (by omega)]; exact w_2117
                    have g_2138 : (0 : Int) ≤ (I_2119 o 45).toInt ∧ (I_2119 o 45).toInt ≤ 700 := hR_2121.at0 ra 45 (by decide)
                    replace hg := gt_let (y := (I_2119 o 45).toInt) rfl hg
                    refine y_Model_eg hok hw ra hz14 hz15 hz16 hz17 hz18 hz19 hz55 hz56 hz57 hz58 (by first | omega | (intro h; omega) | exact Or.inl rfl | exact Or.inr rfl) (by first | omega | (intro h; omega) | exact Or.inl rfl | exact Or.inr rfl) k_2136 k_2133 k_2134 k_2135 hR_2121 (fun I_2149 L_2150 hR_2151 fr_2152 kp_2153 u_2140 u_2141 u_2142 u_2143 u_2144 u_2145 u_2146 u_2147 gn_2148 => ⟨I_2149, L_2150, rfl, rfl, ?_⟩)
                    replace hg := gt_b3 gn_2148 hg
                    clear gn_2148
                    have hf_2154 : Fm (fun c => c = o ∨ (o + 26 ≤ c ∧ c < o + 34)) I0 I_2149 := hf_2122.call fr_2152 (fun c hc => by first | exact hc | (dsimp only at hc ⊢; omega) | omega)
                    have t_2155 : (I_2149 o 3).toInt = (I_2119 o 3).toInt := by rw [kp_2153 3 rfl]
                    have g_2156 : (0 : Int) ≤ (I_2149 o 4).toInt ∧ (I_2149 o 4).toInt ≤ 5 := hR_2151.at0 ra 4 (by decide)
                    have g_2157 : (0 : Int) ≤ (I_2149 o 6).toInt ∧ (I_2149 o 6).toInt ≤ 1600 := hR_2151.at0 ra 6 (by decide)
                    have g_2158 : (0 : Int) ≤ (I_2149 o 7).toInt ∧ (I_2149 o 7).toInt ≤ 1601 := hR_2151.at0 ra 7 (by decide)
                    have g_2159 : (0 : Int) ≤ (I_2149 o 8).toInt ∧ (I_2149 o 8).toInt ≤ 6 := hR_2151.at0 ra 8 (by decide)
                    have t_2160 : (I_2149 o 44).toInt = (I_2119 o 44).toInt := by rw [kp_2153 44 rfl]
                    have g_2161 : (0 : Int) ≤ (I_2149 o 45).toInt ∧ (I_2149 o 45).toInt ≤ 700 := hR_2151.at0 ra 45 (by decide)
                    have g_2162 : (0 : Int) ≤ (I_2149 o 47).toInt ∧ (I_2149 o 47).toInt ≤ 7 := hR_2151.at0 ra 47 (by decide)
                    have g_2163 : (0 : Int) ≤ (I_2149 o 48).toInt ∧ (I_2149 o 48).toInt ≤ 80 := hR_2151.at0 ra 48 (by decide)
                    have w_2164 : I_2149 (o + 28) = I0 (o + 28) := (fr_2152 (o + 28) (by first | omega | (dsimp only; omega))).trans w_2137
                    have l_2165 : (59 : Int32).toInt = 59 := rfl
                    refine y_Model_isg hok hw ra hR_2151 (fun r_2166 u_2167 u_2168 u_2169 gn_2170 => ⟨r_2166, I_2149, L_2150, rfl, rfl, ?_⟩)
                    replace hg := gt_let gn_2170 hg
                    clear gn_2170
                    have b_2171 : 0 ≤ r_2166.toInt ∧ r_2166.toInt ≤ 1 := u_2167.rg
                    refine y_Model_mustg hok hw ra hz14 hz15 hz16 hz17 hz18 hz19 (by first | omega | (intro h; omega) | exact Or.inl rfl | exact Or.inr rfl) u_2146 u_2147 hR_2151 (fun I_2183 L_2184 hR_2185 fr_2186 kp_2187 u_2173 u_2174 u_2175 u_2176 u_2177 u_2178 u_2179 u_2180 u_2181 gn_2182 => ⟨I_2183, L_2184, rfl, rfl, ?_⟩)
                    replace hg := gt_b3 gn_2182 hg
                    clear gn_2182
                    have hf_2188 : Fm (fun c => c = o ∨ (o + 26 ≤ c ∧ c < o + 34)) I0 I_2183 := hf_2154.call fr_2186 (fun c hc => by first | exact hc | (dsimp only at hc ⊢; omega) | omega)
                    have t_2189 : (I_2183 o 3).toInt = (I_2149 o 3).toInt := by rw [kp_2187 3 rfl]
                    have g_2190 : (0 : Int) ≤ (I_2183 o 4).toInt ∧ (I_2183 o 4).toInt ≤ 5 := hR_2185.at0 ra 4 (by decide)
                    have g_2191 : (0 : Int) ≤ (I_2183 o 6).toInt ∧ (I_2183 o 6).toInt ≤ 1600 := hR_2185.at0 ra 6 (by decide)
                    have g_2192 : (0 : Int) ≤ (I_2183 o 7).toInt ∧ (I_2183 o 7).toInt ≤ 1601 := hR_2185.at0 ra 7 (by decide)
                    have g_2193 : (0 : Int) ≤ (I_2183 o 8).toInt ∧ (I_2183 o 8).toInt ≤ 6 := hR_2185.at0 ra 8 (by decide)
                    have t_2194 : (I_2183 o 44).toInt = (I_2149 o 44).toInt := by rw [kp_2187 44 rfl]
                    have t_2195 : (I_2183 o 45).toInt = (I_2149 o 45).toInt := by rw [kp_2187 45 rfl]
                    have t_2196 : (I_2183 o 47).toInt = (I_2149 o 47).toInt := by rw [kp_2187 47 rfl]
                    have t_2197 : (I_2183 o 48).toInt = (I_2149 o 48).toInt := by rw [kp_2187 48 rfl]
                    have k_2198 : MTd I_2183 o := u_2145.fr (fr_2186 _ (by first | omega | (dsimp only; omega))) (fr_2186 _ (by first | omega | (dsimp only; omega))) (fr_2186 _ (by first | omega | (dsimp only; omega)))
                    have w_2199 : I_2183 (o + 28) = I0 (o + 28) := (fr_2186 (o + 28) (by first | omega | (dsimp only; omega))).trans w_2164
                    have hm26 := fr_2186 (o + 26) (by first | omega | (dsimp only; omega))
                    have hm27 := fr_2186 (o + 27) (by first | omega | (dsimp only; omega))
                    have hm30 := fr_2186 (o + 30) (by first | omega | (dsimp only; omega))
                    have hm3 := kp_2187 3 rfl
                    have hm44 := kp_2187 44 rfl
                    have hm45 := kp_2187 45 rfl
                    have tk2 := u_2181.1
                    have g_2200 : (0 : Int) ≤ (I_2183 o 44).toInt ∧ (I_2183 o 44).toInt ≤ 4 := hR_2185.at0 ra 44 (by decide)
                    replace hg := gt_let (y := (I_2183 o 44).toInt) rfl hg
                    have a_2201 : (10 * (I_2183 o 44)).toInt = 10 * (I_2183 o 44).toInt := tMulL rfl (by omega) (by omega)
                    replace hg := gt_let (y := ((10 * (I_2183 o 44)) : Int32).toInt) (by omega) hg
                    have a_2202 : ((10 * (I_2183 o 44)) + (2 : Int32)).toInt = (10 * (I_2183 o 44)).toInt + (2 : Int32).toInt := tAdd (by omega) (by omega)
                    replace hg := gt_let (y := (((10 * (I_2183 o 44)) + (2 : Int32)) : Int32).toInt) (by omega) hg
                    refine ⟨tIn (by omega) (by omega), fun I_2203 e_2204 => ?_⟩
                    replace hg := gt_let (y := tI I_2203) (tI_q e_2204) hg
                    have hR_2205 : RI R I_2203 := hR_2185.up ra 26 (by decide) (Or.inl rfl) e_2204 (show (-1 : Int) ≤ (I_2119 o 45).toInt by omega) (show (I_2119 o 45).toInt ≤ (700 : Int) by omega)
                    have hf_2206 : Fm (fun c => c = o ∨ (o + 26 ≤ c ∧ c < o + 34)) I0 I_2203 := hf_2188.set (by first | rfl | omega | (dsimp only; omega)) e_2204
                    have t_2207 : (I_2203 o 3).toInt = (I_2183 o 3).toInt := by rw [← e_2204, q_u_ne (by omega)]
                    have t_2208 : (I_2203 o 4).toInt = (I_2183 o 4).toInt := by rw [← e_2204, q_u_ne (by omega)]
                    have t_2209 : (I_2203 o 6).toInt = (I_2183 o 6).toInt := by rw [← e_2204, q_u_ne (by omega)]
                    have t_2210 : (I_2203 o 7).toInt = (I_2183 o 7).toInt := by rw [← e_2204, q_u_ne (by omega)]
                    have t_2211 : (I_2203 o 8).toInt = (I_2183 o 8).toInt := by rw [← e_2204, q_u_ne (by omega)]
                    have t_2212 : (I_2203 o 9).toInt = (I_2183 o 9).toInt := by rw [← e_2204, q_u_ne (by omega)]
                    have t_2213 : (I_2203 o 44).toInt = (I_2183 o 44).toInt := by rw [← e_2204, q_u_ne (by omega)]
                    have t_2214 : (I_2203 o 45).toInt = (I_2183 o 45).toInt := by rw [← e_2204, q_u_ne (by omega)]
                    have t_2215 : (I_2203 o 47).toInt = (I_2183 o 47).toInt := by rw [← e_2204, q_u_ne (by omega)]
                    have t_2216 : (I_2203 o 48).toInt = (I_2183 o 48).toInt := by rw [← e_2204, q_u_ne (by omega)]
                    have k_2218 : MPo I_2203 o := u_2180.fr (by rw [← e_2204, q_u_ne (by omega)]) (by rw [← e_2204, q_u_ne (by omega)])
                    have k_2219 : MTk I_2203 o := u_2181.fr (by rw [← e_2204, q_u_ne (by omega)]) (by rw [← e_2204, q_u_ne (by omega)]) (by rw [← e_2204, q_u_ne (by omega)])
                    have w_2220 : I_2203 (o + 28) = I0 (o + 28) := by rw [← e_2204, q_u_ne (by omega)]; exact w_2199
                    have k_2221 : MTd I_2203 o := by exact MTd.p26 k_2198 e_2204 (by omega)
                    have g_2222 : (0 : Int) ≤ (I_2203 o 44).toInt ∧ (I_2203 o 44).toInt ≤ 4 := hR_2205.at0 ra 44 (by decide)
                    replace hg := gt_let (y := (I_2203 o 44).toInt) rfl hg
                    have a_2223 : (10 * (I_2203 o 44)).toInt = 10 * (I_2203 o 44).toInt := tMulL rfl (by omega) (by omega)
                    replace hg := gt_let (y := ((10 * (I_2203 o 44)) : Int32).toInt) (by omega) hg
                    have a_2224 : ((10 * (I_2203 o 44)) + (2 : Int32)).toInt = (10 * (I_2203 o 44)).toInt + (2 : Int32).toInt := tAdd (by omega) (by omega)
                    replace hg := gt_let (y := (((10 * (I_2203 o 44)) + (2 : Int32)) : Int32).toInt) (by omega) hg
                    have g_2225 : (0 : Int) ≤ (I_2203 o 45).toInt ∧ (I_2203 o 45).toInt ≤ 700 := hR_2205.at0 ra 45 (by decide)
                    replace hg := gt_let (y := (I_2203 o 45).toInt) rfl hg
                    refine ⟨tIn (by omega) (by omega), fun I_2226 e_2227 => ?_⟩
                    replace hg := gt_let (y := tI I_2226) (tI_q e_2227) hg
                    have hR_2228 : RI R I_2226 := hR_2205.up ra 27 (by decide) (Or.inl rfl) e_2227 (show (0 : Int) ≤ (I_2203 o 45).toInt by omega) (show (I_2203 o 45).toInt ≤ (700 : Int) by omega)
                    have hf_2229 : Fm (fun c => c = o ∨ (o + 26 ≤ c ∧ c < o + 34)) I0 I_2226 := hf_2206.set (by first | rfl | omega | (dsimp only; omega)) e_2227
                    have t_2230 : (I_2226 o 3).toInt = (I_2203 o 3).toInt := by rw [← e_2227, q_u_ne (by omega)]
                    have t_2231 : (I_2226 o 4).toInt = (I_2203 o 4).toInt := by rw [← e_2227, q_u_ne (by omega)]
                    have t_2232 : (I_2226 o 6).toInt = (I_2203 o 6).toInt := by rw [← e_2227, q_u_ne (by omega)]
                    have t_2233 : (I_2226 o 7).toInt = (I_2203 o 7).toInt := by rw [← e_2227, q_u_ne (by omega)]
                    have t_2234 : (I_2226 o 8).toInt = (I_2203 o 8).toInt := by rw [← e_2227, q_u_ne (by omega)]
                    have t_2235 : (I_2226 o 9).toInt = (I_2203 o 9).toInt := by rw [← e_2227, q_u_ne (by omega)]
                    have t_2236 : (I_2226 o 44).toInt = (I_2203 o 44).toInt := by rw [← e_2227, q_u_ne (by omega)]
                    have t_2237 : (I_2226 o 45).toInt = (I_2203 o 45).toInt := by rw [← e_2227, q_u_ne (by omega)]
                    have t_2238 : (I_2226 o 47).toInt = (I_2203 o 47).toInt := by rw [← e_2227, q_u_ne (by omega)]
                    have t_2239 : (I_2226 o 48).toInt = (I_2203 o 48).toInt := by rw [← e_2227, q_u_ne (by omega)]
                    have k_2240 : MPo I_2226 o := k_2218.fr (by rw [← e_2227, q_u_ne (by omega)]) (by rw [← e_2227, q_u_ne (by omega)])
                    have k_2241 : MTk I_2226 o := k_2219.fr (by rw [← e_2227, q_u_ne (by omega)]) (by rw [← e_2227, q_u_ne (by omega)]) (by rw [← e_2227, q_u_ne (by omega)])
                    have w_2243 : I_2226 (o + 28) = I0 (o + 28) := by rw [← e_2227, q_u_ne (by omega)]; exact w_2220
                    have k_2244 : MTd I_2226 o := by exact MTd.p27 k_2221 e_2227 (by omega)
                    have k_2245 : ReG I_2226 o := by intro h; exact ReS.put (u_2144 (by omega)) (by omega) hm26 hm27 hm30 hm3 hm44 hm45 (by omega) (by omega) e_2204 e_2227 (by omega) (by omega)
                    have l_2246 : (5 : Int32).toInt = 5 := rfl
                    refine ⟨fun c_2247 => ?_, fun c_2247 => ?_⟩
                    · have d_2248 := iLt c_2247
                      replace hg := gt_pos (by first | exact d_2248 | omega) hg
                      unfold fModel_readReform_228
                      replace hg := (eModel_readReform_228).symm.trans hg
                      have g_2249 : (0 : Int) ≤ (I_2226 o 44).toInt ∧ (I_2226 o 44).toInt ≤ 4 := hR_2228.at0 ra 44 (by decide)
                      replace hg := gt_let (y := (I_2226 o 44).toInt) rfl hg
                      refine ⟨tIn (by omega) (by omega), ?_⟩
                      replace hg := gt_let (y := (I_2226 (o + 29) ((I_2226 o 44) : Int32).toNatClampNeg).toInt) rfl hg
                      have l_2250 : (1 : Int32).toInt = 1 := rfl
                      replace hg := gt_let (y := (((I_2226 (o + 29) ((I_2226 o 44) : Int32).toNatClampNeg) + 1) : Int32).toInt) (wAdd_eq ((I_2226 (o + 29) ((I_2226 o 44) : Int32).toNatClampNeg) : Int32) (1 : Int32)) hg
                      refine ⟨tIn (by omega) (by omega), fun I_2251 e_2252 => ?_⟩
                      replace hg := gt_let (y := tI I_2251) (tI_q e_2252) hg
                      have hR_2253 : RI R I_2251 := hR_2228.up ra 29 (by decide) (Or.inl rfl) e_2252 (i_lo _) (i_hi _)
                      have hf_2254 : Fm (fun c => c = o ∨ (o + 26 ≤ c ∧ c < o + 34)) I0 I_2251 := hf_2229.set (by first | rfl | omega | (dsimp only; omega)) e_2252
                      have t_2255 : (I_2251 o 3).toInt = (I_2226 o 3).toInt := by rw [← e_2252, q_u_ne (by omega)]
                      have t_2256 : (I_2251 o 4).toInt = (I_2226 o 4).toInt := by rw [← e_2252, q_u_ne (by omega)]
                      have t_2257 : (I_2251 o 6).toInt = (I_2226 o 6).toInt := by rw [← e_2252, q_u_ne (by omega)]
                      have t_2258 : (I_2251 o 7).toInt = (I_2226 o 7).toInt := by rw [← e_2252, q_u_ne (by omega)]
                      have t_2259 : (I_2251 o 8).toInt = (I_2226 o 8).toInt := by rw [← e_2252, q_u_ne (by omega)]
                      have t_2260 : (I_2251 o 9).toInt = (I_2226 o 9).toInt := by rw [← e_2252, q_u_ne (by omega)]
                      have t_2261 : (I_2251 o 44).toInt = (I_2226 o 44).toInt := by rw [← e_2252, q_u_ne (by omega)]
                      have t_2262 : (I_2251 o 45).toInt = (I_2226 o 45).toInt := by rw [← e_2252, q_u_ne (by omega)]
                      have t_2263 : (I_2251 o 47).toInt = (I_2226 o 47).toInt := by rw [← e_2252, q_u_ne (by omega)]
                      have t_2264 : (I_2251 o 48).toInt = (I_2226 o 48).toInt := by rw [← e_2252, q_u_ne (by omega)]
                      have k_2265 : MPo I_2251 o := k_2240.fr (by rw [← e_2252, q_u_ne (by omega)]) (by rw [← e_2252, q_u_ne (by omega)])
                      have k_2266 : MTk I_2251 o := k_2241.fr (by rw [← e_2252, q_u_ne (by omega)]) (by rw [← e_2252, q_u_ne (by omega)]) (by rw [← e_2252, q_u_ne (by omega)])
                      have k_2267 : MTd I_2251 o := k_2244.fr (by rw [← e_2252]; exact q_u_ne (by omega)) (by rw [← e_2252]; exact q_u_ne (by omega)) (by rw [← e_2252]; exact q_u_ne (by omega))
                      have k_2268 : ReG I_2251 o := k_2245.fr (by rw [← e_2252]; exact q_u_ne (by omega)) (by rw [← e_2252]; exact q_u_ne (by omega)) (by rw [← e_2252]; exact q_u_ne (by omega)) (by rw [← e_2252, q_u_ne (by omega)]) (by rw [← e_2252, q_u_ne (by omega)]) (by rw [← e_2252, q_u_ne (by omega)]) (by rw [← e_2252, q_u_ne (by omega)]) (by rw [← e_2252, q_u_ne (by omega)])
                      have w_2269 : I_2251 (o + 28) = I0 (o + 28) := by rw [← e_2252, q_u_ne (by omega)]; exact w_2243
                      exact (hp _ _ hR_2253 hf_2254 (by first | omega | (intro h; omega) | exact Or.inl rfl | exact Or.inr rfl) (by first | omega | (intro h; omega) | exact Or.inl rfl | exact Or.inr rfl) (by first | omega | (intro h; omega) | exact Or.inl rfl | exact Or.inr rfl) (by first | omega | (intro h; omega) | exact Or.inl rfl | exact Or.inr rfl) (by first | omega | (intro h; omega) | exact Or.inl rfl | exact Or.inr rfl) k_2267 k_2265 k_2266 k_2268 hg.symm)
                    · have d_2270 := iNlt c_2247
                      exfalso; omega
                  · have d_2271 := iEq c_2088
                    have i_2272 := u_2085 (by omega)
                    replace hg := gt_pos (by first | exact d_2271 | omega) hg
                    exact (hp _ _ hR_2063 hf_2066 (by first | omega | (intro h; omega) | exact Or.inl rfl | exact Or.inr rfl) (by first | omega | (intro h; omega) | exact Or.inl rfl | exact Or.inr rfl) (by first | omega | (intro h; omega) | exact Or.inl rfl | exact Or.inr rfl) (by first | omega | (intro h; omega) | exact Or.inl rfl | exact Or.inr rfl) (by first | omega | (intro h; omega) | exact Or.inl rfl | exact Or.inr rfl) k_2078 k_2079 k_2080 (fun h => absurd h (by omega)) hg.symm)
              · have d_2273 := iNlt c_1859
                exfalso; omega
    · have d_2274 := iNe c_25
      have i_2275 := u_22 (by omega)
      replace hg := gt_neg (by first | exact d_2274 | omega) hg
      unfold fModel_readReform_95
      replace hg := (eModel_readReform_95).symm.trans hg
      have l_2276 : (1 : Int32).toInt = 1 := rfl
      refine ⟨fun c_2277 => ?_, fun c_2277 => ?_⟩
      · have d_2278 := iLt c_2277
        exfalso; omega
      · have d_2279 := iNlt c_2277
        replace hg := gt_neg (by first | exact d_2279 | omega) hg
        have l_2280 : (10 : Int32).toInt = 10 := rfl
        refine ⟨fun c_2281 => ?_, fun c_2281 => ?_⟩
        · have d_2282 := iEq c_2281
          exfalso; omega
        · have d_2283 := iNe c_2281
          replace hg := gt_neg (by first | exact d_2283 | omega) hg
          have g_2284 : (0 : Int) ≤ (I0 o 44).toInt ∧ (I0 o 44).toInt ≤ 4 := hR.at0 ra 44 (by decide)
          replace hg := gt_let (y := (I0 o 44).toInt) rfl hg
          have a_2285 : (10 * (I0 o 44)).toInt = 10 * (I0 o 44).toInt := tMulL rfl (by omega) (by omega)
          replace hg := gt_let (y := ((10 * (I0 o 44)) : Int32).toInt) (by omega) hg
          refine ⟨fun c_2286 => ?_, fun c_2286 => ?_⟩
          · have d_2287 := iLt c_2286
            exfalso; omega
          · have d_2288 := iNlt c_2286
            replace hg := gt_neg (by first | exact d_2288 | omega) hg
            refine ⟨fun c_2289 => ?_, fun c_2289 => ?_⟩
            · have d_2290 := iLt c_2289
              replace hg := gt_pos (by first | exact d_2290 | omega) hg
              unfold fModel_readReform_132
              replace hg := (eModel_readReform_132).symm.trans hg
              have a_2291 : ((10 * (I0 o 44)) + (1 : Int32)).toInt = (10 * (I0 o 44)).toInt + (1 : Int32).toInt := tAdd (by omega) (by omega)
              replace hg := gt_let (y := (((10 * (I0 o 44)) + (1 : Int32)) : Int32).toInt) (by omega) hg
              refine ⟨tIn (by omega) (by omega), ?_⟩
              have g_2292 : (-1 : Int) ≤ (I0 (o + 26) (((10 * (I0 o 44)) + (1 : Int32)) : Int32).toNatClampNeg).toInt ∧ (I0 (o + 26) (((10 * (I0 o 44)) + (1 : Int32)) : Int32).toNatClampNeg).toInt ≤ 700 := hR.at ra 26 _ (by decide)
              replace hg := gt_let (y := (I0 (o + 26) (((10 * (I0 o 44)) + (1 : Int32)) : Int32).toNatClampNeg).toInt) rfl hg
              refine ⟨fun c_2293 => ?_, fun c_2293 => ?_⟩
              · have d_2294 := iLt c_2293
                replace hg := gt_pos (by first | exact d_2294 | omega) hg
                refine y_Model_isGoodg hok hw ra hR (fun r_2295 u_2296 u_2297 u_2298 gn_2299 => ⟨r_2295, I0, L0, rfl, rfl, ?_⟩)
                replace hg := gt_let gn_2299 hg
                clear gn_2299
                have b_2300 : 0 ≤ r_2295.toInt ∧ r_2295.toInt ≤ 1 := u_2296.rg
                refine ⟨fun c_2301 => ?_, fun c_2301 => ?_⟩
                · have d_2302 := iNe c_2301
                  have i_2303 := u_2297 (by omega)
                  replace hg := gt_neg (by first | exact d_2302 | omega) hg
                  have tk := hq6.1
                  refine y_Model_nextg hok hw ra hz16 hz17 hz18 hz19 (by first | omega | (intro h; omega) | exact Or.inl rfl | exact Or.inr rfl) hR (fun I_2314 L_2315 hR_2316 fr_2317 kp_2318 u_2305 u_2306 u_2307 u_2308 u_2309 u_2310 u_2311 u_2312 gn_2313 => ⟨I_2314, L_2315, rfl, rfl, ?_⟩)
                  replace hg := gt_b3 gn_2313 hg
                  clear gn_2313
                  have hf_2319 : Fm (fun c => c = o ∨ (o + 26 ≤ c ∧ c < o + 34)) I0 I_2314 := hf.call fr_2317 (fun c hc => by first | exact hc | (dsimp only at hc ⊢; omega) | omega)
                  have t_2320 : (I_2314 o 3).toInt = (I0 o 3).toInt := by rw [kp_2318 3 rfl]
                  have t_2321 : (I_2314 o 4).toInt = (I0 o 4).toInt := by rw [kp_2318 4 rfl]
                  have g_2322 : (0 : Int) ≤ (I_2314 o 6).toInt ∧ (I_2314 o 6).toInt ≤ 1600 := hR_2316.at0 ra 6 (by decide)
                  have g_2323 : (0 : Int) ≤ (I_2314 o 7).toInt ∧ (I_2314 o 7).toInt ≤ 1601 := hR_2316.at0 ra 7 (by decide)
                  have g_2324 : (0 : Int) ≤ (I_2314 o 8).toInt ∧ (I_2314 o 8).toInt ≤ 6 := hR_2316.at0 ra 8 (by decide)
                  have t_2325 : (I_2314 o 44).toInt = (I0 o 44).toInt := by rw [kp_2318 44 rfl]
                  have t_2326 : (I_2314 o 45).toInt = (I0 o 45).toInt := by rw [kp_2318 45 rfl]
                  have t_2327 : (I_2314 o 47).toInt = (I0 o 47).toInt := by rw [kp_2318 47 rfl]
                  have t_2328 : (I_2314 o 48).toInt = (I0 o 48).toInt := by rw [kp_2318 48 rfl]
                  have k_2329 : MTd I_2314 o := hq4.fr (fr_2317 _ (by first | omega | (dsimp only; omega))) (fr_2317 _ (by first | omega | (dsimp only; omega))) (fr_2317 _ (by first | omega | (dsimp only; omega)))
                  have w_2330 : I_2314 (o + 28) = I0 (o + 28) := (fr_2317 (o + 28) (by first | omega | (dsimp only; omega)))
                  have ms := u_2308 (by omega)
                  have k_2331 : ReS I_2314 o := by exact ReS.at hq3 (fr_2317 _ (by first | omega | (dsimp only; omega))) (fr_2317 _ (by first | omega | (dsimp only; omega))) (fr_2317 _ (by first | omega | (dsimp only; omega))) (kp_2318 3 rfl) (by omega) (by omega) (kp_2318 44 rfl) (kp_2318 45 rfl)
                  refine fun I_2332 e_2333 => ?_
                  replace hg := gt_let (y := tI I_2332) (tI_q e_2333) hg
                  have hR_2334 : RI R I_2332 := hR_2316.up0 (k := 49) ra (by decide) (Or.inr hz59) e_2333 (i_lo _) (i_hi _)
                  have hf_2335 : Fm (fun c => c = o ∨ (o + 26 ≤ c ∧ c < o + 34)) I0 I_2332 := hf_2319.set (by first | rfl | omega | (dsimp only; omega)) e_2333
                  have t_2336 : (I_2332 o 3).toInt = (I_2314 o 3).toInt := by rw [← e_2333, q_u_k (by decide)]
                  have t_2337 : (I_2332 o 4).toInt = (I_2314 o 4).toInt := by rw [← e_2333, q_u_k (by decide)]
                  have t_2338 : (I_2332 o 6).toInt = (I_2314 o 6).toInt := by rw [← e_2333, q_u_k (by decide)]
                  have t_2339 : (I_2332 o 7).toInt = (I_2314 o 7).toInt := by rw [← e_2333, q_u_k (by decide)]
                  have t_2340 : (I_2332 o 8).toInt = (I_2314 o 8).toInt := by rw [← e_2333, q_u_k (by decide)]
                  have t_2341 : (I_2332 o 9).toInt = (I_2314 o 9).toInt := by rw [← e_2333, q_u_k (by decide)]
                  have t_2342 : (I_2332 o 44).toInt = (I_2314 o 44).toInt := by rw [← e_2333, q_u_k (by decide)]
                  have t_2343 : (I_2332 o 45).toInt = (I_2314 o 45).toInt := by rw [← e_2333, q_u_k (by decide)]
                  have t_2344 : (I_2332 o 47).toInt = (I_2314 o 47).toInt := by rw [← e_2333, q_u_k (by decide)]
                  have t_2345 : (I_2332 o 48).toInt = (I_2314 o 48).toInt := by rw [← e_2333, q_u_k (by decide)]
                  have k_2346 : MTd I_2332 o := k_2329.fr (by rw [← e_2333]; exact q_u_ne (by omega)) (by rw [← e_2333]; exact q_u_ne (by omega)) (by rw [← e_2333]; exact q_u_ne (by omega))
                  have k_2347 : MPo I_2332 o := u_2311.fr (by rw [← e_2333, q_u_k (by decide)]) (by rw [← e_2333, q_u_k (by decide)])
                  have k_2348 : MTk I_2332 o := u_2312.fr (by rw [← e_2333, q_u_k (by decide)]) (by rw [← e_2333, q_u_k (by decide)]) (by rw [← e_2333, q_u_k (by decide)])
                  have k_2349 : ReS I_2332 o := k_2331.fr (by rw [← e_2333]; exact q_u_ne (by omega)) (by rw [← e_2333]; exact q_u_ne (by omega)) (by rw [← e_2333]; exact q_u_ne (by omega)) (by rw [← e_2333, q_u_k (by decide)]) (by rw [← e_2333, q_u_k (by decide)]) (by rw [← e_2333, q_u_k (by decide)]) (by rw [← e_2333, q_u_k (by decide)])
                  have w_2350 : I_2332 (o + 28) = I0 (o + 28) := by rw [← e_2333, q_u_ne (by omega)]; exact w_2330
                  have g_2351 : (0 : Int) ≤ (I_2332 o 45).toInt ∧ (I_2332 o 45).toInt ≤ 700 := hR_2334.at0 ra 45 (by decide)
                  replace hg := gt_let (y := (I_2332 o 45).toInt) rfl hg
                  refine y_Model_eg hok hw ra hz14 hz15 hz16 hz17 hz18 hz19 hz55 hz56 hz57 hz58 (by first | omega | (intro h; omega) | exact Or.inl rfl | exact Or.inr rfl) (by first | omega | (intro h; omega) | exact Or.inl rfl | exact Or.inr rfl) k_2349 k_2346 k_2347 k_2348 hR_2334 (fun I_2362 L_2363 hR_2364 fr_2365 kp_2366 u_2353 u_2354 u_2355 u_2356 u_2357 u_2358 u_2359 u_2360 gn_2361 => ⟨I_2362, L_2363, rfl, rfl, ?_⟩)
                  replace hg := gt_b3 gn_2361 hg
                  clear gn_2361
                  have hf_2367 : Fm (fun c => c = o ∨ (o + 26 ≤ c ∧ c < o + 34)) I0 I_2362 := hf_2335.call fr_2365 (fun c hc => by first | exact hc | (dsimp only at hc ⊢; omega) | omega)
                  have t_2368 : (I_2362 o 3).toInt = (I_2332 o 3).toInt := by rw [kp_2366 3 rfl]
                  have g_2369 : (0 : Int) ≤ (I_2362 o 4).toInt ∧ (I_2362 o 4).toInt ≤ 5 := hR_2364.at0 ra 4 (by decide)
                  have g_2370 : (0 : Int) ≤ (I_2362 o 6).toInt ∧ (I_2362 o 6).toInt ≤ 1600 := hR_2364.at0 ra 6 (by decide)
                  have g_2371 : (0 : Int) ≤ (I_2362 o 7).toInt ∧ (I_2362 o 7).toInt ≤ 1601 := hR_2364.at0 ra 7 (by decide)
                  have g_2372 : (0 : Int) ≤ (I_2362 o 8).toInt ∧ (I_2362 o 8).toInt ≤ 6 := hR_2364.at0 ra 8 (by decide)
                  have t_2373 : (I_2362 o 44).toInt = (I_2332 o 44).toInt := by rw [kp_2366 44 rfl]
                  have g_2374 : (0 : Int) ≤ (I_2362 o 45).toInt ∧ (I_2362 o 45).toInt ≤ 700 := hR_2364.at0 ra 45 (by decide)
                  have g_2375 : (0 : Int) ≤ (I_2362 o 47).toInt ∧ (I_2362 o 47).toInt ≤ 7 := hR_2364.at0 ra 47 (by decide)
                  have g_2376 : (0 : Int) ≤ (I_2362 o 48).toInt ∧ (I_2362 o 48).toInt ≤ 80 := hR_2364.at0 ra 48 (by decide)
                  have w_2377 : I_2362 (o + 28) = I0 (o + 28) := (fr_2365 (o + 28) (by first | omega | (dsimp only; omega))).trans w_2350
                  have l_2378 : (59 : Int32).toInt = 59 := rfl
                  refine y_Model_isg hok hw ra hR_2364 (fun r_2379 u_2380 u_2381 u_2382 gn_2383 => ⟨r_2379, I_2362, L_2363, rfl, rfl, ?_⟩)
                  replace hg := gt_let gn_2383 hg
                  clear gn_2383
                  have b_2384 : 0 ≤ r_2379.toInt ∧ r_2379.toInt ≤ 1 := u_2380.rg
                  refine y_Model_mustg hok hw ra hz14 hz15 hz16 hz17 hz18 hz19 (by first | omega | (intro h; omega) | exact Or.inl rfl | exact Or.inr rfl) u_2359 u_2360 hR_2364 (fun I_2396 L_2397 hR_2398 fr_2399 kp_2400 u_2386 u_2387 u_2388 u_2389 u_2390 u_2391 u_2392 u_2393 u_2394 gn_2395 => ⟨I_2396, L_2397, rfl, rfl, ?_⟩)
                  replace hg := gt_b3 gn_2395 hg
                  clear gn_2395
                  have hf_2401 : Fm (fun c => c = o ∨ (o + 26 ≤ c ∧ c < o + 34)) I0 I_2396 := hf_2367.call fr_2399 (fun c hc => by first | exact hc | (dsimp only at hc ⊢; omega) | omega)
                  have t_2402 : (I_2396 o 3).toInt = (I_2362 o 3).toInt := by rw [kp_2400 3 rfl]
                  have g_2403 : (0 : Int) ≤ (I_2396 o 4).toInt ∧ (I_2396 o 4).toInt ≤ 5 := hR_2398.at0 ra 4 (by decide)
                  have g_2404 : (0 : Int) ≤ (I_2396 o 6).toInt ∧ (I_2396 o 6).toInt ≤ 1600 := hR_2398.at0 ra 6 (by decide)
                  have g_2405 : (0 : Int) ≤ (I_2396 o 7).toInt ∧ (I_2396 o 7).toInt ≤ 1601 := hR_2398.at0 ra 7 (by decide)
                  have g_2406 : (0 : Int) ≤ (I_2396 o 8).toInt ∧ (I_2396 o 8).toInt ≤ 6 := hR_2398.at0 ra 8 (by decide)
                  have t_2407 : (I_2396 o 44).toInt = (I_2362 o 44).toInt := by rw [kp_2400 44 rfl]
                  have t_2408 : (I_2396 o 45).toInt = (I_2362 o 45).toInt := by rw [kp_2400 45 rfl]
                  have t_2409 : (I_2396 o 47).toInt = (I_2362 o 47).toInt := by rw [kp_2400 47 rfl]
                  have t_2410 : (I_2396 o 48).toInt = (I_2362 o 48).toInt := by rw [kp_2400 48 rfl]
                  have k_2411 : MTd I_2396 o := u_2358.fr (fr_2399 _ (by first | omega | (dsimp only; omega))) (fr_2399 _ (by first | omega | (dsimp only; omega))) (fr_2399 _ (by first | omega | (dsimp only; omega)))
                  have w_2412 : I_2396 (o + 28) = I0 (o + 28) := (fr_2399 (o + 28) (by first | omega | (dsimp only; omega))).trans w_2377
                  have hm26 := fr_2399 (o + 26) (by first | omega | (dsimp only; omega))
                  have hm27 := fr_2399 (o + 27) (by first | omega | (dsimp only; omega))
                  have hm30 := fr_2399 (o + 30) (by first | omega | (dsimp only; omega))
                  have hm3 := kp_2400 3 rfl
                  have hm44 := kp_2400 44 rfl
                  have hm45 := kp_2400 45 rfl
                  have tk2 := u_2394.1
                  have g_2413 : (0 : Int) ≤ (I_2396 o 44).toInt ∧ (I_2396 o 44).toInt ≤ 4 := hR_2398.at0 ra 44 (by decide)
                  replace hg := gt_let (y := (I_2396 o 44).toInt) rfl hg
                  have a_2414 : (10 * (I_2396 o 44)).toInt = 10 * (I_2396 o 44).toInt := tMulL rfl (by omega) (by omega)
                  replace hg := gt_let (y := ((10 * (I_2396 o 44)) : Int32).toInt) (by omega) hg
                  have a_2415 : ((10 * (I_2396 o 44)) + (1 : Int32)).toInt = (10 * (I_2396 o 44)).toInt + (1 : Int32).toInt := tAdd (by omega) (by omega)
                  replace hg := gt_let (y := (((10 * (I_2396 o 44)) + (1 : Int32)) : Int32).toInt) (by omega) hg
                  refine ⟨tIn (by omega) (by omega), fun I_2416 e_2417 => ?_⟩
                  replace hg := gt_let (y := tI I_2416) (tI_q e_2417) hg
                  have hR_2418 : RI R I_2416 := hR_2398.up ra 26 (by decide) (Or.inl rfl) e_2417 (show (-1 : Int) ≤ (I_2332 o 45).toInt by omega) (show (I_2332 o 45).toInt ≤ (700 : Int) by omega)
                  have hf_2419 : Fm (fun c => c = o ∨ (o + 26 ≤ c ∧ c < o + 34)) I0 I_2416 := hf_2401.set (by first | rfl | omega | (dsimp only; omega)) e_2417
                  have t_2420 : (I_2416 o 3).toInt = (I_2396 o 3).toInt := by rw [← e_2417, q_u_ne (by omega)]
                  have t_2421 : (I_2416 o 4).toInt = (I_2396 o 4).toInt := by rw [← e_2417, q_u_ne (by omega)]
                  have t_2422 : (I_2416 o 6).toInt = (I_2396 o 6).toInt := by rw [← e_2417, q_u_ne (by omega)]
                  have t_2423 : (I_2416 o 7).toInt = (I_2396 o 7).toInt := by rw [← e_2417, q_u_ne (by omega)]
                  have t_2424 : (I_2416 o 8).toInt = (I_2396 o 8).toInt := by rw [← e_2417, q_u_ne (by omega)]
                  have t_2425 : (I_2416 o 9).toInt = (I_2396 o 9).toInt := by rw [← e_2417, q_u_ne (by omega)]
                  have t_2426 : (I_2416 o 44).toInt = (I_2396 o 44).toInt := by rw [← e_2417, q_u_ne (by omega)]
                  have t_2427 : (I_2416 o 45).toInt = (I_2396 o 45).toInt := by rw [← e_2417, q_u_ne (by omega)]
                  have t_2428 : (I_2416 o 47).toInt = (I_2396 o 47).toInt := by rw [← e_2417, q_u_ne (by omega)]
                  have t_2429 : (I_2416 o 48).toInt = (I_2396 o 48).toInt := by rw [← e_2417, q_u_ne (by omega)]
                  have k_2431 : MPo I_2416 o := u_2393.fr (by rw [← e_2417, q_u_ne (by omega)]) (by rw [← e_2417, q_u_ne (by omega)])
                  have k_2432 : MTk I_2416 o := u_2394.fr (by rw [← e_2417, q_u_ne (by omega)]) (by rw [← e_2417, q_u_ne (by omega)]) (by rw [← e_2417, q_u_ne (by omega)])
                  have w_2433 : I_2416 (o + 28) = I0 (o + 28) := by rw [← e_2417, q_u_ne (by omega)]; exact w_2412
                  have k_2434 : MTd I_2416 o := by exact MTd.p26 k_2411 e_2417 (by omega)
                  have g_2435 : (0 : Int) ≤ (I_2416 o 44).toInt ∧ (I_2416 o 44).toInt ≤ 4 := hR_2418.at0 ra 44 (by decide)
                  replace hg := gt_let (y := (I_2416 o 44).toInt) rfl hg
                  have a_2436 : (10 * (I_2416 o 44)).toInt = 10 * (I_2416 o 44).toInt := tMulL rfl (by omega) (by omega)
                  replace hg := gt_let (y := ((10 * (I_2416 o 44)) : Int32).toInt) (by omega) hg
                  have a_2437 : ((10 * (I_2416 o 44)) + (1 : Int32)).toInt = (10 * (I_2416 o 44)).toInt + (1 : Int32).toInt := tAdd (by omega) (by omega)
                  replace hg := gt_let (y := (((10 * (I_2416 o 44)) + (1 : Int32)) : Int32).toInt) (by omega) hg
                  have g_2438 : (0 : Int) ≤ (I_2416 o 45).toInt ∧ (I_2416 o 45).toInt ≤ 700 := hR_2418.at0 ra 45 (by decide)
                  replace hg := gt_let (y := (I_2416 o 45).toInt) rfl hg
                  refine ⟨tIn (by omega) (by omega), fun I_2439 e_2440 => ?_⟩
                  replace hg := gt_let (y := tI I_2439) (tI_q e_2440) hg
                  have hR_2441 : RI R I_2439 := hR_2418.up ra 27 (by decide) (Or.inl rfl) e_2440 (show (0 : Int) ≤ (I_2416 o 45).toInt by omega) (show (I_2416 o 45).toInt ≤ (700 : Int) by omega)
                  have hf_2442 : Fm (fun c => c = o ∨ (o + 26 ≤ c ∧ c < o + 34)) I0 I_2439 := hf_2419.set (by first | rfl | omega | (dsimp only; omega)) e_2440
                  have t_2443 : (I_2439 o 3).toInt = (I_2416 o 3).toInt := by rw [← e_2440, q_u_ne (by omega)]
                  have t_2444 : (I_2439 o 4).toInt = (I_2416 o 4).toInt := by rw [← e_2440, q_u_ne (by omega)]
                  have t_2445 : (I_2439 o 6).toInt = (I_2416 o 6).toInt := by rw [← e_2440, q_u_ne (by omega)]
                  have t_2446 : (I_2439 o 7).toInt = (I_2416 o 7).toInt := by rw [← e_2440, q_u_ne (by omega)]
                  have t_2447 : (I_2439 o 8).toInt = (I_2416 o 8).toInt := by rw [← e_2440, q_u_ne (by omega)]
                  have t_2448 : (I_2439 o 9).toInt = (I_2416 o 9).toInt := by rw [← e_2440, q_u_ne (by omega)]
                  have t_2449 : (I_2439 o 44).toInt = (I_2416 o 44).toInt := by rw [← e_2440, q_u_ne (by omega)]
                  have t_2450 : (I_2439 o 45).toInt = (I_2416 o 45).toInt := by rw [← e_2440, q_u_ne (by omega)]
                  have t_2451 : (I_2439 o 47).toInt = (I_2416 o 47).toInt := by rw [← e_2440, q_u_ne (by omega)]
                  have t_2452 : (I_2439 o 48).toInt = (I_2416 o 48).toInt := by rw [← e_2440, q_u_ne (by omega)]
                  have k_2453 : MPo I_2439 o := k_2431.fr (by rw [← e_2440, q_u_ne (by omega)]) (by rw [← e_2440, q_u_ne (by omega)])
                  have k_2454 : MTk I_2439 o := k_2432.fr (by rw [← e_2440, q_u_ne (by omega)]) (by rw [← e_2440, q_u_ne (by omega)]) (by rw [← e_2440, q_u_ne (by omega)])
                  have w_2456 : I_2439 (o + 28) = I0 (o + 28) := by rw [← e_2440, q_u_ne (by omega)]; exact w_2433
                  have k_2457 : MTd I_2439 o := by exact MTd.p27 k_2434 e_2440 (by omega)
                  have k_2458 : ReG I_2439 o := by intro h; exact ReS.put (u_2357 (by omega)) (by omega) hm26 hm27 hm30 hm3 hm44 hm45 (by omega) (by omega) e_2417 e_2440 (by omega) (by omega)
                  have l_2459 : (5 : Int32).toInt = 5 := rfl
                  refine ⟨fun c_2460 => ?_, fun c_2460 => ?_⟩
                  · have d_2461 := iLt c_2460
                    replace hg := gt_pos (by first | exact d_2461 | omega) hg
                    unfold fModel_readReform_228
                    replace hg := (eModel_readReform_228).symm.trans hg
                    have g_2462 : (0 : Int) ≤ (I_2439 o 44).toInt ∧ (I_2439 o 44).toInt ≤ 4 := hR_2441.at0 ra 44 (by decide)
                    replace hg := gt_let (y := (I_2439 o 44).toInt) rfl hg
                    refine ⟨tIn (by omega) (by omega), ?_⟩
                    replace hg := gt_let (y := (I_2439 (o + 29) ((I_2439 o 44) : Int32).toNatClampNeg).toInt) rfl hg
                    replace hg := gt_let (y := (((I_2439 (o + 29) ((I_2439 o 44) : Int32).toNatClampNeg) + 1) : Int32).toInt) (wAdd_eq ((I_2439 (o + 29) ((I_2439 o 44) : Int32).toNatClampNeg) : Int32) (1 : Int32)) hg
                    refine ⟨tIn (by omega) (by omega), fun I_2463 e_2464 => ?_⟩
                    replace hg := gt_let (y := tI I_2463) (tI_q e_2464) hg
                    have hR_2465 : RI R I_2463 := hR_2441.up ra 29 (by decide) (Or.inl rfl) e_2464 (i_lo _) (i_hi _)
                    have hf_2466 : Fm (fun c => c = o ∨ (o + 26 ≤ c ∧ c < o + 34)) I0 I_2463 := hf_2442.set (by first | rfl | omega | (dsimp only; omega)) e_2464
                    have t_2467 : (I_2463 o 3).toInt = (I_2439 o 3).toInt := by rw [← e_2464, q_u_ne (by omega)]
                    have t_2468 : (I_2463 o 4).toInt = (I_2439 o 4).toInt := by rw [← e_2464, q_u_ne (by omega)]
                    have t_2469 : (I_2463 o 6).toInt = (I_2439 o 6).toInt := by rw [← e_2464, q_u_ne (by omega)]
                    have t_2470 : (I_2463 o 7).toInt = (I_2439 o 7).toInt := by rw [← e_2464, q_u_ne (by omega)]
                    have t_2471 : (I_2463 o 8).toInt = (I_2439 o 8).toInt := by rw [← e_2464, q_u_ne (by omega)]
                    have t_2472 : (I_2463 o 9).toInt = (I_2439 o 9).toInt := by rw [← e_2464, q_u_ne (by omega)]
                    have t_2473 : (I_2463 o 44).toInt = (I_2439 o 44).toInt := by rw [← e_2464, q_u_ne (by omega)]
                    have t_2474 : (I_2463 o 45).toInt = (I_2439 o 45).toInt := by rw [← e_2464, q_u_ne (by omega)]
                    have t_2475 : (I_2463 o 47).toInt = (I_2439 o 47).toInt := by rw [← e_2464, q_u_ne (by omega)]
                    have t_2476 : (I_2463 o 48).toInt = (I_2439 o 48).toInt := by rw [← e_2464, q_u_ne (by omega)]
                    have k_2477 : MPo I_2463 o := k_2453.fr (by rw [← e_2464, q_u_ne (by omega)]) (by rw [← e_2464, q_u_ne (by omega)])
                    have k_2478 : MTk I_2463 o := k_2454.fr (by rw [← e_2464, q_u_ne (by omega)]) (by rw [← e_2464, q_u_ne (by omega)]) (by rw [← e_2464, q_u_ne (by omega)])
                    have k_2479 : MTd I_2463 o := k_2457.fr (by rw [← e_2464]; exact q_u_ne (by omega)) (by rw [← e_2464]; exact q_u_ne (by omega)) (by rw [← e_2464]; exact q_u_ne (by omega))
                    have k_2480 : ReG I_2463 o := k_2458.fr (by rw [← e_2464]; exact q_u_ne (by omega)) (by rw [← e_2464]; exact q_u_ne (by omega)) (by rw [← e_2464]; exact q_u_ne (by omega)) (by rw [← e_2464, q_u_ne (by omega)]) (by rw [← e_2464, q_u_ne (by omega)]) (by rw [← e_2464, q_u_ne (by omega)]) (by rw [← e_2464, q_u_ne (by omega)]) (by rw [← e_2464, q_u_ne (by omega)])
                    have w_2481 : I_2463 (o + 28) = I0 (o + 28) := by rw [← e_2464, q_u_ne (by omega)]; exact w_2456
                    exact (hp _ _ hR_2465 hf_2466 (by first | omega | (intro h; omega) | exact Or.inl rfl | exact Or.inr rfl) (by first | omega | (intro h; omega) | exact Or.inl rfl | exact Or.inr rfl) (by first | omega | (intro h; omega) | exact Or.inl rfl | exact Or.inr rfl) (by first | omega | (intro h; omega) | exact Or.inl rfl | exact Or.inr rfl) (by first | omega | (intro h; omega) | exact Or.inl rfl | exact Or.inr rfl) k_2479 k_2477 k_2478 k_2480 hg.symm)
                  · have d_2482 := iNlt c_2460
                    exfalso; omega
                · have d_2483 := iEq c_2301
                  have i_2484 := u_2298 (by omega)
                  replace hg := gt_pos (by first | exact d_2483 | omega) hg
                  exact (hp _ _ hR hf (by first | omega | (intro h; omega) | exact Or.inl rfl | exact Or.inr rfl) (by first | omega | (intro h; omega) | exact Or.inl rfl | exact Or.inr rfl) (by first | omega | (intro h; omega) | exact Or.inl rfl | exact Or.inr rfl) (by first | omega | (intro h; omega) | exact Or.inl rfl | exact Or.inr rfl) (by first | omega | (intro h; omega) | exact Or.inl rfl | exact Or.inr rfl) hq4 hq5 hq6 (fun h => absurd h (by omega)) hg.symm)
              · have d_2485 := iNlt c_2293
                replace hg := gt_neg (by first | exact d_2485 | omega) hg
                refine y_Model_wrongg hok hw ra hz14 hz15 hR (fun I_2490 L_2491 hR_2492 fr_2493 kp_2494 u_2487 u_2488 gn_2489 => ⟨I_2490, L_2491, rfl, rfl, ?_⟩)
                replace hg := gt_b3 gn_2489 hg
                clear gn_2489
                have hf_2495 : Fm (fun c => c = o ∨ (o + 26 ≤ c ∧ c < o + 34)) I0 I_2490 := hf.call fr_2493 (fun c hc => by first | exact hc | (dsimp only at hc ⊢; omega) | omega)
                have t_2496 : (I_2490 o 3).toInt = (I0 o 3).toInt := by rw [kp_2494 3 rfl]
                have g_2497 : (0 : Int) ≤ (I_2490 o 4).toInt ∧ (I_2490 o 4).toInt ≤ 5 := hR_2492.at0 ra 4 (by decide)
                have t_2498 : (I_2490 o 6).toInt = (I0 o 6).toInt := by rw [kp_2494 6 rfl]
                have t_2499 : (I_2490 o 7).toInt = (I0 o 7).toInt := by rw [kp_2494 7 rfl]
                have t_2500 : (I_2490 o 8).toInt = (I0 o 8).toInt := by rw [kp_2494 8 rfl]
                have t_2501 : (I_2490 o 9).toInt = (I0 o 9).toInt := by rw [kp_2494 9 rfl]
                have t_2502 : (I_2490 o 44).toInt = (I0 o 44).toInt := by rw [kp_2494 44 rfl]
                have t_2503 : (I_2490 o 45).toInt = (I0 o 45).toInt := by rw [kp_2494 45 rfl]
                have t_2504 : (I_2490 o 47).toInt = (I0 o 47).toInt := by rw [kp_2494 47 rfl]
                have t_2505 : (I_2490 o 48).toInt = (I0 o 48).toInt := by rw [kp_2494 48 rfl]
                have k_2506 : ReS I_2490 o := hq3.fr (fr_2493 _ (by first | omega | (dsimp only; omega))) (fr_2493 _ (by first | omega | (dsimp only; omega))) (fr_2493 _ (by first | omega | (dsimp only; omega))) (kp_2494 3 rfl) (kp_2494 6 rfl) (kp_2494 44 rfl) (kp_2494 45 rfl)
                have k_2507 : MTd I_2490 o := hq4.fr (fr_2493 _ (by first | omega | (dsimp only; omega))) (fr_2493 _ (by first | omega | (dsimp only; omega))) (fr_2493 _ (by first | omega | (dsimp only; omega)))
                have k_2508 : MPo I_2490 o := hq5.fr (kp_2494 8 rfl) (kp_2494 9 rfl)
                have k_2509 : MTk I_2490 o := hq6.fr (kp_2494 6 rfl) (kp_2494 7 rfl) (kp_2494 8 rfl)
                have w_2510 : I_2490 (o + 28) = I0 (o + 28) := (fr_2493 (o + 28) (by first | omega | (dsimp only; omega)))
                refine y_Model_isGoodg hok hw ra hR_2492 (fun r_2511 u_2512 u_2513 u_2514 gn_2515 => ⟨r_2511, I_2490, L_2491, rfl, rfl, ?_⟩)
                replace hg := gt_let gn_2515 hg
                clear gn_2515
                have b_2516 : 0 ≤ r_2511.toInt ∧ r_2511.toInt ≤ 1 := u_2512.rg
                refine ⟨fun c_2517 => ?_, fun c_2517 => ?_⟩
                · have d_2518 := iNe c_2517
                  have i_2519 := u_2513 (by omega)
                  replace hg := gt_neg (by first | exact d_2518 | omega) hg
                  have tk := k_2509.1
                  refine y_Model_nextg hok hw ra hz16 hz17 hz18 hz19 (by first | omega | (intro h; omega) | exact Or.inl rfl | exact Or.inr rfl) hR_2492 (fun I_2530 L_2531 hR_2532 fr_2533 kp_2534 u_2521 u_2522 u_2523 u_2524 u_2525 u_2526 u_2527 u_2528 gn_2529 => ⟨I_2530, L_2531, rfl, rfl, ?_⟩)
                  replace hg := gt_b3 gn_2529 hg
                  clear gn_2529
                  have hf_2535 : Fm (fun c => c = o ∨ (o + 26 ≤ c ∧ c < o + 34)) I0 I_2530 := hf_2495.call fr_2533 (fun c hc => by first | exact hc | (dsimp only at hc ⊢; omega) | omega)
                  have t_2536 : (I_2530 o 3).toInt = (I_2490 o 3).toInt := by rw [kp_2534 3 rfl]
                  have t_2537 : (I_2530 o 4).toInt = (I_2490 o 4).toInt := by rw [kp_2534 4 rfl]
                  have g_2538 : (0 : Int) ≤ (I_2530 o 6).toInt ∧ (I_2530 o 6).toInt ≤ 1600 := hR_2532.at0 ra 6 (by decide)
                  have g_2539 : (0 : Int) ≤ (I_2530 o 7).toInt ∧ (I_2530 o 7).toInt ≤ 1601 := hR_2532.at0 ra 7 (by decide)
                  have g_2540 : (0 : Int) ≤ (I_2530 o 8).toInt ∧ (I_2530 o 8).toInt ≤ 6 := hR_2532.at0 ra 8 (by decide)
                  have t_2541 : (I_2530 o 44).toInt = (I_2490 o 44).toInt := by rw [kp_2534 44 rfl]
                  have t_2542 : (I_2530 o 45).toInt = (I_2490 o 45).toInt := by rw [kp_2534 45 rfl]
                  have t_2543 : (I_2530 o 47).toInt = (I_2490 o 47).toInt := by rw [kp_2534 47 rfl]
                  have t_2544 : (I_2530 o 48).toInt = (I_2490 o 48).toInt := by rw [kp_2534 48 rfl]
                  have k_2545 : MTd I_2530 o := k_2507.fr (fr_2533 _ (by first | omega | (dsimp only; omega))) (fr_2533 _ (by first | omega | (dsimp only; omega))) (fr_2533 _ (by first | omega | (dsimp only; omega)))
                  have w_2546 : I_2530 (o + 28) = I0 (o + 28) := (fr_2533 (o + 28) (by first | omega | (dsimp only; omega))).trans w_2510
                  have ms := u_2524 (by omega)
                  have k_2547 : ReS I_2530 o := by exact ReS.at k_2506 (fr_2533 _ (by first | omega | (dsimp only; omega))) (fr_2533 _ (by first | omega | (dsimp only; omega))) (fr_2533 _ (by first | omega | (dsimp only; omega))) (kp_2534 3 rfl) (by omega) (by omega) (kp_2534 44 rfl) (kp_2534 45 rfl)
                  refine fun I_2548 e_2549 => ?_
                  replace hg := gt_let (y := tI I_2548) (tI_q e_2549) hg
                  have hR_2550 : RI R I_2548 := hR_2532.up0 (k := 49) ra (by decide) (Or.inr hz59) e_2549 (i_lo _) (i_hi _)
                  have hf_2551 : Fm (fun c => c = o ∨ (o + 26 ≤ c ∧ c < o + 34)) I0 I_2548 := hf_2535.set (by first | rfl | omega | (dsimp only; omega)) e_2549
                  have t_2552 : (I_2548 o 3).toInt = (I_2530 o 3).toInt := by rw [← e_2549, q_u_k (by decide)]
                  have t_2553 : (I_2548 o 4).toInt = (I_2530 o 4).toInt := by rw [← e_2549, q_u_k (by decide)]
                  have t_2554 : (I_2548 o 6).toInt = (I_2530 o 6).toInt := by rw [← e_2549, q_u_k (by decide)]
                  have t_2555 : (I_2548 o 7).toInt = (I_2530 o 7).toInt := by rw [← e_2549, q_u_k (by decide)]
                  have t_2556 : (I_2548 o 8).toInt = (I_2530 o 8).toInt := by rw [← e_2549, q_u_k (by decide)]
                  have t_2557 : (I_2548 o 9).toInt = (I_2530 o 9).toInt := by rw [← e_2549, q_u_k (by decide)]
                  have t_2558 : (I_2548 o 44).toInt = (I_2530 o 44).toInt := by rw [← e_2549, q_u_k (by decide)]
                  have t_2559 : (I_2548 o 45).toInt = (I_2530 o 45).toInt := by rw [← e_2549, q_u_k (by decide)]
                  have t_2560 : (I_2548 o 47).toInt = (I_2530 o 47).toInt := by rw [← e_2549, q_u_k (by decide)]
                  have t_2561 : (I_2548 o 48).toInt = (I_2530 o 48).toInt := by rw [← e_2549, q_u_k (by decide)]
                  have k_2562 : MTd I_2548 o := k_2545.fr (by rw [← e_2549]; exact q_u_ne (by omega)) (by rw [← e_2549]; exact q_u_ne (by omega)) (by rw [← e_2549]; exact q_u_ne (by omega))
                  have k_2563 : MPo I_2548 o := u_2527.fr (by rw [← e_2549, q_u_k (by decide)]) (by rw [← e_2549, q_u_k (by decide)])
                  have k_2564 : MTk I_2548 o := u_2528.fr (by rw [← e_2549, q_u_k (by decide)]) (by rw [← e_2549, q_u_k (by decide)]) (by rw [← e_2549, q_u_k (by decide)])
                  have k_2565 : ReS I_2548 o := k_2547.fr (by rw [← e_2549]; exact q_u_ne (by omega)) (by rw [← e_2549]; exact q_u_ne (by omega)) (by rw [← e_2549]; exact q_u_ne (by omega)) (by rw [← e_2549, q_u_k (by decide)]) (by rw [← e_2549, q_u_k (by decide)]) (by rw [← e_2549, q_u_k (by decide)]) (by rw [← e_2549, q_u_k (by decide)])
                  have w_2566 : I_2548 (o + 28) = I0 (o + 28) := by rw [← e_2549, q_u_ne (by omega)]; exact w_2546
                  have g_2567 : (0 : Int) ≤ (I_2548 o 45).toInt ∧ (I_2548 o 45).toInt ≤ 700 := hR_2550.at0 ra 45 (by decide)
                  replace hg := gt_let (y := (I_2548 o 45).toInt) rfl hg
                  refine y_Model_eg hok hw ra hz14 hz15 hz16 hz17 hz18 hz19 hz55 hz56 hz57 hz58 (by first | omega | (intro h; omega) | exact Or.inl rfl | exact Or.inr rfl) (by first | omega | (intro h; omega) | exact Or.inl rfl | exact Or.inr rfl) k_2565 k_2562 k_2563 k_2564 hR_2550 (fun I_2578 L_2579 hR_2580 fr_2581 kp_2582 u_2569 u_2570 u_2571 u_2572 u_2573 u_2574 u_2575 u_2576 gn_2577 => ⟨I_2578, L_2579, rfl, rfl, ?_⟩)
                  replace hg := gt_b3 gn_2577 hg
                  clear gn_2577
                  have hf_2583 : Fm (fun c => c = o ∨ (o + 26 ≤ c ∧ c < o + 34)) I0 I_2578 := hf_2551.call fr_2581 (fun c hc => by first | exact hc | (dsimp only at hc ⊢; omega) | omega)
                  have t_2584 : (I_2578 o 3).toInt = (I_2548 o 3).toInt := by rw [kp_2582 3 rfl]
                  have g_2585 : (0 : Int) ≤ (I_2578 o 4).toInt ∧ (I_2578 o 4).toInt ≤ 5 := hR_2580.at0 ra 4 (by decide)
                  have g_2586 : (0 : Int) ≤ (I_2578 o 6).toInt ∧ (I_2578 o 6).toInt ≤ 1600 := hR_2580.at0 ra 6 (by decide)
                  have g_2587 : (0 : Int) ≤ (I_2578 o 7).toInt ∧ (I_2578 o 7).toInt ≤ 1601 := hR_2580.at0 ra 7 (by decide)
                  have g_2588 : (0 : Int) ≤ (I_2578 o 8).toInt ∧ (I_2578 o 8).toInt ≤ 6 := hR_2580.at0 ra 8 (by decide)
                  have t_2589 : (I_2578 o 44).toInt = (I_2548 o 44).toInt := by rw [kp_2582 44 rfl]
                  have g_2590 : (0 : Int) ≤ (I_2578 o 45).toInt ∧ (I_2578 o 45).toInt ≤ 700 := hR_2580.at0 ra 45 (by decide)
                  have g_2591 : (0 : Int) ≤ (I_2578 o 47).toInt ∧ (I_2578 o 47).toInt ≤ 7 := hR_2580.at0 ra 47 (by decide)
                  have g_2592 : (0 : Int) ≤ (I_2578 o 48).toInt ∧ (I_2578 o 48).toInt ≤ 80 := hR_2580.at0 ra 48 (by decide)
                  have w_2593 : I_2578 (o + 28) = I0 (o + 28) := (fr_2581 (o + 28) (by first | omega | (dsimp only; omega))).trans w_2566
                  have l_2594 : (59 : Int32).toInt = 59 := rfl
                  refine y_Model_isg hok hw ra hR_2580 (fun r_2595 u_2596 u_2597 u_2598 gn_2599 => ⟨r_2595, I_2578, L_2579, rfl, rfl, ?_⟩)
                  replace hg := gt_let gn_2599 hg
                  clear gn_2599
                  have b_2600 : 0 ≤ r_2595.toInt ∧ r_2595.toInt ≤ 1 := u_2596.rg
                  refine y_Model_mustg hok hw ra hz14 hz15 hz16 hz17 hz18 hz19 (by first | omega | (intro h; omega) | exact Or.inl rfl | exact Or.inr rfl) u_2575 u_2576 hR_2580 (fun I_2612 L_2613 hR_2614 fr_2615 kp_2616 u_2602 u_2603 u_2604 u_2605 u_2606 u_2607 u_2608 u_2609 u_2610 gn_2611 => ⟨I_2612, L_2613, rfl, rfl, ?_⟩)
                  replace hg := gt_b3 gn_2611 hg
                  clear gn_2611
                  have hf_2617 : Fm (fun c => c = o ∨ (o + 26 ≤ c ∧ c < o + 34)) I0 I_2612 := hf_2583.call fr_2615 (fun c hc => by first | exact hc | (dsimp only at hc ⊢; omega) | omega)
                  have t_2618 : (I_2612 o 3).toInt = (I_2578 o 3).toInt := by rw [kp_2616 3 rfl]
                  have g_2619 : (0 : Int) ≤ (I_2612 o 4).toInt ∧ (I_2612 o 4).toInt ≤ 5 := hR_2614.at0 ra 4 (by decide)
                  have g_2620 : (0 : Int) ≤ (I_2612 o 6).toInt ∧ (I_2612 o 6).toInt ≤ 1600 := hR_2614.at0 ra 6 (by decide)
                  have g_2621 : (0 : Int) ≤ (I_2612 o 7).toInt ∧ (I_2612 o 7).toInt ≤ 1601 := hR_2614.at0 ra 7 (by decide)
                  have g_2622 : (0 : Int) ≤ (I_2612 o 8).toInt ∧ (I_2612 o 8).toInt ≤ 6 := hR_2614.at0 ra 8 (by decide)
                  have t_2623 : (I_2612 o 44).toInt = (I_2578 o 44).toInt := by rw [kp_2616 44 rfl]
                  have t_2624 : (I_2612 o 45).toInt = (I_2578 o 45).toInt := by rw [kp_2616 45 rfl]
                  have t_2625 : (I_2612 o 47).toInt = (I_2578 o 47).toInt := by rw [kp_2616 47 rfl]
                  have t_2626 : (I_2612 o 48).toInt = (I_2578 o 48).toInt := by rw [kp_2616 48 rfl]
                  have k_2627 : MTd I_2612 o := u_2574.fr (fr_2615 _ (by first | omega | (dsimp only; omega))) (fr_2615 _ (by first | omega | (dsimp only; omega))) (fr_2615 _ (by first | omega | (dsimp only; omega)))
                  have w_2628 : I_2612 (o + 28) = I0 (o + 28) := (fr_2615 (o + 28) (by first | omega | (dsimp only; omega))).trans w_2593
                  have hm26 := fr_2615 (o + 26) (by first | omega | (dsimp only; omega))
                  have hm27 := fr_2615 (o + 27) (by first | omega | (dsimp only; omega))
                  have hm30 := fr_2615 (o + 30) (by first | omega | (dsimp only; omega))
                  have hm3 := kp_2616 3 rfl
                  have hm44 := kp_2616 44 rfl
                  have hm45 := kp_2616 45 rfl
                  have tk2 := u_2610.1
                  have g_2629 : (0 : Int) ≤ (I_2612 o 44).toInt ∧ (I_2612 o 44).toInt ≤ 4 := hR_2614.at0 ra 44 (by decide)
                  replace hg := gt_let (y := (I_2612 o 44).toInt) rfl hg
                  have a_2630 : (10 * (I_2612 o 44)).toInt = 10 * (I_2612 o 44).toInt := tMulL rfl (by omega) (by omega)
                  replace hg := gt_let (y := ((10 * (I_2612 o 44)) : Int32).toInt) (by omega) hg
                  have a_2631 : ((10 * (I_2612 o 44)) + (1 : Int32)).toInt = (10 * (I_2612 o 44)).toInt + (1 : Int32).toInt := tAdd (by omega) (by omega)
                  replace hg := gt_let (y := (((10 * (I_2612 o 44)) + (1 : Int32)) : Int32).toInt) (by omega) hg
                  refine ⟨tIn (by omega) (by omega), fun I_2632 e_2633 => ?_⟩
                  replace hg := gt_let (y := tI I_2632) (tI_q e_2633) hg
                  have hR_2634 : RI R I_2632 := hR_2614.up ra 26 (by decide) (Or.inl rfl) e_2633 (show (-1 : Int) ≤ (I_2548 o 45).toInt by omega) (show (I_2548 o 45).toInt ≤ (700 : Int) by omega)
                  have hf_2635 : Fm (fun c => c = o ∨ (o + 26 ≤ c ∧ c < o + 34)) I0 I_2632 := hf_2617.set (by first | rfl | omega | (dsimp only; omega)) e_2633
                  have t_2636 : (I_2632 o 3).toInt = (I_2612 o 3).toInt := by rw [← e_2633, q_u_ne (by omega)]
                  have t_2637 : (I_2632 o 4).toInt = (I_2612 o 4).toInt := by rw [← e_2633, q_u_ne (by omega)]
                  have t_2638 : (I_2632 o 6).toInt = (I_2612 o 6).toInt := by rw [← e_2633, q_u_ne (by omega)]
                  have t_2639 : (I_2632 o 7).toInt = (I_2612 o 7).toInt := by rw [← e_2633, q_u_ne (by omega)]
                  have t_2640 : (I_2632 o 8).toInt = (I_2612 o 8).toInt := by rw [← e_2633, q_u_ne (by omega)]
                  have t_2641 : (I_2632 o 9).toInt = (I_2612 o 9).toInt := by rw [← e_2633, q_u_ne (by omega)]
                  have t_2642 : (I_2632 o 44).toInt = (I_2612 o 44).toInt := by rw [← e_2633, q_u_ne (by omega)]
                  have t_2643 : (I_2632 o 45).toInt = (I_2612 o 45).toInt := by rw [← e_2633, q_u_ne (by omega)]
                  have t_2644 : (I_2632 o 47).toInt = (I_2612 o 47).toInt := by rw [← e_2633, q_u_ne (by omega)]
                  have t_2645 : (I_2632 o 48).toInt = (I_2612 o 48).toInt := by rw [← e_2633, q_u_ne (by omega)]
                  have k_2647 : MPo I_2632 o := u_2609.fr (by rw [← e_2633, q_u_ne (by omega)]) (by rw [← e_2633, q_u_ne (by omega)])
                  have k_2648 : MTk I_2632 o := u_2610.fr (by rw [← e_2633, q_u_ne (by omega)]) (by rw [← e_2633, q_u_ne (by omega)]) (by rw [← e_2633, q_u_ne (by omega)])
                  have w_2649 : I_2632 (o + 28) = I0 (o + 28) := by rw [← e_2633, q_u_ne (by omega)]; exact w_2628
                  have k_2650 : MTd I_2632 o := by exact MTd.p26 k_2627 e_2633 (by omega)
                  have g_2651 : (0 : Int) ≤ (I_2632 o 44).toInt ∧ (I_2632 o 44).toInt ≤ 4 := hR_2634.at0 ra 44 (by decide)
                  replace hg := gt_let (y := (I_2632 o 44).toInt) rfl hg
                  have a_2652 : (10 * (I_2632 o 44)).toInt = 10 * (I_2632 o 44).toInt := tMulL rfl (by omega) (by omega)
                  replace hg := gt_let (y := ((10 * (I_2632 o 44)) : Int32).toInt) (by omega) hg
                  have a_2653 : ((10 * (I_2632 o 44)) + (1 : Int32)).toInt = (10 * (I_2632 o 44)).toInt + (1 : Int32).toInt := tAdd (by omega) (by omega)
                  replace hg := gt_let (y := (((10 * (I_2632 o 44)) + (1 : Int32)) : Int32).toInt) (by omega) hg
                  have g_2654 : (0 : Int) ≤ (I_2632 o 45).toInt ∧ (I_2632 o 45).toInt ≤ 700 := hR_2634.at0 ra 45 (by decide)
                  replace hg := gt_let (y := (I_2632 o 45).toInt) rfl hg
                  refine ⟨tIn (by omega) (by omega), fun I_2655 e_2656 => ?_⟩
                  replace hg := gt_let (y := tI I_2655) (tI_q e_2656) hg
                  have hR_2657 : RI R I_2655 := hR_2634.up ra 27 (by decide) (Or.inl rfl) e_2656 (show (0 : Int) ≤ (I_2632 o 45).toInt by omega) (show (I_2632 o 45).toInt ≤ (700 : Int) by omega)
                  have hf_2658 : Fm (fun c => c = o ∨ (o + 26 ≤ c ∧ c < o + 34)) I0 I_2655 := hf_2635.set (by first | rfl | omega | (dsimp only; omega)) e_2656
                  have t_2659 : (I_2655 o 3).toInt = (I_2632 o 3).toInt := by rw [← e_2656, q_u_ne (by omega)]
                  have t_2660 : (I_2655 o 4).toInt = (I_2632 o 4).toInt := by rw [← e_2656, q_u_ne (by omega)]
                  have t_2661 : (I_2655 o 6).toInt = (I_2632 o 6).toInt := by rw [← e_2656, q_u_ne (by omega)]
                  have t_2662 : (I_2655 o 7).toInt = (I_2632 o 7).toInt := by rw [← e_2656, q_u_ne (by omega)]
                  have t_2663 : (I_2655 o 8).toInt = (I_2632 o 8).toInt := by rw [← e_2656, q_u_ne (by omega)]
                  have t_2664 : (I_2655 o 9).toInt = (I_2632 o 9).toInt := by rw [← e_2656, q_u_ne (by omega)]
                  have t_2665 : (I_2655 o 44).toInt = (I_2632 o 44).toInt := by rw [← e_2656, q_u_ne (by omega)]
                  have t_2666 : (I_2655 o 45).toInt = (I_2632 o 45).toInt := by rw [← e_2656, q_u_ne (by omega)]
                  have t_2667 : (I_2655 o 47).toInt = (I_2632 o 47).toInt := by rw [← e_2656, q_u_ne (by omega)]
                  have t_2668 : (I_2655 o 48).toInt = (I_2632 o 48).toInt := by rw [← e_2656, q_u_ne (by omega)]
                  have k_2669 : MPo I_2655 o := k_2647.fr (by rw [← e_2656, q_u_ne (by omega)]) (by rw [← e_2656, q_u_ne (by omega)])
                  have k_2670 : MTk I_2655 o := k_2648.fr (by rw [← e_2656, q_u_ne (by omega)]) (by rw [← e_2656, q_u_ne (by omega)]) (by rw [← e_2656, q_u_ne (by omega)])
                  have w_2672 : I_2655 (o + 28) = I0 (o + 28) := by rw [← e_2656, q_u_ne (by omega)]; exact w_2649
                  have k_2673 : MTd I_2655 o := by exact MTd.p27 k_2650 e_2656 (by omega)
                  have k_2674 : ReG I_2655 o := by intro h; exact ReS.put (u_2573 (by omega)) (by omega) hm26 hm27 hm30 hm3 hm44 hm45 (by omega) (by omega) e_2633 e_2656 (by omega) (by omega)
                  have l_2675 : (5 : Int32).toInt = 5 := rfl
                  refine ⟨fun c_2676 => ?_, fun c_2676 => ?_⟩
                  · have d_2677 := iLt c_2676
                    replace hg := gt_pos (by first | exact d_2677 | omega) hg
                    unfold fModel_readReform_228
                    replace hg := (eModel_readReform_228).symm.trans hg
                    have g_2678 : (0 : Int) ≤ (I_2655 o 44).toInt ∧ (I_2655 o 44).toInt ≤ 4 := hR_2657.at0 ra 44 (by decide)
                    replace hg := gt_let (y := (I_2655 o 44).toInt) rfl hg
                    refine ⟨tIn (by omega) (by omega), ?_⟩
                    replace hg := gt_let (y := (I_2655 (o + 29) ((I_2655 o 44) : Int32).toNatClampNeg).toInt) rfl hg
                    replace hg := gt_let (y := (((I_2655 (o + 29) ((I_2655 o 44) : Int32).toNatClampNeg) + 1) : Int32).toInt) (wAdd_eq ((I_2655 (o + 29) ((I_2655 o 44) : Int32).toNatClampNeg) : Int32) (1 : Int32)) hg
                    refine ⟨tIn (by omega) (by omega), fun I_2679 e_2680 => ?_⟩
                    replace hg := gt_let (y := tI I_2679) (tI_q e_2680) hg
                    have hR_2681 : RI R I_2679 := hR_2657.up ra 29 (by decide) (Or.inl rfl) e_2680 (i_lo _) (i_hi _)
                    have hf_2682 : Fm (fun c => c = o ∨ (o + 26 ≤ c ∧ c < o + 34)) I0 I_2679 := hf_2658.set (by first | rfl | omega | (dsimp only; omega)) e_2680
                    have t_2683 : (I_2679 o 3).toInt = (I_2655 o 3).toInt := by rw [← e_2680, q_u_ne (by omega)]
                    have t_2684 : (I_2679 o 4).toInt = (I_2655 o 4).toInt := by rw [← e_2680, q_u_ne (by omega)]
                    have t_2685 : (I_2679 o 6).toInt = (I_2655 o 6).toInt := by rw [← e_2680, q_u_ne (by omega)]
                    have t_2686 : (I_2679 o 7).toInt = (I_2655 o 7).toInt := by rw [← e_2680, q_u_ne (by omega)]
                    have t_2687 : (I_2679 o 8).toInt = (I_2655 o 8).toInt := by rw [← e_2680, q_u_ne (by omega)]
                    have t_2688 : (I_2679 o 9).toInt = (I_2655 o 9).toInt := by rw [← e_2680, q_u_ne (by omega)]
                    have t_2689 : (I_2679 o 44).toInt = (I_2655 o 44).toInt := by rw [← e_2680, q_u_ne (by omega)]
                    have t_2690 : (I_2679 o 45).toInt = (I_2655 o 45).toInt := by rw [← e_2680, q_u_ne (by omega)]
                    have t_2691 : (I_2679 o 47).toInt = (I_2655 o 47).toInt := by rw [← e_2680, q_u_ne (by omega)]
                    have t_2692 : (I_2679 o 48).toInt = (I_2655 o 48).toInt := by rw [← e_2680, q_u_ne (by omega)]
                    have k_2693 : MPo I_2679 o := k_2669.fr (by rw [← e_2680, q_u_ne (by omega)]) (by rw [← e_2680, q_u_ne (by omega)])
                    have k_2694 : MTk I_2679 o := k_2670.fr (by rw [← e_2680, q_u_ne (by omega)]) (by rw [← e_2680, q_u_ne (by omega)]) (by rw [← e_2680, q_u_ne (by omega)])
                    have k_2695 : MTd I_2679 o := k_2673.fr (by rw [← e_2680]; exact q_u_ne (by omega)) (by rw [← e_2680]; exact q_u_ne (by omega)) (by rw [← e_2680]; exact q_u_ne (by omega))
                    have k_2696 : ReG I_2679 o := k_2674.fr (by rw [← e_2680]; exact q_u_ne (by omega)) (by rw [← e_2680]; exact q_u_ne (by omega)) (by rw [← e_2680]; exact q_u_ne (by omega)) (by rw [← e_2680, q_u_ne (by omega)]) (by rw [← e_2680, q_u_ne (by omega)]) (by rw [← e_2680, q_u_ne (by omega)]) (by rw [← e_2680, q_u_ne (by omega)]) (by rw [← e_2680, q_u_ne (by omega)])
                    have w_2697 : I_2679 (o + 28) = I0 (o + 28) := by rw [← e_2680, q_u_ne (by omega)]; exact w_2672
                    exact (hp _ _ hR_2681 hf_2682 (by first | omega | (intro h; omega) | exact Or.inl rfl | exact Or.inr rfl) (by first | omega | (intro h; omega) | exact Or.inl rfl | exact Or.inr rfl) (by first | omega | (intro h; omega) | exact Or.inl rfl | exact Or.inr rfl) (by first | omega | (intro h; omega) | exact Or.inl rfl | exact Or.inr rfl) (by first | omega | (intro h; omega) | exact Or.inl rfl | exact Or.inr rfl) k_2695 k_2693 k_2694 k_2696 hg.symm)
                  · have d_2698 := iNlt c_2676
                    exfalso; omega
                · have d_2699 := iEq c_2517
                  have i_2700 := u_2514 (by omega)
                  replace hg := gt_pos (by first | exact d_2699 | omega) hg
                  exact (hp _ _ hR_2492 hf_2495 (by first | omega | (intro h; omega) | exact Or.inl rfl | exact Or.inr rfl) (by first | omega | (intro h; omega) | exact Or.inl rfl | exact Or.inr rfl) (by first | omega | (intro h; omega) | exact Or.inl rfl | exact Or.inr rfl) (by first | omega | (intro h; omega) | exact Or.inl rfl | exact Or.inr rfl) (by first | omega | (intro h; omega) | exact Or.inl rfl | exact Or.inr rfl) k_2507 k_2508 k_2509 (fun h => absurd h (by omega)) hg.symm)
            · have d_2701 := iNlt c_2289
              exfalso; omega
  · have d_2702 := iNe c_17
    have i_2703 := u_13 (by omega)
    replace hg := gt_neg (by first | exact d_2702 | omega) hg
    unfold fModel_readReform_95
    replace hg := (eModel_readReform_95).symm.trans hg
    refine ⟨fun c_2704 => ?_, fun c_2704 => ?_⟩
    · have d_2705 := iLt c_2704
      exfalso; omega
    · have d_2706 := iNlt c_2704
      replace hg := gt_neg (by first | exact d_2706 | omega) hg
      have l_2707 : (10 : Int32).toInt = 10 := rfl
      refine ⟨fun c_2708 => ?_, fun c_2708 => ?_⟩
      · have d_2709 := iEq c_2708
        exfalso; omega
      · have d_2710 := iNe c_2708
        replace hg := gt_neg (by first | exact d_2710 | omega) hg
        have g_2711 : (0 : Int) ≤ (I0 o 44).toInt ∧ (I0 o 44).toInt ≤ 4 := hR.at0 ra 44 (by decide)
        replace hg := gt_let (y := (I0 o 44).toInt) rfl hg
        have a_2712 : (10 * (I0 o 44)).toInt = 10 * (I0 o 44).toInt := tMulL rfl (by omega) (by omega)
        replace hg := gt_let (y := ((10 * (I0 o 44)) : Int32).toInt) (by omega) hg
        refine ⟨fun c_2713 => ?_, fun c_2713 => ?_⟩
        · have d_2714 := iLt c_2713
          exfalso; omega
        · have d_2715 := iNlt c_2713
          replace hg := gt_neg (by first | exact d_2715 | omega) hg
          refine ⟨fun c_2716 => ?_, fun c_2716 => ?_⟩
          · have d_2717 := iLt c_2716
            replace hg := gt_pos (by first | exact d_2717 | omega) hg
            unfold fModel_readReform_132
            replace hg := (eModel_readReform_132).symm.trans hg
            have a_2718 : ((10 * (I0 o 44)) + (0 : Int32)).toInt = (10 * (I0 o 44)).toInt + (0 : Int32).toInt := tAdd (by omega) (by omega)
            replace hg := gt_let (y := (((10 * (I0 o 44)) + (0 : Int32)) : Int32).toInt) (by omega) hg
            refine ⟨tIn (by omega) (by omega), ?_⟩
            have g_2719 : (-1 : Int) ≤ (I0 (o + 26) (((10 * (I0 o 44)) + (0 : Int32)) : Int32).toNatClampNeg).toInt ∧ (I0 (o + 26) (((10 * (I0 o 44)) + (0 : Int32)) : Int32).toNatClampNeg).toInt ≤ 700 := hR.at ra 26 _ (by decide)
            replace hg := gt_let (y := (I0 (o + 26) (((10 * (I0 o 44)) + (0 : Int32)) : Int32).toNatClampNeg).toInt) rfl hg
            refine ⟨fun c_2720 => ?_, fun c_2720 => ?_⟩
            · have d_2721 := iLt c_2720
              replace hg := gt_pos (by first | exact d_2721 | omega) hg
              refine y_Model_isGoodg hok hw ra hR (fun r_2722 u_2723 u_2724 u_2725 gn_2726 => ⟨r_2722, I0, L0, rfl, rfl, ?_⟩)
              replace hg := gt_let gn_2726 hg
              clear gn_2726
              have b_2727 : 0 ≤ r_2722.toInt ∧ r_2722.toInt ≤ 1 := u_2723.rg
              refine ⟨fun c_2728 => ?_, fun c_2728 => ?_⟩
              · have d_2729 := iNe c_2728
                have i_2730 := u_2724 (by omega)
                replace hg := gt_neg (by first | exact d_2729 | omega) hg
                have tk := hq6.1
                refine y_Model_nextg hok hw ra hz16 hz17 hz18 hz19 (by first | omega | (intro h; omega) | exact Or.inl rfl | exact Or.inr rfl) hR (fun I_2741 L_2742 hR_2743 fr_2744 kp_2745 u_2732 u_2733 u_2734 u_2735 u_2736 u_2737 u_2738 u_2739 gn_2740 => ⟨I_2741, L_2742, rfl, rfl, ?_⟩)
                replace hg := gt_b3 gn_2740 hg
                clear gn_2740
                have hf_2746 : Fm (fun c => c = o ∨ (o + 26 ≤ c ∧ c < o + 34)) I0 I_2741 := hf.call fr_2744 (fun c hc => by first | exact hc | (dsimp only at hc ⊢; omega) | omega)
                have t_2747 : (I_2741 o 3).toInt = (I0 o 3).toInt := by rw [kp_2745 3 rfl]
                have t_2748 : (I_2741 o 4).toInt = (I0 o 4).toInt := by rw [kp_2745 4 rfl]
                have g_2749 : (0 : Int) ≤ (I_2741 o 6).toInt ∧ (I_2741 o 6).toInt ≤ 1600 := hR_2743.at0 ra 6 (by decide)
                have g_2750 : (0 : Int) ≤ (I_2741 o 7).toInt ∧ (I_2741 o 7).toInt ≤ 1601 := hR_2743.at0 ra 7 (by decide)
                have g_2751 : (0 : Int) ≤ (I_2741 o 8).toInt ∧ (I_2741 o 8).toInt ≤ 6 := hR_2743.at0 ra 8 (by decide)
                have t_2752 : (I_2741 o 44).toInt = (I0 o 44).toInt := by rw [kp_2745 44 rfl]
                have t_2753 : (I_2741 o 45).toInt = (I0 o 45).toInt := by rw [kp_2745 45 rfl]
                have t_2754 : (I_2741 o 47).toInt = (I0 o 47).toInt := by rw [kp_2745 47 rfl]
                have t_2755 : (I_2741 o 48).toInt = (I0 o 48).toInt := by rw [kp_2745 48 rfl]
                have k_2756 : MTd I_2741 o := hq4.fr (fr_2744 _ (by first | omega | (dsimp only; omega))) (fr_2744 _ (by first | omega | (dsimp only; omega))) (fr_2744 _ (by first | omega | (dsimp only; omega)))
                have w_2757 : I_2741 (o + 28) = I0 (o + 28) := (fr_2744 (o + 28) (by first | omega | (dsimp only; omega)))
                have ms := u_2735 (by omega)
                have k_2758 : ReS I_2741 o := by exact ReS.at hq3 (fr_2744 _ (by first | omega | (dsimp only; omega))) (fr_2744 _ (by first | omega | (dsimp only; omega))) (fr_2744 _ (by first | omega | (dsimp only; omega))) (kp_2745 3 rfl) (by omega) (by omega) (kp_2745 44 rfl) (kp_2745 45 rfl)
                refine fun I_2759 e_2760 => ?_
                replace hg := gt_let (y := tI I_2759) (tI_q e_2760) hg
                have hR_2761 : RI R I_2759 := hR_2743.up0 (k := 49) ra (by decide) (Or.inr hz59) e_2760 (i_lo _) (i_hi _)
                have hf_2762 : Fm (fun c => c = o ∨ (o + 26 ≤ c ∧ c < o + 34)) I0 I_2759 := hf_2746.set (by first | rfl | omega | (dsimp only; omega)) e_2760
                have t_2763 : (I_2759 o 3).toInt = (I_2741 o 3).toInt := by rw [← e_2760, q_u_k (by decide)]
                have t_2764 : (I_2759 o 4).toInt = (I_2741 o 4).toInt := by rw [← e_2760, q_u_k (by decide)]
                have t_2765 : (I_2759 o 6).toInt = (I_2741 o 6).toInt := by rw [← e_2760, q_u_k (by decide)]
                have t_2766 : (I_2759 o 7).toInt = (I_2741 o 7).toInt := by rw [← e_2760, q_u_k (by decide)]
                have t_2767 : (I_2759 o 8).toInt = (I_2741 o 8).toInt := by rw [← e_2760, q_u_k (by decide)]
                have t_2768 : (I_2759 o 9).toInt = (I_2741 o 9).toInt := by rw [← e_2760, q_u_k (by decide)]
                have t_2769 : (I_2759 o 44).toInt = (I_2741 o 44).toInt := by rw [← e_2760, q_u_k (by decide)]
                have t_2770 : (I_2759 o 45).toInt = (I_2741 o 45).toInt := by rw [← e_2760, q_u_k (by decide)]
                have t_2771 : (I_2759 o 47).toInt = (I_2741 o 47).toInt := by rw [← e_2760, q_u_k (by decide)]
                have t_2772 : (I_2759 o 48).toInt = (I_2741 o 48).toInt := by rw [← e_2760, q_u_k (by decide)]
                have k_2773 : MTd I_2759 o := k_2756.fr (by rw [← e_2760]; exact q_u_ne (by omega)) (by rw [← e_2760]; exact q_u_ne (by omega)) (by rw [← e_2760]; exact q_u_ne (by omega))
                have k_2774 : MPo I_2759 o := u_2738.fr (by rw [← e_2760, q_u_k (by decide)]) (by rw [← e_2760, q_u_k (by decide)])
                have k_2775 : MTk I_2759 o := u_2739.fr (by rw [← e_2760, q_u_k (by decide)]) (by rw [← e_2760, q_u_k (by decide)]) (by rw [← e_2760, q_u_k (by decide)])
                have k_2776 : ReS I_2759 o := k_2758.fr (by rw [← e_2760]; exact q_u_ne (by omega)) (by rw [← e_2760]; exact q_u_ne (by omega)) (by rw [← e_2760]; exact q_u_ne (by omega)) (by rw [← e_2760, q_u_k (by decide)]) (by rw [← e_2760, q_u_k (by decide)]) (by rw [← e_2760, q_u_k (by decide)]) (by rw [← e_2760, q_u_k (by decide)])
                have w_2777 : I_2759 (o + 28) = I0 (o + 28) := by rw [← e_2760, q_u_ne (by omega)]; exact w_2757
                have g_2778 : (0 : Int) ≤ (I_2759 o 45).toInt ∧ (I_2759 o 45).toInt ≤ 700 := hR_2761.at0 ra 45 (by decide)
                replace hg := gt_let (y := (I_2759 o 45).toInt) rfl hg
                refine y_Model_eg hok hw ra hz14 hz15 hz16 hz17 hz18 hz19 hz55 hz56 hz57 hz58 (by first | omega | (intro h; omega) | exact Or.inl rfl | exact Or.inr rfl) (by first | omega | (intro h; omega) | exact Or.inl rfl | exact Or.inr rfl) k_2776 k_2773 k_2774 k_2775 hR_2761 (fun I_2789 L_2790 hR_2791 fr_2792 kp_2793 u_2780 u_2781 u_2782 u_2783 u_2784 u_2785 u_2786 u_2787 gn_2788 => ⟨I_2789, L_2790, rfl, rfl, ?_⟩)
                replace hg := gt_b3 gn_2788 hg
                clear gn_2788
                have hf_2794 : Fm (fun c => c = o ∨ (o + 26 ≤ c ∧ c < o + 34)) I0 I_2789 := hf_2762.call fr_2792 (fun c hc => by first | exact hc | (dsimp only at hc ⊢; omega) | omega)
                have t_2795 : (I_2789 o 3).toInt = (I_2759 o 3).toInt := by rw [kp_2793 3 rfl]
                have g_2796 : (0 : Int) ≤ (I_2789 o 4).toInt ∧ (I_2789 o 4).toInt ≤ 5 := hR_2791.at0 ra 4 (by decide)
                have g_2797 : (0 : Int) ≤ (I_2789 o 6).toInt ∧ (I_2789 o 6).toInt ≤ 1600 := hR_2791.at0 ra 6 (by decide)
                have g_2798 : (0 : Int) ≤ (I_2789 o 7).toInt ∧ (I_2789 o 7).toInt ≤ 1601 := hR_2791.at0 ra 7 (by decide)
                have g_2799 : (0 : Int) ≤ (I_2789 o 8).toInt ∧ (I_2789 o 8).toInt ≤ 6 := hR_2791.at0 ra 8 (by decide)
                have t_2800 : (I_2789 o 44).toInt = (I_2759 o 44).toInt := by rw [kp_2793 44 rfl]
                have g_2801 : (0 : Int) ≤ (I_2789 o 45).toInt ∧ (I_2789 o 45).toInt ≤ 700 := hR_2791.at0 ra 45 (by decide)
                have g_2802 : (0 : Int) ≤ (I_2789 o 47).toInt ∧ (I_2789 o 47).toInt ≤ 7 := hR_2791.at0 ra 47 (by decide)
                have g_2803 : (0 : Int) ≤ (I_2789 o 48).toInt ∧ (I_2789 o 48).toInt ≤ 80 := hR_2791.at0 ra 48 (by decide)
                have w_2804 : I_2789 (o + 28) = I0 (o + 28) := (fr_2792 (o + 28) (by first | omega | (dsimp only; omega))).trans w_2777
                have l_2805 : (59 : Int32).toInt = 59 := rfl
                refine y_Model_isg hok hw ra hR_2791 (fun r_2806 u_2807 u_2808 u_2809 gn_2810 => ⟨r_2806, I_2789, L_2790, rfl, rfl, ?_⟩)
                replace hg := gt_let gn_2810 hg
                clear gn_2810
                have b_2811 : 0 ≤ r_2806.toInt ∧ r_2806.toInt ≤ 1 := u_2807.rg
                refine y_Model_mustg hok hw ra hz14 hz15 hz16 hz17 hz18 hz19 (by first | omega | (intro h; omega) | exact Or.inl rfl | exact Or.inr rfl) u_2786 u_2787 hR_2791 (fun I_2823 L_2824 hR_2825 fr_2826 kp_2827 u_2813 u_2814 u_2815 u_2816 u_2817 u_2818 u_2819 u_2820 u_2821 gn_2822 => ⟨I_2823, L_2824, rfl, rfl, ?_⟩)
                replace hg := gt_b3 gn_2822 hg
                clear gn_2822
                have hf_2828 : Fm (fun c => c = o ∨ (o + 26 ≤ c ∧ c < o + 34)) I0 I_2823 := hf_2794.call fr_2826 (fun c hc => by first | exact hc | (dsimp only at hc ⊢; omega) | omega)
                have t_2829 : (I_2823 o 3).toInt = (I_2789 o 3).toInt := by rw [kp_2827 3 rfl]
                have g_2830 : (0 : Int) ≤ (I_2823 o 4).toInt ∧ (I_2823 o 4).toInt ≤ 5 := hR_2825.at0 ra 4 (by decide)
                have g_2831 : (0 : Int) ≤ (I_2823 o 6).toInt ∧ (I_2823 o 6).toInt ≤ 1600 := hR_2825.at0 ra 6 (by decide)
                have g_2832 : (0 : Int) ≤ (I_2823 o 7).toInt ∧ (I_2823 o 7).toInt ≤ 1601 := hR_2825.at0 ra 7 (by decide)
                have g_2833 : (0 : Int) ≤ (I_2823 o 8).toInt ∧ (I_2823 o 8).toInt ≤ 6 := hR_2825.at0 ra 8 (by decide)
                have t_2834 : (I_2823 o 44).toInt = (I_2789 o 44).toInt := by rw [kp_2827 44 rfl]
                have t_2835 : (I_2823 o 45).toInt = (I_2789 o 45).toInt := by rw [kp_2827 45 rfl]
                have t_2836 : (I_2823 o 47).toInt = (I_2789 o 47).toInt := by rw [kp_2827 47 rfl]
                have t_2837 : (I_2823 o 48).toInt = (I_2789 o 48).toInt := by rw [kp_2827 48 rfl]
                have k_2838 : MTd I_2823 o := u_2785.fr (fr_2826 _ (by first | omega | (dsimp only; omega))) (fr_2826 _ (by first | omega | (dsimp only; omega))) (fr_2826 _ (by first | omega | (dsimp only; omega)))
                have w_2839 : I_2823 (o + 28) = I0 (o + 28) := (fr_2826 (o + 28) (by first | omega | (dsimp only; omega))).trans w_2804
                have hm26 := fr_2826 (o + 26) (by first | omega | (dsimp only; omega))
                have hm27 := fr_2826 (o + 27) (by first | omega | (dsimp only; omega))
                have hm30 := fr_2826 (o + 30) (by first | omega | (dsimp only; omega))
                have hm3 := kp_2827 3 rfl
                have hm44 := kp_2827 44 rfl
                have hm45 := kp_2827 45 rfl
                have tk2 := u_2821.1
                have g_2840 : (0 : Int) ≤ (I_2823 o 44).toInt ∧ (I_2823 o 44).toInt ≤ 4 := hR_2825.at0 ra 44 (by decide)
                replace hg := gt_let (y := (I_2823 o 44).toInt) rfl hg
                have a_2841 : (10 * (I_2823 o 44)).toInt = 10 * (I_2823 o 44).toInt := tMulL rfl (by omega) (by omega)
                replace hg := gt_let (y := ((10 * (I_2823 o 44)) : Int32).toInt) (by omega) hg
                have a_2842 : ((10 * (I_2823 o 44)) + (0 : Int32)).toInt = (10 * (I_2823 o 44)).toInt + (0 : Int32).toInt := tAdd (by omega) (by omega)
                replace hg := gt_let (y := (((10 * (I_2823 o 44)) + (0 : Int32)) : Int32).toInt) (by omega) hg
                refine ⟨tIn (by omega) (by omega), fun I_2843 e_2844 => ?_⟩
                replace hg := gt_let (y := tI I_2843) (tI_q e_2844) hg
                have hR_2845 : RI R I_2843 := hR_2825.up ra 26 (by decide) (Or.inl rfl) e_2844 (show (-1 : Int) ≤ (I_2759 o 45).toInt by omega) (show (I_2759 o 45).toInt ≤ (700 : Int) by omega)
                have hf_2846 : Fm (fun c => c = o ∨ (o + 26 ≤ c ∧ c < o + 34)) I0 I_2843 := hf_2828.set (by first | rfl | omega | (dsimp only; omega)) e_2844
                have t_2847 : (I_2843 o 3).toInt = (I_2823 o 3).toInt := by rw [← e_2844, q_u_ne (by omega)]
                have t_2848 : (I_2843 o 4).toInt = (I_2823 o 4).toInt := by rw [← e_2844, q_u_ne (by omega)]
                have t_2849 : (I_2843 o 6).toInt = (I_2823 o 6).toInt := by rw [← e_2844, q_u_ne (by omega)]
                have t_2850 : (I_2843 o 7).toInt = (I_2823 o 7).toInt := by rw [← e_2844, q_u_ne (by omega)]
                have t_2851 : (I_2843 o 8).toInt = (I_2823 o 8).toInt := by rw [← e_2844, q_u_ne (by omega)]
                have t_2852 : (I_2843 o 9).toInt = (I_2823 o 9).toInt := by rw [← e_2844, q_u_ne (by omega)]
                have t_2853 : (I_2843 o 44).toInt = (I_2823 o 44).toInt := by rw [← e_2844, q_u_ne (by omega)]
                have t_2854 : (I_2843 o 45).toInt = (I_2823 o 45).toInt := by rw [← e_2844, q_u_ne (by omega)]
                have t_2855 : (I_2843 o 47).toInt = (I_2823 o 47).toInt := by rw [← e_2844, q_u_ne (by omega)]
                have t_2856 : (I_2843 o 48).toInt = (I_2823 o 48).toInt := by rw [← e_2844, q_u_ne (by omega)]
                have k_2858 : MPo I_2843 o := u_2820.fr (by rw [← e_2844, q_u_ne (by omega)]) (by rw [← e_2844, q_u_ne (by omega)])
                have k_2859 : MTk I_2843 o := u_2821.fr (by rw [← e_2844, q_u_ne (by omega)]) (by rw [← e_2844, q_u_ne (by omega)]) (by rw [← e_2844, q_u_ne (by omega)])
                have w_2860 : I_2843 (o + 28) = I0 (o + 28) := by rw [← e_2844, q_u_ne (by omega)]; exact w_2839
                have k_2861 : MTd I_2843 o := by exact MTd.p26 k_2838 e_2844 (by omega)
                have g_2862 : (0 : Int) ≤ (I_2843 o 44).toInt ∧ (I_2843 o 44).toInt ≤ 4 := hR_2845.at0 ra 44 (by decide)
                replace hg := gt_let (y := (I_2843 o 44).toInt) rfl hg
                have a_2863 : (10 * (I_2843 o 44)).toInt = 10 * (I_2843 o 44).toInt := tMulL rfl (by omega) (by omega)
                replace hg := gt_let (y := ((10 * (I_2843 o 44)) : Int32).toInt) (by omega) hg
                have a_2864 : ((10 * (I_2843 o 44)) + (0 : Int32)).toInt = (10 * (I_2843 o 44)).toInt + (0 : Int32).toInt := tAdd (by omega) (by omega)
                replace hg := gt_let (y := (((10 * (I_2843 o 44)) + (0 : Int32)) : Int32).toInt) (by omega) hg
                have g_2865 : (0 : Int) ≤ (I_2843 o 45).toInt ∧ (I_2843 o 45).toInt ≤ 700 := hR_2845.at0 ra 45 (by decide)
                replace hg := gt_let (y := (I_2843 o 45).toInt) rfl hg
                refine ⟨tIn (by omega) (by omega), fun I_2866 e_2867 => ?_⟩
                replace hg := gt_let (y := tI I_2866) (tI_q e_2867) hg
                have hR_2868 : RI R I_2866 := hR_2845.up ra 27 (by decide) (Or.inl rfl) e_2867 (show (0 : Int) ≤ (I_2843 o 45).toInt by omega) (show (I_2843 o 45).toInt ≤ (700 : Int) by omega)
                have hf_2869 : Fm (fun c => c = o ∨ (o + 26 ≤ c ∧ c < o + 34)) I0 I_2866 := hf_2846.set (by first | rfl | omega | (dsimp only; omega)) e_2867
                have t_2870 : (I_2866 o 3).toInt = (I_2843 o 3).toInt := by rw [← e_2867, q_u_ne (by omega)]
                have t_2871 : (I_2866 o 4).toInt = (I_2843 o 4).toInt := by rw [← e_2867, q_u_ne (by omega)]
                have t_2872 : (I_2866 o 6).toInt = (I_2843 o 6).toInt := by rw [← e_2867, q_u_ne (by omega)]
                have t_2873 : (I_2866 o 7).toInt = (I_2843 o 7).toInt := by rw [← e_2867, q_u_ne (by omega)]
                have t_2874 : (I_2866 o 8).toInt = (I_2843 o 8).toInt := by rw [← e_2867, q_u_ne (by omega)]
                have t_2875 : (I_2866 o 9).toInt = (I_2843 o 9).toInt := by rw [← e_2867, q_u_ne (by omega)]
                have t_2876 : (I_2866 o 44).toInt = (I_2843 o 44).toInt := by rw [← e_2867, q_u_ne (by omega)]
                have t_2877 : (I_2866 o 45).toInt = (I_2843 o 45).toInt := by rw [← e_2867, q_u_ne (by omega)]
                have t_2878 : (I_2866 o 47).toInt = (I_2843 o 47).toInt := by rw [← e_2867, q_u_ne (by omega)]
                have t_2879 : (I_2866 o 48).toInt = (I_2843 o 48).toInt := by rw [← e_2867, q_u_ne (by omega)]
                have k_2880 : MPo I_2866 o := k_2858.fr (by rw [← e_2867, q_u_ne (by omega)]) (by rw [← e_2867, q_u_ne (by omega)])
                have k_2881 : MTk I_2866 o := k_2859.fr (by rw [← e_2867, q_u_ne (by omega)]) (by rw [← e_2867, q_u_ne (by omega)]) (by rw [← e_2867, q_u_ne (by omega)])
                have w_2883 : I_2866 (o + 28) = I0 (o + 28) := by rw [← e_2867, q_u_ne (by omega)]; exact w_2860
                have k_2884 : MTd I_2866 o := by exact MTd.p27 k_2861 e_2867 (by omega)
                have k_2885 : ReG I_2866 o := by intro h; exact ReS.put (u_2784 (by omega)) (by omega) hm26 hm27 hm30 hm3 hm44 hm45 (by omega) (by omega) e_2844 e_2867 (by omega) (by omega)
                have l_2886 : (5 : Int32).toInt = 5 := rfl
                refine ⟨fun c_2887 => ?_, fun c_2887 => ?_⟩
                · have d_2888 := iLt c_2887
                  replace hg := gt_pos (by first | exact d_2888 | omega) hg
                  unfold fModel_readReform_228
                  replace hg := (eModel_readReform_228).symm.trans hg
                  have g_2889 : (0 : Int) ≤ (I_2866 o 44).toInt ∧ (I_2866 o 44).toInt ≤ 4 := hR_2868.at0 ra 44 (by decide)
                  replace hg := gt_let (y := (I_2866 o 44).toInt) rfl hg
                  refine ⟨tIn (by omega) (by omega), ?_⟩
                  replace hg := gt_let (y := (I_2866 (o + 29) ((I_2866 o 44) : Int32).toNatClampNeg).toInt) rfl hg
                  have l_2890 : (1 : Int32).toInt = 1 := rfl
                  replace hg := gt_let (y := (((I_2866 (o + 29) ((I_2866 o 44) : Int32).toNatClampNeg) + 1) : Int32).toInt) (wAdd_eq ((I_2866 (o + 29) ((I_2866 o 44) : Int32).toNatClampNeg) : Int32) (1 : Int32)) hg
                  refine ⟨tIn (by omega) (by omega), fun I_2891 e_2892 => ?_⟩
                  replace hg := gt_let (y := tI I_2891) (tI_q e_2892) hg
                  have hR_2893 : RI R I_2891 := hR_2868.up ra 29 (by decide) (Or.inl rfl) e_2892 (i_lo _) (i_hi _)
                  have hf_2894 : Fm (fun c => c = o ∨ (o + 26 ≤ c ∧ c < o + 34)) I0 I_2891 := hf_2869.set (by first | rfl | omega | (dsimp only; omega)) e_2892
                  have t_2895 : (I_2891 o 3).toInt = (I_2866 o 3).toInt := by rw [← e_2892, q_u_ne (by omega)]
                  have t_2896 : (I_2891 o 4).toInt = (I_2866 o 4).toInt := by rw [← e_2892, q_u_ne (by omega)]
                  have t_2897 : (I_2891 o 6).toInt = (I_2866 o 6).toInt := by rw [← e_2892, q_u_ne (by omega)]
                  have t_2898 : (I_2891 o 7).toInt = (I_2866 o 7).toInt := by rw [← e_2892, q_u_ne (by omega)]
                  have t_2899 : (I_2891 o 8).toInt = (I_2866 o 8).toInt := by rw [← e_2892, q_u_ne (by omega)]
                  have t_2900 : (I_2891 o 9).toInt = (I_2866 o 9).toInt := by rw [← e_2892, q_u_ne (by omega)]
                  have t_2901 : (I_2891 o 44).toInt = (I_2866 o 44).toInt := by rw [← e_2892, q_u_ne (by omega)]
                  have t_2902 : (I_2891 o 45).toInt = (I_2866 o 45).toInt := by rw [← e_2892, q_u_ne (by omega)]
                  have t_2903 : (I_2891 o 47).toInt = (I_2866 o 47).toInt := by rw [← e_2892, q_u_ne (by omega)]
                  have t_2904 : (I_2891 o 48).toInt = (I_2866 o 48).toInt := by rw [← e_2892, q_u_ne (by omega)]
                  have k_2905 : MPo I_2891 o := k_2880.fr (by rw [← e_2892, q_u_ne (by omega)]) (by rw [← e_2892, q_u_ne (by omega)])
                  have k_2906 : MTk I_2891 o := k_2881.fr (by rw [← e_2892, q_u_ne (by omega)]) (by rw [← e_2892, q_u_ne (by omega)]) (by rw [← e_2892, q_u_ne (by omega)])
                  have k_2907 : MTd I_2891 o := k_2884.fr (by rw [← e_2892]; exact q_u_ne (by omega)) (by rw [← e_2892]; exact q_u_ne (by omega)) (by rw [← e_2892]; exact q_u_ne (by omega))
                  have k_2908 : ReG I_2891 o := k_2885.fr (by rw [← e_2892]; exact q_u_ne (by omega)) (by rw [← e_2892]; exact q_u_ne (by omega)) (by rw [← e_2892]; exact q_u_ne (by omega)) (by rw [← e_2892, q_u_ne (by omega)]) (by rw [← e_2892, q_u_ne (by omega)]) (by rw [← e_2892, q_u_ne (by omega)]) (by rw [← e_2892, q_u_ne (by omega)]) (by rw [← e_2892, q_u_ne (by omega)])
                  have w_2909 : I_2891 (o + 28) = I0 (o + 28) := by rw [← e_2892, q_u_ne (by omega)]; exact w_2883
                  exact (hp _ _ hR_2893 hf_2894 (by first | omega | (intro h; omega) | exact Or.inl rfl | exact Or.inr rfl) (by first | omega | (intro h; omega) | exact Or.inl rfl | exact Or.inr rfl) (by first | omega | (intro h; omega) | exact Or.inl rfl | exact Or.inr rfl) (by first | omega | (intro h; omega) | exact Or.inl rfl | exact Or.inr rfl) (by first | omega | (intro h; omega) | exact Or.inl rfl | exact Or.inr rfl) k_2907 k_2905 k_2906 k_2908 hg.symm)
                · have d_2910 := iNlt c_2887
                  exfalso; omega
              · have d_2911 := iEq c_2728
                have i_2912 := u_2725 (by omega)
                replace hg := gt_pos (by first | exact d_2911 | omega) hg
                exact (hp _ _ hR hf (by first | omega | (intro h; omega) | exact Or.inl rfl | exact Or.inr rfl) (by first | omega | (intro h; omega) | exact Or.inl rfl | exact Or.inr rfl) (by first | omega | (intro h; omega) | exact Or.inl rfl | exact Or.inr rfl) (by first | omega | (intro h; omega) | exact Or.inl rfl | exact Or.inr rfl) (by first | omega | (intro h; omega) | exact Or.inl rfl | exact Or.inr rfl) hq4 hq5 hq6 (fun h => absurd h (by omega)) hg.symm)
            · have d_2913 := iNlt c_2720
              replace hg := gt_neg (by first | exact d_2913 | omega) hg
              refine y_Model_wrongg hok hw ra hz14 hz15 hR (fun I_2918 L_2919 hR_2920 fr_2921 kp_2922 u_2915 u_2916 gn_2917 => ⟨I_2918, L_2919, rfl, rfl, ?_⟩)
              replace hg := gt_b3 gn_2917 hg
              clear gn_2917
              have hf_2923 : Fm (fun c => c = o ∨ (o + 26 ≤ c ∧ c < o + 34)) I0 I_2918 := hf.call fr_2921 (fun c hc => by first | exact hc | (dsimp only at hc ⊢; omega) | omega)
              have t_2924 : (I_2918 o 3).toInt = (I0 o 3).toInt := by rw [kp_2922 3 rfl]
              have g_2925 : (0 : Int) ≤ (I_2918 o 4).toInt ∧ (I_2918 o 4).toInt ≤ 5 := hR_2920.at0 ra 4 (by decide)
              have t_2926 : (I_2918 o 6).toInt = (I0 o 6).toInt := by rw [kp_2922 6 rfl]
              have t_2927 : (I_2918 o 7).toInt = (I0 o 7).toInt := by rw [kp_2922 7 rfl]
              have t_2928 : (I_2918 o 8).toInt = (I0 o 8).toInt := by rw [kp_2922 8 rfl]
              have t_2929 : (I_2918 o 9).toInt = (I0 o 9).toInt := by rw [kp_2922 9 rfl]
              have t_2930 : (I_2918 o 44).toInt = (I0 o 44).toInt := by rw [kp_2922 44 rfl]
              have t_2931 : (I_2918 o 45).toInt = (I0 o 45).toInt := by rw [kp_2922 45 rfl]
              have t_2932 : (I_2918 o 47).toInt = (I0 o 47).toInt := by rw [kp_2922 47 rfl]
              have t_2933 : (I_2918 o 48).toInt = (I0 o 48).toInt := by rw [kp_2922 48 rfl]
              have k_2934 : ReS I_2918 o := hq3.fr (fr_2921 _ (by first | omega | (dsimp only; omega))) (fr_2921 _ (by first | omega | (dsimp only; omega))) (fr_2921 _ (by first | omega | (dsimp only; omega))) (kp_2922 3 rfl) (kp_2922 6 rfl) (kp_2922 44 rfl) (kp_2922 45 rfl)
              have k_2935 : MTd I_2918 o := hq4.fr (fr_2921 _ (by first | omega | (dsimp only; omega))) (fr_2921 _ (by first | omega | (dsimp only; omega))) (fr_2921 _ (by first | omega | (dsimp only; omega)))
              have k_2936 : MPo I_2918 o := hq5.fr (kp_2922 8 rfl) (kp_2922 9 rfl)
              have k_2937 : MTk I_2918 o := hq6.fr (kp_2922 6 rfl) (kp_2922 7 rfl) (kp_2922 8 rfl)
              have w_2938 : I_2918 (o + 28) = I0 (o + 28) := (fr_2921 (o + 28) (by first | omega | (dsimp only; omega)))
              refine y_Model_isGoodg hok hw ra hR_2920 (fun r_2939 u_2940 u_2941 u_2942 gn_2943 => ⟨r_2939, I_2918, L_2919, rfl, rfl, ?_⟩)
              replace hg := gt_let gn_2943 hg
              clear gn_2943
              have b_2944 : 0 ≤ r_2939.toInt ∧ r_2939.toInt ≤ 1 := u_2940.rg
              refine ⟨fun c_2945 => ?_, fun c_2945 => ?_⟩
              · have d_2946 := iNe c_2945
                have i_2947 := u_2941 (by omega)
                replace hg := gt_neg (by first | exact d_2946 | omega) hg
                have tk := k_2937.1
                refine y_Model_nextg hok hw ra hz16 hz17 hz18 hz19 (by first | omega | (intro h; omega) | exact Or.inl rfl | exact Or.inr rfl) hR_2920 (fun I_2958 L_2959 hR_2960 fr_2961 kp_2962 u_2949 u_2950 u_2951 u_2952 u_2953 u_2954 u_2955 u_2956 gn_2957 => ⟨I_2958, L_2959, rfl, rfl, ?_⟩)
                replace hg := gt_b3 gn_2957 hg
                clear gn_2957
                have hf_2963 : Fm (fun c => c = o ∨ (o + 26 ≤ c ∧ c < o + 34)) I0 I_2958 := hf_2923.call fr_2961 (fun c hc => by first | exact hc | (dsimp only at hc ⊢; omega) | omega)
                have t_2964 : (I_2958 o 3).toInt = (I_2918 o 3).toInt := by rw [kp_2962 3 rfl]
                have t_2965 : (I_2958 o 4).toInt = (I_2918 o 4).toInt := by rw [kp_2962 4 rfl]
                have g_2966 : (0 : Int) ≤ (I_2958 o 6).toInt ∧ (I_2958 o 6).toInt ≤ 1600 := hR_2960.at0 ra 6 (by decide)
                have g_2967 : (0 : Int) ≤ (I_2958 o 7).toInt ∧ (I_2958 o 7).toInt ≤ 1601 := hR_2960.at0 ra 7 (by decide)
                have g_2968 : (0 : Int) ≤ (I_2958 o 8).toInt ∧ (I_2958 o 8).toInt ≤ 6 := hR_2960.at0 ra 8 (by decide)
                have t_2969 : (I_2958 o 44).toInt = (I_2918 o 44).toInt := by rw [kp_2962 44 rfl]
                have t_2970 : (I_2958 o 45).toInt = (I_2918 o 45).toInt := by rw [kp_2962 45 rfl]
                have t_2971 : (I_2958 o 47).toInt = (I_2918 o 47).toInt := by rw [kp_2962 47 rfl]
                have t_2972 : (I_2958 o 48).toInt = (I_2918 o 48).toInt := by rw [kp_2962 48 rfl]
                have k_2973 : MTd I_2958 o := k_2935.fr (fr_2961 _ (by first | omega | (dsimp only; omega))) (fr_2961 _ (by first | omega | (dsimp only; omega))) (fr_2961 _ (by first | omega | (dsimp only; omega)))
                have w_2974 : I_2958 (o + 28) = I0 (o + 28) := (fr_2961 (o + 28) (by first | omega | (dsimp only; omega))).trans w_2938
                have ms := u_2952 (by omega)
                have k_2975 : ReS I_2958 o := by exact ReS.at k_2934 (fr_2961 _ (by first | omega | (dsimp only; omega))) (fr_2961 _ (by first | omega | (dsimp only; omega))) (fr_2961 _ (by first | omega | (dsimp only; omega))) (kp_2962 3 rfl) (by omega) (by omega) (kp_2962 44 rfl) (kp_2962 45 rfl)
                refine fun I_2976 e_2977 => ?_
                replace hg := gt_let (y := tI I_2976) (tI_q e_2977) hg
                have hR_2978 : RI R I_2976 := hR_2960.up0 (k := 49) ra (by decide) (Or.inr hz59) e_2977 (i_lo _) (i_hi _)
                have hf_2979 : Fm (fun c => c = o ∨ (o + 26 ≤ c ∧ c < o + 34)) I0 I_2976 := hf_2963.set (by first | rfl | omega | (dsimp only; omega)) e_2977
                have t_2980 : (I_2976 o 3).toInt = (I_2958 o 3).toInt := by rw [← e_2977, q_u_k (by decide)]
                have t_2981 : (I_2976 o 4).toInt = (I_2958 o 4).toInt := by rw [← e_2977, q_u_k (by decide)]
                have t_2982 : (I_2976 o 6).toInt = (I_2958 o 6).toInt := by rw [← e_2977, q_u_k (by decide)]
                have t_2983 : (I_2976 o 7).toInt = (I_2958 o 7).toInt := by rw [← e_2977, q_u_k (by decide)]
                have t_2984 : (I_2976 o 8).toInt = (I_2958 o 8).toInt := by rw [← e_2977, q_u_k (by decide)]
                have t_2985 : (I_2976 o 9).toInt = (I_2958 o 9).toInt := by rw [← e_2977, q_u_k (by decide)]
                have t_2986 : (I_2976 o 44).toInt = (I_2958 o 44).toInt := by rw [← e_2977, q_u_k (by decide)]
                have t_2987 : (I_2976 o 45).toInt = (I_2958 o 45).toInt := by rw [← e_2977, q_u_k (by decide)]
                have t_2988 : (I_2976 o 47).toInt = (I_2958 o 47).toInt := by rw [← e_2977, q_u_k (by decide)]
                have t_2989 : (I_2976 o 48).toInt = (I_2958 o 48).toInt := by rw [← e_2977, q_u_k (by decide)]
                have k_2990 : MTd I_2976 o := k_2973.fr (by rw [← e_2977]; exact q_u_ne (by omega)) (by rw [← e_2977]; exact q_u_ne (by omega)) (by rw [← e_2977]; exact q_u_ne (by omega))
                have k_2991 : MPo I_2976 o := u_2955.fr (by rw [← e_2977, q_u_k (by decide)]) (by rw [← e_2977, q_u_k (by decide)])
                have k_2992 : MTk I_2976 o := u_2956.fr (by rw [← e_2977, q_u_k (by decide)]) (by rw [← e_2977, q_u_k (by decide)]) (by rw [← e_2977, q_u_k (by decide)])
                have k_2993 : ReS I_2976 o := k_2975.fr (by rw [← e_2977]; exact q_u_ne (by omega)) (by rw [← e_2977]; exact q_u_ne (by omega)) (by rw [← e_2977]; exact q_u_ne (by omega)) (by rw [← e_2977, q_u_k (by decide)]) (by rw [← e_2977, q_u_k (by decide)]) (by rw [← e_2977, q_u_k (by decide)]) (by rw [← e_2977, q_u_k (by decide)])
                have w_2994 : I_2976 (o + 28) = I0 (o + 28) := by rw [← e_2977, q_u_ne (by omega)]; exact w_2974
                have g_2995 : (0 : Int) ≤ (I_2976 o 45).toInt ∧ (I_2976 o 45).toInt ≤ 700 := hR_2978.at0 ra 45 (by decide)
                replace hg := gt_let (y := (I_2976 o 45).toInt) rfl hg
                refine y_Model_eg hok hw ra hz14 hz15 hz16 hz17 hz18 hz19 hz55 hz56 hz57 hz58 (by first | omega | (intro h; omega) | exact Or.inl rfl | exact Or.inr rfl) (by first | omega | (intro h; omega) | exact Or.inl rfl | exact Or.inr rfl) k_2993 k_2990 k_2991 k_2992 hR_2978 (fun I_3006 L_3007 hR_3008 fr_3009 kp_3010 u_2997 u_2998 u_2999 u_3000 u_3001 u_3002 u_3003 u_3004 gn_3005 => ⟨I_3006, L_3007, rfl, rfl, ?_⟩)
                replace hg := gt_b3 gn_3005 hg
                clear gn_3005
                have hf_3011 : Fm (fun c => c = o ∨ (o + 26 ≤ c ∧ c < o + 34)) I0 I_3006 := hf_2979.call fr_3009 (fun c hc => by first | exact hc | (dsimp only at hc ⊢; omega) | omega)
                have t_3012 : (I_3006 o 3).toInt = (I_2976 o 3).toInt := by rw [kp_3010 3 rfl]
                have g_3013 : (0 : Int) ≤ (I_3006 o 4).toInt ∧ (I_3006 o 4).toInt ≤ 5 := hR_3008.at0 ra 4 (by decide)
                have g_3014 : (0 : Int) ≤ (I_3006 o 6).toInt ∧ (I_3006 o 6).toInt ≤ 1600 := hR_3008.at0 ra 6 (by decide)
                have g_3015 : (0 : Int) ≤ (I_3006 o 7).toInt ∧ (I_3006 o 7).toInt ≤ 1601 := hR_3008.at0 ra 7 (by decide)
                have g_3016 : (0 : Int) ≤ (I_3006 o 8).toInt ∧ (I_3006 o 8).toInt ≤ 6 := hR_3008.at0 ra 8 (by decide)
                have t_3017 : (I_3006 o 44).toInt = (I_2976 o 44).toInt := by rw [kp_3010 44 rfl]
                have g_3018 : (0 : Int) ≤ (I_3006 o 45).toInt ∧ (I_3006 o 45).toInt ≤ 700 := hR_3008.at0 ra 45 (by decide)
                have g_3019 : (0 : Int) ≤ (I_3006 o 47).toInt ∧ (I_3006 o 47).toInt ≤ 7 := hR_3008.at0 ra 47 (by decide)
                have g_3020 : (0 : Int) ≤ (I_3006 o 48).toInt ∧ (I_3006 o 48).toInt ≤ 80 := hR_3008.at0 ra 48 (by decide)
                have w_3021 : I_3006 (o + 28) = I0 (o + 28) := (fr_3009 (o + 28) (by first | omega | (dsimp only; omega))).trans w_2994
                have l_3022 : (59 : Int32).toInt = 59 := rfl
                refine y_Model_isg hok hw ra hR_3008 (fun r_3023 u_3024 u_3025 u_3026 gn_3027 => ⟨r_3023, I_3006, L_3007, rfl, rfl, ?_⟩)
                replace hg := gt_let gn_3027 hg
                clear gn_3027
                have b_3028 : 0 ≤ r_3023.toInt ∧ r_3023.toInt ≤ 1 := u_3024.rg
                refine y_Model_mustg hok hw ra hz14 hz15 hz16 hz17 hz18 hz19 (by first | omega | (intro h; omega) | exact Or.inl rfl | exact Or.inr rfl) u_3003 u_3004 hR_3008 (fun I_3040 L_3041 hR_3042 fr_3043 kp_3044 u_3030 u_3031 u_3032 u_3033 u_3034 u_3035 u_3036 u_3037 u_3038 gn_3039 => ⟨I_3040, L_3041, rfl, rfl, ?_⟩)
                replace hg := gt_b3 gn_3039 hg
                clear gn_3039
                have hf_3045 : Fm (fun c => c = o ∨ (o + 26 ≤ c ∧ c < o + 34)) I0 I_3040 := hf_3011.call fr_3043 (fun c hc => by first | exact hc | (dsimp only at hc ⊢; omega) | omega)
                have t_3046 : (I_3040 o 3).toInt = (I_3006 o 3).toInt := by rw [kp_3044 3 rfl]
                have g_3047 : (0 : Int) ≤ (I_3040 o 4).toInt ∧ (I_3040 o 4).toInt ≤ 5 := hR_3042.at0 ra 4 (by decide)
                have g_3048 : (0 : Int) ≤ (I_3040 o 6).toInt ∧ (I_3040 o 6).toInt ≤ 1600 := hR_3042.at0 ra 6 (by decide)
                have g_3049 : (0 : Int) ≤ (I_3040 o 7).toInt ∧ (I_3040 o 7).toInt ≤ 1601 := hR_3042.at0 ra 7 (by decide)
                have g_3050 : (0 : Int) ≤ (I_3040 o 8).toInt ∧ (I_3040 o 8).toInt ≤ 6 := hR_3042.at0 ra 8 (by decide)
                have t_3051 : (I_3040 o 44).toInt = (I_3006 o 44).toInt := by rw [kp_3044 44 rfl]
                have t_3052 : (I_3040 o 45).toInt = (I_3006 o 45).toInt := by rw [kp_3044 45 rfl]
                have t_3053 : (I_3040 o 47).toInt = (I_3006 o 47).toInt := by rw [kp_3044 47 rfl]
                have t_3054 : (I_3040 o 48).toInt = (I_3006 o 48).toInt := by rw [kp_3044 48 rfl]
                have k_3055 : MTd I_3040 o := u_3002.fr (fr_3043 _ (by first | omega | (dsimp only; omega))) (fr_3043 _ (by first | omega | (dsimp only; omega))) (fr_3043 _ (by first | omega | (dsimp only; omega)))
                have w_3056 : I_3040 (o + 28) = I0 (o + 28) := (fr_3043 (o + 28) (by first | omega | (dsimp only; omega))).trans w_3021
                have hm26 := fr_3043 (o + 26) (by first | omega | (dsimp only; omega))
                have hm27 := fr_3043 (o + 27) (by first | omega | (dsimp only; omega))
                have hm30 := fr_3043 (o + 30) (by first | omega | (dsimp only; omega))
                have hm3 := kp_3044 3 rfl
                have hm44 := kp_3044 44 rfl
                have hm45 := kp_3044 45 rfl
                have tk2 := u_3038.1
                have g_3057 : (0 : Int) ≤ (I_3040 o 44).toInt ∧ (I_3040 o 44).toInt ≤ 4 := hR_3042.at0 ra 44 (by decide)
                replace hg := gt_let (y := (I_3040 o 44).toInt) rfl hg
                have a_3058 : (10 * (I_3040 o 44)).toInt = 10 * (I_3040 o 44).toInt := tMulL rfl (by omega) (by omega)
                replace hg := gt_let (y := ((10 * (I_3040 o 44)) : Int32).toInt) (by omega) hg
                have a_3059 : ((10 * (I_3040 o 44)) + (0 : Int32)).toInt = (10 * (I_3040 o 44)).toInt + (0 : Int32).toInt := tAdd (by omega) (by omega)
                replace hg := gt_let (y := (((10 * (I_3040 o 44)) + (0 : Int32)) : Int32).toInt) (by omega) hg
                refine ⟨tIn (by omega) (by omega), fun I_3060 e_3061 => ?_⟩
                replace hg := gt_let (y := tI I_3060) (tI_q e_3061) hg
                have hR_3062 : RI R I_3060 := hR_3042.up ra 26 (by decide) (Or.inl rfl) e_3061 (show (-1 : Int) ≤ (I_2976 o 45).toInt by omega) (show (I_2976 o 45).toInt ≤ (700 : Int) by omega)
                have hf_3063 : Fm (fun c => c = o ∨ (o + 26 ≤ c ∧ c < o + 34)) I0 I_3060 := hf_3045.set (by first | rfl | omega | (dsimp only; omega)) e_3061
                have t_3064 : (I_3060 o 3).toInt = (I_3040 o 3).toInt := by rw [← e_3061, q_u_ne (by omega)]
                have t_3065 : (I_3060 o 4).toInt = (I_3040 o 4).toInt := by rw [← e_3061, q_u_ne (by omega)]
                have t_3066 : (I_3060 o 6).toInt = (I_3040 o 6).toInt := by rw [← e_3061, q_u_ne (by omega)]
                have t_3067 : (I_3060 o 7).toInt = (I_3040 o 7).toInt := by rw [← e_3061, q_u_ne (by omega)]
                have t_3068 : (I_3060 o 8).toInt = (I_3040 o 8).toInt := by rw [← e_3061, q_u_ne (by omega)]
                have t_3069 : (I_3060 o 9).toInt = (I_3040 o 9).toInt := by rw [← e_3061, q_u_ne (by omega)]
                have t_3070 : (I_3060 o 44).toInt = (I_3040 o 44).toInt := by rw [← e_3061, q_u_ne (by omega)]
                have t_3071 : (I_3060 o 45).toInt = (I_3040 o 45).toInt := by rw [← e_3061, q_u_ne (by omega)]
                have t_3072 : (I_3060 o 47).toInt = (I_3040 o 47).toInt := by rw [← e_3061, q_u_ne (by omega)]
                have t_3073 : (I_3060 o 48).toInt = (I_3040 o 48).toInt := by rw [← e_3061, q_u_ne (by omega)]
                have k_3075 : MPo I_3060 o := u_3037.fr (by rw [← e_3061, q_u_ne (by omega)]) (by rw [← e_3061, q_u_ne (by omega)])
                have k_3076 : MTk I_3060 o := u_3038.fr (by rw [← e_3061, q_u_ne (by omega)]) (by rw [← e_3061, q_u_ne (by omega)]) (by rw [← e_3061, q_u_ne (by omega)])
                have w_3077 : I_3060 (o + 28) = I0 (o + 28) := by rw [← e_3061, q_u_ne (by omega)]; exact w_3056
                have k_3078 : MTd I_3060 o := by exact MTd.p26 k_3055 e_3061 (by omega)
                have g_3079 : (0 : Int) ≤ (I_3060 o 44).toInt ∧ (I_3060 o 44).toInt ≤ 4 := hR_3062.at0 ra 44 (by decide)
                replace hg := gt_let (y := (I_3060 o 44).toInt) rfl hg
                have a_3080 : (10 * (I_3060 o 44)).toInt = 10 * (I_3060 o 44).toInt := tMulL rfl (by omega) (by omega)
                replace hg := gt_let (y := ((10 * (I_3060 o 44)) : Int32).toInt) (by omega) hg
                have a_3081 : ((10 * (I_3060 o 44)) + (0 : Int32)).toInt = (10 * (I_3060 o 44)).toInt + (0 : Int32).toInt := tAdd (by omega) (by omega)
                replace hg := gt_let (y := (((10 * (I_3060 o 44)) + (0 : Int32)) : Int32).toInt) (by omega) hg
                have g_3082 : (0 : Int) ≤ (I_3060 o 45).toInt ∧ (I_3060 o 45).toInt ≤ 700 := hR_3062.at0 ra 45 (by decide)
                replace hg := gt_let (y := (I_3060 o 45).toInt) rfl hg
                refine ⟨tIn (by omega) (by omega), fun I_3083 e_3084 => ?_⟩
                replace hg := gt_let (y := tI I_3083) (tI_q e_3084) hg
                have hR_3085 : RI R I_3083 := hR_3062.up ra 27 (by decide) (Or.inl rfl) e_3084 (show (0 : Int) ≤ (I_3060 o 45).toInt by omega) (show (I_3060 o 45).toInt ≤ (700 : Int) by omega)
                have hf_3086 : Fm (fun c => c = o ∨ (o + 26 ≤ c ∧ c < o + 34)) I0 I_3083 := hf_3063.set (by first | rfl | omega | (dsimp only; omega)) e_3084
                have t_3087 : (I_3083 o 3).toInt = (I_3060 o 3).toInt := by rw [← e_3084, q_u_ne (by omega)]
                have t_3088 : (I_3083 o 4).toInt = (I_3060 o 4).toInt := by rw [← e_3084, q_u_ne (by omega)]
                have t_3089 : (I_3083 o 6).toInt = (I_3060 o 6).toInt := by rw [← e_3084, q_u_ne (by omega)]
                have t_3090 : (I_3083 o 7).toInt = (I_3060 o 7).toInt := by rw [← e_3084, q_u_ne (by omega)]
                have t_3091 : (I_3083 o 8).toInt = (I_3060 o 8).toInt := by rw [← e_3084, q_u_ne (by omega)]
                have t_3092 : (I_3083 o 9).toInt = (I_3060 o 9).toInt := by rw [← e_3084, q_u_ne (by omega)]
                have t_3093 : (I_3083 o 44).toInt = (I_3060 o 44).toInt := by rw [← e_3084, q_u_ne (by omega)]
                have t_3094 : (I_3083 o 45).toInt = (I_3060 o 45).toInt := by rw [← e_3084, q_u_ne (by omega)]
                have t_3095 : (I_3083 o 47).toInt = (I_3060 o 47).toInt := by rw [← e_3084, q_u_ne (by omega)]
                have t_3096 : (I_3083 o 48).toInt = (I_3060 o 48).toInt := by rw [← e_3084, q_u_ne (by omega)]
                have k_3097 : MPo I_3083 o := k_3075.fr (by rw [← e_3084, q_u_ne (by omega)]) (by rw [← e_3084, q_u_ne (by omega)])
                have k_3098 : MTk I_3083 o := k_3076.fr (by rw [← e_3084, q_u_ne (by omega)]) (by rw [← e_3084, q_u_ne (by omega)]) (by rw [← e_3084, q_u_ne (by omega)])
                have w_3100 : I_3083 (o + 28) = I0 (o + 28) := by rw [← e_3084, q_u_ne (by omega)]; exact w_3077
                have k_3101 : MTd I_3083 o := by exact MTd.p27 k_3078 e_3084 (by omega)
                have k_3102 : ReG I_3083 o := by intro h; exact ReS.put (u_3001 (by omega)) (by omega) hm26 hm27 hm30 hm3 hm44 hm45 (by omega) (by omega) e_3061 e_3084 (by omega) (by omega)
                have l_3103 : (5 : Int32).toInt = 5 := rfl
                refine ⟨fun c_3104 => ?_, fun c_3104 => ?_⟩
                · have d_3105 := iLt c_3104
                  replace hg := gt_pos (by first | exact d_3105 | omega) hg
                  unfold fModel_readReform_228
                  replace hg := (eModel_readReform_228).symm.trans hg
                  have g_3106 : (0 : Int) ≤ (I_3083 o 44).toInt ∧ (I_3083 o 44).toInt ≤ 4 := hR_3085.at0 ra 44 (by decide)
                  replace hg := gt_let (y := (I_3083 o 44).toInt) rfl hg
                  refine ⟨tIn (by omega) (by omega), ?_⟩
                  replace hg := gt_let (y := (I_3083 (o + 29) ((I_3083 o 44) : Int32).toNatClampNeg).toInt) rfl hg
                  have l_3107 : (1 : Int32).toInt = 1 := rfl
                  replace hg := gt_let (y := (((I_3083 (o + 29) ((I_3083 o 44) : Int32).toNatClampNeg) + 1) : Int32).toInt) (wAdd_eq ((I_3083 (o + 29) ((I_3083 o 44) : Int32).toNatClampNeg) : Int32) (1 : Int32)) hg
                  refine ⟨tIn (by omega) (by omega), fun I_3108 e_3109 => ?_⟩
                  replace hg := gt_let (y := tI I_3108) (tI_q e_3109) hg
                  have hR_3110 : RI R I_3108 := hR_3085.up ra 29 (by decide) (Or.inl rfl) e_3109 (i_lo _) (i_hi _)
                  have hf_3111 : Fm (fun c => c = o ∨ (o + 26 ≤ c ∧ c < o + 34)) I0 I_3108 := hf_3086.set (by first | rfl | omega | (dsimp only; omega)) e_3109
                  have t_3112 : (I_3108 o 3).toInt = (I_3083 o 3).toInt := by rw [← e_3109, q_u_ne (by omega)]
                  have t_3113 : (I_3108 o 4).toInt = (I_3083 o 4).toInt := by rw [← e_3109, q_u_ne (by omega)]
                  have t_3114 : (I_3108 o 6).toInt = (I_3083 o 6).toInt := by rw [← e_3109, q_u_ne (by omega)]
                  have t_3115 : (I_3108 o 7).toInt = (I_3083 o 7).toInt := by rw [← e_3109, q_u_ne (by omega)]
                  have t_3116 : (I_3108 o 8).toInt = (I_3083 o 8).toInt := by rw [← e_3109, q_u_ne (by omega)]
                  have t_3117 : (I_3108 o 9).toInt = (I_3083 o 9).toInt := by rw [← e_3109, q_u_ne (by omega)]
                  have t_3118 : (I_3108 o 44).toInt = (I_3083 o 44).toInt := by rw [← e_3109, q_u_ne (by omega)]
                  have t_3119 : (I_3108 o 45).toInt = (I_3083 o 45).toInt := by rw [← e_3109, q_u_ne (by omega)]
                  have t_3120 : (I_3108 o 47).toInt = (I_3083 o 47).toInt := by rw [← e_3109, q_u_ne (by omega)]
                  have t_3121 : (I_3108 o 48).toInt = (I_3083 o 48).toInt := by rw [← e_3109, q_u_ne (by omega)]
                  have k_3122 : MPo I_3108 o := k_3097.fr (by rw [← e_3109, q_u_ne (by omega)]) (by rw [← e_3109, q_u_ne (by omega)])
                  have k_3123 : MTk I_3108 o := k_3098.fr (by rw [← e_3109, q_u_ne (by omega)]) (by rw [← e_3109, q_u_ne (by omega)]) (by rw [← e_3109, q_u_ne (by omega)])
                  have k_3124 : MTd I_3108 o := k_3101.fr (by rw [← e_3109]; exact q_u_ne (by omega)) (by rw [← e_3109]; exact q_u_ne (by omega)) (by rw [← e_3109]; exact q_u_ne (by omega))
                  have k_3125 : ReG I_3108 o := k_3102.fr (by rw [← e_3109]; exact q_u_ne (by omega)) (by rw [← e_3109]; exact q_u_ne (by omega)) (by rw [← e_3109]; exact q_u_ne (by omega)) (by rw [← e_3109, q_u_ne (by omega)]) (by rw [← e_3109, q_u_ne (by omega)]) (by rw [← e_3109, q_u_ne (by omega)]) (by rw [← e_3109, q_u_ne (by omega)]) (by rw [← e_3109, q_u_ne (by omega)])
                  have w_3126 : I_3108 (o + 28) = I0 (o + 28) := by rw [← e_3109, q_u_ne (by omega)]; exact w_3100
                  exact (hp _ _ hR_3110 hf_3111 (by first | omega | (intro h; omega) | exact Or.inl rfl | exact Or.inr rfl) (by first | omega | (intro h; omega) | exact Or.inl rfl | exact Or.inr rfl) (by first | omega | (intro h; omega) | exact Or.inl rfl | exact Or.inr rfl) (by first | omega | (intro h; omega) | exact Or.inl rfl | exact Or.inr rfl) (by first | omega | (intro h; omega) | exact Or.inl rfl | exact Or.inr rfl) k_3124 k_3122 k_3123 k_3125 hg.symm)
                · have d_3127 := iNlt c_3104
                  exfalso; omega
              · have d_3128 := iEq c_2945
                have i_3129 := u_2942 (by omega)
                replace hg := gt_pos (by first | exact d_3128 | omega) hg
                exact (hp _ _ hR_2920 hf_2923 (by first | omega | (intro h; omega) | exact Or.inl rfl | exact Or.inr rfl) (by first | omega | (intro h; omega) | exact Or.inl rfl | exact Or.inr rfl) (by first | omega | (intro h; omega) | exact Or.inl rfl | exact Or.inr rfl) (by first | omega | (intro h; omega) | exact Or.inl rfl | exact Or.inr rfl) (by first | omega | (intro h; omega) | exact Or.inl rfl | exact Or.inr rfl) k_2935 k_2936 k_2937 (fun h => absurd h (by omega)) hg.symm)
          · have d_3130 := iNlt c_2716
            exfalso; omega
theorem y_Model_readReformg {D : va_G} {cA : FieldType → ClassId} {b : Nat} {E : State → Prop} {R : qRg} {o n : Nat} {sh : Nat → qC} {Rf : Nat → Nat → Option Nat} {I0 : Nat → Nat → Int32} {L0 : Nat → Nat → Int64} {post : Option Value → qS → Prop} (hok : q_ok (qGG D cA b E)) (hw : WfModel (qGG D cA b E) n sh Rf o) (ra : RAModel R o) (hz14 : R.2 14 = true) (hz15 : R.2 15 = true) (hz16 : R.2 16 = true) (hz17 : R.2 17 = true) (hz18 : R.2 18 = true) (hz19 : R.2 19 = true) (hz55 : R.2 55 = true) (hz56 : R.2 56 = true) (hz57 : R.2 57 = true) (hz58 : R.2 58 = true) (hz59 : R.2 59 = true) (hq0 : (I0 o 7).toInt ≤ (I0 o 3).toInt) (hq1 : (I0 o 4).toInt = 0) (hq2 : (I0 o 8).toInt ≠ 0) (hq3 : ReS I0 o) (hq4 : MTd I0 o) (hq5 : MPo I0 o) (hq6 : MTk I0 o) (hR : RI R I0) (hp : ∀ (I' : Nat → Nat → Int32) (L' : Nat → Nat → Int64), RI R I' → Fm (fun c => c = o ∨ (o + 26 ≤ c ∧ c < o + 34)) I0 I' → Kp wModel_readReform I0 I' o → ((I' o 7).toInt ≤ (I' o 3).toInt) → ((I0 o 7).toInt ≤ (I' o 7).toInt) → ((I0 o 4).toInt ≤ (I' o 4).toInt) → (7 * (I0 o 7).toInt - (I0 o 8).toInt + (I0 o 4).toInt ≤ 7 * (I' o 7).toInt - (I' o 8).toInt + (I' o 4).toInt) → (7 * (I0 o 7).toInt - (I0 o 8).toInt + (I0 o 4).toInt < 7 * (I' o 7).toInt - (I' o 8).toInt + (I' o 4).toInt) → (MTd I' o) → (MPo I' o) → (MTk I' o) → (ReG I' o) → (gModel_readReform_0 o (tI I0) L0 = (0, tI I', L')) → post none (n, sh, Rf, I', L')) : Ev (qGG D cA b E) mModel_readReform 6 (0, 0) 0 (lv_args 0 [.ref o]) [] (n, sh, Rf, I0, L0) post :=
  yc_Model_readReformg (R := fzR R I0 o wModel_readReform) hok hw (fzA ra hR _) (fzT hz14 rfl) (fzT hz15 rfl) (fzT hz16 rfl) (fzT hz17 rfl) (fzT hz18 rfl) (fzT hz19 rfl) (fzT hz55 rfl) (fzT hz56 rfl) (fzT hz57 rfl) (fzT hz58 rfl) (fzT hz59 rfl) fzZ (fzI hR) hq0 hq1 hq2 hq3 hq4 hq5 hq6 (fzI hR) (fun I' L' h1 h2 u0 u1 u2 u3 u4 u5 u6 u7 u8 ug => hp I' L' (fzB hR h1) h2 (fzP h1) u0 u1 u2 u3 u4 u5 u6 u7 u8 ug)
