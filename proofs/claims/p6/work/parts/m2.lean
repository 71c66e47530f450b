/-! The mirror: m2. By program (grun.py). -/
noncomputable def gModel_next_459 (o : Nat) (J : gJ) (L : gL) (x1 : Int) (z0 : Int) : Int × gJ × gL := gLet (q_u J o 8 z0) (fun (J_1 : gJ) => (0, J_1, L))
theorem eModel_next_459 {o : Nat} {J : gJ} {L : gL} {x1 : Int} {z0 : Int} : gModel_next_459 o J L x1 z0 = gLet (q_u J o 8 z0) (fun (J_1 : gJ) => (0, J_1, L)) := rfl
noncomputable def gModel_next_454 (o : Nat) (J : gJ) (L : gL) (x1 : Int) : Int × gJ × gL := (gModel_next_459 o J L x1 1)
theorem eModel_next_454 {o : Nat} {J : gJ} {L : gL} {x1 : Int} : gModel_next_454 o J L x1 = (gModel_next_459 o J L x1 1) := rfl
noncomputable def gModel_next_413 (K363 : gJ → gL → Int → (Int × gJ × gL)) (o : Nat) (J : gJ) (L : gL) (x1 : Int) : Int × gJ × gL := gLet (J o 7) (fun (v_1 : Int) => gLet (v_1 + 1) (fun (v_2 : Int) => gLet (q_u J o 7 v_2) (fun (J_3 : gJ) => (K363 J_3 L x1))))
theorem eModel_next_413 {K363 : gJ → gL → Int → (Int × gJ × gL)} {o : Nat} {J : gJ} {L : gL} {x1 : Int} : gModel_next_413 K363 o J L x1 = gLet (J o 7) (fun (v_1 : Int) => gLet (v_1 + 1) (fun (v_2 : Int) => gLet (q_u J o 7 v_2) (fun (J_3 : gJ) => (K363 J_3 L x1)))) := rfl
noncomputable def gModel_next_363 (k : Nat) (o : Nat) (J : gJ) (L : gL) (x1 : Int) : Int × gJ × gL := match k with
  | 0 => default
  | k + 1 => gLet (J o 7) (fun (v_1 : Int) => gLet (gModel_sign_0 o J L v_1) (fun (r_2 : Int) => gLet (gModel_isDigit_0  J L r_2) (fun (r_3 : Int) => (if r_3 = 0 then gLet (J o 7) (fun (v_4 : Int) => gLet (J o 6) (fun (v_5 : Int) => gLet (v_4 - v_5) (fun (v_6 : Int) => (if 4 < v_6 then (gModel_next_454 o J L x1) else gLet (J o 7) (fun (v_7 : Int) => gLet (gModel_sign_0 o J L v_7) (fun (r_8 : Int) => gLet (gModel_isLetter_0  J L r_8) (fun (r_9 : Int) => (if r_9 = 0 then (gModel_next_459 o J L x1 4) else (gModel_next_454 o J L x1))))))))) else gLet (J o 7) (fun (v_10 : Int) => gLet (J o 6) (fun (v_11 : Int) => gLet (v_10 - v_11) (fun (v_12 : Int) => (if 4 ≤ v_12 then (gModel_next_413 (gModel_next_363 k o) o J L x1) else gLet (J o 9) (fun (v_13 : Int) => gLet (wMul 10 v_13) (fun (v_14 : Int) => gLet (J o 7) (fun (v_15 : Int) => gLet (gModel_sign_0 o J L v_15) (fun (r_16 : Int) => gLet (wAdd v_14 r_16) (fun (v_17 : Int) => gLet (wSub v_17 48) (fun (v_18 : Int) => gLet (q_u J o 9 v_18) (fun (J_19 : gJ) => (gModel_next_413 (gModel_next_363 k o) o J_19 L x1))))))))))))))))
theorem eModel_next_363 {k : Nat} {o : Nat} {J : gJ} {L : gL} {x1 : Int} : gModel_next_363 (k + 1) o J L x1 = gLet (J o 7) (fun (v_1 : Int) => gLet (gModel_sign_0 o J L v_1) (fun (r_2 : Int) => gLet (gModel_isDigit_0  J L r_2) (fun (r_3 : Int) => (if r_3 = 0 then gLet (J o 7) (fun (v_4 : Int) => gLet (J o 6) (fun (v_5 : Int) => gLet (v_4 - v_5) (fun (v_6 : Int) => (if 4 < v_6 then (gModel_next_454 o J L x1) else gLet (J o 7) (fun (v_7 : Int) => gLet (gModel_sign_0 o J L v_7) (fun (r_8 : Int) => gLet (gModel_isLetter_0  J L r_8) (fun (r_9 : Int) => (if r_9 = 0 then (gModel_next_459 o J L x1 4) else (gModel_next_454 o J L x1))))))))) else gLet (J o 7) (fun (v_10 : Int) => gLet (J o 6) (fun (v_11 : Int) => gLet (v_10 - v_11) (fun (v_12 : Int) => (if 4 ≤ v_12 then (gModel_next_413 (gModel_next_363 k o) o J L x1) else gLet (J o 9) (fun (v_13 : Int) => gLet (wMul 10 v_13) (fun (v_14 : Int) => gLet (J o 7) (fun (v_15 : Int) => gLet (gModel_sign_0 o J L v_15) (fun (r_16 : Int) => gLet (wAdd v_14 r_16) (fun (v_17 : Int) => gLet (wSub v_17 48) (fun (v_18 : Int) => gLet (q_u J o 9 v_18) (fun (J_19 : gJ) => (gModel_next_413 (gModel_next_363 k o) o J_19 L x1)))))))))))))))) := rfl
noncomputable def gModel_next_337 (o : Nat) (J : gJ) (L : gL) (x1 : Int) (x2 : Int) (z0 : Int) : Int × gJ × gL := gLet (q_u J o 8 z0) (fun (J_1 : gJ) => (0, J_1, L))
theorem eModel_next_337 {o : Nat} {J : gJ} {L : gL} {x1 : Int} {x2 : Int} {z0 : Int} : gModel_next_337 o J L x1 x2 z0 = gLet (q_u J o 8 z0) (fun (J_1 : gJ) => (0, J_1, L)) := rfl
noncomputable def gModel_next_303 (o : Nat) (J : gJ) (L : gL) (x1 : Int) (x2 : Int) : Int × gJ × gL := gLet (J o 7) (fun (v_1 : Int) => gLet (J o 6) (fun (v_2 : Int) => gLet (v_1 - v_2) (fun (v_3 : Int) => (if v_3 ≤ 8 then gLet (gModel_isKept_0  J L (L o 10)) (fun (r_4 : Int) => (if r_4 = 0 then (gModel_next_337 o J L x1 x2 2) else (gModel_next_337 o J L x1 x2 3))) else (gModel_next_337 o J L x1 x2 1)))))
theorem eModel_next_303 {o : Nat} {J : gJ} {L : gL} {x1 : Int} {x2 : Int} : gModel_next_303 o J L x1 x2 = gLet (J o 7) (fun (v_1 : Int) => gLet (J o 6) (fun (v_2 : Int) => gLet (v_1 - v_2) (fun (v_3 : Int) => (if v_3 ≤ 8 then gLet (gModel_isKept_0  J L (L o 10)) (fun (r_4 : Int) => (if r_4 = 0 then (gModel_next_337 o J L x1 x2 2) else (gModel_next_337 o J L x1 x2 3))) else (gModel_next_337 o J L x1 x2 1))))) := rfl
noncomputable def gModel_next_260 (k : Nat) (o : Nat) (J : gJ) (L : gL) (x1 : Int) (x2 : Int) : Int × gJ × gL := match k with
  | 0 => default
  | k + 1 => gLet (J o 7) (fun (v_1 : Int) => (if v_1 ≤ x2 then (gModel_next_303 o J L x1 x2) else gLet (J o 6) (fun (v_2 : Int) => gLet (v_2 + 8) (fun (v_3 : Int) => (if v_3 ≤ x2 then (gModel_next_303 o J L x1 x2) else gLet (gModel_sign_0 o J L x2) (fun (r_4 : Int) => gLet (wI2L r_4) (fun (v_5 : Int64) => gLet (q_u L o 10 (((L o 10) <<< (((8 : Int32)).toInt64 &&& 63)) ||| v_5)) (fun (L_6 : gL) => gLet (x2 + 1) (fun (v_7 : Int) => (gModel_next_260 k o J L_6 x1 v_7))))))))))
theorem eModel_next_260 {k : Nat} {o : Nat} {J : gJ} {L : gL} {x1 : Int} {x2 : Int} : gModel_next_260 (k + 1) o J L x1 x2 = gLet (J o 7) (fun (v_1 : Int) => (if v_1 ≤ x2 then (gModel_next_303 o J L x1 x2) else gLet (J o 6) (fun (v_2 : Int) => gLet (v_2 + 8) (fun (v_3 : Int) => (if v_3 ≤ x2 then (gModel_next_303 o J L x1 x2) else gLet (gModel_sign_0 o J L x2) (fun (r_4 : Int) => gLet (wI2L r_4) (fun (v_5 : Int64) => gLet (q_u L o 10 (((L o 10) <<< (((8 : Int32)).toInt64 &&& 63)) ||| v_5)) (fun (L_6 : gL) => gLet (x2 + 1) (fun (v_7 : Int) => (gModel_next_260 k o J L_6 x1 v_7)))))))))) := rfl
noncomputable def gModel_next_223 (k : Nat) (o : Nat) (J : gJ) (L : gL) (x1 : Int) : Int × gJ × gL := match k with
  | 0 => default
  | k + 1 => gLet (J o 7) (fun (v_1 : Int) => gLet (gModel_sign_0 o J L v_1) (fun (r_2 : Int) => gLet (gModel_isLetter_0  J L r_2) (fun (r_3 : Int) => (if r_3 = 0 then gLet (q_u L o 10 0) (fun (L_4 : gL) => gLet (J o 6) (fun (v_5 : Int) => (gModel_next_260 20000 o J L_4 x1 v_5))) else gLet (J o 7) (fun (v_6 : Int) => gLet (v_6 + 1) (fun (v_7 : Int) => gLet (q_u J o 7 v_7) (fun (J_8 : gJ) => (gModel_next_223 k o J_8 L x1))))))))
theorem eModel_next_223 {k : Nat} {o : Nat} {J : gJ} {L : gL} {x1 : Int} : gModel_next_223 (k + 1) o J L x1 = gLet (J o 7) (fun (v_1 : Int) => gLet (gModel_sign_0 o J L v_1) (fun (r_2 : Int) => gLet (gModel_isLetter_0  J L r_2) (fun (r_3 : Int) => (if r_3 = 0 then gLet (q_u L o 10 0) (fun (L_4 : gL) => gLet (J o 6) (fun (v_5 : Int) => (gModel_next_260 20000 o J L_4 x1 v_5))) else gLet (J o 7) (fun (v_6 : Int) => gLet (v_6 + 1) (fun (v_7 : Int) => gLet (q_u J o 7 v_7) (fun (J_8 : gJ) => (gModel_next_223 k o J_8 L x1)))))))) := rfl
noncomputable def gModel_next_216 (o : Nat) (J : gJ) (L : gL) (x1 : Int) : Int × gJ × gL := gLet (gModel_isLetter_0  J L x1) (fun (r_1 : Int) => (if r_1 = 0 then gLet (gModel_isDigit_0  J L x1) (fun (r_2 : Int) => (if r_2 = 0 then gLet (gModel_isSign_0  J L x1) (fun (r_3 : Int) => (if r_3 = 0 then gLet (q_u J o 8 1) (fun (J_4 : gJ) => (0, J_4, L)) else gLet (q_u J o 8 6) (fun (J_5 : gJ) => (0, J_5, L)))) else gLet (q_u J o 9 0) (fun (J_6 : gJ) => gLet (J_6 o 6) (fun (v_7 : Int) => gLet (q_u J_6 o 7 v_7) (fun (J_8 : gJ) => (gModel_next_363 20000 o J_8 L x1)))))) else (gModel_next_223 20000 o J L x1)))
theorem eModel_next_216 {o : Nat} {J : gJ} {L : gL} {x1 : Int} : gModel_next_216 o J L x1 = gLet (gModel_isLetter_0  J L x1) (fun (r_1 : Int) => (if r_1 = 0 then gLet (gModel_isDigit_0  J L x1) (fun (r_2 : Int) => (if r_2 = 0 then gLet (gModel_isSign_0  J L x1) (fun (r_3 : Int) => (if r_3 = 0 then gLet (q_u J o 8 1) (fun (J_4 : gJ) => (0, J_4, L)) else gLet (q_u J o 8 6) (fun (J_5 : gJ) => (0, J_5, L)))) else gLet (q_u J o 9 0) (fun (J_6 : gJ) => gLet (J_6 o 6) (fun (v_7 : Int) => gLet (q_u J_6 o 7 v_7) (fun (J_8 : gJ) => (gModel_next_363 20000 o J_8 L x1)))))) else (gModel_next_223 20000 o J L x1))) := rfl
noncomputable def gModel_next_196 (o : Nat) (J : gJ) (L : gL) (x1 : Int) (x2 : Int) : Int × gJ × gL := gLet (J o 6) (fun (v_1 : Int) => gLet (v_1 + 1) (fun (v_2 : Int) => gLet (v_2 + x2) (fun (v_3 : Int) => gLet (q_u J o 7 v_3) (fun (J_4 : gJ) => gLet (q_u J_4 o 8 5) (fun (J_5 : gJ) => (0, J_5, L))))))
theorem eModel_next_196 {o : Nat} {J : gJ} {L : gL} {x1 : Int} {x2 : Int} : gModel_next_196 o J L x1 x2 = gLet (J o 6) (fun (v_1 : Int) => gLet (v_1 + 1) (fun (v_2 : Int) => gLet (v_2 + x2) (fun (v_3 : Int) => gLet (q_u J o 7 v_3) (fun (J_4 : gJ) => gLet (q_u J_4 o 8 5) (fun (J_5 : gJ) => (0, J_5, L)))))) := rfl
noncomputable def gModel_next_58 (o : Nat) (J : gJ) (L : gL) : Int × gJ × gL := gLet (J o 6) (fun (v_1 : Int) => gLet (gModel_sign_0 o J L v_1) (fun (r_2 : Int) => gLet (J o 6) (fun (v_3 : Int) => gLet (v_3 + 1) (fun (v_4 : Int) => gLet (q_u J o 7 v_4) (fun (J_5 : gJ) => gLet (J_5 o 6) (fun (v_6 : Int) => gLet (J_5 o 3) (fun (v_7 : Int) => (if v_6 < v_7 then gLet (J_5 o 11) (fun (v_8 : Int) => (if v_8 = 0 then (if r_2 = 112 then gLet (J_5 o 6) (fun (v_9 : Int) => gLet (v_9 + 1) (fun (v_10 : Int) => gLet (gModel_pointAt_0 o J_5 L v_10) (fun (r_11 : Int) => (if r_11 ≤ 0 then (gModel_next_216 o J_5 L r_2) else gLet (J_5 o 6) (fun (v_12 : Int) => gLet (v_12 + 1) (fun (v_13 : Int) => gLet (gModel_pointAt_0 o J_5 L v_13) (fun (r_14 : Int) => gLet (J_5 o 6) (fun (v_15 : Int) => gLet (v_15 + 1) (fun (v_16 : Int) => gLet (gModel_sign_0 o J_5 L v_16) (fun (r_17 : Int) => gLet (wSub r_17 48) (fun (v_18 : Int) => gLet (q_u J_5 o 9 v_18) (fun (J_19 : gJ) => (if r_14 = 2 then gLet (J_19 o 9) (fun (v_20 : Int) => gLet (wMul 10 v_20) (fun (v_21 : Int) => gLet (J_19 o 6) (fun (v_22 : Int) => gLet (v_22 + 2) (fun (v_23 : Int) => gLet (gModel_sign_0 o J_19 L v_23) (fun (r_24 : Int) => gLet (wAdd v_21 r_24) (fun (v_25 : Int) => gLet (wSub v_25 48) (fun (v_26 : Int) => gLet (q_u J_19 o 9 v_26) (fun (J_27 : gJ) => (gModel_next_196 o J_27 L r_2 r_14))))))))) else (gModel_next_196 o J_19 L r_2 r_14)))))))))))))) else (gModel_next_216 o J_5 L r_2)) else (gModel_next_216 o J_5 L r_2))) else gLet (q_u J_5 o 8 0) (fun (J_28 : gJ) => gLet (J_28 o 3) (fun (v_29 : Int) => gLet (q_u J_28 o 6 v_29) (fun (J_30 : gJ) => gLet (J_30 o 3) (fun (v_31 : Int) => gLet (q_u J_30 o 7 v_31) (fun (J_32 : gJ) => (0, J_32, L))))))))))))))
theorem eModel_next_58 {o : Nat} {J : gJ} {L : gL} : gModel_next_58 o J L  = gLet (J o 6) (fun (v_1 : Int) => gLet (gModel_sign_0 o J L v_1) (fun (r_2 : Int) => gLet (J o 6) (fun (v_3 : Int) => gLet (v_3 + 1) (fun (v_4 : Int) => gLet (q_u J o 7 v_4) (fun (J_5 : gJ) => gLet (J_5 o 6) (fun (v_6 : Int) => gLet (J_5 o 3) (fun (v_7 : Int) => (if v_6 < v_7 then gLet (J_5 o 11) (fun (v_8 : Int) => (if v_8 = 0 then (if r_2 = 112 then gLet (J_5 o 6) (fun (v_9 : Int) => gLet (v_9 + 1) (fun (v_10 : Int) => gLet (gModel_pointAt_0 o J_5 L v_10) (fun (r_11 : Int) => (if r_11 ≤ 0 then (gModel_next_216 o J_5 L r_2) else gLet (J_5 o 6) (fun (v_12 : Int) => gLet (v_12 + 1) (fun (v_13 : Int) => gLet (gModel_pointAt_0 o J_5 L v_13) (fun (r_14 : Int) => gLet (J_5 o 6) (fun (v_15 : Int) => gLet (v_15 + 1) (fun (v_16 : Int) => gLet (gModel_sign_0 o J_5 L v_16) (fun (r_17 : Int) => gLet (wSub r_17 48) (fun (v_18 : Int) => gLet (q_u J_5 o 9 v_18) (fun (J_19 : gJ) => (if r_14 = 2 then gLet (J_19 o 9) (fun (v_20 : Int) => gLet (wMul 10 v_20) (fun (v_21 : Int) => gLet (J_19 o 6) (fun (v_22 : Int) => gLet (v_22 + 2) (fun (v_23 : Int) => gLet (gModel_sign_0 o J_19 L v_23) (fun (r_24 : Int) => gLet (wAdd v_21 r_24) (fun (v_25 : Int) => gLet (wSub v_25 48) (fun (v_26 : Int) => gLet (q_u J_19 o 9 v_26) (fun (J_27 : gJ) => (gModel_next_196 o J_27 L r_2 r_14))))))))) else (gModel_next_196 o J_19 L r_2 r_14)))))))))))))) else (gModel_next_216 o J_5 L r_2)) else (gModel_next_216 o J_5 L r_2))) else gLet (q_u J_5 o 8 0) (fun (J_28 : gJ) => gLet (J_28 o 3) (fun (v_29 : Int) => gLet (q_u J_28 o 6 v_29) (fun (J_30 : gJ) => gLet (J_30 o 3) (fun (v_31 : Int) => gLet (q_u J_30 o 7 v_31) (fun (J_32 : gJ) => (0, J_32, L)))))))))))))) := rfl
noncomputable def gModel_next_45 (K8 : gJ → gL → (Int × gJ × gL)) (o : Nat) (J : gJ) (L : gL) : Int × gJ × gL := gLet (J o 6) (fun (v_1 : Int) => gLet (v_1 + 1) (fun (v_2 : Int) => gLet (q_u J o 6 v_2) (fun (J_3 : gJ) => (K8 J_3 L ))))
theorem eModel_next_45 {K8 : gJ → gL → (Int × gJ × gL)} {o : Nat} {J : gJ} {L : gL} : gModel_next_45 K8 o J L  = gLet (J o 6) (fun (v_1 : Int) => gLet (v_1 + 1) (fun (v_2 : Int) => gLet (q_u J o 6 v_2) (fun (J_3 : gJ) => (K8 J_3 L )))) := rfl
noncomputable def gModel_next_8 (k : Nat) (o : Nat) (J : gJ) (L : gL) : Int × gJ × gL := match k with
  | 0 => default
  | k + 1 => gLet (J o 6) (fun (v_1 : Int) => gLet (J o 3) (fun (v_2 : Int) => (if v_2 ≤ v_1 then (gModel_next_58 o J L ) else gLet (J o 6) (fun (v_3 : Int) => gLet (gModel_sign_0 o J L v_3) (fun (r_4 : Int) => (if r_4 = 32 then (gModel_next_45 (gModel_next_8 k o) o J L ) else gLet (J o 6) (fun (v_5 : Int) => gLet (gModel_sign_0 o J L v_5) (fun (r_6 : Int) => (if r_6 = 10 then (gModel_next_45 (gModel_next_8 k o) o J L ) else (gModel_next_58 o J L ))))))))))
theorem eModel_next_8 {k : Nat} {o : Nat} {J : gJ} {L : gL} : gModel_next_8 (k + 1) o J L  = gLet (J o 6) (fun (v_1 : Int) => gLet (J o 3) (fun (v_2 : Int) => (if v_2 ≤ v_1 then (gModel_next_58 o J L ) else gLet (J o 6) (fun (v_3 : Int) => gLet (gModel_sign_0 o J L v_3) (fun (r_4 : Int) => (if r_4 = 32 then (gModel_next_45 (gModel_next_8 k o) o J L ) else gLet (J o 6) (fun (v_5 : Int) => gLet (gModel_sign_0 o J L v_5) (fun (r_6 : Int) => (if r_6 = 10 then (gModel_next_45 (gModel_next_8 k o) o J L ) else (gModel_next_58 o J L )))))))))) := rfl
noncomputable def gModel_next_0 (o : Nat) (J : gJ) (L : gL) : Int × gJ × gL := gLet (J o 7) (fun (v_1 : Int) => gLet (q_u J o 6 v_1) (fun (J_2 : gJ) => (gModel_next_8 20000 o J_2 L )))
theorem eModel_next_0 {o : Nat} {J : gJ} {L : gL} : gModel_next_0 o J L  = gLet (J o 7) (fun (v_1 : Int) => gLet (q_u J o 6 v_1) (fun (J_2 : gJ) => (gModel_next_8 20000 o J_2 L ))) := rfl
set_option maxHeartbeats 4000000 in
set_option maxRecDepth 20000 in
theorem yModel_next_363g {D : va_G} {cA : FieldType → ClassId} {b : Nat} {E : State → Prop} {R : qRg} {o n : Nat} {sh : Nat → qC} {Rf : Nat → Nat → Option Nat} {I0 : Nat → Nat → Int32} {L0 : Nat → Nat → Int64} {post : Option Value → qS → Prop} (hok : q_ok (qGG D cA b E)) (hw : WfModel (qGG D cA b E) n sh Rf o) (ra : RAModel R o) (hz16 : R.2 16 = true) (hz17 : R.2 17 = true) (hz18 : R.2 18 = true) (hz19 : R.2 19 = true) (hZ : Fz R I0 o wModel_next) (hR0 : RI R I0) (hq0 : (I0 o 7).toInt ≤ (I0 o 3).toInt) (hp : ∀ (I' : Nat → Nat → Int32) (L' : Nat → Nat → Int64), RI R I' → Fm (fun c => c = o) I0 I' → ((I' o 7).toInt ≤ (I' o 3).toInt) → ((I0 o 7).toInt ≤ (I' o 7).toInt) → (7 * (I0 o 7).toInt - (I0 o 8).toInt + (I0 o 4).toInt ≤ 7 * (I' o 7).toInt - (I' o 8).toInt + (I' o 4).toInt) → (Im ((I0 o 8).toInt ≠ 0) (7 * (I0 o 7).toInt - (I0 o 8).toInt + (I0 o 4).toInt < 7 * (I' o 7).toInt - (I' o 8).toInt + (I' o 4).toInt)) → ((I0 o 7).toInt ≤ (I' o 6).toInt) → ((I' o 6).toInt ≤ (I' o 3).toInt) → (MPo I' o) → (MTk I' o) → (gModel_next_0 o (tI I0) L0 = (0, tI I', L')) → post none (n, sh, Rf, I', L')) : ∀ (k : Nat) {x1 : Int32} {I : Nat → Nat → Int32} {L : Nat → Nat → Int64}, RI R I → Fm (fun c => c = o) I0 I → ((I0 o 7).toInt ≤ (I o 6).toInt) → ((I o 6).toInt ≤ (I o 7).toInt) → (48 ≤ (sgF (I0 (o + 2)) (I0 o 3) (I o 6)).toInt) → ((sgF (I0 (o + 2)) (I0 o 3) (I o 6)).toInt ≤ 57) → ((I o 7).toInt ≤ (I o 3).toInt) → (gModel_next_363 k o (tI I) L (x1).toInt = gModel_next_0 o (tI I0) L0) → (1600 - (I o 7).toInt).toNat < k → Ev (qGG D cA b E) mModel_next 2 (0, 0) 363 [(0, .ref o), (1, .int x1)] [] (n, sh, Rf, I, L) post := by
  intro k
  induction k with
  | zero =>
    intro x1 I L hR hf hi0 hi1 hi2 hi3 hi4 hg hm
    exact absurd hm (Nat.not_lt_zero _)
  | succ k ih =>
    intro x1 I L hR hf hi0 hi1 hi2 hi3 hi4 hg hm
    have g_1 : (0 : Int) ≤ (I o 3).toInt ∧ (I o 3).toInt ≤ 1600 := hR.at0 ra 3 (by decide)
    have z_2 : (I o 3).toInt = (I0 o 3).toInt := by rw [hZ I 3 rfl hR]
    have g_3 : (0 : Int) ≤ (I o 4).toInt ∧ (I o 4).toInt ≤ 5 := hR.at0 ra 4 (by decide)
    have z_4 : (I o 4).toInt = (I0 o 4).toInt := by rw [hZ I 4 rfl hR]
    have g_5 : (0 : Int) ≤ (I o 6).toInt ∧ (I o 6).toInt ≤ 1600 := hR.at0 ra 6 (by decide)
    have g_6 : (0 : Int) ≤ (I0 o 6).toInt ∧ (I0 o 6).toInt ≤ 1600 := hR0.at0 ra 6 (by decide)
    have g_7 : (0 : Int) ≤ (I o 7).toInt ∧ (I o 7).toInt ≤ 1601 := hR.at0 ra 7 (by decide)
    have g_8 : (0 : Int) ≤ (I0 o 7).toInt ∧ (I0 o 7).toInt ≤ 1601 := hR0.at0 ra 7 (by decide)
    have g_9 : (0 : Int) ≤ (I o 8).toInt ∧ (I o 8).toInt ≤ 6 := hR.at0 ra 8 (by decide)
    have g_10 : (0 : Int) ≤ (I0 o 8).toInt ∧ (I0 o 8).toInt ≤ 6 := hR0.at0 ra 8 (by decide)
    refine sModel_next_363 o n sh Rf I L post x1 hok hw ?_
    unfold fModel_next_363
    replace hg := (eModel_next_363).symm.trans hg
    have g_11 : (0 : Int) ≤ (I o 7).toInt ∧ (I o 7).toInt ≤ 1601 := hR.at0 ra 7 (by decide)
    replace hg := gt_let (y := (I o 7).toInt) rfl hg
    refine y_Model_signg hok hw ra (by first | omega | (intro h; omega) | exact Or.inl rfl | exact Or.inr rfl) hR (fun r_12 u_13 u_14 gn_15 => ⟨r_12, I, L, rfl, rfl, ?_⟩)
    replace hg := gt_let gn_15 hg
    clear gn_15
    refine y_Model_isDigitg hok hR (fun r_16 u_17 u_18 u_19 gn_20 => ⟨r_16, I, L, rfl, rfl, ?_⟩)
    replace hg := gt_let gn_20 hg
    clear gn_20
    have b_21 : 0 ≤ r_16.toInt ∧ r_16.toInt ≤ 1 := u_17.rg
    have l_22 : (0 : Int32).toInt = 0 := rfl
    refine ⟨fun c_23 => ?_, fun c_23 => ?_⟩
    · have d_24 := iEq c_23
      replace hg := gt_pos (by first | exact d_24 | omega) hg
      have se := u_14
      rw [hf (o + 2) (by first | omega | (dsimp only; omega)), show I o 3 = I0 o 3 from Int32.toInt_inj.mp (by omega)] at se
      have ex : (I o 6).toInt ≠ (I o 7).toInt := fun h => by rw [← Int32.toInt_inj.mp h] at se; have a := u_19 (by omega); have b := iEq se; omega
      have g_25 : (0 : Int) ≤ (I o 7).toInt ∧ (I o 7).toInt ≤ 1601 := hR.at0 ra 7 (by decide)
      replace hg := gt_let (y := (I o 7).toInt) rfl hg
      have g_26 : (0 : Int) ≤ (I o 6).toInt ∧ (I o 6).toInt ≤ 1600 := hR.at0 ra 6 (by decide)
      replace hg := gt_let (y := (I o 6).toInt) rfl hg
      have a_27 : ((I o 7) - (I o 6)).toInt = (I o 7).toInt - (I o 6).toInt := tSub (by omega) (by omega)
      replace hg := gt_let (y := (((I o 7) - (I o 6)) : Int32).toInt) (by omega) hg
      have l_28 : (4 : Int32).toInt = 4 := rfl
      refine ⟨fun c_29 => ?_, fun c_29 => ?_⟩
      · have d_30 := iLt c_29
        replace hg := gt_pos (by first | exact d_30 | omega) hg
        unfold fModel_next_454
        replace hg := (eModel_next_454).symm.trans hg
        unfold fModel_next_459
        replace hg := (eModel_next_459).symm.trans hg
        have l_31 : (1 : Int32).toInt = 1 := rfl
        refine fun I_32 e_33 => ?_
        replace hg := gt_let (y := tI I_32) (tI_q e_33) hg
        have hR_34 : RI R I_32 := hR.up0 (k := 8) ra (by decide) (Or.inr hz18) e_33 (show (0 : Int) ≤ (1 : Int32).toInt by omega) (show (1 : Int32).toInt ≤ (6 : Int) by omega)
        have hf_35 : Fm (fun c => c = o) I0 I_32 := hf.set (by first | rfl | omega | (dsimp only; omega)) e_33
        have t_36 : (I_32 o 3).toInt = (I o 3).toInt := by rw [← e_33, q_u_k (by decide)]
        have t_37 : (I_32 o 4).toInt = (I o 4).toInt := by rw [← e_33, q_u_k (by decide)]
        have t_38 : (I_32 o 6).toInt = (I o 6).toInt := by rw [← e_33, q_u_k (by decide)]
        have t_39 : (I_32 o 7).toInt = (I o 7).toInt := by rw [← e_33, q_u_k (by decide)]
        have t_40 : (I_32 o 8).toInt = (1 : Int32).toInt := by rw [← e_33, q_u_at]
        have t_41 : (I_32 o 9).toInt = (I o 9).toInt := by rw [← e_33, q_u_k (by decide)]
        exact (hp _ _ hR_34 hf_35 (by first | omega | (intro h; omega) | exact Or.inl rfl | exact Or.inr rfl) (by first | omega | (intro h; omega) | exact Or.inl rfl | exact Or.inr rfl) (by first | omega | (intro h; omega) | exact Or.inl rfl | exact Or.inr rfl) (by clear hg; intro _; omega) (by first | omega | (intro h; omega) | exact Or.inl rfl | exact Or.inr rfl) (by first | omega | (intro h; omega) | exact Or.inl rfl | exact Or.inr rfl) (by intro h; omega) (by unfold MTk; refine ⟨by omega, fun h => by omega⟩) hg.symm)
      · have d_42 := iNlt c_29
        replace hg := gt_neg (by first | exact d_42 | omega) hg
        have g_43 : (0 : Int) ≤ (I o 7).toInt ∧ (I o 7).toInt ≤ 1601 := hR.at0 ra 7 (by decide)
        replace hg := gt_let (y := (I o 7).toInt) rfl hg
        refine y_Model_signg hok hw ra (by first | omega | (intro h; omega) | exact Or.inl rfl | exact Or.inr rfl) hR (fun r_44 u_45 u_46 gn_47 => ⟨r_44, I, L, rfl, rfl, ?_⟩)
        replace hg := gt_let gn_47 hg
        clear gn_47
        refine y_Model_isLetterg hok hR (fun r_48 u_49 u_50 gn_51 => ⟨r_48, I, L, rfl, rfl, ?_⟩)
        replace hg := gt_let gn_51 hg
        clear gn_51
        have b_52 : 0 ≤ r_48.toInt ∧ r_48.toInt ≤ 1 := u_49.rg
        refine ⟨fun c_53 => ?_, fun c_53 => ?_⟩
        · have d_54 := iEq c_53
          replace hg := gt_pos (by first | exact d_54 | omega) hg
          unfold fModel_next_459
          replace hg := (eModel_next_459).symm.trans hg
          refine fun I_55 e_56 => ?_
          replace hg := gt_let (y := tI I_55) (tI_q e_56) hg
          have hR_57 : RI R I_55 := hR.up0 (k := 8) ra (by decide) (Or.inr hz18) e_56 (show (0 : Int) ≤ (4 : Int32).toInt by omega) (show (4 : Int32).toInt ≤ (6 : Int) by omega)
          have hf_58 : Fm (fun c => c = o) I0 I_55 := hf.set (by first | rfl | omega | (dsimp only; omega)) e_56
          have t_59 : (I_55 o 3).toInt = (I o 3).toInt := by rw [← e_56, q_u_k (by decide)]
          have t_60 : (I_55 o 4).toInt = (I o 4).toInt := by rw [← e_56, q_u_k (by decide)]
          have t_61 : (I_55 o 6).toInt = (I o 6).toInt := by rw [← e_56, q_u_k (by decide)]
          have t_62 : (I_55 o 7).toInt = (I o 7).toInt := by rw [← e_56, q_u_k (by decide)]
          have t_63 : (I_55 o 8).toInt = (4 : Int32).toInt := by rw [← e_56, q_u_at]
          have t_64 : (I_55 o 9).toInt = (I o 9).toInt := by rw [← e_56, q_u_k (by decide)]
          exact (hp _ _ hR_57 hf_58 (by first | omega | (intro h; omega) | exact Or.inl rfl | exact Or.inr rfl) (by first | omega | (intro h; omega) | exact Or.inl rfl | exact Or.inr rfl) (by first | omega | (intro h; omega) | exact Or.inl rfl | exact Or.inr rfl) (by clear hg; intro _; omega) (by first | omega | (intro h; omega) | exact Or.inl rfl | exact Or.inr rfl) (by first | omega | (intro h; omega) | exact Or.inl rfl | exact Or.inr rfl) (by intro h; omega) (by unfold MTk; refine ⟨by omega, fun h => by omega⟩) hg.symm)
        · have d_65 := iNe c_53
          replace hg := gt_neg (by first | exact d_65 | omega) hg
          unfold fModel_next_454
          replace hg := (eModel_next_454).symm.trans hg
          unfold fModel_next_459
          replace hg := (eModel_next_459).symm.trans hg
          have l_66 : (1 : Int32).toInt = 1 := rfl
          refine fun I_67 e_68 => ?_
          replace hg := gt_let (y := tI I_67) (tI_q e_68) hg
          have hR_69 : RI R I_67 := hR.up0 (k := 8) ra (by decide) (Or.inr hz18) e_68 (show (0 : Int) ≤ (1 : Int32).toInt by omega) (show (1 : Int32).toInt ≤ (6 : Int) by omega)
          have hf_70 : Fm (fun c => c = o) I0 I_67 := hf.set (by first | rfl | omega | (dsimp only; omega)) e_68
          have t_71 : (I_67 o 3).toInt = (I o 3).toInt := by rw [← e_68, q_u_k (by decide)]
          have t_72 : (I_67 o 4).toInt = (I o 4).toInt := by rw [← e_68, q_u_k (by decide)]
          have t_73 : (I_67 o 6).toInt = (I o 6).toInt := by rw [← e_68, q_u_k (by decide)]
          have t_74 : (I_67 o 7).toInt = (I o 7).toInt := by rw [← e_68, q_u_k (by decide)]
          have t_75 : (I_67 o 8).toInt = (1 : Int32).toInt := by rw [← e_68, q_u_at]
          have t_76 : (I_67 o 9).toInt = (I o 9).toInt := by rw [← e_68, q_u_k (by decide)]
          exact (hp _ _ hR_69 hf_70 (by first | omega | (intro h; omega) | exact Or.inl rfl | exact Or.inr rfl) (by first | omega | (intro h; omega) | exact Or.inl rfl | exact Or.inr rfl) (by first | omega | (intro h; omega) | exact Or.inl rfl | exact Or.inr rfl) (by clear hg; intro _; omega) (by first | omega | (intro h; omega) | exact Or.inl rfl | exact Or.inr rfl) (by first | omega | (intro h; omega) | exact Or.inl rfl | exact Or.inr rfl) (by intro h; omega) (by unfold MTk; refine ⟨by omega, fun h => by omega⟩) hg.symm)
    · have d_77 := iNe c_23
      replace hg := gt_neg (by first | exact d_77 | omega) hg
      have dl := u_13 (by have := u_18 (by omega); omega)
      have g_78 : (0 : Int) ≤ (I o 7).toInt ∧ (I o 7).toInt ≤ 1601 := hR.at0 ra 7 (by decide)
      replace hg := gt_let (y := (I o 7).toInt) rfl hg
      have g_79 : (0 : Int) ≤ (I o 6).toInt ∧ (I o 6).toInt ≤ 1600 := hR.at0 ra 6 (by decide)
      replace hg := gt_let (y := (I o 6).toInt) rfl hg
      have a_80 : ((I o 7) - (I o 6)).toInt = (I o 7).toInt - (I o 6).toInt := tSub (by omega) (by omega)
      replace hg := gt_let (y := (((I o 7) - (I o 6)) : Int32).toInt) (by omega) hg
      have l_81 : (4 : Int32).toInt = 4 := rfl
      refine ⟨fun c_82 => ?_, fun c_82 => ?_⟩
      · have d_83 := iLe c_82
        replace hg := gt_pos (by first | exact d_83 | omega) hg
        unfold fModel_next_413
        replace hg := (eModel_next_413).symm.trans hg
        have g_84 : (0 : Int) ≤ (I o 7).toInt ∧ (I o 7).toInt ≤ 1601 := hR.at0 ra 7 (by decide)
        replace hg := gt_let (y := (I o 7).toInt) rfl hg
        have l_85 : (1 : Int32).toInt = 1 := rfl
        have a_86 : ((I o 7) + 1).toInt = (I o 7).toInt + (1 : Int32).toInt := tAdd (by omega) (by omega)
        replace hg := gt_let (y := (((I o 7) + 1) : Int32).toInt) (by omega) hg
        refine fun I_87 e_88 => ?_
        replace hg := gt_let (y := tI I_87) (tI_q e_88) hg
        have hR_89 : RI R I_87 := hR.up0 (k := 7) ra (by decide) (Or.inr hz17) e_88 (show (0 : Int) ≤ ((I o 7) + 1).toInt by omega) (show ((I o 7) + 1).toInt ≤ (1601 : Int) by omega)
        have hf_90 : Fm (fun c => c = o) I0 I_87 := hf.set (by first | rfl | omega | (dsimp only; omega)) e_88
        have t_91 : (I_87 o 3).toInt = (I o 3).toInt := by rw [← e_88, q_u_k (by decide)]
        have t_92 : (I_87 o 4).toInt = (I o 4).toInt := by rw [← e_88, q_u_k (by decide)]
        have t_93 : (I_87 o 6).toInt = (I o 6).toInt := by rw [← e_88, q_u_k (by decide)]
        have t_94 : (I_87 o 7).toInt = ((I o 7) + 1).toInt := by rw [← e_88, q_u_at]
        have t_95 : (I_87 o 8).toInt = (I o 8).toInt := by rw [← e_88, q_u_k (by decide)]
        have t_96 : (I_87 o 9).toInt = (I o 9).toInt := by rw [← e_88, q_u_k (by decide)]
        exact ih hR_89 hf_90 (by first | omega | (intro h; omega) | exact Or.inl rfl | exact Or.inr rfl) (by first | omega | (intro h; omega) | exact Or.inl rfl | exact Or.inr rfl) (by first | exact sgLo sc (by omega) (by omega) | exact sgLo (a := I o 6) rfl (by omega) (by omega)) (by first | exact sgHi sc (by omega) (by omega) | exact sgHi (a := I o 6) rfl (by omega) (by omega)) (by first | omega | (intro h; omega) | exact Or.inl rfl | exact Or.inr rfl) hg (by omega)
      · have d_97 := iNle c_82
        replace hg := gt_neg (by first | exact d_97 | omega) hg
        replace hg := gt_let (y := (I o 9).toInt) rfl hg
        have l_98 : (10 : Int32).toInt = 10 := rfl
        replace hg := gt_let (y := ((10 * (I o 9)) : Int32).toInt) (wMul_eq (10 : Int32) ((I o 9) : Int32)) hg
        have g_99 : (0 : Int) ≤ (I o 7).toInt ∧ (I o 7).toInt ≤ 1601 := hR.at0 ra 7 (by decide)
        replace hg := gt_let (y := (I o 7).toInt) rfl hg
        refine y_Model_signg hok hw ra (by first | omega | (intro h; omega) | exact Or.inl rfl | exact Or.inr rfl) hR (fun r_100 u_101 u_102 gn_103 => ⟨r_100, I, L, rfl, rfl, ?_⟩)
        replace hg := gt_let gn_103 hg
        clear gn_103
        replace hg := gt_let (y := (((10 * (I o 9)) + r_100) : Int32).toInt) (wAdd_eq ((10 * (I o 9)) : Int32) (r_100 : Int32)) hg
        have l_104 : (48 : Int32).toInt = 48 := rfl
        replace hg := gt_let (y := ((((10 * (I o 9)) + r_100) - 48) : Int32).toInt) (wSub_eq (((10 * (I o 9)) + r_100) : Int32) (48 : Int32)) hg
        refine fun I_105 e_106 => ?_
        replace hg := gt_let (y := tI I_105) (tI_q e_106) hg
        have hR_107 : RI R I_105 := hR.up0 (k := 9) ra (by decide) (Or.inr hz19) e_106 (i_lo _) (i_hi _)
        have hf_108 : Fm (fun c => c = o) I0 I_105 := hf.set (by first | rfl | omega | (dsimp only; omega)) e_106
        have t_109 : (I_105 o 3).toInt = (I o 3).toInt := by rw [← e_106, q_u_k (by decide)]
        have t_110 : (I_105 o 4).toInt = (I o 4).toInt := by rw [← e_106, q_u_k (by decide)]
        have t_111 : (I_105 o 6).toInt = (I o 6).toInt := by rw [← e_106, q_u_k (by decide)]
        have t_112 : (I_105 o 7).toInt = (I o 7).toInt := by rw [← e_106, q_u_k (by decide)]
        have t_113 : (I_105 o 8).toInt = (I o 8).toInt := by rw [← e_106, q_u_k (by decide)]
        have t_114 : (I_105 o 9).toInt = (((10 * (I o 9)) + r_100) - 48).toInt := by rw [← e_106, q_u_at]
        unfold fModel_next_413
        replace hg := (eModel_next_413).symm.trans hg
        have g_115 : (0 : Int) ≤ (I_105 o 7).toInt ∧ (I_105 o 7).toInt ≤ 1601 := hR_107.at0 ra 7 (by decide)
        replace hg := gt_let (y := (I_105 o 7).toInt) rfl hg
        have l_116 : (1 : Int32).toInt = 1 := rfl
        have a_117 : ((I_105 o 7) + 1).toInt = (I_105 o 7).toInt + (1 : Int32).toInt := tAdd (by omega) (by omega)
        replace hg := gt_let (y := (((I_105 o 7) + 1) : Int32).toInt) (by omega) hg
        refine fun I_118 e_119 => ?_
        replace hg := gt_let (y := tI I_118) (tI_q e_119) hg
        have hR_120 : RI R I_118 := hR_107.up0 (k := 7) ra (by decide) (Or.inr hz17) e_119 (show (0 : Int) ≤ ((I_105 o 7) + 1).toInt by omega) (show ((I_105 o 7) + 1).toInt ≤ (1601 : Int) by omega)
        have hf_121 : Fm (fun c => c = o) I0 I_118 := hf_108.set (by first | rfl | omega | (dsimp only; omega)) e_119
        have t_122 : (I_118 o 3).toInt = (I_105 o 3).toInt := by rw [← e_119, q_u_k (by decide)]
        have t_123 : (I_118 o 4).toInt = (I_105 o 4).toInt := by rw [← e_119, q_u_k (by decide)]
        have t_124 : (I_118 o 6).toInt = (I_105 o 6).toInt := by rw [← e_119, q_u_k (by decide)]
        have t_125 : (I_118 o 7).toInt = ((I_105 o 7) + 1).toInt := by rw [← e_119, q_u_at]
        have t_126 : (I_118 o 8).toInt = (I_105 o 8).toInt := by rw [← e_119, q_u_k (by decide)]
        have t_127 : (I_118 o 9).toInt = (I_105 o 9).toInt := by rw [← e_119, q_u_k (by decide)]
        exact ih hR_120 hf_121 (by first | omega | (intro h; omega) | exact Or.inl rfl | exact Or.inr rfl) (by first | omega | (intro h; omega) | exact Or.inl rfl | exact Or.inr rfl) (by first | exact sgLo sc (by omega) (by omega) | exact sgLo (a := I o 6) rfl (by omega) (by omega)) (by first | exact sgHi sc (by omega) (by omega) | exact sgHi (a := I o 6) rfl (by omega) (by omega)) (by first | omega | (intro h; omega) | exact Or.inl rfl | exact Or.inr rfl) hg (by omega)
set_option maxHeartbeats 4000000 in
set_option maxRecDepth 20000 in
theorem yModel_next_260g {D : va_G} {cA : FieldType → ClassId} {b : Nat} {E : State → Prop} {R : qRg} {o n : Nat} {sh : Nat → qC} {Rf : Nat → Nat → Option Nat} {I0 : Nat → Nat → Int32} {L0 : Nat → Nat → Int64} {post : Option Value → qS → Prop} (hok : q_ok (qGG D cA b E)) (hw : WfModel (qGG D cA b E) n sh Rf o) (ra : RAModel R o) (hz16 : R.2 16 = true) (hz17 : R.2 17 = true) (hz18 : R.2 18 = true) (hz19 : R.2 19 = true) (hZ : Fz R I0 o wModel_next) (hR0 : RI R I0) (hq0 : (I0 o 7).toInt ≤ (I0 o 3).toInt) (hp : ∀ (I' : Nat → Nat → Int32) (L' : Nat → Nat → Int64), RI R I' → Fm (fun c => c = o) I0 I' → ((I' o 7).toInt ≤ (I' o 3).toInt) → ((I0 o 7).toInt ≤ (I' o 7).toInt) → (7 * (I0 o 7).toInt - (I0 o 8).toInt + (I0 o 4).toInt ≤ 7 * (I' o 7).toInt - (I' o 8).toInt + (I' o 4).toInt) → (Im ((I0 o 8).toInt ≠ 0) (7 * (I0 o 7).toInt - (I0 o 8).toInt + (I0 o 4).toInt < 7 * (I' o 7).toInt - (I' o 8).toInt + (I' o 4).toInt)) → ((I0 o 7).toInt ≤ (I' o 6).toInt) → ((I' o 6).toInt ≤ (I' o 3).toInt) → (MPo I' o) → (MTk I' o) → (gModel_next_0 o (tI I0) L0 = (0, tI I', L')) → post none (n, sh, Rf, I', L')) : ∀ (k : Nat) {x1 : Int32} {x2 : Int32} {I : Nat → Nat → Int32} {L : Nat → Nat → Int64}, RI R I → Fm (fun c => c = o) I0 I → ((0 : Int) ≤ x2.toInt ∧ x2.toInt ≤ 1601) → ((I0 o 7).toInt ≤ (I o 6).toInt) → ((I o 6).toInt < (I o 7).toInt) → ((I o 7).toInt ≤ (I o 3).toInt) → (gModel_next_260 k o (tI I) L (x1).toInt (x2).toInt = gModel_next_0 o (tI I0) L0) → (1601 - x2.toInt).toNat < k → Ev (qGG D cA b E) mModel_next 2 (0, 0) 260 [(0, .ref o), (1, .int x1), (2, .int x2)] [] (n, sh, Rf, I, L) post := by
  intro k
  induction k with
  | zero =>
    intro x1 x2 I L hR hf hi0 hi1 hi2 hi3 hg hm
    exact absurd hm (Nat.not_lt_zero _)
  | succ k ih =>
    intro x1 x2 I L hR hf hi0 hi1 hi2 hi3 hg hm
    have g_128 : (0 : Int) ≤ (I o 3).toInt ∧ (I o 3).toInt ≤ 1600 := hR.at0 ra 3 (by decide)
    have z_129 : (I o 3).toInt = (I0 o 3).toInt := by rw [hZ I 3 rfl hR]
    have g_130 : (0 : Int) ≤ (I o 4).toInt ∧ (I o 4).toInt ≤ 5 := hR.at0 ra 4 (by decide)
    have z_131 : (I o 4).toInt = (I0 o 4).toInt := by rw [hZ I 4 rfl hR]
    have g_132 : (0 : Int) ≤ (I o 6).toInt ∧ (I o 6).toInt ≤ 1600 := hR.at0 ra 6 (by decide)
    have g_133 : (0 : Int) ≤ (I0 o 6).toInt ∧ (I0 o 6).toInt ≤ 1600 := hR0.at0 ra 6 (by decide)
    have g_134 : (0 : Int) ≤ (I o 7).toInt ∧ (I o 7).toInt ≤ 1601 := hR.at0 ra 7 (by decide)
    have g_135 : (0 : Int) ≤ (I0 o 7).toInt ∧ (I0 o 7).toInt ≤ 1601 := hR0.at0 ra 7 (by decide)
    have g_136 : (0 : Int) ≤ (I o 8).toInt ∧ (I o 8).toInt ≤ 6 := hR.at0 ra 8 (by decide)
    have g_137 : (0 : Int) ≤ (I0 o 8).toInt ∧ (I0 o 8).toInt ≤ 6 := hR0.at0 ra 8 (by decide)
    refine sModel_next_260 o n sh Rf I L post x1 x2 hok hw ?_
    unfold fModel_next_260
    replace hg := (eModel_next_260).symm.trans hg
    have g_138 : (0 : Int) ≤ (I o 7).toInt ∧ (I o 7).toInt ≤ 1601 := hR.at0 ra 7 (by decide)
    replace hg := gt_let (y := (I o 7).toInt) rfl hg
    refine ⟨fun c_139 => ?_, fun c_139 => ?_⟩
    · have d_140 := iLe c_139
      replace hg := gt_pos (by first | exact d_140 | omega) hg
      unfold fModel_next_303
      replace hg := (eModel_next_303).symm.trans hg
      have g_141 : (0 : Int) ≤ (I o 7).toInt ∧ (I o 7).toInt ≤ 1601 := hR.at0 ra 7 (by decide)
      replace hg := gt_let (y := (I o 7).toInt) rfl hg
      have g_142 : (0 : Int) ≤ (I o 6).toInt ∧ (I o 6).toInt ≤ 1600 := hR.at0 ra 6 (by decide)
      replace hg := gt_let (y := (I o 6).toInt) rfl hg
      have a_143 : ((I o 7) - (I o 6)).toInt = (I o 7).toInt - (I o 6).toInt := tSub (by omega) (by omega)
      replace hg := gt_let (y := (((I o 7) - (I o 6)) : Int32).toInt) (by omega) hg
      have l_144 : (8 : Int32).toInt = 8 := rfl
      refine ⟨fun c_145 => ?_, fun c_145 => ?_⟩
      · have d_146 := iLe c_145
        replace hg := gt_pos (by first | exact d_146 | omega) hg
        refine y_Model_isKeptg hok hR (fun r_147 u_148 gn_149 => ⟨r_147, I, L, rfl, rfl, ?_⟩)
        replace hg := gt_let gn_149 hg
        clear gn_149
        have b_150 : 0 ≤ r_147.toInt ∧ r_147.toInt ≤ 1 := u_148.rg
        have l_151 : (0 : Int32).toInt = 0 := rfl
        refine ⟨fun c_152 => ?_, fun c_152 => ?_⟩
        · have d_153 := iEq c_152
          replace hg := gt_pos (by first | exact d_153 | omega) hg
          unfold fModel_next_337
          replace hg := (eModel_next_337).symm.trans hg
          have l_154 : (2 : Int32).toInt = 2 := rfl
          refine fun I_155 e_156 => ?_
          replace hg := gt_let (y := tI I_155) (tI_q e_156) hg
          have hR_157 : RI R I_155 := hR.up0 (k := 8) ra (by decide) (Or.inr hz18) e_156 (show (0 : Int) ≤ (2 : Int32).toInt by omega) (show (2 : Int32).toInt ≤ (6 : Int) by omega)
          have hf_158 : Fm (fun c => c = o) I0 I_155 := hf.set (by first | rfl | omega | (dsimp only; omega)) e_156
          have t_159 : (I_155 o 3).toInt = (I o 3).toInt := by rw [← e_156, q_u_k (by decide)]
          have t_160 : (I_155 o 4).toInt = (I o 4).toInt := by rw [← e_156, q_u_k (by decide)]
          have t_161 : (I_155 o 6).toInt = (I o 6).toInt := by rw [← e_156, q_u_k (by decide)]
          have t_162 : (I_155 o 7).toInt = (I o 7).toInt := by rw [← e_156, q_u_k (by decide)]
          have t_163 : (I_155 o 8).toInt = (2 : Int32).toInt := by rw [← e_156, q_u_at]
          have t_164 : (I_155 o 9).toInt = (I o 9).toInt := by rw [← e_156, q_u_k (by decide)]
          exact (hp _ _ hR_157 hf_158 (by first | omega | (intro h; omega) | exact Or.inl rfl | exact Or.inr rfl) (by first | omega | (intro h; omega) | exact Or.inl rfl | exact Or.inr rfl) (by first | omega | (intro h; omega) | exact Or.inl rfl | exact Or.inr rfl) (by clear hg; intro _; omega) (by first | omega | (intro h; omega) | exact Or.inl rfl | exact Or.inr rfl) (by first | omega | (intro h; omega) | exact Or.inl rfl | exact Or.inr rfl) (by intro h; omega) (by unfold MTk; refine ⟨by omega, fun h => by omega⟩) hg.symm)
        · have d_165 := iNe c_152
          replace hg := gt_neg (by first | exact d_165 | omega) hg
          unfold fModel_next_337
          replace hg := (eModel_next_337).symm.trans hg
          have l_166 : (3 : Int32).toInt = 3 := rfl
          refine fun I_167 e_168 => ?_
          replace hg := gt_let (y := tI I_167) (tI_q e_168) hg
          have hR_169 : RI R I_167 := hR.up0 (k := 8) ra (by decide) (Or.inr hz18) e_168 (show (0 : Int) ≤ (3 : Int32).toInt by omega) (show (3 : Int32).toInt ≤ (6 : Int) by omega)
          have hf_170 : Fm (fun c => c = o) I0 I_167 := hf.set (by first | rfl | omega | (dsimp only; omega)) e_168
          have t_171 : (I_167 o 3).toInt = (I o 3).toInt := by rw [← e_168, q_u_k (by decide)]
          have t_172 : (I_167 o 4).toInt = (I o 4).toInt := by rw [← e_168, q_u_k (by decide)]
          have t_173 : (I_167 o 6).toInt = (I o 6).toInt := by rw [← e_168, q_u_k (by decide)]
          have t_174 : (I_167 o 7).toInt = (I o 7).toInt := by rw [← e_168, q_u_k (by decide)]
          have t_175 : (I_167 o 8).toInt = (3 : Int32).toInt := by rw [← e_168, q_u_at]
          have t_176 : (I_167 o 9).toInt = (I o 9).toInt := by rw [← e_168, q_u_k (by decide)]
          exact (hp _ _ hR_169 hf_170 (by first | omega | (intro h; omega) | exact Or.inl rfl | exact Or.inr rfl) (by first | omega | (intro h; omega) | exact Or.inl rfl | exact Or.inr rfl) (by first | omega | (intro h; omega) | exact Or.inl rfl | exact Or.inr rfl) (by clear hg; intro _; omega) (by first | omega | (intro h; omega) | exact Or.inl rfl | exact Or.inr rfl) (by first | omega | (intro h; omega) | exact Or.inl rfl | exact Or.inr rfl) (by intro h; omega) (by unfold MTk; refine ⟨by omega, fun h => by omega⟩) hg.symm)
      · have d_177 := iNle c_145
        replace hg := gt_neg (by first | exact d_177 | omega) hg
        unfold fModel_next_337
        replace hg := (eModel_next_337).symm.trans hg
        have l_178 : (1 : Int32).toInt = 1 := rfl
        refine fun I_179 e_180 => ?_
        replace hg := gt_let (y := tI I_179) (tI_q e_180) hg
        have hR_181 : RI R I_179 := hR.up0 (k := 8) ra (by decide) (Or.inr hz18) e_180 (show (0 : Int) ≤ (1 : Int32).toInt by omega) (show (1 : Int32).toInt ≤ (6 : Int) by omega)
        have hf_182 : Fm (fun c => c = o) I0 I_179 := hf.set (by first | rfl | omega | (dsimp only; omega)) e_180
        have t_183 : (I_179 o 3).toInt = (I o 3).toInt := by rw [← e_180, q_u_k (by decide)]
        have t_184 : (I_179 o 4).toInt = (I o 4).toInt := by rw [← e_180, q_u_k (by decide)]
        have t_185 : (I_179 o 6).toInt = (I o 6).toInt := by rw [← e_180, q_u_k (by decide)]
        have t_186 : (I_179 o 7).toInt = (I o 7).toInt := by rw [← e_180, q_u_k (by decide)]
        have t_187 : (I_179 o 8).toInt = (1 : Int32).toInt := by rw [← e_180, q_u_at]
        have t_188 : (I_179 o 9).toInt = (I o 9).toInt := by rw [← e_180, q_u_k (by decide)]
        exact (hp _ _ hR_181 hf_182 (by first | omega | (intro h; omega) | exact Or.inl rfl | exact Or.inr rfl) (by first | omega | (intro h; omega) | exact Or.inl rfl | exact Or.inr rfl) (by first | omega | (intro h; omega) | exact Or.inl rfl | exact Or.inr rfl) (by clear hg; intro _; omega) (by first | omega | (intro h; omega) | exact Or.inl rfl | exact Or.inr rfl) (by first | omega | (intro h; omega) | exact Or.inl rfl | exact Or.inr rfl) (by intro h; omega) (by unfold MTk; refine ⟨by omega, fun h => by omega⟩) hg.symm)
    · have d_189 := iNle c_139
      replace hg := gt_neg (by first | exact d_189 | omega) hg
      have g_190 : (0 : Int) ≤ (I o 6).toInt ∧ (I o 6).toInt ≤ 1600 := hR.at0 ra 6 (by decide)
      replace hg := gt_let (y := (I o 6).toInt) rfl hg
      have l_191 : (8 : Int32).toInt = 8 := rfl
      have a_192 : ((I o 6) + 8).toInt = (I o 6).toInt + (8 : Int32).toInt := tAdd (by omega) (by omega)
      replace hg := gt_let (y := (((I o 6) + 8) : Int32).toInt) (by omega) hg
      refine ⟨fun c_193 => ?_, fun c_193 => ?_⟩
      · have d_194 := iLe c_193
        replace hg := gt_pos (by first | exact d_194 | omega) hg
        unfold fModel_next_303
        replace hg := (eModel_next_303).symm.trans hg
        have g_195 : (0 : Int) ≤ (I o 7).toInt ∧ (I o 7).toInt ≤ 1601 := hR.at0 ra 7 (by decide)
        replace hg := gt_let (y := (I o 7).toInt) rfl hg
        have g_196 : (0 : Int) ≤ (I o 6).toInt ∧ (I o 6).toInt ≤ 1600 := hR.at0 ra 6 (by decide)
        replace hg := gt_let (y := (I o 6).toInt) rfl hg
        have a_197 : ((I o 7) - (I o 6)).toInt = (I o 7).toInt - (I o 6).toInt := tSub (by omega) (by omega)
        replace hg := gt_let (y := (((I o 7) - (I o 6)) : Int32).toInt) (by omega) hg
        refine ⟨fun c_198 => ?_, fun c_198 => ?_⟩
        · have d_199 := iLe c_198
          replace hg := gt_pos (by first | exact d_199 | omega) hg
          refine y_Model_isKeptg hok hR (fun r_200 u_201 gn_202 => ⟨r_200, I, L, rfl, rfl, ?_⟩)
          replace hg := gt_let gn_202 hg
          clear gn_202
          have b_203 : 0 ≤ r_200.toInt ∧ r_200.toInt ≤ 1 := u_201.rg
          have l_204 : (0 : Int32).toInt = 0 := rfl
          refine ⟨fun c_205 => ?_, fun c_205 => ?_⟩
          · have d_206 := iEq c_205
            replace hg := gt_pos (by first | exact d_206 | omega) hg
            unfold fModel_next_337
            replace hg := (eModel_next_337).symm.trans hg
            have l_207 : (2 : Int32).toInt = 2 := rfl
            refine fun I_208 e_209 => ?_
            replace hg := gt_let (y := tI I_208) (tI_q e_209) hg
            have hR_210 : RI R I_208 := hR.up0 (k := 8) ra (by decide) (Or.inr hz18) e_209 (show (0 : Int) ≤ (2 : Int32).toInt by omega) (show (2 : Int32).toInt ≤ (6 : Int) by omega)
            have hf_211 : Fm (fun c => c = o) I0 I_208 := hf.set (by first | rfl | omega | (dsimp only; omega)) e_209
            have t_212 : (I_208 o 3).toInt = (I o 3).toInt := by rw [← e_209, q_u_k (by decide)]
            have t_213 : (I_208 o 4).toInt = (I o 4).toInt := by rw [← e_209, q_u_k (by decide)]
            have t_214 : (I_208 o 6).toInt = (I o 6).toInt := by rw [← e_209, q_u_k (by decide)]
            have t_215 : (I_208 o 7).toInt = (I o 7).toInt := by rw [← e_209, q_u_k (by decide)]
            have t_216 : (I_208 o 8).toInt = (2 : Int32).toInt := by rw [← e_209, q_u_at]
            have t_217 : (I_208 o 9).toInt = (I o 9).toInt := by rw [← e_209, q_u_k (by decide)]
            exact (hp _ _ hR_210 hf_211 (by first | omega | (intro h; omega) | exact Or.inl rfl | exact Or.inr rfl) (by first | omega | (intro h; omega) | exact Or.inl rfl | exact Or.inr rfl) (by first | omega | (intro h; omega) | exact Or.inl rfl | exact Or.inr rfl) (by clear hg; intro _; omega) (by first | omega | (intro h; omega) | exact Or.inl rfl | exact Or.inr rfl) (by first | omega | (intro h; omega) | exact Or.inl rfl | exact Or.inr rfl) (by intro h; omega) (by unfold MTk; refine ⟨by omega, fun h => by omega⟩) hg.symm)
          · have d_218 := iNe c_205
            replace hg := gt_neg (by first | exact d_218 | omega) hg
            unfold fModel_next_337
            replace hg := (eModel_next_337).symm.trans hg
            have l_219 : (3 : Int32).toInt = 3 := rfl
            refine fun I_220 e_221 => ?_
            replace hg := gt_let (y := tI I_220) (tI_q e_221) hg
            have hR_222 : RI R I_220 := hR.up0 (k := 8) ra (by decide) (Or.inr hz18) e_221 (show (0 : Int) ≤ (3 : Int32).toInt by omega) (show (3 : Int32).toInt ≤ (6 : Int) by omega)
            have hf_223 : Fm (fun c => c = o) I0 I_220 := hf.set (by first | rfl | omega | (dsimp only; omega)) e_221
            have t_224 : (I_220 o 3).toInt = (I o 3).toInt := by rw [← e_221, q_u_k (by decide)]
            have t_225 : (I_220 o 4).toInt = (I o 4).toInt := by rw [← e_221, q_u_k (by decide)]
            have t_226 : (I_220 o 6).toInt = (I o 6).toInt := by rw [← e_221, q_u_k (by decide)]
            have t_227 : (I_220 o 7).toInt = (I o 7).toInt := by rw [← e_221, q_u_k (by decide)]
            have t_228 : (I_220 o 8).toInt = (3 : Int32).toInt := by rw [← e_221, q_u_at]
            have t_229 : (I_220 o 9).toInt = (I o 9).toInt := by rw [← e_221, q_u_k (by decide)]
            exact (hp _ _ hR_222 hf_223 (by first | omega | (intro h; omega) | exact Or.inl rfl | exact Or.inr rfl) (by first | omega | (intro h; omega) | exact Or.inl rfl | exact Or.inr rfl) (by first | omega | (intro h; omega) | exact Or.inl rfl | exact Or.inr rfl) (by clear hg; intro _; omega) (by first | omega | (intro h; omega) | exact Or.inl rfl | exact Or.inr rfl) (by first | omega | (intro h; omega) | exact Or.inl rfl | exact Or.inr rfl) (by intro h; omega) (by unfold MTk; refine ⟨by omega, fun h => by omega⟩) hg.symm)
        · have d_230 := iNle c_198
          replace hg := gt_neg (by first | exact d_230 | omega) hg
          unfold fModel_next_337
          replace hg := (eModel_next_337).symm.trans hg
          have l_231 : (1 : Int32).toInt = 1 := rfl
          refine fun I_232 e_233 => ?_
          replace hg := gt_let (y := tI I_232) (tI_q e_233) hg
          have hR_234 : RI R I_232 := hR.up0 (k := 8) ra (by decide) (Or.inr hz18) e_233 (show (0 : Int) ≤ (1 : Int32).toInt by omega) (show (1 : Int32).toInt ≤ (6 : Int) by omega)
          have hf_235 : Fm (fun c => c = o) I0 I_232 := hf.set (by first | rfl | omega | (dsimp only; omega)) e_233
          have t_236 : (I_232 o 3).toInt = (I o 3).toInt := by rw [← e_233, q_u_k (by decide)]
          have t_237 : (I_232 o 4).toInt = (I o 4).toInt := by rw [← e_233, q_u_k (by decide)]
          have t_238 : (I_232 o 6).toInt = (I o 6).toInt := by rw [← e_233, q_u_k (by decide)]
          have t_239 : (I_232 o 7).toInt = (I o 7).toInt := by rw [← e_233, q_u_k (by decide)]
          have t_240 : (I_232 o 8).toInt = (1 : Int32).toInt := by rw [← e_233, q_u_at]
          have t_241 : (I_232 o 9).toInt = (I o 9).toInt := by rw [← e_233, q_u_k (by decide)]
          exact (hp _ _ hR_234 hf_235 (by first | omega | (intro h; omega) | exact Or.inl rfl | exact Or.inr rfl) (by first | omega | (intro h; omega) | exact Or.inl rfl | exact Or.inr rfl) (by first | omega | (intro h; omega) | exact Or.inl rfl | exact Or.inr rfl) (by clear hg; intro _; omega) (by first | omega | (intro h; omega) | exact Or.inl rfl | exact Or.inr rfl) (by first | omega | (intro h; omega) | exact Or.inl rfl | exact Or.inr rfl) (by intro h; omega) (by unfold MTk; refine ⟨by omega, fun h => by omega⟩) hg.symm)
      · have d_242 := iNle c_193
        replace hg := gt_neg (by first | exact d_242 | omega) hg
        refine y_Model_signg hok hw ra (by first | omega | (intro h; omega) | exact Or.inl rfl | exact Or.inr rfl) hR (fun r_243 u_244 u_245 gn_246 => ⟨r_243, I, L, rfl, rfl, ?_⟩)
        replace hg := gt_let gn_246 hg
        clear gn_246
        replace hg := gt_let (y := (r_243 : Int32).toInt64) (wI2L_eq (r_243 : Int32)) hg
        refine fun L_247 e_248 => ?_
        replace hg := gt_let (y := L_247) e_248 hg
        have a_250 : (x2 + Int32.ofInt 1).toInt = x2.toInt + (1) := tIc (by omega) (by omega) (by decide) (by decide)
        generalize ez_249 : (x2 + Int32.ofInt 1) = z_249 at a_250 ⊢
        replace hg := gt_let (y := z_249.toInt) (by omega) hg
        exact ih hR hf (by first | omega | (intro h; omega) | exact Or.inl rfl | exact Or.inr rfl) (by first | omega | (intro h; omega) | exact Or.inl rfl | exact Or.inr rfl) (by first | omega | (intro h; omega) | exact Or.inl rfl | exact Or.inr rfl) (by first | omega | (intro h; omega) | exact Or.inl rfl | exact Or.inr rfl) hg (by omega)
set_option maxHeartbeats 4000000 in
set_option maxRecDepth 20000 in
theorem yModel_next_223g {D : va_G} {cA : FieldType → ClassId} {b : Nat} {E : State → Prop} {R : qRg} {o n : Nat} {sh : Nat → qC} {Rf : Nat → Nat → Option Nat} {I0 : Nat → Nat → Int32} {L0 : Nat → Nat → Int64} {post : Option Value → qS → Prop} (hok : q_ok (qGG D cA b E)) (hw : WfModel (qGG D cA b E) n sh Rf o) (ra : RAModel R o) (hz16 : R.2 16 = true) (hz17 : R.2 17 = true) (hz18 : R.2 18 = true) (hz19 : R.2 19 = true) (hZ : Fz R I0 o wModel_next) (hR0 : RI R I0) (hq0 : (I0 o 7).toInt ≤ (I0 o 3).toInt) (hp : ∀ (I' : Nat → Nat → Int32) (L' : Nat → Nat → Int64), RI R I' → Fm (fun c => c = o) I0 I' → ((I' o 7).toInt ≤ (I' o 3).toInt) → ((I0 o 7).toInt ≤ (I' o 7).toInt) → (7 * (I0 o 7).toInt - (I0 o 8).toInt + (I0 o 4).toInt ≤ 7 * (I' o 7).toInt - (I' o 8).toInt + (I' o 4).toInt) → (Im ((I0 o 8).toInt ≠ 0) (7 * (I0 o 7).toInt - (I0 o 8).toInt + (I0 o 4).toInt < 7 * (I' o 7).toInt - (I' o 8).toInt + (I' o 4).toInt)) → ((I0 o 7).toInt ≤ (I' o 6).toInt) → ((I' o 6).toInt ≤ (I' o 3).toInt) → (MPo I' o) → (MTk I' o) → (gModel_next_0 o (tI I0) L0 = (0, tI I', L')) → post none (n, sh, Rf, I', L')) : ∀ (k : Nat) {x1 : Int32} {I : Nat → Nat → Int32} {L : Nat → Nat → Int64}, RI R I → Fm (fun c => c = o) I0 I → ((I0 o 7).toInt ≤ (I o 6).toInt) → ((I o 6).toInt < (I o 7).toInt) → ((I o 7).toInt ≤ (I o 3).toInt) → (gModel_next_223 k o (tI I) L (x1).toInt = gModel_next_0 o (tI I0) L0) → (1600 - (I o 7).toInt).toNat < k → Ev (qGG D cA b E) mModel_next 2 (0, 0) 223 [(0, .ref o), (1, .int x1)] [] (n, sh, Rf, I, L) post := by
  intro k
  induction k with
  | zero =>
    intro x1 I L hR hf hi0 hi1 hi2 hg hm
    exact absurd hm (Nat.not_lt_zero _)
  | succ k ih =>
    intro x1 I L hR hf hi0 hi1 hi2 hg hm
    have g_251 : (0 : Int) ≤ (I o 3).toInt ∧ (I o 3).toInt ≤ 1600 := hR.at0 ra 3 (by decide)
    have z_252 : (I o 3).toInt = (I0 o 3).toInt := by rw [hZ I 3 rfl hR]
    have g_253 : (0 : Int) ≤ (I o 4).toInt ∧ (I o 4).toInt ≤ 5 := hR.at0 ra 4 (by decide)
    have z_254 : (I o 4).toInt = (I0 o 4).toInt := by rw [hZ I 4 rfl hR]
    have g_255 : (0 : Int) ≤ (I o 6).toInt ∧ (I o 6).toInt ≤ 1600 := hR.at0 ra 6 (by decide)
    have g_256 : (0 : Int) ≤ (I0 o 6).toInt ∧ (I0 o 6).toInt ≤ 1600 := hR0.at0 ra 6 (by decide)
    have g_257 : (0 : Int) ≤ (I o 7).toInt ∧ (I o 7).toInt ≤ 1601 := hR.at0 ra 7 (by decide)
    have g_258 : (0 : Int) ≤ (I0 o 7).toInt ∧ (I0 o 7).toInt ≤ 1601 := hR0.at0 ra 7 (by decide)
    have g_259 : (0 : Int) ≤ (I o 8).toInt ∧ (I o 8).toInt ≤ 6 := hR.at0 ra 8 (by decide)
    have g_260 : (0 : Int) ≤ (I0 o 8).toInt ∧ (I0 o 8).toInt ≤ 6 := hR0.at0 ra 8 (by decide)
    refine sModel_next_223 o n sh Rf I L post x1 hok hw ?_
    unfold fModel_next_223
    replace hg := (eModel_next_223).symm.trans hg
    have g_261 : (0 : Int) ≤ (I o 7).toInt ∧ (I o 7).toInt ≤ 1601 := hR.at0 ra 7 (by decide)
    replace hg := gt_let (y := (I o 7).toInt) rfl hg
    refine y_Model_signg hok hw ra (by first | omega | (intro h; omega) | exact Or.inl rfl | exact Or.inr rfl) hR (fun r_262 u_263 u_264 gn_265 => ⟨r_262, I, L, rfl, rfl, ?_⟩)
    replace hg := gt_let gn_265 hg
    clear gn_265
    refine y_Model_isLetterg hok hR (fun r_266 u_267 u_268 gn_269 => ⟨r_266, I, L, rfl, rfl, ?_⟩)
    replace hg := gt_let gn_269 hg
    clear gn_269
    have b_270 : 0 ≤ r_266.toInt ∧ r_266.toInt ≤ 1 := u_267.rg
    have l_271 : (0 : Int32).toInt = 0 := rfl
    refine ⟨fun c_272 => ?_, fun c_272 => ?_⟩
    · have d_273 := iEq c_272
      replace hg := gt_pos (by first | exact d_273 | omega) hg
      refine fun L_274 e_275 => ?_
      replace hg := gt_let (y := L_274) e_275 hg
      have g_276 : (0 : Int) ≤ (I o 6).toInt ∧ (I o 6).toInt ≤ 1600 := hR.at0 ra 6 (by decide)
      replace hg := gt_let (y := (I o 6).toInt) rfl hg
      exact yModel_next_260g (I0 := I0) (L0 := L0) hok hw ra hz16 hz17 hz18 hz19 hZ hR0 hq0 hp  20000 hR hf (by first | omega | (intro h; omega) | exact Or.inl rfl | exact Or.inr rfl) (by first | omega | (intro h; omega) | exact Or.inl rfl | exact Or.inr rfl) (by first | omega | (intro h; omega) | exact Or.inl rfl | exact Or.inr rfl) (by first | omega | (intro h; omega) | exact Or.inl rfl | exact Or.inr rfl) hg (by omega)
    · have d_277 := iNe c_272
      replace hg := gt_neg (by first | exact d_277 | omega) hg
      have lt := u_263 (by have := u_268 (by omega); omega)
      have g_278 : (0 : Int) ≤ (I o 7).toInt ∧ (I o 7).toInt ≤ 1601 := hR.at0 ra 7 (by decide)
      replace hg := gt_let (y := (I o 7).toInt) rfl hg
      have l_279 : (1 : Int32).toInt = 1 := rfl
      have a_280 : ((I o 7) + 1).toInt = (I o 7).toInt + (1 : Int32).toInt := tAdd (by omega) (by omega)
      replace hg := gt_let (y := (((I o 7) + 1) : Int32).toInt) (by omega) hg
      refine fun I_281 e_282 => ?_
      replace hg := gt_let (y := tI I_281) (tI_q e_282) hg
      have hR_283 : RI R I_281 := hR.up0 (k := 7) ra (by decide) (Or.inr hz17) e_282 (show (0 : Int) ≤ ((I o 7) + 1).toInt by omega) (show ((I o 7) + 1).toInt ≤ (1601 : Int) by omega)
      have hf_284 : Fm (fun c => c = o) I0 I_281 := hf.set (by first | rfl | omega | (dsimp only; omega)) e_282
      have t_285 : (I_281 o 3).toInt = (I o 3).toInt := by rw [← e_282, q_u_k (by decide)]
      have t_286 : (I_281 o 4).toInt = (I o 4).toInt := by rw [← e_282, q_u_k (by decide)]
      have t_287 : (I_281 o 6).toInt = (I o 6).toInt := by rw [← e_282, q_u_k (by decide)]
      have t_288 : (I_281 o 7).toInt = ((I o 7) + 1).toInt := by rw [← e_282, q_u_at]
      have t_289 : (I_281 o 8).toInt = (I o 8).toInt := by rw [← e_282, q_u_k (by decide)]
      have t_290 : (I_281 o 9).toInt = (I o 9).toInt := by rw [← e_282, q_u_k (by decide)]
      exact ih hR_283 hf_284 (by first | omega | (intro h; omega) | exact Or.inl rfl | exact Or.inr rfl) (by first | omega | (intro h; omega) | exact Or.inl rfl | exact Or.inr rfl) (by first | omega | (intro h; omega) | exact Or.inl rfl | exact Or.inr rfl) hg (by omega)
set_option maxHeartbeats 4000000 in
set_option maxRecDepth 20000 in
theorem jModel_next_58g {D : va_G} {cA : FieldType → ClassId} {b : Nat} {E : State → Prop} {R : qRg} {o n : Nat} {sh : Nat → qC} {Rf : Nat → Nat → Option Nat} {I0 : Nat → Nat → Int32} {L0 : Nat → Nat → Int64} {post : Option Value → qS → Prop} (hok : q_ok (qGG D cA b E)) (hw : WfModel (qGG D cA b E) n sh Rf o) (ra : RAModel R o) (hz16 : R.2 16 = true) (hz17 : R.2 17 = true) (hz18 : R.2 18 = true) (hz19 : R.2 19 = true) (hZ : Fz R I0 o wModel_next) (hR0 : RI R I0) (hq0 : (I0 o 7).toInt ≤ (I0 o 3).toInt) (hp : ∀ (I' : Nat → Nat → Int32) (L' : Nat → Nat → Int64), RI R I' → Fm (fun c => c = o) I0 I' → ((I' o 7).toInt ≤ (I' o 3).toInt) → ((I0 o 7).toInt ≤ (I' o 7).toInt) → (7 * (I0 o 7).toInt - (I0 o 8).toInt + (I0 o 4).toInt ≤ 7 * (I' o 7).toInt - (I' o 8).toInt + (I' o 4).toInt) → (Im ((I0 o 8).toInt ≠ 0) (7 * (I0 o 7).toInt - (I0 o 8).toInt + (I0 o 4).toInt < 7 * (I' o 7).toInt - (I' o 8).toInt + (I' o 4).toInt)) → ((I0 o 7).toInt ≤ (I' o 6).toInt) → ((I' o 6).toInt ≤ (I' o 3).toInt) → (MPo I' o) → (MTk I' o) → (gModel_next_0 o (tI I0) L0 = (0, tI I', L')) → post none (n, sh, Rf, I', L')) : ∀  {I : Nat → Nat → Int32} {L : Nat → Nat → Int64}, RI R I → Fm (fun c => c = o) I0 I → ((I o 7).toInt = (I0 o 7).toInt) → ((I o 7).toInt ≤ (I o 6).toInt) → ((I o 6).toInt ≤ (I o 3).toInt) → ((I o 7).toInt ≤ (I o 3).toInt) → (gModel_next_58 o (tI I) L  = gModel_next_0 o (tI I0) L0) → fModel_next_58 D cA b E o n sh Rf I L post  := by
  intro  I L hR hf hi0 hi1 hi2 hi3 hg
  have g_291 : (0 : Int) ≤ (I o 3).toInt ∧ (I o 3).toInt ≤ 1600 := hR.at0 ra 3 (by decide)
  have z_292 : (I o 3).toInt = (I0 o 3).toInt := by rw [hZ I 3 rfl hR]
  have g_293 : (0 : Int) ≤ (I o 4).toInt ∧ (I o 4).toInt ≤ 5 := hR.at0 ra 4 (by decide)
  have z_294 : (I o 4).toInt = (I0 o 4).toInt := by rw [hZ I 4 rfl hR]
  have g_295 : (0 : Int) ≤ (I o 6).toInt ∧ (I o 6).toInt ≤ 1600 := hR.at0 ra 6 (by decide)
  have g_296 : (0 : Int) ≤ (I0 o 6).toInt ∧ (I0 o 6).toInt ≤ 1600 := hR0.at0 ra 6 (by decide)
  have g_297 : (0 : Int) ≤ (I o 7).toInt ∧ (I o 7).toInt ≤ 1601 := hR.at0 ra 7 (by decide)
  have g_298 : (0 : Int) ≤ (I0 o 7).toInt ∧ (I0 o 7).toInt ≤ 1601 := hR0.at0 ra 7 (by decide)
  have g_299 : (0 : Int) ≤ (I o 8).toInt ∧ (I o 8).toInt ≤ 6 := hR.at0 ra 8 (by decide)
  have g_300 : (0 : Int) ≤ (I0 o 8).toInt ∧ (I0 o 8).toInt ≤ 6 := hR0.at0 ra 8 (by decide)
  unfold fModel_next_58
  replace hg := (eModel_next_58).symm.trans hg
  have g_301 : (0 : Int) ≤ (I o 6).toInt ∧ (I o 6).toInt ≤ 1600 := hR.at0 ra 6 (by decide)
  replace hg := gt_let (y := (I o 6).toInt) rfl hg
  refine y_Model_signg hok hw ra (by first | omega | (intro h; omega) | exact Or.inl rfl | exact Or.inr rfl) hR (fun r_302 u_303 u_304 gn_305 => ⟨r_302, I, L, rfl, rfl, ?_⟩)
  replace hg := gt_let gn_305 hg
  clear gn_305
  obtain ⟨a1, ha1⟩ : ∃ a, a = I o 6 := ⟨_, rfl⟩
  have hA : a1.toInt = (I o 6).toInt := by rw [ha1]
  have sc := u_304
  rw [hf (o + 2) (by first | omega | (dsimp only; omega)), show I o 3 = I0 o 3 from Int32.toInt_inj.mp (by omega), show I o 6 = a1 from Int32.toInt_inj.mp (by omega)] at sc
  have g_306 : (0 : Int) ≤ (I o 6).toInt ∧ (I o 6).toInt ≤ 1600 := hR.at0 ra 6 (by decide)
  replace hg := gt_let (y := (I o 6).toInt) rfl hg
  have l_307 : (1 : Int32).toInt = 1 := rfl
  have a_308 : ((I o 6) + 1).toInt = (I o 6).toInt + (1 : Int32).toInt := tAdd (by omega) (by omega)
  replace hg := gt_let (y := (((I o 6) + 1) : Int32).toInt) (by omega) hg
  refine fun I_309 e_310 => ?_
  replace hg := gt_let (y := tI I_309) (tI_q e_310) hg
  have hR_311 : RI R I_309 := hR.up0 (k := 7) ra (by decide) (Or.inr hz17) e_310 (show (0 : Int) ≤ ((I o 6) + 1).toInt by omega) (show ((I o 6) + 1).toInt ≤ (1601 : Int) by omega)
  have hf_312 : Fm (fun c => c = o) I0 I_309 := hf.set (by first | rfl | omega | (dsimp only; omega)) e_310
  have t_313 : (I_309 o 3).toInt = (I o 3).toInt := by rw [← e_310, q_u_k (by decide)]
  have t_314 : (I_309 o 4).toInt = (I o 4).toInt := by rw [← e_310, q_u_k (by decide)]
  have t_315 : (I_309 o 6).toInt = (I o 6).toInt := by rw [← e_310, q_u_k (by decide)]
  have t_316 : (I_309 o 7).toInt = ((I o 6) + 1).toInt := by rw [← e_310, q_u_at]
  have t_317 : (I_309 o 8).toInt = (I o 8).toInt := by rw [← e_310, q_u_k (by decide)]
  have t_318 : (I_309 o 9).toInt = (I o 9).toInt := by rw [← e_310, q_u_k (by decide)]
  have g_319 : (0 : Int) ≤ (I_309 o 6).toInt ∧ (I_309 o 6).toInt ≤ 1600 := hR_311.at0 ra 6 (by decide)
  replace hg := gt_let (y := (I_309 o 6).toInt) rfl hg
  have g_320 : (0 : Int) ≤ (I_309 o 3).toInt ∧ (I_309 o 3).toInt ≤ 1600 := hR_311.at0 ra 3 (by decide)
  replace hg := gt_let (y := (I_309 o 3).toInt) rfl hg
  refine ⟨fun c_321 => ?_, fun c_321 => ?_⟩
  · have d_322 := iLt c_321
    replace hg := gt_pos (by first | exact d_322 | omega) hg
    replace hg := gt_let (y := (I_309 o 11).toInt) rfl hg
    have l_323 : (0 : Int32).toInt = 0 := rfl
    refine ⟨fun c_324 => ?_, fun c_324 => ?_⟩
    · have d_325 := iNe c_324
      replace hg := gt_neg (by first | exact d_325 | omega) hg
      unfold fModel_next_216
      replace hg := (eModel_next_216).symm.trans hg
      refine y_Model_isLetterg hok hR_311 (fun r_326 u_327 u_328 gn_329 => ⟨r_326, I_309, L, rfl, rfl, ?_⟩)
      replace hg := gt_let gn_329 hg
      clear gn_329
      have b_330 : 0 ≤ r_326.toInt ∧ r_326.toInt ≤ 1 := u_327.rg
      refine ⟨fun c_331 => ?_, fun c_331 => ?_⟩
      · have d_332 := iEq c_331
        replace hg := gt_pos (by first | exact d_332 | omega) hg
        refine y_Model_isDigitg hok hR_311 (fun r_333 u_334 u_335 u_336 gn_337 => ⟨r_333, I_309, L, rfl, rfl, ?_⟩)
        replace hg := gt_let gn_337 hg
        clear gn_337
        have b_338 : 0 ≤ r_333.toInt ∧ r_333.toInt ≤ 1 := u_334.rg
        refine ⟨fun c_339 => ?_, fun c_339 => ?_⟩
        · have d_340 := iEq c_339
          replace hg := gt_pos (by first | exact d_340 | omega) hg
          refine y_Model_isSigng hok hR_311 (fun r_341 u_342 gn_343 => ⟨r_341, I_309, L, rfl, rfl, ?_⟩)
          replace hg := gt_let gn_343 hg
          clear gn_343
          have b_344 : 0 ≤ r_341.toInt ∧ r_341.toInt ≤ 1 := u_342.rg
          refine ⟨fun c_345 => ?_, fun c_345 => ?_⟩
          · have d_346 := iEq c_345
            replace hg := gt_pos (by first | exact d_346 | omega) hg
            refine fun I_347 e_348 => ?_
            replace hg := gt_let (y := tI I_347) (tI_q e_348) hg
            have hR_349 : RI R I_347 := hR_311.up0 (k := 8) ra (by decide) (Or.inr hz18) e_348 (show (0 : Int) ≤ (1 : Int32).toInt by omega) (show (1 : Int32).toInt ≤ (6 : Int) by omega)
            have hf_350 : Fm (fun c => c = o) I0 I_347 := hf_312.set (by first | rfl | omega | (dsimp only; omega)) e_348
            have t_351 : (I_347 o 3).toInt = (I_309 o 3).toInt := by rw [← e_348, q_u_k (by decide)]
            have t_352 : (I_347 o 4).toInt = (I_309 o 4).toInt := by rw [← e_348, q_u_k (by decide)]
            have t_353 : (I_347 o 6).toInt = (I_309 o 6).toInt := by rw [← e_348, q_u_k (by decide)]
            have t_354 : (I_347 o 7).toInt = (I_309 o 7).toInt := by rw [← e_348, q_u_k (by decide)]
            have t_355 : (I_347 o 8).toInt = (1 : Int32).toInt := by rw [← e_348, q_u_at]
            have t_356 : (I_347 o 9).toInt = (I_309 o 9).toInt := by rw [← e_348, q_u_k (by decide)]
            exact (hp _ _ hR_349 hf_350 (by first | omega | (intro h; omega) | exact Or.inl rfl | exact Or.inr rfl) (by first | omega | (intro h; omega) | exact Or.inl rfl | exact Or.inr rfl) (by first | omega | (intro h; omega) | exact Or.inl rfl | exact Or.inr rfl) (by clear hg; intro _; omega) (by first | omega | (intro h; omega) | exact Or.inl rfl | exact Or.inr rfl) (by first | omega | (intro h; omega) | exact Or.inl rfl | exact Or.inr rfl) (by intro h; omega) (by unfold MTk; refine ⟨by omega, fun h => by omega⟩) hg.symm)
          · have d_357 := iNe c_345
            replace hg := gt_neg (by first | exact d_357 | omega) hg
            have l_358 : (6 : Int32).toInt = 6 := rfl
            refine fun I_359 e_360 => ?_
            replace hg := gt_let (y := tI I_359) (tI_q e_360) hg
            have hR_361 : RI R I_359 := hR_311.up0 (k := 8) ra (by decide) (Or.inr hz18) e_360 (show (0 : Int) ≤ (6 : Int32).toInt by omega) (show (6 : Int32).toInt ≤ (6 : Int) by omega)
            have hf_362 : Fm (fun c => c = o) I0 I_359 := hf_312.set (by first | rfl | omega | (dsimp only; omega)) e_360
            have t_363 : (I_359 o 3).toInt = (I_309 o 3).toInt := by rw [← e_360, q_u_k (by decide)]
            have t_364 : (I_359 o 4).toInt = (I_309 o 4).toInt := by rw [← e_360, q_u_k (by decide)]
            have t_365 : (I_359 o 6).toInt = (I_309 o 6).toInt := by rw [← e_360, q_u_k (by decide)]
            have t_366 : (I_359 o 7).toInt = (I_309 o 7).toInt := by rw [← e_360, q_u_k (by decide)]
            have t_367 : (I_359 o 8).toInt = (6 : Int32).toInt := by rw [← e_360, q_u_at]
            have t_368 : (I_359 o 9).toInt = (I_309 o 9).toInt := by rw [← e_360, q_u_k (by decide)]
            exact (hp _ _ hR_361 hf_362 (by first | omega | (intro h; omega) | exact Or.inl rfl | exact Or.inr rfl) (by first | omega | (intro h; omega) | exact Or.inl rfl | exact Or.inr rfl) (by first | omega | (intro h; omega) | exact Or.inl rfl | exact Or.inr rfl) (by clear hg; intro _; omega) (by first | omega | (intro h; omega) | exact Or.inl rfl | exact Or.inr rfl) (by first | omega | (intro h; omega) | exact Or.inl rfl | exact Or.inr rfl) (by intro h; omega) (by unfold MTk; refine ⟨by omega, fun h => by omega⟩) hg.symm)
        · have d_369 := iNe c_339
          replace hg := gt_neg (by first | exact d_369 | omega) hg
          have dc := u_335 (by omega)
          refine fun I_370 e_371 => ?_
          replace hg := gt_let (y := tI I_370) (tI_q e_371) hg
          have hR_372 : RI R I_370 := hR_311.up0 (k := 9) ra (by decide) (Or.inr hz19) e_371 (i_lo _) (i_hi _)
          have hf_373 : Fm (fun c => c = o) I0 I_370 := hf_312.set (by first | rfl | omega | (dsimp only; omega)) e_371
          have t_374 : (I_370 o 3).toInt = (I_309 o 3).toInt := by rw [← e_371, q_u_k (by decide)]
          have t_375 : (I_370 o 4).toInt = (I_309 o 4).toInt := by rw [← e_371, q_u_k (by decide)]
          have t_376 : (I_370 o 6).toInt = (I_309 o 6).toInt := by rw [← e_371, q_u_k (by decide)]
          have t_377 : (I_370 o 7).toInt = (I_309 o 7).toInt := by rw [← e_371, q_u_k (by decide)]
          have t_378 : (I_370 o 8).toInt = (I_309 o 8).toInt := by rw [← e_371, q_u_k (by decide)]
          have t_379 : (I_370 o 9).toInt = (0 : Int32).toInt := by rw [← e_371, q_u_at]
          have g_380 : (0 : Int) ≤ (I_370 o 6).toInt ∧ (I_370 o 6).toInt ≤ 1600 := hR_372.at0 ra 6 (by decide)
          replace hg := gt_let (y := (I_370 o 6).toInt) rfl hg
          refine fun I_381 e_382 => ?_
          replace hg := gt_let (y := tI I_381) (tI_q e_382) hg
          have hR_383 : RI R I_381 := hR_372.up0 (k := 7) ra (by decide) (Or.inr hz17) e_382 (show (0 : Int) ≤ (I_370 o 6).toInt by omega) (show (I_370 o 6).toInt ≤ (1601 : Int) by omega)
          have hf_384 : Fm (fun c => c = o) I0 I_381 := hf_373.set (by first | rfl | omega | (dsimp only; omega)) e_382
          have t_385 : (I_381 o 3).toInt = (I_370 o 3).toInt := by rw [← e_382, q_u_k (by decide)]
          have t_386 : (I_381 o 4).toInt = (I_370 o 4).toInt := by rw [← e_382, q_u_k (by decide)]
          have t_387 : (I_381 o 6).toInt = (I_370 o 6).toInt := by rw [← e_382, q_u_k (by decide)]
          have t_388 : (I_381 o 7).toInt = (I_370 o 6).toInt := by rw [← e_382, q_u_at]
          have t_389 : (I_381 o 8).toInt = (I_370 o 8).toInt := by rw [← e_382, q_u_k (by decide)]
          have t_390 : (I_381 o 9).toInt = (I_370 o 9).toInt := by rw [← e_382, q_u_k (by decide)]
          exact yModel_next_363g (I0 := I0) (L0 := L0) hok hw ra hz16 hz17 hz18 hz19 hZ hR0 hq0 hp  20000 hR_383 hf_384 (by first | omega | (intro h; omega) | exact Or.inl rfl | exact Or.inr rfl) (by first | omega | (intro h; omega) | exact Or.inl rfl | exact Or.inr rfl) (by first | exact sgLo sc (by omega) (by omega) | exact sgLo (a := I o 6) rfl (by omega) (by omega)) (by first | exact sgHi sc (by omega) (by omega) | exact sgHi (a := I o 6) rfl (by omega) (by omega)) (by first | omega | (intro h; omega) | exact Or.inl rfl | exact Or.inr rfl) hg (by omega)
      · have d_391 := iNe c_331
        replace hg := gt_neg (by first | exact d_391 | omega) hg
        exact yModel_next_223g (I0 := I0) (L0 := L0) hok hw ra hz16 hz17 hz18 hz19 hZ hR0 hq0 hp  20000 hR_311 hf_312 (by first | omega | (intro h; omega) | exact Or.inl rfl | exact Or.inr rfl) (by first | omega | (intro h; omega) | exact Or.inl rfl | exact Or.inr rfl) (by first | omega | (intro h; omega) | exact Or.inl rfl | exact Or.inr rfl) hg (by omega)
    · have d_392 := iEq c_324
      replace hg := gt_pos (by first | exact d_392 | omega) hg
      have l_393 : (112 : Int32).toInt = 112 := rfl
      refine ⟨fun c_394 => ?_, fun c_394 => ?_⟩
      · have d_395 := iNe c_394
        replace hg := gt_neg (by first | exact d_395 | omega) hg
        unfold fModel_next_216
        replace hg := (eModel_next_216).symm.trans hg
        refine y_Model_isLetterg hok hR_311 (fun r_396 u_397 u_398 gn_399 => ⟨r_396, I_309, L, rfl, rfl, ?_⟩)
        replace hg := gt_let gn_399 hg
        clear gn_399
        have b_400 : 0 ≤ r_396.toInt ∧ r_396.toInt ≤ 1 := u_397.rg
        refine ⟨fun c_401 => ?_, fun c_401 => ?_⟩
        · have d_402 := iEq c_401
          replace hg := gt_pos (by first | exact d_402 | omega) hg
          refine y_Model_isDigitg hok hR_311 (fun r_403 u_404 u_405 u_406 gn_407 => ⟨r_403, I_309, L, rfl, rfl, ?_⟩)
          replace hg := gt_let gn_407 hg
          clear gn_407
          have b_408 : 0 ≤ r_403.toInt ∧ r_403.toInt ≤ 1 := u_404.rg
          refine ⟨fun c_409 => ?_, fun c_409 => ?_⟩
          · have d_410 := iEq c_409
            replace hg := gt_pos (by first | exact d_410 | omega) hg
            refine y_Model_isSigng hok hR_311 (fun r_411 u_412 gn_413 => ⟨r_411, I_309, L, rfl, rfl, ?_⟩)
            replace hg := gt_let gn_413 hg
            clear gn_413
            have b_414 : 0 ≤ r_411.toInt ∧ r_411.toInt ≤ 1 := u_412.rg
            refine ⟨fun c_415 => ?_, fun c_415 => ?_⟩
            · have d_416 := iEq c_415
              replace hg := gt_pos (by first | exact d_416 | omega) hg
              refine fun I_417 e_418 => ?_
              replace hg := gt_let (y := tI I_417) (tI_q e_418) hg
              have hR_419 : RI R I_417 := hR_311.up0 (k := 8) ra (by decide) (Or.inr hz18) e_418 (show (0 : Int) ≤ (1 : Int32).toInt by omega) (show (1 : Int32).toInt ≤ (6 : Int) by omega)
              have hf_420 : Fm (fun c => c = o) I0 I_417 := hf_312.set (by first | rfl | omega | (dsimp only; omega)) e_418
              have t_421 : (I_417 o 3).toInt = (I_309 o 3).toInt := by rw [← e_418, q_u_k (by decide)]
              have t_422 : (I_417 o 4).toInt = (I_309 o 4).toInt := by rw [← e_418, q_u_k (by decide)]
              have t_423 : (I_417 o 6).toInt = (I_309 o 6).toInt := by rw [← e_418, q_u_k (by decide)]
              have t_424 : (I_417 o 7).toInt = (I_309 o 7).toInt := by rw [← e_418, q_u_k (by decide)]
              have t_425 : (I_417 o 8).toInt = (1 : Int32).toInt := by rw [← e_418, q_u_at]
              have t_426 : (I_417 o 9).toInt = (I_309 o 9).toInt := by rw [← e_418, q_u_k (by decide)]
              exact (hp _ _ hR_419 hf_420 (by first | omega | (intro h; omega) | exact Or.inl rfl | exact Or.inr rfl) (by first | omega | (intro h; omega) | exact Or.inl rfl | exact Or.inr rfl) (by first | omega | (intro h; omega) | exact Or.inl rfl | exact Or.inr rfl) (by clear hg; intro _; omega) (by first | omega | (intro h; omega) | exact Or.inl rfl | exact Or.inr rfl) (by first | omega | (intro h; omega) | exact Or.inl rfl | exact Or.inr rfl) (by intro h; omega) (by unfold MTk; refine ⟨by omega, fun h => by omega⟩) hg.symm)
            · have d_427 := iNe c_415
              replace hg := gt_neg (by first | exact d_427 | omega) hg
              have l_428 : (6 : Int32).toInt = 6 := rfl
              refine fun I_429 e_430 => ?_
              replace hg := gt_let (y := tI I_429) (tI_q e_430) hg
              have hR_431 : RI R I_429 := hR_311.up0 (k := 8) ra (by decide) (Or.inr hz18) e_430 (show (0 : Int) ≤ (6 : Int32).toInt by omega) (show (6 : Int32).toInt ≤ (6 : Int) by omega)
              have hf_432 : Fm (fun c => c = o) I0 I_429 := hf_312.set (by first | rfl | omega | (dsimp only; omega)) e_430
              have t_433 : (I_429 o 3).toInt = (I_309 o 3).toInt := by rw [← e_430, q_u_k (by decide)]
              have t_434 : (I_429 o 4).toInt = (I_309 o 4).toInt := by rw [← e_430, q_u_k (by decide)]
              have t_435 : (I_429 o 6).toInt = (I_309 o 6).toInt := by rw [← e_430, q_u_k (by decide)]
              have t_436 : (I_429 o 7).toInt = (I_309 o 7).toInt := by rw [← e_430, q_u_k (by decide)]
              have t_437 : (I_429 o 8).toInt = (6 : Int32).toInt := by rw [← e_430, q_u_at]
              have t_438 : (I_429 o 9).toInt = (I_309 o 9).toInt := by rw [← e_430, q_u_k (by decide)]
              exact (hp _ _ hR_431 hf_432 (by first | omega | (intro h; omega) | exact Or.inl rfl | exact Or.inr rfl) (by first | omega | (intro h; omega) | exact Or.inl rfl | exact Or.inr rfl) (by first | omega | (intro h; omega) | exact Or.inl rfl | exact Or.inr rfl) (by clear hg; intro _; omega) (by first | omega | (intro h; omega) | exact Or.inl rfl | exact Or.inr rfl) (by first | omega | (intro h; omega) | exact Or.inl rfl | exact Or.inr rfl) (by intro h; omega) (by unfold MTk; refine ⟨by omega, fun h => by omega⟩) hg.symm)
          · have d_439 := iNe c_409
            replace hg := gt_neg (by first | exact d_439 | omega) hg
            have dc := u_405 (by omega)
            refine fun I_440 e_441 => ?_
            replace hg := gt_let (y := tI I_440) (tI_q e_441) hg
            have hR_442 : RI R I_440 := hR_311.up0 (k := 9) ra (by decide) (Or.inr hz19) e_441 (i_lo _) (i_hi _)
            have hf_443 : Fm (fun c => c = o) I0 I_440 := hf_312.set (by first | rfl | omega | (dsimp only; omega)) e_441
            have t_444 : (I_440 o 3).toInt = (I_309 o 3).toInt := by rw [← e_441, q_u_k (by decide)]
            have t_445 : (I_440 o 4).toInt = (I_309 o 4).toInt := by rw [← e_441, q_u_k (by decide)]
            have t_446 : (I_440 o 6).toInt = (I_309 o 6).toInt := by rw [← e_441, q_u_k (by decide)]
            have t_447 : (I_440 o 7).toInt = (I_309 o 7).toInt := by rw [← e_441, q_u_k (by decide)]
            have t_448 : (I_440 o 8).toInt = (I_309 o 8).toInt := by rw [← e_441, q_u_k (by decide)]
            have t_449 : (I_440 o 9).toInt = (0 : Int32).toInt := by rw [← e_441, q_u_at]
            have g_450 : (0 : Int) ≤ (I_440 o 6).toInt ∧ (I_440 o 6).toInt ≤ 1600 := hR_442.at0 ra 6 (by decide)
            replace hg := gt_let (y := (I_440 o 6).toInt) rfl hg
            refine fun I_451 e_452 => ?_
            replace hg := gt_let (y := tI I_451) (tI_q e_452) hg
            have hR_453 : RI R I_451 := hR_442.up0 (k := 7) ra (by decide) (Or.inr hz17) e_452 (show (0 : Int) ≤ (I_440 o 6).toInt by omega) (show (I_440 o 6).toInt ≤ (1601 : Int) by omega)
            have hf_454 : Fm (fun c => c = o) I0 I_451 := hf_443.set (by first | rfl | omega | (dsimp only; omega)) e_452
            have t_455 : (I_451 o 3).toInt = (I_440 o 3).toInt := by rw [← e_452, q_u_k (by decide)]
            have t_456 : (I_451 o 4).toInt = (I_440 o 4).toInt := by rw [← e_452, q_u_k (by decide)]
            have t_457 : (I_451 o 6).toInt = (I_440 o 6).toInt := by rw [← e_452, q_u_k (by decide)]
            have t_458 : (I_451 o 7).toInt = (I_440 o 6).toInt := by rw [← e_452, q_u_at]
            have t_459 : (I_451 o 8).toInt = (I_440 o 8).toInt := by rw [← e_452, q_u_k (by decide)]
            have t_460 : (I_451 o 9).toInt = (I_440 o 9).toInt := by rw [← e_452, q_u_k (by decide)]
            exact yModel_next_363g (I0 := I0) (L0 := L0) hok hw ra hz16 hz17 hz18 hz19 hZ hR0 hq0 hp  20000 hR_453 hf_454 (by first | omega | (intro h; omega) | exact Or.inl rfl | exact Or.inr rfl) (by first | omega | (intro h; omega) | exact Or.inl rfl | exact Or.inr rfl) (by first | exact sgLo sc (by omega) (by omega) | exact sgLo (a := I o 6) rfl (by omega) (by omega)) (by first | exact sgHi sc (by omega) (by omega) | exact sgHi (a := I o 6) rfl (by omega) (by omega)) (by first | omega | (intro h; omega) | exact Or.inl rfl | exact Or.inr rfl) hg (by omega)
        · have d_461 := iNe c_401
          replace hg := gt_neg (by first | exact d_461 | omega) hg
          exact yModel_next_223g (I0 := I0) (L0 := L0) hok hw ra hz16 hz17 hz18 hz19 hZ hR0 hq0 hp  20000 hR_311 hf_312 (by first | omega | (intro h; omega) | exact Or.inl rfl | exact Or.inr rfl) (by first | omega | (intro h; omega) | exact Or.inl rfl | exact Or.inr rfl) (by first | omega | (intro h; omega) | exact Or.inl rfl | exact Or.inr rfl) hg (by omega)
      · have d_462 := iEq c_394
        replace hg := gt_pos (by first | exact d_462 | omega) hg
        have g_463 : (0 : Int) ≤ (I_309 o 6).toInt ∧ (I_309 o 6).toInt ≤ 1600 := hR_311.at0 ra 6 (by decide)
        replace hg := gt_let (y := (I_309 o 6).toInt) rfl hg
        have a_464 : ((I_309 o 6) + 1).toInt = (I_309 o 6).toInt + (1 : Int32).toInt := tAdd (by omega) (by omega)
        replace hg := gt_let (y := (((I_309 o 6) + 1) : Int32).toInt) (by omega) hg
        refine y_Model_pointAtg hok hw ra (by first | omega | (intro h; omega) | exact Or.inl rfl | exact Or.inr rfl) hR_311 (fun r_465 u_466 u_467 gn_468 => ⟨r_465, I_309, L, rfl, rfl, ?_⟩)
        replace hg := gt_let gn_468 hg
        clear gn_468
        refine ⟨fun c_469 => ?_, fun c_469 => ?_⟩
        · have d_470 := iLe c_469
          replace hg := gt_pos (by first | exact d_470 | omega) hg
          unfold fModel_next_216
          replace hg := (eModel_next_216).symm.trans hg
          refine y_Model_isLetterg hok hR_311 (fun r_471 u_472 u_473 gn_474 => ⟨r_471, I_309, L, rfl, rfl, ?_⟩)
          replace hg := gt_let gn_474 hg
          clear gn_474
          have b_475 : 0 ≤ r_471.toInt ∧ r_471.toInt ≤ 1 := u_472.rg
          refine ⟨fun c_476 => ?_, fun c_476 => ?_⟩
          · have d_477 := iEq c_476
            replace hg := gt_pos (by first | exact d_477 | omega) hg
            refine y_Model_isDigitg hok hR_311 (fun r_478 u_479 u_480 u_481 gn_482 => ⟨r_478, I_309, L, rfl, rfl, ?_⟩)
            replace hg := gt_let gn_482 hg
            clear gn_482
            have b_483 : 0 ≤ r_478.toInt ∧ r_478.toInt ≤ 1 := u_479.rg
            refine ⟨fun c_484 => ?_, fun c_484 => ?_⟩
            · have d_485 := iEq c_484
              replace hg := gt_pos (by first | exact d_485 | omega) hg
              refine y_Model_isSigng hok hR_311 (fun r_486 u_487 gn_488 => ⟨r_486, I_309, L, rfl, rfl, ?_⟩)
              replace hg := gt_let gn_488 hg
              clear gn_488
              have b_489 : 0 ≤ r_486.toInt ∧ r_486.toInt ≤ 1 := u_487.rg
              refine ⟨fun c_490 => ?_, fun c_490 => ?_⟩
              · have d_491 := iEq c_490
                replace hg := gt_pos (by first | exact d_491 | omega) hg
                refine fun I_492 e_493 => ?_
                replace hg := gt_let (y := tI I_492) (tI_q e_493) hg
                have hR_494 : RI R I_492 := hR_311.up0 (k := 8) ra (by decide) (Or.inr hz18) e_493 (show (0 : Int) ≤ (1 : Int32).toInt by omega) (show (1 : Int32).toInt ≤ (6 : Int) by omega)
                have hf_495 : Fm (fun c => c = o) I0 I_492 := hf_312.set (by first | rfl | omega | (dsimp only; omega)) e_493
                have t_496 : (I_492 o 3).toInt = (I_309 o 3).toInt := by rw [← e_493, q_u_k (by decide)]
                have t_497 : (I_492 o 4).toInt = (I_309 o 4).toInt := by rw [← e_493, q_u_k (by decide)]
                have t_498 : (I_492 o 6).toInt = (I_309 o 6).toInt := by rw [← e_493, q_u_k (by decide)]
                have t_499 : (I_492 o 7).toInt = (I_309 o 7).toInt := by rw [← e_493, q_u_k (by decide)]
                have t_500 : (I_492 o 8).toInt = (1 : Int32).toInt := by rw [← e_493, q_u_at]
                have t_501 : (I_492 o 9).toInt = (I_309 o 9).toInt := by rw [← e_493, q_u_k (by decide)]
                exact (hp _ _ hR_494 hf_495 (by first | omega | (intro h; omega) | exact Or.inl rfl | exact Or.inr rfl) (by first | omega | (intro h; omega) | exact Or.inl rfl | exact Or.inr rfl) (by first | omega | (intro h; omega) | exact Or.inl rfl | exact Or.inr rfl) (by clear hg; intro _; omega) (by first | omega | (intro h; omega) | exact Or.inl rfl | exact Or.inr rfl) (by first | omega | (intro h; omega) | exact Or.inl rfl | exact Or.inr rfl) (by intro h; omega) (by unfold MTk; refine ⟨by omega, fun h => by omega⟩) hg.symm)
              · have d_502 := iNe c_490
                replace hg := gt_neg (by first | exact d_502 | omega) hg
                have l_503 : (6 : Int32).toInt = 6 := rfl
                refine fun I_504 e_505 => ?_
                replace hg := gt_let (y := tI I_504) (tI_q e_505) hg
                have hR_506 : RI R I_504 := hR_311.up0 (k := 8) ra (by decide) (Or.inr hz18) e_505 (show (0 : Int) ≤ (6 : Int32).toInt by omega) (show (6 : Int32).toInt ≤ (6 : Int) by omega)
                have hf_507 : Fm (fun c => c = o) I0 I_504 := hf_312.set (by first | rfl | omega | (dsimp only; omega)) e_505
                have t_508 : (I_504 o 3).toInt = (I_309 o 3).toInt := by rw [← e_505, q_u_k (by decide)]
                have t_509 : (I_504 o 4).toInt = (I_309 o 4).toInt := by rw [← e_505, q_u_k (by decide)]
                have t_510 : (I_504 o 6).toInt = (I_309 o 6).toInt := by rw [← e_505, q_u_k (by decide)]
                have t_511 : (I_504 o 7).toInt = (I_309 o 7).toInt := by rw [← e_505, q_u_k (by decide)]
                have t_512 : (I_504 o 8).toInt = (6 : Int32).toInt := by rw [← e_505, q_u_at]
                have t_513 : (I_504 o 9).toInt = (I_309 o 9).toInt := by rw [← e_505, q_u_k (by decide)]
                exact (hp _ _ hR_506 hf_507 (by first | omega | (intro h; omega) | exact Or.inl rfl | exact Or.inr rfl) (by first | omega | (intro h; omega) | exact Or.inl rfl | exact Or.inr rfl) (by first | omega | (intro h; omega) | exact Or.inl rfl | exact Or.inr rfl) (by clear hg; intro _; omega) (by first | omega | (intro h; omega) | exact Or.inl rfl | exact Or.inr rfl) (by first | omega | (intro h; omega) | exact Or.inl rfl | exact Or.inr rfl) (by intro h; omega) (by unfold MTk; refine ⟨by omega, fun h => by omega⟩) hg.symm)
            · have d_514 := iNe c_484
              replace hg := gt_neg (by first | exact d_514 | omega) hg
              have dc := u_480 (by omega)
              refine fun I_515 e_516 => ?_
              replace hg := gt_let (y := tI I_515) (tI_q e_516) hg
              have hR_517 : RI R I_515 := hR_311.up0 (k := 9) ra (by decide) (Or.inr hz19) e_516 (i_lo _) (i_hi _)
              have hf_518 : Fm (fun c => c = o) I0 I_515 := hf_312.set (by first | rfl | omega | (dsimp only; omega)) e_516
              have t_519 : (I_515 o 3).toInt = (I_309 o 3).toInt := by rw [← e_516, q_u_k (by decide)]
              have t_520 : (I_515 o 4).toInt = (I_309 o 4).toInt := by rw [← e_516, q_u_k (by decide)]
              have t_521 : (I_515 o 6).toInt = (I_309 o 6).toInt := by rw [← e_516, q_u_k (by decide)]
              have t_522 : (I_515 o 7).toInt = (I_309 o 7).toInt := by rw [← e_516, q_u_k (by decide)]
              have t_523 : (I_515 o 8).toInt = (I_309 o 8).toInt := by rw [← e_516, q_u_k (by decide)]
              have t_524 : (I_515 o 9).toInt = (0 : Int32).toInt := by rw [← e_516, q_u_at]
              have g_525 : (0 : Int) ≤ (I_515 o 6).toInt ∧ (I_515 o 6).toInt ≤ 1600 := hR_517.at0 ra 6 (by decide)
              replace hg := gt_let (y := (I_515 o 6).toInt) rfl hg
              refine fun I_526 e_527 => ?_
              replace hg := gt_let (y := tI I_526) (tI_q e_527) hg
              have hR_528 : RI R I_526 := hR_517.up0 (k := 7) ra (by decide) (Or.inr hz17) e_527 (show (0 : Int) ≤ (I_515 o 6).toInt by omega) (show (I_515 o 6).toInt ≤ (1601 : Int) by omega)
              have hf_529 : Fm (fun c => c = o) I0 I_526 := hf_518.set (by first | rfl | omega | (dsimp only; omega)) e_527
              have t_530 : (I_526 o 3).toInt = (I_515 o 3).toInt := by rw [← e_527, q_u_k (by decide)]
              have t_531 : (I_526 o 4).toInt = (I_515 o 4).toInt := by rw [← e_527, q_u_k (by decide)]
              have t_532 : (I_526 o 6).toInt = (I_515 o 6).toInt := by rw [← e_527, q_u_k (by decide)]
              have t_533 : (I_526 o 7).toInt = (I_515 o 6).toInt := by rw [← e_527, q_u_at]
              have t_534 : (I_526 o 8).toInt = (I_515 o 8).toInt := by rw [← e_527, q_u_k (by decide)]
              have t_535 : (I_526 o 9).toInt = (I_515 o 9).toInt := by rw [← e_527, q_u_k (by decide)]
              exact yModel_next_363g (I0 := I0) (L0 := L0) hok hw ra hz16 hz17 hz18 hz19 hZ hR0 hq0 hp  20000 hR_528 hf_529 (by first | omega | (intro h; omega) | exact Or.inl rfl | exact Or.inr rfl) (by first | omega | (intro h; omega) | exact Or.inl rfl | exact Or.inr rfl) (by first | exact sgLo sc (by omega) (by omega) | exact sgLo (a := I o 6) rfl (by omega) (by omega)) (by first | exact sgHi sc (by omega) (by omega) | exact sgHi (a := I o 6) rfl (by omega) (by omega)) (by first | omega | (intro h; omega) | exact Or.inl rfl | exact Or.inr rfl) hg (by omega)
          · have d_536 := iNe c_476
            replace hg := gt_neg (by first | exact d_536 | omega) hg
            exact yModel_next_223g (I0 := I0) (L0 := L0) hok hw ra hz16 hz17 hz18 hz19 hZ hR0 hq0 hp  20000 hR_311 hf_312 (by first | omega | (intro h; omega) | exact Or.inl rfl | exact Or.inr rfl) (by first | omega | (intro h; omega) | exact Or.inl rfl | exact Or.inr rfl) (by first | omega | (intro h; omega) | exact Or.inl rfl | exact Or.inr rfl) hg (by omega)
        · have d_537 := iNle c_469
          replace hg := gt_neg (by first | exact d_537 | omega) hg
          have pr := u_467
          rw [hf_312 (o + 2) (by first | omega | (dsimp only; omega)), show I_309 o 3 = I0 o 3 from Int32.toInt_inj.mp (by omega), show I_309 o 6 = a1 from Int32.toInt_inj.mp (by omega)] at pr
          have dk := pr.dig (by omega) (by omega)
          have kl := sg_lt dk.1
          have o1 : (1 : Int32).toInt = 1 := rfl
          have ka : (a1 + 1).toInt = a1.toInt + (1 : Int32).toInt := tAdd (by omega) (by omega)
          have g_538 : (0 : Int) ≤ (I_309 o 6).toInt ∧ (I_309 o 6).toInt ≤ 1600 := hR_311.at0 ra 6 (by decide)
          replace hg := gt_let (y := (I_309 o 6).toInt) rfl hg
          have a_539 : ((I_309 o 6) + 1).toInt = (I_309 o 6).toInt + (1 : Int32).toInt := tAdd (by omega) (by omega)
          replace hg := gt_let (y := (((I_309 o 6) + 1) : Int32).toInt) (by omega) hg
          refine y_Model_pointAtg hok hw ra (by first | omega | (intro h; omega) | exact Or.inl rfl | exact Or.inr rfl) hR_311 (fun r_540 u_541 u_542 gn_543 => ⟨r_540, I_309, L, rfl, rfl, ?_⟩)
          replace hg := gt_let gn_543 hg
          clear gn_543
          have pr2 := u_542
          rw [hf_312 (o + 2) (by first | omega | (dsimp only; omega)), show I_309 o 3 = I0 o 3 from Int32.toInt_inj.mp (by omega), show I_309 o 6 = a1 from Int32.toInt_inj.mp (by omega)] at pr2
          have g_544 : (0 : Int) ≤ (I_309 o 6).toInt ∧ (I_309 o 6).toInt ≤ 1600 := hR_311.at0 ra 6 (by decide)
          replace hg := gt_let (y := (I_309 o 6).toInt) rfl hg
          have a_545 : ((I_309 o 6) + 1).toInt = (I_309 o 6).toInt + (1 : Int32).toInt := tAdd (by omega) (by omega)
          replace hg := gt_let (y := (((I_309 o 6) + 1) : Int32).toInt) (by omega) hg
          refine y_Model_signg hok hw ra (by first | omega | (intro h; omega) | exact Or.inl rfl | exact Or.inr rfl) hR_311 (fun r_546 u_547 u_548 gn_549 => ⟨r_546, I_309, L, rfl, rfl, ?_⟩)
          replace hg := gt_let gn_549 hg
          clear gn_549
          have s1 := u_548
          rw [hf_312 (o + 2) (by first | omega | (dsimp only; omega)), show I_309 o 3 = I0 o 3 from Int32.toInt_inj.mp (by omega), show I_309 o 6 = a1 from Int32.toInt_inj.mp (by omega)] at s1
          have s1 := iEq s1
          have e48 : (48 : Int32).toInt = 48 := rfl
          have sb : (r_546 - 48).toInt = (r_546).toInt - (48 : Int32).toInt := tSub (by omega) (by omega)
          have l_550 : (48 : Int32).toInt = 48 := rfl
          replace hg := gt_let (y := ((r_546 - 48) : Int32).toInt) (wSub_eq (r_546 : Int32) (48 : Int32)) hg
          refine fun I_551 e_552 => ?_
          replace hg := gt_let (y := tI I_551) (tI_q e_552) hg
          have hR_553 : RI R I_551 := hR_311.up0 (k := 9) ra (by decide) (Or.inr hz19) e_552 (i_lo _) (i_hi _)
          have hf_554 : Fm (fun c => c = o) I0 I_551 := hf_312.set (by first | rfl | omega | (dsimp only; omega)) e_552
          have t_555 : (I_551 o 3).toInt = (I_309 o 3).toInt := by rw [← e_552, q_u_k (by decide)]
          have t_556 : (I_551 o 4).toInt = (I_309 o 4).toInt := by rw [← e_552, q_u_k (by decide)]
          have t_557 : (I_551 o 6).toInt = (I_309 o 6).toInt := by rw [← e_552, q_u_k (by decide)]
          have t_558 : (I_551 o 7).toInt = (I_309 o 7).toInt := by rw [← e_552, q_u_k (by decide)]
          have t_559 : (I_551 o 8).toInt = (I_309 o 8).toInt := by rw [← e_552, q_u_k (by decide)]
          have t_560 : (I_551 o 9).toInt = (r_546 - 48).toInt := by rw [← e_552, q_u_at]
          have l_561 : (2 : Int32).toInt = 2 := rfl
          refine ⟨fun c_562 => ?_, fun c_562 => ?_⟩
          · have d_563 := iNe c_562
            replace hg := gt_neg (by first | exact d_563 | omega) hg
            unfold fModel_next_196
            replace hg := (eModel_next_196).symm.trans hg
            have g_564 : (0 : Int) ≤ (I_551 o 6).toInt ∧ (I_551 o 6).toInt ≤ 1600 := hR_553.at0 ra 6 (by decide)
            replace hg := gt_let (y := (I_551 o 6).toInt) rfl hg
            have a_565 : ((I_551 o 6) + 1).toInt = (I_551 o 6).toInt + (1 : Int32).toInt := tAdd (by omega) (by omega)
            replace hg := gt_let (y := (((I_551 o 6) + 1) : Int32).toInt) (by omega) hg
            have a_566 : (((I_551 o 6) + 1) + r_540).toInt = ((I_551 o 6) + 1).toInt + r_540.toInt := tAdd (by omega) (by omega)
            replace hg := gt_let (y := ((((I_551 o 6) + 1) + r_540) : Int32).toInt) (by omega) hg
            refine fun I_567 e_568 => ?_
            replace hg := gt_let (y := tI I_567) (tI_q e_568) hg
            have hR_569 : RI R I_567 := hR_553.up0 (k := 7) ra (by decide) (Or.inr hz17) e_568 (show (0 : Int) ≤ (((I_551 o 6) + 1) + r_540).toInt by omega) (show (((I_551 o 6) + 1) + r_540).toInt ≤ (1601 : Int) by omega)
            have hf_570 : Fm (fun c => c = o) I0 I_567 := hf_554.set (by first | rfl | omega | (dsimp only; omega)) e_568
            have t_571 : (I_567 o 3).toInt = (I_551 o 3).toInt := by rw [← e_568, q_u_k (by decide)]
            have t_572 : (I_567 o 4).toInt = (I_551 o 4).toInt := by rw [← e_568, q_u_k (by decide)]
            have t_573 : (I_567 o 6).toInt = (I_551 o 6).toInt := by rw [← e_568, q_u_k (by decide)]
            have t_574 : (I_567 o 7).toInt = (((I_551 o 6) + 1) + r_540).toInt := by rw [← e_568, q_u_at]
            have t_575 : (I_567 o 8).toInt = (I_551 o 8).toInt := by rw [← e_568, q_u_k (by decide)]
            have t_576 : (I_567 o 9).toInt = (I_551 o 9).toInt := by rw [← e_568, q_u_k (by decide)]
            have l_577 : (5 : Int32).toInt = 5 := rfl
            refine fun I_578 e_579 => ?_
            replace hg := gt_let (y := tI I_578) (tI_q e_579) hg
            have hR_580 : RI R I_578 := hR_569.up0 (k := 8) ra (by decide) (Or.inr hz18) e_579 (show (0 : Int) ≤ (5 : Int32).toInt by omega) (show (5 : Int32).toInt ≤ (6 : Int) by omega)
            have hf_581 : Fm (fun c => c = o) I0 I_578 := hf_570.set (by first | rfl | omega | (dsimp only; omega)) e_579
            have t_582 : (I_578 o 3).toInt = (I_567 o 3).toInt := by rw [← e_579, q_u_k (by decide)]
            have t_583 : (I_578 o 4).toInt = (I_567 o 4).toInt := by rw [← e_579, q_u_k (by decide)]
            have t_584 : (I_578 o 6).toInt = (I_567 o 6).toInt := by rw [← e_579, q_u_k (by decide)]
            have t_585 : (I_578 o 7).toInt = (I_567 o 7).toInt := by rw [← e_579, q_u_k (by decide)]
            have t_586 : (I_578 o 8).toInt = (5 : Int32).toInt := by rw [← e_579, q_u_at]
            have t_587 : (I_578 o 9).toInt = (I_567 o 9).toInt := by rw [← e_579, q_u_k (by decide)]
            exact (hp _ _ hR_580 hf_581 (by first | omega | (intro h; omega) | exact Or.inl rfl | exact Or.inr rfl) (by first | omega | (intro h; omega) | exact Or.inl rfl | exact Or.inr rfl) (by first | omega | (intro h; omega) | exact Or.inl rfl | exact Or.inr rfl) (by clear hg; intro _; omega) (by first | omega | (intro h; omega) | exact Or.inl rfl | exact Or.inr rfl) (by first | omega | (intro h; omega) | exact Or.inl rfl | exact Or.inr rfl) (by intro h; omega) (by unfold MTk; refine ⟨by omega, fun h => by omega⟩) hg.symm)
          · have d_588 := iEq c_562
            replace hg := gt_pos (by first | exact d_588 | omega) hg
            have tw := pr2.two (by omega)
            have kl2 := sg_lt tw.2.2.1
            have ka2 : (a1 + 1 + 1).toInt = (a1 + 1).toInt + (1 : Int32).toInt := tAdd (by omega) (by omega)
            replace hg := gt_let (y := (I_551 o 9).toInt) rfl hg
            have l_589 : (10 : Int32).toInt = 10 := rfl
            replace hg := gt_let (y := ((10 * (I_551 o 9)) : Int32).toInt) (wMul_eq (10 : Int32) ((I_551 o 9) : Int32)) hg
            have g_590 : (0 : Int) ≤ (I_551 o 6).toInt ∧ (I_551 o 6).toInt ≤ 1600 := hR_553.at0 ra 6 (by decide)
            replace hg := gt_let (y := (I_551 o 6).toInt) rfl hg
            have a_591 : ((I_551 o 6) + 2).toInt = (I_551 o 6).toInt + (2 : Int32).toInt := tAdd (by omega) (by omega)
            replace hg := gt_let (y := (((I_551 o 6) + 2) : Int32).toInt) (by omega) hg
            refine y_Model_signg hok hw ra (by first | omega | (intro h; omega) | exact Or.inl rfl | exact Or.inr rfl) hR_553 (fun r_592 u_593 u_594 gn_595 => ⟨r_592, I_551, L, rfl, rfl, ?_⟩)
            replace hg := gt_let gn_595 hg
            clear gn_595
            have s2 := u_594
            rw [hf_554 (o + 2) (by first | omega | (dsimp only; omega)), show I_551 o 3 = I0 o 3 from Int32.toInt_inj.mp (by omega), show I_551 o 6 = a1 from Int32.toInt_inj.mp (by omega), show a1 + 2 = a1 + 1 + 1 by rw [Int32.add_assoc]; rfl] at s2
            have s2 := iEq s2
            have nn := mul10 (v := I_551 o 9) (c := r_592) (by omega) (by omega) (by omega) (by omega)
            replace hg := gt_let (y := (((10 * (I_551 o 9)) + r_592) : Int32).toInt) (wAdd_eq ((10 * (I_551 o 9)) : Int32) (r_592 : Int32)) hg
            replace hg := gt_let (y := ((((10 * (I_551 o 9)) + r_592) - 48) : Int32).toInt) (wSub_eq (((10 * (I_551 o 9)) + r_592) : Int32) (48 : Int32)) hg
            refine fun I_596 e_597 => ?_
            replace hg := gt_let (y := tI I_596) (tI_q e_597) hg
            have hR_598 : RI R I_596 := hR_553.up0 (k := 9) ra (by decide) (Or.inr hz19) e_597 (i_lo _) (i_hi _)
            have hf_599 : Fm (fun c => c = o) I0 I_596 := hf_554.set (by first | rfl | omega | (dsimp only; omega)) e_597
            have t_600 : (I_596 o 3).toInt = (I_551 o 3).toInt := by rw [← e_597, q_u_k (by decide)]
            have t_601 : (I_596 o 4).toInt = (I_551 o 4).toInt := by rw [← e_597, q_u_k (by decide)]
            have t_602 : (I_596 o 6).toInt = (I_551 o 6).toInt := by rw [← e_597, q_u_k (by decide)]
            have t_603 : (I_596 o 7).toInt = (I_551 o 7).toInt := by rw [← e_597, q_u_k (by decide)]
            have t_604 : (I_596 o 8).toInt = (I_551 o 8).toInt := by rw [← e_597, q_u_k (by decide)]
            have t_605 : (I_596 o 9).toInt = (((10 * (I_551 o 9)) + r_592) - 48).toInt := by rw [← e_597, q_u_at]
            unfold fModel_next_196
            replace hg := (eModel_next_196).symm.trans hg
            have g_606 : (0 : Int) ≤ (I_596 o 6).toInt ∧ (I_596 o 6).toInt ≤ 1600 := hR_598.at0 ra 6 (by decide)
            replace hg := gt_let (y := (I_596 o 6).toInt) rfl hg
            have a_607 : ((I_596 o 6) + 1).toInt = (I_596 o 6).toInt + (1 : Int32).toInt := tAdd (by omega) (by omega)
            replace hg := gt_let (y := (((I_596 o 6) + 1) : Int32).toInt) (by omega) hg
            have a_608 : (((I_596 o 6) + 1) + r_540).toInt = ((I_596 o 6) + 1).toInt + r_540.toInt := tAdd (by omega) (by omega)
            replace hg := gt_let (y := ((((I_596 o 6) + 1) + r_540) : Int32).toInt) (by omega) hg
            refine fun I_609 e_610 => ?_
            replace hg := gt_let (y := tI I_609) (tI_q e_610) hg
            have hR_611 : RI R I_609 := hR_598.up0 (k := 7) ra (by decide) (Or.inr hz17) e_610 (show (0 : Int) ≤ (((I_596 o 6) + 1) + r_540).toInt by omega) (show (((I_596 o 6) + 1) + r_540).toInt ≤ (1601 : Int) by omega)
            have hf_612 : Fm (fun c => c = o) I0 I_609 := hf_599.set (by first | rfl | omega | (dsimp only; omega)) e_610
            have t_613 : (I_609 o 3).toInt = (I_596 o 3).toInt := by rw [← e_610, q_u_k (by decide)]
            have t_614 : (I_609 o 4).toInt = (I_596 o 4).toInt := by rw [← e_610, q_u_k (by decide)]
            have t_615 : (I_609 o 6).toInt = (I_596 o 6).toInt := by rw [← e_610, q_u_k (by decide)]
            have t_616 : (I_609 o 7).toInt = (((I_596 o 6) + 1) + r_540).toInt := by rw [← e_610, q_u_at]
            have t_617 : (I_609 o 8).toInt = (I_596 o 8).toInt := by rw [← e_610, q_u_k (by decide)]
            have t_618 : (I_609 o 9).toInt = (I_596 o 9).toInt := by rw [← e_610, q_u_k (by decide)]
            have l_619 : (5 : Int32).toInt = 5 := rfl
            refine fun I_620 e_621 => ?_
            replace hg := gt_let (y := tI I_620) (tI_q e_621) hg
            have hR_622 : RI R I_620 := hR_611.up0 (k := 8) ra (by decide) (Or.inr hz18) e_621 (show (0 : Int) ≤ (5 : Int32).toInt by omega) (show (5 : Int32).toInt ≤ (6 : Int) by omega)
            have hf_623 : Fm (fun c => c = o) I0 I_620 := hf_612.set (by first | rfl | omega | (dsimp only; omega)) e_621
            have t_624 : (I_620 o 3).toInt = (I_609 o 3).toInt := by rw [← e_621, q_u_k (by decide)]
            have t_625 : (I_620 o 4).toInt = (I_609 o 4).toInt := by rw [← e_621, q_u_k (by decide)]
            have t_626 : (I_620 o 6).toInt = (I_609 o 6).toInt := by rw [← e_621, q_u_k (by decide)]
            have t_627 : (I_620 o 7).toInt = (I_609 o 7).toInt := by rw [← e_621, q_u_k (by decide)]
            have t_628 : (I_620 o 8).toInt = (5 : Int32).toInt := by rw [← e_621, q_u_at]
            have t_629 : (I_620 o 9).toInt = (I_609 o 9).toInt := by rw [← e_621, q_u_k (by decide)]
            exact (hp _ _ hR_622 hf_623 (by first | omega | (intro h; omega) | exact Or.inl rfl | exact Or.inr rfl) (by first | omega | (intro h; omega) | exact Or.inl rfl | exact Or.inr rfl) (by first | omega | (intro h; omega) | exact Or.inl rfl | exact Or.inr rfl) (by clear hg; intro _; omega) (by first | omega | (intro h; omega) | exact Or.inl rfl | exact Or.inr rfl) (by first | omega | (intro h; omega) | exact Or.inl rfl | exact Or.inr rfl) (by intro h; omega) (by unfold MTk; refine ⟨by omega, fun h => by omega⟩) hg.symm)
  · have d_630 := iNlt c_321
    replace hg := gt_neg (by first | exact d_630 | omega) hg
    have l_631 : (0 : Int32).toInt = 0 := rfl
    refine fun I_632 e_633 => ?_
    replace hg := gt_let (y := tI I_632) (tI_q e_633) hg
    have hR_634 : RI R I_632 := hR_311.up0 (k := 8) ra (by decide) (Or.inr hz18) e_633 (show (0 : Int) ≤ (0 : Int32).toInt by omega) (show (0 : Int32).toInt ≤ (6 : Int) by omega)
    have hf_635 : Fm (fun c => c = o) I0 I_632 := hf_312.set (by first | rfl | omega | (dsimp only; omega)) e_633
    have t_636 : (I_632 o 3).toInt = (I_309 o 3).toInt := by rw [← e_633, q_u_k (by decide)]
    have t_637 : (I_632 o 4).toInt = (I_309 o 4).toInt := by rw [← e_633, q_u_k (by decide)]
    have t_638 : (I_632 o 6).toInt = (I_309 o 6).toInt := by rw [← e_633, q_u_k (by decide)]
    have t_639 : (I_632 o 7).toInt = (I_309 o 7).toInt := by rw [← e_633, q_u_k (by decide)]
    have t_640 : (I_632 o 8).toInt = (0 : Int32).toInt := by rw [← e_633, q_u_at]
    have t_641 : (I_632 o 9).toInt = (I_309 o 9).toInt := by rw [← e_633, q_u_k (by decide)]
    have g_642 : (0 : Int) ≤ (I_632 o 3).toInt ∧ (I_632 o 3).toInt ≤ 1600 := hR_634.at0 ra 3 (by decide)
    replace hg := gt_let (y := (I_632 o 3).toInt) rfl hg
    refine fun I_643 e_644 => ?_
    replace hg := gt_let (y := tI I_643) (tI_q e_644) hg
    have hR_645 : RI R I_643 := hR_634.up0 (k := 6) ra (by decide) (Or.inr hz16) e_644 (show (0 : Int) ≤ (I_632 o 3).toInt by omega) (show (I_632 o 3).toInt ≤ (1600 : Int) by omega)
    have hf_646 : Fm (fun c => c = o) I0 I_643 := hf_635.set (by first | rfl | omega | (dsimp only; omega)) e_644
    have t_647 : (I_643 o 3).toInt = (I_632 o 3).toInt := by rw [← e_644, q_u_k (by decide)]
    have t_648 : (I_643 o 4).toInt = (I_632 o 4).toInt := by rw [← e_644, q_u_k (by decide)]
    have t_649 : (I_643 o 6).toInt = (I_632 o 3).toInt := by rw [← e_644, q_u_at]
    have t_650 : (I_643 o 7).toInt = (I_632 o 7).toInt := by rw [← e_644, q_u_k (by decide)]
    have t_651 : (I_643 o 8).toInt = (I_632 o 8).toInt := by rw [← e_644, q_u_k (by decide)]
    have t_652 : (I_643 o 9).toInt = (I_632 o 9).toInt := by rw [← e_644, q_u_k (by decide)]
    have g_653 : (0 : Int) ≤ (I_643 o 3).toInt ∧ (I_643 o 3).toInt ≤ 1600 := hR_645.at0 ra 3 (by decide)
    replace hg := gt_let (y := (I_643 o 3).toInt) rfl hg
    refine fun I_654 e_655 => ?_
    replace hg := gt_let (y := tI I_654) (tI_q e_655) hg
    have hR_656 : RI R I_654 := hR_645.up0 (k := 7) ra (by decide) (Or.inr hz17) e_655 (show (0 : Int) ≤ (I_643 o 3).toInt by omega) (show (I_643 o 3).toInt ≤ (1601 : Int) by omega)
    have hf_657 : Fm (fun c => c = o) I0 I_654 := hf_646.set (by first | rfl | omega | (dsimp only; omega)) e_655
    have t_658 : (I_654 o 3).toInt = (I_643 o 3).toInt := by rw [← e_655, q_u_k (by decide)]
    have t_659 : (I_654 o 4).toInt = (I_643 o 4).toInt := by rw [← e_655, q_u_k (by decide)]
    have t_660 : (I_654 o 6).toInt = (I_643 o 6).toInt := by rw [← e_655, q_u_k (by decide)]
    have t_661 : (I_654 o 7).toInt = (I_643 o 3).toInt := by rw [← e_655, q_u_at]
    have t_662 : (I_654 o 8).toInt = (I_643 o 8).toInt := by rw [← e_655, q_u_k (by decide)]
    have t_663 : (I_654 o 9).toInt = (I_643 o 9).toInt := by rw [← e_655, q_u_k (by decide)]
    exact (hp _ _ hR_656 hf_657 (by first | omega | (intro h; omega) | exact Or.inl rfl | exact Or.inr rfl) (by first | omega | (intro h; omega) | exact Or.inl rfl | exact Or.inr rfl) (by first | omega | (intro h; omega) | exact Or.inl rfl | exact Or.inr rfl) (by clear hg; intro _; omega) (by first | omega | (intro h; omega) | exact Or.inl rfl | exact Or.inr rfl) (by first | omega | (intro h; omega) | exact Or.inl rfl | exact Or.inr rfl) (by intro h; omega) (by unfold MTk; refine ⟨by omega, fun h => by omega⟩) hg.symm)
set_option maxHeartbeats 4000000 in
set_option maxRecDepth 20000 in
theorem yModel_next_8g {D : va_G} {cA : FieldType → ClassId} {b : Nat} {E : State → Prop} {R : qRg} {o n : Nat} {sh : Nat → qC} {Rf : Nat → Nat → Option Nat} {I0 : Nat → Nat → Int32} {L0 : Nat → Nat → Int64} {post : Option Value → qS → Prop} (hok : q_ok (qGG D cA b E)) (hw : WfModel (qGG D cA b E) n sh Rf o) (ra : RAModel R o) (hz16 : R.2 16 = true) (hz17 : R.2 17 = true) (hz18 : R.2 18 = true) (hz19 : R.2 19 = true) (hZ : Fz R I0 o wModel_next) (hR0 : RI R I0) (hq0 : (I0 o 7).toInt ≤ (I0 o 3).toInt) (hp : ∀ (I' : Nat → Nat → Int32) (L' : Nat → Nat → Int64), RI R I' → Fm (fun c => c = o) I0 I' → ((I' o 7).toInt ≤ (I' o 3).toInt) → ((I0 o 7).toInt ≤ (I' o 7).toInt) → (7 * (I0 o 7).toInt - (I0 o 8).toInt + (I0 o 4).toInt ≤ 7 * (I' o 7).toInt - (I' o 8).toInt + (I' o 4).toInt) → (Im ((I0 o 8).toInt ≠ 0) (7 * (I0 o 7).toInt - (I0 o 8).toInt + (I0 o 4).toInt < 7 * (I' o 7).toInt - (I' o 8).toInt + (I' o 4).toInt)) → ((I0 o 7).toInt ≤ (I' o 6).toInt) → ((I' o 6).toInt ≤ (I' o 3).toInt) → (MPo I' o) → (MTk I' o) → (gModel_next_0 o (tI I0) L0 = (0, tI I', L')) → post none (n, sh, Rf, I', L')) : ∀ (k : Nat)  {I : Nat → Nat → Int32} {L : Nat → Nat → Int64}, RI R I → Fm (fun c => c = o) I0 I → ((I o 7).toInt = (I0 o 7).toInt) → ((I o 7).toInt ≤ (I o 6).toInt) → ((I o 6).toInt ≤ (I o 3).toInt) → ((I o 7).toInt ≤ (I o 3).toInt) → (gModel_next_8 k o (tI I) L  = gModel_next_0 o (tI I0) L0) → (1600 - (I o 6).toInt).toNat < k → Ev (qGG D cA b E) mModel_next 2 (0, 0) 8 [(0, .ref o)] [] (n, sh, Rf, I, L) post := by
  intro k
  induction k with
  | zero =>
    intro  I L hR hf hi0 hi1 hi2 hi3 hg hm
    exact absurd hm (Nat.not_lt_zero _)
  | succ k ih =>
    intro  I L hR hf hi0 hi1 hi2 hi3 hg hm
    have g_664 : (0 : Int) ≤ (I o 3).toInt ∧ (I o 3).toInt ≤ 1600 := hR.at0 ra 3 (by decide)
    have z_665 : (I o 3).toInt = (I0 o 3).toInt := by rw [hZ I 3 rfl hR]
    have g_666 : (0 : Int) ≤ (I o 4).toInt ∧ (I o 4).toInt ≤ 5 := hR.at0 ra 4 (by decide)
    have z_667 : (I o 4).toInt = (I0 o 4).toInt := by rw [hZ I 4 rfl hR]
    have g_668 : (0 : Int) ≤ (I o 6).toInt ∧ (I o 6).toInt ≤ 1600 := hR.at0 ra 6 (by decide)
    have g_669 : (0 : Int) ≤ (I0 o 6).toInt ∧ (I0 o 6).toInt ≤ 1600 := hR0.at0 ra 6 (by decide)
    have g_670 : (0 : Int) ≤ (I o 7).toInt ∧ (I o 7).toInt ≤ 1601 := hR.at0 ra 7 (by decide)
    have g_671 : (0 : Int) ≤ (I0 o 7).toInt ∧ (I0 o 7).toInt ≤ 1601 := hR0.at0 ra 7 (by decide)
    have g_672 : (0 : Int) ≤ (I o 8).toInt ∧ (I o 8).toInt ≤ 6 := hR.at0 ra 8 (by decide)
    have g_673 : (0 : Int) ≤ (I0 o 8).toInt ∧ (I0 o 8).toInt ≤ 6 := hR0.at0 ra 8 (by decide)
    refine sModel_next_8 o n sh Rf I L post  hok hw ?_
    unfold fModel_next_8
    replace hg := (eModel_next_8).symm.trans hg
    have g_674 : (0 : Int) ≤ (I o 6).toInt ∧ (I o 6).toInt ≤ 1600 := hR.at0 ra 6 (by decide)
    replace hg := gt_let (y := (I o 6).toInt) rfl hg
    have g_675 : (0 : Int) ≤ (I o 3).toInt ∧ (I o 3).toInt ≤ 1600 := hR.at0 ra 3 (by decide)
    replace hg := gt_let (y := (I o 3).toInt) rfl hg
    refine ⟨fun c_676 => ?_, fun c_676 => ?_⟩
    · have d_677 := iLe c_676
      replace hg := gt_pos (by first | exact d_677 | omega) hg
      exact jModel_next_58g (I0 := I0) (L0 := L0) hok hw ra hz16 hz17 hz18 hz19 hZ hR0 hq0 hp  hR hf (by first | omega | (intro h; omega) | exact Or.inl rfl | exact Or.inr rfl) (by first | omega | (intro h; omega) | exact Or.inl rfl | exact Or.inr rfl) (by first | omega | (intro h; omega) | exact Or.inl rfl | exact Or.inr rfl) (by first | omega | (intro h; omega) | exact Or.inl rfl | exact Or.inr rfl) hg
    · have d_678 := iNle c_676
      replace hg := gt_neg (by first | exact d_678 | omega) hg
      have g_679 : (0 : Int) ≤ (I o 6).toInt ∧ (I o 6).toInt ≤ 1600 := hR.at0 ra 6 (by decide)
      replace hg := gt_let (y := (I o 6).toInt) rfl hg
      refine y_Model_signg hok hw ra (by first | omega | (intro h; omega) | exact Or.inl rfl | exact Or.inr rfl) hR (fun r_680 u_681 u_682 gn_683 => ⟨r_680, I, L, rfl, rfl, ?_⟩)
      replace hg := gt_let gn_683 hg
      clear gn_683
      have l_684 : (32 : Int32).toInt = 32 := rfl
      refine ⟨fun c_685 => ?_, fun c_685 => ?_⟩
      · have d_686 := iEq c_685
        replace hg := gt_pos (by first | exact d_686 | omega) hg
        unfold fModel_next_45
        replace hg := (eModel_next_45).symm.trans hg
        have g_687 : (0 : Int) ≤ (I o 6).toInt ∧ (I o 6).toInt ≤ 1600 := hR.at0 ra 6 (by decide)
        replace hg := gt_let (y := (I o 6).toInt) rfl hg
        have l_688 : (1 : Int32).toInt = 1 := rfl
        have a_689 : ((I o 6) + 1).toInt = (I o 6).toInt + (1 : Int32).toInt := tAdd (by omega) (by omega)
        replace hg := gt_let (y := (((I o 6) + 1) : Int32).toInt) (by omega) hg
        refine fun I_690 e_691 => ?_
        replace hg := gt_let (y := tI I_690) (tI_q e_691) hg
        have hR_692 : RI R I_690 := hR.up0 (k := 6) ra (by decide) (Or.inr hz16) e_691 (show (0 : Int) ≤ ((I o 6) + 1).toInt by omega) (show ((I o 6) + 1).toInt ≤ (1600 : Int) by omega)
        have hf_693 : Fm (fun c => c = o) I0 I_690 := hf.set (by first | rfl | omega | (dsimp only; omega)) e_691
        have t_694 : (I_690 o 3).toInt = (I o 3).toInt := by rw [← e_691, q_u_k (by decide)]
        have t_695 : (I_690 o 4).toInt = (I o 4).toInt := by rw [← e_691, q_u_k (by decide)]
        have t_696 : (I_690 o 6).toInt = ((I o 6) + 1).toInt := by rw [← e_691, q_u_at]
        have t_697 : (I_690 o 7).toInt = (I o 7).toInt := by rw [← e_691, q_u_k (by decide)]
        have t_698 : (I_690 o 8).toInt = (I o 8).toInt := by rw [← e_691, q_u_k (by decide)]
        have t_699 : (I_690 o 9).toInt = (I o 9).toInt := by rw [← e_691, q_u_k (by decide)]
        exact ih hR_692 hf_693 (by first | omega | (intro h; omega) | exact Or.inl rfl | exact Or.inr rfl) (by first | omega | (intro h; omega) | exact Or.inl rfl | exact Or.inr rfl) (by first | omega | (intro h; omega) | exact Or.inl rfl | exact Or.inr rfl) (by first | omega | (intro h; omega) | exact Or.inl rfl | exact Or.inr rfl) hg (by omega)
      · have d_700 := iNe c_685
        replace hg := gt_neg (by first | exact d_700 | omega) hg
        have g_701 : (0 : Int) ≤ (I o 6).toInt ∧ (I o 6).toInt ≤ 1600 := hR.at0 ra 6 (by decide)
        replace hg := gt_let (y := (I o 6).toInt) rfl hg
        refine y_Model_signg hok hw ra (by first | omega | (intro h; omega) | exact Or.inl rfl | exact Or.inr rfl) hR (fun r_702 u_703 u_704 gn_705 => ⟨r_702, I, L, rfl, rfl, ?_⟩)
        replace hg := gt_let gn_705 hg
        clear gn_705
        have l_706 : (10 : Int32).toInt = 10 := rfl
        refine ⟨fun c_707 => ?_, fun c_707 => ?_⟩
        · have d_708 := iNe c_707
          replace hg := gt_neg (by first | exact d_708 | omega) hg
          exact jModel_next_58g (I0 := I0) (L0 := L0) hok hw ra hz16 hz17 hz18 hz19 hZ hR0 hq0 hp  hR hf (by first | omega | (intro h; omega) | exact Or.inl rfl | exact Or.inr rfl) (by first | omega | (intro h; omega) | exact Or.inl rfl | exact Or.inr rfl) (by first | omega | (intro h; omega) | exact Or.inl rfl | exact Or.inr rfl) (by first | omega | (intro h; omega) | exact Or.inl rfl | exact Or.inr rfl) hg
        · have d_709 := iEq c_707
          replace hg := gt_pos (by first | exact d_709 | omega) hg
          unfold fModel_next_45
          replace hg := (eModel_next_45).symm.trans hg
          have g_710 : (0 : Int) ≤ (I o 6).toInt ∧ (I o 6).toInt ≤ 1600 := hR.at0 ra 6 (by decide)
          replace hg := gt_let (y := (I o 6).toInt) rfl hg
          have l_711 : (1 : Int32).toInt = 1 := rfl
          have a_712 : ((I o 6) + 1).toInt = (I o 6).toInt + (1 : Int32).toInt := tAdd (by omega) (by omega)
          replace hg := gt_let (y := (((I o 6) + 1) : Int32).toInt) (by omega) hg
          refine fun I_713 e_714 => ?_
          replace hg := gt_let (y := tI I_713) (tI_q e_714) hg
          have hR_715 : RI R I_713 := hR.up0 (k := 6) ra (by decide) (Or.inr hz16) e_714 (show (0 : Int) ≤ ((I o 6) + 1).toInt by omega) (show ((I o 6) + 1).toInt ≤ (1600 : Int) by omega)
          have hf_716 : Fm (fun c => c = o) I0 I_713 := hf.set (by first | rfl | omega | (dsimp only; omega)) e_714
          have t_717 : (I_713 o 3).toInt = (I o 3).toInt := by rw [← e_714, q_u_k (by decide)]
          have t_718 : (I_713 o 4).toInt = (I o 4).toInt := by rw [← e_714, q_u_k (by decide)]
          have t_719 : (I_713 o 6).toInt = ((I o 6) + 1).toInt := by rw [← e_714, q_u_at]
          have t_720 : (I_713 o 7).toInt = (I o 7).toInt := by rw [← e_714, q_u_k (by decide)]
          have t_721 : (I_713 o 8).toInt = (I o 8).toInt := by rw [← e_714, q_u_k (by decide)]
          have t_722 : (I_713 o 9).toInt = (I o 9).toInt := by rw [← e_714, q_u_k (by decide)]
          exact ih hR_715 hf_716 (by first | omega | (intro h; omega) | exact Or.inl rfl | exact Or.inr rfl) (by first | omega | (intro h; omega) | exact Or.inl rfl | exact Or.inr rfl) (by first | omega | (intro h; omega) | exact Or.inl rfl | exact Or.inr rfl) (by first | omega | (intro h; omega) | exact Or.inl rfl | exact Or.inr rfl) hg (by omega)
set_option maxHeartbeats 4000000 in
set_option maxRecDepth 20000 in
theorem yc_Model_nextg {D : va_G} {cA : FieldType → ClassId} {b : Nat} {E : State → Prop} {R : qRg} {o n : Nat} {sh : Nat → qC} {Rf : Nat → Nat → Option Nat} {I0 : Nat → Nat → Int32} {L0 : Nat → Nat → Int64} {post : Option Value → qS → Prop} (hok : q_ok (qGG D cA b E)) (hw : WfModel (qGG D cA b E) n sh Rf o) (ra : RAModel R o) (hz16 : R.2 16 = true) (hz17 : R.2 17 = true) (hz18 : R.2 18 = true) (hz19 : R.2 19 = true) (hZ : Fz R I0 o wModel_next) (hR0 : RI R I0) (hq0 : (I0 o 7).toInt ≤ (I0 o 3).toInt) (hR : RI R I0) (hp : ∀ (I' : Nat → Nat → Int32) (L' : Nat → Nat → Int64), RI R I' → Fm (fun c => c = o) I0 I' → ((I' o 7).toInt ≤ (I' o 3).toInt) → ((I0 o 7).toInt ≤ (I' o 7).toInt) → (7 * (I0 o 7).toInt - (I0 o 8).toInt + (I0 o 4).toInt ≤ 7 * (I' o 7).toInt - (I' o 8).toInt + (I' o 4).toInt) → (Im ((I0 o 8).toInt ≠ 0) (7 * (I0 o 7).toInt - (I0 o 8).toInt + (I0 o 4).toInt < 7 * (I' o 7).toInt - (I' o 8).toInt + (I' o 4).toInt)) → ((I0 o 7).toInt ≤ (I' o 6).toInt) → ((I' o 6).toInt ≤ (I' o 3).toInt) → (MPo I' o) → (MTk I' o) → (gModel_next_0 o (tI I0) L0 = (0, tI I', L')) → post none (n, sh, Rf, I', L')) : Ev (qGG D cA b E) mModel_next 2 (0, 0) 0 (lv_args 0 [.ref o]) [] (n, sh, Rf, I0, L0) post := by
  have hf : Fm (fun c => c = o) I0 I0 := Fm.rf
  have g_723 : (0 : Int) ≤ (I0 o 3).toInt ∧ (I0 o 3).toInt ≤ 1600 := hR.at0 ra 3 (by decide)
  have g_724 : (0 : Int) ≤ (I0 o 4).toInt ∧ (I0 o 4).toInt ≤ 5 := hR.at0 ra 4 (by decide)
  have g_725 : (0 : Int) ≤ (I0 o 6).toInt ∧ (I0 o 6).toInt ≤ 1600 := hR.at0 ra 6 (by decide)
  have g_726 : (0 : Int) ≤ (I0 o 7).toInt ∧ (I0 o 7).toInt ≤ 1601 := hR.at0 ra 7 (by decide)
  have g_727 : (0 : Int) ≤ (I0 o 8).toInt ∧ (I0 o 8).toInt ≤ 6 := hR.at0 ra 8 (by decide)
  refine sModel_next_0 o n sh Rf I0 L0 post  hok hw ?_
  unfold fModel_next_0
  have hg : gModel_next_0 o (tI I0) L0 = gModel_next_0 o (tI I0) L0 := rfl
  replace hg := (eModel_next_0).symm.trans hg
  have g_728 : (0 : Int) ≤ (I0 o 7).toInt ∧ (I0 o 7).toInt ≤ 1601 := hR.at0 ra 7 (by decide)
  replace hg := gt_let (y := (I0 o 7).toInt) rfl hg
  refine fun I_729 e_730 => ?_
  replace hg := gt_let (y := tI I_729) (tI_q e_730) hg
  have hR_731 : RI R I_729 := hR.up0 (k := 6) ra (by decide) (Or.inr hz16) e_730 (show (0 : Int) ≤ (I0 o 7).toInt by omega) (show (I0 o 7).toInt ≤ (1600 : Int) by omega)
  have hf_732 : Fm (fun c => c = o) I0 I_729 := hf.set (by first | rfl | omega | (dsimp only; omega)) e_730
  have t_733 : (I_729 o 3).toInt = (I0 o 3).toInt := by rw [← e_730, q_u_k (by decide)]
  have t_734 : (I_729 o 4).toInt = (I0 o 4).toInt := by rw [← e_730, q_u_k (by decide)]
  have t_735 : (I_729 o 6).toInt = (I0 o 7).toInt := by rw [← e_730, q_u_at]
  have t_736 : (I_729 o 7).toInt = (I0 o 7).toInt := by rw [← e_730, q_u_k (by decide)]
  have t_737 : (I_729 o 8).toInt = (I0 o 8).toInt := by rw [← e_730, q_u_k (by decide)]
  have t_738 : (I_729 o 9).toInt = (I0 o 9).toInt := by rw [← e_730, q_u_k (by decide)]
  exact yModel_next_8g (I0 := I0) (L0 := L0) hok hw ra hz16 hz17 hz18 hz19 hZ hR0 hq0 hp  20000 hR_731 hf_732 (by first | omega | (intro h; omega) | exact Or.inl rfl | exact Or.inr rfl) (by first | omega | (intro h; omega) | exact Or.inl rfl | exact Or.inr rfl) (by first | omega | (intro h; omega) | exact Or.inl rfl | exact Or.inr rfl) (by first | omega | (intro h; omega) | exact Or.inl rfl | exact Or.inr rfl) hg (by omega)
theorem y_Model_nextg {D : va_G} {cA : FieldType → ClassId} {b : Nat} {E : State → Prop} {R : qRg} {o n : Nat} {sh : Nat → qC} {Rf : Nat → Nat → Option Nat} {I0 : Nat → Nat → Int32} {L0 : Nat → Nat → Int64} {post : Option Value → qS → Prop} (hok : q_ok (qGG D cA b E)) (hw : WfModel (qGG D cA b E) n sh Rf o) (ra : RAModel R o) (hz16 : R.2 16 = true) (hz17 : R.2 17 = true) (hz18 : R.2 18 = true) (hz19 : R.2 19 = true) (hq0 : (I0 o 7).toInt ≤ (I0 o 3).toInt) (hR : RI R I0) (hp : ∀ (I' : Nat → Nat → Int32) (L' : Nat → Nat → Int64), RI R I' → Fm (fun c => c = o) I0 I' → Kp wModel_next I0 I' o → ((I' o 7).toInt ≤ (I' o 3).toInt) → ((I0 o 7).toInt ≤ (I' o 7).toInt) → (7 * (I0 o 7).toInt - (I0 o 8).toInt + (I0 o 4).toInt ≤ 7 * (I' o 7).toInt - (I' o 8).toInt + (I' o 4).toInt) → (Im ((I0 o 8).toInt ≠ 0) (7 * (I0 o 7).toInt - (I0 o 8).toInt + (I0 o 4).toInt < 7 * (I' o 7).toInt - (I' o 8).toInt + (I' o 4).toInt)) → ((I0 o 7).toInt ≤ (I' o 6).toInt) → ((I' o 6).toInt ≤ (I' o 3).toInt) → (MPo I' o) → (MTk I' o) → (gModel_next_0 o (tI I0) L0 = (0, tI I', L')) → post none (n, sh, Rf, I', L')) : Ev (qGG D cA b E) mModel_next 2 (0, 0) 0 (lv_args 0 [.ref o]) [] (n, sh, Rf, I0, L0) post :=
  yc_Model_nextg (R := fzR R I0 o wModel_next) hok hw (fzA ra hR _) (fzT hz16 rfl) (fzT hz17 rfl) (fzT hz18 rfl) (fzT hz19 rfl) fzZ (fzI hR) hq0 (fzI hR) (fun I' L' h1 h2 u0 u1 u2 u3 u4 u5 u6 u7 ug => hp I' L' (fzB hR h1) h2 (fzP h1) u0 u1 u2 u3 u4 u5 u6 u7 ug)
