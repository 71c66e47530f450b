/-! Walks of the class: by program. -/
def fRealm_priceIn_0 (D : va_G) (cA : FieldType → ClassId) (b : Nat) (E : State → Prop) (o : Nat) (n : Nat) (sh : Nat → qC) (Rf : Nat → Nat → Option Nat) (I : Nat → Nat → Int32) (L : Nat → Nat → Int64) (post : Option Value → qS → Prop) (x1 : Nat) (x2 : Int32) : Prop :=
  vp_in x2 5 ∧ vp_in x2 5 ∧ ((¬ (I (x1 + 12) (x2 : Int32).toNatClampNeg) = 0 → vp_in x2 5 ∧ (¬ (((I (x1 + 12) (x2 : Int32).toNatClampNeg) : Int32).toInt64 : Int64) = 0) ∧ ∀ y6 : Int64, ((if ((((I (x1 + 13) (x2 : Int32).toNatClampNeg) : Int32).toInt64 * ((3 * ((I (x1 + 12) (x2 : Int32).toNatClampNeg) : Int32).toInt64) - ((I (o + 4) (x2 : Int32).toNatClampNeg) : Int32).toInt64)) / ((I (x1 + 12) (x2 : Int32).toNatClampNeg) : Int32).toInt64) < (((I (x1 + 13) (x2 : Int32).toNatClampNeg) / 4) : Int32).toInt64 then (((I (x1 + 13) (x2 : Int32).toNatClampNeg) / 4) : Int32).toInt64 else ((((I (x1 + 13) (x2 : Int32).toNatClampNeg) : Int32).toInt64 * ((3 * ((I (x1 + 12) (x2 : Int32).toNatClampNeg) : Int32).toInt64) - ((I (o + 4) (x2 : Int32).toNatClampNeg) : Int32).toInt64)) / ((I (x1 + 12) (x2 : Int32).toNatClampNeg) : Int32).toInt64)) : Int64) = y6 → post (some (.int ((y6 : Int64).toInt32))) (n, sh, Rf, I, L)) ∧ ((I (x1 + 12) (x2 : Int32).toNatClampNeg) = 0 → post (some (.int ((I (x1 + 13) (x2 : Int32).toNatClampNeg)))) (n, sh, Rf, I, L)))
set_option maxHeartbeats 4000000 in
set_option maxRecDepth 20000 in
theorem sRealm_priceIn_0 {D : va_G} {cA : FieldType → ClassId} {b : Nat} {E : State → Prop} (o : Nat) (n : Nat) (sh : Nat → qC) (Rf : Nat → Nat → Option Nat) (I : Nat → Nat → Int32) (L : Nat → Nat → Int64) (post : Option Value → qS → Prop) (x1 : Nat) (x2 : Int32) (hok : q_ok (qGG D cA b E)) (hw : WfRealm (qGG D cA b E) n sh Rf o) (hw1 : WfLand (qGG D cA b E) n sh Rf x1) (H : fRealm_priceIn_0 D cA b E o n sh Rf I L post x1 x2) : Ev (qGG D cA b E) mRealm_priceIn 1 (0, 0) 0 [(0, .ref o), (1, .ref x1), (2, .int x2)] [] (n, sh, Rf, I, L) post := by
  unfold fRealm_priceIn_0 at H
  refine ev_aload_n dRealm_priceIn_0 rfl ?_
  refine ev_getR hok fk_Realm_50 (woLand hw1) (fun _ _ _ => rfl) (wrLand_17 hw1) dRealm_priceIn_1 ?_
  refine ev_iload_n dRealm_priceIn_4 rfl ?_
  obtain ⟨h1, H⟩ := H
  refine ev_iald hok (waLand_17 hw1) h1 dRealm_priceIn_5 ?_
  refine ev_istore_n dRealm_priceIn_6 (by decide) ?_
  refine ev_aload_n dRealm_priceIn_7 rfl ?_
  refine ev_getR hok fk_Realm_53 (woLand hw1) (fun _ _ _ => rfl) (wrLand_16 hw1) dRealm_priceIn_8 ?_
  refine ev_iload_n dRealm_priceIn_11 rfl ?_
  obtain ⟨h2, H⟩ := H
  refine ev_iald hok (waLand_16 hw1) h2 dRealm_priceIn_12 ?_
  refine ev_istore dRealm_priceIn_13 (by decide) ?_
  refine ev_iload dRealm_priceIn_15 rfl ?_
  refine ev_if_ne 22 dRealm_priceIn_17 (by decide) (fun c3 => ?_) (fun c3 => ?_)
  · have H := H.1 c3
    refine ev_iload_n dRealm_priceIn_22 rfl ?_
    refine ev_i2l dRealm_priceIn_23 ?_
    refine ev_ldc2 (3) dRealm_priceIn_24 (q_t5 227 (by decide +kernel) rfl) ?_
    refine ev_iload dRealm_priceIn_27 rfl ?_
    refine ev_i2l dRealm_priceIn_29 ?_
    refine ev_lmul dRealm_priceIn_30 ?_
    refine ev_aload_n dRealm_priceIn_31 rfl ?_
    refine ev_getR hok fk_Realm_21 (woRealm hw) (fun _ _ _ => rfl) (wrRealm_3 hw) dRealm_priceIn_32 ?_
    refine ev_iload_n dRealm_priceIn_35 rfl ?_
    obtain ⟨h4, H⟩ := H
    refine ev_iald hok (waRealm_3 hw) h4 dRealm_priceIn_36 ?_
    refine ev_i2l dRealm_priceIn_37 ?_
    refine ev_lsub dRealm_priceIn_38 ?_
    refine ev_lmul dRealm_priceIn_39 ?_
    refine ev_iload dRealm_priceIn_40 rfl ?_
    refine ev_i2l dRealm_priceIn_42 ?_
    obtain ⟨h5, H⟩ := H
    refine ev_ldiv dRealm_priceIn_43 h5 ?_
    refine ev_lstore dRealm_priceIn_44 (by decide) ?_
    refine ev_iload_n dRealm_priceIn_46 rfl ?_
    refine ev_iconst (4) dRealm_priceIn_47 (by decide) ?_
    refine ev_idiv dRealm_priceIn_48 (by decide) ?_
    refine ev_i2l dRealm_priceIn_49 ?_
    refine ev_lload dRealm_priceIn_50 rfl ?_
    refine ev_mmaxl (by decide) (q_t5 228 (by decide +kernel) rfl) (q_t5 229 (by decide +kernel) rfl) (q_t1 19 (by decide +kernel) rfl) (q_t5 230 rfl rfl) (Nat.le_of_ble_eq_true rfl) dRealm_priceIn_52 ?_
    generalize ey6 : ((if ((((I (x1 + 13) (x2 : Int32).toNatClampNeg) : Int32).toInt64 * ((3 * ((I (x1 + 12) (x2 : Int32).toNatClampNeg) : Int32).toInt64) - ((I (o + 4) (x2 : Int32).toNatClampNeg) : Int32).toInt64)) / ((I (x1 + 12) (x2 : Int32).toNatClampNeg) : Int32).toInt64) < (((I (x1 + 13) (x2 : Int32).toNatClampNeg) / 4) : Int32).toInt64 then (((I (x1 + 13) (x2 : Int32).toNatClampNeg) / 4) : Int32).toInt64 else ((((I (x1 + 13) (x2 : Int32).toNatClampNeg) : Int32).toInt64 * ((3 * ((I (x1 + 12) (x2 : Int32).toNatClampNeg) : Int32).toInt64) - ((I (o + 4) (x2 : Int32).toNatClampNeg) : Int32).toInt64)) / ((I (x1 + 12) (x2 : Int32).toNatClampNeg) : Int32).toInt64)) : Int64) = y6
    have H := H y6 ey6
    refine ev_l2i dRealm_priceIn_55 ?_
    exact ev_iret rfl dRealm_priceIn_56 H
  · have H := H.2 c3
    refine ev_iload_n dRealm_priceIn_20 rfl ?_
    exact ev_iret rfl dRealm_priceIn_21 H
def fRealm_refillGrain_0 (D : va_G) (cA : FieldType → ClassId) (b : Nat) (E : State → Prop) (o : Nat) (n : Nat) (sh : Nat → qC) (Rf : Nat → Nat → Option Nat) (I : Nat → Nat → Int32) (L : Nat → Nat → Int64) (post : Option Value → qS → Prop) (x1 : Nat) : Prop :=
  (¬ (5 : Int32) < 0 ∧ (0 : Int32).toNatClampNeg + (5 : Int32).toNatClampNeg ≤ 5 ∧ (0 : Int32).toNatClampNeg + (5 : Int32).toNatClampNeg ≤ 5) ∧ ∀ I2 : Nat → Nat → Int32, q_w I (o + 6) (va_cpy (I (x1 + 14)) (I (o + 6)) (0 : Int32).toNatClampNeg (0 : Int32).toNatClampNeg (5 : Int32).toNatClampNeg) = I2 → post none (n, sh, Rf, I2, L)
set_option maxHeartbeats 4000000 in
set_option maxRecDepth 20000 in
theorem sRealm_refillGrain_0 {D : va_G} {cA : FieldType → ClassId} {b : Nat} {E : State → Prop} (o : Nat) (n : Nat) (sh : Nat → qC) (Rf : Nat → Nat → Option Nat) (I : Nat → Nat → Int32) (L : Nat → Nat → Int64) (post : Option Value → qS → Prop) (x1 : Nat) (hok : q_ok (qGG D cA b E)) (hw : WfRealm (qGG D cA b E) n sh Rf o) (hw1 : WfLand (qGG D cA b E) n sh Rf x1) (H : fRealm_refillGrain_0 D cA b E o n sh Rf I L post x1) : Ev (qGG D cA b E) mRealm_refillGrain 1 (0, 0) 0 [(0, .ref o), (1, .ref x1)] [] (n, sh, Rf, I, L) post := by
  unfold fRealm_refillGrain_0 at H
  refine ev_aload_n dRealm_refillGrain_0 rfl ?_
  refine ev_getR hok fk_Realm_47 (woLand hw1) (fun _ _ _ => rfl) (wrLand_18 hw1) dRealm_refillGrain_1 ?_
  refine ev_iconst (0) dRealm_refillGrain_4 (by decide) ?_
  refine ev_aload_n dRealm_refillGrain_5 rfl ?_
  refine ev_getR hok fk_Realm_27 (woRealm hw) (fun _ _ _ => rfl) (wrRealm_5 hw) dRealm_refillGrain_6 ?_
  refine ev_iconst (0) dRealm_refillGrain_9 (by decide) ?_
  refine ev_iconst (5) dRealm_refillGrain_10 (by decide) ?_
  obtain ⟨h1, H⟩ := H
  refine ev_copyi (by decide) hok (q_t5 98 (by decide +kernel) rfl) (q_t5 89 (by decide +kernel) rfl) (q_t5 88 (by decide +kernel) rfl) (q_t1 21 (by decide +kernel) rfl) (waLand_18 hw1) (waRealm_5 hw) (by decide) (by decide) h1.1 h1.2.1 h1.2.2 (Nat.le_of_ble_eq_true rfl) dRealm_refillGrain_11 ?_
  generalize eI2 : q_w I (o + 6) (va_cpy (I (x1 + 14)) (I (o + 6)) (0 : Int32).toNatClampNeg (0 : Int32).toNatClampNeg (5 : Int32).toNatClampNeg) = I2
  have H := H I2 eI2
  exact ev_vret rfl dRealm_refillGrain_14 H
def fRealm_start_0 (D : va_G) (cA : FieldType → ClassId) (b : Nat) (E : State → Prop) (o : Nat) (n : Nat) (sh : Nat → qC) (Rf : Nat → Nat → Option Nat) (I : Nat → Nat → Int32) (L : Nat → Nat → Int64) (post : Option Value → qS → Prop) (x1 : Nat) : Prop :=
  (¬ (3 : Int32) < 0 ∧ (0 : Int32).toNatClampNeg + (3 : Int32).toNatClampNeg ≤ 3 ∧ (0 : Int32).toNatClampNeg + (3 : Int32).toNatClampNeg ≤ 3) ∧ ∀ I2 : Nat → Nat → Int32, q_w I (o + 1) (va_cpy (I (x1 + 5)) (I (o + 1)) (0 : Int32).toNatClampNeg (0 : Int32).toNatClampNeg (3 : Int32).toNatClampNeg) = I2 → Ev (qGG D cA b E) mArrays_fill_53178 0 (0, 0) 0 (lv_args 0 [.ref ((o + 3)), .int 0]) [] (n, sh, Rf, I2, L) (fun v τ => ∃ (I5 : Nat → Nat → Int32) (L6 : Nat → Nat → Int64), v = none ∧ τ = (n, sh, Rf, I5, L6) ∧ Ev (qGG D cA b E) mArrays_fill_53178 0 (0, 0) 0 (lv_args 0 [.ref ((o + 4)), .int 0]) [] (n, sh, Rf, I5, L6) (fun v τ => ∃ (I9 : Nat → Nat → Int32) (L10 : Nat → Nat → Int64), v = none ∧ τ = (n, sh, Rf, I9, L10) ∧ post none (n, sh, Rf, I9, L10)))
set_option maxHeartbeats 4000000 in
set_option maxRecDepth 20000 in
theorem sRealm_start_0 {D : va_G} {cA : FieldType → ClassId} {b : Nat} {E : State → Prop} (o : Nat) (n : Nat) (sh : Nat → qC) (Rf : Nat → Nat → Option Nat) (I : Nat → Nat → Int32) (L : Nat → Nat → Int64) (post : Option Value → qS → Prop) (x1 : Nat) (hok : q_ok (qGG D cA b E)) (hw : WfRealm (qGG D cA b E) n sh Rf o) (hw1 : WfLand (qGG D cA b E) n sh Rf x1) (H : fRealm_start_0 D cA b E o n sh Rf I L post x1) : Ev (qGG D cA b E) mRealm_start 1 (0, 0) 0 [(0, .ref o), (1, .ref x1)] [] (n, sh, Rf, I, L) post := by
  unfold fRealm_start_0 at H
  refine ev_aload_n dRealm_start_0 rfl ?_
  refine ev_getR hok fk_Realm_30 (woLand hw1) (fun _ _ _ => rfl) (wrLand_9 hw1) dRealm_start_1 ?_
  refine ev_iconst (0) dRealm_start_4 (by decide) ?_
  refine ev_aload_n dRealm_start_5 rfl ?_
  refine ev_getR hok fk_Realm_9 (woRealm hw) (fun _ _ _ => rfl) (wrRealm_0 hw) dRealm_start_6 ?_
  refine ev_iconst (0) dRealm_start_9 (by decide) ?_
  refine ev_iconst (3) dRealm_start_10 (by decide) ?_
  obtain ⟨h1, H⟩ := H
  refine ev_copyi (by decide) hok (q_t5 98 (by decide +kernel) rfl) (q_t5 89 (by decide +kernel) rfl) (q_t5 88 (by decide +kernel) rfl) (q_t1 21 (by decide +kernel) rfl) (waLand_9 hw1) (waRealm_0 hw) (by decide) (by decide) h1.1 h1.2.1 h1.2.2 (Nat.le_of_ble_eq_true rfl) dRealm_start_11 ?_
  generalize eI2 : q_w I (o + 1) (va_cpy (I (x1 + 5)) (I (o + 1)) (0 : Int32).toNatClampNeg (0 : Int32).toNatClampNeg (3 : Int32).toNatClampNeg) = I2
  have H := H I2 eI2
  refine ev_aload_n dRealm_start_14 rfl ?_
  refine ev_getR hok fk_Realm_18 (woRealm hw) (fun _ _ _ => rfl) (wrRealm_2 hw) dRealm_start_15 ?_
  refine ev_iconst (0) dRealm_start_18 (by decide) ?_
  refine ev_callS [.ref ((o + 3)), .int 0] [] (B' := (0, 0)) (B'' := (0, 0)) hok mmArrays_fill_53178 mk_Realm_41 rfl (Nat.le_of_ble_eq_true rfl) rfl (Nat.le_of_ble_eq_true rfl) dRealm_start_19 rfl (by decide) H (fun v τ p3 => ?_)
  obtain ⟨I5, L6, rfl, rfl, H⟩ := p3
  refine ev_aload_n dRealm_start_22 rfl ?_
  refine ev_getR hok fk_Realm_21 (woRealm hw) (fun _ _ _ => rfl) (wrRealm_3 hw) dRealm_start_23 ?_
  refine ev_iconst (0) dRealm_start_26 (by decide) ?_
  refine ev_callS [.ref ((o + 4)), .int 0] [] (B' := (0, 0)) (B'' := (0, 0)) hok mmArrays_fill_53178 mk_Realm_41 rfl (Nat.le_of_ble_eq_true rfl) rfl (Nat.le_of_ble_eq_true rfl) dRealm_start_27 rfl (by decide) H (fun v τ p7 => ?_)
  obtain ⟨I9, L10, rfl, rfl, H⟩ := p7
  exact ev_vret rfl dRealm_start_30 H
def fRealm_use_2 (D : va_G) (cA : FieldType → ClassId) (b : Nat) (E : State → Prop) (o : Nat) (n : Nat) (sh : Nat → qC) (Rf : Nat → Nat → Option Nat) (I : Nat → Nat → Int32) (L : Nat → Nat → Int64) (post : Option Value → qS → Prop) (x1 : Nat) (x2 : Int32) : Prop :=
  (((I x1 3) ≤ x2 → post none (n, sh, Rf, I, L)) ∧ (¬ (I x1 3) ≤ x2 → vp_in x2 5 ∧ vp_in x2 5 ∧ vp_in x2 5 ∧ ∀ y5 : Int32, ((if (I (x1 + 12) (x2 : Int32).toNatClampNeg) < (I (o + 4) (x2 : Int32).toNatClampNeg) then (I (x1 + 12) (x2 : Int32).toNatClampNeg) else (I (o + 4) (x2 : Int32).toNatClampNeg)) : Int32) = y5 → vp_in x2 5 ∧ ∀ I6 : Nat → Nat → Int32, q_u I (o + 4) (x2 : Int32).toNatClampNeg ((I (o + 4) (x2 : Int32).toNatClampNeg) - y5) = I6 → Ev (qGG D cA b E) mRealm_use 1 (0, 0) 2 [(0, .ref o), (1, .ref x1), (2, .int ((x2 + Int32.ofInt 1)))] [] (n, sh, Rf, I6, L) post))
set_option maxHeartbeats 4000000 in
set_option maxRecDepth 20000 in
theorem sRealm_use_2 {D : va_G} {cA : FieldType → ClassId} {b : Nat} {E : State → Prop} (o : Nat) (n : Nat) (sh : Nat → qC) (Rf : Nat → Nat → Option Nat) (I : Nat → Nat → Int32) (L : Nat → Nat → Int64) (post : Option Value → qS → Prop) (x1 : Nat) (x2 : Int32) (hok : q_ok (qGG D cA b E)) (hw : WfRealm (qGG D cA b E) n sh Rf o) (hw1 : WfLand (qGG D cA b E) n sh Rf x1) (H : fRealm_use_2 D cA b E o n sh Rf I L post x1 x2) : Ev (qGG D cA b E) mRealm_use 1 (0, 0) 2 [(0, .ref o), (1, .ref x1), (2, .int x2)] [] (n, sh, Rf, I, L) post := by
  unfold fRealm_use_2 at H
  refine ev_iload_n dRealm_use_2 rfl ?_
  refine ev_aload_n dRealm_use_3 rfl ?_
  refine ev_getI hok fk_Realm_75 (woLand hw1) (fun _ _ _ => rfl) dRealm_use_4 ?_
  refine ev_icmp_ge 40 dRealm_use_7 (by decide) (fun c1 => ?_) (fun c1 => ?_)
  · have H := H.1 c1
    exact ev_vret rfl dRealm_use_40 H
  · have H := H.2 c1
    refine ev_aload_n dRealm_use_10 rfl ?_
    refine ev_getR hok fk_Realm_21 (woRealm hw) (fun _ _ _ => rfl) (wrRealm_3 hw) dRealm_use_11 ?_
    refine ev_iload_n dRealm_use_14 rfl ?_
    refine ev_dup2_11 dRealm_use_15 rfl rfl ?_
    obtain ⟨h2, H⟩ := H
    refine ev_iald hok (waRealm_3 hw) h2 dRealm_use_16 ?_
    refine ev_aload_n dRealm_use_17 rfl ?_
    refine ev_getR hok fk_Realm_21 (woRealm hw) (fun _ _ _ => rfl) (wrRealm_3 hw) dRealm_use_18 ?_
    refine ev_iload_n dRealm_use_21 rfl ?_
    obtain ⟨h3, H⟩ := H
    refine ev_iald hok (waRealm_3 hw) h3 dRealm_use_22 ?_
    refine ev_aload_n dRealm_use_23 rfl ?_
    refine ev_getR hok fk_Realm_53 (woLand hw1) (fun _ _ _ => rfl) (wrLand_16 hw1) dRealm_use_24 ?_
    refine ev_iload_n dRealm_use_27 rfl ?_
    obtain ⟨h4, H⟩ := H
    refine ev_iald hok (waLand_16 hw1) h4 dRealm_use_28 ?_
    refine ev_mmin (by decide) (q_t6 47 (by decide +kernel) rfl) (q_t4 44 (by decide +kernel) rfl) (q_t1 19 (by decide +kernel) rfl) (q_t4 45 rfl rfl) (Nat.le_of_ble_eq_true rfl) dRealm_use_29 ?_
    generalize ey5 : ((if (I (x1 + 12) (x2 : Int32).toNatClampNeg) < (I (o + 4) (x2 : Int32).toNatClampNeg) then (I (x1 + 12) (x2 : Int32).toNatClampNeg) else (I (o + 4) (x2 : Int32).toNatClampNeg)) : Int32) = y5
    have H := H y5 ey5
    refine ev_isub dRealm_use_32 ?_
    obtain ⟨h7, H⟩ := H
    refine ev_iast hok (waRealm_3 hw) h7 dRealm_use_33 ?_
    generalize eI6 : q_u I (o + 4) (x2 : Int32).toNatClampNeg ((I (o + 4) (x2 : Int32).toNatClampNeg) - y5) = I6
    have H := H I6 eI6
    refine ev_iinc dRealm_use_34 rfl (by decide) ?_
    refine ev_goto 2 dRealm_use_37 (by decide) ?_
    exact ev_sub [(0, .ref o), (1, .ref x1), (2, .int ((x2 + Int32.ofInt 1)))] rfl H
def fRealm_use_0 (D : va_G) (cA : FieldType → ClassId) (b : Nat) (E : State → Prop) (o : Nat) (n : Nat) (sh : Nat → qC) (Rf : Nat → Nat → Option Nat) (I : Nat → Nat → Int32) (L : Nat → Nat → Int64) (post : Option Value → qS → Prop) (x1 : Nat) : Prop :=
  Ev (qGG D cA b E) mRealm_use 1 (0, 0) 2 [(0, .ref o), (1, .ref x1), (2, .int 0)] [] (n, sh, Rf, I, L) post
set_option maxHeartbeats 4000000 in
set_option maxRecDepth 20000 in
theorem sRealm_use_0 {D : va_G} {cA : FieldType → ClassId} {b : Nat} {E : State → Prop} (o : Nat) (n : Nat) (sh : Nat → qC) (Rf : Nat → Nat → Option Nat) (I : Nat → Nat → Int32) (L : Nat → Nat → Int64) (post : Option Value → qS → Prop) (x1 : Nat) (hok : q_ok (qGG D cA b E)) (hw : WfRealm (qGG D cA b E) n sh Rf o) (hw1 : WfLand (qGG D cA b E) n sh Rf x1) (H : fRealm_use_0 D cA b E o n sh Rf I L post x1) : Ev (qGG D cA b E) mRealm_use 1 (0, 0) 0 [(0, .ref o), (1, .ref x1)] [] (n, sh, Rf, I, L) post := by
  unfold fRealm_use_0 at H
  refine ev_iconst (0) dRealm_use_0 (by decide) ?_
  refine ev_istore_n dRealm_use_1 (by decide) ?_
  exact ev_sub [(0, .ref o), (1, .ref x1), (2, .int 0)] rfl H
def fReform_clear_0 (D : va_G) (cA : FieldType → ClassId) (b : Nat) (E : State → Prop) (o : Nat) (n : Nat) (sh : Nat → qC) (Rf : Nat → Nat → Option Nat) (I : Nat → Nat → Int32) (L : Nat → Nat → Int64) (post : Option Value → qS → Prop)  : Prop :=
  Ev (qGG D cA b E) mArrays_fill_53178 0 (0, 0) 0 (lv_args 0 [.ref ((o + 2)), .int 0]) [] (n, sh, Rf, I, L) (fun v τ => ∃ (I3 : Nat → Nat → Int32) (L4 : Nat → Nat → Int64), v = none ∧ τ = (n, sh, Rf, I3, L4) ∧ Ev (qGG D cA b E) mArrays_fill_53178 0 (0, 0) 0 (lv_args 0 [.ref ((o + 3)), .int 0]) [] (n, sh, Rf, I3, L4) (fun v τ => ∃ (I7 : Nat → Nat → Int32) (L8 : Nat → Nat → Int64), v = none ∧ τ = (n, sh, Rf, I7, L8) ∧ ∀ I9 : Nat → Nat → Int32, q_u I7 o 4 0 = I9 → ∀ I10 : Nat → Nat → Int32, q_u I9 o 5 0 = I10 → ∀ I11 : Nat → Nat → Int32, q_u I10 o 6 0 = I11 → ∀ I12 : Nat → Nat → Int32, q_u I11 o 7 0 = I12 → post none (n, sh, Rf, I12, L8)))
set_option maxHeartbeats 4000000 in
set_option maxRecDepth 20000 in
theorem sReform_clear_0 {D : va_G} {cA : FieldType → ClassId} {b : Nat} {E : State → Prop} (o : Nat) (n : Nat) (sh : Nat → qC) (Rf : Nat → Nat → Option Nat) (I : Nat → Nat → Int32) (L : Nat → Nat → Int64) (post : Option Value → qS → Prop)  (hok : q_ok (qGG D cA b E)) (hw : WfReform (qGG D cA b E) n sh Rf o) (H : fReform_clear_0 D cA b E o n sh Rf I L post ) : Ev (qGG D cA b E) mReform_clear 1 (0, 0) 0 [(0, .ref o)] [] (n, sh, Rf, I, L) post := by
  unfold fReform_clear_0 at H
  refine ev_aload_n dReform_clear_0 rfl ?_
  refine ev_getR hok fk_Reform_15 (woReform hw) (fun _ _ _ => rfl) (wrReform_1 hw) dReform_clear_1 ?_
  refine ev_iconst (0) dReform_clear_4 (by decide) ?_
  refine ev_callS [.ref ((o + 2)), .int 0] [] (B' := (0, 0)) (B'' := (0, 0)) hok mmArrays_fill_53178 mk_Reform_40 rfl (Nat.le_of_ble_eq_true rfl) rfl (Nat.le_of_ble_eq_true rfl) dReform_clear_5 rfl (by decide) H (fun v τ p1 => ?_)
  obtain ⟨I3, L4, rfl, rfl, H⟩ := p1
  refine ev_aload_n dReform_clear_8 rfl ?_
  refine ev_getR hok fk_Reform_18 (woReform hw) (fun _ _ _ => rfl) (wrReform_2 hw) dReform_clear_9 ?_
  refine ev_iconst (0) dReform_clear_12 (by decide) ?_
  refine ev_callS [.ref ((o + 3)), .int 0] [] (B' := (0, 0)) (B'' := (0, 0)) hok mmArrays_fill_53178 mk_Reform_40 rfl (Nat.le_of_ble_eq_true rfl) rfl (Nat.le_of_ble_eq_true rfl) dReform_clear_13 rfl (by decide) H (fun v τ p5 => ?_)
  obtain ⟨I7, L8, rfl, rfl, H⟩ := p5
  refine ev_aload_n dReform_clear_16 rfl ?_
  refine ev_iconst (0) dReform_clear_17 (by decide) ?_
  refine ev_putI hok fk_Reform_24 (woReform hw) (fun _ _ _ => rfl) rfl rfl dReform_clear_18 ?_
  generalize eI9 : q_u I7 o 4 0 = I9
  have H := H I9 eI9
  refine ev_aload_n dReform_clear_21 rfl ?_
  refine ev_iconst (0) dReform_clear_22 (by decide) ?_
  refine ev_putI hok fk_Reform_28 (woReform hw) (fun _ _ _ => rfl) rfl rfl dReform_clear_23 ?_
  generalize eI10 : q_u I9 o 5 0 = I10
  have H := H I10 eI10
  refine ev_aload_n dReform_clear_26 rfl ?_
  refine ev_iconst (0) dReform_clear_27 (by decide) ?_
  refine ev_putI hok fk_Reform_31 (woReform hw) (fun _ _ _ => rfl) rfl rfl dReform_clear_28 ?_
  generalize eI11 : q_u I10 o 6 0 = I11
  have H := H I11 eI11
  refine ev_aload_n dReform_clear_31 rfl ?_
  refine ev_iconst (0) dReform_clear_32 (by decide) ?_
  refine ev_putI hok fk_Reform_34 (woReform hw) (fun _ _ _ => rfl) rfl rfl dReform_clear_33 ?_
  generalize eI12 : q_u I11 o 7 0 = I12
  have H := H I12 eI12
  exact ev_vret rfl dReform_clear_36 H
def fReform_copyFrom_0 (D : va_G) (cA : FieldType → ClassId) (b : Nat) (E : State → Prop) (o : Nat) (n : Nat) (sh : Nat → qC) (Rf : Nat → Nat → Option Nat) (I : Nat → Nat → Int32) (L : Nat → Nat → Int64) (post : Option Value → qS → Prop) (x1 : Nat) : Prop :=
  (¬ ((I x1 4) : Int32) < 0 ∧ (0 : Int32).toNatClampNeg + ((I x1 4) : Int32).toNatClampNeg ≤ 700 ∧ (0 : Int32).toNatClampNeg + ((I x1 4) : Int32).toNatClampNeg ≤ 700) ∧ ∀ I2 : Nat → Nat → Int32, q_w I (o + 1) (va_cpy (I (x1 + 1)) (I (o + 1)) (0 : Int32).toNatClampNeg (0 : Int32).toNatClampNeg ((I x1 4) : Int32).toNatClampNeg) = I2 → (¬ (11 : Int32) < 0 ∧ (0 : Int32).toNatClampNeg + (11 : Int32).toNatClampNeg ≤ 11 ∧ (0 : Int32).toNatClampNeg + (11 : Int32).toNatClampNeg ≤ 11) ∧ ∀ I4 : Nat → Nat → Int32, q_w I2 (o + 2) (va_cpy (I2 (x1 + 2)) (I2 (o + 2)) (0 : Int32).toNatClampNeg (0 : Int32).toNatClampNeg (11 : Int32).toNatClampNeg) = I4 → (¬ (11 : Int32) < 0 ∧ (0 : Int32).toNatClampNeg + (11 : Int32).toNatClampNeg ≤ 11 ∧ (0 : Int32).toNatClampNeg + (11 : Int32).toNatClampNeg ≤ 11) ∧ ∀ I6 : Nat → Nat → Int32, q_w I4 (o + 3) (va_cpy (I4 (x1 + 3)) (I4 (o + 3)) (0 : Int32).toNatClampNeg (0 : Int32).toNatClampNeg (11 : Int32).toNatClampNeg) = I6 → ∀ I7 : Nat → Nat → Int32, q_u I6 o 4 (I6 x1 4) = I7 → ∀ I8 : Nat → Nat → Int32, q_u I7 o 5 (I7 x1 5) = I8 → ∀ I9 : Nat → Nat → Int32, q_u I8 o 6 (I8 x1 6) = I9 → post none (n, sh, Rf, I9, L)
set_option maxHeartbeats 4000000 in
set_option maxRecDepth 20000 in
theorem sReform_copyFrom_0 {D : va_G} {cA : FieldType → ClassId} {b : Nat} {E : State → Prop} (o : Nat) (n : Nat) (sh : Nat → qC) (Rf : Nat → Nat → Option Nat) (I : Nat → Nat → Int32) (L : Nat → Nat → Int64) (post : Option Value → qS → Prop) (x1 : Nat) (hok : q_ok (qGG D cA b E)) (hw : WfReform (qGG D cA b E) n sh Rf o) (hw1 : WfReform (qGG D cA b E) n sh Rf x1) (H : fReform_copyFrom_0 D cA b E o n sh Rf I L post x1) : Ev (qGG D cA b E) mReform_copyFrom 1 (0, 0) 0 [(0, .ref o), (1, .ref x1)] [] (n, sh, Rf, I, L) post := by
  unfold fReform_copyFrom_0 at H
  refine ev_aload_n dReform_copyFrom_0 rfl ?_
  refine ev_getR hok fk_Reform_9 (woReform hw1) (fun _ _ _ => rfl) (wrReform_0 hw1) dReform_copyFrom_1 ?_
  refine ev_iconst (0) dReform_copyFrom_4 (by decide) ?_
  refine ev_aload_n dReform_copyFrom_5 rfl ?_
  refine ev_getR hok fk_Reform_9 (woReform hw) (fun _ _ _ => rfl) (wrReform_0 hw) dReform_copyFrom_6 ?_
  refine ev_iconst (0) dReform_copyFrom_9 (by decide) ?_
  refine ev_aload_n dReform_copyFrom_10 rfl ?_
  refine ev_getI hok fk_Reform_24 (woReform hw1) (fun _ _ _ => rfl) dReform_copyFrom_11 ?_
  obtain ⟨h1, H⟩ := H
  refine ev_copyi (by decide) hok (q_t5 87 (by decide +kernel) rfl) (q_t5 89 (by decide +kernel) rfl) (q_t5 88 (by decide +kernel) rfl) (q_t1 21 (by decide +kernel) rfl) (waReform_0 hw1) (waReform_0 hw) (by decide) (by decide) h1.1 h1.2.1 h1.2.2 (Nat.le_of_ble_eq_true rfl) dReform_copyFrom_14 ?_
  generalize eI2 : q_w I (o + 1) (va_cpy (I (x1 + 1)) (I (o + 1)) (0 : Int32).toNatClampNeg (0 : Int32).toNatClampNeg ((I x1 4) : Int32).toNatClampNeg) = I2
  have H := H I2 eI2
  refine ev_aload_n dReform_copyFrom_17 rfl ?_
  refine ev_getR hok fk_Reform_15 (woReform hw1) (fun _ _ _ => rfl) (wrReform_1 hw1) dReform_copyFrom_18 ?_
  refine ev_iconst (0) dReform_copyFrom_21 (by decide) ?_
  refine ev_aload_n dReform_copyFrom_22 rfl ?_
  refine ev_getR hok fk_Reform_15 (woReform hw) (fun _ _ _ => rfl) (wrReform_1 hw) dReform_copyFrom_23 ?_
  refine ev_iconst (0) dReform_copyFrom_26 (by decide) ?_
  refine ev_bipush (11) dReform_copyFrom_27 (by decide) ?_
  obtain ⟨h3, H⟩ := H
  refine ev_copyi (by decide) hok (q_t5 87 (by decide +kernel) rfl) (q_t5 89 (by decide +kernel) rfl) (q_t5 88 (by decide +kernel) rfl) (q_t1 21 (by decide +kernel) rfl) (waReform_1 hw1) (waReform_1 hw) (by decide) (by decide) h3.1 h3.2.1 h3.2.2 (Nat.le_of_ble_eq_true rfl) dReform_copyFrom_29 ?_
  generalize eI4 : q_w I2 (o + 2) (va_cpy (I2 (x1 + 2)) (I2 (o + 2)) (0 : Int32).toNatClampNeg (0 : Int32).toNatClampNeg (11 : Int32).toNatClampNeg) = I4
  have H := H I4 eI4
  refine ev_aload_n dReform_copyFrom_32 rfl ?_
  refine ev_getR hok fk_Reform_18 (woReform hw1) (fun _ _ _ => rfl) (wrReform_2 hw1) dReform_copyFrom_33 ?_
  refine ev_iconst (0) dReform_copyFrom_36 (by decide) ?_
  refine ev_aload_n dReform_copyFrom_37 rfl ?_
  refine ev_getR hok fk_Reform_18 (woReform hw) (fun _ _ _ => rfl) (wrReform_2 hw) dReform_copyFrom_38 ?_
  refine ev_iconst (0) dReform_copyFrom_41 (by decide) ?_
  refine ev_bipush (11) dReform_copyFrom_42 (by decide) ?_
  obtain ⟨h5, H⟩ := H
  refine ev_copyi (by decide) hok (q_t5 87 (by decide +kernel) rfl) (q_t5 89 (by decide +kernel) rfl) (q_t5 88 (by decide +kernel) rfl) (q_t1 21 (by decide +kernel) rfl) (waReform_2 hw1) (waReform_2 hw) (by decide) (by decide) h5.1 h5.2.1 h5.2.2 (Nat.le_of_ble_eq_true rfl) dReform_copyFrom_44 ?_
  generalize eI6 : q_w I4 (o + 3) (va_cpy (I4 (x1 + 3)) (I4 (o + 3)) (0 : Int32).toNatClampNeg (0 : Int32).toNatClampNeg (11 : Int32).toNatClampNeg) = I6
  have H := H I6 eI6
  refine ev_aload_n dReform_copyFrom_47 rfl ?_
  refine ev_aload_n dReform_copyFrom_48 rfl ?_
  refine ev_getI hok fk_Reform_24 (woReform hw1) (fun _ _ _ => rfl) dReform_copyFrom_49 ?_
  refine ev_putI hok fk_Reform_24 (woReform hw) (fun _ _ _ => rfl) rfl rfl dReform_copyFrom_52 ?_
  generalize eI7 : q_u I6 o 4 (I6 x1 4) = I7
  have H := H I7 eI7
  refine ev_aload_n dReform_copyFrom_55 rfl ?_
  refine ev_aload_n dReform_copyFrom_56 rfl ?_
  refine ev_getI hok fk_Reform_28 (woReform hw1) (fun _ _ _ => rfl) dReform_copyFrom_57 ?_
  refine ev_putI hok fk_Reform_28 (woReform hw) (fun _ _ _ => rfl) rfl rfl dReform_copyFrom_60 ?_
  generalize eI8 : q_u I7 o 5 (I7 x1 5) = I8
  have H := H I8 eI8
  refine ev_aload_n dReform_copyFrom_63 rfl ?_
  refine ev_aload_n dReform_copyFrom_64 rfl ?_
  refine ev_getI hok fk_Reform_31 (woReform hw1) (fun _ _ _ => rfl) dReform_copyFrom_65 ?_
  refine ev_putI hok fk_Reform_31 (woReform hw) (fun _ _ _ => rfl) rfl rfl dReform_copyFrom_68 ?_
  generalize eI9 : q_u I8 o 6 (I8 x1 6) = I9
  have H := H I9 eI9
  exact ev_vret rfl dReform_copyFrom_71 H
def fReform_freeSlot_0 (D : va_G) (cA : FieldType → ClassId) (b : Nat) (E : State → Prop) (o : Nat) (n : Nat) (sh : Nat → qC) (Rf : Nat → Nat → Option Nat) (I : Nat → Nat → Int32) (L : Nat → Nat → Int64) (post : Option Value → qS → Prop) (x1 : Nat) : Prop :=
  Ev (qGG D cA b E) mTape_kind 0 (0, 0) 0 (lv_args 0 [.ref x1]) [] (n, sh, Rf, I, L) (fun v τ => ∃ (r2 : Int32) (I3 : Nat → Nat → Int32) (L4 : Nat → Nat → Int64), v = some (.int r2) ∧ τ = (n, sh, Rf, I3, L4) ∧ ((¬ r2 = 1 → post (some (.int ((-1)))) (n, sh, Rf, I3, L4)) ∧ (r2 = 1 → Ev (qGG D cA b E) mTape_value 0 (0, 0) 0 (lv_args 0 [.ref x1]) [] (n, sh, Rf, I3, L4) (fun v τ => ∃ (r7 : Int32) (I8 : Nat → Nat → Int32) (L9 : Nat → Nat → Int64), v = some (.int r7) ∧ τ = (n, sh, Rf, I8, L9) ∧ ((r7 < 14 → post (some (.int ((-1)))) (n, sh, Rf, I8, L9)) ∧ (¬ r7 < 14 → Ev (qGG D cA b E) mTape_value 0 (0, 0) 0 (lv_args 0 [.ref x1]) [] (n, sh, Rf, I8, L9) (fun v τ => ∃ (r12 : Int32) (I13 : Nat → Nat → Int32) (L14 : Nat → Nat → Int64), v = some (.int r12) ∧ τ = (n, sh, Rf, I13, L14) ∧ ((r12 ≤ 19 → Ev (qGG D cA b E) mTape_value 0 (0, 0) 0 (lv_args 0 [.ref x1]) [] (n, sh, Rf, I13, L14) (fun v τ => ∃ (r17 : Int32) (I18 : Nat → Nat → Int32) (L19 : Nat → Nat → Int64), v = some (.int r17) ∧ τ = (n, sh, Rf, I18, L19) ∧ ((¬ r17 = 15 → Ev (qGG D cA b E) mTape_value 0 (0, 0) 0 (lv_args 0 [.ref x1]) [] (n, sh, Rf, I18, L19) (fun v τ => ∃ (r22 : Int32) (I23 : Nat → Nat → Int32) (L24 : Nat → Nat → Int64), v = some (.int r22) ∧ τ = (n, sh, Rf, I23, L24) ∧ vp_in (r22 - 14) 11 ∧ ((¬ (I23 (o + 3) ((r22 - 14) : Int32).toNatClampNeg) = 0 → post (some (.int ((-1)))) (n, sh, Rf, I23, L24)) ∧ ((I23 (o + 3) ((r22 - 14) : Int32).toNatClampNeg) = 0 → post (some (.int ((r22 - 14)))) (n, sh, Rf, I23, L24))))) ∧ (r17 = 15 → ((5 ≤ (I18 o 6) → post (some (.int ((-1)))) (n, sh, Rf, I18, L19)) ∧ (¬ 5 ≤ (I18 o 6) → post (some (.int ((6 + (I18 o 6))))) (n, sh, Rf, I18, L19))))))) ∧ (¬ r12 ≤ 19 → post (some (.int ((-1)))) (n, sh, Rf, I13, L14))))))))))
set_option maxHeartbeats 4000000 in
set_option maxRecDepth 20000 in
theorem sReform_freeSlot_0 {D : va_G} {cA : FieldType → ClassId} {b : Nat} {E : State → Prop} (o : Nat) (n : Nat) (sh : Nat → qC) (Rf : Nat → Nat → Option Nat) (I : Nat → Nat → Int32) (L : Nat → Nat → Int64) (post : Option Value → qS → Prop) (x1 : Nat) (hok : q_ok (qGG D cA b E)) (hw : WfReform (qGG D cA b E) n sh Rf o) (hw1 : WfTape (qGG D cA b E) n sh Rf x1) (H : fReform_freeSlot_0 D cA b E o n sh Rf I L post x1) : Ev (qGG D cA b E) mReform_freeSlot 1 (0, 0) 0 [(0, .ref o), (1, .ref x1)] [] (n, sh, Rf, I, L) post := by
  unfold fReform_freeSlot_0 at H
  refine ev_aload_n dReform_freeSlot_0 rfl ?_
  refine ev_callV [] [] (B' := (0, 0)) (B'' := (0, 0)) hok mmTape_kind mk_Reform_87 (ci := 8) rfl rfl (woTape hw1) rfl (Nat.le_of_ble_eq_true rfl) rfl (Nat.le_of_ble_eq_true rfl) dReform_freeSlot_1 rfl (by decide) H (fun v τ p1 => ?_)
  obtain ⟨r2, I3, L4, rfl, rfl, H⟩ := p1
  refine ev_iconst (1) dReform_freeSlot_4 (by decide) ?_
  refine ev_icmp_ne 26 dReform_freeSlot_5 (by decide) (fun c5 => ?_) (fun c5 => ?_)
  · have H := H.1 c5
    refine ev_iconst (-1) dReform_freeSlot_26 (by decide) ?_
    exact ev_iret rfl dReform_freeSlot_27 H
  · have H := H.2 c5
    refine ev_aload_n dReform_freeSlot_8 rfl ?_
    refine ev_callV [] [] (B' := (0, 0)) (B'' := (0, 0)) hok mmTape_value mk_Reform_91 (ci := 8) rfl rfl (woTape hw1) rfl (Nat.le_of_ble_eq_true rfl) rfl (Nat.le_of_ble_eq_true rfl) dReform_freeSlot_9 rfl (by decide) H (fun v τ p6 => ?_)
    obtain ⟨r7, I8, L9, rfl, rfl, H⟩ := p6
    refine ev_bipush (14) dReform_freeSlot_12 (by decide) ?_
    refine ev_icmp_lt 26 dReform_freeSlot_14 (by decide) (fun c10 => ?_) (fun c10 => ?_)
    · have H := H.1 c10
      refine ev_iconst (-1) dReform_freeSlot_26 (by decide) ?_
      exact ev_iret rfl dReform_freeSlot_27 H
    · have H := H.2 c10
      refine ev_aload_n dReform_freeSlot_17 rfl ?_
      refine ev_callV [] [] (B' := (0, 0)) (B'' := (0, 0)) hok mmTape_value mk_Reform_91 (ci := 8) rfl rfl (woTape hw1) rfl (Nat.le_of_ble_eq_true rfl) rfl (Nat.le_of_ble_eq_true rfl) dReform_freeSlot_18 rfl (by decide) H (fun v τ p11 => ?_)
      obtain ⟨r12, I13, L14, rfl, rfl, H⟩ := p11
      refine ev_bipush (19) dReform_freeSlot_21 (by decide) ?_
      refine ev_icmp_le 28 dReform_freeSlot_23 (by decide) (fun c15 => ?_) (fun c15 => ?_)
      · have H := H.1 c15
        refine ev_aload_n dReform_freeSlot_28 rfl ?_
        refine ev_callV [] [] (B' := (0, 0)) (B'' := (0, 0)) hok mmTape_value mk_Reform_91 (ci := 8) rfl rfl (woTape hw1) rfl (Nat.le_of_ble_eq_true rfl) rfl (Nat.le_of_ble_eq_true rfl) dReform_freeSlot_29 rfl (by decide) H (fun v τ p16 => ?_)
        obtain ⟨r17, I18, L19, rfl, rfl, H⟩ := p16
        refine ev_bipush (15) dReform_freeSlot_32 (by decide) ?_
        refine ev_icmp_ne 57 dReform_freeSlot_34 (by decide) (fun c20 => ?_) (fun c20 => ?_)
        · have H := H.1 c20
          refine ev_aload_n dReform_freeSlot_57 rfl ?_
          refine ev_callV [] [] (B' := (0, 0)) (B'' := (0, 0)) hok mmTape_value mk_Reform_91 (ci := 8) rfl rfl (woTape hw1) rfl (Nat.le_of_ble_eq_true rfl) rfl (Nat.le_of_ble_eq_true rfl) dReform_freeSlot_58 rfl (by decide) H (fun v τ p21 => ?_)
          obtain ⟨r22, I23, L24, rfl, rfl, H⟩ := p21
          refine ev_bipush (14) dReform_freeSlot_61 (by decide) ?_
          refine ev_isub dReform_freeSlot_63 ?_
          refine ev_istore_n dReform_freeSlot_64 (by decide) ?_
          refine ev_aload_n dReform_freeSlot_65 rfl ?_
          refine ev_getR hok fk_Reform_18 (woReform hw) (fun _ _ _ => rfl) (wrReform_2 hw) dReform_freeSlot_66 ?_
          refine ev_iload_n dReform_freeSlot_69 rfl ?_
          obtain ⟨h25, H⟩ := H
          refine ev_iald hok (waReform_2 hw) h25 dReform_freeSlot_70 ?_
          refine ev_if_ne 78 dReform_freeSlot_71 (by decide) (fun c26 => ?_) (fun c26 => ?_)
          · have H := H.1 c26
            refine ev_iconst (-1) dReform_freeSlot_78 (by decide) ?_
            exact ev_iret rfl dReform_freeSlot_79 H
          · have H := H.2 c26
            refine ev_iload_n dReform_freeSlot_74 rfl ?_
            refine ev_goto 79 dReform_freeSlot_75 (by decide) ?_
            exact ev_iret rfl dReform_freeSlot_79 H
        · have H := H.2 c20
          refine ev_aload_n dReform_freeSlot_37 rfl ?_
          refine ev_getI hok fk_Reform_31 (woReform hw) (fun _ _ _ => rfl) dReform_freeSlot_38 ?_
          refine ev_iconst (5) dReform_freeSlot_41 (by decide) ?_
          refine ev_icmp_ge 55 dReform_freeSlot_42 (by decide) (fun c27 => ?_) (fun c27 => ?_)
          · have H := H.1 c27
            refine ev_iconst (-1) dReform_freeSlot_55 (by decide) ?_
            exact ev_iret rfl dReform_freeSlot_56 H
          · have H := H.2 c27
            refine ev_bipush (6) dReform_freeSlot_45 (by decide) ?_
            refine ev_aload_n dReform_freeSlot_47 rfl ?_
            refine ev_getI hok fk_Reform_31 (woReform hw) (fun _ _ _ => rfl) dReform_freeSlot_48 ?_
            refine ev_iadd dReform_freeSlot_51 ?_
            refine ev_goto 56 dReform_freeSlot_52 (by decide) ?_
            exact ev_iret rfl dReform_freeSlot_56 H
      · have H := H.2 c15
        refine ev_iconst (-1) dReform_freeSlot_26 (by decide) ?_
        exact ev_iret rfl dReform_freeSlot_27 H
def fReform_tell_148 (D : va_G) (cA : FieldType → ClassId) (b : Nat) (E : State → Prop) (o : Nat) (n : Nat) (sh : Nat → qC) (Rf : Nat → Nat → Option Nat) (I : Nat → Nat → Int32) (L : Nat → Nat → Int64) (post : Option Value → qS → Prop) (x1 : Int32) (x2 : Nat) (x3 : Int32) (x4 : Int32) (x5 : Int32) (w2 : Nat) : Prop :=
  Ev (qGG D cA b E) mReform_tell 1 (0, 0) 10 [(0, .ref o), (1, .int x1), (2, .ref x2), (3, .int x3), (4, .int ((x4 + Int32.ofInt 1)))] [] (n, sh, Rf, I, L) post
set_option maxHeartbeats 4000000 in
set_option maxRecDepth 20000 in
theorem sReform_tell_148 {D : va_G} {cA : FieldType → ClassId} {b : Nat} {E : State → Prop} (o : Nat) (n : Nat) (sh : Nat → qC) (Rf : Nat → Nat → Option Nat) (I : Nat → Nat → Int32) (L : Nat → Nat → Int64) (post : Option Value → qS → Prop) (x1 : Int32) (x2 : Nat) (x3 : Int32) (x4 : Int32) (x5 : Int32) (w2 : Nat) (hok : q_ok (qGG D cA b E)) (hw : WfReform (qGG D cA b E) n sh Rf o) (hw2 : q_in (qGG D cA b E) (n, sh, Rf, I, L) x2 (.inl (.int, w2))) (H : fReform_tell_148 D cA b E o n sh Rf I L post x1 x2 x3 x4 x5 w2) : Ev (qGG D cA b E) mReform_tell 1 (0, 0) 148 [(0, .ref o), (1, .int x1), (2, .ref x2), (3, .int x3), (4, .int x4), (5, .int x5)] [] (n, sh, Rf, I, L) post := by
  unfold fReform_tell_148 at H
  refine ev_iinc dReform_tell_148 rfl (by decide) ?_
  refine ev_goto 10 dReform_tell_151 (by decide) ?_
  exact ev_sub [(0, .ref o), (1, .int x1), (2, .ref x2), (3, .int x3), (4, .int ((x4 + Int32.ofInt 1)))] rfl H
def fReform_tell_144 (D : va_G) (cA : FieldType → ClassId) (b : Nat) (E : State → Prop) (o : Nat) (n : Nat) (sh : Nat → qC) (Rf : Nat → Nat → Option Nat) (I : Nat → Nat → Int32) (L : Nat → Nat → Int64) (post : Option Value → qS → Prop) (x1 : Int32) (x2 : Nat) (x3 : Int32) (x4 : Int32) (x5 : Int32) (z0 : Int32) (z1 : Int32) (w2 : Nat) : Prop :=
  vp_in z1 100 ∧ ∀ I1 : Nat → Nat → Int32, q_u I (o + 4) (z1 : Int32).toNatClampNeg z0 = I1 → fReform_tell_148 D cA b E o n sh Rf I1 L post x1 x2 (x3 + Int32.ofInt 1) x4 x5 w2
set_option maxHeartbeats 4000000 in
set_option maxRecDepth 20000 in
theorem sReform_tell_144 {D : va_G} {cA : FieldType → ClassId} {b : Nat} {E : State → Prop} (o : Nat) (n : Nat) (sh : Nat → qC) (Rf : Nat → Nat → Option Nat) (I : Nat → Nat → Int32) (L : Nat → Nat → Int64) (post : Option Value → qS → Prop) (x1 : Int32) (x2 : Nat) (x3 : Int32) (x4 : Int32) (x5 : Int32) (z0 : Int32) (z1 : Int32) (w2 : Nat) (hok : q_ok (qGG D cA b E)) (hw : WfReform (qGG D cA b E) n sh Rf o) (hw2 : q_in (qGG D cA b E) (n, sh, Rf, I, L) x2 (.inl (.int, w2))) (H : fReform_tell_144 D cA b E o n sh Rf I L post x1 x2 x3 x4 x5 z0 z1 w2) : Ev (qGG D cA b E) mReform_tell 1 (0, 0) 144 [(0, .ref o), (1, .int x1), (2, .ref x2), (3, .int x3), (4, .int x4), (5, .int x5)] [.int z0, .int z1, .ref ((o + 4))] (n, sh, Rf, I, L) post := by
  unfold fReform_tell_144 at H
  obtain ⟨h2, H⟩ := H
  refine ev_iast hok (waReform_3 hw) h2 dReform_tell_144 ?_
  generalize eI1 : q_u I (o + 4) (z1 : Int32).toNatClampNeg z0 = I1
  have H := H I1 eI1
  refine ev_iinc dReform_tell_145 rfl (by decide) ?_
  exact ev_sub [(0, .ref o), (1, .int x1), (2, .ref x2), (3, .int ((x3 + Int32.ofInt 1))), (4, .int x4), (5, .int x5)] rfl (sReform_tell_148 o n sh Rf I1 L post x1 x2 (x3 + Int32.ofInt 1) x4 x5 w2 hok hw hw2 H)
def fReform_tell_114 (D : va_G) (cA : FieldType → ClassId) (b : Nat) (E : State → Prop) (o : Nat) (n : Nat) (sh : Nat → qC) (Rf : Nat → Nat → Option Nat) (I : Nat → Nat → Int32) (L : Nat → Nat → Int64) (post : Option Value → qS → Prop) (x1 : Int32) (x2 : Nat) (x3 : Int32) (x4 : Int32) (x5 : Int32) (w2 : Nat) : Prop :=
  ((100 ≤ x3 → fReform_tell_148 D cA b E o n sh Rf I L post x1 x2 x3 x4 x5 w2) ∧ (¬ 100 ≤ x3 → ((x5 < 64 → vp_in x5 w2 ∧ fReform_tell_144 D cA b E o n sh Rf I L post x1 x2 x3 x4 x5 (I x2 (x5 : Int32).toNatClampNeg) x3 w2) ∧ (¬ x5 < 64 → fReform_tell_144 D cA b E o n sh Rf I L post x1 x2 x3 x4 x5 (x5 - 64) x3 w2))))
set_option maxHeartbeats 4000000 in
set_option maxRecDepth 20000 in
theorem sReform_tell_114 {D : va_G} {cA : FieldType → ClassId} {b : Nat} {E : State → Prop} (o : Nat) (n : Nat) (sh : Nat → qC) (Rf : Nat → Nat → Option Nat) (I : Nat → Nat → Int32) (L : Nat → Nat → Int64) (post : Option Value → qS → Prop) (x1 : Int32) (x2 : Nat) (x3 : Int32) (x4 : Int32) (x5 : Int32) (w2 : Nat) (hok : q_ok (qGG D cA b E)) (hw : WfReform (qGG D cA b E) n sh Rf o) (hw2 : q_in (qGG D cA b E) (n, sh, Rf, I, L) x2 (.inl (.int, w2))) (H : fReform_tell_114 D cA b E o n sh Rf I L post x1 x2 x3 x4 x5 w2) : Ev (qGG D cA b E) mReform_tell 1 (0, 0) 114 [(0, .ref o), (1, .int x1), (2, .ref x2), (3, .int x3), (4, .int x4), (5, .int x5)] [] (n, sh, Rf, I, L) post := by
  unfold fReform_tell_114 at H
  refine ev_iload_n dReform_tell_114 rfl ?_
  refine ev_bipush (100) dReform_tell_115 (by decide) ?_
  refine ev_icmp_ge 148 dReform_tell_117 (by decide) (fun c1 => ?_) (fun c1 => ?_)
  · have H := H.1 c1
    exact ev_sub [(0, .ref o), (1, .int x1), (2, .ref x2), (3, .int x3), (4, .int x4), (5, .int x5)] rfl (sReform_tell_148 o n sh Rf I L post x1 x2 x3 x4 x5 w2 hok hw hw2 H)
  · have H := H.2 c1
    refine ev_aload_n dReform_tell_120 rfl ?_
    refine ev_getR hok fk_Reform_21 (woReform hw) (fun _ _ _ => rfl) (wrReform_3 hw) dReform_tell_121 ?_
    refine ev_iload_n dReform_tell_124 rfl ?_
    refine ev_iload dReform_tell_125 rfl ?_
    refine ev_bipush (64) dReform_tell_127 (by decide) ?_
    refine ev_icmp_lt 140 dReform_tell_129 (by decide) (fun c2 => ?_) (fun c2 => ?_)
    · have H := H.1 c2
      refine ev_aload_n dReform_tell_140 rfl ?_
      refine ev_iload dReform_tell_141 rfl ?_
      obtain ⟨h3, H⟩ := H
      refine ev_iald hok hw2 h3 dReform_tell_143 ?_
      exact ev_sub [(0, .ref o), (1, .int x1), (2, .ref x2), (3, .int x3), (4, .int x4), (5, .int x5)] rfl (sReform_tell_144 o n sh Rf I L post x1 x2 x3 x4 x5 (I x2 (x5 : Int32).toNatClampNeg) x3 w2 hok hw hw2 H)
    · have H := H.2 c2
      refine ev_iload dReform_tell_132 rfl ?_
      refine ev_bipush (64) dReform_tell_134 (by decide) ?_
      refine ev_isub dReform_tell_136 ?_
      refine ev_goto 144 dReform_tell_137 (by decide) ?_
      exact ev_sub [(0, .ref o), (1, .int x1), (2, .ref x2), (3, .int x3), (4, .int x4), (5, .int x5)] rfl (sReform_tell_144 o n sh Rf I L post x1 x2 x3 x4 x5 (x5 - 64) x3 w2 hok hw hw2 H)
def fReform_tell_68 (D : va_G) (cA : FieldType → ClassId) (b : Nat) (E : State → Prop) (o : Nat) (n : Nat) (sh : Nat → qC) (Rf : Nat → Nat → Option Nat) (I : Nat → Nat → Int32) (L : Nat → Nat → Int64) (post : Option Value → qS → Prop) (x1 : Int32) (x2 : Nat) (x3 : Int32) (x4 : Int32) (x5 : Int32) (w2 : Nat) : Prop :=
  Ev (qGG D cA b E) mReform_isJoint 0 (0, 0) 0 (lv_args 0 [.int x5]) [] (n, sh, Rf, I, L) (fun v τ => ∃ (r2 : Int32) (I3 : Nat → Nat → Int32) (L4 : Nat → Nat → Int64), v = some (.int r2) ∧ τ = (n, sh, Rf, I3, L4) ∧ ((r2 = 0 → fReform_tell_114 D cA b E o n sh Rf I3 L4 post x1 x2 x3 x4 x5 w2) ∧ (¬ r2 = 0 → ((x3 ≤ 1 → fReform_tell_114 D cA b E o n sh Rf I3 L4 post x1 x2 x3 x4 x5 w2) ∧ (¬ x3 ≤ 1 → vp_in ((x3 + Int32.ofInt (-1)) - 1) 100 ∧ vp_in (x3 + Int32.ofInt (-1)) 100 ∧ Ev (qGG D cA b E) mReform_join 0 (0, 0) 0 (lv_args 0 [.int x5, .int ((I3 (o + 4) (((x3 + Int32.ofInt (-1)) - 1) : Int32).toNatClampNeg)), .int ((I3 (o + 4) ((x3 + Int32.ofInt (-1)) : Int32).toNatClampNeg))]) [] (n, sh, Rf, I3, L4) (fun v τ => ∃ (r10 : Int32) (I11 : Nat → Nat → Int32) (L12 : Nat → Nat → Int64), v = some (.int r10) ∧ τ = (n, sh, Rf, I11, L12) ∧ vp_in ((x3 + Int32.ofInt (-1)) - 1) 100 ∧ ∀ I13 : Nat → Nat → Int32, q_u I11 (o + 4) (((x3 + Int32.ofInt (-1)) - 1) : Int32).toNatClampNeg r10 = I13 → fReform_tell_148 D cA b E o n sh Rf I13 L12 post x1 x2 (x3 + Int32.ofInt (-1)) x4 x5 w2))))))
set_option maxHeartbeats 4000000 in
set_option maxRecDepth 20000 in
theorem sReform_tell_68 {D : va_G} {cA : FieldType → ClassId} {b : Nat} {E : State → Prop} (o : Nat) (n : Nat) (sh : Nat → qC) (Rf : Nat → Nat → Option Nat) (I : Nat → Nat → Int32) (L : Nat → Nat → Int64) (post : Option Value → qS → Prop) (x1 : Int32) (x2 : Nat) (x3 : Int32) (x4 : Int32) (x5 : Int32) (w2 : Nat) (hok : q_ok (qGG D cA b E)) (hw : WfReform (qGG D cA b E) n sh Rf o) (hw2 : q_in (qGG D cA b E) (n, sh, Rf, I, L) x2 (.inl (.int, w2))) (H : fReform_tell_68 D cA b E o n sh Rf I L post x1 x2 x3 x4 x5 w2) : Ev (qGG D cA b E) mReform_tell 1 (0, 0) 68 [(0, .ref o), (1, .int x1), (2, .ref x2), (3, .int x3), (4, .int x4), (5, .int x5)] [] (n, sh, Rf, I, L) post := by
  unfold fReform_tell_68 at H
  refine ev_iload dReform_tell_68 rfl ?_
  refine ev_callS [.int x5] [] (B' := (0, 0)) (B'' := (0, 0)) hok mmReform_isJoint mk_Reform_131 rfl (Nat.le_of_ble_eq_true rfl) rfl (Nat.le_of_ble_eq_true rfl) dReform_tell_70 rfl (by decide) H (fun v τ p1 => ?_)
  obtain ⟨r2, I3, L4, rfl, rfl, H⟩ := p1
  refine ev_if_eq 114 dReform_tell_73 (by decide) (fun c5 => ?_) (fun c5 => ?_)
  · have H := H.1 c5
    exact ev_sub [(0, .ref o), (1, .int x1), (2, .ref x2), (3, .int x3), (4, .int x4), (5, .int x5)] rfl (sReform_tell_114 o n sh Rf I3 L4 post x1 x2 x3 x4 x5 w2 hok hw hw2 H)
  · have H := H.2 c5
    refine ev_iload_n dReform_tell_76 rfl ?_
    refine ev_iconst (1) dReform_tell_77 (by decide) ?_
    refine ev_icmp_le 114 dReform_tell_78 (by decide) (fun c6 => ?_) (fun c6 => ?_)
    · have H := H.1 c6
      exact ev_sub [(0, .ref o), (1, .int x1), (2, .ref x2), (3, .int x3), (4, .int x4), (5, .int x5)] rfl (sReform_tell_114 o n sh Rf I3 L4 post x1 x2 x3 x4 x5 w2 hok hw hw2 H)
    · have H := H.2 c6
      refine ev_iinc dReform_tell_81 rfl (by decide) ?_
      refine ev_aload_n dReform_tell_84 rfl ?_
      refine ev_getR hok fk_Reform_21 (woReform hw) (fun _ _ _ => rfl) (wrReform_3 hw) dReform_tell_85 ?_
      refine ev_iload_n dReform_tell_88 rfl ?_
      refine ev_iconst (1) dReform_tell_89 (by decide) ?_
      refine ev_isub dReform_tell_90 ?_
      refine ev_iload dReform_tell_91 rfl ?_
      refine ev_aload_n dReform_tell_93 rfl ?_
      refine ev_getR hok fk_Reform_21 (woReform hw) (fun _ _ _ => rfl) (wrReform_3 hw) dReform_tell_94 ?_
      refine ev_iload_n dReform_tell_97 rfl ?_
      refine ev_iconst (1) dReform_tell_98 (by decide) ?_
      refine ev_isub dReform_tell_99 ?_
      obtain ⟨h7, H⟩ := H
      refine ev_iald hok (waReform_3 hw) h7 dReform_tell_100 ?_
      refine ev_aload_n dReform_tell_101 rfl ?_
      refine ev_getR hok fk_Reform_21 (woReform hw) (fun _ _ _ => rfl) (wrReform_3 hw) dReform_tell_102 ?_
      refine ev_iload_n dReform_tell_105 rfl ?_
      obtain ⟨h8, H⟩ := H
      refine ev_iald hok (waReform_3 hw) h8 dReform_tell_106 ?_
      refine ev_callS [.int x5, .int ((I3 (o + 4) (((x3 + Int32.ofInt (-1)) - 1) : Int32).toNatClampNeg)), .int ((I3 (o + 4) ((x3 + Int32.ofInt (-1)) : Int32).toNatClampNeg))] [.int (((x3 + Int32.ofInt (-1)) - 1)), .ref ((o + 4))] (B' := (0, 0)) (B'' := (0, 0)) hok mmReform_join mk_Reform_134 rfl (Nat.le_of_ble_eq_true rfl) rfl (Nat.le_of_ble_eq_true rfl) dReform_tell_107 rfl (by decide) H (fun v τ p9 => ?_)
      obtain ⟨r10, I11, L12, rfl, rfl, H⟩ := p9
      obtain ⟨h14, H⟩ := H
      refine ev_iast hok (waReform_3 hw) h14 dReform_tell_110 ?_
      generalize eI13 : q_u I11 (o + 4) (((x3 + Int32.ofInt (-1)) - 1) : Int32).toNatClampNeg r10 = I13
      have H := H I13 eI13
      refine ev_goto 148 dReform_tell_111 (by decide) ?_
      exact ev_sub [(0, .ref o), (1, .int x1), (2, .ref x2), (3, .int ((x3 + Int32.ofInt (-1)))), (4, .int x4), (5, .int x5)] rfl (sReform_tell_148 o n sh Rf I13 L12 post x1 x2 (x3 + Int32.ofInt (-1)) x4 x5 w2 hok hw hw2 H)
def fReform_tell_64 (D : va_G) (cA : FieldType → ClassId) (b : Nat) (E : State → Prop) (o : Nat) (n : Nat) (sh : Nat → qC) (Rf : Nat → Nat → Option Nat) (I : Nat → Nat → Int32) (L : Nat → Nat → Int64) (post : Option Value → qS → Prop) (x1 : Int32) (x2 : Nat) (x3 : Int32) (x4 : Int32) (x5 : Int32) (z0 : Int32) (z1 : Int32) (w2 : Nat) : Prop :=
  vp_in z1 100 ∧ ∀ I1 : Nat → Nat → Int32, q_u I (o + 4) (z1 : Int32).toNatClampNeg z0 = I1 → fReform_tell_148 D cA b E o n sh Rf I1 L post x1 x2 x3 x4 x5 w2
set_option maxHeartbeats 4000000 in
set_option maxRecDepth 20000 in
theorem sReform_tell_64 {D : va_G} {cA : FieldType → ClassId} {b : Nat} {E : State → Prop} (o : Nat) (n : Nat) (sh : Nat → qC) (Rf : Nat → Nat → Option Nat) (I : Nat → Nat → Int32) (L : Nat → Nat → Int64) (post : Option Value → qS → Prop) (x1 : Int32) (x2 : Nat) (x3 : Int32) (x4 : Int32) (x5 : Int32) (z0 : Int32) (z1 : Int32) (w2 : Nat) (hok : q_ok (qGG D cA b E)) (hw : WfReform (qGG D cA b E) n sh Rf o) (hw2 : q_in (qGG D cA b E) (n, sh, Rf, I, L) x2 (.inl (.int, w2))) (H : fReform_tell_64 D cA b E o n sh Rf I L post x1 x2 x3 x4 x5 z0 z1 w2) : Ev (qGG D cA b E) mReform_tell 1 (0, 0) 64 [(0, .ref o), (1, .int x1), (2, .ref x2), (3, .int x3), (4, .int x4), (5, .int x5)] [.int z0, .int z1, .ref ((o + 4))] (n, sh, Rf, I, L) post := by
  unfold fReform_tell_64 at H
  obtain ⟨h2, H⟩ := H
  refine ev_iast hok (waReform_3 hw) h2 dReform_tell_64 ?_
  generalize eI1 : q_u I (o + 4) (z1 : Int32).toNatClampNeg z0 = I1
  have H := H I1 eI1
  refine ev_goto 148 dReform_tell_65 (by decide) ?_
  exact ev_sub [(0, .ref o), (1, .int x1), (2, .ref x2), (3, .int x3), (4, .int x4), (5, .int x5)] rfl (sReform_tell_148 o n sh Rf I1 L post x1 x2 x3 x4 x5 w2 hok hw hw2 H)
def fReform_tell_10 (D : va_G) (cA : FieldType → ClassId) (b : Nat) (E : State → Prop) (o : Nat) (n : Nat) (sh : Nat → qC) (Rf : Nat → Nat → Option Nat) (I : Nat → Nat → Int32) (L : Nat → Nat → Int64) (post : Option Value → qS → Prop) (x1 : Int32) (x2 : Nat) (x3 : Int32) (x4 : Int32) (w2 : Nat) : Prop :=
  vp_in x1 11 ∧ (((I (o + 3) (x1 : Int32).toNatClampNeg) ≤ x4 → ((x3 ≤ 0 → post (some (.int 0)) (n, sh, Rf, I, L)) ∧ (¬ x3 ≤ 0 → post (some (.int ((I (o + 4) 0)))) (n, sh, Rf, I, L)))) ∧ (¬ (I (o + 3) (x1 : Int32).toNatClampNeg) ≤ x4 → vp_in x4 700 ∧ ((¬ (I (o + 1) (x4 : Int32).toNatClampNeg) = 22 → fReform_tell_68 D cA b E o n sh Rf I L post x1 x2 x3 x4 (I (o + 1) (x4 : Int32).toNatClampNeg) w2) ∧ ((I (o + 1) (x4 : Int32).toNatClampNeg) = 22 → ((x3 ≤ 0 → fReform_tell_68 D cA b E o n sh Rf I L post x1 x2 x3 x4 (I (o + 1) (x4 : Int32).toNatClampNeg) w2) ∧ (¬ x3 ≤ 0 → vp_in (x3 - 1) 100 ∧ ((¬ (I (o + 4) ((x3 - 1) : Int32).toNatClampNeg) = 0 → fReform_tell_64 D cA b E o n sh Rf I L post x1 x2 x3 x4 (I (o + 1) (x4 : Int32).toNatClampNeg) 0 (x3 - 1) w2) ∧ ((I (o + 4) ((x3 - 1) : Int32).toNatClampNeg) = 0 → fReform_tell_64 D cA b E o n sh Rf I L post x1 x2 x3 x4 (I (o + 1) (x4 : Int32).toNatClampNeg) 1 (x3 - 1) w2))))))))
set_option maxHeartbeats 4000000 in
set_option maxRecDepth 20000 in
theorem sReform_tell_10 {D : va_G} {cA : FieldType → ClassId} {b : Nat} {E : State → Prop} (o : Nat) (n : Nat) (sh : Nat → qC) (Rf : Nat → Nat → Option Nat) (I : Nat → Nat → Int32) (L : Nat → Nat → Int64) (post : Option Value → qS → Prop) (x1 : Int32) (x2 : Nat) (x3 : Int32) (x4 : Int32) (w2 : Nat) (hok : q_ok (qGG D cA b E)) (hw : WfReform (qGG D cA b E) n sh Rf o) (hw2 : q_in (qGG D cA b E) (n, sh, Rf, I, L) x2 (.inl (.int, w2))) (H : fReform_tell_10 D cA b E o n sh Rf I L post x1 x2 x3 x4 w2) : Ev (qGG D cA b E) mReform_tell 1 (0, 0) 10 [(0, .ref o), (1, .int x1), (2, .ref x2), (3, .int x3), (4, .int x4)] [] (n, sh, Rf, I, L) post := by
  unfold fReform_tell_10 at H
  refine ev_iload dReform_tell_10 rfl ?_
  refine ev_aload_n dReform_tell_12 rfl ?_
  refine ev_getR hok fk_Reform_18 (woReform hw) (fun _ _ _ => rfl) (wrReform_2 hw) dReform_tell_13 ?_
  refine ev_iload_n dReform_tell_16 rfl ?_
  obtain ⟨h1, H⟩ := H
  refine ev_iald hok (waReform_2 hw) h1 dReform_tell_17 ?_
  refine ev_icmp_ge 154 dReform_tell_18 (by decide) (fun c2 => ?_) (fun c2 => ?_)
  · have H := H.1 c2
    refine ev_iload_n dReform_tell_154 rfl ?_
    refine ev_if_le 167 dReform_tell_155 (by decide) (fun c3 => ?_) (fun c3 => ?_)
    · have H := H.1 c3
      refine ev_iconst (0) dReform_tell_167 (by decide) ?_
      exact ev_iret rfl dReform_tell_168 H
    · have H := H.2 c3
      refine ev_aload_n dReform_tell_158 rfl ?_
      refine ev_getR hok fk_Reform_21 (woReform hw) (fun _ _ _ => rfl) (wrReform_3 hw) dReform_tell_159 ?_
      refine ev_iconst (0) dReform_tell_162 (by decide) ?_
      refine ev_iald hok (waReform_3 hw) (by unfold vp_in; decide) dReform_tell_163 ?_
      rw [show (0 : Int32).toNatClampNeg = 0 from rfl]
      refine ev_goto 168 dReform_tell_164 (by decide) ?_
      exact ev_iret rfl dReform_tell_168 H
  · have H := H.2 c2
    refine ev_aload_n dReform_tell_21 rfl ?_
    refine ev_getR hok fk_Reform_9 (woReform hw) (fun _ _ _ => rfl) (wrReform_0 hw) dReform_tell_22 ?_
    refine ev_iload dReform_tell_25 rfl ?_
    obtain ⟨h4, H⟩ := H
    refine ev_iald hok (waReform_0 hw) h4 dReform_tell_27 ?_
    refine ev_istore dReform_tell_28 (by decide) ?_
    refine ev_iload dReform_tell_30 rfl ?_
    refine ev_bipush (22) dReform_tell_32 (by decide) ?_
    refine ev_icmp_ne 68 dReform_tell_34 (by decide) (fun c5 => ?_) (fun c5 => ?_)
    · have H := H.1 c5
      exact ev_sub [(0, .ref o), (1, .int x1), (2, .ref x2), (3, .int x3), (4, .int x4), (5, .int ((I (o + 1) (x4 : Int32).toNatClampNeg)))] rfl (sReform_tell_68 o n sh Rf I L post x1 x2 x3 x4 (I (o + 1) (x4 : Int32).toNatClampNeg) w2 hok hw hw2 H)
    · have H := H.2 c5
      refine ev_iload_n dReform_tell_37 rfl ?_
      refine ev_if_le 68 dReform_tell_38 (by decide) (fun c6 => ?_) (fun c6 => ?_)
      · have H := H.1 c6
        exact ev_sub [(0, .ref o), (1, .int x1), (2, .ref x2), (3, .int x3), (4, .int x4), (5, .int ((I (o + 1) (x4 : Int32).toNatClampNeg)))] rfl (sReform_tell_68 o n sh Rf I L post x1 x2 x3 x4 (I (o + 1) (x4 : Int32).toNatClampNeg) w2 hok hw hw2 H)
      · have H := H.2 c6
        refine ev_aload_n dReform_tell_41 rfl ?_
        refine ev_getR hok fk_Reform_21 (woReform hw) (fun _ _ _ => rfl) (wrReform_3 hw) dReform_tell_42 ?_
        refine ev_iload_n dReform_tell_45 rfl ?_
        refine ev_iconst (1) dReform_tell_46 (by decide) ?_
        refine ev_isub dReform_tell_47 ?_
        refine ev_aload_n dReform_tell_48 rfl ?_
        refine ev_getR hok fk_Reform_21 (woReform hw) (fun _ _ _ => rfl) (wrReform_3 hw) dReform_tell_49 ?_
        refine ev_iload_n dReform_tell_52 rfl ?_
        refine ev_iconst (1) dReform_tell_53 (by decide) ?_
        refine ev_isub dReform_tell_54 ?_
        obtain ⟨h7, H⟩ := H
        refine ev_iald hok (waReform_3 hw) h7 dReform_tell_55 ?_
        refine ev_if_ne 63 dReform_tell_56 (by decide) (fun c8 => ?_) (fun c8 => ?_)
        · have H := H.1 c8
          refine ev_iconst (0) dReform_tell_63 (by decide) ?_
          exact ev_sub [(0, .ref o), (1, .int x1), (2, .ref x2), (3, .int x3), (4, .int x4), (5, .int ((I (o + 1) (x4 : Int32).toNatClampNeg)))] rfl (sReform_tell_64 o n sh Rf I L post x1 x2 x3 x4 (I (o + 1) (x4 : Int32).toNatClampNeg) 0 (x3 - 1) w2 hok hw hw2 H)
        · have H := H.2 c8
          refine ev_iconst (1) dReform_tell_59 (by decide) ?_
          refine ev_goto 64 dReform_tell_60 (by decide) ?_
          exact ev_sub [(0, .ref o), (1, .int x1), (2, .ref x2), (3, .int x3), (4, .int x4), (5, .int ((I (o + 1) (x4 : Int32).toNatClampNeg)))] rfl (sReform_tell_64 o n sh Rf I L post x1 x2 x3 x4 (I (o + 1) (x4 : Int32).toNatClampNeg) 1 (x3 - 1) w2 hok hw hw2 H)
def fReform_tell_0 (D : va_G) (cA : FieldType → ClassId) (b : Nat) (E : State → Prop) (o : Nat) (n : Nat) (sh : Nat → qC) (Rf : Nat → Nat → Option Nat) (I : Nat → Nat → Int32) (L : Nat → Nat → Int64) (post : Option Value → qS → Prop) (x1 : Int32) (x2 : Nat) (w2 : Nat) : Prop :=
  vp_in x1 11 ∧ Ev (qGG D cA b E) mReform_tell 1 (0, 0) 10 [(0, .ref o), (1, .int x1), (2, .ref x2), (3, .int 0), (4, .int ((I (o + 2) (x1 : Int32).toNatClampNeg)))] [] (n, sh, Rf, I, L) post
set_option maxHeartbeats 4000000 in
set_option maxRecDepth 20000 in
theorem sReform_tell_0 {D : va_G} {cA : FieldType → ClassId} {b : Nat} {E : State → Prop} (o : Nat) (n : Nat) (sh : Nat → qC) (Rf : Nat → Nat → Option Nat) (I : Nat → Nat → Int32) (L : Nat → Nat → Int64) (post : Option Value → qS → Prop) (x1 : Int32) (x2 : Nat) (w2 : Nat) (hok : q_ok (qGG D cA b E)) (hw : WfReform (qGG D cA b E) n sh Rf o) (hw2 : q_in (qGG D cA b E) (n, sh, Rf, I, L) x2 (.inl (.int, w2))) (H : fReform_tell_0 D cA b E o n sh Rf I L post x1 x2 w2) : Ev (qGG D cA b E) mReform_tell 1 (0, 0) 0 [(0, .ref o), (1, .int x1), (2, .ref x2)] [] (n, sh, Rf, I, L) post := by
  unfold fReform_tell_0 at H
  refine ev_iconst (0) dReform_tell_0 (by decide) ?_
  refine ev_istore_n dReform_tell_1 (by decide) ?_
  refine ev_aload_n dReform_tell_2 rfl ?_
  refine ev_getR hok fk_Reform_15 (woReform hw) (fun _ _ _ => rfl) (wrReform_1 hw) dReform_tell_3 ?_
  refine ev_iload_n dReform_tell_6 rfl ?_
  obtain ⟨h1, H⟩ := H
  refine ev_iald hok (waReform_1 hw) h1 dReform_tell_7 ?_
  refine ev_istore dReform_tell_8 (by decide) ?_
  exact ev_sub [(0, .ref o), (1, .int x1), (2, .ref x2), (3, .int 0), (4, .int ((I (o + 2) (x1 : Int32).toNatClampNeg)))] rfl H
def fRun_askCommon_0 (D : va_G) (cA : FieldType → ClassId) (b : Nat) (E : State → Prop) (o : Nat) (n : Nat) (sh : Nat → qC) (Rf : Nat → Nat → Option Nat) (I : Nat → Nat → Int32) (L : Nat → Nat → Int64) (post : Option Value → qS → Prop) (uo_0 : Nat) : Prop :=
  ∀ I1 : Nat → Nat → Int32, q_u I (o + 59) 23 ((I o 17) / 12) = I1 → ∀ I2 : Nat → Nat → Int32, q_u I1 (o + 59) 24 ((I1 o 17) - (I1 o 17) / 12 * 12) = I2 → ∀ I3 : Nat → Nat → Int32, q_u I2 (o + 59) 27 (I2 (o + 31) 14) = I3 → Ev (qGG D cA b E) mRealm_allSalt 0 (0, 0) 0 (lv_args 0 [.ref ((o + 24)), .int ((I3 uo_0 2))]) [] (n, sh, Rf, I3, L) (fun v τ => ∃ (r5 : Int32) (I6 : Nat → Nat → Int32) (L7 : Nat → Nat → Int64), v = some (.int r5) ∧ τ = (n, sh, Rf, I6, L7) ∧ ∀ I8 : Nat → Nat → Int32, q_u I6 (o + 59) 31 r5 = I8 → post none (n, sh, Rf, I8, L7))
set_option maxHeartbeats 4000000 in
set_option maxRecDepth 20000 in
theorem sRun_askCommon_0 {D : va_G} {cA : FieldType → ClassId} {b : Nat} {E : State → Prop} (o : Nat) (n : Nat) (sh : Nat → qC) (Rf : Nat → Nat → Option Nat) (I : Nat → Nat → Int32) (L : Nat → Nat → Int64) (post : Option Value → qS → Prop) (uo_0 : Nat) (hok : q_ok (qGG D cA b E)) (hw : WfRun (qGG D cA b E) n sh Rf o) (huo_0 : Rf o 0 = some uo_0) (hwuo_0 : WfLand (qGG D cA b E) n sh Rf uo_0) (H : fRun_askCommon_0 D cA b E o n sh Rf I L post uo_0) : Ev (qGG D cA b E) mRun_askCommon 1 (0, 0) 0 [(0, .ref o)] [] (n, sh, Rf, I, L) post := by
  unfold fRun_askCommon_0 at H
  refine ev_aload_n dRun_askCommon_0 rfl ?_
  refine ev_getR hok fk_Run_67 (woRun hw) (fun _ _ _ => rfl) (wrRun_8 hw) dRun_askCommon_1 ?_
  refine ev_bipush (23) dRun_askCommon_4 (by decide) ?_
  refine ev_aload_n dRun_askCommon_6 rfl ?_
  refine ev_getI hok fk_Run_98 (woRun hw) (fun _ _ _ => rfl) dRun_askCommon_7 ?_
  refine ev_bipush (12) dRun_askCommon_10 (by decide) ?_
  refine ev_idiv dRun_askCommon_12 (by decide) ?_
  refine ev_iast hok (waRun_8 hw) (by unfold vp_in; decide) dRun_askCommon_13 ?_
  rw [show (23 : Int32).toNatClampNeg = 23 from rfl]
  generalize eI1 : q_u I (o + 59) 23 ((I o 17) / 12) = I1
  have H := H I1 eI1
  refine ev_aload_n dRun_askCommon_14 rfl ?_
  refine ev_getR hok fk_Run_67 (woRun hw) (fun _ _ _ => rfl) (wrRun_8 hw) dRun_askCommon_15 ?_
  refine ev_bipush (24) dRun_askCommon_18 (by decide) ?_
  refine ev_aload_n dRun_askCommon_20 rfl ?_
  refine ev_getI hok fk_Run_98 (woRun hw) (fun _ _ _ => rfl) dRun_askCommon_21 ?_
  refine ev_bipush (12) dRun_askCommon_24 (by decide) ?_
  refine ev_irem dRun_askCommon_26 (by decide) ?_
  refine ev_iast hok (waRun_8 hw) (by unfold vp_in; decide) dRun_askCommon_27 ?_
  rw [show (24 : Int32).toNatClampNeg = 24 from rfl]
  generalize eI2 : q_u I1 (o + 59) 24 ((I1 o 17) - (I1 o 17) / 12 * 12) = I2
  have H := H I2 eI2
  refine ev_aload_n dRun_askCommon_28 rfl ?_
  refine ev_getR hok fk_Run_67 (woRun hw) (fun _ _ _ => rfl) (wrRun_8 hw) dRun_askCommon_29 ?_
  refine ev_bipush (27) dRun_askCommon_32 (by decide) ?_
  refine ev_aload_n dRun_askCommon_34 rfl ?_
  refine ev_getR hok fk_Run_42 (woRun hw) (fun _ _ _ => rfl) (wrRun_4 hw) dRun_askCommon_35 ?_
  refine ev_getI hok fk_Run_206 (woPapers (wsRun_4 hw)) (fun _ _ _ => rfl) dRun_askCommon_38 ?_
  refine ev_iast hok (waRun_8 hw) (by unfold vp_in; decide) dRun_askCommon_41 ?_
  rw [show (27 : Int32).toNatClampNeg = 27 from rfl]
  generalize eI3 : q_u I2 (o + 59) 27 (I2 (o + 31) 14) = I3
  have H := H I3 eI3
  refine ev_aload_n dRun_askCommon_42 rfl ?_
  refine ev_getR hok fk_Run_67 (woRun hw) (fun _ _ _ => rfl) (wrRun_8 hw) dRun_askCommon_43 ?_
  refine ev_bipush (31) dRun_askCommon_46 (by decide) ?_
  refine ev_aload_n dRun_askCommon_48 rfl ?_
  refine ev_getR hok fk_Run_35 (woRun hw) (fun _ _ _ => rfl) (wrRun_3 hw) dRun_askCommon_49 ?_
  refine ev_aload_n dRun_askCommon_52 rfl ?_
  refine ev_getR hok fk_Run_12 (woRun hw) (fun _ _ _ => rfl) huo_0 dRun_askCommon_53 ?_
  refine ev_getI hok fk_Run_225 (woLand hwuo_0) (fun _ _ _ => rfl) dRun_askCommon_56 ?_
  refine ev_callV [.int ((I3 uo_0 2))] [.int 31, .ref ((o + 59))] (B' := (0, 0)) (B'' := (0, 0)) hok mmRealm_allSalt mk_Run_257 (ci := 4) rfl rfl (woRealm (wsRun_3 hw)) rfl (Nat.le_of_ble_eq_true rfl) rfl (Nat.le_of_ble_eq_true rfl) dRun_askCommon_59 rfl (by decide) H (fun v τ p4 => ?_)
  obtain ⟨r5, I6, L7, rfl, rfl, H⟩ := p4
  refine ev_iast hok (waRun_8 hw) (by unfold vp_in; decide) dRun_askCommon_62 ?_
  rw [show (31 : Int32).toNatClampNeg = 31 from rfl]
  generalize eI8 : q_u I6 (o + 59) 31 r5 = I8
  have H := H I8 eI8
  exact ev_vret rfl dRun_askCommon_63 H
def fRun_bringGrain_0 (D : va_G) (cA : FieldType → ClassId) (b : Nat) (E : State → Prop) (o : Nat) (n : Nat) (sh : Nat → qC) (Rf : Nat → Nat → Option Nat) (I : Nat → Nat → Int32) (L : Nat → Nat → Int64) (post : Option Value → qS → Prop) (x1 : Int32) : Prop :=
  vp_in x1 2880 ∧ vp_in (I ((o + 44) + 3) (x1 : Int32).toNatClampNeg) 3 ∧ vp_in x1 2880 ∧ vp_in (I ((o + 44) + 3) (x1 : Int32).toNatClampNeg) 3 ∧ ∀ I4 : Nat → Nat → Int32, q_u I ((o + 24) + 1) ((I ((o + 44) + 3) (x1 : Int32).toNatClampNeg) : Int32).toNatClampNeg ((I ((o + 24) + 1) ((I ((o + 44) + 3) (x1 : Int32).toNatClampNeg) : Int32).toNatClampNeg) + (I ((o + 44) + 5) (x1 : Int32).toNatClampNeg)) = I4 → vp_in x1 2880 ∧ (((I4 ((o + 44) + 2) (x1 : Int32).toNatClampNeg) = (-1) → post none (n, sh, Rf, I4, L)) ∧ (¬ (I4 ((o + 44) + 2) (x1 : Int32).toNatClampNeg) = (-1) → vp_in x1 2880 ∧ (((I4 ((o + 44) + 6) (x1 : Int32).toNatClampNeg) ≤ 0 → post none (n, sh, Rf, I4, L)) ∧ (¬ (I4 ((o + 44) + 6) (x1 : Int32).toNatClampNeg) ≤ 0 → vp_in x1 2880 ∧ vp_in x1 2880 ∧ vp_in x1 2880 ∧ vp_in x1 2880 ∧ Ev (qGG D cA b E) mPapers_give 0 (0, 0) 0 (lv_args 0 [.ref ((o + 31)), .int ((I4 ((o + 44) + 2) (x1 : Int32).toNatClampNeg)), .int ((I4 ((o + 44) + 7) (x1 : Int32).toNatClampNeg)), .int ((I4 ((o + 44) + 6) (x1 : Int32).toNatClampNeg)), .int ((I4 o 17)), .int ((I4 ((o + 44) + 8) (x1 : Int32).toNatClampNeg)), .int 0]) [] (n, sh, Rf, I4, L) (fun v τ => ∃ (I16 : Nat → Nat → Int32) (L17 : Nat → Nat → Int64), v = none ∧ τ = (n, sh, Rf, I16, L17) ∧ post none (n, sh, Rf, I16, L17))))))
set_option maxHeartbeats 4000000 in
set_option maxRecDepth 20000 in
theorem sRun_bringGrain_0 {D : va_G} {cA : FieldType → ClassId} {b : Nat} {E : State → Prop} (o : Nat) (n : Nat) (sh : Nat → qC) (Rf : Nat → Nat → Option Nat) (I : Nat → Nat → Int32) (L : Nat → Nat → Int64) (post : Option Value → qS → Prop) (x1 : Int32) (hok : q_ok (qGG D cA b E)) (hw : WfRun (qGG D cA b E) n sh Rf o) (H : fRun_bringGrain_0 D cA b E o n sh Rf I L post x1) : Ev (qGG D cA b E) mRun_bringGrain 1 (0, 0) 0 [(0, .ref o), (1, .int x1)] [] (n, sh, Rf, I, L) post := by
  unfold fRun_bringGrain_0 at H
  refine ev_aload_n dRun_bringGrain_0 rfl ?_
  refine ev_getR hok fk_Run_35 (woRun hw) (fun _ _ _ => rfl) (wrRun_3 hw) dRun_bringGrain_1 ?_
  refine ev_getR hok fk_Run_264 (woRealm (wsRun_3 hw)) (fun _ _ _ => rfl) (wrRealm_0 (wsRun_3 hw)) dRun_bringGrain_4 ?_
  refine ev_aload_n dRun_bringGrain_7 rfl ?_
  refine ev_getR hok fk_Run_49 (woRun hw) (fun _ _ _ => rfl) (wrRun_5 hw) dRun_bringGrain_8 ?_
  refine ev_getR hok fk_Run_286 (woLoads (wsRun_5 hw)) (fun _ _ _ => rfl) (wrLoads_2 (wsRun_5 hw)) dRun_bringGrain_11 ?_
  refine ev_iload_n dRun_bringGrain_14 rfl ?_
  obtain ⟨h1, H⟩ := H
  refine ev_iald hok (waLoads_2 (wsRun_5 hw)) h1 dRun_bringGrain_15 ?_
  refine ev_dup2_11 dRun_bringGrain_16 rfl rfl ?_
  obtain ⟨h2, H⟩ := H
  refine ev_iald hok (waRealm_0 (wsRun_3 hw)) h2 dRun_bringGrain_17 ?_
  refine ev_aload_n dRun_bringGrain_18 rfl ?_
  refine ev_getR hok fk_Run_49 (woRun hw) (fun _ _ _ => rfl) (wrRun_5 hw) dRun_bringGrain_19 ?_
  refine ev_getR hok fk_Run_289 (woLoads (wsRun_5 hw)) (fun _ _ _ => rfl) (wrLoads_4 (wsRun_5 hw)) dRun_bringGrain_22 ?_
  refine ev_iload_n dRun_bringGrain_25 rfl ?_
  obtain ⟨h3, H⟩ := H
  refine ev_iald hok (waLoads_4 (wsRun_5 hw)) h3 dRun_bringGrain_26 ?_
  refine ev_iadd dRun_bringGrain_27 ?_
  obtain ⟨h5, H⟩ := H
  refine ev_iast hok (waRealm_0 (wsRun_3 hw)) h5 dRun_bringGrain_28 ?_
  generalize eI4 : q_u I ((o + 24) + 1) ((I ((o + 44) + 3) (x1 : Int32).toNatClampNeg) : Int32).toNatClampNeg ((I ((o + 24) + 1) ((I ((o + 44) + 3) (x1 : Int32).toNatClampNeg) : Int32).toNatClampNeg) + (I ((o + 44) + 5) (x1 : Int32).toNatClampNeg)) = I4
  have H := H I4 eI4
  refine ev_aload_n dRun_bringGrain_29 rfl ?_
  refine ev_getR hok fk_Run_49 (woRun hw) (fun _ _ _ => rfl) (wrRun_5 hw) dRun_bringGrain_30 ?_
  refine ev_getR hok fk_Run_292 (woLoads (wsRun_5 hw)) (fun _ _ _ => rfl) (wrLoads_1 (wsRun_5 hw)) dRun_bringGrain_33 ?_
  refine ev_iload_n dRun_bringGrain_36 rfl ?_
  obtain ⟨h6, H⟩ := H
  refine ev_iald hok (waLoads_1 (wsRun_5 hw)) h6 dRun_bringGrain_37 ?_
  refine ev_iconst (-1) dRun_bringGrain_38 (by decide) ?_
  refine ev_icmp_eq 102 dRun_bringGrain_39 (by decide) (fun c7 => ?_) (fun c7 => ?_)
  · have H := H.1 c7
    exact ev_vret rfl dRun_bringGrain_102 H
  · have H := H.2 c7
    refine ev_aload_n dRun_bringGrain_42 rfl ?_
    refine ev_getR hok fk_Run_49 (woRun hw) (fun _ _ _ => rfl) (wrRun_5 hw) dRun_bringGrain_43 ?_
    refine ev_getR hok fk_Run_295 (woLoads (wsRun_5 hw)) (fun _ _ _ => rfl) (wrLoads_5 (wsRun_5 hw)) dRun_bringGrain_46 ?_
    refine ev_iload_n dRun_bringGrain_49 rfl ?_
    obtain ⟨h8, H⟩ := H
    refine ev_iald hok (waLoads_5 (wsRun_5 hw)) h8 dRun_bringGrain_50 ?_
    refine ev_if_le 102 dRun_bringGrain_51 (by decide) (fun c9 => ?_) (fun c9 => ?_)
    · have H := H.1 c9
      exact ev_vret rfl dRun_bringGrain_102 H
    · have H := H.2 c9
      refine ev_aload_n dRun_bringGrain_54 rfl ?_
      refine ev_getR hok fk_Run_42 (woRun hw) (fun _ _ _ => rfl) (wrRun_4 hw) dRun_bringGrain_55 ?_
      refine ev_aload_n dRun_bringGrain_58 rfl ?_
      refine ev_getR hok fk_Run_49 (woRun hw) (fun _ _ _ => rfl) (wrRun_5 hw) dRun_bringGrain_59 ?_
      refine ev_getR hok fk_Run_292 (woLoads (wsRun_5 hw)) (fun _ _ _ => rfl) (wrLoads_1 (wsRun_5 hw)) dRun_bringGrain_62 ?_
      refine ev_iload_n dRun_bringGrain_65 rfl ?_
      obtain ⟨h10, H⟩ := H
      refine ev_iald hok (waLoads_1 (wsRun_5 hw)) h10 dRun_bringGrain_66 ?_
      refine ev_aload_n dRun_bringGrain_67 rfl ?_
      refine ev_getR hok fk_Run_49 (woRun hw) (fun _ _ _ => rfl) (wrRun_5 hw) dRun_bringGrain_68 ?_
      refine ev_getR hok fk_Run_298 (woLoads (wsRun_5 hw)) (fun _ _ _ => rfl) (wrLoads_6 (wsRun_5 hw)) dRun_bringGrain_71 ?_
      refine ev_iload_n dRun_bringGrain_74 rfl ?_
      obtain ⟨h11, H⟩ := H
      refine ev_iald hok (waLoads_6 (wsRun_5 hw)) h11 dRun_bringGrain_75 ?_
      refine ev_aload_n dRun_bringGrain_76 rfl ?_
      refine ev_getR hok fk_Run_49 (woRun hw) (fun _ _ _ => rfl) (wrRun_5 hw) dRun_bringGrain_77 ?_
      refine ev_getR hok fk_Run_295 (woLoads (wsRun_5 hw)) (fun _ _ _ => rfl) (wrLoads_5 (wsRun_5 hw)) dRun_bringGrain_80 ?_
      refine ev_iload_n dRun_bringGrain_83 rfl ?_
      obtain ⟨h12, H⟩ := H
      refine ev_iald hok (waLoads_5 (wsRun_5 hw)) h12 dRun_bringGrain_84 ?_
      refine ev_aload_n dRun_bringGrain_85 rfl ?_
      refine ev_getI hok fk_Run_98 (woRun hw) (fun _ _ _ => rfl) dRun_bringGrain_86 ?_
      refine ev_aload_n dRun_bringGrain_89 rfl ?_
      refine ev_getR hok fk_Run_49 (woRun hw) (fun _ _ _ => rfl) (wrRun_5 hw) dRun_bringGrain_90 ?_
      refine ev_getR hok fk_Run_300 (woLoads (wsRun_5 hw)) (fun _ _ _ => rfl) (wrLoads_7 (wsRun_5 hw)) dRun_bringGrain_93 ?_
      refine ev_iload_n dRun_bringGrain_96 rfl ?_
      obtain ⟨h13, H⟩ := H
      refine ev_iald hok (waLoads_7 (wsRun_5 hw)) h13 dRun_bringGrain_97 ?_
      refine ev_iconst (0) dRun_bringGrain_98 (by decide) ?_
      refine ev_callV [.int ((I4 ((o + 44) + 2) (x1 : Int32).toNatClampNeg)), .int ((I4 ((o + 44) + 7) (x1 : Int32).toNatClampNeg)), .int ((I4 ((o + 44) + 6) (x1 : Int32).toNatClampNeg)), .int ((I4 o 17)), .int ((I4 ((o + 44) + 8) (x1 : Int32).toNatClampNeg)), .int 0] [] (B' := (0, 0)) (B'' := (0, 0)) hok mmPapers_give mk_Run_303 (ci := 3) rfl rfl (woPapers (wsRun_4 hw)) rfl (Nat.le_of_ble_eq_true rfl) rfl (Nat.le_of_ble_eq_true rfl) dRun_bringGrain_99 rfl (by decide) H (fun v τ p14 => ?_)
      obtain ⟨I16, L17, rfl, rfl, H⟩ := p14
      exact ev_vret rfl dRun_bringGrain_102 H
def fRun_hasRipeFarm_0 (D : va_G) (cA : FieldType → ClassId) (b : Nat) (E : State → Prop) (o : Nat) (n : Nat) (sh : Nat → qC) (Rf : Nat → Nat → Option Nat) (I : Nat → Nat → Int32) (L : Nat → Nat → Int64) (post : Option Value → qS → Prop) (x1 : Int32) (x2 : Int32) : Prop :=
  Ev (qGG D cA b E) mRun_hasFarm 0 (0, 0) 0 (lv_args 0 [.ref o, .int x1, .int x2]) [] (n, sh, Rf, I, L) (fun v τ => ∃ (r2 : Int32) (I3 : Nat → Nat → Int32) (L4 : Nat → Nat → Int64), v = some (.int r2) ∧ τ = (n, sh, Rf, I3, L4) ∧ ((r2 = 0 → post (some (.int 0)) (n, sh, Rf, I3, L4)) ∧ (¬ r2 = 0 → vp_in ((x1 * 3) + x2) 18 ∧ ((((I3 o 17) - (I3 (o + 62) (((x1 * 3) + x2) : Int32).toNatClampNeg)) < 12 → post (some (.int 0)) (n, sh, Rf, I3, L4)) ∧ (¬ ((I3 o 17) - (I3 (o + 62) (((x1 * 3) + x2) : Int32).toNatClampNeg)) < 12 → post (some (.int 1)) (n, sh, Rf, I3, L4))))))
set_option maxHeartbeats 4000000 in
set_option maxRecDepth 20000 in
theorem sRun_hasRipeFarm_0 {D : va_G} {cA : FieldType → ClassId} {b : Nat} {E : State → Prop} (o : Nat) (n : Nat) (sh : Nat → qC) (Rf : Nat → Nat → Option Nat) (I : Nat → Nat → Int32) (L : Nat → Nat → Int64) (post : Option Value → qS → Prop) (x1 : Int32) (x2 : Int32) (hok : q_ok (qGG D cA b E)) (hw : WfRun (qGG D cA b E) n sh Rf o) (H : fRun_hasRipeFarm_0 D cA b E o n sh Rf I L post x1 x2) : Ev (qGG D cA b E) mRun_hasRipeFarm 1 (0, 0) 0 [(0, .ref o), (1, .int x1), (2, .int x2)] [] (n, sh, Rf, I, L) post := by
  unfold fRun_hasRipeFarm_0 at H
  refine ev_aload_n dRun_hasRipeFarm_0 rfl ?_
  refine ev_iload_n dRun_hasRipeFarm_1 rfl ?_
  refine ev_iload_n dRun_hasRipeFarm_2 rfl ?_
  refine ev_callV [.int x1, .int x2] [] (B' := (0, 0)) (B'' := (0, 0)) hok mmRun_hasFarm mk_Run_400 (ci := 7) rfl rfl (woRun hw) rfl (Nat.le_of_ble_eq_true rfl) rfl (Nat.le_of_ble_eq_true rfl) dRun_hasRipeFarm_3 rfl (by decide) H (fun v τ p1 => ?_)
  obtain ⟨r2, I3, L4, rfl, rfl, H⟩ := p1
  refine ev_if_eq 33 dRun_hasRipeFarm_6 (by decide) (fun c5 => ?_) (fun c5 => ?_)
  · have H := H.1 c5
    refine ev_iconst (0) dRun_hasRipeFarm_33 (by decide) ?_
    exact ev_zret rfl (by decide) dRun_hasRipeFarm_34 H
  · have H := H.2 c5
    refine ev_aload_n dRun_hasRipeFarm_9 rfl ?_
    refine ev_getI hok fk_Run_98 (woRun hw) (fun _ _ _ => rfl) dRun_hasRipeFarm_10 ?_
    refine ev_aload_n dRun_hasRipeFarm_13 rfl ?_
    refine ev_getR hok fk_Run_78 (woRun hw) (fun _ _ _ => rfl) (wrRun_11 hw) dRun_hasRipeFarm_14 ?_
    refine ev_iload_n dRun_hasRipeFarm_17 rfl ?_
    refine ev_iconst (3) dRun_hasRipeFarm_18 (by decide) ?_
    refine ev_imul dRun_hasRipeFarm_19 ?_
    refine ev_iload_n dRun_hasRipeFarm_20 rfl ?_
    refine ev_iadd dRun_hasRipeFarm_21 ?_
    obtain ⟨h6, H⟩ := H
    refine ev_iald hok (waRun_11 hw) h6 dRun_hasRipeFarm_22 ?_
    refine ev_isub dRun_hasRipeFarm_23 ?_
    refine ev_bipush (12) dRun_hasRipeFarm_24 (by decide) ?_
    refine ev_icmp_lt 33 dRun_hasRipeFarm_26 (by decide) (fun c7 => ?_) (fun c7 => ?_)
    · have H := H.1 c7
      refine ev_iconst (0) dRun_hasRipeFarm_33 (by decide) ?_
      exact ev_zret rfl (by decide) dRun_hasRipeFarm_34 H
    · have H := H.2 c7
      refine ev_iconst (1) dRun_hasRipeFarm_29 (by decide) ?_
      refine ev_goto 34 dRun_hasRipeFarm_30 (by decide) ?_
      exact ev_zret rfl (by decide) dRun_hasRipeFarm_34 H
def fRun_readDeaths_87 (D : va_G) (cA : FieldType → ClassId) (b : Nat) (E : State → Prop) (o : Nat) (n : Nat) (sh : Nat → qC) (Rf : Nat → Nat → Option Nat) (I : Nat → Nat → Int32) (L : Nat → Nat → Int64) (post : Option Value → qS → Prop) (x1 : Nat) (x2 : Int32) (x3 : Int32) (x4 : Int32) : Prop :=
  Ev (qGG D cA b E) mRun_readDeaths 1 (0, 0) 19 [(0, .ref o), (1, .ref x1), (2, .int x2), (3, .int ((x3 + Int32.ofInt 1)))] [] (n, sh, Rf, I, L) post
set_option maxHeartbeats 4000000 in
set_option maxRecDepth 20000 in
theorem sRun_readDeaths_87 {D : va_G} {cA : FieldType → ClassId} {b : Nat} {E : State → Prop} (o : Nat) (n : Nat) (sh : Nat → qC) (Rf : Nat → Nat → Option Nat) (I : Nat → Nat → Int32) (L : Nat → Nat → Int64) (post : Option Value → qS → Prop) (x1 : Nat) (x2 : Int32) (x3 : Int32) (x4 : Int32) (hok : q_ok (qGG D cA b E)) (hw : WfRun (qGG D cA b E) n sh Rf o) (hw1 : WfFacts (qGG D cA b E) n sh Rf x1) (H : fRun_readDeaths_87 D cA b E o n sh Rf I L post x1 x2 x3 x4) : Ev (qGG D cA b E) mRun_readDeaths 1 (0, 0) 87 [(0, .ref o), (1, .ref x1), (2, .int x2), (3, .int x3), (4, .int x4)] [] (n, sh, Rf, I, L) post := by
  unfold fRun_readDeaths_87 at H
  refine ev_iinc dRun_readDeaths_87 rfl (by decide) ?_
  refine ev_goto 19 dRun_readDeaths_90 (by decide) ?_
  exact ev_sub [(0, .ref o), (1, .ref x1), (2, .int x2), (3, .int ((x3 + Int32.ofInt 1)))] rfl H
def fRun_readDeaths_19 (D : va_G) (cA : FieldType → ClassId) (b : Nat) (E : State → Prop) (o : Nat) (n : Nat) (sh : Nat → qC) (Rf : Nat → Nat → Option Nat) (I : Nat → Nat → Int32) (L : Nat → Nat → Int64) (post : Option Value → qS → Prop) (x1 : Nat) (x2 : Int32) (x3 : Int32) : Prop :=
  (((I x1 6) ≤ x3 → post none (n, sh, Rf, I, L)) ∧ (¬ (I x1 6) ≤ x3 → vp_in x3 40 ∧ Ev (qGG D cA b E) mFacts_isKnown 0 (0, 0) 0 (lv_args 0 [.ref x1, .int x3, .int 2, .int x2]) [] (n, sh, Rf, I, L) (fun v τ => ∃ (r4 : Int32) (I5 : Nat → Nat → Int32) (L6 : Nat → Nat → Int64), v = some (.int r4) ∧ τ = (n, sh, Rf, I5, L6) ∧ ((r4 = 0 → fRun_readDeaths_87 D cA b E o n sh Rf I5 L6 post x1 x2 x3 (I (x1 + 2) (x3 : Int32).toNatClampNeg)) ∧ (¬ r4 = 0 → vp_in x3 40 ∧ vp_in (I (x1 + 2) (x3 : Int32).toNatClampNeg) 6 ∧ (((I5 (o + 63) ((I (x1 + 2) (x3 : Int32).toNatClampNeg) : Int32).toNatClampNeg) < (I5 (x1 + 3) (x3 : Int32).toNatClampNeg) → fRun_readDeaths_87 D cA b E o n sh Rf I5 L6 post x1 x2 x3 (I (x1 + 2) (x3 : Int32).toNatClampNeg)) ∧ (¬ (I5 (o + 63) ((I (x1 + 2) (x3 : Int32).toNatClampNeg) : Int32).toNatClampNeg) < (I5 (x1 + 3) (x3 : Int32).toNatClampNeg) → vp_in x3 40 ∧ vp_in (I (x1 + 2) (x3 : Int32).toNatClampNeg) 6 ∧ ∀ I12 : Nat → Nat → Int32, q_u I5 (o + 63) ((I (x1 + 2) (x3 : Int32).toNatClampNeg) : Int32).toNatClampNeg (I5 (x1 + 3) (x3 : Int32).toNatClampNeg) = I12 → vp_in x3 40 ∧ vp_in (I (x1 + 2) (x3 : Int32).toNatClampNeg) 6 ∧ ∀ I15 : Nat → Nat → Int32, q_u I12 (o + 64) ((I (x1 + 2) (x3 : Int32).toNatClampNeg) : Int32).toNatClampNeg (I12 (x1 + 4) (x3 : Int32).toNatClampNeg) = I15 → fRun_readDeaths_87 D cA b E o n sh Rf I15 L6 post x1 x2 x3 (I (x1 + 2) (x3 : Int32).toNatClampNeg))))))))
set_option maxHeartbeats 4000000 in
set_option maxRecDepth 20000 in
theorem sRun_readDeaths_19 {D : va_G} {cA : FieldType → ClassId} {b : Nat} {E : State → Prop} (o : Nat) (n : Nat) (sh : Nat → qC) (Rf : Nat → Nat → Option Nat) (I : Nat → Nat → Int32) (L : Nat → Nat → Int64) (post : Option Value → qS → Prop) (x1 : Nat) (x2 : Int32) (x3 : Int32) (hok : q_ok (qGG D cA b E)) (hw : WfRun (qGG D cA b E) n sh Rf o) (hw1 : WfFacts (qGG D cA b E) n sh Rf x1) (H : fRun_readDeaths_19 D cA b E o n sh Rf I L post x1 x2 x3) : Ev (qGG D cA b E) mRun_readDeaths 1 (0, 0) 19 [(0, .ref o), (1, .ref x1), (2, .int x2), (3, .int x3)] [] (n, sh, Rf, I, L) post := by
  unfold fRun_readDeaths_19 at H
  refine ev_iload_n dRun_readDeaths_19 rfl ?_
  refine ev_aload_n dRun_readDeaths_20 rfl ?_
  refine ev_getI hok fk_Run_183 (woFacts hw1) (fun _ _ _ => rfl) dRun_readDeaths_21 ?_
  refine ev_icmp_ge 93 dRun_readDeaths_24 (by decide) (fun c1 => ?_) (fun c1 => ?_)
  · have H := H.1 c1
    exact ev_vret rfl dRun_readDeaths_93 H
  · have H := H.2 c1
    refine ev_aload_n dRun_readDeaths_27 rfl ?_
    refine ev_getR hok fk_Run_188 (woFacts hw1) (fun _ _ _ => rfl) (wrFacts_1 hw1) dRun_readDeaths_28 ?_
    refine ev_iload_n dRun_readDeaths_31 rfl ?_
    obtain ⟨h2, H⟩ := H
    refine ev_iald hok (waFacts_1 hw1) h2 dRun_readDeaths_32 ?_
    refine ev_istore dRun_readDeaths_33 (by decide) ?_
    refine ev_aload_n dRun_readDeaths_35 rfl ?_
    refine ev_iload_n dRun_readDeaths_36 rfl ?_
    refine ev_iconst (2) dRun_readDeaths_37 (by decide) ?_
    refine ev_iload_n dRun_readDeaths_38 rfl ?_
    refine ev_callV [.int x3, .int 2, .int x2] [] (B' := (0, 0)) (B'' := (0, 0)) hok mmFacts_isKnown mk_Run_191 (ci := 0) rfl rfl (woFacts hw1) rfl (Nat.le_of_ble_eq_true rfl) rfl (Nat.le_of_ble_eq_true rfl) dRun_readDeaths_39 rfl (by decide) H (fun v τ p3 => ?_)
    obtain ⟨r4, I5, L6, rfl, rfl, H⟩ := p3
    refine ev_if_eq 87 dRun_readDeaths_42 (by decide) (fun c7 => ?_) (fun c7 => ?_)
    · have H := H.1 c7
      exact ev_sub [(0, .ref o), (1, .ref x1), (2, .int x2), (3, .int x3), (4, .int ((I (x1 + 2) (x3 : Int32).toNatClampNeg)))] rfl (sRun_readDeaths_87 o n sh Rf I5 L6 post x1 x2 x3 (I (x1 + 2) (x3 : Int32).toNatClampNeg) hok hw hw1 H)
    · have H := H.2 c7
      refine ev_aload_n dRun_readDeaths_45 rfl ?_
      refine ev_getR hok fk_Run_195 (woFacts hw1) (fun _ _ _ => rfl) (wrFacts_2 hw1) dRun_readDeaths_46 ?_
      refine ev_iload_n dRun_readDeaths_49 rfl ?_
      obtain ⟨h8, H⟩ := H
      refine ev_iald hok (waFacts_2 hw1) h8 dRun_readDeaths_50 ?_
      refine ev_aload_n dRun_readDeaths_51 rfl ?_
      refine ev_getR hok fk_Run_81 (woRun hw) (fun _ _ _ => rfl) (wrRun_12 hw) dRun_readDeaths_52 ?_
      refine ev_iload dRun_readDeaths_55 rfl ?_
      obtain ⟨h9, H⟩ := H
      refine ev_iald hok (waRun_12 hw) h9 dRun_readDeaths_57 ?_
      refine ev_icmp_gt 87 dRun_readDeaths_58 (by decide) (fun c10 => ?_) (fun c10 => ?_)
      · have H := H.1 c10
        exact ev_sub [(0, .ref o), (1, .ref x1), (2, .int x2), (3, .int x3), (4, .int ((I (x1 + 2) (x3 : Int32).toNatClampNeg)))] rfl (sRun_readDeaths_87 o n sh Rf I5 L6 post x1 x2 x3 (I (x1 + 2) (x3 : Int32).toNatClampNeg) hok hw hw1 H)
      · have H := H.2 c10
        refine ev_aload_n dRun_readDeaths_61 rfl ?_
        refine ev_getR hok fk_Run_81 (woRun hw) (fun _ _ _ => rfl) (wrRun_12 hw) dRun_readDeaths_62 ?_
        refine ev_iload dRun_readDeaths_65 rfl ?_
        refine ev_aload_n dRun_readDeaths_67 rfl ?_
        refine ev_getR hok fk_Run_195 (woFacts hw1) (fun _ _ _ => rfl) (wrFacts_2 hw1) dRun_readDeaths_68 ?_
        refine ev_iload_n dRun_readDeaths_71 rfl ?_
        obtain ⟨h11, H⟩ := H
        refine ev_iald hok (waFacts_2 hw1) h11 dRun_readDeaths_72 ?_
        obtain ⟨h13, H⟩ := H
        refine ev_iast hok (waRun_12 hw) h13 dRun_readDeaths_73 ?_
        generalize eI12 : q_u I5 (o + 63) ((I (x1 + 2) (x3 : Int32).toNatClampNeg) : Int32).toNatClampNeg (I5 (x1 + 3) (x3 : Int32).toNatClampNeg) = I12
        have H := H I12 eI12
        refine ev_aload_n dRun_readDeaths_74 rfl ?_
        refine ev_getR hok fk_Run_84 (woRun hw) (fun _ _ _ => rfl) (wrRun_13 hw) dRun_readDeaths_75 ?_
        refine ev_iload dRun_readDeaths_78 rfl ?_
        refine ev_aload_n dRun_readDeaths_80 rfl ?_
        refine ev_getR hok fk_Run_197 (woFacts hw1) (fun _ _ _ => rfl) (wrFacts_3 hw1) dRun_readDeaths_81 ?_
        refine ev_iload_n dRun_readDeaths_84 rfl ?_
        obtain ⟨h14, H⟩ := H
        refine ev_iald hok (waFacts_3 hw1) h14 dRun_readDeaths_85 ?_
        obtain ⟨h16, H⟩ := H
        refine ev_iast hok (waRun_13 hw) h16 dRun_readDeaths_86 ?_
        generalize eI15 : q_u I12 (o + 64) ((I (x1 + 2) (x3 : Int32).toNatClampNeg) : Int32).toNatClampNeg (I12 (x1 + 4) (x3 : Int32).toNatClampNeg) = I15
        have H := H I15 eI15
        exact ev_sub [(0, .ref o), (1, .ref x1), (2, .int x2), (3, .int x3), (4, .int ((I (x1 + 2) (x3 : Int32).toNatClampNeg)))] rfl (sRun_readDeaths_87 o n sh Rf I15 L6 post x1 x2 x3 (I (x1 + 2) (x3 : Int32).toNatClampNeg) hok hw hw1 H)
def fRun_readDeaths_0 (D : va_G) (cA : FieldType → ClassId) (b : Nat) (E : State → Prop) (o : Nat) (n : Nat) (sh : Nat → qC) (Rf : Nat → Nat → Option Nat) (I : Nat → Nat → Int32) (L : Nat → Nat → Int64) (post : Option Value → qS → Prop) (x1 : Nat) (x2 : Int32) : Prop :=
  Ev (qGG D cA b E) mArrays_fill_53178 0 (0, 0) 0 (lv_args 0 [.ref ((o + 63)), .int 1000000]) [] (n, sh, Rf, I, L) (fun v τ => ∃ (I3 : Nat → Nat → Int32) (L4 : Nat → Nat → Int64), v = none ∧ τ = (n, sh, Rf, I3, L4) ∧ Ev (qGG D cA b E) mArrays_fill_53178 0 (0, 0) 0 (lv_args 0 [.ref ((o + 64)), .int ((-1))]) [] (n, sh, Rf, I3, L4) (fun v τ => ∃ (I7 : Nat → Nat → Int32) (L8 : Nat → Nat → Int64), v = none ∧ τ = (n, sh, Rf, I7, L8) ∧ Ev (qGG D cA b E) mRun_readDeaths 1 (0, 0) 19 [(0, .ref o), (1, .ref x1), (2, .int x2), (3, .int 0)] [] (n, sh, Rf, I7, L8) post))
set_option maxHeartbeats 4000000 in
set_option maxRecDepth 20000 in
theorem sRun_readDeaths_0 {D : va_G} {cA : FieldType → ClassId} {b : Nat} {E : State → Prop} (o : Nat) (n : Nat) (sh : Nat → qC) (Rf : Nat → Nat → Option Nat) (I : Nat → Nat → Int32) (L : Nat → Nat → Int64) (post : Option Value → qS → Prop) (x1 : Nat) (x2 : Int32) (hok : q_ok (qGG D cA b E)) (hw : WfRun (qGG D cA b E) n sh Rf o) (hw1 : WfFacts (qGG D cA b E) n sh Rf x1) (H : fRun_readDeaths_0 D cA b E o n sh Rf I L post x1 x2) : Ev (qGG D cA b E) mRun_readDeaths 1 (0, 0) 0 [(0, .ref o), (1, .ref x1), (2, .int x2)] [] (n, sh, Rf, I, L) post := by
  unfold fRun_readDeaths_0 at H
  refine ev_aload_n dRun_readDeaths_0 rfl ?_
  refine ev_getR hok fk_Run_81 (woRun hw) (fun _ _ _ => rfl) (wrRun_12 hw) dRun_readDeaths_1 ?_
  refine ev_ldc (1000000) dRun_readDeaths_4 (q_t5 123 (by decide +kernel) rfl) ?_
  refine ev_callS [.ref ((o + 63)), .int 1000000] [] (B' := (0, 0)) (B'' := (0, 0)) hok mmArrays_fill_53178 mk_Run_171 rfl (Nat.le_of_ble_eq_true rfl) rfl (Nat.le_of_ble_eq_true rfl) dRun_readDeaths_6 rfl (by decide) H (fun v τ p1 => ?_)
  obtain ⟨I3, L4, rfl, rfl, H⟩ := p1
  refine ev_aload_n dRun_readDeaths_9 rfl ?_
  refine ev_getR hok fk_Run_84 (woRun hw) (fun _ _ _ => rfl) (wrRun_13 hw) dRun_readDeaths_10 ?_
  refine ev_iconst (-1) dRun_readDeaths_13 (by decide) ?_
  refine ev_callS [.ref ((o + 64)), .int ((-1))] [] (B' := (0, 0)) (B'' := (0, 0)) hok mmArrays_fill_53178 mk_Run_171 rfl (Nat.le_of_ble_eq_true rfl) rfl (Nat.le_of_ble_eq_true rfl) dRun_readDeaths_14 rfl (by decide) H (fun v τ p5 => ?_)
  obtain ⟨I7, L8, rfl, rfl, H⟩ := p5
  refine ev_iconst (0) dRun_readDeaths_17 (by decide) ?_
  refine ev_istore_n dRun_readDeaths_18 (by decide) ?_
  exact ev_sub [(0, .ref o), (1, .ref x1), (2, .int x2), (3, .int 0)] rfl H
def fTape_cutNumber_74 (D : va_G) (cA : FieldType → ClassId) (b : Nat) (E : State → Prop) (o : Nat) (n : Nat) (sh : Nat → qC) (Rf : Nat → Nat → Option Nat) (I : Nat → Nat → Int32) (L : Nat → Nat → Int64) (post : Option Value → qS → Prop) (x1 : Int32) (x2 : Int32) (x3 : Int32) (x4 : Int32) (z0 : Int32) (z1 : Int32) : Prop :=
  vp_in z1 1601 ∧ ∀ I1 : Nat → Nat → Int32, q_u I (o + 3) (z1 : Int32).toNatClampNeg z0 = I1 → vp_in x1 1601 ∧ ∀ I3 : Nat → Nat → Int32, q_u I1 (o + 5) (x1 : Int32).toNatClampNeg x4 = I3 → post (some (.int x3)) (n, sh, Rf, I3, L)
set_option maxHeartbeats 4000000 in
set_option maxRecDepth 20000 in
theorem sTape_cutNumber_74 {D : va_G} {cA : FieldType → ClassId} {b : Nat} {E : State → Prop} (o : Nat) (n : Nat) (sh : Nat → qC) (Rf : Nat → Nat → Option Nat) (I : Nat → Nat → Int32) (L : Nat → Nat → Int64) (post : Option Value → qS → Prop) (x1 : Int32) (x2 : Int32) (x3 : Int32) (x4 : Int32) (z0 : Int32) (z1 : Int32) (hok : q_ok (qGG D cA b E)) (hw : WfTape (qGG D cA b E) n sh Rf o) (H : fTape_cutNumber_74 D cA b E o n sh Rf I L post x1 x2 x3 x4 z0 z1) : Ev (qGG D cA b E) mTape_cutNumber 1 (0, 0) 74 [(0, .ref o), (1, .int x1), (2, .int x2), (3, .int x3), (4, .int x4)] [.int z0, .int z1, .ref ((o + 3))] (n, sh, Rf, I, L) post := by
  unfold fTape_cutNumber_74 at H
  obtain ⟨h2, H⟩ := H
  refine ev_iast hok (waTape_2 hw) h2 dTape_cutNumber_74 ?_
  generalize eI1 : q_u I (o + 3) (z1 : Int32).toNatClampNeg z0 = I1
  have H := H I1 eI1
  refine ev_aload_n dTape_cutNumber_75 rfl ?_
  refine ev_getR hok fk_Tape_25 (woTape hw) (fun _ _ _ => rfl) (wrTape_4 hw) dTape_cutNumber_76 ?_
  refine ev_iload_n dTape_cutNumber_79 rfl ?_
  refine ev_iload dTape_cutNumber_80 rfl ?_
  obtain ⟨h4, H⟩ := H
  refine ev_iast hok (waTape_4 hw) h4 dTape_cutNumber_82 ?_
  generalize eI3 : q_u I1 (o + 5) (x1 : Int32).toNatClampNeg x4 = I3
  have H := H I3 eI3
  refine ev_iload_n dTape_cutNumber_83 rfl ?_
  exact ev_iret rfl dTape_cutNumber_84 H
def fTape_cutNumber_69 (D : va_G) (cA : FieldType → ClassId) (b : Nat) (E : State → Prop) (o : Nat) (n : Nat) (sh : Nat → qC) (Rf : Nat → Nat → Option Nat) (I : Nat → Nat → Int32) (L : Nat → Nat → Int64) (post : Option Value → qS → Prop) (x1 : Int32) (x2 : Int32) (x3 : Int32) (x4 : Int32) (z0 : Int32) : Prop :=
  fTape_cutNumber_74 D cA b E o n sh Rf I L post x1 x2 x3 x4 5 z0
set_option maxHeartbeats 4000000 in
set_option maxRecDepth 20000 in
theorem sTape_cutNumber_69 {D : va_G} {cA : FieldType → ClassId} {b : Nat} {E : State → Prop} (o : Nat) (n : Nat) (sh : Nat → qC) (Rf : Nat → Nat → Option Nat) (I : Nat → Nat → Int32) (L : Nat → Nat → Int64) (post : Option Value → qS → Prop) (x1 : Int32) (x2 : Int32) (x3 : Int32) (x4 : Int32) (z0 : Int32) (hok : q_ok (qGG D cA b E)) (hw : WfTape (qGG D cA b E) n sh Rf o) (H : fTape_cutNumber_69 D cA b E o n sh Rf I L post x1 x2 x3 x4 z0) : Ev (qGG D cA b E) mTape_cutNumber 1 (0, 0) 69 [(0, .ref o), (1, .int x1), (2, .int x2), (3, .int x3), (4, .int x4)] [.int z0, .ref ((o + 3))] (n, sh, Rf, I, L) post := by
  unfold fTape_cutNumber_69 at H
  refine ev_iconst (5) dTape_cutNumber_69 (by decide) ?_
  refine ev_goto 74 dTape_cutNumber_70 (by decide) ?_
  exact ev_sub [(0, .ref o), (1, .int x1), (2, .int x2), (3, .int x3), (4, .int x4)] rfl (sTape_cutNumber_74 o n sh Rf I L post x1 x2 x3 x4 5 z0 hok hw H)
def fTape_cutNumber_46 (D : va_G) (cA : FieldType → ClassId) (b : Nat) (E : State → Prop) (o : Nat) (n : Nat) (sh : Nat → qC) (Rf : Nat → Nat → Option Nat) (I : Nat → Nat → Int32) (L : Nat → Nat → Int64) (post : Option Value → qS → Prop) (x1 : Int32) (x2 : Int32) (x3 : Int32) (x4 : Int32) : Prop :=
  ((4 < (x3 - x2) → fTape_cutNumber_69 D cA b E o n sh Rf I L post x1 x2 x3 x4 x1) ∧ (¬ 4 < (x3 - x2) → Ev (qGG D cA b E) mTape_byteAt 0 (0, 0) 0 (lv_args 0 [.ref o, .int x3]) [] (n, sh, Rf, I, L) (fun v τ => ∃ (r3 : Int32) (I4 : Nat → Nat → Int32) (L5 : Nat → Nat → Int64), v = some (.int r3) ∧ τ = (n, sh, Rf, I4, L5) ∧ Ev (qGG D cA b E) mTape_isLetter 0 (0, 0) 0 (lv_args 0 [.int r3]) [] (n, sh, Rf, I4, L5) (fun v τ => ∃ (r7 : Int32) (I8 : Nat → Nat → Int32) (L9 : Nat → Nat → Int64), v = some (.int r7) ∧ τ = (n, sh, Rf, I8, L9) ∧ ((r7 = 0 → fTape_cutNumber_74 D cA b E o n sh Rf I8 L9 post x1 x2 x3 x4 2 x1) ∧ (¬ r7 = 0 → fTape_cutNumber_69 D cA b E o n sh Rf I8 L9 post x1 x2 x3 x4 x1))))))
set_option maxHeartbeats 4000000 in
set_option maxRecDepth 20000 in
theorem sTape_cutNumber_46 {D : va_G} {cA : FieldType → ClassId} {b : Nat} {E : State → Prop} (o : Nat) (n : Nat) (sh : Nat → qC) (Rf : Nat → Nat → Option Nat) (I : Nat → Nat → Int32) (L : Nat → Nat → Int64) (post : Option Value → qS → Prop) (x1 : Int32) (x2 : Int32) (x3 : Int32) (x4 : Int32) (hok : q_ok (qGG D cA b E)) (hw : WfTape (qGG D cA b E) n sh Rf o) (H : fTape_cutNumber_46 D cA b E o n sh Rf I L post x1 x2 x3 x4) : Ev (qGG D cA b E) mTape_cutNumber 1 (0, 0) 46 [(0, .ref o), (1, .int x1), (2, .int x2), (3, .int x3), (4, .int x4)] [] (n, sh, Rf, I, L) post := by
  unfold fTape_cutNumber_46 at H
  refine ev_aload_n dTape_cutNumber_46 rfl ?_
  refine ev_getR hok fk_Tape_19 (woTape hw) (fun _ _ _ => rfl) (wrTape_2 hw) dTape_cutNumber_47 ?_
  refine ev_iload_n dTape_cutNumber_50 rfl ?_
  refine ev_iload_n dTape_cutNumber_51 rfl ?_
  refine ev_iload_n dTape_cutNumber_52 rfl ?_
  refine ev_isub dTape_cutNumber_53 ?_
  refine ev_iconst (4) dTape_cutNumber_54 (by decide) ?_
  refine ev_icmp_gt 69 dTape_cutNumber_55 (by decide) (fun c1 => ?_) (fun c1 => ?_)
  · have H := H.1 c1
    exact ev_sub [(0, .ref o), (1, .int x1), (2, .int x2), (3, .int x3), (4, .int x4)] rfl (sTape_cutNumber_69 o n sh Rf I L post x1 x2 x3 x4 x1 hok hw H)
  · have H := H.2 c1
    refine ev_aload_n dTape_cutNumber_58 rfl ?_
    refine ev_iload_n dTape_cutNumber_59 rfl ?_
    refine ev_callV [.int x3] [.int x1, .ref ((o + 3))] (B' := (0, 0)) (B'' := (0, 0)) hok mmTape_byteAt mk_Tape_71 (ci := 8) rfl rfl (woTape hw) rfl (Nat.le_of_ble_eq_true rfl) rfl (Nat.le_of_ble_eq_true rfl) dTape_cutNumber_60 rfl (by decide) H (fun v τ p2 => ?_)
    obtain ⟨r3, I4, L5, rfl, rfl, H⟩ := p2
    refine ev_callS [.int r3] [.int x1, .ref ((o + 3))] (B' := (0, 0)) (B'' := (0, 0)) hok mmTape_isLetter mk_Tape_59 rfl (Nat.le_of_ble_eq_true rfl) rfl (Nat.le_of_ble_eq_true rfl) dTape_cutNumber_63 rfl (by decide) H (fun v τ p6 => ?_)
    obtain ⟨r7, I8, L9, rfl, rfl, H⟩ := p6
    refine ev_if_eq 73 dTape_cutNumber_66 (by decide) (fun c10 => ?_) (fun c10 => ?_)
    · have H := H.1 c10
      refine ev_iconst (2) dTape_cutNumber_73 (by decide) ?_
      exact ev_sub [(0, .ref o), (1, .int x1), (2, .int x2), (3, .int x3), (4, .int x4)] rfl (sTape_cutNumber_74 o n sh Rf I8 L9 post x1 x2 x3 x4 2 x1 hok hw H)
    · have H := H.2 c10
      exact ev_sub [(0, .ref o), (1, .int x1), (2, .int x2), (3, .int x3), (4, .int x4)] rfl (sTape_cutNumber_69 o n sh Rf I8 L9 post x1 x2 x3 x4 x1 hok hw H)
def fTape_cutNumber_5 (D : va_G) (cA : FieldType → ClassId) (b : Nat) (E : State → Prop) (o : Nat) (n : Nat) (sh : Nat → qC) (Rf : Nat → Nat → Option Nat) (I : Nat → Nat → Int32) (L : Nat → Nat → Int64) (post : Option Value → qS → Prop) (x1 : Int32) (x2 : Int32) (x3 : Int32) (x4 : Int32) : Prop :=
  (((I o 6) ≤ x3 → fTape_cutNumber_46 D cA b E o n sh Rf I L post x1 x2 x3 x4) ∧ (¬ (I o 6) ≤ x3 → Ev (qGG D cA b E) mTape_byteAt 0 (0, 0) 0 (lv_args 0 [.ref o, .int x3]) [] (n, sh, Rf, I, L) (fun v τ => ∃ (r3 : Int32) (I4 : Nat → Nat → Int32) (L5 : Nat → Nat → Int64), v = some (.int r3) ∧ τ = (n, sh, Rf, I4, L5) ∧ Ev (qGG D cA b E) mTape_isDigit 0 (0, 0) 0 (lv_args 0 [.int r3]) [] (n, sh, Rf, I4, L5) (fun v τ => ∃ (r7 : Int32) (I8 : Nat → Nat → Int32) (L9 : Nat → Nat → Int64), v = some (.int r7) ∧ τ = (n, sh, Rf, I8, L9) ∧ ((r7 = 0 → fTape_cutNumber_46 D cA b E o n sh Rf I8 L9 post x1 x2 x3 x4) ∧ (¬ r7 = 0 → Ev (qGG D cA b E) mTape_byteAt 0 (0, 0) 0 (lv_args 0 [.ref o, .int x3]) [] (n, sh, Rf, I8, L9) (fun v τ => ∃ (r12 : Int32) (I13 : Nat → Nat → Int32) (L14 : Nat → Nat → Int64), v = some (.int r12) ∧ τ = (n, sh, Rf, I13, L14) ∧ Ev (qGG D cA b E) mTape_cutNumber 1 (0, 0) 5 [(0, .ref o), (1, .int x1), (2, .int x2), (3, .int ((x3 + Int32.ofInt 1))), (4, .int ((((x4 * 10) + r12) - 48)))] [] (n, sh, Rf, I13, L14) post)))))))
set_option maxHeartbeats 4000000 in
set_option maxRecDepth 20000 in
theorem sTape_cutNumber_5 {D : va_G} {cA : FieldType → ClassId} {b : Nat} {E : State → Prop} (o : Nat) (n : Nat) (sh : Nat → qC) (Rf : Nat → Nat → Option Nat) (I : Nat → Nat → Int32) (L : Nat → Nat → Int64) (post : Option Value → qS → Prop) (x1 : Int32) (x2 : Int32) (x3 : Int32) (x4 : Int32) (hok : q_ok (qGG D cA b E)) (hw : WfTape (qGG D cA b E) n sh Rf o) (H : fTape_cutNumber_5 D cA b E o n sh Rf I L post x1 x2 x3 x4) : Ev (qGG D cA b E) mTape_cutNumber 1 (0, 0) 5 [(0, .ref o), (1, .int x1), (2, .int x2), (3, .int x3), (4, .int x4)] [] (n, sh, Rf, I, L) post := by
  unfold fTape_cutNumber_5 at H
  refine ev_iload_n dTape_cutNumber_5 rfl ?_
  refine ev_aload_n dTape_cutNumber_6 rfl ?_
  refine ev_getI hok fk_Tape_31 (woTape hw) (fun _ _ _ => rfl) dTape_cutNumber_7 ?_
  refine ev_icmp_ge 46 dTape_cutNumber_10 (by decide) (fun c1 => ?_) (fun c1 => ?_)
  · have H := H.1 c1
    exact ev_sub [(0, .ref o), (1, .int x1), (2, .int x2), (3, .int x3), (4, .int x4)] rfl (sTape_cutNumber_46 o n sh Rf I L post x1 x2 x3 x4 hok hw H)
  · have H := H.2 c1
    refine ev_aload_n dTape_cutNumber_13 rfl ?_
    refine ev_iload_n dTape_cutNumber_14 rfl ?_
    refine ev_callV [.int x3] [] (B' := (0, 0)) (B'' := (0, 0)) hok mmTape_byteAt mk_Tape_71 (ci := 8) rfl rfl (woTape hw) rfl (Nat.le_of_ble_eq_true rfl) rfl (Nat.le_of_ble_eq_true rfl) dTape_cutNumber_15 rfl (by decide) H (fun v τ p2 => ?_)
    obtain ⟨r3, I4, L5, rfl, rfl, H⟩ := p2
    refine ev_callS [.int r3] [] (B' := (0, 0)) (B'' := (0, 0)) hok mmTape_isDigit mk_Tape_84 rfl (Nat.le_of_ble_eq_true rfl) rfl (Nat.le_of_ble_eq_true rfl) dTape_cutNumber_18 rfl (by decide) H (fun v τ p6 => ?_)
    obtain ⟨r7, I8, L9, rfl, rfl, H⟩ := p6
    refine ev_if_eq 46 dTape_cutNumber_21 (by decide) (fun c10 => ?_) (fun c10 => ?_)
    · have H := H.1 c10
      exact ev_sub [(0, .ref o), (1, .int x1), (2, .int x2), (3, .int x3), (4, .int x4)] rfl (sTape_cutNumber_46 o n sh Rf I8 L9 post x1 x2 x3 x4 hok hw H)
    · have H := H.2 c10
      refine ev_iload dTape_cutNumber_24 rfl ?_
      refine ev_bipush (10) dTape_cutNumber_26 (by decide) ?_
      refine ev_imul dTape_cutNumber_28 ?_
      refine ev_aload_n dTape_cutNumber_29 rfl ?_
      refine ev_iload_n dTape_cutNumber_30 rfl ?_
      refine ev_callV [.int x3] [.int ((x4 * 10))] (B' := (0, 0)) (B'' := (0, 0)) hok mmTape_byteAt mk_Tape_71 (ci := 8) rfl rfl (woTape hw) rfl (Nat.le_of_ble_eq_true rfl) rfl (Nat.le_of_ble_eq_true rfl) dTape_cutNumber_31 rfl (by decide) H (fun v τ p11 => ?_)
      obtain ⟨r12, I13, L14, rfl, rfl, H⟩ := p11
      refine ev_iadd dTape_cutNumber_34 ?_
      refine ev_bipush (48) dTape_cutNumber_35 (by decide) ?_
      refine ev_isub dTape_cutNumber_37 ?_
      refine ev_istore dTape_cutNumber_38 (by decide) ?_
      refine ev_iinc dTape_cutNumber_40 rfl (by decide) ?_
      refine ev_goto 5 dTape_cutNumber_43 (by decide) ?_
      exact ev_sub [(0, .ref o), (1, .int x1), (2, .int x2), (3, .int ((x3 + Int32.ofInt 1))), (4, .int ((((x4 * 10) + r12) - 48)))] rfl H
def fTape_cutNumber_0 (D : va_G) (cA : FieldType → ClassId) (b : Nat) (E : State → Prop) (o : Nat) (n : Nat) (sh : Nat → qC) (Rf : Nat → Nat → Option Nat) (I : Nat → Nat → Int32) (L : Nat → Nat → Int64) (post : Option Value → qS → Prop) (x1 : Int32) (x2 : Int32) : Prop :=
  Ev (qGG D cA b E) mTape_cutNumber 1 (0, 0) 5 [(0, .ref o), (1, .int x1), (2, .int x2), (3, .int x2), (4, .int 0)] [] (n, sh, Rf, I, L) post
set_option maxHeartbeats 4000000 in
set_option maxRecDepth 20000 in
theorem sTape_cutNumber_0 {D : va_G} {cA : FieldType → ClassId} {b : Nat} {E : State → Prop} (o : Nat) (n : Nat) (sh : Nat → qC) (Rf : Nat → Nat → Option Nat) (I : Nat → Nat → Int32) (L : Nat → Nat → Int64) (post : Option Value → qS → Prop) (x1 : Int32) (x2 : Int32) (hok : q_ok (qGG D cA b E)) (hw : WfTape (qGG D cA b E) n sh Rf o) (H : fTape_cutNumber_0 D cA b E o n sh Rf I L post x1 x2) : Ev (qGG D cA b E) mTape_cutNumber 1 (0, 0) 0 [(0, .ref o), (1, .int x1), (2, .int x2)] [] (n, sh, Rf, I, L) post := by
  unfold fTape_cutNumber_0 at H
  refine ev_iload_n dTape_cutNumber_0 rfl ?_
  refine ev_istore_n dTape_cutNumber_1 (by decide) ?_
  refine ev_iconst (0) dTape_cutNumber_2 (by decide) ?_
  refine ev_istore dTape_cutNumber_3 (by decide) ?_
  exact ev_sub [(0, .ref o), (1, .int x1), (2, .int x2), (3, .int x2), (4, .int 0)] rfl H
def fTape_cutWord_100 (D : va_G) (cA : FieldType → ClassId) (b : Nat) (E : State → Prop) (o : Nat) (n : Nat) (sh : Nat → qC) (Rf : Nat → Nat → Option Nat) (I : Nat → Nat → Int32) (L : Nat → Nat → Int64) (post : Option Value → qS → Prop) (x1 : Int32) (x2 : Int32) (x3 : Int32) (x4 : Int64) (x6 : Int32) : Prop :=
  Ev (qGG D cA b E) mTape_cutWord 1 (0, 0) 72 [(0, .ref o), (1, .int x1), (2, .int x2), (3, .int x3), (4, .long x4), (6, .int ((x6 + Int32.ofInt 1)))] [] (n, sh, Rf, I, L) post
set_option maxHeartbeats 4000000 in
set_option maxRecDepth 20000 in
theorem sTape_cutWord_100 {D : va_G} {cA : FieldType → ClassId} {b : Nat} {E : State → Prop} (o : Nat) (n : Nat) (sh : Nat → qC) (Rf : Nat → Nat → Option Nat) (I : Nat → Nat → Int32) (L : Nat → Nat → Int64) (post : Option Value → qS → Prop) (x1 : Int32) (x2 : Int32) (x3 : Int32) (x4 : Int64) (x6 : Int32) (hok : q_ok (qGG D cA b E)) (hw : WfTape (qGG D cA b E) n sh Rf o) (H : fTape_cutWord_100 D cA b E o n sh Rf I L post x1 x2 x3 x4 x6) : Ev (qGG D cA b E) mTape_cutWord 1 (0, 0) 100 [(0, .ref o), (1, .int x1), (2, .int x2), (3, .int x3), (4, .long x4), (6, .int x6)] [] (n, sh, Rf, I, L) post := by
  unfold fTape_cutWord_100 at H
  refine ev_iinc dTape_cutWord_100 rfl (by decide) ?_
  refine ev_goto 72 dTape_cutWord_103 (by decide) ?_
  exact ev_sub [(0, .ref o), (1, .int x1), (2, .int x2), (3, .int x3), (4, .long x4), (6, .int ((x6 + Int32.ofInt 1)))] rfl H
def fTape_cutWord_72 (D : va_G) (cA : FieldType → ClassId) (b : Nat) (E : State → Prop) (o : Nat) (n : Nat) (sh : Nat → qC) (Rf : Nat → Nat → Option Nat) (I : Nat → Nat → Int32) (L : Nat → Nat → Int64) (post : Option Value → qS → Prop) (x1 : Int32) (x2 : Int32) (x3 : Int32) (x4 : Int64) (x6 : Int32) : Prop :=
  ((32 ≤ x6 → post (some (.int x3)) (n, sh, Rf, I, L)) ∧ (¬ 32 ≤ x6 → vp_in x6 32 ∧ ((¬ (lg_cmp (L (o + 2) (x6 : Int32).toNatClampNeg) x4) = 0 → fTape_cutWord_100 D cA b E o n sh Rf I L post x1 x2 x3 x4 x6) ∧ ((lg_cmp (L (o + 2) (x6 : Int32).toNatClampNeg) x4) = 0 → vp_in x1 1601 ∧ ∀ I4 : Nat → Nat → Int32, q_u I (o + 5) (x1 : Int32).toNatClampNeg x6 = I4 → fTape_cutWord_100 D cA b E o n sh Rf I4 L post x1 x2 x3 x4 x6))))
set_option maxHeartbeats 4000000 in
set_option maxRecDepth 20000 in
theorem sTape_cutWord_72 {D : va_G} {cA : FieldType → ClassId} {b : Nat} {E : State → Prop} (o : Nat) (n : Nat) (sh : Nat → qC) (Rf : Nat → Nat → Option Nat) (I : Nat → Nat → Int32) (L : Nat → Nat → Int64) (post : Option Value → qS → Prop) (x1 : Int32) (x2 : Int32) (x3 : Int32) (x4 : Int64) (x6 : Int32) (hok : q_ok (qGG D cA b E)) (hw : WfTape (qGG D cA b E) n sh Rf o) (H : fTape_cutWord_72 D cA b E o n sh Rf I L post x1 x2 x3 x4 x6) : Ev (qGG D cA b E) mTape_cutWord 1 (0, 0) 72 [(0, .ref o), (1, .int x1), (2, .int x2), (3, .int x3), (4, .long x4), (6, .int x6)] [] (n, sh, Rf, I, L) post := by
  unfold fTape_cutWord_72 at H
  refine ev_iload dTape_cutWord_72 rfl ?_
  refine ev_bipush (32) dTape_cutWord_74 (by decide) ?_
  refine ev_icmp_ge 106 dTape_cutWord_76 (by decide) (fun c1 => ?_) (fun c1 => ?_)
  · have H := H.1 c1
    refine ev_iload_n dTape_cutWord_106 rfl ?_
    exact ev_iret rfl dTape_cutWord_107 H
  · have H := H.2 c1
    refine ev_aload_n dTape_cutWord_79 rfl ?_
    refine ev_getR hok fk_Tape_15 (woTape hw) (fun _ _ _ => rfl) (wrTape_1 hw) dTape_cutWord_80 ?_
    refine ev_iload dTape_cutWord_83 rfl ?_
    obtain ⟨h2, H⟩ := H
    refine ev_lald hok (waTape_1 hw) h2 dTape_cutWord_85 ?_
    refine ev_lload dTape_cutWord_86 rfl ?_
    refine ev_lcmp dTape_cutWord_88 ?_
    refine ev_if_ne 100 dTape_cutWord_89 (by decide) (fun c3 => ?_) (fun c3 => ?_)
    · have H := H.1 c3
      exact ev_sub [(0, .ref o), (1, .int x1), (2, .int x2), (3, .int x3), (4, .long x4), (6, .int x6)] rfl (sTape_cutWord_100 o n sh Rf I L post x1 x2 x3 x4 x6 hok hw H)
    · have H := H.2 c3
      refine ev_aload_n dTape_cutWord_92 rfl ?_
      refine ev_getR hok fk_Tape_25 (woTape hw) (fun _ _ _ => rfl) (wrTape_4 hw) dTape_cutWord_93 ?_
      refine ev_iload_n dTape_cutWord_96 rfl ?_
      refine ev_iload dTape_cutWord_97 rfl ?_
      obtain ⟨h5, H⟩ := H
      refine ev_iast hok (waTape_4 hw) h5 dTape_cutWord_99 ?_
      generalize eI4 : q_u I (o + 5) (x1 : Int32).toNatClampNeg x6 = I4
      have H := H I4 eI4
      exact ev_sub [(0, .ref o), (1, .int x1), (2, .int x2), (3, .int x3), (4, .long x4), (6, .int x6)] rfl (sTape_cutWord_100 o n sh Rf I4 L post x1 x2 x3 x4 x6 hok hw H)
def fTape_cutWord_60 (D : va_G) (cA : FieldType → ClassId) (b : Nat) (E : State → Prop) (o : Nat) (n : Nat) (sh : Nat → qC) (Rf : Nat → Nat → Option Nat) (I : Nat → Nat → Int32) (L : Nat → Nat → Int64) (post : Option Value → qS → Prop) (x1 : Int32) (x2 : Int32) (x3 : Int32) (x4 : Int64) (z0 : Int32) (z1 : Int32) : Prop :=
  vp_in z1 1601 ∧ ∀ I1 : Nat → Nat → Int32, q_u I (o + 3) (z1 : Int32).toNatClampNeg z0 = I1 → vp_in x1 1601 ∧ ∀ L3 : Nat → Nat → Int64, q_u L (o + 6) (x1 : Int32).toNatClampNeg x4 = L3 → Ev (qGG D cA b E) mTape_cutWord 1 (0, 0) 72 [(0, .ref o), (1, .int x1), (2, .int x2), (3, .int x3), (4, .long x4), (6, .int 0)] [] (n, sh, Rf, I1, L3) post
set_option maxHeartbeats 4000000 in
set_option maxRecDepth 20000 in
theorem sTape_cutWord_60 {D : va_G} {cA : FieldType → ClassId} {b : Nat} {E : State → Prop} (o : Nat) (n : Nat) (sh : Nat → qC) (Rf : Nat → Nat → Option Nat) (I : Nat → Nat → Int32) (L : Nat → Nat → Int64) (post : Option Value → qS → Prop) (x1 : Int32) (x2 : Int32) (x3 : Int32) (x4 : Int64) (z0 : Int32) (z1 : Int32) (hok : q_ok (qGG D cA b E)) (hw : WfTape (qGG D cA b E) n sh Rf o) (H : fTape_cutWord_60 D cA b E o n sh Rf I L post x1 x2 x3 x4 z0 z1) : Ev (qGG D cA b E) mTape_cutWord 1 (0, 0) 60 [(0, .ref o), (1, .int x1), (2, .int x2), (3, .int x3), (4, .long x4)] [.int z0, .int z1, .ref ((o + 3))] (n, sh, Rf, I, L) post := by
  unfold fTape_cutWord_60 at H
  obtain ⟨h2, H⟩ := H
  refine ev_iast hok (waTape_2 hw) h2 dTape_cutWord_60 ?_
  generalize eI1 : q_u I (o + 3) (z1 : Int32).toNatClampNeg z0 = I1
  have H := H I1 eI1
  refine ev_aload_n dTape_cutWord_61 rfl ?_
  refine ev_getR hok fk_Tape_28 (woTape hw) (fun _ _ _ => rfl) (wrTape_5 hw) dTape_cutWord_62 ?_
  refine ev_iload_n dTape_cutWord_65 rfl ?_
  refine ev_lload dTape_cutWord_66 rfl ?_
  obtain ⟨h4, H⟩ := H
  refine ev_last hok (waTape_5 hw) h4 dTape_cutWord_68 ?_
  generalize eL3 : q_u L (o + 6) (x1 : Int32).toNatClampNeg x4 = L3
  have H := H L3 eL3
  refine ev_iconst (0) dTape_cutWord_69 (by decide) ?_
  refine ev_istore dTape_cutWord_70 (by decide) ?_
  exact ev_sub [(0, .ref o), (1, .int x1), (2, .int x2), (3, .int x3), (4, .long x4), (6, .int 0)] rfl H
def fTape_cutWord_42 (D : va_G) (cA : FieldType → ClassId) (b : Nat) (E : State → Prop) (o : Nat) (n : Nat) (sh : Nat → qC) (Rf : Nat → Nat → Option Nat) (I : Nat → Nat → Int32) (L : Nat → Nat → Int64) (post : Option Value → qS → Prop) (x1 : Int32) (x2 : Int32) (x3 : Int32) (x4 : Int64) : Prop :=
  (((x3 - x2) ≤ 8 → fTape_cutWord_60 D cA b E o n sh Rf I L post x1 x2 x3 x4 1 x1) ∧ (¬ (x3 - x2) ≤ 8 → fTape_cutWord_60 D cA b E o n sh Rf I L post x1 x2 x3 x4 5 x1))
set_option maxHeartbeats 4000000 in
set_option maxRecDepth 20000 in
theorem sTape_cutWord_42 {D : va_G} {cA : FieldType → ClassId} {b : Nat} {E : State → Prop} (o : Nat) (n : Nat) (sh : Nat → qC) (Rf : Nat → Nat → Option Nat) (I : Nat → Nat → Int32) (L : Nat → Nat → Int64) (post : Option Value → qS → Prop) (x1 : Int32) (x2 : Int32) (x3 : Int32) (x4 : Int64) (hok : q_ok (qGG D cA b E)) (hw : WfTape (qGG D cA b E) n sh Rf o) (H : fTape_cutWord_42 D cA b E o n sh Rf I L post x1 x2 x3 x4) : Ev (qGG D cA b E) mTape_cutWord 1 (0, 0) 42 [(0, .ref o), (1, .int x1), (2, .int x2), (3, .int x3), (4, .long x4)] [] (n, sh, Rf, I, L) post := by
  unfold fTape_cutWord_42 at H
  refine ev_aload_n dTape_cutWord_42 rfl ?_
  refine ev_getR hok fk_Tape_19 (woTape hw) (fun _ _ _ => rfl) (wrTape_2 hw) dTape_cutWord_43 ?_
  refine ev_iload_n dTape_cutWord_46 rfl ?_
  refine ev_iload_n dTape_cutWord_47 rfl ?_
  refine ev_iload_n dTape_cutWord_48 rfl ?_
  refine ev_isub dTape_cutWord_49 ?_
  refine ev_bipush (8) dTape_cutWord_50 (by decide) ?_
  refine ev_icmp_le 59 dTape_cutWord_52 (by decide) (fun c1 => ?_) (fun c1 => ?_)
  · have H := H.1 c1
    refine ev_iconst (1) dTape_cutWord_59 (by decide) ?_
    exact ev_sub [(0, .ref o), (1, .int x1), (2, .int x2), (3, .int x3), (4, .long x4)] rfl (sTape_cutWord_60 o n sh Rf I L post x1 x2 x3 x4 1 x1 hok hw H)
  · have H := H.2 c1
    refine ev_iconst (5) dTape_cutWord_55 (by decide) ?_
    refine ev_goto 60 dTape_cutWord_56 (by decide) ?_
    exact ev_sub [(0, .ref o), (1, .int x1), (2, .int x2), (3, .int x3), (4, .long x4)] rfl (sTape_cutWord_60 o n sh Rf I L post x1 x2 x3 x4 5 x1 hok hw H)
def fTape_cutWord_5 (D : va_G) (cA : FieldType → ClassId) (b : Nat) (E : State → Prop) (o : Nat) (n : Nat) (sh : Nat → qC) (Rf : Nat → Nat → Option Nat) (I : Nat → Nat → Int32) (L : Nat → Nat → Int64) (post : Option Value → qS → Prop) (x1 : Int32) (x2 : Int32) (x3 : Int32) (x4 : Int64) : Prop :=
  (((I o 6) ≤ x3 → fTape_cutWord_42 D cA b E o n sh Rf I L post x1 x2 x3 x4) ∧ (¬ (I o 6) ≤ x3 → Ev (qGG D cA b E) mTape_byteAt 0 (0, 0) 0 (lv_args 0 [.ref o, .int x3]) [] (n, sh, Rf, I, L) (fun v τ => ∃ (r3 : Int32) (I4 : Nat → Nat → Int32) (L5 : Nat → Nat → Int64), v = some (.int r3) ∧ τ = (n, sh, Rf, I4, L5) ∧ Ev (qGG D cA b E) mTape_isLetter 0 (0, 0) 0 (lv_args 0 [.int r3]) [] (n, sh, Rf, I4, L5) (fun v τ => ∃ (r7 : Int32) (I8 : Nat → Nat → Int32) (L9 : Nat → Nat → Int64), v = some (.int r7) ∧ τ = (n, sh, Rf, I8, L9) ∧ ((r7 = 0 → fTape_cutWord_42 D cA b E o n sh Rf I8 L9 post x1 x2 x3 x4) ∧ (¬ r7 = 0 → Ev (qGG D cA b E) mTape_byteAt 0 (0, 0) 0 (lv_args 0 [.ref o, .int x3]) [] (n, sh, Rf, I8, L9) (fun v τ => ∃ (r12 : Int32) (I13 : Nat → Nat → Int32) (L14 : Nat → Nat → Int64), v = some (.int r12) ∧ τ = (n, sh, Rf, I13, L14) ∧ Ev (qGG D cA b E) mTape_withLetter 0 (0, 0) 0 (lv_args 0 [.long x4, .int r12]) [] (n, sh, Rf, I13, L14) (fun v τ => ∃ (r16 : Int64) (I17 : Nat → Nat → Int32) (L18 : Nat → Nat → Int64), v = some (.long r16) ∧ τ = (n, sh, Rf, I17, L18) ∧ Ev (qGG D cA b E) mTape_cutWord 1 (0, 0) 5 [(0, .ref o), (1, .int x1), (2, .int x2), (3, .int ((x3 + Int32.ofInt 1))), (4, .long r16)] [] (n, sh, Rf, I17, L18) post))))))))
set_option maxHeartbeats 4000000 in
set_option maxRecDepth 20000 in
theorem sTape_cutWord_5 {D : va_G} {cA : FieldType → ClassId} {b : Nat} {E : State → Prop} (o : Nat) (n : Nat) (sh : Nat → qC) (Rf : Nat → Nat → Option Nat) (I : Nat → Nat → Int32) (L : Nat → Nat → Int64) (post : Option Value → qS → Prop) (x1 : Int32) (x2 : Int32) (x3 : Int32) (x4 : Int64) (hok : q_ok (qGG D cA b E)) (hw : WfTape (qGG D cA b E) n sh Rf o) (H : fTape_cutWord_5 D cA b E o n sh Rf I L post x1 x2 x3 x4) : Ev (qGG D cA b E) mTape_cutWord 1 (0, 0) 5 [(0, .ref o), (1, .int x1), (2, .int x2), (3, .int x3), (4, .long x4)] [] (n, sh, Rf, I, L) post := by
  unfold fTape_cutWord_5 at H
  refine ev_iload_n dTape_cutWord_5 rfl ?_
  refine ev_aload_n dTape_cutWord_6 rfl ?_
  refine ev_getI hok fk_Tape_31 (woTape hw) (fun _ _ _ => rfl) dTape_cutWord_7 ?_
  refine ev_icmp_ge 42 dTape_cutWord_10 (by decide) (fun c1 => ?_) (fun c1 => ?_)
  · have H := H.1 c1
    exact ev_sub [(0, .ref o), (1, .int x1), (2, .int x2), (3, .int x3), (4, .long x4)] rfl (sTape_cutWord_42 o n sh Rf I L post x1 x2 x3 x4 hok hw H)
  · have H := H.2 c1
    refine ev_aload_n dTape_cutWord_13 rfl ?_
    refine ev_iload_n dTape_cutWord_14 rfl ?_
    refine ev_callV [.int x3] [] (B' := (0, 0)) (B'' := (0, 0)) hok mmTape_byteAt mk_Tape_71 (ci := 8) rfl rfl (woTape hw) rfl (Nat.le_of_ble_eq_true rfl) rfl (Nat.le_of_ble_eq_true rfl) dTape_cutWord_15 rfl (by decide) H (fun v τ p2 => ?_)
    obtain ⟨r3, I4, L5, rfl, rfl, H⟩ := p2
    refine ev_callS [.int r3] [] (B' := (0, 0)) (B'' := (0, 0)) hok mmTape_isLetter mk_Tape_59 rfl (Nat.le_of_ble_eq_true rfl) rfl (Nat.le_of_ble_eq_true rfl) dTape_cutWord_18 rfl (by decide) H (fun v τ p6 => ?_)
    obtain ⟨r7, I8, L9, rfl, rfl, H⟩ := p6
    refine ev_if_eq 42 dTape_cutWord_21 (by decide) (fun c10 => ?_) (fun c10 => ?_)
    · have H := H.1 c10
      exact ev_sub [(0, .ref o), (1, .int x1), (2, .int x2), (3, .int x3), (4, .long x4)] rfl (sTape_cutWord_42 o n sh Rf I8 L9 post x1 x2 x3 x4 hok hw H)
    · have H := H.2 c10
      refine ev_lload dTape_cutWord_24 rfl ?_
      refine ev_aload_n dTape_cutWord_26 rfl ?_
      refine ev_iload_n dTape_cutWord_27 rfl ?_
      refine ev_callV [.int x3] [.long x4] (B' := (0, 0)) (B'' := (0, 0)) hok mmTape_byteAt mk_Tape_71 (ci := 8) rfl rfl (woTape hw) rfl (Nat.le_of_ble_eq_true rfl) rfl (Nat.le_of_ble_eq_true rfl) dTape_cutWord_28 rfl (by decide) H (fun v τ p11 => ?_)
      obtain ⟨r12, I13, L14, rfl, rfl, H⟩ := p11
      refine ev_callS [.long x4, .int r12] [] (B' := (0, 0)) (B'' := (0, 0)) hok mmTape_withLetter mk_Tape_63 rfl (Nat.le_of_ble_eq_true rfl) rfl (Nat.le_of_ble_eq_true rfl) dTape_cutWord_31 rfl (by decide) H (fun v τ p15 => ?_)
      obtain ⟨r16, I17, L18, rfl, rfl, H⟩ := p15
      refine ev_lstore dTape_cutWord_34 (by decide) ?_
      refine ev_iinc dTape_cutWord_36 rfl (by decide) ?_
      refine ev_goto 5 dTape_cutWord_39 (by decide) ?_
      exact ev_sub [(0, .ref o), (1, .int x1), (2, .int x2), (3, .int ((x3 + Int32.ofInt 1))), (4, .long r16)] rfl H
def fTape_cutWord_0 (D : va_G) (cA : FieldType → ClassId) (b : Nat) (E : State → Prop) (o : Nat) (n : Nat) (sh : Nat → qC) (Rf : Nat → Nat → Option Nat) (I : Nat → Nat → Int32) (L : Nat → Nat → Int64) (post : Option Value → qS → Prop) (x1 : Int32) (x2 : Int32) : Prop :=
  Ev (qGG D cA b E) mTape_cutWord 1 (0, 0) 5 [(0, .ref o), (1, .int x1), (2, .int x2), (3, .int x2), (4, .long 0)] [] (n, sh, Rf, I, L) post
set_option maxHeartbeats 4000000 in
set_option maxRecDepth 20000 in
theorem sTape_cutWord_0 {D : va_G} {cA : FieldType → ClassId} {b : Nat} {E : State → Prop} (o : Nat) (n : Nat) (sh : Nat → qC) (Rf : Nat → Nat → Option Nat) (I : Nat → Nat → Int32) (L : Nat → Nat → Int64) (post : Option Value → qS → Prop) (x1 : Int32) (x2 : Int32) (hok : q_ok (qGG D cA b E)) (hw : WfTape (qGG D cA b E) n sh Rf o) (H : fTape_cutWord_0 D cA b E o n sh Rf I L post x1 x2) : Ev (qGG D cA b E) mTape_cutWord 1 (0, 0) 0 [(0, .ref o), (1, .int x1), (2, .int x2)] [] (n, sh, Rf, I, L) post := by
  unfold fTape_cutWord_0 at H
  refine ev_iload_n dTape_cutWord_0 rfl ?_
  refine ev_istore_n dTape_cutWord_1 (by decide) ?_
  refine ev_lconst 0 dTape_cutWord_2 (by decide) ?_
  refine ev_lstore dTape_cutWord_3 (by decide) ?_
  exact ev_sub [(0, .ref o), (1, .int x1), (2, .int x2), (3, .int x2), (4, .long 0)] rfl H
def fTape_passIf_0 (D : va_G) (cA : FieldType → ClassId) (b : Nat) (E : State → Prop) (o : Nat) (n : Nat) (sh : Nat → qC) (Rf : Nat → Nat → Option Nat) (I : Nat → Nat → Int32) (L : Nat → Nat → Int64) (post : Option Value → qS → Prop) (x1 : Int32) : Prop :=
  ((x1 = 0 → Ev (qGG D cA b E) mTape_refuse 0 (0, 0) 0 (lv_args 0 [.ref o, .int 2]) [] (n, sh, Rf, I, L) (fun v τ => ∃ (I4 : Nat → Nat → Int32) (L5 : Nat → Nat → Int64), v = none ∧ τ = (n, sh, Rf, I4, L5) ∧ post none (n, sh, Rf, I4, L5))) ∧ (¬ x1 = 0 → Ev (qGG D cA b E) mTape_step 0 (0, 0) 0 (lv_args 0 [.ref o]) [] (n, sh, Rf, I, L) (fun v τ => ∃ (I8 : Nat → Nat → Int32) (L9 : Nat → Nat → Int64), v = none ∧ τ = (n, sh, Rf, I8, L9) ∧ post none (n, sh, Rf, I8, L9))))
set_option maxHeartbeats 4000000 in
set_option maxRecDepth 20000 in
theorem sTape_passIf_0 {D : va_G} {cA : FieldType → ClassId} {b : Nat} {E : State → Prop} (o : Nat) (n : Nat) (sh : Nat → qC) (Rf : Nat → Nat → Option Nat) (I : Nat → Nat → Int32) (L : Nat → Nat → Int64) (post : Option Value → qS → Prop) (x1 : Int32) (hok : q_ok (qGG D cA b E)) (hw : WfTape (qGG D cA b E) n sh Rf o) (H : fTape_passIf_0 D cA b E o n sh Rf I L post x1) : Ev (qGG D cA b E) mTape_passIf 1 (0, 0) 0 [(0, .ref o), (1, .int x1)] [] (n, sh, Rf, I, L) post := by
  unfold fTape_passIf_0 at H
  refine ev_iload_n dTape_passIf_0 rfl ?_
  refine ev_if_eq 11 dTape_passIf_1 (by decide) (fun c1 => ?_) (fun c1 => ?_)
  · have H := H.1 c1
    refine ev_aload_n dTape_passIf_11 rfl ?_
    refine ev_iconst (2) dTape_passIf_12 (by decide) ?_
    refine ev_callV [.int 2] [] (B' := (0, 0)) (B'' := (0, 0)) hok mmTape_refuse mk_Tape_102 (ci := 8) rfl rfl (woTape hw) rfl (Nat.le_of_ble_eq_true rfl) rfl (Nat.le_of_ble_eq_true rfl) dTape_passIf_13 rfl (by decide) H (fun v τ p2 => ?_)
    obtain ⟨I4, L5, rfl, rfl, H⟩ := p2
    exact ev_vret rfl dTape_passIf_16 H
  · have H := H.2 c1
    refine ev_aload_n dTape_passIf_4 rfl ?_
    refine ev_callV [] [] (B' := (0, 0)) (B'' := (0, 0)) hok mmTape_step mk_Tape_99 (ci := 8) rfl rfl (woTape hw) rfl (Nat.le_of_ble_eq_true rfl) rfl (Nat.le_of_ble_eq_true rfl) dTape_passIf_5 rfl (by decide) H (fun v τ p6 => ?_)
    obtain ⟨I8, L9, rfl, rfl, H⟩ := p6
    refine ev_goto 16 dTape_passIf_8 (by decide) ?_
    exact ev_vret rfl dTape_passIf_16 H
def fTape_placeAt_108 (D : va_G) (cA : FieldType → ClassId) (b : Nat) (E : State → Prop) (o : Nat) (n : Nat) (sh : Nat → qC) (Rf : Nat → Nat → Option Nat) (I : Nat → Nat → Int32) (L : Nat → Nat → Int64) (post : Option Value → qS → Prop) (x1 : Int32) (x2 : Int32) (x3 : Int32) (x4 : Int32) : Prop :=
  post (some (.int ((-1)))) (n, sh, Rf, I, L)
set_option maxHeartbeats 4000000 in
set_option maxRecDepth 20000 in
theorem sTape_placeAt_108 {D : va_G} {cA : FieldType → ClassId} {b : Nat} {E : State → Prop} (o : Nat) (n : Nat) (sh : Nat → qC) (Rf : Nat → Nat → Option Nat) (I : Nat → Nat → Int32) (L : Nat → Nat → Int64) (post : Option Value → qS → Prop) (x1 : Int32) (x2 : Int32) (x3 : Int32) (x4 : Int32) (hok : q_ok (qGG D cA b E)) (hw : WfTape (qGG D cA b E) n sh Rf o) (H : fTape_placeAt_108 D cA b E o n sh Rf I L post x1 x2 x3 x4) : Ev (qGG D cA b E) mTape_placeAt 1 (0, 0) 108 [(0, .ref o), (1, .int x1), (2, .int x2), (3, .int x3), (4, .int x4)] [] (n, sh, Rf, I, L) post := by
  unfold fTape_placeAt_108 at H
  refine ev_iconst (-1) dTape_placeAt_108 (by decide) ?_
  refine ev_goto 113 dTape_placeAt_109 (by decide) ?_
  exact ev_iret rfl dTape_placeAt_113 H
def fTape_placeAt_95 (D : va_G) (cA : FieldType → ClassId) (b : Nat) (E : State → Prop) (o : Nat) (n : Nat) (sh : Nat → qC) (Rf : Nat → Nat → Option Nat) (I : Nat → Nat → Int32) (L : Nat → Nat → Int64) (post : Option Value → qS → Prop) (x1 : Int32) (x2 : Int32) (x3 : Int32) (z0 : Int32) : Prop :=
  ((¬ z0 = 0 → fTape_placeAt_108 D cA b E o n sh Rf I L post x1 x2 x3 z0) ∧ (z0 = 0 → ((x2 < 16 → post (some (.int x2)) (n, sh, Rf, I, L)) ∧ (¬ x2 < 16 → fTape_placeAt_108 D cA b E o n sh Rf I L post x1 x2 x3 z0))))
set_option maxHeartbeats 4000000 in
set_option maxRecDepth 20000 in
theorem sTape_placeAt_95 {D : va_G} {cA : FieldType → ClassId} {b : Nat} {E : State → Prop} (o : Nat) (n : Nat) (sh : Nat → qC) (Rf : Nat → Nat → Option Nat) (I : Nat → Nat → Int32) (L : Nat → Nat → Int64) (post : Option Value → qS → Prop) (x1 : Int32) (x2 : Int32) (x3 : Int32) (z0 : Int32) (hok : q_ok (qGG D cA b E)) (hw : WfTape (qGG D cA b E) n sh Rf o) (H : fTape_placeAt_95 D cA b E o n sh Rf I L post x1 x2 x3 z0) : Ev (qGG D cA b E) mTape_placeAt 1 (0, 0) 95 [(0, .ref o), (1, .int x1), (2, .int x2), (3, .int x3)] [.int z0] (n, sh, Rf, I, L) post := by
  unfold fTape_placeAt_95 at H
  refine ev_istore dTape_placeAt_95 (by decide) ?_
  refine ev_iload dTape_placeAt_97 rfl ?_
  refine ev_if_ne 108 dTape_placeAt_99 (by decide) (fun c1 => ?_) (fun c1 => ?_)
  · have H := H.1 c1
    exact ev_sub [(0, .ref o), (1, .int x1), (2, .int x2), (3, .int x3), (4, .int z0)] rfl (sTape_placeAt_108 o n sh Rf I L post x1 x2 x3 z0 hok hw H)
  · have H := H.2 c1
    refine ev_iload_n dTape_placeAt_102 rfl ?_
    refine ev_bipush (16) dTape_placeAt_103 (by decide) ?_
    refine ev_icmp_lt 112 dTape_placeAt_105 (by decide) (fun c2 => ?_) (fun c2 => ?_)
    · have H := H.1 c2
      refine ev_iload_n dTape_placeAt_112 rfl ?_
      exact ev_iret rfl dTape_placeAt_113 H
    · have H := H.2 c2
      exact ev_sub [(0, .ref o), (1, .int x1), (2, .int x2), (3, .int x3), (4, .int z0)] rfl (sTape_placeAt_108 o n sh Rf I L post x1 x2 x3 z0 hok hw H)
def fTape_placeAt_90 (D : va_G) (cA : FieldType → ClassId) (b : Nat) (E : State → Prop) (o : Nat) (n : Nat) (sh : Nat → qC) (Rf : Nat → Nat → Option Nat) (I : Nat → Nat → Int32) (L : Nat → Nat → Int64) (post : Option Value → qS → Prop) (x1 : Int32) (x2 : Int32) (x3 : Int32) : Prop :=
  fTape_placeAt_95 D cA b E o n sh Rf I L post x1 x2 x3 1
set_option maxHeartbeats 4000000 in
set_option maxRecDepth 20000 in
theorem sTape_placeAt_90 {D : va_G} {cA : FieldType → ClassId} {b : Nat} {E : State → Prop} (o : Nat) (n : Nat) (sh : Nat → qC) (Rf : Nat → Nat → Option Nat) (I : Nat → Nat → Int32) (L : Nat → Nat → Int64) (post : Option Value → qS → Prop) (x1 : Int32) (x2 : Int32) (x3 : Int32) (hok : q_ok (qGG D cA b E)) (hw : WfTape (qGG D cA b E) n sh Rf o) (H : fTape_placeAt_90 D cA b E o n sh Rf I L post x1 x2 x3) : Ev (qGG D cA b E) mTape_placeAt 1 (0, 0) 90 [(0, .ref o), (1, .int x1), (2, .int x2), (3, .int x3)] [] (n, sh, Rf, I, L) post := by
  unfold fTape_placeAt_90 at H
  refine ev_iconst (1) dTape_placeAt_90 (by decide) ?_
  refine ev_goto 95 dTape_placeAt_91 (by decide) ?_
  exact ev_sub [(0, .ref o), (1, .int x1), (2, .int x2), (3, .int x3)] rfl (sTape_placeAt_95 o n sh Rf I L post x1 x2 x3 1 hok hw H)
def fTape_placeAt_68 (D : va_G) (cA : FieldType → ClassId) (b : Nat) (E : State → Prop) (o : Nat) (n : Nat) (sh : Nat → qC) (Rf : Nat → Nat → Option Nat) (I : Nat → Nat → Int32) (L : Nat → Nat → Int64) (post : Option Value → qS → Prop) (x1 : Int32) (x2 : Int32) (x3 : Int32) : Prop :=
  Ev (qGG D cA b E) mTape_byteAt 0 (0, 0) 0 (lv_args 0 [.ref o, .int x3]) [] (n, sh, Rf, I, L) (fun v τ => ∃ (r2 : Int32) (I3 : Nat → Nat → Int32) (L4 : Nat → Nat → Int64), v = some (.int r2) ∧ τ = (n, sh, Rf, I3, L4) ∧ Ev (qGG D cA b E) mTape_isDigit 0 (0, 0) 0 (lv_args 0 [.int r2]) [] (n, sh, Rf, I3, L4) (fun v τ => ∃ (r6 : Int32) (I7 : Nat → Nat → Int32) (L8 : Nat → Nat → Int64), v = some (.int r6) ∧ τ = (n, sh, Rf, I7, L8) ∧ ((¬ r6 = 0 → fTape_placeAt_90 D cA b E o n sh Rf I7 L8 post x1 x2 x3) ∧ (r6 = 0 → Ev (qGG D cA b E) mTape_byteAt 0 (0, 0) 0 (lv_args 0 [.ref o, .int x3]) [] (n, sh, Rf, I7, L8) (fun v τ => ∃ (r11 : Int32) (I12 : Nat → Nat → Int32) (L13 : Nat → Nat → Int64), v = some (.int r11) ∧ τ = (n, sh, Rf, I12, L13) ∧ Ev (qGG D cA b E) mTape_isLetter 0 (0, 0) 0 (lv_args 0 [.int r11]) [] (n, sh, Rf, I12, L13) (fun v τ => ∃ (r15 : Int32) (I16 : Nat → Nat → Int32) (L17 : Nat → Nat → Int64), v = some (.int r15) ∧ τ = (n, sh, Rf, I16, L17) ∧ ((r15 = 0 → fTape_placeAt_95 D cA b E o n sh Rf I16 L17 post x1 x2 x3 0) ∧ (¬ r15 = 0 → fTape_placeAt_90 D cA b E o n sh Rf I16 L17 post x1 x2 x3))))))))
set_option maxHeartbeats 4000000 in
set_option maxRecDepth 20000 in
theorem sTape_placeAt_68 {D : va_G} {cA : FieldType → ClassId} {b : Nat} {E : State → Prop} (o : Nat) (n : Nat) (sh : Nat → qC) (Rf : Nat → Nat → Option Nat) (I : Nat → Nat → Int32) (L : Nat → Nat → Int64) (post : Option Value → qS → Prop) (x1 : Int32) (x2 : Int32) (x3 : Int32) (hok : q_ok (qGG D cA b E)) (hw : WfTape (qGG D cA b E) n sh Rf o) (H : fTape_placeAt_68 D cA b E o n sh Rf I L post x1 x2 x3) : Ev (qGG D cA b E) mTape_placeAt 1 (0, 0) 68 [(0, .ref o), (1, .int x1), (2, .int x2), (3, .int x3)] [] (n, sh, Rf, I, L) post := by
  unfold fTape_placeAt_68 at H
  refine ev_aload_n dTape_placeAt_68 rfl ?_
  refine ev_iload_n dTape_placeAt_69 rfl ?_
  refine ev_callV [.int x3] [] (B' := (0, 0)) (B'' := (0, 0)) hok mmTape_byteAt mk_Tape_71 (ci := 8) rfl rfl (woTape hw) rfl (Nat.le_of_ble_eq_true rfl) rfl (Nat.le_of_ble_eq_true rfl) dTape_placeAt_70 rfl (by decide) H (fun v τ p1 => ?_)
  obtain ⟨r2, I3, L4, rfl, rfl, H⟩ := p1
  refine ev_callS [.int r2] [] (B' := (0, 0)) (B'' := (0, 0)) hok mmTape_isDigit mk_Tape_84 rfl (Nat.le_of_ble_eq_true rfl) rfl (Nat.le_of_ble_eq_true rfl) dTape_placeAt_73 rfl (by decide) H (fun v τ p5 => ?_)
  obtain ⟨r6, I7, L8, rfl, rfl, H⟩ := p5
  refine ev_if_ne 90 dTape_placeAt_76 (by decide) (fun c9 => ?_) (fun c9 => ?_)
  · have H := H.1 c9
    exact ev_sub [(0, .ref o), (1, .int x1), (2, .int x2), (3, .int x3)] rfl (sTape_placeAt_90 o n sh Rf I7 L8 post x1 x2 x3 hok hw H)
  · have H := H.2 c9
    refine ev_aload_n dTape_placeAt_79 rfl ?_
    refine ev_iload_n dTape_placeAt_80 rfl ?_
    refine ev_callV [.int x3] [] (B' := (0, 0)) (B'' := (0, 0)) hok mmTape_byteAt mk_Tape_71 (ci := 8) rfl rfl (woTape hw) rfl (Nat.le_of_ble_eq_true rfl) rfl (Nat.le_of_ble_eq_true rfl) dTape_placeAt_81 rfl (by decide) H (fun v τ p10 => ?_)
    obtain ⟨r11, I12, L13, rfl, rfl, H⟩ := p10
    refine ev_callS [.int r11] [] (B' := (0, 0)) (B'' := (0, 0)) hok mmTape_isLetter mk_Tape_59 rfl (Nat.le_of_ble_eq_true rfl) rfl (Nat.le_of_ble_eq_true rfl) dTape_placeAt_84 rfl (by decide) H (fun v τ p14 => ?_)
    obtain ⟨r15, I16, L17, rfl, rfl, H⟩ := p14
    refine ev_if_eq 94 dTape_placeAt_87 (by decide) (fun c18 => ?_) (fun c18 => ?_)
    · have H := H.1 c18
      refine ev_iconst (0) dTape_placeAt_94 (by decide) ?_
      exact ev_sub [(0, .ref o), (1, .int x1), (2, .int x2), (3, .int x3)] rfl (sTape_placeAt_95 o n sh Rf I16 L17 post x1 x2 x3 0 hok hw H)
    · have H := H.2 c18
      exact ev_sub [(0, .ref o), (1, .int x1), (2, .int x2), (3, .int x3)] rfl (sTape_placeAt_90 o n sh Rf I16 L17 post x1 x2 x3 hok hw H)
def fTape_placeAt_0 (D : va_G) (cA : FieldType → ClassId) (b : Nat) (E : State → Prop) (o : Nat) (n : Nat) (sh : Nat → qC) (Rf : Nat → Nat → Option Nat) (I : Nat → Nat → Int32) (L : Nat → Nat → Int64) (post : Option Value → qS → Prop) (x1 : Int32) : Prop :=
  Ev (qGG D cA b E) mTape_byteAt 0 (0, 0) 0 (lv_args 0 [.ref o, .int x1]) [] (n, sh, Rf, I, L) (fun v τ => ∃ (r2 : Int32) (I3 : Nat → Nat → Int32) (L4 : Nat → Nat → Int64), v = some (.int r2) ∧ τ = (n, sh, Rf, I3, L4) ∧ ((¬ r2 = 112 → post (some (.int ((-1)))) (n, sh, Rf, I3, L4)) ∧ (r2 = 112 → Ev (qGG D cA b E) mTape_byteAt 0 (0, 0) 0 (lv_args 0 [.ref o, .int ((x1 + 1))]) [] (n, sh, Rf, I3, L4) (fun v τ => ∃ (r7 : Int32) (I8 : Nat → Nat → Int32) (L9 : Nat → Nat → Int64), v = some (.int r7) ∧ τ = (n, sh, Rf, I8, L9) ∧ Ev (qGG D cA b E) mTape_isDigit 0 (0, 0) 0 (lv_args 0 [.int r7]) [] (n, sh, Rf, I8, L9) (fun v τ => ∃ (r11 : Int32) (I12 : Nat → Nat → Int32) (L13 : Nat → Nat → Int64), v = some (.int r11) ∧ τ = (n, sh, Rf, I12, L13) ∧ ((¬ r11 = 0 → Ev (qGG D cA b E) mTape_byteAt 0 (0, 0) 0 (lv_args 0 [.ref o, .int ((x1 + 1))]) [] (n, sh, Rf, I12, L13) (fun v τ => ∃ (r16 : Int32) (I17 : Nat → Nat → Int32) (L18 : Nat → Nat → Int64), v = some (.int r16) ∧ τ = (n, sh, Rf, I17, L18) ∧ Ev (qGG D cA b E) mTape_byteAt 0 (0, 0) 0 (lv_args 0 [.ref o, .int ((x1 + 2))]) [] (n, sh, Rf, I17, L18) (fun v τ => ∃ (r20 : Int32) (I21 : Nat → Nat → Int32) (L22 : Nat → Nat → Int64), v = some (.int r20) ∧ τ = (n, sh, Rf, I21, L22) ∧ Ev (qGG D cA b E) mTape_isDigit 0 (0, 0) 0 (lv_args 0 [.int r20]) [] (n, sh, Rf, I21, L22) (fun v τ => ∃ (r24 : Int32) (I25 : Nat → Nat → Int32) (L26 : Nat → Nat → Int64), v = some (.int r24) ∧ τ = (n, sh, Rf, I25, L26) ∧ ((r24 = 0 → fTape_placeAt_68 D cA b E o n sh Rf I25 L26 post x1 (r16 - 48) (x1 + 2)) ∧ (¬ r24 = 0 → Ev (qGG D cA b E) mTape_byteAt 0 (0, 0) 0 (lv_args 0 [.ref o, .int ((x1 + 2))]) [] (n, sh, Rf, I25, L26) (fun v τ => ∃ (r29 : Int32) (I30 : Nat → Nat → Int32) (L31 : Nat → Nat → Int64), v = some (.int r29) ∧ τ = (n, sh, Rf, I30, L31) ∧ fTape_placeAt_68 D cA b E o n sh Rf I30 L31 post x1 ((((r16 - 48) * 10) + r29) - 48) ((x1 + 2) + Int32.ofInt 1)))))))) ∧ (r11 = 0 → post (some (.int ((-1)))) (n, sh, Rf, I12, L13))))))))
set_option maxHeartbeats 4000000 in
set_option maxRecDepth 20000 in
theorem sTape_placeAt_0 {D : va_G} {cA : FieldType → ClassId} {b : Nat} {E : State → Prop} (o : Nat) (n : Nat) (sh : Nat → qC) (Rf : Nat → Nat → Option Nat) (I : Nat → Nat → Int32) (L : Nat → Nat → Int64) (post : Option Value → qS → Prop) (x1 : Int32) (hok : q_ok (qGG D cA b E)) (hw : WfTape (qGG D cA b E) n sh Rf o) (H : fTape_placeAt_0 D cA b E o n sh Rf I L post x1) : Ev (qGG D cA b E) mTape_placeAt 1 (0, 0) 0 [(0, .ref o), (1, .int x1)] [] (n, sh, Rf, I, L) post := by
  unfold fTape_placeAt_0 at H
  refine ev_aload_n dTape_placeAt_0 rfl ?_
  refine ev_iload_n dTape_placeAt_1 rfl ?_
  refine ev_callV [.int x1] [] (B' := (0, 0)) (B'' := (0, 0)) hok mmTape_byteAt mk_Tape_71 (ci := 8) rfl rfl (woTape hw) rfl (Nat.le_of_ble_eq_true rfl) rfl (Nat.le_of_ble_eq_true rfl) dTape_placeAt_2 rfl (by decide) H (fun v τ p1 => ?_)
  obtain ⟨r2, I3, L4, rfl, rfl, H⟩ := p1
  refine ev_bipush (112) dTape_placeAt_5 (by decide) ?_
  refine ev_icmp_ne 23 dTape_placeAt_7 (by decide) (fun c5 => ?_) (fun c5 => ?_)
  · have H := H.1 c5
    refine ev_iconst (-1) dTape_placeAt_23 (by decide) ?_
    exact ev_iret rfl dTape_placeAt_24 H
  · have H := H.2 c5
    refine ev_aload_n dTape_placeAt_10 rfl ?_
    refine ev_iload_n dTape_placeAt_11 rfl ?_
    refine ev_iconst (1) dTape_placeAt_12 (by decide) ?_
    refine ev_iadd dTape_placeAt_13 ?_
    refine ev_callV [.int ((x1 + 1))] [] (B' := (0, 0)) (B'' := (0, 0)) hok mmTape_byteAt mk_Tape_71 (ci := 8) rfl rfl (woTape hw) rfl (Nat.le_of_ble_eq_true rfl) rfl (Nat.le_of_ble_eq_true rfl) dTape_placeAt_14 rfl (by decide) H (fun v τ p6 => ?_)
    obtain ⟨r7, I8, L9, rfl, rfl, H⟩ := p6
    refine ev_callS [.int r7] [] (B' := (0, 0)) (B'' := (0, 0)) hok mmTape_isDigit mk_Tape_84 rfl (Nat.le_of_ble_eq_true rfl) rfl (Nat.le_of_ble_eq_true rfl) dTape_placeAt_17 rfl (by decide) H (fun v τ p10 => ?_)
    obtain ⟨r11, I12, L13, rfl, rfl, H⟩ := p10
    refine ev_if_ne 25 dTape_placeAt_20 (by decide) (fun c14 => ?_) (fun c14 => ?_)
    · have H := H.1 c14
      refine ev_aload_n dTape_placeAt_25 rfl ?_
      refine ev_iload_n dTape_placeAt_26 rfl ?_
      refine ev_iconst (1) dTape_placeAt_27 (by decide) ?_
      refine ev_iadd dTape_placeAt_28 ?_
      refine ev_callV [.int ((x1 + 1))] [] (B' := (0, 0)) (B'' := (0, 0)) hok mmTape_byteAt mk_Tape_71 (ci := 8) rfl rfl (woTape hw) rfl (Nat.le_of_ble_eq_true rfl) rfl (Nat.le_of_ble_eq_true rfl) dTape_placeAt_29 rfl (by decide) H (fun v τ p15 => ?_)
      obtain ⟨r16, I17, L18, rfl, rfl, H⟩ := p15
      refine ev_bipush (48) dTape_placeAt_32 (by decide) ?_
      refine ev_isub dTape_placeAt_34 ?_
      refine ev_istore_n dTape_placeAt_35 (by decide) ?_
      refine ev_iload_n dTape_placeAt_36 rfl ?_
      refine ev_iconst (2) dTape_placeAt_37 (by decide) ?_
      refine ev_iadd dTape_placeAt_38 ?_
      refine ev_istore_n dTape_placeAt_39 (by decide) ?_
      refine ev_aload_n dTape_placeAt_40 rfl ?_
      refine ev_iload_n dTape_placeAt_41 rfl ?_
      refine ev_callV [.int ((x1 + 2))] [] (B' := (0, 0)) (B'' := (0, 0)) hok mmTape_byteAt mk_Tape_71 (ci := 8) rfl rfl (woTape hw) rfl (Nat.le_of_ble_eq_true rfl) rfl (Nat.le_of_ble_eq_true rfl) dTape_placeAt_42 rfl (by decide) H (fun v τ p19 => ?_)
      obtain ⟨r20, I21, L22, rfl, rfl, H⟩ := p19
      refine ev_callS [.int r20] [] (B' := (0, 0)) (B'' := (0, 0)) hok mmTape_isDigit mk_Tape_84 rfl (Nat.le_of_ble_eq_true rfl) rfl (Nat.le_of_ble_eq_true rfl) dTape_placeAt_45 rfl (by decide) H (fun v τ p23 => ?_)
      obtain ⟨r24, I25, L26, rfl, rfl, H⟩ := p23
      refine ev_if_eq 68 dTape_placeAt_48 (by decide) (fun c27 => ?_) (fun c27 => ?_)
      · have H := H.1 c27
        exact ev_sub [(0, .ref o), (1, .int x1), (2, .int ((r16 - 48))), (3, .int ((x1 + 2)))] rfl (sTape_placeAt_68 o n sh Rf I25 L26 post x1 (r16 - 48) (x1 + 2) hok hw H)
      · have H := H.2 c27
        refine ev_iload_n dTape_placeAt_51 rfl ?_
        refine ev_bipush (10) dTape_placeAt_52 (by decide) ?_
        refine ev_imul dTape_placeAt_54 ?_
        refine ev_aload_n dTape_placeAt_55 rfl ?_
        refine ev_iload_n dTape_placeAt_56 rfl ?_
        refine ev_callV [.int ((x1 + 2))] [.int (((r16 - 48) * 10))] (B' := (0, 0)) (B'' := (0, 0)) hok mmTape_byteAt mk_Tape_71 (ci := 8) rfl rfl (woTape hw) rfl (Nat.le_of_ble_eq_true rfl) rfl (Nat.le_of_ble_eq_true rfl) dTape_placeAt_57 rfl (by decide) H (fun v τ p28 => ?_)
        obtain ⟨r29, I30, L31, rfl, rfl, H⟩ := p28
        refine ev_iadd dTape_placeAt_60 ?_
        refine ev_bipush (48) dTape_placeAt_61 (by decide) ?_
        refine ev_isub dTape_placeAt_63 ?_
        refine ev_istore_n dTape_placeAt_64 (by decide) ?_
        refine ev_iinc dTape_placeAt_65 rfl (by decide) ?_
        exact ev_sub [(0, .ref o), (1, .int x1), (2, .int (((((r16 - 48) * 10) + r29) - 48))), (3, .int (((x1 + 2) + Int32.ofInt 1)))] rfl (sTape_placeAt_68 o n sh Rf I30 L31 post x1 ((((r16 - 48) * 10) + r29) - 48) ((x1 + 2) + Int32.ofInt 1) hok hw H)
    · have H := H.2 c14
      refine ev_iconst (-1) dTape_placeAt_23 (by decide) ?_
      exact ev_iret rfl dTape_placeAt_24 H
def fTape_takeNumber_35 (D : va_G) (cA : FieldType → ClassId) (b : Nat) (E : State → Prop) (o : Nat) (n : Nat) (sh : Nat → qC) (Rf : Nat → Nat → Option Nat) (I : Nat → Nat → Int32) (L : Nat → Nat → Int64) (post : Option Value → qS → Prop) (x1 : Int32) (x2 : Int32) (x3 : Int32) : Prop :=
  Ev (qGG D cA b E) mTape_refuse 0 (0, 0) 0 (lv_args 0 [.ref o, .int 4]) [] (n, sh, Rf, I, L) (fun v τ => ∃ (I3 : Nat → Nat → Int32) (L4 : Nat → Nat → Int64), v = none ∧ τ = (n, sh, Rf, I3, L4) ∧ post (some (.int ((-1)))) (n, sh, Rf, I3, L4))
set_option maxHeartbeats 4000000 in
set_option maxRecDepth 20000 in
theorem sTape_takeNumber_35 {D : va_G} {cA : FieldType → ClassId} {b : Nat} {E : State → Prop} (o : Nat) (n : Nat) (sh : Nat → qC) (Rf : Nat → Nat → Option Nat) (I : Nat → Nat → Int32) (L : Nat → Nat → Int64) (post : Option Value → qS → Prop) (x1 : Int32) (x2 : Int32) (x3 : Int32) (hok : q_ok (qGG D cA b E)) (hw : WfTape (qGG D cA b E) n sh Rf o) (H : fTape_takeNumber_35 D cA b E o n sh Rf I L post x1 x2 x3) : Ev (qGG D cA b E) mTape_takeNumber 1 (0, 0) 35 [(0, .ref o), (1, .int x1), (2, .int x2), (3, .int x3)] [] (n, sh, Rf, I, L) post := by
  unfold fTape_takeNumber_35 at H
  refine ev_aload_n dTape_takeNumber_35 rfl ?_
  refine ev_iconst (4) dTape_takeNumber_36 (by decide) ?_
  refine ev_callV [.int 4] [] (B' := (0, 0)) (B'' := (0, 0)) hok mmTape_refuse mk_Tape_102 (ci := 8) rfl rfl (woTape hw) rfl (Nat.le_of_ble_eq_true rfl) rfl (Nat.le_of_ble_eq_true rfl) dTape_takeNumber_37 rfl (by decide) H (fun v τ p1 => ?_)
  obtain ⟨I3, L4, rfl, rfl, H⟩ := p1
  refine ev_goto 49 dTape_takeNumber_40 (by decide) ?_
  refine ev_iconst (-1) dTape_takeNumber_49 (by decide) ?_
  exact ev_iret rfl dTape_takeNumber_50 H
def fTape_takeNumber_0 (D : va_G) (cA : FieldType → ClassId) (b : Nat) (E : State → Prop) (o : Nat) (n : Nat) (sh : Nat → qC) (Rf : Nat → Nat → Option Nat) (I : Nat → Nat → Int32) (L : Nat → Nat → Int64) (post : Option Value → qS → Prop) (x1 : Int32) (x2 : Int32) : Prop :=
  vp_in (I o 10) 1601 ∧ Ev (qGG D cA b E) mTape_isNumber 0 (0, 0) 0 (lv_args 0 [.ref o]) [] (n, sh, Rf, I, L) (fun v τ => ∃ (r3 : Int32) (I4 : Nat → Nat → Int32) (L5 : Nat → Nat → Int64), v = some (.int r3) ∧ τ = (n, sh, Rf, I4, L5) ∧ ((¬ r3 = 0 → (((I (o + 5) ((I o 10) : Int32).toNatClampNeg) < x1 → fTape_takeNumber_35 D cA b E o n sh Rf I4 L5 post x1 x2 (I (o + 5) ((I o 10) : Int32).toNatClampNeg)) ∧ (¬ (I (o + 5) ((I o 10) : Int32).toNatClampNeg) < x1 → (((I (o + 5) ((I o 10) : Int32).toNatClampNeg) ≤ x2 → Ev (qGG D cA b E) mTape_step 0 (0, 0) 0 (lv_args 0 [.ref o]) [] (n, sh, Rf, I4, L5) (fun v τ => ∃ (I11 : Nat → Nat → Int32) (L12 : Nat → Nat → Int64), v = none ∧ τ = (n, sh, Rf, I11, L12) ∧ post (some (.int ((I (o + 5) ((I o 10) : Int32).toNatClampNeg)))) (n, sh, Rf, I11, L12))) ∧ (¬ (I (o + 5) ((I o 10) : Int32).toNatClampNeg) ≤ x2 → fTape_takeNumber_35 D cA b E o n sh Rf I4 L5 post x1 x2 (I (o + 5) ((I o 10) : Int32).toNatClampNeg)))))) ∧ (r3 = 0 → Ev (qGG D cA b E) mTape_refuse 0 (0, 0) 0 (lv_args 0 [.ref o, .int 2]) [] (n, sh, Rf, I4, L5) (fun v τ => ∃ (I15 : Nat → Nat → Int32) (L16 : Nat → Nat → Int64), v = none ∧ τ = (n, sh, Rf, I15, L16) ∧ post (some (.int ((-1)))) (n, sh, Rf, I15, L16)))))
set_option maxHeartbeats 4000000 in
set_option maxRecDepth 20000 in
theorem sTape_takeNumber_0 {D : va_G} {cA : FieldType → ClassId} {b : Nat} {E : State → Prop} (o : Nat) (n : Nat) (sh : Nat → qC) (Rf : Nat → Nat → Option Nat) (I : Nat → Nat → Int32) (L : Nat → Nat → Int64) (post : Option Value → qS → Prop) (x1 : Int32) (x2 : Int32) (hok : q_ok (qGG D cA b E)) (hw : WfTape (qGG D cA b E) n sh Rf o) (H : fTape_takeNumber_0 D cA b E o n sh Rf I L post x1 x2) : Ev (qGG D cA b E) mTape_takeNumber 1 (0, 0) 0 [(0, .ref o), (1, .int x1), (2, .int x2)] [] (n, sh, Rf, I, L) post := by
  unfold fTape_takeNumber_0 at H
  refine ev_aload_n dTape_takeNumber_0 rfl ?_
  refine ev_getR hok fk_Tape_25 (woTape hw) (fun _ _ _ => rfl) (wrTape_4 hw) dTape_takeNumber_1 ?_
  refine ev_aload_n dTape_takeNumber_4 rfl ?_
  refine ev_getI hok fk_Tape_45 (woTape hw) (fun _ _ _ => rfl) dTape_takeNumber_5 ?_
  obtain ⟨h1, H⟩ := H
  refine ev_iald hok (waTape_4 hw) h1 dTape_takeNumber_8 ?_
  refine ev_istore_n dTape_takeNumber_9 (by decide) ?_
  refine ev_aload_n dTape_takeNumber_10 rfl ?_
  refine ev_callV [] [] (B' := (0, 0)) (B'' := (0, 0)) hok mmTape_isNumber mk_Tape_113 (ci := 8) rfl rfl (woTape hw) rfl (Nat.le_of_ble_eq_true rfl) rfl (Nat.le_of_ble_eq_true rfl) dTape_takeNumber_11 rfl (by decide) H (fun v τ p2 => ?_)
  obtain ⟨r3, I4, L5, rfl, rfl, H⟩ := p2
  refine ev_if_ne 25 dTape_takeNumber_14 (by decide) (fun c6 => ?_) (fun c6 => ?_)
  · have H := H.1 c6
    refine ev_iload_n dTape_takeNumber_25 rfl ?_
    refine ev_iload_n dTape_takeNumber_26 rfl ?_
    refine ev_icmp_lt 35 dTape_takeNumber_27 (by decide) (fun c7 => ?_) (fun c7 => ?_)
    · have H := H.1 c7
      exact ev_sub [(0, .ref o), (1, .int x1), (2, .int x2), (3, .int ((I (o + 5) ((I o 10) : Int32).toNatClampNeg)))] rfl (sTape_takeNumber_35 o n sh Rf I4 L5 post x1 x2 (I (o + 5) ((I o 10) : Int32).toNatClampNeg) hok hw H)
    · have H := H.2 c7
      refine ev_iload_n dTape_takeNumber_30 rfl ?_
      refine ev_iload_n dTape_takeNumber_31 rfl ?_
      refine ev_icmp_le 43 dTape_takeNumber_32 (by decide) (fun c8 => ?_) (fun c8 => ?_)
      · have H := H.1 c8
        refine ev_aload_n dTape_takeNumber_43 rfl ?_
        refine ev_callV [] [] (B' := (0, 0)) (B'' := (0, 0)) hok mmTape_step mk_Tape_99 (ci := 8) rfl rfl (woTape hw) rfl (Nat.le_of_ble_eq_true rfl) rfl (Nat.le_of_ble_eq_true rfl) dTape_takeNumber_44 rfl (by decide) H (fun v τ p9 => ?_)
        obtain ⟨I11, L12, rfl, rfl, H⟩ := p9
        refine ev_iload_n dTape_takeNumber_47 rfl ?_
        exact ev_iret rfl dTape_takeNumber_48 H
      · have H := H.2 c8
        exact ev_sub [(0, .ref o), (1, .int x1), (2, .int x2), (3, .int ((I (o + 5) ((I o 10) : Int32).toNatClampNeg)))] rfl (sTape_takeNumber_35 o n sh Rf I4 L5 post x1 x2 (I (o + 5) ((I o 10) : Int32).toNatClampNeg) hok hw H)
  · have H := H.2 c6
    refine ev_aload_n dTape_takeNumber_17 rfl ?_
    refine ev_iconst (2) dTape_takeNumber_18 (by decide) ?_
    refine ev_callV [.int 2] [] (B' := (0, 0)) (B'' := (0, 0)) hok mmTape_refuse mk_Tape_102 (ci := 8) rfl rfl (woTape hw) rfl (Nat.le_of_ble_eq_true rfl) rfl (Nat.le_of_ble_eq_true rfl) dTape_takeNumber_19 rfl (by decide) H (fun v τ p13 => ?_)
    obtain ⟨I15, L16, rfl, rfl, H⟩ := p13
    refine ev_goto 49 dTape_takeNumber_22 (by decide) ?_
    refine ev_iconst (-1) dTape_takeNumber_49 (by decide) ?_
    exact ev_iret rfl dTape_takeNumber_50 H
def fTape_takePlaceUnlike_30 (D : va_G) (cA : FieldType → ClassId) (b : Nat) (E : State → Prop) (o : Nat) (n : Nat) (sh : Nat → qC) (Rf : Nat → Nat → Option Nat) (I : Nat → Nat → Int32) (L : Nat → Nat → Int64) (post : Option Value → qS → Prop) (x1 : Int32) (x2 : Int32) : Prop :=
  Ev (qGG D cA b E) mTape_refuse 0 (0, 0) 0 (lv_args 0 [.ref o, .int 2]) [] (n, sh, Rf, I, L) (fun v τ => ∃ (I3 : Nat → Nat → Int32) (L4 : Nat → Nat → Int64), v = none ∧ τ = (n, sh, Rf, I3, L4) ∧ post (some (.int ((-1)))) (n, sh, Rf, I3, L4))
set_option maxHeartbeats 4000000 in
set_option maxRecDepth 20000 in
theorem sTape_takePlaceUnlike_30 {D : va_G} {cA : FieldType → ClassId} {b : Nat} {E : State → Prop} (o : Nat) (n : Nat) (sh : Nat → qC) (Rf : Nat → Nat → Option Nat) (I : Nat → Nat → Int32) (L : Nat → Nat → Int64) (post : Option Value → qS → Prop) (x1 : Int32) (x2 : Int32) (hok : q_ok (qGG D cA b E)) (hw : WfTape (qGG D cA b E) n sh Rf o) (H : fTape_takePlaceUnlike_30 D cA b E o n sh Rf I L post x1 x2) : Ev (qGG D cA b E) mTape_takePlaceUnlike 1 (0, 0) 30 [(0, .ref o), (1, .int x1), (2, .int x2)] [] (n, sh, Rf, I, L) post := by
  unfold fTape_takePlaceUnlike_30 at H
  refine ev_aload_n dTape_takePlaceUnlike_30 rfl ?_
  refine ev_iconst (2) dTape_takePlaceUnlike_31 (by decide) ?_
  refine ev_callV [.int 2] [] (B' := (0, 0)) (B'' := (0, 0)) hok mmTape_refuse mk_Tape_102 (ci := 8) rfl rfl (woTape hw) rfl (Nat.le_of_ble_eq_true rfl) rfl (Nat.le_of_ble_eq_true rfl) dTape_takePlaceUnlike_32 rfl (by decide) H (fun v τ p1 => ?_)
  obtain ⟨I3, L4, rfl, rfl, H⟩ := p1
  refine ev_goto 57 dTape_takePlaceUnlike_35 (by decide) ?_
  refine ev_iconst (-1) dTape_takePlaceUnlike_57 (by decide) ?_
  exact ev_iret rfl dTape_takePlaceUnlike_58 H
def fTape_takePlaceUnlike_0 (D : va_G) (cA : FieldType → ClassId) (b : Nat) (E : State → Prop) (o : Nat) (n : Nat) (sh : Nat → qC) (Rf : Nat → Nat → Option Nat) (I : Nat → Nat → Int32) (L : Nat → Nat → Int64) (post : Option Value → qS → Prop) (x1 : Int32) : Prop :=
  vp_in (I o 10) 1601 ∧ ((¬ (I o 7) = 0 → fTape_takePlaceUnlike_30 D cA b E o n sh Rf I L post x1 (I (o + 5) ((I o 10) : Int32).toNatClampNeg)) ∧ ((I o 7) = 0 → vp_in (I o 10) 1601 ∧ (((I (o + 3) ((I o 10) : Int32).toNatClampNeg) = 3 → ((¬ (I (o + 5) ((I o 10) : Int32).toNatClampNeg) = x1 → Ev (qGG D cA b E) mTape_step 0 (0, 0) 0 (lv_args 0 [.ref o]) [] (n, sh, Rf, I, L) (fun v τ => ∃ (I8 : Nat → Nat → Int32) (L9 : Nat → Nat → Int64), v = none ∧ τ = (n, sh, Rf, I8, L9) ∧ post (some (.int ((I (o + 5) ((I o 10) : Int32).toNatClampNeg)))) (n, sh, Rf, I8, L9))) ∧ ((I (o + 5) ((I o 10) : Int32).toNatClampNeg) = x1 → Ev (qGG D cA b E) mTape_refuse 0 (0, 0) 0 (lv_args 0 [.ref o, .int 4]) [] (n, sh, Rf, I, L) (fun v τ => ∃ (I12 : Nat → Nat → Int32) (L13 : Nat → Nat → Int64), v = none ∧ τ = (n, sh, Rf, I12, L13) ∧ post (some (.int ((-1)))) (n, sh, Rf, I12, L13))))) ∧ (¬ (I (o + 3) ((I o 10) : Int32).toNatClampNeg) = 3 → fTape_takePlaceUnlike_30 D cA b E o n sh Rf I L post x1 (I (o + 5) ((I o 10) : Int32).toNatClampNeg)))))
set_option maxHeartbeats 4000000 in
set_option maxRecDepth 20000 in
theorem sTape_takePlaceUnlike_0 {D : va_G} {cA : FieldType → ClassId} {b : Nat} {E : State → Prop} (o : Nat) (n : Nat) (sh : Nat → qC) (Rf : Nat → Nat → Option Nat) (I : Nat → Nat → Int32) (L : Nat → Nat → Int64) (post : Option Value → qS → Prop) (x1 : Int32) (hok : q_ok (qGG D cA b E)) (hw : WfTape (qGG D cA b E) n sh Rf o) (H : fTape_takePlaceUnlike_0 D cA b E o n sh Rf I L post x1) : Ev (qGG D cA b E) mTape_takePlaceUnlike 1 (0, 0) 0 [(0, .ref o), (1, .int x1)] [] (n, sh, Rf, I, L) post := by
  unfold fTape_takePlaceUnlike_0 at H
  refine ev_aload_n dTape_takePlaceUnlike_0 rfl ?_
  refine ev_getR hok fk_Tape_25 (woTape hw) (fun _ _ _ => rfl) (wrTape_4 hw) dTape_takePlaceUnlike_1 ?_
  refine ev_aload_n dTape_takePlaceUnlike_4 rfl ?_
  refine ev_getI hok fk_Tape_45 (woTape hw) (fun _ _ _ => rfl) dTape_takePlaceUnlike_5 ?_
  obtain ⟨h1, H⟩ := H
  refine ev_iald hok (waTape_4 hw) h1 dTape_takePlaceUnlike_8 ?_
  refine ev_istore_n dTape_takePlaceUnlike_9 (by decide) ?_
  refine ev_aload_n dTape_takePlaceUnlike_10 rfl ?_
  refine ev_getI hok fk_Tape_35 (woTape hw) (fun _ _ _ => rfl) dTape_takePlaceUnlike_11 ?_
  refine ev_if_ne 30 dTape_takePlaceUnlike_14 (by decide) (fun c2 => ?_) (fun c2 => ?_)
  · have H := H.1 c2
    exact ev_sub [(0, .ref o), (1, .int x1), (2, .int ((I (o + 5) ((I o 10) : Int32).toNatClampNeg)))] rfl (sTape_takePlaceUnlike_30 o n sh Rf I L post x1 (I (o + 5) ((I o 10) : Int32).toNatClampNeg) hok hw H)
  · have H := H.2 c2
    refine ev_aload_n dTape_takePlaceUnlike_17 rfl ?_
    refine ev_getR hok fk_Tape_19 (woTape hw) (fun _ _ _ => rfl) (wrTape_2 hw) dTape_takePlaceUnlike_18 ?_
    refine ev_aload_n dTape_takePlaceUnlike_21 rfl ?_
    refine ev_getI hok fk_Tape_45 (woTape hw) (fun _ _ _ => rfl) dTape_takePlaceUnlike_22 ?_
    obtain ⟨h3, H⟩ := H
    refine ev_iald hok (waTape_2 hw) h3 dTape_takePlaceUnlike_25 ?_
    refine ev_iconst (3) dTape_takePlaceUnlike_26 (by decide) ?_
    refine ev_icmp_eq 38 dTape_takePlaceUnlike_27 (by decide) (fun c4 => ?_) (fun c4 => ?_)
    · have H := H.1 c4
      refine ev_iload_n dTape_takePlaceUnlike_38 rfl ?_
      refine ev_iload_n dTape_takePlaceUnlike_39 rfl ?_
      refine ev_icmp_ne 51 dTape_takePlaceUnlike_40 (by decide) (fun c5 => ?_) (fun c5 => ?_)
      · have H := H.1 c5
        refine ev_aload_n dTape_takePlaceUnlike_51 rfl ?_
        refine ev_callV [] [] (B' := (0, 0)) (B'' := (0, 0)) hok mmTape_step mk_Tape_99 (ci := 8) rfl rfl (woTape hw) rfl (Nat.le_of_ble_eq_true rfl) rfl (Nat.le_of_ble_eq_true rfl) dTape_takePlaceUnlike_52 rfl (by decide) H (fun v τ p6 => ?_)
        obtain ⟨I8, L9, rfl, rfl, H⟩ := p6
        refine ev_iload_n dTape_takePlaceUnlike_55 rfl ?_
        exact ev_iret rfl dTape_takePlaceUnlike_56 H
      · have H := H.2 c5
        refine ev_aload_n dTape_takePlaceUnlike_43 rfl ?_
        refine ev_iconst (4) dTape_takePlaceUnlike_44 (by decide) ?_
        refine ev_callV [.int 4] [] (B' := (0, 0)) (B'' := (0, 0)) hok mmTape_refuse mk_Tape_102 (ci := 8) rfl rfl (woTape hw) rfl (Nat.le_of_ble_eq_true rfl) rfl (Nat.le_of_ble_eq_true rfl) dTape_takePlaceUnlike_45 rfl (by decide) H (fun v τ p10 => ?_)
        obtain ⟨I12, L13, rfl, rfl, H⟩ := p10
        refine ev_goto 57 dTape_takePlaceUnlike_48 (by decide) ?_
        refine ev_iconst (-1) dTape_takePlaceUnlike_57 (by decide) ?_
        exact ev_iret rfl dTape_takePlaceUnlike_58 H
    · have H := H.2 c4
      exact ev_sub [(0, .ref o), (1, .int x1), (2, .int ((I (o + 5) ((I o 10) : Int32).toNatClampNeg)))] rfl (sTape_takePlaceUnlike_30 o n sh Rf I L post x1 (I (o + 5) ((I o 10) : Int32).toNatClampNeg) hok hw H)
def fWay_affordable_0 (D : va_G) (cA : FieldType → ClassId) (b : Nat) (E : State → Prop) (n : Nat) (sh : Nat → qC) (Rf : Nat → Nat → Option Nat) (I : Nat → Nat → Int32) (L : Nat → Nat → Int64) (post : Option Value → qS → Prop) (x0 : Nat) (x1 : Int32) (x2 : Int32) (ux0_1 : Nat) : Prop :=
  ((0 < x2 → vp_in x1 6 ∧ (¬ ((x2 : Int32).toInt64 : Int64) = 0) ∧ ∀ y4 : Int64, ((if ((L (x0 + 61) (x1 : Int32).toNatClampNeg) / (x2 : Int32).toInt64) < ((I ux0_1 3) : Int32).toInt64 then ((L (x0 + 61) (x1 : Int32).toNatClampNeg) / (x2 : Int32).toInt64) else ((I ux0_1 3) : Int32).toInt64) : Int64) = y4 → post (some (.int ((y4 : Int64).toInt32))) (n, sh, Rf, I, L)) ∧ (¬ 0 < x2 → post (some (.int ((I ux0_1 3)))) (n, sh, Rf, I, L)))
set_option maxHeartbeats 4000000 in
set_option maxRecDepth 20000 in
theorem sWay_affordable_0 {D : va_G} {cA : FieldType → ClassId} {b : Nat} {E : State → Prop} (n : Nat) (sh : Nat → qC) (Rf : Nat → Nat → Option Nat) (I : Nat → Nat → Int32) (L : Nat → Nat → Int64) (post : Option Value → qS → Prop) (x0 : Nat) (x1 : Int32) (x2 : Int32) (ux0_1 : Nat) (hok : q_ok (qGG D cA b E)) (hw0 : WfRun (qGG D cA b E) n sh Rf x0) (hux0_1 : Rf x0 1 = some ux0_1) (hwux0_1 : WfTrade (qGG D cA b E) n sh Rf ux0_1) (H : fWay_affordable_0 D cA b E n sh Rf I L post x0 x1 x2 ux0_1) : Ev (qGG D cA b E) mWay_affordable 1 (0, 0) 0 [(0, .ref x0), (1, .int x1), (2, .int x2)] [] (n, sh, Rf, I, L) post := by
  unfold fWay_affordable_0 at H
  refine ev_aload_n dWay_affordable_0 rfl ?_
  refine ev_getR hok fk_Way_70 (woRun hw0) (fun _ _ _ => rfl) hux0_1 dWay_affordable_1 ?_
  refine ev_getI hok fk_Way_74 (woTrade hwux0_1) (fun _ _ _ => rfl) dWay_affordable_4 ?_
  refine ev_istore_n dWay_affordable_7 (by decide) ?_
  refine ev_iload_n dWay_affordable_8 rfl ?_
  refine ev_if_gt 16 dWay_affordable_9 (by decide) (fun c1 => ?_) (fun c1 => ?_)
  · have H := H.1 c1
    refine ev_iload_n dWay_affordable_16 rfl ?_
    refine ev_i2l dWay_affordable_17 ?_
    refine ev_aload_n dWay_affordable_18 rfl ?_
    refine ev_getR hok fk_Way_79 (woRun hw0) (fun _ _ _ => rfl) (wrRun_10 hw0) dWay_affordable_19 ?_
    refine ev_iload_n dWay_affordable_22 rfl ?_
    obtain ⟨h2, H⟩ := H
    refine ev_lald hok (waRun_10 hw0) h2 dWay_affordable_23 ?_
    refine ev_iload_n dWay_affordable_24 rfl ?_
    refine ev_i2l dWay_affordable_25 ?_
    obtain ⟨h3, H⟩ := H
    refine ev_ldiv dWay_affordable_26 h3 ?_
    refine ev_mminl (by decide) (q_t6 78 (by decide +kernel) rfl) (q_t5 177 (by decide +kernel) rfl) (q_t1 19 (by decide +kernel) rfl) (q_t5 178 rfl rfl) (Nat.le_of_ble_eq_true rfl) dWay_affordable_27 ?_
    generalize ey4 : ((if ((L (x0 + 61) (x1 : Int32).toNatClampNeg) / (x2 : Int32).toInt64) < ((I ux0_1 3) : Int32).toInt64 then ((L (x0 + 61) (x1 : Int32).toNatClampNeg) / (x2 : Int32).toInt64) else ((I ux0_1 3) : Int32).toInt64) : Int64) = y4
    have H := H y4 ey4
    refine ev_l2i dWay_affordable_30 ?_
    exact ev_iret rfl dWay_affordable_31 H
  · have H := H.2 c1
    refine ev_iload_n dWay_affordable_12 rfl ?_
    refine ev_goto 31 dWay_affordable_13 (by decide) ?_
    exact ev_iret rfl dWay_affordable_31 H
def fLand_readDistrict_27 (D : va_G) (cA : FieldType → ClassId) (b : Nat) (E : State → Prop) (o : Nat) (n : Nat) (sh : Nat → qC) (Rf : Nat → Nat → Option Nat) (I : Nat → Nat → Int32) (L : Nat → Nat → Int64) (post : Option Value → qS → Prop) (x1 : Nat) : Prop :=
  Ev (qGG D cA b E) mTape_takeNumber 1 (0, 0) 0 (lv_args 0 [.ref x1, .int 0, .int 4]) [] (n, sh, Rf, I, L) (fun v τ => ∃ (r2 : Int32) (I3 : Nat → Nat → Int32) (L4 : Nat → Nat → Int64), v = some (.int r2) ∧ τ = (n, sh, Rf, I3, L4) ∧ ((r2 = (-1) → post none (n, sh, Rf, I3, L4)) ∧ (¬ r2 = (-1) → vp_in (((I3 o 2) * 5) + r2) 15 ∧ ∀ I6 : Nat → Nat → Int32, q_u I3 (o + 8) ((((I3 o 2) * 5) + r2) : Int32).toNatClampNeg 1 = I6 → post none (n, sh, Rf, I6, L4))))
set_option maxHeartbeats 4000000 in
set_option maxRecDepth 20000 in
theorem sLand_readDistrict_27 {D : va_G} {cA : FieldType → ClassId} {b : Nat} {E : State → Prop} (o : Nat) (n : Nat) (sh : Nat → qC) (Rf : Nat → Nat → Option Nat) (I : Nat → Nat → Int32) (L : Nat → Nat → Int64) (post : Option Value → qS → Prop) (x1 : Nat) (hok : q_ok (qGG D cA b E)) (hw : WfLand (qGG D cA b E) n sh Rf o) (hw1 : WfTape (qGG D cA b E) n sh Rf x1) (H : fLand_readDistrict_27 D cA b E o n sh Rf I L post x1) : Ev (qGG D cA b E) mLand_readDistrict 2 (0, 0) 27 [(0, .ref o), (1, .ref x1)] [] (n, sh, Rf, I, L) post := by
  unfold fLand_readDistrict_27 at H
  refine ev_aload_n dLand_readDistrict_27 rfl ?_
  refine ev_iconst (0) dLand_readDistrict_28 (by decide) ?_
  refine ev_iconst (4) dLand_readDistrict_29 (by decide) ?_
  refine ev_callV [.int 0, .int 4] [] (B' := (0, 0)) (B'' := (0, 0)) hok mmTape_takeNumber mk_Land_127 (ci := 8) rfl rfl (woTape hw1) rfl (Nat.le_of_ble_eq_true rfl) rfl (Nat.le_of_ble_eq_true rfl) dLand_readDistrict_30 rfl (by decide) H (fun v τ p1 => ?_)
  obtain ⟨r2, I3, L4, rfl, rfl, H⟩ := p1
  refine ev_istore_n dLand_readDistrict_33 (by decide) ?_
  refine ev_iload_n dLand_readDistrict_34 rfl ?_
  refine ev_iconst (-1) dLand_readDistrict_35 (by decide) ?_
  refine ev_icmp_eq 53 dLand_readDistrict_36 (by decide) (fun c5 => ?_) (fun c5 => ?_)
  · have H := H.1 c5
    exact ev_vret rfl dLand_readDistrict_53 H
  · have H := H.2 c5
    refine ev_aload_n dLand_readDistrict_39 rfl ?_
    refine ev_getR hok fk_Land_50 (woLand hw) (fun _ _ _ => rfl) (wrLand_12 hw) dLand_readDistrict_40 ?_
    refine ev_aload_n dLand_readDistrict_43 rfl ?_
    refine ev_getI hok fk_Land_18 (woLand hw) (fun _ _ _ => rfl) dLand_readDistrict_44 ?_
    refine ev_iconst (5) dLand_readDistrict_47 (by decide) ?_
    refine ev_imul dLand_readDistrict_48 ?_
    refine ev_iload_n dLand_readDistrict_49 rfl ?_
    refine ev_iadd dLand_readDistrict_50 ?_
    refine ev_iconst (1) dLand_readDistrict_51 (by decide) ?_
    obtain ⟨h7, H⟩ := H
    refine ev_iast hok (waLand_12 hw) h7 dLand_readDistrict_52 ?_
    generalize eI6 : q_u I3 (o + 8) ((((I3 o 2) * 5) + r2) : Int32).toNatClampNeg 1 = I6
    have H := H I6 eI6
    exact ev_vret rfl dLand_readDistrict_53 H
def fLand_readDistrict_0 (D : va_G) (cA : FieldType → ClassId) (b : Nat) (E : State → Prop) (o : Nat) (n : Nat) (sh : Nat → qC) (Rf : Nat → Nat → Option Nat) (I : Nat → Nat → Int32) (L : Nat → Nat → Int64) (post : Option Value → qS → Prop) (x1 : Nat) : Prop :=
  Ev (qGG D cA b E) mTape_isNumber 0 (0, 0) 0 (lv_args 0 [.ref x1]) [] (n, sh, Rf, I, L) (fun v τ => ∃ (r2 : Int32) (I3 : Nat → Nat → Int32) (L4 : Nat → Nat → Int64), v = some (.int r2) ∧ τ = (n, sh, Rf, I3, L4) ∧ ((r2 = 0 → fLand_readDistrict_27 D cA b E o n sh Rf I3 L4 post x1) ∧ (¬ r2 = 0 → Ev (qGG D cA b E) mTape_value 0 (0, 0) 0 (lv_args 0 [.ref x1]) [] (n, sh, Rf, I3, L4) (fun v τ => ∃ (r7 : Int32) (I8 : Nat → Nat → Int32) (L9 : Nat → Nat → Int64), v = some (.int r7) ∧ τ = (n, sh, Rf, I8, L9) ∧ Ev (qGG D cA b E) mLand_serves 0 (0, 0) 0 (lv_args 0 [.ref o, .int ((I3 o 2)), .int r7]) [] (n, sh, Rf, I8, L9) (fun v τ => ∃ (r11 : Int32) (I12 : Nat → Nat → Int32) (L13 : Nat → Nat → Int64), v = some (.int r11) ∧ τ = (n, sh, Rf, I12, L13) ∧ ((r11 = 0 → fLand_readDistrict_27 D cA b E o n sh Rf I12 L13 post x1) ∧ (¬ r11 = 0 → Ev (qGG D cA b E) mTape_refuse 0 (0, 0) 0 (lv_args 0 [.ref x1, .int 4]) [] (n, sh, Rf, I12, L13) (fun v τ => ∃ (I17 : Nat → Nat → Int32) (L18 : Nat → Nat → Int64), v = none ∧ τ = (n, sh, Rf, I17, L18) ∧ fLand_readDistrict_27 D cA b E o n sh Rf I17 L18 post x1))))))))
set_option maxHeartbeats 4000000 in
set_option maxRecDepth 20000 in
theorem sLand_readDistrict_0 {D : va_G} {cA : FieldType → ClassId} {b : Nat} {E : State → Prop} (o : Nat) (n : Nat) (sh : Nat → qC) (Rf : Nat → Nat → Option Nat) (I : Nat → Nat → Int32) (L : Nat → Nat → Int64) (post : Option Value → qS → Prop) (x1 : Nat) (hok : q_ok (qGG D cA b E)) (hw : WfLand (qGG D cA b E) n sh Rf o) (hw1 : WfTape (qGG D cA b E) n sh Rf x1) (H : fLand_readDistrict_0 D cA b E o n sh Rf I L post x1) : Ev (qGG D cA b E) mLand_readDistrict 2 (0, 0) 0 [(0, .ref o), (1, .ref x1)] [] (n, sh, Rf, I, L) post := by
  unfold fLand_readDistrict_0 at H
  refine ev_aload_n dLand_readDistrict_0 rfl ?_
  refine ev_callV [] [] (B' := (0, 0)) (B'' := (0, 0)) hok mmTape_isNumber mk_Land_161 (ci := 8) rfl rfl (woTape hw1) rfl (Nat.le_of_ble_eq_true rfl) rfl (Nat.le_of_ble_eq_true rfl) dLand_readDistrict_1 rfl (by decide) H (fun v τ p1 => ?_)
  obtain ⟨r2, I3, L4, rfl, rfl, H⟩ := p1
  refine ev_if_eq 27 dLand_readDistrict_4 (by decide) (fun c5 => ?_) (fun c5 => ?_)
  · have H := H.1 c5
    exact ev_sub [(0, .ref o), (1, .ref x1)] rfl (sLand_readDistrict_27 o n sh Rf I3 L4 post x1 hok hw hw1 H)
  · have H := H.2 c5
    refine ev_aload_n dLand_readDistrict_7 rfl ?_
    refine ev_aload_n dLand_readDistrict_8 rfl ?_
    refine ev_getI hok fk_Land_18 (woLand hw) (fun _ _ _ => rfl) dLand_readDistrict_9 ?_
    refine ev_aload_n dLand_readDistrict_12 rfl ?_
    refine ev_callV [] [.int ((I3 o 2)), .ref o] (B' := (0, 0)) (B'' := (0, 0)) hok mmTape_value mk_Land_164 (ci := 8) rfl rfl (woTape hw1) rfl (Nat.le_of_ble_eq_true rfl) rfl (Nat.le_of_ble_eq_true rfl) dLand_readDistrict_13 rfl (by decide) H (fun v τ p6 => ?_)
    obtain ⟨r7, I8, L9, rfl, rfl, H⟩ := p6
    refine ev_callV [.int ((I3 o 2)), .int r7] [] (B' := (0, 0)) (B'' := (0, 0)) hok mmLand_serves mk_Land_168 (ci := 1) rfl rfl (woLand hw) rfl (Nat.le_of_ble_eq_true rfl) rfl (Nat.le_of_ble_eq_true rfl) dLand_readDistrict_16 rfl (by decide) H (fun v τ p10 => ?_)
    obtain ⟨r11, I12, L13, rfl, rfl, H⟩ := p10
    refine ev_if_eq 27 dLand_readDistrict_19 (by decide) (fun c14 => ?_) (fun c14 => ?_)
    · have H := H.1 c14
      exact ev_sub [(0, .ref o), (1, .ref x1)] rfl (sLand_readDistrict_27 o n sh Rf I12 L13 post x1 hok hw hw1 H)
    · have H := H.2 c14
      refine ev_aload_n dLand_readDistrict_22 rfl ?_
      refine ev_iconst (4) dLand_readDistrict_23 (by decide) ?_
      refine ev_callV [.int 4] [] (B' := (0, 0)) (B'' := (0, 0)) hok mmTape_refuse mk_Land_116 (ci := 8) rfl rfl (woTape hw1) rfl (Nat.le_of_ble_eq_true rfl) rfl (Nat.le_of_ble_eq_true rfl) dLand_readDistrict_24 rfl (by decide) H (fun v τ p15 => ?_)
      obtain ⟨I17, L18, rfl, rfl, H⟩ := p15
      exact ev_sub [(0, .ref o), (1, .ref x1)] rfl (sLand_readDistrict_27 o n sh Rf I17 L18 post x1 hok hw hw1 H)
def fLand_readSite_0 (D : va_G) (cA : FieldType → ClassId) (b : Nat) (E : State → Prop) (o : Nat) (n : Nat) (sh : Nat → qC) (Rf : Nat → Nat → Option Nat) (I : Nat → Nat → Int32) (L : Nat → Nat → Int64) (post : Option Value → qS → Prop) (x1 : Nat) : Prop :=
  Ev (qGG D cA b E) mTape_isWord 0 (0, 0) 0 (lv_args 0 [.ref x1, .int 2]) [] (n, sh, Rf, I, L) (fun v τ => ∃ (r2 : Int32) (I3 : Nat → Nat → Int32) (L4 : Nat → Nat → Int64), v = some (.int r2) ∧ τ = (n, sh, Rf, I3, L4) ∧ Ev (qGG D cA b E) mTape_passIf 1 (0, 0) 0 (lv_args 0 [.ref x1, .int r2]) [] (n, sh, Rf, I3, L4) (fun v τ => ∃ (I7 : Nat → Nat → Int32) (L8 : Nat → Nat → Int64), v = none ∧ τ = (n, sh, Rf, I7, L8) ∧ Ev (qGG D cA b E) mTape_takePlaceUnlike 1 (0, 0) 0 (lv_args 0 [.ref x1, .int ((-1))]) [] (n, sh, Rf, I7, L8) (fun v τ => ∃ (r10 : Int32) (I11 : Nat → Nat → Int32) (L12 : Nat → Nat → Int64), v = some (.int r10) ∧ τ = (n, sh, Rf, I11, L12) ∧ post (some (.int r10)) (n, sh, Rf, I11, L12))))
set_option maxHeartbeats 4000000 in
set_option maxRecDepth 20000 in
theorem sLand_readSite_0 {D : va_G} {cA : FieldType → ClassId} {b : Nat} {E : State → Prop} (o : Nat) (n : Nat) (sh : Nat → qC) (Rf : Nat → Nat → Option Nat) (I : Nat → Nat → Int32) (L : Nat → Nat → Int64) (post : Option Value → qS → Prop) (x1 : Nat) (hok : q_ok (qGG D cA b E)) (hw : WfLand (qGG D cA b E) n sh Rf o) (hw1 : WfTape (qGG D cA b E) n sh Rf x1) (H : fLand_readSite_0 D cA b E o n sh Rf I L post x1) : Ev (qGG D cA b E) mLand_readSite 2 (0, 0) 0 [(0, .ref o), (1, .ref x1)] [] (n, sh, Rf, I, L) post := by
  unfold fLand_readSite_0 at H
  refine ev_aload_n dLand_readSite_0 rfl ?_
  refine ev_aload_n dLand_readSite_1 rfl ?_
  refine ev_iconst (2) dLand_readSite_2 (by decide) ?_
  refine ev_callV [.int 2] [.ref x1] (B' := (0, 0)) (B'' := (0, 0)) hok mmTape_isWord mk_Land_100 (ci := 8) rfl rfl (woTape hw1) rfl (Nat.le_of_ble_eq_true rfl) rfl (Nat.le_of_ble_eq_true rfl) dLand_readSite_3 rfl (by decide) H (fun v τ p1 => ?_)
  obtain ⟨r2, I3, L4, rfl, rfl, H⟩ := p1
  refine ev_callV [.int r2] [] (B' := (0, 0)) (B'' := (0, 0)) hok mmTape_passIf mk_Land_150 (ci := 8) rfl rfl (woTape hw1) rfl (Nat.le_of_ble_eq_true rfl) rfl (Nat.le_of_ble_eq_true rfl) dLand_readSite_6 rfl (by decide) H (fun v τ p5 => ?_)
  obtain ⟨I7, L8, rfl, rfl, H⟩ := p5
  refine ev_aload_n dLand_readSite_9 rfl ?_
  refine ev_iconst (-1) dLand_readSite_10 (by decide) ?_
  refine ev_callV [.int ((-1))] [] (B' := (0, 0)) (B'' := (0, 0)) hok mmTape_takePlaceUnlike mk_Land_123 (ci := 8) rfl rfl (woTape hw1) rfl (Nat.le_of_ble_eq_true rfl) rfl (Nat.le_of_ble_eq_true rfl) dLand_readSite_11 rfl (by decide) H (fun v τ p9 => ?_)
  obtain ⟨r10, I11, L12, rfl, rfl, H⟩ := p9
  exact ev_iret rfl dLand_readSite_14 H
