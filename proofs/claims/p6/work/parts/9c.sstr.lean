/-! String.indexOf; the end of Tape.cutToken. By program (strs2.py). -/
section SX
variable {D : va_G} {cA : FieldType → ClassId} {b : Nat} {kS vS : Nat → Nat} {xb xl : Nat} {xs : Nat → Int32} {n : Nat} {sh : Nat → qC} {Rf : Nat → Nat → Option Nat} {I : Nat → Nat → Int32} {L : Nat → Nat → Int64} {post : Option Value → qS → Prop} {i : Nat}
theorem t_ixChar_7 (hi : i < 2) {c f z : Int32} (hp : ∀ r, post (some (.int r)) (n, sh, Rf, I, L)) : ∀ (m k : Nat), k + m = qLen.getD i 0 → Ev (qGG D cA b (qEx b kS vS xb xl xs)) mStringLatin1_indexOfChar_4cfef 0 (0, 0) 7 [(0, .ref (vS i)), (1, .int c), (2, .int f), (3, .int (nI (qLen.getD i 0))), (4, .int z), (5, .int (nI k))] [] (n, sh, Rf, I, L) post := by
  have h31 := qLen_lt i hi
  intro m
  induction m with
  | zero =>
    intro k hk
    refine ev_iload dStringLatin1_indexOfChar_4cfef_7 rfl ?_
    refine ev_iload_n dStringLatin1_indexOfChar_4cfef_9 rfl ?_
    refine ev_icmp_ge 31 dStringLatin1_indexOfChar_4cfef_10 (by decide) (fun _ => ?_) (fun h => absurd (nI_le (by omega) (by omega)) h)
    refine ev_iconst (-1) dStringLatin1_indexOfChar_4cfef_31 (by decide) ?_
    exact ev_iret rfl dStringLatin1_indexOfChar_4cfef_32 (hp _)
  | succ m ih =>
    intro k hk
    refine ev_iload dStringLatin1_indexOfChar_4cfef_7 rfl ?_
    refine ev_iload_n dStringLatin1_indexOfChar_4cfef_9 rfl ?_
    refine ev_icmp_ge 31 dStringLatin1_indexOfChar_4cfef_10 (by decide) (fun h => absurd h (nI_ge (by omega) h31)) (fun _ => ?_)
    refine ev_aload_n dStringLatin1_indexOfChar_4cfef_13 rfl ?_
    refine ev_iload dStringLatin1_indexOfChar_4cfef_14 rfl ?_
    refine ev_tbE (.int ((qByt.getD i []).getD k 0)) (fun s h => (qEx_str hi s h).2.2.2) (vp_in_nI (by omega) h31) (by rw [nI_clamp (by omega)]) dStringLatin1_indexOfChar_4cfef_16 ?_
    refine ev_iload dStringLatin1_indexOfChar_4cfef_17 rfl ?_
    refine ev_icmp_ne 25 dStringLatin1_indexOfChar_4cfef_19 (by decide) (fun _ => ?_) (fun _ => ?_)
    · refine ev_iinc dStringLatin1_indexOfChar_4cfef_25 rfl (by decide) ?_
      refine ev_goto 7 dStringLatin1_indexOfChar_4cfef_28 (by decide) ?_
      rw [nI_inc]
      refine ev_sub [(0, .ref (vS i)), (1, .int c), (2, .int f), (3, .int (nI (qLen.getD i 0))), (4, .int z), (5, .int (nI (k + 1)))] rfl ?_
      exact ih (k + 1) (by omega)
    · refine ev_iload dStringLatin1_indexOfChar_4cfef_22 rfl ?_
      exact ev_iret rfl dStringLatin1_indexOfChar_4cfef_24 (hp _)
theorem t_ixChar (hi : i < 2) {c : Int32} (hp : ∀ r, post (some (.int r)) (n, sh, Rf, I, L)) : Ev (qGG D cA b (qEx b kS vS xb xl xs)) mStringLatin1_indexOfChar_4cfef 0 (0, 0) 0 (lv_args 0 [.ref (vS i), .int c, .int 0, .int (nI (qLen.getD i 0))]) [] (n, sh, Rf, I, L) post := by
  refine ev_iload_n dStringLatin1_indexOfChar_4cfef_0 rfl ?_
  refine ev_i2b dStringLatin1_indexOfChar_4cfef_1 ?_
  refine ev_istore dStringLatin1_indexOfChar_4cfef_2 (by decide) ?_
  refine ev_iload_n dStringLatin1_indexOfChar_4cfef_4 rfl ?_
  refine ev_istore dStringLatin1_indexOfChar_4cfef_5 (by decide) ?_
  refine ev_sub [(0, .ref (vS i)), (1, .int c), (2, .int 0), (3, .int (nI (qLen.getD i 0))), (4, .int c.toInt8.toInt32), (5, .int (nI 0))] rfl ?_
  exact t_ixChar_7 hi hp (qLen.getD i 0) 0 (by omega)
theorem t_canEnc {c : Int32} (hp : ∀ r, post (some (.int r)) (n, sh, Rf, I, L)) : Ev (qGG D cA b (qEx b kS vS xb xl xs)) mStringLatin1_canEncode_9a6ad 0 (0, 0) 0 (lv_args 0 [.int c]) [] (n, sh, Rf, I, L) post := by
  refine ev_iload_n dStringLatin1_canEncode_9a6ad_0 rfl ?_
  refine ev_if_lt 15 dStringLatin1_canEncode_9a6ad_1 (by decide) (fun _ => ?_) (fun _ => ?_)
  · refine ev_iconst (0) dStringLatin1_canEncode_9a6ad_15 (by decide) ?_
    exact ev_zret rfl rfl dStringLatin1_canEncode_9a6ad_16 (hp _)
  · refine ev_iload_n dStringLatin1_canEncode_9a6ad_4 rfl ?_
    refine ev_sipush (255) dStringLatin1_canEncode_9a6ad_5 (by decide) ?_
    refine ev_icmp_gt 15 dStringLatin1_canEncode_9a6ad_8 (by decide) (fun _ => ?_) (fun _ => ?_)
    · refine ev_iconst (0) dStringLatin1_canEncode_9a6ad_15 (by decide) ?_
      exact ev_zret rfl rfl dStringLatin1_canEncode_9a6ad_16 (hp _)
    · refine ev_iconst (1) dStringLatin1_canEncode_9a6ad_11 (by decide) ?_
      refine ev_goto 16 dStringLatin1_canEncode_9a6ad_12 (by decide) ?_
      exact ev_zret rfl rfl dStringLatin1_canEncode_9a6ad_16 (hp _)
theorem t_ixLatin (hi : i < 2) {c : Int32} (hp : ∀ r, post (some (.int r)) (n, sh, Rf, I, L)) : Ev (qGG D cA b (qEx b kS vS xb xl xs)) mStringLatin1_indexOf_4cfef 1 (0, 0) 0 (lv_args 0 [.ref (vS i), .int c, .int 0, .int (nI (qLen.getD i 0))]) [] (n, sh, Rf, I, L) post := by
  refine ev_iload_n dStringLatin1_indexOf_4cfef_0 rfl ?_
  refine ev_callS (B' := (0, 0)) (B'' := (0, 0)) (post' := fun v τ => (∃ r : Int32, v = some (.int r)) ∧ τ = (n, sh, Rf, I, L)) [.int c] [] qEx_ok mmStringLatin1_canEncode_9a6ad mk_StringLatin1_88 rfl (Nat.le_of_ble_eq_true rfl) rfl (Nat.le_of_ble_eq_true rfl) dStringLatin1_indexOf_4cfef_1 rfl (by decide) (t_canEnc (fun r => ⟨⟨r, rfl⟩, rfl⟩)) ?_
  rintro v τ ⟨⟨r, rfl⟩, rfl⟩
  refine ev_if_ne 9 dStringLatin1_indexOf_4cfef_4 (by decide) (fun _ => ?_) (fun _ => ?_)
  · refine ev_iload_n dStringLatin1_indexOf_4cfef_9 rfl ?_
    refine ev_iconst (0) dStringLatin1_indexOf_4cfef_10 (by decide) ?_
    refine ev_mmax (by decide) (q_t4 40 (by decide +kernel) rfl) (q_t4 41 (by decide +kernel) rfl) (q_t1 19 (by decide +kernel) rfl) (q_t4 42 rfl rfl) (Nat.le_of_ble_eq_true rfl) dStringLatin1_indexOf_4cfef_11 ?_
    rw [ite_self]
    refine ev_istore_n dStringLatin1_indexOf_4cfef_14 (by decide) ?_
    refine ev_iload_n dStringLatin1_indexOf_4cfef_15 rfl ?_
    refine ev_aload_n dStringLatin1_indexOf_4cfef_16 rfl ?_
    refine ev_tlenE (nI (qLen.getD i 0)) (fun s h => (qEx_str hi s h).2.2.2) rfl dStringLatin1_indexOf_4cfef_17 ?_
    refine ev_mmin (by decide) (q_t4 43 (by decide +kernel) rfl) (q_t4 44 (by decide +kernel) rfl) (q_t1 19 (by decide +kernel) rfl) (q_t4 45 rfl rfl) (Nat.le_of_ble_eq_true rfl) dStringLatin1_indexOf_4cfef_18 ?_
    rw [ite_self]
    refine ev_istore_n dStringLatin1_indexOf_4cfef_21 (by decide) ?_
    refine ev_iload_n dStringLatin1_indexOf_4cfef_22 rfl ?_
    refine ev_iload_n dStringLatin1_indexOf_4cfef_23 rfl ?_
    refine ev_icmp_lt 29 dStringLatin1_indexOf_4cfef_24 (by decide) (fun _ => ?_) (fun _ => ?_)
    · refine ev_aload_n dStringLatin1_indexOf_4cfef_29 rfl ?_
      refine ev_iload_n dStringLatin1_indexOf_4cfef_30 rfl ?_
      refine ev_iload_n dStringLatin1_indexOf_4cfef_31 rfl ?_
      refine ev_iload_n dStringLatin1_indexOf_4cfef_32 rfl ?_
      refine ev_callS (B' := (0, 0)) (B'' := (0, 0)) (post' := fun v τ => (∃ r : Int32, v = some (.int r)) ∧ τ = (n, sh, Rf, I, L)) [.ref (vS i), .int c, .int 0, .int (nI (qLen.getD i 0))] [] qEx_ok mmStringLatin1_indexOfChar_4cfef mk_StringLatin1_95 rfl (Nat.le_of_ble_eq_true rfl) rfl (Nat.le_of_ble_eq_true rfl) dStringLatin1_indexOf_4cfef_33 rfl (by decide) (t_ixChar hi (fun r => ⟨⟨r, rfl⟩, rfl⟩)) ?_
      rintro v τ ⟨⟨r, rfl⟩, rfl⟩
      exact ev_iret rfl dStringLatin1_indexOf_4cfef_36 (hp _)
    · refine ev_iconst (-1) dStringLatin1_indexOf_4cfef_27 (by decide) ?_
      exact ev_iret rfl dStringLatin1_indexOf_4cfef_28 (hp _)
  · refine ev_iconst (-1) dStringLatin1_indexOf_4cfef_7 (by decide) ?_
    exact ev_iret rfl dStringLatin1_indexOf_4cfef_8 (hp _)
theorem t_ix2 (hi : i < 2) {c : Int32} (hp : ∀ r, post (some (.int r)) (n, sh, Rf, I, L)) : Ev (qGG D cA b (qEx b kS vS xb xl xs)) mString_indexOf_7cf53 2 (0, 0) 0 (lv_args 0 [.ref (kS i), .int c, .int 0]) [] (n, sh, Rf, I, L) post := by
  refine ev_aload_n dString_indexOf_7cf53_0 rfl ?_
  refine ev_callE (d' := 0) (B' := (0, 0)) (B'' := (0, 0)) (post' := fun v τ => v = some (.int 1) ∧ τ = (n, sh, Rf, I, L)) [] [] qEx_ok mmString_isLatin1_aae02 mk_String_492 (fun s h => (qEx_str hi s h).1) rfl (Nat.le_of_ble_eq_true rfl) rfl (Nat.le_of_ble_eq_true rfl) dString_indexOf_7cf53_1 rfl (by decide) (t_latin hi ⟨rfl, rfl⟩) ?_
  rintro v τ ⟨rfl, rfl⟩
  refine ev_if_eq 23 dString_indexOf_7cf53_4 (by decide) (fun c => absurd c (by decide)) (fun _ => ?_)
  refine ev_aload_n dString_indexOf_7cf53_7 rfl ?_
  refine ev_getfE (fun s h => (qEx_str hi s h).2.2.1) (q_t10 236 (by decide +kernel) rfl) dString_indexOf_7cf53_8 ?_
  refine ev_iload_n dString_indexOf_7cf53_11 rfl ?_
  refine ev_iload_n dString_indexOf_7cf53_12 rfl ?_
  refine ev_aload_n dString_indexOf_7cf53_13 rfl ?_
  refine ev_callE (B' := (0, 0)) (B'' := (0, 0)) (post' := fun v τ => v = some (.int (nI (qLen.getD i 0))) ∧ τ = (n, sh, Rf, I, L)) [] [.int 0, .int c, .ref (vS i)] qEx_ok mmString_length_8abf5 mk_String_505 (fun s h => (qEx_str hi s h).1) rfl (Nat.le_of_ble_eq_true rfl) rfl (Nat.le_of_ble_eq_true rfl) dString_indexOf_7cf53_14 rfl (by decide) (t_length hi ⟨rfl, rfl⟩) ?_
  rintro v τ ⟨rfl, rfl⟩
  refine ev_callS (B' := (0, 0)) (B'' := (0, 0)) (post' := fun v τ => (∃ r : Int32, v = some (.int r)) ∧ τ = (n, sh, Rf, I, L)) [.ref (vS i), .int c, .int 0, .int (nI (qLen.getD i 0))] [] qEx_ok mmStringLatin1_indexOf_4cfef mk_String_637 rfl (Nat.le_of_ble_eq_true rfl) rfl (Nat.le_of_ble_eq_true rfl) dString_indexOf_7cf53_17 rfl (by decide) (t_ixLatin hi (fun r => ⟨⟨r, rfl⟩, rfl⟩)) ?_
  rintro v τ ⟨⟨r, rfl⟩, rfl⟩
  refine ev_goto 36 dString_indexOf_7cf53_20 (by decide) ?_
  exact ev_iret rfl dString_indexOf_7cf53_36 (hp _)
theorem t_indexOf (hi : i < 2) {c : Int32} (hp : ∀ r, post (some (.int r)) (n, sh, Rf, I, L)) : Ev (qGG D cA b (qEx b kS vS xb xl xs)) mString_indexOf_0f7a4 3 (0, 0) 0 (lv_args 0 [.ref (kS i), .int c]) [] (n, sh, Rf, I, L) post := by
  refine ev_aload_n dString_indexOf_0f7a4_0 rfl ?_
  refine ev_iload_n dString_indexOf_0f7a4_1 rfl ?_
  refine ev_iconst (0) dString_indexOf_0f7a4_2 (by decide) ?_
  refine ev_callE (B' := (0, 0)) (B'' := (0, 0)) (post' := fun v τ => (∃ r : Int32, v = some (.int r)) ∧ τ = (n, sh, Rf, I, L)) [.int c, .int 0] [] qEx_ok mmString_indexOf_7cf53 mk_String_633 (fun s h => (qEx_str hi s h).1) rfl (Nat.le_of_ble_eq_true rfl) rfl (Nat.le_of_ble_eq_true rfl) dString_indexOf_0f7a4_3 rfl (by decide) (t_ix2 hi (fun r => ⟨⟨r, rfl⟩, rfl⟩)) ?_
  rintro v τ ⟨⟨r, rfl⟩, rfl⟩
  exact ev_iret rfl dString_indexOf_0f7a4_6 (hp _)
set_option maxHeartbeats 4000000 in
/-- Tape.cutToken from its signs on -/
theorem y_cut128 {R : qRg} {o : Nat} {x1 x2 x3 : Int32} (hw : WfTape (qGG D cA b (qEx b kS vS xb xl xs)) n sh Rf o) (ra : RATape R o) (hR : RI R I) (h1 : 0 ≤ x1.toInt ∧ x1.toInt ≤ 1600) (h3 : 0 ≤ x3.toInt ∧ x3.toInt ≤ 1600) (hx : TokX I o x1.toNatClampNeg) (hp : ∀ (r : Int32) (I' : Nat → Nat → Int32), RI R I' → (∀ c, c ≠ o + 3 → c ≠ o + 5 → I' c = I c) → (0 ≤ r.toInt ∧ r.toInt ≤ 1603) → TokOK I' o → post (some (.int r)) (n, sh, Rf, I', L)) : Ev (qGG D cA b (qEx b kS vS xb xl xs)) mTape_cutToken 8 (0, 0) 128 [(0, .ref o), (1, .int x1), (2, .int x2), (3, .int x3)] [] (n, sh, Rf, I, L) post := by
  refine ev_aload_n dTape_cutToken_128 rfl ?_
  refine ev_getR qEx_ok fk_Tape_19 (woTape hw) (fun _ _ _ => rfl) (wrTape_2 hw) dTape_cutToken_129 ?_
  refine ev_iload_n dTape_cutToken_132 rfl ?_
  refine ev_ldcS (a := kS 1) (fun s h => h.2.2.1.2) dTape_cutToken_133 ?_
  refine ev_aload_n dTape_cutToken_135 rfl ?_
  refine ev_iload_n dTape_cutToken_136 rfl ?_
  refine ev_callV (d' := 0) (ci := 8) (B' := (0, 0)) (B'' := (0, 0)) (post' := fun v τ => (∃ r : Int32, v = some (.int r)) ∧ τ = (n, sh, Rf, I, L)) [.int x3] [.ref (kS 1), .int x1, .ref (o + 3)] qEx_ok mmTape_byteAt mk_Tape_71 rfl rfl (woTape hw) rfl (Nat.le_of_ble_eq_true rfl) rfl (Nat.le_of_ble_eq_true rfl) dTape_cutToken_137 rfl (by decide) (y_Tape_byteAt qEx_ok hw ra hR (fun r _ => ⟨⟨r, rfl⟩, rfl⟩)) ?_
  rintro v τ ⟨⟨r, rfl⟩, rfl⟩
  refine ev_i2c dTape_cutToken_140 ?_
  refine ev_callE (B' := (0, 0)) (B'' := (0, 0)) (post' := fun v τ => (∃ r : Int32, v = some (.int r)) ∧ τ = (n, sh, Rf, I, L)) [.int (r.toUInt32 % 65536).toInt32] [.int x1, .ref (o + 3)] qEx_ok mmString_indexOf_0f7a4 mk_Tape_92 (fun s h => (qEx_str (i := 1) (by decide) s h).1) rfl (Nat.le_of_ble_eq_true rfl) rfl (Nat.le_of_ble_eq_true rfl) dTape_cutToken_141 rfl (by decide) (t_indexOf (i := 1) (by decide) (fun r => ⟨⟨r, rfl⟩, rfl⟩)) ?_
  rintro v τ ⟨⟨q, rfl⟩, rfl⟩
  have go : ∀ k : Int32, (k = 4 ∨ k = 5) → Ev (qGG D cA b (qEx b kS vS xb xl xs)) mTape_cutToken 8 (0, 0) 152 [(0, .ref o), (1, .int x1), (2, .int x2), (3, .int x3)] [.int k, .int x1, .ref (o + 3)] (n, sh, Rf, I, L) post := by
    intro k hk
    refine ev_iast qEx_ok (waTape_2 hw) (tIn (by omega) (by omega)) dTape_cutToken_152 ?_
    generalize e1 : q_u I (o + 3) x1.toNatClampNeg k = I1
    have hR1 : RI R I1 := hR.up ra 3 (by decide) (Or.inl rfl) e1 (i_lo _) (i_hi _)
    have hx1 : TokX I1 o x1.toNatClampNeg := hx.put3 e1 rfl
    refine ev_aload_n dTape_cutToken_153 rfl ?_
    refine ev_getR qEx_ok fk_Tape_25 (woTape hw) (fun _ _ _ => rfl) (wrTape_4 hw) dTape_cutToken_154 ?_
    refine ev_iload_n dTape_cutToken_157 rfl ?_
    refine ev_aload_n dTape_cutToken_158 rfl ?_
    refine ev_iload_n dTape_cutToken_159 rfl ?_
    refine ev_callV (d' := 0) (ci := 8) (B' := (0, 0)) (B'' := (0, 0)) (post' := fun v τ => (∃ r : Int32, v = some (.int r)) ∧ τ = (n, sh, Rf, I1, L)) [.int x3] [.int x1, .ref (o + 5)] qEx_ok mmTape_byteAt mk_Tape_71 rfl rfl (woTape hw) rfl (Nat.le_of_ble_eq_true rfl) rfl (Nat.le_of_ble_eq_true rfl) dTape_cutToken_160 rfl (by decide) (y_Tape_byteAt qEx_ok hw ra hR1 (fun r _ => ⟨⟨r, rfl⟩, rfl⟩)) ?_
    rintro v τ ⟨⟨v, rfl⟩, rfl⟩
    refine ev_iast qEx_ok (waTape_4 hw) (tIn (by omega) (by omega)) dTape_cutToken_163 ?_
    generalize e2 : q_u I1 (o + 5) x1.toNatClampNeg v = I2
    have hR2 : RI R I2 := hR1.up ra 5 (by decide) (Or.inl rfl) e2 (i_lo _) (i_hi _)
    have hx2 : TokX I2 o x1.toNatClampNeg := hx1.put5 e2 rfl
    refine ev_iload_n dTape_cutToken_164 rfl ?_
    refine ev_iconst (1) dTape_cutToken_165 (by decide) ?_
    refine ev_iadd dTape_cutToken_166 ?_
    have l1 : (1 : Int32).toInt = 1 := rfl
    have a1 : (x3 + 1).toInt = x3.toInt + (1 : Int32).toInt := tAdd (by omega) (by omega)
    refine ev_iret rfl dTape_cutToken_167 (hp _ I2 hR2 (fun c c3 c5 => ?_) (by omega) (hx2.all ?_))
    · rw [← e2, q_u_ne c5, ← e1, q_u_ne c3]
    · have k3 : I2 (o + 3) x1.toNatClampNeg = k := by rw [← e2, q_u_ne (by omega), ← e1, q_u_at]
      have l4 : (4 : Int32).toInt = 4 := rfl
      have l5 : (5 : Int32).toInt = 5 := rfl
      unfold TokAt
      rw [k3]
      rcases hk with rfl | rfl
      · exact ⟨fun h => by omega, fun h => by omega⟩
      · exact ⟨fun h => by omega, fun h => by omega⟩
  refine ev_if_ge 151 dTape_cutToken_144 (by decide) (fun _ => ?_) (fun _ => ?_)
  · refine ev_iconst (4) dTape_cutToken_151 (by decide) ?_
    exact go 4 (Or.inl rfl)
  · refine ev_iconst (5) dTape_cutToken_147 (by decide) ?_
    refine ev_goto 152 dTape_cutToken_148 (by decide) ?_
    exact go 5 (Or.inr rfl)
end SX
