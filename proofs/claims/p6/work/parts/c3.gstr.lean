/-! String.indexOf by what it finds; Tape.cutToken's end with its function. By program (strs3.py). -/
/-- the signs -/
def sgZ (c : Int) : Bool := c == 59 || c == 40 || c == 41 || c == 60 || c == 62 || c == 61 || c == 43 || c == 45 || c == 42 || c == 47
theorem sgZ_tab : ∀ m : Fin 256, (sgZ (m.val : Int) = true ↔ ∃ j, j < 10 ∧ (qByt.getD 1 []).getD j 0 = (Int32.ofNat m.val).toInt8.toInt32) := by decide +kernel
theorem sgZ_hi {c : Int} (h : 255 < c) : sgZ c = false := by
  unfold sgZ
  simp only [Bool.or_eq_false_iff, beq_eq_false_iff_ne, ne_eq]
  omega
theorem sgZ_in {c : Int32} (h0 : 0 ≤ c.toInt) (h1 : c.toInt ≤ 255) : (sgZ c.toInt = true ↔ ∃ j, j < 10 ∧ (qByt.getD 1 []).getD j 0 = c.toInt8.toInt32) := by
  have hm : c.toInt.toNat < 256 := by omega
  have e2 : ((c.toInt.toNat : Nat) : Int) = c.toInt := by omega
  have e : c = Int32.ofNat c.toInt.toNat := by
    apply Int32.toInt_inj.mp
    show c.toInt = (nI c.toInt.toNat).toInt
    rw [nI_toInt (n := c.toInt.toNat) (by omega)]
    exact e2.symm
  have q := sgZ_tab ⟨c.toInt.toNat, hm⟩
  dsimp only at q
  rw [e2, ← e] at q
  exact q
/-- what indexOf answers -/
def SgR (c : Int32) (r : Int32) : Prop := (r.toInt < 0 ↔ sgZ c.toInt = false)
section SY
variable {D : va_G} {cA : FieldType → ClassId} {b : Nat} {kS vS : Nat → Nat} {xb xl : Nat} {xs : Nat → Int32} {n : Nat} {sh : Nat → qC} {Rf : Nat → Nat → Option Nat} {I : Nat → Nat → Int32} {L : Nat → Nat → Int64} {post : Option Value → qS → Prop} {i : Nat}
theorem t_ixChar_7g (hi : i < 2) {c f z : Int32} (hn : (∀ j, j < qLen.getD i 0 → (qByt.getD i []).getD j 0 ≠ z) → post (some (.int (-1))) (n, sh, Rf, I, L)) (hy : ∀ k, k < qLen.getD i 0 → (qByt.getD i []).getD k 0 = z → post (some (.int (nI k))) (n, sh, Rf, I, L)) : ∀ (m k : Nat), k + m = qLen.getD i 0 → (∀ j, j < k → (qByt.getD i []).getD j 0 ≠ z) → Ev (qGG D cA b (qEx b kS vS xb xl xs)) mStringLatin1_indexOfChar_4cfef 0 (0, 0) 7 [(0, .ref (vS i)), (1, .int c), (2, .int f), (3, .int (nI (qLen.getD i 0))), (4, .int z), (5, .int (nI k))] [] (n, sh, Rf, I, L) post := by
  have h31 := qLen_lt i hi
  intro m
  induction m with
  | zero =>
    intro k hk hb
    refine ev_iload dStringLatin1_indexOfChar_4cfef_7 rfl ?_
    refine ev_iload_n dStringLatin1_indexOfChar_4cfef_9 rfl ?_
    refine ev_icmp_ge 31 dStringLatin1_indexOfChar_4cfef_10 (by decide) (fun _ => ?_) (fun h => absurd (nI_le (by omega) (by omega)) h)
    refine ev_iconst (-1) dStringLatin1_indexOfChar_4cfef_31 (by decide) ?_
    exact ev_iret rfl dStringLatin1_indexOfChar_4cfef_32 (hn (fun j hj => hb j (by omega)))
  | succ m ih =>
    intro k hk hb
    refine ev_iload dStringLatin1_indexOfChar_4cfef_7 rfl ?_
    refine ev_iload_n dStringLatin1_indexOfChar_4cfef_9 rfl ?_
    refine ev_icmp_ge 31 dStringLatin1_indexOfChar_4cfef_10 (by decide) (fun h => absurd h (nI_ge (by omega) h31)) (fun _ => ?_)
    refine ev_aload_n dStringLatin1_indexOfChar_4cfef_13 rfl ?_
    refine ev_iload dStringLatin1_indexOfChar_4cfef_14 rfl ?_
    refine ev_tbE (.int ((qByt.getD i []).getD k 0)) (fun s h => (qEx_str hi s h).2.2.2) (vp_in_nI (by omega) h31) (by rw [nI_clamp (by omega)]) dStringLatin1_indexOfChar_4cfef_16 ?_
    refine ev_iload dStringLatin1_indexOfChar_4cfef_17 rfl ?_
    refine ev_icmp_ne 25 dStringLatin1_indexOfChar_4cfef_19 (by decide) (fun hc => ?_) (fun hc => ?_)
    · refine ev_iinc dStringLatin1_indexOfChar_4cfef_25 rfl (by decide) ?_
      refine ev_goto 7 dStringLatin1_indexOfChar_4cfef_28 (by decide) ?_
      rw [nI_inc]
      refine ev_sub [(0, .ref (vS i)), (1, .int c), (2, .int f), (3, .int (nI (qLen.getD i 0))), (4, .int z), (5, .int (nI (k + 1)))] rfl ?_
      exact ih (k + 1) (by omega) (fun j hj => if e : j = k then (by rw [e]; exact hc) else hb j (by omega))
    · refine ev_iload dStringLatin1_indexOfChar_4cfef_22 rfl ?_
      exact ev_iret rfl dStringLatin1_indexOfChar_4cfef_24 (hy k (by omega) hc)
theorem t_ixCharg (hi : i < 2) {c : Int32} (hn : (∀ j, j < qLen.getD i 0 → (qByt.getD i []).getD j 0 ≠ c.toInt8.toInt32) → post (some (.int (-1))) (n, sh, Rf, I, L)) (hy : ∀ k, k < qLen.getD i 0 → (qByt.getD i []).getD k 0 = c.toInt8.toInt32 → post (some (.int (nI k))) (n, sh, Rf, I, L)) : Ev (qGG D cA b (qEx b kS vS xb xl xs)) mStringLatin1_indexOfChar_4cfef 0 (0, 0) 0 (lv_args 0 [.ref (vS i), .int c, .int 0, .int (nI (qLen.getD i 0))]) [] (n, sh, Rf, I, L) post := by
  refine ev_iload_n dStringLatin1_indexOfChar_4cfef_0 rfl ?_
  refine ev_i2b dStringLatin1_indexOfChar_4cfef_1 ?_
  refine ev_istore dStringLatin1_indexOfChar_4cfef_2 (by decide) ?_
  refine ev_iload_n dStringLatin1_indexOfChar_4cfef_4 rfl ?_
  refine ev_istore dStringLatin1_indexOfChar_4cfef_5 (by decide) ?_
  refine ev_sub [(0, .ref (vS i)), (1, .int c), (2, .int 0), (3, .int (nI (qLen.getD i 0))), (4, .int c.toInt8.toInt32), (5, .int (nI 0))] rfl ?_
  exact t_ixChar_7g hi hn hy (qLen.getD i 0) 0 (by omega) (fun j hj => absurd hj (by omega))
theorem t_canEncg {c : Int32} (h0 : 0 ≤ c.toInt) (hn : 255 < c.toInt → post (some (.int 0)) (n, sh, Rf, I, L)) (hy : c.toInt ≤ 255 → post (some (.int 1)) (n, sh, Rf, I, L)) : Ev (qGG D cA b (qEx b kS vS xb xl xs)) mStringLatin1_canEncode_9a6ad 0 (0, 0) 0 (lv_args 0 [.int c]) [] (n, sh, Rf, I, L) post := by
  refine ev_iload_n dStringLatin1_canEncode_9a6ad_0 rfl ?_
  have z0 : (0 : Int32).toInt = 0 := rfl
  have z255 : (255 : Int32).toInt = 255 := rfl
  refine ev_if_lt 15 dStringLatin1_canEncode_9a6ad_1 (by decide) (fun hc => absurd (iLt hc) (by omega)) (fun _ => ?_)
  · refine ev_iload_n dStringLatin1_canEncode_9a6ad_4 rfl ?_
    refine ev_sipush (255) dStringLatin1_canEncode_9a6ad_5 (by decide) ?_
    refine ev_icmp_gt 15 dStringLatin1_canEncode_9a6ad_8 (by decide) (fun hc => ?_) (fun hc => ?_)
    · refine ev_iconst (0) dStringLatin1_canEncode_9a6ad_15 (by decide) ?_
      exact ev_zret rfl rfl dStringLatin1_canEncode_9a6ad_16 (hn (by have := iLt hc; omega))
    · refine ev_iconst (1) dStringLatin1_canEncode_9a6ad_11 (by decide) ?_
      refine ev_goto 16 dStringLatin1_canEncode_9a6ad_12 (by decide) ?_
      exact ev_zret rfl rfl dStringLatin1_canEncode_9a6ad_16 (hy (by have := iNlt hc; omega))
theorem t_ixLating {c : Int32} (h0 : 0 ≤ c.toInt) (hp : ∀ r, SgR c r → post (some (.int r)) (n, sh, Rf, I, L)) : Ev (qGG D cA b (qEx b kS vS xb xl xs)) mStringLatin1_indexOf_4cfef 1 (0, 0) 0 (lv_args 0 [.ref (vS 1), .int c, .int 0, .int (nI (qLen.getD 1 0))]) [] (n, sh, Rf, I, L) post := by
  have hi : (1 : Nat) < 2 := by decide
  refine ev_iload_n dStringLatin1_indexOf_4cfef_0 rfl ?_
  refine ev_callS (B' := (0, 0)) (B'' := (0, 0)) (post' := fun v τ => ((v = some (.int 0) ∧ 255 < c.toInt) ∨ (v = some (.int 1) ∧ c.toInt ≤ 255)) ∧ τ = (n, sh, Rf, I, L)) [.int c] [] qEx_ok mmStringLatin1_canEncode_9a6ad mk_StringLatin1_88 rfl (Nat.le_of_ble_eq_true rfl) rfl (Nat.le_of_ble_eq_true rfl) dStringLatin1_indexOf_4cfef_1 rfl (by decide) (t_canEncg h0 (fun q => ⟨Or.inl ⟨rfl, q⟩, rfl⟩) (fun q => ⟨Or.inr ⟨rfl, q⟩, rfl⟩)) ?_
  have no : 255 < c.toInt → SgR c (-1) := fun q => ⟨fun _ => sgZ_hi q, fun _ => by decide⟩
  rintro v τ ⟨⟨rfl, hq⟩ | ⟨rfl, hq⟩, rfl⟩
  · refine ev_if_ne 9 dStringLatin1_indexOf_4cfef_4 (by decide) (fun h => absurd rfl h) (fun _ => ?_)
    refine ev_iconst (-1) dStringLatin1_indexOf_4cfef_7 (by decide) ?_
    exact ev_iret rfl dStringLatin1_indexOf_4cfef_8 (hp _ (no hq))
  refine ev_if_ne 9 dStringLatin1_indexOf_4cfef_4 (by decide) (fun _ => ?_) (fun h => absurd h (by decide))
  · refine ev_iload_n dStringLatin1_indexOf_4cfef_9 rfl ?_
    refine ev_iconst (0) dStringLatin1_indexOf_4cfef_10 (by decide) ?_
    refine ev_mmax (by decide) (q_t4 40 (by decide +kernel) rfl) (q_t4 41 (by decide +kernel) rfl) (q_t1 19 (by decide +kernel) rfl) (q_t4 42 rfl rfl) (Nat.le_of_ble_eq_true rfl) dStringLatin1_indexOf_4cfef_11 ?_
    rw [ite_self]
    refine ev_istore_n dStringLatin1_indexOf_4cfef_14 (by decide) ?_
    refine ev_iload_n dStringLatin1_indexOf_4cfef_15 rfl ?_
    refine ev_aload_n dStringLatin1_indexOf_4cfef_16 rfl ?_
    refine ev_tlenE (nI (qLen.getD 1 0)) (fun s h => (qEx_str hi s h).2.2.2) rfl dStringLatin1_indexOf_4cfef_17 ?_
    refine ev_mmin (by decide) (q_t4 43 (by decide +kernel) rfl) (q_t4 44 (by decide +kernel) rfl) (q_t1 19 (by decide +kernel) rfl) (q_t4 45 rfl rfl) (Nat.le_of_ble_eq_true rfl) dStringLatin1_indexOf_4cfef_18 ?_
    rw [ite_self]
    refine ev_istore_n dStringLatin1_indexOf_4cfef_21 (by decide) ?_
    refine ev_iload_n dStringLatin1_indexOf_4cfef_22 rfl ?_
    refine ev_iload_n dStringLatin1_indexOf_4cfef_23 rfl ?_
    refine ev_icmp_lt 29 dStringLatin1_indexOf_4cfef_24 (by decide) (fun _ => ?_) (fun hc => absurd hc (by decide))
    · refine ev_aload_n dStringLatin1_indexOf_4cfef_29 rfl ?_
      refine ev_iload_n dStringLatin1_indexOf_4cfef_30 rfl ?_
      refine ev_iload_n dStringLatin1_indexOf_4cfef_31 rfl ?_
      refine ev_iload_n dStringLatin1_indexOf_4cfef_32 rfl ?_
      refine ev_callS (B' := (0, 0)) (B'' := (0, 0)) (post' := fun v τ => (∃ r : Int32, v = some (.int r) ∧ SgR c r) ∧ τ = (n, sh, Rf, I, L)) [.ref (vS 1), .int c, .int 0, .int (nI (qLen.getD 1 0))] [] qEx_ok mmStringLatin1_indexOfChar_4cfef mk_StringLatin1_95 rfl (Nat.le_of_ble_eq_true rfl) rfl (Nat.le_of_ble_eq_true rfl) dStringLatin1_indexOf_4cfef_33 rfl (by decide) (t_ixCharg hi (fun q => ⟨⟨_, rfl, ⟨fun _ => Bool.eq_false_iff.mpr (fun z => by obtain ⟨j, h1, h2⟩ := (sgZ_in h0 hq).mp z; exact q j h1 h2), fun _ => by decide⟩⟩, rfl⟩) (fun k h1 h2 => ⟨⟨_, rfl, ⟨fun z => by have h3 : k < 10 := h1; rw [nI_toInt (by omega)] at z; omega, fun z => by rw [(sgZ_in h0 hq).mpr ⟨k, h1, h2⟩] at z; exact absurd z (by decide)⟩⟩, rfl⟩)) ?_
      rintro v τ ⟨⟨r, rfl, hr⟩, rfl⟩
      exact ev_iret rfl dStringLatin1_indexOf_4cfef_36 (hp _ hr)
theorem t_ix2g {c : Int32} (h0 : 0 ≤ c.toInt) (hp : ∀ r, SgR c r → post (some (.int r)) (n, sh, Rf, I, L)) : Ev (qGG D cA b (qEx b kS vS xb xl xs)) mString_indexOf_7cf53 2 (0, 0) 0 (lv_args 0 [.ref (kS 1), .int c, .int 0]) [] (n, sh, Rf, I, L) post := by
  have hi : (1 : Nat) < 2 := by decide
  refine ev_aload_n dString_indexOf_7cf53_0 rfl ?_
  refine ev_callE (d' := 0) (B' := (0, 0)) (B'' := (0, 0)) (post' := fun v τ => v = some (.int 1) ∧ τ = (n, sh, Rf, I, L)) [] [] qEx_ok mmString_isLatin1_aae02 mk_String_492 (fun s h => (qEx_str hi s h).1) rfl (Nat.le_of_ble_eq_true rfl) rfl (Nat.le_of_ble_eq_true rfl) dString_indexOf_7cf53_1 rfl (by decide) (t_latin hi ⟨rfl, rfl⟩) ?_
  rintro v τ ⟨rfl, rfl⟩
  refine ev_if_eq 23 dString_indexOf_7cf53_4 (by decide) (fun c => absurd c (by decide)) (fun _ => ?_)
  refine ev_aload_n dString_indexOf_7cf53_7 rfl ?_
  refine ev_getfE (fun s h => (qEx_str hi s h).2.2.1) (q_t10 236 (by decide +kernel) rfl) dString_indexOf_7cf53_8 ?_
  refine ev_iload_n dString_indexOf_7cf53_11 rfl ?_
  refine ev_iload_n dString_indexOf_7cf53_12 rfl ?_
  refine ev_aload_n dString_indexOf_7cf53_13 rfl ?_
  refine ev_callE (B' := (0, 0)) (B'' := (0, 0)) (post' := fun v τ => v = some (.int (nI (qLen.getD 1 0))) ∧ τ = (n, sh, Rf, I, L)) [] [.int 0, .int c, .ref (vS 1)] qEx_ok mmString_length_8abf5 mk_String_505 (fun s h => (qEx_str hi s h).1) rfl (Nat.le_of_ble_eq_true rfl) rfl (Nat.le_of_ble_eq_true rfl) dString_indexOf_7cf53_14 rfl (by decide) (t_length hi ⟨rfl, rfl⟩) ?_
  rintro v τ ⟨rfl, rfl⟩
  refine ev_callS (B' := (0, 0)) (B'' := (0, 0)) (post' := fun v τ => (∃ r : Int32, v = some (.int r) ∧ SgR c r) ∧ τ = (n, sh, Rf, I, L)) [.ref (vS 1), .int c, .int 0, .int (nI (qLen.getD 1 0))] [] qEx_ok mmStringLatin1_indexOf_4cfef mk_String_637 rfl (Nat.le_of_ble_eq_true rfl) rfl (Nat.le_of_ble_eq_true rfl) dString_indexOf_7cf53_17 rfl (by decide) (t_ixLating h0 (fun r q => ⟨⟨r, rfl, q⟩, rfl⟩)) ?_
  rintro v τ ⟨⟨r, rfl, hr⟩, rfl⟩
  refine ev_goto 36 dString_indexOf_7cf53_20 (by decide) ?_
  exact ev_iret rfl dString_indexOf_7cf53_36 (hp _ hr)
theorem t_indexOfg {c : Int32} (h0 : 0 ≤ c.toInt) (hp : ∀ r, SgR c r → post (some (.int r)) (n, sh, Rf, I, L)) : Ev (qGG D cA b (qEx b kS vS xb xl xs)) mString_indexOf_0f7a4 3 (0, 0) 0 (lv_args 0 [.ref (kS 1), .int c]) [] (n, sh, Rf, I, L) post := by
  have hi : (1 : Nat) < 2 := by decide
  refine ev_aload_n dString_indexOf_0f7a4_0 rfl ?_
  refine ev_iload_n dString_indexOf_0f7a4_1 rfl ?_
  refine ev_iconst (0) dString_indexOf_0f7a4_2 (by decide) ?_
  refine ev_callE (B' := (0, 0)) (B'' := (0, 0)) (post' := fun v τ => (∃ r : Int32, v = some (.int r) ∧ SgR c r) ∧ τ = (n, sh, Rf, I, L)) [.int c, .int 0] [] qEx_ok mmString_indexOf_7cf53 mk_String_633 (fun s h => (qEx_str hi s h).1) rfl (Nat.le_of_ble_eq_true rfl) rfl (Nat.le_of_ble_eq_true rfl) dString_indexOf_0f7a4_3 rfl (by decide) (t_ix2g h0 (fun r q => ⟨⟨r, rfl, q⟩, rfl⟩)) ?_
  rintro v τ ⟨⟨r, rfl, hr⟩, rfl⟩
  exact ev_iret rfl dString_indexOf_0f7a4_6 (hp _ hr)
noncomputable def gTape_cutToken_128 (o : Nat) (J : gJ) (L : gL) (x1 x2 x3 : Int) : Int × gJ × gL := gLet (gTape_byteAt_0 o J L x3) (fun c => (x3 + 1, q_u (q_u J (o + 3) (Int.toNat x1) (if sgZ (wI2C c) then 4 else 5)) (o + 5) (Int.toNat x1) c, L))
theorem i2c_pos (r : Int32) : 0 ≤ ((r.toUInt32 % 65536).toInt32).toInt := by
  have h1 : (r.toUInt32 % 65536).toNat < 65536 := by
    rw [UInt32.toNat_mod]
    exact Nat.mod_lt _ (by decide)
  have h2 : ((r.toUInt32 % 65536).toInt32).toInt = ((r.toUInt32 % 65536).toNat : Int) := by
    have e : (r.toUInt32 % 65536).toInt32 = Int32.ofNat (r.toUInt32 % 65536).toNat := by
      generalize r.toUInt32 % 65536 = u
      apply Int32.toBitVec_inj.mp
      simp
    rw [e]
    show (nI (r.toUInt32 % 65536).toNat).toInt = _
    rw [nI_toInt (n := (r.toUInt32 % 65536).toNat) (by omega)]
  omega
theorem byteAtg_same {o : Nat} {J J' : gJ} {L : gL} {x : Int} (h6 : J' o 6 = J o 6) (h1 : J' (o + 1) = J (o + 1)) : gTape_byteAt_0 o J' L x = gTape_byteAt_0 o J L x := by
  unfold gTape_byteAt_0 gLet gTape_byteAt_19
  rw [h6, h1]
set_option maxHeartbeats 4000000 in
/-- Tape.cutToken from its signs on -/
theorem y_cut128g {R : qRg} {o : Nat} {x1 x2 x3 : Int32} (hw : WfTape (qGG D cA b (qEx b kS vS xb xl xs)) n sh Rf o) (ra : RATape R o) (hR : RI R I) (h1 : 0 ≤ x1.toInt ∧ x1.toInt ≤ 1600) (h3 : 0 ≤ x3.toInt ∧ x3.toInt ≤ 1600) (hx : TokX I o x1.toNatClampNeg) (hp : ∀ (r : Int32) (I' : Nat → Nat → Int32), RI R I' → (∀ c, c ≠ o + 3 → c ≠ o + 5 → I' c = I c) → (0 ≤ r.toInt ∧ r.toInt ≤ 1603) → TokOK I' o → gTape_cutToken_128 o (tI I) L x1.toInt x2.toInt x3.toInt = (r.toInt, tI I', L) → post (some (.int r)) (n, sh, Rf, I', L)) : Ev (qGG D cA b (qEx b kS vS xb xl xs)) mTape_cutToken 8 (0, 0) 128 [(0, .ref o), (1, .int x1), (2, .int x2), (3, .int x3)] [] (n, sh, Rf, I, L) post := by
  refine ev_aload_n dTape_cutToken_128 rfl ?_
  refine ev_getR qEx_ok fk_Tape_19 (woTape hw) (fun _ _ _ => rfl) (wrTape_2 hw) dTape_cutToken_129 ?_
  refine ev_iload_n dTape_cutToken_132 rfl ?_
  refine ev_ldcS (a := kS 1) (fun s h => h.2.2.1.2) dTape_cutToken_133 ?_
  refine ev_aload_n dTape_cutToken_135 rfl ?_
  refine ev_iload_n dTape_cutToken_136 rfl ?_
  refine ev_callV (d' := 0) (ci := 8) (B' := (0, 0)) (B'' := (0, 0)) (post' := fun v τ => (∃ r : Int32, v = some (.int r) ∧ gTape_byteAt_0 o (tI I) L x3.toInt = r.toInt) ∧ τ = (n, sh, Rf, I, L)) [.int x3] [.ref (kS 1), .int x1, .ref (o + 3)] qEx_ok mmTape_byteAt mk_Tape_71 rfl rfl (woTape hw) rfl (Nat.le_of_ble_eq_true rfl) rfl (Nat.le_of_ble_eq_true rfl) dTape_cutToken_137 rfl (by decide) (y_Tape_byteAtg qEx_ok hw ra hR (fun r _ gb => ⟨⟨r, rfl, gb⟩, rfl⟩)) ?_
  rintro v τ ⟨⟨r, rfl, gb⟩, rfl⟩
  refine ev_i2c dTape_cutToken_140 ?_
  refine ev_callE (B' := (0, 0)) (B'' := (0, 0)) (post' := fun v τ => (∃ q : Int32, v = some (.int q) ∧ SgR (r.toUInt32 % 65536).toInt32 q) ∧ τ = (n, sh, Rf, I, L)) [.int (r.toUInt32 % 65536).toInt32] [.int x1, .ref (o + 3)] qEx_ok mmString_indexOf_0f7a4 mk_Tape_92 (fun s h => (qEx_str (i := 1) (by decide) s h).1) rfl (Nat.le_of_ble_eq_true rfl) rfl (Nat.le_of_ble_eq_true rfl) dTape_cutToken_141 rfl (by decide) (t_indexOfg (i2c_pos r) (fun q z => ⟨⟨q, rfl, z⟩, rfl⟩)) ?_
  rintro v τ ⟨⟨q, rfl, hsg⟩, rfl⟩
  have gc : wI2C r.toInt = ((r.toUInt32 % 65536).toInt32).toInt := wI2C_eq r
  have go : ∀ k : Int32, (k = 4 ∨ k = 5) → (if sgZ (wI2C r.toInt) then (4 : Int) else 5) = k.toInt → Ev (qGG D cA b (qEx b kS vS xb xl xs)) mTape_cutToken 8 (0, 0) 152 [(0, .ref o), (1, .int x1), (2, .int x2), (3, .int x3)] [.int k, .int x1, .ref (o + 3)] (n, sh, Rf, I, L) post := by
    intro k hk hk2
    refine ev_iast qEx_ok (waTape_2 hw) (tIn (by omega) (by omega)) dTape_cutToken_152 ?_
    generalize e1 : q_u I (o + 3) x1.toNatClampNeg k = I1
    have hR1 : RI R I1 := hR.up ra 3 (by decide) (Or.inl rfl) e1 (i_lo _) (i_hi _)
    have hx1 : TokX I1 o x1.toNatClampNeg := hx.put3 e1 rfl
    refine ev_aload_n dTape_cutToken_153 rfl ?_
    refine ev_getR qEx_ok fk_Tape_25 (woTape hw) (fun _ _ _ => rfl) (wrTape_4 hw) dTape_cutToken_154 ?_
    refine ev_iload_n dTape_cutToken_157 rfl ?_
    refine ev_aload_n dTape_cutToken_158 rfl ?_
    refine ev_iload_n dTape_cutToken_159 rfl ?_
    refine ev_callV (d' := 0) (ci := 8) (B' := (0, 0)) (B'' := (0, 0)) (post' := fun v τ => (∃ r : Int32, v = some (.int r) ∧ gTape_byteAt_0 o (tI I1) L x3.toInt = r.toInt) ∧ τ = (n, sh, Rf, I1, L)) [.int x3] [.int x1, .ref (o + 5)] qEx_ok mmTape_byteAt mk_Tape_71 rfl rfl (woTape hw) rfl (Nat.le_of_ble_eq_true rfl) rfl (Nat.le_of_ble_eq_true rfl) dTape_cutToken_160 rfl (by decide) (y_Tape_byteAtg qEx_ok hw ra hR1 (fun r _ gb => ⟨⟨r, rfl, gb⟩, rfl⟩)) ?_
    rintro v τ ⟨⟨v, rfl, gv⟩, rfl⟩
    have ev : v.toInt = r.toInt := by
      rw [← gv, ← gb]
      exact byteAtg_same (by show (I1 o 6).toInt = (I o 6).toInt; rw [← e1, q_u_ne (by omega)]) (by funext y; show (I1 (o + 1) y).toInt = (I (o + 1) y).toInt; rw [← e1, q_u_ne (by omega)])
    refine ev_iast qEx_ok (waTape_4 hw) (tIn (by omega) (by omega)) dTape_cutToken_163 ?_
    generalize e2 : q_u I1 (o + 5) x1.toNatClampNeg v = I2
    have hR2 : RI R I2 := hR1.up ra 5 (by decide) (Or.inl rfl) e2 (i_lo _) (i_hi _)
    have hx2 : TokX I2 o x1.toNatClampNeg := hx1.put5 e2 rfl
    refine ev_iload_n dTape_cutToken_164 rfl ?_
    refine ev_iconst (1) dTape_cutToken_165 (by decide) ?_
    refine ev_iadd dTape_cutToken_166 ?_
    have l1 : (1 : Int32).toInt = 1 := rfl
    have a1 : (x3 + 1).toInt = x3.toInt + (1 : Int32).toInt := tAdd (by omega) (by omega)
    refine ev_iret rfl dTape_cutToken_167 (hp _ I2 hR2 (fun c c3 c5 => ?_) (by omega) (hx2.all ?_) ?_)
    · rw [← e2, q_u_ne c5, ← e1, q_u_ne c3]
    · have k3 : I2 (o + 3) x1.toNatClampNeg = k := by rw [← e2, q_u_ne (by omega), ← e1, q_u_at]
      have l4 : (4 : Int32).toInt = 4 := rfl
      have l5 : (5 : Int32).toInt = 5 := rfl
      unfold TokAt
      rw [k3]
      rcases hk with rfl | rfl
      · exact ⟨fun h => by omega, fun h => by omega⟩
      · exact ⟨fun h => by omega, fun h => by omega⟩
    · simp only [gTape_cutToken_128, gLet, gb, hk2]
      rw [← ev]
      have f1 := tI_q e1
      have f2 := tI_q e2
      rw [show Int.toNat x1.toInt = x1.toNatClampNeg from rfl, f1, f2, a1, l1]
  refine ev_if_ge 151 dTape_cutToken_144 (by decide) (fun hc => ?_) (fun hc => ?_)
  · refine ev_iconst (4) dTape_cutToken_151 (by decide) ?_
    have z0 : (0 : Int32).toInt = 0 := rfl
    have h2 : sgZ ((r.toUInt32 % 65536).toInt32).toInt = true := by
      by_cases z : sgZ ((r.toUInt32 % 65536).toInt32).toInt = true
      · exact z
      · have h3 := hsg.mpr (Bool.eq_false_iff.mpr z)
        have h4 := iLe hc
        omega
    exact go 4 (Or.inl rfl) (by rw [gc, if_pos h2]; rfl)
  · refine ev_iconst (5) dTape_cutToken_147 (by decide) ?_
    refine ev_goto 152 dTape_cutToken_148 (by decide) ?_
    exact go 5 (Or.inr rfl) (by have z0 : (0 : Int32).toInt = 0 := rfl; rw [gc, hsg.mp (by have h4 := iNle hc; omega)]; rfl)
end SY
