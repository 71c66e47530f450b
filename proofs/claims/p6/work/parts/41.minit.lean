/-! The reference's constructor. -/
def fModel_init_872 (D : va_G) (cA : FieldType → ClassId) (b : Nat) (E : State → Prop) (o : Nat) (n : Nat) (sh : Nat → qC) (Rf : Nat → Nat → Option Nat) (I : Nat → Nat → Int32) (L : Nat → Nat → Int64) (post : Option Value → qS → Prop) (x1 : Int32) : Prop :=
  ((60 ≤ x1 → Ev (qGG D cA b E) mModel_measure 0 (0, 0) 0 (lv_args 0 [.ref o]) [] (n, sh, Rf, I, L) (fun v τ => ∃ (I4 : Nat → Nat → Int32) (L5 : Nat → Nat → Int64), v = none ∧ τ = (n, sh, Rf, I4, L5) ∧ post none (n, sh, Rf, I4, L5))) ∧ (¬ 60 ≤ x1 → vp_in x1 60 ∧ ∀ I6 : Nat → Nat → Int32, q_u I (o + 26) (x1 : Int32).toNatClampNeg (-1) = I6 → Ev (qGG D cA b E) mModel_init 1 (0, 0) 872 [(0, .ref o), (1, .int ((x1 + Int32.ofInt 1)))] [] (n, sh, Rf, I6, L) post))
set_option maxHeartbeats 4000000 in
set_option maxRecDepth 20000 in
theorem sModel_init_872 {D : va_G} {cA : FieldType → ClassId} {b : Nat} {E : State → Prop} (o : Nat) (n : Nat) (sh : Nat → qC) (Rf : Nat → Nat → Option Nat) (I : Nat → Nat → Int32) (L : Nat → Nat → Int64) (post : Option Value → qS → Prop) (x1 : Int32) (hok : q_ok (qGG D cA b E)) (hw : WfModel (qGG D cA b E) n sh Rf o) (H : fModel_init_872 D cA b E o n sh Rf I L post x1) : Ev (qGG D cA b E) mModel_init 1 (0, 0) 872 [(0, .ref o), (1, .int x1)] [] (n, sh, Rf, I, L) post := by
  unfold fModel_init_872 at H
  refine ev_iload_n dModel_init_872 rfl ?_
  refine ev_bipush (60) dModel_init_873 (by decide) ?_
  refine ev_icmp_ge 891 dModel_init_875 (by decide) (fun c1 => ?_) (fun c1 => ?_)
  · have H := H.1 c1
    refine ev_aload_n dModel_init_891 rfl ?_
    refine ev_callV [] [] (B' := (0, 0)) (B'' := (0, 0)) hok mmModel_measure mk_Model_175 (ci := 12) rfl rfl (woModel hw) rfl (Nat.le_of_ble_eq_true rfl) rfl (Nat.le_of_ble_eq_true rfl) dModel_init_892 rfl (by decide) H (fun v τ p2 => ?_)
    obtain ⟨I4, L5, rfl, rfl, H⟩ := p2
    exact ev_vret rfl dModel_init_895 H
  · have H := H.2 c1
    refine ev_aload_n dModel_init_878 rfl ?_
    refine ev_getR hok fk_Model_285 (woModel hw) (fun _ _ _ => rfl) (wrModel_37 hw) dModel_init_879 ?_
    refine ev_iload_n dModel_init_882 rfl ?_
    refine ev_iconst (-1) dModel_init_883 (by decide) ?_
    obtain ⟨h7, H⟩ := H
    refine ev_iast hok (waModel_37 hw) h7 dModel_init_884 ?_
    generalize eI6 : q_u I (o + 26) (x1 : Int32).toNatClampNeg (-1) = I6
    have H := H I6 eI6
    refine ev_iinc dModel_init_885 rfl (by decide) ?_
    refine ev_goto 872 dModel_init_888 (by decide) ?_
    exact ev_sub [(0, .ref o), (1, .int ((x1 + Int32.ofInt 1)))] rfl H
def fModel_init_870 (D : va_G) (cA : FieldType → ClassId) (b : Nat) (E : State → Prop) (o : Nat) (n : Nat) (sh : Nat → qC) (Rf : Nat → Nat → Option Nat) (I : Nat → Nat → Int32) (L : Nat → Nat → Int64) (post : Option Value → qS → Prop)  : Prop :=
  Ev (qGG D cA b E) mModel_init 1 (0, 0) 872 [(0, .ref o), (1, .int 0)] [] (n, sh, Rf, I, L) post
set_option maxHeartbeats 4000000 in
set_option maxRecDepth 20000 in
theorem sModel_init_870 {D : va_G} {cA : FieldType → ClassId} {b : Nat} {E : State → Prop} (o : Nat) (n : Nat) (sh : Nat → qC) (Rf : Nat → Nat → Option Nat) (I : Nat → Nat → Int32) (L : Nat → Nat → Int64) (post : Option Value → qS → Prop)  (hok : q_ok (qGG D cA b E)) (hw : WfModel (qGG D cA b E) n sh Rf o) (H : fModel_init_870 D cA b E o n sh Rf I L post ) : Ev (qGG D cA b E) mModel_init 1 (0, 0) 870 [(0, .ref o)] [] (n, sh, Rf, I, L) post := by
  unfold fModel_init_870 at H
  refine ev_iconst (0) dModel_init_870 (by decide) ?_
  refine ev_istore_n dModel_init_871 (by decide) ?_
  exact ev_sub [(0, .ref o), (1, .int 0)] rfl H
theorem wlM_lt : wlModel.Pairwise (fun x y => x.1 < y.1) := by decide
theorem wlM_dis {i j : Nat} {x y : Nat × Nat × FieldType × Nat} (hij : i < j) (hx : wlModel[i]? = some x) (hy : wlModel[j]? = some y) : x.1 ≠ y.1 := by
  obtain ⟨h1, e1⟩ := List.getElem?_eq_some_iff.mp hx
  obtain ⟨h2, e2⟩ := List.getElem?_eq_some_iff.mp hy
  have := List.pairwise_iff_getElem.mp wlM_lt i j h1 h2 hij
  rw [e1, e2] at this
  exact Nat.ne_of_lt this
theorem ciM : ∀ q : vw_C, qcl[12]? = some q → q.1 = "SaltOfficeModel" := by
  intro q h
  have := Option.some.inj (h.symm.trans (rfl : qcl[12]? = some (qR12, qT12, 164)))
  subst this
  rfl
section MInit
variable {D : va_G} {cA : FieldType → ClassId} {b : Nat} {E : State → Prop} {o n0 : Nat} {sh0 : Nat → qC} {Rf0 : Nat → Nat → Option Nat} {I0 : Nat → Nat → Int32} {L0 : Nat → Nat → Int64} {post : Option Value → qS → Prop}
def mF : Nat → Int32 := fun y => if y = 73 then 20 else if y = 72 then 500 else if y = 71 then 1 else if y = 70 then 5 else if y = 69 then 1 else if y = 5 then (-1) else 0
set_option maxHeartbeats 40000000 in
set_option maxRecDepth 20000 in
theorem m_init_rows (hok : q_ok (qGG D cA b E)) {n : Nat} {sh : Nat → qC} {Rf : Nat → Nat → Option Nat} {I : Nat → Nat → Int32} {L : Nat → Nat → Int64} (hP : PJ (qGG D cA b E) 12 wlModel o n0 sh0 Rf0 I0 L0 0 (fun _ => 0) (fun _ => 0) n sh Rf I L) (kk : ∀ n sh Rf I L, PJ (qGG D cA b E) 12 wlModel o n0 sh0 Rf0 I0 L0 101 mF (fun _ => 0) n sh Rf I L → Ev (qGG D cA b E) mModel_init 1 (0, 0) 870 [(0, .ref o)] [] (n, sh, Rf, I, L) post) : Ev (qGG D cA b E) mModel_init 1 (101, 100599) 0 (lv_args 0 [.ref o]) [] (n, sh, Rf, I, L) post := by
  refine ev_aload_n dModel_init_0 rfl ?_
  refine ev_obj (by decide) (q_t8 221 (by decide +kernel) rfl) (q_t1 29 (by decide +kernel) rfl) (q_t1 30 rfl rfl) (Nat.le_of_ble_eq_true rfl) dModel_init_1 ?_
  refine ev_aload_n dModel_init_4 rfl ?_
  refine ev_sipush (1620) dModel_init_5 (by decide) ?_
  refine ev_arrP (kc := 100) (ks := 98979) (k := 0) (w := 1620) hok hP rfl (fun i x hi hx => wlM_dis hi hx (rfl : wlModel[0]? = some (0, 1, .byte, 1620))) pt_byte (by decide) (by decide) (by decide) dModel_init_8 fk_Model_140 rfl ciM rfl dModel_init_10 (fun n sh Rf I L hP => ?_)
  refine ev_aload_n dModel_init_13 rfl ?_
  refine ev_sipush (1600) dModel_init_14 (by decide) ?_
  refine ev_arrP (kc := 99) (ks := 97379) (k := 1) (w := 1600) hok hP rfl (fun i x hi hx => wlM_dis hi hx (rfl : wlModel[1]? = some (1, 2, .byte, 1600))) pt_byte (by decide) (by decide) (by decide) dModel_init_17 fk_Model_7 rfl ciM rfl dModel_init_19 (fun n sh Rf I L hP => ?_)
  refine ev_aload_n dModel_init_22 rfl ?_
  refine ev_iconst (-1) dModel_init_23 (by decide) ?_
  refine ev_intP hok hP fk_Model_14 rfl dModel_init_24 (fun I hP => ?_)
  refine ev_aload_n dModel_init_27 rfl ?_
  refine ev_bipush (6) dModel_init_28 (by decide) ?_
  refine ev_arrP (kc := 98) (ks := 97373) (k := 12) (w := 6) hok hP rfl (fun i x hi hx => wlM_dis hi hx (rfl : wlModel[2]? = some (12, 3, .long, 6))) pt_long (by decide) (by decide) (by decide) dModel_init_30 fk_Model_216 rfl ciM rfl dModel_init_32 (fun n sh Rf I L hP => ?_)
  refine ev_aload_n dModel_init_35 rfl ?_
  refine ev_bipush (6) dModel_init_36 (by decide) ?_
  refine ev_arrP (kc := 97) (ks := 97367) (k := 13) (w := 6) hok hP rfl (fun i x hi hx => wlM_dis hi hx (rfl : wlModel[3]? = some (13, 4, .long, 6))) pt_long (by decide) (by decide) (by decide) dModel_init_38 fk_Model_220 rfl ciM rfl dModel_init_40 (fun n sh Rf I L hP => ?_)
  refine ev_aload_n dModel_init_43 rfl ?_
  refine ev_bipush (10) dModel_init_44 (by decide) ?_
  refine ev_arrP (kc := 96) (ks := 97357) (k := 14) (w := 10) hok hP rfl (fun i x hi hx => wlM_dis hi hx (rfl : wlModel[4]? = some (14, 5, .long, 10))) pt_long (by decide) (by decide) (by decide) dModel_init_46 fk_Model_223 rfl ciM rfl dModel_init_48 (fun n sh Rf I L hP => ?_)
  refine ev_aload_n dModel_init_51 rfl ?_
  refine ev_iconst (2) dModel_init_52 (by decide) ?_
  refine ev_arrP (kc := 95) (ks := 97355) (k := 15) (w := 2) hok hP rfl (fun i x hi hx => wlM_dis hi hx (rfl : wlModel[5]? = some (15, 6, .int, 2))) pt_int (by decide) (by decide) (by decide) dModel_init_53 fk_Model_153 rfl ciM rfl dModel_init_55 (fun n sh Rf I L hP => ?_)
  refine ev_aload_n dModel_init_58 rfl ?_
  refine ev_iconst (2) dModel_init_59 (by decide) ?_
  refine ev_arrP (kc := 94) (ks := 97353) (k := 16) (w := 2) hok hP rfl (fun i x hi hx => wlM_dis hi hx (rfl : wlModel[6]? = some (16, 7, .int, 2))) pt_int (by decide) (by decide) (by decide) dModel_init_60 fk_Model_157 rfl ciM rfl dModel_init_62 (fun n sh Rf I L hP => ?_)
  refine ev_aload_n dModel_init_65 rfl ?_
  refine ev_iconst (2) dModel_init_66 (by decide) ?_
  refine ev_arrP (kc := 93) (ks := 97351) (k := 17) (w := 2) hok hP rfl (fun i x hi hx => wlM_dis hi hx (rfl : wlModel[7]? = some (17, 8, .int, 2))) pt_int (by decide) (by decide) (by decide) dModel_init_67 fk_Model_160 rfl ciM rfl dModel_init_69 (fun n sh Rf I L hP => ?_)
  refine ev_aload_n dModel_init_72 rfl ?_
  refine ev_iconst (2) dModel_init_73 (by decide) ?_
  refine ev_arrP (kc := 92) (ks := 97349) (k := 18) (w := 2) hok hP rfl (fun i x hi hx => wlM_dis hi hx (rfl : wlModel[8]? = some (18, 9, .int, 2))) pt_int (by decide) (by decide) (by decide) dModel_init_74 fk_Model_163 rfl ciM rfl dModel_init_76 (fun n sh Rf I L hP => ?_)
  refine ev_aload_n dModel_init_79 rfl ?_
  refine ev_bipush (48) dModel_init_80 (by decide) ?_
  refine ev_arrP (kc := 91) (ks := 97301) (k := 19) (w := 48) hok hP rfl (fun i x hi hx => wlM_dis hi hx (rfl : wlModel[9]? = some (19, 10, .int, 48))) pt_int (by decide) (by decide) (by decide) dModel_init_82 fk_Model_199 rfl ciM rfl dModel_init_84 (fun n sh Rf I L hP => ?_)
  refine ev_aload_n dModel_init_87 rfl ?_
  refine ev_bipush (48) dModel_init_88 (by decide) ?_
  refine ev_arrP (kc := 90) (ks := 97253) (k := 20) (w := 48) hok hP rfl (fun i x hi hx => wlM_dis hi hx (rfl : wlModel[10]? = some (20, 11, .int, 48))) pt_int (by decide) (by decide) (by decide) dModel_init_90 fk_Model_206 rfl ciM rfl dModel_init_92 (fun n sh Rf I L hP => ?_)
  refine ev_aload_n dModel_init_95 rfl ?_
  refine ev_bipush (48) dModel_init_96 (by decide) ?_
  refine ev_arrP (kc := 89) (ks := 97205) (k := 21) (w := 48) hok hP rfl (fun i x hi hx => wlM_dis hi hx (rfl : wlModel[11]? = some (21, 12, .int, 48))) pt_int (by decide) (by decide) (by decide) dModel_init_98 fk_Model_209 rfl ciM rfl dModel_init_100 (fun n sh Rf I L hP => ?_)
  refine ev_aload_n dModel_init_103 rfl ?_
  refine ev_bipush (6) dModel_init_104 (by decide) ?_
  refine ev_arrP (kc := 88) (ks := 97199) (k := 22) (w := 6) hok hP rfl (fun i x hi hx => wlM_dis hi hx (rfl : wlModel[12]? = some (22, 13, .int, 6))) pt_int (by decide) (by decide) (by decide) dModel_init_106 fk_Model_233 rfl ciM rfl dModel_init_108 (fun n sh Rf I L hP => ?_)
  refine ev_aload_n dModel_init_111 rfl ?_
  refine ev_bipush (6) dModel_init_112 (by decide) ?_
  refine ev_arrP (kc := 87) (ks := 97193) (k := 23) (w := 6) hok hP rfl (fun i x hi hx => wlM_dis hi hx (rfl : wlModel[13]? = some (23, 14, .int, 6))) pt_int (by decide) (by decide) (by decide) dModel_init_114 fk_Model_236 rfl ciM rfl dModel_init_116 (fun n sh Rf I L hP => ?_)
  refine ev_aload_n dModel_init_119 rfl ?_
  refine ev_bipush (6) dModel_init_120 (by decide) ?_
  refine ev_arrP (kc := 86) (ks := 97187) (k := 24) (w := 6) hok hP rfl (fun i x hi hx => wlM_dis hi hx (rfl : wlModel[14]? = some (24, 15, .int, 6))) pt_int (by decide) (by decide) (by decide) dModel_init_122 fk_Model_239 rfl ciM rfl dModel_init_124 (fun n sh Rf I L hP => ?_)
  refine ev_aload_n dModel_init_127 rfl ?_
  refine ev_bipush (6) dModel_init_128 (by decide) ?_
  refine ev_arrP (kc := 85) (ks := 97181) (k := 25) (w := 6) hok hP rfl (fun i x hi hx => wlM_dis hi hx (rfl : wlModel[15]? = some (25, 16, .int, 6))) pt_int (by decide) (by decide) (by decide) dModel_init_130 fk_Model_242 rfl ciM rfl dModel_init_132 (fun n sh Rf I L hP => ?_)
  refine ev_aload_n dModel_init_135 rfl ?_
  refine ev_bipush (72) dModel_init_136 (by decide) ?_
  refine ev_arrP (kc := 84) (ks := 97109) (k := 26) (w := 72) hok hP rfl (fun i x hi hx => wlM_dis hi hx (rfl : wlModel[16]? = some (26, 17, .int, 72))) pt_int (by decide) (by decide) (by decide) dModel_init_138 fk_Model_245 rfl ciM rfl dModel_init_140 (fun n sh Rf I L hP => ?_)
  refine ev_aload_n dModel_init_143 rfl ?_
  refine ev_bipush (6) dModel_init_144 (by decide) ?_
  refine ev_arrP (kc := 83) (ks := 97103) (k := 27) (w := 6) hok hP rfl (fun i x hi hx => wlM_dis hi hx (rfl : wlModel[17]? = some (27, 18, .int, 6))) pt_int (by decide) (by decide) (by decide) dModel_init_146 fk_Model_248 rfl ciM rfl dModel_init_148 (fun n sh Rf I L hP => ?_)
  refine ev_aload_n dModel_init_151 rfl ?_
  refine ev_bipush (10) dModel_init_152 (by decide) ?_
  refine ev_arrP (kc := 82) (ks := 97093) (k := 28) (w := 10) hok hP rfl (fun i x hi hx => wlM_dis hi hx (rfl : wlModel[18]? = some (28, 19, .int, 10))) pt_int (by decide) (by decide) (by decide) dModel_init_154 fk_Model_251 rfl ciM rfl dModel_init_156 (fun n sh Rf I L hP => ?_)
  refine ev_aload_n dModel_init_159 rfl ?_
  refine ev_bipush (10) dModel_init_160 (by decide) ?_
  refine ev_arrP (kc := 81) (ks := 97083) (k := 29) (w := 10) hok hP rfl (fun i x hi hx => wlM_dis hi hx (rfl : wlModel[19]? = some (29, 20, .int, 10))) pt_int (by decide) (by decide) (by decide) dModel_init_162 fk_Model_254 rfl ciM rfl dModel_init_164 (fun n sh Rf I L hP => ?_)
  refine ev_aload_n dModel_init_167 rfl ?_
  refine ev_bipush (10) dModel_init_168 (by decide) ?_
  refine ev_arrP (kc := 80) (ks := 97073) (k := 30) (w := 10) hok hP rfl (fun i x hi hx => wlM_dis hi hx (rfl : wlModel[20]? = some (30, 21, .int, 10))) pt_int (by decide) (by decide) (by decide) dModel_init_170 fk_Model_257 rfl ciM rfl dModel_init_172 (fun n sh Rf I L hP => ?_)
  refine ev_aload_n dModel_init_175 rfl ?_
  refine ev_bipush (10) dModel_init_176 (by decide) ?_
  refine ev_arrP (kc := 79) (ks := 97063) (k := 31) (w := 10) hok hP rfl (fun i x hi hx => wlM_dis hi hx (rfl : wlModel[21]? = some (31, 22, .int, 10))) pt_int (by decide) (by decide) (by decide) dModel_init_178 fk_Model_260 rfl ciM rfl dModel_init_180 (fun n sh Rf I L hP => ?_)
  refine ev_aload_n dModel_init_183 rfl ?_
  refine ev_bipush (10) dModel_init_184 (by decide) ?_
  refine ev_arrP (kc := 78) (ks := 97053) (k := 32) (w := 10) hok hP rfl (fun i x hi hx => wlM_dis hi hx (rfl : wlModel[22]? = some (32, 23, .int, 10))) pt_int (by decide) (by decide) (by decide) dModel_init_186 fk_Model_263 rfl ciM rfl dModel_init_188 (fun n sh Rf I L hP => ?_)
  refine ev_aload_n dModel_init_191 rfl ?_
  refine ev_bipush (10) dModel_init_192 (by decide) ?_
  refine ev_arrP (kc := 77) (ks := 97043) (k := 33) (w := 10) hok hP rfl (fun i x hi hx => wlM_dis hi hx (rfl : wlModel[23]? = some (33, 24, .int, 10))) pt_int (by decide) (by decide) (by decide) dModel_init_194 fk_Model_266 rfl ciM rfl dModel_init_196 (fun n sh Rf I L hP => ?_)
  refine ev_aload_n dModel_init_199 rfl ?_
  refine ev_sipush (256) dModel_init_200 (by decide) ?_
  refine ev_arrP (kc := 76) (ks := 96787) (k := 36) (w := 256) hok hP rfl (fun i x hi hx => wlM_dis hi hx (rfl : wlModel[24]? = some (36, 25, .int, 256))) pt_int (by decide) (by decide) (by decide) dModel_init_203 fk_Model_269 rfl ciM rfl dModel_init_205 (fun n sh Rf I L hP => ?_)
  refine ev_aload_n dModel_init_208 rfl ?_
  refine ev_bipush (60) dModel_init_209 (by decide) ?_
  refine ev_arrP (kc := 75) (ks := 96727) (k := 37) (w := 60) hok hP rfl (fun i x hi hx => wlM_dis hi hx (rfl : wlModel[25]? = some (37, 26, .int, 60))) pt_int (by decide) (by decide) (by decide) dModel_init_211 fk_Model_285 rfl ciM rfl dModel_init_213 (fun n sh Rf I L hP => ?_)
  refine ev_aload_n dModel_init_216 rfl ?_
  refine ev_bipush (60) dModel_init_217 (by decide) ?_
  refine ev_arrP (kc := 74) (ks := 96667) (k := 38) (w := 60) hok hP rfl (fun i x hi hx => wlM_dis hi hx (rfl : wlModel[26]? = some (38, 27, .int, 60))) pt_int (by decide) (by decide) (by decide) dModel_init_219 fk_Model_300 rfl ciM rfl dModel_init_221 (fun n sh Rf I L hP => ?_)
  refine ev_aload_n dModel_init_224 rfl ?_
  refine ev_bipush (6) dModel_init_225 (by decide) ?_
  refine ev_arrP (kc := 73) (ks := 96661) (k := 39) (w := 6) hok hP rfl (fun i x hi hx => wlM_dis hi hx (rfl : wlModel[27]? = some (39, 28, .int, 6))) pt_int (by decide) (by decide) (by decide) dModel_init_227 fk_Model_279 rfl ciM rfl dModel_init_229 (fun n sh Rf I L hP => ?_)
  refine ev_aload_n dModel_init_232 rfl ?_
  refine ev_bipush (6) dModel_init_233 (by decide) ?_
  refine ev_arrP (kc := 72) (ks := 96655) (k := 40) (w := 6) hok hP rfl (fun i x hi hx => wlM_dis hi hx (rfl : wlModel[28]? = some (40, 29, .int, 6))) pt_int (by decide) (by decide) (by decide) dModel_init_235 fk_Model_282 rfl ciM rfl dModel_init_237 (fun n sh Rf I L hP => ?_)
  refine ev_aload_n dModel_init_240 rfl ?_
  refine ev_sipush (4200) dModel_init_241 (by decide) ?_
  refine ev_arrP (kc := 71) (ks := 92455) (k := 41) (w := 4200) hok hP rfl (fun i x hi hx => wlM_dis hi hx (rfl : wlModel[29]? = some (41, 30, .int, 4200))) pt_int (by decide) (by decide) (by decide) dModel_init_244 fk_Model_303 rfl ciM rfl dModel_init_246 (fun n sh Rf I L hP => ?_)
  refine ev_aload_n dModel_init_249 rfl ?_
  refine ev_sipush (4200) dModel_init_250 (by decide) ?_
  refine ev_arrP (kc := 70) (ks := 88255) (k := 42) (w := 4200) hok hP rfl (fun i x hi hx => wlM_dis hi hx (rfl : wlModel[30]? = some (42, 31, .int, 4200))) pt_int (by decide) (by decide) (by decide) dModel_init_253 fk_Model_306 rfl ciM rfl dModel_init_255 (fun n sh Rf I L hP => ?_)
  refine ev_aload_n dModel_init_258 rfl ?_
  refine ev_bipush (80) dModel_init_259 (by decide) ?_
  refine ev_arrP (kc := 69) (ks := 88175) (k := 43) (w := 80) hok hP rfl (fun i x hi hx => wlM_dis hi hx (rfl : wlModel[31]? = some (43, 32, .int, 80))) pt_int (by decide) (by decide) (by decide) dModel_init_261 fk_Model_315 rfl ciM rfl dModel_init_263 (fun n sh Rf I L hP => ?_)
  refine ev_aload_n dModel_init_266 rfl ?_
  refine ev_bipush (80) dModel_init_267 (by decide) ?_
  refine ev_arrP (kc := 68) (ks := 88095) (k := 50) (w := 80) hok hP rfl (fun i x hi hx => wlM_dis hi hx (rfl : wlModel[32]? = some (50, 33, .int, 80))) pt_int (by decide) (by decide) (by decide) dModel_init_269 fk_Model_321 rfl ciM rfl dModel_init_271 (fun n sh Rf I L hP => ?_)
  refine ev_aload_n dModel_init_274 rfl ?_
  refine ev_bipush (120) dModel_init_275 (by decide) ?_
  refine ev_arrP (kc := 67) (ks := 87975) (k := 58) (w := 120) hok hP rfl (fun i x hi hx => wlM_dis hi hx (rfl : wlModel[33]? = some (58, 34, .int, 120))) pt_int (by decide) (by decide) (by decide) dModel_init_277 fk_Model_375 rfl ciM rfl dModel_init_279 (fun n sh Rf I L hP => ?_)
  refine ev_aload_n dModel_init_282 rfl ?_
  refine ev_bipush (6) dModel_init_283 (by decide) ?_
  refine ev_arrP (kc := 66) (ks := 87969) (k := 59) (w := 6) hok hP rfl (fun i x hi hx => wlM_dis hi hx (rfl : wlModel[34]? = some (59, 35, .int, 6))) pt_int (by decide) (by decide) (by decide) dModel_init_285 fk_Model_390 rfl ciM rfl dModel_init_287 (fun n sh Rf I L hP => ?_)
  refine ev_aload_n dModel_init_290 rfl ?_
  refine ev_bipush (40) dModel_init_291 (by decide) ?_
  refine ev_arrP (kc := 65) (ks := 87929) (k := 60) (w := 40) hok hP rfl (fun i x hi hx => wlM_dis hi hx (rfl : wlModel[35]? = some (60, 36, .int, 40))) pt_int (by decide) (by decide) (by decide) dModel_init_293 fk_Model_412 rfl ciM rfl dModel_init_295 (fun n sh Rf I L hP => ?_)
  refine ev_aload_n dModel_init_298 rfl ?_
  refine ev_bipush (40) dModel_init_299 (by decide) ?_
  refine ev_arrP (kc := 64) (ks := 87889) (k := 61) (w := 40) hok hP rfl (fun i x hi hx => wlM_dis hi hx (rfl : wlModel[36]? = some (61, 37, .int, 40))) pt_int (by decide) (by decide) (by decide) dModel_init_301 fk_Model_415 rfl ciM rfl dModel_init_303 (fun n sh Rf I L hP => ?_)
  refine ev_aload_n dModel_init_306 rfl ?_
  refine ev_bipush (40) dModel_init_307 (by decide) ?_
  refine ev_arrP (kc := 63) (ks := 87849) (k := 62) (w := 40) hok hP rfl (fun i x hi hx => wlM_dis hi hx (rfl : wlModel[37]? = some (62, 38, .int, 40))) pt_int (by decide) (by decide) (by decide) dModel_init_309 fk_Model_418 rfl ciM rfl dModel_init_311 (fun n sh Rf I L hP => ?_)
  refine ev_aload_n dModel_init_314 rfl ?_
  refine ev_bipush (40) dModel_init_315 (by decide) ?_
  refine ev_arrP (kc := 62) (ks := 87809) (k := 63) (w := 40) hok hP rfl (fun i x hi hx => wlM_dis hi hx (rfl : wlModel[38]? = some (63, 39, .int, 40))) pt_int (by decide) (by decide) (by decide) dModel_init_317 fk_Model_421 rfl ciM rfl dModel_init_319 (fun n sh Rf I L hP => ?_)
  refine ev_aload_n dModel_init_322 rfl ?_
  refine ev_bipush (40) dModel_init_323 (by decide) ?_
  refine ev_arrP (kc := 61) (ks := 87769) (k := 64) (w := 40) hok hP rfl (fun i x hi hx => wlM_dis hi hx (rfl : wlModel[39]? = some (64, 40, .int, 40))) pt_int (by decide) (by decide) (by decide) dModel_init_325 fk_Model_424 rfl ciM rfl dModel_init_327 (fun n sh Rf I L hP => ?_)
  refine ev_aload_n dModel_init_330 rfl ?_
  refine ev_bipush (40) dModel_init_331 (by decide) ?_
  refine ev_arrP (kc := 60) (ks := 87729) (k := 65) (w := 40) hok hP rfl (fun i x hi hx => wlM_dis hi hx (rfl : wlModel[40]? = some (65, 41, .int, 40))) pt_int (by decide) (by decide) (by decide) dModel_init_333 fk_Model_430 rfl ciM rfl dModel_init_335 (fun n sh Rf I L hP => ?_)
  refine ev_aload_n dModel_init_338 rfl ?_
  refine ev_iconst (1) dModel_init_339 (by decide) ?_
  refine ev_intP hok hP fk_Model_397 rfl dModel_init_340 (fun I hP => ?_)
  refine ev_aload_n dModel_init_343 rfl ?_
  refine ev_iconst (5) dModel_init_344 (by decide) ?_
  refine ev_intP hok hP fk_Model_400 rfl dModel_init_345 (fun I hP => ?_)
  refine ev_aload_n dModel_init_348 rfl ?_
  refine ev_iconst (1) dModel_init_349 (by decide) ?_
  refine ev_intP hok hP fk_Model_403 rfl dModel_init_350 (fun I hP => ?_)
  refine ev_aload_n dModel_init_353 rfl ?_
  refine ev_sipush (500) dModel_init_354 (by decide) ?_
  refine ev_intP hok hP fk_Model_406 rfl dModel_init_357 (fun I hP => ?_)
  refine ev_aload_n dModel_init_360 rfl ?_
  refine ev_bipush (20) dModel_init_361 (by decide) ?_
  refine ev_intP hok hP fk_Model_409 rfl dModel_init_363 (fun I hP => ?_)
  refine ev_aload_n dModel_init_366 rfl ?_
  refine ev_iconst (3) dModel_init_367 (by decide) ?_
  refine ev_arrP (kc := 59) (ks := 87726) (k := 75) (w := 3) hok hP rfl (fun i x hi hx => wlM_dis hi hx (rfl : wlModel[41]? = some (75, 42, .int, 3))) pt_int (by decide) (by decide) (by decide) dModel_init_368 fk_Model_513 rfl ciM rfl dModel_init_370 (fun n sh Rf I L hP => ?_)
  refine ev_aload_n dModel_init_373 rfl ?_
  refine ev_iconst (3) dModel_init_374 (by decide) ?_
  refine ev_arrP (kc := 58) (ks := 87723) (k := 76) (w := 3) hok hP rfl (fun i x hi hx => wlM_dis hi hx (rfl : wlModel[42]? = some (76, 43, .int, 3))) pt_int (by decide) (by decide) (by decide) dModel_init_375 fk_Model_627 rfl ciM rfl dModel_init_377 (fun n sh Rf I L hP => ?_)
  refine ev_aload_n dModel_init_380 rfl ?_
  refine ev_iconst (3) dModel_init_381 (by decide) ?_
  refine ev_arrP (kc := 57) (ks := 87720) (k := 77) (w := 3) hok hP rfl (fun i x hi hx => wlM_dis hi hx (rfl : wlModel[43]? = some (77, 44, .int, 3))) pt_int (by decide) (by decide) (by decide) dModel_init_382 fk_Model_469 rfl ciM rfl dModel_init_384 (fun n sh Rf I L hP => ?_)
  refine ev_aload_n dModel_init_387 rfl ?_
  refine ev_iconst (5) dModel_init_388 (by decide) ?_
  refine ev_arrP (kc := 56) (ks := 87715) (k := 78) (w := 5) hok hP rfl (fun i x hi hx => wlM_dis hi hx (rfl : wlModel[44]? = some (78, 45, .int, 5))) pt_int (by decide) (by decide) (by decide) dModel_init_389 fk_Model_474 rfl ciM rfl dModel_init_391 (fun n sh Rf I L hP => ?_)
  refine ev_aload_n dModel_init_394 rfl ?_
  refine ev_iconst (5) dModel_init_395 (by decide) ?_
  refine ev_arrP (kc := 55) (ks := 87710) (k := 79) (w := 5) hok hP rfl (fun i x hi hx => wlM_dis hi hx (rfl : wlModel[45]? = some (79, 46, .int, 5))) pt_int (by decide) (by decide) (by decide) dModel_init_396 fk_Model_664 rfl ciM rfl dModel_init_398 (fun n sh Rf I L hP => ?_)
  refine ev_aload_n dModel_init_401 rfl ?_
  refine ev_iconst (5) dModel_init_402 (by decide) ?_
  refine ev_arrP (kc := 54) (ks := 87705) (k := 80) (w := 5) hok hP rfl (fun i x hi hx => wlM_dis hi hx (rfl : wlModel[46]? = some (80, 47, .int, 5))) pt_int (by decide) (by decide) (by decide) dModel_init_403 fk_Model_694 rfl ciM rfl dModel_init_405 (fun n sh Rf I L hP => ?_)
  refine ev_aload_n dModel_init_408 rfl ?_
  refine ev_bipush (18) dModel_init_409 (by decide) ?_
  refine ev_arrP (kc := 53) (ks := 87687) (k := 81) (w := 18) hok hP rfl (fun i x hi hx => wlM_dis hi hx (rfl : wlModel[47]? = some (81, 48, .int, 18))) pt_int (by decide) (by decide) (by decide) dModel_init_411 fk_Model_584 rfl ciM rfl dModel_init_413 (fun n sh Rf I L hP => ?_)
  refine ev_aload_n dModel_init_416 rfl ?_
  refine ev_bipush (6) dModel_init_417 (by decide) ?_
  refine ev_arrP (kc := 52) (ks := 87681) (k := 82) (w := 6) hok hP rfl (fun i x hi hx => wlM_dis hi hx (rfl : wlModel[48]? = some (82, 49, .int, 6))) pt_int (by decide) (by decide) (by decide) dModel_init_419 fk_Model_522 rfl ciM rfl dModel_init_421 (fun n sh Rf I L hP => ?_)
  refine ev_aload_n dModel_init_424 rfl ?_
  refine ev_bipush (6) dModel_init_425 (by decide) ?_
  refine ev_arrP (kc := 51) (ks := 87675) (k := 83) (w := 6) hok hP rfl (fun i x hi hx => wlM_dis hi hx (rfl : wlModel[49]? = some (83, 50, .int, 6))) pt_int (by decide) (by decide) (by decide) dModel_init_427 fk_Model_575 rfl ciM rfl dModel_init_429 (fun n sh Rf I L hP => ?_)
  refine ev_aload_n dModel_init_432 rfl ?_
  refine ev_sipush (2000) dModel_init_433 (by decide) ?_
  refine ev_arrP (kc := 50) (ks := 85675) (k := 84) (w := 2000) hok hP rfl (fun i x hi hx => wlM_dis hi hx (rfl : wlModel[50]? = some (84, 51, .int, 2000))) pt_int (by decide) (by decide) (by decide) dModel_init_436 fk_Model_525 rfl ciM rfl dModel_init_438 (fun n sh Rf I L hP => ?_)
  refine ev_aload_n dModel_init_441 rfl ?_
  refine ev_sipush (2000) dModel_init_442 (by decide) ?_
  refine ev_arrP (kc := 49) (ks := 83675) (k := 85) (w := 2000) hok hP rfl (fun i x hi hx => wlM_dis hi hx (rfl : wlModel[51]? = some (85, 52, .int, 2000))) pt_int (by decide) (by decide) (by decide) dModel_init_445 fk_Model_457 rfl ciM rfl dModel_init_447 (fun n sh Rf I L hP => ?_)
  refine ev_aload_n dModel_init_450 rfl ?_
  refine ev_sipush (2000) dModel_init_451 (by decide) ?_
  refine ev_arrP (kc := 48) (ks := 81675) (k := 86) (w := 2000) hok hP rfl (fun i x hi hx => wlM_dis hi hx (rfl : wlModel[52]? = some (86, 53, .int, 2000))) pt_int (by decide) (by decide) (by decide) dModel_init_454 fk_Model_463 rfl ciM rfl dModel_init_456 (fun n sh Rf I L hP => ?_)
  refine ev_aload_n dModel_init_459 rfl ?_
  refine ev_sipush (2000) dModel_init_460 (by decide) ?_
  refine ev_arrP (kc := 47) (ks := 79675) (k := 87) (w := 2000) hok hP rfl (fun i x hi hx => wlM_dis hi hx (rfl : wlModel[53]? = some (87, 54, .int, 2000))) pt_int (by decide) (by decide) (by decide) dModel_init_463 fk_Model_528 rfl ciM rfl dModel_init_465 (fun n sh Rf I L hP => ?_)
  refine ev_aload_n dModel_init_468 rfl ?_
  refine ev_sipush (2000) dModel_init_469 (by decide) ?_
  refine ev_arrP (kc := 46) (ks := 77675) (k := 88) (w := 2000) hok hP rfl (fun i x hi hx => wlM_dis hi hx (rfl : wlModel[54]? = some (88, 55, .int, 2000))) pt_int (by decide) (by decide) (by decide) dModel_init_472 fk_Model_531 rfl ciM rfl dModel_init_474 (fun n sh Rf I L hP => ?_)
  refine ev_aload_n dModel_init_477 rfl ?_
  refine ev_sipush (2000) dModel_init_478 (by decide) ?_
  refine ev_arrP (kc := 45) (ks := 75675) (k := 89) (w := 2000) hok hP rfl (fun i x hi hx => wlM_dis hi hx (rfl : wlModel[55]? = some (89, 56, .int, 2000))) pt_int (by decide) (by decide) (by decide) dModel_init_481 fk_Model_447 rfl ciM rfl dModel_init_483 (fun n sh Rf I L hP => ?_)
  refine ev_aload_n dModel_init_486 rfl ?_
  refine ev_sipush (2000) dModel_init_487 (by decide) ?_
  refine ev_arrP (kc := 44) (ks := 73675) (k := 90) (w := 2000) hok hP rfl (fun i x hi hx => wlM_dis hi hx (rfl : wlModel[56]? = some (90, 57, .int, 2000))) pt_int (by decide) (by decide) (by decide) dModel_init_490 fk_Model_604 rfl ciM rfl dModel_init_492 (fun n sh Rf I L hP => ?_)
  refine ev_aload_n dModel_init_495 rfl ?_
  refine ev_sipush (4000) dModel_init_496 (by decide) ?_
  refine ev_arrP (kc := 43) (ks := 69675) (k := 91) (w := 4000) hok hP rfl (fun i x hi hx => wlM_dis hi hx (rfl : wlModel[57]? = some (91, 58, .int, 4000))) pt_int (by decide) (by decide) (by decide) dModel_init_499 fk_Model_545 rfl ciM rfl dModel_init_501 (fun n sh Rf I L hP => ?_)
  refine ev_aload_n dModel_init_504 rfl ?_
  refine ev_sipush (4000) dModel_init_505 (by decide) ?_
  refine ev_arrP (kc := 42) (ks := 65675) (k := 92) (w := 4000) hok hP rfl (fun i x hi hx => wlM_dis hi hx (rfl : wlModel[58]? = some (92, 59, .int, 4000))) pt_int (by decide) (by decide) (by decide) dModel_init_508 fk_Model_551 rfl ciM rfl dModel_init_510 (fun n sh Rf I L hP => ?_)
  refine ev_aload_n dModel_init_513 rfl ?_
  refine ev_sipush (4000) dModel_init_514 (by decide) ?_
  refine ev_arrP (kc := 41) (ks := 61675) (k := 93) (w := 4000) hok hP rfl (fun i x hi hx => wlM_dis hi hx (rfl : wlModel[59]? = some (93, 60, .int, 4000))) pt_int (by decide) (by decide) (by decide) dModel_init_517 fk_Model_557 rfl ciM rfl dModel_init_519 (fun n sh Rf I L hP => ?_)
  refine ev_aload_n dModel_init_522 rfl ?_
  refine ev_sipush (4000) dModel_init_523 (by decide) ?_
  refine ev_arrP (kc := 40) (ks := 57675) (k := 94) (w := 4000) hok hP rfl (fun i x hi hx => wlM_dis hi hx (rfl : wlModel[60]? = some (94, 61, .int, 4000))) pt_int (by decide) (by decide) (by decide) dModel_init_526 fk_Model_560 rfl ciM rfl dModel_init_528 (fun n sh Rf I L hP => ?_)
  refine ev_aload_n dModel_init_531 rfl ?_
  refine ev_sipush (4000) dModel_init_532 (by decide) ?_
  refine ev_arrP (kc := 39) (ks := 53675) (k := 95) (w := 4000) hok hP rfl (fun i x hi hx => wlM_dis hi hx (rfl : wlModel[61]? = some (95, 62, .int, 4000))) pt_int (by decide) (by decide) (by decide) dModel_init_535 fk_Model_563 rfl ciM rfl dModel_init_537 (fun n sh Rf I L hP => ?_)
  refine ev_aload_n dModel_init_540 rfl ?_
  refine ev_sipush (4000) dModel_init_541 (by decide) ?_
  refine ev_arrP (kc := 38) (ks := 49675) (k := 96) (w := 4000) hok hP rfl (fun i x hi hx => wlM_dis hi hx (rfl : wlModel[62]? = some (96, 63, .int, 4000))) pt_int (by decide) (by decide) (by decide) dModel_init_544 fk_Model_566 rfl ciM rfl dModel_init_546 (fun n sh Rf I L hP => ?_)
  refine ev_aload_n dModel_init_549 rfl ?_
  refine ev_sipush (4000) dModel_init_550 (by decide) ?_
  refine ev_arrP (kc := 37) (ks := 45675) (k := 97) (w := 4000) hok hP rfl (fun i x hi hx => wlM_dis hi hx (rfl : wlModel[63]? = some (97, 64, .int, 4000))) pt_int (by decide) (by decide) (by decide) dModel_init_553 fk_Model_569 rfl ciM rfl dModel_init_555 (fun n sh Rf I L hP => ?_)
  refine ev_aload_n dModel_init_558 rfl ?_
  refine ev_sipush (2000) dModel_init_559 (by decide) ?_
  refine ev_arrP (kc := 36) (ks := 43675) (k := 98) (w := 2000) hok hP rfl (fun i x hi hx => wlM_dis hi hx (rfl : wlModel[64]? = some (98, 65, .boolean, 2000))) pt_boolean (by decide) (by decide) (by decide) dModel_init_562 fk_Model_534 rfl ciM rfl dModel_init_564 (fun n sh Rf I L hP => ?_)
  refine ev_aload_n dModel_init_567 rfl ?_
  refine ev_sipush (2000) dModel_init_568 (by decide) ?_
  refine ev_arrP (kc := 35) (ks := 41675) (k := 99) (w := 2000) hok hP rfl (fun i x hi hx => wlM_dis hi hx (rfl : wlModel[65]? = some (99, 66, .boolean, 2000))) pt_boolean (by decide) (by decide) (by decide) dModel_init_571 fk_Model_450 rfl ciM rfl dModel_init_573 (fun n sh Rf I L hP => ?_)
  refine ev_aload_n dModel_init_576 rfl ?_
  refine ev_sipush (4000) dModel_init_577 (by decide) ?_
  refine ev_arrP (kc := 34) (ks := 37675) (k := 100) (w := 4000) hok hP rfl (fun i x hi hx => wlM_dis hi hx (rfl : wlModel[66]? = some (100, 67, .boolean, 4000))) pt_boolean (by decide) (by decide) (by decide) dModel_init_580 fk_Model_554 rfl ciM rfl dModel_init_582 (fun n sh Rf I L hP => ?_)
  refine ev_aload_n dModel_init_585 rfl ?_
  refine ev_bipush (6) dModel_init_586 (by decide) ?_
  refine ev_arrP (kc := 33) (ks := 37669) (k := 101) (w := 6) hok hP rfl (fun i x hi hx => wlM_dis hi hx (rfl : wlModel[67]? = some (101, 68, .long, 6))) pt_long (by decide) (by decide) (by decide) dModel_init_588 fk_Model_578 rfl ciM rfl dModel_init_590 (fun n sh Rf I L hP => ?_)
  refine ev_aload_n dModel_init_593 rfl ?_
  refine ev_bipush (6) dModel_init_594 (by decide) ?_
  refine ev_arrP (kc := 32) (ks := 37663) (k := 102) (w := 6) hok hP rfl (fun i x hi hx => wlM_dis hi hx (rfl : wlModel[68]? = some (102, 69, .long, 6))) pt_long (by decide) (by decide) (by decide) dModel_init_596 fk_Model_691 rfl ciM rfl dModel_init_598 (fun n sh Rf I L hP => ?_)
  refine ev_aload_n dModel_init_601 rfl ?_
  refine ev_bipush (6) dModel_init_602 (by decide) ?_
  refine ev_arrP (kc := 31) (ks := 37657) (k := 103) (w := 6) hok hP rfl (fun i x hi hx => wlM_dis hi hx (rfl : wlModel[69]? = some (103, 70, .int, 6))) pt_int (by decide) (by decide) (by decide) dModel_init_604 fk_Model_688 rfl ciM rfl dModel_init_606 (fun n sh Rf I L hP => ?_)
  refine ev_aload_n dModel_init_609 rfl ?_
  refine ev_sipush (1440) dModel_init_610 (by decide) ?_
  refine ev_arrP (kc := 30) (ks := 36217) (k := 129) (w := 1440) hok hP rfl (fun i x hi hx => wlM_dis hi hx (rfl : wlModel[70]? = some (129, 71, .int, 1440))) pt_int (by decide) (by decide) (by decide) dModel_init_613 fk_Model_745 rfl ciM rfl dModel_init_615 (fun n sh Rf I L hP => ?_)
  refine ev_aload_n dModel_init_618 rfl ?_
  refine ev_sipush (1440) dModel_init_619 (by decide) ?_
  refine ev_arrP (kc := 29) (ks := 34777) (k := 130) (w := 1440) hok hP rfl (fun i x hi hx => wlM_dis hi hx (rfl : wlModel[71]? = some (130, 72, .int, 1440))) pt_int (by decide) (by decide) (by decide) dModel_init_622 fk_Model_748 rfl ciM rfl dModel_init_624 (fun n sh Rf I L hP => ?_)
  refine ev_aload_n dModel_init_627 rfl ?_
  refine ev_sipush (3600) dModel_init_628 (by decide) ?_
  refine ev_arrP (kc := 28) (ks := 31177) (k := 131) (w := 3600) hok hP rfl (fun i x hi hx => wlM_dis hi hx (rfl : wlModel[72]? = some (131, 73, .int, 3600))) pt_int (by decide) (by decide) (by decide) dModel_init_631 fk_Model_751 rfl ciM rfl dModel_init_633 (fun n sh Rf I L hP => ?_)
  refine ev_aload_n dModel_init_636 rfl ?_
  refine ev_sipush (1440) dModel_init_637 (by decide) ?_
  refine ev_arrP (kc := 27) (ks := 29737) (k := 132) (w := 1440) hok hP rfl (fun i x hi hx => wlM_dis hi hx (rfl : wlModel[73]? = some (132, 74, .int, 1440))) pt_int (by decide) (by decide) (by decide) dModel_init_640 fk_Model_757 rfl ciM rfl dModel_init_642 (fun n sh Rf I L hP => ?_)
  refine ev_aload_n dModel_init_645 rfl ?_
  refine ev_sipush (1440) dModel_init_646 (by decide) ?_
  refine ev_arrP (kc := 26) (ks := 28297) (k := 133) (w := 1440) hok hP rfl (fun i x hi hx => wlM_dis hi hx (rfl : wlModel[74]? = some (133, 75, .long, 1440))) pt_long (by decide) (by decide) (by decide) dModel_init_649 fk_Model_754 rfl ciM rfl dModel_init_651 (fun n sh Rf I L hP => ?_)
  refine ev_aload_n dModel_init_654 rfl ?_
  refine ev_sipush (1440) dModel_init_655 (by decide) ?_
  refine ev_arrP (kc := 25) (ks := 26857) (k := 134) (w := 1440) hok hP rfl (fun i x hi hx => wlM_dis hi hx (rfl : wlModel[75]? = some (134, 76, .long, 1440))) pt_long (by decide) (by decide) (by decide) dModel_init_658 fk_Model_760 rfl ciM rfl dModel_init_660 (fun n sh Rf I L hP => ?_)
  refine ev_aload_n dModel_init_663 rfl ?_
  refine ev_iconst (2) dModel_init_664 (by decide) ?_
  refine ev_arrP (kc := 24) (ks := 26855) (k := 138) (w := 2) hok hP rfl (fun i x hi hx => wlM_dis hi hx (rfl : wlModel[76]? = some (138, 77, .long, 2))) pt_long (by decide) (by decide) (by decide) dModel_init_665 fk_Model_786 rfl ciM rfl dModel_init_667 (fun n sh Rf I L hP => ?_)
  refine ev_aload_n dModel_init_670 rfl ?_
  refine ev_iconst (2) dModel_init_671 (by decide) ?_
  refine ev_arrP (kc := 23) (ks := 26853) (k := 139) (w := 2) hok hP rfl (fun i x hi hx => wlM_dis hi hx (rfl : wlModel[77]? = some (139, 78, .long, 2))) pt_long (by decide) (by decide) (by decide) dModel_init_672 fk_Model_789 rfl ciM rfl dModel_init_674 (fun n sh Rf I L hP => ?_)
  refine ev_aload_n dModel_init_677 rfl ?_
  refine ev_iconst (2) dModel_init_678 (by decide) ?_
  refine ev_arrP (kc := 22) (ks := 26851) (k := 140) (w := 2) hok hP rfl (fun i x hi hx => wlM_dis hi hx (rfl : wlModel[78]? = some (140, 79, .long, 2))) pt_long (by decide) (by decide) (by decide) dModel_init_679 fk_Model_792 rfl ciM rfl dModel_init_681 (fun n sh Rf I L hP => ?_)
  refine ev_aload_n dModel_init_684 rfl ?_
  refine ev_iconst (2) dModel_init_685 (by decide) ?_
  refine ev_arrP (kc := 21) (ks := 26849) (k := 141) (w := 2) hok hP rfl (fun i x hi hx => wlM_dis hi hx (rfl : wlModel[79]? = some (141, 80, .long, 2))) pt_long (by decide) (by decide) (by decide) dModel_init_686 fk_Model_795 rfl ciM rfl dModel_init_688 (fun n sh Rf I L hP => ?_)
  refine ev_aload_n dModel_init_691 rfl ?_
  refine ev_sipush (2000) dModel_init_692 (by decide) ?_
  refine ev_arrP (kc := 20) (ks := 24849) (k := 142) (w := 2000) hok hP rfl (fun i x hi hx => wlM_dis hi hx (rfl : wlModel[80]? = some (142, 81, .int, 2000))) pt_int (by decide) (by decide) (by decide) dModel_init_695 fk_Model_808 rfl ciM rfl dModel_init_697 (fun n sh Rf I L hP => ?_)
  refine ev_aload_n dModel_init_700 rfl ?_
  refine ev_sipush (2000) dModel_init_701 (by decide) ?_
  refine ev_arrP (kc := 19) (ks := 22849) (k := 143) (w := 2000) hok hP rfl (fun i x hi hx => wlM_dis hi hx (rfl : wlModel[81]? = some (143, 82, .int, 2000))) pt_int (by decide) (by decide) (by decide) dModel_init_704 fk_Model_815 rfl ciM rfl dModel_init_706 (fun n sh Rf I L hP => ?_)
  refine ev_aload_n dModel_init_709 rfl ?_
  refine ev_sipush (2000) dModel_init_710 (by decide) ?_
  refine ev_arrP (kc := 18) (ks := 20849) (k := 144) (w := 2000) hok hP rfl (fun i x hi hx => wlM_dis hi hx (rfl : wlModel[82]? = some (144, 83, .int, 2000))) pt_int (by decide) (by decide) (by decide) dModel_init_713 fk_Model_818 rfl ciM rfl dModel_init_715 (fun n sh Rf I L hP => ?_)
  refine ev_aload_n dModel_init_718 rfl ?_
  refine ev_sipush (2000) dModel_init_719 (by decide) ?_
  refine ev_arrP (kc := 17) (ks := 18849) (k := 145) (w := 2000) hok hP rfl (fun i x hi hx => wlM_dis hi hx (rfl : wlModel[83]? = some (145, 84, .int, 2000))) pt_int (by decide) (by decide) (by decide) dModel_init_722 fk_Model_821 rfl ciM rfl dModel_init_724 (fun n sh Rf I L hP => ?_)
  refine ev_aload_n dModel_init_727 rfl ?_
  refine ev_sipush (2000) dModel_init_728 (by decide) ?_
  refine ev_arrP (kc := 16) (ks := 16849) (k := 146) (w := 2000) hok hP rfl (fun i x hi hx => wlM_dis hi hx (rfl : wlModel[84]? = some (146, 85, .int, 2000))) pt_int (by decide) (by decide) (by decide) dModel_init_731 fk_Model_824 rfl ciM rfl dModel_init_733 (fun n sh Rf I L hP => ?_)
  refine ev_aload_n dModel_init_736 rfl ?_
  refine ev_sipush (2000) dModel_init_737 (by decide) ?_
  refine ev_arrP (kc := 15) (ks := 14849) (k := 147) (w := 2000) hok hP rfl (fun i x hi hx => wlM_dis hi hx (rfl : wlModel[85]? = some (147, 86, .int, 2000))) pt_int (by decide) (by decide) (by decide) dModel_init_740 fk_Model_827 rfl ciM rfl dModel_init_742 (fun n sh Rf I L hP => ?_)
  refine ev_aload_n dModel_init_745 rfl ?_
  refine ev_iconst (3) dModel_init_746 (by decide) ?_
  refine ev_arrP (kc := 14) (ks := 14846) (k := 148) (w := 3) hok hP rfl (fun i x hi hx => wlM_dis hi hx (rfl : wlModel[86]? = some (148, 87, .int, 3))) pt_int (by decide) (by decide) (by decide) dModel_init_747 fk_Model_840 rfl ciM rfl dModel_init_749 (fun n sh Rf I L hP => ?_)
  refine ev_aload_n dModel_init_752 rfl ?_
  refine ev_iconst (3) dModel_init_753 (by decide) ?_
  refine ev_arrP (kc := 13) (ks := 14843) (k := 149) (w := 3) hok hP rfl (fun i x hi hx => wlM_dis hi hx (rfl : wlModel[87]? = some (149, 88, .int, 3))) pt_int (by decide) (by decide) (by decide) dModel_init_754 fk_Model_843 rfl ciM rfl dModel_init_756 (fun n sh Rf I L hP => ?_)
  refine ev_aload_n dModel_init_759 rfl ?_
  refine ev_iconst (5) dModel_init_760 (by decide) ?_
  refine ev_arrP (kc := 12) (ks := 14838) (k := 150) (w := 5) hok hP rfl (fun i x hi hx => wlM_dis hi hx (rfl : wlModel[88]? = some (150, 89, .int, 5))) pt_int (by decide) (by decide) (by decide) dModel_init_761 fk_Model_846 rfl ciM rfl dModel_init_763 (fun n sh Rf I L hP => ?_)
  refine ev_aload_n dModel_init_766 rfl ?_
  refine ev_bipush (18) dModel_init_767 (by decide) ?_
  refine ev_arrP (kc := 11) (ks := 14820) (k := 151) (w := 18) hok hP rfl (fun i x hi hx => wlM_dis hi hx (rfl : wlModel[89]? = some (151, 90, .int, 18))) pt_int (by decide) (by decide) (by decide) dModel_init_769 fk_Model_849 rfl ciM rfl dModel_init_771 (fun n sh Rf I L hP => ?_)
  refine ev_aload_n dModel_init_774 rfl ?_
  refine ev_bipush (6) dModel_init_775 (by decide) ?_
  refine ev_arrP (kc := 10) (ks := 14814) (k := 152) (w := 6) hok hP rfl (fun i x hi hx => wlM_dis hi hx (rfl : wlModel[90]? = some (152, 91, .int, 6))) pt_int (by decide) (by decide) (by decide) dModel_init_777 fk_Model_852 rfl ciM rfl dModel_init_779 (fun n sh Rf I L hP => ?_)
  refine ev_aload_n dModel_init_782 rfl ?_
  refine ev_sipush (1440) dModel_init_783 (by decide) ?_
  refine ev_arrP (kc := 9) (ks := 13374) (k := 153) (w := 1440) hok hP rfl (fun i x hi hx => wlM_dis hi hx (rfl : wlModel[91]? = some (153, 92, .int, 1440))) pt_int (by decide) (by decide) (by decide) dModel_init_786 fk_Model_862 rfl ciM rfl dModel_init_788 (fun n sh Rf I L hP => ?_)
  refine ev_aload_n dModel_init_791 rfl ?_
  refine ev_sipush (1440) dModel_init_792 (by decide) ?_
  refine ev_arrP (kc := 8) (ks := 11934) (k := 154) (w := 1440) hok hP rfl (fun i x hi hx => wlM_dis hi hx (rfl : wlModel[92]? = some (154, 93, .int, 1440))) pt_int (by decide) (by decide) (by decide) dModel_init_795 fk_Model_865 rfl ciM rfl dModel_init_797 (fun n sh Rf I L hP => ?_)
  refine ev_aload_n dModel_init_800 rfl ?_
  refine ev_sipush (3600) dModel_init_801 (by decide) ?_
  refine ev_arrP (kc := 7) (ks := 8334) (k := 155) (w := 3600) hok hP rfl (fun i x hi hx => wlM_dis hi hx (rfl : wlModel[93]? = some (155, 94, .int, 3600))) pt_int (by decide) (by decide) (by decide) dModel_init_804 fk_Model_868 rfl ciM rfl dModel_init_806 (fun n sh Rf I L hP => ?_)
  refine ev_aload_n dModel_init_809 rfl ?_
  refine ev_sipush (1440) dModel_init_810 (by decide) ?_
  refine ev_arrP (kc := 6) (ks := 6894) (k := 156) (w := 1440) hok hP rfl (fun i x hi hx => wlM_dis hi hx (rfl : wlModel[94]? = some (156, 95, .int, 1440))) pt_int (by decide) (by decide) (by decide) dModel_init_813 fk_Model_871 rfl ciM rfl dModel_init_815 (fun n sh Rf I L hP => ?_)
  refine ev_aload_n dModel_init_818 rfl ?_
  refine ev_sipush (2000) dModel_init_819 (by decide) ?_
  refine ev_arrP (kc := 5) (ks := 4894) (k := 157) (w := 2000) hok hP rfl (fun i x hi hx => wlM_dis hi hx (rfl : wlModel[95]? = some (157, 96, .boolean, 2000))) pt_boolean (by decide) (by decide) (by decide) dModel_init_822 fk_Model_830 rfl ciM rfl dModel_init_824 (fun n sh Rf I L hP => ?_)
  refine ev_aload_n dModel_init_827 rfl ?_
  refine ev_sipush (2000) dModel_init_828 (by decide) ?_
  refine ev_arrP (kc := 4) (ks := 2894) (k := 158) (w := 2000) hok hP rfl (fun i x hi hx => wlM_dis hi hx (rfl : wlModel[96]? = some (158, 97, .boolean, 2000))) pt_boolean (by decide) (by decide) (by decide) dModel_init_831 fk_Model_837 rfl ciM rfl dModel_init_833 (fun n sh Rf I L hP => ?_)
  refine ev_aload_n dModel_init_836 rfl ?_
  refine ev_bipush (6) dModel_init_837 (by decide) ?_
  refine ev_arrP (kc := 3) (ks := 2888) (k := 159) (w := 6) hok hP rfl (fun i x hi hx => wlM_dis hi hx (rfl : wlModel[97]? = some (159, 98, .long, 6))) pt_long (by decide) (by decide) (by decide) dModel_init_839 fk_Model_855 rfl ciM rfl dModel_init_841 (fun n sh Rf I L hP => ?_)
  refine ev_aload_n dModel_init_844 rfl ?_
  refine ev_sipush (1440) dModel_init_845 (by decide) ?_
  refine ev_arrP (kc := 2) (ks := 1448) (k := 160) (w := 1440) hok hP rfl (fun i x hi hx => wlM_dis hi hx (rfl : wlModel[98]? = some (160, 99, .long, 1440))) pt_long (by decide) (by decide) (by decide) dModel_init_848 fk_Model_874 rfl ciM rfl dModel_init_850 (fun n sh Rf I L hP => ?_)
  refine ev_aload_n dModel_init_853 rfl ?_
  refine ev_sipush (1440) dModel_init_854 (by decide) ?_
  refine ev_arrP (kc := 1) (ks := 8) (k := 161) (w := 1440) hok hP rfl (fun i x hi hx => wlM_dis hi hx (rfl : wlModel[99]? = some (161, 100, .long, 1440))) pt_long (by decide) (by decide) (by decide) dModel_init_857 fk_Model_877 rfl ciM rfl dModel_init_859 (fun n sh Rf I L hP => ?_)
  refine ev_aload_n dModel_init_862 rfl ?_
  refine ev_bipush (8) dModel_init_863 (by decide) ?_
  refine ev_arrP (kc := 0) (ks := 0) (k := 162) (w := 8) hok hP rfl (fun i x hi hx => wlM_dis hi hx (rfl : wlModel[100]? = some (162, 101, .long, 8))) pt_long (by decide) (by decide) (by decide) dModel_init_865 fk_Model_880 rfl ciM rfl dModel_init_867 (fun n sh Rf I L hP => ?_)
  exact kk n sh Rf I L hP
end MInit
