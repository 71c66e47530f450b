/-! The constructors of the class's plain parts. -/
theorem wlFacts_lt : wlFacts.Pairwise (fun x y => x.1 < y.1) := by decide
theorem wlFacts_dis {i j : Nat} {x y : Nat × Nat × FieldType × Nat} (hij : i < j) (hx : wlFacts[i]? = some x) (hy : wlFacts[j]? = some y) : x.1 ≠ y.1 := by
  obtain ⟨h1, e1⟩ := List.getElem?_eq_some_iff.mp hx
  obtain ⟨h2, e2⟩ := List.getElem?_eq_some_iff.mp hy
  have := List.pairwise_iff_getElem.mp wlFacts_lt i j h1 h2 hij
  rw [e1, e2] at this
  exact Nat.ne_of_lt this
theorem ciFacts : ∀ q : vw_C, qcl[0]? = some q → q.1 = "SaltOffice$Facts" := by
  intro q h
  have := Option.some.inj (h.symm.trans (rfl : qcl[0]? = some (qR0, qT0, 7)))
  subst this
  rfl
theorem wlFacts_off : ∀ i, i < 6 → ∀ x, wlFacts[i]? = some x → x.2.1 = i + 1 := by decide +kernel
def iFFacts : Nat → Int32 := fun y => if y = 6 then 0 else 0
def iLFacts : Nat → Int64 := fun _ => 0
set_option maxHeartbeats 40000000 in
set_option maxRecDepth 20000 in
theorem iFacts_rows {D : va_G} {cA : FieldType → ClassId} {b : Nat} {E : State → Prop} {o n0 : Nat} {sh0 : Nat → qC} {Rf0 : Nat → Nat → Option Nat} {I0 : Nat → Nat → Int32} {L0 : Nat → Nat → Int64} {post : Option Value → qS → Prop} {n : Nat} {sh : Nat → qC} {Rf : Nat → Nat → Option Nat} {I : Nat → Nat → Int32} {L : Nat → Nat → Int64} (hok : q_ok (qGG D cA b E)) (hP : PJ (qGG D cA b E) 0 wlFacts o n0 sh0 Rf0 I0 L0 0 (fun _ => 0) (fun _ => 0) n sh Rf I L) (kk : ∀ n sh Rf I L, PJ (qGG D cA b E) 0 wlFacts o n0 sh0 Rf0 I0 L0 6 iFFacts iLFacts n sh Rf I L → Ev (qGG D cA b E) mFacts_init 1 (0, 0) 57 [(0, .ref o)] [] (n, sh, Rf, I, L) post) : Ev (qGG D cA b E) mFacts_init 1 (6, 240) 0 (lv_args 0 [.ref o]) [] (n, sh, Rf, I, L) post := by
  refine ev_aload_n dFacts_init_0 rfl ?_
  refine ev_obj (by decide) (q_t2 84 (by decide +kernel) rfl) (q_t1 29 (by decide +kernel) rfl) (q_t1 30 rfl rfl) (Nat.le_of_ble_eq_true rfl) dFacts_init_1 ?_
  refine ev_aload_n dFacts_init_4 rfl ?_
  refine ev_bipush (40) dFacts_init_5 (by decide) ?_
  refine ev_arrP (kc := 5) (ks := 200) (k := 0) (w := 40) hok hP rfl (fun i x hi hx => wlFacts_dis hi hx (rfl : wlFacts[0]? = some (0, 1, .int, 40))) pt_int (by decide) (by decide) (by decide) dFacts_init_7 fk_Facts_9 rfl ciFacts rfl dFacts_init_9 (fun n sh Rf I L hP => ?_)
  refine ev_aload_n dFacts_init_12 rfl ?_
  refine ev_bipush (40) dFacts_init_13 (by decide) ?_
  refine ev_arrP (kc := 4) (ks := 160) (k := 1) (w := 40) hok hP rfl (fun i x hi hx => wlFacts_dis hi hx (rfl : wlFacts[1]? = some (1, 2, .int, 40))) pt_int (by decide) (by decide) (by decide) dFacts_init_15 fk_Facts_15 rfl ciFacts rfl dFacts_init_17 (fun n sh Rf I L hP => ?_)
  refine ev_aload_n dFacts_init_20 rfl ?_
  refine ev_bipush (40) dFacts_init_21 (by decide) ?_
  refine ev_arrP (kc := 3) (ks := 120) (k := 2) (w := 40) hok hP rfl (fun i x hi hx => wlFacts_dis hi hx (rfl : wlFacts[2]? = some (2, 3, .int, 40))) pt_int (by decide) (by decide) (by decide) dFacts_init_23 fk_Facts_18 rfl ciFacts rfl dFacts_init_25 (fun n sh Rf I L hP => ?_)
  refine ev_aload_n dFacts_init_28 rfl ?_
  refine ev_bipush (40) dFacts_init_29 (by decide) ?_
  refine ev_arrP (kc := 2) (ks := 80) (k := 3) (w := 40) hok hP rfl (fun i x hi hx => wlFacts_dis hi hx (rfl : wlFacts[3]? = some (3, 4, .int, 40))) pt_int (by decide) (by decide) (by decide) dFacts_init_31 fk_Facts_21 rfl ciFacts rfl dFacts_init_33 (fun n sh Rf I L hP => ?_)
  refine ev_aload_n dFacts_init_36 rfl ?_
  refine ev_bipush (40) dFacts_init_37 (by decide) ?_
  refine ev_arrP (kc := 1) (ks := 40) (k := 4) (w := 40) hok hP rfl (fun i x hi hx => wlFacts_dis hi hx (rfl : wlFacts[4]? = some (4, 5, .int, 40))) pt_int (by decide) (by decide) (by decide) dFacts_init_39 fk_Facts_24 rfl ciFacts rfl dFacts_init_41 (fun n sh Rf I L hP => ?_)
  refine ev_aload_n dFacts_init_44 rfl ?_
  refine ev_bipush (40) dFacts_init_45 (by decide) ?_
  refine ev_arrP (kc := 0) (ks := 0) (k := 5) (w := 40) hok hP rfl (fun i x hi hx => wlFacts_dis hi hx (rfl : wlFacts[5]? = some (5, 6, .int, 40))) pt_int (by decide) (by decide) (by decide) dFacts_init_47 fk_Facts_27 rfl ciFacts rfl dFacts_init_49 (fun n sh Rf I L hP => ?_)
  refine ev_aload_n dFacts_init_52 rfl ?_
  refine ev_iconst (0) dFacts_init_53 (by decide) ?_
  refine ev_intP hok hP fk_Facts_30 rfl dFacts_init_54 (fun I hP => ?_)
  exact kk n sh Rf I L hP
theorem PJ.wfFacts {D : va_G} {cA : FieldType → ClassId} {b : Nat} {E : State → Prop} {o n0 : Nat} {sh0 : Nat → qC} {Rf0 : Nat → Nat → Option Nat} {I0 : Nat → Nat → Int32} {L0 : Nat → Nat → Int64} {n : Nat} {sh : Nat → qC} {Rf : Nat → Nat → Option Nat} {I : Nat → Nat → Int32} {L : Nat → Nat → Int64} {F : Nat → Int32} {FL : Nat → Int64} (h : PJ (qGG D cA b E) 0 wlFacts o n0 sh0 Rf0 I0 L0 6 F FL n sh Rf I L) : WfFacts (qGG D cA b E) n sh Rf o := by
  obtain ⟨p1, p2, p3, p4, p5, p6, p7, p8⟩ := h
  refine ⟨⟨p2, by omega, p4⟩, fun x hx => ?_⟩
  obtain ⟨i, hi⟩ := List.getElem?_of_mem hx
  have hl : i < 6 := (List.getElem?_eq_some_iff.mp hi).1
  obtain ⟨a1, a2, -, -⟩ := p7 i x hl hi
  rw [wlFacts_off i hl x hi]
  exact ⟨a1, a2⟩
/-- what a new SaltOffice$Facts is: its fields, its rows of zeros; nothing below it has changed -/
def NewFacts (o n n' : Nat) (sh sh' : Nat → qC) (Rf Rf' : Nat → Nat → Option Nat) (I I' : Nat → Nat → Int32) (L L' : Nat → Nat → Int64) : Prop := n' = n + 6 ∧ I' o = iFFacts ∧ L' o = iLFacts ∧ (∀ i, i < 6 → I' (o + (i + 1)) = (fun _ => 0) ∧ L' (o + (i + 1)) = (fun _ => 0)) ∧ ∀ a, a < o → sh' a = sh a ∧ Rf' a = Rf a ∧ I' a = I a ∧ L' a = L a
theorem PJ.newFacts {D : va_G} {cA : FieldType → ClassId} {b : Nat} {E : State → Prop} {o n0 : Nat} {sh0 : Nat → qC} {Rf0 : Nat → Nat → Option Nat} {I0 : Nat → Nat → Int32} {L0 : Nat → Nat → Int64} {n : Nat} {sh : Nat → qC} {Rf : Nat → Nat → Option Nat} {I : Nat → Nat → Int32} {L : Nat → Nat → Int64} (h : PJ (qGG D cA b E) 0 wlFacts o n0 sh0 Rf0 I0 L0 6 iFFacts iLFacts n sh Rf I L) : NewFacts o n0 n sh0 sh Rf0 Rf I0 I L0 L := by
  obtain ⟨p1, p2, p3, p4, p5, p6, p7, p8⟩ := h
  refine ⟨p1, p5, p6, fun i hi => ?_, p8⟩
  have hl : i < wlFacts.length := hi
  obtain ⟨-, -, a3, a4⟩ := p7 i _ hi (List.getElem?_eq_getElem hl)
  exact ⟨a3, a4⟩
theorem iFacts {D : va_G} {cA : FieldType → ClassId} {b : Nat} {E : State → Prop} {o n0 : Nat} {sh0 : Nat → qC} {Rf0 : Nat → Nat → Option Nat} {I0 : Nat → Nat → Int32} {L0 : Nat → Nat → Int64} {post : Option Value → qS → Prop} {n : Nat} {sh : Nat → qC} {Rf : Nat → Nat → Option Nat} {I : Nat → Nat → Int32} {L : Nat → Nat → Int64} (hok : q_ok (qGG D cA b E)) (hb : b ≤ o) (hn : o + 1 = b + n) (hs : sh o = .inr 0) (hI : I o = fun _ => 0) (hL : L o = fun _ => 0) (hp : ∀ n' sh' Rf' I' L', WfFacts (qGG D cA b E) n' sh' Rf' o → NewFacts o n n' sh sh' Rf Rf' I I' L L' → post none (n', sh', Rf', I', L')) : Ev (qGG D cA b E) mFacts_init 1 (6, 240) 0 (lv_args 0 [.ref o]) [] (n, sh, Rf, I, L) post :=
  iFacts_rows (n0 := n) (sh0 := sh) (Rf0 := Rf) (I0 := I) (L0 := L) hok ⟨rfl, hb, hn, hs, hI, hL, fun i x hi => absurd hi (by omega), fun a ha => ⟨rfl, rfl, rfl, rfl⟩⟩ (fun n1 sh1 Rf1 I1 L1 hP => ev_vret rfl dFacts_init_57 (hp n1 sh1 Rf1 I1 L1 hP.wfFacts hP.newFacts))
theorem wlLand_lt : wlLand.Pairwise (fun x y => x.1 < y.1) := by decide
theorem wlLand_dis {i j : Nat} {x y : Nat × Nat × FieldType × Nat} (hij : i < j) (hx : wlLand[i]? = some x) (hy : wlLand[j]? = some y) : x.1 ≠ y.1 := by
  obtain ⟨h1, e1⟩ := List.getElem?_eq_some_iff.mp hx
  obtain ⟨h2, e2⟩ := List.getElem?_eq_some_iff.mp hy
  have := List.pairwise_iff_getElem.mp wlLand_lt i j h1 h2 hij
  rw [e1, e2] at this
  exact Nat.ne_of_lt this
theorem ciLand : ∀ q : vw_C, qcl[1]? = some q → q.1 = "SaltOffice$Land" := by
  intro q h
  have := Option.some.inj (h.symm.trans (rfl : qcl[1]? = some (qR1, qT1, 20)))
  subst this
  rfl
theorem wlLand_off : ∀ i, i < 15 → ∀ x, wlLand[i]? = some x → x.2.1 = i + 1 := by decide +kernel
def iFLand : Nat → Int32 := fun y => if y = 4 then 0 else if y = 3 then 0 else if y = 2 then 0 else if y = 1 then 0 else if y = 0 then 0 else 0
def iLLand : Nat → Int64 := fun _ => 0
set_option maxHeartbeats 40000000 in
set_option maxRecDepth 20000 in
theorem iLand_rows {D : va_G} {cA : FieldType → ClassId} {b : Nat} {E : State → Prop} {o n0 : Nat} {sh0 : Nat → qC} {Rf0 : Nat → Nat → Option Nat} {I0 : Nat → Nat → Int32} {L0 : Nat → Nat → Int64} {post : Option Value → qS → Prop} {n : Nat} {sh : Nat → qC} {Rf : Nat → Nat → Option Nat} {I : Nat → Nat → Int32} {L : Nat → Nat → Int64} (hok : q_ok (qGG D cA b E)) (hP : PJ (qGG D cA b E) 1 wlLand o n0 sh0 Rf0 I0 L0 0 (fun _ => 0) (fun _ => 0) n sh Rf I L) (kk : ∀ n sh Rf I L, PJ (qGG D cA b E) 1 wlLand o n0 sh0 Rf0 I0 L0 15 iFLand iLLand n sh Rf I L → Ev (qGG D cA b E) mLand_init 2 (0, 0) 139 [(0, .ref o)] [] (n, sh, Rf, I, L) post) : Ev (qGG D cA b E) mLand_init 2 (15, 363) 0 (lv_args 0 [.ref o]) [] (n, sh, Rf, I, L) post := by
  refine ev_aload_n dLand_init_0 rfl ?_
  refine ev_obj (by decide) (q_t1 139 (by decide +kernel) rfl) (q_t1 29 (by decide +kernel) rfl) (q_t1 30 rfl rfl) (Nat.le_of_ble_eq_true rfl) dLand_init_1 ?_
  refine ev_aload_n dLand_init_4 rfl ?_
  refine ev_iconst (0) dLand_init_5 (by decide) ?_
  refine ev_intP hok hP fk_Land_9 rfl dLand_init_6 (fun I hP => ?_)
  refine ev_aload_n dLand_init_9 rfl ?_
  refine ev_iconst (0) dLand_init_10 (by decide) ?_
  refine ev_intP hok hP fk_Land_15 rfl dLand_init_11 (fun I hP => ?_)
  refine ev_aload_n dLand_init_14 rfl ?_
  refine ev_iconst (0) dLand_init_15 (by decide) ?_
  refine ev_intP hok hP fk_Land_18 rfl dLand_init_16 (fun I hP => ?_)
  refine ev_aload_n dLand_init_19 rfl ?_
  refine ev_iconst (0) dLand_init_20 (by decide) ?_
  refine ev_intP hok hP fk_Land_21 rfl dLand_init_21 (fun I hP => ?_)
  refine ev_aload_n dLand_init_24 rfl ?_
  refine ev_iconst (0) dLand_init_25 (by decide) ?_
  refine ev_intP hok hP fk_Land_24 rfl dLand_init_26 (fun I hP => ?_)
  refine ev_aload_n dLand_init_29 rfl ?_
  refine ev_bipush (11) dLand_init_30 (by decide) ?_
  refine ev_arrP (kc := 14) (ks := 352) (k := 5) (w := 11) hok hP rfl (fun i x hi hx => wlLand_dis hi hx (rfl : wlLand[0]? = some (5, 1, .long, 11))) pt_long (by decide) (by decide) (by decide) dLand_init_32 fk_Land_27 rfl ciLand rfl dLand_init_34 (fun n sh Rf I L hP => ?_)
  refine ev_aload_n dLand_init_37 rfl ?_
  refine ev_sipush (256) dLand_init_38 (by decide) ?_
  refine ev_arrP (kc := 13) (ks := 96) (k := 6) (w := 256) hok hP rfl (fun i x hi hx => wlLand_dis hi hx (rfl : wlLand[1]? = some (6, 2, .int, 256))) pt_int (by decide) (by decide) (by decide) dLand_init_41 fk_Land_31 rfl ciLand rfl dLand_init_43 (fun n sh Rf I L hP => ?_)
  refine ev_aload_n dLand_init_46 rfl ?_
  refine ev_iconst (3) dLand_init_47 (by decide) ?_
  refine ev_arrP (kc := 12) (ks := 93) (k := 7) (w := 3) hok hP rfl (fun i x hi hx => wlLand_dis hi hx (rfl : wlLand[2]? = some (7, 3, .int, 3))) pt_int (by decide) (by decide) (by decide) dLand_init_48 fk_Land_35 rfl ciLand rfl dLand_init_50 (fun n sh Rf I L hP => ?_)
  refine ev_aload_n dLand_init_53 rfl ?_
  refine ev_iconst (3) dLand_init_54 (by decide) ?_
  refine ev_arrP (kc := 11) (ks := 90) (k := 8) (w := 3) hok hP rfl (fun i x hi hx => wlLand_dis hi hx (rfl : wlLand[3]? = some (8, 4, .int, 3))) pt_int (by decide) (by decide) (by decide) dLand_init_55 fk_Land_38 rfl ciLand rfl dLand_init_57 (fun n sh Rf I L hP => ?_)
  refine ev_aload_n dLand_init_60 rfl ?_
  refine ev_iconst (3) dLand_init_61 (by decide) ?_
  refine ev_arrP (kc := 10) (ks := 87) (k := 9) (w := 3) hok hP rfl (fun i x hi hx => wlLand_dis hi hx (rfl : wlLand[4]? = some (9, 5, .int, 3))) pt_int (by decide) (by decide) (by decide) dLand_init_62 fk_Land_41 rfl ciLand rfl dLand_init_64 (fun n sh Rf I L hP => ?_)
  refine ev_aload_n dLand_init_67 rfl ?_
  refine ev_iconst (3) dLand_init_68 (by decide) ?_
  refine ev_arrP (kc := 9) (ks := 84) (k := 10) (w := 3) hok hP rfl (fun i x hi hx => wlLand_dis hi hx (rfl : wlLand[5]? = some (10, 6, .int, 3))) pt_int (by decide) (by decide) (by decide) dLand_init_69 fk_Land_44 rfl ciLand rfl dLand_init_71 (fun n sh Rf I L hP => ?_)
  refine ev_aload_n dLand_init_74 rfl ?_
  refine ev_bipush (36) dLand_init_75 (by decide) ?_
  refine ev_arrP (kc := 8) (ks := 48) (k := 11) (w := 36) hok hP rfl (fun i x hi hx => wlLand_dis hi hx (rfl : wlLand[6]? = some (11, 7, .int, 36))) pt_int (by decide) (by decide) (by decide) dLand_init_77 fk_Land_47 rfl ciLand rfl dLand_init_79 (fun n sh Rf I L hP => ?_)
  refine ev_aload_n dLand_init_82 rfl ?_
  refine ev_bipush (15) dLand_init_83 (by decide) ?_
  refine ev_arrP (kc := 7) (ks := 33) (k := 12) (w := 15) hok hP rfl (fun i x hi hx => wlLand_dis hi hx (rfl : wlLand[7]? = some (12, 8, .int, 15))) pt_int (by decide) (by decide) (by decide) dLand_init_85 fk_Land_50 rfl ciLand rfl dLand_init_87 (fun n sh Rf I L hP => ?_)
  refine ev_aload_n dLand_init_90 rfl ?_
  refine ev_iconst (3) dLand_init_91 (by decide) ?_
  refine ev_arrP (kc := 6) (ks := 30) (k := 13) (w := 3) hok hP rfl (fun i x hi hx => wlLand_dis hi hx (rfl : wlLand[8]? = some (13, 9, .int, 3))) pt_int (by decide) (by decide) (by decide) dLand_init_92 fk_Land_53 rfl ciLand rfl dLand_init_94 (fun n sh Rf I L hP => ?_)
  refine ev_aload_n dLand_init_97 rfl ?_
  refine ev_iconst (5) dLand_init_98 (by decide) ?_
  refine ev_arrP (kc := 5) (ks := 25) (k := 14) (w := 5) hok hP rfl (fun i x hi hx => wlLand_dis hi hx (rfl : wlLand[9]? = some (14, 10, .int, 5))) pt_int (by decide) (by decide) (by decide) dLand_init_99 fk_Land_56 rfl ciLand rfl dLand_init_101 (fun n sh Rf I L hP => ?_)
  refine ev_aload_n dLand_init_104 rfl ?_
  refine ev_iconst (5) dLand_init_105 (by decide) ?_
  refine ev_arrP (kc := 4) (ks := 20) (k := 15) (w := 5) hok hP rfl (fun i x hi hx => wlLand_dis hi hx (rfl : wlLand[10]? = some (15, 11, .int, 5))) pt_int (by decide) (by decide) (by decide) dLand_init_106 fk_Land_59 rfl ciLand rfl dLand_init_108 (fun n sh Rf I L hP => ?_)
  refine ev_aload_n dLand_init_111 rfl ?_
  refine ev_iconst (5) dLand_init_112 (by decide) ?_
  refine ev_arrP (kc := 3) (ks := 15) (k := 16) (w := 5) hok hP rfl (fun i x hi hx => wlLand_dis hi hx (rfl : wlLand[11]? = some (16, 12, .int, 5))) pt_int (by decide) (by decide) (by decide) dLand_init_113 fk_Land_62 rfl ciLand rfl dLand_init_115 (fun n sh Rf I L hP => ?_)
  refine ev_aload_n dLand_init_118 rfl ?_
  refine ev_iconst (5) dLand_init_119 (by decide) ?_
  refine ev_arrP (kc := 2) (ks := 10) (k := 17) (w := 5) hok hP rfl (fun i x hi hx => wlLand_dis hi hx (rfl : wlLand[12]? = some (17, 13, .int, 5))) pt_int (by decide) (by decide) (by decide) dLand_init_120 fk_Land_65 rfl ciLand rfl dLand_init_122 (fun n sh Rf I L hP => ?_)
  refine ev_aload_n dLand_init_125 rfl ?_
  refine ev_iconst (5) dLand_init_126 (by decide) ?_
  refine ev_arrP (kc := 1) (ks := 5) (k := 18) (w := 5) hok hP rfl (fun i x hi hx => wlLand_dis hi hx (rfl : wlLand[13]? = some (18, 14, .int, 5))) pt_int (by decide) (by decide) (by decide) dLand_init_127 fk_Land_68 rfl ciLand rfl dLand_init_129 (fun n sh Rf I L hP => ?_)
  refine ev_aload_n dLand_init_132 rfl ?_
  refine ev_iconst (5) dLand_init_133 (by decide) ?_
  refine ev_arrP (kc := 0) (ks := 0) (k := 19) (w := 5) hok hP rfl (fun i x hi hx => wlLand_dis hi hx (rfl : wlLand[14]? = some (19, 15, .int, 5))) pt_int (by decide) (by decide) (by decide) dLand_init_134 fk_Land_71 rfl ciLand rfl dLand_init_136 (fun n sh Rf I L hP => ?_)
  exact kk n sh Rf I L hP
theorem PJ.wfLand {D : va_G} {cA : FieldType → ClassId} {b : Nat} {E : State → Prop} {o n0 : Nat} {sh0 : Nat → qC} {Rf0 : Nat → Nat → Option Nat} {I0 : Nat → Nat → Int32} {L0 : Nat → Nat → Int64} {n : Nat} {sh : Nat → qC} {Rf : Nat → Nat → Option Nat} {I : Nat → Nat → Int32} {L : Nat → Nat → Int64} {F : Nat → Int32} {FL : Nat → Int64} (h : PJ (qGG D cA b E) 1 wlLand o n0 sh0 Rf0 I0 L0 15 F FL n sh Rf I L) : WfLand (qGG D cA b E) n sh Rf o := by
  obtain ⟨p1, p2, p3, p4, p5, p6, p7, p8⟩ := h
  refine ⟨⟨p2, by omega, p4⟩, fun x hx => ?_⟩
  obtain ⟨i, hi⟩ := List.getElem?_of_mem hx
  have hl : i < 15 := (List.getElem?_eq_some_iff.mp hi).1
  obtain ⟨a1, a2, -, -⟩ := p7 i x hl hi
  rw [wlLand_off i hl x hi]
  exact ⟨a1, a2⟩
/-- what a new SaltOffice$Land is: its fields, its rows of zeros; nothing below it has changed -/
def NewLand (o n n' : Nat) (sh sh' : Nat → qC) (Rf Rf' : Nat → Nat → Option Nat) (I I' : Nat → Nat → Int32) (L L' : Nat → Nat → Int64) : Prop := n' = n + 15 ∧ I' o = iFLand ∧ L' o = iLLand ∧ (∀ i, i < 15 → I' (o + (i + 1)) = (fun _ => 0) ∧ L' (o + (i + 1)) = (fun _ => 0)) ∧ ∀ a, a < o → sh' a = sh a ∧ Rf' a = Rf a ∧ I' a = I a ∧ L' a = L a
theorem PJ.newLand {D : va_G} {cA : FieldType → ClassId} {b : Nat} {E : State → Prop} {o n0 : Nat} {sh0 : Nat → qC} {Rf0 : Nat → Nat → Option Nat} {I0 : Nat → Nat → Int32} {L0 : Nat → Nat → Int64} {n : Nat} {sh : Nat → qC} {Rf : Nat → Nat → Option Nat} {I : Nat → Nat → Int32} {L : Nat → Nat → Int64} (h : PJ (qGG D cA b E) 1 wlLand o n0 sh0 Rf0 I0 L0 15 iFLand iLLand n sh Rf I L) : NewLand o n0 n sh0 sh Rf0 Rf I0 I L0 L := by
  obtain ⟨p1, p2, p3, p4, p5, p6, p7, p8⟩ := h
  refine ⟨p1, p5, p6, fun i hi => ?_, p8⟩
  have hl : i < wlLand.length := hi
  obtain ⟨-, -, a3, a4⟩ := p7 i _ hi (List.getElem?_eq_getElem hl)
  exact ⟨a3, a4⟩
theorem wlTrade_lt : wlTrade.Pairwise (fun x y => x.1 < y.1) := by decide
theorem wlTrade_dis {i j : Nat} {x y : Nat × Nat × FieldType × Nat} (hij : i < j) (hx : wlTrade[i]? = some x) (hy : wlTrade[j]? = some y) : x.1 ≠ y.1 := by
  obtain ⟨h1, e1⟩ := List.getElem?_eq_some_iff.mp hx
  obtain ⟨h2, e2⟩ := List.getElem?_eq_some_iff.mp hy
  have := List.pairwise_iff_getElem.mp wlTrade_lt i j h1 h2 hij
  rw [e1, e2] at this
  exact Nat.ne_of_lt this
theorem ciTrade : ∀ q : vw_C, qcl[9]? = some q → q.1 = "SaltOffice$Trade" := by
  intro q h
  have := Option.some.inj (h.symm.trans (rfl : qcl[9]? = some (qR9, qT9, 7)))
  subst this
  rfl
theorem wlTrade_off : ∀ i, i < 1 → ∀ x, wlTrade[i]? = some x → x.2.1 = i + 1 := by decide +kernel
def iFTrade : Nat → Int32 := fun y => if y = 6 then 20 else if y = 5 then 500 else if y = 4 then 1 else if y = 3 then 5 else if y = 2 then 1 else if y = 1 then 0 else 0
def iLTrade : Nat → Int64 := fun _ => 0
set_option maxHeartbeats 40000000 in
set_option maxRecDepth 20000 in
theorem iTrade_rows {D : va_G} {cA : FieldType → ClassId} {b : Nat} {E : State → Prop} {o n0 : Nat} {sh0 : Nat → qC} {Rf0 : Nat → Nat → Option Nat} {I0 : Nat → Nat → Int32} {L0 : Nat → Nat → Int64} {post : Option Value → qS → Prop} {n : Nat} {sh : Nat → qC} {Rf : Nat → Nat → Option Nat} {I : Nat → Nat → Int32} {L : Nat → Nat → Int64} (hok : q_ok (qGG D cA b E)) (hP : PJ (qGG D cA b E) 9 wlTrade o n0 sh0 Rf0 I0 L0 0 (fun _ => 0) (fun _ => 0) n sh Rf I L) (kk : ∀ n sh Rf I L, PJ (qGG D cA b E) 9 wlTrade o n0 sh0 Rf0 I0 L0 1 iFTrade iLTrade n sh Rf I L → Ev (qGG D cA b E) mTrade_init 1 (0, 0) 45 [(0, .ref o)] [] (n, sh, Rf, I, L) post) : Ev (qGG D cA b E) mTrade_init 1 (1, 6) 0 (lv_args 0 [.ref o]) [] (n, sh, Rf, I, L) post := by
  refine ev_aload_n dTrade_init_0 rfl ?_
  refine ev_obj (by decide) (q_t2 40 (by decide +kernel) rfl) (q_t1 29 (by decide +kernel) rfl) (q_t1 30 rfl rfl) (Nat.le_of_ble_eq_true rfl) dTrade_init_1 ?_
  refine ev_aload_n dTrade_init_4 rfl ?_
  refine ev_bipush (6) dTrade_init_5 (by decide) ?_
  refine ev_arrP (kc := 0) (ks := 0) (k := 0) (w := 6) hok hP rfl (fun i x hi hx => wlTrade_dis hi hx (rfl : wlTrade[0]? = some (0, 1, .int, 6))) pt_int (by decide) (by decide) (by decide) dTrade_init_7 fk_Trade_9 rfl ciTrade rfl dTrade_init_9 (fun n sh Rf I L hP => ?_)
  refine ev_aload_n dTrade_init_12 rfl ?_
  refine ev_iconst (0) dTrade_init_13 (by decide) ?_
  refine ev_intP hok hP fk_Trade_15 rfl dTrade_init_14 (fun I hP => ?_)
  refine ev_aload_n dTrade_init_17 rfl ?_
  refine ev_iconst (1) dTrade_init_18 (by decide) ?_
  refine ev_intP hok hP fk_Trade_19 rfl dTrade_init_19 (fun I hP => ?_)
  refine ev_aload_n dTrade_init_22 rfl ?_
  refine ev_iconst (5) dTrade_init_23 (by decide) ?_
  refine ev_intP hok hP fk_Trade_22 rfl dTrade_init_24 (fun I hP => ?_)
  refine ev_aload_n dTrade_init_27 rfl ?_
  refine ev_iconst (1) dTrade_init_28 (by decide) ?_
  refine ev_intP hok hP fk_Trade_25 rfl dTrade_init_29 (fun I hP => ?_)
  refine ev_aload_n dTrade_init_32 rfl ?_
  refine ev_sipush (500) dTrade_init_33 (by decide) ?_
  refine ev_intP hok hP fk_Trade_28 rfl dTrade_init_36 (fun I hP => ?_)
  refine ev_aload_n dTrade_init_39 rfl ?_
  refine ev_bipush (20) dTrade_init_40 (by decide) ?_
  refine ev_intP hok hP fk_Trade_31 rfl dTrade_init_42 (fun I hP => ?_)
  exact kk n sh Rf I L hP
theorem PJ.wfTrade {D : va_G} {cA : FieldType → ClassId} {b : Nat} {E : State → Prop} {o n0 : Nat} {sh0 : Nat → qC} {Rf0 : Nat → Nat → Option Nat} {I0 : Nat → Nat → Int32} {L0 : Nat → Nat → Int64} {n : Nat} {sh : Nat → qC} {Rf : Nat → Nat → Option Nat} {I : Nat → Nat → Int32} {L : Nat → Nat → Int64} {F : Nat → Int32} {FL : Nat → Int64} (h : PJ (qGG D cA b E) 9 wlTrade o n0 sh0 Rf0 I0 L0 1 F FL n sh Rf I L) : WfTrade (qGG D cA b E) n sh Rf o := by
  obtain ⟨p1, p2, p3, p4, p5, p6, p7, p8⟩ := h
  refine ⟨⟨p2, by omega, p4⟩, fun x hx => ?_⟩
  obtain ⟨i, hi⟩ := List.getElem?_of_mem hx
  have hl : i < 1 := (List.getElem?_eq_some_iff.mp hi).1
  obtain ⟨a1, a2, -, -⟩ := p7 i x hl hi
  rw [wlTrade_off i hl x hi]
  exact ⟨a1, a2⟩
/-- what a new SaltOffice$Trade is: its fields, its rows of zeros; nothing below it has changed -/
def NewTrade (o n n' : Nat) (sh sh' : Nat → qC) (Rf Rf' : Nat → Nat → Option Nat) (I I' : Nat → Nat → Int32) (L L' : Nat → Nat → Int64) : Prop := n' = n + 1 ∧ I' o = iFTrade ∧ L' o = iLTrade ∧ (∀ i, i < 1 → I' (o + (i + 1)) = (fun _ => 0) ∧ L' (o + (i + 1)) = (fun _ => 0)) ∧ ∀ a, a < o → sh' a = sh a ∧ Rf' a = Rf a ∧ I' a = I a ∧ L' a = L a
theorem PJ.newTrade {D : va_G} {cA : FieldType → ClassId} {b : Nat} {E : State → Prop} {o n0 : Nat} {sh0 : Nat → qC} {Rf0 : Nat → Nat → Option Nat} {I0 : Nat → Nat → Int32} {L0 : Nat → Nat → Int64} {n : Nat} {sh : Nat → qC} {Rf : Nat → Nat → Option Nat} {I : Nat → Nat → Int32} {L : Nat → Nat → Int64} (h : PJ (qGG D cA b E) 9 wlTrade o n0 sh0 Rf0 I0 L0 1 iFTrade iLTrade n sh Rf I L) : NewTrade o n0 n sh0 sh Rf0 Rf I0 I L0 L := by
  obtain ⟨p1, p2, p3, p4, p5, p6, p7, p8⟩ := h
  refine ⟨p1, p5, p6, fun i hi => ?_, p8⟩
  have hl : i < wlTrade.length := hi
  obtain ⟨-, -, a3, a4⟩ := p7 i _ hi (List.getElem?_eq_getElem hl)
  exact ⟨a3, a4⟩
theorem iTrade {D : va_G} {cA : FieldType → ClassId} {b : Nat} {E : State → Prop} {o n0 : Nat} {sh0 : Nat → qC} {Rf0 : Nat → Nat → Option Nat} {I0 : Nat → Nat → Int32} {L0 : Nat → Nat → Int64} {post : Option Value → qS → Prop} {n : Nat} {sh : Nat → qC} {Rf : Nat → Nat → Option Nat} {I : Nat → Nat → Int32} {L : Nat → Nat → Int64} (hok : q_ok (qGG D cA b E)) (hb : b ≤ o) (hn : o + 1 = b + n) (hs : sh o = .inr 9) (hI : I o = fun _ => 0) (hL : L o = fun _ => 0) (hp : ∀ n' sh' Rf' I' L', WfTrade (qGG D cA b E) n' sh' Rf' o → NewTrade o n n' sh sh' Rf Rf' I I' L L' → post none (n', sh', Rf', I', L')) : Ev (qGG D cA b E) mTrade_init 1 (1, 6) 0 (lv_args 0 [.ref o]) [] (n, sh, Rf, I, L) post :=
  iTrade_rows (n0 := n) (sh0 := sh) (Rf0 := Rf) (I0 := I) (L0 := L) hok ⟨rfl, hb, hn, hs, hI, hL, fun i x hi => absurd hi (by omega), fun a ha => ⟨rfl, rfl, rfl, rfl⟩⟩ (fun n1 sh1 Rf1 I1 L1 hP => ev_vret rfl dTrade_init_45 (hp n1 sh1 Rf1 I1 L1 hP.wfTrade hP.newTrade))
theorem wlReform_lt : wlReform.Pairwise (fun x y => x.1 < y.1) := by decide
theorem wlReform_dis {i j : Nat} {x y : Nat × Nat × FieldType × Nat} (hij : i < j) (hx : wlReform[i]? = some x) (hy : wlReform[j]? = some y) : x.1 ≠ y.1 := by
  obtain ⟨h1, e1⟩ := List.getElem?_eq_some_iff.mp hx
  obtain ⟨h2, e2⟩ := List.getElem?_eq_some_iff.mp hy
  have := List.pairwise_iff_getElem.mp wlReform_lt i j h1 h2 hij
  rw [e1, e2] at this
  exact Nat.ne_of_lt this
theorem ciReform : ∀ q : vw_C, qcl[6]? = some q → q.1 = "SaltOffice$Reform" := by
  intro q h
  have := Option.some.inj (h.symm.trans (rfl : qcl[6]? = some (qR6, qT6, 9)))
  subst this
  rfl
theorem wlReform_off : ∀ i, i < 4 → ∀ x, wlReform[i]? = some x → x.2.1 = i + 1 := by decide +kernel
def iFReform : Nat → Int32 := fun y => if y = 8 then (-1) else if y = 7 then 0 else if y = 6 then 0 else if y = 5 then 0 else if y = 4 then 0 else 0
def iLReform : Nat → Int64 := fun _ => 0
set_option maxHeartbeats 40000000 in
set_option maxRecDepth 20000 in
theorem iReform_rows {D : va_G} {cA : FieldType → ClassId} {b : Nat} {E : State → Prop} {o n0 : Nat} {sh0 : Nat → qC} {Rf0 : Nat → Nat → Option Nat} {I0 : Nat → Nat → Int32} {L0 : Nat → Nat → Int64} {post : Option Value → qS → Prop} {n : Nat} {sh : Nat → qC} {Rf : Nat → Nat → Option Nat} {I : Nat → Nat → Int32} {L : Nat → Nat → Int64} (hok : q_ok (qGG D cA b E)) (hP : PJ (qGG D cA b E) 6 wlReform o n0 sh0 Rf0 I0 L0 0 (fun _ => 0) (fun _ => 0) n sh Rf I L) (kk : ∀ n sh Rf I L, PJ (qGG D cA b E) 6 wlReform o n0 sh0 Rf0 I0 L0 4 iFReform iLReform n sh Rf I L → Ev (qGG D cA b E) mReform_init 1 (0, 0) 62 [(0, .ref o)] [] (n, sh, Rf, I, L) post) : Ev (qGG D cA b E) mReform_init 1 (4, 822) 0 (lv_args 0 [.ref o]) [] (n, sh, Rf, I, L) post := by
  refine ev_aload_n dReform_init_0 rfl ?_
  refine ev_obj (by decide) (q_t2 4 (by decide +kernel) rfl) (q_t1 29 (by decide +kernel) rfl) (q_t1 30 rfl rfl) (Nat.le_of_ble_eq_true rfl) dReform_init_1 ?_
  refine ev_aload_n dReform_init_4 rfl ?_
  refine ev_sipush (700) dReform_init_5 (by decide) ?_
  refine ev_arrP (kc := 3) (ks := 122) (k := 0) (w := 700) hok hP rfl (fun i x hi hx => wlReform_dis hi hx (rfl : wlReform[0]? = some (0, 1, .int, 700))) pt_int (by decide) (by decide) (by decide) dReform_init_8 fk_Reform_9 rfl ciReform rfl dReform_init_10 (fun n sh Rf I L hP => ?_)
  refine ev_aload_n dReform_init_13 rfl ?_
  refine ev_bipush (11) dReform_init_14 (by decide) ?_
  refine ev_arrP (kc := 2) (ks := 111) (k := 1) (w := 11) hok hP rfl (fun i x hi hx => wlReform_dis hi hx (rfl : wlReform[1]? = some (1, 2, .int, 11))) pt_int (by decide) (by decide) (by decide) dReform_init_16 fk_Reform_15 rfl ciReform rfl dReform_init_18 (fun n sh Rf I L hP => ?_)
  refine ev_aload_n dReform_init_21 rfl ?_
  refine ev_bipush (11) dReform_init_22 (by decide) ?_
  refine ev_arrP (kc := 1) (ks := 100) (k := 2) (w := 11) hok hP rfl (fun i x hi hx => wlReform_dis hi hx (rfl : wlReform[2]? = some (2, 3, .int, 11))) pt_int (by decide) (by decide) (by decide) dReform_init_24 fk_Reform_18 rfl ciReform rfl dReform_init_26 (fun n sh Rf I L hP => ?_)
  refine ev_aload_n dReform_init_29 rfl ?_
  refine ev_bipush (100) dReform_init_30 (by decide) ?_
  refine ev_arrP (kc := 0) (ks := 0) (k := 3) (w := 100) hok hP rfl (fun i x hi hx => wlReform_dis hi hx (rfl : wlReform[3]? = some (3, 4, .int, 100))) pt_int (by decide) (by decide) (by decide) dReform_init_32 fk_Reform_21 rfl ciReform rfl dReform_init_34 (fun n sh Rf I L hP => ?_)
  refine ev_aload_n dReform_init_37 rfl ?_
  refine ev_iconst (0) dReform_init_38 (by decide) ?_
  refine ev_intP hok hP fk_Reform_24 rfl dReform_init_39 (fun I hP => ?_)
  refine ev_aload_n dReform_init_42 rfl ?_
  refine ev_iconst (0) dReform_init_43 (by decide) ?_
  refine ev_intP hok hP fk_Reform_28 rfl dReform_init_44 (fun I hP => ?_)
  refine ev_aload_n dReform_init_47 rfl ?_
  refine ev_iconst (0) dReform_init_48 (by decide) ?_
  refine ev_intP hok hP fk_Reform_31 rfl dReform_init_49 (fun I hP => ?_)
  refine ev_aload_n dReform_init_52 rfl ?_
  refine ev_iconst (0) dReform_init_53 (by decide) ?_
  refine ev_intP hok hP fk_Reform_34 rfl dReform_init_54 (fun I hP => ?_)
  refine ev_aload_n dReform_init_57 rfl ?_
  refine ev_iconst (-1) dReform_init_58 (by decide) ?_
  refine ev_intP hok hP fk_Reform_37 rfl dReform_init_59 (fun I hP => ?_)
  exact kk n sh Rf I L hP
theorem PJ.wfReform {D : va_G} {cA : FieldType → ClassId} {b : Nat} {E : State → Prop} {o n0 : Nat} {sh0 : Nat → qC} {Rf0 : Nat → Nat → Option Nat} {I0 : Nat → Nat → Int32} {L0 : Nat → Nat → Int64} {n : Nat} {sh : Nat → qC} {Rf : Nat → Nat → Option Nat} {I : Nat → Nat → Int32} {L : Nat → Nat → Int64} {F : Nat → Int32} {FL : Nat → Int64} (h : PJ (qGG D cA b E) 6 wlReform o n0 sh0 Rf0 I0 L0 4 F FL n sh Rf I L) : WfReform (qGG D cA b E) n sh Rf o := by
  obtain ⟨p1, p2, p3, p4, p5, p6, p7, p8⟩ := h
  refine ⟨⟨p2, by omega, p4⟩, fun x hx => ?_⟩
  obtain ⟨i, hi⟩ := List.getElem?_of_mem hx
  have hl : i < 4 := (List.getElem?_eq_some_iff.mp hi).1
  obtain ⟨a1, a2, -, -⟩ := p7 i x hl hi
  rw [wlReform_off i hl x hi]
  exact ⟨a1, a2⟩
/-- what a new SaltOffice$Reform is: its fields, its rows of zeros; nothing below it has changed -/
def NewReform (o n n' : Nat) (sh sh' : Nat → qC) (Rf Rf' : Nat → Nat → Option Nat) (I I' : Nat → Nat → Int32) (L L' : Nat → Nat → Int64) : Prop := n' = n + 4 ∧ I' o = iFReform ∧ L' o = iLReform ∧ (∀ i, i < 4 → I' (o + (i + 1)) = (fun _ => 0) ∧ L' (o + (i + 1)) = (fun _ => 0)) ∧ ∀ a, a < o → sh' a = sh a ∧ Rf' a = Rf a ∧ I' a = I a ∧ L' a = L a
theorem PJ.newReform {D : va_G} {cA : FieldType → ClassId} {b : Nat} {E : State → Prop} {o n0 : Nat} {sh0 : Nat → qC} {Rf0 : Nat → Nat → Option Nat} {I0 : Nat → Nat → Int32} {L0 : Nat → Nat → Int64} {n : Nat} {sh : Nat → qC} {Rf : Nat → Nat → Option Nat} {I : Nat → Nat → Int32} {L : Nat → Nat → Int64} (h : PJ (qGG D cA b E) 6 wlReform o n0 sh0 Rf0 I0 L0 4 iFReform iLReform n sh Rf I L) : NewReform o n0 n sh0 sh Rf0 Rf I0 I L0 L := by
  obtain ⟨p1, p2, p3, p4, p5, p6, p7, p8⟩ := h
  refine ⟨p1, p5, p6, fun i hi => ?_, p8⟩
  have hl : i < wlReform.length := hi
  obtain ⟨-, -, a3, a4⟩ := p7 i _ hi (List.getElem?_eq_getElem hl)
  exact ⟨a3, a4⟩
theorem iReform {D : va_G} {cA : FieldType → ClassId} {b : Nat} {E : State → Prop} {o n0 : Nat} {sh0 : Nat → qC} {Rf0 : Nat → Nat → Option Nat} {I0 : Nat → Nat → Int32} {L0 : Nat → Nat → Int64} {post : Option Value → qS → Prop} {n : Nat} {sh : Nat → qC} {Rf : Nat → Nat → Option Nat} {I : Nat → Nat → Int32} {L : Nat → Nat → Int64} (hok : q_ok (qGG D cA b E)) (hb : b ≤ o) (hn : o + 1 = b + n) (hs : sh o = .inr 6) (hI : I o = fun _ => 0) (hL : L o = fun _ => 0) (hp : ∀ n' sh' Rf' I' L', WfReform (qGG D cA b E) n' sh' Rf' o → NewReform o n n' sh sh' Rf Rf' I I' L L' → post none (n', sh', Rf', I', L')) : Ev (qGG D cA b E) mReform_init 1 (4, 822) 0 (lv_args 0 [.ref o]) [] (n, sh, Rf, I, L) post :=
  iReform_rows (n0 := n) (sh0 := sh) (Rf0 := Rf) (I0 := I) (L0 := L) hok ⟨rfl, hb, hn, hs, hI, hL, fun i x hi => absurd hi (by omega), fun a ha => ⟨rfl, rfl, rfl, rfl⟩⟩ (fun n1 sh1 Rf1 I1 L1 hP => ev_vret rfl dReform_init_62 (hp n1 sh1 Rf1 I1 L1 hP.wfReform hP.newReform))
theorem wlRealm_lt : wlRealm.Pairwise (fun x y => x.1 < y.1) := by decide
theorem wlRealm_dis {i j : Nat} {x y : Nat × Nat × FieldType × Nat} (hij : i < j) (hx : wlRealm[i]? = some x) (hy : wlRealm[j]? = some y) : x.1 ≠ y.1 := by
  obtain ⟨h1, e1⟩ := List.getElem?_eq_some_iff.mp hx
  obtain ⟨h2, e2⟩ := List.getElem?_eq_some_iff.mp hy
  have := List.pairwise_iff_getElem.mp wlRealm_lt i j h1 h2 hij
  rw [e1, e2] at this
  exact Nat.ne_of_lt this
theorem ciRealm : ∀ q : vw_C, qcl[4]? = some q → q.1 = "SaltOffice$Realm" := by
  intro q h
  have := Option.some.inj (h.symm.trans (rfl : qcl[4]? = some (qR4, qT4, 6)))
  subst this
  rfl
theorem wlRealm_off : ∀ i, i < 6 → ∀ x, wlRealm[i]? = some x → x.2.1 = i + 1 := by decide +kernel
def iFRealm : Nat → Int32 := fun _ => 0
def iLRealm : Nat → Int64 := fun _ => 0
set_option maxHeartbeats 40000000 in
set_option maxRecDepth 20000 in
theorem iRealm_rows {D : va_G} {cA : FieldType → ClassId} {b : Nat} {E : State → Prop} {o n0 : Nat} {sh0 : Nat → qC} {Rf0 : Nat → Nat → Option Nat} {I0 : Nat → Nat → Int32} {L0 : Nat → Nat → Int64} {post : Option Value → qS → Prop} {n : Nat} {sh : Nat → qC} {Rf : Nat → Nat → Option Nat} {I : Nat → Nat → Int32} {L : Nat → Nat → Int64} (hok : q_ok (qGG D cA b E)) (hP : PJ (qGG D cA b E) 4 wlRealm o n0 sh0 Rf0 I0 L0 0 (fun _ => 0) (fun _ => 0) n sh Rf I L) (kk : ∀ n sh Rf I L, PJ (qGG D cA b E) 4 wlRealm o n0 sh0 Rf0 I0 L0 6 iFRealm iLRealm n sh Rf I L → Ev (qGG D cA b E) mRealm_init 1 (0, 0) 46 [(0, .ref o)] [] (n, sh, Rf, I, L) post) : Ev (qGG D cA b E) mRealm_init 1 (6, 24) 0 (lv_args 0 [.ref o]) [] (n, sh, Rf, I, L) post := by
  refine ev_aload_n dRealm_init_0 rfl ?_
  refine ev_obj (by decide) (q_t2 133 (by decide +kernel) rfl) (q_t1 29 (by decide +kernel) rfl) (q_t1 30 rfl rfl) (Nat.le_of_ble_eq_true rfl) dRealm_init_1 ?_
  refine ev_aload_n dRealm_init_4 rfl ?_
  refine ev_iconst (3) dRealm_init_5 (by decide) ?_
  refine ev_arrP (kc := 5) (ks := 21) (k := 0) (w := 3) hok hP rfl (fun i x hi hx => wlRealm_dis hi hx (rfl : wlRealm[0]? = some (0, 1, .int, 3))) pt_int (by decide) (by decide) (by decide) dRealm_init_6 fk_Realm_9 rfl ciRealm rfl dRealm_init_8 (fun n sh Rf I L hP => ?_)
  refine ev_aload_n dRealm_init_11 rfl ?_
  refine ev_iconst (3) dRealm_init_12 (by decide) ?_
  refine ev_arrP (kc := 4) (ks := 18) (k := 1) (w := 3) hok hP rfl (fun i x hi hx => wlRealm_dis hi hx (rfl : wlRealm[1]? = some (1, 2, .int, 3))) pt_int (by decide) (by decide) (by decide) dRealm_init_13 fk_Realm_15 rfl ciRealm rfl dRealm_init_15 (fun n sh Rf I L hP => ?_)
  refine ev_aload_n dRealm_init_18 rfl ?_
  refine ev_iconst (3) dRealm_init_19 (by decide) ?_
  refine ev_arrP (kc := 3) (ks := 15) (k := 2) (w := 3) hok hP rfl (fun i x hi hx => wlRealm_dis hi hx (rfl : wlRealm[2]? = some (2, 3, .int, 3))) pt_int (by decide) (by decide) (by decide) dRealm_init_20 fk_Realm_18 rfl ciRealm rfl dRealm_init_22 (fun n sh Rf I L hP => ?_)
  refine ev_aload_n dRealm_init_25 rfl ?_
  refine ev_iconst (5) dRealm_init_26 (by decide) ?_
  refine ev_arrP (kc := 2) (ks := 10) (k := 3) (w := 5) hok hP rfl (fun i x hi hx => wlRealm_dis hi hx (rfl : wlRealm[3]? = some (3, 4, .int, 5))) pt_int (by decide) (by decide) (by decide) dRealm_init_27 fk_Realm_21 rfl ciRealm rfl dRealm_init_29 (fun n sh Rf I L hP => ?_)
  refine ev_aload_n dRealm_init_32 rfl ?_
  refine ev_iconst (5) dRealm_init_33 (by decide) ?_
  refine ev_arrP (kc := 1) (ks := 5) (k := 4) (w := 5) hok hP rfl (fun i x hi hx => wlRealm_dis hi hx (rfl : wlRealm[4]? = some (4, 5, .int, 5))) pt_int (by decide) (by decide) (by decide) dRealm_init_34 fk_Realm_24 rfl ciRealm rfl dRealm_init_36 (fun n sh Rf I L hP => ?_)
  refine ev_aload_n dRealm_init_39 rfl ?_
  refine ev_iconst (5) dRealm_init_40 (by decide) ?_
  refine ev_arrP (kc := 0) (ks := 0) (k := 5) (w := 5) hok hP rfl (fun i x hi hx => wlRealm_dis hi hx (rfl : wlRealm[5]? = some (5, 6, .int, 5))) pt_int (by decide) (by decide) (by decide) dRealm_init_41 fk_Realm_27 rfl ciRealm rfl dRealm_init_43 (fun n sh Rf I L hP => ?_)
  exact kk n sh Rf I L hP
theorem PJ.wfRealm {D : va_G} {cA : FieldType → ClassId} {b : Nat} {E : State → Prop} {o n0 : Nat} {sh0 : Nat → qC} {Rf0 : Nat → Nat → Option Nat} {I0 : Nat → Nat → Int32} {L0 : Nat → Nat → Int64} {n : Nat} {sh : Nat → qC} {Rf : Nat → Nat → Option Nat} {I : Nat → Nat → Int32} {L : Nat → Nat → Int64} {F : Nat → Int32} {FL : Nat → Int64} (h : PJ (qGG D cA b E) 4 wlRealm o n0 sh0 Rf0 I0 L0 6 F FL n sh Rf I L) : WfRealm (qGG D cA b E) n sh Rf o := by
  obtain ⟨p1, p2, p3, p4, p5, p6, p7, p8⟩ := h
  refine ⟨⟨p2, by omega, p4⟩, fun x hx => ?_⟩
  obtain ⟨i, hi⟩ := List.getElem?_of_mem hx
  have hl : i < 6 := (List.getElem?_eq_some_iff.mp hi).1
  obtain ⟨a1, a2, -, -⟩ := p7 i x hl hi
  rw [wlRealm_off i hl x hi]
  exact ⟨a1, a2⟩
/-- what a new SaltOffice$Realm is: its fields, its rows of zeros; nothing below it has changed -/
def NewRealm (o n n' : Nat) (sh sh' : Nat → qC) (Rf Rf' : Nat → Nat → Option Nat) (I I' : Nat → Nat → Int32) (L L' : Nat → Nat → Int64) : Prop := n' = n + 6 ∧ I' o = iFRealm ∧ L' o = iLRealm ∧ (∀ i, i < 6 → I' (o + (i + 1)) = (fun _ => 0) ∧ L' (o + (i + 1)) = (fun _ => 0)) ∧ ∀ a, a < o → sh' a = sh a ∧ Rf' a = Rf a ∧ I' a = I a ∧ L' a = L a
theorem PJ.newRealm {D : va_G} {cA : FieldType → ClassId} {b : Nat} {E : State → Prop} {o n0 : Nat} {sh0 : Nat → qC} {Rf0 : Nat → Nat → Option Nat} {I0 : Nat → Nat → Int32} {L0 : Nat → Nat → Int64} {n : Nat} {sh : Nat → qC} {Rf : Nat → Nat → Option Nat} {I : Nat → Nat → Int32} {L : Nat → Nat → Int64} (h : PJ (qGG D cA b E) 4 wlRealm o n0 sh0 Rf0 I0 L0 6 iFRealm iLRealm n sh Rf I L) : NewRealm o n0 n sh0 sh Rf0 Rf I0 I L0 L := by
  obtain ⟨p1, p2, p3, p4, p5, p6, p7, p8⟩ := h
  refine ⟨p1, p5, p6, fun i hi => ?_, p8⟩
  have hl : i < wlRealm.length := hi
  obtain ⟨-, -, a3, a4⟩ := p7 i _ hi (List.getElem?_eq_getElem hl)
  exact ⟨a3, a4⟩
theorem iRealm {D : va_G} {cA : FieldType → ClassId} {b : Nat} {E : State → Prop} {o n0 : Nat} {sh0 : Nat → qC} {Rf0 : Nat → Nat → Option Nat} {I0 : Nat → Nat → Int32} {L0 : Nat → Nat → Int64} {post : Option Value → qS → Prop} {n : Nat} {sh : Nat → qC} {Rf : Nat → Nat → Option Nat} {I : Nat → Nat → Int32} {L : Nat → Nat → Int64} (hok : q_ok (qGG D cA b E)) (hb : b ≤ o) (hn : o + 1 = b + n) (hs : sh o = .inr 4) (hI : I o = fun _ => 0) (hL : L o = fun _ => 0) (hp : ∀ n' sh' Rf' I' L', WfRealm (qGG D cA b E) n' sh' Rf' o → NewRealm o n n' sh sh' Rf Rf' I I' L L' → post none (n', sh', Rf', I', L')) : Ev (qGG D cA b E) mRealm_init 1 (6, 24) 0 (lv_args 0 [.ref o]) [] (n, sh, Rf, I, L) post :=
  iRealm_rows (n0 := n) (sh0 := sh) (Rf0 := Rf) (I0 := I) (L0 := L) hok ⟨rfl, hb, hn, hs, hI, hL, fun i x hi => absurd hi (by omega), fun a ha => ⟨rfl, rfl, rfl, rfl⟩⟩ (fun n1 sh1 Rf1 I1 L1 hP => ev_vret rfl dRealm_init_46 (hp n1 sh1 Rf1 I1 L1 hP.wfRealm hP.newRealm))
theorem wlPapers_lt : wlPapers.Pairwise (fun x y => x.1 < y.1) := by decide
theorem wlPapers_dis {i j : Nat} {x y : Nat × Nat × FieldType × Nat} (hij : i < j) (hx : wlPapers[i]? = some x) (hy : wlPapers[j]? = some y) : x.1 ≠ y.1 := by
  obtain ⟨h1, e1⟩ := List.getElem?_eq_some_iff.mp hx
  obtain ⟨h2, e2⟩ := List.getElem?_eq_some_iff.mp hy
  have := List.pairwise_iff_getElem.mp wlPapers_lt i j h1 h2 hij
  rw [e1, e2] at this
  exact Nat.ne_of_lt this
theorem ciPapers : ∀ q : vw_C, qcl[3]? = some q → q.1 = "SaltOffice$Papers" := by
  intro q h
  have := Option.some.inj (h.symm.trans (rfl : qcl[3]? = some (qR3, qT3, 15)))
  subst this
  rfl
theorem wlPapers_off : ∀ i, i < 12 → ∀ x, wlPapers[i]? = some x → x.2.1 = i + 1 := by decide +kernel
def iFPapers : Nat → Int32 := fun y => if y = 14 then 0 else if y = 13 then 0 else if y = 12 then 0 else 0
def iLPapers : Nat → Int64 := fun _ => 0
set_option maxHeartbeats 40000000 in
set_option maxRecDepth 20000 in
theorem iPapers_rows {D : va_G} {cA : FieldType → ClassId} {b : Nat} {E : State → Prop} {o n0 : Nat} {sh0 : Nat → qC} {Rf0 : Nat → Nat → Option Nat} {I0 : Nat → Nat → Int32} {L0 : Nat → Nat → Int64} {post : Option Value → qS → Prop} {n : Nat} {sh : Nat → qC} {Rf : Nat → Nat → Option Nat} {I : Nat → Nat → Int32} {L : Nat → Nat → Int64} (hok : q_ok (qGG D cA b E)) (hP : PJ (qGG D cA b E) 3 wlPapers o n0 sh0 Rf0 I0 L0 0 (fun _ => 0) (fun _ => 0) n sh Rf I L) (kk : ∀ n sh Rf I L, PJ (qGG D cA b E) 3 wlPapers o n0 sh0 Rf0 I0 L0 12 iFPapers iLPapers n sh Rf I L → Ev (qGG D cA b E) mPapers_init 1 (0, 0) 125 [(0, .ref o)] [] (n, sh, Rf, I, L) post) : Ev (qGG D cA b E) mPapers_init 1 (12, 15843) 0 (lv_args 0 [.ref o]) [] (n, sh, Rf, I, L) post := by
  refine ev_aload_n dPapers_init_0 rfl ?_
  refine ev_obj (by decide) (q_t2 169 (by decide +kernel) rfl) (q_t1 29 (by decide +kernel) rfl) (q_t1 30 rfl rfl) (Nat.le_of_ble_eq_true rfl) dPapers_init_1 ?_
  refine ev_aload_n dPapers_init_4 rfl ?_
  refine ev_sipush (1440) dPapers_init_5 (by decide) ?_
  refine ev_arrP (kc := 11) (ks := 14403) (k := 0) (w := 1440) hok hP rfl (fun i x hi hx => wlPapers_dis hi hx (rfl : wlPapers[0]? = some (0, 1, .int, 1440))) pt_int (by decide) (by decide) (by decide) dPapers_init_8 fk_Papers_9 rfl ciPapers rfl dPapers_init_10 (fun n sh Rf I L hP => ?_)
  refine ev_aload_n dPapers_init_13 rfl ?_
  refine ev_sipush (1440) dPapers_init_14 (by decide) ?_
  refine ev_arrP (kc := 10) (ks := 12963) (k := 1) (w := 1440) hok hP rfl (fun i x hi hx => wlPapers_dis hi hx (rfl : wlPapers[1]? = some (1, 2, .int, 1440))) pt_int (by decide) (by decide) (by decide) dPapers_init_17 fk_Papers_15 rfl ciPapers rfl dPapers_init_19 (fun n sh Rf I L hP => ?_)
  refine ev_aload_n dPapers_init_22 rfl ?_
  refine ev_sipush (1440) dPapers_init_23 (by decide) ?_
  refine ev_arrP (kc := 9) (ks := 11523) (k := 2) (w := 1440) hok hP rfl (fun i x hi hx => wlPapers_dis hi hx (rfl : wlPapers[2]? = some (2, 3, .int, 1440))) pt_int (by decide) (by decide) (by decide) dPapers_init_26 fk_Papers_18 rfl ciPapers rfl dPapers_init_28 (fun n sh Rf I L hP => ?_)
  refine ev_aload_n dPapers_init_31 rfl ?_
  refine ev_sipush (1440) dPapers_init_32 (by decide) ?_
  refine ev_arrP (kc := 8) (ks := 10083) (k := 3) (w := 1440) hok hP rfl (fun i x hi hx => wlPapers_dis hi hx (rfl : wlPapers[3]? = some (3, 4, .int, 1440))) pt_int (by decide) (by decide) (by decide) dPapers_init_35 fk_Papers_21 rfl ciPapers rfl dPapers_init_37 (fun n sh Rf I L hP => ?_)
  refine ev_aload_n dPapers_init_40 rfl ?_
  refine ev_sipush (1440) dPapers_init_41 (by decide) ?_
  refine ev_arrP (kc := 7) (ks := 8643) (k := 4) (w := 1440) hok hP rfl (fun i x hi hx => wlPapers_dis hi hx (rfl : wlPapers[4]? = some (4, 5, .int, 1440))) pt_int (by decide) (by decide) (by decide) dPapers_init_44 fk_Papers_24 rfl ciPapers rfl dPapers_init_46 (fun n sh Rf I L hP => ?_)
  refine ev_aload_n dPapers_init_49 rfl ?_
  refine ev_sipush (1440) dPapers_init_50 (by decide) ?_
  refine ev_arrP (kc := 6) (ks := 7203) (k := 5) (w := 1440) hok hP rfl (fun i x hi hx => wlPapers_dis hi hx (rfl : wlPapers[5]? = some (5, 6, .int, 1440))) pt_int (by decide) (by decide) (by decide) dPapers_init_53 fk_Papers_27 rfl ciPapers rfl dPapers_init_55 (fun n sh Rf I L hP => ?_)
  refine ev_aload_n dPapers_init_58 rfl ?_
  refine ev_sipush (1440) dPapers_init_59 (by decide) ?_
  refine ev_arrP (kc := 5) (ks := 5763) (k := 6) (w := 1440) hok hP rfl (fun i x hi hx => wlPapers_dis hi hx (rfl : wlPapers[6]? = some (6, 7, .int, 1440))) pt_int (by decide) (by decide) (by decide) dPapers_init_62 fk_Papers_30 rfl ciPapers rfl dPapers_init_64 (fun n sh Rf I L hP => ?_)
  refine ev_aload_n dPapers_init_67 rfl ?_
  refine ev_sipush (1440) dPapers_init_68 (by decide) ?_
  refine ev_arrP (kc := 4) (ks := 4323) (k := 7) (w := 1440) hok hP rfl (fun i x hi hx => wlPapers_dis hi hx (rfl : wlPapers[7]? = some (7, 8, .int, 1440))) pt_int (by decide) (by decide) (by decide) dPapers_init_71 fk_Papers_33 rfl ciPapers rfl dPapers_init_73 (fun n sh Rf I L hP => ?_)
  refine ev_aload_n dPapers_init_76 rfl ?_
  refine ev_sipush (1440) dPapers_init_77 (by decide) ?_
  refine ev_arrP (kc := 3) (ks := 2883) (k := 8) (w := 1440) hok hP rfl (fun i x hi hx => wlPapers_dis hi hx (rfl : wlPapers[8]? = some (8, 9, .int, 1440))) pt_int (by decide) (by decide) (by decide) dPapers_init_80 fk_Papers_36 rfl ciPapers rfl dPapers_init_82 (fun n sh Rf I L hP => ?_)
  refine ev_aload_n dPapers_init_85 rfl ?_
  refine ev_sipush (1440) dPapers_init_86 (by decide) ?_
  refine ev_arrP (kc := 2) (ks := 1443) (k := 9) (w := 1440) hok hP rfl (fun i x hi hx => wlPapers_dis hi hx (rfl : wlPapers[9]? = some (9, 10, .int, 1440))) pt_int (by decide) (by decide) (by decide) dPapers_init_89 fk_Papers_39 rfl ciPapers rfl dPapers_init_91 (fun n sh Rf I L hP => ?_)
  refine ev_aload_n dPapers_init_94 rfl ?_
  refine ev_sipush (1440) dPapers_init_95 (by decide) ?_
  refine ev_arrP (kc := 1) (ks := 3) (k := 10) (w := 1440) hok hP rfl (fun i x hi hx => wlPapers_dis hi hx (rfl : wlPapers[10]? = some (10, 11, .int, 1440))) pt_int (by decide) (by decide) (by decide) dPapers_init_98 fk_Papers_42 rfl ciPapers rfl dPapers_init_100 (fun n sh Rf I L hP => ?_)
  refine ev_aload_n dPapers_init_103 rfl ?_
  refine ev_iconst (3) dPapers_init_104 (by decide) ?_
  refine ev_arrP (kc := 0) (ks := 0) (k := 11) (w := 3) hok hP rfl (fun i x hi hx => wlPapers_dis hi hx (rfl : wlPapers[11]? = some (11, 12, .int, 3))) pt_int (by decide) (by decide) (by decide) dPapers_init_105 fk_Papers_45 rfl ciPapers rfl dPapers_init_107 (fun n sh Rf I L hP => ?_)
  refine ev_aload_n dPapers_init_110 rfl ?_
  refine ev_iconst (0) dPapers_init_111 (by decide) ?_
  refine ev_intP hok hP fk_Papers_48 rfl dPapers_init_112 (fun I hP => ?_)
  refine ev_aload_n dPapers_init_115 rfl ?_
  refine ev_iconst (0) dPapers_init_116 (by decide) ?_
  refine ev_intP hok hP fk_Papers_52 rfl dPapers_init_117 (fun I hP => ?_)
  refine ev_aload_n dPapers_init_120 rfl ?_
  refine ev_iconst (0) dPapers_init_121 (by decide) ?_
  refine ev_intP hok hP fk_Papers_55 rfl dPapers_init_122 (fun I hP => ?_)
  exact kk n sh Rf I L hP
theorem PJ.wfPapers {D : va_G} {cA : FieldType → ClassId} {b : Nat} {E : State → Prop} {o n0 : Nat} {sh0 : Nat → qC} {Rf0 : Nat → Nat → Option Nat} {I0 : Nat → Nat → Int32} {L0 : Nat → Nat → Int64} {n : Nat} {sh : Nat → qC} {Rf : Nat → Nat → Option Nat} {I : Nat → Nat → Int32} {L : Nat → Nat → Int64} {F : Nat → Int32} {FL : Nat → Int64} (h : PJ (qGG D cA b E) 3 wlPapers o n0 sh0 Rf0 I0 L0 12 F FL n sh Rf I L) : WfPapers (qGG D cA b E) n sh Rf o := by
  obtain ⟨p1, p2, p3, p4, p5, p6, p7, p8⟩ := h
  refine ⟨⟨p2, by omega, p4⟩, fun x hx => ?_⟩
  obtain ⟨i, hi⟩ := List.getElem?_of_mem hx
  have hl : i < 12 := (List.getElem?_eq_some_iff.mp hi).1
  obtain ⟨a1, a2, -, -⟩ := p7 i x hl hi
  rw [wlPapers_off i hl x hi]
  exact ⟨a1, a2⟩
/-- what a new SaltOffice$Papers is: its fields, its rows of zeros; nothing below it has changed -/
def NewPapers (o n n' : Nat) (sh sh' : Nat → qC) (Rf Rf' : Nat → Nat → Option Nat) (I I' : Nat → Nat → Int32) (L L' : Nat → Nat → Int64) : Prop := n' = n + 12 ∧ I' o = iFPapers ∧ L' o = iLPapers ∧ (∀ i, i < 12 → I' (o + (i + 1)) = (fun _ => 0) ∧ L' (o + (i + 1)) = (fun _ => 0)) ∧ ∀ a, a < o → sh' a = sh a ∧ Rf' a = Rf a ∧ I' a = I a ∧ L' a = L a
theorem PJ.newPapers {D : va_G} {cA : FieldType → ClassId} {b : Nat} {E : State → Prop} {o n0 : Nat} {sh0 : Nat → qC} {Rf0 : Nat → Nat → Option Nat} {I0 : Nat → Nat → Int32} {L0 : Nat → Nat → Int64} {n : Nat} {sh : Nat → qC} {Rf : Nat → Nat → Option Nat} {I : Nat → Nat → Int32} {L : Nat → Nat → Int64} (h : PJ (qGG D cA b E) 3 wlPapers o n0 sh0 Rf0 I0 L0 12 iFPapers iLPapers n sh Rf I L) : NewPapers o n0 n sh0 sh Rf0 Rf I0 I L0 L := by
  obtain ⟨p1, p2, p3, p4, p5, p6, p7, p8⟩ := h
  refine ⟨p1, p5, p6, fun i hi => ?_, p8⟩
  have hl : i < wlPapers.length := hi
  obtain ⟨-, -, a3, a4⟩ := p7 i _ hi (List.getElem?_eq_getElem hl)
  exact ⟨a3, a4⟩
theorem iPapers {D : va_G} {cA : FieldType → ClassId} {b : Nat} {E : State → Prop} {o n0 : Nat} {sh0 : Nat → qC} {Rf0 : Nat → Nat → Option Nat} {I0 : Nat → Nat → Int32} {L0 : Nat → Nat → Int64} {post : Option Value → qS → Prop} {n : Nat} {sh : Nat → qC} {Rf : Nat → Nat → Option Nat} {I : Nat → Nat → Int32} {L : Nat → Nat → Int64} (hok : q_ok (qGG D cA b E)) (hb : b ≤ o) (hn : o + 1 = b + n) (hs : sh o = .inr 3) (hI : I o = fun _ => 0) (hL : L o = fun _ => 0) (hp : ∀ n' sh' Rf' I' L', WfPapers (qGG D cA b E) n' sh' Rf' o → NewPapers o n n' sh sh' Rf Rf' I I' L L' → post none (n', sh', Rf', I', L')) : Ev (qGG D cA b E) mPapers_init 1 (12, 15843) 0 (lv_args 0 [.ref o]) [] (n, sh, Rf, I, L) post :=
  iPapers_rows (n0 := n) (sh0 := sh) (Rf0 := Rf) (I0 := I) (L0 := L) hok ⟨rfl, hb, hn, hs, hI, hL, fun i x hi => absurd hi (by omega), fun a ha => ⟨rfl, rfl, rfl, rfl⟩⟩ (fun n1 sh1 Rf1 I1 L1 hP => ev_vret rfl dPapers_init_125 (hp n1 sh1 Rf1 I1 L1 hP.wfPapers hP.newPapers))
theorem wlLoads_lt : wlLoads.Pairwise (fun x y => x.1 < y.1) := by decide
theorem wlLoads_dis {i j : Nat} {x y : Nat × Nat × FieldType × Nat} (hij : i < j) (hx : wlLoads[i]? = some x) (hy : wlLoads[j]? = some y) : x.1 ≠ y.1 := by
  obtain ⟨h1, e1⟩ := List.getElem?_eq_some_iff.mp hx
  obtain ⟨h2, e2⟩ := List.getElem?_eq_some_iff.mp hy
  have := List.pairwise_iff_getElem.mp wlLoads_lt i j h1 h2 hij
  rw [e1, e2] at this
  exact Nat.ne_of_lt this
theorem ciLoads : ∀ q : vw_C, qcl[2]? = some q → q.1 = "SaltOffice$Loads" := by
  intro q h
  have := Option.some.inj (h.symm.trans (rfl : qcl[2]? = some (qR2, qT2, 10)))
  subst this
  rfl
theorem wlLoads_off : ∀ i, i < 8 → ∀ x, wlLoads[i]? = some x → x.2.1 = i + 1 := by decide +kernel
def iFLoads : Nat → Int32 := fun y => if y = 9 then 0 else if y = 8 then 0 else 0
def iLLoads : Nat → Int64 := fun _ => 0
set_option maxHeartbeats 40000000 in
set_option maxRecDepth 20000 in
theorem iLoads_rows {D : va_G} {cA : FieldType → ClassId} {b : Nat} {E : State → Prop} {o n0 : Nat} {sh0 : Nat → qC} {Rf0 : Nat → Nat → Option Nat} {I0 : Nat → Nat → Int32} {L0 : Nat → Nat → Int64} {post : Option Value → qS → Prop} {n : Nat} {sh : Nat → qC} {Rf : Nat → Nat → Option Nat} {I : Nat → Nat → Int32} {L : Nat → Nat → Int64} (hok : q_ok (qGG D cA b E)) (hP : PJ (qGG D cA b E) 2 wlLoads o n0 sh0 Rf0 I0 L0 0 (fun _ => 0) (fun _ => 0) n sh Rf I L) (kk : ∀ n sh Rf I L, PJ (qGG D cA b E) 2 wlLoads o n0 sh0 Rf0 I0 L0 8 iFLoads iLLoads n sh Rf I L → Ev (qGG D cA b E) mLoads_init 1 (0, 0) 86 [(0, .ref o)] [] (n, sh, Rf, I, L) post) : Ev (qGG D cA b E) mLoads_init 1 (8, 23040) 0 (lv_args 0 [.ref o]) [] (n, sh, Rf, I, L) post := by
  refine ev_aload_n dLoads_init_0 rfl ?_
  refine ev_obj (by decide) (q_t2 234 (by decide +kernel) rfl) (q_t1 29 (by decide +kernel) rfl) (q_t1 30 rfl rfl) (Nat.le_of_ble_eq_true rfl) dLoads_init_1 ?_
  refine ev_aload_n dLoads_init_4 rfl ?_
  refine ev_sipush (2880) dLoads_init_5 (by decide) ?_
  refine ev_arrP (kc := 7) (ks := 20160) (k := 0) (w := 2880) hok hP rfl (fun i x hi hx => wlLoads_dis hi hx (rfl : wlLoads[0]? = some (0, 1, .int, 2880))) pt_int (by decide) (by decide) (by decide) dLoads_init_8 fk_Loads_9 rfl ciLoads rfl dLoads_init_10 (fun n sh Rf I L hP => ?_)
  refine ev_aload_n dLoads_init_13 rfl ?_
  refine ev_sipush (2880) dLoads_init_14 (by decide) ?_
  refine ev_arrP (kc := 6) (ks := 17280) (k := 1) (w := 2880) hok hP rfl (fun i x hi hx => wlLoads_dis hi hx (rfl : wlLoads[1]? = some (1, 2, .int, 2880))) pt_int (by decide) (by decide) (by decide) dLoads_init_17 fk_Loads_15 rfl ciLoads rfl dLoads_init_19 (fun n sh Rf I L hP => ?_)
  refine ev_aload_n dLoads_init_22 rfl ?_
  refine ev_sipush (2880) dLoads_init_23 (by decide) ?_
  refine ev_arrP (kc := 5) (ks := 14400) (k := 2) (w := 2880) hok hP rfl (fun i x hi hx => wlLoads_dis hi hx (rfl : wlLoads[2]? = some (2, 3, .int, 2880))) pt_int (by decide) (by decide) (by decide) dLoads_init_26 fk_Loads_18 rfl ciLoads rfl dLoads_init_28 (fun n sh Rf I L hP => ?_)
  refine ev_aload_n dLoads_init_31 rfl ?_
  refine ev_sipush (2880) dLoads_init_32 (by decide) ?_
  refine ev_arrP (kc := 4) (ks := 11520) (k := 3) (w := 2880) hok hP rfl (fun i x hi hx => wlLoads_dis hi hx (rfl : wlLoads[3]? = some (3, 4, .int, 2880))) pt_int (by decide) (by decide) (by decide) dLoads_init_35 fk_Loads_21 rfl ciLoads rfl dLoads_init_37 (fun n sh Rf I L hP => ?_)
  refine ev_aload_n dLoads_init_40 rfl ?_
  refine ev_sipush (2880) dLoads_init_41 (by decide) ?_
  refine ev_arrP (kc := 3) (ks := 8640) (k := 4) (w := 2880) hok hP rfl (fun i x hi hx => wlLoads_dis hi hx (rfl : wlLoads[4]? = some (4, 5, .int, 2880))) pt_int (by decide) (by decide) (by decide) dLoads_init_44 fk_Loads_24 rfl ciLoads rfl dLoads_init_46 (fun n sh Rf I L hP => ?_)
  refine ev_aload_n dLoads_init_49 rfl ?_
  refine ev_sipush (2880) dLoads_init_50 (by decide) ?_
  refine ev_arrP (kc := 2) (ks := 5760) (k := 5) (w := 2880) hok hP rfl (fun i x hi hx => wlLoads_dis hi hx (rfl : wlLoads[5]? = some (5, 6, .int, 2880))) pt_int (by decide) (by decide) (by decide) dLoads_init_53 fk_Loads_27 rfl ciLoads rfl dLoads_init_55 (fun n sh Rf I L hP => ?_)
  refine ev_aload_n dLoads_init_58 rfl ?_
  refine ev_sipush (2880) dLoads_init_59 (by decide) ?_
  refine ev_arrP (kc := 1) (ks := 2880) (k := 6) (w := 2880) hok hP rfl (fun i x hi hx => wlLoads_dis hi hx (rfl : wlLoads[6]? = some (6, 7, .int, 2880))) pt_int (by decide) (by decide) (by decide) dLoads_init_62 fk_Loads_30 rfl ciLoads rfl dLoads_init_64 (fun n sh Rf I L hP => ?_)
  refine ev_aload_n dLoads_init_67 rfl ?_
  refine ev_sipush (2880) dLoads_init_68 (by decide) ?_
  refine ev_arrP (kc := 0) (ks := 0) (k := 7) (w := 2880) hok hP rfl (fun i x hi hx => wlLoads_dis hi hx (rfl : wlLoads[7]? = some (7, 8, .int, 2880))) pt_int (by decide) (by decide) (by decide) dLoads_init_71 fk_Loads_33 rfl ciLoads rfl dLoads_init_73 (fun n sh Rf I L hP => ?_)
  refine ev_aload_n dLoads_init_76 rfl ?_
  refine ev_iconst (0) dLoads_init_77 (by decide) ?_
  refine ev_intP hok hP fk_Loads_36 rfl dLoads_init_78 (fun I hP => ?_)
  refine ev_aload_n dLoads_init_81 rfl ?_
  refine ev_iconst (0) dLoads_init_82 (by decide) ?_
  refine ev_intP hok hP fk_Loads_40 rfl dLoads_init_83 (fun I hP => ?_)
  exact kk n sh Rf I L hP
theorem PJ.wfLoads {D : va_G} {cA : FieldType → ClassId} {b : Nat} {E : State → Prop} {o n0 : Nat} {sh0 : Nat → qC} {Rf0 : Nat → Nat → Option Nat} {I0 : Nat → Nat → Int32} {L0 : Nat → Nat → Int64} {n : Nat} {sh : Nat → qC} {Rf : Nat → Nat → Option Nat} {I : Nat → Nat → Int32} {L : Nat → Nat → Int64} {F : Nat → Int32} {FL : Nat → Int64} (h : PJ (qGG D cA b E) 2 wlLoads o n0 sh0 Rf0 I0 L0 8 F FL n sh Rf I L) : WfLoads (qGG D cA b E) n sh Rf o := by
  obtain ⟨p1, p2, p3, p4, p5, p6, p7, p8⟩ := h
  refine ⟨⟨p2, by omega, p4⟩, fun x hx => ?_⟩
  obtain ⟨i, hi⟩ := List.getElem?_of_mem hx
  have hl : i < 8 := (List.getElem?_eq_some_iff.mp hi).1
  obtain ⟨a1, a2, -, -⟩ := p7 i x hl hi
  rw [wlLoads_off i hl x hi]
  exact ⟨a1, a2⟩
/-- what a new SaltOffice$Loads is: its fields, its rows of zeros; nothing below it has changed -/
def NewLoads (o n n' : Nat) (sh sh' : Nat → qC) (Rf Rf' : Nat → Nat → Option Nat) (I I' : Nat → Nat → Int32) (L L' : Nat → Nat → Int64) : Prop := n' = n + 8 ∧ I' o = iFLoads ∧ L' o = iLLoads ∧ (∀ i, i < 8 → I' (o + (i + 1)) = (fun _ => 0) ∧ L' (o + (i + 1)) = (fun _ => 0)) ∧ ∀ a, a < o → sh' a = sh a ∧ Rf' a = Rf a ∧ I' a = I a ∧ L' a = L a
theorem PJ.newLoads {D : va_G} {cA : FieldType → ClassId} {b : Nat} {E : State → Prop} {o n0 : Nat} {sh0 : Nat → qC} {Rf0 : Nat → Nat → Option Nat} {I0 : Nat → Nat → Int32} {L0 : Nat → Nat → Int64} {n : Nat} {sh : Nat → qC} {Rf : Nat → Nat → Option Nat} {I : Nat → Nat → Int32} {L : Nat → Nat → Int64} (h : PJ (qGG D cA b E) 2 wlLoads o n0 sh0 Rf0 I0 L0 8 iFLoads iLLoads n sh Rf I L) : NewLoads o n0 n sh0 sh Rf0 Rf I0 I L0 L := by
  obtain ⟨p1, p2, p3, p4, p5, p6, p7, p8⟩ := h
  refine ⟨p1, p5, p6, fun i hi => ?_, p8⟩
  have hl : i < wlLoads.length := hi
  obtain ⟨-, -, a3, a4⟩ := p7 i _ hi (List.getElem?_eq_getElem hl)
  exact ⟨a3, a4⟩
theorem iLoads {D : va_G} {cA : FieldType → ClassId} {b : Nat} {E : State → Prop} {o n0 : Nat} {sh0 : Nat → qC} {Rf0 : Nat → Nat → Option Nat} {I0 : Nat → Nat → Int32} {L0 : Nat → Nat → Int64} {post : Option Value → qS → Prop} {n : Nat} {sh : Nat → qC} {Rf : Nat → Nat → Option Nat} {I : Nat → Nat → Int32} {L : Nat → Nat → Int64} (hok : q_ok (qGG D cA b E)) (hb : b ≤ o) (hn : o + 1 = b + n) (hs : sh o = .inr 2) (hI : I o = fun _ => 0) (hL : L o = fun _ => 0) (hp : ∀ n' sh' Rf' I' L', WfLoads (qGG D cA b E) n' sh' Rf' o → NewLoads o n n' sh sh' Rf Rf' I I' L L' → post none (n', sh', Rf', I', L')) : Ev (qGG D cA b E) mLoads_init 1 (8, 23040) 0 (lv_args 0 [.ref o]) [] (n, sh, Rf, I, L) post :=
  iLoads_rows (n0 := n) (sh0 := sh) (Rf0 := Rf) (I0 := I) (L0 := L) hok ⟨rfl, hb, hn, hs, hI, hL, fun i x hi => absurd hi (by omega), fun a ha => ⟨rfl, rfl, rfl, rfl⟩⟩ (fun n1 sh1 Rf1 I1 L1 hP => ev_vret rfl dLoads_init_86 (hp n1 sh1 Rf1 I1 L1 hP.wfLoads hP.newLoads))
theorem wlRecords_lt : wlRecords.Pairwise (fun x y => x.1 < y.1) := by decide
theorem wlRecords_dis {i j : Nat} {x y : Nat × Nat × FieldType × Nat} (hij : i < j) (hx : wlRecords[i]? = some x) (hy : wlRecords[j]? = some y) : x.1 ≠ y.1 := by
  obtain ⟨h1, e1⟩ := List.getElem?_eq_some_iff.mp hx
  obtain ⟨h2, e2⟩ := List.getElem?_eq_some_iff.mp hy
  have := List.pairwise_iff_getElem.mp wlRecords_lt i j h1 h2 hij
  rw [e1, e2] at this
  exact Nat.ne_of_lt this
theorem ciRecords : ∀ q : vw_C, qcl[5]? = some q → q.1 = "SaltOffice$Records" := by
  intro q h
  have := Option.some.inj (h.symm.trans (rfl : qcl[5]? = some (qR5, qT5, 4)))
  subst this
  rfl
theorem wlRecords_off : ∀ i, i < 4 → ∀ x, wlRecords[i]? = some x → x.2.1 = i + 1 := by decide +kernel
def iFRecords : Nat → Int32 := fun _ => 0
def iLRecords : Nat → Int64 := fun _ => 0
set_option maxHeartbeats 40000000 in
set_option maxRecDepth 20000 in
theorem iRecords_rows {D : va_G} {cA : FieldType → ClassId} {b : Nat} {E : State → Prop} {o n0 : Nat} {sh0 : Nat → qC} {Rf0 : Nat → Nat → Option Nat} {I0 : Nat → Nat → Int32} {L0 : Nat → Nat → Int64} {post : Option Value → qS → Prop} {n : Nat} {sh : Nat → qC} {Rf : Nat → Nat → Option Nat} {I : Nat → Nat → Int32} {L : Nat → Nat → Int64} (hok : q_ok (qGG D cA b E)) (hP : PJ (qGG D cA b E) 5 wlRecords o n0 sh0 Rf0 I0 L0 0 (fun _ => 0) (fun _ => 0) n sh Rf I L) (kk : ∀ n sh Rf I L, PJ (qGG D cA b E) 5 wlRecords o n0 sh0 Rf0 I0 L0 4 iFRecords iLRecords n sh Rf I L → Ev (qGG D cA b E) mRecords_init 1 (0, 0) 40 [(0, .ref o)] [] (n, sh, Rf, I, L) post) : Ev (qGG D cA b E) mRecords_init 1 (4, 10800) 0 (lv_args 0 [.ref o]) [] (n, sh, Rf, I, L) post := by
  refine ev_aload_n dRecords_init_0 rfl ?_
  refine ev_obj (by decide) (q_t3 41 (by decide +kernel) rfl) (q_t1 29 (by decide +kernel) rfl) (q_t1 30 rfl rfl) (Nat.le_of_ble_eq_true rfl) dRecords_init_1 ?_
  refine ev_aload_n dRecords_init_4 rfl ?_
  refine ev_sipush (1440) dRecords_init_5 (by decide) ?_
  refine ev_arrP (kc := 3) (ks := 9360) (k := 0) (w := 1440) hok hP rfl (fun i x hi hx => wlRecords_dis hi hx (rfl : wlRecords[0]? = some (0, 1, .int, 1440))) pt_int (by decide) (by decide) (by decide) dRecords_init_8 fk_Records_9 rfl ciRecords rfl dRecords_init_10 (fun n sh Rf I L hP => ?_)
  refine ev_aload_n dRecords_init_13 rfl ?_
  refine ev_sipush (1440) dRecords_init_14 (by decide) ?_
  refine ev_arrP (kc := 2) (ks := 7920) (k := 1) (w := 1440) hok hP rfl (fun i x hi hx => wlRecords_dis hi hx (rfl : wlRecords[1]? = some (1, 2, .int, 1440))) pt_int (by decide) (by decide) (by decide) dRecords_init_17 fk_Records_15 rfl ciRecords rfl dRecords_init_19 (fun n sh Rf I L hP => ?_)
  refine ev_aload_n dRecords_init_22 rfl ?_
  refine ev_sipush (3600) dRecords_init_23 (by decide) ?_
  refine ev_arrP (kc := 1) (ks := 4320) (k := 2) (w := 3600) hok hP rfl (fun i x hi hx => wlRecords_dis hi hx (rfl : wlRecords[2]? = some (2, 3, .int, 3600))) pt_int (by decide) (by decide) (by decide) dRecords_init_26 fk_Records_18 rfl ciRecords rfl dRecords_init_28 (fun n sh Rf I L hP => ?_)
  refine ev_aload_n dRecords_init_31 rfl ?_
  refine ev_sipush (4320) dRecords_init_32 (by decide) ?_
  refine ev_arrP (kc := 0) (ks := 0) (k := 3) (w := 4320) hok hP rfl (fun i x hi hx => wlRecords_dis hi hx (rfl : wlRecords[3]? = some (3, 4, .long, 4320))) pt_long (by decide) (by decide) (by decide) dRecords_init_35 fk_Records_21 rfl ciRecords rfl dRecords_init_37 (fun n sh Rf I L hP => ?_)
  exact kk n sh Rf I L hP
theorem PJ.wfRecords {D : va_G} {cA : FieldType → ClassId} {b : Nat} {E : State → Prop} {o n0 : Nat} {sh0 : Nat → qC} {Rf0 : Nat → Nat → Option Nat} {I0 : Nat → Nat → Int32} {L0 : Nat → Nat → Int64} {n : Nat} {sh : Nat → qC} {Rf : Nat → Nat → Option Nat} {I : Nat → Nat → Int32} {L : Nat → Nat → Int64} {F : Nat → Int32} {FL : Nat → Int64} (h : PJ (qGG D cA b E) 5 wlRecords o n0 sh0 Rf0 I0 L0 4 F FL n sh Rf I L) : WfRecords (qGG D cA b E) n sh Rf o := by
  obtain ⟨p1, p2, p3, p4, p5, p6, p7, p8⟩ := h
  refine ⟨⟨p2, by omega, p4⟩, fun x hx => ?_⟩
  obtain ⟨i, hi⟩ := List.getElem?_of_mem hx
  have hl : i < 4 := (List.getElem?_eq_some_iff.mp hi).1
  obtain ⟨a1, a2, -, -⟩ := p7 i x hl hi
  rw [wlRecords_off i hl x hi]
  exact ⟨a1, a2⟩
/-- what a new SaltOffice$Records is: its fields, its rows of zeros; nothing below it has changed -/
def NewRecords (o n n' : Nat) (sh sh' : Nat → qC) (Rf Rf' : Nat → Nat → Option Nat) (I I' : Nat → Nat → Int32) (L L' : Nat → Nat → Int64) : Prop := n' = n + 4 ∧ I' o = iFRecords ∧ L' o = iLRecords ∧ (∀ i, i < 4 → I' (o + (i + 1)) = (fun _ => 0) ∧ L' (o + (i + 1)) = (fun _ => 0)) ∧ ∀ a, a < o → sh' a = sh a ∧ Rf' a = Rf a ∧ I' a = I a ∧ L' a = L a
theorem PJ.newRecords {D : va_G} {cA : FieldType → ClassId} {b : Nat} {E : State → Prop} {o n0 : Nat} {sh0 : Nat → qC} {Rf0 : Nat → Nat → Option Nat} {I0 : Nat → Nat → Int32} {L0 : Nat → Nat → Int64} {n : Nat} {sh : Nat → qC} {Rf : Nat → Nat → Option Nat} {I : Nat → Nat → Int32} {L : Nat → Nat → Int64} (h : PJ (qGG D cA b E) 5 wlRecords o n0 sh0 Rf0 I0 L0 4 iFRecords iLRecords n sh Rf I L) : NewRecords o n0 n sh0 sh Rf0 Rf I0 I L0 L := by
  obtain ⟨p1, p2, p3, p4, p5, p6, p7, p8⟩ := h
  refine ⟨p1, p5, p6, fun i hi => ?_, p8⟩
  have hl : i < wlRecords.length := hi
  obtain ⟨-, -, a3, a4⟩ := p7 i _ hi (List.getElem?_eq_getElem hl)
  exact ⟨a3, a4⟩
theorem iRecords {D : va_G} {cA : FieldType → ClassId} {b : Nat} {E : State → Prop} {o n0 : Nat} {sh0 : Nat → qC} {Rf0 : Nat → Nat → Option Nat} {I0 : Nat → Nat → Int32} {L0 : Nat → Nat → Int64} {post : Option Value → qS → Prop} {n : Nat} {sh : Nat → qC} {Rf : Nat → Nat → Option Nat} {I : Nat → Nat → Int32} {L : Nat → Nat → Int64} (hok : q_ok (qGG D cA b E)) (hb : b ≤ o) (hn : o + 1 = b + n) (hs : sh o = .inr 5) (hI : I o = fun _ => 0) (hL : L o = fun _ => 0) (hp : ∀ n' sh' Rf' I' L', WfRecords (qGG D cA b E) n' sh' Rf' o → NewRecords o n n' sh sh' Rf Rf' I I' L L' → post none (n', sh', Rf', I', L')) : Ev (qGG D cA b E) mRecords_init 1 (4, 10800) 0 (lv_args 0 [.ref o]) [] (n, sh, Rf, I, L) post :=
  iRecords_rows (n0 := n) (sh0 := sh) (Rf0 := Rf) (I0 := I) (L0 := L) hok ⟨rfl, hb, hn, hs, hI, hL, fun i x hi => absurd hi (by omega), fun a ha => ⟨rfl, rfl, rfl, rfl⟩⟩ (fun n1 sh1 Rf1 I1 L1 hP => ev_vret rfl dRecords_init_40 (hp n1 sh1 Rf1 I1 L1 hP.wfRecords hP.newRecords))
theorem wlWay_lt : wlWay.Pairwise (fun x y => x.1 < y.1) := by decide
theorem wlWay_dis {i j : Nat} {x y : Nat × Nat × FieldType × Nat} (hij : i < j) (hx : wlWay[i]? = some x) (hy : wlWay[j]? = some y) : x.1 ≠ y.1 := by
  obtain ⟨h1, e1⟩ := List.getElem?_eq_some_iff.mp hx
  obtain ⟨h2, e2⟩ := List.getElem?_eq_some_iff.mp hy
  have := List.pairwise_iff_getElem.mp wlWay_lt i j h1 h2 hij
  rw [e1, e2] at this
  exact Nat.ne_of_lt this
theorem ciWay : ∀ q : vw_C, qcl[10]? = some q → q.1 = "SaltOffice$Way" := by
  intro q h
  have := Option.some.inj (h.symm.trans (rfl : qcl[10]? = some (qR10, qT10, 8)))
  subst this
  rfl
theorem wlWay_off : ∀ i, i < 0 → ∀ x, wlWay[i]? = some x → x.2.1 = i + 1 := by decide +kernel
def iFWay : Nat → Int32 := fun y => if y = 6 then (-1) else if y = 4 then 0 else if y = 3 then 0 else if y = 2 then (-1) else if y = 1 then (-1) else if y = 0 then 0 else 0
def iLWay : Nat → Int64 := fun y => if y = 7 then 0 else if y = 5 then 0 else 0
set_option maxHeartbeats 40000000 in
set_option maxRecDepth 20000 in
theorem iWay_rows {D : va_G} {cA : FieldType → ClassId} {b : Nat} {E : State → Prop} {o n0 : Nat} {sh0 : Nat → qC} {Rf0 : Nat → Nat → Option Nat} {I0 : Nat → Nat → Int32} {L0 : Nat → Nat → Int64} {post : Option Value → qS → Prop} {n : Nat} {sh : Nat → qC} {Rf : Nat → Nat → Option Nat} {I : Nat → Nat → Int32} {L : Nat → Nat → Int64} (hok : q_ok (qGG D cA b E)) (hP : PJ (qGG D cA b E) 10 wlWay o n0 sh0 Rf0 I0 L0 0 (fun _ => 0) (fun _ => 0) n sh Rf I L) (kk : ∀ n sh Rf I L, PJ (qGG D cA b E) 10 wlWay o n0 sh0 Rf0 I0 L0 0 iFWay iLWay n sh Rf I L → Ev (qGG D cA b E) mWay_init 1 (0, 0) 44 [(0, .ref o)] [] (n, sh, Rf, I, L) post) : Ev (qGG D cA b E) mWay_init 1 (0, 0) 0 (lv_args 0 [.ref o]) [] (n, sh, Rf, I, L) post := by
  refine ev_aload_n dWay_init_0 rfl ?_
  refine ev_obj (by decide) (q_t3 64 (by decide +kernel) rfl) (q_t1 29 (by decide +kernel) rfl) (q_t1 30 rfl rfl) (Nat.le_of_ble_eq_true rfl) dWay_init_1 ?_
  refine ev_aload_n dWay_init_4 rfl ?_
  refine ev_iconst (0) dWay_init_5 (by decide) ?_
  refine ev_intP hok hP fk_Way_9 rfl dWay_init_6 (fun I hP => ?_)
  refine ev_aload_n dWay_init_9 rfl ?_
  refine ev_iconst (-1) dWay_init_10 (by decide) ?_
  refine ev_intP hok hP fk_Way_15 rfl dWay_init_11 (fun I hP => ?_)
  refine ev_aload_n dWay_init_14 rfl ?_
  refine ev_iconst (-1) dWay_init_15 (by decide) ?_
  refine ev_intP hok hP fk_Way_18 rfl dWay_init_16 (fun I hP => ?_)
  refine ev_aload_n dWay_init_19 rfl ?_
  refine ev_iconst (0) dWay_init_20 (by decide) ?_
  refine ev_intP hok hP fk_Way_21 rfl dWay_init_21 (fun I hP => ?_)
  refine ev_aload_n dWay_init_24 rfl ?_
  refine ev_iconst (0) dWay_init_25 (by decide) ?_
  refine ev_intP hok hP fk_Way_24 rfl dWay_init_26 (fun I hP => ?_)
  refine ev_aload_n dWay_init_29 rfl ?_
  refine ev_lconst 0 dWay_init_30 (by decide) ?_
  refine ev_longP hok hP fk_Way_27 rfl dWay_init_31 (fun L hP => ?_)
  refine ev_aload_n dWay_init_34 rfl ?_
  refine ev_iconst (-1) dWay_init_35 (by decide) ?_
  refine ev_intP hok hP fk_Way_31 rfl dWay_init_36 (fun I hP => ?_)
  refine ev_aload_n dWay_init_39 rfl ?_
  refine ev_lconst 0 dWay_init_40 (by decide) ?_
  refine ev_longP hok hP fk_Way_34 rfl dWay_init_41 (fun L hP => ?_)
  exact kk n sh Rf I L hP
theorem PJ.wfWay {D : va_G} {cA : FieldType → ClassId} {b : Nat} {E : State → Prop} {o n0 : Nat} {sh0 : Nat → qC} {Rf0 : Nat → Nat → Option Nat} {I0 : Nat → Nat → Int32} {L0 : Nat → Nat → Int64} {n : Nat} {sh : Nat → qC} {Rf : Nat → Nat → Option Nat} {I : Nat → Nat → Int32} {L : Nat → Nat → Int64} {F : Nat → Int32} {FL : Nat → Int64} (h : PJ (qGG D cA b E) 10 wlWay o n0 sh0 Rf0 I0 L0 0 F FL n sh Rf I L) : WfWay (qGG D cA b E) n sh Rf o := by
  obtain ⟨p1, p2, p3, p4, p5, p6, p7, p8⟩ := h
  refine ⟨⟨p2, by omega, p4⟩, fun x hx => ?_⟩
  obtain ⟨i, hi⟩ := List.getElem?_of_mem hx
  have hl : i < 0 := (List.getElem?_eq_some_iff.mp hi).1
  obtain ⟨a1, a2, -, -⟩ := p7 i x hl hi
  rw [wlWay_off i hl x hi]
  exact ⟨a1, a2⟩
/-- what a new SaltOffice$Way is: its fields, its rows of zeros; nothing below it has changed -/
def NewWay (o n n' : Nat) (sh sh' : Nat → qC) (Rf Rf' : Nat → Nat → Option Nat) (I I' : Nat → Nat → Int32) (L L' : Nat → Nat → Int64) : Prop := n' = n + 0 ∧ I' o = iFWay ∧ L' o = iLWay ∧ (∀ i, i < 0 → I' (o + (i + 1)) = (fun _ => 0) ∧ L' (o + (i + 1)) = (fun _ => 0)) ∧ ∀ a, a < o → sh' a = sh a ∧ Rf' a = Rf a ∧ I' a = I a ∧ L' a = L a
theorem PJ.newWay {D : va_G} {cA : FieldType → ClassId} {b : Nat} {E : State → Prop} {o n0 : Nat} {sh0 : Nat → qC} {Rf0 : Nat → Nat → Option Nat} {I0 : Nat → Nat → Int32} {L0 : Nat → Nat → Int64} {n : Nat} {sh : Nat → qC} {Rf : Nat → Nat → Option Nat} {I : Nat → Nat → Int32} {L : Nat → Nat → Int64} (h : PJ (qGG D cA b E) 10 wlWay o n0 sh0 Rf0 I0 L0 0 iFWay iLWay n sh Rf I L) : NewWay o n0 n sh0 sh Rf0 Rf I0 I L0 L := by
  obtain ⟨p1, p2, p3, p4, p5, p6, p7, p8⟩ := h
  refine ⟨p1, p5, p6, fun i hi => ?_, p8⟩
  have hl : i < wlWay.length := hi
  obtain ⟨-, -, a3, a4⟩ := p7 i _ hi (List.getElem?_eq_getElem hl)
  exact ⟨a3, a4⟩
theorem iWay {D : va_G} {cA : FieldType → ClassId} {b : Nat} {E : State → Prop} {o n0 : Nat} {sh0 : Nat → qC} {Rf0 : Nat → Nat → Option Nat} {I0 : Nat → Nat → Int32} {L0 : Nat → Nat → Int64} {post : Option Value → qS → Prop} {n : Nat} {sh : Nat → qC} {Rf : Nat → Nat → Option Nat} {I : Nat → Nat → Int32} {L : Nat → Nat → Int64} (hok : q_ok (qGG D cA b E)) (hb : b ≤ o) (hn : o + 1 = b + n) (hs : sh o = .inr 10) (hI : I o = fun _ => 0) (hL : L o = fun _ => 0) (hp : ∀ n' sh' Rf' I' L', WfWay (qGG D cA b E) n' sh' Rf' o → NewWay o n n' sh sh' Rf Rf' I I' L L' → post none (n', sh', Rf', I', L')) : Ev (qGG D cA b E) mWay_init 1 (0, 0) 0 (lv_args 0 [.ref o]) [] (n, sh, Rf, I, L) post :=
  iWay_rows (n0 := n) (sh0 := sh) (Rf0 := Rf) (I0 := I) (L0 := L) hok ⟨rfl, hb, hn, hs, hI, hL, fun i x hi => absurd hi (by omega), fun a ha => ⟨rfl, rfl, rfl, rfl⟩⟩ (fun n1 sh1 Rf1 I1 L1 hP => ev_vret rfl dWay_init_44 (hp n1 sh1 Rf1 I1 L1 hP.wfWay hP.newWay))
theorem wlTape_lt : wlTape.Pairwise (fun x y => x.1 < y.1) := by decide
theorem wlTape_dis {i j : Nat} {x y : Nat × Nat × FieldType × Nat} (hij : i < j) (hx : wlTape[i]? = some x) (hy : wlTape[j]? = some y) : x.1 ≠ y.1 := by
  obtain ⟨h1, e1⟩ := List.getElem?_eq_some_iff.mp hx
  obtain ⟨h2, e2⟩ := List.getElem?_eq_some_iff.mp hy
  have := List.pairwise_iff_getElem.mp wlTape_lt i j h1 h2 hij
  rw [e1, e2] at this
  exact Nat.ne_of_lt this
theorem ciTape : ∀ q : vw_C, qcl[8]? = some q → q.1 = "SaltOffice$Tape" := by
  intro q h
  have := Option.some.inj (h.symm.trans (rfl : qcl[8]? = some (qR8, qT8, 11)))
  subst this
  rfl
theorem wlTape_off : ∀ i, i < 6 → ∀ x, wlTape[i]? = some x → x.2.1 = i + 1 := by decide +kernel
def iFTape : Nat → Int32 := fun y => if y = 10 then 0 else if y = 9 then 0 else if y = 8 then (-1) else if y = 7 then 0 else if y = 6 then 0 else 0
def iLTape : Nat → Int64 := fun _ => 0
set_option maxHeartbeats 40000000 in
set_option maxRecDepth 20000 in
theorem iTape_rows {D : va_G} {cA : FieldType → ClassId} {b : Nat} {E : State → Prop} {o n0 : Nat} {sh0 : Nat → qC} {Rf0 : Nat → Nat → Option Nat} {I0 : Nat → Nat → Int32} {L0 : Nat → Nat → Int64} {post : Option Value → qS → Prop} {n : Nat} {sh : Nat → qC} {Rf : Nat → Nat → Option Nat} {I : Nat → Nat → Int32} {L : Nat → Nat → Int64} (hok : q_ok (qGG D cA b E)) (hP : PJ (qGG D cA b E) 8 wlTape o n0 sh0 Rf0 I0 L0 0 (fun _ => 0) (fun _ => 0) n sh Rf I L) (kk : ∀ n sh Rf I L, PJ (qGG D cA b E) 8 wlTape o n0 sh0 Rf0 I0 L0 6 iFTape iLTape n sh Rf I L → Ev (qGG D cA b E) mTape_init 6 (0, 0) 82 [(0, .ref o)] [] (n, sh, Rf, I, L) post) : Ev (qGG D cA b E) mTape_init 6 (6, 8036) 0 (lv_args 0 [.ref o]) [] (n, sh, Rf, I, L) post := by
  refine ev_aload_n dTape_init_0 rfl ?_
  refine ev_obj (by decide) (q_t1 36 (by decide +kernel) rfl) (q_t1 29 (by decide +kernel) rfl) (q_t1 30 rfl rfl) (Nat.le_of_ble_eq_true rfl) dTape_init_1 ?_
  refine ev_aload_n dTape_init_4 rfl ?_
  refine ev_sipush (1600) dTape_init_5 (by decide) ?_
  refine ev_arrP (kc := 5) (ks := 6436) (k := 0) (w := 1600) hok hP rfl (fun i x hi hx => wlTape_dis hi hx (rfl : wlTape[0]? = some (0, 1, .int, 1600))) pt_int (by decide) (by decide) (by decide) dTape_init_8 fk_Tape_9 rfl ciTape rfl dTape_init_10 (fun n sh Rf I L hP => ?_)
  refine ev_aload_n dTape_init_13 rfl ?_
  refine ev_bipush (32) dTape_init_14 (by decide) ?_
  refine ev_arrP (kc := 4) (ks := 6404) (k := 1) (w := 32) hok hP rfl (fun i x hi hx => wlTape_dis hi hx (rfl : wlTape[1]? = some (1, 2, .long, 32))) pt_long (by decide) (by decide) (by decide) dTape_init_16 fk_Tape_15 rfl ciTape rfl dTape_init_18 (fun n sh Rf I L hP => ?_)
  refine ev_aload_n dTape_init_21 rfl ?_
  refine ev_sipush (1601) dTape_init_22 (by decide) ?_
  refine ev_arrP (kc := 3) (ks := 4803) (k := 2) (w := 1601) hok hP rfl (fun i x hi hx => wlTape_dis hi hx (rfl : wlTape[2]? = some (2, 3, .int, 1601))) pt_int (by decide) (by decide) (by decide) dTape_init_25 fk_Tape_19 rfl ciTape rfl dTape_init_27 (fun n sh Rf I L hP => ?_)
  refine ev_aload_n dTape_init_30 rfl ?_
  refine ev_sipush (1601) dTape_init_31 (by decide) ?_
  refine ev_arrP (kc := 2) (ks := 3202) (k := 3) (w := 1601) hok hP rfl (fun i x hi hx => wlTape_dis hi hx (rfl : wlTape[3]? = some (3, 4, .int, 1601))) pt_int (by decide) (by decide) (by decide) dTape_init_34 fk_Tape_22 rfl ciTape rfl dTape_init_36 (fun n sh Rf I L hP => ?_)
  refine ev_aload_n dTape_init_39 rfl ?_
  refine ev_sipush (1601) dTape_init_40 (by decide) ?_
  refine ev_arrP (kc := 1) (ks := 1601) (k := 4) (w := 1601) hok hP rfl (fun i x hi hx => wlTape_dis hi hx (rfl : wlTape[4]? = some (4, 5, .int, 1601))) pt_int (by decide) (by decide) (by decide) dTape_init_43 fk_Tape_25 rfl ciTape rfl dTape_init_45 (fun n sh Rf I L hP => ?_)
  refine ev_aload_n dTape_init_48 rfl ?_
  refine ev_sipush (1601) dTape_init_49 (by decide) ?_
  refine ev_arrP (kc := 0) (ks := 0) (k := 5) (w := 1601) hok hP rfl (fun i x hi hx => wlTape_dis hi hx (rfl : wlTape[5]? = some (5, 6, .long, 1601))) pt_long (by decide) (by decide) (by decide) dTape_init_52 fk_Tape_28 rfl ciTape rfl dTape_init_54 (fun n sh Rf I L hP => ?_)
  refine ev_aload_n dTape_init_57 rfl ?_
  refine ev_iconst (0) dTape_init_58 (by decide) ?_
  refine ev_intP hok hP fk_Tape_31 rfl dTape_init_59 (fun I hP => ?_)
  refine ev_aload_n dTape_init_62 rfl ?_
  refine ev_iconst (0) dTape_init_63 (by decide) ?_
  refine ev_intP hok hP fk_Tape_35 rfl dTape_init_64 (fun I hP => ?_)
  refine ev_aload_n dTape_init_67 rfl ?_
  refine ev_iconst (-1) dTape_init_68 (by decide) ?_
  refine ev_intP hok hP fk_Tape_38 rfl dTape_init_69 (fun I hP => ?_)
  refine ev_aload_n dTape_init_72 rfl ?_
  refine ev_iconst (0) dTape_init_73 (by decide) ?_
  refine ev_boolP (Or.inl rfl) hok hP fk_Tape_41 rfl dTape_init_74 (fun I hP => ?_)
  refine ev_aload_n dTape_init_77 rfl ?_
  refine ev_iconst (0) dTape_init_78 (by decide) ?_
  refine ev_intP hok hP fk_Tape_45 rfl dTape_init_79 (fun I hP => ?_)
  exact kk n sh Rf I L hP
theorem PJ.wfTape {D : va_G} {cA : FieldType → ClassId} {b : Nat} {E : State → Prop} {o n0 : Nat} {sh0 : Nat → qC} {Rf0 : Nat → Nat → Option Nat} {I0 : Nat → Nat → Int32} {L0 : Nat → Nat → Int64} {n : Nat} {sh : Nat → qC} {Rf : Nat → Nat → Option Nat} {I : Nat → Nat → Int32} {L : Nat → Nat → Int64} {F : Nat → Int32} {FL : Nat → Int64} (h : PJ (qGG D cA b E) 8 wlTape o n0 sh0 Rf0 I0 L0 6 F FL n sh Rf I L) : WfTape (qGG D cA b E) n sh Rf o := by
  obtain ⟨p1, p2, p3, p4, p5, p6, p7, p8⟩ := h
  refine ⟨⟨p2, by omega, p4⟩, fun x hx => ?_⟩
  obtain ⟨i, hi⟩ := List.getElem?_of_mem hx
  have hl : i < 6 := (List.getElem?_eq_some_iff.mp hi).1
  obtain ⟨a1, a2, -, -⟩ := p7 i x hl hi
  rw [wlTape_off i hl x hi]
  exact ⟨a1, a2⟩
/-- what a new SaltOffice$Tape is: its fields, its rows of zeros; nothing below it has changed -/
def NewTape (o n n' : Nat) (sh sh' : Nat → qC) (Rf Rf' : Nat → Nat → Option Nat) (I I' : Nat → Nat → Int32) (L L' : Nat → Nat → Int64) : Prop := n' = n + 6 ∧ I' o = iFTape ∧ L' o = iLTape ∧ (∀ i, i < 6 → I' (o + (i + 1)) = (fun _ => 0) ∧ L' (o + (i + 1)) = (fun _ => 0)) ∧ ∀ a, a < o → sh' a = sh a ∧ Rf' a = Rf a ∧ I' a = I a ∧ L' a = L a
theorem PJ.newTape {D : va_G} {cA : FieldType → ClassId} {b : Nat} {E : State → Prop} {o n0 : Nat} {sh0 : Nat → qC} {Rf0 : Nat → Nat → Option Nat} {I0 : Nat → Nat → Int32} {L0 : Nat → Nat → Int64} {n : Nat} {sh : Nat → qC} {Rf : Nat → Nat → Option Nat} {I : Nat → Nat → Int32} {L : Nat → Nat → Int64} (h : PJ (qGG D cA b E) 8 wlTape o n0 sh0 Rf0 I0 L0 6 iFTape iLTape n sh Rf I L) : NewTape o n0 n sh0 sh Rf0 Rf I0 I L0 L := by
  obtain ⟨p1, p2, p3, p4, p5, p6, p7, p8⟩ := h
  refine ⟨p1, p5, p6, fun i hi => ?_, p8⟩
  have hl : i < wlTape.length := hi
  obtain ⟨-, -, a3, a4⟩ := p7 i _ hi (List.getElem?_eq_getElem hl)
  exact ⟨a3, a4⟩
