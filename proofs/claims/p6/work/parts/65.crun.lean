/-! new Run(): by program (ctor2.py). -/
theorem ciRun : ∀ q : vw_C, qcl[7]? = some q → q.1 = "SaltOffice$Run" := by
  intro q h
  have := Option.some.inj (h.symm.trans (rfl : qcl[7]? = some (qR7, qT7, 20)))
  subst this
  rfl
def iFRun : Nat → Int32 := fun y => if y = 18 then 0 else if y = 17 then 0 else if y = 16 then 0 else if y = 15 then 0 else 0
def iLRun : Nat → Int64 := fun y => if y = 19 then (-1000000000000) else 0
def plRun (G : qG) : List (Nat × Nat × Nat × (qS → Nat → Prop)) := [(65, 14, 1, arrQ .long 11), (64, 13, 1, arrQ .int 6), (63, 12, 1, arrQ .int 6), (62, 11, 1, arrQ .int 18), (61, 10, 1, arrQ .long 6), (60, 9, 1, arrQ .int 11), (59, 8, 1, arrQ .int 64), (58, 7, 1, qWay G), (53, 6, 5, qRecords G), (44, 5, 9, qLoads G), (31, 4, 13, qPapers G), (24, 3, 7, qRealm G), (19, 2, 5, qReform G), (17, 1, 2, qTrade G), (1, 0, 16, qLand G)]
section IRun
variable {D : va_G} {cA : FieldType → ClassId} {b : Nat} {E : State → Prop} {o n0 : Nat} {sh0 : Nat → qC} {Rf0 : Nat → Nat → Option Nat} {I0 : Nat → Nat → Int32} {L0 : Nat → Nat → Int64} {post : Option Value → qS → Prop} {n : Nat} {sh : Nat → qC} {Rf : Nat → Nat → Option Nat} {I : Nat → Nat → Int32} {L : Nat → Nat → Int64}
set_option maxHeartbeats 40000000 in
set_option maxRecDepth 20000 in
theorem iRun_rows (hok : q_ok (qGG D cA b E)) (hEN : qEN E) (hP : OJ (qGG D cA b E) 7 [] o n0 sh0 Rf0 I0 L0 (fun _ => 0) (fun _ => 0) 0 n sh Rf I L) (kk : ∀ n sh Rf I L, OJ (qGG D cA b E) 7 (plRun (qGG D cA b E)) o n0 sh0 Rf0 I0 L0 iFRun iLRun 65 n sh Rf I L → post none (n, sh, Rf, I, L)) : Ev (qGG D cA b E) mRun_init 3 (65, 51099) 0 (lv_args 0 [.ref o]) [] (n, sh, Rf, I, L) post := by
  refine ev_aload_n dRun_init_0 rfl ?_
  refine ev_obj (by decide) (q_t2 121 (by decide +kernel) rfl) (q_t1 29 (by decide +kernel) rfl) (q_t1 30 rfl rfl) (Nat.le_of_ble_eq_true rfl) dRun_init_1 ?_
  refine ev_aload_n dRun_init_4 rfl ?_
  refine ev_mkQ (B' := (15, 363)) (B'' := (49, 50716)) (q := (qR1, qT1, 20)) (P := qLand (qGG D cA b E)) hok hP (by simp) (k := 0) (size := 16) (by decide) qLand_loc (rfl : qcl[1]? = _) (q_t2 122 (by decide +kernel) rfl) (q_t1 135 (by decide +kernel) rfl) (q_t1 7 (by decide +kernel) rfl) hdfLand dRun_init_5 dRun_init_8 dRun_init_9 mmLand_init mk_Run_11 (fun _ => Nat.le_of_ble_eq_true rfl) rfl (by decide) (kLand hok) (fun n sh Rf I L x ho kk => ev_putR hok fk_Run_12 ho (fun _ _ _ => rfl) rfl rfl dRun_init_12 kk) (fun n sh Rf I L hP => ?_)
  refine ev_aload_n dRun_init_15 rfl ?_
  refine ev_mkP (B' := (1, 6)) (B'' := (47, 50703)) (q := (qR9, qT9, 7)) (P := qTrade (qGG D cA b E)) hok hP (by simp) (k := 1) (size := 2) (by decide) qTrade_loc (rfl : qcl[9]? = _) (q_t2 124 (by decide +kernel) rfl) (q_t2 36 (by decide +kernel) rfl) (q_t1 10 (by decide +kernel) rfl) hdfTrade dRun_init_16 dRun_init_19 dRun_init_20 mmTrade_init (nk_Run_20 hEN) (fun _ => Nat.le_of_ble_eq_true rfl) rfl (by decide) (kTrade hok) (fun n sh Rf I L x ho kk => ev_putR hok fk_Run_21 ho (fun _ _ _ => rfl) rfl rfl dRun_init_23 kk) (fun n sh Rf I L hP => ?_)
  refine ev_aload_n dRun_init_26 rfl ?_
  refine ev_mkP (B' := (4, 822)) (B'' := (42, 49872)) (q := (qR6, qT6, 9)) (P := qReform (qGG D cA b E)) hok hP (by simp) (k := 2) (size := 5) (by decide) qReform_loc (rfl : qcl[6]? = _) (q_t2 126 (by decide +kernel) rfl) (q_t2 0 (by decide +kernel) rfl) (q_t1 9 (by decide +kernel) rfl) hdfReform dRun_init_27 dRun_init_30 dRun_init_31 mmReform_init (nk_Run_27 hEN) (fun _ => Nat.le_of_ble_eq_true rfl) rfl (by decide) (kReform hok) (fun n sh Rf I L x ho kk => ev_putFR hok fk_Run_28 rfl ciRun ho (fun _ _ _ => rfl) rfl rfl dRun_init_34 kk) (fun n sh Rf I L hP => ?_)
  refine ev_aload_n dRun_init_37 rfl ?_
  refine ev_mkP (B' := (6, 24)) (B'' := (35, 49842)) (q := (qR4, qT4, 6)) (P := qRealm (qGG D cA b E)) hok hP (by simp) (k := 3) (size := 7) (by decide) qRealm_loc (rfl : qcl[4]? = _) (q_t2 128 (by decide +kernel) rfl) (q_t2 129 (by decide +kernel) rfl) (q_t1 13 (by decide +kernel) rfl) hdfRealm dRun_init_38 dRun_init_41 dRun_init_42 mmRealm_init (nk_Run_34 hEN) (fun _ => Nat.le_of_ble_eq_true rfl) rfl (by decide) (kRealm hok) (fun n sh Rf I L x ho kk => ev_putFR hok fk_Run_35 rfl ciRun ho (fun _ _ _ => rfl) rfl rfl dRun_init_45 kk) (fun n sh Rf I L hP => ?_)
  refine ev_aload_n dRun_init_48 rfl ?_
  refine ev_mkP (B' := (12, 15843)) (B'' := (22, 33984)) (q := (qR3, qT3, 15)) (P := qPapers (qGG D cA b E)) hok hP (by simp) (k := 4) (size := 13) (by decide) qPapers_loc (rfl : qcl[3]? = _) (q_t2 164 (by decide +kernel) rfl) (q_t2 165 (by decide +kernel) rfl) (q_t1 14 (by decide +kernel) rfl) hdfPapers dRun_init_49 dRun_init_52 dRun_init_53 mmPapers_init (nk_Run_41 hEN) (fun _ => Nat.le_of_ble_eq_true rfl) rfl (by decide) (kPapers hok) (fun n sh Rf I L x ho kk => ev_putFR hok fk_Run_42 rfl ciRun ho (fun _ _ _ => rfl) rfl rfl dRun_init_56 kk) (fun n sh Rf I L hP => ?_)
  refine ev_aload_n dRun_init_59 rfl ?_
  refine ev_mkP (B' := (8, 23040)) (B'' := (13, 10934)) (q := (qR2, qT2, 10)) (P := qLoads (qGG D cA b E)) hok hP (by simp) (k := 5) (size := 9) (by decide) qLoads_loc (rfl : qcl[2]? = _) (q_t2 229 (by decide +kernel) rfl) (q_t2 230 (by decide +kernel) rfl) (q_t1 15 (by decide +kernel) rfl) hdfLoads dRun_init_60 dRun_init_63 dRun_init_64 mmLoads_init (nk_Run_48 hEN) (fun _ => Nat.le_of_ble_eq_true rfl) rfl (by decide) (kLoads hok) (fun n sh Rf I L x ho kk => ev_putFR hok fk_Run_49 rfl ciRun ho (fun _ _ _ => rfl) rfl rfl dRun_init_67 kk) (fun n sh Rf I L hP => ?_)
  refine ev_aload_n dRun_init_70 rfl ?_
  refine ev_mkP (B' := (4, 10800)) (B'' := (8, 130)) (q := (qR5, qT5, 4)) (P := qRecords (qGG D cA b E)) hok hP (by simp) (k := 6) (size := 5) (by decide) qRecords_loc (rfl : qcl[5]? = _) (q_t3 36 (by decide +kernel) rfl) (q_t3 37 (by decide +kernel) rfl) (q_t1 16 (by decide +kernel) rfl) hdfRecords dRun_init_71 dRun_init_74 dRun_init_75 mmRecords_init (nk_Run_55 hEN) (fun _ => Nat.le_of_ble_eq_true rfl) rfl (by decide) (kRecords hok) (fun n sh Rf I L x ho kk => ev_putFR hok fk_Run_56 rfl ciRun ho (fun _ _ _ => rfl) rfl rfl dRun_init_78 kk) (fun n sh Rf I L hP => ?_)
  refine ev_aload_n dRun_init_81 rfl ?_
  refine ev_mkP (B' := (0, 0)) (B'' := (7, 122)) (q := (qR10, qT10, 8)) (P := qWay (qGG D cA b E)) hok hP (by simp) (k := 7) (size := 1) (by decide) qWay_loc (rfl : qcl[10]? = _) (q_t3 59 (by decide +kernel) rfl) (q_t3 60 (by decide +kernel) rfl) (q_t1 17 (by decide +kernel) rfl) hdfWay dRun_init_82 dRun_init_85 dRun_init_86 mmWay_init (nk_Run_62 hEN) (fun _ => Nat.le_of_ble_eq_true rfl) rfl (by decide) (kWay hok) (fun n sh Rf I L x ho kk => ev_putFR hok fk_Run_63 rfl ciRun ho (fun _ _ _ => rfl) rfl rfl dRun_init_89 kk) (fun n sh Rf I L hP => ?_)
  refine ev_aload_n dRun_init_92 rfl ?_
  refine ev_bipush (64) dRun_init_93 (by decide) ?_
  refine ev_arrO (kc := 6) (ks := 58) (k := 8) (w := 64) hok hP (by simp) pt_int (by decide) (by decide) (by decide) dRun_init_95 fk_Run_67 rfl ciRun rfl dRun_init_97 (fun n sh Rf I L hP => ?_)
  refine ev_aload_n dRun_init_100 rfl ?_
  refine ev_bipush (11) dRun_init_101 (by decide) ?_
  refine ev_arrO (kc := 5) (ks := 47) (k := 9) (w := 11) hok hP (by simp) pt_int (by decide) (by decide) (by decide) dRun_init_103 fk_Run_71 rfl ciRun rfl dRun_init_105 (fun n sh Rf I L hP => ?_)
  refine ev_aload_n dRun_init_108 rfl ?_
  refine ev_bipush (6) dRun_init_109 (by decide) ?_
  refine ev_arrO (kc := 4) (ks := 41) (k := 10) (w := 6) hok hP (by simp) pt_long (by decide) (by decide) (by decide) dRun_init_111 fk_Run_74 rfl ciRun rfl dRun_init_113 (fun n sh Rf I L hP => ?_)
  refine ev_aload_n dRun_init_116 rfl ?_
  refine ev_bipush (18) dRun_init_117 (by decide) ?_
  refine ev_arrO (kc := 3) (ks := 23) (k := 11) (w := 18) hok hP (by simp) pt_int (by decide) (by decide) (by decide) dRun_init_119 fk_Run_78 rfl ciRun rfl dRun_init_121 (fun n sh Rf I L hP => ?_)
  refine ev_aload_n dRun_init_124 rfl ?_
  refine ev_bipush (6) dRun_init_125 (by decide) ?_
  refine ev_arrO (kc := 2) (ks := 17) (k := 12) (w := 6) hok hP (by simp) pt_int (by decide) (by decide) (by decide) dRun_init_127 fk_Run_81 rfl ciRun rfl dRun_init_129 (fun n sh Rf I L hP => ?_)
  refine ev_aload_n dRun_init_132 rfl ?_
  refine ev_bipush (6) dRun_init_133 (by decide) ?_
  refine ev_arrO (kc := 1) (ks := 11) (k := 13) (w := 6) hok hP (by simp) pt_int (by decide) (by decide) (by decide) dRun_init_135 fk_Run_84 rfl ciRun rfl dRun_init_137 (fun n sh Rf I L hP => ?_)
  refine ev_aload_n dRun_init_140 rfl ?_
  refine ev_bipush (11) dRun_init_141 (by decide) ?_
  refine ev_arrO (kc := 0) (ks := 0) (k := 14) (w := 11) hok hP (by simp) pt_long (by decide) (by decide) (by decide) dRun_init_143 fk_Run_87 rfl ciRun rfl dRun_init_145 (fun n sh Rf I L hP => ?_)
  refine ev_aload_n dRun_init_148 rfl ?_
  refine ev_iconst (0) dRun_init_149 (by decide) ?_
  refine ev_putI hok fk_Run_90 hP.own (fun _ _ _ => rfl) (q_bz (Or.inl rfl)) (q_bf (Or.inl rfl)) dRun_init_150 ?_
  have hP := hP.setI (k := 15) (x := (0))
  refine ev_aload_n dRun_init_153 rfl ?_
  refine ev_iconst (0) dRun_init_154 (by decide) ?_
  refine ev_putI hok fk_Run_94 hP.own (fun _ _ _ => rfl) rfl rfl dRun_init_155 ?_
  have hP := hP.setI (k := 16) (x := (0))
  refine ev_aload_n dRun_init_158 rfl ?_
  refine ev_iconst (0) dRun_init_159 (by decide) ?_
  refine ev_putI hok fk_Run_98 hP.own (fun _ _ _ => rfl) rfl rfl dRun_init_160 ?_
  have hP := hP.setI (k := 17) (x := (0))
  refine ev_aload_n dRun_init_163 rfl ?_
  refine ev_iconst (0) dRun_init_164 (by decide) ?_
  refine ev_putI hok fk_Run_101 hP.own (fun _ _ _ => rfl) rfl rfl dRun_init_165 ?_
  have hP := hP.setI (k := 18) (x := (0))
  refine ev_aload_n dRun_init_168 rfl ?_
  refine ev_ldc2 (-1000000000000) dRun_init_169 (q_t3 106 (by decide +kernel) rfl) ?_
  refine ev_putL hok fk_Run_106 hP.own (fun _ _ _ => rfl) rfl rfl dRun_init_172 ?_
  have hP := hP.setL (k := 19) (x := (-1000000000000))
  exact ev_vret rfl dRun_init_175 (kk _ _ _ _ _ hP)
end IRun
