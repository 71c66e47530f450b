/-! The mirror: c2. By program (grun.py). -/
noncomputable def gTape_withLetter_0 (J : gJ) (L : gL) (x0 : Int64) (x2 : Int) : Int64 := gLet (wI2L x2) (fun (v_1 : Int64) => ((((x0 * 32) + v_1) - 97) + 1))
theorem eTape_withLetter_0 {J : gJ} {L : gL} {x0 : Int64} {x2 : Int} : gTape_withLetter_0  J L x0 x2 = gLet (wI2L x2) (fun (v_1 : Int64) => ((((x0 * 32) + v_1) - 97) + 1)) := rfl
set_option maxHeartbeats 4000000 in
set_option maxRecDepth 20000 in
theorem y_Tape_withLetterg {D : va_G} {cA : FieldType → ClassId} {b : Nat} {E : State → Prop} {R : qRg} {n : Nat} {sh : Nat → qC} {Rf : Nat → Nat → Option Nat} {I0 : Nat → Nat → Int32} {L0 : Nat → Nat → Int64} {post : Option Value → qS → Prop} {p0 : Int64} {p2 : Int32} (hok : q_ok (qGG D cA b E)) (hR : RI R I0) (hp : ∀ (r : Int64) , (gTape_withLetter_0  (tI I0) L0 p0 (p2).toInt = r) → post (some (.long r)) (n, sh, Rf, I0, L0)) : Ev (qGG D cA b E) mTape_withLetter 0 (0, 0) 0 (lv_args 0 [.long p0, .int p2]) [] (n, sh, Rf, I0, L0) post := by
  refine sTape_withLetter_0 n sh Rf I0 L0 post p0 p2 hok  ?_
  unfold fTape_withLetter_0
  have hg : gTape_withLetter_0  (tI I0) L0 p0 (p2).toInt = gTape_withLetter_0  (tI I0) L0 p0 (p2).toInt := rfl
  replace hg := (eTape_withLetter_0).symm.trans hg
  replace hg := gt_let (y := (p2 : Int32).toInt64) (wI2L_eq (p2 : Int32)) hg
  exact (hp _  hg.symm)
noncomputable def gTape_placeAt_108 (o : Nat) (J : gJ) (L : gL) (x1 : Int) (x2 : Int) (x3 : Int) (x4 : Int) : Int := (-1)
theorem eTape_placeAt_108 {o : Nat} {J : gJ} {L : gL} {x1 : Int} {x2 : Int} {x3 : Int} {x4 : Int} : gTape_placeAt_108 o J L x1 x2 x3 x4 = (-1) := rfl
noncomputable def gTape_placeAt_95 (o : Nat) (J : gJ) (L : gL) (x1 : Int) (x2 : Int) (x3 : Int) (z0 : Int) : Int := (if z0 = 0 then (if x2 < 16 then x2 else (gTape_placeAt_108 o J L x1 x2 x3 z0)) else (gTape_placeAt_108 o J L x1 x2 x3 z0))
theorem eTape_placeAt_95 {o : Nat} {J : gJ} {L : gL} {x1 : Int} {x2 : Int} {x3 : Int} {z0 : Int} : gTape_placeAt_95 o J L x1 x2 x3 z0 = (if z0 = 0 then (if x2 < 16 then x2 else (gTape_placeAt_108 o J L x1 x2 x3 z0)) else (gTape_placeAt_108 o J L x1 x2 x3 z0)) := rfl
noncomputable def gTape_placeAt_90 (o : Nat) (J : gJ) (L : gL) (x1 : Int) (x2 : Int) (x3 : Int) : Int := (gTape_placeAt_95 o J L x1 x2 x3 1)
theorem eTape_placeAt_90 {o : Nat} {J : gJ} {L : gL} {x1 : Int} {x2 : Int} {x3 : Int} : gTape_placeAt_90 o J L x1 x2 x3 = (gTape_placeAt_95 o J L x1 x2 x3 1) := rfl
noncomputable def gTape_placeAt_68 (o : Nat) (J : gJ) (L : gL) (x1 : Int) (x2 : Int) (x3 : Int) : Int := gLet (gTape_byteAt_0 o J L x3) (fun (r_1 : Int) => gLet (gTape_isDigit_0  J L r_1) (fun (r_2 : Int) => (if r_2 = 0 then gLet (gTape_byteAt_0 o J L x3) (fun (r_3 : Int) => gLet (gTape_isLetter_0  J L r_3) (fun (r_4 : Int) => (if r_4 = 0 then (gTape_placeAt_95 o J L x1 x2 x3 0) else (gTape_placeAt_90 o J L x1 x2 x3)))) else (gTape_placeAt_90 o J L x1 x2 x3))))
theorem eTape_placeAt_68 {o : Nat} {J : gJ} {L : gL} {x1 : Int} {x2 : Int} {x3 : Int} : gTape_placeAt_68 o J L x1 x2 x3 = gLet (gTape_byteAt_0 o J L x3) (fun (r_1 : Int) => gLet (gTape_isDigit_0  J L r_1) (fun (r_2 : Int) => (if r_2 = 0 then gLet (gTape_byteAt_0 o J L x3) (fun (r_3 : Int) => gLet (gTape_isLetter_0  J L r_3) (fun (r_4 : Int) => (if r_4 = 0 then (gTape_placeAt_95 o J L x1 x2 x3 0) else (gTape_placeAt_90 o J L x1 x2 x3)))) else (gTape_placeAt_90 o J L x1 x2 x3)))) := rfl
noncomputable def gTape_placeAt_0 (o : Nat) (J : gJ) (L : gL) (x1 : Int) : Int := gLet (gTape_byteAt_0 o J L x1) (fun (r_1 : Int) => (if r_1 = 112 then gLet (wAdd x1 1) (fun (v_2 : Int) => gLet (gTape_byteAt_0 o J L v_2) (fun (r_3 : Int) => gLet (gTape_isDigit_0  J L r_3) (fun (r_4 : Int) => (if r_4 = 0 then (-1) else gLet (wAdd x1 1) (fun (v_5 : Int) => gLet (gTape_byteAt_0 o J L v_5) (fun (r_6 : Int) => gLet (wSub r_6 48) (fun (v_7 : Int) => gLet (wAdd x1 2) (fun (v_8 : Int) => gLet (gTape_byteAt_0 o J L v_8) (fun (r_9 : Int) => gLet (gTape_isDigit_0  J L r_9) (fun (r_10 : Int) => (if r_10 = 0 then (gTape_placeAt_68 o J L x1 v_7 v_8) else gLet (wMul v_7 10) (fun (v_11 : Int) => gLet (gTape_byteAt_0 o J L v_8) (fun (r_12 : Int) => gLet (wAdd v_11 r_12) (fun (v_13 : Int) => gLet (wSub v_13 48) (fun (v_14 : Int) => gLet (wAdd v_8 1) (fun (v_15 : Int) => (gTape_placeAt_68 o J L x1 v_14 v_15))))))))))))))))) else (-1)))
theorem eTape_placeAt_0 {o : Nat} {J : gJ} {L : gL} {x1 : Int} : gTape_placeAt_0 o J L x1 = gLet (gTape_byteAt_0 o J L x1) (fun (r_1 : Int) => (if r_1 = 112 then gLet (wAdd x1 1) (fun (v_2 : Int) => gLet (gTape_byteAt_0 o J L v_2) (fun (r_3 : Int) => gLet (gTape_isDigit_0  J L r_3) (fun (r_4 : Int) => (if r_4 = 0 then (-1) else gLet (wAdd x1 1) (fun (v_5 : Int) => gLet (gTape_byteAt_0 o J L v_5) (fun (r_6 : Int) => gLet (wSub r_6 48) (fun (v_7 : Int) => gLet (wAdd x1 2) (fun (v_8 : Int) => gLet (gTape_byteAt_0 o J L v_8) (fun (r_9 : Int) => gLet (gTape_isDigit_0  J L r_9) (fun (r_10 : Int) => (if r_10 = 0 then (gTape_placeAt_68 o J L x1 v_7 v_8) else gLet (wMul v_7 10) (fun (v_11 : Int) => gLet (gTape_byteAt_0 o J L v_8) (fun (r_12 : Int) => gLet (wAdd v_11 r_12) (fun (v_13 : Int) => gLet (wSub v_13 48) (fun (v_14 : Int) => gLet (wAdd v_8 1) (fun (v_15 : Int) => (gTape_placeAt_68 o J L x1 v_14 v_15))))))))))))))))) else (-1))) := rfl
set_option maxHeartbeats 4000000 in
set_option maxRecDepth 20000 in
theorem y_Tape_placeAtg {D : va_G} {cA : FieldType → ClassId} {b : Nat} {E : State → Prop} {R : qRg} {o n : Nat} {sh : Nat → qC} {Rf : Nat → Nat → Option Nat} {I0 : Nat → Nat → Int32} {L0 : Nat → Nat → Int64} {post : Option Value → qS → Prop} {p1 : Int32} (hok : q_ok (qGG D cA b E)) (hw : WfTape (qGG D cA b E) n sh Rf o) (ra : RATape R o) (hR : RI R I0) (hp : ∀ (r : Int32) , (r = plF (I0 (o + 1)) (I0 o 6) p1) → (gTape_placeAt_0 o (tI I0) L0 (p1).toInt = r.toInt) → post (some (.int r)) (n, sh, Rf, I0, L0)) : Ev (qGG D cA b E) mTape_placeAt 1 (0, 0) 0 (lv_args 0 [.ref o, .int p1]) [] (n, sh, Rf, I0, L0) post := by
  refine sTape_placeAt_0 o n sh Rf I0 L0 post p1 hok hw ?_
  unfold fTape_placeAt_0
  have hg : gTape_placeAt_0 o (tI I0) L0 (p1).toInt = gTape_placeAt_0 o (tI I0) L0 (p1).toInt := rfl
  replace hg := (eTape_placeAt_0).symm.trans hg
  refine y_Tape_byteAtg hok hw ra hR (fun r_1 u_2 gn_3 => ⟨r_1, I0, L0, rfl, rfl, ?_⟩)
  replace hg := gt_let gn_3 hg
  clear gn_3
  have l_4 : (112 : Int32).toInt = 112 := rfl
  refine ⟨fun c_5 => ?_, fun c_5 => ?_⟩
  · have d_6 := iNe c_5
    replace hg := gt_neg (by first | exact d_6 | omega) hg
    have l_7 : (-1 : Int32).toInt = -1 := rfl
    exact (hp _ (by clear hg; subst_vars; simp_all [plF, pfF] <;> (intro h; exact absurd h (Int32.not_lt.mpr (by assumption)))) hg.symm)
  · have d_8 := iEq c_5
    replace hg := gt_pos (by first | exact d_8 | omega) hg
    have l_9 : (1 : Int32).toInt = 1 := rfl
    replace hg := gt_let (y := ((p1 + 1) : Int32).toInt) (wAdd_eq (p1 : Int32) (1 : Int32)) hg
    refine y_Tape_byteAtg hok hw ra hR (fun r_10 u_11 gn_12 => ⟨r_10, I0, L0, rfl, rfl, ?_⟩)
    replace hg := gt_let gn_12 hg
    clear gn_12
    refine y_Tape_isDigitg hok hR (fun r_13 u_14 u_15 gn_16 => ⟨r_13, I0, L0, rfl, rfl, ?_⟩)
    replace hg := gt_let gn_16 hg
    clear gn_16
    have b_17 : 0 ≤ r_13.toInt ∧ r_13.toInt ≤ 1 := u_14.rg
    have l_18 : (0 : Int32).toInt = 0 := rfl
    refine ⟨fun c_19 => ?_, fun c_19 => ?_⟩
    · have d_20 := iNe c_19
      replace hg := gt_neg (by first | exact d_20 | omega) hg
      replace hg := gt_let (y := ((p1 + 1) : Int32).toInt) (wAdd_eq (p1 : Int32) (1 : Int32)) hg
      refine y_Tape_byteAtg hok hw ra hR (fun r_21 u_22 gn_23 => ⟨r_21, I0, L0, rfl, rfl, ?_⟩)
      replace hg := gt_let gn_23 hg
      clear gn_23
      have j_24 := iEq (u_22.trans u_11.symm)
      have l_25 : (48 : Int32).toInt = 48 := rfl
      replace hg := gt_let (y := ((r_21 - 48) : Int32).toInt) (wSub_eq (r_21 : Int32) (48 : Int32)) hg
      have l_26 : (2 : Int32).toInt = 2 := rfl
      replace hg := gt_let (y := ((p1 + 2) : Int32).toInt) (wAdd_eq (p1 : Int32) (2 : Int32)) hg
      refine y_Tape_byteAtg hok hw ra hR (fun r_27 u_28 gn_29 => ⟨r_27, I0, L0, rfl, rfl, ?_⟩)
      replace hg := gt_let gn_29 hg
      clear gn_29
      refine y_Tape_isDigitg hok hR (fun r_30 u_31 u_32 gn_33 => ⟨r_30, I0, L0, rfl, rfl, ?_⟩)
      replace hg := gt_let gn_33 hg
      clear gn_33
      have b_34 : 0 ≤ r_30.toInt ∧ r_30.toInt ≤ 1 := u_31.rg
      refine ⟨fun c_35 => ?_, fun c_35 => ?_⟩
      · have d_36 := iEq c_35
        replace hg := gt_pos (by first | exact d_36 | omega) hg
        unfold fTape_placeAt_68
        replace hg := (eTape_placeAt_68).symm.trans hg
        refine y_Tape_byteAtg hok hw ra hR (fun r_37 u_38 gn_39 => ⟨r_37, I0, L0, rfl, rfl, ?_⟩)
        replace hg := gt_let gn_39 hg
        clear gn_39
        have j_40 := iEq (u_38.trans u_28.symm)
        refine y_Tape_isDigitg hok hR (fun r_41 u_42 u_43 gn_44 => ⟨r_41, I0, L0, rfl, rfl, ?_⟩)
        replace hg := gt_let gn_44 hg
        clear gn_44
        have b_45 : 0 ≤ r_41.toInt ∧ r_41.toInt ≤ 1 := u_42.rg
        refine ⟨fun c_46 => ?_, fun c_46 => ?_⟩
        · have d_47 := iNe c_46
          replace hg := gt_neg (by first | exact d_47 | omega) hg
          unfold fTape_placeAt_90
          replace hg := (eTape_placeAt_90).symm.trans hg
          unfold fTape_placeAt_95
          replace hg := (eTape_placeAt_95).symm.trans hg
          refine ⟨fun c_48 => ?_, fun c_48 => ?_⟩
          · have d_49 := iNe c_48
            replace hg := gt_neg (by first | exact d_49 | omega) hg
            unfold fTape_placeAt_108
            replace hg := (eTape_placeAt_108).symm.trans hg
            have l_50 : (-1 : Int32).toInt = -1 := rfl
            exact (hp _ (by clear hg; subst_vars; simp_all [plF, pfF] <;> (intro h; exact absurd h (Int32.not_lt.mpr (by assumption)))) hg.symm)
          · have d_51 := iEq c_48
            exfalso; omega
        · have d_52 := iEq c_46
          replace hg := gt_pos (by first | exact d_52 | omega) hg
          refine y_Tape_byteAtg hok hw ra hR (fun r_53 u_54 gn_55 => ⟨r_53, I0, L0, rfl, rfl, ?_⟩)
          replace hg := gt_let gn_55 hg
          clear gn_55
          have j_56 := iEq (u_54.trans u_38.symm)
          refine y_Tape_isLetterg hok hR (fun r_57 u_58 u_59 gn_60 => ⟨r_57, I0, L0, rfl, rfl, ?_⟩)
          replace hg := gt_let gn_60 hg
          clear gn_60
          have b_61 : 0 ≤ r_57.toInt ∧ r_57.toInt ≤ 1 := u_58.rg
          refine ⟨fun c_62 => ?_, fun c_62 => ?_⟩
          · have d_63 := iEq c_62
            replace hg := gt_pos (by first | exact d_63 | omega) hg
            unfold fTape_placeAt_95
            replace hg := (eTape_placeAt_95).symm.trans hg
            refine ⟨fun c_64 => ?_, fun c_64 => ?_⟩
            · have d_65 := iNe c_64
              exfalso; omega
            · have d_66 := iEq c_64
              replace hg := gt_pos (by first | exact d_66 | omega) hg
              have l_67 : (16 : Int32).toInt = 16 := rfl
              refine ⟨fun c_68 => ?_, fun c_68 => ?_⟩
              · have d_69 := iLt c_68
                replace hg := gt_pos (by first | exact d_69 | omega) hg
                exact (hp _ (by clear hg; subst_vars; simp_all [plF, pfF] <;> (intro h; exact absurd h (Int32.not_lt.mpr (by assumption)))) hg.symm)
              · have d_70 := iNlt c_68
                replace hg := gt_neg (by first | exact d_70 | omega) hg
                unfold fTape_placeAt_108
                replace hg := (eTape_placeAt_108).symm.trans hg
                have l_71 : (-1 : Int32).toInt = -1 := rfl
                exact (hp _ (by clear hg; subst_vars; simp_all [plF, pfF] <;> (intro h; exact absurd h (Int32.not_lt.mpr (by assumption)))) hg.symm)
          · have d_72 := iNe c_62
            replace hg := gt_neg (by first | exact d_72 | omega) hg
            unfold fTape_placeAt_90
            replace hg := (eTape_placeAt_90).symm.trans hg
            unfold fTape_placeAt_95
            replace hg := (eTape_placeAt_95).symm.trans hg
            refine ⟨fun c_73 => ?_, fun c_73 => ?_⟩
            · have d_74 := iNe c_73
              replace hg := gt_neg (by first | exact d_74 | omega) hg
              unfold fTape_placeAt_108
              replace hg := (eTape_placeAt_108).symm.trans hg
              have l_75 : (-1 : Int32).toInt = -1 := rfl
              exact (hp _ (by clear hg; subst_vars; simp_all [plF, pfF] <;> (intro h; exact absurd h (Int32.not_lt.mpr (by assumption)))) hg.symm)
            · have d_76 := iEq c_73
              exfalso; omega
      · have d_77 := iNe c_35
        replace hg := gt_neg (by first | exact d_77 | omega) hg
        have l_78 : (10 : Int32).toInt = 10 := rfl
        replace hg := gt_let (y := (((r_21 - 48) * 10) : Int32).toInt) (wMul_eq ((r_21 - 48) : Int32) (10 : Int32)) hg
        refine y_Tape_byteAtg hok hw ra hR (fun r_79 u_80 gn_81 => ⟨r_79, I0, L0, rfl, rfl, ?_⟩)
        replace hg := gt_let gn_81 hg
        clear gn_81
        have j_82 := iEq (u_80.trans u_28.symm)
        replace hg := gt_let (y := ((((r_21 - 48) * 10) + r_79) : Int32).toInt) (wAdd_eq (((r_21 - 48) * 10) : Int32) (r_79 : Int32)) hg
        replace hg := gt_let (y := (((((r_21 - 48) * 10) + r_79) - 48) : Int32).toInt) (wSub_eq ((((r_21 - 48) * 10) + r_79) : Int32) (48 : Int32)) hg
        generalize ez_83 : ((p1 + 2) + Int32.ofInt 1) = z_83
        replace hg := gt_let (y := z_83.toInt) (by rw [← ez_83]; exact wAddI_eq ((p1 + 2) : Int32) (1)) hg
        unfold fTape_placeAt_68
        replace hg := (eTape_placeAt_68).symm.trans hg
        refine y_Tape_byteAtg hok hw ra hR (fun r_84 u_85 gn_86 => ⟨r_84, I0, L0, rfl, rfl, ?_⟩)
        replace hg := gt_let gn_86 hg
        clear gn_86
        refine y_Tape_isDigitg hok hR (fun r_87 u_88 u_89 gn_90 => ⟨r_87, I0, L0, rfl, rfl, ?_⟩)
        replace hg := gt_let gn_90 hg
        clear gn_90
        have b_91 : 0 ≤ r_87.toInt ∧ r_87.toInt ≤ 1 := u_88.rg
        refine ⟨fun c_92 => ?_, fun c_92 => ?_⟩
        · have d_93 := iNe c_92
          replace hg := gt_neg (by first | exact d_93 | omega) hg
          unfold fTape_placeAt_90
          replace hg := (eTape_placeAt_90).symm.trans hg
          unfold fTape_placeAt_95
          replace hg := (eTape_placeAt_95).symm.trans hg
          refine ⟨fun c_94 => ?_, fun c_94 => ?_⟩
          · have d_95 := iNe c_94
            replace hg := gt_neg (by first | exact d_95 | omega) hg
            unfold fTape_placeAt_108
            replace hg := (eTape_placeAt_108).symm.trans hg
            have l_96 : (-1 : Int32).toInt = -1 := rfl
            exact (hp _ (by clear hg; subst_vars; simp_all [plF, pfF] <;> (intro h; exact absurd h (Int32.not_lt.mpr (by assumption)))) hg.symm)
          · have d_97 := iEq c_94
            exfalso; omega
        · have d_98 := iEq c_92
          replace hg := gt_pos (by first | exact d_98 | omega) hg
          refine y_Tape_byteAtg hok hw ra hR (fun r_99 u_100 gn_101 => ⟨r_99, I0, L0, rfl, rfl, ?_⟩)
          replace hg := gt_let gn_101 hg
          clear gn_101
          have j_102 := iEq (u_100.trans u_85.symm)
          refine y_Tape_isLetterg hok hR (fun r_103 u_104 u_105 gn_106 => ⟨r_103, I0, L0, rfl, rfl, ?_⟩)
          replace hg := gt_let gn_106 hg
          clear gn_106
          have b_107 : 0 ≤ r_103.toInt ∧ r_103.toInt ≤ 1 := u_104.rg
          refine ⟨fun c_108 => ?_, fun c_108 => ?_⟩
          · have d_109 := iEq c_108
            replace hg := gt_pos (by first | exact d_109 | omega) hg
            unfold fTape_placeAt_95
            replace hg := (eTape_placeAt_95).symm.trans hg
            refine ⟨fun c_110 => ?_, fun c_110 => ?_⟩
            · have d_111 := iNe c_110
              exfalso; omega
            · have d_112 := iEq c_110
              replace hg := gt_pos (by first | exact d_112 | omega) hg
              have l_113 : (16 : Int32).toInt = 16 := rfl
              refine ⟨fun c_114 => ?_, fun c_114 => ?_⟩
              · have d_115 := iLt c_114
                replace hg := gt_pos (by first | exact d_115 | omega) hg
                exact (hp _ (by clear hg; subst_vars; simp_all [plF, pfF] <;> (intro h; exact absurd h (Int32.not_lt.mpr (by assumption)))) hg.symm)
              · have d_116 := iNlt c_114
                replace hg := gt_neg (by first | exact d_116 | omega) hg
                unfold fTape_placeAt_108
                replace hg := (eTape_placeAt_108).symm.trans hg
                have l_117 : (-1 : Int32).toInt = -1 := rfl
                exact (hp _ (by clear hg; subst_vars; simp_all [plF, pfF] <;> (intro h; exact absurd h (Int32.not_lt.mpr (by assumption)))) hg.symm)
          · have d_118 := iNe c_108
            replace hg := gt_neg (by first | exact d_118 | omega) hg
            unfold fTape_placeAt_90
            replace hg := (eTape_placeAt_90).symm.trans hg
            unfold fTape_placeAt_95
            replace hg := (eTape_placeAt_95).symm.trans hg
            refine ⟨fun c_119 => ?_, fun c_119 => ?_⟩
            · have d_120 := iNe c_119
              replace hg := gt_neg (by first | exact d_120 | omega) hg
              unfold fTape_placeAt_108
              replace hg := (eTape_placeAt_108).symm.trans hg
              have l_121 : (-1 : Int32).toInt = -1 := rfl
              exact (hp _ (by clear hg; subst_vars; simp_all [plF, pfF] <;> (intro h; exact absurd h (Int32.not_lt.mpr (by assumption)))) hg.symm)
            · have d_122 := iEq c_119
              exfalso; omega
    · have d_123 := iEq c_19
      replace hg := gt_pos (by first | exact d_123 | omega) hg
      have l_124 : (-1 : Int32).toInt = -1 := rfl
      exact (hp _ (by clear hg; subst_vars; simp_all [plF, pfF] <;> (intro h; exact absurd h (Int32.not_lt.mpr (by assumption)))) hg.symm)
noncomputable def gTape_cutPlace_0 (o : Nat) (J : gJ) (L : gL) (x1 : Int) (x2 : Int) : Int × gJ × gL := gLet (q_u J (o + 3) (Int.toNat x1) 3) (fun (J_1 : gJ) => gLet (gTape_placeAt_0 o J_1 L x2) (fun (r_2 : Int) => gLet (q_u J_1 (o + 5) (Int.toNat x1) r_2) (fun (J_3 : gJ) => gLet (x2 + 2) (fun (v_4 : Int) => gLet (gTape_byteAt_0 o J_3 L v_4) (fun (r_5 : Int) => gLet (gTape_isDigit_0  J_3 L r_5) (fun (r_6 : Int) => (if r_6 = 0 then gLet (x2 + 2) (fun (v_7 : Int) => (v_7, J_3, L)) else gLet (x2 + 3) (fun (v_8 : Int) => (v_8, J_3, L)))))))))
theorem eTape_cutPlace_0 {o : Nat} {J : gJ} {L : gL} {x1 : Int} {x2 : Int} : gTape_cutPlace_0 o J L x1 x2 = gLet (q_u J (o + 3) (Int.toNat x1) 3) (fun (J_1 : gJ) => gLet (gTape_placeAt_0 o J_1 L x2) (fun (r_2 : Int) => gLet (q_u J_1 (o + 5) (Int.toNat x1) r_2) (fun (J_3 : gJ) => gLet (x2 + 2) (fun (v_4 : Int) => gLet (gTape_byteAt_0 o J_3 L v_4) (fun (r_5 : Int) => gLet (gTape_isDigit_0  J_3 L r_5) (fun (r_6 : Int) => (if r_6 = 0 then gLet (x2 + 2) (fun (v_7 : Int) => (v_7, J_3, L)) else gLet (x2 + 3) (fun (v_8 : Int) => (v_8, J_3, L))))))))) := rfl
set_option maxHeartbeats 4000000 in
set_option maxRecDepth 20000 in
theorem y_Tape_cutPlaceg {D : va_G} {cA : FieldType → ClassId} {b : Nat} {E : State → Prop} {R : qRg} {o n : Nat} {sh : Nat → qC} {Rf : Nat → Nat → Option Nat} {I0 : Nat → Nat → Int32} {L0 : Nat → Nat → Int64} {post : Option Value → qS → Prop} {p1 : Int32} {p2 : Int32} (hok : q_ok (qGG D cA b E)) (hw : WfTape (qGG D cA b E) n sh Rf o) (ra : RATape R o) (hq0 : (0 : Int) ≤ p1.toInt ∧ p1.toInt ≤ 1600) (hq1 : (0 : Int) ≤ p2.toInt ∧ p2.toInt ≤ 1600) (hq2 : 0 ≤ (plF (I0 (o + 1)) (I0 o 6) p2).toInt) (hq3 : TokX I0 o p1.toNatClampNeg) (hR : RI R I0) (hp : ∀ (r : Int32) (I' : Nat → Nat → Int32) (L' : Nat → Nat → Int64), RI R I' → Fm (fun c => c = o + 3 ∨ c = o + 5) I0 I' → (((0 : Int) ≤ r.toInt ∧ r.toInt ≤ 1603)) → (TokOK I' o) → (gTape_cutPlace_0 o (tI I0) L0 (p1).toInt (p2).toInt = (r.toInt, tI I', L')) → (FmL (fun c => False) L0 L') → post (some (.int r)) (n, sh, Rf, I', L')) : Ev (qGG D cA b E) mTape_cutPlace 2 (0, 0) 0 (lv_args 0 [.ref o, .int p1, .int p2]) [] (n, sh, Rf, I0, L0) post := by
  have hf : Fm (fun c => c = o + 3 ∨ c = o + 5) I0 I0 := Fm.rf
  refine sTape_cutPlace_0 o n sh Rf I0 L0 post p1 p2 hok hw ?_
  unfold fTape_cutPlace_0
  have hl : FmL (fun c => False) L0 L0 := FmL.rf
  have hg : gTape_cutPlace_0 o (tI I0) L0 (p1).toInt (p2).toInt = gTape_cutPlace_0 o (tI I0) L0 (p1).toInt (p2).toInt := rfl
  replace hg := (eTape_cutPlace_0).symm.trans hg
  have l_1 : (3 : Int32).toInt = 3 := rfl
  refine ⟨tIn (by omega) (by omega), fun I_2 e_3 => ?_⟩
  replace hg := gt_let (y := tI I_2) (tI_q e_3) hg
  have hR_4 : RI R I_2 := hR.up ra 3 (by decide) (Or.inl rfl) e_3 (i_lo _) (i_hi _)
  have hf_5 : Fm (fun c => c = o + 3 ∨ c = o + 5) I0 I_2 := hf.set (by first | rfl | omega | (dsimp only; omega)) e_3
  have k_6 : TokX I_2 o p1.toNatClampNeg := hq3.put3 e_3 (by first | rfl | rw [hi2] | rw [hi3])
  have x_7 : I_2 (o + 3) (p1 : Int32).toNatClampNeg = (3 : Int32) := by rw [← e_3, q_u_at]
  refine y_Tape_placeAtg hok hw ra hR_4 (fun r_8 u_9 gn_10 => ⟨r_8, I_2, L0, rfl, rfl, ?_⟩)
  replace hg := gt_let gn_10 hg
  clear gn_10
  have pe := u_9
  rw [hf_5 (o + 1) (by first | omega | (dsimp only; omega)), hf_5 o (by first | omega | (dsimp only; omega))] at pe
  have pr := pl_rg (I0 (o + 1)) (I0 o 6) p2
  have pz := hq2
  rw [← pe] at pr pz
  refine ⟨tIn (by omega) (by omega), fun I_11 e_12 => ?_⟩
  replace hg := gt_let (y := tI I_11) (tI_q e_12) hg
  have hR_13 : RI R I_11 := hR_4.up ra 5 (by decide) (Or.inl rfl) e_12 (i_lo _) (i_hi _)
  have hf_14 : Fm (fun c => c = o + 3 ∨ c = o + 5) I0 I_11 := hf_5.set (by first | rfl | omega | (dsimp only; omega)) e_12
  have k_15 : TokX I_11 o p1.toNatClampNeg := k_6.put5 e_12 (by first | rfl | rw [hi2] | rw [hi3])
  have x_16 : I_11 (o + 3) (p1 : Int32).toNatClampNeg = (3 : Int32) := by rw [← e_12, q_u_ne (by omega)]; exact x_7
  have x_17 : I_11 (o + 5) (p1 : Int32).toNatClampNeg = r_8 := by rw [← e_12, q_u_at]
  have l_18 : (2 : Int32).toInt = 2 := rfl
  have a_19 : (p2 + 2).toInt = p2.toInt + (2 : Int32).toInt := tAdd (by omega) (by omega)
  replace hg := gt_let (y := ((p2 + 2) : Int32).toInt) (by omega) hg
  refine y_Tape_byteAtg hok hw ra hR_13 (fun r_20 u_21 gn_22 => ⟨r_20, I_11, L0, rfl, rfl, ?_⟩)
  replace hg := gt_let gn_22 hg
  clear gn_22
  refine y_Tape_isDigitg hok hR_13 (fun r_23 u_24 u_25 gn_26 => ⟨r_23, I_11, L0, rfl, rfl, ?_⟩)
  replace hg := gt_let gn_26 hg
  clear gn_26
  have b_27 : 0 ≤ r_23.toInt ∧ r_23.toInt ≤ 1 := u_24.rg
  have l_28 : (0 : Int32).toInt = 0 := rfl
  refine ⟨fun c_29 => ?_, fun c_29 => ?_⟩
  · have d_30 := iEq c_29
    replace hg := gt_pos (by first | exact d_30 | omega) hg
    have a_31 : (p2 + 2).toInt = p2.toInt + (2 : Int32).toInt := tAdd (by omega) (by omega)
    replace hg := gt_let (y := ((p2 + 2) : Int32).toInt) (by omega) hg
    exact (hp _ _ _ hR_13 hf_14 (by first | omega | (intro h; omega) | exact Or.inl rfl | exact Or.inr rfl) (TokX.all k_15 (by unfold TokAt; rw [x_16, x_17]; exact ⟨fun h => by omega, fun h => by omega⟩)) hg.symm hl)
  · have d_32 := iNe c_29
    replace hg := gt_neg (by first | exact d_32 | omega) hg
    have a_33 : (p2 + 3).toInt = p2.toInt + (3 : Int32).toInt := tAdd (by omega) (by omega)
    replace hg := gt_let (y := ((p2 + 3) : Int32).toInt) (by omega) hg
    exact (hp _ _ _ hR_13 hf_14 (by first | omega | (intro h; omega) | exact Or.inl rfl | exact Or.inr rfl) (TokX.all k_15 (by unfold TokAt; rw [x_16, x_17]; exact ⟨fun h => by omega, fun h => by omega⟩)) hg.symm hl)
noncomputable def gTape_cutNumber_74 (o : Nat) (J : gJ) (L : gL) (x1 : Int) (x2 : Int) (x3 : Int) (x4 : Int) (z0 : Int) (z1 : Int) : Int × gJ × gL := gLet (q_u J (o + 3) (Int.toNat z1) z0) (fun (J_1 : gJ) => gLet (q_u J_1 (o + 5) (Int.toNat x1) x4) (fun (J_2 : gJ) => (x3, J_2, L)))
theorem eTape_cutNumber_74 {o : Nat} {J : gJ} {L : gL} {x1 : Int} {x2 : Int} {x3 : Int} {x4 : Int} {z0 : Int} {z1 : Int} : gTape_cutNumber_74 o J L x1 x2 x3 x4 z0 z1 = gLet (q_u J (o + 3) (Int.toNat z1) z0) (fun (J_1 : gJ) => gLet (q_u J_1 (o + 5) (Int.toNat x1) x4) (fun (J_2 : gJ) => (x3, J_2, L))) := rfl
noncomputable def gTape_cutNumber_69 (o : Nat) (J : gJ) (L : gL) (x1 : Int) (x2 : Int) (x3 : Int) (x4 : Int) (z0 : Int) : Int × gJ × gL := (gTape_cutNumber_74 o J L x1 x2 x3 x4 5 z0)
theorem eTape_cutNumber_69 {o : Nat} {J : gJ} {L : gL} {x1 : Int} {x2 : Int} {x3 : Int} {x4 : Int} {z0 : Int} : gTape_cutNumber_69 o J L x1 x2 x3 x4 z0 = (gTape_cutNumber_74 o J L x1 x2 x3 x4 5 z0) := rfl
noncomputable def gTape_cutNumber_46 (o : Nat) (J : gJ) (L : gL) (x1 : Int) (x2 : Int) (x3 : Int) (x4 : Int) : Int × gJ × gL := gLet (x3 - x2) (fun (v_1 : Int) => (if 4 < v_1 then (gTape_cutNumber_69 o J L x1 x2 x3 x4 x1) else gLet (gTape_byteAt_0 o J L x3) (fun (r_2 : Int) => gLet (gTape_isLetter_0  J L r_2) (fun (r_3 : Int) => (if r_3 = 0 then (gTape_cutNumber_74 o J L x1 x2 x3 x4 2 x1) else (gTape_cutNumber_69 o J L x1 x2 x3 x4 x1))))))
theorem eTape_cutNumber_46 {o : Nat} {J : gJ} {L : gL} {x1 : Int} {x2 : Int} {x3 : Int} {x4 : Int} : gTape_cutNumber_46 o J L x1 x2 x3 x4 = gLet (x3 - x2) (fun (v_1 : Int) => (if 4 < v_1 then (gTape_cutNumber_69 o J L x1 x2 x3 x4 x1) else gLet (gTape_byteAt_0 o J L x3) (fun (r_2 : Int) => gLet (gTape_isLetter_0  J L r_2) (fun (r_3 : Int) => (if r_3 = 0 then (gTape_cutNumber_74 o J L x1 x2 x3 x4 2 x1) else (gTape_cutNumber_69 o J L x1 x2 x3 x4 x1)))))) := rfl
noncomputable def gTape_cutNumber_5 (k : Nat) (o : Nat) (J : gJ) (L : gL) (x1 : Int) (x2 : Int) (x3 : Int) (x4 : Int) : Int × gJ × gL := match k with
  | 0 => default
  | k + 1 => gLet (J o 6) (fun (v_1 : Int) => (if v_1 ≤ x3 then (gTape_cutNumber_46 o J L x1 x2 x3 x4) else gLet (gTape_byteAt_0 o J L x3) (fun (r_2 : Int) => gLet (gTape_isDigit_0  J L r_2) (fun (r_3 : Int) => (if r_3 = 0 then (gTape_cutNumber_46 o J L x1 x2 x3 x4) else gLet (wMul x4 10) (fun (v_4 : Int) => gLet (gTape_byteAt_0 o J L x3) (fun (r_5 : Int) => gLet (wAdd v_4 r_5) (fun (v_6 : Int) => gLet (wSub v_6 48) (fun (v_7 : Int) => gLet (x3 + 1) (fun (v_8 : Int) => (gTape_cutNumber_5 k o J L x1 x2 v_8 v_7)))))))))))
theorem eTape_cutNumber_5 {k : Nat} {o : Nat} {J : gJ} {L : gL} {x1 : Int} {x2 : Int} {x3 : Int} {x4 : Int} : gTape_cutNumber_5 (k + 1) o J L x1 x2 x3 x4 = gLet (J o 6) (fun (v_1 : Int) => (if v_1 ≤ x3 then (gTape_cutNumber_46 o J L x1 x2 x3 x4) else gLet (gTape_byteAt_0 o J L x3) (fun (r_2 : Int) => gLet (gTape_isDigit_0  J L r_2) (fun (r_3 : Int) => (if r_3 = 0 then (gTape_cutNumber_46 o J L x1 x2 x3 x4) else gLet (wMul x4 10) (fun (v_4 : Int) => gLet (gTape_byteAt_0 o J L x3) (fun (r_5 : Int) => gLet (wAdd v_4 r_5) (fun (v_6 : Int) => gLet (wSub v_6 48) (fun (v_7 : Int) => gLet (x3 + 1) (fun (v_8 : Int) => (gTape_cutNumber_5 k o J L x1 x2 v_8 v_7))))))))))) := rfl
noncomputable def gTape_cutNumber_0 (o : Nat) (J : gJ) (L : gL) (x1 : Int) (x2 : Int) : Int × gJ × gL := (gTape_cutNumber_5 20000 o J L x1 x2 x2 0)
theorem eTape_cutNumber_0 {o : Nat} {J : gJ} {L : gL} {x1 : Int} {x2 : Int} : gTape_cutNumber_0 o J L x1 x2 = (gTape_cutNumber_5 20000 o J L x1 x2 x2 0) := rfl
set_option maxHeartbeats 4000000 in
set_option maxRecDepth 20000 in
theorem yTape_cutNumber_5g {D : va_G} {cA : FieldType → ClassId} {b : Nat} {E : State → Prop} {R : qRg} {o n : Nat} {sh : Nat → qC} {Rf : Nat → Nat → Option Nat} {I0 : Nat → Nat → Int32} {L0 : Nat → Nat → Int64} {post : Option Value → qS → Prop} {p1 : Int32} {p2 : Int32} (hok : q_ok (qGG D cA b E)) (hw : WfTape (qGG D cA b E) n sh Rf o) (ra : RATape R o) (hq0 : (0 : Int) ≤ p1.toInt ∧ p1.toInt ≤ 1600) (hq1 : (0 : Int) ≤ p2.toInt ∧ p2.toInt ≤ 1600) (hq2 : TokX I0 o p1.toNatClampNeg) (hp : ∀ (r : Int32) (I' : Nat → Nat → Int32) (L' : Nat → Nat → Int64), RI R I' → Fm (fun c => c = o + 3 ∨ c = o + 5) I0 I' → (((0 : Int) ≤ r.toInt ∧ r.toInt ≤ 1603)) → (TokOK I' o) → (gTape_cutNumber_0 o (tI I0) L0 (p1).toInt (p2).toInt = (r.toInt, tI I', L')) → (FmL (fun c => False) L0 L') → post (some (.int r)) (n, sh, Rf, I', L')) : ∀ (k : Nat) {x1 : Int32} {x2 : Int32} {x3 : Int32} {x4 : Int32} {I : Nat → Nat → Int32} {L : Nat → Nat → Int64}, RI R I → Fm (fun c => c = o + 3 ∨ c = o + 5) I0 I → ((0 : Int) ≤ x1.toInt ∧ x1.toInt ≤ 1600) → ((0 : Int) ≤ x2.toInt ∧ x2.toInt ≤ 1600) → ((0 : Int) ≤ x3.toInt ∧ x3.toInt ≤ 1603) → (x1 = p1) → (x2.toInt ≤ x3.toInt) → (NumOK (x3.toInt - x2.toInt) x4.toInt) → (TokX I o p1.toNatClampNeg) → (FmL (fun c => False) L0 L) → (gTape_cutNumber_5 k o (tI I) L (x1).toInt (x2).toInt (x3).toInt (x4).toInt = gTape_cutNumber_0 o (tI I0) L0 (p1).toInt (p2).toInt) → (1600 - x3.toInt).toNat < k → Ev (qGG D cA b E) mTape_cutNumber 1 (0, 0) 5 [(0, .ref o), (1, .int x1), (2, .int x2), (3, .int x3), (4, .int x4)] [] (n, sh, Rf, I, L) post := by
  intro k
  induction k with
  | zero =>
    intro x1 x2 x3 x4 I L hR hf hi0 hi1 hi2 hi3 hi4 hi5 hi6 hl hg hm
    exact absurd hm (Nat.not_lt_zero _)
  | succ k ih =>
    intro x1 x2 x3 x4 I L hR hf hi0 hi1 hi2 hi3 hi4 hi5 hi6 hl hg hm
    refine sTape_cutNumber_5 o n sh Rf I L post x1 x2 x3 x4 hok hw ?_
    unfold fTape_cutNumber_5
    replace hg := (eTape_cutNumber_5).symm.trans hg
    have g_1 : (0 : Int) ≤ (I o 6).toInt ∧ (I o 6).toInt ≤ 1600 := hR.at0 ra 6 (by decide)
    replace hg := gt_let (y := (I o 6).toInt) rfl hg
    refine ⟨fun c_2 => ?_, fun c_2 => ?_⟩
    · have d_3 := iLe c_2
      replace hg := gt_pos (by first | exact d_3 | omega) hg
      unfold fTape_cutNumber_46
      replace hg := (eTape_cutNumber_46).symm.trans hg
      have a_4 : (x3 - x2).toInt = x3.toInt - x2.toInt := tSub (by omega) (by omega)
      replace hg := gt_let (y := ((x3 - x2) : Int32).toInt) (by omega) hg
      have l_5 : (4 : Int32).toInt = 4 := rfl
      refine ⟨fun c_6 => ?_, fun c_6 => ?_⟩
      · have d_7 := iLt c_6
        replace hg := gt_pos (by first | exact d_7 | omega) hg
        unfold fTape_cutNumber_69
        replace hg := (eTape_cutNumber_69).symm.trans hg
        unfold fTape_cutNumber_74
        replace hg := (eTape_cutNumber_74).symm.trans hg
        have l_8 : (5 : Int32).toInt = 5 := rfl
        refine ⟨tIn (by omega) (by omega), fun I_9 e_10 => ?_⟩
        replace hg := gt_let (y := tI I_9) (tI_q e_10) hg
        have hR_11 : RI R I_9 := hR.up ra 3 (by decide) (Or.inl rfl) e_10 (i_lo _) (i_hi _)
        have hf_12 : Fm (fun c => c = o + 3 ∨ c = o + 5) I0 I_9 := hf.set (by first | rfl | omega | (dsimp only; omega)) e_10
        have t_13 : (I_9 o 6).toInt = (I o 6).toInt := by rw [← e_10, q_u_ne (by omega)]
        have k_14 : TokX I_9 o p1.toNatClampNeg := hi6.put3 e_10 (by first | rfl | rw [hi2] | rw [hi3])
        have x_15 : I_9 (o + 3) (x1 : Int32).toNatClampNeg = (5 : Int32) := by rw [← e_10, q_u_at]
        have nk := hi5
        unfold NumOK at nk
        refine ⟨tIn (by omega) (by omega), fun I_16 e_17 => ?_⟩
        replace hg := gt_let (y := tI I_16) (tI_q e_17) hg
        have hR_18 : RI R I_16 := hR_11.up ra 5 (by decide) (Or.inl rfl) e_17 (i_lo _) (i_hi _)
        have hf_19 : Fm (fun c => c = o + 3 ∨ c = o + 5) I0 I_16 := hf_12.set (by first | rfl | omega | (dsimp only; omega)) e_17
        have t_20 : (I_16 o 6).toInt = (I_9 o 6).toInt := by rw [← e_17, q_u_ne (by omega)]
        have k_21 : TokX I_16 o p1.toNatClampNeg := k_14.put5 e_17 (by first | rfl | rw [hi2] | rw [hi3])
        have x_22 : I_16 (o + 3) (x1 : Int32).toNatClampNeg = (5 : Int32) := by rw [← e_17, q_u_ne (by omega)]; exact x_15
        have x_23 : I_16 (o + 5) (x1 : Int32).toNatClampNeg = x4 := by rw [← e_17, q_u_at]
        exact (hp _ _ _ hR_18 hf_19 (by first | omega | (intro h; omega) | exact Or.inl rfl | exact Or.inr rfl) (TokX.all k_21 (by have nx : x1 = p1 := hi3; subst nx; unfold TokAt; rw [x_22, x_23]; exact ⟨fun h => by omega, fun h => by omega⟩)) hg.symm hl)
      · have d_24 := iNlt c_6
        replace hg := gt_neg (by first | exact d_24 | omega) hg
        refine y_Tape_byteAtg hok hw ra hR (fun r_25 u_26 gn_27 => ⟨r_25, I, L, rfl, rfl, ?_⟩)
        replace hg := gt_let gn_27 hg
        clear gn_27
        refine y_Tape_isLetterg hok hR (fun r_28 u_29 u_30 gn_31 => ⟨r_28, I, L, rfl, rfl, ?_⟩)
        replace hg := gt_let gn_31 hg
        clear gn_31
        have b_32 : 0 ≤ r_28.toInt ∧ r_28.toInt ≤ 1 := u_29.rg
        have l_33 : (0 : Int32).toInt = 0 := rfl
        refine ⟨fun c_34 => ?_, fun c_34 => ?_⟩
        · have d_35 := iEq c_34
          replace hg := gt_pos (by first | exact d_35 | omega) hg
          unfold fTape_cutNumber_74
          replace hg := (eTape_cutNumber_74).symm.trans hg
          have l_36 : (2 : Int32).toInt = 2 := rfl
          refine ⟨tIn (by omega) (by omega), fun I_37 e_38 => ?_⟩
          replace hg := gt_let (y := tI I_37) (tI_q e_38) hg
          have hR_39 : RI R I_37 := hR.up ra 3 (by decide) (Or.inl rfl) e_38 (i_lo _) (i_hi _)
          have hf_40 : Fm (fun c => c = o + 3 ∨ c = o + 5) I0 I_37 := hf.set (by first | rfl | omega | (dsimp only; omega)) e_38
          have t_41 : (I_37 o 6).toInt = (I o 6).toInt := by rw [← e_38, q_u_ne (by omega)]
          have k_42 : TokX I_37 o p1.toNatClampNeg := hi6.put3 e_38 (by first | rfl | rw [hi2] | rw [hi3])
          have x_43 : I_37 (o + 3) (x1 : Int32).toNatClampNeg = (2 : Int32) := by rw [← e_38, q_u_at]
          have nk := hi5
          unfold NumOK at nk
          refine ⟨tIn (by omega) (by omega), fun I_44 e_45 => ?_⟩
          replace hg := gt_let (y := tI I_44) (tI_q e_45) hg
          have hR_46 : RI R I_44 := hR_39.up ra 5 (by decide) (Or.inl rfl) e_45 (i_lo _) (i_hi _)
          have hf_47 : Fm (fun c => c = o + 3 ∨ c = o + 5) I0 I_44 := hf_40.set (by first | rfl | omega | (dsimp only; omega)) e_45
          have t_48 : (I_44 o 6).toInt = (I_37 o 6).toInt := by rw [← e_45, q_u_ne (by omega)]
          have k_49 : TokX I_44 o p1.toNatClampNeg := k_42.put5 e_45 (by first | rfl | rw [hi2] | rw [hi3])
          have x_50 : I_44 (o + 3) (x1 : Int32).toNatClampNeg = (2 : Int32) := by rw [← e_45, q_u_ne (by omega)]; exact x_43
          have x_51 : I_44 (o + 5) (x1 : Int32).toNatClampNeg = x4 := by rw [← e_45, q_u_at]
          exact (hp _ _ _ hR_46 hf_47 (by first | omega | (intro h; omega) | exact Or.inl rfl | exact Or.inr rfl) (TokX.all k_49 (by have nx : x1 = p1 := hi3; subst nx; unfold TokAt; rw [x_50, x_51]; exact ⟨fun h => by omega, fun h => by omega⟩)) hg.symm hl)
        · have d_52 := iNe c_34
          replace hg := gt_neg (by first | exact d_52 | omega) hg
          unfold fTape_cutNumber_69
          replace hg := (eTape_cutNumber_69).symm.trans hg
          unfold fTape_cutNumber_74
          replace hg := (eTape_cutNumber_74).symm.trans hg
          have l_53 : (5 : Int32).toInt = 5 := rfl
          refine ⟨tIn (by omega) (by omega), fun I_54 e_55 => ?_⟩
          replace hg := gt_let (y := tI I_54) (tI_q e_55) hg
          have hR_56 : RI R I_54 := hR.up ra 3 (by decide) (Or.inl rfl) e_55 (i_lo _) (i_hi _)
          have hf_57 : Fm (fun c => c = o + 3 ∨ c = o + 5) I0 I_54 := hf.set (by first | rfl | omega | (dsimp only; omega)) e_55
          have t_58 : (I_54 o 6).toInt = (I o 6).toInt := by rw [← e_55, q_u_ne (by omega)]
          have k_59 : TokX I_54 o p1.toNatClampNeg := hi6.put3 e_55 (by first | rfl | rw [hi2] | rw [hi3])
          have x_60 : I_54 (o + 3) (x1 : Int32).toNatClampNeg = (5 : Int32) := by rw [← e_55, q_u_at]
          have nk := hi5
          unfold NumOK at nk
          refine ⟨tIn (by omega) (by omega), fun I_61 e_62 => ?_⟩
          replace hg := gt_let (y := tI I_61) (tI_q e_62) hg
          have hR_63 : RI R I_61 := hR_56.up ra 5 (by decide) (Or.inl rfl) e_62 (i_lo _) (i_hi _)
          have hf_64 : Fm (fun c => c = o + 3 ∨ c = o + 5) I0 I_61 := hf_57.set (by first | rfl | omega | (dsimp only; omega)) e_62
          have t_65 : (I_61 o 6).toInt = (I_54 o 6).toInt := by rw [← e_62, q_u_ne (by omega)]
          have k_66 : TokX I_61 o p1.toNatClampNeg := k_59.put5 e_62 (by first | rfl | rw [hi2] | rw [hi3])
          have x_67 : I_61 (o + 3) (x1 : Int32).toNatClampNeg = (5 : Int32) := by rw [← e_62, q_u_ne (by omega)]; exact x_60
          have x_68 : I_61 (o + 5) (x1 : Int32).toNatClampNeg = x4 := by rw [← e_62, q_u_at]
          exact (hp _ _ _ hR_63 hf_64 (by first | omega | (intro h; omega) | exact Or.inl rfl | exact Or.inr rfl) (TokX.all k_66 (by have nx : x1 = p1 := hi3; subst nx; unfold TokAt; rw [x_67, x_68]; exact ⟨fun h => by omega, fun h => by omega⟩)) hg.symm hl)
    · have d_69 := iNle c_2
      replace hg := gt_neg (by first | exact d_69 | omega) hg
      refine y_Tape_byteAtg hok hw ra hR (fun r_70 u_71 gn_72 => ⟨r_70, I, L, rfl, rfl, ?_⟩)
      replace hg := gt_let gn_72 hg
      clear gn_72
      refine y_Tape_isDigitg hok hR (fun r_73 u_74 u_75 gn_76 => ⟨r_73, I, L, rfl, rfl, ?_⟩)
      replace hg := gt_let gn_76 hg
      clear gn_76
      have b_77 : 0 ≤ r_73.toInt ∧ r_73.toInt ≤ 1 := u_74.rg
      have l_78 : (0 : Int32).toInt = 0 := rfl
      refine ⟨fun c_79 => ?_, fun c_79 => ?_⟩
      · have d_80 := iEq c_79
        replace hg := gt_pos (by first | exact d_80 | omega) hg
        unfold fTape_cutNumber_46
        replace hg := (eTape_cutNumber_46).symm.trans hg
        have a_81 : (x3 - x2).toInt = x3.toInt - x2.toInt := tSub (by omega) (by omega)
        replace hg := gt_let (y := ((x3 - x2) : Int32).toInt) (by omega) hg
        have l_82 : (4 : Int32).toInt = 4 := rfl
        refine ⟨fun c_83 => ?_, fun c_83 => ?_⟩
        · have d_84 := iLt c_83
          replace hg := gt_pos (by first | exact d_84 | omega) hg
          unfold fTape_cutNumber_69
          replace hg := (eTape_cutNumber_69).symm.trans hg
          unfold fTape_cutNumber_74
          replace hg := (eTape_cutNumber_74).symm.trans hg
          have l_85 : (5 : Int32).toInt = 5 := rfl
          refine ⟨tIn (by omega) (by omega), fun I_86 e_87 => ?_⟩
          replace hg := gt_let (y := tI I_86) (tI_q e_87) hg
          have hR_88 : RI R I_86 := hR.up ra 3 (by decide) (Or.inl rfl) e_87 (i_lo _) (i_hi _)
          have hf_89 : Fm (fun c => c = o + 3 ∨ c = o + 5) I0 I_86 := hf.set (by first | rfl | omega | (dsimp only; omega)) e_87
          have t_90 : (I_86 o 6).toInt = (I o 6).toInt := by rw [← e_87, q_u_ne (by omega)]
          have k_91 : TokX I_86 o p1.toNatClampNeg := hi6.put3 e_87 (by first | rfl | rw [hi2] | rw [hi3])
          have x_92 : I_86 (o + 3) (x1 : Int32).toNatClampNeg = (5 : Int32) := by rw [← e_87, q_u_at]
          have nk := hi5
          unfold NumOK at nk
          refine ⟨tIn (by omega) (by omega), fun I_93 e_94 => ?_⟩
          replace hg := gt_let (y := tI I_93) (tI_q e_94) hg
          have hR_95 : RI R I_93 := hR_88.up ra 5 (by decide) (Or.inl rfl) e_94 (i_lo _) (i_hi _)
          have hf_96 : Fm (fun c => c = o + 3 ∨ c = o + 5) I0 I_93 := hf_89.set (by first | rfl | omega | (dsimp only; omega)) e_94
          have t_97 : (I_93 o 6).toInt = (I_86 o 6).toInt := by rw [← e_94, q_u_ne (by omega)]
          have k_98 : TokX I_93 o p1.toNatClampNeg := k_91.put5 e_94 (by first | rfl | rw [hi2] | rw [hi3])
          have x_99 : I_93 (o + 3) (x1 : Int32).toNatClampNeg = (5 : Int32) := by rw [← e_94, q_u_ne (by omega)]; exact x_92
          have x_100 : I_93 (o + 5) (x1 : Int32).toNatClampNeg = x4 := by rw [← e_94, q_u_at]
          exact (hp _ _ _ hR_95 hf_96 (by first | omega | (intro h; omega) | exact Or.inl rfl | exact Or.inr rfl) (TokX.all k_98 (by have nx : x1 = p1 := hi3; subst nx; unfold TokAt; rw [x_99, x_100]; exact ⟨fun h => by omega, fun h => by omega⟩)) hg.symm hl)
        · have d_101 := iNlt c_83
          replace hg := gt_neg (by first | exact d_101 | omega) hg
          refine y_Tape_byteAtg hok hw ra hR (fun r_102 u_103 gn_104 => ⟨r_102, I, L, rfl, rfl, ?_⟩)
          replace hg := gt_let gn_104 hg
          clear gn_104
          have j_105 := iEq (u_103.trans u_71.symm)
          refine y_Tape_isLetterg hok hR (fun r_106 u_107 u_108 gn_109 => ⟨r_106, I, L, rfl, rfl, ?_⟩)
          replace hg := gt_let gn_109 hg
          clear gn_109
          have b_110 : 0 ≤ r_106.toInt ∧ r_106.toInt ≤ 1 := u_107.rg
          refine ⟨fun c_111 => ?_, fun c_111 => ?_⟩
          · have d_112 := iEq c_111
            replace hg := gt_pos (by first | exact d_112 | omega) hg
            unfold fTape_cutNumber_74
            replace hg := (eTape_cutNumber_74).symm.trans hg
            have l_113 : (2 : Int32).toInt = 2 := rfl
            refine ⟨tIn (by omega) (by omega), fun I_114 e_115 => ?_⟩
            replace hg := gt_let (y := tI I_114) (tI_q e_115) hg
            have hR_116 : RI R I_114 := hR.up ra 3 (by decide) (Or.inl rfl) e_115 (i_lo _) (i_hi _)
            have hf_117 : Fm (fun c => c = o + 3 ∨ c = o + 5) I0 I_114 := hf.set (by first | rfl | omega | (dsimp only; omega)) e_115
            have t_118 : (I_114 o 6).toInt = (I o 6).toInt := by rw [← e_115, q_u_ne (by omega)]
            have k_119 : TokX I_114 o p1.toNatClampNeg := hi6.put3 e_115 (by first | rfl | rw [hi2] | rw [hi3])
            have x_120 : I_114 (o + 3) (x1 : Int32).toNatClampNeg = (2 : Int32) := by rw [← e_115, q_u_at]
            have nk := hi5
            unfold NumOK at nk
            refine ⟨tIn (by omega) (by omega), fun I_121 e_122 => ?_⟩
            replace hg := gt_let (y := tI I_121) (tI_q e_122) hg
            have hR_123 : RI R I_121 := hR_116.up ra 5 (by decide) (Or.inl rfl) e_122 (i_lo _) (i_hi _)
            have hf_124 : Fm (fun c => c = o + 3 ∨ c = o + 5) I0 I_121 := hf_117.set (by first | rfl | omega | (dsimp only; omega)) e_122
            have t_125 : (I_121 o 6).toInt = (I_114 o 6).toInt := by rw [← e_122, q_u_ne (by omega)]
            have k_126 : TokX I_121 o p1.toNatClampNeg := k_119.put5 e_122 (by first | rfl | rw [hi2] | rw [hi3])
            have x_127 : I_121 (o + 3) (x1 : Int32).toNatClampNeg = (2 : Int32) := by rw [← e_122, q_u_ne (by omega)]; exact x_120
            have x_128 : I_121 (o + 5) (x1 : Int32).toNatClampNeg = x4 := by rw [← e_122, q_u_at]
            exact (hp _ _ _ hR_123 hf_124 (by first | omega | (intro h; omega) | exact Or.inl rfl | exact Or.inr rfl) (TokX.all k_126 (by have nx : x1 = p1 := hi3; subst nx; unfold TokAt; rw [x_127, x_128]; exact ⟨fun h => by omega, fun h => by omega⟩)) hg.symm hl)
          · have d_129 := iNe c_111
            replace hg := gt_neg (by first | exact d_129 | omega) hg
            unfold fTape_cutNumber_69
            replace hg := (eTape_cutNumber_69).symm.trans hg
            unfold fTape_cutNumber_74
            replace hg := (eTape_cutNumber_74).symm.trans hg
            have l_130 : (5 : Int32).toInt = 5 := rfl
            refine ⟨tIn (by omega) (by omega), fun I_131 e_132 => ?_⟩
            replace hg := gt_let (y := tI I_131) (tI_q e_132) hg
            have hR_133 : RI R I_131 := hR.up ra 3 (by decide) (Or.inl rfl) e_132 (i_lo _) (i_hi _)
            have hf_134 : Fm (fun c => c = o + 3 ∨ c = o + 5) I0 I_131 := hf.set (by first | rfl | omega | (dsimp only; omega)) e_132
            have t_135 : (I_131 o 6).toInt = (I o 6).toInt := by rw [← e_132, q_u_ne (by omega)]
            have k_136 : TokX I_131 o p1.toNatClampNeg := hi6.put3 e_132 (by first | rfl | rw [hi2] | rw [hi3])
            have x_137 : I_131 (o + 3) (x1 : Int32).toNatClampNeg = (5 : Int32) := by rw [← e_132, q_u_at]
            have nk := hi5
            unfold NumOK at nk
            refine ⟨tIn (by omega) (by omega), fun I_138 e_139 => ?_⟩
            replace hg := gt_let (y := tI I_138) (tI_q e_139) hg
            have hR_140 : RI R I_138 := hR_133.up ra 5 (by decide) (Or.inl rfl) e_139 (i_lo _) (i_hi _)
            have hf_141 : Fm (fun c => c = o + 3 ∨ c = o + 5) I0 I_138 := hf_134.set (by first | rfl | omega | (dsimp only; omega)) e_139
            have t_142 : (I_138 o 6).toInt = (I_131 o 6).toInt := by rw [← e_139, q_u_ne (by omega)]
            have k_143 : TokX I_138 o p1.toNatClampNeg := k_136.put5 e_139 (by first | rfl | rw [hi2] | rw [hi3])
            have x_144 : I_138 (o + 3) (x1 : Int32).toNatClampNeg = (5 : Int32) := by rw [← e_139, q_u_ne (by omega)]; exact x_137
            have x_145 : I_138 (o + 5) (x1 : Int32).toNatClampNeg = x4 := by rw [← e_139, q_u_at]
            exact (hp _ _ _ hR_140 hf_141 (by first | omega | (intro h; omega) | exact Or.inl rfl | exact Or.inr rfl) (TokX.all k_143 (by have nx : x1 = p1 := hi3; subst nx; unfold TokAt; rw [x_144, x_145]; exact ⟨fun h => by omega, fun h => by omega⟩)) hg.symm hl)
      · have d_146 := iNe c_79
        replace hg := gt_neg (by first | exact d_146 | omega) hg
        have dg := dg_rg (fun h => absurd (iEq ((u_75).trans h)) (by omega))
        have l_147 : (10 : Int32).toInt = 10 := rfl
        replace hg := gt_let (y := ((x4 * 10) : Int32).toInt) (wMul_eq (x4 : Int32) (10 : Int32)) hg
        refine y_Tape_byteAtg hok hw ra hR (fun r_148 u_149 gn_150 => ⟨r_148, I, L, rfl, rfl, ?_⟩)
        replace hg := gt_let gn_150 hg
        clear gn_150
        have j_151 := iEq (u_149.trans u_71.symm)
        have be := iEq ((u_149).trans (u_71).symm)
        replace hg := gt_let (y := (((x4 * 10) + r_148) : Int32).toInt) (wAdd_eq ((x4 * 10) : Int32) (r_148 : Int32)) hg
        have l_152 : (48 : Int32).toInt = 48 := rfl
        replace hg := gt_let (y := ((((x4 * 10) + r_148) - 48) : Int32).toInt) (wSub_eq (((x4 * 10) + r_148) : Int32) (48 : Int32)) hg
        have a_154 : (x3 + Int32.ofInt 1).toInt = x3.toInt + (1) := tIc (by omega) (by omega) (by decide) (by decide)
        generalize ez_153 : (x3 + Int32.ofInt 1) = z_153 at a_154 ⊢
        replace hg := gt_let (y := z_153.toInt) (by omega) hg
        exact ih hR hf (by first | omega | (intro h; omega) | exact Or.inl rfl | exact Or.inr rfl) (by first | omega | (intro h; omega) | exact Or.inl rfl | exact Or.inr rfl) (by first | omega | (intro h; omega) | exact Or.inl rfl | exact Or.inr rfl) (by first | rfl | exact hi3) (by first | omega | (intro h; omega) | exact Or.inl rfl | exact Or.inr rfl) (by first | exact NumOK.step' hi5 (by omega) (by omega) (by omega) | (have e0 : p2.toInt - p2.toInt = 0 := by omega); rw [e0]; exact NumOK.zero) hi6 hl hg (by omega)
set_option maxHeartbeats 4000000 in
set_option maxRecDepth 20000 in
theorem y_Tape_cutNumberg {D : va_G} {cA : FieldType → ClassId} {b : Nat} {E : State → Prop} {R : qRg} {o n : Nat} {sh : Nat → qC} {Rf : Nat → Nat → Option Nat} {I0 : Nat → Nat → Int32} {L0 : Nat → Nat → Int64} {post : Option Value → qS → Prop} {p1 : Int32} {p2 : Int32} (hok : q_ok (qGG D cA b E)) (hw : WfTape (qGG D cA b E) n sh Rf o) (ra : RATape R o) (hq0 : (0 : Int) ≤ p1.toInt ∧ p1.toInt ≤ 1600) (hq1 : (0 : Int) ≤ p2.toInt ∧ p2.toInt ≤ 1600) (hq2 : TokX I0 o p1.toNatClampNeg) (hR : RI R I0) (hp : ∀ (r : Int32) (I' : Nat → Nat → Int32) (L' : Nat → Nat → Int64), RI R I' → Fm (fun c => c = o + 3 ∨ c = o + 5) I0 I' → (((0 : Int) ≤ r.toInt ∧ r.toInt ≤ 1603)) → (TokOK I' o) → (gTape_cutNumber_0 o (tI I0) L0 (p1).toInt (p2).toInt = (r.toInt, tI I', L')) → (FmL (fun c => False) L0 L') → post (some (.int r)) (n, sh, Rf, I', L')) : Ev (qGG D cA b E) mTape_cutNumber 1 (0, 0) 0 (lv_args 0 [.ref o, .int p1, .int p2]) [] (n, sh, Rf, I0, L0) post := by
  have hf : Fm (fun c => c = o + 3 ∨ c = o + 5) I0 I0 := Fm.rf
  refine sTape_cutNumber_0 o n sh Rf I0 L0 post p1 p2 hok hw ?_
  unfold fTape_cutNumber_0
  have hl : FmL (fun c => False) L0 L0 := FmL.rf
  have hg : gTape_cutNumber_0 o (tI I0) L0 (p1).toInt (p2).toInt = gTape_cutNumber_0 o (tI I0) L0 (p1).toInt (p2).toInt := rfl
  replace hg := (eTape_cutNumber_0).symm.trans hg
  have l_155 : (0 : Int32).toInt = 0 := rfl
  exact yTape_cutNumber_5g (I0 := I0) (L0 := L0) (p1 := p1) (p2 := p2) hok hw ra hq0 hq1 hq2 hp  20000 hR hf (by first | omega | (intro h; omega) | exact Or.inl rfl | exact Or.inr rfl) (by first | omega | (intro h; omega) | exact Or.inl rfl | exact Or.inr rfl) (by first | omega | (intro h; omega) | exact Or.inl rfl | exact Or.inr rfl) (by first | rfl | exact hi3) (by first | omega | (intro h; omega) | exact Or.inl rfl | exact Or.inr rfl) (by first | exact NumOK.step' hi5 (by omega) (by omega) (by omega) | (have e0 : p2.toInt - p2.toInt = 0 := by omega); rw [e0]; exact NumOK.zero) hq2 hl hg (by omega)
noncomputable def gTape_cutWord_100 (K72 : gJ → gL → Int → Int → Int → Int64 → Int → (Int × gJ × gL)) (o : Nat) (J : gJ) (L : gL) (x1 : Int) (x2 : Int) (x3 : Int) (x4 : Int64) (x6 : Int) : Int × gJ × gL := gLet (x6 + 1) (fun (v_1 : Int) => (K72 J L x1 x2 x3 x4 v_1))
theorem eTape_cutWord_100 {K72 : gJ → gL → Int → Int → Int → Int64 → Int → (Int × gJ × gL)} {o : Nat} {J : gJ} {L : gL} {x1 : Int} {x2 : Int} {x3 : Int} {x4 : Int64} {x6 : Int} : gTape_cutWord_100 K72 o J L x1 x2 x3 x4 x6 = gLet (x6 + 1) (fun (v_1 : Int) => (K72 J L x1 x2 x3 x4 v_1)) := rfl
noncomputable def gTape_cutWord_72 (k : Nat) (o : Nat) (J : gJ) (L : gL) (x1 : Int) (x2 : Int) (x3 : Int) (x4 : Int64) (x6 : Int) : Int × gJ × gL := match k with
  | 0 => default
  | k + 1 => (if 32 ≤ x6 then (x3, J, L) else gLet ((lg_cmp (L (o + 2) (Int.toNat x6)) x4).toInt) (fun (v_1 : Int) => (if v_1 = 0 then gLet (q_u J (o + 5) (Int.toNat x1) x6) (fun (J_2 : gJ) => (gTape_cutWord_100 (gTape_cutWord_72 k o) o J_2 L x1 x2 x3 x4 x6)) else (gTape_cutWord_100 (gTape_cutWord_72 k o) o J L x1 x2 x3 x4 x6))))
theorem eTape_cutWord_72 {k : Nat} {o : Nat} {J : gJ} {L : gL} {x1 : Int} {x2 : Int} {x3 : Int} {x4 : Int64} {x6 : Int} : gTape_cutWord_72 (k + 1) o J L x1 x2 x3 x4 x6 = (if 32 ≤ x6 then (x3, J, L) else gLet ((lg_cmp (L (o + 2) (Int.toNat x6)) x4).toInt) (fun (v_1 : Int) => (if v_1 = 0 then gLet (q_u J (o + 5) (Int.toNat x1) x6) (fun (J_2 : gJ) => (gTape_cutWord_100 (gTape_cutWord_72 k o) o J_2 L x1 x2 x3 x4 x6)) else (gTape_cutWord_100 (gTape_cutWord_72 k o) o J L x1 x2 x3 x4 x6)))) := rfl
noncomputable def gTape_cutWord_60 (o : Nat) (J : gJ) (L : gL) (x1 : Int) (x2 : Int) (x3 : Int) (x4 : Int64) (z0 : Int) (z1 : Int) : Int × gJ × gL := gLet (q_u J (o + 3) (Int.toNat z1) z0) (fun (J_1 : gJ) => gLet (q_u L (o + 6) (Int.toNat x1) x4) (fun (L_2 : gL) => (gTape_cutWord_72 20000 o J_1 L_2 x1 x2 x3 x4 0)))
theorem eTape_cutWord_60 {o : Nat} {J : gJ} {L : gL} {x1 : Int} {x2 : Int} {x3 : Int} {x4 : Int64} {z0 : Int} {z1 : Int} : gTape_cutWord_60 o J L x1 x2 x3 x4 z0 z1 = gLet (q_u J (o + 3) (Int.toNat z1) z0) (fun (J_1 : gJ) => gLet (q_u L (o + 6) (Int.toNat x1) x4) (fun (L_2 : gL) => (gTape_cutWord_72 20000 o J_1 L_2 x1 x2 x3 x4 0))) := rfl
noncomputable def gTape_cutWord_42 (o : Nat) (J : gJ) (L : gL) (x1 : Int) (x2 : Int) (x3 : Int) (x4 : Int64) : Int × gJ × gL := gLet (x3 - x2) (fun (v_1 : Int) => (if v_1 ≤ 8 then (gTape_cutWord_60 o J L x1 x2 x3 x4 1 x1) else (gTape_cutWord_60 o J L x1 x2 x3 x4 5 x1)))
theorem eTape_cutWord_42 {o : Nat} {J : gJ} {L : gL} {x1 : Int} {x2 : Int} {x3 : Int} {x4 : Int64} : gTape_cutWord_42 o J L x1 x2 x3 x4 = gLet (x3 - x2) (fun (v_1 : Int) => (if v_1 ≤ 8 then (gTape_cutWord_60 o J L x1 x2 x3 x4 1 x1) else (gTape_cutWord_60 o J L x1 x2 x3 x4 5 x1))) := rfl
noncomputable def gTape_cutWord_5 (k : Nat) (o : Nat) (J : gJ) (L : gL) (x1 : Int) (x2 : Int) (x3 : Int) (x4 : Int64) : Int × gJ × gL := match k with
  | 0 => default
  | k + 1 => gLet (J o 6) (fun (v_1 : Int) => (if v_1 ≤ x3 then (gTape_cutWord_42 o J L x1 x2 x3 x4) else gLet (gTape_byteAt_0 o J L x3) (fun (r_2 : Int) => gLet (gTape_isLetter_0  J L r_2) (fun (r_3 : Int) => (if r_3 = 0 then (gTape_cutWord_42 o J L x1 x2 x3 x4) else gLet (gTape_byteAt_0 o J L x3) (fun (r_4 : Int) => gLet (gTape_withLetter_0  J L x4 r_4) (fun (r_5 : Int64) => gLet (x3 + 1) (fun (v_6 : Int) => (gTape_cutWord_5 k o J L x1 x2 v_6 r_5)))))))))
theorem eTape_cutWord_5 {k : Nat} {o : Nat} {J : gJ} {L : gL} {x1 : Int} {x2 : Int} {x3 : Int} {x4 : Int64} : gTape_cutWord_5 (k + 1) o J L x1 x2 x3 x4 = gLet (J o 6) (fun (v_1 : Int) => (if v_1 ≤ x3 then (gTape_cutWord_42 o J L x1 x2 x3 x4) else gLet (gTape_byteAt_0 o J L x3) (fun (r_2 : Int) => gLet (gTape_isLetter_0  J L r_2) (fun (r_3 : Int) => (if r_3 = 0 then (gTape_cutWord_42 o J L x1 x2 x3 x4) else gLet (gTape_byteAt_0 o J L x3) (fun (r_4 : Int) => gLet (gTape_withLetter_0  J L x4 r_4) (fun (r_5 : Int64) => gLet (x3 + 1) (fun (v_6 : Int) => (gTape_cutWord_5 k o J L x1 x2 v_6 r_5))))))))) := rfl
noncomputable def gTape_cutWord_0 (o : Nat) (J : gJ) (L : gL) (x1 : Int) (x2 : Int) : Int × gJ × gL := (gTape_cutWord_5 20000 o J L x1 x2 x2 0)
theorem eTape_cutWord_0 {o : Nat} {J : gJ} {L : gL} {x1 : Int} {x2 : Int} : gTape_cutWord_0 o J L x1 x2 = (gTape_cutWord_5 20000 o J L x1 x2 x2 0) := rfl
set_option maxHeartbeats 4000000 in
set_option maxRecDepth 20000 in
theorem yTape_cutWord_72g {D : va_G} {cA : FieldType → ClassId} {b : Nat} {E : State → Prop} {R : qRg} {o n : Nat} {sh : Nat → qC} {Rf : Nat → Nat → Option Nat} {I0 : Nat → Nat → Int32} {L0 : Nat → Nat → Int64} {post : Option Value → qS → Prop} {p1 : Int32} {p2 : Int32} (hok : q_ok (qGG D cA b E)) (hw : WfTape (qGG D cA b E) n sh Rf o) (ra : RATape R o) (hq0 : (0 : Int) ≤ p1.toInt ∧ p1.toInt ≤ 1600) (hq1 : (0 : Int) ≤ p2.toInt ∧ p2.toInt ≤ 1600) (hq2 : TokX I0 o p1.toNatClampNeg) (hp : ∀ (r : Int32) (I' : Nat → Nat → Int32) (L' : Nat → Nat → Int64), RI R I' → Fm (fun c => c = o + 3 ∨ c = o + 5) I0 I' → (((0 : Int) ≤ r.toInt ∧ r.toInt ≤ 1603)) → (TokOK I' o) → (gTape_cutWord_0 o (tI I0) L0 (p1).toInt (p2).toInt = (r.toInt, tI I', L')) → (FmL (fun c => c = (o + 6)) L0 L') → post (some (.int r)) (n, sh, Rf, I', L')) : ∀ (k : Nat) {x1 : Int32} {x2 : Int32} {x3 : Int32} {x4 : Int64} {x6 : Int32} {I : Nat → Nat → Int32} {L : Nat → Nat → Int64}, RI R I → Fm (fun c => c = o + 3 ∨ c = o + 5) I0 I → ((0 : Int) ≤ x1.toInt ∧ x1.toInt ≤ 1600) → ((0 : Int) ≤ x3.toInt ∧ x3.toInt ≤ 1603) → ((0 : Int) ≤ x6.toInt ∧ x6.toInt ≤ 32) → (x1 = p1) → ((I (o + 3) p1.toNatClampNeg).toInt ≠ 2) → ((I (o + 3) p1.toNatClampNeg).toInt ≠ 3) → (TokX I o p1.toNatClampNeg) → (FmL (fun c => c = (o + 6)) L0 L) → (gTape_cutWord_72 k o (tI I) L (x1).toInt (x2).toInt (x3).toInt x4 (x6).toInt = gTape_cutWord_0 o (tI I0) L0 (p1).toInt (p2).toInt) → (32 - x6.toInt).toNat < k → Ev (qGG D cA b E) mTape_cutWord 1 (0, 0) 72 [(0, .ref o), (1, .int x1), (2, .int x2), (3, .int x3), (4, .long x4), (6, .int x6)] [] (n, sh, Rf, I, L) post := by
  intro k
  induction k with
  | zero =>
    intro x1 x2 x3 x4 x6 I L hR hf hi0 hi1 hi2 hi3 hi4 hi5 hi6 hl hg hm
    exact absurd hm (Nat.not_lt_zero _)
  | succ k ih =>
    intro x1 x2 x3 x4 x6 I L hR hf hi0 hi1 hi2 hi3 hi4 hi5 hi6 hl hg hm
    refine sTape_cutWord_72 o n sh Rf I L post x1 x2 x3 x4 x6 hok hw ?_
    unfold fTape_cutWord_72
    replace hg := (eTape_cutWord_72).symm.trans hg
    have l_1 : (32 : Int32).toInt = 32 := rfl
    refine ⟨fun c_2 => ?_, fun c_2 => ?_⟩
    · have d_3 := iLe c_2
      replace hg := gt_pos (by first | exact d_3 | omega) hg
      exact (hp _ _ _ hR hf (by first | omega | (intro h; omega) | exact Or.inl rfl | exact Or.inr rfl) (TokX.all hi6 (by unfold TokAt; exact ⟨fun h => by omega, fun h => by omega⟩)) hg.symm hl)
    · have d_4 := iNle c_2
      replace hg := gt_neg (by first | exact d_4 | omega) hg
      refine ⟨tIn (by omega) (by omega), ?_⟩
      replace hg := gt_let (y := (lg_cmp (L (o + 2) (x6 : Int32).toNatClampNeg) x4).toInt) rfl hg
      have l_5 : (0 : Int32).toInt = 0 := rfl
      refine ⟨fun c_6 => ?_, fun c_6 => ?_⟩
      · have d_7 := iNe c_6
        replace hg := gt_neg (by first | exact d_7 | omega) hg
        unfold fTape_cutWord_100
        replace hg := (eTape_cutWord_100).symm.trans hg
        have a_9 : (x6 + Int32.ofInt 1).toInt = x6.toInt + (1) := tIc (by omega) (by omega) (by decide) (by decide)
        generalize ez_8 : (x6 + Int32.ofInt 1) = z_8 at a_9 ⊢
        replace hg := gt_let (y := z_8.toInt) (by omega) hg
        exact ih hR hf (by first | omega | (intro h; omega) | exact Or.inl rfl | exact Or.inr rfl) (by first | omega | (intro h; omega) | exact Or.inl rfl | exact Or.inr rfl) (by first | omega | (intro h; omega) | exact Or.inl rfl | exact Or.inr rfl) (by first | rfl | exact hi3) (by first | omega | (intro h; omega) | exact Or.inl rfl | exact Or.inr rfl) (by first | omega | (intro h; omega) | exact Or.inl rfl | exact Or.inr rfl) hi6 hl hg (by omega)
      · have d_10 := iEq c_6
        replace hg := gt_pos (by first | exact d_10 | omega) hg
        refine ⟨tIn (by omega) (by omega), fun I_11 e_12 => ?_⟩
        replace hg := gt_let (y := tI I_11) (tI_q e_12) hg
        have hR_13 : RI R I_11 := hR.up ra 5 (by decide) (Or.inl rfl) e_12 (i_lo _) (i_hi _)
        have hf_14 : Fm (fun c => c = o + 3 ∨ c = o + 5) I0 I_11 := hf.set (by first | rfl | omega | (dsimp only; omega)) e_12
        have k_15 : TokX I_11 o p1.toNatClampNeg := hi6.put5 e_12 (by first | rfl | rw [hi3])
        have n_16 : (I_11 (o + 3) p1.toNatClampNeg).toInt = (I (o + 3) p1.toNatClampNeg).toInt := by rw [← e_12, q_u_ne (by omega)]
        unfold fTape_cutWord_100
        replace hg := (eTape_cutWord_100).symm.trans hg
        have a_18 : (x6 + Int32.ofInt 1).toInt = x6.toInt + (1) := tIc (by omega) (by omega) (by decide) (by decide)
        generalize ez_17 : (x6 + Int32.ofInt 1) = z_17 at a_18 ⊢
        replace hg := gt_let (y := z_17.toInt) (by omega) hg
        exact ih hR_13 hf_14 (by first | omega | (intro h; omega) | exact Or.inl rfl | exact Or.inr rfl) (by first | omega | (intro h; omega) | exact Or.inl rfl | exact Or.inr rfl) (by first | omega | (intro h; omega) | exact Or.inl rfl | exact Or.inr rfl) (by first | rfl | exact hi3) (by first | omega | (intro h; omega) | exact Or.inl rfl | exact Or.inr rfl) (by first | omega | (intro h; omega) | exact Or.inl rfl | exact Or.inr rfl) k_15 hl hg (by omega)
set_option maxHeartbeats 4000000 in
set_option maxRecDepth 20000 in
theorem yTape_cutWord_5g {D : va_G} {cA : FieldType → ClassId} {b : Nat} {E : State → Prop} {R : qRg} {o n : Nat} {sh : Nat → qC} {Rf : Nat → Nat → Option Nat} {I0 : Nat → Nat → Int32} {L0 : Nat → Nat → Int64} {post : Option Value → qS → Prop} {p1 : Int32} {p2 : Int32} (hok : q_ok (qGG D cA b E)) (hw : WfTape (qGG D cA b E) n sh Rf o) (ra : RATape R o) (hq0 : (0 : Int) ≤ p1.toInt ∧ p1.toInt ≤ 1600) (hq1 : (0 : Int) ≤ p2.toInt ∧ p2.toInt ≤ 1600) (hq2 : TokX I0 o p1.toNatClampNeg) (hp : ∀ (r : Int32) (I' : Nat → Nat → Int32) (L' : Nat → Nat → Int64), RI R I' → Fm (fun c => c = o + 3 ∨ c = o + 5) I0 I' → (((0 : Int) ≤ r.toInt ∧ r.toInt ≤ 1603)) → (TokOK I' o) → (gTape_cutWord_0 o (tI I0) L0 (p1).toInt (p2).toInt = (r.toInt, tI I', L')) → (FmL (fun c => c = (o + 6)) L0 L') → post (some (.int r)) (n, sh, Rf, I', L')) : ∀ (k : Nat) {x1 : Int32} {x2 : Int32} {x3 : Int32} {x4 : Int64} {I : Nat → Nat → Int32} {L : Nat → Nat → Int64}, RI R I → Fm (fun c => c = o + 3 ∨ c = o + 5) I0 I → ((0 : Int) ≤ x1.toInt ∧ x1.toInt ≤ 1600) → ((0 : Int) ≤ x2.toInt ∧ x2.toInt ≤ 1600) → ((0 : Int) ≤ x3.toInt ∧ x3.toInt ≤ 1603) → (x1 = p1) → (x2.toInt ≤ x3.toInt) → (TokX I o p1.toNatClampNeg) → (FmL (fun c => c = (o + 6)) L0 L) → (gTape_cutWord_5 k o (tI I) L (x1).toInt (x2).toInt (x3).toInt x4 = gTape_cutWord_0 o (tI I0) L0 (p1).toInt (p2).toInt) → (1600 - x3.toInt).toNat < k → Ev (qGG D cA b E) mTape_cutWord 1 (0, 0) 5 [(0, .ref o), (1, .int x1), (2, .int x2), (3, .int x3), (4, .long x4)] [] (n, sh, Rf, I, L) post := by
  intro k
  induction k with
  | zero =>
    intro x1 x2 x3 x4 I L hR hf hi0 hi1 hi2 hi3 hi4 hi5 hl hg hm
    exact absurd hm (Nat.not_lt_zero _)
  | succ k ih =>
    intro x1 x2 x3 x4 I L hR hf hi0 hi1 hi2 hi3 hi4 hi5 hl hg hm
    refine sTape_cutWord_5 o n sh Rf I L post x1 x2 x3 x4 hok hw ?_
    unfold fTape_cutWord_5
    replace hg := (eTape_cutWord_5).symm.trans hg
    have g_19 : (0 : Int) ≤ (I o 6).toInt ∧ (I o 6).toInt ≤ 1600 := hR.at0 ra 6 (by decide)
    replace hg := gt_let (y := (I o 6).toInt) rfl hg
    refine ⟨fun c_20 => ?_, fun c_20 => ?_⟩
    · have d_21 := iLe c_20
      replace hg := gt_pos (by first | exact d_21 | omega) hg
      unfold fTape_cutWord_42
      replace hg := (eTape_cutWord_42).symm.trans hg
      have a_22 : (x3 - x2).toInt = x3.toInt - x2.toInt := tSub (by omega) (by omega)
      replace hg := gt_let (y := ((x3 - x2) : Int32).toInt) (by omega) hg
      have l_23 : (8 : Int32).toInt = 8 := rfl
      refine ⟨fun c_24 => ?_, fun c_24 => ?_⟩
      · have d_25 := iLe c_24
        replace hg := gt_pos (by first | exact d_25 | omega) hg
        unfold fTape_cutWord_60
        replace hg := (eTape_cutWord_60).symm.trans hg
        have l_26 : (1 : Int32).toInt = 1 := rfl
        refine ⟨tIn (by omega) (by omega), fun I_27 e_28 => ?_⟩
        replace hg := gt_let (y := tI I_27) (tI_q e_28) hg
        have hR_29 : RI R I_27 := hR.up ra 3 (by decide) (Or.inl rfl) e_28 (i_lo _) (i_hi _)
        have hf_30 : Fm (fun c => c = o + 3 ∨ c = o + 5) I0 I_27 := hf.set (by first | rfl | omega | (dsimp only; omega)) e_28
        have t_31 : (I_27 o 6).toInt = (I o 6).toInt := by rw [← e_28, q_u_ne (by omega)]
        have k_32 : TokX I_27 o p1.toNatClampNeg := hi5.put3 e_28 (by first | rfl | rw [hi3])
        have n_33 : (I_27 (o + 3) p1.toNatClampNeg).toInt = (1 : Int32).toInt := by rw [← hi3]; rw [← e_28, q_u_at]
        refine ⟨tIn (by omega) (by omega), fun L_34 e_35 => ?_⟩
        replace hl := hl.set (by first | rfl | omega | (dsimp only; omega)) e_35
        replace hg := gt_let (y := L_34) e_35 hg
        have l_36 : (0 : Int32).toInt = 0 := rfl
        exact yTape_cutWord_72g (I0 := I0) (L0 := L0) (p1 := p1) (p2 := p2) hok hw ra hq0 hq1 hq2 hp  20000 hR_29 hf_30 (by first | omega | (intro h; omega) | exact Or.inl rfl | exact Or.inr rfl) (by first | omega | (intro h; omega) | exact Or.inl rfl | exact Or.inr rfl) (by first | omega | (intro h; omega) | exact Or.inl rfl | exact Or.inr rfl) (by first | rfl | exact hi3) (by first | omega | (intro h; omega) | exact Or.inl rfl | exact Or.inr rfl) (by first | omega | (intro h; omega) | exact Or.inl rfl | exact Or.inr rfl) k_32 hl hg (by omega)
      · have d_37 := iNle c_24
        replace hg := gt_neg (by first | exact d_37 | omega) hg
        unfold fTape_cutWord_60
        replace hg := (eTape_cutWord_60).symm.trans hg
        have l_38 : (5 : Int32).toInt = 5 := rfl
        refine ⟨tIn (by omega) (by omega), fun I_39 e_40 => ?_⟩
        replace hg := gt_let (y := tI I_39) (tI_q e_40) hg
        have hR_41 : RI R I_39 := hR.up ra 3 (by decide) (Or.inl rfl) e_40 (i_lo _) (i_hi _)
        have hf_42 : Fm (fun c => c = o + 3 ∨ c = o + 5) I0 I_39 := hf.set (by first | rfl | omega | (dsimp only; omega)) e_40
        have t_43 : (I_39 o 6).toInt = (I o 6).toInt := by rw [← e_40, q_u_ne (by omega)]
        have k_44 : TokX I_39 o p1.toNatClampNeg := hi5.put3 e_40 (by first | rfl | rw [hi3])
        have n_45 : (I_39 (o + 3) p1.toNatClampNeg).toInt = (5 : Int32).toInt := by rw [← hi3]; rw [← e_40, q_u_at]
        refine ⟨tIn (by omega) (by omega), fun L_46 e_47 => ?_⟩
        replace hl := hl.set (by first | rfl | omega | (dsimp only; omega)) e_47
        replace hg := gt_let (y := L_46) e_47 hg
        have l_48 : (0 : Int32).toInt = 0 := rfl
        exact yTape_cutWord_72g (I0 := I0) (L0 := L0) (p1 := p1) (p2 := p2) hok hw ra hq0 hq1 hq2 hp  20000 hR_41 hf_42 (by first | omega | (intro h; omega) | exact Or.inl rfl | exact Or.inr rfl) (by first | omega | (intro h; omega) | exact Or.inl rfl | exact Or.inr rfl) (by first | omega | (intro h; omega) | exact Or.inl rfl | exact Or.inr rfl) (by first | rfl | exact hi3) (by first | omega | (intro h; omega) | exact Or.inl rfl | exact Or.inr rfl) (by first | omega | (intro h; omega) | exact Or.inl rfl | exact Or.inr rfl) k_44 hl hg (by omega)
    · have d_49 := iNle c_20
      replace hg := gt_neg (by first | exact d_49 | omega) hg
      refine y_Tape_byteAtg hok hw ra hR (fun r_50 u_51 gn_52 => ⟨r_50, I, L, rfl, rfl, ?_⟩)
      replace hg := gt_let gn_52 hg
      clear gn_52
      refine y_Tape_isLetterg hok hR (fun r_53 u_54 u_55 gn_56 => ⟨r_53, I, L, rfl, rfl, ?_⟩)
      replace hg := gt_let gn_56 hg
      clear gn_56
      have b_57 : 0 ≤ r_53.toInt ∧ r_53.toInt ≤ 1 := u_54.rg
      have l_58 : (0 : Int32).toInt = 0 := rfl
      refine ⟨fun c_59 => ?_, fun c_59 => ?_⟩
      · have d_60 := iEq c_59
        replace hg := gt_pos (by first | exact d_60 | omega) hg
        unfold fTape_cutWord_42
        replace hg := (eTape_cutWord_42).symm.trans hg
        have a_61 : (x3 - x2).toInt = x3.toInt - x2.toInt := tSub (by omega) (by omega)
        replace hg := gt_let (y := ((x3 - x2) : Int32).toInt) (by omega) hg
        have l_62 : (8 : Int32).toInt = 8 := rfl
        refine ⟨fun c_63 => ?_, fun c_63 => ?_⟩
        · have d_64 := iLe c_63
          replace hg := gt_pos (by first | exact d_64 | omega) hg
          unfold fTape_cutWord_60
          replace hg := (eTape_cutWord_60).symm.trans hg
          have l_65 : (1 : Int32).toInt = 1 := rfl
          refine ⟨tIn (by omega) (by omega), fun I_66 e_67 => ?_⟩
          replace hg := gt_let (y := tI I_66) (tI_q e_67) hg
          have hR_68 : RI R I_66 := hR.up ra 3 (by decide) (Or.inl rfl) e_67 (i_lo _) (i_hi _)
          have hf_69 : Fm (fun c => c = o + 3 ∨ c = o + 5) I0 I_66 := hf.set (by first | rfl | omega | (dsimp only; omega)) e_67
          have t_70 : (I_66 o 6).toInt = (I o 6).toInt := by rw [← e_67, q_u_ne (by omega)]
          have k_71 : TokX I_66 o p1.toNatClampNeg := hi5.put3 e_67 (by first | rfl | rw [hi3])
          have n_72 : (I_66 (o + 3) p1.toNatClampNeg).toInt = (1 : Int32).toInt := by rw [← hi3]; rw [← e_67, q_u_at]
          refine ⟨tIn (by omega) (by omega), fun L_73 e_74 => ?_⟩
          replace hl := hl.set (by first | rfl | omega | (dsimp only; omega)) e_74
          replace hg := gt_let (y := L_73) e_74 hg
          exact yTape_cutWord_72g (I0 := I0) (L0 := L0) (p1 := p1) (p2 := p2) hok hw ra hq0 hq1 hq2 hp  20000 hR_68 hf_69 (by first | omega | (intro h; omega) | exact Or.inl rfl | exact Or.inr rfl) (by first | omega | (intro h; omega) | exact Or.inl rfl | exact Or.inr rfl) (by first | omega | (intro h; omega) | exact Or.inl rfl | exact Or.inr rfl) (by first | rfl | exact hi3) (by first | omega | (intro h; omega) | exact Or.inl rfl | exact Or.inr rfl) (by first | omega | (intro h; omega) | exact Or.inl rfl | exact Or.inr rfl) k_71 hl hg (by omega)
        · have d_75 := iNle c_63
          replace hg := gt_neg (by first | exact d_75 | omega) hg
          unfold fTape_cutWord_60
          replace hg := (eTape_cutWord_60).symm.trans hg
          have l_76 : (5 : Int32).toInt = 5 := rfl
          refine ⟨tIn (by omega) (by omega), fun I_77 e_78 => ?_⟩
          replace hg := gt_let (y := tI I_77) (tI_q e_78) hg
          have hR_79 : RI R I_77 := hR.up ra 3 (by decide) (Or.inl rfl) e_78 (i_lo _) (i_hi _)
          have hf_80 : Fm (fun c => c = o + 3 ∨ c = o + 5) I0 I_77 := hf.set (by first | rfl | omega | (dsimp only; omega)) e_78
          have t_81 : (I_77 o 6).toInt = (I o 6).toInt := by rw [← e_78, q_u_ne (by omega)]
          have k_82 : TokX I_77 o p1.toNatClampNeg := hi5.put3 e_78 (by first | rfl | rw [hi3])
          have n_83 : (I_77 (o + 3) p1.toNatClampNeg).toInt = (5 : Int32).toInt := by rw [← hi3]; rw [← e_78, q_u_at]
          refine ⟨tIn (by omega) (by omega), fun L_84 e_85 => ?_⟩
          replace hl := hl.set (by first | rfl | omega | (dsimp only; omega)) e_85
          replace hg := gt_let (y := L_84) e_85 hg
          exact yTape_cutWord_72g (I0 := I0) (L0 := L0) (p1 := p1) (p2 := p2) hok hw ra hq0 hq1 hq2 hp  20000 hR_79 hf_80 (by first | omega | (intro h; omega) | exact Or.inl rfl | exact Or.inr rfl) (by first | omega | (intro h; omega) | exact Or.inl rfl | exact Or.inr rfl) (by first | omega | (intro h; omega) | exact Or.inl rfl | exact Or.inr rfl) (by first | rfl | exact hi3) (by first | omega | (intro h; omega) | exact Or.inl rfl | exact Or.inr rfl) (by first | omega | (intro h; omega) | exact Or.inl rfl | exact Or.inr rfl) k_82 hl hg (by omega)
      · have d_86 := iNe c_59
        replace hg := gt_neg (by first | exact d_86 | omega) hg
        refine y_Tape_byteAtg hok hw ra hR (fun r_87 u_88 gn_89 => ⟨r_87, I, L, rfl, rfl, ?_⟩)
        replace hg := gt_let gn_89 hg
        clear gn_89
        have j_90 := iEq (u_88.trans u_51.symm)
        refine y_Tape_withLetterg hok hR (fun r_91 gn_92 => ⟨r_91, I, L, rfl, rfl, ?_⟩)
        replace hg := gt_let gn_92 hg
        clear gn_92
        have a_94 : (x3 + Int32.ofInt 1).toInt = x3.toInt + (1) := tIc (by omega) (by omega) (by decide) (by decide)
        generalize ez_93 : (x3 + Int32.ofInt 1) = z_93 at a_94 ⊢
        replace hg := gt_let (y := z_93.toInt) (by omega) hg
        exact ih hR hf (by first | omega | (intro h; omega) | exact Or.inl rfl | exact Or.inr rfl) (by first | omega | (intro h; omega) | exact Or.inl rfl | exact Or.inr rfl) (by first | omega | (intro h; omega) | exact Or.inl rfl | exact Or.inr rfl) (by first | rfl | exact hi3) (by first | omega | (intro h; omega) | exact Or.inl rfl | exact Or.inr rfl) hi5 hl hg (by omega)
set_option maxHeartbeats 4000000 in
set_option maxRecDepth 20000 in
theorem y_Tape_cutWordg {D : va_G} {cA : FieldType → ClassId} {b : Nat} {E : State → Prop} {R : qRg} {o n : Nat} {sh : Nat → qC} {Rf : Nat → Nat → Option Nat} {I0 : Nat → Nat → Int32} {L0 : Nat → Nat → Int64} {post : Option Value → qS → Prop} {p1 : Int32} {p2 : Int32} (hok : q_ok (qGG D cA b E)) (hw : WfTape (qGG D cA b E) n sh Rf o) (ra : RATape R o) (hq0 : (0 : Int) ≤ p1.toInt ∧ p1.toInt ≤ 1600) (hq1 : (0 : Int) ≤ p2.toInt ∧ p2.toInt ≤ 1600) (hq2 : TokX I0 o p1.toNatClampNeg) (hR : RI R I0) (hp : ∀ (r : Int32) (I' : Nat → Nat → Int32) (L' : Nat → Nat → Int64), RI R I' → Fm (fun c => c = o + 3 ∨ c = o + 5) I0 I' → (((0 : Int) ≤ r.toInt ∧ r.toInt ≤ 1603)) → (TokOK I' o) → (gTape_cutWord_0 o (tI I0) L0 (p1).toInt (p2).toInt = (r.toInt, tI I', L')) → (FmL (fun c => c = (o + 6)) L0 L') → post (some (.int r)) (n, sh, Rf, I', L')) : Ev (qGG D cA b E) mTape_cutWord 1 (0, 0) 0 (lv_args 0 [.ref o, .int p1, .int p2]) [] (n, sh, Rf, I0, L0) post := by
  have hf : Fm (fun c => c = o + 3 ∨ c = o + 5) I0 I0 := Fm.rf
  refine sTape_cutWord_0 o n sh Rf I0 L0 post p1 p2 hok hw ?_
  unfold fTape_cutWord_0
  have hl : FmL (fun c => c = (o + 6)) L0 L0 := FmL.rf
  have hg : gTape_cutWord_0 o (tI I0) L0 (p1).toInt (p2).toInt = gTape_cutWord_0 o (tI I0) L0 (p1).toInt (p2).toInt := rfl
  replace hg := (eTape_cutWord_0).symm.trans hg
  have l_95 : (0 : Int32).toInt = 0 := rfl
  exact yTape_cutWord_5g (I0 := I0) (L0 := L0) (p1 := p1) (p2 := p2) hok hw ra hq0 hq1 hq2 hp  20000 hR hf (by first | omega | (intro h; omega) | exact Or.inl rfl | exact Or.inr rfl) (by first | omega | (intro h; omega) | exact Or.inl rfl | exact Or.inr rfl) (by first | omega | (intro h; omega) | exact Or.inl rfl | exact Or.inr rfl) (by first | rfl | exact hi3) (by first | omega | (intro h; omega) | exact Or.inl rfl | exact Or.inr rfl) hq2 hl hg (by omega)
