/-! The mirror of REFORM's reading, reference: r3a. By program (rrun.py). -/
noncomputable def gModel_rankHere_91 (o : Nat) (J : gJ) (L : gL) : Int := 6
theorem eModel_rankHere_91 {o : Nat} {J : gJ} {L : gL} : gModel_rankHere_91 o J L  = 6 := rfl
noncomputable def gModel_rankHere_0 (o : Nat) (J : gJ) (L : gL) : Int := gLet (gModel_isWord_0 o J L 6385252) (fun (r_1 : Int) => (if r_1 = 0 then gLet (gModel_isWord_0 o J L 28530) (fun (r_2 : Int) => (if r_2 = 0 then gLet (gModel_is_0 o J L 60) (fun (r_3 : Int) => (if r_3 = 0 then gLet (gModel_is_0 o J L 62) (fun (r_4 : Int) => (if r_4 = 0 then gLet (gModel_is_0 o J L 61) (fun (r_5 : Int) => (if r_5 = 0 then gLet (gModel_is_0 o J L 43) (fun (r_6 : Int) => (if r_6 = 0 then gLet (gModel_is_0 o J L 45) (fun (r_7 : Int) => (if r_7 = 0 then gLet (gModel_is_0 o J L 42) (fun (r_8 : Int) => (if r_8 = 0 then gLet (gModel_is_0 o J L 47) (fun (r_9 : Int) => (if r_9 = 0 then 0 else (gModel_rankHere_91 o J L ))) else (gModel_rankHere_91 o J L ))) else 5)) else 5)) else 4)) else 4)) else 4)) else 1)) else 2))
theorem eModel_rankHere_0 {o : Nat} {J : gJ} {L : gL} : gModel_rankHere_0 o J L  = gLet (gModel_isWord_0 o J L 6385252) (fun (r_1 : Int) => (if r_1 = 0 then gLet (gModel_isWord_0 o J L 28530) (fun (r_2 : Int) => (if r_2 = 0 then gLet (gModel_is_0 o J L 60) (fun (r_3 : Int) => (if r_3 = 0 then gLet (gModel_is_0 o J L 62) (fun (r_4 : Int) => (if r_4 = 0 then gLet (gModel_is_0 o J L 61) (fun (r_5 : Int) => (if r_5 = 0 then gLet (gModel_is_0 o J L 43) (fun (r_6 : Int) => (if r_6 = 0 then gLet (gModel_is_0 o J L 45) (fun (r_7 : Int) => (if r_7 = 0 then gLet (gModel_is_0 o J L 42) (fun (r_8 : Int) => (if r_8 = 0 then gLet (gModel_is_0 o J L 47) (fun (r_9 : Int) => (if r_9 = 0 then 0 else (gModel_rankHere_91 o J L ))) else (gModel_rankHere_91 o J L ))) else 5)) else 5)) else 4)) else 4)) else 4)) else 1)) else 2)) := rfl
set_option maxHeartbeats 4000000 in
set_option maxRecDepth 20000 in
theorem y_Model_rankHereg {D : va_G} {cA : FieldType → ClassId} {b : Nat} {E : State → Prop} {R : qRg} {o n : Nat} {sh : Nat → qC} {Rf : Nat → Nat → Option Nat} {I0 : Nat → Nat → Int32} {L0 : Nat → Nat → Int64} {post : Option Value → qS → Prop} (hok : q_ok (qGG D cA b E)) (hw : WfModel (qGG D cA b E) n sh Rf o) (ra : RAModel R o) (hR : RI R I0) (hp : ∀ (r : Int32) , (((0 : Int) ≤ r.toInt ∧ r.toInt ≤ 6)) → (r.toInt ≠ 3) → (Im (r.toInt ≠ 0) ((I0 o 8).toInt ≠ 0)) → (Im (4 ≤ r.toInt) (Bn (sgF (I0 (o + 2)) (I0 o 3) (I0 o 6)).toInt)) → (gModel_rankHere_0 o (tI I0) L0 = r.toInt) → post (some (.int r)) (n, sh, Rf, I0, L0)) : Ev (qGG D cA b E) mModel_rankHere 2 (0, 0) 0 (lv_args 0 [.ref o]) [] (n, sh, Rf, I0, L0) post := by
  refine sModel_rankHere_0 o n sh Rf I0 L0 post  hok hw ?_
  unfold fModel_rankHere_0
  have hg : gModel_rankHere_0 o (tI I0) L0 = gModel_rankHere_0 o (tI I0) L0 := rfl
  replace hg := (eModel_rankHere_0).symm.trans hg
  have l_1 : (6385252 : Int32).toInt = 6385252 := rfl
  refine y_Model_isWordg hok hw ra hR (fun r_2 u_3 u_4 gn_5 => ⟨r_2, I0, L0, rfl, rfl, ?_⟩)
  replace hg := gt_let gn_5 hg
  clear gn_5
  have b_6 : 0 ≤ r_2.toInt ∧ r_2.toInt ≤ 1 := u_3.rg
  have l_7 : (0 : Int32).toInt = 0 := rfl
  refine ⟨fun c_8 => ?_, fun c_8 => ?_⟩
  · have d_9 := iEq c_8
    replace hg := gt_pos (by first | exact d_9 | omega) hg
    have l_10 : (28530 : Int32).toInt = 28530 := rfl
    refine y_Model_isWordg hok hw ra hR (fun r_11 u_12 u_13 gn_14 => ⟨r_11, I0, L0, rfl, rfl, ?_⟩)
    replace hg := gt_let gn_14 hg
    clear gn_14
    have b_15 : 0 ≤ r_11.toInt ∧ r_11.toInt ≤ 1 := u_12.rg
    refine ⟨fun c_16 => ?_, fun c_16 => ?_⟩
    · have d_17 := iEq c_16
      replace hg := gt_pos (by first | exact d_17 | omega) hg
      have l_18 : (60 : Int32).toInt = 60 := rfl
      refine y_Model_isg hok hw ra hR (fun r_19 u_20 u_21 u_22 gn_23 => ⟨r_19, I0, L0, rfl, rfl, ?_⟩)
      replace hg := gt_let gn_23 hg
      clear gn_23
      have b_24 : 0 ≤ r_19.toInt ∧ r_19.toInt ≤ 1 := u_20.rg
      refine ⟨fun c_25 => ?_, fun c_25 => ?_⟩
      · have d_26 := iNe c_25
        have i_27 := u_21 (by omega)
        have i_28 := u_22 (by omega)
        replace hg := gt_neg (by first | exact d_26 | omega) hg
        have l_29 : (4 : Int32).toInt = 4 := rfl
        exact (hp _ (by first | omega | (intro h; omega) | exact Or.inl rfl | exact Or.inr rfl) (by first | omega | (intro h; omega) | exact Or.inl rfl | exact Or.inr rfl) (by clear hg; intro h; omega) (by clear hg; first | (intro h; exfalso; omega) | (intro h; have q := u_22 (by omega); rw [q]; unfold Bn isT; decide)) hg.symm)
      · have d_30 := iEq c_25
        replace hg := gt_pos (by first | exact d_30 | omega) hg
        have l_31 : (62 : Int32).toInt = 62 := rfl
        refine y_Model_isg hok hw ra hR (fun r_32 u_33 u_34 u_35 gn_36 => ⟨r_32, I0, L0, rfl, rfl, ?_⟩)
        replace hg := gt_let gn_36 hg
        clear gn_36
        have b_37 : 0 ≤ r_32.toInt ∧ r_32.toInt ≤ 1 := u_33.rg
        refine ⟨fun c_38 => ?_, fun c_38 => ?_⟩
        · have d_39 := iNe c_38
          have i_40 := u_34 (by omega)
          have i_41 := u_35 (by omega)
          replace hg := gt_neg (by first | exact d_39 | omega) hg
          have l_42 : (4 : Int32).toInt = 4 := rfl
          exact (hp _ (by first | omega | (intro h; omega) | exact Or.inl rfl | exact Or.inr rfl) (by first | omega | (intro h; omega) | exact Or.inl rfl | exact Or.inr rfl) (by clear hg; intro h; omega) (by clear hg; first | (intro h; exfalso; omega) | (intro h; have q := u_35 (by omega); rw [q]; unfold Bn isT; decide)) hg.symm)
        · have d_43 := iEq c_38
          replace hg := gt_pos (by first | exact d_43 | omega) hg
          have l_44 : (61 : Int32).toInt = 61 := rfl
          refine y_Model_isg hok hw ra hR (fun r_45 u_46 u_47 u_48 gn_49 => ⟨r_45, I0, L0, rfl, rfl, ?_⟩)
          replace hg := gt_let gn_49 hg
          clear gn_49
          have b_50 : 0 ≤ r_45.toInt ∧ r_45.toInt ≤ 1 := u_46.rg
          refine ⟨fun c_51 => ?_, fun c_51 => ?_⟩
          · have d_52 := iEq c_51
            replace hg := gt_pos (by first | exact d_52 | omega) hg
            have l_53 : (43 : Int32).toInt = 43 := rfl
            refine y_Model_isg hok hw ra hR (fun r_54 u_55 u_56 u_57 gn_58 => ⟨r_54, I0, L0, rfl, rfl, ?_⟩)
            replace hg := gt_let gn_58 hg
            clear gn_58
            have b_59 : 0 ≤ r_54.toInt ∧ r_54.toInt ≤ 1 := u_55.rg
            refine ⟨fun c_60 => ?_, fun c_60 => ?_⟩
            · have d_61 := iNe c_60
              have i_62 := u_56 (by omega)
              have i_63 := u_57 (by omega)
              replace hg := gt_neg (by first | exact d_61 | omega) hg
              have l_64 : (5 : Int32).toInt = 5 := rfl
              exact (hp _ (by first | omega | (intro h; omega) | exact Or.inl rfl | exact Or.inr rfl) (by first | omega | (intro h; omega) | exact Or.inl rfl | exact Or.inr rfl) (by clear hg; intro h; omega) (by clear hg; first | (intro h; exfalso; omega) | (intro h; have q := u_57 (by omega); rw [q]; unfold Bn isT; decide)) hg.symm)
            · have d_65 := iEq c_60
              replace hg := gt_pos (by first | exact d_65 | omega) hg
              have l_66 : (45 : Int32).toInt = 45 := rfl
              refine y_Model_isg hok hw ra hR (fun r_67 u_68 u_69 u_70 gn_71 => ⟨r_67, I0, L0, rfl, rfl, ?_⟩)
              replace hg := gt_let gn_71 hg
              clear gn_71
              have b_72 : 0 ≤ r_67.toInt ∧ r_67.toInt ≤ 1 := u_68.rg
              refine ⟨fun c_73 => ?_, fun c_73 => ?_⟩
              · have d_74 := iEq c_73
                replace hg := gt_pos (by first | exact d_74 | omega) hg
                have l_75 : (42 : Int32).toInt = 42 := rfl
                refine y_Model_isg hok hw ra hR (fun r_76 u_77 u_78 u_79 gn_80 => ⟨r_76, I0, L0, rfl, rfl, ?_⟩)
                replace hg := gt_let gn_80 hg
                clear gn_80
                have b_81 : 0 ≤ r_76.toInt ∧ r_76.toInt ≤ 1 := u_77.rg
                refine ⟨fun c_82 => ?_, fun c_82 => ?_⟩
                · have d_83 := iNe c_82
                  have i_84 := u_78 (by omega)
                  have i_85 := u_79 (by omega)
                  replace hg := gt_neg (by first | exact d_83 | omega) hg
                  unfold fModel_rankHere_91
                  replace hg := (eModel_rankHere_91).symm.trans hg
                  have l_86 : (6 : Int32).toInt = 6 := rfl
                  exact (hp _ (by first | omega | (intro h; omega) | exact Or.inl rfl | exact Or.inr rfl) (by first | omega | (intro h; omega) | exact Or.inl rfl | exact Or.inr rfl) (by clear hg; intro h; omega) (by clear hg; first | (intro h; exfalso; omega) | (intro h; have q := u_79 (by omega); rw [q]; unfold Bn isT; decide)) hg.symm)
                · have d_87 := iEq c_82
                  replace hg := gt_pos (by first | exact d_87 | omega) hg
                  have l_88 : (47 : Int32).toInt = 47 := rfl
                  refine y_Model_isg hok hw ra hR (fun r_89 u_90 u_91 u_92 gn_93 => ⟨r_89, I0, L0, rfl, rfl, ?_⟩)
                  replace hg := gt_let gn_93 hg
                  clear gn_93
                  have b_94 : 0 ≤ r_89.toInt ∧ r_89.toInt ≤ 1 := u_90.rg
                  refine ⟨fun c_95 => ?_, fun c_95 => ?_⟩
                  · have d_96 := iEq c_95
                    replace hg := gt_pos (by first | exact d_96 | omega) hg
                    exact (hp _ (by first | omega | (intro h; omega) | exact Or.inl rfl | exact Or.inr rfl) (by first | omega | (intro h; omega) | exact Or.inl rfl | exact Or.inr rfl) (by clear hg; intro h; omega) (by clear hg; first | (intro h; exfalso; omega) | (intro h; have q := u_92 (by omega); rw [q]; unfold Bn isT; decide)) hg.symm)
                  · have d_97 := iNe c_95
                    have i_98 := u_91 (by omega)
                    have i_99 := u_92 (by omega)
                    replace hg := gt_neg (by first | exact d_97 | omega) hg
                    unfold fModel_rankHere_91
                    replace hg := (eModel_rankHere_91).symm.trans hg
                    have l_100 : (6 : Int32).toInt = 6 := rfl
                    exact (hp _ (by first | omega | (intro h; omega) | exact Or.inl rfl | exact Or.inr rfl) (by first | omega | (intro h; omega) | exact Or.inl rfl | exact Or.inr rfl) (by clear hg; intro h; omega) (by clear hg; first | (intro h; exfalso; omega) | (intro h; have q := u_92 (by omega); rw [q]; unfold Bn isT; decide)) hg.symm)
              · have d_101 := iNe c_73
                have i_102 := u_69 (by omega)
                have i_103 := u_70 (by omega)
                replace hg := gt_neg (by first | exact d_101 | omega) hg
                have l_104 : (5 : Int32).toInt = 5 := rfl
                exact (hp _ (by first | omega | (intro h; omega) | exact Or.inl rfl | exact Or.inr rfl) (by first | omega | (intro h; omega) | exact Or.inl rfl | exact Or.inr rfl) (by clear hg; intro h; omega) (by clear hg; first | (intro h; exfalso; omega) | (intro h; have q := u_70 (by omega); rw [q]; unfold Bn isT; decide)) hg.symm)
          · have d_105 := iNe c_51
            have i_106 := u_47 (by omega)
            have i_107 := u_48 (by omega)
            replace hg := gt_neg (by first | exact d_105 | omega) hg
            have l_108 : (4 : Int32).toInt = 4 := rfl
            exact (hp _ (by first | omega | (intro h; omega) | exact Or.inl rfl | exact Or.inr rfl) (by first | omega | (intro h; omega) | exact Or.inl rfl | exact Or.inr rfl) (by clear hg; intro h; omega) (by clear hg; first | (intro h; exfalso; omega) | (intro h; have q := u_48 (by omega); rw [q]; unfold Bn isT; decide)) hg.symm)
    · have d_109 := iNe c_16
      have i_110 := u_13 (by omega)
      replace hg := gt_neg (by first | exact d_109 | omega) hg
      have l_111 : (1 : Int32).toInt = 1 := rfl
      exact (hp _ (by first | omega | (intro h; omega) | exact Or.inl rfl | exact Or.inr rfl) (by first | omega | (intro h; omega) | exact Or.inl rfl | exact Or.inr rfl) (by clear hg; intro h; omega) (by clear hg; first | (intro h; exfalso; omega) | (intro h; have q := False.elim (by omega); rw [q]; unfold Bn isT; decide)) hg.symm)
  · have d_112 := iNe c_8
    have i_113 := u_4 (by omega)
    replace hg := gt_neg (by first | exact d_112 | omega) hg
    have l_114 : (2 : Int32).toInt = 2 := rfl
    exact (hp _ (by first | omega | (intro h; omega) | exact Or.inl rfl | exact Or.inr rfl) (by first | omega | (intro h; omega) | exact Or.inl rfl | exact Or.inr rfl) (by clear hg; intro h; omega) (by clear hg; first | (intro h; exfalso; omega) | (intro h; have q := False.elim (by omega); rw [q]; unfold Bn isT; decide)) hg.symm)
noncomputable def gModel_isCompared_28 (K7 : gJ → gL → Int → (Int)) (o : Nat) (J : gJ) (L : gL) (x1 : Int) : Int := gLet (x1 + (-1)) (fun (v_1 : Int) => (K7 J L v_1))
theorem eModel_isCompared_28 {K7 : gJ → gL → Int → (Int)} {o : Nat} {J : gJ} {L : gL} {x1 : Int} : gModel_isCompared_28 K7 o J L x1 = gLet (x1 + (-1)) (fun (v_1 : Int) => (K7 J L v_1)) := rfl
noncomputable def gModel_isCompared_7 (k : Nat) (o : Nat) (J : gJ) (L : gL) (x1 : Int) : Int := match k with
  | 0 => default
  | k + 1 => gLet (J (o + 32) (Int.toNat x1)) (fun (v_1 : Int) => (if v_1 = 5 then (gModel_isCompared_28 (gModel_isCompared_7 k o) o J L x1) else gLet (J (o + 32) (Int.toNat x1)) (fun (v_2 : Int) => (if v_2 = 6 then (gModel_isCompared_28 (gModel_isCompared_7 k o) o J L x1) else gLet (J (o + 32) (Int.toNat x1)) (fun (v_3 : Int) => (if v_3 = 4 then 1 else 0))))))
theorem eModel_isCompared_7 {k : Nat} {o : Nat} {J : gJ} {L : gL} {x1 : Int} : gModel_isCompared_7 (k + 1) o J L x1 = gLet (J (o + 32) (Int.toNat x1)) (fun (v_1 : Int) => (if v_1 = 5 then (gModel_isCompared_28 (gModel_isCompared_7 k o) o J L x1) else gLet (J (o + 32) (Int.toNat x1)) (fun (v_2 : Int) => (if v_2 = 6 then (gModel_isCompared_28 (gModel_isCompared_7 k o) o J L x1) else gLet (J (o + 32) (Int.toNat x1)) (fun (v_3 : Int) => (if v_3 = 4 then 1 else 0)))))) := rfl
noncomputable def gModel_isCompared_0 (o : Nat) (J : gJ) (L : gL) : Int := gLet (J o 48) (fun (v_1 : Int) => gLet (v_1 - 1) (fun (v_2 : Int) => (gModel_isCompared_7 20000 o J L v_2)))
theorem eModel_isCompared_0 {o : Nat} {J : gJ} {L : gL} : gModel_isCompared_0 o J L  = gLet (J o 48) (fun (v_1 : Int) => gLet (v_1 - 1) (fun (v_2 : Int) => (gModel_isCompared_7 20000 o J L v_2))) := rfl
set_option maxHeartbeats 4000000 in
set_option maxRecDepth 20000 in
theorem yModel_isCompared_7g {D : va_G} {cA : FieldType → ClassId} {b : Nat} {E : State → Prop} {R : qRg} {o n : Nat} {sh : Nat → qC} {Rf : Nat → Nat → Option Nat} {I0 : Nat → Nat → Int32} {L0 : Nat → Nat → Int64} {post : Option Value → qS → Prop} (hok : q_ok (qGG D cA b E)) (hw : WfModel (qGG D cA b E) n sh Rf o) (ra : RAModel R o) (hq0 : (I0 (o + 32) 0).toInt = 8) (hq1 : 1 ≤ (I0 o 48).toInt) (hR : RI R I0) (hp : ∀ (r : Int32) , (Bz r) → (gModel_isCompared_0 o (tI I0) L0 = r.toInt) → post (some (.int r)) (n, sh, Rf, I0, L0)) : ∀ (k : Nat) {x1 : Int32} , ((0 : Int) ≤ x1.toInt ∧ x1.toInt ≤ 79) → (gModel_isCompared_7 k o (tI I0) L0 (x1).toInt = gModel_isCompared_0 o (tI I0) L0) → x1.toInt.toNat < k → Ev (qGG D cA b E) mModel_isCompared 0 (0, 0) 7 [(0, .ref o), (1, .int x1)] [] (n, sh, Rf, I0, L0) post := by
  intro k
  induction k with
  | zero =>
    intro x1 hi0 hg hm
    exact absurd hm (Nat.not_lt_zero _)
  | succ k ih =>
    intro x1 hi0 hg hm
    have g_1 : (0 : Int) ≤ (I0 o 48).toInt ∧ (I0 o 48).toInt ≤ 80 := hR.at0 ra 48 (by decide)
    refine sModel_isCompared_7 o n sh Rf I0 L0 post x1 hok hw ?_
    unfold fModel_isCompared_7
    replace hg := (eModel_isCompared_7).symm.trans hg
    refine ⟨tIn (by omega) (by omega), ?_⟩
    have g_2 : (0 : Int) ≤ (I0 (o + 32) (x1 : Int32).toNatClampNeg).toInt ∧ (I0 (o + 32) (x1 : Int32).toNatClampNeg).toInt ≤ 8 := hR.at ra 32 _ (by decide)
    replace hg := gt_let (y := (I0 (o + 32) (x1 : Int32).toNatClampNeg).toInt) rfl hg
    have l_3 : (5 : Int32).toInt = 5 := rfl
    refine ⟨fun c_4 => ?_, fun c_4 => ?_⟩
    · have d_5 := iEq c_4
      replace hg := gt_pos (by first | exact d_5 | omega) hg
      unfold fModel_isCompared_28
      replace hg := (eModel_isCompared_28).symm.trans hg
      have nz : x1.toInt ≠ 0 := fun h => by have cl := tCl (x := x1) (by omega); have e0 : x1.toNatClampNeg = 0 := (by omega); have z := hq0; rw [← e0] at z; omega
      have a_7 : (x1 + Int32.ofInt (-1)).toInt = x1.toInt + (-1) := tIc (by omega) (by omega) (by decide) (by decide)
      generalize ez_6 : (x1 + Int32.ofInt (-1)) = z_6 at a_7 ⊢
      replace hg := gt_let (y := z_6.toInt) (by omega) hg
      exact ih (by first | omega | (intro h; omega) | exact Or.inl rfl | exact Or.inr rfl) hg (by omega)
    · have d_8 := iNe c_4
      replace hg := gt_neg (by first | exact d_8 | omega) hg
      refine ⟨tIn (by omega) (by omega), ?_⟩
      have g_9 : (0 : Int) ≤ (I0 (o + 32) (x1 : Int32).toNatClampNeg).toInt ∧ (I0 (o + 32) (x1 : Int32).toNatClampNeg).toInt ≤ 8 := hR.at ra 32 _ (by decide)
      replace hg := gt_let (y := (I0 (o + 32) (x1 : Int32).toNatClampNeg).toInt) rfl hg
      have l_10 : (6 : Int32).toInt = 6 := rfl
      refine ⟨fun c_11 => ?_, fun c_11 => ?_⟩
      · have d_12 := iNe c_11
        replace hg := gt_neg (by first | exact d_12 | omega) hg
        refine ⟨tIn (by omega) (by omega), ?_⟩
        have g_13 : (0 : Int) ≤ (I0 (o + 32) (x1 : Int32).toNatClampNeg).toInt ∧ (I0 (o + 32) (x1 : Int32).toNatClampNeg).toInt ≤ 8 := hR.at ra 32 _ (by decide)
        replace hg := gt_let (y := (I0 (o + 32) (x1 : Int32).toNatClampNeg).toInt) rfl hg
        have l_14 : (4 : Int32).toInt = 4 := rfl
        refine ⟨fun c_15 => ?_, fun c_15 => ?_⟩
        · have d_16 := iNe c_15
          replace hg := gt_neg (by first | exact d_16 | omega) hg
          have l_17 : (0 : Int32).toInt = 0 := rfl
          exact (hp _ (Or.inl rfl) hg.symm)
        · have d_18 := iEq c_15
          replace hg := gt_pos (by first | exact d_18 | omega) hg
          have l_19 : (1 : Int32).toInt = 1 := rfl
          exact (hp _ (Or.inr rfl) hg.symm)
      · have d_20 := iEq c_11
        replace hg := gt_pos (by first | exact d_20 | omega) hg
        unfold fModel_isCompared_28
        replace hg := (eModel_isCompared_28).symm.trans hg
        have nz : x1.toInt ≠ 0 := fun h => by have cl := tCl (x := x1) (by omega); have e0 : x1.toNatClampNeg = 0 := (by omega); have z := hq0; rw [← e0] at z; omega
        have a_22 : (x1 + Int32.ofInt (-1)).toInt = x1.toInt + (-1) := tIc (by omega) (by omega) (by decide) (by decide)
        generalize ez_21 : (x1 + Int32.ofInt (-1)) = z_21 at a_22 ⊢
        replace hg := gt_let (y := z_21.toInt) (by omega) hg
        exact ih (by first | omega | (intro h; omega) | exact Or.inl rfl | exact Or.inr rfl) hg (by omega)
set_option maxHeartbeats 4000000 in
set_option maxRecDepth 20000 in
theorem y_Model_isComparedg {D : va_G} {cA : FieldType → ClassId} {b : Nat} {E : State → Prop} {R : qRg} {o n : Nat} {sh : Nat → qC} {Rf : Nat → Nat → Option Nat} {I0 : Nat → Nat → Int32} {L0 : Nat → Nat → Int64} {post : Option Value → qS → Prop} (hok : q_ok (qGG D cA b E)) (hw : WfModel (qGG D cA b E) n sh Rf o) (ra : RAModel R o) (hq0 : (I0 (o + 32) 0).toInt = 8) (hq1 : 1 ≤ (I0 o 48).toInt) (hR : RI R I0) (hp : ∀ (r : Int32) , (Bz r) → (gModel_isCompared_0 o (tI I0) L0 = r.toInt) → post (some (.int r)) (n, sh, Rf, I0, L0)) : Ev (qGG D cA b E) mModel_isCompared 0 (0, 0) 0 (lv_args 0 [.ref o]) [] (n, sh, Rf, I0, L0) post := by
  have g_23 : (0 : Int) ≤ (I0 o 48).toInt ∧ (I0 o 48).toInt ≤ 80 := hR.at0 ra 48 (by decide)
  refine sModel_isCompared_0 o n sh Rf I0 L0 post  hok hw ?_
  unfold fModel_isCompared_0
  have hg : gModel_isCompared_0 o (tI I0) L0 = gModel_isCompared_0 o (tI I0) L0 := rfl
  replace hg := (eModel_isCompared_0).symm.trans hg
  have g_24 : (0 : Int) ≤ (I0 o 48).toInt ∧ (I0 o 48).toInt ≤ 80 := hR.at0 ra 48 (by decide)
  replace hg := gt_let (y := (I0 o 48).toInt) rfl hg
  have l_25 : (1 : Int32).toInt = 1 := rfl
  have a_26 : ((I0 o 48) - 1).toInt = (I0 o 48).toInt - (1 : Int32).toInt := tSub (by omega) (by omega)
  replace hg := gt_let (y := (((I0 o 48) - 1) : Int32).toInt) (by omega) hg
  exact yModel_isCompared_7g (I0 := I0) (L0 := L0) hok hw ra hq0 hq1 hR hp  20000 (by first | omega | (intro h; omega) | exact Or.inl rfl | exact Or.inr rfl) hg (by omega)
noncomputable def gModel_wordHere_210 (o : Nat) (J : gJ) (L : gL) (x1 : Int) (x2 : Int) (x3 : Int) (z0 : Int) : Int × gJ × gL := (if x3 = 0 then (x3, J, L) else (if z0 = 0 then gLet (J o 46) (fun (v_1 : Int) => (if 100 ≤ v_1 then (x3, J, L) else gLet (J o 6) (fun (v_2 : Int) => gB3 (gModel_fails_0 o J L 5 v_2) (fun r_3 J_4 L_5 => (x3, J_4, L_5))))) else (x3, J, L)))
theorem eModel_wordHere_210 {o : Nat} {J : gJ} {L : gL} {x1 : Int} {x2 : Int} {x3 : Int} {z0 : Int} : gModel_wordHere_210 o J L x1 x2 x3 z0 = (if x3 = 0 then (x3, J, L) else (if z0 = 0 then gLet (J o 46) (fun (v_1 : Int) => (if 100 ≤ v_1 then (x3, J, L) else gLet (J o 6) (fun (v_2 : Int) => gB3 (gModel_fails_0 o J L 5 v_2) (fun r_3 J_4 L_5 => (x3, J_4, L_5))))) else (x3, J, L))) := rfl
noncomputable def gModel_wordHere_205 (o : Nat) (J : gJ) (L : gL) (x1 : Int) (x2 : Int) (x3 : Int) : Int × gJ × gL := (gModel_wordHere_210 o J L x1 x2 x3 x1)
theorem eModel_wordHere_205 {o : Nat} {J : gJ} {L : gL} {x1 : Int} {x2 : Int} {x3 : Int} : gModel_wordHere_205 o J L x1 x2 x3 = (gModel_wordHere_210 o J L x1 x2 x3 x1) := rfl
noncomputable def gModel_wordHere_185 (o : Nat) (J : gJ) (L : gL) (x1 : Int) (x2 : Int) (x3 : Int) : Int × gJ × gL := (gModel_wordHere_210 o J L x1 x2 x3 1)
theorem eModel_wordHere_185 {o : Nat} {J : gJ} {L : gL} {x1 : Int} {x2 : Int} {x3 : Int} : gModel_wordHere_185 o J L x1 x2 x3 = (gModel_wordHere_210 o J L x1 x2 x3 1) := rfl
noncomputable def gModel_wordHere_170 (o : Nat) (J : gJ) (L : gL) (x1 : Int) (x2 : Int) (z0 : Int) : Int × gJ × gL := (if z0 = 68 then (if x1 = 0 then (if x2 = 0 then (gModel_wordHere_210 o J L x1 x2 z0 0) else (gModel_wordHere_185 o J L x1 x2 z0)) else (gModel_wordHere_185 o J L x1 x2 z0)) else (if z0 = 115 then (gModel_wordHere_205 o J L x1 x2 z0) else (if z0 = 110 then (gModel_wordHere_205 o J L x1 x2 z0) else (gModel_wordHere_210 o J L x1 x2 z0 x2))))
theorem eModel_wordHere_170 {o : Nat} {J : gJ} {L : gL} {x1 : Int} {x2 : Int} {z0 : Int} : gModel_wordHere_170 o J L x1 x2 z0 = (if z0 = 68 then (if x1 = 0 then (if x2 = 0 then (gModel_wordHere_210 o J L x1 x2 z0 0) else (gModel_wordHere_185 o J L x1 x2 z0)) else (gModel_wordHere_185 o J L x1 x2 z0)) else (if z0 = 115 then (gModel_wordHere_205 o J L x1 x2 z0) else (if z0 = 110 then (gModel_wordHere_205 o J L x1 x2 z0) else (gModel_wordHere_210 o J L x1 x2 z0 x2)))) := rfl
noncomputable def gModel_wordHere_78 (o : Nat) (J : gJ) (L : gL) (x1 : Int) (z0 : Int) : Int × gJ × gL := gLet (gModel_isWord_0 o J L 495874699877) (fun (r_1 : Int) => (if r_1 = 0 then gLet (gModel_isWord_0 o J L 1852138852) (fun (r_2 : Int) => (if r_2 = 0 then gLet (gModel_isWord_0 o J L 1684109683) (fun (r_3 : Int) => (if r_3 = 0 then gLet (gModel_isWord_0 o J L 6383461) (fun (r_4 : Int) => (if r_4 = 0 then gLet (gModel_isWord_0 o J L 495555144563) (fun (r_5 : Int) => (if r_5 = 0 then gLet (gModel_isWord_0 o J L 108230850603124) (fun (r_6 : Int) => (if r_6 = 0 then (gModel_wordHere_170 o J L x1 z0 0) else (gModel_wordHere_170 o J L x1 z0 98))) else (gModel_wordHere_170 o J L x1 z0 107))) else (gModel_wordHere_170 o J L x1 z0 97))) else (gModel_wordHere_170 o J L x1 z0 68))) else (gModel_wordHere_170 o J L x1 z0 110))) else (gModel_wordHere_170 o J L x1 z0 115)))
theorem eModel_wordHere_78 {o : Nat} {J : gJ} {L : gL} {x1 : Int} {z0 : Int} : gModel_wordHere_78 o J L x1 z0 = gLet (gModel_isWord_0 o J L 495874699877) (fun (r_1 : Int) => (if r_1 = 0 then gLet (gModel_isWord_0 o J L 1852138852) (fun (r_2 : Int) => (if r_2 = 0 then gLet (gModel_isWord_0 o J L 1684109683) (fun (r_3 : Int) => (if r_3 = 0 then gLet (gModel_isWord_0 o J L 6383461) (fun (r_4 : Int) => (if r_4 = 0 then gLet (gModel_isWord_0 o J L 495555144563) (fun (r_5 : Int) => (if r_5 = 0 then gLet (gModel_isWord_0 o J L 108230850603124) (fun (r_6 : Int) => (if r_6 = 0 then (gModel_wordHere_170 o J L x1 z0 0) else (gModel_wordHere_170 o J L x1 z0 98))) else (gModel_wordHere_170 o J L x1 z0 107))) else (gModel_wordHere_170 o J L x1 z0 97))) else (gModel_wordHere_170 o J L x1 z0 68))) else (gModel_wordHere_170 o J L x1 z0 110))) else (gModel_wordHere_170 o J L x1 z0 115))) := rfl
noncomputable def gModel_wordHere_64 (o : Nat) (J : gJ) (L : gL) (z0 : Int) : Int × gJ × gL := gLet (J o 49) (fun (v_1 : Int) => (if v_1 < 5 then (gModel_wordHere_78 o J L z0 0) else (gModel_wordHere_78 o J L z0 1)))
theorem eModel_wordHere_64 {o : Nat} {J : gJ} {L : gL} {z0 : Int} : gModel_wordHere_64 o J L z0 = gLet (J o 49) (fun (v_1 : Int) => (if v_1 < 5 then (gModel_wordHere_78 o J L z0 0) else (gModel_wordHere_78 o J L z0 1))) := rfl
noncomputable def gModel_wordHere_0 (o : Nat) (J : gJ) (L : gL) : Int × gJ × gL := gLet (gModel_isWord_0 o J L 2036687218) (fun (r_1 : Int) => (if r_1 = 0 then gLet (gModel_isWord_0 o J L 470020945000) (fun (r_2 : Int) => (if r_2 = 0 then gLet (gModel_isWord_0 o J L 33602627781095015) (fun (r_3 : Int) => (if r_3 = 0 then gLet (gModel_isWord_0 o J L 1835099237) (fun (r_4 : Int) => (if r_4 = 0 then gLet (J o 49) (fun (v_5 : Int) => (if v_5 = 0 then (gModel_wordHere_64 o J L 1) else (gModel_wordHere_64 o J L 0))) else (100, J, L))) else (119, J, L))) else (109, J, L))) else (121, J, L)))
theorem eModel_wordHere_0 {o : Nat} {J : gJ} {L : gL} : gModel_wordHere_0 o J L  = gLet (gModel_isWord_0 o J L 2036687218) (fun (r_1 : Int) => (if r_1 = 0 then gLet (gModel_isWord_0 o J L 470020945000) (fun (r_2 : Int) => (if r_2 = 0 then gLet (gModel_isWord_0 o J L 33602627781095015) (fun (r_3 : Int) => (if r_3 = 0 then gLet (gModel_isWord_0 o J L 1835099237) (fun (r_4 : Int) => (if r_4 = 0 then gLet (J o 49) (fun (v_5 : Int) => (if v_5 = 0 then (gModel_wordHere_64 o J L 1) else (gModel_wordHere_64 o J L 0))) else (100, J, L))) else (119, J, L))) else (109, J, L))) else (121, J, L))) := rfl
set_option maxHeartbeats 4000000 in
set_option maxRecDepth 20000 in
theorem yc_Model_wordHereg {D : va_G} {cA : FieldType → ClassId} {b : Nat} {E : State → Prop} {R : qRg} {o n : Nat} {sh : Nat → qC} {Rf : Nat → Nat → Option Nat} {I0 : Nat → Nat → Int32} {L0 : Nat → Nat → Int64} {post : Option Value → qS → Prop} (hok : q_ok (qGG D cA b E)) (hw : WfModel (qGG D cA b E) n sh Rf o) (ra : RAModel R o) (hz14 : R.2 14 = true) (hz15 : R.2 15 = true) (hZ : Fz R I0 o wModel_wordHere) (hR0 : RI R I0) (hR : RI R I0) (hp : ∀ (r : Int32) (I' : Nat → Nat → Int32) (L' : Nat → Nat → Int64), RI R I' → Fm (fun c => c = o) I0 I' → (Im (r.toInt ≠ 0) (isT r.toInt)) → (Im (r.toInt ≠ 0) ((I0 o 8).toInt = 3)) → ((I0 o 4).toInt ≤ (I' o 4).toInt) → (gModel_wordHere_0 o (tI I0) L0 = (r.toInt, tI I', L')) → post (some (.int r)) (n, sh, Rf, I', L')) : Ev (qGG D cA b E) mModel_wordHere 1 (0, 0) 0 (lv_args 0 [.ref o]) [] (n, sh, Rf, I0, L0) post := by
  have hf : Fm (fun c => c = o) I0 I0 := Fm.rf
  have g_1 : (0 : Int) ≤ (I0 o 3).toInt ∧ (I0 o 3).toInt ≤ 1600 := hR.at0 ra 3 (by decide)
  have g_2 : (0 : Int) ≤ (I0 o 4).toInt ∧ (I0 o 4).toInt ≤ 5 := hR.at0 ra 4 (by decide)
  have g_3 : (0 : Int) ≤ (I0 o 6).toInt ∧ (I0 o 6).toInt ≤ 1600 := hR.at0 ra 6 (by decide)
  have g_4 : (0 : Int) ≤ (I0 o 7).toInt ∧ (I0 o 7).toInt ≤ 1601 := hR.at0 ra 7 (by decide)
  have g_5 : (0 : Int) ≤ (I0 o 8).toInt ∧ (I0 o 8).toInt ≤ 6 := hR.at0 ra 8 (by decide)
  refine sModel_wordHere_0 o n sh Rf I0 L0 post  hok hw ?_
  unfold fModel_wordHere_0
  have hg : gModel_wordHere_0 o (tI I0) L0 = gModel_wordHere_0 o (tI I0) L0 := rfl
  replace hg := (eModel_wordHere_0).symm.trans hg
  have l_6 : (2036687218 : Int32).toInt = 2036687218 := rfl
  refine y_Model_isWordg hok hw ra hR (fun r_7 u_8 u_9 gn_10 => ⟨r_7, I0, L0, rfl, rfl, ?_⟩)
  replace hg := gt_let gn_10 hg
  clear gn_10
  have b_11 : 0 ≤ r_7.toInt ∧ r_7.toInt ≤ 1 := u_8.rg
  have l_12 : (0 : Int32).toInt = 0 := rfl
  refine ⟨fun c_13 => ?_, fun c_13 => ?_⟩
  · have d_14 := iEq c_13
    replace hg := gt_pos (by first | exact d_14 | omega) hg
    refine y_Model_isWordg hok hw ra hR (fun r_15 u_16 u_17 gn_18 => ⟨r_15, I0, L0, rfl, rfl, ?_⟩)
    replace hg := gt_let gn_18 hg
    clear gn_18
    have b_19 : 0 ≤ r_15.toInt ∧ r_15.toInt ≤ 1 := u_16.rg
    refine ⟨fun c_20 => ?_, fun c_20 => ?_⟩
    · have d_21 := iEq c_20
      replace hg := gt_pos (by first | exact d_21 | omega) hg
      refine y_Model_isWordg hok hw ra hR (fun r_22 u_23 u_24 gn_25 => ⟨r_22, I0, L0, rfl, rfl, ?_⟩)
      replace hg := gt_let gn_25 hg
      clear gn_25
      have b_26 : 0 ≤ r_22.toInt ∧ r_22.toInt ≤ 1 := u_23.rg
      refine ⟨fun c_27 => ?_, fun c_27 => ?_⟩
      · have d_28 := iEq c_27
        replace hg := gt_pos (by first | exact d_28 | omega) hg
        have l_29 : (1835099237 : Int32).toInt = 1835099237 := rfl
        refine y_Model_isWordg hok hw ra hR (fun r_30 u_31 u_32 gn_33 => ⟨r_30, I0, L0, rfl, rfl, ?_⟩)
        replace hg := gt_let gn_33 hg
        clear gn_33
        have b_34 : 0 ≤ r_30.toInt ∧ r_30.toInt ≤ 1 := u_31.rg
        refine ⟨fun c_35 => ?_, fun c_35 => ?_⟩
        · have d_36 := iEq c_35
          replace hg := gt_pos (by first | exact d_36 | omega) hg
          replace hg := gt_let (y := (I0 o 49).toInt) rfl hg
          refine ⟨fun c_37 => ?_, fun c_37 => ?_⟩
          · have d_38 := iNe c_37
            replace hg := gt_neg (by first | exact d_38 | omega) hg
            unfold fModel_wordHere_64
            replace hg := (eModel_wordHere_64).symm.trans hg
            replace hg := gt_let (y := (I0 o 49).toInt) rfl hg
            have l_39 : (5 : Int32).toInt = 5 := rfl
            refine ⟨fun c_40 => ?_, fun c_40 => ?_⟩
            · have d_41 := iLt c_40
              replace hg := gt_pos (by first | exact d_41 | omega) hg
              unfold fModel_wordHere_78
              replace hg := (eModel_wordHere_78).symm.trans hg
              refine y_Model_isWordg hok hw ra hR (fun r_42 u_43 u_44 gn_45 => ⟨r_42, I0, L0, rfl, rfl, ?_⟩)
              replace hg := gt_let gn_45 hg
              clear gn_45
              have b_46 : 0 ≤ r_42.toInt ∧ r_42.toInt ≤ 1 := u_43.rg
              refine ⟨fun c_47 => ?_, fun c_47 => ?_⟩
              · have d_48 := iEq c_47
                replace hg := gt_pos (by first | exact d_48 | omega) hg
                have l_49 : (1852138852 : Int32).toInt = 1852138852 := rfl
                refine y_Model_isWordg hok hw ra hR (fun r_50 u_51 u_52 gn_53 => ⟨r_50, I0, L0, rfl, rfl, ?_⟩)
                replace hg := gt_let gn_53 hg
                clear gn_53
                have b_54 : 0 ≤ r_50.toInt ∧ r_50.toInt ≤ 1 := u_51.rg
                refine ⟨fun c_55 => ?_, fun c_55 => ?_⟩
                · have d_56 := iEq c_55
                  replace hg := gt_pos (by first | exact d_56 | omega) hg
                  have l_57 : (1684109683 : Int32).toInt = 1684109683 := rfl
                  refine y_Model_isWordg hok hw ra hR (fun r_58 u_59 u_60 gn_61 => ⟨r_58, I0, L0, rfl, rfl, ?_⟩)
                  replace hg := gt_let gn_61 hg
                  clear gn_61
                  have b_62 : 0 ≤ r_58.toInt ∧ r_58.toInt ≤ 1 := u_59.rg
                  refine ⟨fun c_63 => ?_, fun c_63 => ?_⟩
                  · have d_64 := iEq c_63
                    replace hg := gt_pos (by first | exact d_64 | omega) hg
                    have l_65 : (6383461 : Int32).toInt = 6383461 := rfl
                    refine y_Model_isWordg hok hw ra hR (fun r_66 u_67 u_68 gn_69 => ⟨r_66, I0, L0, rfl, rfl, ?_⟩)
                    replace hg := gt_let gn_69 hg
                    clear gn_69
                    have b_70 : 0 ≤ r_66.toInt ∧ r_66.toInt ≤ 1 := u_67.rg
                    refine ⟨fun c_71 => ?_, fun c_71 => ?_⟩
                    · have d_72 := iEq c_71
                      replace hg := gt_pos (by first | exact d_72 | omega) hg
                      refine y_Model_isWordg hok hw ra hR (fun r_73 u_74 u_75 gn_76 => ⟨r_73, I0, L0, rfl, rfl, ?_⟩)
                      replace hg := gt_let gn_76 hg
                      clear gn_76
                      have b_77 : 0 ≤ r_73.toInt ∧ r_73.toInt ≤ 1 := u_74.rg
                      refine ⟨fun c_78 => ?_, fun c_78 => ?_⟩
                      · have d_79 := iEq c_78
                        replace hg := gt_pos (by first | exact d_79 | omega) hg
                        refine y_Model_isWordg hok hw ra hR (fun r_80 u_81 u_82 gn_83 => ⟨r_80, I0, L0, rfl, rfl, ?_⟩)
                        replace hg := gt_let gn_83 hg
                        clear gn_83
                        have b_84 : 0 ≤ r_80.toInt ∧ r_80.toInt ≤ 1 := u_81.rg
                        refine ⟨fun c_85 => ?_, fun c_85 => ?_⟩
                        · have d_86 := iEq c_85
                          replace hg := gt_pos (by first | exact d_86 | omega) hg
                          unfold fModel_wordHere_170
                          replace hg := (eModel_wordHere_170).symm.trans hg
                          have l_87 : (68 : Int32).toInt = 68 := rfl
                          refine ⟨fun c_88 => ?_, fun c_88 => ?_⟩
                          · have d_89 := iNe c_88
                            replace hg := gt_neg (by first | exact d_89 | omega) hg
                            have l_90 : (115 : Int32).toInt = 115 := rfl
                            refine ⟨fun c_91 => ?_, fun c_91 => ?_⟩
                            · have d_92 := iEq c_91
                              exfalso; omega
                            · have d_93 := iNe c_91
                              replace hg := gt_neg (by first | exact d_93 | omega) hg
                              have l_94 : (110 : Int32).toInt = 110 := rfl
                              refine ⟨fun c_95 => ?_, fun c_95 => ?_⟩
                              · have d_96 := iNe c_95
                                replace hg := gt_neg (by first | exact d_96 | omega) hg
                                unfold fModel_wordHere_210
                                replace hg := (eModel_wordHere_210).symm.trans hg
                                refine ⟨fun c_97 => ?_, fun c_97 => ?_⟩
                                · have d_98 := iEq c_97
                                  replace hg := gt_pos (by first | exact d_98 | omega) hg
                                  exact (hp _ _ _ hR hf (by clear hg; first | (intro h; exfalso; omega) | (intro h; unfold isT; omega)) (by clear hg; intro h; omega) (by first | omega | (intro h; omega) | exact Or.inl rfl | exact Or.inr rfl) hg.symm)
                                · have d_99 := iNe c_97
                                  exfalso; omega
                              · have d_100 := iEq c_95
                                exfalso; omega
                          · have d_101 := iEq c_88
                            exfalso; omega
                        · have d_102 := iNe c_85
                          have i_103 := u_82 (by omega)
                          replace hg := gt_neg (by first | exact d_102 | omega) hg
                          unfold fModel_wordHere_170
                          replace hg := (eModel_wordHere_170).symm.trans hg
                          have l_104 : (98 : Int32).toInt = 98 := rfl
                          have l_105 : (68 : Int32).toInt = 68 := rfl
                          refine ⟨fun c_106 => ?_, fun c_106 => ?_⟩
                          · have d_107 := iNe c_106
                            replace hg := gt_neg (by first | exact d_107 | omega) hg
                            have l_108 : (115 : Int32).toInt = 115 := rfl
                            refine ⟨fun c_109 => ?_, fun c_109 => ?_⟩
                            · have d_110 := iEq c_109
                              exfalso; omega
                            · have d_111 := iNe c_109
                              replace hg := gt_neg (by first | exact d_111 | omega) hg
                              have l_112 : (110 : Int32).toInt = 110 := rfl
                              refine ⟨fun c_113 => ?_, fun c_113 => ?_⟩
                              · have d_114 := iNe c_113
                                replace hg := gt_neg (by first | exact d_114 | omega) hg
                                unfold fModel_wordHere_210
                                replace hg := (eModel_wordHere_210).symm.trans hg
                                refine ⟨fun c_115 => ?_, fun c_115 => ?_⟩
                                · have d_116 := iEq c_115
                                  exfalso; omega
                                · have d_117 := iNe c_115
                                  replace hg := gt_neg (by first | exact d_117 | omega) hg
                                  refine ⟨fun c_118 => ?_, fun c_118 => ?_⟩
                                  · have d_119 := iNe c_118
                                    exfalso; omega
                                  · have d_120 := iEq c_118
                                    replace hg := gt_pos (by first | exact d_120 | omega) hg
                                    have g_121 : (0 : Int) ≤ (I0 o 46).toInt ∧ (I0 o 46).toInt ≤ 100 := hR.at0 ra 46 (by decide)
                                    replace hg := gt_let (y := (I0 o 46).toInt) rfl hg
                                    have l_122 : (100 : Int32).toInt = 100 := rfl
                                    refine ⟨fun c_123 => ?_, fun c_123 => ?_⟩
                                    · have d_124 := iLe c_123
                                      replace hg := gt_pos (by first | exact d_124 | omega) hg
                                      exact (hp _ _ _ hR hf (by clear hg; first | (intro h; exfalso; omega) | (intro h; unfold isT; omega)) (by clear hg; intro h; omega) (by first | omega | (intro h; omega) | exact Or.inl rfl | exact Or.inr rfl) hg.symm)
                                    · have d_125 := iNle c_123
                                      replace hg := gt_neg (by first | exact d_125 | omega) hg
                                      have g_126 : (0 : Int) ≤ (I0 o 6).toInt ∧ (I0 o 6).toInt ≤ 1600 := hR.at0 ra 6 (by decide)
                                      replace hg := gt_let (y := (I0 o 6).toInt) rfl hg
                                      refine y_Model_failsg hok hw ra hz14 hz15 (by first | omega | (intro h; omega) | exact Or.inl rfl | exact Or.inr rfl) hR (fun I_131 L_132 hR_133 fr_134 kp_135 u_128 u_129 gn_130 => ⟨I_131, L_132, rfl, rfl, ?_⟩)
                                      replace hg := gt_b3 gn_130 hg
                                      clear gn_130
                                      have hf_136 : Fm (fun c => c = o) I0 I_131 := hf.call fr_134 (fun c hc => by first | exact hc | (dsimp only at hc ⊢; omega) | omega)
                                      have t_137 : (I_131 o 3).toInt = (I0 o 3).toInt := by rw [kp_135 3 rfl]
                                      have g_138 : (0 : Int) ≤ (I_131 o 4).toInt ∧ (I_131 o 4).toInt ≤ 5 := hR_133.at0 ra 4 (by decide)
                                      have t_139 : (I_131 o 6).toInt = (I0 o 6).toInt := by rw [kp_135 6 rfl]
                                      have t_140 : (I_131 o 7).toInt = (I0 o 7).toInt := by rw [kp_135 7 rfl]
                                      have t_141 : (I_131 o 8).toInt = (I0 o 8).toInt := by rw [kp_135 8 rfl]
                                      have t_142 : (I_131 o 9).toInt = (I0 o 9).toInt := by rw [kp_135 9 rfl]
                                      have t_143 : (I_131 o 46).toInt = (I0 o 46).toInt := by rw [kp_135 46 rfl]
                                      exact (hp _ _ _ hR_133 hf_136 (by clear hg; first | (intro h; exfalso; omega) | (intro h; unfold isT; omega)) (by clear hg; intro h; omega) (by first | omega | (intro h; omega) | exact Or.inl rfl | exact Or.inr rfl) hg.symm)
                              · have d_144 := iEq c_113
                                exfalso; omega
                          · have d_145 := iEq c_106
                            exfalso; omega
                      · have d_146 := iNe c_78
                        have i_147 := u_75 (by omega)
                        replace hg := gt_neg (by first | exact d_146 | omega) hg
                        unfold fModel_wordHere_170
                        replace hg := (eModel_wordHere_170).symm.trans hg
                        have l_148 : (107 : Int32).toInt = 107 := rfl
                        have l_149 : (68 : Int32).toInt = 68 := rfl
                        refine ⟨fun c_150 => ?_, fun c_150 => ?_⟩
                        · have d_151 := iNe c_150
                          replace hg := gt_neg (by first | exact d_151 | omega) hg
                          have l_152 : (115 : Int32).toInt = 115 := rfl
                          refine ⟨fun c_153 => ?_, fun c_153 => ?_⟩
                          · have d_154 := iEq c_153
                            exfalso; omega
                          · have d_155 := iNe c_153
                            replace hg := gt_neg (by first | exact d_155 | omega) hg
                            have l_156 : (110 : Int32).toInt = 110 := rfl
                            refine ⟨fun c_157 => ?_, fun c_157 => ?_⟩
                            · have d_158 := iNe c_157
                              replace hg := gt_neg (by first | exact d_158 | omega) hg
                              unfold fModel_wordHere_210
                              replace hg := (eModel_wordHere_210).symm.trans hg
                              refine ⟨fun c_159 => ?_, fun c_159 => ?_⟩
                              · have d_160 := iEq c_159
                                exfalso; omega
                              · have d_161 := iNe c_159
                                replace hg := gt_neg (by first | exact d_161 | omega) hg
                                refine ⟨fun c_162 => ?_, fun c_162 => ?_⟩
                                · have d_163 := iNe c_162
                                  exfalso; omega
                                · have d_164 := iEq c_162
                                  replace hg := gt_pos (by first | exact d_164 | omega) hg
                                  have g_165 : (0 : Int) ≤ (I0 o 46).toInt ∧ (I0 o 46).toInt ≤ 100 := hR.at0 ra 46 (by decide)
                                  replace hg := gt_let (y := (I0 o 46).toInt) rfl hg
                                  have l_166 : (100 : Int32).toInt = 100 := rfl
                                  refine ⟨fun c_167 => ?_, fun c_167 => ?_⟩
                                  · have d_168 := iLe c_167
                                    replace hg := gt_pos (by first | exact d_168 | omega) hg
                                    exact (hp _ _ _ hR hf (by clear hg; first | (intro h; exfalso; omega) | (intro h; unfold isT; omega)) (by clear hg; intro h; omega) (by first | omega | (intro h; omega) | exact Or.inl rfl | exact Or.inr rfl) hg.symm)
                                  · have d_169 := iNle c_167
                                    replace hg := gt_neg (by first | exact d_169 | omega) hg
                                    have g_170 : (0 : Int) ≤ (I0 o 6).toInt ∧ (I0 o 6).toInt ≤ 1600 := hR.at0 ra 6 (by decide)
                                    replace hg := gt_let (y := (I0 o 6).toInt) rfl hg
                                    refine y_Model_failsg hok hw ra hz14 hz15 (by first | omega | (intro h; omega) | exact Or.inl rfl | exact Or.inr rfl) hR (fun I_175 L_176 hR_177 fr_178 kp_179 u_172 u_173 gn_174 => ⟨I_175, L_176, rfl, rfl, ?_⟩)
                                    replace hg := gt_b3 gn_174 hg
                                    clear gn_174
                                    have hf_180 : Fm (fun c => c = o) I0 I_175 := hf.call fr_178 (fun c hc => by first | exact hc | (dsimp only at hc ⊢; omega) | omega)
                                    have t_181 : (I_175 o 3).toInt = (I0 o 3).toInt := by rw [kp_179 3 rfl]
                                    have g_182 : (0 : Int) ≤ (I_175 o 4).toInt ∧ (I_175 o 4).toInt ≤ 5 := hR_177.at0 ra 4 (by decide)
                                    have t_183 : (I_175 o 6).toInt = (I0 o 6).toInt := by rw [kp_179 6 rfl]
                                    have t_184 : (I_175 o 7).toInt = (I0 o 7).toInt := by rw [kp_179 7 rfl]
                                    have t_185 : (I_175 o 8).toInt = (I0 o 8).toInt := by rw [kp_179 8 rfl]
                                    have t_186 : (I_175 o 9).toInt = (I0 o 9).toInt := by rw [kp_179 9 rfl]
                                    have t_187 : (I_175 o 46).toInt = (I0 o 46).toInt := by rw [kp_179 46 rfl]
                                    exact (hp _ _ _ hR_177 hf_180 (by clear hg; first | (intro h; exfalso; omega) | (intro h; unfold isT; omega)) (by clear hg; intro h; omega) (by first | omega | (intro h; omega) | exact Or.inl rfl | exact Or.inr rfl) hg.symm)
                            · have d_188 := iEq c_157
                              exfalso; omega
                        · have d_189 := iEq c_150
                          exfalso; omega
                    · have d_190 := iNe c_71
                      have i_191 := u_68 (by omega)
                      replace hg := gt_neg (by first | exact d_190 | omega) hg
                      unfold fModel_wordHere_170
                      replace hg := (eModel_wordHere_170).symm.trans hg
                      have l_192 : (97 : Int32).toInt = 97 := rfl
                      have l_193 : (68 : Int32).toInt = 68 := rfl
                      refine ⟨fun c_194 => ?_, fun c_194 => ?_⟩
                      · have d_195 := iNe c_194
                        replace hg := gt_neg (by first | exact d_195 | omega) hg
                        have l_196 : (115 : Int32).toInt = 115 := rfl
                        refine ⟨fun c_197 => ?_, fun c_197 => ?_⟩
                        · have d_198 := iEq c_197
                          exfalso; omega
                        · have d_199 := iNe c_197
                          replace hg := gt_neg (by first | exact d_199 | omega) hg
                          have l_200 : (110 : Int32).toInt = 110 := rfl
                          refine ⟨fun c_201 => ?_, fun c_201 => ?_⟩
                          · have d_202 := iNe c_201
                            replace hg := gt_neg (by first | exact d_202 | omega) hg
                            unfold fModel_wordHere_210
                            replace hg := (eModel_wordHere_210).symm.trans hg
                            refine ⟨fun c_203 => ?_, fun c_203 => ?_⟩
                            · have d_204 := iEq c_203
                              exfalso; omega
                            · have d_205 := iNe c_203
                              replace hg := gt_neg (by first | exact d_205 | omega) hg
                              refine ⟨fun c_206 => ?_, fun c_206 => ?_⟩
                              · have d_207 := iNe c_206
                                exfalso; omega
                              · have d_208 := iEq c_206
                                replace hg := gt_pos (by first | exact d_208 | omega) hg
                                have g_209 : (0 : Int) ≤ (I0 o 46).toInt ∧ (I0 o 46).toInt ≤ 100 := hR.at0 ra 46 (by decide)
                                replace hg := gt_let (y := (I0 o 46).toInt) rfl hg
                                have l_210 : (100 : Int32).toInt = 100 := rfl
                                refine ⟨fun c_211 => ?_, fun c_211 => ?_⟩
                                · have d_212 := iLe c_211
                                  replace hg := gt_pos (by first | exact d_212 | omega) hg
                                  exact (hp _ _ _ hR hf (by clear hg; first | (intro h; exfalso; omega) | (intro h; unfold isT; omega)) (by clear hg; intro h; omega) (by first | omega | (intro h; omega) | exact Or.inl rfl | exact Or.inr rfl) hg.symm)
                                · have d_213 := iNle c_211
                                  replace hg := gt_neg (by first | exact d_213 | omega) hg
                                  have g_214 : (0 : Int) ≤ (I0 o 6).toInt ∧ (I0 o 6).toInt ≤ 1600 := hR.at0 ra 6 (by decide)
                                  replace hg := gt_let (y := (I0 o 6).toInt) rfl hg
                                  refine y_Model_failsg hok hw ra hz14 hz15 (by first | omega | (intro h; omega) | exact Or.inl rfl | exact Or.inr rfl) hR (fun I_219 L_220 hR_221 fr_222 kp_223 u_216 u_217 gn_218 => ⟨I_219, L_220, rfl, rfl, ?_⟩)
                                  replace hg := gt_b3 gn_218 hg
                                  clear gn_218
                                  have hf_224 : Fm (fun c => c = o) I0 I_219 := hf.call fr_222 (fun c hc => by first | exact hc | (dsimp only at hc ⊢; omega) | omega)
                                  have t_225 : (I_219 o 3).toInt = (I0 o 3).toInt := by rw [kp_223 3 rfl]
                                  have g_226 : (0 : Int) ≤ (I_219 o 4).toInt ∧ (I_219 o 4).toInt ≤ 5 := hR_221.at0 ra 4 (by decide)
                                  have t_227 : (I_219 o 6).toInt = (I0 o 6).toInt := by rw [kp_223 6 rfl]
                                  have t_228 : (I_219 o 7).toInt = (I0 o 7).toInt := by rw [kp_223 7 rfl]
                                  have t_229 : (I_219 o 8).toInt = (I0 o 8).toInt := by rw [kp_223 8 rfl]
                                  have t_230 : (I_219 o 9).toInt = (I0 o 9).toInt := by rw [kp_223 9 rfl]
                                  have t_231 : (I_219 o 46).toInt = (I0 o 46).toInt := by rw [kp_223 46 rfl]
                                  exact (hp _ _ _ hR_221 hf_224 (by clear hg; first | (intro h; exfalso; omega) | (intro h; unfold isT; omega)) (by clear hg; intro h; omega) (by first | omega | (intro h; omega) | exact Or.inl rfl | exact Or.inr rfl) hg.symm)
                          · have d_232 := iEq c_201
                            exfalso; omega
                      · have d_233 := iEq c_194
                        exfalso; omega
                  · have d_234 := iNe c_63
                    have i_235 := u_60 (by omega)
                    replace hg := gt_neg (by first | exact d_234 | omega) hg
                    unfold fModel_wordHere_170
                    replace hg := (eModel_wordHere_170).symm.trans hg
                    have l_236 : (68 : Int32).toInt = 68 := rfl
                    refine ⟨fun c_237 => ?_, fun c_237 => ?_⟩
                    · have d_238 := iNe c_237
                      exfalso; omega
                    · have d_239 := iEq c_237
                      replace hg := gt_pos (by first | exact d_239 | omega) hg
                      refine ⟨fun c_240 => ?_, fun c_240 => ?_⟩
                      · have d_241 := iNe c_240
                        exfalso; omega
                      · have d_242 := iEq c_240
                        replace hg := gt_pos (by first | exact d_242 | omega) hg
                        refine ⟨fun c_243 => ?_, fun c_243 => ?_⟩
                        · have d_244 := iEq c_243
                          replace hg := gt_pos (by first | exact d_244 | omega) hg
                          unfold fModel_wordHere_210
                          replace hg := (eModel_wordHere_210).symm.trans hg
                          refine ⟨fun c_245 => ?_, fun c_245 => ?_⟩
                          · have d_246 := iEq c_245
                            exfalso; omega
                          · have d_247 := iNe c_245
                            replace hg := gt_neg (by first | exact d_247 | omega) hg
                            refine ⟨fun c_248 => ?_, fun c_248 => ?_⟩
                            · have d_249 := iNe c_248
                              exfalso; omega
                            · have d_250 := iEq c_248
                              replace hg := gt_pos (by first | exact d_250 | omega) hg
                              have g_251 : (0 : Int) ≤ (I0 o 46).toInt ∧ (I0 o 46).toInt ≤ 100 := hR.at0 ra 46 (by decide)
                              replace hg := gt_let (y := (I0 o 46).toInt) rfl hg
                              have l_252 : (100 : Int32).toInt = 100 := rfl
                              refine ⟨fun c_253 => ?_, fun c_253 => ?_⟩
                              · have d_254 := iLe c_253
                                replace hg := gt_pos (by first | exact d_254 | omega) hg
                                exact (hp _ _ _ hR hf (by clear hg; first | (intro h; exfalso; omega) | (intro h; unfold isT; omega)) (by clear hg; intro h; omega) (by first | omega | (intro h; omega) | exact Or.inl rfl | exact Or.inr rfl) hg.symm)
                              · have d_255 := iNle c_253
                                replace hg := gt_neg (by first | exact d_255 | omega) hg
                                have g_256 : (0 : Int) ≤ (I0 o 6).toInt ∧ (I0 o 6).toInt ≤ 1600 := hR.at0 ra 6 (by decide)
                                replace hg := gt_let (y := (I0 o 6).toInt) rfl hg
                                refine y_Model_failsg hok hw ra hz14 hz15 (by first | omega | (intro h; omega) | exact Or.inl rfl | exact Or.inr rfl) hR (fun I_261 L_262 hR_263 fr_264 kp_265 u_258 u_259 gn_260 => ⟨I_261, L_262, rfl, rfl, ?_⟩)
                                replace hg := gt_b3 gn_260 hg
                                clear gn_260
                                have hf_266 : Fm (fun c => c = o) I0 I_261 := hf.call fr_264 (fun c hc => by first | exact hc | (dsimp only at hc ⊢; omega) | omega)
                                have t_267 : (I_261 o 3).toInt = (I0 o 3).toInt := by rw [kp_265 3 rfl]
                                have g_268 : (0 : Int) ≤ (I_261 o 4).toInt ∧ (I_261 o 4).toInt ≤ 5 := hR_263.at0 ra 4 (by decide)
                                have t_269 : (I_261 o 6).toInt = (I0 o 6).toInt := by rw [kp_265 6 rfl]
                                have t_270 : (I_261 o 7).toInt = (I0 o 7).toInt := by rw [kp_265 7 rfl]
                                have t_271 : (I_261 o 8).toInt = (I0 o 8).toInt := by rw [kp_265 8 rfl]
                                have t_272 : (I_261 o 9).toInt = (I0 o 9).toInt := by rw [kp_265 9 rfl]
                                have t_273 : (I_261 o 46).toInt = (I0 o 46).toInt := by rw [kp_265 46 rfl]
                                exact (hp _ _ _ hR_263 hf_266 (by clear hg; first | (intro h; exfalso; omega) | (intro h; unfold isT; omega)) (by clear hg; intro h; omega) (by first | omega | (intro h; omega) | exact Or.inl rfl | exact Or.inr rfl) hg.symm)
                        · have d_274 := iNe c_243
                          exfalso; omega
                · have d_275 := iNe c_55
                  have i_276 := u_52 (by omega)
                  replace hg := gt_neg (by first | exact d_275 | omega) hg
                  unfold fModel_wordHere_170
                  replace hg := (eModel_wordHere_170).symm.trans hg
                  have l_277 : (110 : Int32).toInt = 110 := rfl
                  have l_278 : (68 : Int32).toInt = 68 := rfl
                  refine ⟨fun c_279 => ?_, fun c_279 => ?_⟩
                  · have d_280 := iNe c_279
                    replace hg := gt_neg (by first | exact d_280 | omega) hg
                    have l_281 : (115 : Int32).toInt = 115 := rfl
                    refine ⟨fun c_282 => ?_, fun c_282 => ?_⟩
                    · have d_283 := iEq c_282
                      exfalso; omega
                    · have d_284 := iNe c_282
                      replace hg := gt_neg (by first | exact d_284 | omega) hg
                      refine ⟨fun c_285 => ?_, fun c_285 => ?_⟩
                      · have d_286 := iNe c_285
                        exfalso; omega
                      · have d_287 := iEq c_285
                        replace hg := gt_pos (by first | exact d_287 | omega) hg
                        unfold fModel_wordHere_205
                        replace hg := (eModel_wordHere_205).symm.trans hg
                        unfold fModel_wordHere_210
                        replace hg := (eModel_wordHere_210).symm.trans hg
                        refine ⟨fun c_288 => ?_, fun c_288 => ?_⟩
                        · have d_289 := iEq c_288
                          exfalso; omega
                        · have d_290 := iNe c_288
                          replace hg := gt_neg (by first | exact d_290 | omega) hg
                          refine ⟨fun c_291 => ?_, fun c_291 => ?_⟩
                          · have d_292 := iNe c_291
                            exfalso; omega
                          · have d_293 := iEq c_291
                            replace hg := gt_pos (by first | exact d_293 | omega) hg
                            have g_294 : (0 : Int) ≤ (I0 o 46).toInt ∧ (I0 o 46).toInt ≤ 100 := hR.at0 ra 46 (by decide)
                            replace hg := gt_let (y := (I0 o 46).toInt) rfl hg
                            have l_295 : (100 : Int32).toInt = 100 := rfl
                            refine ⟨fun c_296 => ?_, fun c_296 => ?_⟩
                            · have d_297 := iLe c_296
                              replace hg := gt_pos (by first | exact d_297 | omega) hg
                              exact (hp _ _ _ hR hf (by clear hg; first | (intro h; exfalso; omega) | (intro h; unfold isT; omega)) (by clear hg; intro h; omega) (by first | omega | (intro h; omega) | exact Or.inl rfl | exact Or.inr rfl) hg.symm)
                            · have d_298 := iNle c_296
                              replace hg := gt_neg (by first | exact d_298 | omega) hg
                              have g_299 : (0 : Int) ≤ (I0 o 6).toInt ∧ (I0 o 6).toInt ≤ 1600 := hR.at0 ra 6 (by decide)
                              replace hg := gt_let (y := (I0 o 6).toInt) rfl hg
                              refine y_Model_failsg hok hw ra hz14 hz15 (by first | omega | (intro h; omega) | exact Or.inl rfl | exact Or.inr rfl) hR (fun I_304 L_305 hR_306 fr_307 kp_308 u_301 u_302 gn_303 => ⟨I_304, L_305, rfl, rfl, ?_⟩)
                              replace hg := gt_b3 gn_303 hg
                              clear gn_303
                              have hf_309 : Fm (fun c => c = o) I0 I_304 := hf.call fr_307 (fun c hc => by first | exact hc | (dsimp only at hc ⊢; omega) | omega)
                              have t_310 : (I_304 o 3).toInt = (I0 o 3).toInt := by rw [kp_308 3 rfl]
                              have g_311 : (0 : Int) ≤ (I_304 o 4).toInt ∧ (I_304 o 4).toInt ≤ 5 := hR_306.at0 ra 4 (by decide)
                              have t_312 : (I_304 o 6).toInt = (I0 o 6).toInt := by rw [kp_308 6 rfl]
                              have t_313 : (I_304 o 7).toInt = (I0 o 7).toInt := by rw [kp_308 7 rfl]
                              have t_314 : (I_304 o 8).toInt = (I0 o 8).toInt := by rw [kp_308 8 rfl]
                              have t_315 : (I_304 o 9).toInt = (I0 o 9).toInt := by rw [kp_308 9 rfl]
                              have t_316 : (I_304 o 46).toInt = (I0 o 46).toInt := by rw [kp_308 46 rfl]
                              exact (hp _ _ _ hR_306 hf_309 (by clear hg; first | (intro h; exfalso; omega) | (intro h; unfold isT; omega)) (by clear hg; intro h; omega) (by first | omega | (intro h; omega) | exact Or.inl rfl | exact Or.inr rfl) hg.symm)
                  · have d_317 := iEq c_279
                    exfalso; omega
              · have d_318 := iNe c_47
                have i_319 := u_44 (by omega)
                replace hg := gt_neg (by first | exact d_318 | omega) hg
                unfold fModel_wordHere_170
                replace hg := (eModel_wordHere_170).symm.trans hg
                have l_320 : (115 : Int32).toInt = 115 := rfl
                have l_321 : (68 : Int32).toInt = 68 := rfl
                refine ⟨fun c_322 => ?_, fun c_322 => ?_⟩
                · have d_323 := iNe c_322
                  replace hg := gt_neg (by first | exact d_323 | omega) hg
                  refine ⟨fun c_324 => ?_, fun c_324 => ?_⟩
                  · have d_325 := iEq c_324
                    replace hg := gt_pos (by first | exact d_325 | omega) hg
                    unfold fModel_wordHere_205
                    replace hg := (eModel_wordHere_205).symm.trans hg
                    unfold fModel_wordHere_210
                    replace hg := (eModel_wordHere_210).symm.trans hg
                    refine ⟨fun c_326 => ?_, fun c_326 => ?_⟩
                    · have d_327 := iEq c_326
                      exfalso; omega
                    · have d_328 := iNe c_326
                      replace hg := gt_neg (by first | exact d_328 | omega) hg
                      refine ⟨fun c_329 => ?_, fun c_329 => ?_⟩
                      · have d_330 := iNe c_329
                        exfalso; omega
                      · have d_331 := iEq c_329
                        replace hg := gt_pos (by first | exact d_331 | omega) hg
                        have g_332 : (0 : Int) ≤ (I0 o 46).toInt ∧ (I0 o 46).toInt ≤ 100 := hR.at0 ra 46 (by decide)
                        replace hg := gt_let (y := (I0 o 46).toInt) rfl hg
                        have l_333 : (100 : Int32).toInt = 100 := rfl
                        refine ⟨fun c_334 => ?_, fun c_334 => ?_⟩
                        · have d_335 := iLe c_334
                          replace hg := gt_pos (by first | exact d_335 | omega) hg
                          exact (hp _ _ _ hR hf (by clear hg; first | (intro h; exfalso; omega) | (intro h; unfold isT; omega)) (by clear hg; intro h; omega) (by first | omega | (intro h; omega) | exact Or.inl rfl | exact Or.inr rfl) hg.symm)
                        · have d_336 := iNle c_334
                          replace hg := gt_neg (by first | exact d_336 | omega) hg
                          have g_337 : (0 : Int) ≤ (I0 o 6).toInt ∧ (I0 o 6).toInt ≤ 1600 := hR.at0 ra 6 (by decide)
                          replace hg := gt_let (y := (I0 o 6).toInt) rfl hg
                          refine y_Model_failsg hok hw ra hz14 hz15 (by first | omega | (intro h; omega) | exact Or.inl rfl | exact Or.inr rfl) hR (fun I_342 L_343 hR_344 fr_345 kp_346 u_339 u_340 gn_341 => ⟨I_342, L_343, rfl, rfl, ?_⟩)
                          replace hg := gt_b3 gn_341 hg
                          clear gn_341
                          have hf_347 : Fm (fun c => c = o) I0 I_342 := hf.call fr_345 (fun c hc => by first | exact hc | (dsimp only at hc ⊢; omega) | omega)
                          have t_348 : (I_342 o 3).toInt = (I0 o 3).toInt := by rw [kp_346 3 rfl]
                          have g_349 : (0 : Int) ≤ (I_342 o 4).toInt ∧ (I_342 o 4).toInt ≤ 5 := hR_344.at0 ra 4 (by decide)
                          have t_350 : (I_342 o 6).toInt = (I0 o 6).toInt := by rw [kp_346 6 rfl]
                          have t_351 : (I_342 o 7).toInt = (I0 o 7).toInt := by rw [kp_346 7 rfl]
                          have t_352 : (I_342 o 8).toInt = (I0 o 8).toInt := by rw [kp_346 8 rfl]
                          have t_353 : (I_342 o 9).toInt = (I0 o 9).toInt := by rw [kp_346 9 rfl]
                          have t_354 : (I_342 o 46).toInt = (I0 o 46).toInt := by rw [kp_346 46 rfl]
                          exact (hp _ _ _ hR_344 hf_347 (by clear hg; first | (intro h; exfalso; omega) | (intro h; unfold isT; omega)) (by clear hg; intro h; omega) (by first | omega | (intro h; omega) | exact Or.inl rfl | exact Or.inr rfl) hg.symm)
                  · have d_355 := iNe c_324
                    exfalso; omega
                · have d_356 := iEq c_322
                  exfalso; omega
            · have d_357 := iNlt c_40
              replace hg := gt_neg (by first | exact d_357 | omega) hg
              unfold fModel_wordHere_78
              replace hg := (eModel_wordHere_78).symm.trans hg
              have l_358 : (1 : Int32).toInt = 1 := rfl
              refine y_Model_isWordg hok hw ra hR (fun r_359 u_360 u_361 gn_362 => ⟨r_359, I0, L0, rfl, rfl, ?_⟩)
              replace hg := gt_let gn_362 hg
              clear gn_362
              have b_363 : 0 ≤ r_359.toInt ∧ r_359.toInt ≤ 1 := u_360.rg
              refine ⟨fun c_364 => ?_, fun c_364 => ?_⟩
              · have d_365 := iEq c_364
                replace hg := gt_pos (by first | exact d_365 | omega) hg
                have l_366 : (1852138852 : Int32).toInt = 1852138852 := rfl
                refine y_Model_isWordg hok hw ra hR (fun r_367 u_368 u_369 gn_370 => ⟨r_367, I0, L0, rfl, rfl, ?_⟩)
                replace hg := gt_let gn_370 hg
                clear gn_370
                have b_371 : 0 ≤ r_367.toInt ∧ r_367.toInt ≤ 1 := u_368.rg
                refine ⟨fun c_372 => ?_, fun c_372 => ?_⟩
                · have d_373 := iEq c_372
                  replace hg := gt_pos (by first | exact d_373 | omega) hg
                  have l_374 : (1684109683 : Int32).toInt = 1684109683 := rfl
                  refine y_Model_isWordg hok hw ra hR (fun r_375 u_376 u_377 gn_378 => ⟨r_375, I0, L0, rfl, rfl, ?_⟩)
                  replace hg := gt_let gn_378 hg
                  clear gn_378
                  have b_379 : 0 ≤ r_375.toInt ∧ r_375.toInt ≤ 1 := u_376.rg
                  refine ⟨fun c_380 => ?_, fun c_380 => ?_⟩
                  · have d_381 := iEq c_380
                    replace hg := gt_pos (by first | exact d_381 | omega) hg
                    have l_382 : (6383461 : Int32).toInt = 6383461 := rfl
                    refine y_Model_isWordg hok hw ra hR (fun r_383 u_384 u_385 gn_386 => ⟨r_383, I0, L0, rfl, rfl, ?_⟩)
                    replace hg := gt_let gn_386 hg
                    clear gn_386
                    have b_387 : 0 ≤ r_383.toInt ∧ r_383.toInt ≤ 1 := u_384.rg
                    refine ⟨fun c_388 => ?_, fun c_388 => ?_⟩
                    · have d_389 := iEq c_388
                      replace hg := gt_pos (by first | exact d_389 | omega) hg
                      refine y_Model_isWordg hok hw ra hR (fun r_390 u_391 u_392 gn_393 => ⟨r_390, I0, L0, rfl, rfl, ?_⟩)
                      replace hg := gt_let gn_393 hg
                      clear gn_393
                      have b_394 : 0 ≤ r_390.toInt ∧ r_390.toInt ≤ 1 := u_391.rg
                      refine ⟨fun c_395 => ?_, fun c_395 => ?_⟩
                      · have d_396 := iEq c_395
                        replace hg := gt_pos (by first | exact d_396 | omega) hg
                        refine y_Model_isWordg hok hw ra hR (fun r_397 u_398 u_399 gn_400 => ⟨r_397, I0, L0, rfl, rfl, ?_⟩)
                        replace hg := gt_let gn_400 hg
                        clear gn_400
                        have b_401 : 0 ≤ r_397.toInt ∧ r_397.toInt ≤ 1 := u_398.rg
                        refine ⟨fun c_402 => ?_, fun c_402 => ?_⟩
                        · have d_403 := iEq c_402
                          replace hg := gt_pos (by first | exact d_403 | omega) hg
                          unfold fModel_wordHere_170
                          replace hg := (eModel_wordHere_170).symm.trans hg
                          have l_404 : (68 : Int32).toInt = 68 := rfl
                          refine ⟨fun c_405 => ?_, fun c_405 => ?_⟩
                          · have d_406 := iNe c_405
                            replace hg := gt_neg (by first | exact d_406 | omega) hg
                            have l_407 : (115 : Int32).toInt = 115 := rfl
                            refine ⟨fun c_408 => ?_, fun c_408 => ?_⟩
                            · have d_409 := iEq c_408
                              exfalso; omega
                            · have d_410 := iNe c_408
                              replace hg := gt_neg (by first | exact d_410 | omega) hg
                              have l_411 : (110 : Int32).toInt = 110 := rfl
                              refine ⟨fun c_412 => ?_, fun c_412 => ?_⟩
                              · have d_413 := iNe c_412
                                replace hg := gt_neg (by first | exact d_413 | omega) hg
                                unfold fModel_wordHere_210
                                replace hg := (eModel_wordHere_210).symm.trans hg
                                refine ⟨fun c_414 => ?_, fun c_414 => ?_⟩
                                · have d_415 := iEq c_414
                                  replace hg := gt_pos (by first | exact d_415 | omega) hg
                                  exact (hp _ _ _ hR hf (by clear hg; first | (intro h; exfalso; omega) | (intro h; unfold isT; omega)) (by clear hg; intro h; omega) (by first | omega | (intro h; omega) | exact Or.inl rfl | exact Or.inr rfl) hg.symm)
                                · have d_416 := iNe c_414
                                  exfalso; omega
                              · have d_417 := iEq c_412
                                exfalso; omega
                          · have d_418 := iEq c_405
                            exfalso; omega
                        · have d_419 := iNe c_402
                          have i_420 := u_399 (by omega)
                          replace hg := gt_neg (by first | exact d_419 | omega) hg
                          unfold fModel_wordHere_170
                          replace hg := (eModel_wordHere_170).symm.trans hg
                          have l_421 : (98 : Int32).toInt = 98 := rfl
                          have l_422 : (68 : Int32).toInt = 68 := rfl
                          refine ⟨fun c_423 => ?_, fun c_423 => ?_⟩
                          · have d_424 := iNe c_423
                            replace hg := gt_neg (by first | exact d_424 | omega) hg
                            have l_425 : (115 : Int32).toInt = 115 := rfl
                            refine ⟨fun c_426 => ?_, fun c_426 => ?_⟩
                            · have d_427 := iEq c_426
                              exfalso; omega
                            · have d_428 := iNe c_426
                              replace hg := gt_neg (by first | exact d_428 | omega) hg
                              have l_429 : (110 : Int32).toInt = 110 := rfl
                              refine ⟨fun c_430 => ?_, fun c_430 => ?_⟩
                              · have d_431 := iNe c_430
                                replace hg := gt_neg (by first | exact d_431 | omega) hg
                                unfold fModel_wordHere_210
                                replace hg := (eModel_wordHere_210).symm.trans hg
                                refine ⟨fun c_432 => ?_, fun c_432 => ?_⟩
                                · have d_433 := iEq c_432
                                  exfalso; omega
                                · have d_434 := iNe c_432
                                  replace hg := gt_neg (by first | exact d_434 | omega) hg
                                  refine ⟨fun c_435 => ?_, fun c_435 => ?_⟩
                                  · have d_436 := iNe c_435
                                    replace hg := gt_neg (by first | exact d_436 | omega) hg
                                    exact (hp _ _ _ hR hf (by clear hg; first | (intro h; exfalso; omega) | (intro h; unfold isT; omega)) (by clear hg; intro h; omega) (by first | omega | (intro h; omega) | exact Or.inl rfl | exact Or.inr rfl) hg.symm)
                                  · have d_437 := iEq c_435
                                    exfalso; omega
                              · have d_438 := iEq c_430
                                exfalso; omega
                          · have d_439 := iEq c_423
                            exfalso; omega
                      · have d_440 := iNe c_395
                        have i_441 := u_392 (by omega)
                        replace hg := gt_neg (by first | exact d_440 | omega) hg
                        unfold fModel_wordHere_170
                        replace hg := (eModel_wordHere_170).symm.trans hg
                        have l_442 : (107 : Int32).toInt = 107 := rfl
                        have l_443 : (68 : Int32).toInt = 68 := rfl
                        refine ⟨fun c_444 => ?_, fun c_444 => ?_⟩
                        · have d_445 := iNe c_444
                          replace hg := gt_neg (by first | exact d_445 | omega) hg
                          have l_446 : (115 : Int32).toInt = 115 := rfl
                          refine ⟨fun c_447 => ?_, fun c_447 => ?_⟩
                          · have d_448 := iEq c_447
                            exfalso; omega
                          · have d_449 := iNe c_447
                            replace hg := gt_neg (by first | exact d_449 | omega) hg
                            have l_450 : (110 : Int32).toInt = 110 := rfl
                            refine ⟨fun c_451 => ?_, fun c_451 => ?_⟩
                            · have d_452 := iNe c_451
                              replace hg := gt_neg (by first | exact d_452 | omega) hg
                              unfold fModel_wordHere_210
                              replace hg := (eModel_wordHere_210).symm.trans hg
                              refine ⟨fun c_453 => ?_, fun c_453 => ?_⟩
                              · have d_454 := iEq c_453
                                exfalso; omega
                              · have d_455 := iNe c_453
                                replace hg := gt_neg (by first | exact d_455 | omega) hg
                                refine ⟨fun c_456 => ?_, fun c_456 => ?_⟩
                                · have d_457 := iNe c_456
                                  replace hg := gt_neg (by first | exact d_457 | omega) hg
                                  exact (hp _ _ _ hR hf (by clear hg; first | (intro h; exfalso; omega) | (intro h; unfold isT; omega)) (by clear hg; intro h; omega) (by first | omega | (intro h; omega) | exact Or.inl rfl | exact Or.inr rfl) hg.symm)
                                · have d_458 := iEq c_456
                                  exfalso; omega
                            · have d_459 := iEq c_451
                              exfalso; omega
                        · have d_460 := iEq c_444
                          exfalso; omega
                    · have d_461 := iNe c_388
                      have i_462 := u_385 (by omega)
                      replace hg := gt_neg (by first | exact d_461 | omega) hg
                      unfold fModel_wordHere_170
                      replace hg := (eModel_wordHere_170).symm.trans hg
                      have l_463 : (97 : Int32).toInt = 97 := rfl
                      have l_464 : (68 : Int32).toInt = 68 := rfl
                      refine ⟨fun c_465 => ?_, fun c_465 => ?_⟩
                      · have d_466 := iNe c_465
                        replace hg := gt_neg (by first | exact d_466 | omega) hg
                        have l_467 : (115 : Int32).toInt = 115 := rfl
                        refine ⟨fun c_468 => ?_, fun c_468 => ?_⟩
                        · have d_469 := iEq c_468
                          exfalso; omega
                        · have d_470 := iNe c_468
                          replace hg := gt_neg (by first | exact d_470 | omega) hg
                          have l_471 : (110 : Int32).toInt = 110 := rfl
                          refine ⟨fun c_472 => ?_, fun c_472 => ?_⟩
                          · have d_473 := iNe c_472
                            replace hg := gt_neg (by first | exact d_473 | omega) hg
                            unfold fModel_wordHere_210
                            replace hg := (eModel_wordHere_210).symm.trans hg
                            refine ⟨fun c_474 => ?_, fun c_474 => ?_⟩
                            · have d_475 := iEq c_474
                              exfalso; omega
                            · have d_476 := iNe c_474
                              replace hg := gt_neg (by first | exact d_476 | omega) hg
                              refine ⟨fun c_477 => ?_, fun c_477 => ?_⟩
                              · have d_478 := iNe c_477
                                replace hg := gt_neg (by first | exact d_478 | omega) hg
                                exact (hp _ _ _ hR hf (by clear hg; first | (intro h; exfalso; omega) | (intro h; unfold isT; omega)) (by clear hg; intro h; omega) (by first | omega | (intro h; omega) | exact Or.inl rfl | exact Or.inr rfl) hg.symm)
                              · have d_479 := iEq c_477
                                exfalso; omega
                          · have d_480 := iEq c_472
                            exfalso; omega
                      · have d_481 := iEq c_465
                        exfalso; omega
                  · have d_482 := iNe c_380
                    have i_483 := u_377 (by omega)
                    replace hg := gt_neg (by first | exact d_482 | omega) hg
                    unfold fModel_wordHere_170
                    replace hg := (eModel_wordHere_170).symm.trans hg
                    have l_484 : (68 : Int32).toInt = 68 := rfl
                    refine ⟨fun c_485 => ?_, fun c_485 => ?_⟩
                    · have d_486 := iNe c_485
                      exfalso; omega
                    · have d_487 := iEq c_485
                      replace hg := gt_pos (by first | exact d_487 | omega) hg
                      refine ⟨fun c_488 => ?_, fun c_488 => ?_⟩
                      · have d_489 := iNe c_488
                        exfalso; omega
                      · have d_490 := iEq c_488
                        replace hg := gt_pos (by first | exact d_490 | omega) hg
                        refine ⟨fun c_491 => ?_, fun c_491 => ?_⟩
                        · have d_492 := iEq c_491
                          exfalso; omega
                        · have d_493 := iNe c_491
                          replace hg := gt_neg (by first | exact d_493 | omega) hg
                          unfold fModel_wordHere_185
                          replace hg := (eModel_wordHere_185).symm.trans hg
                          unfold fModel_wordHere_210
                          replace hg := (eModel_wordHere_210).symm.trans hg
                          refine ⟨fun c_494 => ?_, fun c_494 => ?_⟩
                          · have d_495 := iEq c_494
                            exfalso; omega
                          · have d_496 := iNe c_494
                            replace hg := gt_neg (by first | exact d_496 | omega) hg
                            refine ⟨fun c_497 => ?_, fun c_497 => ?_⟩
                            · have d_498 := iNe c_497
                              replace hg := gt_neg (by first | exact d_498 | omega) hg
                              exact (hp _ _ _ hR hf (by clear hg; first | (intro h; exfalso; omega) | (intro h; unfold isT; omega)) (by clear hg; intro h; omega) (by first | omega | (intro h; omega) | exact Or.inl rfl | exact Or.inr rfl) hg.symm)
                            · have d_499 := iEq c_497
                              exfalso; omega
                · have d_500 := iNe c_372
                  have i_501 := u_369 (by omega)
                  replace hg := gt_neg (by first | exact d_500 | omega) hg
                  unfold fModel_wordHere_170
                  replace hg := (eModel_wordHere_170).symm.trans hg
                  have l_502 : (110 : Int32).toInt = 110 := rfl
                  have l_503 : (68 : Int32).toInt = 68 := rfl
                  refine ⟨fun c_504 => ?_, fun c_504 => ?_⟩
                  · have d_505 := iNe c_504
                    replace hg := gt_neg (by first | exact d_505 | omega) hg
                    have l_506 : (115 : Int32).toInt = 115 := rfl
                    refine ⟨fun c_507 => ?_, fun c_507 => ?_⟩
                    · have d_508 := iEq c_507
                      exfalso; omega
                    · have d_509 := iNe c_507
                      replace hg := gt_neg (by first | exact d_509 | omega) hg
                      refine ⟨fun c_510 => ?_, fun c_510 => ?_⟩
                      · have d_511 := iNe c_510
                        exfalso; omega
                      · have d_512 := iEq c_510
                        replace hg := gt_pos (by first | exact d_512 | omega) hg
                        unfold fModel_wordHere_205
                        replace hg := (eModel_wordHere_205).symm.trans hg
                        unfold fModel_wordHere_210
                        replace hg := (eModel_wordHere_210).symm.trans hg
                        refine ⟨fun c_513 => ?_, fun c_513 => ?_⟩
                        · have d_514 := iEq c_513
                          exfalso; omega
                        · have d_515 := iNe c_513
                          replace hg := gt_neg (by first | exact d_515 | omega) hg
                          refine ⟨fun c_516 => ?_, fun c_516 => ?_⟩
                          · have d_517 := iNe c_516
                            exfalso; omega
                          · have d_518 := iEq c_516
                            replace hg := gt_pos (by first | exact d_518 | omega) hg
                            have g_519 : (0 : Int) ≤ (I0 o 46).toInt ∧ (I0 o 46).toInt ≤ 100 := hR.at0 ra 46 (by decide)
                            replace hg := gt_let (y := (I0 o 46).toInt) rfl hg
                            have l_520 : (100 : Int32).toInt = 100 := rfl
                            refine ⟨fun c_521 => ?_, fun c_521 => ?_⟩
                            · have d_522 := iLe c_521
                              replace hg := gt_pos (by first | exact d_522 | omega) hg
                              exact (hp _ _ _ hR hf (by clear hg; first | (intro h; exfalso; omega) | (intro h; unfold isT; omega)) (by clear hg; intro h; omega) (by first | omega | (intro h; omega) | exact Or.inl rfl | exact Or.inr rfl) hg.symm)
                            · have d_523 := iNle c_521
                              replace hg := gt_neg (by first | exact d_523 | omega) hg
                              have g_524 : (0 : Int) ≤ (I0 o 6).toInt ∧ (I0 o 6).toInt ≤ 1600 := hR.at0 ra 6 (by decide)
                              replace hg := gt_let (y := (I0 o 6).toInt) rfl hg
                              refine y_Model_failsg hok hw ra hz14 hz15 (by first | omega | (intro h; omega) | exact Or.inl rfl | exact Or.inr rfl) hR (fun I_529 L_530 hR_531 fr_532 kp_533 u_526 u_527 gn_528 => ⟨I_529, L_530, rfl, rfl, ?_⟩)
                              replace hg := gt_b3 gn_528 hg
                              clear gn_528
                              have hf_534 : Fm (fun c => c = o) I0 I_529 := hf.call fr_532 (fun c hc => by first | exact hc | (dsimp only at hc ⊢; omega) | omega)
                              have t_535 : (I_529 o 3).toInt = (I0 o 3).toInt := by rw [kp_533 3 rfl]
                              have g_536 : (0 : Int) ≤ (I_529 o 4).toInt ∧ (I_529 o 4).toInt ≤ 5 := hR_531.at0 ra 4 (by decide)
                              have t_537 : (I_529 o 6).toInt = (I0 o 6).toInt := by rw [kp_533 6 rfl]
                              have t_538 : (I_529 o 7).toInt = (I0 o 7).toInt := by rw [kp_533 7 rfl]
                              have t_539 : (I_529 o 8).toInt = (I0 o 8).toInt := by rw [kp_533 8 rfl]
                              have t_540 : (I_529 o 9).toInt = (I0 o 9).toInt := by rw [kp_533 9 rfl]
                              have t_541 : (I_529 o 46).toInt = (I0 o 46).toInt := by rw [kp_533 46 rfl]
                              exact (hp _ _ _ hR_531 hf_534 (by clear hg; first | (intro h; exfalso; omega) | (intro h; unfold isT; omega)) (by clear hg; intro h; omega) (by first | omega | (intro h; omega) | exact Or.inl rfl | exact Or.inr rfl) hg.symm)
                  · have d_542 := iEq c_504
                    exfalso; omega
              · have d_543 := iNe c_364
                have i_544 := u_361 (by omega)
                replace hg := gt_neg (by first | exact d_543 | omega) hg
                unfold fModel_wordHere_170
                replace hg := (eModel_wordHere_170).symm.trans hg
                have l_545 : (115 : Int32).toInt = 115 := rfl
                have l_546 : (68 : Int32).toInt = 68 := rfl
                refine ⟨fun c_547 => ?_, fun c_547 => ?_⟩
                · have d_548 := iNe c_547
                  replace hg := gt_neg (by first | exact d_548 | omega) hg
                  refine ⟨fun c_549 => ?_, fun c_549 => ?_⟩
                  · have d_550 := iEq c_549
                    replace hg := gt_pos (by first | exact d_550 | omega) hg
                    unfold fModel_wordHere_205
                    replace hg := (eModel_wordHere_205).symm.trans hg
                    unfold fModel_wordHere_210
                    replace hg := (eModel_wordHere_210).symm.trans hg
                    refine ⟨fun c_551 => ?_, fun c_551 => ?_⟩
                    · have d_552 := iEq c_551
                      exfalso; omega
                    · have d_553 := iNe c_551
                      replace hg := gt_neg (by first | exact d_553 | omega) hg
                      refine ⟨fun c_554 => ?_, fun c_554 => ?_⟩
                      · have d_555 := iNe c_554
                        exfalso; omega
                      · have d_556 := iEq c_554
                        replace hg := gt_pos (by first | exact d_556 | omega) hg
                        have g_557 : (0 : Int) ≤ (I0 o 46).toInt ∧ (I0 o 46).toInt ≤ 100 := hR.at0 ra 46 (by decide)
                        replace hg := gt_let (y := (I0 o 46).toInt) rfl hg
                        have l_558 : (100 : Int32).toInt = 100 := rfl
                        refine ⟨fun c_559 => ?_, fun c_559 => ?_⟩
                        · have d_560 := iLe c_559
                          replace hg := gt_pos (by first | exact d_560 | omega) hg
                          exact (hp _ _ _ hR hf (by clear hg; first | (intro h; exfalso; omega) | (intro h; unfold isT; omega)) (by clear hg; intro h; omega) (by first | omega | (intro h; omega) | exact Or.inl rfl | exact Or.inr rfl) hg.symm)
                        · have d_561 := iNle c_559
                          replace hg := gt_neg (by first | exact d_561 | omega) hg
                          have g_562 : (0 : Int) ≤ (I0 o 6).toInt ∧ (I0 o 6).toInt ≤ 1600 := hR.at0 ra 6 (by decide)
                          replace hg := gt_let (y := (I0 o 6).toInt) rfl hg
                          refine y_Model_failsg hok hw ra hz14 hz15 (by first | omega | (intro h; omega) | exact Or.inl rfl | exact Or.inr rfl) hR (fun I_567 L_568 hR_569 fr_570 kp_571 u_564 u_565 gn_566 => ⟨I_567, L_568, rfl, rfl, ?_⟩)
                          replace hg := gt_b3 gn_566 hg
                          clear gn_566
                          have hf_572 : Fm (fun c => c = o) I0 I_567 := hf.call fr_570 (fun c hc => by first | exact hc | (dsimp only at hc ⊢; omega) | omega)
                          have t_573 : (I_567 o 3).toInt = (I0 o 3).toInt := by rw [kp_571 3 rfl]
                          have g_574 : (0 : Int) ≤ (I_567 o 4).toInt ∧ (I_567 o 4).toInt ≤ 5 := hR_569.at0 ra 4 (by decide)
                          have t_575 : (I_567 o 6).toInt = (I0 o 6).toInt := by rw [kp_571 6 rfl]
                          have t_576 : (I_567 o 7).toInt = (I0 o 7).toInt := by rw [kp_571 7 rfl]
                          have t_577 : (I_567 o 8).toInt = (I0 o 8).toInt := by rw [kp_571 8 rfl]
                          have t_578 : (I_567 o 9).toInt = (I0 o 9).toInt := by rw [kp_571 9 rfl]
                          have t_579 : (I_567 o 46).toInt = (I0 o 46).toInt := by rw [kp_571 46 rfl]
                          exact (hp _ _ _ hR_569 hf_572 (by clear hg; first | (intro h; exfalso; omega) | (intro h; unfold isT; omega)) (by clear hg; intro h; omega) (by first | omega | (intro h; omega) | exact Or.inl rfl | exact Or.inr rfl) hg.symm)
                  · have d_580 := iNe c_549
                    exfalso; omega
                · have d_581 := iEq c_547
                  exfalso; omega
          · have d_582 := iEq c_37
            replace hg := gt_pos (by first | exact d_582 | omega) hg
            unfold fModel_wordHere_64
            replace hg := (eModel_wordHere_64).symm.trans hg
            have l_583 : (1 : Int32).toInt = 1 := rfl
            replace hg := gt_let (y := (I0 o 49).toInt) rfl hg
            have l_584 : (5 : Int32).toInt = 5 := rfl
            refine ⟨fun c_585 => ?_, fun c_585 => ?_⟩
            · have d_586 := iLt c_585
              replace hg := gt_pos (by first | exact d_586 | omega) hg
              unfold fModel_wordHere_78
              replace hg := (eModel_wordHere_78).symm.trans hg
              refine y_Model_isWordg hok hw ra hR (fun r_587 u_588 u_589 gn_590 => ⟨r_587, I0, L0, rfl, rfl, ?_⟩)
              replace hg := gt_let gn_590 hg
              clear gn_590
              have b_591 : 0 ≤ r_587.toInt ∧ r_587.toInt ≤ 1 := u_588.rg
              refine ⟨fun c_592 => ?_, fun c_592 => ?_⟩
              · have d_593 := iEq c_592
                replace hg := gt_pos (by first | exact d_593 | omega) hg
                have l_594 : (1852138852 : Int32).toInt = 1852138852 := rfl
                refine y_Model_isWordg hok hw ra hR (fun r_595 u_596 u_597 gn_598 => ⟨r_595, I0, L0, rfl, rfl, ?_⟩)
                replace hg := gt_let gn_598 hg
                clear gn_598
                have b_599 : 0 ≤ r_595.toInt ∧ r_595.toInt ≤ 1 := u_596.rg
                refine ⟨fun c_600 => ?_, fun c_600 => ?_⟩
                · have d_601 := iEq c_600
                  replace hg := gt_pos (by first | exact d_601 | omega) hg
                  have l_602 : (1684109683 : Int32).toInt = 1684109683 := rfl
                  refine y_Model_isWordg hok hw ra hR (fun r_603 u_604 u_605 gn_606 => ⟨r_603, I0, L0, rfl, rfl, ?_⟩)
                  replace hg := gt_let gn_606 hg
                  clear gn_606
                  have b_607 : 0 ≤ r_603.toInt ∧ r_603.toInt ≤ 1 := u_604.rg
                  refine ⟨fun c_608 => ?_, fun c_608 => ?_⟩
                  · have d_609 := iEq c_608
                    replace hg := gt_pos (by first | exact d_609 | omega) hg
                    have l_610 : (6383461 : Int32).toInt = 6383461 := rfl
                    refine y_Model_isWordg hok hw ra hR (fun r_611 u_612 u_613 gn_614 => ⟨r_611, I0, L0, rfl, rfl, ?_⟩)
                    replace hg := gt_let gn_614 hg
                    clear gn_614
                    have b_615 : 0 ≤ r_611.toInt ∧ r_611.toInt ≤ 1 := u_612.rg
                    refine ⟨fun c_616 => ?_, fun c_616 => ?_⟩
                    · have d_617 := iEq c_616
                      replace hg := gt_pos (by first | exact d_617 | omega) hg
                      refine y_Model_isWordg hok hw ra hR (fun r_618 u_619 u_620 gn_621 => ⟨r_618, I0, L0, rfl, rfl, ?_⟩)
                      replace hg := gt_let gn_621 hg
                      clear gn_621
                      have b_622 : 0 ≤ r_618.toInt ∧ r_618.toInt ≤ 1 := u_619.rg
                      refine ⟨fun c_623 => ?_, fun c_623 => ?_⟩
                      · have d_624 := iEq c_623
                        replace hg := gt_pos (by first | exact d_624 | omega) hg
                        refine y_Model_isWordg hok hw ra hR (fun r_625 u_626 u_627 gn_628 => ⟨r_625, I0, L0, rfl, rfl, ?_⟩)
                        replace hg := gt_let gn_628 hg
                        clear gn_628
                        have b_629 : 0 ≤ r_625.toInt ∧ r_625.toInt ≤ 1 := u_626.rg
                        refine ⟨fun c_630 => ?_, fun c_630 => ?_⟩
                        · have d_631 := iEq c_630
                          replace hg := gt_pos (by first | exact d_631 | omega) hg
                          unfold fModel_wordHere_170
                          replace hg := (eModel_wordHere_170).symm.trans hg
                          have l_632 : (68 : Int32).toInt = 68 := rfl
                          refine ⟨fun c_633 => ?_, fun c_633 => ?_⟩
                          · have d_634 := iNe c_633
                            replace hg := gt_neg (by first | exact d_634 | omega) hg
                            have l_635 : (115 : Int32).toInt = 115 := rfl
                            refine ⟨fun c_636 => ?_, fun c_636 => ?_⟩
                            · have d_637 := iEq c_636
                              exfalso; omega
                            · have d_638 := iNe c_636
                              replace hg := gt_neg (by first | exact d_638 | omega) hg
                              have l_639 : (110 : Int32).toInt = 110 := rfl
                              refine ⟨fun c_640 => ?_, fun c_640 => ?_⟩
                              · have d_641 := iNe c_640
                                replace hg := gt_neg (by first | exact d_641 | omega) hg
                                unfold fModel_wordHere_210
                                replace hg := (eModel_wordHere_210).symm.trans hg
                                refine ⟨fun c_642 => ?_, fun c_642 => ?_⟩
                                · have d_643 := iEq c_642
                                  replace hg := gt_pos (by first | exact d_643 | omega) hg
                                  exact (hp _ _ _ hR hf (by clear hg; first | (intro h; exfalso; omega) | (intro h; unfold isT; omega)) (by clear hg; intro h; omega) (by first | omega | (intro h; omega) | exact Or.inl rfl | exact Or.inr rfl) hg.symm)
                                · have d_644 := iNe c_642
                                  exfalso; omega
                              · have d_645 := iEq c_640
                                exfalso; omega
                          · have d_646 := iEq c_633
                            exfalso; omega
                        · have d_647 := iNe c_630
                          have i_648 := u_627 (by omega)
                          replace hg := gt_neg (by first | exact d_647 | omega) hg
                          unfold fModel_wordHere_170
                          replace hg := (eModel_wordHere_170).symm.trans hg
                          have l_649 : (98 : Int32).toInt = 98 := rfl
                          have l_650 : (68 : Int32).toInt = 68 := rfl
                          refine ⟨fun c_651 => ?_, fun c_651 => ?_⟩
                          · have d_652 := iNe c_651
                            replace hg := gt_neg (by first | exact d_652 | omega) hg
                            have l_653 : (115 : Int32).toInt = 115 := rfl
                            refine ⟨fun c_654 => ?_, fun c_654 => ?_⟩
                            · have d_655 := iEq c_654
                              exfalso; omega
                            · have d_656 := iNe c_654
                              replace hg := gt_neg (by first | exact d_656 | omega) hg
                              have l_657 : (110 : Int32).toInt = 110 := rfl
                              refine ⟨fun c_658 => ?_, fun c_658 => ?_⟩
                              · have d_659 := iNe c_658
                                replace hg := gt_neg (by first | exact d_659 | omega) hg
                                unfold fModel_wordHere_210
                                replace hg := (eModel_wordHere_210).symm.trans hg
                                refine ⟨fun c_660 => ?_, fun c_660 => ?_⟩
                                · have d_661 := iEq c_660
                                  exfalso; omega
                                · have d_662 := iNe c_660
                                  replace hg := gt_neg (by first | exact d_662 | omega) hg
                                  refine ⟨fun c_663 => ?_, fun c_663 => ?_⟩
                                  · have d_664 := iNe c_663
                                    exfalso; omega
                                  · have d_665 := iEq c_663
                                    replace hg := gt_pos (by first | exact d_665 | omega) hg
                                    have g_666 : (0 : Int) ≤ (I0 o 46).toInt ∧ (I0 o 46).toInt ≤ 100 := hR.at0 ra 46 (by decide)
                                    replace hg := gt_let (y := (I0 o 46).toInt) rfl hg
                                    have l_667 : (100 : Int32).toInt = 100 := rfl
                                    refine ⟨fun c_668 => ?_, fun c_668 => ?_⟩
                                    · have d_669 := iLe c_668
                                      replace hg := gt_pos (by first | exact d_669 | omega) hg
                                      exact (hp _ _ _ hR hf (by clear hg; first | (intro h; exfalso; omega) | (intro h; unfold isT; omega)) (by clear hg; intro h; omega) (by first | omega | (intro h; omega) | exact Or.inl rfl | exact Or.inr rfl) hg.symm)
                                    · have d_670 := iNle c_668
                                      replace hg := gt_neg (by first | exact d_670 | omega) hg
                                      have g_671 : (0 : Int) ≤ (I0 o 6).toInt ∧ (I0 o 6).toInt ≤ 1600 := hR.at0 ra 6 (by decide)
                                      replace hg := gt_let (y := (I0 o 6).toInt) rfl hg
                                      refine y_Model_failsg hok hw ra hz14 hz15 (by first | omega | (intro h; omega) | exact Or.inl rfl | exact Or.inr rfl) hR (fun I_676 L_677 hR_678 fr_679 kp_680 u_673 u_674 gn_675 => ⟨I_676, L_677, rfl, rfl, ?_⟩)
                                      replace hg := gt_b3 gn_675 hg
                                      clear gn_675
                                      have hf_681 : Fm (fun c => c = o) I0 I_676 := hf.call fr_679 (fun c hc => by first | exact hc | (dsimp only at hc ⊢; omega) | omega)
                                      have t_682 : (I_676 o 3).toInt = (I0 o 3).toInt := by rw [kp_680 3 rfl]
                                      have g_683 : (0 : Int) ≤ (I_676 o 4).toInt ∧ (I_676 o 4).toInt ≤ 5 := hR_678.at0 ra 4 (by decide)
                                      have t_684 : (I_676 o 6).toInt = (I0 o 6).toInt := by rw [kp_680 6 rfl]
                                      have t_685 : (I_676 o 7).toInt = (I0 o 7).toInt := by rw [kp_680 7 rfl]
                                      have t_686 : (I_676 o 8).toInt = (I0 o 8).toInt := by rw [kp_680 8 rfl]
                                      have t_687 : (I_676 o 9).toInt = (I0 o 9).toInt := by rw [kp_680 9 rfl]
                                      have t_688 : (I_676 o 46).toInt = (I0 o 46).toInt := by rw [kp_680 46 rfl]
                                      exact (hp _ _ _ hR_678 hf_681 (by clear hg; first | (intro h; exfalso; omega) | (intro h; unfold isT; omega)) (by clear hg; intro h; omega) (by first | omega | (intro h; omega) | exact Or.inl rfl | exact Or.inr rfl) hg.symm)
                              · have d_689 := iEq c_658
                                exfalso; omega
                          · have d_690 := iEq c_651
                            exfalso; omega
                      · have d_691 := iNe c_623
                        have i_692 := u_620 (by omega)
                        replace hg := gt_neg (by first | exact d_691 | omega) hg
                        unfold fModel_wordHere_170
                        replace hg := (eModel_wordHere_170).symm.trans hg
                        have l_693 : (107 : Int32).toInt = 107 := rfl
                        have l_694 : (68 : Int32).toInt = 68 := rfl
                        refine ⟨fun c_695 => ?_, fun c_695 => ?_⟩
                        · have d_696 := iNe c_695
                          replace hg := gt_neg (by first | exact d_696 | omega) hg
                          have l_697 : (115 : Int32).toInt = 115 := rfl
                          refine ⟨fun c_698 => ?_, fun c_698 => ?_⟩
                          · have d_699 := iEq c_698
                            exfalso; omega
                          · have d_700 := iNe c_698
                            replace hg := gt_neg (by first | exact d_700 | omega) hg
                            have l_701 : (110 : Int32).toInt = 110 := rfl
                            refine ⟨fun c_702 => ?_, fun c_702 => ?_⟩
                            · have d_703 := iNe c_702
                              replace hg := gt_neg (by first | exact d_703 | omega) hg
                              unfold fModel_wordHere_210
                              replace hg := (eModel_wordHere_210).symm.trans hg
                              refine ⟨fun c_704 => ?_, fun c_704 => ?_⟩
                              · have d_705 := iEq c_704
                                exfalso; omega
                              · have d_706 := iNe c_704
                                replace hg := gt_neg (by first | exact d_706 | omega) hg
                                refine ⟨fun c_707 => ?_, fun c_707 => ?_⟩
                                · have d_708 := iNe c_707
                                  exfalso; omega
                                · have d_709 := iEq c_707
                                  replace hg := gt_pos (by first | exact d_709 | omega) hg
                                  have g_710 : (0 : Int) ≤ (I0 o 46).toInt ∧ (I0 o 46).toInt ≤ 100 := hR.at0 ra 46 (by decide)
                                  replace hg := gt_let (y := (I0 o 46).toInt) rfl hg
                                  have l_711 : (100 : Int32).toInt = 100 := rfl
                                  refine ⟨fun c_712 => ?_, fun c_712 => ?_⟩
                                  · have d_713 := iLe c_712
                                    replace hg := gt_pos (by first | exact d_713 | omega) hg
                                    exact (hp _ _ _ hR hf (by clear hg; first | (intro h; exfalso; omega) | (intro h; unfold isT; omega)) (by clear hg; intro h; omega) (by first | omega | (intro h; omega) | exact Or.inl rfl | exact Or.inr rfl) hg.symm)
                                  · have d_714 := iNle c_712
                                    replace hg := gt_neg (by first | exact d_714 | omega) hg
                                    have g_715 : (0 : Int) ≤ (I0 o 6).toInt ∧ (I0 o 6).toInt ≤ 1600 := hR.at0 ra 6 (by decide)
                                    replace hg := gt_let (y := (I0 o 6).toInt) rfl hg
                                    refine y_Model_failsg hok hw ra hz14 hz15 (by first | omega | (intro h; omega) | exact Or.inl rfl | exact Or.inr rfl) hR (fun I_720 L_721 hR_722 fr_723 kp_724 u_717 u_718 gn_719 => ⟨I_720, L_721, rfl, rfl, ?_⟩)
                                    replace hg := gt_b3 gn_719 hg
                                    clear gn_719
                                    have hf_725 : Fm (fun c => c = o) I0 I_720 := hf.call fr_723 (fun c hc => by first | exact hc | (dsimp only at hc ⊢; omega) | omega)
                                    have t_726 : (I_720 o 3).toInt = (I0 o 3).toInt := by rw [kp_724 3 rfl]
                                    have g_727 : (0 : Int) ≤ (I_720 o 4).toInt ∧ (I_720 o 4).toInt ≤ 5 := hR_722.at0 ra 4 (by decide)
                                    have t_728 : (I_720 o 6).toInt = (I0 o 6).toInt := by rw [kp_724 6 rfl]
                                    have t_729 : (I_720 o 7).toInt = (I0 o 7).toInt := by rw [kp_724 7 rfl]
                                    have t_730 : (I_720 o 8).toInt = (I0 o 8).toInt := by rw [kp_724 8 rfl]
                                    have t_731 : (I_720 o 9).toInt = (I0 o 9).toInt := by rw [kp_724 9 rfl]
                                    have t_732 : (I_720 o 46).toInt = (I0 o 46).toInt := by rw [kp_724 46 rfl]
                                    exact (hp _ _ _ hR_722 hf_725 (by clear hg; first | (intro h; exfalso; omega) | (intro h; unfold isT; omega)) (by clear hg; intro h; omega) (by first | omega | (intro h; omega) | exact Or.inl rfl | exact Or.inr rfl) hg.symm)
                            · have d_733 := iEq c_702
                              exfalso; omega
                        · have d_734 := iEq c_695
                          exfalso; omega
                    · have d_735 := iNe c_616
                      have i_736 := u_613 (by omega)
                      replace hg := gt_neg (by first | exact d_735 | omega) hg
                      unfold fModel_wordHere_170
                      replace hg := (eModel_wordHere_170).symm.trans hg
                      have l_737 : (97 : Int32).toInt = 97 := rfl
                      have l_738 : (68 : Int32).toInt = 68 := rfl
                      refine ⟨fun c_739 => ?_, fun c_739 => ?_⟩
                      · have d_740 := iNe c_739
                        replace hg := gt_neg (by first | exact d_740 | omega) hg
                        have l_741 : (115 : Int32).toInt = 115 := rfl
                        refine ⟨fun c_742 => ?_, fun c_742 => ?_⟩
                        · have d_743 := iEq c_742
                          exfalso; omega
                        · have d_744 := iNe c_742
                          replace hg := gt_neg (by first | exact d_744 | omega) hg
                          have l_745 : (110 : Int32).toInt = 110 := rfl
                          refine ⟨fun c_746 => ?_, fun c_746 => ?_⟩
                          · have d_747 := iNe c_746
                            replace hg := gt_neg (by first | exact d_747 | omega) hg
                            unfold fModel_wordHere_210
                            replace hg := (eModel_wordHere_210).symm.trans hg
                            refine ⟨fun c_748 => ?_, fun c_748 => ?_⟩
                            · have d_749 := iEq c_748
                              exfalso; omega
                            · have d_750 := iNe c_748
                              replace hg := gt_neg (by first | exact d_750 | omega) hg
                              refine ⟨fun c_751 => ?_, fun c_751 => ?_⟩
                              · have d_752 := iNe c_751
                                exfalso; omega
                              · have d_753 := iEq c_751
                                replace hg := gt_pos (by first | exact d_753 | omega) hg
                                have g_754 : (0 : Int) ≤ (I0 o 46).toInt ∧ (I0 o 46).toInt ≤ 100 := hR.at0 ra 46 (by decide)
                                replace hg := gt_let (y := (I0 o 46).toInt) rfl hg
                                have l_755 : (100 : Int32).toInt = 100 := rfl
                                refine ⟨fun c_756 => ?_, fun c_756 => ?_⟩
                                · have d_757 := iLe c_756
                                  replace hg := gt_pos (by first | exact d_757 | omega) hg
                                  exact (hp _ _ _ hR hf (by clear hg; first | (intro h; exfalso; omega) | (intro h; unfold isT; omega)) (by clear hg; intro h; omega) (by first | omega | (intro h; omega) | exact Or.inl rfl | exact Or.inr rfl) hg.symm)
                                · have d_758 := iNle c_756
                                  replace hg := gt_neg (by first | exact d_758 | omega) hg
                                  have g_759 : (0 : Int) ≤ (I0 o 6).toInt ∧ (I0 o 6).toInt ≤ 1600 := hR.at0 ra 6 (by decide)
                                  replace hg := gt_let (y := (I0 o 6).toInt) rfl hg
                                  refine y_Model_failsg hok hw ra hz14 hz15 (by first | omega | (intro h; omega) | exact Or.inl rfl | exact Or.inr rfl) hR (fun I_764 L_765 hR_766 fr_767 kp_768 u_761 u_762 gn_763 => ⟨I_764, L_765, rfl, rfl, ?_⟩)
                                  replace hg := gt_b3 gn_763 hg
                                  clear gn_763
                                  have hf_769 : Fm (fun c => c = o) I0 I_764 := hf.call fr_767 (fun c hc => by first | exact hc | (dsimp only at hc ⊢; omega) | omega)
                                  have t_770 : (I_764 o 3).toInt = (I0 o 3).toInt := by rw [kp_768 3 rfl]
                                  have g_771 : (0 : Int) ≤ (I_764 o 4).toInt ∧ (I_764 o 4).toInt ≤ 5 := hR_766.at0 ra 4 (by decide)
                                  have t_772 : (I_764 o 6).toInt = (I0 o 6).toInt := by rw [kp_768 6 rfl]
                                  have t_773 : (I_764 o 7).toInt = (I0 o 7).toInt := by rw [kp_768 7 rfl]
                                  have t_774 : (I_764 o 8).toInt = (I0 o 8).toInt := by rw [kp_768 8 rfl]
                                  have t_775 : (I_764 o 9).toInt = (I0 o 9).toInt := by rw [kp_768 9 rfl]
                                  have t_776 : (I_764 o 46).toInt = (I0 o 46).toInt := by rw [kp_768 46 rfl]
                                  exact (hp _ _ _ hR_766 hf_769 (by clear hg; first | (intro h; exfalso; omega) | (intro h; unfold isT; omega)) (by clear hg; intro h; omega) (by first | omega | (intro h; omega) | exact Or.inl rfl | exact Or.inr rfl) hg.symm)
                          · have d_777 := iEq c_746
                            exfalso; omega
                      · have d_778 := iEq c_739
                        exfalso; omega
                  · have d_779 := iNe c_608
                    have i_780 := u_605 (by omega)
                    replace hg := gt_neg (by first | exact d_779 | omega) hg
                    unfold fModel_wordHere_170
                    replace hg := (eModel_wordHere_170).symm.trans hg
                    have l_781 : (68 : Int32).toInt = 68 := rfl
                    refine ⟨fun c_782 => ?_, fun c_782 => ?_⟩
                    · have d_783 := iNe c_782
                      exfalso; omega
                    · have d_784 := iEq c_782
                      replace hg := gt_pos (by first | exact d_784 | omega) hg
                      refine ⟨fun c_785 => ?_, fun c_785 => ?_⟩
                      · have d_786 := iNe c_785
                        replace hg := gt_neg (by first | exact d_786 | omega) hg
                        unfold fModel_wordHere_185
                        replace hg := (eModel_wordHere_185).symm.trans hg
                        unfold fModel_wordHere_210
                        replace hg := (eModel_wordHere_210).symm.trans hg
                        refine ⟨fun c_787 => ?_, fun c_787 => ?_⟩
                        · have d_788 := iEq c_787
                          exfalso; omega
                        · have d_789 := iNe c_787
                          replace hg := gt_neg (by first | exact d_789 | omega) hg
                          refine ⟨fun c_790 => ?_, fun c_790 => ?_⟩
                          · have d_791 := iNe c_790
                            replace hg := gt_neg (by first | exact d_791 | omega) hg
                            exact (hp _ _ _ hR hf (by clear hg; first | (intro h; exfalso; omega) | (intro h; unfold isT; omega)) (by clear hg; intro h; omega) (by first | omega | (intro h; omega) | exact Or.inl rfl | exact Or.inr rfl) hg.symm)
                          · have d_792 := iEq c_790
                            exfalso; omega
                      · have d_793 := iEq c_785
                        exfalso; omega
                · have d_794 := iNe c_600
                  have i_795 := u_597 (by omega)
                  replace hg := gt_neg (by first | exact d_794 | omega) hg
                  unfold fModel_wordHere_170
                  replace hg := (eModel_wordHere_170).symm.trans hg
                  have l_796 : (110 : Int32).toInt = 110 := rfl
                  have l_797 : (68 : Int32).toInt = 68 := rfl
                  refine ⟨fun c_798 => ?_, fun c_798 => ?_⟩
                  · have d_799 := iNe c_798
                    replace hg := gt_neg (by first | exact d_799 | omega) hg
                    have l_800 : (115 : Int32).toInt = 115 := rfl
                    refine ⟨fun c_801 => ?_, fun c_801 => ?_⟩
                    · have d_802 := iEq c_801
                      exfalso; omega
                    · have d_803 := iNe c_801
                      replace hg := gt_neg (by first | exact d_803 | omega) hg
                      refine ⟨fun c_804 => ?_, fun c_804 => ?_⟩
                      · have d_805 := iNe c_804
                        exfalso; omega
                      · have d_806 := iEq c_804
                        replace hg := gt_pos (by first | exact d_806 | omega) hg
                        unfold fModel_wordHere_205
                        replace hg := (eModel_wordHere_205).symm.trans hg
                        unfold fModel_wordHere_210
                        replace hg := (eModel_wordHere_210).symm.trans hg
                        refine ⟨fun c_807 => ?_, fun c_807 => ?_⟩
                        · have d_808 := iEq c_807
                          exfalso; omega
                        · have d_809 := iNe c_807
                          replace hg := gt_neg (by first | exact d_809 | omega) hg
                          refine ⟨fun c_810 => ?_, fun c_810 => ?_⟩
                          · have d_811 := iNe c_810
                            replace hg := gt_neg (by first | exact d_811 | omega) hg
                            exact (hp _ _ _ hR hf (by clear hg; first | (intro h; exfalso; omega) | (intro h; unfold isT; omega)) (by clear hg; intro h; omega) (by first | omega | (intro h; omega) | exact Or.inl rfl | exact Or.inr rfl) hg.symm)
                          · have d_812 := iEq c_810
                            exfalso; omega
                  · have d_813 := iEq c_798
                    exfalso; omega
              · have d_814 := iNe c_592
                have i_815 := u_589 (by omega)
                replace hg := gt_neg (by first | exact d_814 | omega) hg
                unfold fModel_wordHere_170
                replace hg := (eModel_wordHere_170).symm.trans hg
                have l_816 : (115 : Int32).toInt = 115 := rfl
                have l_817 : (68 : Int32).toInt = 68 := rfl
                refine ⟨fun c_818 => ?_, fun c_818 => ?_⟩
                · have d_819 := iNe c_818
                  replace hg := gt_neg (by first | exact d_819 | omega) hg
                  refine ⟨fun c_820 => ?_, fun c_820 => ?_⟩
                  · have d_821 := iEq c_820
                    replace hg := gt_pos (by first | exact d_821 | omega) hg
                    unfold fModel_wordHere_205
                    replace hg := (eModel_wordHere_205).symm.trans hg
                    unfold fModel_wordHere_210
                    replace hg := (eModel_wordHere_210).symm.trans hg
                    refine ⟨fun c_822 => ?_, fun c_822 => ?_⟩
                    · have d_823 := iEq c_822
                      exfalso; omega
                    · have d_824 := iNe c_822
                      replace hg := gt_neg (by first | exact d_824 | omega) hg
                      refine ⟨fun c_825 => ?_, fun c_825 => ?_⟩
                      · have d_826 := iNe c_825
                        replace hg := gt_neg (by first | exact d_826 | omega) hg
                        exact (hp _ _ _ hR hf (by clear hg; first | (intro h; exfalso; omega) | (intro h; unfold isT; omega)) (by clear hg; intro h; omega) (by first | omega | (intro h; omega) | exact Or.inl rfl | exact Or.inr rfl) hg.symm)
                      · have d_827 := iEq c_825
                        exfalso; omega
                  · have d_828 := iNe c_820
                    exfalso; omega
                · have d_829 := iEq c_818
                  exfalso; omega
            · have d_830 := iNlt c_585
              exfalso; omega
        · have d_831 := iNe c_35
          have i_832 := u_32 (by omega)
          replace hg := gt_neg (by first | exact d_831 | omega) hg
          have l_833 : (100 : Int32).toInt = 100 := rfl
          exact (hp _ _ _ hR hf (by clear hg; first | (intro h; exfalso; omega) | (intro h; unfold isT; omega)) (by clear hg; intro h; omega) (by first | omega | (intro h; omega) | exact Or.inl rfl | exact Or.inr rfl) hg.symm)
      · have d_834 := iNe c_27
        have i_835 := u_24 (by omega)
        replace hg := gt_neg (by first | exact d_834 | omega) hg
        have l_836 : (119 : Int32).toInt = 119 := rfl
        exact (hp _ _ _ hR hf (by clear hg; first | (intro h; exfalso; omega) | (intro h; unfold isT; omega)) (by clear hg; intro h; omega) (by first | omega | (intro h; omega) | exact Or.inl rfl | exact Or.inr rfl) hg.symm)
    · have d_837 := iNe c_20
      have i_838 := u_17 (by omega)
      replace hg := gt_neg (by first | exact d_837 | omega) hg
      have l_839 : (109 : Int32).toInt = 109 := rfl
      exact (hp _ _ _ hR hf (by clear hg; first | (intro h; exfalso; omega) | (intro h; unfold isT; omega)) (by clear hg; intro h; omega) (by first | omega | (intro h; omega) | exact Or.inl rfl | exact Or.inr rfl) hg.symm)
  · have d_840 := iNe c_13
    have i_841 := u_9 (by omega)
    replace hg := gt_neg (by first | exact d_840 | omega) hg
    have l_842 : (121 : Int32).toInt = 121 := rfl
    exact (hp _ _ _ hR hf (by clear hg; first | (intro h; exfalso; omega) | (intro h; unfold isT; omega)) (by clear hg; intro h; omega) (by first | omega | (intro h; omega) | exact Or.inl rfl | exact Or.inr rfl) hg.symm)
theorem y_Model_wordHereg {D : va_G} {cA : FieldType → ClassId} {b : Nat} {E : State → Prop} {R : qRg} {o n : Nat} {sh : Nat → qC} {Rf : Nat → Nat → Option Nat} {I0 : Nat → Nat → Int32} {L0 : Nat → Nat → Int64} {post : Option Value → qS → Prop} (hok : q_ok (qGG D cA b E)) (hw : WfModel (qGG D cA b E) n sh Rf o) (ra : RAModel R o) (hz14 : R.2 14 = true) (hz15 : R.2 15 = true) (hR : RI R I0) (hp : ∀ (r : Int32) (I' : Nat → Nat → Int32) (L' : Nat → Nat → Int64), RI R I' → Fm (fun c => c = o) I0 I' → Kp wModel_wordHere I0 I' o → (Im (r.toInt ≠ 0) (isT r.toInt)) → (Im (r.toInt ≠ 0) ((I0 o 8).toInt = 3)) → ((I0 o 4).toInt ≤ (I' o 4).toInt) → (gModel_wordHere_0 o (tI I0) L0 = (r.toInt, tI I', L')) → post (some (.int r)) (n, sh, Rf, I', L')) : Ev (qGG D cA b E) mModel_wordHere 1 (0, 0) 0 (lv_args 0 [.ref o]) [] (n, sh, Rf, I0, L0) post :=
  yc_Model_wordHereg (R := fzR R I0 o wModel_wordHere) hok hw (fzA ra hR _) (fzT hz14 rfl) (fzT hz15 rfl) fzZ (fzI hR) (fzI hR) (fun r I' L' h1 h2 u0 u1 u2 ug => hp r I' L' (fzB hR h1) h2 (fzP h1) u0 u1 u2 ug)
noncomputable def gModel_step_0 (o : Nat) (J : gJ) (L : gL) (x1 : Int) (x2 : Int) : Int × gJ × gL := gLet (J o 44) (fun (v_1 : Int) => gLet (700 * v_1) (fun (v_2 : Int) => gLet (J o 45) (fun (v_3 : Int) => gLet (v_2 + v_3) (fun (v_4 : Int) => gLet (q_u J (o + 30) (Int.toNat v_4) x1) (fun (J_5 : gJ) => gLet (J_5 o 44) (fun (v_6 : Int) => gLet (700 * v_6) (fun (v_7 : Int) => gLet (J_5 o 45) (fun (v_8 : Int) => gLet (v_7 + v_8) (fun (v_9 : Int) => gLet (q_u J_5 (o + 31) (Int.toNat v_9) x2) (fun (J_10 : gJ) => gLet (J_10 o 45) (fun (v_11 : Int) => gLet (v_11 + 1) (fun (v_12 : Int) => gLet (q_u J_10 o 45 v_12) (fun (J_13 : gJ) => (0, J_13, L))))))))))))))
theorem eModel_step_0 {o : Nat} {J : gJ} {L : gL} {x1 : Int} {x2 : Int} : gModel_step_0 o J L x1 x2 = gLet (J o 44) (fun (v_1 : Int) => gLet (700 * v_1) (fun (v_2 : Int) => gLet (J o 45) (fun (v_3 : Int) => gLet (v_2 + v_3) (fun (v_4 : Int) => gLet (q_u J (o + 30) (Int.toNat v_4) x1) (fun (J_5 : gJ) => gLet (J_5 o 44) (fun (v_6 : Int) => gLet (700 * v_6) (fun (v_7 : Int) => gLet (J_5 o 45) (fun (v_8 : Int) => gLet (v_7 + v_8) (fun (v_9 : Int) => gLet (q_u J_5 (o + 31) (Int.toNat v_9) x2) (fun (J_10 : gJ) => gLet (J_10 o 45) (fun (v_11 : Int) => gLet (v_11 + 1) (fun (v_12 : Int) => gLet (q_u J_10 o 45 v_12) (fun (J_13 : gJ) => (0, J_13, L)))))))))))))) := rfl
set_option maxHeartbeats 4000000 in
set_option maxRecDepth 20000 in
theorem yc_Model_stepg {D : va_G} {cA : FieldType → ClassId} {b : Nat} {E : State → Prop} {R : qRg} {o n : Nat} {sh : Nat → qC} {Rf : Nat → Nat → Option Nat} {I0 : Nat → Nat → Int32} {L0 : Nat → Nat → Int64} {post : Option Value → qS → Prop} {p1 : Int32} {p2 : Int32} (hok : q_ok (qGG D cA b E)) (hw : WfModel (qGG D cA b E) n sh Rf o) (ra : RAModel R o) (hz55 : R.2 55 = true) (hZ : Fz R I0 o wModel_step) (hR0 : RI R I0) (hq0 : (I0 o 44).toInt = 4) (hq1 : (I0 o 45).toInt ≤ 699) (hR : RI R I0) (hp : ∀ (I' : Nat → Nat → Int32) (L' : Nat → Nat → Int64), RI R I' → Fm (fun c => c = o ∨ c = o + 30 ∨ c = o + 31) I0 I' → (I' (o + 30) = rU (I0 (o + 30)) (2800 + (I0 o 45).toInt.toNat) p1) → ((I' o 45).toInt = (I0 o 45).toInt + 1) → (gModel_step_0 o (tI I0) L0 (p1).toInt (p2).toInt = (0, tI I', L')) → post none (n, sh, Rf, I', L')) : Ev (qGG D cA b E) mModel_step 0 (0, 0) 0 (lv_args 0 [.ref o, .int p1, .int p2]) [] (n, sh, Rf, I0, L0) post := by
  have hf : Fm (fun c => c = o ∨ c = o + 30 ∨ c = o + 31) I0 I0 := Fm.rf
  have g_1 : (0 : Int) ≤ (I0 o 44).toInt ∧ (I0 o 44).toInt ≤ 4 := hR.at0 ra 44 (by decide)
  have g_2 : (0 : Int) ≤ (I0 o 45).toInt ∧ (I0 o 45).toInt ≤ 700 := hR.at0 ra 45 (by decide)
  refine sModel_step_0 o n sh Rf I0 L0 post p1 p2 hok hw ?_
  unfold fModel_step_0
  have hg : gModel_step_0 o (tI I0) L0 (p1).toInt (p2).toInt = gModel_step_0 o (tI I0) L0 (p1).toInt (p2).toInt := rfl
  replace hg := (eModel_step_0).symm.trans hg
  have g_3 : (0 : Int) ≤ (I0 o 44).toInt ∧ (I0 o 44).toInt ≤ 4 := hR.at0 ra 44 (by decide)
  replace hg := gt_let (y := (I0 o 44).toInt) rfl hg
  have l_4 : (700 : Int32).toInt = 700 := rfl
  have a_5 : (700 * (I0 o 44)).toInt = 700 * (I0 o 44).toInt := tMulL rfl (by omega) (by omega)
  replace hg := gt_let (y := ((700 * (I0 o 44)) : Int32).toInt) (by omega) hg
  have g_6 : (0 : Int) ≤ (I0 o 45).toInt ∧ (I0 o 45).toInt ≤ 700 := hR.at0 ra 45 (by decide)
  replace hg := gt_let (y := (I0 o 45).toInt) rfl hg
  have a_7 : ((700 * (I0 o 44)) + (I0 o 45)).toInt = (700 * (I0 o 44)).toInt + (I0 o 45).toInt := tAdd (by omega) (by omega)
  replace hg := gt_let (y := (((700 * (I0 o 44)) + (I0 o 45)) : Int32).toInt) (by omega) hg
  refine ⟨tIn (by omega) (by omega), fun I_8 e_9 => ?_⟩
  replace hg := gt_let (y := tI I_8) (tI_q e_9) hg
  have hR_10 : RI R I_8 := hR.up ra 30 (by decide) (Or.inl rfl) e_9 (i_lo _) (i_hi _)
  have hf_11 : Fm (fun c => c = o ∨ c = o + 30 ∨ c = o + 31) I0 I_8 := hf.set (by first | rfl | omega | (dsimp only; omega)) e_9
  have t_12 : (I_8 o 44).toInt = (I0 o 44).toInt := by rw [← e_9, q_u_ne (by omega)]
  have t_13 : (I_8 o 45).toInt = (I0 o 45).toInt := by rw [← e_9, q_u_ne (by omega)]
  have g_14 : (0 : Int) ≤ (I_8 o 44).toInt ∧ (I_8 o 44).toInt ≤ 4 := hR_10.at0 ra 44 (by decide)
  replace hg := gt_let (y := (I_8 o 44).toInt) rfl hg
  have a_15 : (700 * (I_8 o 44)).toInt = 700 * (I_8 o 44).toInt := tMulL rfl (by omega) (by omega)
  replace hg := gt_let (y := ((700 * (I_8 o 44)) : Int32).toInt) (by omega) hg
  have g_16 : (0 : Int) ≤ (I_8 o 45).toInt ∧ (I_8 o 45).toInt ≤ 700 := hR_10.at0 ra 45 (by decide)
  replace hg := gt_let (y := (I_8 o 45).toInt) rfl hg
  have a_17 : ((700 * (I_8 o 44)) + (I_8 o 45)).toInt = (700 * (I_8 o 44)).toInt + (I_8 o 45).toInt := tAdd (by omega) (by omega)
  replace hg := gt_let (y := (((700 * (I_8 o 44)) + (I_8 o 45)) : Int32).toInt) (by omega) hg
  refine ⟨tIn (by omega) (by omega), fun I_18 e_19 => ?_⟩
  replace hg := gt_let (y := tI I_18) (tI_q e_19) hg
  have hR_20 : RI R I_18 := hR_10.up ra 31 (by decide) (Or.inl rfl) e_19 (i_lo _) (i_hi _)
  have hf_21 : Fm (fun c => c = o ∨ c = o + 30 ∨ c = o + 31) I0 I_18 := hf_11.set (by first | rfl | omega | (dsimp only; omega)) e_19
  have t_22 : (I_18 o 44).toInt = (I_8 o 44).toInt := by rw [← e_19, q_u_ne (by omega)]
  have t_23 : (I_18 o 45).toInt = (I_8 o 45).toInt := by rw [← e_19, q_u_ne (by omega)]
  have g_24 : (0 : Int) ≤ (I_18 o 45).toInt ∧ (I_18 o 45).toInt ≤ 700 := hR_20.at0 ra 45 (by decide)
  replace hg := gt_let (y := (I_18 o 45).toInt) rfl hg
  have l_25 : (1 : Int32).toInt = 1 := rfl
  have a_26 : ((I_18 o 45) + 1).toInt = (I_18 o 45).toInt + (1 : Int32).toInt := tAdd (by omega) (by omega)
  replace hg := gt_let (y := (((I_18 o 45) + 1) : Int32).toInt) (by omega) hg
  refine fun I_27 e_28 => ?_
  replace hg := gt_let (y := tI I_27) (tI_q e_28) hg
  have hR_29 : RI R I_27 := hR_20.up0 (k := 45) ra (by decide) (Or.inr hz55) e_28 (show (0 : Int) ≤ ((I_18 o 45) + 1).toInt by omega) (show ((I_18 o 45) + 1).toInt ≤ (700 : Int) by omega)
  have hf_30 : Fm (fun c => c = o ∨ c = o + 30 ∨ c = o + 31) I0 I_27 := hf_21.set (by first | rfl | omega | (dsimp only; omega)) e_28
  have t_31 : (I_27 o 44).toInt = (I_18 o 44).toInt := by rw [← e_28, q_u_k (by decide)]
  have t_32 : (I_27 o 45).toInt = ((I_18 o 45) + 1).toInt := by rw [← e_28, q_u_at]
  exact (hp _ _ hR_29 hf_30 (by clear hg; rw [← e_28, q_u_ne (by omega), ← e_19, q_u_ne (by omega)]; exact rU_q e_9 (by have cl := tCl (x := 700 * I0 o 44 + I0 o 45) (by omega); omega)) (by first | omega | (intro h; omega) | exact Or.inl rfl | exact Or.inr rfl) hg.symm)
theorem y_Model_stepg {D : va_G} {cA : FieldType → ClassId} {b : Nat} {E : State → Prop} {R : qRg} {o n : Nat} {sh : Nat → qC} {Rf : Nat → Nat → Option Nat} {I0 : Nat → Nat → Int32} {L0 : Nat → Nat → Int64} {post : Option Value → qS → Prop} {p1 : Int32} {p2 : Int32} (hok : q_ok (qGG D cA b E)) (hw : WfModel (qGG D cA b E) n sh Rf o) (ra : RAModel R o) (hz55 : R.2 55 = true) (hq0 : (I0 o 44).toInt = 4) (hq1 : (I0 o 45).toInt ≤ 699) (hR : RI R I0) (hp : ∀ (I' : Nat → Nat → Int32) (L' : Nat → Nat → Int64), RI R I' → Fm (fun c => c = o ∨ c = o + 30 ∨ c = o + 31) I0 I' → Kp wModel_step I0 I' o → (I' (o + 30) = rU (I0 (o + 30)) (2800 + (I0 o 45).toInt.toNat) p1) → ((I' o 45).toInt = (I0 o 45).toInt + 1) → (gModel_step_0 o (tI I0) L0 (p1).toInt (p2).toInt = (0, tI I', L')) → post none (n, sh, Rf, I', L')) : Ev (qGG D cA b E) mModel_step 0 (0, 0) 0 (lv_args 0 [.ref o, .int p1, .int p2]) [] (n, sh, Rf, I0, L0) post :=
  yc_Model_stepg (R := fzR R I0 o wModel_step) hok hw (fzA ra hR _) (fzT hz55 rfl) fzZ (fzI hR) hq0 hq1 (fzI hR) (fun I' L' h1 h2 u0 u1 ug => hp I' L' (fzB hR h1) h2 (fzP h1) u0 u1 ug)
noncomputable def gModel_pile_0 (o : Nat) (J : gJ) (L : gL) (x1 : Int) (x2 : Int) : Int × gJ × gL := gLet (J o 48) (fun (v_1 : Int) => gLet (q_u J (o + 32) (Int.toNat v_1) x1) (fun (J_2 : gJ) => gLet (J_2 o 48) (fun (v_3 : Int) => gLet (q_u J_2 (o + 33) (Int.toNat v_3) x2) (fun (J_4 : gJ) => gLet (J_4 o 48) (fun (v_5 : Int) => gLet (v_5 + 1) (fun (v_6 : Int) => gLet (q_u J_4 o 48 v_6) (fun (J_7 : gJ) => (0, J_7, L))))))))
theorem eModel_pile_0 {o : Nat} {J : gJ} {L : gL} {x1 : Int} {x2 : Int} : gModel_pile_0 o J L x1 x2 = gLet (J o 48) (fun (v_1 : Int) => gLet (q_u J (o + 32) (Int.toNat v_1) x1) (fun (J_2 : gJ) => gLet (J_2 o 48) (fun (v_3 : Int) => gLet (q_u J_2 (o + 33) (Int.toNat v_3) x2) (fun (J_4 : gJ) => gLet (J_4 o 48) (fun (v_5 : Int) => gLet (v_5 + 1) (fun (v_6 : Int) => gLet (q_u J_4 o 48 v_6) (fun (J_7 : gJ) => (0, J_7, L)))))))) := rfl
set_option maxHeartbeats 4000000 in
set_option maxRecDepth 20000 in
theorem yc_Model_pileg {D : va_G} {cA : FieldType → ClassId} {b : Nat} {E : State → Prop} {R : qRg} {o n : Nat} {sh : Nat → qC} {Rf : Nat → Nat → Option Nat} {I0 : Nat → Nat → Int32} {L0 : Nat → Nat → Int64} {post : Option Value → qS → Prop} {p1 : Int32} {p2 : Int32} (hok : q_ok (qGG D cA b E)) (hw : WfModel (qGG D cA b E) n sh Rf o) (ra : RAModel R o) (hz58 : R.2 58 = true) (hZ : Fz R I0 o wModel_pile) (hR0 : RI R I0) (hq0 : (0 : Int) ≤ p1.toInt ∧ p1.toInt ≤ 8) (hq1 : (I0 o 48).toInt ≤ 79) (hR : RI R I0) (hp : ∀ (I' : Nat → Nat → Int32) (L' : Nat → Nat → Int64), RI R I' → Fm (fun c => c = o ∨ c = o + 32 ∨ c = o + 33) I0 I' → (I' (o + 32) = rU (I0 (o + 32)) (I0 o 48).toNatClampNeg p1) → (I' (o + 33) = rU (I0 (o + 33)) (I0 o 48).toNatClampNeg p2) → ((I' o 48).toInt = (I0 o 48).toInt + 1) → (gModel_pile_0 o (tI I0) L0 (p1).toInt (p2).toInt = (0, tI I', L')) → post none (n, sh, Rf, I', L')) : Ev (qGG D cA b E) mModel_pile 0 (0, 0) 0 (lv_args 0 [.ref o, .int p1, .int p2]) [] (n, sh, Rf, I0, L0) post := by
  have hf : Fm (fun c => c = o ∨ c = o + 32 ∨ c = o + 33) I0 I0 := Fm.rf
  have g_1 : (0 : Int) ≤ (I0 o 48).toInt ∧ (I0 o 48).toInt ≤ 80 := hR.at0 ra 48 (by decide)
  refine sModel_pile_0 o n sh Rf I0 L0 post p1 p2 hok hw ?_
  unfold fModel_pile_0
  have hg : gModel_pile_0 o (tI I0) L0 (p1).toInt (p2).toInt = gModel_pile_0 o (tI I0) L0 (p1).toInt (p2).toInt := rfl
  replace hg := (eModel_pile_0).symm.trans hg
  have g_2 : (0 : Int) ≤ (I0 o 48).toInt ∧ (I0 o 48).toInt ≤ 80 := hR.at0 ra 48 (by decide)
  replace hg := gt_let (y := (I0 o 48).toInt) rfl hg
  refine ⟨tIn (by omega) (by omega), fun I_3 e_4 => ?_⟩
  replace hg := gt_let (y := tI I_3) (tI_q e_4) hg
  have hR_5 : RI R I_3 := hR.up ra 32 (by decide) (Or.inl rfl) e_4 (show (0 : Int) ≤ p1.toInt by omega) (show p1.toInt ≤ (8 : Int) by omega)
  have hf_6 : Fm (fun c => c = o ∨ c = o + 32 ∨ c = o + 33) I0 I_3 := hf.set (by first | rfl | omega | (dsimp only; omega)) e_4
  have t_7 : (I_3 o 48).toInt = (I0 o 48).toInt := by rw [← e_4, q_u_ne (by omega)]
  have g_8 : (0 : Int) ≤ (I_3 o 48).toInt ∧ (I_3 o 48).toInt ≤ 80 := hR_5.at0 ra 48 (by decide)
  replace hg := gt_let (y := (I_3 o 48).toInt) rfl hg
  refine ⟨tIn (by omega) (by omega), fun I_9 e_10 => ?_⟩
  replace hg := gt_let (y := tI I_9) (tI_q e_10) hg
  have hR_11 : RI R I_9 := hR_5.up ra 33 (by decide) (Or.inl rfl) e_10 (i_lo _) (i_hi _)
  have hf_12 : Fm (fun c => c = o ∨ c = o + 32 ∨ c = o + 33) I0 I_9 := hf_6.set (by first | rfl | omega | (dsimp only; omega)) e_10
  have t_13 : (I_9 o 48).toInt = (I_3 o 48).toInt := by rw [← e_10, q_u_ne (by omega)]
  have g_14 : (0 : Int) ≤ (I_9 o 48).toInt ∧ (I_9 o 48).toInt ≤ 80 := hR_11.at0 ra 48 (by decide)
  replace hg := gt_let (y := (I_9 o 48).toInt) rfl hg
  have l_15 : (1 : Int32).toInt = 1 := rfl
  have a_16 : ((I_9 o 48) + 1).toInt = (I_9 o 48).toInt + (1 : Int32).toInt := tAdd (by omega) (by omega)
  replace hg := gt_let (y := (((I_9 o 48) + 1) : Int32).toInt) (by omega) hg
  refine fun I_17 e_18 => ?_
  replace hg := gt_let (y := tI I_17) (tI_q e_18) hg
  have hR_19 : RI R I_17 := hR_11.up0 (k := 48) ra (by decide) (Or.inr hz58) e_18 (show (0 : Int) ≤ ((I_9 o 48) + 1).toInt by omega) (show ((I_9 o 48) + 1).toInt ≤ (80 : Int) by omega)
  have hf_20 : Fm (fun c => c = o ∨ c = o + 32 ∨ c = o + 33) I0 I_17 := hf_12.set (by first | rfl | omega | (dsimp only; omega)) e_18
  have t_21 : (I_17 o 48).toInt = ((I_9 o 48) + 1).toInt := by rw [← e_18, q_u_at]
  exact (hp _ _ hR_19 hf_20 (by clear hg; rw [← e_18, q_u_ne (by omega), ← e_10, q_u_ne (by omega)]; exact rU_q e_4 rfl) (by clear hg; rw [← e_18, q_u_ne (by omega), rU_q e_10 (m := (I0 o 48).toNatClampNeg) (by rw [← e_4, q_u_ne (by omega)]), ← e_4, q_u_ne (by omega)]) (by first | omega | (intro h; omega) | exact Or.inl rfl | exact Or.inr rfl) hg.symm)
theorem y_Model_pileg {D : va_G} {cA : FieldType → ClassId} {b : Nat} {E : State → Prop} {R : qRg} {o n : Nat} {sh : Nat → qC} {Rf : Nat → Nat → Option Nat} {I0 : Nat → Nat → Int32} {L0 : Nat → Nat → Int64} {post : Option Value → qS → Prop} {p1 : Int32} {p2 : Int32} (hok : q_ok (qGG D cA b E)) (hw : WfModel (qGG D cA b E) n sh Rf o) (ra : RAModel R o) (hz58 : R.2 58 = true) (hq0 : (0 : Int) ≤ p1.toInt ∧ p1.toInt ≤ 8) (hq1 : (I0 o 48).toInt ≤ 79) (hR : RI R I0) (hp : ∀ (I' : Nat → Nat → Int32) (L' : Nat → Nat → Int64), RI R I' → Fm (fun c => c = o ∨ c = o + 32 ∨ c = o + 33) I0 I' → Kp wModel_pile I0 I' o → (I' (o + 32) = rU (I0 (o + 32)) (I0 o 48).toNatClampNeg p1) → (I' (o + 33) = rU (I0 (o + 33)) (I0 o 48).toNatClampNeg p2) → ((I' o 48).toInt = (I0 o 48).toInt + 1) → (gModel_pile_0 o (tI I0) L0 (p1).toInt (p2).toInt = (0, tI I', L')) → post none (n, sh, Rf, I', L')) : Ev (qGG D cA b E) mModel_pile 0 (0, 0) 0 (lv_args 0 [.ref o, .int p1, .int p2]) [] (n, sh, Rf, I0, L0) post :=
  yc_Model_pileg (R := fzR R I0 o wModel_pile) hok hw (fzA ra hR _) (fzT hz58 rfl) fzZ (fzI hR) hq0 hq1 (fzI hR) (fun I' L' h1 h2 u0 u1 u2 ug => hp I' L' (fzB hR h1) h2 (fzP h1) u0 u1 u2 ug)
