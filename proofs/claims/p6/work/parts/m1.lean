/-! The mirror: m1. By program (grun.py). -/
noncomputable def gModel_isSign_60 (J : gJ) (L : gL) (x0 : Int) : Int := 1
theorem eModel_isSign_60 {J : gJ} {L : gL} {x0 : Int} : gModel_isSign_60  J L x0 = 1 := rfl
noncomputable def gModel_isSign_0 (J : gJ) (L : gL) (x0 : Int) : Int := (if x0 = 59 then (gModel_isSign_60  J L x0) else (if x0 = 40 then (gModel_isSign_60  J L x0) else (if x0 = 41 then (gModel_isSign_60  J L x0) else (if x0 = 60 then (gModel_isSign_60  J L x0) else (if x0 = 62 then (gModel_isSign_60  J L x0) else (if x0 = 61 then (gModel_isSign_60  J L x0) else (if x0 = 43 then (gModel_isSign_60  J L x0) else (if x0 = 45 then (gModel_isSign_60  J L x0) else (if x0 = 42 then (gModel_isSign_60  J L x0) else (if x0 = 47 then (gModel_isSign_60  J L x0) else 0))))))))))
theorem eModel_isSign_0 {J : gJ} {L : gL} {x0 : Int} : gModel_isSign_0  J L x0 = (if x0 = 59 then (gModel_isSign_60  J L x0) else (if x0 = 40 then (gModel_isSign_60  J L x0) else (if x0 = 41 then (gModel_isSign_60  J L x0) else (if x0 = 60 then (gModel_isSign_60  J L x0) else (if x0 = 62 then (gModel_isSign_60  J L x0) else (if x0 = 61 then (gModel_isSign_60  J L x0) else (if x0 = 43 then (gModel_isSign_60  J L x0) else (if x0 = 45 then (gModel_isSign_60  J L x0) else (if x0 = 42 then (gModel_isSign_60  J L x0) else (if x0 = 47 then (gModel_isSign_60  J L x0) else 0)))))))))) := rfl
set_option maxHeartbeats 4000000 in
set_option maxRecDepth 20000 in
theorem y_Model_isSigng {D : va_G} {cA : FieldType → ClassId} {b : Nat} {E : State → Prop} {R : qRg} {n : Nat} {sh : Nat → qC} {Rf : Nat → Nat → Option Nat} {I0 : Nat → Nat → Int32} {L0 : Nat → Nat → Int64} {post : Option Value → qS → Prop} {p0 : Int32} (hok : q_ok (qGG D cA b E)) (hR : RI R I0) (hp : ∀ (r : Int32) , (Bz r) → (gModel_isSign_0  (tI I0) L0 (p0).toInt = r.toInt) → post (some (.int r)) (n, sh, Rf, I0, L0)) : Ev (qGG D cA b E) mModel_isSign 0 (0, 0) 0 (lv_args 0 [.int p0]) [] (n, sh, Rf, I0, L0) post := by
  refine sModel_isSign_0 n sh Rf I0 L0 post p0 hok  ?_
  unfold fModel_isSign_0
  have hg : gModel_isSign_0  (tI I0) L0 (p0).toInt = gModel_isSign_0  (tI I0) L0 (p0).toInt := rfl
  replace hg := (eModel_isSign_0).symm.trans hg
  have l_1 : (59 : Int32).toInt = 59 := rfl
  refine ⟨fun c_2 => ?_, fun c_2 => ?_⟩
  · have d_3 := iEq c_2
    replace hg := gt_pos (by first | exact d_3 | omega) hg
    unfold fModel_isSign_60
    replace hg := (eModel_isSign_60).symm.trans hg
    have l_4 : (1 : Int32).toInt = 1 := rfl
    exact (hp _ (Or.inr rfl) hg.symm)
  · have d_5 := iNe c_2
    replace hg := gt_neg (by first | exact d_5 | omega) hg
    have l_6 : (40 : Int32).toInt = 40 := rfl
    refine ⟨fun c_7 => ?_, fun c_7 => ?_⟩
    · have d_8 := iEq c_7
      replace hg := gt_pos (by first | exact d_8 | omega) hg
      unfold fModel_isSign_60
      replace hg := (eModel_isSign_60).symm.trans hg
      have l_9 : (1 : Int32).toInt = 1 := rfl
      exact (hp _ (Or.inr rfl) hg.symm)
    · have d_10 := iNe c_7
      replace hg := gt_neg (by first | exact d_10 | omega) hg
      have l_11 : (41 : Int32).toInt = 41 := rfl
      refine ⟨fun c_12 => ?_, fun c_12 => ?_⟩
      · have d_13 := iEq c_12
        replace hg := gt_pos (by first | exact d_13 | omega) hg
        unfold fModel_isSign_60
        replace hg := (eModel_isSign_60).symm.trans hg
        have l_14 : (1 : Int32).toInt = 1 := rfl
        exact (hp _ (Or.inr rfl) hg.symm)
      · have d_15 := iNe c_12
        replace hg := gt_neg (by first | exact d_15 | omega) hg
        have l_16 : (60 : Int32).toInt = 60 := rfl
        refine ⟨fun c_17 => ?_, fun c_17 => ?_⟩
        · have d_18 := iEq c_17
          replace hg := gt_pos (by first | exact d_18 | omega) hg
          unfold fModel_isSign_60
          replace hg := (eModel_isSign_60).symm.trans hg
          have l_19 : (1 : Int32).toInt = 1 := rfl
          exact (hp _ (Or.inr rfl) hg.symm)
        · have d_20 := iNe c_17
          replace hg := gt_neg (by first | exact d_20 | omega) hg
          have l_21 : (62 : Int32).toInt = 62 := rfl
          refine ⟨fun c_22 => ?_, fun c_22 => ?_⟩
          · have d_23 := iEq c_22
            replace hg := gt_pos (by first | exact d_23 | omega) hg
            unfold fModel_isSign_60
            replace hg := (eModel_isSign_60).symm.trans hg
            have l_24 : (1 : Int32).toInt = 1 := rfl
            exact (hp _ (Or.inr rfl) hg.symm)
          · have d_25 := iNe c_22
            replace hg := gt_neg (by first | exact d_25 | omega) hg
            have l_26 : (61 : Int32).toInt = 61 := rfl
            refine ⟨fun c_27 => ?_, fun c_27 => ?_⟩
            · have d_28 := iEq c_27
              replace hg := gt_pos (by first | exact d_28 | omega) hg
              unfold fModel_isSign_60
              replace hg := (eModel_isSign_60).symm.trans hg
              have l_29 : (1 : Int32).toInt = 1 := rfl
              exact (hp _ (Or.inr rfl) hg.symm)
            · have d_30 := iNe c_27
              replace hg := gt_neg (by first | exact d_30 | omega) hg
              have l_31 : (43 : Int32).toInt = 43 := rfl
              refine ⟨fun c_32 => ?_, fun c_32 => ?_⟩
              · have d_33 := iEq c_32
                replace hg := gt_pos (by first | exact d_33 | omega) hg
                unfold fModel_isSign_60
                replace hg := (eModel_isSign_60).symm.trans hg
                have l_34 : (1 : Int32).toInt = 1 := rfl
                exact (hp _ (Or.inr rfl) hg.symm)
              · have d_35 := iNe c_32
                replace hg := gt_neg (by first | exact d_35 | omega) hg
                have l_36 : (45 : Int32).toInt = 45 := rfl
                refine ⟨fun c_37 => ?_, fun c_37 => ?_⟩
                · have d_38 := iEq c_37
                  replace hg := gt_pos (by first | exact d_38 | omega) hg
                  unfold fModel_isSign_60
                  replace hg := (eModel_isSign_60).symm.trans hg
                  have l_39 : (1 : Int32).toInt = 1 := rfl
                  exact (hp _ (Or.inr rfl) hg.symm)
                · have d_40 := iNe c_37
                  replace hg := gt_neg (by first | exact d_40 | omega) hg
                  have l_41 : (42 : Int32).toInt = 42 := rfl
                  refine ⟨fun c_42 => ?_, fun c_42 => ?_⟩
                  · have d_43 := iEq c_42
                    replace hg := gt_pos (by first | exact d_43 | omega) hg
                    unfold fModel_isSign_60
                    replace hg := (eModel_isSign_60).symm.trans hg
                    have l_44 : (1 : Int32).toInt = 1 := rfl
                    exact (hp _ (Or.inr rfl) hg.symm)
                  · have d_45 := iNe c_42
                    replace hg := gt_neg (by first | exact d_45 | omega) hg
                    have l_46 : (47 : Int32).toInt = 47 := rfl
                    refine ⟨fun c_47 => ?_, fun c_47 => ?_⟩
                    · have d_48 := iNe c_47
                      replace hg := gt_neg (by first | exact d_48 | omega) hg
                      have l_49 : (0 : Int32).toInt = 0 := rfl
                      exact (hp _ (Or.inl rfl) hg.symm)
                    · have d_50 := iEq c_47
                      replace hg := gt_pos (by first | exact d_50 | omega) hg
                      unfold fModel_isSign_60
                      replace hg := (eModel_isSign_60).symm.trans hg
                      have l_51 : (1 : Int32).toInt = 1 := rfl
                      exact (hp _ (Or.inr rfl) hg.symm)
noncomputable def gModel_isKept_266 (J : gJ) (L : gL) (x0 : Int64) (x2 : Int) : Int := 1
theorem eModel_isKept_266 {J : gJ} {L : gL} {x0 : Int64} {x2 : Int} : gModel_isKept_266  J L x0 x2 = 1 := rfl
noncomputable def gModel_isKept_133 (J : gJ) (L : gL) (x0 : Int64) (z0 : Int) : Int := (if z0 = 0 then gLet ((lg_cmp x0 1668245870).toInt) (fun (v_1 : Int) => (if v_1 = 0 then (gModel_isKept_266  J L x0 z0) else gLet ((lg_cmp x0 1836020596).toInt) (fun (v_2 : Int) => (if v_2 = 0 then (gModel_isKept_266  J L x0 z0) else gLet ((lg_cmp x0 7627128).toInt) (fun (v_3 : Int) => (if v_3 = 0 then (gModel_isKept_266  J L x0 z0) else gLet ((lg_cmp x0 444350952036).toInt) (fun (v_4 : Int) => (if v_4 = 0 then (gModel_isKept_266  J L x0 z0) else gLet ((lg_cmp x0 6385252).toInt) (fun (v_5 : Int) => (if v_5 = 0 then (gModel_isKept_266  J L x0 z0) else gLet ((lg_cmp x0 28530).toInt) (fun (v_6 : Int) => (if v_6 = 0 then (gModel_isKept_266  J L x0 z0) else gLet ((lg_cmp x0 7237492).toInt) (fun (v_7 : Int) => (if v_7 = 0 then (gModel_isKept_266  J L x0 z0) else gLet ((lg_cmp x0 2036687218).toInt) (fun (v_8 : Int) => (if v_8 = 0 then (gModel_isKept_266  J L x0 z0) else gLet ((lg_cmp x0 470020945000).toInt) (fun (v_9 : Int) => (if v_9 = 0 then (gModel_isKept_266  J L x0 z0) else gLet ((lg_cmp x0 1852138852).toInt) (fun (v_10 : Int) => (if v_10 = 0 then (gModel_isKept_266  J L x0 z0) else gLet ((lg_cmp x0 1684109683).toInt) (fun (v_11 : Int) => (if v_11 = 0 then (gModel_isKept_266  J L x0 z0) else gLet ((lg_cmp x0 33602627781095015).toInt) (fun (v_12 : Int) => (if v_12 = 0 then (gModel_isKept_266  J L x0 z0) else gLet ((lg_cmp x0 6383461).toInt) (fun (v_13 : Int) => (if v_13 = 0 then (gModel_isKept_266  J L x0 z0) else gLet ((lg_cmp x0 495555144563).toInt) (fun (v_14 : Int) => (if v_14 = 0 then (gModel_isKept_266  J L x0 z0) else gLet ((lg_cmp x0 108230850603124).toInt) (fun (v_15 : Int) => (if v_15 = 0 then (gModel_isKept_266  J L x0 z0) else gLet ((lg_cmp x0 1835099237).toInt) (fun (v_16 : Int) => (if v_16 = 0 then (gModel_isKept_266  J L x0 z0) else 0)))))))))))))))))))))))))))))))) else (gModel_isKept_266  J L x0 z0))
theorem eModel_isKept_133 {J : gJ} {L : gL} {x0 : Int64} {z0 : Int} : gModel_isKept_133  J L x0 z0 = (if z0 = 0 then gLet ((lg_cmp x0 1668245870).toInt) (fun (v_1 : Int) => (if v_1 = 0 then (gModel_isKept_266  J L x0 z0) else gLet ((lg_cmp x0 1836020596).toInt) (fun (v_2 : Int) => (if v_2 = 0 then (gModel_isKept_266  J L x0 z0) else gLet ((lg_cmp x0 7627128).toInt) (fun (v_3 : Int) => (if v_3 = 0 then (gModel_isKept_266  J L x0 z0) else gLet ((lg_cmp x0 444350952036).toInt) (fun (v_4 : Int) => (if v_4 = 0 then (gModel_isKept_266  J L x0 z0) else gLet ((lg_cmp x0 6385252).toInt) (fun (v_5 : Int) => (if v_5 = 0 then (gModel_isKept_266  J L x0 z0) else gLet ((lg_cmp x0 28530).toInt) (fun (v_6 : Int) => (if v_6 = 0 then (gModel_isKept_266  J L x0 z0) else gLet ((lg_cmp x0 7237492).toInt) (fun (v_7 : Int) => (if v_7 = 0 then (gModel_isKept_266  J L x0 z0) else gLet ((lg_cmp x0 2036687218).toInt) (fun (v_8 : Int) => (if v_8 = 0 then (gModel_isKept_266  J L x0 z0) else gLet ((lg_cmp x0 470020945000).toInt) (fun (v_9 : Int) => (if v_9 = 0 then (gModel_isKept_266  J L x0 z0) else gLet ((lg_cmp x0 1852138852).toInt) (fun (v_10 : Int) => (if v_10 = 0 then (gModel_isKept_266  J L x0 z0) else gLet ((lg_cmp x0 1684109683).toInt) (fun (v_11 : Int) => (if v_11 = 0 then (gModel_isKept_266  J L x0 z0) else gLet ((lg_cmp x0 33602627781095015).toInt) (fun (v_12 : Int) => (if v_12 = 0 then (gModel_isKept_266  J L x0 z0) else gLet ((lg_cmp x0 6383461).toInt) (fun (v_13 : Int) => (if v_13 = 0 then (gModel_isKept_266  J L x0 z0) else gLet ((lg_cmp x0 495555144563).toInt) (fun (v_14 : Int) => (if v_14 = 0 then (gModel_isKept_266  J L x0 z0) else gLet ((lg_cmp x0 108230850603124).toInt) (fun (v_15 : Int) => (if v_15 = 0 then (gModel_isKept_266  J L x0 z0) else gLet ((lg_cmp x0 1835099237).toInt) (fun (v_16 : Int) => (if v_16 = 0 then (gModel_isKept_266  J L x0 z0) else 0)))))))))))))))))))))))))))))))) else (gModel_isKept_266  J L x0 z0)) := rfl
noncomputable def gModel_isKept_128 (J : gJ) (L : gL) (x0 : Int64) : Int := (gModel_isKept_133  J L x0 1)
theorem eModel_isKept_128 {J : gJ} {L : gL} {x0 : Int64} : gModel_isKept_128  J L x0 = (gModel_isKept_133  J L x0 1) := rfl
noncomputable def gModel_isKept_0 (J : gJ) (L : gL) (x0 : Int64) : Int := gLet ((lg_cmp x0 1919902052).toInt) (fun (v_1 : Int) => (if v_1 = 0 then (gModel_isKept_128  J L x0) else gLet ((lg_cmp x0 1718579828).toInt) (fun (v_2 : Int) => (if v_2 = 0 then (gModel_isKept_128  J L x0) else gLet ((lg_cmp x0 24948).toInt) (fun (v_3 : Int) => (if v_3 = 0 then (gModel_isKept_128  J L x0) else gLet ((lg_cmp x0 1700885619).toInt) (fun (v_4 : Int) => (if v_4 = 0 then (gModel_isKept_128  J L x0) else gLet ((lg_cmp x0 495874699877).toInt) (fun (v_5 : Int) => (if v_5 = 0 then (gModel_isKept_128  J L x0) else gLet ((lg_cmp x0 7364974).toInt) (fun (v_6 : Int) => (if v_6 = 0 then (gModel_isKept_128  J L x0) else gLet ((lg_cmp x0 469785863539).toInt) (fun (v_7 : Int) => (if v_7 = 0 then (gModel_isKept_128  J L x0) else gLet ((lg_cmp x0 126879549252979).toInt) (fun (v_8 : Int) => (if v_8 = 0 then (gModel_isKept_128  J L x0) else gLet ((lg_cmp x0 1953462126).toInt) (fun (v_9 : Int) => (if v_9 = 0 then (gModel_isKept_128  J L x0) else gLet ((lg_cmp x0 28518).toInt) (fun (v_10 : Int) => (if v_10 = 0 then (gModel_isKept_128  J L x0) else gLet ((lg_cmp x0 512735736947).toInt) (fun (v_11 : Int) => (if v_11 = 0 then (gModel_isKept_128  J L x0) else gLet ((lg_cmp x0 482955846501).toInt) (fun (v_12 : Int) => (if v_12 = 0 then (gModel_isKept_128  J L x0) else gLet ((lg_cmp x0 444300618094).toInt) (fun (v_13 : Int) => (if v_13 = 0 then (gModel_isKept_128  J L x0) else gLet ((lg_cmp x0 1668248436).toInt) (fun (v_14 : Int) => (if v_14 = 0 then (gModel_isKept_128  J L x0) else gLet ((lg_cmp x0 1918989413).toInt) (fun (v_15 : Int) => (if v_15 = 0 then (gModel_isKept_128  J L x0) else gLet ((lg_cmp x0 427020088179).toInt) (fun (v_16 : Int) => (if v_16 = 0 then (gModel_isKept_128  J L x0) else (gModel_isKept_133  J L x0 0)))))))))))))))))))))))))))))))))
theorem eModel_isKept_0 {J : gJ} {L : gL} {x0 : Int64} : gModel_isKept_0  J L x0 = gLet ((lg_cmp x0 1919902052).toInt) (fun (v_1 : Int) => (if v_1 = 0 then (gModel_isKept_128  J L x0) else gLet ((lg_cmp x0 1718579828).toInt) (fun (v_2 : Int) => (if v_2 = 0 then (gModel_isKept_128  J L x0) else gLet ((lg_cmp x0 24948).toInt) (fun (v_3 : Int) => (if v_3 = 0 then (gModel_isKept_128  J L x0) else gLet ((lg_cmp x0 1700885619).toInt) (fun (v_4 : Int) => (if v_4 = 0 then (gModel_isKept_128  J L x0) else gLet ((lg_cmp x0 495874699877).toInt) (fun (v_5 : Int) => (if v_5 = 0 then (gModel_isKept_128  J L x0) else gLet ((lg_cmp x0 7364974).toInt) (fun (v_6 : Int) => (if v_6 = 0 then (gModel_isKept_128  J L x0) else gLet ((lg_cmp x0 469785863539).toInt) (fun (v_7 : Int) => (if v_7 = 0 then (gModel_isKept_128  J L x0) else gLet ((lg_cmp x0 126879549252979).toInt) (fun (v_8 : Int) => (if v_8 = 0 then (gModel_isKept_128  J L x0) else gLet ((lg_cmp x0 1953462126).toInt) (fun (v_9 : Int) => (if v_9 = 0 then (gModel_isKept_128  J L x0) else gLet ((lg_cmp x0 28518).toInt) (fun (v_10 : Int) => (if v_10 = 0 then (gModel_isKept_128  J L x0) else gLet ((lg_cmp x0 512735736947).toInt) (fun (v_11 : Int) => (if v_11 = 0 then (gModel_isKept_128  J L x0) else gLet ((lg_cmp x0 482955846501).toInt) (fun (v_12 : Int) => (if v_12 = 0 then (gModel_isKept_128  J L x0) else gLet ((lg_cmp x0 444300618094).toInt) (fun (v_13 : Int) => (if v_13 = 0 then (gModel_isKept_128  J L x0) else gLet ((lg_cmp x0 1668248436).toInt) (fun (v_14 : Int) => (if v_14 = 0 then (gModel_isKept_128  J L x0) else gLet ((lg_cmp x0 1918989413).toInt) (fun (v_15 : Int) => (if v_15 = 0 then (gModel_isKept_128  J L x0) else gLet ((lg_cmp x0 427020088179).toInt) (fun (v_16 : Int) => (if v_16 = 0 then (gModel_isKept_128  J L x0) else (gModel_isKept_133  J L x0 0))))))))))))))))))))))))))))))))) := rfl
set_option maxHeartbeats 4000000 in
set_option maxRecDepth 20000 in
theorem y_Model_isKeptg {D : va_G} {cA : FieldType → ClassId} {b : Nat} {E : State → Prop} {R : qRg} {n : Nat} {sh : Nat → qC} {Rf : Nat → Nat → Option Nat} {I0 : Nat → Nat → Int32} {L0 : Nat → Nat → Int64} {post : Option Value → qS → Prop} {p0 : Int64} (hok : q_ok (qGG D cA b E)) (hR : RI R I0) (hp : ∀ (r : Int32) , (Bz r) → (gModel_isKept_0  (tI I0) L0 p0 = r.toInt) → post (some (.int r)) (n, sh, Rf, I0, L0)) : Ev (qGG D cA b E) mModel_isKept 0 (0, 0) 0 (lv_args 0 [.long p0]) [] (n, sh, Rf, I0, L0) post := by
  refine sModel_isKept_0 n sh Rf I0 L0 post p0 hok  ?_
  unfold fModel_isKept_0
  have hg : gModel_isKept_0  (tI I0) L0 p0 = gModel_isKept_0  (tI I0) L0 p0 := rfl
  replace hg := (eModel_isKept_0).symm.trans hg
  replace hg := gt_let (y := (lg_cmp p0 1919902052).toInt) rfl hg
  have l_1 : (0 : Int32).toInt = 0 := rfl
  refine ⟨fun c_2 => ?_, fun c_2 => ?_⟩
  · have d_3 := iEq c_2
    replace hg := gt_pos (by first | exact d_3 | omega) hg
    unfold fModel_isKept_128
    replace hg := (eModel_isKept_128).symm.trans hg
    unfold fModel_isKept_133
    replace hg := (eModel_isKept_133).symm.trans hg
    have l_4 : (1 : Int32).toInt = 1 := rfl
    refine ⟨fun c_5 => ?_, fun c_5 => ?_⟩
    · have d_6 := iNe c_5
      replace hg := gt_neg (by first | exact d_6 | omega) hg
      unfold fModel_isKept_266
      replace hg := (eModel_isKept_266).symm.trans hg
      exact (hp _ (Or.inr rfl) hg.symm)
    · have d_7 := iEq c_5
      exfalso; omega
  · have d_8 := iNe c_2
    replace hg := gt_neg (by first | exact d_8 | omega) hg
    replace hg := gt_let (y := (lg_cmp p0 1718579828).toInt) rfl hg
    refine ⟨fun c_9 => ?_, fun c_9 => ?_⟩
    · have d_10 := iEq c_9
      replace hg := gt_pos (by first | exact d_10 | omega) hg
      unfold fModel_isKept_128
      replace hg := (eModel_isKept_128).symm.trans hg
      unfold fModel_isKept_133
      replace hg := (eModel_isKept_133).symm.trans hg
      have l_11 : (1 : Int32).toInt = 1 := rfl
      refine ⟨fun c_12 => ?_, fun c_12 => ?_⟩
      · have d_13 := iNe c_12
        replace hg := gt_neg (by first | exact d_13 | omega) hg
        unfold fModel_isKept_266
        replace hg := (eModel_isKept_266).symm.trans hg
        exact (hp _ (Or.inr rfl) hg.symm)
      · have d_14 := iEq c_12
        exfalso; omega
    · have d_15 := iNe c_9
      replace hg := gt_neg (by first | exact d_15 | omega) hg
      replace hg := gt_let (y := (lg_cmp p0 24948).toInt) rfl hg
      refine ⟨fun c_16 => ?_, fun c_16 => ?_⟩
      · have d_17 := iEq c_16
        replace hg := gt_pos (by first | exact d_17 | omega) hg
        unfold fModel_isKept_128
        replace hg := (eModel_isKept_128).symm.trans hg
        unfold fModel_isKept_133
        replace hg := (eModel_isKept_133).symm.trans hg
        have l_18 : (1 : Int32).toInt = 1 := rfl
        refine ⟨fun c_19 => ?_, fun c_19 => ?_⟩
        · have d_20 := iNe c_19
          replace hg := gt_neg (by first | exact d_20 | omega) hg
          unfold fModel_isKept_266
          replace hg := (eModel_isKept_266).symm.trans hg
          exact (hp _ (Or.inr rfl) hg.symm)
        · have d_21 := iEq c_19
          exfalso; omega
      · have d_22 := iNe c_16
        replace hg := gt_neg (by first | exact d_22 | omega) hg
        replace hg := gt_let (y := (lg_cmp p0 1700885619).toInt) rfl hg
        refine ⟨fun c_23 => ?_, fun c_23 => ?_⟩
        · have d_24 := iEq c_23
          replace hg := gt_pos (by first | exact d_24 | omega) hg
          unfold fModel_isKept_128
          replace hg := (eModel_isKept_128).symm.trans hg
          unfold fModel_isKept_133
          replace hg := (eModel_isKept_133).symm.trans hg
          have l_25 : (1 : Int32).toInt = 1 := rfl
          refine ⟨fun c_26 => ?_, fun c_26 => ?_⟩
          · have d_27 := iNe c_26
            replace hg := gt_neg (by first | exact d_27 | omega) hg
            unfold fModel_isKept_266
            replace hg := (eModel_isKept_266).symm.trans hg
            exact (hp _ (Or.inr rfl) hg.symm)
          · have d_28 := iEq c_26
            exfalso; omega
        · have d_29 := iNe c_23
          replace hg := gt_neg (by first | exact d_29 | omega) hg
          replace hg := gt_let (y := (lg_cmp p0 495874699877).toInt) rfl hg
          refine ⟨fun c_30 => ?_, fun c_30 => ?_⟩
          · have d_31 := iEq c_30
            replace hg := gt_pos (by first | exact d_31 | omega) hg
            unfold fModel_isKept_128
            replace hg := (eModel_isKept_128).symm.trans hg
            unfold fModel_isKept_133
            replace hg := (eModel_isKept_133).symm.trans hg
            have l_32 : (1 : Int32).toInt = 1 := rfl
            refine ⟨fun c_33 => ?_, fun c_33 => ?_⟩
            · have d_34 := iNe c_33
              replace hg := gt_neg (by first | exact d_34 | omega) hg
              unfold fModel_isKept_266
              replace hg := (eModel_isKept_266).symm.trans hg
              exact (hp _ (Or.inr rfl) hg.symm)
            · have d_35 := iEq c_33
              exfalso; omega
          · have d_36 := iNe c_30
            replace hg := gt_neg (by first | exact d_36 | omega) hg
            replace hg := gt_let (y := (lg_cmp p0 7364974).toInt) rfl hg
            refine ⟨fun c_37 => ?_, fun c_37 => ?_⟩
            · have d_38 := iEq c_37
              replace hg := gt_pos (by first | exact d_38 | omega) hg
              unfold fModel_isKept_128
              replace hg := (eModel_isKept_128).symm.trans hg
              unfold fModel_isKept_133
              replace hg := (eModel_isKept_133).symm.trans hg
              have l_39 : (1 : Int32).toInt = 1 := rfl
              refine ⟨fun c_40 => ?_, fun c_40 => ?_⟩
              · have d_41 := iNe c_40
                replace hg := gt_neg (by first | exact d_41 | omega) hg
                unfold fModel_isKept_266
                replace hg := (eModel_isKept_266).symm.trans hg
                exact (hp _ (Or.inr rfl) hg.symm)
              · have d_42 := iEq c_40
                exfalso; omega
            · have d_43 := iNe c_37
              replace hg := gt_neg (by first | exact d_43 | omega) hg
              replace hg := gt_let (y := (lg_cmp p0 469785863539).toInt) rfl hg
              refine ⟨fun c_44 => ?_, fun c_44 => ?_⟩
              · have d_45 := iEq c_44
                replace hg := gt_pos (by first | exact d_45 | omega) hg
                unfold fModel_isKept_128
                replace hg := (eModel_isKept_128).symm.trans hg
                unfold fModel_isKept_133
                replace hg := (eModel_isKept_133).symm.trans hg
                have l_46 : (1 : Int32).toInt = 1 := rfl
                refine ⟨fun c_47 => ?_, fun c_47 => ?_⟩
                · have d_48 := iNe c_47
                  replace hg := gt_neg (by first | exact d_48 | omega) hg
                  unfold fModel_isKept_266
                  replace hg := (eModel_isKept_266).symm.trans hg
                  exact (hp _ (Or.inr rfl) hg.symm)
                · have d_49 := iEq c_47
                  exfalso; omega
              · have d_50 := iNe c_44
                replace hg := gt_neg (by first | exact d_50 | omega) hg
                replace hg := gt_let (y := (lg_cmp p0 126879549252979).toInt) rfl hg
                refine ⟨fun c_51 => ?_, fun c_51 => ?_⟩
                · have d_52 := iEq c_51
                  replace hg := gt_pos (by first | exact d_52 | omega) hg
                  unfold fModel_isKept_128
                  replace hg := (eModel_isKept_128).symm.trans hg
                  unfold fModel_isKept_133
                  replace hg := (eModel_isKept_133).symm.trans hg
                  have l_53 : (1 : Int32).toInt = 1 := rfl
                  refine ⟨fun c_54 => ?_, fun c_54 => ?_⟩
                  · have d_55 := iNe c_54
                    replace hg := gt_neg (by first | exact d_55 | omega) hg
                    unfold fModel_isKept_266
                    replace hg := (eModel_isKept_266).symm.trans hg
                    exact (hp _ (Or.inr rfl) hg.symm)
                  · have d_56 := iEq c_54
                    exfalso; omega
                · have d_57 := iNe c_51
                  replace hg := gt_neg (by first | exact d_57 | omega) hg
                  replace hg := gt_let (y := (lg_cmp p0 1953462126).toInt) rfl hg
                  refine ⟨fun c_58 => ?_, fun c_58 => ?_⟩
                  · have d_59 := iEq c_58
                    replace hg := gt_pos (by first | exact d_59 | omega) hg
                    unfold fModel_isKept_128
                    replace hg := (eModel_isKept_128).symm.trans hg
                    unfold fModel_isKept_133
                    replace hg := (eModel_isKept_133).symm.trans hg
                    have l_60 : (1 : Int32).toInt = 1 := rfl
                    refine ⟨fun c_61 => ?_, fun c_61 => ?_⟩
                    · have d_62 := iNe c_61
                      replace hg := gt_neg (by first | exact d_62 | omega) hg
                      unfold fModel_isKept_266
                      replace hg := (eModel_isKept_266).symm.trans hg
                      exact (hp _ (Or.inr rfl) hg.symm)
                    · have d_63 := iEq c_61
                      exfalso; omega
                  · have d_64 := iNe c_58
                    replace hg := gt_neg (by first | exact d_64 | omega) hg
                    replace hg := gt_let (y := (lg_cmp p0 28518).toInt) rfl hg
                    refine ⟨fun c_65 => ?_, fun c_65 => ?_⟩
                    · have d_66 := iEq c_65
                      replace hg := gt_pos (by first | exact d_66 | omega) hg
                      unfold fModel_isKept_128
                      replace hg := (eModel_isKept_128).symm.trans hg
                      unfold fModel_isKept_133
                      replace hg := (eModel_isKept_133).symm.trans hg
                      have l_67 : (1 : Int32).toInt = 1 := rfl
                      refine ⟨fun c_68 => ?_, fun c_68 => ?_⟩
                      · have d_69 := iNe c_68
                        replace hg := gt_neg (by first | exact d_69 | omega) hg
                        unfold fModel_isKept_266
                        replace hg := (eModel_isKept_266).symm.trans hg
                        exact (hp _ (Or.inr rfl) hg.symm)
                      · have d_70 := iEq c_68
                        exfalso; omega
                    · have d_71 := iNe c_65
                      replace hg := gt_neg (by first | exact d_71 | omega) hg
                      replace hg := gt_let (y := (lg_cmp p0 512735736947).toInt) rfl hg
                      refine ⟨fun c_72 => ?_, fun c_72 => ?_⟩
                      · have d_73 := iEq c_72
                        replace hg := gt_pos (by first | exact d_73 | omega) hg
                        unfold fModel_isKept_128
                        replace hg := (eModel_isKept_128).symm.trans hg
                        unfold fModel_isKept_133
                        replace hg := (eModel_isKept_133).symm.trans hg
                        have l_74 : (1 : Int32).toInt = 1 := rfl
                        refine ⟨fun c_75 => ?_, fun c_75 => ?_⟩
                        · have d_76 := iNe c_75
                          replace hg := gt_neg (by first | exact d_76 | omega) hg
                          unfold fModel_isKept_266
                          replace hg := (eModel_isKept_266).symm.trans hg
                          exact (hp _ (Or.inr rfl) hg.symm)
                        · have d_77 := iEq c_75
                          exfalso; omega
                      · have d_78 := iNe c_72
                        replace hg := gt_neg (by first | exact d_78 | omega) hg
                        replace hg := gt_let (y := (lg_cmp p0 482955846501).toInt) rfl hg
                        refine ⟨fun c_79 => ?_, fun c_79 => ?_⟩
                        · have d_80 := iEq c_79
                          replace hg := gt_pos (by first | exact d_80 | omega) hg
                          unfold fModel_isKept_128
                          replace hg := (eModel_isKept_128).symm.trans hg
                          unfold fModel_isKept_133
                          replace hg := (eModel_isKept_133).symm.trans hg
                          have l_81 : (1 : Int32).toInt = 1 := rfl
                          refine ⟨fun c_82 => ?_, fun c_82 => ?_⟩
                          · have d_83 := iNe c_82
                            replace hg := gt_neg (by first | exact d_83 | omega) hg
                            unfold fModel_isKept_266
                            replace hg := (eModel_isKept_266).symm.trans hg
                            exact (hp _ (Or.inr rfl) hg.symm)
                          · have d_84 := iEq c_82
                            exfalso; omega
                        · have d_85 := iNe c_79
                          replace hg := gt_neg (by first | exact d_85 | omega) hg
                          replace hg := gt_let (y := (lg_cmp p0 444300618094).toInt) rfl hg
                          refine ⟨fun c_86 => ?_, fun c_86 => ?_⟩
                          · have d_87 := iEq c_86
                            replace hg := gt_pos (by first | exact d_87 | omega) hg
                            unfold fModel_isKept_128
                            replace hg := (eModel_isKept_128).symm.trans hg
                            unfold fModel_isKept_133
                            replace hg := (eModel_isKept_133).symm.trans hg
                            have l_88 : (1 : Int32).toInt = 1 := rfl
                            refine ⟨fun c_89 => ?_, fun c_89 => ?_⟩
                            · have d_90 := iNe c_89
                              replace hg := gt_neg (by first | exact d_90 | omega) hg
                              unfold fModel_isKept_266
                              replace hg := (eModel_isKept_266).symm.trans hg
                              exact (hp _ (Or.inr rfl) hg.symm)
                            · have d_91 := iEq c_89
                              exfalso; omega
                          · have d_92 := iNe c_86
                            replace hg := gt_neg (by first | exact d_92 | omega) hg
                            replace hg := gt_let (y := (lg_cmp p0 1668248436).toInt) rfl hg
                            refine ⟨fun c_93 => ?_, fun c_93 => ?_⟩
                            · have d_94 := iEq c_93
                              replace hg := gt_pos (by first | exact d_94 | omega) hg
                              unfold fModel_isKept_128
                              replace hg := (eModel_isKept_128).symm.trans hg
                              unfold fModel_isKept_133
                              replace hg := (eModel_isKept_133).symm.trans hg
                              have l_95 : (1 : Int32).toInt = 1 := rfl
                              refine ⟨fun c_96 => ?_, fun c_96 => ?_⟩
                              · have d_97 := iNe c_96
                                replace hg := gt_neg (by first | exact d_97 | omega) hg
                                unfold fModel_isKept_266
                                replace hg := (eModel_isKept_266).symm.trans hg
                                exact (hp _ (Or.inr rfl) hg.symm)
                              · have d_98 := iEq c_96
                                exfalso; omega
                            · have d_99 := iNe c_93
                              replace hg := gt_neg (by first | exact d_99 | omega) hg
                              replace hg := gt_let (y := (lg_cmp p0 1918989413).toInt) rfl hg
                              refine ⟨fun c_100 => ?_, fun c_100 => ?_⟩
                              · have d_101 := iEq c_100
                                replace hg := gt_pos (by first | exact d_101 | omega) hg
                                unfold fModel_isKept_128
                                replace hg := (eModel_isKept_128).symm.trans hg
                                unfold fModel_isKept_133
                                replace hg := (eModel_isKept_133).symm.trans hg
                                have l_102 : (1 : Int32).toInt = 1 := rfl
                                refine ⟨fun c_103 => ?_, fun c_103 => ?_⟩
                                · have d_104 := iNe c_103
                                  replace hg := gt_neg (by first | exact d_104 | omega) hg
                                  unfold fModel_isKept_266
                                  replace hg := (eModel_isKept_266).symm.trans hg
                                  exact (hp _ (Or.inr rfl) hg.symm)
                                · have d_105 := iEq c_103
                                  exfalso; omega
                              · have d_106 := iNe c_100
                                replace hg := gt_neg (by first | exact d_106 | omega) hg
                                replace hg := gt_let (y := (lg_cmp p0 427020088179).toInt) rfl hg
                                refine ⟨fun c_107 => ?_, fun c_107 => ?_⟩
                                · have d_108 := iNe c_107
                                  replace hg := gt_neg (by first | exact d_108 | omega) hg
                                  unfold fModel_isKept_133
                                  replace hg := (eModel_isKept_133).symm.trans hg
                                  refine ⟨fun c_109 => ?_, fun c_109 => ?_⟩
                                  · have d_110 := iNe c_109
                                    exfalso; omega
                                  · have d_111 := iEq c_109
                                    replace hg := gt_pos (by first | exact d_111 | omega) hg
                                    replace hg := gt_let (y := (lg_cmp p0 1668245870).toInt) rfl hg
                                    refine ⟨fun c_112 => ?_, fun c_112 => ?_⟩
                                    · have d_113 := iEq c_112
                                      replace hg := gt_pos (by first | exact d_113 | omega) hg
                                      unfold fModel_isKept_266
                                      replace hg := (eModel_isKept_266).symm.trans hg
                                      have l_114 : (1 : Int32).toInt = 1 := rfl
                                      exact (hp _ (Or.inr rfl) hg.symm)
                                    · have d_115 := iNe c_112
                                      replace hg := gt_neg (by first | exact d_115 | omega) hg
                                      replace hg := gt_let (y := (lg_cmp p0 1836020596).toInt) rfl hg
                                      refine ⟨fun c_116 => ?_, fun c_116 => ?_⟩
                                      · have d_117 := iEq c_116
                                        replace hg := gt_pos (by first | exact d_117 | omega) hg
                                        unfold fModel_isKept_266
                                        replace hg := (eModel_isKept_266).symm.trans hg
                                        have l_118 : (1 : Int32).toInt = 1 := rfl
                                        exact (hp _ (Or.inr rfl) hg.symm)
                                      · have d_119 := iNe c_116
                                        replace hg := gt_neg (by first | exact d_119 | omega) hg
                                        replace hg := gt_let (y := (lg_cmp p0 7627128).toInt) rfl hg
                                        refine ⟨fun c_120 => ?_, fun c_120 => ?_⟩
                                        · have d_121 := iEq c_120
                                          replace hg := gt_pos (by first | exact d_121 | omega) hg
                                          unfold fModel_isKept_266
                                          replace hg := (eModel_isKept_266).symm.trans hg
                                          have l_122 : (1 : Int32).toInt = 1 := rfl
                                          exact (hp _ (Or.inr rfl) hg.symm)
                                        · have d_123 := iNe c_120
                                          replace hg := gt_neg (by first | exact d_123 | omega) hg
                                          replace hg := gt_let (y := (lg_cmp p0 444350952036).toInt) rfl hg
                                          refine ⟨fun c_124 => ?_, fun c_124 => ?_⟩
                                          · have d_125 := iEq c_124
                                            replace hg := gt_pos (by first | exact d_125 | omega) hg
                                            unfold fModel_isKept_266
                                            replace hg := (eModel_isKept_266).symm.trans hg
                                            have l_126 : (1 : Int32).toInt = 1 := rfl
                                            exact (hp _ (Or.inr rfl) hg.symm)
                                          · have d_127 := iNe c_124
                                            replace hg := gt_neg (by first | exact d_127 | omega) hg
                                            replace hg := gt_let (y := (lg_cmp p0 6385252).toInt) rfl hg
                                            refine ⟨fun c_128 => ?_, fun c_128 => ?_⟩
                                            · have d_129 := iEq c_128
                                              replace hg := gt_pos (by first | exact d_129 | omega) hg
                                              unfold fModel_isKept_266
                                              replace hg := (eModel_isKept_266).symm.trans hg
                                              have l_130 : (1 : Int32).toInt = 1 := rfl
                                              exact (hp _ (Or.inr rfl) hg.symm)
                                            · have d_131 := iNe c_128
                                              replace hg := gt_neg (by first | exact d_131 | omega) hg
                                              replace hg := gt_let (y := (lg_cmp p0 28530).toInt) rfl hg
                                              refine ⟨fun c_132 => ?_, fun c_132 => ?_⟩
                                              · have d_133 := iEq c_132
                                                replace hg := gt_pos (by first | exact d_133 | omega) hg
                                                unfold fModel_isKept_266
                                                replace hg := (eModel_isKept_266).symm.trans hg
                                                have l_134 : (1 : Int32).toInt = 1 := rfl
                                                exact (hp _ (Or.inr rfl) hg.symm)
                                              · have d_135 := iNe c_132
                                                replace hg := gt_neg (by first | exact d_135 | omega) hg
                                                replace hg := gt_let (y := (lg_cmp p0 7237492).toInt) rfl hg
                                                refine ⟨fun c_136 => ?_, fun c_136 => ?_⟩
                                                · have d_137 := iEq c_136
                                                  replace hg := gt_pos (by first | exact d_137 | omega) hg
                                                  unfold fModel_isKept_266
                                                  replace hg := (eModel_isKept_266).symm.trans hg
                                                  have l_138 : (1 : Int32).toInt = 1 := rfl
                                                  exact (hp _ (Or.inr rfl) hg.symm)
                                                · have d_139 := iNe c_136
                                                  replace hg := gt_neg (by first | exact d_139 | omega) hg
                                                  replace hg := gt_let (y := (lg_cmp p0 2036687218).toInt) rfl hg
                                                  refine ⟨fun c_140 => ?_, fun c_140 => ?_⟩
                                                  · have d_141 := iEq c_140
                                                    replace hg := gt_pos (by first | exact d_141 | omega) hg
                                                    unfold fModel_isKept_266
                                                    replace hg := (eModel_isKept_266).symm.trans hg
                                                    have l_142 : (1 : Int32).toInt = 1 := rfl
                                                    exact (hp _ (Or.inr rfl) hg.symm)
                                                  · have d_143 := iNe c_140
                                                    replace hg := gt_neg (by first | exact d_143 | omega) hg
                                                    replace hg := gt_let (y := (lg_cmp p0 470020945000).toInt) rfl hg
                                                    refine ⟨fun c_144 => ?_, fun c_144 => ?_⟩
                                                    · have d_145 := iEq c_144
                                                      replace hg := gt_pos (by first | exact d_145 | omega) hg
                                                      unfold fModel_isKept_266
                                                      replace hg := (eModel_isKept_266).symm.trans hg
                                                      have l_146 : (1 : Int32).toInt = 1 := rfl
                                                      exact (hp _ (Or.inr rfl) hg.symm)
                                                    · have d_147 := iNe c_144
                                                      replace hg := gt_neg (by first | exact d_147 | omega) hg
                                                      replace hg := gt_let (y := (lg_cmp p0 1852138852).toInt) rfl hg
                                                      refine ⟨fun c_148 => ?_, fun c_148 => ?_⟩
                                                      · have d_149 := iEq c_148
                                                        replace hg := gt_pos (by first | exact d_149 | omega) hg
                                                        unfold fModel_isKept_266
                                                        replace hg := (eModel_isKept_266).symm.trans hg
                                                        have l_150 : (1 : Int32).toInt = 1 := rfl
                                                        exact (hp _ (Or.inr rfl) hg.symm)
                                                      · have d_151 := iNe c_148
                                                        replace hg := gt_neg (by first | exact d_151 | omega) hg
                                                        replace hg := gt_let (y := (lg_cmp p0 1684109683).toInt) rfl hg
                                                        refine ⟨fun c_152 => ?_, fun c_152 => ?_⟩
                                                        · have d_153 := iEq c_152
                                                          replace hg := gt_pos (by first | exact d_153 | omega) hg
                                                          unfold fModel_isKept_266
                                                          replace hg := (eModel_isKept_266).symm.trans hg
                                                          have l_154 : (1 : Int32).toInt = 1 := rfl
                                                          exact (hp _ (Or.inr rfl) hg.symm)
                                                        · have d_155 := iNe c_152
                                                          replace hg := gt_neg (by first | exact d_155 | omega) hg
                                                          replace hg := gt_let (y := (lg_cmp p0 33602627781095015).toInt) rfl hg
                                                          refine ⟨fun c_156 => ?_, fun c_156 => ?_⟩
                                                          · have d_157 := iEq c_156
                                                            replace hg := gt_pos (by first | exact d_157 | omega) hg
                                                            unfold fModel_isKept_266
                                                            replace hg := (eModel_isKept_266).symm.trans hg
                                                            have l_158 : (1 : Int32).toInt = 1 := rfl
                                                            exact (hp _ (Or.inr rfl) hg.symm)
                                                          · have d_159 := iNe c_156
                                                            replace hg := gt_neg (by first | exact d_159 | omega) hg
                                                            replace hg := gt_let (y := (lg_cmp p0 6383461).toInt) rfl hg
                                                            refine ⟨fun c_160 => ?_, fun c_160 => ?_⟩
                                                            · have d_161 := iEq c_160
                                                              replace hg := gt_pos (by first | exact d_161 | omega) hg
                                                              unfold fModel_isKept_266
                                                              replace hg := (eModel_isKept_266).symm.trans hg
                                                              have l_162 : (1 : Int32).toInt = 1 := rfl
                                                              exact (hp _ (Or.inr rfl) hg.symm)
                                                            · have d_163 := iNe c_160
                                                              replace hg := gt_neg (by first | exact d_163 | omega) hg
                                                              replace hg := gt_let (y := (lg_cmp p0 495555144563).toInt) rfl hg
                                                              refine ⟨fun c_164 => ?_, fun c_164 => ?_⟩
                                                              · have d_165 := iEq c_164
                                                                replace hg := gt_pos (by first | exact d_165 | omega) hg
                                                                unfold fModel_isKept_266
                                                                replace hg := (eModel_isKept_266).symm.trans hg
                                                                have l_166 : (1 : Int32).toInt = 1 := rfl
                                                                exact (hp _ (Or.inr rfl) hg.symm)
                                                              · have d_167 := iNe c_164
                                                                replace hg := gt_neg (by first | exact d_167 | omega) hg
                                                                replace hg := gt_let (y := (lg_cmp p0 108230850603124).toInt) rfl hg
                                                                refine ⟨fun c_168 => ?_, fun c_168 => ?_⟩
                                                                · have d_169 := iEq c_168
                                                                  replace hg := gt_pos (by first | exact d_169 | omega) hg
                                                                  unfold fModel_isKept_266
                                                                  replace hg := (eModel_isKept_266).symm.trans hg
                                                                  have l_170 : (1 : Int32).toInt = 1 := rfl
                                                                  exact (hp _ (Or.inr rfl) hg.symm)
                                                                · have d_171 := iNe c_168
                                                                  replace hg := gt_neg (by first | exact d_171 | omega) hg
                                                                  replace hg := gt_let (y := (lg_cmp p0 1835099237).toInt) rfl hg
                                                                  refine ⟨fun c_172 => ?_, fun c_172 => ?_⟩
                                                                  · have d_173 := iNe c_172
                                                                    replace hg := gt_neg (by first | exact d_173 | omega) hg
                                                                    exact (hp _ (Or.inl rfl) hg.symm)
                                                                  · have d_174 := iEq c_172
                                                                    replace hg := gt_pos (by first | exact d_174 | omega) hg
                                                                    unfold fModel_isKept_266
                                                                    replace hg := (eModel_isKept_266).symm.trans hg
                                                                    have l_175 : (1 : Int32).toInt = 1 := rfl
                                                                    exact (hp _ (Or.inr rfl) hg.symm)
                                · have d_176 := iEq c_107
                                  replace hg := gt_pos (by first | exact d_176 | omega) hg
                                  unfold fModel_isKept_128
                                  replace hg := (eModel_isKept_128).symm.trans hg
                                  unfold fModel_isKept_133
                                  replace hg := (eModel_isKept_133).symm.trans hg
                                  have l_177 : (1 : Int32).toInt = 1 := rfl
                                  refine ⟨fun c_178 => ?_, fun c_178 => ?_⟩
                                  · have d_179 := iNe c_178
                                    replace hg := gt_neg (by first | exact d_179 | omega) hg
                                    unfold fModel_isKept_266
                                    replace hg := (eModel_isKept_266).symm.trans hg
                                    exact (hp _ (Or.inr rfl) hg.symm)
                                  · have d_180 := iEq c_178
                                    exfalso; omega
noncomputable def gModel_isLetter_0 (J : gJ) (L : gL) (x0 : Int) : Int := (if x0 < 97 then 0 else (if 122 < x0 then 0 else 1))
theorem eModel_isLetter_0 {J : gJ} {L : gL} {x0 : Int} : gModel_isLetter_0  J L x0 = (if x0 < 97 then 0 else (if 122 < x0 then 0 else 1)) := rfl
set_option maxHeartbeats 4000000 in
set_option maxRecDepth 20000 in
theorem y_Model_isLetterg {D : va_G} {cA : FieldType → ClassId} {b : Nat} {E : State → Prop} {R : qRg} {n : Nat} {sh : Nat → qC} {Rf : Nat → Nat → Option Nat} {I0 : Nat → Nat → Int32} {L0 : Nat → Nat → Int64} {post : Option Value → qS → Prop} {p0 : Int32} (hok : q_ok (qGG D cA b E)) (hR : RI R I0) (hp : ∀ (r : Int32) , (Bz r) → (Im (r.toInt ≠ 0) (97 ≤ p0.toInt ∧ p0.toInt ≤ 122)) → (gModel_isLetter_0  (tI I0) L0 (p0).toInt = r.toInt) → post (some (.int r)) (n, sh, Rf, I0, L0)) : Ev (qGG D cA b E) mModel_isLetter 0 (0, 0) 0 (lv_args 0 [.int p0]) [] (n, sh, Rf, I0, L0) post := by
  refine sModel_isLetter_0 n sh Rf I0 L0 post p0 hok  ?_
  unfold fModel_isLetter_0
  have hg : gModel_isLetter_0  (tI I0) L0 (p0).toInt = gModel_isLetter_0  (tI I0) L0 (p0).toInt := rfl
  replace hg := (eModel_isLetter_0).symm.trans hg
  have l_1 : (97 : Int32).toInt = 97 := rfl
  refine ⟨fun c_2 => ?_, fun c_2 => ?_⟩
  · have d_3 := iLt c_2
    replace hg := gt_pos (by first | exact d_3 | omega) hg
    have l_4 : (0 : Int32).toInt = 0 := rfl
    exact (hp _ (Or.inl rfl) (by clear hg; intro _; omega) hg.symm)
  · have d_5 := iNlt c_2
    replace hg := gt_neg (by first | exact d_5 | omega) hg
    have l_6 : (122 : Int32).toInt = 122 := rfl
    refine ⟨fun c_7 => ?_, fun c_7 => ?_⟩
    · have d_8 := iLt c_7
      replace hg := gt_pos (by first | exact d_8 | omega) hg
      have l_9 : (0 : Int32).toInt = 0 := rfl
      exact (hp _ (Or.inl rfl) (by clear hg; intro _; omega) hg.symm)
    · have d_10 := iNlt c_7
      replace hg := gt_neg (by first | exact d_10 | omega) hg
      have l_11 : (1 : Int32).toInt = 1 := rfl
      exact (hp _ (Or.inr rfl) (by clear hg; intro _; omega) hg.symm)
noncomputable def gModel_isDigit_0 (J : gJ) (L : gL) (x0 : Int) : Int := (if x0 < 48 then 0 else (if 57 < x0 then 0 else 1))
theorem eModel_isDigit_0 {J : gJ} {L : gL} {x0 : Int} : gModel_isDigit_0  J L x0 = (if x0 < 48 then 0 else (if 57 < x0 then 0 else 1)) := rfl
set_option maxHeartbeats 4000000 in
set_option maxRecDepth 20000 in
theorem y_Model_isDigitg {D : va_G} {cA : FieldType → ClassId} {b : Nat} {E : State → Prop} {R : qRg} {n : Nat} {sh : Nat → qC} {Rf : Nat → Nat → Option Nat} {I0 : Nat → Nat → Int32} {L0 : Nat → Nat → Int64} {post : Option Value → qS → Prop} {p0 : Int32} (hok : q_ok (qGG D cA b E)) (hR : RI R I0) (hp : ∀ (r : Int32) , (Bz r) → (Im (r.toInt ≠ 0) (48 ≤ p0.toInt ∧ p0.toInt ≤ 57)) → (Im (r.toInt = 0) (p0.toInt < 48 ∨ 57 < p0.toInt)) → (gModel_isDigit_0  (tI I0) L0 (p0).toInt = r.toInt) → post (some (.int r)) (n, sh, Rf, I0, L0)) : Ev (qGG D cA b E) mModel_isDigit 0 (0, 0) 0 (lv_args 0 [.int p0]) [] (n, sh, Rf, I0, L0) post := by
  refine sModel_isDigit_0 n sh Rf I0 L0 post p0 hok  ?_
  unfold fModel_isDigit_0
  have hg : gModel_isDigit_0  (tI I0) L0 (p0).toInt = gModel_isDigit_0  (tI I0) L0 (p0).toInt := rfl
  replace hg := (eModel_isDigit_0).symm.trans hg
  have l_1 : (48 : Int32).toInt = 48 := rfl
  refine ⟨fun c_2 => ?_, fun c_2 => ?_⟩
  · have d_3 := iLt c_2
    replace hg := gt_pos (by first | exact d_3 | omega) hg
    have l_4 : (0 : Int32).toInt = 0 := rfl
    exact (hp _ (Or.inl rfl) (by clear hg; intro _; omega) (by clear hg; intro _; omega) hg.symm)
  · have d_5 := iNlt c_2
    replace hg := gt_neg (by first | exact d_5 | omega) hg
    have l_6 : (57 : Int32).toInt = 57 := rfl
    refine ⟨fun c_7 => ?_, fun c_7 => ?_⟩
    · have d_8 := iLt c_7
      replace hg := gt_pos (by first | exact d_8 | omega) hg
      have l_9 : (0 : Int32).toInt = 0 := rfl
      exact (hp _ (Or.inl rfl) (by clear hg; intro _; omega) (by clear hg; intro _; omega) hg.symm)
    · have d_10 := iNlt c_7
      replace hg := gt_neg (by first | exact d_10 | omega) hg
      have l_11 : (1 : Int32).toInt = 1 := rfl
      exact (hp _ (Or.inr rfl) (by clear hg; intro _; omega) (by clear hg; intro _; omega) hg.symm)
noncomputable def gModel_sign_0 (o : Nat) (J : gJ) (L : gL) (x1 : Int) : Int := gLet (J o 3) (fun (v_1 : Int) => (if v_1 ≤ x1 then 0 else gLet (J (o + 2) (Int.toNat x1)) (fun (v_2 : Int) => gLet (wAnd v_2 255) (fun (v_3 : Int) => v_3))))
theorem eModel_sign_0 {o : Nat} {J : gJ} {L : gL} {x1 : Int} : gModel_sign_0 o J L x1 = gLet (J o 3) (fun (v_1 : Int) => (if v_1 ≤ x1 then 0 else gLet (J (o + 2) (Int.toNat x1)) (fun (v_2 : Int) => gLet (wAnd v_2 255) (fun (v_3 : Int) => v_3)))) := rfl
set_option maxHeartbeats 4000000 in
set_option maxRecDepth 20000 in
theorem y_Model_signg {D : va_G} {cA : FieldType → ClassId} {b : Nat} {E : State → Prop} {R : qRg} {o n : Nat} {sh : Nat → qC} {Rf : Nat → Nat → Option Nat} {I0 : Nat → Nat → Int32} {L0 : Nat → Nat → Int64} {post : Option Value → qS → Prop} {p1 : Int32} (hok : q_ok (qGG D cA b E)) (hw : WfModel (qGG D cA b E) n sh Rf o) (ra : RAModel R o) (hq0 : (0 : Int) ≤ p1.toInt ∧ p1.toInt ≤ 2000) (hR : RI R I0) (hp : ∀ (r : Int32) , (Im (r.toInt ≠ 0) (p1.toInt < (I0 o 3).toInt)) → (r = sgF (I0 (o + 2)) (I0 o 3) p1) → (gModel_sign_0 o (tI I0) L0 (p1).toInt = r.toInt) → post (some (.int r)) (n, sh, Rf, I0, L0)) : Ev (qGG D cA b E) mModel_sign 0 (0, 0) 0 (lv_args 0 [.ref o, .int p1]) [] (n, sh, Rf, I0, L0) post := by
  refine sModel_sign_0 o n sh Rf I0 L0 post p1 hok hw ?_
  unfold fModel_sign_0
  have hg : gModel_sign_0 o (tI I0) L0 (p1).toInt = gModel_sign_0 o (tI I0) L0 (p1).toInt := rfl
  replace hg := (eModel_sign_0).symm.trans hg
  have g_1 : (0 : Int) ≤ (I0 o 3).toInt ∧ (I0 o 3).toInt ≤ 1600 := hR.at0 ra 3 (by decide)
  replace hg := gt_let (y := (I0 o 3).toInt) rfl hg
  refine ⟨fun c_2 => ?_, fun c_2 => ?_⟩
  · have d_3 := iLe c_2
    replace hg := gt_pos (by first | exact d_3 | omega) hg
    have l_4 : (0 : Int32).toInt = 0 := rfl
    exact (hp _ (by clear hg; intro _; omega) (by clear hg; simp [sgF, *]) hg.symm)
  · have d_5 := iNle c_2
    replace hg := gt_neg (by first | exact d_5 | omega) hg
    refine ⟨tIn (by omega) (by omega), ?_⟩
    replace hg := gt_let (y := (I0 (o + 2) (p1 : Int32).toNatClampNeg).toInt) rfl hg
    have l_6 : (255 : Int32).toInt = 255 := rfl
    replace hg := gt_let (y := (((I0 (o + 2) (p1 : Int32).toNatClampNeg) &&& 255) : Int32).toInt) (wAnd_eq ((I0 (o + 2) (p1 : Int32).toNatClampNeg) : Int32) (255 : Int32)) hg
    exact (hp _ (by clear hg; intro _; omega) (by clear hg; simp [sgF, *]) hg.symm)
noncomputable def gModel_pointAt_73 (o : Nat) (J : gJ) (L : gL) (x1 : Int) (x2 : Int) (x3 : Int) : Int := 0
theorem eModel_pointAt_73 {o : Nat} {J : gJ} {L : gL} {x1 : Int} {x2 : Int} {x3 : Int} : gModel_pointAt_73 o J L x1 x2 x3 = 0 := rfl
noncomputable def gModel_pointAt_44 (o : Nat) (J : gJ) (L : gL) (x1 : Int) (x2 : Int) (x3 : Int) : Int := (if x2 < 1 then (gModel_pointAt_73 o J L x1 x2 x3) else (if 2 < x2 then (gModel_pointAt_73 o J L x1 x2 x3) else (if 16 ≤ x3 then (gModel_pointAt_73 o J L x1 x2 x3) else gLet (x1 + x2) (fun (v_1 : Int) => gLet (gModel_sign_0 o J L v_1) (fun (r_2 : Int) => gLet (gModel_isLetter_0  J L r_2) (fun (r_3 : Int) => (if r_3 = 0 then x2 else (gModel_pointAt_73 o J L x1 x2 x3))))))))
theorem eModel_pointAt_44 {o : Nat} {J : gJ} {L : gL} {x1 : Int} {x2 : Int} {x3 : Int} : gModel_pointAt_44 o J L x1 x2 x3 = (if x2 < 1 then (gModel_pointAt_73 o J L x1 x2 x3) else (if 2 < x2 then (gModel_pointAt_73 o J L x1 x2 x3) else (if 16 ≤ x3 then (gModel_pointAt_73 o J L x1 x2 x3) else gLet (x1 + x2) (fun (v_1 : Int) => gLet (gModel_sign_0 o J L v_1) (fun (r_2 : Int) => gLet (gModel_isLetter_0  J L r_2) (fun (r_3 : Int) => (if r_3 = 0 then x2 else (gModel_pointAt_73 o J L x1 x2 x3)))))))) := rfl
noncomputable def gModel_pointAt_4 (k : Nat) (o : Nat) (J : gJ) (L : gL) (x1 : Int) (x2 : Int) (x3 : Int) : Int := match k with
  | 0 => default
  | k + 1 => (if 3 ≤ x2 then (gModel_pointAt_44 o J L x1 x2 x3) else gLet (x1 + x2) (fun (v_1 : Int) => gLet (gModel_sign_0 o J L v_1) (fun (r_2 : Int) => gLet (gModel_isDigit_0  J L r_2) (fun (r_3 : Int) => (if r_3 = 0 then (gModel_pointAt_44 o J L x1 x2 x3) else gLet (wMul 10 x3) (fun (v_4 : Int) => gLet (x1 + x2) (fun (v_5 : Int) => gLet (gModel_sign_0 o J L v_5) (fun (r_6 : Int) => gLet (wAdd v_4 r_6) (fun (v_7 : Int) => gLet (wSub v_7 48) (fun (v_8 : Int) => gLet (x2 + 1) (fun (v_9 : Int) => (gModel_pointAt_4 k o J L x1 v_9 v_8))))))))))))
theorem eModel_pointAt_4 {k : Nat} {o : Nat} {J : gJ} {L : gL} {x1 : Int} {x2 : Int} {x3 : Int} : gModel_pointAt_4 (k + 1) o J L x1 x2 x3 = (if 3 ≤ x2 then (gModel_pointAt_44 o J L x1 x2 x3) else gLet (x1 + x2) (fun (v_1 : Int) => gLet (gModel_sign_0 o J L v_1) (fun (r_2 : Int) => gLet (gModel_isDigit_0  J L r_2) (fun (r_3 : Int) => (if r_3 = 0 then (gModel_pointAt_44 o J L x1 x2 x3) else gLet (wMul 10 x3) (fun (v_4 : Int) => gLet (x1 + x2) (fun (v_5 : Int) => gLet (gModel_sign_0 o J L v_5) (fun (r_6 : Int) => gLet (wAdd v_4 r_6) (fun (v_7 : Int) => gLet (wSub v_7 48) (fun (v_8 : Int) => gLet (x2 + 1) (fun (v_9 : Int) => (gModel_pointAt_4 k o J L x1 v_9 v_8)))))))))))) := rfl
noncomputable def gModel_pointAt_0 (o : Nat) (J : gJ) (L : gL) (x1 : Int) : Int := (gModel_pointAt_4 20000 o J L x1 0 0)
theorem eModel_pointAt_0 {o : Nat} {J : gJ} {L : gL} {x1 : Int} : gModel_pointAt_0 o J L x1 = (gModel_pointAt_4 20000 o J L x1 0 0) := rfl
set_option maxHeartbeats 4000000 in
set_option maxRecDepth 20000 in
theorem yModel_pointAt_4g {D : va_G} {cA : FieldType → ClassId} {b : Nat} {E : State → Prop} {R : qRg} {o n : Nat} {sh : Nat → qC} {Rf : Nat → Nat → Option Nat} {I0 : Nat → Nat → Int32} {L0 : Nat → Nat → Int64} {post : Option Value → qS → Prop} {p1 : Int32} (hok : q_ok (qGG D cA b E)) (hw : WfModel (qGG D cA b E) n sh Rf o) (ra : RAModel R o) (hq0 : (0 : Int) ≤ p1.toInt ∧ p1.toInt ≤ 1700) (hR : RI R I0) (hp : ∀ (r : Int32) , (((0 : Int) ≤ r.toInt ∧ r.toInt ≤ 2)) → (PtR (I0 (o + 2)) (I0 o 3) p1 r.toInt) → (gModel_pointAt_0 o (tI I0) L0 (p1).toInt = r.toInt) → post (some (.int r)) (n, sh, Rf, I0, L0)) : ∀ (k : Nat) {x1 : Int32} {x2 : Int32} {x3 : Int32} , ((0 : Int) ≤ x2.toInt ∧ x2.toInt ≤ 3) → ((0 : Int) ≤ x1.toInt ∧ x1.toInt ≤ 1700) → (x1 = p1) → (PtN (I0 (o + 2)) (I0 o 3) x1 x2.toInt x3.toInt) → (gModel_pointAt_4 k o (tI I0) L0 (x1).toInt (x2).toInt (x3).toInt = gModel_pointAt_0 o (tI I0) L0 (p1).toInt) → (3 - x2.toInt).toNat < k → Ev (qGG D cA b E) mModel_pointAt 1 (0, 0) 4 [(0, .ref o), (1, .int x1), (2, .int x2), (3, .int x3)] [] (n, sh, Rf, I0, L0) post := by
  intro k
  induction k with
  | zero =>
    intro x1 x2 x3 hi0 hi1 hi2 hi3 hg hm
    exact absurd hm (Nat.not_lt_zero _)
  | succ k ih =>
    intro x1 x2 x3 hi0 hi1 hi2 hi3 hg hm
    refine sModel_pointAt_4 o n sh Rf I0 L0 post x1 x2 x3 hok hw ?_
    unfold fModel_pointAt_4
    replace hg := (eModel_pointAt_4).symm.trans hg
    have l_1 : (3 : Int32).toInt = 3 := rfl
    refine ⟨fun c_2 => ?_, fun c_2 => ?_⟩
    · have d_3 := iLe c_2
      replace hg := gt_pos (by first | exact d_3 | omega) hg
      unfold fModel_pointAt_44
      replace hg := (eModel_pointAt_44).symm.trans hg
      have l_4 : (1 : Int32).toInt = 1 := rfl
      refine ⟨fun c_5 => ?_, fun c_5 => ?_⟩
      · have d_6 := iLt c_5
        exfalso; omega
      · have d_7 := iNlt c_5
        replace hg := gt_neg (by first | exact d_7 | omega) hg
        have l_8 : (2 : Int32).toInt = 2 := rfl
        refine ⟨fun c_9 => ?_, fun c_9 => ?_⟩
        · have d_10 := iLt c_9
          replace hg := gt_pos (by first | exact d_10 | omega) hg
          unfold fModel_pointAt_73
          replace hg := (eModel_pointAt_73).symm.trans hg
          have l_11 : (0 : Int32).toInt = 0 := rfl
          exact (hp _ (by first | omega | (intro h; omega) | exact Or.inl rfl | exact Or.inr rfl) (by clear hg; first | exact PtR.no | (subst_vars; exact PtN.out (by assumption) (by omega))) hg.symm)
        · have d_12 := iNlt c_9
          exfalso; omega
    · have d_13 := iNle c_2
      replace hg := gt_neg (by first | exact d_13 | omega) hg
      have a_14 : (x1 + x2).toInt = x1.toInt + x2.toInt := tAdd (by omega) (by omega)
      replace hg := gt_let (y := ((x1 + x2) : Int32).toInt) (by omega) hg
      refine y_Model_signg hok hw ra (by first | omega | (intro h; omega) | exact Or.inl rfl | exact Or.inr rfl) hR (fun r_15 u_16 u_17 gn_18 => ⟨r_15, I0, L0, rfl, rfl, ?_⟩)
      replace hg := gt_let gn_18 hg
      clear gn_18
      refine y_Model_isDigitg hok hR (fun r_19 u_20 u_21 u_22 gn_23 => ⟨r_19, I0, L0, rfl, rfl, ?_⟩)
      replace hg := gt_let gn_23 hg
      clear gn_23
      have b_24 : 0 ≤ r_19.toInt ∧ r_19.toInt ≤ 1 := u_20.rg
      have l_25 : (0 : Int32).toInt = 0 := rfl
      refine ⟨fun c_26 => ?_, fun c_26 => ?_⟩
      · have d_27 := iEq c_26
        replace hg := gt_pos (by first | exact d_27 | omega) hg
        unfold fModel_pointAt_44
        replace hg := (eModel_pointAt_44).symm.trans hg
        have l_28 : (1 : Int32).toInt = 1 := rfl
        refine ⟨fun c_29 => ?_, fun c_29 => ?_⟩
        · have d_30 := iLt c_29
          replace hg := gt_pos (by first | exact d_30 | omega) hg
          unfold fModel_pointAt_73
          replace hg := (eModel_pointAt_73).symm.trans hg
          exact (hp _ (by first | omega | (intro h; omega) | exact Or.inl rfl | exact Or.inr rfl) (by clear hg; first | exact PtR.no | (subst_vars; exact PtN.out (by assumption) (by omega))) hg.symm)
        · have d_31 := iNlt c_29
          replace hg := gt_neg (by first | exact d_31 | omega) hg
          have l_32 : (2 : Int32).toInt = 2 := rfl
          refine ⟨fun c_33 => ?_, fun c_33 => ?_⟩
          · have d_34 := iLt c_33
            exfalso; omega
          · have d_35 := iNlt c_33
            replace hg := gt_neg (by first | exact d_35 | omega) hg
            have l_36 : (16 : Int32).toInt = 16 := rfl
            refine ⟨fun c_37 => ?_, fun c_37 => ?_⟩
            · have d_38 := iLe c_37
              replace hg := gt_pos (by first | exact d_38 | omega) hg
              unfold fModel_pointAt_73
              replace hg := (eModel_pointAt_73).symm.trans hg
              exact (hp _ (by first | omega | (intro h; omega) | exact Or.inl rfl | exact Or.inr rfl) (by clear hg; first | exact PtR.no | (subst_vars; exact PtN.out (by assumption) (by omega))) hg.symm)
            · have d_39 := iNle c_37
              replace hg := gt_neg (by first | exact d_39 | omega) hg
              have a_40 : (x1 + x2).toInt = x1.toInt + x2.toInt := tAdd (by omega) (by omega)
              replace hg := gt_let (y := ((x1 + x2) : Int32).toInt) (by omega) hg
              refine y_Model_signg hok hw ra (by first | omega | (intro h; omega) | exact Or.inl rfl | exact Or.inr rfl) hR (fun r_41 u_42 u_43 gn_44 => ⟨r_41, I0, L0, rfl, rfl, ?_⟩)
              replace hg := gt_let gn_44 hg
              clear gn_44
              refine y_Model_isLetterg hok hR (fun r_45 u_46 u_47 gn_48 => ⟨r_45, I0, L0, rfl, rfl, ?_⟩)
              replace hg := gt_let gn_48 hg
              clear gn_48
              have b_49 : 0 ≤ r_45.toInt ∧ r_45.toInt ≤ 1 := u_46.rg
              refine ⟨fun c_50 => ?_, fun c_50 => ?_⟩
              · have d_51 := iEq c_50
                replace hg := gt_pos (by first | exact d_51 | omega) hg
                exact (hp _ (by first | omega | (intro h; omega) | exact Or.inl rfl | exact Or.inr rfl) (by clear hg; first | exact PtR.no | (subst_vars; exact PtN.out (by assumption) (by omega))) hg.symm)
              · have d_52 := iNe c_50
                replace hg := gt_neg (by first | exact d_52 | omega) hg
                unfold fModel_pointAt_73
                replace hg := (eModel_pointAt_73).symm.trans hg
                exact (hp _ (by first | omega | (intro h; omega) | exact Or.inl rfl | exact Or.inr rfl) (by clear hg; first | exact PtR.no | (subst_vars; exact PtN.out (by assumption) (by omega))) hg.symm)
      · have d_53 := iNe c_26
        replace hg := gt_neg (by first | exact d_53 | omega) hg
        have dg := u_21 (by omega)
        have l_54 : (10 : Int32).toInt = 10 := rfl
        replace hg := gt_let (y := ((10 * x3) : Int32).toInt) (wMul_eq (10 : Int32) (x3 : Int32)) hg
        have a_55 : (x1 + x2).toInt = x1.toInt + x2.toInt := tAdd (by omega) (by omega)
        replace hg := gt_let (y := ((x1 + x2) : Int32).toInt) (by omega) hg
        refine y_Model_signg hok hw ra (by first | omega | (intro h; omega) | exact Or.inl rfl | exact Or.inr rfl) hR (fun r_56 u_57 u_58 gn_59 => ⟨r_56, I0, L0, rfl, rfl, ?_⟩)
        replace hg := gt_let gn_59 hg
        clear gn_59
        have sq := u_58
        have be := iEq ((u_58).trans (u_17).symm)
        replace hg := gt_let (y := (((10 * x3) + r_56) : Int32).toInt) (wAdd_eq ((10 * x3) : Int32) (r_56 : Int32)) hg
        have l_60 : (48 : Int32).toInt = 48 := rfl
        replace hg := gt_let (y := ((((10 * x3) + r_56) - 48) : Int32).toInt) (wSub_eq (((10 * x3) + r_56) : Int32) (48 : Int32)) hg
        have a_62 : (x2 + Int32.ofInt 1).toInt = x2.toInt + (1) := tIc (by omega) (by omega) (by decide) (by decide)
        generalize ez_61 : (x2 + Int32.ofInt 1) = z_61 at a_62 ⊢
        replace hg := gt_let (y := z_61.toInt) (by omega) hg
        exact ih (by first | omega | (intro h; omega) | exact Or.inl rfl | exact Or.inr rfl) (by first | omega | (intro h; omega) | exact Or.inl rfl | exact Or.inr rfl) (by first | rfl | assumption) (by first | exact PtN.zero | exact PtN.step hi3 (by omega) (by omega) sq (by omega) (by omega)) hg (by omega)
set_option maxHeartbeats 4000000 in
set_option maxRecDepth 20000 in
theorem y_Model_pointAtg {D : va_G} {cA : FieldType → ClassId} {b : Nat} {E : State → Prop} {R : qRg} {o n : Nat} {sh : Nat → qC} {Rf : Nat → Nat → Option Nat} {I0 : Nat → Nat → Int32} {L0 : Nat → Nat → Int64} {post : Option Value → qS → Prop} {p1 : Int32} (hok : q_ok (qGG D cA b E)) (hw : WfModel (qGG D cA b E) n sh Rf o) (ra : RAModel R o) (hq0 : (0 : Int) ≤ p1.toInt ∧ p1.toInt ≤ 1700) (hR : RI R I0) (hp : ∀ (r : Int32) , (((0 : Int) ≤ r.toInt ∧ r.toInt ≤ 2)) → (PtR (I0 (o + 2)) (I0 o 3) p1 r.toInt) → (gModel_pointAt_0 o (tI I0) L0 (p1).toInt = r.toInt) → post (some (.int r)) (n, sh, Rf, I0, L0)) : Ev (qGG D cA b E) mModel_pointAt 1 (0, 0) 0 (lv_args 0 [.ref o, .int p1]) [] (n, sh, Rf, I0, L0) post := by
  refine sModel_pointAt_0 o n sh Rf I0 L0 post p1 hok hw ?_
  unfold fModel_pointAt_0
  have hg : gModel_pointAt_0 o (tI I0) L0 (p1).toInt = gModel_pointAt_0 o (tI I0) L0 (p1).toInt := rfl
  replace hg := (eModel_pointAt_0).symm.trans hg
  have l_63 : (0 : Int32).toInt = 0 := rfl
  exact yModel_pointAt_4g (I0 := I0) (L0 := L0) (p1 := p1) hok hw ra hq0 hR hp  20000 (by first | omega | (intro h; omega) | exact Or.inl rfl | exact Or.inr rfl) (by first | omega | (intro h; omega) | exact Or.inl rfl | exact Or.inr rfl) (by first | rfl | assumption) (by first | exact PtN.zero | exact PtN.step hi3 (by omega) (by omega) sq (by omega) (by omega)) hg (by omega)
