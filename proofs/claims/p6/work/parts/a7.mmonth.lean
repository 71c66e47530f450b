/-! Safety of the reference, LOTS that come, PAPERS that are drawn: by program (spec.py). -/
def wModel_comes : Nat → Bool := fun j => Nat.beq j 114 || false
set_option maxHeartbeats 4000000 in
set_option maxRecDepth 20000 in
theorem yModel_comes_7 {D : va_G} {cA : FieldType → ClassId} {b : Nat} {E : State → Prop} {R : qRg} {o n : Nat} {sh : Nat → qC} {Rf : Nat → Nat → Option Nat} {I0 : Nat → Nat → Int32} {L0 : Nat → Nat → Int64} {post : Option Value → qS → Prop} (hok : q_ok (qGG D cA b E)) (hw : WfModel (qGG D cA b E) n sh Rf o) (ra : RAModel R o) (hz114 : R.2 114 = true) (hZ : Fz R I0 o wModel_comes) (hR0 : RI R I0) (hq0 : (I0 o 57).toInt ≤ 239) (hq1 : Pap I0 o) (hq2 : Lot I0 o) (hq3 : JA I0 o) (hp : ∀ (I' : Nat → Nat → Int32) (L' : Nat → Nat → Int64), RI R I' → Fm (fun c => c = o ∨ c = o + 42 ∨ c = o + 45 ∨ (o + 51 ≤ c ∧ c < o + 57) ∨ c = o + 65 ∨ c = o + 66) I0 I' → (Pap I' o) → (Lot I' o) → (JB I' o 0) → post none (n, sh, Rf, I', L')) : ∀ (k : Nat) {x1 : Int32} {x2 : Int32} {I : Nat → Nat → Int32} {L : Nat → Nat → Int64}, RI R I → Fm (fun c => c = o ∨ c = o + 42 ∨ c = o + 45 ∨ (o + 51 ≤ c ∧ c < o + 57) ∨ c = o + 65 ∨ c = o + 66) I0 I → ((0 : Int) ≤ x1.toInt ∧ x1.toInt ≤ 4000) → ((0 : Int) ≤ x2.toInt ∧ x2.toInt ≤ 4000) → (x1.toInt = (I o 105).toInt) → (x2.toInt ≤ x1.toInt) → (JL I o x2.toInt) → (Pap I o) → (Lot I o) → (I (o + 59) = I0 (o + 59)) → (I (o + 60) = I0 (o + 60)) → (I (o + 67) = I0 (o + 67)) → (4000 - x2.toInt).toNat < k → Ev (qGG D cA b E) mModel_comes 3 (0, 0) 7 [(0, .ref o), (1, .int x1), (2, .int x2)] [] (n, sh, Rf, I, L) post := by
  intro k
  induction k with
  | zero =>
    intro x1 x2 I L hR hf hi0 hi1 hi2 hi3 hi4 hi5 hi6 hi7 hi8 hi9 hm
    exact absurd hm (Nat.not_lt_zero _)
  | succ k ih =>
    intro x1 x2 I L hR hf hi0 hi1 hi2 hi3 hi4 hi5 hi6 hi7 hi8 hi9 hm
    have g_1 : (0 : Int) ≤ (I o 57).toInt ∧ (I o 57).toInt ≤ 240 := hR.at0 ra 57 (by decide)
    have z_2 : (I o 57).toInt = (I0 o 57).toInt := by rw [hZ I 57 rfl hR]
    have g_3 : (0 : Int) ≤ (I o 104).toInt ∧ (I o 104).toInt ≤ 2000 := hR.at0 ra 104 (by decide)
    have g_4 : (0 : Int) ≤ (I0 o 104).toInt ∧ (I0 o 104).toInt ≤ 2000 := hR0.at0 ra 104 (by decide)
    have g_5 : (0 : Int) ≤ (I o 105).toInt ∧ (I o 105).toInt ≤ 4000 := hR.at0 ra 105 (by decide)
    have z_6 : (I o 105).toInt = (I0 o 105).toInt := by rw [hZ I 105 rfl hR]
    refine sModel_comes_7 o n sh Rf I L post x1 x2 hok hw ?_
    unfold fModel_comes_7
    refine ⟨fun c_7 => ?_, fun c_7 => ?_⟩
    · have d_8 := iLe c_7
      exact (hp _ _ hR hf  hi5 hi6 (JX.fin hi4 (by omega)))
    · have d_9 := iNle c_7
      have cx := tCl (x := x2) (by omega)
      have k_10 : JL I o x2.toInt := by exact hi4
      refine ⟨tIn (by omega) (by omega), ?_⟩
      have g_11 : (0 : Int) ≤ (I o 57).toInt ∧ (I o 57).toInt ≤ 240 := hR.at0 ra 57 (by decide)
      refine ⟨fun c_12 => ?_, fun c_12 => ?_⟩
      · have d_13 := iEq c_12
        refine ⟨tIn (by omega) (by omega), ?_⟩
        have l_14 : (0 : Int32).toInt = 0 := rfl
        refine ⟨fun c_15 => ?_, fun c_15 => ?_⟩
        · have d_16 := iEq c_15
          have lt := (hi6 x2.toNatClampNeg (by omega)).1 (by omega)
          refine ⟨tIn (by omega) (by omega), ?_⟩
          refine ⟨tIn (by omega) (by omega), ?_⟩
          refine ⟨tIn (by omega) (by omega), ?_⟩
          refine ⟨tIn (by omega) (by omega), fun I_17 e_18 => ?_⟩
          have hR_19 : RI R I_17 := hR.up ra 42 (by decide) (Or.inl rfl) e_18 (i_lo _) (i_hi _)
          have hf_20 : Fm (fun c => c = o ∨ c = o + 42 ∨ c = o + 45 ∨ (o + 51 ≤ c ∧ c < o + 57) ∨ c = o + 65 ∨ c = o + 66) I0 I_17 := hf.set (by first | rfl | omega | (dsimp only; omega)) e_18
          have t_21 : (I_17 o 57).toInt = (I o 57).toInt := by rw [← e_18, q_u_ne (by omega)]
          have t_22 : (I_17 o 104).toInt = (I o 104).toInt := by rw [← e_18, q_u_ne (by omega)]
          have t_23 : (I_17 o 105).toInt = (I o 105).toInt := by rw [← e_18, q_u_ne (by omega)]
          have k_24 : Pap I_17 o := hi5.fr (by rw [← e_18]; exact q_u_ne (by omega)) (by rw [← e_18]; exact q_u_ne (by omega)) (by rw [← e_18]; exact q_u_ne (by omega)) (by rw [← e_18, q_u_ne (by omega)])
          have k_25 : Lot I_17 o := hi6.fr (by rw [← e_18]; exact q_u_ne (by omega)) (by rw [← e_18]; exact q_u_ne (by omega)) (by rw [← e_18, q_u_ne (by omega)])
          have k_26 : JL I_17 o x2.toInt := k_10.fr (by rw [← e_18]; exact q_u_ne (by omega)) (by rw [← e_18]; exact q_u_ne (by omega)) (by rw [← e_18]; exact q_u_ne (by omega)) (by rw [← e_18, q_u_ne (by omega)]) (by rw [← e_18, q_u_ne (by omega)]) (by rw [← e_18, q_u_ne (by omega)])
          have w_27 : I_17 (o + 59) = I0 (o + 59) := by rw [← e_18, q_u_ne (by omega)]; exact hi7
          have w_28 : I_17 (o + 60) = I0 (o + 60) := by rw [← e_18, q_u_ne (by omega)]; exact hi8
          have w_29 : I_17 (o + 67) = I0 (o + 67) := by rw [← e_18, q_u_ne (by omega)]; exact hi9
          have bd := JX.bd k_26 (by omega)
          refine ⟨tIn (by omega) (by omega), ?_⟩
          have g_30 : (-1 : Int) ≤ (I_17 (o + 58) (x2 : Int32).toNatClampNeg).toInt ∧ (I_17 (o + 58) (x2 : Int32).toNatClampNeg).toInt ≤ 5 := hR_19.at ra 58 _ (by decide)
          refine ⟨fun c_31 => ?_, fun c_31 => ?_⟩
          · have d_32 := iLt c_31
            unfold fModel_comes_247
            have a_34 : (x2 + Int32.ofInt 1).toInt = x2.toInt + (1) := tIc (by omega) (by omega) (by decide) (by decide)
            generalize ez_33 : (x2 + Int32.ofInt 1) = z_33 at a_34 ⊢
            exact ih hR_19 hf_20 (by first | omega | (intro h; omega) | exact Or.inl rfl | exact Or.inr rfl) (by first | omega | (intro h; omega) | exact Or.inl rfl | exact Or.inr rfl) (by first | omega | (intro h; omega) | exact Or.inl rfl | exact Or.inr rfl) (by first | omega | (intro h; omega) | exact Or.inl rfl | exact Or.inr rfl) (by first | exact JL.nx k_26 (by omega) | exact (show JL _ o 0 from (False.elim (by omega))) | exact JL.eq jl2 (by omega)) k_24 k_25 w_27 w_28 w_29 (by omega)
          · have d_35 := iNlt c_31
            refine ⟨tIn (by omega) (by omega), ?_⟩
            have g_36 : (-1 : Int) ≤ (I_17 (o + 58) (x2 : Int32).toNatClampNeg).toInt ∧ (I_17 (o + 58) (x2 : Int32).toNatClampNeg).toInt ≤ 5 := hR_19.at ra 58 _ (by decide)
            refine ⟨tIn (by omega) (by omega), ?_⟩
            refine ⟨tIn (by omega) (by omega), ?_⟩
            refine ⟨tIn (by omega) (by omega), ?_⟩
            refine y_Model_give2 hok hw ra hz114 (by first | omega | (intro h; omega) | exact Or.inl rfl | exact Or.inr rfl) (by first | omega | (intro h; omega) | exact Or.inl rfl | exact Or.inr rfl) k_24 hR_19 (fun I_42 L_43 hR_44 fr_45 kp_46 u_38 u_39 u_40 u_41 => ⟨I_42, L_43, rfl, rfl, ?_⟩)
            have hf_47 : Fm (fun c => c = o ∨ c = o + 42 ∨ c = o + 45 ∨ (o + 51 ≤ c ∧ c < o + 57) ∨ c = o + 65 ∨ c = o + 66) I0 I_42 := hf_20.call fr_45 (fun c hc => by first | exact hc | (dsimp only at hc ⊢; omega) | omega)
            have t_48 : (I_42 o 57).toInt = (I_17 o 57).toInt := by rw [kp_46 57 rfl]
            have g_49 : (0 : Int) ≤ (I_42 o 104).toInt ∧ (I_42 o 104).toInt ≤ 2000 := hR_44.at0 ra 104 (by decide)
            have t_50 : (I_42 o 105).toInt = (I_17 o 105).toInt := by rw [kp_46 105 rfl]
            have k_51 : Lot I_42 o := k_25.fr (fr_45 _ (by first | omega | (dsimp only; omega))) (fr_45 _ (by first | omega | (dsimp only; omega))) (kp_46 105 rfl)
            have w_52 : I_42 (o + 59) = I0 (o + 59) := (fr_45 (o + 59) (by first | omega | (dsimp only; omega))).trans w_27
            have w_53 : I_42 (o + 60) = I0 (o + 60) := (fr_45 (o + 60) (by first | omega | (dsimp only; omega))).trans w_28
            have w_54 : I_42 (o + 67) = I0 (o + 67) := (fr_45 (o + 67) (by first | omega | (dsimp only; omega))).trans w_29
            unfold fModel_comes_247
            have jl2 : JL I_42 o (x2.toInt + 1) := by have q := JX.came (k := x2.toNatClampNeg) (l' := x2.toInt + 1) k_26 (by omega) (by omega) (by rw [← fr_45 (o + 67) (by first | omega | (dsimp only; omega)), w_54, ← hi9]; omega) (by rw [← fr_45 (o + 59) (by first | omega | (dsimp only; omega)), w_52, ← hi7]; omega) rfl (fr_45 (o + 59) (by first | omega | (dsimp only; omega))) (fr_45 (o + 67) (by first | omega | (dsimp only; omega))) (kp_46 57 rfl) (kp_46 105 rfl) (by omega) u_40; unfold JL; rw [kp_46 57 rfl]; exact q
            have a_56 : (x2 + Int32.ofInt 1).toInt = x2.toInt + (1) := tIc (by omega) (by omega) (by decide) (by decide)
            generalize ez_55 : (x2 + Int32.ofInt 1) = z_55 at a_56 ⊢
            exact ih hR_44 hf_47 (by first | omega | (intro h; omega) | exact Or.inl rfl | exact Or.inr rfl) (by first | omega | (intro h; omega) | exact Or.inl rfl | exact Or.inr rfl) (by first | omega | (intro h; omega) | exact Or.inl rfl | exact Or.inr rfl) (by first | omega | (intro h; omega) | exact Or.inl rfl | exact Or.inr rfl) (by first | exact JL.nx (False.elim (by omega)) (by omega) | exact (show JL _ o 0 from (False.elim (by omega))) | exact JL.eq jl2 (by omega)) u_41 k_51 w_52 w_53 w_54 (by omega)
        · have d_57 := iNe c_15
          have lt := (hi6 x2.toNatClampNeg (by omega)).2 (by omega)
          refine ⟨tIn (by omega) (by omega), ?_⟩
          refine y_Model_priceOf hok hw ra (by first | omega | (intro h; omega) | exact Or.inl rfl | exact Or.inr rfl) hR (fun r_58  => ⟨r_58, I, L, rfl, rfl, ?_⟩)
          refine ⟨fun c_59 => ?_, fun c_59 => ?_⟩
          · have d_60 := iLe c_59
            unfold fModel_comes_66
            refine ⟨tIn (by omega) (by omega), ?_⟩
            refine ⟨tIn (by omega) (by omega), ?_⟩
            refine ⟨tIn (by omega) (by omega), ?_⟩
            refine ⟨tIn (by omega) (by omega), fun I_61 e_62 => ?_⟩
            have hR_63 : RI R I_61 := hR.up ra 45 (by decide) (Or.inl rfl) e_62 (i_lo _) (i_hi _)
            have hf_64 : Fm (fun c => c = o ∨ c = o + 42 ∨ c = o + 45 ∨ (o + 51 ≤ c ∧ c < o + 57) ∨ c = o + 65 ∨ c = o + 66) I0 I_61 := hf.set (by first | rfl | omega | (dsimp only; omega)) e_62
            have t_65 : (I_61 o 57).toInt = (I o 57).toInt := by rw [← e_62, q_u_ne (by omega)]
            have t_66 : (I_61 o 104).toInt = (I o 104).toInt := by rw [← e_62, q_u_ne (by omega)]
            have t_67 : (I_61 o 105).toInt = (I o 105).toInt := by rw [← e_62, q_u_ne (by omega)]
            have k_68 : Pap I_61 o := hi5.fr (by rw [← e_62]; exact q_u_ne (by omega)) (by rw [← e_62]; exact q_u_ne (by omega)) (by rw [← e_62]; exact q_u_ne (by omega)) (by rw [← e_62, q_u_ne (by omega)])
            have k_69 : Lot I_61 o := hi6.fr (by rw [← e_62]; exact q_u_ne (by omega)) (by rw [← e_62]; exact q_u_ne (by omega)) (by rw [← e_62, q_u_ne (by omega)])
            have k_70 : JL I_61 o x2.toInt := k_10.fr (by rw [← e_62]; exact q_u_ne (by omega)) (by rw [← e_62]; exact q_u_ne (by omega)) (by rw [← e_62]; exact q_u_ne (by omega)) (by rw [← e_62, q_u_ne (by omega)]) (by rw [← e_62, q_u_ne (by omega)]) (by rw [← e_62, q_u_ne (by omega)])
            have w_71 : I_61 (o + 59) = I0 (o + 59) := by rw [← e_62, q_u_ne (by omega)]; exact hi7
            have w_72 : I_61 (o + 60) = I0 (o + 60) := by rw [← e_62, q_u_ne (by omega)]; exact hi8
            have w_73 : I_61 (o + 67) = I0 (o + 67) := by rw [← e_62, q_u_ne (by omega)]; exact hi9
            refine ⟨tIn (by omega) (by omega), ?_⟩
            refine fun L_74 e_75 => ?_
            refine ⟨tIn (by omega) (by omega), ?_⟩
            refine fun L_76 e_77 => ?_
            refine ⟨tIn (by omega) (by omega), ?_⟩
            have g_78 : (-1 : Int) ≤ (I_61 (o + 58) (x2 : Int32).toNatClampNeg).toInt ∧ (I_61 (o + 58) (x2 : Int32).toNatClampNeg).toInt ≤ 5 := hR_63.at ra 58 _ (by decide)
            refine ⟨fun c_79 => ?_, fun c_79 => ?_⟩
            · have d_80 := iLt c_79
              refine ⟨tIn (by omega) (by omega), ?_⟩
              refine fun L_81 e_82 => ?_
              unfold fModel_comes_183
              unfold fModel_comes_247
              have a_84 : (x2 + Int32.ofInt 1).toInt = x2.toInt + (1) := tIc (by omega) (by omega) (by decide) (by decide)
              generalize ez_83 : (x2 + Int32.ofInt 1) = z_83 at a_84 ⊢
              exact ih hR_63 hf_64 (by first | omega | (intro h; omega) | exact Or.inl rfl | exact Or.inr rfl) (by first | omega | (intro h; omega) | exact Or.inl rfl | exact Or.inr rfl) (by first | omega | (intro h; omega) | exact Or.inl rfl | exact Or.inr rfl) (by first | omega | (intro h; omega) | exact Or.inl rfl | exact Or.inr rfl) (by first | exact JL.nx k_70 (by omega) | exact (show JL _ o 0 from (False.elim (by omega))) | exact JL.eq jl2 (by omega)) k_68 k_69 w_71 w_72 w_73 (by omega)
            · have d_85 := iNlt c_79
              refine ⟨tIn (by omega) (by omega), ?_⟩
              have g_86 : (-1 : Int) ≤ (I_61 (o + 58) (x2 : Int32).toNatClampNeg).toInt ∧ (I_61 (o + 58) (x2 : Int32).toNatClampNeg).toInt ≤ 5 := hR_63.at ra 58 _ (by decide)
              refine ⟨tIn (by omega) (by omega), ?_⟩
              refine ⟨tIn (by omega) (by omega), ?_⟩
              refine ⟨tIn (by omega) (by omega), fun L_87 e_88 => ?_⟩
              unfold fModel_comes_183
              unfold fModel_comes_247
              have a_90 : (x2 + Int32.ofInt 1).toInt = x2.toInt + (1) := tIc (by omega) (by omega) (by decide) (by decide)
              generalize ez_89 : (x2 + Int32.ofInt 1) = z_89 at a_90 ⊢
              exact ih hR_63 hf_64 (by first | omega | (intro h; omega) | exact Or.inl rfl | exact Or.inr rfl) (by first | omega | (intro h; omega) | exact Or.inl rfl | exact Or.inr rfl) (by first | omega | (intro h; omega) | exact Or.inl rfl | exact Or.inr rfl) (by first | omega | (intro h; omega) | exact Or.inl rfl | exact Or.inr rfl) (by first | exact JL.nx k_70 (by omega) | exact (show JL _ o 0 from (False.elim (by omega))) | exact JL.eq jl2 (by omega)) k_68 k_69 w_71 w_72 w_73 (by omega)
          · have d_91 := iNle c_59
            unfold fModel_comes_66
            refine ⟨tIn (by omega) (by omega), ?_⟩
            refine ⟨tIn (by omega) (by omega), ?_⟩
            refine ⟨tIn (by omega) (by omega), ?_⟩
            refine ⟨tIn (by omega) (by omega), fun I_92 e_93 => ?_⟩
            have hR_94 : RI R I_92 := hR.up ra 45 (by decide) (Or.inl rfl) e_93 (i_lo _) (i_hi _)
            have hf_95 : Fm (fun c => c = o ∨ c = o + 42 ∨ c = o + 45 ∨ (o + 51 ≤ c ∧ c < o + 57) ∨ c = o + 65 ∨ c = o + 66) I0 I_92 := hf.set (by first | rfl | omega | (dsimp only; omega)) e_93
            have t_96 : (I_92 o 57).toInt = (I o 57).toInt := by rw [← e_93, q_u_ne (by omega)]
            have t_97 : (I_92 o 104).toInt = (I o 104).toInt := by rw [← e_93, q_u_ne (by omega)]
            have t_98 : (I_92 o 105).toInt = (I o 105).toInt := by rw [← e_93, q_u_ne (by omega)]
            have k_99 : Pap I_92 o := hi5.fr (by rw [← e_93]; exact q_u_ne (by omega)) (by rw [← e_93]; exact q_u_ne (by omega)) (by rw [← e_93]; exact q_u_ne (by omega)) (by rw [← e_93, q_u_ne (by omega)])
            have k_100 : Lot I_92 o := hi6.fr (by rw [← e_93]; exact q_u_ne (by omega)) (by rw [← e_93]; exact q_u_ne (by omega)) (by rw [← e_93, q_u_ne (by omega)])
            have k_101 : JL I_92 o x2.toInt := k_10.fr (by rw [← e_93]; exact q_u_ne (by omega)) (by rw [← e_93]; exact q_u_ne (by omega)) (by rw [← e_93]; exact q_u_ne (by omega)) (by rw [← e_93, q_u_ne (by omega)]) (by rw [← e_93, q_u_ne (by omega)]) (by rw [← e_93, q_u_ne (by omega)])
            have w_102 : I_92 (o + 59) = I0 (o + 59) := by rw [← e_93, q_u_ne (by omega)]; exact hi7
            have w_103 : I_92 (o + 60) = I0 (o + 60) := by rw [← e_93, q_u_ne (by omega)]; exact hi8
            have w_104 : I_92 (o + 67) = I0 (o + 67) := by rw [← e_93, q_u_ne (by omega)]; exact hi9
            refine ⟨tIn (by omega) (by omega), ?_⟩
            refine fun L_105 e_106 => ?_
            refine ⟨tIn (by omega) (by omega), ?_⟩
            refine fun L_107 e_108 => ?_
            refine ⟨tIn (by omega) (by omega), ?_⟩
            have g_109 : (-1 : Int) ≤ (I_92 (o + 58) (x2 : Int32).toNatClampNeg).toInt ∧ (I_92 (o + 58) (x2 : Int32).toNatClampNeg).toInt ≤ 5 := hR_94.at ra 58 _ (by decide)
            refine ⟨fun c_110 => ?_, fun c_110 => ?_⟩
            · have d_111 := iLt c_110
              refine ⟨tIn (by omega) (by omega), ?_⟩
              refine fun L_112 e_113 => ?_
              unfold fModel_comes_183
              unfold fModel_comes_247
              have a_115 : (x2 + Int32.ofInt 1).toInt = x2.toInt + (1) := tIc (by omega) (by omega) (by decide) (by decide)
              generalize ez_114 : (x2 + Int32.ofInt 1) = z_114 at a_115 ⊢
              exact ih hR_94 hf_95 (by first | omega | (intro h; omega) | exact Or.inl rfl | exact Or.inr rfl) (by first | omega | (intro h; omega) | exact Or.inl rfl | exact Or.inr rfl) (by first | omega | (intro h; omega) | exact Or.inl rfl | exact Or.inr rfl) (by first | omega | (intro h; omega) | exact Or.inl rfl | exact Or.inr rfl) (by first | exact JL.nx k_101 (by omega) | exact (show JL _ o 0 from (False.elim (by omega))) | exact JL.eq jl2 (by omega)) k_99 k_100 w_102 w_103 w_104 (by omega)
            · have d_116 := iNlt c_110
              refine ⟨tIn (by omega) (by omega), ?_⟩
              have g_117 : (-1 : Int) ≤ (I_92 (o + 58) (x2 : Int32).toNatClampNeg).toInt ∧ (I_92 (o + 58) (x2 : Int32).toNatClampNeg).toInt ≤ 5 := hR_94.at ra 58 _ (by decide)
              refine ⟨tIn (by omega) (by omega), ?_⟩
              refine ⟨tIn (by omega) (by omega), ?_⟩
              refine ⟨tIn (by omega) (by omega), fun L_118 e_119 => ?_⟩
              unfold fModel_comes_183
              unfold fModel_comes_247
              have a_121 : (x2 + Int32.ofInt 1).toInt = x2.toInt + (1) := tIc (by omega) (by omega) (by decide) (by decide)
              generalize ez_120 : (x2 + Int32.ofInt 1) = z_120 at a_121 ⊢
              exact ih hR_94 hf_95 (by first | omega | (intro h; omega) | exact Or.inl rfl | exact Or.inr rfl) (by first | omega | (intro h; omega) | exact Or.inl rfl | exact Or.inr rfl) (by first | omega | (intro h; omega) | exact Or.inl rfl | exact Or.inr rfl) (by first | omega | (intro h; omega) | exact Or.inl rfl | exact Or.inr rfl) (by first | exact JL.nx k_101 (by omega) | exact (show JL _ o 0 from (False.elim (by omega))) | exact JL.eq jl2 (by omega)) k_99 k_100 w_102 w_103 w_104 (by omega)
      · have d_122 := iNe c_12
        unfold fModel_comes_247
        have a_124 : (x2 + Int32.ofInt 1).toInt = x2.toInt + (1) := tIc (by omega) (by omega) (by decide) (by decide)
        generalize ez_123 : (x2 + Int32.ofInt 1) = z_123 at a_124 ⊢
        exact ih hR hf (by first | omega | (intro h; omega) | exact Or.inl rfl | exact Or.inr rfl) (by first | omega | (intro h; omega) | exact Or.inl rfl | exact Or.inr rfl) (by first | omega | (intro h; omega) | exact Or.inl rfl | exact Or.inr rfl) (by first | omega | (intro h; omega) | exact Or.inl rfl | exact Or.inr rfl) (by first | exact JL.nx k_10 (by omega) | exact (show JL _ o 0 from (False.elim (by omega))) | exact JL.eq jl2 (by omega)) hi5 hi6 hi7 hi8 hi9 (by omega)
set_option maxHeartbeats 4000000 in
set_option maxRecDepth 20000 in
theorem yc_Model_comes {D : va_G} {cA : FieldType → ClassId} {b : Nat} {E : State → Prop} {R : qRg} {o n : Nat} {sh : Nat → qC} {Rf : Nat → Nat → Option Nat} {I0 : Nat → Nat → Int32} {L0 : Nat → Nat → Int64} {post : Option Value → qS → Prop} (hok : q_ok (qGG D cA b E)) (hw : WfModel (qGG D cA b E) n sh Rf o) (ra : RAModel R o) (hz114 : R.2 114 = true) (hZ : Fz R I0 o wModel_comes) (hR0 : RI R I0) (hq0 : (I0 o 57).toInt ≤ 239) (hq1 : Pap I0 o) (hq2 : Lot I0 o) (hq3 : JA I0 o) (hR : RI R I0) (hp : ∀ (I' : Nat → Nat → Int32) (L' : Nat → Nat → Int64), RI R I' → Fm (fun c => c = o ∨ c = o + 42 ∨ c = o + 45 ∨ (o + 51 ≤ c ∧ c < o + 57) ∨ c = o + 65 ∨ c = o + 66) I0 I' → (Pap I' o) → (Lot I' o) → (JB I' o 0) → post none (n, sh, Rf, I', L')) : Ev (qGG D cA b E) mModel_comes 3 (0, 0) 0 (lv_args 0 [.ref o]) [] (n, sh, Rf, I0, L0) post := by
  have hf : Fm (fun c => c = o ∨ c = o + 42 ∨ c = o + 45 ∨ (o + 51 ≤ c ∧ c < o + 57) ∨ c = o + 65 ∨ c = o + 66) I0 I0 := Fm.rf
  have g_125 : (0 : Int) ≤ (I0 o 57).toInt ∧ (I0 o 57).toInt ≤ 240 := hR.at0 ra 57 (by decide)
  have g_126 : (0 : Int) ≤ (I0 o 104).toInt ∧ (I0 o 104).toInt ≤ 2000 := hR.at0 ra 104 (by decide)
  have g_127 : (0 : Int) ≤ (I0 o 105).toInt ∧ (I0 o 105).toInt ≤ 4000 := hR.at0 ra 105 (by decide)
  refine sModel_comes_0 o n sh Rf I0 L0 post  hok hw ?_
  unfold fModel_comes_0
  have g_128 : (0 : Int) ≤ (I0 o 105).toInt ∧ (I0 o 105).toInt ≤ 4000 := hR.at0 ra 105 (by decide)
  have l_129 : (0 : Int32).toInt = 0 := rfl
  exact yModel_comes_7 (I0 := I0) (L0 := L0) hok hw ra hz114 hZ hR0 hq0 hq1 hq2 hq3 hp  _ hR hf (by first | omega | (intro h; omega) | exact Or.inl rfl | exact Or.inr rfl) (by first | omega | (intro h; omega) | exact Or.inl rfl | exact Or.inr rfl) (by first | omega | (intro h; omega) | exact Or.inl rfl | exact Or.inr rfl) (by first | omega | (intro h; omega) | exact Or.inl rfl | exact Or.inr rfl) (by first | exact JL.nx (False.elim (by omega)) (by omega) | exact (show JL _ o 0 from hq3) | exact JL.eq jl2 (by omega)) hq1 hq2 rfl rfl rfl (Nat.lt_succ_self _)
theorem y_Model_comes {D : va_G} {cA : FieldType → ClassId} {b : Nat} {E : State → Prop} {R : qRg} {o n : Nat} {sh : Nat → qC} {Rf : Nat → Nat → Option Nat} {I0 : Nat → Nat → Int32} {L0 : Nat → Nat → Int64} {post : Option Value → qS → Prop} (hok : q_ok (qGG D cA b E)) (hw : WfModel (qGG D cA b E) n sh Rf o) (ra : RAModel R o) (hz114 : R.2 114 = true) (hq0 : (I0 o 57).toInt ≤ 239) (hq1 : Pap I0 o) (hq2 : Lot I0 o) (hq3 : JA I0 o) (hR : RI R I0) (hp : ∀ (I' : Nat → Nat → Int32) (L' : Nat → Nat → Int64), RI R I' → Fm (fun c => c = o ∨ c = o + 42 ∨ c = o + 45 ∨ (o + 51 ≤ c ∧ c < o + 57) ∨ c = o + 65 ∨ c = o + 66) I0 I' → Kp wModel_comes I0 I' o → (Pap I' o) → (Lot I' o) → (JB I' o 0) → post none (n, sh, Rf, I', L')) : Ev (qGG D cA b E) mModel_comes 3 (0, 0) 0 (lv_args 0 [.ref o]) [] (n, sh, Rf, I0, L0) post :=
  yc_Model_comes (R := fzR R I0 o wModel_comes) hok hw (fzA ra hR _) (fzT hz114 rfl) fzZ (fzI hR) hq0 hq1 hq2 hq3 (fzI hR) (fun I' L' h1 h2 u0 u1 u2 => hp I' L' (fzB hR h1) h2 (fzP h1) u0 u1 u2)
def wModel_drawOne : Nat → Bool := fun j => Nat.beq j 115 || false
set_option maxHeartbeats 4000000 in
set_option maxRecDepth 20000 in
theorem yc_Model_drawOne {D : va_G} {cA : FieldType → ClassId} {b : Nat} {E : State → Prop} {R : qRg} {o n : Nat} {sh : Nat → qC} {Rf : Nat → Nat → Option Nat} {I0 : Nat → Nat → Int32} {L0 : Nat → Nat → Int64} {post : Option Value → qS → Prop} {p1 : Int32} {p2 : Int32} {p3 : Int32} (hok : q_ok (qGG D cA b E)) (hw : WfModel (qGG D cA b E) n sh Rf o) (ra : RAModel R o) (hz115 : R.2 115 = true) (hZ : Fz R I0 o wModel_drawOne) (hR0 : RI R I0) (hq0 : (0 : Int) ≤ p1.toInt ∧ p1.toInt ≤ 1999) (hq1 : (0 : Int) ≤ p2.toInt ∧ p2.toInt ≤ 2) (hq2 : (-1 : Int) ≤ p3.toInt ∧ p3.toInt ≤ 4) (hq3 : (I0 (o + 56) p1.toNatClampNeg).toInt < 0) (hq4 : p1.toInt < (I0 o 104).toInt) (hq5 : 0 ≤ (I0 (o + 51) p1.toNatClampNeg).toInt) (hq6 : (I0 o 57).toInt ≤ 239) (hq7 : Pap I0 o) (hq8 : Lot I0 o) (hq9 : JB I0 o 0) (hR : RI R I0) (hp : ∀ (I' : Nat → Nat → Int32) (L' : Nat → Nat → Int64), RI R I' → Fm (fun c => c = o ∨ c = o + 44 ∨ c = o + 56 ∨ (o + 58 ≤ c ∧ c < o + 65) ∨ c = o + 67) I0 I' → (Pap I' o) → (Lot I' o) → (JB I' o 0) → post none (n, sh, Rf, I', L')) : Ev (qGG D cA b E) mModel_drawOne 2 (0, 0) 0 (lv_args 0 [.ref o, .int p1, .int p2, .int p3]) [] (n, sh, Rf, I0, L0) post := by
  have hf : Fm (fun c => c = o ∨ c = o + 44 ∨ c = o + 56 ∨ (o + 58 ≤ c ∧ c < o + 65) ∨ c = o + 67) I0 I0 := Fm.rf
  have g_1 : (0 : Int) ≤ (I0 o 57).toInt ∧ (I0 o 57).toInt ≤ 240 := hR.at0 ra 57 (by decide)
  have g_2 : (0 : Int) ≤ (I0 o 104).toInt ∧ (I0 o 104).toInt ≤ 2000 := hR.at0 ra 104 (by decide)
  have g_3 : (0 : Int) ≤ (I0 o 105).toInt ∧ (I0 o 105).toInt ≤ 4000 := hR.at0 ra 105 (by decide)
  refine sModel_drawOne_0 o n sh Rf I0 L0 post p1 p2 p3 hok hw ?_
  unfold fModel_drawOne_0
  have bd := JX.bd hq9 (by omega)
  refine ⟨tIn (by omega) (by omega), ?_⟩
  refine ⟨tIn (by omega) (by omega), ?_⟩
  refine ⟨tIn (by omega) (by omega), fun I_4 e_5 => ?_⟩
  have hR_6 : RI R I_4 := hR.up ra 44 (by decide) (Or.inl rfl) e_5 (i_lo _) (i_hi _)
  have hf_7 : Fm (fun c => c = o ∨ c = o + 44 ∨ c = o + 56 ∨ (o + 58 ≤ c ∧ c < o + 65) ∨ c = o + 67) I0 I_4 := hf.set (by first | rfl | omega | (dsimp only; omega)) e_5
  have t_8 : (I_4 o 57).toInt = (I0 o 57).toInt := by rw [← e_5, q_u_ne (by omega)]
  have t_9 : (I_4 o 104).toInt = (I0 o 104).toInt := by rw [← e_5, q_u_ne (by omega)]
  have t_10 : (I_4 o 105).toInt = (I0 o 105).toInt := by rw [← e_5, q_u_ne (by omega)]
  have k_11 : Pap I_4 o := hq7.fr (by rw [← e_5]; exact q_u_ne (by omega)) (by rw [← e_5]; exact q_u_ne (by omega)) (by rw [← e_5]; exact q_u_ne (by omega)) (by rw [← e_5, q_u_ne (by omega)])
  have k_12 : Lot I_4 o := hq8.fr (by rw [← e_5]; exact q_u_ne (by omega)) (by rw [← e_5]; exact q_u_ne (by omega)) (by rw [← e_5, q_u_ne (by omega)])
  have k_13 : JB I_4 o 0 := hq9.fr (by rw [← e_5]; exact q_u_ne (by omega)) (by rw [← e_5]; exact q_u_ne (by omega)) (by rw [← e_5]; exact q_u_ne (by omega)) (by rw [← e_5, q_u_ne (by omega)]) (by rw [← e_5, q_u_ne (by omega)]) (by rw [← e_5, q_u_ne (by omega)])
  have w_14 : I_4 (o + 51) = I0 (o + 51) := by rw [← e_5, q_u_ne (by omega)]
  have w_15 : I_4 (o + 56) = I0 (o + 56) := by rw [← e_5, q_u_ne (by omega)]
  have d56 : (I_4 (o + 56) p1.toNatClampNeg).toInt < 0 := by rw [w_15]; exact hq3
  have g_16 : (0 : Int) ≤ (I_4 o 57).toInt ∧ (I_4 o 57).toInt ≤ 240 := hR_6.at0 ra 57 (by decide)
  refine ⟨tIn (by omega) (by omega), fun I_17 e_18 => ?_⟩
  have hR_19 : RI R I_17 := hR_6.up ra 56 (by decide) (Or.inl rfl) e_18 (i_lo _) (i_hi _)
  have hf_20 : Fm (fun c => c = o ∨ c = o + 44 ∨ c = o + 56 ∨ (o + 58 ≤ c ∧ c < o + 65) ∨ c = o + 67) I0 I_17 := hf_7.set (by first | rfl | omega | (dsimp only; omega)) e_18
  have t_21 : (I_17 o 57).toInt = (I_4 o 57).toInt := by rw [← e_18, q_u_ne (by omega)]
  have t_22 : (I_17 o 104).toInt = (I_4 o 104).toInt := by rw [← e_18, q_u_ne (by omega)]
  have t_23 : (I_17 o 105).toInt = (I_4 o 105).toInt := by rw [← e_18, q_u_ne (by omega)]
  have k_24 : Pap I_17 o := k_11.put56 e_18 (by exact Or.inr (by omega))
  have k_25 : Lot I_17 o := k_12.fr (by rw [← e_18]; exact q_u_ne (by omega)) (by rw [← e_18]; exact q_u_ne (by omega)) (by rw [← e_18, q_u_ne (by omega)])
  have w_27 : I_17 (o + 51) = I0 (o + 51) := by rw [← e_18, q_u_ne (by omega)]; exact w_14
  have k_28 : JC I_17 o 0 := by have q := JX.drw k_13 e_18 ⟨by omega, by omega⟩ (by omega) d56; unfold JC; rw [show I_17 o 57 = I_4 o 57 from (by rw [← e_18, q_u_ne (by omega)])]; exact q
  refine fun L_29 e_30 => ?_
  have g_31 : (0 : Int) ≤ (I_17 o 57).toInt ∧ (I_17 o 57).toInt ≤ 240 := hR_19.at0 ra 57 (by decide)
  refine ⟨tIn (by omega) (by omega), ?_⟩
  refine fun L_32 e_33 => ?_
  have l_34 : (0 : Int32).toInt = 0 := rfl
  refine ⟨fun c_35 => ?_, fun c_35 => ?_⟩
  · have d_36 := iLe c_35
    have w51 : (I_17 (o + 51) p1.toNatClampNeg).toInt = (I0 (o + 51) p1.toNatClampNeg).toInt := by rw [w_27]
    refine y_Model_panAt hok hw ra (by first | omega | (intro h; omega) | exact Or.inl rfl | exact Or.inr rfl) hR_19 (fun r_37 u_38 => ⟨r_37, I_17, L_32, rfl, rfl, ?_⟩)
    have l_39 : (16 : Int32).toInt = 16 := rfl
    have a_40 : (16 * r_37).toInt = 16 * r_37.toInt := tMulL rfl (by omega) (by omega)
    refine y_Model_townAt hok hw ra (by first | omega | (intro h; omega) | exact Or.inl rfl | exact Or.inr rfl) hR_19 (fun r_41 u_42 => ⟨r_41, I_17, L_32, rfl, rfl, ?_⟩)
    have a_43 : ((16 * r_37) + r_41).toInt = (16 * r_37).toInt + r_41.toInt := tAdd (by omega) (by omega)
    refine ⟨tIn (by omega) (by omega), ?_⟩
    refine ⟨tIn (by omega) (by omega), ?_⟩
    refine ⟨tIn (by omega) (by omega), ?_⟩
    have g_44 : (-1 : Int) ≤ (I_17 (o + 51) (p1 : Int32).toNatClampNeg).toInt ∧ (I_17 (o + 51) (p1 : Int32).toNatClampNeg).toInt ≤ 5 := hR_19.at ra 51 _ (by decide)
    refine ⟨tIn (by omega) (by omega), ?_⟩
    refine ⟨tIn (by omega) (by omega), ?_⟩
    have g_45 : (-1 : Int) ≤ (I_17 (o + 51) (p1 : Int32).toNatClampNeg).toInt ∧ (I_17 (o + 51) (p1 : Int32).toNatClampNeg).toInt ≤ 5 := hR_19.at ra 51 _ (by decide)
    refine ⟨tIn (by omega) (by omega), ?_⟩
    refine ⟨fun c_46 => ?_, fun c_46 => ?_⟩
    · have d_47 := iLe c_46
      refine ⟨tIn (by omega) (by omega), ?_⟩
      have g_48 : (-1 : Int) ≤ (I_17 (o + 51) (p1 : Int32).toNatClampNeg).toInt ∧ (I_17 (o + 51) (p1 : Int32).toNatClampNeg).toInt ≤ 5 := hR_19.at ra 51 _ (by decide)
      refine ⟨tIn (by omega) (by omega), ?_⟩
      unfold fModel_drawOne_164
      refine ⟨tIn (by omega) (by omega), fun L_49 e_50 => ?_⟩
      refine ⟨tIn (by omega) (by omega), ?_⟩
      have g_51 : (-1 : Int) ≤ (I_17 (o + 51) (p1 : Int32).toNatClampNeg).toInt ∧ (I_17 (o + 51) (p1 : Int32).toNatClampNeg).toInt ≤ 5 := hR_19.at ra 51 _ (by decide)
      refine ⟨tIn (by omega) (by omega), ?_⟩
      have l_52 : (1 : Int32).toInt = 1 := rfl
      have l_53 : (-1 : Int32).toInt = -1 := rfl
      refine y_Model_send2 hok hw ra hz115 (by first | omega | (intro h; omega) | exact Or.inl rfl | exact Or.inr rfl) (by first | omega | (intro h; omega) | exact Or.inl rfl | exact Or.inr rfl) hR_19 (fun I_59 L_60 hR_61 fr_62 kp_63 u_55 u_56 u_57 u_58 => ⟨I_59, L_60, rfl, rfl, ?_⟩)
      have hf_64 : Fm (fun c => c = o ∨ c = o + 44 ∨ c = o + 56 ∨ (o + 58 ≤ c ∧ c < o + 65) ∨ c = o + 67) I0 I_59 := hf_20.call fr_62 (fun c hc => by first | exact hc | (dsimp only at hc ⊢; omega) | omega)
      have t_65 : (I_59 o 57).toInt = (I_17 o 57).toInt := by rw [kp_63 57 rfl]
      have t_66 : (I_59 o 104).toInt = (I_17 o 104).toInt := by rw [kp_63 104 rfl]
      have g_67 : (0 : Int) ≤ (I_59 o 105).toInt ∧ (I_59 o 105).toInt ≤ 4000 := hR_61.at0 ra 105 (by decide)
      have k_68 : Pap I_59 o := k_24.fr (fr_62 _ (by first | omega | (dsimp only; omega))) (fr_62 _ (by first | omega | (dsimp only; omega))) (fr_62 _ (by first | omega | (dsimp only; omega))) (kp_63 104 rfl)
      have w_69 : I_59 (o + 51) = I0 (o + 51) := (fr_62 (o + 51) (by first | omega | (dsimp only; omega))).trans w_27
      have k_70 : JB I_59 o 0 := by obtain ⟨w, hw9⟩ := u_55; have q := JS.snd k_28 (by omega) (by decide) (fr_62 (o + 56) (by first | omega | (dsimp only; omega))) hw9 u_56 (kp_63 57 rfl) (kp_63 104 rfl) u_58; unfold JB; rw [kp_63 57 rfl]; exact q
      have k_71 : Lot I_59 o := by exact Lot.snd k_25 (by omega) ⟨fun h => absurd h (by decide), fun _ => ⟨by omega, by omega⟩⟩ u_57 u_56 u_58
      exact (hp _ _ hR_61 hf_64  k_68 k_71 k_70)
    · have d_72 := iNle c_46
      unfold fModel_drawOne_164
      refine ⟨tIn (by omega) (by omega), fun L_73 e_74 => ?_⟩
      refine ⟨tIn (by omega) (by omega), ?_⟩
      have g_75 : (-1 : Int) ≤ (I_17 (o + 51) (p1 : Int32).toNatClampNeg).toInt ∧ (I_17 (o + 51) (p1 : Int32).toNatClampNeg).toInt ≤ 5 := hR_19.at ra 51 _ (by decide)
      refine ⟨tIn (by omega) (by omega), ?_⟩
      have l_76 : (1 : Int32).toInt = 1 := rfl
      have l_77 : (-1 : Int32).toInt = -1 := rfl
      refine y_Model_send2 hok hw ra hz115 (by first | omega | (intro h; omega) | exact Or.inl rfl | exact Or.inr rfl) (by first | omega | (intro h; omega) | exact Or.inl rfl | exact Or.inr rfl) hR_19 (fun I_83 L_84 hR_85 fr_86 kp_87 u_79 u_80 u_81 u_82 => ⟨I_83, L_84, rfl, rfl, ?_⟩)
      have hf_88 : Fm (fun c => c = o ∨ c = o + 44 ∨ c = o + 56 ∨ (o + 58 ≤ c ∧ c < o + 65) ∨ c = o + 67) I0 I_83 := hf_20.call fr_86 (fun c hc => by first | exact hc | (dsimp only at hc ⊢; omega) | omega)
      have t_89 : (I_83 o 57).toInt = (I_17 o 57).toInt := by rw [kp_87 57 rfl]
      have t_90 : (I_83 o 104).toInt = (I_17 o 104).toInt := by rw [kp_87 104 rfl]
      have g_91 : (0 : Int) ≤ (I_83 o 105).toInt ∧ (I_83 o 105).toInt ≤ 4000 := hR_85.at0 ra 105 (by decide)
      have k_92 : Pap I_83 o := k_24.fr (fr_86 _ (by first | omega | (dsimp only; omega))) (fr_86 _ (by first | omega | (dsimp only; omega))) (fr_86 _ (by first | omega | (dsimp only; omega))) (kp_87 104 rfl)
      have w_93 : I_83 (o + 51) = I0 (o + 51) := (fr_86 (o + 51) (by first | omega | (dsimp only; omega))).trans w_27
      have k_94 : JB I_83 o 0 := by obtain ⟨w, hw9⟩ := u_79; have q := JS.snd k_28 (by omega) (by decide) (fr_86 (o + 56) (by first | omega | (dsimp only; omega))) hw9 u_80 (kp_87 57 rfl) (kp_87 104 rfl) u_82; unfold JB; rw [kp_87 57 rfl]; exact q
      have k_95 : Lot I_83 o := by exact Lot.snd k_25 (by omega) ⟨fun h => absurd h (by decide), fun _ => ⟨by omega, by omega⟩⟩ u_81 u_80 u_82
      exact (hp _ _ hR_85 hf_88  k_92 k_95 k_94)
  · have d_96 := iNle c_35
    refine ⟨tIn (by omega) (by omega), ?_⟩
    refine fun L_97 e_98 => ?_
    exact (hp _ _ hR_19 hf_20  k_24 k_25 ((k_28).1))
theorem y_Model_drawOne {D : va_G} {cA : FieldType → ClassId} {b : Nat} {E : State → Prop} {R : qRg} {o n : Nat} {sh : Nat → qC} {Rf : Nat → Nat → Option Nat} {I0 : Nat → Nat → Int32} {L0 : Nat → Nat → Int64} {post : Option Value → qS → Prop} {p1 : Int32} {p2 : Int32} {p3 : Int32} (hok : q_ok (qGG D cA b E)) (hw : WfModel (qGG D cA b E) n sh Rf o) (ra : RAModel R o) (hz115 : R.2 115 = true) (hq0 : (0 : Int) ≤ p1.toInt ∧ p1.toInt ≤ 1999) (hq1 : (0 : Int) ≤ p2.toInt ∧ p2.toInt ≤ 2) (hq2 : (-1 : Int) ≤ p3.toInt ∧ p3.toInt ≤ 4) (hq3 : (I0 (o + 56) p1.toNatClampNeg).toInt < 0) (hq4 : p1.toInt < (I0 o 104).toInt) (hq5 : 0 ≤ (I0 (o + 51) p1.toNatClampNeg).toInt) (hq6 : (I0 o 57).toInt ≤ 239) (hq7 : Pap I0 o) (hq8 : Lot I0 o) (hq9 : JB I0 o 0) (hR : RI R I0) (hp : ∀ (I' : Nat → Nat → Int32) (L' : Nat → Nat → Int64), RI R I' → Fm (fun c => c = o ∨ c = o + 44 ∨ c = o + 56 ∨ (o + 58 ≤ c ∧ c < o + 65) ∨ c = o + 67) I0 I' → Kp wModel_drawOne I0 I' o → (Pap I' o) → (Lot I' o) → (JB I' o 0) → post none (n, sh, Rf, I', L')) : Ev (qGG D cA b E) mModel_drawOne 2 (0, 0) 0 (lv_args 0 [.ref o, .int p1, .int p2, .int p3]) [] (n, sh, Rf, I0, L0) post :=
  yc_Model_drawOne (R := fzR R I0 o wModel_drawOne) hok hw (fzA ra hR _) (fzT hz115 rfl) fzZ (fzI hR) hq0 hq1 hq2 hq3 hq4 hq5 hq6 hq7 hq8 hq9 (fzI hR) (fun I' L' h1 h2 u0 u1 u2 => hp I' L' (fzB hR h1) h2 (fzP h1) u0 u1 u2)
def wModel_draw : Nat → Bool := fun j => Nat.beq j 115 || Nat.beq j 130 || false
set_option maxHeartbeats 4000000 in
set_option maxRecDepth 20000 in
theorem yModel_draw_29 {D : va_G} {cA : FieldType → ClassId} {b : Nat} {E : State → Prop} {R : qRg} {o n : Nat} {sh : Nat → qC} {Rf : Nat → Nat → Option Nat} {I0 : Nat → Nat → Int32} {L0 : Nat → Nat → Int64} {post : Option Value → qS → Prop} {p1 : Int32} (hok : q_ok (qGG D cA b E)) (hw : WfModel (qGG D cA b E) n sh Rf o) (ra : RAModel R o) (hz115 : R.2 115 = true) (hz130 : R.2 130 = true) (hZ : Fz R I0 o wModel_draw) (hR0 : RI R I0) (hq0 : (0 : Int) ≤ p1.toInt ∧ p1.toInt ≤ 2) (hq1 : (I0 o 57).toInt ≤ 239) (hq2 : Pap I0 o) (hq3 : Lot I0 o) (hq4 : JB I0 o 0) (hp : ∀ (I' : Nat → Nat → Int32) (L' : Nat → Nat → Int64), RI R I' → Fm (fun c => c = o ∨ c = o + 44 ∨ c = o + 56 ∨ (o + 58 ≤ c ∧ c < o + 65) ∨ c = o + 67) I0 I' → (Pap I' o) → (Lot I' o) → (JB I' o 0) → post none (n, sh, Rf, I', L')) {k16 : Nat} (ho16 : ∀ {x1 : Int32} {x2 : Int32} {x3 : Int32} {x4 : Int32} {I : Nat → Nat → Int32} {L : Nat → Nat → Int64}, RI R I → Fm (fun c => c = o ∨ c = o + 44 ∨ c = o + 56 ∨ (o + 58 ≤ c ∧ c < o + 65) ∨ c = o + 67) I0 I → ((0 : Int) ≤ x1.toInt ∧ x1.toInt ≤ 2) → ((-1 : Int) ≤ x2.toInt ∧ x2.toInt ≤ 4) → ((0 : Int) ≤ x3.toInt ∧ x3.toInt ≤ 1) → ((0 : Int) ≤ x4.toInt ∧ x4.toInt ≤ 6) → (Pap I o) → (Lot I o) → (JB I o 0) → (6 - x4.toInt).toNat < k16 → Ev (qGG D cA b E) mModel_draw 3 (0, 0) 16 [(0, .ref o), (1, .int x1), (2, .int x2), (3, .int x3), (4, .int x4)] [] (n, sh, Rf, I, L) post) : ∀ (k : Nat) {x1 : Int32} {x2 : Int32} {x3 : Int32} {x4 : Int32} {x5 : Int32} {I : Nat → Nat → Int32} {L : Nat → Nat → Int64}, RI R I → Fm (fun c => c = o ∨ c = o + 44 ∨ c = o + 56 ∨ (o + 58 ≤ c ∧ c < o + 65) ∨ c = o + 67) I0 I → ((0 : Int) ≤ x1.toInt ∧ x1.toInt ≤ 2) → ((-1 : Int) ≤ x2.toInt ∧ x2.toInt ≤ 4) → ((0 : Int) ≤ x3.toInt ∧ x3.toInt ≤ 1) → ((0 : Int) ≤ x4.toInt ∧ x4.toInt ≤ 5) → ((0 : Int) ≤ x5.toInt ∧ x5.toInt ≤ 2000) → ((6 - x4.toInt).toNat < k16 + 1) → (Pap I o) → (Lot I o) → (JB I o 0) → (2000 - x5.toInt).toNat < k → Ev (qGG D cA b E) mModel_draw 3 (0, 0) 29 [(0, .ref o), (1, .int x1), (2, .int x2), (3, .int x3), (4, .int x4), (5, .int x5)] [] (n, sh, Rf, I, L) post := by
  intro k
  induction k with
  | zero =>
    intro x1 x2 x3 x4 x5 I L hR hf hi0 hi1 hi2 hi3 hi4 hi5 hi6 hi7 hi8 hm
    exact absurd hm (Nat.not_lt_zero _)
  | succ k ih =>
    intro x1 x2 x3 x4 x5 I L hR hf hi0 hi1 hi2 hi3 hi4 hi5 hi6 hi7 hi8 hm
    have g_1 : (0 : Int) ≤ (I o 57).toInt ∧ (I o 57).toInt ≤ 240 := hR.at0 ra 57 (by decide)
    have z_2 : (I o 57).toInt = (I0 o 57).toInt := by rw [hZ I 57 rfl hR]
    have g_3 : (0 : Int) ≤ (I o 104).toInt ∧ (I o 104).toInt ≤ 2000 := hR.at0 ra 104 (by decide)
    have z_4 : (I o 104).toInt = (I0 o 104).toInt := by rw [hZ I 104 rfl hR]
    have g_5 : (0 : Int) ≤ (I o 105).toInt ∧ (I o 105).toInt ≤ 4000 := hR.at0 ra 105 (by decide)
    have g_6 : (0 : Int) ≤ (I0 o 105).toInt ∧ (I0 o 105).toInt ≤ 4000 := hR0.at0 ra 105 (by decide)
    refine sModel_draw_29 o n sh Rf I L post x1 x2 x3 x4 x5 hok hw ?_
    unfold fModel_draw_29
    have g_7 : (0 : Int) ≤ (I o 104).toInt ∧ (I o 104).toInt ≤ 2000 := hR.at0 ra 104 (by decide)
    refine ⟨fun c_8 => ?_, fun c_8 => ?_⟩
    · have d_9 := iLe c_8
      unfold fModel_draw_117
      have a_11 : (x4 + Int32.ofInt 1).toInt = x4.toInt + (1) := tIc (by omega) (by omega) (by decide) (by decide)
      generalize ez_10 : (x4 + Int32.ofInt 1) = z_10 at a_11 ⊢
      exact ho16 hR hf (by first | omega | (intro h; omega) | exact Or.inl rfl | exact Or.inr rfl) (by first | omega | (intro h; omega) | exact Or.inl rfl | exact Or.inr rfl) (by first | omega | (intro h; omega) | exact Or.inl rfl | exact Or.inr rfl) (by first | omega | (intro h; omega) | exact Or.inl rfl | exact Or.inr rfl) hi6 hi7 hi8 (by omega)
    · have d_12 := iNle c_8
      have l_13 : (0 : Int32).toInt = 0 := rfl
      refine ⟨fun c_14 => ?_, fun c_14 => ?_⟩
      · have d_15 := iEq c_14
        unfold fModel_draw_117
        have a_17 : (x4 + Int32.ofInt 1).toInt = x4.toInt + (1) := tIc (by omega) (by omega) (by decide) (by decide)
        generalize ez_16 : (x4 + Int32.ofInt 1) = z_16 at a_17 ⊢
        exact ho16 hR hf (by first | omega | (intro h; omega) | exact Or.inl rfl | exact Or.inr rfl) (by first | omega | (intro h; omega) | exact Or.inl rfl | exact Or.inr rfl) (by first | omega | (intro h; omega) | exact Or.inl rfl | exact Or.inr rfl) (by first | omega | (intro h; omega) | exact Or.inl rfl | exact Or.inr rfl) hi6 hi7 hi8 (by omega)
      · have d_18 := iNe c_14
        refine ⟨tIn (by omega) (by omega), ?_⟩
        refine ⟨fun c_19 => ?_, fun c_19 => ?_⟩
        · have d_20 := iNe c_19
          unfold fModel_draw_111
          have a_22 : (x5 + Int32.ofInt 1).toInt = x5.toInt + (1) := tIc (by omega) (by omega) (by decide) (by decide)
          generalize ez_21 : (x5 + Int32.ofInt 1) = z_21 at a_22 ⊢
          exact ih hR hf (by first | omega | (intro h; omega) | exact Or.inl rfl | exact Or.inr rfl) (by first | omega | (intro h; omega) | exact Or.inl rfl | exact Or.inr rfl) (by first | omega | (intro h; omega) | exact Or.inl rfl | exact Or.inr rfl) (by first | omega | (intro h; omega) | exact Or.inl rfl | exact Or.inr rfl) (by first | omega | (intro h; omega) | exact Or.inl rfl | exact Or.inr rfl) (by first | omega | (intro h; omega) | exact Or.inl rfl | exact Or.inr rfl) hi6 hi7 hi8 (by omega)
        · have d_23 := iEq c_19
          refine y_Model_waits2 hok hw ra (by first | omega | (intro h; omega) | exact Or.inl rfl | exact Or.inr rfl) hR (fun r_24 u_25 u_26 => ⟨r_24, I, L, rfl, rfl, ?_⟩)
          have b_27 : 0 ≤ r_24.toInt ∧ r_24.toInt ≤ 1 := u_25.rg
          refine ⟨fun c_28 => ?_, fun c_28 => ?_⟩
          · have d_29 := iEq c_28
            unfold fModel_draw_111
            have a_31 : (x5 + Int32.ofInt 1).toInt = x5.toInt + (1) := tIc (by omega) (by omega) (by decide) (by decide)
            generalize ez_30 : (x5 + Int32.ofInt 1) = z_30 at a_31 ⊢
            exact ih hR hf (by first | omega | (intro h; omega) | exact Or.inl rfl | exact Or.inr rfl) (by first | omega | (intro h; omega) | exact Or.inl rfl | exact Or.inr rfl) (by first | omega | (intro h; omega) | exact Or.inl rfl | exact Or.inr rfl) (by first | omega | (intro h; omega) | exact Or.inl rfl | exact Or.inr rfl) (by first | omega | (intro h; omega) | exact Or.inl rfl | exact Or.inr rfl) (by first | omega | (intro h; omega) | exact Or.inl rfl | exact Or.inr rfl) hi6 hi7 hi8 (by omega)
          · have d_32 := iNe c_28
            have i_33 := u_26 (by omega)
            refine ⟨tIn (by omega) (by omega), ?_⟩
            refine ⟨fun c_34 => ?_, fun c_34 => ?_⟩
            · have d_35 := iEq c_34
              refine ⟨tIn (by omega) (by omega), ?_⟩
              refine ⟨tIn (by omega) (by omega), ?_⟩
              refine ⟨fun c_36 => ?_, fun c_36 => ?_⟩
              · have d_37 := iLt c_36
                unfold fModel_draw_98
                refine ⟨fun c_38 => ?_, fun c_38 => ?_⟩
                · have d_39 := iEq c_38
                  unfold fModel_draw_111
                  have a_41 : (x5 + Int32.ofInt 1).toInt = x5.toInt + (1) := tIc (by omega) (by omega) (by decide) (by decide)
                  generalize ez_40 : (x5 + Int32.ofInt 1) = z_40 at a_41 ⊢
                  exact ih hR hf (by first | omega | (intro h; omega) | exact Or.inl rfl | exact Or.inr rfl) (by first | omega | (intro h; omega) | exact Or.inl rfl | exact Or.inr rfl) (by first | omega | (intro h; omega) | exact Or.inl rfl | exact Or.inr rfl) (by first | omega | (intro h; omega) | exact Or.inl rfl | exact Or.inr rfl) (by first | omega | (intro h; omega) | exact Or.inl rfl | exact Or.inr rfl) (by first | omega | (intro h; omega) | exact Or.inl rfl | exact Or.inr rfl) hi6 hi7 hi8 (by omega)
                · have d_42 := iNe c_38
                  exfalso; omega
              · have d_43 := iNlt c_36
                unfold fModel_draw_98
                have l_44 : (1 : Int32).toInt = 1 := rfl
                refine ⟨fun c_45 => ?_, fun c_45 => ?_⟩
                · have d_46 := iEq c_45
                  exfalso; omega
                · have d_47 := iNe c_45
                  have ow := hi6 x5.toNatClampNeg (by have cl := tCl (x := x5) (by omega); omega) (by omega) (by omega)
                  refine y_Model_drawOne hok hw ra hz115 (by first | omega | (intro h; omega) | exact Or.inl rfl | exact Or.inr rfl) (by first | omega | (intro h; omega) | exact Or.inl rfl | exact Or.inr rfl) (by first | omega | (intro h; omega) | exact Or.inl rfl | exact Or.inr rfl) (by first | omega | (intro h; omega) | exact Or.inl rfl | exact Or.inr rfl) (by first | omega | (intro h; omega) | exact Or.inl rfl | exact Or.inr rfl) (by first | omega | (intro h; omega) | exact Or.inl rfl | exact Or.inr rfl) (by first | omega | (intro h; omega) | exact Or.inl rfl | exact Or.inr rfl) hi6 hi7 hi8 hR (fun I_52 L_53 hR_54 fr_55 kp_56 u_49 u_50 u_51 => ⟨I_52, L_53, rfl, rfl, ?_⟩)
                  have hf_57 : Fm (fun c => c = o ∨ c = o + 44 ∨ c = o + 56 ∨ (o + 58 ≤ c ∧ c < o + 65) ∨ c = o + 67) I0 I_52 := hf.call fr_55 (fun c hc => by first | exact hc | (dsimp only at hc ⊢; omega) | omega)
                  have t_58 : (I_52 o 57).toInt = (I o 57).toInt := by rw [kp_56 57 rfl]
                  have t_59 : (I_52 o 104).toInt = (I o 104).toInt := by rw [kp_56 104 rfl]
                  have g_60 : (0 : Int) ≤ (I_52 o 105).toInt ∧ (I_52 o 105).toInt ≤ 4000 := hR_54.at0 ra 105 (by decide)
                  unfold fModel_draw_111
                  have a_62 : (x5 + Int32.ofInt 1).toInt = x5.toInt + (1) := tIc (by omega) (by omega) (by decide) (by decide)
                  generalize ez_61 : (x5 + Int32.ofInt 1) = z_61 at a_62 ⊢
                  exact ih hR_54 hf_57 (by first | omega | (intro h; omega) | exact Or.inl rfl | exact Or.inr rfl) (by first | omega | (intro h; omega) | exact Or.inl rfl | exact Or.inr rfl) (by first | omega | (intro h; omega) | exact Or.inl rfl | exact Or.inr rfl) (by first | omega | (intro h; omega) | exact Or.inl rfl | exact Or.inr rfl) (by first | omega | (intro h; omega) | exact Or.inl rfl | exact Or.inr rfl) (by first | omega | (intro h; omega) | exact Or.inl rfl | exact Or.inr rfl) u_49 u_50 u_51 (by omega)
            · have d_63 := iNe c_34
              unfold fModel_draw_111
              have a_65 : (x5 + Int32.ofInt 1).toInt = x5.toInt + (1) := tIc (by omega) (by omega) (by decide) (by decide)
              generalize ez_64 : (x5 + Int32.ofInt 1) = z_64 at a_65 ⊢
              exact ih hR hf (by first | omega | (intro h; omega) | exact Or.inl rfl | exact Or.inr rfl) (by first | omega | (intro h; omega) | exact Or.inl rfl | exact Or.inr rfl) (by first | omega | (intro h; omega) | exact Or.inl rfl | exact Or.inr rfl) (by first | omega | (intro h; omega) | exact Or.inl rfl | exact Or.inr rfl) (by first | omega | (intro h; omega) | exact Or.inl rfl | exact Or.inr rfl) (by first | omega | (intro h; omega) | exact Or.inl rfl | exact Or.inr rfl) hi6 hi7 hi8 (by omega)
set_option maxHeartbeats 4000000 in
set_option maxRecDepth 20000 in
theorem yModel_draw_16 {D : va_G} {cA : FieldType → ClassId} {b : Nat} {E : State → Prop} {R : qRg} {o n : Nat} {sh : Nat → qC} {Rf : Nat → Nat → Option Nat} {I0 : Nat → Nat → Int32} {L0 : Nat → Nat → Int64} {post : Option Value → qS → Prop} {p1 : Int32} (hok : q_ok (qGG D cA b E)) (hw : WfModel (qGG D cA b E) n sh Rf o) (ra : RAModel R o) (hz115 : R.2 115 = true) (hz130 : R.2 130 = true) (hZ : Fz R I0 o wModel_draw) (hR0 : RI R I0) (hq0 : (0 : Int) ≤ p1.toInt ∧ p1.toInt ≤ 2) (hq1 : (I0 o 57).toInt ≤ 239) (hq2 : Pap I0 o) (hq3 : Lot I0 o) (hq4 : JB I0 o 0) (hp : ∀ (I' : Nat → Nat → Int32) (L' : Nat → Nat → Int64), RI R I' → Fm (fun c => c = o ∨ c = o + 44 ∨ c = o + 56 ∨ (o + 58 ≤ c ∧ c < o + 65) ∨ c = o + 67) I0 I' → (Pap I' o) → (Lot I' o) → (JB I' o 0) → post none (n, sh, Rf, I', L')) : ∀ (k : Nat) {x1 : Int32} {x2 : Int32} {x3 : Int32} {x4 : Int32} {I : Nat → Nat → Int32} {L : Nat → Nat → Int64}, RI R I → Fm (fun c => c = o ∨ c = o + 44 ∨ c = o + 56 ∨ (o + 58 ≤ c ∧ c < o + 65) ∨ c = o + 67) I0 I → ((0 : Int) ≤ x1.toInt ∧ x1.toInt ≤ 2) → ((-1 : Int) ≤ x2.toInt ∧ x2.toInt ≤ 4) → ((0 : Int) ≤ x3.toInt ∧ x3.toInt ≤ 1) → ((0 : Int) ≤ x4.toInt ∧ x4.toInt ≤ 6) → (Pap I o) → (Lot I o) → (JB I o 0) → (6 - x4.toInt).toNat < k → Ev (qGG D cA b E) mModel_draw 3 (0, 0) 16 [(0, .ref o), (1, .int x1), (2, .int x2), (3, .int x3), (4, .int x4)] [] (n, sh, Rf, I, L) post := by
  intro k
  induction k with
  | zero =>
    intro x1 x2 x3 x4 I L hR hf hi0 hi1 hi2 hi3 hi4 hi5 hi6 hm
    exact absurd hm (Nat.not_lt_zero _)
  | succ k ih =>
    intro x1 x2 x3 x4 I L hR hf hi0 hi1 hi2 hi3 hi4 hi5 hi6 hm
    have g_66 : (0 : Int) ≤ (I o 57).toInt ∧ (I o 57).toInt ≤ 240 := hR.at0 ra 57 (by decide)
    have z_67 : (I o 57).toInt = (I0 o 57).toInt := by rw [hZ I 57 rfl hR]
    have g_68 : (0 : Int) ≤ (I o 104).toInt ∧ (I o 104).toInt ≤ 2000 := hR.at0 ra 104 (by decide)
    have z_69 : (I o 104).toInt = (I0 o 104).toInt := by rw [hZ I 104 rfl hR]
    have g_70 : (0 : Int) ≤ (I o 105).toInt ∧ (I o 105).toInt ≤ 4000 := hR.at0 ra 105 (by decide)
    have g_71 : (0 : Int) ≤ (I0 o 105).toInt ∧ (I0 o 105).toInt ≤ 4000 := hR0.at0 ra 105 (by decide)
    refine sModel_draw_16 o n sh Rf I L post x1 x2 x3 x4 hok hw ?_
    unfold fModel_draw_16
    have l_72 : (5 : Int32).toInt = 5 := rfl
    refine ⟨fun c_73 => ?_, fun c_73 => ?_⟩
    · have d_74 := iLt c_73
      exact (hp _ _ hR hf  hi4 hi5 hi6)
    · have d_75 := iNlt c_73
      have l_76 : (0 : Int32).toInt = 0 := rfl
      refine ⟨fun c_77 => ?_, fun c_77 => ?_⟩
      · have d_78 := iEq c_77
        exact (hp _ _ hR hf  hi4 hi5 hi6)
      · have d_79 := iNe c_77
        exact yModel_draw_29 (I0 := I0) (L0 := L0) (p1 := p1) hok hw ra hz115 hz130 hZ hR0 hq0 hq1 hq2 hq3 hq4 hp ih _ hR hf (by first | omega | (intro h; omega) | exact Or.inl rfl | exact Or.inr rfl) (by first | omega | (intro h; omega) | exact Or.inl rfl | exact Or.inr rfl) (by first | omega | (intro h; omega) | exact Or.inl rfl | exact Or.inr rfl) (by first | omega | (intro h; omega) | exact Or.inl rfl | exact Or.inr rfl) (by first | omega | (intro h; omega) | exact Or.inl rfl | exact Or.inr rfl) (by first | omega | (intro h; omega) | exact Or.inl rfl | exact Or.inr rfl) hi4 hi5 hi6 (Nat.lt_succ_self _)
set_option maxHeartbeats 4000000 in
set_option maxRecDepth 20000 in
theorem yc_Model_draw {D : va_G} {cA : FieldType → ClassId} {b : Nat} {E : State → Prop} {R : qRg} {o n : Nat} {sh : Nat → qC} {Rf : Nat → Nat → Option Nat} {I0 : Nat → Nat → Int32} {L0 : Nat → Nat → Int64} {post : Option Value → qS → Prop} {p1 : Int32} (hok : q_ok (qGG D cA b E)) (hw : WfModel (qGG D cA b E) n sh Rf o) (ra : RAModel R o) (hz115 : R.2 115 = true) (hz130 : R.2 130 = true) (hZ : Fz R I0 o wModel_draw) (hR0 : RI R I0) (hq0 : (0 : Int) ≤ p1.toInt ∧ p1.toInt ≤ 2) (hq1 : (I0 o 57).toInt ≤ 239) (hq2 : Pap I0 o) (hq3 : Lot I0 o) (hq4 : JB I0 o 0) (hR : RI R I0) (hp : ∀ (I' : Nat → Nat → Int32) (L' : Nat → Nat → Int64), RI R I' → Fm (fun c => c = o ∨ c = o + 44 ∨ c = o + 56 ∨ (o + 58 ≤ c ∧ c < o + 65) ∨ c = o + 67) I0 I' → (Pap I' o) → (Lot I' o) → (JB I' o 0) → post none (n, sh, Rf, I', L')) : Ev (qGG D cA b E) mModel_draw 3 (0, 0) 0 (lv_args 0 [.ref o, .int p1]) [] (n, sh, Rf, I0, L0) post := by
  have hf : Fm (fun c => c = o ∨ c = o + 44 ∨ c = o + 56 ∨ (o + 58 ≤ c ∧ c < o + 65) ∨ c = o + 67) I0 I0 := Fm.rf
  have g_80 : (0 : Int) ≤ (I0 o 57).toInt ∧ (I0 o 57).toInt ≤ 240 := hR.at0 ra 57 (by decide)
  have g_81 : (0 : Int) ≤ (I0 o 104).toInt ∧ (I0 o 104).toInt ≤ 2000 := hR.at0 ra 104 (by decide)
  have g_82 : (0 : Int) ≤ (I0 o 105).toInt ∧ (I0 o 105).toInt ≤ 4000 := hR.at0 ra 105 (by decide)
  refine sModel_draw_0 o n sh Rf I0 L0 post p1 hok hw ?_
  unfold fModel_draw_0
  refine y_Model_worthOf hok hw ra hz130 (by first | omega | (intro h; omega) | exact Or.inl rfl | exact Or.inr rfl) hR (fun r_83 I_84 L_85 hR_86 fr_87 kp_88  => ⟨r_83, I_84, L_85, rfl, rfl, ?_⟩)
  have hf_89 : Fm (fun c => c = o ∨ c = o + 44 ∨ c = o + 56 ∨ (o + 58 ≤ c ∧ c < o + 65) ∨ c = o + 67) I0 I_84 := hf.call fr_87 (fun c hc => by first | exact hc | (dsimp only at hc ⊢; omega) | omega)
  have t_90 : (I_84 o 57).toInt = (I0 o 57).toInt := by rw [kp_88 57 rfl]
  have t_91 : (I_84 o 104).toInt = (I0 o 104).toInt := by rw [kp_88 104 rfl]
  have t_92 : (I_84 o 105).toInt = (I0 o 105).toInt := by rw [kp_88 105 rfl]
  have k_93 : Pap I_84 o := hq2.fr (fr_87 _ (by first | omega | (dsimp only; omega))) (fr_87 _ (by first | omega | (dsimp only; omega))) (fr_87 _ (by first | omega | (dsimp only; omega))) (kp_88 104 rfl)
  have k_94 : Lot I_84 o := hq3.fr (fr_87 _ (by first | omega | (dsimp only; omega))) (fr_87 _ (by first | omega | (dsimp only; omega))) (kp_88 105 rfl)
  have k_95 : JB I_84 o 0 := hq4.fr (fr_87 _ (by first | omega | (dsimp only; omega))) (fr_87 _ (by first | omega | (dsimp only; omega))) (fr_87 _ (by first | omega | (dsimp only; omega))) (kp_88 57 rfl) (kp_88 104 rfl) (kp_88 105 rfl)
  have g_96 : (-1 : Int) ≤ (I_84 o 120).toInt ∧ (I_84 o 120).toInt ≤ 4 := hR_86.at0 ra 120 (by decide)
  have l_97 : (1 : Int32).toInt = 1 := rfl
  have l_98 : (0 : Int32).toInt = 0 := rfl
  exact yModel_draw_16 (I0 := I0) (L0 := L0) (p1 := p1) hok hw ra hz115 hz130 hZ hR0 hq0 hq1 hq2 hq3 hq4 hp  _ hR_86 hf_89 (by first | omega | (intro h; omega) | exact Or.inl rfl | exact Or.inr rfl) (by first | omega | (intro h; omega) | exact Or.inl rfl | exact Or.inr rfl) (by first | omega | (intro h; omega) | exact Or.inl rfl | exact Or.inr rfl) (by first | omega | (intro h; omega) | exact Or.inl rfl | exact Or.inr rfl) k_93 k_94 k_95 (Nat.lt_succ_self _)
theorem y_Model_draw {D : va_G} {cA : FieldType → ClassId} {b : Nat} {E : State → Prop} {R : qRg} {o n : Nat} {sh : Nat → qC} {Rf : Nat → Nat → Option Nat} {I0 : Nat → Nat → Int32} {L0 : Nat → Nat → Int64} {post : Option Value → qS → Prop} {p1 : Int32} (hok : q_ok (qGG D cA b E)) (hw : WfModel (qGG D cA b E) n sh Rf o) (ra : RAModel R o) (hz115 : R.2 115 = true) (hz130 : R.2 130 = true) (hq0 : (0 : Int) ≤ p1.toInt ∧ p1.toInt ≤ 2) (hq1 : (I0 o 57).toInt ≤ 239) (hq2 : Pap I0 o) (hq3 : Lot I0 o) (hq4 : JB I0 o 0) (hR : RI R I0) (hp : ∀ (I' : Nat → Nat → Int32) (L' : Nat → Nat → Int64), RI R I' → Fm (fun c => c = o ∨ c = o + 44 ∨ c = o + 56 ∨ (o + 58 ≤ c ∧ c < o + 65) ∨ c = o + 67) I0 I' → Kp wModel_draw I0 I' o → (Pap I' o) → (Lot I' o) → (JB I' o 0) → post none (n, sh, Rf, I', L')) : Ev (qGG D cA b E) mModel_draw 3 (0, 0) 0 (lv_args 0 [.ref o, .int p1]) [] (n, sh, Rf, I0, L0) post :=
  yc_Model_draw (R := fzR R I0 o wModel_draw) hok hw (fzA ra hR _) (fzT hz115 rfl) (fzT hz130 rfl) fzZ (fzI hR) hq0 hq1 hq2 hq3 hq4 (fzI hR) (fun I' L' h1 h2 u0 u1 u2 => hp I' L' (fzB hR h1) h2 (fzP h1) u0 u1 u2)
