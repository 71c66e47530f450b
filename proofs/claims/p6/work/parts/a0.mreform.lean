/-! Safety of the reference, behind: by program (spec.py). -/
def wModel_behind : Nat → Bool := fun j => Nat.beq j 14 || Nat.beq j 15 || Nat.beq j 16 || Nat.beq j 17 || Nat.beq j 18 || Nat.beq j 19 || Nat.beq j 55 || Nat.beq j 57 || Nat.beq j 58 || false
set_option maxHeartbeats 4000000 in
set_option maxRecDepth 20000 in
theorem yModel_behind_23 {D : va_G} {cA : FieldType → ClassId} {b : Nat} {E : State → Prop} {R : qRg} {o n : Nat} {sh : Nat → qC} {Rf : Nat → Nat → Option Nat} {I0 : Nat → Nat → Int32} {L0 : Nat → Nat → Int64} {post : Option Value → qS → Prop} {f0 : Nat} (hok : q_ok (qGG D cA b E)) (hw : WfModel (qGG D cA b E) n sh Rf o) (ra : RAModel R o) (hz14 : R.2 14 = true) (hz15 : R.2 15 = true) (hz16 : R.2 16 = true) (hz17 : R.2 17 = true) (hz18 : R.2 18 = true) (hz19 : R.2 19 = true) (hz55 : R.2 55 = true) (hz57 : R.2 57 = true) (hz58 : R.2 58 = true) (hZ : Fz R I0 o wModel_behind) (hR0 : RI R I0) (hq0 : (I0 o 7).toInt ≤ (I0 o 3).toInt) (hq1 : (I0 o 4).toInt = 0) (hq2 : 1 ≤ (I0 o 48).toInt) (hq3 : EX 0 0 0 f0 0 I0 o) (hq4 : MTd I0 o) (hq5 : MPo I0 o) (hq6 : MTk I0 o) (hp : ∀ (r : Int32) (I' : Nat → Nat → Int32) (L' : Nat → Nat → Int64), RI R I' → Fm (fun c => c = o ∨ (o + 30 ≤ c ∧ c < o + 34)) I0 I' → (Bz r) → ((I' o 7).toInt ≤ (I' o 3).toInt) → ((I0 o 7).toInt ≤ (I' o 7).toInt) → ((I0 o 4).toInt ≤ (I' o 4).toInt) → (7 * (I0 o 7).toInt - (I0 o 8).toInt + (I0 o 4).toInt ≤ 7 * (I' o 7).toInt - (I' o 8).toInt + (I' o 4).toInt) → (81 * (7 * (I0 o 7).toInt - (I0 o 8).toInt + (I0 o 4).toInt) - (I0 o 48).toInt < 81 * (7 * (I' o 7).toInt - (I' o 8).toInt + (I' o 4).toInt) - (I' o 48).toInt) → (Im ((I' o 4).toInt = 0) (EX 0 0 0 f0 r.toInt I' o)) → (MTd I' o) → (MPo I' o) → (MTk I' o) → post (some (.int r)) (n, sh, Rf, I', L')) : ∀ (k : Nat) {x1 : Int32} {x2 : Int32} {I : Nat → Nat → Int32} {L : Nat → Nat → Int64}, RI R I → Fm (fun c => c = o ∨ (o + 30 ≤ c ∧ c < o + 34)) I0 I → ((0 : Int) ≤ x1.toInt ∧ x1.toInt ≤ 6) → ((0 : Int) ≤ x2.toInt ∧ x2.toInt ≤ 1) → ((I o 4).toInt = 0) → ((I o 6).toInt = (I0 o 6).toInt) → ((I o 7).toInt = (I0 o 7).toInt) → ((I o 8).toInt = (I0 o 8).toInt) → (1 ≤ (I o 48).toInt) → ((I o 48).toInt ≤ (I0 o 48).toInt) → (x1.toInt ≠ 3) → (Im (x1.toInt ≠ 0) ((I0 o 8).toInt ≠ 0)) → (Im (4 ≤ x1.toInt) (Bn (sgF (I0 (o + 2)) (I0 o 3) (I0 o 6)).toInt)) → (EX 0 0 0 f0 0 I o) → (MTd I o) → (MPo I o) → (MTk I o) → (I o 48).toInt.toNat < k → Ev (qGG D cA b E) mModel_behind 4 (0, 0) 23 [(0, .ref o), (1, .int x1), (2, .int x2)] [] (n, sh, Rf, I, L) post := by
  intro k
  induction k with
  | zero =>
    intro x1 x2 I L hR hf hi0 hi1 hi2 hi3 hi4 hi5 hi6 hi7 hi8 hi9 hi10 hi11 hi12 hi13 hi14 hm
    exact absurd hm (Nat.not_lt_zero _)
  | succ k ih =>
    intro x1 x2 I L hR hf hi0 hi1 hi2 hi3 hi4 hi5 hi6 hi7 hi8 hi9 hi10 hi11 hi12 hi13 hi14 hm
    have g_1 : (0 : Int) ≤ (I o 3).toInt ∧ (I o 3).toInt ≤ 1600 := hR.at0 ra 3 (by decide)
    have z_2 : (I o 3).toInt = (I0 o 3).toInt := by rw [hZ I 3 rfl hR]
    have g_3 : (0 : Int) ≤ (I o 4).toInt ∧ (I o 4).toInt ≤ 5 := hR.at0 ra 4 (by decide)
    have g_4 : (0 : Int) ≤ (I0 o 4).toInt ∧ (I0 o 4).toInt ≤ 5 := hR0.at0 ra 4 (by decide)
    have g_5 : (0 : Int) ≤ (I o 6).toInt ∧ (I o 6).toInt ≤ 1600 := hR.at0 ra 6 (by decide)
    have g_6 : (0 : Int) ≤ (I0 o 6).toInt ∧ (I0 o 6).toInt ≤ 1600 := hR0.at0 ra 6 (by decide)
    have g_7 : (0 : Int) ≤ (I o 7).toInt ∧ (I o 7).toInt ≤ 1601 := hR.at0 ra 7 (by decide)
    have g_8 : (0 : Int) ≤ (I0 o 7).toInt ∧ (I0 o 7).toInt ≤ 1601 := hR0.at0 ra 7 (by decide)
    have g_9 : (0 : Int) ≤ (I o 8).toInt ∧ (I o 8).toInt ≤ 6 := hR.at0 ra 8 (by decide)
    have g_10 : (0 : Int) ≤ (I0 o 8).toInt ∧ (I0 o 8).toInt ≤ 6 := hR0.at0 ra 8 (by decide)
    have g_11 : (0 : Int) ≤ (I o 44).toInt ∧ (I o 44).toInt ≤ 4 := hR.at0 ra 44 (by decide)
    have z_12 : (I o 44).toInt = (I0 o 44).toInt := by rw [hZ I 44 rfl hR]
    have g_13 : (0 : Int) ≤ (I o 45).toInt ∧ (I o 45).toInt ≤ 700 := hR.at0 ra 45 (by decide)
    have g_14 : (0 : Int) ≤ (I0 o 45).toInt ∧ (I0 o 45).toInt ≤ 700 := hR0.at0 ra 45 (by decide)
    have g_15 : (0 : Int) ≤ (I o 47).toInt ∧ (I o 47).toInt ≤ 7 := hR.at0 ra 47 (by decide)
    have g_16 : (0 : Int) ≤ (I0 o 47).toInt ∧ (I0 o 47).toInt ≤ 7 := hR0.at0 ra 47 (by decide)
    have g_17 : (0 : Int) ≤ (I o 48).toInt ∧ (I o 48).toInt ≤ 80 := hR.at0 ra 48 (by decide)
    have g_18 : (0 : Int) ≤ (I0 o 48).toInt ∧ (I0 o 48).toInt ≤ 80 := hR0.at0 ra 48 (by decide)
    refine sModel_behind_23 o n sh Rf I L post x1 x2 hok hw ?_
    unfold fModel_behind_23
    have g_19 : (0 : Int) ≤ (I o 48).toInt ∧ (I o 48).toInt ≤ 80 := hR.at0 ra 48 (by decide)
    have l_20 : (1 : Int32).toInt = 1 := rfl
    have a_21 : ((I o 48) - 1).toInt = (I o 48).toInt - (1 : Int32).toInt := tSub (by omega) (by omega)
    refine ⟨tIn (by omega) (by omega), ?_⟩
    have g_22 : (0 : Int) ≤ (I (o + 32) (((I o 48) - 1) : Int32).toNatClampNeg).toInt ∧ (I (o + 32) (((I o 48) - 1) : Int32).toNatClampNeg).toInt ≤ 8 := hR.at ra 32 _ (by decide)
    have l_23 : (6 : Int32).toInt = 6 := rfl
    refine ⟨fun c_24 => ?_, fun c_24 => ?_⟩
    · have d_25 := iLt c_24
      unfold fModel_behind_108
      have lw := hi11.low (by omega)
      have l_26 : (0 : Int32).toInt = 0 := rfl
      refine ⟨fun c_27 => ?_, fun c_27 => ?_⟩
      · have d_28 := iLe c_27
        refine ⟨fun c_29 => ?_, fun c_29 => ?_⟩
        · have d_30 := iEq c_29
          have g_31 : (0 : Int) ≤ (I o 48).toInt ∧ (I o 48).toInt ≤ 80 := hR.at0 ra 48 (by decide)
          have a_32 : ((I o 48) - 1).toInt = (I o 48).toInt - (1 : Int32).toInt := tSub (by omega) (by omega)
          refine fun I_33 e_34 => ?_
          have hR_35 : RI R I_33 := hR.up0 (k := 48) ra (by decide) (Or.inr hz58) e_34 (show (0 : Int) ≤ ((I o 48) - 1).toInt by omega) (show ((I o 48) - 1).toInt ≤ (80 : Int) by omega)
          have hf_36 : Fm (fun c => c = o ∨ (o + 30 ≤ c ∧ c < o + 34)) I0 I_33 := hf.set (by first | rfl | omega | (dsimp only; omega)) e_34
          have t_37 : (I_33 o 3).toInt = (I o 3).toInt := by rw [← e_34, q_u_k (by decide)]
          have t_38 : (I_33 o 4).toInt = (I o 4).toInt := by rw [← e_34, q_u_k (by decide)]
          have t_39 : (I_33 o 6).toInt = (I o 6).toInt := by rw [← e_34, q_u_k (by decide)]
          have t_40 : (I_33 o 7).toInt = (I o 7).toInt := by rw [← e_34, q_u_k (by decide)]
          have t_41 : (I_33 o 8).toInt = (I o 8).toInt := by rw [← e_34, q_u_k (by decide)]
          have t_42 : (I_33 o 9).toInt = (I o 9).toInt := by rw [← e_34, q_u_k (by decide)]
          have t_43 : (I_33 o 44).toInt = (I o 44).toInt := by rw [← e_34, q_u_k (by decide)]
          have t_44 : (I_33 o 45).toInt = (I o 45).toInt := by rw [← e_34, q_u_k (by decide)]
          have t_45 : (I_33 o 47).toInt = (I o 47).toInt := by rw [← e_34, q_u_k (by decide)]
          have t_46 : (I_33 o 48).toInt = ((I o 48) - 1).toInt := by rw [← e_34, q_u_at]
          have k_48 : MTd I_33 o := hi12.fr (by rw [← e_34]; exact q_u_ne (by omega)) (by rw [← e_34]; exact q_u_ne (by omega)) (by rw [← e_34]; exact q_u_ne (by omega))
          have k_49 : MPo I_33 o := hi13.fr (by rw [← e_34, q_u_k (by decide)]) (by rw [← e_34, q_u_k (by decide)])
          have k_50 : MTk I_33 o := hi14.fr (by rw [← e_34, q_u_k (by decide)]) (by rw [← e_34, q_u_k (by decide)]) (by rw [← e_34, q_u_k (by decide)])
          have wq : I_33 (o + 32) (I_33 o 48).toNatClampNeg = I (o + 32) ((I o 48) - 1).toNatClampNeg := by rw [← e_34, q_u_ne (by omega), q_u_at]
          have wi := iEq wq
          have k_51 : EX 1 0 0 f0 0 I_33 o := by exact EX.put48 hi11 e_34 (by omega)
          have of := (k_51.off (by omega)).2
          have pb := pB_r (I_33 (o + 32) (I_33 o 48).toNatClampNeg).toInt
          have po := pO_r (I_33 (o + 32) (I_33 o 48).toNatClampNeg).toInt
          have g_52 : (0 : Int) ≤ (I_33 o 48).toInt ∧ (I_33 o 48).toInt ≤ 80 := hR_35.at0 ra 48 (by decide)
          refine ⟨tIn (by omega) (by omega), ?_⟩
          have g_53 : (0 : Int) ≤ (I_33 (o + 32) ((I_33 o 48) : Int32).toNatClampNeg).toInt ∧ (I_33 (o + 32) ((I_33 o 48) : Int32).toNatClampNeg).toInt ≤ 8 := hR_35.at ra 32 _ (by decide)
          have l_54 : (7 : Int32).toInt = 7 := rfl
          refine ⟨fun c_55 => ?_, fun c_55 => ?_⟩
          · have d_56 := iNe c_55
            have tk := k_50.1
            have pb := pB_r (I_33 (o + 32) (I_33 o 48).toNatClampNeg).toInt
            have po := pO_r (I_33 (o + 32) (I_33 o 48).toNatClampNeg).toInt
            have k_57 : EX 0 0 0 f0 0 I_33 o := by exact EX.drop k_51 (by omega) (by omega) (by omega)
            exact (hp _ _ _ hR_35 hf_36 (Or.inl rfl) (by first | omega | (intro h; omega) | exact Or.inl rfl | exact Or.inr rfl) (by first | omega | (intro h; omega) | exact Or.inl rfl | exact Or.inr rfl) (by first | omega | (intro h; omega) | exact Or.inl rfl | exact Or.inr rfl) (by first | omega | (intro h; omega) | exact Or.inl rfl | exact Or.inr rfl) (by first | omega | (intro h; omega) | exact Or.inl rfl | exact Or.inr rfl) (by first | (intro h; exfalso; omega) | exact fun _ => (False.elim (by omega)) | exact fun _ => k_57) k_48 k_49 k_50)
          · have d_58 := iEq c_55
            have pb := pB_r (I_33 (o + 32) (I_33 o 48).toNatClampNeg).toInt
            have g_59 : (0 : Int) ≤ (I_33 o 47).toInt ∧ (I_33 o 47).toInt ≤ 7 := hR_35.at0 ra 47 (by decide)
            have a_60 : ((I_33 o 47) - 1).toInt = (I_33 o 47).toInt - (1 : Int32).toInt := tSub (by omega) (by omega)
            refine fun I_61 e_62 => ?_
            have hR_63 : RI R I_61 := hR_35.up0 (k := 47) ra (by decide) (Or.inr hz57) e_62 (show (0 : Int) ≤ ((I_33 o 47) - 1).toInt by omega) (show ((I_33 o 47) - 1).toInt ≤ (7 : Int) by omega)
            have hf_64 : Fm (fun c => c = o ∨ (o + 30 ≤ c ∧ c < o + 34)) I0 I_61 := hf_36.set (by first | rfl | omega | (dsimp only; omega)) e_62
            have t_65 : (I_61 o 3).toInt = (I_33 o 3).toInt := by rw [← e_62, q_u_k (by decide)]
            have t_66 : (I_61 o 4).toInt = (I_33 o 4).toInt := by rw [← e_62, q_u_k (by decide)]
            have t_67 : (I_61 o 6).toInt = (I_33 o 6).toInt := by rw [← e_62, q_u_k (by decide)]
            have t_68 : (I_61 o 7).toInt = (I_33 o 7).toInt := by rw [← e_62, q_u_k (by decide)]
            have t_69 : (I_61 o 8).toInt = (I_33 o 8).toInt := by rw [← e_62, q_u_k (by decide)]
            have t_70 : (I_61 o 9).toInt = (I_33 o 9).toInt := by rw [← e_62, q_u_k (by decide)]
            have t_71 : (I_61 o 44).toInt = (I_33 o 44).toInt := by rw [← e_62, q_u_k (by decide)]
            have t_72 : (I_61 o 45).toInt = (I_33 o 45).toInt := by rw [← e_62, q_u_k (by decide)]
            have t_73 : (I_61 o 47).toInt = ((I_33 o 47) - 1).toInt := by rw [← e_62, q_u_at]
            have t_74 : (I_61 o 48).toInt = (I_33 o 48).toInt := by rw [← e_62, q_u_k (by decide)]
            have k_75 : MTd I_61 o := k_48.fr (by rw [← e_62]; exact q_u_ne (by omega)) (by rw [← e_62]; exact q_u_ne (by omega)) (by rw [← e_62]; exact q_u_ne (by omega))
            have k_76 : MPo I_61 o := k_49.fr (by rw [← e_62, q_u_k (by decide)]) (by rw [← e_62, q_u_k (by decide)])
            have k_77 : MTk I_61 o := k_50.fr (by rw [← e_62, q_u_k (by decide)]) (by rw [← e_62, q_u_k (by decide)]) (by rw [← e_62, q_u_k (by decide)])
            have wz : I_61 (o + 32) (I_61 o 48).toNatClampNeg = I_33 (o + 32) (I_33 o 48).toNatClampNeg := by rw [← e_62, q_u_ne (by omega), q_u_k (by decide)]
            have wy := iEq wz
            have pb := pB_r (I_61 (o + 32) (I_61 o 48).toNatClampNeg).toInt
            have po := pO_r (I_61 (o + 32) (I_61 o 48).toNatClampNeg).toInt
            have k_79 : EX 1 1 0 f0 0 I_61 o := by exact EX.put47 k_51 e_62 (by omega)
            have k_80 : EX 0 0 0 f0 0 I_61 o := by exact EX.drop k_79 (by omega) (by omega) (by omega)
            have l_81 : (41 : Int32).toInt = 41 := rfl
            refine y_Model_is hok hw ra hR_63 (fun r_82 u_83 u_84 u_85 => ⟨r_82, I_61, L, rfl, rfl, ?_⟩)
            have b_86 : 0 ≤ r_82.toInt ∧ r_82.toInt ≤ 1 := u_83.rg
            refine y_Model_must hok hw ra hz14 hz15 hz16 hz17 hz18 hz19 (by first | omega | (intro h; omega) | exact Or.inl rfl | exact Or.inr rfl) k_76 k_77 hR_63 (fun I_97 L_98 hR_99 fr_100 kp_101 u_88 u_89 u_90 u_91 u_92 u_93 u_94 u_95 u_96 => ⟨I_97, L_98, rfl, rfl, ?_⟩)
            have hf_102 : Fm (fun c => c = o ∨ (o + 30 ≤ c ∧ c < o + 34)) I0 I_97 := hf_64.call fr_100 (fun c hc => by first | exact hc | (dsimp only at hc ⊢; omega) | omega)
            have t_103 : (I_97 o 3).toInt = (I_61 o 3).toInt := by rw [kp_101 3 rfl]
            have g_104 : (0 : Int) ≤ (I_97 o 4).toInt ∧ (I_97 o 4).toInt ≤ 5 := hR_99.at0 ra 4 (by decide)
            have g_105 : (0 : Int) ≤ (I_97 o 6).toInt ∧ (I_97 o 6).toInt ≤ 1600 := hR_99.at0 ra 6 (by decide)
            have g_106 : (0 : Int) ≤ (I_97 o 7).toInt ∧ (I_97 o 7).toInt ≤ 1601 := hR_99.at0 ra 7 (by decide)
            have g_107 : (0 : Int) ≤ (I_97 o 8).toInt ∧ (I_97 o 8).toInt ≤ 6 := hR_99.at0 ra 8 (by decide)
            have t_108 : (I_97 o 44).toInt = (I_61 o 44).toInt := by rw [kp_101 44 rfl]
            have t_109 : (I_97 o 45).toInt = (I_61 o 45).toInt := by rw [kp_101 45 rfl]
            have t_110 : (I_97 o 47).toInt = (I_61 o 47).toInt := by rw [kp_101 47 rfl]
            have t_111 : (I_97 o 48).toInt = (I_61 o 48).toInt := by rw [kp_101 48 rfl]
            have k_112 : MTd I_97 o := k_75.fr (fr_100 _ (by first | omega | (dsimp only; omega))) (fr_100 _ (by first | omega | (dsimp only; omega))) (fr_100 _ (by first | omega | (dsimp only; omega)))
            have tk := u_96.1
            have pb := pB_r (I_97 (o + 32) (I_97 o 48).toNatClampNeg).toInt
            have po := pO_r (I_97 (o + 32) (I_97 o 48).toNatClampNeg).toInt
            have k_113 : EX 0 0 0 f0 0 I_97 o := by exact EX.nx k_80 (fr_100 _ (by first | omega | (dsimp only; omega))) (fr_100 _ (by first | omega | (dsimp only; omega))) (fr_100 _ (by first | omega | (dsimp only; omega))) (fr_100 _ (by first | omega | (dsimp only; omega))) (fr_100 _ (by first | omega | (dsimp only; omega))) (kp_101 3 rfl) (kp_101 44 rfl) (kp_101 45 rfl) (kp_101 47 rfl) (kp_101 48 rfl) (by omega) (by omega)
            exact (hp _ _ _ hR_99 hf_102 (Or.inl rfl) (by first | omega | (intro h; omega) | exact Or.inl rfl | exact Or.inr rfl) (by first | omega | (intro h; omega) | exact Or.inl rfl | exact Or.inr rfl) (by first | omega | (intro h; omega) | exact Or.inl rfl | exact Or.inr rfl) (by first | omega | (intro h; omega) | exact Or.inl rfl | exact Or.inr rfl) (by first | omega | (intro h; omega) | exact Or.inl rfl | exact Or.inr rfl) (by first | (intro h; exfalso; omega) | exact fun _ => (False.elim (by omega)) | exact fun _ => k_113) k_112 u_95 u_96)
        · have d_114 := iNe c_29
          refine y_Model_wrong hok hw ra hz14 hz15 hR (fun I_118 L_119 hR_120 fr_121 kp_122 u_116 u_117 => ⟨I_118, L_119, rfl, rfl, ?_⟩)
          have hf_123 : Fm (fun c => c = o ∨ (o + 30 ≤ c ∧ c < o + 34)) I0 I_118 := hf.call fr_121 (fun c hc => by first | exact hc | (dsimp only at hc ⊢; omega) | omega)
          have t_124 : (I_118 o 3).toInt = (I o 3).toInt := by rw [kp_122 3 rfl]
          have g_125 : (0 : Int) ≤ (I_118 o 4).toInt ∧ (I_118 o 4).toInt ≤ 5 := hR_120.at0 ra 4 (by decide)
          have t_126 : (I_118 o 6).toInt = (I o 6).toInt := by rw [kp_122 6 rfl]
          have t_127 : (I_118 o 7).toInt = (I o 7).toInt := by rw [kp_122 7 rfl]
          have t_128 : (I_118 o 8).toInt = (I o 8).toInt := by rw [kp_122 8 rfl]
          have t_129 : (I_118 o 9).toInt = (I o 9).toInt := by rw [kp_122 9 rfl]
          have t_130 : (I_118 o 44).toInt = (I o 44).toInt := by rw [kp_122 44 rfl]
          have t_131 : (I_118 o 45).toInt = (I o 45).toInt := by rw [kp_122 45 rfl]
          have t_132 : (I_118 o 47).toInt = (I o 47).toInt := by rw [kp_122 47 rfl]
          have t_133 : (I_118 o 48).toInt = (I o 48).toInt := by rw [kp_122 48 rfl]
          have k_134 : EX 0 0 0 f0 0 I_118 o := hi11.fr (fr_121 _ (by first | omega | (dsimp only; omega))) (fr_121 _ (by first | omega | (dsimp only; omega))) (fr_121 _ (by first | omega | (dsimp only; omega))) (fr_121 _ (by first | omega | (dsimp only; omega))) (fr_121 _ (by first | omega | (dsimp only; omega))) (kp_122 3 rfl) (kp_122 6 rfl) (kp_122 44 rfl) (kp_122 45 rfl) (kp_122 47 rfl) (kp_122 48 rfl)
          have k_135 : MTd I_118 o := hi12.fr (fr_121 _ (by first | omega | (dsimp only; omega))) (fr_121 _ (by first | omega | (dsimp only; omega))) (fr_121 _ (by first | omega | (dsimp only; omega)))
          have k_136 : MPo I_118 o := hi13.fr (kp_122 8 rfl) (kp_122 9 rfl)
          have k_137 : MTk I_118 o := hi14.fr (kp_122 6 rfl) (kp_122 7 rfl) (kp_122 8 rfl)
          exact (hp _ _ _ hR_120 hf_123 (Or.inr rfl) (by first | omega | (intro h; omega) | exact Or.inl rfl | exact Or.inr rfl) (by first | omega | (intro h; omega) | exact Or.inl rfl | exact Or.inr rfl) (by first | omega | (intro h; omega) | exact Or.inl rfl | exact Or.inr rfl) (by first | omega | (intro h; omega) | exact Or.inl rfl | exact Or.inr rfl) (by first | omega | (intro h; omega) | exact Or.inl rfl | exact Or.inr rfl) (by first | (intro h; exfalso; omega) | exact fun _ => (False.elim (by omega)) | exact fun _ => k_134) k_135 k_136 k_137)
      · have d_138 := iNle c_27
        refine ⟨fun c_139 => ?_, fun c_139 => ?_⟩
        · have d_140 := iNe c_139
          refine ⟨fun c_141 => ?_, fun c_141 => ?_⟩
          · have d_142 := iEq c_141
            exfalso; omega
          · have d_143 := iNe c_141
            refine y_Model_wrong hok hw ra hz14 hz15 hR (fun I_147 L_148 hR_149 fr_150 kp_151 u_145 u_146 => ⟨I_147, L_148, rfl, rfl, ?_⟩)
            have hf_152 : Fm (fun c => c = o ∨ (o + 30 ≤ c ∧ c < o + 34)) I0 I_147 := hf.call fr_150 (fun c hc => by first | exact hc | (dsimp only at hc ⊢; omega) | omega)
            have t_153 : (I_147 o 3).toInt = (I o 3).toInt := by rw [kp_151 3 rfl]
            have g_154 : (0 : Int) ≤ (I_147 o 4).toInt ∧ (I_147 o 4).toInt ≤ 5 := hR_149.at0 ra 4 (by decide)
            have t_155 : (I_147 o 6).toInt = (I o 6).toInt := by rw [kp_151 6 rfl]
            have t_156 : (I_147 o 7).toInt = (I o 7).toInt := by rw [kp_151 7 rfl]
            have t_157 : (I_147 o 8).toInt = (I o 8).toInt := by rw [kp_151 8 rfl]
            have t_158 : (I_147 o 9).toInt = (I o 9).toInt := by rw [kp_151 9 rfl]
            have t_159 : (I_147 o 44).toInt = (I o 44).toInt := by rw [kp_151 44 rfl]
            have t_160 : (I_147 o 45).toInt = (I o 45).toInt := by rw [kp_151 45 rfl]
            have t_161 : (I_147 o 47).toInt = (I o 47).toInt := by rw [kp_151 47 rfl]
            have t_162 : (I_147 o 48).toInt = (I o 48).toInt := by rw [kp_151 48 rfl]
            have k_163 : EX 0 0 0 f0 0 I_147 o := hi11.fr (fr_150 _ (by first | omega | (dsimp only; omega))) (fr_150 _ (by first | omega | (dsimp only; omega))) (fr_150 _ (by first | omega | (dsimp only; omega))) (fr_150 _ (by first | omega | (dsimp only; omega))) (fr_150 _ (by first | omega | (dsimp only; omega))) (kp_151 3 rfl) (kp_151 6 rfl) (kp_151 44 rfl) (kp_151 45 rfl) (kp_151 47 rfl) (kp_151 48 rfl)
            have k_164 : MTd I_147 o := hi12.fr (fr_150 _ (by first | omega | (dsimp only; omega))) (fr_150 _ (by first | omega | (dsimp only; omega))) (fr_150 _ (by first | omega | (dsimp only; omega)))
            have k_165 : MPo I_147 o := hi13.fr (kp_151 8 rfl) (kp_151 9 rfl)
            have k_166 : MTk I_147 o := hi14.fr (kp_151 6 rfl) (kp_151 7 rfl) (kp_151 8 rfl)
            exact (hp _ _ _ hR_149 hf_152 (Or.inr rfl) (by first | omega | (intro h; omega) | exact Or.inl rfl | exact Or.inr rfl) (by first | omega | (intro h; omega) | exact Or.inl rfl | exact Or.inr rfl) (by first | omega | (intro h; omega) | exact Or.inl rfl | exact Or.inr rfl) (by first | omega | (intro h; omega) | exact Or.inl rfl | exact Or.inr rfl) (by first | omega | (intro h; omega) | exact Or.inl rfl | exact Or.inr rfl) (by first | (intro h; exfalso; omega) | exact fun _ => (False.elim (by omega)) | exact fun _ => k_163) k_164 k_165 k_166)
        · have d_167 := iEq c_139
          have l_168 : (2 : Int32).toInt = 2 := rfl
          refine ⟨fun c_169 => ?_, fun c_169 => ?_⟩
          · have d_170 := iNe c_169
            refine ⟨fun c_171 => ?_, fun c_171 => ?_⟩
            · have d_172 := iNe c_171
              have g_173 : (0 : Int) ≤ (I o 6).toInt ∧ (I o 6).toInt ≤ 1600 := hR.at0 ra 6 (by decide)
              refine y_Model_sign hok hw ra (by first | omega | (intro h; omega) | exact Or.inl rfl | exact Or.inr rfl) hR (fun r_174 u_175 u_176 => ⟨r_174, I, L, rfl, rfl, ?_⟩)
              have pt := pN_r (I (o + 32) ((I o 48) - 1).toNatClampNeg).toInt
              have pv := pN_r x1.toInt
              have pw := pB_r x1.toInt
              have px := pO_r x1.toInt
              have tn := hi9 (by omega)
              have tk := hi14.2 (by omega)
              refine y_Model_pile hok hw ra hz58 (by first | omega | (intro h; omega) | exact Or.inl rfl | exact Or.inr rfl) (by first | omega | (intro h; omega) | exact Or.inl rfl | exact Or.inr rfl) hR (fun I_181 L_182 hR_183 fr_184 kp_185 u_178 u_179 u_180 => ⟨I_181, L_182, rfl, rfl, ?_⟩)
              have hf_186 : Fm (fun c => c = o ∨ (o + 30 ≤ c ∧ c < o + 34)) I0 I_181 := hf.call fr_184 (fun c hc => by first | exact hc | (dsimp only at hc ⊢; omega) | omega)
              have t_187 : (I_181 o 3).toInt = (I o 3).toInt := by rw [kp_185 3 rfl]
              have t_188 : (I_181 o 4).toInt = (I o 4).toInt := by rw [kp_185 4 rfl]
              have t_189 : (I_181 o 6).toInt = (I o 6).toInt := by rw [kp_185 6 rfl]
              have t_190 : (I_181 o 7).toInt = (I o 7).toInt := by rw [kp_185 7 rfl]
              have t_191 : (I_181 o 8).toInt = (I o 8).toInt := by rw [kp_185 8 rfl]
              have t_192 : (I_181 o 9).toInt = (I o 9).toInt := by rw [kp_185 9 rfl]
              have t_193 : (I_181 o 44).toInt = (I o 44).toInt := by rw [kp_185 44 rfl]
              have t_194 : (I_181 o 45).toInt = (I o 45).toInt := by rw [kp_185 45 rfl]
              have t_195 : (I_181 o 47).toInt = (I o 47).toInt := by rw [kp_185 47 rfl]
              have g_196 : (0 : Int) ≤ (I_181 o 48).toInt ∧ (I_181 o 48).toInt ≤ 80 := hR_183.at0 ra 48 (by decide)
              have k_197 : MTd I_181 o := hi12.fr (fr_184 _ (by first | omega | (dsimp only; omega))) (fr_184 _ (by first | omega | (dsimp only; omega))) (fr_184 _ (by first | omega | (dsimp only; omega)))
              have k_198 : MPo I_181 o := hi13.fr (kp_185 8 rfl) (kp_185 9 rfl)
              have k_199 : MTk I_181 o := hi14.fr (kp_185 6 rfl) (kp_185 7 rfl) (kp_185 8 rfl)
              have k_200 : EX 0 0 1 f0 1 I_181 o := by exact EX.push hi11 (by omega) (by omega) (by omega) (by omega) ⟨by omega, by omega⟩ (SgOK.bn (by omega) (by first | (unfold Bn isT; decide) | (rw [u_176, hf (o + 2) (by first | omega | (dsimp only; omega)), show I o 3 = I0 o 3 from hZ _ 3 rfl hR, show I o 6 = I0 o 6 from Int32.toInt_inj.mp (by omega)]; exact hi10 (by omega)))) (Or.inr (by omega)) (fr_184 _ (by first | omega | (dsimp only; omega))) (fr_184 _ (by first | omega | (dsimp only; omega))) (fr_184 _ (by first | omega | (dsimp only; omega))) u_178 u_179 (kp_185 3 rfl) (kp_185 6 rfl) (kp_185 44 rfl) (kp_185 45 rfl) (kp_185 47 rfl) u_180
              refine y_Model_next hok hw ra hz16 hz17 hz18 hz19 (by first | omega | (intro h; omega) | exact Or.inl rfl | exact Or.inr rfl) hR_183 (fun I_210 L_211 hR_212 fr_213 kp_214 u_202 u_203 u_204 u_205 u_206 u_207 u_208 u_209 => ⟨I_210, L_211, rfl, rfl, ?_⟩)
              have hf_215 : Fm (fun c => c = o ∨ (o + 30 ≤ c ∧ c < o + 34)) I0 I_210 := hf_186.call fr_213 (fun c hc => by first | exact hc | (dsimp only at hc ⊢; omega) | omega)
              have t_216 : (I_210 o 3).toInt = (I_181 o 3).toInt := by rw [kp_214 3 rfl]
              have t_217 : (I_210 o 4).toInt = (I_181 o 4).toInt := by rw [kp_214 4 rfl]
              have g_218 : (0 : Int) ≤ (I_210 o 6).toInt ∧ (I_210 o 6).toInt ≤ 1600 := hR_212.at0 ra 6 (by decide)
              have g_219 : (0 : Int) ≤ (I_210 o 7).toInt ∧ (I_210 o 7).toInt ≤ 1601 := hR_212.at0 ra 7 (by decide)
              have g_220 : (0 : Int) ≤ (I_210 o 8).toInt ∧ (I_210 o 8).toInt ≤ 6 := hR_212.at0 ra 8 (by decide)
              have t_221 : (I_210 o 44).toInt = (I_181 o 44).toInt := by rw [kp_214 44 rfl]
              have t_222 : (I_210 o 45).toInt = (I_181 o 45).toInt := by rw [kp_214 45 rfl]
              have t_223 : (I_210 o 47).toInt = (I_181 o 47).toInt := by rw [kp_214 47 rfl]
              have t_224 : (I_210 o 48).toInt = (I_181 o 48).toInt := by rw [kp_214 48 rfl]
              have k_225 : MTd I_210 o := k_197.fr (fr_213 _ (by first | omega | (dsimp only; omega))) (fr_213 _ (by first | omega | (dsimp only; omega))) (fr_213 _ (by first | omega | (dsimp only; omega)))
              have ms := u_205 (by omega)
              have k_226 : EX 0 0 0 f0 1 I_210 o := by exact EX.nx k_200 (fr_213 _ (by first | omega | (dsimp only; omega))) (fr_213 _ (by first | omega | (dsimp only; omega))) (fr_213 _ (by first | omega | (dsimp only; omega))) (fr_213 _ (by first | omega | (dsimp only; omega))) (fr_213 _ (by first | omega | (dsimp only; omega))) (kp_214 3 rfl) (kp_214 44 rfl) (kp_214 45 rfl) (kp_214 47 rfl) (kp_214 48 rfl) (by omega) (by omega)
              exact (hp _ _ _ hR_212 hf_215 (Or.inr rfl) (by first | omega | (intro h; omega) | exact Or.inl rfl | exact Or.inr rfl) (by first | omega | (intro h; omega) | exact Or.inl rfl | exact Or.inr rfl) (by first | omega | (intro h; omega) | exact Or.inl rfl | exact Or.inr rfl) (by first | omega | (intro h; omega) | exact Or.inl rfl | exact Or.inr rfl) (by first | omega | (intro h; omega) | exact Or.inl rfl | exact Or.inr rfl) (by first | (intro h; exfalso; omega) | exact fun _ => k_226 | exact fun _ => (False.elim (by omega))) k_225 u_208 u_209)
            · have d_227 := iEq c_171
              have pt := pN_r (I (o + 32) ((I o 48) - 1).toNatClampNeg).toInt
              have pv := pN_r x1.toInt
              have pw := pB_r x1.toInt
              have px := pO_r x1.toInt
              have tn := hi9 (by omega)
              have tk := hi14.2 (by omega)
              have l_228 : (124 : Int32).toInt = 124 := rfl
              refine y_Model_pile hok hw ra hz58 (by first | omega | (intro h; omega) | exact Or.inl rfl | exact Or.inr rfl) (by first | omega | (intro h; omega) | exact Or.inl rfl | exact Or.inr rfl) hR (fun I_233 L_234 hR_235 fr_236 kp_237 u_230 u_231 u_232 => ⟨I_233, L_234, rfl, rfl, ?_⟩)
              have hf_238 : Fm (fun c => c = o ∨ (o + 30 ≤ c ∧ c < o + 34)) I0 I_233 := hf.call fr_236 (fun c hc => by first | exact hc | (dsimp only at hc ⊢; omega) | omega)
              have t_239 : (I_233 o 3).toInt = (I o 3).toInt := by rw [kp_237 3 rfl]
              have t_240 : (I_233 o 4).toInt = (I o 4).toInt := by rw [kp_237 4 rfl]
              have t_241 : (I_233 o 6).toInt = (I o 6).toInt := by rw [kp_237 6 rfl]
              have t_242 : (I_233 o 7).toInt = (I o 7).toInt := by rw [kp_237 7 rfl]
              have t_243 : (I_233 o 8).toInt = (I o 8).toInt := by rw [kp_237 8 rfl]
              have t_244 : (I_233 o 9).toInt = (I o 9).toInt := by rw [kp_237 9 rfl]
              have t_245 : (I_233 o 44).toInt = (I o 44).toInt := by rw [kp_237 44 rfl]
              have t_246 : (I_233 o 45).toInt = (I o 45).toInt := by rw [kp_237 45 rfl]
              have t_247 : (I_233 o 47).toInt = (I o 47).toInt := by rw [kp_237 47 rfl]
              have g_248 : (0 : Int) ≤ (I_233 o 48).toInt ∧ (I_233 o 48).toInt ≤ 80 := hR_235.at0 ra 48 (by decide)
              have k_249 : MTd I_233 o := hi12.fr (fr_236 _ (by first | omega | (dsimp only; omega))) (fr_236 _ (by first | omega | (dsimp only; omega))) (fr_236 _ (by first | omega | (dsimp only; omega)))
              have k_250 : MPo I_233 o := hi13.fr (kp_237 8 rfl) (kp_237 9 rfl)
              have k_251 : MTk I_233 o := hi14.fr (kp_237 6 rfl) (kp_237 7 rfl) (kp_237 8 rfl)
              have k_252 : EX 0 0 1 f0 1 I_233 o := by exact EX.push hi11 (by omega) (by omega) (by omega) (by omega) ⟨by omega, by omega⟩ (SgOK.bn (by omega) (by first | (unfold Bn isT; decide) | (rw [(False.elim (by omega)), hf (o + 2) (by first | omega | (dsimp only; omega)), show I o 3 = I0 o 3 from hZ _ 3 rfl hR, show I o 6 = I0 o 6 from Int32.toInt_inj.mp (by omega)]; exact hi10 (by omega)))) (Or.inr (by omega)) (fr_236 _ (by first | omega | (dsimp only; omega))) (fr_236 _ (by first | omega | (dsimp only; omega))) (fr_236 _ (by first | omega | (dsimp only; omega))) u_230 u_231 (kp_237 3 rfl) (kp_237 6 rfl) (kp_237 44 rfl) (kp_237 45 rfl) (kp_237 47 rfl) u_232
              refine y_Model_next hok hw ra hz16 hz17 hz18 hz19 (by first | omega | (intro h; omega) | exact Or.inl rfl | exact Or.inr rfl) hR_235 (fun I_262 L_263 hR_264 fr_265 kp_266 u_254 u_255 u_256 u_257 u_258 u_259 u_260 u_261 => ⟨I_262, L_263, rfl, rfl, ?_⟩)
              have hf_267 : Fm (fun c => c = o ∨ (o + 30 ≤ c ∧ c < o + 34)) I0 I_262 := hf_238.call fr_265 (fun c hc => by first | exact hc | (dsimp only at hc ⊢; omega) | omega)
              have t_268 : (I_262 o 3).toInt = (I_233 o 3).toInt := by rw [kp_266 3 rfl]
              have t_269 : (I_262 o 4).toInt = (I_233 o 4).toInt := by rw [kp_266 4 rfl]
              have g_270 : (0 : Int) ≤ (I_262 o 6).toInt ∧ (I_262 o 6).toInt ≤ 1600 := hR_264.at0 ra 6 (by decide)
              have g_271 : (0 : Int) ≤ (I_262 o 7).toInt ∧ (I_262 o 7).toInt ≤ 1601 := hR_264.at0 ra 7 (by decide)
              have g_272 : (0 : Int) ≤ (I_262 o 8).toInt ∧ (I_262 o 8).toInt ≤ 6 := hR_264.at0 ra 8 (by decide)
              have t_273 : (I_262 o 44).toInt = (I_233 o 44).toInt := by rw [kp_266 44 rfl]
              have t_274 : (I_262 o 45).toInt = (I_233 o 45).toInt := by rw [kp_266 45 rfl]
              have t_275 : (I_262 o 47).toInt = (I_233 o 47).toInt := by rw [kp_266 47 rfl]
              have t_276 : (I_262 o 48).toInt = (I_233 o 48).toInt := by rw [kp_266 48 rfl]
              have k_277 : MTd I_262 o := k_249.fr (fr_265 _ (by first | omega | (dsimp only; omega))) (fr_265 _ (by first | omega | (dsimp only; omega))) (fr_265 _ (by first | omega | (dsimp only; omega)))
              have ms := u_257 (by omega)
              have k_278 : EX 0 0 0 f0 1 I_262 o := by exact EX.nx k_252 (fr_265 _ (by first | omega | (dsimp only; omega))) (fr_265 _ (by first | omega | (dsimp only; omega))) (fr_265 _ (by first | omega | (dsimp only; omega))) (fr_265 _ (by first | omega | (dsimp only; omega))) (fr_265 _ (by first | omega | (dsimp only; omega))) (kp_266 3 rfl) (kp_266 44 rfl) (kp_266 45 rfl) (kp_266 47 rfl) (kp_266 48 rfl) (by omega) (by omega)
              exact (hp _ _ _ hR_264 hf_267 (Or.inr rfl) (by first | omega | (intro h; omega) | exact Or.inl rfl | exact Or.inr rfl) (by first | omega | (intro h; omega) | exact Or.inl rfl | exact Or.inr rfl) (by first | omega | (intro h; omega) | exact Or.inl rfl | exact Or.inr rfl) (by first | omega | (intro h; omega) | exact Or.inl rfl | exact Or.inr rfl) (by first | omega | (intro h; omega) | exact Or.inl rfl | exact Or.inr rfl) (by first | (intro h; exfalso; omega) | exact fun _ => k_278 | exact fun _ => (False.elim (by omega))) k_277 u_260 u_261)
          · have d_279 := iEq c_169
            have pt := pN_r (I (o + 32) ((I o 48) - 1).toNatClampNeg).toInt
            have pv := pN_r x1.toInt
            have pw := pB_r x1.toInt
            have px := pO_r x1.toInt
            have tn := hi9 (by omega)
            have tk := hi14.2 (by omega)
            have l_280 : (38 : Int32).toInt = 38 := rfl
            refine y_Model_pile hok hw ra hz58 (by first | omega | (intro h; omega) | exact Or.inl rfl | exact Or.inr rfl) (by first | omega | (intro h; omega) | exact Or.inl rfl | exact Or.inr rfl) hR (fun I_285 L_286 hR_287 fr_288 kp_289 u_282 u_283 u_284 => ⟨I_285, L_286, rfl, rfl, ?_⟩)
            have hf_290 : Fm (fun c => c = o ∨ (o + 30 ≤ c ∧ c < o + 34)) I0 I_285 := hf.call fr_288 (fun c hc => by first | exact hc | (dsimp only at hc ⊢; omega) | omega)
            have t_291 : (I_285 o 3).toInt = (I o 3).toInt := by rw [kp_289 3 rfl]
            have t_292 : (I_285 o 4).toInt = (I o 4).toInt := by rw [kp_289 4 rfl]
            have t_293 : (I_285 o 6).toInt = (I o 6).toInt := by rw [kp_289 6 rfl]
            have t_294 : (I_285 o 7).toInt = (I o 7).toInt := by rw [kp_289 7 rfl]
            have t_295 : (I_285 o 8).toInt = (I o 8).toInt := by rw [kp_289 8 rfl]
            have t_296 : (I_285 o 9).toInt = (I o 9).toInt := by rw [kp_289 9 rfl]
            have t_297 : (I_285 o 44).toInt = (I o 44).toInt := by rw [kp_289 44 rfl]
            have t_298 : (I_285 o 45).toInt = (I o 45).toInt := by rw [kp_289 45 rfl]
            have t_299 : (I_285 o 47).toInt = (I o 47).toInt := by rw [kp_289 47 rfl]
            have g_300 : (0 : Int) ≤ (I_285 o 48).toInt ∧ (I_285 o 48).toInt ≤ 80 := hR_287.at0 ra 48 (by decide)
            have k_301 : MTd I_285 o := hi12.fr (fr_288 _ (by first | omega | (dsimp only; omega))) (fr_288 _ (by first | omega | (dsimp only; omega))) (fr_288 _ (by first | omega | (dsimp only; omega)))
            have k_302 : MPo I_285 o := hi13.fr (kp_289 8 rfl) (kp_289 9 rfl)
            have k_303 : MTk I_285 o := hi14.fr (kp_289 6 rfl) (kp_289 7 rfl) (kp_289 8 rfl)
            have k_304 : EX 0 0 1 f0 1 I_285 o := by exact EX.push hi11 (by omega) (by omega) (by omega) (by omega) ⟨by omega, by omega⟩ (SgOK.bn (by omega) (by first | (unfold Bn isT; decide) | (rw [(False.elim (by omega)), hf (o + 2) (by first | omega | (dsimp only; omega)), show I o 3 = I0 o 3 from hZ _ 3 rfl hR, show I o 6 = I0 o 6 from Int32.toInt_inj.mp (by omega)]; exact hi10 (by omega)))) (Or.inr (by omega)) (fr_288 _ (by first | omega | (dsimp only; omega))) (fr_288 _ (by first | omega | (dsimp only; omega))) (fr_288 _ (by first | omega | (dsimp only; omega))) u_282 u_283 (kp_289 3 rfl) (kp_289 6 rfl) (kp_289 44 rfl) (kp_289 45 rfl) (kp_289 47 rfl) u_284
            refine y_Model_next hok hw ra hz16 hz17 hz18 hz19 (by first | omega | (intro h; omega) | exact Or.inl rfl | exact Or.inr rfl) hR_287 (fun I_314 L_315 hR_316 fr_317 kp_318 u_306 u_307 u_308 u_309 u_310 u_311 u_312 u_313 => ⟨I_314, L_315, rfl, rfl, ?_⟩)
            have hf_319 : Fm (fun c => c = o ∨ (o + 30 ≤ c ∧ c < o + 34)) I0 I_314 := hf_290.call fr_317 (fun c hc => by first | exact hc | (dsimp only at hc ⊢; omega) | omega)
            have t_320 : (I_314 o 3).toInt = (I_285 o 3).toInt := by rw [kp_318 3 rfl]
            have t_321 : (I_314 o 4).toInt = (I_285 o 4).toInt := by rw [kp_318 4 rfl]
            have g_322 : (0 : Int) ≤ (I_314 o 6).toInt ∧ (I_314 o 6).toInt ≤ 1600 := hR_316.at0 ra 6 (by decide)
            have g_323 : (0 : Int) ≤ (I_314 o 7).toInt ∧ (I_314 o 7).toInt ≤ 1601 := hR_316.at0 ra 7 (by decide)
            have g_324 : (0 : Int) ≤ (I_314 o 8).toInt ∧ (I_314 o 8).toInt ≤ 6 := hR_316.at0 ra 8 (by decide)
            have t_325 : (I_314 o 44).toInt = (I_285 o 44).toInt := by rw [kp_318 44 rfl]
            have t_326 : (I_314 o 45).toInt = (I_285 o 45).toInt := by rw [kp_318 45 rfl]
            have t_327 : (I_314 o 47).toInt = (I_285 o 47).toInt := by rw [kp_318 47 rfl]
            have t_328 : (I_314 o 48).toInt = (I_285 o 48).toInt := by rw [kp_318 48 rfl]
            have k_329 : MTd I_314 o := k_301.fr (fr_317 _ (by first | omega | (dsimp only; omega))) (fr_317 _ (by first | omega | (dsimp only; omega))) (fr_317 _ (by first | omega | (dsimp only; omega)))
            have ms := u_309 (by omega)
            have k_330 : EX 0 0 0 f0 1 I_314 o := by exact EX.nx k_304 (fr_317 _ (by first | omega | (dsimp only; omega))) (fr_317 _ (by first | omega | (dsimp only; omega))) (fr_317 _ (by first | omega | (dsimp only; omega))) (fr_317 _ (by first | omega | (dsimp only; omega))) (fr_317 _ (by first | omega | (dsimp only; omega))) (kp_318 3 rfl) (kp_318 44 rfl) (kp_318 45 rfl) (kp_318 47 rfl) (kp_318 48 rfl) (by omega) (by omega)
            exact (hp _ _ _ hR_316 hf_319 (Or.inr rfl) (by first | omega | (intro h; omega) | exact Or.inl rfl | exact Or.inr rfl) (by first | omega | (intro h; omega) | exact Or.inl rfl | exact Or.inr rfl) (by first | omega | (intro h; omega) | exact Or.inl rfl | exact Or.inr rfl) (by first | omega | (intro h; omega) | exact Or.inl rfl | exact Or.inr rfl) (by first | omega | (intro h; omega) | exact Or.inl rfl | exact Or.inr rfl) (by first | (intro h; exfalso; omega) | exact fun _ => k_330 | exact fun _ => (False.elim (by omega))) k_329 u_312 u_313)
    · have d_331 := iNlt c_24
      have g_332 : (0 : Int) ≤ (I o 48).toInt ∧ (I o 48).toInt ≤ 80 := hR.at0 ra 48 (by decide)
      have a_333 : ((I o 48) - 1).toInt = (I o 48).toInt - (1 : Int32).toInt := tSub (by omega) (by omega)
      refine ⟨tIn (by omega) (by omega), ?_⟩
      have g_334 : (0 : Int) ≤ (I (o + 32) (((I o 48) - 1) : Int32).toNatClampNeg).toInt ∧ (I (o + 32) (((I o 48) - 1) : Int32).toNatClampNeg).toInt ≤ 8 := hR.at ra 32 _ (by decide)
      refine ⟨fun c_335 => ?_, fun c_335 => ?_⟩
      · have d_336 := iLt c_335
        unfold fModel_behind_108
        have lw := hi11.low (by omega)
        have l_337 : (0 : Int32).toInt = 0 := rfl
        refine ⟨fun c_338 => ?_, fun c_338 => ?_⟩
        · have d_339 := iLe c_338
          exfalso; omega
        · have d_340 := iNle c_338
          refine ⟨fun c_341 => ?_, fun c_341 => ?_⟩
          · have d_342 := iNe c_341
            refine ⟨fun c_343 => ?_, fun c_343 => ?_⟩
            · have d_344 := iEq c_343
              exfalso; omega
            · have d_345 := iNe c_343
              refine y_Model_wrong hok hw ra hz14 hz15 hR (fun I_349 L_350 hR_351 fr_352 kp_353 u_347 u_348 => ⟨I_349, L_350, rfl, rfl, ?_⟩)
              have hf_354 : Fm (fun c => c = o ∨ (o + 30 ≤ c ∧ c < o + 34)) I0 I_349 := hf.call fr_352 (fun c hc => by first | exact hc | (dsimp only at hc ⊢; omega) | omega)
              have t_355 : (I_349 o 3).toInt = (I o 3).toInt := by rw [kp_353 3 rfl]
              have g_356 : (0 : Int) ≤ (I_349 o 4).toInt ∧ (I_349 o 4).toInt ≤ 5 := hR_351.at0 ra 4 (by decide)
              have t_357 : (I_349 o 6).toInt = (I o 6).toInt := by rw [kp_353 6 rfl]
              have t_358 : (I_349 o 7).toInt = (I o 7).toInt := by rw [kp_353 7 rfl]
              have t_359 : (I_349 o 8).toInt = (I o 8).toInt := by rw [kp_353 8 rfl]
              have t_360 : (I_349 o 9).toInt = (I o 9).toInt := by rw [kp_353 9 rfl]
              have t_361 : (I_349 o 44).toInt = (I o 44).toInt := by rw [kp_353 44 rfl]
              have t_362 : (I_349 o 45).toInt = (I o 45).toInt := by rw [kp_353 45 rfl]
              have t_363 : (I_349 o 47).toInt = (I o 47).toInt := by rw [kp_353 47 rfl]
              have t_364 : (I_349 o 48).toInt = (I o 48).toInt := by rw [kp_353 48 rfl]
              have k_365 : EX 0 0 0 f0 0 I_349 o := hi11.fr (fr_352 _ (by first | omega | (dsimp only; omega))) (fr_352 _ (by first | omega | (dsimp only; omega))) (fr_352 _ (by first | omega | (dsimp only; omega))) (fr_352 _ (by first | omega | (dsimp only; omega))) (fr_352 _ (by first | omega | (dsimp only; omega))) (kp_353 3 rfl) (kp_353 6 rfl) (kp_353 44 rfl) (kp_353 45 rfl) (kp_353 47 rfl) (kp_353 48 rfl)
              have k_366 : MTd I_349 o := hi12.fr (fr_352 _ (by first | omega | (dsimp only; omega))) (fr_352 _ (by first | omega | (dsimp only; omega))) (fr_352 _ (by first | omega | (dsimp only; omega)))
              have k_367 : MPo I_349 o := hi13.fr (kp_353 8 rfl) (kp_353 9 rfl)
              have k_368 : MTk I_349 o := hi14.fr (kp_353 6 rfl) (kp_353 7 rfl) (kp_353 8 rfl)
              exact (hp _ _ _ hR_351 hf_354 (Or.inr rfl) (by first | omega | (intro h; omega) | exact Or.inl rfl | exact Or.inr rfl) (by first | omega | (intro h; omega) | exact Or.inl rfl | exact Or.inr rfl) (by first | omega | (intro h; omega) | exact Or.inl rfl | exact Or.inr rfl) (by first | omega | (intro h; omega) | exact Or.inl rfl | exact Or.inr rfl) (by first | omega | (intro h; omega) | exact Or.inl rfl | exact Or.inr rfl) (by first | (intro h; exfalso; omega) | exact fun _ => (False.elim (by omega)) | exact fun _ => k_365) k_366 k_367 k_368)
          · have d_369 := iEq c_341
            have l_370 : (2 : Int32).toInt = 2 := rfl
            refine ⟨fun c_371 => ?_, fun c_371 => ?_⟩
            · have d_372 := iNe c_371
              refine ⟨fun c_373 => ?_, fun c_373 => ?_⟩
              · have d_374 := iNe c_373
                have g_375 : (0 : Int) ≤ (I o 6).toInt ∧ (I o 6).toInt ≤ 1600 := hR.at0 ra 6 (by decide)
                refine y_Model_sign hok hw ra (by first | omega | (intro h; omega) | exact Or.inl rfl | exact Or.inr rfl) hR (fun r_376 u_377 u_378 => ⟨r_376, I, L, rfl, rfl, ?_⟩)
                have pt := pN_r (I (o + 32) ((I o 48) - 1).toNatClampNeg).toInt
                have pv := pN_r x1.toInt
                have pw := pB_r x1.toInt
                have px := pO_r x1.toInt
                have tn := hi9 (by omega)
                have tk := hi14.2 (by omega)
                refine y_Model_pile hok hw ra hz58 (by first | omega | (intro h; omega) | exact Or.inl rfl | exact Or.inr rfl) (by first | omega | (intro h; omega) | exact Or.inl rfl | exact Or.inr rfl) hR (fun I_383 L_384 hR_385 fr_386 kp_387 u_380 u_381 u_382 => ⟨I_383, L_384, rfl, rfl, ?_⟩)
                have hf_388 : Fm (fun c => c = o ∨ (o + 30 ≤ c ∧ c < o + 34)) I0 I_383 := hf.call fr_386 (fun c hc => by first | exact hc | (dsimp only at hc ⊢; omega) | omega)
                have t_389 : (I_383 o 3).toInt = (I o 3).toInt := by rw [kp_387 3 rfl]
                have t_390 : (I_383 o 4).toInt = (I o 4).toInt := by rw [kp_387 4 rfl]
                have t_391 : (I_383 o 6).toInt = (I o 6).toInt := by rw [kp_387 6 rfl]
                have t_392 : (I_383 o 7).toInt = (I o 7).toInt := by rw [kp_387 7 rfl]
                have t_393 : (I_383 o 8).toInt = (I o 8).toInt := by rw [kp_387 8 rfl]
                have t_394 : (I_383 o 9).toInt = (I o 9).toInt := by rw [kp_387 9 rfl]
                have t_395 : (I_383 o 44).toInt = (I o 44).toInt := by rw [kp_387 44 rfl]
                have t_396 : (I_383 o 45).toInt = (I o 45).toInt := by rw [kp_387 45 rfl]
                have t_397 : (I_383 o 47).toInt = (I o 47).toInt := by rw [kp_387 47 rfl]
                have g_398 : (0 : Int) ≤ (I_383 o 48).toInt ∧ (I_383 o 48).toInt ≤ 80 := hR_385.at0 ra 48 (by decide)
                have k_399 : MTd I_383 o := hi12.fr (fr_386 _ (by first | omega | (dsimp only; omega))) (fr_386 _ (by first | omega | (dsimp only; omega))) (fr_386 _ (by first | omega | (dsimp only; omega)))
                have k_400 : MPo I_383 o := hi13.fr (kp_387 8 rfl) (kp_387 9 rfl)
                have k_401 : MTk I_383 o := hi14.fr (kp_387 6 rfl) (kp_387 7 rfl) (kp_387 8 rfl)
                have k_402 : EX 0 0 1 f0 1 I_383 o := by exact EX.push hi11 (by omega) (by omega) (by omega) (by omega) ⟨by omega, by omega⟩ (SgOK.bn (by omega) (by first | (unfold Bn isT; decide) | (rw [u_378, hf (o + 2) (by first | omega | (dsimp only; omega)), show I o 3 = I0 o 3 from hZ _ 3 rfl hR, show I o 6 = I0 o 6 from Int32.toInt_inj.mp (by omega)]; exact hi10 (by omega)))) (Or.inr (by omega)) (fr_386 _ (by first | omega | (dsimp only; omega))) (fr_386 _ (by first | omega | (dsimp only; omega))) (fr_386 _ (by first | omega | (dsimp only; omega))) u_380 u_381 (kp_387 3 rfl) (kp_387 6 rfl) (kp_387 44 rfl) (kp_387 45 rfl) (kp_387 47 rfl) u_382
                refine y_Model_next hok hw ra hz16 hz17 hz18 hz19 (by first | omega | (intro h; omega) | exact Or.inl rfl | exact Or.inr rfl) hR_385 (fun I_412 L_413 hR_414 fr_415 kp_416 u_404 u_405 u_406 u_407 u_408 u_409 u_410 u_411 => ⟨I_412, L_413, rfl, rfl, ?_⟩)
                have hf_417 : Fm (fun c => c = o ∨ (o + 30 ≤ c ∧ c < o + 34)) I0 I_412 := hf_388.call fr_415 (fun c hc => by first | exact hc | (dsimp only at hc ⊢; omega) | omega)
                have t_418 : (I_412 o 3).toInt = (I_383 o 3).toInt := by rw [kp_416 3 rfl]
                have t_419 : (I_412 o 4).toInt = (I_383 o 4).toInt := by rw [kp_416 4 rfl]
                have g_420 : (0 : Int) ≤ (I_412 o 6).toInt ∧ (I_412 o 6).toInt ≤ 1600 := hR_414.at0 ra 6 (by decide)
                have g_421 : (0 : Int) ≤ (I_412 o 7).toInt ∧ (I_412 o 7).toInt ≤ 1601 := hR_414.at0 ra 7 (by decide)
                have g_422 : (0 : Int) ≤ (I_412 o 8).toInt ∧ (I_412 o 8).toInt ≤ 6 := hR_414.at0 ra 8 (by decide)
                have t_423 : (I_412 o 44).toInt = (I_383 o 44).toInt := by rw [kp_416 44 rfl]
                have t_424 : (I_412 o 45).toInt = (I_383 o 45).toInt := by rw [kp_416 45 rfl]
                have t_425 : (I_412 o 47).toInt = (I_383 o 47).toInt := by rw [kp_416 47 rfl]
                have t_426 : (I_412 o 48).toInt = (I_383 o 48).toInt := by rw [kp_416 48 rfl]
                have k_427 : MTd I_412 o := k_399.fr (fr_415 _ (by first | omega | (dsimp only; omega))) (fr_415 _ (by first | omega | (dsimp only; omega))) (fr_415 _ (by first | omega | (dsimp only; omega)))
                have ms := u_407 (by omega)
                have k_428 : EX 0 0 0 f0 1 I_412 o := by exact EX.nx k_402 (fr_415 _ (by first | omega | (dsimp only; omega))) (fr_415 _ (by first | omega | (dsimp only; omega))) (fr_415 _ (by first | omega | (dsimp only; omega))) (fr_415 _ (by first | omega | (dsimp only; omega))) (fr_415 _ (by first | omega | (dsimp only; omega))) (kp_416 3 rfl) (kp_416 44 rfl) (kp_416 45 rfl) (kp_416 47 rfl) (kp_416 48 rfl) (by omega) (by omega)
                exact (hp _ _ _ hR_414 hf_417 (Or.inr rfl) (by first | omega | (intro h; omega) | exact Or.inl rfl | exact Or.inr rfl) (by first | omega | (intro h; omega) | exact Or.inl rfl | exact Or.inr rfl) (by first | omega | (intro h; omega) | exact Or.inl rfl | exact Or.inr rfl) (by first | omega | (intro h; omega) | exact Or.inl rfl | exact Or.inr rfl) (by first | omega | (intro h; omega) | exact Or.inl rfl | exact Or.inr rfl) (by first | (intro h; exfalso; omega) | exact fun _ => k_428 | exact fun _ => (False.elim (by omega))) k_427 u_410 u_411)
              · have d_429 := iEq c_373
                have pt := pN_r (I (o + 32) ((I o 48) - 1).toNatClampNeg).toInt
                have pv := pN_r x1.toInt
                have pw := pB_r x1.toInt
                have px := pO_r x1.toInt
                have tn := hi9 (by omega)
                have tk := hi14.2 (by omega)
                have l_430 : (124 : Int32).toInt = 124 := rfl
                refine y_Model_pile hok hw ra hz58 (by first | omega | (intro h; omega) | exact Or.inl rfl | exact Or.inr rfl) (by first | omega | (intro h; omega) | exact Or.inl rfl | exact Or.inr rfl) hR (fun I_435 L_436 hR_437 fr_438 kp_439 u_432 u_433 u_434 => ⟨I_435, L_436, rfl, rfl, ?_⟩)
                have hf_440 : Fm (fun c => c = o ∨ (o + 30 ≤ c ∧ c < o + 34)) I0 I_435 := hf.call fr_438 (fun c hc => by first | exact hc | (dsimp only at hc ⊢; omega) | omega)
                have t_441 : (I_435 o 3).toInt = (I o 3).toInt := by rw [kp_439 3 rfl]
                have t_442 : (I_435 o 4).toInt = (I o 4).toInt := by rw [kp_439 4 rfl]
                have t_443 : (I_435 o 6).toInt = (I o 6).toInt := by rw [kp_439 6 rfl]
                have t_444 : (I_435 o 7).toInt = (I o 7).toInt := by rw [kp_439 7 rfl]
                have t_445 : (I_435 o 8).toInt = (I o 8).toInt := by rw [kp_439 8 rfl]
                have t_446 : (I_435 o 9).toInt = (I o 9).toInt := by rw [kp_439 9 rfl]
                have t_447 : (I_435 o 44).toInt = (I o 44).toInt := by rw [kp_439 44 rfl]
                have t_448 : (I_435 o 45).toInt = (I o 45).toInt := by rw [kp_439 45 rfl]
                have t_449 : (I_435 o 47).toInt = (I o 47).toInt := by rw [kp_439 47 rfl]
                have g_450 : (0 : Int) ≤ (I_435 o 48).toInt ∧ (I_435 o 48).toInt ≤ 80 := hR_437.at0 ra 48 (by decide)
                have k_451 : MTd I_435 o := hi12.fr (fr_438 _ (by first | omega | (dsimp only; omega))) (fr_438 _ (by first | omega | (dsimp only; omega))) (fr_438 _ (by first | omega | (dsimp only; omega)))
                have k_452 : MPo I_435 o := hi13.fr (kp_439 8 rfl) (kp_439 9 rfl)
                have k_453 : MTk I_435 o := hi14.fr (kp_439 6 rfl) (kp_439 7 rfl) (kp_439 8 rfl)
                have k_454 : EX 0 0 1 f0 1 I_435 o := by exact EX.push hi11 (by omega) (by omega) (by omega) (by omega) ⟨by omega, by omega⟩ (SgOK.bn (by omega) (by first | (unfold Bn isT; decide) | (rw [(False.elim (by omega)), hf (o + 2) (by first | omega | (dsimp only; omega)), show I o 3 = I0 o 3 from hZ _ 3 rfl hR, show I o 6 = I0 o 6 from Int32.toInt_inj.mp (by omega)]; exact hi10 (by omega)))) (Or.inr (by omega)) (fr_438 _ (by first | omega | (dsimp only; omega))) (fr_438 _ (by first | omega | (dsimp only; omega))) (fr_438 _ (by first | omega | (dsimp only; omega))) u_432 u_433 (kp_439 3 rfl) (kp_439 6 rfl) (kp_439 44 rfl) (kp_439 45 rfl) (kp_439 47 rfl) u_434
                refine y_Model_next hok hw ra hz16 hz17 hz18 hz19 (by first | omega | (intro h; omega) | exact Or.inl rfl | exact Or.inr rfl) hR_437 (fun I_464 L_465 hR_466 fr_467 kp_468 u_456 u_457 u_458 u_459 u_460 u_461 u_462 u_463 => ⟨I_464, L_465, rfl, rfl, ?_⟩)
                have hf_469 : Fm (fun c => c = o ∨ (o + 30 ≤ c ∧ c < o + 34)) I0 I_464 := hf_440.call fr_467 (fun c hc => by first | exact hc | (dsimp only at hc ⊢; omega) | omega)
                have t_470 : (I_464 o 3).toInt = (I_435 o 3).toInt := by rw [kp_468 3 rfl]
                have t_471 : (I_464 o 4).toInt = (I_435 o 4).toInt := by rw [kp_468 4 rfl]
                have g_472 : (0 : Int) ≤ (I_464 o 6).toInt ∧ (I_464 o 6).toInt ≤ 1600 := hR_466.at0 ra 6 (by decide)
                have g_473 : (0 : Int) ≤ (I_464 o 7).toInt ∧ (I_464 o 7).toInt ≤ 1601 := hR_466.at0 ra 7 (by decide)
                have g_474 : (0 : Int) ≤ (I_464 o 8).toInt ∧ (I_464 o 8).toInt ≤ 6 := hR_466.at0 ra 8 (by decide)
                have t_475 : (I_464 o 44).toInt = (I_435 o 44).toInt := by rw [kp_468 44 rfl]
                have t_476 : (I_464 o 45).toInt = (I_435 o 45).toInt := by rw [kp_468 45 rfl]
                have t_477 : (I_464 o 47).toInt = (I_435 o 47).toInt := by rw [kp_468 47 rfl]
                have t_478 : (I_464 o 48).toInt = (I_435 o 48).toInt := by rw [kp_468 48 rfl]
                have k_479 : MTd I_464 o := k_451.fr (fr_467 _ (by first | omega | (dsimp only; omega))) (fr_467 _ (by first | omega | (dsimp only; omega))) (fr_467 _ (by first | omega | (dsimp only; omega)))
                have ms := u_459 (by omega)
                have k_480 : EX 0 0 0 f0 1 I_464 o := by exact EX.nx k_454 (fr_467 _ (by first | omega | (dsimp only; omega))) (fr_467 _ (by first | omega | (dsimp only; omega))) (fr_467 _ (by first | omega | (dsimp only; omega))) (fr_467 _ (by first | omega | (dsimp only; omega))) (fr_467 _ (by first | omega | (dsimp only; omega))) (kp_468 3 rfl) (kp_468 44 rfl) (kp_468 45 rfl) (kp_468 47 rfl) (kp_468 48 rfl) (by omega) (by omega)
                exact (hp _ _ _ hR_466 hf_469 (Or.inr rfl) (by first | omega | (intro h; omega) | exact Or.inl rfl | exact Or.inr rfl) (by first | omega | (intro h; omega) | exact Or.inl rfl | exact Or.inr rfl) (by first | omega | (intro h; omega) | exact Or.inl rfl | exact Or.inr rfl) (by first | omega | (intro h; omega) | exact Or.inl rfl | exact Or.inr rfl) (by first | omega | (intro h; omega) | exact Or.inl rfl | exact Or.inr rfl) (by first | (intro h; exfalso; omega) | exact fun _ => k_480 | exact fun _ => (False.elim (by omega))) k_479 u_462 u_463)
            · have d_481 := iEq c_371
              have pt := pN_r (I (o + 32) ((I o 48) - 1).toNatClampNeg).toInt
              have pv := pN_r x1.toInt
              have pw := pB_r x1.toInt
              have px := pO_r x1.toInt
              have tn := hi9 (by omega)
              have tk := hi14.2 (by omega)
              have l_482 : (38 : Int32).toInt = 38 := rfl
              refine y_Model_pile hok hw ra hz58 (by first | omega | (intro h; omega) | exact Or.inl rfl | exact Or.inr rfl) (by first | omega | (intro h; omega) | exact Or.inl rfl | exact Or.inr rfl) hR (fun I_487 L_488 hR_489 fr_490 kp_491 u_484 u_485 u_486 => ⟨I_487, L_488, rfl, rfl, ?_⟩)
              have hf_492 : Fm (fun c => c = o ∨ (o + 30 ≤ c ∧ c < o + 34)) I0 I_487 := hf.call fr_490 (fun c hc => by first | exact hc | (dsimp only at hc ⊢; omega) | omega)
              have t_493 : (I_487 o 3).toInt = (I o 3).toInt := by rw [kp_491 3 rfl]
              have t_494 : (I_487 o 4).toInt = (I o 4).toInt := by rw [kp_491 4 rfl]
              have t_495 : (I_487 o 6).toInt = (I o 6).toInt := by rw [kp_491 6 rfl]
              have t_496 : (I_487 o 7).toInt = (I o 7).toInt := by rw [kp_491 7 rfl]
              have t_497 : (I_487 o 8).toInt = (I o 8).toInt := by rw [kp_491 8 rfl]
              have t_498 : (I_487 o 9).toInt = (I o 9).toInt := by rw [kp_491 9 rfl]
              have t_499 : (I_487 o 44).toInt = (I o 44).toInt := by rw [kp_491 44 rfl]
              have t_500 : (I_487 o 45).toInt = (I o 45).toInt := by rw [kp_491 45 rfl]
              have t_501 : (I_487 o 47).toInt = (I o 47).toInt := by rw [kp_491 47 rfl]
              have g_502 : (0 : Int) ≤ (I_487 o 48).toInt ∧ (I_487 o 48).toInt ≤ 80 := hR_489.at0 ra 48 (by decide)
              have k_503 : MTd I_487 o := hi12.fr (fr_490 _ (by first | omega | (dsimp only; omega))) (fr_490 _ (by first | omega | (dsimp only; omega))) (fr_490 _ (by first | omega | (dsimp only; omega)))
              have k_504 : MPo I_487 o := hi13.fr (kp_491 8 rfl) (kp_491 9 rfl)
              have k_505 : MTk I_487 o := hi14.fr (kp_491 6 rfl) (kp_491 7 rfl) (kp_491 8 rfl)
              have k_506 : EX 0 0 1 f0 1 I_487 o := by exact EX.push hi11 (by omega) (by omega) (by omega) (by omega) ⟨by omega, by omega⟩ (SgOK.bn (by omega) (by first | (unfold Bn isT; decide) | (rw [(False.elim (by omega)), hf (o + 2) (by first | omega | (dsimp only; omega)), show I o 3 = I0 o 3 from hZ _ 3 rfl hR, show I o 6 = I0 o 6 from Int32.toInt_inj.mp (by omega)]; exact hi10 (by omega)))) (Or.inr (by omega)) (fr_490 _ (by first | omega | (dsimp only; omega))) (fr_490 _ (by first | omega | (dsimp only; omega))) (fr_490 _ (by first | omega | (dsimp only; omega))) u_484 u_485 (kp_491 3 rfl) (kp_491 6 rfl) (kp_491 44 rfl) (kp_491 45 rfl) (kp_491 47 rfl) u_486
              refine y_Model_next hok hw ra hz16 hz17 hz18 hz19 (by first | omega | (intro h; omega) | exact Or.inl rfl | exact Or.inr rfl) hR_489 (fun I_516 L_517 hR_518 fr_519 kp_520 u_508 u_509 u_510 u_511 u_512 u_513 u_514 u_515 => ⟨I_516, L_517, rfl, rfl, ?_⟩)
              have hf_521 : Fm (fun c => c = o ∨ (o + 30 ≤ c ∧ c < o + 34)) I0 I_516 := hf_492.call fr_519 (fun c hc => by first | exact hc | (dsimp only at hc ⊢; omega) | omega)
              have t_522 : (I_516 o 3).toInt = (I_487 o 3).toInt := by rw [kp_520 3 rfl]
              have t_523 : (I_516 o 4).toInt = (I_487 o 4).toInt := by rw [kp_520 4 rfl]
              have g_524 : (0 : Int) ≤ (I_516 o 6).toInt ∧ (I_516 o 6).toInt ≤ 1600 := hR_518.at0 ra 6 (by decide)
              have g_525 : (0 : Int) ≤ (I_516 o 7).toInt ∧ (I_516 o 7).toInt ≤ 1601 := hR_518.at0 ra 7 (by decide)
              have g_526 : (0 : Int) ≤ (I_516 o 8).toInt ∧ (I_516 o 8).toInt ≤ 6 := hR_518.at0 ra 8 (by decide)
              have t_527 : (I_516 o 44).toInt = (I_487 o 44).toInt := by rw [kp_520 44 rfl]
              have t_528 : (I_516 o 45).toInt = (I_487 o 45).toInt := by rw [kp_520 45 rfl]
              have t_529 : (I_516 o 47).toInt = (I_487 o 47).toInt := by rw [kp_520 47 rfl]
              have t_530 : (I_516 o 48).toInt = (I_487 o 48).toInt := by rw [kp_520 48 rfl]
              have k_531 : MTd I_516 o := k_503.fr (fr_519 _ (by first | omega | (dsimp only; omega))) (fr_519 _ (by first | omega | (dsimp only; omega))) (fr_519 _ (by first | omega | (dsimp only; omega)))
              have ms := u_511 (by omega)
              have k_532 : EX 0 0 0 f0 1 I_516 o := by exact EX.nx k_506 (fr_519 _ (by first | omega | (dsimp only; omega))) (fr_519 _ (by first | omega | (dsimp only; omega))) (fr_519 _ (by first | omega | (dsimp only; omega))) (fr_519 _ (by first | omega | (dsimp only; omega))) (fr_519 _ (by first | omega | (dsimp only; omega))) (kp_520 3 rfl) (kp_520 44 rfl) (kp_520 45 rfl) (kp_520 47 rfl) (kp_520 48 rfl) (by omega) (by omega)
              exact (hp _ _ _ hR_518 hf_521 (Or.inr rfl) (by first | omega | (intro h; omega) | exact Or.inl rfl | exact Or.inr rfl) (by first | omega | (intro h; omega) | exact Or.inl rfl | exact Or.inr rfl) (by first | omega | (intro h; omega) | exact Or.inl rfl | exact Or.inr rfl) (by first | omega | (intro h; omega) | exact Or.inl rfl | exact Or.inr rfl) (by first | omega | (intro h; omega) | exact Or.inl rfl | exact Or.inr rfl) (by first | (intro h; exfalso; omega) | exact fun _ => k_532 | exact fun _ => (False.elim (by omega))) k_531 u_514 u_515)
      · have d_533 := iNlt c_335
        have l_534 : (0 : Int32).toInt = 0 := rfl
        refine ⟨fun c_535 => ?_, fun c_535 => ?_⟩
        · have d_536 := iNe c_535
          unfold fModel_behind_108
          have lw := hi11.low (by omega)
          refine ⟨fun c_537 => ?_, fun c_537 => ?_⟩
          · have d_538 := iLe c_537
            refine ⟨fun c_539 => ?_, fun c_539 => ?_⟩
            · have d_540 := iEq c_539
              exfalso; omega
            · have d_541 := iNe c_539
              refine y_Model_wrong hok hw ra hz14 hz15 hR (fun I_545 L_546 hR_547 fr_548 kp_549 u_543 u_544 => ⟨I_545, L_546, rfl, rfl, ?_⟩)
              have hf_550 : Fm (fun c => c = o ∨ (o + 30 ≤ c ∧ c < o + 34)) I0 I_545 := hf.call fr_548 (fun c hc => by first | exact hc | (dsimp only at hc ⊢; omega) | omega)
              have t_551 : (I_545 o 3).toInt = (I o 3).toInt := by rw [kp_549 3 rfl]
              have g_552 : (0 : Int) ≤ (I_545 o 4).toInt ∧ (I_545 o 4).toInt ≤ 5 := hR_547.at0 ra 4 (by decide)
              have t_553 : (I_545 o 6).toInt = (I o 6).toInt := by rw [kp_549 6 rfl]
              have t_554 : (I_545 o 7).toInt = (I o 7).toInt := by rw [kp_549 7 rfl]
              have t_555 : (I_545 o 8).toInt = (I o 8).toInt := by rw [kp_549 8 rfl]
              have t_556 : (I_545 o 9).toInt = (I o 9).toInt := by rw [kp_549 9 rfl]
              have t_557 : (I_545 o 44).toInt = (I o 44).toInt := by rw [kp_549 44 rfl]
              have t_558 : (I_545 o 45).toInt = (I o 45).toInt := by rw [kp_549 45 rfl]
              have t_559 : (I_545 o 47).toInt = (I o 47).toInt := by rw [kp_549 47 rfl]
              have t_560 : (I_545 o 48).toInt = (I o 48).toInt := by rw [kp_549 48 rfl]
              have k_561 : EX 0 0 0 f0 0 I_545 o := hi11.fr (fr_548 _ (by first | omega | (dsimp only; omega))) (fr_548 _ (by first | omega | (dsimp only; omega))) (fr_548 _ (by first | omega | (dsimp only; omega))) (fr_548 _ (by first | omega | (dsimp only; omega))) (fr_548 _ (by first | omega | (dsimp only; omega))) (kp_549 3 rfl) (kp_549 6 rfl) (kp_549 44 rfl) (kp_549 45 rfl) (kp_549 47 rfl) (kp_549 48 rfl)
              have k_562 : MTd I_545 o := hi12.fr (fr_548 _ (by first | omega | (dsimp only; omega))) (fr_548 _ (by first | omega | (dsimp only; omega))) (fr_548 _ (by first | omega | (dsimp only; omega)))
              have k_563 : MPo I_545 o := hi13.fr (kp_549 8 rfl) (kp_549 9 rfl)
              have k_564 : MTk I_545 o := hi14.fr (kp_549 6 rfl) (kp_549 7 rfl) (kp_549 8 rfl)
              exact (hp _ _ _ hR_547 hf_550 (Or.inr rfl) (by first | omega | (intro h; omega) | exact Or.inl rfl | exact Or.inr rfl) (by first | omega | (intro h; omega) | exact Or.inl rfl | exact Or.inr rfl) (by first | omega | (intro h; omega) | exact Or.inl rfl | exact Or.inr rfl) (by first | omega | (intro h; omega) | exact Or.inl rfl | exact Or.inr rfl) (by first | omega | (intro h; omega) | exact Or.inl rfl | exact Or.inr rfl) (by first | (intro h; exfalso; omega) | exact fun _ => (False.elim (by omega)) | exact fun _ => k_561) k_562 k_563 k_564)
          · have d_565 := iNle c_537
            refine ⟨fun c_566 => ?_, fun c_566 => ?_⟩
            · have d_567 := iNe c_566
              refine ⟨fun c_568 => ?_, fun c_568 => ?_⟩
              · have d_569 := iEq c_568
                exfalso; omega
              · have d_570 := iNe c_568
                refine y_Model_wrong hok hw ra hz14 hz15 hR (fun I_574 L_575 hR_576 fr_577 kp_578 u_572 u_573 => ⟨I_574, L_575, rfl, rfl, ?_⟩)
                have hf_579 : Fm (fun c => c = o ∨ (o + 30 ≤ c ∧ c < o + 34)) I0 I_574 := hf.call fr_577 (fun c hc => by first | exact hc | (dsimp only at hc ⊢; omega) | omega)
                have t_580 : (I_574 o 3).toInt = (I o 3).toInt := by rw [kp_578 3 rfl]
                have g_581 : (0 : Int) ≤ (I_574 o 4).toInt ∧ (I_574 o 4).toInt ≤ 5 := hR_576.at0 ra 4 (by decide)
                have t_582 : (I_574 o 6).toInt = (I o 6).toInt := by rw [kp_578 6 rfl]
                have t_583 : (I_574 o 7).toInt = (I o 7).toInt := by rw [kp_578 7 rfl]
                have t_584 : (I_574 o 8).toInt = (I o 8).toInt := by rw [kp_578 8 rfl]
                have t_585 : (I_574 o 9).toInt = (I o 9).toInt := by rw [kp_578 9 rfl]
                have t_586 : (I_574 o 44).toInt = (I o 44).toInt := by rw [kp_578 44 rfl]
                have t_587 : (I_574 o 45).toInt = (I o 45).toInt := by rw [kp_578 45 rfl]
                have t_588 : (I_574 o 47).toInt = (I o 47).toInt := by rw [kp_578 47 rfl]
                have t_589 : (I_574 o 48).toInt = (I o 48).toInt := by rw [kp_578 48 rfl]
                have k_590 : EX 0 0 0 f0 0 I_574 o := hi11.fr (fr_577 _ (by first | omega | (dsimp only; omega))) (fr_577 _ (by first | omega | (dsimp only; omega))) (fr_577 _ (by first | omega | (dsimp only; omega))) (fr_577 _ (by first | omega | (dsimp only; omega))) (fr_577 _ (by first | omega | (dsimp only; omega))) (kp_578 3 rfl) (kp_578 6 rfl) (kp_578 44 rfl) (kp_578 45 rfl) (kp_578 47 rfl) (kp_578 48 rfl)
                have k_591 : MTd I_574 o := hi12.fr (fr_577 _ (by first | omega | (dsimp only; omega))) (fr_577 _ (by first | omega | (dsimp only; omega))) (fr_577 _ (by first | omega | (dsimp only; omega)))
                have k_592 : MPo I_574 o := hi13.fr (kp_578 8 rfl) (kp_578 9 rfl)
                have k_593 : MTk I_574 o := hi14.fr (kp_578 6 rfl) (kp_578 7 rfl) (kp_578 8 rfl)
                exact (hp _ _ _ hR_576 hf_579 (Or.inr rfl) (by first | omega | (intro h; omega) | exact Or.inl rfl | exact Or.inr rfl) (by first | omega | (intro h; omega) | exact Or.inl rfl | exact Or.inr rfl) (by first | omega | (intro h; omega) | exact Or.inl rfl | exact Or.inr rfl) (by first | omega | (intro h; omega) | exact Or.inl rfl | exact Or.inr rfl) (by first | omega | (intro h; omega) | exact Or.inl rfl | exact Or.inr rfl) (by first | (intro h; exfalso; omega) | exact fun _ => (False.elim (by omega)) | exact fun _ => k_590) k_591 k_592 k_593)
            · have d_594 := iEq c_566
              exfalso; omega
        · have d_595 := iEq c_535
          have lw := hi11.low (by omega)
          have g_596 : (0 : Int) ≤ (I o 48).toInt ∧ (I o 48).toInt ≤ 80 := hR.at0 ra 48 (by decide)
          have a_597 : ((I o 48) - 1).toInt = (I o 48).toInt - (1 : Int32).toInt := tSub (by omega) (by omega)
          refine fun I_598 e_599 => ?_
          have hR_600 : RI R I_598 := hR.up0 (k := 48) ra (by decide) (Or.inr hz58) e_599 (show (0 : Int) ≤ ((I o 48) - 1).toInt by omega) (show ((I o 48) - 1).toInt ≤ (80 : Int) by omega)
          have hf_601 : Fm (fun c => c = o ∨ (o + 30 ≤ c ∧ c < o + 34)) I0 I_598 := hf.set (by first | rfl | omega | (dsimp only; omega)) e_599
          have t_602 : (I_598 o 3).toInt = (I o 3).toInt := by rw [← e_599, q_u_k (by decide)]
          have t_603 : (I_598 o 4).toInt = (I o 4).toInt := by rw [← e_599, q_u_k (by decide)]
          have t_604 : (I_598 o 6).toInt = (I o 6).toInt := by rw [← e_599, q_u_k (by decide)]
          have t_605 : (I_598 o 7).toInt = (I o 7).toInt := by rw [← e_599, q_u_k (by decide)]
          have t_606 : (I_598 o 8).toInt = (I o 8).toInt := by rw [← e_599, q_u_k (by decide)]
          have t_607 : (I_598 o 9).toInt = (I o 9).toInt := by rw [← e_599, q_u_k (by decide)]
          have t_608 : (I_598 o 44).toInt = (I o 44).toInt := by rw [← e_599, q_u_k (by decide)]
          have t_609 : (I_598 o 45).toInt = (I o 45).toInt := by rw [← e_599, q_u_k (by decide)]
          have t_610 : (I_598 o 47).toInt = (I o 47).toInt := by rw [← e_599, q_u_k (by decide)]
          have t_611 : (I_598 o 48).toInt = ((I o 48) - 1).toInt := by rw [← e_599, q_u_at]
          have k_613 : MTd I_598 o := hi12.fr (by rw [← e_599]; exact q_u_ne (by omega)) (by rw [← e_599]; exact q_u_ne (by omega)) (by rw [← e_599]; exact q_u_ne (by omega))
          have k_614 : MPo I_598 o := hi13.fr (by rw [← e_599, q_u_k (by decide)]) (by rw [← e_599, q_u_k (by decide)])
          have k_615 : MTk I_598 o := hi14.fr (by rw [← e_599, q_u_k (by decide)]) (by rw [← e_599, q_u_k (by decide)]) (by rw [← e_599, q_u_k (by decide)])
          have wq : I_598 (o + 32) (I_598 o 48).toNatClampNeg = I (o + 32) ((I o 48) - 1).toNatClampNeg := by rw [← e_599, q_u_ne (by omega), q_u_at]
          have wi := iEq wq
          have k_616 : EX 1 0 0 f0 0 I_598 o := by exact EX.put48 hi11 e_599 (by omega)
          have of := (k_616.off (by omega)).2
          have g_617 : (0 : Int) ≤ (I_598 o 48).toInt ∧ (I_598 o 48).toInt ≤ 80 := hR_600.at0 ra 48 (by decide)
          refine ⟨tIn (by omega) (by omega), ?_⟩
          have g_618 : (0 : Int) ≤ (I_598 (o + 32) ((I_598 o 48) : Int32).toNatClampNeg).toInt ∧ (I_598 (o + 32) ((I_598 o 48) : Int32).toNatClampNeg).toInt ≤ 8 := hR_600.at ra 32 _ (by decide)
          have l_619 : (3 : Int32).toInt = 3 := rfl
          refine ⟨fun c_620 => ?_, fun c_620 => ?_⟩
          · have d_621 := iNe c_620
            unfold fModel_behind_91
            have cd := k_616.cod
            have of := (k_616.off (by omega)).2
            have pb := pB_r (I_598 (o + 32) (I_598 o 48).toNatClampNeg).toInt
            have po := pO_r (I_598 (o + 32) (I_598 o 48).toNatClampNeg).toInt
            have g_622 : (0 : Int) ≤ (I_598 o 48).toInt ∧ (I_598 o 48).toInt ≤ 80 := hR_600.at0 ra 48 (by decide)
            refine ⟨tIn (by omega) (by omega), ?_⟩
            refine y_Model_step hok hw ra hz55 (by first | omega | (intro h; omega) | exact Or.inl rfl | exact Or.inr rfl) (by first | omega | (intro h; omega) | exact Or.inl rfl | exact Or.inr rfl) hR_600 (fun I_626 L_627 hR_628 fr_629 kp_630 u_624 u_625 => ⟨I_626, L_627, rfl, rfl, ?_⟩)
            have hf_631 : Fm (fun c => c = o ∨ (o + 30 ≤ c ∧ c < o + 34)) I0 I_626 := hf_601.call fr_629 (fun c hc => by first | exact hc | (dsimp only at hc ⊢; omega) | omega)
            have t_632 : (I_626 o 3).toInt = (I_598 o 3).toInt := by rw [kp_630 3 rfl]
            have t_633 : (I_626 o 4).toInt = (I_598 o 4).toInt := by rw [kp_630 4 rfl]
            have t_634 : (I_626 o 6).toInt = (I_598 o 6).toInt := by rw [kp_630 6 rfl]
            have t_635 : (I_626 o 7).toInt = (I_598 o 7).toInt := by rw [kp_630 7 rfl]
            have t_636 : (I_626 o 8).toInt = (I_598 o 8).toInt := by rw [kp_630 8 rfl]
            have t_637 : (I_626 o 9).toInt = (I_598 o 9).toInt := by rw [kp_630 9 rfl]
            have t_638 : (I_626 o 44).toInt = (I_598 o 44).toInt := by rw [kp_630 44 rfl]
            have g_639 : (0 : Int) ≤ (I_626 o 45).toInt ∧ (I_626 o 45).toInt ≤ 700 := hR_628.at0 ra 45 (by decide)
            have t_640 : (I_626 o 47).toInt = (I_598 o 47).toInt := by rw [kp_630 47 rfl]
            have t_641 : (I_626 o 48).toInt = (I_598 o 48).toInt := by rw [kp_630 48 rfl]
            have k_642 : MPo I_626 o := k_614.fr (kp_630 8 rfl) (kp_630 9 rfl)
            have k_643 : MTk I_626 o := k_615.fr (kp_630 6 rfl) (kp_630 7 rfl) (kp_630 8 rfl)
            have k_644 : EX 0 0 0 f0 0 I_626 o := by first | exact EX.step0 (d := 1) (False.elim (by omega)) (by omega) (by omega) (by omega) rfl (fr_629 _ (by first | omega | (dsimp only; omega))) (fr_629 _ (by first | omega | (dsimp only; omega))) u_624 (fr_629 _ (by first | omega | (dsimp only; omega))) (fr_629 _ (by first | omega | (dsimp only; omega))) (kp_630 3 rfl) (kp_630 6 rfl) (kp_630 44 rfl) u_625 (kp_630 47 rfl) (kp_630 48 rfl) | exact EX.step0 (d := 0) k_616 (by omega) (by omega) (by omega) rfl (fr_629 _ (by first | omega | (dsimp only; omega))) (fr_629 _ (by first | omega | (dsimp only; omega))) u_624 (fr_629 _ (by first | omega | (dsimp only; omega))) (fr_629 _ (by first | omega | (dsimp only; omega))) (kp_630 3 rfl) (kp_630 6 rfl) (kp_630 44 rfl) u_625 (kp_630 47 rfl) (kp_630 48 rfl)
            have k_645 : MTd I_626 o := by exact MTd.step k_613 (fr_629 _ (by first | omega | (dsimp only; omega))) (fr_629 _ (by first | omega | (dsimp only; omega))) u_624 (by omega)
            exact ih hR_628 hf_631 (by first | omega | (intro h; omega) | exact Or.inl rfl | exact Or.inr rfl) (by first | omega | (intro h; omega) | exact Or.inl rfl | exact Or.inr rfl) (by first | omega | (intro h; omega) | exact Or.inl rfl | exact Or.inr rfl) (by first | omega | (intro h; omega) | exact Or.inl rfl | exact Or.inr rfl) (by first | omega | (intro h; omega) | exact Or.inl rfl | exact Or.inr rfl) (by first | omega | (intro h; omega) | exact Or.inl rfl | exact Or.inr rfl) (by first | omega | (intro h; omega) | exact Or.inl rfl | exact Or.inr rfl) (by first | omega | (intro h; omega) | exact Or.inl rfl | exact Or.inr rfl) (by first | omega | (intro h; omega) | exact Or.inl rfl | exact Or.inr rfl) (by first | assumption | exact False.elim) (by first | assumption | exact False.elim) k_644 k_645 k_642 k_643 (by omega)
          · have d_646 := iEq c_620
            have pb := pB_r (I_598 (o + 32) (I_598 o 48).toNatClampNeg).toInt
            have g_647 : (0 : Int) ≤ (I_598 o 47).toInt ∧ (I_598 o 47).toInt ≤ 7 := hR_600.at0 ra 47 (by decide)
            have a_648 : ((I_598 o 47) - 1).toInt = (I_598 o 47).toInt - (1 : Int32).toInt := tSub (by omega) (by omega)
            refine fun I_649 e_650 => ?_
            have hR_651 : RI R I_649 := hR_600.up0 (k := 47) ra (by decide) (Or.inr hz57) e_650 (show (0 : Int) ≤ ((I_598 o 47) - 1).toInt by omega) (show ((I_598 o 47) - 1).toInt ≤ (7 : Int) by omega)
            have hf_652 : Fm (fun c => c = o ∨ (o + 30 ≤ c ∧ c < o + 34)) I0 I_649 := hf_601.set (by first | rfl | omega | (dsimp only; omega)) e_650
            have t_653 : (I_649 o 3).toInt = (I_598 o 3).toInt := by rw [← e_650, q_u_k (by decide)]
            have t_654 : (I_649 o 4).toInt = (I_598 o 4).toInt := by rw [← e_650, q_u_k (by decide)]
            have t_655 : (I_649 o 6).toInt = (I_598 o 6).toInt := by rw [← e_650, q_u_k (by decide)]
            have t_656 : (I_649 o 7).toInt = (I_598 o 7).toInt := by rw [← e_650, q_u_k (by decide)]
            have t_657 : (I_649 o 8).toInt = (I_598 o 8).toInt := by rw [← e_650, q_u_k (by decide)]
            have t_658 : (I_649 o 9).toInt = (I_598 o 9).toInt := by rw [← e_650, q_u_k (by decide)]
            have t_659 : (I_649 o 44).toInt = (I_598 o 44).toInt := by rw [← e_650, q_u_k (by decide)]
            have t_660 : (I_649 o 45).toInt = (I_598 o 45).toInt := by rw [← e_650, q_u_k (by decide)]
            have t_661 : (I_649 o 47).toInt = ((I_598 o 47) - 1).toInt := by rw [← e_650, q_u_at]
            have t_662 : (I_649 o 48).toInt = (I_598 o 48).toInt := by rw [← e_650, q_u_k (by decide)]
            have k_663 : MTd I_649 o := k_613.fr (by rw [← e_650]; exact q_u_ne (by omega)) (by rw [← e_650]; exact q_u_ne (by omega)) (by rw [← e_650]; exact q_u_ne (by omega))
            have k_664 : MPo I_649 o := k_614.fr (by rw [← e_650, q_u_k (by decide)]) (by rw [← e_650, q_u_k (by decide)])
            have k_665 : MTk I_649 o := k_615.fr (by rw [← e_650, q_u_k (by decide)]) (by rw [← e_650, q_u_k (by decide)]) (by rw [← e_650, q_u_k (by decide)])
            unfold fModel_behind_91
            have k_667 : EX 1 1 0 f0 0 I_649 o := by exact EX.put47 k_616 e_650 (by omega)
            have wz_k_667 : I_649 (o + 32) (I_649 o 48).toNatClampNeg = I_598 (o + 32) (I_598 o 48).toNatClampNeg := by rw [← e_650, q_u_ne (by omega), q_u_k (by decide)]
            have wy := iEq wz_k_667
            have cd := k_667.cod
            have of := (k_667.off (by omega)).2
            have pb := pB_r (I_649 (o + 32) (I_649 o 48).toNatClampNeg).toInt
            have po := pO_r (I_649 (o + 32) (I_649 o 48).toNatClampNeg).toInt
            have g_668 : (0 : Int) ≤ (I_649 o 48).toInt ∧ (I_649 o 48).toInt ≤ 80 := hR_651.at0 ra 48 (by decide)
            refine ⟨tIn (by omega) (by omega), ?_⟩
            refine y_Model_step hok hw ra hz55 (by first | omega | (intro h; omega) | exact Or.inl rfl | exact Or.inr rfl) (by first | omega | (intro h; omega) | exact Or.inl rfl | exact Or.inr rfl) hR_651 (fun I_672 L_673 hR_674 fr_675 kp_676 u_670 u_671 => ⟨I_672, L_673, rfl, rfl, ?_⟩)
            have hf_677 : Fm (fun c => c = o ∨ (o + 30 ≤ c ∧ c < o + 34)) I0 I_672 := hf_652.call fr_675 (fun c hc => by first | exact hc | (dsimp only at hc ⊢; omega) | omega)
            have t_678 : (I_672 o 3).toInt = (I_649 o 3).toInt := by rw [kp_676 3 rfl]
            have t_679 : (I_672 o 4).toInt = (I_649 o 4).toInt := by rw [kp_676 4 rfl]
            have t_680 : (I_672 o 6).toInt = (I_649 o 6).toInt := by rw [kp_676 6 rfl]
            have t_681 : (I_672 o 7).toInt = (I_649 o 7).toInt := by rw [kp_676 7 rfl]
            have t_682 : (I_672 o 8).toInt = (I_649 o 8).toInt := by rw [kp_676 8 rfl]
            have t_683 : (I_672 o 9).toInt = (I_649 o 9).toInt := by rw [kp_676 9 rfl]
            have t_684 : (I_672 o 44).toInt = (I_649 o 44).toInt := by rw [kp_676 44 rfl]
            have g_685 : (0 : Int) ≤ (I_672 o 45).toInt ∧ (I_672 o 45).toInt ≤ 700 := hR_674.at0 ra 45 (by decide)
            have t_686 : (I_672 o 47).toInt = (I_649 o 47).toInt := by rw [kp_676 47 rfl]
            have t_687 : (I_672 o 48).toInt = (I_649 o 48).toInt := by rw [kp_676 48 rfl]
            have k_688 : MPo I_672 o := k_664.fr (kp_676 8 rfl) (kp_676 9 rfl)
            have k_689 : MTk I_672 o := k_665.fr (kp_676 6 rfl) (kp_676 7 rfl) (kp_676 8 rfl)
            have k_690 : EX 0 0 0 f0 0 I_672 o := by first | exact EX.step0 (d := 1) k_667 (by omega) (by omega) (by omega) rfl (fr_675 _ (by first | omega | (dsimp only; omega))) (fr_675 _ (by first | omega | (dsimp only; omega))) u_670 (fr_675 _ (by first | omega | (dsimp only; omega))) (fr_675 _ (by first | omega | (dsimp only; omega))) (kp_676 3 rfl) (kp_676 6 rfl) (kp_676 44 rfl) u_671 (kp_676 47 rfl) (kp_676 48 rfl) | exact EX.step0 (d := 0) k_616 (by omega) (by omega) (by omega) rfl (fr_675 _ (by first | omega | (dsimp only; omega))) (fr_675 _ (by first | omega | (dsimp only; omega))) u_670 (fr_675 _ (by first | omega | (dsimp only; omega))) (fr_675 _ (by first | omega | (dsimp only; omega))) (kp_676 3 rfl) (kp_676 6 rfl) (kp_676 44 rfl) u_671 (kp_676 47 rfl) (kp_676 48 rfl)
            have k_691 : MTd I_672 o := by exact MTd.step k_663 (fr_675 _ (by first | omega | (dsimp only; omega))) (fr_675 _ (by first | omega | (dsimp only; omega))) u_670 (by omega)
            exact ih hR_674 hf_677 (by first | omega | (intro h; omega) | exact Or.inl rfl | exact Or.inr rfl) (by first | omega | (intro h; omega) | exact Or.inl rfl | exact Or.inr rfl) (by first | omega | (intro h; omega) | exact Or.inl rfl | exact Or.inr rfl) (by first | omega | (intro h; omega) | exact Or.inl rfl | exact Or.inr rfl) (by first | omega | (intro h; omega) | exact Or.inl rfl | exact Or.inr rfl) (by first | omega | (intro h; omega) | exact Or.inl rfl | exact Or.inr rfl) (by first | omega | (intro h; omega) | exact Or.inl rfl | exact Or.inr rfl) (by first | omega | (intro h; omega) | exact Or.inl rfl | exact Or.inr rfl) (by first | omega | (intro h; omega) | exact Or.inl rfl | exact Or.inr rfl) (by first | assumption | exact False.elim) (by first | assumption | exact False.elim) k_690 k_691 k_688 k_689 (by omega)
set_option maxHeartbeats 4000000 in
set_option maxRecDepth 20000 in
theorem yc_Model_behind {D : va_G} {cA : FieldType → ClassId} {b : Nat} {E : State → Prop} {R : qRg} {o n : Nat} {sh : Nat → qC} {Rf : Nat → Nat → Option Nat} {I0 : Nat → Nat → Int32} {L0 : Nat → Nat → Int64} {post : Option Value → qS → Prop} {f0 : Nat} (hok : q_ok (qGG D cA b E)) (hw : WfModel (qGG D cA b E) n sh Rf o) (ra : RAModel R o) (hz14 : R.2 14 = true) (hz15 : R.2 15 = true) (hz16 : R.2 16 = true) (hz17 : R.2 17 = true) (hz18 : R.2 18 = true) (hz19 : R.2 19 = true) (hz55 : R.2 55 = true) (hz57 : R.2 57 = true) (hz58 : R.2 58 = true) (hZ : Fz R I0 o wModel_behind) (hR0 : RI R I0) (hq0 : (I0 o 7).toInt ≤ (I0 o 3).toInt) (hq1 : (I0 o 4).toInt = 0) (hq2 : 1 ≤ (I0 o 48).toInt) (hq3 : EX 0 0 0 f0 0 I0 o) (hq4 : MTd I0 o) (hq5 : MPo I0 o) (hq6 : MTk I0 o) (hR : RI R I0) (hp : ∀ (r : Int32) (I' : Nat → Nat → Int32) (L' : Nat → Nat → Int64), RI R I' → Fm (fun c => c = o ∨ (o + 30 ≤ c ∧ c < o + 34)) I0 I' → (Bz r) → ((I' o 7).toInt ≤ (I' o 3).toInt) → ((I0 o 7).toInt ≤ (I' o 7).toInt) → ((I0 o 4).toInt ≤ (I' o 4).toInt) → (7 * (I0 o 7).toInt - (I0 o 8).toInt + (I0 o 4).toInt ≤ 7 * (I' o 7).toInt - (I' o 8).toInt + (I' o 4).toInt) → (81 * (7 * (I0 o 7).toInt - (I0 o 8).toInt + (I0 o 4).toInt) - (I0 o 48).toInt < 81 * (7 * (I' o 7).toInt - (I' o 8).toInt + (I' o 4).toInt) - (I' o 48).toInt) → (Im ((I' o 4).toInt = 0) (EX 0 0 0 f0 r.toInt I' o)) → (MTd I' o) → (MPo I' o) → (MTk I' o) → post (some (.int r)) (n, sh, Rf, I', L')) : Ev (qGG D cA b E) mModel_behind 4 (0, 0) 0 (lv_args 0 [.ref o]) [] (n, sh, Rf, I0, L0) post := by
  have hf : Fm (fun c => c = o ∨ (o + 30 ≤ c ∧ c < o + 34)) I0 I0 := Fm.rf
  have g_692 : (0 : Int) ≤ (I0 o 3).toInt ∧ (I0 o 3).toInt ≤ 1600 := hR.at0 ra 3 (by decide)
  have g_693 : (0 : Int) ≤ (I0 o 4).toInt ∧ (I0 o 4).toInt ≤ 5 := hR.at0 ra 4 (by decide)
  have g_694 : (0 : Int) ≤ (I0 o 6).toInt ∧ (I0 o 6).toInt ≤ 1600 := hR.at0 ra 6 (by decide)
  have g_695 : (0 : Int) ≤ (I0 o 7).toInt ∧ (I0 o 7).toInt ≤ 1601 := hR.at0 ra 7 (by decide)
  have g_696 : (0 : Int) ≤ (I0 o 8).toInt ∧ (I0 o 8).toInt ≤ 6 := hR.at0 ra 8 (by decide)
  have g_697 : (0 : Int) ≤ (I0 o 44).toInt ∧ (I0 o 44).toInt ≤ 4 := hR.at0 ra 44 (by decide)
  have g_698 : (0 : Int) ≤ (I0 o 45).toInt ∧ (I0 o 45).toInt ≤ 700 := hR.at0 ra 45 (by decide)
  have g_699 : (0 : Int) ≤ (I0 o 47).toInt ∧ (I0 o 47).toInt ≤ 7 := hR.at0 ra 47 (by decide)
  have g_700 : (0 : Int) ≤ (I0 o 48).toInt ∧ (I0 o 48).toInt ≤ 80 := hR.at0 ra 48 (by decide)
  refine sModel_behind_0 o n sh Rf I0 L0 post  hok hw ?_
  unfold fModel_behind_0
  have al := hq3.all (by omega)
  have lw := hq3.low (by omega)
  refine y_Model_rankHere hok hw ra hR (fun r_701 u_702 u_703 u_704 u_705 => ⟨r_701, I0, L0, rfl, rfl, ?_⟩)
  have l_706 : (4 : Int32).toInt = 4 := rfl
  refine ⟨fun c_707 => ?_, fun c_707 => ?_⟩
  · have d_708 := iNe c_707
    unfold fModel_behind_21
    unfold fModel_behind_22
    have l_709 : (0 : Int32).toInt = 0 := rfl
    exact yModel_behind_23 (I0 := I0) (L0 := L0) hok hw ra hz14 hz15 hz16 hz17 hz18 hz19 hz55 hz57 hz58 hZ hR0 hq0 hq1 hq2 hq3 hq4 hq5 hq6 hp  _ hR hf (by first | omega | (intro h; omega) | exact Or.inl rfl | exact Or.inr rfl) (by first | omega | (intro h; omega) | exact Or.inl rfl | exact Or.inr rfl) (by first | omega | (intro h; omega) | exact Or.inl rfl | exact Or.inr rfl) (by first | omega | (intro h; omega) | exact Or.inl rfl | exact Or.inr rfl) (by first | omega | (intro h; omega) | exact Or.inl rfl | exact Or.inr rfl) (by first | omega | (intro h; omega) | exact Or.inl rfl | exact Or.inr rfl) (by first | omega | (intro h; omega) | exact Or.inl rfl | exact Or.inr rfl) (by first | omega | (intro h; omega) | exact Or.inl rfl | exact Or.inr rfl) (by first | omega | (intro h; omega) | exact Or.inl rfl | exact Or.inr rfl) (by first | assumption | exact u_704) (by first | assumption | exact u_705) hq3 hq4 hq5 hq6 (Nat.lt_succ_self _)
  · have d_710 := iEq c_707
    refine y_Model_isCompared hok hw ra (by first | omega | (intro h; omega) | exact Or.inl rfl | exact Or.inr rfl) (by first | omega | (intro h; omega) | exact Or.inl rfl | exact Or.inr rfl) hR (fun r_711 u_712 => ⟨r_711, I0, L0, rfl, rfl, ?_⟩)
    have b_713 : 0 ≤ r_711.toInt ∧ r_711.toInt ≤ 1 := u_712.rg
    have l_714 : (0 : Int32).toInt = 0 := rfl
    refine ⟨fun c_715 => ?_, fun c_715 => ?_⟩
    · have d_716 := iEq c_715
      unfold fModel_behind_21
      unfold fModel_behind_22
      exact yModel_behind_23 (I0 := I0) (L0 := L0) hok hw ra hz14 hz15 hz16 hz17 hz18 hz19 hz55 hz57 hz58 hZ hR0 hq0 hq1 hq2 hq3 hq4 hq5 hq6 hp  _ hR hf (by first | omega | (intro h; omega) | exact Or.inl rfl | exact Or.inr rfl) (by first | omega | (intro h; omega) | exact Or.inl rfl | exact Or.inr rfl) (by first | omega | (intro h; omega) | exact Or.inl rfl | exact Or.inr rfl) (by first | omega | (intro h; omega) | exact Or.inl rfl | exact Or.inr rfl) (by first | omega | (intro h; omega) | exact Or.inl rfl | exact Or.inr rfl) (by first | omega | (intro h; omega) | exact Or.inl rfl | exact Or.inr rfl) (by first | omega | (intro h; omega) | exact Or.inl rfl | exact Or.inr rfl) (by first | omega | (intro h; omega) | exact Or.inl rfl | exact Or.inr rfl) (by first | omega | (intro h; omega) | exact Or.inl rfl | exact Or.inr rfl) (by first | assumption | exact u_704) (by first | assumption | exact u_705) hq3 hq4 hq5 hq6 (Nat.lt_succ_self _)
    · have d_717 := iNe c_715
      unfold fModel_behind_22
      have l_718 : (1 : Int32).toInt = 1 := rfl
      exact yModel_behind_23 (I0 := I0) (L0 := L0) hok hw ra hz14 hz15 hz16 hz17 hz18 hz19 hz55 hz57 hz58 hZ hR0 hq0 hq1 hq2 hq3 hq4 hq5 hq6 hp  _ hR hf (by first | omega | (intro h; omega) | exact Or.inl rfl | exact Or.inr rfl) (by first | omega | (intro h; omega) | exact Or.inl rfl | exact Or.inr rfl) (by first | omega | (intro h; omega) | exact Or.inl rfl | exact Or.inr rfl) (by first | omega | (intro h; omega) | exact Or.inl rfl | exact Or.inr rfl) (by first | omega | (intro h; omega) | exact Or.inl rfl | exact Or.inr rfl) (by first | omega | (intro h; omega) | exact Or.inl rfl | exact Or.inr rfl) (by first | omega | (intro h; omega) | exact Or.inl rfl | exact Or.inr rfl) (by first | omega | (intro h; omega) | exact Or.inl rfl | exact Or.inr rfl) (by first | omega | (intro h; omega) | exact Or.inl rfl | exact Or.inr rfl) (by first | assumption | exact u_704) (by first | assumption | exact u_705) hq3 hq4 hq5 hq6 (Nat.lt_succ_self _)
theorem y_Model_behind {D : va_G} {cA : FieldType → ClassId} {b : Nat} {E : State → Prop} {R : qRg} {o n : Nat} {sh : Nat → qC} {Rf : Nat → Nat → Option Nat} {I0 : Nat → Nat → Int32} {L0 : Nat → Nat → Int64} {post : Option Value → qS → Prop} {f0 : Nat} (hok : q_ok (qGG D cA b E)) (hw : WfModel (qGG D cA b E) n sh Rf o) (ra : RAModel R o) (hz14 : R.2 14 = true) (hz15 : R.2 15 = true) (hz16 : R.2 16 = true) (hz17 : R.2 17 = true) (hz18 : R.2 18 = true) (hz19 : R.2 19 = true) (hz55 : R.2 55 = true) (hz57 : R.2 57 = true) (hz58 : R.2 58 = true) (hq0 : (I0 o 7).toInt ≤ (I0 o 3).toInt) (hq1 : (I0 o 4).toInt = 0) (hq2 : 1 ≤ (I0 o 48).toInt) (hq3 : EX 0 0 0 f0 0 I0 o) (hq4 : MTd I0 o) (hq5 : MPo I0 o) (hq6 : MTk I0 o) (hR : RI R I0) (hp : ∀ (r : Int32) (I' : Nat → Nat → Int32) (L' : Nat → Nat → Int64), RI R I' → Fm (fun c => c = o ∨ (o + 30 ≤ c ∧ c < o + 34)) I0 I' → Kp wModel_behind I0 I' o → (Bz r) → ((I' o 7).toInt ≤ (I' o 3).toInt) → ((I0 o 7).toInt ≤ (I' o 7).toInt) → ((I0 o 4).toInt ≤ (I' o 4).toInt) → (7 * (I0 o 7).toInt - (I0 o 8).toInt + (I0 o 4).toInt ≤ 7 * (I' o 7).toInt - (I' o 8).toInt + (I' o 4).toInt) → (81 * (7 * (I0 o 7).toInt - (I0 o 8).toInt + (I0 o 4).toInt) - (I0 o 48).toInt < 81 * (7 * (I' o 7).toInt - (I' o 8).toInt + (I' o 4).toInt) - (I' o 48).toInt) → (Im ((I' o 4).toInt = 0) (EX 0 0 0 f0 r.toInt I' o)) → (MTd I' o) → (MPo I' o) → (MTk I' o) → post (some (.int r)) (n, sh, Rf, I', L')) : Ev (qGG D cA b E) mModel_behind 4 (0, 0) 0 (lv_args 0 [.ref o]) [] (n, sh, Rf, I0, L0) post :=
  yc_Model_behind (R := fzR R I0 o wModel_behind) hok hw (fzA ra hR _) (fzT hz14 rfl) (fzT hz15 rfl) (fzT hz16 rfl) (fzT hz17 rfl) (fzT hz18 rfl) (fzT hz19 rfl) (fzT hz55 rfl) (fzT hz57 rfl) (fzT hz58 rfl) fzZ (fzI hR) hq0 hq1 hq2 hq3 hq4 hq5 hq6 (fzI hR) (fun r I' L' h1 h2 u0 u1 u2 u3 u4 u5 u6 u7 u8 u9 => hp r I' L' (fzB hR h1) h2 (fzP h1) u0 u1 u2 u3 u4 u5 u6 u7 u8 u9)
