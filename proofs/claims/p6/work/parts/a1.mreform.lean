/-! Safety of the reference, e: by program (spec.py). -/
def wModel_e : Nat → Bool := fun j => Nat.beq j 14 || Nat.beq j 15 || Nat.beq j 16 || Nat.beq j 17 || Nat.beq j 18 || Nat.beq j 19 || Nat.beq j 55 || Nat.beq j 56 || Nat.beq j 57 || Nat.beq j 58 || false
set_option maxHeartbeats 4000000 in
set_option maxRecDepth 20000 in
theorem yModel_e_19 {D : va_G} {cA : FieldType → ClassId} {b : Nat} {E : State → Prop} {R : qRg} {o n : Nat} {sh : Nat → qC} {Rf : Nat → Nat → Option Nat} {I0 : Nat → Nat → Int32} {L0 : Nat → Nat → Int64} {post : Option Value → qS → Prop} (hok : q_ok (qGG D cA b E)) (hw : WfModel (qGG D cA b E) n sh Rf o) (ra : RAModel R o) (hz14 : R.2 14 = true) (hz15 : R.2 15 = true) (hz16 : R.2 16 = true) (hz17 : R.2 17 = true) (hz18 : R.2 18 = true) (hz19 : R.2 19 = true) (hz55 : R.2 55 = true) (hz56 : R.2 56 = true) (hz57 : R.2 57 = true) (hz58 : R.2 58 = true) (hZ : Fz R I0 o wModel_e) (hR0 : RI R I0) (hq0 : (I0 o 7).toInt ≤ (I0 o 3).toInt) (hq1 : (I0 o 4).toInt = 0) (hq2 : ReS I0 o) (hq3 : MTd I0 o) (hq4 : MPo I0 o) (hq5 : MTk I0 o) (hp : ∀ (I' : Nat → Nat → Int32) (L' : Nat → Nat → Int64), RI R I' → Fm (fun c => c = o ∨ (o + 30 ≤ c ∧ c < o + 34)) I0 I' → ((I' o 7).toInt ≤ (I' o 3).toInt) → ((I0 o 7).toInt ≤ (I' o 7).toInt) → ((I0 o 4).toInt ≤ (I' o 4).toInt) → (7 * (I0 o 7).toInt - (I0 o 8).toInt + (I0 o 4).toInt ≤ 7 * (I' o 7).toInt - (I' o 8).toInt + (I' o 4).toInt) → (Im ((I' o 4).toInt = 0) (ReS I' o ∧ De (I' (o + 30)) (2800 + (I0 o 45).toInt.toNat) ((I' o 45).toInt - ((I0 o 45).toInt.toNat : Nat)).toNat = some 1 ∧ (((I0 o 45).toInt.toNat : Nat) : Int) ≤ (I' o 45).toInt)) → (MTd I' o) → (MPo I' o) → (MTk I' o) → post none (n, sh, Rf, I', L')) : ∀ (k : Nat) {x1 : Int32} {I : Nat → Nat → Int32} {L : Nat → Nat → Int64}, RI R I → Fm (fun c => c = o ∨ (o + 30 ≤ c ∧ c < o + 34)) I0 I → ((0 : Int) ≤ x1.toInt ∧ x1.toInt ≤ 1) → ((I o 7).toInt ≤ (I o 3).toInt) → ((I0 o 7).toInt ≤ (I o 7).toInt) → (Im ((I o 4).toInt = 0) (EX 0 0 0 (I0 o 45).toInt.toNat x1.toInt I o)) → ((I0 o 4).toInt ≤ (I o 4).toInt) → (7 * (I0 o 7).toInt - (I0 o 8).toInt + (I0 o 4).toInt ≤ 7 * (I o 7).toInt - (I o 8).toInt + (I o 4).toInt) → (MTd I o) → (MPo I o) → (MTk I o) → (81 * (11300 - (7 * (I o 7).toInt - (I o 8).toInt + (I o 4).toInt)) + (I o 48).toInt).toNat < k → Ev (qGG D cA b E) mModel_e 5 (0, 0) 19 [(0, .ref o), (1, .int x1)] [] (n, sh, Rf, I, L) post := by
  intro k
  induction k with
  | zero =>
    intro x1 I L hR hf hi0 hi1 hi2 hi3 hi4 hi5 hi6 hi7 hi8 hm
    exact absurd hm (Nat.not_lt_zero _)
  | succ k ih =>
    intro x1 I L hR hf hi0 hi1 hi2 hi3 hi4 hi5 hi6 hi7 hi8 hm
    have g_1 : (0 : Int) ≤ (I o 3).toInt ∧ (I o 3).toInt ≤ 1600 := hR.at0 ra 3 (by decide)
    have z_2 : (I o 3).toInt = (I0 o 3).toInt := by rw [hZ I 3 rfl hR]
    have g_3 : (0 : Int) ≤ (I o 4).toInt ∧ (I o 4).toInt ≤ 5 := hR.at0 ra 4 (by decide)
    have g_4 : (0 : Int) ≤ (I0 o 4).toInt ∧ (I0 o 4).toInt ≤ 5 := hR0.at0 ra 4 (by decide)
    have g_5 : (0 : Int) ≤ (I o 6).toInt ∧ (I o 6).toInt ≤ 1600 := hR.at0 ra 6 (by decide)
    have g_6 : (0 : Int) ≤ (I0 o 6).toInt ∧ (I0 o 6).toInt ≤ 1600 := hR0.at0 ra 6 (by decide)
    have g_7 : (0 : Int) ≤ (I o 7).toInt ∧ (I o 7).toInt ≤ 1601 := hR.at0 ra 7 (by decide)
    have g_8 : (0 : Int) ≤ (I0 o 7).toInt ∧ (I0 o 7).toInt ≤ 1601 := hR0.at0 ra 7 (by decide)
    have g_9 : (0 : Int) ≤ (I o 8).toInt ∧ (I o 8).toInt ≤ 6 := hR.at0 ra 8 (by decide)
    have g_10 : (0 : Int) ≤ (I0 o 8).toInt ∧ (I0 o 8).toInt ≤ 6 := hR0.at0 ra 8 (by decide)
    have g_11 : (0 : Int) ≤ (I o 44).toInt ∧ (I o 44).toInt ≤ 4 := hR.at0 ra 44 (by decide)
    have z_12 : (I o 44).toInt = (I0 o 44).toInt := by rw [hZ I 44 rfl hR]
    have g_13 : (0 : Int) ≤ (I o 45).toInt ∧ (I o 45).toInt ≤ 700 := hR.at0 ra 45 (by decide)
    have g_14 : (0 : Int) ≤ (I0 o 45).toInt ∧ (I0 o 45).toInt ≤ 700 := hR0.at0 ra 45 (by decide)
    have g_15 : (0 : Int) ≤ (I o 47).toInt ∧ (I o 47).toInt ≤ 7 := hR.at0 ra 47 (by decide)
    have g_16 : (0 : Int) ≤ (I0 o 47).toInt ∧ (I0 o 47).toInt ≤ 7 := hR0.at0 ra 47 (by decide)
    have g_17 : (0 : Int) ≤ (I o 48).toInt ∧ (I o 48).toInt ≤ 80 := hR.at0 ra 48 (by decide)
    have g_18 : (0 : Int) ≤ (I0 o 48).toInt ∧ (I0 o 48).toInt ≤ 80 := hR0.at0 ra 48 (by decide)
    refine sModel_e_19 o n sh Rf I L post x1 hok hw ?_
    unfold fModel_e_19
    refine y_Model_isGood hok hw ra hR (fun r_19 u_20 u_21 u_22 => ⟨r_19, I, L, rfl, rfl, ?_⟩)
    have b_23 : 0 ≤ r_19.toInt ∧ r_19.toInt ≤ 1 := u_20.rg
    have l_24 : (0 : Int32).toInt = 0 := rfl
    refine ⟨fun c_25 => ?_, fun c_25 => ?_⟩
    · have d_26 := iEq c_25
      have i_27 := u_22 (by omega)
      exact (hp _ _ hR hf (by first | omega | (intro h; omega) | exact Or.inl rfl | exact Or.inr rfl) (by first | omega | (intro h; omega) | exact Or.inl rfl | exact Or.inr rfl) (by first | omega | (intro h; omega) | exact Or.inl rfl | exact Or.inr rfl) (by first | omega | (intro h; omega) | exact Or.inl rfl | exact Or.inr rfl) (by first | (intro h; exfalso; omega) | (intro h; have q := hi3 h; have x0 : x1.toInt = 0 := (by by_cases y : x1.toInt = 0; exact y; exfalso; have y1 : x1.toInt = 1 := (by omega); rw [y1] at q; have z := q.pos; omega); rw [x0] at q; exact q.done (by omega))) hi6 hi7 hi8)
    · have d_28 := iNe c_25
      have i_29 := u_21 (by omega)
      have g_30 : (0 : Int) ≤ (I o 48).toInt ∧ (I o 48).toInt ≤ 80 := hR.at0 ra 48 (by decide)
      refine ⟨fun c_31 => ?_, fun c_31 => ?_⟩
      · have d_32 := iLe c_31
        exact (hp _ _ hR hf (by first | omega | (intro h; omega) | exact Or.inl rfl | exact Or.inr rfl) (by first | omega | (intro h; omega) | exact Or.inl rfl | exact Or.inr rfl) (by first | omega | (intro h; omega) | exact Or.inl rfl | exact Or.inr rfl) (by first | omega | (intro h; omega) | exact Or.inl rfl | exact Or.inr rfl) (by first | (intro h; exfalso; omega) | (intro h; have q := hi3 h; have x0 : x1.toInt = 0 := (by by_cases y : x1.toInt = 0; exact y; exfalso; have y1 : x1.toInt = 1 := (by omega); rw [y1] at q; have z := q.pos; omega); rw [x0] at q; exact q.done (by omega))) hi6 hi7 hi8)
      · have d_33 := iNle c_31
        refine ⟨fun c_34 => ?_, fun c_34 => ?_⟩
        · have d_35 := iEq c_34
          have k_36 : EX 0 0 0 (I0 o 45).toInt.toNat 0 I o := by have q := hi3 (by omega); rw [show x1.toInt = 0 by omega] at q; exact q
          refine y_Model_behind hok hw ra hz14 hz15 hz16 hz17 hz18 hz19 hz55 hz57 hz58 (by first | omega | (intro h; omega) | exact Or.inl rfl | exact Or.inr rfl) (by first | omega | (intro h; omega) | exact Or.inl rfl | exact Or.inr rfl) (by first | omega | (intro h; omega) | exact Or.inl rfl | exact Or.inr rfl) k_36 hi6 hi7 hi8 hR (fun r_37 I_48 L_49 hR_50 fr_51 kp_52 u_38 u_39 u_40 u_41 u_42 u_43 u_44 u_45 u_46 u_47 => ⟨r_37, I_48, L_49, rfl, rfl, ?_⟩)
          have hf_53 : Fm (fun c => c = o ∨ (o + 30 ≤ c ∧ c < o + 34)) I0 I_48 := hf.call fr_51 (fun c hc => by first | exact hc | (dsimp only at hc ⊢; omega) | omega)
          have t_54 : (I_48 o 3).toInt = (I o 3).toInt := by rw [kp_52 3 rfl]
          have g_55 : (0 : Int) ≤ (I_48 o 4).toInt ∧ (I_48 o 4).toInt ≤ 5 := hR_50.at0 ra 4 (by decide)
          have g_56 : (0 : Int) ≤ (I_48 o 6).toInt ∧ (I_48 o 6).toInt ≤ 1600 := hR_50.at0 ra 6 (by decide)
          have g_57 : (0 : Int) ≤ (I_48 o 7).toInt ∧ (I_48 o 7).toInt ≤ 1601 := hR_50.at0 ra 7 (by decide)
          have g_58 : (0 : Int) ≤ (I_48 o 8).toInt ∧ (I_48 o 8).toInt ≤ 6 := hR_50.at0 ra 8 (by decide)
          have t_59 : (I_48 o 44).toInt = (I o 44).toInt := by rw [kp_52 44 rfl]
          have g_60 : (0 : Int) ≤ (I_48 o 45).toInt ∧ (I_48 o 45).toInt ≤ 700 := hR_50.at0 ra 45 (by decide)
          have g_61 : (0 : Int) ≤ (I_48 o 47).toInt ∧ (I_48 o 47).toInt ≤ 7 := hR_50.at0 ra 47 (by decide)
          have g_62 : (0 : Int) ≤ (I_48 o 48).toInt ∧ (I_48 o 48).toInt ≤ 80 := hR_50.at0 ra 48 (by decide)
          have b_63 : 0 ≤ r_37.toInt ∧ r_37.toInt ≤ 1 := u_38.rg
          unfold fModel_e_48
          exact ih hR_50 hf_53 (by first | omega | (intro h; omega) | exact Or.inl rfl | exact Or.inr rfl) (by first | omega | (intro h; omega) | exact Or.inl rfl | exact Or.inr rfl) (by first | omega | (intro h; omega) | exact Or.inl rfl | exact Or.inr rfl) (by first | exact False.elim | exact u_44 | exact fun _ => (False.elim (by omega))) (by first | omega | (intro h; omega) | exact Or.inl rfl | exact Or.inr rfl) (by first | omega | (intro h; omega) | exact Or.inl rfl | exact Or.inr rfl) u_45 u_46 u_47 (by omega)
        · have d_64 := iNe c_34
          have k_65 : EX 0 0 0 (I0 o 45).toInt.toNat 1 I o := by have q := hi3 (by omega); rw [show x1.toInt = 1 by omega] at q; exact q
          refine y_Model_unit hok hw ra hz14 hz15 hz16 hz17 hz18 hz19 hz55 hz56 hz57 hz58 (by first | omega | (intro h; omega) | exact Or.inl rfl | exact Or.inr rfl) (by first | omega | (intro h; omega) | exact Or.inl rfl | exact Or.inr rfl) k_65 hi6 hi7 hi8 hR (fun r_66 I_77 L_78 hR_79 fr_80 kp_81 u_67 u_68 u_69 u_70 u_71 u_72 u_73 u_74 u_75 u_76 => ⟨r_66, I_77, L_78, rfl, rfl, ?_⟩)
          have hf_82 : Fm (fun c => c = o ∨ (o + 30 ≤ c ∧ c < o + 34)) I0 I_77 := hf.call fr_80 (fun c hc => by first | exact hc | (dsimp only at hc ⊢; omega) | omega)
          have t_83 : (I_77 o 3).toInt = (I o 3).toInt := by rw [kp_81 3 rfl]
          have g_84 : (0 : Int) ≤ (I_77 o 4).toInt ∧ (I_77 o 4).toInt ≤ 5 := hR_79.at0 ra 4 (by decide)
          have g_85 : (0 : Int) ≤ (I_77 o 6).toInt ∧ (I_77 o 6).toInt ≤ 1600 := hR_79.at0 ra 6 (by decide)
          have g_86 : (0 : Int) ≤ (I_77 o 7).toInt ∧ (I_77 o 7).toInt ≤ 1601 := hR_79.at0 ra 7 (by decide)
          have g_87 : (0 : Int) ≤ (I_77 o 8).toInt ∧ (I_77 o 8).toInt ≤ 6 := hR_79.at0 ra 8 (by decide)
          have t_88 : (I_77 o 44).toInt = (I o 44).toInt := by rw [kp_81 44 rfl]
          have g_89 : (0 : Int) ≤ (I_77 o 45).toInt ∧ (I_77 o 45).toInt ≤ 700 := hR_79.at0 ra 45 (by decide)
          have g_90 : (0 : Int) ≤ (I_77 o 47).toInt ∧ (I_77 o 47).toInt ≤ 7 := hR_79.at0 ra 47 (by decide)
          have g_91 : (0 : Int) ≤ (I_77 o 48).toInt ∧ (I_77 o 48).toInt ≤ 80 := hR_79.at0 ra 48 (by decide)
          have b_92 : 0 ≤ r_66.toInt ∧ r_66.toInt ≤ 1 := u_67.rg
          unfold fModel_e_48
          exact ih hR_79 hf_82 (by first | omega | (intro h; omega) | exact Or.inl rfl | exact Or.inr rfl) (by first | omega | (intro h; omega) | exact Or.inl rfl | exact Or.inr rfl) (by first | omega | (intro h; omega) | exact Or.inl rfl | exact Or.inr rfl) (by first | exact u_73 | exact False.elim | exact fun _ => (False.elim (by omega))) (by first | omega | (intro h; omega) | exact Or.inl rfl | exact Or.inr rfl) (by first | omega | (intro h; omega) | exact Or.inl rfl | exact Or.inr rfl) u_74 u_75 u_76 (by omega)
set_option maxHeartbeats 4000000 in
set_option maxRecDepth 20000 in
theorem yc_Model_e {D : va_G} {cA : FieldType → ClassId} {b : Nat} {E : State → Prop} {R : qRg} {o n : Nat} {sh : Nat → qC} {Rf : Nat → Nat → Option Nat} {I0 : Nat → Nat → Int32} {L0 : Nat → Nat → Int64} {post : Option Value → qS → Prop} (hok : q_ok (qGG D cA b E)) (hw : WfModel (qGG D cA b E) n sh Rf o) (ra : RAModel R o) (hz14 : R.2 14 = true) (hz15 : R.2 15 = true) (hz16 : R.2 16 = true) (hz17 : R.2 17 = true) (hz18 : R.2 18 = true) (hz19 : R.2 19 = true) (hz55 : R.2 55 = true) (hz56 : R.2 56 = true) (hz57 : R.2 57 = true) (hz58 : R.2 58 = true) (hZ : Fz R I0 o wModel_e) (hR0 : RI R I0) (hq0 : (I0 o 7).toInt ≤ (I0 o 3).toInt) (hq1 : (I0 o 4).toInt = 0) (hq2 : ReS I0 o) (hq3 : MTd I0 o) (hq4 : MPo I0 o) (hq5 : MTk I0 o) (hR : RI R I0) (hp : ∀ (I' : Nat → Nat → Int32) (L' : Nat → Nat → Int64), RI R I' → Fm (fun c => c = o ∨ (o + 30 ≤ c ∧ c < o + 34)) I0 I' → ((I' o 7).toInt ≤ (I' o 3).toInt) → ((I0 o 7).toInt ≤ (I' o 7).toInt) → ((I0 o 4).toInt ≤ (I' o 4).toInt) → (7 * (I0 o 7).toInt - (I0 o 8).toInt + (I0 o 4).toInt ≤ 7 * (I' o 7).toInt - (I' o 8).toInt + (I' o 4).toInt) → (Im ((I' o 4).toInt = 0) (ReS I' o ∧ De (I' (o + 30)) (2800 + (I0 o 45).toInt.toNat) ((I' o 45).toInt - ((I0 o 45).toInt.toNat : Nat)).toNat = some 1 ∧ (((I0 o 45).toInt.toNat : Nat) : Int) ≤ (I' o 45).toInt)) → (MTd I' o) → (MPo I' o) → (MTk I' o) → post none (n, sh, Rf, I', L')) : Ev (qGG D cA b E) mModel_e 5 (0, 0) 0 (lv_args 0 [.ref o]) [] (n, sh, Rf, I0, L0) post := by
  have hf : Fm (fun c => c = o ∨ (o + 30 ≤ c ∧ c < o + 34)) I0 I0 := Fm.rf
  have g_93 : (0 : Int) ≤ (I0 o 3).toInt ∧ (I0 o 3).toInt ≤ 1600 := hR.at0 ra 3 (by decide)
  have g_94 : (0 : Int) ≤ (I0 o 4).toInt ∧ (I0 o 4).toInt ≤ 5 := hR.at0 ra 4 (by decide)
  have g_95 : (0 : Int) ≤ (I0 o 6).toInt ∧ (I0 o 6).toInt ≤ 1600 := hR.at0 ra 6 (by decide)
  have g_96 : (0 : Int) ≤ (I0 o 7).toInt ∧ (I0 o 7).toInt ≤ 1601 := hR.at0 ra 7 (by decide)
  have g_97 : (0 : Int) ≤ (I0 o 8).toInt ∧ (I0 o 8).toInt ≤ 6 := hR.at0 ra 8 (by decide)
  have g_98 : (0 : Int) ≤ (I0 o 44).toInt ∧ (I0 o 44).toInt ≤ 4 := hR.at0 ra 44 (by decide)
  have g_99 : (0 : Int) ≤ (I0 o 45).toInt ∧ (I0 o 45).toInt ≤ 700 := hR.at0 ra 45 (by decide)
  have g_100 : (0 : Int) ≤ (I0 o 47).toInt ∧ (I0 o 47).toInt ≤ 7 := hR.at0 ra 47 (by decide)
  have g_101 : (0 : Int) ≤ (I0 o 48).toInt ∧ (I0 o 48).toInt ≤ 80 := hR.at0 ra 48 (by decide)
  refine sModel_e_0 o n sh Rf I0 L0 post  hok hw ?_
  unfold fModel_e_0
  have l_102 : (0 : Int32).toInt = 0 := rfl
  refine fun I_103 e_104 => ?_
  have hR_105 : RI R I_103 := hR.up0 (k := 48) ra (by decide) (Or.inr hz58) e_104 (show (0 : Int) ≤ (0 : Int32).toInt by omega) (show (0 : Int32).toInt ≤ (80 : Int) by omega)
  have hf_106 : Fm (fun c => c = o ∨ (o + 30 ≤ c ∧ c < o + 34)) I0 I_103 := hf.set (by first | rfl | omega | (dsimp only; omega)) e_104
  have t_107 : (I_103 o 3).toInt = (I0 o 3).toInt := by rw [← e_104, q_u_k (by decide)]
  have t_108 : (I_103 o 4).toInt = (I0 o 4).toInt := by rw [← e_104, q_u_k (by decide)]
  have t_109 : (I_103 o 6).toInt = (I0 o 6).toInt := by rw [← e_104, q_u_k (by decide)]
  have t_110 : (I_103 o 7).toInt = (I0 o 7).toInt := by rw [← e_104, q_u_k (by decide)]
  have t_111 : (I_103 o 8).toInt = (I0 o 8).toInt := by rw [← e_104, q_u_k (by decide)]
  have t_112 : (I_103 o 9).toInt = (I0 o 9).toInt := by rw [← e_104, q_u_k (by decide)]
  have t_113 : (I_103 o 44).toInt = (I0 o 44).toInt := by rw [← e_104, q_u_k (by decide)]
  have t_114 : (I_103 o 45).toInt = (I0 o 45).toInt := by rw [← e_104, q_u_k (by decide)]
  have t_115 : (I_103 o 47).toInt = (I0 o 47).toInt := by rw [← e_104, q_u_k (by decide)]
  have t_116 : (I_103 o 48).toInt = (0 : Int32).toInt := by rw [← e_104, q_u_at]
  have k_117 : ReS I_103 o := hq2.fr (by rw [← e_104]; exact q_u_ne (by omega)) (by rw [← e_104]; exact q_u_ne (by omega)) (by rw [← e_104]; exact q_u_ne (by omega)) (by rw [← e_104, q_u_k (by decide)]) (by rw [← e_104, q_u_k (by decide)]) (by rw [← e_104, q_u_k (by decide)]) (by rw [← e_104, q_u_k (by decide)])
  have k_118 : MTd I_103 o := hq3.fr (by rw [← e_104]; exact q_u_ne (by omega)) (by rw [← e_104]; exact q_u_ne (by omega)) (by rw [← e_104]; exact q_u_ne (by omega))
  have k_119 : MPo I_103 o := hq4.fr (by rw [← e_104, q_u_k (by decide)]) (by rw [← e_104, q_u_k (by decide)])
  have k_120 : MTk I_103 o := hq5.fr (by rw [← e_104, q_u_k (by decide)]) (by rw [← e_104, q_u_k (by decide)]) (by rw [← e_104, q_u_k (by decide)])
  refine fun I_121 e_122 => ?_
  have hR_123 : RI R I_121 := hR_105.up0 (k := 47) ra (by decide) (Or.inr hz57) e_122 (show (0 : Int) ≤ (0 : Int32).toInt by omega) (show (0 : Int32).toInt ≤ (7 : Int) by omega)
  have hf_124 : Fm (fun c => c = o ∨ (o + 30 ≤ c ∧ c < o + 34)) I0 I_121 := hf_106.set (by first | rfl | omega | (dsimp only; omega)) e_122
  have t_125 : (I_121 o 3).toInt = (I_103 o 3).toInt := by rw [← e_122, q_u_k (by decide)]
  have t_126 : (I_121 o 4).toInt = (I_103 o 4).toInt := by rw [← e_122, q_u_k (by decide)]
  have t_127 : (I_121 o 6).toInt = (I_103 o 6).toInt := by rw [← e_122, q_u_k (by decide)]
  have t_128 : (I_121 o 7).toInt = (I_103 o 7).toInt := by rw [← e_122, q_u_k (by decide)]
  have t_129 : (I_121 o 8).toInt = (I_103 o 8).toInt := by rw [← e_122, q_u_k (by decide)]
  have t_130 : (I_121 o 9).toInt = (I_103 o 9).toInt := by rw [← e_122, q_u_k (by decide)]
  have t_131 : (I_121 o 44).toInt = (I_103 o 44).toInt := by rw [← e_122, q_u_k (by decide)]
  have t_132 : (I_121 o 45).toInt = (I_103 o 45).toInt := by rw [← e_122, q_u_k (by decide)]
  have t_133 : (I_121 o 47).toInt = (0 : Int32).toInt := by rw [← e_122, q_u_at]
  have t_134 : (I_121 o 48).toInt = (I_103 o 48).toInt := by rw [← e_122, q_u_k (by decide)]
  have k_135 : ReS I_121 o := k_117.fr (by rw [← e_122]; exact q_u_ne (by omega)) (by rw [← e_122]; exact q_u_ne (by omega)) (by rw [← e_122]; exact q_u_ne (by omega)) (by rw [← e_122, q_u_k (by decide)]) (by rw [← e_122, q_u_k (by decide)]) (by rw [← e_122, q_u_k (by decide)]) (by rw [← e_122, q_u_k (by decide)])
  have k_136 : MTd I_121 o := k_118.fr (by rw [← e_122]; exact q_u_ne (by omega)) (by rw [← e_122]; exact q_u_ne (by omega)) (by rw [← e_122]; exact q_u_ne (by omega))
  have k_137 : MPo I_121 o := k_119.fr (by rw [← e_122, q_u_k (by decide)]) (by rw [← e_122, q_u_k (by decide)])
  have k_138 : MTk I_121 o := k_120.fr (by rw [← e_122, q_u_k (by decide)]) (by rw [← e_122, q_u_k (by decide)]) (by rw [← e_122, q_u_k (by decide)])
  have l_139 : (8 : Int32).toInt = 8 := rfl
  refine y_Model_pile hok hw ra hz58 (by first | omega | (intro h; omega) | exact Or.inl rfl | exact Or.inr rfl) (by first | omega | (intro h; omega) | exact Or.inl rfl | exact Or.inr rfl) hR_123 (fun I_144 L_145 hR_146 fr_147 kp_148 u_141 u_142 u_143 => ⟨I_144, L_145, rfl, rfl, ?_⟩)
  have hf_149 : Fm (fun c => c = o ∨ (o + 30 ≤ c ∧ c < o + 34)) I0 I_144 := hf_124.call fr_147 (fun c hc => by first | exact hc | (dsimp only at hc ⊢; omega) | omega)
  have t_150 : (I_144 o 3).toInt = (I_121 o 3).toInt := by rw [kp_148 3 rfl]
  have t_151 : (I_144 o 4).toInt = (I_121 o 4).toInt := by rw [kp_148 4 rfl]
  have t_152 : (I_144 o 6).toInt = (I_121 o 6).toInt := by rw [kp_148 6 rfl]
  have t_153 : (I_144 o 7).toInt = (I_121 o 7).toInt := by rw [kp_148 7 rfl]
  have t_154 : (I_144 o 8).toInt = (I_121 o 8).toInt := by rw [kp_148 8 rfl]
  have t_155 : (I_144 o 9).toInt = (I_121 o 9).toInt := by rw [kp_148 9 rfl]
  have t_156 : (I_144 o 44).toInt = (I_121 o 44).toInt := by rw [kp_148 44 rfl]
  have t_157 : (I_144 o 45).toInt = (I_121 o 45).toInt := by rw [kp_148 45 rfl]
  have t_158 : (I_144 o 47).toInt = (I_121 o 47).toInt := by rw [kp_148 47 rfl]
  have g_159 : (0 : Int) ≤ (I_144 o 48).toInt ∧ (I_144 o 48).toInt ≤ 80 := hR_146.at0 ra 48 (by decide)
  have k_160 : ReS I_144 o := k_135.fr (fr_147 _ (by first | omega | (dsimp only; omega))) (fr_147 _ (by first | omega | (dsimp only; omega))) (fr_147 _ (by first | omega | (dsimp only; omega))) (kp_148 3 rfl) (kp_148 6 rfl) (kp_148 44 rfl) (kp_148 45 rfl)
  have k_161 : MTd I_144 o := k_136.fr (fr_147 _ (by first | omega | (dsimp only; omega))) (fr_147 _ (by first | omega | (dsimp only; omega))) (fr_147 _ (by first | omega | (dsimp only; omega)))
  have k_162 : MPo I_144 o := k_137.fr (kp_148 8 rfl) (kp_148 9 rfl)
  have k_163 : MTk I_144 o := k_138.fr (kp_148 6 rfl) (kp_148 7 rfl) (kp_148 8 rfl)
  have k_164 : EX 0 0 0 (I0 o 45).toInt.toNat 1 I_144 o := by have q := ReS.begin k_160 rfl rfl rfl (by rw [u_141, show (I_121 o 48).toNatClampNeg = 0 from (by have cl := tCl (x := I_121 o 48) (by omega); omega), rU_at]; rfl) rfl rfl rfl rfl (by omega) (by omega); rw [show I_144 o 45 = I0 o 45 from Int32.toInt_inj.mp (by omega)] at q; exact q
  have l_165 : (1 : Int32).toInt = 1 := rfl
  exact yModel_e_19 (I0 := I0) (L0 := L0) hok hw ra hz14 hz15 hz16 hz17 hz18 hz19 hz55 hz56 hz57 hz58 hZ hR0 hq0 hq1 hq2 hq3 hq4 hq5 hp  _ hR_146 hf_149 (by first | omega | (intro h; omega) | exact Or.inl rfl | exact Or.inr rfl) (by first | omega | (intro h; omega) | exact Or.inl rfl | exact Or.inr rfl) (by first | omega | (intro h; omega) | exact Or.inl rfl | exact Or.inr rfl) (by first | exact False.elim | exact False.elim | exact fun _ => k_164) (by first | omega | (intro h; omega) | exact Or.inl rfl | exact Or.inr rfl) (by first | omega | (intro h; omega) | exact Or.inl rfl | exact Or.inr rfl) k_161 k_162 k_163 (Nat.lt_succ_self _)
theorem y_Model_e {D : va_G} {cA : FieldType → ClassId} {b : Nat} {E : State → Prop} {R : qRg} {o n : Nat} {sh : Nat → qC} {Rf : Nat → Nat → Option Nat} {I0 : Nat → Nat → Int32} {L0 : Nat → Nat → Int64} {post : Option Value → qS → Prop} (hok : q_ok (qGG D cA b E)) (hw : WfModel (qGG D cA b E) n sh Rf o) (ra : RAModel R o) (hz14 : R.2 14 = true) (hz15 : R.2 15 = true) (hz16 : R.2 16 = true) (hz17 : R.2 17 = true) (hz18 : R.2 18 = true) (hz19 : R.2 19 = true) (hz55 : R.2 55 = true) (hz56 : R.2 56 = true) (hz57 : R.2 57 = true) (hz58 : R.2 58 = true) (hq0 : (I0 o 7).toInt ≤ (I0 o 3).toInt) (hq1 : (I0 o 4).toInt = 0) (hq2 : ReS I0 o) (hq3 : MTd I0 o) (hq4 : MPo I0 o) (hq5 : MTk I0 o) (hR : RI R I0) (hp : ∀ (I' : Nat → Nat → Int32) (L' : Nat → Nat → Int64), RI R I' → Fm (fun c => c = o ∨ (o + 30 ≤ c ∧ c < o + 34)) I0 I' → Kp wModel_e I0 I' o → ((I' o 7).toInt ≤ (I' o 3).toInt) → ((I0 o 7).toInt ≤ (I' o 7).toInt) → ((I0 o 4).toInt ≤ (I' o 4).toInt) → (7 * (I0 o 7).toInt - (I0 o 8).toInt + (I0 o 4).toInt ≤ 7 * (I' o 7).toInt - (I' o 8).toInt + (I' o 4).toInt) → (Im ((I' o 4).toInt = 0) (ReS I' o ∧ De (I' (o + 30)) (2800 + (I0 o 45).toInt.toNat) ((I' o 45).toInt - ((I0 o 45).toInt.toNat : Nat)).toNat = some 1 ∧ (((I0 o 45).toInt.toNat : Nat) : Int) ≤ (I' o 45).toInt)) → (MTd I' o) → (MPo I' o) → (MTk I' o) → post none (n, sh, Rf, I', L')) : Ev (qGG D cA b E) mModel_e 5 (0, 0) 0 (lv_args 0 [.ref o]) [] (n, sh, Rf, I0, L0) post :=
  yc_Model_e (R := fzR R I0 o wModel_e) hok hw (fzA ra hR _) (fzT hz14 rfl) (fzT hz15 rfl) (fzT hz16 rfl) (fzT hz17 rfl) (fzT hz18 rfl) (fzT hz19 rfl) (fzT hz55 rfl) (fzT hz56 rfl) (fzT hz57 rfl) (fzT hz58 rfl) fzZ (fzI hR) hq0 hq1 hq2 hq3 hq4 hq5 (fzI hR) (fun I' L' h1 h2 u0 u1 u2 u3 u4 u5 u6 u7 => hp I' L' (fzB hR h1) h2 (fzP h1) u0 u1 u2 u3 u4 u5 u6 u7)
