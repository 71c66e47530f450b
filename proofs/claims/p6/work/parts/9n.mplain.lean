/-! Safety of the reference, its plain methods: by program (spec.py). -/
def TModel : qTb := fun i k => match i with
  | 0 => (match k with | 2 => (0, 1600, 12) | 3 => (0, 1600, 13) | 4 => (0, 5, 14) | 6 => (0, 1600, 16) | 7 => (0, 1601, 17) | 8 => (0, 6, 18) | 34 => (0, 1, 44) | 35 => (0, 1, 45) | 44 => (0, 4, 54) | 45 => (0, 700, 55) | 46 => (0, 100, 56) | 47 => (0, 7, 57) | 48 => (0, 80, 58) | 57 => (0, 240, 67) | 66 => (0, 6, 76) | 67 => (0, 40, 77) | 68 => (0, 100000, 78) | 104 => (0, 2000, 114) | 105 => (0, 4000, 115) | 106 => (0, 5, 116) | 120 => (-1, 4, 130) | 122 => (0, 4, 132) | 123 => (-1, 2, 133) | 124 => (-1, 4, 134) | 127 => (-1, 2, 137) | 136 => (0, 240, 146) | 137 => (0, 6, 147) | 163 => (0, 2000, 173) | j => (-2147483648, 2147483647, 10 + j))
  | 6 => (0, 24, 0)
  | 7 => (0, 3, 0)
  | 8 => (0, 3, 0)
  | 9 => (0, 5, 0)
  | 10 => (0, 15, 0)
  | 11 => (0, 15, 0)
  | 13 => (0, 15, 0)
  | 16 => (0, 15, 0)
  | 19 => (0, 15, 0)
  | 26 => (-1, 700, 0)
  | 27 => (0, 700, 0)
  | 28 => (0, 5, 0)
  | 32 => (0, 8, 0)
  | 50 => (-1, 5, 0)
  | 51 => (-1, 5, 0)
  | 58 => (-1, 5, 0)
  | 81 => (-1, 5, 0)
  | _ => (-2147483648, 2147483647, 0)
abbrev RAModel (R : qRg) (a : Nat) : Prop := RAt TModel 102 R a
/-- what is not written is held to what it is -/
def fzR (R : qRg) (I : Nat → Nat → Int32) (o : Nat) (W : Nat → Bool) : qRg := (fun a k => if a = o ∧ W (10 + k) = false then ((I a k).toInt, (I a k).toInt) else R.1 a k, fun j => R.2 j && W j)
def Kp (W : Nat → Bool) (I I' : Nat → Nat → Int32) (o : Nat) : Prop := ∀ k, W (10 + k) = false → I' o k = I o k
def Fz (R : qRg) (I0 : Nat → Nat → Int32) (o : Nat) (W : Nat → Bool) : Prop := ∀ (I : Nat → Nat → Int32) (k : Nat), W (10 + k) = false → RI R I → I o k = I0 o k
theorem tm_tag : ∀ k, (TModel 0 k).2.2 = 10 + k := by
  intro k
  simp only [TModel]
  split
  all_goals rfl
theorem tm_row : ∀ i k, 0 < i → (TModel i k).2.2 = 0 := by
  intro i k h
  unfold TModel
  split
  · exact absurd h (by omega)
  all_goals rfl
section FZ
variable {R : qRg} {I I' : Nat → Nat → Int32} {o : Nat} {W : Nat → Bool}
theorem fzA (ra : RAModel R o) (hR : RI R I) (W : Nat → Bool) : RAModel (fzR R I o W) o := by
  intro i hi k
  have q := ra i hi k
  by_cases h : i = 0
  · subst h
    rw [tm_tag] at q ⊢
    by_cases hw : W (10 + k) = false
    · have e : (fzR R I o W).1 (o + 0) k = ((I o k).toInt, (I o k).toInt) := if_pos ⟨rfl, hw⟩
      rw [e]
      have r := hR.at0 ra k (by decide)
      refine ⟨⟨r.1, r.2⟩, fun h => ?_⟩
      rcases h with h | h
      · exact absurd h (by omega)
      · have h2 : (R.2 (10 + k) && W (10 + k)) = true := h
        rw [hw, Bool.and_false] at h2
        exact absurd h2 (by decide)
    · have e : (fzR R I o W).1 (o + 0) k = R.1 (o + 0) k := if_neg (fun h => hw h.2)
      rw [e]
      refine ⟨q.1, fun h => q.2 ?_⟩
      rcases h with h | h
      · exact Or.inl h
      · have h2 : (R.2 (10 + k) && W (10 + k)) = true := h
        rw [Bool.and_eq_true] at h2
        exact Or.inr h2.1
  · have e : (fzR R I o W).1 (o + i) k = R.1 (o + i) k := if_neg (fun h => absurd h.1 (by omega))
    have z := tm_row i k (by omega)
    rw [e]
    rw [z] at q ⊢
    exact ⟨q.1, fun _ => q.2 (Or.inl rfl)⟩
theorem fzI (hR : RI R I) : RI (fzR R I o W) I := fun a k => by
  show (if a = o ∧ W (10 + k) = false then ((I a k).toInt, (I a k).toInt) else R.1 a k).1 ≤ _ ∧ _ ≤ (if a = o ∧ W (10 + k) = false then ((I a k).toInt, (I a k).toInt) else R.1 a k).2
  split
  · exact ⟨Int.le_refl _, Int.le_refl _⟩
  · exact hR a k
theorem fzK {k : Nat} (h : RI (fzR R I o W) I') (hw : W (10 + k) = false) : I' o k = I o k := by
  have q := h o k
  have e : (fzR R I o W).1 o k = ((I o k).toInt, (I o k).toInt) := if_pos ⟨rfl, hw⟩
  rw [e] at q
  exact Int32.toInt_inj.mp (Int.le_antisymm q.2 q.1)
theorem fzB (hR : RI R I) (h : RI (fzR R I o W) I') : RI R I' := fun a k => by
  by_cases c : a = o ∧ W (10 + k) = false
  · rw [c.1, fzK h c.2]; exact hR o k
  · have q := h a k
    have e : (fzR R I o W).1 a k = R.1 a k := if_neg c
    rw [e] at q
    exact q
theorem fzT {j : Nat} (h : R.2 j = true) (hw : W j = true) : (fzR R I o W).2 j = true := by
  show (R.2 j && W j) = true
  rw [h, hw]
  rfl
theorem fzZ : Fz (fzR R I o W) I o W := fun _ _ hw h => fzK h hw
theorem fzP (h : RI (fzR R I o W) I') : Kp W I I' o := fun _ hw => fzK h hw
end FZ
set_option maxHeartbeats 4000000 in
set_option maxRecDepth 20000 in
theorem y_Model_isSign {D : va_G} {cA : FieldType → ClassId} {b : Nat} {E : State → Prop} {R : qRg} {n : Nat} {sh : Nat → qC} {Rf : Nat → Nat → Option Nat} {I0 : Nat → Nat → Int32} {L0 : Nat → Nat → Int64} {post : Option Value → qS → Prop} {p0 : Int32} (hok : q_ok (qGG D cA b E)) (hR : RI R I0) (hp : ∀ (r : Int32) , (Bz r) → post (some (.int r)) (n, sh, Rf, I0, L0)) : Ev (qGG D cA b E) mModel_isSign 0 (0, 0) 0 (lv_args 0 [.int p0]) [] (n, sh, Rf, I0, L0) post := by
  refine sModel_isSign_0 n sh Rf I0 L0 post p0 hok  ?_
  unfold fModel_isSign_0
  have l_1 : (59 : Int32).toInt = 59 := rfl
  refine ⟨fun c_2 => ?_, fun c_2 => ?_⟩
  · have d_3 := iEq c_2
    unfold fModel_isSign_60
    have l_4 : (1 : Int32).toInt = 1 := rfl
    exact (hp _ (Or.inr rfl))
  · have d_5 := iNe c_2
    have l_6 : (40 : Int32).toInt = 40 := rfl
    refine ⟨fun c_7 => ?_, fun c_7 => ?_⟩
    · have d_8 := iEq c_7
      unfold fModel_isSign_60
      have l_9 : (1 : Int32).toInt = 1 := rfl
      exact (hp _ (Or.inr rfl))
    · have d_10 := iNe c_7
      have l_11 : (41 : Int32).toInt = 41 := rfl
      refine ⟨fun c_12 => ?_, fun c_12 => ?_⟩
      · have d_13 := iEq c_12
        unfold fModel_isSign_60
        have l_14 : (1 : Int32).toInt = 1 := rfl
        exact (hp _ (Or.inr rfl))
      · have d_15 := iNe c_12
        have l_16 : (60 : Int32).toInt = 60 := rfl
        refine ⟨fun c_17 => ?_, fun c_17 => ?_⟩
        · have d_18 := iEq c_17
          unfold fModel_isSign_60
          have l_19 : (1 : Int32).toInt = 1 := rfl
          exact (hp _ (Or.inr rfl))
        · have d_20 := iNe c_17
          have l_21 : (62 : Int32).toInt = 62 := rfl
          refine ⟨fun c_22 => ?_, fun c_22 => ?_⟩
          · have d_23 := iEq c_22
            unfold fModel_isSign_60
            have l_24 : (1 : Int32).toInt = 1 := rfl
            exact (hp _ (Or.inr rfl))
          · have d_25 := iNe c_22
            have l_26 : (61 : Int32).toInt = 61 := rfl
            refine ⟨fun c_27 => ?_, fun c_27 => ?_⟩
            · have d_28 := iEq c_27
              unfold fModel_isSign_60
              have l_29 : (1 : Int32).toInt = 1 := rfl
              exact (hp _ (Or.inr rfl))
            · have d_30 := iNe c_27
              have l_31 : (43 : Int32).toInt = 43 := rfl
              refine ⟨fun c_32 => ?_, fun c_32 => ?_⟩
              · have d_33 := iEq c_32
                unfold fModel_isSign_60
                have l_34 : (1 : Int32).toInt = 1 := rfl
                exact (hp _ (Or.inr rfl))
              · have d_35 := iNe c_32
                have l_36 : (45 : Int32).toInt = 45 := rfl
                refine ⟨fun c_37 => ?_, fun c_37 => ?_⟩
                · have d_38 := iEq c_37
                  unfold fModel_isSign_60
                  have l_39 : (1 : Int32).toInt = 1 := rfl
                  exact (hp _ (Or.inr rfl))
                · have d_40 := iNe c_37
                  have l_41 : (42 : Int32).toInt = 42 := rfl
                  refine ⟨fun c_42 => ?_, fun c_42 => ?_⟩
                  · have d_43 := iEq c_42
                    unfold fModel_isSign_60
                    have l_44 : (1 : Int32).toInt = 1 := rfl
                    exact (hp _ (Or.inr rfl))
                  · have d_45 := iNe c_42
                    have l_46 : (47 : Int32).toInt = 47 := rfl
                    refine ⟨fun c_47 => ?_, fun c_47 => ?_⟩
                    · have d_48 := iNe c_47
                      have l_49 : (0 : Int32).toInt = 0 := rfl
                      exact (hp _ (Or.inl rfl))
                    · have d_50 := iEq c_47
                      unfold fModel_isSign_60
                      have l_51 : (1 : Int32).toInt = 1 := rfl
                      exact (hp _ (Or.inr rfl))
set_option maxHeartbeats 4000000 in
set_option maxRecDepth 20000 in
theorem y_Model_isKept {D : va_G} {cA : FieldType → ClassId} {b : Nat} {E : State → Prop} {R : qRg} {n : Nat} {sh : Nat → qC} {Rf : Nat → Nat → Option Nat} {I0 : Nat → Nat → Int32} {L0 : Nat → Nat → Int64} {post : Option Value → qS → Prop} {p0 : Int64} (hok : q_ok (qGG D cA b E)) (hR : RI R I0) (hp : ∀ (r : Int32) , (Bz r) → post (some (.int r)) (n, sh, Rf, I0, L0)) : Ev (qGG D cA b E) mModel_isKept 0 (0, 0) 0 (lv_args 0 [.long p0]) [] (n, sh, Rf, I0, L0) post := by
  refine sModel_isKept_0 n sh Rf I0 L0 post p0 hok  ?_
  unfold fModel_isKept_0
  have l_1 : (0 : Int32).toInt = 0 := rfl
  refine ⟨fun c_2 => ?_, fun c_2 => ?_⟩
  · have d_3 := iEq c_2
    unfold fModel_isKept_128
    unfold fModel_isKept_133
    have l_4 : (1 : Int32).toInt = 1 := rfl
    refine ⟨fun c_5 => ?_, fun c_5 => ?_⟩
    · have d_6 := iNe c_5
      unfold fModel_isKept_266
      exact (hp _ (Or.inr rfl))
    · have d_7 := iEq c_5
      exfalso; omega
  · have d_8 := iNe c_2
    refine ⟨fun c_9 => ?_, fun c_9 => ?_⟩
    · have d_10 := iEq c_9
      unfold fModel_isKept_128
      unfold fModel_isKept_133
      have l_11 : (1 : Int32).toInt = 1 := rfl
      refine ⟨fun c_12 => ?_, fun c_12 => ?_⟩
      · have d_13 := iNe c_12
        unfold fModel_isKept_266
        exact (hp _ (Or.inr rfl))
      · have d_14 := iEq c_12
        exfalso; omega
    · have d_15 := iNe c_9
      refine ⟨fun c_16 => ?_, fun c_16 => ?_⟩
      · have d_17 := iEq c_16
        unfold fModel_isKept_128
        unfold fModel_isKept_133
        have l_18 : (1 : Int32).toInt = 1 := rfl
        refine ⟨fun c_19 => ?_, fun c_19 => ?_⟩
        · have d_20 := iNe c_19
          unfold fModel_isKept_266
          exact (hp _ (Or.inr rfl))
        · have d_21 := iEq c_19
          exfalso; omega
      · have d_22 := iNe c_16
        refine ⟨fun c_23 => ?_, fun c_23 => ?_⟩
        · have d_24 := iEq c_23
          unfold fModel_isKept_128
          unfold fModel_isKept_133
          have l_25 : (1 : Int32).toInt = 1 := rfl
          refine ⟨fun c_26 => ?_, fun c_26 => ?_⟩
          · have d_27 := iNe c_26
            unfold fModel_isKept_266
            exact (hp _ (Or.inr rfl))
          · have d_28 := iEq c_26
            exfalso; omega
        · have d_29 := iNe c_23
          refine ⟨fun c_30 => ?_, fun c_30 => ?_⟩
          · have d_31 := iEq c_30
            unfold fModel_isKept_128
            unfold fModel_isKept_133
            have l_32 : (1 : Int32).toInt = 1 := rfl
            refine ⟨fun c_33 => ?_, fun c_33 => ?_⟩
            · have d_34 := iNe c_33
              unfold fModel_isKept_266
              exact (hp _ (Or.inr rfl))
            · have d_35 := iEq c_33
              exfalso; omega
          · have d_36 := iNe c_30
            refine ⟨fun c_37 => ?_, fun c_37 => ?_⟩
            · have d_38 := iEq c_37
              unfold fModel_isKept_128
              unfold fModel_isKept_133
              have l_39 : (1 : Int32).toInt = 1 := rfl
              refine ⟨fun c_40 => ?_, fun c_40 => ?_⟩
              · have d_41 := iNe c_40
                unfold fModel_isKept_266
                exact (hp _ (Or.inr rfl))
              · have d_42 := iEq c_40
                exfalso; omega
            · have d_43 := iNe c_37
              refine ⟨fun c_44 => ?_, fun c_44 => ?_⟩
              · have d_45 := iEq c_44
                unfold fModel_isKept_128
                unfold fModel_isKept_133
                have l_46 : (1 : Int32).toInt = 1 := rfl
                refine ⟨fun c_47 => ?_, fun c_47 => ?_⟩
                · have d_48 := iNe c_47
                  unfold fModel_isKept_266
                  exact (hp _ (Or.inr rfl))
                · have d_49 := iEq c_47
                  exfalso; omega
              · have d_50 := iNe c_44
                refine ⟨fun c_51 => ?_, fun c_51 => ?_⟩
                · have d_52 := iEq c_51
                  unfold fModel_isKept_128
                  unfold fModel_isKept_133
                  have l_53 : (1 : Int32).toInt = 1 := rfl
                  refine ⟨fun c_54 => ?_, fun c_54 => ?_⟩
                  · have d_55 := iNe c_54
                    unfold fModel_isKept_266
                    exact (hp _ (Or.inr rfl))
                  · have d_56 := iEq c_54
                    exfalso; omega
                · have d_57 := iNe c_51
                  refine ⟨fun c_58 => ?_, fun c_58 => ?_⟩
                  · have d_59 := iEq c_58
                    unfold fModel_isKept_128
                    unfold fModel_isKept_133
                    have l_60 : (1 : Int32).toInt = 1 := rfl
                    refine ⟨fun c_61 => ?_, fun c_61 => ?_⟩
                    · have d_62 := iNe c_61
                      unfold fModel_isKept_266
                      exact (hp _ (Or.inr rfl))
                    · have d_63 := iEq c_61
                      exfalso; omega
                  · have d_64 := iNe c_58
                    refine ⟨fun c_65 => ?_, fun c_65 => ?_⟩
                    · have d_66 := iEq c_65
                      unfold fModel_isKept_128
                      unfold fModel_isKept_133
                      have l_67 : (1 : Int32).toInt = 1 := rfl
                      refine ⟨fun c_68 => ?_, fun c_68 => ?_⟩
                      · have d_69 := iNe c_68
                        unfold fModel_isKept_266
                        exact (hp _ (Or.inr rfl))
                      · have d_70 := iEq c_68
                        exfalso; omega
                    · have d_71 := iNe c_65
                      refine ⟨fun c_72 => ?_, fun c_72 => ?_⟩
                      · have d_73 := iEq c_72
                        unfold fModel_isKept_128
                        unfold fModel_isKept_133
                        have l_74 : (1 : Int32).toInt = 1 := rfl
                        refine ⟨fun c_75 => ?_, fun c_75 => ?_⟩
                        · have d_76 := iNe c_75
                          unfold fModel_isKept_266
                          exact (hp _ (Or.inr rfl))
                        · have d_77 := iEq c_75
                          exfalso; omega
                      · have d_78 := iNe c_72
                        refine ⟨fun c_79 => ?_, fun c_79 => ?_⟩
                        · have d_80 := iEq c_79
                          unfold fModel_isKept_128
                          unfold fModel_isKept_133
                          have l_81 : (1 : Int32).toInt = 1 := rfl
                          refine ⟨fun c_82 => ?_, fun c_82 => ?_⟩
                          · have d_83 := iNe c_82
                            unfold fModel_isKept_266
                            exact (hp _ (Or.inr rfl))
                          · have d_84 := iEq c_82
                            exfalso; omega
                        · have d_85 := iNe c_79
                          refine ⟨fun c_86 => ?_, fun c_86 => ?_⟩
                          · have d_87 := iEq c_86
                            unfold fModel_isKept_128
                            unfold fModel_isKept_133
                            have l_88 : (1 : Int32).toInt = 1 := rfl
                            refine ⟨fun c_89 => ?_, fun c_89 => ?_⟩
                            · have d_90 := iNe c_89
                              unfold fModel_isKept_266
                              exact (hp _ (Or.inr rfl))
                            · have d_91 := iEq c_89
                              exfalso; omega
                          · have d_92 := iNe c_86
                            refine ⟨fun c_93 => ?_, fun c_93 => ?_⟩
                            · have d_94 := iEq c_93
                              unfold fModel_isKept_128
                              unfold fModel_isKept_133
                              have l_95 : (1 : Int32).toInt = 1 := rfl
                              refine ⟨fun c_96 => ?_, fun c_96 => ?_⟩
                              · have d_97 := iNe c_96
                                unfold fModel_isKept_266
                                exact (hp _ (Or.inr rfl))
                              · have d_98 := iEq c_96
                                exfalso; omega
                            · have d_99 := iNe c_93
                              refine ⟨fun c_100 => ?_, fun c_100 => ?_⟩
                              · have d_101 := iEq c_100
                                unfold fModel_isKept_128
                                unfold fModel_isKept_133
                                have l_102 : (1 : Int32).toInt = 1 := rfl
                                refine ⟨fun c_103 => ?_, fun c_103 => ?_⟩
                                · have d_104 := iNe c_103
                                  unfold fModel_isKept_266
                                  exact (hp _ (Or.inr rfl))
                                · have d_105 := iEq c_103
                                  exfalso; omega
                              · have d_106 := iNe c_100
                                refine ⟨fun c_107 => ?_, fun c_107 => ?_⟩
                                · have d_108 := iNe c_107
                                  unfold fModel_isKept_133
                                  refine ⟨fun c_109 => ?_, fun c_109 => ?_⟩
                                  · have d_110 := iNe c_109
                                    exfalso; omega
                                  · have d_111 := iEq c_109
                                    refine ⟨fun c_112 => ?_, fun c_112 => ?_⟩
                                    · have d_113 := iEq c_112
                                      unfold fModel_isKept_266
                                      have l_114 : (1 : Int32).toInt = 1 := rfl
                                      exact (hp _ (Or.inr rfl))
                                    · have d_115 := iNe c_112
                                      refine ⟨fun c_116 => ?_, fun c_116 => ?_⟩
                                      · have d_117 := iEq c_116
                                        unfold fModel_isKept_266
                                        have l_118 : (1 : Int32).toInt = 1 := rfl
                                        exact (hp _ (Or.inr rfl))
                                      · have d_119 := iNe c_116
                                        refine ⟨fun c_120 => ?_, fun c_120 => ?_⟩
                                        · have d_121 := iEq c_120
                                          unfold fModel_isKept_266
                                          have l_122 : (1 : Int32).toInt = 1 := rfl
                                          exact (hp _ (Or.inr rfl))
                                        · have d_123 := iNe c_120
                                          refine ⟨fun c_124 => ?_, fun c_124 => ?_⟩
                                          · have d_125 := iEq c_124
                                            unfold fModel_isKept_266
                                            have l_126 : (1 : Int32).toInt = 1 := rfl
                                            exact (hp _ (Or.inr rfl))
                                          · have d_127 := iNe c_124
                                            refine ⟨fun c_128 => ?_, fun c_128 => ?_⟩
                                            · have d_129 := iEq c_128
                                              unfold fModel_isKept_266
                                              have l_130 : (1 : Int32).toInt = 1 := rfl
                                              exact (hp _ (Or.inr rfl))
                                            · have d_131 := iNe c_128
                                              refine ⟨fun c_132 => ?_, fun c_132 => ?_⟩
                                              · have d_133 := iEq c_132
                                                unfold fModel_isKept_266
                                                have l_134 : (1 : Int32).toInt = 1 := rfl
                                                exact (hp _ (Or.inr rfl))
                                              · have d_135 := iNe c_132
                                                refine ⟨fun c_136 => ?_, fun c_136 => ?_⟩
                                                · have d_137 := iEq c_136
                                                  unfold fModel_isKept_266
                                                  have l_138 : (1 : Int32).toInt = 1 := rfl
                                                  exact (hp _ (Or.inr rfl))
                                                · have d_139 := iNe c_136
                                                  refine ⟨fun c_140 => ?_, fun c_140 => ?_⟩
                                                  · have d_141 := iEq c_140
                                                    unfold fModel_isKept_266
                                                    have l_142 : (1 : Int32).toInt = 1 := rfl
                                                    exact (hp _ (Or.inr rfl))
                                                  · have d_143 := iNe c_140
                                                    refine ⟨fun c_144 => ?_, fun c_144 => ?_⟩
                                                    · have d_145 := iEq c_144
                                                      unfold fModel_isKept_266
                                                      have l_146 : (1 : Int32).toInt = 1 := rfl
                                                      exact (hp _ (Or.inr rfl))
                                                    · have d_147 := iNe c_144
                                                      refine ⟨fun c_148 => ?_, fun c_148 => ?_⟩
                                                      · have d_149 := iEq c_148
                                                        unfold fModel_isKept_266
                                                        have l_150 : (1 : Int32).toInt = 1 := rfl
                                                        exact (hp _ (Or.inr rfl))
                                                      · have d_151 := iNe c_148
                                                        refine ⟨fun c_152 => ?_, fun c_152 => ?_⟩
                                                        · have d_153 := iEq c_152
                                                          unfold fModel_isKept_266
                                                          have l_154 : (1 : Int32).toInt = 1 := rfl
                                                          exact (hp _ (Or.inr rfl))
                                                        · have d_155 := iNe c_152
                                                          refine ⟨fun c_156 => ?_, fun c_156 => ?_⟩
                                                          · have d_157 := iEq c_156
                                                            unfold fModel_isKept_266
                                                            have l_158 : (1 : Int32).toInt = 1 := rfl
                                                            exact (hp _ (Or.inr rfl))
                                                          · have d_159 := iNe c_156
                                                            refine ⟨fun c_160 => ?_, fun c_160 => ?_⟩
                                                            · have d_161 := iEq c_160
                                                              unfold fModel_isKept_266
                                                              have l_162 : (1 : Int32).toInt = 1 := rfl
                                                              exact (hp _ (Or.inr rfl))
                                                            · have d_163 := iNe c_160
                                                              refine ⟨fun c_164 => ?_, fun c_164 => ?_⟩
                                                              · have d_165 := iEq c_164
                                                                unfold fModel_isKept_266
                                                                have l_166 : (1 : Int32).toInt = 1 := rfl
                                                                exact (hp _ (Or.inr rfl))
                                                              · have d_167 := iNe c_164
                                                                refine ⟨fun c_168 => ?_, fun c_168 => ?_⟩
                                                                · have d_169 := iEq c_168
                                                                  unfold fModel_isKept_266
                                                                  have l_170 : (1 : Int32).toInt = 1 := rfl
                                                                  exact (hp _ (Or.inr rfl))
                                                                · have d_171 := iNe c_168
                                                                  refine ⟨fun c_172 => ?_, fun c_172 => ?_⟩
                                                                  · have d_173 := iNe c_172
                                                                    exact (hp _ (Or.inl rfl))
                                                                  · have d_174 := iEq c_172
                                                                    unfold fModel_isKept_266
                                                                    have l_175 : (1 : Int32).toInt = 1 := rfl
                                                                    exact (hp _ (Or.inr rfl))
                                · have d_176 := iEq c_107
                                  unfold fModel_isKept_128
                                  unfold fModel_isKept_133
                                  have l_177 : (1 : Int32).toInt = 1 := rfl
                                  refine ⟨fun c_178 => ?_, fun c_178 => ?_⟩
                                  · have d_179 := iNe c_178
                                    unfold fModel_isKept_266
                                    exact (hp _ (Or.inr rfl))
                                  · have d_180 := iEq c_178
                                    exfalso; omega
set_option maxHeartbeats 4000000 in
set_option maxRecDepth 20000 in
theorem y_Model_monthsOf {D : va_G} {cA : FieldType → ClassId} {b : Nat} {E : State → Prop} {R : qRg} {n : Nat} {sh : Nat → qC} {Rf : Nat → Nat → Option Nat} {I0 : Nat → Nat → Int32} {L0 : Nat → Nat → Int64} {post : Option Value → qS → Prop} {p0 : Int32} (hok : q_ok (qGG D cA b E)) (hR : RI R I0) (hp : ∀ (r : Int32) , post (some (.int r)) (n, sh, Rf, I0, L0)) : Ev (qGG D cA b E) mModel_monthsOf 0 (0, 0) 0 (lv_args 0 [.int p0]) [] (n, sh, Rf, I0, L0) post := by
  refine sModel_monthsOf_0 n sh Rf I0 L0 post p0 hok  ?_
  unfold fModel_monthsOf_0
  exact (hp _ )
set_option maxHeartbeats 4000000 in
set_option maxRecDepth 20000 in
theorem y_Model_least {D : va_G} {cA : FieldType → ClassId} {b : Nat} {E : State → Prop} {R : qRg} {n : Nat} {sh : Nat → qC} {Rf : Nat → Nat → Option Nat} {I0 : Nat → Nat → Int32} {L0 : Nat → Nat → Int64} {post : Option Value → qS → Prop} {p0 : Int32} {p1 : Int64} (hok : q_ok (qGG D cA b E)) (hR : RI R I0) (hp : ∀ (r : Int32) , post (some (.int r)) (n, sh, Rf, I0, L0)) : Ev (qGG D cA b E) mModel_least 0 (0, 0) 0 (lv_args 0 [.int p0, .long p1]) [] (n, sh, Rf, I0, L0) post := by
  refine sModel_least_0 n sh Rf I0 L0 post p0 p1 hok  ?_
  unfold fModel_least_0
  have l_1 : (0 : Int32).toInt = 0 := rfl
  refine ⟨fun c_2 => ?_, fun c_2 => ?_⟩
  · have d_3 := iLe c_2
    exact (hp _ )
  · have d_4 := iNle c_2
    exact (hp _ )
set_option maxHeartbeats 4000000 in
set_option maxRecDepth 20000 in
theorem y_Model_isLetter {D : va_G} {cA : FieldType → ClassId} {b : Nat} {E : State → Prop} {R : qRg} {n : Nat} {sh : Nat → qC} {Rf : Nat → Nat → Option Nat} {I0 : Nat → Nat → Int32} {L0 : Nat → Nat → Int64} {post : Option Value → qS → Prop} {p0 : Int32} (hok : q_ok (qGG D cA b E)) (hR : RI R I0) (hp : ∀ (r : Int32) , (Bz r) → (Im (r.toInt ≠ 0) (97 ≤ p0.toInt ∧ p0.toInt ≤ 122)) → post (some (.int r)) (n, sh, Rf, I0, L0)) : Ev (qGG D cA b E) mModel_isLetter 0 (0, 0) 0 (lv_args 0 [.int p0]) [] (n, sh, Rf, I0, L0) post := by
  refine sModel_isLetter_0 n sh Rf I0 L0 post p0 hok  ?_
  unfold fModel_isLetter_0
  have l_1 : (97 : Int32).toInt = 97 := rfl
  refine ⟨fun c_2 => ?_, fun c_2 => ?_⟩
  · have d_3 := iLt c_2
    have l_4 : (0 : Int32).toInt = 0 := rfl
    exact (hp _ (Or.inl rfl) (by intro _; omega))
  · have d_5 := iNlt c_2
    have l_6 : (122 : Int32).toInt = 122 := rfl
    refine ⟨fun c_7 => ?_, fun c_7 => ?_⟩
    · have d_8 := iLt c_7
      have l_9 : (0 : Int32).toInt = 0 := rfl
      exact (hp _ (Or.inl rfl) (by intro _; omega))
    · have d_10 := iNlt c_7
      have l_11 : (1 : Int32).toInt = 1 := rfl
      exact (hp _ (Or.inr rfl) (by intro _; omega))
set_option maxHeartbeats 4000000 in
set_option maxRecDepth 20000 in
theorem y_Model_isDigit {D : va_G} {cA : FieldType → ClassId} {b : Nat} {E : State → Prop} {R : qRg} {n : Nat} {sh : Nat → qC} {Rf : Nat → Nat → Option Nat} {I0 : Nat → Nat → Int32} {L0 : Nat → Nat → Int64} {post : Option Value → qS → Prop} {p0 : Int32} (hok : q_ok (qGG D cA b E)) (hR : RI R I0) (hp : ∀ (r : Int32) , (Bz r) → (Im (r.toInt ≠ 0) (48 ≤ p0.toInt ∧ p0.toInt ≤ 57)) → (Im (r.toInt = 0) (p0.toInt < 48 ∨ 57 < p0.toInt)) → post (some (.int r)) (n, sh, Rf, I0, L0)) : Ev (qGG D cA b E) mModel_isDigit 0 (0, 0) 0 (lv_args 0 [.int p0]) [] (n, sh, Rf, I0, L0) post := by
  refine sModel_isDigit_0 n sh Rf I0 L0 post p0 hok  ?_
  unfold fModel_isDigit_0
  have l_1 : (48 : Int32).toInt = 48 := rfl
  refine ⟨fun c_2 => ?_, fun c_2 => ?_⟩
  · have d_3 := iLt c_2
    have l_4 : (0 : Int32).toInt = 0 := rfl
    exact (hp _ (Or.inl rfl) (by intro _; omega) (by intro _; omega))
  · have d_5 := iNlt c_2
    have l_6 : (57 : Int32).toInt = 57 := rfl
    refine ⟨fun c_7 => ?_, fun c_7 => ?_⟩
    · have d_8 := iLt c_7
      have l_9 : (0 : Int32).toInt = 0 := rfl
      exact (hp _ (Or.inl rfl) (by intro _; omega) (by intro _; omega))
    · have d_10 := iNlt c_7
      have l_11 : (1 : Int32).toInt = 1 := rfl
      exact (hp _ (Or.inr rfl) (by intro _; omega) (by intro _; omega))
set_option maxHeartbeats 4000000 in
set_option maxRecDepth 20000 in
theorem y_Model_isPoint {D : va_G} {cA : FieldType → ClassId} {b : Nat} {E : State → Prop} {R : qRg} {n : Nat} {sh : Nat → qC} {Rf : Nat → Nat → Option Nat} {I0 : Nat → Nat → Int32} {L0 : Nat → Nat → Int64} {post : Option Value → qS → Prop} {p0 : Int32} (hok : q_ok (qGG D cA b E)) (hR : RI R I0) (hp : ∀ (r : Int32) , (Bz r) → (Im (r.toInt ≠ 0) (0 ≤ p0.toInt ∧ p0.toInt ≤ 15)) → post (some (.int r)) (n, sh, Rf, I0, L0)) : Ev (qGG D cA b E) mModel_isPoint 0 (0, 0) 0 (lv_args 0 [.int p0]) [] (n, sh, Rf, I0, L0) post := by
  refine sModel_isPoint_0 n sh Rf I0 L0 post p0 hok  ?_
  unfold fModel_isPoint_0
  have l_1 : (0 : Int32).toInt = 0 := rfl
  refine ⟨fun c_2 => ?_, fun c_2 => ?_⟩
  · have d_3 := iLt c_2
    exact (hp _ (Or.inl rfl) (by intro _; omega))
  · have d_4 := iNlt c_2
    have l_5 : (16 : Int32).toInt = 16 := rfl
    refine ⟨fun c_6 => ?_, fun c_6 => ?_⟩
    · have d_7 := iLe c_6
      exact (hp _ (Or.inl rfl) (by intro _; omega))
    · have d_8 := iNle c_6
      have l_9 : (1 : Int32).toInt = 1 := rfl
      exact (hp _ (Or.inr rfl) (by intro _; omega))
set_option maxHeartbeats 4000000 in
set_option maxRecDepth 20000 in
theorem y_Model_isIn {D : va_G} {cA : FieldType → ClassId} {b : Nat} {E : State → Prop} {R : qRg} {n : Nat} {sh : Nat → qC} {Rf : Nat → Nat → Option Nat} {I0 : Nat → Nat → Int32} {L0 : Nat → Nat → Int64} {post : Option Value → qS → Prop} {p0 : Int32} {p1 : Int32} {p2 : Int32} (hok : q_ok (qGG D cA b E)) (hR : RI R I0) (hp : ∀ (r : Int32) , (Bz r) → (Im (r.toInt ≠ 0) (p1.toInt ≤ p0.toInt ∧ p0.toInt ≤ p2.toInt)) → (r = aIn p0 p1 p2) → post (some (.int r)) (n, sh, Rf, I0, L0)) : Ev (qGG D cA b E) mModel_isIn 0 (0, 0) 0 (lv_args 0 [.int p0, .int p1, .int p2]) [] (n, sh, Rf, I0, L0) post := by
  refine sModel_isIn_0 n sh Rf I0 L0 post p0 p1 p2 hok  ?_
  unfold fModel_isIn_0
  refine ⟨fun c_1 => ?_, fun c_1 => ?_⟩
  · have d_2 := iLt c_1
    have l_3 : (0 : Int32).toInt = 0 := rfl
    exact (hp _ (Or.inl rfl) (by intro _; omega) (by simp [aIn, *] <;> (intro h; exact absurd h (Int32.not_lt.mpr (by assumption)))))
  · have d_4 := iNlt c_1
    refine ⟨fun c_5 => ?_, fun c_5 => ?_⟩
    · have d_6 := iLt c_5
      have l_7 : (0 : Int32).toInt = 0 := rfl
      exact (hp _ (Or.inl rfl) (by intro _; omega) (by simp [aIn, *] <;> (intro h; exact absurd h (Int32.not_lt.mpr (by assumption)))))
    · have d_8 := iNlt c_5
      have l_9 : (1 : Int32).toInt = 1 := rfl
      exact (hp _ (Or.inr rfl) (by intro _; omega) (by simp [aIn, *] <;> (intro h; exact absurd h (Int32.not_lt.mpr (by assumption)))))
set_option maxHeartbeats 4000000 in
set_option maxRecDepth 20000 in
theorem y_Model_isMonth {D : va_G} {cA : FieldType → ClassId} {b : Nat} {E : State → Prop} {R : qRg} {n : Nat} {sh : Nat → qC} {Rf : Nat → Nat → Option Nat} {I0 : Nat → Nat → Int32} {L0 : Nat → Nat → Int64} {post : Option Value → qS → Prop} {p0 : Int32} (hok : q_ok (qGG D cA b E)) (hR : RI R I0) (hp : ∀ (r : Int32) , (Bz r) → post (some (.int r)) (n, sh, Rf, I0, L0)) : Ev (qGG D cA b E) mModel_isMonth 1 (0, 0) 0 (lv_args 0 [.int p0]) [] (n, sh, Rf, I0, L0) post := by
  refine sModel_isMonth_0 n sh Rf I0 L0 post p0 hok  ?_
  unfold fModel_isMonth_0
  have l_1 : (0 : Int32).toInt = 0 := rfl
  have l_2 : (239 : Int32).toInt = 239 := rfl
  refine y_Model_isIn hok hR (fun r_3 u_4 u_5 u_6 => ⟨r_3, I0, L0, rfl, rfl, ?_⟩)
  have b_7 : 0 ≤ r_3.toInt ∧ r_3.toInt ≤ 1 := u_4.rg
  exact ⟨u_4, (hp _ (u_4))⟩
set_option maxHeartbeats 4000000 in
set_option maxRecDepth 20000 in
theorem y_Model_atLeastOne {D : va_G} {cA : FieldType → ClassId} {b : Nat} {E : State → Prop} {R : qRg} {n : Nat} {sh : Nat → qC} {Rf : Nat → Nat → Option Nat} {I0 : Nat → Nat → Int32} {L0 : Nat → Nat → Int64} {post : Option Value → qS → Prop} {p0 : Int32} (hok : q_ok (qGG D cA b E)) (hR : RI R I0) (hp : ∀ (r : Int32) , (1 ≤ r.toInt) → post (some (.int r)) (n, sh, Rf, I0, L0)) : Ev (qGG D cA b E) mModel_atLeastOne 0 (0, 0) 0 (lv_args 0 [.int p0]) [] (n, sh, Rf, I0, L0) post := by
  refine sModel_atLeastOne_0 n sh Rf I0 L0 post p0 hok  ?_
  unfold fModel_atLeastOne_0
  have l_1 : (1 : Int32).toInt = 1 := rfl
  refine ⟨fun c_2 => ?_, fun c_2 => ?_⟩
  · have d_3 := iLe c_2
    exact (hp _ (by first | omega | (intro h; omega) | exact Or.inl rfl | exact Or.inr rfl))
  · have d_4 := iNle c_2
    exact (hp _ (by first | omega | (intro h; omega) | exact Or.inl rfl | exact Or.inr rfl))
set_option maxHeartbeats 4000000 in
set_option maxRecDepth 20000 in
theorem y_Model_isGood {D : va_G} {cA : FieldType → ClassId} {b : Nat} {E : State → Prop} {R : qRg} {o n : Nat} {sh : Nat → qC} {Rf : Nat → Nat → Option Nat} {I0 : Nat → Nat → Int32} {L0 : Nat → Nat → Int64} {post : Option Value → qS → Prop} (hok : q_ok (qGG D cA b E)) (hw : WfModel (qGG D cA b E) n sh Rf o) (ra : RAModel R o) (hR : RI R I0) (hp : ∀ (r : Int32) , (Bz r) → (Im (r.toInt ≠ 0) ((I0 o 4).toInt = 0)) → (Im (r.toInt = 0) ((I0 o 4).toInt ≠ 0)) → post (some (.int r)) (n, sh, Rf, I0, L0)) : Ev (qGG D cA b E) mModel_isGood 0 (0, 0) 0 (lv_args 0 [.ref o]) [] (n, sh, Rf, I0, L0) post := by
  refine sModel_isGood_0 o n sh Rf I0 L0 post  hok hw ?_
  unfold fModel_isGood_0
  have g_1 : (0 : Int) ≤ (I0 o 4).toInt ∧ (I0 o 4).toInt ≤ 5 := hR.at0 ra 4 (by decide)
  have l_2 : (0 : Int32).toInt = 0 := rfl
  refine ⟨fun c_3 => ?_, fun c_3 => ?_⟩
  · have d_4 := iNe c_3
    exact (hp _ (Or.inl rfl) (by intro _; omega) (by intro _; omega))
  · have d_5 := iEq c_3
    have l_6 : (1 : Int32).toInt = 1 := rfl
    exact (hp _ (Or.inr rfl) (by intro _; omega) (by intro _; omega))
set_option maxHeartbeats 4000000 in
set_option maxRecDepth 20000 in
theorem y_Model_forts {D : va_G} {cA : FieldType → ClassId} {b : Nat} {E : State → Prop} {R : qRg} {o n : Nat} {sh : Nat → qC} {Rf : Nat → Nat → Option Nat} {I0 : Nat → Nat → Int32} {L0 : Nat → Nat → Int64} {post : Option Value → qS → Prop} (hok : q_ok (qGG D cA b E)) (hw : WfModel (qGG D cA b E) n sh Rf o) (ra : RAModel R o) (hR : RI R I0) (hp : ∀ (r : Int32) , (((0 : Int) ≤ r.toInt ∧ r.toInt ≤ 3)) → post (some (.int r)) (n, sh, Rf, I0, L0)) : Ev (qGG D cA b E) mModel_forts 0 (0, 0) 0 (lv_args 0 [.ref o]) [] (n, sh, Rf, I0, L0) post := by
  refine sModel_forts_0 o n sh Rf I0 L0 post  hok hw ?_
  unfold fModel_forts_0
  have g_1 : (0 : Int) ≤ (I0 o 34).toInt ∧ (I0 o 34).toInt ≤ 1 := hR.at0 ra 34 (by decide)
  refine ⟨tIn (by omega) (by omega), ?_⟩
  have g_2 : (0 : Int) ≤ (I0 (o + 7) ((I0 o 34) : Int32).toNatClampNeg).toInt ∧ (I0 (o + 7) ((I0 o 34) : Int32).toNatClampNeg).toInt ≤ 3 := hR.at ra 7 _ (by decide)
  exact (hp _ (by first | omega | (intro h; omega) | exact Or.inl rfl | exact Or.inr rfl))
set_option maxHeartbeats 4000000 in
set_option maxRecDepth 20000 in
theorem y_Model_pans {D : va_G} {cA : FieldType → ClassId} {b : Nat} {E : State → Prop} {R : qRg} {o n : Nat} {sh : Nat → qC} {Rf : Nat → Nat → Option Nat} {I0 : Nat → Nat → Int32} {L0 : Nat → Nat → Int64} {post : Option Value → qS → Prop} (hok : q_ok (qGG D cA b E)) (hw : WfModel (qGG D cA b E) n sh Rf o) (ra : RAModel R o) (hR : RI R I0) (hp : ∀ (r : Int32) , (((0 : Int) ≤ r.toInt ∧ r.toInt ≤ 3)) → post (some (.int r)) (n, sh, Rf, I0, L0)) : Ev (qGG D cA b E) mModel_pans 0 (0, 0) 0 (lv_args 0 [.ref o]) [] (n, sh, Rf, I0, L0) post := by
  refine sModel_pans_0 o n sh Rf I0 L0 post  hok hw ?_
  unfold fModel_pans_0
  have g_1 : (0 : Int) ≤ (I0 o 34).toInt ∧ (I0 o 34).toInt ≤ 1 := hR.at0 ra 34 (by decide)
  refine ⟨tIn (by omega) (by omega), ?_⟩
  have g_2 : (0 : Int) ≤ (I0 (o + 8) ((I0 o 34) : Int32).toNatClampNeg).toInt ∧ (I0 (o + 8) ((I0 o 34) : Int32).toNatClampNeg).toInt ≤ 3 := hR.at ra 8 _ (by decide)
  exact (hp _ (by first | omega | (intro h; omega) | exact Or.inl rfl | exact Or.inr rfl))
set_option maxHeartbeats 4000000 in
set_option maxRecDepth 20000 in
theorem y_Model_towns {D : va_G} {cA : FieldType → ClassId} {b : Nat} {E : State → Prop} {R : qRg} {o n : Nat} {sh : Nat → qC} {Rf : Nat → Nat → Option Nat} {I0 : Nat → Nat → Int32} {L0 : Nat → Nat → Int64} {post : Option Value → qS → Prop} (hok : q_ok (qGG D cA b E)) (hw : WfModel (qGG D cA b E) n sh Rf o) (ra : RAModel R o) (hR : RI R I0) (hp : ∀ (r : Int32) , (((0 : Int) ≤ r.toInt ∧ r.toInt ≤ 5)) → post (some (.int r)) (n, sh, Rf, I0, L0)) : Ev (qGG D cA b E) mModel_towns 0 (0, 0) 0 (lv_args 0 [.ref o]) [] (n, sh, Rf, I0, L0) post := by
  refine sModel_towns_0 o n sh Rf I0 L0 post  hok hw ?_
  unfold fModel_towns_0
  have g_1 : (0 : Int) ≤ (I0 o 34).toInt ∧ (I0 o 34).toInt ≤ 1 := hR.at0 ra 34 (by decide)
  refine ⟨tIn (by omega) (by omega), ?_⟩
  have g_2 : (0 : Int) ≤ (I0 (o + 9) ((I0 o 34) : Int32).toNatClampNeg).toInt ∧ (I0 (o + 9) ((I0 o 34) : Int32).toNatClampNeg).toInt ≤ 5 := hR.at ra 9 _ (by decide)
  exact (hp _ (by first | omega | (intro h; omega) | exact Or.inl rfl | exact Or.inr rfl))
set_option maxHeartbeats 4000000 in
set_option maxRecDepth 20000 in
theorem y_Model_fortAt {D : va_G} {cA : FieldType → ClassId} {b : Nat} {E : State → Prop} {R : qRg} {o n : Nat} {sh : Nat → qC} {Rf : Nat → Nat → Option Nat} {I0 : Nat → Nat → Int32} {L0 : Nat → Nat → Int64} {post : Option Value → qS → Prop} {p1 : Int32} (hok : q_ok (qGG D cA b E)) (hw : WfModel (qGG D cA b E) n sh Rf o) (ra : RAModel R o) (hq0 : (0 : Int) ≤ p1.toInt ∧ p1.toInt ≤ 2) (hR : RI R I0) (hp : ∀ (r : Int32) , (((0 : Int) ≤ r.toInt ∧ r.toInt ≤ 15)) → post (some (.int r)) (n, sh, Rf, I0, L0)) : Ev (qGG D cA b E) mModel_fortAt 0 (0, 0) 0 (lv_args 0 [.ref o, .int p1]) [] (n, sh, Rf, I0, L0) post := by
  refine sModel_fortAt_0 o n sh Rf I0 L0 post p1 hok hw ?_
  unfold fModel_fortAt_0
  have g_1 : (0 : Int) ≤ (I0 o 34).toInt ∧ (I0 o 34).toInt ≤ 1 := hR.at0 ra 34 (by decide)
  have l_2 : (3 : Int32).toInt = 3 := rfl
  have a_3 : (3 * (I0 o 34)).toInt = 3 * (I0 o 34).toInt := tMulL rfl (by omega) (by omega)
  have a_4 : ((3 * (I0 o 34)) + p1).toInt = (3 * (I0 o 34)).toInt + p1.toInt := tAdd (by omega) (by omega)
  refine ⟨tIn (by omega) (by omega), ?_⟩
  have g_5 : (0 : Int) ≤ (I0 (o + 13) (((3 * (I0 o 34)) + p1) : Int32).toNatClampNeg).toInt ∧ (I0 (o + 13) (((3 * (I0 o 34)) + p1) : Int32).toNatClampNeg).toInt ≤ 15 := hR.at ra 13 _ (by decide)
  exact (hp _ (by first | omega | (intro h; omega) | exact Or.inl rfl | exact Or.inr rfl))
set_option maxHeartbeats 4000000 in
set_option maxRecDepth 20000 in
theorem y_Model_panAt {D : va_G} {cA : FieldType → ClassId} {b : Nat} {E : State → Prop} {R : qRg} {o n : Nat} {sh : Nat → qC} {Rf : Nat → Nat → Option Nat} {I0 : Nat → Nat → Int32} {L0 : Nat → Nat → Int64} {post : Option Value → qS → Prop} {p1 : Int32} (hok : q_ok (qGG D cA b E)) (hw : WfModel (qGG D cA b E) n sh Rf o) (ra : RAModel R o) (hq0 : (0 : Int) ≤ p1.toInt ∧ p1.toInt ≤ 2) (hR : RI R I0) (hp : ∀ (r : Int32) , (((0 : Int) ≤ r.toInt ∧ r.toInt ≤ 15)) → post (some (.int r)) (n, sh, Rf, I0, L0)) : Ev (qGG D cA b E) mModel_panAt 0 (0, 0) 0 (lv_args 0 [.ref o, .int p1]) [] (n, sh, Rf, I0, L0) post := by
  refine sModel_panAt_0 o n sh Rf I0 L0 post p1 hok hw ?_
  unfold fModel_panAt_0
  have g_1 : (0 : Int) ≤ (I0 o 34).toInt ∧ (I0 o 34).toInt ≤ 1 := hR.at0 ra 34 (by decide)
  have l_2 : (3 : Int32).toInt = 3 := rfl
  have a_3 : (3 * (I0 o 34)).toInt = 3 * (I0 o 34).toInt := tMulL rfl (by omega) (by omega)
  have a_4 : ((3 * (I0 o 34)) + p1).toInt = (3 * (I0 o 34)).toInt + p1.toInt := tAdd (by omega) (by omega)
  refine ⟨tIn (by omega) (by omega), ?_⟩
  have g_5 : (0 : Int) ≤ (I0 (o + 16) (((3 * (I0 o 34)) + p1) : Int32).toNatClampNeg).toInt ∧ (I0 (o + 16) (((3 * (I0 o 34)) + p1) : Int32).toNatClampNeg).toInt ≤ 15 := hR.at ra 16 _ (by decide)
  exact (hp _ (by first | omega | (intro h; omega) | exact Or.inl rfl | exact Or.inr rfl))
set_option maxHeartbeats 4000000 in
set_option maxRecDepth 20000 in
theorem y_Model_townAt {D : va_G} {cA : FieldType → ClassId} {b : Nat} {E : State → Prop} {R : qRg} {o n : Nat} {sh : Nat → qC} {Rf : Nat → Nat → Option Nat} {I0 : Nat → Nat → Int32} {L0 : Nat → Nat → Int64} {post : Option Value → qS → Prop} {p1 : Int32} (hok : q_ok (qGG D cA b E)) (hw : WfModel (qGG D cA b E) n sh Rf o) (ra : RAModel R o) (hq0 : (0 : Int) ≤ p1.toInt ∧ p1.toInt ≤ 4) (hR : RI R I0) (hp : ∀ (r : Int32) , (((0 : Int) ≤ r.toInt ∧ r.toInt ≤ 15)) → post (some (.int r)) (n, sh, Rf, I0, L0)) : Ev (qGG D cA b E) mModel_townAt 0 (0, 0) 0 (lv_args 0 [.ref o, .int p1]) [] (n, sh, Rf, I0, L0) post := by
  refine sModel_townAt_0 o n sh Rf I0 L0 post p1 hok hw ?_
  unfold fModel_townAt_0
  have g_1 : (0 : Int) ≤ (I0 o 34).toInt ∧ (I0 o 34).toInt ≤ 1 := hR.at0 ra 34 (by decide)
  have l_2 : (5 : Int32).toInt = 5 := rfl
  have a_3 : (5 * (I0 o 34)).toInt = 5 * (I0 o 34).toInt := tMulL rfl (by omega) (by omega)
  have a_4 : ((5 * (I0 o 34)) + p1).toInt = (5 * (I0 o 34)).toInt + p1.toInt := tAdd (by omega) (by omega)
  refine ⟨tIn (by omega) (by omega), ?_⟩
  have g_5 : (0 : Int) ≤ (I0 (o + 19) (((5 * (I0 o 34)) + p1) : Int32).toNatClampNeg).toInt ∧ (I0 (o + 19) (((5 * (I0 o 34)) + p1) : Int32).toNatClampNeg).toInt ≤ 15 := hR.at ra 19 _ (by decide)
  exact (hp _ (by first | omega | (intro h; omega) | exact Or.inl rfl | exact Or.inr rfl))
