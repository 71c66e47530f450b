/-! The class's methods once more, with what they leave of the long rows: l6b. By program (lrun.py). -/
section RR
variable {D : va_G} {cA : FieldType → ClassId} {b : Nat} {E : State → Prop} {R : qRg} {o n : Nat} {sh : Nat → qC} {Rf : Nat → Nat → Option Nat} {x1 : Nat}
/-- what a reading of a REFORM's part does, from a nesting of lo on -/
def RdCl (D : va_G) (cA : FieldType → ClassId) (b : Nat) (E : State → Prop) (R : qRg) (o n : Nat) (sh : Nat → qC) (Rf : Nat → Nat → Option Nat) (x1 : Nat) (m : qM) (d : Nat) (lo : Int) : Prop := ∀ (J : Nat → Nat → Int32) (K : Nat → Nat → Int64) (post : Option Value → qS → Prop) (q : Int32), RI R J → TokOK J x1 → lo ≤ q.toInt → q.toInt ≤ 7 → (∀ I' L', RI R I' → Fm (fun c => (o ≤ c ∧ c < o + 5) ∨ c = x1) J I' → (I' o 6).toInt = (J o 6).toInt → (I' o 8).toInt = (J o 8).toInt → (FmL (fun c => False) K L') → post none (n, sh, Rf, I', L')) → Ev (qGG D cA b E) m d (0, 0) 0 (lv_args 0 [.ref o, .ref x1, .int q]) [] (n, sh, Rf, J, K) post
theorem RdCl.deep {m : qM} {d d' : Nat} {lo : Int} (h : RdCl D cA b E R o n sh Rf x1 m d lo) (hd : d ≤ d') : RdCl D cA b E R o n sh Rf x1 m d' lo := fun J K post q h1 h2 h3 h4 h5 => ev_deep hd (h J K post q h1 h2 h3 h4 h5)
theorem RdCl.none {m : qM} {d : Nat} {lo : Int} (h : 7 < lo) : RdCl D cA b E R o n sh Rf x1 m d lo := fun J K post q h1 h2 h3 h4 h5 => absurd h4 (by omega)
/-- all of them, by nesting -/
theorem y_readsl (hok : q_ok (qGG D cA b E)) (hw : WfReform (qGG D cA b E) n sh Rf o) (ra : RAReform R o) (hw1 : WfTape (qGG D cA b E) n sh Rf x1) (ra1 : RATape R x1) (hs : o + 5 ≤ x1 ∨ x1 + 7 ≤ o) : ∀ (j : Nat) (lo : Int), 0 ≤ lo → lo + (j : Int) = 8 → RdCl D cA b E R o n sh Rf x1 mReform_readEither (6 * j + 11) lo ∧ RdCl D cA b E R o n sh Rf x1 mReform_readOne (6 * j + 9) lo := by
  intro j
  induction j with
  | zero => intro lo h0 hl; exact ⟨RdCl.none (by omega), RdCl.none (by omega)⟩
  | succ j ih =>
    intro lo h0 hl
    obtain ⟨hE, hO⟩ := ih (lo + 1) (by omega) (by omega)
    have u : RdCl D cA b E R o n sh Rf x1 mReform_readUnit (6 * j + 11 + 1) lo := fun J K post q a1 a2 a3 a4 a5 => y_Reform_readUnitl hok hw ra hw1 ra1 (by omega) hE hs h0 a3 a4 a2 a1 (fun I' L' r f k6 k8 z => a5 I' L' r f k6 k8 z)
    have t : RdCl D cA b E R o n sh Rf x1 mReform_readTerm (6 * j + 11 + 1 + 1) lo := fun J K post q a1 a2 a3 a4 a5 => y_Reform_readTerml hok hw ra hw1 ra1 (by omega) u hs h0 a3 a4 a2 a1 (fun I' L' r f k6 k8 z => a5 I' L' r f k6 k8 z)
    have m : RdCl D cA b E R o n sh Rf x1 mReform_readSum (6 * j + 11 + 1 + 1 + 1) lo := fun J K post q a1 a2 a3 a4 a5 => y_Reform_readSuml hok hw ra hw1 ra1 (by omega) t hs h0 a3 a4 a2 a1 (fun I' L' r f k6 k8 z => a5 I' L' r f k6 k8 z)
    have e : RdCl D cA b E R o n sh Rf x1 mReform_readOne (6 * j + 11 + 1 + 1 + 1 + 1) lo := fun J K post q a1 a2 a3 a4 a5 => y_Reform_readOnel hok hw ra hw1 ra1 (by omega) m (hO.deep (by omega)) hs h0 a3 a4 a2 a1 (fun I' L' r f k6 k8 z => a5 I' L' r f k6 k8 z)
    have B : RdCl D cA b E R o n sh Rf x1 mReform_readBoth (6 * j + 11 + 1 + 1 + 1 + 1 + 1) lo := fun J K post q a1 a2 a3 a4 a5 => y_Reform_readBothl hok hw ra hw1 ra1 (by omega) e hs h0 a3 a4 a2 a1 (fun I' L' r f k6 k8 z => a5 I' L' r f k6 k8 z)
    have A : RdCl D cA b E R o n sh Rf x1 mReform_readEither (6 * j + 11 + 1 + 1 + 1 + 1 + 1 + 1) lo := fun J K post q a1 a2 a3 a4 a5 => y_Reform_readEitherl hok hw ra hw1 ra1 (by omega) B hs h0 a3 a4 a2 a1 (fun I' L' r f k6 k8 z => a5 I' L' r f k6 k8 z)
    exact ⟨A.deep (by omega), e.deep (by omega)⟩
theorem y_Reform_readEither0l {I0 : Nat → Nat → Int32} {L0 : Nat → Nat → Int64} {post : Option Value → qS → Prop} (hok : q_ok (qGG D cA b E)) (hw : WfReform (qGG D cA b E) n sh Rf o) (ra : RAReform R o) (hw1 : WfTape (qGG D cA b E) n sh Rf x1) (ra1 : RATape R x1) (hs : o + 5 ≤ x1 ∨ x1 + 7 ≤ o) (ht : TokOK I0 x1) (hR : RI R I0) (hp : ∀ I' L', RI R I' → Fm (fun c => (o ≤ c ∧ c < o + 5) ∨ c = x1) I0 I' → (I' o 6).toInt = (I0 o 6).toInt → (I' o 8).toInt = (I0 o 8).toInt → (FmL (fun c => False) L0 L') → post none (n, sh, Rf, I', L')) : Ev (qGG D cA b E) mReform_readEither 100 (0, 0) 0 (lv_args 0 [.ref o, .ref x1, .int 0]) [] (n, sh, Rf, I0, L0) post :=
  (((y_readsl hok hw ra hw1 ra1 hs 8 0 (by omega) (by omega)).1).deep (by omega)) I0 L0 post 0 hR ht (by decide) (by decide) hp
end RR
set_option maxHeartbeats 4000000 in
set_option maxRecDepth 20000 in
theorem y_Reform_readLinel {D : va_G} {cA : FieldType → ClassId} {b : Nat} {E : State → Prop} {R : qRg} {o n : Nat} {sh : Nat → qC} {Rf : Nat → Nat → Option Nat} {I0 : Nat → Nat → Int32} {L0 : Nat → Nat → Int64} {post : Option Value → qS → Prop} {x1 : Nat} (hok : q_ok (qGG D cA b E)) (hw : WfReform (qGG D cA b E) n sh Rf o) (ra : RAReform R o) (hw1 : WfTape (qGG D cA b E) n sh Rf x1) (ra1 : RATape R x1) (hs0 : o + 5 ≤ x1 ∨ x1 + 7 ≤ o) (hq0 : TokOK I0 x1) (hR : RI R I0) (hp : ∀ (r : Int32) (I' : Nat → Nat → Int32) (L' : Nat → Nat → Int64), RI R I' → Fm (fun c => (o ≤ c ∧ c < o + 5) ∨ c = x1) I0 I' → (Bz r) → (FmL (fun c => False) L0 L') → post (some (.int r)) (n, sh, Rf, I', L')) : Ev (qGG D cA b E) mReform_readLine 101 (0, 0) 0 (lv_args 0 [.ref o, .ref x1]) [] (n, sh, Rf, I0, L0) post := by
  have hf : Fm (fun c => (o ≤ c ∧ c < o + 5) ∨ c = x1) I0 I0 := Fm.rf
  have g_1 : (0 : Int) ≤ (I0 o 6).toInt ∧ (I0 o 6).toInt ≤ 5 := hR.at0 ra 6 (by decide)
  have g_2 : (-1 : Int) ≤ (I0 o 8).toInt ∧ (I0 o 8).toInt ≤ 10 := hR.at0 ra 8 (by decide)
  refine sReform_readLine_0 o n sh Rf I0 L0 post x1 hok hw hw1 ?_
  unfold fReform_readLine_0
  have hl : FmL (fun c => False) L0 L0 := FmL.rf
  refine y_Reform_freeSlotl hok hw ra hw1 ra1 hR (fun r_3 u_4 u_5 => ⟨r_3, I0, L0, rfl, rfl, ?_⟩)
  refine fun I_6 e_7 => ?_
  have hR_8 : RI R I_6 := hR.up0 (k := 8) ra (by decide) (Or.inl rfl) e_7 (show (-1 : Int) ≤ r_3.toInt by omega) (show r_3.toInt ≤ (10 : Int) by omega)
  have hf_9 : Fm (fun c => (o ≤ c ∧ c < o + 5) ∨ c = x1) I0 I_6 := hf.set (by first | rfl | omega | (dsimp only; omega)) e_7
  have t_10 : (I_6 o 6).toInt = (I0 o 6).toInt := by rw [← e_7, q_u_k (by decide)]
  have t_11 : (I_6 o 8).toInt = r_3.toInt := by rw [← e_7, q_u_at]
  have k_12 : TokOK I_6 x1 := hq0.fr (by rw [← e_7]; exact q_u_ne (by omega)) (by rw [← e_7]; exact q_u_ne (by omega))
  have g_13 : (-1 : Int) ≤ (I_6 o 8).toInt ∧ (I_6 o 8).toInt ≤ 10 := hR_8.at0 ra 8 (by decide)
  have l_14 : (-1 : Int32).toInt = -1 := rfl
  refine ⟨fun c_15 => ?_, fun c_15 => ?_⟩
  · have d_16 := iNe c_15
    refine y_Tape_stepg hok hw1 ra1 hR_8 (fun I_21 L_22 hR_23 fr_24 u_18 gn_19 ln_20 => ⟨I_21, L_22, rfl, rfl, ?_⟩)
    replace hl := hl.call ln_20 (fun c hc => by first | exact hc | exact False.elim hc | (dsimp only at hc ⊢; omega) | omega)
    clear gn_19
    have hf_25 : Fm (fun c => (o ≤ c ∧ c < o + 5) ∨ c = x1) I0 I_21 := hf_9.call fr_24 (fun c hc => by first | exact hc | (dsimp only at hc ⊢; omega) | omega)
    have t_26 : (I_21 o 6).toInt = (I_6 o 6).toInt := by rw [fr_24 o (by first | omega | (dsimp only; omega))]
    have t_27 : (I_21 o 8).toInt = (I_6 o 8).toInt := by rw [fr_24 o (by first | omega | (dsimp only; omega))]
    have k_28 : TokOK I_21 x1 := k_12.fr (fr_24 _ (by first | omega | (dsimp only; omega))) (fr_24 _ (by first | omega | (dsimp only; omega)))
    have g_29 : (-1 : Int) ≤ (I_21 o 8).toInt ∧ (I_21 o 8).toInt ≤ 10 := hR_23.at0 ra 8 (by decide)
    have g_30 : (0 : Int) ≤ (I_21 o 4).toInt ∧ (I_21 o 4).toInt ≤ 700 := hR_23.at0 ra 4 (by decide)
    refine ⟨tIn (by omega) (by omega), fun I_31 e_32 => ?_⟩
    have hR_33 : RI R I_31 := hR_23.up ra 2 (by decide) (Or.inl rfl) e_32 (show (0 : Int) ≤ (I_21 o 4).toInt by omega) (show (I_21 o 4).toInt ≤ (700 : Int) by omega)
    have hf_34 : Fm (fun c => (o ≤ c ∧ c < o + 5) ∨ c = x1) I0 I_31 := hf_25.set (by first | rfl | omega | (dsimp only; omega)) e_32
    have t_35 : (I_31 o 6).toInt = (I_21 o 6).toInt := by rw [← e_32, q_u_ne (by omega)]
    have t_36 : (I_31 o 8).toInt = (I_21 o 8).toInt := by rw [← e_32, q_u_ne (by omega)]
    have t_37 : (I_31 o 4).toInt = (I_21 o 4).toInt := by rw [← e_32, q_u_ne (by omega)]
    have k_38 : TokOK I_31 x1 := k_28.fr (by rw [← e_32]; exact q_u_ne (by omega)) (by rw [← e_32]; exact q_u_ne (by omega))
    have l_44 : (0 : Int32).toInt = 0 := rfl
    refine y_Reform_readEither0l hok hw ra hw1 ra1 (by omega) k_38 hR_33 (fun I_39 L_40 hR_41 fr_42 k6_46 k8_47 lz_45 => ⟨I_39, L_40, rfl, rfl, ?_⟩)
    replace hl := hl.call lz_45 (fun c hc => False.elim hc)
    have hf_43 : Fm (fun c => (o ≤ c ∧ c < o + 5) ∨ c = x1) I0 I_39 := hf_34.call fr_42 (fun c hc => hc)
    have k_48 : TokOK I_39 x1 := k_38.fr (fr_42 _ (by first | omega | (dsimp only; omega))) (fr_42 _ (by first | omega | (dsimp only; omega)))
    have g_49 : (-1 : Int) ≤ (I_39 o 8).toInt ∧ (I_39 o 8).toInt ≤ 10 := hR_41.at0 ra 8 (by decide)
    have g_50 : (0 : Int) ≤ (I_39 o 4).toInt ∧ (I_39 o 4).toInt ≤ 700 := hR_41.at0 ra 4 (by decide)
    refine ⟨tIn (by omega) (by omega), fun I_51 e_52 => ?_⟩
    have hR_53 : RI R I_51 := hR_41.up ra 3 (by decide) (Or.inl rfl) e_52 (show (0 : Int) ≤ (I_39 o 4).toInt by omega) (show (I_39 o 4).toInt ≤ (700 : Int) by omega)
    have hf_54 : Fm (fun c => (o ≤ c ∧ c < o + 5) ∨ c = x1) I0 I_51 := hf_43.set (by first | rfl | omega | (dsimp only; omega)) e_52
    have t_55 : (I_51 o 6).toInt = (I_39 o 6).toInt := by rw [← e_52, q_u_ne (by omega)]
    have t_56 : (I_51 o 8).toInt = (I_39 o 8).toInt := by rw [← e_52, q_u_ne (by omega)]
    have t_57 : (I_51 o 4).toInt = (I_39 o 4).toInt := by rw [← e_52, q_u_ne (by omega)]
    have k_58 : TokOK I_51 x1 := k_48.fr (by rw [← e_52]; exact q_u_ne (by omega)) (by rw [← e_52]; exact q_u_ne (by omega))
    have g_59 : (-1 : Int) ≤ (I_51 o 8).toInt ∧ (I_51 o 8).toInt ≤ 10 := hR_53.at0 ra 8 (by decide)
    have l_60 : (6 : Int32).toInt = 6 := rfl
    refine ⟨fun c_61 => ?_, fun c_61 => ?_⟩
    · have d_62 := iLt c_61
      refine y_Tape_closeLineg hok hw1 ra1 hR_53 (fun r_63 I_69 L_70 hR_71 fr_72 u_64 u_65 u_66 gn_67 ln_68 => ⟨r_63, I_69, L_70, rfl, rfl, ?_⟩)
      replace hl := hl.call ln_68 (fun c hc => by first | exact hc | exact False.elim hc | (dsimp only at hc ⊢; omega) | omega)
      clear gn_67
      have hf_73 : Fm (fun c => (o ≤ c ∧ c < o + 5) ∨ c = x1) I0 I_69 := hf_54.call fr_72 (fun c hc => by first | exact hc | (dsimp only at hc ⊢; omega) | omega)
      have t_74 : (I_69 o 6).toInt = (I_51 o 6).toInt := by rw [fr_72 o (by first | omega | (dsimp only; omega))]
      have t_75 : (I_69 o 8).toInt = (I_51 o 8).toInt := by rw [fr_72 o (by first | omega | (dsimp only; omega))]
      have t_76 : (I_69 o 4).toInt = (I_51 o 4).toInt := by rw [fr_72 o (by first | omega | (dsimp only; omega))]
      have k_77 : TokOK I_69 x1 := k_58.fr (fr_72 _ (by first | omega | (dsimp only; omega))) (fr_72 _ (by first | omega | (dsimp only; omega)))
      have b_78 : 0 ≤ r_63.toInt ∧ r_63.toInt ≤ 1 := u_64.rg
      exact ⟨u_64, (hp _ _ _ hR_71 hf_73 (u_64) hl)⟩
    · have d_79 := iNlt c_61
      have g_80 : (0 : Int) ≤ (I_51 o 6).toInt ∧ (I_51 o 6).toInt ≤ 5 := hR_53.at0 ra 6 (by decide)
      have l_81 : (1 : Int32).toInt = 1 := rfl
      have a_82 : ((I_51 o 6) + 1).toInt = (I_51 o 6).toInt + (1 : Int32).toInt := tAdd (by omega) (by omega)
      refine fun I_83 e_84 => ?_
      have hR_85 : RI R I_83 := hR_53.up0 (k := 6) ra (by decide) (Or.inl rfl) e_84 (show (0 : Int) ≤ ((I_51 o 6) + 1).toInt by omega) (show ((I_51 o 6) + 1).toInt ≤ (5 : Int) by omega)
      have hf_86 : Fm (fun c => (o ≤ c ∧ c < o + 5) ∨ c = x1) I0 I_83 := hf_54.set (by first | rfl | omega | (dsimp only; omega)) e_84
      have t_87 : (I_83 o 6).toInt = ((I_51 o 6) + 1).toInt := by rw [← e_84, q_u_at]
      have t_88 : (I_83 o 8).toInt = (I_51 o 8).toInt := by rw [← e_84, q_u_k (by decide)]
      have t_89 : (I_83 o 4).toInt = (I_51 o 4).toInt := by rw [← e_84, q_u_k (by decide)]
      have k_90 : TokOK I_83 x1 := k_58.fr (by rw [← e_84]; exact q_u_ne (by omega)) (by rw [← e_84]; exact q_u_ne (by omega))
      refine y_Tape_closeLineg hok hw1 ra1 hR_85 (fun r_91 I_97 L_98 hR_99 fr_100 u_92 u_93 u_94 gn_95 ln_96 => ⟨r_91, I_97, L_98, rfl, rfl, ?_⟩)
      replace hl := hl.call ln_96 (fun c hc => by first | exact hc | exact False.elim hc | (dsimp only at hc ⊢; omega) | omega)
      clear gn_95
      have hf_101 : Fm (fun c => (o ≤ c ∧ c < o + 5) ∨ c = x1) I0 I_97 := hf_86.call fr_100 (fun c hc => by first | exact hc | (dsimp only at hc ⊢; omega) | omega)
      have t_102 : (I_97 o 6).toInt = (I_83 o 6).toInt := by rw [fr_100 o (by first | omega | (dsimp only; omega))]
      have t_103 : (I_97 o 8).toInt = (I_83 o 8).toInt := by rw [fr_100 o (by first | omega | (dsimp only; omega))]
      have t_104 : (I_97 o 4).toInt = (I_83 o 4).toInt := by rw [fr_100 o (by first | omega | (dsimp only; omega))]
      have k_105 : TokOK I_97 x1 := k_90.fr (fr_100 _ (by first | omega | (dsimp only; omega))) (fr_100 _ (by first | omega | (dsimp only; omega)))
      have b_106 : 0 ≤ r_91.toInt ∧ r_91.toInt ≤ 1 := u_92.rg
      exact ⟨u_92, (hp _ _ _ hR_99 hf_101 (u_92) hl)⟩
  · have d_107 := iEq c_15
    have l_108 : (2 : Int32).toInt = 2 := rfl
    refine y_Tape_refuseg hok hw1 ra1 (by first | omega | (intro h; omega) | exact Or.inl rfl | exact Or.inr rfl) hR_8 (fun I_114 L_115 hR_116 fr_117 u_110 u_111 gn_112 ln_113 => ⟨I_114, L_115, rfl, rfl, ?_⟩)
    replace hl := hl.call ln_113 (fun c hc => by first | exact hc | exact False.elim hc | (dsimp only at hc ⊢; omega) | omega)
    clear gn_112
    have hf_118 : Fm (fun c => (o ≤ c ∧ c < o + 5) ∨ c = x1) I0 I_114 := hf_9.call fr_117 (fun c hc => by first | exact hc | (dsimp only at hc ⊢; omega) | omega)
    have t_119 : (I_114 o 6).toInt = (I_6 o 6).toInt := by rw [fr_117 o (by first | omega | (dsimp only; omega))]
    have t_120 : (I_114 o 8).toInt = (I_6 o 8).toInt := by rw [fr_117 o (by first | omega | (dsimp only; omega))]
    have k_121 : TokOK I_114 x1 := k_12.fr (fr_117 _ (by first | omega | (dsimp only; omega))) (fr_117 _ (by first | omega | (dsimp only; omega)))
    have l_122 : (0 : Int32).toInt = 0 := rfl
    exact (hp _ _ _ hR_116 hf_118 (Or.inl rfl) hl)
set_option maxHeartbeats 4000000 in
set_option maxRecDepth 20000 in
theorem yReform_read_11l {D : va_G} {cA : FieldType → ClassId} {b : Nat} {kS vS : Nat → Nat} {xb xl : Nat} {xs : Nat → Int32} {R : qRg} {o n : Nat} {sh : Nat → qC} {Rf : Nat → Nat → Option Nat} {I0 : Nat → Nat → Int32} {L0 : Nat → Nat → Int64} {post : Option Value → qS → Prop} {x1 : Nat} (hok : q_ok (qGG D cA b (qEx b kS vS xb xl xs))) (hw : WfReform (qGG D cA b (qEx b kS vS xb xl xs)) n sh Rf o) (ra : RAReform R o) (hw1 : WfTape (qGG D cA b (qEx b kS vS xb xl xs)) n sh Rf x1) (ra1 : RATape R x1) (hs0 : o + 5 ≤ x1 ∨ x1 + 7 ≤ o) (hq0 : TokOK I0 x1) (hp : ∀ (r : Int32) (I' : Nat → Nat → Int32) (L' : Nat → Nat → Int64), RI R I' → Fm (fun c => (o ≤ c ∧ c < o + 5) ∨ (x1 ≤ c ∧ c < x1 + 7)) I0 I' → (Bz r) → (TokOK I' x1) → (FmL (fun c => c = (x1 + 6)) L0 L') → post (some (.int r)) (n, sh, Rf, I', L')) : ∀ (k : Nat) {x2 : Int32} {I : Nat → Nat → Int32} {L : Nat → Nat → Int64}, RI R I → Fm (fun c => (o ≤ c ∧ c < o + 5) ∨ (x1 ≤ c ∧ c < x1 + 7)) I0 I → ((0 : Int) ≤ x2.toInt ∧ x2.toInt ≤ 700) → (TokOK I x1) → (FmL (fun c => c = (x1 + 6)) L0 L) → (700 - x2.toInt).toNat < k → Ev (qGG D cA b (qEx b kS vS xb xl xs)) mReform_read 102 (0, 0) 11 [(0, .ref o), (1, .ref x1), (2, .int x2)] [] (n, sh, Rf, I, L) post := by
  intro k
  induction k with
  | zero =>
    intro x2 I L hR hf hi0 hi1 hl hm
    exact absurd hm (Nat.not_lt_zero _)
  | succ k ih =>
    intro x2 I L hR hf hi0 hi1 hl hm
    refine sReform_read_11 o n sh Rf I L post x1 x2 hok hw hw1 ?_
    unfold fReform_read_11
    have l_1 : (700 : Int32).toInt = 700 := rfl
    refine ⟨fun c_2 => ?_, fun c_2 => ?_⟩
    · have d_3 := iLe c_2
      have l_4 : (1 : Int32).toInt = 1 := rfl
      exact (hp _ _ _ hR hf (Or.inr rfl) hi1 hl)
    · have d_5 := iNle c_2
      refine y_Tape_atEndg hok hw1 ra1 hR (fun r_6 u_7 gn_8 => ⟨r_6, I, L, rfl, rfl, ?_⟩)
      clear gn_8
      have b_9 : 0 ≤ r_6.toInt ∧ r_6.toInt ≤ 1 := u_7.rg
      have l_10 : (0 : Int32).toInt = 0 := rfl
      refine ⟨fun c_11 => ?_, fun c_11 => ?_⟩
      · have d_12 := iNe c_11
        have l_13 : (1 : Int32).toInt = 1 := rfl
        exact (hp _ _ _ hR hf (Or.inr rfl) hi1 hl)
      · have d_14 := iEq c_11
        refine y_Reform_readLinel hok hw ra hw1 ra1 (by first | omega | (intro h; omega) | exact Or.inl rfl | exact Or.inr rfl) hi1 hR (fun r_15 I_18 L_19 hR_20 fr_21 u_16 ln_17 => ⟨r_15, I_18, L_19, rfl, rfl, ?_⟩)
        replace hl := hl.call ln_17 (fun c hc => by first | exact hc | exact False.elim hc | (dsimp only at hc ⊢; omega) | omega)
        have hf_22 : Fm (fun c => (o ≤ c ∧ c < o + 5) ∨ (x1 ≤ c ∧ c < x1 + 7)) I0 I_18 := hf.call fr_21 (fun c hc => by first | exact hc | (dsimp only at hc ⊢; omega) | omega)
        have k_23 : TokOK I_18 x1 := hi1.fr (fr_21 _ (by first | omega | (dsimp only; omega))) (fr_21 _ (by first | omega | (dsimp only; omega)))
        have b_24 : 0 ≤ r_15.toInt ∧ r_15.toInt ≤ 1 := u_16.rg
        refine ⟨fun c_25 => ?_, fun c_25 => ?_⟩
        · have d_26 := iNe c_25
          refine fun I_27 e_28 => ?_
          have hR_29 : RI R I_27 := hR_20.up0 (k := 5) ra (by decide) (Or.inl rfl) e_28 (i_lo _) (i_hi _)
          have hf_30 : Fm (fun c => (o ≤ c ∧ c < o + 5) ∨ (x1 ≤ c ∧ c < x1 + 7)) I0 I_27 := hf_22.set (by first | rfl | omega | (dsimp only; omega)) e_28
          have k_31 : TokOK I_27 x1 := k_23.fr (by rw [← e_28]; exact q_u_ne (by omega)) (by rw [← e_28]; exact q_u_ne (by omega))
          have a_33 : (x2 + Int32.ofInt 1).toInt = x2.toInt + (1) := tIc (by omega) (by omega) (by decide) (by decide)
          generalize ez_32 : (x2 + Int32.ofInt 1) = z_32 at a_33 ⊢
          exact ih hR_29 hf_30 (by first | omega | (intro h; omega) | exact Or.inl rfl | exact Or.inr rfl) k_31 hl (by omega)
        · have d_34 := iEq c_25
          exact (hp _ _ _ hR_20 hf_22 (Or.inl rfl) k_23 hl)
set_option maxHeartbeats 4000000 in
set_option maxRecDepth 20000 in
theorem y_Reform_readl {D : va_G} {cA : FieldType → ClassId} {b : Nat} {kS vS : Nat → Nat} {xb xl : Nat} {xs : Nat → Int32} {R : qRg} {o n : Nat} {sh : Nat → qC} {Rf : Nat → Nat → Option Nat} {I0 : Nat → Nat → Int32} {L0 : Nat → Nat → Int64} {post : Option Value → qS → Prop} {x1 : Nat} (hok : q_ok (qGG D cA b (qEx b kS vS xb xl xs))) (hw : WfReform (qGG D cA b (qEx b kS vS xb xl xs)) n sh Rf o) (ra : RAReform R o) (hw1 : WfTape (qGG D cA b (qEx b kS vS xb xl xs)) n sh Rf x1) (ra1 : RATape R x1) (hs0 : o + 5 ≤ x1 ∨ x1 + 7 ≤ o) (hq0 : TokOK I0 x1) (hR : RI R I0) (hp : ∀ (r : Int32) (I' : Nat → Nat → Int32) (L' : Nat → Nat → Int64), RI R I' → Fm (fun c => (o ≤ c ∧ c < o + 5) ∨ (x1 ≤ c ∧ c < x1 + 7)) I0 I' → (Bz r) → (TokOK I' x1) → (FmL (fun c => c = (x1 + 6)) L0 L') → post (some (.int r)) (n, sh, Rf, I', L')) : Ev (qGG D cA b (qEx b kS vS xb xl xs)) mReform_read 102 (0, 0) 0 (lv_args 0 [.ref o, .ref x1]) [] (n, sh, Rf, I0, L0) post := by
  have hf : Fm (fun c => (o ≤ c ∧ c < o + 5) ∨ (x1 ≤ c ∧ c < x1 + 7)) I0 I0 := Fm.rf
  refine sReform_read_0 o n sh Rf I0 L0 post x1 hok hw hw1 ?_
  unfold fReform_read_0
  have hl : FmL (fun c => c = (x1 + 6)) L0 L0 := FmL.rf
  refine y_Reform_clearl hok hw ra hR (fun I_37 L_38 hR_39 fr_40 ln_36 => ⟨I_37, L_38, rfl, rfl, ?_⟩)
  replace hl := hl.call ln_36 (fun c hc => by first | exact hc | exact False.elim hc | (dsimp only at hc ⊢; omega) | omega)
  have hf_41 : Fm (fun c => (o ≤ c ∧ c < o + 5) ∨ (x1 ≤ c ∧ c < x1 + 7)) I0 I_37 := hf.call fr_40 (fun c hc => by first | exact hc | (dsimp only at hc ⊢; omega) | omega)
  have k_42 : TokOK I_37 x1 := hq0.fr (fr_40 _ (by first | omega | (dsimp only; omega))) (fr_40 _ (by first | omega | (dsimp only; omega)))
  have l_43 : (0 : Int32).toInt = 0 := rfl
  refine y_Tape_startReadingg hok hw1 ra1 (by first | omega | (intro h; omega) | exact Or.inl rfl | exact Or.inr rfl) k_42 hR_39 (fun I_48 L_49 hR_50 fr_51 u_45 gn_46 ln_47 => ⟨I_48, L_49, rfl, rfl, ?_⟩)
  replace hl := hl.call ln_47 (fun c hc => by first | exact hc | exact False.elim hc | (dsimp only at hc ⊢; omega) | omega)
  clear gn_46
  have hf_52 : Fm (fun c => (o ≤ c ∧ c < o + 5) ∨ (x1 ≤ c ∧ c < x1 + 7)) I0 I_48 := hf_41.call fr_51 (fun c hc => by first | exact hc | (dsimp only at hc ⊢; omega) | omega)
  exact yReform_read_11l (I0 := I0) (L0 := L0) hok hw ra hw1 ra1 hs0 hq0 hp  _ hR_50 hf_52 (by first | omega | (intro h; omega) | exact Or.inl rfl | exact Or.inr rfl) u_45 hl (Nat.lt_succ_self _)
