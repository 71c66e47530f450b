/-! Safety of Reform, its nesting: by program (spec.py). -/
section RR
variable {D : va_G} {cA : FieldType → ClassId} {b : Nat} {E : State → Prop} {R : qRg} {o n : Nat} {sh : Nat → qC} {Rf : Nat → Nat → Option Nat} {x1 : Nat}
/-- what a reading of a REFORM's part does, from a nesting of lo on -/
def RdC (D : va_G) (cA : FieldType → ClassId) (b : Nat) (E : State → Prop) (R : qRg) (o n : Nat) (sh : Nat → qC) (Rf : Nat → Nat → Option Nat) (x1 : Nat) (m : qM) (d : Nat) (lo : Int) : Prop := ∀ (J : Nat → Nat → Int32) (K : Nat → Nat → Int64) (post : Option Value → qS → Prop) (q : Int32), RI R J → TokOK J x1 → lo ≤ q.toInt → q.toInt ≤ 7 → (∀ I' L', RI R I' → Fm (fun c => (o ≤ c ∧ c < o + 5) ∨ c = x1) J I' → (I' o 6).toInt = (J o 6).toInt → (I' o 8).toInt = (J o 8).toInt → post none (n, sh, Rf, I', L')) → Ev (qGG D cA b E) m d (0, 0) 0 (lv_args 0 [.ref o, .ref x1, .int q]) [] (n, sh, Rf, J, K) post
theorem RdC.deep {m : qM} {d d' : Nat} {lo : Int} (h : RdC D cA b E R o n sh Rf x1 m d lo) (hd : d ≤ d') : RdC D cA b E R o n sh Rf x1 m d' lo := fun J K post q h1 h2 h3 h4 h5 => ev_deep hd (h J K post q h1 h2 h3 h4 h5)
theorem RdC.none {m : qM} {d : Nat} {lo : Int} (h : 7 < lo) : RdC D cA b E R o n sh Rf x1 m d lo := fun J K post q h1 h2 h3 h4 h5 => absurd h4 (by omega)
/-- all of them, by nesting -/
theorem y_reads (hok : q_ok (qGG D cA b E)) (hw : WfReform (qGG D cA b E) n sh Rf o) (ra : RAReform R o) (hw1 : WfTape (qGG D cA b E) n sh Rf x1) (ra1 : RATape R x1) (hs : o + 5 ≤ x1 ∨ x1 + 7 ≤ o) : ∀ (j : Nat) (lo : Int), 0 ≤ lo → lo + (j : Int) = 8 → RdC D cA b E R o n sh Rf x1 mReform_readEither (6 * j + 11) lo ∧ RdC D cA b E R o n sh Rf x1 mReform_readOne (6 * j + 9) lo := by
  intro j
  induction j with
  | zero => intro lo h0 hl; exact ⟨RdC.none (by omega), RdC.none (by omega)⟩
  | succ j ih =>
    intro lo h0 hl
    obtain ⟨hE, hO⟩ := ih (lo + 1) (by omega) (by omega)
    have u : RdC D cA b E R o n sh Rf x1 mReform_readUnit (6 * j + 11 + 1) lo := fun J K post q a1 a2 a3 a4 a5 => y_Reform_readUnit hok hw ra hw1 ra1 (by omega) hE hs h0 a3 a4 a2 a1 (fun I' L' r f k6 k8 => a5 I' L' r f k6 k8)
    have t : RdC D cA b E R o n sh Rf x1 mReform_readTerm (6 * j + 11 + 1 + 1) lo := fun J K post q a1 a2 a3 a4 a5 => y_Reform_readTerm hok hw ra hw1 ra1 (by omega) u hs h0 a3 a4 a2 a1 (fun I' L' r f k6 k8 => a5 I' L' r f k6 k8)
    have m : RdC D cA b E R o n sh Rf x1 mReform_readSum (6 * j + 11 + 1 + 1 + 1) lo := fun J K post q a1 a2 a3 a4 a5 => y_Reform_readSum hok hw ra hw1 ra1 (by omega) t hs h0 a3 a4 a2 a1 (fun I' L' r f k6 k8 => a5 I' L' r f k6 k8)
    have e : RdC D cA b E R o n sh Rf x1 mReform_readOne (6 * j + 11 + 1 + 1 + 1 + 1) lo := fun J K post q a1 a2 a3 a4 a5 => y_Reform_readOne hok hw ra hw1 ra1 (by omega) m (hO.deep (by omega)) hs h0 a3 a4 a2 a1 (fun I' L' r f k6 k8 => a5 I' L' r f k6 k8)
    have B : RdC D cA b E R o n sh Rf x1 mReform_readBoth (6 * j + 11 + 1 + 1 + 1 + 1 + 1) lo := fun J K post q a1 a2 a3 a4 a5 => y_Reform_readBoth hok hw ra hw1 ra1 (by omega) e hs h0 a3 a4 a2 a1 (fun I' L' r f k6 k8 => a5 I' L' r f k6 k8)
    have A : RdC D cA b E R o n sh Rf x1 mReform_readEither (6 * j + 11 + 1 + 1 + 1 + 1 + 1 + 1) lo := fun J K post q a1 a2 a3 a4 a5 => y_Reform_readEither hok hw ra hw1 ra1 (by omega) B hs h0 a3 a4 a2 a1 (fun I' L' r f k6 k8 => a5 I' L' r f k6 k8)
    exact ⟨A.deep (by omega), e.deep (by omega)⟩
theorem y_Reform_readEither0 {I0 : Nat → Nat → Int32} {L0 : Nat → Nat → Int64} {post : Option Value → qS → Prop} (hok : q_ok (qGG D cA b E)) (hw : WfReform (qGG D cA b E) n sh Rf o) (ra : RAReform R o) (hw1 : WfTape (qGG D cA b E) n sh Rf x1) (ra1 : RATape R x1) (hs : o + 5 ≤ x1 ∨ x1 + 7 ≤ o) (ht : TokOK I0 x1) (hR : RI R I0) (hp : ∀ I' L', RI R I' → Fm (fun c => (o ≤ c ∧ c < o + 5) ∨ c = x1) I0 I' → (I' o 6).toInt = (I0 o 6).toInt → (I' o 8).toInt = (I0 o 8).toInt → post none (n, sh, Rf, I', L')) : Ev (qGG D cA b E) mReform_readEither 100 (0, 0) 0 (lv_args 0 [.ref o, .ref x1, .int 0]) [] (n, sh, Rf, I0, L0) post :=
  (((y_reads hok hw ra hw1 ra1 hs 8 0 (by omega) (by omega)).1).deep (by omega)) I0 L0 post 0 hR ht (by decide) (by decide) hp
end RR
set_option maxHeartbeats 4000000 in
set_option maxRecDepth 20000 in
theorem y_Reform_readLine {D : va_G} {cA : FieldType → ClassId} {b : Nat} {E : State → Prop} {R : qRg} {o n : Nat} {sh : Nat → qC} {Rf : Nat → Nat → Option Nat} {I0 : Nat → Nat → Int32} {L0 : Nat → Nat → Int64} {post : Option Value → qS → Prop} {x1 : Nat} (hok : q_ok (qGG D cA b E)) (hw : WfReform (qGG D cA b E) n sh Rf o) (ra : RAReform R o) (hw1 : WfTape (qGG D cA b E) n sh Rf x1) (ra1 : RATape R x1) (hs0 : o + 5 ≤ x1 ∨ x1 + 7 ≤ o) (hq0 : TokOK I0 x1) (hR : RI R I0) (hp : ∀ (r : Int32) (I' : Nat → Nat → Int32) (L' : Nat → Nat → Int64), RI R I' → Fm (fun c => (o ≤ c ∧ c < o + 5) ∨ c = x1) I0 I' → (Bz r) → post (some (.int r)) (n, sh, Rf, I', L')) : Ev (qGG D cA b E) mReform_readLine 101 (0, 0) 0 (lv_args 0 [.ref o, .ref x1]) [] (n, sh, Rf, I0, L0) post := by
  have hf : Fm (fun c => (o ≤ c ∧ c < o + 5) ∨ c = x1) I0 I0 := Fm.rf
  have g_1 : (0 : Int) ≤ (I0 o 6).toInt ∧ (I0 o 6).toInt ≤ 5 := hR.at0 ra 6 (by decide)
  have g_2 : (-1 : Int) ≤ (I0 o 8).toInt ∧ (I0 o 8).toInt ≤ 10 := hR.at0 ra 8 (by decide)
  refine sReform_readLine_0 o n sh Rf I0 L0 post x1 hok hw hw1 ?_
  unfold fReform_readLine_0
  refine y_Reform_freeSlot hok hw ra hw1 ra1 hR (fun r_3 u_4 u_5 => ⟨r_3, I0, L0, rfl, rfl, ?_⟩)
  refine fun I_6 e_7 => ?_
  have hR_8 : RI R I_6 := hR.up0 (k := 8) ra (by decide) (Or.inl rfl) e_7 (show (-1 : Int) ≤ r_3.toInt by omega) (show r_3.toInt ≤ (10 : Int) by omega)
  have hf_9 : Fm (fun c => (o ≤ c ∧ c < o + 5) ∨ c = x1) I0 I_6 := hf.set (by first | rfl | omega | (dsimp only; omega)) e_7
  have t_10 : (I_6 o 6).toInt = (I0 o 6).toInt := by rw [← e_7, q_u_k (by decide)]
  have t_11 : (I_6 o 8).toInt = r_3.toInt := by rw [← e_7, q_u_at]
  have k_12 : TokOK I_6 x1 := hq0.fr (by rw [← e_7]; exact q_u_ne (by omega)) (by rw [← e_7]; exact q_u_ne (by omega))
  have g_13 : (-1 : Int) ≤ (I_6 o 8).toInt ∧ (I_6 o 8).toInt ≤ 10 := hR_8.at0 ra 8 (by decide)
  have l_14 : (-1 : Int32).toInt = -1 := rfl
  refine ⟨fun c_15 => ?_, fun c_15 => ?_⟩
  · have d_16 := iNe c_15
    refine y_Tape_step hok hw1 ra1 hR_8 (fun I_19 L_20 hR_21 fr_22 u_18 => ⟨I_19, L_20, rfl, rfl, ?_⟩)
    have hf_23 : Fm (fun c => (o ≤ c ∧ c < o + 5) ∨ c = x1) I0 I_19 := hf_9.call fr_22 (fun c hc => by first | exact hc | (dsimp only at hc ⊢; omega) | omega)
    have t_24 : (I_19 o 6).toInt = (I_6 o 6).toInt := by rw [fr_22 o (by first | omega | (dsimp only; omega))]
    have t_25 : (I_19 o 8).toInt = (I_6 o 8).toInt := by rw [fr_22 o (by first | omega | (dsimp only; omega))]
    have k_26 : TokOK I_19 x1 := k_12.fr (fr_22 _ (by first | omega | (dsimp only; omega))) (fr_22 _ (by first | omega | (dsimp only; omega)))
    have g_27 : (-1 : Int) ≤ (I_19 o 8).toInt ∧ (I_19 o 8).toInt ≤ 10 := hR_21.at0 ra 8 (by decide)
    have g_28 : (0 : Int) ≤ (I_19 o 4).toInt ∧ (I_19 o 4).toInt ≤ 700 := hR_21.at0 ra 4 (by decide)
    refine ⟨tIn (by omega) (by omega), fun I_29 e_30 => ?_⟩
    have hR_31 : RI R I_29 := hR_21.up ra 2 (by decide) (Or.inl rfl) e_30 (show (0 : Int) ≤ (I_19 o 4).toInt by omega) (show (I_19 o 4).toInt ≤ (700 : Int) by omega)
    have hf_32 : Fm (fun c => (o ≤ c ∧ c < o + 5) ∨ c = x1) I0 I_29 := hf_23.set (by first | rfl | omega | (dsimp only; omega)) e_30
    have t_33 : (I_29 o 6).toInt = (I_19 o 6).toInt := by rw [← e_30, q_u_ne (by omega)]
    have t_34 : (I_29 o 8).toInt = (I_19 o 8).toInt := by rw [← e_30, q_u_ne (by omega)]
    have t_35 : (I_29 o 4).toInt = (I_19 o 4).toInt := by rw [← e_30, q_u_ne (by omega)]
    have k_36 : TokOK I_29 x1 := k_26.fr (by rw [← e_30]; exact q_u_ne (by omega)) (by rw [← e_30]; exact q_u_ne (by omega))
    have l_42 : (0 : Int32).toInt = 0 := rfl
    refine y_Reform_readEither0 hok hw ra hw1 ra1 (by omega) k_36 hR_31 (fun I_37 L_38 hR_39 fr_40 k6_43 k8_44 => ⟨I_37, L_38, rfl, rfl, ?_⟩)
    have hf_41 : Fm (fun c => (o ≤ c ∧ c < o + 5) ∨ c = x1) I0 I_37 := hf_32.call fr_40 (fun c hc => hc)
    have k_45 : TokOK I_37 x1 := k_36.fr (fr_40 _ (by first | omega | (dsimp only; omega))) (fr_40 _ (by first | omega | (dsimp only; omega)))
    have g_46 : (-1 : Int) ≤ (I_37 o 8).toInt ∧ (I_37 o 8).toInt ≤ 10 := hR_39.at0 ra 8 (by decide)
    have g_47 : (0 : Int) ≤ (I_37 o 4).toInt ∧ (I_37 o 4).toInt ≤ 700 := hR_39.at0 ra 4 (by decide)
    refine ⟨tIn (by omega) (by omega), fun I_48 e_49 => ?_⟩
    have hR_50 : RI R I_48 := hR_39.up ra 3 (by decide) (Or.inl rfl) e_49 (show (0 : Int) ≤ (I_37 o 4).toInt by omega) (show (I_37 o 4).toInt ≤ (700 : Int) by omega)
    have hf_51 : Fm (fun c => (o ≤ c ∧ c < o + 5) ∨ c = x1) I0 I_48 := hf_41.set (by first | rfl | omega | (dsimp only; omega)) e_49
    have t_52 : (I_48 o 6).toInt = (I_37 o 6).toInt := by rw [← e_49, q_u_ne (by omega)]
    have t_53 : (I_48 o 8).toInt = (I_37 o 8).toInt := by rw [← e_49, q_u_ne (by omega)]
    have t_54 : (I_48 o 4).toInt = (I_37 o 4).toInt := by rw [← e_49, q_u_ne (by omega)]
    have k_55 : TokOK I_48 x1 := k_45.fr (by rw [← e_49]; exact q_u_ne (by omega)) (by rw [← e_49]; exact q_u_ne (by omega))
    have g_56 : (-1 : Int) ≤ (I_48 o 8).toInt ∧ (I_48 o 8).toInt ≤ 10 := hR_50.at0 ra 8 (by decide)
    have l_57 : (6 : Int32).toInt = 6 := rfl
    refine ⟨fun c_58 => ?_, fun c_58 => ?_⟩
    · have d_59 := iLt c_58
      refine y_Tape_closeLine hok hw1 ra1 hR_50 (fun r_60 I_64 L_65 hR_66 fr_67 u_61 u_62 u_63 => ⟨r_60, I_64, L_65, rfl, rfl, ?_⟩)
      have hf_68 : Fm (fun c => (o ≤ c ∧ c < o + 5) ∨ c = x1) I0 I_64 := hf_51.call fr_67 (fun c hc => by first | exact hc | (dsimp only at hc ⊢; omega) | omega)
      have t_69 : (I_64 o 6).toInt = (I_48 o 6).toInt := by rw [fr_67 o (by first | omega | (dsimp only; omega))]
      have t_70 : (I_64 o 8).toInt = (I_48 o 8).toInt := by rw [fr_67 o (by first | omega | (dsimp only; omega))]
      have t_71 : (I_64 o 4).toInt = (I_48 o 4).toInt := by rw [fr_67 o (by first | omega | (dsimp only; omega))]
      have k_72 : TokOK I_64 x1 := k_55.fr (fr_67 _ (by first | omega | (dsimp only; omega))) (fr_67 _ (by first | omega | (dsimp only; omega)))
      have b_73 : 0 ≤ r_60.toInt ∧ r_60.toInt ≤ 1 := u_61.rg
      exact ⟨u_61, (hp _ _ _ hR_66 hf_68 (u_61))⟩
    · have d_74 := iNlt c_58
      have g_75 : (0 : Int) ≤ (I_48 o 6).toInt ∧ (I_48 o 6).toInt ≤ 5 := hR_50.at0 ra 6 (by decide)
      have l_76 : (1 : Int32).toInt = 1 := rfl
      have a_77 : ((I_48 o 6) + 1).toInt = (I_48 o 6).toInt + (1 : Int32).toInt := tAdd (by omega) (by omega)
      refine fun I_78 e_79 => ?_
      have hR_80 : RI R I_78 := hR_50.up0 (k := 6) ra (by decide) (Or.inl rfl) e_79 (show (0 : Int) ≤ ((I_48 o 6) + 1).toInt by omega) (show ((I_48 o 6) + 1).toInt ≤ (5 : Int) by omega)
      have hf_81 : Fm (fun c => (o ≤ c ∧ c < o + 5) ∨ c = x1) I0 I_78 := hf_51.set (by first | rfl | omega | (dsimp only; omega)) e_79
      have t_82 : (I_78 o 6).toInt = ((I_48 o 6) + 1).toInt := by rw [← e_79, q_u_at]
      have t_83 : (I_78 o 8).toInt = (I_48 o 8).toInt := by rw [← e_79, q_u_k (by decide)]
      have t_84 : (I_78 o 4).toInt = (I_48 o 4).toInt := by rw [← e_79, q_u_k (by decide)]
      have k_85 : TokOK I_78 x1 := k_55.fr (by rw [← e_79]; exact q_u_ne (by omega)) (by rw [← e_79]; exact q_u_ne (by omega))
      refine y_Tape_closeLine hok hw1 ra1 hR_80 (fun r_86 I_90 L_91 hR_92 fr_93 u_87 u_88 u_89 => ⟨r_86, I_90, L_91, rfl, rfl, ?_⟩)
      have hf_94 : Fm (fun c => (o ≤ c ∧ c < o + 5) ∨ c = x1) I0 I_90 := hf_81.call fr_93 (fun c hc => by first | exact hc | (dsimp only at hc ⊢; omega) | omega)
      have t_95 : (I_90 o 6).toInt = (I_78 o 6).toInt := by rw [fr_93 o (by first | omega | (dsimp only; omega))]
      have t_96 : (I_90 o 8).toInt = (I_78 o 8).toInt := by rw [fr_93 o (by first | omega | (dsimp only; omega))]
      have t_97 : (I_90 o 4).toInt = (I_78 o 4).toInt := by rw [fr_93 o (by first | omega | (dsimp only; omega))]
      have k_98 : TokOK I_90 x1 := k_85.fr (fr_93 _ (by first | omega | (dsimp only; omega))) (fr_93 _ (by first | omega | (dsimp only; omega)))
      have b_99 : 0 ≤ r_86.toInt ∧ r_86.toInt ≤ 1 := u_87.rg
      exact ⟨u_87, (hp _ _ _ hR_92 hf_94 (u_87))⟩
  · have d_100 := iEq c_15
    have l_101 : (2 : Int32).toInt = 2 := rfl
    refine y_Tape_refuse hok hw1 ra1 (by first | omega | (intro h; omega) | exact Or.inl rfl | exact Or.inr rfl) hR_8 (fun I_105 L_106 hR_107 fr_108 u_103 u_104 => ⟨I_105, L_106, rfl, rfl, ?_⟩)
    have hf_109 : Fm (fun c => (o ≤ c ∧ c < o + 5) ∨ c = x1) I0 I_105 := hf_9.call fr_108 (fun c hc => by first | exact hc | (dsimp only at hc ⊢; omega) | omega)
    have t_110 : (I_105 o 6).toInt = (I_6 o 6).toInt := by rw [fr_108 o (by first | omega | (dsimp only; omega))]
    have t_111 : (I_105 o 8).toInt = (I_6 o 8).toInt := by rw [fr_108 o (by first | omega | (dsimp only; omega))]
    have k_112 : TokOK I_105 x1 := k_12.fr (fr_108 _ (by first | omega | (dsimp only; omega))) (fr_108 _ (by first | omega | (dsimp only; omega)))
    have l_113 : (0 : Int32).toInt = 0 := rfl
    exact (hp _ _ _ hR_107 hf_109 (Or.inl rfl))
set_option maxHeartbeats 4000000 in
set_option maxRecDepth 20000 in
theorem yReform_read_11 {D : va_G} {cA : FieldType → ClassId} {b : Nat} {kS vS : Nat → Nat} {xb xl : Nat} {xs : Nat → Int32} {R : qRg} {o n : Nat} {sh : Nat → qC} {Rf : Nat → Nat → Option Nat} {I0 : Nat → Nat → Int32} {L0 : Nat → Nat → Int64} {post : Option Value → qS → Prop} {x1 : Nat} (hok : q_ok (qGG D cA b (qEx b kS vS xb xl xs))) (hw : WfReform (qGG D cA b (qEx b kS vS xb xl xs)) n sh Rf o) (ra : RAReform R o) (hw1 : WfTape (qGG D cA b (qEx b kS vS xb xl xs)) n sh Rf x1) (ra1 : RATape R x1) (hs0 : o + 5 ≤ x1 ∨ x1 + 7 ≤ o) (hq0 : TokOK I0 x1) (hp : ∀ (r : Int32) (I' : Nat → Nat → Int32) (L' : Nat → Nat → Int64), RI R I' → Fm (fun c => (o ≤ c ∧ c < o + 5) ∨ (x1 ≤ c ∧ c < x1 + 7)) I0 I' → (Bz r) → (TokOK I' x1) → post (some (.int r)) (n, sh, Rf, I', L')) : ∀ (k : Nat) {x2 : Int32} {I : Nat → Nat → Int32} {L : Nat → Nat → Int64}, RI R I → Fm (fun c => (o ≤ c ∧ c < o + 5) ∨ (x1 ≤ c ∧ c < x1 + 7)) I0 I → ((0 : Int) ≤ x2.toInt ∧ x2.toInt ≤ 700) → (TokOK I x1) → (700 - x2.toInt).toNat < k → Ev (qGG D cA b (qEx b kS vS xb xl xs)) mReform_read 102 (0, 0) 11 [(0, .ref o), (1, .ref x1), (2, .int x2)] [] (n, sh, Rf, I, L) post := by
  intro k
  induction k with
  | zero =>
    intro x2 I L hR hf hi0 hi1 hm
    exact absurd hm (Nat.not_lt_zero _)
  | succ k ih =>
    intro x2 I L hR hf hi0 hi1 hm
    refine sReform_read_11 o n sh Rf I L post x1 x2 hok hw hw1 ?_
    unfold fReform_read_11
    have l_1 : (700 : Int32).toInt = 700 := rfl
    refine ⟨fun c_2 => ?_, fun c_2 => ?_⟩
    · have d_3 := iLe c_2
      have l_4 : (1 : Int32).toInt = 1 := rfl
      exact (hp _ _ _ hR hf (Or.inr rfl) hi1)
    · have d_5 := iNle c_2
      refine y_Tape_atEnd hok hw1 ra1 hR (fun r_6 u_7 => ⟨r_6, I, L, rfl, rfl, ?_⟩)
      have b_8 : 0 ≤ r_6.toInt ∧ r_6.toInt ≤ 1 := u_7.rg
      have l_9 : (0 : Int32).toInt = 0 := rfl
      refine ⟨fun c_10 => ?_, fun c_10 => ?_⟩
      · have d_11 := iNe c_10
        have l_12 : (1 : Int32).toInt = 1 := rfl
        exact (hp _ _ _ hR hf (Or.inr rfl) hi1)
      · have d_13 := iEq c_10
        refine y_Reform_readLine hok hw ra hw1 ra1 (by first | omega | (intro h; omega) | exact Or.inl rfl | exact Or.inr rfl) hi1 hR (fun r_14 I_16 L_17 hR_18 fr_19 u_15 => ⟨r_14, I_16, L_17, rfl, rfl, ?_⟩)
        have hf_20 : Fm (fun c => (o ≤ c ∧ c < o + 5) ∨ (x1 ≤ c ∧ c < x1 + 7)) I0 I_16 := hf.call fr_19 (fun c hc => by first | exact hc | (dsimp only at hc ⊢; omega) | omega)
        have k_21 : TokOK I_16 x1 := hi1.fr (fr_19 _ (by first | omega | (dsimp only; omega))) (fr_19 _ (by first | omega | (dsimp only; omega)))
        have b_22 : 0 ≤ r_14.toInt ∧ r_14.toInt ≤ 1 := u_15.rg
        refine ⟨fun c_23 => ?_, fun c_23 => ?_⟩
        · have d_24 := iNe c_23
          refine fun I_25 e_26 => ?_
          have hR_27 : RI R I_25 := hR_18.up0 (k := 5) ra (by decide) (Or.inl rfl) e_26 (i_lo _) (i_hi _)
          have hf_28 : Fm (fun c => (o ≤ c ∧ c < o + 5) ∨ (x1 ≤ c ∧ c < x1 + 7)) I0 I_25 := hf_20.set (by first | rfl | omega | (dsimp only; omega)) e_26
          have k_29 : TokOK I_25 x1 := k_21.fr (by rw [← e_26]; exact q_u_ne (by omega)) (by rw [← e_26]; exact q_u_ne (by omega))
          have a_31 : (x2 + Int32.ofInt 1).toInt = x2.toInt + (1) := tIc (by omega) (by omega) (by decide) (by decide)
          generalize ez_30 : (x2 + Int32.ofInt 1) = z_30 at a_31 ⊢
          exact ih hR_27 hf_28 (by first | omega | (intro h; omega) | exact Or.inl rfl | exact Or.inr rfl) k_29 (by omega)
        · have d_32 := iEq c_23
          exact (hp _ _ _ hR_18 hf_20 (Or.inl rfl) k_21)
set_option maxHeartbeats 4000000 in
set_option maxRecDepth 20000 in
theorem y_Reform_read {D : va_G} {cA : FieldType → ClassId} {b : Nat} {kS vS : Nat → Nat} {xb xl : Nat} {xs : Nat → Int32} {R : qRg} {o n : Nat} {sh : Nat → qC} {Rf : Nat → Nat → Option Nat} {I0 : Nat → Nat → Int32} {L0 : Nat → Nat → Int64} {post : Option Value → qS → Prop} {x1 : Nat} (hok : q_ok (qGG D cA b (qEx b kS vS xb xl xs))) (hw : WfReform (qGG D cA b (qEx b kS vS xb xl xs)) n sh Rf o) (ra : RAReform R o) (hw1 : WfTape (qGG D cA b (qEx b kS vS xb xl xs)) n sh Rf x1) (ra1 : RATape R x1) (hs0 : o + 5 ≤ x1 ∨ x1 + 7 ≤ o) (hq0 : TokOK I0 x1) (hR : RI R I0) (hp : ∀ (r : Int32) (I' : Nat → Nat → Int32) (L' : Nat → Nat → Int64), RI R I' → Fm (fun c => (o ≤ c ∧ c < o + 5) ∨ (x1 ≤ c ∧ c < x1 + 7)) I0 I' → (Bz r) → (TokOK I' x1) → post (some (.int r)) (n, sh, Rf, I', L')) : Ev (qGG D cA b (qEx b kS vS xb xl xs)) mReform_read 102 (0, 0) 0 (lv_args 0 [.ref o, .ref x1]) [] (n, sh, Rf, I0, L0) post := by
  have hf : Fm (fun c => (o ≤ c ∧ c < o + 5) ∨ (x1 ≤ c ∧ c < x1 + 7)) I0 I0 := Fm.rf
  refine sReform_read_0 o n sh Rf I0 L0 post x1 hok hw hw1 ?_
  unfold fReform_read_0
  refine y_Reform_clear hok hw ra hR (fun I_34 L_35 hR_36 fr_37  => ⟨I_34, L_35, rfl, rfl, ?_⟩)
  have hf_38 : Fm (fun c => (o ≤ c ∧ c < o + 5) ∨ (x1 ≤ c ∧ c < x1 + 7)) I0 I_34 := hf.call fr_37 (fun c hc => by first | exact hc | (dsimp only at hc ⊢; omega) | omega)
  have k_39 : TokOK I_34 x1 := hq0.fr (fr_37 _ (by first | omega | (dsimp only; omega))) (fr_37 _ (by first | omega | (dsimp only; omega)))
  have l_40 : (0 : Int32).toInt = 0 := rfl
  refine y_Tape_startReading hok hw1 ra1 (by first | omega | (intro h; omega) | exact Or.inl rfl | exact Or.inr rfl) k_39 hR_36 (fun I_43 L_44 hR_45 fr_46 u_42 => ⟨I_43, L_44, rfl, rfl, ?_⟩)
  have hf_47 : Fm (fun c => (o ≤ c ∧ c < o + 5) ∨ (x1 ≤ c ∧ c < x1 + 7)) I0 I_43 := hf_38.call fr_46 (fun c hc => by first | exact hc | (dsimp only at hc ⊢; omega) | omega)
  exact yReform_read_11 (I0 := I0) (L0 := L0) hok hw ra hw1 ra1 hs0 hq0 hp  _ hR_45 hf_47 (by first | omega | (intro h; omega) | exact Or.inl rfl | exact Or.inr rfl) u_42 (Nat.lt_succ_self _)
