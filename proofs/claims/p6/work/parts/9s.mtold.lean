/-! Safety of the reference, FACTS: by program (spec.py). -/
def MFacAt (I : Nat → Nat → Int32) (l j : Nat) : Prop := (I (l + 36) j).toInt = 2 → -1 ≤ (I (l + 39) j).toInt ∧ (I (l + 39) j).toInt ≤ 5
/-- what a FACT of a death speaks of -/
def MFac (I : Nat → Nat → Int32) (l : Nat) : Prop := ∀ j : Nat, (j : Int) < (I l 67).toInt → MFacAt I l j
section MF
variable {I I' : Nat → Nat → Int32} {l k : Nat} {v : Int32}
theorem MFac.fr (h : MFac I l) (e1 : I' (l + 36) = I (l + 36)) (e2 : I' (l + 39) = I (l + 39)) (e9 : I' l 67 = I l 67) : MFac I' l := fun j hj => by unfold MFacAt; rw [e1, e2]; rw [e9] at hj; exact h j hj
theorem MFac.put {r : Nat} (hr : r = 36 ∨ r = 39) (h : MFac I l) (e : q_u I (l + r) k v = I') (hk : (I l 67).toInt ≤ (k : Int)) : MFac I' l := fun j hj => by
  have e9 : I' l 67 = I l 67 := by rw [← e, q_u_ne (by omega)]
  rw [e9] at hj
  have hjk : j ≠ k := by omega
  have q : ∀ s, I' (l + s) j = I (l + s) j := fun s => by rw [← e, q_u_k hjk]
  unfold MFacAt
  rw [q 36, q 39]
  exact h j hj
theorem MFac.put36 (h : MFac I l) (e : q_u I (l + 36) k v = I') (hk : (I l 67).toInt ≤ (k : Int)) : MFac I' l := h.put (Or.inl rfl) e hk
theorem MFac.put39 (h : MFac I l) (e : q_u I (l + 39) k v = I') (hk : (I l 67).toInt ≤ (k : Int)) : MFac I' l := h.put (Or.inr rfl) e hk
theorem MFac.inc {k1 k4 : Nat} {p1 p4 : Int32} (h : MFac I l) (e : q_u I l 67 v = I') (hv : v.toInt = (I l 67).toInt + 1) (c1 : I (l + 36) k1 = p1) (c4 : I (l + 39) k4 = p4) (h1 : (k1 : Int) = (I l 67).toInt) (h4 : (k4 : Int) = (I l 67).toInt) (hA : Im (p1.toInt = 2) (-1 ≤ p4.toInt ∧ p4.toInt ≤ 5)) : MFac I' l := fun j hj => by
  have q : ∀ s, 0 < s → I' (l + s) = I (l + s) := fun s hs => by rw [← e, q_u_ne (by omega)]
  have e9 : (I' l 67).toInt = (I l 67).toInt + 1 := by rw [← e, q_u_at]; exact hv
  unfold MFacAt
  rw [q 36 (by decide), q 39 (by decide)]
  by_cases hlt : (j : Int) < (I l 67).toInt
  · exact h j hlt
  · have ej : j = k1 := by omega
    have ej4 : k1 = k4 := by omega
    subst ej
    subst ej4
    rw [c1, c4]
    exact hA
end MF
def wModel_fact : Nat → Bool := fun j => Nat.beq j 77 || false
set_option maxHeartbeats 4000000 in
set_option maxRecDepth 20000 in
theorem yc_Model_fact {D : va_G} {cA : FieldType → ClassId} {b : Nat} {E : State → Prop} {R : qRg} {o n : Nat} {sh : Nat → qC} {Rf : Nat → Nat → Option Nat} {I0 : Nat → Nat → Int32} {L0 : Nat → Nat → Int64} {post : Option Value → qS → Prop} {p1 : Int32} {p2 : Int32} {p3 : Int32} {p4 : Int32} (hok : q_ok (qGG D cA b E)) (hw : WfModel (qGG D cA b E) n sh Rf o) (ra : RAModel R o) (hz77 : R.2 77 = true) (hZ : Fz R I0 o wModel_fact) (hR0 : RI R I0) (hq0 : Im (p1.toInt = 2) (-1 ≤ p4.toInt ∧ p4.toInt ≤ 5)) (hq1 : MFac I0 o) (hR : RI R I0) (hp : ∀ (r : Int32) (I' : Nat → Nat → Int32) (L' : Nat → Nat → Int64), RI R I' → Fm (fun c => c = o ∨ (o + 36 ≤ c ∧ c < o + 42)) I0 I' → (MFac I' o) → post (some (.int r)) (n, sh, Rf, I', L')) : Ev (qGG D cA b E) mModel_fact 0 (0, 0) 0 (lv_args 0 [.ref o, .int p1, .int p2, .int p3, .int p4]) [] (n, sh, Rf, I0, L0) post := by
  have hf : Fm (fun c => c = o ∨ (o + 36 ≤ c ∧ c < o + 42)) I0 I0 := Fm.rf
  have g_1 : (0 : Int) ≤ (I0 o 67).toInt ∧ (I0 o 67).toInt ≤ 40 := hR.at0 ra 67 (by decide)
  refine sModel_fact_0 o n sh Rf I0 L0 post p1 p2 p3 p4 hok hw ?_
  unfold fModel_fact_0
  have g_2 : (0 : Int) ≤ (I0 o 67).toInt ∧ (I0 o 67).toInt ≤ 40 := hR.at0 ra 67 (by decide)
  have l_3 : (40 : Int32).toInt = 40 := rfl
  refine ⟨fun c_4 => ?_, fun c_4 => ?_⟩
  · have d_5 := iNe c_4
    have g_6 : (0 : Int) ≤ (I0 o 67).toInt ∧ (I0 o 67).toInt ≤ 40 := hR.at0 ra 67 (by decide)
    refine ⟨tIn (by omega) (by omega), fun I_7 e_8 => ?_⟩
    have hR_9 : RI R I_7 := hR.up ra 36 (by decide) (Or.inl rfl) e_8 (i_lo _) (i_hi _)
    have hf_10 : Fm (fun c => c = o ∨ (o + 36 ≤ c ∧ c < o + 42)) I0 I_7 := hf.set (by first | rfl | omega | (dsimp only; omega)) e_8
    have t_11 : (I_7 o 67).toInt = (I0 o 67).toInt := by rw [← e_8, q_u_ne (by omega)]
    have k_12 : MFac I_7 o := hq1.put36 e_8 (by have cl := tCl (x := (I0 o 67)) (by omega); omega)
    have x_13 : I_7 (o + 36) ((I0 o 67) : Int32).toNatClampNeg = p1 := by rw [← e_8, q_u_at]
    have g_14 : (0 : Int) ≤ (I_7 o 67).toInt ∧ (I_7 o 67).toInt ≤ 40 := hR_9.at0 ra 67 (by decide)
    refine ⟨tIn (by omega) (by omega), fun I_15 e_16 => ?_⟩
    have hR_17 : RI R I_15 := hR_9.up ra 37 (by decide) (Or.inl rfl) e_16 (i_lo _) (i_hi _)
    have hf_18 : Fm (fun c => c = o ∨ (o + 36 ≤ c ∧ c < o + 42)) I0 I_15 := hf_10.set (by first | rfl | omega | (dsimp only; omega)) e_16
    have t_19 : (I_15 o 67).toInt = (I_7 o 67).toInt := by rw [← e_16, q_u_ne (by omega)]
    have k_20 : MFac I_15 o := k_12.fr (by rw [← e_16]; exact q_u_ne (by omega)) (by rw [← e_16]; exact q_u_ne (by omega)) (by rw [← e_16, q_u_ne (by omega)])
    have x_21 : I_15 (o + 36) ((I0 o 67) : Int32).toNatClampNeg = p1 := by rw [← e_16, q_u_ne (by omega)]; exact x_13
    have g_22 : (0 : Int) ≤ (I_15 o 67).toInt ∧ (I_15 o 67).toInt ≤ 40 := hR_17.at0 ra 67 (by decide)
    refine ⟨tIn (by omega) (by omega), fun I_23 e_24 => ?_⟩
    have hR_25 : RI R I_23 := hR_17.up ra 38 (by decide) (Or.inl rfl) e_24 (i_lo _) (i_hi _)
    have hf_26 : Fm (fun c => c = o ∨ (o + 36 ≤ c ∧ c < o + 42)) I0 I_23 := hf_18.set (by first | rfl | omega | (dsimp only; omega)) e_24
    have t_27 : (I_23 o 67).toInt = (I_15 o 67).toInt := by rw [← e_24, q_u_ne (by omega)]
    have k_28 : MFac I_23 o := k_20.fr (by rw [← e_24]; exact q_u_ne (by omega)) (by rw [← e_24]; exact q_u_ne (by omega)) (by rw [← e_24, q_u_ne (by omega)])
    have x_29 : I_23 (o + 36) ((I0 o 67) : Int32).toNatClampNeg = p1 := by rw [← e_24, q_u_ne (by omega)]; exact x_21
    have g_30 : (0 : Int) ≤ (I_23 o 67).toInt ∧ (I_23 o 67).toInt ≤ 40 := hR_25.at0 ra 67 (by decide)
    refine ⟨tIn (by omega) (by omega), fun I_31 e_32 => ?_⟩
    have hR_33 : RI R I_31 := hR_25.up ra 39 (by decide) (Or.inl rfl) e_32 (i_lo _) (i_hi _)
    have hf_34 : Fm (fun c => c = o ∨ (o + 36 ≤ c ∧ c < o + 42)) I0 I_31 := hf_26.set (by first | rfl | omega | (dsimp only; omega)) e_32
    have t_35 : (I_31 o 67).toInt = (I_23 o 67).toInt := by rw [← e_32, q_u_ne (by omega)]
    have k_36 : MFac I_31 o := k_28.put39 e_32 (by have cl := tCl (x := (I_23 o 67)) (by omega); omega)
    have x_37 : I_31 (o + 36) ((I0 o 67) : Int32).toNatClampNeg = p1 := by rw [← e_32, q_u_ne (by omega)]; exact x_29
    have x_38 : I_31 (o + 39) ((I_23 o 67) : Int32).toNatClampNeg = p4 := by rw [← e_32, q_u_at]
    have g_39 : (0 : Int) ≤ (I_31 o 67).toInt ∧ (I_31 o 67).toInt ≤ 40 := hR_33.at0 ra 67 (by decide)
    have g_40 : (0 : Int) ≤ (I_31 o 68).toInt ∧ (I_31 o 68).toInt ≤ 100000 := hR_33.at0 ra 68 (by decide)
    refine ⟨tIn (by omega) (by omega), fun I_41 e_42 => ?_⟩
    have hR_43 : RI R I_41 := hR_33.up ra 40 (by decide) (Or.inl rfl) e_42 (i_lo _) (i_hi _)
    have hf_44 : Fm (fun c => c = o ∨ (o + 36 ≤ c ∧ c < o + 42)) I0 I_41 := hf_34.set (by first | rfl | omega | (dsimp only; omega)) e_42
    have t_45 : (I_41 o 67).toInt = (I_31 o 67).toInt := by rw [← e_42, q_u_ne (by omega)]
    have t_46 : (I_41 o 68).toInt = (I_31 o 68).toInt := by rw [← e_42, q_u_ne (by omega)]
    have k_47 : MFac I_41 o := k_36.fr (by rw [← e_42]; exact q_u_ne (by omega)) (by rw [← e_42]; exact q_u_ne (by omega)) (by rw [← e_42, q_u_ne (by omega)])
    have x_48 : I_41 (o + 36) ((I0 o 67) : Int32).toNatClampNeg = p1 := by rw [← e_42, q_u_ne (by omega)]; exact x_37
    have x_49 : I_41 (o + 39) ((I_23 o 67) : Int32).toNatClampNeg = p4 := by rw [← e_42, q_u_ne (by omega)]; exact x_38
    have g_50 : (0 : Int) ≤ (I_41 o 67).toInt ∧ (I_41 o 67).toInt ≤ 40 := hR_43.at0 ra 67 (by decide)
    have l_51 : (-1 : Int32).toInt = -1 := rfl
    refine ⟨tIn (by omega) (by omega), fun I_52 e_53 => ?_⟩
    have hR_54 : RI R I_52 := hR_43.up ra 41 (by decide) (Or.inl rfl) e_53 (i_lo _) (i_hi _)
    have hf_55 : Fm (fun c => c = o ∨ (o + 36 ≤ c ∧ c < o + 42)) I0 I_52 := hf_44.set (by first | rfl | omega | (dsimp only; omega)) e_53
    have t_56 : (I_52 o 67).toInt = (I_41 o 67).toInt := by rw [← e_53, q_u_ne (by omega)]
    have t_57 : (I_52 o 68).toInt = (I_41 o 68).toInt := by rw [← e_53, q_u_ne (by omega)]
    have k_58 : MFac I_52 o := k_47.fr (by rw [← e_53]; exact q_u_ne (by omega)) (by rw [← e_53]; exact q_u_ne (by omega)) (by rw [← e_53, q_u_ne (by omega)])
    have x_59 : I_52 (o + 36) ((I0 o 67) : Int32).toNatClampNeg = p1 := by rw [← e_53, q_u_ne (by omega)]; exact x_48
    have x_60 : I_52 (o + 39) ((I_23 o 67) : Int32).toNatClampNeg = p4 := by rw [← e_53, q_u_ne (by omega)]; exact x_49
    have g_61 : (0 : Int) ≤ (I_52 o 67).toInt ∧ (I_52 o 67).toInt ≤ 40 := hR_54.at0 ra 67 (by decide)
    have l_62 : (1 : Int32).toInt = 1 := rfl
    have a_63 : ((I_52 o 67) + 1).toInt = (I_52 o 67).toInt + (1 : Int32).toInt := tAdd (by omega) (by omega)
    refine fun I_64 e_65 => ?_
    have hR_66 : RI R I_64 := hR_54.up0 (k := 67) ra (by decide) (Or.inr hz77) e_65 (show (0 : Int) ≤ ((I_52 o 67) + 1).toInt by omega) (show ((I_52 o 67) + 1).toInt ≤ (40 : Int) by omega)
    have hf_67 : Fm (fun c => c = o ∨ (o + 36 ≤ c ∧ c < o + 42)) I0 I_64 := hf_55.set (by first | rfl | omega | (dsimp only; omega)) e_65
    have t_68 : (I_64 o 67).toInt = ((I_52 o 67) + 1).toInt := by rw [← e_65, q_u_at]
    have t_69 : (I_64 o 68).toInt = (I_52 o 68).toInt := by rw [← e_65, q_u_k (by decide)]
    have x_71 : I_64 (o + 36) ((I0 o 67) : Int32).toNatClampNeg = p1 := by rw [← e_65, q_u_ne (by omega)]; exact x_59
    have x_72 : I_64 (o + 39) ((I_23 o 67) : Int32).toNatClampNeg = p4 := by rw [← e_65, q_u_ne (by omega)]; exact x_60
    have g_73 : (0 : Int) ≤ (I_64 o 67).toInt ∧ (I_64 o 67).toInt ≤ 40 := hR_66.at0 ra 67 (by decide)
    have a_74 : ((I_64 o 67) - 1).toInt = (I_64 o 67).toInt - (1 : Int32).toInt := tSub (by omega) (by omega)
    exact (hp _ _ _ hR_66 hf_67  (MFac.inc k_58 e_65 (by omega) x_59 x_60 (by have cl := tCl (x := (I0 o 67)) (by omega); omega) (by have cl := tCl (x := (I_23 o 67)) (by omega); omega) hq0))
  · have d_75 := iEq c_4
    have l_76 : (-1 : Int32).toInt = -1 := rfl
    exact (hp _ _ _ hR hf  hq1)
theorem y_Model_fact {D : va_G} {cA : FieldType → ClassId} {b : Nat} {E : State → Prop} {R : qRg} {o n : Nat} {sh : Nat → qC} {Rf : Nat → Nat → Option Nat} {I0 : Nat → Nat → Int32} {L0 : Nat → Nat → Int64} {post : Option Value → qS → Prop} {p1 : Int32} {p2 : Int32} {p3 : Int32} {p4 : Int32} (hok : q_ok (qGG D cA b E)) (hw : WfModel (qGG D cA b E) n sh Rf o) (ra : RAModel R o) (hz77 : R.2 77 = true) (hq0 : Im (p1.toInt = 2) (-1 ≤ p4.toInt ∧ p4.toInt ≤ 5)) (hq1 : MFac I0 o) (hR : RI R I0) (hp : ∀ (r : Int32) (I' : Nat → Nat → Int32) (L' : Nat → Nat → Int64), RI R I' → Fm (fun c => c = o ∨ (o + 36 ≤ c ∧ c < o + 42)) I0 I' → Kp wModel_fact I0 I' o → (MFac I' o) → post (some (.int r)) (n, sh, Rf, I', L')) : Ev (qGG D cA b E) mModel_fact 0 (0, 0) 0 (lv_args 0 [.ref o, .int p1, .int p2, .int p3, .int p4]) [] (n, sh, Rf, I0, L0) post :=
  yc_Model_fact (R := fzR R I0 o wModel_fact) hok hw (fzA ra hR _) (fzT hz77 rfl) fzZ (fzI hR) hq0 hq1 (fzI hR) (fun r I' L' h1 h2 u0 => hp r I' L' (fzB hR h1) h2 (fzP h1) u0)
def wModel_weather : Nat → Bool := fun j => Nat.beq j 77 || false
set_option maxHeartbeats 4000000 in
set_option maxRecDepth 20000 in
theorem yc_Model_weather {D : va_G} {cA : FieldType → ClassId} {b : Nat} {E : State → Prop} {R : qRg} {o n : Nat} {sh : Nat → qC} {Rf : Nat → Nat → Option Nat} {I0 : Nat → Nat → Int32} {L0 : Nat → Nat → Int64} {post : Option Value → qS → Prop} {p1 : Int32} {p2 : Int32} {p3 : Int32} (hok : q_ok (qGG D cA b E)) (hw : WfModel (qGG D cA b E) n sh Rf o) (ra : RAModel R o) (hz77 : R.2 77 = true) (hZ : Fz R I0 o wModel_weather) (hR0 : RI R I0) (hq0 : MFac I0 o) (hR : RI R I0) (hp : ∀ (r : Int32) (I' : Nat → Nat → Int32) (L' : Nat → Nat → Int64), RI R I' → Fm (fun c => c = o ∨ (o + 36 ≤ c ∧ c < o + 42)) I0 I' → (MFac I' o) → post (some (.int r)) (n, sh, Rf, I', L')) : Ev (qGG D cA b E) mModel_weather 2 (0, 0) 0 (lv_args 0 [.ref o, .int p1, .int p2, .int p3]) [] (n, sh, Rf, I0, L0) post := by
  have hf : Fm (fun c => c = o ∨ (o + 36 ≤ c ∧ c < o + 42)) I0 I0 := Fm.rf
  refine sModel_weather_0 o n sh Rf I0 L0 post p1 p2 p3 hok hw ?_
  unfold fModel_weather_0
  refine y_Model_pans hok hw ra hR (fun r_1 u_2 => ⟨r_1, I0, L0, rfl, rfl, ?_⟩)
  have l_3 : (1 : Int32).toInt = 1 := rfl
  have a_4 : (r_1 - 1).toInt = r_1.toInt - (1 : Int32).toInt := tSub (by omega) (by omega)
  have l_5 : (0 : Int32).toInt = 0 := rfl
  refine y_Model_isIn hok hR (fun r_6 u_7 u_8 u_9 => ⟨r_6, I0, L0, rfl, rfl, ?_⟩)
  have b_10 : 0 ≤ r_6.toInt ∧ r_6.toInt ≤ 1 := u_7.rg
  refine ⟨fun c_11 => ?_, fun c_11 => ?_⟩
  · have d_12 := iEq c_11
    have l_13 : (-1 : Int32).toInt = -1 := rfl
    exact (hp _ _ _ hR hf  hq0)
  · have d_14 := iNe c_11
    refine y_Model_isMonth hok hR (fun r_15 u_16 => ⟨r_15, I0, L0, rfl, rfl, ?_⟩)
    have b_17 : 0 ≤ r_15.toInt ∧ r_15.toInt ≤ 1 := u_16.rg
    refine ⟨fun c_18 => ?_, fun c_18 => ?_⟩
    · have d_19 := iEq c_18
      have l_20 : (-1 : Int32).toInt = -1 := rfl
      exact (hp _ _ _ hR hf  hq0)
    · have d_21 := iNe c_18
      have l_22 : (300 : Int32).toInt = 300 := rfl
      refine y_Model_isIn hok hR (fun r_23 u_24 u_25 u_26 => ⟨r_23, I0, L0, rfl, rfl, ?_⟩)
      have b_27 : 0 ≤ r_23.toInt ∧ r_23.toInt ≤ 1 := u_24.rg
      refine ⟨fun c_28 => ?_, fun c_28 => ?_⟩
      · have d_29 := iEq c_28
        have l_30 : (-1 : Int32).toInt = -1 := rfl
        exact (hp _ _ _ hR hf  hq0)
      · have d_31 := iNe c_28
        refine y_Model_fact hok hw ra hz77 (by exact fun h => absurd h (by decide)) hq0 hR (fun r_32 I_34 L_35 hR_36 fr_37 kp_38 u_33 => ⟨r_32, I_34, L_35, rfl, rfl, ?_⟩)
        have hf_39 : Fm (fun c => c = o ∨ (o + 36 ≤ c ∧ c < o + 42)) I0 I_34 := hf.call fr_37 (fun c hc => by first | exact hc | (dsimp only at hc ⊢; omega) | omega)
        exact (hp _ _ _ hR_36 hf_39  u_33)
theorem y_Model_weather {D : va_G} {cA : FieldType → ClassId} {b : Nat} {E : State → Prop} {R : qRg} {o n : Nat} {sh : Nat → qC} {Rf : Nat → Nat → Option Nat} {I0 : Nat → Nat → Int32} {L0 : Nat → Nat → Int64} {post : Option Value → qS → Prop} {p1 : Int32} {p2 : Int32} {p3 : Int32} (hok : q_ok (qGG D cA b E)) (hw : WfModel (qGG D cA b E) n sh Rf o) (ra : RAModel R o) (hz77 : R.2 77 = true) (hq0 : MFac I0 o) (hR : RI R I0) (hp : ∀ (r : Int32) (I' : Nat → Nat → Int32) (L' : Nat → Nat → Int64), RI R I' → Fm (fun c => c = o ∨ (o + 36 ≤ c ∧ c < o + 42)) I0 I' → Kp wModel_weather I0 I' o → (MFac I' o) → post (some (.int r)) (n, sh, Rf, I', L')) : Ev (qGG D cA b E) mModel_weather 2 (0, 0) 0 (lv_args 0 [.ref o, .int p1, .int p2, .int p3]) [] (n, sh, Rf, I0, L0) post :=
  yc_Model_weather (R := fzR R I0 o wModel_weather) hok hw (fzA ra hR _) (fzT hz77 rfl) fzZ (fzI hR) hq0 (fzI hR) (fun r I' L' h1 h2 u0 => hp r I' L' (fzB hR h1) h2 (fzP h1) u0)
def wModel_forged : Nat → Bool := fun j => Nat.beq j 77 || false
set_option maxHeartbeats 4000000 in
set_option maxRecDepth 20000 in
theorem yc_Model_forged {D : va_G} {cA : FieldType → ClassId} {b : Nat} {E : State → Prop} {R : qRg} {o n : Nat} {sh : Nat → qC} {Rf : Nat → Nat → Option Nat} {I0 : Nat → Nat → Int32} {L0 : Nat → Nat → Int64} {post : Option Value → qS → Prop} {p1 : Int32} {p2 : Int32} (hok : q_ok (qGG D cA b E)) (hw : WfModel (qGG D cA b E) n sh Rf o) (ra : RAModel R o) (hz77 : R.2 77 = true) (hZ : Fz R I0 o wModel_forged) (hR0 : RI R I0) (hq0 : MFac I0 o) (hR : RI R I0) (hp : ∀ (r : Int32) (I' : Nat → Nat → Int32) (L' : Nat → Nat → Int64), RI R I' → Fm (fun c => c = o ∨ (o + 36 ≤ c ∧ c < o + 42)) I0 I' → (MFac I' o) → post (some (.int r)) (n, sh, Rf, I', L')) : Ev (qGG D cA b E) mModel_forged 2 (0, 0) 0 (lv_args 0 [.ref o, .int p1, .int p2]) [] (n, sh, Rf, I0, L0) post := by
  have hf : Fm (fun c => c = o ∨ (o + 36 ≤ c ∧ c < o + 42)) I0 I0 := Fm.rf
  refine sModel_forged_0 o n sh Rf I0 L0 post p1 p2 hok hw ?_
  unfold fModel_forged_0
  have l_1 : (0 : Int32).toInt = 0 := rfl
  have l_2 : (1999 : Int32).toInt = 1999 := rfl
  refine y_Model_isIn hok hR (fun r_3 u_4 u_5 u_6 => ⟨r_3, I0, L0, rfl, rfl, ?_⟩)
  have b_7 : 0 ≤ r_3.toInt ∧ r_3.toInt ≤ 1 := u_4.rg
  refine ⟨fun c_8 => ?_, fun c_8 => ?_⟩
  · have d_9 := iEq c_8
    have l_10 : (-1 : Int32).toInt = -1 := rfl
    exact (hp _ _ _ hR hf  hq0)
  · have d_11 := iNe c_8
    refine y_Model_isMonth hok hR (fun r_12 u_13 => ⟨r_12, I0, L0, rfl, rfl, ?_⟩)
    have b_14 : 0 ≤ r_12.toInt ∧ r_12.toInt ≤ 1 := u_13.rg
    refine ⟨fun c_15 => ?_, fun c_15 => ?_⟩
    · have d_16 := iEq c_15
      have l_17 : (-1 : Int32).toInt = -1 := rfl
      exact (hp _ _ _ hR hf  hq0)
    · have d_18 := iNe c_15
      have l_19 : (1 : Int32).toInt = 1 := rfl
      refine y_Model_fact hok hw ra hz77 (by exact fun h => absurd h (by decide)) hq0 hR (fun r_20 I_22 L_23 hR_24 fr_25 kp_26 u_21 => ⟨r_20, I_22, L_23, rfl, rfl, ?_⟩)
      have hf_27 : Fm (fun c => c = o ∨ (o + 36 ≤ c ∧ c < o + 42)) I0 I_22 := hf.call fr_25 (fun c hc => by first | exact hc | (dsimp only at hc ⊢; omega) | omega)
      exact (hp _ _ _ hR_24 hf_27  u_21)
theorem y_Model_forged {D : va_G} {cA : FieldType → ClassId} {b : Nat} {E : State → Prop} {R : qRg} {o n : Nat} {sh : Nat → qC} {Rf : Nat → Nat → Option Nat} {I0 : Nat → Nat → Int32} {L0 : Nat → Nat → Int64} {post : Option Value → qS → Prop} {p1 : Int32} {p2 : Int32} (hok : q_ok (qGG D cA b E)) (hw : WfModel (qGG D cA b E) n sh Rf o) (ra : RAModel R o) (hz77 : R.2 77 = true) (hq0 : MFac I0 o) (hR : RI R I0) (hp : ∀ (r : Int32) (I' : Nat → Nat → Int32) (L' : Nat → Nat → Int64), RI R I' → Fm (fun c => c = o ∨ (o + 36 ≤ c ∧ c < o + 42)) I0 I' → Kp wModel_forged I0 I' o → (MFac I' o) → post (some (.int r)) (n, sh, Rf, I', L')) : Ev (qGG D cA b E) mModel_forged 2 (0, 0) 0 (lv_args 0 [.ref o, .int p1, .int p2]) [] (n, sh, Rf, I0, L0) post :=
  yc_Model_forged (R := fzR R I0 o wModel_forged) hok hw (fzA ra hR _) (fzT hz77 rfl) fzZ (fzI hR) hq0 (fzI hR) (fun r I' L' h1 h2 u0 => hp r I' L' (fzB hR h1) h2 (fzP h1) u0)
def wModel_dead : Nat → Bool := fun j => Nat.beq j 77 || false
set_option maxHeartbeats 4000000 in
set_option maxRecDepth 20000 in
theorem yc_Model_dead {D : va_G} {cA : FieldType → ClassId} {b : Nat} {E : State → Prop} {R : qRg} {o n : Nat} {sh : Nat → qC} {Rf : Nat → Nat → Option Nat} {I0 : Nat → Nat → Int32} {L0 : Nat → Nat → Int64} {post : Option Value → qS → Prop} {p1 : Int32} {p2 : Int32} {p3 : Int32} (hok : q_ok (qGG D cA b E)) (hw : WfModel (qGG D cA b E) n sh Rf o) (ra : RAModel R o) (hz77 : R.2 77 = true) (hZ : Fz R I0 o wModel_dead) (hR0 : RI R I0) (hq0 : MFac I0 o) (hR : RI R I0) (hp : ∀ (r : Int32) (I' : Nat → Nat → Int32) (L' : Nat → Nat → Int64), RI R I' → Fm (fun c => c = o ∨ (o + 36 ≤ c ∧ c < o + 42)) I0 I' → (MFac I' o) → post (some (.int r)) (n, sh, Rf, I', L')) : Ev (qGG D cA b E) mModel_dead 2 (0, 0) 0 (lv_args 0 [.ref o, .int p1, .int p2, .int p3]) [] (n, sh, Rf, I0, L0) post := by
  have hf : Fm (fun c => c = o ∨ (o + 36 ≤ c ∧ c < o + 42)) I0 I0 := Fm.rf
  refine sModel_dead_0 o n sh Rf I0 L0 post p1 p2 p3 hok hw ?_
  unfold fModel_dead_0
  have g_1 : (0 : Int) ≤ (I0 o 66).toInt ∧ (I0 o 66).toInt ≤ 6 := hR.at0 ra 66 (by decide)
  have l_2 : (1 : Int32).toInt = 1 := rfl
  have a_3 : ((I0 o 66) - 1).toInt = (I0 o 66).toInt - (1 : Int32).toInt := tSub (by omega) (by omega)
  have l_4 : (0 : Int32).toInt = 0 := rfl
  refine y_Model_isIn hok hR (fun r_5 u_6 u_7 u_8 => ⟨r_5, I0, L0, rfl, rfl, ?_⟩)
  have b_9 : 0 ≤ r_5.toInt ∧ r_5.toInt ≤ 1 := u_6.rg
  refine ⟨fun c_10 => ?_, fun c_10 => ?_⟩
  · have d_11 := iEq c_10
    have l_12 : (-1 : Int32).toInt = -1 := rfl
    exact (hp _ _ _ hR hf  hq0)
  · have d_13 := iNe c_10
    have nz14 := u_7 (by omega)
    refine y_Model_isMonth hok hR (fun r_14 u_15 => ⟨r_14, I0, L0, rfl, rfl, ?_⟩)
    have b_16 : 0 ≤ r_14.toInt ∧ r_14.toInt ≤ 1 := u_15.rg
    refine ⟨fun c_17 => ?_, fun c_17 => ?_⟩
    · have d_18 := iEq c_17
      have l_19 : (-1 : Int32).toInt = -1 := rfl
      exact (hp _ _ _ hR hf  hq0)
    · have d_20 := iNe c_17
      have g_21 : (0 : Int) ≤ (I0 o 66).toInt ∧ (I0 o 66).toInt ≤ 6 := hR.at0 ra 66 (by decide)
      have a_22 : ((I0 o 66) - 1).toInt = (I0 o 66).toInt - (1 : Int32).toInt := tSub (by omega) (by omega)
      have l_23 : (-1 : Int32).toInt = -1 := rfl
      refine y_Model_isIn hok hR (fun r_24 u_25 u_26 u_27 => ⟨r_24, I0, L0, rfl, rfl, ?_⟩)
      have b_28 : 0 ≤ r_24.toInt ∧ r_24.toInt ≤ 1 := u_25.rg
      refine ⟨fun c_29 => ?_, fun c_29 => ?_⟩
      · have d_30 := iEq c_29
        exact (hp _ _ _ hR hf  hq0)
      · have d_31 := iNe c_29
        have nz35 := u_26 (by omega)
        refine ⟨fun c_32 => ?_, fun c_32 => ?_⟩
        · have d_33 := iEq c_32
          exact (hp _ _ _ hR hf  hq0)
        · have d_34 := iNe c_32
          have l_35 : (2 : Int32).toInt = 2 := rfl
          refine y_Model_fact hok hw ra hz77 (by exact fun _ => by omega) hq0 hR (fun r_36 I_38 L_39 hR_40 fr_41 kp_42 u_37 => ⟨r_36, I_38, L_39, rfl, rfl, ?_⟩)
          have hf_43 : Fm (fun c => c = o ∨ (o + 36 ≤ c ∧ c < o + 42)) I0 I_38 := hf.call fr_41 (fun c hc => by first | exact hc | (dsimp only at hc ⊢; omega) | omega)
          have t_44 : (I_38 o 66).toInt = (I0 o 66).toInt := by rw [kp_42 66 rfl]
          exact (hp _ _ _ hR_40 hf_43  u_37)
theorem y_Model_dead {D : va_G} {cA : FieldType → ClassId} {b : Nat} {E : State → Prop} {R : qRg} {o n : Nat} {sh : Nat → qC} {Rf : Nat → Nat → Option Nat} {I0 : Nat → Nat → Int32} {L0 : Nat → Nat → Int64} {post : Option Value → qS → Prop} {p1 : Int32} {p2 : Int32} {p3 : Int32} (hok : q_ok (qGG D cA b E)) (hw : WfModel (qGG D cA b E) n sh Rf o) (ra : RAModel R o) (hz77 : R.2 77 = true) (hq0 : MFac I0 o) (hR : RI R I0) (hp : ∀ (r : Int32) (I' : Nat → Nat → Int32) (L' : Nat → Nat → Int64), RI R I' → Fm (fun c => c = o ∨ (o + 36 ≤ c ∧ c < o + 42)) I0 I' → Kp wModel_dead I0 I' o → (MFac I' o) → post (some (.int r)) (n, sh, Rf, I', L')) : Ev (qGG D cA b E) mModel_dead 2 (0, 0) 0 (lv_args 0 [.ref o, .int p1, .int p2, .int p3]) [] (n, sh, Rf, I0, L0) post :=
  yc_Model_dead (R := fzR R I0 o wModel_dead) hok hw (fzA ra hR _) (fzT hz77 rfl) fzZ (fzI hR) hq0 (fzI hR) (fun r I' L' h1 h2 u0 => hp r I' L' (fzB hR h1) h2 (fzP h1) u0)
def wModel_clear : Nat → Bool := fun j => Nat.beq j 114 || Nat.beq j 115 || false
set_option maxHeartbeats 4000000 in
set_option maxRecDepth 20000 in
theorem yModel_clear_187 {D : va_G} {cA : FieldType → ClassId} {b : Nat} {E : State → Prop} {R : qRg} {o n : Nat} {sh : Nat → qC} {Rf : Nat → Nat → Option Nat} {I0 : Nat → Nat → Int32} {L0 : Nat → Nat → Int64} {post : Option Value → qS → Prop} (hok : q_ok (qGG D cA b E)) (hw : WfModel (qGG D cA b E) n sh Rf o) (ra : RAModel R o) (hz114 : R.2 114 = true) (hz115 : R.2 115 = true) (hZ : Fz R I0 o wModel_clear) (hR0 : RI R I0) (hq0 : MFac I0 o) (hp : ∀ (I' : Nat → Nat → Int32) (L' : Nat → Nat → Int64), RI R I' → Fm (fun c => c = o ∨ c = o + 42 ∨ c = o + 44 ∨ c = o + 45 ∨ (o + 48 ≤ c ∧ c < o + 51)) I0 I' → ((I' o 104).toInt = 0) → ((I' o 105).toInt = 0) → (MFac I' o) → post none (n, sh, Rf, I', L')) {k148 : Nat} (ho148 : ∀ {x1 : Int32} {I : Nat → Nat → Int32} {L : Nat → Nat → Int64}, RI R I → Fm (fun c => c = o ∨ c = o + 42 ∨ c = o + 44 ∨ c = o + 45 ∨ (o + 48 ≤ c ∧ c < o + 51)) I0 I → ((0 : Int) ≤ x1.toInt ∧ x1.toInt ≤ 6) → ((I o 104).toInt = 0) → ((I o 105).toInt = 0) → (MFac I o) → (6 - x1.toInt).toNat < k148 → Ev (qGG D cA b E) mModel_clear 1 (0, 0) 148 [(0, .ref o), (1, .int x1)] [] (n, sh, Rf, I, L) post) : ∀ (k : Nat) {x1 : Int32} {x2 : Int32} {I : Nat → Nat → Int32} {L : Nat → Nat → Int64}, RI R I → Fm (fun c => c = o ∨ c = o + 42 ∨ c = o + 44 ∨ c = o + 45 ∨ (o + 48 ≤ c ∧ c < o + 51)) I0 I → ((0 : Int) ≤ x2.toInt ∧ x2.toInt ≤ 40) → ((0 : Int) ≤ x1.toInt ∧ x1.toInt ≤ 5) → ((I o 104).toInt = 0) → ((I o 105).toInt = 0) → ((6 - x1.toInt).toNat < k148 + 1) → (MFac I o) → (40 - x2.toInt).toNat < k → Ev (qGG D cA b E) mModel_clear 1 (0, 0) 187 [(0, .ref o), (1, .int x1), (2, .int x2)] [] (n, sh, Rf, I, L) post := by
  intro k
  induction k with
  | zero =>
    intro x1 x2 I L hR hf hi0 hi1 hi2 hi3 hi4 hi5 hm
    exact absurd hm (Nat.not_lt_zero _)
  | succ k ih =>
    intro x1 x2 I L hR hf hi0 hi1 hi2 hi3 hi4 hi5 hm
    have g_1 : (0 : Int) ≤ (I o 104).toInt ∧ (I o 104).toInt ≤ 2000 := hR.at0 ra 104 (by decide)
    have g_2 : (0 : Int) ≤ (I0 o 104).toInt ∧ (I0 o 104).toInt ≤ 2000 := hR0.at0 ra 104 (by decide)
    have g_3 : (0 : Int) ≤ (I o 105).toInt ∧ (I o 105).toInt ≤ 4000 := hR.at0 ra 105 (by decide)
    have g_4 : (0 : Int) ≤ (I0 o 105).toInt ∧ (I0 o 105).toInt ≤ 4000 := hR0.at0 ra 105 (by decide)
    refine sModel_clear_187 o n sh Rf I L post x1 x2 hok hw ?_
    unfold fModel_clear_187
    have g_5 : (0 : Int) ≤ (I o 67).toInt ∧ (I o 67).toInt ≤ 40 := hR.at0 ra 67 (by decide)
    refine ⟨fun c_6 => ?_, fun c_6 => ?_⟩
    · have d_7 := iLe c_6
      have a_9 : (x1 + Int32.ofInt 1).toInt = x1.toInt + (1) := tIc (by omega) (by omega) (by decide) (by decide)
      generalize ez_8 : (x1 + Int32.ofInt 1) = z_8 at a_9 ⊢
      exact ho148 hR hf (by first | omega | (intro h; omega) | exact Or.inl rfl | exact Or.inr rfl) (by first | omega | (intro h; omega) | exact Or.inl rfl | exact Or.inr rfl) (by first | omega | (intro h; omega) | exact Or.inl rfl | exact Or.inr rfl) hi5 (by omega)
    · have d_10 := iNle c_6
      have l_11 : (2 : Int32).toInt = 2 := rfl
      refine y_Model_counts hok hw ra (by first | omega | (intro h; omega) | exact Or.inl rfl | exact Or.inr rfl) hR (fun r_12 u_13 u_14 => ⟨r_12, I, L, rfl, rfl, ?_⟩)
      have b_15 : 0 ≤ r_12.toInt ∧ r_12.toInt ≤ 1 := u_13.rg
      have l_16 : (0 : Int32).toInt = 0 := rfl
      refine ⟨fun c_17 => ?_, fun c_17 => ?_⟩
      · have d_18 := iEq c_17
        unfold fModel_clear_256
        have a_20 : (x2 + Int32.ofInt 1).toInt = x2.toInt + (1) := tIc (by omega) (by omega) (by decide) (by decide)
        generalize ez_19 : (x2 + Int32.ofInt 1) = z_19 at a_20 ⊢
        exact ih hR hf (by first | omega | (intro h; omega) | exact Or.inl rfl | exact Or.inr rfl) (by first | omega | (intro h; omega) | exact Or.inl rfl | exact Or.inr rfl) (by first | omega | (intro h; omega) | exact Or.inl rfl | exact Or.inr rfl) (by first | omega | (intro h; omega) | exact Or.inl rfl | exact Or.inr rfl) (by first | omega | (intro h; omega) | exact Or.inl rfl | exact Or.inr rfl) hi5 (by omega)
      · have d_21 := iNe c_17
        have cl := tCl (x := x2) (by omega)
        have fk := (hi5 x2.toNatClampNeg (by omega)) (by have := u_14 (by omega); omega)
        refine ⟨tIn (by omega) (by omega), ?_⟩
        refine ⟨fun c_22 => ?_, fun c_22 => ?_⟩
        · have d_23 := iNe c_22
          unfold fModel_clear_256
          have a_25 : (x2 + Int32.ofInt 1).toInt = x2.toInt + (1) := tIc (by omega) (by omega) (by decide) (by decide)
          generalize ez_24 : (x2 + Int32.ofInt 1) = z_24 at a_25 ⊢
          exact ih hR hf (by first | omega | (intro h; omega) | exact Or.inl rfl | exact Or.inr rfl) (by first | omega | (intro h; omega) | exact Or.inl rfl | exact Or.inr rfl) (by first | omega | (intro h; omega) | exact Or.inl rfl | exact Or.inr rfl) (by first | omega | (intro h; omega) | exact Or.inl rfl | exact Or.inr rfl) (by first | omega | (intro h; omega) | exact Or.inl rfl | exact Or.inr rfl) hi5 (by omega)
        · have d_26 := iEq c_22
          refine ⟨tIn (by omega) (by omega), ?_⟩
          refine ⟨tIn (by omega) (by omega), ?_⟩
          refine ⟨fun c_27 => ?_, fun c_27 => ?_⟩
          · have d_28 := iLe c_27
            refine ⟨tIn (by omega) (by omega), ?_⟩
            refine ⟨tIn (by omega) (by omega), fun I_29 e_30 => ?_⟩
            have hR_31 : RI R I_29 := hR.up ra 49 (by decide) (Or.inl rfl) e_30 (i_lo _) (i_hi _)
            have hf_32 : Fm (fun c => c = o ∨ c = o + 42 ∨ c = o + 44 ∨ c = o + 45 ∨ (o + 48 ≤ c ∧ c < o + 51)) I0 I_29 := hf.set (by first | rfl | omega | (dsimp only; omega)) e_30
            have t_33 : (I_29 o 104).toInt = (I o 104).toInt := by rw [← e_30, q_u_ne (by omega)]
            have t_34 : (I_29 o 105).toInt = (I o 105).toInt := by rw [← e_30, q_u_ne (by omega)]
            have t_35 : (I_29 o 67).toInt = (I o 67).toInt := by rw [← e_30, q_u_ne (by omega)]
            have k_36 : MFac I_29 o := hi5.fr (by rw [← e_30]; exact q_u_ne (by omega)) (by rw [← e_30]; exact q_u_ne (by omega)) (by rw [← e_30, q_u_ne (by omega)])
            have v2 : (I_29 (o + 39) x2.toNatClampNeg).toInt = (I (o + 39) x2.toNatClampNeg).toInt := by rw [hf_32 (o + 39) (by first | omega | (dsimp only; omega)), hf (o + 39) (by first | omega | (dsimp only; omega))]
            refine ⟨tIn (by omega) (by omega), ?_⟩
            refine ⟨tIn (by omega) (by omega), fun I_37 e_38 => ?_⟩
            have hR_39 : RI R I_37 := hR_31.up ra 50 (by decide) (Or.inl rfl) e_38 (show (-1 : Int) ≤ (I_29 (o + 39) (x2 : Int32).toNatClampNeg).toInt by omega) (show (I_29 (o + 39) (x2 : Int32).toNatClampNeg).toInt ≤ (5 : Int) by omega)
            have hf_40 : Fm (fun c => c = o ∨ c = o + 42 ∨ c = o + 44 ∨ c = o + 45 ∨ (o + 48 ≤ c ∧ c < o + 51)) I0 I_37 := hf_32.set (by first | rfl | omega | (dsimp only; omega)) e_38
            have t_41 : (I_37 o 104).toInt = (I_29 o 104).toInt := by rw [← e_38, q_u_ne (by omega)]
            have t_42 : (I_37 o 105).toInt = (I_29 o 105).toInt := by rw [← e_38, q_u_ne (by omega)]
            have t_43 : (I_37 o 67).toInt = (I_29 o 67).toInt := by rw [← e_38, q_u_ne (by omega)]
            have k_44 : MFac I_37 o := k_36.fr (by rw [← e_38]; exact q_u_ne (by omega)) (by rw [← e_38]; exact q_u_ne (by omega)) (by rw [← e_38, q_u_ne (by omega)])
            unfold fModel_clear_256
            have a_46 : (x2 + Int32.ofInt 1).toInt = x2.toInt + (1) := tIc (by omega) (by omega) (by decide) (by decide)
            generalize ez_45 : (x2 + Int32.ofInt 1) = z_45 at a_46 ⊢
            exact ih hR_39 hf_40 (by first | omega | (intro h; omega) | exact Or.inl rfl | exact Or.inr rfl) (by first | omega | (intro h; omega) | exact Or.inl rfl | exact Or.inr rfl) (by first | omega | (intro h; omega) | exact Or.inl rfl | exact Or.inr rfl) (by first | omega | (intro h; omega) | exact Or.inl rfl | exact Or.inr rfl) (by first | omega | (intro h; omega) | exact Or.inl rfl | exact Or.inr rfl) k_44 (by omega)
          · have d_47 := iNle c_27
            unfold fModel_clear_256
            have a_49 : (x2 + Int32.ofInt 1).toInt = x2.toInt + (1) := tIc (by omega) (by omega) (by decide) (by decide)
            generalize ez_48 : (x2 + Int32.ofInt 1) = z_48 at a_49 ⊢
            exact ih hR hf (by first | omega | (intro h; omega) | exact Or.inl rfl | exact Or.inr rfl) (by first | omega | (intro h; omega) | exact Or.inl rfl | exact Or.inr rfl) (by first | omega | (intro h; omega) | exact Or.inl rfl | exact Or.inr rfl) (by first | omega | (intro h; omega) | exact Or.inl rfl | exact Or.inr rfl) (by first | omega | (intro h; omega) | exact Or.inl rfl | exact Or.inr rfl) hi5 (by omega)
set_option maxHeartbeats 4000000 in
set_option maxRecDepth 20000 in
theorem yModel_clear_148 {D : va_G} {cA : FieldType → ClassId} {b : Nat} {E : State → Prop} {R : qRg} {o n : Nat} {sh : Nat → qC} {Rf : Nat → Nat → Option Nat} {I0 : Nat → Nat → Int32} {L0 : Nat → Nat → Int64} {post : Option Value → qS → Prop} (hok : q_ok (qGG D cA b E)) (hw : WfModel (qGG D cA b E) n sh Rf o) (ra : RAModel R o) (hz114 : R.2 114 = true) (hz115 : R.2 115 = true) (hZ : Fz R I0 o wModel_clear) (hR0 : RI R I0) (hq0 : MFac I0 o) (hp : ∀ (I' : Nat → Nat → Int32) (L' : Nat → Nat → Int64), RI R I' → Fm (fun c => c = o ∨ c = o + 42 ∨ c = o + 44 ∨ c = o + 45 ∨ (o + 48 ≤ c ∧ c < o + 51)) I0 I' → ((I' o 104).toInt = 0) → ((I' o 105).toInt = 0) → (MFac I' o) → post none (n, sh, Rf, I', L')) : ∀ (k : Nat) {x1 : Int32} {I : Nat → Nat → Int32} {L : Nat → Nat → Int64}, RI R I → Fm (fun c => c = o ∨ c = o + 42 ∨ c = o + 44 ∨ c = o + 45 ∨ (o + 48 ≤ c ∧ c < o + 51)) I0 I → ((0 : Int) ≤ x1.toInt ∧ x1.toInt ≤ 6) → ((I o 104).toInt = 0) → ((I o 105).toInt = 0) → (MFac I o) → (6 - x1.toInt).toNat < k → Ev (qGG D cA b E) mModel_clear 1 (0, 0) 148 [(0, .ref o), (1, .int x1)] [] (n, sh, Rf, I, L) post := by
  intro k
  induction k with
  | zero =>
    intro x1 I L hR hf hi0 hi1 hi2 hi3 hm
    exact absurd hm (Nat.not_lt_zero _)
  | succ k ih =>
    intro x1 I L hR hf hi0 hi1 hi2 hi3 hm
    have g_50 : (0 : Int) ≤ (I o 104).toInt ∧ (I o 104).toInt ≤ 2000 := hR.at0 ra 104 (by decide)
    have g_51 : (0 : Int) ≤ (I0 o 104).toInt ∧ (I0 o 104).toInt ≤ 2000 := hR0.at0 ra 104 (by decide)
    have g_52 : (0 : Int) ≤ (I o 105).toInt ∧ (I o 105).toInt ≤ 4000 := hR.at0 ra 105 (by decide)
    have g_53 : (0 : Int) ≤ (I0 o 105).toInt ∧ (I0 o 105).toInt ≤ 4000 := hR0.at0 ra 105 (by decide)
    refine sModel_clear_148 o n sh Rf I L post x1 hok hw ?_
    unfold fModel_clear_148
    have g_54 : (0 : Int) ≤ (I o 66).toInt ∧ (I o 66).toInt ≤ 6 := hR.at0 ra 66 (by decide)
    refine ⟨fun c_55 => ?_, fun c_55 => ?_⟩
    · have d_56 := iLe c_55
      exact (hp _ _ hR hf (by first | omega | (intro h; omega) | exact Or.inl rfl | exact Or.inr rfl) (by first | omega | (intro h; omega) | exact Or.inl rfl | exact Or.inr rfl) hi3)
    · have d_57 := iNle c_55
      refine ⟨tIn (by omega) (by omega), ?_⟩
      refine ⟨tIn (by omega) (by omega), fun L_58 e_59 => ?_⟩
      have l_60 : (1000000 : Int32).toInt = 1000000 := rfl
      refine ⟨tIn (by omega) (by omega), fun I_61 e_62 => ?_⟩
      have hR_63 : RI R I_61 := hR.up ra 49 (by decide) (Or.inl rfl) e_62 (i_lo _) (i_hi _)
      have hf_64 : Fm (fun c => c = o ∨ c = o + 42 ∨ c = o + 44 ∨ c = o + 45 ∨ (o + 48 ≤ c ∧ c < o + 51)) I0 I_61 := hf.set (by first | rfl | omega | (dsimp only; omega)) e_62
      have t_65 : (I_61 o 104).toInt = (I o 104).toInt := by rw [← e_62, q_u_ne (by omega)]
      have t_66 : (I_61 o 105).toInt = (I o 105).toInt := by rw [← e_62, q_u_ne (by omega)]
      have t_67 : (I_61 o 66).toInt = (I o 66).toInt := by rw [← e_62, q_u_ne (by omega)]
      have k_68 : MFac I_61 o := hi3.fr (by rw [← e_62]; exact q_u_ne (by omega)) (by rw [← e_62]; exact q_u_ne (by omega)) (by rw [← e_62, q_u_ne (by omega)])
      have l_69 : (-1 : Int32).toInt = -1 := rfl
      refine ⟨tIn (by omega) (by omega), fun I_70 e_71 => ?_⟩
      have hR_72 : RI R I_70 := hR_63.up ra 50 (by decide) (Or.inl rfl) e_71 (show (-1 : Int) ≤ ((-1) : Int32).toInt by omega) (show ((-1) : Int32).toInt ≤ (5 : Int) by omega)
      have hf_73 : Fm (fun c => c = o ∨ c = o + 42 ∨ c = o + 44 ∨ c = o + 45 ∨ (o + 48 ≤ c ∧ c < o + 51)) I0 I_70 := hf_64.set (by first | rfl | omega | (dsimp only; omega)) e_71
      have t_74 : (I_70 o 104).toInt = (I_61 o 104).toInt := by rw [← e_71, q_u_ne (by omega)]
      have t_75 : (I_70 o 105).toInt = (I_61 o 105).toInt := by rw [← e_71, q_u_ne (by omega)]
      have t_76 : (I_70 o 66).toInt = (I_61 o 66).toInt := by rw [← e_71, q_u_ne (by omega)]
      have k_77 : MFac I_70 o := k_68.fr (by rw [← e_71]; exact q_u_ne (by omega)) (by rw [← e_71]; exact q_u_ne (by omega)) (by rw [← e_71, q_u_ne (by omega)])
      have l_78 : (0 : Int32).toInt = 0 := rfl
      exact yModel_clear_187 (I0 := I0) (L0 := L0) hok hw ra hz114 hz115 hZ hR0 hq0 hp ih _ hR_72 hf_73 (by first | omega | (intro h; omega) | exact Or.inl rfl | exact Or.inr rfl) (by first | omega | (intro h; omega) | exact Or.inl rfl | exact Or.inr rfl) (by first | omega | (intro h; omega) | exact Or.inl rfl | exact Or.inr rfl) (by first | omega | (intro h; omega) | exact Or.inl rfl | exact Or.inr rfl) (by first | omega | (intro h; omega) | exact Or.inl rfl | exact Or.inr rfl) k_77 (Nat.lt_succ_self _)
set_option maxHeartbeats 4000000 in
set_option maxRecDepth 20000 in
theorem yModel_clear_127 {D : va_G} {cA : FieldType → ClassId} {b : Nat} {E : State → Prop} {R : qRg} {o n : Nat} {sh : Nat → qC} {Rf : Nat → Nat → Option Nat} {I0 : Nat → Nat → Int32} {L0 : Nat → Nat → Int64} {post : Option Value → qS → Prop} (hok : q_ok (qGG D cA b E)) (hw : WfModel (qGG D cA b E) n sh Rf o) (ra : RAModel R o) (hz114 : R.2 114 = true) (hz115 : R.2 115 = true) (hZ : Fz R I0 o wModel_clear) (hR0 : RI R I0) (hq0 : MFac I0 o) (hp : ∀ (I' : Nat → Nat → Int32) (L' : Nat → Nat → Int64), RI R I' → Fm (fun c => c = o ∨ c = o + 42 ∨ c = o + 44 ∨ c = o + 45 ∨ (o + 48 ≤ c ∧ c < o + 51)) I0 I' → ((I' o 104).toInt = 0) → ((I' o 105).toInt = 0) → (MFac I' o) → post none (n, sh, Rf, I', L')) : ∀ (k : Nat) {x1 : Int32} {I : Nat → Nat → Int32} {L : Nat → Nat → Int64}, RI R I → Fm (fun c => c = o ∨ c = o + 42 ∨ c = o + 44 ∨ c = o + 45 ∨ (o + 48 ≤ c ∧ c < o + 51)) I0 I → ((0 : Int) ≤ x1.toInt ∧ x1.toInt ≤ 18) → ((I o 104).toInt = 0) → ((I o 105).toInt = 0) → (MFac I o) → (18 - x1.toInt).toNat < k → Ev (qGG D cA b E) mModel_clear 1 (0, 0) 127 [(0, .ref o), (1, .int x1)] [] (n, sh, Rf, I, L) post := by
  intro k
  induction k with
  | zero =>
    intro x1 I L hR hf hi0 hi1 hi2 hi3 hm
    exact absurd hm (Nat.not_lt_zero _)
  | succ k ih =>
    intro x1 I L hR hf hi0 hi1 hi2 hi3 hm
    have g_79 : (0 : Int) ≤ (I o 104).toInt ∧ (I o 104).toInt ≤ 2000 := hR.at0 ra 104 (by decide)
    have g_80 : (0 : Int) ≤ (I0 o 104).toInt ∧ (I0 o 104).toInt ≤ 2000 := hR0.at0 ra 104 (by decide)
    have g_81 : (0 : Int) ≤ (I o 105).toInt ∧ (I o 105).toInt ≤ 4000 := hR.at0 ra 105 (by decide)
    have g_82 : (0 : Int) ≤ (I0 o 105).toInt ∧ (I0 o 105).toInt ≤ 4000 := hR0.at0 ra 105 (by decide)
    refine sModel_clear_127 o n sh Rf I L post x1 hok hw ?_
    unfold fModel_clear_127
    have l_83 : (18 : Int32).toInt = 18 := rfl
    refine ⟨fun c_84 => ?_, fun c_84 => ?_⟩
    · have d_85 := iLe c_84
      have l_86 : (0 : Int32).toInt = 0 := rfl
      exact yModel_clear_148 (I0 := I0) (L0 := L0) hok hw ra hz114 hz115 hZ hR0 hq0 hp  _ hR hf (by first | omega | (intro h; omega) | exact Or.inl rfl | exact Or.inr rfl) (by first | omega | (intro h; omega) | exact Or.inl rfl | exact Or.inr rfl) (by first | omega | (intro h; omega) | exact Or.inl rfl | exact Or.inr rfl) hi3 (Nat.lt_succ_self _)
    · have d_87 := iNle c_84
      have l_88 : (-1 : Int32).toInt = -1 := rfl
      refine ⟨tIn (by omega) (by omega), fun I_89 e_90 => ?_⟩
      have hR_91 : RI R I_89 := hR.up ra 48 (by decide) (Or.inl rfl) e_90 (i_lo _) (i_hi _)
      have hf_92 : Fm (fun c => c = o ∨ c = o + 42 ∨ c = o + 44 ∨ c = o + 45 ∨ (o + 48 ≤ c ∧ c < o + 51)) I0 I_89 := hf.set (by first | rfl | omega | (dsimp only; omega)) e_90
      have t_93 : (I_89 o 104).toInt = (I o 104).toInt := by rw [← e_90, q_u_ne (by omega)]
      have t_94 : (I_89 o 105).toInt = (I o 105).toInt := by rw [← e_90, q_u_ne (by omega)]
      have k_95 : MFac I_89 o := hi3.fr (by rw [← e_90]; exact q_u_ne (by omega)) (by rw [← e_90]; exact q_u_ne (by omega)) (by rw [← e_90, q_u_ne (by omega)])
      have a_97 : (x1 + Int32.ofInt 1).toInt = x1.toInt + (1) := tIc (by omega) (by omega) (by decide) (by decide)
      generalize ez_96 : (x1 + Int32.ofInt 1) = z_96 at a_97 ⊢
      exact ih hR_91 hf_92 (by first | omega | (intro h; omega) | exact Or.inl rfl | exact Or.inr rfl) (by first | omega | (intro h; omega) | exact Or.inl rfl | exact Or.inr rfl) (by first | omega | (intro h; omega) | exact Or.inl rfl | exact Or.inr rfl) k_95 (by omega)
set_option maxHeartbeats 4000000 in
set_option maxRecDepth 20000 in
theorem yModel_clear_107 {D : va_G} {cA : FieldType → ClassId} {b : Nat} {E : State → Prop} {R : qRg} {o n : Nat} {sh : Nat → qC} {Rf : Nat → Nat → Option Nat} {I0 : Nat → Nat → Int32} {L0 : Nat → Nat → Int64} {post : Option Value → qS → Prop} (hok : q_ok (qGG D cA b E)) (hw : WfModel (qGG D cA b E) n sh Rf o) (ra : RAModel R o) (hz114 : R.2 114 = true) (hz115 : R.2 115 = true) (hZ : Fz R I0 o wModel_clear) (hR0 : RI R I0) (hq0 : MFac I0 o) (hp : ∀ (I' : Nat → Nat → Int32) (L' : Nat → Nat → Int64), RI R I' → Fm (fun c => c = o ∨ c = o + 42 ∨ c = o + 44 ∨ c = o + 45 ∨ (o + 48 ≤ c ∧ c < o + 51)) I0 I' → ((I' o 104).toInt = 0) → ((I' o 105).toInt = 0) → (MFac I' o) → post none (n, sh, Rf, I', L')) : ∀ (k : Nat) {x1 : Int32} {I : Nat → Nat → Int32} {L : Nat → Nat → Int64}, RI R I → Fm (fun c => c = o ∨ c = o + 42 ∨ c = o + 44 ∨ c = o + 45 ∨ (o + 48 ≤ c ∧ c < o + 51)) I0 I → ((0 : Int) ≤ x1.toInt ∧ x1.toInt ≤ 5) → ((I o 104).toInt = 0) → ((I o 105).toInt = 0) → (MFac I o) → (5 - x1.toInt).toNat < k → Ev (qGG D cA b E) mModel_clear 1 (0, 0) 107 [(0, .ref o), (1, .int x1)] [] (n, sh, Rf, I, L) post := by
  intro k
  induction k with
  | zero =>
    intro x1 I L hR hf hi0 hi1 hi2 hi3 hm
    exact absurd hm (Nat.not_lt_zero _)
  | succ k ih =>
    intro x1 I L hR hf hi0 hi1 hi2 hi3 hm
    have g_98 : (0 : Int) ≤ (I o 104).toInt ∧ (I o 104).toInt ≤ 2000 := hR.at0 ra 104 (by decide)
    have g_99 : (0 : Int) ≤ (I0 o 104).toInt ∧ (I0 o 104).toInt ≤ 2000 := hR0.at0 ra 104 (by decide)
    have g_100 : (0 : Int) ≤ (I o 105).toInt ∧ (I o 105).toInt ≤ 4000 := hR.at0 ra 105 (by decide)
    have g_101 : (0 : Int) ≤ (I0 o 105).toInt ∧ (I0 o 105).toInt ≤ 4000 := hR0.at0 ra 105 (by decide)
    refine sModel_clear_107 o n sh Rf I L post x1 hok hw ?_
    unfold fModel_clear_107
    have l_102 : (5 : Int32).toInt = 5 := rfl
    refine ⟨fun c_103 => ?_, fun c_103 => ?_⟩
    · have d_104 := iLe c_103
      have l_105 : (0 : Int32).toInt = 0 := rfl
      exact yModel_clear_127 (I0 := I0) (L0 := L0) hok hw ra hz114 hz115 hZ hR0 hq0 hp  _ hR hf (by first | omega | (intro h; omega) | exact Or.inl rfl | exact Or.inr rfl) (by first | omega | (intro h; omega) | exact Or.inl rfl | exact Or.inr rfl) (by first | omega | (intro h; omega) | exact Or.inl rfl | exact Or.inr rfl) hi3 (Nat.lt_succ_self _)
    · have d_106 := iNle c_103
      have l_107 : (0 : Int32).toInt = 0 := rfl
      refine ⟨tIn (by omega) (by omega), fun I_108 e_109 => ?_⟩
      have hR_110 : RI R I_108 := hR.up ra 45 (by decide) (Or.inl rfl) e_109 (i_lo _) (i_hi _)
      have hf_111 : Fm (fun c => c = o ∨ c = o + 42 ∨ c = o + 44 ∨ c = o + 45 ∨ (o + 48 ≤ c ∧ c < o + 51)) I0 I_108 := hf.set (by first | rfl | omega | (dsimp only; omega)) e_109
      have t_112 : (I_108 o 104).toInt = (I o 104).toInt := by rw [← e_109, q_u_ne (by omega)]
      have t_113 : (I_108 o 105).toInt = (I o 105).toInt := by rw [← e_109, q_u_ne (by omega)]
      have k_114 : MFac I_108 o := hi3.fr (by rw [← e_109]; exact q_u_ne (by omega)) (by rw [← e_109]; exact q_u_ne (by omega)) (by rw [← e_109, q_u_ne (by omega)])
      have a_116 : (x1 + Int32.ofInt 1).toInt = x1.toInt + (1) := tIc (by omega) (by omega) (by decide) (by decide)
      generalize ez_115 : (x1 + Int32.ofInt 1) = z_115 at a_116 ⊢
      exact ih hR_110 hf_111 (by first | omega | (intro h; omega) | exact Or.inl rfl | exact Or.inr rfl) (by first | omega | (intro h; omega) | exact Or.inl rfl | exact Or.inr rfl) (by first | omega | (intro h; omega) | exact Or.inl rfl | exact Or.inr rfl) k_114 (by omega)
set_option maxHeartbeats 4000000 in
set_option maxRecDepth 20000 in
theorem yModel_clear_87 {D : va_G} {cA : FieldType → ClassId} {b : Nat} {E : State → Prop} {R : qRg} {o n : Nat} {sh : Nat → qC} {Rf : Nat → Nat → Option Nat} {I0 : Nat → Nat → Int32} {L0 : Nat → Nat → Int64} {post : Option Value → qS → Prop} (hok : q_ok (qGG D cA b E)) (hw : WfModel (qGG D cA b E) n sh Rf o) (ra : RAModel R o) (hz114 : R.2 114 = true) (hz115 : R.2 115 = true) (hZ : Fz R I0 o wModel_clear) (hR0 : RI R I0) (hq0 : MFac I0 o) (hp : ∀ (I' : Nat → Nat → Int32) (L' : Nat → Nat → Int64), RI R I' → Fm (fun c => c = o ∨ c = o + 42 ∨ c = o + 44 ∨ c = o + 45 ∨ (o + 48 ≤ c ∧ c < o + 51)) I0 I' → ((I' o 104).toInt = 0) → ((I' o 105).toInt = 0) → (MFac I' o) → post none (n, sh, Rf, I', L')) : ∀ (k : Nat) {x1 : Int32} {I : Nat → Nat → Int32} {L : Nat → Nat → Int64}, RI R I → Fm (fun c => c = o ∨ c = o + 42 ∨ c = o + 44 ∨ c = o + 45 ∨ (o + 48 ≤ c ∧ c < o + 51)) I0 I → ((0 : Int) ≤ x1.toInt ∧ x1.toInt ≤ 3) → ((I o 104).toInt = 0) → ((I o 105).toInt = 0) → (MFac I o) → (3 - x1.toInt).toNat < k → Ev (qGG D cA b E) mModel_clear 1 (0, 0) 87 [(0, .ref o), (1, .int x1)] [] (n, sh, Rf, I, L) post := by
  intro k
  induction k with
  | zero =>
    intro x1 I L hR hf hi0 hi1 hi2 hi3 hm
    exact absurd hm (Nat.not_lt_zero _)
  | succ k ih =>
    intro x1 I L hR hf hi0 hi1 hi2 hi3 hm
    have g_117 : (0 : Int) ≤ (I o 104).toInt ∧ (I o 104).toInt ≤ 2000 := hR.at0 ra 104 (by decide)
    have g_118 : (0 : Int) ≤ (I0 o 104).toInt ∧ (I0 o 104).toInt ≤ 2000 := hR0.at0 ra 104 (by decide)
    have g_119 : (0 : Int) ≤ (I o 105).toInt ∧ (I o 105).toInt ≤ 4000 := hR.at0 ra 105 (by decide)
    have g_120 : (0 : Int) ≤ (I0 o 105).toInt ∧ (I0 o 105).toInt ≤ 4000 := hR0.at0 ra 105 (by decide)
    refine sModel_clear_87 o n sh Rf I L post x1 hok hw ?_
    unfold fModel_clear_87
    have l_121 : (3 : Int32).toInt = 3 := rfl
    refine ⟨fun c_122 => ?_, fun c_122 => ?_⟩
    · have d_123 := iLe c_122
      have l_124 : (0 : Int32).toInt = 0 := rfl
      exact yModel_clear_107 (I0 := I0) (L0 := L0) hok hw ra hz114 hz115 hZ hR0 hq0 hp  _ hR hf (by first | omega | (intro h; omega) | exact Or.inl rfl | exact Or.inr rfl) (by first | omega | (intro h; omega) | exact Or.inl rfl | exact Or.inr rfl) (by first | omega | (intro h; omega) | exact Or.inl rfl | exact Or.inr rfl) hi3 (Nat.lt_succ_self _)
    · have d_125 := iNle c_122
      have l_126 : (0 : Int32).toInt = 0 := rfl
      refine ⟨tIn (by omega) (by omega), fun I_127 e_128 => ?_⟩
      have hR_129 : RI R I_127 := hR.up ra 44 (by decide) (Or.inl rfl) e_128 (i_lo _) (i_hi _)
      have hf_130 : Fm (fun c => c = o ∨ c = o + 42 ∨ c = o + 44 ∨ c = o + 45 ∨ (o + 48 ≤ c ∧ c < o + 51)) I0 I_127 := hf.set (by first | rfl | omega | (dsimp only; omega)) e_128
      have t_131 : (I_127 o 104).toInt = (I o 104).toInt := by rw [← e_128, q_u_ne (by omega)]
      have t_132 : (I_127 o 105).toInt = (I o 105).toInt := by rw [← e_128, q_u_ne (by omega)]
      have k_133 : MFac I_127 o := hi3.fr (by rw [← e_128]; exact q_u_ne (by omega)) (by rw [← e_128]; exact q_u_ne (by omega)) (by rw [← e_128, q_u_ne (by omega)])
      have a_135 : (x1 + Int32.ofInt 1).toInt = x1.toInt + (1) := tIc (by omega) (by omega) (by decide) (by decide)
      generalize ez_134 : (x1 + Int32.ofInt 1) = z_134 at a_135 ⊢
      exact ih hR_129 hf_130 (by first | omega | (intro h; omega) | exact Or.inl rfl | exact Or.inr rfl) (by first | omega | (intro h; omega) | exact Or.inl rfl | exact Or.inr rfl) (by first | omega | (intro h; omega) | exact Or.inl rfl | exact Or.inr rfl) k_133 (by omega)
set_option maxHeartbeats 4000000 in
set_option maxRecDepth 20000 in
theorem yModel_clear_52 {D : va_G} {cA : FieldType → ClassId} {b : Nat} {E : State → Prop} {R : qRg} {o n : Nat} {sh : Nat → qC} {Rf : Nat → Nat → Option Nat} {I0 : Nat → Nat → Int32} {L0 : Nat → Nat → Int64} {post : Option Value → qS → Prop} (hok : q_ok (qGG D cA b E)) (hw : WfModel (qGG D cA b E) n sh Rf o) (ra : RAModel R o) (hz114 : R.2 114 = true) (hz115 : R.2 115 = true) (hZ : Fz R I0 o wModel_clear) (hR0 : RI R I0) (hq0 : MFac I0 o) (hp : ∀ (I' : Nat → Nat → Int32) (L' : Nat → Nat → Int64), RI R I' → Fm (fun c => c = o ∨ c = o + 42 ∨ c = o + 44 ∨ c = o + 45 ∨ (o + 48 ≤ c ∧ c < o + 51)) I0 I' → ((I' o 104).toInt = 0) → ((I' o 105).toInt = 0) → (MFac I' o) → post none (n, sh, Rf, I', L')) : ∀ (k : Nat) {x1 : Int32} {I : Nat → Nat → Int32} {L : Nat → Nat → Int64}, RI R I → Fm (fun c => c = o ∨ c = o + 42 ∨ c = o + 44 ∨ c = o + 45 ∨ (o + 48 ≤ c ∧ c < o + 51)) I0 I → ((0 : Int) ≤ x1.toInt ∧ x1.toInt ≤ 3) → ((I o 104).toInt = 0) → ((I o 105).toInt = 0) → (MFac I o) → (3 - x1.toInt).toNat < k → Ev (qGG D cA b E) mModel_clear 1 (0, 0) 52 [(0, .ref o), (1, .int x1)] [] (n, sh, Rf, I, L) post := by
  intro k
  induction k with
  | zero =>
    intro x1 I L hR hf hi0 hi1 hi2 hi3 hm
    exact absurd hm (Nat.not_lt_zero _)
  | succ k ih =>
    intro x1 I L hR hf hi0 hi1 hi2 hi3 hm
    have g_136 : (0 : Int) ≤ (I o 104).toInt ∧ (I o 104).toInt ≤ 2000 := hR.at0 ra 104 (by decide)
    have g_137 : (0 : Int) ≤ (I0 o 104).toInt ∧ (I0 o 104).toInt ≤ 2000 := hR0.at0 ra 104 (by decide)
    have g_138 : (0 : Int) ≤ (I o 105).toInt ∧ (I o 105).toInt ≤ 4000 := hR.at0 ra 105 (by decide)
    have g_139 : (0 : Int) ≤ (I0 o 105).toInt ∧ (I0 o 105).toInt ≤ 4000 := hR0.at0 ra 105 (by decide)
    refine sModel_clear_52 o n sh Rf I L post x1 hok hw ?_
    unfold fModel_clear_52
    refine y_Model_forts hok hw ra hR (fun r_140 u_141 => ⟨r_140, I, L, rfl, rfl, ?_⟩)
    refine ⟨fun c_142 => ?_, fun c_142 => ?_⟩
    · have d_143 := iLe c_142
      have l_144 : (0 : Int32).toInt = 0 := rfl
      exact yModel_clear_87 (I0 := I0) (L0 := L0) hok hw ra hz114 hz115 hZ hR0 hq0 hp  _ hR hf (by first | omega | (intro h; omega) | exact Or.inl rfl | exact Or.inr rfl) (by first | omega | (intro h; omega) | exact Or.inl rfl | exact Or.inr rfl) (by first | omega | (intro h; omega) | exact Or.inl rfl | exact Or.inr rfl) hi3 (Nat.lt_succ_self _)
    · have d_145 := iNle c_142
      have g_146 : (0 : Int) ≤ (I o 34).toInt ∧ (I o 34).toInt ≤ 1 := hR.at0 ra 34 (by decide)
      have l_147 : (3 : Int32).toInt = 3 := rfl
      have a_148 : (3 * (I o 34)).toInt = 3 * (I o 34).toInt := tMulL rfl (by omega) (by omega)
      have a_149 : ((3 * (I o 34)) + x1).toInt = (3 * (I o 34)).toInt + x1.toInt := tAdd (by omega) (by omega)
      refine ⟨tIn (by omega) (by omega), ?_⟩
      refine ⟨tIn (by omega) (by omega), fun I_150 e_151 => ?_⟩
      have hR_152 : RI R I_150 := hR.up ra 42 (by decide) (Or.inl rfl) e_151 (i_lo _) (i_hi _)
      have hf_153 : Fm (fun c => c = o ∨ c = o + 42 ∨ c = o + 44 ∨ c = o + 45 ∨ (o + 48 ≤ c ∧ c < o + 51)) I0 I_150 := hf.set (by first | rfl | omega | (dsimp only; omega)) e_151
      have t_154 : (I_150 o 104).toInt = (I o 104).toInt := by rw [← e_151, q_u_ne (by omega)]
      have t_155 : (I_150 o 105).toInt = (I o 105).toInt := by rw [← e_151, q_u_ne (by omega)]
      have t_156 : (I_150 o 34).toInt = (I o 34).toInt := by rw [← e_151, q_u_ne (by omega)]
      have k_157 : MFac I_150 o := hi3.fr (by rw [← e_151]; exact q_u_ne (by omega)) (by rw [← e_151]; exact q_u_ne (by omega)) (by rw [← e_151, q_u_ne (by omega)])
      have a_159 : (x1 + Int32.ofInt 1).toInt = x1.toInt + (1) := tIc (by omega) (by omega) (by decide) (by decide)
      generalize ez_158 : (x1 + Int32.ofInt 1) = z_158 at a_159 ⊢
      exact ih hR_152 hf_153 (by first | omega | (intro h; omega) | exact Or.inl rfl | exact Or.inr rfl) (by first | omega | (intro h; omega) | exact Or.inl rfl | exact Or.inr rfl) (by first | omega | (intro h; omega) | exact Or.inl rfl | exact Or.inr rfl) k_157 (by omega)
set_option maxHeartbeats 4000000 in
set_option maxRecDepth 20000 in
theorem yc_Model_clear {D : va_G} {cA : FieldType → ClassId} {b : Nat} {E : State → Prop} {R : qRg} {o n : Nat} {sh : Nat → qC} {Rf : Nat → Nat → Option Nat} {I0 : Nat → Nat → Int32} {L0 : Nat → Nat → Int64} {post : Option Value → qS → Prop} (hok : q_ok (qGG D cA b E)) (hw : WfModel (qGG D cA b E) n sh Rf o) (ra : RAModel R o) (hz114 : R.2 114 = true) (hz115 : R.2 115 = true) (hZ : Fz R I0 o wModel_clear) (hR0 : RI R I0) (hq0 : MFac I0 o) (hR : RI R I0) (hp : ∀ (I' : Nat → Nat → Int32) (L' : Nat → Nat → Int64), RI R I' → Fm (fun c => c = o ∨ c = o + 42 ∨ c = o + 44 ∨ c = o + 45 ∨ (o + 48 ≤ c ∧ c < o + 51)) I0 I' → ((I' o 104).toInt = 0) → ((I' o 105).toInt = 0) → (MFac I' o) → post none (n, sh, Rf, I', L')) : Ev (qGG D cA b E) mModel_clear 1 (0, 0) 0 (lv_args 0 [.ref o]) [] (n, sh, Rf, I0, L0) post := by
  have hf : Fm (fun c => c = o ∨ c = o + 42 ∨ c = o + 44 ∨ c = o + 45 ∨ (o + 48 ≤ c ∧ c < o + 51)) I0 I0 := Fm.rf
  have g_160 : (0 : Int) ≤ (I0 o 104).toInt ∧ (I0 o 104).toInt ≤ 2000 := hR.at0 ra 104 (by decide)
  have g_161 : (0 : Int) ≤ (I0 o 105).toInt ∧ (I0 o 105).toInt ≤ 4000 := hR.at0 ra 105 (by decide)
  refine sModel_clear_0 o n sh Rf I0 L0 post  hok hw ?_
  unfold fModel_clear_0
  have l_162 : (0 : Int32).toInt = 0 := rfl
  refine fun I_163 e_164 => ?_
  have hR_165 : RI R I_163 := hR.up0 (k := 104) ra (by decide) (Or.inr hz114) e_164 (show (0 : Int) ≤ (0 : Int32).toInt by omega) (show (0 : Int32).toInt ≤ (2000 : Int) by omega)
  have hf_166 : Fm (fun c => c = o ∨ c = o + 42 ∨ c = o + 44 ∨ c = o + 45 ∨ (o + 48 ≤ c ∧ c < o + 51)) I0 I_163 := hf.set (by first | rfl | omega | (dsimp only; omega)) e_164
  have t_167 : (I_163 o 104).toInt = (0 : Int32).toInt := by rw [← e_164, q_u_at]
  have t_168 : (I_163 o 105).toInt = (I0 o 105).toInt := by rw [← e_164, q_u_k (by decide)]
  have k_169 : MFac I_163 o := hq0.fr (by rw [← e_164]; exact q_u_ne (by omega)) (by rw [← e_164]; exact q_u_ne (by omega)) (by rw [← e_164, q_u_k (by decide)])
  refine fun I_170 e_171 => ?_
  have hR_172 : RI R I_170 := hR_165.up0 (k := 105) ra (by decide) (Or.inr hz115) e_171 (show (0 : Int) ≤ (0 : Int32).toInt by omega) (show (0 : Int32).toInt ≤ (4000 : Int) by omega)
  have hf_173 : Fm (fun c => c = o ∨ c = o + 42 ∨ c = o + 44 ∨ c = o + 45 ∨ (o + 48 ≤ c ∧ c < o + 51)) I0 I_170 := hf_166.set (by first | rfl | omega | (dsimp only; omega)) e_171
  have t_174 : (I_170 o 104).toInt = (I_163 o 104).toInt := by rw [← e_171, q_u_k (by decide)]
  have t_175 : (I_170 o 105).toInt = (0 : Int32).toInt := by rw [← e_171, q_u_at]
  have k_176 : MFac I_170 o := k_169.fr (by rw [← e_171]; exact q_u_ne (by omega)) (by rw [← e_171]; exact q_u_ne (by omega)) (by rw [← e_171, q_u_k (by decide)])
  refine fun L_177 e_178 => ?_
  refine fun L_179 e_180 => ?_
  refine fun L_181 e_182 => ?_
  refine fun L_183 e_184 => ?_
  refine fun L_185 e_186 => ?_
  refine fun L_187 e_188 => ?_
  refine fun L_189 e_190 => ?_
  refine fun L_191 e_192 => ?_
  exact yModel_clear_52 (I0 := I0) (L0 := L0) hok hw ra hz114 hz115 hZ hR0 hq0 hp  _ hR_172 hf_173 (by first | omega | (intro h; omega) | exact Or.inl rfl | exact Or.inr rfl) (by first | omega | (intro h; omega) | exact Or.inl rfl | exact Or.inr rfl) (by first | omega | (intro h; omega) | exact Or.inl rfl | exact Or.inr rfl) k_176 (Nat.lt_succ_self _)
theorem y_Model_clear {D : va_G} {cA : FieldType → ClassId} {b : Nat} {E : State → Prop} {R : qRg} {o n : Nat} {sh : Nat → qC} {Rf : Nat → Nat → Option Nat} {I0 : Nat → Nat → Int32} {L0 : Nat → Nat → Int64} {post : Option Value → qS → Prop} (hok : q_ok (qGG D cA b E)) (hw : WfModel (qGG D cA b E) n sh Rf o) (ra : RAModel R o) (hz114 : R.2 114 = true) (hz115 : R.2 115 = true) (hq0 : MFac I0 o) (hR : RI R I0) (hp : ∀ (I' : Nat → Nat → Int32) (L' : Nat → Nat → Int64), RI R I' → Fm (fun c => c = o ∨ c = o + 42 ∨ c = o + 44 ∨ c = o + 45 ∨ (o + 48 ≤ c ∧ c < o + 51)) I0 I' → Kp wModel_clear I0 I' o → ((I' o 104).toInt = 0) → ((I' o 105).toInt = 0) → (MFac I' o) → post none (n, sh, Rf, I', L')) : Ev (qGG D cA b E) mModel_clear 1 (0, 0) 0 (lv_args 0 [.ref o]) [] (n, sh, Rf, I0, L0) post :=
  yc_Model_clear (R := fzR R I0 o wModel_clear) hok hw (fzA ra hR _) (fzT hz114 rfl) (fzT hz115 rfl) fzZ (fzI hR) hq0 (fzI hR) (fun I' L' h1 h2 u0 u1 u2 => hp I' L' (fzB hR h1) h2 (fzP h1) u0 u1 u2)
