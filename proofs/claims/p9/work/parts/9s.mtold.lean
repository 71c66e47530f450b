/-! Safety of the reference, FACTS: by program (spec.py). -/
def MFacAt (I : Nat → Nat → Int32) (l j : Nat) : Prop := (I (l + 36) j).toInt = 2 → -1 ≤ (I (l + 39) j).toInt ∧ (I (l + 39) j).toInt ≤ 5
/-- what a FACT of a death speaks of -/
def MFac (I : Nat → Nat → Int32) (l : Nat) : Prop := ∀ j : Nat, (j : Int) < (I l 67).toInt → MFacAt I l j
section MF
variable {I I' : Nat → Nat → Int32} {l k : Nat} {v : Int32}
theorem MFac.fr (h : MFac I l) (e1 : I' (l + 36) = I (l + 36)) (e2 : I' (l + 39) = I (l + 39)) (e9 : I' l 67 = I l 67) : MFac I' l := fun j hj => by unfold MFacAt; rw [e1, e2]; rw [e9] at hj; exact h j hj
theorem MFac.put {r : Nat} (hr : r = 36 ∨ r = 39) (h : MFac I l) (e : q_u I (l + r) k v = I') (hk : (I l 67).toInt ≤ (k : Int)) : MFac I' l := fun j hj => by
  have e9 : I' l 67 = I l 67 := by rw [← e, q_u_ne (by omega)]
  rw [e9] at hj
  have hjk : j ≠ k := by omega
  have q : ∀ s, I' (l + s) j = I (l + s) j := fun s => by rw [← e, q_u_k hjk]
  unfold MFacAt
  rw [q 36, q 39]
  exact h j hj
theorem MFac.put36 (h : MFac I l) (e : q_u I (l + 36) k v = I') (hk : (I l 67).toInt ≤ (k : Int)) : MFac I' l := h.put (Or.inl rfl) e hk
theorem MFac.put39 (h : MFac I l) (e : q_u I (l + 39) k v = I') (hk : (I l 67).toInt ≤ (k : Int)) : MFac I' l := h.put (Or.inr rfl) e hk
theorem MFac.inc {k1 k4 : Nat} {p1 p4 : Int32} (h : MFac I l) (e : q_u I l 67 v = I') (hv : v.toInt = (I l 67).toInt + 1) (c1 : I (l + 36) k1 = p1) (c4 : I (l + 39) k4 = p4) (h1 : (k1 : Int) = (I l 67).toInt) (h4 : (k4 : Int) = (I l 67).toInt) (hA : Im (p1.toInt = 2) (-1 ≤ p4.toInt ∧ p4.toInt ≤ 5)) : MFac I' l := fun j hj => by
  have q : ∀ s, 0 < s → I' (l + s) = I (l + s) := fun s hs => by rw [← e, q_u_ne (by omega)]
  have e9 : (I' l 67).toInt = (I l 67).toInt + 1 := by rw [← e, q_u_at]; exact hv
  unfold MFacAt
  rw [q 36 (by decide), q 39 (by decide)]
  by_cases hlt : (j : Int) < (I l 67).toInt
  · exact h j hlt
  · have ej : j = k1 := by omega
    have ej4 : k1 = k4 := by omega
    subst ej
    subst ej4
    rw [c1, c4]
    exact hA
end MF
set_option maxHeartbeats 4000000 in
set_option maxRecDepth 20000 in
theorem y_Model_fact {D : va_G} {cA : FieldType → ClassId} {b : Nat} {E : State → Prop} {R : qRg} {o n : Nat} {sh : Nat → qC} {Rf : Nat → Nat → Option Nat} {I0 : Nat → Nat → Int32} {L0 : Nat → Nat → Int64} {post : Option Value → qS → Prop} {p1 : Int32} {p2 : Int32} {p3 : Int32} {p4 : Int32} (hok : q_ok (qGG D cA b E)) (hw : WfModel (qGG D cA b E) n sh Rf o) (ra : RAModel R o) (hq0 : Im (p1.toInt = 2) (-1 ≤ p4.toInt ∧ p4.toInt ≤ 5)) (hq1 : MFac I0 o) (hR : RI R I0) (hp : ∀ (r : Int32) (I' : Nat → Nat → Int32) (L' : Nat → Nat → Int64), RI R I' → Fm (fun c => (o ≤ c ∧ c < o + 102)) I0 I' → (MFac I' o) → post (some (.int r)) (n, sh, Rf, I', L')) : Ev (qGG D cA b E) mModel_fact 0 (0, 0) 0 (lv_args 0 [.ref o, .int p1, .int p2, .int p3, .int p4]) [] (n, sh, Rf, I0, L0) post := by
  have hf : Fm (fun c => (o ≤ c ∧ c < o + 102)) I0 I0 := Fm.rf
  have g_1 : (0 : Int) ≤ (I0 o 67).toInt ∧ (I0 o 67).toInt ≤ 40 := hR.at0 ra 67 (by decide)
  refine sModel_fact_0 o n sh Rf I0 L0 post p1 p2 p3 p4 hok hw ?_
  unfold fModel_fact_0
  have g_2 : (0 : Int) ≤ (I0 o 67).toInt ∧ (I0 o 67).toInt ≤ 40 := hR.at0 ra 67 (by decide)
  have l_3 : (40 : Int32).toInt = 40 := rfl
  refine ⟨fun c_4 => ?_, fun c_4 => ?_⟩
  · have d_5 := iNe c_4
    have g_6 : (0 : Int) ≤ (I0 o 67).toInt ∧ (I0 o 67).toInt ≤ 40 := hR.at0 ra 67 (by decide)
    refine ⟨tIn (by omega) (by omega), fun I_7 e_8 => ?_⟩
    have hR_9 : RI R I_7 := hR.up ra 36 (by decide) e_8 (i_lo _) (i_hi _)
    have hf_10 : Fm (fun c => (o ≤ c ∧ c < o + 102)) I0 I_7 := hf.set (by first | rfl | omega | (dsimp only; omega)) e_8
    have t_11 : (I_7 o 67).toInt = (I0 o 67).toInt := by rw [← e_8, q_u_ne (by omega)]
    have k_12 : MFac I_7 o := hq1.put36 e_8 (by have cl := tCl (x := (I0 o 67)) (by omega); omega)
    have x_13 : I_7 (o + 36) ((I0 o 67) : Int32).toNatClampNeg = p1 := by rw [← e_8, q_u_at]
    have g_14 : (0 : Int) ≤ (I_7 o 67).toInt ∧ (I_7 o 67).toInt ≤ 40 := hR_9.at0 ra 67 (by decide)
    refine ⟨tIn (by omega) (by omega), fun I_15 e_16 => ?_⟩
    have hR_17 : RI R I_15 := hR_9.up ra 37 (by decide) e_16 (i_lo _) (i_hi _)
    have hf_18 : Fm (fun c => (o ≤ c ∧ c < o + 102)) I0 I_15 := hf_10.set (by first | rfl | omega | (dsimp only; omega)) e_16
    have t_19 : (I_15 o 67).toInt = (I_7 o 67).toInt := by rw [← e_16, q_u_ne (by omega)]
    have k_20 : MFac I_15 o := k_12.fr (by rw [← e_16]; exact q_u_ne (by omega)) (by rw [← e_16]; exact q_u_ne (by omega)) (by rw [← e_16, q_u_ne (by omega)])
    have x_21 : I_15 (o + 36) ((I0 o 67) : Int32).toNatClampNeg = p1 := by rw [← e_16, q_u_ne (by omega)]; exact x_13
    have g_22 : (0 : Int) ≤ (I_15 o 67).toInt ∧ (I_15 o 67).toInt ≤ 40 := hR_17.at0 ra 67 (by decide)
    refine ⟨tIn (by omega) (by omega), fun I_23 e_24 => ?_⟩
    have hR_25 : RI R I_23 := hR_17.up ra 38 (by decide) e_24 (i_lo _) (i_hi _)
    have hf_26 : Fm (fun c => (o ≤ c ∧ c < o + 102)) I0 I_23 := hf_18.set (by first | rfl | omega | (dsimp only; omega)) e_24
    have t_27 : (I_23 o 67).toInt = (I_15 o 67).toInt := by rw [← e_24, q_u_ne (by omega)]
    have k_28 : MFac I_23 o := k_20.fr (by rw [← e_24]; exact q_u_ne (by omega)) (by rw [← e_24]; exact q_u_ne (by omega)) (by rw [← e_24, q_u_ne (by omega)])
    have x_29 : I_23 (o + 36) ((I0 o 67) : Int32).toNatClampNeg = p1 := by rw [← e_24, q_u_ne (by omega)]; exact x_21
    have g_30 : (0 : Int) ≤ (I_23 o 67).toInt ∧ (I_23 o 67).toInt ≤ 40 := hR_25.at0 ra 67 (by decide)
    refine ⟨tIn (by omega) (by omega), fun I_31 e_32 => ?_⟩
    have hR_33 : RI R I_31 := hR_25.up ra 39 (by decide) e_32 (i_lo _) (i_hi _)
    have hf_34 : Fm (fun c => (o ≤ c ∧ c < o + 102)) I0 I_31 := hf_26.set (by first | rfl | omega | (dsimp only; omega)) e_32
    have t_35 : (I_31 o 67).toInt = (I_23 o 67).toInt := by rw [← e_32, q_u_ne (by omega)]
    have k_36 : MFac I_31 o := k_28.put39 e_32 (by have cl := tCl (x := (I_23 o 67)) (by omega); omega)
    have x_37 : I_31 (o + 36) ((I0 o 67) : Int32).toNatClampNeg = p1 := by rw [← e_32, q_u_ne (by omega)]; exact x_29
    have x_38 : I_31 (o + 39) ((I_23 o 67) : Int32).toNatClampNeg = p4 := by rw [← e_32, q_u_at]
    have g_39 : (0 : Int) ≤ (I_31 o 67).toInt ∧ (I_31 o 67).toInt ≤ 40 := hR_33.at0 ra 67 (by decide)
    have g_40 : (0 : Int) ≤ (I_31 o 68).toInt ∧ (I_31 o 68).toInt ≤ 100000 := hR_33.at0 ra 68 (by decide)
    refine ⟨tIn (by omega) (by omega), fun I_41 e_42 => ?_⟩
    have hR_43 : RI R I_41 := hR_33.up ra 40 (by decide) e_42 (i_lo _) (i_hi _)
    have hf_44 : Fm (fun c => (o ≤ c ∧ c < o + 102)) I0 I_41 := hf_34.set (by first | rfl | omega | (dsimp only; omega)) e_42
    have t_45 : (I_41 o 67).toInt = (I_31 o 67).toInt := by rw [← e_42, q_u_ne (by omega)]
    have t_46 : (I_41 o 68).toInt = (I_31 o 68).toInt := by rw [← e_42, q_u_ne (by omega)]
    have k_47 : MFac I_41 o := k_36.fr (by rw [← e_42]; exact q_u_ne (by omega)) (by rw [← e_42]; exact q_u_ne (by omega)) (by rw [← e_42, q_u_ne (by omega)])
    have x_48 : I_41 (o + 36) ((I0 o 67) : Int32).toNatClampNeg = p1 := by rw [← e_42, q_u_ne (by omega)]; exact x_37
    have x_49 : I_41 (o + 39) ((I_23 o 67) : Int32).toNatClampNeg = p4 := by rw [← e_42, q_u_ne (by omega)]; exact x_38
    have g_50 : (0 : Int) ≤ (I_41 o 67).toInt ∧ (I_41 o 67).toInt ≤ 40 := hR_43.at0 ra 67 (by decide)
    have l_51 : (-1 : Int32).toInt = -1 := rfl
    refine ⟨tIn (by omega) (by omega), fun I_52 e_53 => ?_⟩
    have hR_54 : RI R I_52 := hR_43.up ra 41 (by decide) e_53 (i_lo _) (i_hi _)
    have hf_55 : Fm (fun c => (o ≤ c ∧ c < o + 102)) I0 I_52 := hf_44.set (by first | rfl | omega | (dsimp only; omega)) e_53
    have t_56 : (I_52 o 67).toInt = (I_41 o 67).toInt := by rw [← e_53, q_u_ne (by omega)]
    have t_57 : (I_52 o 68).toInt = (I_41 o 68).toInt := by rw [← e_53, q_u_ne (by omega)]
    have k_58 : MFac I_52 o := k_47.fr (by rw [← e_53]; exact q_u_ne (by omega)) (by rw [← e_53]; exact q_u_ne (by omega)) (by rw [← e_53, q_u_ne (by omega)])
    have x_59 : I_52 (o + 36) ((I0 o 67) : Int32).toNatClampNeg = p1 := by rw [← e_53, q_u_ne (by omega)]; exact x_48
    have x_60 : I_52 (o + 39) ((I_23 o 67) : Int32).toNatClampNeg = p4 := by rw [← e_53, q_u_ne (by omega)]; exact x_49
    have g_61 : (0 : Int) ≤ (I_52 o 67).toInt ∧ (I_52 o 67).toInt ≤ 40 := hR_54.at0 ra 67 (by decide)
    have l_62 : (1 : Int32).toInt = 1 := rfl
    have a_63 : ((I_52 o 67) + 1).toInt = (I_52 o 67).toInt + (1 : Int32).toInt := tAdd (by omega) (by omega)
    refine fun I_64 e_65 => ?_
    have hR_66 : RI R I_64 := hR_54.up0 ra (by decide) e_65 (show (0 : Int) ≤ ((I_52 o 67) + 1).toInt by omega) (show ((I_52 o 67) + 1).toInt ≤ (40 : Int) by omega)
    have hf_67 : Fm (fun c => (o ≤ c ∧ c < o + 102)) I0 I_64 := hf_55.set (by first | rfl | omega | (dsimp only; omega)) e_65
    have t_68 : (I_64 o 67).toInt = ((I_52 o 67) + 1).toInt := by rw [← e_65, q_u_at]
    have t_69 : (I_64 o 68).toInt = (I_52 o 68).toInt := by rw [← e_65, q_u_k (by decide)]
    have x_71 : I_64 (o + 36) ((I0 o 67) : Int32).toNatClampNeg = p1 := by rw [← e_65, q_u_ne (by omega)]; exact x_59
    have x_72 : I_64 (o + 39) ((I_23 o 67) : Int32).toNatClampNeg = p4 := by rw [← e_65, q_u_ne (by omega)]; exact x_60
    have g_73 : (0 : Int) ≤ (I_64 o 67).toInt ∧ (I_64 o 67).toInt ≤ 40 := hR_66.at0 ra 67 (by decide)
    have a_74 : ((I_64 o 67) - 1).toInt = (I_64 o 67).toInt - (1 : Int32).toInt := tSub (by omega) (by omega)
    exact (hp _ _ _ hR_66 hf_67  (MFac.inc k_58 e_65 (by omega) x_59 x_60 (by have cl := tCl (x := (I0 o 67)) (by omega); omega) (by have cl := tCl (x := (I_23 o 67)) (by omega); omega) hq0))
  · have d_75 := iEq c_4
    have l_76 : (-1 : Int32).toInt = -1 := rfl
    exact (hp _ _ _ hR hf  hq1)
set_option maxHeartbeats 4000000 in
set_option maxRecDepth 20000 in
theorem y_Model_weather {D : va_G} {cA : FieldType → ClassId} {b : Nat} {E : State → Prop} {R : qRg} {o n : Nat} {sh : Nat → qC} {Rf : Nat → Nat → Option Nat} {I0 : Nat → Nat → Int32} {L0 : Nat → Nat → Int64} {post : Option Value → qS → Prop} {p1 : Int32} {p2 : Int32} {p3 : Int32} (hok : q_ok (qGG D cA b E)) (hw : WfModel (qGG D cA b E) n sh Rf o) (ra : RAModel R o) (hq0 : MFac I0 o) (hR : RI R I0) (hp : ∀ (r : Int32) (I' : Nat → Nat → Int32) (L' : Nat → Nat → Int64), RI R I' → Fm (fun c => (o ≤ c ∧ c < o + 102)) I0 I' → (MFac I' o) → post (some (.int r)) (n, sh, Rf, I', L')) : Ev (qGG D cA b E) mModel_weather 2 (0, 0) 0 (lv_args 0 [.ref o, .int p1, .int p2, .int p3]) [] (n, sh, Rf, I0, L0) post := by
  have hf : Fm (fun c => (o ≤ c ∧ c < o + 102)) I0 I0 := Fm.rf
  refine sModel_weather_0 o n sh Rf I0 L0 post p1 p2 p3 hok hw ?_
  unfold fModel_weather_0
  refine y_Model_pans hok hw ra hR (fun r_1 u_2 => ⟨r_1, I0, L0, rfl, rfl, ?_⟩)
  have l_3 : (1 : Int32).toInt = 1 := rfl
  have a_4 : (r_1 - 1).toInt = r_1.toInt - (1 : Int32).toInt := tSub (by omega) (by omega)
  have l_5 : (0 : Int32).toInt = 0 := rfl
  refine y_Model_isIn hok hR (fun r_6 u_7 u_8 u_9 => ⟨r_6, I0, L0, rfl, rfl, ?_⟩)
  have b_10 : 0 ≤ r_6.toInt ∧ r_6.toInt ≤ 1 := u_7.rg
  refine ⟨fun c_11 => ?_, fun c_11 => ?_⟩
  · have d_12 := iEq c_11
    have l_13 : (-1 : Int32).toInt = -1 := rfl
    exact (hp _ _ _ hR hf  hq0)
  · have d_14 := iNe c_11
    refine y_Model_isMonth hok hR (fun r_15 u_16 => ⟨r_15, I0, L0, rfl, rfl, ?_⟩)
    have b_17 : 0 ≤ r_15.toInt ∧ r_15.toInt ≤ 1 := u_16.rg
    refine ⟨fun c_18 => ?_, fun c_18 => ?_⟩
    · have d_19 := iEq c_18
      have l_20 : (-1 : Int32).toInt = -1 := rfl
      exact (hp _ _ _ hR hf  hq0)
    · have d_21 := iNe c_18
      have l_22 : (300 : Int32).toInt = 300 := rfl
      refine y_Model_isIn hok hR (fun r_23 u_24 u_25 u_26 => ⟨r_23, I0, L0, rfl, rfl, ?_⟩)
      have b_27 : 0 ≤ r_23.toInt ∧ r_23.toInt ≤ 1 := u_24.rg
      refine ⟨fun c_28 => ?_, fun c_28 => ?_⟩
      · have d_29 := iEq c_28
        have l_30 : (-1 : Int32).toInt = -1 := rfl
        exact (hp _ _ _ hR hf  hq0)
      · have d_31 := iNe c_28
        refine y_Model_fact hok hw ra (by exact fun h => absurd h (by decide)) hq0 hR (fun r_32 I_34 L_35 hR_36 fr_37 u_33 => ⟨r_32, I_34, L_35, rfl, rfl, ?_⟩)
        have hf_38 : Fm (fun c => (o ≤ c ∧ c < o + 102)) I0 I_34 := hf.call fr_37 (fun c hc => by first | exact hc | (dsimp only at hc ⊢; omega) | omega)
        exact (hp _ _ _ hR_36 hf_38  u_33)
set_option maxHeartbeats 4000000 in
set_option maxRecDepth 20000 in
theorem y_Model_forged {D : va_G} {cA : FieldType → ClassId} {b : Nat} {E : State → Prop} {R : qRg} {o n : Nat} {sh : Nat → qC} {Rf : Nat → Nat → Option Nat} {I0 : Nat → Nat → Int32} {L0 : Nat → Nat → Int64} {post : Option Value → qS → Prop} {p1 : Int32} {p2 : Int32} (hok : q_ok (qGG D cA b E)) (hw : WfModel (qGG D cA b E) n sh Rf o) (ra : RAModel R o) (hq0 : MFac I0 o) (hR : RI R I0) (hp : ∀ (r : Int32) (I' : Nat → Nat → Int32) (L' : Nat → Nat → Int64), RI R I' → Fm (fun c => (o ≤ c ∧ c < o + 102)) I0 I' → (MFac I' o) → post (some (.int r)) (n, sh, Rf, I', L')) : Ev (qGG D cA b E) mModel_forged 2 (0, 0) 0 (lv_args 0 [.ref o, .int p1, .int p2]) [] (n, sh, Rf, I0, L0) post := by
  have hf : Fm (fun c => (o ≤ c ∧ c < o + 102)) I0 I0 := Fm.rf
  refine sModel_forged_0 o n sh Rf I0 L0 post p1 p2 hok hw ?_
  unfold fModel_forged_0
  have l_1 : (0 : Int32).toInt = 0 := rfl
  have l_2 : (1999 : Int32).toInt = 1999 := rfl
  refine y_Model_isIn hok hR (fun r_3 u_4 u_5 u_6 => ⟨r_3, I0, L0, rfl, rfl, ?_⟩)
  have b_7 : 0 ≤ r_3.toInt ∧ r_3.toInt ≤ 1 := u_4.rg
  refine ⟨fun c_8 => ?_, fun c_8 => ?_⟩
  · have d_9 := iEq c_8
    have l_10 : (-1 : Int32).toInt = -1 := rfl
    exact (hp _ _ _ hR hf  hq0)
  · have d_11 := iNe c_8
    refine y_Model_isMonth hok hR (fun r_12 u_13 => ⟨r_12, I0, L0, rfl, rfl, ?_⟩)
    have b_14 : 0 ≤ r_12.toInt ∧ r_12.toInt ≤ 1 := u_13.rg
    refine ⟨fun c_15 => ?_, fun c_15 => ?_⟩
    · have d_16 := iEq c_15
      have l_17 : (-1 : Int32).toInt = -1 := rfl
      exact (hp _ _ _ hR hf  hq0)
    · have d_18 := iNe c_15
      have l_19 : (1 : Int32).toInt = 1 := rfl
      refine y_Model_fact hok hw ra (by exact fun h => absurd h (by decide)) hq0 hR (fun r_20 I_22 L_23 hR_24 fr_25 u_21 => ⟨r_20, I_22, L_23, rfl, rfl, ?_⟩)
      have hf_26 : Fm (fun c => (o ≤ c ∧ c < o + 102)) I0 I_22 := hf.call fr_25 (fun c hc => by first | exact hc | (dsimp only at hc ⊢; omega) | omega)
      exact (hp _ _ _ hR_24 hf_26  u_21)
set_option maxHeartbeats 4000000 in
set_option maxRecDepth 20000 in
theorem y_Model_dead {D : va_G} {cA : FieldType → ClassId} {b : Nat} {E : State → Prop} {R : qRg} {o n : Nat} {sh : Nat → qC} {Rf : Nat → Nat → Option Nat} {I0 : Nat → Nat → Int32} {L0 : Nat → Nat → Int64} {post : Option Value → qS → Prop} {p1 : Int32} {p2 : Int32} {p3 : Int32} (hok : q_ok (qGG D cA b E)) (hw : WfModel (qGG D cA b E) n sh Rf o) (ra : RAModel R o) (hq0 : MFac I0 o) (hR : RI R I0) (hp : ∀ (r : Int32) (I' : Nat → Nat → Int32) (L' : Nat → Nat → Int64), RI R I' → Fm (fun c => (o ≤ c ∧ c < o + 102)) I0 I' → (MFac I' o) → post (some (.int r)) (n, sh, Rf, I', L')) : Ev (qGG D cA b E) mModel_dead 2 (0, 0) 0 (lv_args 0 [.ref o, .int p1, .int p2, .int p3]) [] (n, sh, Rf, I0, L0) post := by
  have hf : Fm (fun c => (o ≤ c ∧ c < o + 102)) I0 I0 := Fm.rf
  refine sModel_dead_0 o n sh Rf I0 L0 post p1 p2 p3 hok hw ?_
  unfold fModel_dead_0
  have g_1 : (0 : Int) ≤ (I0 o 66).toInt ∧ (I0 o 66).toInt ≤ 6 := hR.at0 ra 66 (by decide)
  have l_2 : (1 : Int32).toInt = 1 := rfl
  have a_3 : ((I0 o 66) - 1).toInt = (I0 o 66).toInt - (1 : Int32).toInt := tSub (by omega) (by omega)
  have l_4 : (0 : Int32).toInt = 0 := rfl
  refine y_Model_isIn hok hR (fun r_5 u_6 u_7 u_8 => ⟨r_5, I0, L0, rfl, rfl, ?_⟩)
  have b_9 : 0 ≤ r_5.toInt ∧ r_5.toInt ≤ 1 := u_6.rg
  refine ⟨fun c_10 => ?_, fun c_10 => ?_⟩
  · have d_11 := iEq c_10
    have l_12 : (-1 : Int32).toInt = -1 := rfl
    exact (hp _ _ _ hR hf  hq0)
  · have d_13 := iNe c_10
    have nz14 := u_7 (by omega)
    refine y_Model_isMonth hok hR (fun r_14 u_15 => ⟨r_14, I0, L0, rfl, rfl, ?_⟩)
    have b_16 : 0 ≤ r_14.toInt ∧ r_14.toInt ≤ 1 := u_15.rg
    refine ⟨fun c_17 => ?_, fun c_17 => ?_⟩
    · have d_18 := iEq c_17
      have l_19 : (-1 : Int32).toInt = -1 := rfl
      exact (hp _ _ _ hR hf  hq0)
    · have d_20 := iNe c_17
      have g_21 : (0 : Int) ≤ (I0 o 66).toInt ∧ (I0 o 66).toInt ≤ 6 := hR.at0 ra 66 (by decide)
      have a_22 : ((I0 o 66) - 1).toInt = (I0 o 66).toInt - (1 : Int32).toInt := tSub (by omega) (by omega)
      have l_23 : (-1 : Int32).toInt = -1 := rfl
      refine y_Model_isIn hok hR (fun r_24 u_25 u_26 u_27 => ⟨r_24, I0, L0, rfl, rfl, ?_⟩)
      have b_28 : 0 ≤ r_24.toInt ∧ r_24.toInt ≤ 1 := u_25.rg
      refine ⟨fun c_29 => ?_, fun c_29 => ?_⟩
      · have d_30 := iEq c_29
        exact (hp _ _ _ hR hf  hq0)
      · have d_31 := iNe c_29
        have nz35 := u_26 (by omega)
        refine ⟨fun c_32 => ?_, fun c_32 => ?_⟩
        · have d_33 := iEq c_32
          exact (hp _ _ _ hR hf  hq0)
        · have d_34 := iNe c_32
          have l_35 : (2 : Int32).toInt = 2 := rfl
          refine y_Model_fact hok hw ra (by exact fun _ => by omega) hq0 hR (fun r_36 I_38 L_39 hR_40 fr_41 u_37 => ⟨r_36, I_38, L_39, rfl, rfl, ?_⟩)
          have hf_42 : Fm (fun c => (o ≤ c ∧ c < o + 102)) I0 I_38 := hf.call fr_41 (fun c hc => by first | exact hc | (dsimp only at hc ⊢; omega) | omega)
          have g_43 : (0 : Int) ≤ (I_38 o 66).toInt ∧ (I_38 o 66).toInt ≤ 6 := hR_40.at0 ra 66 (by decide)
          exact (hp _ _ _ hR_40 hf_42  u_37)
set_option maxHeartbeats 4000000 in
set_option maxRecDepth 20000 in
theorem yModel_clear_187 {D : va_G} {cA : FieldType → ClassId} {b : Nat} {E : State → Prop} {R : qRg} {o n : Nat} {sh : Nat → qC} {Rf : Nat → Nat → Option Nat} {I0 : Nat → Nat → Int32} {L0 : Nat → Nat → Int64} {post : Option Value → qS → Prop} (hok : q_ok (qGG D cA b E)) (hw : WfModel (qGG D cA b E) n sh Rf o) (ra : RAModel R o) (hq0 : MFac I0 o) (hp : ∀ (I' : Nat → Nat → Int32) (L' : Nat → Nat → Int64), RI R I' → Fm (fun c => c = o ∨ c = o + 42 ∨ c = o + 44 ∨ c = o + 45 ∨ (o + 48 ≤ c ∧ c < o + 51)) I0 I' → ((I' o 104).toInt = 0) → ((I' o 105).toInt = 0) → (MFac I' o) → post none (n, sh, Rf, I', L')) {k148 : Nat} (ho148 : ∀ {x1 : Int32} {I : Nat → Nat → Int32} {L : Nat → Nat → Int64}, RI R I → Fm (fun c => c = o ∨ c = o + 42 ∨ c = o + 44 ∨ c = o + 45 ∨ (o + 48 ≤ c ∧ c < o + 51)) I0 I → ((0 : Int) ≤ x1.toInt ∧ x1.toInt ≤ 6) → ((I o 104).toInt = 0) → ((I o 105).toInt = 0) → (MFac I o) → (6 - x1.toInt).toNat < k148 → Ev (qGG D cA b E) mModel_clear 1 (0, 0) 148 [(0, .ref o), (1, .int x1)] [] (n, sh, Rf, I, L) post) : ∀ (k : Nat) {x1 : Int32} {x2 : Int32} {I : Nat → Nat → Int32} {L : Nat → Nat → Int64}, RI R I → Fm (fun c => c = o ∨ c = o + 42 ∨ c = o + 44 ∨ c = o + 45 ∨ (o + 48 ≤ c ∧ c < o + 51)) I0 I → ((0 : Int) ≤ x2.toInt ∧ x2.toInt ≤ 40) → ((0 : Int) ≤ x1.toInt ∧ x1.toInt ≤ 5) → ((I o 104).toInt = 0) → ((I o 105).toInt = 0) → ((6 - x1.toInt).toNat < k148 + 1) → (MFac I o) → (40 - x2.toInt).toNat < k → Ev (qGG D cA b E) mModel_clear 1 (0, 0) 187 [(0, .ref o), (1, .int x1), (2, .int x2)] [] (n, sh, Rf, I, L) post := by
  intro k
  induction k with
  | zero =>
    intro x1 x2 I L hR hf hi0 hi1 hi2 hi3 hi4 hi5 hm
    exact absurd hm (Nat.not_lt_zero _)
  | succ k ih =>
    intro x1 x2 I L hR hf hi0 hi1 hi2 hi3 hi4 hi5 hm
    have g_1 : (0 : Int) ≤ (I o 104).toInt ∧ (I o 104).toInt ≤ 2000 := hR.at0 ra 104 (by decide)
    have g_2 : (0 : Int) ≤ (I o 105).toInt ∧ (I o 105).toInt ≤ 4000 := hR.at0 ra 105 (by decide)
    refine sModel_clear_187 o n sh Rf I L post x1 x2 hok hw ?_
    unfold fModel_clear_187
    have g_3 : (0 : Int) ≤ (I o 67).toInt ∧ (I o 67).toInt ≤ 40 := hR.at0 ra 67 (by decide)
    refine ⟨fun c_4 => ?_, fun c_4 => ?_⟩
    · have d_5 := iLe c_4
      have a_7 : (x1 + Int32.ofInt 1).toInt = x1.toInt + (1) := tIc (by omega) (by omega) (by decide) (by decide)
      generalize ez_6 : (x1 + Int32.ofInt 1) = z_6 at a_7 ⊢
      exact ho148 hR hf (by first | omega | (intro h; omega) | exact Or.inl rfl | exact Or.inr rfl) (by first | omega | (intro h; omega) | exact Or.inl rfl | exact Or.inr rfl) (by first | omega | (intro h; omega) | exact Or.inl rfl | exact Or.inr rfl) hi5 (by omega)
    · have d_8 := iNle c_4
      have l_9 : (2 : Int32).toInt = 2 := rfl
      refine y_Model_counts hok hw ra (by first | omega | (intro h; omega) | exact Or.inl rfl | exact Or.inr rfl) hR (fun r_10 u_11 u_12 => ⟨r_10, I, L, rfl, rfl, ?_⟩)
      have b_13 : 0 ≤ r_10.toInt ∧ r_10.toInt ≤ 1 := u_11.rg
      have l_14 : (0 : Int32).toInt = 0 := rfl
      refine ⟨fun c_15 => ?_, fun c_15 => ?_⟩
      · have d_16 := iEq c_15
        unfold fModel_clear_256
        have a_18 : (x2 + Int32.ofInt 1).toInt = x2.toInt + (1) := tIc (by omega) (by omega) (by decide) (by decide)
        generalize ez_17 : (x2 + Int32.ofInt 1) = z_17 at a_18 ⊢
        exact ih hR hf (by first | omega | (intro h; omega) | exact Or.inl rfl | exact Or.inr rfl) (by first | omega | (intro h; omega) | exact Or.inl rfl | exact Or.inr rfl) (by first | omega | (intro h; omega) | exact Or.inl rfl | exact Or.inr rfl) (by first | omega | (intro h; omega) | exact Or.inl rfl | exact Or.inr rfl) (by first | omega | (intro h; omega) | exact Or.inl rfl | exact Or.inr rfl) hi5 (by omega)
      · have d_19 := iNe c_15
        have cl := tCl (x := x2) (by omega)
        have fk := (hi5 x2.toNatClampNeg (by omega)) (by have := u_12 (by omega); omega)
        refine ⟨tIn (by omega) (by omega), ?_⟩
        refine ⟨fun c_20 => ?_, fun c_20 => ?_⟩
        · have d_21 := iNe c_20
          unfold fModel_clear_256
          have a_23 : (x2 + Int32.ofInt 1).toInt = x2.toInt + (1) := tIc (by omega) (by omega) (by decide) (by decide)
          generalize ez_22 : (x2 + Int32.ofInt 1) = z_22 at a_23 ⊢
          exact ih hR hf (by first | omega | (intro h; omega) | exact Or.inl rfl | exact Or.inr rfl) (by first | omega | (intro h; omega) | exact Or.inl rfl | exact Or.inr rfl) (by first | omega | (intro h; omega) | exact Or.inl rfl | exact Or.inr rfl) (by first | omega | (intro h; omega) | exact Or.inl rfl | exact Or.inr rfl) (by first | omega | (intro h; omega) | exact Or.inl rfl | exact Or.inr rfl) hi5 (by omega)
        · have d_24 := iEq c_20
          refine ⟨tIn (by omega) (by omega), ?_⟩
          refine ⟨tIn (by omega) (by omega), ?_⟩
          refine ⟨fun c_25 => ?_, fun c_25 => ?_⟩
          · have d_26 := iLe c_25
            refine ⟨tIn (by omega) (by omega), ?_⟩
            refine ⟨tIn (by omega) (by omega), fun I_27 e_28 => ?_⟩
            have hR_29 : RI R I_27 := hR.up ra 49 (by decide) e_28 (i_lo _) (i_hi _)
            have hf_30 : Fm (fun c => c = o ∨ c = o + 42 ∨ c = o + 44 ∨ c = o + 45 ∨ (o + 48 ≤ c ∧ c < o + 51)) I0 I_27 := hf.set (by first | rfl | omega | (dsimp only; omega)) e_28
            have t_31 : (I_27 o 104).toInt = (I o 104).toInt := by rw [← e_28, q_u_ne (by omega)]
            have t_32 : (I_27 o 105).toInt = (I o 105).toInt := by rw [← e_28, q_u_ne (by omega)]
            have t_33 : (I_27 o 67).toInt = (I o 67).toInt := by rw [← e_28, q_u_ne (by omega)]
            have k_34 : MFac I_27 o := hi5.fr (by rw [← e_28]; exact q_u_ne (by omega)) (by rw [← e_28]; exact q_u_ne (by omega)) (by rw [← e_28, q_u_ne (by omega)])
            have v2 : (I_27 (o + 39) x2.toNatClampNeg).toInt = (I (o + 39) x2.toNatClampNeg).toInt := by rw [hf_30 (o + 39) (by first | omega | (dsimp only; omega)), hf (o + 39) (by first | omega | (dsimp only; omega))]
            refine ⟨tIn (by omega) (by omega), ?_⟩
            refine ⟨tIn (by omega) (by omega), fun I_35 e_36 => ?_⟩
            have hR_37 : RI R I_35 := hR_29.up ra 50 (by decide) e_36 (show (-1 : Int) ≤ (I_27 (o + 39) (x2 : Int32).toNatClampNeg).toInt by omega) (show (I_27 (o + 39) (x2 : Int32).toNatClampNeg).toInt ≤ (5 : Int) by omega)
            have hf_38 : Fm (fun c => c = o ∨ c = o + 42 ∨ c = o + 44 ∨ c = o + 45 ∨ (o + 48 ≤ c ∧ c < o + 51)) I0 I_35 := hf_30.set (by first | rfl | omega | (dsimp only; omega)) e_36
            have t_39 : (I_35 o 104).toInt = (I_27 o 104).toInt := by rw [← e_36, q_u_ne (by omega)]
            have t_40 : (I_35 o 105).toInt = (I_27 o 105).toInt := by rw [← e_36, q_u_ne (by omega)]
            have t_41 : (I_35 o 67).toInt = (I_27 o 67).toInt := by rw [← e_36, q_u_ne (by omega)]
            have k_42 : MFac I_35 o := k_34.fr (by rw [← e_36]; exact q_u_ne (by omega)) (by rw [← e_36]; exact q_u_ne (by omega)) (by rw [← e_36, q_u_ne (by omega)])
            unfold fModel_clear_256
            have a_44 : (x2 + Int32.ofInt 1).toInt = x2.toInt + (1) := tIc (by omega) (by omega) (by decide) (by decide)
            generalize ez_43 : (x2 + Int32.ofInt 1) = z_43 at a_44 ⊢
            exact ih hR_37 hf_38 (by first | omega | (intro h; omega) | exact Or.inl rfl | exact Or.inr rfl) (by first | omega | (intro h; omega) | exact Or.inl rfl | exact Or.inr rfl) (by first | omega | (intro h; omega) | exact Or.inl rfl | exact Or.inr rfl) (by first | omega | (intro h; omega) | exact Or.inl rfl | exact Or.inr rfl) (by first | omega | (intro h; omega) | exact Or.inl rfl | exact Or.inr rfl) k_42 (by omega)
          · have d_45 := iNle c_25
            unfold fModel_clear_256
            have a_47 : (x2 + Int32.ofInt 1).toInt = x2.toInt + (1) := tIc (by omega) (by omega) (by decide) (by decide)
            generalize ez_46 : (x2 + Int32.ofInt 1) = z_46 at a_47 ⊢
            exact ih hR hf (by first | omega | (intro h; omega) | exact Or.inl rfl | exact Or.inr rfl) (by first | omega | (intro h; omega) | exact Or.inl rfl | exact Or.inr rfl) (by first | omega | (intro h; omega) | exact Or.inl rfl | exact Or.inr rfl) (by first | omega | (intro h; omega) | exact Or.inl rfl | exact Or.inr rfl) (by first | omega | (intro h; omega) | exact Or.inl rfl | exact Or.inr rfl) hi5 (by omega)
set_option maxHeartbeats 4000000 in
set_option maxRecDepth 20000 in
theorem yModel_clear_148 {D : va_G} {cA : FieldType → ClassId} {b : Nat} {E : State → Prop} {R : qRg} {o n : Nat} {sh : Nat → qC} {Rf : Nat → Nat → Option Nat} {I0 : Nat → Nat → Int32} {L0 : Nat → Nat → Int64} {post : Option Value → qS → Prop} (hok : q_ok (qGG D cA b E)) (hw : WfModel (qGG D cA b E) n sh Rf o) (ra : RAModel R o) (hq0 : MFac I0 o) (hp : ∀ (I' : Nat → Nat → Int32) (L' : Nat → Nat → Int64), RI R I' → Fm (fun c => c = o ∨ c = o + 42 ∨ c = o + 44 ∨ c = o + 45 ∨ (o + 48 ≤ c ∧ c < o + 51)) I0 I' → ((I' o 104).toInt = 0) → ((I' o 105).toInt = 0) → (MFac I' o) → post none (n, sh, Rf, I', L')) : ∀ (k : Nat) {x1 : Int32} {I : Nat → Nat → Int32} {L : Nat → Nat → Int64}, RI R I → Fm (fun c => c = o ∨ c = o + 42 ∨ c = o + 44 ∨ c = o + 45 ∨ (o + 48 ≤ c ∧ c < o + 51)) I0 I → ((0 : Int) ≤ x1.toInt ∧ x1.toInt ≤ 6) → ((I o 104).toInt = 0) → ((I o 105).toInt = 0) → (MFac I o) → (6 - x1.toInt).toNat < k → Ev (qGG D cA b E) mModel_clear 1 (0, 0) 148 [(0, .ref o), (1, .int x1)] [] (n, sh, Rf, I, L) post := by
  intro k
  induction k with
  | zero =>
    intro x1 I L hR hf hi0 hi1 hi2 hi3 hm
    exact absurd hm (Nat.not_lt_zero _)
  | succ k ih =>
    intro x1 I L hR hf hi0 hi1 hi2 hi3 hm
    have g_48 : (0 : Int) ≤ (I o 104).toInt ∧ (I o 104).toInt ≤ 2000 := hR.at0 ra 104 (by decide)
    have g_49 : (0 : Int) ≤ (I o 105).toInt ∧ (I o 105).toInt ≤ 4000 := hR.at0 ra 105 (by decide)
    refine sModel_clear_148 o n sh Rf I L post x1 hok hw ?_
    unfold fModel_clear_148
    have g_50 : (0 : Int) ≤ (I o 66).toInt ∧ (I o 66).toInt ≤ 6 := hR.at0 ra 66 (by decide)
    refine ⟨fun c_51 => ?_, fun c_51 => ?_⟩
    · have d_52 := iLe c_51
      exact (hp _ _ hR hf (by first | omega | (intro h; omega) | exact Or.inl rfl | exact Or.inr rfl) (by first | omega | (intro h; omega) | exact Or.inl rfl | exact Or.inr rfl) hi3)
    · have d_53 := iNle c_51
      refine ⟨tIn (by omega) (by omega), ?_⟩
      refine ⟨tIn (by omega) (by omega), fun L_54 e_55 => ?_⟩
      have l_56 : (1000000 : Int32).toInt = 1000000 := rfl
      refine ⟨tIn (by omega) (by omega), fun I_57 e_58 => ?_⟩
      have hR_59 : RI R I_57 := hR.up ra 49 (by decide) e_58 (i_lo _) (i_hi _)
      have hf_60 : Fm (fun c => c = o ∨ c = o + 42 ∨ c = o + 44 ∨ c = o + 45 ∨ (o + 48 ≤ c ∧ c < o + 51)) I0 I_57 := hf.set (by first | rfl | omega | (dsimp only; omega)) e_58
      have t_61 : (I_57 o 104).toInt = (I o 104).toInt := by rw [← e_58, q_u_ne (by omega)]
      have t_62 : (I_57 o 105).toInt = (I o 105).toInt := by rw [← e_58, q_u_ne (by omega)]
      have t_63 : (I_57 o 66).toInt = (I o 66).toInt := by rw [← e_58, q_u_ne (by omega)]
      have k_64 : MFac I_57 o := hi3.fr (by rw [← e_58]; exact q_u_ne (by omega)) (by rw [← e_58]; exact q_u_ne (by omega)) (by rw [← e_58, q_u_ne (by omega)])
      have l_65 : (-1 : Int32).toInt = -1 := rfl
      refine ⟨tIn (by omega) (by omega), fun I_66 e_67 => ?_⟩
      have hR_68 : RI R I_66 := hR_59.up ra 50 (by decide) e_67 (show (-1 : Int) ≤ ((-1) : Int32).toInt by omega) (show ((-1) : Int32).toInt ≤ (5 : Int) by omega)
      have hf_69 : Fm (fun c => c = o ∨ c = o + 42 ∨ c = o + 44 ∨ c = o + 45 ∨ (o + 48 ≤ c ∧ c < o + 51)) I0 I_66 := hf_60.set (by first | rfl | omega | (dsimp only; omega)) e_67
      have t_70 : (I_66 o 104).toInt = (I_57 o 104).toInt := by rw [← e_67, q_u_ne (by omega)]
      have t_71 : (I_66 o 105).toInt = (I_57 o 105).toInt := by rw [← e_67, q_u_ne (by omega)]
      have t_72 : (I_66 o 66).toInt = (I_57 o 66).toInt := by rw [← e_67, q_u_ne (by omega)]
      have k_73 : MFac I_66 o := k_64.fr (by rw [← e_67]; exact q_u_ne (by omega)) (by rw [← e_67]; exact q_u_ne (by omega)) (by rw [← e_67, q_u_ne (by omega)])
      have l_74 : (0 : Int32).toInt = 0 := rfl
      exact yModel_clear_187 (I0 := I0) (L0 := L0) hok hw ra hq0 hp ih _ hR_68 hf_69 (by first | omega | (intro h; omega) | exact Or.inl rfl | exact Or.inr rfl) (by first | omega | (intro h; omega) | exact Or.inl rfl | exact Or.inr rfl) (by first | omega | (intro h; omega) | exact Or.inl rfl | exact Or.inr rfl) (by first | omega | (intro h; omega) | exact Or.inl rfl | exact Or.inr rfl) (by first | omega | (intro h; omega) | exact Or.inl rfl | exact Or.inr rfl) k_73 (Nat.lt_succ_self _)
set_option maxHeartbeats 4000000 in
set_option maxRecDepth 20000 in
theorem yModel_clear_127 {D : va_G} {cA : FieldType → ClassId} {b : Nat} {E : State → Prop} {R : qRg} {o n : Nat} {sh : Nat → qC} {Rf : Nat → Nat → Option Nat} {I0 : Nat → Nat → Int32} {L0 : Nat → Nat → Int64} {post : Option Value → qS → Prop} (hok : q_ok (qGG D cA b E)) (hw : WfModel (qGG D cA b E) n sh Rf o) (ra : RAModel R o) (hq0 : MFac I0 o) (hp : ∀ (I' : Nat → Nat → Int32) (L' : Nat → Nat → Int64), RI R I' → Fm (fun c => c = o ∨ c = o + 42 ∨ c = o + 44 ∨ c = o + 45 ∨ (o + 48 ≤ c ∧ c < o + 51)) I0 I' → ((I' o 104).toInt = 0) → ((I' o 105).toInt = 0) → (MFac I' o) → post none (n, sh, Rf, I', L')) : ∀ (k : Nat) {x1 : Int32} {I : Nat → Nat → Int32} {L : Nat → Nat → Int64}, RI R I → Fm (fun c => c = o ∨ c = o + 42 ∨ c = o + 44 ∨ c = o + 45 ∨ (o + 48 ≤ c ∧ c < o + 51)) I0 I → ((0 : Int) ≤ x1.toInt ∧ x1.toInt ≤ 18) → ((I o 104).toInt = 0) → ((I o 105).toInt = 0) → (MFac I o) → (18 - x1.toInt).toNat < k → Ev (qGG D cA b E) mModel_clear 1 (0, 0) 127 [(0, .ref o), (1, .int x1)] [] (n, sh, Rf, I, L) post := by
  intro k
  induction k with
  | zero =>
    intro x1 I L hR hf hi0 hi1 hi2 hi3 hm
    exact absurd hm (Nat.not_lt_zero _)
  | succ k ih =>
    intro x1 I L hR hf hi0 hi1 hi2 hi3 hm
    have g_75 : (0 : Int) ≤ (I o 104).toInt ∧ (I o 104).toInt ≤ 2000 := hR.at0 ra 104 (by decide)
    have g_76 : (0 : Int) ≤ (I o 105).toInt ∧ (I o 105).toInt ≤ 4000 := hR.at0 ra 105 (by decide)
    refine sModel_clear_127 o n sh Rf I L post x1 hok hw ?_
    unfold fModel_clear_127
    have l_77 : (18 : Int32).toInt = 18 := rfl
    refine ⟨fun c_78 => ?_, fun c_78 => ?_⟩
    · have d_79 := iLe c_78
      have l_80 : (0 : Int32).toInt = 0 := rfl
      exact yModel_clear_148 (I0 := I0) (L0 := L0) hok hw ra hq0 hp  _ hR hf (by first | omega | (intro h; omega) | exact Or.inl rfl | exact Or.inr rfl) (by first | omega | (intro h; omega) | exact Or.inl rfl | exact Or.inr rfl) (by first | omega | (intro h; omega) | exact Or.inl rfl | exact Or.inr rfl) hi3 (Nat.lt_succ_self _)
    · have d_81 := iNle c_78
      have l_82 : (-1 : Int32).toInt = -1 := rfl
      refine ⟨tIn (by omega) (by omega), fun I_83 e_84 => ?_⟩
      have hR_85 : RI R I_83 := hR.up ra 48 (by decide) e_84 (i_lo _) (i_hi _)
      have hf_86 : Fm (fun c => c = o ∨ c = o + 42 ∨ c = o + 44 ∨ c = o + 45 ∨ (o + 48 ≤ c ∧ c < o + 51)) I0 I_83 := hf.set (by first | rfl | omega | (dsimp only; omega)) e_84
      have t_87 : (I_83 o 104).toInt = (I o 104).toInt := by rw [← e_84, q_u_ne (by omega)]
      have t_88 : (I_83 o 105).toInt = (I o 105).toInt := by rw [← e_84, q_u_ne (by omega)]
      have k_89 : MFac I_83 o := hi3.fr (by rw [← e_84]; exact q_u_ne (by omega)) (by rw [← e_84]; exact q_u_ne (by omega)) (by rw [← e_84, q_u_ne (by omega)])
      have a_91 : (x1 + Int32.ofInt 1).toInt = x1.toInt + (1) := tIc (by omega) (by omega) (by decide) (by decide)
      generalize ez_90 : (x1 + Int32.ofInt 1) = z_90 at a_91 ⊢
      exact ih hR_85 hf_86 (by first | omega | (intro h; omega) | exact Or.inl rfl | exact Or.inr rfl) (by first | omega | (intro h; omega) | exact Or.inl rfl | exact Or.inr rfl) (by first | omega | (intro h; omega) | exact Or.inl rfl | exact Or.inr rfl) k_89 (by omega)
set_option maxHeartbeats 4000000 in
set_option maxRecDepth 20000 in
theorem yModel_clear_107 {D : va_G} {cA : FieldType → ClassId} {b : Nat} {E : State → Prop} {R : qRg} {o n : Nat} {sh : Nat → qC} {Rf : Nat → Nat → Option Nat} {I0 : Nat → Nat → Int32} {L0 : Nat → Nat → Int64} {post : Option Value → qS → Prop} (hok : q_ok (qGG D cA b E)) (hw : WfModel (qGG D cA b E) n sh Rf o) (ra : RAModel R o) (hq0 : MFac I0 o) (hp : ∀ (I' : Nat → Nat → Int32) (L' : Nat → Nat → Int64), RI R I' → Fm (fun c => c = o ∨ c = o + 42 ∨ c = o + 44 ∨ c = o + 45 ∨ (o + 48 ≤ c ∧ c < o + 51)) I0 I' → ((I' o 104).toInt = 0) → ((I' o 105).toInt = 0) → (MFac I' o) → post none (n, sh, Rf, I', L')) : ∀ (k : Nat) {x1 : Int32} {I : Nat → Nat → Int32} {L : Nat → Nat → Int64}, RI R I → Fm (fun c => c = o ∨ c = o + 42 ∨ c = o + 44 ∨ c = o + 45 ∨ (o + 48 ≤ c ∧ c < o + 51)) I0 I → ((0 : Int) ≤ x1.toInt ∧ x1.toInt ≤ 5) → ((I o 104).toInt = 0) → ((I o 105).toInt = 0) → (MFac I o) → (5 - x1.toInt).toNat < k → Ev (qGG D cA b E) mModel_clear 1 (0, 0) 107 [(0, .ref o), (1, .int x1)] [] (n, sh, Rf, I, L) post := by
  intro k
  induction k with
  | zero =>
    intro x1 I L hR hf hi0 hi1 hi2 hi3 hm
    exact absurd hm (Nat.not_lt_zero _)
  | succ k ih =>
    intro x1 I L hR hf hi0 hi1 hi2 hi3 hm
    have g_92 : (0 : Int) ≤ (I o 104).toInt ∧ (I o 104).toInt ≤ 2000 := hR.at0 ra 104 (by decide)
    have g_93 : (0 : Int) ≤ (I o 105).toInt ∧ (I o 105).toInt ≤ 4000 := hR.at0 ra 105 (by decide)
    refine sModel_clear_107 o n sh Rf I L post x1 hok hw ?_
    unfold fModel_clear_107
    have l_94 : (5 : Int32).toInt = 5 := rfl
    refine ⟨fun c_95 => ?_, fun c_95 => ?_⟩
    · have d_96 := iLe c_95
      have l_97 : (0 : Int32).toInt = 0 := rfl
      exact yModel_clear_127 (I0 := I0) (L0 := L0) hok hw ra hq0 hp  _ hR hf (by first | omega | (intro h; omega) | exact Or.inl rfl | exact Or.inr rfl) (by first | omega | (intro h; omega) | exact Or.inl rfl | exact Or.inr rfl) (by first | omega | (intro h; omega) | exact Or.inl rfl | exact Or.inr rfl) hi3 (Nat.lt_succ_self _)
    · have d_98 := iNle c_95
      have l_99 : (0 : Int32).toInt = 0 := rfl
      refine ⟨tIn (by omega) (by omega), fun I_100 e_101 => ?_⟩
      have hR_102 : RI R I_100 := hR.up ra 45 (by decide) e_101 (i_lo _) (i_hi _)
      have hf_103 : Fm (fun c => c = o ∨ c = o + 42 ∨ c = o + 44 ∨ c = o + 45 ∨ (o + 48 ≤ c ∧ c < o + 51)) I0 I_100 := hf.set (by first | rfl | omega | (dsimp only; omega)) e_101
      have t_104 : (I_100 o 104).toInt = (I o 104).toInt := by rw [← e_101, q_u_ne (by omega)]
      have t_105 : (I_100 o 105).toInt = (I o 105).toInt := by rw [← e_101, q_u_ne (by omega)]
      have k_106 : MFac I_100 o := hi3.fr (by rw [← e_101]; exact q_u_ne (by omega)) (by rw [← e_101]; exact q_u_ne (by omega)) (by rw [← e_101, q_u_ne (by omega)])
      have a_108 : (x1 + Int32.ofInt 1).toInt = x1.toInt + (1) := tIc (by omega) (by omega) (by decide) (by decide)
      generalize ez_107 : (x1 + Int32.ofInt 1) = z_107 at a_108 ⊢
      exact ih hR_102 hf_103 (by first | omega | (intro h; omega) | exact Or.inl rfl | exact Or.inr rfl) (by first | omega | (intro h; omega) | exact Or.inl rfl | exact Or.inr rfl) (by first | omega | (intro h; omega) | exact Or.inl rfl | exact Or.inr rfl) k_106 (by omega)
set_option maxHeartbeats 4000000 in
set_option maxRecDepth 20000 in
theorem yModel_clear_87 {D : va_G} {cA : FieldType → ClassId} {b : Nat} {E : State → Prop} {R : qRg} {o n : Nat} {sh : Nat → qC} {Rf : Nat → Nat → Option Nat} {I0 : Nat → Nat → Int32} {L0 : Nat → Nat → Int64} {post : Option Value → qS → Prop} (hok : q_ok (qGG D cA b E)) (hw : WfModel (qGG D cA b E) n sh Rf o) (ra : RAModel R o) (hq0 : MFac I0 o) (hp : ∀ (I' : Nat → Nat → Int32) (L' : Nat → Nat → Int64), RI R I' → Fm (fun c => c = o ∨ c = o + 42 ∨ c = o + 44 ∨ c = o + 45 ∨ (o + 48 ≤ c ∧ c < o + 51)) I0 I' → ((I' o 104).toInt = 0) → ((I' o 105).toInt = 0) → (MFac I' o) → post none (n, sh, Rf, I', L')) : ∀ (k : Nat) {x1 : Int32} {I : Nat → Nat → Int32} {L : Nat → Nat → Int64}, RI R I → Fm (fun c => c = o ∨ c = o + 42 ∨ c = o + 44 ∨ c = o + 45 ∨ (o + 48 ≤ c ∧ c < o + 51)) I0 I → ((0 : Int) ≤ x1.toInt ∧ x1.toInt ≤ 3) → ((I o 104).toInt = 0) → ((I o 105).toInt = 0) → (MFac I o) → (3 - x1.toInt).toNat < k → Ev (qGG D cA b E) mModel_clear 1 (0, 0) 87 [(0, .ref o), (1, .int x1)] [] (n, sh, Rf, I, L) post := by
  intro k
  induction k with
  | zero =>
    intro x1 I L hR hf hi0 hi1 hi2 hi3 hm
    exact absurd hm (Nat.not_lt_zero _)
  | succ k ih =>
    intro x1 I L hR hf hi0 hi1 hi2 hi3 hm
    have g_109 : (0 : Int) ≤ (I o 104).toInt ∧ (I o 104).toInt ≤ 2000 := hR.at0 ra 104 (by decide)
    have g_110 : (0 : Int) ≤ (I o 105).toInt ∧ (I o 105).toInt ≤ 4000 := hR.at0 ra 105 (by decide)
    refine sModel_clear_87 o n sh Rf I L post x1 hok hw ?_
    unfold fModel_clear_87
    have l_111 : (3 : Int32).toInt = 3 := rfl
    refine ⟨fun c_112 => ?_, fun c_112 => ?_⟩
    · have d_113 := iLe c_112
      have l_114 : (0 : Int32).toInt = 0 := rfl
      exact yModel_clear_107 (I0 := I0) (L0 := L0) hok hw ra hq0 hp  _ hR hf (by first | omega | (intro h; omega) | exact Or.inl rfl | exact Or.inr rfl) (by first | omega | (intro h; omega) | exact Or.inl rfl | exact Or.inr rfl) (by first | omega | (intro h; omega) | exact Or.inl rfl | exact Or.inr rfl) hi3 (Nat.lt_succ_self _)
    · have d_115 := iNle c_112
      have l_116 : (0 : Int32).toInt = 0 := rfl
      refine ⟨tIn (by omega) (by omega), fun I_117 e_118 => ?_⟩
      have hR_119 : RI R I_117 := hR.up ra 44 (by decide) e_118 (i_lo _) (i_hi _)
      have hf_120 : Fm (fun c => c = o ∨ c = o + 42 ∨ c = o + 44 ∨ c = o + 45 ∨ (o + 48 ≤ c ∧ c < o + 51)) I0 I_117 := hf.set (by first | rfl | omega | (dsimp only; omega)) e_118
      have t_121 : (I_117 o 104).toInt = (I o 104).toInt := by rw [← e_118, q_u_ne (by omega)]
      have t_122 : (I_117 o 105).toInt = (I o 105).toInt := by rw [← e_118, q_u_ne (by omega)]
      have k_123 : MFac I_117 o := hi3.fr (by rw [← e_118]; exact q_u_ne (by omega)) (by rw [← e_118]; exact q_u_ne (by omega)) (by rw [← e_118, q_u_ne (by omega)])
      have a_125 : (x1 + Int32.ofInt 1).toInt = x1.toInt + (1) := tIc (by omega) (by omega) (by decide) (by decide)
      generalize ez_124 : (x1 + Int32.ofInt 1) = z_124 at a_125 ⊢
      exact ih hR_119 hf_120 (by first | omega | (intro h; omega) | exact Or.inl rfl | exact Or.inr rfl) (by first | omega | (intro h; omega) | exact Or.inl rfl | exact Or.inr rfl) (by first | omega | (intro h; omega) | exact Or.inl rfl | exact Or.inr rfl) k_123 (by omega)
set_option maxHeartbeats 4000000 in
set_option maxRecDepth 20000 in
theorem yModel_clear_52 {D : va_G} {cA : FieldType → ClassId} {b : Nat} {E : State → Prop} {R : qRg} {o n : Nat} {sh : Nat → qC} {Rf : Nat → Nat → Option Nat} {I0 : Nat → Nat → Int32} {L0 : Nat → Nat → Int64} {post : Option Value → qS → Prop} (hok : q_ok (qGG D cA b E)) (hw : WfModel (qGG D cA b E) n sh Rf o) (ra : RAModel R o) (hq0 : MFac I0 o) (hp : ∀ (I' : Nat → Nat → Int32) (L' : Nat → Nat → Int64), RI R I' → Fm (fun c => c = o ∨ c = o + 42 ∨ c = o + 44 ∨ c = o + 45 ∨ (o + 48 ≤ c ∧ c < o + 51)) I0 I' → ((I' o 104).toInt = 0) → ((I' o 105).toInt = 0) → (MFac I' o) → post none (n, sh, Rf, I', L')) : ∀ (k : Nat) {x1 : Int32} {I : Nat → Nat → Int32} {L : Nat → Nat → Int64}, RI R I → Fm (fun c => c = o ∨ c = o + 42 ∨ c = o + 44 ∨ c = o + 45 ∨ (o + 48 ≤ c ∧ c < o + 51)) I0 I → ((0 : Int) ≤ x1.toInt ∧ x1.toInt ≤ 3) → ((I o 104).toInt = 0) → ((I o 105).toInt = 0) → (MFac I o) → (3 - x1.toInt).toNat < k → Ev (qGG D cA b E) mModel_clear 1 (0, 0) 52 [(0, .ref o), (1, .int x1)] [] (n, sh, Rf, I, L) post := by
  intro k
  induction k with
  | zero =>
    intro x1 I L hR hf hi0 hi1 hi2 hi3 hm
    exact absurd hm (Nat.not_lt_zero _)
  | succ k ih =>
    intro x1 I L hR hf hi0 hi1 hi2 hi3 hm
    have g_126 : (0 : Int) ≤ (I o 104).toInt ∧ (I o 104).toInt ≤ 2000 := hR.at0 ra 104 (by decide)
    have g_127 : (0 : Int) ≤ (I o 105).toInt ∧ (I o 105).toInt ≤ 4000 := hR.at0 ra 105 (by decide)
    refine sModel_clear_52 o n sh Rf I L post x1 hok hw ?_
    unfold fModel_clear_52
    refine y_Model_forts hok hw ra hR (fun r_128 u_129 => ⟨r_128, I, L, rfl, rfl, ?_⟩)
    refine ⟨fun c_130 => ?_, fun c_130 => ?_⟩
    · have d_131 := iLe c_130
      have l_132 : (0 : Int32).toInt = 0 := rfl
      exact yModel_clear_87 (I0 := I0) (L0 := L0) hok hw ra hq0 hp  _ hR hf (by first | omega | (intro h; omega) | exact Or.inl rfl | exact Or.inr rfl) (by first | omega | (intro h; omega) | exact Or.inl rfl | exact Or.inr rfl) (by first | omega | (intro h; omega) | exact Or.inl rfl | exact Or.inr rfl) hi3 (Nat.lt_succ_self _)
    · have d_133 := iNle c_130
      have g_134 : (0 : Int) ≤ (I o 34).toInt ∧ (I o 34).toInt ≤ 1 := hR.at0 ra 34 (by decide)
      have l_135 : (3 : Int32).toInt = 3 := rfl
      have a_136 : (3 * (I o 34)).toInt = 3 * (I o 34).toInt := tMulL rfl (by omega) (by omega)
      have a_137 : ((3 * (I o 34)) + x1).toInt = (3 * (I o 34)).toInt + x1.toInt := tAdd (by omega) (by omega)
      refine ⟨tIn (by omega) (by omega), ?_⟩
      refine ⟨tIn (by omega) (by omega), fun I_138 e_139 => ?_⟩
      have hR_140 : RI R I_138 := hR.up ra 42 (by decide) e_139 (i_lo _) (i_hi _)
      have hf_141 : Fm (fun c => c = o ∨ c = o + 42 ∨ c = o + 44 ∨ c = o + 45 ∨ (o + 48 ≤ c ∧ c < o + 51)) I0 I_138 := hf.set (by first | rfl | omega | (dsimp only; omega)) e_139
      have t_142 : (I_138 o 104).toInt = (I o 104).toInt := by rw [← e_139, q_u_ne (by omega)]
      have t_143 : (I_138 o 105).toInt = (I o 105).toInt := by rw [← e_139, q_u_ne (by omega)]
      have t_144 : (I_138 o 34).toInt = (I o 34).toInt := by rw [← e_139, q_u_ne (by omega)]
      have k_145 : MFac I_138 o := hi3.fr (by rw [← e_139]; exact q_u_ne (by omega)) (by rw [← e_139]; exact q_u_ne (by omega)) (by rw [← e_139, q_u_ne (by omega)])
      have a_147 : (x1 + Int32.ofInt 1).toInt = x1.toInt + (1) := tIc (by omega) (by omega) (by decide) (by decide)
      generalize ez_146 : (x1 + Int32.ofInt 1) = z_146 at a_147 ⊢
      exact ih hR_140 hf_141 (by first | omega | (intro h; omega) | exact Or.inl rfl | exact Or.inr rfl) (by first | omega | (intro h; omega) | exact Or.inl rfl | exact Or.inr rfl) (by first | omega | (intro h; omega) | exact Or.inl rfl | exact Or.inr rfl) k_145 (by omega)
set_option maxHeartbeats 4000000 in
set_option maxRecDepth 20000 in
theorem y_Model_clear {D : va_G} {cA : FieldType → ClassId} {b : Nat} {E : State → Prop} {R : qRg} {o n : Nat} {sh : Nat → qC} {Rf : Nat → Nat → Option Nat} {I0 : Nat → Nat → Int32} {L0 : Nat → Nat → Int64} {post : Option Value → qS → Prop} (hok : q_ok (qGG D cA b E)) (hw : WfModel (qGG D cA b E) n sh Rf o) (ra : RAModel R o) (hq0 : MFac I0 o) (hR : RI R I0) (hp : ∀ (I' : Nat → Nat → Int32) (L' : Nat → Nat → Int64), RI R I' → Fm (fun c => c = o ∨ c = o + 42 ∨ c = o + 44 ∨ c = o + 45 ∨ (o + 48 ≤ c ∧ c < o + 51)) I0 I' → ((I' o 104).toInt = 0) → ((I' o 105).toInt = 0) → (MFac I' o) → post none (n, sh, Rf, I', L')) : Ev (qGG D cA b E) mModel_clear 1 (0, 0) 0 (lv_args 0 [.ref o]) [] (n, sh, Rf, I0, L0) post := by
  have hf : Fm (fun c => c = o ∨ c = o + 42 ∨ c = o + 44 ∨ c = o + 45 ∨ (o + 48 ≤ c ∧ c < o + 51)) I0 I0 := Fm.rf
  have g_148 : (0 : Int) ≤ (I0 o 104).toInt ∧ (I0 o 104).toInt ≤ 2000 := hR.at0 ra 104 (by decide)
  have g_149 : (0 : Int) ≤ (I0 o 105).toInt ∧ (I0 o 105).toInt ≤ 4000 := hR.at0 ra 105 (by decide)
  refine sModel_clear_0 o n sh Rf I0 L0 post  hok hw ?_
  unfold fModel_clear_0
  have l_150 : (0 : Int32).toInt = 0 := rfl
  refine fun I_151 e_152 => ?_
  have hR_153 : RI R I_151 := hR.up0 ra (by decide) e_152 (show (0 : Int) ≤ (0 : Int32).toInt by omega) (show (0 : Int32).toInt ≤ (2000 : Int) by omega)
  have hf_154 : Fm (fun c => c = o ∨ c = o + 42 ∨ c = o + 44 ∨ c = o + 45 ∨ (o + 48 ≤ c ∧ c < o + 51)) I0 I_151 := hf.set (by first | rfl | omega | (dsimp only; omega)) e_152
  have t_155 : (I_151 o 104).toInt = (0 : Int32).toInt := by rw [← e_152, q_u_at]
  have t_156 : (I_151 o 105).toInt = (I0 o 105).toInt := by rw [← e_152, q_u_k (by decide)]
  have k_157 : MFac I_151 o := hq0.fr (by rw [← e_152]; exact q_u_ne (by omega)) (by rw [← e_152]; exact q_u_ne (by omega)) (by rw [← e_152, q_u_k (by decide)])
  refine fun I_158 e_159 => ?_
  have hR_160 : RI R I_158 := hR_153.up0 ra (by decide) e_159 (show (0 : Int) ≤ (0 : Int32).toInt by omega) (show (0 : Int32).toInt ≤ (4000 : Int) by omega)
  have hf_161 : Fm (fun c => c = o ∨ c = o + 42 ∨ c = o + 44 ∨ c = o + 45 ∨ (o + 48 ≤ c ∧ c < o + 51)) I0 I_158 := hf_154.set (by first | rfl | omega | (dsimp only; omega)) e_159
  have t_162 : (I_158 o 104).toInt = (I_151 o 104).toInt := by rw [← e_159, q_u_k (by decide)]
  have t_163 : (I_158 o 105).toInt = (0 : Int32).toInt := by rw [← e_159, q_u_at]
  have k_164 : MFac I_158 o := k_157.fr (by rw [← e_159]; exact q_u_ne (by omega)) (by rw [← e_159]; exact q_u_ne (by omega)) (by rw [← e_159, q_u_k (by decide)])
  refine fun L_165 e_166 => ?_
  refine fun L_167 e_168 => ?_
  refine fun L_169 e_170 => ?_
  refine fun L_171 e_172 => ?_
  refine fun L_173 e_174 => ?_
  refine fun L_175 e_176 => ?_
  refine fun L_177 e_178 => ?_
  refine fun L_179 e_180 => ?_
  exact yModel_clear_52 (I0 := I0) (L0 := L0) hok hw ra hq0 hp  _ hR_160 hf_161 (by first | omega | (intro h; omega) | exact Or.inl rfl | exact Or.inr rfl) (by first | omega | (intro h; omega) | exact Or.inl rfl | exact Or.inr rfl) (by first | omega | (intro h; omega) | exact Or.inl rfl | exact Or.inr rfl) k_164 (Nat.lt_succ_self _)
