/-! Safety of the reference, FACTS: by program (spec.py). -/
def MFacAt (I : Nat → Nat → Int32) (l j : Nat) : Prop := (I (l + 36) j).toInt = 2 → -1 ≤ (I (l + 39) j).toInt ∧ (I (l + 39) j).toInt ≤ 5
/-- what a FACT of a death speaks of -/
def MFac (I : Nat → Nat → Int32) (l : Nat) : Prop := ∀ j : Nat, (j : Int) < (I l 67).toInt → MFacAt I l j
section MF
variable {I I' : Nat → Nat → Int32} {l k : Nat} {v : Int32}
theorem MFac.fr (h : MFac I l) (e1 : I' (l + 36) = I (l + 36)) (e2 : I' (l + 39) = I (l + 39)) (e9 : I' l 67 = I l 67) : MFac I' l := fun j hj => by unfold MFacAt; rw [e1, e2]; rw [e9] at hj; exact h j hj
theorem MFac.put {r : Nat} (hr : r = 36 ∨ r = 39) (h : MFac I l) (e : q_u I (l + r) k v = I') (hk : (I l 67).toInt ≤ (k : Int)) : MFac I' l := fun j hj => by
  have e9 : I' l 67 = I l 67 := by rw [← e, q_u_ne (by omega)]
  rw [e9] at hj
  have hjk : j ≠ k := by omega
  have q : ∀ s, I' (l + s) j = I (l + s) j := fun s => by rw [← e, q_u_k hjk]
  unfold MFacAt
  rw [q 36, q 39]
  exact h j hj
theorem MFac.put36 (h : MFac I l) (e : q_u I (l + 36) k v = I') (hk : (I l 67).toInt ≤ (k : Int)) : MFac I' l := h.put (Or.inl rfl) e hk
theorem MFac.put39 (h : MFac I l) (e : q_u I (l + 39) k v = I') (hk : (I l 67).toInt ≤ (k : Int)) : MFac I' l := h.put (Or.inr rfl) e hk
theorem MFac.inc {k1 k4 : Nat} {p1 p4 : Int32} (h : MFac I l) (e : q_u I l 67 v = I') (hv : v.toInt = (I l 67).toInt + 1) (c1 : I (l + 36) k1 = p1) (c4 : I (l + 39) k4 = p4) (h1 : (k1 : Int) = (I l 67).toInt) (h4 : (k4 : Int) = (I l 67).toInt) (hA : Im (p1.toInt = 2) (-1 ≤ p4.toInt ∧ p4.toInt ≤ 5)) : MFac I' l := fun j hj => by
  have q : ∀ s, 0 < s → I' (l + s) = I (l + s) := fun s hs => by rw [← e, q_u_ne (by omega)]
  have e9 : (I' l 67).toInt = (I l 67).toInt + 1 := by rw [← e, q_u_at]; exact hv
  unfold MFacAt
  rw [q 36 (by decide), q 39 (by decide)]
  by_cases hlt : (j : Int) < (I l 67).toInt
  · exact h j hlt
  · have ej : j = k1 := by omega
    have ej4 : k1 = k4 := by omega
    subst ej
    subst ej4
    rw [c1, c4]
    exact hA
end MF
set_option maxHeartbeats 4000000 in
set_option maxRecDepth 20000 in
theorem y_Model_fact {D : va_G} {cA : FieldType → ClassId} {b : Nat} {E : State → Prop} {R : qRg} {o n : Nat} {sh : Nat → qC} {Rf : Nat → Nat → Option Nat} {I0 : Nat → Nat → Int32} {L0 : Nat → Nat → Int64} {post : Option Value → qS → Prop} {p1 : Int32} {p2 : Int32} {p3 : Int32} {p4 : Int32} (hok : q_ok (qGG D cA b E)) (hw : WfModel (qGG D cA b E) n sh Rf o) (ra : RAModel R o) (hq0 : Im (p1.toInt = 2) (-1 ≤ p4.toInt ∧ p4.toInt ≤ 5)) (hq1 : MFac I0 o) (hR : RI R I0) (hp : ∀ (r : Int32) (I' : Nat → Nat → Int32) (L' : Nat → Nat → Int64), RI R I' → Fm (fun c => (o ≤ c ∧ c < o + 102)) I0 I' → (MFac I' o) → post (some (.int r)) (n, sh, Rf, I', L')) : Ev (qGG D cA b E) mModel_fact 0 (0, 0) 0 (lv_args 0 [.ref o, .int p1, .int p2, .int p3, .int p4]) [] (n, sh, Rf, I0, L0) post := by
  have hf : Fm (fun c => (o ≤ c ∧ c < o + 102)) I0 I0 := Fm.rf
  have g_1 : (0 : Int) ≤ (I0 o 67).toInt ∧ (I0 o 67).toInt ≤ 40 := hR.at0 ra 67 (by decide)
  refine sModel_fact_0 o n sh Rf I0 L0 post p1 p2 p3 p4 hok hw ?_
  unfold fModel_fact_0
  have g_2 : (0 : Int) ≤ (I0 o 67).toInt ∧ (I0 o 67).toInt ≤ 40 := hR.at0 ra 67 (by decide)
  have l_3 : (40 : Int32).toInt = 40 := rfl
  refine ⟨fun c_4 => ?_, fun c_4 => ?_⟩
  · have d_5 := iNe c_4
    have g_6 : (0 : Int) ≤ (I0 o 67).toInt ∧ (I0 o 67).toInt ≤ 40 := hR.at0 ra 67 (by decide)
    refine ⟨tIn (by omega) (by omega), fun I_7 e_8 => ?_⟩
    have hR_9 : RI R I_7 := hR.up ra 36 (by decide) e_8 (i_lo _) (i_hi _)
    have hf_10 : Fm (fun c => (o ≤ c ∧ c < o + 102)) I0 I_7 := hf.set (by first | rfl | omega | (dsimp only; omega)) e_8
    have t_11 : (I_7 o 67).toInt = (I0 o 67).toInt := by rw [← e_8, q_u_ne (by omega)]
    have k_12 : MFac I_7 o := hq1.put36 e_8 (by have cl := tCl (x := (I0 o 67)) (by omega); omega)
    have x_13 : I_7 (o + 36) ((I0 o 67) : Int32).toNatClampNeg = p1 := by rw [← e_8, q_u_at]
    have g_14 : (0 : Int) ≤ (I_7 o 67).toInt ∧ (I_7 o 67).toInt ≤ 40 := hR_9.at0 ra 67 (by decide)
    refine ⟨tIn (by omega) (by omega), fun I_15 e_16 => ?_⟩
    have hR_17 : RI R I_15 := hR_9.up ra 37 (by decide) e_16 (i_lo _) (i_hi _)
    have hf_18 : Fm (fun c => (o ≤ c ∧ c < o + 102)) I0 I_15 := hf_10.set (by first | rfl | omega | (dsimp only; omega)) e_16
    have t_19 : (I_15 o 67).toInt = (I_7 o 67).toInt := by rw [← e_16, q_u_ne (by omega)]
    have k_20 : MFac I_15 o := k_12.fr (by rw [← e_16]; exact q_u_ne (by omega)) (by rw [← e_16]; exact q_u_ne (by omega)) (by rw [← e_16, q_u_ne (by omega)])
    have x_21 : I_15 (o + 36) ((I0 o 67) : Int32).toNatClampNeg = p1 := by rw [← e_16, q_u_ne (by omega)]; exact x_13
    have g_22 : (0 : Int) ≤ (I_15 o 67).toInt ∧ (I_15 o 67).toInt ≤ 40 := hR_17.at0 ra 67 (by decide)
    refine ⟨tIn (by omega) (by omega), fun I_23 e_24 => ?_⟩
    have hR_25 : RI R I_23 := hR_17.up ra 38 (by decide) e_24 (i_lo _) (i_hi _)
    have hf_26 : Fm (fun c => (o ≤ c ∧ c < o + 102)) I0 I_23 := hf_18.set (by first | rfl | omega | (dsimp only; omega)) e_24
    have t_27 : (I_23 o 67).toInt = (I_15 o 67).toInt := by rw [← e_24, q_u_ne (by omega)]
    have k_28 : MFac I_23 o := k_20.fr (by rw [← e_24]; exact q_u_ne (by omega)) (by rw [← e_24]; exact q_u_ne (by omega)) (by rw [← e_24, q_u_ne (by omega)])
    have x_29 : I_23 (o + 36) ((I0 o 67) : Int32).toNatClampNeg = p1 := by rw [← e_24, q_u_ne (by omega)]; exact x_21
    have g_30 : (0 : Int) ≤ (I_23 o 67).toInt ∧ (I_23 o 67).toInt ≤ 40 := hR_25.at0 ra 67 (by decide)
    refine ⟨tIn (by omega) (by omega), fun I_31 e_32 => ?_⟩
    have hR_33 : RI R I_31 := hR_25.up ra 39 (by decide) e_32 (i_lo _) (i_hi _)
    have hf_34 : Fm (fun c => (o ≤ c ∧ c < o + 102)) I0 I_31 := hf_26.set (by first | rfl | omega | (dsimp only; omega)) e_32
    have t_35 : (I_31 o 67).toInt = (I_23 o 67).toInt := by rw [← e_32, q_u_ne (by omega)]
    have k_36 : MFac I_31 o := k_28.put39 e_32 (by have cl := tCl (x := (I_23 o 67)) (by omega); omega)
    have x_37 : I_31 (o + 36) ((I0 o 67) : Int32).toNatClampNeg = p1 := by rw [← e_32, q_u_ne (by omega)]; exact x_29
    have x_38 : I_31 (o + 39) ((I_23 o 67) : Int32).toNatClampNeg = p4 := by rw [← e_32, q_u_at]
    have g_39 : (0 : Int) ≤ (I_31 o 67).toInt ∧ (I_31 o 67).toInt ≤ 40 := hR_33.at0 ra 67 (by decide)
    have g_40 : (0 : Int) ≤ (I_31 o 68).toInt ∧ (I_31 o 68).toInt ≤ 100000 := hR_33.at0 ra 68 (by decide)
    refine ⟨tIn (by omega) (by omega), fun I_41 e_42 => ?_⟩
    have hR_43 : RI R I_41 := hR_33.up ra 40 (by decide) e_42 (i_lo _) (i_hi _)
    have hf_44 : Fm (fun c => (o ≤ c ∧ c < o + 102)) I0 I_41 := hf_34.set (by first | rfl | omega | (dsimp only; omega)) e_42
    have t_45 : (I_41 o 67).toInt = (I_31 o 67).toInt := by rw [← e_42, q_u_ne (by omega)]
    have t_46 : (I_41 o 68).toInt = (I_31 o 68).toInt := by rw [← e_42, q_u_ne (by omega)]
    have k_47 : MFac I_41 o := k_36.fr (by rw [← e_42]; exact q_u_ne (by omega)) (by rw [← e_42]; exact q_u_ne (by omega)) (by rw [← e_42, q_u_ne (by omega)])
    have x_48 : I_41 (o + 36) ((I0 o 67) : Int32).toNatClampNeg = p1 := by rw [← e_42, q_u_ne (by omega)]; exact x_37
    have x_49 : I_41 (o + 39) ((I_23 o 67) : Int32).toNatClampNeg = p4 := by rw [← e_42, q_u_ne (by omega)]; exact x_38
    have g_50 : (0 : Int) ≤ (I_41 o 67).toInt ∧ (I_41 o 67).toInt ≤ 40 := hR_43.at0 ra 67 (by decide)
    have l_51 : (-1 : Int32).toInt = -1 := rfl
    refine ⟨tIn (by omega) (by omega), fun I_52 e_53 => ?_⟩
    have hR_54 : RI R I_52 := hR_43.up ra 41 (by decide) e_53 (i_lo _) (i_hi _)
    have hf_55 : Fm (fun c => (o ≤ c ∧ c < o + 102)) I0 I_52 := hf_44.set (by first | rfl | omega | (dsimp only; omega)) e_53
    have t_56 : (I_52 o 67).toInt = (I_41 o 67).toInt := by rw [← e_53, q_u_ne (by omega)]
    have t_57 : (I_52 o 68).toInt = (I_41 o 68).toInt := by rw [← e_53, q_u_ne (by omega)]
    have k_58 : MFac I_52 o := k_47.fr (by rw [← e_53]; exact q_u_ne (by omega)) (by rw [← e_53]; exact q_u_ne (by omega)) (by rw [← e_53, q_u_ne (by omega)])
    have x_59 : I_52 (o + 36) ((I0 o 67) : Int32).toNatClampNeg = p1 := by rw [← e_53, q_u_ne (by omega)]; exact x_48
    have x_60 : I_52 (o + 39) ((I_23 o 67) : Int32).toNatClampNeg = p4 := by rw [← e_53, q_u_ne (by omega)]; exact x_49
    have g_61 : (0 : Int) ≤ (I_52 o 67).toInt ∧ (I_52 o 67).toInt ≤ 40 := hR_54.at0 ra 67 (by decide)
    have l_62 : (1 : Int32).toInt = 1 := rfl
    have a_63 : ((I_52 o 67) + 1).toInt = (I_52 o 67).toInt + (1 : Int32).toInt := tAdd (by omega) (by omega)
    refine fun I_64 e_65 => ?_
    have hR_66 : RI R I_64 := hR_54.up0 ra (by decide) e_65 (show (0 : Int) ≤ ((I_52 o 67) + 1).toInt by omega) (show ((I_52 o 67) + 1).toInt ≤ (40 : Int) by omega)
    have hf_67 : Fm (fun c => (o ≤ c ∧ c < o + 102)) I0 I_64 := hf_55.set (by first | rfl | omega | (dsimp only; omega)) e_65
    have t_68 : (I_64 o 67).toInt = ((I_52 o 67) + 1).toInt := by rw [← e_65, q_u_at]
    have t_69 : (I_64 o 68).toInt = (I_52 o 68).toInt := by rw [← e_65, q_u_k (by decide)]
    have x_71 : I_64 (o + 36) ((I0 o 67) : Int32).toNatClampNeg = p1 := by rw [← e_65, q_u_ne (by omega)]; exact x_59
    have x_72 : I_64 (o + 39) ((I_23 o 67) : Int32).toNatClampNeg = p4 := by rw [← e_65, q_u_ne (by omega)]; exact x_60
    have g_73 : (0 : Int) ≤ (I_64 o 67).toInt ∧ (I_64 o 67).toInt ≤ 40 := hR_66.at0 ra 67 (by decide)
    have a_74 : ((I_64 o 67) - 1).toInt = (I_64 o 67).toInt - (1 : Int32).toInt := tSub (by omega) (by omega)
    exact (hp _ _ _ hR_66 hf_67  (MFac.inc k_58 e_65 (by omega) x_59 x_60 (by have cl := tCl (x := (I0 o 67)) (by omega); omega) (by have cl := tCl (x := (I_23 o 67)) (by omega); omega) hq0))
  · have d_75 := iEq c_4
    have l_76 : (-1 : Int32).toInt = -1 := rfl
    exact (hp _ _ _ hR hf  hq1)
set_option maxHeartbeats 4000000 in
set_option maxRecDepth 20000 in
theorem y_Model_weather {D : va_G} {cA : FieldType → ClassId} {b : Nat} {E : State → Prop} {R : qRg} {o n : Nat} {sh : Nat → qC} {Rf : Nat → Nat → Option Nat} {I0 : Nat → Nat → Int32} {L0 : Nat → Nat → Int64} {post : Option Value → qS → Prop} {p1 : Int32} {p2 : Int32} {p3 : Int32} (hok : q_ok (qGG D cA b E)) (hw : WfModel (qGG D cA b E) n sh Rf o) (ra : RAModel R o) (hq0 : MFac I0 o) (hR : RI R I0) (hp : ∀ (r : Int32) (I' : Nat → Nat → Int32) (L' : Nat → Nat → Int64), RI R I' → Fm (fun c => (o ≤ c ∧ c < o + 102)) I0 I' → (MFac I' o) → post (some (.int r)) (n, sh, Rf, I', L')) : Ev (qGG D cA b E) mModel_weather 2 (0, 0) 0 (lv_args 0 [.ref o, .int p1, .int p2, .int p3]) [] (n, sh, Rf, I0, L0) post := by
  have hf : Fm (fun c => (o ≤ c ∧ c < o + 102)) I0 I0 := Fm.rf
  refine sModel_weather_0 o n sh Rf I0 L0 post p1 p2 p3 hok hw ?_
  unfold fModel_weather_0
  refine y_Model_pans hok hw ra hR (fun r_1 u_2 => ⟨r_1, I0, L0, rfl, rfl, ?_⟩)
  have l_3 : (1 : Int32).toInt = 1 := rfl
  have a_4 : (r_1 - 1).toInt = r_1.toInt - (1 : Int32).toInt := tSub (by omega) (by omega)
  have l_5 : (0 : Int32).toInt = 0 := rfl
  refine y_Model_isIn hok hR (fun r_6 u_7 u_8 u_9 => ⟨r_6, I0, L0, rfl, rfl, ?_⟩)
  have b_10 : 0 ≤ r_6.toInt ∧ r_6.toInt ≤ 1 := u_7.rg
  refine ⟨fun c_11 => ?_, fun c_11 => ?_⟩
  · have d_12 := iEq c_11
    have l_13 : (-1 : Int32).toInt = -1 := rfl
    exact (hp _ _ _ hR hf  hq0)
  · have d_14 := iNe c_11
    refine y_Model_isMonth hok hR (fun r_15 u_16 => ⟨r_15, I0, L0, rfl, rfl, ?_⟩)
    have b_17 : 0 ≤ r_15.toInt ∧ r_15.toInt ≤ 1 := u_16.rg
    refine ⟨fun c_18 => ?_, fun c_18 => ?_⟩
    · have d_19 := iEq c_18
      have l_20 : (-1 : Int32).toInt = -1 := rfl
      exact (hp _ _ _ hR hf  hq0)
    · have d_21 := iNe c_18
      have l_22 : (300 : Int32).toInt = 300 := rfl
      refine y_Model_isIn hok hR (fun r_23 u_24 u_25 u_26 => ⟨r_23, I0, L0, rfl, rfl, ?_⟩)
      have b_27 : 0 ≤ r_23.toInt ∧ r_23.toInt ≤ 1 := u_24.rg
      refine ⟨fun c_28 => ?_, fun c_28 => ?_⟩
      · have d_29 := iEq c_28
        have l_30 : (-1 : Int32).toInt = -1 := rfl
        exact (hp _ _ _ hR hf  hq0)
      · have d_31 := iNe c_28
        refine y_Model_fact hok hw ra (by exact fun h => absurd h (by decide)) hq0 hR (fun r_32 I_34 L_35 hR_36 fr_37 u_33 => ⟨r_32, I_34, L_35, rfl, rfl, ?_⟩)
        have hf_38 : Fm (fun c => (o ≤ c ∧ c < o + 102)) I0 I_34 := hf.call fr_37 (fun c hc => by first | exact hc | (dsimp only at hc ⊢; omega) | omega)
        exact (hp _ _ _ hR_36 hf_38  u_33)
set_option maxHeartbeats 4000000 in
set_option maxRecDepth 20000 in
theorem y_Model_forged {D : va_G} {cA : FieldType → ClassId} {b : Nat} {E : State → Prop} {R : qRg} {o n : Nat} {sh : Nat → qC} {Rf : Nat → Nat → Option Nat} {I0 : Nat → Nat → Int32} {L0 : Nat → Nat → Int64} {post : Option Value → qS → Prop} {p1 : Int32} {p2 : Int32} (hok : q_ok (qGG D cA b E)) (hw : WfModel (qGG D cA b E) n sh Rf o) (ra : RAModel R o) (hq0 : MFac I0 o) (hR : RI R I0) (hp : ∀ (r : Int32) (I' : Nat → Nat → Int32) (L' : Nat → Nat → Int64), RI R I' → Fm (fun c => (o ≤ c ∧ c < o + 102)) I0 I' → (MFac I' o) → post (some (.int r)) (n, sh, Rf, I', L')) : Ev (qGG D cA b E) mModel_forged 2 (0, 0) 0 (lv_args 0 [.ref o, .int p1, .int p2]) [] (n, sh, Rf, I0, L0) post := by
  have hf : Fm (fun c => (o ≤ c ∧ c < o + 102)) I0 I0 := Fm.rf
  refine sModel_forged_0 o n sh Rf I0 L0 post p1 p2 hok hw ?_
  unfold fModel_forged_0
  have l_1 : (0 : Int32).toInt = 0 := rfl
  have l_2 : (1999 : Int32).toInt = 1999 := rfl
  refine y_Model_isIn hok hR (fun r_3 u_4 u_5 u_6 => ⟨r_3, I0, L0, rfl, rfl, ?_⟩)
  have b_7 : 0 ≤ r_3.toInt ∧ r_3.toInt ≤ 1 := u_4.rg
  refine ⟨fun c_8 => ?_, fun c_8 => ?_⟩
  · have d_9 := iEq c_8
    have l_10 : (-1 : Int32).toInt = -1 := rfl
    exact (hp _ _ _ hR hf  hq0)
  · have d_11 := iNe c_8
    refine y_Model_isMonth hok hR (fun r_12 u_13 => ⟨r_12, I0, L0, rfl, rfl, ?_⟩)
    have b_14 : 0 ≤ r_12.toInt ∧ r_12.toInt ≤ 1 := u_13.rg
    refine ⟨fun c_15 => ?_, fun c_15 => ?_⟩
    · have d_16 := iEq c_15
      have l_17 : (-1 : Int32).toInt = -1 := rfl
      exact (hp _ _ _ hR hf  hq0)
    · have d_18 := iNe c_15
      have l_19 : (1 : Int32).toInt = 1 := rfl
      refine y_Model_fact hok hw ra (by exact fun h => absurd h (by decide)) hq0 hR (fun r_20 I_22 L_23 hR_24 fr_25 u_21 => ⟨r_20, I_22, L_23, rfl, rfl, ?_⟩)
      have hf_26 : Fm (fun c => (o ≤ c ∧ c < o + 102)) I0 I_22 := hf.call fr_25 (fun c hc => by first | exact hc | (dsimp only at hc ⊢; omega) | omega)
      exact (hp _ _ _ hR_24 hf_26  u_21)
set_option maxHeartbeats 4000000 in
set_option maxRecDepth 20000 in
theorem y_Model_dead {D : va_G} {cA : FieldType → ClassId} {b : Nat} {E : State → Prop} {R : qRg} {o n : Nat} {sh : Nat → qC} {Rf : Nat → Nat → Option Nat} {I0 : Nat → Nat → Int32} {L0 : Nat → Nat → Int64} {post : Option Value → qS → Prop} {p1 : Int32} {p2 : Int32} {p3 : Int32} (hok : q_ok (qGG D cA b E)) (hw : WfModel (qGG D cA b E) n sh Rf o) (ra : RAModel R o) (hq0 : MFac I0 o) (hR : RI R I0) (hp : ∀ (r : Int32) (I' : Nat → Nat → Int32) (L' : Nat → Nat → Int64), RI R I' → Fm (fun c => (o ≤ c ∧ c < o + 102)) I0 I' → (MFac I' o) → post (some (.int r)) (n, sh, Rf, I', L')) : Ev (qGG D cA b E) mModel_dead 2 (0, 0) 0 (lv_args 0 [.ref o, .int p1, .int p2, .int p3]) [] (n, sh, Rf, I0, L0) post := by
  have hf : Fm (fun c => (o ≤ c ∧ c < o + 102)) I0 I0 := Fm.rf
  refine sModel_dead_0 o n sh Rf I0 L0 post p1 p2 p3 hok hw ?_
  unfold fModel_dead_0
  have g_1 : (0 : Int) ≤ (I0 o 66).toInt ∧ (I0 o 66).toInt ≤ 6 := hR.at0 ra 66 (by decide)
  have l_2 : (1 : Int32).toInt = 1 := rfl
  have a_3 : ((I0 o 66) - 1).toInt = (I0 o 66).toInt - (1 : Int32).toInt := tSub (by omega) (by omega)
  have l_4 : (0 : Int32).toInt = 0 := rfl
  refine y_Model_isIn hok hR (fun r_5 u_6 u_7 u_8 => ⟨r_5, I0, L0, rfl, rfl, ?_⟩)
  have b_9 : 0 ≤ r_5.toInt ∧ r_5.toInt ≤ 1 := u_6.rg
  refine ⟨fun c_10 => ?_, fun c_10 => ?_⟩
  · have d_11 := iEq c_10
    have l_12 : (-1 : Int32).toInt = -1 := rfl
    exact (hp _ _ _ hR hf  hq0)
  · have d_13 := iNe c_10
    have nz14 := u_7 (by omega)
    refine y_Model_isMonth hok hR (fun r_14 u_15 => ⟨r_14, I0, L0, rfl, rfl, ?_⟩)
    have b_16 : 0 ≤ r_14.toInt ∧ r_14.toInt ≤ 1 := u_15.rg
    refine ⟨fun c_17 => ?_, fun c_17 => ?_⟩
    · have d_18 := iEq c_17
      have l_19 : (-1 : Int32).toInt = -1 := rfl
      exact (hp _ _ _ hR hf  hq0)
    · have d_20 := iNe c_17
      have g_21 : (0 : Int) ≤ (I0 o 66).toInt ∧ (I0 o 66).toInt ≤ 6 := hR.at0 ra 66 (by decide)
      have a_22 : ((I0 o 66) - 1).toInt = (I0 o 66).toInt - (1 : Int32).toInt := tSub (by omega) (by omega)
      have l_23 : (-1 : Int32).toInt = -1 := rfl
      refine y_Model_isIn hok hR (fun r_24 u_25 u_26 u_27 => ⟨r_24, I0, L0, rfl, rfl, ?_⟩)
      have b_28 : 0 ≤ r_24.toInt ∧ r_24.toInt ≤ 1 := u_25.rg
      refine ⟨fun c_29 => ?_, fun c_29 => ?_⟩
      · have d_30 := iEq c_29
        exact (hp _ _ _ hR hf  hq0)
      · have d_31 := iNe c_29
        have nz35 := u_26 (by omega)
        refine ⟨fun c_32 => ?_, fun c_32 => ?_⟩
        · have d_33 := iEq c_32
          exact (hp _ _ _ hR hf  hq0)
        · have d_34 := iNe c_32
          have l_35 : (2 : Int32).toInt = 2 := rfl
          refine y_Model_fact hok hw ra (by exact fun _ => by omega) hq0 hR (fun r_36 I_38 L_39 hR_40 fr_41 u_37 => ⟨r_36, I_38, L_39, rfl, rfl, ?_⟩)
          have hf_42 : Fm (fun c => (o ≤ c ∧ c < o + 102)) I0 I_38 := hf.call fr_41 (fun c hc => by first | exact hc | (dsimp only at hc ⊢; omega) | omega)
          have g_43 : (0 : Int) ≤ (I_38 o 66).toInt ∧ (I_38 o 66).toInt ≤ 6 := hR_40.at0 ra 66 (by decide)
          exact (hp _ _ _ hR_40 hf_42  u_37)
