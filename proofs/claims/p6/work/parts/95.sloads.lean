/-! Safety of Loads, Facts.add: by program (spec.py). -/
set_option maxHeartbeats 4000000 in
set_option maxRecDepth 20000 in
theorem y_Office_monthsOfWay {D : va_G} {cA : FieldType → ClassId} {b : Nat} {E : State → Prop} {R : qRg} {n : Nat} {sh : Nat → qC} {Rf : Nat → Nat → Option Nat} {I0 : Nat → Nat → Int32} {L0 : Nat → Nat → Int64} {post : Option Value → qS → Prop} {p0 : Int32} (hok : q_ok (qGG D cA b E)) (hR : RI R I0) (hp : ∀ (r : Int32) , post (some (.int r)) (n, sh, Rf, I0, L0)) : Ev (qGG D cA b E) mOffice_monthsOfWay 0 (0, 0) 0 (lv_args 0 [.int p0]) [] (n, sh, Rf, I0, L0) post := by
  refine sOffice_monthsOfWay_0 n sh Rf I0 L0 post p0 hok  ?_
  unfold fOffice_monthsOfWay_0
  exact (hp _ )
set_option maxHeartbeats 4000000 in
set_option maxRecDepth 20000 in
theorem y_Loads_start {D : va_G} {cA : FieldType → ClassId} {b : Nat} {E : State → Prop} {R : qRg} {o n : Nat} {sh : Nat → qC} {Rf : Nat → Nat → Option Nat} {I0 : Nat → Nat → Int32} {L0 : Nat → Nat → Int64} {post : Option Value → qS → Prop} (hok : q_ok (qGG D cA b E)) (hw : WfLoads (qGG D cA b E) n sh Rf o) (ra : RALoads R o) (hR : RI R I0) (hp : ∀ (I' : Nat → Nat → Int32) (L' : Nat → Nat → Int64), RI R I' → Fm (fun c => (o ≤ c ∧ c < o + 9)) I0 I' → (LodOK I' o) → post none (n, sh, Rf, I', L')) : Ev (qGG D cA b E) mLoads_start 0 (0, 0) 0 (lv_args 0 [.ref o]) [] (n, sh, Rf, I0, L0) post := by
  have hf : Fm (fun c => (o ≤ c ∧ c < o + 9)) I0 I0 := Fm.rf
  have g_1 : (0 : Int) ≤ (I0 o 9).toInt ∧ (I0 o 9).toInt ≤ 2880 := hR.at0 ra 9 (by decide)
  refine sLoads_start_0 o n sh Rf I0 L0 post  hok hw ?_
  unfold fLoads_start_0
  have l_2 : (0 : Int32).toInt = 0 := rfl
  refine fun I_3 e_4 => ?_
  have hR_5 : RI R I_3 := hR.up0 (k := 8) ra (by decide) (Or.inl rfl) e_4 (show (0 : Int) ≤ (0 : Int32).toInt by omega) (show (0 : Int32).toInt ≤ (2880 : Int) by omega)
  have hf_6 : Fm (fun c => (o ≤ c ∧ c < o + 9)) I0 I_3 := hf.set (by first | rfl | omega | (dsimp only; omega)) e_4
  have t_7 : (I_3 o 9).toInt = (I0 o 9).toInt := by rw [← e_4, q_u_k (by decide)]
  have t_8 : (I_3 o 8).toInt = (0 : Int32).toInt := by rw [← e_4, q_u_at]
  refine fun I_9 e_10 => ?_
  have hR_11 : RI R I_9 := hR_5.up0 (k := 9) ra (by decide) (Or.inl rfl) e_10 (show (0 : Int) ≤ (0 : Int32).toInt by omega) (show (0 : Int32).toInt ≤ (2880 : Int) by omega)
  have hf_12 : Fm (fun c => (o ≤ c ∧ c < o + 9)) I0 I_9 := hf_6.set (by first | rfl | omega | (dsimp only; omega)) e_10
  have t_13 : (I_9 o 9).toInt = (0 : Int32).toInt := by rw [← e_10, q_u_at]
  have t_14 : (I_9 o 8).toInt = (I_3 o 8).toInt := by rw [← e_10, q_u_k (by decide)]
  exact (hp _ _ hR_11 hf_12  (fun j hj => absurd hj (by omega)))
set_option maxHeartbeats 4000000 in
set_option maxRecDepth 20000 in
theorem y_Loads_send {D : va_G} {cA : FieldType → ClassId} {b : Nat} {E : State → Prop} {R : qRg} {o n : Nat} {sh : Nat → qC} {Rf : Nat → Nat → Option Nat} {I0 : Nat → Nat → Int32} {L0 : Nat → Nat → Int64} {post : Option Value → qS → Prop} {p1 : Int32} {p2 : Int32} {p3 : Int32} {p4 : Int32} {p5 : Int32} {p6 : Int32} (hok : q_ok (qGG D cA b E)) (hw : WfLoads (qGG D cA b E) n sh Rf o) (ra : RALoads R o) (hEN : qEN E) (hq0 : (-1 : Int) ≤ p2.toInt ∧ p2.toInt ≤ 5) (hq1 : (I0 o 9).toInt ≤ 2879) (hq2 : Im (p1.toInt = 0) (LodPn I0 o ∧ 0 ≤ p3.toInt ∧ p3.toInt ≤ 2)) (hq3 : Im (p1.toInt ≠ 0) (0 ≤ p3.toInt ∧ p3.toInt ≤ 4)) (hq4 : LodOK I0 o) (hR : RI R I0) (hp : ∀ (I' : Nat → Nat → Int32) (L' : Nat → Nat → Int64), RI R I' → Fm (fun c => (o ≤ c ∧ c < o + 9)) I0 I' → (LodOK I' o) → post none (n, sh, Rf, I', L')) : Ev (qGG D cA b E) mLoads_send 1 (0, 0) 0 (lv_args 0 [.ref o, .int p1, .int p2, .int p3, .int p4, .int p5, .int p6]) [] (n, sh, Rf, I0, L0) post := by
  have hf : Fm (fun c => (o ≤ c ∧ c < o + 9)) I0 I0 := Fm.rf
  have g_1 : (0 : Int) ≤ (I0 o 9).toInt ∧ (I0 o 9).toInt ≤ 2880 := hR.at0 ra 9 (by decide)
  refine sLoads_send_0 o n sh Rf I0 L0 post p1 p2 p3 p4 p5 p6 hok hw hEN ?_
  unfold fLoads_send_0
  have g_2 : (0 : Int) ≤ (I0 o 9).toInt ∧ (I0 o 9).toInt ≤ 2880 := hR.at0 ra 9 (by decide)
  refine ⟨tIn (by omega) (by omega), fun I_3 e_4 => ?_⟩
  have hR_5 : RI R I_3 := hR.up ra 1 (by decide) (Or.inl rfl) e_4 (i_lo _) (i_hi _)
  have hf_6 : Fm (fun c => (o ≤ c ∧ c < o + 9)) I0 I_3 := hf.set (by first | rfl | omega | (dsimp only; omega)) e_4
  have t_7 : (I_3 o 9).toInt = (I0 o 9).toInt := by rw [← e_4, q_u_ne (by omega)]
  have k_8 : LodOK I_3 o := hq4.put1 e_4 (by have cl := tCl (x := (I0 o 9)) (by omega); omega)
  have x_9 : I_3 (o + 1) ((I0 o 9) : Int32).toNatClampNeg = p1 := by rw [← e_4, q_u_at]
  have w_10 : I_3 (o + 7) = I0 (o + 7) := by rw [← e_4, q_u_ne (by omega)]
  have g_11 : (0 : Int) ≤ (I_3 o 9).toInt ∧ (I_3 o 9).toInt ≤ 2880 := hR_5.at0 ra 9 (by decide)
  refine ⟨tIn (by omega) (by omega), fun I_12 e_13 => ?_⟩
  have hR_14 : RI R I_12 := hR_5.up ra 2 (by decide) (Or.inl rfl) e_13 (show (-1 : Int) ≤ p2.toInt by omega) (show p2.toInt ≤ (5 : Int) by omega)
  have hf_15 : Fm (fun c => (o ≤ c ∧ c < o + 9)) I0 I_12 := hf_6.set (by first | rfl | omega | (dsimp only; omega)) e_13
  have t_16 : (I_12 o 9).toInt = (I_3 o 9).toInt := by rw [← e_13, q_u_ne (by omega)]
  have k_17 : LodOK I_12 o := k_8.fr (by rw [← e_13]; exact q_u_ne (by omega)) (by rw [← e_13]; exact q_u_ne (by omega)) (by rw [← e_13]; exact q_u_ne (by omega)) (by rw [← e_13, q_u_ne (by omega)])
  have x_18 : I_12 (o + 1) ((I0 o 9) : Int32).toNatClampNeg = p1 := by rw [← e_13, q_u_ne (by omega)]; exact x_9
  have w_19 : I_12 (o + 7) = I0 (o + 7) := by rw [← e_13, q_u_ne (by omega)]; exact w_10
  have g_20 : (0 : Int) ≤ (I_12 o 9).toInt ∧ (I_12 o 9).toInt ≤ 2880 := hR_14.at0 ra 9 (by decide)
  refine ⟨tIn (by omega) (by omega), fun I_21 e_22 => ?_⟩
  have hR_23 : RI R I_21 := hR_14.up ra 3 (by decide) (Or.inl rfl) e_22 (i_lo _) (i_hi _)
  have hf_24 : Fm (fun c => (o ≤ c ∧ c < o + 9)) I0 I_21 := hf_15.set (by first | rfl | omega | (dsimp only; omega)) e_22
  have t_25 : (I_21 o 9).toInt = (I_12 o 9).toInt := by rw [← e_22, q_u_ne (by omega)]
  have k_26 : LodOK I_21 o := k_17.put3 e_22 (by have cl := tCl (x := (I_12 o 9)) (by omega); omega)
  have x_27 : I_21 (o + 1) ((I0 o 9) : Int32).toNatClampNeg = p1 := by rw [← e_22, q_u_ne (by omega)]; exact x_18
  have x_28 : I_21 (o + 3) ((I_12 o 9) : Int32).toNatClampNeg = p3 := by rw [← e_22, q_u_at]
  have w_29 : I_21 (o + 7) = I0 (o + 7) := by rw [← e_22, q_u_ne (by omega)]; exact w_19
  have g_30 : (0 : Int) ≤ (I_21 o 9).toInt ∧ (I_21 o 9).toInt ≤ 2880 := hR_23.at0 ra 9 (by decide)
  refine ⟨tIn (by omega) (by omega), fun I_31 e_32 => ?_⟩
  have hR_33 : RI R I_31 := hR_23.up ra 5 (by decide) (Or.inl rfl) e_32 (i_lo _) (i_hi _)
  have hf_34 : Fm (fun c => (o ≤ c ∧ c < o + 9)) I0 I_31 := hf_24.set (by first | rfl | omega | (dsimp only; omega)) e_32
  have t_35 : (I_31 o 9).toInt = (I_21 o 9).toInt := by rw [← e_32, q_u_ne (by omega)]
  have k_36 : LodOK I_31 o := k_26.fr (by rw [← e_32]; exact q_u_ne (by omega)) (by rw [← e_32]; exact q_u_ne (by omega)) (by rw [← e_32]; exact q_u_ne (by omega)) (by rw [← e_32, q_u_ne (by omega)])
  have x_37 : I_31 (o + 1) ((I0 o 9) : Int32).toNatClampNeg = p1 := by rw [← e_32, q_u_ne (by omega)]; exact x_27
  have x_38 : I_31 (o + 3) ((I_12 o 9) : Int32).toNatClampNeg = p3 := by rw [← e_32, q_u_ne (by omega)]; exact x_28
  have w_39 : I_31 (o + 7) = I0 (o + 7) := by rw [← e_32, q_u_ne (by omega)]; exact w_29
  have g_40 : (0 : Int) ≤ (I_31 o 9).toInt ∧ (I_31 o 9).toInt ≤ 2880 := hR_33.at0 ra 9 (by decide)
  refine y_Office_monthsOfWay hok hR_33 (fun r_41  => ⟨r_41, I_31, L0, rfl, rfl, ?_⟩)
  refine fun y_42 e_43 => ?_
  have l_44 : (1 : Int32).toInt = 1 := rfl
  have m_45 := tMax e_43
  refine ⟨tIn (by omega) (by omega), fun I_46 e_47 => ?_⟩
  have hR_48 : RI R I_46 := hR_33.up ra 4 (by decide) (Or.inl rfl) e_47 (i_lo _) (i_hi _)
  have hf_49 : Fm (fun c => (o ≤ c ∧ c < o + 9)) I0 I_46 := hf_34.set (by first | rfl | omega | (dsimp only; omega)) e_47
  have t_50 : (I_46 o 9).toInt = (I_31 o 9).toInt := by rw [← e_47, q_u_ne (by omega)]
  have k_51 : LodOK I_46 o := k_36.fr (by rw [← e_47]; exact q_u_ne (by omega)) (by rw [← e_47]; exact q_u_ne (by omega)) (by rw [← e_47]; exact q_u_ne (by omega)) (by rw [← e_47, q_u_ne (by omega)])
  have x_52 : I_46 (o + 1) ((I0 o 9) : Int32).toNatClampNeg = p1 := by rw [← e_47, q_u_ne (by omega)]; exact x_37
  have x_53 : I_46 (o + 3) ((I_12 o 9) : Int32).toNatClampNeg = p3 := by rw [← e_47, q_u_ne (by omega)]; exact x_38
  have w_54 : I_46 (o + 7) = I0 (o + 7) := by rw [← e_47, q_u_ne (by omega)]; exact w_39
  have g_55 : (0 : Int) ≤ (I_46 o 9).toInt ∧ (I_46 o 9).toInt ≤ 2880 := hR_48.at0 ra 9 (by decide)
  refine ⟨tIn (by omega) (by omega), fun I_56 e_57 => ?_⟩
  have hR_58 : RI R I_56 := hR_48.up ra 8 (by decide) (Or.inl rfl) e_57 (i_lo _) (i_hi _)
  have hf_59 : Fm (fun c => (o ≤ c ∧ c < o + 9)) I0 I_56 := hf_49.set (by first | rfl | omega | (dsimp only; omega)) e_57
  have t_60 : (I_56 o 9).toInt = (I_46 o 9).toInt := by rw [← e_57, q_u_ne (by omega)]
  have k_61 : LodOK I_56 o := k_51.fr (by rw [← e_57]; exact q_u_ne (by omega)) (by rw [← e_57]; exact q_u_ne (by omega)) (by rw [← e_57]; exact q_u_ne (by omega)) (by rw [← e_57, q_u_ne (by omega)])
  have x_62 : I_56 (o + 1) ((I0 o 9) : Int32).toNatClampNeg = p1 := by rw [← e_57, q_u_ne (by omega)]; exact x_52
  have x_63 : I_56 (o + 3) ((I_12 o 9) : Int32).toNatClampNeg = p3 := by rw [← e_57, q_u_ne (by omega)]; exact x_53
  have w_64 : I_56 (o + 7) = I0 (o + 7) := by rw [← e_57, q_u_ne (by omega)]; exact w_54
  have g_65 : (0 : Int) ≤ (I_56 o 9).toInt ∧ (I_56 o 9).toInt ≤ 2880 := hR_58.at0 ra 9 (by decide)
  have a_66 : ((I_56 o 9) + 1).toInt = (I_56 o 9).toInt + (1 : Int32).toInt := tAdd (by omega) (by omega)
  refine fun I_67 e_68 => ?_
  have hR_69 : RI R I_67 := hR_58.up0 (k := 9) ra (by decide) (Or.inl rfl) e_68 (show (0 : Int) ≤ ((I_56 o 9) + 1).toInt by omega) (show ((I_56 o 9) + 1).toInt ≤ (2880 : Int) by omega)
  have hf_70 : Fm (fun c => (o ≤ c ∧ c < o + 9)) I0 I_67 := hf_59.set (by first | rfl | omega | (dsimp only; omega)) e_68
  have t_71 : (I_67 o 9).toInt = ((I_56 o 9) + 1).toInt := by rw [← e_68, q_u_at]
  have x_73 : I_67 (o + 1) ((I0 o 9) : Int32).toNatClampNeg = p1 := by rw [← e_68, q_u_ne (by omega)]; exact x_62
  have x_74 : I_67 (o + 3) ((I_12 o 9) : Int32).toNatClampNeg = p3 := by rw [← e_68, q_u_ne (by omega)]; exact x_63
  have w_75 : I_67 (o + 7) = I0 (o + 7) := by rw [← e_68, q_u_ne (by omega)]; exact w_64
  exact (hp _ _ hR_69 hf_70  (LodOK.inc k_61 e_68 (by omega) x_62 x_63 (by have cl := tCl (x := (I0 o 9)) (by omega); omega) (by have cl := tCl (x := (I_12 o 9)) (by omega); omega) (fun z => ⟨fun k hk => by rw [w_64]; exact (hq2 z).1 k (by omega), (hq2 z).2⟩) hq3))
set_option maxHeartbeats 4000000 in
set_option maxRecDepth 20000 in
theorem y_Loads_sendSalt {D : va_G} {cA : FieldType → ClassId} {b : Nat} {E : State → Prop} {R : qRg} {o n : Nat} {sh : Nat → qC} {Rf : Nat → Nat → Option Nat} {I0 : Nat → Nat → Int32} {L0 : Nat → Nat → Int64} {post : Option Value → qS → Prop} {p1 : Int32} {p2 : Int32} {p3 : Int32} {p4 : Int32} {p5 : Int32} (hok : q_ok (qGG D cA b E)) (hw : WfLoads (qGG D cA b E) n sh Rf o) (ra : RALoads R o) (hEN : qEN E) (hq0 : (-1 : Int) ≤ p1.toInt ∧ p1.toInt ≤ 5) (hq1 : (0 : Int) ≤ p2.toInt ∧ p2.toInt ≤ 4) (hq2 : LodOK I0 o) (hR : RI R I0) (hp : ∀ (I' : Nat → Nat → Int32) (L' : Nat → Nat → Int64), RI R I' → Fm (fun c => (o ≤ c ∧ c < o + 9)) I0 I' → (LodOK I' o) → post none (n, sh, Rf, I', L')) : Ev (qGG D cA b E) mLoads_sendSalt 2 (0, 0) 0 (lv_args 0 [.ref o, .int p1, .int p2, .int p3, .int p4, .int p5]) [] (n, sh, Rf, I0, L0) post := by
  have hf : Fm (fun c => (o ≤ c ∧ c < o + 9)) I0 I0 := Fm.rf
  have g_1 : (0 : Int) ≤ (I0 o 9).toInt ∧ (I0 o 9).toInt ≤ 2880 := hR.at0 ra 9 (by decide)
  refine sLoads_sendSalt_0 o n sh Rf I0 L0 post p1 p2 p3 p4 p5 hok hw ?_
  unfold fLoads_sendSalt_0
  have g_2 : (0 : Int) ≤ (I0 o 9).toInt ∧ (I0 o 9).toInt ≤ 2880 := hR.at0 ra 9 (by decide)
  have l_3 : (2880 : Int32).toInt = 2880 := rfl
  refine ⟨fun c_4 => ?_, fun c_4 => ?_⟩
  · have d_5 := iLe c_4
    exact (hp _ _ hR hf  hq2)
  · have d_6 := iNle c_4
    have g_7 : (0 : Int) ≤ (I0 o 9).toInt ∧ (I0 o 9).toInt ≤ 2880 := hR.at0 ra 9 (by decide)
    have l_8 : (0 : Int32).toInt = 0 := rfl
    refine ⟨tIn (by omega) (by omega), fun I_9 e_10 => ?_⟩
    have hR_11 : RI R I_9 := hR.up ra 6 (by decide) (Or.inl rfl) e_10 (i_lo _) (i_hi _)
    have hf_12 : Fm (fun c => (o ≤ c ∧ c < o + 9)) I0 I_9 := hf.set (by first | rfl | omega | (dsimp only; omega)) e_10
    have t_13 : (I_9 o 9).toInt = (I0 o 9).toInt := by rw [← e_10, q_u_ne (by omega)]
    have k_14 : LodOK I_9 o := hq2.fr (by rw [← e_10]; exact q_u_ne (by omega)) (by rw [← e_10]; exact q_u_ne (by omega)) (by rw [← e_10]; exact q_u_ne (by omega)) (by rw [← e_10, q_u_ne (by omega)])
    have g_15 : (0 : Int) ≤ (I_9 o 9).toInt ∧ (I_9 o 9).toInt ≤ 2880 := hR_11.at0 ra 9 (by decide)
    have l_16 : (-1 : Int32).toInt = -1 := rfl
    refine ⟨tIn (by omega) (by omega), fun I_17 e_18 => ?_⟩
    have hR_19 : RI R I_17 := hR_11.up ra 7 (by decide) (Or.inl rfl) e_18 (i_lo _) (i_hi _)
    have hf_20 : Fm (fun c => (o ≤ c ∧ c < o + 9)) I0 I_17 := hf_12.set (by first | rfl | omega | (dsimp only; omega)) e_18
    have t_21 : (I_17 o 9).toInt = (I_9 o 9).toInt := by rw [← e_18, q_u_ne (by omega)]
    have k_22 : LodOK I_17 o := k_14.put7 e_18 (by have cl := tCl (x := (I_9 o 9)) (by omega); omega)
    have l_23 : (1 : Int32).toInt = 1 := rfl
    refine y_Loads_send hok hw ra hEN (by first | omega | (intro h; omega) | exact Or.inl rfl | exact Or.inr rfl) (by first | omega | (intro h; omega) | exact Or.inl rfl | exact Or.inr rfl) (by exact fun h => absurd h (by decide)) (by exact fun _ => by omega) k_22 hR_19 (fun I_26 L_27 hR_28 fr_29 u_25 => ⟨I_26, L_27, rfl, rfl, ?_⟩)
    have hf_30 : Fm (fun c => (o ≤ c ∧ c < o + 9)) I0 I_26 := hf_20.call fr_29 (fun c hc => by first | exact hc | (dsimp only at hc ⊢; omega) | omega)
    have g_31 : (0 : Int) ≤ (I_26 o 9).toInt ∧ (I_26 o 9).toInt ≤ 2880 := hR_28.at0 ra 9 (by decide)
    exact (hp _ _ hR_28 hf_30  u_25)
set_option maxHeartbeats 4000000 in
set_option maxRecDepth 20000 in
theorem y_Loads_sendGrain {D : va_G} {cA : FieldType → ClassId} {b : Nat} {E : State → Prop} {R : qRg} {o n : Nat} {sh : Nat → qC} {Rf : Nat → Nat → Option Nat} {I0 : Nat → Nat → Int32} {L0 : Nat → Nat → Int64} {post : Option Value → qS → Prop} {x2 : Nat} {p1 : Int32} {p3 : Int32} {p4 : Int32} (hok : q_ok (qGG D cA b E)) (hw : WfLoads (qGG D cA b E) n sh Rf o) (ra : RALoads R o) (hw2 : WfWay (qGG D cA b E) n sh Rf x2) (ra2 : RAWay R x2) (hEN : qEN E) (hq0 : (-1 : Int) ≤ p1.toInt ∧ p1.toInt ≤ 5) (hq1 : 0 ≤ (I0 x2 6).toInt) (hq2 : 0 ≤ (I0 x2 1).toInt) (hq3 : LodOK I0 o) (hR : RI R I0) (hp : ∀ (I' : Nat → Nat → Int32) (L' : Nat → Nat → Int64), RI R I' → Fm (fun c => (o ≤ c ∧ c < o + 9)) I0 I' → (LodOK I' o) → post none (n, sh, Rf, I', L')) : Ev (qGG D cA b E) mLoads_sendGrain 2 (0, 0) 0 (lv_args 0 [.ref o, .int p1, .ref x2, .int p3, .int p4]) [] (n, sh, Rf, I0, L0) post := by
  have hf : Fm (fun c => (o ≤ c ∧ c < o + 9)) I0 I0 := Fm.rf
  have g_1 : (0 : Int) ≤ (I0 o 9).toInt ∧ (I0 o 9).toInt ≤ 2880 := hR.at0 ra 9 (by decide)
  have g_2 : (-1 : Int) ≤ (I0 x2 6).toInt ∧ (I0 x2 6).toInt ≤ 2 := hR.at0 ra2 6 (by decide)
  have g_3 : (-1 : Int) ≤ (I0 x2 1).toInt ∧ (I0 x2 1).toInt ≤ 2 := hR.at0 ra2 1 (by decide)
  refine sLoads_sendGrain_0 o n sh Rf I0 L0 post p1 x2 p3 p4 hok hw hw2 ?_
  unfold fLoads_sendGrain_0
  have g_4 : (0 : Int) ≤ (I0 o 9).toInt ∧ (I0 o 9).toInt ≤ 2880 := hR.at0 ra 9 (by decide)
  have l_5 : (2880 : Int32).toInt = 2880 := rfl
  refine ⟨fun c_6 => ?_, fun c_6 => ?_⟩
  · have d_7 := iLe c_6
    exact (hp _ _ hR hf  hq3)
  · have d_8 := iNle c_6
    have g_9 : (0 : Int) ≤ (I0 o 9).toInt ∧ (I0 o 9).toInt ≤ 2880 := hR.at0 ra 9 (by decide)
    refine ⟨tIn (by omega) (by omega), fun I_10 e_11 => ?_⟩
    have hR_12 : RI R I_10 := hR.up ra 6 (by decide) (Or.inl rfl) e_11 (i_lo _) (i_hi _)
    have hf_13 : Fm (fun c => (o ≤ c ∧ c < o + 9)) I0 I_10 := hf.set (by first | rfl | omega | (dsimp only; omega)) e_11
    have t_14 : (I_10 o 9).toInt = (I0 o 9).toInt := by rw [← e_11, q_u_ne (by omega)]
    have t_15 : (I_10 x2 6).toInt = (I0 x2 6).toInt := by rw [← e_11, q_u_ne (sh_ne_a (hw2).1.2.2 (waLoads_5 (I := I0) (L := L0) hw).2.2)]
    have t_16 : (I_10 x2 1).toInt = (I0 x2 1).toInt := by rw [← e_11, q_u_ne (sh_ne_a (hw2).1.2.2 (waLoads_5 (I := I0) (L := L0) hw).2.2)]
    have k_17 : LodOK I_10 o := hq3.fr (by rw [← e_11]; exact q_u_ne (by omega)) (by rw [← e_11]; exact q_u_ne (by omega)) (by rw [← e_11]; exact q_u_ne (by omega)) (by rw [← e_11, q_u_ne (by omega)])
    have g_18 : (0 : Int) ≤ (I_10 o 9).toInt ∧ (I_10 o 9).toInt ≤ 2880 := hR_12.at0 ra 9 (by decide)
    have g_19 : (-1 : Int) ≤ (I_10 x2 6).toInt ∧ (I_10 x2 6).toInt ≤ 2 := hR_12.at0 ra2 6 (by decide)
    refine ⟨tIn (by omega) (by omega), fun I_20 e_21 => ?_⟩
    have hR_22 : RI R I_20 := hR_12.up ra 7 (by decide) (Or.inl rfl) e_21 (i_lo _) (i_hi _)
    have hf_23 : Fm (fun c => (o ≤ c ∧ c < o + 9)) I0 I_20 := hf_13.set (by first | rfl | omega | (dsimp only; omega)) e_21
    have t_24 : (I_20 o 9).toInt = (I_10 o 9).toInt := by rw [← e_21, q_u_ne (by omega)]
    have t_25 : (I_20 x2 6).toInt = (I_10 x2 6).toInt := by rw [← e_21, q_u_ne (sh_ne_a (hw2).1.2.2 (waLoads_6 (I := I0) (L := L0) hw).2.2)]
    have t_26 : (I_20 x2 1).toInt = (I_10 x2 1).toInt := by rw [← e_21, q_u_ne (sh_ne_a (hw2).1.2.2 (waLoads_6 (I := I0) (L := L0) hw).2.2)]
    have k_27 : LodOK I_20 o := k_17.put7 e_21 (by have cl := tCl (x := (I_10 o 9)) (by omega); omega)
    have x_28 : I_20 (o + 7) ((I_10 o 9) : Int32).toNatClampNeg = (I_10 x2 6) := by rw [← e_21, q_u_at]
    have g_29 : (-1 : Int) ≤ (I_20 x2 1).toInt ∧ (I_20 x2 1).toInt ≤ 2 := hR_22.at0 ra2 1 (by decide)
    have l_30 : (0 : Int32).toInt = 0 := rfl
    refine y_Loads_send hok hw ra hEN (by first | omega | (intro h; omega) | exact Or.inl rfl | exact Or.inr rfl) (by first | omega | (intro h; omega) | exact Or.inl rfl | exact Or.inr rfl) (by exact fun _ => ⟨fun k hk => by have cl := tCl (x := (I_10 o 9)) (by omega); have ek : k = ((I_10 o 9) : Int32).toNatClampNeg := (by omega); rw [ek, x_28]; omega, by omega⟩) (by exact fun h => absurd rfl h) k_27 hR_22 (fun I_33 L_34 hR_35 fr_36 u_32 => ⟨I_33, L_34, rfl, rfl, ?_⟩)
    have hf_37 : Fm (fun c => (o ≤ c ∧ c < o + 9)) I0 I_33 := hf_23.call fr_36 (fun c hc => by first | exact hc | (dsimp only at hc ⊢; omega) | omega)
    have g_38 : (0 : Int) ≤ (I_33 o 9).toInt ∧ (I_33 o 9).toInt ≤ 2880 := hR_35.at0 ra 9 (by decide)
    have g_39 : (-1 : Int) ≤ (I_33 x2 6).toInt ∧ (I_33 x2 6).toInt ≤ 2 := hR_35.at0 ra2 6 (by decide)
    have g_40 : (-1 : Int) ≤ (I_33 x2 1).toInt ∧ (I_33 x2 1).toInt ≤ 2 := hR_35.at0 ra2 1 (by decide)
    exact (hp _ _ hR_35 hf_37  u_32)
set_option maxHeartbeats 4000000 in
set_option maxRecDepth 20000 in
theorem yLoads_leaveTo_5 {D : va_G} {cA : FieldType → ClassId} {b : Nat} {E : State → Prop} {R : qRg} {o n : Nat} {sh : Nat → qC} {Rf : Nat → Nat → Option Nat} {I0 : Nat → Nat → Int32} {L0 : Nat → Nat → Int64} {post : Option Value → qS → Prop} {p1 : Int32} {p2 : Int32} (hok : q_ok (qGG D cA b E)) (hw : WfLoads (qGG D cA b E) n sh Rf o) (ra : RALoads R o) (hq0 : (-1 : Int) ≤ p1.toInt ∧ p1.toInt ≤ 5) (hq1 : LodOK I0 o) (hp : ∀ (I' : Nat → Nat → Int32) (L' : Nat → Nat → Int64), RI R I' → Fm (fun c => (o ≤ c ∧ c < o + 9)) I0 I' → (LodOK I' o) → post none (n, sh, Rf, I', L')) : ∀ (k : Nat) {x1 : Int32} {x2 : Int32} {x3 : Int32} {I : Nat → Nat → Int32} {L : Nat → Nat → Int64}, RI R I → Fm (fun c => (o ≤ c ∧ c < o + 9)) I0 I → ((-1 : Int) ≤ x1.toInt ∧ x1.toInt ≤ 5) → ((0 : Int) ≤ x3.toInt ∧ x3.toInt ≤ 2880) → (LodOK I o) → (2880 - x3.toInt).toNat < k → Ev (qGG D cA b E) mLoads_leaveTo 0 (0, 0) 5 [(0, .ref o), (1, .int x1), (2, .int x2), (3, .int x3)] [] (n, sh, Rf, I, L) post := by
  intro k
  induction k with
  | zero =>
    intro x1 x2 x3 I L hR hf hi0 hi1 hi2 hm
    exact absurd hm (Nat.not_lt_zero _)
  | succ k ih =>
    intro x1 x2 x3 I L hR hf hi0 hi1 hi2 hm
    refine sLoads_leaveTo_5 o n sh Rf I L post x1 x2 x3 hok hw ?_
    unfold fLoads_leaveTo_5
    have g_1 : (0 : Int) ≤ (I o 9).toInt ∧ (I o 9).toInt ≤ 2880 := hR.at0 ra 9 (by decide)
    refine ⟨fun c_2 => ?_, fun c_2 => ?_⟩
    · have d_3 := iLe c_2
      exact (hp _ _ hR hf  hi2)
    · have d_4 := iNle c_2
      refine ⟨tIn (by omega) (by omega), ?_⟩
      have g_5 : (-1 : Int) ≤ (I (o + 2) (x3 : Int32).toNatClampNeg).toInt ∧ (I (o + 2) (x3 : Int32).toNatClampNeg).toInt ≤ 5 := hR.at ra 2 _ (by decide)
      refine ⟨fun c_6 => ?_, fun c_6 => ?_⟩
      · have d_7 := iNe c_6
        unfold fLoads_leaveTo_30
        have a_9 : (x3 + Int32.ofInt 1).toInt = x3.toInt + (1) := tIc (by omega) (by omega) (by decide) (by decide)
        generalize ez_8 : (x3 + Int32.ofInt 1) = z_8 at a_9 ⊢
        exact ih hR hf (by first | omega | (intro h; omega) | exact Or.inl rfl | exact Or.inr rfl) (by first | omega | (intro h; omega) | exact Or.inl rfl | exact Or.inr rfl) hi2 (by omega)
      · have d_10 := iEq c_6
        refine ⟨tIn (by omega) (by omega), fun I_11 e_12 => ?_⟩
        have hR_13 : RI R I_11 := hR.up ra 2 (by decide) (Or.inl rfl) e_12 (show (-1 : Int) ≤ x1.toInt by omega) (show x1.toInt ≤ (5 : Int) by omega)
        have hf_14 : Fm (fun c => (o ≤ c ∧ c < o + 9)) I0 I_11 := hf.set (by first | rfl | omega | (dsimp only; omega)) e_12
        have t_15 : (I_11 o 9).toInt = (I o 9).toInt := by rw [← e_12, q_u_ne (by omega)]
        have k_16 : LodOK I_11 o := hi2.fr (by rw [← e_12]; exact q_u_ne (by omega)) (by rw [← e_12]; exact q_u_ne (by omega)) (by rw [← e_12]; exact q_u_ne (by omega)) (by rw [← e_12, q_u_ne (by omega)])
        unfold fLoads_leaveTo_30
        have a_18 : (x3 + Int32.ofInt 1).toInt = x3.toInt + (1) := tIc (by omega) (by omega) (by decide) (by decide)
        generalize ez_17 : (x3 + Int32.ofInt 1) = z_17 at a_18 ⊢
        exact ih hR_13 hf_14 (by first | omega | (intro h; omega) | exact Or.inl rfl | exact Or.inr rfl) (by first | omega | (intro h; omega) | exact Or.inl rfl | exact Or.inr rfl) k_16 (by omega)
set_option maxHeartbeats 4000000 in
set_option maxRecDepth 20000 in
theorem y_Loads_leaveTo {D : va_G} {cA : FieldType → ClassId} {b : Nat} {E : State → Prop} {R : qRg} {o n : Nat} {sh : Nat → qC} {Rf : Nat → Nat → Option Nat} {I0 : Nat → Nat → Int32} {L0 : Nat → Nat → Int64} {post : Option Value → qS → Prop} {p1 : Int32} {p2 : Int32} (hok : q_ok (qGG D cA b E)) (hw : WfLoads (qGG D cA b E) n sh Rf o) (ra : RALoads R o) (hq0 : (-1 : Int) ≤ p1.toInt ∧ p1.toInt ≤ 5) (hq1 : LodOK I0 o) (hR : RI R I0) (hp : ∀ (I' : Nat → Nat → Int32) (L' : Nat → Nat → Int64), RI R I' → Fm (fun c => (o ≤ c ∧ c < o + 9)) I0 I' → (LodOK I' o) → post none (n, sh, Rf, I', L')) : Ev (qGG D cA b E) mLoads_leaveTo 0 (0, 0) 0 (lv_args 0 [.ref o, .int p1, .int p2]) [] (n, sh, Rf, I0, L0) post := by
  have hf : Fm (fun c => (o ≤ c ∧ c < o + 9)) I0 I0 := Fm.rf
  refine sLoads_leaveTo_0 o n sh Rf I0 L0 post p1 p2 hok hw ?_
  unfold fLoads_leaveTo_0
  have g_19 : (0 : Int) ≤ (I0 o 8).toInt ∧ (I0 o 8).toInt ≤ 2880 := hR.at0 ra 8 (by decide)
  exact yLoads_leaveTo_5 (I0 := I0) (L0 := L0) (p1 := p1) (p2 := p2) hok hw ra hq0 hq1 hp  _ hR hf (by first | omega | (intro h; omega) | exact Or.inl rfl | exact Or.inr rfl) (by first | omega | (intro h; omega) | exact Or.inl rfl | exact Or.inr rfl) hq1 (Nat.lt_succ_self _)
set_option maxHeartbeats 4000000 in
set_option maxRecDepth 20000 in
theorem yLoads_forgetCome_0 {D : va_G} {cA : FieldType → ClassId} {b : Nat} {E : State → Prop} {R : qRg} {o n : Nat} {sh : Nat → qC} {Rf : Nat → Nat → Option Nat} {I0 : Nat → Nat → Int32} {L0 : Nat → Nat → Int64} {post : Option Value → qS → Prop} {p1 : Int32} (hok : q_ok (qGG D cA b E)) (hw : WfLoads (qGG D cA b E) n sh Rf o) (ra : RALoads R o) (hq0 : LodOK I0 o) (hp : ∀ (I' : Nat → Nat → Int32) (L' : Nat → Nat → Int64), RI R I' → Fm (fun c => (o ≤ c ∧ c < o + 9)) I0 I' → (LodOK I' o) → post none (n, sh, Rf, I', L')) : ∀ (k : Nat) {x1 : Int32} {I : Nat → Nat → Int32} {L : Nat → Nat → Int64}, RI R I → Fm (fun c => (o ≤ c ∧ c < o + 9)) I0 I → (LodOK I o) → (2880 - (I o 8).toInt).toNat < k → Ev (qGG D cA b E) mLoads_forgetCome 0 (0, 0) 0 [(0, .ref o), (1, .int x1)] [] (n, sh, Rf, I, L) post := by
  intro k
  induction k with
  | zero =>
    intro x1 I L hR hf hi0 hm
    exact absurd hm (Nat.not_lt_zero _)
  | succ k ih =>
    intro x1 I L hR hf hi0 hm
    refine sLoads_forgetCome_0 o n sh Rf I L post x1 hok hw ?_
    unfold fLoads_forgetCome_0
    have g_1 : (0 : Int) ≤ (I o 8).toInt ∧ (I o 8).toInt ≤ 2880 := hR.at0 ra 8 (by decide)
    have g_2 : (0 : Int) ≤ (I o 9).toInt ∧ (I o 9).toInt ≤ 2880 := hR.at0 ra 9 (by decide)
    refine ⟨fun c_3 => ?_, fun c_3 => ?_⟩
    · have d_4 := iLe c_3
      exact (hp _ _ hR hf  hi0)
    · have d_5 := iNle c_3
      have g_6 : (0 : Int) ≤ (I o 8).toInt ∧ (I o 8).toInt ≤ 2880 := hR.at0 ra 8 (by decide)
      refine ⟨tIn (by omega) (by omega), ?_⟩
      refine ⟨fun c_7 => ?_, fun c_7 => ?_⟩
      · have d_8 := iLt c_7
        exact (hp _ _ hR hf  hi0)
      · have d_9 := iNlt c_7
        have g_10 : (0 : Int) ≤ (I o 8).toInt ∧ (I o 8).toInt ≤ 2880 := hR.at0 ra 8 (by decide)
        have l_11 : (1 : Int32).toInt = 1 := rfl
        have a_12 : ((I o 8) + 1).toInt = (I o 8).toInt + (1 : Int32).toInt := tAdd (by omega) (by omega)
        refine fun I_13 e_14 => ?_
        have hR_15 : RI R I_13 := hR.up0 (k := 8) ra (by decide) (Or.inl rfl) e_14 (show (0 : Int) ≤ ((I o 8) + 1).toInt by omega) (show ((I o 8) + 1).toInt ≤ (2880 : Int) by omega)
        have hf_16 : Fm (fun c => (o ≤ c ∧ c < o + 9)) I0 I_13 := hf.set (by first | rfl | omega | (dsimp only; omega)) e_14
        have t_17 : (I_13 o 8).toInt = ((I o 8) + 1).toInt := by rw [← e_14, q_u_at]
        have t_18 : (I_13 o 9).toInt = (I o 9).toInt := by rw [← e_14, q_u_k (by decide)]
        have k_19 : LodOK I_13 o := hi0.fr (by rw [← e_14]; exact q_u_ne (by omega)) (by rw [← e_14]; exact q_u_ne (by omega)) (by rw [← e_14]; exact q_u_ne (by omega)) (by rw [← e_14, q_u_k (by decide)])
        exact ih hR_15 hf_16  k_19 (by omega)
set_option maxHeartbeats 4000000 in
set_option maxRecDepth 20000 in
theorem y_Loads_forgetCome {D : va_G} {cA : FieldType → ClassId} {b : Nat} {E : State → Prop} {R : qRg} {o n : Nat} {sh : Nat → qC} {Rf : Nat → Nat → Option Nat} {I0 : Nat → Nat → Int32} {L0 : Nat → Nat → Int64} {post : Option Value → qS → Prop} {p1 : Int32} (hok : q_ok (qGG D cA b E)) (hw : WfLoads (qGG D cA b E) n sh Rf o) (ra : RALoads R o) (hq0 : LodOK I0 o) (hR : RI R I0) (hp : ∀ (I' : Nat → Nat → Int32) (L' : Nat → Nat → Int64), RI R I' → Fm (fun c => (o ≤ c ∧ c < o + 9)) I0 I' → (LodOK I' o) → post none (n, sh, Rf, I', L')) : Ev (qGG D cA b E) mLoads_forgetCome 0 (0, 0) 0 (lv_args 0 [.ref o, .int p1]) [] (n, sh, Rf, I0, L0) post := by
  exact yLoads_forgetCome_0 (I0 := I0) (L0 := L0) (p1 := p1) hok hw ra hq0 hp _ hR Fm.rf  hq0 (Nat.lt_succ_self _)
set_option maxHeartbeats 4000000 in
set_option maxRecDepth 20000 in
theorem y_Facts_add {D : va_G} {cA : FieldType → ClassId} {b : Nat} {E : State → Prop} {R : qRg} {o n : Nat} {sh : Nat → qC} {Rf : Nat → Nat → Option Nat} {I0 : Nat → Nat → Int32} {L0 : Nat → Nat → Int64} {post : Option Value → qS → Prop} {p1 : Int32} {p2 : Int32} {p3 : Int32} {p4 : Int32} {p5 : Int32} (hok : q_ok (qGG D cA b E)) (hw : WfFacts (qGG D cA b E) n sh Rf o) (ra : RAFacts R o) (hq0 : Im (p1.toInt = 2) (0 ≤ p2.toInt ∧ p2.toInt ≤ 5 ∧ -1 ≤ p4.toInt ∧ p4.toInt ≤ 5)) (hq1 : FacOK I0 o) (hR : RI R I0) (hp : ∀ (r : Int32) (I' : Nat → Nat → Int32) (L' : Nat → Nat → Int64), RI R I' → Fm (fun c => (o ≤ c ∧ c < o + 7)) I0 I' → (FacOK I' o) → post (some (.int r)) (n, sh, Rf, I', L')) : Ev (qGG D cA b E) mFacts_add 0 (0, 0) 0 (lv_args 0 [.ref o, .int p1, .int p2, .int p3, .int p4, .int p5]) [] (n, sh, Rf, I0, L0) post := by
  have hf : Fm (fun c => (o ≤ c ∧ c < o + 7)) I0 I0 := Fm.rf
  have g_1 : (0 : Int) ≤ (I0 o 6).toInt ∧ (I0 o 6).toInt ≤ 40 := hR.at0 ra 6 (by decide)
  refine sFacts_add_0 o n sh Rf I0 L0 post p1 p2 p3 p4 p5 hok hw ?_
  unfold fFacts_add_0
  have g_2 : (0 : Int) ≤ (I0 o 6).toInt ∧ (I0 o 6).toInt ≤ 40 := hR.at0 ra 6 (by decide)
  have l_3 : (40 : Int32).toInt = 40 := rfl
  refine ⟨fun c_4 => ?_, fun c_4 => ?_⟩
  · have d_5 := iLt c_4
    have g_6 : (0 : Int) ≤ (I0 o 6).toInt ∧ (I0 o 6).toInt ≤ 40 := hR.at0 ra 6 (by decide)
    refine ⟨tIn (by omega) (by omega), fun I_7 e_8 => ?_⟩
    have hR_9 : RI R I_7 := hR.up ra 1 (by decide) (Or.inl rfl) e_8 (i_lo _) (i_hi _)
    have hf_10 : Fm (fun c => (o ≤ c ∧ c < o + 7)) I0 I_7 := hf.set (by first | rfl | omega | (dsimp only; omega)) e_8
    have t_11 : (I_7 o 6).toInt = (I0 o 6).toInt := by rw [← e_8, q_u_ne (by omega)]
    have k_12 : FacOK I_7 o := hq1.put1 e_8 (by have cl := tCl (x := (I0 o 6)) (by omega); omega)
    have x_13 : I_7 (o + 1) ((I0 o 6) : Int32).toNatClampNeg = p1 := by rw [← e_8, q_u_at]
    have g_14 : (0 : Int) ≤ (I_7 o 6).toInt ∧ (I_7 o 6).toInt ≤ 40 := hR_9.at0 ra 6 (by decide)
    refine ⟨tIn (by omega) (by omega), fun I_15 e_16 => ?_⟩
    have hR_17 : RI R I_15 := hR_9.up ra 2 (by decide) (Or.inl rfl) e_16 (i_lo _) (i_hi _)
    have hf_18 : Fm (fun c => (o ≤ c ∧ c < o + 7)) I0 I_15 := hf_10.set (by first | rfl | omega | (dsimp only; omega)) e_16
    have t_19 : (I_15 o 6).toInt = (I_7 o 6).toInt := by rw [← e_16, q_u_ne (by omega)]
    have k_20 : FacOK I_15 o := k_12.put2 e_16 (by have cl := tCl (x := (I_7 o 6)) (by omega); omega)
    have x_21 : I_15 (o + 1) ((I0 o 6) : Int32).toNatClampNeg = p1 := by rw [← e_16, q_u_ne (by omega)]; exact x_13
    have x_22 : I_15 (o + 2) ((I_7 o 6) : Int32).toNatClampNeg = p2 := by rw [← e_16, q_u_at]
    have g_23 : (0 : Int) ≤ (I_15 o 6).toInt ∧ (I_15 o 6).toInt ≤ 40 := hR_17.at0 ra 6 (by decide)
    refine ⟨tIn (by omega) (by omega), fun I_24 e_25 => ?_⟩
    have hR_26 : RI R I_24 := hR_17.up ra 3 (by decide) (Or.inl rfl) e_25 (i_lo _) (i_hi _)
    have hf_27 : Fm (fun c => (o ≤ c ∧ c < o + 7)) I0 I_24 := hf_18.set (by first | rfl | omega | (dsimp only; omega)) e_25
    have t_28 : (I_24 o 6).toInt = (I_15 o 6).toInt := by rw [← e_25, q_u_ne (by omega)]
    have k_29 : FacOK I_24 o := k_20.fr (by rw [← e_25]; exact q_u_ne (by omega)) (by rw [← e_25]; exact q_u_ne (by omega)) (by rw [← e_25]; exact q_u_ne (by omega)) (by rw [← e_25, q_u_ne (by omega)])
    have x_30 : I_24 (o + 1) ((I0 o 6) : Int32).toNatClampNeg = p1 := by rw [← e_25, q_u_ne (by omega)]; exact x_21
    have x_31 : I_24 (o + 2) ((I_7 o 6) : Int32).toNatClampNeg = p2 := by rw [← e_25, q_u_ne (by omega)]; exact x_22
    have g_32 : (0 : Int) ≤ (I_24 o 6).toInt ∧ (I_24 o 6).toInt ≤ 40 := hR_26.at0 ra 6 (by decide)
    refine ⟨tIn (by omega) (by omega), fun I_33 e_34 => ?_⟩
    have hR_35 : RI R I_33 := hR_26.up ra 4 (by decide) (Or.inl rfl) e_34 (i_lo _) (i_hi _)
    have hf_36 : Fm (fun c => (o ≤ c ∧ c < o + 7)) I0 I_33 := hf_27.set (by first | rfl | omega | (dsimp only; omega)) e_34
    have t_37 : (I_33 o 6).toInt = (I_24 o 6).toInt := by rw [← e_34, q_u_ne (by omega)]
    have k_38 : FacOK I_33 o := k_29.put4 e_34 (by have cl := tCl (x := (I_24 o 6)) (by omega); omega)
    have x_39 : I_33 (o + 1) ((I0 o 6) : Int32).toNatClampNeg = p1 := by rw [← e_34, q_u_ne (by omega)]; exact x_30
    have x_40 : I_33 (o + 2) ((I_7 o 6) : Int32).toNatClampNeg = p2 := by rw [← e_34, q_u_ne (by omega)]; exact x_31
    have x_41 : I_33 (o + 4) ((I_24 o 6) : Int32).toNatClampNeg = p4 := by rw [← e_34, q_u_at]
    have g_42 : (0 : Int) ≤ (I_33 o 6).toInt ∧ (I_33 o 6).toInt ≤ 40 := hR_35.at0 ra 6 (by decide)
    refine ⟨tIn (by omega) (by omega), fun I_43 e_44 => ?_⟩
    have hR_45 : RI R I_43 := hR_35.up ra 5 (by decide) (Or.inl rfl) e_44 (i_lo _) (i_hi _)
    have hf_46 : Fm (fun c => (o ≤ c ∧ c < o + 7)) I0 I_43 := hf_36.set (by first | rfl | omega | (dsimp only; omega)) e_44
    have t_47 : (I_43 o 6).toInt = (I_33 o 6).toInt := by rw [← e_44, q_u_ne (by omega)]
    have k_48 : FacOK I_43 o := k_38.fr (by rw [← e_44]; exact q_u_ne (by omega)) (by rw [← e_44]; exact q_u_ne (by omega)) (by rw [← e_44]; exact q_u_ne (by omega)) (by rw [← e_44, q_u_ne (by omega)])
    have x_49 : I_43 (o + 1) ((I0 o 6) : Int32).toNatClampNeg = p1 := by rw [← e_44, q_u_ne (by omega)]; exact x_39
    have x_50 : I_43 (o + 2) ((I_7 o 6) : Int32).toNatClampNeg = p2 := by rw [← e_44, q_u_ne (by omega)]; exact x_40
    have x_51 : I_43 (o + 4) ((I_24 o 6) : Int32).toNatClampNeg = p4 := by rw [← e_44, q_u_ne (by omega)]; exact x_41
    have g_52 : (0 : Int) ≤ (I_43 o 6).toInt ∧ (I_43 o 6).toInt ≤ 40 := hR_45.at0 ra 6 (by decide)
    have l_53 : (-1 : Int32).toInt = -1 := rfl
    refine ⟨tIn (by omega) (by omega), fun I_54 e_55 => ?_⟩
    have hR_56 : RI R I_54 := hR_45.up ra 6 (by decide) (Or.inl rfl) e_55 (i_lo _) (i_hi _)
    have hf_57 : Fm (fun c => (o ≤ c ∧ c < o + 7)) I0 I_54 := hf_46.set (by first | rfl | omega | (dsimp only; omega)) e_55
    have t_58 : (I_54 o 6).toInt = (I_43 o 6).toInt := by rw [← e_55, q_u_ne (by omega)]
    have k_59 : FacOK I_54 o := k_48.fr (by rw [← e_55]; exact q_u_ne (by omega)) (by rw [← e_55]; exact q_u_ne (by omega)) (by rw [← e_55]; exact q_u_ne (by omega)) (by rw [← e_55, q_u_ne (by omega)])
    have x_60 : I_54 (o + 1) ((I0 o 6) : Int32).toNatClampNeg = p1 := by rw [← e_55, q_u_ne (by omega)]; exact x_49
    have x_61 : I_54 (o + 2) ((I_7 o 6) : Int32).toNatClampNeg = p2 := by rw [← e_55, q_u_ne (by omega)]; exact x_50
    have x_62 : I_54 (o + 4) ((I_24 o 6) : Int32).toNatClampNeg = p4 := by rw [← e_55, q_u_ne (by omega)]; exact x_51
    have g_63 : (0 : Int) ≤ (I_54 o 6).toInt ∧ (I_54 o 6).toInt ≤ 40 := hR_56.at0 ra 6 (by decide)
    have l_64 : (1 : Int32).toInt = 1 := rfl
    have a_65 : ((I_54 o 6) + 1).toInt = (I_54 o 6).toInt + (1 : Int32).toInt := tAdd (by omega) (by omega)
    refine fun I_66 e_67 => ?_
    have hR_68 : RI R I_66 := hR_56.up0 (k := 6) ra (by decide) (Or.inl rfl) e_67 (show (0 : Int) ≤ ((I_54 o 6) + 1).toInt by omega) (show ((I_54 o 6) + 1).toInt ≤ (40 : Int) by omega)
    have hf_69 : Fm (fun c => (o ≤ c ∧ c < o + 7)) I0 I_66 := hf_57.set (by first | rfl | omega | (dsimp only; omega)) e_67
    have t_70 : (I_66 o 6).toInt = ((I_54 o 6) + 1).toInt := by rw [← e_67, q_u_at]
    have x_72 : I_66 (o + 1) ((I0 o 6) : Int32).toNatClampNeg = p1 := by rw [← e_67, q_u_ne (by omega)]; exact x_60
    have x_73 : I_66 (o + 2) ((I_7 o 6) : Int32).toNatClampNeg = p2 := by rw [← e_67, q_u_ne (by omega)]; exact x_61
    have x_74 : I_66 (o + 4) ((I_24 o 6) : Int32).toNatClampNeg = p4 := by rw [← e_67, q_u_ne (by omega)]; exact x_62
    have g_75 : (0 : Int) ≤ (I_66 o 6).toInt ∧ (I_66 o 6).toInt ≤ 40 := hR_68.at0 ra 6 (by decide)
    have a_76 : ((I_66 o 6) - 1).toInt = (I_66 o 6).toInt - (1 : Int32).toInt := tSub (by omega) (by omega)
    exact (hp _ _ _ hR_68 hf_69  (FacOK.inc k_59 e_67 (by omega) x_60 x_61 x_62 (by have cl := tCl (x := (I0 o 6)) (by omega); omega) (by have cl := tCl (x := (I_7 o 6)) (by omega); omega) (by have cl := tCl (x := (I_24 o 6)) (by omega); omega) hq0))
  · have d_77 := iNlt c_4
    have l_78 : (-1 : Int32).toInt = -1 := rfl
    exact (hp _ _ _ hR hf  hq1)
