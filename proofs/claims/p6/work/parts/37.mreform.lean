/-! The reference on a fresh object: reform. -/
def Lay4 (I J : Nat → Nat → Int32) (o : Nat) : Prop := ∀ a, a ≠ o + 26 → a ≠ o + 27 → a ≠ o + 30 → a ≠ o + 31 → I a = J a
section MRf
variable {D : va_G} {cA : FieldType → ClassId} {b : Nat} {E : State → Prop} {o n : Nat} {sh : Nat → qC} {Rf : Nat → Nat → Option Nat} {I : Nat → Nat → Int32} {L : Nat → Nat → Int64} {post : Option Value → qS → Prop}
theorem l_layB_84 (hok : q_ok (qGG D cA b E)) (hw : WfModel (qGG D cA b E) n sh Rf o) {x y : Nat} {J : Nat → Nat → Int32} (hx : x < 6) (hy : y < 6) (hp : ∀ I', Lay4 I' J o → post none (n, sh, Rf, I', L)) : ∀ (m k : Nat) (I : Nat → Nat → Int32), k + m = 700 → Lay4 I J o → Ev (qGG D cA b E) mModel_lay 0 (0, 0) 84 [(0, .ref o), (1, .int (nI x)), (2, .int (nI y)), (3, .int (nI k))] [] (n, sh, Rf, I, L) post := by
  intro m
  induction m with
  | zero =>
    intro k I hk hJ
    exact sModel_lay_84 o n sh Rf I L post (nI x) (nI y) (nI k) hok hw ⟨fun _ => hp I hJ, fun h => absurd ((nI_leI (a := 700) (by omega) (by omega)).mpr (by omega)) h⟩
  | succ m ih =>
    intro k I hk hJ
    have v1 : vp_in ((700 * nI x) + nI k) 4200 := by
      rw [show (700 * nI x) + nI k = nI (700 * x + k) from nI_lin 700 x k]
      exact vp_in_nI (by omega) (by omega)
    have v2 : vp_in ((700 * nI y) + nI k) 4200 := by
      rw [show (700 * nI y) + nI k = nI (700 * y + k) from nI_lin 700 y k]
      exact vp_in_nI (by omega) (by omega)
    refine sModel_lay_84 o n sh Rf I L post (nI x) (nI y) (nI k) hok hw ⟨fun h => absurd ((nI_leI (a := 700) (by omega) (by omega)).mp h) (by omega), fun _ => ⟨v1, v2, fun I2 e2 => ⟨v1, v2, fun I3 e3 => ?_⟩⟩⟩
    rw [nI_inc]
    refine ih (k + 1) I3 (by omega) (fun a c1 c2 c3 c4 => ?_)
    rw [← e3, q_u_ne (by assumption), ← e2, q_u_ne (by assumption)]
    exact hJ a c1 c2 c3 c4
theorem l_layB_26 (hok : q_ok (qGG D cA b E)) (hw : WfModel (qGG D cA b E) n sh Rf o) {x y : Nat} {J : Nat → Nat → Int32} (hx : x < 6) (hy : y < 6) (kk : ∀ I', Lay4 I' J o → Ev (qGG D cA b E) mModel_lay 0 (0, 0) 84 [(0, .ref o), (1, .int (nI x)), (2, .int (nI y)), (3, .int 0)] [] (n, sh, Rf, I', L) post) : ∀ (m k : Nat) (I : Nat → Nat → Int32), k + m = 10 → Lay4 I J o → Ev (qGG D cA b E) mModel_lay 0 (0, 0) 26 [(0, .ref o), (1, .int (nI x)), (2, .int (nI y)), (3, .int (nI k))] [] (n, sh, Rf, I, L) post := by
  intro m
  induction m with
  | zero =>
    intro k I hk hJ
    exact sModel_lay_26 o n sh Rf I L post (nI x) (nI y) (nI k) hok hw ⟨fun _ => kk I hJ, fun h => absurd ((nI_leI (a := 10) (by omega) (by omega)).mpr (by omega)) h⟩
  | succ m ih =>
    intro k I hk hJ
    have v1 : vp_in ((10 * nI x) + nI k) 60 := by
      rw [show (10 * nI x) + nI k = nI (10 * x + k) from nI_lin 10 x k]
      exact vp_in_nI (by omega) (by omega)
    have v2 : vp_in ((10 * nI y) + nI k) 60 := by
      rw [show (10 * nI y) + nI k = nI (10 * y + k) from nI_lin 10 y k]
      exact vp_in_nI (by omega) (by omega)
    refine sModel_lay_26 o n sh Rf I L post (nI x) (nI y) (nI k) hok hw ⟨fun h => absurd ((nI_leI (a := 10) (by omega) (by omega)).mp h) (by omega), fun _ => ⟨v1, v2, fun I2 e2 => ⟨v1, v2, fun I3 e3 => ?_⟩⟩⟩
    rw [nI_inc]
    refine ih (k + 1) I3 (by omega) (fun a c1 c2 c3 c4 => ?_)
    rw [← e3, q_u_ne (by assumption), ← e2, q_u_ne (by assumption)]
    exact hJ a c1 c2 c3 c4
theorem l_layB (hok : q_ok (qGG D cA b E)) (hw : WfModel (qGG D cA b E) n sh Rf o) {x y : Nat} {x1 x2 : Int32} (h1 : x1 = nI x) (h2 : x2 = nI y) (hx : x < 6) (hy : y < 6) (hp : ∀ I', I' (o + 29) y = I (o + 29) x → post none (n, sh, Rf, I', L)) : Ev (qGG D cA b E) mModel_lay 0 (0, 0) 0 (lv_args 0 [.ref o, .int x1, .int x2]) [] (n, sh, Rf, I, L) post := by
  subst h1 h2
  have v1 : vp_in (nI x) 6 := vp_in_nI hx (by omega)
  have v2 : vp_in (nI y) 6 := vp_in_nI hy (by omega)
  have c1 : (nI x).toNatClampNeg = x := nI_clamp (by omega)
  have c2 : (nI y).toNatClampNeg = y := nI_clamp (by omega)
  refine sModel_lay_0 o n sh Rf I L post (nI x) (nI y) hok hw ⟨v1, v2, fun I2 e2 => ⟨v1, v2, fun I3 e3 => ?_⟩⟩
  rw [c1, c2] at e3
  have k3 : I3 (o + 29) y = I (o + 29) x := by rw [← e3, q_u_at, ← e2, q_u_ne (by omega)]
  refine l_layB_26 (J := I3) hok hw hx hy (fun I4 h4 => ?_) 10 0 I3 rfl (fun _ _ _ _ _ => rfl)
  refine l_layB_84 (J := I3) hok hw hx hy (fun I5 h5 => hp I5 ?_) 700 0 I4 rfl h4
  rw [h5 (o + 29) (by omega) (by omega) (by omega) (by omega)]
  exact k3
theorem m_reform (hok : q_ok (qGG D cA b E)) (hw : WfModel (qGG D cA b E) n sh Rf o) (hf : FM I o) {x1 : Int32} (hp : ∀ I' L', post (some (.int (aReform x1))) (n, sh, Rf, I', L')) : Ev (qGG D cA b E) mModel_reform 7 (0, 0) 0 (lv_args 0 [.ref o, .int x1]) [] (n, sh, Rf, I, L) post := by
  have k : (x1 < 4) ↔ ¬ (3 < x1) := by
    rw [Int32.lt_iff_toInt_lt, Int32.lt_iff_toInt_lt, show (4 : Int32).toInt = 4 by decide, show (3 : Int32).toInt = 3 by decide]
    omega
  refine sModel_reform_0 o n sh Rf I L post x1 hok hw ⟨fun h => absurd h (by rw [hf.2.1]; decide), fun _ => ⟨fun h => ?_, fun h => ⟨fun h1 => ?_, fun h1 => ?_⟩⟩⟩
  · have e : aReform x1 = -2 := if_pos (if_pos h)
    rw [← e]; exact hp _ _
  · have e : aReform x1 = 0 := if_neg (by unfold aIn; rw [if_neg h, if_neg (k.mp h1)]; decide)
    obtain ⟨S, hS, rfl⟩ := nI_of2 (M := 3) (n := 3) (by decide) h (Int32.not_lt.mp (k.mp h1))
    refine z_takeTape hok hw (Or.inr rfl) hf.2.1 (fun I6 na nk k4 k3 k2 k7 => ⟨I6, L, rfl, rfl, fun I8 e8 => ?_⟩)
    have q44 : I8 o 44 = 4 := by rw [← e8, q_u_at]
    refine ⟨by rw [q44]; unfold vp_in; decide, fun I9 e9 => ?_⟩
    have r44 : I9 o 44 = 4 := by rw [← e9, q_u_ne (by omega)]; exact q44
    refine ⟨by rw [r44]; unfold vp_in; decide, fun I11 e11 => ?_⟩
    have s44 : I11 o 44 = 4 := by rw [← e11, q_u_ne (by omega)]; exact r44
    have u29 : I11 (o + 29) 4 = 0 := by
      rw [r44, show (4 : Int32).toNatClampNeg = 4 from rfl] at e11
      rw [← e11, q_u_at]
    have ko : ∀ j, j ≠ 44 → I11 o j = I6 o j := fun j hj => by rw [← e11, q_u_ne (by omega), ← e9, q_u_ne (by omega), ← e8, q_u_k hj]
    refine z_reform_54 (J := I11) hok hw s44 (fun I12 ha => ?_) 10 0 I11 rfl (fun _ _ => rfl)
    refine sModel_reform_54 o n sh Rf I12 L post (nI S) (nI 10) hok hw ⟨fun _ I13 e13 I14 e14 => ?_, fun q => absurd (by decide) q⟩
    have lo : ∀ j, j ≠ 45 → j ≠ 46 → I14 o j = I11 o j := fun j c1 c2 => by rw [← e14, q_u_k c2, ← e13, q_u_k c1, ha o (by omega)]
    refine z_next hok hw (by rw [lo 3 (by decide) (by decide), ko 3 (by decide)]; exact k3) (by rw [lo 7 (by decide) (by decide), ko 7 (by decide)]; exact k7) (fun I16 ma mk t8 => ⟨I16, L, rfl, rfl, ?_⟩)
    have g4 : I16 o 4 = 0 := by rw [mk 4 (by decide) (by decide) (by decide), lo 4 (by decide) (by decide), ko 4 (by decide)]; exact k4
    have g44 : I16 o 44 = nI 4 := by rw [mk 44 (by decide) (by decide) (by decide), lo 44 (by decide) (by decide), s44]; rfl
    have g29 : I16 (o + 29) 4 = 0 := by rw [ma _ (by omega), ← e14, q_u_ne (by omega), ← e13, q_u_ne (by omega), ha _ (by omega)]; exact u29
    refine sModel_reform_95 o n sh Rf I16 L post (nI S) (nI 10) hok hw (l_isGood hok hw g4 ⟨1, I16, L, rfl, rfl, fun q => absurd q (by decide), fun _ => ⟨fun _ => ?_, fun q => absurd t8 q⟩⟩)
    refine l_isGood hok hw g4 ⟨1, I16, L, rfl, rfl, fun _ => ?_, fun q => absurd q (by decide)⟩
    refine l_layB (x := 4) (y := S) hok hw g44 rfl (by omega) (by omega) (fun I17 h17 => ⟨I17, L, rfl, rfl, vp_in_nI (by omega) (by omega), ?_⟩)
    rw [nI_clamp (by omega), h17, g29, ← e]
    exact hp _ _
  · have e : aReform x1 = -2 := if_pos (by unfold aIn; rw [if_neg h, if_pos (Classical.not_not.mp (fun q => h1 (k.mpr q)))])
    rw [← e]; exact hp _ _
end MRf
