/-! The reference: a RUN while nothing is told. -/
def ZL (L : Nat → Nat → Int64) (o : Nat) : Prop := L o 112 = 0 ∧ L o 114 = 0 ∧ L o 118 = 0 ∧ L o 119 = 0
section MR
variable {D : va_G} {cA : FieldType → ClassId} {b : Nat} {E : State → Prop} {o n : Nat} {sh : Nat → qC} {Rf : Nat → Nat → Option Nat} {I : Nat → Nat → Int32} {L : Nat → Nat → Int64} {post : Option Value → qS → Prop}
theorem z_clear_127 (hok : q_ok (qGG D cA b E)) (hw : WfModel (qGG D cA b E) n sh Rf o) (kk : ∀ I', ZR I' o → Ev (qGG D cA b E) mModel_clear 1 (0, 0) 148 [(0, .ref o), (1, .int 0)] [] (n, sh, Rf, I', L) post) : ∀ (m k : Nat) (I : Nat → Nat → Int32), k + m = 18 → ZR I o → Ev (qGG D cA b E) mModel_clear 1 (0, 0) 127 [(0, .ref o), (1, .int (nI k))] [] (n, sh, Rf, I, L) post := by
  intro m
  induction m with
  | zero =>
    intro k I hk hz
    exact sModel_clear_127 o n sh Rf I L post (nI k) hok hw ⟨fun _ => kk I hz, fun h => absurd ((nI_leI (a := 18) (by omega) (by omega)).mpr (by omega)) h⟩
  | succ m ih =>
    intro k I hk hz
    refine sModel_clear_127 o n sh Rf I L post (nI k) hok hw ⟨fun h => absurd ((nI_leI (a := 18) (by omega) (by omega)).mp h) (by omega), fun _ => ⟨vp_in_nI (by omega) (by omega), fun I2 e2 => ?_⟩⟩
    rw [nI_inc]
    exact ih (k + 1) I2 (by omega) (e2 ▸ hz.arr (by omega) (by omega) (by omega) (by omega) (by omega))
theorem z_clear_107 (hok : q_ok (qGG D cA b E)) (hw : WfModel (qGG D cA b E) n sh Rf o) (kk : ∀ I', ZR I' o → Ev (qGG D cA b E) mModel_clear 1 (0, 0) 127 [(0, .ref o), (1, .int 0)] [] (n, sh, Rf, I', L) post) : ∀ (m k : Nat) (I : Nat → Nat → Int32), k + m = 5 → ZR I o → Ev (qGG D cA b E) mModel_clear 1 (0, 0) 107 [(0, .ref o), (1, .int (nI k))] [] (n, sh, Rf, I, L) post := by
  intro m
  induction m with
  | zero =>
    intro k I hk hz
    exact sModel_clear_107 o n sh Rf I L post (nI k) hok hw ⟨fun _ => kk I hz, fun h => absurd ((nI_leI (a := 5) (by omega) (by omega)).mpr (by omega)) h⟩
  | succ m ih =>
    intro k I hk hz
    refine sModel_clear_107 o n sh Rf I L post (nI k) hok hw ⟨fun h => absurd ((nI_leI (a := 5) (by omega) (by omega)).mp h) (by omega), fun _ => ⟨vp_in_nI (by omega) (by omega), fun I2 e2 => ?_⟩⟩
    rw [nI_inc]
    exact ih (k + 1) I2 (by omega) (e2 ▸ hz.arr (by omega) (by omega) (by omega) (by omega) (by omega))
theorem z_clear_87 (hok : q_ok (qGG D cA b E)) (hw : WfModel (qGG D cA b E) n sh Rf o) (kk : ∀ I', ZR I' o → Ev (qGG D cA b E) mModel_clear 1 (0, 0) 107 [(0, .ref o), (1, .int 0)] [] (n, sh, Rf, I', L) post) : ∀ (m k : Nat) (I : Nat → Nat → Int32), k + m = 3 → ZR I o → Ev (qGG D cA b E) mModel_clear 1 (0, 0) 87 [(0, .ref o), (1, .int (nI k))] [] (n, sh, Rf, I, L) post := by
  intro m
  induction m with
  | zero =>
    intro k I hk hz
    exact sModel_clear_87 o n sh Rf I L post (nI k) hok hw ⟨fun _ => kk I hz, fun h => absurd ((nI_leI (a := 3) (by omega) (by omega)).mpr (by omega)) h⟩
  | succ m ih =>
    intro k I hk hz
    refine sModel_clear_87 o n sh Rf I L post (nI k) hok hw ⟨fun h => absurd ((nI_leI (a := 3) (by omega) (by omega)).mp h) (by omega), fun _ => ⟨vp_in_nI (by omega) (by omega), fun I2 e2 => ?_⟩⟩
    rw [nI_inc]
    exact ih (k + 1) I2 (by omega) (e2 ▸ hz.arr (by omega) (by omega) (by omega) (by omega) (by omega))
theorem z_clear (hok : q_ok (qGG D cA b E)) (hw : WfModel (qGG D cA b E) n sh Rf o) (hz : ZM I o) (hs : ZS (I o 106)) (h135 : I o 135 = 0) (hp : ∀ I' L', ZR I' o → ZL L' o → (∀ a, a ≠ o → L' a = L a) → post none (n, sh, Rf, I', L')) : Ev (qGG D cA b E) mModel_clear 1 (0, 0) 0 (lv_args 0 [.ref o]) [] (n, sh, Rf, I, L) post := by
  refine sModel_clear_0 o n sh Rf I L post hok hw ?_
  intro I1 e1 I2 e2 L3 e3 L4 e4 L5 e5 L6 e6 L7 e7 L8 e8 L9 e9 L10 e10
  have hz2 : ZR I2 o := by
    subst e1 e2
    refine ⟨(hz.put (by decide) (by decide) (by decide)).put (by decide) (by decide) (by decide), ?_, ?_, ?_, ?_⟩
    · rw [q_u_k (by decide), q_u_at]
    · rw [q_u_at]
    · rw [q_u_k (by decide), q_u_k (by decide)]; exact hs
    · rw [q_u_k (by decide), q_u_k (by decide)]; exact h135
  have hL : ZL L10 o := by
    subst e3 e4 e5 e6 e7 e8 e9 e10
    refine ⟨?_, ?_, ?_, ?_⟩ <;> simp [q_u]
  have hLa : ∀ a, a ≠ o → L10 a = L a := by
    intro a ha
    subst e3 e4 e5 e6 e7 e8 e9 e10
    simp only [q_u_ne ha]
  refine sModel_clear_52 o n sh Rf I2 L10 post 0 hok hw (z_forts hok hw hz2.1 ⟨0, I2, L10, rfl, rfl, fun _ => ?_, fun h => absurd (by decide) h⟩)
  refine z_clear_87 hok hw (fun I3 z3 => ?_) 3 0 I2 rfl hz2
  refine z_clear_107 hok hw (fun I4 z4 => ?_) 5 0 I3 rfl z3
  refine z_clear_127 hok hw (fun I5 z5 => ?_) 18 0 I4 rfl z4
  exact sModel_clear_148 o n sh Rf I5 L10 post 0 hok hw ⟨fun _ => hp I5 L10 z5 hL hLa, fun h => absurd (by rw [z5.1.2.2.1]; decide) h⟩
theorem z_live_19 (hok : q_ok (qGG D cA b E)) (hw : WfModel (qGG D cA b E) n sh Rf o) {N : Nat} {x1 x3 : Int32} (hN : N ≤ 240) (hp : ∀ I', ZR I' o → post none (n, sh, Rf, I', L)) : ∀ (m k : Nat) (I : Nat → Nat → Int32), k + m = N → I o 57 = nI k → ZR I o → Ev (qGG D cA b E) mModel_live 9 (0, 0) 19 [(0, .ref o), (1, .int x1), (2, .int (nI N)), (3, .int x3)] [] (n, sh, Rf, I, L) post := by
  intro m
  induction m with
  | zero =>
    intro k I hk h57 hz
    exact sModel_live_19 o n sh Rf I L post x1 (nI N) x3 hok hw ⟨fun _ => hp I hz, fun h => absurd (by rw [h57]; exact (nI_leI (by omega) (by omega)).mpr (by omega)) h⟩
  | succ m ih =>
    intro k I hk h57 hz
    refine sModel_live_19 o n sh Rf I L post x1 (nI N) x3 hok hw ⟨fun h => absurd (by rw [h57] at h; exact (nI_leI (by omega) (by omega)).mp h) (by omega), fun _ => ?_⟩
    refine z_beginMonth hok hw hz ⟨I, L, rfl, rfl, ?_⟩
    refine z_make hok hw hz ⟨I, L, rfl, rfl, ?_⟩
    refine z_tellMonth hok hw hz (fun I2 z2 n2 => ⟨I2, L, rfl, rfl, ?_⟩)
    refine z_comes hok hw z2 ⟨I2, L, rfl, rfl, ?_⟩
    refine z_classes hok hw z2 ⟨I2, L, rfl, rfl, ?_⟩
    refine sModel_live_50 o n sh Rf I2 L post x1 (nI N) x3 0 hok hw (z_pans hok hw z2.1 ⟨0, I2, L, rfl, rfl, fun _ => ?_, fun h => absurd (by decide) h⟩)
    refine z_eat hok hw z2 ⟨I2, L, rfl, rfl, ?_⟩
    refine z_fillTowns hok hw z2 (fun I3 z3 n3 => ⟨I3, L, rfl, rfl, ?_⟩)
    refine sModel_live_82 o n sh Rf I3 L post x1 (nI N) x3 0 hok hw ⟨fun _ => ?_, fun h => absurd (by rw [z3.1.2.2.1]; decide) h⟩
    refine z_smuggle hok hw z3 ⟨I3, L, rfl, rfl, ?_⟩
    refine z_note hok hw z3 ⟨I3, L, rfl, rfl, fun I4 e4 => ?_⟩
    refine ih (k + 1) I4 (by omega) ?_ (e4 ▸ z3.put (by decide) (by decide) (by decide) (by decide) (by decide) (by decide) (by decide))
    rw [← e4, q_u_at, n3, n2, h57]
    exact nI_1 k
theorem z_live (hok : q_ok (qGG D cA b E)) (hw : WfModel (qGG D cA b E) n sh Rf o) {N : Nat} {x1 x2 x3 : Int32} (hx : x2 = nI N) (hN : N ≤ 240) (hs : ZS x1) (hz : ZM I o) (h135 : I o 135 = 0) (hp : ∀ I' L', ZR I' o → ZL L' o → (∀ a, a ≠ o → L' a = L a) → post none (n, sh, Rf, I', L')) : Ev (qGG D cA b E) mModel_live 9 (0, 0) 0 (lv_args 0 [.ref o, .int x1, .int x2, .int x3]) [] (n, sh, Rf, I, L) post := by
  subst hx
  refine sModel_live_0 o n sh Rf I L post x1 (nI N) x3 hok hw ?_
  intro I1 e1 I2 e2
  have z2 : ZM I2 o := by
    subst e1 e2
    exact (hz.put (by decide) (by decide) (by decide)).put (by decide) (by decide) (by decide)
  have s2 : ZS (I2 o 106) := by
    subst e1 e2
    rw [q_u_k (by decide), q_u_at]
    exact hs
  have k2 : I2 o 135 = 0 := by
    subst e1 e2
    rw [q_u_k (by decide), q_u_k (by decide)]
    exact h135
  refine z_clear hok hw z2 s2 k2 (fun I3 L3 z3 l3 a3 => ⟨I3, L3, rfl, rfl, fun I4 e4 => ?_⟩)
  refine z_live_19 hok hw hN (fun I' z' => hp I' L3 z' l3 a3) N 0 I4 (by omega) (by rw [← e4, q_u_at]; rfl) (e4 ▸ z3.put (by decide) (by decide) (by decide) (by decide) (by decide) (by decide) (by decide))
theorem l_lay_84 (hok : q_ok (qGG D cA b E)) (hw : WfModel (qGG D cA b E) n sh Rf o) {x y : Nat} {J : Nat → Int32} (hx : x < 6) (hy : y < 6) (hp : ∀ I', (∀ k, I' o k = J k) → post none (n, sh, Rf, I', L)) : ∀ (m k : Nat) (I : Nat → Nat → Int32), k + m = 700 → (∀ k, I o k = J k) → Ev (qGG D cA b E) mModel_lay 0 (0, 0) 84 [(0, .ref o), (1, .int (nI x)), (2, .int (nI y)), (3, .int (nI k))] [] (n, sh, Rf, I, L) post := by
  intro m
  induction m with
  | zero =>
    intro k I hk hJ
    exact sModel_lay_84 o n sh Rf I L post (nI x) (nI y) (nI k) hok hw ⟨fun _ => hp I hJ, fun h => absurd ((nI_leI (a := 700) (by omega) (by omega)).mpr (by omega)) h⟩
  | succ m ih =>
    intro k I hk hJ
    have v1 : vp_in ((700 * nI x) + nI k) 4200 := by
      rw [show (700 * nI x) + nI k = nI (700 * x + k) from nI_lin 700 x k]
      exact vp_in_nI (by omega) (by omega)
    have v2 : vp_in ((700 * nI y) + nI k) 4200 := by
      rw [show (700 * nI y) + nI k = nI (700 * y + k) from nI_lin 700 y k]
      exact vp_in_nI (by omega) (by omega)
    refine sModel_lay_84 o n sh Rf I L post (nI x) (nI y) (nI k) hok hw ⟨fun h => absurd ((nI_leI (a := 700) (by omega) (by omega)).mp h) (by omega), fun _ => ⟨v1, v2, fun I2 e2 => ⟨v1, v2, fun I3 e3 => ?_⟩⟩⟩
    rw [nI_inc]
    refine ih (k + 1) I3 (by omega) (fun j => ?_)
    rw [← e3, q_u_ne (by omega), ← e2, q_u_ne (by omega)]
    exact hJ j
theorem l_lay_26 (hok : q_ok (qGG D cA b E)) (hw : WfModel (qGG D cA b E) n sh Rf o) {x y : Nat} {J : Nat → Int32} (hx : x < 6) (hy : y < 6) (kk : ∀ I', (∀ k, I' o k = J k) → Ev (qGG D cA b E) mModel_lay 0 (0, 0) 84 [(0, .ref o), (1, .int (nI x)), (2, .int (nI y)), (3, .int 0)] [] (n, sh, Rf, I', L) post) : ∀ (m k : Nat) (I : Nat → Nat → Int32), k + m = 10 → (∀ k, I o k = J k) → Ev (qGG D cA b E) mModel_lay 0 (0, 0) 26 [(0, .ref o), (1, .int (nI x)), (2, .int (nI y)), (3, .int (nI k))] [] (n, sh, Rf, I, L) post := by
  intro m
  induction m with
  | zero =>
    intro k I hk hJ
    exact sModel_lay_26 o n sh Rf I L post (nI x) (nI y) (nI k) hok hw ⟨fun _ => kk I hJ, fun h => absurd ((nI_leI (a := 10) (by omega) (by omega)).mpr (by omega)) h⟩
  | succ m ih =>
    intro k I hk hJ
    have v1 : vp_in ((10 * nI x) + nI k) 60 := by
      rw [show (10 * nI x) + nI k = nI (10 * x + k) from nI_lin 10 x k]
      exact vp_in_nI (by omega) (by omega)
    have v2 : vp_in ((10 * nI y) + nI k) 60 := by
      rw [show (10 * nI y) + nI k = nI (10 * y + k) from nI_lin 10 y k]
      exact vp_in_nI (by omega) (by omega)
    refine sModel_lay_26 o n sh Rf I L post (nI x) (nI y) (nI k) hok hw ⟨fun h => absurd ((nI_leI (a := 10) (by omega) (by omega)).mp h) (by omega), fun _ => ⟨v1, v2, fun I2 e2 => ⟨v1, v2, fun I3 e3 => ?_⟩⟩⟩
    rw [nI_inc]
    refine ih (k + 1) I3 (by omega) (fun j => ?_)
    rw [← e3, q_u_ne (by omega), ← e2, q_u_ne (by omega)]
    exact hJ j
theorem l_lay (hok : q_ok (qGG D cA b E)) (hw : WfModel (qGG D cA b E) n sh Rf o) {x y : Nat} {x1 x2 : Int32} (h1 : x1 = nI x) (h2 : x2 = nI y) (hx : x < 6) (hy : y < 6) (hp : ∀ I', (∀ k, I' o k = I o k) → post none (n, sh, Rf, I', L)) : Ev (qGG D cA b E) mModel_lay 0 (0, 0) 0 (lv_args 0 [.ref o, .int x1, .int x2]) [] (n, sh, Rf, I, L) post := by
  subst h1 h2
  have v1 : vp_in (nI x) 6 := vp_in_nI hx (by omega)
  have v2 : vp_in (nI y) 6 := vp_in_nI hy (by omega)
  refine sModel_lay_0 o n sh Rf I L post (nI x) (nI y) hok hw ⟨v1, v2, fun I2 e2 => ⟨v1, v2, fun I3 e3 => ?_⟩⟩
  refine l_lay_26 (J := fun k => I o k) hok hw hx hy (fun I4 h4 => ?_) 10 0 I3 rfl (fun k => ?_)
  · exact l_lay_84 (J := fun k => I o k) hok hw hx hy (fun I5 h5 => hp I5 h5) 700 0 I4 rfl h4
  · rw [← e3, q_u_ne (by omega), ← e2, q_u_ne (by omega)]
theorem z_keep (hok : q_ok (qGG D cA b E)) (hw : WfModel (qGG D cA b E) n sh Rf o) (h104 : I o 104 = 0) (hp : ∀ I' L', I' o 104 = 0 → post none (n, sh, Rf, I', L')) : Ev (qGG D cA b E) mModel_keep 1 (0, 0) 0 (lv_args 0 [.ref o]) [] (n, sh, Rf, I, L) post := by
  refine sModel_keep_0 o n sh Rf I L post hok hw ?_
  intro J0 e0
  have p0 : J0 o 104 = 0 := by rw [← e0, q_u_k (by decide)]; exact h104
  refine l_copy hok (fun _ _ => waModel_84 hw) (fun _ _ => waModel_142 hw) (N := 0) (by rw [p0]; rfl) (by omega) (by omega) (by omega) (by omega) (by omega) (fun J1 h1 => ⟨J1, _, rfl, rfl, ?_⟩)
  have p1 : J1 o 104 = 0 := by rw [h1 o (by omega)]; exact p0
  refine l_copy hok (fun _ _ => waModel_85 hw) (fun _ _ => waModel_143 hw) (N := 0) (by rw [p1]; rfl) (by omega) (by omega) (by omega) (by omega) (by omega) (fun J2 h2 => ⟨J2, _, rfl, rfl, ?_⟩)
  have p2 : J2 o 104 = 0 := by rw [h2 o (by omega)]; exact p1
  refine l_copy hok (fun _ _ => waModel_86 hw) (fun _ _ => waModel_144 hw) (N := 0) (by rw [p2]; rfl) (by omega) (by omega) (by omega) (by omega) (by omega) (fun J3 h3 => ⟨J3, _, rfl, rfl, ?_⟩)
  have p3 : J3 o 104 = 0 := by rw [h3 o (by omega)]; exact p2
  refine l_copy hok (fun _ _ => waModel_87 hw) (fun _ _ => waModel_145 hw) (N := 0) (by rw [p3]; rfl) (by omega) (by omega) (by omega) (by omega) (by omega) (fun J4 h4 => ⟨J4, _, rfl, rfl, ?_⟩)
  have p4 : J4 o 104 = 0 := by rw [h4 o (by omega)]; exact p3
  refine l_copy hok (fun _ _ => waModel_88 hw) (fun _ _ => waModel_146 hw) (N := 0) (by rw [p4]; rfl) (by omega) (by omega) (by omega) (by omega) (by omega) (fun J5 h5 => ⟨J5, _, rfl, rfl, ?_⟩)
  have p5 : J5 o 104 = 0 := by rw [h5 o (by omega)]; exact p4
  refine l_copy hok (fun _ _ => waModel_89 hw) (fun _ _ => waModel_147 hw) (N := 0) (by rw [p5]; rfl) (by omega) (by omega) (by omega) (by omega) (by omega) (fun J6 h6 => ⟨J6, _, rfl, rfl, ?_⟩)
  have p6 : J6 o 104 = 0 := by rw [h6 o (by omega)]; exact p5
  refine l_copyTruths hok (fun _ _ => waModel_98 hw) (fun _ _ => waModel_157 hw) (N := 0) (by rw [p6]; rfl) (by omega) (by omega) (by omega) (by omega) (by omega) (fun J7 h7 => ⟨J7, _, rfl, rfl, ?_⟩)
  have p7 : J7 o 104 = 0 := by rw [h7 o (by omega)]; exact p6
  refine l_copyTruths hok (fun _ _ => waModel_99 hw) (fun _ _ => waModel_158 hw) (N := 0) (by rw [p7]; rfl) (by omega) (by omega) (by omega) (by omega) (by omega) (fun J8 h8 => ⟨J8, _, rfl, rfl, ?_⟩)
  have p8 : J8 o 104 = 0 := by rw [h8 o (by omega)]; exact p7
  refine l_copy hok (fun _ _ => waModel_75 hw) (fun _ _ => waModel_148 hw) (N := 3) rfl (by omega) (by omega) (by omega) (by omega) (by omega) (fun J9 h9 => ⟨J9, _, rfl, rfl, ?_⟩)
  have p9 : J9 o 104 = 0 := by rw [h9 o (by omega)]; exact p8
  refine l_copy hok (fun _ _ => waModel_77 hw) (fun _ _ => waModel_149 hw) (N := 3) rfl (by omega) (by omega) (by omega) (by omega) (by omega) (fun J10 h10 => ⟨J10, _, rfl, rfl, ?_⟩)
  have p10 : J10 o 104 = 0 := by rw [h10 o (by omega)]; exact p9
  refine l_copy hok (fun _ _ => waModel_78 hw) (fun _ _ => waModel_150 hw) (N := 5) rfl (by omega) (by omega) (by omega) (by omega) (by omega) (fun J11 h11 => ⟨J11, _, rfl, rfl, ?_⟩)
  have p11 : J11 o 104 = 0 := by rw [h11 o (by omega)]; exact p10
  refine l_copy hok (fun _ _ => waModel_81 hw) (fun _ _ => waModel_151 hw) (N := 18) rfl (by omega) (by omega) (by omega) (by omega) (by omega) (fun J12 h12 => ⟨J12, _, rfl, rfl, ?_⟩)
  have p12 : J12 o 104 = 0 := by rw [h12 o (by omega)]; exact p11
  refine l_copy hok (fun _ _ => waModel_82 hw) (fun _ _ => waModel_152 hw) (N := 6) rfl (by omega) (by omega) (by omega) (by omega) (by omega) (fun J13 h13 => ⟨J13, _, rfl, rfl, ?_⟩)
  have p13 : J13 o 104 = 0 := by rw [h13 o (by omega)]; exact p12
  refine l_copyLongs hok (fun _ _ => waModel_101 hw) (fun _ _ => waModel_159 hw) (N := 6) rfl (by omega) (by omega) (by omega) (by omega) (by omega) (fun M14 h14 => ⟨J13, M14, rfl, rfl, ?_⟩)
  refine l_copy hok (fun _ _ => waModel_129 hw) (fun _ _ => waModel_153 hw) (N := 1440) rfl (by omega) (by omega) (by omega) (by omega) (by omega) (fun J15 h15 => ⟨J15, _, rfl, rfl, ?_⟩)
  have p15 : J15 o 104 = 0 := by rw [h15 o (by omega)]; exact p13
  refine l_copy hok (fun _ _ => waModel_130 hw) (fun _ _ => waModel_154 hw) (N := 1440) rfl (by omega) (by omega) (by omega) (by omega) (by omega) (fun J16 h16 => ⟨J16, _, rfl, rfl, ?_⟩)
  have p16 : J16 o 104 = 0 := by rw [h16 o (by omega)]; exact p15
  refine l_copy hok (fun _ _ => waModel_131 hw) (fun _ _ => waModel_155 hw) (N := 3600) rfl (by omega) (by omega) (by omega) (by omega) (by omega) (fun J17 h17 => ⟨J17, _, rfl, rfl, ?_⟩)
  have p17 : J17 o 104 = 0 := by rw [h17 o (by omega)]; exact p16
  refine l_copy hok (fun _ _ => waModel_132 hw) (fun _ _ => waModel_156 hw) (N := 1440) rfl (by omega) (by omega) (by omega) (by omega) (by omega) (fun J18 h18 => ⟨J18, _, rfl, rfl, ?_⟩)
  have p18 : J18 o 104 = 0 := by rw [h18 o (by omega)]; exact p17
  refine l_copyLongs hok (fun _ _ => waModel_133 hw) (fun _ _ => waModel_160 hw) (N := 1440) rfl (by omega) (by omega) (by omega) (by omega) (by omega) (fun M19 h19 => ⟨J18, M19, rfl, rfl, ?_⟩)
  refine l_copyLongs hok (fun _ _ => waModel_134 hw) (fun _ _ => waModel_161 hw) (N := 1440) rfl (by omega) (by omega) (by omega) (by omega) (by omega) (fun M20 h20 => ⟨J18, M20, rfl, rfl, ?_⟩)
  intros
  exact hp _ _ p18
end MR
