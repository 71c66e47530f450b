/-! The reference on a fresh object: feed, about, days, land, reform; its table of ways without roads. -/
def FarId (I : Nat → Nat → Int32) (o : Nat) : Prop := ∀ x y, x < 16 → y < 16 → I (o + 25) (16 * x + y) = if x = y then 0 else 1000000
def aFeed : Int32 := 20
def aAbout (x : Int32) : Int32 := if x = 0 ∨ x = 1 ∨ x = 2 ∨ x = 3 ∨ x = 4 ∨ x = 5 ∨ x = 6 ∨ x = 7 then 0 else if x < 10 then -1 else if 14 ≤ x then -1 else 0
def aDays (x y : Int32) : Int32 := if aIn x 0 15 = 0 ∨ aIn y 0 15 = 0 then -1 else if x = y then 0 else -1
def aReform (s : Int32) : Int32 := if aIn s 0 3 = 0 then -2 else 0
theorem far_le (x m y : Nat) : (if x = y then (0 : Int32) else 1000000) ≤ (if x = m then 0 else 1000000) + (if m = y then 0 else 1000000) := by
  by_cases h1 : x = y
  · rw [if_pos h1]
    by_cases h2 : x = m
    · rw [if_pos h2]; split <;> decide
    · rw [if_neg h2]; split <;> decide
  · rw [if_neg h1]
    by_cases h2 : x = m
    · rw [if_pos h2, if_neg (fun h => h1 (h2.trans h))]; decide
    · rw [if_neg h2]; split <;> decide
theorem far_case : ∀ k, k < 256 → ((nI k / 16 = nI k - nI k / 16 * 16) ↔ k / 16 = k % 16) := by decide +kernel
theorem nI_at {c a k : Nat} (h : c * a + k < 2 ^ 31) : (nI c * nI a + nI k).toNatClampNeg = c * a + k := by rw [nI_lin, nI_clamp h]
section MLd
variable {D : va_G} {cA : FieldType → ClassId} {b : Nat} {E : State → Prop} {o n : Nat} {sh : Nat → qC} {Rf : Nat → Nat → Option Nat} {I : Nat → Nat → Int32} {L : Nat → Nat → Int64} {post : Option Value → qS → Prop}
theorem m_feed_18 (hok : q_ok (qGG D cA b E)) (hw : WfModel (qGG D cA b E) n sh Rf o) {x1 x2 x3 x4 x5 : Int32} (hp : ∀ I' L', post (some (.int (20))) (n, sh, Rf, I', L')) : ∀ (m k : Nat) (I : Nat → Nat → Int32), k + m = 20 → I o 2 = 0 → Ev (qGG D cA b E) mModel_feed 0 (0, 0) 18 [(0, .ref o), (1, .int x1), (2, .int x2), (3, .int x3), (4, .int x4), (5, .int x5), (6, .int (nI k))] [] (n, sh, Rf, I, L) post := by
  intro m
  induction m with
  | zero =>
    intro k I hk h2
    refine sModel_feed_18 o n sh Rf I L post x1 x2 x3 x4 x5 (nI k) hok hw ⟨fun _ I2 e2 => ?_, fun h => absurd ((nI_leI (a := 20) (by omega) (by omega)).mpr (by omega)) h⟩
    rw [show I2 o 2 = 20 by rw [← e2, q_u_at, h2]; decide]
    exact hp _ _
  | succ m ih =>
    intro k I hk h2
    have f71 : ∀ z0, fModel_feed_71 D cA b E o n sh Rf I L post x1 x2 x3 x4 x5 (nI k) z0 := by
      intro z0
      unfold fModel_feed_71
      refine ⟨by rw [h2, Int32.zero_add]; exact vp_in_nI (by omega) (by omega), fun I1 e1 => ?_⟩
      rw [nI_inc]
      exact ih (k + 1) I1 (by omega) (by rw [← e1, q_u_ne (by omega)]; exact h2)
    exact sModel_feed_18 o n sh Rf I L post x1 x2 x3 x4 x5 (nI k) hok hw ⟨fun h => absurd ((nI_leI (a := 20) (by omega) (by omega)).mp h) (by omega), fun _ => ⟨fun _ => ⟨fun _ => ⟨fun _ => ⟨fun _ => f71 _, fun _ => f71 _⟩, fun _ => f71 _⟩, fun _ => f71 _⟩, fun _ => f71 _⟩⟩
theorem m_feed (hok : q_ok (qGG D cA b E)) (hw : WfModel (qGG D cA b E) n sh Rf o) (hf : FM I o) {x1 x2 x3 x4 x5 : Int32} (hp : ∀ I' L', post (some (.int (20))) (n, sh, Rf, I', L')) : Ev (qGG D cA b E) mModel_feed 0 (0, 0) 0 (lv_args 0 [.ref o, .int x1, .int x2, .int x3, .int x4, .int x5]) [] (n, sh, Rf, I, L) post := by
  refine sModel_feed_0 o n sh Rf I L post x1 x2 x3 x4 x5 hok hw ⟨fun _ => m_feed_18 hok hw hp 20 0 I rfl hf.2.1, fun h => absurd (by rw [hf.2.1]; decide) h⟩
theorem m_about (hok : q_ok (qGG D cA b E)) (hw : WfModel (qGG D cA b E) n sh Rf o) (hf : FM I o) {x1 : Int32} (hp : ∀ I' L', post (some (.int (aAbout x1))) (n, sh, Rf, I', L')) : Ev (qGG D cA b E) mModel_about 1 (0, 0) 0 (lv_args 0 [.ref o, .int x1]) [] (n, sh, Rf, I, L) post := by
  have z : (x1 = 0 ∨ x1 = 1 ∨ x1 = 2 ∨ x1 = 3 ∨ x1 = 4 ∨ x1 = 5 ∨ x1 = 6 ∨ x1 = 7) → ∀ I' L', post (some (.int 0)) (n, sh, Rf, I', L') := fun h I' L' => by
    have e : aAbout x1 = 0 := if_pos h
    rw [← e]; exact hp _ _
  refine sModel_about_0 o n sh Rf I L post x1 hok hw ⟨fun h => z_forts hok hw hf.1 ⟨0, I, L, rfl, rfl, z (by simp [h]) _ _⟩, fun c0 => ⟨fun h => z_pans hok hw hf.1 ⟨0, I, L, rfl, rfl, z (by simp [h]) _ _⟩, fun c1 => ⟨fun h => z_towns hok hw hf.1 ⟨0, I, L, rfl, rfl, z (by simp [h]) _ _⟩, fun c2 => ⟨fun h => ⟨z_bank hf.1, ?_⟩, fun c3 => ⟨fun h => ?_, fun c4 => ⟨fun h => ?_, fun c5 => ⟨fun h => ?_, fun c6 => ⟨fun h => ?_, fun c7 => ?_⟩⟩⟩⟩⟩⟩⟩⟩
  · rw [hf.2.2.2.2.2.2.1 _ (vin_lt (z_bank hf.1))]; exact z (by simp [h]) _ _
  · rw [hf.1.2.2.1]; exact z (by simp [h]) _ _
  · rw [hf.1.2.2.2.1]; exact z (by simp [h]) _ _
  · rw [hf.2.2.2.2.1]; exact z (by simp [h]) _ _
  · rw [hf.2.1]; exact z (by simp [h]) _ _
  · have no : ¬ (x1 = 0 ∨ x1 = 1 ∨ x1 = 2 ∨ x1 = 3 ∨ x1 = 4 ∨ x1 = 5 ∨ x1 = 6 ∨ x1 = 7) := by simp [c0, c1, c2, c3, c4, c5, c6, c7]
    refine ⟨fun h => ?_, fun h => ⟨fun h1 => ?_, fun h1 => ?_⟩⟩
    · have e : aAbout x1 = -1 := by unfold aAbout; rw [if_neg no, if_pos h]
      rw [← e]; exact hp _ _
    · have e : aAbout x1 = -1 := by unfold aAbout; rw [if_neg no, if_neg h, if_pos h1]
      rw [← e]; exact hp _ _
    · have e : aAbout x1 = 0 := by unfold aAbout; rw [if_neg no, if_neg h, if_neg h1]
      have q : x1 = 10 ∨ x1 = 11 ∨ x1 = 12 ∨ x1 = 13 := by
        have h2 : ¬ x1.toInt < 10 := fun q => h (Int32.lt_iff_toInt_lt.mpr q)
        have h3 : ¬ 14 ≤ x1.toInt := fun q => h1 (Int32.le_iff_toInt_le.mpr q)
        rcases (show x1.toInt = 10 ∨ x1.toInt = 11 ∨ x1.toInt = 12 ∨ x1.toInt = 13 by omega) with q | q | q | q
        · exact Or.inl (Int32.toInt_inj.mp q)
        · exact Or.inr (Or.inl (Int32.toInt_inj.mp q))
        · exact Or.inr (Or.inr (Or.inl (Int32.toInt_inj.mp q)))
        · exact Or.inr (Or.inr (Or.inr (Int32.toInt_inj.mp q)))
      have v : vp_in (x1 - 10) 6 := by
        rcases q with rfl | rfl | rfl | rfl <;> (unfold vp_in; decide)
      refine ⟨v, ?_⟩
      rw [hf.2.2.2.2.2.2.2.1 _ (vin_lt v), ← e]
      exact hp _ _
theorem l_isPoint (hok : q_ok (qGG D cA b E)) {x0 : Int32} (hp : post (some (.int (aIn x0 0 15))) (n, sh, Rf, I, L)) : Ev (qGG D cA b E) mModel_isPoint 0 (0, 0) 0 (lv_args 0 [.int x0]) [] (n, sh, Rf, I, L) post := by
  have k : (16 ≤ x0) ↔ (15 < x0) := by
    rw [Int32.le_iff_toInt_le, Int32.lt_iff_toInt_lt, show (16 : Int32).toInt = 16 by decide, show (15 : Int32).toInt = 15 by decide]
    omega
  unfold aIn at hp
  refine sModel_isPoint_0 n sh Rf I L post x0 hok ⟨fun h => ?_, fun h => ⟨fun h1 => ?_, fun h1 => ?_⟩⟩
  · rw [if_pos h] at hp; exact hp
  · rw [if_neg h, if_pos (k.mp h1)] at hp; exact hp
  · rw [if_neg h, if_neg (fun q => h1 (k.mpr q))] at hp; exact hp
theorem m_days (hok : q_ok (qGG D cA b E)) (hw : WfModel (qGG D cA b E) n sh Rf o) (hf : FM I o) {x1 x2 : Int32} (hp : ∀ I' L', post (some (.int (aDays x1 x2))) (n, sh, Rf, I', L')) : Ev (qGG D cA b E) mModel_days 1 (0, 0) 0 (lv_args 0 [.ref o, .int x1, .int x2]) [] (n, sh, Rf, I, L) post := by
  have no : (aIn x1 0 15 = 0 ∨ aIn x2 0 15 = 0) → ∀ I' L', post (some (.int (-1))) (n, sh, Rf, I', L') := fun h I' L' => by
    have e : aDays x1 x2 = -1 := if_pos h
    rw [← e]; exact hp _ _
  refine sModel_days_0 o n sh Rf I L post x1 x2 hok hw (l_isPoint hok ⟨_, I, L, rfl, rfl, fun h => no (Or.inl h) _ _, fun h => ?_⟩)
  refine l_isPoint hok ⟨_, I, L, rfl, rfl, fun h1 => no (Or.inr h1) _ _, fun h1 => ?_⟩
  obtain ⟨s1, s2⟩ := aIn_not h
  obtain ⟨t1, t2⟩ := aIn_not h1
  have ne : ¬ (aIn x1 0 15 = 0 ∨ aIn x2 0 15 = 0) := fun q => q.elim h h1
  obtain ⟨X, hX, rfl⟩ := nI_of2 (M := 15) (n := 15) (by decide) s1 (Int32.not_lt.mp s2)
  obtain ⟨Y, hY, rfl⟩ := nI_of2 (M := 15) (n := 15) (by decide) t1 (Int32.not_lt.mp t2)
  have e1 : ((16 * nI X) + nI Y).toNatClampNeg = 16 * X + Y := nI_at (c := 16) (by omega)
  have v : vp_in ((16 * nI X) + nI Y) 256 := by
    rw [show (16 * nI X) + nI Y = nI (16 * X + Y) from nI_lin 16 X Y]
    exact vp_in_nI (by omega) (by omega)
  have fv := hf.2.2.2.2.2.2.2.2 X Y (by omega) (by omega)
  refine ⟨v, ?_⟩
  rw [e1, fv]
  by_cases hxy : X = Y
  · subst hxy
    rw [if_pos rfl]
    have e : aDays (nI X) (nI X) = 0 := by unfold aDays; rw [if_neg ne, if_pos rfl]
    exact ⟨fun _ => ⟨v, e ▸ hp _ _⟩, fun q => absurd (by decide) q⟩
  · rw [if_neg hxy]
    have e : aDays (nI X) (nI Y) = -1 := by unfold aDays; rw [if_neg ne, if_neg (fun q => hxy ((nI_eq (by omega) (by omega)).mp q))]
    exact ⟨fun q => absurd q (by decide), fun _ => by show post (some (.int (-1))) _; rw [← e]; exact hp _ _⟩
theorem l_measure_179 (hok : q_ok (qGG D cA b E)) (hw : WfModel (qGG D cA b E) n sh Rf o) {x y : Nat} (hx : x < 16) (hy : y < 16) {J : Nat → Nat → Int32} (kk : ∀ I', FarId I' o → (∀ a, a ≠ o + 25 → I' a = J a) → Ev (qGG D cA b E) mModel_measure 0 (0, 0) 171 [(0, .ref o), (1, .int (nI x)), (2, .int (nI (y + 1)))] [] (n, sh, Rf, I', L) post) : ∀ (m k : Nat) (I : Nat → Nat → Int32), k + m = 16 → FarId I o → (∀ a, a ≠ o + 25 → I a = J a) → Ev (qGG D cA b E) mModel_measure 0 (0, 0) 179 [(0, .ref o), (1, .int (nI x)), (2, .int (nI y)), (3, .int (nI k))] [] (n, sh, Rf, I, L) post := by
  intro m
  induction m with
  | zero =>
    intro k I hk hF hJ
    refine sModel_measure_179 o n sh Rf I L post (nI x) (nI y) (nI k) hok hw ⟨fun _ => ?_, fun h => absurd ((nI_leI (a := 16) (by omega) (by omega)).mpr (by omega)) h⟩
    rw [nI_inc]
    exact kk I hF hJ
  | succ m ih =>
    intro k I hk hF hJ
    have v : ∀ p q : Nat, p < 16 → q < 16 → vp_in ((16 * nI p) + nI q) 256 := fun p q h1 h2 => by
      rw [show (16 * nI p) + nI q = nI (16 * p + q) from nI_lin 16 p q]
      exact vp_in_nI (by omega) (by omega)
    have g : ∀ p q : Nat, p < 16 → q < 16 → I (o + 25) ((16 * nI p) + nI q).toNatClampNeg = if p = q then 0 else 1000000 := fun p q h1 h2 => by
      rw [show ((16 * nI p) + nI q).toNatClampNeg = 16 * p + q from nI_at (c := 16) (by omega)]
      exact hF p q h1 h2
    refine sModel_measure_179 o n sh Rf I L post (nI x) (nI y) (nI k) hok hw ⟨fun h => absurd ((nI_leI (a := 16) (by omega) (by omega)).mp h) (by omega), fun _ => ⟨v y x hy hx, v x k hx (by omega), v y k hy (by omega), fun _ => ?_, fun h => absurd ?_ h⟩⟩
    · show Ev _ _ _ _ _ _ _ _ _
      rw [nI_inc]
      exact ih (k + 1) I (by omega) hF hJ
    · rw [g y k hy (by omega), g y x hy hx, g x k hx (by omega)]
      exact far_le y x k
theorem l_measure_171 (hok : q_ok (qGG D cA b E)) (hw : WfModel (qGG D cA b E) n sh Rf o) {x : Nat} (hx : x < 16) {J : Nat → Nat → Int32} (kk : ∀ I', FarId I' o → (∀ a, a ≠ o + 25 → I' a = J a) → Ev (qGG D cA b E) mModel_measure 0 (0, 0) 163 [(0, .ref o), (1, .int (nI (x + 1)))] [] (n, sh, Rf, I', L) post) : ∀ (m k : Nat) (I : Nat → Nat → Int32), k + m = 16 → FarId I o → (∀ a, a ≠ o + 25 → I a = J a) → Ev (qGG D cA b E) mModel_measure 0 (0, 0) 171 [(0, .ref o), (1, .int (nI x)), (2, .int (nI k))] [] (n, sh, Rf, I, L) post := by
  intro m
  induction m with
  | zero =>
    intro k I hk hF hJ
    refine sModel_measure_171 o n sh Rf I L post (nI x) (nI k) hok hw ⟨fun _ => ?_, fun h => absurd ((nI_leI (a := 16) (by omega) (by omega)).mpr (by omega)) h⟩
    rw [nI_inc]
    exact kk I hF hJ
  | succ m ih =>
    intro k I hk hF hJ
    refine sModel_measure_171 o n sh Rf I L post (nI x) (nI k) hok hw ⟨fun h => absurd ((nI_leI (a := 16) (by omega) (by omega)).mp h) (by omega), fun _ => ?_⟩
    exact l_measure_179 (J := J) hok hw hx (by omega) (fun I' hF' hJ' => ih (k + 1) I' (by omega) hF' hJ') 16 0 I rfl hF hJ
theorem l_measure_163 (hok : q_ok (qGG D cA b E)) (hw : WfModel (qGG D cA b E) n sh Rf o) {J : Nat → Nat → Int32} (hp : ∀ I', FarId I' o → (∀ a, a ≠ o + 25 → I' a = J a) → post none (n, sh, Rf, I', L)) : ∀ (m k : Nat) (I : Nat → Nat → Int32), k + m = 16 → FarId I o → (∀ a, a ≠ o + 25 → I a = J a) → Ev (qGG D cA b E) mModel_measure 0 (0, 0) 163 [(0, .ref o), (1, .int (nI k))] [] (n, sh, Rf, I, L) post := by
  intro m
  induction m with
  | zero =>
    intro k I hk hF hJ
    exact sModel_measure_163 o n sh Rf I L post (nI k) hok hw ⟨fun _ => hp I hF hJ, fun h => absurd ((nI_leI (a := 16) (by omega) (by omega)).mpr (by omega)) h⟩
  | succ m ih =>
    intro k I hk hF hJ
    refine sModel_measure_163 o n sh Rf I L post (nI k) hok hw ⟨fun h => absurd ((nI_leI (a := 16) (by omega) (by omega)).mp h) (by omega), fun _ => ?_⟩
    exact l_measure_171 (J := J) hok hw (by omega) (fun I' hF' hJ' => ih (k + 1) I' (by omega) hF' hJ') 16 0 I rfl hF hJ
theorem l_measure_2 (hok : q_ok (qGG D cA b E)) (hw : WfModel (qGG D cA b E) n sh Rf o) {J : Nat → Nat → Int32} (kk : ∀ I', FarId I' o → (∀ a, a ≠ o + 25 → I' a = J a) → Ev (qGG D cA b E) mModel_measure 0 (0, 0) 47 [(0, .ref o), (1, .int (24 * (I' o 34)))] [] (n, sh, Rf, I', L) post) : ∀ (m k : Nat) (I : Nat → Nat → Int32), k + m = 256 → (∀ j, j < k → I (o + 25) j = if j / 16 = j % 16 then 0 else 1000000) → (∀ a, a ≠ o + 25 → I a = J a) → Ev (qGG D cA b E) mModel_measure 0 (0, 0) 2 [(0, .ref o), (1, .int (nI k))] [] (n, sh, Rf, I, L) post := by
  intro m
  induction m with
  | zero =>
    intro k I hk hF hJ
    refine sModel_measure_2 o n sh Rf I L post (nI k) hok hw ⟨fun _ => kk I (fun x y hx hy => ?_) hJ, fun h => absurd ((nI_leI (a := 256) (by omega) (by omega)).mpr (by omega)) h⟩
    rw [hF (16 * x + y) (by omega), show (16 * x + y) / 16 = x by omega, show (16 * x + y) % 16 = y by omega]
  | succ m ih =>
    intro k I hk hF hJ
    have c : (nI k).toNatClampNeg = k := nI_clamp (by omega)
    have f32 : ∀ z0, z0 = (if k / 16 = k % 16 then (0 : Int32) else 1000000) → fModel_measure_32 D cA b E o n sh Rf I L post (nI k) z0 (nI k) := by
      intro z0 hz0
      unfold fModel_measure_32
      refine ⟨vp_in_nI (by omega) (by omega), fun I1 e1 => ?_⟩
      rw [c] at e1
      rw [nI_inc]
      refine ih (k + 1) I1 (by omega) (fun j hj => ?_) (fun a ha => ?_)
      · by_cases hjk : j = k
        · subst hjk
          rw [← e1, q_u_at]; exact hz0
        · rw [← e1, q_u_k hjk]; exact hF j (by omega)
      · rw [← e1, q_u_ne ha]; exact hJ a ha
    refine sModel_measure_2 o n sh Rf I L post (nI k) hok hw ⟨fun h => absurd ((nI_leI (a := 256) (by omega) (by omega)).mp h) (by omega), fun _ => ⟨fun h => f32 _ ?_, fun h => f32 _ ?_⟩⟩
    · rw [if_neg (fun q => h ((far_case k (by omega)).mpr q))]
    · rw [if_pos ((far_case k (by omega)).mp h)]
theorem l_measure (hok : q_ok (qGG D cA b E)) (hw : WfModel (qGG D cA b E) n sh Rf o) (hb : I o 34 = 0 ∨ I o 34 = 1) (hr : ∀ j, j < 2 → I (o + 6) j = 0) (hp : ∀ I', FarId I' o → (∀ a, a ≠ o + 25 → I' a = I a) → post none (n, sh, Rf, I', L)) : Ev (qGG D cA b E) mModel_measure 0 (0, 0) 0 (lv_args 0 [.ref o]) [] (n, sh, Rf, I, L) post := by
  refine sModel_measure_0 o n sh Rf I L post hok hw (l_measure_2 (J := I) hok hw (fun I2 hF hJ => ?_) 256 0 I rfl (fun j hj => absurd hj (by omega)) (fun _ _ => rfl))
  have hb2 : I2 o 34 = 0 ∨ I2 o 34 = 1 := by rw [hJ o (by omega)]; exact hb
  have v : vp_in (I2 o 34) 2 := by rcases hb2 with h | h <;> rw [h] <;> (unfold vp_in; decide)
  have r : I2 (o + 6) (I2 o 34).toNatClampNeg = 0 := by rw [hJ (o + 6) (by omega)]; exact hr _ (vin_lt v)
  refine sModel_measure_47 o n sh Rf I2 L post _ hok hw ⟨v, fun _ => ?_, fun h => absurd ?_ h⟩
  · exact l_measure_163 (J := I) hok hw hp 16 0 I2 rfl hF hJ
  · rw [r, Int32.add_zero]
    exact Int32.le_refl _
theorem z_takeTape (hok : q_ok (qGG D cA b E)) (hw : WfModel (qGG D cA b E) n sh Rf o) {x1 : Int32} (h1 : x1 = 0 ∨ x1 = 1) (h2 : I o 2 = 0) (hp : ∀ I', (∀ a, a ≠ o → I' a = I a) → (∀ k, k ≠ 11 → k ≠ 4 → k ≠ 5 → k ≠ 3 → k ≠ 2 → k ≠ 7 → I' o k = I o k) → I' o 4 = 0 → I' o 3 = 0 → I' o 2 = 0 → I' o 7 = 0 → post none (n, sh, Rf, I', L)) : Ev (qGG D cA b E) mModel_takeTape 0 (0, 0) 0 (lv_args 0 [.ref o, .int x1]) [] (n, sh, Rf, I, L) post := by
  refine sModel_takeTape_0 o n sh Rf I L post x1 hok hw ⟨h1, fun I1 e1 I3 e3 I4 e4 I5 e5 => ?_⟩
  have k4 : I4 o 2 = 0 := by rw [← e4, q_u_k (by decide), ← e3, q_u_k (by decide), ← e1, q_u_k (by decide)]; exact h2
  have k5 : I5 o 3 = 0 := by rw [← e5, q_u_at]; exact k4
  refine sModel_takeTape_25 o n sh Rf I5 L post x1 0 hok hw ⟨fun _ I6 e6 I7 e7 => ?_, fun h => absurd (by rw [k5]; decide) h⟩
  have no : ∀ a, a ≠ o → I7 a = I a := fun a ha => by rw [← e7, q_u_ne ha, ← e6, q_u_ne ha, ← e5, q_u_ne ha, ← e4, q_u_ne ha, ← e3, q_u_ne ha, ← e1, q_u_ne ha]
  refine hp I7 no (fun k c1 c2 c3 c4 c5 c6 => ?_) ?_ ?_ ?_ ?_
  · rw [← e7, q_u_k c6, ← e6, q_u_k c5, ← e5, q_u_k c4, ← e4, q_u_k c3, ← e3, q_u_k c2, ← e1, q_u_k c1]
  · rw [← e7, q_u_k (by decide), ← e6, q_u_k (by decide), ← e5, q_u_k (by decide), ← e4, q_u_k (by decide), ← e3, q_u_at]
  · rw [← e7, q_u_k (by decide), ← e6, q_u_k (by decide)]; exact k5
  · rw [← e7, q_u_k (by decide), ← e6, q_u_at]
  · rw [← e7, q_u_at]
theorem z_next (hok : q_ok (qGG D cA b E)) (hw : WfModel (qGG D cA b E) n sh Rf o) (h3 : I o 3 = 0) (h7 : I o 7 = 0) (hp : ∀ I', (∀ a, a ≠ o → I' a = I a) → (∀ k, k ≠ 6 → k ≠ 7 → k ≠ 8 → I' o k = I o k) → I' o 8 = 0 → post none (n, sh, Rf, I', L)) : Ev (qGG D cA b E) mModel_next 2 (0, 0) 0 (lv_args 0 [.ref o]) [] (n, sh, Rf, I, L) post := by
  refine sModel_next_0 o n sh Rf I L post hok hw (fun I1 e1 => ?_)
  have k6 : I1 o 6 = 0 := by rw [← e1, q_u_at]; exact h7
  have k3 : I1 o 3 = 0 := by rw [← e1, q_u_k (by decide)]; exact h3
  refine sModel_next_8 o n sh Rf I1 L post hok hw ⟨fun _ => ?_, fun h => absurd (by rw [k3, k6]; decide) h⟩
  refine sModel_sign_0 o n sh Rf I1 L _ (I1 o 6) hok hw ⟨fun _ => ⟨0, I1, L, rfl, rfl, fun I5 e5 => ⟨fun h => absurd h ?_, fun _ I6 e6 I7 e7 I8 e8 => ?_⟩⟩, fun h => absurd (by rw [k3, k6]; decide) h⟩
  · rw [← e5, q_u_k (by decide), q_u_k (by decide), k6, k3]; decide
  · refine hp I8 (fun a ha => ?_) (fun k c1 c2 c3 => ?_) ?_
    · rw [← e8, q_u_ne ha, ← e7, q_u_ne ha, ← e6, q_u_ne ha, ← e5, q_u_ne ha, ← e1, q_u_ne ha]
    · rw [← e8, q_u_k c2, ← e7, q_u_k c1, ← e6, q_u_k c3, ← e5, q_u_k c2, ← e1, q_u_k c1]
    · rw [← e8, q_u_k (by decide), ← e7, q_u_k (by decide), ← e6, q_u_at]
theorem l_isGood (hok : q_ok (qGG D cA b E)) (hw : WfModel (qGG D cA b E) n sh Rf o) (h4 : I o 4 = 0) (hp : post (some (.int 1)) (n, sh, Rf, I, L)) : Ev (qGG D cA b E) mModel_isGood 0 (0, 0) 0 (lv_args 0 [.ref o]) [] (n, sh, Rf, I, L) post :=
  sModel_isGood_0 o n sh Rf I L post hok hw ⟨fun h => absurd h4 h, fun _ => hp⟩
end MLd
