/-! The reference's constructor gives a fresh object. -/
section MNew
variable {D : va_G} {cA : FieldType → ClassId} {b : Nat} {E : State → Prop} {o n0 : Nat} {sh0 : Nat → qC} {Rf0 : Nat → Nat → Option Nat} {I0 : Nat → Nat → Int32} {L0 : Nat → Nat → Int64} {post : Option Value → qS → Prop} {n : Nat} {sh : Nat → qC} {Rf : Nat → Nat → Option Nat} {I : Nat → Nat → Int32} {L : Nat → Nat → Int64}
theorem wlM_off : ∀ i, i < 101 → ∀ x, wlModel[i]? = some x → x.2.1 = i + 1 := by decide +kernel
theorem PJ.wfM {F : Nat → Int32} {FL : Nat → Int64} (h : PJ (qGG D cA b E) 12 wlModel o n0 sh0 Rf0 I0 L0 101 F FL n sh Rf I L) : WfModel (qGG D cA b E) n sh Rf o := by
  obtain ⟨p1, p2, p3, p4, p5, p6, p7, p8⟩ := h
  refine ⟨⟨p2, by omega, p4⟩, fun x hx => ?_⟩
  obtain ⟨i, hi⟩ := List.getElem?_of_mem hx
  have hl : i < 101 := (List.getElem?_eq_some_iff.mp hi).1
  obtain ⟨a1, a2, -, -⟩ := p7 i x hl hi
  rw [wlM_off i hl x hi]
  exact ⟨a1, a2⟩
theorem PJ.zeroM {F : Nat → Int32} {FL : Nat → Int64} (h : PJ (qGG D cA b E) 12 wlModel o n0 sh0 Rf0 I0 L0 101 F FL n sh Rf I L) {i : Nat} (hi : i < 101) (k : Nat) : I (o + (i + 1)) k = 0 := by
  obtain ⟨p1, p2, p3, p4, p5, p6, p7, p8⟩ := h
  have hl : i < wlModel.length := hi
  obtain ⟨-, -, a3, -⟩ := p7 i _ hi (List.getElem?_eq_getElem hl)
  rw [a3]
theorem m_init_872 (hok : q_ok (qGG D cA b E)) (hw : WfModel (qGG D cA b E) n sh Rf o) {J : Nat → Nat → Int32} (kk : ∀ I', (∀ a, a ≠ o + 26 → I' a = J a) → (∀ j, j < 60 → I' (o + 26) j = -1) → Ev (qGG D cA b E) mModel_init 1 (0, 0) 872 [(0, .ref o), (1, .int (nI 60))] [] (n, sh, Rf, I', L) post) : ∀ (m k : Nat) (I : Nat → Nat → Int32), k + m = 60 → (∀ a, a ≠ o + 26 → I a = J a) → (∀ j, j < k → I (o + 26) j = -1) → Ev (qGG D cA b E) mModel_init 1 (0, 0) 872 [(0, .ref o), (1, .int (nI k))] [] (n, sh, Rf, I, L) post := by
  intro m
  induction m with
  | zero =>
    intro k I hk hJ hu
    have e : k = 60 := by omega
    subst e
    exact kk I hJ hu
  | succ m ih =>
    intro k I hk hJ hu
    refine sModel_init_872 o n sh Rf I L post (nI k) hok hw ⟨fun h => absurd ((nI_leI (a := 60) (by omega) (by omega)).mp h) (by omega), fun _ => ⟨vp_in_nI (by omega) (by omega), fun I6 e6 => ?_⟩⟩
    rw [nI_clamp (by omega)] at e6
    rw [nI_inc]
    refine ih (k + 1) I6 (by omega) (fun a ha => ?_) (fun j hj => ?_)
    · rw [← e6, q_u_ne ha]; exact hJ a ha
    · by_cases h : j = k
      · subst h; rw [← e6, q_u_at]
      · rw [← e6, q_u_k h]; exact hu j (by omega)
/-- new SaltOfficeModel(): 101 cells come, of 100,599 slots; the object is fresh; nothing below it changes -/
theorem m_init (hok : q_ok (qGG D cA b E)) (hb : b ≤ o) (hn : o + 1 = b + n) (hs : sh o = .inr 12) (hI : I o = fun _ => 0) (hL : L o = fun _ => 0) (hp : ∀ n' sh' Rf' I' L', n' = n + 101 → WfModel (qGG D cA b E) n' sh' Rf' o → FM I' o → (∀ a, a < o → sh' a = sh a ∧ Rf' a = Rf a ∧ I' a = I a ∧ L' a = L a) → post none (n', sh', Rf', I', L')) : Ev (qGG D cA b E) mModel_init 1 (101, 100599) 0 (lv_args 0 [.ref o]) [] (n, sh, Rf, I, L) post := by
  refine m_init_rows (n0 := n) (sh0 := sh) (Rf0 := Rf) (I0 := I) (L0 := L) hok ⟨rfl, hb, hn, hs, hI, hL, fun i x hi => absurd hi (by omega), fun a ha => ⟨rfl, rfl, rfl, rfl⟩⟩ (fun n1 sh1 Rf1 I1 L1 hP => ?_)
  have hw := hP.wfM
  have zr : ∀ i, i < 101 → ∀ k, I1 (o + (i + 1)) k = 0 := fun i hi k => hP.zeroM hi k
  obtain ⟨p1, p2, p3, p4, p5, p6, p7, p8⟩ := id hP
  refine sModel_init_870 o n1 sh1 Rf1 I1 L1 post hok hw (m_init_872 (J := I1) hok hw (fun I2 ha hu => ?_) 60 0 I1 rfl (fun _ _ => rfl) (fun j hj => absurd hj (by omega)))
  have fo : ∀ k, I2 o k = mF k := fun k => by rw [ha o (by omega), p5]
  refine sModel_init_872 o n1 sh1 Rf1 I2 L1 post (nI 60) hok hw ⟨fun _ => ?_, fun h => absurd (by decide) h⟩
  refine l_measure hok hw (Or.inl (by rw [fo]; rfl)) (fun j hj => by rw [ha _ (by omega)]; exact zr 5 (by omega) j) (fun I3 hF fa => ⟨I3, L1, rfl, rfl, ?_⟩)
  have go : ∀ k, I3 o k = mF k := fun k => by rw [fa o (by omega)]; exact fo k
  have ga : ∀ i, i < 101 → i ≠ 24 → i ≠ 25 → ∀ k, I3 (o + (i + 1)) k = 0 := fun i hi h1 h2 k => by rw [fa _ (by omega), ha _ (by omega)]; exact zr i hi k
  refine hp n1 sh1 Rf1 I3 L1 p1 hw ⟨⟨Or.inl (by rw [go]; rfl), fun j hj => ⟨ga 6 (by omega) (by omega) (by omega) j, ga 7 (by omega) (by omega) (by omega) j, ga 8 (by omega) (by omega) (by omega) j⟩, by rw [go]; rfl, by rw [go]; rfl, fun j hj => by rw [fa _ (by omega)]; exact hu j hj⟩, by rw [go]; rfl, by rw [go]; rfl, by rw [go]; rfl, by rw [go]; rfl, by rw [go]; rfl, fun j hj => ga 5 (by omega) (by omega) (by omega) j, fun j hj => ga 28 (by omega) (by omega) (by omega) j, hF⟩ (fun a h => ?_)
  obtain ⟨a1, a2, a3, a4⟩ := p8 a h
  exact ⟨a1, a2, by rw [fa a (by omega), ha a (by omega)]; exact a3, a4⟩
end MNew
