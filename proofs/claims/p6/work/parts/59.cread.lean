/-! The class: land and reform on a fresh object (an empty tape). -/
/-- only objects of the Office's own class, and arrays, may hold other references -/
def Eo (sh : Nat → qC) (Rf Rf' : Nat → Nat → Option Nat) : Prop := ∀ c i, sh c = .inr i → i ≠ 11 → Rf' c = Rf c
theorem Eo.o {sh : Nat → qC} {a k : Nat} {Rf : Nat → Nat → Option Nat} {v : Option Nat} (h : sh a = .inr 11) : Eo sh Rf (q_u Rf a k v) := fun c i hc hi => q_u_ne (w_ne hc h hi)
theorem Eo.a {sh : Nat → qC} {a k : Nat} {Rf : Nat → Nat → Option Nat} {v : Option Nat} {q : FieldType × Nat} (h : sh a = .inl q) : Eo sh Rf (q_u Rf a k v) := fun c i hc _ => q_u_ne (fun e => by rw [e, h] at hc; cases hc)
theorem Eo.trans {sh : Nat → qC} {A B C : Nat → Nat → Option Nat} (h : Eo sh A B) (g : Eo sh B C) : Eo sh A C := fun c i hc hi => (g c i hc hi).trans (h c i hc hi)
section CG
variable {G : qG} {n : Nat} {sh : Nat → qC} {Rf Rf' : Nat → Nat → Option Nat} {x : Nat}
theorem wgFacts (e : Eo sh Rf Rf') (h : WfFacts G n sh Rf x) : WfFacts G n sh Rf' x := ⟨h.1, by rw [e x _ h.1.2.2 (by decide)]; exact h.2⟩
theorem wgLand (e : Eo sh Rf Rf') (h : WfLand G n sh Rf x) : WfLand G n sh Rf' x := ⟨h.1, by rw [e x _ h.1.2.2 (by decide)]; exact h.2⟩
theorem wgTrade (e : Eo sh Rf Rf') (h : WfTrade G n sh Rf x) : WfTrade G n sh Rf' x := ⟨h.1, by rw [e x _ h.1.2.2 (by decide)]; exact h.2⟩
theorem wgReform (e : Eo sh Rf Rf') (h : WfReform G n sh Rf x) : WfReform G n sh Rf' x := ⟨h.1, by rw [e x _ h.1.2.2 (by decide)]; exact h.2⟩
theorem wgRealm (e : Eo sh Rf Rf') (h : WfRealm G n sh Rf x) : WfRealm G n sh Rf' x := ⟨h.1, by rw [e x _ h.1.2.2 (by decide)]; exact h.2⟩
theorem wgPapers (e : Eo sh Rf Rf') (h : WfPapers G n sh Rf x) : WfPapers G n sh Rf' x := ⟨h.1, by rw [e x _ h.1.2.2 (by decide)]; exact h.2⟩
theorem wgLoads (e : Eo sh Rf Rf') (h : WfLoads G n sh Rf x) : WfLoads G n sh Rf' x := ⟨h.1, by rw [e x _ h.1.2.2 (by decide)]; exact h.2⟩
theorem wgRecords (e : Eo sh Rf Rf') (h : WfRecords G n sh Rf x) : WfRecords G n sh Rf' x := ⟨h.1, by rw [e x _ h.1.2.2 (by decide)]; exact h.2⟩
theorem wgWay (e : Eo sh Rf Rf') (h : WfWay G n sh Rf x) : WfWay G n sh Rf' x := ⟨h.1, by rw [e x _ h.1.2.2 (by decide)]; exact h.2⟩
theorem wgTape (e : Eo sh Rf Rf') (h : WfTape G n sh Rf x) : WfTape G n sh Rf' x := ⟨h.1, by rw [e x _ h.1.2.2 (by decide)]; exact h.2⟩
theorem wgRun (e : Eo sh Rf Rf') (h : WfRun G n sh Rf x) : WfRun G n sh Rf' x := by
  obtain ⟨h0, h1, h2, h3, h4, h5, h6, h7⟩ := h
  have q : Rf' x = Rf x := e x _ h0.2.2 (by decide)
  exact ⟨h0, by rw [q]; exact h1, ⟨by rw [q]; exact h2.1, wgReform e h2.2⟩, ⟨by rw [q]; exact h3.1, wgRealm e h3.2⟩, ⟨by rw [q]; exact h4.1, wgPapers e h4.2⟩, ⟨by rw [q]; exact h5.1, wgLoads e h5.2⟩, ⟨by rw [q]; exact h6.1, wgRecords e h6.2⟩, ⟨by rw [q]; exact h7.1, wgWay e h7.2⟩⟩
theorem wgOffice (e : Eo sh Rf Rf') (q : ∀ k, k ≠ 1 → k ≠ 2 → k ≠ 4 → Rf' x k = Rf x k) (h : WfOffice G n sh Rf x) : WfOffice G n sh Rf' x := by
  obtain ⟨h0, h1, h2, h3, h4, h5, h6, h7⟩ := h
  exact ⟨h0, fun y hy => (List.not_mem_nil hy).elim, ⟨(q _ (by decide) (by decide) (by decide)).trans h2.1, wgTape e h2.2⟩, ⟨(q _ (by decide) (by decide) (by decide)).trans h3.1, wgTrade e h3.2⟩, ⟨(q _ (by decide) (by decide) (by decide)).trans h4.1, wgFacts e h4.2⟩, ⟨(q _ (by decide) (by decide) (by decide)).trans h5.1, wgRun e h5.2⟩, ⟨(q _ (by decide) (by decide) (by decide)).trans h6.1, wgRun e h6.2⟩, ⟨(q _ (by decide) (by decide) (by decide)).trans h7.1, h7.2⟩⟩
end CG
section CR
variable {D : va_G} {cA : FieldType → ClassId} {b : Nat} {E : State → Prop} {o n : Nat} {sh : Nat → qC} {Rf : Nat → Nat → Option Nat} {I : Nat → Nat → Int32} {L : Nat → Nat → Int64} {post : Option Value → qS → Prop} {t l : Nat}
theorem c_cut (hok : q_ok (qGG D cA b E)) (hw : WfTape (qGG D cA b E) n sh Rf t) (h6 : I t 6 = 0) (hp : ∀ I', (∀ c, c ≠ t + 3 → c ≠ t + 4 → c ≠ t + 5 → I' c = I c) → I' (t + 3) 0 = 0 → post (some (.int 0)) (n, sh, Rf, I', L)) : Ev (qGG D cA b E) mTape_cutToken 8 (0, 0) 0 (lv_args 0 [.ref t, .int 0, .int 0]) [] (n, sh, Rf, I, L) post := by
  refine sTape_cutToken_0 t n sh Rf I L post 0 0 hok hw ?_
  refine sTape_cutToken_2 t n sh Rf I L post 0 0 0 hok hw ⟨fun _ => ?_, fun h => absurd (by rw [h6]; decide) h⟩
  refine ⟨by unfold vp_in; decide, fun I1 e1 => ⟨by unfold vp_in; decide, fun I3 e3 => ⟨fun h => absurd h ?_, fun _ => ⟨by unfold vp_in; decide, fun I4 e4 => ?_⟩⟩⟩⟩
  · rw [← e3, q_u_ne (by omega), ← e1, q_u_ne (by omega), h6]; decide
  · refine hp I4 (fun c c3 c4 c5 => by rw [← e4, q_u_ne c3, ← e3, q_u_ne c5, ← e1, q_u_ne c4]) ?_
    rw [← e4]; exact q_u_at
theorem c_start (hok : q_ok (qGG D cA b E)) (hw : WfTape (qGG D cA b E) n sh Rf t) (h6 : I t 6 = 0) {x : Int32} (hx : x = 0 ∨ x = 1) (hp : ∀ I', (∀ c, c ≠ t → c ≠ t + 3 → c ≠ t + 4 → c ≠ t + 5 → I' c = I c) → I' (t + 3) 0 = 0 → I' t 10 = 0 → post none (n, sh, Rf, I', L)) : Ev (qGG D cA b E) mTape_startReading 9 (0, 0) 0 (lv_args 0 [.ref t, .int x]) [] (n, sh, Rf, I, L) post := by
  refine sTape_startReading_0 t n sh Rf I L post x hok hw ⟨hx, fun I1 e1 I3 e3 I4 e4 => ?_⟩
  have k4 : I4 t 6 = 0 := by rw [← e4, q_u_k (by decide), ← e3, q_u_k (by decide), ← e1, q_u_k (by decide)]; exact h6
  have a4 : ∀ c, c ≠ t → I4 c = I c := fun c hc => by rw [← e4, q_u_ne hc, ← e3, q_u_ne hc, ← e1, q_u_ne hc]
  refine sTape_startReading_22 t n sh Rf I4 L post x 0 1 0 hok hw ⟨fun h => absurd h (by decide), fun _ => ⟨fun h => absurd h (by decide), fun _ => ?_⟩⟩
  refine c_cut hok hw k4 (fun I5 a5 k5 => ⟨0, I5, L, rfl, rfl, by unfold vp_in; decide, fun _ => ?_, fun h => absurd k5 h⟩)
  refine sTape_startReading_22 t n sh Rf I5 L post x 0 0 _ hok hw ⟨fun h => absurd h (by decide), fun _ => ⟨fun _ I6 e6 => ?_, fun h => absurd rfl h⟩⟩
  refine hp I6 (fun c c0 c3 c4 c5 => by rw [← e6, q_u_ne c0, a5 c c3 c4 c5, a4 c c0]) ?_ ?_
  · rw [← e6, q_u_ne (by omega)]; exact k5
  · rw [← e6]; exact q_u_at
theorem c_atEnd (hok : q_ok (qGG D cA b E)) (hw : WfTape (qGG D cA b E) n sh Rf t) (h3 : I (t + 3) 0 = 0) (h10 : I t 10 = 0) (hp : post (some (.int 1)) (n, sh, Rf, I, L)) : Ev (qGG D cA b E) mTape_atEnd 0 (0, 0) 0 (lv_args 0 [.ref t]) [] (n, sh, Rf, I, L) post :=
  sTape_atEnd_0 t n sh Rf I L post hok hw ⟨by rw [h10]; unfold vp_in; decide, fun h => absurd (by rw [h10]; exact h3) h, fun _ => hp⟩
theorem c_dist (hok : q_ok (qGG D cA b E)) (hw : WfLand (qGG D cA b E) n sh Rf l) (hd : DistId I l) {X Y : Nat} (hX : X < 16) (hY : Y < 16) (hp : post (some (.int (if X = Y then 0 else -1))) (n, sh, Rf, I, L)) : Ev (qGG D cA b E) mLand_daysBetween 0 (0, 0) 0 (lv_args 0 [.ref l, .int (nI X), .int (nI Y)]) [] (n, sh, Rf, I, L) post := by
  have s1 : ∀ Z, Z < 16 → ¬ nI Z < 0 := fun Z hZ q => by
    have := (nI_ltI (a := Z) (b := 0) (by omega) (by omega)).mp q
    omega
  have s2 : ∀ Z, Z < 16 → ¬ (16 : Int32) ≤ nI Z := fun Z hZ q => by
    have := (nI_leI (a := 16) (b := Z) (by omega) (by omega)).mp q
    omega
  have ll : (nI X * 16) + nI Y = nI (X * 16 + Y) := nI_lin X 16 Y
  refine sLand_daysBetween_0 l n sh Rf I L post (nI X) (nI Y) hok hw ⟨fun h => absurd h (s1 X hX), fun _ => ⟨fun h => absurd h (s2 X hX), fun _ => ⟨fun h => absurd h (s1 Y hY), fun _ => ⟨fun _ => ⟨by rw [ll]; exact vp_in_nI (by omega) (by omega), ?_⟩, fun h => absurd (Int32.not_le.mp (s2 Y hY)) h⟩⟩⟩⟩
  rw [ll, nI_clamp (by omega), show X * 16 + Y = 16 * X + Y by omega, hd X Y hX hY]
  exact hp
theorem c_ways26 (hok : q_ok (qGG D cA b E)) (hw : WfLand (qGG D cA b E) n sh Rf l) (hd : DistId I l) {V A : Nat} (hV : V < 16) (hA : A < 16) (hp : Ev (qGG D cA b E) mLand_shortenWays 2 (0, 0) 10 [(0, .ref l), (1, .int (nI V)), (2, .int (nI (A + 1)))] [] (n, sh, Rf, I, L) post) : ∀ m k, k + m = 16 → Ev (qGG D cA b E) mLand_shortenWays 2 (0, 0) 26 [(0, .ref l), (1, .int (nI V)), (2, .int (nI A)), (3, .int (if A = V then 0 else -1)), (4, .int (nI k))] [] (n, sh, Rf, I, L) post := by
  have f70 : ∀ x3 x4, fLand_shortenWays_70 D cA b E l n sh Rf I L post (nI V) (nI A) x3 x4 := fun x3 x4 => by
    unfold fLand_shortenWays_70; rw [nI_inc]; exact hp
  intro m
  induction m with
  | zero =>
    intro k hk
    refine sLand_shortenWays_26 l n sh Rf I L post (nI V) (nI A) _ (nI k) hok hw ⟨fun _ => f70 _ _, fun h => absurd ((nI_leI (a := 16) (by omega) (by omega)).mpr (by omega)) h⟩
  | succ m ih =>
    intro k hk
    refine sLand_shortenWays_26 l n sh Rf I L post (nI V) (nI A) _ (nI k) hok hw ⟨fun h => absurd ((nI_leI (a := 16) (by omega) (by omega)).mp h) (by omega), fun _ => ⟨fun _ => f70 _ _, fun h => ?_⟩⟩
    have hAV : A = V := Classical.byContradiction fun q => h (if_neg q)
    have f64 : ∀ r, fLand_shortenWays_64 D cA b E l n sh Rf I L post (nI V) (nI A) (if A = V then 0 else -1) (nI k) r := fun r => by
      unfold fLand_shortenWays_64; rw [nI_inc]; exact ih (k + 1) (by omega)
    refine c_dist hok hw hd hV (show k < 16 by omega) ⟨_, I, L, rfl, rfl, fun _ => f64 _, fun h1 => ?_⟩
    have hVk : V = k := Classical.byContradiction fun q => h1 (if_neg q)
    refine sLand_shorten_0 l n sh Rf I L _ (nI A) (nI k) _ hok hw (c_dist hok hw hd hA (show k < 16 by omega) ⟨_, I, L, rfl, rfl, fun h2 => absurd h2 ?_, fun _ => ⟨fun _ => ⟨I, L, rfl, rfl, f64 _⟩, fun h2 => absurd ?_ h2⟩⟩)
    · rw [if_pos (hAV.trans hVk)]; decide
    · rw [if_pos (hAV.trans hVk), if_pos hAV, if_pos hVk]; decide
theorem c_ways10 (hok : q_ok (qGG D cA b E)) (hw : WfLand (qGG D cA b E) n sh Rf l) (hd : DistId I l) {V : Nat} (hV : V < 16) (hp : Ev (qGG D cA b E) mLand_shortenWays 2 (0, 0) 2 [(0, .ref l), (1, .int (nI (V + 1)))] [] (n, sh, Rf, I, L) post) : ∀ m k, k + m = 16 → Ev (qGG D cA b E) mLand_shortenWays 2 (0, 0) 10 [(0, .ref l), (1, .int (nI V)), (2, .int (nI k))] [] (n, sh, Rf, I, L) post := by
  intro m
  induction m with
  | zero =>
    intro k hk
    refine sLand_shortenWays_10 l n sh Rf I L post (nI V) (nI k) hok hw ⟨fun _ => by rw [nI_inc]; exact hp, fun h => absurd ((nI_leI (a := 16) (by omega) (by omega)).mpr (by omega)) h⟩
  | succ m ih =>
    intro k hk
    refine sLand_shortenWays_10 l n sh Rf I L post (nI V) (nI k) hok hw ⟨fun h => absurd ((nI_leI (a := 16) (by omega) (by omega)).mp h) (by omega), fun _ => ?_⟩
    refine c_dist hok hw hd (show k < 16 by omega) hV ⟨_, I, L, rfl, rfl, ?_⟩
    exact c_ways26 hok hw hd hV (by omega) (ih (k + 1) (by omega)) 16 0 rfl
theorem c_ways (hok : q_ok (qGG D cA b E)) (hw : WfLand (qGG D cA b E) n sh Rf l) (hd : DistId I l) (hp : post none (n, sh, Rf, I, L)) : Ev (qGG D cA b E) mLand_shortenWays 2 (0, 0) 0 (lv_args 0 [.ref l]) [] (n, sh, Rf, I, L) post := by
  refine sLand_shortenWays_0 l n sh Rf I L post hok hw ?_
  have main : ∀ m k, k + m = 16 → Ev (qGG D cA b E) mLand_shortenWays 2 (0, 0) 2 [(0, .ref l), (1, .int (nI k))] [] (n, sh, Rf, I, L) post := by
    intro m
    induction m with
    | zero =>
      intro k hk
      exact sLand_shortenWays_2 l n sh Rf I L post (nI k) hok hw ⟨fun _ => hp, fun h => absurd ((nI_leI (a := 16) (by omega) (by omega)).mpr (by omega)) h⟩
    | succ m ih =>
      intro k hk
      exact sLand_shortenWays_2 l n sh Rf I L post (nI k) hok hw ⟨fun h => absurd ((nI_leI (a := 16) (by omega) (by omega)).mp h) (by omega), fun _ => c_ways10 hok hw hd (show k < 16 by omega) (ih (k + 1) (by omega)) 16 0 rfl⟩
  exact main 16 0 rfl
theorem c_readLand (hok : q_ok (qGG D cA b E)) (hw : WfLand (qGG D cA b E) n sh Rf l) (hwt : WfTape (qGG D cA b E) n sh Rf t) (hlt : t + 7 ≤ l) (h6 : I t 6 = 0) (hp : ∀ I', (∀ c, (c < t ∨ t + 7 ≤ c) → (c < l ∨ l + 16 ≤ c) → I' c = I c) → ZLand I' l → post (some (.int 1)) (n, sh, Rf, I', L)) : Ev (qGG D cA b E) mLand_read 10 (0, 0) 0 (lv_args 0 [.ref l, .ref t]) [] (n, sh, Rf, I, L) post := by
  refine sLand_read_0 l n sh Rf I L post t hok hw hwt (l_clear hok hw (fun I1 z1 a1 _ => ⟨I1, L, rfl, rfl, ?_⟩))
  refine c_start hok hwt (by rw [a1 t (by omega) (by omega) (by omega)]; exact h6) (Or.inr rfl) (fun I2 a2 k2 k10 => ⟨I2, L, rfl, rfl, ?_⟩)
  have z2 : ZLand I2 l := by
    have q : I2 l = I1 l := a2 l (by omega) (by omega) (by omega) (by omega)
    obtain ⟨q0, q1, q2, q3, q4, q5⟩ := z1
    refine ⟨by rw [q]; exact q0, by rw [q]; exact q1, by rw [q]; exact q2, by rw [q]; exact q3, by rw [q]; exact q4, fun x y hx hy => ?_⟩
    rw [a2 (l + 2) (by omega) (by omega) (by omega) (by omega)]; exact q5 x y hx hy
  refine sLand_read_11 l n sh Rf I2 L post t 0 hok hw hwt ⟨fun h => absurd h (by decide), fun _ => c_atEnd hok hwt k2 k10 ⟨1, I2, L, rfl, rfl, fun _ => ?_, fun h => absurd h (by decide)⟩⟩
  exact c_ways hok hw z2.2.2.2.2.2 ⟨I2, L, rfl, rfl, hp I2 (fun c c1 c2 => by rw [a2 c (by omega) (by omega) (by omega) (by omega), a1 c (by omega) (by omega) (by omega)]) z2⟩
theorem c_land (hok : q_ok (qGG D cA b E)) (hw : WO (qGG D cA b E) n sh Rf o) (hf : FC I o) (hp : ∀ Rf' I' L', Fr o Rf I L Rf' I' L' → post (some (.int (0))) (n, sh, Rf', I', L')) : Ev (qGG D cA b E) mOffice_land 11 (0, 0) 0 (lv_args 0 [.ref o]) [] (n, sh, Rf, I, L) post := by
  have hs : sh o = .inr 11 := hw.1.1.2.2
  obtain ⟨wO, ⟨r1, wl⟩, ⟨r2, wsp⟩, _⟩ := hw
  refine sOffice_land_0 o n sh Rf I L post (o + 24) (o + 8) hok wO r2 wsp r1 wl (c_readLand hok wsp (wsOffice_0 wO) (by omega) hf.2.1 (fun I1 a1 z1 => ⟨1, I1, L, rfl, rfl, fun I2 e2 => ⟨fun _ => ?_, fun h => absurd h (by decide)⟩⟩))
  have e1 : Eo sh Rf (q_u Rf o 1 (some (o + 24))) := Eo.o hs
  have w1 := wgOffice e1 (fun k k1 _ _ => q_u_k k1) wO
  have e2' : Eo sh (q_u Rf o 1 (some (o + 24))) (q_u (q_u Rf o 1 (some (o + 24))) o 2 (some (o + 8))) := Eo.o hs
  have w2 := wgOffice e2' (fun k _ k2 _ => q_u_k k2) w1
  refine sOffice_land_39 o n sh _ I2 L post 1 (o + 8) (o + 24) (o + 24) hok w1 (wgLand e1 wl) (by rw [q_u_k (by decide)]; exact r2) (wgLand e1 wsp) q_u_at (wgLand e1 wsp) ?_
  refine sOffice_land_44 o n sh _ I2 L post 1 (o + 8) (o + 8) (o + 24) hok w2 (wgLand e2' (wgLand e1 wl)) q_u_at (wgLand e2' (wgLand e1 wl)) (by rw [q_u_k (by decide)]; exact q_u_at) (wgLand e2' (wgLand e1 wsp)) (fun I3 e3 I4 e4 => ?_)
  have q : I4 (o + 24) = I1 (o + 24) := by rw [← e4, q_u_ne (by omega), ← e3, q_u_ne (by omega), ← e2, q_u_ne (by omega)]
  rw [q, z1.1, z1.2.1, z1.2.2.1, z1.2.2.2.1]
  refine hp _ I4 L (fun a ha => ⟨by rw [q_u_ne (by omega), q_u_ne (by omega)], by rw [← e4, q_u_ne (by omega), ← e3, q_u_ne (by omega), ← e2, q_u_ne (by omega), a1 a (by omega) (by omega)], rfl⟩)
theorem c_clearR (hok : q_ok (qGG D cA b E)) (hw : WfReform (qGG D cA b E) n sh Rf l) (hp : ∀ I', (∀ c, (c < l ∨ l + 5 ≤ c) → I' c = I c) → I' l 5 = 0 → post none (n, sh, Rf, I', L)) : Ev (qGG D cA b E) mReform_clear 1 (0, 0) 0 (lv_args 0 [.ref l]) [] (n, sh, Rf, I, L) post := by
  refine sReform_clear_0 l n sh Rf I L post hok hw (l_fill hok (fun _ _ => waReform_1 hw) (by omega) (fun I1 a1 _ => ⟨I1, L, rfl, rfl, ?_⟩))
  refine l_fill hok (fun _ _ => waReform_2 hw) (by omega) (fun I2 a2 _ => ⟨I2, L, rfl, rfl, fun I3 e3 I4 e4 I5 e5 I6 e6 => ?_⟩)
  refine hp I6 (fun c hc => by rw [← e6, q_u_ne (by omega), ← e5, q_u_ne (by omega), ← e4, q_u_ne (by omega), ← e3, q_u_ne (by omega), a2 c (by omega), a1 c (by omega)]) ?_
  rw [← e6, q_u_k (by decide), ← e5, q_u_k (by decide), ← e4]; exact q_u_at
theorem c_reform (hok : q_ok (qGG D cA b E)) (hw : WO (qGG D cA b E) n sh Rf o) (hf : FC I o) {x1 : Int32} (hp : ∀ Rf' I' L', Fr o Rf I L Rf' I' L' → post (some (.int (aReform x1))) (n, sh, Rf', I', L')) : Ev (qGG D cA b E) mOffice_reform 103 (0, 0) 0 (lv_args 0 [.ref o, .int x1]) [] (n, sh, Rf, I, L) post := by
  have hs : sh o = .inr 11 := hw.1.1.2.2
  obtain ⟨wO, ⟨r1, wl⟩, ⟨r2, wsp⟩, ⟨r4, wr⟩, shf, _⟩ := hw
  have ha : sh (o + 40) = .inl (.object "SaltOffice$Reform", 4) := (waOffice_3 (I := I) (L := L) wO).2.2
  have wt := wsOffice_0 wO
  have no : aIn x1 0 3 = 0 → post (some (.int (-2))) (n, sh, Rf, I, L) := fun h => by
    have e : aReform x1 = -2 := if_pos h
    rw [← e]; exact hp _ _ _ Fr.rfl
  refine sOffice_reform_0 o n sh Rf I L post x1 (o + 41) hok wO r4 wr ⟨fun h => no (aIn_lo h), fun h => ⟨fun h1 => no (aIn_hi ((i_le (a := 3) (c := 4) (by decide)).mp h1)), fun h1 => ⟨fun _ => ?_, fun h2 => absurd (by rw [hf.2.1]; decide) h2⟩⟩⟩
  have g1 : ¬ 3 < x1 := fun q => h1 ((i_le (a := 3) (c := 4) (by decide)).mpr q)
  have e : aReform x1 = 0 := if_neg (aIn_in h g1)
  obtain ⟨S, hS, rfl⟩ := nI_of2 (M := 3) (n := 3) (by decide) h (Int32.not_lt.mp g1)
  have h4 : S < 4 := Nat.lt_succ_of_le hS
  have cl : (nI S).toNatClampNeg = S := nI_clamp (Nat.lt_trans h4 (by decide))
  have v : vp_in (nI S) 4 := vp_in_nI (by omega) (by omega)
  refine sReform_read_0 (o + 41) n sh Rf I L _ (o + 1) hok wr wt (c_clearR hok wr (fun I1 a1 k1 => ⟨I1, L, rfl, rfl, ?_⟩))
  refine c_start hok wt (by rw [a1 _ (by omega)]; exact hf.2.1) (Or.inl rfl) (fun I2 a2 k2 k10 => ⟨I2, L, rfl, rfl, ?_⟩)
  refine sReform_read_11 (o + 41) n sh Rf I2 L _ (o + 1) 0 hok wr wt ⟨fun q => absurd q (by decide), fun _ => c_atEnd hok wt k2 k10 ⟨1, I2, L, rfl, rfl, fun _ => ⟨1, I2, L, rfl, rfl, fun I3 e3 => ⟨fun _ => ⟨v, o + 187 + 5 * S, ?_, (shf S h4).2, v, ?_⟩, fun q => absurd q (by decide)⟩⟩, fun q => absurd q (by decide)⟩⟩
  · rw [cl]; exact (shf S h4).1
  · have e1 : Eo sh Rf (q_u Rf (o + 40) (nI S).toNatClampNeg (some (o + 41))) := Eo.a ha
    have w1 := wgOffice e1 (fun k _ _ _ => by rw [q_u_ne (show o ≠ o + 40 by omega)]) wO
    have e2' : Eo sh (q_u Rf (o + 40) (nI S).toNatClampNeg (some (o + 41))) (q_u (q_u Rf (o + 40) (nI S).toNatClampNeg (some (o + 41))) o 4 (some (o + 187 + 5 * S))) := Eo.o hs
    have w2 := wgOffice e2' (fun k _ _ k4 => q_u_k k4) w1
    have k3 : I3 (o + 41) 5 = 0 := by rw [← e3, q_u_ne (by omega), a2 _ (by omega) (by omega) (by omega) (by omega)]; exact k1
    refine sOffice_reform_77 o n sh _ I3 L post (nI S) 1 _ (o + 187 + 5 * S) (o + 41) hok w1 (wgReform e1 (shf S h4).2) (by rw [q_u_ne (show o ≠ o + 40 by omega)]; exact r4) (wgReform e1 wr) ?_
    refine sOffice_reform_83 o n sh _ I3 L post (nI S) 1 _ (o + 187 + 5 * S) (o + 187 + 5 * S) hok w2 (wgReform e2' (wgReform e1 (shf S h4).2)) q_u_at (wgReform e2' (wgReform e1 (shf S h4).2)) ?_
    show post (some (.int (I3 (o + 41) 5))) _
    rw [k3, ← e]
    exact hp _ I3 L (fun a ha => ⟨by rw [q_u_ne (by omega), q_u_ne (by omega)], by rw [← e3, q_u_ne (by omega), a2 a (by omega) (by omega) (by omega) (by omega), a1 a (by omega)], rfl⟩)
end CR
