/-! The class: a RUN while nothing is told. Nothing outside the RUN's own cells changes. -/
def CZ (o : Nat) (J : Nat → Nat → Int32) (K : Nat → Nat → Int64) (I : Nat → Nat → Int32) (L : Nat → Nat → Int64) : Prop :=
  (∀ a, (a < o ∨ o + 66 ≤ a) → I a = J a) ∧ (∀ a, (a < o ∨ o + 66 ≤ a) → L a = K a) ∧ I (o + 31) 12 = 0 ∧ I (o + 31) 13 = 0 ∧ I (o + 31) 14 = 0 ∧ I (o + 44) 8 = 0 ∧ I (o + 44) 9 = 0 ∧ (∀ j, j < 11 → I (o + 19 + 2) j = 0 ∧ I (o + 19 + 3) j = 0) ∧ L (o + 65) 0 = 0 ∧ L (o + 65) 2 = 0 ∧ L (o + 65) 8 = 0 ∧ L (o + 65) 9 = 0
/-- the LAND, the trade, the FACTS lie outside, and hold nothing -/
def CJ (J : Nat → Nat → Int32) (o l t f : Nat) : Prop := (l < o ∨ o + 66 ≤ l) ∧ (t < o ∨ o + 66 ≤ t) ∧ (f < o ∨ o + 66 ≤ f) ∧ J l 1 = 0 ∧ J l 2 = 0 ∧ J l 3 = 0 ∧ J t 1 = 0 ∧ J f 6 = 0
theorem CZ.upd {o a : Nat} {J I I' : Nat → Nat → Int32} {K L : Nat → Nat → Int64} (h : CZ o J K I L) (hI : ∀ c, c ≠ a → I' c = I c) (h1 : o ≤ a) (h2 : a < o + 66) (h3 : a ≠ o + 31) (h4 : a ≠ o + 44) (h5 : a ≠ o + 21) (h6 : a ≠ o + 22) : CZ o J K I' L := by
  obtain ⟨a1, a2, a3, a4, a5, a6, a7, a8, a9⟩ := h
  refine ⟨fun c hc => ?_, a2, ?_, ?_, ?_, ?_, ?_, fun j hj => ?_, a9⟩
  · rw [hI c (by omega)]; exact a1 c hc
  · rw [hI _ (Ne.symm h3)]; exact a3
  · rw [hI _ (Ne.symm h3)]; exact a4
  · rw [hI _ (Ne.symm h3)]; exact a5
  · rw [hI _ (Ne.symm h4)]; exact a6
  · rw [hI _ (Ne.symm h4)]; exact a7
  · rw [hI _ (show o + 19 + 2 ≠ a by omega), hI _ (show o + 19 + 3 ≠ a by omega)]; exact a8 j hj
theorem CZ.land {o l t f : Nat} {J I : Nat → Nat → Int32} {K L : Nat → Nat → Int64} (h : CZ o J K I L) (hj : CJ J o l t f) : I l 1 = 0 ∧ I l 2 = 0 ∧ I l 3 = 0 ∧ I t 1 = 0 ∧ I f 6 = 0 := by
  obtain ⟨j1, j2, j3, j4, j5, j6, j7, j8⟩ := hj
  rw [h.1 l j1, h.1 t j2, h.1 f j3]
  exact ⟨j4, j5, j6, j7, j8⟩
section CR
variable {D : va_G} {cA : FieldType → ClassId} {b : Nat} {E : State → Prop} {o n : Nat} {sh : Nat → qC} {Rf : Nat → Nat → Option Nat} {I J : Nat → Nat → Int32} {L K : Nat → Nat → Int64} {post : Option Value → qS → Prop} {l t f : Nat}
theorem y_loseForged (hok : q_ok (qGG D cA b E)) (hw : WfRun (qGG D cA b E) n sh Rf o) (hz : CZ o J K I L) {x1 : Int32} (hp : post none (n, sh, Rf, I, L)) : Ev (qGG D cA b E) mPapers_loseForged 2 (0, 0) 0 (lv_args 0 [.ref (o + 31), .int x1]) [] (n, sh, Rf, I, L) post :=
  sPapers_loseForged_0 (o + 31) n sh Rf I L post x1 hok (wsRun_4 hw) (sPapers_loseForged_2 (o + 31) n sh Rf I L post x1 0 hok (wsRun_4 hw) ⟨fun _ => hp, fun h => absurd (by rw [hz.2.2.2.1]; decide) h⟩)
theorem y_buryDead (hok : q_ok (qGG D cA b E)) (hw : WfRun (qGG D cA b E) n sh Rf o) (hl : Rf o 0 = some l) (hwl : WfLand (qGG D cA b E) n sh Rf l) (ht : Rf o 1 = some t) (hwt : WfTrade (qGG D cA b E) n sh Rf t) (hwf : WfFacts (qGG D cA b E) n sh Rf f) (hj : CJ J o l t f) (hz : CZ o J K I L) (hp : post none (n, sh, Rf, I, L)) : Ev (qGG D cA b E) mRun_buryDead 4 (0, 0) 0 (lv_args 0 [.ref o]) [] (n, sh, Rf, I, L) post :=
  sRun_buryDead_0 o n sh Rf I L post t hok hw ht hwt (sRun_buryDead_2 o n sh Rf I L post 0 t hok hw ht hwt ⟨fun _ => hp, fun h => absurd (by rw [(hz.land hj).2.2.2.1]; decide) h⟩)
theorem y_makeSalt (hok : q_ok (qGG D cA b E)) (hw : WfRun (qGG D cA b E) n sh Rf o) (hl : Rf o 0 = some l) (hwl : WfLand (qGG D cA b E) n sh Rf l) (ht : Rf o 1 = some t) (hwt : WfTrade (qGG D cA b E) n sh Rf t) (hwf : WfFacts (qGG D cA b E) n sh Rf f) (hj : CJ J o l t f) (hz : CZ o J K I L) {x2 : Int32} (hp : post none (n, sh, Rf, I, L)) : Ev (qGG D cA b E) mRun_makeSalt 2 (0, 0) 0 (lv_args 0 [.ref o, .ref f, .int x2]) [] (n, sh, Rf, I, L) post :=
  sRun_makeSalt_0 o n sh Rf I L post f x2 l hok hw hwf hl hwl (sRun_makeSalt_2 o n sh Rf I L post f x2 0 l hok hw hwf hl hwl ⟨fun _ => hp, fun h => absurd (by rw [(hz.land hj).2.1]; decide) h⟩)
theorem y_allSalt (hok : q_ok (qGG D cA b E)) (hw : WfRun (qGG D cA b E) n sh Rf o) (hp : post (some (.int 0)) (n, sh, Rf, I, L)) : Ev (qGG D cA b E) mRealm_allSalt 0 (0, 0) 0 (lv_args 0 [.ref (o + 24), .int 0]) [] (n, sh, Rf, I, L) post :=
  sRealm_allSalt_0 (o + 24) n sh Rf I L post 0 hok (wsRun_3 hw) (sRealm_allSalt_4 (o + 24) n sh Rf I L post 0 0 0 hok (wsRun_3 hw) ⟨fun _ => hp, fun h => absurd (by decide) h⟩)
theorem y_askCommon (hok : q_ok (qGG D cA b E)) (hw : WfRun (qGG D cA b E) n sh Rf o) (hl : Rf o 0 = some l) (hwl : WfLand (qGG D cA b E) n sh Rf l) (ht : Rf o 1 = some t) (hwt : WfTrade (qGG D cA b E) n sh Rf t) (hwf : WfFacts (qGG D cA b E) n sh Rf f) (hj : CJ J o l t f) (hz : CZ o J K I L) (hp : ∀ I', CZ o J K I' L → I' o = I o → post none (n, sh, Rf, I', L)) : Ev (qGG D cA b E) mRun_askCommon 1 (0, 0) 0 (lv_args 0 [.ref o]) [] (n, sh, Rf, I, L) post := by
  refine sRun_askCommon_0 o n sh Rf I L post l hok hw hl hwl (fun I1 e1 I2 e2 I3 e3 => ?_)
  have z1 : CZ o J K I1 L := hz.upd (fun c hc => by rw [← e1, q_u_ne hc]) (by omega) (by omega) (by omega) (by omega) (by omega) (by omega)
  have z2 : CZ o J K I2 L := z1.upd (fun c hc => by rw [← e2, q_u_ne hc]) (by omega) (by omega) (by omega) (by omega) (by omega) (by omega)
  have z3 : CZ o J K I3 L := z2.upd (fun c hc => by rw [← e3, q_u_ne hc]) (by omega) (by omega) (by omega) (by omega) (by omega) (by omega)
  rw [(z3.land hj).2.1]
  refine y_allSalt hok hw ⟨0, I3, L, rfl, rfl, fun I4 e4 => hp I4 (z3.upd (fun c hc => by rw [← e4, q_u_ne hc]) (by omega) (by omega) (by omega) (by omega) (by omega) (by omega)) ?_⟩
  rw [← e4, q_u_ne (by omega), ← e3, q_u_ne (by omega), ← e2, q_u_ne (by omega), ← e1, q_u_ne (by omega)]
theorem y_refill (hok : q_ok (qGG D cA b E)) (hw : WfRun (qGG D cA b E) n sh Rf o) (hl : Rf o 0 = some l) (hwl : WfLand (qGG D cA b E) n sh Rf l) (ht : Rf o 1 = some t) (hwt : WfTrade (qGG D cA b E) n sh Rf t) (hwf : WfFacts (qGG D cA b E) n sh Rf f) (hj : CJ J o l t f) (hz : CZ o J K I L) (hp : ∀ I', CZ o J K I' L → I' o = I o → post none (n, sh, Rf, I', L)) : Ev (qGG D cA b E) mRealm_refillGrain 1 (0, 0) 0 (lv_args 0 [.ref (o + 24), .ref l]) [] (n, sh, Rf, I, L) post := by
  refine sRealm_refillGrain_0 (o + 24) n sh Rf I L post l hok (wsRun_3 hw) hwl ⟨⟨by decide, by decide, by decide⟩, fun I2 e2 => ?_⟩
  exact hp I2 (hz.upd (fun c hc => by rw [← e2, q_w_ne hc]) (by omega) (by omega) (by omega) (by omega) (by omega) (by omega)) (by rw [← e2, q_w_ne (by omega)])
theorem y_tell (hok : q_ok (qGG D cA b E)) (hw : WfRun (qGG D cA b E) n sh Rf o) (hz : CZ o J K I L) {x1 : Int32} (hx : vp_in x1 11) (hp : post (some (.int 0)) (n, sh, Rf, I, L)) : Ev (qGG D cA b E) mReform_tell 1 (0, 0) 0 (lv_args 0 [.ref (o + 19), .int x1, .ref (o + 59)]) [] (n, sh, Rf, I, L) post := by
  have q := hz.2.2.2.2.2.2.2.1 _ (vin_lt hx)
  refine sReform_tell_0 (o + 19) n sh Rf I L post x1 (o + 59) 64 hok (wsRun_2 hw) (waRun_8 hw) ⟨hx, ?_⟩
  rw [q.1]
  exact sReform_tell_10 (o + 19) n sh Rf I L post x1 (o + 59) 0 0 64 hok (wsRun_2 hw) (waRun_8 hw) ⟨hx, fun _ => ⟨fun _ => hp, fun h => absurd (by decide) h⟩, fun h => absurd (by rw [q.2]; decide) h⟩
theorem y_tellMonth_6 {Jo : Nat → Int32} (hok : q_ok (qGG D cA b E)) (hw : WfRun (qGG D cA b E) n sh Rf o) (hl : Rf o 0 = some l) (hwl : WfLand (qGG D cA b E) n sh Rf l) (ht : Rf o 1 = some t) (hwt : WfTrade (qGG D cA b E) n sh Rf t) (hwf : WfFacts (qGG D cA b E) n sh Rf f) (hj : CJ J o l t f) (hp : ∀ I', CZ o J K I' L → (∀ k, k ≠ 18 → I' o k = Jo k) → post none (n, sh, Rf, I', L)) : ∀ (m k : Nat) (I : Nat → Nat → Int32), k + m = 6 → 2 ≤ k → CZ o J K I L → (∀ k, k ≠ 18 → I o k = Jo k) → Ev (qGG D cA b E) mRun_tellMonth 2 (0, 0) 6 [(0, .ref o), (1, .int (nI k))] [] (n, sh, Rf, I, L) post := by
  intro m
  induction m with
  | zero =>
    intro k I hk h2 hz ho
    refine sRun_tellMonth_6 o n sh Rf I L post (nI k) l hok hw hl hwl ⟨fun _ I2 e2 => ?_, fun h => absurd ((nI_ltI (a := 5) (by omega) (by omega)).mpr (by omega)) h⟩
    have z2 : CZ o J K I2 L := hz.upd (fun c hc => by rw [← e2, q_u_ne hc]) (by omega) (by omega) (by omega) (by omega) (by omega) (by omega)
    refine y_refill hok hw hl hwl ht hwt hwf hj z2 (fun I3 z3 o3 => ⟨I3, L, rfl, rfl, hp I3 z3 (fun j hj2 => ?_)⟩)
    rw [o3, ← e2, q_u_k hj2]
    exact ho j hj2
  | succ m ih =>
    intro k I hk h2 hz ho
    have v : vp_in (nI k) 11 := vp_in_nI (by omega) (by omega)
    have f24 : ∀ z0 : Int32, fRun_tellMonth_24 D cA b E o n sh Rf I L post (nI k) z0 l := by
      intro z0
      unfold fRun_tellMonth_24
      refine y_tell hok hw hz v ⟨0, I, L, rfl, rfl, fun y5 e5 y6 e6 => ⟨v, fun I7 e7 => ?_⟩⟩
      rw [nI_inc]
      refine ih (k + 1) I7 (by omega) (by omega) (hz.upd (fun c hc => by rw [← e7, q_u_ne hc]) (by omega) (by omega) (by omega) (by omega) (by omega) (by omega)) (fun j hj2 => ?_)
      rw [← e7, q_u_ne (by omega)]
      exact ho j hj2
    exact sRun_tellMonth_6 o n sh Rf I L post (nI k) l hok hw hl hwl ⟨fun h => absurd ((nI_ltI (a := 5) (by omega) (by omega)).mp h) (by omega), fun _ => ⟨fun _ => f24 _, fun _ => f24 _⟩⟩
theorem y_tellMonth (hok : q_ok (qGG D cA b E)) (hw : WfRun (qGG D cA b E) n sh Rf o) (hl : Rf o 0 = some l) (hwl : WfLand (qGG D cA b E) n sh Rf l) (ht : Rf o 1 = some t) (hwt : WfTrade (qGG D cA b E) n sh Rf t) (hwf : WfFacts (qGG D cA b E) n sh Rf f) (hj : CJ J o l t f) (hz : CZ o J K I L) (hp : ∀ I', CZ o J K I' L → (∀ k, k ≠ 18 → I' o k = I o k) → post none (n, sh, Rf, I', L)) : Ev (qGG D cA b E) mRun_tellMonth 2 (0, 0) 0 (lv_args 0 [.ref o]) [] (n, sh, Rf, I, L) post := by
  refine sRun_tellMonth_0 o n sh Rf I L post l hok hw hl hwl (y_askCommon hok hw hl hwl ht hwt hwf hj hz (fun I3 z3 o3 => ⟨I3, L, rfl, rfl, ?_⟩))
  exact y_tellMonth_6 (Jo := fun k => I o k) hok hw hl hwl ht hwt hwf hj hp 4 2 I3 rfl (by omega) z3 (fun k _ => by rw [o3])
theorem y_bringLoads (hok : q_ok (qGG D cA b E)) (hw : WfRun (qGG D cA b E) n sh Rf o) (hz : CZ o J K I L) (hp : post none (n, sh, Rf, I, L)) : Ev (qGG D cA b E) mRun_bringLoads 3 (0, 0) 0 (lv_args 0 [.ref o]) [] (n, sh, Rf, I, L) post := by
  have h8 := hz.2.2.2.2.2.1
  have h9 := hz.2.2.2.2.2.2.1
  refine sRun_bringLoads_0 o n sh Rf I L post hok hw (sRun_bringLoads_8 o n sh Rf I L post (I (o + 44) 8) hok hw ⟨fun _ => ?_, fun h => absurd (by rw [h8, h9]; decide) h⟩)
  exact sLoads_forgetCome_0 (o + 44) n sh Rf I L _ (I o 17) hok (wsRun_5 hw) ⟨fun _ => ⟨I, L, rfl, rfl, hp⟩, fun h => absurd (by rw [h8, h9]; decide) h⟩
theorem y_closeQueue (hok : q_ok (qGG D cA b E)) (hw : WfRun (qGG D cA b E) n sh Rf o) (hz : CZ o J K I L) (hp : ∀ I', CZ o J K I' L → I' o = I o → post none (n, sh, Rf, I', L)) : Ev (qGG D cA b E) mPapers_closeQueue 1 (0, 0) 0 (lv_args 0 [.ref (o + 31)]) [] (n, sh, Rf, I, L) post := by
  refine sPapers_closeQueue_0 (o + 31) n sh Rf I L post hok (wsRun_4 hw) (sPapers_closeQueue_4 (o + 31) n sh Rf I L post 0 0 hok (wsRun_4 hw) ⟨fun _ I2 e2 => ?_, fun h => absurd (by rw [hz.2.2.2.1]; decide) h⟩)
  obtain ⟨a1, a2, a3, a4, a5, a6, a7, a8, a9⟩ := hz
  refine hp I2 ⟨fun c hc => ?_, a2, ?_, ?_, ?_, ?_, ?_, fun j hj => ?_, a9⟩ ?_
  · rw [← e2, q_u_ne (by omega)]; exact a1 c hc
  · rw [← e2, q_u_k (by decide)]; exact a3
  · rw [← e2, q_u_at]
  · rw [← e2, q_u_k (by decide)]; exact a5
  · rw [← e2, q_u_ne (by omega)]; exact a6
  · rw [← e2, q_u_ne (by omega)]; exact a7
  · rw [← e2, q_u_ne (by omega), q_u_ne (by omega)]; exact a8 j hj
  · rw [← e2, q_u_ne (by omega)]
theorem y_classAll (hok : q_ok (qGG D cA b E)) (hw : WfRun (qGG D cA b E) n sh Rf o) (hl : Rf o 0 = some l) (hwl : WfLand (qGG D cA b E) n sh Rf l) (ht : Rf o 1 = some t) (hwt : WfTrade (qGG D cA b E) n sh Rf t) (hwf : WfFacts (qGG D cA b E) n sh Rf f) (hj : CJ J o l t f) (hz : CZ o J K I L) (hp : ∀ I', CZ o J K I' L → I' o = I o → post none (n, sh, Rf, I', L)) : Ev (qGG D cA b E) mRun_classAll 2 (0, 0) 0 (lv_args 0 [.ref o]) [] (n, sh, Rf, I, L) post := by
  refine sRun_classAll_0 o n sh Rf I L post hok hw (y_askCommon hok hw hl hwl ht hwt hwf hj hz (fun I3 z3 o3 => ⟨I3, L, rfl, rfl, ?_⟩))
  exact sRun_classAll_6 o n sh Rf I3 L post 0 hok hw ⟨fun _ => hp I3 z3 o3, fun h => absurd (by rw [z3.2.2.2.1]; decide) h⟩
theorem y_drawPapers (hok : q_ok (qGG D cA b E)) (hw : WfRun (qGG D cA b E) n sh Rf o) (hl : Rf o 0 = some l) (hwl : WfLand (qGG D cA b E) n sh Rf l) (ht : Rf o 1 = some t) (hwt : WfTrade (qGG D cA b E) n sh Rf t) (hwf : WfFacts (qGG D cA b E) n sh Rf f) (hj : CJ J o l t f) (hz : CZ o J K I L) (hp : ∀ I', CZ o J K I' L → I' o = I o → post none (n, sh, Rf, I', L)) : Ev (qGG D cA b E) mRun_drawPapers 5 (0, 0) 0 (lv_args 0 [.ref o]) [] (n, sh, Rf, I, L) post := by
  refine sRun_drawPapers_0 o n sh Rf I L post l hok hw hl hwl (y_closeQueue hok hw hz (fun I3 z3 o3 => ⟨I3, L, rfl, rfl, ?_⟩))
  refine y_classAll hok hw hl hwl ht hwt hwf hj z3 (fun I4 z4 o4 => ⟨I4, L, rfl, rfl, ?_⟩)
  exact sRun_drawPapers_13 o n sh Rf I4 L post 0 l hok hw hl hwl ⟨fun _ => hp I4 z4 (o4.trans o3), fun h => absurd (by rw [(z4.land hj).2.1]; decide) h⟩
theorem y_eat (hok : q_ok (qGG D cA b E)) (hw : WfRun (qGG D cA b E) n sh Rf o) (hl : Rf o 0 = some l) (hwl : WfLand (qGG D cA b E) n sh Rf l) (ht : Rf o 1 = some t) (hwt : WfTrade (qGG D cA b E) n sh Rf t) (hwf : WfFacts (qGG D cA b E) n sh Rf f) (hj : CJ J o l t f) (hz : CZ o J K I L) (hp : post (some (.int 0)) (n, sh, Rf, I, L)) : Ev (qGG D cA b E) mRealm_eat 1 (0, 0) 0 (lv_args 0 [.ref (o + 24), .ref l]) [] (n, sh, Rf, I, L) post :=
  sRealm_eat_0 (o + 24) n sh Rf I L post l hok (wsRun_3 hw) hwl (sRealm_eat_4 (o + 24) n sh Rf I L post l 0 0 hok (wsRun_3 hw) hwl ⟨fun _ => hp, fun h => absurd (by rw [(hz.land hj).1]; decide) h⟩)
theorem y_use (hok : q_ok (qGG D cA b E)) (hw : WfRun (qGG D cA b E) n sh Rf o) (hl : Rf o 0 = some l) (hwl : WfLand (qGG D cA b E) n sh Rf l) (ht : Rf o 1 = some t) (hwt : WfTrade (qGG D cA b E) n sh Rf t) (hwf : WfFacts (qGG D cA b E) n sh Rf f) (hj : CJ J o l t f) (hz : CZ o J K I L) (hp : post none (n, sh, Rf, I, L)) : Ev (qGG D cA b E) mRealm_use 1 (0, 0) 0 (lv_args 0 [.ref (o + 24), .ref l]) [] (n, sh, Rf, I, L) post :=
  sRealm_use_0 (o + 24) n sh Rf I L post l hok (wsRun_3 hw) hwl (sRealm_use_2 (o + 24) n sh Rf I L post l 0 hok (wsRun_3 hw) hwl ⟨fun _ => hp, fun h => absurd (by rw [(hz.land hj).2.2.1]; decide) h⟩)
theorem y_takeWays (hok : q_ok (qGG D cA b E)) (hw : WfRun (qGG D cA b E) n sh Rf o) (hl : Rf o 0 = some l) (hwl : WfLand (qGG D cA b E) n sh Rf l) (ht : Rf o 1 = some t) (hwt : WfTrade (qGG D cA b E) n sh Rf t) (hwf : WfFacts (qGG D cA b E) n sh Rf f) (hj : CJ J o l t f) (hz : CZ o J K I L) (hp : post none (n, sh, Rf, I, L)) : Ev (qGG D cA b E) mRun_takeWays 5 (0, 0) 0 (lv_args 0 [.ref o]) [] (n, sh, Rf, I, L) post :=
  sRun_takeWays_0 o n sh Rf I L post t hok hw ht hwt (sRun_takeWays_2 o n sh Rf I L post 0 t hok hw ht hwt ⟨fun _ => hp, fun h => absurd (by rw [(hz.land hj).2.2.2.1]; decide) h⟩)
theorem y_smuggleAll (hok : q_ok (qGG D cA b E)) (hw : WfRun (qGG D cA b E) n sh Rf o) (hl : Rf o 0 = some l) (hwl : WfLand (qGG D cA b E) n sh Rf l) (ht : Rf o 1 = some t) (hwt : WfTrade (qGG D cA b E) n sh Rf t) (hwf : WfFacts (qGG D cA b E) n sh Rf f) (hj : CJ J o l t f) (hz : CZ o J K I L) (hp : ∀ I', CZ o J K I' L → I' o = I o → post none (n, sh, Rf, I', L)) : Ev (qGG D cA b E) mRun_smuggleAll 3 (0, 0) 0 (lv_args 0 [.ref o]) [] (n, sh, Rf, I, L) post := by
  refine sRun_smuggleAll_0 o n sh Rf I L post l hok hw hl hwl (l_fill hok (fun _ _ => waRealm_4 (wsRun_3 hw)) (by omega) (fun I3 a3 _ => ⟨I3, L, rfl, rfl, ?_⟩))
  have z3 : CZ o J K I3 L := hz.upd a3 (by omega) (by omega) (by omega) (by omega) (by omega) (by omega)
  exact sRun_smuggleAll_13 o n sh Rf I3 L post 0 l hok hw hl hwl ⟨fun _ => hp I3 z3 (a3 o (by omega)), fun h => absurd (by rw [(z3.land hj).2.2.1]; decide) h⟩
theorem y_keepRealm (hok : q_ok (qGG D cA b E)) (hw : WfRun (qGG D cA b E) n sh Rf o) (hl : Rf o 0 = some l) (hwl : WfLand (qGG D cA b E) n sh Rf l) (ht : Rf o 1 = some t) (hwt : WfTrade (qGG D cA b E) n sh Rf t) (hwf : WfFacts (qGG D cA b E) n sh Rf f) (hj : CJ J o l t f) (hz : CZ o J K I L) {x4 : Int32} (hp : post none (n, sh, Rf, I, L)) : Ev (qGG D cA b E) mRecords_keepRealm 2 (0, 0) 0 (lv_args 0 [.ref (o + 53), .ref (o + 24), .ref l, .ref (o + 31), .int x4]) [] (n, sh, Rf, I, L) post := by
  refine sRecords_keepRealm_0 (o + 53) n sh Rf I L post (o + 24) l (o + 31) x4 hok (wsRun_6 hw) (wsRun_3 hw) hwl (wsRun_4 hw) (sRecords_keepRealm_3 (o + 53) n sh Rf I L post (o + 24) l (o + 31) x4 0 hok (wsRun_6 hw) (wsRun_3 hw) hwl (wsRun_4 hw) ⟨fun _ => ?_, fun h => absurd (by rw [(hz.land hj).1]; decide) h⟩)
  refine sRecords_keepRealm_65 (o + 53) n sh Rf I L post (o + 24) l (o + 31) x4 0 hok (wsRun_6 hw) (wsRun_3 hw) hwl (wsRun_4 hw) ⟨fun _ => ?_, fun h => absurd (by rw [(hz.land hj).2.1]; decide) h⟩
  exact sRecords_keepRealm_127 (o + 53) n sh Rf I L post (o + 24) l (o + 31) x4 0 hok (wsRun_6 hw) (wsRun_3 hw) hwl (wsRun_4 hw) ⟨fun _ => hp, fun h => absurd (by rw [(hz.land hj).2.2.1]; decide) h⟩
end CR
