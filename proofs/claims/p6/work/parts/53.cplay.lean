/-! The class: a RUN from its beginning while nothing is told. -/
/-- as the RUN begins: nothing outside has changed; its rules are of no lines -/
def C0 (o : Nat) (J : Nat → Nat → Int32) (K : Nat → Nat → Int64) (I : Nat → Nat → Int32) (L : Nat → Nat → Int64) : Prop :=
  (∀ a, (a < o ∨ o + 66 ≤ a) → I a = J a) ∧ (∀ a, (a < o ∨ o + 66 ≤ a) → L a = K a) ∧ ∀ j, j < 11 → I (o + 19 + 2) j = 0 ∧ I (o + 19 + 3) j = 0
theorem C0.upd {o a : Nat} {J I I' : Nat → Nat → Int32} {K L : Nat → Nat → Int64} (h : C0 o J K I L) (hI : ∀ c, c ≠ a → I' c = I c) (h1 : o ≤ a) (h2 : a < o + 66) (h5 : a ≠ o + 21) (h6 : a ≠ o + 22) : C0 o J K I' L := by
  obtain ⟨a1, a2, a8⟩ := h
  refine ⟨fun c hc => ?_, a2, fun j hj => ?_⟩
  · rw [hI c (by omega)]; exact a1 c hc
  · rw [hI _ (show o + 19 + 2 ≠ a by omega), hI _ (show o + 19 + 3 ≠ a by omega)]; exact a8 j hj
theorem C0.updL {o a : Nat} {J I : Nat → Nat → Int32} {K L L' : Nat → Nat → Int64} (h : C0 o J K I L) (hL : ∀ c, c ≠ a → L' c = L c) (h1 : o ≤ a) (h2 : a < o + 66) : C0 o J K I L' := by
  obtain ⟨a1, a2, a8⟩ := h
  exact ⟨a1, fun c hc => by rw [hL c (by omega)]; exact a2 c hc, a8⟩
/-- a REFORM of no lines -/
def ZReform (J : Nat → Nat → Int32) (r : Nat) : Prop := J r 4 = 0 ∧ ∀ j, j < 11 → J (r + 2) j = 0 ∧ J (r + 3) j = 0
section CP
variable {D : va_G} {cA : FieldType → ClassId} {b : Nat} {E : State → Prop} {o n : Nat} {sh : Nat → qC} {Rf : Nat → Nat → Option Nat} {I J : Nat → Nat → Int32} {L K : Nat → Nat → Int64} {post : Option Value → qS → Prop} {l t f : Nat}
theorem y_copyFrom (hok : q_ok (qGG D cA b E)) (hw : WfRun (qGG D cA b E) n sh Rf o) {r : Nat} (hwr : WfReform (qGG D cA b E) n sh Rf r) (hr : r + 5 ≤ o ∨ o + 66 ≤ r) (hz : ZReform J r) (h1 : ∀ a, (a < o ∨ o + 66 ≤ a) → I a = J a) (h2 : ∀ a, (a < o ∨ o + 66 ≤ a) → L a = K a) (hp : ∀ I', C0 o J K I' L → post none (n, sh, Rf, I', L)) : Ev (qGG D cA b E) mReform_copyFrom 1 (0, 0) 0 (lv_args 0 [.ref (o + 19), .ref r]) [] (n, sh, Rf, I, L) post := by
  obtain ⟨z4, zj⟩ := hz
  have e4 : I r 4 = 0 := by rw [h1 r (by omega)]; exact z4
  have c11 : (11 : Int32).toNatClampNeg = 11 := rfl
  have c0 : (0 : Int32).toNatClampNeg = 0 := rfl
  refine sReform_copyFrom_0 (o + 19) n sh Rf I L post r hok (wsRun_2 hw) hwr ⟨⟨by rw [e4]; decide, by rw [e4]; decide, by rw [e4]; decide⟩, fun I2 e2 => ⟨⟨by decide, by decide, by decide⟩, fun I3 e3 => ⟨⟨by decide, by decide, by decide⟩, fun I4 e5 I7 e7 I8 e8 I9 e9 => ?_⟩⟩⟩
  have a2 : ∀ c, c ≠ o + 19 + 1 → I2 c = I c := fun c hc => by rw [← e2, q_w_ne hc]
  have a3 : ∀ c, c ≠ o + 19 + 2 → I3 c = I2 c := fun c hc => by rw [← e3, q_w_ne hc]
  have a4 : ∀ c, c ≠ o + 19 + 3 → I4 c = I3 c := fun c hc => by rw [← e5, q_w_ne hc]
  have a9 : ∀ c, c ≠ o + 19 → I9 c = I4 c := fun c hc => by rw [← e9, q_u_ne hc, ← e8, q_u_ne hc, ← e7, q_u_ne hc]
  refine hp I9 ⟨fun a ha => ?_, h2, fun j hj => ⟨?_, ?_⟩⟩
  · rw [a9 a (by omega), a4 a (by omega), a3 a (by omega), a2 a (by omega)]; exact h1 a ha
  · rw [a9 _ (by omega), a4 _ (by omega), ← e3, q_w_at, c0, c11]
    show (if 0 ≤ j ∧ j < 0 + 11 then I2 (r + 2) (0 + (j - 0)) else _) = 0
    rw [if_pos ⟨by omega, by omega⟩, show 0 + (j - 0) = j by omega, a2 _ (by omega), h1 _ (by omega)]
    exact (zj j hj).1
  · rw [a9 _ (by omega), ← e5, q_w_at, c0, c11]
    show (if 0 ≤ j ∧ j < 0 + 11 then I3 (r + 3) (0 + (j - 0)) else _) = 0
    rw [if_pos ⟨by omega, by omega⟩, show 0 + (j - 0) = j by omega, a3 _ (by omega), a2 _ (by omega), h1 _ (by omega)]
    exact (zj j hj).2
theorem y_realmStart (hok : q_ok (qGG D cA b E)) (hw : WfRun (qGG D cA b E) n sh Rf o) (hl : Rf o 0 = some l) (hwl : WfLand (qGG D cA b E) n sh Rf l) (ht : Rf o 1 = some t) (hwt : WfTrade (qGG D cA b E) n sh Rf t) (hwf : WfFacts (qGG D cA b E) n sh Rf f) (hj : CJ J o l t f) (hz : C0 o J K I L) (hp : ∀ I', C0 o J K I' L → post none (n, sh, Rf, I', L)) : Ev (qGG D cA b E) mRealm_start 1 (0, 0) 0 (lv_args 0 [.ref (o + 24), .ref l]) [] (n, sh, Rf, I, L) post := by
  refine sRealm_start_0 (o + 24) n sh Rf I L post l hok (wsRun_3 hw) hwl ⟨⟨by decide, by decide, by decide⟩, fun I2 e2 => ?_⟩
  have z2 : C0 o J K I2 L := hz.upd (fun c hc => by rw [← e2, q_w_ne hc]) (by omega) (by omega) (by omega) (by omega)
  refine l_fill hok (fun _ _ => waRealm_2 (wsRun_3 hw)) (by omega) (fun I3 a3 _ => ⟨I3, L, rfl, rfl, ?_⟩)
  have z3 : C0 o J K I3 L := z2.upd a3 (by omega) (by omega) (by omega) (by omega)
  refine l_fill hok (fun _ _ => waRealm_3 (wsRun_3 hw)) (by omega) (fun I4 a4 _ => ⟨I4, L, rfl, rfl, ?_⟩)
  have z4 : C0 o J K I4 L := z3.upd a4 (by omega) (by omega) (by omega) (by omega)
  exact hp I4 z4
theorem y_papersStart (hok : q_ok (qGG D cA b E)) (hw : WfRun (qGG D cA b E) n sh Rf o) (hl : Rf o 0 = some l) (hwl : WfLand (qGG D cA b E) n sh Rf l) (ht : Rf o 1 = some t) (hwt : WfTrade (qGG D cA b E) n sh Rf t) (hwf : WfFacts (qGG D cA b E) n sh Rf f) (hj : CJ J o l t f) (hz : C0 o J K I L) {x2 : Int32} (hp : ∀ I', C0 o J K I' L → I' (o + 31) 12 = 0 → I' (o + 31) 13 = 0 → I' (o + 31) 14 = 0 → post none (n, sh, Rf, I', L)) : Ev (qGG D cA b E) mPapers_start 1 (0, 0) 0 (lv_args 0 [.ref (o + 31), .ref f, .int x2]) [] (n, sh, Rf, I, L) post := by
  refine sPapers_start_0 (o + 31) n sh Rf I L post f x2 hok (wsRun_4 hw) hwf (fun I1 e1 I2 e2 I3 e3 => ?_)
  have z3 : C0 o J K I3 L := hz.upd (fun c hc => by rw [← e3, q_u_ne hc, ← e2, q_u_ne hc, ← e1, q_u_ne hc]) (by omega) (by omega) (by omega) (by omega)
  refine l_fill hok (fun _ _ => waPapers_11 (wsRun_4 hw)) (by omega) (fun I4 a4 _ => ⟨I4, L, rfl, rfl, ?_⟩)
  have z4 : C0 o J K I4 L := z3.upd a4 (by omega) (by omega) (by omega) (by omega)
  refine l_fill hok (fun _ _ => waPapers_9 (wsRun_4 hw)) (by omega) (fun I5 a5 _ => ⟨I5, L, rfl, rfl, ?_⟩)
  have z5 : C0 o J K I5 L := z4.upd a5 (by omega) (by omega) (by omega) (by omega)
  have p : I5 (o + 31) = I3 (o + 31) := by rw [a5 _ (by omega), a4 _ (by omega)]
  refine sPapers_start_34 (o + 31) n sh Rf I5 L post f x2 0 hok (wsRun_4 hw) hwf ⟨fun _ => hp I5 z5 ?_ ?_ ?_, fun h => absurd ?_ h⟩
  · rw [p, ← e3, q_u_k (by decide), ← e2, q_u_k (by decide), ← e1, q_u_at]
  · rw [p, ← e3, q_u_k (by decide), ← e2, q_u_at]
  · rw [p, ← e3, q_u_at]
  · rw [z5.1 f hj.2.2.1, hj.2.2.2.2.2.2.2]; decide
theorem y_readDeaths (hok : q_ok (qGG D cA b E)) (hw : WfRun (qGG D cA b E) n sh Rf o) (hl : Rf o 0 = some l) (hwl : WfLand (qGG D cA b E) n sh Rf l) (ht : Rf o 1 = some t) (hwt : WfTrade (qGG D cA b E) n sh Rf t) (hwf : WfFacts (qGG D cA b E) n sh Rf f) (hj : CJ J o l t f) (hz : CZ o J K I L) {x2 : Int32} (hp : ∀ I', CZ o J K I' L → post none (n, sh, Rf, I', L)) : Ev (qGG D cA b E) mRun_readDeaths 1 (0, 0) 0 (lv_args 0 [.ref o, .ref f, .int x2]) [] (n, sh, Rf, I, L) post := by
  refine sRun_readDeaths_0 o n sh Rf I L post f x2 hok hw hwf (l_fill hok (fun _ _ => waRun_12 hw) (by omega) (fun I3 a3 _ => ⟨I3, L, rfl, rfl, ?_⟩))
  have z3 : CZ o J K I3 L := hz.upd a3 (by omega) (by omega) (by omega) (by omega) (by omega) (by omega)
  refine l_fill hok (fun _ _ => waRun_13 hw) (by omega) (fun I4 a4 _ => ⟨I4, L, rfl, rfl, ?_⟩)
  have z4 : CZ o J K I4 L := z3.upd a4 (by omega) (by omega) (by omega) (by omega) (by omega) (by omega)
  exact sRun_readDeaths_19 o n sh Rf I4 L post f x2 0 hok hw hwf ⟨fun _ => hp I4 z4, fun h => absurd (by rw [(z4.land hj).2.2.2.2]; decide) h⟩
theorem y_begin (hok : q_ok (qGG D cA b E)) (hw : WfRun (qGG D cA b E) n sh Rf o) (hl : Rf o 0 = some l) (hwl : WfLand (qGG D cA b E) n sh Rf l) (ht : Rf o 1 = some t) (hwt : WfTrade (qGG D cA b E) n sh Rf t) (hwf : WfFacts (qGG D cA b E) n sh Rf f) (hj : CJ J o l t f) (hz : C0 o J K I L) {x2 : Int32} (hp : ∀ I' L', CZ o J K I' L' → post none (n, sh, Rf, I', L')) : Ev (qGG D cA b E) mRun_begin 2 (0, 0) 0 (lv_args 0 [.ref o, .ref f, .int x2]) [] (n, sh, Rf, I, L) post := by
  refine sRun_begin_0 o n sh Rf I L post f x2 l t hok hw hwf hl hwl ht hwt (y_realmStart hok hw hl hwl ht hwt hwf hj hz (fun I3 z3 => ⟨I3, L, rfl, rfl, ?_⟩))
  refine y_papersStart hok hw hl hwl ht hwt hwf hj z3 (fun I4 z4 p1 p2 p3 => ⟨I4, L, rfl, rfl, ?_⟩)
  refine sLoads_start_0 (o + 44) n sh Rf I4 L _ hok (wsRun_5 hw) (fun I5 e5 I6 e6 => ⟨I6, L, rfl, rfl, ?_⟩)
  have a6 : ∀ c, c ≠ o + 44 → I6 c = I4 c := fun c hc => by rw [← e6, q_u_ne hc, ← e5, q_u_ne hc]
  have z6 : C0 o J K I6 L := z4.upd a6 (by omega) (by omega) (by omega) (by omega)
  have l8 : I6 (o + 44) 8 = 0 := by rw [← e6, q_u_k (by decide), ← e5, q_u_at]
  have l9 : I6 (o + 44) 9 = 0 := by rw [← e6, q_u_at]
  refine l_fillL hok (fun _ _ => waRun_14 hw) (by omega) (fun L7 b7 v7 => ⟨I6, L7, rfl, rfl, ?_⟩)
  have z7 : C0 o J K I6 L7 := z6.updL b7 (by omega) (by omega)
  refine l_fill hok (fun _ _ => waRun_11 hw) (by omega) (fun I8 a8 _ => ⟨I8, L7, rfl, rfl, ?_⟩)
  have z8 : C0 o J K I8 L7 := z7.upd a8 (by omega) (by omega) (by omega) (by omega)
  have zz : CZ o J K I8 L7 := ⟨z8.1, z8.2.1, by rw [a8 _ (by omega), a6 _ (by omega)]; exact p1, by rw [a8 _ (by omega), a6 _ (by omega)]; exact p2, by rw [a8 _ (by omega), a6 _ (by omega)]; exact p3, by rw [a8 _ (by omega)]; exact l8, by rw [a8 _ (by omega)]; exact l9, z8.2.2, v7 0 (by omega), v7 2 (by omega), v7 8 (by omega), v7 9 (by omega)⟩
  refine sRun_begin_45 o n sh Rf I8 L7 post f x2 0 l t hok hw hwf hl hwl ht hwt ⟨fun _ => ?_, fun h => absurd (by rw [(zz.land hj).2.2.2.1]; decide) h⟩
  exact y_readDeaths hok hw hl hwl ht hwt hwf hj zz (fun I9 z9 => ⟨I9, L7, rfl, rfl, hp I9 L7 z9⟩)
theorem y_finish (hok : q_ok (qGG D cA b E)) (hw : WfRun (qGG D cA b E) n sh Rf o) (hl : Rf o 0 = some l) (hwl : WfLand (qGG D cA b E) n sh Rf l) (ht : Rf o 1 = some t) (hwt : WfTrade (qGG D cA b E) n sh Rf t) (hwf : WfFacts (qGG D cA b E) n sh Rf f) (hj : CJ J o l t f) (hz : CZ o J K I L) (hp : ∀ I' L', CZ o J K I' L' → post none (n, sh, Rf, I', L')) : Ev (qGG D cA b E) mRun_finish 3 (0, 0) 0 (lv_args 0 [.ref o]) [] (n, sh, Rf, I, L) post := by
  refine sRun_finish_0 o n sh Rf I L post hok hw (fun I1 e1 => ?_)
  have z1 : CZ o J K I1 L := hz.upd (fun c hc => by rw [← e1, q_u_ne hc]) (by omega) (by omega) (by omega) (by omega) (by omega) (by omega)
  refine y_tellMonth hok hw hl hwl ht hwt hwf hj z1 (fun I2 z2 _ => ⟨I2, L, rfl, rfl, ?_⟩)
  refine y_closeQueue hok hw z2 (fun I3 z3 _ => ⟨I3, L, rfl, rfl, fun L4 e4 L5 e5 L6 e6 I7 e7 => ?_⟩)
  have z7 : CZ o J K I7 L := z3.upd (fun c hc => by rw [← e7, q_u_ne hc]) (by omega) (by omega) (by omega) (by omega) (by omega) (by omega)
  obtain ⟨a1, a2, a3, a4, a5, a6, a7, a8, b1, b2, b3, b4⟩ := z7
  have q : ∀ k, k ≠ 6 → k ≠ 7 → k ≠ 10 → L6 (o + 65) k = L (o + 65) k := fun k c1 c2 c3 => by rw [← e6, q_u_k c3, ← e5, q_u_k c2, ← e4, q_u_k c1]
  refine hp I7 L6 ⟨a1, fun c hc => ?_, a3, a4, a5, a6, a7, a8, ?_, ?_, ?_, ?_⟩
  · rw [← e6, q_u_ne (by omega), ← e5, q_u_ne (by omega), ← e4, q_u_ne (by omega)]; exact a2 c hc
  · rw [q 0 (by decide) (by decide) (by decide)]; exact b1
  · rw [q 2 (by decide) (by decide) (by decide)]; exact b2
  · rw [q 8 (by decide) (by decide) (by decide)]; exact b3
  · rw [q 9 (by decide) (by decide) (by decide)]; exact b4
theorem y_play_37 (hok : q_ok (qGG D cA b E)) (hw : WfRun (qGG D cA b E) n sh Rf o) (hl : Rf o 0 = some l) (hwl : WfLand (qGG D cA b E) n sh Rf l) (ht : Rf o 1 = some t) (hwt : WfTrade (qGG D cA b E) n sh Rf t) (hwf : WfFacts (qGG D cA b E) n sh Rf f) (hj : CJ J o l t f) {r N : Nat} (hwr : WfReform (qGG D cA b E) n sh Rf r) (hN : N ≤ 240) {x6 : Int32} (hp : ∀ I' L', CZ o J K I' L' → post none (n, sh, Rf, I', L')) : ∀ (m k : Nat) (I : Nat → Nat → Int32) (L : Nat → Nat → Int64), k + m = N → I o 17 = nI k → CZ o J K I L → Ev (qGG D cA b E) mRun_play 6 (0, 0) 37 [(0, .ref o), (1, .ref l), (2, .ref t), (3, .ref r), (4, .ref f), (5, .int (nI N)), (6, .int x6)] [] (n, sh, Rf, I, L) post := by
  intro m
  induction m with
  | zero =>
    intro k I L hk h17 hz
    refine sRun_play_37 o n sh Rf I L post l t r f (nI N) x6 l hok hw hwl hwt hwr hwf hl hwl ⟨fun _ => ?_, fun h => absurd (by rw [h17]; exact (nI_leI (by omega) (by omega)).mpr (by omega)) h⟩
    exact y_finish hok hw hl hwl ht hwt hwf hj hz (fun I2 L2 z2 => ⟨I2, L2, rfl, rfl, hp I2 L2 z2⟩)
  | succ m ih =>
    intro k I L hk h17 hz
    refine sRun_play_37 o n sh Rf I L post l t r f (nI N) x6 l hok hw hwl hwt hwr hwf hl hwl ⟨fun h => absurd (by rw [h17] at h; exact (nI_leI (by omega) (by omega)).mp h) (by omega), fun _ => ?_⟩
    refine y_loseForged hok hw hz ⟨I, L, rfl, rfl, ?_⟩
    refine y_buryDead hok hw hl hwl ht hwt hwf hj hz ⟨I, L, rfl, rfl, ?_⟩
    refine y_makeSalt hok hw hl hwl ht hwt hwf hj hz ⟨I, L, rfl, rfl, ?_⟩
    refine y_tellMonth hok hw hl hwl ht hwt hwf hj hz (fun I2 z2 o2 => ⟨I2, L, rfl, rfl, ?_⟩)
    refine y_bringLoads hok hw z2 ⟨I2, L, rfl, rfl, ?_⟩
    refine y_drawPapers hok hw hl hwl ht hwt hwf hj z2 (fun I3 z3 o3 => ⟨I3, L, rfl, rfl, ?_⟩)
    refine y_eat hok hw hl hwl ht hwt hwf hj z3 ⟨0, I3, L, rfl, rfl, fun L4 e4 => ?_⟩
    have z4 : CZ o J K I3 L4 := by
      obtain ⟨a1, a2, a3, a4, a5, a6, a7, a8, b1, b2, b3, b4⟩ := z3
      refine ⟨a1, fun c hc => ?_, a3, a4, a5, a6, a7, a8, ?_, ?_, ?_, ?_⟩
      · rw [← e4, q_u_ne (by omega)]; exact a2 c hc
      · rw [← e4, q_u_at, b1]; decide
      · rw [← e4, q_u_k (by decide)]; exact b2
      · rw [← e4, q_u_k (by decide)]; exact b3
      · rw [← e4, q_u_k (by decide)]; exact b4
    refine y_use hok hw hl hwl ht hwt hwf hj z4 ⟨I3, L4, rfl, rfl, ?_⟩
    refine y_takeWays hok hw hl hwl ht hwt hwf hj z4 ⟨I3, L4, rfl, rfl, ?_⟩
    refine y_smuggleAll hok hw hl hwl ht hwt hwf hj z4 (fun I5 z5 o5 => ⟨I5, L4, rfl, rfl, ?_⟩)
    refine y_keepRealm hok hw hl hwl ht hwt hwf hj z5 ⟨I5, L4, rfl, rfl, fun I6 e6 => ?_⟩
    refine ih (k + 1) I6 L4 (by omega) ?_ (z5.upd (fun c hc => by rw [← e6, q_u_ne hc]) (by omega) (by omega) (by omega) (by omega) (by omega) (by omega))
    rw [← e6, q_u_at, o5, o3, o2 17 (by decide), h17]
    exact nI_1 k
theorem y_play_10 (hok : q_ok (qGG D cA b E)) (hw : WfRun (qGG D cA b E) n sh Rf o) (hl : Rf o 0 = some l) (hwl : WfLand (qGG D cA b E) n sh Rf l) (ht : Rf o 1 = some t) (hwt : WfTrade (qGG D cA b E) n sh Rf t) (hwf : WfFacts (qGG D cA b E) n sh Rf f) (hj : CJ J o l t f) {r N : Nat} (hwr : WfReform (qGG D cA b E) n sh Rf r) (hr : r + 5 ≤ o ∨ o + 66 ≤ r) (hzr : ZReform J r) (hN : N ≤ 240) {x6 : Int32} (h1 : ∀ a, (a < o ∨ o + 66 ≤ a) → I a = J a) (h2 : ∀ a, (a < o ∨ o + 66 ≤ a) → L a = K a) (hp : ∀ I' L', CZ o J K I' L' → post none (n, sh, Rf, I', L')) : Ev (qGG D cA b E) mRun_play 6 (0, 0) 10 [(0, .ref o), (1, .ref l), (2, .ref t), (3, .ref r), (4, .ref f), (5, .int (nI N)), (6, .int x6)] [] (n, sh, Rf, I, L) post := by
  refine sRun_play_10 o n sh Rf I L post l t r f (nI N) x6 l hok hw hwl hwt hwr hwf hl hwl (fun I1 e1 => ?_)
  refine y_copyFrom hok hw hwr hr hzr (fun a ha => by rw [← e1, q_u_ne (by omega)]; exact h1 a ha) h2 (fun I2 z2 => ⟨I2, L, rfl, rfl, ?_⟩)
  refine y_begin hok hw hl hwl ht hwt hwf hj z2 (fun I3 L3 z3 => ⟨I3, L3, rfl, rfl, fun I4 e4 => ?_⟩)
  exact y_play_37 hok hw hl hwl ht hwt hwf hj hwr hN hp N 0 I4 L3 (by omega) (by rw [← e4, q_u_at]; rfl) (z3.upd (fun c hc => by rw [← e4, q_u_ne hc]) (by omega) (by omega) (by omega) (by omega) (by omega) (by omega))
end CP
