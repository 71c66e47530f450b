/-! SaltOffice: run, judge, land, reform keep what holds: by program (spec.py). -/
section OJ
variable {D : va_G} {cA : FieldType → ClassId} {b : Nat} {kS vS : Nat → Nat} {xb xl : Nat} {xs : Nat → Int32} {R : qRg} {o n : Nat} {sh : Nat → qC} {Rf Rf' : Nat → Nat → Option Nat} {I I' : Nat → Nat → Int32} {L : Nat → Nat → Int64} {post : Option Value → qS → Prop}
/-- a RUN, from its call -/
theorem y_Run_play {E : State → Prop} {r l0 l t q f : Nat} {p5 p6 : Int32} (hok : q_ok (qGG D cA b E)) (hw : WfRun (qGG D cA b E) n sh Rf r) (ra : RARun R r) (hl0 : Rf r 0 = some l0) (hwl0 : WfLand (qGG D cA b E) n sh Rf l0) (hwl : WfLand (qGG D cA b E) n sh Rf l) (ral : RALand R l) (hwt : WfTrade (qGG D cA b E) n sh Rf t) (rat : RATrade R t) (hwr : WfReform (qGG D cA b E) n sh Rf q) (rar : RAReform R q) (hwf : WfFacts (qGG D cA b E) n sh Rf f) (raf : RAFacts R f) (hEN : qEN E) (hs : f + 7 ≤ r) (hN : (0 : Int) ≤ p5.toInt ∧ p5.toInt ≤ 240) (hfa : FacOK I f) (hR : RI R I) (hp : ∀ Rf' I' L', RfR r Rf Rf' → Rf' r 0 = some l → Rf' r 1 = some t → RI R I' → Fm (fun c => c = r ∨ (r + 19 ≤ c ∧ c < r + 66)) I I' → (I' (r + 31) 13).toInt ≤ (I' (r + 31) 12).toInt → LodOK I' (r + 44) → post none (n, sh, Rf', I', L')) : Ev (qGG D cA b E) mRun_play 6 (0, 0) 0 (lv_args 0 [.ref r, .ref l, .ref t, .ref q, .ref f, .int p5, .int p6]) [] (n, sh, Rf, I, L) post := by
  have hsh : sh r = .inr 7 := hw.1.2.2
  have e1 : RfR r Rf (q_u Rf r 0 (some l)) := RfR.u (by decide)
  have e2 : RfR r (q_u Rf r 0 (some l)) (q_u (q_u Rf r 0 (some l)) r 1 (some t)) := RfR.u (by decide)
  have e := e1.trans e2
  have q1 : q_u Rf r 0 (some l) r 0 = some l := q_u_at
  have q2 : q_u (q_u Rf r 0 (some l)) r 1 (some t) r 0 = some l := by rw [q_u_k (by decide)]; exact q1
  have q3 : q_u (q_u Rf r 0 (some l)) r 1 (some t) r 1 = some t := q_u_at
  refine sRun_play_0 r n sh Rf I L post l t q f p5 p6 l0 hok hw hwl hwt hwr hwf hl0 hwl0 ?_
  refine sRun_play_5 r n sh _ I L post l t q f p5 p6 l hok (wcRun hsh e1 hw) (wcLand hsh e1 hwl) (wcTrade hsh e1 hwt) (wcReform hsh e1 hwr) (wcFacts hsh e1 hwf) q1 (wcLand hsh e1 hwl) ?_
  exact y_Run_play_at10 hok (wcRun hsh e hw) ra (wcLand hsh e hwl) ral (wcTrade hsh e hwt) rat (wcReform hsh e hwr) rar (wcFacts hsh e hwf) raf (wcLand hsh e hwl) ral (wcTrade hsh e hwt) rat q2 q3 hEN hs hN hfa hR (fun I' L' r1 f1 u1 v1 => hp _ I' L' e q2 q3 r1 f1 u1 v1)
theorem y_shelf {E : State → Prop} {x : Int32} (hok : q_ok (qGG D cA b E)) (hw : WfOffice (qGG D cA b E) n sh Rf o) (hs : ∀ i, i < 4 → ∃ r, Rf (o + 40) i = some r ∧ ReOK (qGG D cA b E) R n sh Rf o r) (hn : post (some .null) (n, sh, Rf, I, L)) (hy : ∀ r, ReOK (qGG D cA b E) R n sh Rf o r → post (some (.ref r)) (n, sh, Rf, I, L)) : Ev (qGG D cA b E) mOffice_shelfAt 0 (0, 0) 0 (lv_args 0 [.ref o, .int x]) [] (n, sh, Rf, I, L) post := by
  refine sOffice_shelfAt_0 o n sh Rf I L post x hok hw ⟨fun _ => hn, fun h => ⟨fun h1 => ?_, fun _ => hn⟩⟩
  have h0 := iNlt h
  have h4 := iLt h1
  have z0 : (0 : Int32).toInt = 0 := rfl
  have z4 : (4 : Int32).toInt = 4 := rfl
  have cl := tCl (x := x) (by omega)
  obtain ⟨r, hr, wr⟩ := hs x.toNatClampNeg (by omega)
  exact ⟨tIn (by omega) (by omega), r, hr, wr.1, hy r wr⟩
theorem LaOK.rf {G : qG} {l : Nat} (h : LaOK G R n sh Rf o l) (hw : WfLand G n sh Rf l → WfLand G n sh Rf' l) : LaOK G R n sh Rf' o l := ⟨hw h.1, h.2⟩
theorem ReOK.rf {G : qG} {l : Nat} (h : ReOK G R n sh Rf o l) (hw : WfReform G n sh Rf l → WfReform G n sh Rf' l) : ReOK G R n sh Rf' o l := ⟨hw h.1, h.2⟩
theorem OI.play {G : qG} {r l : Nat} (hr : r = o + 55 ∨ r = o + 121) (h : OI G R n sh Rf I o) (er : RfR r Rf Rf') (wl : LaOK G R n sh Rf o l) (e0 : Rf' r 0 = some l) (e1 : Rf' r 1 = some (o + 46)) (hR : RI R I') (hf : Fm (fun c => c = r ∨ (r + 19 ≤ c ∧ c < r + 66)) I I') (qc : (I' (r + 31) 13).toInt ≤ (I' (r + 31) 12).toInt) (lo : LodOK I' (r + 44)) : OI G R n sh Rf' I' o := by
  obtain ⟨h1, h2, h3, ⟨l1, a1, b1⟩, ⟨l2, a2, b2⟩, ⟨r4, a4, b4⟩, h7, h8, h9, h10, h11⟩ := h
  have hs : sh r = .inr 7 := by rcases hr with rfl | rfl; exact (wsOffice_8 h1).1.2.2; exact (wsOffice_9 h1).1.2.2
  have qo : Rf' o = Rf o := er.1 o (by omega)
  have q40 : Rf' (o + 40) = Rf (o + 40) := er.1 (o + 40) (by omega)
  have other : ∀ s, (s = o + 55 ∨ s = o + 121) → s ≠ r → RuOK G R n sh Rf I o s → RuOK G R n sh Rf' I' o s := by
    intro s hs' hne ⟨⟨l, x1, x2, x3⟩, ⟨t, y1, y2, y3⟩, z1, z2⟩
    have qs : Rf' s = Rf s := er.1 s hne
    have k := (RuOK.fm (G := G) ⟨⟨l, x1, x2, x3⟩, ⟨t, y1, y2, y3⟩, z1, z2⟩ hf (fun c hc => by first | (dsimp only; omega) | omega))
    exact ⟨⟨l, by rw [qs]; exact x1, wcLand hs er x2, x3⟩, ⟨t, by rw [qs]; exact y1, wcTrade hs er y2, y3⟩, k.2.2.1, k.2.2.2⟩
  have mine : RuOK G R n sh Rf' I' o r := ⟨⟨l, e0, wcLand hs er wl.1, wl.2.1⟩, ⟨o + 46, e1, wcTrade hs er (wsOffice_5 h1), rsOffice_5 h2, Or.inr rfl⟩, qc, lo⟩
  refine ⟨wcOffice hs er h1, h2, hR, ⟨l1, by rw [qo]; exact a1, b1.rf (wcLand hs er)⟩, ⟨l2, by rw [qo]; exact a2, b2.rf (wcLand hs er)⟩, ⟨r4, by rw [qo]; exact a4, b4.rf (wcReform hs er)⟩, fun i hi => ?_, ?_, ?_, ?_, ?_⟩
  · obtain ⟨q, c1, c2⟩ := h7 i hi
    exact ⟨q, by rw [q40]; exact c1, c2.rf (wcReform hs er)⟩
  · rcases hr with rfl | rfl
    · exact mine
    · exact other _ (Or.inl rfl) (by omega) h8
  · rcases hr with rfl | rfl
    · exact other _ (Or.inr rfl) (by omega) h9
    · exact mine
  · exact h10.fr (hf _ (by first | (dsimp only; omega) | omega)) (hf _ (by first | (dsimp only; omega) | omega))
  · exact h11.fr (hf _ (by first | (dsimp only; omega) | omega)) (hf _ (by first | (dsimp only; omega) | omega)) (hf _ (by first | (dsimp only; omega) | omega)) (by rw [hf (o + 48) (by first | (dsimp only; omega) | omega)])
theorem yo_run {p1 p2 p3 : Int32} (h : OI (qGG D cA b (qEx b kS vS xb xl xs)) R n sh Rf I o) (hp : ∀ (r : Int32) (Rf' : Nat → Nat → Option Nat) (I' : Nat → Nat → Int32) (L' : Nat → Nat → Int64), OI (qGG D cA b (qEx b kS vS xb xl xs)) R n sh Rf' I' o → (∀ a, o + 207 ≤ a → Rf' a = Rf a ∧ I' a = I a) → post (some (.int r)) (n, sh, Rf', I', L')) : Ev (qGG D cA b (qEx b kS vS xb xl xs)) mOffice_run 7 (0, 0) 0 (lv_args 0 [.ref o, .int p1, .int p2, .int p3]) [] (n, sh, Rf, I, L) post := by
  obtain ⟨l, hl, wl⟩ := h.2.2.2.1
  obtain ⟨⟨ul, hul, wul, aul⟩, _⟩ := h.2.2.2.2.2.2.2.1
  have no : post (some (.int (-1))) (n, sh, Rf, I, L) := hp _ Rf I L h (fun a _ => ⟨rfl, rfl⟩)
  have hs : sh (o + 55) = .inr 7 := (wsOffice_8 h.1).1.2.2
  refine sOffice_run_0 o n sh Rf I L post p1 p2 p3 l qEx_ok h.1 hl wl.1 (y_shelf (R := R) qEx_ok h.1 h.2.2.2.2.2.2.1 ⟨I, L, rfl, Or.inl ⟨rfl, no⟩⟩ (fun r wr => ⟨I, L, rfl, Or.inr ⟨r, rfl, wr.1, fun _ => no, fun h1 => ⟨fun h2 => ?_, fun _ => no⟩⟩⟩))
  have hN : (0 : Int) ≤ p2.toInt ∧ p2.toInt ≤ 240 := ⟨iNlt h1, iLe h2⟩
  refine y_Run_play qEx_ok (wsOffice_8 h.1) (rsOffice_8 h.2.1) hul wul wl.1 wl.2.1 (wsOffice_5 h.1) (rsOffice_5 h.2.1) wr.1 wr.2.1 (wsOffice_6 h.1) (rsOffice_6 h.2.1) qEx_EN (by omega) hN h.2.2.2.2.2.2.2.2.2.2 h.2.2.1 (fun Rf' I' L' er e0 e1 hR hf qc lo => ⟨Rf', I', L', rfl, rfl, ?_⟩)
  have h' := h.play (Or.inl rfl) er wl e0 e1 hR hf qc lo
  refine sOffice_run_48 o n sh Rf' I' L' post p1 p2 p3 r l qEx_ok h'.1 (wcReform hs er wr.1) (by rw [er.1 o (by omega)]; exact hl) (wcLand hs er wl.1) ?_
  exact hp _ Rf' I' L' h' (fun a ha => ⟨er.1 a (by omega), hf a (by first | (dsimp only; omega) | omega)⟩)
theorem y_cmp {E : State → Prop} {p0 p2 : Int64} (hok : q_ok (qGG D cA b E)) (hR : RI R I) (hp : ∀ r : Int32, post (some (.int r)) (n, sh, Rf, I, L)) : Ev (qGG D cA b E) mLong_compare_74951 0 (0, 0) 0 (lv_args 0 [.long p0, .long p2]) [] (n, sh, Rf, I, L) post := y_Long_compare_74951 hok hR hp
theorem yo_judge {p1 p2 p3 p4 : Int32} (h : OI (qGG D cA b (qEx b kS vS xb xl xs)) R n sh Rf I o) (hp : ∀ (r : Int32) (Rf' : Nat → Nat → Option Nat) (I' : Nat → Nat → Int32) (L' : Nat → Nat → Int64), OI (qGG D cA b (qEx b kS vS xb xl xs)) R n sh Rf' I' o → (∀ a, o + 207 ≤ a → Rf' a = Rf a ∧ I' a = I a) → post (some (.int r)) (n, sh, Rf', I', L')) : Ev (qGG D cA b (qEx b kS vS xb xl xs)) mOffice_judge 7 (0, 0) 0 (lv_args 0 [.ref o, .int p1, .int p2, .int p3, .int p4]) [] (n, sh, Rf, I, L) post := by
  obtain ⟨l, hl, wl⟩ := h.2.2.2.1
  obtain ⟨⟨ul, hul, wul, aul⟩, _⟩ := h.2.2.2.2.2.2.2.2.1
  have no : post (some (.int (-1))) (n, sh, Rf, I, L) := hp _ Rf I L h (fun a _ => ⟨rfl, rfl⟩)
  have hs : sh (o + 121) = .inr 7 := (wsOffice_9 h.1).1.2.2
  have sh1 := h.2.2.2.2.2.2.1
  refine sOffice_judge_0 o n sh Rf I L post p1 p2 p3 p4 l qEx_ok h.1 hl wl.1 (y_shelf (R := R) qEx_ok h.1 sh1 ⟨I, L, rfl, Or.inl ⟨rfl, y_shelf (R := R) qEx_ok h.1 sh1 ⟨I, L, rfl, Or.inl ⟨rfl, no⟩⟩ (fun r wr => ⟨I, L, rfl, Or.inr ⟨r, rfl, wr.1, no⟩⟩)⟩⟩ (fun r wr => ⟨I, L, rfl, Or.inr ⟨r, rfl, wr.1, y_shelf (R := R) qEx_ok h.1 sh1 ⟨I, L, rfl, Or.inl ⟨rfl, no⟩⟩ (fun r2 wr2 => ⟨I, L, rfl, Or.inr ⟨r2, rfl, wr2.1, fun _ => no, fun h1 => ⟨fun h2 => ?_, fun _ => no⟩⟩⟩)⟩⟩))
  have hN : (0 : Int) ≤ p3.toInt ∧ p3.toInt ≤ 240 := ⟨iNlt h1, iLe h2⟩
  refine y_Run_play qEx_ok (wsOffice_9 h.1) (rsOffice_9 h.2.1) hul wul wl.1 wl.2.1 (wsOffice_5 h.1) (rsOffice_5 h.2.1) wr.1 wr.2.1 (wsOffice_6 h.1) (rsOffice_6 h.2.1) qEx_EN (by omega) hN h.2.2.2.2.2.2.2.2.2.2 h.2.2.1 (fun R1 I1 L1 er e0 e1 hR hf qc lo => ⟨R1, I1, L1, rfl, rfl, ?_⟩)
  have h' := h.play (Or.inr rfl) er wl e0 e1 hR hf qc lo
  have hl1 : R1 o 1 = some l := by rw [er.1 o (by omega)]; exact hl
  have wl1 : LaOK (qGG D cA b (qEx b kS vS xb xl xs)) R n sh R1 o l := wl.rf (wcLand hs er)
  refine sOffice_judge_61 o n sh R1 I1 L1 post p1 p2 p3 p4 r r2 l qEx_ok h'.1 (wcReform hs er wr.1) (wcReform hs er wr2.1) hl1 wl1.1 ?_
  unfold fOffice_judge_61
  refine y_Run_play qEx_ok (wsOffice_9 h'.1) (rsOffice_9 h'.2.1) e0 wl1.1 wl1.1 wl1.2.1 (wsOffice_5 h'.1) (rsOffice_5 h'.2.1) (wcReform hs er wr2.1) wr2.2.1 (wsOffice_6 h'.1) (rsOffice_6 h'.2.1) qEx_EN (by omega) hN h'.2.2.2.2.2.2.2.2.2.2 h'.2.2.1 (fun R2 I2 L2 er2 f0 f1 hR2 hf2 qc2 lo2 => ⟨R2, I2, L2, rfl, rfl, ?_⟩)
  have h2' := h'.play (Or.inr rfl) er2 wl1 f0 f1 hR2 hf2 qc2 lo2
  have fin : ∀ r L', post (some (.int r)) (n, sh, R2, I2, L') := fun r L' => hp r R2 I2 L' h2' (fun a ha => ⟨(er2.1 a (by omega)).trans (er.1 a (by omega)), (hf2 a (by first | (dsimp only; omega) | omega)).trans (hf a (by first | (dsimp only; omega) | omega))⟩)
  refine sOffice_judge_131 o n sh R2 I2 L2 post p1 p2 p3 p4 r r2 _ _ _ _ l qEx_ok h2'.1 (wcReform hs er2 (wcReform hs er wr.1)) (wcReform hs er2 (wcReform hs er wr2.1)) (by rw [er2.1 o (by omega)]; exact hl1) (wcLand hs er2 wl1.1) ?_
  unfold fOffice_judge_131
  have tail : ∀ (x7 x9 x11 x13 : Int64) (z : Int32) (L' : Nat → Nat → Int64), fOffice_judge_181 D cA b (qEx b kS vS xb xl xs) o n sh R2 I2 L' post p1 p2 p3 p4 r r2 x7 x9 x11 x13 z l := by
    intro x7 x9 x11 x13 z L'
    unfold fOffice_judge_181
    exact ⟨fun _ => ⟨fun _ => ⟨fun _ => fin _ _, fun _ => fin _ _⟩, fun _ => fin _ _⟩, fun _ => y_cmp (R := R) qEx_ok hR2 (fun z => ⟨z, I2, L', rfl, rfl, fun _ => ⟨fun _ => fin _ _, fun _ => fin _ _⟩, fun _ => fin _ _⟩)⟩
  refine y_cmp (R := R) qEx_ok hR2 (fun z => ⟨z, I2, L2, rfl, rfl, fun _ => tail _ _ _ _ _ _, fun _ => ?_⟩)
  exact y_Office_compareWaits (R := R) qEx_ok hR2 (fun z => ⟨z, I2, L2, rfl, rfl, tail _ _ _ _ _ _⟩)
/-- references of the Office's own, and of its shelves, that stay what they must be -/
theorem OI.own {G : qG} (h : OI G R n sh Rf I o) (e : Eo sh Rf Rf') (q : ∀ k, k ≠ 1 → k ≠ 2 → k ≠ 4 → Rf' o k = Rf o k) (k1 : ∃ l, Rf' o 1 = some l ∧ LaOK G R n sh Rf o l) (k2 : ∃ l, Rf' o 2 = some l ∧ LaOK G R n sh Rf o l) (k4 : ∃ r, Rf' o 4 = some r ∧ ReOK G R n sh Rf o r) (ks : ∀ i, i < 4 → ∃ r, Rf' (o + 40) i = some r ∧ ReOK G R n sh Rf o r) : OI G R n sh Rf' I o := by
  obtain ⟨h1, h2, h3, _, _, _, _, h8, h9, h10, h11⟩ := h
  obtain ⟨l1, a1, b1⟩ := k1
  obtain ⟨l2, a2, b2⟩ := k2
  obtain ⟨r4, a4, b4⟩ := k4
  have run : ∀ s, sh s = .inr 7 → RuOK G R n sh Rf I o s → RuOK G R n sh Rf' I o s := by
    intro s hs ⟨⟨l, x1, x2, x3⟩, ⟨t, y1, y2, y3⟩, z⟩
    have qs : Rf' s = Rf s := e s _ hs (by decide)
    exact ⟨⟨l, by rw [qs]; exact x1, wgLand e x2, x3⟩, ⟨t, by rw [qs]; exact y1, wgTrade e y2, y3⟩, z⟩
  refine ⟨wgOffice e q h1, h2, h3, ⟨l1, a1, b1.rf (wgLand e)⟩, ⟨l2, a2, b2.rf (wgLand e)⟩, ⟨r4, a4, b4.rf (wgReform e)⟩, fun i hi => ?_, run _ (wsOffice_8 h1).1.2.2 h8, run _ (wsOffice_9 h1).1.2.2 h9, h10, h11⟩
  obtain ⟨r, c1, c2⟩ := ks i hi
  exact ⟨r, c1, c2.rf (wgReform e)⟩
theorem yo_land (hz3 : R.2 3 = true) (h : OI (qGG D cA b (qEx b kS vS xb xl xs)) R n sh Rf I o) (hp : ∀ (r : Int32) (Rf' : Nat → Nat → Option Nat) (I' : Nat → Nat → Int32) (L' : Nat → Nat → Int64), OI (qGG D cA b (qEx b kS vS xb xl xs)) R n sh Rf' I' o → (∀ a, o + 207 ≤ a → Rf' a = Rf a ∧ I' a = I a) → post (some (.int r)) (n, sh, Rf', I', L')) : Ev (qGG D cA b (qEx b kS vS xb xl xs)) mOffice_land 11 (0, 0) 0 (lv_args 0 [.ref o]) [] (n, sh, Rf, I, L) post := by
  obtain ⟨l1, a1, b1⟩ := h.2.2.2.1
  obtain ⟨l2, a2, b2⟩ := h.2.2.2.2.1
  have hs : sh o = .inr 11 := h.1.1.2.2
  have z0 : (0 : Int32).toInt = 0 := rfl
  have lo2 := b2.2.2
  refine sOffice_land_0 o n sh Rf I L post l2 l1 qEx_ok h.1 a2 b2.1 a1 b1.1 (y_Land_read qEx_ok b2.1 b2.2.1 (wsOffice_0 h.1) (rsOffice_0 h.2.1) (by omega) h.2.2.2.2.2.2.2.2.2.1 h.2.2.1 (fun r I1 L1 hR1 hf1 _ tk1 => ⟨r, I1, L1, rfl, rfl, fun I2 e2 => ?_⟩))
  have hR2 : RI R I2 := hR1.up0 (rsOffice_0 h.2.1) (by decide) (Or.inr (by exact hz3)) e2 (show (0 : Int) ≤ (0 : Int32).toInt by omega) (show (0 : Int32).toInt ≤ (1600 : Int) by omega)
  have hf2 : Fm (fun c => (l2 ≤ c ∧ c < l2 + 16) ∨ (o + 1 ≤ c ∧ c < o + 1 + 7)) I I2 := hf1.set (by first | (dsimp only; omega) | omega) e2
  have tk2 : TokOK I2 (o + 1) := tk1.fr (by rw [← e2]; exact q_u_ne (by omega)) (by rw [← e2]; exact q_u_ne (by omega))
  have h2 : OI (qGG D cA b (qEx b kS vS xb xl xs)) R n sh Rf I2 o := h.fm hR2 hf2 (fun c hc => by first | (dsimp only; omega) | omega) tk2 (h.fac hf2 (fun c hc => by first | (dsimp only; omega) | omega))
  refine ⟨fun _ => ?_, fun _ => hp _ Rf I2 L1 h2 (fun a ha => ⟨rfl, hf2 a (by first | (dsimp only; omega) | omega)⟩)⟩
  have e1 : Eo sh Rf (q_u Rf o 1 (some l2)) := Eo.o hs
  have w1 := wgOffice e1 (fun k k1 _ _ => q_u_k k1) h.1
  have e2' : Eo sh (q_u Rf o 1 (some l2)) (q_u (q_u Rf o 1 (some l2)) o 2 (some l1)) := Eo.o hs
  have w2 := wgOffice e2' (fun k _ k2 _ => q_u_k k2) w1
  refine sOffice_land_39 o n sh _ I2 L1 post r l1 l2 l2 qEx_ok w1 (wgLand e1 b1.1) (by rw [q_u_k (by decide)]; exact a2) (wgLand e1 b2.1) q_u_at (wgLand e1 b2.1) ?_
  refine sOffice_land_44 o n sh _ I2 L1 post r l1 l1 l2 qEx_ok w2 (wgLand e2' (wgLand e1 b1.1)) q_u_at (wgLand e2' (wgLand e1 b1.1)) (by rw [q_u_k (by decide)]; exact q_u_at) (wgLand e2' (wgLand e1 b2.1)) (fun I3 e3 I4 e4 => ?_)
  have hR3 : RI R I3 := hR2.up0 (rsOffice_6 h.2.1) (by decide) (Or.inl rfl) e3 (show (0 : Int) ≤ (0 : Int32).toInt by omega) (show (0 : Int32).toInt ≤ (40 : Int) by omega)
  have hR4 : RI R I4 := hR3.up0 (rsOffice_8 h.2.1) (by decide) (Or.inl rfl) e4 (i_lo _) (i_hi _)
  have f4 : Fm (fun c => c = o + 48 ∨ c = o + 55) I2 I4 := ((Fm.rf (M := fun c => c = o + 48 ∨ c = o + 55)).set (Or.inl rfl) e3).set (Or.inr rfl) e4
  have fa : FacOK I4 (o + 48) := fun j hj => absurd hj (by
    have q : I4 (o + 48) 6 = 0 := by rw [← e4, q_u_ne (by omega), ← e3, q_u_at]
    rw [q]
    omega)
  have h3 : OI (qGG D cA b (qEx b kS vS xb xl xs)) R n sh (q_u (q_u Rf o 1 (some l2)) o 2 (some l1)) I2 o := h2.own (e1.trans e2') (fun k k1 k2 _ => by rw [q_u_k k2, q_u_k k1]) ⟨l2, by rw [q_u_k (by decide)]; exact q_u_at, b2⟩ ⟨l1, q_u_at, b1⟩ (by rw [q_u_k (by decide), q_u_k (by decide)]; exact h.2.2.2.2.2.1) (fun i hi => by rw [q_u_ne (show o + 40 ≠ o by omega), q_u_ne (show o + 40 ≠ o by omega)]; exact h.2.2.2.2.2.2.1 i hi)
  have h4 : OI (qGG D cA b (qEx b kS vS xb xl xs)) R n sh (q_u (q_u Rf o 1 (some l2)) o 2 (some l1)) I4 o := h3.fm hR4 f4 (fun c hc => by first | (dsimp only; omega) | omega) (h3.tok f4 (fun c hc => by first | (dsimp only; omega) | omega)) fa
  exact hp _ _ I4 L1 h4 (fun a ha => ⟨by rw [q_u_ne (by omega), q_u_ne (by omega)], (f4 a (by first | (dsimp only; omega) | omega)).trans (hf2 a (by first | (dsimp only; omega) | omega))⟩)
theorem yo_reform {p1 : Int32} (hz3 : R.2 3 = true) (h : OI (qGG D cA b (qEx b kS vS xb xl xs)) R n sh Rf I o) (hp : ∀ (r : Int32) (Rf' : Nat → Nat → Option Nat) (I' : Nat → Nat → Int32) (L' : Nat → Nat → Int64), OI (qGG D cA b (qEx b kS vS xb xl xs)) R n sh Rf' I' o → (∀ a, o + 207 ≤ a → Rf' a = Rf a ∧ I' a = I a) → post (some (.int r)) (n, sh, Rf', I', L')) : Ev (qGG D cA b (qEx b kS vS xb xl xs)) mOffice_reform 103 (0, 0) 0 (lv_args 0 [.ref o, .int p1]) [] (n, sh, Rf, I, L) post := by
  obtain ⟨r4, a4, b4⟩ := h.2.2.2.2.2.1
  have hs : sh o = .inr 11 := h.1.1.2.2
  have ha : sh (o + 40) = .inl (.object "SaltOffice$Reform", 4) := (waOffice_3 (I := I) (L := L) h.1).2.2
  have no : post (some (.int (-2))) (n, sh, Rf, I, L) := hp _ Rf I L h (fun a _ => ⟨rfl, rfl⟩)
  have z0 : (0 : Int32).toInt = 0 := rfl
  have z4 : (4 : Int32).toInt = 4 := rfl
  have pos := b4.2.2
  refine sOffice_reform_0 o n sh Rf I L post p1 r4 qEx_ok h.1 a4 b4.1 ⟨fun _ => no, fun h0 => ⟨fun _ => no, fun h1 => ⟨fun _ => ?_, fun _ => no⟩⟩⟩
  have g0 := iNlt h0
  have g1 := iNle h1
  have cl := tCl (x := p1) (by omega)
  have vin : vp_in p1 4 := tIn (by omega) (by omega)
  obtain ⟨rs, as, bs⟩ := h.2.2.2.2.2.2.1 p1.toNatClampNeg (by omega)
  refine y_Reform_read qEx_ok b4.1 b4.2.1 (wsOffice_0 h.1) (rsOffice_0 h.2.1) (by omega) h.2.2.2.2.2.2.2.2.2.1 h.2.2.1 (fun r I1 L1 hR1 hf1 _ tk1 => ⟨r, I1, L1, rfl, rfl, fun I2 e2 => ?_⟩)
  have hR2 : RI R I2 := hR1.up0 (rsOffice_0 h.2.1) (by decide) (Or.inr (by exact hz3)) e2 (show (0 : Int) ≤ (0 : Int32).toInt by omega) (show (0 : Int32).toInt ≤ (1600 : Int) by omega)
  have hf2 : Fm (fun c => (r4 ≤ c ∧ c < r4 + 5) ∨ (o + 1 ≤ c ∧ c < o + 1 + 7)) I I2 := hf1.set (by first | (dsimp only; omega) | omega) e2
  have tk2 : TokOK I2 (o + 1) := tk1.fr (by rw [← e2]; exact q_u_ne (by omega)) (by rw [← e2]; exact q_u_ne (by omega))
  have h2 : OI (qGG D cA b (qEx b kS vS xb xl xs)) R n sh Rf I2 o := h.fm hR2 hf2 (fun c hc => by first | (dsimp only; omega) | omega) tk2 (h.fac hf2 (fun c hc => by first | (dsimp only; omega) | omega))
  refine ⟨fun _ => ⟨vin, rs, as, bs.1, vin, ?_⟩, fun _ => hp _ Rf I2 L1 h2 (fun a ha => ⟨rfl, hf2 a (by first | (dsimp only; omega) | omega)⟩)⟩
  have e1 : Eo sh Rf (q_u Rf (o + 40) p1.toNatClampNeg (some r4)) := Eo.a ha
  have w1 := wgOffice e1 (fun k _ _ _ => by rw [q_u_ne (show o ≠ o + 40 by omega)]) h.1
  have e2' : Eo sh (q_u Rf (o + 40) p1.toNatClampNeg (some r4)) (q_u (q_u Rf (o + 40) p1.toNatClampNeg (some r4)) o 4 (some rs)) := Eo.o hs
  have w2 := wgOffice e2' (fun k _ _ k4 => q_u_k k4) w1
  refine sOffice_reform_77 o n sh _ I2 L1 post p1 r _ rs r4 qEx_ok w1 (wgReform e1 bs.1) (by rw [q_u_ne (show o ≠ o + 40 by omega)]; exact a4) (wgReform e1 b4.1) ?_
  refine sOffice_reform_83 o n sh _ I2 L1 post p1 r _ rs rs qEx_ok w2 (wgReform e2' (wgReform e1 bs.1)) q_u_at (wgReform e2' (wgReform e1 bs.1)) ?_
  have h3 : OI (qGG D cA b (qEx b kS vS xb xl xs)) R n sh (q_u (q_u Rf (o + 40) p1.toNatClampNeg (some r4)) o 4 (some rs)) I2 o := h2.own (e1.trans e2') (fun k k1 k2 k4 => by rw [q_u_k k4, q_u_ne (show o ≠ o + 40 by omega)]) (by rw [q_u_k (by decide), q_u_ne (show o ≠ o + 40 by omega)]; exact h.2.2.2.1) (by rw [q_u_k (by decide), q_u_ne (show o ≠ o + 40 by omega)]; exact h.2.2.2.2.1) ⟨rs, q_u_at, bs⟩ (fun i hi => by
    rw [q_u_ne (show o + 40 ≠ o by omega)]
    by_cases hi' : i = p1.toNatClampNeg
    · subst hi'; exact ⟨r4, q_u_at, b4⟩
    · rw [q_u_k hi']; exact h.2.2.2.2.2.2.1 i hi)
  exact hp _ _ I2 L1 h3 (fun a ha => ⟨by rw [q_u_ne (by omega), q_u_ne (by omega)], hf2 a (by first | (dsimp only; omega) | omega)⟩)
end OJ
