/-! new SaltOffice() with more known of Tape and Run: by program (fresh.py). -/
def qTapeS (G : qG) : qS → Nat → Prop := fun σ a => WfTape G σ.1 σ.2.1 σ.2.2.1 a ∧ σ.2.2.2.1 a = iFTape ∧ σ.2.2.2.1 (a + 3) = (fun _ => 0)
theorem qTapeS_loc {G : qG} : LocalP 7 (qTapeS G) := fun n sh Rf I L n' sh' Rf' I' L' a hn h p => ⟨wbTape hn (fun x x1 x2 => ⟨(h x x1 x2).1, (h x x1 x2).2.1⟩) p.1, ((h a (Nat.le_refl _) (by omega)).2.2.1).trans p.2.1, ((h (a + 3) (by omega) (by omega)).2.2.1).trans p.2.2⟩
/-- all that is known of a new Run -/
def qRunS (G : qG) : qS → Nat → Prop := fun σ a => WfRun G σ.1 σ.2.1 σ.2.2.1 a ∧ σ.2.2.1 a 0 = some (a + 1) ∧ σ.2.2.1 a 1 = some (a + 17) ∧ qLand G σ (a + 1) ∧ qTrade G σ (a + 17) ∧ qReform G σ (a + 19) ∧ qPapers G σ (a + 31) ∧ qLoads G σ (a + 44) ∧ qWay G σ (a + 58) ∧ σ.2.2.2.1 a = iFRun ∧ σ.2.2.2.1 (a + 64) = (fun _ => 0)
theorem qRunS_loc {G : qG} : LocalP 66 (qRunS G) := fun n sh Rf I L n' sh' Rf' I' L' a hn h p => by
  obtain ⟨w, r0, r1, l, t, r, pp, ld, wy, z, z64⟩ := p
  obtain ⟨a1, a2, a3, a4⟩ := h a (Nat.le_refl _) (by omega)
  refine ⟨wbRun hn (fun x x1 x2 => ⟨(h x x1 x2).1, (h x x1 x2).2.1⟩) w, ?_, ?_, qLand_loc _ _ _ _ _ _ _ _ _ _ _ hn (fun c c1 c2 => h c (by omega) (by omega)) l, qTrade_loc _ _ _ _ _ _ _ _ _ _ _ hn (fun c c1 c2 => h c (by omega) (by omega)) t, qReform_loc _ _ _ _ _ _ _ _ _ _ _ hn (fun c c1 c2 => h c (by omega) (by omega)) r, qPapers_loc _ _ _ _ _ _ _ _ _ _ _ hn (fun c c1 c2 => h c (by omega) (by omega)) pp, qLoads_loc _ _ _ _ _ _ _ _ _ _ _ hn (fun c c1 c2 => h c (by omega) (by omega)) ld, qWay_loc _ _ _ _ _ _ _ _ _ _ _ hn (fun c c1 c2 => h c (by omega) (by omega)) wy, a3.trans z, ((h (a + 64) (by omega) (by omega)).2.2.1).trans z64⟩
  · show Rf' a 0 = _; rw [a2]; exact r0
  · show Rf' a 1 = _; rw [a2]; exact r1
section KR
variable {D : va_G} {cA : FieldType → ClassId} {b : Nat} {E : State → Prop}
theorem OJ.runS {a n0 : Nat} {sh0 : Nat → qC} {Rf0 : Nat → Nat → Option Nat} {I0 : Nat → Nat → Int32} {L0 : Nat → Nat → Int64} {n' : Nat} {sh' : Nat → qC} {Rf' : Nat → Nat → Option Nat} {I' : Nat → Nat → Int32} {L' : Nat → Nat → Int64} (hP : OJ (qGG D cA b E) 7 (plRun (qGG D cA b E)) a n0 sh0 Rf0 I0 L0 iFRun iLRun 65 n' sh' Rf' I' L') : qRunS (qGG D cA b E) (n', sh', Rf', I', L') a := by
  have g0 : Rf' a 0 = some (a + 1) ∧ _ := ⟨(hP.2.2.2.2.2.2.1 _ (List.mem_of_getElem? (i := 14) rfl)).1, (hP.2.2.2.2.2.2.1 _ (List.mem_of_getElem? (i := 14) rfl)).2.2.2.2⟩
  have g1 : Rf' a 1 = some (a + 17) ∧ _ := ⟨(hP.2.2.2.2.2.2.1 _ (List.mem_of_getElem? (i := 13) rfl)).1, (hP.2.2.2.2.2.2.1 _ (List.mem_of_getElem? (i := 13) rfl)).2.2.2.2⟩
  have g2 : Rf' a 2 = some (a + 19) ∧ _ := ⟨(hP.2.2.2.2.2.2.1 _ (List.mem_of_getElem? (i := 12) rfl)).1, (hP.2.2.2.2.2.2.1 _ (List.mem_of_getElem? (i := 12) rfl)).2.2.2.2⟩
  have g3 : Rf' a 3 = some (a + 24) ∧ _ := ⟨(hP.2.2.2.2.2.2.1 _ (List.mem_of_getElem? (i := 11) rfl)).1, (hP.2.2.2.2.2.2.1 _ (List.mem_of_getElem? (i := 11) rfl)).2.2.2.2⟩
  have g4 : Rf' a 4 = some (a + 31) ∧ _ := ⟨(hP.2.2.2.2.2.2.1 _ (List.mem_of_getElem? (i := 10) rfl)).1, (hP.2.2.2.2.2.2.1 _ (List.mem_of_getElem? (i := 10) rfl)).2.2.2.2⟩
  have g5 : Rf' a 5 = some (a + 44) ∧ _ := ⟨(hP.2.2.2.2.2.2.1 _ (List.mem_of_getElem? (i := 9) rfl)).1, (hP.2.2.2.2.2.2.1 _ (List.mem_of_getElem? (i := 9) rfl)).2.2.2.2⟩
  have g6 : Rf' a 6 = some (a + 53) ∧ _ := ⟨(hP.2.2.2.2.2.2.1 _ (List.mem_of_getElem? (i := 8) rfl)).1, (hP.2.2.2.2.2.2.1 _ (List.mem_of_getElem? (i := 8) rfl)).2.2.2.2⟩
  have g7 : Rf' a 7 = some (a + 58) ∧ _ := ⟨(hP.2.2.2.2.2.2.1 _ (List.mem_of_getElem? (i := 7) rfl)).1, (hP.2.2.2.2.2.2.1 _ (List.mem_of_getElem? (i := 7) rfl)).2.2.2.2⟩
  have g8 : Rf' a 8 = some (a + 59) ∧ sh' (a + 59) = .inl (.int, 64) := ⟨(hP.2.2.2.2.2.2.1 _ (List.mem_of_getElem? (i := 6) rfl)).1, (hP.2.2.2.2.2.2.1 _ (List.mem_of_getElem? (i := 6) rfl)).2.2.2.2.1⟩
  have g9 : Rf' a 9 = some (a + 60) ∧ sh' (a + 60) = .inl (.int, 11) := ⟨(hP.2.2.2.2.2.2.1 _ (List.mem_of_getElem? (i := 5) rfl)).1, (hP.2.2.2.2.2.2.1 _ (List.mem_of_getElem? (i := 5) rfl)).2.2.2.2.1⟩
  have g10 : Rf' a 10 = some (a + 61) ∧ sh' (a + 61) = .inl (.long, 6) := ⟨(hP.2.2.2.2.2.2.1 _ (List.mem_of_getElem? (i := 4) rfl)).1, (hP.2.2.2.2.2.2.1 _ (List.mem_of_getElem? (i := 4) rfl)).2.2.2.2.1⟩
  have g11 : Rf' a 11 = some (a + 62) ∧ sh' (a + 62) = .inl (.int, 18) := ⟨(hP.2.2.2.2.2.2.1 _ (List.mem_of_getElem? (i := 3) rfl)).1, (hP.2.2.2.2.2.2.1 _ (List.mem_of_getElem? (i := 3) rfl)).2.2.2.2.1⟩
  have g12 : Rf' a 12 = some (a + 63) ∧ sh' (a + 63) = .inl (.int, 6) := ⟨(hP.2.2.2.2.2.2.1 _ (List.mem_of_getElem? (i := 2) rfl)).1, (hP.2.2.2.2.2.2.1 _ (List.mem_of_getElem? (i := 2) rfl)).2.2.2.2.1⟩
  have g13 : Rf' a 13 = some (a + 64) ∧ sh' (a + 64) = .inl (.int, 6) := ⟨(hP.2.2.2.2.2.2.1 _ (List.mem_of_getElem? (i := 1) rfl)).1, (hP.2.2.2.2.2.2.1 _ (List.mem_of_getElem? (i := 1) rfl)).2.2.2.2.1⟩
  have g14 : Rf' a 14 = some (a + 65) ∧ sh' (a + 65) = .inl (.long, 11) := ⟨(hP.2.2.2.2.2.2.1 _ (List.mem_of_getElem? (i := 0) rfl)).1, (hP.2.2.2.2.2.2.1 _ (List.mem_of_getElem? (i := 0) rfl)).2.2.2.2.1⟩
  obtain ⟨p1, p2, p3, p4, p5, p6, p7, p8⟩ := hP
  refine ⟨⟨⟨p2, by show a + 65 < b + n'; have q : a + 1 = b + n0 := p3; omega, p4⟩, fun x hx => ?_, ⟨g2.1, g2.2.1⟩, ⟨g3.1, g3.2.1⟩, ⟨g4.1, g4.2.1⟩, ⟨g5.1, g5.2.1⟩, ⟨g6.1, g6.2.1⟩, ⟨g7.1, g7.2.1⟩⟩, g0.1, g1.1, g0.2, g1.2, g2.2, g4.2, g5.2, g7.2, p5, (p7 _ (List.mem_of_getElem? (i := 1) rfl)).2.2.2.2.2.1⟩
  simp only [wlRun, List.mem_cons, List.not_mem_nil, or_false] at hx
  rcases hx with rfl | rfl | rfl | rfl | rfl | rfl | rfl
  · exact g8
  · exact g9
  · exact g10
  · exact g11
  · exact g12
  · exact g13
  · exact g14
theorem kRunS (hok : q_ok (qGG D cA b E)) (hEN : qEN E) (n : Nat) (sh : Nat → qC) (Rf : Nat → Nat → Option Nat) (I : Nat → Nat → Int32) (L : Nat → Nat → Int64) (a : Nat) (post' : Option Value → qS → Prop) (hb : b ≤ a) (hn : a + 1 = b + n) (hs : sh a = .inr 7) (hI : I a = fun _ => 0) (hL : L a = fun _ => 0) (hp : ∀ n' sh' Rf' I' L', n' + 1 = n + 66 → qRunS (qGG D cA b E) (n', sh', Rf', I', L') a → Bel a sh sh' Rf Rf' I I' L L' → post' none (n', sh', Rf', I', L')) : Ev (qGG D cA b E) mRun_init 3 (65, 51099) 0 (lv_args 0 [.ref a]) [] (n, sh, Rf, I, L) post' :=
  iRun_rows (n0 := n) (sh0 := sh) (Rf0 := Rf) (I0 := I) (L0 := L) hok hEN ⟨rfl, hb, hn, hs, hI, hL, fun p hp => absurd hp List.not_mem_nil, fun _ _ => ⟨rfl, rfl, rfl, rfl⟩⟩ (fun n' sh' Rf' I' L' hP => hp n' sh' Rf' I' L' (by have := hP.1; omega) hP.runS hP.2.2.2.2.2.2.2)
end KR
def plOfficeS (G : qG) : List (Nat × Nat × Nat × (qS → Nat → Prop)) := [(121, 9, 66, qRunS G), (55, 8, 66, qRunS G), (48, 6, 7, qFacts G), (46, 5, 2, qTrade G), (41, 4, 5, qReform G), (40, 3, 1, shQ "SaltOffice$Reform" 4), (24, 2, 16, qLand G), (8, 1, 16, qLand G), (1, 0, 7, qTapeS G)]
section IOffice
variable {D : va_G} {cA : FieldType → ClassId} {b : Nat} {E : State → Prop} {o n0 : Nat} {sh0 : Nat → qC} {Rf0 : Nat → Nat → Option Nat} {I0 : Nat → Nat → Int32} {L0 : Nat → Nat → Int64} {post : Option Value → qS → Prop} {n : Nat} {sh : Nat → qC} {Rf : Nat → Nat → Option Nat} {I : Nat → Nat → Int32} {L : Nat → Nat → Int64}
set_option maxHeartbeats 40000000 in
set_option maxRecDepth 20000 in
theorem iOffice_rowsS (hok : q_ok (qGG D cA b E)) (hEN : qEN E) (hAO : ∀ s : State, E s → va_AO "SaltOffice$Reform" s) (hT : ∀ (n : Nat) (sh : Nat → qC) (Rf : Nat → Nat → Option Nat) (I : Nat → Nat → Int32) (L : Nat → Nat → Int64) (a : Nat) (post' : Option Value → qS → Prop), b ≤ a → a + 1 = b + n → sh a = .inr 8 → (I a = fun _ => 0) → (L a = fun _ => 0) → (∀ n' sh' Rf' I' L', n' + 1 = n + 7 → qTapeS (qGG D cA b E) (n', sh', Rf', I', L') a → Bel a sh sh' Rf Rf' I I' L L' → post' none (n', sh', Rf', I', L')) → Ev (qGG D cA b E) mTape_init 6 (6, 8036) 0 (lv_args 0 [.ref a]) [] (n, sh, Rf, I, L) post') (hP : OJ (qGG D cA b E) 11 [] o n0 sh0 Rf0 I0 L0 (fun _ => 0) (fun _ => 0) 0 n sh Rf I L) (kk : ∀ n sh Rf I L, OJ (qGG D cA b E) 11 (plOfficeS (qGG D cA b E)) o n0 sh0 Rf0 I0 L0 iFOffice (fun _ => 0) 186 n sh Rf I L → Ev (qGG D cA b E) mOffice_init 7 (20, 3324) 105 [(0, .ref o)] [] (n, sh, Rf, I, L) post) : Ev (qGG D cA b E) mOffice_init 7 (206, 115470) 0 (lv_args 0 [.ref o]) [] (n, sh, Rf, I, L) post := by
  refine ev_aload_n dOffice_init_0 rfl ?_
  refine ev_obj (by decide) (q_t1 28 (by decide +kernel) rfl) (q_t1 29 (by decide +kernel) rfl) (q_t1 30 rfl rfl) (Nat.le_of_ble_eq_true rfl) dOffice_init_1 ?_
  refine ev_aload_n dOffice_init_4 rfl ?_
  refine ev_mkQ (B' := (6, 8036)) (B'' := (199, 107423)) (q := (qR8, qT8, 11)) (P := qTapeS (qGG D cA b E)) hok hP (by simp) (k := 0) (size := 7) (by decide) qTapeS_loc (rfl : qcl[8]? = _) (q_t1 31 (by decide +kernel) rfl) (q_t1 32 (by decide +kernel) rfl) (q_t1 2 (by decide +kernel) rfl) hdfTape dOffice_init_5 dOffice_init_8 dOffice_init_9 mmTape_init mk_Office_11 (fun _ => Nat.le_of_ble_eq_true rfl) rfl (by decide) hT (fun n sh Rf I L x ho kk => ev_putFR hok fk_Office_12 rfl ciOffice ho (fun _ _ _ => rfl) rfl rfl dOffice_init_12 kk) (fun n sh Rf I L hP => ?_)
  refine ev_aload_n dOffice_init_15 rfl ?_
  refine ev_mkQ (B' := (15, 363)) (B'' := (183, 107040)) (q := (qR1, qT1, 20)) (P := qLand (qGG D cA b E)) hok hP (by simp) (k := 1) (size := 16) (by decide) qLand_loc (rfl : qcl[1]? = _) (q_t1 134 (by decide +kernel) rfl) (q_t1 135 (by decide +kernel) rfl) (q_t1 7 (by decide +kernel) rfl) hdfLand dOffice_init_16 dOffice_init_19 dOffice_init_20 mmLand_init mk_Office_18 (fun _ => Nat.le_of_ble_eq_true rfl) rfl (by decide) (kLand hok) (fun n sh Rf I L x ho kk => ev_putR hok fk_Office_19 ho (fun _ _ _ => rfl) rfl rfl dOffice_init_23 kk) (fun n sh Rf I L hP => ?_)
  refine ev_aload_n dOffice_init_26 rfl ?_
  refine ev_mkQ (B' := (15, 363)) (B'' := (167, 106657)) (q := (qR1, qT1, 20)) (P := qLand (qGG D cA b E)) hok hP (by simp) (k := 2) (size := 16) (by decide) qLand_loc (rfl : qcl[1]? = _) (q_t1 134 (by decide +kernel) rfl) (q_t1 135 (by decide +kernel) rfl) (q_t1 7 (by decide +kernel) rfl) hdfLand dOffice_init_27 dOffice_init_30 dOffice_init_31 mmLand_init mk_Office_18 (fun _ => Nat.le_of_ble_eq_true rfl) rfl (by decide) (kLand hok) (fun n sh Rf I L x ho kk => ev_putR hok fk_Office_23 ho (fun _ _ _ => rfl) rfl rfl dOffice_init_34 kk) (fun n sh Rf I L hP => ?_)
  refine ev_aload_n dOffice_init_37 rfl ?_
  refine ev_iconst (4) dOffice_init_38 (by decide) ?_
  refine ev_anO (kc := 166) (ks := 106653) (k := 3) (w := 4) (C := "SaltOffice$Reform") hP (by simp) (show FieldType.object "SaltOffice$Reform" ∈ qtl by decide) hAO (q_t1 238 (by decide +kernel) rfl) (by decide) (by decide) (by decide) dOffice_init_39 (fun n sh Rf I L x ho kk => ev_putFR hok fk_Office_28 rfl ciOffice ho (fun _ _ _ => rfl) rfl rfl dOffice_init_42 kk) (fun n sh Rf I L hP => ?_)
  refine ev_aload_n dOffice_init_45 rfl ?_
  refine ev_mkP (B' := (4, 822)) (B'' := (161, 105822)) (q := (qR6, qT6, 9)) (P := qReform (qGG D cA b E)) hok hP (by simp) (k := 4) (size := 5) (by decide) qReform_loc (rfl : qcl[6]? = _) (q_t1 238 (by decide +kernel) rfl) (q_t2 0 (by decide +kernel) rfl) (q_t1 9 (by decide +kernel) rfl) hdfReform dOffice_init_46 dOffice_init_49 dOffice_init_50 mmReform_init (nk_Office_32 hEN) (fun _ => Nat.le_of_ble_eq_true rfl) rfl (by decide) (kReform hok) (fun n sh Rf I L x ho kk => ev_putR hok fk_Office_33 ho (fun _ _ _ => rfl) rfl rfl dOffice_init_53 kk) (fun n sh Rf I L hP => ?_)
  refine ev_aload_n dOffice_init_56 rfl ?_
  refine ev_mkP (B' := (1, 6)) (B'' := (159, 105809)) (q := (qR9, qT9, 7)) (P := qTrade (qGG D cA b E)) hok hP (by simp) (k := 5) (size := 2) (by decide) qTrade_loc (rfl : qcl[9]? = _) (q_t2 35 (by decide +kernel) rfl) (q_t2 36 (by decide +kernel) rfl) (q_t1 10 (by decide +kernel) rfl) hdfTrade dOffice_init_57 dOffice_init_60 dOffice_init_61 mmTrade_init (nk_Office_39 hEN) (fun _ => Nat.le_of_ble_eq_true rfl) rfl (by decide) (kTrade hok) (fun n sh Rf I L x ho kk => ev_putFR hok fk_Office_40 rfl ciOffice ho (fun _ _ _ => rfl) rfl rfl dOffice_init_64 kk) (fun n sh Rf I L hP => ?_)
  refine ev_aload_n dOffice_init_67 rfl ?_
  refine ev_mkP (B' := (6, 240)) (B'' := (152, 105562)) (q := (qR0, qT0, 7)) (P := qFacts (qGG D cA b E)) hok hP (by simp) (k := 6) (size := 7) (by decide) qFacts_loc (rfl : qcl[0]? = _) (q_t2 79 (by decide +kernel) rfl) (q_t2 80 (by decide +kernel) rfl) (q_t1 11 (by decide +kernel) rfl) hdfFacts dOffice_init_68 dOffice_init_71 dOffice_init_72 mmFacts_init (nk_Office_46 hEN) (fun _ => Nat.le_of_ble_eq_true rfl) rfl (by decide) (kFacts hok) (fun n sh Rf I L x ho kk => ev_putFR hok fk_Office_47 rfl ciOffice ho (fun _ _ _ => rfl) rfl rfl dOffice_init_75 kk) (fun n sh Rf I L hP => ?_)
  refine ev_aload_n dOffice_init_78 rfl ?_
  refine ev_iconst (0) dOffice_init_79 (by decide) ?_
  refine ev_putI hok fk_Office_51 hP.own (fun _ _ _ => rfl) rfl rfl dOffice_init_80 ?_
  have hP := hP.setI (k := 7) (x := (0))
  refine ev_aload_n dOffice_init_83 rfl ?_
  refine ev_mkP (B' := (65, 51099)) (B'' := (86, 54443)) (q := (qR7, qT7, 20)) (P := qRunS (qGG D cA b E)) hok hP (by simp) (k := 8) (size := 66) (by decide) qRunS_loc (rfl : qcl[7]? = _) (q_t2 116 (by decide +kernel) rfl) (q_t2 117 (by decide +kernel) rfl) (q_t1 12 (by decide +kernel) rfl) hdfRun dOffice_init_84 dOffice_init_87 dOffice_init_88 mmRun_init (nk_Office_57 hEN) (fun _ => Nat.le_of_ble_eq_true rfl) rfl (by decide) (kRunS hok hEN) (fun n sh Rf I L x ho kk => ev_putFR hok fk_Office_58 rfl ciOffice ho (fun _ _ _ => rfl) rfl rfl dOffice_init_91 kk) (fun n sh Rf I L hP => ?_)
  refine ev_aload_n dOffice_init_94 rfl ?_
  refine ev_mkP (B' := (65, 51099)) (B'' := (20, 3324)) (q := (qR7, qT7, 20)) (P := qRunS (qGG D cA b E)) hok hP (by simp) (k := 9) (size := 66) (by decide) qRunS_loc (rfl : qcl[7]? = _) (q_t2 116 (by decide +kernel) rfl) (q_t2 117 (by decide +kernel) rfl) (q_t1 12 (by decide +kernel) rfl) hdfRun dOffice_init_95 dOffice_init_98 dOffice_init_99 mmRun_init (nk_Office_57 hEN) (fun _ => Nat.le_of_ble_eq_true rfl) rfl (by decide) (kRunS hok hEN) (fun n sh Rf I L x ho kk => ev_putFR hok fk_Office_62 rfl ciOffice ho (fun _ _ _ => rfl) rfl rfl dOffice_init_102 kk) (fun n sh Rf I L hP => ?_)
  exact kk _ _ _ _ _ hP
end IOffice
def LIS (G : qG) (o n0 : Nat) (sh0 : Nat → qC) (Rf0 : Nat → Nat → Option Nat) (I0 : Nat → Nat → Int32) (L0 : Nat → Nat → Int64) (i n : Nat) (sh : Nat → qC) (Rf : Nat → Nat → Option Nat) (I : Nat → Nat → Int32) (L : Nat → Nat → Int64) : Prop :=
  OJ G 11 (plOfficeS G) o n0 sh0 Rf0 I0 L0 iFOffice (fun _ => 0) (186 + 5 * i) n sh Rf I L ∧ ∀ j, j < i → Rf (o + 40) j = some (o + 187 + 5 * j) ∧ qReform G (n, sh, Rf, I, L) (o + 187 + 5 * j)
theorem plOffice_40S {G : qG} : ∀ p ∈ plOfficeS G, (p.1 = 40 ∧ ∃ C w, p.2.2.2 = shQ C w) ∨ p.1 + p.2.2.1 ≤ 40 ∨ 40 < p.1 := by
  intro p hp
  simp only [plOfficeS, List.mem_cons, List.not_mem_nil, or_false] at hp
  rcases hp with rfl | rfl | rfl | rfl | rfl | rfl | rfl | rfl | rfl
  · exact Or.inr (Or.inr (Nat.le_of_ble_eq_true rfl))
  · exact Or.inr (Or.inr (Nat.le_of_ble_eq_true rfl))
  · exact Or.inr (Or.inr (Nat.le_of_ble_eq_true rfl))
  · exact Or.inr (Or.inr (Nat.le_of_ble_eq_true rfl))
  · exact Or.inr (Or.inr (Nat.le_of_ble_eq_true rfl))
  · exact Or.inl ⟨rfl, _, _, rfl⟩
  · exact Or.inr (Or.inl (Nat.le_of_ble_eq_true rfl))
  · exact Or.inr (Or.inl (Nat.le_of_ble_eq_true rfl))
  · exact Or.inr (Or.inl (Nat.le_of_ble_eq_true rfl))
section LO
variable {D : va_G} {cA : FieldType → ClassId} {b : Nat} {E : State → Prop} {o n0 : Nat} {sh0 : Nat → qC} {Rf0 : Nat → Nat → Option Nat} {I0 : Nat → Nat → Int32} {L0 : Nat → Nat → Int64} {post : Option Value → qS → Prop}
theorem iOffice_107S (hok : q_ok (qGG D cA b E)) (hEN : qEN E) (kk : ∀ n sh Rf I L, LIS (qGG D cA b E) o n0 sh0 Rf0 I0 L0 4 n sh Rf I L → post none (n, sh, Rf, I, L)) : ∀ m k, k + m = 4 → ∀ n sh Rf I L, LIS (qGG D cA b E) o n0 sh0 Rf0 I0 L0 k n sh Rf I L → Ev (qGG D cA b E) mOffice_init 7 (5 * m, 831 * m) 107 [(0, .ref o), (1, .int (nI k))] [] (n, sh, Rf, I, L) post := by
  intro m
  induction m with
  | zero =>
    intro k hk n sh Rf I L hL
    have e : k = 4 := by omega
    subst e
    refine ev_iload_n dOffice_init_107 rfl ?_
    refine ev_iconst (4) dOffice_init_108 (by decide) ?_
    refine ev_icmp_ge 131 dOffice_init_109 (by decide) (fun _ => ?_) (fun h => absurd (by decide) h)
    exact ev_vret rfl dOffice_init_131 (kk _ _ _ _ _ hL)
  | succ m ih =>
    intro k hk n sh Rf I L hL
    obtain ⟨hP, hR⟩ := hL
    obtain ⟨p1, p2, p3, p4, p5, p6, p7, p8⟩ := id hP
    have q3 : o + 1 = b + n0 := p3
    have hn : b + n = o + 187 + 5 * k := by omega
    have r40 := p7 (40, 3, 1, shQ "SaltOffice$Reform" 4) (List.mem_of_getElem? (i := 5) rfl)
    have s40 : sh (o + 40) = .inl (.object "SaltOffice$Reform", 4) := r40.2.2.2.2
    refine ev_iload_n dOffice_init_107 rfl ?_
    refine ev_iconst (4) dOffice_init_108 (by decide) ?_
    refine ev_icmp_ge 131 dOffice_init_109 (by decide) (fun h => absurd ((nI_leI (a := 4) (by omega) (by omega)).mp h) (by omega)) (fun _ => ?_)
    refine ev_aload_n dOffice_init_112 rfl ?_
    refine ev_getR hok fk_Office_28 hP.own (fun _ _ _ => rfl) r40.1 dOffice_init_113 ?_
    refine ev_iload_n dOffice_init_116 rfl ?_
    have eb : (5 * (m + 1), 831 * (m + 1)) = ((4, 822).1 + (5 * m, 831 * m).1 + 1, (4, 822).2 + (5 * m, 831 * m).2 + 9) := by
      show (5 * (m + 1), 831 * (m + 1)) = (4 + 5 * m + 1, 822 + 831 * m + 9)
      rw [show 5 * (m + 1) = 4 + 5 * m + 1 by omega, show 831 * (m + 1) = 822 + 831 * m + 9 by omega]
    rw [eb]
    refine ev_new (kc := (4, 822).1 + (5 * m, 831 * m).1) (ks := (4, 822).2 + (5 * m, 831 * m).2) (q := (qR6, qT6, 9)) hok (rfl : qcl[6]? = _) (q_t1 238 (by decide +kernel) rfl) (q_t2 0 (by decide +kernel) rfl) (q_t1 9 (by decide +kernel) rfl) hdfReform dOffice_init_117 ?_
    refine ev_dup dOffice_init_120 rfl ?_
    refine ev_ncallI (d' := 1) (a := b + n) (B' := (4, 822)) (B'' := (5 * m, 831 * m)) (post' := fun v τ => v = none ∧ ∃ n' sh' Rf' I' L', τ = (n', sh', Rf', I', L') ∧ n' + 1 = n + 1 + 5 ∧ qReform (qGG D cA b E) (n', sh', Rf', I', L') (b + n) ∧ Bel (b + n) (q_c sh (b + n) (.inr 6)) sh' (q_z Rf (b + n) none) Rf' (q_z I (b + n) 0) I' (q_z L (b + n) 0) L') [] [.ref (b + n), .int (nI k), .ref (o + 40)] hok mmReform_init (nk_Office_32 hEN) rfl (Nat.le_of_ble_eq_true rfl) rfl rfl (by show 3 ≤ 8; decide) dOffice_init_121 rfl (by decide) ?_ ?_
    · exact kReform hok _ _ _ _ _ (b + n) _ (by omega) (by omega) q_c_at q_z_at q_z_at (fun n' sh' Rf' I' L' e w bl => ⟨rfl, n', sh', Rf', I', L', rfl, e, w, bl⟩)
    · rintro v τ ⟨rfl, n', sh', Rf', I', L', rfl, e, w, bl⟩
      have bl2 : ∀ c, c < b + n → sh' c = sh c ∧ Rf' c = Rf c ∧ I' c = I c ∧ L' c = L c := fun c hc2 => by
        obtain ⟨b1, b2, b3, b4⟩ := bl c hc2
        rw [q_c_ne (by omega)] at b1; rw [q_z_ne (by omega)] at b2 b3 b4
        exact ⟨b1, b2, b3, b4⟩
      obtain ⟨o1, o2, o3, o4⟩ := bl2 o (by omega)
      have a40 : q_in (qGG D cA b E) (n', sh', Rf', I', L') (o + 40) (.inl (.object "SaltOffice$Reform", 4)) := ⟨Nat.le_trans p2 (by omega), by show o + 40 < b + n'; omega, (bl2 (o + 40) (by omega)).1.trans s40⟩
      have v4 : vp_in (nI k) 4 := vp_in_nI (by omega) (by omega)
      refine ev_aast (ci := 6) rfl (show FieldType.object "SaltOffice$Reform" ∈ qtl by decide) a40 (woReform w.1) v4 dOffice_init_124 ?_
      rw [nI_clamp (show k < 2 ^ 31 by omega)]
      refine ev_iinc dOffice_init_125 rfl (by decide) ?_
      refine ev_goto 107 dOffice_init_128 (by decide) ?_
      refine ev_sub [(0, .ref o), (1, .int (nI k + Int32.ofInt 1))] rfl ?_
      rw [nI_inc]
      refine ih (k + 1) (by omega) _ _ _ _ _ ⟨⟨by omega, p2, p3, o1.trans p4, o3.trans p5, o4.trans p6, fun p hp => ?_, fun a ha => ?_⟩, fun j hj => ?_⟩
      · obtain ⟨r1, r2, r3, r4, r5⟩ := p7 p hp
        refine ⟨by rw [q_u_ne (by omega), o2]; exact r1, by omega, r3, r4, ?_⟩
        rcases plOffice_40S p hp with ⟨e1, C, w2, e2⟩ | h40
        · rw [e2] at r5 ⊢
          have r5 : sh (o + p.1) = .inl (.object C, w2) := r5
          show sh' (o + p.1) = _
          rw [(bl2 (o + p.1) (by omega)).1]; exact r5
        · refine r4 _ _ _ _ _ _ _ _ _ _ _ (by omega) (fun c c1 c2 => ?_) r5
          obtain ⟨s1, s2, s3, s4⟩ := bl2 c (by omega)
          exact ⟨s1, by rw [q_u_ne (by omega)]; exact s2, s3, s4⟩
      · obtain ⟨s1, s2, s3, s4⟩ := bl2 a (by omega)
        obtain ⟨t1, t2, t3, t4⟩ := p8 a ha
        exact ⟨s1.trans t1, by rw [q_u_ne (by omega)]; exact s2.trans t2, s3.trans t3, s4.trans t4⟩
      · by_cases hjk : j = k
        · subst hjk
          refine ⟨by rw [q_u_at, hn], ?_⟩
          rw [← hn]
          exact qReform_loc _ _ _ _ _ _ _ _ _ _ _ (Nat.le_refl _) (fun c c1 c2 => ⟨rfl, q_u_ne (by omega), rfl, rfl⟩) w
        · obtain ⟨u1, u2⟩ := hR j (by omega)
          refine ⟨by rw [q_u_k hjk, (bl2 (o + 40) (by omega)).2.1]; exact u1, ?_⟩
          refine qReform_loc _ _ _ _ _ _ _ _ _ _ _ (by omega) (fun c c1 c2 => ?_) u2
          obtain ⟨s1, s2, s3, s4⟩ := bl2 c (by omega)
          exact ⟨s1, by rw [q_u_ne (by omega)]; exact s2, s3, s4⟩
end LO
section NO
variable {D : va_G} {cA : FieldType → ClassId} {b : Nat} {E : State → Prop} {o n0 : Nat} {sh0 : Nat → qC} {Rf0 : Nat → Nat → Option Nat} {I0 : Nat → Nat → Int32} {L0 : Nat → Nat → Int64} {post : Option Value → qS → Prop} {n : Nat} {sh : Nat → qC} {Rf : Nat → Nat → Option Nat} {I : Nat → Nat → Int32} {L : Nat → Nat → Int64}
/-- a fresh Office, and what its ints are -/
def FO (G : qG) (n : Nat) (sh : Nat → qC) (Rf : Nat → Nat → Option Nat) (I : Nat → Nat → Int32) (o : Nat) : Prop := WO G n sh Rf o ∧ FC I o ∧ InT TOffice 207 I o ∧ (Rf (o + 55) 1 = some (o + 72) ∧ WfTrade G n sh Rf (o + 72)) ∧ (Rf (o + 121) 1 = some (o + 138) ∧ WfTrade G n sh Rf (o + 138)) ∧ (I (o + 86) = iFPapers ∧ I (o + 99) = iFLoads) ∧ (I (o + 152) = iFPapers ∧ I (o + 165) = iFLoads) ∧ I (o + 4) = (fun _ => 0)
theorem LIS.fresh (h : LIS (qGG D cA b E) o n0 sh0 Rf0 I0 L0 4 n sh Rf I L) : FO (qGG D cA b E) n sh Rf I o := by
  obtain ⟨⟨p1, p2, p3, p4, p5, p6, p7, p8⟩, hR⟩ := h
  have gT := p7 _ (List.mem_of_getElem? (i := 8) rfl)
  have gL := p7 _ (List.mem_of_getElem? (i := 7) rfl)
  have gS := p7 _ (List.mem_of_getElem? (i := 6) rfl)
  have gA := p7 _ (List.mem_of_getElem? (i := 5) rfl)
  have gR := p7 _ (List.mem_of_getElem? (i := 4) rfl)
  have gD := p7 _ (List.mem_of_getElem? (i := 3) rfl)
  have gF := p7 _ (List.mem_of_getElem? (i := 2) rfl)
  have gX := p7 _ (List.mem_of_getElem? (i := 1) rfl)
  have gY := p7 _ (List.mem_of_getElem? (i := 0) rfl)
  have wT : qTapeS (qGG D cA b E) (n, sh, Rf, I, L) (o + 1) := gT.2.2.2.2
  have wL : qLand (qGG D cA b E) (n, sh, Rf, I, L) (o + 8) := gL.2.2.2.2
  have wS : qLand (qGG D cA b E) (n, sh, Rf, I, L) (o + 24) := gS.2.2.2.2
  have wA : sh (o + 40) = .inl (.object "SaltOffice$Reform", 4) := gA.2.2.2.2
  have wR : qReform (qGG D cA b E) (n, sh, Rf, I, L) (o + 41) := gR.2.2.2.2
  have wD : qTrade (qGG D cA b E) (n, sh, Rf, I, L) (o + 46) := gD.2.2.2.2
  have wF : qFacts (qGG D cA b E) (n, sh, Rf, I, L) (o + 48) := gF.2.2.2.2
  have wX : qRunS (qGG D cA b E) (n, sh, Rf, I, L) (o + 55) := gX.2.2.2.2
  have wY : qRunS (qGG D cA b E) (n, sh, Rf, I, L) (o + 121) := gY.2.2.2.2
  have q3 : o + 1 = b + n0 := p3
  have tI : I (o + 1) = iFTape := wT.2.1
  have dI : I (o + 46) = iFTrade := wD.2.1
  have fI : I (o + 48) = iFFacts := wF.2.1
  have run : ∀ a, qRunS (qGG D cA b E) (n, sh, Rf, I, L) a → InT TRun 66 I a := fun a ⟨_, _, _, l, t, r, pp, ld, wy, z, z64⟩ => InT.run z (InT.land l.2) (InT.trade t) (InT.reform r) (InT.papers pp) (InT.loads ld) (InT.way wy) z64
  have xI : I (o + 55) 15 = 0 := by
    have : I (o + 55) = iFRun := wX.2.2.2.2.2.2.2.2.2.1
    rw [this]; rfl
  have rX : ∀ i, i < 4 → InT TReform 5 I (o + 187 + 5 * i) := fun i hi => InT.reform (hR i hi).2
  refine ⟨⟨⟨⟨p2, by show o + 186 < b + n; omega, p4⟩, fun y hy => (List.not_mem_nil hy).elim, ⟨gT.1, wT.1⟩, ⟨gD.1, wD.1⟩, ⟨gF.1, wF.1⟩, ⟨gX.1, wX.1⟩, ⟨gY.1, wY.1⟩, ⟨gA.1, wA⟩⟩, ⟨gL.1, wL.1⟩, ⟨gS.1, wS.1⟩, ⟨gR.1, wR.1⟩, fun i hi => ⟨(hR i hi).1, (hR i hi).2.1⟩, ⟨wX.2.1, wX.2.2.2.1.1⟩, ⟨wY.2.1, wY.2.2.2.1.1⟩⟩, ⟨?_, ?_, ?_, ?_, wL.2, ?_, ?_, xI, fun i hi => ?_⟩, ?_, ⟨wX.2.2.1, wX.2.2.2.2.1.1⟩, ⟨wY.2.2.1, wY.2.2.2.2.1.1⟩, ⟨wX.2.2.2.2.2.2.1.2.1, wX.2.2.2.2.2.2.2.1.2.1⟩, ⟨wY.2.2.2.2.2.2.1.2.1, wY.2.2.2.2.2.2.2.1.2.1⟩, wT.2.2⟩
  · rw [p5]; rfl
  · rw [tI]; rfl
  · rw [tI]; rfl
  · rw [tI]; rfl
  · rw [dI]; rfl
  · rw [fI]; rfl
  · obtain ⟨r1, r2, r3⟩ := (hR i hi).2
    have rI : I (o + 187 + 5 * i) = iFReform := r2
    have z2 : I (o + 187 + 5 * i + 2) = (fun _ => 0) := r3 1 (by decide)
    have z3 : I (o + 187 + 5 * i + 3) = (fun _ => 0) := r3 2 (by decide)
    refine ⟨⟨by rw [rI]; rfl, fun j hj => ⟨by rw [z2], by rw [z3]⟩⟩, by rw [rI]; rfl⟩
  · exact InT.office p5 (InT.tape tI) (InT.land wL.2) (InT.land wS.2) (InT.reform wR) (InT.trade wD) (InT.facts wF) (run _ wX) (run _ wY) (rX 0 (by decide)) (rX 1 (by decide)) (rX 2 (by decide)) (rX 3 (by decide))
/-- new SaltOffice(): 206 cells come, of 115,470 slots; the object is fresh; nothing below it changes -/
theorem c_initS (hok : q_ok (qGG D cA b E)) (hEN : qEN E) (hAO : ∀ s : State, E s → va_AO "SaltOffice$Reform" s) (hT : ∀ (n : Nat) (sh : Nat → qC) (Rf : Nat → Nat → Option Nat) (I : Nat → Nat → Int32) (L : Nat → Nat → Int64) (a : Nat) (post' : Option Value → qS → Prop), b ≤ a → a + 1 = b + n → sh a = .inr 8 → (I a = fun _ => 0) → (L a = fun _ => 0) → (∀ n' sh' Rf' I' L', n' + 1 = n + 7 → qTapeS (qGG D cA b E) (n', sh', Rf', I', L') a → Bel a sh sh' Rf Rf' I I' L L' → post' none (n', sh', Rf', I', L')) → Ev (qGG D cA b E) mTape_init 6 (6, 8036) 0 (lv_args 0 [.ref a]) [] (n, sh, Rf, I, L) post')
    (hb : b ≤ o) (hn : o + 1 = b + n) (hs : sh o = .inr 11) (hI : I o = fun _ => 0) (hL : L o = fun _ => 0) (hp : ∀ n' sh' Rf' I' L', n' = n + 206 → FO (qGG D cA b E) n' sh' Rf' I' o → Bel o sh sh' Rf Rf' I I' L L' → post none (n', sh', Rf', I', L')) : Ev (qGG D cA b E) mOffice_init 7 (206, 115470) 0 (lv_args 0 [.ref o]) [] (n, sh, Rf, I, L) post := by
  refine iOffice_rowsS (n0 := n) (sh0 := sh) (Rf0 := Rf) (I0 := I) (L0 := L) hok hEN hAO hT ⟨rfl, hb, hn, hs, hI, hL, fun p hp => absurd hp List.not_mem_nil, fun _ _ => ⟨rfl, rfl, rfl, rfl⟩⟩ (fun n1 sh1 Rf1 I1 L1 hP => ?_)
  refine ev_iconst (0) dOffice_init_105 (by decide) ?_
  refine ev_istore_n dOffice_init_106 (by decide) ?_
  refine ev_sub [(0, .ref o), (1, .int 0)] rfl ?_
  exact iOffice_107S (n0 := n) (sh0 := sh) (Rf0 := Rf) (I0 := I) (L0 := L) hok hEN (fun n' sh' Rf' I' L' h => hp n' sh' Rf' I' L' h.1.1 h.fresh h.1.2.2.2.2.2.2.2) 4 0 rfl n1 sh1 Rf1 I1 L1 ⟨hP, fun j hj => absurd hj (by omega)⟩
end NO
section TI
variable {D : va_G} {cA : FieldType → ClassId} {b : Nat} {kS vS : Nat → Nat} {xb xl : Nat} {xs : Nat → Int32} {o n : Nat} {sh : Nat → qC} {Rf : Nat → Nat → Option Nat} {I : Nat → Nat → Int32} {L0 : Nat → Nat → Int64} {post : Option Value → qS → Prop}
/-- new Tape() -/
theorem kTapeS (n : Nat) (sh : Nat → qC) (Rf : Nat → Nat → Option Nat) (I : Nat → Nat → Int32) (L : Nat → Nat → Int64) (a : Nat) (post' : Option Value → qS → Prop) (hb : b ≤ a) (hn : a + 1 = b + n) (hs : sh a = .inr 8) (hI : I a = fun _ => 0) (hL : L a = fun _ => 0) (hp : ∀ n' sh' Rf' I' L', n' + 1 = n + 7 → qTapeS (qGG D cA b (qEx b kS vS xb xl xs)) (n', sh', Rf', I', L') a → Bel a sh sh' Rf Rf' I I' L L' → post' none (n', sh', Rf', I', L')) : Ev (qGG D cA b (qEx b kS vS xb xl xs)) mTape_init 6 (6, 8036) 0 (lv_args 0 [.ref a]) [] (n, sh, Rf, I, L) post' := by
  refine iTape_rows (n0 := n) (sh0 := sh) (Rf0 := Rf) (I0 := I) (L0 := L) qEx_ok ⟨rfl, hb, hn, hs, hI, hL, fun i x hi => absurd hi (by omega), fun a ha => ⟨rfl, rfl, rfl, rfl⟩⟩ (fun n1 sh1 Rf1 I1 L1 hP => ?_)
  refine ev_iconst (0) dTape_init_82 (by decide) ?_
  refine ev_istore_n dTape_init_83 (by decide) ?_
  refine ev_lconst 0 dTape_init_84 (by decide) ?_
  refine ev_lstore_n dTape_init_85 (by decide) ?_
  refine ev_iconst (0) dTape_init_86 (by decide) ?_
  refine ev_istore dTape_init_87 (by decide) ?_
  refine ev_sub [(0, .ref a), (1, .int (nI 0)), (2, .long 0), (4, .int (nI 0))] rfl ?_
  refine iTape_89 (L0 := L1) hP.wfTape (fun L' h => hp n1 sh1 Rf1 I1 L' (by have := hP.1; omega) ⟨hP.wfTape, hP.2.2.2.2.1, (hP.2.2.2.2.2.2.1 2 _ (by decide) rfl).2.2.1⟩ (fun c hc => ?_)) 165 0 rfl 0 0 L1 (by omega) (fun _ _ => rfl)
  obtain ⟨b1, b2, b3, b4⟩ := hP.2.2.2.2.2.2.2 c hc
  exact ⟨b1, b2, b3, (h c (by omega)).trans b4⟩
end TI
