/-! new Tape(): its loop over the KEYWORDS. Nothing is known of the letters: only the row of keywords changes. -/
section TI
variable {D : va_G} {cA : FieldType → ClassId} {b : Nat} {kS vS : Nat → Nat} {xb xl : Nat} {xs : Nat → Int32} {o n : Nat} {sh : Nat → qC} {Rf : Nat → Nat → Option Nat} {I : Nat → Nat → Int32} {L0 : Nat → Nat → Int64} {post : Option Value → qS → Prop}
theorem y_isLetter {L : Nat → Nat → Int64} {x : Int32} (hp : ∀ r : Int32, post (some (.int r)) (n, sh, Rf, I, L)) : Ev (qGG D cA b (qEx b kS vS xb xl xs)) mTape_isLetter 0 (0, 0) 0 (lv_args 0 [.int x]) [] (n, sh, Rf, I, L) post :=
  sTape_isLetter_0 n sh Rf I L post x qEx_ok ⟨fun _ => hp 0, fun _ => ⟨fun _ => hp 0, fun _ => hp 1⟩⟩
theorem y_withLetter {L : Nat → Nat → Int64} {x : Int32} {l : Int64} (hp : ∀ r : Int64, post (some (.long r)) (n, sh, Rf, I, L)) : Ev (qGG D cA b (qEx b kS vS xb xl xs)) mTape_withLetter 0 (0, 0) 0 (lv_args 0 [.long l, .int x]) [] (n, sh, Rf, I, L) post :=
  sTape_withLetter_0 n sh Rf I L post l x qEx_ok (hp _)
set_option maxHeartbeats 4000000 in
set_option maxRecDepth 20000 in
theorem iTape_89 (hw : WfTape (qGG D cA b (qEx b kS vS xb xl xs)) n sh Rf o) (hp : ∀ L', (∀ a, a ≠ o + 2 → L' a = L0 a) → post none (n, sh, Rf, I, L')) : ∀ (k m : Nat), m + k = 165 → ∀ (u : Nat) (l : Int64) (L : Nat → Nat → Int64), u ≤ 32 → (∀ a, a ≠ o + 2 → L a = L0 a) → Ev (qGG D cA b (qEx b kS vS xb xl xs)) mTape_init 6 (0, 0) 89 [(0, .ref o), (1, .int (nI u)), (2, .long l), (4, .int (nI m))] [] (n, sh, Rf, I, L) post := by
  intro k
  induction k with
  | zero =>
    intro m hm u l L hu hL
    have e : m = 165 := hm
    subst e
    refine ev_iload dTape_init_89 rfl ?_
    refine ev_ldcS (a := kS 0) (fun s h => h.2.2.1.1) dTape_init_91 ?_
    refine ev_callE (B' := (0, 0)) (B'' := (0, 0)) (post' := fun v τ => v = some (.int (nI 165)) ∧ τ = (n, sh, Rf, I, L)) [] [.int (nI 165)] qEx_ok mmString_length_8abf5 mk_Tape_50 (fun s h => (qEx_str (i := 0) (by decide) s h).1) rfl (Nat.le_of_ble_eq_true rfl) rfl (Nat.le_of_ble_eq_true rfl) dTape_init_93 rfl (by decide) (t_length (i := 0) (by decide) ⟨rfl, rfl⟩) ?_
    rintro v τ ⟨rfl, rfl⟩
    refine ev_icmp_ge 151 dTape_init_96 (by decide) (fun _ => ?_) (fun h => absurd (by decide) h)
    exact ev_vret rfl dTape_init_151 (hp L hL)
  | succ k ih =>
    intro m hm u l L hu hL
    have next : ∀ (u : Nat) (l : Int64) (L : Nat → Nat → Int64), u ≤ 32 → (∀ a, a ≠ o + 2 → L a = L0 a) → Ev (qGG D cA b (qEx b kS vS xb xl xs)) mTape_init 6 (0, 0) 145 [(0, .ref o), (1, .int (nI u)), (2, .long l), (4, .int (nI m))] [] (n, sh, Rf, I, L) post := by
      intro u l L hu hL
      refine ev_iinc dTape_init_145 rfl (by decide) ?_
      refine ev_goto 89 dTape_init_148 (by decide) ?_
      rw [nI_inc]
      refine ev_sub [(0, .ref o), (1, .int (nI u)), (2, .long l), (4, .int (nI (m + 1)))] rfl ?_
      exact ih (m + 1) (by omega) u l L hu hL
    refine ev_iload dTape_init_89 rfl ?_
    refine ev_ldcS (a := kS 0) (fun s h => h.2.2.1.1) dTape_init_91 ?_
    refine ev_callE (B' := (0, 0)) (B'' := (0, 0)) (post' := fun v τ => v = some (.int (nI 165)) ∧ τ = (n, sh, Rf, I, L)) [] [.int (nI m)] qEx_ok mmString_length_8abf5 mk_Tape_50 (fun s h => (qEx_str (i := 0) (by decide) s h).1) rfl (Nat.le_of_ble_eq_true rfl) rfl (Nat.le_of_ble_eq_true rfl) dTape_init_93 rfl (by decide) (t_length (i := 0) (by decide) ⟨rfl, rfl⟩) ?_
    rintro v τ ⟨rfl, rfl⟩
    refine ev_icmp_ge 151 dTape_init_96 (by decide) (fun h => absurd h (nI_ge (by omega) (by decide))) (fun _ => ?_)
    refine ev_ldcS (a := kS 0) (fun s h => h.2.2.1.1) dTape_init_99 ?_
    refine ev_iload dTape_init_101 rfl ?_
    have hm2 : m < qLen.getD 0 0 := by show m < 165; omega
    refine ev_callE (B' := (0, 0)) (B'' := (0, 0)) (post' := fun v τ => v = some (.int (qCh 0 m)) ∧ τ = (n, sh, Rf, I, L)) [.int (nI m)] [] qEx_ok mmString_charAt_5068e mk_Tape_55 (fun s h => (qEx_str (i := 0) (by decide) s h).1) rfl (Nat.le_of_ble_eq_true rfl) rfl (Nat.le_of_ble_eq_true rfl) dTape_init_103 rfl (by decide) (t_charAt (i := 0) (by decide) hm2 ⟨rfl, rfl⟩) ?_
    rintro v τ ⟨rfl, rfl⟩
    refine ev_callS (d' := 0) (B' := (0, 0)) (B'' := (0, 0)) (post' := fun v τ => (∃ r : Int32, v = some (.int r)) ∧ τ = (n, sh, Rf, I, L)) [.int (qCh 0 m)] [] qEx_ok mmTape_isLetter mk_Tape_59 rfl (Nat.le_of_ble_eq_true rfl) rfl (Nat.le_of_ble_eq_true rfl) dTape_init_106 rfl (by decide) (y_isLetter (fun r => ⟨⟨r, rfl⟩, rfl⟩)) ?_
    rintro v τ ⟨⟨r, rfl⟩, rfl⟩
    refine ev_if_eq 127 dTape_init_109 (by decide) (fun _ => ?_) (fun _ => ?_)
    · refine ev_iload_n dTape_init_127 rfl ?_
      refine ev_bipush (32) dTape_init_128 (by decide) ?_
      refine ev_icmp_ge 145 dTape_init_130 (by decide) (fun _ => next u l L hu hL) (fun h => ?_)
      have hu2 : u < 32 := Nat.not_le.mp (fun q => h ((nI_leI (a := 32) (b := u) (by omega) (by omega)).mpr q))
      refine ev_aload_n dTape_init_133 rfl ?_
      refine ev_getR qEx_ok fk_Tape_15 (woTape hw) (fun _ _ _ => rfl) (wrTape_1 hw) dTape_init_134 ?_
      refine ev_iload_n dTape_init_137 rfl ?_
      refine ev_lload_n dTape_init_138 rfl ?_
      refine ev_last qEx_ok (waTape_1 hw) (vp_in_nI hu2 (by omega)) dTape_init_139 ?_
      refine ev_iinc dTape_init_140 rfl (by decide) ?_
      refine ev_lconst 0 dTape_init_143 (by decide) ?_
      refine ev_lstore_n dTape_init_144 (by decide) ?_
      rw [nI_inc]
      refine ev_sub [(0, .ref o), (1, .int (nI (u + 1))), (2, .long 0), (4, .int (nI m))] rfl ?_
      exact next (u + 1) 0 _ hu2 (fun a ha => by rw [q_u_ne ha]; exact hL a ha)
    · refine ev_lload_n dTape_init_112 rfl ?_
      refine ev_ldcS (a := kS 0) (fun s h => h.2.2.1.1) dTape_init_113 ?_
      refine ev_iload dTape_init_115 rfl ?_
      refine ev_callE (B' := (0, 0)) (B'' := (0, 0)) (post' := fun v τ => v = some (.int (qCh 0 m)) ∧ τ = (n, sh, Rf, I, L)) [.int (nI m)] [.long l] qEx_ok mmString_charAt_5068e mk_Tape_55 (fun s h => (qEx_str (i := 0) (by decide) s h).1) rfl (Nat.le_of_ble_eq_true rfl) rfl (Nat.le_of_ble_eq_true rfl) dTape_init_117 rfl (by decide) (t_charAt (i := 0) (by decide) hm2 ⟨rfl, rfl⟩) ?_
      rintro v τ ⟨rfl, rfl⟩
      refine ev_callS (d' := 0) (B' := (0, 0)) (B'' := (0, 0)) (post' := fun v τ => (∃ r : Int64, v = some (.long r)) ∧ τ = (n, sh, Rf, I, L)) [.long l, .int (qCh 0 m)] [] qEx_ok mmTape_withLetter mk_Tape_63 rfl (Nat.le_of_ble_eq_true rfl) rfl (Nat.le_of_ble_eq_true rfl) dTape_init_120 rfl (by decide) (y_withLetter (fun r => ⟨⟨r, rfl⟩, rfl⟩)) ?_
      rintro v τ ⟨⟨r2, rfl⟩, rfl⟩
      refine ev_lstore_n dTape_init_123 (by decide) ?_
      refine ev_goto 145 dTape_init_124 (by decide) ?_
      refine ev_sub [(0, .ref o), (1, .int (nI u)), (2, .long r2), (4, .int (nI m))] rfl ?_
      exact next u r2 L hu hL
/-- new Tape() -/
theorem kTape (n : Nat) (sh : Nat → qC) (Rf : Nat → Nat → Option Nat) (I : Nat → Nat → Int32) (L : Nat → Nat → Int64) (a : Nat) (post' : Option Value → qS → Prop) (hb : b ≤ a) (hn : a + 1 = b + n) (hs : sh a = .inr 8) (hI : I a = fun _ => 0) (hL : L a = fun _ => 0) (hp : ∀ n' sh' Rf' I' L', n' + 1 = n + 7 → qTape (qGG D cA b (qEx b kS vS xb xl xs)) (n', sh', Rf', I', L') a → Bel a sh sh' Rf Rf' I I' L L' → post' none (n', sh', Rf', I', L')) : Ev (qGG D cA b (qEx b kS vS xb xl xs)) mTape_init 6 (6, 8036) 0 (lv_args 0 [.ref a]) [] (n, sh, Rf, I, L) post' := by
  refine iTape_rows (n0 := n) (sh0 := sh) (Rf0 := Rf) (I0 := I) (L0 := L) qEx_ok ⟨rfl, hb, hn, hs, hI, hL, fun i x hi => absurd hi (by omega), fun a ha => ⟨rfl, rfl, rfl, rfl⟩⟩ (fun n1 sh1 Rf1 I1 L1 hP => ?_)
  refine ev_iconst (0) dTape_init_82 (by decide) ?_
  refine ev_istore_n dTape_init_83 (by decide) ?_
  refine ev_lconst 0 dTape_init_84 (by decide) ?_
  refine ev_lstore_n dTape_init_85 (by decide) ?_
  refine ev_iconst (0) dTape_init_86 (by decide) ?_
  refine ev_istore dTape_init_87 (by decide) ?_
  refine ev_sub [(0, .ref a), (1, .int (nI 0)), (2, .long 0), (4, .int (nI 0))] rfl ?_
  refine iTape_89 (L0 := L1) hP.wfTape (fun L' h => hp n1 sh1 Rf1 I1 L' (by have := hP.1; omega) ⟨hP.wfTape, hP.2.2.2.2.1⟩ (fun c hc => ?_)) 165 0 rfl 0 0 L1 (by omega) (fun _ _ => rfl)
  obtain ⟨b1, b2, b3, b4⟩ := hP.2.2.2.2.2.2.2 c hc
  exact ⟨b1, b2, b3, (h c (by omega)).trans b4⟩
end TI
