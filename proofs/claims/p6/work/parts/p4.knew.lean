/-! new SaltOffice() with its keywords told. By program (knew.py). -/
def kLt (c : Int32) : Bool := if c < 97 then false else if 122 < c then false else true
def kStep (s : Nat × Int64 × List Int64) (c : Int32) : Nat × Int64 × List Int64 := if kLt c then (s.1, ((((s.2.1 * 32) + c.toInt64) - 97) + 1), s.2.2) else if s.1 < 32 then (s.1 + 1, 0, s.2.2 ++ [s.2.1]) else s
def kSt : Nat → Nat × Int64 × List Int64
  | 0 => (0, 0, [])
  | m + 1 => kStep (kSt m) (qCh 0 m)
set_option maxRecDepth 100000 in
theorem kSt_end : (kSt 165).2.2 = kwL.map c32 := by decide +kernel
theorem kSt_len : ∀ m, (kSt m).2.2.length = (kSt m).1 ∧ (kSt m).1 ≤ 32 := by
  intro m
  induction m with
  | zero => exact ⟨rfl, by decide⟩
  | succ m ih =>
    show (kStep (kSt m) (qCh 0 m)).2.2.length = (kStep (kSt m) (qCh 0 m)).1 ∧ (kStep (kSt m) (qCh 0 m)).1 ≤ 32
    unfold kStep
    split
    · exact ih
    · split
      · next h => exact ⟨by simp [ih.1], h⟩
      · exact ih
theorem kSt_kw (L : Nat → Nat → Int64) (a : Nat) (h : ∀ j, j < (kSt 165).1 → L (a + 2) j = (kSt 165).2.2.getD j 0) : KW a L := by
  intro k hk
  have e := kSt_len 165
  have l32 : (kSt 165).1 = 32 := by
    rw [← e.1, kSt_end, List.length_map]
    rfl
  rw [h k (by omega), kSt_end]
  unfold kwK
  have hl : k < kwL.length := hk
  simp [List.getD_eq_getElem?_getD, hl]
section TI
variable {D : va_G} {cA : FieldType → ClassId} {b : Nat} {kS vS : Nat → Nat} {xb xl : Nat} {xs : Nat → Int32} {o n : Nat} {sh : Nat → qC} {Rf : Nat → Nat → Option Nat} {I : Nat → Nat → Int32} {L0 : Nat → Nat → Int64} {post : Option Value → qS → Prop}
theorem y_isLetterk {L : Nat → Nat → Int64} {x : Int32} (hp : post (some (.int (if kLt x then 1 else 0))) (n, sh, Rf, I, L)) : Ev (qGG D cA b (qEx b kS vS xb xl xs)) mTape_isLetter 0 (0, 0) 0 (lv_args 0 [.int x]) [] (n, sh, Rf, I, L) post := by
  unfold kLt at hp
  refine sTape_isLetter_0 n sh Rf I L post x qEx_ok ⟨fun h => ?_, fun h => ⟨fun h2 => ?_, fun h2 => ?_⟩⟩
  · rw [if_pos h] at hp; exact hp
  · rw [if_neg h, if_pos h2] at hp; exact hp
  · rw [if_neg h, if_neg h2] at hp; exact hp
theorem y_withLetterk {L : Nat → Nat → Int64} {x : Int32} {l : Int64} (hp : post (some (.long ((((l * 32) + x.toInt64) - 97) + 1))) (n, sh, Rf, I, L)) : Ev (qGG D cA b (qEx b kS vS xb xl xs)) mTape_withLetter 0 (0, 0) 0 (lv_args 0 [.long l, .int x]) [] (n, sh, Rf, I, L) post :=
  sTape_withLetter_0 n sh Rf I L post l x qEx_ok hp
set_option maxHeartbeats 4000000 in
set_option maxRecDepth 20000 in
theorem iTape_89k (hw : WfTape (qGG D cA b (qEx b kS vS xb xl xs)) n sh Rf o) (hp : ∀ L', (∀ a, a ≠ o + 2 → L' a = L0 a) → KW o L' → post none (n, sh, Rf, I, L')) : ∀ (k m : Nat), m + k = 165 → ∀ (u : Nat) (l : Int64) (L : Nat → Nat → Int64), ((kSt m).1 = u ∧ (kSt m).2.1 = l ∧ ∀ j, j < u → L (o + 2) j = (kSt m).2.2.getD j 0) → u ≤ 32 → (∀ a, a ≠ o + 2 → L a = L0 a) → Ev (qGG D cA b (qEx b kS vS xb xl xs)) mTape_init 6 (0, 0) 89 [(0, .ref o), (1, .int (nI u)), (2, .long l), (4, .int (nI m))] [] (n, sh, Rf, I, L) post := by
  intro k
  induction k with
  | zero =>
    intro m hm u l L hs hu hL
    have e : m = 165 := hm
    subst e
    refine ev_iload dTape_init_89 rfl ?_
    refine ev_ldcS (a := kS 0) (fun s h => h.2.2.1.1) dTape_init_91 ?_
    refine ev_callE (B' := (0, 0)) (B'' := (0, 0)) (post' := fun v τ => v = some (.int (nI 165)) ∧ τ = (n, sh, Rf, I, L)) [] [.int (nI 165)] qEx_ok mmString_length_8abf5 mk_Tape_50 (fun s h => (qEx_str (i := 0) (by decide) s h).1) rfl (Nat.le_of_ble_eq_true rfl) rfl (Nat.le_of_ble_eq_true rfl) dTape_init_93 rfl (by decide) (t_length (i := 0) (by decide) ⟨rfl, rfl⟩) ?_
    rintro v τ ⟨rfl, rfl⟩
    refine ev_icmp_ge 151 dTape_init_96 (by decide) (fun _ => ?_) (fun h => absurd (by decide) h)
    exact ev_vret rfl dTape_init_151 (hp L hL (kSt_kw L o (fun j hj => hs.2.2 j (by rw [← hs.1]; exact hj))))
  | succ k ih =>
    intro m hm u l L hs hu hL
    have next : ∀ (u : Nat) (l : Int64) (L : Nat → Nat → Int64), ((kSt (m + 1)).1 = u ∧ (kSt (m + 1)).2.1 = l ∧ ∀ j, j < u → L (o + 2) j = (kSt (m + 1)).2.2.getD j 0) → u ≤ 32 → (∀ a, a ≠ o + 2 → L a = L0 a) → Ev (qGG D cA b (qEx b kS vS xb xl xs)) mTape_init 6 (0, 0) 145 [(0, .ref o), (1, .int (nI u)), (2, .long l), (4, .int (nI m))] [] (n, sh, Rf, I, L) post := by
      intro u l L hs hu hL
      refine ev_iinc dTape_init_145 rfl (by decide) ?_
      refine ev_goto 89 dTape_init_148 (by decide) ?_
      rw [nI_inc]
      refine ev_sub [(0, .ref o), (1, .int (nI u)), (2, .long l), (4, .int (nI (m + 1)))] rfl ?_
      exact ih (m + 1) (by omega) u l L hs hu hL
    refine ev_iload dTape_init_89 rfl ?_
    refine ev_ldcS (a := kS 0) (fun s h => h.2.2.1.1) dTape_init_91 ?_
    refine ev_callE (B' := (0, 0)) (B'' := (0, 0)) (post' := fun v τ => v = some (.int (nI 165)) ∧ τ = (n, sh, Rf, I, L)) [] [.int (nI m)] qEx_ok mmString_length_8abf5 mk_Tape_50 (fun s h => (qEx_str (i := 0) (by decide) s h).1) rfl (Nat.le_of_ble_eq_true rfl) rfl (Nat.le_of_ble_eq_true rfl) dTape_init_93 rfl (by decide) (t_length (i := 0) (by decide) ⟨rfl, rfl⟩) ?_
    rintro v τ ⟨rfl, rfl⟩
    refine ev_icmp_ge 151 dTape_init_96 (by decide) (fun h => absurd h (nI_ge (by omega) (by decide))) (fun _ => ?_)
    refine ev_ldcS (a := kS 0) (fun s h => h.2.2.1.1) dTape_init_99 ?_
    refine ev_iload dTape_init_101 rfl ?_
    have hm2 : m < qLen.getD 0 0 := by show m < 165; omega
    refine ev_callE (B' := (0, 0)) (B'' := (0, 0)) (post' := fun v τ => v = some (.int (qCh 0 m)) ∧ τ = (n, sh, Rf, I, L)) [.int (nI m)] [] qEx_ok mmString_charAt_5068e mk_Tape_55 (fun s h => (qEx_str (i := 0) (by decide) s h).1) rfl (Nat.le_of_ble_eq_true rfl) rfl (Nat.le_of_ble_eq_true rfl) dTape_init_103 rfl (by decide) (t_charAt (i := 0) (by decide) hm2 ⟨rfl, rfl⟩) ?_
    rintro v τ ⟨rfl, rfl⟩
    refine ev_callS (d' := 0) (B' := (0, 0)) (B'' := (0, 0)) (post' := fun v τ => v = some (.int (if kLt (qCh 0 m) then 1 else 0)) ∧ τ = (n, sh, Rf, I, L)) [.int (qCh 0 m)] [] qEx_ok mmTape_isLetter mk_Tape_59 rfl (Nat.le_of_ble_eq_true rfl) rfl (Nat.le_of_ble_eq_true rfl) dTape_init_106 rfl (by decide) (y_isLetterk ⟨rfl, rfl⟩) ?_
    rintro v τ ⟨rfl, rfl⟩
    obtain ⟨s1, s2, s3⟩ := hs
    refine ev_if_eq 127 dTape_init_109 (by decide) (fun c0 => ?_) (fun c0 => ?_)
    · have no : ¬ kLt (qCh 0 m) = true := fun q => by rw [if_pos q] at c0; exact absurd c0 (by decide)
      have st : kSt (m + 1) = if (kSt m).1 < 32 then ((kSt m).1 + 1, 0, (kSt m).2.2 ++ [(kSt m).2.1]) else kSt m := by
        show kStep (kSt m) (qCh 0 m) = _
        unfold kStep
        rw [if_neg no]
      refine ev_iload_n dTape_init_127 rfl ?_
      refine ev_bipush (32) dTape_init_128 (by decide) ?_
      refine ev_icmp_ge 145 dTape_init_130 (by decide) (fun h => next u l L (by
        have g : ¬ u < 32 := fun q => by have w := (nI_leI (a := 32) (b := u) (by omega) (by omega)).mp h; omega
        rw [st, if_neg (by rw [s1]; exact g)]
        exact ⟨s1, s2, s3⟩) hu hL) (fun h => ?_)
      have hu2 : u < 32 := Nat.not_le.mp (fun q => h ((nI_leI (a := 32) (b := u) (by omega) (by omega)).mpr q))
      refine ev_aload_n dTape_init_133 rfl ?_
      refine ev_getR qEx_ok fk_Tape_15 (woTape hw) (fun _ _ _ => rfl) (wrTape_1 hw) dTape_init_134 ?_
      refine ev_iload_n dTape_init_137 rfl ?_
      refine ev_lload_n dTape_init_138 rfl ?_
      refine ev_last qEx_ok (waTape_1 hw) (vp_in_nI hu2 (by omega)) dTape_init_139 ?_
      refine ev_iinc dTape_init_140 rfl (by decide) ?_
      refine ev_lconst 0 dTape_init_143 (by decide) ?_
      refine ev_lstore_n dTape_init_144 (by decide) ?_
      rw [nI_inc]
      refine ev_sub [(0, .ref o), (1, .int (nI (u + 1))), (2, .long 0), (4, .int (nI m))] rfl ?_
      refine next (u + 1) 0 _ ?_ hu2 (fun a ha => by rw [q_u_ne ha]; exact hL a ha)
      rw [st, if_pos (by rw [s1]; exact hu2), nI_clamp (show u < 2 ^ 31 by omega)]
      have ll := (kSt_len m).1
      refine ⟨by rw [s1], rfl, fun j hj => ?_⟩
      by_cases z : j = u
      · rw [z, q_u_at, s2]
        simp [List.getD_eq_getElem?_getD, ll, s1]
      · rw [q_u_k z, s3 j (by omega)]
        simp [List.getD_eq_getElem?_getD, List.getElem?_append_left (show j < (kSt m).2.2.length by rw [ll, s1]; omega)]
    · have ye : kLt (qCh 0 m) = true := by
        by_cases z : kLt (qCh 0 m) = true
        · exact z
        · rw [if_neg z] at c0; exact absurd rfl c0
      have st : kSt (m + 1) = ((kSt m).1, (((((kSt m).2.1 * 32) + (qCh 0 m).toInt64) - 97) + 1), (kSt m).2.2) := by
        show kStep (kSt m) (qCh 0 m) = _
        unfold kStep
        rw [if_pos ye]
      refine ev_lload_n dTape_init_112 rfl ?_
      refine ev_ldcS (a := kS 0) (fun s h => h.2.2.1.1) dTape_init_113 ?_
      refine ev_iload dTape_init_115 rfl ?_
      refine ev_callE (B' := (0, 0)) (B'' := (0, 0)) (post' := fun v τ => v = some (.int (qCh 0 m)) ∧ τ = (n, sh, Rf, I, L)) [.int (nI m)] [.long l] qEx_ok mmString_charAt_5068e mk_Tape_55 (fun s h => (qEx_str (i := 0) (by decide) s h).1) rfl (Nat.le_of_ble_eq_true rfl) rfl (Nat.le_of_ble_eq_true rfl) dTape_init_117 rfl (by decide) (t_charAt (i := 0) (by decide) hm2 ⟨rfl, rfl⟩) ?_
      rintro v τ ⟨rfl, rfl⟩
      refine ev_callS (d' := 0) (B' := (0, 0)) (B'' := (0, 0)) (post' := fun v τ => v = some (.long ((((l * 32) + (qCh 0 m).toInt64) - 97) + 1)) ∧ τ = (n, sh, Rf, I, L)) [.long l, .int (qCh 0 m)] [] qEx_ok mmTape_withLetter mk_Tape_63 rfl (Nat.le_of_ble_eq_true rfl) rfl (Nat.le_of_ble_eq_true rfl) dTape_init_120 rfl (by decide) (y_withLetterk ⟨rfl, rfl⟩) ?_
      rintro v τ ⟨rfl, rfl⟩
      refine ev_lstore_n dTape_init_123 (by decide) ?_
      refine ev_goto 145 dTape_init_124 (by decide) ?_
      refine ev_sub [(0, .ref o), (1, .int (nI u)), (2, .long ((((l * 32) + (qCh 0 m).toInt64) - 97) + 1)), (4, .int (nI m))] rfl ?_
      exact next u _ L (by rw [st]; exact ⟨s1, by rw [s2], s3⟩) hu hL
end TI
def qTapeK (G : qG) : qS → Nat → Prop := fun σ a => WfTape G σ.1 σ.2.1 σ.2.2.1 a ∧ σ.2.2.2.1 a = iFTape ∧ σ.2.2.2.1 (a + 3) = (fun _ => 0) ∧ KW a σ.2.2.2.2
theorem qTapeK_loc {G : qG} : LocalP 7 (qTapeK G) := fun n sh Rf I L n' sh' Rf' I' L' a hn h p => ⟨wbTape hn (fun x x1 x2 => ⟨(h x x1 x2).1, (h x x1 x2).2.1⟩) p.1, ((h a (Nat.le_refl _) (by omega)).2.2.1).trans p.2.1, ((h (a + 3) (by omega) (by omega)).2.2.1).trans p.2.2.1, fun k hk => by have e := (h (a + 2) (by omega) (by omega)).2.2.2; show L' (a + 2) k = _; rw [e]; exact p.2.2.2 k hk⟩
def plOfficeK (G : qG) : List (Nat × Nat × Nat × (qS → Nat → Prop)) := [(121, 9, 66, qRunS G), (55, 8, 66, qRunS G), (48, 6, 7, qFacts G), (46, 5, 2, qTrade G), (41, 4, 5, qReform G), (40, 3, 1, shQ "SaltOffice$Reform" 4), (24, 2, 16, qLand G), (8, 1, 16, qLand G), (1, 0, 7, qTapeK G)]
section IOffice
variable {D : va_G} {cA : FieldType → ClassId} {b : Nat} {E : State → Prop} {o n0 : Nat} {sh0 : Nat → qC} {Rf0 : Nat → Nat → Option Nat} {I0 : Nat → Nat → Int32} {L0 : Nat → Nat → Int64} {post : Option Value → qS → Prop} {n : Nat} {sh : Nat → qC} {Rf : Nat → Nat → Option Nat} {I : Nat → Nat → Int32} {L : Nat → Nat → Int64}
set_option maxHeartbeats 40000000 in
set_option maxRecDepth 20000 in
theorem iOffice_rowsK (hok : q_ok (qGG D cA b E)) (hEN : qEN E) (hAO : ∀ s : State, E s → va_AO "SaltOffice$Reform" s) (hT : ∀ (n : Nat) (sh : Nat → qC) (Rf : Nat → Nat → Option Nat) (I : Nat → Nat → Int32) (L : Nat → Nat → Int64) (a : Nat) (post' : Option Value → qS → Prop), b ≤ a → a + 1 = b + n → sh a = .inr 8 → (I a = fun _ => 0) → (L a = fun _ => 0) → (∀ n' sh' Rf' I' L', n' + 1 = n + 7 → qTapeK (qGG D cA b E) (n', sh', Rf', I', L') a → Bel a sh sh' Rf Rf' I I' L L' → post' none (n', sh', Rf', I', L')) → Ev (qGG D cA b E) mTape_init 6 (6, 8036) 0 (lv_args 0 [.ref a]) [] (n, sh, Rf, I, L) post') (hP : OJ (qGG D cA b E) 11 [] o n0 sh0 Rf0 I0 L0 (fun _ => 0) (fun _ => 0) 0 n sh Rf I L) (kk : ∀ n sh Rf I L, OJ (qGG D cA b E) 11 (plOfficeK (qGG D cA b E)) o n0 sh0 Rf0 I0 L0 iFOffice (fun _ => 0) 186 n sh Rf I L → Ev (qGG D cA b E) mOffice_init 7 (20, 3324) 105 [(0, .ref o)] [] (n, sh, Rf, I, L) post) : Ev (qGG D cA b E) mOffice_init 7 (206, 115470) 0 (lv_args 0 [.ref o]) [] (n, sh, Rf, I, L) post := by
  refine ev_aload_n dOffice_init_0 rfl ?_
  refine ev_obj (by decide) (q_t1 28 (by decide +kernel) rfl) (q_t1 29 (by decide +kernel) rfl) (q_t1 30 rfl rfl) (Nat.le_of_ble_eq_true rfl) dOffice_init_1 ?_
  refine ev_aload_n dOffice_init_4 rfl ?_
  refine ev_mkQ (B' := (6, 8036)) (B'' := (199, 107423)) (q := (qR8, qT8, 11)) (P := qTapeK (qGG D cA b E)) hok hP (by simp) (k := 0) (size := 7) (by decide) qTapeK_loc (rfl : qcl[8]? = _) (q_t1 31 (by decide +kernel) rfl) (q_t1 32 (by decide +kernel) rfl) (q_t1 2 (by decide +kernel) rfl) hdfTape dOffice_init_5 dOffice_init_8 dOffice_init_9 mmTape_init mk_Office_11 (fun _ => Nat.le_of_ble_eq_true rfl) rfl (by decide) hT (fun n sh Rf I L x ho kk => ev_putFR hok fk_Office_12 rfl ciOffice ho (fun _ _ _ => rfl) rfl rfl dOffice_init_12 kk) (fun n sh Rf I L hP => ?_)
  refine ev_aload_n dOffice_init_15 rfl ?_
  refine ev_mkQ (B' := (15, 363)) (B'' := (183, 107040)) (q := (qR1, qT1, 20)) (P := qLand (qGG D cA b E)) hok hP (by simp) (k := 1) (size := 16) (by decide) qLand_loc (rfl : qcl[1]? = _) (q_t1 134 (by decide +kernel) rfl) (q_t1 135 (by decide +kernel) rfl) (q_t1 7 (by decide +kernel) rfl) hdfLand dOffice_init_16 dOffice_init_19 dOffice_init_20 mmLand_init mk_Office_18 (fun _ => Nat.le_of_ble_eq_true rfl) rfl (by decide) (kLand hok) (fun n sh Rf I L x ho kk => ev_putR hok fk_Office_19 ho (fun _ _ _ => rfl) rfl rfl dOffice_init_23 kk) (fun n sh Rf I L hP => ?_)
  refine ev_aload_n dOffice_init_26 rfl ?_
  refine ev_mkQ (B' := (15, 363)) (B'' := (167, 106657)) (q := (qR1, qT1, 20)) (P := qLand (qGG D cA b E)) hok hP (by simp) (k := 2) (size := 16) (by decide) qLand_loc (rfl : qcl[1]? = _) (q_t1 134 (by decide +kernel) rfl) (q_t1 135 (by decide +kernel) rfl) (q_t1 7 (by decide +kernel) rfl) hdfLand dOffice_init_27 dOffice_init_30 dOffice_init_31 mmLand_init mk_Office_18 (fun _ => Nat.le_of_ble_eq_true rfl) rfl (by decide) (kLand hok) (fun n sh Rf I L x ho kk => ev_putR hok fk_Office_23 ho (fun _ _ _ => rfl) rfl rfl dOffice_init_34 kk) (fun n sh Rf I L hP => ?_)
  refine ev_aload_n dOffice_init_37 rfl ?_
  refine ev_iconst (4) dOffice_init_38 (by decide) ?_
  refine ev_anO (kc := 166) (ks := 106653) (k := 3) (w := 4) (C := "SaltOffice$Reform") hP (by simp) (show FieldType.object "SaltOffice$Reform" ∈ qtl by decide) hAO (q_t1 238 (by decide +kernel) rfl) (by decide) (by decide) (by decide) dOffice_init_39 (fun n sh Rf I L x ho kk => ev_putFR hok fk_Office_28 rfl ciOffice ho (fun _ _ _ => rfl) rfl rfl dOffice_init_42 kk) (fun n sh Rf I L hP => ?_)
  refine ev_aload_n dOffice_init_45 rfl ?_
  refine ev_mkP (B' := (4, 822)) (B'' := (161, 105822)) (q := (qR6, qT6, 9)) (P := qReform (qGG D cA b E)) hok hP (by simp) (k := 4) (size := 5) (by decide) qReform_loc (rfl : qcl[6]? = _) (q_t1 238 (by decide +kernel) rfl) (q_t2 0 (by decide +kernel) rfl) (q_t1 9 (by decide +kernel) rfl) hdfReform dOffice_init_46 dOffice_init_49 dOffice_init_50 mmReform_init (nk_Office_32 hEN) (fun _ => Nat.le_of_ble_eq_true rfl) rfl (by decide) (kReform hok) (fun n sh Rf I L x ho kk => ev_putR hok fk_Office_33 ho (fun _ _ _ => rfl) rfl rfl dOffice_init_53 kk) (fun n sh Rf I L hP => ?_)
  refine ev_aload_n dOffice_init_56 rfl ?_
  refine ev_mkP (B' := (1, 6)) (B'' := (159, 105809)) (q := (qR9, qT9, 7)) (P := qTrade (qGG D cA b E)) hok hP (by simp) (k := 5) (size := 2) (by decide) qTrade_loc (rfl : qcl[9]? = _) (q_t2 35 (by decide +kernel) rfl) (q_t2 36 (by decide +kernel) rfl) (q_t1 10 (by decide +kernel) rfl) hdfTrade dOffice_init_57 dOffice_init_60 dOffice_init_61 mmTrade_init (nk_Office_39 hEN) (fun _ => Nat.le_of_ble_eq_true rfl) rfl (by decide) (kTrade hok) (fun n sh Rf I L x ho kk => ev_putFR hok fk_Office_40 rfl ciOffice ho (fun _ _ _ => rfl) rfl rfl dOffice_init_64 kk) (fun n sh Rf I L hP => ?_)
  refine ev_aload_n dOffice_init_67 rfl ?_
  refine ev_mkP (B' := (6, 240)) (B'' := (152, 105562)) (q := (qR0, qT0, 7)) (P := qFacts (qGG D cA b E)) hok hP (by simp) (k := 6) (size := 7) (by decide) qFacts_loc (rfl : qcl[0]? = _) (q_t2 79 (by decide +kernel) rfl) (q_t2 80 (by decide +kernel) rfl) (q_t1 11 (by decide +kernel) rfl) hdfFacts dOffice_init_68 dOffice_init_71 dOffice_init_72 mmFacts_init (nk_Office_46 hEN) (fun _ => Nat.le_of_ble_eq_true rfl) rfl (by decide) (kFacts hok) (fun n sh Rf I L x ho kk => ev_putFR hok fk_Office_47 rfl ciOffice ho (fun _ _ _ => rfl) rfl rfl dOffice_init_75 kk) (fun n sh Rf I L hP => ?_)
  refine ev_aload_n dOffice_init_78 rfl ?_
  refine ev_iconst (0) dOffice_init_79 (by decide) ?_
  refine ev_putI hok fk_Office_51 hP.own (fun _ _ _ => rfl) rfl rfl dOffice_init_80 ?_
  have hP := hP.setI (k := 7) (x := (0))
  refine ev_aload_n dOffice_init_83 rfl ?_
  refine ev_mkP (B' := (65, 51099)) (B'' := (86, 54443)) (q := (qR7, qT7, 20)) (P := qRunS (qGG D cA b E)) hok hP (by simp) (k := 8) (size := 66) (by decide) qRunS_loc (rfl : qcl[7]? = _) (q_t2 116 (by decide +kernel) rfl) (q_t2 117 (by decide +kernel) rfl) (q_t1 12 (by decide +kernel) rfl) hdfRun dOffice_init_84 dOffice_init_87 dOffice_init_88 mmRun_init (nk_Office_57 hEN) (fun _ => Nat.le_of_ble_eq_true rfl) rfl (by decide) (kRunS hok hEN) (fun n sh Rf I L x ho kk => ev_putFR hok fk_Office_58 rfl ciOffice ho (fun _ _ _ => rfl) rfl rfl dOffice_init_91 kk) (fun n sh Rf I L hP => ?_)
  refine ev_aload_n dOffice_init_94 rfl ?_
  refine ev_mkP (B' := (65, 51099)) (B'' := (20, 3324)) (q := (qR7, qT7, 20)) (P := qRunS (qGG D cA b E)) hok hP (by simp) (k := 9) (size := 66) (by decide) qRunS_loc (rfl : qcl[7]? = _) (q_t2 116 (by decide +kernel) rfl) (q_t2 117 (by decide +kernel) rfl) (q_t1 12 (by decide +kernel) rfl) hdfRun dOffice_init_95 dOffice_init_98 dOffice_init_99 mmRun_init (nk_Office_57 hEN) (fun _ => Nat.le_of_ble_eq_true rfl) rfl (by decide) (kRunS hok hEN) (fun n sh Rf I L x ho kk => ev_putFR hok fk_Office_62 rfl ciOffice ho (fun _ _ _ => rfl) rfl rfl dOffice_init_102 kk) (fun n sh Rf I L hP => ?_)
  exact kk _ _ _ _ _ hP
end IOffice
def LIK (G : qG) (o n0 : Nat) (sh0 : Nat → qC) (Rf0 : Nat → Nat → Option Nat) (I0 : Nat → Nat → Int32) (L0 : Nat → Nat → Int64) (i n : Nat) (sh : Nat → qC) (Rf : Nat → Nat → Option Nat) (I : Nat → Nat → Int32) (L : Nat → Nat → Int64) : Prop :=
  OJ G 11 (plOfficeK G) o n0 sh0 Rf0 I0 L0 iFOffice (fun _ => 0) (186 + 5 * i) n sh Rf I L ∧ ∀ j, j < i → Rf (o + 40) j = some (o + 187 + 5 * j) ∧ qReform G (n, sh, Rf, I, L) (o + 187 + 5 * j)
theorem plOffice_40K {G : qG} : ∀ p ∈ plOfficeK G, (p.1 = 40 ∧ ∃ C w, p.2.2.2 = shQ C w) ∨ p.1 + p.2.2.1 ≤ 40 ∨ 40 < p.1 := by
  intro p hp
  simp only [plOfficeK, List.mem_cons, List.not_mem_nil, or_false] at hp
  rcases hp with rfl | rfl | rfl | rfl | rfl | rfl | rfl | rfl | rfl
  · exact Or.inr (Or.inr (Nat.le_of_ble_eq_true rfl))
  · exact Or.inr (Or.inr (Nat.le_of_ble_eq_true rfl))
  · exact Or.inr (Or.inr (Nat.le_of_ble_eq_true rfl))
  · exact Or.inr (Or.inr (Nat.le_of_ble_eq_true rfl))
  · exact Or.inr (Or.inr (Nat.le_of_ble_eq_true rfl))
  · exact Or.inl ⟨rfl, _, _, rfl⟩
  · exact Or.inr (Or.inl (Nat.le_of_ble_eq_true rfl))
  · exact Or.inr (Or.inl (Nat.le_of_ble_eq_true rfl))
  · exact Or.inr (Or.inl (Nat.le_of_ble_eq_true rfl))
section LO
variable {D : va_G} {cA : FieldType → ClassId} {b : Nat} {E : State → Prop} {o n0 : Nat} {sh0 : Nat → qC} {Rf0 : Nat → Nat → Option Nat} {I0 : Nat → Nat → Int32} {L0 : Nat → Nat → Int64} {post : Option Value → qS → Prop}
theorem iOffice_107K (hok : q_ok (qGG D cA b E)) (hEN : qEN E) (kk : ∀ n sh Rf I L, LIK (qGG D cA b E) o n0 sh0 Rf0 I0 L0 4 n sh Rf I L → post none (n, sh, Rf, I, L)) : ∀ m k, k + m = 4 → ∀ n sh Rf I L, LIK (qGG D cA b E) o n0 sh0 Rf0 I0 L0 k n sh Rf I L → Ev (qGG D cA b E) mOffice_init 7 (5 * m, 831 * m) 107 [(0, .ref o), (1, .int (nI k))] [] (n, sh, Rf, I, L) post := by
  intro m
  induction m with
  | zero =>
    intro k hk n sh Rf I L hL
    have e : k = 4 := by omega
    subst e
    refine ev_iload_n dOffice_init_107 rfl ?_
    refine ev_iconst (4) dOffice_init_108 (by decide) ?_
    refine ev_icmp_ge 131 dOffice_init_109 (by decide) (fun _ => ?_) (fun h => absurd (by decide) h)
    exact ev_vret rfl dOffice_init_131 (kk _ _ _ _ _ hL)
  | succ m ih =>
    intro k hk n sh Rf I L hL
    obtain ⟨hP, hR⟩ := hL
    obtain ⟨p1, p2, p3, p4, p5, p6, p7, p8⟩ := id hP
    have q3 : o + 1 = b + n0 := p3
    have hn : b + n = o + 187 + 5 * k := by omega
    have r40 := p7 (40, 3, 1, shQ "SaltOffice$Reform" 4) (List.mem_of_getElem? (i := 5) rfl)
    have s40 : sh (o + 40) = .inl (.object "SaltOffice$Reform", 4) := r40.2.2.2.2
    refine ev_iload_n dOffice_init_107 rfl ?_
    refine ev_iconst (4) dOffice_init_108 (by decide) ?_
    refine ev_icmp_ge 131 dOffice_init_109 (by decide) (fun h => absurd ((nI_leI (a := 4) (by omega) (by omega)).mp h) (by omega)) (fun _ => ?_)
    refine ev_aload_n dOffice_init_112 rfl ?_
    refine ev_getR hok fk_Office_28 hP.own (fun _ _ _ => rfl) r40.1 dOffice_init_113 ?_
    refine ev_iload_n dOffice_init_116 rfl ?_
    have eb : (5 * (m + 1), 831 * (m + 1)) = ((4, 822).1 + (5 * m, 831 * m).1 + 1, (4, 822).2 + (5 * m, 831 * m).2 + 9) := by
      show (5 * (m + 1), 831 * (m + 1)) = (4 + 5 * m + 1, 822 + 831 * m + 9)
      rw [show 5 * (m + 1) = 4 + 5 * m + 1 by omega, show 831 * (m + 1) = 822 + 831 * m + 9 by omega]
    rw [eb]
    refine ev_new (kc := (4, 822).1 + (5 * m, 831 * m).1) (ks := (4, 822).2 + (5 * m, 831 * m).2) (q := (qR6, qT6, 9)) hok (rfl : qcl[6]? = _) (q_t1 238 (by decide +kernel) rfl) (q_t2 0 (by decide +kernel) rfl) (q_t1 9 (by decide +kernel) rfl) hdfReform dOffice_init_117 ?_
    refine ev_dup dOffice_init_120 rfl ?_
    refine ev_ncallI (d' := 1) (a := b + n) (B' := (4, 822)) (B'' := (5 * m, 831 * m)) (post' := fun v τ => v = none ∧ ∃ n' sh' Rf' I' L', τ = (n', sh', Rf', I', L') ∧ n' + 1 = n + 1 + 5 ∧ qReform (qGG D cA b E) (n', sh', Rf', I', L') (b + n) ∧ Bel (b + n) (q_c sh (b + n) (.inr 6)) sh' (q_z Rf (b + n) none) Rf' (q_z I (b + n) 0) I' (q_z L (b + n) 0) L') [] [.ref (b + n), .int (nI k), .ref (o + 40)] hok mmReform_init (nk_Office_32 hEN) rfl (Nat.le_of_ble_eq_true rfl) rfl rfl (by show 3 ≤ 8; decide) dOffice_init_121 rfl (by decide) ?_ ?_
    · exact kReform hok _ _ _ _ _ (b + n) _ (by omega) (by omega) q_c_at q_z_at q_z_at (fun n' sh' Rf' I' L' e w bl => ⟨rfl, n', sh', Rf', I', L', rfl, e, w, bl⟩)
    · rintro v τ ⟨rfl, n', sh', Rf', I', L', rfl, e, w, bl⟩
      have bl2 : ∀ c, c < b + n → sh' c = sh c ∧ Rf' c = Rf c ∧ I' c = I c ∧ L' c = L c := fun c hc2 => by
        obtain ⟨b1, b2, b3, b4⟩ := bl c hc2
        rw [q_c_ne (by omega)] at b1; rw [q_z_ne (by omega)] at b2 b3 b4
        exact ⟨b1, b2, b3, b4⟩
      obtain ⟨o1, o2, o3, o4⟩ := bl2 o (by omega)
      have a40 : q_in (qGG D cA b E) (n', sh', Rf', I', L') (o + 40) (.inl (.object "SaltOffice$Reform", 4)) := ⟨Nat.le_trans p2 (by omega), by show o + 40 < b + n'; omega, (bl2 (o + 40) (by omega)).1.trans s40⟩
      have v4 : vp_in (nI k) 4 := vp_in_nI (by omega) (by omega)
      refine ev_aast (ci := 6) rfl (show FieldType.object "SaltOffice$Reform" ∈ qtl by decide) a40 (woReform w.1) v4 dOffice_init_124 ?_
      rw [nI_clamp (show k < 2 ^ 31 by omega)]
      refine ev_iinc dOffice_init_125 rfl (by decide) ?_
      refine ev_goto 107 dOffice_init_128 (by decide) ?_
      refine ev_sub [(0, .ref o), (1, .int (nI k + Int32.ofInt 1))] rfl ?_
      rw [nI_inc]
      refine ih (k + 1) (by omega) _ _ _ _ _ ⟨⟨by omega, p2, p3, o1.trans p4, o3.trans p5, o4.trans p6, fun p hp => ?_, fun a ha => ?_⟩, fun j hj => ?_⟩
      · obtain ⟨r1, r2, r3, r4, r5⟩ := p7 p hp
        refine ⟨by rw [q_u_ne (by omega), o2]; exact r1, by omega, r3, r4, ?_⟩
        rcases plOffice_40K p hp with ⟨e1, C, w2, e2⟩ | h40
        · rw [e2] at r5 ⊢
          have r5 : sh (o + p.1) = .inl (.object C, w2) := r5
          show sh' (o + p.1) = _
          rw [(bl2 (o + p.1) (by omega)).1]; exact r5
        · refine r4 _ _ _ _ _ _ _ _ _ _ _ (by omega) (fun c c1 c2 => ?_) r5
          obtain ⟨s1, s2, s3, s4⟩ := bl2 c (by omega)
          exact ⟨s1, by rw [q_u_ne (by omega)]; exact s2, s3, s4⟩
      · obtain ⟨s1, s2, s3, s4⟩ := bl2 a (by omega)
        obtain ⟨t1, t2, t3, t4⟩ := p8 a ha
        exact ⟨s1.trans t1, by rw [q_u_ne (by omega)]; exact s2.trans t2, s3.trans t3, s4.trans t4⟩
      · by_cases hjk : j = k
        · subst hjk
          refine ⟨by rw [q_u_at, hn], ?_⟩
          rw [← hn]
          exact qReform_loc _ _ _ _ _ _ _ _ _ _ _ (Nat.le_refl _) (fun c c1 c2 => ⟨rfl, q_u_ne (by omega), rfl, rfl⟩) w
        · obtain ⟨u1, u2⟩ := hR j (by omega)
          refine ⟨by rw [q_u_k hjk, (bl2 (o + 40) (by omega)).2.1]; exact u1, ?_⟩
          refine qReform_loc _ _ _ _ _ _ _ _ _ _ _ (by omega) (fun c c1 c2 => ?_) u2
          obtain ⟨s1, s2, s3, s4⟩ := bl2 c (by omega)
          exact ⟨s1, by rw [q_u_ne (by omega)]; exact s2, s3, s4⟩
end LO
section NO
variable {D : va_G} {cA : FieldType → ClassId} {b : Nat} {E : State → Prop} {o n0 : Nat} {sh0 : Nat → qC} {Rf0 : Nat → Nat → Option Nat} {I0 : Nat → Nat → Int32} {L0 : Nat → Nat → Int64} {post : Option Value → qS → Prop} {n : Nat} {sh : Nat → qC} {Rf : Nat → Nat → Option Nat} {I : Nat → Nat → Int32} {L : Nat → Nat → Int64}
theorem LIK.fresh (h : LIK (qGG D cA b E) o n0 sh0 Rf0 I0 L0 4 n sh Rf I L) : FO (qGG D cA b E) n sh Rf I o ∧ KW (o + 1) L := by
  obtain ⟨⟨p1, p2, p3, p4, p5, p6, p7, p8⟩, hR⟩ := h
  have gT := p7 _ (List.mem_of_getElem? (i := 8) rfl)
  have gL := p7 _ (List.mem_of_getElem? (i := 7) rfl)
  have gS := p7 _ (List.mem_of_getElem? (i := 6) rfl)
  have gA := p7 _ (List.mem_of_getElem? (i := 5) rfl)
  have gR := p7 _ (List.mem_of_getElem? (i := 4) rfl)
  have gD := p7 _ (List.mem_of_getElem? (i := 3) rfl)
  have gF := p7 _ (List.mem_of_getElem? (i := 2) rfl)
  have gX := p7 _ (List.mem_of_getElem? (i := 1) rfl)
  have gY := p7 _ (List.mem_of_getElem? (i := 0) rfl)
  have wT : qTapeK (qGG D cA b E) (n, sh, Rf, I, L) (o + 1) := gT.2.2.2.2
  have wL : qLand (qGG D cA b E) (n, sh, Rf, I, L) (o + 8) := gL.2.2.2.2
  have wS : qLand (qGG D cA b E) (n, sh, Rf, I, L) (o + 24) := gS.2.2.2.2
  have wA : sh (o + 40) = .inl (.object "SaltOffice$Reform", 4) := gA.2.2.2.2
  have wR : qReform (qGG D cA b E) (n, sh, Rf, I, L) (o + 41) := gR.2.2.2.2
  have wD : qTrade (qGG D cA b E) (n, sh, Rf, I, L) (o + 46) := gD.2.2.2.2
  have wF : qFacts (qGG D cA b E) (n, sh, Rf, I, L) (o + 48) := gF.2.2.2.2
  have wX : qRunS (qGG D cA b E) (n, sh, Rf, I, L) (o + 55) := gX.2.2.2.2
  have wY : qRunS (qGG D cA b E) (n, sh, Rf, I, L) (o + 121) := gY.2.2.2.2
  have q3 : o + 1 = b + n0 := p3
  have tI : I (o + 1) = iFTape := wT.2.1
  have dI : I (o + 46) = iFTrade := wD.2.1
  have fI : I (o + 48) = iFFacts := wF.2.1
  have run : ∀ a, qRunS (qGG D cA b E) (n, sh, Rf, I, L) a → InT TRun 66 I a := fun a ⟨_, _, _, l, t, r, pp, ld, wy, z, z64⟩ => InT.run z (InT.land l.2) (InT.trade t) (InT.reform r) (InT.papers pp) (InT.loads ld) (InT.way wy) z64
  have xI : I (o + 55) 15 = 0 := by
    have : I (o + 55) = iFRun := wX.2.2.2.2.2.2.2.2.2.1
    rw [this]; rfl
  have rX : ∀ i, i < 4 → InT TReform 5 I (o + 187 + 5 * i) := fun i hi => InT.reform (hR i hi).2
  refine ⟨?_, wT.2.2.2⟩
  refine ⟨⟨⟨⟨p2, by show o + 186 < b + n; omega, p4⟩, fun y hy => (List.not_mem_nil hy).elim, ⟨gT.1, wT.1⟩, ⟨gD.1, wD.1⟩, ⟨gF.1, wF.1⟩, ⟨gX.1, wX.1⟩, ⟨gY.1, wY.1⟩, ⟨gA.1, wA⟩⟩, ⟨gL.1, wL.1⟩, ⟨gS.1, wS.1⟩, ⟨gR.1, wR.1⟩, fun i hi => ⟨(hR i hi).1, (hR i hi).2.1⟩, ⟨wX.2.1, wX.2.2.2.1.1⟩, ⟨wY.2.1, wY.2.2.2.1.1⟩⟩, ⟨?_, ?_, ?_, ?_, wL.2, ?_, ?_, xI, fun i hi => ?_⟩, ?_, ⟨wX.2.2.1, wX.2.2.2.2.1.1⟩, ⟨wY.2.2.1, wY.2.2.2.2.1.1⟩, ⟨wX.2.2.2.2.2.2.1.2.1, wX.2.2.2.2.2.2.2.1.2.1⟩, ⟨wY.2.2.2.2.2.2.1.2.1, wY.2.2.2.2.2.2.2.1.2.1⟩, wT.2.2.1⟩
  · rw [p5]; rfl
  · rw [tI]; rfl
  · rw [tI]; rfl
  · rw [tI]; rfl
  · rw [dI]; rfl
  · rw [fI]; rfl
  · obtain ⟨r1, r2, r3⟩ := (hR i hi).2
    have rI : I (o + 187 + 5 * i) = iFReform := r2
    have z2 : I (o + 187 + 5 * i + 2) = (fun _ => 0) := r3 1 (by decide)
    have z3 : I (o + 187 + 5 * i + 3) = (fun _ => 0) := r3 2 (by decide)
    refine ⟨⟨by rw [rI]; rfl, fun j hj => ⟨by rw [z2], by rw [z3]⟩⟩, by rw [rI]; rfl⟩
  · exact InT.office p5 (InT.tape tI) (InT.land wL.2) (InT.land wS.2) (InT.reform wR) (InT.trade wD) (InT.facts wF) (run _ wX) (run _ wY) (rX 0 (by decide)) (rX 1 (by decide)) (rX 2 (by decide)) (rX 3 (by decide))
/-- new SaltOffice(): 206 cells come, of 115,470 slots; the object is fresh; nothing below it changes -/
theorem c_initK (hok : q_ok (qGG D cA b E)) (hEN : qEN E) (hAO : ∀ s : State, E s → va_AO "SaltOffice$Reform" s) (hT : ∀ (n : Nat) (sh : Nat → qC) (Rf : Nat → Nat → Option Nat) (I : Nat → Nat → Int32) (L : Nat → Nat → Int64) (a : Nat) (post' : Option Value → qS → Prop), b ≤ a → a + 1 = b + n → sh a = .inr 8 → (I a = fun _ => 0) → (L a = fun _ => 0) → (∀ n' sh' Rf' I' L', n' + 1 = n + 7 → qTapeK (qGG D cA b E) (n', sh', Rf', I', L') a → Bel a sh sh' Rf Rf' I I' L L' → post' none (n', sh', Rf', I', L')) → Ev (qGG D cA b E) mTape_init 6 (6, 8036) 0 (lv_args 0 [.ref a]) [] (n, sh, Rf, I, L) post')
    (hb : b ≤ o) (hn : o + 1 = b + n) (hs : sh o = .inr 11) (hI : I o = fun _ => 0) (hL : L o = fun _ => 0) (hp : ∀ n' sh' Rf' I' L', n' = n + 206 → FO (qGG D cA b E) n' sh' Rf' I' o → KW (o + 1) L' → Bel o sh sh' Rf Rf' I I' L L' → post none (n', sh', Rf', I', L')) : Ev (qGG D cA b E) mOffice_init 7 (206, 115470) 0 (lv_args 0 [.ref o]) [] (n, sh, Rf, I, L) post := by
  refine iOffice_rowsK (n0 := n) (sh0 := sh) (Rf0 := Rf) (I0 := I) (L0 := L) hok hEN hAO hT ⟨rfl, hb, hn, hs, hI, hL, fun p hp => absurd hp List.not_mem_nil, fun _ _ => ⟨rfl, rfl, rfl, rfl⟩⟩ (fun n1 sh1 Rf1 I1 L1 hP => ?_)
  refine ev_iconst (0) dOffice_init_105 (by decide) ?_
  refine ev_istore_n dOffice_init_106 (by decide) ?_
  refine ev_sub [(0, .ref o), (1, .int 0)] rfl ?_
  exact iOffice_107K (n0 := n) (sh0 := sh) (Rf0 := Rf) (I0 := I) (L0 := L) hok hEN (fun n' sh' Rf' I' L' h => hp n' sh' Rf' I' L' h.1.1 h.fresh.1 h.fresh.2 h.1.2.2.2.2.2.2.2) 4 0 rfl n1 sh1 Rf1 I1 L1 ⟨hP, fun j hj => absurd hj (by omega)⟩
end NO
section TI
variable {D : va_G} {cA : FieldType → ClassId} {b : Nat} {kS vS : Nat → Nat} {xb xl : Nat} {xs : Nat → Int32} {o n : Nat} {sh : Nat → qC} {Rf : Nat → Nat → Option Nat} {I : Nat → Nat → Int32} {L0 : Nat → Nat → Int64} {post : Option Value → qS → Prop}
/-- new Tape() -/
theorem kTapeK (n : Nat) (sh : Nat → qC) (Rf : Nat → Nat → Option Nat) (I : Nat → Nat → Int32) (L : Nat → Nat → Int64) (a : Nat) (post' : Option Value → qS → Prop) (hb : b ≤ a) (hn : a + 1 = b + n) (hs : sh a = .inr 8) (hI : I a = fun _ => 0) (hL : L a = fun _ => 0) (hp : ∀ n' sh' Rf' I' L', n' + 1 = n + 7 → qTapeK (qGG D cA b (qEx b kS vS xb xl xs)) (n', sh', Rf', I', L') a → Bel a sh sh' Rf Rf' I I' L L' → post' none (n', sh', Rf', I', L')) : Ev (qGG D cA b (qEx b kS vS xb xl xs)) mTape_init 6 (6, 8036) 0 (lv_args 0 [.ref a]) [] (n, sh, Rf, I, L) post' := by
  refine iTape_rows (n0 := n) (sh0 := sh) (Rf0 := Rf) (I0 := I) (L0 := L) qEx_ok ⟨rfl, hb, hn, hs, hI, hL, fun i x hi => absurd hi (by omega), fun a ha => ⟨rfl, rfl, rfl, rfl⟩⟩ (fun n1 sh1 Rf1 I1 L1 hP => ?_)
  refine ev_iconst (0) dTape_init_82 (by decide) ?_
  refine ev_istore_n dTape_init_83 (by decide) ?_
  refine ev_lconst 0 dTape_init_84 (by decide) ?_
  refine ev_lstore_n dTape_init_85 (by decide) ?_
  refine ev_iconst (0) dTape_init_86 (by decide) ?_
  refine ev_istore dTape_init_87 (by decide) ?_
  refine ev_sub [(0, .ref a), (1, .int (nI 0)), (2, .long 0), (4, .int (nI 0))] rfl ?_
  refine iTape_89k (L0 := L1) hP.wfTape (fun L' h hkw => hp n1 sh1 Rf1 I1 L' (by have := hP.1; omega) ⟨hP.wfTape, hP.2.2.2.2.1, (hP.2.2.2.2.2.2.1 2 _ (by decide) rfl).2.2.1, hkw⟩ (fun c hc => ?_)) 165 0 rfl 0 0 L1 ⟨rfl, rfl, fun j hj => absurd hj (by omega)⟩ (by omega) (fun _ _ => rfl)
  obtain ⟨b1, b2, b3, b4⟩ := hP.2.2.2.2.2.2.2 c hc
  exact ⟨b1, b2, b3, (h c (by omega)).trans b4⟩
end TI
