/-! new SaltOffice(): its loop of four Reforms. -/
def LI (G : qG) (o n0 : Nat) (sh0 : Nat → qC) (Rf0 : Nat → Nat → Option Nat) (I0 : Nat → Nat → Int32) (L0 : Nat → Nat → Int64) (i n : Nat) (sh : Nat → qC) (Rf : Nat → Nat → Option Nat) (I : Nat → Nat → Int32) (L : Nat → Nat → Int64) : Prop :=
  OJ G 11 (plOffice G) o n0 sh0 Rf0 I0 L0 iFOffice (fun _ => 0) (186 + 5 * i) n sh Rf I L ∧ ∀ j, j < i → Rf (o + 40) j = some (o + 187 + 5 * j) ∧ qReform G (n, sh, Rf, I, L) (o + 187 + 5 * j)
theorem plOffice_40 {G : qG} : ∀ p ∈ plOffice G, (p.1 = 40 ∧ ∃ C w, p.2.2.2 = shQ C w) ∨ p.1 + p.2.2.1 ≤ 40 ∨ 40 < p.1 := by
  intro p hp
  simp only [plOffice, List.mem_cons, List.not_mem_nil, or_false] at hp
  rcases hp with rfl | rfl | rfl | rfl | rfl | rfl | rfl | rfl | rfl
  · exact Or.inr (Or.inr (Nat.le_of_ble_eq_true rfl))
  · exact Or.inr (Or.inr (Nat.le_of_ble_eq_true rfl))
  · exact Or.inr (Or.inr (Nat.le_of_ble_eq_true rfl))
  · exact Or.inr (Or.inr (Nat.le_of_ble_eq_true rfl))
  · exact Or.inr (Or.inr (Nat.le_of_ble_eq_true rfl))
  · exact Or.inl ⟨rfl, _, _, rfl⟩
  · exact Or.inr (Or.inl (Nat.le_of_ble_eq_true rfl))
  · exact Or.inr (Or.inl (Nat.le_of_ble_eq_true rfl))
  · exact Or.inr (Or.inl (Nat.le_of_ble_eq_true rfl))
section LO
variable {D : va_G} {cA : FieldType → ClassId} {b : Nat} {E : State → Prop} {o n0 : Nat} {sh0 : Nat → qC} {Rf0 : Nat → Nat → Option Nat} {I0 : Nat → Nat → Int32} {L0 : Nat → Nat → Int64} {post : Option Value → qS → Prop}
theorem iOffice_107 (hok : q_ok (qGG D cA b E)) (hEN : qEN E) (kk : ∀ n sh Rf I L, LI (qGG D cA b E) o n0 sh0 Rf0 I0 L0 4 n sh Rf I L → post none (n, sh, Rf, I, L)) : ∀ m k, k + m = 4 → ∀ n sh Rf I L, LI (qGG D cA b E) o n0 sh0 Rf0 I0 L0 k n sh Rf I L → Ev (qGG D cA b E) mOffice_init 7 (5 * m, 831 * m) 107 [(0, .ref o), (1, .int (nI k))] [] (n, sh, Rf, I, L) post := by
  intro m
  induction m with
  | zero =>
    intro k hk n sh Rf I L hL
    have e : k = 4 := by omega
    subst e
    refine ev_iload_n dOffice_init_107 rfl ?_
    refine ev_iconst (4) dOffice_init_108 (by decide) ?_
    refine ev_icmp_ge 131 dOffice_init_109 (by decide) (fun _ => ?_) (fun h => absurd (by decide) h)
    exact ev_vret rfl dOffice_init_131 (kk _ _ _ _ _ hL)
  | succ m ih =>
    intro k hk n sh Rf I L hL
    obtain ⟨hP, hR⟩ := hL
    obtain ⟨p1, p2, p3, p4, p5, p6, p7, p8⟩ := id hP
    have q3 : o + 1 = b + n0 := p3
    have hn : b + n = o + 187 + 5 * k := by omega
    have r40 := p7 (40, 3, 1, shQ "SaltOffice$Reform" 4) (List.mem_of_getElem? (i := 5) rfl)
    have s40 : sh (o + 40) = .inl (.object "SaltOffice$Reform", 4) := r40.2.2.2.2
    refine ev_iload_n dOffice_init_107 rfl ?_
    refine ev_iconst (4) dOffice_init_108 (by decide) ?_
    refine ev_icmp_ge 131 dOffice_init_109 (by decide) (fun h => absurd ((nI_leI (a := 4) (by omega) (by omega)).mp h) (by omega)) (fun _ => ?_)
    refine ev_aload_n dOffice_init_112 rfl ?_
    refine ev_getR hok fk_Office_28 hP.own (fun _ _ _ => rfl) r40.1 dOffice_init_113 ?_
    refine ev_iload_n dOffice_init_116 rfl ?_
    have eb : (5 * (m + 1), 831 * (m + 1)) = ((4, 822).1 + (5 * m, 831 * m).1 + 1, (4, 822).2 + (5 * m, 831 * m).2 + 9) := by
      show (5 * (m + 1), 831 * (m + 1)) = (4 + 5 * m + 1, 822 + 831 * m + 9)
      rw [show 5 * (m + 1) = 4 + 5 * m + 1 by omega, show 831 * (m + 1) = 822 + 831 * m + 9 by omega]
    rw [eb]
    refine ev_new (kc := (4, 822).1 + (5 * m, 831 * m).1) (ks := (4, 822).2 + (5 * m, 831 * m).2) (q := (qR6, qT6, 9)) hok (rfl : qcl[6]? = _) (q_t1 238 (by decide +kernel) rfl) (q_t2 0 (by decide +kernel) rfl) (q_t1 9 (by decide +kernel) rfl) hdfReform dOffice_init_117 ?_
    refine ev_dup dOffice_init_120 rfl ?_
    refine ev_ncallI (d' := 1) (a := b + n) (B' := (4, 822)) (B'' := (5 * m, 831 * m)) (post' := fun v τ => v = none ∧ ∃ n' sh' Rf' I' L', τ = (n', sh', Rf', I', L') ∧ n' + 1 = n + 1 + 5 ∧ qReform (qGG D cA b E) (n', sh', Rf', I', L') (b + n) ∧ Bel (b + n) (q_c sh (b + n) (.inr 6)) sh' (q_z Rf (b + n) none) Rf' (q_z I (b + n) 0) I' (q_z L (b + n) 0) L') [] [.ref (b + n), .int (nI k), .ref (o + 40)] hok mmReform_init (nk_Office_32 hEN) rfl (Nat.le_of_ble_eq_true rfl) rfl rfl (by show 3 ≤ 8; decide) dOffice_init_121 rfl (by decide) ?_ ?_
    · exact kReform hok _ _ _ _ _ (b + n) _ (by omega) (by omega) q_c_at q_z_at q_z_at (fun n' sh' Rf' I' L' e w bl => ⟨rfl, n', sh', Rf', I', L', rfl, e, w, bl⟩)
    · rintro v τ ⟨rfl, n', sh', Rf', I', L', rfl, e, w, bl⟩
      have bl2 : ∀ c, c < b + n → sh' c = sh c ∧ Rf' c = Rf c ∧ I' c = I c ∧ L' c = L c := fun c hc2 => by
        obtain ⟨b1, b2, b3, b4⟩ := bl c hc2
        rw [q_c_ne (by omega)] at b1; rw [q_z_ne (by omega)] at b2 b3 b4
        exact ⟨b1, b2, b3, b4⟩
      obtain ⟨o1, o2, o3, o4⟩ := bl2 o (by omega)
      have a40 : q_in (qGG D cA b E) (n', sh', Rf', I', L') (o + 40) (.inl (.object "SaltOffice$Reform", 4)) := ⟨Nat.le_trans p2 (by omega), by show o + 40 < b + n'; omega, (bl2 (o + 40) (by omega)).1.trans s40⟩
      have v4 : vp_in (nI k) 4 := vp_in_nI (by omega) (by omega)
      refine ev_aast (ci := 6) rfl (show FieldType.object "SaltOffice$Reform" ∈ qtl by decide) a40 (woReform w.1) v4 dOffice_init_124 ?_
      rw [nI_clamp (show k < 2 ^ 31 by omega)]
      refine ev_iinc dOffice_init_125 rfl (by decide) ?_
      refine ev_goto 107 dOffice_init_128 (by decide) ?_
      refine ev_sub [(0, .ref o), (1, .int (nI k + Int32.ofInt 1))] rfl ?_
      rw [nI_inc]
      refine ih (k + 1) (by omega) _ _ _ _ _ ⟨⟨by omega, p2, p3, o1.trans p4, o3.trans p5, o4.trans p6, fun p hp => ?_, fun a ha => ?_⟩, fun j hj => ?_⟩
      · obtain ⟨r1, r2, r3, r4, r5⟩ := p7 p hp
        refine ⟨by rw [q_u_ne (by omega), o2]; exact r1, by omega, r3, r4, ?_⟩
        rcases plOffice_40 p hp with ⟨e1, C, w2, e2⟩ | h40
        · rw [e2] at r5 ⊢
          have r5 : sh (o + p.1) = .inl (.object C, w2) := r5
          show sh' (o + p.1) = _
          rw [(bl2 (o + p.1) (by omega)).1]; exact r5
        · refine r4 _ _ _ _ _ _ _ _ _ _ _ (by omega) (fun c c1 c2 => ?_) r5
          obtain ⟨s1, s2, s3, s4⟩ := bl2 c (by omega)
          exact ⟨s1, by rw [q_u_ne (by omega)]; exact s2, s3, s4⟩
      · obtain ⟨s1, s2, s3, s4⟩ := bl2 a (by omega)
        obtain ⟨t1, t2, t3, t4⟩ := p8 a ha
        exact ⟨s1.trans t1, by rw [q_u_ne (by omega)]; exact s2.trans t2, s3.trans t3, s4.trans t4⟩
      · by_cases hjk : j = k
        · subst hjk
          refine ⟨by rw [q_u_at, hn], ?_⟩
          rw [← hn]
          exact qReform_loc _ _ _ _ _ _ _ _ _ _ _ (Nat.le_refl _) (fun c c1 c2 => ⟨rfl, q_u_ne (by omega), rfl, rfl⟩) w
        · obtain ⟨u1, u2⟩ := hR j (by omega)
          refine ⟨by rw [q_u_k hjk, (bl2 (o + 40) (by omega)).2.1]; exact u1, ?_⟩
          refine qReform_loc _ _ _ _ _ _ _ _ _ _ _ (by omega) (fun c c1 c2 => ?_) u2
          obtain ⟨s1, s2, s3, s4⟩ := bl2 c (by omega)
          exact ⟨s1, by rw [q_u_ne (by omega)]; exact s2, s3, s4⟩
end LO
