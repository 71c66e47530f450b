/-! reform of an Office that is between calls, with the mirror. By program (xref.py). -/
section XR
variable {D : va_G} {cA : FieldType → ClassId} {b : Nat} {kS vS : Nat → Nat} {xb xl : Nat} {xs : Nat → Int32} {R : qRg} {o n : Nat} {sh : Nat → qC} {Rf Rf' : Nat → Nat → Option Nat} {I I' : Nat → Nat → Int32} {L : Nat → Nat → Int64} {post : Option Value → qS → Prop}
theorem yx_reformg {p1 : Int32} {r4 : Nat} (hA : ∀ i, R.2 i = true) (a4 : Rf o 4 = some r4) (h : OI (qGG D cA b (qEx b kS vS xb xl xs)) R n sh Rf I o) (hno : ¬ ((I (o + 1) 6).toInt ≤ 700 ∧ 0 ≤ p1.toInt ∧ p1.toInt ≤ 3) → post (some (.int (-2))) (n, sh, Rf, I, L)) (hb : ∀ (r : Int32) (I1 I2 : Nat → Nat → Int32) (L1 : Nat → Nat → Int64), ((I (o + 1) 6).toInt ≤ 700 ∧ 0 ≤ p1.toInt ∧ p1.toInt ≤ 3) → Fm (fun c => (r4 ≤ c ∧ c < r4 + 5) ∨ (o + 1 ≤ c ∧ c < o + 1 + 7)) I I1 → gReform_read_0 r4 (o + 1) (tI I) L = (r.toInt, tI I1, L1) → r = 0 → q_u I1 (o + 1) 6 0 = I2 → OI (qGG D cA b (qEx b kS vS xb xl xs)) R n sh Rf I2 o → Fm (fun c => (r4 ≤ c ∧ c < r4 + 5) ∨ (o + 1 ≤ c ∧ c < o + 1 + 7)) I I2 → FmL (fun c => c = o + 7) L L1 → post (some (.int (-1))) (n, sh, Rf, I2, L1)) (hg : ∀ (r : Int32) (I1 I2 : Nat → Nat → Int32) (L1 : Nat → Nat → Int64) (rs : Nat), ((I (o + 1) 6).toInt ≤ 700 ∧ 0 ≤ p1.toInt ∧ p1.toInt ≤ 3) → Fm (fun c => (r4 ≤ c ∧ c < r4 + 5) ∨ (o + 1 ≤ c ∧ c < o + 1 + 7)) I I1 → gReform_read_0 r4 (o + 1) (tI I) L = (r.toInt, tI I1, L1) → ¬ r = 0 → q_u I1 (o + 1) 6 0 = I2 → Rf (o + 40) p1.toNatClampNeg = some rs → OI (qGG D cA b (qEx b kS vS xb xl xs)) R n sh (q_u (q_u Rf (o + 40) p1.toNatClampNeg (some r4)) o 4 (some rs)) I2 o → Fm (fun c => (r4 ≤ c ∧ c < r4 + 5) ∨ (o + 1 ≤ c ∧ c < o + 1 + 7)) I I2 → FmL (fun c => c = o + 7) L L1 → post (some (.int (I2 r4 5))) (n, sh, q_u (q_u Rf (o + 40) p1.toNatClampNeg (some r4)) o 4 (some rs), I2, L1)) : Ev (qGG D cA b (qEx b kS vS xb xl xs)) mOffice_reform 103 (0, 0) 0 (lv_args 0 [.ref o, .int p1]) [] (n, sh, Rf, I, L) post := by
  have hz3 : R.2 3 = true := hA 3
  obtain ⟨r4', a4', b4⟩ := h.2.2.2.2.2.1
  rw [a4] at a4'
  cases a4'
  have hs : sh o = .inr 11 := h.1.1.2.2
  have ha : sh (o + 40) = .inl (.object "SaltOffice$Reform", 4) := (waOffice_3 (I := I) (L := L) h.1).2.2
  have no : ¬ ((I (o + 1) 6).toInt ≤ 700 ∧ 0 ≤ p1.toInt ∧ p1.toInt ≤ 3) → post (some (.int (-2))) (n, sh, Rf, I, L) := hno
  have z7 : (700 : Int32).toInt = 700 := rfl
  have z0 : (0 : Int32).toInt = 0 := rfl
  have z4 : (4 : Int32).toInt = 4 := rfl
  have pos := b4.2.2
  refine sOffice_reform_0 o n sh Rf I L post p1 r4 qEx_ok h.1 a4 b4.1 ⟨fun c => no (by have q := iLt c; omega), fun h0 => ⟨fun c => no (by have q := iLe c; omega), fun h1 => ⟨fun h7 => ?_, fun c => no (by have q := iNle c; omega)⟩⟩⟩
  have g0 := iNlt h0
  have g1 := iNle h1
  have cl := tCl (x := p1) (by omega)
  have vin : vp_in p1 4 := tIn (by omega) (by omega)
  obtain ⟨rs, as, bs⟩ := h.2.2.2.2.2.2.1 p1.toNatClampNeg (by omega)
  refine y_Reform_readg qEx_ok b4.1 b4.2.1 (wsOffice_0 h.1) (rsOffice_0 h.2.1) (by omega) h.2.2.2.2.2.2.2.2.2.1 h.2.2.1 (fun r I1 L1 hR1 hf1 _ tk1 gq fl => ⟨r, I1, L1, rfl, rfl, fun I2 e2 => ?_⟩)
  have hR2 : RI R I2 := hR1.up0 (rsOffice_0 h.2.1) (by decide) (Or.inr (by exact hz3)) e2 (show (0 : Int) ≤ (0 : Int32).toInt by omega) (show (0 : Int32).toInt ≤ (1600 : Int) by omega)
  have g7 := iLe h7
  have z2 : (I2 (o + 1) 6).toInt = 0 := by rw [← e2, q_u_at]; rfl
  have fl2 : FmL (fun c => c = o + 7) L L1 := fun c hc => fl c hc
  have hf2 : Fm (fun c => (r4 ≤ c ∧ c < r4 + 5) ∨ (o + 1 ≤ c ∧ c < o + 1 + 7)) I I2 := hf1.set (by first | (dsimp only; omega) | omega) e2
  have tk2 : TokOK I2 (o + 1) := tk1.fr (by rw [← e2]; exact q_u_ne (by omega)) (by rw [← e2]; exact q_u_ne (by omega))
  have h2 : OI (qGG D cA b (qEx b kS vS xb xl xs)) R n sh Rf I2 o := h.fm hR2 hf2 (fun c hc => by first | (dsimp only; omega) | omega) tk2 (h.fac hf2 (fun c hc => by first | (dsimp only; omega) | omega))
  refine ⟨fun hr => ⟨vin, rs, as, bs.1, vin, ?_⟩, fun hr => hb r I1 I2 L1 ⟨by omega, by omega, by omega⟩ hf1 gq hr e2 h2 hf2 fl2⟩
  have e1 : Eo sh Rf (q_u Rf (o + 40) p1.toNatClampNeg (some r4)) := Eo.a ha
  have w1 := wgOffice e1 (fun k _ _ _ => by rw [q_u_ne (show o ≠ o + 40 by omega)]) h.1
  have e2' : Eo sh (q_u Rf (o + 40) p1.toNatClampNeg (some r4)) (q_u (q_u Rf (o + 40) p1.toNatClampNeg (some r4)) o 4 (some rs)) := Eo.o hs
  have w2 := wgOffice e2' (fun k _ _ k4 => q_u_k k4) w1
  refine sOffice_reform_77 o n sh _ I2 L1 post p1 r _ rs r4 qEx_ok w1 (wgReform e1 bs.1) (by rw [q_u_ne (show o ≠ o + 40 by omega)]; exact a4) (wgReform e1 b4.1) ?_
  refine sOffice_reform_83 o n sh _ I2 L1 post p1 r _ rs rs qEx_ok w2 (wgReform e2' (wgReform e1 bs.1)) q_u_at (wgReform e2' (wgReform e1 bs.1)) ?_
  have h3 : OI (qGG D cA b (qEx b kS vS xb xl xs)) R n sh (q_u (q_u Rf (o + 40) p1.toNatClampNeg (some r4)) o 4 (some rs)) I2 o := h2.own (e1.trans e2') (fun k k1 k2 k4 => by rw [q_u_k k4, q_u_ne (show o ≠ o + 40 by omega)]) (by rw [q_u_k (by decide), q_u_ne (show o ≠ o + 40 by omega)]; exact h.2.2.2.1) (by rw [q_u_k (by decide), q_u_ne (show o ≠ o + 40 by omega)]; exact h.2.2.2.2.1) ⟨rs, q_u_at, bs⟩ (fun i hi => by
    rw [q_u_ne (show o + 40 ≠ o by omega)]
    by_cases hi' : i = p1.toNatClampNeg
    · subst hi'; exact ⟨r4, q_u_at, b4⟩
    · rw [q_u_k hi']; exact h.2.2.2.2.2.2.1 i hi)
  exact hg r I1 I2 L1 rs ⟨by omega, by omega, by omega⟩ hf1 gq hr e2 as h3 hf2 fl2
end XR
