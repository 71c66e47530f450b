/-! The law, call by call: what both have alike goes along. By program (lawA.py). -/
section LP
variable {D : va_G} {cA : FieldType → ClassId} {b w : Nat} {kS vS : Nat → Nat} {xb xl : Nat} {xs : Nat → Int32} {n : Nat} {sh : Nat → qC} {Rf Rf' : Nat → Nat → Option Nat} {I I' : Nat → Nat → Int32} {L L' : Nat → Nat → Int64} {post : Option Value → qS → Prop} {ox om q : Nat} {R : qRg}
/-- what both have alike between calls -/
def RX (ox om : Nat) (Rf : Nat → Nat → Option Nat) (I : Nat → Nat → Int32) (L : Nat → Nat → Int64) : Prop := ∃ l l2, Rf ox 1 = some l ∧ Rf ox 2 = some l2 ∧ ((l = ox + 8 ∧ l2 = ox + 24) ∨ (l = ox + 24 ∧ l2 = ox + 8)) ∧ RJ ox om l (tI I) ∧ KW (ox + 1) L ∧ RFa ox om (tI I)
theorem gl_eq {α : Type} {B : Nat} {I I' : Nat → α} (h : ∀ a, a < B → I' a = I a) : gl B I I' = I' := by
  funext a
  unfold gl
  split
  · next q => exact (h a q).symm
  · rfl
theorem KW.gl {o B : Nat} {L L' : gL} (h : KW o L) (ho : o + 2 < B) : KW o (gl B L L') := fun k hk => by rw [gl_lo ho]; exact h k hk
theorem KW.fm {o : Nat} {M : Nat → Prop} {L L' : gL} (h : KW o L) (hf : FmL M L L') (hM : ¬ M (o + 2)) : KW o L' := fun k hk => by rw [hf _ hM]; exact h k hk
theorem RJ.keep {ox om l : Nat} {J J' : gJ} (h : RJ ox om l J) (hl : ox + 8 ≤ l ∧ l + 16 ≤ ox + 40) (hc : ∀ r, ox ≤ r → (r < ox + 41 ∨ (ox + 47 ≤ r ∧ r < ox + 55)) → J' r = J r) (h46 : J' (ox + 46) 1 = J (ox + 46) 1) (hm : ∀ k, (k = 2 ∨ k = 34 ∨ k = 66 ∨ k = 67 ∨ k = 68) → J' om k = J om k) (hr : ∀ r, (r = om + 1 ∨ r = om + 8 ∨ r = om + 25 ∨ (om + 36 ≤ r ∧ r < om + 42)) → J' r = J r) : RJ ox om l J' :=
  ⟨h.1.fr (by rw [hc (ox + 1) (by omega) (by omega)]) (hc _ (by omega) (by omega)) (hm 2 (by omega)) (hr _ (by omega)), h.2.1.fr (by rw [hc ox (by omega) (by omega)]) h46 (hm 68 (by omega)) (hm 66 (by omega)), h.2.2.1.fr (by rw [hc l (by omega) (by omega)]) (hc _ (by omega) (by omega)) (hm 34 (by omega)) (hr _ (by omega)) (hr _ (by omega)), h.2.2.2.fr (by rw [hc (ox + 48) (by omega) (by omega)]) (hm 67 (by omega)) (fun r _ _ => hc r (by omega) (by omega)) (fun r _ _ => hr r (by omega))⟩
theorem OI.mv {G : qG} (h : OI G R n sh Rf I ox) (hR : RI R I') (e : ∀ a, a < ox + 207 → I' a = I a) : OI G R n sh Rf I' ox := by
  have hf : Fm (fun c => ox + 207 ≤ c) I I' := fun c hc => e c (Nat.lt_of_not_le hc)
  exact h.fm hR hf (fun c hc => by first | omega | (dsimp only; omega)) (h.tok hf (fun c hc => by first | omega | (dsimp only; omega))) (h.fac hf (fun c hc => by first | omega | (dsimp only; omega)))
theorem lf_x (h : OI (qGG D cA b (qEx b kS vS xb xl xs)) R n sh Rf I ox) : b ≤ ox ∧ ox < b + n ∧ sh ox = .inr 11 := ⟨h.1.1.1, by have : ox + 186 < b + n := h.1.1.2.1; omega, h.1.1.2.2⟩
theorem lf_m (hw : w ≤ n) (h : MI (qGG D cA (b + w) qTr) R (n - w) sh Rf I om) : b ≤ om ∧ om < b + n ∧ sh om = .inr 12 := ⟨by have : b + w ≤ om := h.1.1.1; omega, by have : om + 101 < b + w + (n - w) := h.1.1.2.1; omega, h.1.1.2.2⟩
theorem mi_up {Rf' : Nat → Nat → Option Nat} {I' : Nat → Nat → Int32} (hM : MI (qGG D cA (b + w) qTr) R (n - w) sh Rf I om) (hX' : OI (qGG D cA b (qEx b kS vS xb xl xs)) R n sh Rf' I' ox) (e : ∀ a, om ≤ a → Rf' a = Rf a ∧ I' a = I a) : MI (qGG D cA (b + w) qTr) R (n - w) sh Rf' I' om := hM.up hX'.2.2.1 e
theorem okW : q_ok (qGG D cA (b + w) qTr) := qok D cA (b + w) qTr (fun _ _ _ _ _ => trivial) (fun _ _ _ _ _ => trivial)
/-- a call goes on -/
theorem lf_go (how : om = b + w) (ho : ox + 207 = om) {Rf : Nat → Nat → Option Nat} {I2 I3 : Nat → Nat → Int32} {L2 L3 : Nat → Nat → Int64} (kk : ∀ Rf I L, RX ox om Rf I L → OI (qGG D cA b (qEx b kS vS xb xl xs)) R n sh Rf I ox → MI (qGG D cA (b + w) qTr) R (n - w) sh Rf I om → Ev (qGG D cA b (qEx b kS vS xb xl xs)) mLaw 110 (0, 0) 976 (lwL xb ox om q) [] (n, sh, Rf, I, L) post) (hX : OI (qGG D cA b (qEx b kS vS xb xl xs)) R n sh Rf I2 ox) (hM : MI (qGG D cA (b + w) qTr) R (n - w) sh Rf I3 om) (lo : ∀ a, a < om → I3 a = I2 a) {l l2 : Nat} (r1 : Rf ox 1 = some l) (r2 : Rf ox 2 = some l2) (r3 : (l = ox + 8 ∧ l2 = ox + 24) ∨ (l = ox + 24 ∧ l2 = ox + 8)) (r4 : RJ ox om l (tI I3)) (r5 : KW (ox + 1) L2) (r6 : RFa ox om (tI I3)) : Ev (qGG D cA b (qEx b kS vS xb xl xs)) mLaw 110 (0, 0) 976 (lwL xb ox om q) [] (n, sh, Rf, gl (b + w) I2 I3, gl (b + w) L2 L3) post := by
  rw [← how, gl_eq lo]
  exact kk _ _ _ ⟨l, l2, r1, r2, r3, r4, r5.gl (by omega), r6⟩ (hX.mv hM.2.2.1 (fun a ha => lo a (by omega))) hM
theorem tIr {a : Nat} (h : I' a = I a) : tI I' a = tI I a := by
  funext k
  show (I' a k).toInt = (I a k).toInt
  rw [h]
theorem tIk {a k : Nat} (h : I' a k = I a k) : tI I' a k = tI I a k := congrArg Int32.toInt h
set_option maxHeartbeats 1000000 in
theorem lf_feed (hq : q + 6 ≤ xl) (hxl : xl < 2 ^ 31) (hA : ∀ j, R.2 j = true) (hX : OI (qGG D cA b (qEx b kS vS xb xl xs)) R n sh Rf I ox) (hw : w ≤ n) (hM : MI (qGG D cA (b + w) qTr) R (n - w) sh Rf I om) (how : om = b + w) (ho : ox + 207 = om) (hr : RX ox om Rf I L) (kk : ∀ Rf I L, RX ox om Rf I L → OI (qGG D cA b (qEx b kS vS xb xl xs)) R n sh Rf I ox → MI (qGG D cA (b + w) qTr) R (n - w) sh Rf I om → Ev (qGG D cA b (qEx b kS vS xb xl xs)) mLaw 110 (0, 0) 976 (lwL xb ox om q) [] (n, sh, Rf, I, L) post) : Ev (qGG D cA b (qEx b kS vS xb xl xs)) mLaw 110 (0, 0) 144 (lwL xb ox om q) [] (n, sh, Rf, I, L) post := by
  obtain ⟨l, l2, r1, r2, r3, r4, r5, r6⟩ := hr
  have hl : ox + 8 ≤ l ∧ l + 16 ≤ ox + 40 := by omega
  refine lw_feed hq hxl hw (lf_x hX) (lf_m hw hM) (ev_deep (by decide) (yx_feed hA hX (fun r I' L'  gc hX' fc fl => ⟨r, Rf, I', L', rfl, rfl, ?_⟩)))
  have hM' : MI (qGG D cA (b + w) qTr) R (n - w) sh Rf I' om := hM.up hX'.2.2.1 (fun a ha => ⟨rfl, fc a (by first | omega | (dsimp only; omega))⟩)
  refine ev_deep (by decide) (yz_feed okW hA hM' (fun rB I2 L2 mi fm kp  gm => ?_))
  have g := r_feed r4 ho hl gc gm
  exact ⟨rB, I2, L2, rfl, rfl, lf_go how ho kk hX' mi (fun a ha => fm a (by first | omega | (dsimp only; omega))) r1 r2 r3 g.2 (r5.fm fl (fun q => q)) (r6.fr ((tIk (by rw [fm (ox + 1) (by first | omega | (dsimp only; omega))])).trans (r_feedF r4.1 gc 7 (by decide))) ((tIk (by rw [fm (ox + 1) (by first | omega | (dsimp only; omega))])).trans (r_feedF r4.1 gc 8 (by decide))) (tIk (by rw [kp 4 rfl, fc om (by first | omega | (dsimp only; omega))])) (tIk (by rw [kp 5 rfl, fc om (by first | omega | (dsimp only; omega))])))⟩
set_option maxHeartbeats 1000000 in
theorem lf_end (hq : q + 6 ≤ xl) (hxl : xl < 2 ^ 31) (hA : ∀ j, R.2 j = true) (hX : OI (qGG D cA b (qEx b kS vS xb xl xs)) R n sh Rf I ox) (hw : w ≤ n) (hM : MI (qGG D cA (b + w) qTr) R (n - w) sh Rf I om) (how : om = b + w) (ho : ox + 207 = om) (hr : RX ox om Rf I L) (kk : ∀ Rf I L, RX ox om Rf I L → OI (qGG D cA b (qEx b kS vS xb xl xs)) R n sh Rf I ox → MI (qGG D cA (b + w) qTr) R (n - w) sh Rf I om → Ev (qGG D cA b (qEx b kS vS xb xl xs)) mLaw 110 (0, 0) 976 (lwL xb ox om q) [] (n, sh, Rf, I, L) post) : Ev (qGG D cA b (qEx b kS vS xb xl xs)) mLaw 110 (0, 0) 207 (lwL xb ox om q) [] (n, sh, Rf, I, L) post := by
  obtain ⟨l, l2, r1, r2, r3, r4, r5, r6⟩ := hr
  have hl : ox + 8 ≤ l ∧ l + 16 ≤ ox + 40 := by omega
  refine lw_end hq hxl hw (lf_x hX) (lf_m hw hM) (ev_deep (by decide) (yx_end hA hX (fun r I' L'  gc hX' fc fl => ⟨r, Rf, I', L', rfl, rfl, ?_⟩)))
  have hM' : MI (qGG D cA (b + w) qTr) R (n - w) sh Rf I' om := hM.up hX'.2.2.1 (fun a ha => ⟨rfl, fc a (by first | omega | (dsimp only; omega))⟩)
  refine ev_deep (by decide) (yz_end okW hA hM' (fun rB I2 L2 mi fm kp  gm => ?_))
  have g := r_end r4 ho hl gc gm
  exact ⟨rB, I2, L2, rfl, rfl, lf_go how ho kk hX' mi (fun a ha => fm a (by first | omega | (dsimp only; omega))) r1 r2 r3 g.2 (r5.fm fl (fun q => q)) (r6.fr ((tIk (by rw [fm (ox + 1) (by first | omega | (dsimp only; omega))])).trans (r_endF gc 7 (by decide))) ((tIk (by rw [fm (ox + 1) (by first | omega | (dsimp only; omega))])).trans (r_endF gc 8 (by decide))) (tIk (by rw [kp 4 rfl, fc om (by first | omega | (dsimp only; omega))])) (tIk (by rw [kp 5 rfl, fc om (by first | omega | (dsimp only; omega))])))⟩
set_option maxHeartbeats 1000000 in
theorem lf_land (hq : q + 6 ≤ xl) (hxl : xl < 2 ^ 31) (hA : ∀ j, R.2 j = true) (hX : OI (qGG D cA b (qEx b kS vS xb xl xs)) R n sh Rf I ox) (hw : w ≤ n) (hM : MI (qGG D cA (b + w) qTr) R (n - w) sh Rf I om) (how : om = b + w) (ho : ox + 207 = om) (hr : RX ox om Rf I L) (kk : ∀ Rf I L, RX ox om Rf I L → OI (qGG D cA b (qEx b kS vS xb xl xs)) R n sh Rf I ox → MI (qGG D cA (b + w) qTr) R (n - w) sh Rf I om → Ev (qGG D cA b (qEx b kS vS xb xl xs)) mLaw 110 (0, 0) 976 (lwL xb ox om q) [] (n, sh, Rf, I, L) post) : Ev (qGG D cA b (qEx b kS vS xb xl xs)) mLaw 110 (0, 0) 230 (lwL xb ox om q) [] (n, sh, Rf, I, L) post := by
  obtain ⟨l, l2, r1, r2, r3, r4, r5, r6⟩ := hr
  have hl : ox + 8 ≤ l ∧ l + 16 ≤ ox + 40 := by omega
  have hl2 : ox + 8 ≤ l2 ∧ l2 + 16 ≤ ox + 40 := by omega
  refine lw_land hq hxl hw (lf_x hX) (lf_m hw hM) (ev_deep (by decide) (yx_land hA r1 r2 hX (fun r I1 I2 L1 f1 gc hr0 e2 hX' fc => ⟨_, Rf, I2, L1, rfl, rfl, ?_⟩) (fun r I1 I2 I3 I4 L1 f1 gc hr0 e2 e3 e4 hX' fc => ⟨_, q_u (q_u Rf ox 1 (some l2)) ox 2 (some l), I4, L1, rfl, rfl, ?_⟩)))
  · have hM' : MI (qGG D cA (b + w) qTr) R (n - w) sh Rf I2 om := hM.up hX'.2.2.1 (fun a ha => ⟨rfl, fc a (by first | omega | (dsimp only; omega))⟩)
    refine ev_deep (by decide) (yz_land okW hA hM' (fun rB I3 L3 mi fm kp u0 gm => ?_))
    have u1 : ∀ c, ¬ (l2 ≤ c ∧ c < l2 + 16) → ¬ (ox + 1 ≤ c ∧ c < ox + 8) → tI I1 c = tI I c := fun c a d => tIr (f1 c (by dsimp only; omega))
    have g := r_landB r4 r5 ho hl hl2 (by omega) gc (by rw [hr0]; rfl) u1 (tI_q e2) gm (fun c hc => tIr (fm c hc)) (fun k hk => tIk (kp k (by rcases hk with e | e <;> subst e <;> rfl)))
    have gf := r_landF r4 r5 ho hl2 (fun c hc => tIr (fc c (by first | omega | (dsimp only; omega)))) gc gm
    exact ⟨rB, I3, L3, rfl, rfl, lf_go how ho kk hX' mi (fun a ha => fm a (by first | omega | (dsimp only; omega))) r1 r2 r3 g.2.1 g.2.2 ⟨(tIk (by rw [fm (ox + 1) (by first | omega | (dsimp only; omega)), ← e2, q_u_k (by decide)])).trans gf.1.symm, (tIk (by rw [fm (ox + 1) (by first | omega | (dsimp only; omega)), ← e2, q_u_k (by decide)])).trans gf.2.symm⟩⟩
  · have hM' : MI (qGG D cA (b + w) qTr) R (n - w) sh (q_u (q_u Rf ox 1 (some l2)) ox 2 (some l)) I4 om := hM.up hX'.2.2.1 (fun a ha => ⟨by rw [q_u_ne (by omega), q_u_ne (by omega)], fc a (by first | omega | (dsimp only; omega))⟩)
    refine ev_deep (by decide) (yz_land okW hA hM' (fun rB I5 L5 mi fm kp u0 gm => ?_))
    have u1 : ∀ c, ¬ (l2 ≤ c ∧ c < l2 + 16) → ¬ (ox + 1 ≤ c ∧ c < ox + 8) → tI I1 c = tI I c := fun c a d => tIr (f1 c (by dsimp only; omega))
    have g := r_landG r4 r5 ho hl2 gc (by intro z; exact hr0 (Int32.toInt_inj.mp z)) u1 ((congrArg (fun J => q_u (q_u J (ox + 48) 6 0) (ox + 55) 15 0) (tI_q e2)).trans ((congrArg (fun J => q_u J (ox + 55) 15 0) (tI_q e3)).trans (tI_q e4))) gm (fun c hc => tIr (fm c hc)) (fun k hk => tIk (kp k (by rcases hk with e | e <;> subst e <;> rfl)))
    have gf := r_landF r4 r5 ho hl2 (fun c hc => tIr (fc c (by first | omega | (dsimp only; omega)))) gc gm
    have b0 := g.2.1 0 (by decide)
    have b1 := g.2.1 1 (by decide)
    have b2 := g.2.1 2 (by decide)
    have b3 := g.2.1 3 (by decide)
    have sum : tI I4 l2 0 + tI I4 l2 1 + tI I4 l2 2 + tI I4 l2 3 = (((I4 l2 0 + I4 l2 1) + I4 l2 2) + I4 l2 3).toInt := by
      have b0' : 0 ≤ (I4 l2 0).toInt ∧ (I4 l2 0).toInt ≤ 24 := b0
      have b1' : 0 ≤ (I4 l2 1).toInt ∧ (I4 l2 1).toInt ≤ 24 := b1
      have b2' : 0 ≤ (I4 l2 2).toInt ∧ (I4 l2 2).toInt ≤ 24 := b2
      have b3' : 0 ≤ (I4 l2 3).toInt ∧ (I4 l2 3).toInt ≤ 24 := b3
      have s1 : (I4 l2 0 + I4 l2 1).toInt = (I4 l2 0).toInt + (I4 l2 1).toInt := tAdd (by omega) (by omega)
      have s2 : (I4 l2 0 + I4 l2 1 + I4 l2 2).toInt = (I4 l2 0 + I4 l2 1).toInt + (I4 l2 2).toInt := tAdd (by omega) (by omega)
      have s3 : (I4 l2 0 + I4 l2 1 + I4 l2 2 + I4 l2 3).toInt = (I4 l2 0 + I4 l2 1 + I4 l2 2).toInt + (I4 l2 3).toInt := tAdd (by omega) (by omega)
      rw [s3, s2, s1]
    exact ⟨rB, I5, L5, rfl, rfl, lf_go how ho kk hX' mi (fun a ha => fm a (by first | omega | (dsimp only; omega))) (l := l2) (l2 := l) (by rw [q_u_k (by decide)]; exact q_u_at) q_u_at (by omega) g.2.2.1 g.2.2.2 ⟨(tIk (by rw [fm (ox + 1) (by first | omega | (dsimp only; omega)), ← e4, q_u_ne (by omega), ← e3, q_u_ne (by omega), ← e2, q_u_k (by decide)])).trans gf.1.symm, (tIk (by rw [fm (ox + 1) (by first | omega | (dsimp only; omega)), ← e4, q_u_ne (by omega), ← e3, q_u_ne (by omega), ← e2, q_u_k (by decide)])).trans gf.2.symm⟩⟩
set_option maxHeartbeats 1000000 in
theorem lf_reform (hq : q + 6 ≤ xl) (hxl : xl < 2 ^ 31) (hA : ∀ j, R.2 j = true) (hX : OI (qGG D cA b (qEx b kS vS xb xl xs)) R n sh Rf I ox) (hw : w ≤ n) (hM : MI (qGG D cA (b + w) qTr) R (n - w) sh Rf I om) (how : om = b + w) (ho : ox + 207 = om) (hr : RX ox om Rf I L) (kk : ∀ Rf I L, RX ox om Rf I L → OI (qGG D cA b (qEx b kS vS xb xl xs)) R n sh Rf I ox → MI (qGG D cA (b + w) qTr) R (n - w) sh Rf I om → Ev (qGG D cA b (qEx b kS vS xb xl xs)) mLaw 110 (0, 0) 976 (lwL xb ox om q) [] (n, sh, Rf, I, L) post) : Ev (qGG D cA b (qEx b kS vS xb xl xs)) mLaw 110 (0, 0) 243 (lwL xb ox om q) [] (n, sh, Rf, I, L) post := by
  obtain ⟨l, l2, r1, r2, r3, r4, r5, r6⟩ := hr
  have hl : ox + 8 ≤ l ∧ l + 16 ≤ ox + 40 := by omega
  obtain ⟨s4, a4, b4⟩ := hX.2.2.2.2.2.1
  have p4 := b4.2.2
  have e62 : (I (ox + 1) 6).toInt = (I om 2).toInt := r4.1.1
  refine lw_reform hq hxl hw (lf_x hX) (lf_m hw hM) (ev_deep (by decide) (yx_reformg hA a4 hX (fun no => ⟨_, Rf, I, L, rfl, rfl, ?_⟩) (fun r I1 I2 L1 ok f1 gc hr0 e2 hX' fc fl => ⟨_, Rf, I2, L1, rfl, rfl, ?_⟩) (fun r I1 I2 L1 rs ok f1 gc hr0 e2 as hX' fc fl => ⟨_, _, I2, L1, rfl, rfl, ?_⟩)))
  · refine ev_deep (by decide) (yz_reformg okW hA hM (fun rB I3 L3 mi fm kp u0 u1 gm => ?_))
    rw [r_reformN (fun z => no ⟨by rw [e62]; exact z.1, z.2⟩)] at gm
    have g1 : rB.toInt = -2 := (congrArg Prod.fst gm).symm
    have g2 : tI I3 = tI I := (congrArg (fun z => z.2.1) gm).symm
    exact ⟨rB, I3, L3, rfl, rfl, lf_go how ho kk hX mi (fun a ha => fm a (by first | omega | (dsimp only; omega))) r1 r2 r3 (by rw [g2]; exact r4) r5 (by rw [g2]; exact r6)⟩
  · have hM' := mi_up hM hX' (fun a ha => ⟨rfl, fc a (by first | omega | (dsimp only; omega))⟩)
    refine ev_deep (by decide) (yz_reformg okW hA hM' (fun rB I3 L3 mi fm kp u0 u1 gm => ?_))
    have u1' : ∀ c, ¬ (s4 ≤ c ∧ c < s4 + 5) → ¬ (ox + 1 ≤ c ∧ c < ox + 1 + 7) → tI I1 c = tI I c := fun c a d => tIr (f1 c (by dsimp only; omega))
    have rz := r_reformS r4 r5 ho p4 (by show (I om 2).toInt ≤ 700; rw [← e62]; exact ok.1) ok.2 (fun c hc => tIr (fc c (by first | omega | (dsimp only; omega)))) gc gm
    have rj := r_reformJ r4 ho hl p4 rz.1 u1' (tI_q e2) (fun c hc => tIr (fm c (by first | omega | (dsimp only; omega))))
    have a1 := (rz.1.2.1 (by rw [hr0]; rfl)).1
    exact ⟨rB, I3, L3, rfl, rfl, lf_go how ho kk hX' mi (fun a ha => fm a (by first | omega | (dsimp only; omega))) r1 r2 r3 rj.1 rz.2 rj.2⟩
  · have hM' := mi_up hM hX' (fun a ha => ⟨by rw [q_u_ne (by omega), q_u_ne (by omega)], fc a (by first | omega | (dsimp only; omega))⟩)
    refine ev_deep (by decide) (yz_reformg okW hA hM' (fun rB I3 L3 mi fm kp u0 u1 gm => ?_))
    have u1' : ∀ c, ¬ (s4 ≤ c ∧ c < s4 + 5) → ¬ (ox + 1 ≤ c ∧ c < ox + 1 + 7) → tI I1 c = tI I c := fun c a d => tIr (f1 c (by dsimp only; omega))
    have rz := r_reformS r4 r5 ho p4 (by show (I om 2).toInt ≤ 700; rw [← e62]; exact ok.1) ok.2 (fun c hc => tIr (fc c (by first | omega | (dsimp only; omega)))) gc gm
    have rj := r_reformJ r4 ho hl p4 rz.1 u1' (tI_q e2) (fun c hc => tIr (fm c (by first | omega | (dsimp only; omega))))
    have a1 := (rz.1.2.2.1 (rz.1.1.resolve_left (fun z => hr0 (Int32.toInt_inj.mp z)))).1
    exact ⟨rB, I3, L3, rfl, rfl, lf_go how ho kk hX' mi (fun a ha => fm a (by first | omega | (dsimp only; omega))) (by rw [q_u_k (by decide), q_u_ne (by omega)]; exact r1) (by rw [q_u_k (by decide), q_u_ne (by omega)]; exact r2) r3 rj.1 rz.2 rj.2⟩
set_option maxHeartbeats 1000000 in
theorem lf_fault (hq : q + 6 ≤ xl) (hxl : xl < 2 ^ 31) (hA : ∀ j, R.2 j = true) (hX : OI (qGG D cA b (qEx b kS vS xb xl xs)) R n sh Rf I ox) (hw : w ≤ n) (hM : MI (qGG D cA (b + w) qTr) R (n - w) sh Rf I om) (how : om = b + w) (ho : ox + 207 = om) (hr : RX ox om Rf I L) (kk : ∀ Rf I L, RX ox om Rf I L → OI (qGG D cA b (qEx b kS vS xb xl xs)) R n sh Rf I ox → MI (qGG D cA (b + w) qTr) R (n - w) sh Rf I om → Ev (qGG D cA b (qEx b kS vS xb xl xs)) mLaw 110 (0, 0) 976 (lwL xb ox om q) [] (n, sh, Rf, I, L) post) : Ev (qGG D cA b (qEx b kS vS xb xl xs)) mLaw 110 (0, 0) 266 (lwL xb ox om q) [] (n, sh, Rf, I, L) post := by
  obtain ⟨l, l2, r1, r2, r3, r4, r5, r6⟩ := hr
  have hl : ox + 8 ≤ l ∧ l + 16 ≤ ox + 40 := by omega
  refine lw_fault hq hxl hw (lf_x hX) (lf_m hw hM) (ev_deep (by decide) (yx_fault hA hX (fun r  gc => ⟨r, Rf, I, L, rfl, rfl, ?_⟩)))
  exact ev_deep (by decide) (yz_faultg okW hA hM (fun rB L2  gm => ⟨I, L2, (by rw [Int32.toInt_inj.mp (r_fault r6 gc gm)]), rfl, lf_go how ho kk hX hM (fun _ _ => rfl) r1 r2 r3 r4 r5 r6⟩))
set_option maxHeartbeats 1000000 in
theorem lf_days (hq : q + 6 ≤ xl) (hxl : xl < 2 ^ 31) (hA : ∀ j, R.2 j = true) (hX : OI (qGG D cA b (qEx b kS vS xb xl xs)) R n sh Rf I ox) (hw : w ≤ n) (hM : MI (qGG D cA (b + w) qTr) R (n - w) sh Rf I om) (how : om = b + w) (ho : ox + 207 = om) (hr : RX ox om Rf I L) (kk : ∀ Rf I L, RX ox om Rf I L → OI (qGG D cA b (qEx b kS vS xb xl xs)) R n sh Rf I ox → MI (qGG D cA (b + w) qTr) R (n - w) sh Rf I om → Ev (qGG D cA b (qEx b kS vS xb xl xs)) mLaw 110 (0, 0) 976 (lwL xb ox om q) [] (n, sh, Rf, I, L) post) : Ev (qGG D cA b (qEx b kS vS xb xl xs)) mLaw 110 (0, 0) 289 (lwL xb ox om q) [] (n, sh, Rf, I, L) post := by
  obtain ⟨l, l2, r1, r2, r3, r4, r5, r6⟩ := hr
  have hl : ox + 8 ≤ l ∧ l + 16 ≤ ox + 40 := by omega
  refine lw_days hq hxl hw (lf_x hX) (lf_m hw hM) (ev_deep (by decide) (yx_days hA r1 hX (fun r  gc => ⟨r, Rf, I, L, rfl, rfl, ?_⟩)))
  exact ev_deep (by decide) (yz_days okW hA hM (fun rB L2  gm => ⟨rB, I, L2, rfl, rfl, lf_go how ho kk hX hM (fun _ _ => rfl) r1 r2 r3 r4 r5 r6⟩))
set_option maxHeartbeats 1000000 in
theorem lf_merchant (hq : q + 6 ≤ xl) (hxl : xl < 2 ^ 31) (hA : ∀ j, R.2 j = true) (hX : OI (qGG D cA b (qEx b kS vS xb xl xs)) R n sh Rf I ox) (hw : w ≤ n) (hM : MI (qGG D cA (b + w) qTr) R (n - w) sh Rf I om) (how : om = b + w) (ho : ox + 207 = om) (hr : RX ox om Rf I L) (kk : ∀ Rf I L, RX ox om Rf I L → OI (qGG D cA b (qEx b kS vS xb xl xs)) R n sh Rf I ox → MI (qGG D cA (b + w) qTr) R (n - w) sh Rf I om → Ev (qGG D cA b (qEx b kS vS xb xl xs)) mLaw 110 (0, 0) 976 (lwL xb ox om q) [] (n, sh, Rf, I, L) post) : Ev (qGG D cA b (qEx b kS vS xb xl xs)) mLaw 110 (0, 0) 322 (lwL xb ox om q) [] (n, sh, Rf, I, L) post := by
  obtain ⟨l, l2, r1, r2, r3, r4, r5, r6⟩ := hr
  have hl : ox + 8 ≤ l ∧ l + 16 ≤ ox + 40 := by omega
  refine lw_merchant hq hxl hw (lf_x hX) (lf_m hw hM) (ev_deep (by decide) (yx_merchant hA hX (fun r I' L'  gc hX' fc fl => ⟨r, Rf, I', L', rfl, rfl, ?_⟩)))
  have hM' : MI (qGG D cA (b + w) qTr) R (n - w) sh Rf I' om := hM.up hX'.2.2.1 (fun a ha => ⟨rfl, fc a (by first | omega | (dsimp only; omega))⟩)
  refine ev_deep (by decide) (yz_merchant okW hA hM' (fun rB I2 L2 mi fm kp  gm => ?_))
  have g := r_merchant r4 ho hl gc gm
  exact ⟨rB, I2, L2, rfl, rfl, lf_go how ho kk hX' mi (fun a ha => fm a (by first | omega | (dsimp only; omega))) r1 r2 r3 g.2 (r5.fm fl (fun q => q)) (r6.fr (tIk (by rw [fm (ox + 1) (by first | omega | (dsimp only; omega)), fc (ox + 1) (by first | omega | (dsimp only; omega))])) (tIk (by rw [fm (ox + 1) (by first | omega | (dsimp only; omega)), fc (ox + 1) (by first | omega | (dsimp only; omega))])) (tIk (by rw [kp 4 rfl, fc om (by first | omega | (dsimp only; omega))])) (tIk (by rw [kp 5 rfl, fc om (by first | omega | (dsimp only; omega))])))⟩
set_option maxHeartbeats 1000000 in
theorem lf_costs (hq : q + 6 ≤ xl) (hxl : xl < 2 ^ 31) (hA : ∀ j, R.2 j = true) (hX : OI (qGG D cA b (qEx b kS vS xb xl xs)) R n sh Rf I ox) (hw : w ≤ n) (hM : MI (qGG D cA (b + w) qTr) R (n - w) sh Rf I om) (how : om = b + w) (ho : ox + 207 = om) (hr : RX ox om Rf I L) (kk : ∀ Rf I L, RX ox om Rf I L → OI (qGG D cA b (qEx b kS vS xb xl xs)) R n sh Rf I ox → MI (qGG D cA (b + w) qTr) R (n - w) sh Rf I om → Ev (qGG D cA b (qEx b kS vS xb xl xs)) mLaw 110 (0, 0) 976 (lwL xb ox om q) [] (n, sh, Rf, I, L) post) : Ev (qGG D cA b (qEx b kS vS xb xl xs)) mLaw 110 (0, 0) 345 (lwL xb ox om q) [] (n, sh, Rf, I, L) post := by
  obtain ⟨l, l2, r1, r2, r3, r4, r5, r6⟩ := hr
  have hl : ox + 8 ≤ l ∧ l + 16 ≤ ox + 40 := by omega
  refine lw_costs hq hxl hw (lf_x hX) (lf_m hw hM) (ev_deep (by decide) (yx_costs hA hX (fun r I' L' c0 c1 gc hX' fc fl => ⟨r, Rf, I', L', rfl, rfl, ?_⟩)))
  have hM' : MI (qGG D cA (b + w) qTr) R (n - w) sh Rf I' om := hM.up hX'.2.2.1 (fun a ha => ⟨rfl, fc a (by first | omega | (dsimp only; omega))⟩)
  have k46 : tI I' (ox + 46) 1 = tI I (ox + 46) 1 := r_costs r4 ho hl gc (fun c hc => tIr (fc c hc))
  exact ev_deep (by decide) (yz_costs okW hA hM' (fun rB I2 L2 mi fm kp u0 u1 => ⟨rB, I2, L2, rfl, rfl, lf_go how ho kk hX' mi (fun a ha => fm a (by first | omega | (dsimp only; omega))) r1 r2 r3 (r4.keep hl (fun r h1 h2 => tIr ((fm r (by first | omega | (dsimp only; omega))).trans (fc r (by first | omega | (dsimp only; omega))))) ((tIk (by rw [fm (ox + 46) (by first | omega | (dsimp only; omega))])).trans k46) (fun k hk => tIk (by rw [kp k (by rcases hk with e | e | e | e | e <;> subst e <;> rfl), fc om (by first | omega | (dsimp only; omega))])) (fun r h => tIr ((fm r (by first | omega | (dsimp only; omega))).trans (fc r (by first | omega | (dsimp only; omega)))))) (r5.fm fl (fun q => q)) (r6.fr (tIk (by rw [fm (ox + 1) (by first | omega | (dsimp only; omega)), fc (ox + 1) (by first | omega | (dsimp only; omega))])) (tIk (by rw [fm (ox + 1) (by first | omega | (dsimp only; omega)), fc (ox + 1) (by first | omega | (dsimp only; omega))])) (tIk (by rw [kp 4 rfl, fc om (by first | omega | (dsimp only; omega))])) (tIk (by rw [kp 5 rfl, fc om (by first | omega | (dsimp only; omega))])))⟩))
set_option maxHeartbeats 1000000 in
theorem lf_weather (hq : q + 6 ≤ xl) (hxl : xl < 2 ^ 31) (hA : ∀ j, R.2 j = true) (hX : OI (qGG D cA b (qEx b kS vS xb xl xs)) R n sh Rf I ox) (hw : w ≤ n) (hM : MI (qGG D cA (b + w) qTr) R (n - w) sh Rf I om) (how : om = b + w) (ho : ox + 207 = om) (hr : RX ox om Rf I L) (kk : ∀ Rf I L, RX ox om Rf I L → OI (qGG D cA b (qEx b kS vS xb xl xs)) R n sh Rf I ox → MI (qGG D cA (b + w) qTr) R (n - w) sh Rf I om → Ev (qGG D cA b (qEx b kS vS xb xl xs)) mLaw 110 (0, 0) 976 (lwL xb ox om q) [] (n, sh, Rf, I, L) post) : Ev (qGG D cA b (qEx b kS vS xb xl xs)) mLaw 110 (0, 0) 408 (lwL xb ox om q) [] (n, sh, Rf, I, L) post := by
  obtain ⟨l, l2, r1, r2, r3, r4, r5, r6⟩ := hr
  have hl : ox + 8 ≤ l ∧ l + 16 ≤ ox + 40 := by omega
  refine lw_weather hq hxl hw (lf_x hX) (lf_m hw hM) (ev_deep (by decide) (yx_weather hA r1 hX (fun r I' L'  gc hX' fc fl => ⟨r, Rf, I', L', rfl, rfl, ?_⟩)))
  have hM' : MI (qGG D cA (b + w) qTr) R (n - w) sh Rf I' om := hM.up hX'.2.2.1 (fun a ha => ⟨rfl, fc a (by first | omega | (dsimp only; omega))⟩)
  refine ev_deep (by decide) (yz_weather okW hA hM' (fun rB I2 L2 mi fm kp  gm => ?_))
  have g := r_weather r4 ho hl gc gm (fun c hc => tIr (fc c hc))
  exact ⟨rB, I2, L2, rfl, rfl, lf_go how ho kk hX' mi (fun a ha => fm a (by first | omega | (dsimp only; omega))) r1 r2 r3 g.2 (r5.fm fl (fun q => q)) (r6.fr (tIk (by rw [fm (ox + 1) (by first | omega | (dsimp only; omega)), fc (ox + 1) (by first | omega | (dsimp only; omega))])) (tIk (by rw [fm (ox + 1) (by first | omega | (dsimp only; omega)), fc (ox + 1) (by first | omega | (dsimp only; omega))])) (tIk (by rw [kp 4 rfl, fc om (by first | omega | (dsimp only; omega))])) (tIk (by rw [kp 5 rfl, fc om (by first | omega | (dsimp only; omega))])))⟩
set_option maxHeartbeats 1000000 in
theorem lf_forged (hq : q + 6 ≤ xl) (hxl : xl < 2 ^ 31) (hA : ∀ j, R.2 j = true) (hX : OI (qGG D cA b (qEx b kS vS xb xl xs)) R n sh Rf I ox) (hw : w ≤ n) (hM : MI (qGG D cA (b + w) qTr) R (n - w) sh Rf I om) (how : om = b + w) (ho : ox + 207 = om) (hr : RX ox om Rf I L) (kk : ∀ Rf I L, RX ox om Rf I L → OI (qGG D cA b (qEx b kS vS xb xl xs)) R n sh Rf I ox → MI (qGG D cA (b + w) qTr) R (n - w) sh Rf I om → Ev (qGG D cA b (qEx b kS vS xb xl xs)) mLaw 110 (0, 0) 976 (lwL xb ox om q) [] (n, sh, Rf, I, L) post) : Ev (qGG D cA b (qEx b kS vS xb xl xs)) mLaw 110 (0, 0) 451 (lwL xb ox om q) [] (n, sh, Rf, I, L) post := by
  obtain ⟨l, l2, r1, r2, r3, r4, r5, r6⟩ := hr
  have hl : ox + 8 ≤ l ∧ l + 16 ≤ ox + 40 := by omega
  refine lw_forged hq hxl hw (lf_x hX) (lf_m hw hM) (ev_deep (by decide) (yx_forged hA hX (fun r I' L'  gc hX' fc fl => ⟨r, Rf, I', L', rfl, rfl, ?_⟩)))
  have hM' : MI (qGG D cA (b + w) qTr) R (n - w) sh Rf I' om := hM.up hX'.2.2.1 (fun a ha => ⟨rfl, fc a (by first | omega | (dsimp only; omega))⟩)
  refine ev_deep (by decide) (yz_forged okW hA hM' (fun rB I2 L2 mi fm kp  gm => ?_))
  have g := r_forged r4 ho hl gc gm
  exact ⟨rB, I2, L2, rfl, rfl, lf_go how ho kk hX' mi (fun a ha => fm a (by first | omega | (dsimp only; omega))) r1 r2 r3 g.2 (r5.fm fl (fun q => q)) (r6.fr (tIk (by rw [fm (ox + 1) (by first | omega | (dsimp only; omega)), fc (ox + 1) (by first | omega | (dsimp only; omega))])) (tIk (by rw [fm (ox + 1) (by first | omega | (dsimp only; omega)), fc (ox + 1) (by first | omega | (dsimp only; omega))])) (tIk (by rw [kp 4 rfl, fc om (by first | omega | (dsimp only; omega))])) (tIk (by rw [kp 5 rfl, fc om (by first | omega | (dsimp only; omega))])))⟩
set_option maxHeartbeats 1000000 in
theorem lf_dead (hq : q + 6 ≤ xl) (hxl : xl < 2 ^ 31) (hA : ∀ j, R.2 j = true) (hX : OI (qGG D cA b (qEx b kS vS xb xl xs)) R n sh Rf I ox) (hw : w ≤ n) (hM : MI (qGG D cA (b + w) qTr) R (n - w) sh Rf I om) (how : om = b + w) (ho : ox + 207 = om) (hr : RX ox om Rf I L) (kk : ∀ Rf I L, RX ox om Rf I L → OI (qGG D cA b (qEx b kS vS xb xl xs)) R n sh Rf I ox → MI (qGG D cA (b + w) qTr) R (n - w) sh Rf I om → Ev (qGG D cA b (qEx b kS vS xb xl xs)) mLaw 110 (0, 0) 976 (lwL xb ox om q) [] (n, sh, Rf, I, L) post) : Ev (qGG D cA b (qEx b kS vS xb xl xs)) mLaw 110 (0, 0) 484 (lwL xb ox om q) [] (n, sh, Rf, I, L) post := by
  obtain ⟨l, l2, r1, r2, r3, r4, r5, r6⟩ := hr
  have hl : ox + 8 ≤ l ∧ l + 16 ≤ ox + 40 := by omega
  refine lw_dead hq hxl hw (lf_x hX) (lf_m hw hM) (ev_deep (by decide) (yx_dead hA hX (fun r I' L'  gc hX' fc fl => ⟨r, Rf, I', L', rfl, rfl, ?_⟩)))
  have hM' : MI (qGG D cA (b + w) qTr) R (n - w) sh Rf I' om := hM.up hX'.2.2.1 (fun a ha => ⟨rfl, fc a (by first | omega | (dsimp only; omega))⟩)
  refine ev_deep (by decide) (yz_dead okW hA hM' (fun rB I2 L2 mi fm kp  gm => ?_))
  have g := r_dead r4 ho hl gc gm (fun c hc => tIr (fc c hc))
  exact ⟨rB, I2, L2, rfl, rfl, lf_go how ho kk hX' mi (fun a ha => fm a (by first | omega | (dsimp only; omega))) r1 r2 r3 g.2 (r5.fm fl (fun q => q)) (r6.fr (tIk (by rw [fm (ox + 1) (by first | omega | (dsimp only; omega)), fc (ox + 1) (by first | omega | (dsimp only; omega))])) (tIk (by rw [fm (ox + 1) (by first | omega | (dsimp only; omega)), fc (ox + 1) (by first | omega | (dsimp only; omega))])) (tIk (by rw [kp 4 rfl, fc om (by first | omega | (dsimp only; omega))])) (tIk (by rw [kp 5 rfl, fc om (by first | omega | (dsimp only; omega))])))⟩
set_option maxHeartbeats 1000000 in
theorem lf_untell (hq : q + 6 ≤ xl) (hxl : xl < 2 ^ 31) (hA : ∀ j, R.2 j = true) (hX : OI (qGG D cA b (qEx b kS vS xb xl xs)) R n sh Rf I ox) (hw : w ≤ n) (hM : MI (qGG D cA (b + w) qTr) R (n - w) sh Rf I om) (how : om = b + w) (ho : ox + 207 = om) (hr : RX ox om Rf I L) (kk : ∀ Rf I L, RX ox om Rf I L → OI (qGG D cA b (qEx b kS vS xb xl xs)) R n sh Rf I ox → MI (qGG D cA (b + w) qTr) R (n - w) sh Rf I om → Ev (qGG D cA b (qEx b kS vS xb xl xs)) mLaw 110 (0, 0) 976 (lwL xb ox om q) [] (n, sh, Rf, I, L) post) : Ev (qGG D cA b (qEx b kS vS xb xl xs)) mLaw 110 (0, 0) 527 (lwL xb ox om q) [] (n, sh, Rf, I, L) post := by
  obtain ⟨l, l2, r1, r2, r3, r4, r5, r6⟩ := hr
  have hl : ox + 8 ≤ l ∧ l + 16 ≤ ox + 40 := by omega
  refine lw_untell hq hxl hw (lf_x hX) (lf_m hw hM) (ev_deep (by decide) (yx_untell hA hX (fun r I' L' c0 gc hX' fc fl => ⟨r, Rf, I', L', rfl, rfl, ?_⟩)))
  have hM' : MI (qGG D cA (b + w) qTr) R (n - w) sh Rf I' om := hM.up hX'.2.2.1 (fun a ha => ⟨rfl, fc a (by first | omega | (dsimp only; omega))⟩)
  refine ev_deep (by decide) (yz_untell okW hA hM' (fun rB I2 L2 mi fm kp u0 gm => ?_))
  have g := r_untell r4 ho hl gc gm
  exact ⟨rB, I2, L2, rfl, rfl, lf_go how ho kk hX' mi (fun a ha => fm a (by first | omega | (dsimp only; omega))) r1 r2 r3 g.2 (r5.fm fl (fun q => q)) (r6.fr (tIk (by rw [fm (ox + 1) (by first | omega | (dsimp only; omega)), fc (ox + 1) (by first | omega | (dsimp only; omega))])) (tIk (by rw [fm (ox + 1) (by first | omega | (dsimp only; omega)), fc (ox + 1) (by first | omega | (dsimp only; omega))])) (tIk (by rw [kp 4 rfl, fc om (by first | omega | (dsimp only; omega))])) (tIk (by rw [kp 5 rfl, fc om (by first | omega | (dsimp only; omega))])))⟩
set_option maxHeartbeats 1000000 in
theorem lf_later (hq : q + 6 ≤ xl) (hxl : xl < 2 ^ 31) (hA : ∀ j, R.2 j = true) (hX : OI (qGG D cA b (qEx b kS vS xb xl xs)) R n sh Rf I ox) (hw : w ≤ n) (hM : MI (qGG D cA (b + w) qTr) R (n - w) sh Rf I om) (how : om = b + w) (ho : ox + 207 = om) (hr : RX ox om Rf I L) (kk : ∀ Rf I L, RX ox om Rf I L → OI (qGG D cA b (qEx b kS vS xb xl xs)) R n sh Rf I ox → MI (qGG D cA (b + w) qTr) R (n - w) sh Rf I om → Ev (qGG D cA b (qEx b kS vS xb xl xs)) mLaw 110 (0, 0) 976 (lwL xb ox om q) [] (n, sh, Rf, I, L) post) : Ev (qGG D cA b (qEx b kS vS xb xl xs)) mLaw 110 (0, 0) 550 (lwL xb ox om q) [] (n, sh, Rf, I, L) post := by
  obtain ⟨l, l2, r1, r2, r3, r4, r5, r6⟩ := hr
  have hl : ox + 8 ≤ l ∧ l + 16 ≤ ox + 40 := by omega
  refine lw_later hq hxl hw (lf_x hX) (lf_m hw hM) (ev_deep (by decide) (yx_later hA hX (fun r I' L'  gc hX' fc fl => ⟨r, Rf, I', L', rfl, rfl, ?_⟩)))
  have hM' : MI (qGG D cA (b + w) qTr) R (n - w) sh Rf I' om := hM.up hX'.2.2.1 (fun a ha => ⟨rfl, fc a (by first | omega | (dsimp only; omega))⟩)
  refine ev_deep (by decide) (yz_later okW hA hM' (fun rB I2 L2 mi fm kp  gm => ?_))
  have g := r_later r4 ho hl gc gm
  exact ⟨rB, I2, L2, rfl, rfl, lf_go how ho kk hX' mi (fun a ha => fm a (by first | omega | (dsimp only; omega))) r1 r2 r3 g.2 (r5.fm fl (fun q => q)) (r6.fr (tIk (by rw [fm (ox + 1) (by first | omega | (dsimp only; omega)), fc (ox + 1) (by first | omega | (dsimp only; omega))])) (tIk (by rw [fm (ox + 1) (by first | omega | (dsimp only; omega)), fc (ox + 1) (by first | omega | (dsimp only; omega))])) (tIk (by rw [kp 4 rfl, fc om (by first | omega | (dsimp only; omega))])) (tIk (by rw [kp 5 rfl, fc om (by first | omega | (dsimp only; omega))])))⟩
set_option maxHeartbeats 1000000 in
theorem lf_run (hq : q + 6 ≤ xl) (hxl : xl < 2 ^ 31) (hA : ∀ j, R.2 j = true) (hX : OI (qGG D cA b (qEx b kS vS xb xl xs)) R n sh Rf I ox) (hw : w ≤ n) (hM : MI (qGG D cA (b + w) qTr) R (n - w) sh Rf I om) (how : om = b + w) (ho : ox + 207 = om) (hr : RX ox om Rf I L) (kk : ∀ Rf I L, RX ox om Rf I L → OI (qGG D cA b (qEx b kS vS xb xl xs)) R n sh Rf I ox → MI (qGG D cA (b + w) qTr) R (n - w) sh Rf I om → Ev (qGG D cA b (qEx b kS vS xb xl xs)) mLaw 110 (0, 0) 976 (lwL xb ox om q) [] (n, sh, Rf, I, L) post) : Ev (qGG D cA b (qEx b kS vS xb xl xs)) mLaw 110 (0, 0) 573 (lwL xb ox om q) [] (n, sh, Rf, I, L) post := by
  obtain ⟨l, l2, r1, r2, r3, r4, r5, r6⟩ := hr
  have hl : ox + 8 ≤ l ∧ l + 16 ≤ ox + 40 := by omega
  refine lw_run hq hxl hw (lf_x hX) (lf_m hw hM) (ev_deep (by decide) (yx_run hX (fun r Rf' I' L' hX' er fc fl => ⟨r, Rf', I', L', rfl, rfl, ?_⟩)))
  have hM' : MI (qGG D cA (b + w) qTr) R (n - w) sh Rf' I' om := hM.up hX'.2.2.1 (fun a ha => ⟨er a (by omega), fc a (by first | omega | (dsimp only; omega))⟩)
  exact ev_deep (by decide) (yz_run okW hA hM' (fun rB I2 L2 mi fm kp  => ⟨rB, I2, L2, rfl, rfl, lf_go how ho kk hX' mi (fun a ha => fm a (by first | omega | (dsimp only; omega))) (by rw [er ox (by omega)]; exact r1) (by rw [er ox (by omega)]; exact r2) r3 (r4.keep hl (fun r h1 h2 => tIr ((fm r (by first | omega | (dsimp only; omega))).trans (fc r (by first | omega | (dsimp only; omega))))) (tIk (by rw [fm (ox + 46) (by first | omega | (dsimp only; omega)), fc (ox + 46) (by first | omega | (dsimp only; omega))])) (fun k hk => tIk (by rw [kp k (by rcases hk with e | e | e | e | e <;> subst e <;> rfl), fc om (by first | omega | (dsimp only; omega))])) (fun r h => tIr ((fm r (by first | omega | (dsimp only; omega))).trans (fc r (by first | omega | (dsimp only; omega)))))) (r5.fm fl (by first | omega | (dsimp only; omega))) (r6.fr (tIk (by rw [fm (ox + 1) (by first | omega | (dsimp only; omega)), fc (ox + 1) (by first | omega | (dsimp only; omega))])) (tIk (by rw [fm (ox + 1) (by first | omega | (dsimp only; omega)), fc (ox + 1) (by first | omega | (dsimp only; omega))])) (tIk (by rw [kp 4 rfl, fc om (by first | omega | (dsimp only; omega))])) (tIk (by rw [kp 5 rfl, fc om (by first | omega | (dsimp only; omega))])))⟩))
set_option maxHeartbeats 1000000 in
theorem lf_ran (hq : q + 6 ≤ xl) (hxl : xl < 2 ^ 31) (hA : ∀ j, R.2 j = true) (hX : OI (qGG D cA b (qEx b kS vS xb xl xs)) R n sh Rf I ox) (hw : w ≤ n) (hM : MI (qGG D cA (b + w) qTr) R (n - w) sh Rf I om) (how : om = b + w) (ho : ox + 207 = om) (hr : RX ox om Rf I L) (kk : ∀ Rf I L, RX ox om Rf I L → OI (qGG D cA b (qEx b kS vS xb xl xs)) R n sh Rf I ox → MI (qGG D cA (b + w) qTr) R (n - w) sh Rf I om → Ev (qGG D cA b (qEx b kS vS xb xl xs)) mLaw 110 (0, 0) 976 (lwL xb ox om q) [] (n, sh, Rf, I, L) post) : Ev (qGG D cA b (qEx b kS vS xb xl xs)) mLaw 110 (0, 0) 616 (lwL xb ox om q) [] (n, sh, Rf, I, L) post := by
  obtain ⟨l, l2, r1, r2, r3, r4, r5, r6⟩ := hr
  have hl : ox + 8 ≤ l ∧ l + 16 ≤ ox + 40 := by omega
  refine lw_ran hq hxl hw (lf_x hX) (lf_m hw hM) (ev_deep (by decide) (yx_ran hA hX (fun r  gc => ⟨r, Rf, I, L, rfl, rfl, ?_⟩)))
  exact ev_deep (by decide) (yz_ran okW hA hM (fun rB L2  => ⟨rB, I, L2, rfl, rfl, lf_go how ho kk hX hM (fun _ _ => rfl) r1 r2 r3 r4 r5 r6⟩))
set_option maxHeartbeats 1000000 in
theorem lf_fort (hq : q + 6 ≤ xl) (hxl : xl < 2 ^ 31) (hA : ∀ j, R.2 j = true) (hX : OI (qGG D cA b (qEx b kS vS xb xl xs)) R n sh Rf I ox) (hw : w ≤ n) (hM : MI (qGG D cA (b + w) qTr) R (n - w) sh Rf I om) (how : om = b + w) (ho : ox + 207 = om) (hr : RX ox om Rf I L) (kk : ∀ Rf I L, RX ox om Rf I L → OI (qGG D cA b (qEx b kS vS xb xl xs)) R n sh Rf I ox → MI (qGG D cA (b + w) qTr) R (n - w) sh Rf I om → Ev (qGG D cA b (qEx b kS vS xb xl xs)) mLaw 110 (0, 0) 976 (lwL xb ox om q) [] (n, sh, Rf, I, L) post) : Ev (qGG D cA b (qEx b kS vS xb xl xs)) mLaw 110 (0, 0) 639 (lwL xb ox om q) [] (n, sh, Rf, I, L) post := by
  obtain ⟨l, l2, r1, r2, r3, r4, r5, r6⟩ := hr
  have hl : ox + 8 ≤ l ∧ l + 16 ≤ ox + 40 := by omega
  refine lw_fort hq hxl hw (lf_x hX) (lf_m hw hM) (ev_deep (by decide) (yx_fort hA r1 hX (fun r  gc => ⟨r, Rf, I, L, rfl, rfl, ?_⟩)))
  exact ev_deep (by decide) (yz_fort okW hA hM (fun rB L2  => ⟨rB, I, L2, rfl, rfl, lf_go how ho kk hX hM (fun _ _ => rfl) r1 r2 r3 r4 r5 r6⟩))
set_option maxHeartbeats 1000000 in
theorem lf_pan (hq : q + 6 ≤ xl) (hxl : xl < 2 ^ 31) (hA : ∀ j, R.2 j = true) (hX : OI (qGG D cA b (qEx b kS vS xb xl xs)) R n sh Rf I ox) (hw : w ≤ n) (hM : MI (qGG D cA (b + w) qTr) R (n - w) sh Rf I om) (how : om = b + w) (ho : ox + 207 = om) (hr : RX ox om Rf I L) (kk : ∀ Rf I L, RX ox om Rf I L → OI (qGG D cA b (qEx b kS vS xb xl xs)) R n sh Rf I ox → MI (qGG D cA (b + w) qTr) R (n - w) sh Rf I om → Ev (qGG D cA b (qEx b kS vS xb xl xs)) mLaw 110 (0, 0) 976 (lwL xb ox om q) [] (n, sh, Rf, I, L) post) : Ev (qGG D cA b (qEx b kS vS xb xl xs)) mLaw 110 (0, 0) 682 (lwL xb ox om q) [] (n, sh, Rf, I, L) post := by
  obtain ⟨l, l2, r1, r2, r3, r4, r5, r6⟩ := hr
  have hl : ox + 8 ≤ l ∧ l + 16 ≤ ox + 40 := by omega
  refine lw_pan hq hxl hw (lf_x hX) (lf_m hw hM) (ev_deep (by decide) (yx_pan hA r1 hX (fun r  gc => ⟨r, Rf, I, L, rfl, rfl, ?_⟩)))
  exact ev_deep (by decide) (yz_pan okW hA hM (fun rB L2  => ⟨rB, I, L2, rfl, rfl, lf_go how ho kk hX hM (fun _ _ => rfl) r1 r2 r3 r4 r5 r6⟩))
set_option maxHeartbeats 1000000 in
theorem lf_town (hq : q + 6 ≤ xl) (hxl : xl < 2 ^ 31) (hA : ∀ j, R.2 j = true) (hX : OI (qGG D cA b (qEx b kS vS xb xl xs)) R n sh Rf I ox) (hw : w ≤ n) (hM : MI (qGG D cA (b + w) qTr) R (n - w) sh Rf I om) (how : om = b + w) (ho : ox + 207 = om) (hr : RX ox om Rf I L) (kk : ∀ Rf I L, RX ox om Rf I L → OI (qGG D cA b (qEx b kS vS xb xl xs)) R n sh Rf I ox → MI (qGG D cA (b + w) qTr) R (n - w) sh Rf I om → Ev (qGG D cA b (qEx b kS vS xb xl xs)) mLaw 110 (0, 0) 976 (lwL xb ox om q) [] (n, sh, Rf, I, L) post) : Ev (qGG D cA b (qEx b kS vS xb xl xs)) mLaw 110 (0, 0) 725 (lwL xb ox om q) [] (n, sh, Rf, I, L) post := by
  obtain ⟨l, l2, r1, r2, r3, r4, r5, r6⟩ := hr
  have hl : ox + 8 ≤ l ∧ l + 16 ≤ ox + 40 := by omega
  refine lw_town hq hxl hw (lf_x hX) (lf_m hw hM) (ev_deep (by decide) (yx_town hA r1 hX (fun r  gc => ⟨r, Rf, I, L, rfl, rfl, ?_⟩)))
  exact ev_deep (by decide) (yz_town okW hA hM (fun rB L2  => ⟨rB, I, L2, rfl, rfl, lf_go how ho kk hX hM (fun _ _ => rfl) r1 r2 r3 r4 r5 r6⟩))
set_option maxHeartbeats 1000000 in
theorem lf_book (hq : q + 6 ≤ xl) (hxl : xl < 2 ^ 31) (hA : ∀ j, R.2 j = true) (hX : OI (qGG D cA b (qEx b kS vS xb xl xs)) R n sh Rf I ox) (hw : w ≤ n) (hM : MI (qGG D cA (b + w) qTr) R (n - w) sh Rf I om) (how : om = b + w) (ho : ox + 207 = om) (hr : RX ox om Rf I L) (kk : ∀ Rf I L, RX ox om Rf I L → OI (qGG D cA b (qEx b kS vS xb xl xs)) R n sh Rf I ox → MI (qGG D cA (b + w) qTr) R (n - w) sh Rf I om → Ev (qGG D cA b (qEx b kS vS xb xl xs)) mLaw 110 (0, 0) 976 (lwL xb ox om q) [] (n, sh, Rf, I, L) post) : Ev (qGG D cA b (qEx b kS vS xb xl xs)) mLaw 110 (0, 0) 768 (lwL xb ox om q) [] (n, sh, Rf, I, L) post := by
  obtain ⟨l, l2, r1, r2, r3, r4, r5, r6⟩ := hr
  have hl : ox + 8 ≤ l ∧ l + 16 ≤ ox + 40 := by omega
  refine lw_book hq hxl hw (lf_x hX) (lf_m hw hM) (ev_deep (by decide) (yx_book hA hX (fun r  gc => ⟨r, Rf, I, L, rfl, rfl, ?_⟩)))
  exact ev_deep (by decide) (yz_book okW hA hM (fun rB L2  => ⟨rB, I, L2, rfl, rfl, lf_go how ho kk hX hM (fun _ _ => rfl) r1 r2 r3 r4 r5 r6⟩))
set_option maxHeartbeats 1000000 in
theorem lf_paper (hq : q + 6 ≤ xl) (hxl : xl < 2 ^ 31) (hA : ∀ j, R.2 j = true) (hX : OI (qGG D cA b (qEx b kS vS xb xl xs)) R n sh Rf I ox) (hw : w ≤ n) (hM : MI (qGG D cA (b + w) qTr) R (n - w) sh Rf I om) (how : om = b + w) (ho : ox + 207 = om) (hr : RX ox om Rf I L) (kk : ∀ Rf I L, RX ox om Rf I L → OI (qGG D cA b (qEx b kS vS xb xl xs)) R n sh Rf I ox → MI (qGG D cA (b + w) qTr) R (n - w) sh Rf I om → Ev (qGG D cA b (qEx b kS vS xb xl xs)) mLaw 110 (0, 0) 976 (lwL xb ox om q) [] (n, sh, Rf, I, L) post) : Ev (qGG D cA b (qEx b kS vS xb xl xs)) mLaw 110 (0, 0) 811 (lwL xb ox om q) [] (n, sh, Rf, I, L) post := by
  obtain ⟨l, l2, r1, r2, r3, r4, r5, r6⟩ := hr
  have hl : ox + 8 ≤ l ∧ l + 16 ≤ ox + 40 := by omega
  refine lw_paper hq hxl hw (lf_x hX) (lf_m hw hM) (ev_deep (by decide) (yx_paper hA hX (fun r  => ⟨r, Rf, I, L, rfl, rfl, ?_⟩)))
  exact ev_deep (by decide) (yz_paper okW hA hM (fun rB L2  => ⟨rB, I, L2, rfl, rfl, lf_go how ho kk hX hM (fun _ _ => rfl) r1 r2 r3 r4 r5 r6⟩))
set_option maxHeartbeats 1000000 in
theorem lf_way (hq : q + 6 ≤ xl) (hxl : xl < 2 ^ 31) (hA : ∀ j, R.2 j = true) (hX : OI (qGG D cA b (qEx b kS vS xb xl xs)) R n sh Rf I ox) (hw : w ≤ n) (hM : MI (qGG D cA (b + w) qTr) R (n - w) sh Rf I om) (how : om = b + w) (ho : ox + 207 = om) (hr : RX ox om Rf I L) (kk : ∀ Rf I L, RX ox om Rf I L → OI (qGG D cA b (qEx b kS vS xb xl xs)) R n sh Rf I ox → MI (qGG D cA (b + w) qTr) R (n - w) sh Rf I om → Ev (qGG D cA b (qEx b kS vS xb xl xs)) mLaw 110 (0, 0) 976 (lwL xb ox om q) [] (n, sh, Rf, I, L) post) : Ev (qGG D cA b (qEx b kS vS xb xl xs)) mLaw 110 (0, 0) 844 (lwL xb ox om q) [] (n, sh, Rf, I, L) post := by
  obtain ⟨l, l2, r1, r2, r3, r4, r5, r6⟩ := hr
  have hl : ox + 8 ≤ l ∧ l + 16 ≤ ox + 40 := by omega
  refine lw_way hq hxl hw (lf_x hX) (lf_m hw hM) (ev_deep (by decide) (yx_way hA hX (fun r I' L' hX' fc fl => ⟨r, Rf, I', L', rfl, rfl, ?_⟩)))
  have er : ∀ a, a ≠ ox + 55 → Rf a = Rf a := fun _ _ => rfl
  have hM' : MI (qGG D cA (b + w) qTr) R (n - w) sh Rf I' om := hM.up hX'.2.2.1 (fun a ha => ⟨er a (by omega), fc a (by first | omega | (dsimp only; omega))⟩)
  exact ev_deep (by decide) (yz_way okW hA hM' (fun rB I2 L2 mi fm kp  => ⟨rB, I2, L2, rfl, rfl, lf_go how ho kk hX' mi (fun a ha => fm a (by first | omega | (dsimp only; omega))) (by rw [er ox (by omega)]; exact r1) (by rw [er ox (by omega)]; exact r2) r3 (r4.keep hl (fun r h1 h2 => tIr ((fm r (by first | omega | (dsimp only; omega))).trans (fc r (by first | omega | (dsimp only; omega))))) (tIk (by rw [fm (ox + 46) (by first | omega | (dsimp only; omega)), fc (ox + 46) (by first | omega | (dsimp only; omega))])) (fun k hk => tIk (by rw [kp k (by rcases hk with e | e | e | e | e <;> subst e <;> rfl), fc om (by first | omega | (dsimp only; omega))])) (fun r h => tIr ((fm r (by first | omega | (dsimp only; omega))).trans (fc r (by first | omega | (dsimp only; omega)))))) (r5.fm fl (by first | omega | (dsimp only; omega))) (r6.fr (tIk (by rw [fm (ox + 1) (by first | omega | (dsimp only; omega)), fc (ox + 1) (by first | omega | (dsimp only; omega))])) (tIk (by rw [fm (ox + 1) (by first | omega | (dsimp only; omega)), fc (ox + 1) (by first | omega | (dsimp only; omega))])) (tIk (by rw [kp 4 rfl, fc om (by first | omega | (dsimp only; omega))])) (tIk (by rw [kp 5 rfl, fc om (by first | omega | (dsimp only; omega))])))⟩))
set_option maxHeartbeats 1000000 in
theorem lf_worth (hq : q + 6 ≤ xl) (hxl : xl < 2 ^ 31) (hA : ∀ j, R.2 j = true) (hX : OI (qGG D cA b (qEx b kS vS xb xl xs)) R n sh Rf I ox) (hw : w ≤ n) (hM : MI (qGG D cA (b + w) qTr) R (n - w) sh Rf I om) (how : om = b + w) (ho : ox + 207 = om) (hr : RX ox om Rf I L) (kk : ∀ Rf I L, RX ox om Rf I L → OI (qGG D cA b (qEx b kS vS xb xl xs)) R n sh Rf I ox → MI (qGG D cA (b + w) qTr) R (n - w) sh Rf I om → Ev (qGG D cA b (qEx b kS vS xb xl xs)) mLaw 110 (0, 0) 976 (lwL xb ox om q) [] (n, sh, Rf, I, L) post) : Ev (qGG D cA b (qEx b kS vS xb xl xs)) mLaw 110 (0, 0) 877 (lwL xb ox om q) [] (n, sh, Rf, I, L) post := by
  obtain ⟨l, l2, r1, r2, r3, r4, r5, r6⟩ := hr
  have hl : ox + 8 ≤ l ∧ l + 16 ≤ ox + 40 := by omega
  refine lw_worth hq hxl hw (lf_x hX) (lf_m hw hM) (ev_deep (by decide) (yx_worth hA r1 hX (fun r L' fl => ⟨r, Rf, I, L', rfl, rfl, ?_⟩)))
  exact ev_deep (by decide) (yz_worth okW hA hM (fun rB I2 L2 mi fm kp  => ⟨rB, I2, L2, rfl, rfl, lf_go how ho kk hX mi (fun a ha => fm a (by first | omega | (dsimp only; omega))) r1 r2 r3 (r4.keep hl (fun r h1 h2 => tIr (fm r (by first | omega | (dsimp only; omega)))) (tIk (by rw [fm (ox + 46) (by first | omega | (dsimp only; omega))])) (fun k hk => tIk (kp k (by rcases hk with e | e | e | e | e <;> subst e <;> rfl))) (fun r h => tIr (fm r (by first | omega | (dsimp only; omega))))) (r5.fm fl (by first | omega | (dsimp only; omega))) (r6.fr (tIk (by rw [fm (ox + 1) (by first | omega | (dsimp only; omega))])) (tIk (by rw [fm (ox + 1) (by first | omega | (dsimp only; omega))])) (tIk (kp 4 rfl)) (tIk (kp 5 rfl)))⟩))
set_option maxHeartbeats 1000000 in
theorem lf_judge (hq : q + 6 ≤ xl) (hxl : xl < 2 ^ 31) (hA : ∀ j, R.2 j = true) (hX : OI (qGG D cA b (qEx b kS vS xb xl xs)) R n sh Rf I ox) (hw : w ≤ n) (hM : MI (qGG D cA (b + w) qTr) R (n - w) sh Rf I om) (how : om = b + w) (ho : ox + 207 = om) (hr : RX ox om Rf I L) (kk : ∀ Rf I L, RX ox om Rf I L → OI (qGG D cA b (qEx b kS vS xb xl xs)) R n sh Rf I ox → MI (qGG D cA (b + w) qTr) R (n - w) sh Rf I om → Ev (qGG D cA b (qEx b kS vS xb xl xs)) mLaw 110 (0, 0) 976 (lwL xb ox om q) [] (n, sh, Rf, I, L) post) : Ev (qGG D cA b (qEx b kS vS xb xl xs)) mLaw 110 (0, 0) 900 (lwL xb ox om q) [] (n, sh, Rf, I, L) post := by
  obtain ⟨l, l2, r1, r2, r3, r4, r5, r6⟩ := hr
  have hl : ox + 8 ≤ l ∧ l + 16 ≤ ox + 40 := by omega
  refine lw_judge hq hxl hw (lf_x hX) (lf_m hw hM) (ev_deep (by decide) (yx_judge hX (fun r Rf' I' L' hX' er fc fl => ⟨r, Rf', I', L', rfl, rfl, ?_⟩)))
  have hM' : MI (qGG D cA (b + w) qTr) R (n - w) sh Rf' I' om := hM.up hX'.2.2.1 (fun a ha => ⟨er a (by omega), fc a (by first | omega | (dsimp only; omega))⟩)
  exact ev_deep (by decide) (yz_judge okW hA hM' (fun rB I2 L2 mi fm kp  => ⟨rB, I2, L2, rfl, rfl, lf_go how ho kk hX' mi (fun a ha => fm a (by first | omega | (dsimp only; omega))) (by rw [er ox (by omega)]; exact r1) (by rw [er ox (by omega)]; exact r2) r3 (r4.keep hl (fun r h1 h2 => tIr ((fm r (by first | omega | (dsimp only; omega))).trans (fc r (by first | omega | (dsimp only; omega))))) (tIk (by rw [fm (ox + 46) (by first | omega | (dsimp only; omega)), fc (ox + 46) (by first | omega | (dsimp only; omega))])) (fun k hk => tIk (by rw [kp k (by rcases hk with e | e | e | e | e <;> subst e <;> rfl), fc om (by first | omega | (dsimp only; omega))])) (fun r h => tIr ((fm r (by first | omega | (dsimp only; omega))).trans (fc r (by first | omega | (dsimp only; omega)))))) (r5.fm fl (by first | omega | (dsimp only; omega))) (r6.fr (tIk (by rw [fm (ox + 1) (by first | omega | (dsimp only; omega)), fc (ox + 1) (by first | omega | (dsimp only; omega))])) (tIk (by rw [fm (ox + 1) (by first | omega | (dsimp only; omega)), fc (ox + 1) (by first | omega | (dsimp only; omega))])) (tIk (by rw [kp 4 rfl, fc om (by first | omega | (dsimp only; omega))])) (tIk (by rw [kp 5 rfl, fc om (by first | omega | (dsimp only; omega))])))⟩))
set_option maxHeartbeats 1000000 in
theorem lf_about (hq : q + 6 ≤ xl) (hxl : xl < 2 ^ 31) (hA : ∀ j, R.2 j = true) (hX : OI (qGG D cA b (qEx b kS vS xb xl xs)) R n sh Rf I ox) (hw : w ≤ n) (hM : MI (qGG D cA (b + w) qTr) R (n - w) sh Rf I om) (how : om = b + w) (ho : ox + 207 = om) (hr : RX ox om Rf I L) (kk : ∀ Rf I L, RX ox om Rf I L → OI (qGG D cA b (qEx b kS vS xb xl xs)) R n sh Rf I ox → MI (qGG D cA (b + w) qTr) R (n - w) sh Rf I om → Ev (qGG D cA b (qEx b kS vS xb xl xs)) mLaw 110 (0, 0) 976 (lwL xb ox om q) [] (n, sh, Rf, I, L) post) : Ev (qGG D cA b (qEx b kS vS xb xl xs)) mLaw 110 (0, 0) 953 (lwL xb ox om q) [] (n, sh, Rf, I, L) post := by
  obtain ⟨l, l2, r1, r2, r3, r4, r5, r6⟩ := hr
  have hl : ox + 8 ≤ l ∧ l + 16 ≤ ox + 40 := by omega
  refine lw_about hq hxl hw (lf_x hX) (lf_m hw hM) (ev_deep (by decide) (yx_about hX (fun r => ⟨r, Rf, I, L, rfl, rfl, ?_⟩)))
  exact ev_deep (by decide) (yz_about okW hA hM (fun rB L2  => ⟨rB, I, L2, rfl, rfl, lf_go how ho kk hX hM (fun _ _ => rfl) r1 r2 r3 r4 r5 r6⟩))
set_option maxHeartbeats 1000000 in
theorem lf_all (hq : q + 6 ≤ xl) (hxl : xl < 2 ^ 31) (hA : ∀ j, R.2 j = true) (hX : OI (qGG D cA b (qEx b kS vS xb xl xs)) R n sh Rf I ox) (hw : w ≤ n) (hM : MI (qGG D cA (b + w) qTr) R (n - w) sh Rf I om) (how : om = b + w) (ho : ox + 207 = om) (hr : RX ox om Rf I L) (kk : ∀ Rf I L, RX ox om Rf I L → OI (qGG D cA b (qEx b kS vS xb xl xs)) R n sh Rf I ox → MI (qGG D cA (b + w) qTr) R (n - w) sh Rf I om → Ev (qGG D cA b (qEx b kS vS xb xl xs)) mLaw 110 (0, 0) 976 (lwL xb ox om q) [] (n, sh, Rf, I, L) post) : ∀ k, k < 24 → Ev (qGG D cA b (qEx b kS vS xb xl xs)) mLaw 110 (0, 0) (lwPc.getD k 0) (lwL xb ox om q) [] (n, sh, Rf, I, L) post := by
  intro k hk
  match k, hk with
  | 0, _ => exact lf_feed hq hxl hA hX hw hM how ho hr kk
  | 1, _ => exact lf_end hq hxl hA hX hw hM how ho hr kk
  | 2, _ => exact lf_land hq hxl hA hX hw hM how ho hr kk
  | 3, _ => exact lf_reform hq hxl hA hX hw hM how ho hr kk
  | 4, _ => exact lf_fault hq hxl hA hX hw hM how ho hr kk
  | 5, _ => exact lf_days hq hxl hA hX hw hM how ho hr kk
  | 6, _ => exact lf_merchant hq hxl hA hX hw hM how ho hr kk
  | 7, _ => exact lf_costs hq hxl hA hX hw hM how ho hr kk
  | 8, _ => exact lf_weather hq hxl hA hX hw hM how ho hr kk
  | 9, _ => exact lf_forged hq hxl hA hX hw hM how ho hr kk
  | 10, _ => exact lf_dead hq hxl hA hX hw hM how ho hr kk
  | 11, _ => exact lf_untell hq hxl hA hX hw hM how ho hr kk
  | 12, _ => exact lf_later hq hxl hA hX hw hM how ho hr kk
  | 13, _ => exact lf_run hq hxl hA hX hw hM how ho hr kk
  | 14, _ => exact lf_ran hq hxl hA hX hw hM how ho hr kk
  | 15, _ => exact lf_fort hq hxl hA hX hw hM how ho hr kk
  | 16, _ => exact lf_pan hq hxl hA hX hw hM how ho hr kk
  | 17, _ => exact lf_town hq hxl hA hX hw hM how ho hr kk
  | 18, _ => exact lf_book hq hxl hA hX hw hM how ho hr kk
  | 19, _ => exact lf_paper hq hxl hA hX hw hM how ho hr kk
  | 20, _ => exact lf_way hq hxl hA hX hw hM how ho hr kk
  | 21, _ => exact lf_worth hq hxl hA hX hw hM how ho hr kk
  | 22, _ => exact lf_judge hq hxl hA hX hw hM how ho hr kk
  | 23, _ => exact lf_about hq hxl hA hX hw hM how ho hr kk
  | k + 24, h => exact absurd h (by omega)
theorem lw_loop (hxl : xl < 2 ^ 29) (hA : ∀ j, R.2 j = true) (hw : w ≤ n) (how : om = b + w) (ho : ox + 207 = om) : ∀ (k q : Nat) (Rf : Nat → Nat → Option Nat) (I : Nat → Nat → Int32) (L : Nat → Nat → Int64), xl + 6 - q < k → q < 2 ^ 30 → RX ox om Rf I L → OI (qGG D cA b (qEx b kS vS xb xl xs)) R n sh Rf I ox → MI (qGG D cA (b + w) qTr) R (n - w) sh Rf I om → Ev (qGG D cA b (qEx b kS vS xb xl xs)) mLaw 110 (0, 0) 18 (lwL xb ox om q) [] (n, sh, Rf, I, L) (fun v _ => v = some (.int 1)) := by
  intro k
  induction k with
  | zero => intro q Rf I L h; exact absurd h (by omega)
  | succ k ih =>
    intro q Rf I L hk hq hr hX hM
    refine lw_head (by omega) hq (fun h6 => ?_) (fun _ => rfl)
    have kk : ∀ Rf I L, RX ox om Rf I L → OI (qGG D cA b (qEx b kS vS xb xl xs)) R n sh Rf I ox → MI (qGG D cA (b + w) qTr) R (n - w) sh Rf I om → Ev (qGG D cA b (qEx b kS vS xb xl xs)) mLaw 110 (0, 0) 976 (lwL xb ox om q) [] (n, sh, Rf, I, L) (fun v _ => v = some (.int 1)) := fun Rf I L h0 h1 h2 => lw_next (ih (q + 6) Rf I L (by omega) (by omega) h0 h1 h2)
    exact lw_switch h6 (by omega) (lf_all h6 (by omega) hA hX hw hM how ho hr kk) (kk _ _ _ hr hX hM)
/-- the ranges of both -/
def rgA (ox om : Nat) : qRg := (fun a k => if ox ≤ a ∧ a < ox + 207 then ((TOffice (a - ox) k).1, (TOffice (a - ox) k).2.1) else if om ≤ a ∧ a < om + 102 then ((TModel (a - om) k).1, (TModel (a - om) k).2.1) else (-2147483648, 2147483647), fun _ => true)
theorem rgA_x : RAOffice (rgA ox om) ox := fun i hi k => by
  have e : (rgA ox om).1 (ox + i) k = ((TOffice i k).1, (TOffice i k).2.1) := by
    show (if ox ≤ ox + i ∧ ox + i < ox + 207 then ((TOffice (ox + i - ox) k).1, (TOffice (ox + i - ox) k).2.1) else _) = _
    rw [if_pos (by omega), Nat.add_sub_cancel_left]
  rw [e]
  exact ⟨⟨Int.le_refl _, Int.le_refl _⟩, fun _ => rfl⟩
theorem rgA_m (ho : om = ox + 207) : RAModel (rgA ox om) om := fun i hi k => by
  have e : (rgA ox om).1 (om + i) k = ((TModel i k).1, (TModel i k).2.1) := by
    show (if ox ≤ om + i ∧ om + i < ox + 207 then _ else if om ≤ om + i ∧ om + i < om + 102 then ((TModel (om + i - om) k).1, (TModel (om + i - om) k).2.1) else _) = _
    rw [if_neg (by omega), if_pos (by omega), Nat.add_sub_cancel_left]
  rw [e]
  exact ⟨⟨Int.le_refl _, Int.le_refl _⟩, fun _ => rfl⟩
theorem rgA_i (ho : om = ox + 207) (hx : InT TOffice 207 I ox) (hm : InT TModel 102 I om) : RI (rgA ox om) I := fun a k => by
  by_cases h1 : ox ≤ a ∧ a < ox + 207
  · have e : (rgA ox om).1 a k = ((TOffice (a - ox) k).1, (TOffice (a - ox) k).2.1) := if_pos h1
    have q := hx (a - ox) (by omega) k
    rw [show ox + (a - ox) = a by omega] at q
    rw [e]
    exact q
  · by_cases h2 : om ≤ a ∧ a < om + 102
    · have e : (rgA ox om).1 a k = ((TModel (a - om) k).1, (TModel (a - om) k).2.1) := (if_neg h1).trans (if_pos h2)
      have q := hm (a - om) (by omega) k
      rw [show om + (a - om) = a by omega] at q
      rw [e]
      exact q
    · have e : (rgA ox om).1 a k = (-2147483648, 2147483647) := (if_neg h1).trans (if_neg h2)
      rw [e]
      exact ⟨i_lo _, i_hi _⟩
set_option maxHeartbeats 4000000 in
/-- the law answers true on every script -/
theorem lw_all (hxl : xl ≤ 3072) (sh0 : Nat → qC) (Rf0 : Nat → Nat → Option Nat) (I0 : Nat → Nat → Int32) (L0 : Nat → Nat → Int64) : Ev (qGG D cA b (qEx b kS vS xb xl xs)) mLaw 110 (309, 216243) 0 (lv_args 0 [.ref xb]) [] (0, sh0, Rf0, I0, L0) (fun v _ => v = some (.int 1)) := by
  refine ev_new (kc := 308) (ks := 216233) (ci := 11) (q := (qR11, qT11, 10)) qEx_ok rfl (q_t1 23 (by decide +kernel) rfl) (q_t1 24 (by decide +kernel) rfl) (q_t1 1 (by decide +kernel) rfl) hdfOffice dLaw_0 ?_
  refine ev_dup dLaw_3 rfl ?_
  refine ev_callI (d' := 7) (a := b + 0) (B' := (206, 115470)) (B'' := (102, 100763)) (post' := fun v τ => v = none ∧ ∃ n' sh' Rf' I' L', τ = (n', sh', Rf', I', L') ∧ n' = 207 ∧ FO (qGG D cA b (qEx b kS vS xb xl xs)) n' sh' Rf' I' (b + 0) ∧ KW (b + 0 + 1) L') [] [.ref (b + 0)] qEx_ok mmOffice_init mk_Law_9 rfl (Nat.le_of_ble_eq_true rfl) rfl rfl (Nat.le_of_ble_eq_true rfl) dLaw_4 rfl (by decide) ?_ ?_
  · exact c_initK qEx_ok qEx_EN qEx_AO kTapeK (by omega) (by omega) q_c_at q_z_at q_z_at (fun n' sh' Rf' I' L' e f kw _ => ⟨rfl, n', sh', Rf', I', L', rfl, by omega, f, kw⟩)
  rintro v τ ⟨rfl, n1, sh1, Rf1, I1, L1, rfl, rfl, hF, hKW⟩
  refine ev_astore_n dLaw_7 (by decide) ?_
  refine ev_new (kc := 101) (ks := 100599) (ci := 12) (q := (qR12, qT12, 164)) qEx_ok rfl (q_t8 217 (by decide +kernel) rfl) (q_t6 209 (by decide +kernel) rfl) (q_t1 18 (by decide +kernel) rfl) hdfModel dLaw_8 ?_
  refine ev_dup dLaw_11 rfl ?_
  refine ev_callI (d' := 1) (a := b + 207) (B' := (101, 100599)) (B'' := (0, 0)) (post' := fun v τ => v = none ∧ ∃ n' sh' Rf' I' L', τ = (n', sh', Rf', I', L') ∧ n' = 309 ∧ WfModel (qGG D cA b (qEx b kS vS xb xl xs)) n' sh' Rf' (b + 207) ∧ FM I' (b + 207) ∧ InT TModel 102 I' (b + 207) ∧ ∀ a, a < b + 207 → sh' a = sh1 a ∧ Rf' a = Rf1 a ∧ I' a = I1 a ∧ L' a = L1 a) [] [.ref (b + 207)] qEx_ok mmModel_init mk_Law_12 rfl (Nat.le_of_ble_eq_true rfl) rfl rfl (Nat.le_of_ble_eq_true rfl) dLaw_12 rfl (by decide) ?_ ?_
  · refine m_initS qEx_ok (by omega) (by omega) q_c_at q_z_at q_z_at (fun n' sh' Rf' I' L' e w f it bl => ⟨rfl, n', sh', Rf', I', L', rfl, by omega, w, f, it, fun a ha => ?_⟩)
    obtain ⟨b1, b2, b3, b4⟩ := bl a ha
    have hne : a ≠ b + 207 := Nat.ne_of_lt ha
    exact ⟨b1.trans (q_c_ne hne), b2.trans (q_z_ne hne), b3.trans (q_z_ne hne), b4.trans (q_z_ne hne)⟩
  rintro v τ ⟨rfl, n2, sh2, Rf2, I2, L2, rfl, rfl, hM, hFM, it, bl⟩
  have hF2 : FO (qGG D cA b (qEx b kS vS xb xl xs)) 309 sh2 Rf2 I2 (b + 0) := hF.up (by omega) (fun c c1 c2 => ⟨(bl c (by omega)).1, (bl c (by omega)).2.1⟩) (fun c c1 c2 => (bl c (by omega)).2.2.1)
  have hR : RI (rgA (b + 0) (b + 207)) I2 := rgA_i rfl hF2.2.2.1 it
  refine ev_astore_n dLaw_15 (by decide) ?_
  refine ev_iconst (nI 0) dLaw_16 (by decide) ?_
  refine ev_istore_n dLaw_17 (by decide) ?_
  refine ev_sub (lwL xb (b + 0) (b + 207) 0) rfl ?_
  have hM' : WfModel (qGG D cA (b + 207) qTr) (309 - 207) sh2 Rf2 (b + 207) := ⟨⟨Nat.le_refl _, by show b + 207 + 101 < b + 207 + (309 - 207); omega, hM.1.2.2⟩, hM.2⟩
  have zF : ∀ k, k < 6 → (I2 (b + 0 + 48) 6).toInt = 0 := fun _ _ => by rw [show I2 (b + 0 + 48) 6 = 0 from hF2.2.1.2.2.2.2.2.2.1]; rfl
  have hrx : RX (b + 0) (b + 207) Rf2 I2 L2 := by
    refine ⟨b + 0 + 8, b + 0 + 24, hF2.1.2.1.1, hF2.1.2.2.1.1, Or.inl ⟨rfl, rfl⟩, ⟨RTape.zero (by show (I2 (b + 0 + 1) 6).toInt = 0; rw [show I2 (b + 0 + 1) 6 = 0 from hF2.2.1.2.1]; rfl) (by show (I2 (b + 207) 2).toInt = 0; rw [show I2 (b + 207) 2 = 0 from hFM.2.1]; rfl), ⟨?_, ?_, ?_, ?_, ?_⟩, ⟨?_, ?_, ?_⟩, RFac.zero (zF 0 (by decide)) ?_⟩, fun k hk => by rw [(bl _ (by omega)).2.2.2]; exact hKW k hk, ?_, ?_⟩
    · show (I2 (b + 0) 7).toInt = (I2 (b + 207) 68).toInt
      rw [show I2 (b + 0) 7 = 0 from hF2.2.1.1, show I2 (b + 207) 68 = 0 from hFM.2.2.2.2.1]
    · show 0 ≤ (I2 (b + 207) 68).toInt
      rw [show I2 (b + 207) 68 = 0 from hFM.2.2.2.2.1]; decide
    · show (I2 (b + 0 + 46) 1).toInt = (I2 (b + 207) 66).toInt
      rw [show I2 (b + 0 + 46) 1 = 0 from hF2.2.1.2.2.2.2.2.1, show I2 (b + 207) 66 = 0 from hFM.1.2.2.1]
    · show 0 ≤ (I2 (b + 207) 66).toInt
      rw [show I2 (b + 207) 66 = 0 from hFM.1.2.2.1]; decide
    · show (I2 (b + 207) 66).toInt ≤ 6
      rw [show I2 (b + 207) 66 = 0 from hFM.1.2.2.1]; decide
    · show (I2 (b + 207) 34).toInt = 0 ∨ (I2 (b + 207) 34).toInt = 1
      rcases hFM.1.1 with e | e
      · left; rw [e]; rfl
      · right; rw [e]; rfl
    · show (I2 (b + 0 + 8) 2).toInt = (I2 (b + 207 + 8) (Int.toNat (I2 (b + 207) 34).toInt)).toInt
      rw [show I2 (b + 0 + 8) 2 = 0 from hF2.2.1.2.2.2.2.1.2.2.1]
      rcases hFM.1.1 with e | e
      · rw [e, show I2 (b + 207 + 8) (Int.toNat (0 : Int32).toInt) = 0 from (hFM.1.2.1 0 (by decide)).2.1]
      · rw [e, show I2 (b + 207 + 8) (Int.toNat (1 : Int32).toInt) = 0 from (hFM.1.2.1 1 (by decide)).2.1]
    · intro x y hx hy
      have e1 := hF2.2.1.2.2.2.2.1.2.2.2.2.2 x y hx hy
      have e2 := hFM.2.2.2.2.2.2.2.2 x y hx hy
      show ((I2 (b + 0 + 8 + 2) (16 * x + y)).toInt = -1 ∧ (I2 (b + 207 + 25) (16 * x + y)).toInt = 1000000) ∨ ((I2 (b + 0 + 8 + 2) (16 * x + y)).toInt = (I2 (b + 207 + 25) (16 * x + y)).toInt ∧ 0 ≤ (I2 (b + 0 + 8 + 2) (16 * x + y)).toInt ∧ (I2 (b + 0 + 8 + 2) (16 * x + y)).toInt < 1000000)
      rw [e1, e2]
      by_cases z : x = y
      · rw [if_pos z, if_pos z]; right; decide
      · rw [if_neg z, if_neg z]; left; decide
    · show (I2 (b + 207) 67).toInt = 0
      rw [hFM.1.2.2.2.1]; rfl
    · show (I2 (b + 0 + 1) 7).toInt = (I2 (b + 207) 4).toInt
      rw [show I2 (b + 0 + 1) 7 = 0 from hF2.2.1.2.2.1, show I2 (b + 207) 4 = 0 from hFM.2.2.1]
    · show (I2 (b + 0 + 1) 8).toInt = (I2 (b + 207) 5).toInt
      rw [show I2 (b + 0 + 1) 8 = -1 from hF2.2.1.2.2.2.1, show I2 (b + 207) 5 = -1 from hFM.2.2.2.1]
  exact lw_loop (R := rgA (b + 0) (b + 207)) (w := 207) (by omega) (fun _ => rfl) (by decide) rfl (by omega) _ 0 Rf2 I2 L2 (Nat.lt_succ_self _) (by omega) hrx (hF2.oi rgA_x hR) (FM.mi hM' (rgA_m rfl) hR hFM)
end LP
