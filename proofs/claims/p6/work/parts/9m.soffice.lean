/-! A fresh Office has what holds between calls. -/
section FO
variable {G : qG} {R : qRg} {n n' : Nat} {sh sh' : Nat → qC} {Rf Rf' : Nat → Nat → Option Nat} {I I' : Nat → Nat → Int32} {o : Nat}
theorem FO.up (hn : n ≤ n') (e : Ag o 207 sh sh' Rf Rf') (ei : ∀ a, o ≤ a → a < o + 207 → I' a = I a) (h : FO G n sh Rf I o) : FO G n' sh' Rf' I' o := by
  obtain ⟨h1, h2, h3, ⟨x1, x2⟩, ⟨y1, y2⟩, ⟨p1, l1⟩, ⟨p2, l2⟩, t⟩ := h
  exact ⟨h1.up hn e, h2.up ei, h3.up ei, ⟨by rw [(e (o + 55) (by omega) (by omega)).2]; exact x1, wbTrade hn (e.sub (by omega) (by omega)) x2⟩, ⟨by rw [(e (o + 121) (by omega) (by omega)).2]; exact y1, wbTrade hn (e.sub (by omega) (by omega)) y2⟩, ⟨(ei _ (by omega) (by omega)).trans p1, (ei _ (by omega) (by omega)).trans l1⟩, ⟨(ei _ (by omega) (by omega)).trans p2, (ei _ (by omega) (by omega)).trans l2⟩, (ei _ (by omega) (by omega)).trans t⟩
theorem rsRun_0 {a : Nat} (h : RARun R a) : RALand R (a + 1) := fun i hi k => by
  rw [Nat.add_assoc]
  match i, hi with
  | 0, _ => exact h (1 + 0) (by decide) k
  | 1, _ => exact h (1 + 1) (by decide) k
  | 2, _ => exact h (1 + 2) (by decide) k
  | 3, _ => exact h (1 + 3) (by decide) k
  | 4, _ => exact h (1 + 4) (by decide) k
  | 5, _ => exact h (1 + 5) (by decide) k
  | 6, _ => exact h (1 + 6) (by decide) k
  | 7, _ => exact h (1 + 7) (by decide) k
  | 8, _ => exact h (1 + 8) (by decide) k
  | 9, _ => exact h (1 + 9) (by decide) k
  | 10, _ => exact h (1 + 10) (by decide) k
  | 11, _ => exact h (1 + 11) (by decide) k
  | 12, _ => exact h (1 + 12) (by decide) k
  | 13, _ => exact h (1 + 13) (by decide) k
  | 14, _ => exact h (1 + 14) (by decide) k
  | 15, _ => exact h (1 + 15) (by decide) k
  | (i + 16), h => exact absurd h (by omega)
theorem rsRun_1 {a : Nat} (h : RARun R a) : RATrade R (a + 17) := fun i hi k => by
  rw [Nat.add_assoc]
  match i, hi with
  | 0, _ => exact h (17 + 0) (by decide) k
  | 1, _ => exact h (17 + 1) (by decide) k
  | (i + 2), h => exact absurd h (by omega)
theorem FO.oi (h : FO G n sh Rf I o) (ra : RAOffice R o) (hR : RI R I) : OI G R n sh Rf I o := by
  obtain ⟨⟨w, ⟨a1, b1⟩, ⟨a2, b2⟩, ⟨a4, b4⟩, rr, ⟨x0, xl⟩, ⟨y0, yl⟩⟩, hF, hT, ⟨x1, x2⟩, ⟨y1, y2⟩, ⟨p1, l1⟩, ⟨p2, l2⟩, t⟩ := h
  have z12 : (iFPapers 12).toInt = 0 := by decide
  have z13 : (iFPapers 13).toInt = 0 := by decide
  have z9 : (iFLoads 9).toInt = 0 := by decide
  refine ⟨w, ra, hR, ⟨_, a1, b1, rsOffice_8l ra, by omega, by omega⟩, ⟨_, a2, b2, rsOffice_24l ra, by omega, by omega⟩, ⟨_, a4, b4, rsOffice_41r ra, Or.inl rfl⟩, fun i hi => ⟨_, (rr i hi).1, (rr i hi).2, ?_, Or.inr (by omega)⟩, ⟨⟨_, x0, xl, rsRun_0 (rsOffice_8 ra)⟩, ⟨_, x1, x2, rsRun_1 (rsOffice_8 ra), Or.inl (by omega)⟩, ?_, fun j hj => ?_⟩, ⟨⟨_, y0, yl, rsRun_0 (rsOffice_9 ra)⟩, ⟨_, y1, y2, rsRun_1 (rsOffice_9 ra), Or.inl (by omega)⟩, ?_, fun j hj => ?_⟩, fun j => ?_, fun j hj => ?_⟩
  · match i, hi with
    | 0, _ => exact rsOffice_187r ra
    | 1, _ => exact rsOffice_192r ra
    | 2, _ => exact rsOffice_197r ra
    | 3, _ => exact rsOffice_202r ra
    | (i + 4), h => exact absurd h (by omega)
  · rw [show I (o + 55 + 31) = iFPapers from p1, z13, z12]; exact Int.le_refl _
  · rw [show I (o + 55 + 44) = iFLoads from l1, z9] at hj; exact absurd hj (by omega)
  · rw [show I (o + 121 + 31) = iFPapers from p2, z13, z12]; exact Int.le_refl _
  · rw [show I (o + 121 + 44) = iFLoads from l2, z9] at hj; exact absurd hj (by omega)
  · have e : I (o + 1 + 3) j = 0 := by rw [show I (o + 1 + 3) = (fun _ => 0) from t]
    have z : (0 : Int32).toInt = 0 := rfl
    rw [e, z]
    exact ⟨fun h => absurd h (by omega), fun h => absurd h (by omega)⟩
  · have e : I (o + 48) 6 = 0 := hF.2.2.2.2.2.2.1
    have z : (0 : Int32).toInt = 0 := rfl
    rw [e, z] at hj
    exact absurd hj (by omega)
end FO
