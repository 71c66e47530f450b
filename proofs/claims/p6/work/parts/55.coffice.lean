/-! The class: calls on a fresh object. -/
/-- behind the Office's 207 cells nothing has changed -/
def Fr (o : Nat) (Rf : Nat → Nat → Option Nat) (I : Nat → Nat → Int32) (L : Nat → Nat → Int64) (Rf' : Nat → Nat → Option Nat) (I' : Nat → Nat → Int32) (L' : Nat → Nat → Int64) : Prop := ∀ a, o + 207 ≤ a → Rf' a = Rf a ∧ I' a = I a ∧ L' a = L a
theorem Fr.rfl {o : Nat} {Rf : Nat → Nat → Option Nat} {I : Nat → Nat → Int32} {L : Nat → Nat → Int64} : Fr o Rf I L Rf I L := fun _ _ => ⟨Eq.refl _, Eq.refl _, Eq.refl _⟩
theorem Fr.i {o a k : Nat} {v : Int32} {Rf Rf' : Nat → Nat → Option Nat} {I I' I'' : Nat → Nat → Int32} {L L' : Nat → Nat → Int64} (h : Fr o Rf I L Rf' I' L') (ha : a < o + 207) (e : q_u I' a k v = I'') : Fr o Rf I L Rf' I'' L' := fun c hc => ⟨(h c hc).1, by rw [← e, q_u_ne (by omega)]; exact (h c hc).2.1, (h c hc).2.2⟩
/-- what a fresh Office is made of -/
def WO (G : qG) (n : Nat) (sh : Nat → qC) (Rf : Nat → Nat → Option Nat) (o : Nat) : Prop :=
  WfOffice G n sh Rf o ∧ (Rf o 1 = some (o + 8) ∧ WfLand G n sh Rf (o + 8)) ∧ (Rf o 2 = some (o + 24) ∧ WfLand G n sh Rf (o + 24)) ∧ (Rf o 4 = some (o + 41) ∧ WfReform G n sh Rf (o + 41)) ∧ (∀ i, i < 4 → Rf (o + 40) i = some (o + 187 + 5 * i) ∧ WfReform G n sh Rf (o + 187 + 5 * i)) ∧ (Rf (o + 55) 0 = some (o + 56) ∧ WfLand G n sh Rf (o + 56)) ∧ (Rf (o + 121) 0 = some (o + 122) ∧ WfLand G n sh Rf (o + 122))
/-- what a fresh Office holds -/
def FC (I : Nat → Nat → Int32) (o : Nat) : Prop :=
  I o 7 = 0 ∧ I (o + 1) 6 = 0 ∧ I (o + 1) 7 = 0 ∧ I (o + 1) 8 = -1 ∧ ZLand I (o + 8) ∧ I (o + 46) 1 = 0 ∧ I (o + 48) 6 = 0 ∧ I (o + 55) 15 = 0 ∧ ∀ i, i < 4 → ZReform I (o + 187 + 5 * i) ∧ I (o + 187 + 5 * i) 5 = 0
section CO
variable {D : va_G} {cA : FieldType → ClassId} {b : Nat} {E : State → Prop} {o n : Nat} {sh : Nat → qC} {Rf : Nat → Nat → Option Nat} {I : Nat → Nat → Int32} {L : Nat → Nat → Int64} {post : Option Value → qS → Prop}
theorem c_within (hok : q_ok (qGG D cA b E)) {x0 x1 x2 : Int32} (hp : post (some (.int (aIn x0 x1 x2))) (n, sh, Rf, I, L)) : Ev (qGG D cA b E) mOffice_within 0 (0, 0) 0 (lv_args 0 [.int x0, .int x1, .int x2]) [] (n, sh, Rf, I, L) post := by
  refine sOffice_within_0 n sh Rf I L post x0 x1 x2 hok ⟨fun h => ?_, fun h => ⟨fun h1 => ?_, fun h1 => ?_⟩⟩
  · unfold aIn at hp; rw [if_pos h] at hp; exact hp
  · unfold aIn at hp; rw [if_neg h, if_pos h1] at hp; exact hp
  · unfold aIn at hp; rw [if_neg h, if_neg h1] at hp; exact hp
theorem c_end (hok : q_ok (qGG D cA b E)) (hw : WO (qGG D cA b E) n sh Rf o) (hf : FC I o) {x1 : Int32} (hp : ∀ Rf' I' L', Fr o Rf I L Rf' I' L' → post (some (.int (aEnd x1))) (n, sh, Rf', I', L')) : Ev (qGG D cA b E) mOffice_end 0 (0, 0) 0 (lv_args 0 [.ref o, .int x1]) [] (n, sh, Rf, I, L) post := by
  have h2 := hf.2.1
  refine sOffice_end_0 o n sh Rf I L post x1 hok hw.1 ⟨fun h => ?_, fun h => ⟨fun h1 I3 e3 => ?_, fun h1 => ?_⟩⟩
  · have e : aEnd x1 = -1 := if_neg (fun q => by rw [q] at h; exact absurd h (by decide))
    rw [← e]; exact hp _ _ _ Fr.rfl
  · rw [h2] at h1
    have e : x1 = 0 := Int32.le_antisymm h1 (Int32.not_lt.mp h)
    have e2 : aEnd x1 = x1 := by rw [e]; rfl
    have := hp Rf I3 L (Fr.rfl.i (by omega) e3)
    rw [e2] at this
    exact this
  · have e : aEnd x1 = -1 := if_neg (fun q => by rw [q, h2] at h1; exact h1 (by decide))
    rw [← e]; exact hp _ _ _ Fr.rfl
theorem c_fault (hok : q_ok (qGG D cA b E)) (hw : WO (qGG D cA b E) n sh Rf o) (hf : FC I o) {x1 : Int32} (hp : ∀ Rf' I' L', Fr o Rf I L Rf' I' L' → post (some (.int (aFault x1))) (n, sh, Rf', I', L')) : Ev (qGG D cA b E) mOffice_fault 0 (0, 0) 0 (lv_args 0 [.ref o, .int x1]) [] (n, sh, Rf, I, L) post := by
  refine sOffice_fault_0 o n sh Rf I L post x1 hok hw.1 ⟨fun h => ⟨fun h1 => ?_, fun h1 => ?_⟩, fun h => ?_⟩
  · have e : aFault x1 = -1 := if_neg h
    rw [← e]; exact hp _ _ _ Fr.rfl
  · have e : aFault x1 = -1 := if_neg h
    rw [hf.2.2.2.1, ← e]; exact hp _ _ _ Fr.rfl
  · have e : aFault x1 = 0 := if_pos h
    rw [hf.2.2.1, ← e]; exact hp _ _ _ Fr.rfl
theorem c_later (hok : q_ok (qGG D cA b E)) (hw : WO (qGG D cA b E) n sh Rf o) (hf : FC I o) {x1 : Int32} (hp : ∀ Rf' I' L', Fr o Rf I L Rf' I' L' → post (some (.int (aLater x1))) (n, sh, Rf', I', L')) : Ev (qGG D cA b E) mOffice_later 0 (0, 0) 0 (lv_args 0 [.ref o, .int x1]) [] (n, sh, Rf, I, L) post := by
  have h68 := hf.1
  refine sOffice_later_0 o n sh Rf I L post x1 hok hw.1 ⟨fun h => ?_, fun h => ⟨fun h1 => ?_, fun h1 => ⟨fun h2 I4 e4 => ?_, fun h2 => absurd ?_ h2⟩⟩⟩
  · have e : aLater x1 = -1 := if_pos h
    rw [← e]; exact hp _ _ _ Fr.rfl
  · have e : aLater x1 = -1 := by unfold aLater; rw [if_neg h, if_pos h1]
    rw [← e]; exact hp _ _ _ Fr.rfl
  · have e : aLater x1 = x1 := by unfold aLater; rw [if_neg h, if_neg h1]
    have := hp Rf I4 L (Fr.rfl.i (by omega) e4)
    have q : I4 o 7 = x1 := by rw [← e4, q_u_at, h68, Int32.zero_add]
    rw [q]; rw [e] at this
    exact this
  · rw [h68, Int32.zero_add]
    have h3 := Int32.le_iff_toInt_le.mp (Int32.not_lt.mp h1)
    refine Int32.le_iff_toInt_le.mpr ?_
    rw [show (1000 : Int32).toInt = 1000 by decide] at h3
    rw [show (100000 : Int32).toInt = 100000 by decide]
    omega
theorem c_merchant (hok : q_ok (qGG D cA b E)) (hw : WO (qGG D cA b E) n sh Rf o) (hf : FC I o) {x1 : Int32} (hp : ∀ Rf' I' L', Fr o Rf I L Rf' I' L' → post (some (.int (aMerchant x1))) (n, sh, Rf', I', L')) : Ev (qGG D cA b E) mOffice_merchant 0 (0, 0) 0 (lv_args 0 [.ref o, .int x1]) [] (n, sh, Rf, I, L) post := by
  have h66 := hf.2.2.2.2.2.1
  refine sOffice_merchant_0 o n sh Rf I L post x1 hok hw.1 ⟨fun h => ?_, fun h => ⟨fun h1 => ?_, fun h1 => ⟨fun h2 I4 e4 => ?_, fun h2 => absurd (by rw [h66]; decide) h2⟩⟩⟩
  · have e : aMerchant x1 = -1 := if_pos h
    rw [← e]; exact hp _ _ _ Fr.rfl
  · have e : aMerchant x1 = -1 := by unfold aMerchant; rw [if_neg h, if_pos h1]
    rw [← e]; exact hp _ _ _ Fr.rfl
  · have h4 : I4 (o + 46) 1 = 0 := by rw [← e4, q_u_ne (by omega)]; exact h66
    refine ⟨by rw [h4]; unfold vp_in; decide, fun I5 e5 I7 e7 => ?_⟩
    have e : aMerchant x1 = 0 := by unfold aMerchant; rw [if_neg h, if_neg h1]
    have h5 : I5 (o + 46) 1 = 0 := by rw [← e5, q_u_ne (by omega)]; exact h4
    have h7 : I7 (o + 46) 1 - 1 = 0 := by rw [← e7, q_u_at, h5]; decide
    rw [h7, ← e]; exact hp _ _ _ (((Fr.rfl.i (by omega) e4).i (by omega) e5).i (by omega) e7)
theorem c_untell (hok : q_ok (qGG D cA b E)) (hw : WO (qGG D cA b E) n sh Rf o) (hf : FC I o) {x1 : Int32} (hp : ∀ Rf' I' L', Fr o Rf I L Rf' I' L' → post (some (.int (0))) (n, sh, Rf', I', L')) : Ev (qGG D cA b E) mOffice_untell 0 (0, 0) 0 (lv_args 0 [.ref o, .int x1]) [] (n, sh, Rf, I, L) post := by
  refine sOffice_untell_0 o n sh Rf I L post x1 hok hw.1 ⟨fun h => hp _ _ _ Fr.rfl, fun h => ⟨fun h1 => hp _ _ _ Fr.rfl, fun h1 => absurd ?_ h1⟩⟩
  rw [hf.2.2.2.2.2.2.1]
  exact Int32.not_lt.mp h
theorem c_ran (hok : q_ok (qGG D cA b E)) (hw : WO (qGG D cA b E) n sh Rf o) (hf : FC I o) {x1 : Int32} (hp : ∀ Rf' I' L', Fr o Rf I L Rf' I' L' → post (some (.long (-1))) (n, sh, Rf', I', L')) : Ev (qGG D cA b E) mOffice_ran 0 (0, 0) 0 (lv_args 0 [.ref o, .int x1]) [] (n, sh, Rf, I, L) post :=
  sOffice_ran_0 o n sh Rf I L post x1 hok hw.1 ⟨fun _ => hp _ _ _ Fr.rfl, fun h => absurd hf.2.2.2.2.2.2.2.1 h⟩
theorem c_paper (hok : q_ok (qGG D cA b E)) (hw : WO (qGG D cA b E) n sh Rf o) (hf : FC I o) {x1 x2 : Int32} (hp : ∀ Rf' I' L', Fr o Rf I L Rf' I' L' → post (some (.int (-1))) (n, sh, Rf', I', L')) : Ev (qGG D cA b E) mOffice_paper 1 (0, 0) 0 (lv_args 0 [.ref o, .int x1, .int x2]) [] (n, sh, Rf, I, L) post :=
  sOffice_paper_0 o n sh Rf I L post x1 x2 hok hw.1 ⟨fun _ => hp _ _ _ Fr.rfl, fun h => absurd hf.2.2.2.2.2.2.2.1 h⟩
theorem c_way (hok : q_ok (qGG D cA b E)) (hw : WO (qGG D cA b E) n sh Rf o) (hf : FC I o) {x1 x2 : Int32} (hp : ∀ Rf' I' L', Fr o Rf I L Rf' I' L' → post (some (.long (-1))) (n, sh, Rf', I', L')) : Ev (qGG D cA b E) mOffice_way 5 (0, 0) 0 (lv_args 0 [.ref o, .int x1, .int x2]) [] (n, sh, Rf, I, L) post :=
  sOffice_way_0 o n sh Rf I L post x1 x2 hok hw.1 ⟨fun _ => hp _ _ _ Fr.rfl, fun h => absurd hf.2.2.2.2.2.2.2.1 h⟩
theorem c_worth (hok : q_ok (qGG D cA b E)) (hw : WO (qGG D cA b E) n sh Rf o) (hf : FC I o) {x1 : Int32} (hp : ∀ Rf' I' L', Fr o Rf I L Rf' I' L' → post (some (.long (-1000000000000))) (n, sh, Rf', I', L')) : Ev (qGG D cA b E) mOffice_worth 4 (0, 0) 0 (lv_args 0 [.ref o, .int x1]) [] (n, sh, Rf, I, L) post :=
  sOffice_worth_0 o n sh Rf I L post x1 (o + 8) hok hw.1 hw.2.1.1 hw.2.1.2 ⟨fun _ => hp _ _ _ Fr.rfl, fun h => absurd hf.2.2.2.2.2.2.2.1 h⟩
theorem c_ranMonth (hok : q_ok (qGG D cA b E)) (hw : WO (qGG D cA b E) n sh Rf o) (hf : FC I o) {x1 : Int32} (hp : post (some (.int 0)) (n, sh, Rf, I, L)) : Ev (qGG D cA b E) mOffice_ranMonth 0 (0, 0) 0 (lv_args 0 [.ref o, .int x1]) [] (n, sh, Rf, I, L) post :=
  sOffice_ranMonth_0 o n sh Rf I L post x1 hok hw.1 ⟨fun _ => hp, fun h => absurd hf.2.2.2.2.2.2.2.1 h⟩
theorem c_book (hok : q_ok (qGG D cA b E)) (hw : WO (qGG D cA b E) n sh Rf o) (hf : FC I o) {x1 x2 x3 : Int32} (hp : ∀ Rf' I' L', Fr o Rf I L Rf' I' L' → post (some (.long (-1))) (n, sh, Rf', I', L')) : Ev (qGG D cA b E) mOffice_book 1 (0, 0) 0 (lv_args 0 [.ref o, .int x1, .int x2, .int x3]) [] (n, sh, Rf, I, L) post :=
  sOffice_book_0 o n sh Rf I L post x1 x2 x3 hok hw.1 (c_ranMonth hok hw hf ⟨0, I, L, rfl, rfl, fun _ => hp _ _ _ Fr.rfl, fun h => absurd rfl h⟩)
theorem c_fort (hok : q_ok (qGG D cA b E)) (hw : WO (qGG D cA b E) n sh Rf o) (hf : FC I o) {x1 x2 x3 : Int32} (hp : ∀ Rf' I' L', Fr o Rf I L Rf' I' L' → post (some (.int (-1))) (n, sh, Rf', I', L')) : Ev (qGG D cA b E) mOffice_fort 1 (0, 0) 0 (lv_args 0 [.ref o, .int x1, .int x2, .int x3]) [] (n, sh, Rf, I, L) post :=
  sOffice_fort_0 o n sh Rf I L post x1 x2 x3 (o + 8) hok hw.1 hw.2.1.1 hw.2.1.2 (c_ranMonth hok hw hf ⟨0, I, L, rfl, rfl, fun _ => hp _ _ _ Fr.rfl, fun h => absurd rfl h⟩)
theorem c_pan (hok : q_ok (qGG D cA b E)) (hw : WO (qGG D cA b E) n sh Rf o) (hf : FC I o) {x1 x2 x3 : Int32} (hp : ∀ Rf' I' L', Fr o Rf I L Rf' I' L' → post (some (.int (-1))) (n, sh, Rf', I', L')) : Ev (qGG D cA b E) mOffice_pan 1 (0, 0) 0 (lv_args 0 [.ref o, .int x1, .int x2, .int x3]) [] (n, sh, Rf, I, L) post :=
  sOffice_pan_0 o n sh Rf I L post x1 x2 x3 (o + 8) hok hw.1 hw.2.1.1 hw.2.1.2 (c_ranMonth hok hw hf ⟨0, I, L, rfl, rfl, fun _ => hp _ _ _ Fr.rfl, fun h => absurd rfl h⟩)
theorem c_town (hok : q_ok (qGG D cA b E)) (hw : WO (qGG D cA b E) n sh Rf o) (hf : FC I o) {x1 x2 x3 : Int32} (hp : ∀ Rf' I' L', Fr o Rf I L Rf' I' L' → post (some (.int (-1))) (n, sh, Rf', I', L')) : Ev (qGG D cA b E) mOffice_town 1 (0, 0) 0 (lv_args 0 [.ref o, .int x1, .int x2, .int x3]) [] (n, sh, Rf, I, L) post :=
  sOffice_town_0 o n sh Rf I L post x1 x2 x3 (o + 8) hok hw.1 hw.2.1.1 hw.2.1.2 (c_ranMonth hok hw hf ⟨0, I, L, rfl, rfl, fun _ => hp _ _ _ Fr.rfl, fun h => absurd rfl h⟩)
theorem c_dead (hok : q_ok (qGG D cA b E)) (hw : WO (qGG D cA b E) n sh Rf o) (hf : FC I o) {x1 x2 x3 : Int32} (hp : ∀ Rf' I' L', Fr o Rf I L Rf' I' L' → post (some (.int (-1))) (n, sh, Rf', I', L')) : Ev (qGG D cA b E) mOffice_dead 2 (0, 0) 0 (lv_args 0 [.ref o, .int x1, .int x2, .int x3]) [] (n, sh, Rf, I, L) post := by
  refine sOffice_dead_0 o n sh Rf I L post x1 x2 x3 hok hw.1 ⟨fun _ => hp _ _ _ Fr.rfl, fun h => ⟨fun _ => hp _ _ _ Fr.rfl, fun h1 => absurd ?_ h1⟩⟩
  rw [hf.2.2.2.2.2.1]
  exact Int32.not_lt.mp h
theorem c_weather (hok : q_ok (qGG D cA b E)) (hw : WO (qGG D cA b E) n sh Rf o) (hf : FC I o) {x1 x2 x3 : Int32} (hp : ∀ Rf' I' L', Fr o Rf I L Rf' I' L' → post (some (.int (-1))) (n, sh, Rf', I', L')) : Ev (qGG D cA b E) mOffice_weather 2 (0, 0) 0 (lv_args 0 [.ref o, .int x1, .int x2, .int x3]) [] (n, sh, Rf, I, L) post := by
  refine sOffice_weather_0 o n sh Rf I L post x1 x2 x3 (o + 8) hok hw.1 hw.2.1.1 hw.2.1.2 ⟨fun _ => hp _ _ _ Fr.rfl, fun h => ⟨fun _ => hp _ _ _ Fr.rfl, fun h1 => absurd ?_ h1⟩⟩
  rw [hf.2.2.2.2.1.2.2.1]
  exact Int32.not_lt.mp h
end CO
