/-! The reference's answers on a fresh object. -/
def FM (I : Nat → Nat → Int32) (o : Nat) : Prop := ZM I o ∧ I o 2 = 0 ∧ I o 4 = 0 ∧ I o 5 = -1 ∧ I o 68 = 0 ∧ I o 135 = 0 ∧ (∀ j, j < 2 → I (o + 6) j = 0) ∧ (∀ j, j < 6 → I (o + 29) j = 0) ∧ ∀ x y, x < 16 → y < 16 → I (o + 25) (16 * x + y) = if x = y then 0 else 1000000
def aIn (v a c : Int32) : Int32 := if v < a then 0 else if c < v then 0 else 1
def aEnd (x : Int32) : Int32 := if x = 0 then 0 else -1
def aFault (x : Int32) : Int32 := if x = 0 then 0 else -1
def aLater (x : Int32) : Int32 := if x < 0 then -1 else if 1000 < x then -1 else x
def aMerchant (x : Int32) : Int32 := if x < 0 then -1 else if 30000 < x then -1 else 0
def aCosts (a c e f g : Int32) : Int32 := if aIn a 0 99 = 0 ∨ aIn c 1 50 = 0 ∨ aIn e 0 99 = 0 ∨ aIn f 0 9999 = 0 ∨ aIn g 0 999 = 0 then 0 else 1
def aForged (p m : Int32) : Int32 := if aIn p 0 1999 = 0 ∨ aIn m 0 239 = 0 then -1 else 0
def aRun (s k : Int32) : Int32 := if aIn s 0 3 = 0 ∨ aIn k 0 240 = 0 then -1 else 0
def aJudge (x y k : Int32) : Int32 := if aIn x 0 3 = 0 ∨ aIn y 0 3 = 0 ∨ aIn k 0 240 = 0 then -1 else 2
theorem aIn_not {v a c : Int32} (h : ¬ aIn v a c = 0) : ¬ v < a ∧ ¬ c < v := by
  unfold aIn at h
  refine ⟨fun h1 => h (if_pos h1), fun h1 => ?_⟩
  by_cases h2 : v < a
  · exact h (if_pos h2)
  · rw [if_neg h2, if_pos h1] at h
    exact h rfl
theorem aIn_01 (v a c : Int32) : aIn v a c = 0 ∨ aIn v a c = 1 := by
  unfold aIn
  split
  · exact Or.inl rfl
  · split
    · exact Or.inl rfl
    · exact Or.inr rfl
/-- nothing lies within 0 and -1 -/
theorem aIn_none (v : Int32) : aIn v 0 (0 - 1) = 0 := by
  unfold aIn
  by_cases h : v < 0
  · rw [if_pos h]
  · rw [if_neg h, if_pos]
    have h1 : ¬ v.toInt < 0 := fun q => h (Int32.lt_iff_toInt_lt.mpr q)
    refine Int32.lt_iff_toInt_lt.mpr ?_
    have h2 : ((0 : Int32) - 1).toInt = -1 := by decide
    rw [h2]
    omega
section MF
variable {D : va_G} {cA : FieldType → ClassId} {b : Nat} {E : State → Prop} {o n : Nat} {sh : Nat → qC} {Rf : Nat → Nat → Option Nat} {I : Nat → Nat → Int32} {L : Nat → Nat → Int64} {post : Option Value → qS → Prop}
theorem l_isIn (hok : q_ok (qGG D cA b E)) {x0 x1 x2 : Int32} (hp : post (some (.int (aIn x0 x1 x2))) (n, sh, Rf, I, L)) : Ev (qGG D cA b E) mModel_isIn 0 (0, 0) 0 (lv_args 0 [.int x0, .int x1, .int x2]) [] (n, sh, Rf, I, L) post := by
  refine sModel_isIn_0 n sh Rf I L post x0 x1 x2 hok ⟨fun h => ?_, fun h => ⟨fun h1 => ?_, fun h1 => ?_⟩⟩
  · unfold aIn at hp; rw [if_pos h] at hp; exact hp
  · unfold aIn at hp; rw [if_neg h, if_pos h1] at hp; exact hp
  · unfold aIn at hp; rw [if_neg h, if_neg h1] at hp; exact hp
theorem l_isMonth (hok : q_ok (qGG D cA b E)) {x0 : Int32} (hp : post (some (.int (aIn x0 0 239))) (n, sh, Rf, I, L)) : Ev (qGG D cA b E) mModel_isMonth 1 (0, 0) 0 (lv_args 0 [.int x0]) [] (n, sh, Rf, I, L) post := by
  exact sModel_isMonth_0 n sh Rf I L post x0 hok (l_isIn hok ⟨_, I, L, rfl, rfl, aIn_01 _ _ _, hp⟩)
theorem m_end (hok : q_ok (qGG D cA b E)) (hw : WfModel (qGG D cA b E) n sh Rf o) (hf : FM I o) {x1 : Int32} (hp : ∀ I' L', post (some (.int (aEnd x1))) (n, sh, Rf, I', L')) : Ev (qGG D cA b E) mModel_end 0 (0, 0) 0 (lv_args 0 [.ref o, .int x1]) [] (n, sh, Rf, I, L) post := by
  have h2 := hf.2.1
  refine sModel_end_0 o n sh Rf I L post x1 hok hw ⟨fun h => ?_, fun h => ⟨fun h1 I3 e3 => ?_, fun h1 => ?_⟩⟩
  · have e : aEnd x1 = -1 := if_neg (fun q => by rw [q] at h; exact absurd h (by decide))
    rw [← e]; exact hp _ _
  · rw [h2] at h1
    have e : x1 = 0 := Int32.le_antisymm h1 (Int32.not_lt.mp h)
    have e2 : aEnd x1 = x1 := by rw [e]; rfl
    have := hp I3 L
    rw [e2] at this
    exact this
  · have e : aEnd x1 = -1 := if_neg (fun q => by rw [q, h2] at h1; exact h1 (by decide))
    rw [← e]; exact hp _ _
theorem m_fault (hok : q_ok (qGG D cA b E)) (hw : WfModel (qGG D cA b E) n sh Rf o) (hf : FM I o) {x1 : Int32} (hp : ∀ I' L', post (some (.int (aFault x1))) (n, sh, Rf, I', L')) : Ev (qGG D cA b E) mModel_fault 0 (0, 0) 0 (lv_args 0 [.ref o, .int x1]) [] (n, sh, Rf, I, L) post := by
  refine sModel_fault_0 o n sh Rf I L post x1 hok hw ⟨fun h => ⟨fun h1 => ?_, fun h1 => ?_⟩, fun h => ?_⟩
  · have e : aFault x1 = -1 := if_neg h
    rw [← e]; exact hp _ _
  · have e : aFault x1 = -1 := if_neg h
    rw [hf.2.2.2.1, ← e]; exact hp _ _
  · have e : aFault x1 = 0 := if_pos h
    rw [hf.2.2.1, ← e]; exact hp _ _
theorem m_later (hok : q_ok (qGG D cA b E)) (hw : WfModel (qGG D cA b E) n sh Rf o) (hf : FM I o) {x1 : Int32} (hp : ∀ I' L', post (some (.int (aLater x1))) (n, sh, Rf, I', L')) : Ev (qGG D cA b E) mModel_later 0 (0, 0) 0 (lv_args 0 [.ref o, .int x1]) [] (n, sh, Rf, I, L) post := by
  have h68 := hf.2.2.2.2.1
  refine sModel_later_0 o n sh Rf I L post x1 hok hw ⟨fun h => ?_, fun h => ⟨fun h1 => ?_, fun h1 => ⟨fun h2 I4 e4 => ?_, fun h2 => absurd ?_ h2⟩⟩⟩
  · have e : aLater x1 = -1 := if_pos h
    rw [← e]; exact hp _ _
  · have e : aLater x1 = -1 := by unfold aLater; rw [if_neg h, if_pos h1]
    rw [← e]; exact hp _ _
  · have e : aLater x1 = x1 := by unfold aLater; rw [if_neg h, if_neg h1]
    rw [← e4, q_u_at, h68, Int32.zero_add]
    have := hp (q_u I o 68 (0 + x1)) L
    rw [e, Int32.zero_add] at this
    exact this
  · rw [h68, Int32.zero_add]
    have h3 := Int32.le_iff_toInt_le.mp (Int32.not_lt.mp h1)
    refine Int32.le_iff_toInt_le.mpr ?_
    rw [show (1000 : Int32).toInt = 1000 by decide] at h3
    rw [show (100000 : Int32).toInt = 100000 by decide]
    omega
theorem m_merchant (hok : q_ok (qGG D cA b E)) (hw : WfModel (qGG D cA b E) n sh Rf o) (hf : FM I o) {x1 : Int32} (hp : ∀ I' L', post (some (.int (aMerchant x1))) (n, sh, Rf, I', L')) : Ev (qGG D cA b E) mModel_merchant 0 (0, 0) 0 (lv_args 0 [.ref o, .int x1]) [] (n, sh, Rf, I, L) post := by
  have h66 := hf.1.2.2.1
  refine sModel_merchant_0 o n sh Rf I L post x1 hok hw ⟨fun h => ?_, fun h => ⟨fun h1 => ?_, fun h1 => ⟨fun h2 I4 e4 => ?_, fun h2 => absurd (h66.symm.trans h2) (by decide)⟩⟩⟩
  · have e : aMerchant x1 = -1 := if_pos h
    rw [← e]; exact hp _ _
  · have e : aMerchant x1 = -1 := by unfold aMerchant; rw [if_neg h, if_pos h1]
    rw [← e]; exact hp _ _
  · have h4 : I4 o 66 = 0 := by rw [← e4, q_u_k (by decide)]; exact h66
    refine ⟨by rw [h4]; unfold vp_in; decide, fun I5 e5 I7 e7 => ?_⟩
    have e : aMerchant x1 = 0 := by unfold aMerchant; rw [if_neg h, if_neg h1]
    have h5 : I5 o 66 = 0 := by rw [← e5, q_u_ne (by omega)]; exact h4
    have h7 : I7 o 66 - 1 = 0 := by rw [← e7, q_u_at, h5]; decide
    rw [h7, ← e]; exact hp _ _
theorem m_untell (hok : q_ok (qGG D cA b E)) (hw : WfModel (qGG D cA b E) n sh Rf o) (hf : FM I o) {x1 : Int32} (hp : ∀ I' L', post (some (.int (0))) (n, sh, Rf, I', L')) : Ev (qGG D cA b E) mModel_untell 0 (0, 0) 0 (lv_args 0 [.ref o, .int x1]) [] (n, sh, Rf, I, L) post := by
  refine sModel_untell_0 o n sh Rf I L post x1 hok hw ⟨fun h => hp _ _, fun h => ⟨fun h1 => hp _ _, fun h1 => absurd ?_ h1⟩⟩
  rw [hf.1.2.2.2.1]
  exact Int32.not_lt.mp h
theorem m_ran (hok : q_ok (qGG D cA b E)) (hw : WfModel (qGG D cA b E) n sh Rf o) (hf : FM I o) {x1 : Int32} (hp : ∀ I' L', post (some (.long (-1))) (n, sh, Rf, I', L')) : Ev (qGG D cA b E) mModel_ran 3 (0, 0) 0 (lv_args 0 [.ref o, .int x1]) [] (n, sh, Rf, I, L) post := by
  refine sModel_ran_0 o n sh Rf I L post x1 hok hw ⟨fun h => absurd hf.2.2.2.2.2.1 h, fun _ => hp _ _⟩
theorem m_paper (hok : q_ok (qGG D cA b E)) (hw : WfModel (qGG D cA b E) n sh Rf o) (hf : FM I o) {x1 x2 : Int32} (hp : ∀ I' L', post (some (.int (-1))) (n, sh, Rf, I', L')) : Ev (qGG D cA b E) mModel_paper 0 (0, 0) 0 (lv_args 0 [.ref o, .int x1, .int x2]) [] (n, sh, Rf, I, L) post := by
  refine sModel_paper_0 o n sh Rf I L post x1 x2 hok hw ⟨fun _ => hp _ _, fun h => absurd hf.2.2.2.2.2.1 h⟩
theorem m_way (hok : q_ok (qGG D cA b E)) (hw : WfModel (qGG D cA b E) n sh Rf o) (hf : FM I o) {x1 x2 : Int32} (hp : ∀ I' L', post (some (.long (-1))) (n, sh, Rf, I', L')) : Ev (qGG D cA b E) mModel_way 8 (0, 0) 0 (lv_args 0 [.ref o, .int x1, .int x2]) [] (n, sh, Rf, I, L) post := by
  refine sModel_way_0 o n sh Rf I L post x1 x2 hok hw ⟨fun _ => hp _ _, fun h => absurd hf.2.2.2.2.2.1 h⟩
theorem m_worth (hok : q_ok (qGG D cA b E)) (hw : WfModel (qGG D cA b E) n sh Rf o) (hf : FM I o) {x1 : Int32} (hp : ∀ I' L', post (some (.long (-1000000000000))) (n, sh, Rf, I', L')) : Ev (qGG D cA b E) mModel_worth 8 (0, 0) 0 (lv_args 0 [.ref o, .int x1]) [] (n, sh, Rf, I, L) post := by
  refine sModel_worth_0 o n sh Rf I L post x1 hok hw ⟨fun _ => hp _ _, fun h => absurd hf.2.2.2.2.2.1 h⟩
theorem m_isRanMonth (hok : q_ok (qGG D cA b E)) (hw : WfModel (qGG D cA b E) n sh Rf o) (hf : FM I o) {x1 : Int32} (hp : post (some (.int 0)) (n, sh, Rf, I, L)) : Ev (qGG D cA b E) mModel_isRanMonth 0 (0, 0) 0 (lv_args 0 [.ref o, .int x1]) [] (n, sh, Rf, I, L) post := by
  refine sModel_isRanMonth_0 o n sh Rf I L post x1 hok hw ⟨fun _ => hp, fun h => absurd hf.2.2.2.2.2.1 h⟩
theorem m_book (hok : q_ok (qGG D cA b E)) (hw : WfModel (qGG D cA b E) n sh Rf o) (hf : FM I o) {x1 x2 x3 : Int32} (hp : ∀ I' L', post (some (.long (-1))) (n, sh, Rf, I', L')) : Ev (qGG D cA b E) mModel_book 1 (0, 0) 0 (lv_args 0 [.ref o, .int x1, .int x2, .int x3]) [] (n, sh, Rf, I, L) post := by
  exact sModel_book_0 o n sh Rf I L post x1 x2 x3 hok hw (m_isRanMonth hok hw hf ⟨0, I, L, rfl, rfl, fun _ => hp _ _, fun h => absurd rfl h⟩)
theorem m_fort (hok : q_ok (qGG D cA b E)) (hw : WfModel (qGG D cA b E) n sh Rf o) (hf : FM I o) {x1 x2 x3 : Int32} (hp : ∀ I' L', post (some (.int (-1))) (n, sh, Rf, I', L')) : Ev (qGG D cA b E) mModel_fort 1 (0, 0) 0 (lv_args 0 [.ref o, .int x1, .int x2, .int x3]) [] (n, sh, Rf, I, L) post := by
  refine sModel_fort_0 o n sh Rf I L post x1 x2 x3 hok hw (z_forts hok hw hf.1 ⟨0, I, L, rfl, rfl, l_isIn hok ⟨_, I, L, rfl, rfl, fun _ => hp _ _, fun h => absurd (aIn_none x1) h⟩⟩)
theorem m_pan (hok : q_ok (qGG D cA b E)) (hw : WfModel (qGG D cA b E) n sh Rf o) (hf : FM I o) {x1 x2 x3 : Int32} (hp : ∀ I' L', post (some (.int (-1))) (n, sh, Rf, I', L')) : Ev (qGG D cA b E) mModel_pan 1 (0, 0) 0 (lv_args 0 [.ref o, .int x1, .int x2, .int x3]) [] (n, sh, Rf, I, L) post := by
  refine sModel_pan_0 o n sh Rf I L post x1 x2 x3 hok hw (z_pans hok hw hf.1 ⟨0, I, L, rfl, rfl, l_isIn hok ⟨_, I, L, rfl, rfl, fun _ => hp _ _, fun h => absurd (aIn_none x1) h⟩⟩)
theorem m_town (hok : q_ok (qGG D cA b E)) (hw : WfModel (qGG D cA b E) n sh Rf o) (hf : FM I o) {x1 x2 x3 : Int32} (hp : ∀ I' L', post (some (.int (-1))) (n, sh, Rf, I', L')) : Ev (qGG D cA b E) mModel_town 1 (0, 0) 0 (lv_args 0 [.ref o, .int x1, .int x2, .int x3]) [] (n, sh, Rf, I, L) post := by
  refine sModel_town_0 o n sh Rf I L post x1 x2 x3 hok hw (z_towns hok hw hf.1 ⟨0, I, L, rfl, rfl, l_isIn hok ⟨_, I, L, rfl, rfl, fun _ => hp _ _, fun h => absurd (aIn_none x1) h⟩⟩)
theorem m_weather (hok : q_ok (qGG D cA b E)) (hw : WfModel (qGG D cA b E) n sh Rf o) (hf : FM I o) {x1 x2 x3 : Int32} (hp : ∀ I' L', post (some (.int (-1))) (n, sh, Rf, I', L')) : Ev (qGG D cA b E) mModel_weather 2 (0, 0) 0 (lv_args 0 [.ref o, .int x1, .int x2, .int x3]) [] (n, sh, Rf, I, L) post := by
  exact sModel_weather_0 o n sh Rf I L post x1 x2 x3 hok hw (z_pans hok hw hf.1 ⟨0, I, L, rfl, rfl, l_isIn hok ⟨_, I, L, rfl, rfl, fun _ => hp _ _, fun h => absurd (aIn_none x1) h⟩⟩)
theorem m_dead (hok : q_ok (qGG D cA b E)) (hw : WfModel (qGG D cA b E) n sh Rf o) (hf : FM I o) {x1 x2 x3 : Int32} (hp : ∀ I' L', post (some (.int (-1))) (n, sh, Rf, I', L')) : Ev (qGG D cA b E) mModel_dead 2 (0, 0) 0 (lv_args 0 [.ref o, .int x1, .int x2, .int x3]) [] (n, sh, Rf, I, L) post := by
  exact sModel_dead_0 o n sh Rf I L post x1 x2 x3 hok hw (l_isIn hok ⟨_, I, L, rfl, rfl, fun _ => hp _ _, fun h => absurd (by rw [hf.1.2.2.1]; exact aIn_none x1) h⟩)
theorem m_forged (hok : q_ok (qGG D cA b E)) (hw : WfModel (qGG D cA b E) n sh Rf o) (hf : FM I o) {x1 x2 : Int32} (hp : ∀ I' L', post (some (.int (aForged x1 x2))) (n, sh, Rf, I', L')) : Ev (qGG D cA b E) mModel_forged 2 (0, 0) 0 (lv_args 0 [.ref o, .int x1, .int x2]) [] (n, sh, Rf, I, L) post := by
  have h67 := hf.1.2.2.2.1
  refine sModel_forged_0 o n sh Rf I L post x1 x2 hok hw (l_isIn hok ⟨_, I, L, rfl, rfl, fun h => ?_, fun h => ?_⟩)
  · have e : aForged x1 x2 = -1 := if_pos (Or.inl h)
    rw [← e]; exact hp _ _
  · refine l_isMonth hok ⟨_, I, L, rfl, rfl, fun h1 => ?_, fun h1 => ?_⟩
    · have e : aForged x1 x2 = -1 := if_pos (Or.inr h1)
      rw [← e]; exact hp _ _
    · have e : aForged x1 x2 = 0 := if_neg (fun q => q.elim h h1)
      have v : ∀ J : Nat → Nat → Int32, J o 67 = 0 → vp_in (J o 67) 40 := fun J q => by rw [q]; unfold vp_in; decide
      refine sModel_fact_0 o n sh Rf I L _ 1 x1 x2 0 hok hw ⟨fun _ => ⟨v I h67, fun I2 e2 => ?_⟩, fun q => absurd (h67.symm.trans q) (by decide)⟩
      have k2 : I2 o 67 = 0 := by rw [← e2, q_u_ne (by omega)]; exact h67
      refine ⟨v I2 k2, fun I4 e4 => ?_⟩
      have k4 : I4 o 67 = 0 := by rw [← e4, q_u_ne (by omega)]; exact k2
      refine ⟨v I4 k4, fun I6 e6 => ?_⟩
      have k6 : I6 o 67 = 0 := by rw [← e6, q_u_ne (by omega)]; exact k4
      refine ⟨v I6 k6, fun I8 e8 => ?_⟩
      have k8 : I8 o 67 = 0 := by rw [← e8, q_u_ne (by omega)]; exact k6
      refine ⟨v I8 k8, fun I10 e10 => ?_⟩
      have k10 : I10 o 67 = 0 := by rw [← e10, q_u_ne (by omega)]; exact k8
      refine ⟨v I10 k10, fun I12 e12 I14 e14 => ?_⟩
      have k12 : I12 o 67 = 0 := by rw [← e12, q_u_ne (by omega)]; exact k10
      have k14 : I14 o 67 - 1 = 0 := by rw [← e14, q_u_at, k12]; decide
      refine ⟨_, I14, L, rfl, rfl, ?_⟩
      rw [k14, ← e]; exact hp _ _
theorem m_costs (hok : q_ok (qGG D cA b E)) (hw : WfModel (qGG D cA b E) n sh Rf o) {x1 x2 x3 x4 x5 : Int32} (hp : ∀ I' L', post (some (.int (aCosts x1 x2 x3 x4 x5))) (n, sh, Rf, I', L')) : Ev (qGG D cA b E) mModel_costs 1 (0, 0) 0 (lv_args 0 [.ref o, .int x1, .int x2, .int x3, .int x4, .int x5]) [] (n, sh, Rf, I, L) post := by
  have no : (aIn x1 0 99 = 0 ∨ aIn x2 1 50 = 0 ∨ aIn x3 0 99 = 0 ∨ aIn x4 0 9999 = 0 ∨ aIn x5 0 999 = 0) → ∀ I' L', post (some (.int 0)) (n, sh, Rf, I', L') := fun h I' L' => by
    have e : aCosts x1 x2 x3 x4 x5 = 0 := if_pos h
    rw [← e]; exact hp _ _
  refine sModel_costs_0 o n sh Rf I L post x1 x2 x3 x4 x5 hok hw (l_isIn hok ⟨_, I, L, rfl, rfl, fun h1 => no (by simp [h1]) _ _, fun h1 => ?_⟩)
  refine l_isIn hok ⟨_, I, L, rfl, rfl, fun h2 => no (by simp [h2]) _ _, fun h2 => ?_⟩
  refine l_isIn hok ⟨_, I, L, rfl, rfl, fun h3 => no (by simp [h3]) _ _, fun h3 => ?_⟩
  refine l_isIn hok ⟨_, I, L, rfl, rfl, fun h4 => no (by simp [h4]) _ _, fun h4 => ?_⟩
  refine l_isIn hok ⟨_, I, L, rfl, rfl, fun h5 => ?_, fun h5 => no (by simp [h5]) _ _⟩
  have e : aCosts x1 x2 x3 x4 x5 = 1 := if_neg (by simp [h1, h2, h3, h4, h5])
  intros
  rw [← e]; exact hp _ _
theorem m_run (hok : q_ok (qGG D cA b E)) (hw : WfModel (qGG D cA b E) n sh Rf o) (hf : FM I o) {x1 x2 x3 : Int32} (hp : ∀ I' L', post (some (.int (aRun x1 x2))) (n, sh, Rf, I', L')) : Ev (qGG D cA b E) mModel_run 10 (0, 0) 0 (lv_args 0 [.ref o, .int x1, .int x2, .int x3]) [] (n, sh, Rf, I, L) post := by
  refine sModel_run_0 o n sh Rf I L post x1 x2 x3 hok hw (l_isIn hok ⟨_, I, L, rfl, rfl, fun h => ?_, fun h => ?_⟩)
  · have e : aRun x1 x2 = -1 := if_pos (Or.inl h)
    rw [← e]; exact hp _ _
  · refine l_isIn hok ⟨_, I, L, rfl, rfl, fun h1 => ?_, fun h1 => ?_⟩
    · have e : aRun x1 x2 = 0 := if_neg (fun q => q.elim h h1)
      obtain ⟨s1, s2⟩ := aIn_not h
      obtain ⟨t1, t2⟩ := aIn_not h1
      obtain ⟨N, hN, rfl⟩ := nI_of2 (M := 240) (n := 240) (by decide) t1 (Int32.not_lt.mp t2)
      obtain ⟨S, hS, rfl⟩ := nI_of2 (M := 3) (n := 3) (by decide) s1 (Int32.not_lt.mp s2)
      have zs : ZS (nI S) := by
        rcases (show S = 0 ∨ S = 1 ∨ S = 2 ∨ S = 3 by omega) with rfl | rfl | rfl | rfl <;> (unfold ZS; decide)
      refine z_live hok hw rfl hN zs hf.1 hf.2.2.2.2.2.1 (fun I2 L2 z2 l2 a2 => ⟨I2, L2, rfl, rfl, fun I3 e3 I4 e4 I5 e5 => ?_⟩)
      have k5 : I5 o 104 = 0 := by rw [← e5, q_u_k (by decide), ← e4, q_u_k (by decide), ← e3, q_u_k (by decide)]; exact z2.2.1
      refine l_lay (x := S) (y := 5) hok hw rfl rfl (by omega) (by omega) (fun I6 h6 => ⟨I6, L2, rfl, rfl, ?_⟩)
      refine z_keep hok hw ((h6 104).trans k5) (fun I7 L7 h7 => ⟨I7, L7, rfl, rfl, ?_⟩)
      rw [h7, ← e]; exact hp _ _
    · have e : aRun x1 x2 = -1 := if_pos (Or.inr h1)
      rw [← e]; exact hp _ _
end MF
