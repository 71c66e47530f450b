/-! The reference while nothing has been told: no FORT, PAN, TOWN, MERCHANT, FACT, no line of a REFORM. -/
def ZM (I : Nat → Nat → Int32) (o : Nat) : Prop := (I o 34 = 0 ∨ I o 34 = 1) ∧ (∀ j, j < 2 → I (o + 7) j = 0 ∧ I (o + 8) j = 0 ∧ I (o + 9) j = 0) ∧ I o 66 = 0 ∧ I o 67 = 0 ∧ ∀ j, j < 60 → I (o + 26) j = -1
def ZS (x : Int32) : Prop := x = 0 ∨ x = 1 ∨ x = 2 ∨ x = 3 ∨ x = 5
def ZR (I : Nat → Nat → Int32) (o : Nat) : Prop := ZM I o ∧ I o 104 = 0 ∧ I o 105 = 0 ∧ ZS (I o 106) ∧ I o 135 = 0
theorem ZM.put {I : Nat → Nat → Int32} {o k : Nat} {v : Int32} (h : ZM I o) (h1 : k ≠ 34) (h2 : k ≠ 66) (h3 : k ≠ 67) : ZM (q_u I o k v) o := by
  obtain ⟨a1, a2, a3, a4, a5⟩ := h
  refine ⟨?_, fun j hj => ?_, ?_, ?_, fun j hj => ?_⟩
  · rw [q_u_k (Ne.symm h1)]; exact a1
  · rw [q_u_ne (by omega), q_u_ne (by omega), q_u_ne (by omega)]; exact a2 j hj
  · rw [q_u_k (Ne.symm h2)]; exact a3
  · rw [q_u_k (Ne.symm h3)]; exact a4
  · rw [q_u_ne (by omega)]; exact a5 j hj
theorem ZM.arr {I : Nat → Nat → Int32} {o a k : Nat} {v : Int32} (h : ZM I o) (h1 : a ≠ o) (h2 : a ≠ o + 7) (h3 : a ≠ o + 8) (h4 : a ≠ o + 9) (h5 : a ≠ o + 26) : ZM (q_u I a k v) o := by
  obtain ⟨a1, a2, a3, a4, a5⟩ := h
  refine ⟨?_, fun j hj => ?_, ?_, ?_, fun j hj => ?_⟩
  · rw [q_u_ne (Ne.symm h1)]; exact a1
  · rw [q_u_ne (Ne.symm h2), q_u_ne (Ne.symm h3), q_u_ne (Ne.symm h4)]; exact a2 j hj
  · rw [q_u_ne (Ne.symm h1)]; exact a3
  · rw [q_u_ne (Ne.symm h1)]; exact a4
  · rw [q_u_ne (Ne.symm h5)]; exact a5 j hj
theorem ZR.put {I : Nat → Nat → Int32} {o k : Nat} {v : Int32} (h : ZR I o) (h1 : k ≠ 34) (h2 : k ≠ 66) (h3 : k ≠ 67) (h4 : k ≠ 104) (h5 : k ≠ 105) (h6 : k ≠ 106) (h7 : k ≠ 135) : ZR (q_u I o k v) o := by
  obtain ⟨a1, a2, a3, a4, a5⟩ := h
  refine ⟨a1.put h1 h2 h3, ?_, ?_, ?_, ?_⟩
  · rw [q_u_k (Ne.symm h4)]; exact a2
  · rw [q_u_k (Ne.symm h5)]; exact a3
  · rw [q_u_k (Ne.symm h6)]; exact a4
  · rw [q_u_k (Ne.symm h7)]; exact a5
theorem ZR.arr {I : Nat → Nat → Int32} {o a k : Nat} {v : Int32} (h : ZR I o) (h1 : a ≠ o) (h2 : a ≠ o + 7) (h3 : a ≠ o + 8) (h4 : a ≠ o + 9) (h5 : a ≠ o + 26) : ZR (q_u I a k v) o := by
  obtain ⟨a1, a2, a3, a4, a5⟩ := h
  refine ⟨a1.arr h1 h2 h3 h4 h5, ?_, ?_, ?_, ?_⟩
  · rw [q_u_ne (Ne.symm h1)]; exact a2
  · rw [q_u_ne (Ne.symm h1)]; exact a3
  · rw [q_u_ne (Ne.symm h1)]; exact a4
  · rw [q_u_ne (Ne.symm h1)]; exact a5
theorem vin_lt {i : Int32} {w : Nat} (h : vp_in i w) : i.toNatClampNeg < w := Nat.not_le.mp fun q => h (Or.inr q)
section MZ
variable {D : va_G} {cA : FieldType → ClassId} {b : Nat} {E : State → Prop} {o n : Nat} {sh : Nat → qC} {Rf : Nat → Nat → Option Nat} {I : Nat → Nat → Int32} {L : Nat → Nat → Int64} {post : Option Value → qS → Prop}
theorem z_bank (hz : ZM I o) : vp_in (I o 34) 2 := by
  rcases hz.1 with h | h <;> rw [h] <;> (unfold vp_in; decide)
theorem z_forts (hok : q_ok (qGG D cA b E)) (hw : WfModel (qGG D cA b E) n sh Rf o) (hz : ZM I o) (hp : post (some (.int 0)) (n, sh, Rf, I, L)) : Ev (qGG D cA b E) mModel_forts 0 (0, 0) 0 (lv_args 0 [.ref o]) [] (n, sh, Rf, I, L) post := by
  refine sModel_forts_0 o n sh Rf I L post hok hw ⟨z_bank hz, ?_⟩
  rw [(hz.2.1 _ (vin_lt (z_bank hz))).1]
  exact hp
theorem z_pans (hok : q_ok (qGG D cA b E)) (hw : WfModel (qGG D cA b E) n sh Rf o) (hz : ZM I o) (hp : post (some (.int 0)) (n, sh, Rf, I, L)) : Ev (qGG D cA b E) mModel_pans 0 (0, 0) 0 (lv_args 0 [.ref o]) [] (n, sh, Rf, I, L) post := by
  refine sModel_pans_0 o n sh Rf I L post hok hw ⟨z_bank hz, ?_⟩
  rw [(hz.2.1 _ (vin_lt (z_bank hz))).2.1]
  exact hp
theorem z_towns (hok : q_ok (qGG D cA b E)) (hw : WfModel (qGG D cA b E) n sh Rf o) (hz : ZM I o) (hp : post (some (.int 0)) (n, sh, Rf, I, L)) : Ev (qGG D cA b E) mModel_towns 0 (0, 0) 0 (lv_args 0 [.ref o]) [] (n, sh, Rf, I, L) post := by
  refine sModel_towns_0 o n sh Rf I L post hok hw ⟨z_bank hz, ?_⟩
  rw [(hz.2.1 _ (vin_lt (z_bank hz))).2.2]
  exact hp
theorem z_told (hok : q_ok (qGG D cA b E)) (hw : WfModel (qGG D cA b E) n sh Rf o) (hz : ZM I o) {x1 x2 : Int32} (h1 : ZS x1) (h2 : x2 = 1 ∨ x2 = 2 ∨ x2 = 3 ∨ x2 = 4) (hp : post (some (.int 0)) (n, sh, Rf, I, L)) : Ev (qGG D cA b E) mModel_told 4 (0, 0) 0 (lv_args 0 [.ref o, .int x1, .int x2]) [] (n, sh, Rf, I, L) post := by
  have hv : vp_in ((10 * x1) + x2) 60 := by
    rcases h1 with rfl | rfl | rfl | rfl | rfl <;> rcases h2 with rfl | rfl | rfl | rfl <;> (unfold vp_in; decide)
  have he := hz.2.2.2.2 _ (vin_lt hv)
  refine sModel_told_0 o n sh Rf I L post x1 x2 hok hw ⟨hv, fun h => absurd h ?_, fun _ => hp⟩
  rw [he]
  decide
theorem z_bounded (hok : q_ok (qGG D cA b E)) (hw : WfModel (qGG D cA b E) n sh Rf o) (hz : ZM I o) {x1 x2 : Int32} (h1 : ZS x1) (h2 : x2 = 1 ∨ x2 = 2 ∨ x2 = 3 ∨ x2 = 4) (hp : post (some (.int 0)) (n, sh, Rf, I, L)) : Ev (qGG D cA b E) mModel_bounded 5 (0, 0) 0 (lv_args 0 [.ref o, .int x1, .int x2]) [] (n, sh, Rf, I, L) post := by
  refine sModel_bounded_0 o n sh Rf I L post x1 x2 hok hw (z_told hok hw hz h1 h2 ⟨0, I, L, rfl, rfl, fun _ => ?_, fun _ => ?_⟩)
  · exact ⟨fun _ => ⟨fun _ => hp, fun h => absurd (by decide) h⟩, fun h => absurd (by decide) h⟩
  · exact ⟨fun _ => ⟨fun _ => hp, fun h => absurd (by decide) h⟩, fun h => absurd (by decide) h⟩
theorem z_tellMonth (hok : q_ok (qGG D cA b E)) (hw : WfModel (qGG D cA b E) n sh Rf o) (hz : ZR I o) (hp : ∀ I2, ZR I2 o → I2 o 57 = I o 57 → post none (n, sh, Rf, I2, L)) : Ev (qGG D cA b E) mModel_tellMonth 6 (0, 0) 0 (lv_args 0 [.ref o]) [] (n, sh, Rf, I, L) post := by
  have step : ∀ {J : Nat → Nat → Int32} {k : Nat} {v : Int32}, ZR J o → (k = 107 ∨ k = 108 ∨ k = 109 ∨ k = 110) → ZR (q_u J o k v) o := fun {J k v} h hk => h.put (by omega) (by omega) (by omega) (by omega) (by omega) (by omega) (by omega)
  refine sModel_tellMonth_0 o n sh Rf I L post hok hw (z_bounded hok hw hz.1 hz.2.2.2.1 (by simp) ⟨0, I, L, rfl, rfl, fun I1 e1 => ?_⟩)
  have z1 : ZR I1 o := e1 ▸ step hz (by simp)
  refine z_bounded hok hw z1.1 z1.2.2.2.1 (by simp) ⟨0, I1, L, rfl, rfl, fun I2 e2 => ?_⟩
  have z2 : ZR I2 o := e2 ▸ step z1 (by simp)
  refine z_bounded hok hw z2.1 z2.2.2.2.1 (by simp) ⟨0, I2, L, rfl, rfl, fun I3 e3 => ?_⟩
  have z3 : ZR I3 o := e3 ▸ step z2 (by simp)
  refine z_bounded hok hw z3.1 z3.2.2.2.1 (by simp) ⟨0, I3, L, rfl, rfl, fun I4 e4 => ?_⟩
  have z4 : ZR I4 o := e4 ▸ step z3 (by simp)
  refine hp I4 z4 ?_
  rw [← e4, ← e3, ← e2, ← e1, q_u_k (by decide), q_u_k (by decide), q_u_k (by decide), q_u_k (by decide)]
theorem z_beginMonth (hok : q_ok (qGG D cA b E)) (hw : WfModel (qGG D cA b E) n sh Rf o) (hz : ZR I o) (hp : post none (n, sh, Rf, I, L)) : Ev (qGG D cA b E) mModel_beginMonth 2 (0, 0) 0 (lv_args 0 [.ref o]) [] (n, sh, Rf, I, L) post := by
  refine sModel_beginMonth_0 o n sh Rf I L post hok hw (sModel_beginMonth_2 o n sh Rf I L post 0 hok hw ⟨fun _ => ?_, fun h => absurd (by rw [hz.1.2.2.1]; decide) h⟩)
  exact sModel_beginMonth_36 o n sh Rf I L post 0 hok hw ⟨fun _ => hp, fun h => absurd (by rw [hz.2.1]; decide) h⟩
theorem z_make (hok : q_ok (qGG D cA b E)) (hw : WfModel (qGG D cA b E) n sh Rf o) (hz : ZR I o) (hp : post none (n, sh, Rf, I, L)) : Ev (qGG D cA b E) mModel_make 1 (0, 0) 0 (lv_args 0 [.ref o]) [] (n, sh, Rf, I, L) post := by
  refine sModel_make_0 o n sh Rf I L post hok hw (sModel_make_2 o n sh Rf I L post 0 hok hw ?_)
  exact z_pans hok hw hz.1 ⟨0, I, L, rfl, rfl, fun _ => hp, fun h => absurd (by decide) h⟩
theorem z_comes (hok : q_ok (qGG D cA b E)) (hw : WfModel (qGG D cA b E) n sh Rf o) (hz : ZR I o) (hp : post none (n, sh, Rf, I, L)) : Ev (qGG D cA b E) mModel_comes 3 (0, 0) 0 (lv_args 0 [.ref o]) [] (n, sh, Rf, I, L) post := by
  refine sModel_comes_0 o n sh Rf I L post hok hw (sModel_comes_7 o n sh Rf I L post (I o 105) 0 hok hw ⟨fun _ => hp, fun h => absurd (by rw [hz.2.2.1]; decide) h⟩)
theorem z_classes (hok : q_ok (qGG D cA b E)) (hw : WfModel (qGG D cA b E) n sh Rf o) (hz : ZR I o) (hp : post none (n, sh, Rf, I, L)) : Ev (qGG D cA b E) mModel_classes 5 (0, 0) 0 (lv_args 0 [.ref o]) [] (n, sh, Rf, I, L) post := by
  refine sModel_classes_0 o n sh Rf I L post hok hw (sModel_classes_2 o n sh Rf I L post 0 hok hw ⟨fun _ => hp, fun h => absurd (by rw [hz.2.1]; decide) h⟩)
theorem z_eat (hok : q_ok (qGG D cA b E)) (hw : WfModel (qGG D cA b E) n sh Rf o) (hz : ZR I o) (hp : post none (n, sh, Rf, I, L)) : Ev (qGG D cA b E) mModel_eat 1 (0, 0) 0 (lv_args 0 [.ref o]) [] (n, sh, Rf, I, L) post := by
  refine sModel_eat_0 o n sh Rf I L post hok hw (sModel_eat_2 o n sh Rf I L post 0 hok hw (z_forts hok hw hz.1 ⟨0, I, L, rfl, rfl, fun _ => ?_, fun h => absurd (by decide) h⟩))
  exact sModel_eat_104 o n sh Rf I L post 0 hok hw (z_towns hok hw hz.1 ⟨0, I, L, rfl, rfl, fun _ => hp, fun h => absurd (by decide) h⟩)
theorem z_fillTowns (hok : q_ok (qGG D cA b E)) (hw : WfModel (qGG D cA b E) n sh Rf o) (hz : ZR I o) (hp : ∀ I2, ZR I2 o → I2 o 57 = I o 57 → post none (n, sh, Rf, I2, L)) : Ev (qGG D cA b E) mModel_fillTowns 1 (0, 0) 0 (lv_args 0 [.ref o]) [] (n, sh, Rf, I, L) post := by
  refine sModel_fillTowns_0 o n sh Rf I L post hok hw (sModel_fillTowns_2 o n sh Rf I L post 0 hok hw (z_towns hok hw hz.1 ⟨0, I, L, rfl, rfl, fun _ I2 e2 => ?_, fun h => absurd (by decide) h⟩))
  subst e2
  exact hp _ (hz.put (by decide) (by decide) (by decide) (by decide) (by decide) (by decide) (by decide)) (q_u_k (by decide))
theorem z_smuggle (hok : q_ok (qGG D cA b E)) (hw : WfModel (qGG D cA b E) n sh Rf o) (hz : ZR I o) (hp : post none (n, sh, Rf, I, L)) : Ev (qGG D cA b E) mModel_smuggle 2 (0, 0) 0 (lv_args 0 [.ref o]) [] (n, sh, Rf, I, L) post := by
  refine sModel_smuggle_0 o n sh Rf I L post hok hw (sModel_smuggle_2 o n sh Rf I L post 0 hok hw (z_towns hok hw hz.1 ⟨0, I, L, rfl, rfl, fun _ => ?_, fun h => absurd (by decide) h⟩))
  exact sModel_smuggle_25 o n sh Rf I L post 0 hok hw (z_towns hok hw hz.1 ⟨0, I, L, rfl, rfl, fun _ => hp, fun h => absurd (by decide) h⟩)
theorem z_note (hok : q_ok (qGG D cA b E)) (hw : WfModel (qGG D cA b E) n sh Rf o) (hz : ZR I o) (hp : post none (n, sh, Rf, I, L)) : Ev (qGG D cA b E) mModel_note 2 (0, 0) 0 (lv_args 0 [.ref o]) [] (n, sh, Rf, I, L) post := by
  refine sModel_note_0 o n sh Rf I L post hok hw (sModel_note_2 o n sh Rf I L post 0 hok hw (z_forts hok hw hz.1 ⟨0, I, L, rfl, rfl, fun _ => ?_, fun h => absurd (by decide) h⟩))
  refine sModel_note_64 o n sh Rf I L post 0 hok hw (z_pans hok hw hz.1 ⟨0, I, L, rfl, rfl, fun _ => ?_, fun h => absurd (by decide) h⟩)
  refine sModel_note_125 o n sh Rf I L post 0 hok hw (z_towns hok hw hz.1 ⟨0, I, L, rfl, rfl, fun _ => ?_, fun h => absurd (by decide) h⟩)
  exact sModel_note_210 o n sh Rf I L post 0 hok hw ⟨fun _ => hp, fun h => absurd (by rw [hz.1.2.2.1]; decide) h⟩
end MZ
