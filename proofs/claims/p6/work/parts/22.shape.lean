/-! The shapes of the class's objects; the links of its nest. -/
def qNL : List (String × Nat × MethodName × String) := [("SaltOffice", 32, ⟨"SaltOffice$Reform", "<init>", "()V"⟩, "SaltOffice"), ("SaltOffice", 39, ⟨"SaltOffice$Trade", "<init>", "()V"⟩, "SaltOffice"), ("SaltOffice", 46, ⟨"SaltOffice$Facts", "<init>", "()V"⟩, "SaltOffice"), ("SaltOffice", 57, ⟨"SaltOffice$Run", "<init>", "()V"⟩, "SaltOffice"), ("SaltOffice$Run", 20, ⟨"SaltOffice$Trade", "<init>", "()V"⟩, "SaltOffice"), ("SaltOffice$Run", 27, ⟨"SaltOffice$Reform", "<init>", "()V"⟩, "SaltOffice"), ("SaltOffice$Run", 34, ⟨"SaltOffice$Realm", "<init>", "()V"⟩, "SaltOffice"), ("SaltOffice$Run", 41, ⟨"SaltOffice$Papers", "<init>", "()V"⟩, "SaltOffice"), ("SaltOffice$Run", 48, ⟨"SaltOffice$Loads", "<init>", "()V"⟩, "SaltOffice"), ("SaltOffice$Run", 55, ⟨"SaltOffice$Records", "<init>", "()V"⟩, "SaltOffice"), ("SaltOffice$Run", 62, ⟨"SaltOffice$Way", "<init>", "()V"⟩, "SaltOffice"), ("SaltOffice$Run", 391, ⟨"SaltOffice", "monthsOfWay", "(I)I"⟩, "SaltOffice"), ("SaltOffice$Loads", 61, ⟨"SaltOffice", "monthsOfWay", "(I)I"⟩, "SaltOffice")]
def qEN (E : State → Prop) : Prop := ∀ x ∈ qNL, ∀ s : State, E s → va_Nw (.methodLinkNest x.1 x.2.1 x.2.2.1 x.2.2.2) s
theorem nk_Office_32 {D : va_G} {cA : FieldType → ClassId} {b : Nat} {E : State → Prop} (h : qEN E) : q_nI (qGG D cA b E) "SaltOffice" 32 mReform_init "SaltOffice" := ⟨(fun s hs => h (("SaltOffice", 32, ⟨"SaltOffice$Reform", "<init>", "()V"⟩, "SaltOffice") : String × Nat × MethodName × String) (List.mem_of_getElem? (i := 0) rfl) s hs), (q_t2 2 (by decide +kernel) rfl), rfl⟩
theorem nk_Office_39 {D : va_G} {cA : FieldType → ClassId} {b : Nat} {E : State → Prop} (h : qEN E) : q_nI (qGG D cA b E) "SaltOffice" 39 mTrade_init "SaltOffice" := ⟨(fun s hs => h (("SaltOffice", 39, ⟨"SaltOffice$Trade", "<init>", "()V"⟩, "SaltOffice") : String × Nat × MethodName × String) (List.mem_of_getElem? (i := 1) rfl) s hs), (q_t2 38 (by decide +kernel) rfl), rfl⟩
theorem nk_Office_46 {D : va_G} {cA : FieldType → ClassId} {b : Nat} {E : State → Prop} (h : qEN E) : q_nI (qGG D cA b E) "SaltOffice" 46 mFacts_init "SaltOffice" := ⟨(fun s hs => h (("SaltOffice", 46, ⟨"SaltOffice$Facts", "<init>", "()V"⟩, "SaltOffice") : String × Nat × MethodName × String) (List.mem_of_getElem? (i := 2) rfl) s hs), (q_t2 82 (by decide +kernel) rfl), rfl⟩
theorem nk_Office_57 {D : va_G} {cA : FieldType → ClassId} {b : Nat} {E : State → Prop} (h : qEN E) : q_nI (qGG D cA b E) "SaltOffice" 57 mRun_init "SaltOffice" := ⟨(fun s hs => h (("SaltOffice", 57, ⟨"SaltOffice$Run", "<init>", "()V"⟩, "SaltOffice") : String × Nat × MethodName × String) (List.mem_of_getElem? (i := 3) rfl) s hs), (q_t2 119 (by decide +kernel) rfl), rfl⟩
theorem nk_Run_20 {D : va_G} {cA : FieldType → ClassId} {b : Nat} {E : State → Prop} (h : qEN E) : q_nI (qGG D cA b E) "SaltOffice$Run" 20 mTrade_init "SaltOffice" := ⟨(fun s hs => h (("SaltOffice$Run", 20, ⟨"SaltOffice$Trade", "<init>", "()V"⟩, "SaltOffice") : String × Nat × MethodName × String) (List.mem_of_getElem? (i := 4) rfl) s hs), (q_t2 38 (by decide +kernel) rfl), rfl⟩
theorem nk_Run_27 {D : va_G} {cA : FieldType → ClassId} {b : Nat} {E : State → Prop} (h : qEN E) : q_nI (qGG D cA b E) "SaltOffice$Run" 27 mReform_init "SaltOffice" := ⟨(fun s hs => h (("SaltOffice$Run", 27, ⟨"SaltOffice$Reform", "<init>", "()V"⟩, "SaltOffice") : String × Nat × MethodName × String) (List.mem_of_getElem? (i := 5) rfl) s hs), (q_t2 2 (by decide +kernel) rfl), rfl⟩
theorem nk_Run_34 {D : va_G} {cA : FieldType → ClassId} {b : Nat} {E : State → Prop} (h : qEN E) : q_nI (qGG D cA b E) "SaltOffice$Run" 34 mRealm_init "SaltOffice" := ⟨(fun s hs => h (("SaltOffice$Run", 34, ⟨"SaltOffice$Realm", "<init>", "()V"⟩, "SaltOffice") : String × Nat × MethodName × String) (List.mem_of_getElem? (i := 6) rfl) s hs), (q_t2 131 (by decide +kernel) rfl), rfl⟩
theorem nk_Run_41 {D : va_G} {cA : FieldType → ClassId} {b : Nat} {E : State → Prop} (h : qEN E) : q_nI (qGG D cA b E) "SaltOffice$Run" 41 mPapers_init "SaltOffice" := ⟨(fun s hs => h (("SaltOffice$Run", 41, ⟨"SaltOffice$Papers", "<init>", "()V"⟩, "SaltOffice") : String × Nat × MethodName × String) (List.mem_of_getElem? (i := 7) rfl) s hs), (q_t2 167 (by decide +kernel) rfl), rfl⟩
theorem nk_Run_48 {D : va_G} {cA : FieldType → ClassId} {b : Nat} {E : State → Prop} (h : qEN E) : q_nI (qGG D cA b E) "SaltOffice$Run" 48 mLoads_init "SaltOffice" := ⟨(fun s hs => h (("SaltOffice$Run", 48, ⟨"SaltOffice$Loads", "<init>", "()V"⟩, "SaltOffice") : String × Nat × MethodName × String) (List.mem_of_getElem? (i := 8) rfl) s hs), (q_t2 232 (by decide +kernel) rfl), rfl⟩
theorem nk_Run_55 {D : va_G} {cA : FieldType → ClassId} {b : Nat} {E : State → Prop} (h : qEN E) : q_nI (qGG D cA b E) "SaltOffice$Run" 55 mRecords_init "SaltOffice" := ⟨(fun s hs => h (("SaltOffice$Run", 55, ⟨"SaltOffice$Records", "<init>", "()V"⟩, "SaltOffice") : String × Nat × MethodName × String) (List.mem_of_getElem? (i := 9) rfl) s hs), (q_t3 39 (by decide +kernel) rfl), rfl⟩
theorem nk_Run_62 {D : va_G} {cA : FieldType → ClassId} {b : Nat} {E : State → Prop} (h : qEN E) : q_nI (qGG D cA b E) "SaltOffice$Run" 62 mWay_init "SaltOffice" := ⟨(fun s hs => h (("SaltOffice$Run", 62, ⟨"SaltOffice$Way", "<init>", "()V"⟩, "SaltOffice") : String × Nat × MethodName × String) (List.mem_of_getElem? (i := 10) rfl) s hs), (q_t3 62 (by decide +kernel) rfl), rfl⟩
theorem nk_Run_391 {D : va_G} {cA : FieldType → ClassId} {b : Nat} {E : State → Prop} (h : qEN E) : q_nS (qGG D cA b E) "SaltOffice$Run" 391 mOffice_monthsOfWay "SaltOffice" := ⟨(fun s hs => h (("SaltOffice$Run", 391, ⟨"SaltOffice", "monthsOfWay", "(I)I"⟩, "SaltOffice") : String × Nat × MethodName × String) (List.mem_of_getElem? (i := 11) rfl) s hs), (q_t6 22 (by decide +kernel) rfl)⟩
theorem nk_Loads_61 {D : va_G} {cA : FieldType → ClassId} {b : Nat} {E : State → Prop} (h : qEN E) : q_nS (qGG D cA b E) "SaltOffice$Loads" 61 mOffice_monthsOfWay "SaltOffice" := ⟨(fun s hs => h (("SaltOffice$Loads", 61, ⟨"SaltOffice", "monthsOfWay", "(I)I"⟩, "SaltOffice") : String × Nat × MethodName × String) (List.mem_of_getElem? (i := 12) rfl) s hs), (q_t6 22 (by decide +kernel) rfl)⟩
/-- SaltOffice$Facts: the object at o, what it made behind it -/
def wlFacts : List (Nat × Nat × FieldType × Nat) := [(0, 1, .int, 40), (1, 2, .int, 40), (2, 3, .int, 40), (3, 4, .int, 40), (4, 5, .int, 40), (5, 6, .int, 40)]
def WfFacts (G : qG) (n : Nat) (sh : Nat → qC) (Rf : Nat → Nat → Option Nat) (o : Nat) : Prop := (q_b G ≤ o ∧ o + 6 < q_b G + n ∧ sh o = .inr 0) ∧ (∀ x ∈ wlFacts, Rf o x.1 = some (o + x.2.1) ∧ sh (o + x.2.1) = .inl (x.2.2.1, x.2.2.2))
section WfFacts
variable {G : qG} {n : Nat} {sh : Nat → qC} {Rf : Nat → Nat → Option Nat} {I : Nat → Nat → Int32} {L : Nat → Nat → Int64} {o : Nat}
theorem woFacts (h : WfFacts G n sh Rf o) : q_in G (n, sh, Rf, I, L) o (.inr 0) := ⟨h.1.1, Nat.lt_of_le_of_lt (Nat.le_add_right _ _) h.1.2.1, h.1.2.2⟩
theorem wrFacts_0 (h : WfFacts G n sh Rf o) : Rf o 0 = some (o + 1) := (h.2 (0, 1, .int, 40) (List.mem_of_getElem? (i := 0) rfl)).1
theorem waFacts_0 (h : WfFacts G n sh Rf o) : q_in G (n, sh, Rf, I, L) (o + 1) (.inl (.int, 40)) := ⟨Nat.le_trans h.1.1 (Nat.le_add_right _ _), Nat.lt_of_le_of_lt (Nat.add_le_add_left (Nat.le_of_ble_eq_true rfl : 1 ≤ 6) o) h.1.2.1, (h.2 (0, 1, .int, 40) (List.mem_of_getElem? (i := 0) rfl)).2⟩
theorem wrFacts_1 (h : WfFacts G n sh Rf o) : Rf o 1 = some (o + 2) := (h.2 (1, 2, .int, 40) (List.mem_of_getElem? (i := 1) rfl)).1
theorem waFacts_1 (h : WfFacts G n sh Rf o) : q_in G (n, sh, Rf, I, L) (o + 2) (.inl (.int, 40)) := ⟨Nat.le_trans h.1.1 (Nat.le_add_right _ _), Nat.lt_of_le_of_lt (Nat.add_le_add_left (Nat.le_of_ble_eq_true rfl : 2 ≤ 6) o) h.1.2.1, (h.2 (1, 2, .int, 40) (List.mem_of_getElem? (i := 1) rfl)).2⟩
theorem wrFacts_2 (h : WfFacts G n sh Rf o) : Rf o 2 = some (o + 3) := (h.2 (2, 3, .int, 40) (List.mem_of_getElem? (i := 2) rfl)).1
theorem waFacts_2 (h : WfFacts G n sh Rf o) : q_in G (n, sh, Rf, I, L) (o + 3) (.inl (.int, 40)) := ⟨Nat.le_trans h.1.1 (Nat.le_add_right _ _), Nat.lt_of_le_of_lt (Nat.add_le_add_left (Nat.le_of_ble_eq_true rfl : 3 ≤ 6) o) h.1.2.1, (h.2 (2, 3, .int, 40) (List.mem_of_getElem? (i := 2) rfl)).2⟩
theorem wrFacts_3 (h : WfFacts G n sh Rf o) : Rf o 3 = some (o + 4) := (h.2 (3, 4, .int, 40) (List.mem_of_getElem? (i := 3) rfl)).1
theorem waFacts_3 (h : WfFacts G n sh Rf o) : q_in G (n, sh, Rf, I, L) (o + 4) (.inl (.int, 40)) := ⟨Nat.le_trans h.1.1 (Nat.le_add_right _ _), Nat.lt_of_le_of_lt (Nat.add_le_add_left (Nat.le_of_ble_eq_true rfl : 4 ≤ 6) o) h.1.2.1, (h.2 (3, 4, .int, 40) (List.mem_of_getElem? (i := 3) rfl)).2⟩
theorem wrFacts_4 (h : WfFacts G n sh Rf o) : Rf o 4 = some (o + 5) := (h.2 (4, 5, .int, 40) (List.mem_of_getElem? (i := 4) rfl)).1
theorem waFacts_4 (h : WfFacts G n sh Rf o) : q_in G (n, sh, Rf, I, L) (o + 5) (.inl (.int, 40)) := ⟨Nat.le_trans h.1.1 (Nat.le_add_right _ _), Nat.lt_of_le_of_lt (Nat.add_le_add_left (Nat.le_of_ble_eq_true rfl : 5 ≤ 6) o) h.1.2.1, (h.2 (4, 5, .int, 40) (List.mem_of_getElem? (i := 4) rfl)).2⟩
theorem wrFacts_5 (h : WfFacts G n sh Rf o) : Rf o 5 = some (o + 6) := (h.2 (5, 6, .int, 40) (List.mem_of_getElem? (i := 5) rfl)).1
theorem waFacts_5 (h : WfFacts G n sh Rf o) : q_in G (n, sh, Rf, I, L) (o + 6) (.inl (.int, 40)) := ⟨Nat.le_trans h.1.1 (Nat.le_add_right _ _), Nat.lt_of_le_of_lt (Nat.add_le_add_left (Nat.le_of_ble_eq_true rfl : 6 ≤ 6) o) h.1.2.1, (h.2 (5, 6, .int, 40) (List.mem_of_getElem? (i := 5) rfl)).2⟩
end WfFacts
/-- SaltOffice$Land: the object at o, what it made behind it -/
def wlLand : List (Nat × Nat × FieldType × Nat) := [(5, 1, .long, 11), (6, 2, .int, 256), (7, 3, .int, 3), (8, 4, .int, 3), (9, 5, .int, 3), (10, 6, .int, 3), (11, 7, .int, 36), (12, 8, .int, 15), (13, 9, .int, 3), (14, 10, .int, 5), (15, 11, .int, 5), (16, 12, .int, 5), (17, 13, .int, 5), (18, 14, .int, 5), (19, 15, .int, 5)]
def WfLand (G : qG) (n : Nat) (sh : Nat → qC) (Rf : Nat → Nat → Option Nat) (o : Nat) : Prop := (q_b G ≤ o ∧ o + 15 < q_b G + n ∧ sh o = .inr 1) ∧ (∀ x ∈ wlLand, Rf o x.1 = some (o + x.2.1) ∧ sh (o + x.2.1) = .inl (x.2.2.1, x.2.2.2))
section WfLand
variable {G : qG} {n : Nat} {sh : Nat → qC} {Rf : Nat → Nat → Option Nat} {I : Nat → Nat → Int32} {L : Nat → Nat → Int64} {o : Nat}
theorem woLand (h : WfLand G n sh Rf o) : q_in G (n, sh, Rf, I, L) o (.inr 1) := ⟨h.1.1, Nat.lt_of_le_of_lt (Nat.le_add_right _ _) h.1.2.1, h.1.2.2⟩
theorem wrLand_5 (h : WfLand G n sh Rf o) : Rf o 5 = some (o + 1) := (h.2 (5, 1, .long, 11) (List.mem_of_getElem? (i := 0) rfl)).1
theorem waLand_5 (h : WfLand G n sh Rf o) : q_in G (n, sh, Rf, I, L) (o + 1) (.inl (.long, 11)) := ⟨Nat.le_trans h.1.1 (Nat.le_add_right _ _), Nat.lt_of_le_of_lt (Nat.add_le_add_left (Nat.le_of_ble_eq_true rfl : 1 ≤ 15) o) h.1.2.1, (h.2 (5, 1, .long, 11) (List.mem_of_getElem? (i := 0) rfl)).2⟩
theorem wrLand_6 (h : WfLand G n sh Rf o) : Rf o 6 = some (o + 2) := (h.2 (6, 2, .int, 256) (List.mem_of_getElem? (i := 1) rfl)).1
theorem waLand_6 (h : WfLand G n sh Rf o) : q_in G (n, sh, Rf, I, L) (o + 2) (.inl (.int, 256)) := ⟨Nat.le_trans h.1.1 (Nat.le_add_right _ _), Nat.lt_of_le_of_lt (Nat.add_le_add_left (Nat.le_of_ble_eq_true rfl : 2 ≤ 15) o) h.1.2.1, (h.2 (6, 2, .int, 256) (List.mem_of_getElem? (i := 1) rfl)).2⟩
theorem wrLand_7 (h : WfLand G n sh Rf o) : Rf o 7 = some (o + 3) := (h.2 (7, 3, .int, 3) (List.mem_of_getElem? (i := 2) rfl)).1
theorem waLand_7 (h : WfLand G n sh Rf o) : q_in G (n, sh, Rf, I, L) (o + 3) (.inl (.int, 3)) := ⟨Nat.le_trans h.1.1 (Nat.le_add_right _ _), Nat.lt_of_le_of_lt (Nat.add_le_add_left (Nat.le_of_ble_eq_true rfl : 3 ≤ 15) o) h.1.2.1, (h.2 (7, 3, .int, 3) (List.mem_of_getElem? (i := 2) rfl)).2⟩
theorem wrLand_8 (h : WfLand G n sh Rf o) : Rf o 8 = some (o + 4) := (h.2 (8, 4, .int, 3) (List.mem_of_getElem? (i := 3) rfl)).1
theorem waLand_8 (h : WfLand G n sh Rf o) : q_in G (n, sh, Rf, I, L) (o + 4) (.inl (.int, 3)) := ⟨Nat.le_trans h.1.1 (Nat.le_add_right _ _), Nat.lt_of_le_of_lt (Nat.add_le_add_left (Nat.le_of_ble_eq_true rfl : 4 ≤ 15) o) h.1.2.1, (h.2 (8, 4, .int, 3) (List.mem_of_getElem? (i := 3) rfl)).2⟩
theorem wrLand_9 (h : WfLand G n sh Rf o) : Rf o 9 = some (o + 5) := (h.2 (9, 5, .int, 3) (List.mem_of_getElem? (i := 4) rfl)).1
theorem waLand_9 (h : WfLand G n sh Rf o) : q_in G (n, sh, Rf, I, L) (o + 5) (.inl (.int, 3)) := ⟨Nat.le_trans h.1.1 (Nat.le_add_right _ _), Nat.lt_of_le_of_lt (Nat.add_le_add_left (Nat.le_of_ble_eq_true rfl : 5 ≤ 15) o) h.1.2.1, (h.2 (9, 5, .int, 3) (List.mem_of_getElem? (i := 4) rfl)).2⟩
theorem wrLand_10 (h : WfLand G n sh Rf o) : Rf o 10 = some (o + 6) := (h.2 (10, 6, .int, 3) (List.mem_of_getElem? (i := 5) rfl)).1
theorem waLand_10 (h : WfLand G n sh Rf o) : q_in G (n, sh, Rf, I, L) (o + 6) (.inl (.int, 3)) := ⟨Nat.le_trans h.1.1 (Nat.le_add_right _ _), Nat.lt_of_le_of_lt (Nat.add_le_add_left (Nat.le_of_ble_eq_true rfl : 6 ≤ 15) o) h.1.2.1, (h.2 (10, 6, .int, 3) (List.mem_of_getElem? (i := 5) rfl)).2⟩
theorem wrLand_11 (h : WfLand G n sh Rf o) : Rf o 11 = some (o + 7) := (h.2 (11, 7, .int, 36) (List.mem_of_getElem? (i := 6) rfl)).1
theorem waLand_11 (h : WfLand G n sh Rf o) : q_in G (n, sh, Rf, I, L) (o + 7) (.inl (.int, 36)) := ⟨Nat.le_trans h.1.1 (Nat.le_add_right _ _), Nat.lt_of_le_of_lt (Nat.add_le_add_left (Nat.le_of_ble_eq_true rfl : 7 ≤ 15) o) h.1.2.1, (h.2 (11, 7, .int, 36) (List.mem_of_getElem? (i := 6) rfl)).2⟩
theorem wrLand_12 (h : WfLand G n sh Rf o) : Rf o 12 = some (o + 8) := (h.2 (12, 8, .int, 15) (List.mem_of_getElem? (i := 7) rfl)).1
theorem waLand_12 (h : WfLand G n sh Rf o) : q_in G (n, sh, Rf, I, L) (o + 8) (.inl (.int, 15)) := ⟨Nat.le_trans h.1.1 (Nat.le_add_right _ _), Nat.lt_of_le_of_lt (Nat.add_le_add_left (Nat.le_of_ble_eq_true rfl : 8 ≤ 15) o) h.1.2.1, (h.2 (12, 8, .int, 15) (List.mem_of_getElem? (i := 7) rfl)).2⟩
theorem wrLand_13 (h : WfLand G n sh Rf o) : Rf o 13 = some (o + 9) := (h.2 (13, 9, .int, 3) (List.mem_of_getElem? (i := 8) rfl)).1
theorem waLand_13 (h : WfLand G n sh Rf o) : q_in G (n, sh, Rf, I, L) (o + 9) (.inl (.int, 3)) := ⟨Nat.le_trans h.1.1 (Nat.le_add_right _ _), Nat.lt_of_le_of_lt (Nat.add_le_add_left (Nat.le_of_ble_eq_true rfl : 9 ≤ 15) o) h.1.2.1, (h.2 (13, 9, .int, 3) (List.mem_of_getElem? (i := 8) rfl)).2⟩
theorem wrLand_14 (h : WfLand G n sh Rf o) : Rf o 14 = some (o + 10) := (h.2 (14, 10, .int, 5) (List.mem_of_getElem? (i := 9) rfl)).1
theorem waLand_14 (h : WfLand G n sh Rf o) : q_in G (n, sh, Rf, I, L) (o + 10) (.inl (.int, 5)) := ⟨Nat.le_trans h.1.1 (Nat.le_add_right _ _), Nat.lt_of_le_of_lt (Nat.add_le_add_left (Nat.le_of_ble_eq_true rfl : 10 ≤ 15) o) h.1.2.1, (h.2 (14, 10, .int, 5) (List.mem_of_getElem? (i := 9) rfl)).2⟩
theorem wrLand_15 (h : WfLand G n sh Rf o) : Rf o 15 = some (o + 11) := (h.2 (15, 11, .int, 5) (List.mem_of_getElem? (i := 10) rfl)).1
theorem waLand_15 (h : WfLand G n sh Rf o) : q_in G (n, sh, Rf, I, L) (o + 11) (.inl (.int, 5)) := ⟨Nat.le_trans h.1.1 (Nat.le_add_right _ _), Nat.lt_of_le_of_lt (Nat.add_le_add_left (Nat.le_of_ble_eq_true rfl : 11 ≤ 15) o) h.1.2.1, (h.2 (15, 11, .int, 5) (List.mem_of_getElem? (i := 10) rfl)).2⟩
theorem wrLand_16 (h : WfLand G n sh Rf o) : Rf o 16 = some (o + 12) := (h.2 (16, 12, .int, 5) (List.mem_of_getElem? (i := 11) rfl)).1
theorem waLand_16 (h : WfLand G n sh Rf o) : q_in G (n, sh, Rf, I, L) (o + 12) (.inl (.int, 5)) := ⟨Nat.le_trans h.1.1 (Nat.le_add_right _ _), Nat.lt_of_le_of_lt (Nat.add_le_add_left (Nat.le_of_ble_eq_true rfl : 12 ≤ 15) o) h.1.2.1, (h.2 (16, 12, .int, 5) (List.mem_of_getElem? (i := 11) rfl)).2⟩
theorem wrLand_17 (h : WfLand G n sh Rf o) : Rf o 17 = some (o + 13) := (h.2 (17, 13, .int, 5) (List.mem_of_getElem? (i := 12) rfl)).1
theorem waLand_17 (h : WfLand G n sh Rf o) : q_in G (n, sh, Rf, I, L) (o + 13) (.inl (.int, 5)) := ⟨Nat.le_trans h.1.1 (Nat.le_add_right _ _), Nat.lt_of_le_of_lt (Nat.add_le_add_left (Nat.le_of_ble_eq_true rfl : 13 ≤ 15) o) h.1.2.1, (h.2 (17, 13, .int, 5) (List.mem_of_getElem? (i := 12) rfl)).2⟩
theorem wrLand_18 (h : WfLand G n sh Rf o) : Rf o 18 = some (o + 14) := (h.2 (18, 14, .int, 5) (List.mem_of_getElem? (i := 13) rfl)).1
theorem waLand_18 (h : WfLand G n sh Rf o) : q_in G (n, sh, Rf, I, L) (o + 14) (.inl (.int, 5)) := ⟨Nat.le_trans h.1.1 (Nat.le_add_right _ _), Nat.lt_of_le_of_lt (Nat.add_le_add_left (Nat.le_of_ble_eq_true rfl : 14 ≤ 15) o) h.1.2.1, (h.2 (18, 14, .int, 5) (List.mem_of_getElem? (i := 13) rfl)).2⟩
theorem wrLand_19 (h : WfLand G n sh Rf o) : Rf o 19 = some (o + 15) := (h.2 (19, 15, .int, 5) (List.mem_of_getElem? (i := 14) rfl)).1
theorem waLand_19 (h : WfLand G n sh Rf o) : q_in G (n, sh, Rf, I, L) (o + 15) (.inl (.int, 5)) := ⟨Nat.le_trans h.1.1 (Nat.le_add_right _ _), Nat.lt_of_le_of_lt (Nat.add_le_add_left (Nat.le_of_ble_eq_true rfl : 15 ≤ 15) o) h.1.2.1, (h.2 (19, 15, .int, 5) (List.mem_of_getElem? (i := 14) rfl)).2⟩
end WfLand
/-- SaltOffice$Trade: the object at o, what it made behind it -/
def wlTrade : List (Nat × Nat × FieldType × Nat) := [(0, 1, .int, 6)]
def WfTrade (G : qG) (n : Nat) (sh : Nat → qC) (Rf : Nat → Nat → Option Nat) (o : Nat) : Prop := (q_b G ≤ o ∧ o + 1 < q_b G + n ∧ sh o = .inr 9) ∧ (∀ x ∈ wlTrade, Rf o x.1 = some (o + x.2.1) ∧ sh (o + x.2.1) = .inl (x.2.2.1, x.2.2.2))
section WfTrade
variable {G : qG} {n : Nat} {sh : Nat → qC} {Rf : Nat → Nat → Option Nat} {I : Nat → Nat → Int32} {L : Nat → Nat → Int64} {o : Nat}
theorem woTrade (h : WfTrade G n sh Rf o) : q_in G (n, sh, Rf, I, L) o (.inr 9) := ⟨h.1.1, Nat.lt_of_le_of_lt (Nat.le_add_right _ _) h.1.2.1, h.1.2.2⟩
theorem wrTrade_0 (h : WfTrade G n sh Rf o) : Rf o 0 = some (o + 1) := (h.2 (0, 1, .int, 6) (List.mem_of_getElem? (i := 0) rfl)).1
theorem waTrade_0 (h : WfTrade G n sh Rf o) : q_in G (n, sh, Rf, I, L) (o + 1) (.inl (.int, 6)) := ⟨Nat.le_trans h.1.1 (Nat.le_add_right _ _), Nat.lt_of_le_of_lt (Nat.add_le_add_left (Nat.le_of_ble_eq_true rfl : 1 ≤ 1) o) h.1.2.1, (h.2 (0, 1, .int, 6) (List.mem_of_getElem? (i := 0) rfl)).2⟩
end WfTrade
/-- SaltOffice$Reform: the object at o, what it made behind it -/
def wlReform : List (Nat × Nat × FieldType × Nat) := [(0, 1, .int, 700), (1, 2, .int, 11), (2, 3, .int, 11), (3, 4, .int, 100)]
def WfReform (G : qG) (n : Nat) (sh : Nat → qC) (Rf : Nat → Nat → Option Nat) (o : Nat) : Prop := (q_b G ≤ o ∧ o + 4 < q_b G + n ∧ sh o = .inr 6) ∧ (∀ x ∈ wlReform, Rf o x.1 = some (o + x.2.1) ∧ sh (o + x.2.1) = .inl (x.2.2.1, x.2.2.2))
section WfReform
variable {G : qG} {n : Nat} {sh : Nat → qC} {Rf : Nat → Nat → Option Nat} {I : Nat → Nat → Int32} {L : Nat → Nat → Int64} {o : Nat}
theorem woReform (h : WfReform G n sh Rf o) : q_in G (n, sh, Rf, I, L) o (.inr 6) := ⟨h.1.1, Nat.lt_of_le_of_lt (Nat.le_add_right _ _) h.1.2.1, h.1.2.2⟩
theorem wrReform_0 (h : WfReform G n sh Rf o) : Rf o 0 = some (o + 1) := (h.2 (0, 1, .int, 700) (List.mem_of_getElem? (i := 0) rfl)).1
theorem waReform_0 (h : WfReform G n sh Rf o) : q_in G (n, sh, Rf, I, L) (o + 1) (.inl (.int, 700)) := ⟨Nat.le_trans h.1.1 (Nat.le_add_right _ _), Nat.lt_of_le_of_lt (Nat.add_le_add_left (Nat.le_of_ble_eq_true rfl : 1 ≤ 4) o) h.1.2.1, (h.2 (0, 1, .int, 700) (List.mem_of_getElem? (i := 0) rfl)).2⟩
theorem wrReform_1 (h : WfReform G n sh Rf o) : Rf o 1 = some (o + 2) := (h.2 (1, 2, .int, 11) (List.mem_of_getElem? (i := 1) rfl)).1
theorem waReform_1 (h : WfReform G n sh Rf o) : q_in G (n, sh, Rf, I, L) (o + 2) (.inl (.int, 11)) := ⟨Nat.le_trans h.1.1 (Nat.le_add_right _ _), Nat.lt_of_le_of_lt (Nat.add_le_add_left (Nat.le_of_ble_eq_true rfl : 2 ≤ 4) o) h.1.2.1, (h.2 (1, 2, .int, 11) (List.mem_of_getElem? (i := 1) rfl)).2⟩
theorem wrReform_2 (h : WfReform G n sh Rf o) : Rf o 2 = some (o + 3) := (h.2 (2, 3, .int, 11) (List.mem_of_getElem? (i := 2) rfl)).1
theorem waReform_2 (h : WfReform G n sh Rf o) : q_in G (n, sh, Rf, I, L) (o + 3) (.inl (.int, 11)) := ⟨Nat.le_trans h.1.1 (Nat.le_add_right _ _), Nat.lt_of_le_of_lt (Nat.add_le_add_left (Nat.le_of_ble_eq_true rfl : 3 ≤ 4) o) h.1.2.1, (h.2 (2, 3, .int, 11) (List.mem_of_getElem? (i := 2) rfl)).2⟩
theorem wrReform_3 (h : WfReform G n sh Rf o) : Rf o 3 = some (o + 4) := (h.2 (3, 4, .int, 100) (List.mem_of_getElem? (i := 3) rfl)).1
theorem waReform_3 (h : WfReform G n sh Rf o) : q_in G (n, sh, Rf, I, L) (o + 4) (.inl (.int, 100)) := ⟨Nat.le_trans h.1.1 (Nat.le_add_right _ _), Nat.lt_of_le_of_lt (Nat.add_le_add_left (Nat.le_of_ble_eq_true rfl : 4 ≤ 4) o) h.1.2.1, (h.2 (3, 4, .int, 100) (List.mem_of_getElem? (i := 3) rfl)).2⟩
end WfReform
/-- SaltOffice$Realm: the object at o, what it made behind it -/
def wlRealm : List (Nat × Nat × FieldType × Nat) := [(0, 1, .int, 3), (1, 2, .int, 3), (2, 3, .int, 3), (3, 4, .int, 5), (4, 5, .int, 5), (5, 6, .int, 5)]
def WfRealm (G : qG) (n : Nat) (sh : Nat → qC) (Rf : Nat → Nat → Option Nat) (o : Nat) : Prop := (q_b G ≤ o ∧ o + 6 < q_b G + n ∧ sh o = .inr 4) ∧ (∀ x ∈ wlRealm, Rf o x.1 = some (o + x.2.1) ∧ sh (o + x.2.1) = .inl (x.2.2.1, x.2.2.2))
section WfRealm
variable {G : qG} {n : Nat} {sh : Nat → qC} {Rf : Nat → Nat → Option Nat} {I : Nat → Nat → Int32} {L : Nat → Nat → Int64} {o : Nat}
theorem woRealm (h : WfRealm G n sh Rf o) : q_in G (n, sh, Rf, I, L) o (.inr 4) := ⟨h.1.1, Nat.lt_of_le_of_lt (Nat.le_add_right _ _) h.1.2.1, h.1.2.2⟩
theorem wrRealm_0 (h : WfRealm G n sh Rf o) : Rf o 0 = some (o + 1) := (h.2 (0, 1, .int, 3) (List.mem_of_getElem? (i := 0) rfl)).1
theorem waRealm_0 (h : WfRealm G n sh Rf o) : q_in G (n, sh, Rf, I, L) (o + 1) (.inl (.int, 3)) := ⟨Nat.le_trans h.1.1 (Nat.le_add_right _ _), Nat.lt_of_le_of_lt (Nat.add_le_add_left (Nat.le_of_ble_eq_true rfl : 1 ≤ 6) o) h.1.2.1, (h.2 (0, 1, .int, 3) (List.mem_of_getElem? (i := 0) rfl)).2⟩
theorem wrRealm_1 (h : WfRealm G n sh Rf o) : Rf o 1 = some (o + 2) := (h.2 (1, 2, .int, 3) (List.mem_of_getElem? (i := 1) rfl)).1
theorem waRealm_1 (h : WfRealm G n sh Rf o) : q_in G (n, sh, Rf, I, L) (o + 2) (.inl (.int, 3)) := ⟨Nat.le_trans h.1.1 (Nat.le_add_right _ _), Nat.lt_of_le_of_lt (Nat.add_le_add_left (Nat.le_of_ble_eq_true rfl : 2 ≤ 6) o) h.1.2.1, (h.2 (1, 2, .int, 3) (List.mem_of_getElem? (i := 1) rfl)).2⟩
theorem wrRealm_2 (h : WfRealm G n sh Rf o) : Rf o 2 = some (o + 3) := (h.2 (2, 3, .int, 3) (List.mem_of_getElem? (i := 2) rfl)).1
theorem waRealm_2 (h : WfRealm G n sh Rf o) : q_in G (n, sh, Rf, I, L) (o + 3) (.inl (.int, 3)) := ⟨Nat.le_trans h.1.1 (Nat.le_add_right _ _), Nat.lt_of_le_of_lt (Nat.add_le_add_left (Nat.le_of_ble_eq_true rfl : 3 ≤ 6) o) h.1.2.1, (h.2 (2, 3, .int, 3) (List.mem_of_getElem? (i := 2) rfl)).2⟩
theorem wrRealm_3 (h : WfRealm G n sh Rf o) : Rf o 3 = some (o + 4) := (h.2 (3, 4, .int, 5) (List.mem_of_getElem? (i := 3) rfl)).1
theorem waRealm_3 (h : WfRealm G n sh Rf o) : q_in G (n, sh, Rf, I, L) (o + 4) (.inl (.int, 5)) := ⟨Nat.le_trans h.1.1 (Nat.le_add_right _ _), Nat.lt_of_le_of_lt (Nat.add_le_add_left (Nat.le_of_ble_eq_true rfl : 4 ≤ 6) o) h.1.2.1, (h.2 (3, 4, .int, 5) (List.mem_of_getElem? (i := 3) rfl)).2⟩
theorem wrRealm_4 (h : WfRealm G n sh Rf o) : Rf o 4 = some (o + 5) := (h.2 (4, 5, .int, 5) (List.mem_of_getElem? (i := 4) rfl)).1
theorem waRealm_4 (h : WfRealm G n sh Rf o) : q_in G (n, sh, Rf, I, L) (o + 5) (.inl (.int, 5)) := ⟨Nat.le_trans h.1.1 (Nat.le_add_right _ _), Nat.lt_of_le_of_lt (Nat.add_le_add_left (Nat.le_of_ble_eq_true rfl : 5 ≤ 6) o) h.1.2.1, (h.2 (4, 5, .int, 5) (List.mem_of_getElem? (i := 4) rfl)).2⟩
theorem wrRealm_5 (h : WfRealm G n sh Rf o) : Rf o 5 = some (o + 6) := (h.2 (5, 6, .int, 5) (List.mem_of_getElem? (i := 5) rfl)).1
theorem waRealm_5 (h : WfRealm G n sh Rf o) : q_in G (n, sh, Rf, I, L) (o + 6) (.inl (.int, 5)) := ⟨Nat.le_trans h.1.1 (Nat.le_add_right _ _), Nat.lt_of_le_of_lt (Nat.add_le_add_left (Nat.le_of_ble_eq_true rfl : 6 ≤ 6) o) h.1.2.1, (h.2 (5, 6, .int, 5) (List.mem_of_getElem? (i := 5) rfl)).2⟩
end WfRealm
/-- SaltOffice$Papers: the object at o, what it made behind it -/
def wlPapers : List (Nat × Nat × FieldType × Nat) := [(0, 1, .int, 1440), (1, 2, .int, 1440), (2, 3, .int, 1440), (3, 4, .int, 1440), (4, 5, .int, 1440), (5, 6, .int, 1440), (6, 7, .int, 1440), (7, 8, .int, 1440), (8, 9, .int, 1440), (9, 10, .int, 1440), (10, 11, .int, 1440), (11, 12, .int, 3)]
def WfPapers (G : qG) (n : Nat) (sh : Nat → qC) (Rf : Nat → Nat → Option Nat) (o : Nat) : Prop := (q_b G ≤ o ∧ o + 12 < q_b G + n ∧ sh o = .inr 3) ∧ (∀ x ∈ wlPapers, Rf o x.1 = some (o + x.2.1) ∧ sh (o + x.2.1) = .inl (x.2.2.1, x.2.2.2))
section WfPapers
variable {G : qG} {n : Nat} {sh : Nat → qC} {Rf : Nat → Nat → Option Nat} {I : Nat → Nat → Int32} {L : Nat → Nat → Int64} {o : Nat}
theorem woPapers (h : WfPapers G n sh Rf o) : q_in G (n, sh, Rf, I, L) o (.inr 3) := ⟨h.1.1, Nat.lt_of_le_of_lt (Nat.le_add_right _ _) h.1.2.1, h.1.2.2⟩
theorem wrPapers_0 (h : WfPapers G n sh Rf o) : Rf o 0 = some (o + 1) := (h.2 (0, 1, .int, 1440) (List.mem_of_getElem? (i := 0) rfl)).1
theorem waPapers_0 (h : WfPapers G n sh Rf o) : q_in G (n, sh, Rf, I, L) (o + 1) (.inl (.int, 1440)) := ⟨Nat.le_trans h.1.1 (Nat.le_add_right _ _), Nat.lt_of_le_of_lt (Nat.add_le_add_left (Nat.le_of_ble_eq_true rfl : 1 ≤ 12) o) h.1.2.1, (h.2 (0, 1, .int, 1440) (List.mem_of_getElem? (i := 0) rfl)).2⟩
theorem wrPapers_1 (h : WfPapers G n sh Rf o) : Rf o 1 = some (o + 2) := (h.2 (1, 2, .int, 1440) (List.mem_of_getElem? (i := 1) rfl)).1
theorem waPapers_1 (h : WfPapers G n sh Rf o) : q_in G (n, sh, Rf, I, L) (o + 2) (.inl (.int, 1440)) := ⟨Nat.le_trans h.1.1 (Nat.le_add_right _ _), Nat.lt_of_le_of_lt (Nat.add_le_add_left (Nat.le_of_ble_eq_true rfl : 2 ≤ 12) o) h.1.2.1, (h.2 (1, 2, .int, 1440) (List.mem_of_getElem? (i := 1) rfl)).2⟩
theorem wrPapers_2 (h : WfPapers G n sh Rf o) : Rf o 2 = some (o + 3) := (h.2 (2, 3, .int, 1440) (List.mem_of_getElem? (i := 2) rfl)).1
theorem waPapers_2 (h : WfPapers G n sh Rf o) : q_in G (n, sh, Rf, I, L) (o + 3) (.inl (.int, 1440)) := ⟨Nat.le_trans h.1.1 (Nat.le_add_right _ _), Nat.lt_of_le_of_lt (Nat.add_le_add_left (Nat.le_of_ble_eq_true rfl : 3 ≤ 12) o) h.1.2.1, (h.2 (2, 3, .int, 1440) (List.mem_of_getElem? (i := 2) rfl)).2⟩
theorem wrPapers_3 (h : WfPapers G n sh Rf o) : Rf o 3 = some (o + 4) := (h.2 (3, 4, .int, 1440) (List.mem_of_getElem? (i := 3) rfl)).1
theorem waPapers_3 (h : WfPapers G n sh Rf o) : q_in G (n, sh, Rf, I, L) (o + 4) (.inl (.int, 1440)) := ⟨Nat.le_trans h.1.1 (Nat.le_add_right _ _), Nat.lt_of_le_of_lt (Nat.add_le_add_left (Nat.le_of_ble_eq_true rfl : 4 ≤ 12) o) h.1.2.1, (h.2 (3, 4, .int, 1440) (List.mem_of_getElem? (i := 3) rfl)).2⟩
theorem wrPapers_4 (h : WfPapers G n sh Rf o) : Rf o 4 = some (o + 5) := (h.2 (4, 5, .int, 1440) (List.mem_of_getElem? (i := 4) rfl)).1
theorem waPapers_4 (h : WfPapers G n sh Rf o) : q_in G (n, sh, Rf, I, L) (o + 5) (.inl (.int, 1440)) := ⟨Nat.le_trans h.1.1 (Nat.le_add_right _ _), Nat.lt_of_le_of_lt (Nat.add_le_add_left (Nat.le_of_ble_eq_true rfl : 5 ≤ 12) o) h.1.2.1, (h.2 (4, 5, .int, 1440) (List.mem_of_getElem? (i := 4) rfl)).2⟩
theorem wrPapers_5 (h : WfPapers G n sh Rf o) : Rf o 5 = some (o + 6) := (h.2 (5, 6, .int, 1440) (List.mem_of_getElem? (i := 5) rfl)).1
theorem waPapers_5 (h : WfPapers G n sh Rf o) : q_in G (n, sh, Rf, I, L) (o + 6) (.inl (.int, 1440)) := ⟨Nat.le_trans h.1.1 (Nat.le_add_right _ _), Nat.lt_of_le_of_lt (Nat.add_le_add_left (Nat.le_of_ble_eq_true rfl : 6 ≤ 12) o) h.1.2.1, (h.2 (5, 6, .int, 1440) (List.mem_of_getElem? (i := 5) rfl)).2⟩
theorem wrPapers_6 (h : WfPapers G n sh Rf o) : Rf o 6 = some (o + 7) := (h.2 (6, 7, .int, 1440) (List.mem_of_getElem? (i := 6) rfl)).1
theorem waPapers_6 (h : WfPapers G n sh Rf o) : q_in G (n, sh, Rf, I, L) (o + 7) (.inl (.int, 1440)) := ⟨Nat.le_trans h.1.1 (Nat.le_add_right _ _), Nat.lt_of_le_of_lt (Nat.add_le_add_left (Nat.le_of_ble_eq_true rfl : 7 ≤ 12) o) h.1.2.1, (h.2 (6, 7, .int, 1440) (List.mem_of_getElem? (i := 6) rfl)).2⟩
theorem wrPapers_7 (h : WfPapers G n sh Rf o) : Rf o 7 = some (o + 8) := (h.2 (7, 8, .int, 1440) (List.mem_of_getElem? (i := 7) rfl)).1
theorem waPapers_7 (h : WfPapers G n sh Rf o) : q_in G (n, sh, Rf, I, L) (o + 8) (.inl (.int, 1440)) := ⟨Nat.le_trans h.1.1 (Nat.le_add_right _ _), Nat.lt_of_le_of_lt (Nat.add_le_add_left (Nat.le_of_ble_eq_true rfl : 8 ≤ 12) o) h.1.2.1, (h.2 (7, 8, .int, 1440) (List.mem_of_getElem? (i := 7) rfl)).2⟩
theorem wrPapers_8 (h : WfPapers G n sh Rf o) : Rf o 8 = some (o + 9) := (h.2 (8, 9, .int, 1440) (List.mem_of_getElem? (i := 8) rfl)).1
theorem waPapers_8 (h : WfPapers G n sh Rf o) : q_in G (n, sh, Rf, I, L) (o + 9) (.inl (.int, 1440)) := ⟨Nat.le_trans h.1.1 (Nat.le_add_right _ _), Nat.lt_of_le_of_lt (Nat.add_le_add_left (Nat.le_of_ble_eq_true rfl : 9 ≤ 12) o) h.1.2.1, (h.2 (8, 9, .int, 1440) (List.mem_of_getElem? (i := 8) rfl)).2⟩
theorem wrPapers_9 (h : WfPapers G n sh Rf o) : Rf o 9 = some (o + 10) := (h.2 (9, 10, .int, 1440) (List.mem_of_getElem? (i := 9) rfl)).1
theorem waPapers_9 (h : WfPapers G n sh Rf o) : q_in G (n, sh, Rf, I, L) (o + 10) (.inl (.int, 1440)) := ⟨Nat.le_trans h.1.1 (Nat.le_add_right _ _), Nat.lt_of_le_of_lt (Nat.add_le_add_left (Nat.le_of_ble_eq_true rfl : 10 ≤ 12) o) h.1.2.1, (h.2 (9, 10, .int, 1440) (List.mem_of_getElem? (i := 9) rfl)).2⟩
theorem wrPapers_10 (h : WfPapers G n sh Rf o) : Rf o 10 = some (o + 11) := (h.2 (10, 11, .int, 1440) (List.mem_of_getElem? (i := 10) rfl)).1
theorem waPapers_10 (h : WfPapers G n sh Rf o) : q_in G (n, sh, Rf, I, L) (o + 11) (.inl (.int, 1440)) := ⟨Nat.le_trans h.1.1 (Nat.le_add_right _ _), Nat.lt_of_le_of_lt (Nat.add_le_add_left (Nat.le_of_ble_eq_true rfl : 11 ≤ 12) o) h.1.2.1, (h.2 (10, 11, .int, 1440) (List.mem_of_getElem? (i := 10) rfl)).2⟩
theorem wrPapers_11 (h : WfPapers G n sh Rf o) : Rf o 11 = some (o + 12) := (h.2 (11, 12, .int, 3) (List.mem_of_getElem? (i := 11) rfl)).1
theorem waPapers_11 (h : WfPapers G n sh Rf o) : q_in G (n, sh, Rf, I, L) (o + 12) (.inl (.int, 3)) := ⟨Nat.le_trans h.1.1 (Nat.le_add_right _ _), Nat.lt_of_le_of_lt (Nat.add_le_add_left (Nat.le_of_ble_eq_true rfl : 12 ≤ 12) o) h.1.2.1, (h.2 (11, 12, .int, 3) (List.mem_of_getElem? (i := 11) rfl)).2⟩
end WfPapers
/-- SaltOffice$Loads: the object at o, what it made behind it -/
def wlLoads : List (Nat × Nat × FieldType × Nat) := [(0, 1, .int, 2880), (1, 2, .int, 2880), (2, 3, .int, 2880), (3, 4, .int, 2880), (4, 5, .int, 2880), (5, 6, .int, 2880), (6, 7, .int, 2880), (7, 8, .int, 2880)]
def WfLoads (G : qG) (n : Nat) (sh : Nat → qC) (Rf : Nat → Nat → Option Nat) (o : Nat) : Prop := (q_b G ≤ o ∧ o + 8 < q_b G + n ∧ sh o = .inr 2) ∧ (∀ x ∈ wlLoads, Rf o x.1 = some (o + x.2.1) ∧ sh (o + x.2.1) = .inl (x.2.2.1, x.2.2.2))
section WfLoads
variable {G : qG} {n : Nat} {sh : Nat → qC} {Rf : Nat → Nat → Option Nat} {I : Nat → Nat → Int32} {L : Nat → Nat → Int64} {o : Nat}
theorem woLoads (h : WfLoads G n sh Rf o) : q_in G (n, sh, Rf, I, L) o (.inr 2) := ⟨h.1.1, Nat.lt_of_le_of_lt (Nat.le_add_right _ _) h.1.2.1, h.1.2.2⟩
theorem wrLoads_0 (h : WfLoads G n sh Rf o) : Rf o 0 = some (o + 1) := (h.2 (0, 1, .int, 2880) (List.mem_of_getElem? (i := 0) rfl)).1
theorem waLoads_0 (h : WfLoads G n sh Rf o) : q_in G (n, sh, Rf, I, L) (o + 1) (.inl (.int, 2880)) := ⟨Nat.le_trans h.1.1 (Nat.le_add_right _ _), Nat.lt_of_le_of_lt (Nat.add_le_add_left (Nat.le_of_ble_eq_true rfl : 1 ≤ 8) o) h.1.2.1, (h.2 (0, 1, .int, 2880) (List.mem_of_getElem? (i := 0) rfl)).2⟩
theorem wrLoads_1 (h : WfLoads G n sh Rf o) : Rf o 1 = some (o + 2) := (h.2 (1, 2, .int, 2880) (List.mem_of_getElem? (i := 1) rfl)).1
theorem waLoads_1 (h : WfLoads G n sh Rf o) : q_in G (n, sh, Rf, I, L) (o + 2) (.inl (.int, 2880)) := ⟨Nat.le_trans h.1.1 (Nat.le_add_right _ _), Nat.lt_of_le_of_lt (Nat.add_le_add_left (Nat.le_of_ble_eq_true rfl : 2 ≤ 8) o) h.1.2.1, (h.2 (1, 2, .int, 2880) (List.mem_of_getElem? (i := 1) rfl)).2⟩
theorem wrLoads_2 (h : WfLoads G n sh Rf o) : Rf o 2 = some (o + 3) := (h.2 (2, 3, .int, 2880) (List.mem_of_getElem? (i := 2) rfl)).1
theorem waLoads_2 (h : WfLoads G n sh Rf o) : q_in G (n, sh, Rf, I, L) (o + 3) (.inl (.int, 2880)) := ⟨Nat.le_trans h.1.1 (Nat.le_add_right _ _), Nat.lt_of_le_of_lt (Nat.add_le_add_left (Nat.le_of_ble_eq_true rfl : 3 ≤ 8) o) h.1.2.1, (h.2 (2, 3, .int, 2880) (List.mem_of_getElem? (i := 2) rfl)).2⟩
theorem wrLoads_3 (h : WfLoads G n sh Rf o) : Rf o 3 = some (o + 4) := (h.2 (3, 4, .int, 2880) (List.mem_of_getElem? (i := 3) rfl)).1
theorem waLoads_3 (h : WfLoads G n sh Rf o) : q_in G (n, sh, Rf, I, L) (o + 4) (.inl (.int, 2880)) := ⟨Nat.le_trans h.1.1 (Nat.le_add_right _ _), Nat.lt_of_le_of_lt (Nat.add_le_add_left (Nat.le_of_ble_eq_true rfl : 4 ≤ 8) o) h.1.2.1, (h.2 (3, 4, .int, 2880) (List.mem_of_getElem? (i := 3) rfl)).2⟩
theorem wrLoads_4 (h : WfLoads G n sh Rf o) : Rf o 4 = some (o + 5) := (h.2 (4, 5, .int, 2880) (List.mem_of_getElem? (i := 4) rfl)).1
theorem waLoads_4 (h : WfLoads G n sh Rf o) : q_in G (n, sh, Rf, I, L) (o + 5) (.inl (.int, 2880)) := ⟨Nat.le_trans h.1.1 (Nat.le_add_right _ _), Nat.lt_of_le_of_lt (Nat.add_le_add_left (Nat.le_of_ble_eq_true rfl : 5 ≤ 8) o) h.1.2.1, (h.2 (4, 5, .int, 2880) (List.mem_of_getElem? (i := 4) rfl)).2⟩
theorem wrLoads_5 (h : WfLoads G n sh Rf o) : Rf o 5 = some (o + 6) := (h.2 (5, 6, .int, 2880) (List.mem_of_getElem? (i := 5) rfl)).1
theorem waLoads_5 (h : WfLoads G n sh Rf o) : q_in G (n, sh, Rf, I, L) (o + 6) (.inl (.int, 2880)) := ⟨Nat.le_trans h.1.1 (Nat.le_add_right _ _), Nat.lt_of_le_of_lt (Nat.add_le_add_left (Nat.le_of_ble_eq_true rfl : 6 ≤ 8) o) h.1.2.1, (h.2 (5, 6, .int, 2880) (List.mem_of_getElem? (i := 5) rfl)).2⟩
theorem wrLoads_6 (h : WfLoads G n sh Rf o) : Rf o 6 = some (o + 7) := (h.2 (6, 7, .int, 2880) (List.mem_of_getElem? (i := 6) rfl)).1
theorem waLoads_6 (h : WfLoads G n sh Rf o) : q_in G (n, sh, Rf, I, L) (o + 7) (.inl (.int, 2880)) := ⟨Nat.le_trans h.1.1 (Nat.le_add_right _ _), Nat.lt_of_le_of_lt (Nat.add_le_add_left (Nat.le_of_ble_eq_true rfl : 7 ≤ 8) o) h.1.2.1, (h.2 (6, 7, .int, 2880) (List.mem_of_getElem? (i := 6) rfl)).2⟩
theorem wrLoads_7 (h : WfLoads G n sh Rf o) : Rf o 7 = some (o + 8) := (h.2 (7, 8, .int, 2880) (List.mem_of_getElem? (i := 7) rfl)).1
theorem waLoads_7 (h : WfLoads G n sh Rf o) : q_in G (n, sh, Rf, I, L) (o + 8) (.inl (.int, 2880)) := ⟨Nat.le_trans h.1.1 (Nat.le_add_right _ _), Nat.lt_of_le_of_lt (Nat.add_le_add_left (Nat.le_of_ble_eq_true rfl : 8 ≤ 8) o) h.1.2.1, (h.2 (7, 8, .int, 2880) (List.mem_of_getElem? (i := 7) rfl)).2⟩
end WfLoads
/-- SaltOffice$Records: the object at o, what it made behind it -/
def wlRecords : List (Nat × Nat × FieldType × Nat) := [(0, 1, .int, 1440), (1, 2, .int, 1440), (2, 3, .int, 3600), (3, 4, .long, 4320)]
def WfRecords (G : qG) (n : Nat) (sh : Nat → qC) (Rf : Nat → Nat → Option Nat) (o : Nat) : Prop := (q_b G ≤ o ∧ o + 4 < q_b G + n ∧ sh o = .inr 5) ∧ (∀ x ∈ wlRecords, Rf o x.1 = some (o + x.2.1) ∧ sh (o + x.2.1) = .inl (x.2.2.1, x.2.2.2))
section WfRecords
variable {G : qG} {n : Nat} {sh : Nat → qC} {Rf : Nat → Nat → Option Nat} {I : Nat → Nat → Int32} {L : Nat → Nat → Int64} {o : Nat}
theorem woRecords (h : WfRecords G n sh Rf o) : q_in G (n, sh, Rf, I, L) o (.inr 5) := ⟨h.1.1, Nat.lt_of_le_of_lt (Nat.le_add_right _ _) h.1.2.1, h.1.2.2⟩
theorem wrRecords_0 (h : WfRecords G n sh Rf o) : Rf o 0 = some (o + 1) := (h.2 (0, 1, .int, 1440) (List.mem_of_getElem? (i := 0) rfl)).1
theorem waRecords_0 (h : WfRecords G n sh Rf o) : q_in G (n, sh, Rf, I, L) (o + 1) (.inl (.int, 1440)) := ⟨Nat.le_trans h.1.1 (Nat.le_add_right _ _), Nat.lt_of_le_of_lt (Nat.add_le_add_left (Nat.le_of_ble_eq_true rfl : 1 ≤ 4) o) h.1.2.1, (h.2 (0, 1, .int, 1440) (List.mem_of_getElem? (i := 0) rfl)).2⟩
theorem wrRecords_1 (h : WfRecords G n sh Rf o) : Rf o 1 = some (o + 2) := (h.2 (1, 2, .int, 1440) (List.mem_of_getElem? (i := 1) rfl)).1
theorem waRecords_1 (h : WfRecords G n sh Rf o) : q_in G (n, sh, Rf, I, L) (o + 2) (.inl (.int, 1440)) := ⟨Nat.le_trans h.1.1 (Nat.le_add_right _ _), Nat.lt_of_le_of_lt (Nat.add_le_add_left (Nat.le_of_ble_eq_true rfl : 2 ≤ 4) o) h.1.2.1, (h.2 (1, 2, .int, 1440) (List.mem_of_getElem? (i := 1) rfl)).2⟩
theorem wrRecords_2 (h : WfRecords G n sh Rf o) : Rf o 2 = some (o + 3) := (h.2 (2, 3, .int, 3600) (List.mem_of_getElem? (i := 2) rfl)).1
theorem waRecords_2 (h : WfRecords G n sh Rf o) : q_in G (n, sh, Rf, I, L) (o + 3) (.inl (.int, 3600)) := ⟨Nat.le_trans h.1.1 (Nat.le_add_right _ _), Nat.lt_of_le_of_lt (Nat.add_le_add_left (Nat.le_of_ble_eq_true rfl : 3 ≤ 4) o) h.1.2.1, (h.2 (2, 3, .int, 3600) (List.mem_of_getElem? (i := 2) rfl)).2⟩
theorem wrRecords_3 (h : WfRecords G n sh Rf o) : Rf o 3 = some (o + 4) := (h.2 (3, 4, .long, 4320) (List.mem_of_getElem? (i := 3) rfl)).1
theorem waRecords_3 (h : WfRecords G n sh Rf o) : q_in G (n, sh, Rf, I, L) (o + 4) (.inl (.long, 4320)) := ⟨Nat.le_trans h.1.1 (Nat.le_add_right _ _), Nat.lt_of_le_of_lt (Nat.add_le_add_left (Nat.le_of_ble_eq_true rfl : 4 ≤ 4) o) h.1.2.1, (h.2 (3, 4, .long, 4320) (List.mem_of_getElem? (i := 3) rfl)).2⟩
end WfRecords
/-- SaltOffice$Way: the object at o, what it made behind it -/
def wlWay : List (Nat × Nat × FieldType × Nat) := []
def WfWay (G : qG) (n : Nat) (sh : Nat → qC) (Rf : Nat → Nat → Option Nat) (o : Nat) : Prop := (q_b G ≤ o ∧ o + 0 < q_b G + n ∧ sh o = .inr 10) ∧ (∀ x ∈ wlWay, Rf o x.1 = some (o + x.2.1) ∧ sh (o + x.2.1) = .inl (x.2.2.1, x.2.2.2))
section WfWay
variable {G : qG} {n : Nat} {sh : Nat → qC} {Rf : Nat → Nat → Option Nat} {I : Nat → Nat → Int32} {L : Nat → Nat → Int64} {o : Nat}
theorem woWay (h : WfWay G n sh Rf o) : q_in G (n, sh, Rf, I, L) o (.inr 10) := ⟨h.1.1, Nat.lt_of_le_of_lt (Nat.le_add_right _ _) h.1.2.1, h.1.2.2⟩
end WfWay
/-- SaltOffice$Tape: the object at o, what it made behind it -/
def wlTape : List (Nat × Nat × FieldType × Nat) := [(0, 1, .int, 1600), (1, 2, .long, 32), (2, 3, .int, 1601), (3, 4, .int, 1601), (4, 5, .int, 1601), (5, 6, .long, 1601)]
def WfTape (G : qG) (n : Nat) (sh : Nat → qC) (Rf : Nat → Nat → Option Nat) (o : Nat) : Prop := (q_b G ≤ o ∧ o + 6 < q_b G + n ∧ sh o = .inr 8) ∧ (∀ x ∈ wlTape, Rf o x.1 = some (o + x.2.1) ∧ sh (o + x.2.1) = .inl (x.2.2.1, x.2.2.2))
section WfTape
variable {G : qG} {n : Nat} {sh : Nat → qC} {Rf : Nat → Nat → Option Nat} {I : Nat → Nat → Int32} {L : Nat → Nat → Int64} {o : Nat}
theorem woTape (h : WfTape G n sh Rf o) : q_in G (n, sh, Rf, I, L) o (.inr 8) := ⟨h.1.1, Nat.lt_of_le_of_lt (Nat.le_add_right _ _) h.1.2.1, h.1.2.2⟩
theorem wrTape_0 (h : WfTape G n sh Rf o) : Rf o 0 = some (o + 1) := (h.2 (0, 1, .int, 1600) (List.mem_of_getElem? (i := 0) rfl)).1
theorem waTape_0 (h : WfTape G n sh Rf o) : q_in G (n, sh, Rf, I, L) (o + 1) (.inl (.int, 1600)) := ⟨Nat.le_trans h.1.1 (Nat.le_add_right _ _), Nat.lt_of_le_of_lt (Nat.add_le_add_left (Nat.le_of_ble_eq_true rfl : 1 ≤ 6) o) h.1.2.1, (h.2 (0, 1, .int, 1600) (List.mem_of_getElem? (i := 0) rfl)).2⟩
theorem wrTape_1 (h : WfTape G n sh Rf o) : Rf o 1 = some (o + 2) := (h.2 (1, 2, .long, 32) (List.mem_of_getElem? (i := 1) rfl)).1
theorem waTape_1 (h : WfTape G n sh Rf o) : q_in G (n, sh, Rf, I, L) (o + 2) (.inl (.long, 32)) := ⟨Nat.le_trans h.1.1 (Nat.le_add_right _ _), Nat.lt_of_le_of_lt (Nat.add_le_add_left (Nat.le_of_ble_eq_true rfl : 2 ≤ 6) o) h.1.2.1, (h.2 (1, 2, .long, 32) (List.mem_of_getElem? (i := 1) rfl)).2⟩
theorem wrTape_2 (h : WfTape G n sh Rf o) : Rf o 2 = some (o + 3) := (h.2 (2, 3, .int, 1601) (List.mem_of_getElem? (i := 2) rfl)).1
theorem waTape_2 (h : WfTape G n sh Rf o) : q_in G (n, sh, Rf, I, L) (o + 3) (.inl (.int, 1601)) := ⟨Nat.le_trans h.1.1 (Nat.le_add_right _ _), Nat.lt_of_le_of_lt (Nat.add_le_add_left (Nat.le_of_ble_eq_true rfl : 3 ≤ 6) o) h.1.2.1, (h.2 (2, 3, .int, 1601) (List.mem_of_getElem? (i := 2) rfl)).2⟩
theorem wrTape_3 (h : WfTape G n sh Rf o) : Rf o 3 = some (o + 4) := (h.2 (3, 4, .int, 1601) (List.mem_of_getElem? (i := 3) rfl)).1
theorem waTape_3 (h : WfTape G n sh Rf o) : q_in G (n, sh, Rf, I, L) (o + 4) (.inl (.int, 1601)) := ⟨Nat.le_trans h.1.1 (Nat.le_add_right _ _), Nat.lt_of_le_of_lt (Nat.add_le_add_left (Nat.le_of_ble_eq_true rfl : 4 ≤ 6) o) h.1.2.1, (h.2 (3, 4, .int, 1601) (List.mem_of_getElem? (i := 3) rfl)).2⟩
theorem wrTape_4 (h : WfTape G n sh Rf o) : Rf o 4 = some (o + 5) := (h.2 (4, 5, .int, 1601) (List.mem_of_getElem? (i := 4) rfl)).1
theorem waTape_4 (h : WfTape G n sh Rf o) : q_in G (n, sh, Rf, I, L) (o + 5) (.inl (.int, 1601)) := ⟨Nat.le_trans h.1.1 (Nat.le_add_right _ _), Nat.lt_of_le_of_lt (Nat.add_le_add_left (Nat.le_of_ble_eq_true rfl : 5 ≤ 6) o) h.1.2.1, (h.2 (4, 5, .int, 1601) (List.mem_of_getElem? (i := 4) rfl)).2⟩
theorem wrTape_5 (h : WfTape G n sh Rf o) : Rf o 5 = some (o + 6) := (h.2 (5, 6, .long, 1601) (List.mem_of_getElem? (i := 5) rfl)).1
theorem waTape_5 (h : WfTape G n sh Rf o) : q_in G (n, sh, Rf, I, L) (o + 6) (.inl (.long, 1601)) := ⟨Nat.le_trans h.1.1 (Nat.le_add_right _ _), Nat.lt_of_le_of_lt (Nat.add_le_add_left (Nat.le_of_ble_eq_true rfl : 6 ≤ 6) o) h.1.2.1, (h.2 (5, 6, .long, 1601) (List.mem_of_getElem? (i := 5) rfl)).2⟩
end WfTape
/-- SaltOffice$Run: the object at o, what it made behind it -/
def wlRun : List (Nat × Nat × FieldType × Nat) := [(8, 59, .int, 64), (9, 60, .int, 11), (10, 61, .long, 6), (11, 62, .int, 18), (12, 63, .int, 6), (13, 64, .int, 6), (14, 65, .long, 11)]
def WfRun (G : qG) (n : Nat) (sh : Nat → qC) (Rf : Nat → Nat → Option Nat) (o : Nat) : Prop := (q_b G ≤ o ∧ o + 65 < q_b G + n ∧ sh o = .inr 7) ∧ (∀ x ∈ wlRun, Rf o x.1 = some (o + x.2.1) ∧ sh (o + x.2.1) = .inl (x.2.2.1, x.2.2.2)) ∧ (Rf o 2 = some (o + 19) ∧ WfReform G n sh Rf (o + 19)) ∧ (Rf o 3 = some (o + 24) ∧ WfRealm G n sh Rf (o + 24)) ∧ (Rf o 4 = some (o + 31) ∧ WfPapers G n sh Rf (o + 31)) ∧ (Rf o 5 = some (o + 44) ∧ WfLoads G n sh Rf (o + 44)) ∧ (Rf o 6 = some (o + 53) ∧ WfRecords G n sh Rf (o + 53)) ∧ (Rf o 7 = some (o + 58) ∧ WfWay G n sh Rf (o + 58))
section WfRun
variable {G : qG} {n : Nat} {sh : Nat → qC} {Rf : Nat → Nat → Option Nat} {I : Nat → Nat → Int32} {L : Nat → Nat → Int64} {o : Nat}
theorem woRun (h : WfRun G n sh Rf o) : q_in G (n, sh, Rf, I, L) o (.inr 7) := ⟨h.1.1, Nat.lt_of_le_of_lt (Nat.le_add_right _ _) h.1.2.1, h.1.2.2⟩
theorem wrRun_8 (h : WfRun G n sh Rf o) : Rf o 8 = some (o + 59) := (h.2.1 (8, 59, .int, 64) (List.mem_of_getElem? (i := 0) rfl)).1
theorem waRun_8 (h : WfRun G n sh Rf o) : q_in G (n, sh, Rf, I, L) (o + 59) (.inl (.int, 64)) := ⟨Nat.le_trans h.1.1 (Nat.le_add_right _ _), Nat.lt_of_le_of_lt (Nat.add_le_add_left (Nat.le_of_ble_eq_true rfl : 59 ≤ 65) o) h.1.2.1, (h.2.1 (8, 59, .int, 64) (List.mem_of_getElem? (i := 0) rfl)).2⟩
theorem wrRun_9 (h : WfRun G n sh Rf o) : Rf o 9 = some (o + 60) := (h.2.1 (9, 60, .int, 11) (List.mem_of_getElem? (i := 1) rfl)).1
theorem waRun_9 (h : WfRun G n sh Rf o) : q_in G (n, sh, Rf, I, L) (o + 60) (.inl (.int, 11)) := ⟨Nat.le_trans h.1.1 (Nat.le_add_right _ _), Nat.lt_of_le_of_lt (Nat.add_le_add_left (Nat.le_of_ble_eq_true rfl : 60 ≤ 65) o) h.1.2.1, (h.2.1 (9, 60, .int, 11) (List.mem_of_getElem? (i := 1) rfl)).2⟩
theorem wrRun_10 (h : WfRun G n sh Rf o) : Rf o 10 = some (o + 61) := (h.2.1 (10, 61, .long, 6) (List.mem_of_getElem? (i := 2) rfl)).1
theorem waRun_10 (h : WfRun G n sh Rf o) : q_in G (n, sh, Rf, I, L) (o + 61) (.inl (.long, 6)) := ⟨Nat.le_trans h.1.1 (Nat.le_add_right _ _), Nat.lt_of_le_of_lt (Nat.add_le_add_left (Nat.le_of_ble_eq_true rfl : 61 ≤ 65) o) h.1.2.1, (h.2.1 (10, 61, .long, 6) (List.mem_of_getElem? (i := 2) rfl)).2⟩
theorem wrRun_11 (h : WfRun G n sh Rf o) : Rf o 11 = some (o + 62) := (h.2.1 (11, 62, .int, 18) (List.mem_of_getElem? (i := 3) rfl)).1
theorem waRun_11 (h : WfRun G n sh Rf o) : q_in G (n, sh, Rf, I, L) (o + 62) (.inl (.int, 18)) := ⟨Nat.le_trans h.1.1 (Nat.le_add_right _ _), Nat.lt_of_le_of_lt (Nat.add_le_add_left (Nat.le_of_ble_eq_true rfl : 62 ≤ 65) o) h.1.2.1, (h.2.1 (11, 62, .int, 18) (List.mem_of_getElem? (i := 3) rfl)).2⟩
theorem wrRun_12 (h : WfRun G n sh Rf o) : Rf o 12 = some (o + 63) := (h.2.1 (12, 63, .int, 6) (List.mem_of_getElem? (i := 4) rfl)).1
theorem waRun_12 (h : WfRun G n sh Rf o) : q_in G (n, sh, Rf, I, L) (o + 63) (.inl (.int, 6)) := ⟨Nat.le_trans h.1.1 (Nat.le_add_right _ _), Nat.lt_of_le_of_lt (Nat.add_le_add_left (Nat.le_of_ble_eq_true rfl : 63 ≤ 65) o) h.1.2.1, (h.2.1 (12, 63, .int, 6) (List.mem_of_getElem? (i := 4) rfl)).2⟩
theorem wrRun_13 (h : WfRun G n sh Rf o) : Rf o 13 = some (o + 64) := (h.2.1 (13, 64, .int, 6) (List.mem_of_getElem? (i := 5) rfl)).1
theorem waRun_13 (h : WfRun G n sh Rf o) : q_in G (n, sh, Rf, I, L) (o + 64) (.inl (.int, 6)) := ⟨Nat.le_trans h.1.1 (Nat.le_add_right _ _), Nat.lt_of_le_of_lt (Nat.add_le_add_left (Nat.le_of_ble_eq_true rfl : 64 ≤ 65) o) h.1.2.1, (h.2.1 (13, 64, .int, 6) (List.mem_of_getElem? (i := 5) rfl)).2⟩
theorem wrRun_14 (h : WfRun G n sh Rf o) : Rf o 14 = some (o + 65) := (h.2.1 (14, 65, .long, 11) (List.mem_of_getElem? (i := 6) rfl)).1
theorem waRun_14 (h : WfRun G n sh Rf o) : q_in G (n, sh, Rf, I, L) (o + 65) (.inl (.long, 11)) := ⟨Nat.le_trans h.1.1 (Nat.le_add_right _ _), Nat.lt_of_le_of_lt (Nat.add_le_add_left (Nat.le_of_ble_eq_true rfl : 65 ≤ 65) o) h.1.2.1, (h.2.1 (14, 65, .long, 11) (List.mem_of_getElem? (i := 6) rfl)).2⟩
theorem wrRun_2 (h : WfRun G n sh Rf o) : Rf o 2 = some (o + 19) := h.2.2.1.1
theorem wsRun_2 (h : WfRun G n sh Rf o) : WfReform G n sh Rf (o + 19) := h.2.2.1.2
theorem wrRun_3 (h : WfRun G n sh Rf o) : Rf o 3 = some (o + 24) := h.2.2.2.1.1
theorem wsRun_3 (h : WfRun G n sh Rf o) : WfRealm G n sh Rf (o + 24) := h.2.2.2.1.2
theorem wrRun_4 (h : WfRun G n sh Rf o) : Rf o 4 = some (o + 31) := h.2.2.2.2.1.1
theorem wsRun_4 (h : WfRun G n sh Rf o) : WfPapers G n sh Rf (o + 31) := h.2.2.2.2.1.2
theorem wrRun_5 (h : WfRun G n sh Rf o) : Rf o 5 = some (o + 44) := h.2.2.2.2.2.1.1
theorem wsRun_5 (h : WfRun G n sh Rf o) : WfLoads G n sh Rf (o + 44) := h.2.2.2.2.2.1.2
theorem wrRun_6 (h : WfRun G n sh Rf o) : Rf o 6 = some (o + 53) := h.2.2.2.2.2.2.1.1
theorem wsRun_6 (h : WfRun G n sh Rf o) : WfRecords G n sh Rf (o + 53) := h.2.2.2.2.2.2.1.2
theorem wrRun_7 (h : WfRun G n sh Rf o) : Rf o 7 = some (o + 58) := h.2.2.2.2.2.2.2.1
theorem wsRun_7 (h : WfRun G n sh Rf o) : WfWay G n sh Rf (o + 58) := h.2.2.2.2.2.2.2.2
end WfRun
/-- SaltOffice: the object at o, what it made behind it -/
def wlOffice : List (Nat × Nat × FieldType × Nat) := []
def WfOffice (G : qG) (n : Nat) (sh : Nat → qC) (Rf : Nat → Nat → Option Nat) (o : Nat) : Prop := (q_b G ≤ o ∧ o + 186 < q_b G + n ∧ sh o = .inr 11) ∧ (∀ x ∈ wlOffice, Rf o x.1 = some (o + x.2.1) ∧ sh (o + x.2.1) = .inl (x.2.2.1, x.2.2.2)) ∧ (Rf o 0 = some (o + 1) ∧ WfTape G n sh Rf (o + 1)) ∧ (Rf o 5 = some (o + 46) ∧ WfTrade G n sh Rf (o + 46)) ∧ (Rf o 6 = some (o + 48) ∧ WfFacts G n sh Rf (o + 48)) ∧ (Rf o 8 = some (o + 55) ∧ WfRun G n sh Rf (o + 55)) ∧ (Rf o 9 = some (o + 121) ∧ WfRun G n sh Rf (o + 121)) ∧ (Rf o 3 = some (o + 40) ∧ sh (o + 40) = .inl (.object "SaltOffice$Reform", 4))
section WfOffice
variable {G : qG} {n : Nat} {sh : Nat → qC} {Rf : Nat → Nat → Option Nat} {I : Nat → Nat → Int32} {L : Nat → Nat → Int64} {o : Nat}
theorem woOffice (h : WfOffice G n sh Rf o) : q_in G (n, sh, Rf, I, L) o (.inr 11) := ⟨h.1.1, Nat.lt_of_le_of_lt (Nat.le_add_right _ _) h.1.2.1, h.1.2.2⟩
theorem wrOffice_0 (h : WfOffice G n sh Rf o) : Rf o 0 = some (o + 1) := h.2.2.1.1
theorem wsOffice_0 (h : WfOffice G n sh Rf o) : WfTape G n sh Rf (o + 1) := h.2.2.1.2
theorem wrOffice_5 (h : WfOffice G n sh Rf o) : Rf o 5 = some (o + 46) := h.2.2.2.1.1
theorem wsOffice_5 (h : WfOffice G n sh Rf o) : WfTrade G n sh Rf (o + 46) := h.2.2.2.1.2
theorem wrOffice_6 (h : WfOffice G n sh Rf o) : Rf o 6 = some (o + 48) := h.2.2.2.2.1.1
theorem wsOffice_6 (h : WfOffice G n sh Rf o) : WfFacts G n sh Rf (o + 48) := h.2.2.2.2.1.2
theorem wrOffice_8 (h : WfOffice G n sh Rf o) : Rf o 8 = some (o + 55) := h.2.2.2.2.2.1.1
theorem wsOffice_8 (h : WfOffice G n sh Rf o) : WfRun G n sh Rf (o + 55) := h.2.2.2.2.2.1.2
theorem wrOffice_9 (h : WfOffice G n sh Rf o) : Rf o 9 = some (o + 121) := h.2.2.2.2.2.2.1.1
theorem wsOffice_9 (h : WfOffice G n sh Rf o) : WfRun G n sh Rf (o + 121) := h.2.2.2.2.2.2.1.2
theorem wrOffice_3 (h : WfOffice G n sh Rf o) : Rf o 3 = some (o + 40) := h.2.2.2.2.2.2.2.1
theorem waOffice_3 (h : WfOffice G n sh Rf o) : q_in G (n, sh, Rf, I, L) (o + 40) (.inl (.object "SaltOffice$Reform", 4)) := ⟨Nat.le_trans h.1.1 (Nat.le_add_right _ _), Nat.lt_of_le_of_lt (Nat.add_le_add_left (Nat.le_of_ble_eq_true rfl : 40 ≤ 186) o) h.1.2.1, h.2.2.2.2.2.2.2.2⟩
end WfOffice
