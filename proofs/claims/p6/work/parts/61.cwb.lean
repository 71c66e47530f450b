/-! A shape stays where its own cells stay (new cells come behind it). -/
section WB
variable {G : qG} {n n' : Nat} {sh sh' : Nat → qC} {Rf Rf' : Nat → Nat → Option Nat} {x : Nat}
/-- the cells lo .. lo + w - 1 are as they were -/
def Ag (lo w : Nat) (sh sh' : Nat → qC) (Rf Rf' : Nat → Nat → Option Nat) : Prop := ∀ c, lo ≤ c → c < lo + w → sh' c = sh c ∧ Rf' c = Rf c
theorem Ag.sub {lo w lo2 w2 : Nat} (h : Ag lo w sh sh' Rf Rf') (h1 : lo ≤ lo2) (h2 : lo2 + w2 ≤ lo + w) : Ag lo2 w2 sh sh' Rf Rf' := fun c c1 c2 => h c (by omega) (by omega)
theorem wlFacts_in : ∀ y ∈ wlFacts, y.2.1 < 7 := by decide
theorem wbFacts (hn : n ≤ n') (e : Ag x 7 sh sh' Rf Rf') (h : WfFacts G n sh Rf x) : WfFacts G n' sh' Rf' x := ⟨⟨h.1.1, by have := h.1.2.1; omega, (e x (Nat.le_refl _) (by omega)).1.trans h.1.2.2⟩, fun y hy => ⟨by rw [(e x (Nat.le_refl _) (by omega)).2]; exact (h.2 y hy).1, by have := wlFacts_in y hy; rw [(e (x + y.2.1) (by omega) (by omega)).1]; exact (h.2 y hy).2⟩⟩
theorem wlLand_in : ∀ y ∈ wlLand, y.2.1 < 16 := by decide
theorem wbLand (hn : n ≤ n') (e : Ag x 16 sh sh' Rf Rf') (h : WfLand G n sh Rf x) : WfLand G n' sh' Rf' x := ⟨⟨h.1.1, by have := h.1.2.1; omega, (e x (Nat.le_refl _) (by omega)).1.trans h.1.2.2⟩, fun y hy => ⟨by rw [(e x (Nat.le_refl _) (by omega)).2]; exact (h.2 y hy).1, by have := wlLand_in y hy; rw [(e (x + y.2.1) (by omega) (by omega)).1]; exact (h.2 y hy).2⟩⟩
theorem wlTrade_in : ∀ y ∈ wlTrade, y.2.1 < 2 := by decide
theorem wbTrade (hn : n ≤ n') (e : Ag x 2 sh sh' Rf Rf') (h : WfTrade G n sh Rf x) : WfTrade G n' sh' Rf' x := ⟨⟨h.1.1, by have := h.1.2.1; omega, (e x (Nat.le_refl _) (by omega)).1.trans h.1.2.2⟩, fun y hy => ⟨by rw [(e x (Nat.le_refl _) (by omega)).2]; exact (h.2 y hy).1, by have := wlTrade_in y hy; rw [(e (x + y.2.1) (by omega) (by omega)).1]; exact (h.2 y hy).2⟩⟩
theorem wlReform_in : ∀ y ∈ wlReform, y.2.1 < 5 := by decide
theorem wbReform (hn : n ≤ n') (e : Ag x 5 sh sh' Rf Rf') (h : WfReform G n sh Rf x) : WfReform G n' sh' Rf' x := ⟨⟨h.1.1, by have := h.1.2.1; omega, (e x (Nat.le_refl _) (by omega)).1.trans h.1.2.2⟩, fun y hy => ⟨by rw [(e x (Nat.le_refl _) (by omega)).2]; exact (h.2 y hy).1, by have := wlReform_in y hy; rw [(e (x + y.2.1) (by omega) (by omega)).1]; exact (h.2 y hy).2⟩⟩
theorem wlRealm_in : ∀ y ∈ wlRealm, y.2.1 < 7 := by decide
theorem wbRealm (hn : n ≤ n') (e : Ag x 7 sh sh' Rf Rf') (h : WfRealm G n sh Rf x) : WfRealm G n' sh' Rf' x := ⟨⟨h.1.1, by have := h.1.2.1; omega, (e x (Nat.le_refl _) (by omega)).1.trans h.1.2.2⟩, fun y hy => ⟨by rw [(e x (Nat.le_refl _) (by omega)).2]; exact (h.2 y hy).1, by have := wlRealm_in y hy; rw [(e (x + y.2.1) (by omega) (by omega)).1]; exact (h.2 y hy).2⟩⟩
theorem wlPapers_in : ∀ y ∈ wlPapers, y.2.1 < 13 := by decide
theorem wbPapers (hn : n ≤ n') (e : Ag x 13 sh sh' Rf Rf') (h : WfPapers G n sh Rf x) : WfPapers G n' sh' Rf' x := ⟨⟨h.1.1, by have := h.1.2.1; omega, (e x (Nat.le_refl _) (by omega)).1.trans h.1.2.2⟩, fun y hy => ⟨by rw [(e x (Nat.le_refl _) (by omega)).2]; exact (h.2 y hy).1, by have := wlPapers_in y hy; rw [(e (x + y.2.1) (by omega) (by omega)).1]; exact (h.2 y hy).2⟩⟩
theorem wlLoads_in : ∀ y ∈ wlLoads, y.2.1 < 9 := by decide
theorem wbLoads (hn : n ≤ n') (e : Ag x 9 sh sh' Rf Rf') (h : WfLoads G n sh Rf x) : WfLoads G n' sh' Rf' x := ⟨⟨h.1.1, by have := h.1.2.1; omega, (e x (Nat.le_refl _) (by omega)).1.trans h.1.2.2⟩, fun y hy => ⟨by rw [(e x (Nat.le_refl _) (by omega)).2]; exact (h.2 y hy).1, by have := wlLoads_in y hy; rw [(e (x + y.2.1) (by omega) (by omega)).1]; exact (h.2 y hy).2⟩⟩
theorem wlRecords_in : ∀ y ∈ wlRecords, y.2.1 < 5 := by decide
theorem wbRecords (hn : n ≤ n') (e : Ag x 5 sh sh' Rf Rf') (h : WfRecords G n sh Rf x) : WfRecords G n' sh' Rf' x := ⟨⟨h.1.1, by have := h.1.2.1; omega, (e x (Nat.le_refl _) (by omega)).1.trans h.1.2.2⟩, fun y hy => ⟨by rw [(e x (Nat.le_refl _) (by omega)).2]; exact (h.2 y hy).1, by have := wlRecords_in y hy; rw [(e (x + y.2.1) (by omega) (by omega)).1]; exact (h.2 y hy).2⟩⟩
theorem wlWay_in : ∀ y ∈ wlWay, y.2.1 < 1 := by decide
theorem wbWay (hn : n ≤ n') (e : Ag x 1 sh sh' Rf Rf') (h : WfWay G n sh Rf x) : WfWay G n' sh' Rf' x := ⟨⟨h.1.1, by have := h.1.2.1; omega, (e x (Nat.le_refl _) (by omega)).1.trans h.1.2.2⟩, fun y hy => ⟨by rw [(e x (Nat.le_refl _) (by omega)).2]; exact (h.2 y hy).1, by have := wlWay_in y hy; rw [(e (x + y.2.1) (by omega) (by omega)).1]; exact (h.2 y hy).2⟩⟩
theorem wlTape_in : ∀ y ∈ wlTape, y.2.1 < 7 := by decide
theorem wbTape (hn : n ≤ n') (e : Ag x 7 sh sh' Rf Rf') (h : WfTape G n sh Rf x) : WfTape G n' sh' Rf' x := ⟨⟨h.1.1, by have := h.1.2.1; omega, (e x (Nat.le_refl _) (by omega)).1.trans h.1.2.2⟩, fun y hy => ⟨by rw [(e x (Nat.le_refl _) (by omega)).2]; exact (h.2 y hy).1, by have := wlTape_in y hy; rw [(e (x + y.2.1) (by omega) (by omega)).1]; exact (h.2 y hy).2⟩⟩
theorem wlRun_in : ∀ y ∈ wlRun, y.2.1 < 66 := by decide
theorem wbRun (hn : n ≤ n') (e : Ag x 66 sh sh' Rf Rf') (h : WfRun G n sh Rf x) : WfRun G n' sh' Rf' x := by
  obtain ⟨h0, h1, g2, g3, g4, g5, g6, g7⟩ := h
  have q : Rf' x = Rf x := (e x (Nat.le_refl _) (by omega)).2
  refine ⟨⟨h0.1, by have := h0.2.1; omega, (e x (Nat.le_refl _) (by omega)).1.trans h0.2.2⟩, fun y hy => ⟨by rw [q]; exact (h1 y hy).1, by have := wlRun_in y hy; rw [(e (x + y.2.1) (by omega) (by omega)).1]; exact (h1 y hy).2⟩, ⟨by rw [q]; exact g2.1, wbReform hn (e.sub (by omega) (by omega)) g2.2⟩, ⟨by rw [q]; exact g3.1, wbRealm hn (e.sub (by omega) (by omega)) g3.2⟩, ⟨by rw [q]; exact g4.1, wbPapers hn (e.sub (by omega) (by omega)) g4.2⟩, ⟨by rw [q]; exact g5.1, wbLoads hn (e.sub (by omega) (by omega)) g5.2⟩, ⟨by rw [q]; exact g6.1, wbRecords hn (e.sub (by omega) (by omega)) g6.2⟩, ⟨by rw [q]; exact g7.1, wbWay hn (e.sub (by omega) (by omega)) g7.2⟩⟩
end WB
