/-! Safety of Reform, its nesting: by program (spec.py). -/
section RR
variable {D : va_G} {cA : FieldType → ClassId} {b : Nat} {E : State → Prop} {R : qRg} {o n : Nat} {sh : Nat → qC} {Rf : Nat → Nat → Option Nat} {x1 : Nat}
/-- what a reading of a REFORM's part does, from a nesting of lo on -/
def RdC (D : va_G) (cA : FieldType → ClassId) (b : Nat) (E : State → Prop) (R : qRg) (o n : Nat) (sh : Nat → qC) (Rf : Nat → Nat → Option Nat) (x1 : Nat) (m : qM) (d : Nat) (lo : Int) : Prop := ∀ (J : Nat → Nat → Int32) (K : Nat → Nat → Int64) (post : Option Value → qS → Prop) (q : Int32), RI R J → TokOK J x1 → lo ≤ q.toInt → q.toInt ≤ 7 → (∀ I' L', RI R I' → Fm (fun c => (o ≤ c ∧ c < o + 5) ∨ c = x1) J I' → (I' o 6).toInt = (J o 6).toInt → (I' o 8).toInt = (J o 8).toInt → post none (n, sh, Rf, I', L')) → Ev (qGG D cA b E) m d (0, 0) 0 (lv_args 0 [.ref o, .ref x1, .int q]) [] (n, sh, Rf, J, K) post
theorem RdC.deep {m : qM} {d d' : Nat} {lo : Int} (h : RdC D cA b E R o n sh Rf x1 m d lo) (hd : d ≤ d') : RdC D cA b E R o n sh Rf x1 m d' lo := fun J K post q h1 h2 h3 h4 h5 => ev_deep hd (h J K post q h1 h2 h3 h4 h5)
theorem RdC.none {m : qM} {d : Nat} {lo : Int} (h : 7 < lo) : RdC D cA b E R o n sh Rf x1 m d lo := fun J K post q h1 h2 h3 h4 h5 => absurd h4 (by omega)
/-- all of them, by nesting -/
theorem y_reads (hok : q_ok (qGG D cA b E)) (hw : WfReform (qGG D cA b E) n sh Rf o) (ra : RAReform R o) (hw1 : WfTape (qGG D cA b E) n sh Rf x1) (ra1 : RATape R x1) (hs : o + 5 ≤ x1 ∨ x1 + 7 ≤ o) : ∀ (j : Nat) (lo : Int), 0 ≤ lo → lo + (j : Int) = 8 → RdC D cA b E R o n sh Rf x1 mReform_readEither (6 * j + 11) lo ∧ RdC D cA b E R o n sh Rf x1 mReform_readOne (6 * j + 9) lo := by
  intro j
  induction j with
  | zero => intro lo h0 hl; exact ⟨RdC.none (by omega), RdC.none (by omega)⟩
  | succ j ih =>
    intro lo h0 hl
    obtain ⟨hE, hO⟩ := ih (lo + 1) (by omega) (by omega)
    have u : RdC D cA b E R o n sh Rf x1 mReform_readUnit (6 * j + 11 + 1) lo := fun J K post q a1 a2 a3 a4 a5 => y_Reform_readUnit hok hw ra hw1 ra1 (by omega) hE hs h0 a3 a4 a2 a1 (fun I' L' r f k6 k8 => a5 I' L' r f k6 k8)
    have t : RdC D cA b E R o n sh Rf x1 mReform_readTerm (6 * j + 11 + 1 + 1) lo := fun J K post q a1 a2 a3 a4 a5 => y_Reform_readTerm hok hw ra hw1 ra1 (by omega) u hs h0 a3 a4 a2 a1 (fun I' L' r f k6 k8 => a5 I' L' r f k6 k8)
    have m : RdC D cA b E R o n sh Rf x1 mReform_readSum (6 * j + 11 + 1 + 1 + 1) lo := fun J K post q a1 a2 a3 a4 a5 => y_Reform_readSum hok hw ra hw1 ra1 (by omega) t hs h0 a3 a4 a2 a1 (fun I' L' r f k6 k8 => a5 I' L' r f k6 k8)
    have e : RdC D cA b E R o n sh Rf x1 mReform_readOne (6 * j + 11 + 1 + 1 + 1 + 1) lo := fun J K post q a1 a2 a3 a4 a5 => y_Reform_readOne hok hw ra hw1 ra1 (by omega) m (hO.deep (by omega)) hs h0 a3 a4 a2 a1 (fun I' L' r f k6 k8 => a5 I' L' r f k6 k8)
    have B : RdC D cA b E R o n sh Rf x1 mReform_readBoth (6 * j + 11 + 1 + 1 + 1 + 1 + 1) lo := fun J K post q a1 a2 a3 a4 a5 => y_Reform_readBoth hok hw ra hw1 ra1 (by omega) e hs h0 a3 a4 a2 a1 (fun I' L' r f k6 k8 => a5 I' L' r f k6 k8)
    have A : RdC D cA b E R o n sh Rf x1 mReform_readEither (6 * j + 11 + 1 + 1 + 1 + 1 + 1 + 1) lo := fun J K post q a1 a2 a3 a4 a5 => y_Reform_readEither hok hw ra hw1 ra1 (by omega) B hs h0 a3 a4 a2 a1 (fun I' L' r f k6 k8 => a5 I' L' r f k6 k8)
    exact ⟨A.deep (by omega), e.deep (by omega)⟩
theorem y_Reform_readEither0 {I0 : Nat → Nat → Int32} {L0 : Nat → Nat → Int64} {post : Option Value → qS → Prop} (hok : q_ok (qGG D cA b E)) (hw : WfReform (qGG D cA b E) n sh Rf o) (ra : RAReform R o) (hw1 : WfTape (qGG D cA b E) n sh Rf x1) (ra1 : RATape R x1) (hs : o + 5 ≤ x1 ∨ x1 + 7 ≤ o) (ht : TokOK I0 x1) (hR : RI R I0) (hp : ∀ I' L', RI R I' → Fm (fun c => (o ≤ c ∧ c < o + 5) ∨ c = x1) I0 I' → (I' o 6).toInt = (I0 o 6).toInt → (I' o 8).toInt = (I0 o 8).toInt → post none (n, sh, Rf, I', L')) : Ev (qGG D cA b E) mReform_readEither 100 (0, 0) 0 (lv_args 0 [.ref o, .ref x1, .int 0]) [] (n, sh, Rf, I0, L0) post :=
  (((y_reads hok hw ra hw1 ra1 hs 8 0 (by omega) (by omega)).1).deep (by omega)) I0 L0 post 0 hR ht (by decide) (by decide) hp
end RR
