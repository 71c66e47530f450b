/-! A slim logic over the kit's rows: a world of cells at the addresses b, b + 1, ..; its state: how many cells, their shapes, their references, ints, longs. 'Ev': from this point the method returns, with 'post' of its answer and of the state behind it. -/
abbrev qC : Type := (FieldType × Nat) ⊕ Nat
abbrev qS : Type := Nat × (Nat → qC) × (Nat → Nat → Option Nat) × (Nat → Nat → Int32) × (Nat → Nat → Int64)
/-- classes; field types; tables' words; the classes' numbers and slots; array classes; array types; the base; what else holds of every state -/
abbrev qG : Type := List vw_C × (Nat → Nat → FieldType) × List Cond × va_G × (FieldType → ClassId) × List FieldType × Nat × (State → Prop)
/-- name, code, locals, what it returns -/
abbrev qM : Type := MethodName × ByteArray × Nat × Option FieldType
abbrev q_cl (G : qG) : List vw_C := G.1
abbrev q_ft (G : qG) : Nat → Nat → FieldType := G.2.1
abbrev q_Ts (G : qG) : List Cond := G.2.2.1
abbrev q_D (G : qG) : va_G := G.2.2.2.1
abbrev q_cA (G : qG) : FieldType → ClassId := G.2.2.2.2.1
abbrev q_tl (G : qG) : List FieldType := G.2.2.2.2.2.1
abbrev q_b (G : qG) : Nat := G.2.2.2.2.2.2.1
abbrev q_E (G : qG) : State → Prop := G.2.2.2.2.2.2.2
abbrev q_tys (G : qG) : List (ClassId × FieldType) := (q_tl G).map fun t => (q_cA G t, t)
def q_fv (t : FieldType) (r : Option Nat) (i : Int32) (l : Int64) : Value := match t with
  | .long => .long l
  | .object _ => va_rf r
  | .array _ => va_rf r
  | _ => .int i
def q_av (t : FieldType) (r : Nat → Option Nat) (i : Nat → Int32) (l : Nat → Int64) : (Nat → Int32) ⊕ (Nat → Int64) ⊕ (Nat → UInt32) ⊕ (Nat → UInt64) ⊕ (Nat → Option Nat) := match t with
  | .long => .inr (.inl l)
  | .object _ => .inr (.inr (.inr (.inr r)))
  | .array _ => .inr (.inr (.inr (.inr r)))
  | _ => .inl i
def q_N (G : qG) (ci : Nat) : Nat := match (q_cl G)[ci]? with
  | some q => q.2.2
  | none => 0
def q_fs (G : qG) (σ : qS) (ci a : Nat) : List Value := (List.range (q_N G ci)).map fun k => q_fv (q_ft G ci k) (σ.2.2.1 a k) (σ.2.2.2.1 a k) (σ.2.2.2.2 a k)
def q_cell (G : qG) (σ : qS) (a : Nat) : va_E := match σ.2.1 a with
  | .inl x => .inl (q_cA G x.1, x.2, q_av x.1 (σ.2.2.1 a) (σ.2.2.2.1 a) (σ.2.2.2.2 a))
  | .inr ci => .inr (ci, q_fs G σ ci a)
def q_ws (G : qG) (σ : qS) : va_W := (List.range σ.1).map fun k => (q_b G + k, q_cell G σ (q_b G + k))
def q_H (G : qG) (σ : qS) (H : Heap) : Prop := va_P (q_D G) (q_cl G) (q_ws G σ) H
abbrev q_A (G : qG) : Nat → Prop := fun q => q_b G ≤ q
def q_in (G : qG) (σ : qS) (a : Nat) (x : qC) : Prop := q_b G ≤ a ∧ a < q_b G + σ.1 ∧ σ.2.1 a = x
/-- what is the same for every method of the claim: fields as the tables have them -/
def q_ok (G : qG) : Prop := (∀ (ci : Nat) (q : vw_C), (q_cl G)[ci]? = some q → (∀ w ∈ u_ws q.1 q.2.1 q.2.2, w ∈ q_Ts G) ∧ (∀ k, k < q.2.2 → parseFieldDescriptor (q.2.1 k).2.2.1 = some (q_ft G ci k)) ∧ ∀ a, a < q.2.2 → ∀ b, b < q.2.2 → a ≠ b → (q.2.1 a).2.1 ≠ (q.2.1 b).2.1) ∧ (∀ w ∈ q_Ts G, goodWord w = true) ∧ FieldType.int ∈ q_tl G ∧ FieldType.long ∈ q_tl G ∧ FieldType.byte ∈ q_tl G ∧ FieldType.boolean ∈ q_tl G ∧ (∀ s U : State, s.WarmedH U.vm → (∀ q, q < q_b G → U.heap[q]? = s.heap[q]?) → q_E G s → q_E G U) ∧ ∀ (U : State) (g : JFrame) (mk : MethodId) (a : Array Value), q_E G U → q_E G (U.calling g mk a)
/-- a field's link -/
def q_fl (G : qG) (own : String) (idx ci k : Nat) (fin : Bool) : Prop := ∃ q : vw_C, (q_cl G)[ci]? = some q ∧ k < q.2.2 ∧ Cond.fieldLink own idx (q.2.1 k).1 (q.2.1 k).2.1 (q.2.1 k).2.2.1 ∈ q_Ts G ∧ (q.2.1 k).2.2.2 = fin ∧ (q.2.1 k).1 = q.1
def q_X (G : qG) (M : qM) (p : Program) (s : State) (m : MethodId) (args : Array Value) (meth : Method) (c : Code) : Prop :=
  p.tables.exec = Jvm.exec ∧ c.code = M.2.1 ∧ c.maxLocals = M.2.2.1 ∧ meth.sig.returnType = M.2.2.2 ∧ meth.locks = false ∧ s.vm.findClass M.1.cls = some m.cls ∧ (∀ w ∈ q_Ts G, w.before args s = true) ∧ va_K (q_D G) (q_cl G) (q_tys G) s ∧ q_E G s ∧ meth.name = M.1.name
def q_Q (G : qG) (nf : Nat) (post : Option Value → qS → Prop) : Array Value → State → Outcome → State → Prop := fun _ st oc t =>
  (∃ (v : Option Value) (τ : qS), oc = .returned v ∧ post v τ ∧ τ.1 = nf ∧ q_H G τ t.heap) ∧ va_F (q_A G) st t
def Ev (G : qG) (M : qM) (d : Nat) (B : Nat × Nat) (pc : Nat) (lv : List (Nat × Value)) (st : List Value) (σ : qS) (post : Option Value → qS → Prop) : Prop :=
  ∀ (p : Program) (l : Launch) (e : Env) (R : Room) (s : State) (m : MethodId) (args : Array Value) (below : List Frame) (meth : Method) (c : Code) (H : Heap) (locs : List Loc) (cells slots : Nat) (ls : Array Slot),
    q_X G M p s m args meth c → d ≤ R.frames → d * 64 ≤ R.locals → cells + B.1 ≤ R.cells → slots + B.2 ≤ R.slots → q_b G ≤ s.heap.size → s.heap.size + cells ≤ q_b G + σ.1 → q_H G σ H → va_S (q_A G) s.heap H locs → lv_has ls M.2.2.1 lv →
    W p l e R s m args below meth c H locs cells slots (MQ below (q_Q G (σ.1 + B.1) post) args s (cells + B.1) (slots + B.2) (q_A G)) (F0 m pc ls st)
def lvg (lv : List (Nat × Value)) (i : Nat) : Option Value := (lv.find? fun q => q.1 == i).map fun q => q.2
def lvs (lv : List (Nat × Value)) (i : Nat) (v : Value) : List (Nat × Value) := (i, v) :: lv.filter fun q => !(q.1 == i) && !(q.1 + 1 == i && q.2.category == 2)
def lvs2 (lv : List (Nat × Value)) (i : Nat) (v : Value) : List (Nat × Value) := (i, v) :: lv.filter fun q => !(q.1 == i) && (!(q.1 == i + 1) && !(q.1 + 1 == i && q.2.category == 2))
theorem lvg_at {ls : Array Slot} {nL : Nat} {lv : List (Nat × Value)} {i : Nat} {v : Value} (h : lv_has ls nL lv) (hi : lvg lv i = some v) : ls[i]? = some (.val v) := by
  unfold lvg at hi
  cases hf : lv.find? (fun q => q.1 == i) with
  | none => rw [hf] at hi; cases hi
  | some q =>
    rw [hf] at hi
    cases hi
    have h1 : q.1 = i := by simpa using List.find?_some hf
    have h2 := h.2.2 q (List.mem_of_find?_eq_some hf)
    rw [h1] at h2
    exact h2

section EvRows
variable {G : qG} {M : qM} {d pc : Nat} {B : Nat × Nat} {lv : List (Nat × Value)} {st : List Value} {σ : qS} {post : Option Value → qS → Prop}
theorem ev_iconst {n : Int} (v : Int32) (hd : decode M.2.1 pc = .ok (.iconst n, 1)) (hv : Int32.ofInt n = v) (k : Ev G M d B (pc + 1) lv (.int v :: st) σ post) : Ev G M d B pc lv st σ post := by
  intro p l e R s m args below meth c H locs cells slots ls X h1 h2 h3 h4 h5 hz hH hS hl
  exact lv_iconst X.1 X.2.1 hd hv (k p l e R s m args below meth c H locs cells slots ls X h1 h2 h3 h4 h5 hz hH hS hl)
theorem ev_bipush {n : Int} (v : Int32) (hd : decode M.2.1 pc = .ok (.bipush n, 2)) (hv : (Int8.ofInt n).toInt32 = v) (k : Ev G M d B (pc + 2) lv (.int v :: st) σ post) : Ev G M d B pc lv st σ post := by
  intro p l e R s m args below meth c H locs cells slots ls X h1 h2 h3 h4 h5 hz hH hS hl
  exact lv_bipush X.1 X.2.1 hd hv (k p l e R s m args below meth c H locs cells slots ls X h1 h2 h3 h4 h5 hz hH hS hl)
theorem ev_sipush {n : Int} (v : Int32) (hd : decode M.2.1 pc = .ok (.sipush n, 3)) (hv : (Int16.ofInt n).toInt32 = v) (k : Ev G M d B (pc + 3) lv (.int v :: st) σ post) : Ev G M d B pc lv st σ post := by
  intro p l e R s m args below meth c H locs cells slots ls X h1 h2 h3 h4 h5 hz hH hS hl
  exact lv_sipush X.1 X.2.1 hd hv (k p l e R s m args below meth c H locs cells slots ls X h1 h2 h3 h4 h5 hz hH hS hl)
theorem ev_lconst {n : Fin 2} (v : Int64) (hd : decode M.2.1 pc = .ok (.lconst n, 1)) (hv : Int64.ofNat (n : Nat) = v) (k : Ev G M d B (pc + 1) lv (.long v :: st) σ post) : Ev G M d B pc lv st σ post := by
  intro p l e R s m args below meth c H locs cells slots ls X h1 h2 h3 h4 h5 hz hH hS hl
  exact lv_lconst X.1 X.2.1 hd hv (k p l e R s m args below meth c H locs cells slots ls X h1 h2 h3 h4 h5 hz hH hS hl)
theorem ev_iload_n {n : Fin 4} {x : Int32} (hd : decode M.2.1 pc = .ok (.iload_n n, 1)) (hi : lvg lv n = some (.int x)) (k : Ev G M d B (pc + 1) lv (.int x :: st) σ post) : Ev G M d B pc lv st σ post := by
  intro p l e R s m args below meth c H locs cells slots ls X h1 h2 h3 h4 h5 hz hH hS hl
  exact lv_iload_n X.1 X.2.1 hd rfl (lvg_at hl hi) (k p l e R s m args below meth c H locs cells slots ls X h1 h2 h3 h4 h5 hz hH hS hl)
theorem ev_iload {n : Nat} {x : Int32} (hd : decode M.2.1 pc = .ok (.iload n, 2)) (hi : lvg lv n = some (.int x)) (k : Ev G M d B (pc + 2) lv (.int x :: st) σ post) : Ev G M d B pc lv st σ post := by
  intro p l e R s m args below meth c H locs cells slots ls X h1 h2 h3 h4 h5 hz hH hS hl
  exact lv_iload X.1 X.2.1 hd (lvg_at hl hi) (k p l e R s m args below meth c H locs cells slots ls X h1 h2 h3 h4 h5 hz hH hS hl)
theorem ev_istore_n {n : Fin 4} {x : Int32} (hd : decode M.2.1 pc = .ok (.istore_n n, 1)) (hn : (n.val) < M.2.2.1) (k : Ev G M d B (pc + 1) (lvs lv n (.int x)) st σ post) : Ev G M d B pc lv (.int x :: st) σ post := by
  intro p l e R s m args below meth c H locs cells slots ls X h1 h2 h3 h4 h5 hz hH hS hl
  exact lv_istore_n X.1 X.2.1 hd rfl hl hn rfl (fun ls hl => k p l e R s m args below meth c H locs cells slots ls X h1 h2 h3 h4 h5 hz hH hS hl)
theorem ev_istore {n : Nat} {x : Int32} (hd : decode M.2.1 pc = .ok (.istore n, 2)) (hn : n < M.2.2.1) (k : Ev G M d B (pc + 2) (lvs lv n (.int x)) st σ post) : Ev G M d B pc lv (.int x :: st) σ post := by
  intro p l e R s m args below meth c H locs cells slots ls X h1 h2 h3 h4 h5 hz hH hS hl
  exact lv_istore X.1 X.2.1 hd hl hn rfl (fun ls hl => k p l e R s m args below meth c H locs cells slots ls X h1 h2 h3 h4 h5 hz hH hS hl)
theorem ev_lload_n {n : Fin 4} {x : Int64} (hd : decode M.2.1 pc = .ok (.lload_n n, 1)) (hi : lvg lv n = some (.long x)) (k : Ev G M d B (pc + 1) lv (.long x :: st) σ post) : Ev G M d B pc lv st σ post := by
  intro p l e R s m args below meth c H locs cells slots ls X h1 h2 h3 h4 h5 hz hH hS hl
  exact lv_lload_n X.1 X.2.1 hd rfl (lvg_at hl hi) (k p l e R s m args below meth c H locs cells slots ls X h1 h2 h3 h4 h5 hz hH hS hl)
theorem ev_lload {n : Nat} {x : Int64} (hd : decode M.2.1 pc = .ok (.lload n, 2)) (hi : lvg lv n = some (.long x)) (k : Ev G M d B (pc + 2) lv (.long x :: st) σ post) : Ev G M d B pc lv st σ post := by
  intro p l e R s m args below meth c H locs cells slots ls X h1 h2 h3 h4 h5 hz hH hS hl
  exact lv_lload X.1 X.2.1 hd (lvg_at hl hi) (k p l e R s m args below meth c H locs cells slots ls X h1 h2 h3 h4 h5 hz hH hS hl)
theorem ev_lstore_n {n : Fin 4} {x : Int64} (hd : decode M.2.1 pc = .ok (.lstore_n n, 1)) (hn : (n.val + 1) < M.2.2.1) (k : Ev G M d B (pc + 1) (lvs2 lv n (.long x)) st σ post) : Ev G M d B pc lv (.long x :: st) σ post := by
  intro p l e R s m args below meth c H locs cells slots ls X h1 h2 h3 h4 h5 hz hH hS hl
  exact lv_lstore_n X.1 X.2.1 hd rfl hl hn rfl (fun ls hl => k p l e R s m args below meth c H locs cells slots ls X h1 h2 h3 h4 h5 hz hH hS hl)
theorem ev_lstore {n : Nat} {x : Int64} (hd : decode M.2.1 pc = .ok (.lstore n, 2)) (hn : n + 1 < M.2.2.1) (k : Ev G M d B (pc + 2) (lvs2 lv n (.long x)) st σ post) : Ev G M d B pc lv (.long x :: st) σ post := by
  intro p l e R s m args below meth c H locs cells slots ls X h1 h2 h3 h4 h5 hz hH hS hl
  exact lv_lstore X.1 X.2.1 hd hl hn rfl (fun ls hl => k p l e R s m args below meth c H locs cells slots ls X h1 h2 h3 h4 h5 hz hH hS hl)
theorem ev_aload_n {n : Fin 4} {x : Nat} (hd : decode M.2.1 pc = .ok (.aload_n n, 1)) (hi : lvg lv n = some (.ref x)) (k : Ev G M d B (pc + 1) lv (.ref x :: st) σ post) : Ev G M d B pc lv st σ post := by
  intro p l e R s m args below meth c H locs cells slots ls X h1 h2 h3 h4 h5 hz hH hS hl
  exact lv_aload_n X.1 X.2.1 hd rfl (lvg_at hl hi) (k p l e R s m args below meth c H locs cells slots ls X h1 h2 h3 h4 h5 hz hH hS hl)
theorem ev_aload {n : Nat} {x : Nat} (hd : decode M.2.1 pc = .ok (.aload n, 2)) (hi : lvg lv n = some (.ref x)) (k : Ev G M d B (pc + 2) lv (.ref x :: st) σ post) : Ev G M d B pc lv st σ post := by
  intro p l e R s m args below meth c H locs cells slots ls X h1 h2 h3 h4 h5 hz hH hS hl
  exact lv_aload X.1 X.2.1 hd (lvg_at hl hi) (k p l e R s m args below meth c H locs cells slots ls X h1 h2 h3 h4 h5 hz hH hS hl)
theorem ev_astore_n {n : Fin 4} {x : Nat} (hd : decode M.2.1 pc = .ok (.astore_n n, 1)) (hn : (n.val) < M.2.2.1) (k : Ev G M d B (pc + 1) (lvs lv n (.ref x)) st σ post) : Ev G M d B pc lv (.ref x :: st) σ post := by
  intro p l e R s m args below meth c H locs cells slots ls X h1 h2 h3 h4 h5 hz hH hS hl
  exact lv_astore_n X.1 X.2.1 hd rfl hl hn rfl (fun ls hl => k p l e R s m args below meth c H locs cells slots ls X h1 h2 h3 h4 h5 hz hH hS hl)
theorem ev_astore {n : Nat} {x : Nat} (hd : decode M.2.1 pc = .ok (.astore n, 2)) (hn : n < M.2.2.1) (k : Ev G M d B (pc + 2) (lvs lv n (.ref x)) st σ post) : Ev G M d B pc lv (.ref x :: st) σ post := by
  intro p l e R s m args below meth c H locs cells slots ls X h1 h2 h3 h4 h5 hz hH hS hl
  exact lv_astore X.1 X.2.1 hd hl hn rfl (fun ls hl => k p l e R s m args below meth c H locs cells slots ls X h1 h2 h3 h4 h5 hz hH hS hl)
theorem ev_iadd {x y : Int32} (hd : decode M.2.1 pc = .ok (.iadd, 1)) (k : Ev G M d B (pc + 1) lv (.int (x + y) :: st) σ post) : Ev G M d B pc lv (.int y :: .int x :: st) σ post := by
  intro p l e R s m args below meth c H locs cells slots ls X h1 h2 h3 h4 h5 hz hH hS hl
  exact lv_iadd X.1 X.2.1 hd (k p l e R s m args below meth c H locs cells slots ls X h1 h2 h3 h4 h5 hz hH hS hl)
theorem ev_isub {x y : Int32} (hd : decode M.2.1 pc = .ok (.isub, 1)) (k : Ev G M d B (pc + 1) lv (.int (x - y) :: st) σ post) : Ev G M d B pc lv (.int y :: .int x :: st) σ post := by
  intro p l e R s m args below meth c H locs cells slots ls X h1 h2 h3 h4 h5 hz hH hS hl
  exact lv_isub X.1 X.2.1 hd (k p l e R s m args below meth c H locs cells slots ls X h1 h2 h3 h4 h5 hz hH hS hl)
theorem ev_imul {x y : Int32} (hd : decode M.2.1 pc = .ok (.imul, 1)) (k : Ev G M d B (pc + 1) lv (.int (x * y) :: st) σ post) : Ev G M d B pc lv (.int y :: .int x :: st) σ post := by
  intro p l e R s m args below meth c H locs cells slots ls X h1 h2 h3 h4 h5 hz hH hS hl
  exact lv_imul X.1 X.2.1 hd (k p l e R s m args below meth c H locs cells slots ls X h1 h2 h3 h4 h5 hz hH hS hl)
theorem ev_iand {x y : Int32} (hd : decode M.2.1 pc = .ok (.iand, 1)) (k : Ev G M d B (pc + 1) lv (.int (x &&& y) :: st) σ post) : Ev G M d B pc lv (.int y :: .int x :: st) σ post := by
  intro p l e R s m args below meth c H locs cells slots ls X h1 h2 h3 h4 h5 hz hH hS hl
  exact lv_iand X.1 X.2.1 hd (k p l e R s m args below meth c H locs cells slots ls X h1 h2 h3 h4 h5 hz hH hS hl)
theorem ev_ior {x y : Int32} (hd : decode M.2.1 pc = .ok (.ior, 1)) (k : Ev G M d B (pc + 1) lv (.int (x ||| y) :: st) σ post) : Ev G M d B pc lv (.int y :: .int x :: st) σ post := by
  intro p l e R s m args below meth c H locs cells slots ls X h1 h2 h3 h4 h5 hz hH hS hl
  exact lv_ior X.1 X.2.1 hd (k p l e R s m args below meth c H locs cells slots ls X h1 h2 h3 h4 h5 hz hH hS hl)
theorem ev_ixor {x y : Int32} (hd : decode M.2.1 pc = .ok (.ixor, 1)) (k : Ev G M d B (pc + 1) lv (.int (x ^^^ y) :: st) σ post) : Ev G M d B pc lv (.int y :: .int x :: st) σ post := by
  intro p l e R s m args below meth c H locs cells slots ls X h1 h2 h3 h4 h5 hz hH hS hl
  exact lv_ixor X.1 X.2.1 hd (k p l e R s m args below meth c H locs cells slots ls X h1 h2 h3 h4 h5 hz hH hS hl)
theorem ev_ishl {x y : Int32} (hd : decode M.2.1 pc = .ok (.ishl, 1)) (k : Ev G M d B (pc + 1) lv (.int (x <<< (y &&& 31)) :: st) σ post) : Ev G M d B pc lv (.int y :: .int x :: st) σ post := by
  intro p l e R s m args below meth c H locs cells slots ls X h1 h2 h3 h4 h5 hz hH hS hl
  exact lv_ishl X.1 X.2.1 hd (k p l e R s m args below meth c H locs cells slots ls X h1 h2 h3 h4 h5 hz hH hS hl)
theorem ev_ishr {x y : Int32} (hd : decode M.2.1 pc = .ok (.ishr, 1)) (k : Ev G M d B (pc + 1) lv (.int (x >>> (y &&& 31)) :: st) σ post) : Ev G M d B pc lv (.int y :: .int x :: st) σ post := by
  intro p l e R s m args below meth c H locs cells slots ls X h1 h2 h3 h4 h5 hz hH hS hl
  exact lv_ishr X.1 X.2.1 hd (k p l e R s m args below meth c H locs cells slots ls X h1 h2 h3 h4 h5 hz hH hS hl)
theorem ev_iushr {x y : Int32} (hd : decode M.2.1 pc = .ok (.iushr, 1)) (k : Ev G M d B (pc + 1) lv (.int (x.toUInt32 >>> (y.toUInt32 &&& Int32.toUInt32 31)).toInt32 :: st) σ post) : Ev G M d B pc lv (.int y :: .int x :: st) σ post := by
  intro p l e R s m args below meth c H locs cells slots ls X h1 h2 h3 h4 h5 hz hH hS hl
  exact lv_iushr X.1 X.2.1 hd rfl (k p l e R s m args below meth c H locs cells slots ls X h1 h2 h3 h4 h5 hz hH hS hl)
theorem ev_idiv {x y : Int32} (hd : decode M.2.1 pc = .ok (.idiv, 1)) (hne : ¬ y = 0) (k : Ev G M d B (pc + 1) lv (.int (x / y) :: st) σ post) : Ev G M d B pc lv (.int y :: .int x :: st) σ post := by
  intro p l e R s m args below meth c H locs cells slots ls X h1 h2 h3 h4 h5 hz hH hS hl
  exact lv_idiv X.1 X.2.1 hd hne (k p l e R s m args below meth c H locs cells slots ls X h1 h2 h3 h4 h5 hz hH hS hl)
theorem ev_irem {x y : Int32} (hd : decode M.2.1 pc = .ok (.irem, 1)) (hne : ¬ y = 0) (k : Ev G M d B (pc + 1) lv (.int (x - x / y * y) :: st) σ post) : Ev G M d B pc lv (.int y :: .int x :: st) σ post := by
  intro p l e R s m args below meth c H locs cells slots ls X h1 h2 h3 h4 h5 hz hH hS hl
  exact lv_irem X.1 X.2.1 hd hne (k p l e R s m args below meth c H locs cells slots ls X h1 h2 h3 h4 h5 hz hH hS hl)
theorem ev_ineg {x : Int32} (hd : decode M.2.1 pc = .ok (.ineg, 1)) (k : Ev G M d B (pc + 1) lv (.int (-x) :: st) σ post) : Ev G M d B pc lv (.int x :: st) σ post := by
  intro p l e R s m args below meth c H locs cells slots ls X h1 h2 h3 h4 h5 hz hH hS hl
  exact lv_ineg X.1 X.2.1 hd (k p l e R s m args below meth c H locs cells slots ls X h1 h2 h3 h4 h5 hz hH hS hl)
theorem ev_ladd {x y : Int64} (hd : decode M.2.1 pc = .ok (.ladd, 1)) (k : Ev G M d B (pc + 1) lv (.long (x + y) :: st) σ post) : Ev G M d B pc lv (.long y :: .long x :: st) σ post := by
  intro p l e R s m args below meth c H locs cells slots ls X h1 h2 h3 h4 h5 hz hH hS hl
  exact lv_ladd X.1 X.2.1 hd (k p l e R s m args below meth c H locs cells slots ls X h1 h2 h3 h4 h5 hz hH hS hl)
theorem ev_lsub {x y : Int64} (hd : decode M.2.1 pc = .ok (.lsub, 1)) (k : Ev G M d B (pc + 1) lv (.long (x - y) :: st) σ post) : Ev G M d B pc lv (.long y :: .long x :: st) σ post := by
  intro p l e R s m args below meth c H locs cells slots ls X h1 h2 h3 h4 h5 hz hH hS hl
  exact lv_lsub X.1 X.2.1 hd (k p l e R s m args below meth c H locs cells slots ls X h1 h2 h3 h4 h5 hz hH hS hl)
theorem ev_lmul {x y : Int64} (hd : decode M.2.1 pc = .ok (.lmul, 1)) (k : Ev G M d B (pc + 1) lv (.long (x * y) :: st) σ post) : Ev G M d B pc lv (.long y :: .long x :: st) σ post := by
  intro p l e R s m args below meth c H locs cells slots ls X h1 h2 h3 h4 h5 hz hH hS hl
  exact lv_lmul X.1 X.2.1 hd (k p l e R s m args below meth c H locs cells slots ls X h1 h2 h3 h4 h5 hz hH hS hl)
theorem ev_lor {x y : Int64} (hd : decode M.2.1 pc = .ok (.lor, 1)) (k : Ev G M d B (pc + 1) lv (.long (x ||| y) :: st) σ post) : Ev G M d B pc lv (.long y :: .long x :: st) σ post := by
  intro p l e R s m args below meth c H locs cells slots ls X h1 h2 h3 h4 h5 hz hH hS hl
  exact lv_lor X.1 X.2.1 hd (k p l e R s m args below meth c H locs cells slots ls X h1 h2 h3 h4 h5 hz hH hS hl)
theorem ev_ldiv {x y : Int64} (hd : decode M.2.1 pc = .ok (.ldiv, 1)) (hne : ¬ y = 0) (k : Ev G M d B (pc + 1) lv (.long (x / y) :: st) σ post) : Ev G M d B pc lv (.long y :: .long x :: st) σ post := by
  intro p l e R s m args below meth c H locs cells slots ls X h1 h2 h3 h4 h5 hz hH hS hl
  exact lv_ldiv X.1 X.2.1 hd hne (k p l e R s m args below meth c H locs cells slots ls X h1 h2 h3 h4 h5 hz hH hS hl)
theorem ev_lshl {x : Int64} {y : Int32} (hd : decode M.2.1 pc = .ok (.lshl, 1)) (k : Ev G M d B (pc + 1) lv (.long (x <<< (y.toInt64 &&& 63)) :: st) σ post) : Ev G M d B pc lv (.int y :: .long x :: st) σ post := by
  intro p l e R s m args below meth c H locs cells slots ls X h1 h2 h3 h4 h5 hz hH hS hl
  exact lv_lshl X.1 X.2.1 hd rfl (k p l e R s m args below meth c H locs cells slots ls X h1 h2 h3 h4 h5 hz hH hS hl)
theorem ev_lcmp {x y : Int64} (hd : decode M.2.1 pc = .ok (.lcmp, 1)) (k : Ev G M d B (pc + 1) lv (.int (lg_cmp x y) :: st) σ post) : Ev G M d B pc lv (.long y :: .long x :: st) σ post := by
  intro p l e R s m args below meth c H locs cells slots ls X h1 h2 h3 h4 h5 hz hH hS hl
  exact W.lcmp X.1 X.2.1 hd (k p l e R s m args below meth c H locs cells slots ls X h1 h2 h3 h4 h5 hz hH hS hl)
theorem ev_i2l {x : Int32} (hd : decode M.2.1 pc = .ok (.i2l, 1)) (k : Ev G M d B (pc + 1) lv (.long x.toInt64 :: st) σ post) : Ev G M d B pc lv (.int x :: st) σ post := by
  intro p l e R s m args below meth c H locs cells slots ls X h1 h2 h3 h4 h5 hz hH hS hl
  exact lv_i2l X.1 X.2.1 hd rfl (k p l e R s m args below meth c H locs cells slots ls X h1 h2 h3 h4 h5 hz hH hS hl)
theorem ev_l2i {x : Int64} (hd : decode M.2.1 pc = .ok (.l2i, 1)) (k : Ev G M d B (pc + 1) lv (.int x.toInt32 :: st) σ post) : Ev G M d B pc lv (.long x :: st) σ post := by
  intro p l e R s m args below meth c H locs cells slots ls X h1 h2 h3 h4 h5 hz hH hS hl
  exact lv_l2i X.1 X.2.1 hd rfl (k p l e R s m args below meth c H locs cells slots ls X h1 h2 h3 h4 h5 hz hH hS hl)
theorem ev_i2b {x : Int32} (hd : decode M.2.1 pc = .ok (.i2b, 1)) (k : Ev G M d B (pc + 1) lv (.int x.toInt8.toInt32 :: st) σ post) : Ev G M d B pc lv (.int x :: st) σ post := by
  intro p l e R s m args below meth c H locs cells slots ls X h1 h2 h3 h4 h5 hz hH hS hl
  exact lv_i2b X.1 X.2.1 hd rfl (k p l e R s m args below meth c H locs cells slots ls X h1 h2 h3 h4 h5 hz hH hS hl)
theorem ev_i2c {x : Int32} (hd : decode M.2.1 pc = .ok (.i2c, 1)) (k : Ev G M d B (pc + 1) lv (.int (x.toUInt32 % 65536).toInt32 :: st) σ post) : Ev G M d B pc lv (.int x :: st) σ post := by
  intro p l e R s m args below meth c H locs cells slots ls X h1 h2 h3 h4 h5 hz hH hS hl
  exact lv_i2c X.1 X.2.1 hd rfl (k p l e R s m args below meth c H locs cells slots ls X h1 h2 h3 h4 h5 hz hH hS hl)
theorem ev_dup {v : Value} (hd : decode M.2.1 pc = .ok (.dup, 1)) (hv : v.category = 1) (k : Ev G M d B (pc + 1) lv (v :: v :: st) σ post) : Ev G M d B pc lv (v :: st) σ post := by
  intro p l e R s m args below meth c H locs cells slots ls X h1 h2 h3 h4 h5 hz hH hS hl
  exact lv_dup X.1 X.2.1 hd hv (k p l e R s m args below meth c H locs cells slots ls X h1 h2 h3 h4 h5 hz hH hS hl)
theorem ev_pop {v : Value} (hd : decode M.2.1 pc = .ok (.pop, 1)) (hv : v.category = 1) (k : Ev G M d B (pc + 1) lv st σ post) : Ev G M d B pc lv (v :: st) σ post := by
  intro p l e R s m args below meth c H locs cells slots ls X h1 h2 h3 h4 h5 hz hH hS hl
  exact lv_pop X.1 X.2.1 hd hv (k p l e R s m args below meth c H locs cells slots ls X h1 h2 h3 h4 h5 hz hH hS hl)
theorem ev_dup_x1 {v w : Value} (hd : decode M.2.1 pc = .ok (.dup_x1, 1)) (hv : v.category = 1) (hw : w.category = 1) (k : Ev G M d B (pc + 1) lv (v :: w :: v :: st) σ post) : Ev G M d B pc lv (v :: w :: st) σ post := by
  intro p l e R s m args below meth c H locs cells slots ls X h1 h2 h3 h4 h5 hz hH hS hl
  exact lv_dup_x1 X.1 X.2.1 hd hv hw (k p l e R s m args below meth c H locs cells slots ls X h1 h2 h3 h4 h5 hz hH hS hl)
theorem ev_dup2_11 {v w : Value} (hd : decode M.2.1 pc = .ok (.dup2, 1)) (hv : v.category = 1) (hw : w.category = 1) (k : Ev G M d B (pc + 1) lv (v :: w :: v :: w :: st) σ post) : Ev G M d B pc lv (v :: w :: st) σ post := by
  intro p l e R s m args below meth c H locs cells slots ls X h1 h2 h3 h4 h5 hz hH hS hl
  exact lv_dup2_11 X.1 X.2.1 hd hv hw (k p l e R s m args below meth c H locs cells slots ls X h1 h2 h3 h4 h5 hz hH hS hl)
theorem ev_dup2_2 {v : Value} (hd : decode M.2.1 pc = .ok (.dup2, 1)) (hv : v.category = 2) (k : Ev G M d B (pc + 1) lv (v :: v :: st) σ post) : Ev G M d B pc lv (v :: st) σ post := by
  intro p l e R s m args below meth c H locs cells slots ls X h1 h2 h3 h4 h5 hz hH hS hl
  exact lv_dup2_2 X.1 X.2.1 hd hv (k p l e R s m args below meth c H locs cells slots ls X h1 h2 h3 h4 h5 hz hH hS hl)
theorem ev_pop2_2 {v : Value} (hd : decode M.2.1 pc = .ok (.pop2, 1)) (hv : v.category = 2) (k : Ev G M d B (pc + 1) lv st σ post) : Ev G M d B pc lv (v :: st) σ post := by
  intro p l e R s m args below meth c H locs cells slots ls X h1 h2 h3 h4 h5 hz hH hS hl
  exact lv_pop2_2 X.1 X.2.1 hd hv (k p l e R s m args below meth c H locs cells slots ls X h1 h2 h3 h4 h5 hz hH hS hl)
theorem ev_pop2_11 {v w : Value} (hd : decode M.2.1 pc = .ok (.pop2, 1)) (hv : v.category = 1) (hw : w.category = 1) (k : Ev G M d B (pc + 1) lv st σ post) : Ev G M d B pc lv (v :: w :: st) σ post := by
  intro p l e R s m args below meth c H locs cells slots ls X h1 h2 h3 h4 h5 hz hH hS hl
  exact lv_pop2_11 X.1 X.2.1 hd hv hw (k p l e R s m args below meth c H locs cells slots ls X h1 h2 h3 h4 h5 hz hH hS hl)
theorem ev_null  (hd : decode M.2.1 pc = .ok (.aconst_null, 1)) (k : Ev G M d B (pc + 1) lv (.null :: st) σ post) : Ev G M d B pc lv st σ post := by
  intro p l e R s m args below meth c H locs cells slots ls X h1 h2 h3 h4 h5 hz hH hS hl
  exact lv_null X.1 X.2.1 hd (k p l e R s m args below meth c H locs cells slots ls X h1 h2 h3 h4 h5 hz hH hS hl)
theorem ev_ldc {i : Nat} (v : Int32) (hd : decode M.2.1 pc = .ok (.ldc i, 2)) (hc : Cond.constant M.1.cls i v ∈ q_Ts G) (k : Ev G M d B (pc + 2) lv (.int v :: st) σ post) : Ev G M d B pc lv st σ post := by
  intro p l e R s m args below meth c H locs cells slots ls X h1 h2 h3 h4 h5 hz hH hS hl
  exact lv_ldc X.1 X.2.1 X.2.2.2.2.2.1 (X.2.2.2.2.2.2.1 _ hc) hd (k p l e R s m args below meth c H locs cells slots ls X h1 h2 h3 h4 h5 hz hH hS hl)
theorem ev_ldcw {i : Nat} (v : Int32) (hd : decode M.2.1 pc = .ok (.ldc_w i, 3)) (hc : Cond.constant M.1.cls i v ∈ q_Ts G) (k : Ev G M d B (pc + 3) lv (.int v :: st) σ post) : Ev G M d B pc lv st σ post := by
  intro p l e R s m args below meth c H locs cells slots ls X h1 h2 h3 h4 h5 hz hH hS hl
  exact lv_ldcw X.1 X.2.1 X.2.2.2.2.2.1 (X.2.2.2.2.2.2.1 _ hc) hd (k p l e R s m args below meth c H locs cells slots ls X h1 h2 h3 h4 h5 hz hH hS hl)
theorem ev_ldc2 {i : Nat} (v : Int64) (hd : decode M.2.1 pc = .ok (.ldc2_w i, 3)) (hc : Cond.constantLong M.1.cls i v ∈ q_Ts G) (k : Ev G M d B (pc + 3) lv (.long v :: st) σ post) : Ev G M d B pc lv st σ post := by
  intro p l e R s m args below meth c H locs cells slots ls X h1 h2 h3 h4 h5 hz hH hS hl
  exact lv_ldc2 X.1 X.2.1 X.2.2.2.2.2.1 (X.2.2.2.2.2.2.1 _ hc) hd (k p l e R s m args below meth c H locs cells slots ls X h1 h2 h3 h4 h5 hz hH hS hl)
theorem ev_iinc {i : Nat} {n : Int} {x : Int32} (hd : decode M.2.1 pc = .ok (.iinc i n, 3)) (hi : lvg lv i = some (.int x)) (hn : i < M.2.2.1) (k : Ev G M d B (pc + 3) (lvs lv i (.int (x + Int32.ofInt n))) st σ post) : Ev G M d B pc lv st σ post := by
  intro p l e R s m args below meth c H locs cells slots ls X h1 h2 h3 h4 h5 hz hH hS hl
  have hi2 : ((i, Value.int x) :: lv)[0]? = some (i, .int x) := rfl
  have hl2 : lv_has ls M.2.2.1 ((i, Value.int x) :: lv) := ⟨hl.1, hl.2.1, fun q hq => by
    rcases List.mem_cons.mp hq with rfl | h
    · exact lvg_at hl hi
    · exact hl.2.2 q h⟩
  refine lv_iinc X.1 X.2.1 hd hl2 hi2 rfl hn rfl (fun ls hl3 => ?_)
  refine k p l e R s m args below meth c H locs cells slots ls X h1 h2 h3 h4 h5 hz hH hS ⟨hl3.1, hl3.2.1, fun q hq => ?_⟩
  refine hl3.2.2 q ?_
  rcases List.mem_cons.mp hq with rfl | h
  · exact List.mem_cons_self
  · refine List.mem_cons_of_mem _ ?_
    rw [List.filter_cons]
    simp only [BEq.rfl, Bool.not_true, Bool.false_and, Bool.false_eq_true, if_false]
    exact h
theorem ev_if_eq {x : Int32} {off : Int} (tgt : Nat) (hd : decode M.2.1 pc = .ok (.ifCond .eq off, 3)) (ht : (pc : Int) + off = (tgt : Int)) (kt : x = 0 → Ev G M d B tgt lv st σ post) (kf : ¬ x = 0 → Ev G M d B (pc + 3) lv st σ post) : Ev G M d B pc lv (.int x :: st) σ post := by
  intro p l e R s m args below meth c H locs cells slots ls X h1 h2 h3 h4 h5 hz hH hS hl
  exact lv_if_eq X.1 X.2.1 hd ht (fun q => kt q p l e R s m args below meth c H locs cells slots ls X h1 h2 h3 h4 h5 hz hH hS hl) (fun q => kf q p l e R s m args below meth c H locs cells slots ls X h1 h2 h3 h4 h5 hz hH hS hl)
theorem ev_icmp_eq {x y : Int32} {off : Int} (tgt : Nat) (hd : decode M.2.1 pc = .ok (.if_icmp .eq off, 3)) (ht : (pc : Int) + off = (tgt : Int)) (kt : x = y → Ev G M d B tgt lv st σ post) (kf : ¬ x = y → Ev G M d B (pc + 3) lv st σ post) : Ev G M d B pc lv (.int y :: .int x :: st) σ post := by
  intro p l e R s m args below meth c H locs cells slots ls X h1 h2 h3 h4 h5 hz hH hS hl
  exact lv_icmp_eq X.1 X.2.1 hd ht (fun q => kt q p l e R s m args below meth c H locs cells slots ls X h1 h2 h3 h4 h5 hz hH hS hl) (fun q => kf q p l e R s m args below meth c H locs cells slots ls X h1 h2 h3 h4 h5 hz hH hS hl)
theorem ev_if_ne {x : Int32} {off : Int} (tgt : Nat) (hd : decode M.2.1 pc = .ok (.ifCond .ne off, 3)) (ht : (pc : Int) + off = (tgt : Int)) (kt : ¬ x = 0 → Ev G M d B tgt lv st σ post) (kf : x = 0 → Ev G M d B (pc + 3) lv st σ post) : Ev G M d B pc lv (.int x :: st) σ post := by
  intro p l e R s m args below meth c H locs cells slots ls X h1 h2 h3 h4 h5 hz hH hS hl
  exact lv_if_ne X.1 X.2.1 hd ht (fun q => kt q p l e R s m args below meth c H locs cells slots ls X h1 h2 h3 h4 h5 hz hH hS hl) (fun q => kf q p l e R s m args below meth c H locs cells slots ls X h1 h2 h3 h4 h5 hz hH hS hl)
theorem ev_icmp_ne {x y : Int32} {off : Int} (tgt : Nat) (hd : decode M.2.1 pc = .ok (.if_icmp .ne off, 3)) (ht : (pc : Int) + off = (tgt : Int)) (kt : ¬ x = y → Ev G M d B tgt lv st σ post) (kf : x = y → Ev G M d B (pc + 3) lv st σ post) : Ev G M d B pc lv (.int y :: .int x :: st) σ post := by
  intro p l e R s m args below meth c H locs cells slots ls X h1 h2 h3 h4 h5 hz hH hS hl
  exact lv_icmp_ne X.1 X.2.1 hd ht (fun q => kt q p l e R s m args below meth c H locs cells slots ls X h1 h2 h3 h4 h5 hz hH hS hl) (fun q => kf q p l e R s m args below meth c H locs cells slots ls X h1 h2 h3 h4 h5 hz hH hS hl)
theorem ev_if_lt {x : Int32} {off : Int} (tgt : Nat) (hd : decode M.2.1 pc = .ok (.ifCond .lt off, 3)) (ht : (pc : Int) + off = (tgt : Int)) (kt : x < 0 → Ev G M d B tgt lv st σ post) (kf : ¬ x < 0 → Ev G M d B (pc + 3) lv st σ post) : Ev G M d B pc lv (.int x :: st) σ post := by
  intro p l e R s m args below meth c H locs cells slots ls X h1 h2 h3 h4 h5 hz hH hS hl
  exact lv_if_lt X.1 X.2.1 hd ht (fun q => kt q p l e R s m args below meth c H locs cells slots ls X h1 h2 h3 h4 h5 hz hH hS hl) (fun q => kf q p l e R s m args below meth c H locs cells slots ls X h1 h2 h3 h4 h5 hz hH hS hl)
theorem ev_icmp_lt {x y : Int32} {off : Int} (tgt : Nat) (hd : decode M.2.1 pc = .ok (.if_icmp .lt off, 3)) (ht : (pc : Int) + off = (tgt : Int)) (kt : x < y → Ev G M d B tgt lv st σ post) (kf : ¬ x < y → Ev G M d B (pc + 3) lv st σ post) : Ev G M d B pc lv (.int y :: .int x :: st) σ post := by
  intro p l e R s m args below meth c H locs cells slots ls X h1 h2 h3 h4 h5 hz hH hS hl
  exact lv_icmp_lt X.1 X.2.1 hd ht (fun q => kt q p l e R s m args below meth c H locs cells slots ls X h1 h2 h3 h4 h5 hz hH hS hl) (fun q => kf q p l e R s m args below meth c H locs cells slots ls X h1 h2 h3 h4 h5 hz hH hS hl)
theorem ev_if_ge {x : Int32} {off : Int} (tgt : Nat) (hd : decode M.2.1 pc = .ok (.ifCond .ge off, 3)) (ht : (pc : Int) + off = (tgt : Int)) (kt : 0 ≤ x → Ev G M d B tgt lv st σ post) (kf : ¬ 0 ≤ x → Ev G M d B (pc + 3) lv st σ post) : Ev G M d B pc lv (.int x :: st) σ post := by
  intro p l e R s m args below meth c H locs cells slots ls X h1 h2 h3 h4 h5 hz hH hS hl
  exact lv_if_ge X.1 X.2.1 hd ht (fun q => kt q p l e R s m args below meth c H locs cells slots ls X h1 h2 h3 h4 h5 hz hH hS hl) (fun q => kf q p l e R s m args below meth c H locs cells slots ls X h1 h2 h3 h4 h5 hz hH hS hl)
theorem ev_icmp_ge {x y : Int32} {off : Int} (tgt : Nat) (hd : decode M.2.1 pc = .ok (.if_icmp .ge off, 3)) (ht : (pc : Int) + off = (tgt : Int)) (kt : y ≤ x → Ev G M d B tgt lv st σ post) (kf : ¬ y ≤ x → Ev G M d B (pc + 3) lv st σ post) : Ev G M d B pc lv (.int y :: .int x :: st) σ post := by
  intro p l e R s m args below meth c H locs cells slots ls X h1 h2 h3 h4 h5 hz hH hS hl
  exact lv_icmp_ge X.1 X.2.1 hd ht (fun q => kt q p l e R s m args below meth c H locs cells slots ls X h1 h2 h3 h4 h5 hz hH hS hl) (fun q => kf q p l e R s m args below meth c H locs cells slots ls X h1 h2 h3 h4 h5 hz hH hS hl)
theorem ev_if_gt {x : Int32} {off : Int} (tgt : Nat) (hd : decode M.2.1 pc = .ok (.ifCond .gt off, 3)) (ht : (pc : Int) + off = (tgt : Int)) (kt : 0 < x → Ev G M d B tgt lv st σ post) (kf : ¬ 0 < x → Ev G M d B (pc + 3) lv st σ post) : Ev G M d B pc lv (.int x :: st) σ post := by
  intro p l e R s m args below meth c H locs cells slots ls X h1 h2 h3 h4 h5 hz hH hS hl
  exact lv_if_gt X.1 X.2.1 hd ht (fun q => kt q p l e R s m args below meth c H locs cells slots ls X h1 h2 h3 h4 h5 hz hH hS hl) (fun q => kf q p l e R s m args below meth c H locs cells slots ls X h1 h2 h3 h4 h5 hz hH hS hl)
theorem ev_icmp_gt {x y : Int32} {off : Int} (tgt : Nat) (hd : decode M.2.1 pc = .ok (.if_icmp .gt off, 3)) (ht : (pc : Int) + off = (tgt : Int)) (kt : y < x → Ev G M d B tgt lv st σ post) (kf : ¬ y < x → Ev G M d B (pc + 3) lv st σ post) : Ev G M d B pc lv (.int y :: .int x :: st) σ post := by
  intro p l e R s m args below meth c H locs cells slots ls X h1 h2 h3 h4 h5 hz hH hS hl
  exact lv_icmp_gt X.1 X.2.1 hd ht (fun q => kt q p l e R s m args below meth c H locs cells slots ls X h1 h2 h3 h4 h5 hz hH hS hl) (fun q => kf q p l e R s m args below meth c H locs cells slots ls X h1 h2 h3 h4 h5 hz hH hS hl)
theorem ev_if_le {x : Int32} {off : Int} (tgt : Nat) (hd : decode M.2.1 pc = .ok (.ifCond .le off, 3)) (ht : (pc : Int) + off = (tgt : Int)) (kt : x ≤ 0 → Ev G M d B tgt lv st σ post) (kf : ¬ x ≤ 0 → Ev G M d B (pc + 3) lv st σ post) : Ev G M d B pc lv (.int x :: st) σ post := by
  intro p l e R s m args below meth c H locs cells slots ls X h1 h2 h3 h4 h5 hz hH hS hl
  exact lv_if_le X.1 X.2.1 hd ht (fun q => kt q p l e R s m args below meth c H locs cells slots ls X h1 h2 h3 h4 h5 hz hH hS hl) (fun q => kf q p l e R s m args below meth c H locs cells slots ls X h1 h2 h3 h4 h5 hz hH hS hl)
theorem ev_icmp_le {x y : Int32} {off : Int} (tgt : Nat) (hd : decode M.2.1 pc = .ok (.if_icmp .le off, 3)) (ht : (pc : Int) + off = (tgt : Int)) (kt : x ≤ y → Ev G M d B tgt lv st σ post) (kf : ¬ x ≤ y → Ev G M d B (pc + 3) lv st σ post) : Ev G M d B pc lv (.int y :: .int x :: st) σ post := by
  intro p l e R s m args below meth c H locs cells slots ls X h1 h2 h3 h4 h5 hz hH hS hl
  exact lv_icmp_le X.1 X.2.1 hd ht (fun q => kt q p l e R s m args below meth c H locs cells slots ls X h1 h2 h3 h4 h5 hz hH hS hl) (fun q => kf q p l e R s m args below meth c H locs cells slots ls X h1 h2 h3 h4 h5 hz hH hS hl)
theorem ev_goto {off : Int} (tgt : Nat) (hd : decode M.2.1 pc = .ok (.goto off, 3)) (ht : (pc : Int) + off = (tgt : Int)) (k : Ev G M d B tgt lv st σ post) : Ev G M d B pc lv st σ post := by
  intro p l e R s m args below meth c H locs cells slots ls X h1 h2 h3 h4 h5 hz hH hS hl
  exact lv_goto X.1 X.2.1 hd ht (k p l e R s m args below meth c H locs cells slots ls X h1 h2 h3 h4 h5 hz hH hS hl)
theorem ev_ifnull {x : Nat} {off : Int} (hd : decode M.2.1 pc = .ok (.ifnull off, 3)) (k : Ev G M d B (pc + 3) lv st σ post) : Ev G M d B pc lv (.ref x :: st) σ post := by
  intro p l e R s m args below meth c H locs cells slots ls X h1 h2 h3 h4 h5 hz hH hS hl
  exact lv_ifnull X.1 X.2.1 hd (k p l e R s m args below meth c H locs cells slots ls X h1 h2 h3 h4 h5 hz hH hS hl)
theorem ev_ifnullN {off : Int} (tgt : Nat) (hd : decode M.2.1 pc = .ok (.ifnull off, 3)) (ht : (pc : Int) + off = (tgt : Int)) (k : Ev G M d B tgt lv st σ post) : Ev G M d B pc lv (.null :: st) σ post := by
  intro p l e R s m args below meth c H locs cells slots ls X h1 h2 h3 h4 h5 hz hH hS hl
  exact lv_ifnullN X.1 X.2.1 hd ht (k p l e R s m args below meth c H locs cells slots ls X h1 h2 h3 h4 h5 hz hH hS hl)
theorem ev_ifnonnull {x : Nat} {off : Int} (tgt : Nat) (hd : decode M.2.1 pc = .ok (.ifnonnull off, 3)) (ht : (pc : Int) + off = (tgt : Int)) (k : Ev G M d B tgt lv st σ post) : Ev G M d B pc lv (.ref x :: st) σ post := by
  intro p l e R s m args below meth c H locs cells slots ls X h1 h2 h3 h4 h5 hz hH hS hl
  exact lv_ifnonnull X.1 X.2.1 hd ht (k p l e R s m args below meth c H locs cells slots ls X h1 h2 h3 h4 h5 hz hH hS hl)
theorem ev_ifnonnullN {off : Int} (hd : decode M.2.1 pc = .ok (.ifnonnull off, 3)) (k : Ev G M d B (pc + 3) lv st σ post) : Ev G M d B pc lv (.null :: st) σ post := by
  intro p l e R s m args below meth c H locs cells slots ls X h1 h2 h3 h4 h5 hz hH hS hl
  exact lv_ifnonnullN X.1 X.2.1 hd (k p l e R s m args below meth c H locs cells slots ls X h1 h2 h3 h4 h5 hz hH hS hl)
theorem ev_tableIn {dflt lo hi : Int} {offs : Array Int} {len : Nat} {x : Int32} {off : Int} (tgt : Nat) (hd : decode M.2.1 pc = .ok (.tableswitch dflt lo hi offs, len)) (q1 : ¬ x.toInt < lo) (q2 : ¬ hi < x.toInt) (ho : offs[(x.toInt - lo).toNat]? = some off) (ht : (pc : Int) + off = (tgt : Int)) (k : Ev G M d B tgt lv st σ post) : Ev G M d B pc lv (.int x :: st) σ post := by
  intro p l e R s m args below meth c H locs cells slots ls X h1 h2 h3 h4 h5 hz hH hS hl
  exact lv_tableIn X.1 X.2.1 hd q1 q2 ho ht (k p l e R s m args below meth c H locs cells slots ls X h1 h2 h3 h4 h5 hz hH hS hl)
theorem ev_tableOut {dflt lo hi : Int} {offs : Array Int} {len : Nat} {x : Int32} (tgt : Nat) (hd : decode M.2.1 pc = .ok (.tableswitch dflt lo hi offs, len)) (q : x.toInt < lo ∨ hi < x.toInt) (ht : (pc : Int) + dflt = (tgt : Int)) (k : Ev G M d B tgt lv st σ post) : Ev G M d B pc lv (.int x :: st) σ post := by
  intro p l e R s m args below meth c H locs cells slots ls X h1 h2 h3 h4 h5 hz hH hS hl
  exact lv_tableOut X.1 X.2.1 hd q ht (k p l e R s m args below meth c H locs cells slots ls X h1 h2 h3 h4 h5 hz hH hS hl)
theorem ev_lookup {dflt : Int} {ps : Array (Int × Int)} {len : Nat} {x : Int32} {off : Int} (tgt : Nat) (hd : decode M.2.1 pc = .ok (.lookupswitch dflt ps, len)) (hp : (ps.toList.zip (ps.toList.drop 1)).all (fun (a, next) => a.1 < next.1) = true) (ho : Op.lookupswitch.offset ps.toList dflt x.toInt = off) (ht : (pc : Int) + off = (tgt : Int)) (k : Ev G M d B tgt lv st σ post) : Ev G M d B pc lv (.int x :: st) σ post := by
  intro p l e R s m args below meth c H locs cells slots ls X h1 h2 h3 h4 h5 hz hH hS hl
  exact lv_lookup X.1 X.2.1 hd hp ho ht (k p l e R s m args below meth c H locs cells slots ls X h1 h2 h3 h4 h5 hz hH hS hl)
/-- fewer locals -/
theorem ev_sub (lv' : List (Nat × Value)) (h : lv'.map (fun q => lvg lv q.1) = lv'.map (fun q => some q.2)) (k : Ev G M d B pc lv' st σ post) : Ev G M d B pc lv st σ post := by
  intro p l e R s m args below meth c H locs cells slots ls X h1 h2 h3 h4 h5 hz hH hS hl
  refine k p l e R s m args below meth c H locs cells slots ls X h1 h2 h3 h4 h5 hz hH hS ⟨hl.1, hl.2.1, fun q hq => ?_⟩
  exact lvg_at hl (List.map_inj_left.mp h q hq)
theorem ev_mono {post' : Option Value → qS → Prop} (h : ∀ v τ, post' v τ → post v τ) (k : Ev G M d B pc lv st σ post') : Ev G M d B pc lv st σ post := by
  intro p l e R s m args below meth c H locs cells slots ls X h1 h2 h3 h4 h5 hz hH hS hl
  intro T hT Y
  obtain ⟨t, a1, oc, b1, b2, ⟨⟨v, τ, c1, c2, cn, c3⟩, c4⟩, b4⟩ := k p l e R s m args below meth c H locs cells slots ls X h1 h2 h3 h4 h5 hz hH hS hl T hT Y
  exact ⟨t, a1, oc, b1, b2, ⟨⟨v, τ, c1, h v τ c2, cn, c3⟩, c4⟩, b4⟩
theorem ev_deep {d' : Nat} (h : d' ≤ d) (k : Ev G M d' B pc lv st σ post) : Ev G M d B pc lv st σ post := by
  intro p l e R s m args below meth c H locs cells slots ls X h1 h2 h3 h4 h5 hz hH hS hl
  exact k p l e R s m args below meth c H locs cells slots ls X (Nat.le_trans h h1) (Nat.le_trans (Nat.mul_le_mul_right 64 h) h2) h3 h4 h5 hz hH hS hl
end EvRows
