/-! Rows for what lies outside the world: String constants, statics, the script. -/
section EvOut
variable {G : qG} {M M' : qM} {d d' pc idx kn : Nat} {B B' B'' : Nat × Nat} {lv : List (Nat × Value)} {st : List Value} {σ : qS} {post post' : Option Value → qS → Prop}
theorem ev_ldcS {a : Nat} {tx : String} (hZ : ∀ s : State, q_E G s → vk_R M.1.cls idx tx a s) (hd : decode M.2.1 pc = .ok (.ldc idx, 2)) (kk : Ev G M d B (pc + 2) lv (.ref a :: st) σ post) : Ev G M d B pc lv st σ post := by
  intro p l e R s m args below meth c H locs cells slots ls X h1 h2 h3 h4 h5 hz hH hS hl
  obtain ⟨hx, hbb, hml, hr, hlk, hown, hts, hK, hE, hnm⟩ := id X
  exact va_ldcS hx hbb hown (hZ s hE) hd (kk p l e R s m args below meth c H locs cells slots ls X h1 h2 h3 h4 h5 hz hH hS hl)
theorem ev_getfE {a : Nat} {C n D : String} {v : Value} (hO : ∀ s : State, q_E G s → va_OF C n D v a (q_A G) s s.heap) (hf : Cond.fieldLink M.1.cls idx C n D ∈ q_Ts G) (hd : decode M.2.1 pc = .ok (.getfield idx, 3)) (kk : Ev G M d B (pc + 3) lv (v :: st) σ post) : Ev G M d B pc lv (.ref a :: st) σ post := by
  intro p l e R s m args below meth c H locs cells slots ls X h1 h2 h3 h4 h5 hz hH hS hl
  obtain ⟨hx, hbb, hml, hr, hlk, hown, hts, hK, hE, hnm⟩ := id X
  exact vk_getf hx hbb (hO s hE) hS hown (hts _ hf) (fun _ h => h) hd (kk p l e R s m args below meth c H locs cells slots ls X h1 h2 h3 h4 h5 hz hH hS hl)
theorem ev_getsE {C n D : String} {v : Value} (hZ : ∀ s : State, q_E G s → va_Z C n D v (q_A G) s s.heap) (hf : Cond.fieldLink M.1.cls idx C n D ∈ q_Ts G) (hd : decode M.2.1 pc = .ok (.getstatic idx, 3)) (kk : Ev G M d B (pc + 3) lv (v :: st) σ post) : Ev G M d B pc lv st σ post := by
  intro p l e R s m args below meth c H locs cells slots ls X h1 h2 h3 h4 h5 hz hH hS hl
  obtain ⟨hx, hbb, hml, hr, hlk, hown, hts, hK, hE, hnm⟩ := id X
  exact va_gets hx hbb (hZ s hE) hS hown (hts _ hf) (fun _ h => h) hd (kk p l e R s m args below meth c H locs cells slots ls X h1 h2 h3 h4 h5 hz hH hS hl)
theorem ev_getsQ {C n D : String} (hZ : ∀ s : State, q_E G s → va_Zq C n D (q_A G) s s.heap) (hf : Cond.fieldLink M.1.cls idx C n D ∈ q_Ts G) (hd : decode M.2.1 pc = .ok (.getstatic idx, 3)) (k0 : Ev G M d B (pc + 3) lv (.null :: st) σ post) (k1 : ∀ t, Ev G M d B (pc + 3) lv (.ref t :: st) σ post) : Ev G M d B pc lv st σ post := by
  intro p l e R s m args below meth c H locs cells slots ls X h1 h2 h3 h4 h5 hz hH hS hl
  obtain ⟨hx, hbb, hml, hr, hlk, hown, hts, hK, hE, hnm⟩ := id X
  rcases hZ s hE with h | ⟨t, h⟩
  · exact va_gets hx hbb h hS hown (hts _ hf) (fun _ h => h) hd (k0 p l e R s m args below meth c H locs cells slots ls X h1 h2 h3 h4 h5 hz hH hS hl)
  · exact va_gets hx hbb h hS hown (hts _ hf) (fun _ h => h) hd (k1 t p l e R s m args below meth c H locs cells slots ls X h1 h2 h3 h4 h5 hz hH hS hl)
theorem ev_tlenE {ty : FieldType} {t N : Nat} {f : Nat → Value} (v : Int32) (hT : ∀ s : State, q_E G s → va_T ty t N f (q_A G) s s.heap) (hv : Int32.ofNat N = v) (hd : decode M.2.1 pc = .ok (.arraylength, 1)) (kk : Ev G M d B (pc + 1) lv (.int v :: st) σ post) : Ev G M d B pc lv (.ref t :: st) σ post := by
  intro p l e R s m args below meth c H locs cells slots ls X h1 h2 h3 h4 h5 hz hH hS hl
  obtain ⟨hx, hbb, hml, hr, hlk, hown, hts, hK, hE, hnm⟩ := id X
  exact va_tlen hx hbb (hT s hE) hS hv hd (kk p l e R s m args below meth c H locs cells slots ls X h1 h2 h3 h4 h5 hz hH hS hl)
theorem ev_tbE {t N : Nat} {f : Nat → Value} {i : Int32} (v : Value) (hT : ∀ s : State, q_E G s → va_T .byte t N f (q_A G) s s.heap) (hin : vp_in i N) (hv : f i.toNatClampNeg = v) (hd : decode M.2.1 pc = .ok (.baload, 1)) (kk : Ev G M d B (pc + 1) lv (v :: st) σ post) : Ev G M d B pc lv (.int i :: .ref t :: st) σ post := by
  intro p l e R s m args below meth c H locs cells slots ls X h1 h2 h3 h4 h5 hz hH hS hl
  obtain ⟨hx, hbb, hml, hr, hlk, hown, hts, hK, hE, hnm⟩ := id X
  exact va_tb hx hbb (hT s hE) hS hin hv hd (kk p l e R s m args below meth c H locs cells slots ls X h1 h2 h3 h4 h5 hz hH hS hl)
theorem ev_tiE {t N : Nat} {f : Nat → Value} {i : Int32} (v : Value) (hT : ∀ s : State, q_E G s → va_T .int t N f (q_A G) s s.heap) (hin : vp_in i N) (hv : f i.toNatClampNeg = v) (hd : decode M.2.1 pc = .ok (.iaload, 1)) (kk : Ev G M d B (pc + 1) lv (v :: st) σ post) : Ev G M d B pc lv (.int i :: .ref t :: st) σ post := by
  intro p l e R s m args below meth c H locs cells slots ls X h1 h2 h3 h4 h5 hz hH hS hl
  obtain ⟨hx, hbb, hml, hr, hlk, hown, hts, hK, hE, hnm⟩ := id X
  exact va_ti hx hbb (hT s hE) hS hin hv hd (kk p l e R s m args below meth c H locs cells slots ls X h1 h2 h3 h4 h5 hz hH hS hl)
theorem ev_callE {a : Nat} {st : List Value} {B : Nat × Nat} (As rest : List Value) (hok : q_ok G) (hM : q_mM G M' kn) (hV : q_mV G M.1.cls idx M') (hO : ∀ s : State, q_E G s → va_O M'.1.cls a (q_A G) s s.heap) (hst : st = As.reverse ++ .ref a :: rest) (hlen : (lg_sl (.ref a :: As)).length ≤ M'.2.2.1) (hn : As.length = kn) (hsum : (rest.map fun v => v.category).sum ≤ 8) (hd : decode M.2.1 pc = .ok (.invokevirtual idx, 3)) (hB : B = (B'.1 + B''.1, B'.2 + B''.2)) (hdd : d' + 1 ≤ d) (h : Ev G M' d' B' 0 (lv_args 0 (.ref a :: As)) [] σ post') (kk : ∀ v τ, post' v τ → Ev G M d B'' (pc + 3) lv (v.toList ++ rest) τ post) : Ev G M d B pc lv st σ post := by
  intro p l e R s m args below meth c H locs cells slots ls X h1 h2 h3 h4 h5 hz hH hS hl
  intro T hT Y
  have hHT : q_H G σ T.heap := by rw [hT]; exact hH
  have hST : va_S (q_A G) s.heap T.heap locs := by rw [hT]; exact hS
  have hsz : H.size = q_b G + σ.1 := by rw [← hT]; exact q_sz Y h5 hz hHT hST
  obtain ⟨hx, hb, hml, hr, hlk, hown, hts, hK, hE, hnm⟩ := id X
  have hR := q_room (B' := B') hM hdd h1 h2
  have hf : cells + B'.1 ≤ R.cells ∧ slots + B'.2 ≤ R.slots := by subst hB; dsimp only at h3 h4; exact ⟨by omega, by omega⟩
  have hT2 : GoodIn (q_Ts G) (wsV M.1.cls idx M'.1.cls M'.1 (q_cw G M')) := by
    intro w hw
    rcases List.mem_append.mp hw with h | h
    · rcases List.mem_cons.mp h with rfl | h
      · exact q_goodw hok hV.1
      rcases List.mem_cons.mp h with rfl | h
      · exact q_goodw hok hV.2.1
      rcases List.mem_cons.mp h with rfl | h
      · exact q_goodw hok hV.2.2
      rcases List.mem_cons.mp h with rfl | h
      · exact q_goodw hok hM.2.2.1
      · cases h
    · exact q_good hok hM w h
  refine q_go (B := B) hB X h1 h2 h3 h4 h5 hz hS hl kk (a := ((.ref a :: As) : List Value).toArray) (va_runV (Ts := q_Ts G) (own := M.1.cls) (C := M'.1.cls) (b := a) (As := As) ⟨hx, hb, hml, hown, hts⟩ (q_met l hM hlen h) (cwV kn hts hT2 rfl rfl rfl ⟨rfl, hM.2.2.2.1.1, hM.2.2.2.1.2, hM.2.2.2.2.1⟩ hR) ⟨q_blind hok _ σ, (let ⟨c9, g1, g2, g3, _⟩ := (hO s hE).kept hS.2.1; ⟨c9, g1, g2, g3⟩), fun U hU hW => q_pre hok hE hS h5 hU hW hK hH hsz⟩ rfl hn hl.1 hst (lv_room hsum) hd hf) T hT Y
end EvOut
def qTx0 : String := "road fort at eats store pan makes serves town of wants price grain cost rate class coin most tax guard and or not year month need days waiting age sacks bought made "
def qTx1 : String := ";()<>=+-*/"
def qLen : List Nat := [165, 10]
def qByt : List (List Int32) := [[114, 111, 97, 100, 32, 102, 111, 114, 116, 32, 97, 116, 32, 101, 97, 116, 115, 32, 115, 116, 111, 114, 101, 32, 112, 97, 110, 32, 109, 97, 107, 101, 115, 32, 115, 101, 114, 118, 101, 115, 32, 116, 111, 119, 110, 32, 111, 102, 32, 119, 97, 110, 116, 115, 32, 112, 114, 105, 99, 101, 32, 103, 114, 97, 105, 110, 32, 99, 111, 115, 116, 32, 114, 97, 116, 101, 32, 99, 108, 97, 115, 115, 32, 99, 111, 105, 110, 32, 109, 111, 115, 116, 32, 116, 97, 120, 32, 103, 117, 97, 114, 100, 32, 97, 110, 100, 32, 111, 114, 32, 110, 111, 116, 32, 121, 101, 97, 114, 32, 109, 111, 110, 116, 104, 32, 110, 101, 101, 100, 32, 100, 97, 121, 115, 32, 119, 97, 105, 116, 105, 110, 103, 32, 97, 103, 101, 32, 115, 97, 99, 107, 115, 32, 98, 111, 117, 103, 104, 116, 32, 109, 97, 100, 101, 32], [59, 40, 41, 60, 62, 61, 43, 45, 42, 47]]
/-- what holds of every state: links of the nest, the Reforms' array, the two texts, the statics that String reads, the script -/
def qEx (b : Nat) (kS vS : Nat → Nat) (xb xl : Nat) (xs : Nat → Int32) (s : State) : Prop :=
  (∀ x ∈ qNL, va_Nw (.methodLinkNest x.1 x.2.1 x.2.2.1 x.2.2.2) s) ∧ va_AO "SaltOffice$Reform" s ∧ (vk_R "SaltOffice$Tape" 48 qTx0 (kS 0) s ∧ vk_R "SaltOffice$Tape" 90 qTx1 (kS 1) s) ∧ vk_S 2 qLen qByt kS vS (fun q => b ≤ q) s s.heap ∧ va_Z "java/lang/String" "COMPACT_STRINGS" "Z" (.int 1) (fun q => b ≤ q) s s.heap ∧ va_Zq "jdk/internal/util/Preconditions" "SIOOBE_FORMATTER" "Ljava/util/function/BiFunction;" (fun q => b ≤ q) s s.heap ∧ va_T .int xb xl (fun j => .int (xs j)) (fun q => b ≤ q) s s.heap
section EX
variable {D : va_G} {cA : FieldType → ClassId} {b : Nat} {kS vS : Nat → Nat} {xb xl : Nat} {xs : Nat → Int32}
theorem qEx_warm (s U : State) (hW : s.WarmedH U.vm) (hq : ∀ q, q < b → U.heap[q]? = s.heap[q]?) (h : qEx b kS vS xb xl xs s) : qEx b kS vS xb xl xs U := by
  obtain ⟨g1, g2, ⟨g3, g4⟩, g5, g6, g7, g8⟩ := h
  have hk : ∀ a : Nat, a < s.heap.size → ¬ (fun q => b ≤ q) a → U.heap[a]? = s.heap[a]? := fun a _ ha => hq a (Nat.not_le.mp ha)
  exact ⟨fun x hx => va_Nw.warmM hW (g1 x hx), va_AO.moved hW.alike g2, ⟨vk_R.warm hW g3, vk_R.warm hW g4⟩, (vk_S.moved hW.alike g5).kept hk, (va_Z.moved hW.alike g6).kept hk, (va_Zq.moved hW.alike g7).kept hk, (va_T.moved hW.alike g8).kept hk⟩
theorem qEx_call (U : State) (g : JFrame) (mk : MethodId) (a : Array Value) (h : qEx b kS vS xb xl xs U) : qEx b kS vS xb xl xs (U.calling g mk a) := by
  obtain ⟨g1, g2, ⟨g3, g4⟩, g5, g6, g7, g8⟩ := h
  have r := Vm.Alike.refl U.vm
  exact ⟨fun x hx => va_Nw.same rfl rfl (g1 x hx), va_AO.moved (u := U) (U := U.calling g mk a) r g2, ⟨vk_R.same (u := U) (U := U.calling g mk a) rfl g3, vk_R.same (u := U) (U := U.calling g mk a) rfl g4⟩, vk_S.moved (u := U) (U := U.calling g mk a) r g5, va_Z.moved (u := U) (U := U.calling g mk a) r g6, va_Zq.moved (u := U) (U := U.calling g mk a) r g7, va_T.moved (u := U) (U := U.calling g mk a) r g8⟩
theorem qEx_ok : q_ok (qGG D cA b (qEx b kS vS xb xl xs)) := qok D cA b _ qEx_warm qEx_call
theorem qEx_EN : qEN (qEx b kS vS xb xl xs) := fun x hx s h => h.1 x hx
theorem qEx_AO : ∀ s : State, qEx b kS vS xb xl xs s → va_AO "SaltOffice$Reform" s := fun s h => h.2.1
theorem qEx_str {i : Nat} (hi : i < 2) : ∀ s : State, qEx b kS vS xb xl xs s → va_O "java/lang/String" (kS i) (fun q => b ≤ q) s s.heap ∧ va_OF "java/lang/String" "coder" "B" (.int 0) (kS i) (fun q => b ≤ q) s s.heap ∧ va_OF "java/lang/String" "value" "[B" (.ref (vS i)) (kS i) (fun q => b ≤ q) s s.heap ∧ va_T .byte (vS i) (qLen.getD i 0) (fun j => .int ((qByt.getD i []).getD j 0)) (fun q => b ≤ q) s s.heap := fun s h => h.2.2.2.1.1 i hi
theorem qLen_lt : ∀ i, i < 2 → qLen.getD i 0 < 2 ^ 31 := by decide
section ST
variable {n : Nat} {sh : Nat → qC} {Rf : Nat → Nat → Option Nat} {I : Nat → Nat → Int32} {L : Nat → Nat → Int64} {post : Option Value → qS → Prop} {i : Nat}
theorem t_coder (hi : i < 2) (hp : post (some (.int 0)) (n, sh, Rf, I, L)) : Ev (qGG D cA b (qEx b kS vS xb xl xs)) mString_coder_7d493 0 (0, 0) 0 (lv_args 0 [.ref (kS i)]) [] (n, sh, Rf, I, L) post := by
  refine ev_getsE (fun s h => h.2.2.2.2.1) (q_t1 46 (by decide +kernel) rfl) dString_coder_7d493_0 ?_
  refine ev_if_eq 13 dString_coder_7d493_3 (by decide) (fun c => absurd c (by decide)) (fun _ => ?_)
  refine ev_aload_n dString_coder_7d493_6 rfl ?_
  refine ev_getfE (fun s h => (qEx_str hi s h).2.1) (q_t10 237 (by decide +kernel) rfl) dString_coder_7d493_7 ?_
  refine ev_goto 14 dString_coder_7d493_10 (by decide) ?_
  exact ev_zret rfl rfl dString_coder_7d493_14 hp
theorem t_latin (hi : i < 2) (hp : post (some (.int 1)) (n, sh, Rf, I, L)) : Ev (qGG D cA b (qEx b kS vS xb xl xs)) mString_isLatin1_aae02 0 (0, 0) 0 (lv_args 0 [.ref (kS i)]) [] (n, sh, Rf, I, L) post := by
  refine ev_getsE (fun s h => h.2.2.2.2.1) (q_t1 46 (by decide +kernel) rfl) dString_isLatin1_aae02_0 ?_
  refine ev_if_eq 17 dString_isLatin1_aae02_3 (by decide) (fun c => absurd c (by decide)) (fun _ => ?_)
  refine ev_aload_n dString_isLatin1_aae02_6 rfl ?_
  refine ev_getfE (fun s h => (qEx_str hi s h).2.1) (q_t10 237 (by decide +kernel) rfl) dString_isLatin1_aae02_7 ?_
  refine ev_if_ne 17 dString_isLatin1_aae02_10 (by decide) (fun c => absurd rfl c) (fun _ => ?_)
  refine ev_iconst (1) dString_isLatin1_aae02_13 (by decide) ?_
  refine ev_goto 18 dString_isLatin1_aae02_14 (by decide) ?_
  exact ev_zret rfl rfl dString_isLatin1_aae02_18 hp
theorem t_length (hi : i < 2) (hp : post (some (.int (nI (qLen.getD i 0)))) (n, sh, Rf, I, L)) : Ev (qGG D cA b (qEx b kS vS xb xl xs)) mString_length_8abf5 1 (0, 0) 0 (lv_args 0 [.ref (kS i)]) [] (n, sh, Rf, I, L) post := by
  refine ev_aload_n dString_length_8abf5_0 rfl ?_
  refine ev_getfE (fun s h => (qEx_str hi s h).2.2.1) (q_t10 236 (by decide +kernel) rfl) dString_length_8abf5_1 ?_
  refine ev_tlenE (nI (qLen.getD i 0)) (fun s h => (qEx_str hi s h).2.2.2) rfl dString_length_8abf5_4 ?_
  refine ev_aload_n dString_length_8abf5_5 rfl ?_
  refine ev_callE (B' := (0, 0)) (B'' := (0, 0)) (post' := fun v τ => v = some (.int 0) ∧ τ = (n, sh, Rf, I, L)) [] [.int (nI (qLen.getD i 0))] qEx_ok mmString_coder_7d493 mk_String_335 (fun s h => (qEx_str hi s h).1) rfl (Nat.le_of_ble_eq_true rfl) rfl (Nat.le_of_ble_eq_true rfl) dString_length_8abf5_6 rfl (by decide) (t_coder hi ⟨rfl, rfl⟩) ?_
  rintro v τ ⟨rfl, rfl⟩
  refine ev_ishr dString_length_8abf5_9 ?_
  rw [sc_shr0 (qLen_lt i hi)]
  exact ev_iret rfl dString_length_8abf5_10 hp
theorem t_pre {x y : Int32} {v : Value} (hx : ¬ x < 0) (hy : x < y) (hp : post (some (.int x)) (n, sh, Rf, I, L)) : Ev (qGG D cA b (qEx b kS vS xb xl xs)) mPreconditions_checkIndex_8e157 0 (0, 0) 0 [(0, .int x), (1, .int y), (2, v)] [] (n, sh, Rf, I, L) post := by
  refine ev_iload_n dPreconditions_checkIndex_8e157_0 rfl ?_
  refine ev_if_lt 9 dPreconditions_checkIndex_8e157_1 (by decide) (fun c => absurd c hx) (fun _ => ?_)
  refine ev_iload_n dPreconditions_checkIndex_8e157_4 rfl ?_
  refine ev_iload_n dPreconditions_checkIndex_8e157_5 rfl ?_
  refine ev_icmp_lt 16 dPreconditions_checkIndex_8e157_6 (by decide) (fun _ => ?_) (fun c => absurd hy c)
  refine ev_iload_n dPreconditions_checkIndex_8e157_16 rfl ?_
  exact ev_iret rfl dPreconditions_checkIndex_8e157_17 hp
theorem t_check {x y : Int32} (hx : ¬ x < 0) (hy : x < y) (hp : post none (n, sh, Rf, I, L)) : Ev (qGG D cA b (qEx b kS vS xb xl xs)) mString_checkIndex_df160 1 (0, 0) 0 (lv_args 0 [.int x, .int y]) [] (n, sh, Rf, I, L) post := by
  refine ev_iload_n dString_checkIndex_df160_0 rfl ?_
  refine ev_iload_n dString_checkIndex_df160_1 rfl ?_
  have kk : ∀ v τ, (v = some (.int x) ∧ τ = (n, sh, Rf, I, L)) → Ev (qGG D cA b (qEx b kS vS xb xl xs)) mString_checkIndex_df160 1 (0, 0) (5 + 3) (lv_args 0 [.int x, .int y]) (v.toList ++ []) τ post := by
    rintro v τ ⟨rfl, rfl⟩
    refine ev_pop dString_checkIndex_df160_8 rfl ?_
    exact ev_vret rfl dString_checkIndex_df160_9 hp
  refine ev_getsQ (fun s h => h.2.2.2.2.2.1) (q_t1 62 (by decide +kernel) rfl) dString_checkIndex_df160_2 ?_ (fun t => ?_)
  · exact ev_callS (B' := (0, 0)) (B'' := (0, 0)) (post' := fun v τ => v = some (.int x) ∧ τ = (n, sh, Rf, I, L)) [.int x, .int y, .null] [] qEx_ok mmPreconditions_checkIndex_8e157 mk_String_1059 rfl (Nat.le_of_ble_eq_true rfl) rfl (Nat.le_of_ble_eq_true rfl) dString_checkIndex_df160_5 rfl (by decide) (t_pre hx hy ⟨rfl, rfl⟩) kk
  · exact ev_callS (B' := (0, 0)) (B'' := (0, 0)) (post' := fun v τ => v = some (.int x) ∧ τ = (n, sh, Rf, I, L)) [.int x, .int y, .ref t] [] qEx_ok mmPreconditions_checkIndex_8e157 mk_String_1059 rfl (Nat.le_of_ble_eq_true rfl) rfl (Nat.le_of_ble_eq_true rfl) dString_checkIndex_df160_5 rfl (by decide) (t_pre hx hy ⟨rfl, rfl⟩) kk
def qCh (i k : Nat) : Int32 := (qByt.getD i []).getD k 0 &&& 255
theorem t_latinAt (hi : i < 2) {k : Nat} (hk : k < qLen.getD i 0) (hp : post (some (.int (qCh i k))) (n, sh, Rf, I, L)) : Ev (qGG D cA b (qEx b kS vS xb xl xs)) mStringLatin1_charAt_3b067 2 (0, 0) 0 (lv_args 0 [.ref (vS i), .int (nI k)]) [] (n, sh, Rf, I, L) post := by
  have h31 := qLen_lt i hi
  refine ev_iload_n dStringLatin1_charAt_3b067_0 rfl ?_
  refine ev_aload_n dStringLatin1_charAt_3b067_1 rfl ?_
  refine ev_tlenE (nI (qLen.getD i 0)) (fun s h => (qEx_str hi s h).2.2.2) rfl dStringLatin1_charAt_3b067_2 ?_
  refine ev_callS (B' := (0, 0)) (B'' := (0, 0)) (post' := fun v τ => v = none ∧ τ = (n, sh, Rf, I, L)) [.int (nI k), .int (nI (qLen.getD i 0))] [] qEx_ok mmString_checkIndex_df160 mk_StringLatin1_9 rfl (Nat.le_of_ble_eq_true rfl) rfl (Nat.le_of_ble_eq_true rfl) dStringLatin1_charAt_3b067_3 rfl (by decide) (t_check (nI_pos (by omega)) (nI_lt hk h31) ⟨rfl, rfl⟩) ?_
  rintro v τ ⟨rfl, rfl⟩
  refine ev_aload_n dStringLatin1_charAt_3b067_6 rfl ?_
  refine ev_iload_n dStringLatin1_charAt_3b067_7 rfl ?_
  refine ev_tbE (.int ((qByt.getD i []).getD k 0)) (fun s h => (qEx_str hi s h).2.2.2) (vp_in_nI hk h31) (by rw [nI_clamp (by omega)]) dStringLatin1_charAt_3b067_8 ?_
  refine ev_sipush (255) dStringLatin1_charAt_3b067_9 (by decide) ?_
  refine ev_iand dStringLatin1_charAt_3b067_12 ?_
  refine ev_i2c dStringLatin1_charAt_3b067_13 ?_
  rw [sc_c2]
  exact ev_zret rfl (sc_nar _) dStringLatin1_charAt_3b067_14 hp
theorem t_charAt (hi : i < 2) {k : Nat} (hk : k < qLen.getD i 0) (hp : post (some (.int (qCh i k))) (n, sh, Rf, I, L)) : Ev (qGG D cA b (qEx b kS vS xb xl xs)) mString_charAt_5068e 3 (0, 0) 0 (lv_args 0 [.ref (kS i), .int (nI k)]) [] (n, sh, Rf, I, L) post := by
  refine ev_aload_n dString_charAt_5068e_0 rfl ?_
  refine ev_callE (d' := 0) (B' := (0, 0)) (B'' := (0, 0)) (post' := fun v τ => v = some (.int 1) ∧ τ = (n, sh, Rf, I, L)) [] [] qEx_ok mmString_isLatin1_aae02 mk_String_492 (fun s h => (qEx_str hi s h).1) rfl (Nat.le_of_ble_eq_true rfl) rfl (Nat.le_of_ble_eq_true rfl) dString_charAt_5068e_1 rfl (by decide) (t_latin hi ⟨rfl, rfl⟩) ?_
  rintro v τ ⟨rfl, rfl⟩
  refine ev_if_eq 16 dString_charAt_5068e_4 (by decide) (fun c => absurd c (by decide)) (fun _ => ?_)
  refine ev_aload_n dString_charAt_5068e_7 rfl ?_
  refine ev_getfE (fun s h => (qEx_str hi s h).2.2.1) (q_t10 236 (by decide +kernel) rfl) dString_charAt_5068e_8 ?_
  refine ev_iload_n dString_charAt_5068e_11 rfl ?_
  refine ev_callS (B' := (0, 0)) (B'' := (0, 0)) (post' := fun v τ => v = some (.int (qCh i k)) ∧ τ = (n, sh, Rf, I, L)) [.ref (vS i), .int (nI k)] [] qEx_ok mmStringLatin1_charAt_3b067 mk_String_495 rfl (Nat.le_of_ble_eq_true rfl) rfl (Nat.le_of_ble_eq_true rfl) dString_charAt_5068e_12 rfl (by decide) (t_latinAt hi hk ⟨rfl, rfl⟩) ?_
  rintro v τ ⟨rfl, rfl⟩
  exact ev_zret rfl (sc_nar _) dString_charAt_5068e_15 hp
end ST
end EX
