/-! The law: a lemma a case; the reference is called in its own window. By program (lawA.py). -/
section LC
variable {D : va_G} {cA : FieldType → ClassId} {b w : Nat} {kS vS : Nat → Nat} {xb xl : Nat} {xs : Nat → Int32} {n : Nat} {sh : Nat → qC} {Rf Rf' : Nat → Nat → Option Nat} {I I' : Nat → Nat → Int32} {L L' : Nat → Nat → Int64} {post : Option Value → qS → Prop} {ox om q : Nat} {R : qRg}
abbrev lwL (xb ox om q : Nat) : List (Nat × Value) := [(0, .ref xb), (1, .ref ox), (2, .ref om), (3, .int (nI q))]
theorem ev_xarg {pc : Nat} {st : List Value} {z : Int} (j : Nat) (d0 : decode code pc = .ok (.aload_n 0, 1)) (d1 : decode code (pc + 1) = .ok (.iload_n 3, 1)) (d2 : decode code (pc + 2) = .ok (.iconst z, 1)) (d3 : decode code (pc + 3) = .ok (.iadd, 1)) (d4 : decode code (pc + 4) = .ok (.iaload, 1)) (hz : Int32.ofInt z = nI j) (hq : q + j < xl) (hxl : xl < 2 ^ 31) (k : Ev (qGG D cA b (qEx b kS vS xb xl xs)) mLaw 110 (0, 0) (pc + 5) (lwL xb ox om q) (.int (xs (q + j)) :: st) (n, sh, Rf, I, L) post) : Ev (qGG D cA b (qEx b kS vS xb xl xs)) mLaw 110 (0, 0) pc (lwL xb ox om q) st (n, sh, Rf, I, L) post := by
  refine ev_aload_n d0 rfl ?_
  refine ev_iload_n d1 rfl ?_
  refine ev_iconst (nI j) d2 hz ?_
  refine ev_iadd d3 ?_
  rw [nI_add]
  exact ev_tiE (.int (xs (q + j))) (fun s h => h.2.2.2.2.2.2) (vp_in_nI hq hxl) (by rw [nI_clamp (by omega)]) d4 k
set_option maxHeartbeats 4000000 in
theorem lw_feed (hq : q + 6 ≤ xl) (hxl : xl < 2 ^ 31) (hw : w ≤ n) (hx : b ≤ ox ∧ ox < b + n ∧ sh ox = .inr 11) (hm : b ≤ om ∧ om < b + n ∧ sh om = .inr 12) (h : Ev (qGG D cA b (qEx b kS vS xb xl xs)) mOffice_feed 109 (0, 0) 0 (lv_args 0 (.ref ox :: [.int (xs (q + 1)), .int (xs (q + 2)), .int (xs (q + 3)), .int (xs (q + 4)), .int (xs (q + 5))])) [] (n, sh, Rf, I, L) (fun v τ => ∃ (r : Int32) (Rf2 : Nat → Nat → Option Nat) (I2 : Nat → Nat → Int32) (L2 : Nat → Nat → Int64), v = some (.int r) ∧ τ = (n, sh, Rf2, I2, L2) ∧ Ev (qGG D cA (b + w) qTr) mModel_feed 109 (0, 0) 0 (lv_args 0 (.ref om :: [.int (xs (q + 1)), .int (xs (q + 2)), .int (xs (q + 3)), .int (xs (q + 4)), .int (xs (q + 5))])) [] (n - w, sh, Rf2, I2, L2) (fun v τ => ∃ (r2 : Int32) (I3 : Nat → Nat → Int32) (L3 : Nat → Nat → Int64), v = some (.int r2) ∧ τ = (n - w, sh, Rf2, I3, L3) ∧ Ev (qGG D cA b (qEx b kS vS xb xl xs)) mLaw 110 (0, 0) 976 (lwL xb ox om q) [] (n, sh, Rf2, gl (b + w) I2 I3, gl (b + w) L2 L3) post))) : Ev (qGG D cA b (qEx b kS vS xb xl xs)) mLaw 110 (0, 0) 144 (lwL xb ox om q) [] (n, sh, Rf, I, L) post := by
  refine ev_aload_n dLaw_144 rfl ?_
  refine ev_xarg 1 dLaw_145 dLaw_146 dLaw_147 dLaw_148 dLaw_149 (by decide) (by omega) hxl ?_
  refine ev_xarg 2 dLaw_150 dLaw_151 dLaw_152 dLaw_153 dLaw_154 (by decide) (by omega) hxl ?_
  refine ev_xarg 3 dLaw_155 dLaw_156 dLaw_157 dLaw_158 dLaw_159 (by decide) (by omega) hxl ?_
  refine ev_xarg 4 dLaw_160 dLaw_161 dLaw_162 dLaw_163 dLaw_164 (by decide) (by omega) hxl ?_
  refine ev_xarg 5 dLaw_165 dLaw_166 dLaw_167 dLaw_168 dLaw_169 (by decide) (by omega) hxl ?_
  refine ev_callV [.int (xs (q + 1)), .int (xs (q + 2)), .int (xs (q + 3)), .int (xs (q + 4)), .int (xs (q + 5))] [] (B' := (0, 0)) (B'' := (0, 0)) qEx_ok mmOffice_feed mk_Law_13 (ci := 11) rfl rfl hx rfl (Nat.le_of_ble_eq_true rfl) rfl (Nat.le_of_ble_eq_true rfl) dLaw_170 rfl (by decide) h ?_
  rintro v τ ⟨r, Rf2, I2, L2, rfl, rfl, h2⟩
  refine ev_pop dLaw_173 rfl ?_
  refine ev_aload_n dLaw_174 rfl ?_
  refine ev_xarg 1 dLaw_175 dLaw_176 dLaw_177 dLaw_178 dLaw_179 (by decide) (by omega) hxl ?_
  refine ev_xarg 2 dLaw_180 dLaw_181 dLaw_182 dLaw_183 dLaw_184 (by decide) (by omega) hxl ?_
  refine ev_xarg 3 dLaw_185 dLaw_186 dLaw_187 dLaw_188 dLaw_189 (by decide) (by omega) hxl ?_
  refine ev_xarg 4 dLaw_190 dLaw_191 dLaw_192 dLaw_193 dLaw_194 (by decide) (by omega) hxl ?_
  refine ev_xarg 5 dLaw_195 dLaw_196 dLaw_197 dLaw_198 dLaw_199 (by decide) (by omega) hxl ?_
  refine ev_callVw (w := w) [.int (xs (q + 1)), .int (xs (q + 2)), .int (xs (q + 3)), .int (xs (q + 4)), .int (xs (q + 5))] [] hw qEx_ok mmModel_feed mk_Law_17 (ci := 12) rfl rfl hm rfl (Nat.le_of_ble_eq_true rfl) rfl (Nat.le_of_ble_eq_true rfl) dLaw_200 (by decide) h2 ?_
  rintro v τ ⟨r2, I3, L3, rfl, rfl, h3⟩
  rw [q_gl_same]
  refine ev_pop dLaw_203 rfl ?_
  exact ev_goto 976 dLaw_204 (by decide) h3
set_option maxHeartbeats 4000000 in
theorem lw_end (hq : q + 6 ≤ xl) (hxl : xl < 2 ^ 31) (hw : w ≤ n) (hx : b ≤ ox ∧ ox < b + n ∧ sh ox = .inr 11) (hm : b ≤ om ∧ om < b + n ∧ sh om = .inr 12) (h : Ev (qGG D cA b (qEx b kS vS xb xl xs)) mOffice_end 109 (0, 0) 0 (lv_args 0 (.ref ox :: [.int (xs (q + 1))])) [] (n, sh, Rf, I, L) (fun v τ => ∃ (r : Int32) (Rf2 : Nat → Nat → Option Nat) (I2 : Nat → Nat → Int32) (L2 : Nat → Nat → Int64), v = some (.int r) ∧ τ = (n, sh, Rf2, I2, L2) ∧ Ev (qGG D cA (b + w) qTr) mModel_end 109 (0, 0) 0 (lv_args 0 (.ref om :: [.int (xs (q + 1))])) [] (n - w, sh, Rf2, I2, L2) (fun v τ => ∃ (r2 : Int32) (I3 : Nat → Nat → Int32) (L3 : Nat → Nat → Int64), v = some (.int r2) ∧ τ = (n - w, sh, Rf2, I3, L3) ∧ Ev (qGG D cA b (qEx b kS vS xb xl xs)) mLaw 110 (0, 0) 976 (lwL xb ox om q) [] (n, sh, Rf2, gl (b + w) I2 I3, gl (b + w) L2 L3) post))) : Ev (qGG D cA b (qEx b kS vS xb xl xs)) mLaw 110 (0, 0) 207 (lwL xb ox om q) [] (n, sh, Rf, I, L) post := by
  refine ev_aload_n dLaw_207 rfl ?_
  refine ev_xarg 1 dLaw_208 dLaw_209 dLaw_210 dLaw_211 dLaw_212 (by decide) (by omega) hxl ?_
  refine ev_callV [.int (xs (q + 1))] [] (B' := (0, 0)) (B'' := (0, 0)) qEx_ok mmOffice_end mk_Law_18 (ci := 11) rfl rfl hx rfl (Nat.le_of_ble_eq_true rfl) rfl (Nat.le_of_ble_eq_true rfl) dLaw_213 rfl (by decide) h ?_
  rintro v τ ⟨r, Rf2, I2, L2, rfl, rfl, h2⟩
  refine ev_pop dLaw_216 rfl ?_
  refine ev_aload_n dLaw_217 rfl ?_
  refine ev_xarg 1 dLaw_218 dLaw_219 dLaw_220 dLaw_221 dLaw_222 (by decide) (by omega) hxl ?_
  refine ev_callVw (w := w) [.int (xs (q + 1))] [] hw qEx_ok mmModel_end mk_Law_22 (ci := 12) rfl rfl hm rfl (Nat.le_of_ble_eq_true rfl) rfl (Nat.le_of_ble_eq_true rfl) dLaw_223 (by decide) h2 ?_
  rintro v τ ⟨r2, I3, L3, rfl, rfl, h3⟩
  rw [q_gl_same]
  refine ev_pop dLaw_226 rfl ?_
  exact ev_goto 976 dLaw_227 (by decide) h3
set_option maxHeartbeats 4000000 in
theorem lw_land (hq : q + 6 ≤ xl) (hxl : xl < 2 ^ 31) (hw : w ≤ n) (hx : b ≤ ox ∧ ox < b + n ∧ sh ox = .inr 11) (hm : b ≤ om ∧ om < b + n ∧ sh om = .inr 12) (h : Ev (qGG D cA b (qEx b kS vS xb xl xs)) mOffice_land 109 (0, 0) 0 (lv_args 0 (.ref ox :: [])) [] (n, sh, Rf, I, L) (fun v τ => ∃ (r : Int32) (Rf2 : Nat → Nat → Option Nat) (I2 : Nat → Nat → Int32) (L2 : Nat → Nat → Int64), v = some (.int r) ∧ τ = (n, sh, Rf2, I2, L2) ∧ Ev (qGG D cA (b + w) qTr) mModel_land 109 (0, 0) 0 (lv_args 0 (.ref om :: [])) [] (n - w, sh, Rf2, I2, L2) (fun v τ => ∃ (r2 : Int32) (I3 : Nat → Nat → Int32) (L3 : Nat → Nat → Int64), v = some (.int r2) ∧ τ = (n - w, sh, Rf2, I3, L3) ∧ Ev (qGG D cA b (qEx b kS vS xb xl xs)) mLaw 110 (0, 0) 976 (lwL xb ox om q) [] (n, sh, Rf2, gl (b + w) I2 I3, gl (b + w) L2 L3) post))) : Ev (qGG D cA b (qEx b kS vS xb xl xs)) mLaw 110 (0, 0) 230 (lwL xb ox om q) [] (n, sh, Rf, I, L) post := by
  refine ev_aload_n dLaw_230 rfl ?_
  refine ev_callV [] [] (B' := (0, 0)) (B'' := (0, 0)) qEx_ok mmOffice_land mk_Law_23 (ci := 11) rfl rfl hx rfl (Nat.le_of_ble_eq_true rfl) rfl (Nat.le_of_ble_eq_true rfl) dLaw_231 rfl (by decide) h ?_
  rintro v τ ⟨r, Rf2, I2, L2, rfl, rfl, h2⟩
  refine ev_pop dLaw_234 rfl ?_
  refine ev_aload_n dLaw_235 rfl ?_
  refine ev_callVw (w := w) [] [] hw qEx_ok mmModel_land mk_Law_27 (ci := 12) rfl rfl hm rfl (Nat.le_of_ble_eq_true rfl) rfl (Nat.le_of_ble_eq_true rfl) dLaw_236 (by decide) h2 ?_
  rintro v τ ⟨r2, I3, L3, rfl, rfl, h3⟩
  rw [q_gl_same]
  refine ev_pop dLaw_239 rfl ?_
  exact ev_goto 976 dLaw_240 (by decide) h3
set_option maxHeartbeats 4000000 in
theorem lw_reform (hq : q + 6 ≤ xl) (hxl : xl < 2 ^ 31) (hw : w ≤ n) (hx : b ≤ ox ∧ ox < b + n ∧ sh ox = .inr 11) (hm : b ≤ om ∧ om < b + n ∧ sh om = .inr 12) (h : Ev (qGG D cA b (qEx b kS vS xb xl xs)) mOffice_reform 109 (0, 0) 0 (lv_args 0 (.ref ox :: [.int (xs (q + 1))])) [] (n, sh, Rf, I, L) (fun v τ => ∃ (r : Int32) (Rf2 : Nat → Nat → Option Nat) (I2 : Nat → Nat → Int32) (L2 : Nat → Nat → Int64), v = some (.int r) ∧ τ = (n, sh, Rf2, I2, L2) ∧ Ev (qGG D cA (b + w) qTr) mModel_reform 109 (0, 0) 0 (lv_args 0 (.ref om :: [.int (xs (q + 1))])) [] (n - w, sh, Rf2, I2, L2) (fun v τ => ∃ (r2 : Int32) (I3 : Nat → Nat → Int32) (L3 : Nat → Nat → Int64), v = some (.int r2) ∧ τ = (n - w, sh, Rf2, I3, L3) ∧ Ev (qGG D cA b (qEx b kS vS xb xl xs)) mLaw 110 (0, 0) 976 (lwL xb ox om q) [] (n, sh, Rf2, gl (b + w) I2 I3, gl (b + w) L2 L3) post))) : Ev (qGG D cA b (qEx b kS vS xb xl xs)) mLaw 110 (0, 0) 243 (lwL xb ox om q) [] (n, sh, Rf, I, L) post := by
  refine ev_aload_n dLaw_243 rfl ?_
  refine ev_xarg 1 dLaw_244 dLaw_245 dLaw_246 dLaw_247 dLaw_248 (by decide) (by omega) hxl ?_
  refine ev_callV [.int (xs (q + 1))] [] (B' := (0, 0)) (B'' := (0, 0)) qEx_ok mmOffice_reform mk_Law_28 (ci := 11) rfl rfl hx rfl (Nat.le_of_ble_eq_true rfl) rfl (Nat.le_of_ble_eq_true rfl) dLaw_249 rfl (by decide) h ?_
  rintro v τ ⟨r, Rf2, I2, L2, rfl, rfl, h2⟩
  refine ev_pop dLaw_252 rfl ?_
  refine ev_aload_n dLaw_253 rfl ?_
  refine ev_xarg 1 dLaw_254 dLaw_255 dLaw_256 dLaw_257 dLaw_258 (by decide) (by omega) hxl ?_
  refine ev_callVw (w := w) [.int (xs (q + 1))] [] hw qEx_ok mmModel_reform mk_Law_31 (ci := 12) rfl rfl hm rfl (Nat.le_of_ble_eq_true rfl) rfl (Nat.le_of_ble_eq_true rfl) dLaw_259 (by decide) h2 ?_
  rintro v τ ⟨r2, I3, L3, rfl, rfl, h3⟩
  rw [q_gl_same]
  refine ev_pop dLaw_262 rfl ?_
  exact ev_goto 976 dLaw_263 (by decide) h3
set_option maxHeartbeats 4000000 in
theorem lw_fault (hq : q + 6 ≤ xl) (hxl : xl < 2 ^ 31) (hw : w ≤ n) (hx : b ≤ ox ∧ ox < b + n ∧ sh ox = .inr 11) (hm : b ≤ om ∧ om < b + n ∧ sh om = .inr 12) (h : Ev (qGG D cA b (qEx b kS vS xb xl xs)) mOffice_fault 109 (0, 0) 0 (lv_args 0 (.ref ox :: [.int (xs (q + 1))])) [] (n, sh, Rf, I, L) (fun v τ => ∃ (r : Int32) (Rf2 : Nat → Nat → Option Nat) (I2 : Nat → Nat → Int32) (L2 : Nat → Nat → Int64), v = some (.int r) ∧ τ = (n, sh, Rf2, I2, L2) ∧ Ev (qGG D cA (b + w) qTr) mModel_fault 109 (0, 0) 0 (lv_args 0 (.ref om :: [.int (xs (q + 1))])) [] (n - w, sh, Rf2, I2, L2) (fun v τ => ∃ (I3 : Nat → Nat → Int32) (L3 : Nat → Nat → Int64), v = some (.int r) ∧ τ = (n - w, sh, Rf2, I3, L3) ∧ Ev (qGG D cA b (qEx b kS vS xb xl xs)) mLaw 110 (0, 0) 976 (lwL xb ox om q) [] (n, sh, Rf2, gl (b + w) I2 I3, gl (b + w) L2 L3) post))) : Ev (qGG D cA b (qEx b kS vS xb xl xs)) mLaw 110 (0, 0) 266 (lwL xb ox om q) [] (n, sh, Rf, I, L) post := by
  refine ev_aload_n dLaw_266 rfl ?_
  refine ev_xarg 1 dLaw_267 dLaw_268 dLaw_269 dLaw_270 dLaw_271 (by decide) (by omega) hxl ?_
  refine ev_callV [.int (xs (q + 1))] [] (B' := (0, 0)) (B'' := (0, 0)) qEx_ok mmOffice_fault mk_Law_32 (ci := 11) rfl rfl hx rfl (Nat.le_of_ble_eq_true rfl) rfl (Nat.le_of_ble_eq_true rfl) dLaw_272 rfl (by decide) h ?_
  rintro v τ ⟨r, Rf2, I2, L2, rfl, rfl, h2⟩
  refine ev_aload_n dLaw_275 rfl ?_
  refine ev_xarg 1 dLaw_276 dLaw_277 dLaw_278 dLaw_279 dLaw_280 (by decide) (by omega) hxl ?_
  refine ev_callVw (w := w) [.int (xs (q + 1))] [.int r] hw qEx_ok mmModel_fault mk_Law_35 (ci := 12) rfl rfl hm rfl (Nat.le_of_ble_eq_true rfl) rfl (Nat.le_of_ble_eq_true rfl) dLaw_281 (by decide) h2 ?_
  rintro v τ ⟨I3, L3, rfl, rfl, h3⟩
  rw [q_gl_same]
  exact ev_icmp_eq 976 dLaw_284 (by decide) (fun _ => h3) (fun c => absurd rfl c)
set_option maxHeartbeats 4000000 in
theorem lw_days (hq : q + 6 ≤ xl) (hxl : xl < 2 ^ 31) (hw : w ≤ n) (hx : b ≤ ox ∧ ox < b + n ∧ sh ox = .inr 11) (hm : b ≤ om ∧ om < b + n ∧ sh om = .inr 12) (h : Ev (qGG D cA b (qEx b kS vS xb xl xs)) mOffice_days 109 (0, 0) 0 (lv_args 0 (.ref ox :: [.int (xs (q + 1)), .int (xs (q + 2))])) [] (n, sh, Rf, I, L) (fun v τ => ∃ (r : Int32) (Rf2 : Nat → Nat → Option Nat) (I2 : Nat → Nat → Int32) (L2 : Nat → Nat → Int64), v = some (.int r) ∧ τ = (n, sh, Rf2, I2, L2) ∧ Ev (qGG D cA (b + w) qTr) mModel_days 109 (0, 0) 0 (lv_args 0 (.ref om :: [.int (xs (q + 1)), .int (xs (q + 2))])) [] (n - w, sh, Rf2, I2, L2) (fun v τ => ∃ (r2 : Int32) (I3 : Nat → Nat → Int32) (L3 : Nat → Nat → Int64), v = some (.int r2) ∧ τ = (n - w, sh, Rf2, I3, L3) ∧ Ev (qGG D cA b (qEx b kS vS xb xl xs)) mLaw 110 (0, 0) 976 (lwL xb ox om q) [] (n, sh, Rf2, gl (b + w) I2 I3, gl (b + w) L2 L3) post))) : Ev (qGG D cA b (qEx b kS vS xb xl xs)) mLaw 110 (0, 0) 289 (lwL xb ox om q) [] (n, sh, Rf, I, L) post := by
  refine ev_aload_n dLaw_289 rfl ?_
  refine ev_xarg 1 dLaw_290 dLaw_291 dLaw_292 dLaw_293 dLaw_294 (by decide) (by omega) hxl ?_
  refine ev_xarg 2 dLaw_295 dLaw_296 dLaw_297 dLaw_298 dLaw_299 (by decide) (by omega) hxl ?_
  refine ev_callV [.int (xs (q + 1)), .int (xs (q + 2))] [] (B' := (0, 0)) (B'' := (0, 0)) qEx_ok mmOffice_days mk_Law_36 (ci := 11) rfl rfl hx rfl (Nat.le_of_ble_eq_true rfl) rfl (Nat.le_of_ble_eq_true rfl) dLaw_300 rfl (by decide) h ?_
  rintro v τ ⟨r, Rf2, I2, L2, rfl, rfl, h2⟩
  refine ev_pop dLaw_303 rfl ?_
  refine ev_aload_n dLaw_304 rfl ?_
  refine ev_xarg 1 dLaw_305 dLaw_306 dLaw_307 dLaw_308 dLaw_309 (by decide) (by omega) hxl ?_
  refine ev_xarg 2 dLaw_310 dLaw_311 dLaw_312 dLaw_313 dLaw_314 (by decide) (by omega) hxl ?_
  refine ev_callVw (w := w) [.int (xs (q + 1)), .int (xs (q + 2))] [] hw qEx_ok mmModel_days mk_Law_40 (ci := 12) rfl rfl hm rfl (Nat.le_of_ble_eq_true rfl) rfl (Nat.le_of_ble_eq_true rfl) dLaw_315 (by decide) h2 ?_
  rintro v τ ⟨r2, I3, L3, rfl, rfl, h3⟩
  rw [q_gl_same]
  refine ev_pop dLaw_318 rfl ?_
  exact ev_goto 976 dLaw_319 (by decide) h3
set_option maxHeartbeats 4000000 in
theorem lw_merchant (hq : q + 6 ≤ xl) (hxl : xl < 2 ^ 31) (hw : w ≤ n) (hx : b ≤ ox ∧ ox < b + n ∧ sh ox = .inr 11) (hm : b ≤ om ∧ om < b + n ∧ sh om = .inr 12) (h : Ev (qGG D cA b (qEx b kS vS xb xl xs)) mOffice_merchant 109 (0, 0) 0 (lv_args 0 (.ref ox :: [.int (xs (q + 1))])) [] (n, sh, Rf, I, L) (fun v τ => ∃ (r : Int32) (Rf2 : Nat → Nat → Option Nat) (I2 : Nat → Nat → Int32) (L2 : Nat → Nat → Int64), v = some (.int r) ∧ τ = (n, sh, Rf2, I2, L2) ∧ Ev (qGG D cA (b + w) qTr) mModel_merchant 109 (0, 0) 0 (lv_args 0 (.ref om :: [.int (xs (q + 1))])) [] (n - w, sh, Rf2, I2, L2) (fun v τ => ∃ (r2 : Int32) (I3 : Nat → Nat → Int32) (L3 : Nat → Nat → Int64), v = some (.int r2) ∧ τ = (n - w, sh, Rf2, I3, L3) ∧ Ev (qGG D cA b (qEx b kS vS xb xl xs)) mLaw 110 (0, 0) 976 (lwL xb ox om q) [] (n, sh, Rf2, gl (b + w) I2 I3, gl (b + w) L2 L3) post))) : Ev (qGG D cA b (qEx b kS vS xb xl xs)) mLaw 110 (0, 0) 322 (lwL xb ox om q) [] (n, sh, Rf, I, L) post := by
  refine ev_aload_n dLaw_322 rfl ?_
  refine ev_xarg 1 dLaw_323 dLaw_324 dLaw_325 dLaw_326 dLaw_327 (by decide) (by omega) hxl ?_
  refine ev_callV [.int (xs (q + 1))] [] (B' := (0, 0)) (B'' := (0, 0)) qEx_ok mmOffice_merchant mk_Law_41 (ci := 11) rfl rfl hx rfl (Nat.le_of_ble_eq_true rfl) rfl (Nat.le_of_ble_eq_true rfl) dLaw_328 rfl (by decide) h ?_
  rintro v τ ⟨r, Rf2, I2, L2, rfl, rfl, h2⟩
  refine ev_pop dLaw_331 rfl ?_
  refine ev_aload_n dLaw_332 rfl ?_
  refine ev_xarg 1 dLaw_333 dLaw_334 dLaw_335 dLaw_336 dLaw_337 (by decide) (by omega) hxl ?_
  refine ev_callVw (w := w) [.int (xs (q + 1))] [] hw qEx_ok mmModel_merchant mk_Law_44 (ci := 12) rfl rfl hm rfl (Nat.le_of_ble_eq_true rfl) rfl (Nat.le_of_ble_eq_true rfl) dLaw_338 (by decide) h2 ?_
  rintro v τ ⟨r2, I3, L3, rfl, rfl, h3⟩
  rw [q_gl_same]
  refine ev_pop dLaw_341 rfl ?_
  exact ev_goto 976 dLaw_342 (by decide) h3
set_option maxHeartbeats 4000000 in
theorem lw_costs (hq : q + 6 ≤ xl) (hxl : xl < 2 ^ 31) (hw : w ≤ n) (hx : b ≤ ox ∧ ox < b + n ∧ sh ox = .inr 11) (hm : b ≤ om ∧ om < b + n ∧ sh om = .inr 12) (h : Ev (qGG D cA b (qEx b kS vS xb xl xs)) mOffice_costs 109 (0, 0) 0 (lv_args 0 (.ref ox :: [.int (xs (q + 1)), .int (xs (q + 2)), .int (xs (q + 3)), .int (xs (q + 4)), .int (xs (q + 5))])) [] (n, sh, Rf, I, L) (fun v τ => ∃ (r : Int32) (Rf2 : Nat → Nat → Option Nat) (I2 : Nat → Nat → Int32) (L2 : Nat → Nat → Int64), v = some (.int r) ∧ τ = (n, sh, Rf2, I2, L2) ∧ Ev (qGG D cA (b + w) qTr) mModel_costs 109 (0, 0) 0 (lv_args 0 (.ref om :: [.int (xs (q + 1)), .int (xs (q + 2)), .int (xs (q + 3)), .int (xs (q + 4)), .int (xs (q + 5))])) [] (n - w, sh, Rf2, I2, L2) (fun v τ => ∃ (r2 : Int32) (I3 : Nat → Nat → Int32) (L3 : Nat → Nat → Int64), v = some (.int r2) ∧ τ = (n - w, sh, Rf2, I3, L3) ∧ Ev (qGG D cA b (qEx b kS vS xb xl xs)) mLaw 110 (0, 0) 976 (lwL xb ox om q) [] (n, sh, Rf2, gl (b + w) I2 I3, gl (b + w) L2 L3) post))) : Ev (qGG D cA b (qEx b kS vS xb xl xs)) mLaw 110 (0, 0) 345 (lwL xb ox om q) [] (n, sh, Rf, I, L) post := by
  refine ev_aload_n dLaw_345 rfl ?_
  refine ev_xarg 1 dLaw_346 dLaw_347 dLaw_348 dLaw_349 dLaw_350 (by decide) (by omega) hxl ?_
  refine ev_xarg 2 dLaw_351 dLaw_352 dLaw_353 dLaw_354 dLaw_355 (by decide) (by omega) hxl ?_
  refine ev_xarg 3 dLaw_356 dLaw_357 dLaw_358 dLaw_359 dLaw_360 (by decide) (by omega) hxl ?_
  refine ev_xarg 4 dLaw_361 dLaw_362 dLaw_363 dLaw_364 dLaw_365 (by decide) (by omega) hxl ?_
  refine ev_xarg 5 dLaw_366 dLaw_367 dLaw_368 dLaw_369 dLaw_370 (by decide) (by omega) hxl ?_
  refine ev_callV [.int (xs (q + 1)), .int (xs (q + 2)), .int (xs (q + 3)), .int (xs (q + 4)), .int (xs (q + 5))] [] (B' := (0, 0)) (B'' := (0, 0)) qEx_ok mmOffice_costs mk_Law_45 (ci := 11) rfl rfl hx rfl (Nat.le_of_ble_eq_true rfl) rfl (Nat.le_of_ble_eq_true rfl) dLaw_371 rfl (by decide) h ?_
  rintro v τ ⟨r, Rf2, I2, L2, rfl, rfl, h2⟩
  refine ev_pop dLaw_374 rfl ?_
  refine ev_aload_n dLaw_375 rfl ?_
  refine ev_xarg 1 dLaw_376 dLaw_377 dLaw_378 dLaw_379 dLaw_380 (by decide) (by omega) hxl ?_
  refine ev_xarg 2 dLaw_381 dLaw_382 dLaw_383 dLaw_384 dLaw_385 (by decide) (by omega) hxl ?_
  refine ev_xarg 3 dLaw_386 dLaw_387 dLaw_388 dLaw_389 dLaw_390 (by decide) (by omega) hxl ?_
  refine ev_xarg 4 dLaw_391 dLaw_392 dLaw_393 dLaw_394 dLaw_395 (by decide) (by omega) hxl ?_
  refine ev_xarg 5 dLaw_396 dLaw_397 dLaw_398 dLaw_399 dLaw_400 (by decide) (by omega) hxl ?_
  refine ev_callVw (w := w) [.int (xs (q + 1)), .int (xs (q + 2)), .int (xs (q + 3)), .int (xs (q + 4)), .int (xs (q + 5))] [] hw qEx_ok mmModel_costs mk_Law_49 (ci := 12) rfl rfl hm rfl (Nat.le_of_ble_eq_true rfl) rfl (Nat.le_of_ble_eq_true rfl) dLaw_401 (by decide) h2 ?_
  rintro v τ ⟨r2, I3, L3, rfl, rfl, h3⟩
  rw [q_gl_same]
  refine ev_pop dLaw_404 rfl ?_
  exact ev_goto 976 dLaw_405 (by decide) h3
set_option maxHeartbeats 4000000 in
theorem lw_weather (hq : q + 6 ≤ xl) (hxl : xl < 2 ^ 31) (hw : w ≤ n) (hx : b ≤ ox ∧ ox < b + n ∧ sh ox = .inr 11) (hm : b ≤ om ∧ om < b + n ∧ sh om = .inr 12) (h : Ev (qGG D cA b (qEx b kS vS xb xl xs)) mOffice_weather 109 (0, 0) 0 (lv_args 0 (.ref ox :: [.int (xs (q + 1)), .int (xs (q + 2)), .int (xs (q + 3))])) [] (n, sh, Rf, I, L) (fun v τ => ∃ (r : Int32) (Rf2 : Nat → Nat → Option Nat) (I2 : Nat → Nat → Int32) (L2 : Nat → Nat → Int64), v = some (.int r) ∧ τ = (n, sh, Rf2, I2, L2) ∧ Ev (qGG D cA (b + w) qTr) mModel_weather 109 (0, 0) 0 (lv_args 0 (.ref om :: [.int (xs (q + 1)), .int (xs (q + 2)), .int (xs (q + 3))])) [] (n - w, sh, Rf2, I2, L2) (fun v τ => ∃ (r2 : Int32) (I3 : Nat → Nat → Int32) (L3 : Nat → Nat → Int64), v = some (.int r2) ∧ τ = (n - w, sh, Rf2, I3, L3) ∧ Ev (qGG D cA b (qEx b kS vS xb xl xs)) mLaw 110 (0, 0) 976 (lwL xb ox om q) [] (n, sh, Rf2, gl (b + w) I2 I3, gl (b + w) L2 L3) post))) : Ev (qGG D cA b (qEx b kS vS xb xl xs)) mLaw 110 (0, 0) 408 (lwL xb ox om q) [] (n, sh, Rf, I, L) post := by
  refine ev_aload_n dLaw_408 rfl ?_
  refine ev_xarg 1 dLaw_409 dLaw_410 dLaw_411 dLaw_412 dLaw_413 (by decide) (by omega) hxl ?_
  refine ev_xarg 2 dLaw_414 dLaw_415 dLaw_416 dLaw_417 dLaw_418 (by decide) (by omega) hxl ?_
  refine ev_xarg 3 dLaw_419 dLaw_420 dLaw_421 dLaw_422 dLaw_423 (by decide) (by omega) hxl ?_
  refine ev_callV [.int (xs (q + 1)), .int (xs (q + 2)), .int (xs (q + 3))] [] (B' := (0, 0)) (B'' := (0, 0)) qEx_ok mmOffice_weather mk_Law_50 (ci := 11) rfl rfl hx rfl (Nat.le_of_ble_eq_true rfl) rfl (Nat.le_of_ble_eq_true rfl) dLaw_424 rfl (by decide) h ?_
  rintro v τ ⟨r, Rf2, I2, L2, rfl, rfl, h2⟩
  refine ev_pop dLaw_427 rfl ?_
  refine ev_aload_n dLaw_428 rfl ?_
  refine ev_xarg 1 dLaw_429 dLaw_430 dLaw_431 dLaw_432 dLaw_433 (by decide) (by omega) hxl ?_
  refine ev_xarg 2 dLaw_434 dLaw_435 dLaw_436 dLaw_437 dLaw_438 (by decide) (by omega) hxl ?_
  refine ev_xarg 3 dLaw_439 dLaw_440 dLaw_441 dLaw_442 dLaw_443 (by decide) (by omega) hxl ?_
  refine ev_callVw (w := w) [.int (xs (q + 1)), .int (xs (q + 2)), .int (xs (q + 3))] [] hw qEx_ok mmModel_weather mk_Law_54 (ci := 12) rfl rfl hm rfl (Nat.le_of_ble_eq_true rfl) rfl (Nat.le_of_ble_eq_true rfl) dLaw_444 (by decide) h2 ?_
  rintro v τ ⟨r2, I3, L3, rfl, rfl, h3⟩
  rw [q_gl_same]
  refine ev_pop dLaw_447 rfl ?_
  exact ev_goto 976 dLaw_448 (by decide) h3
set_option maxHeartbeats 4000000 in
theorem lw_forged (hq : q + 6 ≤ xl) (hxl : xl < 2 ^ 31) (hw : w ≤ n) (hx : b ≤ ox ∧ ox < b + n ∧ sh ox = .inr 11) (hm : b ≤ om ∧ om < b + n ∧ sh om = .inr 12) (h : Ev (qGG D cA b (qEx b kS vS xb xl xs)) mOffice_forged 109 (0, 0) 0 (lv_args 0 (.ref ox :: [.int (xs (q + 1)), .int (xs (q + 2))])) [] (n, sh, Rf, I, L) (fun v τ => ∃ (r : Int32) (Rf2 : Nat → Nat → Option Nat) (I2 : Nat → Nat → Int32) (L2 : Nat → Nat → Int64), v = some (.int r) ∧ τ = (n, sh, Rf2, I2, L2) ∧ Ev (qGG D cA (b + w) qTr) mModel_forged 109 (0, 0) 0 (lv_args 0 (.ref om :: [.int (xs (q + 1)), .int (xs (q + 2))])) [] (n - w, sh, Rf2, I2, L2) (fun v τ => ∃ (r2 : Int32) (I3 : Nat → Nat → Int32) (L3 : Nat → Nat → Int64), v = some (.int r2) ∧ τ = (n - w, sh, Rf2, I3, L3) ∧ Ev (qGG D cA b (qEx b kS vS xb xl xs)) mLaw 110 (0, 0) 976 (lwL xb ox om q) [] (n, sh, Rf2, gl (b + w) I2 I3, gl (b + w) L2 L3) post))) : Ev (qGG D cA b (qEx b kS vS xb xl xs)) mLaw 110 (0, 0) 451 (lwL xb ox om q) [] (n, sh, Rf, I, L) post := by
  refine ev_aload_n dLaw_451 rfl ?_
  refine ev_xarg 1 dLaw_452 dLaw_453 dLaw_454 dLaw_455 dLaw_456 (by decide) (by omega) hxl ?_
  refine ev_xarg 2 dLaw_457 dLaw_458 dLaw_459 dLaw_460 dLaw_461 (by decide) (by omega) hxl ?_
  refine ev_callV [.int (xs (q + 1)), .int (xs (q + 2))] [] (B' := (0, 0)) (B'' := (0, 0)) qEx_ok mmOffice_forged mk_Law_55 (ci := 11) rfl rfl hx rfl (Nat.le_of_ble_eq_true rfl) rfl (Nat.le_of_ble_eq_true rfl) dLaw_462 rfl (by decide) h ?_
  rintro v τ ⟨r, Rf2, I2, L2, rfl, rfl, h2⟩
  refine ev_pop dLaw_465 rfl ?_
  refine ev_aload_n dLaw_466 rfl ?_
  refine ev_xarg 1 dLaw_467 dLaw_468 dLaw_469 dLaw_470 dLaw_471 (by decide) (by omega) hxl ?_
  refine ev_xarg 2 dLaw_472 dLaw_473 dLaw_474 dLaw_475 dLaw_476 (by decide) (by omega) hxl ?_
  refine ev_callVw (w := w) [.int (xs (q + 1)), .int (xs (q + 2))] [] hw qEx_ok mmModel_forged mk_Law_58 (ci := 12) rfl rfl hm rfl (Nat.le_of_ble_eq_true rfl) rfl (Nat.le_of_ble_eq_true rfl) dLaw_477 (by decide) h2 ?_
  rintro v τ ⟨r2, I3, L3, rfl, rfl, h3⟩
  rw [q_gl_same]
  refine ev_pop dLaw_480 rfl ?_
  exact ev_goto 976 dLaw_481 (by decide) h3
set_option maxHeartbeats 4000000 in
theorem lw_dead (hq : q + 6 ≤ xl) (hxl : xl < 2 ^ 31) (hw : w ≤ n) (hx : b ≤ ox ∧ ox < b + n ∧ sh ox = .inr 11) (hm : b ≤ om ∧ om < b + n ∧ sh om = .inr 12) (h : Ev (qGG D cA b (qEx b kS vS xb xl xs)) mOffice_dead 109 (0, 0) 0 (lv_args 0 (.ref ox :: [.int (xs (q + 1)), .int (xs (q + 2)), .int (xs (q + 3))])) [] (n, sh, Rf, I, L) (fun v τ => ∃ (r : Int32) (Rf2 : Nat → Nat → Option Nat) (I2 : Nat → Nat → Int32) (L2 : Nat → Nat → Int64), v = some (.int r) ∧ τ = (n, sh, Rf2, I2, L2) ∧ Ev (qGG D cA (b + w) qTr) mModel_dead 109 (0, 0) 0 (lv_args 0 (.ref om :: [.int (xs (q + 1)), .int (xs (q + 2)), .int (xs (q + 3))])) [] (n - w, sh, Rf2, I2, L2) (fun v τ => ∃ (r2 : Int32) (I3 : Nat → Nat → Int32) (L3 : Nat → Nat → Int64), v = some (.int r2) ∧ τ = (n - w, sh, Rf2, I3, L3) ∧ Ev (qGG D cA b (qEx b kS vS xb xl xs)) mLaw 110 (0, 0) 976 (lwL xb ox om q) [] (n, sh, Rf2, gl (b + w) I2 I3, gl (b + w) L2 L3) post))) : Ev (qGG D cA b (qEx b kS vS xb xl xs)) mLaw 110 (0, 0) 484 (lwL xb ox om q) [] (n, sh, Rf, I, L) post := by
  refine ev_aload_n dLaw_484 rfl ?_
  refine ev_xarg 1 dLaw_485 dLaw_486 dLaw_487 dLaw_488 dLaw_489 (by decide) (by omega) hxl ?_
  refine ev_xarg 2 dLaw_490 dLaw_491 dLaw_492 dLaw_493 dLaw_494 (by decide) (by omega) hxl ?_
  refine ev_xarg 3 dLaw_495 dLaw_496 dLaw_497 dLaw_498 dLaw_499 (by decide) (by omega) hxl ?_
  refine ev_callV [.int (xs (q + 1)), .int (xs (q + 2)), .int (xs (q + 3))] [] (B' := (0, 0)) (B'' := (0, 0)) qEx_ok mmOffice_dead mk_Law_59 (ci := 11) rfl rfl hx rfl (Nat.le_of_ble_eq_true rfl) rfl (Nat.le_of_ble_eq_true rfl) dLaw_500 rfl (by decide) h ?_
  rintro v τ ⟨r, Rf2, I2, L2, rfl, rfl, h2⟩
  refine ev_pop dLaw_503 rfl ?_
  refine ev_aload_n dLaw_504 rfl ?_
  refine ev_xarg 1 dLaw_505 dLaw_506 dLaw_507 dLaw_508 dLaw_509 (by decide) (by omega) hxl ?_
  refine ev_xarg 2 dLaw_510 dLaw_511 dLaw_512 dLaw_513 dLaw_514 (by decide) (by omega) hxl ?_
  refine ev_xarg 3 dLaw_515 dLaw_516 dLaw_517 dLaw_518 dLaw_519 (by decide) (by omega) hxl ?_
  refine ev_callVw (w := w) [.int (xs (q + 1)), .int (xs (q + 2)), .int (xs (q + 3))] [] hw qEx_ok mmModel_dead mk_Law_62 (ci := 12) rfl rfl hm rfl (Nat.le_of_ble_eq_true rfl) rfl (Nat.le_of_ble_eq_true rfl) dLaw_520 (by decide) h2 ?_
  rintro v τ ⟨r2, I3, L3, rfl, rfl, h3⟩
  rw [q_gl_same]
  refine ev_pop dLaw_523 rfl ?_
  exact ev_goto 976 dLaw_524 (by decide) h3
set_option maxHeartbeats 4000000 in
theorem lw_untell (hq : q + 6 ≤ xl) (hxl : xl < 2 ^ 31) (hw : w ≤ n) (hx : b ≤ ox ∧ ox < b + n ∧ sh ox = .inr 11) (hm : b ≤ om ∧ om < b + n ∧ sh om = .inr 12) (h : Ev (qGG D cA b (qEx b kS vS xb xl xs)) mOffice_untell 109 (0, 0) 0 (lv_args 0 (.ref ox :: [.int (xs (q + 1))])) [] (n, sh, Rf, I, L) (fun v τ => ∃ (r : Int32) (Rf2 : Nat → Nat → Option Nat) (I2 : Nat → Nat → Int32) (L2 : Nat → Nat → Int64), v = some (.int r) ∧ τ = (n, sh, Rf2, I2, L2) ∧ Ev (qGG D cA (b + w) qTr) mModel_untell 109 (0, 0) 0 (lv_args 0 (.ref om :: [.int (xs (q + 1))])) [] (n - w, sh, Rf2, I2, L2) (fun v τ => ∃ (r2 : Int32) (I3 : Nat → Nat → Int32) (L3 : Nat → Nat → Int64), v = some (.int r2) ∧ τ = (n - w, sh, Rf2, I3, L3) ∧ Ev (qGG D cA b (qEx b kS vS xb xl xs)) mLaw 110 (0, 0) 976 (lwL xb ox om q) [] (n, sh, Rf2, gl (b + w) I2 I3, gl (b + w) L2 L3) post))) : Ev (qGG D cA b (qEx b kS vS xb xl xs)) mLaw 110 (0, 0) 527 (lwL xb ox om q) [] (n, sh, Rf, I, L) post := by
  refine ev_aload_n dLaw_527 rfl ?_
  refine ev_xarg 1 dLaw_528 dLaw_529 dLaw_530 dLaw_531 dLaw_532 (by decide) (by omega) hxl ?_
  refine ev_callV [.int (xs (q + 1))] [] (B' := (0, 0)) (B'' := (0, 0)) qEx_ok mmOffice_untell mk_Law_63 (ci := 11) rfl rfl hx rfl (Nat.le_of_ble_eq_true rfl) rfl (Nat.le_of_ble_eq_true rfl) dLaw_533 rfl (by decide) h ?_
  rintro v τ ⟨r, Rf2, I2, L2, rfl, rfl, h2⟩
  refine ev_pop dLaw_536 rfl ?_
  refine ev_aload_n dLaw_537 rfl ?_
  refine ev_xarg 1 dLaw_538 dLaw_539 dLaw_540 dLaw_541 dLaw_542 (by decide) (by omega) hxl ?_
  refine ev_callVw (w := w) [.int (xs (q + 1))] [] hw qEx_ok mmModel_untell mk_Law_67 (ci := 12) rfl rfl hm rfl (Nat.le_of_ble_eq_true rfl) rfl (Nat.le_of_ble_eq_true rfl) dLaw_543 (by decide) h2 ?_
  rintro v τ ⟨r2, I3, L3, rfl, rfl, h3⟩
  rw [q_gl_same]
  refine ev_pop dLaw_546 rfl ?_
  exact ev_goto 976 dLaw_547 (by decide) h3
set_option maxHeartbeats 4000000 in
theorem lw_later (hq : q + 6 ≤ xl) (hxl : xl < 2 ^ 31) (hw : w ≤ n) (hx : b ≤ ox ∧ ox < b + n ∧ sh ox = .inr 11) (hm : b ≤ om ∧ om < b + n ∧ sh om = .inr 12) (h : Ev (qGG D cA b (qEx b kS vS xb xl xs)) mOffice_later 109 (0, 0) 0 (lv_args 0 (.ref ox :: [.int (xs (q + 1))])) [] (n, sh, Rf, I, L) (fun v τ => ∃ (r : Int32) (Rf2 : Nat → Nat → Option Nat) (I2 : Nat → Nat → Int32) (L2 : Nat → Nat → Int64), v = some (.int r) ∧ τ = (n, sh, Rf2, I2, L2) ∧ Ev (qGG D cA (b + w) qTr) mModel_later 109 (0, 0) 0 (lv_args 0 (.ref om :: [.int (xs (q + 1))])) [] (n - w, sh, Rf2, I2, L2) (fun v τ => ∃ (r2 : Int32) (I3 : Nat → Nat → Int32) (L3 : Nat → Nat → Int64), v = some (.int r2) ∧ τ = (n - w, sh, Rf2, I3, L3) ∧ Ev (qGG D cA b (qEx b kS vS xb xl xs)) mLaw 110 (0, 0) 976 (lwL xb ox om q) [] (n, sh, Rf2, gl (b + w) I2 I3, gl (b + w) L2 L3) post))) : Ev (qGG D cA b (qEx b kS vS xb xl xs)) mLaw 110 (0, 0) 550 (lwL xb ox om q) [] (n, sh, Rf, I, L) post := by
  refine ev_aload_n dLaw_550 rfl ?_
  refine ev_xarg 1 dLaw_551 dLaw_552 dLaw_553 dLaw_554 dLaw_555 (by decide) (by omega) hxl ?_
  refine ev_callV [.int (xs (q + 1))] [] (B' := (0, 0)) (B'' := (0, 0)) qEx_ok mmOffice_later mk_Law_68 (ci := 11) rfl rfl hx rfl (Nat.le_of_ble_eq_true rfl) rfl (Nat.le_of_ble_eq_true rfl) dLaw_556 rfl (by decide) h ?_
  rintro v τ ⟨r, Rf2, I2, L2, rfl, rfl, h2⟩
  refine ev_pop dLaw_559 rfl ?_
  refine ev_aload_n dLaw_560 rfl ?_
  refine ev_xarg 1 dLaw_561 dLaw_562 dLaw_563 dLaw_564 dLaw_565 (by decide) (by omega) hxl ?_
  refine ev_callVw (w := w) [.int (xs (q + 1))] [] hw qEx_ok mmModel_later mk_Law_71 (ci := 12) rfl rfl hm rfl (Nat.le_of_ble_eq_true rfl) rfl (Nat.le_of_ble_eq_true rfl) dLaw_566 (by decide) h2 ?_
  rintro v τ ⟨r2, I3, L3, rfl, rfl, h3⟩
  rw [q_gl_same]
  refine ev_pop dLaw_569 rfl ?_
  exact ev_goto 976 dLaw_570 (by decide) h3
set_option maxHeartbeats 4000000 in
theorem lw_run (hq : q + 6 ≤ xl) (hxl : xl < 2 ^ 31) (hw : w ≤ n) (hx : b ≤ ox ∧ ox < b + n ∧ sh ox = .inr 11) (hm : b ≤ om ∧ om < b + n ∧ sh om = .inr 12) (h : Ev (qGG D cA b (qEx b kS vS xb xl xs)) mOffice_run 109 (0, 0) 0 (lv_args 0 (.ref ox :: [.int (xs (q + 1)), .int (xs (q + 2)), .int (xs (q + 3))])) [] (n, sh, Rf, I, L) (fun v τ => ∃ (r : Int32) (Rf2 : Nat → Nat → Option Nat) (I2 : Nat → Nat → Int32) (L2 : Nat → Nat → Int64), v = some (.int r) ∧ τ = (n, sh, Rf2, I2, L2) ∧ Ev (qGG D cA (b + w) qTr) mModel_run 109 (0, 0) 0 (lv_args 0 (.ref om :: [.int (xs (q + 1)), .int (xs (q + 2)), .int (xs (q + 3))])) [] (n - w, sh, Rf2, I2, L2) (fun v τ => ∃ (r2 : Int32) (I3 : Nat → Nat → Int32) (L3 : Nat → Nat → Int64), v = some (.int r2) ∧ τ = (n - w, sh, Rf2, I3, L3) ∧ Ev (qGG D cA b (qEx b kS vS xb xl xs)) mLaw 110 (0, 0) 976 (lwL xb ox om q) [] (n, sh, Rf2, gl (b + w) I2 I3, gl (b + w) L2 L3) post))) : Ev (qGG D cA b (qEx b kS vS xb xl xs)) mLaw 110 (0, 0) 573 (lwL xb ox om q) [] (n, sh, Rf, I, L) post := by
  refine ev_aload_n dLaw_573 rfl ?_
  refine ev_xarg 1 dLaw_574 dLaw_575 dLaw_576 dLaw_577 dLaw_578 (by decide) (by omega) hxl ?_
  refine ev_xarg 2 dLaw_579 dLaw_580 dLaw_581 dLaw_582 dLaw_583 (by decide) (by omega) hxl ?_
  refine ev_xarg 3 dLaw_584 dLaw_585 dLaw_586 dLaw_587 dLaw_588 (by decide) (by omega) hxl ?_
  refine ev_callV [.int (xs (q + 1)), .int (xs (q + 2)), .int (xs (q + 3))] [] (B' := (0, 0)) (B'' := (0, 0)) qEx_ok mmOffice_run mk_Law_72 (ci := 11) rfl rfl hx rfl (Nat.le_of_ble_eq_true rfl) rfl (Nat.le_of_ble_eq_true rfl) dLaw_589 rfl (by decide) h ?_
  rintro v τ ⟨r, Rf2, I2, L2, rfl, rfl, h2⟩
  refine ev_pop dLaw_592 rfl ?_
  refine ev_aload_n dLaw_593 rfl ?_
  refine ev_xarg 1 dLaw_594 dLaw_595 dLaw_596 dLaw_597 dLaw_598 (by decide) (by omega) hxl ?_
  refine ev_xarg 2 dLaw_599 dLaw_600 dLaw_601 dLaw_602 dLaw_603 (by decide) (by omega) hxl ?_
  refine ev_xarg 3 dLaw_604 dLaw_605 dLaw_606 dLaw_607 dLaw_608 (by decide) (by omega) hxl ?_
  refine ev_callVw (w := w) [.int (xs (q + 1)), .int (xs (q + 2)), .int (xs (q + 3))] [] hw qEx_ok mmModel_run mk_Law_75 (ci := 12) rfl rfl hm rfl (Nat.le_of_ble_eq_true rfl) rfl (Nat.le_of_ble_eq_true rfl) dLaw_609 (by decide) h2 ?_
  rintro v τ ⟨r2, I3, L3, rfl, rfl, h3⟩
  rw [q_gl_same]
  refine ev_pop dLaw_612 rfl ?_
  exact ev_goto 976 dLaw_613 (by decide) h3
set_option maxHeartbeats 4000000 in
theorem lw_ran (hq : q + 6 ≤ xl) (hxl : xl < 2 ^ 31) (hw : w ≤ n) (hx : b ≤ ox ∧ ox < b + n ∧ sh ox = .inr 11) (hm : b ≤ om ∧ om < b + n ∧ sh om = .inr 12) (h : Ev (qGG D cA b (qEx b kS vS xb xl xs)) mOffice_ran 109 (0, 0) 0 (lv_args 0 (.ref ox :: [.int (xs (q + 1))])) [] (n, sh, Rf, I, L) (fun v τ => ∃ (r : Int64) (Rf2 : Nat → Nat → Option Nat) (I2 : Nat → Nat → Int32) (L2 : Nat → Nat → Int64), v = some (.long r) ∧ τ = (n, sh, Rf2, I2, L2) ∧ Ev (qGG D cA (b + w) qTr) mModel_ran 109 (0, 0) 0 (lv_args 0 (.ref om :: [.int (xs (q + 1))])) [] (n - w, sh, Rf2, I2, L2) (fun v τ => ∃ (r2 : Int64) (I3 : Nat → Nat → Int32) (L3 : Nat → Nat → Int64), v = some (.long r2) ∧ τ = (n - w, sh, Rf2, I3, L3) ∧ Ev (qGG D cA b (qEx b kS vS xb xl xs)) mLaw 110 (0, 0) 976 (lwL xb ox om q) [] (n, sh, Rf2, gl (b + w) I2 I3, gl (b + w) L2 L3) post))) : Ev (qGG D cA b (qEx b kS vS xb xl xs)) mLaw 110 (0, 0) 616 (lwL xb ox om q) [] (n, sh, Rf, I, L) post := by
  refine ev_aload_n dLaw_616 rfl ?_
  refine ev_xarg 1 dLaw_617 dLaw_618 dLaw_619 dLaw_620 dLaw_621 (by decide) (by omega) hxl ?_
  refine ev_callV [.int (xs (q + 1))] [] (B' := (0, 0)) (B'' := (0, 0)) qEx_ok mmOffice_ran mk_Law_76 (ci := 11) rfl rfl hx rfl (Nat.le_of_ble_eq_true rfl) rfl (Nat.le_of_ble_eq_true rfl) dLaw_622 rfl (by decide) h ?_
  rintro v τ ⟨r, Rf2, I2, L2, rfl, rfl, h2⟩
  refine ev_pop2_2 dLaw_625 rfl ?_
  refine ev_aload_n dLaw_626 rfl ?_
  refine ev_xarg 1 dLaw_627 dLaw_628 dLaw_629 dLaw_630 dLaw_631 (by decide) (by omega) hxl ?_
  refine ev_callVw (w := w) [.int (xs (q + 1))] [] hw qEx_ok mmModel_ran mk_Law_80 (ci := 12) rfl rfl hm rfl (Nat.le_of_ble_eq_true rfl) rfl (Nat.le_of_ble_eq_true rfl) dLaw_632 (by decide) h2 ?_
  rintro v τ ⟨r2, I3, L3, rfl, rfl, h3⟩
  rw [q_gl_same]
  refine ev_pop2_2 dLaw_635 rfl ?_
  exact ev_goto 976 dLaw_636 (by decide) h3
set_option maxHeartbeats 4000000 in
theorem lw_fort (hq : q + 6 ≤ xl) (hxl : xl < 2 ^ 31) (hw : w ≤ n) (hx : b ≤ ox ∧ ox < b + n ∧ sh ox = .inr 11) (hm : b ≤ om ∧ om < b + n ∧ sh om = .inr 12) (h : Ev (qGG D cA b (qEx b kS vS xb xl xs)) mOffice_fort 109 (0, 0) 0 (lv_args 0 (.ref ox :: [.int (xs (q + 1)), .int (xs (q + 2)), .int (xs (q + 3))])) [] (n, sh, Rf, I, L) (fun v τ => ∃ (r : Int32) (Rf2 : Nat → Nat → Option Nat) (I2 : Nat → Nat → Int32) (L2 : Nat → Nat → Int64), v = some (.int r) ∧ τ = (n, sh, Rf2, I2, L2) ∧ Ev (qGG D cA (b + w) qTr) mModel_fort 109 (0, 0) 0 (lv_args 0 (.ref om :: [.int (xs (q + 1)), .int (xs (q + 2)), .int (xs (q + 3))])) [] (n - w, sh, Rf2, I2, L2) (fun v τ => ∃ (r2 : Int32) (I3 : Nat → Nat → Int32) (L3 : Nat → Nat → Int64), v = some (.int r2) ∧ τ = (n - w, sh, Rf2, I3, L3) ∧ Ev (qGG D cA b (qEx b kS vS xb xl xs)) mLaw 110 (0, 0) 976 (lwL xb ox om q) [] (n, sh, Rf2, gl (b + w) I2 I3, gl (b + w) L2 L3) post))) : Ev (qGG D cA b (qEx b kS vS xb xl xs)) mLaw 110 (0, 0) 639 (lwL xb ox om q) [] (n, sh, Rf, I, L) post := by
  refine ev_aload_n dLaw_639 rfl ?_
  refine ev_xarg 1 dLaw_640 dLaw_641 dLaw_642 dLaw_643 dLaw_644 (by decide) (by omega) hxl ?_
  refine ev_xarg 2 dLaw_645 dLaw_646 dLaw_647 dLaw_648 dLaw_649 (by decide) (by omega) hxl ?_
  refine ev_xarg 3 dLaw_650 dLaw_651 dLaw_652 dLaw_653 dLaw_654 (by decide) (by omega) hxl ?_
  refine ev_callV [.int (xs (q + 1)), .int (xs (q + 2)), .int (xs (q + 3))] [] (B' := (0, 0)) (B'' := (0, 0)) qEx_ok mmOffice_fort mk_Law_81 (ci := 11) rfl rfl hx rfl (Nat.le_of_ble_eq_true rfl) rfl (Nat.le_of_ble_eq_true rfl) dLaw_655 rfl (by decide) h ?_
  rintro v τ ⟨r, Rf2, I2, L2, rfl, rfl, h2⟩
  refine ev_pop dLaw_658 rfl ?_
  refine ev_aload_n dLaw_659 rfl ?_
  refine ev_xarg 1 dLaw_660 dLaw_661 dLaw_662 dLaw_663 dLaw_664 (by decide) (by omega) hxl ?_
  refine ev_xarg 2 dLaw_665 dLaw_666 dLaw_667 dLaw_668 dLaw_669 (by decide) (by omega) hxl ?_
  refine ev_xarg 3 dLaw_670 dLaw_671 dLaw_672 dLaw_673 dLaw_674 (by decide) (by omega) hxl ?_
  refine ev_callVw (w := w) [.int (xs (q + 1)), .int (xs (q + 2)), .int (xs (q + 3))] [] hw qEx_ok mmModel_fort mk_Law_84 (ci := 12) rfl rfl hm rfl (Nat.le_of_ble_eq_true rfl) rfl (Nat.le_of_ble_eq_true rfl) dLaw_675 (by decide) h2 ?_
  rintro v τ ⟨r2, I3, L3, rfl, rfl, h3⟩
  rw [q_gl_same]
  refine ev_pop dLaw_678 rfl ?_
  exact ev_goto 976 dLaw_679 (by decide) h3
set_option maxHeartbeats 4000000 in
theorem lw_pan (hq : q + 6 ≤ xl) (hxl : xl < 2 ^ 31) (hw : w ≤ n) (hx : b ≤ ox ∧ ox < b + n ∧ sh ox = .inr 11) (hm : b ≤ om ∧ om < b + n ∧ sh om = .inr 12) (h : Ev (qGG D cA b (qEx b kS vS xb xl xs)) mOffice_pan 109 (0, 0) 0 (lv_args 0 (.ref ox :: [.int (xs (q + 1)), .int (xs (q + 2)), .int (xs (q + 3))])) [] (n, sh, Rf, I, L) (fun v τ => ∃ (r : Int32) (Rf2 : Nat → Nat → Option Nat) (I2 : Nat → Nat → Int32) (L2 : Nat → Nat → Int64), v = some (.int r) ∧ τ = (n, sh, Rf2, I2, L2) ∧ Ev (qGG D cA (b + w) qTr) mModel_pan 109 (0, 0) 0 (lv_args 0 (.ref om :: [.int (xs (q + 1)), .int (xs (q + 2)), .int (xs (q + 3))])) [] (n - w, sh, Rf2, I2, L2) (fun v τ => ∃ (r2 : Int32) (I3 : Nat → Nat → Int32) (L3 : Nat → Nat → Int64), v = some (.int r2) ∧ τ = (n - w, sh, Rf2, I3, L3) ∧ Ev (qGG D cA b (qEx b kS vS xb xl xs)) mLaw 110 (0, 0) 976 (lwL xb ox om q) [] (n, sh, Rf2, gl (b + w) I2 I3, gl (b + w) L2 L3) post))) : Ev (qGG D cA b (qEx b kS vS xb xl xs)) mLaw 110 (0, 0) 682 (lwL xb ox om q) [] (n, sh, Rf, I, L) post := by
  refine ev_aload_n dLaw_682 rfl ?_
  refine ev_xarg 1 dLaw_683 dLaw_684 dLaw_685 dLaw_686 dLaw_687 (by decide) (by omega) hxl ?_
  refine ev_xarg 2 dLaw_688 dLaw_689 dLaw_690 dLaw_691 dLaw_692 (by decide) (by omega) hxl ?_
  refine ev_xarg 3 dLaw_693 dLaw_694 dLaw_695 dLaw_696 dLaw_697 (by decide) (by omega) hxl ?_
  refine ev_callV [.int (xs (q + 1)), .int (xs (q + 2)), .int (xs (q + 3))] [] (B' := (0, 0)) (B'' := (0, 0)) qEx_ok mmOffice_pan mk_Law_85 (ci := 11) rfl rfl hx rfl (Nat.le_of_ble_eq_true rfl) rfl (Nat.le_of_ble_eq_true rfl) dLaw_698 rfl (by decide) h ?_
  rintro v τ ⟨r, Rf2, I2, L2, rfl, rfl, h2⟩
  refine ev_pop dLaw_701 rfl ?_
  refine ev_aload_n dLaw_702 rfl ?_
  refine ev_xarg 1 dLaw_703 dLaw_704 dLaw_705 dLaw_706 dLaw_707 (by decide) (by omega) hxl ?_
  refine ev_xarg 2 dLaw_708 dLaw_709 dLaw_710 dLaw_711 dLaw_712 (by decide) (by omega) hxl ?_
  refine ev_xarg 3 dLaw_713 dLaw_714 dLaw_715 dLaw_716 dLaw_717 (by decide) (by omega) hxl ?_
  refine ev_callVw (w := w) [.int (xs (q + 1)), .int (xs (q + 2)), .int (xs (q + 3))] [] hw qEx_ok mmModel_pan mk_Law_88 (ci := 12) rfl rfl hm rfl (Nat.le_of_ble_eq_true rfl) rfl (Nat.le_of_ble_eq_true rfl) dLaw_718 (by decide) h2 ?_
  rintro v τ ⟨r2, I3, L3, rfl, rfl, h3⟩
  rw [q_gl_same]
  refine ev_pop dLaw_721 rfl ?_
  exact ev_goto 976 dLaw_722 (by decide) h3
set_option maxHeartbeats 4000000 in
theorem lw_town (hq : q + 6 ≤ xl) (hxl : xl < 2 ^ 31) (hw : w ≤ n) (hx : b ≤ ox ∧ ox < b + n ∧ sh ox = .inr 11) (hm : b ≤ om ∧ om < b + n ∧ sh om = .inr 12) (h : Ev (qGG D cA b (qEx b kS vS xb xl xs)) mOffice_town 109 (0, 0) 0 (lv_args 0 (.ref ox :: [.int (xs (q + 1)), .int (xs (q + 2)), .int (xs (q + 3))])) [] (n, sh, Rf, I, L) (fun v τ => ∃ (r : Int32) (Rf2 : Nat → Nat → Option Nat) (I2 : Nat → Nat → Int32) (L2 : Nat → Nat → Int64), v = some (.int r) ∧ τ = (n, sh, Rf2, I2, L2) ∧ Ev (qGG D cA (b + w) qTr) mModel_town 109 (0, 0) 0 (lv_args 0 (.ref om :: [.int (xs (q + 1)), .int (xs (q + 2)), .int (xs (q + 3))])) [] (n - w, sh, Rf2, I2, L2) (fun v τ => ∃ (r2 : Int32) (I3 : Nat → Nat → Int32) (L3 : Nat → Nat → Int64), v = some (.int r2) ∧ τ = (n - w, sh, Rf2, I3, L3) ∧ Ev (qGG D cA b (qEx b kS vS xb xl xs)) mLaw 110 (0, 0) 976 (lwL xb ox om q) [] (n, sh, Rf2, gl (b + w) I2 I3, gl (b + w) L2 L3) post))) : Ev (qGG D cA b (qEx b kS vS xb xl xs)) mLaw 110 (0, 0) 725 (lwL xb ox om q) [] (n, sh, Rf, I, L) post := by
  refine ev_aload_n dLaw_725 rfl ?_
  refine ev_xarg 1 dLaw_726 dLaw_727 dLaw_728 dLaw_729 dLaw_730 (by decide) (by omega) hxl ?_
  refine ev_xarg 2 dLaw_731 dLaw_732 dLaw_733 dLaw_734 dLaw_735 (by decide) (by omega) hxl ?_
  refine ev_xarg 3 dLaw_736 dLaw_737 dLaw_738 dLaw_739 dLaw_740 (by decide) (by omega) hxl ?_
  refine ev_callV [.int (xs (q + 1)), .int (xs (q + 2)), .int (xs (q + 3))] [] (B' := (0, 0)) (B'' := (0, 0)) qEx_ok mmOffice_town mk_Law_89 (ci := 11) rfl rfl hx rfl (Nat.le_of_ble_eq_true rfl) rfl (Nat.le_of_ble_eq_true rfl) dLaw_741 rfl (by decide) h ?_
  rintro v τ ⟨r, Rf2, I2, L2, rfl, rfl, h2⟩
  refine ev_pop dLaw_744 rfl ?_
  refine ev_aload_n dLaw_745 rfl ?_
  refine ev_xarg 1 dLaw_746 dLaw_747 dLaw_748 dLaw_749 dLaw_750 (by decide) (by omega) hxl ?_
  refine ev_xarg 2 dLaw_751 dLaw_752 dLaw_753 dLaw_754 dLaw_755 (by decide) (by omega) hxl ?_
  refine ev_xarg 3 dLaw_756 dLaw_757 dLaw_758 dLaw_759 dLaw_760 (by decide) (by omega) hxl ?_
  refine ev_callVw (w := w) [.int (xs (q + 1)), .int (xs (q + 2)), .int (xs (q + 3))] [] hw qEx_ok mmModel_town mk_Law_92 (ci := 12) rfl rfl hm rfl (Nat.le_of_ble_eq_true rfl) rfl (Nat.le_of_ble_eq_true rfl) dLaw_761 (by decide) h2 ?_
  rintro v τ ⟨r2, I3, L3, rfl, rfl, h3⟩
  rw [q_gl_same]
  refine ev_pop dLaw_764 rfl ?_
  exact ev_goto 976 dLaw_765 (by decide) h3
set_option maxHeartbeats 4000000 in
theorem lw_book (hq : q + 6 ≤ xl) (hxl : xl < 2 ^ 31) (hw : w ≤ n) (hx : b ≤ ox ∧ ox < b + n ∧ sh ox = .inr 11) (hm : b ≤ om ∧ om < b + n ∧ sh om = .inr 12) (h : Ev (qGG D cA b (qEx b kS vS xb xl xs)) mOffice_book 109 (0, 0) 0 (lv_args 0 (.ref ox :: [.int (xs (q + 1)), .int (xs (q + 2)), .int (xs (q + 3))])) [] (n, sh, Rf, I, L) (fun v τ => ∃ (r : Int64) (Rf2 : Nat → Nat → Option Nat) (I2 : Nat → Nat → Int32) (L2 : Nat → Nat → Int64), v = some (.long r) ∧ τ = (n, sh, Rf2, I2, L2) ∧ Ev (qGG D cA (b + w) qTr) mModel_book 109 (0, 0) 0 (lv_args 0 (.ref om :: [.int (xs (q + 1)), .int (xs (q + 2)), .int (xs (q + 3))])) [] (n - w, sh, Rf2, I2, L2) (fun v τ => ∃ (r2 : Int64) (I3 : Nat → Nat → Int32) (L3 : Nat → Nat → Int64), v = some (.long r2) ∧ τ = (n - w, sh, Rf2, I3, L3) ∧ Ev (qGG D cA b (qEx b kS vS xb xl xs)) mLaw 110 (0, 0) 976 (lwL xb ox om q) [] (n, sh, Rf2, gl (b + w) I2 I3, gl (b + w) L2 L3) post))) : Ev (qGG D cA b (qEx b kS vS xb xl xs)) mLaw 110 (0, 0) 768 (lwL xb ox om q) [] (n, sh, Rf, I, L) post := by
  refine ev_aload_n dLaw_768 rfl ?_
  refine ev_xarg 1 dLaw_769 dLaw_770 dLaw_771 dLaw_772 dLaw_773 (by decide) (by omega) hxl ?_
  refine ev_xarg 2 dLaw_774 dLaw_775 dLaw_776 dLaw_777 dLaw_778 (by decide) (by omega) hxl ?_
  refine ev_xarg 3 dLaw_779 dLaw_780 dLaw_781 dLaw_782 dLaw_783 (by decide) (by omega) hxl ?_
  refine ev_callV [.int (xs (q + 1)), .int (xs (q + 2)), .int (xs (q + 3))] [] (B' := (0, 0)) (B'' := (0, 0)) qEx_ok mmOffice_book mk_Law_93 (ci := 11) rfl rfl hx rfl (Nat.le_of_ble_eq_true rfl) rfl (Nat.le_of_ble_eq_true rfl) dLaw_784 rfl (by decide) h ?_
  rintro v τ ⟨r, Rf2, I2, L2, rfl, rfl, h2⟩
  refine ev_pop2_2 dLaw_787 rfl ?_
  refine ev_aload_n dLaw_788 rfl ?_
  refine ev_xarg 1 dLaw_789 dLaw_790 dLaw_791 dLaw_792 dLaw_793 (by decide) (by omega) hxl ?_
  refine ev_xarg 2 dLaw_794 dLaw_795 dLaw_796 dLaw_797 dLaw_798 (by decide) (by omega) hxl ?_
  refine ev_xarg 3 dLaw_799 dLaw_800 dLaw_801 dLaw_802 dLaw_803 (by decide) (by omega) hxl ?_
  refine ev_callVw (w := w) [.int (xs (q + 1)), .int (xs (q + 2)), .int (xs (q + 3))] [] hw qEx_ok mmModel_book mk_Law_97 (ci := 12) rfl rfl hm rfl (Nat.le_of_ble_eq_true rfl) rfl (Nat.le_of_ble_eq_true rfl) dLaw_804 (by decide) h2 ?_
  rintro v τ ⟨r2, I3, L3, rfl, rfl, h3⟩
  rw [q_gl_same]
  refine ev_pop2_2 dLaw_807 rfl ?_
  exact ev_goto 976 dLaw_808 (by decide) h3
set_option maxHeartbeats 4000000 in
theorem lw_paper (hq : q + 6 ≤ xl) (hxl : xl < 2 ^ 31) (hw : w ≤ n) (hx : b ≤ ox ∧ ox < b + n ∧ sh ox = .inr 11) (hm : b ≤ om ∧ om < b + n ∧ sh om = .inr 12) (h : Ev (qGG D cA b (qEx b kS vS xb xl xs)) mOffice_paper 109 (0, 0) 0 (lv_args 0 (.ref ox :: [.int (xs (q + 1)), .int (xs (q + 2))])) [] (n, sh, Rf, I, L) (fun v τ => ∃ (r : Int32) (Rf2 : Nat → Nat → Option Nat) (I2 : Nat → Nat → Int32) (L2 : Nat → Nat → Int64), v = some (.int r) ∧ τ = (n, sh, Rf2, I2, L2) ∧ Ev (qGG D cA (b + w) qTr) mModel_paper 109 (0, 0) 0 (lv_args 0 (.ref om :: [.int (xs (q + 1)), .int (xs (q + 2))])) [] (n - w, sh, Rf2, I2, L2) (fun v τ => ∃ (r2 : Int32) (I3 : Nat → Nat → Int32) (L3 : Nat → Nat → Int64), v = some (.int r2) ∧ τ = (n - w, sh, Rf2, I3, L3) ∧ Ev (qGG D cA b (qEx b kS vS xb xl xs)) mLaw 110 (0, 0) 976 (lwL xb ox om q) [] (n, sh, Rf2, gl (b + w) I2 I3, gl (b + w) L2 L3) post))) : Ev (qGG D cA b (qEx b kS vS xb xl xs)) mLaw 110 (0, 0) 811 (lwL xb ox om q) [] (n, sh, Rf, I, L) post := by
  refine ev_aload_n dLaw_811 rfl ?_
  refine ev_xarg 1 dLaw_812 dLaw_813 dLaw_814 dLaw_815 dLaw_816 (by decide) (by omega) hxl ?_
  refine ev_xarg 2 dLaw_817 dLaw_818 dLaw_819 dLaw_820 dLaw_821 (by decide) (by omega) hxl ?_
  refine ev_callV [.int (xs (q + 1)), .int (xs (q + 2))] [] (B' := (0, 0)) (B'' := (0, 0)) qEx_ok mmOffice_paper mk_Law_98 (ci := 11) rfl rfl hx rfl (Nat.le_of_ble_eq_true rfl) rfl (Nat.le_of_ble_eq_true rfl) dLaw_822 rfl (by decide) h ?_
  rintro v τ ⟨r, Rf2, I2, L2, rfl, rfl, h2⟩
  refine ev_pop dLaw_825 rfl ?_
  refine ev_aload_n dLaw_826 rfl ?_
  refine ev_xarg 1 dLaw_827 dLaw_828 dLaw_829 dLaw_830 dLaw_831 (by decide) (by omega) hxl ?_
  refine ev_xarg 2 dLaw_832 dLaw_833 dLaw_834 dLaw_835 dLaw_836 (by decide) (by omega) hxl ?_
  refine ev_callVw (w := w) [.int (xs (q + 1)), .int (xs (q + 2))] [] hw qEx_ok mmModel_paper mk_Law_101 (ci := 12) rfl rfl hm rfl (Nat.le_of_ble_eq_true rfl) rfl (Nat.le_of_ble_eq_true rfl) dLaw_837 (by decide) h2 ?_
  rintro v τ ⟨r2, I3, L3, rfl, rfl, h3⟩
  rw [q_gl_same]
  refine ev_pop dLaw_840 rfl ?_
  exact ev_goto 976 dLaw_841 (by decide) h3
set_option maxHeartbeats 4000000 in
theorem lw_way (hq : q + 6 ≤ xl) (hxl : xl < 2 ^ 31) (hw : w ≤ n) (hx : b ≤ ox ∧ ox < b + n ∧ sh ox = .inr 11) (hm : b ≤ om ∧ om < b + n ∧ sh om = .inr 12) (h : Ev (qGG D cA b (qEx b kS vS xb xl xs)) mOffice_way 109 (0, 0) 0 (lv_args 0 (.ref ox :: [.int (xs (q + 1)), .int (xs (q + 2))])) [] (n, sh, Rf, I, L) (fun v τ => ∃ (r : Int64) (Rf2 : Nat → Nat → Option Nat) (I2 : Nat → Nat → Int32) (L2 : Nat → Nat → Int64), v = some (.long r) ∧ τ = (n, sh, Rf2, I2, L2) ∧ Ev (qGG D cA (b + w) qTr) mModel_way 109 (0, 0) 0 (lv_args 0 (.ref om :: [.int (xs (q + 1)), .int (xs (q + 2))])) [] (n - w, sh, Rf2, I2, L2) (fun v τ => ∃ (r2 : Int64) (I3 : Nat → Nat → Int32) (L3 : Nat → Nat → Int64), v = some (.long r2) ∧ τ = (n - w, sh, Rf2, I3, L3) ∧ Ev (qGG D cA b (qEx b kS vS xb xl xs)) mLaw 110 (0, 0) 976 (lwL xb ox om q) [] (n, sh, Rf2, gl (b + w) I2 I3, gl (b + w) L2 L3) post))) : Ev (qGG D cA b (qEx b kS vS xb xl xs)) mLaw 110 (0, 0) 844 (lwL xb ox om q) [] (n, sh, Rf, I, L) post := by
  refine ev_aload_n dLaw_844 rfl ?_
  refine ev_xarg 1 dLaw_845 dLaw_846 dLaw_847 dLaw_848 dLaw_849 (by decide) (by omega) hxl ?_
  refine ev_xarg 2 dLaw_850 dLaw_851 dLaw_852 dLaw_853 dLaw_854 (by decide) (by omega) hxl ?_
  refine ev_callV [.int (xs (q + 1)), .int (xs (q + 2))] [] (B' := (0, 0)) (B'' := (0, 0)) qEx_ok mmOffice_way mk_Law_102 (ci := 11) rfl rfl hx rfl (Nat.le_of_ble_eq_true rfl) rfl (Nat.le_of_ble_eq_true rfl) dLaw_855 rfl (by decide) h ?_
  rintro v τ ⟨r, Rf2, I2, L2, rfl, rfl, h2⟩
  refine ev_pop2_2 dLaw_858 rfl ?_
  refine ev_aload_n dLaw_859 rfl ?_
  refine ev_xarg 1 dLaw_860 dLaw_861 dLaw_862 dLaw_863 dLaw_864 (by decide) (by omega) hxl ?_
  refine ev_xarg 2 dLaw_865 dLaw_866 dLaw_867 dLaw_868 dLaw_869 (by decide) (by omega) hxl ?_
  refine ev_callVw (w := w) [.int (xs (q + 1)), .int (xs (q + 2))] [] hw qEx_ok mmModel_way mk_Law_106 (ci := 12) rfl rfl hm rfl (Nat.le_of_ble_eq_true rfl) rfl (Nat.le_of_ble_eq_true rfl) dLaw_870 (by decide) h2 ?_
  rintro v τ ⟨r2, I3, L3, rfl, rfl, h3⟩
  rw [q_gl_same]
  refine ev_pop2_2 dLaw_873 rfl ?_
  exact ev_goto 976 dLaw_874 (by decide) h3
set_option maxHeartbeats 4000000 in
theorem lw_worth (hq : q + 6 ≤ xl) (hxl : xl < 2 ^ 31) (hw : w ≤ n) (hx : b ≤ ox ∧ ox < b + n ∧ sh ox = .inr 11) (hm : b ≤ om ∧ om < b + n ∧ sh om = .inr 12) (h : Ev (qGG D cA b (qEx b kS vS xb xl xs)) mOffice_worth 109 (0, 0) 0 (lv_args 0 (.ref ox :: [.int (xs (q + 1))])) [] (n, sh, Rf, I, L) (fun v τ => ∃ (r : Int64) (Rf2 : Nat → Nat → Option Nat) (I2 : Nat → Nat → Int32) (L2 : Nat → Nat → Int64), v = some (.long r) ∧ τ = (n, sh, Rf2, I2, L2) ∧ Ev (qGG D cA (b + w) qTr) mModel_worth 109 (0, 0) 0 (lv_args 0 (.ref om :: [.int (xs (q + 1))])) [] (n - w, sh, Rf2, I2, L2) (fun v τ => ∃ (r2 : Int64) (I3 : Nat → Nat → Int32) (L3 : Nat → Nat → Int64), v = some (.long r2) ∧ τ = (n - w, sh, Rf2, I3, L3) ∧ Ev (qGG D cA b (qEx b kS vS xb xl xs)) mLaw 110 (0, 0) 976 (lwL xb ox om q) [] (n, sh, Rf2, gl (b + w) I2 I3, gl (b + w) L2 L3) post))) : Ev (qGG D cA b (qEx b kS vS xb xl xs)) mLaw 110 (0, 0) 877 (lwL xb ox om q) [] (n, sh, Rf, I, L) post := by
  refine ev_aload_n dLaw_877 rfl ?_
  refine ev_xarg 1 dLaw_878 dLaw_879 dLaw_880 dLaw_881 dLaw_882 (by decide) (by omega) hxl ?_
  refine ev_callV [.int (xs (q + 1))] [] (B' := (0, 0)) (B'' := (0, 0)) qEx_ok mmOffice_worth mk_Law_107 (ci := 11) rfl rfl hx rfl (Nat.le_of_ble_eq_true rfl) rfl (Nat.le_of_ble_eq_true rfl) dLaw_883 rfl (by decide) h ?_
  rintro v τ ⟨r, Rf2, I2, L2, rfl, rfl, h2⟩
  refine ev_pop2_2 dLaw_886 rfl ?_
  refine ev_aload_n dLaw_887 rfl ?_
  refine ev_xarg 1 dLaw_888 dLaw_889 dLaw_890 dLaw_891 dLaw_892 (by decide) (by omega) hxl ?_
  refine ev_callVw (w := w) [.int (xs (q + 1))] [] hw qEx_ok mmModel_worth mk_Law_110 (ci := 12) rfl rfl hm rfl (Nat.le_of_ble_eq_true rfl) rfl (Nat.le_of_ble_eq_true rfl) dLaw_893 (by decide) h2 ?_
  rintro v τ ⟨r2, I3, L3, rfl, rfl, h3⟩
  rw [q_gl_same]
  refine ev_pop2_2 dLaw_896 rfl ?_
  exact ev_goto 976 dLaw_897 (by decide) h3
set_option maxHeartbeats 4000000 in
theorem lw_judge (hq : q + 6 ≤ xl) (hxl : xl < 2 ^ 31) (hw : w ≤ n) (hx : b ≤ ox ∧ ox < b + n ∧ sh ox = .inr 11) (hm : b ≤ om ∧ om < b + n ∧ sh om = .inr 12) (h : Ev (qGG D cA b (qEx b kS vS xb xl xs)) mOffice_judge 109 (0, 0) 0 (lv_args 0 (.ref ox :: [.int (xs (q + 1)), .int (xs (q + 2)), .int (xs (q + 3)), .int (xs (q + 4))])) [] (n, sh, Rf, I, L) (fun v τ => ∃ (r : Int32) (Rf2 : Nat → Nat → Option Nat) (I2 : Nat → Nat → Int32) (L2 : Nat → Nat → Int64), v = some (.int r) ∧ τ = (n, sh, Rf2, I2, L2) ∧ Ev (qGG D cA (b + w) qTr) mModel_judge 109 (0, 0) 0 (lv_args 0 (.ref om :: [.int (xs (q + 1)), .int (xs (q + 2)), .int (xs (q + 3)), .int (xs (q + 4))])) [] (n - w, sh, Rf2, I2, L2) (fun v τ => ∃ (r2 : Int32) (I3 : Nat → Nat → Int32) (L3 : Nat → Nat → Int64), v = some (.int r2) ∧ τ = (n - w, sh, Rf2, I3, L3) ∧ Ev (qGG D cA b (qEx b kS vS xb xl xs)) mLaw 110 (0, 0) 976 (lwL xb ox om q) [] (n, sh, Rf2, gl (b + w) I2 I3, gl (b + w) L2 L3) post))) : Ev (qGG D cA b (qEx b kS vS xb xl xs)) mLaw 110 (0, 0) 900 (lwL xb ox om q) [] (n, sh, Rf, I, L) post := by
  refine ev_aload_n dLaw_900 rfl ?_
  refine ev_xarg 1 dLaw_901 dLaw_902 dLaw_903 dLaw_904 dLaw_905 (by decide) (by omega) hxl ?_
  refine ev_xarg 2 dLaw_906 dLaw_907 dLaw_908 dLaw_909 dLaw_910 (by decide) (by omega) hxl ?_
  refine ev_xarg 3 dLaw_911 dLaw_912 dLaw_913 dLaw_914 dLaw_915 (by decide) (by omega) hxl ?_
  refine ev_xarg 4 dLaw_916 dLaw_917 dLaw_918 dLaw_919 dLaw_920 (by decide) (by omega) hxl ?_
  refine ev_callV [.int (xs (q + 1)), .int (xs (q + 2)), .int (xs (q + 3)), .int (xs (q + 4))] [] (B' := (0, 0)) (B'' := (0, 0)) qEx_ok mmOffice_judge mk_Law_111 (ci := 11) rfl rfl hx rfl (Nat.le_of_ble_eq_true rfl) rfl (Nat.le_of_ble_eq_true rfl) dLaw_921 rfl (by decide) h ?_
  rintro v τ ⟨r, Rf2, I2, L2, rfl, rfl, h2⟩
  refine ev_pop dLaw_924 rfl ?_
  refine ev_aload_n dLaw_925 rfl ?_
  refine ev_xarg 1 dLaw_926 dLaw_927 dLaw_928 dLaw_929 dLaw_930 (by decide) (by omega) hxl ?_
  refine ev_xarg 2 dLaw_931 dLaw_932 dLaw_933 dLaw_934 dLaw_935 (by decide) (by omega) hxl ?_
  refine ev_xarg 3 dLaw_936 dLaw_937 dLaw_938 dLaw_939 dLaw_940 (by decide) (by omega) hxl ?_
  refine ev_xarg 4 dLaw_941 dLaw_942 dLaw_943 dLaw_944 dLaw_945 (by decide) (by omega) hxl ?_
  refine ev_callVw (w := w) [.int (xs (q + 1)), .int (xs (q + 2)), .int (xs (q + 3)), .int (xs (q + 4))] [] hw qEx_ok mmModel_judge mk_Law_115 (ci := 12) rfl rfl hm rfl (Nat.le_of_ble_eq_true rfl) rfl (Nat.le_of_ble_eq_true rfl) dLaw_946 (by decide) h2 ?_
  rintro v τ ⟨r2, I3, L3, rfl, rfl, h3⟩
  rw [q_gl_same]
  refine ev_pop dLaw_949 rfl ?_
  exact ev_goto 976 dLaw_950 (by decide) h3
set_option maxHeartbeats 4000000 in
theorem lw_about (hq : q + 6 ≤ xl) (hxl : xl < 2 ^ 31) (hw : w ≤ n) (hx : b ≤ ox ∧ ox < b + n ∧ sh ox = .inr 11) (hm : b ≤ om ∧ om < b + n ∧ sh om = .inr 12) (h : Ev (qGG D cA b (qEx b kS vS xb xl xs)) mOffice_about 109 (0, 0) 0 (lv_args 0 (.ref ox :: [.int (xs (q + 1))])) [] (n, sh, Rf, I, L) (fun v τ => ∃ (r : Int32) (Rf2 : Nat → Nat → Option Nat) (I2 : Nat → Nat → Int32) (L2 : Nat → Nat → Int64), v = some (.int r) ∧ τ = (n, sh, Rf2, I2, L2) ∧ Ev (qGG D cA (b + w) qTr) mModel_about 109 (0, 0) 0 (lv_args 0 (.ref om :: [.int (xs (q + 1))])) [] (n - w, sh, Rf2, I2, L2) (fun v τ => ∃ (r2 : Int32) (I3 : Nat → Nat → Int32) (L3 : Nat → Nat → Int64), v = some (.int r2) ∧ τ = (n - w, sh, Rf2, I3, L3) ∧ Ev (qGG D cA b (qEx b kS vS xb xl xs)) mLaw 110 (0, 0) 976 (lwL xb ox om q) [] (n, sh, Rf2, gl (b + w) I2 I3, gl (b + w) L2 L3) post))) : Ev (qGG D cA b (qEx b kS vS xb xl xs)) mLaw 110 (0, 0) 953 (lwL xb ox om q) [] (n, sh, Rf, I, L) post := by
  refine ev_aload_n dLaw_953 rfl ?_
  refine ev_xarg 1 dLaw_954 dLaw_955 dLaw_956 dLaw_957 dLaw_958 (by decide) (by omega) hxl ?_
  refine ev_callV [.int (xs (q + 1))] [] (B' := (0, 0)) (B'' := (0, 0)) qEx_ok mmOffice_about mk_Law_116 (ci := 11) rfl rfl hx rfl (Nat.le_of_ble_eq_true rfl) rfl (Nat.le_of_ble_eq_true rfl) dLaw_959 rfl (by decide) h ?_
  rintro v τ ⟨r, Rf2, I2, L2, rfl, rfl, h2⟩
  refine ev_pop dLaw_962 rfl ?_
  refine ev_aload_n dLaw_963 rfl ?_
  refine ev_xarg 1 dLaw_964 dLaw_965 dLaw_966 dLaw_967 dLaw_968 (by decide) (by omega) hxl ?_
  refine ev_callVw (w := w) [.int (xs (q + 1))] [] hw qEx_ok mmModel_about mk_Law_119 (ci := 12) rfl rfl hm rfl (Nat.le_of_ble_eq_true rfl) rfl (Nat.le_of_ble_eq_true rfl) dLaw_969 (by decide) h2 ?_
  rintro v τ ⟨r2, I3, L3, rfl, rfl, h3⟩
  rw [q_gl_same]
  refine ev_pop dLaw_972 rfl ?_
  exact ev_goto 976 dLaw_973 (by decide) h3
def lwPc : List Nat := [144, 207, 230, 243, 266, 289, 322, 345, 408, 451, 484, 527, 550, 573, 616, 639, 682, 725, 768, 811, 844, 877, 900, 953]
set_option maxHeartbeats 4000000 in
theorem lw_switch (hq : q + 6 ≤ xl) (hxl : xl < 2 ^ 31) (h : ∀ k, k < 24 → Ev (qGG D cA b (qEx b kS vS xb xl xs)) mLaw 110 (0, 0) (lwPc.getD k 0) (lwL xb ox om q) [] (n, sh, Rf, I, L) post) (hd : Ev (qGG D cA b (qEx b kS vS xb xl xs)) mLaw 110 (0, 0) 976 (lwL xb ox om q) [] (n, sh, Rf, I, L) post) : Ev (qGG D cA b (qEx b kS vS xb xl xs)) mLaw 110 (0, 0) 27 (lwL xb ox om q) [] (n, sh, Rf, I, L) post := by
  refine ev_aload_n dLaw_27 rfl ?_
  refine ev_iload_n dLaw_28 rfl ?_
  refine ev_tiE (.int (xs q)) (fun s h => h.2.2.2.2.2.2) (vp_in_nI (by omega) hxl) (by rw [nI_clamp (by omega)]) dLaw_29 ?_
  refine ev_bipush (31) dLaw_30 (by decide) ?_
  refine ev_iand dLaw_32 ?_
  generalize xs q &&& 31 = x
  by_cases c0 : x = 0
  · exact ev_tableIn 144 dLaw_33 (by rw [c0]; decide) (by rw [c0]; decide) (off := 111) (by rw [c0]; rfl) (by decide) (h 0 (by decide))
  by_cases c1 : x = 1
  · exact ev_tableIn 207 dLaw_33 (by rw [c1]; decide) (by rw [c1]; decide) (off := 174) (by rw [c1]; rfl) (by decide) (h 1 (by decide))
  by_cases c2 : x = 2
  · exact ev_tableIn 230 dLaw_33 (by rw [c2]; decide) (by rw [c2]; decide) (off := 197) (by rw [c2]; rfl) (by decide) (h 2 (by decide))
  by_cases c3 : x = 3
  · exact ev_tableIn 243 dLaw_33 (by rw [c3]; decide) (by rw [c3]; decide) (off := 210) (by rw [c3]; rfl) (by decide) (h 3 (by decide))
  by_cases c4 : x = 4
  · exact ev_tableIn 266 dLaw_33 (by rw [c4]; decide) (by rw [c4]; decide) (off := 233) (by rw [c4]; rfl) (by decide) (h 4 (by decide))
  by_cases c5 : x = 5
  · exact ev_tableIn 289 dLaw_33 (by rw [c5]; decide) (by rw [c5]; decide) (off := 256) (by rw [c5]; rfl) (by decide) (h 5 (by decide))
  by_cases c6 : x = 6
  · exact ev_tableIn 322 dLaw_33 (by rw [c6]; decide) (by rw [c6]; decide) (off := 289) (by rw [c6]; rfl) (by decide) (h 6 (by decide))
  by_cases c7 : x = 7
  · exact ev_tableIn 345 dLaw_33 (by rw [c7]; decide) (by rw [c7]; decide) (off := 312) (by rw [c7]; rfl) (by decide) (h 7 (by decide))
  by_cases c8 : x = 8
  · exact ev_tableIn 408 dLaw_33 (by rw [c8]; decide) (by rw [c8]; decide) (off := 375) (by rw [c8]; rfl) (by decide) (h 8 (by decide))
  by_cases c9 : x = 9
  · exact ev_tableIn 451 dLaw_33 (by rw [c9]; decide) (by rw [c9]; decide) (off := 418) (by rw [c9]; rfl) (by decide) (h 9 (by decide))
  by_cases c10 : x = 10
  · exact ev_tableIn 484 dLaw_33 (by rw [c10]; decide) (by rw [c10]; decide) (off := 451) (by rw [c10]; rfl) (by decide) (h 10 (by decide))
  by_cases c11 : x = 11
  · exact ev_tableIn 527 dLaw_33 (by rw [c11]; decide) (by rw [c11]; decide) (off := 494) (by rw [c11]; rfl) (by decide) (h 11 (by decide))
  by_cases c12 : x = 12
  · exact ev_tableIn 550 dLaw_33 (by rw [c12]; decide) (by rw [c12]; decide) (off := 517) (by rw [c12]; rfl) (by decide) (h 12 (by decide))
  by_cases c13 : x = 13
  · exact ev_tableIn 573 dLaw_33 (by rw [c13]; decide) (by rw [c13]; decide) (off := 540) (by rw [c13]; rfl) (by decide) (h 13 (by decide))
  by_cases c14 : x = 14
  · exact ev_tableIn 616 dLaw_33 (by rw [c14]; decide) (by rw [c14]; decide) (off := 583) (by rw [c14]; rfl) (by decide) (h 14 (by decide))
  by_cases c15 : x = 15
  · exact ev_tableIn 639 dLaw_33 (by rw [c15]; decide) (by rw [c15]; decide) (off := 606) (by rw [c15]; rfl) (by decide) (h 15 (by decide))
  by_cases c16 : x = 16
  · exact ev_tableIn 682 dLaw_33 (by rw [c16]; decide) (by rw [c16]; decide) (off := 649) (by rw [c16]; rfl) (by decide) (h 16 (by decide))
  by_cases c17 : x = 17
  · exact ev_tableIn 725 dLaw_33 (by rw [c17]; decide) (by rw [c17]; decide) (off := 692) (by rw [c17]; rfl) (by decide) (h 17 (by decide))
  by_cases c18 : x = 18
  · exact ev_tableIn 768 dLaw_33 (by rw [c18]; decide) (by rw [c18]; decide) (off := 735) (by rw [c18]; rfl) (by decide) (h 18 (by decide))
  by_cases c19 : x = 19
  · exact ev_tableIn 811 dLaw_33 (by rw [c19]; decide) (by rw [c19]; decide) (off := 778) (by rw [c19]; rfl) (by decide) (h 19 (by decide))
  by_cases c20 : x = 20
  · exact ev_tableIn 844 dLaw_33 (by rw [c20]; decide) (by rw [c20]; decide) (off := 811) (by rw [c20]; rfl) (by decide) (h 20 (by decide))
  by_cases c21 : x = 21
  · exact ev_tableIn 877 dLaw_33 (by rw [c21]; decide) (by rw [c21]; decide) (off := 844) (by rw [c21]; rfl) (by decide) (h 21 (by decide))
  by_cases c22 : x = 22
  · exact ev_tableIn 900 dLaw_33 (by rw [c22]; decide) (by rw [c22]; decide) (off := 867) (by rw [c22]; rfl) (by decide) (h 22 (by decide))
  by_cases c23 : x = 23
  · exact ev_tableIn 953 dLaw_33 (by rw [c23]; decide) (by rw [c23]; decide) (off := 920) (by rw [c23]; rfl) (by decide) (h 23 (by decide))
  refine ev_tableOut 976 dLaw_33 ?_ (by decide) hd
  have e0 : (0 : Int) ≠ x.toInt := fun h => c0 (Int32.toInt_inj.mp (h.symm.trans (by decide)))
  have e1 : (1 : Int) ≠ x.toInt := fun h => c1 (Int32.toInt_inj.mp (h.symm.trans (by decide)))
  have e2 : (2 : Int) ≠ x.toInt := fun h => c2 (Int32.toInt_inj.mp (h.symm.trans (by decide)))
  have e3 : (3 : Int) ≠ x.toInt := fun h => c3 (Int32.toInt_inj.mp (h.symm.trans (by decide)))
  have e4 : (4 : Int) ≠ x.toInt := fun h => c4 (Int32.toInt_inj.mp (h.symm.trans (by decide)))
  have e5 : (5 : Int) ≠ x.toInt := fun h => c5 (Int32.toInt_inj.mp (h.symm.trans (by decide)))
  have e6 : (6 : Int) ≠ x.toInt := fun h => c6 (Int32.toInt_inj.mp (h.symm.trans (by decide)))
  have e7 : (7 : Int) ≠ x.toInt := fun h => c7 (Int32.toInt_inj.mp (h.symm.trans (by decide)))
  have e8 : (8 : Int) ≠ x.toInt := fun h => c8 (Int32.toInt_inj.mp (h.symm.trans (by decide)))
  have e9 : (9 : Int) ≠ x.toInt := fun h => c9 (Int32.toInt_inj.mp (h.symm.trans (by decide)))
  have e10 : (10 : Int) ≠ x.toInt := fun h => c10 (Int32.toInt_inj.mp (h.symm.trans (by decide)))
  have e11 : (11 : Int) ≠ x.toInt := fun h => c11 (Int32.toInt_inj.mp (h.symm.trans (by decide)))
  have e12 : (12 : Int) ≠ x.toInt := fun h => c12 (Int32.toInt_inj.mp (h.symm.trans (by decide)))
  have e13 : (13 : Int) ≠ x.toInt := fun h => c13 (Int32.toInt_inj.mp (h.symm.trans (by decide)))
  have e14 : (14 : Int) ≠ x.toInt := fun h => c14 (Int32.toInt_inj.mp (h.symm.trans (by decide)))
  have e15 : (15 : Int) ≠ x.toInt := fun h => c15 (Int32.toInt_inj.mp (h.symm.trans (by decide)))
  have e16 : (16 : Int) ≠ x.toInt := fun h => c16 (Int32.toInt_inj.mp (h.symm.trans (by decide)))
  have e17 : (17 : Int) ≠ x.toInt := fun h => c17 (Int32.toInt_inj.mp (h.symm.trans (by decide)))
  have e18 : (18 : Int) ≠ x.toInt := fun h => c18 (Int32.toInt_inj.mp (h.symm.trans (by decide)))
  have e19 : (19 : Int) ≠ x.toInt := fun h => c19 (Int32.toInt_inj.mp (h.symm.trans (by decide)))
  have e20 : (20 : Int) ≠ x.toInt := fun h => c20 (Int32.toInt_inj.mp (h.symm.trans (by decide)))
  have e21 : (21 : Int) ≠ x.toInt := fun h => c21 (Int32.toInt_inj.mp (h.symm.trans (by decide)))
  have e22 : (22 : Int) ≠ x.toInt := fun h => c22 (Int32.toInt_inj.mp (h.symm.trans (by decide)))
  have e23 : (23 : Int) ≠ x.toInt := fun h => c23 (Int32.toInt_inj.mp (h.symm.trans (by decide)))
  omega
theorem lw_more (hxl : xl < 2 ^ 30) (hq : q < 2 ^ 30) : (nI xl - 6 < nI q) ↔ ¬ q + 6 ≤ xl := by
  by_cases h6 : 6 ≤ xl
  · obtain ⟨z, rfl⟩ : ∃ z, xl = z + 6 := ⟨xl - 6, by omega⟩
    have e : nI (z + 6) - 6 = nI z := by
      rw [← nI_add]
      show nI z + 6 - 6 = nI z
      rw [Int32.add_sub_cancel]
    rw [e, nI_ltI (by omega) (by omega)]
    omega
  · refine ⟨fun _ => by omega, fun _ => ?_⟩
    have h0 : nI xl - 6 < 0 := by
      rcases (show xl = 0 ∨ xl = 1 ∨ xl = 2 ∨ xl = 3 ∨ xl = 4 ∨ xl = 5 by omega) with rfl | rfl | rfl | rfl | rfl | rfl <;> decide
    exact Int32.lt_of_lt_of_le h0 (nI_pos' (by omega))
theorem lw_head (hxl : xl < 2 ^ 30) (hq : q < 2 ^ 30) (hin : q + 6 ≤ xl → Ev (qGG D cA b (qEx b kS vS xb xl xs)) mLaw 110 (0, 0) 27 (lwL xb ox om q) [] (n, sh, Rf, I, L) post) (hout : ¬ q + 6 ≤ xl → post (some (.int 1)) (n, sh, Rf, I, L)) : Ev (qGG D cA b (qEx b kS vS xb xl xs)) mLaw 110 (0, 0) 18 (lwL xb ox om q) [] (n, sh, Rf, I, L) post := by
  refine ev_iload_n dLaw_18 rfl ?_
  refine ev_aload_n dLaw_19 rfl ?_
  refine ev_tlenE (nI xl) (fun s h => h.2.2.2.2.2.2) rfl dLaw_20 ?_
  refine ev_bipush (6) dLaw_21 (by decide) ?_
  refine ev_isub dLaw_23 ?_
  refine ev_icmp_gt 982 dLaw_24 (by decide) (fun c => ?_) (fun c => ?_)
  · refine ev_iconst (1) dLaw_982 (by decide) ?_
    exact ev_zret rfl rfl dLaw_983 (hout ((lw_more hxl hq).mp c))
  · exact hin (Classical.byContradiction (fun z => c ((lw_more hxl hq).mpr z)))
theorem lw_next (h : Ev (qGG D cA b (qEx b kS vS xb xl xs)) mLaw 110 (0, 0) 18 (lwL xb ox om (q + 6)) [] (n, sh, Rf, I, L) post) : Ev (qGG D cA b (qEx b kS vS xb xl xs)) mLaw 110 (0, 0) 976 (lwL xb ox om q) [] (n, sh, Rf, I, L) post := by
  refine ev_iinc dLaw_976 rfl (by decide) ?_
  refine ev_goto 18 dLaw_979 (by decide) ?_
  have e : nI q + Int32.ofInt 6 = nI (q + 6) := nI_add q 6
  rw [e]
  exact ev_sub (lwL xb ox om (q + 6)) rfl h
end LC
