/-! Walks of the reference: by program. -/
def fModel_readReform_228 (D : va_G) (cA : FieldType → ClassId) (b : Nat) (E : State → Prop) (o : Nat) (n : Nat) (sh : Nat → qC) (Rf : Nat → Nat → Option Nat) (I : Nat → Nat → Int32) (L : Nat → Nat → Int64) (post : Option Value → qS → Prop) (x1 : Int32) (x2 : Int32) : Prop :=
  vp_in (I o 44) 6 ∧ vp_in (I o 44) 6 ∧ ∀ I2 : Nat → Nat → Int32, q_u I (o + 29) ((I o 44) : Int32).toNatClampNeg ((I (o + 29) ((I o 44) : Int32).toNatClampNeg) + 1) = I2 → post none (n, sh, Rf, I2, L)
set_option maxHeartbeats 4000000 in
set_option maxRecDepth 20000 in
theorem sModel_readReform_228 {D : va_G} {cA : FieldType → ClassId} {b : Nat} {E : State → Prop} (o : Nat) (n : Nat) (sh : Nat → qC) (Rf : Nat → Nat → Option Nat) (I : Nat → Nat → Int32) (L : Nat → Nat → Int64) (post : Option Value → qS → Prop) (x1 : Int32) (x2 : Int32) (hok : q_ok (qGG D cA b E)) (hw : WfModel (qGG D cA b E) n sh Rf o) (H : fModel_readReform_228 D cA b E o n sh Rf I L post x1 x2) : Ev (qGG D cA b E) mModel_readReform 6 (0, 0) 228 [(0, .ref o), (1, .int x1), (2, .int x2)] [] (n, sh, Rf, I, L) post := by
  unfold fModel_readReform_228 at H
  refine ev_aload_n dModel_readReform_228 rfl ?_
  refine ev_getR hok fk_Model_282 (woModel hw) (fun _ _ _ => rfl) (wrModel_40 hw) dModel_readReform_229 ?_
  refine ev_aload_n dModel_readReform_232 rfl ?_
  refine ev_getI hok fk_Model_276 (woModel hw) (fun _ _ _ => rfl) dModel_readReform_233 ?_
  refine ev_dup2_11 dModel_readReform_236 rfl rfl ?_
  obtain ⟨h1, H⟩ := H
  refine ev_iald hok (waModel_40 hw) h1 dModel_readReform_237 ?_
  refine ev_iconst (1) dModel_readReform_238 (by decide) ?_
  refine ev_iadd dModel_readReform_239 ?_
  obtain ⟨h3, H⟩ := H
  refine ev_iast hok (waModel_40 hw) h3 dModel_readReform_240 ?_
  generalize eI2 : q_u I (o + 29) ((I o 44) : Int32).toNatClampNeg ((I (o + 29) ((I o 44) : Int32).toNatClampNeg) + 1) = I2
  have H := H I2 eI2
  exact ev_vret rfl dModel_readReform_241 H
def fModel_readReform_132 (D : va_G) (cA : FieldType → ClassId) (b : Nat) (E : State → Prop) (o : Nat) (n : Nat) (sh : Nat → qC) (Rf : Nat → Nat → Option Nat) (I : Nat → Nat → Int32) (L : Nat → Nat → Int64) (post : Option Value → qS → Prop) (x1 : Int32) (z0 : Int32) (z1 : Int32) : Prop :=
  vp_in (z1 + z0) 60 ∧ (((I (o + 26) ((z1 + z0) : Int32).toNatClampNeg) < 0 → Ev (qGG D cA b E) mModel_isGood 0 (0, 0) 0 (lv_args 0 [.ref o]) [] (n, sh, Rf, I, L) (fun v τ => ∃ (r4 : Int32) (I5 : Nat → Nat → Int32) (L6 : Nat → Nat → Int64), v = some (.int r4) ∧ τ = (n, sh, Rf, I5, L6) ∧ ((¬ r4 = 0 → Ev (qGG D cA b E) mModel_next 2 (0, 0) 0 (lv_args 0 [.ref o]) [] (n, sh, Rf, I5, L6) (fun v τ => ∃ (I10 : Nat → Nat → Int32) (L11 : Nat → Nat → Int64), v = none ∧ τ = (n, sh, Rf, I10, L11) ∧ ∀ I12 : Nat → Nat → Int32, q_u I10 o 49 x1 = I12 → Ev (qGG D cA b E) mModel_e 5 (0, 0) 0 (lv_args 0 [.ref o]) [] (n, sh, Rf, I12, L11) (fun v τ => ∃ (I15 : Nat → Nat → Int32) (L16 : Nat → Nat → Int64), v = none ∧ τ = (n, sh, Rf, I15, L16) ∧ Ev (qGG D cA b E) mModel_is 1 (0, 0) 0 (lv_args 0 [.ref o, .int 59]) [] (n, sh, Rf, I15, L16) (fun v τ => ∃ (r18 : Int32) (I19 : Nat → Nat → Int32) (L20 : Nat → Nat → Int64), v = some (.int r18) ∧ τ = (n, sh, Rf, I19, L20) ∧ Ev (qGG D cA b E) mModel_must 3 (0, 0) 0 (lv_args 0 [.ref o, .int r18]) [] (n, sh, Rf, I19, L20) (fun v τ => ∃ (I23 : Nat → Nat → Int32) (L24 : Nat → Nat → Int64), v = none ∧ τ = (n, sh, Rf, I23, L24) ∧ vp_in ((10 * (I23 o 44)) + x1) 60 ∧ ∀ I25 : Nat → Nat → Int32, q_u I23 (o + 26) (((10 * (I23 o 44)) + x1) : Int32).toNatClampNeg (I12 o 45) = I25 → vp_in ((10 * (I25 o 44)) + x1) 60 ∧ ∀ I27 : Nat → Nat → Int32, q_u I25 (o + 27) (((10 * (I25 o 44)) + x1) : Int32).toNatClampNeg (I25 o 45) = I27 → ((x1 < 5 → fModel_readReform_228 D cA b E o n sh Rf I27 L24 post x1 (I12 o 45)) ∧ (¬ x1 < 5 → vp_in (I27 o 44) 6 ∧ vp_in (I27 o 44) 6 ∧ ∀ I31 : Nat → Nat → Int32, q_u I27 (o + 28) ((I27 o 44) : Int32).toNatClampNeg ((I27 (o + 28) ((I27 o 44) : Int32).toNatClampNeg) + 1) = I31 → fModel_readReform_228 D cA b E o n sh Rf I31 L24 post x1 (I12 o 45)))))))) ∧ (r4 = 0 → post none (n, sh, Rf, I5, L6))))) ∧ (¬ (I (o + 26) ((z1 + z0) : Int32).toNatClampNeg) < 0 → Ev (qGG D cA b E) mModel_wrong 1 (0, 0) 0 (lv_args 0 [.ref o]) [] (n, sh, Rf, I, L) (fun v τ => ∃ (I35 : Nat → Nat → Int32) (L36 : Nat → Nat → Int64), v = none ∧ τ = (n, sh, Rf, I35, L36) ∧ Ev (qGG D cA b E) mModel_isGood 0 (0, 0) 0 (lv_args 0 [.ref o]) [] (n, sh, Rf, I35, L36) (fun v τ => ∃ (r38 : Int32) (I39 : Nat → Nat → Int32) (L40 : Nat → Nat → Int64), v = some (.int r38) ∧ τ = (n, sh, Rf, I39, L40) ∧ ((¬ r38 = 0 → Ev (qGG D cA b E) mModel_next 2 (0, 0) 0 (lv_args 0 [.ref o]) [] (n, sh, Rf, I39, L40) (fun v τ => ∃ (I44 : Nat → Nat → Int32) (L45 : Nat → Nat → Int64), v = none ∧ τ = (n, sh, Rf, I44, L45) ∧ ∀ I46 : Nat → Nat → Int32, q_u I44 o 49 x1 = I46 → Ev (qGG D cA b E) mModel_e 5 (0, 0) 0 (lv_args 0 [.ref o]) [] (n, sh, Rf, I46, L45) (fun v τ => ∃ (I49 : Nat → Nat → Int32) (L50 : Nat → Nat → Int64), v = none ∧ τ = (n, sh, Rf, I49, L50) ∧ Ev (qGG D cA b E) mModel_is 1 (0, 0) 0 (lv_args 0 [.ref o, .int 59]) [] (n, sh, Rf, I49, L50) (fun v τ => ∃ (r52 : Int32) (I53 : Nat → Nat → Int32) (L54 : Nat → Nat → Int64), v = some (.int r52) ∧ τ = (n, sh, Rf, I53, L54) ∧ Ev (qGG D cA b E) mModel_must 3 (0, 0) 0 (lv_args 0 [.ref o, .int r52]) [] (n, sh, Rf, I53, L54) (fun v τ => ∃ (I57 : Nat → Nat → Int32) (L58 : Nat → Nat → Int64), v = none ∧ τ = (n, sh, Rf, I57, L58) ∧ vp_in ((10 * (I57 o 44)) + x1) 60 ∧ ∀ I59 : Nat → Nat → Int32, q_u I57 (o + 26) (((10 * (I57 o 44)) + x1) : Int32).toNatClampNeg (I46 o 45) = I59 → vp_in ((10 * (I59 o 44)) + x1) 60 ∧ ∀ I61 : Nat → Nat → Int32, q_u I59 (o + 27) (((10 * (I59 o 44)) + x1) : Int32).toNatClampNeg (I59 o 45) = I61 → ((x1 < 5 → fModel_readReform_228 D cA b E o n sh Rf I61 L58 post x1 (I46 o 45)) ∧ (¬ x1 < 5 → vp_in (I61 o 44) 6 ∧ vp_in (I61 o 44) 6 ∧ ∀ I65 : Nat → Nat → Int32, q_u I61 (o + 28) ((I61 o 44) : Int32).toNatClampNeg ((I61 (o + 28) ((I61 o 44) : Int32).toNatClampNeg) + 1) = I65 → fModel_readReform_228 D cA b E o n sh Rf I65 L58 post x1 (I46 o 45)))))))) ∧ (r38 = 0 → post none (n, sh, Rf, I39, L40)))))))
set_option maxHeartbeats 4000000 in
set_option maxRecDepth 20000 in
theorem sModel_readReform_132 {D : va_G} {cA : FieldType → ClassId} {b : Nat} {E : State → Prop} (o : Nat) (n : Nat) (sh : Nat → qC) (Rf : Nat → Nat → Option Nat) (I : Nat → Nat → Int32) (L : Nat → Nat → Int64) (post : Option Value → qS → Prop) (x1 : Int32) (z0 : Int32) (z1 : Int32) (hok : q_ok (qGG D cA b E)) (hw : WfModel (qGG D cA b E) n sh Rf o) (H : fModel_readReform_132 D cA b E o n sh Rf I L post x1 z0 z1) : Ev (qGG D cA b E) mModel_readReform 6 (0, 0) 132 [(0, .ref o), (1, .int x1)] [.int z0, .int z1, .ref ((o + 26))] (n, sh, Rf, I, L) post := by
  unfold fModel_readReform_132 at H
  refine ev_iadd dModel_readReform_132 ?_
  obtain ⟨h1, H⟩ := H
  refine ev_iald hok (waModel_37 hw) h1 dModel_readReform_133 ?_
  refine ev_if_lt 141 dModel_readReform_134 (by decide) (fun c2 => ?_) (fun c2 => ?_)
  · have H := H.1 c2
    refine ev_aload_n dModel_readReform_141 rfl ?_
    refine ev_callV [] [] (B' := (0, 0)) (B'' := (0, 0)) hok mmModel_isGood mk_Model_126 (ci := 12) rfl rfl (woModel hw) rfl (Nat.le_of_ble_eq_true rfl) rfl (Nat.le_of_ble_eq_true rfl) dModel_readReform_142 rfl (by decide) H (fun v τ p3 => ?_)
    obtain ⟨r4, I5, L6, rfl, rfl, H⟩ := p3
    refine ev_if_ne 149 dModel_readReform_145 (by decide) (fun c7 => ?_) (fun c7 => ?_)
    · have H := H.1 c7
      refine ev_aload_n dModel_readReform_149 rfl ?_
      refine ev_callV [] [] (B' := (0, 0)) (B'' := (0, 0)) hok mmModel_next mk_Model_130 (ci := 12) rfl rfl (woModel hw) rfl (Nat.le_of_ble_eq_true rfl) rfl (Nat.le_of_ble_eq_true rfl) dModel_readReform_150 rfl (by decide) H (fun v τ p8 => ?_)
      obtain ⟨I10, L11, rfl, rfl, H⟩ := p8
      refine ev_aload_n dModel_readReform_153 rfl ?_
      refine ev_iload_n dModel_readReform_154 rfl ?_
      refine ev_putI hok fk_Model_309 (woModel hw) (fun _ _ _ => rfl) rfl rfl dModel_readReform_155 ?_
      generalize eI12 : q_u I10 o 49 x1 = I12
      have H := H I12 eI12
      refine ev_aload_n dModel_readReform_158 rfl ?_
      refine ev_getI hok fk_Model_288 (woModel hw) (fun _ _ _ => rfl) dModel_readReform_159 ?_
      refine ev_istore_n dModel_readReform_162 (by decide) ?_
      refine ev_aload_n dModel_readReform_163 rfl ?_
      refine ev_callV [] [] (B' := (0, 0)) (B'' := (0, 0)) hok mmModel_e mk_Model_312 (ci := 12) rfl rfl (woModel hw) rfl (Nat.le_of_ble_eq_true rfl) rfl (Nat.le_of_ble_eq_true rfl) dModel_readReform_164 rfl (by decide) H (fun v τ p13 => ?_)
      obtain ⟨I15, L16, rfl, rfl, H⟩ := p13
      refine ev_aload_n dModel_readReform_167 rfl ?_
      refine ev_aload_n dModel_readReform_168 rfl ?_
      refine ev_bipush (59) dModel_readReform_169 (by decide) ?_
      refine ev_callV [.int 59] [.ref o] (B' := (0, 0)) (B'' := (0, 0)) hok mmModel_is mk_Model_193 (ci := 12) rfl rfl (woModel hw) rfl (Nat.le_of_ble_eq_true rfl) rfl (Nat.le_of_ble_eq_true rfl) dModel_readReform_171 rfl (by decide) H (fun v τ p17 => ?_)
      obtain ⟨r18, I19, L20, rfl, rfl, H⟩ := p17
      refine ev_callV [.int r18] [] (B' := (0, 0)) (B'' := (0, 0)) hok mmModel_must mk_Model_196 (ci := 12) rfl rfl (woModel hw) rfl (Nat.le_of_ble_eq_true rfl) rfl (Nat.le_of_ble_eq_true rfl) dModel_readReform_174 rfl (by decide) H (fun v τ p21 => ?_)
      obtain ⟨I23, L24, rfl, rfl, H⟩ := p21
      refine ev_aload_n dModel_readReform_177 rfl ?_
      refine ev_getR hok fk_Model_285 (woModel hw) (fun _ _ _ => rfl) (wrModel_37 hw) dModel_readReform_178 ?_
      refine ev_bipush (10) dModel_readReform_181 (by decide) ?_
      refine ev_aload_n dModel_readReform_183 rfl ?_
      refine ev_getI hok fk_Model_276 (woModel hw) (fun _ _ _ => rfl) dModel_readReform_184 ?_
      refine ev_imul dModel_readReform_187 ?_
      refine ev_iload_n dModel_readReform_188 rfl ?_
      refine ev_iadd dModel_readReform_189 ?_
      refine ev_iload_n dModel_readReform_190 rfl ?_
      obtain ⟨h26, H⟩ := H
      refine ev_iast hok (waModel_37 hw) h26 dModel_readReform_191 ?_
      generalize eI25 : q_u I23 (o + 26) (((10 * (I23 o 44)) + x1) : Int32).toNatClampNeg (I12 o 45) = I25
      have H := H I25 eI25
      refine ev_aload_n dModel_readReform_192 rfl ?_
      refine ev_getR hok fk_Model_300 (woModel hw) (fun _ _ _ => rfl) (wrModel_38 hw) dModel_readReform_193 ?_
      refine ev_bipush (10) dModel_readReform_196 (by decide) ?_
      refine ev_aload_n dModel_readReform_198 rfl ?_
      refine ev_getI hok fk_Model_276 (woModel hw) (fun _ _ _ => rfl) dModel_readReform_199 ?_
      refine ev_imul dModel_readReform_202 ?_
      refine ev_iload_n dModel_readReform_203 rfl ?_
      refine ev_iadd dModel_readReform_204 ?_
      refine ev_aload_n dModel_readReform_205 rfl ?_
      refine ev_getI hok fk_Model_288 (woModel hw) (fun _ _ _ => rfl) dModel_readReform_206 ?_
      obtain ⟨h28, H⟩ := H
      refine ev_iast hok (waModel_38 hw) h28 dModel_readReform_209 ?_
      generalize eI27 : q_u I25 (o + 27) (((10 * (I25 o 44)) + x1) : Int32).toNatClampNeg (I25 o 45) = I27
      have H := H I27 eI27
      refine ev_iload_n dModel_readReform_210 rfl ?_
      refine ev_iconst (5) dModel_readReform_211 (by decide) ?_
      refine ev_icmp_lt 228 dModel_readReform_212 (by decide) (fun c29 => ?_) (fun c29 => ?_)
      · have H := H.1 c29
        exact ev_sub [(0, .ref o), (1, .int x1), (2, .int ((I12 o 45)))] rfl (sModel_readReform_228 o n sh Rf I27 L24 post x1 (I12 o 45) hok hw H)
      · have H := H.2 c29
        refine ev_aload_n dModel_readReform_215 rfl ?_
        refine ev_getR hok fk_Model_279 (woModel hw) (fun _ _ _ => rfl) (wrModel_39 hw) dModel_readReform_216 ?_
        refine ev_aload_n dModel_readReform_219 rfl ?_
        refine ev_getI hok fk_Model_276 (woModel hw) (fun _ _ _ => rfl) dModel_readReform_220 ?_
        refine ev_dup2_11 dModel_readReform_223 rfl rfl ?_
        obtain ⟨h30, H⟩ := H
        refine ev_iald hok (waModel_39 hw) h30 dModel_readReform_224 ?_
        refine ev_iconst (1) dModel_readReform_225 (by decide) ?_
        refine ev_iadd dModel_readReform_226 ?_
        obtain ⟨h32, H⟩ := H
        refine ev_iast hok (waModel_39 hw) h32 dModel_readReform_227 ?_
        generalize eI31 : q_u I27 (o + 28) ((I27 o 44) : Int32).toNatClampNeg ((I27 (o + 28) ((I27 o 44) : Int32).toNatClampNeg) + 1) = I31
        have H := H I31 eI31
        exact ev_sub [(0, .ref o), (1, .int x1), (2, .int ((I12 o 45)))] rfl (sModel_readReform_228 o n sh Rf I31 L24 post x1 (I12 o 45) hok hw H)
    · have H := H.2 c7
      exact ev_vret rfl dModel_readReform_148 H
  · have H := H.2 c2
    refine ev_aload_n dModel_readReform_137 rfl ?_
    refine ev_callV [] [] (B' := (0, 0)) (B'' := (0, 0)) hok mmModel_wrong mk_Model_134 (ci := 12) rfl rfl (woModel hw) rfl (Nat.le_of_ble_eq_true rfl) rfl (Nat.le_of_ble_eq_true rfl) dModel_readReform_138 rfl (by decide) H (fun v τ p33 => ?_)
    obtain ⟨I35, L36, rfl, rfl, H⟩ := p33
    refine ev_aload_n dModel_readReform_141 rfl ?_
    refine ev_callV [] [] (B' := (0, 0)) (B'' := (0, 0)) hok mmModel_isGood mk_Model_126 (ci := 12) rfl rfl (woModel hw) rfl (Nat.le_of_ble_eq_true rfl) rfl (Nat.le_of_ble_eq_true rfl) dModel_readReform_142 rfl (by decide) H (fun v τ p37 => ?_)
    obtain ⟨r38, I39, L40, rfl, rfl, H⟩ := p37
    refine ev_if_ne 149 dModel_readReform_145 (by decide) (fun c41 => ?_) (fun c41 => ?_)
    · have H := H.1 c41
      refine ev_aload_n dModel_readReform_149 rfl ?_
      refine ev_callV [] [] (B' := (0, 0)) (B'' := (0, 0)) hok mmModel_next mk_Model_130 (ci := 12) rfl rfl (woModel hw) rfl (Nat.le_of_ble_eq_true rfl) rfl (Nat.le_of_ble_eq_true rfl) dModel_readReform_150 rfl (by decide) H (fun v τ p42 => ?_)
      obtain ⟨I44, L45, rfl, rfl, H⟩ := p42
      refine ev_aload_n dModel_readReform_153 rfl ?_
      refine ev_iload_n dModel_readReform_154 rfl ?_
      refine ev_putI hok fk_Model_309 (woModel hw) (fun _ _ _ => rfl) rfl rfl dModel_readReform_155 ?_
      generalize eI46 : q_u I44 o 49 x1 = I46
      have H := H I46 eI46
      refine ev_aload_n dModel_readReform_158 rfl ?_
      refine ev_getI hok fk_Model_288 (woModel hw) (fun _ _ _ => rfl) dModel_readReform_159 ?_
      refine ev_istore_n dModel_readReform_162 (by decide) ?_
      refine ev_aload_n dModel_readReform_163 rfl ?_
      refine ev_callV [] [] (B' := (0, 0)) (B'' := (0, 0)) hok mmModel_e mk_Model_312 (ci := 12) rfl rfl (woModel hw) rfl (Nat.le_of_ble_eq_true rfl) rfl (Nat.le_of_ble_eq_true rfl) dModel_readReform_164 rfl (by decide) H (fun v τ p47 => ?_)
      obtain ⟨I49, L50, rfl, rfl, H⟩ := p47
      refine ev_aload_n dModel_readReform_167 rfl ?_
      refine ev_aload_n dModel_readReform_168 rfl ?_
      refine ev_bipush (59) dModel_readReform_169 (by decide) ?_
      refine ev_callV [.int 59] [.ref o] (B' := (0, 0)) (B'' := (0, 0)) hok mmModel_is mk_Model_193 (ci := 12) rfl rfl (woModel hw) rfl (Nat.le_of_ble_eq_true rfl) rfl (Nat.le_of_ble_eq_true rfl) dModel_readReform_171 rfl (by decide) H (fun v τ p51 => ?_)
      obtain ⟨r52, I53, L54, rfl, rfl, H⟩ := p51
      refine ev_callV [.int r52] [] (B' := (0, 0)) (B'' := (0, 0)) hok mmModel_must mk_Model_196 (ci := 12) rfl rfl (woModel hw) rfl (Nat.le_of_ble_eq_true rfl) rfl (Nat.le_of_ble_eq_true rfl) dModel_readReform_174 rfl (by decide) H (fun v τ p55 => ?_)
      obtain ⟨I57, L58, rfl, rfl, H⟩ := p55
      refine ev_aload_n dModel_readReform_177 rfl ?_
      refine ev_getR hok fk_Model_285 (woModel hw) (fun _ _ _ => rfl) (wrModel_37 hw) dModel_readReform_178 ?_
      refine ev_bipush (10) dModel_readReform_181 (by decide) ?_
      refine ev_aload_n dModel_readReform_183 rfl ?_
      refine ev_getI hok fk_Model_276 (woModel hw) (fun _ _ _ => rfl) dModel_readReform_184 ?_
      refine ev_imul dModel_readReform_187 ?_
      refine ev_iload_n dModel_readReform_188 rfl ?_
      refine ev_iadd dModel_readReform_189 ?_
      refine ev_iload_n dModel_readReform_190 rfl ?_
      obtain ⟨h60, H⟩ := H
      refine ev_iast hok (waModel_37 hw) h60 dModel_readReform_191 ?_
      generalize eI59 : q_u I57 (o + 26) (((10 * (I57 o 44)) + x1) : Int32).toNatClampNeg (I46 o 45) = I59
      have H := H I59 eI59
      refine ev_aload_n dModel_readReform_192 rfl ?_
      refine ev_getR hok fk_Model_300 (woModel hw) (fun _ _ _ => rfl) (wrModel_38 hw) dModel_readReform_193 ?_
      refine ev_bipush (10) dModel_readReform_196 (by decide) ?_
      refine ev_aload_n dModel_readReform_198 rfl ?_
      refine ev_getI hok fk_Model_276 (woModel hw) (fun _ _ _ => rfl) dModel_readReform_199 ?_
      refine ev_imul dModel_readReform_202 ?_
      refine ev_iload_n dModel_readReform_203 rfl ?_
      refine ev_iadd dModel_readReform_204 ?_
      refine ev_aload_n dModel_readReform_205 rfl ?_
      refine ev_getI hok fk_Model_288 (woModel hw) (fun _ _ _ => rfl) dModel_readReform_206 ?_
      obtain ⟨h62, H⟩ := H
      refine ev_iast hok (waModel_38 hw) h62 dModel_readReform_209 ?_
      generalize eI61 : q_u I59 (o + 27) (((10 * (I59 o 44)) + x1) : Int32).toNatClampNeg (I59 o 45) = I61
      have H := H I61 eI61
      refine ev_iload_n dModel_readReform_210 rfl ?_
      refine ev_iconst (5) dModel_readReform_211 (by decide) ?_
      refine ev_icmp_lt 228 dModel_readReform_212 (by decide) (fun c63 => ?_) (fun c63 => ?_)
      · have H := H.1 c63
        exact ev_sub [(0, .ref o), (1, .int x1), (2, .int ((I46 o 45)))] rfl (sModel_readReform_228 o n sh Rf I61 L58 post x1 (I46 o 45) hok hw H)
      · have H := H.2 c63
        refine ev_aload_n dModel_readReform_215 rfl ?_
        refine ev_getR hok fk_Model_279 (woModel hw) (fun _ _ _ => rfl) (wrModel_39 hw) dModel_readReform_216 ?_
        refine ev_aload_n dModel_readReform_219 rfl ?_
        refine ev_getI hok fk_Model_276 (woModel hw) (fun _ _ _ => rfl) dModel_readReform_220 ?_
        refine ev_dup2_11 dModel_readReform_223 rfl rfl ?_
        obtain ⟨h64, H⟩ := H
        refine ev_iald hok (waModel_39 hw) h64 dModel_readReform_224 ?_
        refine ev_iconst (1) dModel_readReform_225 (by decide) ?_
        refine ev_iadd dModel_readReform_226 ?_
        obtain ⟨h66, H⟩ := H
        refine ev_iast hok (waModel_39 hw) h66 dModel_readReform_227 ?_
        generalize eI65 : q_u I61 (o + 28) ((I61 o 44) : Int32).toNatClampNeg ((I61 (o + 28) ((I61 o 44) : Int32).toNatClampNeg) + 1) = I65
        have H := H I65 eI65
        exact ev_sub [(0, .ref o), (1, .int x1), (2, .int ((I46 o 45)))] rfl (sModel_readReform_228 o n sh Rf I65 L58 post x1 (I46 o 45) hok hw H)
    · have H := H.2 c41
      exact ev_vret rfl dModel_readReform_148 H
def fModel_readReform_127 (D : va_G) (cA : FieldType → ClassId) (b : Nat) (E : State → Prop) (o : Nat) (n : Nat) (sh : Nat → qC) (Rf : Nat → Nat → Option Nat) (I : Nat → Nat → Int32) (L : Nat → Nat → Int64) (post : Option Value → qS → Prop) (x1 : Int32) (z0 : Int32) : Prop :=
  fModel_readReform_132 D cA b E o n sh Rf I L post x1 0 z0
set_option maxHeartbeats 4000000 in
set_option maxRecDepth 20000 in
theorem sModel_readReform_127 {D : va_G} {cA : FieldType → ClassId} {b : Nat} {E : State → Prop} (o : Nat) (n : Nat) (sh : Nat → qC) (Rf : Nat → Nat → Option Nat) (I : Nat → Nat → Int32) (L : Nat → Nat → Int64) (post : Option Value → qS → Prop) (x1 : Int32) (z0 : Int32) (hok : q_ok (qGG D cA b E)) (hw : WfModel (qGG D cA b E) n sh Rf o) (H : fModel_readReform_127 D cA b E o n sh Rf I L post x1 z0) : Ev (qGG D cA b E) mModel_readReform 6 (0, 0) 127 [(0, .ref o), (1, .int x1)] [.int z0, .ref ((o + 26))] (n, sh, Rf, I, L) post := by
  unfold fModel_readReform_127 at H
  refine ev_iconst (0) dModel_readReform_127 (by decide) ?_
  refine ev_goto 132 dModel_readReform_128 (by decide) ?_
  exact ev_sub [(0, .ref o), (1, .int x1)] rfl (sModel_readReform_132 o n sh Rf I L post x1 0 z0 hok hw H)
def fModel_readReform_95 (D : va_G) (cA : FieldType → ClassId) (b : Nat) (E : State → Prop) (o : Nat) (n : Nat) (sh : Nat → qC) (Rf : Nat → Nat → Option Nat) (I : Nat → Nat → Int32) (L : Nat → Nat → Int64) (post : Option Value → qS → Prop) (z0 : Int32) : Prop :=
  ((z0 < 0 → Ev (qGG D cA b E) mModel_wrong 1 (0, 0) 0 (lv_args 0 [.ref o]) [] (n, sh, Rf, I, L) (fun v τ => ∃ (I4 : Nat → Nat → Int32) (L5 : Nat → Nat → Int64), v = none ∧ τ = (n, sh, Rf, I4, L5) ∧ Ev (qGG D cA b E) mModel_isGood 0 (0, 0) 0 (lv_args 0 [.ref o]) [] (n, sh, Rf, I4, L5) (fun v τ => ∃ (r7 : Int32) (I8 : Nat → Nat → Int32) (L9 : Nat → Nat → Int64), v = some (.int r7) ∧ τ = (n, sh, Rf, I8, L9) ∧ ((¬ r7 = 0 → Ev (qGG D cA b E) mModel_next 2 (0, 0) 0 (lv_args 0 [.ref o]) [] (n, sh, Rf, I8, L9) (fun v τ => ∃ (I13 : Nat → Nat → Int32) (L14 : Nat → Nat → Int64), v = none ∧ τ = (n, sh, Rf, I13, L14) ∧ ∀ I15 : Nat → Nat → Int32, q_u I13 o 49 z0 = I15 → Ev (qGG D cA b E) mModel_e 5 (0, 0) 0 (lv_args 0 [.ref o]) [] (n, sh, Rf, I15, L14) (fun v τ => ∃ (I18 : Nat → Nat → Int32) (L19 : Nat → Nat → Int64), v = none ∧ τ = (n, sh, Rf, I18, L19) ∧ Ev (qGG D cA b E) mModel_is 1 (0, 0) 0 (lv_args 0 [.ref o, .int 59]) [] (n, sh, Rf, I18, L19) (fun v τ => ∃ (r21 : Int32) (I22 : Nat → Nat → Int32) (L23 : Nat → Nat → Int64), v = some (.int r21) ∧ τ = (n, sh, Rf, I22, L23) ∧ Ev (qGG D cA b E) mModel_must 3 (0, 0) 0 (lv_args 0 [.ref o, .int r21]) [] (n, sh, Rf, I22, L23) (fun v τ => ∃ (I26 : Nat → Nat → Int32) (L27 : Nat → Nat → Int64), v = none ∧ τ = (n, sh, Rf, I26, L27) ∧ vp_in ((10 * (I26 o 44)) + z0) 60 ∧ ∀ I28 : Nat → Nat → Int32, q_u I26 (o + 26) (((10 * (I26 o 44)) + z0) : Int32).toNatClampNeg (I15 o 45) = I28 → vp_in ((10 * (I28 o 44)) + z0) 60 ∧ ∀ I30 : Nat → Nat → Int32, q_u I28 (o + 27) (((10 * (I28 o 44)) + z0) : Int32).toNatClampNeg (I28 o 45) = I30 → ((z0 < 5 → fModel_readReform_228 D cA b E o n sh Rf I30 L27 post z0 (I15 o 45)) ∧ (¬ z0 < 5 → vp_in (I30 o 44) 6 ∧ vp_in (I30 o 44) 6 ∧ ∀ I34 : Nat → Nat → Int32, q_u I30 (o + 28) ((I30 o 44) : Int32).toNatClampNeg ((I30 (o + 28) ((I30 o 44) : Int32).toNatClampNeg) + 1) = I34 → fModel_readReform_228 D cA b E o n sh Rf I34 L27 post z0 (I15 o 45)))))))) ∧ (r7 = 0 → post none (n, sh, Rf, I8, L9)))))) ∧ (¬ z0 < 0 → ((z0 = 10 → Ev (qGG D cA b E) mModel_wrong 1 (0, 0) 0 (lv_args 0 [.ref o]) [] (n, sh, Rf, I, L) (fun v τ => ∃ (I39 : Nat → Nat → Int32) (L40 : Nat → Nat → Int64), v = none ∧ τ = (n, sh, Rf, I39, L40) ∧ Ev (qGG D cA b E) mModel_isGood 0 (0, 0) 0 (lv_args 0 [.ref o]) [] (n, sh, Rf, I39, L40) (fun v τ => ∃ (r42 : Int32) (I43 : Nat → Nat → Int32) (L44 : Nat → Nat → Int64), v = some (.int r42) ∧ τ = (n, sh, Rf, I43, L44) ∧ ((¬ r42 = 0 → Ev (qGG D cA b E) mModel_next 2 (0, 0) 0 (lv_args 0 [.ref o]) [] (n, sh, Rf, I43, L44) (fun v τ => ∃ (I48 : Nat → Nat → Int32) (L49 : Nat → Nat → Int64), v = none ∧ τ = (n, sh, Rf, I48, L49) ∧ ∀ I50 : Nat → Nat → Int32, q_u I48 o 49 z0 = I50 → Ev (qGG D cA b E) mModel_e 5 (0, 0) 0 (lv_args 0 [.ref o]) [] (n, sh, Rf, I50, L49) (fun v τ => ∃ (I53 : Nat → Nat → Int32) (L54 : Nat → Nat → Int64), v = none ∧ τ = (n, sh, Rf, I53, L54) ∧ Ev (qGG D cA b E) mModel_is 1 (0, 0) 0 (lv_args 0 [.ref o, .int 59]) [] (n, sh, Rf, I53, L54) (fun v τ => ∃ (r56 : Int32) (I57 : Nat → Nat → Int32) (L58 : Nat → Nat → Int64), v = some (.int r56) ∧ τ = (n, sh, Rf, I57, L58) ∧ Ev (qGG D cA b E) mModel_must 3 (0, 0) 0 (lv_args 0 [.ref o, .int r56]) [] (n, sh, Rf, I57, L58) (fun v τ => ∃ (I61 : Nat → Nat → Int32) (L62 : Nat → Nat → Int64), v = none ∧ τ = (n, sh, Rf, I61, L62) ∧ vp_in ((10 * (I61 o 44)) + z0) 60 ∧ ∀ I63 : Nat → Nat → Int32, q_u I61 (o + 26) (((10 * (I61 o 44)) + z0) : Int32).toNatClampNeg (I50 o 45) = I63 → vp_in ((10 * (I63 o 44)) + z0) 60 ∧ ∀ I65 : Nat → Nat → Int32, q_u I63 (o + 27) (((10 * (I63 o 44)) + z0) : Int32).toNatClampNeg (I63 o 45) = I65 → ((z0 < 5 → fModel_readReform_228 D cA b E o n sh Rf I65 L62 post z0 (I50 o 45)) ∧ (¬ z0 < 5 → vp_in (I65 o 44) 6 ∧ vp_in (I65 o 44) 6 ∧ ∀ I69 : Nat → Nat → Int32, q_u I65 (o + 28) ((I65 o 44) : Int32).toNatClampNeg ((I65 (o + 28) ((I65 o 44) : Int32).toNatClampNeg) + 1) = I69 → fModel_readReform_228 D cA b E o n sh Rf I69 L62 post z0 (I50 o 45)))))))) ∧ (r42 = 0 → post none (n, sh, Rf, I43, L44)))))) ∧ (¬ z0 = 10 → ((z0 < 0 → fModel_readReform_127 D cA b E o n sh Rf I L post z0 (10 * (I o 44))) ∧ (¬ z0 < 0 → ((z0 < 10 → fModel_readReform_132 D cA b E o n sh Rf I L post z0 z0 (10 * (I o 44))) ∧ (¬ z0 < 10 → fModel_readReform_127 D cA b E o n sh Rf I L post z0 (10 * (I o 44))))))))))
set_option maxHeartbeats 4000000 in
set_option maxRecDepth 20000 in
theorem sModel_readReform_95 {D : va_G} {cA : FieldType → ClassId} {b : Nat} {E : State → Prop} (o : Nat) (n : Nat) (sh : Nat → qC) (Rf : Nat → Nat → Option Nat) (I : Nat → Nat → Int32) (L : Nat → Nat → Int64) (post : Option Value → qS → Prop) (z0 : Int32) (hok : q_ok (qGG D cA b E)) (hw : WfModel (qGG D cA b E) n sh Rf o) (H : fModel_readReform_95 D cA b E o n sh Rf I L post z0) : Ev (qGG D cA b E) mModel_readReform 6 (0, 0) 95 [(0, .ref o)] [.int z0] (n, sh, Rf, I, L) post := by
  unfold fModel_readReform_95 at H
  refine ev_istore_n dModel_readReform_95 (by decide) ?_
  refine ev_iload_n dModel_readReform_96 rfl ?_
  refine ev_if_lt 137 dModel_readReform_97 (by decide) (fun c1 => ?_) (fun c1 => ?_)
  · have H := H.1 c1
    refine ev_aload_n dModel_readReform_137 rfl ?_
    refine ev_callV [] [] (B' := (0, 0)) (B'' := (0, 0)) hok mmModel_wrong mk_Model_134 (ci := 12) rfl rfl (woModel hw) rfl (Nat.le_of_ble_eq_true rfl) rfl (Nat.le_of_ble_eq_true rfl) dModel_readReform_138 rfl (by decide) H (fun v τ p2 => ?_)
    obtain ⟨I4, L5, rfl, rfl, H⟩ := p2
    refine ev_aload_n dModel_readReform_141 rfl ?_
    refine ev_callV [] [] (B' := (0, 0)) (B'' := (0, 0)) hok mmModel_isGood mk_Model_126 (ci := 12) rfl rfl (woModel hw) rfl (Nat.le_of_ble_eq_true rfl) rfl (Nat.le_of_ble_eq_true rfl) dModel_readReform_142 rfl (by decide) H (fun v τ p6 => ?_)
    obtain ⟨r7, I8, L9, rfl, rfl, H⟩ := p6
    refine ev_if_ne 149 dModel_readReform_145 (by decide) (fun c10 => ?_) (fun c10 => ?_)
    · have H := H.1 c10
      refine ev_aload_n dModel_readReform_149 rfl ?_
      refine ev_callV [] [] (B' := (0, 0)) (B'' := (0, 0)) hok mmModel_next mk_Model_130 (ci := 12) rfl rfl (woModel hw) rfl (Nat.le_of_ble_eq_true rfl) rfl (Nat.le_of_ble_eq_true rfl) dModel_readReform_150 rfl (by decide) H (fun v τ p11 => ?_)
      obtain ⟨I13, L14, rfl, rfl, H⟩ := p11
      refine ev_aload_n dModel_readReform_153 rfl ?_
      refine ev_iload_n dModel_readReform_154 rfl ?_
      refine ev_putI hok fk_Model_309 (woModel hw) (fun _ _ _ => rfl) rfl rfl dModel_readReform_155 ?_
      generalize eI15 : q_u I13 o 49 z0 = I15
      have H := H I15 eI15
      refine ev_aload_n dModel_readReform_158 rfl ?_
      refine ev_getI hok fk_Model_288 (woModel hw) (fun _ _ _ => rfl) dModel_readReform_159 ?_
      refine ev_istore_n dModel_readReform_162 (by decide) ?_
      refine ev_aload_n dModel_readReform_163 rfl ?_
      refine ev_callV [] [] (B' := (0, 0)) (B'' := (0, 0)) hok mmModel_e mk_Model_312 (ci := 12) rfl rfl (woModel hw) rfl (Nat.le_of_ble_eq_true rfl) rfl (Nat.le_of_ble_eq_true rfl) dModel_readReform_164 rfl (by decide) H (fun v τ p16 => ?_)
      obtain ⟨I18, L19, rfl, rfl, H⟩ := p16
      refine ev_aload_n dModel_readReform_167 rfl ?_
      refine ev_aload_n dModel_readReform_168 rfl ?_
      refine ev_bipush (59) dModel_readReform_169 (by decide) ?_
      refine ev_callV [.int 59] [.ref o] (B' := (0, 0)) (B'' := (0, 0)) hok mmModel_is mk_Model_193 (ci := 12) rfl rfl (woModel hw) rfl (Nat.le_of_ble_eq_true rfl) rfl (Nat.le_of_ble_eq_true rfl) dModel_readReform_171 rfl (by decide) H (fun v τ p20 => ?_)
      obtain ⟨r21, I22, L23, rfl, rfl, H⟩ := p20
      refine ev_callV [.int r21] [] (B' := (0, 0)) (B'' := (0, 0)) hok mmModel_must mk_Model_196 (ci := 12) rfl rfl (woModel hw) rfl (Nat.le_of_ble_eq_true rfl) rfl (Nat.le_of_ble_eq_true rfl) dModel_readReform_174 rfl (by decide) H (fun v τ p24 => ?_)
      obtain ⟨I26, L27, rfl, rfl, H⟩ := p24
      refine ev_aload_n dModel_readReform_177 rfl ?_
      refine ev_getR hok fk_Model_285 (woModel hw) (fun _ _ _ => rfl) (wrModel_37 hw) dModel_readReform_178 ?_
      refine ev_bipush (10) dModel_readReform_181 (by decide) ?_
      refine ev_aload_n dModel_readReform_183 rfl ?_
      refine ev_getI hok fk_Model_276 (woModel hw) (fun _ _ _ => rfl) dModel_readReform_184 ?_
      refine ev_imul dModel_readReform_187 ?_
      refine ev_iload_n dModel_readReform_188 rfl ?_
      refine ev_iadd dModel_readReform_189 ?_
      refine ev_iload_n dModel_readReform_190 rfl ?_
      obtain ⟨h29, H⟩ := H
      refine ev_iast hok (waModel_37 hw) h29 dModel_readReform_191 ?_
      generalize eI28 : q_u I26 (o + 26) (((10 * (I26 o 44)) + z0) : Int32).toNatClampNeg (I15 o 45) = I28
      have H := H I28 eI28
      refine ev_aload_n dModel_readReform_192 rfl ?_
      refine ev_getR hok fk_Model_300 (woModel hw) (fun _ _ _ => rfl) (wrModel_38 hw) dModel_readReform_193 ?_
      refine ev_bipush (10) dModel_readReform_196 (by decide) ?_
      refine ev_aload_n dModel_readReform_198 rfl ?_
      refine ev_getI hok fk_Model_276 (woModel hw) (fun _ _ _ => rfl) dModel_readReform_199 ?_
      refine ev_imul dModel_readReform_202 ?_
      refine ev_iload_n dModel_readReform_203 rfl ?_
      refine ev_iadd dModel_readReform_204 ?_
      refine ev_aload_n dModel_readReform_205 rfl ?_
      refine ev_getI hok fk_Model_288 (woModel hw) (fun _ _ _ => rfl) dModel_readReform_206 ?_
      obtain ⟨h31, H⟩ := H
      refine ev_iast hok (waModel_38 hw) h31 dModel_readReform_209 ?_
      generalize eI30 : q_u I28 (o + 27) (((10 * (I28 o 44)) + z0) : Int32).toNatClampNeg (I28 o 45) = I30
      have H := H I30 eI30
      refine ev_iload_n dModel_readReform_210 rfl ?_
      refine ev_iconst (5) dModel_readReform_211 (by decide) ?_
      refine ev_icmp_lt 228 dModel_readReform_212 (by decide) (fun c32 => ?_) (fun c32 => ?_)
      · have H := H.1 c32
        exact ev_sub [(0, .ref o), (1, .int z0), (2, .int ((I15 o 45)))] rfl (sModel_readReform_228 o n sh Rf I30 L27 post z0 (I15 o 45) hok hw H)
      · have H := H.2 c32
        refine ev_aload_n dModel_readReform_215 rfl ?_
        refine ev_getR hok fk_Model_279 (woModel hw) (fun _ _ _ => rfl) (wrModel_39 hw) dModel_readReform_216 ?_
        refine ev_aload_n dModel_readReform_219 rfl ?_
        refine ev_getI hok fk_Model_276 (woModel hw) (fun _ _ _ => rfl) dModel_readReform_220 ?_
        refine ev_dup2_11 dModel_readReform_223 rfl rfl ?_
        obtain ⟨h33, H⟩ := H
        refine ev_iald hok (waModel_39 hw) h33 dModel_readReform_224 ?_
        refine ev_iconst (1) dModel_readReform_225 (by decide) ?_
        refine ev_iadd dModel_readReform_226 ?_
        obtain ⟨h35, H⟩ := H
        refine ev_iast hok (waModel_39 hw) h35 dModel_readReform_227 ?_
        generalize eI34 : q_u I30 (o + 28) ((I30 o 44) : Int32).toNatClampNeg ((I30 (o + 28) ((I30 o 44) : Int32).toNatClampNeg) + 1) = I34
        have H := H I34 eI34
        exact ev_sub [(0, .ref o), (1, .int z0), (2, .int ((I15 o 45)))] rfl (sModel_readReform_228 o n sh Rf I34 L27 post z0 (I15 o 45) hok hw H)
    · have H := H.2 c10
      exact ev_vret rfl dModel_readReform_148 H
  · have H := H.2 c1
    refine ev_iload_n dModel_readReform_100 rfl ?_
    refine ev_bipush (10) dModel_readReform_101 (by decide) ?_
    refine ev_icmp_eq 137 dModel_readReform_103 (by decide) (fun c36 => ?_) (fun c36 => ?_)
    · have H := H.1 c36
      refine ev_aload_n dModel_readReform_137 rfl ?_
      refine ev_callV [] [] (B' := (0, 0)) (B'' := (0, 0)) hok mmModel_wrong mk_Model_134 (ci := 12) rfl rfl (woModel hw) rfl (Nat.le_of_ble_eq_true rfl) rfl (Nat.le_of_ble_eq_true rfl) dModel_readReform_138 rfl (by decide) H (fun v τ p37 => ?_)
      obtain ⟨I39, L40, rfl, rfl, H⟩ := p37
      refine ev_aload_n dModel_readReform_141 rfl ?_
      refine ev_callV [] [] (B' := (0, 0)) (B'' := (0, 0)) hok mmModel_isGood mk_Model_126 (ci := 12) rfl rfl (woModel hw) rfl (Nat.le_of_ble_eq_true rfl) rfl (Nat.le_of_ble_eq_true rfl) dModel_readReform_142 rfl (by decide) H (fun v τ p41 => ?_)
      obtain ⟨r42, I43, L44, rfl, rfl, H⟩ := p41
      refine ev_if_ne 149 dModel_readReform_145 (by decide) (fun c45 => ?_) (fun c45 => ?_)
      · have H := H.1 c45
        refine ev_aload_n dModel_readReform_149 rfl ?_
        refine ev_callV [] [] (B' := (0, 0)) (B'' := (0, 0)) hok mmModel_next mk_Model_130 (ci := 12) rfl rfl (woModel hw) rfl (Nat.le_of_ble_eq_true rfl) rfl (Nat.le_of_ble_eq_true rfl) dModel_readReform_150 rfl (by decide) H (fun v τ p46 => ?_)
        obtain ⟨I48, L49, rfl, rfl, H⟩ := p46
        refine ev_aload_n dModel_readReform_153 rfl ?_
        refine ev_iload_n dModel_readReform_154 rfl ?_
        refine ev_putI hok fk_Model_309 (woModel hw) (fun _ _ _ => rfl) rfl rfl dModel_readReform_155 ?_
        generalize eI50 : q_u I48 o 49 z0 = I50
        have H := H I50 eI50
        refine ev_aload_n dModel_readReform_158 rfl ?_
        refine ev_getI hok fk_Model_288 (woModel hw) (fun _ _ _ => rfl) dModel_readReform_159 ?_
        refine ev_istore_n dModel_readReform_162 (by decide) ?_
        refine ev_aload_n dModel_readReform_163 rfl ?_
        refine ev_callV [] [] (B' := (0, 0)) (B'' := (0, 0)) hok mmModel_e mk_Model_312 (ci := 12) rfl rfl (woModel hw) rfl (Nat.le_of_ble_eq_true rfl) rfl (Nat.le_of_ble_eq_true rfl) dModel_readReform_164 rfl (by decide) H (fun v τ p51 => ?_)
        obtain ⟨I53, L54, rfl, rfl, H⟩ := p51
        refine ev_aload_n dModel_readReform_167 rfl ?_
        refine ev_aload_n dModel_readReform_168 rfl ?_
        refine ev_bipush (59) dModel_readReform_169 (by decide) ?_
        refine ev_callV [.int 59] [.ref o] (B' := (0, 0)) (B'' := (0, 0)) hok mmModel_is mk_Model_193 (ci := 12) rfl rfl (woModel hw) rfl (Nat.le_of_ble_eq_true rfl) rfl (Nat.le_of_ble_eq_true rfl) dModel_readReform_171 rfl (by decide) H (fun v τ p55 => ?_)
        obtain ⟨r56, I57, L58, rfl, rfl, H⟩ := p55
        refine ev_callV [.int r56] [] (B' := (0, 0)) (B'' := (0, 0)) hok mmModel_must mk_Model_196 (ci := 12) rfl rfl (woModel hw) rfl (Nat.le_of_ble_eq_true rfl) rfl (Nat.le_of_ble_eq_true rfl) dModel_readReform_174 rfl (by decide) H (fun v τ p59 => ?_)
        obtain ⟨I61, L62, rfl, rfl, H⟩ := p59
        refine ev_aload_n dModel_readReform_177 rfl ?_
        refine ev_getR hok fk_Model_285 (woModel hw) (fun _ _ _ => rfl) (wrModel_37 hw) dModel_readReform_178 ?_
        refine ev_bipush (10) dModel_readReform_181 (by decide) ?_
        refine ev_aload_n dModel_readReform_183 rfl ?_
        refine ev_getI hok fk_Model_276 (woModel hw) (fun _ _ _ => rfl) dModel_readReform_184 ?_
        refine ev_imul dModel_readReform_187 ?_
        refine ev_iload_n dModel_readReform_188 rfl ?_
        refine ev_iadd dModel_readReform_189 ?_
        refine ev_iload_n dModel_readReform_190 rfl ?_
        obtain ⟨h64, H⟩ := H
        refine ev_iast hok (waModel_37 hw) h64 dModel_readReform_191 ?_
        generalize eI63 : q_u I61 (o + 26) (((10 * (I61 o 44)) + z0) : Int32).toNatClampNeg (I50 o 45) = I63
        have H := H I63 eI63
        refine ev_aload_n dModel_readReform_192 rfl ?_
        refine ev_getR hok fk_Model_300 (woModel hw) (fun _ _ _ => rfl) (wrModel_38 hw) dModel_readReform_193 ?_
        refine ev_bipush (10) dModel_readReform_196 (by decide) ?_
        refine ev_aload_n dModel_readReform_198 rfl ?_
        refine ev_getI hok fk_Model_276 (woModel hw) (fun _ _ _ => rfl) dModel_readReform_199 ?_
        refine ev_imul dModel_readReform_202 ?_
        refine ev_iload_n dModel_readReform_203 rfl ?_
        refine ev_iadd dModel_readReform_204 ?_
        refine ev_aload_n dModel_readReform_205 rfl ?_
        refine ev_getI hok fk_Model_288 (woModel hw) (fun _ _ _ => rfl) dModel_readReform_206 ?_
        obtain ⟨h66, H⟩ := H
        refine ev_iast hok (waModel_38 hw) h66 dModel_readReform_209 ?_
        generalize eI65 : q_u I63 (o + 27) (((10 * (I63 o 44)) + z0) : Int32).toNatClampNeg (I63 o 45) = I65
        have H := H I65 eI65
        refine ev_iload_n dModel_readReform_210 rfl ?_
        refine ev_iconst (5) dModel_readReform_211 (by decide) ?_
        refine ev_icmp_lt 228 dModel_readReform_212 (by decide) (fun c67 => ?_) (fun c67 => ?_)
        · have H := H.1 c67
          exact ev_sub [(0, .ref o), (1, .int z0), (2, .int ((I50 o 45)))] rfl (sModel_readReform_228 o n sh Rf I65 L62 post z0 (I50 o 45) hok hw H)
        · have H := H.2 c67
          refine ev_aload_n dModel_readReform_215 rfl ?_
          refine ev_getR hok fk_Model_279 (woModel hw) (fun _ _ _ => rfl) (wrModel_39 hw) dModel_readReform_216 ?_
          refine ev_aload_n dModel_readReform_219 rfl ?_
          refine ev_getI hok fk_Model_276 (woModel hw) (fun _ _ _ => rfl) dModel_readReform_220 ?_
          refine ev_dup2_11 dModel_readReform_223 rfl rfl ?_
          obtain ⟨h68, H⟩ := H
          refine ev_iald hok (waModel_39 hw) h68 dModel_readReform_224 ?_
          refine ev_iconst (1) dModel_readReform_225 (by decide) ?_
          refine ev_iadd dModel_readReform_226 ?_
          obtain ⟨h70, H⟩ := H
          refine ev_iast hok (waModel_39 hw) h70 dModel_readReform_227 ?_
          generalize eI69 : q_u I65 (o + 28) ((I65 o 44) : Int32).toNatClampNeg ((I65 (o + 28) ((I65 o 44) : Int32).toNatClampNeg) + 1) = I69
          have H := H I69 eI69
          exact ev_sub [(0, .ref o), (1, .int z0), (2, .int ((I50 o 45)))] rfl (sModel_readReform_228 o n sh Rf I69 L62 post z0 (I50 o 45) hok hw H)
      · have H := H.2 c45
        exact ev_vret rfl dModel_readReform_148 H
    · have H := H.2 c36
      refine ev_aload_n dModel_readReform_106 rfl ?_
      refine ev_getR hok fk_Model_285 (woModel hw) (fun _ _ _ => rfl) (wrModel_37 hw) dModel_readReform_107 ?_
      refine ev_bipush (10) dModel_readReform_110 (by decide) ?_
      refine ev_aload_n dModel_readReform_112 rfl ?_
      refine ev_getI hok fk_Model_276 (woModel hw) (fun _ _ _ => rfl) dModel_readReform_113 ?_
      refine ev_imul dModel_readReform_116 ?_
      refine ev_iload_n dModel_readReform_117 rfl ?_
      refine ev_if_lt 127 dModel_readReform_118 (by decide) (fun c71 => ?_) (fun c71 => ?_)
      · have H := H.1 c71
        exact ev_sub [(0, .ref o), (1, .int z0)] rfl (sModel_readReform_127 o n sh Rf I L post z0 (10 * (I o 44)) hok hw H)
      · have H := H.2 c71
        refine ev_iload_n dModel_readReform_121 rfl ?_
        refine ev_bipush (10) dModel_readReform_122 (by decide) ?_
        refine ev_icmp_lt 131 dModel_readReform_124 (by decide) (fun c72 => ?_) (fun c72 => ?_)
        · have H := H.1 c72
          refine ev_iload_n dModel_readReform_131 rfl ?_
          exact ev_sub [(0, .ref o), (1, .int z0)] rfl (sModel_readReform_132 o n sh Rf I L post z0 z0 (10 * (I o 44)) hok hw H)
        · have H := H.2 c72
          exact ev_sub [(0, .ref o), (1, .int z0)] rfl (sModel_readReform_127 o n sh Rf I L post z0 (10 * (I o 44)) hok hw H)
def fModel_readReform_0 (D : va_G) (cA : FieldType → ClassId) (b : Nat) (E : State → Prop) (o : Nat) (n : Nat) (sh : Nat → qC) (Rf : Nat → Nat → Option Nat) (I : Nat → Nat → Int32) (L : Nat → Nat → Int64) (post : Option Value → qS → Prop)  : Prop :=
  Ev (qGG D cA b E) mModel_isWord 0 (0, 0) 0 (lv_args 0 [.ref o, .long 1918989413]) [] (n, sh, Rf, I, L) (fun v τ => ∃ (r2 : Int32) (I3 : Nat → Nat → Int32) (L4 : Nat → Nat → Int64), v = some (.int r2) ∧ τ = (n, sh, Rf, I3, L4) ∧ ((r2 = 0 → Ev (qGG D cA b E) mModel_isWord 0 (0, 0) 0 (lv_args 0 [.ref o, .long 1668245870]) [] (n, sh, Rf, I3, L4) (fun v τ => ∃ (r7 : Int32) (I8 : Nat → Nat → Int32) (L9 : Nat → Nat → Int64), v = some (.int r7) ∧ τ = (n, sh, Rf, I8, L9) ∧ ((r7 = 0 → Ev (qGG D cA b E) mModel_isWord 0 (0, 0) 0 (lv_args 0 [.ref o, .long 1836020596]) [] (n, sh, Rf, I8, L9) (fun v τ => ∃ (r12 : Int32) (I13 : Nat → Nat → Int32) (L14 : Nat → Nat → Int64), v = some (.int r12) ∧ τ = (n, sh, Rf, I13, L14) ∧ ((r12 = 0 → Ev (qGG D cA b E) mModel_isWord 0 (0, 0) 0 (lv_args 0 [.ref o, .long 7627128]) [] (n, sh, Rf, I13, L14) (fun v τ => ∃ (r17 : Int32) (I18 : Nat → Nat → Int32) (L19 : Nat → Nat → Int64), v = some (.int r17) ∧ τ = (n, sh, Rf, I18, L19) ∧ ((r17 = 0 → Ev (qGG D cA b E) mModel_isWord 0 (0, 0) 0 (lv_args 0 [.ref o, .long 444350952036]) [] (n, sh, Rf, I18, L19) (fun v τ => ∃ (r22 : Int32) (I23 : Nat → Nat → Int32) (L24 : Nat → Nat → Int64), v = some (.int r22) ∧ τ = (n, sh, Rf, I23, L24) ∧ ((r22 = 0 → Ev (qGG D cA b E) mModel_isWord 0 (0, 0) 0 (lv_args 0 [.ref o, .long 427020088179]) [] (n, sh, Rf, I23, L24) (fun v τ => ∃ (r27 : Int32) (I28 : Nat → Nat → Int32) (L29 : Nat → Nat → Int64), v = some (.int r27) ∧ τ = (n, sh, Rf, I28, L29) ∧ ((r27 = 0 → fModel_readReform_95 D cA b E o n sh Rf I28 L29 post (-1)) ∧ (¬ r27 = 0 → vp_in (I28 o 44) 6 ∧ fModel_readReform_95 D cA b E o n sh Rf I28 L29 post (5 + (I28 (o + 28) ((I28 o 44) : Int32).toNatClampNeg)))))) ∧ (¬ r22 = 0 → fModel_readReform_95 D cA b E o n sh Rf I23 L24 post 4)))) ∧ (¬ r17 = 0 → fModel_readReform_95 D cA b E o n sh Rf I18 L19 post 3)))) ∧ (¬ r12 = 0 → fModel_readReform_95 D cA b E o n sh Rf I13 L14 post 2)))) ∧ (¬ r7 = 0 → fModel_readReform_95 D cA b E o n sh Rf I8 L9 post 1)))) ∧ (¬ r2 = 0 → fModel_readReform_95 D cA b E o n sh Rf I3 L4 post 0)))
set_option maxHeartbeats 4000000 in
set_option maxRecDepth 20000 in
theorem sModel_readReform_0 {D : va_G} {cA : FieldType → ClassId} {b : Nat} {E : State → Prop} (o : Nat) (n : Nat) (sh : Nat → qC) (Rf : Nat → Nat → Option Nat) (I : Nat → Nat → Int32) (L : Nat → Nat → Int64) (post : Option Value → qS → Prop)  (hok : q_ok (qGG D cA b E)) (hw : WfModel (qGG D cA b E) n sh Rf o) (H : fModel_readReform_0 D cA b E o n sh Rf I L post ) : Ev (qGG D cA b E) mModel_readReform 6 (0, 0) 0 [(0, .ref o)] [] (n, sh, Rf, I, L) post := by
  unfold fModel_readReform_0 at H
  refine ev_aload_n dModel_readReform_0 rfl ?_
  refine ev_ldc2 (1918989413) dModel_readReform_1 (q_t7 6 (by decide +kernel) rfl) ?_
  refine ev_callV [.long 1918989413] [] (B' := (0, 0)) (B'' := (0, 0)) hok mmModel_isWord mk_Model_178 (ci := 12) rfl rfl (woModel hw) rfl (Nat.le_of_ble_eq_true rfl) rfl (Nat.le_of_ble_eq_true rfl) dModel_readReform_4 rfl (by decide) H (fun v τ p1 => ?_)
  obtain ⟨r2, I3, L4, rfl, rfl, H⟩ := p1
  refine ev_if_eq 14 dModel_readReform_7 (by decide) (fun c5 => ?_) (fun c5 => ?_)
  · have H := H.1 c5
    refine ev_aload_n dModel_readReform_14 rfl ?_
    refine ev_ldc2 (1668245870) dModel_readReform_15 (q_t7 8 (by decide +kernel) rfl) ?_
    refine ev_callV [.long 1668245870] [] (B' := (0, 0)) (B'' := (0, 0)) hok mmModel_isWord mk_Model_178 (ci := 12) rfl rfl (woModel hw) rfl (Nat.le_of_ble_eq_true rfl) rfl (Nat.le_of_ble_eq_true rfl) dModel_readReform_18 rfl (by decide) H (fun v τ p6 => ?_)
    obtain ⟨r7, I8, L9, rfl, rfl, H⟩ := p6
    refine ev_if_eq 28 dModel_readReform_21 (by decide) (fun c10 => ?_) (fun c10 => ?_)
    · have H := H.1 c10
      refine ev_aload_n dModel_readReform_28 rfl ?_
      refine ev_ldc2 (1836020596) dModel_readReform_29 (q_t7 9 (by decide +kernel) rfl) ?_
      refine ev_callV [.long 1836020596] [] (B' := (0, 0)) (B'' := (0, 0)) hok mmModel_isWord mk_Model_178 (ci := 12) rfl rfl (woModel hw) rfl (Nat.le_of_ble_eq_true rfl) rfl (Nat.le_of_ble_eq_true rfl) dModel_readReform_32 rfl (by decide) H (fun v τ p11 => ?_)
      obtain ⟨r12, I13, L14, rfl, rfl, H⟩ := p11
      refine ev_if_eq 42 dModel_readReform_35 (by decide) (fun c15 => ?_) (fun c15 => ?_)
      · have H := H.1 c15
        refine ev_aload_n dModel_readReform_42 rfl ?_
        refine ev_ldc2 (7627128) dModel_readReform_43 (q_t7 10 (by decide +kernel) rfl) ?_
        refine ev_callV [.long 7627128] [] (B' := (0, 0)) (B'' := (0, 0)) hok mmModel_isWord mk_Model_178 (ci := 12) rfl rfl (woModel hw) rfl (Nat.le_of_ble_eq_true rfl) rfl (Nat.le_of_ble_eq_true rfl) dModel_readReform_46 rfl (by decide) H (fun v τ p16 => ?_)
        obtain ⟨r17, I18, L19, rfl, rfl, H⟩ := p16
        refine ev_if_eq 56 dModel_readReform_49 (by decide) (fun c20 => ?_) (fun c20 => ?_)
        · have H := H.1 c20
          refine ev_aload_n dModel_readReform_56 rfl ?_
          refine ev_ldc2 (444350952036) dModel_readReform_57 (q_t7 11 (by decide +kernel) rfl) ?_
          refine ev_callV [.long 444350952036] [] (B' := (0, 0)) (B'' := (0, 0)) hok mmModel_isWord mk_Model_178 (ci := 12) rfl rfl (woModel hw) rfl (Nat.le_of_ble_eq_true rfl) rfl (Nat.le_of_ble_eq_true rfl) dModel_readReform_60 rfl (by decide) H (fun v τ p21 => ?_)
          obtain ⟨r22, I23, L24, rfl, rfl, H⟩ := p21
          refine ev_if_eq 70 dModel_readReform_63 (by decide) (fun c25 => ?_) (fun c25 => ?_)
          · have H := H.1 c25
            refine ev_aload_n dModel_readReform_70 rfl ?_
            refine ev_ldc2 (427020088179) dModel_readReform_71 (q_t7 7 (by decide +kernel) rfl) ?_
            refine ev_callV [.long 427020088179] [] (B' := (0, 0)) (B'' := (0, 0)) hok mmModel_isWord mk_Model_178 (ci := 12) rfl rfl (woModel hw) rfl (Nat.le_of_ble_eq_true rfl) rfl (Nat.le_of_ble_eq_true rfl) dModel_readReform_74 rfl (by decide) H (fun v τ p26 => ?_)
            obtain ⟨r27, I28, L29, rfl, rfl, H⟩ := p26
            refine ev_if_eq 94 dModel_readReform_77 (by decide) (fun c30 => ?_) (fun c30 => ?_)
            · have H := H.1 c30
              refine ev_iconst (-1) dModel_readReform_94 (by decide) ?_
              exact ev_sub [(0, .ref o)] rfl (sModel_readReform_95 o n sh Rf I28 L29 post (-1) hok hw H)
            · have H := H.2 c30
              refine ev_iconst (5) dModel_readReform_80 (by decide) ?_
              refine ev_aload_n dModel_readReform_81 rfl ?_
              refine ev_getR hok fk_Model_279 (woModel hw) (fun _ _ _ => rfl) (wrModel_39 hw) dModel_readReform_82 ?_
              refine ev_aload_n dModel_readReform_85 rfl ?_
              refine ev_getI hok fk_Model_276 (woModel hw) (fun _ _ _ => rfl) dModel_readReform_86 ?_
              obtain ⟨h31, H⟩ := H
              refine ev_iald hok (waModel_39 hw) h31 dModel_readReform_89 ?_
              refine ev_iadd dModel_readReform_90 ?_
              refine ev_goto 95 dModel_readReform_91 (by decide) ?_
              exact ev_sub [(0, .ref o)] rfl (sModel_readReform_95 o n sh Rf I28 L29 post (5 + (I28 (o + 28) ((I28 o 44) : Int32).toNatClampNeg)) hok hw H)
          · have H := H.2 c25
            refine ev_iconst (4) dModel_readReform_66 (by decide) ?_
            refine ev_goto 95 dModel_readReform_67 (by decide) ?_
            exact ev_sub [(0, .ref o)] rfl (sModel_readReform_95 o n sh Rf I23 L24 post 4 hok hw H)
        · have H := H.2 c20
          refine ev_iconst (3) dModel_readReform_52 (by decide) ?_
          refine ev_goto 95 dModel_readReform_53 (by decide) ?_
          exact ev_sub [(0, .ref o)] rfl (sModel_readReform_95 o n sh Rf I18 L19 post 3 hok hw H)
      · have H := H.2 c15
        refine ev_iconst (2) dModel_readReform_38 (by decide) ?_
        refine ev_goto 95 dModel_readReform_39 (by decide) ?_
        exact ev_sub [(0, .ref o)] rfl (sModel_readReform_95 o n sh Rf I13 L14 post 2 hok hw H)
    · have H := H.2 c10
      refine ev_iconst (1) dModel_readReform_24 (by decide) ?_
      refine ev_goto 95 dModel_readReform_25 (by decide) ?_
      exact ev_sub [(0, .ref o)] rfl (sModel_readReform_95 o n sh Rf I8 L9 post 1 hok hw H)
  · have H := H.2 c5
    refine ev_iconst (0) dModel_readReform_10 (by decide) ?_
    refine ev_goto 95 dModel_readReform_11 (by decide) ?_
    exact ev_sub [(0, .ref o)] rfl (sModel_readReform_95 o n sh Rf I3 L4 post 0 hok hw H)
def fModel_tellMonth_0 (D : va_G) (cA : FieldType → ClassId) (b : Nat) (E : State → Prop) (o : Nat) (n : Nat) (sh : Nat → qC) (Rf : Nat → Nat → Option Nat) (I : Nat → Nat → Int32) (L : Nat → Nat → Int64) (post : Option Value → qS → Prop)  : Prop :=
  Ev (qGG D cA b E) mModel_bounded 5 (0, 0) 0 (lv_args 0 [.ref o, .int ((I o 106)), .int 1]) [] (n, sh, Rf, I, L) (fun v τ => ∃ (r2 : Int32) (I3 : Nat → Nat → Int32) (L4 : Nat → Nat → Int64), v = some (.int r2) ∧ τ = (n, sh, Rf, I3, L4) ∧ ∀ I5 : Nat → Nat → Int32, q_u I3 o 107 r2 = I5 → Ev (qGG D cA b E) mModel_bounded 5 (0, 0) 0 (lv_args 0 [.ref o, .int ((I5 o 106)), .int 2]) [] (n, sh, Rf, I5, L4) (fun v τ => ∃ (r7 : Int32) (I8 : Nat → Nat → Int32) (L9 : Nat → Nat → Int64), v = some (.int r7) ∧ τ = (n, sh, Rf, I8, L9) ∧ ∀ I10 : Nat → Nat → Int32, q_u I8 o 108 r7 = I10 → Ev (qGG D cA b E) mModel_bounded 5 (0, 0) 0 (lv_args 0 [.ref o, .int ((I10 o 106)), .int 3]) [] (n, sh, Rf, I10, L9) (fun v τ => ∃ (r12 : Int32) (I13 : Nat → Nat → Int32) (L14 : Nat → Nat → Int64), v = some (.int r12) ∧ τ = (n, sh, Rf, I13, L14) ∧ ∀ I15 : Nat → Nat → Int32, q_u I13 o 109 r12 = I15 → Ev (qGG D cA b E) mModel_bounded 5 (0, 0) 0 (lv_args 0 [.ref o, .int ((I15 o 106)), .int 4]) [] (n, sh, Rf, I15, L14) (fun v τ => ∃ (r17 : Int32) (I18 : Nat → Nat → Int32) (L19 : Nat → Nat → Int64), v = some (.int r17) ∧ τ = (n, sh, Rf, I18, L19) ∧ ∀ I20 : Nat → Nat → Int32, q_u I18 o 110 r17 = I20 → post none (n, sh, Rf, I20, L19)))))
set_option maxHeartbeats 4000000 in
set_option maxRecDepth 20000 in
theorem sModel_tellMonth_0 {D : va_G} {cA : FieldType → ClassId} {b : Nat} {E : State → Prop} (o : Nat) (n : Nat) (sh : Nat → qC) (Rf : Nat → Nat → Option Nat) (I : Nat → Nat → Int32) (L : Nat → Nat → Int64) (post : Option Value → qS → Prop)  (hok : q_ok (qGG D cA b E)) (hw : WfModel (qGG D cA b E) n sh Rf o) (H : fModel_tellMonth_0 D cA b E o n sh Rf I L post ) : Ev (qGG D cA b E) mModel_tellMonth 6 (0, 0) 0 [(0, .ref o)] [] (n, sh, Rf, I, L) post := by
  unfold fModel_tellMonth_0 at H
  refine ev_aload_n dModel_tellMonth_0 rfl ?_
  refine ev_aload_n dModel_tellMonth_1 rfl ?_
  refine ev_aload_n dModel_tellMonth_2 rfl ?_
  refine ev_getI hok fk_Model_516 (woModel hw) (fun _ _ _ => rfl) dModel_tellMonth_3 ?_
  refine ev_iconst (1) dModel_tellMonth_6 (by decide) ?_
  refine ev_callV [.int ((I o 106)), .int 1] [.ref o] (B' := (0, 0)) (B'' := (0, 0)) hok mmModel_bounded mk_Model_519 (ci := 12) rfl rfl (woModel hw) rfl (Nat.le_of_ble_eq_true rfl) rfl (Nat.le_of_ble_eq_true rfl) dModel_tellMonth_7 rfl (by decide) H (fun v τ p1 => ?_)
  obtain ⟨r2, I3, L4, rfl, rfl, H⟩ := p1
  refine ev_putI hok fk_Model_588 (woModel hw) (fun _ _ _ => rfl) rfl rfl dModel_tellMonth_10 ?_
  generalize eI5 : q_u I3 o 107 r2 = I5
  have H := H I5 eI5
  refine ev_aload_n dModel_tellMonth_13 rfl ?_
  refine ev_aload_n dModel_tellMonth_14 rfl ?_
  refine ev_aload_n dModel_tellMonth_15 rfl ?_
  refine ev_getI hok fk_Model_516 (woModel hw) (fun _ _ _ => rfl) dModel_tellMonth_16 ?_
  refine ev_iconst (2) dModel_tellMonth_19 (by decide) ?_
  refine ev_callV [.int ((I5 o 106)), .int 2] [.ref o] (B' := (0, 0)) (B'' := (0, 0)) hok mmModel_bounded mk_Model_519 (ci := 12) rfl rfl (woModel hw) rfl (Nat.le_of_ble_eq_true rfl) rfl (Nat.le_of_ble_eq_true rfl) dModel_tellMonth_20 rfl (by decide) H (fun v τ p6 => ?_)
  obtain ⟨r7, I8, L9, rfl, rfl, H⟩ := p6
  refine ev_putI hok fk_Model_591 (woModel hw) (fun _ _ _ => rfl) rfl rfl dModel_tellMonth_23 ?_
  generalize eI10 : q_u I8 o 108 r7 = I10
  have H := H I10 eI10
  refine ev_aload_n dModel_tellMonth_26 rfl ?_
  refine ev_aload_n dModel_tellMonth_27 rfl ?_
  refine ev_aload_n dModel_tellMonth_28 rfl ?_
  refine ev_getI hok fk_Model_516 (woModel hw) (fun _ _ _ => rfl) dModel_tellMonth_29 ?_
  refine ev_iconst (3) dModel_tellMonth_32 (by decide) ?_
  refine ev_callV [.int ((I10 o 106)), .int 3] [.ref o] (B' := (0, 0)) (B'' := (0, 0)) hok mmModel_bounded mk_Model_519 (ci := 12) rfl rfl (woModel hw) rfl (Nat.le_of_ble_eq_true rfl) rfl (Nat.le_of_ble_eq_true rfl) dModel_tellMonth_33 rfl (by decide) H (fun v τ p11 => ?_)
  obtain ⟨r12, I13, L14, rfl, rfl, H⟩ := p11
  refine ev_putI hok fk_Model_500 (woModel hw) (fun _ _ _ => rfl) rfl rfl dModel_tellMonth_36 ?_
  generalize eI15 : q_u I13 o 109 r12 = I15
  have H := H I15 eI15
  refine ev_aload_n dModel_tellMonth_39 rfl ?_
  refine ev_aload_n dModel_tellMonth_40 rfl ?_
  refine ev_aload_n dModel_tellMonth_41 rfl ?_
  refine ev_getI hok fk_Model_516 (woModel hw) (fun _ _ _ => rfl) dModel_tellMonth_42 ?_
  refine ev_iconst (4) dModel_tellMonth_45 (by decide) ?_
  refine ev_callV [.int ((I15 o 106)), .int 4] [.ref o] (B' := (0, 0)) (B'' := (0, 0)) hok mmModel_bounded mk_Model_519 (ci := 12) rfl rfl (woModel hw) rfl (Nat.le_of_ble_eq_true rfl) rfl (Nat.le_of_ble_eq_true rfl) dModel_tellMonth_46 rfl (by decide) H (fun v τ p16 => ?_)
  obtain ⟨r17, I18, L19, rfl, rfl, H⟩ := p16
  refine ev_putI hok fk_Model_594 (woModel hw) (fun _ _ _ => rfl) rfl rfl dModel_tellMonth_49 ?_
  generalize eI20 : q_u I18 o 110 r17 = I20
  have H := H I20 eI20
  exact ev_vret rfl dModel_tellMonth_52 H
def fModel_choose_382 (D : va_G) (cA : FieldType → ClassId) (b : Nat) (E : State → Prop) (o : Nat) (n : Nat) (sh : Nat → qC) (Rf : Nat → Nat → Option Nat) (I : Nat → Nat → Int32) (L : Nat → Nat → Int64) (post : Option Value → qS → Prop) (x1 : Int32) (x2 : Int32) : Prop :=
  Ev (qGG D cA b E) mModel_choose 7 (0, 0) 302 [(0, .ref o), (1, .int x1), (2, .int ((x2 + Int32.ofInt 1)))] [] (n, sh, Rf, I, L) post
set_option maxHeartbeats 4000000 in
set_option maxRecDepth 20000 in
theorem sModel_choose_382 {D : va_G} {cA : FieldType → ClassId} {b : Nat} {E : State → Prop} (o : Nat) (n : Nat) (sh : Nat → qC) (Rf : Nat → Nat → Option Nat) (I : Nat → Nat → Int32) (L : Nat → Nat → Int64) (post : Option Value → qS → Prop) (x1 : Int32) (x2 : Int32) (hok : q_ok (qGG D cA b E)) (hw : WfModel (qGG D cA b E) n sh Rf o) (H : fModel_choose_382 D cA b E o n sh Rf I L post x1 x2) : Ev (qGG D cA b E) mModel_choose 7 (0, 0) 382 [(0, .ref o), (1, .int x1), (2, .int x2)] [] (n, sh, Rf, I, L) post := by
  unfold fModel_choose_382 at H
  refine ev_iinc dModel_choose_382 rfl (by decide) ?_
  refine ev_goto 302 dModel_choose_385 (by decide) ?_
  exact ev_sub [(0, .ref o), (1, .int x1), (2, .int ((x2 + Int32.ofInt 1)))] rfl H
def fModel_choose_302 (D : va_G) (cA : FieldType → ClassId) (b : Nat) (E : State → Prop) (o : Nat) (n : Nat) (sh : Nat → qC) (Rf : Nat → Nat → Option Nat) (I : Nat → Nat → Int32) (L : Nat → Nat → Int64) (post : Option Value → qS → Prop) (x1 : Int32) (x2 : Int32) : Prop :=
  Ev (qGG D cA b E) mModel_forts 0 (0, 0) 0 (lv_args 0 [.ref o]) [] (n, sh, Rf, I, L) (fun v τ => ∃ (r2 : Int32) (I3 : Nat → Nat → Int32) (L4 : Nat → Nat → Int64), v = some (.int r2) ∧ τ = (n, sh, Rf, I3, L4) ∧ ((r2 ≤ x2 → (((I3 o 107) ≤ 0 → post none (n, sh, Rf, I3, L4)) ∧ (¬ (I3 o 107) ≤ 0 → Ev (qGG D cA b E) mModel_least 0 (0, 0) 0 (lv_args 0 [.int ((I3 o 70)), .long ((((I3 o 111) / 10) : Int32).toInt64)]) [] (n, sh, Rf, I3, L4) (fun v τ => ∃ (r8 : Int32) (I9 : Nat → Nat → Int32) (L10 : Nat → Nat → Int64), v = some (.int r8) ∧ τ = (n, sh, Rf, I9, L10) ∧ vp_in x1 6 ∧ Ev (qGG D cA b E) mModel_affordable 1 (0, 0) 0 (lv_args 0 [.ref o, .int r8, .long ((L10 (o + 68) (x1 : Int32).toNatClampNeg)), .int ((10 * (I9 o 107)))]) [] (n, sh, Rf, I9, L10) (fun v τ => ∃ (r13 : Int32) (I14 : Nat → Nat → Int32) (L15 : Nat → Nat → Int64), v = some (.int r13) ∧ τ = (n, sh, Rf, I14, L15) ∧ Ev (qGG D cA b E) mModel_weigh 0 (0, 0) 0 (lv_args 0 [.ref o, .int 4, .int ((-1)), .int ((-1)), .int r13, .int 0, .long ((((r13 : Int32).toInt64 * 10) * ((L15 o 121) - ((I14 o 107) : Int32).toInt64)))]) [] (n, sh, Rf, I14, L15) (fun v τ => ∃ (I18 : Nat → Nat → Int32) (L19 : Nat → Nat → Int64), v = none ∧ τ = (n, sh, Rf, I18, L19) ∧ post none (n, sh, Rf, I18, L19))))))) ∧ (¬ r2 ≤ x2 → vp_in ((3 * x1) + x2) 18 ∧ ((0 ≤ (I3 (o + 48) (((3 * x1) + x2) : Int32).toNatClampNeg) → fModel_choose_382 D cA b E o n sh Rf I3 L4 post x1 x2) ∧ (¬ 0 ≤ (I3 (o + 48) (((3 * x1) + x2) : Int32).toNatClampNeg) → vp_in x1 6 ∧ ((0 ≤ (lg_cmp (L4 (o + 68) (x1 : Int32).toNatClampNeg) (((I3 o 72) : Int32).toInt64)) → Ev (qGG D cA b E) mModel_rateFor 6 (0, 0) 0 (lv_args 0 [.ref o, .int x2, .int 0]) [] (n, sh, Rf, I3, L4) (fun v τ => ∃ (r25 : Int32) (I26 : Nat → Nat → Int32) (L27 : Nat → Nat → Int64), v = some (.int r25) ∧ τ = (n, sh, Rf, I26, L27) ∧ Ev (qGG D cA b E) mModel_weigh 0 (0, 0) 0 (lv_args 0 [.ref o, .int 3, .int x2, .int ((-1)), .int 1, .int 0, .long ((((24 * (((r25 : Int32).toInt64 * (L27 o 121)) - ((I26 o 73) : Int32).toInt64)) - ((I26 o 72) : Int32).toInt64) / 24))]) [] (n, sh, Rf, I26, L27) (fun v τ => ∃ (I30 : Nat → Nat → Int32) (L31 : Nat → Nat → Int64), v = none ∧ τ = (n, sh, Rf, I30, L31) ∧ fModel_choose_382 D cA b E o n sh Rf I30 L31 post x1 x2))) ∧ (¬ 0 ≤ (lg_cmp (L4 (o + 68) (x1 : Int32).toNatClampNeg) (((I3 o 72) : Int32).toInt64)) → fModel_choose_382 D cA b E o n sh Rf I3 L4 post x1 x2)))))))
set_option maxHeartbeats 4000000 in
set_option maxRecDepth 20000 in
theorem sModel_choose_302 {D : va_G} {cA : FieldType → ClassId} {b : Nat} {E : State → Prop} (o : Nat) (n : Nat) (sh : Nat → qC) (Rf : Nat → Nat → Option Nat) (I : Nat → Nat → Int32) (L : Nat → Nat → Int64) (post : Option Value → qS → Prop) (x1 : Int32) (x2 : Int32) (hok : q_ok (qGG D cA b E)) (hw : WfModel (qGG D cA b E) n sh Rf o) (H : fModel_choose_302 D cA b E o n sh Rf I L post x1 x2) : Ev (qGG D cA b E) mModel_choose 7 (0, 0) 302 [(0, .ref o), (1, .int x1), (2, .int x2)] [] (n, sh, Rf, I, L) post := by
  unfold fModel_choose_302 at H
  refine ev_iload_n dModel_choose_302 rfl ?_
  refine ev_aload_n dModel_choose_303 rfl ?_
  refine ev_callV [] [.int x2] (B' := (0, 0)) (B'' := (0, 0)) hok mmModel_forts mk_Model_624 (ci := 12) rfl rfl (woModel hw) rfl (Nat.le_of_ble_eq_true rfl) rfl (Nat.le_of_ble_eq_true rfl) dModel_choose_304 rfl (by decide) H (fun v τ p1 => ?_)
  obtain ⟨r2, I3, L4, rfl, rfl, H⟩ := p1
  refine ev_icmp_ge 388 dModel_choose_307 (by decide) (fun c5 => ?_) (fun c5 => ?_)
  · have H := H.1 c5
    refine ev_aload_n dModel_choose_388 rfl ?_
    refine ev_getI hok fk_Model_588 (woModel hw) (fun _ _ _ => rfl) dModel_choose_389 ?_
    refine ev_if_le 454 dModel_choose_392 (by decide) (fun c6 => ?_) (fun c6 => ?_)
    · have H := H.1 c6
      exact ev_vret rfl dModel_choose_454 H
    · have H := H.2 c6
      refine ev_aload_n dModel_choose_395 rfl ?_
      refine ev_aload_n dModel_choose_396 rfl ?_
      refine ev_getI hok fk_Model_400 (woModel hw) (fun _ _ _ => rfl) dModel_choose_397 ?_
      refine ev_aload_n dModel_choose_400 rfl ?_
      refine ev_getI hok fk_Model_680 (woModel hw) (fun _ _ _ => rfl) dModel_choose_401 ?_
      refine ev_bipush (10) dModel_choose_404 (by decide) ?_
      refine ev_idiv dModel_choose_406 (by decide) ?_
      refine ev_i2l dModel_choose_407 ?_
      refine ev_callS [.int ((I3 o 70)), .long ((((I3 o 111) / 10) : Int32).toInt64)] [.ref o] (B' := (0, 0)) (B'' := (0, 0)) hok mmModel_least mk_Model_651 rfl (Nat.le_of_ble_eq_true rfl) rfl (Nat.le_of_ble_eq_true rfl) dModel_choose_408 rfl (by decide) H (fun v τ p7 => ?_)
      obtain ⟨r8, I9, L10, rfl, rfl, H⟩ := p7
      refine ev_aload_n dModel_choose_411 rfl ?_
      refine ev_getR hok fk_Model_578 (woModel hw) (fun _ _ _ => rfl) (wrModel_101 hw) dModel_choose_412 ?_
      refine ev_iload_n dModel_choose_415 rfl ?_
      obtain ⟨h11, H⟩ := H
      refine ev_lald hok (waModel_101 hw) h11 dModel_choose_416 ?_
      refine ev_bipush (10) dModel_choose_417 (by decide) ?_
      refine ev_aload_n dModel_choose_419 rfl ?_
      refine ev_getI hok fk_Model_588 (woModel hw) (fun _ _ _ => rfl) dModel_choose_420 ?_
      refine ev_imul dModel_choose_423 ?_
      refine ev_callV [.int r8, .long ((L10 (o + 68) (x1 : Int32).toNatClampNeg)), .int ((10 * (I9 o 107)))] [] (B' := (0, 0)) (B'' := (0, 0)) hok mmModel_affordable mk_Model_667 (ci := 12) rfl rfl (woModel hw) rfl (Nat.le_of_ble_eq_true rfl) rfl (Nat.le_of_ble_eq_true rfl) dModel_choose_424 rfl (by decide) H (fun v τ p12 => ?_)
      obtain ⟨r13, I14, L15, rfl, rfl, H⟩ := p12
      refine ev_istore_n dModel_choose_427 (by decide) ?_
      refine ev_aload_n dModel_choose_428 rfl ?_
      refine ev_iconst (4) dModel_choose_429 (by decide) ?_
      refine ev_iconst (-1) dModel_choose_430 (by decide) ?_
      refine ev_iconst (-1) dModel_choose_431 (by decide) ?_
      refine ev_iload_n dModel_choose_432 rfl ?_
      refine ev_iconst (0) dModel_choose_433 (by decide) ?_
      refine ev_iload_n dModel_choose_434 rfl ?_
      refine ev_i2l dModel_choose_435 ?_
      refine ev_ldc2 (10) dModel_choose_436 (q_t8 122 (by decide +kernel) rfl) ?_
      refine ev_lmul dModel_choose_439 ?_
      refine ev_aload_n dModel_choose_440 rfl ?_
      refine ev_getL hok fk_Model_506 (woModel hw) (fun _ _ _ => rfl) dModel_choose_441 ?_
      refine ev_aload_n dModel_choose_444 rfl ?_
      refine ev_getI hok fk_Model_588 (woModel hw) (fun _ _ _ => rfl) dModel_choose_445 ?_
      refine ev_i2l dModel_choose_448 ?_
      refine ev_lsub dModel_choose_449 ?_
      refine ev_lmul dModel_choose_450 ?_
      refine ev_callV [.int 4, .int ((-1)), .int ((-1)), .int r13, .int 0, .long ((((r13 : Int32).toInt64 * 10) * ((L15 o 121) - ((I14 o 107) : Int32).toInt64)))] [] (B' := (0, 0)) (B'' := (0, 0)) hok mmModel_weigh mk_Model_674 (ci := 12) rfl rfl (woModel hw) rfl (Nat.le_of_ble_eq_true rfl) rfl (Nat.le_of_ble_eq_true rfl) dModel_choose_451 rfl (by decide) H (fun v τ p16 => ?_)
      obtain ⟨I18, L19, rfl, rfl, H⟩ := p16
      exact ev_vret rfl dModel_choose_454 H
  · have H := H.2 c5
    refine ev_aload_n dModel_choose_310 rfl ?_
    refine ev_getR hok fk_Model_584 (woModel hw) (fun _ _ _ => rfl) (wrModel_81 hw) dModel_choose_311 ?_
    refine ev_iconst (3) dModel_choose_314 (by decide) ?_
    refine ev_iload_n dModel_choose_315 rfl ?_
    refine ev_imul dModel_choose_316 ?_
    refine ev_iload_n dModel_choose_317 rfl ?_
    refine ev_iadd dModel_choose_318 ?_
    obtain ⟨h20, H⟩ := H
    refine ev_iald hok (waModel_81 hw) h20 dModel_choose_319 ?_
    refine ev_if_ge 382 dModel_choose_320 (by decide) (fun c21 => ?_) (fun c21 => ?_)
    · have H := H.1 c21
      exact ev_sub [(0, .ref o), (1, .int x1), (2, .int x2)] rfl (sModel_choose_382 o n sh Rf I3 L4 post x1 x2 hok hw H)
    · have H := H.2 c21
      refine ev_aload_n dModel_choose_323 rfl ?_
      refine ev_getR hok fk_Model_578 (woModel hw) (fun _ _ _ => rfl) (wrModel_101 hw) dModel_choose_324 ?_
      refine ev_iload_n dModel_choose_327 rfl ?_
      obtain ⟨h22, H⟩ := H
      refine ev_lald hok (waModel_101 hw) h22 dModel_choose_328 ?_
      refine ev_aload_n dModel_choose_329 rfl ?_
      refine ev_getI hok fk_Model_406 (woModel hw) (fun _ _ _ => rfl) dModel_choose_330 ?_
      refine ev_i2l dModel_choose_333 ?_
      refine ev_lcmp dModel_choose_334 ?_
      refine ev_if_ge 341 dModel_choose_335 (by decide) (fun c23 => ?_) (fun c23 => ?_)
      · have H := H.1 c23
        refine ev_aload_n dModel_choose_341 rfl ?_
        refine ev_iconst (3) dModel_choose_342 (by decide) ?_
        refine ev_iload_n dModel_choose_343 rfl ?_
        refine ev_iconst (-1) dModel_choose_344 (by decide) ?_
        refine ev_iconst (1) dModel_choose_345 (by decide) ?_
        refine ev_iconst (0) dModel_choose_346 (by decide) ?_
        refine ev_ldc2 (24) dModel_choose_347 (q_t8 121 (by decide +kernel) rfl) ?_
        refine ev_aload_n dModel_choose_350 rfl ?_
        refine ev_iload_n dModel_choose_351 rfl ?_
        refine ev_iconst (0) dModel_choose_352 (by decide) ?_
        refine ev_callV [.int x2, .int 0] [.long 24, .int 0, .int 1, .int ((-1)), .int x2, .int 3, .ref o] (B' := (0, 0)) (B'' := (0, 0)) hok mmModel_rateFor mk_Model_671 (ci := 12) rfl rfl (woModel hw) rfl (Nat.le_of_ble_eq_true rfl) rfl (Nat.le_of_ble_eq_true rfl) dModel_choose_353 rfl (by decide) H (fun v τ p24 => ?_)
        obtain ⟨r25, I26, L27, rfl, rfl, H⟩ := p24
        refine ev_i2l dModel_choose_356 ?_
        refine ev_aload_n dModel_choose_357 rfl ?_
        refine ev_getL hok fk_Model_506 (woModel hw) (fun _ _ _ => rfl) dModel_choose_358 ?_
        refine ev_lmul dModel_choose_361 ?_
        refine ev_aload_n dModel_choose_362 rfl ?_
        refine ev_getI hok fk_Model_409 (woModel hw) (fun _ _ _ => rfl) dModel_choose_363 ?_
        refine ev_i2l dModel_choose_366 ?_
        refine ev_lsub dModel_choose_367 ?_
        refine ev_lmul dModel_choose_368 ?_
        refine ev_aload_n dModel_choose_369 rfl ?_
        refine ev_getI hok fk_Model_406 (woModel hw) (fun _ _ _ => rfl) dModel_choose_370 ?_
        refine ev_i2l dModel_choose_373 ?_
        refine ev_lsub dModel_choose_374 ?_
        refine ev_ldc2 (24) dModel_choose_375 (q_t8 121 (by decide +kernel) rfl) ?_
        refine ev_ldiv dModel_choose_378 (by decide) ?_
        refine ev_callV [.int 3, .int x2, .int ((-1)), .int 1, .int 0, .long ((((24 * (((r25 : Int32).toInt64 * (L27 o 121)) - ((I26 o 73) : Int32).toInt64)) - ((I26 o 72) : Int32).toInt64) / 24))] [] (B' := (0, 0)) (B'' := (0, 0)) hok mmModel_weigh mk_Model_674 (ci := 12) rfl rfl (woModel hw) rfl (Nat.le_of_ble_eq_true rfl) rfl (Nat.le_of_ble_eq_true rfl) dModel_choose_379 rfl (by decide) H (fun v τ p28 => ?_)
        obtain ⟨I30, L31, rfl, rfl, H⟩ := p28
        exact ev_sub [(0, .ref o), (1, .int x1), (2, .int x2)] rfl (sModel_choose_382 o n sh Rf I30 L31 post x1 x2 hok hw H)
      · have H := H.2 c23
        refine ev_goto 382 dModel_choose_338 (by decide) ?_
        exact ev_sub [(0, .ref o), (1, .int x1), (2, .int x2)] rfl (sModel_choose_382 o n sh Rf I3 L4 post x1 x2 hok hw H)
def fModel_choose_294 (D : va_G) (cA : FieldType → ClassId) (b : Nat) (E : State → Prop) (o : Nat) (n : Nat) (sh : Nat → qC) (Rf : Nat → Nat → Option Nat) (I : Nat → Nat → Int32) (L : Nat → Nat → Int64) (post : Option Value → qS → Prop) (x1 : Int32) (x2 : Int32) (x3 : Int32) : Prop :=
  Ev (qGG D cA b E) mModel_choose 7 (0, 0) 200 [(0, .ref o), (1, .int x1), (2, .int ((x2 + Int32.ofInt 1)))] [] (n, sh, Rf, I, L) post
set_option maxHeartbeats 4000000 in
set_option maxRecDepth 20000 in
theorem sModel_choose_294 {D : va_G} {cA : FieldType → ClassId} {b : Nat} {E : State → Prop} (o : Nat) (n : Nat) (sh : Nat → qC) (Rf : Nat → Nat → Option Nat) (I : Nat → Nat → Int32) (L : Nat → Nat → Int64) (post : Option Value → qS → Prop) (x1 : Int32) (x2 : Int32) (x3 : Int32) (hok : q_ok (qGG D cA b E)) (hw : WfModel (qGG D cA b E) n sh Rf o) (H : fModel_choose_294 D cA b E o n sh Rf I L post x1 x2 x3) : Ev (qGG D cA b E) mModel_choose 7 (0, 0) 294 [(0, .ref o), (1, .int x1), (2, .int x2), (3, .int x3)] [] (n, sh, Rf, I, L) post := by
  unfold fModel_choose_294 at H
  refine ev_iinc dModel_choose_294 rfl (by decide) ?_
  refine ev_goto 200 dModel_choose_297 (by decide) ?_
  exact ev_sub [(0, .ref o), (1, .int x1), (2, .int ((x2 + Int32.ofInt 1)))] rfl H
def fModel_choose_200 (D : va_G) (cA : FieldType → ClassId) (b : Nat) (E : State → Prop) (o : Nat) (n : Nat) (sh : Nat → qC) (Rf : Nat → Nat → Option Nat) (I : Nat → Nat → Int32) (L : Nat → Nat → Int64) (post : Option Value → qS → Prop) (x1 : Int32) (x2 : Int32) : Prop :=
  Ev (qGG D cA b E) mModel_forts 0 (0, 0) 0 (lv_args 0 [.ref o]) [] (n, sh, Rf, I, L) (fun v τ => ∃ (r2 : Int32) (I3 : Nat → Nat → Int32) (L4 : Nat → Nat → Int64), v = some (.int r2) ∧ τ = (n, sh, Rf, I3, L4) ∧ ((r2 ≤ x2 → Ev (qGG D cA b E) mModel_choose 7 (0, 0) 302 [(0, .ref o), (1, .int x1), (2, .int 0)] [] (n, sh, Rf, I3, L4) post) ∧ (¬ r2 ≤ x2 → vp_in ((3 * x1) + x2) 18 ∧ (((I3 (o + 48) (((3 * x1) + x2) : Int32).toNatClampNeg) < 0 → fModel_choose_294 D cA b E o n sh Rf I3 L4 post x1 x2 (I3 (o + 48) (((3 * x1) + x2) : Int32).toNatClampNeg)) ∧ (¬ (I3 (o + 48) (((3 * x1) + x2) : Int32).toNatClampNeg) < 0 → ((12 ≤ ((I3 o 57) - (I3 (o + 48) (((3 * x1) + x2) : Int32).toNatClampNeg)) → vp_in x1 6 ∧ Ev (qGG D cA b E) mModel_affordable 1 (0, 0) 0 (lv_args 0 [.ref o, .int ((I3 o 70)), .long ((L4 (o + 68) (x1 : Int32).toNatClampNeg)), .int ((I3 o 73))]) [] (n, sh, Rf, I3, L4) (fun v τ => ∃ (r11 : Int32) (I12 : Nat → Nat → Int32) (L13 : Nat → Nat → Int64), v = some (.int r11) ∧ τ = (n, sh, Rf, I12, L13) ∧ Ev (qGG D cA b E) mModel_rateFor 6 (0, 0) 0 (lv_args 0 [.ref o, .int x2, .int 0]) [] (n, sh, Rf, I12, L13) (fun v τ => ∃ (r15 : Int32) (I16 : Nat → Nat → Int32) (L17 : Nat → Nat → Int64), v = some (.int r15) ∧ τ = (n, sh, Rf, I16, L17) ∧ Ev (qGG D cA b E) mModel_weigh 0 (0, 0) 0 (lv_args 0 [.ref o, .int 2, .int x2, .int ((-1)), .int r11, .int r15, .long (((r11 : Int32).toInt64 * (((r15 : Int32).toInt64 * (L17 o 121)) - ((I16 o 73) : Int32).toInt64)))]) [] (n, sh, Rf, I16, L17) (fun v τ => ∃ (I20 : Nat → Nat → Int32) (L21 : Nat → Nat → Int64), v = none ∧ τ = (n, sh, Rf, I20, L21) ∧ fModel_choose_294 D cA b E o n sh Rf I20 L21 post x1 x2 (I3 (o + 48) (((3 * x1) + x2) : Int32).toNatClampNeg))))) ∧ (¬ 12 ≤ ((I3 o 57) - (I3 (o + 48) (((3 * x1) + x2) : Int32).toNatClampNeg)) → fModel_choose_294 D cA b E o n sh Rf I3 L4 post x1 x2 (I3 (o + 48) (((3 * x1) + x2) : Int32).toNatClampNeg))))))))
set_option maxHeartbeats 4000000 in
set_option maxRecDepth 20000 in
theorem sModel_choose_200 {D : va_G} {cA : FieldType → ClassId} {b : Nat} {E : State → Prop} (o : Nat) (n : Nat) (sh : Nat → qC) (Rf : Nat → Nat → Option Nat) (I : Nat → Nat → Int32) (L : Nat → Nat → Int64) (post : Option Value → qS → Prop) (x1 : Int32) (x2 : Int32) (hok : q_ok (qGG D cA b E)) (hw : WfModel (qGG D cA b E) n sh Rf o) (H : fModel_choose_200 D cA b E o n sh Rf I L post x1 x2) : Ev (qGG D cA b E) mModel_choose 7 (0, 0) 200 [(0, .ref o), (1, .int x1), (2, .int x2)] [] (n, sh, Rf, I, L) post := by
  unfold fModel_choose_200 at H
  refine ev_iload_n dModel_choose_200 rfl ?_
  refine ev_aload_n dModel_choose_201 rfl ?_
  refine ev_callV [] [.int x2] (B' := (0, 0)) (B'' := (0, 0)) hok mmModel_forts mk_Model_624 (ci := 12) rfl rfl (woModel hw) rfl (Nat.le_of_ble_eq_true rfl) rfl (Nat.le_of_ble_eq_true rfl) dModel_choose_202 rfl (by decide) H (fun v τ p1 => ?_)
  obtain ⟨r2, I3, L4, rfl, rfl, H⟩ := p1
  refine ev_icmp_ge 300 dModel_choose_205 (by decide) (fun c5 => ?_) (fun c5 => ?_)
  · have H := H.1 c5
    refine ev_iconst (0) dModel_choose_300 (by decide) ?_
    refine ev_istore_n dModel_choose_301 (by decide) ?_
    exact ev_sub [(0, .ref o), (1, .int x1), (2, .int 0)] rfl H
  · have H := H.2 c5
    refine ev_aload_n dModel_choose_208 rfl ?_
    refine ev_getR hok fk_Model_584 (woModel hw) (fun _ _ _ => rfl) (wrModel_81 hw) dModel_choose_209 ?_
    refine ev_iconst (3) dModel_choose_212 (by decide) ?_
    refine ev_iload_n dModel_choose_213 rfl ?_
    refine ev_imul dModel_choose_214 ?_
    refine ev_iload_n dModel_choose_215 rfl ?_
    refine ev_iadd dModel_choose_216 ?_
    obtain ⟨h6, H⟩ := H
    refine ev_iald hok (waModel_81 hw) h6 dModel_choose_217 ?_
    refine ev_istore_n dModel_choose_218 (by decide) ?_
    refine ev_iload_n dModel_choose_219 rfl ?_
    refine ev_if_lt 294 dModel_choose_220 (by decide) (fun c7 => ?_) (fun c7 => ?_)
    · have H := H.1 c7
      exact ev_sub [(0, .ref o), (1, .int x1), (2, .int x2), (3, .int ((I3 (o + 48) (((3 * x1) + x2) : Int32).toNatClampNeg)))] rfl (sModel_choose_294 o n sh Rf I3 L4 post x1 x2 (I3 (o + 48) (((3 * x1) + x2) : Int32).toNatClampNeg) hok hw H)
    · have H := H.2 c7
      refine ev_aload_n dModel_choose_223 rfl ?_
      refine ev_getI hok fk_Model_348 (woModel hw) (fun _ _ _ => rfl) dModel_choose_224 ?_
      refine ev_iload_n dModel_choose_227 rfl ?_
      refine ev_isub dModel_choose_228 ?_
      refine ev_bipush (12) dModel_choose_229 (by decide) ?_
      refine ev_icmp_ge 237 dModel_choose_231 (by decide) (fun c8 => ?_) (fun c8 => ?_)
      · have H := H.1 c8
        refine ev_aload_n dModel_choose_237 rfl ?_
        refine ev_aload_n dModel_choose_238 rfl ?_
        refine ev_getI hok fk_Model_400 (woModel hw) (fun _ _ _ => rfl) dModel_choose_239 ?_
        refine ev_aload_n dModel_choose_242 rfl ?_
        refine ev_getR hok fk_Model_578 (woModel hw) (fun _ _ _ => rfl) (wrModel_101 hw) dModel_choose_243 ?_
        refine ev_iload_n dModel_choose_246 rfl ?_
        obtain ⟨h9, H⟩ := H
        refine ev_lald hok (waModel_101 hw) h9 dModel_choose_247 ?_
        refine ev_aload_n dModel_choose_248 rfl ?_
        refine ev_getI hok fk_Model_409 (woModel hw) (fun _ _ _ => rfl) dModel_choose_249 ?_
        refine ev_callV [.int ((I3 o 70)), .long ((L4 (o + 68) (x1 : Int32).toNatClampNeg)), .int ((I3 o 73))] [] (B' := (0, 0)) (B'' := (0, 0)) hok mmModel_affordable mk_Model_667 (ci := 12) rfl rfl (woModel hw) rfl (Nat.le_of_ble_eq_true rfl) rfl (Nat.le_of_ble_eq_true rfl) dModel_choose_252 rfl (by decide) H (fun v τ p10 => ?_)
        obtain ⟨r11, I12, L13, rfl, rfl, H⟩ := p10
        refine ev_istore dModel_choose_255 (by decide) ?_
        refine ev_aload_n dModel_choose_257 rfl ?_
        refine ev_iload_n dModel_choose_258 rfl ?_
        refine ev_iconst (0) dModel_choose_259 (by decide) ?_
        refine ev_callV [.int x2, .int 0] [] (B' := (0, 0)) (B'' := (0, 0)) hok mmModel_rateFor mk_Model_671 (ci := 12) rfl rfl (woModel hw) rfl (Nat.le_of_ble_eq_true rfl) rfl (Nat.le_of_ble_eq_true rfl) dModel_choose_260 rfl (by decide) H (fun v τ p14 => ?_)
        obtain ⟨r15, I16, L17, rfl, rfl, H⟩ := p14
        refine ev_istore dModel_choose_263 (by decide) ?_
        refine ev_aload_n dModel_choose_265 rfl ?_
        refine ev_iconst (2) dModel_choose_266 (by decide) ?_
        refine ev_iload_n dModel_choose_267 rfl ?_
        refine ev_iconst (-1) dModel_choose_268 (by decide) ?_
        refine ev_iload dModel_choose_269 rfl ?_
        refine ev_iload dModel_choose_271 rfl ?_
        refine ev_iload dModel_choose_273 rfl ?_
        refine ev_i2l dModel_choose_275 ?_
        refine ev_iload dModel_choose_276 rfl ?_
        refine ev_i2l dModel_choose_278 ?_
        refine ev_aload_n dModel_choose_279 rfl ?_
        refine ev_getL hok fk_Model_506 (woModel hw) (fun _ _ _ => rfl) dModel_choose_280 ?_
        refine ev_lmul dModel_choose_283 ?_
        refine ev_aload_n dModel_choose_284 rfl ?_
        refine ev_getI hok fk_Model_409 (woModel hw) (fun _ _ _ => rfl) dModel_choose_285 ?_
        refine ev_i2l dModel_choose_288 ?_
        refine ev_lsub dModel_choose_289 ?_
        refine ev_lmul dModel_choose_290 ?_
        refine ev_callV [.int 2, .int x2, .int ((-1)), .int r11, .int r15, .long (((r11 : Int32).toInt64 * (((r15 : Int32).toInt64 * (L17 o 121)) - ((I16 o 73) : Int32).toInt64)))] [] (B' := (0, 0)) (B'' := (0, 0)) hok mmModel_weigh mk_Model_674 (ci := 12) rfl rfl (woModel hw) rfl (Nat.le_of_ble_eq_true rfl) rfl (Nat.le_of_ble_eq_true rfl) dModel_choose_291 rfl (by decide) H (fun v τ p18 => ?_)
        obtain ⟨I20, L21, rfl, rfl, H⟩ := p18
        exact ev_sub [(0, .ref o), (1, .int x1), (2, .int x2), (3, .int ((I3 (o + 48) (((3 * x1) + x2) : Int32).toNatClampNeg)))] rfl (sModel_choose_294 o n sh Rf I20 L21 post x1 x2 (I3 (o + 48) (((3 * x1) + x2) : Int32).toNatClampNeg) hok hw H)
      · have H := H.2 c8
        refine ev_goto 294 dModel_choose_234 (by decide) ?_
        exact ev_sub [(0, .ref o), (1, .int x1), (2, .int x2), (3, .int ((I3 (o + 48) (((3 * x1) + x2) : Int32).toNatClampNeg)))] rfl (sModel_choose_294 o n sh Rf I3 L4 post x1 x2 (I3 (o + 48) (((3 * x1) + x2) : Int32).toNatClampNeg) hok hw H)
def fModel_choose_186 (D : va_G) (cA : FieldType → ClassId) (b : Nat) (E : State → Prop) (o : Nat) (n : Nat) (sh : Nat → qC) (Rf : Nat → Nat → Option Nat) (I : Nat → Nat → Int32) (L : Nat → Nat → Int64) (post : Option Value → qS → Prop) (x1 : Int32) (x2 : Int32) (x3 : Int32) (x4 : Int32) : Prop :=
  Ev (qGG D cA b E) mModel_choose 7 (0, 0) 53 [(0, .ref o), (1, .int x1), (2, .int x2), (3, .int ((x3 + Int32.ofInt 1)))] [] (n, sh, Rf, I, L) post
set_option maxHeartbeats 4000000 in
set_option maxRecDepth 20000 in
theorem sModel_choose_186 {D : va_G} {cA : FieldType → ClassId} {b : Nat} {E : State → Prop} (o : Nat) (n : Nat) (sh : Nat → qC) (Rf : Nat → Nat → Option Nat) (I : Nat → Nat → Int32) (L : Nat → Nat → Int64) (post : Option Value → qS → Prop) (x1 : Int32) (x2 : Int32) (x3 : Int32) (x4 : Int32) (hok : q_ok (qGG D cA b E)) (hw : WfModel (qGG D cA b E) n sh Rf o) (H : fModel_choose_186 D cA b E o n sh Rf I L post x1 x2 x3 x4) : Ev (qGG D cA b E) mModel_choose 7 (0, 0) 186 [(0, .ref o), (1, .int x1), (2, .int x2), (3, .int x3), (4, .int x4)] [] (n, sh, Rf, I, L) post := by
  unfold fModel_choose_186 at H
  refine ev_iinc dModel_choose_186 rfl (by decide) ?_
  refine ev_goto 53 dModel_choose_189 (by decide) ?_
  exact ev_sub [(0, .ref o), (1, .int x1), (2, .int x2), (3, .int ((x3 + Int32.ofInt 1)))] rfl H
def fModel_choose_53 (D : va_G) (cA : FieldType → ClassId) (b : Nat) (E : State → Prop) (o : Nat) (n : Nat) (sh : Nat → qC) (Rf : Nat → Nat → Option Nat) (I : Nat → Nat → Int32) (L : Nat → Nat → Int64) (post : Option Value → qS → Prop) (x1 : Int32) (x2 : Int32) (x3 : Int32) : Prop :=
  Ev (qGG D cA b E) mModel_towns 0 (0, 0) 0 (lv_args 0 [.ref o]) [] (n, sh, Rf, I, L) (fun v τ => ∃ (r2 : Int32) (I3 : Nat → Nat → Int32) (L4 : Nat → Nat → Int64), v = some (.int r2) ∧ τ = (n, sh, Rf, I3, L4) ∧ ((r2 ≤ x3 → Ev (qGG D cA b E) mModel_choose 7 (0, 0) 43 [(0, .ref o), (1, .int x1), (2, .int ((x2 + Int32.ofInt 1)))] [] (n, sh, Rf, I3, L4) post) ∧ (¬ r2 ≤ x3 → Ev (qGG D cA b E) mModel_townAt 0 (0, 0) 0 (lv_args 0 [.ref o, .int x3]) [] (n, sh, Rf, I3, L4) (fun v τ => ∃ (r7 : Int32) (I8 : Nat → Nat → Int32) (L9 : Nat → Nat → Int64), v = some (.int r7) ∧ τ = (n, sh, Rf, I8, L9) ∧ Ev (qGG D cA b E) mModel_fortAt 0 (0, 0) 0 (lv_args 0 [.ref o, .int x2]) [] (n, sh, Rf, I8, L9) (fun v τ => ∃ (r11 : Int32) (I12 : Nat → Nat → Int32) (L13 : Nat → Nat → Int64), v = some (.int r11) ∧ τ = (n, sh, Rf, I12, L13) ∧ vp_in ((16 * r7) + r11) 256 ∧ (((I12 (o + 25) (((16 * r7) + r11) : Int32).toNatClampNeg) < 1000000 → vp_in ((5 * (I12 o 34)) + x3) 10 ∧ vp_in x3 5 ∧ Ev (qGG D cA b E) mModel_least 0 (0, 0) 0 (lv_args 0 [.int ((I12 o 70)), .long ((((I12 (o + 46) (x3 : Int32).toNatClampNeg) / 10) : Int32).toInt64)]) [] (n, sh, Rf, I12, L13) (fun v τ => ∃ (r19 : Int32) (I20 : Nat → Nat → Int32) (L21 : Nat → Nat → Int64), v = some (.int r19) ∧ τ = (n, sh, Rf, I20, L21) ∧ vp_in x1 6 ∧ Ev (qGG D cA b E) mModel_affordable 1 (0, 0) 0 (lv_args 0 [.ref o, .int r19, .long ((L21 (o + 68) (x1 : Int32).toNatClampNeg)), .int (((10 * (I12 (o + 24) (((5 * (I12 o 34)) + x3) : Int32).toNatClampNeg)) + ((I12 (o + 25) (((16 * r7) + r11) : Int32).toNatClampNeg) * (I12 o 69))))]) [] (n, sh, Rf, I20, L21) (fun v τ => ∃ (r24 : Int32) (I25 : Nat → Nat → Int32) (L26 : Nat → Nat → Int64), v = some (.int r24) ∧ τ = (n, sh, Rf, I25, L26) ∧ Ev (qGG D cA b E) mModel_rateFor 6 (0, 0) 0 (lv_args 0 [.ref o, .int x2, .int ((I12 (o + 25) (((16 * r7) + r11) : Int32).toNatClampNeg))]) [] (n, sh, Rf, I25, L26) (fun v τ => ∃ (r28 : Int32) (I29 : Nat → Nat → Int32) (L30 : Nat → Nat → Int64), v = some (.int r28) ∧ τ = (n, sh, Rf, I29, L30) ∧ Ev (qGG D cA b E) mModel_weigh 0 (0, 0) 0 (lv_args 0 [.ref o, .int 1, .int x2, .int x3, .int r24, .int r28, .long (((r24 : Int32).toInt64 * (((r28 : Int32).toInt64 * (L30 o 121)) - (((10 * (I12 (o + 24) (((5 * (I12 o 34)) + x3) : Int32).toNatClampNeg)) + ((I12 (o + 25) (((16 * r7) + r11) : Int32).toNatClampNeg) * (I12 o 69))) : Int32).toInt64)))]) [] (n, sh, Rf, I29, L30) (fun v τ => ∃ (I33 : Nat → Nat → Int32) (L34 : Nat → Nat → Int64), v = none ∧ τ = (n, sh, Rf, I33, L34) ∧ fModel_choose_186 D cA b E o n sh Rf I33 L34 post x1 x2 x3 (I12 (o + 25) (((16 * r7) + r11) : Int32).toNatClampNeg)))))) ∧ (¬ (I12 (o + 25) (((16 * r7) + r11) : Int32).toNatClampNeg) < 1000000 → fModel_choose_186 D cA b E o n sh Rf I12 L13 post x1 x2 x3 (I12 (o + 25) (((16 * r7) + r11) : Int32).toNatClampNeg))))))))
set_option maxHeartbeats 4000000 in
set_option maxRecDepth 20000 in
theorem sModel_choose_53 {D : va_G} {cA : FieldType → ClassId} {b : Nat} {E : State → Prop} (o : Nat) (n : Nat) (sh : Nat → qC) (Rf : Nat → Nat → Option Nat) (I : Nat → Nat → Int32) (L : Nat → Nat → Int64) (post : Option Value → qS → Prop) (x1 : Int32) (x2 : Int32) (x3 : Int32) (hok : q_ok (qGG D cA b E)) (hw : WfModel (qGG D cA b E) n sh Rf o) (H : fModel_choose_53 D cA b E o n sh Rf I L post x1 x2 x3) : Ev (qGG D cA b E) mModel_choose 7 (0, 0) 53 [(0, .ref o), (1, .int x1), (2, .int x2), (3, .int x3)] [] (n, sh, Rf, I, L) post := by
  unfold fModel_choose_53 at H
  refine ev_iload_n dModel_choose_53 rfl ?_
  refine ev_aload_n dModel_choose_54 rfl ?_
  refine ev_callV [] [.int x3] (B' := (0, 0)) (B'' := (0, 0)) hok mmModel_towns mk_Model_488 (ci := 12) rfl rfl (woModel hw) rfl (Nat.le_of_ble_eq_true rfl) rfl (Nat.le_of_ble_eq_true rfl) dModel_choose_55 rfl (by decide) H (fun v τ p1 => ?_)
  obtain ⟨r2, I3, L4, rfl, rfl, H⟩ := p1
  refine ev_icmp_ge 192 dModel_choose_58 (by decide) (fun c5 => ?_) (fun c5 => ?_)
  · have H := H.1 c5
    refine ev_iinc dModel_choose_192 rfl (by decide) ?_
    refine ev_goto 43 dModel_choose_195 (by decide) ?_
    exact ev_sub [(0, .ref o), (1, .int x1), (2, .int ((x2 + Int32.ofInt 1)))] rfl H
  · have H := H.2 c5
    refine ev_aload_n dModel_choose_61 rfl ?_
    refine ev_getR hok fk_Model_269 (woModel hw) (fun _ _ _ => rfl) (wrModel_36 hw) dModel_choose_62 ?_
    refine ev_bipush (16) dModel_choose_65 (by decide) ?_
    refine ev_aload_n dModel_choose_67 rfl ?_
    refine ev_iload_n dModel_choose_68 rfl ?_
    refine ev_callV [.int x3] [.int 16, .ref ((o + 25))] (B' := (0, 0)) (B'' := (0, 0)) hok mmModel_townAt mk_Model_494 (ci := 12) rfl rfl (woModel hw) rfl (Nat.le_of_ble_eq_true rfl) rfl (Nat.le_of_ble_eq_true rfl) dModel_choose_69 rfl (by decide) H (fun v τ p6 => ?_)
    obtain ⟨r7, I8, L9, rfl, rfl, H⟩ := p6
    refine ev_imul dModel_choose_72 ?_
    refine ev_aload_n dModel_choose_73 rfl ?_
    refine ev_iload_n dModel_choose_74 rfl ?_
    refine ev_callV [.int x2] [.int ((16 * r7)), .ref ((o + 25))] (B' := (0, 0)) (B'' := (0, 0)) hok mmModel_fortAt mk_Model_661 (ci := 12) rfl rfl (woModel hw) rfl (Nat.le_of_ble_eq_true rfl) rfl (Nat.le_of_ble_eq_true rfl) dModel_choose_75 rfl (by decide) H (fun v τ p10 => ?_)
    obtain ⟨r11, I12, L13, rfl, rfl, H⟩ := p10
    refine ev_iadd dModel_choose_78 ?_
    obtain ⟨h14, H⟩ := H
    refine ev_iald hok (waModel_36 hw) h14 dModel_choose_79 ?_
    refine ev_istore dModel_choose_80 (by decide) ?_
    refine ev_iload dModel_choose_82 rfl ?_
    refine ev_ldcw (1000000) dModel_choose_84 (q_t7 91 (by decide +kernel) rfl) ?_
    refine ev_icmp_lt 93 dModel_choose_87 (by decide) (fun c15 => ?_) (fun c15 => ?_)
    · have H := H.1 c15
      refine ev_bipush (10) dModel_choose_93 (by decide) ?_
      refine ev_aload_n dModel_choose_95 rfl ?_
      refine ev_getR hok fk_Model_266 (woModel hw) (fun _ _ _ => rfl) (wrModel_33 hw) dModel_choose_96 ?_
      refine ev_iconst (5) dModel_choose_99 (by decide) ?_
      refine ev_aload_n dModel_choose_100 rfl ?_
      refine ev_getI hok fk_Model_147 (woModel hw) (fun _ _ _ => rfl) dModel_choose_101 ?_
      refine ev_imul dModel_choose_104 ?_
      refine ev_iload_n dModel_choose_105 rfl ?_
      refine ev_iadd dModel_choose_106 ?_
      obtain ⟨h16, H⟩ := H
      refine ev_iald hok (waModel_33 hw) h16 dModel_choose_107 ?_
      refine ev_imul dModel_choose_108 ?_
      refine ev_iload dModel_choose_109 rfl ?_
      refine ev_aload_n dModel_choose_111 rfl ?_
      refine ev_getI hok fk_Model_397 (woModel hw) (fun _ _ _ => rfl) dModel_choose_112 ?_
      refine ev_imul dModel_choose_115 ?_
      refine ev_iadd dModel_choose_116 ?_
      refine ev_istore dModel_choose_117 (by decide) ?_
      refine ev_aload_n dModel_choose_119 rfl ?_
      refine ev_aload_n dModel_choose_120 rfl ?_
      refine ev_getI hok fk_Model_400 (woModel hw) (fun _ _ _ => rfl) dModel_choose_121 ?_
      refine ev_aload_n dModel_choose_124 rfl ?_
      refine ev_getR hok fk_Model_664 (woModel hw) (fun _ _ _ => rfl) (wrModel_79 hw) dModel_choose_125 ?_
      refine ev_iload_n dModel_choose_128 rfl ?_
      obtain ⟨h17, H⟩ := H
      refine ev_iald hok (waModel_79 hw) h17 dModel_choose_129 ?_
      refine ev_bipush (10) dModel_choose_130 (by decide) ?_
      refine ev_idiv dModel_choose_132 (by decide) ?_
      refine ev_i2l dModel_choose_133 ?_
      refine ev_callS [.int ((I12 o 70)), .long ((((I12 (o + 46) (x3 : Int32).toNatClampNeg) / 10) : Int32).toInt64)] [.ref o] (B' := (0, 0)) (B'' := (0, 0)) hok mmModel_least mk_Model_651 rfl (Nat.le_of_ble_eq_true rfl) rfl (Nat.le_of_ble_eq_true rfl) dModel_choose_134 rfl (by decide) H (fun v τ p18 => ?_)
      obtain ⟨r19, I20, L21, rfl, rfl, H⟩ := p18
      refine ev_aload_n dModel_choose_137 rfl ?_
      refine ev_getR hok fk_Model_578 (woModel hw) (fun _ _ _ => rfl) (wrModel_101 hw) dModel_choose_138 ?_
      refine ev_iload_n dModel_choose_141 rfl ?_
      obtain ⟨h22, H⟩ := H
      refine ev_lald hok (waModel_101 hw) h22 dModel_choose_142 ?_
      refine ev_iload dModel_choose_143 rfl ?_
      refine ev_callV [.int r19, .long ((L21 (o + 68) (x1 : Int32).toNatClampNeg)), .int (((10 * (I12 (o + 24) (((5 * (I12 o 34)) + x3) : Int32).toNatClampNeg)) + ((I12 (o + 25) (((16 * r7) + r11) : Int32).toNatClampNeg) * (I12 o 69))))] [] (B' := (0, 0)) (B'' := (0, 0)) hok mmModel_affordable mk_Model_667 (ci := 12) rfl rfl (woModel hw) rfl (Nat.le_of_ble_eq_true rfl) rfl (Nat.le_of_ble_eq_true rfl) dModel_choose_145 rfl (by decide) H (fun v τ p23 => ?_)
      obtain ⟨r24, I25, L26, rfl, rfl, H⟩ := p23
      refine ev_istore dModel_choose_148 (by decide) ?_
      refine ev_aload_n dModel_choose_150 rfl ?_
      refine ev_iload_n dModel_choose_151 rfl ?_
      refine ev_iload dModel_choose_152 rfl ?_
      refine ev_callV [.int x2, .int ((I12 (o + 25) (((16 * r7) + r11) : Int32).toNatClampNeg))] [] (B' := (0, 0)) (B'' := (0, 0)) hok mmModel_rateFor mk_Model_671 (ci := 12) rfl rfl (woModel hw) rfl (Nat.le_of_ble_eq_true rfl) rfl (Nat.le_of_ble_eq_true rfl) dModel_choose_154 rfl (by decide) H (fun v τ p27 => ?_)
      obtain ⟨r28, I29, L30, rfl, rfl, H⟩ := p27
      refine ev_istore dModel_choose_157 (by decide) ?_
      refine ev_aload_n dModel_choose_159 rfl ?_
      refine ev_iconst (1) dModel_choose_160 (by decide) ?_
      refine ev_iload_n dModel_choose_161 rfl ?_
      refine ev_iload_n dModel_choose_162 rfl ?_
      refine ev_iload dModel_choose_163 rfl ?_
      refine ev_iload dModel_choose_165 rfl ?_
      refine ev_iload dModel_choose_167 rfl ?_
      refine ev_i2l dModel_choose_169 ?_
      refine ev_iload dModel_choose_170 rfl ?_
      refine ev_i2l dModel_choose_172 ?_
      refine ev_aload_n dModel_choose_173 rfl ?_
      refine ev_getL hok fk_Model_506 (woModel hw) (fun _ _ _ => rfl) dModel_choose_174 ?_
      refine ev_lmul dModel_choose_177 ?_
      refine ev_iload dModel_choose_178 rfl ?_
      refine ev_i2l dModel_choose_180 ?_
      refine ev_lsub dModel_choose_181 ?_
      refine ev_lmul dModel_choose_182 ?_
      refine ev_callV [.int 1, .int x2, .int x3, .int r24, .int r28, .long (((r24 : Int32).toInt64 * (((r28 : Int32).toInt64 * (L30 o 121)) - (((10 * (I12 (o + 24) (((5 * (I12 o 34)) + x3) : Int32).toNatClampNeg)) + ((I12 (o + 25) (((16 * r7) + r11) : Int32).toNatClampNeg) * (I12 o 69))) : Int32).toInt64)))] [] (B' := (0, 0)) (B'' := (0, 0)) hok mmModel_weigh mk_Model_674 (ci := 12) rfl rfl (woModel hw) rfl (Nat.le_of_ble_eq_true rfl) rfl (Nat.le_of_ble_eq_true rfl) dModel_choose_183 rfl (by decide) H (fun v τ p31 => ?_)
      obtain ⟨I33, L34, rfl, rfl, H⟩ := p31
      exact ev_sub [(0, .ref o), (1, .int x1), (2, .int x2), (3, .int x3), (4, .int ((I12 (o + 25) (((16 * r7) + r11) : Int32).toNatClampNeg)))] rfl (sModel_choose_186 o n sh Rf I33 L34 post x1 x2 x3 (I12 (o + 25) (((16 * r7) + r11) : Int32).toNatClampNeg) hok hw H)
    · have H := H.2 c15
      refine ev_goto 186 dModel_choose_90 (by decide) ?_
      exact ev_sub [(0, .ref o), (1, .int x1), (2, .int x2), (3, .int x3), (4, .int ((I12 (o + 25) (((16 * r7) + r11) : Int32).toNatClampNeg)))] rfl (sModel_choose_186 o n sh Rf I12 L13 post x1 x2 x3 (I12 (o + 25) (((16 * r7) + r11) : Int32).toNatClampNeg) hok hw H)
def fModel_choose_43 (D : va_G) (cA : FieldType → ClassId) (b : Nat) (E : State → Prop) (o : Nat) (n : Nat) (sh : Nat → qC) (Rf : Nat → Nat → Option Nat) (I : Nat → Nat → Int32) (L : Nat → Nat → Int64) (post : Option Value → qS → Prop) (x1 : Int32) (x2 : Int32) : Prop :=
  Ev (qGG D cA b E) mModel_forts 0 (0, 0) 0 (lv_args 0 [.ref o]) [] (n, sh, Rf, I, L) (fun v τ => ∃ (r2 : Int32) (I3 : Nat → Nat → Int32) (L4 : Nat → Nat → Int64), v = some (.int r2) ∧ τ = (n, sh, Rf, I3, L4) ∧ ((r2 ≤ x2 → Ev (qGG D cA b E) mModel_choose 7 (0, 0) 200 [(0, .ref o), (1, .int x1), (2, .int 0)] [] (n, sh, Rf, I3, L4) post) ∧ (¬ r2 ≤ x2 → Ev (qGG D cA b E) mModel_choose 7 (0, 0) 53 [(0, .ref o), (1, .int x1), (2, .int x2), (3, .int 0)] [] (n, sh, Rf, I3, L4) post)))
set_option maxHeartbeats 4000000 in
set_option maxRecDepth 20000 in
theorem sModel_choose_43 {D : va_G} {cA : FieldType → ClassId} {b : Nat} {E : State → Prop} (o : Nat) (n : Nat) (sh : Nat → qC) (Rf : Nat → Nat → Option Nat) (I : Nat → Nat → Int32) (L : Nat → Nat → Int64) (post : Option Value → qS → Prop) (x1 : Int32) (x2 : Int32) (hok : q_ok (qGG D cA b E)) (hw : WfModel (qGG D cA b E) n sh Rf o) (H : fModel_choose_43 D cA b E o n sh Rf I L post x1 x2) : Ev (qGG D cA b E) mModel_choose 7 (0, 0) 43 [(0, .ref o), (1, .int x1), (2, .int x2)] [] (n, sh, Rf, I, L) post := by
  unfold fModel_choose_43 at H
  refine ev_iload_n dModel_choose_43 rfl ?_
  refine ev_aload_n dModel_choose_44 rfl ?_
  refine ev_callV [] [.int x2] (B' := (0, 0)) (B'' := (0, 0)) hok mmModel_forts mk_Model_624 (ci := 12) rfl rfl (woModel hw) rfl (Nat.le_of_ble_eq_true rfl) rfl (Nat.le_of_ble_eq_true rfl) dModel_choose_45 rfl (by decide) H (fun v τ p1 => ?_)
  obtain ⟨r2, I3, L4, rfl, rfl, H⟩ := p1
  refine ev_icmp_ge 198 dModel_choose_48 (by decide) (fun c5 => ?_) (fun c5 => ?_)
  · have H := H.1 c5
    refine ev_iconst (0) dModel_choose_198 (by decide) ?_
    refine ev_istore_n dModel_choose_199 (by decide) ?_
    exact ev_sub [(0, .ref o), (1, .int x1), (2, .int 0)] rfl H
  · have H := H.2 c5
    refine ev_iconst (0) dModel_choose_51 (by decide) ?_
    refine ev_istore_n dModel_choose_52 (by decide) ?_
    exact ev_sub [(0, .ref o), (1, .int x1), (2, .int x2), (3, .int 0)] rfl H
def fModel_choose_0 (D : va_G) (cA : FieldType → ClassId) (b : Nat) (E : State → Prop) (o : Nat) (n : Nat) (sh : Nat → qC) (Rf : Nat → Nat → Option Nat) (I : Nat → Nat → Int32) (L : Nat → Nat → Int64) (post : Option Value → qS → Prop) (x1 : Int32) : Prop :=
  ∀ I1 : Nat → Nat → Int32, q_u I o 122 0 = I1 → ∀ I2 : Nat → Nat → Int32, q_u I1 o 123 (-1) = I2 → ∀ I3 : Nat → Nat → Int32, q_u I2 o 124 (-1) = I3 → ∀ I4 : Nat → Nat → Int32, q_u I3 o 125 0 = I4 → ∀ L5 : Nat → Nat → Int64, q_u L o 128 0 = L5 → Ev (qGG D cA b E) mModel_bestPan 3 (0, 0) 0 (lv_args 0 [.ref o]) [] (n, sh, Rf, I4, L5) (fun v τ => ∃ (r7 : Int32) (I8 : Nat → Nat → Int32) (L9 : Nat → Nat → Int64), v = some (.int r7) ∧ τ = (n, sh, Rf, I8, L9) ∧ ∀ I10 : Nat → Nat → Int32, q_u I8 o 127 r7 = I10 → ((0 ≤ (I10 o 127) → Ev (qGG D cA b E) mModel_choose 7 (0, 0) 43 [(0, .ref o), (1, .int x1), (2, .int 0)] [] (n, sh, Rf, I10, L9) post) ∧ (¬ 0 ≤ (I10 o 127) → post none (n, sh, Rf, I10, L9))))
set_option maxHeartbeats 4000000 in
set_option maxRecDepth 20000 in
theorem sModel_choose_0 {D : va_G} {cA : FieldType → ClassId} {b : Nat} {E : State → Prop} (o : Nat) (n : Nat) (sh : Nat → qC) (Rf : Nat → Nat → Option Nat) (I : Nat → Nat → Int32) (L : Nat → Nat → Int64) (post : Option Value → qS → Prop) (x1 : Int32) (hok : q_ok (qGG D cA b E)) (hw : WfModel (qGG D cA b E) n sh Rf o) (H : fModel_choose_0 D cA b E o n sh Rf I L post x1) : Ev (qGG D cA b E) mModel_choose 7 (0, 0) 0 [(0, .ref o), (1, .int x1)] [] (n, sh, Rf, I, L) post := by
  unfold fModel_choose_0 at H
  refine ev_aload_n dModel_choose_0 rfl ?_
  refine ev_iconst (0) dModel_choose_1 (by decide) ?_
  refine ev_putI hok fk_Model_636 (woModel hw) (fun _ _ _ => rfl) rfl rfl dModel_choose_2 ?_
  generalize eI1 : q_u I o 122 0 = I1
  have H := H I1 eI1
  refine ev_aload_n dModel_choose_5 rfl ?_
  refine ev_iconst (-1) dModel_choose_6 (by decide) ?_
  refine ev_putI hok fk_Model_639 (woModel hw) (fun _ _ _ => rfl) rfl rfl dModel_choose_7 ?_
  generalize eI2 : q_u I1 o 123 (-1) = I2
  have H := H I2 eI2
  refine ev_aload_n dModel_choose_10 rfl ?_
  refine ev_iconst (-1) dModel_choose_11 (by decide) ?_
  refine ev_putI hok fk_Model_642 (woModel hw) (fun _ _ _ => rfl) rfl rfl dModel_choose_12 ?_
  generalize eI3 : q_u I2 o 124 (-1) = I3
  have H := H I3 eI3
  refine ev_aload_n dModel_choose_15 rfl ?_
  refine ev_iconst (0) dModel_choose_16 (by decide) ?_
  refine ev_putI hok fk_Model_645 (woModel hw) (fun _ _ _ => rfl) rfl rfl dModel_choose_17 ?_
  generalize eI4 : q_u I3 o 125 0 = I4
  have H := H I4 eI4
  refine ev_aload_n dModel_choose_20 rfl ?_
  refine ev_lconst 0 dModel_choose_21 (by decide) ?_
  refine ev_putL hok fk_Model_633 (woModel hw) (fun _ _ _ => rfl) rfl rfl dModel_choose_22 ?_
  generalize eL5 : q_u L o 128 0 = L5
  have H := H L5 eL5
  refine ev_aload_n dModel_choose_25 rfl ?_
  refine ev_aload_n dModel_choose_26 rfl ?_
  refine ev_callV [] [.ref o] (B' := (0, 0)) (B'' := (0, 0)) hok mmModel_bestPan mk_Model_655 (ci := 12) rfl rfl (woModel hw) rfl (Nat.le_of_ble_eq_true rfl) rfl (Nat.le_of_ble_eq_true rfl) dModel_choose_27 rfl (by decide) H (fun v τ p6 => ?_)
  obtain ⟨r7, I8, L9, rfl, rfl, H⟩ := p6
  refine ev_putI hok fk_Model_658 (woModel hw) (fun _ _ _ => rfl) rfl rfl dModel_choose_30 ?_
  generalize eI10 : q_u I8 o 127 r7 = I10
  have H := H I10 eI10
  refine ev_aload_n dModel_choose_33 rfl ?_
  refine ev_getI hok fk_Model_658 (woModel hw) (fun _ _ _ => rfl) dModel_choose_34 ?_
  refine ev_if_ge 41 dModel_choose_37 (by decide) (fun c11 => ?_) (fun c11 => ?_)
  · have H := H.1 c11
    refine ev_iconst (0) dModel_choose_41 (by decide) ?_
    refine ev_istore_n dModel_choose_42 (by decide) ?_
    exact ev_sub [(0, .ref o), (1, .int x1), (2, .int 0)] rfl H
  · have H := H.2 c11
    exact ev_vret rfl dModel_choose_40 H
def fModel_goOn_0 (D : va_G) (cA : FieldType → ClassId) (b : Nat) (E : State → Prop) (o : Nat) (n : Nat) (sh : Nat → qC) (Rf : Nat → Nat → Option Nat) (I : Nat → Nat → Int32) (L : Nat → Nat → Int64) (post : Option Value → qS → Prop)  : Prop :=
  ∀ I1 : Nat → Nat → Int32, q_u I o 57 (I o 136) = I1 → ∀ I2 : Nat → Nat → Int32, q_u I1 o 106 5 = I2 → Ev (qGG D cA b E) mModel_tellMonth 6 (0, 0) 0 (lv_args 0 [.ref o]) [] (n, sh, Rf, I2, L) (fun v τ => ∃ (I5 : Nat → Nat → Int32) (L6 : Nat → Nat → Int64), v = none ∧ τ = (n, sh, Rf, I5, L6) ∧ Ev (qGG D cA b E) mModel_fillTowns 1 (0, 0) 0 (lv_args 0 [.ref o]) [] (n, sh, Rf, I5, L6) (fun v τ => ∃ (I9 : Nat → Nat → Int32) (L10 : Nat → Nat → Int64), v = none ∧ τ = (n, sh, Rf, I9, L10) ∧ post none (n, sh, Rf, I9, L10)))
set_option maxHeartbeats 4000000 in
set_option maxRecDepth 20000 in
theorem sModel_goOn_0 {D : va_G} {cA : FieldType → ClassId} {b : Nat} {E : State → Prop} (o : Nat) (n : Nat) (sh : Nat → qC) (Rf : Nat → Nat → Option Nat) (I : Nat → Nat → Int32) (L : Nat → Nat → Int64) (post : Option Value → qS → Prop)  (hok : q_ok (qGG D cA b E)) (hw : WfModel (qGG D cA b E) n sh Rf o) (H : fModel_goOn_0 D cA b E o n sh Rf I L post ) : Ev (qGG D cA b E) mModel_goOn 7 (0, 0) 0 [(0, .ref o)] [] (n, sh, Rf, I, L) post := by
  unfold fModel_goOn_0 at H
  refine ev_aload_n dModel_goOn_0 rfl ?_
  refine ev_aload_n dModel_goOn_1 rfl ?_
  refine ev_getI hok fk_Model_766 (woModel hw) (fun _ _ _ => rfl) dModel_goOn_2 ?_
  refine ev_putI hok fk_Model_348 (woModel hw) (fun _ _ _ => rfl) rfl rfl dModel_goOn_5 ?_
  generalize eI1 : q_u I o 57 (I o 136) = I1
  have H := H I1 eI1
  refine ev_aload_n dModel_goOn_8 rfl ?_
  refine ev_iconst (5) dModel_goOn_9 (by decide) ?_
  refine ev_putI hok fk_Model_516 (woModel hw) (fun _ _ _ => rfl) rfl rfl dModel_goOn_10 ?_
  generalize eI2 : q_u I1 o 106 5 = I2
  have H := H I2 eI2
  refine ev_aload_n dModel_goOn_13 rfl ?_
  refine ev_callV [] [] (B' := (0, 0)) (B'' := (0, 0)) hok mmModel_tellMonth mk_Model_715 (ci := 12) rfl rfl (woModel hw) rfl (Nat.le_of_ble_eq_true rfl) rfl (Nat.le_of_ble_eq_true rfl) dModel_goOn_14 rfl (by decide) H (fun v τ p3 => ?_)
  obtain ⟨I5, L6, rfl, rfl, H⟩ := p3
  refine ev_aload_n dModel_goOn_17 rfl ?_
  refine ev_callV [] [] (B' := (0, 0)) (B'' := (0, 0)) hok mmModel_fillTowns mk_Model_730 (ci := 12) rfl rfl (woModel hw) rfl (Nat.le_of_ble_eq_true rfl) rfl (Nat.le_of_ble_eq_true rfl) dModel_goOn_18 rfl (by decide) H (fun v τ p7 => ?_)
  obtain ⟨I9, L10, rfl, rfl, H⟩ := p7
  exact ev_vret rfl dModel_goOn_21 H
def fModel_land_59 (D : va_G) (cA : FieldType → ClassId) (b : Nat) (E : State → Prop) (o : Nat) (n : Nat) (sh : Nat → qC) (Rf : Nat → Nat → Option Nat) (I : Nat → Nat → Int32) (L : Nat → Nat → Int64) (post : Option Value → qS → Prop)  : Prop :=
  Ev (qGG D cA b E) mModel_isGood 0 (0, 0) 0 (lv_args 0 [.ref o]) [] (n, sh, Rf, I, L) (fun v τ => ∃ (r2 : Int32) (I3 : Nat → Nat → Int32) (L4 : Nat → Nat → Int64), v = some (.int r2) ∧ τ = (n, sh, Rf, I3, L4) ∧ ((r2 = 0 → Ev (qGG D cA b E) mModel_isGood 0 (0, 0) 0 (lv_args 0 [.ref o]) [] (n, sh, Rf, I3, L4) (fun v τ => ∃ (r7 : Int32) (I8 : Nat → Nat → Int32) (L9 : Nat → Nat → Int64), v = some (.int r7) ∧ τ = (n, sh, Rf, I8, L9) ∧ ((¬ r7 = 0 → ∀ I11 : Nat → Nat → Int32, q_u I8 o 34 (I8 o 35) = I11 → ∀ I12 : Nat → Nat → Int32, q_u I11 o 67 0 = I12 → ∀ I13 : Nat → Nat → Int32, q_u I12 o 135 0 = I13 → Ev (qGG D cA b E) mModel_measure 0 (0, 0) 0 (lv_args 0 [.ref o]) [] (n, sh, Rf, I13, L9) (fun v τ => ∃ (I16 : Nat → Nat → Int32) (L17 : Nat → Nat → Int64), v = none ∧ τ = (n, sh, Rf, I16, L17) ∧ vp_in (I16 o 34) 2 ∧ vp_in (I16 o 34) 2 ∧ vp_in (I16 o 34) 2 ∧ vp_in (I16 o 34) 2 ∧ post (some (.int (((((I16 (o + 6) ((I16 o 34) : Int32).toNatClampNeg) + (I16 (o + 7) ((I16 o 34) : Int32).toNatClampNeg)) + (I16 (o + 8) ((I16 o 34) : Int32).toNatClampNeg)) + (I16 (o + 9) ((I16 o 34) : Int32).toNatClampNeg))))) (n, sh, Rf, I16, L17))) ∧ (r7 = 0 → post (some (.int ((-1)))) (n, sh, Rf, I8, L9))))) ∧ (¬ r2 = 0 → (((I3 o 8) = 0 → Ev (qGG D cA b E) mModel_isGood 0 (0, 0) 0 (lv_args 0 [.ref o]) [] (n, sh, Rf, I3, L4) (fun v τ => ∃ (r24 : Int32) (I25 : Nat → Nat → Int32) (L26 : Nat → Nat → Int64), v = some (.int r24) ∧ τ = (n, sh, Rf, I25, L26) ∧ ((¬ r24 = 0 → ∀ I28 : Nat → Nat → Int32, q_u I25 o 34 (I25 o 35) = I28 → ∀ I29 : Nat → Nat → Int32, q_u I28 o 67 0 = I29 → ∀ I30 : Nat → Nat → Int32, q_u I29 o 135 0 = I30 → Ev (qGG D cA b E) mModel_measure 0 (0, 0) 0 (lv_args 0 [.ref o]) [] (n, sh, Rf, I30, L26) (fun v τ => ∃ (I33 : Nat → Nat → Int32) (L34 : Nat → Nat → Int64), v = none ∧ τ = (n, sh, Rf, I33, L34) ∧ vp_in (I33 o 34) 2 ∧ vp_in (I33 o 34) 2 ∧ vp_in (I33 o 34) 2 ∧ vp_in (I33 o 34) 2 ∧ post (some (.int (((((I33 (o + 6) ((I33 o 34) : Int32).toNatClampNeg) + (I33 (o + 7) ((I33 o 34) : Int32).toNatClampNeg)) + (I33 (o + 8) ((I33 o 34) : Int32).toNatClampNeg)) + (I33 (o + 9) ((I33 o 34) : Int32).toNatClampNeg))))) (n, sh, Rf, I33, L34))) ∧ (r24 = 0 → post (some (.int ((-1)))) (n, sh, Rf, I25, L26))))) ∧ (¬ (I3 o 8) = 0 → Ev (qGG D cA b E) mModel_readLine 6 (0, 0) 0 (lv_args 0 [.ref o]) [] (n, sh, Rf, I3, L4) (fun v τ => ∃ (I41 : Nat → Nat → Int32) (L42 : Nat → Nat → Int64), v = none ∧ τ = (n, sh, Rf, I41, L42) ∧ Ev (qGG D cA b E) mModel_land 7 (0, 0) 59 [(0, .ref o)] [] (n, sh, Rf, I41, L42) post))))))
set_option maxHeartbeats 4000000 in
set_option maxRecDepth 20000 in
theorem sModel_land_59 {D : va_G} {cA : FieldType → ClassId} {b : Nat} {E : State → Prop} (o : Nat) (n : Nat) (sh : Nat → qC) (Rf : Nat → Nat → Option Nat) (I : Nat → Nat → Int32) (L : Nat → Nat → Int64) (post : Option Value → qS → Prop)  (hok : q_ok (qGG D cA b E)) (hw : WfModel (qGG D cA b E) n sh Rf o) (H : fModel_land_59 D cA b E o n sh Rf I L post ) : Ev (qGG D cA b E) mModel_land 7 (0, 0) 59 [(0, .ref o)] [] (n, sh, Rf, I, L) post := by
  unfold fModel_land_59 at H
  refine ev_aload_n dModel_land_59 rfl ?_
  refine ev_callV [] [] (B' := (0, 0)) (B'' := (0, 0)) hok mmModel_isGood mk_Model_126 (ci := 12) rfl rfl (woModel hw) rfl (Nat.le_of_ble_eq_true rfl) rfl (Nat.le_of_ble_eq_true rfl) dModel_land_60 rfl (by decide) H (fun v τ p1 => ?_)
  obtain ⟨r2, I3, L4, rfl, rfl, H⟩ := p1
  refine ev_if_eq 80 dModel_land_63 (by decide) (fun c5 => ?_) (fun c5 => ?_)
  · have H := H.1 c5
    refine ev_aload_n dModel_land_80 rfl ?_
    refine ev_callV [] [] (B' := (0, 0)) (B'' := (0, 0)) hok mmModel_isGood mk_Model_126 (ci := 12) rfl rfl (woModel hw) rfl (Nat.le_of_ble_eq_true rfl) rfl (Nat.le_of_ble_eq_true rfl) dModel_land_81 rfl (by decide) H (fun v τ p6 => ?_)
    obtain ⟨r7, I8, L9, rfl, rfl, H⟩ := p6
    refine ev_if_ne 89 dModel_land_84 (by decide) (fun c10 => ?_) (fun c10 => ?_)
    · have H := H.1 c10
      refine ev_aload_n dModel_land_89 rfl ?_
      refine ev_aload_n dModel_land_90 rfl ?_
      refine ev_getI hok fk_Model_150 (woModel hw) (fun _ _ _ => rfl) dModel_land_91 ?_
      refine ev_putI hok fk_Model_147 (woModel hw) (fun _ _ _ => rfl) rfl rfl dModel_land_94 ?_
      generalize eI11 : q_u I8 o 34 (I8 o 35) = I11
      have H := H I11 eI11
      refine ev_aload_n dModel_land_97 rfl ?_
      refine ev_iconst (0) dModel_land_98 (by decide) ?_
      refine ev_putI hok fk_Model_169 (woModel hw) (fun _ _ _ => rfl) rfl rfl dModel_land_99 ?_
      generalize eI12 : q_u I11 o 67 0 = I12
      have H := H I12 eI12
      refine ev_aload_n dModel_land_102 rfl ?_
      refine ev_iconst (0) dModel_land_103 (by decide) ?_
      refine ev_putI hok fk_Model_172 (woModel hw) (fun _ _ _ => rfl) (q_bz (Or.inl rfl)) (q_bf (Or.inl rfl)) dModel_land_104 ?_
      generalize eI13 : q_u I12 o 135 0 = I13
      have H := H I13 eI13
      refine ev_aload_n dModel_land_107 rfl ?_
      refine ev_callV [] [] (B' := (0, 0)) (B'' := (0, 0)) hok mmModel_measure mk_Model_175 (ci := 12) rfl rfl (woModel hw) rfl (Nat.le_of_ble_eq_true rfl) rfl (Nat.le_of_ble_eq_true rfl) dModel_land_108 rfl (by decide) H (fun v τ p14 => ?_)
      obtain ⟨I16, L17, rfl, rfl, H⟩ := p14
      refine ev_aload_n dModel_land_111 rfl ?_
      refine ev_getR hok fk_Model_153 (woModel hw) (fun _ _ _ => rfl) (wrModel_15 hw) dModel_land_112 ?_
      refine ev_aload_n dModel_land_115 rfl ?_
      refine ev_getI hok fk_Model_147 (woModel hw) (fun _ _ _ => rfl) dModel_land_116 ?_
      obtain ⟨h18, H⟩ := H
      refine ev_iald hok (waModel_15 hw) h18 dModel_land_119 ?_
      refine ev_aload_n dModel_land_120 rfl ?_
      refine ev_getR hok fk_Model_157 (woModel hw) (fun _ _ _ => rfl) (wrModel_16 hw) dModel_land_121 ?_
      refine ev_aload_n dModel_land_124 rfl ?_
      refine ev_getI hok fk_Model_147 (woModel hw) (fun _ _ _ => rfl) dModel_land_125 ?_
      obtain ⟨h19, H⟩ := H
      refine ev_iald hok (waModel_16 hw) h19 dModel_land_128 ?_
      refine ev_iadd dModel_land_129 ?_
      refine ev_aload_n dModel_land_130 rfl ?_
      refine ev_getR hok fk_Model_160 (woModel hw) (fun _ _ _ => rfl) (wrModel_17 hw) dModel_land_131 ?_
      refine ev_aload_n dModel_land_134 rfl ?_
      refine ev_getI hok fk_Model_147 (woModel hw) (fun _ _ _ => rfl) dModel_land_135 ?_
      obtain ⟨h20, H⟩ := H
      refine ev_iald hok (waModel_17 hw) h20 dModel_land_138 ?_
      refine ev_iadd dModel_land_139 ?_
      refine ev_aload_n dModel_land_140 rfl ?_
      refine ev_getR hok fk_Model_163 (woModel hw) (fun _ _ _ => rfl) (wrModel_18 hw) dModel_land_141 ?_
      refine ev_aload_n dModel_land_144 rfl ?_
      refine ev_getI hok fk_Model_147 (woModel hw) (fun _ _ _ => rfl) dModel_land_145 ?_
      obtain ⟨h21, H⟩ := H
      refine ev_iald hok (waModel_18 hw) h21 dModel_land_148 ?_
      refine ev_iadd dModel_land_149 ?_
      exact ev_iret rfl dModel_land_150 H
    · have H := H.2 c10
      refine ev_iconst (-1) dModel_land_87 (by decide) ?_
      exact ev_iret rfl dModel_land_88 H
  · have H := H.2 c5
    refine ev_aload_n dModel_land_66 rfl ?_
    refine ev_getI hok fk_Model_98 (woModel hw) (fun _ _ _ => rfl) dModel_land_67 ?_
    refine ev_if_eq 80 dModel_land_70 (by decide) (fun c22 => ?_) (fun c22 => ?_)
    · have H := H.1 c22
      refine ev_aload_n dModel_land_80 rfl ?_
      refine ev_callV [] [] (B' := (0, 0)) (B'' := (0, 0)) hok mmModel_isGood mk_Model_126 (ci := 12) rfl rfl (woModel hw) rfl (Nat.le_of_ble_eq_true rfl) rfl (Nat.le_of_ble_eq_true rfl) dModel_land_81 rfl (by decide) H (fun v τ p23 => ?_)
      obtain ⟨r24, I25, L26, rfl, rfl, H⟩ := p23
      refine ev_if_ne 89 dModel_land_84 (by decide) (fun c27 => ?_) (fun c27 => ?_)
      · have H := H.1 c27
        refine ev_aload_n dModel_land_89 rfl ?_
        refine ev_aload_n dModel_land_90 rfl ?_
        refine ev_getI hok fk_Model_150 (woModel hw) (fun _ _ _ => rfl) dModel_land_91 ?_
        refine ev_putI hok fk_Model_147 (woModel hw) (fun _ _ _ => rfl) rfl rfl dModel_land_94 ?_
        generalize eI28 : q_u I25 o 34 (I25 o 35) = I28
        have H := H I28 eI28
        refine ev_aload_n dModel_land_97 rfl ?_
        refine ev_iconst (0) dModel_land_98 (by decide) ?_
        refine ev_putI hok fk_Model_169 (woModel hw) (fun _ _ _ => rfl) rfl rfl dModel_land_99 ?_
        generalize eI29 : q_u I28 o 67 0 = I29
        have H := H I29 eI29
        refine ev_aload_n dModel_land_102 rfl ?_
        refine ev_iconst (0) dModel_land_103 (by decide) ?_
        refine ev_putI hok fk_Model_172 (woModel hw) (fun _ _ _ => rfl) (q_bz (Or.inl rfl)) (q_bf (Or.inl rfl)) dModel_land_104 ?_
        generalize eI30 : q_u I29 o 135 0 = I30
        have H := H I30 eI30
        refine ev_aload_n dModel_land_107 rfl ?_
        refine ev_callV [] [] (B' := (0, 0)) (B'' := (0, 0)) hok mmModel_measure mk_Model_175 (ci := 12) rfl rfl (woModel hw) rfl (Nat.le_of_ble_eq_true rfl) rfl (Nat.le_of_ble_eq_true rfl) dModel_land_108 rfl (by decide) H (fun v τ p31 => ?_)
        obtain ⟨I33, L34, rfl, rfl, H⟩ := p31
        refine ev_aload_n dModel_land_111 rfl ?_
        refine ev_getR hok fk_Model_153 (woModel hw) (fun _ _ _ => rfl) (wrModel_15 hw) dModel_land_112 ?_
        refine ev_aload_n dModel_land_115 rfl ?_
        refine ev_getI hok fk_Model_147 (woModel hw) (fun _ _ _ => rfl) dModel_land_116 ?_
        obtain ⟨h35, H⟩ := H
        refine ev_iald hok (waModel_15 hw) h35 dModel_land_119 ?_
        refine ev_aload_n dModel_land_120 rfl ?_
        refine ev_getR hok fk_Model_157 (woModel hw) (fun _ _ _ => rfl) (wrModel_16 hw) dModel_land_121 ?_
        refine ev_aload_n dModel_land_124 rfl ?_
        refine ev_getI hok fk_Model_147 (woModel hw) (fun _ _ _ => rfl) dModel_land_125 ?_
        obtain ⟨h36, H⟩ := H
        refine ev_iald hok (waModel_16 hw) h36 dModel_land_128 ?_
        refine ev_iadd dModel_land_129 ?_
        refine ev_aload_n dModel_land_130 rfl ?_
        refine ev_getR hok fk_Model_160 (woModel hw) (fun _ _ _ => rfl) (wrModel_17 hw) dModel_land_131 ?_
        refine ev_aload_n dModel_land_134 rfl ?_
        refine ev_getI hok fk_Model_147 (woModel hw) (fun _ _ _ => rfl) dModel_land_135 ?_
        obtain ⟨h37, H⟩ := H
        refine ev_iald hok (waModel_17 hw) h37 dModel_land_138 ?_
        refine ev_iadd dModel_land_139 ?_
        refine ev_aload_n dModel_land_140 rfl ?_
        refine ev_getR hok fk_Model_163 (woModel hw) (fun _ _ _ => rfl) (wrModel_18 hw) dModel_land_141 ?_
        refine ev_aload_n dModel_land_144 rfl ?_
        refine ev_getI hok fk_Model_147 (woModel hw) (fun _ _ _ => rfl) dModel_land_145 ?_
        obtain ⟨h38, H⟩ := H
        refine ev_iald hok (waModel_18 hw) h38 dModel_land_148 ?_
        refine ev_iadd dModel_land_149 ?_
        exact ev_iret rfl dModel_land_150 H
      · have H := H.2 c27
        refine ev_iconst (-1) dModel_land_87 (by decide) ?_
        exact ev_iret rfl dModel_land_88 H
    · have H := H.2 c22
      refine ev_aload_n dModel_land_73 rfl ?_
      refine ev_callV [] [] (B' := (0, 0)) (B'' := (0, 0)) hok mmModel_readLine mk_Model_166 (ci := 12) rfl rfl (woModel hw) rfl (Nat.le_of_ble_eq_true rfl) rfl (Nat.le_of_ble_eq_true rfl) dModel_land_74 rfl (by decide) H (fun v τ p39 => ?_)
      obtain ⟨I41, L42, rfl, rfl, H⟩ := p39
      refine ev_goto 59 dModel_land_77 (by decide) ?_
      exact ev_sub [(0, .ref o)] rfl H
def fModel_land_0 (D : va_G) (cA : FieldType → ClassId) (b : Nat) (E : State → Prop) (o : Nat) (n : Nat) (sh : Nat → qC) (Rf : Nat → Nat → Option Nat) (I : Nat → Nat → Int32) (L : Nat → Nat → Int64) (post : Option Value → qS → Prop)  : Prop :=
  Ev (qGG D cA b E) mModel_takeTape 0 (0, 0) 0 (lv_args 0 [.ref o, .int 0]) [] (n, sh, Rf, I, L) (fun v τ => ∃ (I3 : Nat → Nat → Int32) (L4 : Nat → Nat → Int64), v = none ∧ τ = (n, sh, Rf, I3, L4) ∧ ∀ I5 : Nat → Nat → Int32, q_u I3 o 35 (1 - (I3 o 34)) = I5 → vp_in (I5 o 35) 2 ∧ ∀ I6 : Nat → Nat → Int32, q_u I5 (o + 6) ((I5 o 35) : Int32).toNatClampNeg 0 = I6 → vp_in (I6 o 35) 2 ∧ ∀ I8 : Nat → Nat → Int32, q_u I6 (o + 7) ((I6 o 35) : Int32).toNatClampNeg 0 = I8 → vp_in (I8 o 35) 2 ∧ ∀ I10 : Nat → Nat → Int32, q_u I8 (o + 8) ((I8 o 35) : Int32).toNatClampNeg 0 = I10 → vp_in (I10 o 35) 2 ∧ ∀ I12 : Nat → Nat → Int32, q_u I10 (o + 9) ((I10 o 35) : Int32).toNatClampNeg 0 = I12 → Ev (qGG D cA b E) mModel_next 2 (0, 0) 0 (lv_args 0 [.ref o]) [] (n, sh, Rf, I12, L4) (fun v τ => ∃ (I16 : Nat → Nat → Int32) (L17 : Nat → Nat → Int64), v = none ∧ τ = (n, sh, Rf, I16, L17) ∧ Ev (qGG D cA b E) mModel_land 7 (0, 0) 59 [(0, .ref o)] [] (n, sh, Rf, I16, L17) post))
set_option maxHeartbeats 4000000 in
set_option maxRecDepth 20000 in
theorem sModel_land_0 {D : va_G} {cA : FieldType → ClassId} {b : Nat} {E : State → Prop} (o : Nat) (n : Nat) (sh : Nat → qC) (Rf : Nat → Nat → Option Nat) (I : Nat → Nat → Int32) (L : Nat → Nat → Int64) (post : Option Value → qS → Prop)  (hok : q_ok (qGG D cA b E)) (hw : WfModel (qGG D cA b E) n sh Rf o) (H : fModel_land_0 D cA b E o n sh Rf I L post ) : Ev (qGG D cA b E) mModel_land 7 (0, 0) 0 [(0, .ref o)] [] (n, sh, Rf, I, L) post := by
  unfold fModel_land_0 at H
  refine ev_aload_n dModel_land_0 rfl ?_
  refine ev_iconst (0) dModel_land_1 (by decide) ?_
  refine ev_callV [.int 0] [] (B' := (0, 0)) (B'' := (0, 0)) hok mmModel_takeTape mk_Model_143 (ci := 12) rfl rfl (woModel hw) rfl (Nat.le_of_ble_eq_true rfl) rfl (Nat.le_of_ble_eq_true rfl) dModel_land_2 rfl (by decide) H (fun v τ p1 => ?_)
  obtain ⟨I3, L4, rfl, rfl, H⟩ := p1
  refine ev_aload_n dModel_land_5 rfl ?_
  refine ev_iconst (1) dModel_land_6 (by decide) ?_
  refine ev_aload_n dModel_land_7 rfl ?_
  refine ev_getI hok fk_Model_147 (woModel hw) (fun _ _ _ => rfl) dModel_land_8 ?_
  refine ev_isub dModel_land_11 ?_
  refine ev_putI hok fk_Model_150 (woModel hw) (fun _ _ _ => rfl) rfl rfl dModel_land_12 ?_
  generalize eI5 : q_u I3 o 35 (1 - (I3 o 34)) = I5
  have H := H I5 eI5
  refine ev_aload_n dModel_land_15 rfl ?_
  refine ev_getR hok fk_Model_153 (woModel hw) (fun _ _ _ => rfl) (wrModel_15 hw) dModel_land_16 ?_
  refine ev_aload_n dModel_land_19 rfl ?_
  refine ev_getI hok fk_Model_150 (woModel hw) (fun _ _ _ => rfl) dModel_land_20 ?_
  refine ev_iconst (0) dModel_land_23 (by decide) ?_
  obtain ⟨h7, H⟩ := H
  refine ev_iast hok (waModel_15 hw) h7 dModel_land_24 ?_
  generalize eI6 : q_u I5 (o + 6) ((I5 o 35) : Int32).toNatClampNeg 0 = I6
  have H := H I6 eI6
  refine ev_aload_n dModel_land_25 rfl ?_
  refine ev_getR hok fk_Model_157 (woModel hw) (fun _ _ _ => rfl) (wrModel_16 hw) dModel_land_26 ?_
  refine ev_aload_n dModel_land_29 rfl ?_
  refine ev_getI hok fk_Model_150 (woModel hw) (fun _ _ _ => rfl) dModel_land_30 ?_
  refine ev_iconst (0) dModel_land_33 (by decide) ?_
  obtain ⟨h9, H⟩ := H
  refine ev_iast hok (waModel_16 hw) h9 dModel_land_34 ?_
  generalize eI8 : q_u I6 (o + 7) ((I6 o 35) : Int32).toNatClampNeg 0 = I8
  have H := H I8 eI8
  refine ev_aload_n dModel_land_35 rfl ?_
  refine ev_getR hok fk_Model_160 (woModel hw) (fun _ _ _ => rfl) (wrModel_17 hw) dModel_land_36 ?_
  refine ev_aload_n dModel_land_39 rfl ?_
  refine ev_getI hok fk_Model_150 (woModel hw) (fun _ _ _ => rfl) dModel_land_40 ?_
  refine ev_iconst (0) dModel_land_43 (by decide) ?_
  obtain ⟨h11, H⟩ := H
  refine ev_iast hok (waModel_17 hw) h11 dModel_land_44 ?_
  generalize eI10 : q_u I8 (o + 8) ((I8 o 35) : Int32).toNatClampNeg 0 = I10
  have H := H I10 eI10
  refine ev_aload_n dModel_land_45 rfl ?_
  refine ev_getR hok fk_Model_163 (woModel hw) (fun _ _ _ => rfl) (wrModel_18 hw) dModel_land_46 ?_
  refine ev_aload_n dModel_land_49 rfl ?_
  refine ev_getI hok fk_Model_150 (woModel hw) (fun _ _ _ => rfl) dModel_land_50 ?_
  refine ev_iconst (0) dModel_land_53 (by decide) ?_
  obtain ⟨h13, H⟩ := H
  refine ev_iast hok (waModel_18 hw) h13 dModel_land_54 ?_
  generalize eI12 : q_u I10 (o + 9) ((I10 o 35) : Int32).toNatClampNeg 0 = I12
  have H := H I12 eI12
  refine ev_aload_n dModel_land_55 rfl ?_
  refine ev_callV [] [] (B' := (0, 0)) (B'' := (0, 0)) hok mmModel_next mk_Model_130 (ci := 12) rfl rfl (woModel hw) rfl (Nat.le_of_ble_eq_true rfl) rfl (Nat.le_of_ble_eq_true rfl) dModel_land_56 rfl (by decide) H (fun v τ p14 => ?_)
  obtain ⟨I16, L17, rfl, rfl, H⟩ := p14
  exact ev_sub [(0, .ref o)] rfl H
def fModel_reform_95 (D : va_G) (cA : FieldType → ClassId) (b : Nat) (E : State → Prop) (o : Nat) (n : Nat) (sh : Nat → qC) (Rf : Nat → Nat → Option Nat) (I : Nat → Nat → Int32) (L : Nat → Nat → Int64) (post : Option Value → qS → Prop) (x1 : Int32) (x2 : Int32) : Prop :=
  Ev (qGG D cA b E) mModel_isGood 0 (0, 0) 0 (lv_args 0 [.ref o]) [] (n, sh, Rf, I, L) (fun v τ => ∃ (r2 : Int32) (I3 : Nat → Nat → Int32) (L4 : Nat → Nat → Int64), v = some (.int r2) ∧ τ = (n, sh, Rf, I3, L4) ∧ ((r2 = 0 → Ev (qGG D cA b E) mModel_isGood 0 (0, 0) 0 (lv_args 0 [.ref o]) [] (n, sh, Rf, I3, L4) (fun v τ => ∃ (r7 : Int32) (I8 : Nat → Nat → Int32) (L9 : Nat → Nat → Int64), v = some (.int r7) ∧ τ = (n, sh, Rf, I8, L9) ∧ ((¬ r7 = 0 → Ev (qGG D cA b E) mModel_lay 0 (0, 0) 0 (lv_args 0 [.ref o, .int ((I8 o 44)), .int x1]) [] (n, sh, Rf, I8, L9) (fun v τ => ∃ (I13 : Nat → Nat → Int32) (L14 : Nat → Nat → Int64), v = none ∧ τ = (n, sh, Rf, I13, L14) ∧ vp_in x1 6 ∧ post (some (.int ((I13 (o + 29) (x1 : Int32).toNatClampNeg)))) (n, sh, Rf, I13, L14))) ∧ (r7 = 0 → post (some (.int ((-1)))) (n, sh, Rf, I8, L9))))) ∧ (¬ r2 = 0 → (((I3 o 8) = 0 → Ev (qGG D cA b E) mModel_isGood 0 (0, 0) 0 (lv_args 0 [.ref o]) [] (n, sh, Rf, I3, L4) (fun v τ => ∃ (r18 : Int32) (I19 : Nat → Nat → Int32) (L20 : Nat → Nat → Int64), v = some (.int r18) ∧ τ = (n, sh, Rf, I19, L20) ∧ ((¬ r18 = 0 → Ev (qGG D cA b E) mModel_lay 0 (0, 0) 0 (lv_args 0 [.ref o, .int ((I19 o 44)), .int x1]) [] (n, sh, Rf, I19, L20) (fun v τ => ∃ (I24 : Nat → Nat → Int32) (L25 : Nat → Nat → Int64), v = none ∧ τ = (n, sh, Rf, I24, L25) ∧ vp_in x1 6 ∧ post (some (.int ((I24 (o + 29) (x1 : Int32).toNatClampNeg)))) (n, sh, Rf, I24, L25))) ∧ (r18 = 0 → post (some (.int ((-1)))) (n, sh, Rf, I19, L20))))) ∧ (¬ (I3 o 8) = 0 → Ev (qGG D cA b E) mModel_readReform 6 (0, 0) 0 (lv_args 0 [.ref o]) [] (n, sh, Rf, I3, L4) (fun v τ => ∃ (I29 : Nat → Nat → Int32) (L30 : Nat → Nat → Int64), v = none ∧ τ = (n, sh, Rf, I29, L30) ∧ Ev (qGG D cA b E) mModel_reform 7 (0, 0) 95 [(0, .ref o), (1, .int x1), (2, .int x2)] [] (n, sh, Rf, I29, L30) post))))))
set_option maxHeartbeats 4000000 in
set_option maxRecDepth 20000 in
theorem sModel_reform_95 {D : va_G} {cA : FieldType → ClassId} {b : Nat} {E : State → Prop} (o : Nat) (n : Nat) (sh : Nat → qC) (Rf : Nat → Nat → Option Nat) (I : Nat → Nat → Int32) (L : Nat → Nat → Int64) (post : Option Value → qS → Prop) (x1 : Int32) (x2 : Int32) (hok : q_ok (qGG D cA b E)) (hw : WfModel (qGG D cA b E) n sh Rf o) (H : fModel_reform_95 D cA b E o n sh Rf I L post x1 x2) : Ev (qGG D cA b E) mModel_reform 7 (0, 0) 95 [(0, .ref o), (1, .int x1), (2, .int x2)] [] (n, sh, Rf, I, L) post := by
  unfold fModel_reform_95 at H
  refine ev_aload_n dModel_reform_95 rfl ?_
  refine ev_callV [] [] (B' := (0, 0)) (B'' := (0, 0)) hok mmModel_isGood mk_Model_126 (ci := 12) rfl rfl (woModel hw) rfl (Nat.le_of_ble_eq_true rfl) rfl (Nat.le_of_ble_eq_true rfl) dModel_reform_96 rfl (by decide) H (fun v τ p1 => ?_)
  obtain ⟨r2, I3, L4, rfl, rfl, H⟩ := p1
  refine ev_if_eq 116 dModel_reform_99 (by decide) (fun c5 => ?_) (fun c5 => ?_)
  · have H := H.1 c5
    refine ev_aload_n dModel_reform_116 rfl ?_
    refine ev_callV [] [] (B' := (0, 0)) (B'' := (0, 0)) hok mmModel_isGood mk_Model_126 (ci := 12) rfl rfl (woModel hw) rfl (Nat.le_of_ble_eq_true rfl) rfl (Nat.le_of_ble_eq_true rfl) dModel_reform_117 rfl (by decide) H (fun v τ p6 => ?_)
    obtain ⟨r7, I8, L9, rfl, rfl, H⟩ := p6
    refine ev_if_ne 125 dModel_reform_120 (by decide) (fun c10 => ?_) (fun c10 => ?_)
    · have H := H.1 c10
      refine ev_aload_n dModel_reform_125 rfl ?_
      refine ev_aload_n dModel_reform_126 rfl ?_
      refine ev_getI hok fk_Model_276 (woModel hw) (fun _ _ _ => rfl) dModel_reform_127 ?_
      refine ev_iload_n dModel_reform_130 rfl ?_
      refine ev_callV [.int ((I8 o 44)), .int x1] [] (B' := (0, 0)) (B'' := (0, 0)) hok mmModel_lay mk_Model_297 (ci := 12) rfl rfl (woModel hw) rfl (Nat.le_of_ble_eq_true rfl) rfl (Nat.le_of_ble_eq_true rfl) dModel_reform_131 rfl (by decide) H (fun v τ p11 => ?_)
      obtain ⟨I13, L14, rfl, rfl, H⟩ := p11
      refine ev_aload_n dModel_reform_134 rfl ?_
      refine ev_getR hok fk_Model_282 (woModel hw) (fun _ _ _ => rfl) (wrModel_40 hw) dModel_reform_135 ?_
      refine ev_iload_n dModel_reform_138 rfl ?_
      obtain ⟨h15, H⟩ := H
      refine ev_iald hok (waModel_40 hw) h15 dModel_reform_139 ?_
      exact ev_iret rfl dModel_reform_140 H
    · have H := H.2 c10
      refine ev_iconst (-1) dModel_reform_123 (by decide) ?_
      exact ev_iret rfl dModel_reform_124 H
  · have H := H.2 c5
    refine ev_aload_n dModel_reform_102 rfl ?_
    refine ev_getI hok fk_Model_98 (woModel hw) (fun _ _ _ => rfl) dModel_reform_103 ?_
    refine ev_if_eq 116 dModel_reform_106 (by decide) (fun c16 => ?_) (fun c16 => ?_)
    · have H := H.1 c16
      refine ev_aload_n dModel_reform_116 rfl ?_
      refine ev_callV [] [] (B' := (0, 0)) (B'' := (0, 0)) hok mmModel_isGood mk_Model_126 (ci := 12) rfl rfl (woModel hw) rfl (Nat.le_of_ble_eq_true rfl) rfl (Nat.le_of_ble_eq_true rfl) dModel_reform_117 rfl (by decide) H (fun v τ p17 => ?_)
      obtain ⟨r18, I19, L20, rfl, rfl, H⟩ := p17
      refine ev_if_ne 125 dModel_reform_120 (by decide) (fun c21 => ?_) (fun c21 => ?_)
      · have H := H.1 c21
        refine ev_aload_n dModel_reform_125 rfl ?_
        refine ev_aload_n dModel_reform_126 rfl ?_
        refine ev_getI hok fk_Model_276 (woModel hw) (fun _ _ _ => rfl) dModel_reform_127 ?_
        refine ev_iload_n dModel_reform_130 rfl ?_
        refine ev_callV [.int ((I19 o 44)), .int x1] [] (B' := (0, 0)) (B'' := (0, 0)) hok mmModel_lay mk_Model_297 (ci := 12) rfl rfl (woModel hw) rfl (Nat.le_of_ble_eq_true rfl) rfl (Nat.le_of_ble_eq_true rfl) dModel_reform_131 rfl (by decide) H (fun v τ p22 => ?_)
        obtain ⟨I24, L25, rfl, rfl, H⟩ := p22
        refine ev_aload_n dModel_reform_134 rfl ?_
        refine ev_getR hok fk_Model_282 (woModel hw) (fun _ _ _ => rfl) (wrModel_40 hw) dModel_reform_135 ?_
        refine ev_iload_n dModel_reform_138 rfl ?_
        obtain ⟨h26, H⟩ := H
        refine ev_iald hok (waModel_40 hw) h26 dModel_reform_139 ?_
        exact ev_iret rfl dModel_reform_140 H
      · have H := H.2 c21
        refine ev_iconst (-1) dModel_reform_123 (by decide) ?_
        exact ev_iret rfl dModel_reform_124 H
    · have H := H.2 c16
      refine ev_aload_n dModel_reform_109 rfl ?_
      refine ev_callV [] [] (B' := (0, 0)) (B'' := (0, 0)) hok mmModel_readReform mk_Model_294 (ci := 12) rfl rfl (woModel hw) rfl (Nat.le_of_ble_eq_true rfl) rfl (Nat.le_of_ble_eq_true rfl) dModel_reform_110 rfl (by decide) H (fun v τ p27 => ?_)
      obtain ⟨I29, L30, rfl, rfl, H⟩ := p27
      refine ev_goto 95 dModel_reform_113 (by decide) ?_
      exact ev_sub [(0, .ref o), (1, .int x1), (2, .int x2)] rfl H
def fModel_reform_54 (D : va_G) (cA : FieldType → ClassId) (b : Nat) (E : State → Prop) (o : Nat) (n : Nat) (sh : Nat → qC) (Rf : Nat → Nat → Option Nat) (I : Nat → Nat → Int32) (L : Nat → Nat → Int64) (post : Option Value → qS → Prop) (x1 : Int32) (x2 : Int32) : Prop :=
  ((10 ≤ x2 → ∀ I2 : Nat → Nat → Int32, q_u I o 45 0 = I2 → ∀ I3 : Nat → Nat → Int32, q_u I2 o 46 0 = I3 → Ev (qGG D cA b E) mModel_next 2 (0, 0) 0 (lv_args 0 [.ref o]) [] (n, sh, Rf, I3, L) (fun v τ => ∃ (I6 : Nat → Nat → Int32) (L7 : Nat → Nat → Int64), v = none ∧ τ = (n, sh, Rf, I6, L7) ∧ Ev (qGG D cA b E) mModel_reform 7 (0, 0) 95 [(0, .ref o), (1, .int x1), (2, .int x2)] [] (n, sh, Rf, I6, L7) post)) ∧ (¬ 10 ≤ x2 → vp_in ((10 * (I o 44)) + x2) 60 ∧ ∀ I8 : Nat → Nat → Int32, q_u I (o + 26) (((10 * (I o 44)) + x2) : Int32).toNatClampNeg (-1) = I8 → Ev (qGG D cA b E) mModel_reform 7 (0, 0) 54 [(0, .ref o), (1, .int x1), (2, .int ((x2 + Int32.ofInt 1)))] [] (n, sh, Rf, I8, L) post))
set_option maxHeartbeats 4000000 in
set_option maxRecDepth 20000 in
theorem sModel_reform_54 {D : va_G} {cA : FieldType → ClassId} {b : Nat} {E : State → Prop} (o : Nat) (n : Nat) (sh : Nat → qC) (Rf : Nat → Nat → Option Nat) (I : Nat → Nat → Int32) (L : Nat → Nat → Int64) (post : Option Value → qS → Prop) (x1 : Int32) (x2 : Int32) (hok : q_ok (qGG D cA b E)) (hw : WfModel (qGG D cA b E) n sh Rf o) (H : fModel_reform_54 D cA b E o n sh Rf I L post x1 x2) : Ev (qGG D cA b E) mModel_reform 7 (0, 0) 54 [(0, .ref o), (1, .int x1), (2, .int x2)] [] (n, sh, Rf, I, L) post := by
  unfold fModel_reform_54 at H
  refine ev_iload_n dModel_reform_54 rfl ?_
  refine ev_bipush (10) dModel_reform_55 (by decide) ?_
  refine ev_icmp_ge 81 dModel_reform_57 (by decide) (fun c1 => ?_) (fun c1 => ?_)
  · have H := H.1 c1
    refine ev_aload_n dModel_reform_81 rfl ?_
    refine ev_iconst (0) dModel_reform_82 (by decide) ?_
    refine ev_putI hok fk_Model_288 (woModel hw) (fun _ _ _ => rfl) rfl rfl dModel_reform_83 ?_
    generalize eI2 : q_u I o 45 0 = I2
    have H := H I2 eI2
    refine ev_aload_n dModel_reform_86 rfl ?_
    refine ev_iconst (0) dModel_reform_87 (by decide) ?_
    refine ev_putI hok fk_Model_291 (woModel hw) (fun _ _ _ => rfl) rfl rfl dModel_reform_88 ?_
    generalize eI3 : q_u I2 o 46 0 = I3
    have H := H I3 eI3
    refine ev_aload_n dModel_reform_91 rfl ?_
    refine ev_callV [] [] (B' := (0, 0)) (B'' := (0, 0)) hok mmModel_next mk_Model_130 (ci := 12) rfl rfl (woModel hw) rfl (Nat.le_of_ble_eq_true rfl) rfl (Nat.le_of_ble_eq_true rfl) dModel_reform_92 rfl (by decide) H (fun v τ p4 => ?_)
    obtain ⟨I6, L7, rfl, rfl, H⟩ := p4
    exact ev_sub [(0, .ref o), (1, .int x1), (2, .int x2)] rfl H
  · have H := H.2 c1
    refine ev_aload_n dModel_reform_60 rfl ?_
    refine ev_getR hok fk_Model_285 (woModel hw) (fun _ _ _ => rfl) (wrModel_37 hw) dModel_reform_61 ?_
    refine ev_bipush (10) dModel_reform_64 (by decide) ?_
    refine ev_aload_n dModel_reform_66 rfl ?_
    refine ev_getI hok fk_Model_276 (woModel hw) (fun _ _ _ => rfl) dModel_reform_67 ?_
    refine ev_imul dModel_reform_70 ?_
    refine ev_iload_n dModel_reform_71 rfl ?_
    refine ev_iadd dModel_reform_72 ?_
    refine ev_iconst (-1) dModel_reform_73 (by decide) ?_
    obtain ⟨h9, H⟩ := H
    refine ev_iast hok (waModel_37 hw) h9 dModel_reform_74 ?_
    generalize eI8 : q_u I (o + 26) (((10 * (I o 44)) + x2) : Int32).toNatClampNeg (-1) = I8
    have H := H I8 eI8
    refine ev_iinc dModel_reform_75 rfl (by decide) ?_
    refine ev_goto 54 dModel_reform_78 (by decide) ?_
    exact ev_sub [(0, .ref o), (1, .int x1), (2, .int ((x2 + Int32.ofInt 1)))] rfl H
def fModel_reform_0 (D : va_G) (cA : FieldType → ClassId) (b : Nat) (E : State → Prop) (o : Nat) (n : Nat) (sh : Nat → qC) (Rf : Nat → Nat → Option Nat) (I : Nat → Nat → Int32) (L : Nat → Nat → Int64) (post : Option Value → qS → Prop) (x1 : Int32) : Prop :=
  ((700 < (I o 2) → post (some (.int ((-2)))) (n, sh, Rf, I, L)) ∧ (¬ 700 < (I o 2) → ((x1 < 0 → post (some (.int ((-2)))) (n, sh, Rf, I, L)) ∧ (¬ x1 < 0 → ((x1 < 4 → Ev (qGG D cA b E) mModel_takeTape 0 (0, 0) 0 (lv_args 0 [.ref o, .int 1]) [] (n, sh, Rf, I, L) (fun v τ => ∃ (I6 : Nat → Nat → Int32) (L7 : Nat → Nat → Int64), v = none ∧ τ = (n, sh, Rf, I6, L7) ∧ ∀ I8 : Nat → Nat → Int32, q_u I6 o 44 4 = I8 → vp_in (I8 o 44) 6 ∧ ∀ I9 : Nat → Nat → Int32, q_u I8 (o + 28) ((I8 o 44) : Int32).toNatClampNeg 0 = I9 → vp_in (I9 o 44) 6 ∧ ∀ I11 : Nat → Nat → Int32, q_u I9 (o + 29) ((I9 o 44) : Int32).toNatClampNeg 0 = I11 → Ev (qGG D cA b E) mModel_reform 7 (0, 0) 54 [(0, .ref o), (1, .int x1), (2, .int 0)] [] (n, sh, Rf, I11, L7) post)) ∧ (¬ x1 < 4 → post (some (.int ((-2)))) (n, sh, Rf, I, L)))))))
set_option maxHeartbeats 4000000 in
set_option maxRecDepth 20000 in
theorem sModel_reform_0 {D : va_G} {cA : FieldType → ClassId} {b : Nat} {E : State → Prop} (o : Nat) (n : Nat) (sh : Nat → qC) (Rf : Nat → Nat → Option Nat) (I : Nat → Nat → Int32) (L : Nat → Nat → Int64) (post : Option Value → qS → Prop) (x1 : Int32) (hok : q_ok (qGG D cA b E)) (hw : WfModel (qGG D cA b E) n sh Rf o) (H : fModel_reform_0 D cA b E o n sh Rf I L post x1) : Ev (qGG D cA b E) mModel_reform 7 (0, 0) 0 [(0, .ref o), (1, .int x1)] [] (n, sh, Rf, I, L) post := by
  unfold fModel_reform_0 at H
  refine ev_aload_n dModel_reform_0 rfl ?_
  refine ev_getI hok fk_Model_137 (woModel hw) (fun _ _ _ => rfl) dModel_reform_1 ?_
  refine ev_sipush (700) dModel_reform_4 (by decide) ?_
  refine ev_icmp_gt 19 dModel_reform_7 (by decide) (fun c1 => ?_) (fun c1 => ?_)
  · have H := H.1 c1
    refine ev_bipush (-2) dModel_reform_19 (by decide) ?_
    exact ev_iret rfl dModel_reform_21 H
  · have H := H.2 c1
    refine ev_iload_n dModel_reform_10 rfl ?_
    refine ev_if_lt 19 dModel_reform_11 (by decide) (fun c2 => ?_) (fun c2 => ?_)
    · have H := H.1 c2
      refine ev_bipush (-2) dModel_reform_19 (by decide) ?_
      exact ev_iret rfl dModel_reform_21 H
    · have H := H.2 c2
      refine ev_iload_n dModel_reform_14 rfl ?_
      refine ev_iconst (4) dModel_reform_15 (by decide) ?_
      refine ev_icmp_lt 22 dModel_reform_16 (by decide) (fun c3 => ?_) (fun c3 => ?_)
      · have H := H.1 c3
        refine ev_aload_n dModel_reform_22 rfl ?_
        refine ev_iconst (1) dModel_reform_23 (by decide) ?_
        refine ev_callV [.int 1] [] (B' := (0, 0)) (B'' := (0, 0)) hok mmModel_takeTape mk_Model_143 (ci := 12) rfl rfl (woModel hw) rfl (Nat.le_of_ble_eq_true rfl) rfl (Nat.le_of_ble_eq_true rfl) dModel_reform_24 rfl (by decide) H (fun v τ p4 => ?_)
        obtain ⟨I6, L7, rfl, rfl, H⟩ := p4
        refine ev_aload_n dModel_reform_27 rfl ?_
        refine ev_iconst (4) dModel_reform_28 (by decide) ?_
        refine ev_putI hok fk_Model_276 (woModel hw) (fun _ _ _ => rfl) rfl rfl dModel_reform_29 ?_
        generalize eI8 : q_u I6 o 44 4 = I8
        have H := H I8 eI8
        refine ev_aload_n dModel_reform_32 rfl ?_
        refine ev_getR hok fk_Model_279 (woModel hw) (fun _ _ _ => rfl) (wrModel_39 hw) dModel_reform_33 ?_
        refine ev_aload_n dModel_reform_36 rfl ?_
        refine ev_getI hok fk_Model_276 (woModel hw) (fun _ _ _ => rfl) dModel_reform_37 ?_
        refine ev_iconst (0) dModel_reform_40 (by decide) ?_
        obtain ⟨h10, H⟩ := H
        refine ev_iast hok (waModel_39 hw) h10 dModel_reform_41 ?_
        generalize eI9 : q_u I8 (o + 28) ((I8 o 44) : Int32).toNatClampNeg 0 = I9
        have H := H I9 eI9
        refine ev_aload_n dModel_reform_42 rfl ?_
        refine ev_getR hok fk_Model_282 (woModel hw) (fun _ _ _ => rfl) (wrModel_40 hw) dModel_reform_43 ?_
        refine ev_aload_n dModel_reform_46 rfl ?_
        refine ev_getI hok fk_Model_276 (woModel hw) (fun _ _ _ => rfl) dModel_reform_47 ?_
        refine ev_iconst (0) dModel_reform_50 (by decide) ?_
        obtain ⟨h12, H⟩ := H
        refine ev_iast hok (waModel_40 hw) h12 dModel_reform_51 ?_
        generalize eI11 : q_u I9 (o + 29) ((I9 o 44) : Int32).toNatClampNeg 0 = I11
        have H := H I11 eI11
        refine ev_iconst (0) dModel_reform_52 (by decide) ?_
        refine ev_istore_n dModel_reform_53 (by decide) ?_
        exact ev_sub [(0, .ref o), (1, .int x1), (2, .int 0)] rfl H
      · have H := H.2 c3
        refine ev_bipush (-2) dModel_reform_19 (by decide) ?_
        exact ev_iret rfl dModel_reform_21 H
def fModel_act_0 (D : va_G) (cA : FieldType → ClassId) (b : Nat) (E : State → Prop) (o : Nat) (n : Nat) (sh : Nat → qC) (Rf : Nat → Nat → Option Nat) (I : Nat → Nat → Int32) (L : Nat → Nat → Int64) (post : Option Value → qS → Prop) (x1 : Int32) : Prop :=
  Ev (qGG D cA b E) mModel_choose 7 (0, 0) 0 (lv_args 0 [.ref o, .int x1]) [] (n, sh, Rf, I, L) (fun v τ => ∃ (I3 : Nat → Nat → Int32) (L4 : Nat → Nat → Int64), v = none ∧ τ = (n, sh, Rf, I3, L4) ∧ vp_in x1 6 ∧ ∀ I5 : Nat → Nat → Int32, q_u I3 (o + 70) (x1 : Int32).toNatClampNeg (I3 o 122) = I5 → vp_in x1 6 ∧ ∀ L7 : Nat → Nat → Int64, q_u L4 (o + 69) (x1 : Int32).toNatClampNeg (L4 o 128) = L7 → (((I5 o 122) = (1 : Int32) → Ev (qGG D cA b E) mModel_townAt 0 (0, 0) 0 (lv_args 0 [.ref o, .int ((I5 o 124))]) [] (n, sh, Rf, I5, L7) (fun v τ => ∃ (r10 : Int32) (I11 : Nat → Nat → Int32) (L12 : Nat → Nat → Int64), v = some (.int r10) ∧ τ = (n, sh, Rf, I11, L12) ∧ Ev (qGG D cA b E) mModel_fortAt 0 (0, 0) 0 (lv_args 0 [.ref o, .int ((I11 o 123))]) [] (n, sh, Rf, I11, L12) (fun v τ => ∃ (r14 : Int32) (I15 : Nat → Nat → Int32) (L16 : Nat → Nat → Int64), v = some (.int r14) ∧ τ = (n, sh, Rf, I15, L16) ∧ vp_in ((16 * r10) + r14) 256 ∧ vp_in x1 6 ∧ vp_in ((5 * (I15 o 34)) + (I15 o 124)) 10 ∧ vp_in x1 6 ∧ ∀ L20 : Nat → Nat → Int64, q_u L16 (o + 68) (x1 : Int32).toNatClampNeg ((L16 (o + 68) (x1 : Int32).toNatClampNeg) - (((I15 o 125) : Int32).toInt64 * (((10 * (I15 (o + 24) (((5 * (I15 o 34)) + (I15 o 124)) : Int32).toNatClampNeg)) + ((I15 (o + 25) (((16 * r10) + r14) : Int32).toNatClampNeg) * (I15 o 69))) : Int32).toInt64)) = L20 → vp_in (I15 o 124) 5 ∧ vp_in (I15 o 124) 5 ∧ ∀ I23 : Nat → Nat → Int32, q_u I15 (o + 46) ((I15 o 124) : Int32).toNatClampNeg ((I15 (o + 46) ((I15 o 124) : Int32).toNatClampNeg) - (10 * (I15 o 125))) = I23 → Ev (qGG D cA b E) mModel_send 1 (0, 0) 0 (lv_args 0 [.ref o, .int x1, .int ((I15 (o + 25) (((16 * r10) + r14) : Int32).toNatClampNeg)), .int 0, .int ((I23 o 123)), .int ((I23 o 125)), .int (((I23 o 125) * (I23 o 126))), .int ((I23 o 127))]) [] (n, sh, Rf, I23, L20) (fun v τ => ∃ (I27 : Nat → Nat → Int32) (L28 : Nat → Nat → Int64), v = none ∧ τ = (n, sh, Rf, I27, L28) ∧ post none (n, sh, Rf, I27, L28))))) ∧ (¬ (I5 o 122) = (1 : Int32) → (((I5 o 122) = (2 : Int32) → vp_in x1 6 ∧ vp_in x1 6 ∧ ∀ L30 : Nat → Nat → Int64, q_u L7 (o + 68) (x1 : Int32).toNatClampNeg ((L7 (o + 68) (x1 : Int32).toNatClampNeg) - (((I5 o 125) : Int32).toInt64 * ((I5 o 73) : Int32).toInt64)) = L30 → vp_in (I5 o 123) 3 ∧ vp_in (I5 o 123) 3 ∧ ∀ I33 : Nat → Nat → Int32, q_u I5 (o + 42) ((I5 o 123) : Int32).toNatClampNeg ((I5 (o + 42) ((I5 o 123) : Int32).toNatClampNeg) + (10 * (I5 o 125))) = I33 → Ev (qGG D cA b E) mModel_give 2 (0, 0) 0 (lv_args 0 [.ref o, .int x1, .int ((I33 o 127)), .int (((I33 o 125) * (I33 o 126))), .int 0, .int 0]) [] (n, sh, Rf, I33, L30) (fun v τ => ∃ (I37 : Nat → Nat → Int32) (L38 : Nat → Nat → Int64), v = none ∧ τ = (n, sh, Rf, I37, L38) ∧ post none (n, sh, Rf, I37, L38))) ∧ (¬ (I5 o 122) = (2 : Int32) → (((I5 o 122) = (3 : Int32) → vp_in x1 6 ∧ vp_in x1 6 ∧ ∀ L40 : Nat → Nat → Int64, q_u L7 (o + 68) (x1 : Int32).toNatClampNeg ((L7 (o + 68) (x1 : Int32).toNatClampNeg) - ((I5 o 72) : Int32).toInt64) = L40 → vp_in ((3 * x1) + (I5 o 123)) 18 ∧ ∀ I42 : Nat → Nat → Int32, q_u I5 (o + 48) (((3 * x1) + (I5 o 123)) : Int32).toNatClampNeg (I5 o 57) = I42 → post none (n, sh, Rf, I42, L40)) ∧ (¬ (I5 o 122) = (3 : Int32) → (((I5 o 122) = (4 : Int32) → vp_in x1 6 ∧ vp_in x1 6 ∧ ∀ L45 : Nat → Nat → Int64, q_u L7 (o + 68) (x1 : Int32).toNatClampNeg ((L7 (o + 68) (x1 : Int32).toNatClampNeg) - ((10 * ((I5 o 125) : Int32).toInt64) * ((I5 o 107) : Int32).toInt64)) = L45 → ∀ L47 : Nat → Nat → Int64, q_u L45 o 114 ((L45 o 114) + ((10 * ((I5 o 125) : Int32).toInt64) * ((I5 o 107) : Int32).toInt64)) = L47 → ∀ I48 : Nat → Nat → Int32, q_u I5 o 111 ((I5 o 111) - (10 * (I5 o 125))) = I48 → Ev (qGG D cA b E) mModel_give 2 (0, 0) 0 (lv_args 0 [.ref o, .int x1, .int ((I48 o 127)), .int ((10 * (I48 o 125))), .int 0, .int 1]) [] (n, sh, Rf, I48, L47) (fun v τ => ∃ (I51 : Nat → Nat → Int32) (L52 : Nat → Nat → Int64), v = none ∧ τ = (n, sh, Rf, I51, L52) ∧ post none (n, sh, Rf, I51, L52))) ∧ (¬ (I5 o 122) = (4 : Int32) → post none (n, sh, Rf, I5, L7))))))))))
set_option maxHeartbeats 4000000 in
set_option maxRecDepth 20000 in
theorem sModel_act_0 {D : va_G} {cA : FieldType → ClassId} {b : Nat} {E : State → Prop} (o : Nat) (n : Nat) (sh : Nat → qC) (Rf : Nat → Nat → Option Nat) (I : Nat → Nat → Int32) (L : Nat → Nat → Int64) (post : Option Value → qS → Prop) (x1 : Int32) (hok : q_ok (qGG D cA b E)) (hw : WfModel (qGG D cA b E) n sh Rf o) (H : fModel_act_0 D cA b E o n sh Rf I L post x1) : Ev (qGG D cA b E) mModel_act 8 (0, 0) 0 [(0, .ref o), (1, .int x1)] [] (n, sh, Rf, I, L) post := by
  unfold fModel_act_0 at H
  refine ev_aload_n dModel_act_0 rfl ?_
  refine ev_iload_n dModel_act_1 rfl ?_
  refine ev_callV [.int x1] [] (B' := (0, 0)) (B'' := (0, 0)) hok mmModel_choose mk_Model_685 (ci := 12) rfl rfl (woModel hw) rfl (Nat.le_of_ble_eq_true rfl) rfl (Nat.le_of_ble_eq_true rfl) dModel_act_2 rfl (by decide) H (fun v τ p1 => ?_)
  obtain ⟨I3, L4, rfl, rfl, H⟩ := p1
  refine ev_aload_n dModel_act_5 rfl ?_
  refine ev_getR hok fk_Model_688 (woModel hw) (fun _ _ _ => rfl) (wrModel_103 hw) dModel_act_6 ?_
  refine ev_iload_n dModel_act_9 rfl ?_
  refine ev_aload_n dModel_act_10 rfl ?_
  refine ev_getI hok fk_Model_636 (woModel hw) (fun _ _ _ => rfl) dModel_act_11 ?_
  obtain ⟨h6, H⟩ := H
  refine ev_iast hok (waModel_103 hw) h6 dModel_act_14 ?_
  generalize eI5 : q_u I3 (o + 70) (x1 : Int32).toNatClampNeg (I3 o 122) = I5
  have H := H I5 eI5
  refine ev_aload_n dModel_act_15 rfl ?_
  refine ev_getR hok fk_Model_691 (woModel hw) (fun _ _ _ => rfl) (wrModel_102 hw) dModel_act_16 ?_
  refine ev_iload_n dModel_act_19 rfl ?_
  refine ev_aload_n dModel_act_20 rfl ?_
  refine ev_getL hok fk_Model_633 (woModel hw) (fun _ _ _ => rfl) dModel_act_21 ?_
  obtain ⟨h8, H⟩ := H
  refine ev_last hok (waModel_102 hw) h8 dModel_act_24 ?_
  generalize eL7 : q_u L4 (o + 69) (x1 : Int32).toNatClampNeg (L4 o 128) = L7
  have H := H L7 eL7
  refine ev_aload_n dModel_act_25 rfl ?_
  refine ev_getI hok fk_Model_636 (woModel hw) (fun _ _ _ => rfl) dModel_act_26 ?_
  rcases q_em ((I5 o 122) = (1)) with c0 | c0
  · have H := H.1 c0
    refine ev_tableIn 60 dModel_act_29 (by rw [c0]; decide) (by rw [c0]; decide) (off := 31) (by rw [c0]; rfl) (by decide) ?_
    refine ev_aload_n dModel_act_60 rfl ?_
    refine ev_getR hok fk_Model_269 (woModel hw) (fun _ _ _ => rfl) (wrModel_36 hw) dModel_act_61 ?_
    refine ev_bipush (16) dModel_act_64 (by decide) ?_
    refine ev_aload_n dModel_act_66 rfl ?_
    refine ev_aload_n dModel_act_67 rfl ?_
    refine ev_getI hok fk_Model_642 (woModel hw) (fun _ _ _ => rfl) dModel_act_68 ?_
    refine ev_callV [.int ((I5 o 124))] [.int 16, .ref ((o + 25))] (B' := (0, 0)) (B'' := (0, 0)) hok mmModel_townAt mk_Model_494 (ci := 12) rfl rfl (woModel hw) rfl (Nat.le_of_ble_eq_true rfl) rfl (Nat.le_of_ble_eq_true rfl) dModel_act_71 rfl (by decide) H (fun v τ p9 => ?_)
    obtain ⟨r10, I11, L12, rfl, rfl, H⟩ := p9
    refine ev_imul dModel_act_74 ?_
    refine ev_aload_n dModel_act_75 rfl ?_
    refine ev_aload_n dModel_act_76 rfl ?_
    refine ev_getI hok fk_Model_639 (woModel hw) (fun _ _ _ => rfl) dModel_act_77 ?_
    refine ev_callV [.int ((I11 o 123))] [.int ((16 * r10)), .ref ((o + 25))] (B' := (0, 0)) (B'' := (0, 0)) hok mmModel_fortAt mk_Model_661 (ci := 12) rfl rfl (woModel hw) rfl (Nat.le_of_ble_eq_true rfl) rfl (Nat.le_of_ble_eq_true rfl) dModel_act_80 rfl (by decide) H (fun v τ p13 => ?_)
    obtain ⟨r14, I15, L16, rfl, rfl, H⟩ := p13
    refine ev_iadd dModel_act_83 ?_
    obtain ⟨h17, H⟩ := H
    refine ev_iald hok (waModel_36 hw) h17 dModel_act_84 ?_
    refine ev_istore_n dModel_act_85 (by decide) ?_
    refine ev_aload_n dModel_act_86 rfl ?_
    refine ev_getR hok fk_Model_578 (woModel hw) (fun _ _ _ => rfl) (wrModel_101 hw) dModel_act_87 ?_
    refine ev_iload_n dModel_act_90 rfl ?_
    refine ev_dup2_11 dModel_act_91 rfl rfl ?_
    obtain ⟨h18, H⟩ := H
    refine ev_lald hok (waModel_101 hw) h18 dModel_act_92 ?_
    refine ev_aload_n dModel_act_93 rfl ?_
    refine ev_getI hok fk_Model_645 (woModel hw) (fun _ _ _ => rfl) dModel_act_94 ?_
    refine ev_i2l dModel_act_97 ?_
    refine ev_bipush (10) dModel_act_98 (by decide) ?_
    refine ev_aload_n dModel_act_100 rfl ?_
    refine ev_getR hok fk_Model_266 (woModel hw) (fun _ _ _ => rfl) (wrModel_33 hw) dModel_act_101 ?_
    refine ev_iconst (5) dModel_act_104 (by decide) ?_
    refine ev_aload_n dModel_act_105 rfl ?_
    refine ev_getI hok fk_Model_147 (woModel hw) (fun _ _ _ => rfl) dModel_act_106 ?_
    refine ev_imul dModel_act_109 ?_
    refine ev_aload_n dModel_act_110 rfl ?_
    refine ev_getI hok fk_Model_642 (woModel hw) (fun _ _ _ => rfl) dModel_act_111 ?_
    refine ev_iadd dModel_act_114 ?_
    obtain ⟨h19, H⟩ := H
    refine ev_iald hok (waModel_33 hw) h19 dModel_act_115 ?_
    refine ev_imul dModel_act_116 ?_
    refine ev_iload_n dModel_act_117 rfl ?_
    refine ev_aload_n dModel_act_118 rfl ?_
    refine ev_getI hok fk_Model_397 (woModel hw) (fun _ _ _ => rfl) dModel_act_119 ?_
    refine ev_imul dModel_act_122 ?_
    refine ev_iadd dModel_act_123 ?_
    refine ev_i2l dModel_act_124 ?_
    refine ev_lmul dModel_act_125 ?_
    refine ev_lsub dModel_act_126 ?_
    obtain ⟨h21, H⟩ := H
    refine ev_last hok (waModel_101 hw) h21 dModel_act_127 ?_
    generalize eL20 : q_u L16 (o + 68) (x1 : Int32).toNatClampNeg ((L16 (o + 68) (x1 : Int32).toNatClampNeg) - (((I15 o 125) : Int32).toInt64 * (((10 * (I15 (o + 24) (((5 * (I15 o 34)) + (I15 o 124)) : Int32).toNatClampNeg)) + ((I15 (o + 25) (((16 * r10) + r14) : Int32).toNatClampNeg) * (I15 o 69))) : Int32).toInt64)) = L20
    have H := H L20 eL20
    refine ev_aload_n dModel_act_128 rfl ?_
    refine ev_getR hok fk_Model_664 (woModel hw) (fun _ _ _ => rfl) (wrModel_79 hw) dModel_act_129 ?_
    refine ev_aload_n dModel_act_132 rfl ?_
    refine ev_getI hok fk_Model_642 (woModel hw) (fun _ _ _ => rfl) dModel_act_133 ?_
    refine ev_dup2_11 dModel_act_136 rfl rfl ?_
    obtain ⟨h22, H⟩ := H
    refine ev_iald hok (waModel_79 hw) h22 dModel_act_137 ?_
    refine ev_bipush (10) dModel_act_138 (by decide) ?_
    refine ev_aload_n dModel_act_140 rfl ?_
    refine ev_getI hok fk_Model_645 (woModel hw) (fun _ _ _ => rfl) dModel_act_141 ?_
    refine ev_imul dModel_act_144 ?_
    refine ev_isub dModel_act_145 ?_
    obtain ⟨h24, H⟩ := H
    refine ev_iast hok (waModel_79 hw) h24 dModel_act_146 ?_
    generalize eI23 : q_u I15 (o + 46) ((I15 o 124) : Int32).toNatClampNeg ((I15 (o + 46) ((I15 o 124) : Int32).toNatClampNeg) - (10 * (I15 o 125))) = I23
    have H := H I23 eI23
    refine ev_aload_n dModel_act_147 rfl ?_
    refine ev_iload_n dModel_act_148 rfl ?_
    refine ev_iload_n dModel_act_149 rfl ?_
    refine ev_iconst (0) dModel_act_150 (by decide) ?_
    refine ev_aload_n dModel_act_151 rfl ?_
    refine ev_getI hok fk_Model_639 (woModel hw) (fun _ _ _ => rfl) dModel_act_152 ?_
    refine ev_aload_n dModel_act_155 rfl ?_
    refine ev_getI hok fk_Model_645 (woModel hw) (fun _ _ _ => rfl) dModel_act_156 ?_
    refine ev_aload_n dModel_act_159 rfl ?_
    refine ev_getI hok fk_Model_645 (woModel hw) (fun _ _ _ => rfl) dModel_act_160 ?_
    refine ev_aload_n dModel_act_163 rfl ?_
    refine ev_getI hok fk_Model_648 (woModel hw) (fun _ _ _ => rfl) dModel_act_164 ?_
    refine ev_imul dModel_act_167 ?_
    refine ev_aload_n dModel_act_168 rfl ?_
    refine ev_getI hok fk_Model_658 (woModel hw) (fun _ _ _ => rfl) dModel_act_169 ?_
    refine ev_callV [.int x1, .int ((I15 (o + 25) (((16 * r10) + r14) : Int32).toNatClampNeg)), .int 0, .int ((I23 o 123)), .int ((I23 o 125)), .int (((I23 o 125) * (I23 o 126))), .int ((I23 o 127))] [] (B' := (0, 0)) (B'' := (0, 0)) hok mmModel_send mk_Model_620 (ci := 12) rfl rfl (woModel hw) rfl (Nat.le_of_ble_eq_true rfl) rfl (Nat.le_of_ble_eq_true rfl) dModel_act_172 rfl (by decide) H (fun v τ p25 => ?_)
    obtain ⟨I27, L28, rfl, rfl, H⟩ := p25
    refine ev_goto 359 dModel_act_175 (by decide) ?_
    exact ev_vret rfl dModel_act_359 H
  have H := H.2 c0
  rcases q_em ((I5 o 122) = (2)) with c1 | c1
  · have H := H.1 c1
    refine ev_tableIn 178 dModel_act_29 (by rw [c1]; decide) (by rw [c1]; decide) (off := 149) (by rw [c1]; rfl) (by decide) ?_
    refine ev_aload_n dModel_act_178 rfl ?_
    refine ev_getR hok fk_Model_578 (woModel hw) (fun _ _ _ => rfl) (wrModel_101 hw) dModel_act_179 ?_
    refine ev_iload_n dModel_act_182 rfl ?_
    refine ev_dup2_11 dModel_act_183 rfl rfl ?_
    obtain ⟨h29, H⟩ := H
    refine ev_lald hok (waModel_101 hw) h29 dModel_act_184 ?_
    refine ev_aload_n dModel_act_185 rfl ?_
    refine ev_getI hok fk_Model_645 (woModel hw) (fun _ _ _ => rfl) dModel_act_186 ?_
    refine ev_i2l dModel_act_189 ?_
    refine ev_aload_n dModel_act_190 rfl ?_
    refine ev_getI hok fk_Model_409 (woModel hw) (fun _ _ _ => rfl) dModel_act_191 ?_
    refine ev_i2l dModel_act_194 ?_
    refine ev_lmul dModel_act_195 ?_
    refine ev_lsub dModel_act_196 ?_
    obtain ⟨h31, H⟩ := H
    refine ev_last hok (waModel_101 hw) h31 dModel_act_197 ?_
    generalize eL30 : q_u L7 (o + 68) (x1 : Int32).toNatClampNeg ((L7 (o + 68) (x1 : Int32).toNatClampNeg) - (((I5 o 125) : Int32).toInt64 * ((I5 o 73) : Int32).toInt64)) = L30
    have H := H L30 eL30
    refine ev_aload_n dModel_act_198 rfl ?_
    refine ev_getR hok fk_Model_513 (woModel hw) (fun _ _ _ => rfl) (wrModel_75 hw) dModel_act_199 ?_
    refine ev_aload_n dModel_act_202 rfl ?_
    refine ev_getI hok fk_Model_639 (woModel hw) (fun _ _ _ => rfl) dModel_act_203 ?_
    refine ev_dup2_11 dModel_act_206 rfl rfl ?_
    obtain ⟨h32, H⟩ := H
    refine ev_iald hok (waModel_75 hw) h32 dModel_act_207 ?_
    refine ev_bipush (10) dModel_act_208 (by decide) ?_
    refine ev_aload_n dModel_act_210 rfl ?_
    refine ev_getI hok fk_Model_645 (woModel hw) (fun _ _ _ => rfl) dModel_act_211 ?_
    refine ev_imul dModel_act_214 ?_
    refine ev_iadd dModel_act_215 ?_
    obtain ⟨h34, H⟩ := H
    refine ev_iast hok (waModel_75 hw) h34 dModel_act_216 ?_
    generalize eI33 : q_u I5 (o + 42) ((I5 o 123) : Int32).toNatClampNeg ((I5 (o + 42) ((I5 o 123) : Int32).toNatClampNeg) + (10 * (I5 o 125))) = I33
    have H := H I33 eI33
    refine ev_aload_n dModel_act_217 rfl ?_
    refine ev_iload_n dModel_act_218 rfl ?_
    refine ev_aload_n dModel_act_219 rfl ?_
    refine ev_getI hok fk_Model_658 (woModel hw) (fun _ _ _ => rfl) dModel_act_220 ?_
    refine ev_aload_n dModel_act_223 rfl ?_
    refine ev_getI hok fk_Model_645 (woModel hw) (fun _ _ _ => rfl) dModel_act_224 ?_
    refine ev_aload_n dModel_act_227 rfl ?_
    refine ev_getI hok fk_Model_648 (woModel hw) (fun _ _ _ => rfl) dModel_act_228 ?_
    refine ev_imul dModel_act_231 ?_
    refine ev_iconst (0) dModel_act_232 (by decide) ?_
    refine ev_iconst (0) dModel_act_233 (by decide) ?_
    refine ev_callV [.int x1, .int ((I33 o 127)), .int (((I33 o 125) * (I33 o 126))), .int 0, .int 0] [] (B' := (0, 0)) (B'' := (0, 0)) hok mmModel_give mk_Model_600 (ci := 12) rfl rfl (woModel hw) rfl (Nat.le_of_ble_eq_true rfl) rfl (Nat.le_of_ble_eq_true rfl) dModel_act_234 rfl (by decide) H (fun v τ p35 => ?_)
    obtain ⟨I37, L38, rfl, rfl, H⟩ := p35
    refine ev_goto 359 dModel_act_237 (by decide) ?_
    exact ev_vret rfl dModel_act_359 H
  have H := H.2 c1
  rcases q_em ((I5 o 122) = (3)) with c2 | c2
  · have H := H.1 c2
    refine ev_tableIn 240 dModel_act_29 (by rw [c2]; decide) (by rw [c2]; decide) (off := 211) (by rw [c2]; rfl) (by decide) ?_
    refine ev_aload_n dModel_act_240 rfl ?_
    refine ev_getR hok fk_Model_578 (woModel hw) (fun _ _ _ => rfl) (wrModel_101 hw) dModel_act_241 ?_
    refine ev_iload_n dModel_act_244 rfl ?_
    refine ev_dup2_11 dModel_act_245 rfl rfl ?_
    obtain ⟨h39, H⟩ := H
    refine ev_lald hok (waModel_101 hw) h39 dModel_act_246 ?_
    refine ev_aload_n dModel_act_247 rfl ?_
    refine ev_getI hok fk_Model_406 (woModel hw) (fun _ _ _ => rfl) dModel_act_248 ?_
    refine ev_i2l dModel_act_251 ?_
    refine ev_lsub dModel_act_252 ?_
    obtain ⟨h41, H⟩ := H
    refine ev_last hok (waModel_101 hw) h41 dModel_act_253 ?_
    generalize eL40 : q_u L7 (o + 68) (x1 : Int32).toNatClampNeg ((L7 (o + 68) (x1 : Int32).toNatClampNeg) - ((I5 o 72) : Int32).toInt64) = L40
    have H := H L40 eL40
    refine ev_aload_n dModel_act_254 rfl ?_
    refine ev_getR hok fk_Model_584 (woModel hw) (fun _ _ _ => rfl) (wrModel_81 hw) dModel_act_255 ?_
    refine ev_iconst (3) dModel_act_258 (by decide) ?_
    refine ev_iload_n dModel_act_259 rfl ?_
    refine ev_imul dModel_act_260 ?_
    refine ev_aload_n dModel_act_261 rfl ?_
    refine ev_getI hok fk_Model_639 (woModel hw) (fun _ _ _ => rfl) dModel_act_262 ?_
    refine ev_iadd dModel_act_265 ?_
    refine ev_aload_n dModel_act_266 rfl ?_
    refine ev_getI hok fk_Model_348 (woModel hw) (fun _ _ _ => rfl) dModel_act_267 ?_
    obtain ⟨h43, H⟩ := H
    refine ev_iast hok (waModel_81 hw) h43 dModel_act_270 ?_
    generalize eI42 : q_u I5 (o + 48) (((3 * x1) + (I5 o 123)) : Int32).toNatClampNeg (I5 o 57) = I42
    have H := H I42 eI42
    refine ev_goto 359 dModel_act_271 (by decide) ?_
    exact ev_vret rfl dModel_act_359 H
  have H := H.2 c2
  rcases q_em ((I5 o 122) = (4)) with c3 | c3
  · have H := H.1 c3
    refine ev_tableIn 274 dModel_act_29 (by rw [c3]; decide) (by rw [c3]; decide) (off := 245) (by rw [c3]; rfl) (by decide) ?_
    refine ev_aload_n dModel_act_274 rfl ?_
    refine ev_getR hok fk_Model_578 (woModel hw) (fun _ _ _ => rfl) (wrModel_101 hw) dModel_act_275 ?_
    refine ev_iload_n dModel_act_278 rfl ?_
    refine ev_dup2_11 dModel_act_279 rfl rfl ?_
    obtain ⟨h44, H⟩ := H
    refine ev_lald hok (waModel_101 hw) h44 dModel_act_280 ?_
    refine ev_ldc2 (10) dModel_act_281 (q_t8 122 (by decide +kernel) rfl) ?_
    refine ev_aload_n dModel_act_284 rfl ?_
    refine ev_getI hok fk_Model_645 (woModel hw) (fun _ _ _ => rfl) dModel_act_285 ?_
    refine ev_i2l dModel_act_288 ?_
    refine ev_lmul dModel_act_289 ?_
    refine ev_aload_n dModel_act_290 rfl ?_
    refine ev_getI hok fk_Model_588 (woModel hw) (fun _ _ _ => rfl) dModel_act_291 ?_
    refine ev_i2l dModel_act_294 ?_
    refine ev_lmul dModel_act_295 ?_
    refine ev_lsub dModel_act_296 ?_
    obtain ⟨h46, H⟩ := H
    refine ev_last hok (waModel_101 hw) h46 dModel_act_297 ?_
    generalize eL45 : q_u L7 (o + 68) (x1 : Int32).toNatClampNeg ((L7 (o + 68) (x1 : Int32).toNatClampNeg) - ((10 * ((I5 o 125) : Int32).toInt64) * ((I5 o 107) : Int32).toInt64)) = L45
    have H := H L45 eL45
    refine ev_aload_n dModel_act_298 rfl ?_
    refine ev_dup dModel_act_299 rfl ?_
    refine ev_getL hok fk_Model_581 (woModel hw) (fun _ _ _ => rfl) dModel_act_300 ?_
    refine ev_ldc2 (10) dModel_act_303 (q_t8 122 (by decide +kernel) rfl) ?_
    refine ev_aload_n dModel_act_306 rfl ?_
    refine ev_getI hok fk_Model_645 (woModel hw) (fun _ _ _ => rfl) dModel_act_307 ?_
    refine ev_i2l dModel_act_310 ?_
    refine ev_lmul dModel_act_311 ?_
    refine ev_aload_n dModel_act_312 rfl ?_
    refine ev_getI hok fk_Model_588 (woModel hw) (fun _ _ _ => rfl) dModel_act_313 ?_
    refine ev_i2l dModel_act_316 ?_
    refine ev_lmul dModel_act_317 ?_
    refine ev_ladd dModel_act_318 ?_
    refine ev_putL hok fk_Model_581 (woModel hw) (fun _ _ _ => rfl) rfl rfl dModel_act_319 ?_
    generalize eL47 : q_u L45 o 114 ((L45 o 114) + ((10 * ((I5 o 125) : Int32).toInt64) * ((I5 o 107) : Int32).toInt64)) = L47
    have H := H L47 eL47
    refine ev_aload_n dModel_act_322 rfl ?_
    refine ev_dup dModel_act_323 rfl ?_
    refine ev_getI hok fk_Model_680 (woModel hw) (fun _ _ _ => rfl) dModel_act_324 ?_
    refine ev_bipush (10) dModel_act_327 (by decide) ?_
    refine ev_aload_n dModel_act_329 rfl ?_
    refine ev_getI hok fk_Model_645 (woModel hw) (fun _ _ _ => rfl) dModel_act_330 ?_
    refine ev_imul dModel_act_333 ?_
    refine ev_isub dModel_act_334 ?_
    refine ev_putI hok fk_Model_680 (woModel hw) (fun _ _ _ => rfl) rfl rfl dModel_act_335 ?_
    generalize eI48 : q_u I5 o 111 ((I5 o 111) - (10 * (I5 o 125))) = I48
    have H := H I48 eI48
    refine ev_aload_n dModel_act_338 rfl ?_
    refine ev_iload_n dModel_act_339 rfl ?_
    refine ev_aload_n dModel_act_340 rfl ?_
    refine ev_getI hok fk_Model_658 (woModel hw) (fun _ _ _ => rfl) dModel_act_341 ?_
    refine ev_bipush (10) dModel_act_344 (by decide) ?_
    refine ev_aload_n dModel_act_346 rfl ?_
    refine ev_getI hok fk_Model_645 (woModel hw) (fun _ _ _ => rfl) dModel_act_347 ?_
    refine ev_imul dModel_act_350 ?_
    refine ev_iconst (0) dModel_act_351 (by decide) ?_
    refine ev_iconst (1) dModel_act_352 (by decide) ?_
    refine ev_callV [.int x1, .int ((I48 o 127)), .int ((10 * (I48 o 125))), .int 0, .int 1] [] (B' := (0, 0)) (B'' := (0, 0)) hok mmModel_give mk_Model_600 (ci := 12) rfl rfl (woModel hw) rfl (Nat.le_of_ble_eq_true rfl) rfl (Nat.le_of_ble_eq_true rfl) dModel_act_353 rfl (by decide) H (fun v τ p49 => ?_)
    obtain ⟨I51, L52, rfl, rfl, H⟩ := p49
    refine ev_goto 359 dModel_act_356 (by decide) ?_
    exact ev_vret rfl dModel_act_359 H
  have H := H.2 c3
  refine ev_tableOut 359 dModel_act_29 (by have e0 : (1 : Int) ≠ ((I5 o 122) : Int32).toInt := fun h => c0 (Int32.toInt_inj.mp (h.symm.trans (by decide))); have e1 : (2 : Int) ≠ ((I5 o 122) : Int32).toInt := fun h => c1 (Int32.toInt_inj.mp (h.symm.trans (by decide))); have e2 : (3 : Int) ≠ ((I5 o 122) : Int32).toInt := fun h => c2 (Int32.toInt_inj.mp (h.symm.trans (by decide))); have e3 : (4 : Int) ≠ ((I5 o 122) : Int32).toInt := fun h => c3 (Int32.toInt_inj.mp (h.symm.trans (by decide))); omega) (by decide) ?_
  exact ev_vret rfl dModel_act_359 H
def fModel_way_0 (D : va_G) (cA : FieldType → ClassId) (b : Nat) (E : State → Prop) (o : Nat) (n : Nat) (sh : Nat → qC) (Rf : Nat → Nat → Option Nat) (I : Nat → Nat → Int32) (L : Nat → Nat → Int64) (post : Option Value → qS → Prop) (x1 : Int32) (x2 : Int32) : Prop :=
  (((I o 135) = 0 → post (some (.long ((-1)))) (n, sh, Rf, I, L)) ∧ (¬ (I o 135) = 0 → Ev (qGG D cA b E) mModel_isIn 0 (0, 0) 0 (lv_args 0 [.int x1, .int 0, .int (((I o 137) - 1))]) [] (n, sh, Rf, I, L) (fun v τ => ∃ (r3 : Int32) (I4 : Nat → Nat → Int32) (L5 : Nat → Nat → Int64), v = some (.int r3) ∧ τ = (n, sh, Rf, I4, L5) ∧ ((¬ r3 = 0 → Ev (qGG D cA b E) mModel_goOn 7 (0, 0) 0 (lv_args 0 [.ref o]) [] (n, sh, Rf, I4, L5) (fun v τ => ∃ (I9 : Nat → Nat → Int32) (L10 : Nat → Nat → Int64), v = none ∧ τ = (n, sh, Rf, I9, L10) ∧ Ev (qGG D cA b E) mModel_isDead 0 (0, 0) 0 (lv_args 0 [.ref o, .int x1]) [] (n, sh, Rf, I9, L10) (fun v τ => ∃ (r12 : Int32) (I13 : Nat → Nat → Int32) (L14 : Nat → Nat → Int64), v = some (.int r12) ∧ τ = (n, sh, Rf, I13, L14) ∧ ((r12 = 0 → Ev (qGG D cA b E) mModel_choose 7 (0, 0) 0 (lv_args 0 [.ref o, .int x1]) [] (n, sh, Rf, I13, L14) (fun v τ => ∃ (I18 : Nat → Nat → Int32) (L19 : Nat → Nat → Int64), v = none ∧ τ = (n, sh, Rf, I18, L19) ∧ ((x2 = (0 : Int32) → post (some (.long (((I18 o 122) : Int32).toInt64))) (n, sh, Rf, I18, L19)) ∧ (¬ x2 = (0 : Int32) → ((x2 = (1 : Int32) → post (some (.long (((I18 o 123) : Int32).toInt64))) (n, sh, Rf, I18, L19)) ∧ (¬ x2 = (1 : Int32) → ((x2 = (2 : Int32) → post (some (.long (((I18 o 124) : Int32).toInt64))) (n, sh, Rf, I18, L19)) ∧ (¬ x2 = (2 : Int32) → ((x2 = (3 : Int32) → post (some (.long (((I18 o 125) : Int32).toInt64))) (n, sh, Rf, I18, L19)) ∧ (¬ x2 = (3 : Int32) → ((x2 = (4 : Int32) → post (some (.long ((L19 o 128)))) (n, sh, Rf, I18, L19)) ∧ (¬ x2 = (4 : Int32) → post (some (.long ((-1)))) (n, sh, Rf, I18, L19))))))))))))) ∧ (¬ r12 = 0 → post (some (.long ((-1)))) (n, sh, Rf, I13, L14)))))) ∧ (r3 = 0 → post (some (.long ((-1)))) (n, sh, Rf, I4, L5))))))
set_option maxHeartbeats 4000000 in
set_option maxRecDepth 20000 in
theorem sModel_way_0 {D : va_G} {cA : FieldType → ClassId} {b : Nat} {E : State → Prop} (o : Nat) (n : Nat) (sh : Nat → qC) (Rf : Nat → Nat → Option Nat) (I : Nat → Nat → Int32) (L : Nat → Nat → Int64) (post : Option Value → qS → Prop) (x1 : Int32) (x2 : Int32) (hok : q_ok (qGG D cA b E)) (hw : WfModel (qGG D cA b E) n sh Rf o) (H : fModel_way_0 D cA b E o n sh Rf I L post x1 x2) : Ev (qGG D cA b E) mModel_way 8 (0, 0) 0 [(0, .ref o), (1, .int x1), (2, .int x2)] [] (n, sh, Rf, I, L) post := by
  unfold fModel_way_0 at H
  refine ev_aload_n dModel_way_0 rfl ?_
  refine ev_getI hok fk_Model_172 (woModel hw) (fun _ _ _ => rfl) dModel_way_1 ?_
  refine ev_if_eq 21 dModel_way_4 (by decide) (fun c1 => ?_) (fun c1 => ?_)
  · have H := H.1 c1
    refine ev_ldc2 (-1) dModel_way_21 (q_t8 152 (by decide +kernel) rfl) ?_
    exact ev_lret rfl dModel_way_24 H
  · have H := H.2 c1
    refine ev_iload_n dModel_way_7 rfl ?_
    refine ev_iconst (0) dModel_way_8 (by decide) ?_
    refine ev_aload_n dModel_way_9 rfl ?_
    refine ev_getI hok fk_Model_769 (woModel hw) (fun _ _ _ => rfl) dModel_way_10 ?_
    refine ev_iconst (1) dModel_way_13 (by decide) ?_
    refine ev_isub dModel_way_14 ?_
    refine ev_callS [.int x1, .int 0, .int (((I o 137) - 1))] [] (B' := (0, 0)) (B'' := (0, 0)) hok mmModel_isIn mk_Model_393 rfl (Nat.le_of_ble_eq_true rfl) rfl (Nat.le_of_ble_eq_true rfl) dModel_way_15 rfl (by decide) H (fun v τ p2 => ?_)
    obtain ⟨r3, I4, L5, rfl, rfl, H⟩ := p2
    refine ev_if_ne 25 dModel_way_18 (by decide) (fun c6 => ?_) (fun c6 => ?_)
    · have H := H.1 c6
      refine ev_aload_n dModel_way_25 rfl ?_
      refine ev_callV [] [] (B' := (0, 0)) (B'' := (0, 0)) hok mmModel_goOn mk_Model_783 (ci := 12) rfl rfl (woModel hw) rfl (Nat.le_of_ble_eq_true rfl) rfl (Nat.le_of_ble_eq_true rfl) dModel_way_26 rfl (by decide) H (fun v τ p7 => ?_)
      obtain ⟨I9, L10, rfl, rfl, H⟩ := p7
      refine ev_aload_n dModel_way_29 rfl ?_
      refine ev_iload_n dModel_way_30 rfl ?_
      refine ev_callV [.int x1] [] (B' := (0, 0)) (B'' := (0, 0)) hok mmModel_isDead mk_Model_733 (ci := 12) rfl rfl (woModel hw) rfl (Nat.le_of_ble_eq_true rfl) rfl (Nat.le_of_ble_eq_true rfl) dModel_way_31 rfl (by decide) H (fun v τ p11 => ?_)
      obtain ⟨r12, I13, L14, rfl, rfl, H⟩ := p11
      refine ev_if_eq 41 dModel_way_34 (by decide) (fun c15 => ?_) (fun c15 => ?_)
      · have H := H.1 c15
        refine ev_aload_n dModel_way_41 rfl ?_
        refine ev_iload_n dModel_way_42 rfl ?_
        refine ev_callV [.int x1] [] (B' := (0, 0)) (B'' := (0, 0)) hok mmModel_choose mk_Model_685 (ci := 12) rfl rfl (woModel hw) rfl (Nat.le_of_ble_eq_true rfl) rfl (Nat.le_of_ble_eq_true rfl) dModel_way_43 rfl (by decide) H (fun v τ p16 => ?_)
        obtain ⟨I18, L19, rfl, rfl, H⟩ := p16
        refine ev_iload_n dModel_way_46 rfl ?_
        rcases q_em (x2 = (0)) with c0 | c0
        · have H := H.1 c0
          refine ev_tableIn 80 dModel_way_47 (by rw [c0]; decide) (by rw [c0]; decide) (off := 33) (by rw [c0]; rfl) (by decide) ?_
          refine ev_aload_n dModel_way_80 rfl ?_
          refine ev_getI hok fk_Model_636 (woModel hw) (fun _ _ _ => rfl) dModel_way_81 ?_
          refine ev_i2l dModel_way_84 ?_
          exact ev_lret rfl dModel_way_85 H
        have H := H.2 c0
        rcases q_em (x2 = (1)) with c1 | c1
        · have H := H.1 c1
          refine ev_tableIn 86 dModel_way_47 (by rw [c1]; decide) (by rw [c1]; decide) (off := 39) (by rw [c1]; rfl) (by decide) ?_
          refine ev_aload_n dModel_way_86 rfl ?_
          refine ev_getI hok fk_Model_639 (woModel hw) (fun _ _ _ => rfl) dModel_way_87 ?_
          refine ev_i2l dModel_way_90 ?_
          exact ev_lret rfl dModel_way_91 H
        have H := H.2 c1
        rcases q_em (x2 = (2)) with c2 | c2
        · have H := H.1 c2
          refine ev_tableIn 92 dModel_way_47 (by rw [c2]; decide) (by rw [c2]; decide) (off := 45) (by rw [c2]; rfl) (by decide) ?_
          refine ev_aload_n dModel_way_92 rfl ?_
          refine ev_getI hok fk_Model_642 (woModel hw) (fun _ _ _ => rfl) dModel_way_93 ?_
          refine ev_i2l dModel_way_96 ?_
          exact ev_lret rfl dModel_way_97 H
        have H := H.2 c2
        rcases q_em (x2 = (3)) with c3 | c3
        · have H := H.1 c3
          refine ev_tableIn 98 dModel_way_47 (by rw [c3]; decide) (by rw [c3]; decide) (off := 51) (by rw [c3]; rfl) (by decide) ?_
          refine ev_aload_n dModel_way_98 rfl ?_
          refine ev_getI hok fk_Model_645 (woModel hw) (fun _ _ _ => rfl) dModel_way_99 ?_
          refine ev_i2l dModel_way_102 ?_
          exact ev_lret rfl dModel_way_103 H
        have H := H.2 c3
        rcases q_em (x2 = (4)) with c4 | c4
        · have H := H.1 c4
          refine ev_tableIn 104 dModel_way_47 (by rw [c4]; decide) (by rw [c4]; decide) (off := 57) (by rw [c4]; rfl) (by decide) ?_
          refine ev_aload_n dModel_way_104 rfl ?_
          refine ev_getL hok fk_Model_633 (woModel hw) (fun _ _ _ => rfl) dModel_way_105 ?_
          exact ev_lret rfl dModel_way_108 H
        have H := H.2 c4
        refine ev_tableOut 109 dModel_way_47 (by have e0 : (0 : Int) ≠ (x2 : Int32).toInt := fun h => c0 (Int32.toInt_inj.mp (h.symm.trans (by decide))); have e1 : (1 : Int) ≠ (x2 : Int32).toInt := fun h => c1 (Int32.toInt_inj.mp (h.symm.trans (by decide))); have e2 : (2 : Int) ≠ (x2 : Int32).toInt := fun h => c2 (Int32.toInt_inj.mp (h.symm.trans (by decide))); have e3 : (3 : Int) ≠ (x2 : Int32).toInt := fun h => c3 (Int32.toInt_inj.mp (h.symm.trans (by decide))); have e4 : (4 : Int) ≠ (x2 : Int32).toInt := fun h => c4 (Int32.toInt_inj.mp (h.symm.trans (by decide))); omega) (by decide) ?_
        refine ev_ldc2 (-1) dModel_way_109 (q_t8 152 (by decide +kernel) rfl) ?_
        exact ev_lret rfl dModel_way_112 H
      · have H := H.2 c15
        refine ev_ldc2 (-1) dModel_way_37 (q_t8 152 (by decide +kernel) rfl) ?_
        exact ev_lret rfl dModel_way_40 H
    · have H := H.2 c6
      refine ev_ldc2 (-1) dModel_way_21 (q_t8 152 (by decide +kernel) rfl) ?_
      exact ev_lret rfl dModel_way_24 H
