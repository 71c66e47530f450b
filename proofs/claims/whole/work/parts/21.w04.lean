/-! Walks of the reference: by program. -/
def fModel_rankHere_91 (D : va_G) (cA : FieldType → ClassId) (b : Nat) (E : State → Prop) (o : Nat) (n : Nat) (sh : Nat → qC) (Rf : Nat → Nat → Option Nat) (I : Nat → Nat → Int32) (L : Nat → Nat → Int64) (post : Option Value → qS → Prop)  : Prop :=
  post (some (.int 6)) (n, sh, Rf, I, L)
set_option maxHeartbeats 4000000 in
set_option maxRecDepth 20000 in
theorem sModel_rankHere_91 {D : va_G} {cA : FieldType → ClassId} {b : Nat} {E : State → Prop} (o : Nat) (n : Nat) (sh : Nat → qC) (Rf : Nat → Nat → Option Nat) (I : Nat → Nat → Int32) (L : Nat → Nat → Int64) (post : Option Value → qS → Prop)  (hok : q_ok (qGG D cA b E)) (hw : WfModel (qGG D cA b E) n sh Rf o) (H : fModel_rankHere_91 D cA b E o n sh Rf I L post ) : Ev (qGG D cA b E) mModel_rankHere 2 (0, 0) 91 [(0, .ref o)] [] (n, sh, Rf, I, L) post := by
  unfold fModel_rankHere_91 at H
  refine ev_bipush (6) dModel_rankHere_91 (by decide) ?_
  refine ev_goto 97 dModel_rankHere_93 (by decide) ?_
  exact ev_iret rfl dModel_rankHere_97 H
def fModel_rankHere_0 (D : va_G) (cA : FieldType → ClassId) (b : Nat) (E : State → Prop) (o : Nat) (n : Nat) (sh : Nat → qC) (Rf : Nat → Nat → Option Nat) (I : Nat → Nat → Int32) (L : Nat → Nat → Int64) (post : Option Value → qS → Prop)  : Prop :=
  Ev (qGG D cA b E) mModel_isWord 0 (0, 0) 0 (lv_args 0 [.ref o, .long 6385252]) [] (n, sh, Rf, I, L) (fun v τ => ∃ (r2 : Int32) (I3 : Nat → Nat → Int32) (L4 : Nat → Nat → Int64), v = some (.int r2) ∧ τ = (n, sh, Rf, I3, L4) ∧ ((r2 = 0 → Ev (qGG D cA b E) mModel_isWord 0 (0, 0) 0 (lv_args 0 [.ref o, .long 28530]) [] (n, sh, Rf, I3, L4) (fun v τ => ∃ (r7 : Int32) (I8 : Nat → Nat → Int32) (L9 : Nat → Nat → Int64), v = some (.int r7) ∧ τ = (n, sh, Rf, I8, L9) ∧ ((r7 = 0 → Ev (qGG D cA b E) mModel_is 1 (0, 0) 0 (lv_args 0 [.ref o, .int 60]) [] (n, sh, Rf, I8, L9) (fun v τ => ∃ (r12 : Int32) (I13 : Nat → Nat → Int32) (L14 : Nat → Nat → Int64), v = some (.int r12) ∧ τ = (n, sh, Rf, I13, L14) ∧ ((¬ r12 = 0 → post (some (.int 4)) (n, sh, Rf, I13, L14)) ∧ (r12 = 0 → Ev (qGG D cA b E) mModel_is 1 (0, 0) 0 (lv_args 0 [.ref o, .int 62]) [] (n, sh, Rf, I13, L14) (fun v τ => ∃ (r17 : Int32) (I18 : Nat → Nat → Int32) (L19 : Nat → Nat → Int64), v = some (.int r17) ∧ τ = (n, sh, Rf, I18, L19) ∧ ((¬ r17 = 0 → post (some (.int 4)) (n, sh, Rf, I18, L19)) ∧ (r17 = 0 → Ev (qGG D cA b E) mModel_is 1 (0, 0) 0 (lv_args 0 [.ref o, .int 61]) [] (n, sh, Rf, I18, L19) (fun v τ => ∃ (r22 : Int32) (I23 : Nat → Nat → Int32) (L24 : Nat → Nat → Int64), v = some (.int r22) ∧ τ = (n, sh, Rf, I23, L24) ∧ ((r22 = 0 → Ev (qGG D cA b E) mModel_is 1 (0, 0) 0 (lv_args 0 [.ref o, .int 43]) [] (n, sh, Rf, I23, L24) (fun v τ => ∃ (r27 : Int32) (I28 : Nat → Nat → Int32) (L29 : Nat → Nat → Int64), v = some (.int r27) ∧ τ = (n, sh, Rf, I28, L29) ∧ ((¬ r27 = 0 → post (some (.int 5)) (n, sh, Rf, I28, L29)) ∧ (r27 = 0 → Ev (qGG D cA b E) mModel_is 1 (0, 0) 0 (lv_args 0 [.ref o, .int 45]) [] (n, sh, Rf, I28, L29) (fun v τ => ∃ (r32 : Int32) (I33 : Nat → Nat → Int32) (L34 : Nat → Nat → Int64), v = some (.int r32) ∧ τ = (n, sh, Rf, I33, L34) ∧ ((r32 = 0 → Ev (qGG D cA b E) mModel_is 1 (0, 0) 0 (lv_args 0 [.ref o, .int 42]) [] (n, sh, Rf, I33, L34) (fun v τ => ∃ (r37 : Int32) (I38 : Nat → Nat → Int32) (L39 : Nat → Nat → Int64), v = some (.int r37) ∧ τ = (n, sh, Rf, I38, L39) ∧ ((¬ r37 = 0 → fModel_rankHere_91 D cA b E o n sh Rf I38 L39 post ) ∧ (r37 = 0 → Ev (qGG D cA b E) mModel_is 1 (0, 0) 0 (lv_args 0 [.ref o, .int 47]) [] (n, sh, Rf, I38, L39) (fun v τ => ∃ (r42 : Int32) (I43 : Nat → Nat → Int32) (L44 : Nat → Nat → Int64), v = some (.int r42) ∧ τ = (n, sh, Rf, I43, L44) ∧ ((r42 = 0 → post (some (.int 0)) (n, sh, Rf, I43, L44)) ∧ (¬ r42 = 0 → fModel_rankHere_91 D cA b E o n sh Rf I43 L44 post ))))))) ∧ (¬ r32 = 0 → post (some (.int 5)) (n, sh, Rf, I33, L34)))))))) ∧ (¬ r22 = 0 → post (some (.int 4)) (n, sh, Rf, I23, L24))))))))))) ∧ (¬ r7 = 0 → post (some (.int 1)) (n, sh, Rf, I8, L9))))) ∧ (¬ r2 = 0 → post (some (.int 2)) (n, sh, Rf, I3, L4))))
set_option maxHeartbeats 4000000 in
set_option maxRecDepth 20000 in
theorem sModel_rankHere_0 {D : va_G} {cA : FieldType → ClassId} {b : Nat} {E : State → Prop} (o : Nat) (n : Nat) (sh : Nat → qC) (Rf : Nat → Nat → Option Nat) (I : Nat → Nat → Int32) (L : Nat → Nat → Int64) (post : Option Value → qS → Prop)  (hok : q_ok (qGG D cA b E)) (hw : WfModel (qGG D cA b E) n sh Rf o) (H : fModel_rankHere_0 D cA b E o n sh Rf I L post ) : Ev (qGG D cA b E) mModel_rankHere 2 (0, 0) 0 [(0, .ref o)] [] (n, sh, Rf, I, L) post := by
  unfold fModel_rankHere_0 at H
  refine ev_aload_n dModel_rankHere_0 rfl ?_
  refine ev_ldc2 (6385252) dModel_rankHere_1 (q_t7 13 (by decide +kernel) rfl) ?_
  refine ev_callV [.long 6385252] [] (B' := (0, 0)) (B'' := (0, 0)) hok mmModel_isWord mk_Model_178 (ci := 12) rfl rfl (woModel hw) rfl (Nat.le_of_ble_eq_true rfl) rfl (Nat.le_of_ble_eq_true rfl) dModel_rankHere_4 rfl (by decide) H (fun v τ p1 => ?_)
  obtain ⟨r2, I3, L4, rfl, rfl, H⟩ := p1
  refine ev_if_eq 12 dModel_rankHere_7 (by decide) (fun c5 => ?_) (fun c5 => ?_)
  · have H := H.1 c5
    refine ev_aload_n dModel_rankHere_12 rfl ?_
    refine ev_ldc2 (28530) dModel_rankHere_13 (q_t7 14 (by decide +kernel) rfl) ?_
    refine ev_callV [.long 28530] [] (B' := (0, 0)) (B'' := (0, 0)) hok mmModel_isWord mk_Model_178 (ci := 12) rfl rfl (woModel hw) rfl (Nat.le_of_ble_eq_true rfl) rfl (Nat.le_of_ble_eq_true rfl) dModel_rankHere_16 rfl (by decide) H (fun v τ p6 => ?_)
    obtain ⟨r7, I8, L9, rfl, rfl, H⟩ := p6
    refine ev_if_eq 24 dModel_rankHere_19 (by decide) (fun c10 => ?_) (fun c10 => ?_)
    · have H := H.1 c10
      refine ev_aload_n dModel_rankHere_24 rfl ?_
      refine ev_bipush (60) dModel_rankHere_25 (by decide) ?_
      refine ev_callV [.int 60] [] (B' := (0, 0)) (B'' := (0, 0)) hok mmModel_is mk_Model_193 (ci := 12) rfl rfl (woModel hw) rfl (Nat.le_of_ble_eq_true rfl) rfl (Nat.le_of_ble_eq_true rfl) dModel_rankHere_27 rfl (by decide) H (fun v τ p11 => ?_)
      obtain ⟨r12, I13, L14, rfl, rfl, H⟩ := p11
      refine ev_if_ne 51 dModel_rankHere_30 (by decide) (fun c15 => ?_) (fun c15 => ?_)
      · have H := H.1 c15
        refine ev_iconst (4) dModel_rankHere_51 (by decide) ?_
        exact ev_iret rfl dModel_rankHere_52 H
      · have H := H.2 c15
        refine ev_aload_n dModel_rankHere_33 rfl ?_
        refine ev_bipush (62) dModel_rankHere_34 (by decide) ?_
        refine ev_callV [.int 62] [] (B' := (0, 0)) (B'' := (0, 0)) hok mmModel_is mk_Model_193 (ci := 12) rfl rfl (woModel hw) rfl (Nat.le_of_ble_eq_true rfl) rfl (Nat.le_of_ble_eq_true rfl) dModel_rankHere_36 rfl (by decide) H (fun v τ p16 => ?_)
        obtain ⟨r17, I18, L19, rfl, rfl, H⟩ := p16
        refine ev_if_ne 51 dModel_rankHere_39 (by decide) (fun c20 => ?_) (fun c20 => ?_)
        · have H := H.1 c20
          refine ev_iconst (4) dModel_rankHere_51 (by decide) ?_
          exact ev_iret rfl dModel_rankHere_52 H
        · have H := H.2 c20
          refine ev_aload_n dModel_rankHere_42 rfl ?_
          refine ev_bipush (61) dModel_rankHere_43 (by decide) ?_
          refine ev_callV [.int 61] [] (B' := (0, 0)) (B'' := (0, 0)) hok mmModel_is mk_Model_193 (ci := 12) rfl rfl (woModel hw) rfl (Nat.le_of_ble_eq_true rfl) rfl (Nat.le_of_ble_eq_true rfl) dModel_rankHere_45 rfl (by decide) H (fun v τ p21 => ?_)
          obtain ⟨r22, I23, L24, rfl, rfl, H⟩ := p21
          refine ev_if_eq 53 dModel_rankHere_48 (by decide) (fun c25 => ?_) (fun c25 => ?_)
          · have H := H.1 c25
            refine ev_aload_n dModel_rankHere_53 rfl ?_
            refine ev_bipush (43) dModel_rankHere_54 (by decide) ?_
            refine ev_callV [.int 43] [] (B' := (0, 0)) (B'' := (0, 0)) hok mmModel_is mk_Model_193 (ci := 12) rfl rfl (woModel hw) rfl (Nat.le_of_ble_eq_true rfl) rfl (Nat.le_of_ble_eq_true rfl) dModel_rankHere_56 rfl (by decide) H (fun v τ p26 => ?_)
            obtain ⟨r27, I28, L29, rfl, rfl, H⟩ := p26
            refine ev_if_ne 71 dModel_rankHere_59 (by decide) (fun c30 => ?_) (fun c30 => ?_)
            · have H := H.1 c30
              refine ev_iconst (5) dModel_rankHere_71 (by decide) ?_
              exact ev_iret rfl dModel_rankHere_72 H
            · have H := H.2 c30
              refine ev_aload_n dModel_rankHere_62 rfl ?_
              refine ev_bipush (45) dModel_rankHere_63 (by decide) ?_
              refine ev_callV [.int 45] [] (B' := (0, 0)) (B'' := (0, 0)) hok mmModel_is mk_Model_193 (ci := 12) rfl rfl (woModel hw) rfl (Nat.le_of_ble_eq_true rfl) rfl (Nat.le_of_ble_eq_true rfl) dModel_rankHere_65 rfl (by decide) H (fun v τ p31 => ?_)
              obtain ⟨r32, I33, L34, rfl, rfl, H⟩ := p31
              refine ev_if_eq 73 dModel_rankHere_68 (by decide) (fun c35 => ?_) (fun c35 => ?_)
              · have H := H.1 c35
                refine ev_aload_n dModel_rankHere_73 rfl ?_
                refine ev_bipush (42) dModel_rankHere_74 (by decide) ?_
                refine ev_callV [.int 42] [] (B' := (0, 0)) (B'' := (0, 0)) hok mmModel_is mk_Model_193 (ci := 12) rfl rfl (woModel hw) rfl (Nat.le_of_ble_eq_true rfl) rfl (Nat.le_of_ble_eq_true rfl) dModel_rankHere_76 rfl (by decide) H (fun v τ p36 => ?_)
                obtain ⟨r37, I38, L39, rfl, rfl, H⟩ := p36
                refine ev_if_ne 91 dModel_rankHere_79 (by decide) (fun c40 => ?_) (fun c40 => ?_)
                · have H := H.1 c40
                  exact ev_sub [(0, .ref o)] rfl (sModel_rankHere_91 o n sh Rf I38 L39 post  hok hw H)
                · have H := H.2 c40
                  refine ev_aload_n dModel_rankHere_82 rfl ?_
                  refine ev_bipush (47) dModel_rankHere_83 (by decide) ?_
                  refine ev_callV [.int 47] [] (B' := (0, 0)) (B'' := (0, 0)) hok mmModel_is mk_Model_193 (ci := 12) rfl rfl (woModel hw) rfl (Nat.le_of_ble_eq_true rfl) rfl (Nat.le_of_ble_eq_true rfl) dModel_rankHere_85 rfl (by decide) H (fun v τ p41 => ?_)
                  obtain ⟨r42, I43, L44, rfl, rfl, H⟩ := p41
                  refine ev_if_eq 96 dModel_rankHere_88 (by decide) (fun c45 => ?_) (fun c45 => ?_)
                  · have H := H.1 c45
                    refine ev_iconst (0) dModel_rankHere_96 (by decide) ?_
                    exact ev_iret rfl dModel_rankHere_97 H
                  · have H := H.2 c45
                    exact ev_sub [(0, .ref o)] rfl (sModel_rankHere_91 o n sh Rf I43 L44 post  hok hw H)
              · have H := H.2 c35
                refine ev_iconst (5) dModel_rankHere_71 (by decide) ?_
                exact ev_iret rfl dModel_rankHere_72 H
          · have H := H.2 c25
            refine ev_iconst (4) dModel_rankHere_51 (by decide) ?_
            exact ev_iret rfl dModel_rankHere_52 H
    · have H := H.2 c10
      refine ev_iconst (1) dModel_rankHere_22 (by decide) ?_
      exact ev_iret rfl dModel_rankHere_23 H
  · have H := H.2 c5
    refine ev_iconst (2) dModel_rankHere_10 (by decide) ?_
    exact ev_iret rfl dModel_rankHere_11 H
def fModel_smuggle_142 (D : va_G) (cA : FieldType → ClassId) (b : Nat) (E : State → Prop) (o : Nat) (n : Nat) (sh : Nat → qC) (Rf : Nat → Nat → Option Nat) (I : Nat → Nat → Int32) (L : Nat → Nat → Int64) (post : Option Value → qS → Prop) (x1 : Int32) (x2 : Int32) (x3 : Int32) : Prop :=
  Ev (qGG D cA b E) mModel_smuggle 2 (0, 0) 37 [(0, .ref o), (1, .int x1), (2, .int ((x2 + Int32.ofInt 1))), (3, .int x3)] [] (n, sh, Rf, I, L) post
set_option maxHeartbeats 4000000 in
set_option maxRecDepth 20000 in
theorem sModel_smuggle_142 {D : va_G} {cA : FieldType → ClassId} {b : Nat} {E : State → Prop} (o : Nat) (n : Nat) (sh : Nat → qC) (Rf : Nat → Nat → Option Nat) (I : Nat → Nat → Int32) (L : Nat → Nat → Int64) (post : Option Value → qS → Prop) (x1 : Int32) (x2 : Int32) (x3 : Int32) (hok : q_ok (qGG D cA b E)) (hw : WfModel (qGG D cA b E) n sh Rf o) (H : fModel_smuggle_142 D cA b E o n sh Rf I L post x1 x2 x3) : Ev (qGG D cA b E) mModel_smuggle 2 (0, 0) 142 [(0, .ref o), (1, .int x1), (2, .int x2), (3, .int x3)] [] (n, sh, Rf, I, L) post := by
  unfold fModel_smuggle_142 at H
  refine ev_iinc dModel_smuggle_142 rfl (by decide) ?_
  refine ev_goto 37 dModel_smuggle_145 (by decide) ?_
  exact ev_sub [(0, .ref o), (1, .int x1), (2, .int ((x2 + Int32.ofInt 1))), (3, .int x3)] rfl H
def fModel_smuggle_142_8 (D : va_G) (cA : FieldType → ClassId) (b : Nat) (E : State → Prop) (o : Nat) (n : Nat) (sh : Nat → qC) (Rf : Nat → Nat → Option Nat) (I : Nat → Nat → Int32) (L : Nat → Nat → Int64) (post : Option Value → qS → Prop) (x1 : Int32) (x2 : Int32) (x3 : Int32) (x4 : Int32) : Prop :=
  Ev (qGG D cA b E) mModel_smuggle 2 (0, 0) 37 [(0, .ref o), (1, .int x1), (2, .int ((x2 + Int32.ofInt 1))), (3, .int x3), (4, .int x4)] [] (n, sh, Rf, I, L) post
set_option maxHeartbeats 4000000 in
set_option maxRecDepth 20000 in
theorem sModel_smuggle_142_8 {D : va_G} {cA : FieldType → ClassId} {b : Nat} {E : State → Prop} (o : Nat) (n : Nat) (sh : Nat → qC) (Rf : Nat → Nat → Option Nat) (I : Nat → Nat → Int32) (L : Nat → Nat → Int64) (post : Option Value → qS → Prop) (x1 : Int32) (x2 : Int32) (x3 : Int32) (x4 : Int32) (hok : q_ok (qGG D cA b E)) (hw : WfModel (qGG D cA b E) n sh Rf o) (H : fModel_smuggle_142_8 D cA b E o n sh Rf I L post x1 x2 x3 x4) : Ev (qGG D cA b E) mModel_smuggle 2 (0, 0) 142 [(0, .ref o), (1, .int x1), (2, .int x2), (3, .int x3), (4, .int x4)] [] (n, sh, Rf, I, L) post := by
  unfold fModel_smuggle_142_8 at H
  refine ev_iinc dModel_smuggle_142 rfl (by decide) ?_
  refine ev_goto 37 dModel_smuggle_145 (by decide) ?_
  exact ev_sub [(0, .ref o), (1, .int x1), (2, .int ((x2 + Int32.ofInt 1))), (3, .int x3), (4, .int x4)] rfl H
def fModel_smuggle_129 (D : va_G) (cA : FieldType → ClassId) (b : Nat) (E : State → Prop) (o : Nat) (n : Nat) (sh : Nat → qC) (Rf : Nat → Nat → Option Nat) (I : Nat → Nat → Int32) (L : Nat → Nat → Int64) (post : Option Value → qS → Prop) (x1 : Int32) (x2 : Int32) (x3 : Int32) (x4 : Int32) : Prop :=
  (((-x4) ≤ x3 → fModel_smuggle_142_8 D cA b E o n sh Rf I L post x1 x2 x3 x4) ∧ (¬ (-x4) ≤ x3 → Ev (qGG D cA b E) mModel_cross 1 (0, 0) 0 (lv_args 0 [.ref o, .int x2, .int x1]) [] (n, sh, Rf, I, L) (fun v τ => ∃ (I4 : Nat → Nat → Int32) (L5 : Nat → Nat → Int64), v = none ∧ τ = (n, sh, Rf, I4, L5) ∧ fModel_smuggle_142_8 D cA b E o n sh Rf I4 L5 post x1 x2 x3 x4)))
set_option maxHeartbeats 4000000 in
set_option maxRecDepth 20000 in
theorem sModel_smuggle_129 {D : va_G} {cA : FieldType → ClassId} {b : Nat} {E : State → Prop} (o : Nat) (n : Nat) (sh : Nat → qC) (Rf : Nat → Nat → Option Nat) (I : Nat → Nat → Int32) (L : Nat → Nat → Int64) (post : Option Value → qS → Prop) (x1 : Int32) (x2 : Int32) (x3 : Int32) (x4 : Int32) (hok : q_ok (qGG D cA b E)) (hw : WfModel (qGG D cA b E) n sh Rf o) (H : fModel_smuggle_129 D cA b E o n sh Rf I L post x1 x2 x3 x4) : Ev (qGG D cA b E) mModel_smuggle 2 (0, 0) 129 [(0, .ref o), (1, .int x1), (2, .int x2), (3, .int x3), (4, .int x4)] [] (n, sh, Rf, I, L) post := by
  unfold fModel_smuggle_129 at H
  refine ev_iload dModel_smuggle_129 rfl ?_
  refine ev_ineg dModel_smuggle_131 ?_
  refine ev_iload_n dModel_smuggle_132 rfl ?_
  refine ev_icmp_le 142 dModel_smuggle_133 (by decide) (fun c1 => ?_) (fun c1 => ?_)
  · have H := H.1 c1
    exact ev_sub [(0, .ref o), (1, .int x1), (2, .int x2), (3, .int x3), (4, .int x4)] rfl (sModel_smuggle_142_8 o n sh Rf I L post x1 x2 x3 x4 hok hw H)
  · have H := H.2 c1
    refine ev_aload_n dModel_smuggle_136 rfl ?_
    refine ev_iload_n dModel_smuggle_137 rfl ?_
    refine ev_iload_n dModel_smuggle_138 rfl ?_
    refine ev_callV [.int x2, .int x1] [] (B' := (0, 0)) (B'' := (0, 0)) hok mmModel_cross mk_Model_697 (ci := 12) rfl rfl (woModel hw) rfl (Nat.le_of_ble_eq_true rfl) rfl (Nat.le_of_ble_eq_true rfl) dModel_smuggle_139 rfl (by decide) H (fun v τ p2 => ?_)
    obtain ⟨I4, L5, rfl, rfl, H⟩ := p2
    exact ev_sub [(0, .ref o), (1, .int x1), (2, .int x2), (3, .int x3), (4, .int x4)] rfl (sModel_smuggle_142_8 o n sh Rf I4 L5 post x1 x2 x3 x4 hok hw H)
def fModel_smuggle_37 (D : va_G) (cA : FieldType → ClassId) (b : Nat) (E : State → Prop) (o : Nat) (n : Nat) (sh : Nat → qC) (Rf : Nat → Nat → Option Nat) (I : Nat → Nat → Int32) (L : Nat → Nat → Int64) (post : Option Value → qS → Prop) (x1 : Int32) (x2 : Int32) : Prop :=
  Ev (qGG D cA b E) mModel_towns 0 (0, 0) 0 (lv_args 0 [.ref o]) [] (n, sh, Rf, I, L) (fun v τ => ∃ (r2 : Int32) (I3 : Nat → Nat → Int32) (L4 : Nat → Nat → Int64), v = some (.int r2) ∧ τ = (n, sh, Rf, I3, L4) ∧ ((r2 ≤ x2 → Ev (qGG D cA b E) mModel_smuggle 2 (0, 0) 25 [(0, .ref o), (1, .int ((x1 + Int32.ofInt 1))), (2, .int x2)] [] (n, sh, Rf, I3, L4) post) ∧ (¬ r2 ≤ x2 → Ev (qGG D cA b E) mModel_townAt 0 (0, 0) 0 (lv_args 0 [.ref o, .int x1]) [] (n, sh, Rf, I3, L4) (fun v τ => ∃ (r7 : Int32) (I8 : Nat → Nat → Int32) (L9 : Nat → Nat → Int64), v = some (.int r7) ∧ τ = (n, sh, Rf, I8, L9) ∧ Ev (qGG D cA b E) mModel_townAt 0 (0, 0) 0 (lv_args 0 [.ref o, .int x2]) [] (n, sh, Rf, I8, L9) (fun v τ => ∃ (r11 : Int32) (I12 : Nat → Nat → Int32) (L13 : Nat → Nat → Int64), v = some (.int r11) ∧ τ = (n, sh, Rf, I12, L13) ∧ vp_in ((16 * r7) + r11) 256 ∧ vp_in ((5 * (I12 o 34)) + x1) 10 ∧ vp_in ((5 * (I12 o 34)) + x2) 10 ∧ (((I12 (o + 20) (((5 * (I12 o 34)) + x1) : Int32).toNatClampNeg) = (I12 (o + 20) (((5 * (I12 o 34)) + x2) : Int32).toNatClampNeg) → fModel_smuggle_142 D cA b E o n sh Rf I12 L13 post x1 x2 (I12 (o + 25) (((16 * r7) + r11) : Int32).toNatClampNeg)) ∧ (¬ (I12 (o + 20) (((5 * (I12 o 34)) + x1) : Int32).toNatClampNeg) = (I12 (o + 20) (((5 * (I12 o 34)) + x2) : Int32).toNatClampNeg) → (((I12 (o + 25) (((16 * r7) + r11) : Int32).toNatClampNeg) < 1000000 → Ev (qGG D cA b E) mModel_priceOf 0 (0, 0) 0 (lv_args 0 [.ref o, .int x2]) [] (n, sh, Rf, I12, L13) (fun v τ => ∃ (r20 : Int32) (I21 : Nat → Nat → Int32) (L22 : Nat → Nat → Int64), v = some (.int r20) ∧ τ = (n, sh, Rf, I21, L22) ∧ Ev (qGG D cA b E) mModel_priceOf 0 (0, 0) 0 (lv_args 0 [.ref o, .int x1]) [] (n, sh, Rf, I21, L22) (fun v τ => ∃ (r24 : Int32) (I25 : Nat → Nat → Int32) (L26 : Nat → Nat → Int64), v = some (.int r24) ∧ τ = (n, sh, Rf, I25, L26) ∧ (((r20 - r24) ≤ (I12 (o + 25) (((16 * r7) + r11) : Int32).toNatClampNeg) → fModel_smuggle_129 D cA b E o n sh Rf I25 L26 post x1 x2 (I12 (o + 25) (((16 * r7) + r11) : Int32).toNatClampNeg) (r20 - r24)) ∧ (¬ (r20 - r24) ≤ (I12 (o + 25) (((16 * r7) + r11) : Int32).toNatClampNeg) → Ev (qGG D cA b E) mModel_cross 1 (0, 0) 0 (lv_args 0 [.ref o, .int x1, .int x2]) [] (n, sh, Rf, I25, L26) (fun v τ => ∃ (I30 : Nat → Nat → Int32) (L31 : Nat → Nat → Int64), v = none ∧ τ = (n, sh, Rf, I30, L31) ∧ fModel_smuggle_129 D cA b E o n sh Rf I30 L31 post x1 x2 (I12 (o + 25) (((16 * r7) + r11) : Int32).toNatClampNeg) (r20 - r24))))))) ∧ (¬ (I12 (o + 25) (((16 * r7) + r11) : Int32).toNatClampNeg) < 1000000 → fModel_smuggle_142 D cA b E o n sh Rf I12 L13 post x1 x2 (I12 (o + 25) (((16 * r7) + r11) : Int32).toNatClampNeg))))))))))
set_option maxHeartbeats 4000000 in
set_option maxRecDepth 20000 in
theorem sModel_smuggle_37 {D : va_G} {cA : FieldType → ClassId} {b : Nat} {E : State → Prop} (o : Nat) (n : Nat) (sh : Nat → qC) (Rf : Nat → Nat → Option Nat) (I : Nat → Nat → Int32) (L : Nat → Nat → Int64) (post : Option Value → qS → Prop) (x1 : Int32) (x2 : Int32) (hok : q_ok (qGG D cA b E)) (hw : WfModel (qGG D cA b E) n sh Rf o) (H : fModel_smuggle_37 D cA b E o n sh Rf I L post x1 x2) : Ev (qGG D cA b E) mModel_smuggle 2 (0, 0) 37 [(0, .ref o), (1, .int x1), (2, .int x2)] [] (n, sh, Rf, I, L) post := by
  unfold fModel_smuggle_37 at H
  refine ev_iload_n dModel_smuggle_37 rfl ?_
  refine ev_aload_n dModel_smuggle_38 rfl ?_
  refine ev_callV [] [.int x2] (B' := (0, 0)) (B'' := (0, 0)) hok mmModel_towns mk_Model_488 (ci := 12) rfl rfl (woModel hw) rfl (Nat.le_of_ble_eq_true rfl) rfl (Nat.le_of_ble_eq_true rfl) dModel_smuggle_39 rfl (by decide) H (fun v τ p1 => ?_)
  obtain ⟨r2, I3, L4, rfl, rfl, H⟩ := p1
  refine ev_icmp_ge 148 dModel_smuggle_42 (by decide) (fun c5 => ?_) (fun c5 => ?_)
  · have H := H.1 c5
    refine ev_iinc dModel_smuggle_148 rfl (by decide) ?_
    refine ev_goto 25 dModel_smuggle_151 (by decide) ?_
    exact ev_sub [(0, .ref o), (1, .int ((x1 + Int32.ofInt 1))), (2, .int x2)] rfl H
  · have H := H.2 c5
    refine ev_aload_n dModel_smuggle_45 rfl ?_
    refine ev_getR hok fk_Model_269 (woModel hw) (fun _ _ _ => rfl) (wrModel_36 hw) dModel_smuggle_46 ?_
    refine ev_bipush (16) dModel_smuggle_49 (by decide) ?_
    refine ev_aload_n dModel_smuggle_51 rfl ?_
    refine ev_iload_n dModel_smuggle_52 rfl ?_
    refine ev_callV [.int x1] [.int 16, .ref ((o + 25))] (B' := (0, 0)) (B'' := (0, 0)) hok mmModel_townAt mk_Model_494 (ci := 12) rfl rfl (woModel hw) rfl (Nat.le_of_ble_eq_true rfl) rfl (Nat.le_of_ble_eq_true rfl) dModel_smuggle_53 rfl (by decide) H (fun v τ p6 => ?_)
    obtain ⟨r7, I8, L9, rfl, rfl, H⟩ := p6
    refine ev_imul dModel_smuggle_56 ?_
    refine ev_aload_n dModel_smuggle_57 rfl ?_
    refine ev_iload_n dModel_smuggle_58 rfl ?_
    refine ev_callV [.int x2] [.int ((16 * r7)), .ref ((o + 25))] (B' := (0, 0)) (B'' := (0, 0)) hok mmModel_townAt mk_Model_494 (ci := 12) rfl rfl (woModel hw) rfl (Nat.le_of_ble_eq_true rfl) rfl (Nat.le_of_ble_eq_true rfl) dModel_smuggle_59 rfl (by decide) H (fun v τ p10 => ?_)
    obtain ⟨r11, I12, L13, rfl, rfl, H⟩ := p10
    refine ev_iadd dModel_smuggle_62 ?_
    obtain ⟨h14, H⟩ := H
    refine ev_iald hok (waModel_36 hw) h14 dModel_smuggle_63 ?_
    refine ev_istore_n dModel_smuggle_64 (by decide) ?_
    refine ev_aload_n dModel_smuggle_65 rfl ?_
    refine ev_getR hok fk_Model_254 (woModel hw) (fun _ _ _ => rfl) (wrModel_29 hw) dModel_smuggle_66 ?_
    refine ev_iconst (5) dModel_smuggle_69 (by decide) ?_
    refine ev_aload_n dModel_smuggle_70 rfl ?_
    refine ev_getI hok fk_Model_147 (woModel hw) (fun _ _ _ => rfl) dModel_smuggle_71 ?_
    refine ev_imul dModel_smuggle_74 ?_
    refine ev_iload_n dModel_smuggle_75 rfl ?_
    refine ev_iadd dModel_smuggle_76 ?_
    obtain ⟨h15, H⟩ := H
    refine ev_iald hok (waModel_29 hw) h15 dModel_smuggle_77 ?_
    refine ev_aload_n dModel_smuggle_78 rfl ?_
    refine ev_getR hok fk_Model_254 (woModel hw) (fun _ _ _ => rfl) (wrModel_29 hw) dModel_smuggle_79 ?_
    refine ev_iconst (5) dModel_smuggle_82 (by decide) ?_
    refine ev_aload_n dModel_smuggle_83 rfl ?_
    refine ev_getI hok fk_Model_147 (woModel hw) (fun _ _ _ => rfl) dModel_smuggle_84 ?_
    refine ev_imul dModel_smuggle_87 ?_
    refine ev_iload_n dModel_smuggle_88 rfl ?_
    refine ev_iadd dModel_smuggle_89 ?_
    obtain ⟨h16, H⟩ := H
    refine ev_iald hok (waModel_29 hw) h16 dModel_smuggle_90 ?_
    refine ev_icmp_eq 142 dModel_smuggle_91 (by decide) (fun c17 => ?_) (fun c17 => ?_)
    · have H := H.1 c17
      exact ev_sub [(0, .ref o), (1, .int x1), (2, .int x2), (3, .int ((I12 (o + 25) (((16 * r7) + r11) : Int32).toNatClampNeg)))] rfl (sModel_smuggle_142 o n sh Rf I12 L13 post x1 x2 (I12 (o + 25) (((16 * r7) + r11) : Int32).toNatClampNeg) hok hw H)
    · have H := H.2 c17
      refine ev_iload_n dModel_smuggle_94 rfl ?_
      refine ev_ldcw (1000000) dModel_smuggle_95 (q_t7 92 (by decide +kernel) rfl) ?_
      refine ev_icmp_lt 104 dModel_smuggle_98 (by decide) (fun c18 => ?_) (fun c18 => ?_)
      · have H := H.1 c18
        refine ev_aload_n dModel_smuggle_104 rfl ?_
        refine ev_iload_n dModel_smuggle_105 rfl ?_
        refine ev_callV [.int x2] [] (B' := (0, 0)) (B'' := (0, 0)) hok mmModel_priceOf mk_Model_497 (ci := 12) rfl rfl (woModel hw) rfl (Nat.le_of_ble_eq_true rfl) rfl (Nat.le_of_ble_eq_true rfl) dModel_smuggle_106 rfl (by decide) H (fun v τ p19 => ?_)
        obtain ⟨r20, I21, L22, rfl, rfl, H⟩ := p19
        refine ev_aload_n dModel_smuggle_109 rfl ?_
        refine ev_iload_n dModel_smuggle_110 rfl ?_
        refine ev_callV [.int x1] [.int r20] (B' := (0, 0)) (B'' := (0, 0)) hok mmModel_priceOf mk_Model_497 (ci := 12) rfl rfl (woModel hw) rfl (Nat.le_of_ble_eq_true rfl) rfl (Nat.le_of_ble_eq_true rfl) dModel_smuggle_111 rfl (by decide) H (fun v τ p23 => ?_)
        obtain ⟨r24, I25, L26, rfl, rfl, H⟩ := p23
        refine ev_isub dModel_smuggle_114 ?_
        refine ev_istore dModel_smuggle_115 (by decide) ?_
        refine ev_iload dModel_smuggle_117 rfl ?_
        refine ev_iload_n dModel_smuggle_119 rfl ?_
        refine ev_icmp_le 129 dModel_smuggle_120 (by decide) (fun c27 => ?_) (fun c27 => ?_)
        · have H := H.1 c27
          exact ev_sub [(0, .ref o), (1, .int x1), (2, .int x2), (3, .int ((I12 (o + 25) (((16 * r7) + r11) : Int32).toNatClampNeg))), (4, .int ((r20 - r24)))] rfl (sModel_smuggle_129 o n sh Rf I25 L26 post x1 x2 (I12 (o + 25) (((16 * r7) + r11) : Int32).toNatClampNeg) (r20 - r24) hok hw H)
        · have H := H.2 c27
          refine ev_aload_n dModel_smuggle_123 rfl ?_
          refine ev_iload_n dModel_smuggle_124 rfl ?_
          refine ev_iload_n dModel_smuggle_125 rfl ?_
          refine ev_callV [.int x1, .int x2] [] (B' := (0, 0)) (B'' := (0, 0)) hok mmModel_cross mk_Model_697 (ci := 12) rfl rfl (woModel hw) rfl (Nat.le_of_ble_eq_true rfl) rfl (Nat.le_of_ble_eq_true rfl) dModel_smuggle_126 rfl (by decide) H (fun v τ p28 => ?_)
          obtain ⟨I30, L31, rfl, rfl, H⟩ := p28
          exact ev_sub [(0, .ref o), (1, .int x1), (2, .int x2), (3, .int ((I12 (o + 25) (((16 * r7) + r11) : Int32).toNatClampNeg))), (4, .int ((r20 - r24)))] rfl (sModel_smuggle_129 o n sh Rf I30 L31 post x1 x2 (I12 (o + 25) (((16 * r7) + r11) : Int32).toNatClampNeg) (r20 - r24) hok hw H)
      · have H := H.2 c18
        refine ev_goto 142 dModel_smuggle_101 (by decide) ?_
        exact ev_sub [(0, .ref o), (1, .int x1), (2, .int x2), (3, .int ((I12 (o + 25) (((16 * r7) + r11) : Int32).toNatClampNeg)))] rfl (sModel_smuggle_142 o n sh Rf I12 L13 post x1 x2 (I12 (o + 25) (((16 * r7) + r11) : Int32).toNatClampNeg) hok hw H)
def fModel_smuggle_37_7 (D : va_G) (cA : FieldType → ClassId) (b : Nat) (E : State → Prop) (o : Nat) (n : Nat) (sh : Nat → qC) (Rf : Nat → Nat → Option Nat) (I : Nat → Nat → Int32) (L : Nat → Nat → Int64) (post : Option Value → qS → Prop) (x1 : Int32) (x2 : Int32) (x3 : Int32) : Prop :=
  Ev (qGG D cA b E) mModel_towns 0 (0, 0) 0 (lv_args 0 [.ref o]) [] (n, sh, Rf, I, L) (fun v τ => ∃ (r2 : Int32) (I3 : Nat → Nat → Int32) (L4 : Nat → Nat → Int64), v = some (.int r2) ∧ τ = (n, sh, Rf, I3, L4) ∧ ((r2 ≤ x2 → Ev (qGG D cA b E) mModel_smuggle 2 (0, 0) 25 [(0, .ref o), (1, .int ((x1 + Int32.ofInt 1))), (2, .int x2), (3, .int x3)] [] (n, sh, Rf, I3, L4) post) ∧ (¬ r2 ≤ x2 → Ev (qGG D cA b E) mModel_townAt 0 (0, 0) 0 (lv_args 0 [.ref o, .int x1]) [] (n, sh, Rf, I3, L4) (fun v τ => ∃ (r7 : Int32) (I8 : Nat → Nat → Int32) (L9 : Nat → Nat → Int64), v = some (.int r7) ∧ τ = (n, sh, Rf, I8, L9) ∧ Ev (qGG D cA b E) mModel_townAt 0 (0, 0) 0 (lv_args 0 [.ref o, .int x2]) [] (n, sh, Rf, I8, L9) (fun v τ => ∃ (r11 : Int32) (I12 : Nat → Nat → Int32) (L13 : Nat → Nat → Int64), v = some (.int r11) ∧ τ = (n, sh, Rf, I12, L13) ∧ vp_in ((16 * r7) + r11) 256 ∧ vp_in ((5 * (I12 o 34)) + x1) 10 ∧ vp_in ((5 * (I12 o 34)) + x2) 10 ∧ (((I12 (o + 20) (((5 * (I12 o 34)) + x1) : Int32).toNatClampNeg) = (I12 (o + 20) (((5 * (I12 o 34)) + x2) : Int32).toNatClampNeg) → fModel_smuggle_142 D cA b E o n sh Rf I12 L13 post x1 x2 (I12 (o + 25) (((16 * r7) + r11) : Int32).toNatClampNeg)) ∧ (¬ (I12 (o + 20) (((5 * (I12 o 34)) + x1) : Int32).toNatClampNeg) = (I12 (o + 20) (((5 * (I12 o 34)) + x2) : Int32).toNatClampNeg) → (((I12 (o + 25) (((16 * r7) + r11) : Int32).toNatClampNeg) < 1000000 → Ev (qGG D cA b E) mModel_priceOf 0 (0, 0) 0 (lv_args 0 [.ref o, .int x2]) [] (n, sh, Rf, I12, L13) (fun v τ => ∃ (r20 : Int32) (I21 : Nat → Nat → Int32) (L22 : Nat → Nat → Int64), v = some (.int r20) ∧ τ = (n, sh, Rf, I21, L22) ∧ Ev (qGG D cA b E) mModel_priceOf 0 (0, 0) 0 (lv_args 0 [.ref o, .int x1]) [] (n, sh, Rf, I21, L22) (fun v τ => ∃ (r24 : Int32) (I25 : Nat → Nat → Int32) (L26 : Nat → Nat → Int64), v = some (.int r24) ∧ τ = (n, sh, Rf, I25, L26) ∧ (((r20 - r24) ≤ (I12 (o + 25) (((16 * r7) + r11) : Int32).toNatClampNeg) → fModel_smuggle_129 D cA b E o n sh Rf I25 L26 post x1 x2 (I12 (o + 25) (((16 * r7) + r11) : Int32).toNatClampNeg) (r20 - r24)) ∧ (¬ (r20 - r24) ≤ (I12 (o + 25) (((16 * r7) + r11) : Int32).toNatClampNeg) → Ev (qGG D cA b E) mModel_cross 1 (0, 0) 0 (lv_args 0 [.ref o, .int x1, .int x2]) [] (n, sh, Rf, I25, L26) (fun v τ => ∃ (I30 : Nat → Nat → Int32) (L31 : Nat → Nat → Int64), v = none ∧ τ = (n, sh, Rf, I30, L31) ∧ fModel_smuggle_129 D cA b E o n sh Rf I30 L31 post x1 x2 (I12 (o + 25) (((16 * r7) + r11) : Int32).toNatClampNeg) (r20 - r24))))))) ∧ (¬ (I12 (o + 25) (((16 * r7) + r11) : Int32).toNatClampNeg) < 1000000 → fModel_smuggle_142 D cA b E o n sh Rf I12 L13 post x1 x2 (I12 (o + 25) (((16 * r7) + r11) : Int32).toNatClampNeg))))))))))
set_option maxHeartbeats 4000000 in
set_option maxRecDepth 20000 in
theorem sModel_smuggle_37_7 {D : va_G} {cA : FieldType → ClassId} {b : Nat} {E : State → Prop} (o : Nat) (n : Nat) (sh : Nat → qC) (Rf : Nat → Nat → Option Nat) (I : Nat → Nat → Int32) (L : Nat → Nat → Int64) (post : Option Value → qS → Prop) (x1 : Int32) (x2 : Int32) (x3 : Int32) (hok : q_ok (qGG D cA b E)) (hw : WfModel (qGG D cA b E) n sh Rf o) (H : fModel_smuggle_37_7 D cA b E o n sh Rf I L post x1 x2 x3) : Ev (qGG D cA b E) mModel_smuggle 2 (0, 0) 37 [(0, .ref o), (1, .int x1), (2, .int x2), (3, .int x3)] [] (n, sh, Rf, I, L) post := by
  unfold fModel_smuggle_37_7 at H
  refine ev_iload_n dModel_smuggle_37 rfl ?_
  refine ev_aload_n dModel_smuggle_38 rfl ?_
  refine ev_callV [] [.int x2] (B' := (0, 0)) (B'' := (0, 0)) hok mmModel_towns mk_Model_488 (ci := 12) rfl rfl (woModel hw) rfl (Nat.le_of_ble_eq_true rfl) rfl (Nat.le_of_ble_eq_true rfl) dModel_smuggle_39 rfl (by decide) H (fun v τ p1 => ?_)
  obtain ⟨r2, I3, L4, rfl, rfl, H⟩ := p1
  refine ev_icmp_ge 148 dModel_smuggle_42 (by decide) (fun c5 => ?_) (fun c5 => ?_)
  · have H := H.1 c5
    refine ev_iinc dModel_smuggle_148 rfl (by decide) ?_
    refine ev_goto 25 dModel_smuggle_151 (by decide) ?_
    exact ev_sub [(0, .ref o), (1, .int ((x1 + Int32.ofInt 1))), (2, .int x2), (3, .int x3)] rfl H
  · have H := H.2 c5
    refine ev_aload_n dModel_smuggle_45 rfl ?_
    refine ev_getR hok fk_Model_269 (woModel hw) (fun _ _ _ => rfl) (wrModel_36 hw) dModel_smuggle_46 ?_
    refine ev_bipush (16) dModel_smuggle_49 (by decide) ?_
    refine ev_aload_n dModel_smuggle_51 rfl ?_
    refine ev_iload_n dModel_smuggle_52 rfl ?_
    refine ev_callV [.int x1] [.int 16, .ref ((o + 25))] (B' := (0, 0)) (B'' := (0, 0)) hok mmModel_townAt mk_Model_494 (ci := 12) rfl rfl (woModel hw) rfl (Nat.le_of_ble_eq_true rfl) rfl (Nat.le_of_ble_eq_true rfl) dModel_smuggle_53 rfl (by decide) H (fun v τ p6 => ?_)
    obtain ⟨r7, I8, L9, rfl, rfl, H⟩ := p6
    refine ev_imul dModel_smuggle_56 ?_
    refine ev_aload_n dModel_smuggle_57 rfl ?_
    refine ev_iload_n dModel_smuggle_58 rfl ?_
    refine ev_callV [.int x2] [.int ((16 * r7)), .ref ((o + 25))] (B' := (0, 0)) (B'' := (0, 0)) hok mmModel_townAt mk_Model_494 (ci := 12) rfl rfl (woModel hw) rfl (Nat.le_of_ble_eq_true rfl) rfl (Nat.le_of_ble_eq_true rfl) dModel_smuggle_59 rfl (by decide) H (fun v τ p10 => ?_)
    obtain ⟨r11, I12, L13, rfl, rfl, H⟩ := p10
    refine ev_iadd dModel_smuggle_62 ?_
    obtain ⟨h14, H⟩ := H
    refine ev_iald hok (waModel_36 hw) h14 dModel_smuggle_63 ?_
    refine ev_istore_n dModel_smuggle_64 (by decide) ?_
    refine ev_aload_n dModel_smuggle_65 rfl ?_
    refine ev_getR hok fk_Model_254 (woModel hw) (fun _ _ _ => rfl) (wrModel_29 hw) dModel_smuggle_66 ?_
    refine ev_iconst (5) dModel_smuggle_69 (by decide) ?_
    refine ev_aload_n dModel_smuggle_70 rfl ?_
    refine ev_getI hok fk_Model_147 (woModel hw) (fun _ _ _ => rfl) dModel_smuggle_71 ?_
    refine ev_imul dModel_smuggle_74 ?_
    refine ev_iload_n dModel_smuggle_75 rfl ?_
    refine ev_iadd dModel_smuggle_76 ?_
    obtain ⟨h15, H⟩ := H
    refine ev_iald hok (waModel_29 hw) h15 dModel_smuggle_77 ?_
    refine ev_aload_n dModel_smuggle_78 rfl ?_
    refine ev_getR hok fk_Model_254 (woModel hw) (fun _ _ _ => rfl) (wrModel_29 hw) dModel_smuggle_79 ?_
    refine ev_iconst (5) dModel_smuggle_82 (by decide) ?_
    refine ev_aload_n dModel_smuggle_83 rfl ?_
    refine ev_getI hok fk_Model_147 (woModel hw) (fun _ _ _ => rfl) dModel_smuggle_84 ?_
    refine ev_imul dModel_smuggle_87 ?_
    refine ev_iload_n dModel_smuggle_88 rfl ?_
    refine ev_iadd dModel_smuggle_89 ?_
    obtain ⟨h16, H⟩ := H
    refine ev_iald hok (waModel_29 hw) h16 dModel_smuggle_90 ?_
    refine ev_icmp_eq 142 dModel_smuggle_91 (by decide) (fun c17 => ?_) (fun c17 => ?_)
    · have H := H.1 c17
      exact ev_sub [(0, .ref o), (1, .int x1), (2, .int x2), (3, .int ((I12 (o + 25) (((16 * r7) + r11) : Int32).toNatClampNeg)))] rfl (sModel_smuggle_142 o n sh Rf I12 L13 post x1 x2 (I12 (o + 25) (((16 * r7) + r11) : Int32).toNatClampNeg) hok hw H)
    · have H := H.2 c17
      refine ev_iload_n dModel_smuggle_94 rfl ?_
      refine ev_ldcw (1000000) dModel_smuggle_95 (q_t7 92 (by decide +kernel) rfl) ?_
      refine ev_icmp_lt 104 dModel_smuggle_98 (by decide) (fun c18 => ?_) (fun c18 => ?_)
      · have H := H.1 c18
        refine ev_aload_n dModel_smuggle_104 rfl ?_
        refine ev_iload_n dModel_smuggle_105 rfl ?_
        refine ev_callV [.int x2] [] (B' := (0, 0)) (B'' := (0, 0)) hok mmModel_priceOf mk_Model_497 (ci := 12) rfl rfl (woModel hw) rfl (Nat.le_of_ble_eq_true rfl) rfl (Nat.le_of_ble_eq_true rfl) dModel_smuggle_106 rfl (by decide) H (fun v τ p19 => ?_)
        obtain ⟨r20, I21, L22, rfl, rfl, H⟩ := p19
        refine ev_aload_n dModel_smuggle_109 rfl ?_
        refine ev_iload_n dModel_smuggle_110 rfl ?_
        refine ev_callV [.int x1] [.int r20] (B' := (0, 0)) (B'' := (0, 0)) hok mmModel_priceOf mk_Model_497 (ci := 12) rfl rfl (woModel hw) rfl (Nat.le_of_ble_eq_true rfl) rfl (Nat.le_of_ble_eq_true rfl) dModel_smuggle_111 rfl (by decide) H (fun v τ p23 => ?_)
        obtain ⟨r24, I25, L26, rfl, rfl, H⟩ := p23
        refine ev_isub dModel_smuggle_114 ?_
        refine ev_istore dModel_smuggle_115 (by decide) ?_
        refine ev_iload dModel_smuggle_117 rfl ?_
        refine ev_iload_n dModel_smuggle_119 rfl ?_
        refine ev_icmp_le 129 dModel_smuggle_120 (by decide) (fun c27 => ?_) (fun c27 => ?_)
        · have H := H.1 c27
          exact ev_sub [(0, .ref o), (1, .int x1), (2, .int x2), (3, .int ((I12 (o + 25) (((16 * r7) + r11) : Int32).toNatClampNeg))), (4, .int ((r20 - r24)))] rfl (sModel_smuggle_129 o n sh Rf I25 L26 post x1 x2 (I12 (o + 25) (((16 * r7) + r11) : Int32).toNatClampNeg) (r20 - r24) hok hw H)
        · have H := H.2 c27
          refine ev_aload_n dModel_smuggle_123 rfl ?_
          refine ev_iload_n dModel_smuggle_124 rfl ?_
          refine ev_iload_n dModel_smuggle_125 rfl ?_
          refine ev_callV [.int x1, .int x2] [] (B' := (0, 0)) (B'' := (0, 0)) hok mmModel_cross mk_Model_697 (ci := 12) rfl rfl (woModel hw) rfl (Nat.le_of_ble_eq_true rfl) rfl (Nat.le_of_ble_eq_true rfl) dModel_smuggle_126 rfl (by decide) H (fun v τ p28 => ?_)
          obtain ⟨I30, L31, rfl, rfl, H⟩ := p28
          exact ev_sub [(0, .ref o), (1, .int x1), (2, .int x2), (3, .int ((I12 (o + 25) (((16 * r7) + r11) : Int32).toNatClampNeg))), (4, .int ((r20 - r24)))] rfl (sModel_smuggle_129 o n sh Rf I30 L31 post x1 x2 (I12 (o + 25) (((16 * r7) + r11) : Int32).toNatClampNeg) (r20 - r24) hok hw H)
      · have H := H.2 c18
        refine ev_goto 142 dModel_smuggle_101 (by decide) ?_
        exact ev_sub [(0, .ref o), (1, .int x1), (2, .int x2), (3, .int ((I12 (o + 25) (((16 * r7) + r11) : Int32).toNatClampNeg)))] rfl (sModel_smuggle_142 o n sh Rf I12 L13 post x1 x2 (I12 (o + 25) (((16 * r7) + r11) : Int32).toNatClampNeg) hok hw H)
def fModel_smuggle_37_10 (D : va_G) (cA : FieldType → ClassId) (b : Nat) (E : State → Prop) (o : Nat) (n : Nat) (sh : Nat → qC) (Rf : Nat → Nat → Option Nat) (I : Nat → Nat → Int32) (L : Nat → Nat → Int64) (post : Option Value → qS → Prop) (x1 : Int32) (x2 : Int32) (x3 : Int32) (x4 : Int32) : Prop :=
  Ev (qGG D cA b E) mModel_towns 0 (0, 0) 0 (lv_args 0 [.ref o]) [] (n, sh, Rf, I, L) (fun v τ => ∃ (r2 : Int32) (I3 : Nat → Nat → Int32) (L4 : Nat → Nat → Int64), v = some (.int r2) ∧ τ = (n, sh, Rf, I3, L4) ∧ ((r2 ≤ x2 → Ev (qGG D cA b E) mModel_smuggle 2 (0, 0) 25 [(0, .ref o), (1, .int ((x1 + Int32.ofInt 1))), (2, .int x2), (3, .int x3), (4, .int x4)] [] (n, sh, Rf, I3, L4) post) ∧ (¬ r2 ≤ x2 → Ev (qGG D cA b E) mModel_townAt 0 (0, 0) 0 (lv_args 0 [.ref o, .int x1]) [] (n, sh, Rf, I3, L4) (fun v τ => ∃ (r7 : Int32) (I8 : Nat → Nat → Int32) (L9 : Nat → Nat → Int64), v = some (.int r7) ∧ τ = (n, sh, Rf, I8, L9) ∧ Ev (qGG D cA b E) mModel_townAt 0 (0, 0) 0 (lv_args 0 [.ref o, .int x2]) [] (n, sh, Rf, I8, L9) (fun v τ => ∃ (r11 : Int32) (I12 : Nat → Nat → Int32) (L13 : Nat → Nat → Int64), v = some (.int r11) ∧ τ = (n, sh, Rf, I12, L13) ∧ vp_in ((16 * r7) + r11) 256 ∧ vp_in ((5 * (I12 o 34)) + x1) 10 ∧ vp_in ((5 * (I12 o 34)) + x2) 10 ∧ (((I12 (o + 20) (((5 * (I12 o 34)) + x1) : Int32).toNatClampNeg) = (I12 (o + 20) (((5 * (I12 o 34)) + x2) : Int32).toNatClampNeg) → fModel_smuggle_142_8 D cA b E o n sh Rf I12 L13 post x1 x2 (I12 (o + 25) (((16 * r7) + r11) : Int32).toNatClampNeg) x4) ∧ (¬ (I12 (o + 20) (((5 * (I12 o 34)) + x1) : Int32).toNatClampNeg) = (I12 (o + 20) (((5 * (I12 o 34)) + x2) : Int32).toNatClampNeg) → (((I12 (o + 25) (((16 * r7) + r11) : Int32).toNatClampNeg) < 1000000 → Ev (qGG D cA b E) mModel_priceOf 0 (0, 0) 0 (lv_args 0 [.ref o, .int x2]) [] (n, sh, Rf, I12, L13) (fun v τ => ∃ (r20 : Int32) (I21 : Nat → Nat → Int32) (L22 : Nat → Nat → Int64), v = some (.int r20) ∧ τ = (n, sh, Rf, I21, L22) ∧ Ev (qGG D cA b E) mModel_priceOf 0 (0, 0) 0 (lv_args 0 [.ref o, .int x1]) [] (n, sh, Rf, I21, L22) (fun v τ => ∃ (r24 : Int32) (I25 : Nat → Nat → Int32) (L26 : Nat → Nat → Int64), v = some (.int r24) ∧ τ = (n, sh, Rf, I25, L26) ∧ (((r20 - r24) ≤ (I12 (o + 25) (((16 * r7) + r11) : Int32).toNatClampNeg) → fModel_smuggle_129 D cA b E o n sh Rf I25 L26 post x1 x2 (I12 (o + 25) (((16 * r7) + r11) : Int32).toNatClampNeg) (r20 - r24)) ∧ (¬ (r20 - r24) ≤ (I12 (o + 25) (((16 * r7) + r11) : Int32).toNatClampNeg) → Ev (qGG D cA b E) mModel_cross 1 (0, 0) 0 (lv_args 0 [.ref o, .int x1, .int x2]) [] (n, sh, Rf, I25, L26) (fun v τ => ∃ (I30 : Nat → Nat → Int32) (L31 : Nat → Nat → Int64), v = none ∧ τ = (n, sh, Rf, I30, L31) ∧ fModel_smuggle_129 D cA b E o n sh Rf I30 L31 post x1 x2 (I12 (o + 25) (((16 * r7) + r11) : Int32).toNatClampNeg) (r20 - r24))))))) ∧ (¬ (I12 (o + 25) (((16 * r7) + r11) : Int32).toNatClampNeg) < 1000000 → fModel_smuggle_142_8 D cA b E o n sh Rf I12 L13 post x1 x2 (I12 (o + 25) (((16 * r7) + r11) : Int32).toNatClampNeg) x4)))))))))
set_option maxHeartbeats 4000000 in
set_option maxRecDepth 20000 in
theorem sModel_smuggle_37_10 {D : va_G} {cA : FieldType → ClassId} {b : Nat} {E : State → Prop} (o : Nat) (n : Nat) (sh : Nat → qC) (Rf : Nat → Nat → Option Nat) (I : Nat → Nat → Int32) (L : Nat → Nat → Int64) (post : Option Value → qS → Prop) (x1 : Int32) (x2 : Int32) (x3 : Int32) (x4 : Int32) (hok : q_ok (qGG D cA b E)) (hw : WfModel (qGG D cA b E) n sh Rf o) (H : fModel_smuggle_37_10 D cA b E o n sh Rf I L post x1 x2 x3 x4) : Ev (qGG D cA b E) mModel_smuggle 2 (0, 0) 37 [(0, .ref o), (1, .int x1), (2, .int x2), (3, .int x3), (4, .int x4)] [] (n, sh, Rf, I, L) post := by
  unfold fModel_smuggle_37_10 at H
  refine ev_iload_n dModel_smuggle_37 rfl ?_
  refine ev_aload_n dModel_smuggle_38 rfl ?_
  refine ev_callV [] [.int x2] (B' := (0, 0)) (B'' := (0, 0)) hok mmModel_towns mk_Model_488 (ci := 12) rfl rfl (woModel hw) rfl (Nat.le_of_ble_eq_true rfl) rfl (Nat.le_of_ble_eq_true rfl) dModel_smuggle_39 rfl (by decide) H (fun v τ p1 => ?_)
  obtain ⟨r2, I3, L4, rfl, rfl, H⟩ := p1
  refine ev_icmp_ge 148 dModel_smuggle_42 (by decide) (fun c5 => ?_) (fun c5 => ?_)
  · have H := H.1 c5
    refine ev_iinc dModel_smuggle_148 rfl (by decide) ?_
    refine ev_goto 25 dModel_smuggle_151 (by decide) ?_
    exact ev_sub [(0, .ref o), (1, .int ((x1 + Int32.ofInt 1))), (2, .int x2), (3, .int x3), (4, .int x4)] rfl H
  · have H := H.2 c5
    refine ev_aload_n dModel_smuggle_45 rfl ?_
    refine ev_getR hok fk_Model_269 (woModel hw) (fun _ _ _ => rfl) (wrModel_36 hw) dModel_smuggle_46 ?_
    refine ev_bipush (16) dModel_smuggle_49 (by decide) ?_
    refine ev_aload_n dModel_smuggle_51 rfl ?_
    refine ev_iload_n dModel_smuggle_52 rfl ?_
    refine ev_callV [.int x1] [.int 16, .ref ((o + 25))] (B' := (0, 0)) (B'' := (0, 0)) hok mmModel_townAt mk_Model_494 (ci := 12) rfl rfl (woModel hw) rfl (Nat.le_of_ble_eq_true rfl) rfl (Nat.le_of_ble_eq_true rfl) dModel_smuggle_53 rfl (by decide) H (fun v τ p6 => ?_)
    obtain ⟨r7, I8, L9, rfl, rfl, H⟩ := p6
    refine ev_imul dModel_smuggle_56 ?_
    refine ev_aload_n dModel_smuggle_57 rfl ?_
    refine ev_iload_n dModel_smuggle_58 rfl ?_
    refine ev_callV [.int x2] [.int ((16 * r7)), .ref ((o + 25))] (B' := (0, 0)) (B'' := (0, 0)) hok mmModel_townAt mk_Model_494 (ci := 12) rfl rfl (woModel hw) rfl (Nat.le_of_ble_eq_true rfl) rfl (Nat.le_of_ble_eq_true rfl) dModel_smuggle_59 rfl (by decide) H (fun v τ p10 => ?_)
    obtain ⟨r11, I12, L13, rfl, rfl, H⟩ := p10
    refine ev_iadd dModel_smuggle_62 ?_
    obtain ⟨h14, H⟩ := H
    refine ev_iald hok (waModel_36 hw) h14 dModel_smuggle_63 ?_
    refine ev_istore_n dModel_smuggle_64 (by decide) ?_
    refine ev_aload_n dModel_smuggle_65 rfl ?_
    refine ev_getR hok fk_Model_254 (woModel hw) (fun _ _ _ => rfl) (wrModel_29 hw) dModel_smuggle_66 ?_
    refine ev_iconst (5) dModel_smuggle_69 (by decide) ?_
    refine ev_aload_n dModel_smuggle_70 rfl ?_
    refine ev_getI hok fk_Model_147 (woModel hw) (fun _ _ _ => rfl) dModel_smuggle_71 ?_
    refine ev_imul dModel_smuggle_74 ?_
    refine ev_iload_n dModel_smuggle_75 rfl ?_
    refine ev_iadd dModel_smuggle_76 ?_
    obtain ⟨h15, H⟩ := H
    refine ev_iald hok (waModel_29 hw) h15 dModel_smuggle_77 ?_
    refine ev_aload_n dModel_smuggle_78 rfl ?_
    refine ev_getR hok fk_Model_254 (woModel hw) (fun _ _ _ => rfl) (wrModel_29 hw) dModel_smuggle_79 ?_
    refine ev_iconst (5) dModel_smuggle_82 (by decide) ?_
    refine ev_aload_n dModel_smuggle_83 rfl ?_
    refine ev_getI hok fk_Model_147 (woModel hw) (fun _ _ _ => rfl) dModel_smuggle_84 ?_
    refine ev_imul dModel_smuggle_87 ?_
    refine ev_iload_n dModel_smuggle_88 rfl ?_
    refine ev_iadd dModel_smuggle_89 ?_
    obtain ⟨h16, H⟩ := H
    refine ev_iald hok (waModel_29 hw) h16 dModel_smuggle_90 ?_
    refine ev_icmp_eq 142 dModel_smuggle_91 (by decide) (fun c17 => ?_) (fun c17 => ?_)
    · have H := H.1 c17
      exact ev_sub [(0, .ref o), (1, .int x1), (2, .int x2), (3, .int ((I12 (o + 25) (((16 * r7) + r11) : Int32).toNatClampNeg))), (4, .int x4)] rfl (sModel_smuggle_142_8 o n sh Rf I12 L13 post x1 x2 (I12 (o + 25) (((16 * r7) + r11) : Int32).toNatClampNeg) x4 hok hw H)
    · have H := H.2 c17
      refine ev_iload_n dModel_smuggle_94 rfl ?_
      refine ev_ldcw (1000000) dModel_smuggle_95 (q_t7 92 (by decide +kernel) rfl) ?_
      refine ev_icmp_lt 104 dModel_smuggle_98 (by decide) (fun c18 => ?_) (fun c18 => ?_)
      · have H := H.1 c18
        refine ev_aload_n dModel_smuggle_104 rfl ?_
        refine ev_iload_n dModel_smuggle_105 rfl ?_
        refine ev_callV [.int x2] [] (B' := (0, 0)) (B'' := (0, 0)) hok mmModel_priceOf mk_Model_497 (ci := 12) rfl rfl (woModel hw) rfl (Nat.le_of_ble_eq_true rfl) rfl (Nat.le_of_ble_eq_true rfl) dModel_smuggle_106 rfl (by decide) H (fun v τ p19 => ?_)
        obtain ⟨r20, I21, L22, rfl, rfl, H⟩ := p19
        refine ev_aload_n dModel_smuggle_109 rfl ?_
        refine ev_iload_n dModel_smuggle_110 rfl ?_
        refine ev_callV [.int x1] [.int r20] (B' := (0, 0)) (B'' := (0, 0)) hok mmModel_priceOf mk_Model_497 (ci := 12) rfl rfl (woModel hw) rfl (Nat.le_of_ble_eq_true rfl) rfl (Nat.le_of_ble_eq_true rfl) dModel_smuggle_111 rfl (by decide) H (fun v τ p23 => ?_)
        obtain ⟨r24, I25, L26, rfl, rfl, H⟩ := p23
        refine ev_isub dModel_smuggle_114 ?_
        refine ev_istore dModel_smuggle_115 (by decide) ?_
        refine ev_iload dModel_smuggle_117 rfl ?_
        refine ev_iload_n dModel_smuggle_119 rfl ?_
        refine ev_icmp_le 129 dModel_smuggle_120 (by decide) (fun c27 => ?_) (fun c27 => ?_)
        · have H := H.1 c27
          exact ev_sub [(0, .ref o), (1, .int x1), (2, .int x2), (3, .int ((I12 (o + 25) (((16 * r7) + r11) : Int32).toNatClampNeg))), (4, .int ((r20 - r24)))] rfl (sModel_smuggle_129 o n sh Rf I25 L26 post x1 x2 (I12 (o + 25) (((16 * r7) + r11) : Int32).toNatClampNeg) (r20 - r24) hok hw H)
        · have H := H.2 c27
          refine ev_aload_n dModel_smuggle_123 rfl ?_
          refine ev_iload_n dModel_smuggle_124 rfl ?_
          refine ev_iload_n dModel_smuggle_125 rfl ?_
          refine ev_callV [.int x1, .int x2] [] (B' := (0, 0)) (B'' := (0, 0)) hok mmModel_cross mk_Model_697 (ci := 12) rfl rfl (woModel hw) rfl (Nat.le_of_ble_eq_true rfl) rfl (Nat.le_of_ble_eq_true rfl) dModel_smuggle_126 rfl (by decide) H (fun v τ p28 => ?_)
          obtain ⟨I30, L31, rfl, rfl, H⟩ := p28
          exact ev_sub [(0, .ref o), (1, .int x1), (2, .int x2), (3, .int ((I12 (o + 25) (((16 * r7) + r11) : Int32).toNatClampNeg))), (4, .int ((r20 - r24)))] rfl (sModel_smuggle_129 o n sh Rf I30 L31 post x1 x2 (I12 (o + 25) (((16 * r7) + r11) : Int32).toNatClampNeg) (r20 - r24) hok hw H)
      · have H := H.2 c18
        refine ev_goto 142 dModel_smuggle_101 (by decide) ?_
        exact ev_sub [(0, .ref o), (1, .int x1), (2, .int x2), (3, .int ((I12 (o + 25) (((16 * r7) + r11) : Int32).toNatClampNeg))), (4, .int x4)] rfl (sModel_smuggle_142_8 o n sh Rf I12 L13 post x1 x2 (I12 (o + 25) (((16 * r7) + r11) : Int32).toNatClampNeg) x4 hok hw H)
def fModel_smuggle_25 (D : va_G) (cA : FieldType → ClassId) (b : Nat) (E : State → Prop) (o : Nat) (n : Nat) (sh : Nat → qC) (Rf : Nat → Nat → Option Nat) (I : Nat → Nat → Int32) (L : Nat → Nat → Int64) (post : Option Value → qS → Prop) (x1 : Int32) : Prop :=
  Ev (qGG D cA b E) mModel_towns 0 (0, 0) 0 (lv_args 0 [.ref o]) [] (n, sh, Rf, I, L) (fun v τ => ∃ (r2 : Int32) (I3 : Nat → Nat → Int32) (L4 : Nat → Nat → Int64), v = some (.int r2) ∧ τ = (n, sh, Rf, I3, L4) ∧ ((r2 ≤ x1 → post none (n, sh, Rf, I3, L4)) ∧ (¬ r2 ≤ x1 → Ev (qGG D cA b E) mModel_smuggle 2 (0, 0) 37 [(0, .ref o), (1, .int x1), (2, .int ((x1 + 1)))] [] (n, sh, Rf, I3, L4) post)))
set_option maxHeartbeats 4000000 in
set_option maxRecDepth 20000 in
theorem sModel_smuggle_25 {D : va_G} {cA : FieldType → ClassId} {b : Nat} {E : State → Prop} (o : Nat) (n : Nat) (sh : Nat → qC) (Rf : Nat → Nat → Option Nat) (I : Nat → Nat → Int32) (L : Nat → Nat → Int64) (post : Option Value → qS → Prop) (x1 : Int32) (hok : q_ok (qGG D cA b E)) (hw : WfModel (qGG D cA b E) n sh Rf o) (H : fModel_smuggle_25 D cA b E o n sh Rf I L post x1) : Ev (qGG D cA b E) mModel_smuggle 2 (0, 0) 25 [(0, .ref o), (1, .int x1)] [] (n, sh, Rf, I, L) post := by
  unfold fModel_smuggle_25 at H
  refine ev_iload_n dModel_smuggle_25 rfl ?_
  refine ev_aload_n dModel_smuggle_26 rfl ?_
  refine ev_callV [] [.int x1] (B' := (0, 0)) (B'' := (0, 0)) hok mmModel_towns mk_Model_488 (ci := 12) rfl rfl (woModel hw) rfl (Nat.le_of_ble_eq_true rfl) rfl (Nat.le_of_ble_eq_true rfl) dModel_smuggle_27 rfl (by decide) H (fun v τ p1 => ?_)
  obtain ⟨r2, I3, L4, rfl, rfl, H⟩ := p1
  refine ev_icmp_ge 154 dModel_smuggle_30 (by decide) (fun c5 => ?_) (fun c5 => ?_)
  · have H := H.1 c5
    exact ev_vret rfl dModel_smuggle_154 H
  · have H := H.2 c5
    refine ev_iload_n dModel_smuggle_33 rfl ?_
    refine ev_iconst (1) dModel_smuggle_34 (by decide) ?_
    refine ev_iadd dModel_smuggle_35 ?_
    refine ev_istore_n dModel_smuggle_36 (by decide) ?_
    exact ev_sub [(0, .ref o), (1, .int x1), (2, .int ((x1 + 1)))] rfl H
def fModel_smuggle_25_4 (D : va_G) (cA : FieldType → ClassId) (b : Nat) (E : State → Prop) (o : Nat) (n : Nat) (sh : Nat → qC) (Rf : Nat → Nat → Option Nat) (I : Nat → Nat → Int32) (L : Nat → Nat → Int64) (post : Option Value → qS → Prop) (x1 : Int32) (x2 : Int32) : Prop :=
  Ev (qGG D cA b E) mModel_towns 0 (0, 0) 0 (lv_args 0 [.ref o]) [] (n, sh, Rf, I, L) (fun v τ => ∃ (r2 : Int32) (I3 : Nat → Nat → Int32) (L4 : Nat → Nat → Int64), v = some (.int r2) ∧ τ = (n, sh, Rf, I3, L4) ∧ ((r2 ≤ x1 → post none (n, sh, Rf, I3, L4)) ∧ (¬ r2 ≤ x1 → Ev (qGG D cA b E) mModel_smuggle 2 (0, 0) 37 [(0, .ref o), (1, .int x1), (2, .int ((x1 + 1)))] [] (n, sh, Rf, I3, L4) post)))
set_option maxHeartbeats 4000000 in
set_option maxRecDepth 20000 in
theorem sModel_smuggle_25_4 {D : va_G} {cA : FieldType → ClassId} {b : Nat} {E : State → Prop} (o : Nat) (n : Nat) (sh : Nat → qC) (Rf : Nat → Nat → Option Nat) (I : Nat → Nat → Int32) (L : Nat → Nat → Int64) (post : Option Value → qS → Prop) (x1 : Int32) (x2 : Int32) (hok : q_ok (qGG D cA b E)) (hw : WfModel (qGG D cA b E) n sh Rf o) (H : fModel_smuggle_25_4 D cA b E o n sh Rf I L post x1 x2) : Ev (qGG D cA b E) mModel_smuggle 2 (0, 0) 25 [(0, .ref o), (1, .int x1), (2, .int x2)] [] (n, sh, Rf, I, L) post := by
  unfold fModel_smuggle_25_4 at H
  refine ev_iload_n dModel_smuggle_25 rfl ?_
  refine ev_aload_n dModel_smuggle_26 rfl ?_
  refine ev_callV [] [.int x1] (B' := (0, 0)) (B'' := (0, 0)) hok mmModel_towns mk_Model_488 (ci := 12) rfl rfl (woModel hw) rfl (Nat.le_of_ble_eq_true rfl) rfl (Nat.le_of_ble_eq_true rfl) dModel_smuggle_27 rfl (by decide) H (fun v τ p1 => ?_)
  obtain ⟨r2, I3, L4, rfl, rfl, H⟩ := p1
  refine ev_icmp_ge 154 dModel_smuggle_30 (by decide) (fun c5 => ?_) (fun c5 => ?_)
  · have H := H.1 c5
    exact ev_vret rfl dModel_smuggle_154 H
  · have H := H.2 c5
    refine ev_iload_n dModel_smuggle_33 rfl ?_
    refine ev_iconst (1) dModel_smuggle_34 (by decide) ?_
    refine ev_iadd dModel_smuggle_35 ?_
    refine ev_istore_n dModel_smuggle_36 (by decide) ?_
    exact ev_sub [(0, .ref o), (1, .int x1), (2, .int ((x1 + 1)))] rfl H
def fModel_smuggle_25_9 (D : va_G) (cA : FieldType → ClassId) (b : Nat) (E : State → Prop) (o : Nat) (n : Nat) (sh : Nat → qC) (Rf : Nat → Nat → Option Nat) (I : Nat → Nat → Int32) (L : Nat → Nat → Int64) (post : Option Value → qS → Prop) (x1 : Int32) (x2 : Int32) (x3 : Int32) : Prop :=
  Ev (qGG D cA b E) mModel_towns 0 (0, 0) 0 (lv_args 0 [.ref o]) [] (n, sh, Rf, I, L) (fun v τ => ∃ (r2 : Int32) (I3 : Nat → Nat → Int32) (L4 : Nat → Nat → Int64), v = some (.int r2) ∧ τ = (n, sh, Rf, I3, L4) ∧ ((r2 ≤ x1 → post none (n, sh, Rf, I3, L4)) ∧ (¬ r2 ≤ x1 → Ev (qGG D cA b E) mModel_smuggle 2 (0, 0) 37 [(0, .ref o), (1, .int x1), (2, .int ((x1 + 1))), (3, .int x3)] [] (n, sh, Rf, I3, L4) post)))
set_option maxHeartbeats 4000000 in
set_option maxRecDepth 20000 in
theorem sModel_smuggle_25_9 {D : va_G} {cA : FieldType → ClassId} {b : Nat} {E : State → Prop} (o : Nat) (n : Nat) (sh : Nat → qC) (Rf : Nat → Nat → Option Nat) (I : Nat → Nat → Int32) (L : Nat → Nat → Int64) (post : Option Value → qS → Prop) (x1 : Int32) (x2 : Int32) (x3 : Int32) (hok : q_ok (qGG D cA b E)) (hw : WfModel (qGG D cA b E) n sh Rf o) (H : fModel_smuggle_25_9 D cA b E o n sh Rf I L post x1 x2 x3) : Ev (qGG D cA b E) mModel_smuggle 2 (0, 0) 25 [(0, .ref o), (1, .int x1), (2, .int x2), (3, .int x3)] [] (n, sh, Rf, I, L) post := by
  unfold fModel_smuggle_25_9 at H
  refine ev_iload_n dModel_smuggle_25 rfl ?_
  refine ev_aload_n dModel_smuggle_26 rfl ?_
  refine ev_callV [] [.int x1] (B' := (0, 0)) (B'' := (0, 0)) hok mmModel_towns mk_Model_488 (ci := 12) rfl rfl (woModel hw) rfl (Nat.le_of_ble_eq_true rfl) rfl (Nat.le_of_ble_eq_true rfl) dModel_smuggle_27 rfl (by decide) H (fun v τ p1 => ?_)
  obtain ⟨r2, I3, L4, rfl, rfl, H⟩ := p1
  refine ev_icmp_ge 154 dModel_smuggle_30 (by decide) (fun c5 => ?_) (fun c5 => ?_)
  · have H := H.1 c5
    exact ev_vret rfl dModel_smuggle_154 H
  · have H := H.2 c5
    refine ev_iload_n dModel_smuggle_33 rfl ?_
    refine ev_iconst (1) dModel_smuggle_34 (by decide) ?_
    refine ev_iadd dModel_smuggle_35 ?_
    refine ev_istore_n dModel_smuggle_36 (by decide) ?_
    exact ev_sub [(0, .ref o), (1, .int x1), (2, .int ((x1 + 1))), (3, .int x3)] rfl H
def fModel_smuggle_25_11 (D : va_G) (cA : FieldType → ClassId) (b : Nat) (E : State → Prop) (o : Nat) (n : Nat) (sh : Nat → qC) (Rf : Nat → Nat → Option Nat) (I : Nat → Nat → Int32) (L : Nat → Nat → Int64) (post : Option Value → qS → Prop) (x1 : Int32) (x2 : Int32) (x3 : Int32) (x4 : Int32) : Prop :=
  Ev (qGG D cA b E) mModel_towns 0 (0, 0) 0 (lv_args 0 [.ref o]) [] (n, sh, Rf, I, L) (fun v τ => ∃ (r2 : Int32) (I3 : Nat → Nat → Int32) (L4 : Nat → Nat → Int64), v = some (.int r2) ∧ τ = (n, sh, Rf, I3, L4) ∧ ((r2 ≤ x1 → post none (n, sh, Rf, I3, L4)) ∧ (¬ r2 ≤ x1 → Ev (qGG D cA b E) mModel_smuggle 2 (0, 0) 37 [(0, .ref o), (1, .int x1), (2, .int ((x1 + 1))), (3, .int x3), (4, .int x4)] [] (n, sh, Rf, I3, L4) post)))
set_option maxHeartbeats 4000000 in
set_option maxRecDepth 20000 in
theorem sModel_smuggle_25_11 {D : va_G} {cA : FieldType → ClassId} {b : Nat} {E : State → Prop} (o : Nat) (n : Nat) (sh : Nat → qC) (Rf : Nat → Nat → Option Nat) (I : Nat → Nat → Int32) (L : Nat → Nat → Int64) (post : Option Value → qS → Prop) (x1 : Int32) (x2 : Int32) (x3 : Int32) (x4 : Int32) (hok : q_ok (qGG D cA b E)) (hw : WfModel (qGG D cA b E) n sh Rf o) (H : fModel_smuggle_25_11 D cA b E o n sh Rf I L post x1 x2 x3 x4) : Ev (qGG D cA b E) mModel_smuggle 2 (0, 0) 25 [(0, .ref o), (1, .int x1), (2, .int x2), (3, .int x3), (4, .int x4)] [] (n, sh, Rf, I, L) post := by
  unfold fModel_smuggle_25_11 at H
  refine ev_iload_n dModel_smuggle_25 rfl ?_
  refine ev_aload_n dModel_smuggle_26 rfl ?_
  refine ev_callV [] [.int x1] (B' := (0, 0)) (B'' := (0, 0)) hok mmModel_towns mk_Model_488 (ci := 12) rfl rfl (woModel hw) rfl (Nat.le_of_ble_eq_true rfl) rfl (Nat.le_of_ble_eq_true rfl) dModel_smuggle_27 rfl (by decide) H (fun v τ p1 => ?_)
  obtain ⟨r2, I3, L4, rfl, rfl, H⟩ := p1
  refine ev_icmp_ge 154 dModel_smuggle_30 (by decide) (fun c5 => ?_) (fun c5 => ?_)
  · have H := H.1 c5
    exact ev_vret rfl dModel_smuggle_154 H
  · have H := H.2 c5
    refine ev_iload_n dModel_smuggle_33 rfl ?_
    refine ev_iconst (1) dModel_smuggle_34 (by decide) ?_
    refine ev_iadd dModel_smuggle_35 ?_
    refine ev_istore_n dModel_smuggle_36 (by decide) ?_
    exact ev_sub [(0, .ref o), (1, .int x1), (2, .int ((x1 + 1))), (3, .int x3), (4, .int x4)] rfl H
def fModel_smuggle_2 (D : va_G) (cA : FieldType → ClassId) (b : Nat) (E : State → Prop) (o : Nat) (n : Nat) (sh : Nat → qC) (Rf : Nat → Nat → Option Nat) (I : Nat → Nat → Int32) (L : Nat → Nat → Int64) (post : Option Value → qS → Prop) (x1 : Int32) : Prop :=
  Ev (qGG D cA b E) mModel_towns 0 (0, 0) 0 (lv_args 0 [.ref o]) [] (n, sh, Rf, I, L) (fun v τ => ∃ (r2 : Int32) (I3 : Nat → Nat → Int32) (L4 : Nat → Nat → Int64), v = some (.int r2) ∧ τ = (n, sh, Rf, I3, L4) ∧ ((r2 ≤ x1 → Ev (qGG D cA b E) mModel_smuggle 2 (0, 0) 25 [(0, .ref o), (1, .int 0)] [] (n, sh, Rf, I3, L4) post) ∧ (¬ r2 ≤ x1 → vp_in x1 5 ∧ ∀ I6 : Nat → Nat → Int32, q_u I3 (o + 47) (x1 : Int32).toNatClampNeg 0 = I6 → Ev (qGG D cA b E) mModel_smuggle 2 (0, 0) 2 [(0, .ref o), (1, .int ((x1 + Int32.ofInt 1)))] [] (n, sh, Rf, I6, L4) post)))
set_option maxHeartbeats 4000000 in
set_option maxRecDepth 20000 in
theorem sModel_smuggle_2 {D : va_G} {cA : FieldType → ClassId} {b : Nat} {E : State → Prop} (o : Nat) (n : Nat) (sh : Nat → qC) (Rf : Nat → Nat → Option Nat) (I : Nat → Nat → Int32) (L : Nat → Nat → Int64) (post : Option Value → qS → Prop) (x1 : Int32) (hok : q_ok (qGG D cA b E)) (hw : WfModel (qGG D cA b E) n sh Rf o) (H : fModel_smuggle_2 D cA b E o n sh Rf I L post x1) : Ev (qGG D cA b E) mModel_smuggle 2 (0, 0) 2 [(0, .ref o), (1, .int x1)] [] (n, sh, Rf, I, L) post := by
  unfold fModel_smuggle_2 at H
  refine ev_iload_n dModel_smuggle_2 rfl ?_
  refine ev_aload_n dModel_smuggle_3 rfl ?_
  refine ev_callV [] [.int x1] (B' := (0, 0)) (B'' := (0, 0)) hok mmModel_towns mk_Model_488 (ci := 12) rfl rfl (woModel hw) rfl (Nat.le_of_ble_eq_true rfl) rfl (Nat.le_of_ble_eq_true rfl) dModel_smuggle_4 rfl (by decide) H (fun v τ p1 => ?_)
  obtain ⟨r2, I3, L4, rfl, rfl, H⟩ := p1
  refine ev_icmp_ge 23 dModel_smuggle_7 (by decide) (fun c5 => ?_) (fun c5 => ?_)
  · have H := H.1 c5
    refine ev_iconst (0) dModel_smuggle_23 (by decide) ?_
    refine ev_istore_n dModel_smuggle_24 (by decide) ?_
    exact ev_sub [(0, .ref o), (1, .int 0)] rfl H
  · have H := H.2 c5
    refine ev_aload_n dModel_smuggle_10 rfl ?_
    refine ev_getR hok fk_Model_694 (woModel hw) (fun _ _ _ => rfl) (wrModel_80 hw) dModel_smuggle_11 ?_
    refine ev_iload_n dModel_smuggle_14 rfl ?_
    refine ev_iconst (0) dModel_smuggle_15 (by decide) ?_
    obtain ⟨h7, H⟩ := H
    refine ev_iast hok (waModel_80 hw) h7 dModel_smuggle_16 ?_
    generalize eI6 : q_u I3 (o + 47) (x1 : Int32).toNatClampNeg 0 = I6
    have H := H I6 eI6
    refine ev_iinc dModel_smuggle_17 rfl (by decide) ?_
    refine ev_goto 2 dModel_smuggle_20 (by decide) ?_
    exact ev_sub [(0, .ref o), (1, .int ((x1 + Int32.ofInt 1)))] rfl H
def fModel_smuggle_0 (D : va_G) (cA : FieldType → ClassId) (b : Nat) (E : State → Prop) (o : Nat) (n : Nat) (sh : Nat → qC) (Rf : Nat → Nat → Option Nat) (I : Nat → Nat → Int32) (L : Nat → Nat → Int64) (post : Option Value → qS → Prop)  : Prop :=
  Ev (qGG D cA b E) mModel_smuggle 2 (0, 0) 2 [(0, .ref o), (1, .int 0)] [] (n, sh, Rf, I, L) post
set_option maxHeartbeats 4000000 in
set_option maxRecDepth 20000 in
theorem sModel_smuggle_0 {D : va_G} {cA : FieldType → ClassId} {b : Nat} {E : State → Prop} (o : Nat) (n : Nat) (sh : Nat → qC) (Rf : Nat → Nat → Option Nat) (I : Nat → Nat → Int32) (L : Nat → Nat → Int64) (post : Option Value → qS → Prop)  (hok : q_ok (qGG D cA b E)) (hw : WfModel (qGG D cA b E) n sh Rf o) (H : fModel_smuggle_0 D cA b E o n sh Rf I L post ) : Ev (qGG D cA b E) mModel_smuggle 2 (0, 0) 0 [(0, .ref o)] [] (n, sh, Rf, I, L) post := by
  unfold fModel_smuggle_0 at H
  refine ev_iconst (0) dModel_smuggle_0 (by decide) ?_
  refine ev_istore_n dModel_smuggle_1 (by decide) ?_
  exact ev_sub [(0, .ref o), (1, .int 0)] rfl H
def fModel_waitingAll_4 (D : va_G) (cA : FieldType → ClassId) (b : Nat) (E : State → Prop) (o : Nat) (n : Nat) (sh : Nat → qC) (Rf : Nat → Nat → Option Nat) (I : Nat → Nat → Int32) (L : Nat → Nat → Int64) (post : Option Value → qS → Prop) (x1 : Int32) (x2 : Int32) : Prop :=
  Ev (qGG D cA b E) mModel_pans 0 (0, 0) 0 (lv_args 0 [.ref o]) [] (n, sh, Rf, I, L) (fun v τ => ∃ (r2 : Int32) (I3 : Nat → Nat → Int32) (L4 : Nat → Nat → Int64), v = some (.int r2) ∧ τ = (n, sh, Rf, I3, L4) ∧ ((r2 ≤ x2 → post (some (.int x1)) (n, sh, Rf, I3, L4)) ∧ (¬ r2 ≤ x2 → Ev (qGG D cA b E) mModel_waitingAt 1 (0, 0) 0 (lv_args 0 [.ref o, .int x2]) [] (n, sh, Rf, I3, L4) (fun v τ => ∃ (r7 : Int32) (I8 : Nat → Nat → Int32) (L9 : Nat → Nat → Int64), v = some (.int r7) ∧ τ = (n, sh, Rf, I8, L9) ∧ Ev (qGG D cA b E) mModel_waitingAll 2 (0, 0) 4 [(0, .ref o), (1, .int ((x1 + r7))), (2, .int ((x2 + Int32.ofInt 1)))] [] (n, sh, Rf, I8, L9) post))))
set_option maxHeartbeats 4000000 in
set_option maxRecDepth 20000 in
theorem sModel_waitingAll_4 {D : va_G} {cA : FieldType → ClassId} {b : Nat} {E : State → Prop} (o : Nat) (n : Nat) (sh : Nat → qC) (Rf : Nat → Nat → Option Nat) (I : Nat → Nat → Int32) (L : Nat → Nat → Int64) (post : Option Value → qS → Prop) (x1 : Int32) (x2 : Int32) (hok : q_ok (qGG D cA b E)) (hw : WfModel (qGG D cA b E) n sh Rf o) (H : fModel_waitingAll_4 D cA b E o n sh Rf I L post x1 x2) : Ev (qGG D cA b E) mModel_waitingAll 2 (0, 0) 4 [(0, .ref o), (1, .int x1), (2, .int x2)] [] (n, sh, Rf, I, L) post := by
  unfold fModel_waitingAll_4 at H
  refine ev_iload_n dModel_waitingAll_4 rfl ?_
  refine ev_aload_n dModel_waitingAll_5 rfl ?_
  refine ev_callV [] [.int x2] (B' := (0, 0)) (B'' := (0, 0)) hok mmModel_pans mk_Model_433 (ci := 12) rfl rfl (woModel hw) rfl (Nat.le_of_ble_eq_true rfl) rfl (Nat.le_of_ble_eq_true rfl) dModel_waitingAll_6 rfl (by decide) H (fun v τ p1 => ?_)
  obtain ⟨r2, I3, L4, rfl, rfl, H⟩ := p1
  refine ev_icmp_ge 26 dModel_waitingAll_9 (by decide) (fun c5 => ?_) (fun c5 => ?_)
  · have H := H.1 c5
    refine ev_iload_n dModel_waitingAll_26 rfl ?_
    exact ev_iret rfl dModel_waitingAll_27 H
  · have H := H.2 c5
    refine ev_iload_n dModel_waitingAll_12 rfl ?_
    refine ev_aload_n dModel_waitingAll_13 rfl ?_
    refine ev_iload_n dModel_waitingAll_14 rfl ?_
    refine ev_callV [.int x2] [.int x1] (B' := (0, 0)) (B'' := (0, 0)) hok mmModel_waitingAt mk_Model_466 (ci := 12) rfl rfl (woModel hw) rfl (Nat.le_of_ble_eq_true rfl) rfl (Nat.le_of_ble_eq_true rfl) dModel_waitingAll_15 rfl (by decide) H (fun v τ p6 => ?_)
    obtain ⟨r7, I8, L9, rfl, rfl, H⟩ := p6
    refine ev_iadd dModel_waitingAll_18 ?_
    refine ev_istore_n dModel_waitingAll_19 (by decide) ?_
    refine ev_iinc dModel_waitingAll_20 rfl (by decide) ?_
    refine ev_goto 4 dModel_waitingAll_23 (by decide) ?_
    exact ev_sub [(0, .ref o), (1, .int ((x1 + r7))), (2, .int ((x2 + Int32.ofInt 1)))] rfl H
def fModel_waitingAll_0 (D : va_G) (cA : FieldType → ClassId) (b : Nat) (E : State → Prop) (o : Nat) (n : Nat) (sh : Nat → qC) (Rf : Nat → Nat → Option Nat) (I : Nat → Nat → Int32) (L : Nat → Nat → Int64) (post : Option Value → qS → Prop)  : Prop :=
  Ev (qGG D cA b E) mModel_waitingAll 2 (0, 0) 4 [(0, .ref o), (1, .int 0), (2, .int 0)] [] (n, sh, Rf, I, L) post
set_option maxHeartbeats 4000000 in
set_option maxRecDepth 20000 in
theorem sModel_waitingAll_0 {D : va_G} {cA : FieldType → ClassId} {b : Nat} {E : State → Prop} (o : Nat) (n : Nat) (sh : Nat → qC) (Rf : Nat → Nat → Option Nat) (I : Nat → Nat → Int32) (L : Nat → Nat → Int64) (post : Option Value → qS → Prop)  (hok : q_ok (qGG D cA b E)) (hw : WfModel (qGG D cA b E) n sh Rf o) (H : fModel_waitingAll_0 D cA b E o n sh Rf I L post ) : Ev (qGG D cA b E) mModel_waitingAll 2 (0, 0) 0 [(0, .ref o)] [] (n, sh, Rf, I, L) post := by
  unfold fModel_waitingAll_0 at H
  refine ev_iconst (0) dModel_waitingAll_0 (by decide) ?_
  refine ev_istore_n dModel_waitingAll_1 (by decide) ?_
  refine ev_iconst (0) dModel_waitingAll_2 (by decide) ?_
  refine ev_istore_n dModel_waitingAll_3 (by decide) ?_
  exact ev_sub [(0, .ref o), (1, .int 0), (2, .int 0)] rfl H
def fModel_weather_0 (D : va_G) (cA : FieldType → ClassId) (b : Nat) (E : State → Prop) (o : Nat) (n : Nat) (sh : Nat → qC) (Rf : Nat → Nat → Option Nat) (I : Nat → Nat → Int32) (L : Nat → Nat → Int64) (post : Option Value → qS → Prop) (x1 : Int32) (x2 : Int32) (x3 : Int32) : Prop :=
  Ev (qGG D cA b E) mModel_pans 0 (0, 0) 0 (lv_args 0 [.ref o]) [] (n, sh, Rf, I, L) (fun v τ => ∃ (r2 : Int32) (I3 : Nat → Nat → Int32) (L4 : Nat → Nat → Int64), v = some (.int r2) ∧ τ = (n, sh, Rf, I3, L4) ∧ Ev (qGG D cA b E) mModel_isIn 0 (0, 0) 0 (lv_args 0 [.int x1, .int 0, .int ((r2 - 1))]) [] (n, sh, Rf, I3, L4) (fun v τ => ∃ (r6 : Int32) (I7 : Nat → Nat → Int32) (L8 : Nat → Nat → Int64), v = some (.int r6) ∧ τ = (n, sh, Rf, I7, L8) ∧ ((r6 = 0 → post (some (.int ((-1)))) (n, sh, Rf, I7, L8)) ∧ (¬ r6 = 0 → Ev (qGG D cA b E) mModel_isMonth 1 (0, 0) 0 (lv_args 0 [.int x2]) [] (n, sh, Rf, I7, L8) (fun v τ => ∃ (r11 : Int32) (I12 : Nat → Nat → Int32) (L13 : Nat → Nat → Int64), v = some (.int r11) ∧ τ = (n, sh, Rf, I12, L13) ∧ ((r11 = 0 → post (some (.int ((-1)))) (n, sh, Rf, I12, L13)) ∧ (¬ r11 = 0 → Ev (qGG D cA b E) mModel_isIn 0 (0, 0) 0 (lv_args 0 [.int x3, .int 0, .int 300]) [] (n, sh, Rf, I12, L13) (fun v τ => ∃ (r16 : Int32) (I17 : Nat → Nat → Int32) (L18 : Nat → Nat → Int64), v = some (.int r16) ∧ τ = (n, sh, Rf, I17, L18) ∧ ((r16 = 0 → post (some (.int ((-1)))) (n, sh, Rf, I17, L18)) ∧ (¬ r16 = 0 → Ev (qGG D cA b E) mModel_fact 0 (0, 0) 0 (lv_args 0 [.ref o, .int 0, .int x1, .int x2, .int x3]) [] (n, sh, Rf, I17, L18) (fun v τ => ∃ (r21 : Int32) (I22 : Nat → Nat → Int32) (L23 : Nat → Nat → Int64), v = some (.int r21) ∧ τ = (n, sh, Rf, I22, L23) ∧ post (some (.int r21)) (n, sh, Rf, I22, L23))))))))))))
set_option maxHeartbeats 4000000 in
set_option maxRecDepth 20000 in
theorem sModel_weather_0 {D : va_G} {cA : FieldType → ClassId} {b : Nat} {E : State → Prop} (o : Nat) (n : Nat) (sh : Nat → qC) (Rf : Nat → Nat → Option Nat) (I : Nat → Nat → Int32) (L : Nat → Nat → Int64) (post : Option Value → qS → Prop) (x1 : Int32) (x2 : Int32) (x3 : Int32) (hok : q_ok (qGG D cA b E)) (hw : WfModel (qGG D cA b E) n sh Rf o) (H : fModel_weather_0 D cA b E o n sh Rf I L post x1 x2 x3) : Ev (qGG D cA b E) mModel_weather 2 (0, 0) 0 [(0, .ref o), (1, .int x1), (2, .int x2), (3, .int x3)] [] (n, sh, Rf, I, L) post := by
  unfold fModel_weather_0 at H
  refine ev_iload_n dModel_weather_0 rfl ?_
  refine ev_iconst (0) dModel_weather_1 (by decide) ?_
  refine ev_aload_n dModel_weather_2 rfl ?_
  refine ev_callV [] [.int 0, .int x1] (B' := (0, 0)) (B'' := (0, 0)) hok mmModel_pans mk_Model_433 (ci := 12) rfl rfl (woModel hw) rfl (Nat.le_of_ble_eq_true rfl) rfl (Nat.le_of_ble_eq_true rfl) dModel_weather_3 rfl (by decide) H (fun v τ p1 => ?_)
  obtain ⟨r2, I3, L4, rfl, rfl, H⟩ := p1
  refine ev_iconst (1) dModel_weather_6 (by decide) ?_
  refine ev_isub dModel_weather_7 ?_
  refine ev_callS [.int x1, .int 0, .int ((r2 - 1))] [] (B' := (0, 0)) (B'' := (0, 0)) hok mmModel_isIn mk_Model_393 rfl (Nat.le_of_ble_eq_true rfl) rfl (Nat.le_of_ble_eq_true rfl) dModel_weather_8 rfl (by decide) H (fun v τ p5 => ?_)
  obtain ⟨r6, I7, L8, rfl, rfl, H⟩ := p5
  refine ev_if_eq 43 dModel_weather_11 (by decide) (fun c9 => ?_) (fun c9 => ?_)
  · have H := H.1 c9
    refine ev_iconst (-1) dModel_weather_43 (by decide) ?_
    exact ev_iret rfl dModel_weather_44 H
  · have H := H.2 c9
    refine ev_iload_n dModel_weather_14 rfl ?_
    refine ev_callS [.int x2] [] (B' := (0, 0)) (B'' := (0, 0)) hok mmModel_isMonth mk_Model_436 rfl (Nat.le_of_ble_eq_true rfl) rfl (Nat.le_of_ble_eq_true rfl) dModel_weather_15 rfl (by decide) H (fun v τ p10 => ?_)
    obtain ⟨r11, I12, L13, rfl, rfl, H⟩ := p10
    refine ev_if_eq 43 dModel_weather_18 (by decide) (fun c14 => ?_) (fun c14 => ?_)
    · have H := H.1 c14
      refine ev_iconst (-1) dModel_weather_43 (by decide) ?_
      exact ev_iret rfl dModel_weather_44 H
    · have H := H.2 c14
      refine ev_iload_n dModel_weather_21 rfl ?_
      refine ev_iconst (0) dModel_weather_22 (by decide) ?_
      refine ev_sipush (300) dModel_weather_23 (by decide) ?_
      refine ev_callS [.int x3, .int 0, .int 300] [] (B' := (0, 0)) (B'' := (0, 0)) hok mmModel_isIn mk_Model_393 rfl (Nat.le_of_ble_eq_true rfl) rfl (Nat.le_of_ble_eq_true rfl) dModel_weather_26 rfl (by decide) H (fun v τ p15 => ?_)
      obtain ⟨r16, I17, L18, rfl, rfl, H⟩ := p15
      refine ev_if_eq 43 dModel_weather_29 (by decide) (fun c19 => ?_) (fun c19 => ?_)
      · have H := H.1 c19
        refine ev_iconst (-1) dModel_weather_43 (by decide) ?_
        exact ev_iret rfl dModel_weather_44 H
      · have H := H.2 c19
        refine ev_aload_n dModel_weather_32 rfl ?_
        refine ev_iconst (0) dModel_weather_33 (by decide) ?_
        refine ev_iload_n dModel_weather_34 rfl ?_
        refine ev_iload_n dModel_weather_35 rfl ?_
        refine ev_iload_n dModel_weather_36 rfl ?_
        refine ev_callV [.int 0, .int x1, .int x2, .int x3] [] (B' := (0, 0)) (B'' := (0, 0)) hok mmModel_fact mk_Model_439 (ci := 12) rfl rfl (woModel hw) rfl (Nat.le_of_ble_eq_true rfl) rfl (Nat.le_of_ble_eq_true rfl) dModel_weather_37 rfl (by decide) H (fun v τ p20 => ?_)
        obtain ⟨r21, I22, L23, rfl, rfl, H⟩ := p20
        refine ev_goto 44 dModel_weather_40 (by decide) ?_
        exact ev_iret rfl dModel_weather_44 H
def fModel_worthOf_170 (D : va_G) (cA : FieldType → ClassId) (b : Nat) (E : State → Prop) (o : Nat) (n : Nat) (sh : Nat → qC) (Rf : Nat → Nat → Option Nat) (I : Nat → Nat → Int32) (L : Nat → Nat → Int64) (post : Option Value → qS → Prop) (x1 : Int32) (x2 : Int64) (x4 : Int64) (x6 : Int32) (x7 : Int32) : Prop :=
  Ev (qGG D cA b E) mModel_worthOf 2 (0, 0) 26 [(0, .ref o), (1, .int x1), (2, .long x2), (4, .long x4), (6, .int ((x6 + Int32.ofInt 1))), (7, .int x7)] [] (n, sh, Rf, I, L) post
set_option maxHeartbeats 4000000 in
set_option maxRecDepth 20000 in
theorem sModel_worthOf_170 {D : va_G} {cA : FieldType → ClassId} {b : Nat} {E : State → Prop} (o : Nat) (n : Nat) (sh : Nat → qC) (Rf : Nat → Nat → Option Nat) (I : Nat → Nat → Int32) (L : Nat → Nat → Int64) (post : Option Value → qS → Prop) (x1 : Int32) (x2 : Int64) (x4 : Int64) (x6 : Int32) (x7 : Int32) (hok : q_ok (qGG D cA b E)) (hw : WfModel (qGG D cA b E) n sh Rf o) (H : fModel_worthOf_170 D cA b E o n sh Rf I L post x1 x2 x4 x6 x7) : Ev (qGG D cA b E) mModel_worthOf 2 (0, 0) 170 [(0, .ref o), (1, .int x1), (2, .long x2), (4, .long x4), (6, .int x6), (7, .int x7)] [] (n, sh, Rf, I, L) post := by
  unfold fModel_worthOf_170 at H
  refine ev_iinc dModel_worthOf_170 rfl (by decide) ?_
  refine ev_goto 26 dModel_worthOf_173 (by decide) ?_
  exact ev_sub [(0, .ref o), (1, .int x1), (2, .long x2), (4, .long x4), (6, .int ((x6 + Int32.ofInt 1))), (7, .int x7)] rfl H
def fModel_worthOf_170_4 (D : va_G) (cA : FieldType → ClassId) (b : Nat) (E : State → Prop) (o : Nat) (n : Nat) (sh : Nat → qC) (Rf : Nat → Nat → Option Nat) (I : Nat → Nat → Int32) (L : Nat → Nat → Int64) (post : Option Value → qS → Prop) (x1 : Int32) (x2 : Int64) (x4 : Int64) (x6 : Int32) (x7 : Int32) (x8 : Int64) : Prop :=
  Ev (qGG D cA b E) mModel_worthOf 2 (0, 0) 26 [(0, .ref o), (1, .int x1), (2, .long x2), (4, .long x4), (6, .int ((x6 + Int32.ofInt 1))), (7, .int x7), (8, .long x8)] [] (n, sh, Rf, I, L) post
set_option maxHeartbeats 4000000 in
set_option maxRecDepth 20000 in
theorem sModel_worthOf_170_4 {D : va_G} {cA : FieldType → ClassId} {b : Nat} {E : State → Prop} (o : Nat) (n : Nat) (sh : Nat → qC) (Rf : Nat → Nat → Option Nat) (I : Nat → Nat → Int32) (L : Nat → Nat → Int64) (post : Option Value → qS → Prop) (x1 : Int32) (x2 : Int64) (x4 : Int64) (x6 : Int32) (x7 : Int32) (x8 : Int64) (hok : q_ok (qGG D cA b E)) (hw : WfModel (qGG D cA b E) n sh Rf o) (H : fModel_worthOf_170_4 D cA b E o n sh Rf I L post x1 x2 x4 x6 x7 x8) : Ev (qGG D cA b E) mModel_worthOf 2 (0, 0) 170 [(0, .ref o), (1, .int x1), (2, .long x2), (4, .long x4), (6, .int x6), (7, .int x7), (8, .long x8)] [] (n, sh, Rf, I, L) post := by
  unfold fModel_worthOf_170_4 at H
  refine ev_iinc dModel_worthOf_170 rfl (by decide) ?_
  refine ev_goto 26 dModel_worthOf_173 (by decide) ?_
  exact ev_sub [(0, .ref o), (1, .int x1), (2, .long x2), (4, .long x4), (6, .int ((x6 + Int32.ofInt 1))), (7, .int x7), (8, .long x8)] rfl H
def fModel_worthOf_161 (D : va_G) (cA : FieldType → ClassId) (b : Nat) (E : State → Prop) (o : Nat) (n : Nat) (sh : Nat → qC) (Rf : Nat → Nat → Option Nat) (I : Nat → Nat → Int32) (L : Nat → Nat → Int64) (post : Option Value → qS → Prop) (x1 : Int32) (x2 : Int64) (x4 : Int64) (x6 : Int32) (x7 : Int32) (x8 : Int64) : Prop :=
  ∀ I1 : Nat → Nat → Int32, q_u I o 120 x6 = I1 → fModel_worthOf_170_4 D cA b E o n sh Rf I1 L post x1 x8 x4 x6 x7 x8
set_option maxHeartbeats 4000000 in
set_option maxRecDepth 20000 in
theorem sModel_worthOf_161 {D : va_G} {cA : FieldType → ClassId} {b : Nat} {E : State → Prop} (o : Nat) (n : Nat) (sh : Nat → qC) (Rf : Nat → Nat → Option Nat) (I : Nat → Nat → Int32) (L : Nat → Nat → Int64) (post : Option Value → qS → Prop) (x1 : Int32) (x2 : Int64) (x4 : Int64) (x6 : Int32) (x7 : Int32) (x8 : Int64) (hok : q_ok (qGG D cA b E)) (hw : WfModel (qGG D cA b E) n sh Rf o) (H : fModel_worthOf_161 D cA b E o n sh Rf I L post x1 x2 x4 x6 x7 x8) : Ev (qGG D cA b E) mModel_worthOf 2 (0, 0) 161 [(0, .ref o), (1, .int x1), (2, .long x2), (4, .long x4), (6, .int x6), (7, .int x7), (8, .long x8)] [] (n, sh, Rf, I, L) post := by
  unfold fModel_worthOf_161 at H
  refine ev_lload dModel_worthOf_161 rfl ?_
  refine ev_lstore_n dModel_worthOf_163 (by decide) ?_
  refine ev_aload_n dModel_worthOf_164 rfl ?_
  refine ev_iload dModel_worthOf_165 rfl ?_
  refine ev_putI hok fk_Model_480 (woModel hw) (fun _ _ _ => rfl) rfl rfl dModel_worthOf_167 ?_
  generalize eI1 : q_u I o 120 x6 = I1
  have H := H I1 eI1
  exact ev_sub [(0, .ref o), (1, .int x1), (2, .long x8), (4, .long x4), (6, .int x6), (7, .int x7), (8, .long x8)] rfl (sModel_worthOf_170_4 o n sh Rf I1 L post x1 x8 x4 x6 x7 x8 hok hw H)
def fModel_worthOf_26 (D : va_G) (cA : FieldType → ClassId) (b : Nat) (E : State → Prop) (o : Nat) (n : Nat) (sh : Nat → qC) (Rf : Nat → Nat → Option Nat) (I : Nat → Nat → Int32) (L : Nat → Nat → Int64) (post : Option Value → qS → Prop) (x1 : Int32) (x2 : Int64) (x4 : Int64) (x6 : Int32) : Prop :=
  Ev (qGG D cA b E) mModel_towns 0 (0, 0) 0 (lv_args 0 [.ref o]) [] (n, sh, Rf, I, L) (fun v τ => ∃ (r2 : Int32) (I3 : Nat → Nat → Int32) (L4 : Nat → Nat → Int64), v = some (.int r2) ∧ τ = (n, sh, Rf, I3, L4) ∧ ((r2 ≤ x6 → post (some (.long x2)) (n, sh, Rf, I3, L4)) ∧ (¬ r2 ≤ x6 → Ev (qGG D cA b E) mModel_panAt 0 (0, 0) 0 (lv_args 0 [.ref o, .int x1]) [] (n, sh, Rf, I3, L4) (fun v τ => ∃ (r7 : Int32) (I8 : Nat → Nat → Int32) (L9 : Nat → Nat → Int64), v = some (.int r7) ∧ τ = (n, sh, Rf, I8, L9) ∧ Ev (qGG D cA b E) mModel_townAt 0 (0, 0) 0 (lv_args 0 [.ref o, .int x6]) [] (n, sh, Rf, I8, L9) (fun v τ => ∃ (r11 : Int32) (I12 : Nat → Nat → Int32) (L13 : Nat → Nat → Int64), v = some (.int r11) ∧ τ = (n, sh, Rf, I12, L13) ∧ vp_in ((16 * r7) + r11) 256 ∧ vp_in ((3 * (I12 o 34)) + x1) 6 ∧ vp_in ((5 * (I12 o 34)) + x6) 10 ∧ (((((I12 (o + 18) (((3 * (I12 o 34)) + x1) : Int32).toNatClampNeg) >>> ((I12 (o + 20) (((5 * (I12 o 34)) + x6) : Int32).toNatClampNeg) &&& 31)) &&& 1) = 0 → fModel_worthOf_170 D cA b E o n sh Rf I12 L13 post x1 x2 x4 x6 (I12 (o + 25) (((16 * r7) + r11) : Int32).toNatClampNeg)) ∧ (¬ (((I12 (o + 18) (((3 * (I12 o 34)) + x1) : Int32).toNatClampNeg) >>> ((I12 (o + 20) (((5 * (I12 o 34)) + x6) : Int32).toNatClampNeg) &&& 31)) &&& 1) = 0 → (((I12 (o + 25) (((16 * r7) + r11) : Int32).toNatClampNeg) < 1000000 → Ev (qGG D cA b E) mModel_priceOf 0 (0, 0) 0 (lv_args 0 [.ref o, .int x6]) [] (n, sh, Rf, I12, L13) (fun v τ => ∃ (r20 : Int32) (I21 : Nat → Nat → Int32) (L22 : Nat → Nat → Int64), v = some (.int r20) ∧ τ = (n, sh, Rf, I21, L22) ∧ Ev (qGG D cA b E) mModel_monthsOf 0 (0, 0) 0 (lv_args 0 [.int ((I12 (o + 25) (((16 * r7) + r11) : Int32).toNatClampNeg))]) [] (n, sh, Rf, I21, L22) (fun v τ => ∃ (r24 : Int32) (I25 : Nat → Nat → Int32) (L26 : Nat → Nat → Int64), v = some (.int r24) ∧ τ = (n, sh, Rf, I25, L26) ∧ (((I25 o 120) < 0 → fModel_worthOf_161 D cA b E o n sh Rf I25 L26 post x1 x2 x4 x6 (I12 (o + 25) (((16 * r7) + r11) : Int32).toNatClampNeg) ((((r20 : Int32).toInt64 - ((I21 o 109) : Int32).toInt64) - ((((I12 (o + 25) (((16 * r7) + r11) : Int32).toNatClampNeg) * (I21 o 69)) / 10) : Int32).toInt64) - (((I21 o 71) : Int32).toInt64 * ((r24 : Int32).toInt64 + x4)))) ∧ (¬ (I25 o 120) < 0 → ((0 < (lg_cmp ((((r20 : Int32).toInt64 - ((I21 o 109) : Int32).toInt64) - ((((I12 (o + 25) (((16 * r7) + r11) : Int32).toNatClampNeg) * (I21 o 69)) / 10) : Int32).toInt64) - (((I21 o 71) : Int32).toInt64 * ((r24 : Int32).toInt64 + x4))) x2) → fModel_worthOf_161 D cA b E o n sh Rf I25 L26 post x1 x2 x4 x6 (I12 (o + 25) (((16 * r7) + r11) : Int32).toNatClampNeg) ((((r20 : Int32).toInt64 - ((I21 o 109) : Int32).toInt64) - ((((I12 (o + 25) (((16 * r7) + r11) : Int32).toNatClampNeg) * (I21 o 69)) / 10) : Int32).toInt64) - (((I21 o 71) : Int32).toInt64 * ((r24 : Int32).toInt64 + x4)))) ∧ (¬ 0 < (lg_cmp ((((r20 : Int32).toInt64 - ((I21 o 109) : Int32).toInt64) - ((((I12 (o + 25) (((16 * r7) + r11) : Int32).toNatClampNeg) * (I21 o 69)) / 10) : Int32).toInt64) - (((I21 o 71) : Int32).toInt64 * ((r24 : Int32).toInt64 + x4))) x2) → fModel_worthOf_170_4 D cA b E o n sh Rf I25 L26 post x1 x2 x4 x6 (I12 (o + 25) (((16 * r7) + r11) : Int32).toNatClampNeg) ((((r20 : Int32).toInt64 - ((I21 o 109) : Int32).toInt64) - ((((I12 (o + 25) (((16 * r7) + r11) : Int32).toNatClampNeg) * (I21 o 69)) / 10) : Int32).toInt64) - (((I21 o 71) : Int32).toInt64 * ((r24 : Int32).toInt64 + x4)))))))))) ∧ (¬ (I12 (o + 25) (((16 * r7) + r11) : Int32).toNatClampNeg) < 1000000 → fModel_worthOf_170 D cA b E o n sh Rf I12 L13 post x1 x2 x4 x6 (I12 (o + 25) (((16 * r7) + r11) : Int32).toNatClampNeg))))))))))
set_option maxHeartbeats 4000000 in
set_option maxRecDepth 20000 in
theorem sModel_worthOf_26 {D : va_G} {cA : FieldType → ClassId} {b : Nat} {E : State → Prop} (o : Nat) (n : Nat) (sh : Nat → qC) (Rf : Nat → Nat → Option Nat) (I : Nat → Nat → Int32) (L : Nat → Nat → Int64) (post : Option Value → qS → Prop) (x1 : Int32) (x2 : Int64) (x4 : Int64) (x6 : Int32) (hok : q_ok (qGG D cA b E)) (hw : WfModel (qGG D cA b E) n sh Rf o) (H : fModel_worthOf_26 D cA b E o n sh Rf I L post x1 x2 x4 x6) : Ev (qGG D cA b E) mModel_worthOf 2 (0, 0) 26 [(0, .ref o), (1, .int x1), (2, .long x2), (4, .long x4), (6, .int x6)] [] (n, sh, Rf, I, L) post := by
  unfold fModel_worthOf_26 at H
  refine ev_iload dModel_worthOf_26 rfl ?_
  refine ev_aload_n dModel_worthOf_28 rfl ?_
  refine ev_callV [] [.int x6] (B' := (0, 0)) (B'' := (0, 0)) hok mmModel_towns mk_Model_488 (ci := 12) rfl rfl (woModel hw) rfl (Nat.le_of_ble_eq_true rfl) rfl (Nat.le_of_ble_eq_true rfl) dModel_worthOf_29 rfl (by decide) H (fun v τ p1 => ?_)
  obtain ⟨r2, I3, L4, rfl, rfl, H⟩ := p1
  refine ev_icmp_ge 176 dModel_worthOf_32 (by decide) (fun c5 => ?_) (fun c5 => ?_)
  · have H := H.1 c5
    refine ev_lload_n dModel_worthOf_176 rfl ?_
    exact ev_lret rfl dModel_worthOf_177 H
  · have H := H.2 c5
    refine ev_aload_n dModel_worthOf_35 rfl ?_
    refine ev_getR hok fk_Model_269 (woModel hw) (fun _ _ _ => rfl) (wrModel_36 hw) dModel_worthOf_36 ?_
    refine ev_bipush (16) dModel_worthOf_39 (by decide) ?_
    refine ev_aload_n dModel_worthOf_41 rfl ?_
    refine ev_iload_n dModel_worthOf_42 rfl ?_
    refine ev_callV [.int x1] [.int 16, .ref ((o + 25))] (B' := (0, 0)) (B'' := (0, 0)) hok mmModel_panAt mk_Model_491 (ci := 12) rfl rfl (woModel hw) rfl (Nat.le_of_ble_eq_true rfl) rfl (Nat.le_of_ble_eq_true rfl) dModel_worthOf_43 rfl (by decide) H (fun v τ p6 => ?_)
    obtain ⟨r7, I8, L9, rfl, rfl, H⟩ := p6
    refine ev_imul dModel_worthOf_46 ?_
    refine ev_aload_n dModel_worthOf_47 rfl ?_
    refine ev_iload dModel_worthOf_48 rfl ?_
    refine ev_callV [.int x6] [.int ((16 * r7)), .ref ((o + 25))] (B' := (0, 0)) (B'' := (0, 0)) hok mmModel_townAt mk_Model_494 (ci := 12) rfl rfl (woModel hw) rfl (Nat.le_of_ble_eq_true rfl) rfl (Nat.le_of_ble_eq_true rfl) dModel_worthOf_50 rfl (by decide) H (fun v τ p10 => ?_)
    obtain ⟨r11, I12, L13, rfl, rfl, H⟩ := p10
    refine ev_iadd dModel_worthOf_53 ?_
    obtain ⟨h14, H⟩ := H
    refine ev_iald hok (waModel_36 hw) h14 dModel_worthOf_54 ?_
    refine ev_istore dModel_worthOf_55 (by decide) ?_
    refine ev_aload_n dModel_worthOf_57 rfl ?_
    refine ev_getR hok fk_Model_248 (woModel hw) (fun _ _ _ => rfl) (wrModel_27 hw) dModel_worthOf_58 ?_
    refine ev_iconst (3) dModel_worthOf_61 (by decide) ?_
    refine ev_aload_n dModel_worthOf_62 rfl ?_
    refine ev_getI hok fk_Model_147 (woModel hw) (fun _ _ _ => rfl) dModel_worthOf_63 ?_
    refine ev_imul dModel_worthOf_66 ?_
    refine ev_iload_n dModel_worthOf_67 rfl ?_
    refine ev_iadd dModel_worthOf_68 ?_
    obtain ⟨h15, H⟩ := H
    refine ev_iald hok (waModel_27 hw) h15 dModel_worthOf_69 ?_
    refine ev_aload_n dModel_worthOf_70 rfl ?_
    refine ev_getR hok fk_Model_254 (woModel hw) (fun _ _ _ => rfl) (wrModel_29 hw) dModel_worthOf_71 ?_
    refine ev_iconst (5) dModel_worthOf_74 (by decide) ?_
    refine ev_aload_n dModel_worthOf_75 rfl ?_
    refine ev_getI hok fk_Model_147 (woModel hw) (fun _ _ _ => rfl) dModel_worthOf_76 ?_
    refine ev_imul dModel_worthOf_79 ?_
    refine ev_iload dModel_worthOf_80 rfl ?_
    refine ev_iadd dModel_worthOf_82 ?_
    obtain ⟨h16, H⟩ := H
    refine ev_iald hok (waModel_29 hw) h16 dModel_worthOf_83 ?_
    refine ev_ishr dModel_worthOf_84 ?_
    refine ev_iconst (1) dModel_worthOf_85 (by decide) ?_
    refine ev_iand dModel_worthOf_86 ?_
    refine ev_if_eq 170 dModel_worthOf_87 (by decide) (fun c17 => ?_) (fun c17 => ?_)
    · have H := H.1 c17
      exact ev_sub [(0, .ref o), (1, .int x1), (2, .long x2), (4, .long x4), (6, .int x6), (7, .int ((I12 (o + 25) (((16 * r7) + r11) : Int32).toNatClampNeg)))] rfl (sModel_worthOf_170 o n sh Rf I12 L13 post x1 x2 x4 x6 (I12 (o + 25) (((16 * r7) + r11) : Int32).toNatClampNeg) hok hw H)
    · have H := H.2 c17
      refine ev_iload dModel_worthOf_90 rfl ?_
      refine ev_ldcw (1000000) dModel_worthOf_92 (q_t7 92 (by decide +kernel) rfl) ?_
      refine ev_icmp_lt 101 dModel_worthOf_95 (by decide) (fun c18 => ?_) (fun c18 => ?_)
      · have H := H.1 c18
        refine ev_aload_n dModel_worthOf_101 rfl ?_
        refine ev_iload dModel_worthOf_102 rfl ?_
        refine ev_callV [.int x6] [] (B' := (0, 0)) (B'' := (0, 0)) hok mmModel_priceOf mk_Model_497 (ci := 12) rfl rfl (woModel hw) rfl (Nat.le_of_ble_eq_true rfl) rfl (Nat.le_of_ble_eq_true rfl) dModel_worthOf_104 rfl (by decide) H (fun v τ p19 => ?_)
        obtain ⟨r20, I21, L22, rfl, rfl, H⟩ := p19
        refine ev_i2l dModel_worthOf_107 ?_
        refine ev_aload_n dModel_worthOf_108 rfl ?_
        refine ev_getI hok fk_Model_500 (woModel hw) (fun _ _ _ => rfl) dModel_worthOf_109 ?_
        refine ev_i2l dModel_worthOf_112 ?_
        refine ev_lsub dModel_worthOf_113 ?_
        refine ev_iload dModel_worthOf_114 rfl ?_
        refine ev_aload_n dModel_worthOf_116 rfl ?_
        refine ev_getI hok fk_Model_397 (woModel hw) (fun _ _ _ => rfl) dModel_worthOf_117 ?_
        refine ev_imul dModel_worthOf_120 ?_
        refine ev_bipush (10) dModel_worthOf_121 (by decide) ?_
        refine ev_idiv dModel_worthOf_123 (by decide) ?_
        refine ev_i2l dModel_worthOf_124 ?_
        refine ev_lsub dModel_worthOf_125 ?_
        refine ev_aload_n dModel_worthOf_126 rfl ?_
        refine ev_getI hok fk_Model_403 (woModel hw) (fun _ _ _ => rfl) dModel_worthOf_127 ?_
        refine ev_i2l dModel_worthOf_130 ?_
        refine ev_iload dModel_worthOf_131 rfl ?_
        refine ev_callS [.int ((I12 (o + 25) (((16 * r7) + r11) : Int32).toNatClampNeg))] [.long (((I21 o 71) : Int32).toInt64), .long ((((r20 : Int32).toInt64 - ((I21 o 109) : Int32).toInt64) - ((((I12 (o + 25) (((16 * r7) + r11) : Int32).toNatClampNeg) * (I21 o 69)) / 10) : Int32).toInt64))] (B' := (0, 0)) (B'' := (0, 0)) hok mmModel_monthsOf mk_Model_503 rfl (Nat.le_of_ble_eq_true rfl) rfl (Nat.le_of_ble_eq_true rfl) dModel_worthOf_133 rfl (by decide) H (fun v τ p23 => ?_)
        obtain ⟨r24, I25, L26, rfl, rfl, H⟩ := p23
        refine ev_i2l dModel_worthOf_136 ?_
        refine ev_lload dModel_worthOf_137 rfl ?_
        refine ev_ladd dModel_worthOf_139 ?_
        refine ev_lmul dModel_worthOf_140 ?_
        refine ev_lsub dModel_worthOf_141 ?_
        refine ev_lstore dModel_worthOf_142 (by decide) ?_
        refine ev_aload_n dModel_worthOf_144 rfl ?_
        refine ev_getI hok fk_Model_480 (woModel hw) (fun _ _ _ => rfl) dModel_worthOf_145 ?_
        refine ev_if_lt 161 dModel_worthOf_148 (by decide) (fun c27 => ?_) (fun c27 => ?_)
        · have H := H.1 c27
          exact ev_sub [(0, .ref o), (1, .int x1), (2, .long x2), (4, .long x4), (6, .int x6), (7, .int ((I12 (o + 25) (((16 * r7) + r11) : Int32).toNatClampNeg))), (8, .long (((((r20 : Int32).toInt64 - ((I21 o 109) : Int32).toInt64) - ((((I12 (o + 25) (((16 * r7) + r11) : Int32).toNatClampNeg) * (I21 o 69)) / 10) : Int32).toInt64) - (((I21 o 71) : Int32).toInt64 * ((r24 : Int32).toInt64 + x4)))))] rfl (sModel_worthOf_161 o n sh Rf I25 L26 post x1 x2 x4 x6 (I12 (o + 25) (((16 * r7) + r11) : Int32).toNatClampNeg) ((((r20 : Int32).toInt64 - ((I21 o 109) : Int32).toInt64) - ((((I12 (o + 25) (((16 * r7) + r11) : Int32).toNatClampNeg) * (I21 o 69)) / 10) : Int32).toInt64) - (((I21 o 71) : Int32).toInt64 * ((r24 : Int32).toInt64 + x4))) hok hw H)
        · have H := H.2 c27
          refine ev_lload dModel_worthOf_151 rfl ?_
          refine ev_lload_n dModel_worthOf_153 rfl ?_
          refine ev_lcmp dModel_worthOf_154 ?_
          refine ev_if_gt 161 dModel_worthOf_155 (by decide) (fun c28 => ?_) (fun c28 => ?_)
          · have H := H.1 c28
            exact ev_sub [(0, .ref o), (1, .int x1), (2, .long x2), (4, .long x4), (6, .int x6), (7, .int ((I12 (o + 25) (((16 * r7) + r11) : Int32).toNatClampNeg))), (8, .long (((((r20 : Int32).toInt64 - ((I21 o 109) : Int32).toInt64) - ((((I12 (o + 25) (((16 * r7) + r11) : Int32).toNatClampNeg) * (I21 o 69)) / 10) : Int32).toInt64) - (((I21 o 71) : Int32).toInt64 * ((r24 : Int32).toInt64 + x4)))))] rfl (sModel_worthOf_161 o n sh Rf I25 L26 post x1 x2 x4 x6 (I12 (o + 25) (((16 * r7) + r11) : Int32).toNatClampNeg) ((((r20 : Int32).toInt64 - ((I21 o 109) : Int32).toInt64) - ((((I12 (o + 25) (((16 * r7) + r11) : Int32).toNatClampNeg) * (I21 o 69)) / 10) : Int32).toInt64) - (((I21 o 71) : Int32).toInt64 * ((r24 : Int32).toInt64 + x4))) hok hw H)
          · have H := H.2 c28
            refine ev_goto 170 dModel_worthOf_158 (by decide) ?_
            exact ev_sub [(0, .ref o), (1, .int x1), (2, .long x2), (4, .long x4), (6, .int x6), (7, .int ((I12 (o + 25) (((16 * r7) + r11) : Int32).toNatClampNeg))), (8, .long (((((r20 : Int32).toInt64 - ((I21 o 109) : Int32).toInt64) - ((((I12 (o + 25) (((16 * r7) + r11) : Int32).toNatClampNeg) * (I21 o 69)) / 10) : Int32).toInt64) - (((I21 o 71) : Int32).toInt64 * ((r24 : Int32).toInt64 + x4)))))] rfl (sModel_worthOf_170_4 o n sh Rf I25 L26 post x1 x2 x4 x6 (I12 (o + 25) (((16 * r7) + r11) : Int32).toNatClampNeg) ((((r20 : Int32).toInt64 - ((I21 o 109) : Int32).toInt64) - ((((I12 (o + 25) (((16 * r7) + r11) : Int32).toNatClampNeg) * (I21 o 69)) / 10) : Int32).toInt64) - (((I21 o 71) : Int32).toInt64 * ((r24 : Int32).toInt64 + x4))) hok hw H)
      · have H := H.2 c18
        refine ev_goto 170 dModel_worthOf_98 (by decide) ?_
        exact ev_sub [(0, .ref o), (1, .int x1), (2, .long x2), (4, .long x4), (6, .int x6), (7, .int ((I12 (o + 25) (((16 * r7) + r11) : Int32).toNatClampNeg)))] rfl (sModel_worthOf_170 o n sh Rf I12 L13 post x1 x2 x4 x6 (I12 (o + 25) (((16 * r7) + r11) : Int32).toNatClampNeg) hok hw H)
def fModel_worthOf_26_5 (D : va_G) (cA : FieldType → ClassId) (b : Nat) (E : State → Prop) (o : Nat) (n : Nat) (sh : Nat → qC) (Rf : Nat → Nat → Option Nat) (I : Nat → Nat → Int32) (L : Nat → Nat → Int64) (post : Option Value → qS → Prop) (x1 : Int32) (x2 : Int64) (x4 : Int64) (x6 : Int32) (x7 : Int32) : Prop :=
  Ev (qGG D cA b E) mModel_towns 0 (0, 0) 0 (lv_args 0 [.ref o]) [] (n, sh, Rf, I, L) (fun v τ => ∃ (r2 : Int32) (I3 : Nat → Nat → Int32) (L4 : Nat → Nat → Int64), v = some (.int r2) ∧ τ = (n, sh, Rf, I3, L4) ∧ ((r2 ≤ x6 → post (some (.long x2)) (n, sh, Rf, I3, L4)) ∧ (¬ r2 ≤ x6 → Ev (qGG D cA b E) mModel_panAt 0 (0, 0) 0 (lv_args 0 [.ref o, .int x1]) [] (n, sh, Rf, I3, L4) (fun v τ => ∃ (r7 : Int32) (I8 : Nat → Nat → Int32) (L9 : Nat → Nat → Int64), v = some (.int r7) ∧ τ = (n, sh, Rf, I8, L9) ∧ Ev (qGG D cA b E) mModel_townAt 0 (0, 0) 0 (lv_args 0 [.ref o, .int x6]) [] (n, sh, Rf, I8, L9) (fun v τ => ∃ (r11 : Int32) (I12 : Nat → Nat → Int32) (L13 : Nat → Nat → Int64), v = some (.int r11) ∧ τ = (n, sh, Rf, I12, L13) ∧ vp_in ((16 * r7) + r11) 256 ∧ vp_in ((3 * (I12 o 34)) + x1) 6 ∧ vp_in ((5 * (I12 o 34)) + x6) 10 ∧ (((((I12 (o + 18) (((3 * (I12 o 34)) + x1) : Int32).toNatClampNeg) >>> ((I12 (o + 20) (((5 * (I12 o 34)) + x6) : Int32).toNatClampNeg) &&& 31)) &&& 1) = 0 → fModel_worthOf_170 D cA b E o n sh Rf I12 L13 post x1 x2 x4 x6 (I12 (o + 25) (((16 * r7) + r11) : Int32).toNatClampNeg)) ∧ (¬ (((I12 (o + 18) (((3 * (I12 o 34)) + x1) : Int32).toNatClampNeg) >>> ((I12 (o + 20) (((5 * (I12 o 34)) + x6) : Int32).toNatClampNeg) &&& 31)) &&& 1) = 0 → (((I12 (o + 25) (((16 * r7) + r11) : Int32).toNatClampNeg) < 1000000 → Ev (qGG D cA b E) mModel_priceOf 0 (0, 0) 0 (lv_args 0 [.ref o, .int x6]) [] (n, sh, Rf, I12, L13) (fun v τ => ∃ (r20 : Int32) (I21 : Nat → Nat → Int32) (L22 : Nat → Nat → Int64), v = some (.int r20) ∧ τ = (n, sh, Rf, I21, L22) ∧ Ev (qGG D cA b E) mModel_monthsOf 0 (0, 0) 0 (lv_args 0 [.int ((I12 (o + 25) (((16 * r7) + r11) : Int32).toNatClampNeg))]) [] (n, sh, Rf, I21, L22) (fun v τ => ∃ (r24 : Int32) (I25 : Nat → Nat → Int32) (L26 : Nat → Nat → Int64), v = some (.int r24) ∧ τ = (n, sh, Rf, I25, L26) ∧ (((I25 o 120) < 0 → fModel_worthOf_161 D cA b E o n sh Rf I25 L26 post x1 x2 x4 x6 (I12 (o + 25) (((16 * r7) + r11) : Int32).toNatClampNeg) ((((r20 : Int32).toInt64 - ((I21 o 109) : Int32).toInt64) - ((((I12 (o + 25) (((16 * r7) + r11) : Int32).toNatClampNeg) * (I21 o 69)) / 10) : Int32).toInt64) - (((I21 o 71) : Int32).toInt64 * ((r24 : Int32).toInt64 + x4)))) ∧ (¬ (I25 o 120) < 0 → ((0 < (lg_cmp ((((r20 : Int32).toInt64 - ((I21 o 109) : Int32).toInt64) - ((((I12 (o + 25) (((16 * r7) + r11) : Int32).toNatClampNeg) * (I21 o 69)) / 10) : Int32).toInt64) - (((I21 o 71) : Int32).toInt64 * ((r24 : Int32).toInt64 + x4))) x2) → fModel_worthOf_161 D cA b E o n sh Rf I25 L26 post x1 x2 x4 x6 (I12 (o + 25) (((16 * r7) + r11) : Int32).toNatClampNeg) ((((r20 : Int32).toInt64 - ((I21 o 109) : Int32).toInt64) - ((((I12 (o + 25) (((16 * r7) + r11) : Int32).toNatClampNeg) * (I21 o 69)) / 10) : Int32).toInt64) - (((I21 o 71) : Int32).toInt64 * ((r24 : Int32).toInt64 + x4)))) ∧ (¬ 0 < (lg_cmp ((((r20 : Int32).toInt64 - ((I21 o 109) : Int32).toInt64) - ((((I12 (o + 25) (((16 * r7) + r11) : Int32).toNatClampNeg) * (I21 o 69)) / 10) : Int32).toInt64) - (((I21 o 71) : Int32).toInt64 * ((r24 : Int32).toInt64 + x4))) x2) → fModel_worthOf_170_4 D cA b E o n sh Rf I25 L26 post x1 x2 x4 x6 (I12 (o + 25) (((16 * r7) + r11) : Int32).toNatClampNeg) ((((r20 : Int32).toInt64 - ((I21 o 109) : Int32).toInt64) - ((((I12 (o + 25) (((16 * r7) + r11) : Int32).toNatClampNeg) * (I21 o 69)) / 10) : Int32).toInt64) - (((I21 o 71) : Int32).toInt64 * ((r24 : Int32).toInt64 + x4)))))))))) ∧ (¬ (I12 (o + 25) (((16 * r7) + r11) : Int32).toNatClampNeg) < 1000000 → fModel_worthOf_170 D cA b E o n sh Rf I12 L13 post x1 x2 x4 x6 (I12 (o + 25) (((16 * r7) + r11) : Int32).toNatClampNeg))))))))))
set_option maxHeartbeats 4000000 in
set_option maxRecDepth 20000 in
theorem sModel_worthOf_26_5 {D : va_G} {cA : FieldType → ClassId} {b : Nat} {E : State → Prop} (o : Nat) (n : Nat) (sh : Nat → qC) (Rf : Nat → Nat → Option Nat) (I : Nat → Nat → Int32) (L : Nat → Nat → Int64) (post : Option Value → qS → Prop) (x1 : Int32) (x2 : Int64) (x4 : Int64) (x6 : Int32) (x7 : Int32) (hok : q_ok (qGG D cA b E)) (hw : WfModel (qGG D cA b E) n sh Rf o) (H : fModel_worthOf_26_5 D cA b E o n sh Rf I L post x1 x2 x4 x6 x7) : Ev (qGG D cA b E) mModel_worthOf 2 (0, 0) 26 [(0, .ref o), (1, .int x1), (2, .long x2), (4, .long x4), (6, .int x6), (7, .int x7)] [] (n, sh, Rf, I, L) post := by
  unfold fModel_worthOf_26_5 at H
  refine ev_iload dModel_worthOf_26 rfl ?_
  refine ev_aload_n dModel_worthOf_28 rfl ?_
  refine ev_callV [] [.int x6] (B' := (0, 0)) (B'' := (0, 0)) hok mmModel_towns mk_Model_488 (ci := 12) rfl rfl (woModel hw) rfl (Nat.le_of_ble_eq_true rfl) rfl (Nat.le_of_ble_eq_true rfl) dModel_worthOf_29 rfl (by decide) H (fun v τ p1 => ?_)
  obtain ⟨r2, I3, L4, rfl, rfl, H⟩ := p1
  refine ev_icmp_ge 176 dModel_worthOf_32 (by decide) (fun c5 => ?_) (fun c5 => ?_)
  · have H := H.1 c5
    refine ev_lload_n dModel_worthOf_176 rfl ?_
    exact ev_lret rfl dModel_worthOf_177 H
  · have H := H.2 c5
    refine ev_aload_n dModel_worthOf_35 rfl ?_
    refine ev_getR hok fk_Model_269 (woModel hw) (fun _ _ _ => rfl) (wrModel_36 hw) dModel_worthOf_36 ?_
    refine ev_bipush (16) dModel_worthOf_39 (by decide) ?_
    refine ev_aload_n dModel_worthOf_41 rfl ?_
    refine ev_iload_n dModel_worthOf_42 rfl ?_
    refine ev_callV [.int x1] [.int 16, .ref ((o + 25))] (B' := (0, 0)) (B'' := (0, 0)) hok mmModel_panAt mk_Model_491 (ci := 12) rfl rfl (woModel hw) rfl (Nat.le_of_ble_eq_true rfl) rfl (Nat.le_of_ble_eq_true rfl) dModel_worthOf_43 rfl (by decide) H (fun v τ p6 => ?_)
    obtain ⟨r7, I8, L9, rfl, rfl, H⟩ := p6
    refine ev_imul dModel_worthOf_46 ?_
    refine ev_aload_n dModel_worthOf_47 rfl ?_
    refine ev_iload dModel_worthOf_48 rfl ?_
    refine ev_callV [.int x6] [.int ((16 * r7)), .ref ((o + 25))] (B' := (0, 0)) (B'' := (0, 0)) hok mmModel_townAt mk_Model_494 (ci := 12) rfl rfl (woModel hw) rfl (Nat.le_of_ble_eq_true rfl) rfl (Nat.le_of_ble_eq_true rfl) dModel_worthOf_50 rfl (by decide) H (fun v τ p10 => ?_)
    obtain ⟨r11, I12, L13, rfl, rfl, H⟩ := p10
    refine ev_iadd dModel_worthOf_53 ?_
    obtain ⟨h14, H⟩ := H
    refine ev_iald hok (waModel_36 hw) h14 dModel_worthOf_54 ?_
    refine ev_istore dModel_worthOf_55 (by decide) ?_
    refine ev_aload_n dModel_worthOf_57 rfl ?_
    refine ev_getR hok fk_Model_248 (woModel hw) (fun _ _ _ => rfl) (wrModel_27 hw) dModel_worthOf_58 ?_
    refine ev_iconst (3) dModel_worthOf_61 (by decide) ?_
    refine ev_aload_n dModel_worthOf_62 rfl ?_
    refine ev_getI hok fk_Model_147 (woModel hw) (fun _ _ _ => rfl) dModel_worthOf_63 ?_
    refine ev_imul dModel_worthOf_66 ?_
    refine ev_iload_n dModel_worthOf_67 rfl ?_
    refine ev_iadd dModel_worthOf_68 ?_
    obtain ⟨h15, H⟩ := H
    refine ev_iald hok (waModel_27 hw) h15 dModel_worthOf_69 ?_
    refine ev_aload_n dModel_worthOf_70 rfl ?_
    refine ev_getR hok fk_Model_254 (woModel hw) (fun _ _ _ => rfl) (wrModel_29 hw) dModel_worthOf_71 ?_
    refine ev_iconst (5) dModel_worthOf_74 (by decide) ?_
    refine ev_aload_n dModel_worthOf_75 rfl ?_
    refine ev_getI hok fk_Model_147 (woModel hw) (fun _ _ _ => rfl) dModel_worthOf_76 ?_
    refine ev_imul dModel_worthOf_79 ?_
    refine ev_iload dModel_worthOf_80 rfl ?_
    refine ev_iadd dModel_worthOf_82 ?_
    obtain ⟨h16, H⟩ := H
    refine ev_iald hok (waModel_29 hw) h16 dModel_worthOf_83 ?_
    refine ev_ishr dModel_worthOf_84 ?_
    refine ev_iconst (1) dModel_worthOf_85 (by decide) ?_
    refine ev_iand dModel_worthOf_86 ?_
    refine ev_if_eq 170 dModel_worthOf_87 (by decide) (fun c17 => ?_) (fun c17 => ?_)
    · have H := H.1 c17
      exact ev_sub [(0, .ref o), (1, .int x1), (2, .long x2), (4, .long x4), (6, .int x6), (7, .int ((I12 (o + 25) (((16 * r7) + r11) : Int32).toNatClampNeg)))] rfl (sModel_worthOf_170 o n sh Rf I12 L13 post x1 x2 x4 x6 (I12 (o + 25) (((16 * r7) + r11) : Int32).toNatClampNeg) hok hw H)
    · have H := H.2 c17
      refine ev_iload dModel_worthOf_90 rfl ?_
      refine ev_ldcw (1000000) dModel_worthOf_92 (q_t7 92 (by decide +kernel) rfl) ?_
      refine ev_icmp_lt 101 dModel_worthOf_95 (by decide) (fun c18 => ?_) (fun c18 => ?_)
      · have H := H.1 c18
        refine ev_aload_n dModel_worthOf_101 rfl ?_
        refine ev_iload dModel_worthOf_102 rfl ?_
        refine ev_callV [.int x6] [] (B' := (0, 0)) (B'' := (0, 0)) hok mmModel_priceOf mk_Model_497 (ci := 12) rfl rfl (woModel hw) rfl (Nat.le_of_ble_eq_true rfl) rfl (Nat.le_of_ble_eq_true rfl) dModel_worthOf_104 rfl (by decide) H (fun v τ p19 => ?_)
        obtain ⟨r20, I21, L22, rfl, rfl, H⟩ := p19
        refine ev_i2l dModel_worthOf_107 ?_
        refine ev_aload_n dModel_worthOf_108 rfl ?_
        refine ev_getI hok fk_Model_500 (woModel hw) (fun _ _ _ => rfl) dModel_worthOf_109 ?_
        refine ev_i2l dModel_worthOf_112 ?_
        refine ev_lsub dModel_worthOf_113 ?_
        refine ev_iload dModel_worthOf_114 rfl ?_
        refine ev_aload_n dModel_worthOf_116 rfl ?_
        refine ev_getI hok fk_Model_397 (woModel hw) (fun _ _ _ => rfl) dModel_worthOf_117 ?_
        refine ev_imul dModel_worthOf_120 ?_
        refine ev_bipush (10) dModel_worthOf_121 (by decide) ?_
        refine ev_idiv dModel_worthOf_123 (by decide) ?_
        refine ev_i2l dModel_worthOf_124 ?_
        refine ev_lsub dModel_worthOf_125 ?_
        refine ev_aload_n dModel_worthOf_126 rfl ?_
        refine ev_getI hok fk_Model_403 (woModel hw) (fun _ _ _ => rfl) dModel_worthOf_127 ?_
        refine ev_i2l dModel_worthOf_130 ?_
        refine ev_iload dModel_worthOf_131 rfl ?_
        refine ev_callS [.int ((I12 (o + 25) (((16 * r7) + r11) : Int32).toNatClampNeg))] [.long (((I21 o 71) : Int32).toInt64), .long ((((r20 : Int32).toInt64 - ((I21 o 109) : Int32).toInt64) - ((((I12 (o + 25) (((16 * r7) + r11) : Int32).toNatClampNeg) * (I21 o 69)) / 10) : Int32).toInt64))] (B' := (0, 0)) (B'' := (0, 0)) hok mmModel_monthsOf mk_Model_503 rfl (Nat.le_of_ble_eq_true rfl) rfl (Nat.le_of_ble_eq_true rfl) dModel_worthOf_133 rfl (by decide) H (fun v τ p23 => ?_)
        obtain ⟨r24, I25, L26, rfl, rfl, H⟩ := p23
        refine ev_i2l dModel_worthOf_136 ?_
        refine ev_lload dModel_worthOf_137 rfl ?_
        refine ev_ladd dModel_worthOf_139 ?_
        refine ev_lmul dModel_worthOf_140 ?_
        refine ev_lsub dModel_worthOf_141 ?_
        refine ev_lstore dModel_worthOf_142 (by decide) ?_
        refine ev_aload_n dModel_worthOf_144 rfl ?_
        refine ev_getI hok fk_Model_480 (woModel hw) (fun _ _ _ => rfl) dModel_worthOf_145 ?_
        refine ev_if_lt 161 dModel_worthOf_148 (by decide) (fun c27 => ?_) (fun c27 => ?_)
        · have H := H.1 c27
          exact ev_sub [(0, .ref o), (1, .int x1), (2, .long x2), (4, .long x4), (6, .int x6), (7, .int ((I12 (o + 25) (((16 * r7) + r11) : Int32).toNatClampNeg))), (8, .long (((((r20 : Int32).toInt64 - ((I21 o 109) : Int32).toInt64) - ((((I12 (o + 25) (((16 * r7) + r11) : Int32).toNatClampNeg) * (I21 o 69)) / 10) : Int32).toInt64) - (((I21 o 71) : Int32).toInt64 * ((r24 : Int32).toInt64 + x4)))))] rfl (sModel_worthOf_161 o n sh Rf I25 L26 post x1 x2 x4 x6 (I12 (o + 25) (((16 * r7) + r11) : Int32).toNatClampNeg) ((((r20 : Int32).toInt64 - ((I21 o 109) : Int32).toInt64) - ((((I12 (o + 25) (((16 * r7) + r11) : Int32).toNatClampNeg) * (I21 o 69)) / 10) : Int32).toInt64) - (((I21 o 71) : Int32).toInt64 * ((r24 : Int32).toInt64 + x4))) hok hw H)
        · have H := H.2 c27
          refine ev_lload dModel_worthOf_151 rfl ?_
          refine ev_lload_n dModel_worthOf_153 rfl ?_
          refine ev_lcmp dModel_worthOf_154 ?_
          refine ev_if_gt 161 dModel_worthOf_155 (by decide) (fun c28 => ?_) (fun c28 => ?_)
          · have H := H.1 c28
            exact ev_sub [(0, .ref o), (1, .int x1), (2, .long x2), (4, .long x4), (6, .int x6), (7, .int ((I12 (o + 25) (((16 * r7) + r11) : Int32).toNatClampNeg))), (8, .long (((((r20 : Int32).toInt64 - ((I21 o 109) : Int32).toInt64) - ((((I12 (o + 25) (((16 * r7) + r11) : Int32).toNatClampNeg) * (I21 o 69)) / 10) : Int32).toInt64) - (((I21 o 71) : Int32).toInt64 * ((r24 : Int32).toInt64 + x4)))))] rfl (sModel_worthOf_161 o n sh Rf I25 L26 post x1 x2 x4 x6 (I12 (o + 25) (((16 * r7) + r11) : Int32).toNatClampNeg) ((((r20 : Int32).toInt64 - ((I21 o 109) : Int32).toInt64) - ((((I12 (o + 25) (((16 * r7) + r11) : Int32).toNatClampNeg) * (I21 o 69)) / 10) : Int32).toInt64) - (((I21 o 71) : Int32).toInt64 * ((r24 : Int32).toInt64 + x4))) hok hw H)
          · have H := H.2 c28
            refine ev_goto 170 dModel_worthOf_158 (by decide) ?_
            exact ev_sub [(0, .ref o), (1, .int x1), (2, .long x2), (4, .long x4), (6, .int x6), (7, .int ((I12 (o + 25) (((16 * r7) + r11) : Int32).toNatClampNeg))), (8, .long (((((r20 : Int32).toInt64 - ((I21 o 109) : Int32).toInt64) - ((((I12 (o + 25) (((16 * r7) + r11) : Int32).toNatClampNeg) * (I21 o 69)) / 10) : Int32).toInt64) - (((I21 o 71) : Int32).toInt64 * ((r24 : Int32).toInt64 + x4)))))] rfl (sModel_worthOf_170_4 o n sh Rf I25 L26 post x1 x2 x4 x6 (I12 (o + 25) (((16 * r7) + r11) : Int32).toNatClampNeg) ((((r20 : Int32).toInt64 - ((I21 o 109) : Int32).toInt64) - ((((I12 (o + 25) (((16 * r7) + r11) : Int32).toNatClampNeg) * (I21 o 69)) / 10) : Int32).toInt64) - (((I21 o 71) : Int32).toInt64 * ((r24 : Int32).toInt64 + x4))) hok hw H)
      · have H := H.2 c18
        refine ev_goto 170 dModel_worthOf_98 (by decide) ?_
        exact ev_sub [(0, .ref o), (1, .int x1), (2, .long x2), (4, .long x4), (6, .int x6), (7, .int ((I12 (o + 25) (((16 * r7) + r11) : Int32).toNatClampNeg)))] rfl (sModel_worthOf_170 o n sh Rf I12 L13 post x1 x2 x4 x6 (I12 (o + 25) (((16 * r7) + r11) : Int32).toNatClampNeg) hok hw H)
def fModel_worthOf_26_6 (D : va_G) (cA : FieldType → ClassId) (b : Nat) (E : State → Prop) (o : Nat) (n : Nat) (sh : Nat → qC) (Rf : Nat → Nat → Option Nat) (I : Nat → Nat → Int32) (L : Nat → Nat → Int64) (post : Option Value → qS → Prop) (x1 : Int32) (x2 : Int64) (x4 : Int64) (x6 : Int32) (x7 : Int32) (x8 : Int64) : Prop :=
  Ev (qGG D cA b E) mModel_towns 0 (0, 0) 0 (lv_args 0 [.ref o]) [] (n, sh, Rf, I, L) (fun v τ => ∃ (r2 : Int32) (I3 : Nat → Nat → Int32) (L4 : Nat → Nat → Int64), v = some (.int r2) ∧ τ = (n, sh, Rf, I3, L4) ∧ ((r2 ≤ x6 → post (some (.long x2)) (n, sh, Rf, I3, L4)) ∧ (¬ r2 ≤ x6 → Ev (qGG D cA b E) mModel_panAt 0 (0, 0) 0 (lv_args 0 [.ref o, .int x1]) [] (n, sh, Rf, I3, L4) (fun v τ => ∃ (r7 : Int32) (I8 : Nat → Nat → Int32) (L9 : Nat → Nat → Int64), v = some (.int r7) ∧ τ = (n, sh, Rf, I8, L9) ∧ Ev (qGG D cA b E) mModel_townAt 0 (0, 0) 0 (lv_args 0 [.ref o, .int x6]) [] (n, sh, Rf, I8, L9) (fun v τ => ∃ (r11 : Int32) (I12 : Nat → Nat → Int32) (L13 : Nat → Nat → Int64), v = some (.int r11) ∧ τ = (n, sh, Rf, I12, L13) ∧ vp_in ((16 * r7) + r11) 256 ∧ vp_in ((3 * (I12 o 34)) + x1) 6 ∧ vp_in ((5 * (I12 o 34)) + x6) 10 ∧ (((((I12 (o + 18) (((3 * (I12 o 34)) + x1) : Int32).toNatClampNeg) >>> ((I12 (o + 20) (((5 * (I12 o 34)) + x6) : Int32).toNatClampNeg) &&& 31)) &&& 1) = 0 → fModel_worthOf_170_4 D cA b E o n sh Rf I12 L13 post x1 x2 x4 x6 (I12 (o + 25) (((16 * r7) + r11) : Int32).toNatClampNeg) x8) ∧ (¬ (((I12 (o + 18) (((3 * (I12 o 34)) + x1) : Int32).toNatClampNeg) >>> ((I12 (o + 20) (((5 * (I12 o 34)) + x6) : Int32).toNatClampNeg) &&& 31)) &&& 1) = 0 → (((I12 (o + 25) (((16 * r7) + r11) : Int32).toNatClampNeg) < 1000000 → Ev (qGG D cA b E) mModel_priceOf 0 (0, 0) 0 (lv_args 0 [.ref o, .int x6]) [] (n, sh, Rf, I12, L13) (fun v τ => ∃ (r20 : Int32) (I21 : Nat → Nat → Int32) (L22 : Nat → Nat → Int64), v = some (.int r20) ∧ τ = (n, sh, Rf, I21, L22) ∧ Ev (qGG D cA b E) mModel_monthsOf 0 (0, 0) 0 (lv_args 0 [.int ((I12 (o + 25) (((16 * r7) + r11) : Int32).toNatClampNeg))]) [] (n, sh, Rf, I21, L22) (fun v τ => ∃ (r24 : Int32) (I25 : Nat → Nat → Int32) (L26 : Nat → Nat → Int64), v = some (.int r24) ∧ τ = (n, sh, Rf, I25, L26) ∧ (((I25 o 120) < 0 → fModel_worthOf_161 D cA b E o n sh Rf I25 L26 post x1 x2 x4 x6 (I12 (o + 25) (((16 * r7) + r11) : Int32).toNatClampNeg) ((((r20 : Int32).toInt64 - ((I21 o 109) : Int32).toInt64) - ((((I12 (o + 25) (((16 * r7) + r11) : Int32).toNatClampNeg) * (I21 o 69)) / 10) : Int32).toInt64) - (((I21 o 71) : Int32).toInt64 * ((r24 : Int32).toInt64 + x4)))) ∧ (¬ (I25 o 120) < 0 → ((0 < (lg_cmp ((((r20 : Int32).toInt64 - ((I21 o 109) : Int32).toInt64) - ((((I12 (o + 25) (((16 * r7) + r11) : Int32).toNatClampNeg) * (I21 o 69)) / 10) : Int32).toInt64) - (((I21 o 71) : Int32).toInt64 * ((r24 : Int32).toInt64 + x4))) x2) → fModel_worthOf_161 D cA b E o n sh Rf I25 L26 post x1 x2 x4 x6 (I12 (o + 25) (((16 * r7) + r11) : Int32).toNatClampNeg) ((((r20 : Int32).toInt64 - ((I21 o 109) : Int32).toInt64) - ((((I12 (o + 25) (((16 * r7) + r11) : Int32).toNatClampNeg) * (I21 o 69)) / 10) : Int32).toInt64) - (((I21 o 71) : Int32).toInt64 * ((r24 : Int32).toInt64 + x4)))) ∧ (¬ 0 < (lg_cmp ((((r20 : Int32).toInt64 - ((I21 o 109) : Int32).toInt64) - ((((I12 (o + 25) (((16 * r7) + r11) : Int32).toNatClampNeg) * (I21 o 69)) / 10) : Int32).toInt64) - (((I21 o 71) : Int32).toInt64 * ((r24 : Int32).toInt64 + x4))) x2) → fModel_worthOf_170_4 D cA b E o n sh Rf I25 L26 post x1 x2 x4 x6 (I12 (o + 25) (((16 * r7) + r11) : Int32).toNatClampNeg) ((((r20 : Int32).toInt64 - ((I21 o 109) : Int32).toInt64) - ((((I12 (o + 25) (((16 * r7) + r11) : Int32).toNatClampNeg) * (I21 o 69)) / 10) : Int32).toInt64) - (((I21 o 71) : Int32).toInt64 * ((r24 : Int32).toInt64 + x4)))))))))) ∧ (¬ (I12 (o + 25) (((16 * r7) + r11) : Int32).toNatClampNeg) < 1000000 → fModel_worthOf_170_4 D cA b E o n sh Rf I12 L13 post x1 x2 x4 x6 (I12 (o + 25) (((16 * r7) + r11) : Int32).toNatClampNeg) x8)))))))))
set_option maxHeartbeats 4000000 in
set_option maxRecDepth 20000 in
theorem sModel_worthOf_26_6 {D : va_G} {cA : FieldType → ClassId} {b : Nat} {E : State → Prop} (o : Nat) (n : Nat) (sh : Nat → qC) (Rf : Nat → Nat → Option Nat) (I : Nat → Nat → Int32) (L : Nat → Nat → Int64) (post : Option Value → qS → Prop) (x1 : Int32) (x2 : Int64) (x4 : Int64) (x6 : Int32) (x7 : Int32) (x8 : Int64) (hok : q_ok (qGG D cA b E)) (hw : WfModel (qGG D cA b E) n sh Rf o) (H : fModel_worthOf_26_6 D cA b E o n sh Rf I L post x1 x2 x4 x6 x7 x8) : Ev (qGG D cA b E) mModel_worthOf 2 (0, 0) 26 [(0, .ref o), (1, .int x1), (2, .long x2), (4, .long x4), (6, .int x6), (7, .int x7), (8, .long x8)] [] (n, sh, Rf, I, L) post := by
  unfold fModel_worthOf_26_6 at H
  refine ev_iload dModel_worthOf_26 rfl ?_
  refine ev_aload_n dModel_worthOf_28 rfl ?_
  refine ev_callV [] [.int x6] (B' := (0, 0)) (B'' := (0, 0)) hok mmModel_towns mk_Model_488 (ci := 12) rfl rfl (woModel hw) rfl (Nat.le_of_ble_eq_true rfl) rfl (Nat.le_of_ble_eq_true rfl) dModel_worthOf_29 rfl (by decide) H (fun v τ p1 => ?_)
  obtain ⟨r2, I3, L4, rfl, rfl, H⟩ := p1
  refine ev_icmp_ge 176 dModel_worthOf_32 (by decide) (fun c5 => ?_) (fun c5 => ?_)
  · have H := H.1 c5
    refine ev_lload_n dModel_worthOf_176 rfl ?_
    exact ev_lret rfl dModel_worthOf_177 H
  · have H := H.2 c5
    refine ev_aload_n dModel_worthOf_35 rfl ?_
    refine ev_getR hok fk_Model_269 (woModel hw) (fun _ _ _ => rfl) (wrModel_36 hw) dModel_worthOf_36 ?_
    refine ev_bipush (16) dModel_worthOf_39 (by decide) ?_
    refine ev_aload_n dModel_worthOf_41 rfl ?_
    refine ev_iload_n dModel_worthOf_42 rfl ?_
    refine ev_callV [.int x1] [.int 16, .ref ((o + 25))] (B' := (0, 0)) (B'' := (0, 0)) hok mmModel_panAt mk_Model_491 (ci := 12) rfl rfl (woModel hw) rfl (Nat.le_of_ble_eq_true rfl) rfl (Nat.le_of_ble_eq_true rfl) dModel_worthOf_43 rfl (by decide) H (fun v τ p6 => ?_)
    obtain ⟨r7, I8, L9, rfl, rfl, H⟩ := p6
    refine ev_imul dModel_worthOf_46 ?_
    refine ev_aload_n dModel_worthOf_47 rfl ?_
    refine ev_iload dModel_worthOf_48 rfl ?_
    refine ev_callV [.int x6] [.int ((16 * r7)), .ref ((o + 25))] (B' := (0, 0)) (B'' := (0, 0)) hok mmModel_townAt mk_Model_494 (ci := 12) rfl rfl (woModel hw) rfl (Nat.le_of_ble_eq_true rfl) rfl (Nat.le_of_ble_eq_true rfl) dModel_worthOf_50 rfl (by decide) H (fun v τ p10 => ?_)
    obtain ⟨r11, I12, L13, rfl, rfl, H⟩ := p10
    refine ev_iadd dModel_worthOf_53 ?_
    obtain ⟨h14, H⟩ := H
    refine ev_iald hok (waModel_36 hw) h14 dModel_worthOf_54 ?_
    refine ev_istore dModel_worthOf_55 (by decide) ?_
    refine ev_aload_n dModel_worthOf_57 rfl ?_
    refine ev_getR hok fk_Model_248 (woModel hw) (fun _ _ _ => rfl) (wrModel_27 hw) dModel_worthOf_58 ?_
    refine ev_iconst (3) dModel_worthOf_61 (by decide) ?_
    refine ev_aload_n dModel_worthOf_62 rfl ?_
    refine ev_getI hok fk_Model_147 (woModel hw) (fun _ _ _ => rfl) dModel_worthOf_63 ?_
    refine ev_imul dModel_worthOf_66 ?_
    refine ev_iload_n dModel_worthOf_67 rfl ?_
    refine ev_iadd dModel_worthOf_68 ?_
    obtain ⟨h15, H⟩ := H
    refine ev_iald hok (waModel_27 hw) h15 dModel_worthOf_69 ?_
    refine ev_aload_n dModel_worthOf_70 rfl ?_
    refine ev_getR hok fk_Model_254 (woModel hw) (fun _ _ _ => rfl) (wrModel_29 hw) dModel_worthOf_71 ?_
    refine ev_iconst (5) dModel_worthOf_74 (by decide) ?_
    refine ev_aload_n dModel_worthOf_75 rfl ?_
    refine ev_getI hok fk_Model_147 (woModel hw) (fun _ _ _ => rfl) dModel_worthOf_76 ?_
    refine ev_imul dModel_worthOf_79 ?_
    refine ev_iload dModel_worthOf_80 rfl ?_
    refine ev_iadd dModel_worthOf_82 ?_
    obtain ⟨h16, H⟩ := H
    refine ev_iald hok (waModel_29 hw) h16 dModel_worthOf_83 ?_
    refine ev_ishr dModel_worthOf_84 ?_
    refine ev_iconst (1) dModel_worthOf_85 (by decide) ?_
    refine ev_iand dModel_worthOf_86 ?_
    refine ev_if_eq 170 dModel_worthOf_87 (by decide) (fun c17 => ?_) (fun c17 => ?_)
    · have H := H.1 c17
      exact ev_sub [(0, .ref o), (1, .int x1), (2, .long x2), (4, .long x4), (6, .int x6), (7, .int ((I12 (o + 25) (((16 * r7) + r11) : Int32).toNatClampNeg))), (8, .long x8)] rfl (sModel_worthOf_170_4 o n sh Rf I12 L13 post x1 x2 x4 x6 (I12 (o + 25) (((16 * r7) + r11) : Int32).toNatClampNeg) x8 hok hw H)
    · have H := H.2 c17
      refine ev_iload dModel_worthOf_90 rfl ?_
      refine ev_ldcw (1000000) dModel_worthOf_92 (q_t7 92 (by decide +kernel) rfl) ?_
      refine ev_icmp_lt 101 dModel_worthOf_95 (by decide) (fun c18 => ?_) (fun c18 => ?_)
      · have H := H.1 c18
        refine ev_aload_n dModel_worthOf_101 rfl ?_
        refine ev_iload dModel_worthOf_102 rfl ?_
        refine ev_callV [.int x6] [] (B' := (0, 0)) (B'' := (0, 0)) hok mmModel_priceOf mk_Model_497 (ci := 12) rfl rfl (woModel hw) rfl (Nat.le_of_ble_eq_true rfl) rfl (Nat.le_of_ble_eq_true rfl) dModel_worthOf_104 rfl (by decide) H (fun v τ p19 => ?_)
        obtain ⟨r20, I21, L22, rfl, rfl, H⟩ := p19
        refine ev_i2l dModel_worthOf_107 ?_
        refine ev_aload_n dModel_worthOf_108 rfl ?_
        refine ev_getI hok fk_Model_500 (woModel hw) (fun _ _ _ => rfl) dModel_worthOf_109 ?_
        refine ev_i2l dModel_worthOf_112 ?_
        refine ev_lsub dModel_worthOf_113 ?_
        refine ev_iload dModel_worthOf_114 rfl ?_
        refine ev_aload_n dModel_worthOf_116 rfl ?_
        refine ev_getI hok fk_Model_397 (woModel hw) (fun _ _ _ => rfl) dModel_worthOf_117 ?_
        refine ev_imul dModel_worthOf_120 ?_
        refine ev_bipush (10) dModel_worthOf_121 (by decide) ?_
        refine ev_idiv dModel_worthOf_123 (by decide) ?_
        refine ev_i2l dModel_worthOf_124 ?_
        refine ev_lsub dModel_worthOf_125 ?_
        refine ev_aload_n dModel_worthOf_126 rfl ?_
        refine ev_getI hok fk_Model_403 (woModel hw) (fun _ _ _ => rfl) dModel_worthOf_127 ?_
        refine ev_i2l dModel_worthOf_130 ?_
        refine ev_iload dModel_worthOf_131 rfl ?_
        refine ev_callS [.int ((I12 (o + 25) (((16 * r7) + r11) : Int32).toNatClampNeg))] [.long (((I21 o 71) : Int32).toInt64), .long ((((r20 : Int32).toInt64 - ((I21 o 109) : Int32).toInt64) - ((((I12 (o + 25) (((16 * r7) + r11) : Int32).toNatClampNeg) * (I21 o 69)) / 10) : Int32).toInt64))] (B' := (0, 0)) (B'' := (0, 0)) hok mmModel_monthsOf mk_Model_503 rfl (Nat.le_of_ble_eq_true rfl) rfl (Nat.le_of_ble_eq_true rfl) dModel_worthOf_133 rfl (by decide) H (fun v τ p23 => ?_)
        obtain ⟨r24, I25, L26, rfl, rfl, H⟩ := p23
        refine ev_i2l dModel_worthOf_136 ?_
        refine ev_lload dModel_worthOf_137 rfl ?_
        refine ev_ladd dModel_worthOf_139 ?_
        refine ev_lmul dModel_worthOf_140 ?_
        refine ev_lsub dModel_worthOf_141 ?_
        refine ev_lstore dModel_worthOf_142 (by decide) ?_
        refine ev_aload_n dModel_worthOf_144 rfl ?_
        refine ev_getI hok fk_Model_480 (woModel hw) (fun _ _ _ => rfl) dModel_worthOf_145 ?_
        refine ev_if_lt 161 dModel_worthOf_148 (by decide) (fun c27 => ?_) (fun c27 => ?_)
        · have H := H.1 c27
          exact ev_sub [(0, .ref o), (1, .int x1), (2, .long x2), (4, .long x4), (6, .int x6), (7, .int ((I12 (o + 25) (((16 * r7) + r11) : Int32).toNatClampNeg))), (8, .long (((((r20 : Int32).toInt64 - ((I21 o 109) : Int32).toInt64) - ((((I12 (o + 25) (((16 * r7) + r11) : Int32).toNatClampNeg) * (I21 o 69)) / 10) : Int32).toInt64) - (((I21 o 71) : Int32).toInt64 * ((r24 : Int32).toInt64 + x4)))))] rfl (sModel_worthOf_161 o n sh Rf I25 L26 post x1 x2 x4 x6 (I12 (o + 25) (((16 * r7) + r11) : Int32).toNatClampNeg) ((((r20 : Int32).toInt64 - ((I21 o 109) : Int32).toInt64) - ((((I12 (o + 25) (((16 * r7) + r11) : Int32).toNatClampNeg) * (I21 o 69)) / 10) : Int32).toInt64) - (((I21 o 71) : Int32).toInt64 * ((r24 : Int32).toInt64 + x4))) hok hw H)
        · have H := H.2 c27
          refine ev_lload dModel_worthOf_151 rfl ?_
          refine ev_lload_n dModel_worthOf_153 rfl ?_
          refine ev_lcmp dModel_worthOf_154 ?_
          refine ev_if_gt 161 dModel_worthOf_155 (by decide) (fun c28 => ?_) (fun c28 => ?_)
          · have H := H.1 c28
            exact ev_sub [(0, .ref o), (1, .int x1), (2, .long x2), (4, .long x4), (6, .int x6), (7, .int ((I12 (o + 25) (((16 * r7) + r11) : Int32).toNatClampNeg))), (8, .long (((((r20 : Int32).toInt64 - ((I21 o 109) : Int32).toInt64) - ((((I12 (o + 25) (((16 * r7) + r11) : Int32).toNatClampNeg) * (I21 o 69)) / 10) : Int32).toInt64) - (((I21 o 71) : Int32).toInt64 * ((r24 : Int32).toInt64 + x4)))))] rfl (sModel_worthOf_161 o n sh Rf I25 L26 post x1 x2 x4 x6 (I12 (o + 25) (((16 * r7) + r11) : Int32).toNatClampNeg) ((((r20 : Int32).toInt64 - ((I21 o 109) : Int32).toInt64) - ((((I12 (o + 25) (((16 * r7) + r11) : Int32).toNatClampNeg) * (I21 o 69)) / 10) : Int32).toInt64) - (((I21 o 71) : Int32).toInt64 * ((r24 : Int32).toInt64 + x4))) hok hw H)
          · have H := H.2 c28
            refine ev_goto 170 dModel_worthOf_158 (by decide) ?_
            exact ev_sub [(0, .ref o), (1, .int x1), (2, .long x2), (4, .long x4), (6, .int x6), (7, .int ((I12 (o + 25) (((16 * r7) + r11) : Int32).toNatClampNeg))), (8, .long (((((r20 : Int32).toInt64 - ((I21 o 109) : Int32).toInt64) - ((((I12 (o + 25) (((16 * r7) + r11) : Int32).toNatClampNeg) * (I21 o 69)) / 10) : Int32).toInt64) - (((I21 o 71) : Int32).toInt64 * ((r24 : Int32).toInt64 + x4)))))] rfl (sModel_worthOf_170_4 o n sh Rf I25 L26 post x1 x2 x4 x6 (I12 (o + 25) (((16 * r7) + r11) : Int32).toNatClampNeg) ((((r20 : Int32).toInt64 - ((I21 o 109) : Int32).toInt64) - ((((I12 (o + 25) (((16 * r7) + r11) : Int32).toNatClampNeg) * (I21 o 69)) / 10) : Int32).toInt64) - (((I21 o 71) : Int32).toInt64 * ((r24 : Int32).toInt64 + x4))) hok hw H)
      · have H := H.2 c18
        refine ev_goto 170 dModel_worthOf_98 (by decide) ?_
        exact ev_sub [(0, .ref o), (1, .int x1), (2, .long x2), (4, .long x4), (6, .int x6), (7, .int ((I12 (o + 25) (((16 * r7) + r11) : Int32).toNatClampNeg))), (8, .long x8)] rfl (sModel_worthOf_170_4 o n sh Rf I12 L13 post x1 x2 x4 x6 (I12 (o + 25) (((16 * r7) + r11) : Int32).toNatClampNeg) x8 hok hw H)
def fModel_worthOf_0 (D : va_G) (cA : FieldType → ClassId) (b : Nat) (E : State → Prop) (o : Nat) (n : Nat) (sh : Nat → qC) (Rf : Nat → Nat → Option Nat) (I : Nat → Nat → Int32) (L : Nat → Nat → Int64) (post : Option Value → qS → Prop) (x1 : Int32) : Prop :=
  ∀ I1 : Nat → Nat → Int32, q_u I o 120 (-1) = I1 → Ev (qGG D cA b E) mModel_waitingAt 1 (0, 0) 0 (lv_args 0 [.ref o, .int x1]) [] (n, sh, Rf, I1, L) (fun v τ => ∃ (r3 : Int32) (I4 : Nat → Nat → Int32) (L5 : Nat → Nat → Int64), v = some (.int r3) ∧ τ = (n, sh, Rf, I4, L5) ∧ Ev (qGG D cA b E) mModel_aTwelfth 1 (0, 0) 0 (lv_args 0 [.ref o, .int x1]) [] (n, sh, Rf, I4, L5) (fun v τ => ∃ (r7 : Int32) (I8 : Nat → Nat → Int32) (L9 : Nat → Nat → Int64), v = some (.int r7) ∧ τ = (n, sh, Rf, I8, L9) ∧ (¬ (r7 : Int32) = 0) ∧ Ev (qGG D cA b E) mModel_worthOf 2 (0, 0) 26 [(0, .ref o), (1, .int x1), (2, .long ((-1000000000000))), (4, .long (((r3 / r7) : Int32).toInt64)), (6, .int 0)] [] (n, sh, Rf, I8, L9) post))
set_option maxHeartbeats 4000000 in
set_option maxRecDepth 20000 in
theorem sModel_worthOf_0 {D : va_G} {cA : FieldType → ClassId} {b : Nat} {E : State → Prop} (o : Nat) (n : Nat) (sh : Nat → qC) (Rf : Nat → Nat → Option Nat) (I : Nat → Nat → Int32) (L : Nat → Nat → Int64) (post : Option Value → qS → Prop) (x1 : Int32) (hok : q_ok (qGG D cA b E)) (hw : WfModel (qGG D cA b E) n sh Rf o) (H : fModel_worthOf_0 D cA b E o n sh Rf I L post x1) : Ev (qGG D cA b E) mModel_worthOf 2 (0, 0) 0 [(0, .ref o), (1, .int x1)] [] (n, sh, Rf, I, L) post := by
  unfold fModel_worthOf_0 at H
  refine ev_aload_n dModel_worthOf_0 rfl ?_
  refine ev_iconst (-1) dModel_worthOf_1 (by decide) ?_
  refine ev_putI hok fk_Model_480 (woModel hw) (fun _ _ _ => rfl) rfl rfl dModel_worthOf_2 ?_
  generalize eI1 : q_u I o 120 (-1) = I1
  have H := H I1 eI1
  refine ev_ldc2 (-1000000000000) dModel_worthOf_5 (q_t8 48 (by decide +kernel) rfl) ?_
  refine ev_lstore_n dModel_worthOf_8 (by decide) ?_
  refine ev_aload_n dModel_worthOf_9 rfl ?_
  refine ev_iload_n dModel_worthOf_10 rfl ?_
  refine ev_callV [.int x1] [] (B' := (0, 0)) (B'' := (0, 0)) hok mmModel_waitingAt mk_Model_466 (ci := 12) rfl rfl (woModel hw) rfl (Nat.le_of_ble_eq_true rfl) rfl (Nat.le_of_ble_eq_true rfl) dModel_worthOf_11 rfl (by decide) H (fun v τ p2 => ?_)
  obtain ⟨r3, I4, L5, rfl, rfl, H⟩ := p2
  refine ev_aload_n dModel_worthOf_14 rfl ?_
  refine ev_iload_n dModel_worthOf_15 rfl ?_
  refine ev_callV [.int x1] [.int r3] (B' := (0, 0)) (B'' := (0, 0)) hok mmModel_aTwelfth mk_Model_485 (ci := 12) rfl rfl (woModel hw) rfl (Nat.le_of_ble_eq_true rfl) rfl (Nat.le_of_ble_eq_true rfl) dModel_worthOf_16 rfl (by decide) H (fun v τ p6 => ?_)
  obtain ⟨r7, I8, L9, rfl, rfl, H⟩ := p6
  obtain ⟨h10, H⟩ := H
  refine ev_idiv dModel_worthOf_19 h10 ?_
  refine ev_i2l dModel_worthOf_20 ?_
  refine ev_lstore dModel_worthOf_21 (by decide) ?_
  refine ev_iconst (0) dModel_worthOf_23 (by decide) ?_
  refine ev_istore dModel_worthOf_24 (by decide) ?_
  exact ev_sub [(0, .ref o), (1, .int x1), (2, .long ((-1000000000000))), (4, .long (((r3 / r7) : Int32).toInt64)), (6, .int 0)] rfl H
def fModel_bestPan_55 (D : va_G) (cA : FieldType → ClassId) (b : Nat) (E : State → Prop) (o : Nat) (n : Nat) (sh : Nat → qC) (Rf : Nat → Nat → Option Nat) (I : Nat → Nat → Int32) (L : Nat → Nat → Int64) (post : Option Value → qS → Prop) (x1 : Int32) (x2 : Int32) (x3 : Int64) : Prop :=
  Ev (qGG D cA b E) mModel_bestPan 3 (0, 0) 11 [(0, .ref o), (1, .int x1), (2, .int ((x2 + Int32.ofInt 1))), (3, .long x3)] [] (n, sh, Rf, I, L) post
set_option maxHeartbeats 4000000 in
set_option maxRecDepth 20000 in
theorem sModel_bestPan_55 {D : va_G} {cA : FieldType → ClassId} {b : Nat} {E : State → Prop} (o : Nat) (n : Nat) (sh : Nat → qC) (Rf : Nat → Nat → Option Nat) (I : Nat → Nat → Int32) (L : Nat → Nat → Int64) (post : Option Value → qS → Prop) (x1 : Int32) (x2 : Int32) (x3 : Int64) (hok : q_ok (qGG D cA b E)) (hw : WfModel (qGG D cA b E) n sh Rf o) (H : fModel_bestPan_55 D cA b E o n sh Rf I L post x1 x2 x3) : Ev (qGG D cA b E) mModel_bestPan 3 (0, 0) 55 [(0, .ref o), (1, .int x1), (2, .int x2), (3, .long x3)] [] (n, sh, Rf, I, L) post := by
  unfold fModel_bestPan_55 at H
  refine ev_iinc dModel_bestPan_55 rfl (by decide) ?_
  refine ev_goto 11 dModel_bestPan_58 (by decide) ?_
  exact ev_sub [(0, .ref o), (1, .int x1), (2, .int ((x2 + Int32.ofInt 1))), (3, .long x3)] rfl H
def fModel_bestPan_48 (D : va_G) (cA : FieldType → ClassId) (b : Nat) (E : State → Prop) (o : Nat) (n : Nat) (sh : Nat → qC) (Rf : Nat → Nat → Option Nat) (I : Nat → Nat → Int32) (L : Nat → Nat → Int64) (post : Option Value → qS → Prop) (x1 : Int32) (x2 : Int32) (x3 : Int64) : Prop :=
  ∀ L1 : Nat → Nat → Int64, q_u L o 121 x3 = L1 → fModel_bestPan_55 D cA b E o n sh Rf I L1 post x2 x2 x3
set_option maxHeartbeats 4000000 in
set_option maxRecDepth 20000 in
theorem sModel_bestPan_48 {D : va_G} {cA : FieldType → ClassId} {b : Nat} {E : State → Prop} (o : Nat) (n : Nat) (sh : Nat → qC) (Rf : Nat → Nat → Option Nat) (I : Nat → Nat → Int32) (L : Nat → Nat → Int64) (post : Option Value → qS → Prop) (x1 : Int32) (x2 : Int32) (x3 : Int64) (hok : q_ok (qGG D cA b E)) (hw : WfModel (qGG D cA b E) n sh Rf o) (H : fModel_bestPan_48 D cA b E o n sh Rf I L post x1 x2 x3) : Ev (qGG D cA b E) mModel_bestPan 3 (0, 0) 48 [(0, .ref o), (1, .int x1), (2, .int x2), (3, .long x3)] [] (n, sh, Rf, I, L) post := by
  unfold fModel_bestPan_48 at H
  refine ev_iload_n dModel_bestPan_48 rfl ?_
  refine ev_istore_n dModel_bestPan_49 (by decide) ?_
  refine ev_aload_n dModel_bestPan_50 rfl ?_
  refine ev_lload_n dModel_bestPan_51 rfl ?_
  refine ev_putL hok fk_Model_506 (woModel hw) (fun _ _ _ => rfl) rfl rfl dModel_bestPan_52 ?_
  generalize eL1 : q_u L o 121 x3 = L1
  have H := H L1 eL1
  exact ev_sub [(0, .ref o), (1, .int x2), (2, .int x2), (3, .long x3)] rfl (sModel_bestPan_55 o n sh Rf I L1 post x2 x2 x3 hok hw H)
def fModel_bestPan_11 (D : va_G) (cA : FieldType → ClassId) (b : Nat) (E : State → Prop) (o : Nat) (n : Nat) (sh : Nat → qC) (Rf : Nat → Nat → Option Nat) (I : Nat → Nat → Int32) (L : Nat → Nat → Int64) (post : Option Value → qS → Prop) (x1 : Int32) (x2 : Int32) : Prop :=
  Ev (qGG D cA b E) mModel_pans 0 (0, 0) 0 (lv_args 0 [.ref o]) [] (n, sh, Rf, I, L) (fun v τ => ∃ (r2 : Int32) (I3 : Nat → Nat → Int32) (L4 : Nat → Nat → Int64), v = some (.int r2) ∧ τ = (n, sh, Rf, I3, L4) ∧ ((r2 ≤ x2 → post (some (.int x1)) (n, sh, Rf, I3, L4)) ∧ (¬ r2 ≤ x2 → Ev (qGG D cA b E) mModel_worthOf 2 (0, 0) 0 (lv_args 0 [.ref o, .int x2]) [] (n, sh, Rf, I3, L4) (fun v τ => ∃ (r7 : Int64) (I8 : Nat → Nat → Int32) (L9 : Nat → Nat → Int64), v = some (.long r7) ∧ τ = (n, sh, Rf, I8, L9) ∧ (((I8 o 120) < 0 → fModel_bestPan_55 D cA b E o n sh Rf I8 L9 post x1 x2 r7) ∧ (¬ (I8 o 120) < 0 → ((x1 < 0 → fModel_bestPan_48 D cA b E o n sh Rf I8 L9 post x1 x2 r7) ∧ (¬ x1 < 0 → ((0 < (lg_cmp r7 (L9 o 121)) → fModel_bestPan_48 D cA b E o n sh Rf I8 L9 post x1 x2 r7) ∧ (¬ 0 < (lg_cmp r7 (L9 o 121)) → fModel_bestPan_55 D cA b E o n sh Rf I8 L9 post x1 x2 r7))))))))))
set_option maxHeartbeats 4000000 in
set_option maxRecDepth 20000 in
theorem sModel_bestPan_11 {D : va_G} {cA : FieldType → ClassId} {b : Nat} {E : State → Prop} (o : Nat) (n : Nat) (sh : Nat → qC) (Rf : Nat → Nat → Option Nat) (I : Nat → Nat → Int32) (L : Nat → Nat → Int64) (post : Option Value → qS → Prop) (x1 : Int32) (x2 : Int32) (hok : q_ok (qGG D cA b E)) (hw : WfModel (qGG D cA b E) n sh Rf o) (H : fModel_bestPan_11 D cA b E o n sh Rf I L post x1 x2) : Ev (qGG D cA b E) mModel_bestPan 3 (0, 0) 11 [(0, .ref o), (1, .int x1), (2, .int x2)] [] (n, sh, Rf, I, L) post := by
  unfold fModel_bestPan_11 at H
  refine ev_iload_n dModel_bestPan_11 rfl ?_
  refine ev_aload_n dModel_bestPan_12 rfl ?_
  refine ev_callV [] [.int x2] (B' := (0, 0)) (B'' := (0, 0)) hok mmModel_pans mk_Model_433 (ci := 12) rfl rfl (woModel hw) rfl (Nat.le_of_ble_eq_true rfl) rfl (Nat.le_of_ble_eq_true rfl) dModel_bestPan_13 rfl (by decide) H (fun v τ p1 => ?_)
  obtain ⟨r2, I3, L4, rfl, rfl, H⟩ := p1
  refine ev_icmp_ge 61 dModel_bestPan_16 (by decide) (fun c5 => ?_) (fun c5 => ?_)
  · have H := H.1 c5
    refine ev_iload_n dModel_bestPan_61 rfl ?_
    exact ev_iret rfl dModel_bestPan_62 H
  · have H := H.2 c5
    refine ev_aload_n dModel_bestPan_19 rfl ?_
    refine ev_iload_n dModel_bestPan_20 rfl ?_
    refine ev_callV [.int x2] [] (B' := (0, 0)) (B'' := (0, 0)) hok mmModel_worthOf mk_Model_509 (ci := 12) rfl rfl (woModel hw) rfl (Nat.le_of_ble_eq_true rfl) rfl (Nat.le_of_ble_eq_true rfl) dModel_bestPan_21 rfl (by decide) H (fun v τ p6 => ?_)
    obtain ⟨r7, I8, L9, rfl, rfl, H⟩ := p6
    refine ev_lstore_n dModel_bestPan_24 (by decide) ?_
    refine ev_aload_n dModel_bestPan_25 rfl ?_
    refine ev_getI hok fk_Model_480 (woModel hw) (fun _ _ _ => rfl) dModel_bestPan_26 ?_
    refine ev_if_lt 55 dModel_bestPan_29 (by decide) (fun c10 => ?_) (fun c10 => ?_)
    · have H := H.1 c10
      exact ev_sub [(0, .ref o), (1, .int x1), (2, .int x2), (3, .long r7)] rfl (sModel_bestPan_55 o n sh Rf I8 L9 post x1 x2 r7 hok hw H)
    · have H := H.2 c10
      refine ev_iload_n dModel_bestPan_32 rfl ?_
      refine ev_if_lt 48 dModel_bestPan_33 (by decide) (fun c11 => ?_) (fun c11 => ?_)
      · have H := H.1 c11
        exact ev_sub [(0, .ref o), (1, .int x1), (2, .int x2), (3, .long r7)] rfl (sModel_bestPan_48 o n sh Rf I8 L9 post x1 x2 r7 hok hw H)
      · have H := H.2 c11
        refine ev_lload_n dModel_bestPan_36 rfl ?_
        refine ev_aload_n dModel_bestPan_37 rfl ?_
        refine ev_getL hok fk_Model_506 (woModel hw) (fun _ _ _ => rfl) dModel_bestPan_38 ?_
        refine ev_lcmp dModel_bestPan_41 ?_
        refine ev_if_gt 48 dModel_bestPan_42 (by decide) (fun c12 => ?_) (fun c12 => ?_)
        · have H := H.1 c12
          exact ev_sub [(0, .ref o), (1, .int x1), (2, .int x2), (3, .long r7)] rfl (sModel_bestPan_48 o n sh Rf I8 L9 post x1 x2 r7 hok hw H)
        · have H := H.2 c12
          refine ev_goto 55 dModel_bestPan_45 (by decide) ?_
          exact ev_sub [(0, .ref o), (1, .int x1), (2, .int x2), (3, .long r7)] rfl (sModel_bestPan_55 o n sh Rf I8 L9 post x1 x2 r7 hok hw H)
def fModel_bestPan_11_4 (D : va_G) (cA : FieldType → ClassId) (b : Nat) (E : State → Prop) (o : Nat) (n : Nat) (sh : Nat → qC) (Rf : Nat → Nat → Option Nat) (I : Nat → Nat → Int32) (L : Nat → Nat → Int64) (post : Option Value → qS → Prop) (x1 : Int32) (x2 : Int32) (x3 : Int64) : Prop :=
  Ev (qGG D cA b E) mModel_pans 0 (0, 0) 0 (lv_args 0 [.ref o]) [] (n, sh, Rf, I, L) (fun v τ => ∃ (r2 : Int32) (I3 : Nat → Nat → Int32) (L4 : Nat → Nat → Int64), v = some (.int r2) ∧ τ = (n, sh, Rf, I3, L4) ∧ ((r2 ≤ x2 → post (some (.int x1)) (n, sh, Rf, I3, L4)) ∧ (¬ r2 ≤ x2 → Ev (qGG D cA b E) mModel_worthOf 2 (0, 0) 0 (lv_args 0 [.ref o, .int x2]) [] (n, sh, Rf, I3, L4) (fun v τ => ∃ (r7 : Int64) (I8 : Nat → Nat → Int32) (L9 : Nat → Nat → Int64), v = some (.long r7) ∧ τ = (n, sh, Rf, I8, L9) ∧ (((I8 o 120) < 0 → fModel_bestPan_55 D cA b E o n sh Rf I8 L9 post x1 x2 r7) ∧ (¬ (I8 o 120) < 0 → ((x1 < 0 → fModel_bestPan_48 D cA b E o n sh Rf I8 L9 post x1 x2 r7) ∧ (¬ x1 < 0 → ((0 < (lg_cmp r7 (L9 o 121)) → fModel_bestPan_48 D cA b E o n sh Rf I8 L9 post x1 x2 r7) ∧ (¬ 0 < (lg_cmp r7 (L9 o 121)) → fModel_bestPan_55 D cA b E o n sh Rf I8 L9 post x1 x2 r7))))))))))
set_option maxHeartbeats 4000000 in
set_option maxRecDepth 20000 in
theorem sModel_bestPan_11_4 {D : va_G} {cA : FieldType → ClassId} {b : Nat} {E : State → Prop} (o : Nat) (n : Nat) (sh : Nat → qC) (Rf : Nat → Nat → Option Nat) (I : Nat → Nat → Int32) (L : Nat → Nat → Int64) (post : Option Value → qS → Prop) (x1 : Int32) (x2 : Int32) (x3 : Int64) (hok : q_ok (qGG D cA b E)) (hw : WfModel (qGG D cA b E) n sh Rf o) (H : fModel_bestPan_11_4 D cA b E o n sh Rf I L post x1 x2 x3) : Ev (qGG D cA b E) mModel_bestPan 3 (0, 0) 11 [(0, .ref o), (1, .int x1), (2, .int x2), (3, .long x3)] [] (n, sh, Rf, I, L) post := by
  unfold fModel_bestPan_11_4 at H
  refine ev_iload_n dModel_bestPan_11 rfl ?_
  refine ev_aload_n dModel_bestPan_12 rfl ?_
  refine ev_callV [] [.int x2] (B' := (0, 0)) (B'' := (0, 0)) hok mmModel_pans mk_Model_433 (ci := 12) rfl rfl (woModel hw) rfl (Nat.le_of_ble_eq_true rfl) rfl (Nat.le_of_ble_eq_true rfl) dModel_bestPan_13 rfl (by decide) H (fun v τ p1 => ?_)
  obtain ⟨r2, I3, L4, rfl, rfl, H⟩ := p1
  refine ev_icmp_ge 61 dModel_bestPan_16 (by decide) (fun c5 => ?_) (fun c5 => ?_)
  · have H := H.1 c5
    refine ev_iload_n dModel_bestPan_61 rfl ?_
    exact ev_iret rfl dModel_bestPan_62 H
  · have H := H.2 c5
    refine ev_aload_n dModel_bestPan_19 rfl ?_
    refine ev_iload_n dModel_bestPan_20 rfl ?_
    refine ev_callV [.int x2] [] (B' := (0, 0)) (B'' := (0, 0)) hok mmModel_worthOf mk_Model_509 (ci := 12) rfl rfl (woModel hw) rfl (Nat.le_of_ble_eq_true rfl) rfl (Nat.le_of_ble_eq_true rfl) dModel_bestPan_21 rfl (by decide) H (fun v τ p6 => ?_)
    obtain ⟨r7, I8, L9, rfl, rfl, H⟩ := p6
    refine ev_lstore_n dModel_bestPan_24 (by decide) ?_
    refine ev_aload_n dModel_bestPan_25 rfl ?_
    refine ev_getI hok fk_Model_480 (woModel hw) (fun _ _ _ => rfl) dModel_bestPan_26 ?_
    refine ev_if_lt 55 dModel_bestPan_29 (by decide) (fun c10 => ?_) (fun c10 => ?_)
    · have H := H.1 c10
      exact ev_sub [(0, .ref o), (1, .int x1), (2, .int x2), (3, .long r7)] rfl (sModel_bestPan_55 o n sh Rf I8 L9 post x1 x2 r7 hok hw H)
    · have H := H.2 c10
      refine ev_iload_n dModel_bestPan_32 rfl ?_
      refine ev_if_lt 48 dModel_bestPan_33 (by decide) (fun c11 => ?_) (fun c11 => ?_)
      · have H := H.1 c11
        exact ev_sub [(0, .ref o), (1, .int x1), (2, .int x2), (3, .long r7)] rfl (sModel_bestPan_48 o n sh Rf I8 L9 post x1 x2 r7 hok hw H)
      · have H := H.2 c11
        refine ev_lload_n dModel_bestPan_36 rfl ?_
        refine ev_aload_n dModel_bestPan_37 rfl ?_
        refine ev_getL hok fk_Model_506 (woModel hw) (fun _ _ _ => rfl) dModel_bestPan_38 ?_
        refine ev_lcmp dModel_bestPan_41 ?_
        refine ev_if_gt 48 dModel_bestPan_42 (by decide) (fun c12 => ?_) (fun c12 => ?_)
        · have H := H.1 c12
          exact ev_sub [(0, .ref o), (1, .int x1), (2, .int x2), (3, .long r7)] rfl (sModel_bestPan_48 o n sh Rf I8 L9 post x1 x2 r7 hok hw H)
        · have H := H.2 c12
          refine ev_goto 55 dModel_bestPan_45 (by decide) ?_
          exact ev_sub [(0, .ref o), (1, .int x1), (2, .int x2), (3, .long r7)] rfl (sModel_bestPan_55 o n sh Rf I8 L9 post x1 x2 r7 hok hw H)
def fModel_bestPan_0 (D : va_G) (cA : FieldType → ClassId) (b : Nat) (E : State → Prop) (o : Nat) (n : Nat) (sh : Nat → qC) (Rf : Nat → Nat → Option Nat) (I : Nat → Nat → Int32) (L : Nat → Nat → Int64) (post : Option Value → qS → Prop)  : Prop :=
  ∀ L1 : Nat → Nat → Int64, q_u L o 121 (-1000000000000) = L1 → Ev (qGG D cA b E) mModel_bestPan 3 (0, 0) 11 [(0, .ref o), (1, .int ((-1))), (2, .int 0)] [] (n, sh, Rf, I, L1) post
set_option maxHeartbeats 4000000 in
set_option maxRecDepth 20000 in
theorem sModel_bestPan_0 {D : va_G} {cA : FieldType → ClassId} {b : Nat} {E : State → Prop} (o : Nat) (n : Nat) (sh : Nat → qC) (Rf : Nat → Nat → Option Nat) (I : Nat → Nat → Int32) (L : Nat → Nat → Int64) (post : Option Value → qS → Prop)  (hok : q_ok (qGG D cA b E)) (hw : WfModel (qGG D cA b E) n sh Rf o) (H : fModel_bestPan_0 D cA b E o n sh Rf I L post ) : Ev (qGG D cA b E) mModel_bestPan 3 (0, 0) 0 [(0, .ref o)] [] (n, sh, Rf, I, L) post := by
  unfold fModel_bestPan_0 at H
  refine ev_iconst (-1) dModel_bestPan_0 (by decide) ?_
  refine ev_istore_n dModel_bestPan_1 (by decide) ?_
  refine ev_aload_n dModel_bestPan_2 rfl ?_
  refine ev_ldc2 (-1000000000000) dModel_bestPan_3 (q_t8 48 (by decide +kernel) rfl) ?_
  refine ev_putL hok fk_Model_506 (woModel hw) (fun _ _ _ => rfl) rfl rfl dModel_bestPan_6 ?_
  generalize eL1 : q_u L o 121 (-1000000000000) = L1
  have H := H L1 eL1
  refine ev_iconst (0) dModel_bestPan_9 (by decide) ?_
  refine ev_istore_n dModel_bestPan_10 (by decide) ?_
  exact ev_sub [(0, .ref o), (1, .int ((-1))), (2, .int 0)] rfl H
def fModel_comes_247 (D : va_G) (cA : FieldType → ClassId) (b : Nat) (E : State → Prop) (o : Nat) (n : Nat) (sh : Nat → qC) (Rf : Nat → Nat → Option Nat) (I : Nat → Nat → Int32) (L : Nat → Nat → Int64) (post : Option Value → qS → Prop) (x1 : Int32) (x2 : Int32) : Prop :=
  Ev (qGG D cA b E) mModel_comes 3 (0, 0) 7 [(0, .ref o), (1, .int x1), (2, .int ((x2 + Int32.ofInt 1)))] [] (n, sh, Rf, I, L) post
set_option maxHeartbeats 4000000 in
set_option maxRecDepth 20000 in
theorem sModel_comes_247 {D : va_G} {cA : FieldType → ClassId} {b : Nat} {E : State → Prop} (o : Nat) (n : Nat) (sh : Nat → qC) (Rf : Nat → Nat → Option Nat) (I : Nat → Nat → Int32) (L : Nat → Nat → Int64) (post : Option Value → qS → Prop) (x1 : Int32) (x2 : Int32) (hok : q_ok (qGG D cA b E)) (hw : WfModel (qGG D cA b E) n sh Rf o) (H : fModel_comes_247 D cA b E o n sh Rf I L post x1 x2) : Ev (qGG D cA b E) mModel_comes 3 (0, 0) 247 [(0, .ref o), (1, .int x1), (2, .int x2)] [] (n, sh, Rf, I, L) post := by
  unfold fModel_comes_247 at H
  refine ev_iinc dModel_comes_247 rfl (by decide) ?_
  refine ev_goto 7 dModel_comes_250 (by decide) ?_
  exact ev_sub [(0, .ref o), (1, .int x1), (2, .int ((x2 + Int32.ofInt 1)))] rfl H
def fModel_comes_247_5 (D : va_G) (cA : FieldType → ClassId) (b : Nat) (E : State → Prop) (o : Nat) (n : Nat) (sh : Nat → qC) (Rf : Nat → Nat → Option Nat) (I : Nat → Nat → Int32) (L : Nat → Nat → Int64) (post : Option Value → qS → Prop) (x1 : Int32) (x2 : Int32) (x3 : Int32) (x4 : Int32) : Prop :=
  Ev (qGG D cA b E) mModel_comes 3 (0, 0) 7 [(0, .ref o), (1, .int x1), (2, .int ((x2 + Int32.ofInt 1))), (3, .int x3), (4, .int x4)] [] (n, sh, Rf, I, L) post
set_option maxHeartbeats 4000000 in
set_option maxRecDepth 20000 in
theorem sModel_comes_247_5 {D : va_G} {cA : FieldType → ClassId} {b : Nat} {E : State → Prop} (o : Nat) (n : Nat) (sh : Nat → qC) (Rf : Nat → Nat → Option Nat) (I : Nat → Nat → Int32) (L : Nat → Nat → Int64) (post : Option Value → qS → Prop) (x1 : Int32) (x2 : Int32) (x3 : Int32) (x4 : Int32) (hok : q_ok (qGG D cA b E)) (hw : WfModel (qGG D cA b E) n sh Rf o) (H : fModel_comes_247_5 D cA b E o n sh Rf I L post x1 x2 x3 x4) : Ev (qGG D cA b E) mModel_comes 3 (0, 0) 247 [(0, .ref o), (1, .int x1), (2, .int x2), (3, .int x3), (4, .int x4)] [] (n, sh, Rf, I, L) post := by
  unfold fModel_comes_247_5 at H
  refine ev_iinc dModel_comes_247 rfl (by decide) ?_
  refine ev_goto 7 dModel_comes_250 (by decide) ?_
  exact ev_sub [(0, .ref o), (1, .int x1), (2, .int ((x2 + Int32.ofInt 1))), (3, .int x3), (4, .int x4)] rfl H
def fModel_comes_183 (D : va_G) (cA : FieldType → ClassId) (b : Nat) (E : State → Prop) (o : Nat) (n : Nat) (sh : Nat → qC) (Rf : Nat → Nat → Option Nat) (I : Nat → Nat → Int32) (L : Nat → Nat → Int64) (post : Option Value → qS → Prop) (x1 : Int32) (x2 : Int32) (x3 : Int32) (x4 : Int32) : Prop :=
  fModel_comes_247_5 D cA b E o n sh Rf I L post x1 x2 x3 x4
set_option maxHeartbeats 4000000 in
set_option maxRecDepth 20000 in
theorem sModel_comes_183 {D : va_G} {cA : FieldType → ClassId} {b : Nat} {E : State → Prop} (o : Nat) (n : Nat) (sh : Nat → qC) (Rf : Nat → Nat → Option Nat) (I : Nat → Nat → Int32) (L : Nat → Nat → Int64) (post : Option Value → qS → Prop) (x1 : Int32) (x2 : Int32) (x3 : Int32) (x4 : Int32) (hok : q_ok (qGG D cA b E)) (hw : WfModel (qGG D cA b E) n sh Rf o) (H : fModel_comes_183 D cA b E o n sh Rf I L post x1 x2 x3 x4) : Ev (qGG D cA b E) mModel_comes 3 (0, 0) 183 [(0, .ref o), (1, .int x1), (2, .int x2), (3, .int x3), (4, .int x4)] [] (n, sh, Rf, I, L) post := by
  unfold fModel_comes_183 at H
  refine ev_goto 247 dModel_comes_183 (by decide) ?_
  exact ev_sub [(0, .ref o), (1, .int x1), (2, .int x2), (3, .int x3), (4, .int x4)] rfl (sModel_comes_247_5 o n sh Rf I L post x1 x2 x3 x4 hok hw H)
def fModel_comes_66 (D : va_G) (cA : FieldType → ClassId) (b : Nat) (E : State → Prop) (o : Nat) (n : Nat) (sh : Nat → qC) (Rf : Nat → Nat → Option Nat) (I : Nat → Nat → Int32) (L : Nat → Nat → Int64) (post : Option Value → qS → Prop) (x1 : Int32) (x2 : Int32) (x3 : Int32) (z0 : Int32) : Prop :=
  vp_in x2 4000 ∧ vp_in (I (o + 60) (x2 : Int32).toNatClampNeg) 5 ∧ vp_in x2 4000 ∧ vp_in (I (o + 60) (x2 : Int32).toNatClampNeg) 5 ∧ ∀ I4 : Nat → Nat → Int32, q_u I (o + 45) ((I (o + 60) (x2 : Int32).toNatClampNeg) : Int32).toNatClampNeg ((I (o + 45) ((I (o + 60) (x2 : Int32).toNatClampNeg) : Int32).toNatClampNeg) + (I (o + 61) (x2 : Int32).toNatClampNeg)) = I4 → vp_in x2 4000 ∧ ∀ L7 : Nat → Nat → Int64, q_u L o 113 ((L o 113) + ((I4 (o + 61) (x2 : Int32).toNatClampNeg) : Int32).toInt64) = L7 → vp_in x2 4000 ∧ ∀ L9 : Nat → Nat → Int64, q_u L7 o 114 ((L7 o 114) + (((I4 (o + 61) (x2 : Int32).toNatClampNeg) : Int32).toInt64 * ((I4 o 109) : Int32).toInt64)) = L9 → vp_in x2 4000 ∧ (((I4 (o + 58) (x2 : Int32).toNatClampNeg) < 0 → vp_in x2 4000 ∧ ∀ L13 : Nat → Nat → Int64, q_u L9 o 114 ((L9 o 114) + (((I4 (o + 61) (x2 : Int32).toNatClampNeg) : Int32).toInt64 * (z0 : Int32).toInt64)) = L13 → fModel_comes_183 D cA b E o n sh Rf I4 L13 post x1 x2 x3 z0) ∧ (¬ (I4 (o + 58) (x2 : Int32).toNatClampNeg) < 0 → vp_in x2 4000 ∧ vp_in (I4 (o + 58) (x2 : Int32).toNatClampNeg) 6 ∧ vp_in x2 4000 ∧ vp_in (I4 (o + 58) (x2 : Int32).toNatClampNeg) 6 ∧ ∀ L17 : Nat → Nat → Int64, q_u L9 (o + 68) ((I4 (o + 58) (x2 : Int32).toNatClampNeg) : Int32).toNatClampNeg ((L9 (o + 68) ((I4 (o + 58) (x2 : Int32).toNatClampNeg) : Int32).toNatClampNeg) + (((I4 (o + 61) (x2 : Int32).toNatClampNeg) : Int32).toInt64 * (z0 : Int32).toInt64)) = L17 → fModel_comes_183 D cA b E o n sh Rf I4 L17 post x1 x2 x3 z0))
set_option maxHeartbeats 4000000 in
set_option maxRecDepth 20000 in
theorem sModel_comes_66 {D : va_G} {cA : FieldType → ClassId} {b : Nat} {E : State → Prop} (o : Nat) (n : Nat) (sh : Nat → qC) (Rf : Nat → Nat → Option Nat) (I : Nat → Nat → Int32) (L : Nat → Nat → Int64) (post : Option Value → qS → Prop) (x1 : Int32) (x2 : Int32) (x3 : Int32) (z0 : Int32) (hok : q_ok (qGG D cA b E)) (hw : WfModel (qGG D cA b E) n sh Rf o) (H : fModel_comes_66 D cA b E o n sh Rf I L post x1 x2 x3 z0) : Ev (qGG D cA b E) mModel_comes 3 (0, 0) 66 [(0, .ref o), (1, .int x1), (2, .int x2), (3, .int x3)] [.int z0] (n, sh, Rf, I, L) post := by
  unfold fModel_comes_66 at H
  refine ev_istore dModel_comes_66 (by decide) ?_
  refine ev_aload_n dModel_comes_68 rfl ?_
  refine ev_getR hok fk_Model_474 (woModel hw) (fun _ _ _ => rfl) (wrModel_78 hw) dModel_comes_69 ?_
  refine ev_aload_n dModel_comes_72 rfl ?_
  refine ev_getR hok fk_Model_557 (woModel hw) (fun _ _ _ => rfl) (wrModel_93 hw) dModel_comes_73 ?_
  refine ev_iload_n dModel_comes_76 rfl ?_
  obtain ⟨h1, H⟩ := H
  refine ev_iald hok (waModel_93 hw) h1 dModel_comes_77 ?_
  refine ev_dup2_11 dModel_comes_78 rfl rfl ?_
  obtain ⟨h2, H⟩ := H
  refine ev_iald hok (waModel_78 hw) h2 dModel_comes_79 ?_
  refine ev_aload_n dModel_comes_80 rfl ?_
  refine ev_getR hok fk_Model_560 (woModel hw) (fun _ _ _ => rfl) (wrModel_94 hw) dModel_comes_81 ?_
  refine ev_iload_n dModel_comes_84 rfl ?_
  obtain ⟨h3, H⟩ := H
  refine ev_iald hok (waModel_94 hw) h3 dModel_comes_85 ?_
  refine ev_iadd dModel_comes_86 ?_
  obtain ⟨h5, H⟩ := H
  refine ev_iast hok (waModel_78 hw) h5 dModel_comes_87 ?_
  generalize eI4 : q_u I (o + 45) ((I (o + 60) (x2 : Int32).toNatClampNeg) : Int32).toNatClampNeg ((I (o + 45) ((I (o + 60) (x2 : Int32).toNatClampNeg) : Int32).toNatClampNeg) + (I (o + 61) (x2 : Int32).toNatClampNeg)) = I4
  have H := H I4 eI4
  refine ev_aload_n dModel_comes_88 rfl ?_
  refine ev_dup dModel_comes_89 rfl ?_
  refine ev_getL hok fk_Model_597 (woModel hw) (fun _ _ _ => rfl) dModel_comes_90 ?_
  refine ev_aload_n dModel_comes_93 rfl ?_
  refine ev_getR hok fk_Model_560 (woModel hw) (fun _ _ _ => rfl) (wrModel_94 hw) dModel_comes_94 ?_
  refine ev_iload_n dModel_comes_97 rfl ?_
  obtain ⟨h6, H⟩ := H
  refine ev_iald hok (waModel_94 hw) h6 dModel_comes_98 ?_
  refine ev_i2l dModel_comes_99 ?_
  refine ev_ladd dModel_comes_100 ?_
  refine ev_putL hok fk_Model_597 (woModel hw) (fun _ _ _ => rfl) rfl rfl dModel_comes_101 ?_
  generalize eL7 : q_u L o 113 ((L o 113) + ((I4 (o + 61) (x2 : Int32).toNatClampNeg) : Int32).toInt64) = L7
  have H := H L7 eL7
  refine ev_aload_n dModel_comes_104 rfl ?_
  refine ev_dup dModel_comes_105 rfl ?_
  refine ev_getL hok fk_Model_581 (woModel hw) (fun _ _ _ => rfl) dModel_comes_106 ?_
  refine ev_aload_n dModel_comes_109 rfl ?_
  refine ev_getR hok fk_Model_560 (woModel hw) (fun _ _ _ => rfl) (wrModel_94 hw) dModel_comes_110 ?_
  refine ev_iload_n dModel_comes_113 rfl ?_
  obtain ⟨h8, H⟩ := H
  refine ev_iald hok (waModel_94 hw) h8 dModel_comes_114 ?_
  refine ev_i2l dModel_comes_115 ?_
  refine ev_aload_n dModel_comes_116 rfl ?_
  refine ev_getI hok fk_Model_500 (woModel hw) (fun _ _ _ => rfl) dModel_comes_117 ?_
  refine ev_i2l dModel_comes_120 ?_
  refine ev_lmul dModel_comes_121 ?_
  refine ev_ladd dModel_comes_122 ?_
  refine ev_putL hok fk_Model_581 (woModel hw) (fun _ _ _ => rfl) rfl rfl dModel_comes_123 ?_
  generalize eL9 : q_u L7 o 114 ((L7 o 114) + (((I4 (o + 61) (x2 : Int32).toNatClampNeg) : Int32).toInt64 * ((I4 o 109) : Int32).toInt64)) = L9
  have H := H L9 eL9
  refine ev_aload_n dModel_comes_126 rfl ?_
  refine ev_getR hok fk_Model_545 (woModel hw) (fun _ _ _ => rfl) (wrModel_91 hw) dModel_comes_127 ?_
  refine ev_iload_n dModel_comes_130 rfl ?_
  obtain ⟨h10, H⟩ := H
  refine ev_iald hok (waModel_91 hw) h10 dModel_comes_131 ?_
  refine ev_if_lt 163 dModel_comes_132 (by decide) (fun c11 => ?_) (fun c11 => ?_)
  · have H := H.1 c11
    refine ev_aload_n dModel_comes_163 rfl ?_
    refine ev_dup dModel_comes_164 rfl ?_
    refine ev_getL hok fk_Model_581 (woModel hw) (fun _ _ _ => rfl) dModel_comes_165 ?_
    refine ev_aload_n dModel_comes_168 rfl ?_
    refine ev_getR hok fk_Model_560 (woModel hw) (fun _ _ _ => rfl) (wrModel_94 hw) dModel_comes_169 ?_
    refine ev_iload_n dModel_comes_172 rfl ?_
    obtain ⟨h12, H⟩ := H
    refine ev_iald hok (waModel_94 hw) h12 dModel_comes_173 ?_
    refine ev_i2l dModel_comes_174 ?_
    refine ev_iload dModel_comes_175 rfl ?_
    refine ev_i2l dModel_comes_177 ?_
    refine ev_lmul dModel_comes_178 ?_
    refine ev_ladd dModel_comes_179 ?_
    refine ev_putL hok fk_Model_581 (woModel hw) (fun _ _ _ => rfl) rfl rfl dModel_comes_180 ?_
    generalize eL13 : q_u L9 o 114 ((L9 o 114) + (((I4 (o + 61) (x2 : Int32).toNatClampNeg) : Int32).toInt64 * (z0 : Int32).toInt64)) = L13
    have H := H L13 eL13
    exact ev_sub [(0, .ref o), (1, .int x1), (2, .int x2), (3, .int x3), (4, .int z0)] rfl (sModel_comes_183 o n sh Rf I4 L13 post x1 x2 x3 z0 hok hw H)
  · have H := H.2 c11
    refine ev_aload_n dModel_comes_135 rfl ?_
    refine ev_getR hok fk_Model_578 (woModel hw) (fun _ _ _ => rfl) (wrModel_101 hw) dModel_comes_136 ?_
    refine ev_aload_n dModel_comes_139 rfl ?_
    refine ev_getR hok fk_Model_545 (woModel hw) (fun _ _ _ => rfl) (wrModel_91 hw) dModel_comes_140 ?_
    refine ev_iload_n dModel_comes_143 rfl ?_
    obtain ⟨h14, H⟩ := H
    refine ev_iald hok (waModel_91 hw) h14 dModel_comes_144 ?_
    refine ev_dup2_11 dModel_comes_145 rfl rfl ?_
    obtain ⟨h15, H⟩ := H
    refine ev_lald hok (waModel_101 hw) h15 dModel_comes_146 ?_
    refine ev_aload_n dModel_comes_147 rfl ?_
    refine ev_getR hok fk_Model_560 (woModel hw) (fun _ _ _ => rfl) (wrModel_94 hw) dModel_comes_148 ?_
    refine ev_iload_n dModel_comes_151 rfl ?_
    obtain ⟨h16, H⟩ := H
    refine ev_iald hok (waModel_94 hw) h16 dModel_comes_152 ?_
    refine ev_i2l dModel_comes_153 ?_
    refine ev_iload dModel_comes_154 rfl ?_
    refine ev_i2l dModel_comes_156 ?_
    refine ev_lmul dModel_comes_157 ?_
    refine ev_ladd dModel_comes_158 ?_
    obtain ⟨h18, H⟩ := H
    refine ev_last hok (waModel_101 hw) h18 dModel_comes_159 ?_
    generalize eL17 : q_u L9 (o + 68) ((I4 (o + 58) (x2 : Int32).toNatClampNeg) : Int32).toNatClampNeg ((L9 (o + 68) ((I4 (o + 58) (x2 : Int32).toNatClampNeg) : Int32).toNatClampNeg) + (((I4 (o + 61) (x2 : Int32).toNatClampNeg) : Int32).toInt64 * (z0 : Int32).toInt64)) = L17
    have H := H L17 eL17
    refine ev_goto 183 dModel_comes_160 (by decide) ?_
    exact ev_sub [(0, .ref o), (1, .int x1), (2, .int x2), (3, .int x3), (4, .int z0)] rfl (sModel_comes_183 o n sh Rf I4 L17 post x1 x2 x3 z0 hok hw H)
def fModel_comes_66_7 (D : va_G) (cA : FieldType → ClassId) (b : Nat) (E : State → Prop) (o : Nat) (n : Nat) (sh : Nat → qC) (Rf : Nat → Nat → Option Nat) (I : Nat → Nat → Int32) (L : Nat → Nat → Int64) (post : Option Value → qS → Prop) (x1 : Int32) (x2 : Int32) (x3 : Int32) (x4 : Int32) (z0 : Int32) : Prop :=
  vp_in x2 4000 ∧ vp_in (I (o + 60) (x2 : Int32).toNatClampNeg) 5 ∧ vp_in x2 4000 ∧ vp_in (I (o + 60) (x2 : Int32).toNatClampNeg) 5 ∧ ∀ I4 : Nat → Nat → Int32, q_u I (o + 45) ((I (o + 60) (x2 : Int32).toNatClampNeg) : Int32).toNatClampNeg ((I (o + 45) ((I (o + 60) (x2 : Int32).toNatClampNeg) : Int32).toNatClampNeg) + (I (o + 61) (x2 : Int32).toNatClampNeg)) = I4 → vp_in x2 4000 ∧ ∀ L7 : Nat → Nat → Int64, q_u L o 113 ((L o 113) + ((I4 (o + 61) (x2 : Int32).toNatClampNeg) : Int32).toInt64) = L7 → vp_in x2 4000 ∧ ∀ L9 : Nat → Nat → Int64, q_u L7 o 114 ((L7 o 114) + (((I4 (o + 61) (x2 : Int32).toNatClampNeg) : Int32).toInt64 * ((I4 o 109) : Int32).toInt64)) = L9 → vp_in x2 4000 ∧ (((I4 (o + 58) (x2 : Int32).toNatClampNeg) < 0 → vp_in x2 4000 ∧ ∀ L13 : Nat → Nat → Int64, q_u L9 o 114 ((L9 o 114) + (((I4 (o + 61) (x2 : Int32).toNatClampNeg) : Int32).toInt64 * (z0 : Int32).toInt64)) = L13 → fModel_comes_183 D cA b E o n sh Rf I4 L13 post x1 x2 x3 z0) ∧ (¬ (I4 (o + 58) (x2 : Int32).toNatClampNeg) < 0 → vp_in x2 4000 ∧ vp_in (I4 (o + 58) (x2 : Int32).toNatClampNeg) 6 ∧ vp_in x2 4000 ∧ vp_in (I4 (o + 58) (x2 : Int32).toNatClampNeg) 6 ∧ ∀ L17 : Nat → Nat → Int64, q_u L9 (o + 68) ((I4 (o + 58) (x2 : Int32).toNatClampNeg) : Int32).toNatClampNeg ((L9 (o + 68) ((I4 (o + 58) (x2 : Int32).toNatClampNeg) : Int32).toNatClampNeg) + (((I4 (o + 61) (x2 : Int32).toNatClampNeg) : Int32).toInt64 * (z0 : Int32).toInt64)) = L17 → fModel_comes_183 D cA b E o n sh Rf I4 L17 post x1 x2 x3 z0))
set_option maxHeartbeats 4000000 in
set_option maxRecDepth 20000 in
theorem sModel_comes_66_7 {D : va_G} {cA : FieldType → ClassId} {b : Nat} {E : State → Prop} (o : Nat) (n : Nat) (sh : Nat → qC) (Rf : Nat → Nat → Option Nat) (I : Nat → Nat → Int32) (L : Nat → Nat → Int64) (post : Option Value → qS → Prop) (x1 : Int32) (x2 : Int32) (x3 : Int32) (x4 : Int32) (z0 : Int32) (hok : q_ok (qGG D cA b E)) (hw : WfModel (qGG D cA b E) n sh Rf o) (H : fModel_comes_66_7 D cA b E o n sh Rf I L post x1 x2 x3 x4 z0) : Ev (qGG D cA b E) mModel_comes 3 (0, 0) 66 [(0, .ref o), (1, .int x1), (2, .int x2), (3, .int x3), (4, .int x4)] [.int z0] (n, sh, Rf, I, L) post := by
  unfold fModel_comes_66_7 at H
  refine ev_istore dModel_comes_66 (by decide) ?_
  refine ev_aload_n dModel_comes_68 rfl ?_
  refine ev_getR hok fk_Model_474 (woModel hw) (fun _ _ _ => rfl) (wrModel_78 hw) dModel_comes_69 ?_
  refine ev_aload_n dModel_comes_72 rfl ?_
  refine ev_getR hok fk_Model_557 (woModel hw) (fun _ _ _ => rfl) (wrModel_93 hw) dModel_comes_73 ?_
  refine ev_iload_n dModel_comes_76 rfl ?_
  obtain ⟨h1, H⟩ := H
  refine ev_iald hok (waModel_93 hw) h1 dModel_comes_77 ?_
  refine ev_dup2_11 dModel_comes_78 rfl rfl ?_
  obtain ⟨h2, H⟩ := H
  refine ev_iald hok (waModel_78 hw) h2 dModel_comes_79 ?_
  refine ev_aload_n dModel_comes_80 rfl ?_
  refine ev_getR hok fk_Model_560 (woModel hw) (fun _ _ _ => rfl) (wrModel_94 hw) dModel_comes_81 ?_
  refine ev_iload_n dModel_comes_84 rfl ?_
  obtain ⟨h3, H⟩ := H
  refine ev_iald hok (waModel_94 hw) h3 dModel_comes_85 ?_
  refine ev_iadd dModel_comes_86 ?_
  obtain ⟨h5, H⟩ := H
  refine ev_iast hok (waModel_78 hw) h5 dModel_comes_87 ?_
  generalize eI4 : q_u I (o + 45) ((I (o + 60) (x2 : Int32).toNatClampNeg) : Int32).toNatClampNeg ((I (o + 45) ((I (o + 60) (x2 : Int32).toNatClampNeg) : Int32).toNatClampNeg) + (I (o + 61) (x2 : Int32).toNatClampNeg)) = I4
  have H := H I4 eI4
  refine ev_aload_n dModel_comes_88 rfl ?_
  refine ev_dup dModel_comes_89 rfl ?_
  refine ev_getL hok fk_Model_597 (woModel hw) (fun _ _ _ => rfl) dModel_comes_90 ?_
  refine ev_aload_n dModel_comes_93 rfl ?_
  refine ev_getR hok fk_Model_560 (woModel hw) (fun _ _ _ => rfl) (wrModel_94 hw) dModel_comes_94 ?_
  refine ev_iload_n dModel_comes_97 rfl ?_
  obtain ⟨h6, H⟩ := H
  refine ev_iald hok (waModel_94 hw) h6 dModel_comes_98 ?_
  refine ev_i2l dModel_comes_99 ?_
  refine ev_ladd dModel_comes_100 ?_
  refine ev_putL hok fk_Model_597 (woModel hw) (fun _ _ _ => rfl) rfl rfl dModel_comes_101 ?_
  generalize eL7 : q_u L o 113 ((L o 113) + ((I4 (o + 61) (x2 : Int32).toNatClampNeg) : Int32).toInt64) = L7
  have H := H L7 eL7
  refine ev_aload_n dModel_comes_104 rfl ?_
  refine ev_dup dModel_comes_105 rfl ?_
  refine ev_getL hok fk_Model_581 (woModel hw) (fun _ _ _ => rfl) dModel_comes_106 ?_
  refine ev_aload_n dModel_comes_109 rfl ?_
  refine ev_getR hok fk_Model_560 (woModel hw) (fun _ _ _ => rfl) (wrModel_94 hw) dModel_comes_110 ?_
  refine ev_iload_n dModel_comes_113 rfl ?_
  obtain ⟨h8, H⟩ := H
  refine ev_iald hok (waModel_94 hw) h8 dModel_comes_114 ?_
  refine ev_i2l dModel_comes_115 ?_
  refine ev_aload_n dModel_comes_116 rfl ?_
  refine ev_getI hok fk_Model_500 (woModel hw) (fun _ _ _ => rfl) dModel_comes_117 ?_
  refine ev_i2l dModel_comes_120 ?_
  refine ev_lmul dModel_comes_121 ?_
  refine ev_ladd dModel_comes_122 ?_
  refine ev_putL hok fk_Model_581 (woModel hw) (fun _ _ _ => rfl) rfl rfl dModel_comes_123 ?_
  generalize eL9 : q_u L7 o 114 ((L7 o 114) + (((I4 (o + 61) (x2 : Int32).toNatClampNeg) : Int32).toInt64 * ((I4 o 109) : Int32).toInt64)) = L9
  have H := H L9 eL9
  refine ev_aload_n dModel_comes_126 rfl ?_
  refine ev_getR hok fk_Model_545 (woModel hw) (fun _ _ _ => rfl) (wrModel_91 hw) dModel_comes_127 ?_
  refine ev_iload_n dModel_comes_130 rfl ?_
  obtain ⟨h10, H⟩ := H
  refine ev_iald hok (waModel_91 hw) h10 dModel_comes_131 ?_
  refine ev_if_lt 163 dModel_comes_132 (by decide) (fun c11 => ?_) (fun c11 => ?_)
  · have H := H.1 c11
    refine ev_aload_n dModel_comes_163 rfl ?_
    refine ev_dup dModel_comes_164 rfl ?_
    refine ev_getL hok fk_Model_581 (woModel hw) (fun _ _ _ => rfl) dModel_comes_165 ?_
    refine ev_aload_n dModel_comes_168 rfl ?_
    refine ev_getR hok fk_Model_560 (woModel hw) (fun _ _ _ => rfl) (wrModel_94 hw) dModel_comes_169 ?_
    refine ev_iload_n dModel_comes_172 rfl ?_
    obtain ⟨h12, H⟩ := H
    refine ev_iald hok (waModel_94 hw) h12 dModel_comes_173 ?_
    refine ev_i2l dModel_comes_174 ?_
    refine ev_iload dModel_comes_175 rfl ?_
    refine ev_i2l dModel_comes_177 ?_
    refine ev_lmul dModel_comes_178 ?_
    refine ev_ladd dModel_comes_179 ?_
    refine ev_putL hok fk_Model_581 (woModel hw) (fun _ _ _ => rfl) rfl rfl dModel_comes_180 ?_
    generalize eL13 : q_u L9 o 114 ((L9 o 114) + (((I4 (o + 61) (x2 : Int32).toNatClampNeg) : Int32).toInt64 * (z0 : Int32).toInt64)) = L13
    have H := H L13 eL13
    exact ev_sub [(0, .ref o), (1, .int x1), (2, .int x2), (3, .int x3), (4, .int z0)] rfl (sModel_comes_183 o n sh Rf I4 L13 post x1 x2 x3 z0 hok hw H)
  · have H := H.2 c11
    refine ev_aload_n dModel_comes_135 rfl ?_
    refine ev_getR hok fk_Model_578 (woModel hw) (fun _ _ _ => rfl) (wrModel_101 hw) dModel_comes_136 ?_
    refine ev_aload_n dModel_comes_139 rfl ?_
    refine ev_getR hok fk_Model_545 (woModel hw) (fun _ _ _ => rfl) (wrModel_91 hw) dModel_comes_140 ?_
    refine ev_iload_n dModel_comes_143 rfl ?_
    obtain ⟨h14, H⟩ := H
    refine ev_iald hok (waModel_91 hw) h14 dModel_comes_144 ?_
    refine ev_dup2_11 dModel_comes_145 rfl rfl ?_
    obtain ⟨h15, H⟩ := H
    refine ev_lald hok (waModel_101 hw) h15 dModel_comes_146 ?_
    refine ev_aload_n dModel_comes_147 rfl ?_
    refine ev_getR hok fk_Model_560 (woModel hw) (fun _ _ _ => rfl) (wrModel_94 hw) dModel_comes_148 ?_
    refine ev_iload_n dModel_comes_151 rfl ?_
    obtain ⟨h16, H⟩ := H
    refine ev_iald hok (waModel_94 hw) h16 dModel_comes_152 ?_
    refine ev_i2l dModel_comes_153 ?_
    refine ev_iload dModel_comes_154 rfl ?_
    refine ev_i2l dModel_comes_156 ?_
    refine ev_lmul dModel_comes_157 ?_
    refine ev_ladd dModel_comes_158 ?_
    obtain ⟨h18, H⟩ := H
    refine ev_last hok (waModel_101 hw) h18 dModel_comes_159 ?_
    generalize eL17 : q_u L9 (o + 68) ((I4 (o + 58) (x2 : Int32).toNatClampNeg) : Int32).toNatClampNeg ((L9 (o + 68) ((I4 (o + 58) (x2 : Int32).toNatClampNeg) : Int32).toNatClampNeg) + (((I4 (o + 61) (x2 : Int32).toNatClampNeg) : Int32).toInt64 * (z0 : Int32).toInt64)) = L17
    have H := H L17 eL17
    refine ev_goto 183 dModel_comes_160 (by decide) ?_
    exact ev_sub [(0, .ref o), (1, .int x1), (2, .int x2), (3, .int x3), (4, .int z0)] rfl (sModel_comes_183 o n sh Rf I4 L17 post x1 x2 x3 z0 hok hw H)
def fModel_comes_7 (D : va_G) (cA : FieldType → ClassId) (b : Nat) (E : State → Prop) (o : Nat) (n : Nat) (sh : Nat → qC) (Rf : Nat → Nat → Option Nat) (I : Nat → Nat → Int32) (L : Nat → Nat → Int64) (post : Option Value → qS → Prop) (x1 : Int32) (x2 : Int32) : Prop :=
  ((x1 ≤ x2 → post none (n, sh, Rf, I, L)) ∧ (¬ x1 ≤ x2 → vp_in x2 4000 ∧ (((I (o + 59) (x2 : Int32).toNatClampNeg) = (I o 57) → vp_in x2 4000 ∧ (((I (o + 67) (x2 : Int32).toNatClampNeg) = 0 → vp_in x2 4000 ∧ vp_in (I (o + 60) (x2 : Int32).toNatClampNeg) 3 ∧ vp_in x2 4000 ∧ vp_in (I (o + 60) (x2 : Int32).toNatClampNeg) 3 ∧ ∀ I9 : Nat → Nat → Int32, q_u I (o + 42) ((I (o + 60) (x2 : Int32).toNatClampNeg) : Int32).toNatClampNeg ((I (o + 42) ((I (o + 60) (x2 : Int32).toNatClampNeg) : Int32).toNatClampNeg) + (10 * (I (o + 61) (x2 : Int32).toNatClampNeg))) = I9 → vp_in x2 4000 ∧ (((I9 (o + 58) (x2 : Int32).toNatClampNeg) < 0 → fModel_comes_247 D cA b E o n sh Rf I9 L post x1 x2) ∧ (¬ (I9 (o + 58) (x2 : Int32).toNatClampNeg) < 0 → vp_in x2 4000 ∧ vp_in x2 4000 ∧ vp_in x2 4000 ∧ vp_in x2 4000 ∧ Ev (qGG D cA b E) mModel_give 2 (0, 0) 0 (lv_args 0 [.ref o, .int ((I9 (o + 58) (x2 : Int32).toNatClampNeg)), .int ((I9 (o + 63) (x2 : Int32).toNatClampNeg)), .int ((I9 (o + 62) (x2 : Int32).toNatClampNeg)), .int ((I9 (o + 64) (x2 : Int32).toNatClampNeg)), .int 0]) [] (n, sh, Rf, I9, L) (fun v τ => ∃ (I19 : Nat → Nat → Int32) (L20 : Nat → Nat → Int64), v = none ∧ τ = (n, sh, Rf, I19, L20) ∧ fModel_comes_247 D cA b E o n sh Rf I19 L20 post x1 x2)))) ∧ (¬ (I (o + 67) (x2 : Int32).toNatClampNeg) = 0 → vp_in x2 4000 ∧ Ev (qGG D cA b E) mModel_priceOf 0 (0, 0) 0 (lv_args 0 [.ref o, .int ((I (o + 60) (x2 : Int32).toNatClampNeg))]) [] (n, sh, Rf, I, L) (fun v τ => ∃ (r23 : Int32) (I24 : Nat → Nat → Int32) (L25 : Nat → Nat → Int64), v = some (.int r23) ∧ τ = (n, sh, Rf, I24, L25) ∧ ((r23 ≤ (I24 o 109) → fModel_comes_66 D cA b E o n sh Rf I24 L25 post x1 x2 r23 0) ∧ (¬ r23 ≤ (I24 o 109) → fModel_comes_66 D cA b E o n sh Rf I24 L25 post x1 x2 r23 (r23 - (I24 o 109)))))))) ∧ (¬ (I (o + 59) (x2 : Int32).toNatClampNeg) = (I o 57) → fModel_comes_247 D cA b E o n sh Rf I L post x1 x2))))
set_option maxHeartbeats 4000000 in
set_option maxRecDepth 20000 in
theorem sModel_comes_7 {D : va_G} {cA : FieldType → ClassId} {b : Nat} {E : State → Prop} (o : Nat) (n : Nat) (sh : Nat → qC) (Rf : Nat → Nat → Option Nat) (I : Nat → Nat → Int32) (L : Nat → Nat → Int64) (post : Option Value → qS → Prop) (x1 : Int32) (x2 : Int32) (hok : q_ok (qGG D cA b E)) (hw : WfModel (qGG D cA b E) n sh Rf o) (H : fModel_comes_7 D cA b E o n sh Rf I L post x1 x2) : Ev (qGG D cA b E) mModel_comes 3 (0, 0) 7 [(0, .ref o), (1, .int x1), (2, .int x2)] [] (n, sh, Rf, I, L) post := by
  unfold fModel_comes_7 at H
  refine ev_iload_n dModel_comes_7 rfl ?_
  refine ev_iload_n dModel_comes_8 rfl ?_
  refine ev_icmp_ge 253 dModel_comes_9 (by decide) (fun c1 => ?_) (fun c1 => ?_)
  · have H := H.1 c1
    exact ev_vret rfl dModel_comes_253 H
  · have H := H.2 c1
    refine ev_aload_n dModel_comes_12 rfl ?_
    refine ev_getR hok fk_Model_551 (woModel hw) (fun _ _ _ => rfl) (wrModel_92 hw) dModel_comes_13 ?_
    refine ev_iload_n dModel_comes_16 rfl ?_
    obtain ⟨h2, H⟩ := H
    refine ev_iald hok (waModel_92 hw) h2 dModel_comes_17 ?_
    refine ev_aload_n dModel_comes_18 rfl ?_
    refine ev_getI hok fk_Model_348 (woModel hw) (fun _ _ _ => rfl) dModel_comes_19 ?_
    refine ev_icmp_eq 28 dModel_comes_22 (by decide) (fun c3 => ?_) (fun c3 => ?_)
    · have H := H.1 c3
      refine ev_aload_n dModel_comes_28 rfl ?_
      refine ev_getR hok fk_Model_554 (woModel hw) (fun _ _ _ => rfl) (wrModel_100 hw) dModel_comes_29 ?_
      refine ev_iload_n dModel_comes_32 rfl ?_
      obtain ⟨h4, H⟩ := H
      refine ev_zald hok (waModel_100 hw) h4 dModel_comes_33 ?_
      refine ev_if_eq 186 dModel_comes_34 (by decide) (fun c5 => ?_) (fun c5 => ?_)
      · have H := H.1 c5
        refine ev_aload_n dModel_comes_186 rfl ?_
        refine ev_getR hok fk_Model_513 (woModel hw) (fun _ _ _ => rfl) (wrModel_75 hw) dModel_comes_187 ?_
        refine ev_aload_n dModel_comes_190 rfl ?_
        refine ev_getR hok fk_Model_557 (woModel hw) (fun _ _ _ => rfl) (wrModel_93 hw) dModel_comes_191 ?_
        refine ev_iload_n dModel_comes_194 rfl ?_
        obtain ⟨h6, H⟩ := H
        refine ev_iald hok (waModel_93 hw) h6 dModel_comes_195 ?_
        refine ev_dup2_11 dModel_comes_196 rfl rfl ?_
        obtain ⟨h7, H⟩ := H
        refine ev_iald hok (waModel_75 hw) h7 dModel_comes_197 ?_
        refine ev_bipush (10) dModel_comes_198 (by decide) ?_
        refine ev_aload_n dModel_comes_200 rfl ?_
        refine ev_getR hok fk_Model_560 (woModel hw) (fun _ _ _ => rfl) (wrModel_94 hw) dModel_comes_201 ?_
        refine ev_iload_n dModel_comes_204 rfl ?_
        obtain ⟨h8, H⟩ := H
        refine ev_iald hok (waModel_94 hw) h8 dModel_comes_205 ?_
        refine ev_imul dModel_comes_206 ?_
        refine ev_iadd dModel_comes_207 ?_
        obtain ⟨h10, H⟩ := H
        refine ev_iast hok (waModel_75 hw) h10 dModel_comes_208 ?_
        generalize eI9 : q_u I (o + 42) ((I (o + 60) (x2 : Int32).toNatClampNeg) : Int32).toNatClampNeg ((I (o + 42) ((I (o + 60) (x2 : Int32).toNatClampNeg) : Int32).toNatClampNeg) + (10 * (I (o + 61) (x2 : Int32).toNatClampNeg))) = I9
        have H := H I9 eI9
        refine ev_aload_n dModel_comes_209 rfl ?_
        refine ev_getR hok fk_Model_545 (woModel hw) (fun _ _ _ => rfl) (wrModel_91 hw) dModel_comes_210 ?_
        refine ev_iload_n dModel_comes_213 rfl ?_
        obtain ⟨h11, H⟩ := H
        refine ev_iald hok (waModel_91 hw) h11 dModel_comes_214 ?_
        refine ev_if_lt 247 dModel_comes_215 (by decide) (fun c12 => ?_) (fun c12 => ?_)
        · have H := H.1 c12
          exact ev_sub [(0, .ref o), (1, .int x1), (2, .int x2)] rfl (sModel_comes_247 o n sh Rf I9 L post x1 x2 hok hw H)
        · have H := H.2 c12
          refine ev_aload_n dModel_comes_218 rfl ?_
          refine ev_aload_n dModel_comes_219 rfl ?_
          refine ev_getR hok fk_Model_545 (woModel hw) (fun _ _ _ => rfl) (wrModel_91 hw) dModel_comes_220 ?_
          refine ev_iload_n dModel_comes_223 rfl ?_
          obtain ⟨h13, H⟩ := H
          refine ev_iald hok (waModel_91 hw) h13 dModel_comes_224 ?_
          refine ev_aload_n dModel_comes_225 rfl ?_
          refine ev_getR hok fk_Model_566 (woModel hw) (fun _ _ _ => rfl) (wrModel_96 hw) dModel_comes_226 ?_
          refine ev_iload_n dModel_comes_229 rfl ?_
          obtain ⟨h14, H⟩ := H
          refine ev_iald hok (waModel_96 hw) h14 dModel_comes_230 ?_
          refine ev_aload_n dModel_comes_231 rfl ?_
          refine ev_getR hok fk_Model_563 (woModel hw) (fun _ _ _ => rfl) (wrModel_95 hw) dModel_comes_232 ?_
          refine ev_iload_n dModel_comes_235 rfl ?_
          obtain ⟨h15, H⟩ := H
          refine ev_iald hok (waModel_95 hw) h15 dModel_comes_236 ?_
          refine ev_aload_n dModel_comes_237 rfl ?_
          refine ev_getR hok fk_Model_569 (woModel hw) (fun _ _ _ => rfl) (wrModel_97 hw) dModel_comes_238 ?_
          refine ev_iload_n dModel_comes_241 rfl ?_
          obtain ⟨h16, H⟩ := H
          refine ev_iald hok (waModel_97 hw) h16 dModel_comes_242 ?_
          refine ev_iconst (0) dModel_comes_243 (by decide) ?_
          refine ev_callV [.int ((I9 (o + 58) (x2 : Int32).toNatClampNeg)), .int ((I9 (o + 63) (x2 : Int32).toNatClampNeg)), .int ((I9 (o + 62) (x2 : Int32).toNatClampNeg)), .int ((I9 (o + 64) (x2 : Int32).toNatClampNeg)), .int 0] [] (B' := (0, 0)) (B'' := (0, 0)) hok mmModel_give mk_Model_600 (ci := 12) rfl rfl (woModel hw) rfl (Nat.le_of_ble_eq_true rfl) rfl (Nat.le_of_ble_eq_true rfl) dModel_comes_244 rfl (by decide) H (fun v τ p17 => ?_)
          obtain ⟨I19, L20, rfl, rfl, H⟩ := p17
          exact ev_sub [(0, .ref o), (1, .int x1), (2, .int x2)] rfl (sModel_comes_247 o n sh Rf I19 L20 post x1 x2 hok hw H)
      · have H := H.2 c5
        refine ev_aload_n dModel_comes_37 rfl ?_
        refine ev_aload_n dModel_comes_38 rfl ?_
        refine ev_getR hok fk_Model_557 (woModel hw) (fun _ _ _ => rfl) (wrModel_93 hw) dModel_comes_39 ?_
        refine ev_iload_n dModel_comes_42 rfl ?_
        obtain ⟨h21, H⟩ := H
        refine ev_iald hok (waModel_93 hw) h21 dModel_comes_43 ?_
        refine ev_callV [.int ((I (o + 60) (x2 : Int32).toNatClampNeg))] [] (B' := (0, 0)) (B'' := (0, 0)) hok mmModel_priceOf mk_Model_497 (ci := 12) rfl rfl (woModel hw) rfl (Nat.le_of_ble_eq_true rfl) rfl (Nat.le_of_ble_eq_true rfl) dModel_comes_44 rfl (by decide) H (fun v τ p22 => ?_)
        obtain ⟨r23, I24, L25, rfl, rfl, H⟩ := p22
        refine ev_istore_n dModel_comes_47 (by decide) ?_
        refine ev_iload_n dModel_comes_48 rfl ?_
        refine ev_aload_n dModel_comes_49 rfl ?_
        refine ev_getI hok fk_Model_500 (woModel hw) (fun _ _ _ => rfl) dModel_comes_50 ?_
        refine ev_icmp_le 65 dModel_comes_53 (by decide) (fun c26 => ?_) (fun c26 => ?_)
        · have H := H.1 c26
          refine ev_iconst (0) dModel_comes_65 (by decide) ?_
          exact ev_sub [(0, .ref o), (1, .int x1), (2, .int x2), (3, .int r23)] rfl (sModel_comes_66 o n sh Rf I24 L25 post x1 x2 r23 0 hok hw H)
        · have H := H.2 c26
          refine ev_iload_n dModel_comes_56 rfl ?_
          refine ev_aload_n dModel_comes_57 rfl ?_
          refine ev_getI hok fk_Model_500 (woModel hw) (fun _ _ _ => rfl) dModel_comes_58 ?_
          refine ev_isub dModel_comes_61 ?_
          refine ev_goto 66 dModel_comes_62 (by decide) ?_
          exact ev_sub [(0, .ref o), (1, .int x1), (2, .int x2), (3, .int r23)] rfl (sModel_comes_66 o n sh Rf I24 L25 post x1 x2 r23 (r23 - (I24 o 109)) hok hw H)
    · have H := H.2 c3
      refine ev_goto 247 dModel_comes_25 (by decide) ?_
      exact ev_sub [(0, .ref o), (1, .int x1), (2, .int x2)] rfl (sModel_comes_247 o n sh Rf I L post x1 x2 hok hw H)
def fModel_comes_7_6 (D : va_G) (cA : FieldType → ClassId) (b : Nat) (E : State → Prop) (o : Nat) (n : Nat) (sh : Nat → qC) (Rf : Nat → Nat → Option Nat) (I : Nat → Nat → Int32) (L : Nat → Nat → Int64) (post : Option Value → qS → Prop) (x1 : Int32) (x2 : Int32) (x3 : Int32) (x4 : Int32) : Prop :=
  ((x1 ≤ x2 → post none (n, sh, Rf, I, L)) ∧ (¬ x1 ≤ x2 → vp_in x2 4000 ∧ (((I (o + 59) (x2 : Int32).toNatClampNeg) = (I o 57) → vp_in x2 4000 ∧ (((I (o + 67) (x2 : Int32).toNatClampNeg) = 0 → vp_in x2 4000 ∧ vp_in (I (o + 60) (x2 : Int32).toNatClampNeg) 3 ∧ vp_in x2 4000 ∧ vp_in (I (o + 60) (x2 : Int32).toNatClampNeg) 3 ∧ ∀ I9 : Nat → Nat → Int32, q_u I (o + 42) ((I (o + 60) (x2 : Int32).toNatClampNeg) : Int32).toNatClampNeg ((I (o + 42) ((I (o + 60) (x2 : Int32).toNatClampNeg) : Int32).toNatClampNeg) + (10 * (I (o + 61) (x2 : Int32).toNatClampNeg))) = I9 → vp_in x2 4000 ∧ (((I9 (o + 58) (x2 : Int32).toNatClampNeg) < 0 → fModel_comes_247_5 D cA b E o n sh Rf I9 L post x1 x2 x3 x4) ∧ (¬ (I9 (o + 58) (x2 : Int32).toNatClampNeg) < 0 → vp_in x2 4000 ∧ vp_in x2 4000 ∧ vp_in x2 4000 ∧ vp_in x2 4000 ∧ Ev (qGG D cA b E) mModel_give 2 (0, 0) 0 (lv_args 0 [.ref o, .int ((I9 (o + 58) (x2 : Int32).toNatClampNeg)), .int ((I9 (o + 63) (x2 : Int32).toNatClampNeg)), .int ((I9 (o + 62) (x2 : Int32).toNatClampNeg)), .int ((I9 (o + 64) (x2 : Int32).toNatClampNeg)), .int 0]) [] (n, sh, Rf, I9, L) (fun v τ => ∃ (I19 : Nat → Nat → Int32) (L20 : Nat → Nat → Int64), v = none ∧ τ = (n, sh, Rf, I19, L20) ∧ fModel_comes_247_5 D cA b E o n sh Rf I19 L20 post x1 x2 x3 x4)))) ∧ (¬ (I (o + 67) (x2 : Int32).toNatClampNeg) = 0 → vp_in x2 4000 ∧ Ev (qGG D cA b E) mModel_priceOf 0 (0, 0) 0 (lv_args 0 [.ref o, .int ((I (o + 60) (x2 : Int32).toNatClampNeg))]) [] (n, sh, Rf, I, L) (fun v τ => ∃ (r23 : Int32) (I24 : Nat → Nat → Int32) (L25 : Nat → Nat → Int64), v = some (.int r23) ∧ τ = (n, sh, Rf, I24, L25) ∧ ((r23 ≤ (I24 o 109) → fModel_comes_66_7 D cA b E o n sh Rf I24 L25 post x1 x2 r23 x4 0) ∧ (¬ r23 ≤ (I24 o 109) → fModel_comes_66_7 D cA b E o n sh Rf I24 L25 post x1 x2 r23 x4 (r23 - (I24 o 109)))))))) ∧ (¬ (I (o + 59) (x2 : Int32).toNatClampNeg) = (I o 57) → fModel_comes_247_5 D cA b E o n sh Rf I L post x1 x2 x3 x4))))
set_option maxHeartbeats 4000000 in
set_option maxRecDepth 20000 in
theorem sModel_comes_7_6 {D : va_G} {cA : FieldType → ClassId} {b : Nat} {E : State → Prop} (o : Nat) (n : Nat) (sh : Nat → qC) (Rf : Nat → Nat → Option Nat) (I : Nat → Nat → Int32) (L : Nat → Nat → Int64) (post : Option Value → qS → Prop) (x1 : Int32) (x2 : Int32) (x3 : Int32) (x4 : Int32) (hok : q_ok (qGG D cA b E)) (hw : WfModel (qGG D cA b E) n sh Rf o) (H : fModel_comes_7_6 D cA b E o n sh Rf I L post x1 x2 x3 x4) : Ev (qGG D cA b E) mModel_comes 3 (0, 0) 7 [(0, .ref o), (1, .int x1), (2, .int x2), (3, .int x3), (4, .int x4)] [] (n, sh, Rf, I, L) post := by
  unfold fModel_comes_7_6 at H
  refine ev_iload_n dModel_comes_7 rfl ?_
  refine ev_iload_n dModel_comes_8 rfl ?_
  refine ev_icmp_ge 253 dModel_comes_9 (by decide) (fun c1 => ?_) (fun c1 => ?_)
  · have H := H.1 c1
    exact ev_vret rfl dModel_comes_253 H
  · have H := H.2 c1
    refine ev_aload_n dModel_comes_12 rfl ?_
    refine ev_getR hok fk_Model_551 (woModel hw) (fun _ _ _ => rfl) (wrModel_92 hw) dModel_comes_13 ?_
    refine ev_iload_n dModel_comes_16 rfl ?_
    obtain ⟨h2, H⟩ := H
    refine ev_iald hok (waModel_92 hw) h2 dModel_comes_17 ?_
    refine ev_aload_n dModel_comes_18 rfl ?_
    refine ev_getI hok fk_Model_348 (woModel hw) (fun _ _ _ => rfl) dModel_comes_19 ?_
    refine ev_icmp_eq 28 dModel_comes_22 (by decide) (fun c3 => ?_) (fun c3 => ?_)
    · have H := H.1 c3
      refine ev_aload_n dModel_comes_28 rfl ?_
      refine ev_getR hok fk_Model_554 (woModel hw) (fun _ _ _ => rfl) (wrModel_100 hw) dModel_comes_29 ?_
      refine ev_iload_n dModel_comes_32 rfl ?_
      obtain ⟨h4, H⟩ := H
      refine ev_zald hok (waModel_100 hw) h4 dModel_comes_33 ?_
      refine ev_if_eq 186 dModel_comes_34 (by decide) (fun c5 => ?_) (fun c5 => ?_)
      · have H := H.1 c5
        refine ev_aload_n dModel_comes_186 rfl ?_
        refine ev_getR hok fk_Model_513 (woModel hw) (fun _ _ _ => rfl) (wrModel_75 hw) dModel_comes_187 ?_
        refine ev_aload_n dModel_comes_190 rfl ?_
        refine ev_getR hok fk_Model_557 (woModel hw) (fun _ _ _ => rfl) (wrModel_93 hw) dModel_comes_191 ?_
        refine ev_iload_n dModel_comes_194 rfl ?_
        obtain ⟨h6, H⟩ := H
        refine ev_iald hok (waModel_93 hw) h6 dModel_comes_195 ?_
        refine ev_dup2_11 dModel_comes_196 rfl rfl ?_
        obtain ⟨h7, H⟩ := H
        refine ev_iald hok (waModel_75 hw) h7 dModel_comes_197 ?_
        refine ev_bipush (10) dModel_comes_198 (by decide) ?_
        refine ev_aload_n dModel_comes_200 rfl ?_
        refine ev_getR hok fk_Model_560 (woModel hw) (fun _ _ _ => rfl) (wrModel_94 hw) dModel_comes_201 ?_
        refine ev_iload_n dModel_comes_204 rfl ?_
        obtain ⟨h8, H⟩ := H
        refine ev_iald hok (waModel_94 hw) h8 dModel_comes_205 ?_
        refine ev_imul dModel_comes_206 ?_
        refine ev_iadd dModel_comes_207 ?_
        obtain ⟨h10, H⟩ := H
        refine ev_iast hok (waModel_75 hw) h10 dModel_comes_208 ?_
        generalize eI9 : q_u I (o + 42) ((I (o + 60) (x2 : Int32).toNatClampNeg) : Int32).toNatClampNeg ((I (o + 42) ((I (o + 60) (x2 : Int32).toNatClampNeg) : Int32).toNatClampNeg) + (10 * (I (o + 61) (x2 : Int32).toNatClampNeg))) = I9
        have H := H I9 eI9
        refine ev_aload_n dModel_comes_209 rfl ?_
        refine ev_getR hok fk_Model_545 (woModel hw) (fun _ _ _ => rfl) (wrModel_91 hw) dModel_comes_210 ?_
        refine ev_iload_n dModel_comes_213 rfl ?_
        obtain ⟨h11, H⟩ := H
        refine ev_iald hok (waModel_91 hw) h11 dModel_comes_214 ?_
        refine ev_if_lt 247 dModel_comes_215 (by decide) (fun c12 => ?_) (fun c12 => ?_)
        · have H := H.1 c12
          exact ev_sub [(0, .ref o), (1, .int x1), (2, .int x2), (3, .int x3), (4, .int x4)] rfl (sModel_comes_247_5 o n sh Rf I9 L post x1 x2 x3 x4 hok hw H)
        · have H := H.2 c12
          refine ev_aload_n dModel_comes_218 rfl ?_
          refine ev_aload_n dModel_comes_219 rfl ?_
          refine ev_getR hok fk_Model_545 (woModel hw) (fun _ _ _ => rfl) (wrModel_91 hw) dModel_comes_220 ?_
          refine ev_iload_n dModel_comes_223 rfl ?_
          obtain ⟨h13, H⟩ := H
          refine ev_iald hok (waModel_91 hw) h13 dModel_comes_224 ?_
          refine ev_aload_n dModel_comes_225 rfl ?_
          refine ev_getR hok fk_Model_566 (woModel hw) (fun _ _ _ => rfl) (wrModel_96 hw) dModel_comes_226 ?_
          refine ev_iload_n dModel_comes_229 rfl ?_
          obtain ⟨h14, H⟩ := H
          refine ev_iald hok (waModel_96 hw) h14 dModel_comes_230 ?_
          refine ev_aload_n dModel_comes_231 rfl ?_
          refine ev_getR hok fk_Model_563 (woModel hw) (fun _ _ _ => rfl) (wrModel_95 hw) dModel_comes_232 ?_
          refine ev_iload_n dModel_comes_235 rfl ?_
          obtain ⟨h15, H⟩ := H
          refine ev_iald hok (waModel_95 hw) h15 dModel_comes_236 ?_
          refine ev_aload_n dModel_comes_237 rfl ?_
          refine ev_getR hok fk_Model_569 (woModel hw) (fun _ _ _ => rfl) (wrModel_97 hw) dModel_comes_238 ?_
          refine ev_iload_n dModel_comes_241 rfl ?_
          obtain ⟨h16, H⟩ := H
          refine ev_iald hok (waModel_97 hw) h16 dModel_comes_242 ?_
          refine ev_iconst (0) dModel_comes_243 (by decide) ?_
          refine ev_callV [.int ((I9 (o + 58) (x2 : Int32).toNatClampNeg)), .int ((I9 (o + 63) (x2 : Int32).toNatClampNeg)), .int ((I9 (o + 62) (x2 : Int32).toNatClampNeg)), .int ((I9 (o + 64) (x2 : Int32).toNatClampNeg)), .int 0] [] (B' := (0, 0)) (B'' := (0, 0)) hok mmModel_give mk_Model_600 (ci := 12) rfl rfl (woModel hw) rfl (Nat.le_of_ble_eq_true rfl) rfl (Nat.le_of_ble_eq_true rfl) dModel_comes_244 rfl (by decide) H (fun v τ p17 => ?_)
          obtain ⟨I19, L20, rfl, rfl, H⟩ := p17
          exact ev_sub [(0, .ref o), (1, .int x1), (2, .int x2), (3, .int x3), (4, .int x4)] rfl (sModel_comes_247_5 o n sh Rf I19 L20 post x1 x2 x3 x4 hok hw H)
      · have H := H.2 c5
        refine ev_aload_n dModel_comes_37 rfl ?_
        refine ev_aload_n dModel_comes_38 rfl ?_
        refine ev_getR hok fk_Model_557 (woModel hw) (fun _ _ _ => rfl) (wrModel_93 hw) dModel_comes_39 ?_
        refine ev_iload_n dModel_comes_42 rfl ?_
        obtain ⟨h21, H⟩ := H
        refine ev_iald hok (waModel_93 hw) h21 dModel_comes_43 ?_
        refine ev_callV [.int ((I (o + 60) (x2 : Int32).toNatClampNeg))] [] (B' := (0, 0)) (B'' := (0, 0)) hok mmModel_priceOf mk_Model_497 (ci := 12) rfl rfl (woModel hw) rfl (Nat.le_of_ble_eq_true rfl) rfl (Nat.le_of_ble_eq_true rfl) dModel_comes_44 rfl (by decide) H (fun v τ p22 => ?_)
        obtain ⟨r23, I24, L25, rfl, rfl, H⟩ := p22
        refine ev_istore_n dModel_comes_47 (by decide) ?_
        refine ev_iload_n dModel_comes_48 rfl ?_
        refine ev_aload_n dModel_comes_49 rfl ?_
        refine ev_getI hok fk_Model_500 (woModel hw) (fun _ _ _ => rfl) dModel_comes_50 ?_
        refine ev_icmp_le 65 dModel_comes_53 (by decide) (fun c26 => ?_) (fun c26 => ?_)
        · have H := H.1 c26
          refine ev_iconst (0) dModel_comes_65 (by decide) ?_
          exact ev_sub [(0, .ref o), (1, .int x1), (2, .int x2), (3, .int r23), (4, .int x4)] rfl (sModel_comes_66_7 o n sh Rf I24 L25 post x1 x2 r23 x4 0 hok hw H)
        · have H := H.2 c26
          refine ev_iload_n dModel_comes_56 rfl ?_
          refine ev_aload_n dModel_comes_57 rfl ?_
          refine ev_getI hok fk_Model_500 (woModel hw) (fun _ _ _ => rfl) dModel_comes_58 ?_
          refine ev_isub dModel_comes_61 ?_
          refine ev_goto 66 dModel_comes_62 (by decide) ?_
          exact ev_sub [(0, .ref o), (1, .int x1), (2, .int x2), (3, .int r23), (4, .int x4)] rfl (sModel_comes_66_7 o n sh Rf I24 L25 post x1 x2 r23 x4 (r23 - (I24 o 109)) hok hw H)
    · have H := H.2 c3
      refine ev_goto 247 dModel_comes_25 (by decide) ?_
      exact ev_sub [(0, .ref o), (1, .int x1), (2, .int x2), (3, .int x3), (4, .int x4)] rfl (sModel_comes_247_5 o n sh Rf I L post x1 x2 x3 x4 hok hw H)
def fModel_comes_0 (D : va_G) (cA : FieldType → ClassId) (b : Nat) (E : State → Prop) (o : Nat) (n : Nat) (sh : Nat → qC) (Rf : Nat → Nat → Option Nat) (I : Nat → Nat → Int32) (L : Nat → Nat → Int64) (post : Option Value → qS → Prop)  : Prop :=
  Ev (qGG D cA b E) mModel_comes 3 (0, 0) 7 [(0, .ref o), (1, .int ((I o 105))), (2, .int 0)] [] (n, sh, Rf, I, L) post
set_option maxHeartbeats 4000000 in
set_option maxRecDepth 20000 in
theorem sModel_comes_0 {D : va_G} {cA : FieldType → ClassId} {b : Nat} {E : State → Prop} (o : Nat) (n : Nat) (sh : Nat → qC) (Rf : Nat → Nat → Option Nat) (I : Nat → Nat → Int32) (L : Nat → Nat → Int64) (post : Option Value → qS → Prop)  (hok : q_ok (qGG D cA b E)) (hw : WfModel (qGG D cA b E) n sh Rf o) (H : fModel_comes_0 D cA b E o n sh Rf I L post ) : Ev (qGG D cA b E) mModel_comes 3 (0, 0) 0 [(0, .ref o)] [] (n, sh, Rf, I, L) post := by
  unfold fModel_comes_0 at H
  refine ev_aload_n dModel_comes_0 rfl ?_
  refine ev_getI hok fk_Model_548 (woModel hw) (fun _ _ _ => rfl) dModel_comes_1 ?_
  refine ev_istore_n dModel_comes_4 (by decide) ?_
  refine ev_iconst (0) dModel_comes_5 (by decide) ?_
  refine ev_istore_n dModel_comes_6 (by decide) ?_
  exact ev_sub [(0, .ref o), (1, .int ((I o 105))), (2, .int 0)] rfl H
