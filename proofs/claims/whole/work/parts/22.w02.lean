abbrev po_M_ahead (L : am_TL) (R : am_TR) (Q : am_TI → Prop) : Option Value → am_St → Prop := fun r σ' => ∃ (I' : am_TI), r = none ∧ σ' = (I', L, R, am_SH) ∧ Q I'
def wb_M_ahead_26 (L : am_TL) (R : am_TR) (q : Nat) (Q : am_TI → Prop) (K0 : am_TI → Prop) (I : am_TI) : Prop := (∀ I1, I1 = am_u2 I q 14 ((I q 14) + 1) → K0 I1)
set_option maxRecDepth 20000 in
theorem tb_M_ahead_26 {d : Nat}  {L : am_TL} {R : am_TR} {q : Nat} {Q : am_TI → Prop} {K0 : am_TI → Prop} (hw : am_Wf R) (hq : am_SH[q]? = some (.inl 12)) (hK0 : ∀ (I : am_TI), K0 I → am_Wp (d, "UnseenRingModel", b_M_ahead, 2, false) 0 0 0 [some (.ref q), none] [] (I, L, R, am_SH) (po_M_ahead L R Q)) (hd : 1 ≤ d) (I : am_TI) (h : wb_M_ahead_26 L R q Q K0 I) : am_Wp (d, "UnseenRingModel", b_M_ahead, 2, false) 0 0 26 [some (.ref q), none] [] (I, L, R, am_SH) (po_M_ahead L R Q) := by
  unfold wb_M_ahead_26 at h
  refine am_aload_n (n := 27) d_M_ahead_26 rfl rfl ?_
  refine am_dup (n := 28) d_M_ahead_27 rfl rfl ?_
  refine am_getI (n := 31) f_M_154 d_M_ahead_28 rfl rfl hq ?_
  refine am_iconst (n := 32) d_M_ahead_31 ci_1 rfl ?_
  refine am_iadd (n := 33) d_M_ahead_32 rfl ?_
  refine am_putI (n := 36) f_M_154 d_M_ahead_33 rfl ⟨_, rfl, Or.inl rfl⟩ rfl rfl hq ?_
  generalize eI1 : am_u2 I q 14 ((I q 14) + 1) = I1
  have h := h I1 eI1.symm
  refine am_goto (tgt := 0) d_M_ahead_36 rfl ?_
  exact hK0 I1  h
def wb_M_ahead_243 (L : am_TL) (R : am_TR) (q : Nat) (Q : am_TI → Prop)  (I : am_TI) (s0 : Nat) : Prop := (∀ I5, I5 = am_u2 I s0 12 4 → Q I5)
set_option maxRecDepth 20000 in
theorem tb_M_ahead_243 {d : Nat}  {L : am_TL} {R : am_TR} {q : Nat} {Q : am_TI → Prop}  (hw : am_Wf R) (hq : am_SH[q]? = some (.inl 12)) (hd : 1 ≤ d) (I : am_TI) (s0 : Nat) (hs0 : am_SH[s0]? = some (.inl 12)) (h : wb_M_ahead_243 L R q Q  I s0) : am_Wp (d, "UnseenRingModel", b_M_ahead, 2, false) 0 0 243 [some (.ref q), none] [.ref s0] (I, L, R, am_SH) (po_M_ahead L R Q) := by
  unfold wb_M_ahead_243 at h
  refine am_iconst (n := 244) d_M_ahead_243 ci_4 rfl ?_
  refine am_goto (tgt := 248) d_M_ahead_244 rfl ?_
  refine am_putI (n := 251) f_M_166 d_M_ahead_248 rfl ⟨_, rfl, Or.inl rfl⟩ rfl rfl hs0 ?_
  generalize eI5 : am_u2 I s0 12 4 = I5
  have h := h I5 eI5.symm
  exact am_vret d_M_ahead_251 ⟨I5, rfl, rfl, h⟩
def wb_M_ahead_202 (L : am_TL) (R : am_TR) (q : Nat) (Q : am_TI → Prop)  (I : am_TI) (s0 : Nat) (s1 : Int32) : Prop := (∀ I8, I8 = am_u2 I s0 12 s1 → Q I8)
set_option maxRecDepth 20000 in
theorem tb_M_ahead_202 {d : Nat}  {L : am_TL} {R : am_TR} {q : Nat} {Q : am_TI → Prop}  (hw : am_Wf R) (hq : am_SH[q]? = some (.inl 12)) (hd : 1 ≤ d) (I : am_TI) (s0 : Nat) (s1 : Int32) (hs0 : am_SH[s0]? = some (.inl 12)) (h : wb_M_ahead_202 L R q Q  I s0 s1) : am_Wp (d, "UnseenRingModel", b_M_ahead, 2, false) 0 0 202 [some (.ref q), none] [.int s1, .ref s0] (I, L, R, am_SH) (po_M_ahead L R Q) := by
  unfold wb_M_ahead_202 at h
  refine am_putI (n := 205) f_M_166 d_M_ahead_202 rfl ⟨_, rfl, Or.inl rfl⟩ rfl rfl hs0 ?_
  generalize eI8 : am_u2 I s0 12 s1 = I8
  have h := h I8 eI8.symm
  refine am_goto (tgt := 251) d_M_ahead_205 rfl ?_
  exact am_vret d_M_ahead_251 ⟨I8, rfl, rfl, h⟩
def wl_M_ahead_128 (L : am_TL) (R : am_TR) (q : Nat) (Q : am_TI → Prop)  : Nat → am_TI → Prop
  | 0 => fun _ => False
  | f128 + 1 => fun I => wp_M_byteAt I L R q (I q 14) (fun (r6 : Int32) => wp_M_isDigit I L R r6 (fun (r7 : Bool) => ((r7 = false → ((((I q 14) - (I q 13)) ≤ 4 → wb_M_ahead_202 L R q Q I q 3) ∧ (¬ ((I q 14) - (I q 13)) ≤ 4 → wb_M_ahead_202 L R q Q I q 1))) ∧ (r7 = true → wp_M_byteAt I L R q (I q 14) (fun (r8 : Int32) => (∀ I9, I9 = am_u2 I q 15 (am_min 100000 (((10 * (I q 15)) + r8) - 48)) → (∀ I10, I10 = am_u2 I9 q 14 ((I9 q 14) + 1) → wl_M_ahead_128 L R q Q f128 I10)))))))
set_option maxRecDepth 20000 in
theorem tl_M_ahead_128 {d : Nat}  {L : am_TL} {R : am_TR} {q : Nat} {Q : am_TI → Prop}  (hw : am_Wf R) (hq : am_SH[q]? = some (.inl 12)) (hd : 1 ≤ d) : ∀ (n : Nat) (I : am_TI), wl_M_ahead_128 L R q Q  n I → am_Wp (d, "UnseenRingModel", b_M_ahead, 2, false) 0 0 128 [some (.ref q), none] [] (I, L, R, am_SH) (po_M_ahead L R Q) := by
  intro n
  induction n with
  | zero => intro I h; exact h.elim
  | succ n ih =>
    intro I h
    unfold wl_M_ahead_128 at h
    refine am_aload_n (n := 129) d_M_ahead_128 rfl rfl ?_
    refine am_aload_n (n := 130) d_M_ahead_129 rfl rfl ?_
    refine am_getI (n := 133) f_M_154 d_M_ahead_130 rfl rfl hq ?_
    refine am_callV (kc := 0) (ks := 0) (As := [.int (I q 14)]) (n := 136) d_M_ahead_133 rfl ce_M_byteAt lk_M_157 in_M_byteAt rfl rfl hq rfl rfl (Nat.le_of_ble_eq_true rfl) (Or.inl rfl) (cm_M_byteAt (d := d - 1) hw (by omega) hq h) (by omega) ?_
    rintro _ _ ⟨r6, rfl, rfl, h⟩
    show am_Wp (d, "UnseenRingModel", b_M_ahead, 2, false) 0 0 136 [some (.ref q), none] [.int r6] (I, L, R, am_SH) (po_M_ahead L R Q)
    refine am_callS (kc := 0) (ks := 0) (As := [.int r6]) (n := 139) d_M_ahead_136 rfl ce_M_isDigit lk_M_172 st_M_isDigit rfl rfl (Nat.le_of_ble_eq_true rfl) (Or.inl rfl) (cm_M_isDigit (d := d - 1) hw (by omega)  h) (by omega) ?_
    rintro _ _ ⟨r7, rfl, rfl, h⟩
    show am_Wp (d, "UnseenRingModel", b_M_ahead, 2, false) 0 0 139 [some (.ref q), none] [.int (am_b r7)] (I, L, R, am_SH) (po_M_ahead L R Q)
    refine am_if_eq (y := 0) (tgt := 183) (n := 142) d_M_ahead_139 rfl rfl (fun c10 => ?_) (fun c10 => ?_)
    · have h := h.1 (am_b_0 c10)
      refine am_aload_n (n := 184) d_M_ahead_183 rfl rfl ?_
      refine am_aload_n (n := 185) d_M_ahead_184 rfl rfl ?_
      refine am_getI (n := 188) f_M_154 d_M_ahead_185 rfl rfl hq ?_
      refine am_aload_n (n := 189) d_M_ahead_188 rfl rfl ?_
      refine am_getI (n := 192) f_M_160 d_M_ahead_189 rfl rfl hq ?_
      refine am_isub (n := 193) d_M_ahead_192 rfl ?_
      refine am_iconst (n := 194) d_M_ahead_193 ci_4 rfl ?_
      refine am_icmp_le (tgt := 201) (n := 197) d_M_ahead_194 rfl rfl (fun c11 => ?_) (fun c11 => ?_)
      · have h := h.1 c11
        refine am_iconst (n := 202) d_M_ahead_201 ci_3 rfl ?_
        exact tb_M_ahead_202 hw hq hd I q 3 hq h
      · have h := h.2 c11
        refine am_iconst (n := 198) d_M_ahead_197 ci_1 rfl ?_
        refine am_goto (tgt := 202) d_M_ahead_198 rfl ?_
        exact tb_M_ahead_202 hw hq hd I q 1 hq h
    · have h := h.2 (am_b_n0 c10)
      refine am_aload_n (n := 143) d_M_ahead_142 rfl rfl ?_
      refine am_ldc (n := 145) d_M_ahead_143 k_M_175 rfl ?_
      refine am_bipush (n := 147) d_M_ahead_145 cb_10 rfl ?_
      refine am_aload_n (n := 148) d_M_ahead_147 rfl rfl ?_
      refine am_getI (n := 151) f_M_163 d_M_ahead_148 rfl rfl hq ?_
      refine am_imul (n := 152) d_M_ahead_151 rfl ?_
      refine am_aload_n (n := 153) d_M_ahead_152 rfl rfl ?_
      refine am_aload_n (n := 154) d_M_ahead_153 rfl rfl ?_
      refine am_getI (n := 157) f_M_154 d_M_ahead_154 rfl rfl hq ?_
      refine am_callV (kc := 0) (ks := 0) (As := [.int (I q 14)]) (n := 160) d_M_ahead_157 rfl ce_M_byteAt lk_M_157 in_M_byteAt rfl rfl hq rfl rfl (Nat.le_of_ble_eq_true rfl) (Or.inl rfl) (cm_M_byteAt (d := d - 1) hw (by omega) hq h) (by omega) ?_
      rintro _ _ ⟨r8, rfl, rfl, h⟩
      show am_Wp (d, "UnseenRingModel", b_M_ahead, 2, false) 0 0 160 [some (.ref q), none] [.int r8, .int (10 * (I q 15)), .int 100000, .ref q] (I, L, R, am_SH) (po_M_ahead L R Q)
      refine am_iadd (n := 161) d_M_ahead_160 rfl ?_
      refine am_bipush (n := 163) d_M_ahead_161 cb_48 rfl ?_
      refine am_isub (n := 164) d_M_ahead_163 rfl ?_
      refine am_mmin2 (n := 167) d_M_ahead_164 rfl lm_M_176 (Nat.le_of_ble_eq_true rfl) (by omega) ?_
      refine am_putI (n := 170) f_M_163 d_M_ahead_167 rfl ⟨_, rfl, Or.inl rfl⟩ rfl rfl hq ?_
      generalize eI9 : am_u2 I q 15 (am_min 100000 (((10 * (I q 15)) + r8) - 48)) = I9
      have h := h I9 eI9.symm
      refine am_aload_n (n := 171) d_M_ahead_170 rfl rfl ?_
      refine am_dup (n := 172) d_M_ahead_171 rfl rfl ?_
      refine am_getI (n := 175) f_M_154 d_M_ahead_172 rfl rfl hq ?_
      refine am_iconst (n := 176) d_M_ahead_175 ci_1 rfl ?_
      refine am_iadd (n := 177) d_M_ahead_176 rfl ?_
      refine am_putI (n := 180) f_M_154 d_M_ahead_177 rfl ⟨_, rfl, Or.inl rfl⟩ rfl rfl hq ?_
      generalize eI10 : am_u2 I9 q 14 ((I9 q 14) + 1) = I10
      have h := h I10 eI10.symm
      refine am_goto (tgt := 128) d_M_ahead_180 rfl ?_
      exact ih I10  h
def wl_M_ahead_81 (L : am_TL) (R : am_TR) (q : Nat) (Q : am_TI → Prop)  : Nat → am_TI → Prop
  | 0 => fun _ => False
  | f81 + 1 => fun I => wp_M_byteAt I L R q (I q 14) (fun (r9 : Int32) => wp_M_isSmall I L R r9 (fun (r10 : Bool) => ((r10 = false → (∀ I11, I11 = am_u2 I q 12 2 → Q I11)) ∧ (r10 = true → (∀ I12, I12 = am_u2 I q 14 ((I q 14) + 1) → wl_M_ahead_81 L R q Q f81 I12)))))
set_option maxRecDepth 20000 in
theorem tl_M_ahead_81 {d : Nat}  {L : am_TL} {R : am_TR} {q : Nat} {Q : am_TI → Prop}  (hw : am_Wf R) (hq : am_SH[q]? = some (.inl 12)) (hd : 1 ≤ d) : ∀ (n : Nat) (I : am_TI), wl_M_ahead_81 L R q Q  n I → am_Wp (d, "UnseenRingModel", b_M_ahead, 2, false) 0 0 81 [some (.ref q), none] [] (I, L, R, am_SH) (po_M_ahead L R Q) := by
  intro n
  induction n with
  | zero => intro I h; exact h.elim
  | succ n ih =>
    intro I h
    unfold wl_M_ahead_81 at h
    refine am_aload_n (n := 82) d_M_ahead_81 rfl rfl ?_
    refine am_aload_n (n := 83) d_M_ahead_82 rfl rfl ?_
    refine am_getI (n := 86) f_M_154 d_M_ahead_83 rfl rfl hq ?_
    refine am_callV (kc := 0) (ks := 0) (As := [.int (I q 14)]) (n := 89) d_M_ahead_86 rfl ce_M_byteAt lk_M_157 in_M_byteAt rfl rfl hq rfl rfl (Nat.le_of_ble_eq_true rfl) (Or.inl rfl) (cm_M_byteAt (d := d - 1) hw (by omega) hq h) (by omega) ?_
    rintro _ _ ⟨r9, rfl, rfl, h⟩
    show am_Wp (d, "UnseenRingModel", b_M_ahead, 2, false) 0 0 89 [some (.ref q), none] [.int r9] (I, L, R, am_SH) (po_M_ahead L R Q)
    refine am_callS (kc := 0) (ks := 0) (As := [.int r9]) (n := 92) d_M_ahead_89 rfl ce_M_isSmall lk_M_169 st_M_isSmall rfl rfl (Nat.le_of_ble_eq_true rfl) (Or.inl rfl) (cm_M_isSmall (d := d - 1) hw (by omega)  h) (by omega) ?_
    rintro _ _ ⟨r10, rfl, rfl, h⟩
    show am_Wp (d, "UnseenRingModel", b_M_ahead, 2, false) 0 0 92 [some (.ref q), none] [.int (am_b r10)] (I, L, R, am_SH) (po_M_ahead L R Q)
    refine am_if_eq (y := 0) (tgt := 108) (n := 95) d_M_ahead_92 rfl rfl (fun c12 => ?_) (fun c12 => ?_)
    · have h := h.1 (am_b_0 c12)
      refine am_aload_n (n := 109) d_M_ahead_108 rfl rfl ?_
      refine am_iconst (n := 110) d_M_ahead_109 ci_2 rfl ?_
      refine am_putI (n := 113) f_M_166 d_M_ahead_110 rfl ⟨_, rfl, Or.inl rfl⟩ rfl rfl hq ?_
      generalize eI11 : am_u2 I q 12 2 = I11
      have h := h I11 eI11.symm
      refine am_goto (tgt := 251) d_M_ahead_113 rfl ?_
      exact am_vret d_M_ahead_251 ⟨I11, rfl, rfl, h⟩
    · have h := h.2 (am_b_n0 c12)
      refine am_aload_n (n := 96) d_M_ahead_95 rfl rfl ?_
      refine am_dup (n := 97) d_M_ahead_96 rfl rfl ?_
      refine am_getI (n := 100) f_M_154 d_M_ahead_97 rfl rfl hq ?_
      refine am_iconst (n := 101) d_M_ahead_100 ci_1 rfl ?_
      refine am_iadd (n := 102) d_M_ahead_101 rfl ?_
      refine am_putI (n := 105) f_M_154 d_M_ahead_102 rfl ⟨_, rfl, Or.inl rfl⟩ rfl rfl hq ?_
      generalize eI12 : am_u2 I q 14 ((I q 14) + 1) = I12
      have h := h I12 eI12.symm
      refine am_goto (tgt := 81) d_M_ahead_105 rfl ?_
      exact ih I12  h
def wl_M_ahead_0 (L : am_TL) (R : am_TR) (q : Nat) (Q : am_TI → Prop)  : Nat → am_TI → Prop
  | 0 => fun _ => False
  | f0 + 1 => fun I => wp_M_byteAt I L R q (I q 14) (fun (r1 : Int32) => ((r1 = 32 → wb_M_ahead_26 L R q Q (wl_M_ahead_0 L R q Q f0) I) ∧ (¬ r1 = 32 → wp_M_byteAt I L R q (I q 14) (fun (r2 : Int32) => ((r2 = 10 → wb_M_ahead_26 L R q Q (wl_M_ahead_0 L R q Q f0) I) ∧ (¬ r2 = 10 → (∀ I2, I2 = am_u2 I q 13 (I q 14) → wp_M_byteAt I2 L R q (I2 q 14) (fun (r3 : Int32) => (∀ I3, I3 = am_u2 I2 q 15 r3 → ((r3 = (-1) → (∀ I13, I13 = am_u2 I3 q 12 0 → Q I13)) ∧ (¬ r3 = (-1) → wp_M_isSmall I3 L R r3 (fun (r4 : Bool) => ((r4 = false → wp_M_isDigit I3 L R r3 (fun (r5 : Bool) => ((r5 = false → (∀ I4, I4 = am_u2 I3 q 14 ((I3 q 14) + 1) → ((r3 = 59 → wb_M_ahead_243 L R q Q I4 q) ∧ (¬ r3 = 59 → ((r3 = 60 → wb_M_ahead_243 L R q Q I4 q) ∧ (¬ r3 = 60 → ((r3 = 62 → wb_M_ahead_243 L R q Q I4 q) ∧ (¬ r3 = 62 → ((r3 = 61 → wb_M_ahead_243 L R q Q I4 q) ∧ (¬ r3 = 61 → (∀ I6, I6 = am_u2 I4 q 12 1 → Q I6))))))))))) ∧ (r5 = true → (∀ I7, I7 = am_u2 I3 q 15 0 → (∃ z, wl_M_ahead_128 L R q Q z I7)))))) ∧ (r4 = true → (∃ z, wl_M_ahead_81 L R q Q z I3)))))))))))))))
set_option maxRecDepth 20000 in
theorem tl_M_ahead_0 {d : Nat}  {L : am_TL} {R : am_TR} {q : Nat} {Q : am_TI → Prop}  (hw : am_Wf R) (hq : am_SH[q]? = some (.inl 12)) (hd : 1 ≤ d) : ∀ (n : Nat) (I : am_TI), wl_M_ahead_0 L R q Q  n I → am_Wp (d, "UnseenRingModel", b_M_ahead, 2, false) 0 0 0 [some (.ref q), none] [] (I, L, R, am_SH) (po_M_ahead L R Q) := by
  intro n
  induction n with
  | zero => intro I h; exact h.elim
  | succ n ih =>
    intro I h
    unfold wl_M_ahead_0 at h
    refine am_aload_n (n := 1) d_M_ahead_0 rfl rfl ?_
    refine am_aload_n (n := 2) d_M_ahead_1 rfl rfl ?_
    refine am_getI (n := 5) f_M_154 d_M_ahead_2 rfl rfl hq ?_
    refine am_callV (kc := 0) (ks := 0) (As := [.int (I q 14)]) (n := 8) d_M_ahead_5 rfl ce_M_byteAt lk_M_157 in_M_byteAt rfl rfl hq rfl rfl (Nat.le_of_ble_eq_true rfl) (Or.inl rfl) (cm_M_byteAt (d := d - 1) hw (by omega) hq h) (by omega) ?_
    rintro _ _ ⟨r1, rfl, rfl, h⟩
    show am_Wp (d, "UnseenRingModel", b_M_ahead, 2, false) 0 0 8 [some (.ref q), none] [.int r1] (I, L, R, am_SH) (po_M_ahead L R Q)
    refine am_bipush (n := 10) d_M_ahead_8 cb_32 rfl ?_
    refine am_icmp_eq (tgt := 26) (n := 13) d_M_ahead_10 rfl rfl (fun c1 => ?_) (fun c1 => ?_)
    · have h := h.1 c1
      exact tb_M_ahead_26 hw hq ih hd I h
    · have h := h.2 c1
      refine am_aload_n (n := 14) d_M_ahead_13 rfl rfl ?_
      refine am_aload_n (n := 15) d_M_ahead_14 rfl rfl ?_
      refine am_getI (n := 18) f_M_154 d_M_ahead_15 rfl rfl hq ?_
      refine am_callV (kc := 0) (ks := 0) (As := [.int (I q 14)]) (n := 21) d_M_ahead_18 rfl ce_M_byteAt lk_M_157 in_M_byteAt rfl rfl hq rfl rfl (Nat.le_of_ble_eq_true rfl) (Or.inl rfl) (cm_M_byteAt (d := d - 1) hw (by omega) hq h) (by omega) ?_
      rintro _ _ ⟨r2, rfl, rfl, h⟩
      show am_Wp (d, "UnseenRingModel", b_M_ahead, 2, false) 0 0 21 [some (.ref q), none] [.int r2] (I, L, R, am_SH) (po_M_ahead L R Q)
      refine am_bipush (n := 23) d_M_ahead_21 cb_10 rfl ?_
      refine am_icmp_ne (tgt := 39) (n := 26) d_M_ahead_23 rfl rfl (fun c2 => ?_) (fun c2 => ?_)
      · have h := h.2 c2
        refine am_aload_n (n := 40) d_M_ahead_39 rfl rfl ?_
        refine am_aload_n (n := 41) d_M_ahead_40 rfl rfl ?_
        refine am_getI (n := 44) f_M_154 d_M_ahead_41 rfl rfl hq ?_
        refine am_putI (n := 47) f_M_160 d_M_ahead_44 rfl ⟨_, rfl, Or.inl rfl⟩ rfl rfl hq ?_
        generalize eI2 : am_u2 I q 13 (I q 14) = I2
        have h := h I2 eI2.symm
        refine am_aload_n (n := 48) d_M_ahead_47 rfl rfl ?_
        refine am_aload_n (n := 49) d_M_ahead_48 rfl rfl ?_
        refine am_getI (n := 52) f_M_154 d_M_ahead_49 rfl rfl hq ?_
        refine am_callV (kc := 0) (ks := 0) (As := [.int (I2 q 14)]) (n := 55) d_M_ahead_52 rfl ce_M_byteAt lk_M_157 in_M_byteAt rfl rfl hq rfl rfl (Nat.le_of_ble_eq_true rfl) (Or.inl rfl) (cm_M_byteAt (d := d - 1) hw (by omega) hq h) (by omega) ?_
        rintro _ _ ⟨r3, rfl, rfl, h⟩
        show am_Wp (d, "UnseenRingModel", b_M_ahead, 2, false) 0 0 55 [some (.ref q), none] [.int r3] (I2, L, R, am_SH) (po_M_ahead L R Q)
        refine am_istore_n (ls' := [some (.ref q), some (.int r3)]) (n := 56) d_M_ahead_55 (by decide) rfl rfl ?_
        refine am_aload_n (n := 57) d_M_ahead_56 rfl rfl ?_
        refine am_iload_n (n := 58) d_M_ahead_57 rfl rfl ?_
        refine am_putI (n := 61) f_M_163 d_M_ahead_58 rfl ⟨_, rfl, Or.inl rfl⟩ rfl rfl hq ?_
        generalize eI3 : am_u2 I2 q 15 r3 = I3
        have h := h I3 eI3.symm
        refine am_iload_n (n := 62) d_M_ahead_61 rfl rfl ?_
        refine am_iconst (n := 63) d_M_ahead_62 ci_m1 rfl ?_
        refine am_icmp_ne (tgt := 74) (n := 66) d_M_ahead_63 rfl rfl (fun c3 => ?_) (fun c3 => ?_)
        · have h := h.2 c3
          refine am_iload_n (n := 75) d_M_ahead_74 rfl rfl ?_
          refine am_callS (kc := 0) (ks := 0) (As := [.int r3]) (n := 78) d_M_ahead_75 rfl ce_M_isSmall lk_M_169 st_M_isSmall rfl rfl (Nat.le_of_ble_eq_true rfl) (Or.inl rfl) (cm_M_isSmall (d := d - 1) hw (by omega)  h) (by omega) ?_
          rintro _ _ ⟨r4, rfl, rfl, h⟩
          show am_Wp (d, "UnseenRingModel", b_M_ahead, 2, false) 0 0 78 [some (.ref q), some (.int r3)] [.int (am_b r4)] (I3, L, R, am_SH) (po_M_ahead L R Q)
          refine am_if_eq (y := 0) (tgt := 116) (n := 81) d_M_ahead_78 rfl rfl (fun c4 => ?_) (fun c4 => ?_)
          · have h := h.1 (am_b_0 c4)
            refine am_iload_n (n := 117) d_M_ahead_116 rfl rfl ?_
            refine am_callS (kc := 0) (ks := 0) (As := [.int r3]) (n := 120) d_M_ahead_117 rfl ce_M_isDigit lk_M_172 st_M_isDigit rfl rfl (Nat.le_of_ble_eq_true rfl) (Or.inl rfl) (cm_M_isDigit (d := d - 1) hw (by omega)  h) (by omega) ?_
            rintro _ _ ⟨r5, rfl, rfl, h⟩
            show am_Wp (d, "UnseenRingModel", b_M_ahead, 2, false) 0 0 120 [some (.ref q), some (.int r3)] [.int (am_b r5)] (I3, L, R, am_SH) (po_M_ahead L R Q)
            refine am_if_eq (y := 0) (tgt := 208) (n := 123) d_M_ahead_120 rfl rfl (fun c5 => ?_) (fun c5 => ?_)
            · have h := h.1 (am_b_0 c5)
              refine am_aload_n (n := 209) d_M_ahead_208 rfl rfl ?_
              refine am_dup (n := 210) d_M_ahead_209 rfl rfl ?_
              refine am_getI (n := 213) f_M_154 d_M_ahead_210 rfl rfl hq ?_
              refine am_iconst (n := 214) d_M_ahead_213 ci_1 rfl ?_
              refine am_iadd (n := 215) d_M_ahead_214 rfl ?_
              refine am_putI (n := 218) f_M_154 d_M_ahead_215 rfl ⟨_, rfl, Or.inl rfl⟩ rfl rfl hq ?_
              generalize eI4 : am_u2 I3 q 14 ((I3 q 14) + 1) = I4
              have h := h I4 eI4.symm
              refine am_aload_n (n := 219) d_M_ahead_218 rfl rfl ?_
              refine am_iload_n (n := 220) d_M_ahead_219 rfl rfl ?_
              refine am_bipush (n := 222) d_M_ahead_220 cb_59 rfl ?_
              refine am_icmp_eq (tgt := 243) (n := 225) d_M_ahead_222 rfl rfl (fun c6 => ?_) (fun c6 => ?_)
              · have h := h.1 c6
                refine am_forget (ls' := [some (.ref q), none]) (am_le_s (am_le_n am_le_e)) ?_
                exact tb_M_ahead_243 hw hq hd I4 q hq h
              · have h := h.2 c6
                refine am_iload_n (n := 226) d_M_ahead_225 rfl rfl ?_
                refine am_bipush (n := 228) d_M_ahead_226 cb_60 rfl ?_
                refine am_icmp_eq (tgt := 243) (n := 231) d_M_ahead_228 rfl rfl (fun c7 => ?_) (fun c7 => ?_)
                · have h := h.1 c7
                  refine am_forget (ls' := [some (.ref q), none]) (am_le_s (am_le_n am_le_e)) ?_
                  exact tb_M_ahead_243 hw hq hd I4 q hq h
                · have h := h.2 c7
                  refine am_iload_n (n := 232) d_M_ahead_231 rfl rfl ?_
                  refine am_bipush (n := 234) d_M_ahead_232 cb_62 rfl ?_
                  refine am_icmp_eq (tgt := 243) (n := 237) d_M_ahead_234 rfl rfl (fun c8 => ?_) (fun c8 => ?_)
                  · have h := h.1 c8
                    refine am_forget (ls' := [some (.ref q), none]) (am_le_s (am_le_n am_le_e)) ?_
                    exact tb_M_ahead_243 hw hq hd I4 q hq h
                  · have h := h.2 c8
                    refine am_iload_n (n := 238) d_M_ahead_237 rfl rfl ?_
                    refine am_bipush (n := 240) d_M_ahead_238 cb_61 rfl ?_
                    refine am_icmp_ne (tgt := 247) (n := 243) d_M_ahead_240 rfl rfl (fun c9 => ?_) (fun c9 => ?_)
                    · have h := h.2 c9
                      refine am_iconst (n := 248) d_M_ahead_247 ci_1 rfl ?_
                      refine am_putI (n := 251) f_M_166 d_M_ahead_248 rfl ⟨_, rfl, Or.inl rfl⟩ rfl rfl hq ?_
                      generalize eI6 : am_u2 I4 q 12 1 = I6
                      have h := h I6 eI6.symm
                      exact am_vret d_M_ahead_251 ⟨I6, rfl, rfl, h⟩
                    · have h := h.1 c9
                      refine am_forget (ls' := [some (.ref q), none]) (am_le_s (am_le_n am_le_e)) ?_
                      exact tb_M_ahead_243 hw hq hd I4 q hq h
            · have h := h.2 (am_b_n0 c5)
              refine am_aload_n (n := 124) d_M_ahead_123 rfl rfl ?_
              refine am_iconst (n := 125) d_M_ahead_124 ci_0 rfl ?_
              refine am_putI (n := 128) f_M_163 d_M_ahead_125 rfl ⟨_, rfl, Or.inl rfl⟩ rfl rfl hq ?_
              generalize eI7 : am_u2 I3 q 15 0 = I7
              have h := h I7 eI7.symm
              refine am_forget (ls' := [some (.ref q), none]) (am_le_s (am_le_n am_le_e)) ?_
              obtain ⟨n, h⟩ := h
              exact tl_M_ahead_128 hw hq hd n I7 h
          · have h := h.2 (am_b_n0 c4)
            refine am_forget (ls' := [some (.ref q), none]) (am_le_s (am_le_n am_le_e)) ?_
            obtain ⟨n, h⟩ := h
            exact tl_M_ahead_81 hw hq hd n I3 h
        · have h := h.1 c3
          refine am_aload_n (n := 67) d_M_ahead_66 rfl rfl ?_
          refine am_iconst (n := 68) d_M_ahead_67 ci_0 rfl ?_
          refine am_putI (n := 71) f_M_166 d_M_ahead_68 rfl ⟨_, rfl, Or.inl rfl⟩ rfl rfl hq ?_
          generalize eI13 : am_u2 I3 q 12 0 = I13
          have h := h I13 eI13.symm
          refine am_goto (tgt := 251) d_M_ahead_71 rfl ?_
          exact am_vret d_M_ahead_251 ⟨I13, rfl, rfl, h⟩
      · have h := h.1 c2
        exact tb_M_ahead_26 hw hq ih hd I h
def wp_M_ahead (I : am_TI) (L : am_TL) (R : am_TR) (q : Nat)  (Q : am_TI → Prop) : Prop := (∃ z, wl_M_ahead_0 L R q Q z I)
set_option maxRecDepth 20000 in
theorem cm_M_ahead {d : Nat} {I : am_TI} {L : am_TL} {R : am_TR}  (hw : am_Wf R)   {q : Nat} {Q : am_TI → Prop} (hd : 1 ≤ d) (hq : am_SH[q]? = some (.inl 12)) (h : wp_M_ahead I L R q  Q) : am_Cm d 0 0 y_M_ahead b_M_ahead 2 (none) [.ref q] (I, L, R, am_SH) (po_M_ahead L R Q) := by
  refine am_Cm_of (ini := false) (by decide +kernel) (fun z => by cases z) (by simp [Value.category]) (fun r σ' z => by obtain ⟨_, rfl, -⟩ := z; rfl) ?_
  unfold wp_M_ahead at h
  show am_Wp (d, "UnseenRingModel", b_M_ahead, 2, false) 0 0 0 [some (.ref q), none] [] (I, L, R, am_SH) (po_M_ahead L R Q)
  obtain ⟨n, h⟩ := h
  exact tl_M_ahead_0 hw hq hd n I h
abbrev po_M_begins (L : am_TL) (R : am_TR) (Q : Bool → am_TI → Prop) : Option Value → am_St → Prop := fun r σ' => ∃ (x : Bool) (I' : am_TI), r = some (.int (am_b x)) ∧ σ' = (I', L, R, am_SH) ∧ Q x I'
def wl_M_begins_26 (L : am_TL) (R : am_TR) (q : Nat) (p1 : Int32) (p2 : Int32) (Q : Bool → am_TI → Prop)  : Nat → am_TI → Int32 → Prop
  | 0 => fun _ _ => False
  | f26 + 1 => fun I v3 => ((p1 ≤ v3 → (∀ I2, I2 = am_u2 I q 10 0 → (∀ I3, I3 = am_u2 I2 q 18 0 → (∀ I4, I4 = am_u2 I3 q 17 (-1) → (∀ I5, I5 = am_u2 I4 q 14 0 → (∀ I6, I6 = am_u2 I5 q 19 0 → wp_M_ahead I6 L R q (fun (I7 : am_TI) => Q true I7))))))) ∧ (¬ p1 ≤ v3 → (vp_in v3 900 ∧ (vp_in v3 900 ∧ (∀ I8, I8 = am_u2 I (q + 7) (Int32.toNatClampNeg v3) (vp_nar .byte (I (q + 6) (Int32.toNatClampNeg v3))) → wl_M_begins_26 L R q p1 p2 Q f26 I8 (v3 + 1))))))
set_option maxRecDepth 20000 in
theorem tl_M_begins_26 {d : Nat}  {L : am_TL} {R : am_TR} {q : Nat} {p1 : Int32} {p2 : Int32} {Q : Bool → am_TI → Prop}  (hw : am_Wf R) (hq : am_SH[q]? = some (.inl 12)) (hd : 2 ≤ d) : ∀ (n : Nat) (I : am_TI) (v3 : Int32), wl_M_begins_26 L R q p1 p2 Q  n I v3 → am_Wp (d, "UnseenRingModel", b_M_begins, 4, false) 0 0 26 [some (.ref q), some (.int p1), some (.int p2), some (.int v3)] [] (I, L, R, am_SH) (po_M_begins L R Q) := by
  intro n
  induction n with
  | zero => intro I v3 h; exact h.elim
  | succ n ih =>
    intro I v3 h
    unfold wl_M_begins_26 at h
    refine am_iload_n (n := 27) d_M_begins_26 rfl rfl ?_
    refine am_iload_n (n := 28) d_M_begins_27 rfl rfl ?_
    refine am_icmp_ge (tgt := 49) (n := 31) d_M_begins_28 rfl rfl (fun c4 => ?_) (fun c4 => ?_)
    · have h := h.1 c4
      refine am_aload_n (n := 50) d_M_begins_49 rfl rfl ?_
      refine am_iconst (n := 51) d_M_begins_50 ci_0 rfl ?_
      refine am_putI (n := 54) f_M_145 d_M_begins_51 rfl ⟨_, rfl, Or.inl rfl⟩ rfl rfl hq ?_
      generalize eI2 : am_u2 I q 10 0 = I2
      have h := h I2 eI2.symm
      refine am_aload_n (n := 55) d_M_begins_54 rfl rfl ?_
      refine am_iconst (n := 56) d_M_begins_55 ci_0 rfl ?_
      refine am_putI (n := 59) f_M_191 d_M_begins_56 rfl ⟨_, rfl, Or.inl rfl⟩ rfl rfl hq ?_
      generalize eI3 : am_u2 I2 q 18 0 = I3
      have h := h I3 eI3.symm
      refine am_aload_n (n := 60) d_M_begins_59 rfl rfl ?_
      refine am_iconst (n := 61) d_M_begins_60 ci_m1 rfl ?_
      refine am_putI (n := 64) f_M_41 d_M_begins_61 rfl ⟨_, rfl, Or.inl rfl⟩ rfl rfl hq ?_
      generalize eI4 : am_u2 I3 q 17 (-1) = I4
      have h := h I4 eI4.symm
      refine am_aload_n (n := 65) d_M_begins_64 rfl rfl ?_
      refine am_iconst (n := 66) d_M_begins_65 ci_0 rfl ?_
      refine am_putI (n := 69) f_M_154 d_M_begins_66 rfl ⟨_, rfl, Or.inl rfl⟩ rfl rfl hq ?_
      generalize eI5 : am_u2 I4 q 14 0 = I5
      have h := h I5 eI5.symm
      refine am_aload_n (n := 70) d_M_begins_69 rfl rfl ?_
      refine am_iconst (n := 71) d_M_begins_70 ci_0 rfl ?_
      refine am_putI (n := 74) f_M_194 d_M_begins_71 rfl ⟨_, rfl, Or.inl rfl⟩ rfl rfl hq ?_
      generalize eI6 : am_u2 I5 q 19 0 = I6
      have h := h I6 eI6.symm
      refine am_aload_n (n := 75) d_M_begins_74 rfl rfl ?_
      refine am_callV (kc := 0) (ks := 0) (As := []) (n := 78) d_M_begins_75 rfl ce_M_ahead lk_M_197 in_M_ahead rfl rfl hq rfl rfl (Nat.le_of_ble_eq_true rfl) (Or.inl rfl) (cm_M_ahead (d := d - 1) hw (by omega) hq h) (by omega) ?_
      rintro _ _ ⟨I7, rfl, rfl, h⟩
      show am_Wp (d, "UnseenRingModel", b_M_begins, 4, false) 0 0 78 [some (.ref q), some (.int p1), some (.int p2), some (.int v3)] [] (I7, L, R, am_SH) (po_M_begins L R Q)
      refine am_iconst (n := 79) d_M_begins_78 ci_1 rfl ?_
      exact am_iret d_M_begins_79 ⟨true, I7, rfl, rfl, h⟩
    · have h := h.2 c4
      refine am_aload_n (n := 32) d_M_begins_31 rfl rfl ?_
      refine am_getR (x := (q + 7)) (n := 35) f_M_34 d_M_begins_32 rfl rfl hq (hw.1 q 12 9 7 hq rfl) ?_
      refine am_iload_n (n := 36) d_M_begins_35 rfl rfl ?_
      refine am_aload_n (n := 37) d_M_begins_36 rfl rfl ?_
      refine am_getR (x := (q + 6)) (n := 40) f_M_30 d_M_begins_37 rfl rfl hq (hw.1 q 12 8 6 hq rfl) ?_
      refine am_iload_n (n := 41) d_M_begins_40 rfl rfl ?_
      obtain ⟨g1, h⟩ := h
      refine am_bald2 (n := 42) d_M_begins_41 rfl (am_sho (k := 8) (o := 6) hq (by decide) (by decide) (by decide) rfl) g1 rfl ?_
      obtain ⟨g2, h⟩ := h
      refine am_bast2 (n := 43) d_M_begins_42 rfl (am_sho (k := 9) (o := 7) hq (by decide) (by decide) (by decide) rfl) g2 rfl ?_
      generalize eI8 : am_u2 I (q + 7) (Int32.toNatClampNeg v3) (vp_nar .byte (I (q + 6) (Int32.toNatClampNeg v3))) = I8
      have h := h I8 eI8.symm
      refine am_iinc (v := v3 + 1) (ls' := [some (.ref q), some (.int p1), some (.int p2), some (.int (v3 + 1))]) (n := 46) d_M_begins_43 rfl (congrArg _ ci_1) (by decide) rfl rfl ?_
      refine am_goto (tgt := 26) d_M_begins_46 rfl ?_
      exact ih I8 (v3 + 1)  h
def wp_M_begins (I : am_TI) (L : am_TL) (R : am_TR) (q : Nat) (p1 : Int32) (p2 : Int32)  (Q : Bool → am_TI → Prop) : Prop := ((p1 < 0 → Q false I) ∧ (¬ p1 < 0 → (((I q 10) < p1 → Q false I) ∧ (¬ (I q 10) < p1 → ((p1 ≤ p2 → (∀ I1, I1 = am_u2 I q 11 p1 → (∃ z, wl_M_begins_26 L R q p1 p2 Q z I1 0))) ∧ (¬ p1 ≤ p2 → Q false I))))))
set_option maxRecDepth 20000 in
theorem cm_M_begins {d : Nat} {I : am_TI} {L : am_TL} {R : am_TR}  (hw : am_Wf R)   {q : Nat} {p1 : Int32} {p2 : Int32} {Q : Bool → am_TI → Prop} (hd : 2 ≤ d) (hq : am_SH[q]? = some (.inl 12)) (h : wp_M_begins I L R q p1 p2  Q) : am_Cm d 0 0 y_M_begins b_M_begins 4 (some .boolean) [.ref q, .int p1, .int p2] (I, L, R, am_SH) (po_M_begins L R Q) := by
  refine am_Cm_of (ini := false) (by decide +kernel) (fun z => by cases z) (by simp [Value.category]) (fun r σ' z => by obtain ⟨x, _, rfl, -⟩ := z; exact ⟨_, rfl, am_b_nar x⟩) ?_
  unfold wp_M_begins at h
  show am_Wp (d, "UnseenRingModel", b_M_begins, 4, false) 0 0 0 [some (.ref q), some (.int p1), some (.int p2), none] [] (I, L, R, am_SH) (po_M_begins L R Q)
  refine am_iload_n (n := 1) d_M_begins_0 rfl rfl ?_
  refine am_if_lt (y := 0) (tgt := 17) (n := 4) d_M_begins_1 rfl rfl (fun c1 => ?_) (fun c1 => ?_)
  · have h := h.1 c1
    refine am_iconst (n := 18) d_M_begins_17 ci_0 rfl ?_
    exact am_iret d_M_begins_18 ⟨false, I, rfl, rfl, h⟩
  · have h := h.2 c1
    refine am_iload_n (n := 5) d_M_begins_4 rfl rfl ?_
    refine am_aload_n (n := 6) d_M_begins_5 rfl rfl ?_
    refine am_getI (n := 9) f_M_145 d_M_begins_6 rfl rfl hq ?_
    refine am_icmp_gt (tgt := 17) (n := 12) d_M_begins_9 rfl rfl (fun c2 => ?_) (fun c2 => ?_)
    · have h := h.1 c2
      refine am_iconst (n := 18) d_M_begins_17 ci_0 rfl ?_
      exact am_iret d_M_begins_18 ⟨false, I, rfl, rfl, h⟩
    · have h := h.2 c2
      refine am_iload_n (n := 13) d_M_begins_12 rfl rfl ?_
      refine am_iload_n (n := 14) d_M_begins_13 rfl rfl ?_
      refine am_icmp_le (tgt := 19) (n := 17) d_M_begins_14 rfl rfl (fun c3 => ?_) (fun c3 => ?_)
      · have h := h.1 c3
        refine am_aload_n (n := 20) d_M_begins_19 rfl rfl ?_
        refine am_iload_n (n := 21) d_M_begins_20 rfl rfl ?_
        refine am_putI (n := 24) f_M_151 d_M_begins_21 rfl ⟨_, rfl, Or.inl rfl⟩ rfl rfl hq ?_
        generalize eI1 : am_u2 I q 11 p1 = I1
        have h := h I1 eI1.symm
        refine am_iconst (n := 25) d_M_begins_24 ci_0 rfl ?_
        refine am_istore_n (ls' := [some (.ref q), some (.int p1), some (.int p2), some (.int 0)]) (n := 26) d_M_begins_25 (by decide) rfl rfl ?_
        obtain ⟨n, h⟩ := h
        exact tl_M_begins_26 hw hq hd n I1 0 h
      · have h := h.2 c3
        refine am_iconst (n := 18) d_M_begins_17 ci_0 rfl ?_
        exact am_iret d_M_begins_18 ⟨false, I, rfl, rfl, h⟩
abbrev po_M_refuse (L : am_TL) (R : am_TR) (Q : Int32 → am_TI → Prop) : Option Value → am_St → Prop := fun r σ' => ∃ (x : Int32) (I' : am_TI), r = some (.int x) ∧ σ' = (I', L, R, am_SH) ∧ Q x I'
def wp_M_refuse (I : am_TI) (L : am_TL) (R : am_TR) (q : Nat) (p1 : Int32)  (Q : Int32 → am_TI → Prop) : Prop := (∀ I1, I1 = am_u2 I q 2 p1 → Q (-1) I1)
set_option maxRecDepth 20000 in
theorem cm_M_refuse {d : Nat} {I : am_TI} {L : am_TL} {R : am_TR}  (hw : am_Wf R)   {q : Nat} {p1 : Int32} {Q : Int32 → am_TI → Prop} (hd : 0 ≤ d) (hq : am_SH[q]? = some (.inl 12)) (h : wp_M_refuse I L R q p1  Q) : am_Cm d 0 0 y_M_refuse b_M_refuse 2 (some .int) [.ref q, .int p1] (I, L, R, am_SH) (po_M_refuse L R Q) := by
  refine am_Cm_of (ini := false) (by decide +kernel) (fun z => by cases z) (by simp [Value.category]) (fun r σ' z => by obtain ⟨x, _, rfl, -⟩ := z; exact ⟨_, rfl, rfl⟩) ?_
  unfold wp_M_refuse at h
  show am_Wp (d, "UnseenRingModel", b_M_refuse, 2, false) 0 0 0 [some (.ref q), some (.int p1)] [] (I, L, R, am_SH) (po_M_refuse L R Q)
  refine am_aload_n (n := 1) d_M_refuse_0 rfl rfl ?_
  refine am_iload_n (n := 2) d_M_refuse_1 rfl rfl ?_
  refine am_putI (n := 5) f_M_115 d_M_refuse_2 rfl ⟨_, rfl, Or.inl rfl⟩ rfl rfl hq ?_
  generalize eI1 : am_u2 I q 2 p1 = I1
  have h := h I1 eI1.symm
  refine am_iconst (n := 6) d_M_refuse_5 ci_m1 rfl ?_
  exact am_iret d_M_refuse_6 ⟨(-1), I1, rfl, rfl, h⟩
abbrev po_M_fails (L : am_TL) (R : am_TR) (Q : Bool → am_TI → Prop) : Option Value → am_St → Prop := fun r σ' => ∃ (x : Bool) (I' : am_TI), r = some (.int (am_b x)) ∧ σ' = (I', L, R, am_SH) ∧ Q x I'
def wb_M_fails_21 (L : am_TL) (R : am_TR) (q : Nat) (p1 : Int32) (Q : Bool → am_TI → Prop)  (I : am_TI) (s0 : Nat) (s1 : Int32) : Prop := (∀ I1, I1 = am_u2 I s0 18 s1 → (∀ I2, I2 = am_u2 I1 q 17 (I1 q 13) → Q false I2))
set_option maxRecDepth 20000 in
theorem tb_M_fails_21 {d : Nat}  {L : am_TL} {R : am_TR} {q : Nat} {p1 : Int32} {Q : Bool → am_TI → Prop}  (hw : am_Wf R) (hq : am_SH[q]? = some (.inl 12)) (hd : 0 ≤ d) (I : am_TI) (s0 : Nat) (s1 : Int32) (hs0 : am_SH[s0]? = some (.inl 12)) (h : wb_M_fails_21 L R q p1 Q  I s0 s1) : am_Wp (d, "UnseenRingModel", b_M_fails, 2, false) 0 0 21 [some (.ref q), some (.int p1)] [.int s1, .ref s0] (I, L, R, am_SH) (po_M_fails L R Q) := by
  unfold wb_M_fails_21 at h
  refine am_putI (n := 24) f_M_191 d_M_fails_21 rfl ⟨_, rfl, Or.inl rfl⟩ rfl rfl hs0 ?_
  generalize eI1 : am_u2 I s0 18 s1 = I1
  have h := h I1 eI1.symm
  refine am_aload_n (n := 25) d_M_fails_24 rfl rfl ?_
  refine am_aload_n (n := 26) d_M_fails_25 rfl rfl ?_
  refine am_getI (n := 29) f_M_160 d_M_fails_26 rfl rfl hq ?_
  refine am_putI (n := 32) f_M_41 d_M_fails_29 rfl ⟨_, rfl, Or.inl rfl⟩ rfl rfl hq ?_
  generalize eI2 : am_u2 I1 q 17 (I1 q 13) = I2
  have h := h I2 eI2.symm
  refine am_iconst (n := 33) d_M_fails_32 ci_0 rfl ?_
  exact am_iret d_M_fails_33 ⟨false, I2, rfl, rfl, h⟩
def wp_M_fails (I : am_TI) (L : am_TL) (R : am_TR) (q : Nat) (p1 : Int32)  (Q : Bool → am_TI → Prop) : Prop := (((I q 18) = 0 → (((I q 12) = 1 → wb_M_fails_21 L R q p1 Q I q 1) ∧ (¬ (I q 12) = 1 → wb_M_fails_21 L R q p1 Q I q p1))) ∧ (¬ (I q 18) = 0 → Q false I))
set_option maxRecDepth 20000 in
theorem cm_M_fails {d : Nat} {I : am_TI} {L : am_TL} {R : am_TR}  (hw : am_Wf R)   {q : Nat} {p1 : Int32} {Q : Bool → am_TI → Prop} (hd : 0 ≤ d) (hq : am_SH[q]? = some (.inl 12)) (h : wp_M_fails I L R q p1  Q) : am_Cm d 0 0 y_M_fails b_M_fails 2 (some .boolean) [.ref q, .int p1] (I, L, R, am_SH) (po_M_fails L R Q) := by
  refine am_Cm_of (ini := false) (by decide +kernel) (fun z => by cases z) (by simp [Value.category]) (fun r σ' z => by obtain ⟨x, _, rfl, -⟩ := z; exact ⟨_, rfl, am_b_nar x⟩) ?_
  unfold wp_M_fails at h
  show am_Wp (d, "UnseenRingModel", b_M_fails, 2, false) 0 0 0 [some (.ref q), some (.int p1)] [] (I, L, R, am_SH) (po_M_fails L R Q)
  refine am_aload_n (n := 1) d_M_fails_0 rfl rfl ?_
  refine am_getI (n := 4) f_M_191 d_M_fails_1 rfl rfl hq ?_
  refine am_if_ne (y := 0) (tgt := 32) (n := 7) d_M_fails_4 rfl rfl (fun c1 => ?_) (fun c1 => ?_)
  · have h := h.2 c1
    refine am_iconst (n := 33) d_M_fails_32 ci_0 rfl ?_
    exact am_iret d_M_fails_33 ⟨false, I, rfl, rfl, h⟩
  · have h := h.1 c1
    refine am_aload_n (n := 8) d_M_fails_7 rfl rfl ?_
    refine am_aload_n (n := 9) d_M_fails_8 rfl rfl ?_
    refine am_getI (n := 12) f_M_166 d_M_fails_9 rfl rfl hq ?_
    refine am_iconst (n := 13) d_M_fails_12 ci_1 rfl ?_
    refine am_icmp_ne (tgt := 20) (n := 16) d_M_fails_13 rfl rfl (fun c2 => ?_) (fun c2 => ?_)
    · have h := h.2 c2
      refine am_iload_n (n := 21) d_M_fails_20 rfl rfl ?_
      exact tb_M_fails_21 hw hq hd I q p1 hq h
    · have h := h.1 c2
      refine am_iconst (n := 17) d_M_fails_16 ci_1 rfl ?_
      refine am_goto (tgt := 21) d_M_fails_17 rfl ?_
      exact tb_M_fails_21 hw hq hd I q 1 hq h
abbrev po_M_isFull (I : am_TI) (L : am_TL) (R : am_TR) (Q : Bool → Prop) : Option Value → am_St → Prop := fun r σ' => ∃ (x : Bool), r = some (.int (am_b x)) ∧ σ' = (I, L, R, am_SH) ∧ Q x
def wp_M_isFull (I : am_TI) (L : am_TL) (R : am_TR) (q : Nat) (p1 : Int32) (p2 : Int32)  (Q : Bool → Prop) : Prop := (vp_in (1624 + p1) 2258 ∧ (((I (q + 1) (Int32.toNatClampNeg (1624 + p1))) = p2 → Q true) ∧ (¬ (I (q + 1) (Int32.toNatClampNeg (1624 + p1))) = p2 → Q false)))
set_option maxRecDepth 20000 in
theorem cm_M_isFull {d : Nat} {I : am_TI} {L : am_TL} {R : am_TR}  (hw : am_Wf R)   {q : Nat} {p1 : Int32} {p2 : Int32} {Q : Bool → Prop} (hd : 0 ≤ d) (hq : am_SH[q]? = some (.inl 12)) (h : wp_M_isFull I L R q p1 p2  Q) : am_Cm d 0 0 y_M_isFull b_M_isFull 3 (some .boolean) [.ref q, .int p1, .int p2] (I, L, R, am_SH) (po_M_isFull I L R Q) := by
  refine am_Cm_of (ini := false) (by decide +kernel) (fun z => by cases z) (by simp [Value.category]) (fun r σ' z => by obtain ⟨x, rfl, -⟩ := z; exact ⟨_, rfl, am_b_nar x⟩) ?_
  unfold wp_M_isFull at h
  show am_Wp (d, "UnseenRingModel", b_M_isFull, 3, false) 0 0 0 [some (.ref q), some (.int p1), some (.int p2)] [] (I, L, R, am_SH) (po_M_isFull I L R Q)
  refine am_aload_n (n := 1) d_M_isFull_0 rfl rfl ?_
  refine am_getR (x := (q + 1)) (n := 4) f_M_7 d_M_isFull_1 rfl rfl hq (hw.1 q 12 0 1 hq rfl) ?_
  refine am_sipush (n := 7) d_M_isFull_4 cs_1624 rfl ?_
  refine am_iload_n (n := 8) d_M_isFull_7 rfl rfl ?_
  refine am_iadd (n := 9) d_M_isFull_8 rfl ?_
  obtain ⟨g1, h⟩ := h
  refine am_iald2 (n := 10) d_M_isFull_9 rfl (am_sho (k := 0) (o := 1) hq (by decide) (by decide) (by decide) rfl) g1 rfl ?_
  refine am_iload_n (n := 11) d_M_isFull_10 rfl rfl ?_
  refine am_icmp_ne (tgt := 18) (n := 14) d_M_isFull_11 rfl rfl (fun c1 => ?_) (fun c1 => ?_)
  · have h := h.2 c1
    refine am_iconst (n := 19) d_M_isFull_18 ci_0 rfl ?_
    exact am_iret d_M_isFull_19 ⟨false, rfl, rfl, h⟩
  · have h := h.1 c1
    refine am_iconst (n := 15) d_M_isFull_14 ci_1 rfl ?_
    refine am_goto (tgt := 19) d_M_isFull_15 rfl ?_
    exact am_iret d_M_isFull_19 ⟨true, rfl, rfl, h⟩
abbrev po_M_cellsOf (I : am_TI) (L : am_TL) (R : am_TR) (Q : Int32 → Prop) : Option Value → am_St → Prop := fun r σ' => ∃ (x : Int32), r = some (.int x) ∧ σ' = (I, L, R, am_SH) ∧ Q x
def wp_M_cellsOf (I : am_TI) (L : am_TL) (R : am_TR) (q : Nat) (p1 : Int32)  (Q : Int32 → Prop) : Prop := (vp_in (p1 + 0) 2258 ∧ (vp_in (p1 + 1) 2258 ∧ Q ((I (q + 1) (Int32.toNatClampNeg (p1 + 0))) * (I (q + 1) (Int32.toNatClampNeg (p1 + 1))))))
set_option maxRecDepth 20000 in
theorem cm_M_cellsOf {d : Nat} {I : am_TI} {L : am_TL} {R : am_TR}  (hw : am_Wf R)   {q : Nat} {p1 : Int32} {Q : Int32 → Prop} (hd : 0 ≤ d) (hq : am_SH[q]? = some (.inl 12)) (h : wp_M_cellsOf I L R q p1  Q) : am_Cm d 0 0 y_M_cellsOf b_M_cellsOf 2 (some .int) [.ref q, .int p1] (I, L, R, am_SH) (po_M_cellsOf I L R Q) := by
  refine am_Cm_of (ini := false) (by decide +kernel) (fun z => by cases z) (by simp [Value.category]) (fun r σ' z => by obtain ⟨x, rfl, -⟩ := z; exact ⟨_, rfl, rfl⟩) ?_
  unfold wp_M_cellsOf at h
  show am_Wp (d, "UnseenRingModel", b_M_cellsOf, 2, false) 0 0 0 [some (.ref q), some (.int p1)] [] (I, L, R, am_SH) (po_M_cellsOf I L R Q)
  refine am_aload_n (n := 1) d_M_cellsOf_0 rfl rfl ?_
  refine am_getR (x := (q + 1)) (n := 4) f_M_7 d_M_cellsOf_1 rfl rfl hq (hw.1 q 12 0 1 hq rfl) ?_
  refine am_iload_n (n := 5) d_M_cellsOf_4 rfl rfl ?_
  refine am_iconst (n := 6) d_M_cellsOf_5 ci_0 rfl ?_
  refine am_iadd (n := 7) d_M_cellsOf_6 rfl ?_
  obtain ⟨g1, h⟩ := h
  refine am_iald2 (n := 8) d_M_cellsOf_7 rfl (am_sho (k := 0) (o := 1) hq (by decide) (by decide) (by decide) rfl) g1 rfl ?_
  refine am_aload_n (n := 9) d_M_cellsOf_8 rfl rfl ?_
  refine am_getR (x := (q + 1)) (n := 12) f_M_7 d_M_cellsOf_9 rfl rfl hq (hw.1 q 12 0 1 hq rfl) ?_
  refine am_iload_n (n := 13) d_M_cellsOf_12 rfl rfl ?_
  refine am_iconst (n := 14) d_M_cellsOf_13 ci_1 rfl ?_
  refine am_iadd (n := 15) d_M_cellsOf_14 rfl ?_
  obtain ⟨g2, h⟩ := h
  refine am_iald2 (n := 16) d_M_cellsOf_15 rfl (am_sho (k := 0) (o := 1) hq (by decide) (by decide) (by decide) rfl) g2 rfl ?_
  refine am_imul (n := 17) d_M_cellsOf_16 rfl ?_
  exact am_iret d_M_cellsOf_17 ⟨((I (q + 1) (Int32.toNatClampNeg (p1 + 0))) * (I (q + 1) (Int32.toNatClampNeg (p1 + 1)))), rfl, rfl, h⟩
abbrev po_M_number (L : am_TL) (R : am_TR) (Q : Bool → am_TI → Prop) : Option Value → am_St → Prop := fun r σ' => ∃ (x : Bool) (I' : am_TI), r = some (.int (am_b x)) ∧ σ' = (I', L, R, am_SH) ∧ Q x I'
def wb_M_number_30 (L : am_TL) (R : am_TR) (q : Nat) (p1 : Int32) (p2 : Int32) (p3 : Int32) (Q : Bool → am_TI → Prop)  (I : am_TI) : Prop := wp_M_fails I L R q 4 (fun (r1 : Bool) (I1 : am_TI) => Q r1 I1)
set_option maxRecDepth 20000 in
theorem tb_M_number_30 {d : Nat}  {L : am_TL} {R : am_TR} {q : Nat} {p1 : Int32} {p2 : Int32} {p3 : Int32} {Q : Bool → am_TI → Prop}  (hw : am_Wf R) (hq : am_SH[q]? = some (.inl 12)) (hd : 2 ≤ d) (I : am_TI) (h : wb_M_number_30 L R q p1 p2 p3 Q  I) : am_Wp (d, "UnseenRingModel", b_M_number, 4, false) 0 0 30 [some (.ref q), some (.int p1), some (.int p2), some (.int p3)] [] (I, L, R, am_SH) (po_M_number L R Q) := by
  unfold wb_M_number_30 at h
  refine am_aload_n (n := 31) d_M_number_30 rfl rfl ?_
  refine am_iconst (n := 32) d_M_number_31 ci_4 rfl ?_
  refine am_callV (kc := 0) (ks := 0) (As := [.int 4]) (n := 35) d_M_number_32 rfl ce_M_fails lk_M_203 in_M_fails rfl rfl hq rfl rfl (Nat.le_of_ble_eq_true rfl) (Or.inl rfl) (cm_M_fails (d := d - 1) hw (by omega) hq h) (by omega) ?_
  rintro _ _ ⟨r1, I1, rfl, rfl, h⟩
  show am_Wp (d, "UnseenRingModel", b_M_number, 4, false) 0 0 35 [some (.ref q), some (.int p1), some (.int p2), some (.int p3)] [.int (am_b r1)] (I1, L, R, am_SH) (po_M_number L R Q)
  exact am_iret d_M_number_35 ⟨r1, I1, rfl, rfl, h⟩
def wp_M_number (I : am_TI) (L : am_TL) (R : am_TR) (q : Nat) (p1 : Int32) (p2 : Int32) (p3 : Int32)  (Q : Bool → am_TI → Prop) : Prop := (((I q 12) = 3 → (((I q 15) < p2 → wb_M_number_30 L R q p1 p2 p3 Q I) ∧ (¬ (I q 15) < p2 → (((I q 15) ≤ p3 → (vp_in p1 2258 ∧ (∀ I2, I2 = am_u2 I (q + 1) (Int32.toNatClampNeg p1) (I q 15) → wp_M_ahead I2 L R q (fun (I3 : am_TI) => Q true I3)))) ∧ (¬ (I q 15) ≤ p3 → wb_M_number_30 L R q p1 p2 p3 Q I))))) ∧ (¬ (I q 12) = 3 → wp_M_fails I L R q 2 (fun (r2 : Bool) (I4 : am_TI) => Q r2 I4)))
set_option maxRecDepth 20000 in
theorem cm_M_number {d : Nat} {I : am_TI} {L : am_TL} {R : am_TR}  (hw : am_Wf R)   {q : Nat} {p1 : Int32} {p2 : Int32} {p3 : Int32} {Q : Bool → am_TI → Prop} (hd : 2 ≤ d) (hq : am_SH[q]? = some (.inl 12)) (h : wp_M_number I L R q p1 p2 p3  Q) : am_Cm d 0 0 y_M_number b_M_number 4 (some .boolean) [.ref q, .int p1, .int p2, .int p3] (I, L, R, am_SH) (po_M_number L R Q) := by
  refine am_Cm_of (ini := false) (by decide +kernel) (fun z => by cases z) (by simp [Value.category]) (fun r σ' z => by obtain ⟨x, _, rfl, -⟩ := z; exact ⟨_, rfl, am_b_nar x⟩) ?_
  unfold wp_M_number at h
  show am_Wp (d, "UnseenRingModel", b_M_number, 4, false) 0 0 0 [some (.ref q), some (.int p1), some (.int p2), some (.int p3)] [] (I, L, R, am_SH) (po_M_number L R Q)
  refine am_aload_n (n := 1) d_M_number_0 rfl rfl ?_
  refine am_getI (n := 4) f_M_166 d_M_number_1 rfl rfl hq ?_
  refine am_iconst (n := 5) d_M_number_4 ci_3 rfl ?_
  refine am_icmp_eq (tgt := 14) (n := 8) d_M_number_5 rfl rfl (fun c1 => ?_) (fun c1 => ?_)
  · have h := h.1 c1
    refine am_aload_n (n := 15) d_M_number_14 rfl rfl ?_
    refine am_getI (n := 18) f_M_163 d_M_number_15 rfl rfl hq ?_
    refine am_iload_n (n := 19) d_M_number_18 rfl rfl ?_
    refine am_icmp_lt (tgt := 30) (n := 22) d_M_number_19 rfl rfl (fun c2 => ?_) (fun c2 => ?_)
    · have h := h.1 c2
      exact tb_M_number_30 hw hq hd I h
    · have h := h.2 c2
      refine am_aload_n (n := 23) d_M_number_22 rfl rfl ?_
      refine am_getI (n := 26) f_M_163 d_M_number_23 rfl rfl hq ?_
      refine am_iload_n (n := 27) d_M_number_26 rfl rfl ?_
      refine am_icmp_le (tgt := 36) (n := 30) d_M_number_27 rfl rfl (fun c3 => ?_) (fun c3 => ?_)
      · have h := h.1 c3
        refine am_aload_n (n := 37) d_M_number_36 rfl rfl ?_
        refine am_getR (x := (q + 1)) (n := 40) f_M_7 d_M_number_37 rfl rfl hq (hw.1 q 12 0 1 hq rfl) ?_
        refine am_iload_n (n := 41) d_M_number_40 rfl rfl ?_
        refine am_aload_n (n := 42) d_M_number_41 rfl rfl ?_
        refine am_getI (n := 45) f_M_163 d_M_number_42 rfl rfl hq ?_
        obtain ⟨g1, h⟩ := h
        refine am_iast2 (n := 46) d_M_number_45 rfl (am_sho (k := 0) (o := 1) hq (by decide) (by decide) (by decide) rfl) g1 rfl ?_
        generalize eI2 : am_u2 I (q + 1) (Int32.toNatClampNeg p1) (I q 15) = I2
        have h := h I2 eI2.symm
        refine am_aload_n (n := 47) d_M_number_46 rfl rfl ?_
        refine am_callV (kc := 0) (ks := 0) (As := []) (n := 50) d_M_number_47 rfl ce_M_ahead lk_M_197 in_M_ahead rfl rfl hq rfl rfl (Nat.le_of_ble_eq_true rfl) (Or.inl rfl) (cm_M_ahead (d := d - 1) hw (by omega) hq h) (by omega) ?_
        rintro _ _ ⟨I3, rfl, rfl, h⟩
        show am_Wp (d, "UnseenRingModel", b_M_number, 4, false) 0 0 50 [some (.ref q), some (.int p1), some (.int p2), some (.int p3)] [] (I3, L, R, am_SH) (po_M_number L R Q)
        refine am_iconst (n := 51) d_M_number_50 ci_1 rfl ?_
        exact am_iret d_M_number_51 ⟨true, I3, rfl, rfl, h⟩
      · have h := h.2 c3
        exact tb_M_number_30 hw hq hd I h
  · have h := h.2 c1
    refine am_aload_n (n := 9) d_M_number_8 rfl rfl ?_
    refine am_iconst (n := 10) d_M_number_9 ci_2 rfl ?_
    refine am_callV (kc := 0) (ks := 0) (As := [.int 2]) (n := 13) d_M_number_10 rfl ce_M_fails lk_M_203 in_M_fails rfl rfl hq rfl rfl (Nat.le_of_ble_eq_true rfl) (Or.inl rfl) (cm_M_fails (d := d - 1) hw (by omega) hq h) (by omega) ?_
    rintro _ _ ⟨r2, I4, rfl, rfl, h⟩
    show am_Wp (d, "UnseenRingModel", b_M_number, 4, false) 0 0 13 [some (.ref q), some (.int p1), some (.int p2), some (.int p3)] [.int (am_b r2)] (I4, L, R, am_SH) (po_M_number L R Q)
    exact am_iret d_M_number_13 ⟨r2, I4, rfl, rfl, h⟩
abbrev po_M_newCellTo (L : am_TL) (R : am_TR) (Q : Bool → am_TI → Prop) : Option Value → am_St → Prop := fun r σ' => ∃ (x : Bool) (I' : am_TI), r = some (.int (am_b x)) ∧ σ' = (I', L, R, am_SH) ∧ Q x I'
def wp_M_newCellTo (I : am_TI) (L : am_TL) (R : am_TR) (q : Nat) (p1 : Int32)  (Q : Bool → am_TI → Prop) : Prop := wp_M_cellsOf I L R q 1624 (fun (r1 : Int32) => wp_M_number I L R q p1 0 (r1 - 1) (fun (r2 : Bool) (I1 : am_TI) => Q r2 I1))
set_option maxRecDepth 20000 in
theorem cm_M_newCellTo {d : Nat} {I : am_TI} {L : am_TL} {R : am_TR}  (hw : am_Wf R)   {q : Nat} {p1 : Int32} {Q : Bool → am_TI → Prop} (hd : 3 ≤ d) (hq : am_SH[q]? = some (.inl 12)) (h : wp_M_newCellTo I L R q p1  Q) : am_Cm d 0 0 y_M_newCellTo b_M_newCellTo 2 (some .boolean) [.ref q, .int p1] (I, L, R, am_SH) (po_M_newCellTo L R Q) := by
  refine am_Cm_of (ini := false) (by decide +kernel) (fun z => by cases z) (by simp [Value.category]) (fun r σ' z => by obtain ⟨x, _, rfl, -⟩ := z; exact ⟨_, rfl, am_b_nar x⟩) ?_
  unfold wp_M_newCellTo at h
  show am_Wp (d, "UnseenRingModel", b_M_newCellTo, 2, false) 0 0 0 [some (.ref q), some (.int p1)] [] (I, L, R, am_SH) (po_M_newCellTo L R Q)
  refine am_aload_n (n := 1) d_M_newCellTo_0 rfl rfl ?_
  refine am_iload_n (n := 2) d_M_newCellTo_1 rfl rfl ?_
  refine am_iconst (n := 3) d_M_newCellTo_2 ci_0 rfl ?_
  refine am_aload_n (n := 4) d_M_newCellTo_3 rfl rfl ?_
  refine am_sipush (n := 7) d_M_newCellTo_4 cs_1624 rfl ?_
  refine am_callV (kc := 0) (ks := 0) (As := [.int 1624]) (n := 10) d_M_newCellTo_7 rfl ce_M_cellsOf lk_M_223 in_M_cellsOf rfl rfl hq rfl rfl (Nat.le_of_ble_eq_true rfl) (Or.inl rfl) (cm_M_cellsOf (d := d - 1) hw (by omega) hq h) (by omega) ?_
  rintro _ _ ⟨r1, rfl, rfl, h⟩
  show am_Wp (d, "UnseenRingModel", b_M_newCellTo, 2, false) 0 0 10 [some (.ref q), some (.int p1)] [.int r1, .int 0, .int p1, .ref q] (I, L, R, am_SH) (po_M_newCellTo L R Q)
  refine am_iconst (n := 11) d_M_newCellTo_10 ci_1 rfl ?_
  refine am_isub (n := 12) d_M_newCellTo_11 rfl ?_
  refine am_callV (kc := 0) (ks := 0) (As := [.int p1, .int 0, .int (r1 - 1)]) (n := 15) d_M_newCellTo_12 rfl ce_M_number lk_M_219 in_M_number rfl rfl hq rfl rfl (Nat.le_of_ble_eq_true rfl) (Or.inl rfl) (cm_M_number (d := d - 1) hw (by omega) hq h) (by omega) ?_
  rintro _ _ ⟨r2, I1, rfl, rfl, h⟩
  show am_Wp (d, "UnseenRingModel", b_M_newCellTo, 2, false) 0 0 15 [some (.ref q), some (.int p1)] [.int (am_b r2)] (I1, L, R, am_SH) (po_M_newCellTo L R Q)
  exact am_iret d_M_newCellTo_15 ⟨r2, I1, rfl, rfl, h⟩
abbrev po_M_inWords (I : am_TI) (L : am_TL) (R : am_TR) (Q : Int32 → Prop) : Option Value → am_St → Prop := fun r σ' => ∃ (x : Int32), r = some (.int x) ∧ σ' = (I, L, R, am_SH) ∧ Q x
def wb_M_inWords_115 (I : am_TI) (L : am_TL) (R : am_TR) (q : Nat) (p1 : Nat) (Q : Int32 → Prop) (K14 : Int32 → Int32 → Prop) (v2 : Int32) (v4 : Int32) (v5 : Bool) : Prop := ((v5 = false → K14 (v2 + 1) (v4 + 1)) ∧ (v5 = true → Q v2))
set_option maxRecDepth 20000 in
theorem tb_M_inWords_115 {d : Nat}  {I : am_TI} {L : am_TL} {R : am_TR} {q : Nat} {p1 : Nat} {Q : Int32 → Prop} {K14 : Int32 → Int32 → Prop} (hw : am_Wf R) (hq : am_SH[q]? = some (.inl 12)) (hK14 : ∀ (v2 : Int32) (v3 : Int32), K14 v2 v3 → am_Wp (d, "UnseenRingModel", b_M_inWords, 7, false) 0 0 14 [some (.ref q), some (.ref p1), some (.int v2), some (.int v3), none, none, none] [] (I, L, R, am_SH) (po_M_inWords I L R Q)) (hd : 4 ≤ d) (v2 : Int32) (v4 : Int32) (v5 : Bool) (h : wb_M_inWords_115 I L R q p1 Q K14 v2 v4 v5) : am_Wp (d, "UnseenRingModel", b_M_inWords, 7, false) 0 0 115 [some (.ref q), some (.ref p1), some (.int v2), none, some (.int v4), some (.int (am_b v5)), none] [] (I, L, R, am_SH) (po_M_inWords I L R Q) := by
  unfold wb_M_inWords_115 at h
  refine am_iload (n := 117) d_M_inWords_115 rfl rfl ?_
  refine am_if_eq (y := 0) (tgt := 122) (n := 120) d_M_inWords_117 rfl rfl (fun c6 => ?_) (fun c6 => ?_)
  · have h := h.1 (am_b_0 c6)
    refine am_iinc (v := v2 + 1) (ls' := [some (.ref q), some (.ref p1), some (.int (v2 + 1)), none, some (.int v4), some (.int (am_b v5)), none]) (n := 125) d_M_inWords_122 rfl (congrArg _ ci_1) (by decide) rfl rfl ?_
    refine am_iload (n := 127) d_M_inWords_125 rfl rfl ?_
    refine am_iconst (n := 128) d_M_inWords_127 ci_1 rfl ?_
    refine am_iadd (n := 129) d_M_inWords_128 rfl ?_
    refine am_istore_n (ls' := [some (.ref q), some (.ref p1), some (.int (v2 + 1)), some (.int (v4 + 1)), some (.int v4), some (.int (am_b v5)), none]) (n := 130) d_M_inWords_129 (by decide) rfl rfl ?_
    refine am_goto (tgt := 14) d_M_inWords_130 rfl ?_
    refine am_forget (ls' := [some (.ref q), some (.ref p1), some (.int (v2 + 1)), some (.int (v4 + 1)), none, none, none]) (am_le_s (am_le_s (am_le_s (am_le_s (am_le_n (am_le_n (am_le_n am_le_e))))))) ?_
    exact hK14 (v2 + 1) (v4 + 1)  h
  · have h := h.2 (am_b_n0 c6)
    refine am_iload_n (n := 121) d_M_inWords_120 rfl rfl ?_
    exact am_iret d_M_inWords_121 ⟨v2, rfl, rfl, h⟩
def wl_M_inWords_68 (I : am_TI) (L : am_TL) (R : am_TR) (q : Nat) (p1 : Nat) (Q : Int32 → Prop) (K14 : Int32 → Int32 → Prop) : Nat → Int32 → Int32 → Int32 → Bool → Int32 → Prop
  | 0 => fun _ _ _ _ _ => False
  | f68 + 1 => fun v2 v3 v4 v5 v6 => ((v4 ≤ v6 → wb_M_inWords_115 I L R q p1 Q K14 v2 v4 v5) ∧ (¬ v4 ≤ v6 → ((v5 = false → wb_M_inWords_115 I L R q p1 Q K14 v2 v4 v5) ∧ (v5 = true → wp_String_charAt I L R p1 v6 (fun (r3 : Int32) => wp_M_byteAt I L R q (((I q 13) + v6) - v3) (fun (r4 : Int32) => ((r3 = r4 → wl_M_inWords_68 I L R q p1 Q K14 f68 v2 v3 v4 true (v6 + 1)) ∧ (¬ r3 = r4 → wl_M_inWords_68 I L R q p1 Q K14 f68 v2 v3 v4 false (v6 + 1)))))))))
set_option maxRecDepth 20000 in
theorem tl_M_inWords_68 {d : Nat}  {I : am_TI} {L : am_TL} {R : am_TR} {q : Nat} {p1 : Nat} {Q : Int32 → Prop} {K14 : Int32 → Int32 → Prop} (hw : am_Wf R) (hq : am_SH[q]? = some (.inl 12)) (hK14 : ∀ (v2 : Int32) (v3 : Int32), K14 v2 v3 → am_Wp (d, "UnseenRingModel", b_M_inWords, 7, false) 0 0 14 [some (.ref q), some (.ref p1), some (.int v2), some (.int v3), none, none, none] [] (I, L, R, am_SH) (po_M_inWords I L R Q)) (hd : 4 ≤ d) : ∀ (n : Nat) (v2 : Int32) (v3 : Int32) (v4 : Int32) (v5 : Bool) (v6 : Int32), wl_M_inWords_68 I L R q p1 Q K14 n v2 v3 v4 v5 v6 → am_Wp (d, "UnseenRingModel", b_M_inWords, 7, false) 0 0 68 [some (.ref q), some (.ref p1), some (.int v2), some (.int v3), some (.int v4), some (.int (am_b v5)), some (.int v6)] [] (I, L, R, am_SH) (po_M_inWords I L R Q) := by
  intro n
  induction n with
  | zero => intro v2 v3 v4 v5 v6 h; exact h.elim
  | succ n ih =>
    intro v2 v3 v4 v5 v6 h
    unfold wl_M_inWords_68 at h
    refine am_iload (n := 70) d_M_inWords_68 rfl rfl ?_
    refine am_iload (n := 72) d_M_inWords_70 rfl rfl ?_
    refine am_icmp_ge (tgt := 115) (n := 75) d_M_inWords_72 rfl rfl (fun c5 => ?_) (fun c5 => ?_)
    · have h := h.1 c5
      refine am_forget (ls' := [some (.ref q), some (.ref p1), some (.int v2), none, some (.int v4), some (.int (am_b v5)), none]) (am_le_s (am_le_s (am_le_s (am_le_n (am_le_s (am_le_s (am_le_n am_le_e))))))) ?_
      exact tb_M_inWords_115 hw hq hK14 hd v2 v4 v5 h
    · have h := h.2 c5
      refine am_iload (n := 77) d_M_inWords_75 rfl rfl ?_
      refine am_if_eq (y := 0) (tgt := 115) (n := 80) d_M_inWords_77 rfl rfl (fun c7 => ?_) (fun c7 => ?_)
      · have h := h.1 (am_b_0 c7)
        refine am_forget (ls' := [some (.ref q), some (.ref p1), some (.int v2), none, some (.int v4), some (.int (am_b v5)), none]) (am_le_s (am_le_s (am_le_s (am_le_n (am_le_s (am_le_s (am_le_n am_le_e))))))) ?_
        exact tb_M_inWords_115 hw hq hK14 hd v2 v4 v5 h
      · have h := h.2 (am_b_n0 c7)
        refine am_aload_n (n := 81) d_M_inWords_80 rfl rfl ?_
        refine am_iload (n := 83) d_M_inWords_81 rfl rfl ?_
        refine am_callStr (As := [.int v6]) (n := 86) d_M_inWords_83 rfl ce_String_charAt lk_M_187 in_String_charAt rfl ⟨_, h.choose_spec.1, h.choose_spec.2.1⟩ rfl rfl (Nat.le_of_ble_eq_true rfl) (cm_String_charAt (d := d - 1) hw (by omega)  h) (by omega) ?_
        rintro _ _ ⟨r3, rfl, rfl, h, -⟩
        show am_Wp (d, "UnseenRingModel", b_M_inWords, 7, false) 0 0 86 [some (.ref q), some (.ref p1), some (.int v2), some (.int v3), some (.int v4), some (.int (am_b v5)), some (.int v6)] [.int r3] (I, L, R, am_SH) (po_M_inWords I L R Q)
        refine am_aload_n (n := 87) d_M_inWords_86 rfl rfl ?_
        refine am_aload_n (n := 88) d_M_inWords_87 rfl rfl ?_
        refine am_getI (n := 91) f_M_160 d_M_inWords_88 rfl rfl hq ?_
        refine am_iload (n := 93) d_M_inWords_91 rfl rfl ?_
        refine am_iadd (n := 94) d_M_inWords_93 rfl ?_
        refine am_iload_n (n := 95) d_M_inWords_94 rfl rfl ?_
        refine am_isub (n := 96) d_M_inWords_95 rfl ?_
        refine am_callV (kc := 0) (ks := 0) (As := [.int (((I q 13) + v6) - v3)]) (n := 99) d_M_inWords_96 rfl ce_M_byteAt lk_M_157 in_M_byteAt rfl rfl hq rfl rfl (Nat.le_of_ble_eq_true rfl) (Or.inl rfl) (cm_M_byteAt (d := d - 1) hw (by omega) hq h) (by omega) ?_
        rintro _ _ ⟨r4, rfl, rfl, h⟩
        show am_Wp (d, "UnseenRingModel", b_M_inWords, 7, false) 0 0 99 [some (.ref q), some (.ref p1), some (.int v2), some (.int v3), some (.int v4), some (.int (am_b v5)), some (.int v6)] [.int r4, .int r3] (I, L, R, am_SH) (po_M_inWords I L R Q)
        refine am_icmp_ne (tgt := 106) (n := 102) d_M_inWords_99 rfl rfl (fun c8 => ?_) (fun c8 => ?_)
        · have h := h.2 c8
          refine am_iconst (n := 107) d_M_inWords_106 ci_0 rfl ?_
          refine am_istore (ls' := [some (.ref q), some (.ref p1), some (.int v2), some (.int v3), some (.int v4), some (.int 0), some (.int v6)]) (n := 109) d_M_inWords_107 (by decide) rfl rfl ?_
          refine am_iinc (v := v6 + 1) (ls' := [some (.ref q), some (.ref p1), some (.int v2), some (.int v3), some (.int v4), some (.int 0), some (.int (v6 + 1))]) (n := 112) d_M_inWords_109 rfl (congrArg _ ci_1) (by decide) rfl rfl ?_
          refine am_goto (tgt := 68) d_M_inWords_112 rfl ?_
          exact ih v2 v3 v4 false (v6 + 1)  h
        · have h := h.1 c8
          refine am_iconst (n := 103) d_M_inWords_102 ci_1 rfl ?_
          refine am_goto (tgt := 107) d_M_inWords_103 rfl ?_
          refine am_istore (ls' := [some (.ref q), some (.ref p1), some (.int v2), some (.int v3), some (.int v4), some (.int 1), some (.int v6)]) (n := 109) d_M_inWords_107 (by decide) rfl rfl ?_
          refine am_iinc (v := v6 + 1) (ls' := [some (.ref q), some (.ref p1), some (.int v2), some (.int v3), some (.int v4), some (.int 1), some (.int (v6 + 1))]) (n := 112) d_M_inWords_109 rfl (congrArg _ ci_1) (by decide) rfl rfl ?_
          refine am_goto (tgt := 68) d_M_inWords_112 rfl ?_
          exact ih v2 v3 v4 true (v6 + 1)  h
def wb_M_inWords_63 (I : am_TI) (L : am_TL) (R : am_TR) (q : Nat) (p1 : Nat) (Q : Int32 → Prop) (K14 : Int32 → Int32 → Prop) (v2 : Int32) (v3 : Int32) (v4 : Int32) (s0 : Bool) : Prop := (∃ z, wl_M_inWords_68 I L R q p1 Q K14 z v2 v3 v4 s0 v3)
set_option maxRecDepth 20000 in
theorem tb_M_inWords_63 {d : Nat}  {I : am_TI} {L : am_TL} {R : am_TR} {q : Nat} {p1 : Nat} {Q : Int32 → Prop} {K14 : Int32 → Int32 → Prop} (hw : am_Wf R) (hq : am_SH[q]? = some (.inl 12)) (hK14 : ∀ (v2 : Int32) (v3 : Int32), K14 v2 v3 → am_Wp (d, "UnseenRingModel", b_M_inWords, 7, false) 0 0 14 [some (.ref q), some (.ref p1), some (.int v2), some (.int v3), none, none, none] [] (I, L, R, am_SH) (po_M_inWords I L R Q)) (hd : 4 ≤ d) (v2 : Int32) (v3 : Int32) (v4 : Int32) (s0 : Bool) (h : wb_M_inWords_63 I L R q p1 Q K14 v2 v3 v4 s0) : am_Wp (d, "UnseenRingModel", b_M_inWords, 7, false) 0 0 63 [some (.ref q), some (.ref p1), some (.int v2), some (.int v3), some (.int v4), none, none] [.int (am_b s0)] (I, L, R, am_SH) (po_M_inWords I L R Q) := by
  unfold wb_M_inWords_63 at h
  refine am_istore (ls' := [some (.ref q), some (.ref p1), some (.int v2), some (.int v3), some (.int v4), some (.int (am_b s0)), none]) (n := 65) d_M_inWords_63 (by decide) rfl rfl ?_
  refine am_iload_n (n := 66) d_M_inWords_65 rfl rfl ?_
  refine am_istore (ls' := [some (.ref q), some (.ref p1), some (.int v2), some (.int v3), some (.int v4), some (.int (am_b s0)), some (.int v3)]) (n := 68) d_M_inWords_66 (by decide) rfl rfl ?_
  obtain ⟨n, h⟩ := h
  exact tl_M_inWords_68 hw hq hK14 hd n v2 v3 v4 s0 v3 h
def wl_M_inWords_25 (I : am_TI) (L : am_TL) (R : am_TR) (q : Nat) (p1 : Nat) (Q : Int32 → Prop) (K14 : Int32 → Int32 → Prop) : Nat → Int32 → Int32 → Int32 → Prop
  | 0 => fun _ _ _ => False
  | f25 + 1 => fun v2 v3 v4 => wp_String_charAt I L R p1 v4 (fun (r2 : Int32) => ((r2 = 32 → (((v4 - v3) = ((I q 14) - (I q 13)) → wb_M_inWords_63 I L R q p1 Q K14 v2 v3 v4 true) ∧ (¬ (v4 - v3) = ((I q 14) - (I q 13)) → wb_M_inWords_63 I L R q p1 Q K14 v2 v3 v4 false))) ∧ (¬ r2 = 32 → wl_M_inWords_25 I L R q p1 Q K14 f25 v2 v3 (v4 + 1))))
set_option maxRecDepth 20000 in
theorem tl_M_inWords_25 {d : Nat}  {I : am_TI} {L : am_TL} {R : am_TR} {q : Nat} {p1 : Nat} {Q : Int32 → Prop} {K14 : Int32 → Int32 → Prop} (hw : am_Wf R) (hq : am_SH[q]? = some (.inl 12)) (hK14 : ∀ (v2 : Int32) (v3 : Int32), K14 v2 v3 → am_Wp (d, "UnseenRingModel", b_M_inWords, 7, false) 0 0 14 [some (.ref q), some (.ref p1), some (.int v2), some (.int v3), none, none, none] [] (I, L, R, am_SH) (po_M_inWords I L R Q)) (hd : 4 ≤ d) : ∀ (n : Nat) (v2 : Int32) (v3 : Int32) (v4 : Int32), wl_M_inWords_25 I L R q p1 Q K14 n v2 v3 v4 → am_Wp (d, "UnseenRingModel", b_M_inWords, 7, false) 0 0 25 [some (.ref q), some (.ref p1), some (.int v2), some (.int v3), some (.int v4), none, none] [] (I, L, R, am_SH) (po_M_inWords I L R Q) := by
  intro n
  induction n with
  | zero => intro v2 v3 v4 h; exact h.elim
  | succ n ih =>
    intro v2 v3 v4 h
    unfold wl_M_inWords_25 at h
    refine am_aload_n (n := 26) d_M_inWords_25 rfl rfl ?_
    refine am_iload (n := 28) d_M_inWords_26 rfl rfl ?_
    refine am_callStr (As := [.int v4]) (n := 31) d_M_inWords_28 rfl ce_String_charAt lk_M_187 in_String_charAt rfl ⟨_, h.choose_spec.1, h.choose_spec.2.1⟩ rfl rfl (Nat.le_of_ble_eq_true rfl) (cm_String_charAt (d := d - 1) hw (by omega)  h) (by omega) ?_
    rintro _ _ ⟨r2, rfl, rfl, h, -⟩
    show am_Wp (d, "UnseenRingModel", b_M_inWords, 7, false) 0 0 31 [some (.ref q), some (.ref p1), some (.int v2), some (.int v3), some (.int v4), none, none] [.int r2] (I, L, R, am_SH) (po_M_inWords I L R Q)
    refine am_bipush (n := 33) d_M_inWords_31 cb_32 rfl ?_
    refine am_icmp_eq (tgt := 42) (n := 36) d_M_inWords_33 rfl rfl (fun c3 => ?_) (fun c3 => ?_)
    · have h := h.1 c3
      refine am_iload (n := 44) d_M_inWords_42 rfl rfl ?_
      refine am_iload_n (n := 45) d_M_inWords_44 rfl rfl ?_
      refine am_isub (n := 46) d_M_inWords_45 rfl ?_
      refine am_aload_n (n := 47) d_M_inWords_46 rfl rfl ?_
      refine am_getI (n := 50) f_M_154 d_M_inWords_47 rfl rfl hq ?_
      refine am_aload_n (n := 51) d_M_inWords_50 rfl rfl ?_
      refine am_getI (n := 54) f_M_160 d_M_inWords_51 rfl rfl hq ?_
      refine am_isub (n := 55) d_M_inWords_54 rfl ?_
      refine am_icmp_ne (tgt := 62) (n := 58) d_M_inWords_55 rfl rfl (fun c4 => ?_) (fun c4 => ?_)
      · have h := h.2 c4
        refine am_iconst (n := 63) d_M_inWords_62 ci_0 rfl ?_
        exact tb_M_inWords_63 hw hq hK14 hd v2 v3 v4 false h
      · have h := h.1 c4
        refine am_iconst (n := 59) d_M_inWords_58 ci_1 rfl ?_
        refine am_goto (tgt := 63) d_M_inWords_59 rfl ?_
        exact tb_M_inWords_63 hw hq hK14 hd v2 v3 v4 true h
    · have h := h.2 c3
      refine am_iinc (v := v4 + 1) (ls' := [some (.ref q), some (.ref p1), some (.int v2), some (.int v3), some (.int (v4 + 1)), none, none]) (n := 39) d_M_inWords_36 rfl (congrArg _ ci_1) (by decide) rfl rfl ?_
      refine am_goto (tgt := 25) d_M_inWords_39 rfl ?_
      exact ih v2 v3 (v4 + 1)  h
def wl_M_inWords_14 (I : am_TI) (L : am_TL) (R : am_TR) (q : Nat) (p1 : Nat) (Q : Int32 → Prop)  : Nat → Int32 → Int32 → Prop
  | 0 => fun _ _ => False
  | f14 + 1 => fun v2 v3 => wp_String_length I L R p1 (fun (r1 : Int32) => ((r1 ≤ v3 → Q (-1)) ∧ (¬ r1 ≤ v3 → (∃ z, wl_M_inWords_25 I L R q p1 Q (wl_M_inWords_14 I L R q p1 Q f14) z v2 v3 v3))))
set_option maxRecDepth 20000 in
theorem tl_M_inWords_14 {d : Nat}  {I : am_TI} {L : am_TL} {R : am_TR} {q : Nat} {p1 : Nat} {Q : Int32 → Prop}  (hw : am_Wf R) (hq : am_SH[q]? = some (.inl 12)) (hd : 4 ≤ d) : ∀ (n : Nat) (v2 : Int32) (v3 : Int32), wl_M_inWords_14 I L R q p1 Q  n v2 v3 → am_Wp (d, "UnseenRingModel", b_M_inWords, 7, false) 0 0 14 [some (.ref q), some (.ref p1), some (.int v2), some (.int v3), none, none, none] [] (I, L, R, am_SH) (po_M_inWords I L R Q) := by
  intro n
  induction n with
  | zero => intro v2 v3 h; exact h.elim
  | succ n ih =>
    intro v2 v3 h
    unfold wl_M_inWords_14 at h
    refine am_iload_n (n := 15) d_M_inWords_14 rfl rfl ?_
    refine am_aload_n (n := 16) d_M_inWords_15 rfl rfl ?_
    refine am_callStr (As := []) (n := 19) d_M_inWords_16 rfl ce_String_length lk_M_181 in_String_length rfl ⟨_, h.choose_spec.1, h.choose_spec.2.1⟩ rfl rfl (Nat.le_of_ble_eq_true rfl) (cm_String_length (d := d - 1) hw (by omega)  h) (by omega) ?_
    rintro _ _ ⟨r1, rfl, rfl, h⟩
    show am_Wp (d, "UnseenRingModel", b_M_inWords, 7, false) 0 0 19 [some (.ref q), some (.ref p1), some (.int v2), some (.int v3), none, none, none] [.int r1, .int v3] (I, L, R, am_SH) (po_M_inWords I L R Q)
    refine am_icmp_ge (tgt := 133) (n := 22) d_M_inWords_19 rfl rfl (fun c2 => ?_) (fun c2 => ?_)
    · have h := h.1 c2
      refine am_iconst (n := 134) d_M_inWords_133 ci_m1 rfl ?_
      exact am_iret d_M_inWords_134 ⟨(-1), rfl, rfl, h⟩
    · have h := h.2 c2
      refine am_iload_n (n := 23) d_M_inWords_22 rfl rfl ?_
      refine am_istore (ls' := [some (.ref q), some (.ref p1), some (.int v2), some (.int v3), some (.int v3), none, none]) (n := 25) d_M_inWords_23 (by decide) rfl rfl ?_
      obtain ⟨n, h⟩ := h
      exact tl_M_inWords_25 hw hq ih hd n v2 v3 v3 h
def wp_M_inWords (I : am_TI) (L : am_TL) (R : am_TR) (q : Nat) (p1 : Nat)  (Q : Int32 → Prop) : Prop := (((I q 12) = 2 → (∃ z, wl_M_inWords_14 I L R q p1 Q z 0 1)) ∧ (¬ (I q 12) = 2 → Q (-1)))
set_option maxRecDepth 20000 in
theorem cm_M_inWords {d : Nat} {I : am_TI} {L : am_TL} {R : am_TR}  (hw : am_Wf R)   {q : Nat} {p1 : Nat} {Q : Int32 → Prop} (hd : 4 ≤ d) (hq : am_SH[q]? = some (.inl 12)) (h : wp_M_inWords I L R q p1  Q) : am_Cm d 0 0 y_M_inWords b_M_inWords 7 (some .int) [.ref q, .ref p1] (I, L, R, am_SH) (po_M_inWords I L R Q) := by
  refine am_Cm_of (ini := false) (by decide +kernel) (fun z => by cases z) (by simp [Value.category]) (fun r σ' z => by obtain ⟨x, rfl, -⟩ := z; exact ⟨_, rfl, rfl⟩) ?_
  unfold wp_M_inWords at h
  show am_Wp (d, "UnseenRingModel", b_M_inWords, 7, false) 0 0 0 [some (.ref q), some (.ref p1), none, none, none, none, none] [] (I, L, R, am_SH) (po_M_inWords I L R Q)
  refine am_aload_n (n := 1) d_M_inWords_0 rfl rfl ?_
  refine am_getI (n := 4) f_M_166 d_M_inWords_1 rfl rfl hq ?_
  refine am_iconst (n := 5) d_M_inWords_4 ci_2 rfl ?_
  refine am_icmp_eq (tgt := 10) (n := 8) d_M_inWords_5 rfl rfl (fun c1 => ?_) (fun c1 => ?_)
  · have h := h.1 c1
    refine am_iconst (n := 11) d_M_inWords_10 ci_0 rfl ?_
    refine am_istore_n (ls' := [some (.ref q), some (.ref p1), some (.int 0), none, none, none, none]) (n := 12) d_M_inWords_11 (by decide) rfl rfl ?_
    refine am_iconst (n := 13) d_M_inWords_12 ci_1 rfl ?_
    refine am_istore_n (ls' := [some (.ref q), some (.ref p1), some (.int 0), some (.int 1), none, none, none]) (n := 14) d_M_inWords_13 (by decide) rfl rfl ?_
    obtain ⟨n, h⟩ := h
    exact tl_M_inWords_14 hw hq hd n 0 1 h
  · have h := h.2 c1
    refine am_iconst (n := 9) d_M_inWords_8 ci_m1 rfl ?_
    exact am_iret d_M_inWords_9 ⟨(-1), rfl, rfl, h⟩
abbrev po_M_wantWord (L : am_TL) (R : am_TR) (Q : Bool → am_TI → Prop) : Option Value → am_St → Prop := fun r σ' => ∃ (x : Bool) (I' : am_TI), r = some (.int (am_b x)) ∧ σ' = (I', L, R, am_SH) ∧ Q x I'
def wp_M_wantWord (I : am_TI) (L : am_TL) (R : am_TR) (q : Nat) (p1 : Nat) (p2 : Int32)  (Q : Bool → am_TI → Prop) : Prop := wp_M_inWords I L R q p1 (fun (r1 : Int32) => ((r1 = p2 → wp_M_ahead I L R q (fun (I1 : am_TI) => Q true I1)) ∧ (¬ r1 = p2 → wp_M_fails I L R q 2 (fun (r2 : Bool) (I2 : am_TI) => Q r2 I2))))
set_option maxRecDepth 20000 in
theorem cm_M_wantWord {d : Nat} {I : am_TI} {L : am_TL} {R : am_TR}  (hw : am_Wf R)   {q : Nat} {p1 : Nat} {p2 : Int32} {Q : Bool → am_TI → Prop} (hd : 5 ≤ d) (hq : am_SH[q]? = some (.inl 12)) (h : wp_M_wantWord I L R q p1 p2  Q) : am_Cm d 0 0 y_M_wantWord b_M_wantWord 3 (some .boolean) [.ref q, .ref p1, .int p2] (I, L, R, am_SH) (po_M_wantWord L R Q) := by
  refine am_Cm_of (ini := false) (by decide +kernel) (fun z => by cases z) (by simp [Value.category]) (fun r σ' z => by obtain ⟨x, _, rfl, -⟩ := z; exact ⟨_, rfl, am_b_nar x⟩) ?_
  unfold wp_M_wantWord at h
  show am_Wp (d, "UnseenRingModel", b_M_wantWord, 3, false) 0 0 0 [some (.ref q), some (.ref p1), some (.int p2)] [] (I, L, R, am_SH) (po_M_wantWord L R Q)
  refine am_aload_n (n := 1) d_M_wantWord_0 rfl rfl ?_
  refine am_aload_n (n := 2) d_M_wantWord_1 rfl rfl ?_
  refine am_callV (kc := 0) (ks := 0) (As := [.ref p1]) (n := 5) d_M_wantWord_2 rfl ce_M_inWords lk_M_206 in_M_inWords rfl rfl hq rfl rfl (Nat.le_of_ble_eq_true rfl) (Or.inl rfl) (cm_M_inWords (d := d - 1) hw (by omega) hq h) (by omega) ?_
  rintro _ _ ⟨r1, rfl, rfl, h⟩
  show am_Wp (d, "UnseenRingModel", b_M_wantWord, 3, false) 0 0 5 [some (.ref q), some (.ref p1), some (.int p2)] [.int r1] (I, L, R, am_SH) (po_M_wantWord L R Q)
  refine am_iload_n (n := 6) d_M_wantWord_5 rfl rfl ?_
  refine am_icmp_eq (tgt := 15) (n := 9) d_M_wantWord_6 rfl rfl (fun c1 => ?_) (fun c1 => ?_)
  · have h := h.1 c1
    refine am_aload_n (n := 16) d_M_wantWord_15 rfl rfl ?_
    refine am_callV (kc := 0) (ks := 0) (As := []) (n := 19) d_M_wantWord_16 rfl ce_M_ahead lk_M_197 in_M_ahead rfl rfl hq rfl rfl (Nat.le_of_ble_eq_true rfl) (Or.inl rfl) (cm_M_ahead (d := d - 1) hw (by omega) hq h) (by omega) ?_
    rintro _ _ ⟨I1, rfl, rfl, h⟩
    show am_Wp (d, "UnseenRingModel", b_M_wantWord, 3, false) 0 0 19 [some (.ref q), some (.ref p1), some (.int p2)] [] (I1, L, R, am_SH) (po_M_wantWord L R Q)
    refine am_iconst (n := 20) d_M_wantWord_19 ci_1 rfl ?_
    exact am_iret d_M_wantWord_20 ⟨true, I1, rfl, rfl, h⟩
  · have h := h.2 c1
    refine am_aload_n (n := 10) d_M_wantWord_9 rfl rfl ?_
    refine am_iconst (n := 11) d_M_wantWord_10 ci_2 rfl ?_
    refine am_callV (kc := 0) (ks := 0) (As := [.int 2]) (n := 14) d_M_wantWord_11 rfl ce_M_fails lk_M_203 in_M_fails rfl rfl hq rfl rfl (Nat.le_of_ble_eq_true rfl) (Or.inl rfl) (cm_M_fails (d := d - 1) hw (by omega) hq h) (by omega) ?_
    rintro _ _ ⟨r2, I2, rfl, rfl, h⟩
    show am_Wp (d, "UnseenRingModel", b_M_wantWord, 3, false) 0 0 14 [some (.ref q), some (.ref p1), some (.int p2)] [.int (am_b r2)] (I2, L, R, am_SH) (po_M_wantWord L R Q)
    exact am_iret d_M_wantWord_14 ⟨r2, I2, rfl, rfl, h⟩
abbrev po_M_aDog (L : am_TL) (R : am_TR) (Q : Bool → am_TI → Prop) : Option Value → am_St → Prop := fun r σ' => ∃ (x : Bool) (I' : am_TI), r = some (.int (am_b x)) ∧ σ' = (I', L, R, am_SH) ∧ Q x I'
def wp_M_aDog (I : am_TI) (L : am_TL) (R : am_TR) (q : Nat)  (Q : Bool → am_TI → Prop) : Prop := wp_M_isFull I L R q 4 4 (fun (r1 : Bool) => ((r1 = false → wp_M_ahead I L R q (fun (I1 : am_TI) => wp_M_wantWord I1 L R q 1002 7 (fun (r2 : Bool) (I2 : am_TI) => ((r2 = false → Q false I2) ∧ (r2 = true → wp_M_newCellTo I2 L R q (1658 + (I2 (q + 1) 1628)) (fun (r3 : Bool) (I3 : am_TI) => ((r3 = false → Q false I3) ∧ (r3 = true → (∀ I4, I4 = am_u2 I3 (q + 1) 1628 ((I3 (q + 1) 1628) + 1) → Q true I4))))))))) ∧ (r1 = true → wp_M_fails I L R q 6 (fun (r4 : Bool) (I5 : am_TI) => Q r4 I5))))
set_option maxRecDepth 20000 in
theorem cm_M_aDog {d : Nat} {I : am_TI} {L : am_TL} {R : am_TR}  (hw : am_Wf R)   {q : Nat} {Q : Bool → am_TI → Prop} (hd : 6 ≤ d) (hq : am_SH[q]? = some (.inl 12)) (h : wp_M_aDog I L R q  Q) : am_Cm d 0 0 y_M_aDog b_M_aDog 1 (some .boolean) [.ref q] (I, L, R, am_SH) (po_M_aDog L R Q) := by
  refine am_Cm_of (ini := false) (by decide +kernel) (fun z => by cases z) (by simp [Value.category]) (fun r σ' z => by obtain ⟨x, _, rfl, -⟩ := z; exact ⟨_, rfl, am_b_nar x⟩) ?_
  unfold wp_M_aDog at h
  show am_Wp (d, "UnseenRingModel", b_M_aDog, 1, false) 0 0 0 [some (.ref q)] [] (I, L, R, am_SH) (po_M_aDog L R Q)
  refine am_aload_n (n := 1) d_M_aDog_0 rfl rfl ?_
  refine am_iconst (n := 2) d_M_aDog_1 ci_4 rfl ?_
  refine am_iconst (n := 3) d_M_aDog_2 ci_4 rfl ?_
  refine am_callV (kc := 0) (ks := 0) (As := [.int 4, .int 4]) (n := 6) d_M_aDog_3 rfl ce_M_isFull lk_M_230 in_M_isFull rfl rfl hq rfl rfl (Nat.le_of_ble_eq_true rfl) (Or.inl rfl) (cm_M_isFull (d := d - 1) hw (by omega) hq h) (by omega) ?_
  rintro _ _ ⟨r1, rfl, rfl, h⟩
  show am_Wp (d, "UnseenRingModel", b_M_aDog, 1, false) 0 0 6 [some (.ref q)] [.int (am_b r1)] (I, L, R, am_SH) (po_M_aDog L R Q)
  refine am_if_eq (y := 0) (tgt := 16) (n := 9) d_M_aDog_6 rfl rfl (fun c1 => ?_) (fun c1 => ?_)
  · have h := h.1 (am_b_0 c1)
    refine am_aload_n (n := 17) d_M_aDog_16 rfl rfl ?_
    refine am_callV (kc := 0) (ks := 0) (As := []) (n := 20) d_M_aDog_17 rfl ce_M_ahead lk_M_197 in_M_ahead rfl rfl hq rfl rfl (Nat.le_of_ble_eq_true rfl) (Or.inl rfl) (cm_M_ahead (d := d - 1) hw (by omega) hq h) (by omega) ?_
    rintro _ _ ⟨I1, rfl, rfl, h⟩
    show am_Wp (d, "UnseenRingModel", b_M_aDog, 1, false) 0 0 20 [some (.ref q)] [] (I1, L, R, am_SH) (po_M_aDog L R Q)
    refine am_aload_n (n := 21) d_M_aDog_20 rfl rfl ?_
    refine am_ldcS1 (n := 23) d_M_aDog_21 rfl ?_
    refine am_bipush (n := 25) d_M_aDog_23 cb_7 rfl ?_
    refine am_callV (kc := 0) (ks := 0) (As := [.ref 1002, .int 7]) (n := 28) d_M_aDog_25 rfl ce_M_wantWord lk_M_226 in_M_wantWord rfl rfl hq rfl rfl (Nat.le_of_ble_eq_true rfl) (Or.inl rfl) (cm_M_wantWord (d := d - 1) hw (by omega) hq h) (by omega) ?_
    rintro _ _ ⟨r2, I2, rfl, rfl, h⟩
    show am_Wp (d, "UnseenRingModel", b_M_aDog, 1, false) 0 0 28 [some (.ref q)] [.int (am_b r2)] (I2, L, R, am_SH) (po_M_aDog L R Q)
    refine am_if_eq (y := 0) (tgt := 50) (n := 31) d_M_aDog_28 rfl rfl (fun c2 => ?_) (fun c2 => ?_)
    · have h := h.1 (am_b_0 c2)
      refine am_iconst (n := 51) d_M_aDog_50 ci_0 rfl ?_
      exact am_iret d_M_aDog_51 ⟨false, I2, rfl, rfl, h⟩
    · have h := h.2 (am_b_n0 c2)
      refine am_aload_n (n := 32) d_M_aDog_31 rfl rfl ?_
      refine am_sipush (n := 35) d_M_aDog_32 cs_1658 rfl ?_
      refine am_aload_n (n := 36) d_M_aDog_35 rfl rfl ?_
      refine am_getR (x := (q + 1)) (n := 39) f_M_7 d_M_aDog_36 rfl rfl hq (hw.1 q 12 0 1 hq rfl) ?_
      refine am_sipush (n := 42) d_M_aDog_39 cs_1628 rfl ?_
      refine am_iald2 (n := 43) d_M_aDog_42 rfl (am_sho (k := 0) (o := 1) hq (by decide) (by decide) (by decide) rfl) cx_1628_2258 cn_1628 ?_
      refine am_iadd (n := 44) d_M_aDog_43 rfl ?_
      refine am_callV (kc := 0) (ks := 0) (As := [.int (1658 + (I2 (q + 1) 1628))]) (n := 47) d_M_aDog_44 rfl ce_M_newCellTo lk_M_244 in_M_newCellTo rfl rfl hq rfl rfl (Nat.le_of_ble_eq_true rfl) (Or.inl rfl) (cm_M_newCellTo (d := d - 1) hw (by omega) hq h) (by omega) ?_
      rintro _ _ ⟨r3, I3, rfl, rfl, h⟩
      show am_Wp (d, "UnseenRingModel", b_M_aDog, 1, false) 0 0 47 [some (.ref q)] [.int (am_b r3)] (I3, L, R, am_SH) (po_M_aDog L R Q)
      refine am_if_ne (y := 0) (tgt := 52) (n := 50) d_M_aDog_47 rfl rfl (fun c3 => ?_) (fun c3 => ?_)
      · have h := h.2 (am_b_n0 c3)
        refine am_aload_n (n := 53) d_M_aDog_52 rfl rfl ?_
        refine am_getR (x := (q + 1)) (n := 56) f_M_7 d_M_aDog_53 rfl rfl hq (hw.1 q 12 0 1 hq rfl) ?_
        refine am_sipush (n := 59) d_M_aDog_56 cs_1628 rfl ?_
        refine am_dup2 (n := 60) d_M_aDog_59 rfl rfl rfl ?_
        refine am_iald2 (n := 61) d_M_aDog_60 rfl (am_sho (k := 0) (o := 1) hq (by decide) (by decide) (by decide) rfl) cx_1628_2258 cn_1628 ?_
        refine am_iconst (n := 62) d_M_aDog_61 ci_1 rfl ?_
        refine am_iadd (n := 63) d_M_aDog_62 rfl ?_
        refine am_iast2 (n := 64) d_M_aDog_63 rfl (am_sho (k := 0) (o := 1) hq (by decide) (by decide) (by decide) rfl) cx_1628_2258 cn_1628 ?_
        generalize eI4 : am_u2 I3 (q + 1) 1628 ((I3 (q + 1) 1628) + 1) = I4
        have h := h I4 eI4.symm
        refine am_iconst (n := 65) d_M_aDog_64 ci_1 rfl ?_
        exact am_iret d_M_aDog_65 ⟨true, I4, rfl, rfl, h⟩
      · have h := h.1 (am_b_0 c3)
        refine am_iconst (n := 51) d_M_aDog_50 ci_0 rfl ?_
        exact am_iret d_M_aDog_51 ⟨false, I3, rfl, rfl, h⟩
  · have h := h.2 (am_b_n0 c1)
    refine am_aload_n (n := 10) d_M_aDog_9 rfl rfl ?_
    refine am_bipush (n := 12) d_M_aDog_10 cb_6 rfl ?_
    refine am_callV (kc := 0) (ks := 0) (As := [.int 6]) (n := 15) d_M_aDog_12 rfl ce_M_fails lk_M_203 in_M_fails rfl rfl hq rfl rfl (Nat.le_of_ble_eq_true rfl) (Or.inl rfl) (cm_M_fails (d := d - 1) hw (by omega) hq h) (by omega) ?_
    rintro _ _ ⟨r4, I5, rfl, rfl, h⟩
    show am_Wp (d, "UnseenRingModel", b_M_aDog, 1, false) 0 0 15 [some (.ref q)] [.int (am_b r4)] (I5, L, R, am_SH) (po_M_aDog L R Q)
    exact am_iret d_M_aDog_15 ⟨r4, I5, rfl, rfl, h⟩
abbrev po_M_nameHere (I : am_TI) (L : am_TL) (R : am_TR) (Q : Int64 → Prop) : Option Value → am_St → Prop := fun r σ' => ∃ (x : Int64), r = some (.long x) ∧ σ' = (I, L, R, am_SH) ∧ Q x
def wl_M_nameHere_7 (I : am_TI) (L : am_TL) (R : am_TR) (q : Nat) (Q : Int64 → Prop)  : Nat → Int64 → Int32 → Prop
  | 0 => fun _ _ => False
  | f7 + 1 => fun v1 v3 => (((I q 14) ≤ v3 → Q v1) ∧ (¬ (I q 14) ≤ v3 → wp_M_byteAt I L R q v3 (fun (r1 : Int32) => wl_M_nameHere_7 I L R q Q f7 ((v1 <<< (Int32.toInt64 8 &&& 63)) ||| (Int32.toInt64 r1)) (v3 + 1))))
set_option maxRecDepth 20000 in
theorem tl_M_nameHere_7 {d : Nat}  {I : am_TI} {L : am_TL} {R : am_TR} {q : Nat} {Q : Int64 → Prop}  (hw : am_Wf R) (hq : am_SH[q]? = some (.inl 12)) (hd : 1 ≤ d) : ∀ (n : Nat) (v1 : Int64) (v3 : Int32), wl_M_nameHere_7 I L R q Q  n v1 v3 → am_Wp (d, "UnseenRingModel", b_M_nameHere, 4, false) 0 0 7 [some (.ref q), some (.long v1), none, some (.int v3)] [] (I, L, R, am_SH) (po_M_nameHere I L R Q) := by
  intro n
  induction n with
  | zero => intro v1 v3 h; exact h.elim
  | succ n ih =>
    intro v1 v3 h
    unfold wl_M_nameHere_7 at h
    refine am_iload_n (n := 8) d_M_nameHere_7 rfl rfl ?_
    refine am_aload_n (n := 9) d_M_nameHere_8 rfl rfl ?_
    refine am_getI (n := 12) f_M_154 d_M_nameHere_9 rfl rfl hq ?_
    refine am_icmp_ge (tgt := 33) (n := 15) d_M_nameHere_12 rfl rfl (fun c1 => ?_) (fun c1 => ?_)
    · have h := h.1 c1
      refine am_lload_n (n := 34) d_M_nameHere_33 rfl rfl ?_
      exact am_lret d_M_nameHere_34 ⟨v1, rfl, rfl, h⟩
    · have h := h.2 c1
      refine am_lload_n (n := 16) d_M_nameHere_15 rfl rfl ?_
      refine am_bipush (n := 18) d_M_nameHere_16 cb_8 rfl ?_
      refine am_lshl (n := 19) d_M_nameHere_18 rfl ?_
      refine am_aload_n (n := 20) d_M_nameHere_19 rfl rfl ?_
      refine am_iload_n (n := 21) d_M_nameHere_20 rfl rfl ?_
      refine am_callV (kc := 0) (ks := 0) (As := [.int v3]) (n := 24) d_M_nameHere_21 rfl ce_M_byteAt lk_M_157 in_M_byteAt rfl rfl hq rfl rfl (Nat.le_of_ble_eq_true rfl) (Or.inl rfl) (cm_M_byteAt (d := d - 1) hw (by omega) hq h) (by omega) ?_
      rintro _ _ ⟨r1, rfl, rfl, h⟩
      show am_Wp (d, "UnseenRingModel", b_M_nameHere, 4, false) 0 0 24 [some (.ref q), some (.long v1), none, some (.int v3)] [.int r1, .long (v1 <<< (Int32.toInt64 8 &&& 63))] (I, L, R, am_SH) (po_M_nameHere I L R Q)
      refine am_i2l (n := 25) d_M_nameHere_24 rfl ?_
      refine am_lor (n := 26) d_M_nameHere_25 rfl ?_
      refine am_lstore_n (ls' := [some (.ref q), some (.long ((v1 <<< (Int32.toInt64 8 &&& 63)) ||| (Int32.toInt64 r1))), none, some (.int v3)]) (n := 27) d_M_nameHere_26 (by decide) rfl rfl ?_
      refine am_iinc (v := v3 + 1) (ls' := [some (.ref q), some (.long ((v1 <<< (Int32.toInt64 8 &&& 63)) ||| (Int32.toInt64 r1))), none, some (.int (v3 + 1))]) (n := 30) d_M_nameHere_27 rfl (congrArg _ ci_1) (by decide) rfl rfl ?_
      refine am_goto (tgt := 7) d_M_nameHere_30 rfl ?_
      exact ih ((v1 <<< (Int32.toInt64 8 &&& 63)) ||| (Int32.toInt64 r1)) (v3 + 1)  h
def wp_M_nameHere (I : am_TI) (L : am_TL) (R : am_TR) (q : Nat)  (Q : Int64 → Prop) : Prop := (∃ z, wl_M_nameHere_7 I L R q Q z 0 (I q 13))
set_option maxRecDepth 20000 in
theorem cm_M_nameHere {d : Nat} {I : am_TI} {L : am_TL} {R : am_TR}  (hw : am_Wf R)   {q : Nat} {Q : Int64 → Prop} (hd : 1 ≤ d) (hq : am_SH[q]? = some (.inl 12)) (h : wp_M_nameHere I L R q  Q) : am_Cm d 0 0 y_M_nameHere b_M_nameHere 4 (some .long) [.ref q] (I, L, R, am_SH) (po_M_nameHere I L R Q) := by
  refine am_Cm_of (ini := false) (by decide +kernel) (fun z => by cases z) (by simp [Value.category]) (fun r σ' z => by obtain ⟨_, rfl, -⟩ := z; rfl) ?_
  unfold wp_M_nameHere at h
  show am_Wp (d, "UnseenRingModel", b_M_nameHere, 4, false) 0 0 0 [some (.ref q), none, none, none] [] (I, L, R, am_SH) (po_M_nameHere I L R Q)
  refine am_lconst (v := 0) (n := 1) d_M_nameHere_0 rfl rfl ?_
  refine am_lstore_n (ls' := [some (.ref q), some (.long 0), none, none]) (n := 2) d_M_nameHere_1 (by decide) rfl rfl ?_
  refine am_aload_n (n := 3) d_M_nameHere_2 rfl rfl ?_
  refine am_getI (n := 6) f_M_160 d_M_nameHere_3 rfl rfl hq ?_
  refine am_istore_n (ls' := [some (.ref q), some (.long 0), none, some (.int (I q 13))]) (n := 7) d_M_nameHere_6 (by decide) rfl rfl ?_
  obtain ⟨n, h⟩ := h
  exact tl_M_nameHere_7 hw hq hd n 0 (I q 13) h
abbrev po_M_findHere (I : am_TI) (L : am_TL) (R : am_TR) (Q : Int32 → Prop) : Option Value → am_St → Prop := fun r σ' => ∃ (x : Int32), r = some (.int x) ∧ σ' = (I, L, R, am_SH) ∧ Q x
def wl_M_findHere_2 (I : am_TI) (L : am_TL) (R : am_TR) (q : Nat) (p1 : Int32) (p2 : Int32) (Q : Int32 → Prop)  : Nat → Int32 → Prop
  | 0 => fun _ => False
  | f2 + 1 => fun v3 => ((p2 ≤ v3 → Q (-1)) ∧ (¬ p2 ≤ v3 → (vp_in (p1 + v3) 36 ∧ wp_M_nameHere I L R q (fun (r1 : Int64) => (((L (q + 2) (Int32.toNatClampNeg (p1 + v3))) = r1 → Q v3) ∧ (¬ (L (q + 2) (Int32.toNatClampNeg (p1 + v3))) = r1 → wl_M_findHere_2 I L R q p1 p2 Q f2 (v3 + 1)))))))
set_option maxRecDepth 20000 in
theorem tl_M_findHere_2 {d : Nat}  {I : am_TI} {L : am_TL} {R : am_TR} {q : Nat} {p1 : Int32} {p2 : Int32} {Q : Int32 → Prop}  (hw : am_Wf R) (hq : am_SH[q]? = some (.inl 12)) (hd : 2 ≤ d) : ∀ (n : Nat) (v3 : Int32), wl_M_findHere_2 I L R q p1 p2 Q  n v3 → am_Wp (d, "UnseenRingModel", b_M_findHere, 4, false) 0 0 2 [some (.ref q), some (.int p1), some (.int p2), some (.int v3)] [] (I, L, R, am_SH) (po_M_findHere I L R Q) := by
  intro n
  induction n with
  | zero => intro v3 h; exact h.elim
  | succ n ih =>
    intro v3 h
    unfold wl_M_findHere_2 at h
    refine am_iload_n (n := 3) d_M_findHere_2 rfl rfl ?_
    refine am_iload_n (n := 4) d_M_findHere_3 rfl rfl ?_
    refine am_icmp_ge (tgt := 31) (n := 7) d_M_findHere_4 rfl rfl (fun c1 => ?_) (fun c1 => ?_)
    · have h := h.1 c1
      refine am_iconst (n := 32) d_M_findHere_31 ci_m1 rfl ?_
      exact am_iret d_M_findHere_32 ⟨(-1), rfl, rfl, h⟩
    · have h := h.2 c1
      refine am_aload_n (n := 8) d_M_findHere_7 rfl rfl ?_
      refine am_getR (x := (q + 2)) (n := 11) f_M_13 d_M_findHere_8 rfl rfl hq (hw.1 q 12 1 2 hq rfl) ?_
      refine am_iload_n (n := 12) d_M_findHere_11 rfl rfl ?_
      refine am_iload_n (n := 13) d_M_findHere_12 rfl rfl ?_
      refine am_iadd (n := 14) d_M_findHere_13 rfl ?_
      obtain ⟨g1, h⟩ := h
      refine am_lald2 (n := 15) d_M_findHere_14 rfl (am_sho (k := 1) (o := 2) hq (by decide) (by decide) (by decide) rfl) g1 rfl ?_
      refine am_aload_n (n := 16) d_M_findHere_15 rfl rfl ?_
      refine am_callV (kc := 0) (ks := 0) (As := []) (n := 19) d_M_findHere_16 rfl ce_M_nameHere lk_M_210 in_M_nameHere rfl rfl hq rfl rfl (Nat.le_of_ble_eq_true rfl) (Or.inl rfl) (cm_M_nameHere (d := d - 1) hw (by omega) hq h) (by omega) ?_
      rintro _ _ ⟨r1, rfl, rfl, h⟩
      show am_Wp (d, "UnseenRingModel", b_M_findHere, 4, false) 0 0 19 [some (.ref q), some (.int p1), some (.int p2), some (.int v3)] [.long r1, .long (L (q + 2) (Int32.toNatClampNeg (p1 + v3)))] (I, L, R, am_SH) (po_M_findHere I L R Q)
      refine am_lcmp (n := 20) d_M_findHere_19 rfl ?_
      refine am_if_ne (y := 0) (tgt := 25) (n := 23) d_M_findHere_20 rfl rfl (fun c2 => ?_) (fun c2 => ?_)
      · have h := h.2 (fun z => c2 (am_cmp_eq.mpr z))
        refine am_iinc (v := v3 + 1) (ls' := [some (.ref q), some (.int p1), some (.int p2), some (.int (v3 + 1))]) (n := 28) d_M_findHere_25 rfl (congrArg _ ci_1) (by decide) rfl rfl ?_
        refine am_goto (tgt := 2) d_M_findHere_28 rfl ?_
        exact ih (v3 + 1)  h
      · have h := h.1 (am_cmp_eq.mp c2)
        refine am_iload_n (n := 24) d_M_findHere_23 rfl rfl ?_
        exact am_iret d_M_findHere_24 ⟨v3, rfl, rfl, h⟩
def wp_M_findHere (I : am_TI) (L : am_TL) (R : am_TR) (q : Nat) (p1 : Int32) (p2 : Int32)  (Q : Int32 → Prop) : Prop := (∃ z, wl_M_findHere_2 I L R q p1 p2 Q z 0)
set_option maxRecDepth 20000 in
theorem cm_M_findHere {d : Nat} {I : am_TI} {L : am_TL} {R : am_TR}  (hw : am_Wf R)   {q : Nat} {p1 : Int32} {p2 : Int32} {Q : Int32 → Prop} (hd : 2 ≤ d) (hq : am_SH[q]? = some (.inl 12)) (h : wp_M_findHere I L R q p1 p2  Q) : am_Cm d 0 0 y_M_findHere b_M_findHere 4 (some .int) [.ref q, .int p1, .int p2] (I, L, R, am_SH) (po_M_findHere I L R Q) := by
  refine am_Cm_of (ini := false) (by decide +kernel) (fun z => by cases z) (by simp [Value.category]) (fun r σ' z => by obtain ⟨x, rfl, -⟩ := z; exact ⟨_, rfl, rfl⟩) ?_
  unfold wp_M_findHere at h
  show am_Wp (d, "UnseenRingModel", b_M_findHere, 4, false) 0 0 0 [some (.ref q), some (.int p1), some (.int p2), none] [] (I, L, R, am_SH) (po_M_findHere I L R Q)
  refine am_iconst (n := 1) d_M_findHere_0 ci_0 rfl ?_
  refine am_istore_n (ls' := [some (.ref q), some (.int p1), some (.int p2), some (.int 0)]) (n := 2) d_M_findHere_1 (by decide) rfl rfl ?_
  obtain ⟨n, h⟩ := h
  exact tl_M_findHere_2 hw hq hd n 0 h
abbrev po_M_hearerRow (I : am_TI) (L : am_TL) (R : am_TR) (Q : Int32 → Prop) : Option Value → am_St → Prop := fun r σ' => ∃ (x : Int32), r = some (.int x) ∧ σ' = (I, L, R, am_SH) ∧ Q x
def wp_M_hearerRow (I : am_TI) (L : am_TL) (R : am_TR) (p0 : Int32)  (Q : Int32 → Prop) : Prop := Q (10 + (4 * p0))
set_option maxRecDepth 20000 in
theorem cm_M_hearerRow {d : Nat} {I : am_TI} {L : am_TL} {R : am_TR}  (hw : am_Wf R)   {p0 : Int32} {Q : Int32 → Prop} (hd : 0 ≤ d)  (h : wp_M_hearerRow I L R p0  Q) : am_Cm d 0 0 y_M_hearerRow b_M_hearerRow 1 (some .int) [.int p0] (I, L, R, am_SH) (po_M_hearerRow I L R Q) := by
  refine am_Cm_of (ini := false) (by decide +kernel) (fun z => by cases z) (by simp [Value.category]) (fun r σ' z => by obtain ⟨x, rfl, -⟩ := z; exact ⟨_, rfl, rfl⟩) ?_
  unfold wp_M_hearerRow at h
  show am_Wp (d, "UnseenRingModel", b_M_hearerRow, 1, false) 0 0 0 [some (.int p0)] [] (I, L, R, am_SH) (po_M_hearerRow I L R Q)
  refine am_bipush (n := 2) d_M_hearerRow_0 cb_10 rfl ?_
  refine am_iconst (n := 3) d_M_hearerRow_2 ci_4 rfl ?_
  refine am_iload_n (n := 4) d_M_hearerRow_3 rfl rfl ?_
  refine am_imul (n := 5) d_M_hearerRow_4 rfl ?_
  refine am_iadd (n := 6) d_M_hearerRow_5 rfl ?_
  exact am_iret d_M_hearerRow_6 ⟨(10 + (4 * p0)), rfl, rfl, h⟩
abbrev po_M_isIn (I : am_TI) (L : am_TL) (R : am_TR) (Q : Bool → Prop) : Option Value → am_St → Prop := fun r σ' => ∃ (x : Bool), r = some (.int (am_b x)) ∧ σ' = (I, L, R, am_SH) ∧ Q x
def wp_M_isIn (I : am_TI) (L : am_TL) (R : am_TR) (q : Nat) (p1 : Int32) (p2 : Int32)  (Q : Bool → Prop) : Prop := ((((p1 >>> (p2 &&& 31)) &&& 1) = 1 → Q true) ∧ (¬ ((p1 >>> (p2 &&& 31)) &&& 1) = 1 → Q false))
set_option maxRecDepth 20000 in
theorem cm_M_isIn {d : Nat} {I : am_TI} {L : am_TL} {R : am_TR}  (hw : am_Wf R)   {q : Nat} {p1 : Int32} {p2 : Int32} {Q : Bool → Prop} (hd : 0 ≤ d) (hq : am_SH[q]? = some (.inl 12)) (h : wp_M_isIn I L R q p1 p2  Q) : am_Cm d 0 0 y_M_isIn b_M_isIn 3 (some .boolean) [.ref q, .int p1, .int p2] (I, L, R, am_SH) (po_M_isIn I L R Q) := by
  refine am_Cm_of (ini := false) (by decide +kernel) (fun z => by cases z) (by simp [Value.category]) (fun r σ' z => by obtain ⟨x, rfl, -⟩ := z; exact ⟨_, rfl, am_b_nar x⟩) ?_
  unfold wp_M_isIn at h
  show am_Wp (d, "UnseenRingModel", b_M_isIn, 3, false) 0 0 0 [some (.ref q), some (.int p1), some (.int p2)] [] (I, L, R, am_SH) (po_M_isIn I L R Q)
  refine am_iload_n (n := 1) d_M_isIn_0 rfl rfl ?_
  refine am_iload_n (n := 2) d_M_isIn_1 rfl rfl ?_
  refine am_ishr (n := 3) d_M_isIn_2 rfl ?_
  refine am_iconst (n := 4) d_M_isIn_3 ci_1 rfl ?_
  refine am_iand (n := 5) d_M_isIn_4 rfl ?_
  refine am_iconst (n := 6) d_M_isIn_5 ci_1 rfl ?_
  refine am_icmp_ne (tgt := 13) (n := 9) d_M_isIn_6 rfl rfl (fun c1 => ?_) (fun c1 => ?_)
  · have h := h.2 c1
    refine am_iconst (n := 14) d_M_isIn_13 ci_0 rfl ?_
    exact am_iret d_M_isIn_14 ⟨false, rfl, rfl, h⟩
  · have h := h.1 c1
    refine am_iconst (n := 10) d_M_isIn_9 ci_1 rfl ?_
    refine am_goto (tgt := 14) d_M_isIn_10 rfl ?_
    exact am_iret d_M_isIn_14 ⟨true, rfl, rfl, h⟩
abbrev po_M_isName (I : am_TI) (L : am_TL) (R : am_TR) (Q : Bool → Prop) : Option Value → am_St → Prop := fun r σ' => ∃ (x : Bool), r = some (.int (am_b x)) ∧ σ' = (I, L, R, am_SH) ∧ Q x
def wp_M_isName (I : am_TI) (L : am_TL) (R : am_TR) (q : Nat) (p1 : Nat)  (Q : Bool → Prop) : Prop := (((I q 12) = 2 → ((8 < ((I q 14) - (I q 13)) → Q false) ∧ (¬ 8 < ((I q 14) - (I q 13)) → wp_M_inWords I L R q p1 (fun (r1 : Int32) => ((r1 = (-1) → Q true) ∧ (¬ r1 = (-1) → Q false)))))) ∧ (¬ (I q 12) = 2 → Q false))
set_option maxRecDepth 20000 in
theorem cm_M_isName {d : Nat} {I : am_TI} {L : am_TL} {R : am_TR}  (hw : am_Wf R)   {q : Nat} {p1 : Nat} {Q : Bool → Prop} (hd : 5 ≤ d) (hq : am_SH[q]? = some (.inl 12)) (h : wp_M_isName I L R q p1  Q) : am_Cm d 0 0 y_M_isName b_M_isName 2 (some .boolean) [.ref q, .ref p1] (I, L, R, am_SH) (po_M_isName I L R Q) := by
  refine am_Cm_of (ini := false) (by decide +kernel) (fun z => by cases z) (by simp [Value.category]) (fun r σ' z => by obtain ⟨x, rfl, -⟩ := z; exact ⟨_, rfl, am_b_nar x⟩) ?_
  unfold wp_M_isName at h
  show am_Wp (d, "UnseenRingModel", b_M_isName, 2, false) 0 0 0 [some (.ref q), some (.ref p1)] [] (I, L, R, am_SH) (po_M_isName I L R Q)
  refine am_aload_n (n := 1) d_M_isName_0 rfl rfl ?_
  refine am_getI (n := 4) f_M_166 d_M_isName_1 rfl rfl hq ?_
  refine am_iconst (n := 5) d_M_isName_4 ci_2 rfl ?_
  refine am_icmp_ne (tgt := 35) (n := 8) d_M_isName_5 rfl rfl (fun c1 => ?_) (fun c1 => ?_)
  · have h := h.2 c1
    refine am_iconst (n := 36) d_M_isName_35 ci_0 rfl ?_
    exact am_iret d_M_isName_36 ⟨false, rfl, rfl, h⟩
  · have h := h.1 c1
    refine am_aload_n (n := 9) d_M_isName_8 rfl rfl ?_
    refine am_getI (n := 12) f_M_154 d_M_isName_9 rfl rfl hq ?_
    refine am_aload_n (n := 13) d_M_isName_12 rfl rfl ?_
    refine am_getI (n := 16) f_M_160 d_M_isName_13 rfl rfl hq ?_
    refine am_isub (n := 17) d_M_isName_16 rfl ?_
    refine am_bipush (n := 19) d_M_isName_17 cb_8 rfl ?_
    refine am_icmp_gt (tgt := 35) (n := 22) d_M_isName_19 rfl rfl (fun c2 => ?_) (fun c2 => ?_)
    · have h := h.1 c2
      refine am_iconst (n := 36) d_M_isName_35 ci_0 rfl ?_
      exact am_iret d_M_isName_36 ⟨false, rfl, rfl, h⟩
    · have h := h.2 c2
      refine am_aload_n (n := 23) d_M_isName_22 rfl rfl ?_
      refine am_aload_n (n := 24) d_M_isName_23 rfl rfl ?_
      refine am_callV (kc := 0) (ks := 0) (As := [.ref p1]) (n := 27) d_M_isName_24 rfl ce_M_inWords lk_M_206 in_M_inWords rfl rfl hq rfl rfl (Nat.le_of_ble_eq_true rfl) (Or.inl rfl) (cm_M_inWords (d := d - 1) hw (by omega) hq h) (by omega) ?_
      rintro _ _ ⟨r1, rfl, rfl, h⟩
      show am_Wp (d, "UnseenRingModel", b_M_isName, 2, false) 0 0 27 [some (.ref q), some (.ref p1)] [.int r1] (I, L, R, am_SH) (po_M_isName I L R Q)
      refine am_iconst (n := 28) d_M_isName_27 ci_m1 rfl ?_
      refine am_icmp_ne (tgt := 35) (n := 31) d_M_isName_28 rfl rfl (fun c3 => ?_) (fun c3 => ?_)
      · have h := h.2 c3
        refine am_iconst (n := 36) d_M_isName_35 ci_0 rfl ?_
        exact am_iret d_M_isName_36 ⟨false, rfl, rfl, h⟩
      · have h := h.1 c3
        refine am_iconst (n := 32) d_M_isName_31 ci_1 rfl ?_
        refine am_goto (tgt := 36) d_M_isName_32 rfl ?_
        exact am_iret d_M_isName_36 ⟨true, rfl, rfl, h⟩
