abbrev po_M_isThere (L : am_TL) (R : am_TR) (Q : Bool → am_TI → Prop) : Option Value → am_St → Prop := fun r σ' => ∃ (x : Bool) (I' : am_TI), r = some (.int (am_b x)) ∧ σ' = (I', L, R, am_SH) ∧ Q x I'
def wp_M_isThere (I : am_TI) (L : am_TL) (R : am_TR) (q : Nat) (p1 : Int32)  (Q : Bool → am_TI → Prop) : Prop := wp_M_inWords I L R q 1002 (fun (r1 : Int32) => ((r1 = p1 → wp_M_ahead I L R q (fun (I1 : am_TI) => Q true I1)) ∧ (¬ r1 = p1 → Q false I)))
set_option maxRecDepth 20000 in
theorem cm_M_isThere {d : Nat} {I : am_TI} {L : am_TL} {R : am_TR}  (hw : am_Wf R)   {q : Nat} {p1 : Int32} {Q : Bool → am_TI → Prop} (hd : 5 ≤ d) (hq : am_SH[q]? = some (.inl 12)) (h : wp_M_isThere I L R q p1  Q) : am_Cm d 0 0 y_M_isThere b_M_isThere 2 (some .boolean) [.ref q, .int p1] (I, L, R, am_SH) (po_M_isThere L R Q) := by
  refine am_Cm_of (ini := false) (by decide +kernel) (fun z => by cases z) (by simp [Value.category]) (fun r σ' z => by obtain ⟨x, _, rfl, -⟩ := z; exact ⟨_, rfl, am_b_nar x⟩) ?_
  unfold wp_M_isThere at h
  show am_Wp (d, "UnseenRingModel", b_M_isThere, 2, false) 0 0 0 [some (.ref q), some (.int p1)] [] (I, L, R, am_SH) (po_M_isThere L R Q)
  refine am_aload_n (n := 1) d_M_isThere_0 rfl rfl ?_
  refine am_ldcS1 (n := 3) d_M_isThere_1 rfl ?_
  refine am_callV (kc := 0) (ks := 0) (As := [.ref 1002]) (n := 6) d_M_isThere_3 rfl ce_M_inWords lk_M_206 in_M_inWords rfl rfl hq rfl rfl (Nat.le_of_ble_eq_true rfl) (Or.inl rfl) (cm_M_inWords (d := d - 1) hw (by omega) hq h) (by omega) ?_
  rintro _ _ ⟨r1, rfl, rfl, h⟩
  show am_Wp (d, "UnseenRingModel", b_M_isThere, 2, false) 0 0 6 [some (.ref q), some (.int p1)] [.int r1] (I, L, R, am_SH) (po_M_isThere L R Q)
  refine am_iload_n (n := 7) d_M_isThere_6 rfl rfl ?_
  refine am_icmp_eq (tgt := 12) (n := 10) d_M_isThere_7 rfl rfl (fun c1 => ?_) (fun c1 => ?_)
  · have h := h.1 c1
    refine am_aload_n (n := 13) d_M_isThere_12 rfl rfl ?_
    refine am_callV (kc := 0) (ks := 0) (As := []) (n := 16) d_M_isThere_13 rfl ce_M_ahead lk_M_197 in_M_ahead rfl rfl hq rfl rfl (Nat.le_of_ble_eq_true rfl) (Or.inl rfl) (cm_M_ahead (d := d - 1) hw (by omega) hq h) (by omega) ?_
    rintro _ _ ⟨I1, rfl, rfl, h⟩
    show am_Wp (d, "UnseenRingModel", b_M_isThere, 2, false) 0 0 16 [some (.ref q), some (.int p1)] [] (I1, L, R, am_SH) (po_M_isThere L R Q)
    refine am_iconst (n := 17) d_M_isThere_16 ci_1 rfl ?_
    exact am_iret d_M_isThere_17 ⟨true, I1, rfl, rfl, h⟩
  · have h := h.2 c1
    refine am_iconst (n := 11) d_M_isThere_10 ci_0 rfl ?_
    exact am_iret d_M_isThere_11 ⟨false, I, rfl, rfl, h⟩
abbrev po_M_perhaps (L : am_TL) (R : am_TR) (Q : Bool → am_TI → Prop) : Option Value → am_St → Prop := fun r σ' => ∃ (x : Bool) (I' : am_TI), r = some (.int (am_b x)) ∧ σ' = (I', L, R, am_SH) ∧ Q x I'
def wp_M_perhaps (I : am_TI) (L : am_TL) (R : am_TR) (q : Nat) (p1 : Int32) (p2 : Int32) (p3 : Int32) (p4 : Int32) (p5 : Int32)  (Q : Bool → am_TI → Prop) : Prop := wp_M_isThere I L R q p1 (fun (r1 : Bool) (I1 : am_TI) => ((r1 = false → (vp_in p2 2258 ∧ (∀ I2, I2 = am_u2 I1 (q + 1) (Int32.toNatClampNeg p2) p5 → Q true I2))) ∧ (r1 = true → wp_M_number I1 L R q p2 p3 p4 (fun (r2 : Bool) (I3 : am_TI) => Q r2 I3))))
set_option maxRecDepth 20000 in
theorem cm_M_perhaps {d : Nat} {I : am_TI} {L : am_TL} {R : am_TR}  (hw : am_Wf R)   {q : Nat} {p1 : Int32} {p2 : Int32} {p3 : Int32} {p4 : Int32} {p5 : Int32} {Q : Bool → am_TI → Prop} (hd : 6 ≤ d) (hq : am_SH[q]? = some (.inl 12)) (h : wp_M_perhaps I L R q p1 p2 p3 p4 p5  Q) : am_Cm d 0 0 y_M_perhaps b_M_perhaps 6 (some .boolean) [.ref q, .int p1, .int p2, .int p3, .int p4, .int p5] (I, L, R, am_SH) (po_M_perhaps L R Q) := by
  refine am_Cm_of (ini := false) (by decide +kernel) (fun z => by cases z) (by simp [Value.category]) (fun r σ' z => by obtain ⟨x, _, rfl, -⟩ := z; exact ⟨_, rfl, am_b_nar x⟩) ?_
  unfold wp_M_perhaps at h
  show am_Wp (d, "UnseenRingModel", b_M_perhaps, 6, false) 0 0 0 [some (.ref q), some (.int p1), some (.int p2), some (.int p3), some (.int p4), some (.int p5)] [] (I, L, R, am_SH) (po_M_perhaps L R Q)
  refine am_aload_n (n := 1) d_M_perhaps_0 rfl rfl ?_
  refine am_iload_n (n := 2) d_M_perhaps_1 rfl rfl ?_
  refine am_callV (kc := 0) (ks := 0) (As := [.int p1]) (n := 5) d_M_perhaps_2 rfl ce_M_isThere lk_M_216 in_M_isThere rfl rfl hq rfl rfl (Nat.le_of_ble_eq_true rfl) (Or.inl rfl) (cm_M_isThere (d := d - 1) hw (by omega) hq h) (by omega) ?_
  rintro _ _ ⟨r1, I1, rfl, rfl, h⟩
  show am_Wp (d, "UnseenRingModel", b_M_perhaps, 6, false) 0 0 5 [some (.ref q), some (.int p1), some (.int p2), some (.int p3), some (.int p4), some (.int p5)] [.int (am_b r1)] (I1, L, R, am_SH) (po_M_perhaps L R Q)
  refine am_if_eq (y := 0) (tgt := 17) (n := 8) d_M_perhaps_5 rfl rfl (fun c1 => ?_) (fun c1 => ?_)
  · have h := h.1 (am_b_0 c1)
    refine am_aload_n (n := 18) d_M_perhaps_17 rfl rfl ?_
    refine am_getR (x := (q + 1)) (n := 21) f_M_7 d_M_perhaps_18 rfl rfl hq (hw.1 q 12 0 1 hq rfl) ?_
    refine am_iload_n (n := 22) d_M_perhaps_21 rfl rfl ?_
    refine am_iload (n := 24) d_M_perhaps_22 rfl rfl ?_
    obtain ⟨g1, h⟩ := h
    refine am_iast2 (n := 25) d_M_perhaps_24 rfl (am_sho (k := 0) (o := 1) hq (by decide) (by decide) (by decide) rfl) g1 rfl ?_
    generalize eI2 : am_u2 I1 (q + 1) (Int32.toNatClampNeg p2) p5 = I2
    have h := h I2 eI2.symm
    refine am_iconst (n := 26) d_M_perhaps_25 ci_1 rfl ?_
    exact am_iret d_M_perhaps_26 ⟨true, I2, rfl, rfl, h⟩
  · have h := h.2 (am_b_n0 c1)
    refine am_aload_n (n := 9) d_M_perhaps_8 rfl rfl ?_
    refine am_iload_n (n := 10) d_M_perhaps_9 rfl rfl ?_
    refine am_iload_n (n := 11) d_M_perhaps_10 rfl rfl ?_
    refine am_iload (n := 13) d_M_perhaps_11 rfl rfl ?_
    refine am_callV (kc := 0) (ks := 0) (As := [.int p2, .int p3, .int p4]) (n := 16) d_M_perhaps_13 rfl ce_M_number lk_M_219 in_M_number rfl rfl hq rfl rfl (Nat.le_of_ble_eq_true rfl) (Or.inl rfl) (cm_M_number (d := d - 1) hw (by omega) hq h) (by omega) ?_
    rintro _ _ ⟨r2, I3, rfl, rfl, h⟩
    show am_Wp (d, "UnseenRingModel", b_M_perhaps, 6, false) 0 0 16 [some (.ref q), some (.int p1), some (.int p2), some (.int p3), some (.int p4), some (.int p5)] [.int (am_b r2)] (I3, L, R, am_SH) (po_M_perhaps L R Q)
    exact am_iret d_M_perhaps_16 ⟨r2, I3, rfl, rfl, h⟩
abbrev po_M_aHearer (L : am_TL) (R : am_TR) (Q : Bool → am_TI → Prop) : Option Value → am_St → Prop := fun r σ' => ∃ (x : Bool) (I' : am_TI), r = some (.int (am_b x)) ∧ σ' = (I', L, R, am_SH) ∧ Q x I'
def wb_M_aHearer_181 (L : am_TL) (R : am_TR) (q : Nat) (Q : Bool → am_TI → Prop)  (I : am_TI) : Prop := (∀ I8, I8 = am_u2 I (q + 1) 1627 ((I (q + 1) 1627) + 1) → Q true I8)
set_option maxRecDepth 20000 in
theorem tb_M_aHearer_181 {d : Nat}  {L : am_TL} {R : am_TR} {q : Nat} {Q : Bool → am_TI → Prop}  (hw : am_Wf R) (hq : am_SH[q]? = some (.inl 12)) (hd : 7 ≤ d) (I : am_TI) (h : wb_M_aHearer_181 L R q Q  I) : am_Wp (d, "UnseenRingModel", b_M_aHearer, 4, false) 0 0 181 [some (.ref q), none, none, none] [] (I, L, R, am_SH) (po_M_aHearer L R Q) := by
  unfold wb_M_aHearer_181 at h
  refine am_aload_n (n := 182) d_M_aHearer_181 rfl rfl ?_
  refine am_getR (x := (q + 1)) (n := 185) f_M_7 d_M_aHearer_182 rfl rfl hq (hw.1 q 12 0 1 hq rfl) ?_
  refine am_sipush (n := 188) d_M_aHearer_185 cs_1627 rfl ?_
  refine am_dup2 (n := 189) d_M_aHearer_188 rfl rfl rfl ?_
  refine am_iald2 (n := 190) d_M_aHearer_189 rfl (am_sho (k := 0) (o := 1) hq (by decide) (by decide) (by decide) rfl) cx_1627_2258 cn_1627 ?_
  refine am_iconst (n := 191) d_M_aHearer_190 ci_1 rfl ?_
  refine am_iadd (n := 192) d_M_aHearer_191 rfl ?_
  refine am_iast2 (n := 193) d_M_aHearer_192 rfl (am_sho (k := 0) (o := 1) hq (by decide) (by decide) (by decide) rfl) cx_1627_2258 cn_1627 ?_
  generalize eI8 : am_u2 I (q + 1) 1627 ((I (q + 1) 1627) + 1) = I8
  have h := h I8 eI8.symm
  refine am_iconst (n := 194) d_M_aHearer_193 ci_1 rfl ?_
  exact am_iret d_M_aHearer_194 ⟨true, I8, rfl, rfl, h⟩
def wl_M_aHearer_99 (L : am_TL) (R : am_TR) (q : Nat) (Q : Bool → am_TI → Prop)  : Nat → am_TI → Int32 → Bool → Prop
  | 0 => fun _ _ _ => False
  | f99 + 1 => fun I v1 v2 => ((v2 = false → wb_M_aHearer_181 L R q Q I) ∧ (v2 = true → wp_M_isName I L R q 1002 (fun (r7 : Bool) => ((r7 = false → wb_M_aHearer_181 L R q Q I) ∧ (r7 = true → wp_M_findHere I L R q 24 (I (q + 1) 1626) (fun (r8 : Int32) => ((r8 = (-1) → wp_M_fails I L R q 3 (fun (r11 : Bool) (I12 : am_TI) => Q r11 I12)) ∧ (¬ r8 = (-1) → (vp_in (v1 + 1) 2258 ∧ wp_M_isIn I L R q (I (q + 1) (Int32.toNatClampNeg (v1 + 1))) r8 (fun (r9 : Bool) => ((r9 = false → (vp_in (v1 + 1) 2258 ∧ (vp_in (v1 + 1) 2258 ∧ (∀ I9, I9 = am_u2 I (q + 1) (Int32.toNatClampNeg (v1 + 1)) ((I (q + 1) (Int32.toNatClampNeg (v1 + 1))) ||| ((1 : Int32) <<< (r8 &&& 31))) → wp_M_ahead I9 L R q (fun (I10 : am_TI) => wl_M_aHearer_99 L R q Q f99 I10 v1 v2))))) ∧ (r9 = true → wp_M_fails I L R q 5 (fun (r10 : Bool) (I11 : am_TI) => Q r10 I11)))))))))))))
set_option maxRecDepth 20000 in
theorem tl_M_aHearer_99 {d : Nat}  {L : am_TL} {R : am_TR} {q : Nat} {Q : Bool → am_TI → Prop}  (hw : am_Wf R) (hq : am_SH[q]? = some (.inl 12)) (hd : 7 ≤ d) : ∀ (n : Nat) (I : am_TI) (v1 : Int32) (v2 : Bool), wl_M_aHearer_99 L R q Q  n I v1 v2 → am_Wp (d, "UnseenRingModel", b_M_aHearer, 4, false) 0 0 99 [some (.ref q), some (.int v1), some (.int (am_b v2)), none] [] (I, L, R, am_SH) (po_M_aHearer L R Q) := by
  intro n
  induction n with
  | zero => intro I v1 v2 h; exact h.elim
  | succ n ih =>
    intro I v1 v2 h
    unfold wl_M_aHearer_99 at h
    refine am_iload_n (n := 100) d_M_aHearer_99 rfl rfl ?_
    refine am_if_eq (y := 0) (tgt := 181) (n := 103) d_M_aHearer_100 rfl rfl (fun c5 => ?_) (fun c5 => ?_)
    · have h := h.1 (am_b_0 c5)
      refine am_forget (ls' := [some (.ref q), none, none, none]) (am_le_s (am_le_n (am_le_n (am_le_n am_le_e)))) ?_
      exact tb_M_aHearer_181 hw hq hd I h
    · have h := h.2 (am_b_n0 c5)
      refine am_aload_n (n := 104) d_M_aHearer_103 rfl rfl ?_
      refine am_ldcS1 (n := 106) d_M_aHearer_104 rfl ?_
      refine am_callV (kc := 0) (ks := 0) (As := [.ref 1002]) (n := 109) d_M_aHearer_106 rfl ce_M_isName lk_M_234 in_M_isName rfl rfl hq rfl rfl (Nat.le_of_ble_eq_true rfl) (Or.inl rfl) (cm_M_isName (d := d - 1) hw (by omega) hq h) (by omega) ?_
      rintro _ _ ⟨r7, rfl, rfl, h⟩
      show am_Wp (d, "UnseenRingModel", b_M_aHearer, 4, false) 0 0 109 [some (.ref q), some (.int v1), some (.int (am_b v2)), none] [.int (am_b r7)] (I, L, R, am_SH) (po_M_aHearer L R Q)
      refine am_if_eq (y := 0) (tgt := 181) (n := 112) d_M_aHearer_109 rfl rfl (fun c6 => ?_) (fun c6 => ?_)
      · have h := h.1 (am_b_0 c6)
        refine am_forget (ls' := [some (.ref q), none, none, none]) (am_le_s (am_le_n (am_le_n (am_le_n am_le_e)))) ?_
        exact tb_M_aHearer_181 hw hq hd I h
      · have h := h.2 (am_b_n0 c6)
        refine am_aload_n (n := 113) d_M_aHearer_112 rfl rfl ?_
        refine am_bipush (n := 115) d_M_aHearer_113 cb_24 rfl ?_
        refine am_aload_n (n := 116) d_M_aHearer_115 rfl rfl ?_
        refine am_getR (x := (q + 1)) (n := 119) f_M_7 d_M_aHearer_116 rfl rfl hq (hw.1 q 12 0 1 hq rfl) ?_
        refine am_sipush (n := 122) d_M_aHearer_119 cs_1626 rfl ?_
        refine am_iald2 (n := 123) d_M_aHearer_122 rfl (am_sho (k := 0) (o := 1) hq (by decide) (by decide) (by decide) rfl) cx_1626_2258 cn_1626 ?_
        refine am_callV (kc := 0) (ks := 0) (As := [.int 24, .int (I (q + 1) 1626)]) (n := 126) d_M_aHearer_123 rfl ce_M_findHere lk_M_238 in_M_findHere rfl rfl hq rfl rfl (Nat.le_of_ble_eq_true rfl) (Or.inl rfl) (cm_M_findHere (d := d - 1) hw (by omega) hq h) (by omega) ?_
        rintro _ _ ⟨r8, rfl, rfl, h⟩
        show am_Wp (d, "UnseenRingModel", b_M_aHearer, 4, false) 0 0 126 [some (.ref q), some (.int v1), some (.int (am_b v2)), none] [.int r8] (I, L, R, am_SH) (po_M_aHearer L R Q)
        refine am_istore_n (ls' := [some (.ref q), some (.int v1), some (.int (am_b v2)), some (.int r8)]) (n := 127) d_M_aHearer_126 (by decide) rfl rfl ?_
        refine am_iload_n (n := 128) d_M_aHearer_127 rfl rfl ?_
        refine am_iconst (n := 129) d_M_aHearer_128 ci_m1 rfl ?_
        refine am_icmp_ne (tgt := 138) (n := 132) d_M_aHearer_129 rfl rfl (fun c7 => ?_) (fun c7 => ?_)
        · have h := h.2 c7
          refine am_aload_n (n := 139) d_M_aHearer_138 rfl rfl ?_
          refine am_aload_n (n := 140) d_M_aHearer_139 rfl rfl ?_
          refine am_getR (x := (q + 1)) (n := 143) f_M_7 d_M_aHearer_140 rfl rfl hq (hw.1 q 12 0 1 hq rfl) ?_
          refine am_iload_n (n := 144) d_M_aHearer_143 rfl rfl ?_
          refine am_iconst (n := 145) d_M_aHearer_144 ci_1 rfl ?_
          refine am_iadd (n := 146) d_M_aHearer_145 rfl ?_
          obtain ⟨g3, h⟩ := h
          refine am_iald2 (n := 147) d_M_aHearer_146 rfl (am_sho (k := 0) (o := 1) hq (by decide) (by decide) (by decide) rfl) g3 rfl ?_
          refine am_iload_n (n := 148) d_M_aHearer_147 rfl rfl ?_
          refine am_callV (kc := 0) (ks := 0) (As := [.int (I (q + 1) (Int32.toNatClampNeg (v1 + 1))), .int r8]) (n := 151) d_M_aHearer_148 rfl ce_M_isIn lk_M_251 in_M_isIn rfl rfl hq rfl rfl (Nat.le_of_ble_eq_true rfl) (Or.inl rfl) (cm_M_isIn (d := d - 1) hw (by omega) hq h) (by omega) ?_
          rintro _ _ ⟨r9, rfl, rfl, h⟩
          show am_Wp (d, "UnseenRingModel", b_M_aHearer, 4, false) 0 0 151 [some (.ref q), some (.int v1), some (.int (am_b v2)), some (.int r8)] [.int (am_b r9)] (I, L, R, am_SH) (po_M_aHearer L R Q)
          refine am_if_eq (y := 0) (tgt := 160) (n := 154) d_M_aHearer_151 rfl rfl (fun c8 => ?_) (fun c8 => ?_)
          · have h := h.1 (am_b_0 c8)
            refine am_aload_n (n := 161) d_M_aHearer_160 rfl rfl ?_
            refine am_getR (x := (q + 1)) (n := 164) f_M_7 d_M_aHearer_161 rfl rfl hq (hw.1 q 12 0 1 hq rfl) ?_
            refine am_iload_n (n := 165) d_M_aHearer_164 rfl rfl ?_
            refine am_iconst (n := 166) d_M_aHearer_165 ci_1 rfl ?_
            refine am_iadd (n := 167) d_M_aHearer_166 rfl ?_
            refine am_dup2 (n := 168) d_M_aHearer_167 rfl rfl rfl ?_
            obtain ⟨g4, h⟩ := h
            refine am_iald2 (n := 169) d_M_aHearer_168 rfl (am_sho (k := 0) (o := 1) hq (by decide) (by decide) (by decide) rfl) g4 rfl ?_
            refine am_iconst (n := 170) d_M_aHearer_169 ci_1 rfl ?_
            refine am_iload_n (n := 171) d_M_aHearer_170 rfl rfl ?_
            refine am_ishl (n := 172) d_M_aHearer_171 rfl ?_
            refine am_ior (n := 173) d_M_aHearer_172 rfl ?_
            obtain ⟨g5, h⟩ := h
            refine am_iast2 (n := 174) d_M_aHearer_173 rfl (am_sho (k := 0) (o := 1) hq (by decide) (by decide) (by decide) rfl) g5 rfl ?_
            generalize eI9 : am_u2 I (q + 1) (Int32.toNatClampNeg (v1 + 1)) ((I (q + 1) (Int32.toNatClampNeg (v1 + 1))) ||| ((1 : Int32) <<< (r8 &&& 31))) = I9
            have h := h I9 eI9.symm
            refine am_aload_n (n := 175) d_M_aHearer_174 rfl rfl ?_
            refine am_callV (kc := 0) (ks := 0) (As := []) (n := 178) d_M_aHearer_175 rfl ce_M_ahead lk_M_197 in_M_ahead rfl rfl hq rfl rfl (Nat.le_of_ble_eq_true rfl) (Or.inl rfl) (cm_M_ahead (d := d - 1) hw (by omega) hq h) (by omega) ?_
            rintro _ _ ⟨I10, rfl, rfl, h⟩
            show am_Wp (d, "UnseenRingModel", b_M_aHearer, 4, false) 0 0 178 [some (.ref q), some (.int v1), some (.int (am_b v2)), some (.int r8)] [] (I10, L, R, am_SH) (po_M_aHearer L R Q)
            refine am_goto (tgt := 99) d_M_aHearer_178 rfl ?_
            refine am_forget (ls' := [some (.ref q), some (.int v1), some (.int (am_b v2)), none]) (am_le_s (am_le_s (am_le_s (am_le_n am_le_e)))) ?_
            exact ih I10 v1 v2  h
          · have h := h.2 (am_b_n0 c8)
            refine am_aload_n (n := 155) d_M_aHearer_154 rfl rfl ?_
            refine am_iconst (n := 156) d_M_aHearer_155 ci_5 rfl ?_
            refine am_callV (kc := 0) (ks := 0) (As := [.int 5]) (n := 159) d_M_aHearer_156 rfl ce_M_fails lk_M_203 in_M_fails rfl rfl hq rfl rfl (Nat.le_of_ble_eq_true rfl) (Or.inl rfl) (cm_M_fails (d := d - 1) hw (by omega) hq h) (by omega) ?_
            rintro _ _ ⟨r10, I11, rfl, rfl, h⟩
            show am_Wp (d, "UnseenRingModel", b_M_aHearer, 4, false) 0 0 159 [some (.ref q), some (.int v1), some (.int (am_b v2)), some (.int r8)] [.int (am_b r10)] (I11, L, R, am_SH) (po_M_aHearer L R Q)
            exact am_iret d_M_aHearer_159 ⟨r10, I11, rfl, rfl, h⟩
        · have h := h.1 c7
          refine am_aload_n (n := 133) d_M_aHearer_132 rfl rfl ?_
          refine am_iconst (n := 134) d_M_aHearer_133 ci_3 rfl ?_
          refine am_callV (kc := 0) (ks := 0) (As := [.int 3]) (n := 137) d_M_aHearer_134 rfl ce_M_fails lk_M_203 in_M_fails rfl rfl hq rfl rfl (Nat.le_of_ble_eq_true rfl) (Or.inl rfl) (cm_M_fails (d := d - 1) hw (by omega) hq h) (by omega) ?_
          rintro _ _ ⟨r11, I12, rfl, rfl, h⟩
          show am_Wp (d, "UnseenRingModel", b_M_aHearer, 4, false) 0 0 137 [some (.ref q), some (.int v1), some (.int (am_b v2)), some (.int r8)] [.int (am_b r11)] (I12, L, R, am_SH) (po_M_aHearer L R Q)
          exact am_iret d_M_aHearer_137 ⟨r11, I12, rfl, rfl, h⟩
def wp_M_aHearer (I : am_TI) (L : am_TL) (R : am_TR) (q : Nat)  (Q : Bool → am_TI → Prop) : Prop := wp_M_isFull I L R q 3 6 (fun (r1 : Bool) => ((r1 = false → wp_M_hearerRow I L R (I (q + 1) 1627) (fun (r2 : Int32) => wp_M_ahead I L R q (fun (I1 : am_TI) => wp_M_wantWord I1 L R q 1002 7 (fun (r3 : Bool) (I2 : am_TI) => ((r3 = false → Q false I2) ∧ (r3 = true → wp_M_newCellTo I2 L R q (1624 + r2) (fun (r4 : Bool) (I3 : am_TI) => ((r4 = false → Q false I3) ∧ (r4 = true → wp_M_perhaps I3 L R q 8 ((1624 + r2) + 2) 0 99 3 (fun (r5 : Bool) (I4 : am_TI) => ((r5 = false → Q false I4) ∧ (r5 = true → (vp_in ((1624 + r2) + 1) 2258 ∧ (∀ I5, I5 = am_u2 I4 (q + 1) (Int32.toNatClampNeg ((1624 + r2) + 1)) 0 → (vp_in ((1624 + r2) + 3) 2258 ∧ (∀ I6, I6 = am_u2 I5 (q + 1) (Int32.toNatClampNeg ((1624 + r2) + 3)) 0 → wp_M_isThere I6 L R q 9 (fun (r6 : Bool) (I7 : am_TI) => (∃ z, wl_M_aHearer_99 L R q Q z I7 (1624 + r2) r6)))))))))))))))))) ∧ (r1 = true → wp_M_fails I L R q 6 (fun (r12 : Bool) (I13 : am_TI) => Q r12 I13))))
set_option maxRecDepth 20000 in
theorem cm_M_aHearer {d : Nat} {I : am_TI} {L : am_TL} {R : am_TR}  (hw : am_Wf R)   {q : Nat} {Q : Bool → am_TI → Prop} (hd : 7 ≤ d) (hq : am_SH[q]? = some (.inl 12)) (h : wp_M_aHearer I L R q  Q) : am_Cm d 0 0 y_M_aHearer b_M_aHearer 4 (some .boolean) [.ref q] (I, L, R, am_SH) (po_M_aHearer L R Q) := by
  refine am_Cm_of (ini := false) (by decide +kernel) (fun z => by cases z) (by simp [Value.category]) (fun r σ' z => by obtain ⟨x, _, rfl, -⟩ := z; exact ⟨_, rfl, am_b_nar x⟩) ?_
  unfold wp_M_aHearer at h
  show am_Wp (d, "UnseenRingModel", b_M_aHearer, 4, false) 0 0 0 [some (.ref q), none, none, none] [] (I, L, R, am_SH) (po_M_aHearer L R Q)
  refine am_aload_n (n := 1) d_M_aHearer_0 rfl rfl ?_
  refine am_iconst (n := 2) d_M_aHearer_1 ci_3 rfl ?_
  refine am_bipush (n := 4) d_M_aHearer_2 cb_6 rfl ?_
  refine am_callV (kc := 0) (ks := 0) (As := [.int 3, .int 6]) (n := 7) d_M_aHearer_4 rfl ce_M_isFull lk_M_230 in_M_isFull rfl rfl hq rfl rfl (Nat.le_of_ble_eq_true rfl) (Or.inl rfl) (cm_M_isFull (d := d - 1) hw (by omega) hq h) (by omega) ?_
  rintro _ _ ⟨r1, rfl, rfl, h⟩
  show am_Wp (d, "UnseenRingModel", b_M_aHearer, 4, false) 0 0 7 [some (.ref q), none, none, none] [.int (am_b r1)] (I, L, R, am_SH) (po_M_aHearer L R Q)
  refine am_if_eq (y := 0) (tgt := 17) (n := 10) d_M_aHearer_7 rfl rfl (fun c1 => ?_) (fun c1 => ?_)
  · have h := h.1 (am_b_0 c1)
    refine am_sipush (n := 20) d_M_aHearer_17 cs_1624 rfl ?_
    refine am_aload_n (n := 21) d_M_aHearer_20 rfl rfl ?_
    refine am_getR (x := (q + 1)) (n := 24) f_M_7 d_M_aHearer_21 rfl rfl hq (hw.1 q 12 0 1 hq rfl) ?_
    refine am_sipush (n := 27) d_M_aHearer_24 cs_1627 rfl ?_
    refine am_iald2 (n := 28) d_M_aHearer_27 rfl (am_sho (k := 0) (o := 1) hq (by decide) (by decide) (by decide) rfl) cx_1627_2258 cn_1627 ?_
    refine am_callS (kc := 0) (ks := 0) (As := [.int (I (q + 1) 1627)]) (n := 31) d_M_aHearer_28 rfl ce_M_hearerRow lk_M_241 st_M_hearerRow rfl rfl (Nat.le_of_ble_eq_true rfl) (Or.inl rfl) (cm_M_hearerRow (d := d - 1) hw (by omega)  h) (by omega) ?_
    rintro _ _ ⟨r2, rfl, rfl, h⟩
    show am_Wp (d, "UnseenRingModel", b_M_aHearer, 4, false) 0 0 31 [some (.ref q), none, none, none] [.int r2, .int 1624] (I, L, R, am_SH) (po_M_aHearer L R Q)
    refine am_iadd (n := 32) d_M_aHearer_31 rfl ?_
    refine am_istore_n (ls' := [some (.ref q), some (.int (1624 + r2)), none, none]) (n := 33) d_M_aHearer_32 (by decide) rfl rfl ?_
    refine am_aload_n (n := 34) d_M_aHearer_33 rfl rfl ?_
    refine am_callV (kc := 0) (ks := 0) (As := []) (n := 37) d_M_aHearer_34 rfl ce_M_ahead lk_M_197 in_M_ahead rfl rfl hq rfl rfl (Nat.le_of_ble_eq_true rfl) (Or.inl rfl) (cm_M_ahead (d := d - 1) hw (by omega) hq h) (by omega) ?_
    rintro _ _ ⟨I1, rfl, rfl, h⟩
    show am_Wp (d, "UnseenRingModel", b_M_aHearer, 4, false) 0 0 37 [some (.ref q), some (.int (1624 + r2)), none, none] [] (I1, L, R, am_SH) (po_M_aHearer L R Q)
    refine am_aload_n (n := 38) d_M_aHearer_37 rfl rfl ?_
    refine am_ldcS1 (n := 40) d_M_aHearer_38 rfl ?_
    refine am_bipush (n := 42) d_M_aHearer_40 cb_7 rfl ?_
    refine am_callV (kc := 0) (ks := 0) (As := [.ref 1002, .int 7]) (n := 45) d_M_aHearer_42 rfl ce_M_wantWord lk_M_226 in_M_wantWord rfl rfl hq rfl rfl (Nat.le_of_ble_eq_true rfl) (Or.inl rfl) (cm_M_wantWord (d := d - 1) hw (by omega) hq h) (by omega) ?_
    rintro _ _ ⟨r3, I2, rfl, rfl, h⟩
    show am_Wp (d, "UnseenRingModel", b_M_aHearer, 4, false) 0 0 45 [some (.ref q), some (.int (1624 + r2)), none, none] [.int (am_b r3)] (I2, L, R, am_SH) (po_M_aHearer L R Q)
    refine am_if_eq (y := 0) (tgt := 72) (n := 48) d_M_aHearer_45 rfl rfl (fun c2 => ?_) (fun c2 => ?_)
    · have h := h.1 (am_b_0 c2)
      refine am_iconst (n := 73) d_M_aHearer_72 ci_0 rfl ?_
      exact am_iret d_M_aHearer_73 ⟨false, I2, rfl, rfl, h⟩
    · have h := h.2 (am_b_n0 c2)
      refine am_aload_n (n := 49) d_M_aHearer_48 rfl rfl ?_
      refine am_iload_n (n := 50) d_M_aHearer_49 rfl rfl ?_
      refine am_callV (kc := 0) (ks := 0) (As := [.int (1624 + r2)]) (n := 53) d_M_aHearer_50 rfl ce_M_newCellTo lk_M_244 in_M_newCellTo rfl rfl hq rfl rfl (Nat.le_of_ble_eq_true rfl) (Or.inl rfl) (cm_M_newCellTo (d := d - 1) hw (by omega) hq h) (by omega) ?_
      rintro _ _ ⟨r4, I3, rfl, rfl, h⟩
      show am_Wp (d, "UnseenRingModel", b_M_aHearer, 4, false) 0 0 53 [some (.ref q), some (.int (1624 + r2)), none, none] [.int (am_b r4)] (I3, L, R, am_SH) (po_M_aHearer L R Q)
      refine am_if_eq (y := 0) (tgt := 72) (n := 56) d_M_aHearer_53 rfl rfl (fun c3 => ?_) (fun c3 => ?_)
      · have h := h.1 (am_b_0 c3)
        refine am_iconst (n := 73) d_M_aHearer_72 ci_0 rfl ?_
        exact am_iret d_M_aHearer_73 ⟨false, I3, rfl, rfl, h⟩
      · have h := h.2 (am_b_n0 c3)
        refine am_aload_n (n := 57) d_M_aHearer_56 rfl rfl ?_
        refine am_bipush (n := 59) d_M_aHearer_57 cb_8 rfl ?_
        refine am_iload_n (n := 60) d_M_aHearer_59 rfl rfl ?_
        refine am_iconst (n := 61) d_M_aHearer_60 ci_2 rfl ?_
        refine am_iadd (n := 62) d_M_aHearer_61 rfl ?_
        refine am_iconst (n := 63) d_M_aHearer_62 ci_0 rfl ?_
        refine am_bipush (n := 65) d_M_aHearer_63 cb_99 rfl ?_
        refine am_iconst (n := 66) d_M_aHearer_65 ci_3 rfl ?_
        refine am_callV (kc := 0) (ks := 0) (As := [.int 8, .int ((1624 + r2) + 2), .int 0, .int 99, .int 3]) (n := 69) d_M_aHearer_66 rfl ce_M_perhaps lk_M_247 in_M_perhaps rfl rfl hq rfl rfl (Nat.le_of_ble_eq_true rfl) (Or.inl rfl) (cm_M_perhaps (d := d - 1) hw (by omega) hq h) (by omega) ?_
        rintro _ _ ⟨r5, I4, rfl, rfl, h⟩
        show am_Wp (d, "UnseenRingModel", b_M_aHearer, 4, false) 0 0 69 [some (.ref q), some (.int (1624 + r2)), none, none] [.int (am_b r5)] (I4, L, R, am_SH) (po_M_aHearer L R Q)
        refine am_if_ne (y := 0) (tgt := 74) (n := 72) d_M_aHearer_69 rfl rfl (fun c4 => ?_) (fun c4 => ?_)
        · have h := h.2 (am_b_n0 c4)
          refine am_aload_n (n := 75) d_M_aHearer_74 rfl rfl ?_
          refine am_getR (x := (q + 1)) (n := 78) f_M_7 d_M_aHearer_75 rfl rfl hq (hw.1 q 12 0 1 hq rfl) ?_
          refine am_iload_n (n := 79) d_M_aHearer_78 rfl rfl ?_
          refine am_iconst (n := 80) d_M_aHearer_79 ci_1 rfl ?_
          refine am_iadd (n := 81) d_M_aHearer_80 rfl ?_
          refine am_iconst (n := 82) d_M_aHearer_81 ci_0 rfl ?_
          obtain ⟨g1, h⟩ := h
          refine am_iast2 (n := 83) d_M_aHearer_82 rfl (am_sho (k := 0) (o := 1) hq (by decide) (by decide) (by decide) rfl) g1 rfl ?_
          generalize eI5 : am_u2 I4 (q + 1) (Int32.toNatClampNeg ((1624 + r2) + 1)) 0 = I5
          have h := h I5 eI5.symm
          refine am_aload_n (n := 84) d_M_aHearer_83 rfl rfl ?_
          refine am_getR (x := (q + 1)) (n := 87) f_M_7 d_M_aHearer_84 rfl rfl hq (hw.1 q 12 0 1 hq rfl) ?_
          refine am_iload_n (n := 88) d_M_aHearer_87 rfl rfl ?_
          refine am_iconst (n := 89) d_M_aHearer_88 ci_3 rfl ?_
          refine am_iadd (n := 90) d_M_aHearer_89 rfl ?_
          refine am_iconst (n := 91) d_M_aHearer_90 ci_0 rfl ?_
          obtain ⟨g2, h⟩ := h
          refine am_iast2 (n := 92) d_M_aHearer_91 rfl (am_sho (k := 0) (o := 1) hq (by decide) (by decide) (by decide) rfl) g2 rfl ?_
          generalize eI6 : am_u2 I5 (q + 1) (Int32.toNatClampNeg ((1624 + r2) + 3)) 0 = I6
          have h := h I6 eI6.symm
          refine am_aload_n (n := 93) d_M_aHearer_92 rfl rfl ?_
          refine am_bipush (n := 95) d_M_aHearer_93 cb_9 rfl ?_
          refine am_callV (kc := 0) (ks := 0) (As := [.int 9]) (n := 98) d_M_aHearer_95 rfl ce_M_isThere lk_M_216 in_M_isThere rfl rfl hq rfl rfl (Nat.le_of_ble_eq_true rfl) (Or.inl rfl) (cm_M_isThere (d := d - 1) hw (by omega) hq h) (by omega) ?_
          rintro _ _ ⟨r6, I7, rfl, rfl, h⟩
          show am_Wp (d, "UnseenRingModel", b_M_aHearer, 4, false) 0 0 98 [some (.ref q), some (.int (1624 + r2)), none, none] [.int (am_b r6)] (I7, L, R, am_SH) (po_M_aHearer L R Q)
          refine am_istore_n (ls' := [some (.ref q), some (.int (1624 + r2)), some (.int (am_b r6)), none]) (n := 99) d_M_aHearer_98 (by decide) rfl rfl ?_
          obtain ⟨n, h⟩ := h
          exact tl_M_aHearer_99 hw hq hd n I7 (1624 + r2) r6 h
        · have h := h.1 (am_b_0 c4)
          refine am_iconst (n := 73) d_M_aHearer_72 ci_0 rfl ?_
          exact am_iret d_M_aHearer_73 ⟨false, I4, rfl, rfl, h⟩
  · have h := h.2 (am_b_n0 c1)
    refine am_aload_n (n := 11) d_M_aHearer_10 rfl rfl ?_
    refine am_bipush (n := 13) d_M_aHearer_11 cb_6 rfl ?_
    refine am_callV (kc := 0) (ks := 0) (As := [.int 6]) (n := 16) d_M_aHearer_13 rfl ce_M_fails lk_M_203 in_M_fails rfl rfl hq rfl rfl (Nat.le_of_ble_eq_true rfl) (Or.inl rfl) (cm_M_fails (d := d - 1) hw (by omega) hq h) (by omega) ?_
    rintro _ _ ⟨r12, I13, rfl, rfl, h⟩
    show am_Wp (d, "UnseenRingModel", b_M_aHearer, 4, false) 0 0 16 [some (.ref q), none, none, none] [.int (am_b r12)] (I13, L, R, am_SH) (po_M_aHearer L R Q)
    exact am_iret d_M_aHearer_16 ⟨r12, I13, rfl, rfl, h⟩
abbrev po_M_aSquare (L : am_TL) (R : am_TR) (Q : Bool → am_TI → Prop) : Option Value → am_St → Prop := fun r σ' => ∃ (x : Bool) (I' : am_TI), r = some (.int (am_b x)) ∧ σ' = (I', L, R, am_SH) ∧ Q x I'
def wp_M_aSquare (I : am_TI) (L : am_TL) (R : am_TR) (q : Nat)  (Q : Bool → am_TI → Prop) : Prop := wp_M_number I L R q 1624 1 5 (fun (r1 : Bool) (I1 : am_TI) => ((r1 = false → Q false I1) ∧ (r1 = true → wp_M_wantWord I1 L R q 1002 6 (fun (r2 : Bool) (I2 : am_TI) => ((r2 = false → Q false I2) ∧ (r2 = true → wp_M_number I2 L R q 1625 1 5 (fun (r3 : Bool) (I3 : am_TI) => ((r3 = false → Q false I3) ∧ (r3 = true → Q true I3)))))))))
set_option maxRecDepth 20000 in
theorem cm_M_aSquare {d : Nat} {I : am_TI} {L : am_TL} {R : am_TR}  (hw : am_Wf R)   {q : Nat} {Q : Bool → am_TI → Prop} (hd : 6 ≤ d) (hq : am_SH[q]? = some (.inl 12)) (h : wp_M_aSquare I L R q  Q) : am_Cm d 0 0 y_M_aSquare b_M_aSquare 1 (some .boolean) [.ref q] (I, L, R, am_SH) (po_M_aSquare L R Q) := by
  refine am_Cm_of (ini := false) (by decide +kernel) (fun z => by cases z) (by simp [Value.category]) (fun r σ' z => by obtain ⟨x, _, rfl, -⟩ := z; exact ⟨_, rfl, am_b_nar x⟩) ?_
  unfold wp_M_aSquare at h
  show am_Wp (d, "UnseenRingModel", b_M_aSquare, 1, false) 0 0 0 [some (.ref q)] [] (I, L, R, am_SH) (po_M_aSquare L R Q)
  refine am_aload_n (n := 1) d_M_aSquare_0 rfl rfl ?_
  refine am_sipush (n := 4) d_M_aSquare_1 cs_1624 rfl ?_
  refine am_iconst (n := 5) d_M_aSquare_4 ci_1 rfl ?_
  refine am_iconst (n := 6) d_M_aSquare_5 ci_5 rfl ?_
  refine am_callV (kc := 0) (ks := 0) (As := [.int 1624, .int 1, .int 5]) (n := 9) d_M_aSquare_6 rfl ce_M_number lk_M_219 in_M_number rfl rfl hq rfl rfl (Nat.le_of_ble_eq_true rfl) (Or.inl rfl) (cm_M_number (d := d - 1) hw (by omega) hq h) (by omega) ?_
  rintro _ _ ⟨r1, I1, rfl, rfl, h⟩
  show am_Wp (d, "UnseenRingModel", b_M_aSquare, 1, false) 0 0 9 [some (.ref q)] [.int (am_b r1)] (I1, L, R, am_SH) (po_M_aSquare L R Q)
  refine am_if_eq (y := 0) (tgt := 39) (n := 12) d_M_aSquare_9 rfl rfl (fun c1 => ?_) (fun c1 => ?_)
  · have h := h.1 (am_b_0 c1)
    refine am_iconst (n := 40) d_M_aSquare_39 ci_0 rfl ?_
    exact am_iret d_M_aSquare_40 ⟨false, I1, rfl, rfl, h⟩
  · have h := h.2 (am_b_n0 c1)
    refine am_aload_n (n := 13) d_M_aSquare_12 rfl rfl ?_
    refine am_ldcS1 (n := 15) d_M_aSquare_13 rfl ?_
    refine am_bipush (n := 17) d_M_aSquare_15 cb_6 rfl ?_
    refine am_callV (kc := 0) (ks := 0) (As := [.ref 1002, .int 6]) (n := 20) d_M_aSquare_17 rfl ce_M_wantWord lk_M_226 in_M_wantWord rfl rfl hq rfl rfl (Nat.le_of_ble_eq_true rfl) (Or.inl rfl) (cm_M_wantWord (d := d - 1) hw (by omega) hq h) (by omega) ?_
    rintro _ _ ⟨r2, I2, rfl, rfl, h⟩
    show am_Wp (d, "UnseenRingModel", b_M_aSquare, 1, false) 0 0 20 [some (.ref q)] [.int (am_b r2)] (I2, L, R, am_SH) (po_M_aSquare L R Q)
    refine am_if_eq (y := 0) (tgt := 39) (n := 23) d_M_aSquare_20 rfl rfl (fun c2 => ?_) (fun c2 => ?_)
    · have h := h.1 (am_b_0 c2)
      refine am_iconst (n := 40) d_M_aSquare_39 ci_0 rfl ?_
      exact am_iret d_M_aSquare_40 ⟨false, I2, rfl, rfl, h⟩
    · have h := h.2 (am_b_n0 c2)
      refine am_aload_n (n := 24) d_M_aSquare_23 rfl rfl ?_
      refine am_sipush (n := 27) d_M_aSquare_24 cs_1625 rfl ?_
      refine am_iconst (n := 28) d_M_aSquare_27 ci_1 rfl ?_
      refine am_iconst (n := 29) d_M_aSquare_28 ci_5 rfl ?_
      refine am_callV (kc := 0) (ks := 0) (As := [.int 1625, .int 1, .int 5]) (n := 32) d_M_aSquare_29 rfl ce_M_number lk_M_219 in_M_number rfl rfl hq rfl rfl (Nat.le_of_ble_eq_true rfl) (Or.inl rfl) (cm_M_number (d := d - 1) hw (by omega) hq h) (by omega) ?_
      rintro _ _ ⟨r3, I3, rfl, rfl, h⟩
      show am_Wp (d, "UnseenRingModel", b_M_aSquare, 1, false) 0 0 32 [some (.ref q)] [.int (am_b r3)] (I3, L, R, am_SH) (po_M_aSquare L R Q)
      refine am_if_eq (y := 0) (tgt := 39) (n := 35) d_M_aSquare_32 rfl rfl (fun c3 => ?_) (fun c3 => ?_)
      · have h := h.1 (am_b_0 c3)
        refine am_iconst (n := 40) d_M_aSquare_39 ci_0 rfl ?_
        exact am_iret d_M_aSquare_40 ⟨false, I3, rfl, rfl, h⟩
      · have h := h.2 (am_b_n0 c3)
        refine am_iconst (n := 36) d_M_aSquare_35 ci_1 rfl ?_
        refine am_goto (tgt := 40) d_M_aSquare_36 rfl ?_
        exact am_iret d_M_aSquare_40 ⟨true, I3, rfl, rfl, h⟩
abbrev po_M_aTune (R : am_TR) (Q : Bool → am_TI → am_TL → Prop) : Option Value → am_St → Prop := fun r σ' => ∃ (x : Bool) (I' : am_TI) (L' : am_TL), r = some (.int (am_b x)) ∧ σ' = (I', L', R, am_SH) ∧ Q x I' L'
def wp_M_aTune (I : am_TI) (L : am_TL) (R : am_TR) (q : Nat)  (Q : Bool → am_TI → am_TL → Prop) : Prop := wp_M_isFull I L R q 2 6 (fun (r1 : Bool) => ((r1 = false → wp_M_ahead I L R q (fun (I1 : am_TI) => wp_M_isName I1 L R q 1002 (fun (r2 : Bool) => ((r2 = false → wp_M_fails I1 L R q 2 (fun (r6 : Bool) (I5 : am_TI) => Q r6 I5 L)) ∧ (r2 = true → wp_M_findHere I1 L R q 24 (I (q + 1) 1626) (fun (r3 : Int32) => ((r3 = (-1) → wp_M_nameHere I1 L R q (fun (r4 : Int64) => (vp_in (24 + (I (q + 1) 1626)) 36 ∧ (∀ L1, L1 = am_u2 L (q + 2) (Int32.toNatClampNeg (24 + (I (q + 1) 1626))) r4 → (∀ I2, I2 = am_u2 I1 (q + 1) 1626 ((I1 (q + 1) 1626) + 1) → wp_M_ahead I2 L1 R q (fun (I3 : am_TI) => Q true I3 L1)))))) ∧ (¬ r3 = (-1) → wp_M_fails I1 L R q 3 (fun (r5 : Bool) (I4 : am_TI) => Q r5 I4 L))))))))) ∧ (r1 = true → wp_M_fails I L R q 6 (fun (r7 : Bool) (I6 : am_TI) => Q r7 I6 L))))
set_option maxRecDepth 20000 in
theorem cm_M_aTune {d : Nat} {I : am_TI} {L : am_TL} {R : am_TR}  (hw : am_Wf R)   {q : Nat} {Q : Bool → am_TI → am_TL → Prop} (hd : 6 ≤ d) (hq : am_SH[q]? = some (.inl 12)) (h : wp_M_aTune I L R q  Q) : am_Cm d 0 0 y_M_aTune b_M_aTune 2 (some .boolean) [.ref q] (I, L, R, am_SH) (po_M_aTune R Q) := by
  refine am_Cm_of (ini := false) (by decide +kernel) (fun z => by cases z) (by simp [Value.category]) (fun r σ' z => by obtain ⟨x, _, _, rfl, -⟩ := z; exact ⟨_, rfl, am_b_nar x⟩) ?_
  unfold wp_M_aTune at h
  show am_Wp (d, "UnseenRingModel", b_M_aTune, 2, false) 0 0 0 [some (.ref q), none] [] (I, L, R, am_SH) (po_M_aTune R Q)
  refine am_aload_n (n := 1) d_M_aTune_0 rfl rfl ?_
  refine am_getR (x := (q + 1)) (n := 4) f_M_7 d_M_aTune_1 rfl rfl hq (hw.1 q 12 0 1 hq rfl) ?_
  refine am_sipush (n := 7) d_M_aTune_4 cs_1626 rfl ?_
  refine am_iald2 (n := 8) d_M_aTune_7 rfl (am_sho (k := 0) (o := 1) hq (by decide) (by decide) (by decide) rfl) cx_1626_2258 cn_1626 ?_
  refine am_istore_n (ls' := [some (.ref q), some (.int (I (q + 1) 1626))]) (n := 9) d_M_aTune_8 (by decide) rfl rfl ?_
  refine am_aload_n (n := 10) d_M_aTune_9 rfl rfl ?_
  refine am_iconst (n := 11) d_M_aTune_10 ci_2 rfl ?_
  refine am_bipush (n := 13) d_M_aTune_11 cb_6 rfl ?_
  refine am_callV (kc := 0) (ks := 0) (As := [.int 2, .int 6]) (n := 16) d_M_aTune_13 rfl ce_M_isFull lk_M_230 in_M_isFull rfl rfl hq rfl rfl (Nat.le_of_ble_eq_true rfl) (Or.inl rfl) (cm_M_isFull (d := d - 1) hw (by omega) hq h) (by omega) ?_
  rintro _ _ ⟨r1, rfl, rfl, h⟩
  show am_Wp (d, "UnseenRingModel", b_M_aTune, 2, false) 0 0 16 [some (.ref q), some (.int (I (q + 1) 1626))] [.int (am_b r1)] (I, L, R, am_SH) (po_M_aTune R Q)
  refine am_if_eq (y := 0) (tgt := 26) (n := 19) d_M_aTune_16 rfl rfl (fun c1 => ?_) (fun c1 => ?_)
  · have h := h.1 (am_b_0 c1)
    refine am_aload_n (n := 27) d_M_aTune_26 rfl rfl ?_
    refine am_callV (kc := 0) (ks := 0) (As := []) (n := 30) d_M_aTune_27 rfl ce_M_ahead lk_M_197 in_M_ahead rfl rfl hq rfl rfl (Nat.le_of_ble_eq_true rfl) (Or.inl rfl) (cm_M_ahead (d := d - 1) hw (by omega) hq h) (by omega) ?_
    rintro _ _ ⟨I1, rfl, rfl, h⟩
    show am_Wp (d, "UnseenRingModel", b_M_aTune, 2, false) 0 0 30 [some (.ref q), some (.int (I (q + 1) 1626))] [] (I1, L, R, am_SH) (po_M_aTune R Q)
    refine am_aload_n (n := 31) d_M_aTune_30 rfl rfl ?_
    refine am_ldcS1 (n := 33) d_M_aTune_31 rfl ?_
    refine am_callV (kc := 0) (ks := 0) (As := [.ref 1002]) (n := 36) d_M_aTune_33 rfl ce_M_isName lk_M_234 in_M_isName rfl rfl hq rfl rfl (Nat.le_of_ble_eq_true rfl) (Or.inl rfl) (cm_M_isName (d := d - 1) hw (by omega) hq h) (by omega) ?_
    rintro _ _ ⟨r2, rfl, rfl, h⟩
    show am_Wp (d, "UnseenRingModel", b_M_aTune, 2, false) 0 0 36 [some (.ref q), some (.int (I (q + 1) 1626))] [.int (am_b r2)] (I1, L, R, am_SH) (po_M_aTune R Q)
    refine am_if_ne (y := 0) (tgt := 45) (n := 39) d_M_aTune_36 rfl rfl (fun c2 => ?_) (fun c2 => ?_)
    · have h := h.2 (am_b_n0 c2)
      refine am_aload_n (n := 46) d_M_aTune_45 rfl rfl ?_
      refine am_bipush (n := 48) d_M_aTune_46 cb_24 rfl ?_
      refine am_iload_n (n := 49) d_M_aTune_48 rfl rfl ?_
      refine am_callV (kc := 0) (ks := 0) (As := [.int 24, .int (I (q + 1) 1626)]) (n := 52) d_M_aTune_49 rfl ce_M_findHere lk_M_238 in_M_findHere rfl rfl hq rfl rfl (Nat.le_of_ble_eq_true rfl) (Or.inl rfl) (cm_M_findHere (d := d - 1) hw (by omega) hq h) (by omega) ?_
      rintro _ _ ⟨r3, rfl, rfl, h⟩
      show am_Wp (d, "UnseenRingModel", b_M_aTune, 2, false) 0 0 52 [some (.ref q), some (.int (I (q + 1) 1626))] [.int r3] (I1, L, R, am_SH) (po_M_aTune R Q)
      refine am_iconst (n := 53) d_M_aTune_52 ci_m1 rfl ?_
      refine am_icmp_eq (tgt := 62) (n := 56) d_M_aTune_53 rfl rfl (fun c3 => ?_) (fun c3 => ?_)
      · have h := h.1 c3
        refine am_aload_n (n := 63) d_M_aTune_62 rfl rfl ?_
        refine am_getR (x := (q + 2)) (n := 66) f_M_13 d_M_aTune_63 rfl rfl hq (hw.1 q 12 1 2 hq rfl) ?_
        refine am_bipush (n := 68) d_M_aTune_66 cb_24 rfl ?_
        refine am_iload_n (n := 69) d_M_aTune_68 rfl rfl ?_
        refine am_iadd (n := 70) d_M_aTune_69 rfl ?_
        refine am_aload_n (n := 71) d_M_aTune_70 rfl rfl ?_
        refine am_callV (kc := 0) (ks := 0) (As := []) (n := 74) d_M_aTune_71 rfl ce_M_nameHere lk_M_210 in_M_nameHere rfl rfl hq rfl rfl (Nat.le_of_ble_eq_true rfl) (Or.inl rfl) (cm_M_nameHere (d := d - 1) hw (by omega) hq h) (by omega) ?_
        rintro _ _ ⟨r4, rfl, rfl, h⟩
        show am_Wp (d, "UnseenRingModel", b_M_aTune, 2, false) 0 0 74 [some (.ref q), some (.int (I (q + 1) 1626))] [.long r4, .int (24 + (I (q + 1) 1626)), .ref (q + 2)] (I1, L, R, am_SH) (po_M_aTune R Q)
        obtain ⟨g1, h⟩ := h
        refine am_last2 (n := 75) d_M_aTune_74 rfl (am_sho (k := 1) (o := 2) hq (by decide) (by decide) (by decide) rfl) g1 rfl ?_
        generalize eL1 : am_u2 L (q + 2) (Int32.toNatClampNeg (24 + (I (q + 1) 1626))) r4 = L1
        have h := h L1 eL1.symm
        refine am_aload_n (n := 76) d_M_aTune_75 rfl rfl ?_
        refine am_getR (x := (q + 1)) (n := 79) f_M_7 d_M_aTune_76 rfl rfl hq (hw.1 q 12 0 1 hq rfl) ?_
        refine am_sipush (n := 82) d_M_aTune_79 cs_1626 rfl ?_
        refine am_dup2 (n := 83) d_M_aTune_82 rfl rfl rfl ?_
        refine am_iald2 (n := 84) d_M_aTune_83 rfl (am_sho (k := 0) (o := 1) hq (by decide) (by decide) (by decide) rfl) cx_1626_2258 cn_1626 ?_
        refine am_iconst (n := 85) d_M_aTune_84 ci_1 rfl ?_
        refine am_iadd (n := 86) d_M_aTune_85 rfl ?_
        refine am_iast2 (n := 87) d_M_aTune_86 rfl (am_sho (k := 0) (o := 1) hq (by decide) (by decide) (by decide) rfl) cx_1626_2258 cn_1626 ?_
        generalize eI2 : am_u2 I1 (q + 1) 1626 ((I1 (q + 1) 1626) + 1) = I2
        have h := h I2 eI2.symm
        refine am_aload_n (n := 88) d_M_aTune_87 rfl rfl ?_
        refine am_callV (kc := 0) (ks := 0) (As := []) (n := 91) d_M_aTune_88 rfl ce_M_ahead lk_M_197 in_M_ahead rfl rfl hq rfl rfl (Nat.le_of_ble_eq_true rfl) (Or.inl rfl) (cm_M_ahead (d := d - 1) hw (by omega) hq h) (by omega) ?_
        rintro _ _ ⟨I3, rfl, rfl, h⟩
        show am_Wp (d, "UnseenRingModel", b_M_aTune, 2, false) 0 0 91 [some (.ref q), some (.int (I (q + 1) 1626))] [] (I3, L1, R, am_SH) (po_M_aTune R Q)
        refine am_iconst (n := 92) d_M_aTune_91 ci_1 rfl ?_
        exact am_iret d_M_aTune_92 ⟨true, I3, L1, rfl, rfl, h⟩
      · have h := h.2 c3
        refine am_aload_n (n := 57) d_M_aTune_56 rfl rfl ?_
        refine am_iconst (n := 58) d_M_aTune_57 ci_3 rfl ?_
        refine am_callV (kc := 0) (ks := 0) (As := [.int 3]) (n := 61) d_M_aTune_58 rfl ce_M_fails lk_M_203 in_M_fails rfl rfl hq rfl rfl (Nat.le_of_ble_eq_true rfl) (Or.inl rfl) (cm_M_fails (d := d - 1) hw (by omega) hq h) (by omega) ?_
        rintro _ _ ⟨r5, I4, rfl, rfl, h⟩
        show am_Wp (d, "UnseenRingModel", b_M_aTune, 2, false) 0 0 61 [some (.ref q), some (.int (I (q + 1) 1626))] [.int (am_b r5)] (I4, L, R, am_SH) (po_M_aTune R Q)
        exact am_iret d_M_aTune_61 ⟨r5, I4, L, rfl, rfl, h⟩
    · have h := h.1 (am_b_0 c2)
      refine am_aload_n (n := 40) d_M_aTune_39 rfl rfl ?_
      refine am_iconst (n := 41) d_M_aTune_40 ci_2 rfl ?_
      refine am_callV (kc := 0) (ks := 0) (As := [.int 2]) (n := 44) d_M_aTune_41 rfl ce_M_fails lk_M_203 in_M_fails rfl rfl hq rfl rfl (Nat.le_of_ble_eq_true rfl) (Or.inl rfl) (cm_M_fails (d := d - 1) hw (by omega) hq h) (by omega) ?_
      rintro _ _ ⟨r6, I5, rfl, rfl, h⟩
      show am_Wp (d, "UnseenRingModel", b_M_aTune, 2, false) 0 0 44 [some (.ref q), some (.int (I (q + 1) 1626))] [.int (am_b r6)] (I5, L, R, am_SH) (po_M_aTune R Q)
      exact am_iret d_M_aTune_44 ⟨r6, I5, L, rfl, rfl, h⟩
  · have h := h.2 (am_b_n0 c1)
    refine am_aload_n (n := 20) d_M_aTune_19 rfl rfl ?_
    refine am_bipush (n := 22) d_M_aTune_20 cb_6 rfl ?_
    refine am_callV (kc := 0) (ks := 0) (As := [.int 6]) (n := 25) d_M_aTune_22 rfl ce_M_fails lk_M_203 in_M_fails rfl rfl hq rfl rfl (Nat.le_of_ble_eq_true rfl) (Or.inl rfl) (cm_M_fails (d := d - 1) hw (by omega) hq h) (by omega) ?_
    rintro _ _ ⟨r7, I6, rfl, rfl, h⟩
    show am_Wp (d, "UnseenRingModel", b_M_aTune, 2, false) 0 0 25 [some (.ref q), some (.int (I (q + 1) 1626))] [.int (am_b r7)] (I6, L, R, am_SH) (po_M_aTune R Q)
    exact am_iret d_M_aTune_25 ⟨r7, I6, L, rfl, rfl, h⟩
abbrev po_M_isSign (I : am_TI) (L : am_TL) (R : am_TR) (Q : Bool → Prop) : Option Value → am_St → Prop := fun r σ' => ∃ (x : Bool), r = some (.int (am_b x)) ∧ σ' = (I, L, R, am_SH) ∧ Q x
def wp_M_isSign (I : am_TI) (L : am_TL) (R : am_TR) (q : Nat) (p1 : Int32)  (Q : Bool → Prop) : Prop := (((I q 12) = 4 → (((I q 15) = p1 → Q true) ∧ (¬ (I q 15) = p1 → Q false))) ∧ (¬ (I q 12) = 4 → Q false))
set_option maxRecDepth 20000 in
theorem cm_M_isSign {d : Nat} {I : am_TI} {L : am_TL} {R : am_TR}  (hw : am_Wf R)   {q : Nat} {p1 : Int32} {Q : Bool → Prop} (hd : 0 ≤ d) (hq : am_SH[q]? = some (.inl 12)) (h : wp_M_isSign I L R q p1  Q) : am_Cm d 0 0 y_M_isSign b_M_isSign 2 (some .boolean) [.ref q, .int p1] (I, L, R, am_SH) (po_M_isSign I L R Q) := by
  refine am_Cm_of (ini := false) (by decide +kernel) (fun z => by cases z) (by simp [Value.category]) (fun r σ' z => by obtain ⟨x, rfl, -⟩ := z; exact ⟨_, rfl, am_b_nar x⟩) ?_
  unfold wp_M_isSign at h
  show am_Wp (d, "UnseenRingModel", b_M_isSign, 2, false) 0 0 0 [some (.ref q), some (.int p1)] [] (I, L, R, am_SH) (po_M_isSign I L R Q)
  refine am_aload_n (n := 1) d_M_isSign_0 rfl rfl ?_
  refine am_getI (n := 4) f_M_166 d_M_isSign_1 rfl rfl hq ?_
  refine am_iconst (n := 5) d_M_isSign_4 ci_4 rfl ?_
  refine am_icmp_ne (tgt := 20) (n := 8) d_M_isSign_5 rfl rfl (fun c1 => ?_) (fun c1 => ?_)
  · have h := h.2 c1
    refine am_iconst (n := 21) d_M_isSign_20 ci_0 rfl ?_
    exact am_iret d_M_isSign_21 ⟨false, rfl, rfl, h⟩
  · have h := h.1 c1
    refine am_aload_n (n := 9) d_M_isSign_8 rfl rfl ?_
    refine am_getI (n := 12) f_M_163 d_M_isSign_9 rfl rfl hq ?_
    refine am_iload_n (n := 13) d_M_isSign_12 rfl rfl ?_
    refine am_icmp_ne (tgt := 20) (n := 16) d_M_isSign_13 rfl rfl (fun c2 => ?_) (fun c2 => ?_)
    · have h := h.2 c2
      refine am_iconst (n := 21) d_M_isSign_20 ci_0 rfl ?_
      exact am_iret d_M_isSign_21 ⟨false, rfl, rfl, h⟩
    · have h := h.1 c2
      refine am_iconst (n := 17) d_M_isSign_16 ci_1 rfl ?_
      refine am_goto (tgt := 21) d_M_isSign_17 rfl ?_
      exact am_iret d_M_isSign_21 ⟨true, rfl, rfl, h⟩
abbrev po_M_wantSign (L : am_TL) (R : am_TR) (Q : Bool → am_TI → Prop) : Option Value → am_St → Prop := fun r σ' => ∃ (x : Bool) (I' : am_TI), r = some (.int (am_b x)) ∧ σ' = (I', L, R, am_SH) ∧ Q x I'
def wp_M_wantSign (I : am_TI) (L : am_TL) (R : am_TR) (q : Nat) (p1 : Int32)  (Q : Bool → am_TI → Prop) : Prop := wp_M_isSign I L R q p1 (fun (r1 : Bool) => ((r1 = false → wp_M_fails I L R q 2 (fun (r2 : Bool) (I2 : am_TI) => Q r2 I2)) ∧ (r1 = true → wp_M_ahead I L R q (fun (I1 : am_TI) => Q true I1))))
set_option maxRecDepth 20000 in
theorem cm_M_wantSign {d : Nat} {I : am_TI} {L : am_TL} {R : am_TR}  (hw : am_Wf R)   {q : Nat} {p1 : Int32} {Q : Bool → am_TI → Prop} (hd : 2 ≤ d) (hq : am_SH[q]? = some (.inl 12)) (h : wp_M_wantSign I L R q p1  Q) : am_Cm d 0 0 y_M_wantSign b_M_wantSign 2 (some .boolean) [.ref q, .int p1] (I, L, R, am_SH) (po_M_wantSign L R Q) := by
  refine am_Cm_of (ini := false) (by decide +kernel) (fun z => by cases z) (by simp [Value.category]) (fun r σ' z => by obtain ⟨x, _, rfl, -⟩ := z; exact ⟨_, rfl, am_b_nar x⟩) ?_
  unfold wp_M_wantSign at h
  show am_Wp (d, "UnseenRingModel", b_M_wantSign, 2, false) 0 0 0 [some (.ref q), some (.int p1)] [] (I, L, R, am_SH) (po_M_wantSign L R Q)
  refine am_aload_n (n := 1) d_M_wantSign_0 rfl rfl ?_
  refine am_iload_n (n := 2) d_M_wantSign_1 rfl rfl ?_
  refine am_callV (kc := 0) (ks := 0) (As := [.int p1]) (n := 5) d_M_wantSign_2 rfl ce_M_isSign lk_M_200 in_M_isSign rfl rfl hq rfl rfl (Nat.le_of_ble_eq_true rfl) (Or.inl rfl) (cm_M_isSign (d := d - 1) hw (by omega) hq h) (by omega) ?_
  rintro _ _ ⟨r1, rfl, rfl, h⟩
  show am_Wp (d, "UnseenRingModel", b_M_wantSign, 2, false) 0 0 5 [some (.ref q), some (.int p1)] [.int (am_b r1)] (I, L, R, am_SH) (po_M_wantSign L R Q)
  refine am_if_ne (y := 0) (tgt := 14) (n := 8) d_M_wantSign_5 rfl rfl (fun c1 => ?_) (fun c1 => ?_)
  · have h := h.2 (am_b_n0 c1)
    refine am_aload_n (n := 15) d_M_wantSign_14 rfl rfl ?_
    refine am_callV (kc := 0) (ks := 0) (As := []) (n := 18) d_M_wantSign_15 rfl ce_M_ahead lk_M_197 in_M_ahead rfl rfl hq rfl rfl (Nat.le_of_ble_eq_true rfl) (Or.inl rfl) (cm_M_ahead (d := d - 1) hw (by omega) hq h) (by omega) ?_
    rintro _ _ ⟨I1, rfl, rfl, h⟩
    show am_Wp (d, "UnseenRingModel", b_M_wantSign, 2, false) 0 0 18 [some (.ref q), some (.int p1)] [] (I1, L, R, am_SH) (po_M_wantSign L R Q)
    refine am_iconst (n := 19) d_M_wantSign_18 ci_1 rfl ?_
    exact am_iret d_M_wantSign_19 ⟨true, I1, rfl, rfl, h⟩
  · have h := h.1 (am_b_0 c1)
    refine am_aload_n (n := 9) d_M_wantSign_8 rfl rfl ?_
    refine am_iconst (n := 10) d_M_wantSign_9 ci_2 rfl ?_
    refine am_callV (kc := 0) (ks := 0) (As := [.int 2]) (n := 13) d_M_wantSign_10 rfl ce_M_fails lk_M_203 in_M_fails rfl rfl hq rfl rfl (Nat.le_of_ble_eq_true rfl) (Or.inl rfl) (cm_M_fails (d := d - 1) hw (by omega) hq h) (by omega) ?_
    rintro _ _ ⟨r2, I2, rfl, rfl, h⟩
    show am_Wp (d, "UnseenRingModel", b_M_wantSign, 2, false) 0 0 13 [some (.ref q), some (.int p1)] [.int (am_b r2)] (I2, L, R, am_SH) (po_M_wantSign L R Q)
    exact am_iret d_M_wantSign_13 ⟨r2, I2, rfl, rfl, h⟩
abbrev po_M_squarePart (R : am_TR) (Q : Bool → am_TI → am_TL → Prop) : Option Value → am_St → Prop := fun r σ' => ∃ (x : Bool) (I' : am_TI) (L' : am_TL), r = some (.int (am_b x)) ∧ σ' = (I', L', R, am_SH) ∧ Q x I' L'
def wb_M_squarePart_16 (R : am_TR) (q : Nat) (Q : Bool → am_TI → am_TL → Prop)  (I : am_TI) (L : am_TL) : Prop := wp_M_fails I L R q 2 (fun (r2 : Bool) (I1 : am_TI) => Q r2 I1 L)
set_option maxRecDepth 20000 in
theorem tb_M_squarePart_16 {d : Nat}  {R : am_TR} {q : Nat} {Q : Bool → am_TI → am_TL → Prop}  (hw : am_Wf R) (hq : am_SH[q]? = some (.inl 12)) (hd : 8 ≤ d) (I : am_TI) (L : am_TL) (h : wb_M_squarePart_16 R q Q  I L) : am_Wp (d, "UnseenRingModel", b_M_squarePart, 3, false) 0 0 16 [some (.ref q), none, none] [] (I, L, R, am_SH) (po_M_squarePart R Q) := by
  unfold wb_M_squarePart_16 at h
  refine am_aload_n (n := 17) d_M_squarePart_16 rfl rfl ?_
  refine am_iconst (n := 18) d_M_squarePart_17 ci_2 rfl ?_
  refine am_callV (kc := 0) (ks := 0) (As := [.int 2]) (n := 21) d_M_squarePart_18 rfl ce_M_fails lk_M_203 in_M_fails rfl rfl hq rfl rfl (Nat.le_of_ble_eq_true rfl) (Or.inl rfl) (cm_M_fails (d := d - 1) hw (by omega) hq h) (by omega) ?_
  rintro _ _ ⟨r2, I1, rfl, rfl, h⟩
  show am_Wp (d, "UnseenRingModel", b_M_squarePart, 3, false) 0 0 21 [some (.ref q), none, none] [.int (am_b r2)] (I1, L, R, am_SH) (po_M_squarePart R Q)
  exact am_iret d_M_squarePart_21 ⟨r2, I1, L, rfl, rfl, h⟩
def wb_M_squarePart_170 (R : am_TR) (q : Nat) (Q : Bool → am_TI → am_TL → Prop)  (I : am_TI) (L : am_TL) (v2 : Bool) : Prop := ((v2 = false → Q false I L) ∧ (v2 = true → wp_M_wantSign I L R q 59 (fun (r4 : Bool) (I4 : am_TI) => ((r4 = false → Q false I4 L) ∧ (r4 = true → Q true I4 L)))))
set_option maxRecDepth 20000 in
theorem tb_M_squarePart_170 {d : Nat}  {R : am_TR} {q : Nat} {Q : Bool → am_TI → am_TL → Prop}  (hw : am_Wf R) (hq : am_SH[q]? = some (.inl 12)) (hd : 8 ≤ d) (I : am_TI) (L : am_TL) (v2 : Bool) (h : wb_M_squarePart_170 R q Q  I L v2) : am_Wp (d, "UnseenRingModel", b_M_squarePart, 3, false) 0 0 170 [some (.ref q), none, some (.int (am_b v2))] [] (I, L, R, am_SH) (po_M_squarePart R Q) := by
  unfold wb_M_squarePart_170 at h
  refine am_iload_n (n := 171) d_M_squarePart_170 rfl rfl ?_
  refine am_if_eq (y := 0) (tgt := 187) (n := 174) d_M_squarePart_171 rfl rfl (fun c7 => ?_) (fun c7 => ?_)
  · have h := h.1 (am_b_0 c7)
    refine am_iconst (n := 188) d_M_squarePart_187 ci_0 rfl ?_
    exact am_iret d_M_squarePart_188 ⟨false, I, L, rfl, rfl, h⟩
  · have h := h.2 (am_b_n0 c7)
    refine am_aload_n (n := 175) d_M_squarePart_174 rfl rfl ?_
    refine am_bipush (n := 177) d_M_squarePart_175 cb_59 rfl ?_
    refine am_callV (kc := 0) (ks := 0) (As := [.int 59]) (n := 180) d_M_squarePart_177 rfl ce_M_wantSign lk_M_270 in_M_wantSign rfl rfl hq rfl rfl (Nat.le_of_ble_eq_true rfl) (Or.inl rfl) (cm_M_wantSign (d := d - 1) hw (by omega) hq h) (by omega) ?_
    rintro _ _ ⟨r4, I4, rfl, rfl, h⟩
    show am_Wp (d, "UnseenRingModel", b_M_squarePart, 3, false) 0 0 180 [some (.ref q), none, some (.int (am_b v2))] [.int (am_b r4)] (I4, L, R, am_SH) (po_M_squarePart R Q)
    refine am_if_eq (y := 0) (tgt := 187) (n := 183) d_M_squarePart_180 rfl rfl (fun c8 => ?_) (fun c8 => ?_)
    · have h := h.1 (am_b_0 c8)
      refine am_iconst (n := 188) d_M_squarePart_187 ci_0 rfl ?_
      exact am_iret d_M_squarePart_188 ⟨false, I4, L, rfl, rfl, h⟩
    · have h := h.2 (am_b_n0 c8)
      refine am_iconst (n := 184) d_M_squarePart_183 ci_1 rfl ?_
      refine am_goto (tgt := 188) d_M_squarePart_184 rfl ?_
      exact am_iret d_M_squarePart_188 ⟨true, I4, L, rfl, rfl, h⟩
def wb_M_squarePart_82 (R : am_TR) (q : Nat) (Q : Bool → am_TI → am_TL → Prop)  (I : am_TI) (L : am_TL) (v1 : Int32) : Prop := ((v1 = 0 → wp_M_aSquare I L R q (fun (r3 : Bool) (I3 : am_TI) => wb_M_squarePart_170 R q Q I3 L r3)) ∧ (v1 = 1 → wp_M_number I L R q 1629 0 16 (fun (r5 : Bool) (I5 : am_TI) => wb_M_squarePart_170 R q Q I5 L r5)) ∧ (v1 = 2 → wp_M_newCellTo I L R q 1630 (fun (r6 : Bool) (I6 : am_TI) => wb_M_squarePart_170 R q Q I6 L r6)) ∧ (v1 = 3 → wp_M_aTune I L R q (fun (r7 : Bool) (I7 : am_TI) (L1 : am_TL) => wb_M_squarePart_170 R q Q I7 L1 r7)) ∧ (v1 = 4 → wp_M_aHearer I L R q (fun (r8 : Bool) (I8 : am_TI) => wb_M_squarePart_170 R q Q I8 L r8)) ∧ (¬ v1 = 0 → ¬ v1 = 1 → ¬ v1 = 2 → ¬ v1 = 3 → ¬ v1 = 4 → wp_M_aDog I L R q (fun (r9 : Bool) (I9 : am_TI) => wb_M_squarePart_170 R q Q I9 L r9)))
set_option maxRecDepth 20000 in
theorem tb_M_squarePart_82 {d : Nat}  {R : am_TR} {q : Nat} {Q : Bool → am_TI → am_TL → Prop}  (hw : am_Wf R) (hq : am_SH[q]? = some (.inl 12)) (hd : 8 ≤ d) (I : am_TI) (L : am_TL) (v1 : Int32) (h : wb_M_squarePart_82 R q Q  I L v1) : am_Wp (d, "UnseenRingModel", b_M_squarePart, 3, false) 0 0 82 [some (.ref q), some (.int v1), none] [] (I, L, R, am_SH) (po_M_squarePart R Q) := by
  unfold wb_M_squarePart_82 at h
  refine am_iload_n (n := 83) d_M_squarePart_82 rfl rfl ?_
  by_cases c6 : v1 = 0
  · have h := h.1 c6
    refine am_tableIn (off := 33) (tgt := 116) d_M_squarePart_83 (by rw [c6]; decide) (by rw [c6]; decide) (by rw [c6]; decide +kernel) rfl ?_
    refine am_aload_n (n := 117) d_M_squarePart_116 rfl rfl ?_
    refine am_callV (kc := 0) (ks := 0) (As := []) (n := 120) d_M_squarePart_117 rfl ce_M_aSquare lk_M_257 in_M_aSquare rfl rfl hq rfl rfl (Nat.le_of_ble_eq_true rfl) (Or.inl rfl) (cm_M_aSquare (d := d - 1) hw (by omega) hq h) (by omega) ?_
    rintro _ _ ⟨r3, I3, rfl, rfl, h⟩
    show am_Wp (d, "UnseenRingModel", b_M_squarePart, 3, false) 0 0 120 [some (.ref q), some (.int v1), none] [.int (am_b r3)] (I3, L, R, am_SH) (po_M_squarePart R Q)
    refine am_istore_n (ls' := [some (.ref q), some (.int v1), some (.int (am_b r3))]) (n := 121) d_M_squarePart_120 (by decide) rfl rfl ?_
    refine am_goto (tgt := 170) d_M_squarePart_121 rfl ?_
    refine am_forget (ls' := [some (.ref q), none, some (.int (am_b r3))]) (am_le_s (am_le_n (am_le_s am_le_e))) ?_
    exact tb_M_squarePart_170 hw hq hd I3 L r3 h
  by_cases c9 : v1 = 1
  · have h := h.2.1 c9
    refine am_tableIn (off := 41) (tgt := 124) d_M_squarePart_83 (by rw [c9]; decide) (by rw [c9]; decide) (by rw [c9]; decide +kernel) rfl ?_
    refine am_aload_n (n := 125) d_M_squarePart_124 rfl rfl ?_
    refine am_sipush (n := 128) d_M_squarePart_125 cs_1629 rfl ?_
    refine am_iconst (n := 129) d_M_squarePart_128 ci_0 rfl ?_
    refine am_bipush (n := 131) d_M_squarePart_129 cb_16 rfl ?_
    refine am_callV (kc := 0) (ks := 0) (As := [.int 1629, .int 0, .int 16]) (n := 134) d_M_squarePart_131 rfl ce_M_number lk_M_219 in_M_number rfl rfl hq rfl rfl (Nat.le_of_ble_eq_true rfl) (Or.inl rfl) (cm_M_number (d := d - 1) hw (by omega) hq h) (by omega) ?_
    rintro _ _ ⟨r5, I5, rfl, rfl, h⟩
    show am_Wp (d, "UnseenRingModel", b_M_squarePart, 3, false) 0 0 134 [some (.ref q), some (.int v1), none] [.int (am_b r5)] (I5, L, R, am_SH) (po_M_squarePart R Q)
    refine am_istore_n (ls' := [some (.ref q), some (.int v1), some (.int (am_b r5))]) (n := 135) d_M_squarePart_134 (by decide) rfl rfl ?_
    refine am_goto (tgt := 170) d_M_squarePart_135 rfl ?_
    refine am_forget (ls' := [some (.ref q), none, some (.int (am_b r5))]) (am_le_s (am_le_n (am_le_s am_le_e))) ?_
    exact tb_M_squarePart_170 hw hq hd I5 L r5 h
  by_cases c10 : v1 = 2
  · have h := h.2.2.1 c10
    refine am_tableIn (off := 55) (tgt := 138) d_M_squarePart_83 (by rw [c10]; decide) (by rw [c10]; decide) (by rw [c10]; decide +kernel) rfl ?_
    refine am_aload_n (n := 139) d_M_squarePart_138 rfl rfl ?_
    refine am_sipush (n := 142) d_M_squarePart_139 cs_1630 rfl ?_
    refine am_callV (kc := 0) (ks := 0) (As := [.int 1630]) (n := 145) d_M_squarePart_142 rfl ce_M_newCellTo lk_M_244 in_M_newCellTo rfl rfl hq rfl rfl (Nat.le_of_ble_eq_true rfl) (Or.inl rfl) (cm_M_newCellTo (d := d - 1) hw (by omega) hq h) (by omega) ?_
    rintro _ _ ⟨r6, I6, rfl, rfl, h⟩
    show am_Wp (d, "UnseenRingModel", b_M_squarePart, 3, false) 0 0 145 [some (.ref q), some (.int v1), none] [.int (am_b r6)] (I6, L, R, am_SH) (po_M_squarePart R Q)
    refine am_istore_n (ls' := [some (.ref q), some (.int v1), some (.int (am_b r6))]) (n := 146) d_M_squarePart_145 (by decide) rfl rfl ?_
    refine am_goto (tgt := 170) d_M_squarePart_146 rfl ?_
    refine am_forget (ls' := [some (.ref q), none, some (.int (am_b r6))]) (am_le_s (am_le_n (am_le_s am_le_e))) ?_
    exact tb_M_squarePart_170 hw hq hd I6 L r6 h
  by_cases c11 : v1 = 3
  · have h := h.2.2.2.1 c11
    refine am_tableIn (off := 66) (tgt := 149) d_M_squarePart_83 (by rw [c11]; decide) (by rw [c11]; decide) (by rw [c11]; decide +kernel) rfl ?_
    refine am_aload_n (n := 150) d_M_squarePart_149 rfl rfl ?_
    refine am_callV (kc := 0) (ks := 0) (As := []) (n := 153) d_M_squarePart_150 rfl ce_M_aTune lk_M_261 in_M_aTune rfl rfl hq rfl rfl (Nat.le_of_ble_eq_true rfl) (Or.inl rfl) (cm_M_aTune (d := d - 1) hw (by omega) hq h) (by omega) ?_
    rintro _ _ ⟨r7, I7, L1, rfl, rfl, h⟩
    show am_Wp (d, "UnseenRingModel", b_M_squarePart, 3, false) 0 0 153 [some (.ref q), some (.int v1), none] [.int (am_b r7)] (I7, L1, R, am_SH) (po_M_squarePart R Q)
    refine am_istore_n (ls' := [some (.ref q), some (.int v1), some (.int (am_b r7))]) (n := 154) d_M_squarePart_153 (by decide) rfl rfl ?_
    refine am_goto (tgt := 170) d_M_squarePart_154 rfl ?_
    refine am_forget (ls' := [some (.ref q), none, some (.int (am_b r7))]) (am_le_s (am_le_n (am_le_s am_le_e))) ?_
    exact tb_M_squarePart_170 hw hq hd I7 L1 r7 h
  by_cases c12 : v1 = 4
  · have h := h.2.2.2.2.1 c12
    refine am_tableIn (off := 74) (tgt := 157) d_M_squarePart_83 (by rw [c12]; decide) (by rw [c12]; decide) (by rw [c12]; decide +kernel) rfl ?_
    refine am_aload_n (n := 158) d_M_squarePart_157 rfl rfl ?_
    refine am_callV (kc := 0) (ks := 0) (As := []) (n := 161) d_M_squarePart_158 rfl ce_M_aHearer lk_M_264 in_M_aHearer rfl rfl hq rfl rfl (Nat.le_of_ble_eq_true rfl) (Or.inl rfl) (cm_M_aHearer (d := d - 1) hw (by omega) hq h) (by omega) ?_
    rintro _ _ ⟨r8, I8, rfl, rfl, h⟩
    show am_Wp (d, "UnseenRingModel", b_M_squarePart, 3, false) 0 0 161 [some (.ref q), some (.int v1), none] [.int (am_b r8)] (I8, L, R, am_SH) (po_M_squarePart R Q)
    refine am_istore_n (ls' := [some (.ref q), some (.int v1), some (.int (am_b r8))]) (n := 162) d_M_squarePart_161 (by decide) rfl rfl ?_
    refine am_goto (tgt := 170) d_M_squarePart_162 rfl ?_
    refine am_forget (ls' := [some (.ref q), none, some (.int (am_b r8))]) (am_le_s (am_le_n (am_le_s am_le_e))) ?_
    exact tb_M_squarePart_170 hw hq hd I8 L r8 h
  have h := h.2.2.2.2.2 c6 c9 c10 c11 c12
  have z0 := lv_neT c6 (a := 0) (by decide)
  have z1 := lv_neT c9 (a := 1) (by decide)
  have z2 := lv_neT c10 (a := 2) (by decide)
  have z3 := lv_neT c11 (a := 3) (by decide)
  have z4 := lv_neT c12 (a := 4) (by decide)
  refine am_tableOut (tgt := 165) d_M_squarePart_83 (by omega) rfl ?_
  refine am_aload_n (n := 166) d_M_squarePart_165 rfl rfl ?_
  refine am_callV (kc := 0) (ks := 0) (As := []) (n := 169) d_M_squarePart_166 rfl ce_M_aDog lk_M_267 in_M_aDog rfl rfl hq rfl rfl (Nat.le_of_ble_eq_true rfl) (Or.inl rfl) (cm_M_aDog (d := d - 1) hw (by omega) hq h) (by omega) ?_
  rintro _ _ ⟨r9, I9, rfl, rfl, h⟩
  show am_Wp (d, "UnseenRingModel", b_M_squarePart, 3, false) 0 0 169 [some (.ref q), some (.int v1), none] [.int (am_b r9)] (I9, L, R, am_SH) (po_M_squarePart R Q)
  refine am_istore_n (ls' := [some (.ref q), some (.int v1), some (.int (am_b r9))]) (n := 170) d_M_squarePart_169 (by decide) rfl rfl ?_
  refine am_forget (ls' := [some (.ref q), none, some (.int (am_b r9))]) (am_le_s (am_le_n (am_le_s am_le_e))) ?_
  exact tb_M_squarePart_170 hw hq hd I9 L r9 h
def wb_M_squarePart_68 (R : am_TR) (q : Nat) (Q : Bool → am_TI → am_TL → Prop)  (I : am_TI) (L : am_TL) (v1 : Int32) (s0 : Nat) (s1 : Int32) (s2 : Int32) (s3 : Bool) : Prop := (∀ I2, I2 = am_u2 I s0 20 (s1 ||| (s2 ||| (am_b s3))) → ((2 < v1 → wb_M_squarePart_82 R q Q I2 L v1) ∧ (¬ 2 < v1 → wp_M_ahead I2 L R q (fun (I10 : am_TI) => wb_M_squarePart_82 R q Q I10 L v1))))
set_option maxRecDepth 20000 in
theorem tb_M_squarePart_68 {d : Nat}  {R : am_TR} {q : Nat} {Q : Bool → am_TI → am_TL → Prop}  (hw : am_Wf R) (hq : am_SH[q]? = some (.inl 12)) (hd : 8 ≤ d) (I : am_TI) (L : am_TL) (v1 : Int32) (s0 : Nat) (s1 : Int32) (s2 : Int32) (s3 : Bool) (hs0 : am_SH[s0]? = some (.inl 12)) (h : wb_M_squarePart_68 R q Q  I L v1 s0 s1 s2 s3) : am_Wp (d, "UnseenRingModel", b_M_squarePart, 3, false) 0 0 68 [some (.ref q), some (.int v1), none] [.int (am_b s3), .int s2, .int s1, .ref s0] (I, L, R, am_SH) (po_M_squarePart R Q) := by
  unfold wb_M_squarePart_68 at h
  refine am_ior (n := 69) d_M_squarePart_68 rfl ?_
  refine am_ior (n := 70) d_M_squarePart_69 rfl ?_
  refine am_putI (n := 73) f_M_254 d_M_squarePart_70 rfl ⟨_, rfl, Or.inl rfl⟩ rfl rfl hs0 ?_
  generalize eI2 : am_u2 I s0 20 (s1 ||| (s2 ||| (am_b s3))) = I2
  have h := h I2 eI2.symm
  refine am_iload_n (n := 74) d_M_squarePart_73 rfl rfl ?_
  refine am_iconst (n := 75) d_M_squarePart_74 ci_2 rfl ?_
  refine am_icmp_gt (tgt := 82) (n := 78) d_M_squarePart_75 rfl rfl (fun c5 => ?_) (fun c5 => ?_)
  · have h := h.1 c5
    exact tb_M_squarePart_82 hw hq hd I2 L v1 h
  · have h := h.2 c5
    refine am_aload_n (n := 79) d_M_squarePart_78 rfl rfl ?_
    refine am_callV (kc := 0) (ks := 0) (As := []) (n := 82) d_M_squarePart_79 rfl ce_M_ahead lk_M_197 in_M_ahead rfl rfl hq rfl rfl (Nat.le_of_ble_eq_true rfl) (Or.inl rfl) (cm_M_ahead (d := d - 1) hw (by omega) hq h) (by omega) ?_
    rintro _ _ ⟨I10, rfl, rfl, h⟩
    show am_Wp (d, "UnseenRingModel", b_M_squarePart, 3, false) 0 0 82 [some (.ref q), some (.int v1), none] [] (I10, L, R, am_SH) (po_M_squarePart R Q)
    exact tb_M_squarePart_82 hw hq hd I10 L v1 h
def wb_M_squarePart_63 (R : am_TR) (q : Nat) (Q : Bool → am_TI → am_TL → Prop)  (I : am_TI) (L : am_TL) (v1 : Int32) (s0 : Nat) (s1 : Int32) (s2 : Int32) : Prop := wb_M_squarePart_68 R q Q I L v1 s0 s1 s2 true
set_option maxRecDepth 20000 in
theorem tb_M_squarePart_63 {d : Nat}  {R : am_TR} {q : Nat} {Q : Bool → am_TI → am_TL → Prop}  (hw : am_Wf R) (hq : am_SH[q]? = some (.inl 12)) (hd : 8 ≤ d) (I : am_TI) (L : am_TL) (v1 : Int32) (s0 : Nat) (s1 : Int32) (s2 : Int32) (hs0 : am_SH[s0]? = some (.inl 12)) (h : wb_M_squarePart_63 R q Q  I L v1 s0 s1 s2) : am_Wp (d, "UnseenRingModel", b_M_squarePart, 3, false) 0 0 63 [some (.ref q), some (.int v1), none] [.int s2, .int s1, .ref s0] (I, L, R, am_SH) (po_M_squarePart R Q) := by
  unfold wb_M_squarePart_63 at h
  refine am_iconst (n := 64) d_M_squarePart_63 ci_1 rfl ?_
  refine am_goto (tgt := 68) d_M_squarePart_64 rfl ?_
  exact tb_M_squarePart_68 hw hq hd I L v1 s0 s1 s2 true hs0 h
def wb_M_squarePart_45 (R : am_TR) (q : Nat) (Q : Bool → am_TI → am_TL → Prop)  (I : am_TI) (L : am_TL) (v1 : Int32) : Prop := ((v1 = 2 → wb_M_squarePart_63 R q Q I L v1 q (I q 20) ((1 : Int32) <<< (v1 &&& 31))) ∧ (¬ v1 = 2 → ((v1 < 4 → wb_M_squarePart_68 R q Q I L v1 q (I q 20) ((1 : Int32) <<< (v1 &&& 31)) false) ∧ (¬ v1 < 4 → wb_M_squarePart_63 R q Q I L v1 q (I q 20) ((1 : Int32) <<< (v1 &&& 31))))))
set_option maxRecDepth 20000 in
theorem tb_M_squarePart_45 {d : Nat}  {R : am_TR} {q : Nat} {Q : Bool → am_TI → am_TL → Prop}  (hw : am_Wf R) (hq : am_SH[q]? = some (.inl 12)) (hd : 8 ≤ d) (I : am_TI) (L : am_TL) (v1 : Int32) (h : wb_M_squarePart_45 R q Q  I L v1) : am_Wp (d, "UnseenRingModel", b_M_squarePart, 3, false) 0 0 45 [some (.ref q), some (.int v1), none] [] (I, L, R, am_SH) (po_M_squarePart R Q) := by
  unfold wb_M_squarePart_45 at h
  refine am_aload_n (n := 46) d_M_squarePart_45 rfl rfl ?_
  refine am_dup (n := 47) d_M_squarePart_46 rfl rfl ?_
  refine am_getI (n := 50) f_M_254 d_M_squarePart_47 rfl rfl hq ?_
  refine am_iconst (n := 51) d_M_squarePart_50 ci_1 rfl ?_
  refine am_iload_n (n := 52) d_M_squarePart_51 rfl rfl ?_
  refine am_ishl (n := 53) d_M_squarePart_52 rfl ?_
  refine am_iload_n (n := 54) d_M_squarePart_53 rfl rfl ?_
  refine am_iconst (n := 55) d_M_squarePart_54 ci_2 rfl ?_
  refine am_icmp_eq (tgt := 63) (n := 58) d_M_squarePart_55 rfl rfl (fun c4 => ?_) (fun c4 => ?_)
  · have h := h.1 c4
    exact tb_M_squarePart_63 hw hq hd I L v1 q (I q 20) ((1 : Int32) <<< (v1 &&& 31)) hq h
  · have h := h.2 c4
    refine am_iload_n (n := 59) d_M_squarePart_58 rfl rfl ?_
    refine am_iconst (n := 60) d_M_squarePart_59 ci_4 rfl ?_
    refine am_icmp_lt (tgt := 67) (n := 63) d_M_squarePart_60 rfl rfl (fun c13 => ?_) (fun c13 => ?_)
    · have h := h.1 c13
      refine am_iconst (n := 68) d_M_squarePart_67 ci_0 rfl ?_
      exact tb_M_squarePart_68 hw hq hd I L v1 q (I q 20) ((1 : Int32) <<< (v1 &&& 31)) false hq h
    · have h := h.2 c13
      exact tb_M_squarePart_63 hw hq hd I L v1 q (I q 20) ((1 : Int32) <<< (v1 &&& 31)) hq h
def wp_M_squarePart (I : am_TI) (L : am_TL) (R : am_TR) (q : Nat)  (Q : Bool → am_TI → am_TL → Prop) : Prop := wp_M_inWords I L R q 1002 (fun (r1 : Int32) => ((r1 < 0 → wb_M_squarePart_16 R q Q I L) ∧ (¬ r1 < 0 → ((r1 ≤ 5 → ((2 < r1 → wb_M_squarePart_45 R q Q I L r1) ∧ (¬ 2 < r1 → (((((I q 20) >>> (r1 &&& 31)) &&& 1) = 1 → wp_M_fails I L R q 5 (fun (r10 : Bool) (I11 : am_TI) => Q r10 I11 L)) ∧ (¬ (((I q 20) >>> (r1 &&& 31)) &&& 1) = 1 → wb_M_squarePart_45 R q Q I L r1))))) ∧ (¬ r1 ≤ 5 → wb_M_squarePart_16 R q Q I L)))))
set_option maxRecDepth 20000 in
theorem cm_M_squarePart {d : Nat} {I : am_TI} {L : am_TL} {R : am_TR}  (hw : am_Wf R)   {q : Nat} {Q : Bool → am_TI → am_TL → Prop} (hd : 8 ≤ d) (hq : am_SH[q]? = some (.inl 12)) (h : wp_M_squarePart I L R q  Q) : am_Cm d 0 0 y_M_squarePart b_M_squarePart 3 (some .boolean) [.ref q] (I, L, R, am_SH) (po_M_squarePart R Q) := by
  refine am_Cm_of (ini := false) (by decide +kernel) (fun z => by cases z) (by simp [Value.category]) (fun r σ' z => by obtain ⟨x, _, _, rfl, -⟩ := z; exact ⟨_, rfl, am_b_nar x⟩) ?_
  unfold wp_M_squarePart at h
  show am_Wp (d, "UnseenRingModel", b_M_squarePart, 3, false) 0 0 0 [some (.ref q), none, none] [] (I, L, R, am_SH) (po_M_squarePart R Q)
  refine am_aload_n (n := 1) d_M_squarePart_0 rfl rfl ?_
  refine am_ldcS1 (n := 3) d_M_squarePart_1 rfl ?_
  refine am_callV (kc := 0) (ks := 0) (As := [.ref 1002]) (n := 6) d_M_squarePart_3 rfl ce_M_inWords lk_M_206 in_M_inWords rfl rfl hq rfl rfl (Nat.le_of_ble_eq_true rfl) (Or.inl rfl) (cm_M_inWords (d := d - 1) hw (by omega) hq h) (by omega) ?_
  rintro _ _ ⟨r1, rfl, rfl, h⟩
  show am_Wp (d, "UnseenRingModel", b_M_squarePart, 3, false) 0 0 6 [some (.ref q), none, none] [.int r1] (I, L, R, am_SH) (po_M_squarePart R Q)
  refine am_istore_n (ls' := [some (.ref q), some (.int r1), none]) (n := 7) d_M_squarePart_6 (by decide) rfl rfl ?_
  refine am_iload_n (n := 8) d_M_squarePart_7 rfl rfl ?_
  refine am_if_lt (y := 0) (tgt := 16) (n := 11) d_M_squarePart_8 rfl rfl (fun c1 => ?_) (fun c1 => ?_)
  · have h := h.1 c1
    refine am_forget (ls' := [some (.ref q), none, none]) (am_le_s (am_le_n (am_le_n am_le_e))) ?_
    exact tb_M_squarePart_16 hw hq hd I L h
  · have h := h.2 c1
    refine am_iload_n (n := 12) d_M_squarePart_11 rfl rfl ?_
    refine am_iconst (n := 13) d_M_squarePart_12 ci_5 rfl ?_
    refine am_icmp_le (tgt := 22) (n := 16) d_M_squarePart_13 rfl rfl (fun c2 => ?_) (fun c2 => ?_)
    · have h := h.1 c2
      refine am_iload_n (n := 23) d_M_squarePart_22 rfl rfl ?_
      refine am_iconst (n := 24) d_M_squarePart_23 ci_2 rfl ?_
      refine am_icmp_gt (tgt := 45) (n := 27) d_M_squarePart_24 rfl rfl (fun c3 => ?_) (fun c3 => ?_)
      · have h := h.1 c3
        exact tb_M_squarePart_45 hw hq hd I L r1 h
      · have h := h.2 c3
        refine am_aload_n (n := 28) d_M_squarePart_27 rfl rfl ?_
        refine am_getI (n := 31) f_M_254 d_M_squarePart_28 rfl rfl hq ?_
        refine am_iload_n (n := 32) d_M_squarePart_31 rfl rfl ?_
        refine am_ishr (n := 33) d_M_squarePart_32 rfl ?_
        refine am_iconst (n := 34) d_M_squarePart_33 ci_1 rfl ?_
        refine am_iand (n := 35) d_M_squarePart_34 rfl ?_
        refine am_iconst (n := 36) d_M_squarePart_35 ci_1 rfl ?_
        refine am_icmp_ne (tgt := 45) (n := 39) d_M_squarePart_36 rfl rfl (fun c14 => ?_) (fun c14 => ?_)
        · have h := h.2 c14
          exact tb_M_squarePart_45 hw hq hd I L r1 h
        · have h := h.1 c14
          refine am_aload_n (n := 40) d_M_squarePart_39 rfl rfl ?_
          refine am_iconst (n := 41) d_M_squarePart_40 ci_5 rfl ?_
          refine am_callV (kc := 0) (ks := 0) (As := [.int 5]) (n := 44) d_M_squarePart_41 rfl ce_M_fails lk_M_203 in_M_fails rfl rfl hq rfl rfl (Nat.le_of_ble_eq_true rfl) (Or.inl rfl) (cm_M_fails (d := d - 1) hw (by omega) hq h) (by omega) ?_
          rintro _ _ ⟨r10, I11, rfl, rfl, h⟩
          show am_Wp (d, "UnseenRingModel", b_M_squarePart, 3, false) 0 0 44 [some (.ref q), some (.int r1), none] [.int (am_b r10)] (I11, L, R, am_SH) (po_M_squarePart R Q)
          exact am_iret d_M_squarePart_44 ⟨r10, I11, L, rfl, rfl, h⟩
    · have h := h.2 c2
      refine am_forget (ls' := [some (.ref q), none, none]) (am_le_s (am_le_n (am_le_n am_le_e))) ?_
      exact tb_M_squarePart_16 hw hq hd I L h
abbrev po_M_gives (L : am_TL) (R : am_TR) (Q : Int32 → am_TI → Prop) : Option Value → am_St → Prop := fun r σ' => ∃ (x : Int32) (I' : am_TI), r = some (.int x) ∧ σ' = (I', L, R, am_SH) ∧ Q x I'
def wp_M_gives (I : am_TI) (L : am_TL) (R : am_TR) (q : Nat) (p1 : Int32)  (Q : Int32 → am_TI → Prop) : Prop := (∀ I1, I1 = am_u2 I q 2 0 → Q p1 I1)
set_option maxRecDepth 20000 in
theorem cm_M_gives {d : Nat} {I : am_TI} {L : am_TL} {R : am_TR}  (hw : am_Wf R)   {q : Nat} {p1 : Int32} {Q : Int32 → am_TI → Prop} (hd : 0 ≤ d) (hq : am_SH[q]? = some (.inl 12)) (h : wp_M_gives I L R q p1  Q) : am_Cm d 0 0 y_M_gives b_M_gives 2 (some .int) [.ref q, .int p1] (I, L, R, am_SH) (po_M_gives L R Q) := by
  refine am_Cm_of (ini := false) (by decide +kernel) (fun z => by cases z) (by simp [Value.category]) (fun r σ' z => by obtain ⟨x, _, rfl, -⟩ := z; exact ⟨_, rfl, rfl⟩) ?_
  unfold wp_M_gives at h
  show am_Wp (d, "UnseenRingModel", b_M_gives, 2, false) 0 0 0 [some (.ref q), some (.int p1)] [] (I, L, R, am_SH) (po_M_gives L R Q)
  refine am_aload_n (n := 1) d_M_gives_0 rfl rfl ?_
  refine am_iconst (n := 2) d_M_gives_1 ci_0 rfl ?_
  refine am_putI (n := 5) f_M_115 d_M_gives_2 rfl ⟨_, rfl, Or.inl rfl⟩ rfl rfl hq ?_
  generalize eI1 : am_u2 I q 2 0 = I1
  have h := h I1 eI1.symm
  refine am_iload_n (n := 6) d_M_gives_5 rfl rfl ?_
  exact am_iret d_M_gives_6 ⟨p1, I1, rfl, rfl, h⟩
abbrev po_M_taken (L : am_TL) (R : am_TR) (Q : Int32 → am_TI → Prop) : Option Value → am_St → Prop := fun r σ' => ∃ (x : Int32) (I' : am_TI), r = some (.int x) ∧ σ' = (I', L, R, am_SH) ∧ Q x I'
def wp_M_taken (I : am_TI) (L : am_TL) (R : am_TR) (q : Nat) (p1 : Int32)  (Q : Int32 → am_TI → Prop) : Prop := (∀ I1, I1 = am_u2 I q 16 (I q 18) → (((I1 q 18) ≤ 0 → wp_M_gives I1 L R q p1 (fun (r1 : Int32) (I2 : am_TI) => Q r1 I2)) ∧ (¬ (I1 q 18) ≤ 0 → wp_M_refuse I1 L R q 9 (fun (r2 : Int32) (I3 : am_TI) => Q r2 I3))))
set_option maxRecDepth 20000 in
theorem cm_M_taken {d : Nat} {I : am_TI} {L : am_TL} {R : am_TR}  (hw : am_Wf R)   {q : Nat} {p1 : Int32} {Q : Int32 → am_TI → Prop} (hd : 1 ≤ d) (hq : am_SH[q]? = some (.inl 12)) (h : wp_M_taken I L R q p1  Q) : am_Cm d 0 0 y_M_taken b_M_taken 2 (some .int) [.ref q, .int p1] (I, L, R, am_SH) (po_M_taken L R Q) := by
  refine am_Cm_of (ini := false) (by decide +kernel) (fun z => by cases z) (by simp [Value.category]) (fun r σ' z => by obtain ⟨x, _, rfl, -⟩ := z; exact ⟨_, rfl, rfl⟩) ?_
  unfold wp_M_taken at h
  show am_Wp (d, "UnseenRingModel", b_M_taken, 2, false) 0 0 0 [some (.ref q), some (.int p1)] [] (I, L, R, am_SH) (po_M_taken L R Q)
  refine am_aload_n (n := 1) d_M_taken_0 rfl rfl ?_
  refine am_aload_n (n := 2) d_M_taken_1 rfl rfl ?_
  refine am_getI (n := 5) f_M_191 d_M_taken_2 rfl rfl hq ?_
  refine am_putI (n := 8) f_M_37 d_M_taken_5 rfl ⟨_, rfl, Or.inl rfl⟩ rfl rfl hq ?_
  generalize eI1 : am_u2 I q 16 (I q 18) = I1
  have h := h I1 eI1.symm
  refine am_aload_n (n := 9) d_M_taken_8 rfl rfl ?_
  refine am_getI (n := 12) f_M_191 d_M_taken_9 rfl rfl hq ?_
  refine am_if_le (y := 0) (tgt := 24) (n := 15) d_M_taken_12 rfl rfl (fun c1 => ?_) (fun c1 => ?_)
  · have h := h.1 c1
    refine am_aload_n (n := 25) d_M_taken_24 rfl rfl ?_
    refine am_iload_n (n := 26) d_M_taken_25 rfl rfl ?_
    refine am_callV (kc := 0) (ks := 0) (As := [.int p1]) (n := 29) d_M_taken_26 rfl ce_M_gives lk_M_125 in_M_gives rfl rfl hq rfl rfl (Nat.le_of_ble_eq_true rfl) (Or.inl rfl) (cm_M_gives (d := d - 1) hw (by omega) hq h) (by omega) ?_
    rintro _ _ ⟨r1, I2, rfl, rfl, h⟩
    show am_Wp (d, "UnseenRingModel", b_M_taken, 2, false) 0 0 29 [some (.ref q), some (.int p1)] [.int r1] (I2, L, R, am_SH) (po_M_taken L R Q)
    exact am_iret d_M_taken_29 ⟨r1, I2, rfl, rfl, h⟩
  · have h := h.2 c1
    refine am_aload_n (n := 16) d_M_taken_15 rfl rfl ?_
    refine am_bipush (n := 18) d_M_taken_16 cb_9 rfl ?_
    refine am_callV (kc := 0) (ks := 0) (As := [.int 9]) (n := 21) d_M_taken_18 rfl ce_M_refuse lk_M_121 in_M_refuse rfl rfl hq rfl rfl (Nat.le_of_ble_eq_true rfl) (Or.inl rfl) (cm_M_refuse (d := d - 1) hw (by omega) hq h) (by omega) ?_
    rintro _ _ ⟨r2, I3, rfl, rfl, h⟩
    show am_Wp (d, "UnseenRingModel", b_M_taken, 2, false) 0 0 21 [some (.ref q), some (.int p1)] [.int r2] (I3, L, R, am_SH) (po_M_taken L R Q)
    refine am_goto (tgt := 29) d_M_taken_21 rfl ?_
    exact am_iret d_M_taken_29 ⟨r2, I3, rfl, rfl, h⟩
abbrev po_M_square (R : am_TR) (Q : Int32 → am_TI → am_TL → Prop) : Option Value → am_St → Prop := fun r σ' => ∃ (x : Int32) (I' : am_TI) (L' : am_TL), r = some (.int x) ∧ σ' = (I', L', R, am_SH) ∧ Q x I' L'
def wb_M_square_117 (R : am_TR) (q : Nat) (p1 : Int32) (Q : Int32 → am_TI → am_TL → Prop)  (I : am_TI) (L : am_TL) : Prop := wp_M_taken I L R q (I (q + 1) 3) (fun (r2 : Int32) (I4 : am_TI) => Q r2 I4 L)
set_option maxRecDepth 20000 in
theorem tb_M_square_117 {d : Nat}  {R : am_TR} {q : Nat} {p1 : Int32} {Q : Int32 → am_TI → am_TL → Prop}  (hw : am_Wf R) (hq : am_SH[q]? = some (.inl 12)) (hd : 9 ≤ d) (I : am_TI) (L : am_TL) (h : wb_M_square_117 R q p1 Q  I L) : am_Wp (d, "UnseenRingModel", b_M_square, 4, false) 0 0 117 [some (.ref q), some (.int p1), none, none] [] (I, L, R, am_SH) (po_M_square R Q) := by
  unfold wb_M_square_117 at h
  refine am_aload_n (n := 118) d_M_square_117 rfl rfl ?_
  refine am_aload_n (n := 119) d_M_square_118 rfl rfl ?_
  refine am_getR (x := (q + 1)) (n := 122) f_M_7 d_M_square_119 rfl rfl hq (hw.1 q 12 0 1 hq rfl) ?_
  refine am_iconst (n := 123) d_M_square_122 ci_3 rfl ?_
  refine am_iald2 (n := 124) d_M_square_123 rfl (am_sho (k := 0) (o := 1) hq (by decide) (by decide) (by decide) rfl) cx_3_2258 cn_3 ?_
  refine am_callV (kc := 0) (ks := 0) (As := [.int (I (q + 1) 3)]) (n := 127) d_M_square_124 rfl ce_M_taken lk_M_279 in_M_taken rfl rfl hq rfl rfl (Nat.le_of_ble_eq_true rfl) (Or.inl rfl) (cm_M_taken (d := d - 1) hw (by omega) hq h) (by omega) ?_
  rintro _ _ ⟨r2, I4, rfl, rfl, h⟩
  show am_Wp (d, "UnseenRingModel", b_M_square, 4, false) 0 0 127 [some (.ref q), some (.int p1), none, none] [.int r2] (I4, L, R, am_SH) (po_M_square R Q)
  exact am_iret d_M_square_127 ⟨r2, I4, L, rfl, rfl, h⟩
def wl_M_square_90 (R : am_TR) (q : Nat) (p1 : Int32) (Q : Int32 → am_TI → am_TL → Prop)  : Nat → am_TI → am_TL → Int32 → Prop
  | 0 => fun _ _ _ => False
  | f90 + 1 => fun I L v3 => ((6 ≤ v3 → wb_M_square_117 R q p1 Q I L) ∧ (¬ 6 ≤ v3 → (vp_in (24 + v3) 36 ∧ (vp_in v3 36 ∧ (∀ L1, L1 = am_u2 L (q + 2) (Int32.toNatClampNeg v3) (L (q + 2) (Int32.toNatClampNeg (24 + v3))) → wl_M_square_90 R q p1 Q f90 I L1 (v3 + 1))))))
set_option maxRecDepth 20000 in
theorem tl_M_square_90 {d : Nat}  {R : am_TR} {q : Nat} {p1 : Int32} {Q : Int32 → am_TI → am_TL → Prop}  (hw : am_Wf R) (hq : am_SH[q]? = some (.inl 12)) (hd : 9 ≤ d) : ∀ (n : Nat) (I : am_TI) (L : am_TL) (v3 : Int32), wl_M_square_90 R q p1 Q  n I L v3 → am_Wp (d, "UnseenRingModel", b_M_square, 4, false) 0 0 90 [some (.ref q), some (.int p1), none, some (.int v3)] [] (I, L, R, am_SH) (po_M_square R Q) := by
  intro n
  induction n with
  | zero => intro I L v3 h; exact h.elim
  | succ n ih =>
    intro I L v3 h
    unfold wl_M_square_90 at h
    refine am_iload_n (n := 91) d_M_square_90 rfl rfl ?_
    refine am_bipush (n := 93) d_M_square_91 cb_6 rfl ?_
    refine am_icmp_ge (tgt := 117) (n := 96) d_M_square_93 rfl rfl (fun c5 => ?_) (fun c5 => ?_)
    · have h := h.1 c5
      refine am_forget (ls' := [some (.ref q), some (.int p1), none, none]) (am_le_s (am_le_s (am_le_n (am_le_n am_le_e)))) ?_
      exact tb_M_square_117 hw hq hd I L h
    · have h := h.2 c5
      refine am_aload_n (n := 97) d_M_square_96 rfl rfl ?_
      refine am_getR (x := (q + 2)) (n := 100) f_M_13 d_M_square_97 rfl rfl hq (hw.1 q 12 1 2 hq rfl) ?_
      refine am_iload_n (n := 101) d_M_square_100 rfl rfl ?_
      refine am_aload_n (n := 102) d_M_square_101 rfl rfl ?_
      refine am_getR (x := (q + 2)) (n := 105) f_M_13 d_M_square_102 rfl rfl hq (hw.1 q 12 1 2 hq rfl) ?_
      refine am_bipush (n := 107) d_M_square_105 cb_24 rfl ?_
      refine am_iload_n (n := 108) d_M_square_107 rfl rfl ?_
      refine am_iadd (n := 109) d_M_square_108 rfl ?_
      obtain ⟨g1, h⟩ := h
      refine am_lald2 (n := 110) d_M_square_109 rfl (am_sho (k := 1) (o := 2) hq (by decide) (by decide) (by decide) rfl) g1 rfl ?_
      obtain ⟨g2, h⟩ := h
      refine am_last2 (n := 111) d_M_square_110 rfl (am_sho (k := 1) (o := 2) hq (by decide) (by decide) (by decide) rfl) g2 rfl ?_
      generalize eL1 : am_u2 L (q + 2) (Int32.toNatClampNeg v3) (L (q + 2) (Int32.toNatClampNeg (24 + v3))) = L1
      have h := h L1 eL1.symm
      refine am_iinc (v := v3 + 1) (ls' := [some (.ref q), some (.int p1), none, some (.int (v3 + 1))]) (n := 114) d_M_square_111 rfl (congrArg _ ci_1) (by decide) rfl rfl ?_
      refine am_goto (tgt := 90) d_M_square_114 rfl ?_
      exact ih I L1 (v3 + 1)  h
def wl_M_square_59 (R : am_TR) (q : Nat) (p1 : Int32) (Q : Int32 → am_TI → am_TL → Prop)  : Nat → am_TI → am_TL → Int32 → Prop
  | 0 => fun _ _ _ => False
  | f59 + 1 => fun I L v3 => ((406 ≤ v3 → (∃ z, wl_M_square_90 R q p1 Q z I L 0)) ∧ (¬ 406 ≤ v3 → (vp_in (1624 + v3) 2258 ∧ (vp_in v3 2258 ∧ (∀ I5, I5 = am_u2 I (q + 1) (Int32.toNatClampNeg v3) (I (q + 1) (Int32.toNatClampNeg (1624 + v3))) → wl_M_square_59 R q p1 Q f59 I5 L (v3 + 1))))))
set_option maxRecDepth 20000 in
theorem tl_M_square_59 {d : Nat}  {R : am_TR} {q : Nat} {p1 : Int32} {Q : Int32 → am_TI → am_TL → Prop}  (hw : am_Wf R) (hq : am_SH[q]? = some (.inl 12)) (hd : 9 ≤ d) : ∀ (n : Nat) (I : am_TI) (L : am_TL) (v3 : Int32), wl_M_square_59 R q p1 Q  n I L v3 → am_Wp (d, "UnseenRingModel", b_M_square, 4, false) 0 0 59 [some (.ref q), some (.int p1), none, some (.int v3)] [] (I, L, R, am_SH) (po_M_square R Q) := by
  intro n
  induction n with
  | zero => intro I L v3 h; exact h.elim
  | succ n ih =>
    intro I L v3 h
    unfold wl_M_square_59 at h
    refine am_iload_n (n := 60) d_M_square_59 rfl rfl ?_
    refine am_sipush (n := 63) d_M_square_60 cs_406 rfl ?_
    refine am_icmp_ge (tgt := 88) (n := 66) d_M_square_63 rfl rfl (fun c4 => ?_) (fun c4 => ?_)
    · have h := h.1 c4
      refine am_iconst (n := 89) d_M_square_88 ci_0 rfl ?_
      refine am_istore_n (ls' := [some (.ref q), some (.int p1), none, some (.int 0)]) (n := 90) d_M_square_89 (by decide) rfl rfl ?_
      obtain ⟨n, h⟩ := h
      exact tl_M_square_90 hw hq hd n I L 0 h
    · have h := h.2 c4
      refine am_aload_n (n := 67) d_M_square_66 rfl rfl ?_
      refine am_getR (x := (q + 1)) (n := 70) f_M_7 d_M_square_67 rfl rfl hq (hw.1 q 12 0 1 hq rfl) ?_
      refine am_iload_n (n := 71) d_M_square_70 rfl rfl ?_
      refine am_aload_n (n := 72) d_M_square_71 rfl rfl ?_
      refine am_getR (x := (q + 1)) (n := 75) f_M_7 d_M_square_72 rfl rfl hq (hw.1 q 12 0 1 hq rfl) ?_
      refine am_sipush (n := 78) d_M_square_75 cs_1624 rfl ?_
      refine am_iload_n (n := 79) d_M_square_78 rfl rfl ?_
      refine am_iadd (n := 80) d_M_square_79 rfl ?_
      obtain ⟨g3, h⟩ := h
      refine am_iald2 (n := 81) d_M_square_80 rfl (am_sho (k := 0) (o := 1) hq (by decide) (by decide) (by decide) rfl) g3 rfl ?_
      obtain ⟨g4, h⟩ := h
      refine am_iast2 (n := 82) d_M_square_81 rfl (am_sho (k := 0) (o := 1) hq (by decide) (by decide) (by decide) rfl) g4 rfl ?_
      generalize eI5 : am_u2 I (q + 1) (Int32.toNatClampNeg v3) (I (q + 1) (Int32.toNatClampNeg (1624 + v3))) = I5
      have h := h I5 eI5.symm
      refine am_iinc (v := v3 + 1) (ls' := [some (.ref q), some (.int p1), none, some (.int (v3 + 1))]) (n := 85) d_M_square_82 rfl (congrArg _ ci_1) (by decide) rfl rfl ?_
      refine am_goto (tgt := 59) d_M_square_85 rfl ?_
      exact ih I5 L (v3 + 1)  h
def wb_M_square_50 (R : am_TR) (q : Nat) (p1 : Int32) (Q : Int32 → am_TI → am_TL → Prop)  (I : am_TI) (L : am_TL) : Prop := (((I q 18) = 0 → (∃ z, wl_M_square_59 R q p1 Q z I L 0)) ∧ (¬ (I q 18) = 0 → wb_M_square_117 R q p1 Q I L))
set_option maxRecDepth 20000 in
theorem tb_M_square_50 {d : Nat}  {R : am_TR} {q : Nat} {p1 : Int32} {Q : Int32 → am_TI → am_TL → Prop}  (hw : am_Wf R) (hq : am_SH[q]? = some (.inl 12)) (hd : 9 ≤ d) (I : am_TI) (L : am_TL) (h : wb_M_square_50 R q p1 Q  I L) : am_Wp (d, "UnseenRingModel", b_M_square, 4, false) 0 0 50 [some (.ref q), some (.int p1), none, none] [] (I, L, R, am_SH) (po_M_square R Q) := by
  unfold wb_M_square_50 at h
  refine am_aload_n (n := 51) d_M_square_50 rfl rfl ?_
  refine am_getI (n := 54) f_M_191 d_M_square_51 rfl rfl hq ?_
  refine am_if_ne (y := 0) (tgt := 117) (n := 57) d_M_square_54 rfl rfl (fun c3 => ?_) (fun c3 => ?_)
  · have h := h.2 c3
    exact tb_M_square_117 hw hq hd I L h
  · have h := h.1 c3
    refine am_iconst (n := 58) d_M_square_57 ci_0 rfl ?_
    refine am_istore_n (ls' := [some (.ref q), some (.int p1), none, some (.int 0)]) (n := 59) d_M_square_58 (by decide) rfl rfl ?_
    obtain ⟨n, h⟩ := h
    exact tl_M_square_59 hw hq hd n I L 0 h
def wl_M_square_31 (R : am_TR) (q : Nat) (p1 : Int32) (Q : Int32 → am_TI → am_TL → Prop)  : Nat → am_TI → am_TL → Bool → Prop
  | 0 => fun _ _ _ => False
  | f31 + 1 => fun I L v2 => ((v2 = false → wb_M_square_50 R q p1 Q I L) ∧ (v2 = true → (((I q 12) = 0 → wb_M_square_50 R q p1 Q I L) ∧ (¬ (I q 12) = 0 → wp_M_squarePart I L R q (fun (r3 : Bool) (I6 : am_TI) (L2 : am_TL) => wl_M_square_31 R q p1 Q f31 I6 L2 r3)))))
set_option maxRecDepth 20000 in
theorem tl_M_square_31 {d : Nat}  {R : am_TR} {q : Nat} {p1 : Int32} {Q : Int32 → am_TI → am_TL → Prop}  (hw : am_Wf R) (hq : am_SH[q]? = some (.inl 12)) (hd : 9 ≤ d) : ∀ (n : Nat) (I : am_TI) (L : am_TL) (v2 : Bool), wl_M_square_31 R q p1 Q  n I L v2 → am_Wp (d, "UnseenRingModel", b_M_square, 4, false) 0 0 31 [some (.ref q), some (.int p1), some (.int (am_b v2)), none] [] (I, L, R, am_SH) (po_M_square R Q) := by
  intro n
  induction n with
  | zero => intro I L v2 h; exact h.elim
  | succ n ih =>
    intro I L v2 h
    unfold wl_M_square_31 at h
    refine am_iload_n (n := 32) d_M_square_31 rfl rfl ?_
    refine am_if_eq (y := 0) (tgt := 50) (n := 35) d_M_square_32 rfl rfl (fun c2 => ?_) (fun c2 => ?_)
    · have h := h.1 (am_b_0 c2)
      refine am_forget (ls' := [some (.ref q), some (.int p1), none, none]) (am_le_s (am_le_s (am_le_n (am_le_n am_le_e)))) ?_
      exact tb_M_square_50 hw hq hd I L h
    · have h := h.2 (am_b_n0 c2)
      refine am_aload_n (n := 36) d_M_square_35 rfl rfl ?_
      refine am_getI (n := 39) f_M_166 d_M_square_36 rfl rfl hq ?_
      refine am_if_eq (y := 0) (tgt := 50) (n := 42) d_M_square_39 rfl rfl (fun c6 => ?_) (fun c6 => ?_)
      · have h := h.1 c6
        refine am_forget (ls' := [some (.ref q), some (.int p1), none, none]) (am_le_s (am_le_s (am_le_n (am_le_n am_le_e)))) ?_
        exact tb_M_square_50 hw hq hd I L h
      · have h := h.2 c6
        refine am_aload_n (n := 43) d_M_square_42 rfl rfl ?_
        refine am_callV (kc := 0) (ks := 0) (As := []) (n := 46) d_M_square_43 rfl ce_M_squarePart lk_M_276 in_M_squarePart rfl rfl hq rfl rfl (Nat.le_of_ble_eq_true rfl) (Or.inl rfl) (cm_M_squarePart (d := d - 1) hw (by omega) hq h) (by omega) ?_
        rintro _ _ ⟨r3, I6, L2, rfl, rfl, h⟩
        show am_Wp (d, "UnseenRingModel", b_M_square, 4, false) 0 0 46 [some (.ref q), some (.int p1), some (.int (am_b v2)), none] [.int (am_b r3)] (I6, L2, R, am_SH) (po_M_square R Q)
        refine am_istore_n (ls' := [some (.ref q), some (.int p1), some (.int (am_b r3)), none]) (n := 47) d_M_square_46 (by decide) rfl rfl ?_
        refine am_goto (tgt := 31) d_M_square_47 rfl ?_
        exact ih I6 L2 r3  h
def wp_M_square (I : am_TI) (L : am_TL) (R : am_TR) (q : Nat) (p1 : Int32)  (Q : Int32 → am_TI → am_TL → Prop) : Prop := wp_M_begins I L R q p1 900 (fun (r1 : Bool) (I1 : am_TI) => ((r1 = false → wp_M_refuse I1 L R q 1 (fun (r4 : Int32) (I7 : am_TI) => Q r4 I7 L)) ∧ (r1 = true → wp_M_plain I1 L R q 1624 (fun (I2 : am_TI) => (∀ I3, I3 = am_u2 I2 q 20 0 → (∃ z, wl_M_square_31 R q p1 Q z I3 L true))))))
set_option maxRecDepth 20000 in
theorem cm_M_square {d : Nat} {I : am_TI} {L : am_TL} {R : am_TR}  (hw : am_Wf R)   {q : Nat} {p1 : Int32} {Q : Int32 → am_TI → am_TL → Prop} (hd : 9 ≤ d) (hq : am_SH[q]? = some (.inl 12)) (h : wp_M_square I L R q p1  Q) : am_Cm d 0 0 y_M_square b_M_square 4 (some .int) [.ref q, .int p1] (I, L, R, am_SH) (po_M_square R Q) := by
  refine am_Cm_of (ini := false) (by decide +kernel) (fun z => by cases z) (by simp [Value.category]) (fun r σ' z => by obtain ⟨x, _, _, rfl, -⟩ := z; exact ⟨_, rfl, rfl⟩) ?_
  unfold wp_M_square at h
  show am_Wp (d, "UnseenRingModel", b_M_square, 4, false) 0 0 0 [some (.ref q), some (.int p1), none, none] [] (I, L, R, am_SH) (po_M_square R Q)
  refine am_aload_n (n := 1) d_M_square_0 rfl rfl ?_
  refine am_iload_n (n := 2) d_M_square_1 rfl rfl ?_
  refine am_sipush (n := 5) d_M_square_2 cs_900 rfl ?_
  refine am_callV (kc := 0) (ks := 0) (As := [.int p1, .int 900]) (n := 8) d_M_square_5 rfl ce_M_begins lk_M_273 in_M_begins rfl rfl hq rfl rfl (Nat.le_of_ble_eq_true rfl) (Or.inl rfl) (cm_M_begins (d := d - 1) hw (by omega) hq h) (by omega) ?_
  rintro _ _ ⟨r1, I1, rfl, rfl, h⟩
  show am_Wp (d, "UnseenRingModel", b_M_square, 4, false) 0 0 8 [some (.ref q), some (.int p1), none, none] [.int (am_b r1)] (I1, L, R, am_SH) (po_M_square R Q)
  refine am_if_ne (y := 0) (tgt := 17) (n := 11) d_M_square_8 rfl rfl (fun c1 => ?_) (fun c1 => ?_)
  · have h := h.2 (am_b_n0 c1)
    refine am_aload_n (n := 18) d_M_square_17 rfl rfl ?_
    refine am_sipush (n := 21) d_M_square_18 cs_1624 rfl ?_
    refine am_callV (kc := 0) (ks := 0) (As := [.int 1624]) (n := 24) d_M_square_21 rfl ce_M_plain lk_M_111 in_M_plain rfl rfl hq rfl rfl (Nat.le_of_ble_eq_true rfl) (Or.inl rfl) (cm_M_plain (d := d - 1) hw (by omega) hq h) (by omega) ?_
    rintro _ _ ⟨I2, rfl, rfl, h⟩
    show am_Wp (d, "UnseenRingModel", b_M_square, 4, false) 0 0 24 [some (.ref q), some (.int p1), none, none] [] (I2, L, R, am_SH) (po_M_square R Q)
    refine am_aload_n (n := 25) d_M_square_24 rfl rfl ?_
    refine am_iconst (n := 26) d_M_square_25 ci_0 rfl ?_
    refine am_putI (n := 29) f_M_254 d_M_square_26 rfl ⟨_, rfl, Or.inl rfl⟩ rfl rfl hq ?_
    generalize eI3 : am_u2 I2 q 20 0 = I3
    have h := h I3 eI3.symm
    refine am_iconst (n := 30) d_M_square_29 ci_1 rfl ?_
    refine am_istore_n (ls' := [some (.ref q), some (.int p1), some (.int 1), none]) (n := 31) d_M_square_30 (by decide) rfl rfl ?_
    obtain ⟨n, h⟩ := h
    exact tl_M_square_31 hw hq hd n I3 L true h
  · have h := h.1 (am_b_0 c1)
    refine am_aload_n (n := 12) d_M_square_11 rfl rfl ?_
    refine am_iconst (n := 13) d_M_square_12 ci_1 rfl ?_
    refine am_callV (kc := 0) (ks := 0) (As := [.int 1]) (n := 16) d_M_square_13 rfl ce_M_refuse lk_M_121 in_M_refuse rfl rfl hq rfl rfl (Nat.le_of_ble_eq_true rfl) (Or.inl rfl) (cm_M_refuse (d := d - 1) hw (by omega) hq h) (by omega) ?_
    rintro _ _ ⟨r4, I7, rfl, rfl, h⟩
    show am_Wp (d, "UnseenRingModel", b_M_square, 4, false) 0 0 16 [some (.ref q), some (.int p1), none, none] [.int r4] (I7, L, R, am_SH) (po_M_square R Q)
    exact am_iret d_M_square_16 ⟨r4, I7, L, rfl, rfl, h⟩
abbrev po_M_cellTo (L : am_TL) (R : am_TR) (Q : Bool → am_TI → Prop) : Option Value → am_St → Prop := fun r σ' => ∃ (x : Bool) (I' : am_TI), r = some (.int (am_b x)) ∧ σ' = (I', L, R, am_SH) ∧ Q x I'
def wp_M_cellTo (I : am_TI) (L : am_TL) (R : am_TR) (q : Nat) (p1 : Int32)  (Q : Bool → am_TI → Prop) : Prop := wp_M_cellsOf I L R q 0 (fun (r1 : Int32) => wp_M_number I L R q p1 0 (r1 - 1) (fun (r2 : Bool) (I1 : am_TI) => Q r2 I1))
set_option maxRecDepth 20000 in
theorem cm_M_cellTo {d : Nat} {I : am_TI} {L : am_TL} {R : am_TR}  (hw : am_Wf R)   {q : Nat} {p1 : Int32} {Q : Bool → am_TI → Prop} (hd : 3 ≤ d) (hq : am_SH[q]? = some (.inl 12)) (h : wp_M_cellTo I L R q p1  Q) : am_Cm d 0 0 y_M_cellTo b_M_cellTo 2 (some .boolean) [.ref q, .int p1] (I, L, R, am_SH) (po_M_cellTo L R Q) := by
  refine am_Cm_of (ini := false) (by decide +kernel) (fun z => by cases z) (by simp [Value.category]) (fun r σ' z => by obtain ⟨x, _, rfl, -⟩ := z; exact ⟨_, rfl, am_b_nar x⟩) ?_
  unfold wp_M_cellTo at h
  show am_Wp (d, "UnseenRingModel", b_M_cellTo, 2, false) 0 0 0 [some (.ref q), some (.int p1)] [] (I, L, R, am_SH) (po_M_cellTo L R Q)
  refine am_aload_n (n := 1) d_M_cellTo_0 rfl rfl ?_
  refine am_iload_n (n := 2) d_M_cellTo_1 rfl rfl ?_
  refine am_iconst (n := 3) d_M_cellTo_2 ci_0 rfl ?_
  refine am_aload_n (n := 4) d_M_cellTo_3 rfl rfl ?_
  refine am_iconst (n := 5) d_M_cellTo_4 ci_0 rfl ?_
  refine am_callV (kc := 0) (ks := 0) (As := [.int 0]) (n := 8) d_M_cellTo_5 rfl ce_M_cellsOf lk_M_223 in_M_cellsOf rfl rfl hq rfl rfl (Nat.le_of_ble_eq_true rfl) (Or.inl rfl) (cm_M_cellsOf (d := d - 1) hw (by omega) hq h) (by omega) ?_
  rintro _ _ ⟨r1, rfl, rfl, h⟩
  show am_Wp (d, "UnseenRingModel", b_M_cellTo, 2, false) 0 0 8 [some (.ref q), some (.int p1)] [.int r1, .int 0, .int p1, .ref q] (I, L, R, am_SH) (po_M_cellTo L R Q)
  refine am_iconst (n := 9) d_M_cellTo_8 ci_1 rfl ?_
  refine am_isub (n := 10) d_M_cellTo_9 rfl ?_
  refine am_callV (kc := 0) (ks := 0) (As := [.int p1, .int 0, .int (r1 - 1)]) (n := 13) d_M_cellTo_10 rfl ce_M_number lk_M_219 in_M_number rfl rfl hq rfl rfl (Nat.le_of_ble_eq_true rfl) (Or.inl rfl) (cm_M_number (d := d - 1) hw (by omega) hq h) (by omega) ?_
  rintro _ _ ⟨r2, I1, rfl, rfl, h⟩
  show am_Wp (d, "UnseenRingModel", b_M_cellTo, 2, false) 0 0 13 [some (.ref q), some (.int p1)] [.int (am_b r2)] (I1, L, R, am_SH) (po_M_cellTo L R Q)
  exact am_iret d_M_cellTo_13 ⟨r2, I1, rfl, rfl, h⟩
abbrev po_M_hearerTo (L : am_TL) (R : am_TR) (Q : Bool → am_TI → Prop) : Option Value → am_St → Prop := fun r σ' => ∃ (x : Bool) (I' : am_TI), r = some (.int (am_b x)) ∧ σ' = (I', L, R, am_SH) ∧ Q x I'
def wp_M_hearerTo (I : am_TI) (L : am_TL) (R : am_TR) (q : Nat) (p1 : Int32)  (Q : Bool → am_TI → Prop) : Prop := wp_M_number I L R q p1 0 ((I (q + 1) 3) - 1) (fun (r1 : Bool) (I1 : am_TI) => Q r1 I1)
set_option maxRecDepth 20000 in
theorem cm_M_hearerTo {d : Nat} {I : am_TI} {L : am_TL} {R : am_TR}  (hw : am_Wf R)   {q : Nat} {p1 : Int32} {Q : Bool → am_TI → Prop} (hd : 3 ≤ d) (hq : am_SH[q]? = some (.inl 12)) (h : wp_M_hearerTo I L R q p1  Q) : am_Cm d 0 0 y_M_hearerTo b_M_hearerTo 2 (some .boolean) [.ref q, .int p1] (I, L, R, am_SH) (po_M_hearerTo L R Q) := by
  refine am_Cm_of (ini := false) (by decide +kernel) (fun z => by cases z) (by simp [Value.category]) (fun r σ' z => by obtain ⟨x, _, rfl, -⟩ := z; exact ⟨_, rfl, am_b_nar x⟩) ?_
  unfold wp_M_hearerTo at h
  show am_Wp (d, "UnseenRingModel", b_M_hearerTo, 2, false) 0 0 0 [some (.ref q), some (.int p1)] [] (I, L, R, am_SH) (po_M_hearerTo L R Q)
  refine am_aload_n (n := 1) d_M_hearerTo_0 rfl rfl ?_
  refine am_iload_n (n := 2) d_M_hearerTo_1 rfl rfl ?_
  refine am_iconst (n := 3) d_M_hearerTo_2 ci_0 rfl ?_
  refine am_aload_n (n := 4) d_M_hearerTo_3 rfl rfl ?_
  refine am_getR (x := (q + 1)) (n := 7) f_M_7 d_M_hearerTo_4 rfl rfl hq (hw.1 q 12 0 1 hq rfl) ?_
  refine am_iconst (n := 8) d_M_hearerTo_7 ci_3 rfl ?_
  refine am_iald2 (n := 9) d_M_hearerTo_8 rfl (am_sho (k := 0) (o := 1) hq (by decide) (by decide) (by decide) rfl) cx_3_2258 cn_3 ?_
  refine am_iconst (n := 10) d_M_hearerTo_9 ci_1 rfl ?_
  refine am_isub (n := 11) d_M_hearerTo_10 rfl ?_
  refine am_callV (kc := 0) (ks := 0) (As := [.int p1, .int 0, .int ((I (q + 1) 3) - 1)]) (n := 14) d_M_hearerTo_11 rfl ce_M_number lk_M_219 in_M_number rfl rfl hq rfl rfl (Nat.le_of_ble_eq_true rfl) (Or.inl rfl) (cm_M_number (d := d - 1) hw (by omega) hq h) (by omega) ?_
  rintro _ _ ⟨r1, I1, rfl, rfl, h⟩
  show am_Wp (d, "UnseenRingModel", b_M_hearerTo, 2, false) 0 0 14 [some (.ref q), some (.int p1)] [.int (am_b r1)] (I1, L, R, am_SH) (po_M_hearerTo L R Q)
  exact am_iret d_M_hearerTo_14 ⟨r1, I1, rfl, rfl, h⟩
