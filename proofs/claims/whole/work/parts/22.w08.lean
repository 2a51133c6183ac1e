abbrev po_M_laysGather (L : am_TL) (R : am_TR) (Q : Int32 → am_TI → Prop) : Option Value → am_St → Prop := fun r σ' => ∃ (x : Int32) (I' : am_TI), r = some (.int x) ∧ σ' = (I', L, R, am_SH) ∧ Q x I'
def wl_M_laysGather_108 (L : am_TL) (R : am_TR) (q : Nat) (p1 : Int32) (Q : Int32 → am_TI → Prop) (K89 : am_TI → Int32 → Int32 → Int32 → Prop) : Nat → am_TI → Int32 → Int32 → Int32 → Int32 → Prop
  | 0 => fun _ _ _ _ _ => False
  | f108 + 1 => fun I v2 v3 v4 v5 => (((I (q + 1) 2) ≤ v5 → K89 I v2 v3 (v4 + 1)) ∧ (¬ (I (q + 1) 2) ≤ v5 → wp_M_behindTune I L R q v4 v5 (fun (r1 : Int32) => ((r1 = v4 → wl_M_laysGather_108 L R q p1 Q K89 f108 I v2 v3 v4 (v5 + 1)) ∧ (¬ r1 = v4 → (vp_in v4 729 ∧ (vp_in r1 729 ∧ (vp_in v4 729 ∧ (∀ I4, I4 = am_u2 I (q + 9) (Int32.toNatClampNeg v4) (am_min (I (q + 9) (Int32.toNatClampNeg v4)) (1 + (I (q + 9) (Int32.toNatClampNeg r1)))) → wl_M_laysGather_108 L R q p1 Q K89 f108 I4 v2 v3 v4 (v5 + 1))))))))))
set_option maxRecDepth 20000 in
theorem tl_M_laysGather_108 {d : Nat}  {L : am_TL} {R : am_TR} {q : Nat} {p1 : Int32} {Q : Int32 → am_TI → Prop} {K89 : am_TI → Int32 → Int32 → Int32 → Prop} (hw : am_Wf R) (hq : am_SH[q]? = some (.inl 12)) (hK89 : ∀ (I : am_TI) (v2 : Int32) (v3 : Int32) (v4 : Int32), K89 I v2 v3 v4 → am_Wp (d, "UnseenRingModel", b_M_laysGather, 7, false) 0 0 89 [some (.ref q), some (.int p1), some (.int v2), some (.int v3), some (.int v4), none, none] [] (I, L, R, am_SH) (po_M_laysGather L R Q)) (hd : 3 ≤ d) : ∀ (n : Nat) (I : am_TI) (v2 : Int32) (v3 : Int32) (v4 : Int32) (v5 : Int32), wl_M_laysGather_108 L R q p1 Q K89 n I v2 v3 v4 v5 → am_Wp (d, "UnseenRingModel", b_M_laysGather, 7, false) 0 0 108 [some (.ref q), some (.int p1), some (.int v2), some (.int v3), some (.int v4), some (.int v5), none] [] (I, L, R, am_SH) (po_M_laysGather L R Q) := by
  intro n
  induction n with
  | zero => intro I v2 v3 v4 v5 h; exact h.elim
  | succ n ih =>
    intro I v2 v3 v4 v5 h
    unfold wl_M_laysGather_108 at h
    refine am_iload (n := 110) d_M_laysGather_108 rfl rfl ?_
    refine am_aload_n (n := 111) d_M_laysGather_110 rfl rfl ?_
    refine am_getR (x := (q + 1)) (n := 114) f_M_7 d_M_laysGather_111 rfl rfl hq (hw.1 q 12 0 1 hq rfl) ?_
    refine am_iconst (n := 115) d_M_laysGather_114 ci_2 rfl ?_
    refine am_iald2 (n := 116) d_M_laysGather_115 rfl (am_sho (k := 0) (o := 1) hq (by decide) (by decide) (by decide) rfl) cx_2_2258 cn_2 ?_
    refine am_icmp_ge (tgt := 168) (n := 119) d_M_laysGather_116 rfl rfl (fun c3 => ?_) (fun c3 => ?_)
    · have h := h.1 c3
      refine am_iinc (v := v4 + 1) (ls' := [some (.ref q), some (.int p1), some (.int v2), some (.int v3), some (.int (v4 + 1)), some (.int v5), none]) (n := 171) d_M_laysGather_168 rfl (congrArg _ ci_1) (by decide) rfl rfl ?_
      refine am_goto (tgt := 89) d_M_laysGather_171 rfl ?_
      refine am_forget (ls' := [some (.ref q), some (.int p1), some (.int v2), some (.int v3), some (.int (v4 + 1)), none, none]) (am_le_s (am_le_s (am_le_s (am_le_s (am_le_s (am_le_n (am_le_n am_le_e))))))) ?_
      exact hK89 I v2 v3 (v4 + 1)  h
    · have h := h.2 c3
      refine am_aload_n (n := 120) d_M_laysGather_119 rfl rfl ?_
      refine am_iload (n := 122) d_M_laysGather_120 rfl rfl ?_
      refine am_iload (n := 124) d_M_laysGather_122 rfl rfl ?_
      refine am_callV (kc := 0) (ks := 0) (As := [.int v4, .int v5]) (n := 127) d_M_laysGather_124 rfl ce_M_behindTune lk_M_393 in_M_behindTune rfl rfl hq rfl rfl (Nat.le_of_ble_eq_true rfl) (Or.inl rfl) (cm_M_behindTune (d := d - 1) hw (by omega) hq h) (by omega) ?_
      rintro _ _ ⟨r1, rfl, rfl, h⟩
      show am_Wp (d, "UnseenRingModel", b_M_laysGather, 7, false) 0 0 127 [some (.ref q), some (.int p1), some (.int v2), some (.int v3), some (.int v4), some (.int v5), none] [.int r1] (I, L, R, am_SH) (po_M_laysGather L R Q)
      refine am_istore (ls' := [some (.ref q), some (.int p1), some (.int v2), some (.int v3), some (.int v4), some (.int v5), some (.int r1)]) (n := 129) d_M_laysGather_127 (by decide) rfl rfl ?_
      refine am_iload (n := 131) d_M_laysGather_129 rfl rfl ?_
      refine am_iload (n := 133) d_M_laysGather_131 rfl rfl ?_
      refine am_icmp_eq (tgt := 162) (n := 136) d_M_laysGather_133 rfl rfl (fun c4 => ?_) (fun c4 => ?_)
      · have h := h.1 c4
        refine am_iinc (v := v5 + 1) (ls' := [some (.ref q), some (.int p1), some (.int v2), some (.int v3), some (.int v4), some (.int (v5 + 1)), some (.int r1)]) (n := 165) d_M_laysGather_162 rfl (congrArg _ ci_1) (by decide) rfl rfl ?_
        refine am_goto (tgt := 108) d_M_laysGather_165 rfl ?_
        refine am_forget (ls' := [some (.ref q), some (.int p1), some (.int v2), some (.int v3), some (.int v4), some (.int (v5 + 1)), none]) (am_le_s (am_le_s (am_le_s (am_le_s (am_le_s (am_le_s (am_le_n am_le_e))))))) ?_
        exact ih I v2 v3 v4 (v5 + 1)  h
      · have h := h.2 c4
        refine am_aload_n (n := 137) d_M_laysGather_136 rfl rfl ?_
        refine am_getR (x := (q + 9)) (n := 140) f_M_47 d_M_laysGather_137 rfl rfl hq (hw.1 q 12 24 9 hq rfl) ?_
        refine am_iload (n := 142) d_M_laysGather_140 rfl rfl ?_
        refine am_aload_n (n := 143) d_M_laysGather_142 rfl rfl ?_
        refine am_getR (x := (q + 9)) (n := 146) f_M_47 d_M_laysGather_143 rfl rfl hq (hw.1 q 12 24 9 hq rfl) ?_
        refine am_iload (n := 148) d_M_laysGather_146 rfl rfl ?_
        obtain ⟨g2, h⟩ := h
        refine am_iald2 (n := 149) d_M_laysGather_148 rfl (am_sho (k := 24) (o := 9) hq (by decide) (by decide) (by decide) rfl) g2 rfl ?_
        refine am_iconst (n := 150) d_M_laysGather_149 ci_1 rfl ?_
        refine am_aload_n (n := 151) d_M_laysGather_150 rfl rfl ?_
        refine am_getR (x := (q + 9)) (n := 154) f_M_47 d_M_laysGather_151 rfl rfl hq (hw.1 q 12 24 9 hq rfl) ?_
        refine am_iload (n := 156) d_M_laysGather_154 rfl rfl ?_
        obtain ⟨g3, h⟩ := h
        refine am_iald2 (n := 157) d_M_laysGather_156 rfl (am_sho (k := 24) (o := 9) hq (by decide) (by decide) (by decide) rfl) g3 rfl ?_
        refine am_iadd (n := 158) d_M_laysGather_157 rfl ?_
        refine am_mmin2 (n := 161) d_M_laysGather_158 rfl lm_M_176 (Nat.le_of_ble_eq_true rfl) (by omega) ?_
        obtain ⟨g4, h⟩ := h
        refine am_iast2 (n := 162) d_M_laysGather_161 rfl (am_sho (k := 24) (o := 9) hq (by decide) (by decide) (by decide) rfl) g4 rfl ?_
        generalize eI4 : am_u2 I (q + 9) (Int32.toNatClampNeg v4) (am_min (I (q + 9) (Int32.toNatClampNeg v4)) (1 + (I (q + 9) (Int32.toNatClampNeg r1)))) = I4
        have h := h I4 eI4.symm
        refine am_iinc (v := v5 + 1) (ls' := [some (.ref q), some (.int p1), some (.int v2), some (.int v3), some (.int v4), some (.int (v5 + 1)), some (.int r1)]) (n := 165) d_M_laysGather_162 rfl (congrArg _ ci_1) (by decide) rfl rfl ?_
        refine am_goto (tgt := 108) d_M_laysGather_165 rfl ?_
        refine am_forget (ls' := [some (.ref q), some (.int p1), some (.int v2), some (.int v3), some (.int v4), some (.int (v5 + 1)), none]) (am_le_s (am_le_s (am_le_s (am_le_s (am_le_s (am_le_s (am_le_n am_le_e))))))) ?_
        exact ih I4 v2 v3 v4 (v5 + 1)  h
def wl_M_laysGather_89 (L : am_TL) (R : am_TR) (q : Nat) (p1 : Int32) (Q : Int32 → am_TI → Prop)  : Nat → am_TI → Int32 → Int32 → Int32 → Prop
  | 0 => fun _ _ _ _ => False
  | f89 + 1 => fun I v2 v3 v4 => ((v3 ≤ v4 → Q v2 I) ∧ (¬ v3 ≤ v4 → (vp_in v4 729 ∧ (∀ I3, I3 = am_u2 I (q + 9) (Int32.toNatClampNeg v4) 1000000 → (∃ z, wl_M_laysGather_108 L R q p1 Q (wl_M_laysGather_89 L R q p1 Q f89) z I3 v2 v3 v4 0)))))
set_option maxRecDepth 20000 in
theorem tl_M_laysGather_89 {d : Nat}  {L : am_TL} {R : am_TR} {q : Nat} {p1 : Int32} {Q : Int32 → am_TI → Prop}  (hw : am_Wf R) (hq : am_SH[q]? = some (.inl 12)) (hd : 3 ≤ d) : ∀ (n : Nat) (I : am_TI) (v2 : Int32) (v3 : Int32) (v4 : Int32), wl_M_laysGather_89 L R q p1 Q  n I v2 v3 v4 → am_Wp (d, "UnseenRingModel", b_M_laysGather, 7, false) 0 0 89 [some (.ref q), some (.int p1), some (.int v2), some (.int v3), some (.int v4), none, none] [] (I, L, R, am_SH) (po_M_laysGather L R Q) := by
  intro n
  induction n with
  | zero => intro I v2 v3 v4 h; exact h.elim
  | succ n ih =>
    intro I v2 v3 v4 h
    unfold wl_M_laysGather_89 at h
    refine am_iload (n := 91) d_M_laysGather_89 rfl rfl ?_
    refine am_iload_n (n := 92) d_M_laysGather_91 rfl rfl ?_
    refine am_icmp_ge (tgt := 174) (n := 95) d_M_laysGather_92 rfl rfl (fun c2 => ?_) (fun c2 => ?_)
    · have h := h.1 c2
      refine am_iload_n (n := 175) d_M_laysGather_174 rfl rfl ?_
      exact am_iret d_M_laysGather_175 ⟨v2, I, rfl, rfl, h⟩
    · have h := h.2 c2
      refine am_aload_n (n := 96) d_M_laysGather_95 rfl rfl ?_
      refine am_getR (x := (q + 9)) (n := 99) f_M_47 d_M_laysGather_96 rfl rfl hq (hw.1 q 12 24 9 hq rfl) ?_
      refine am_iload (n := 101) d_M_laysGather_99 rfl rfl ?_
      refine am_ldcw (n := 104) d_M_laysGather_101 k_M_392 rfl ?_
      obtain ⟨g1, h⟩ := h
      refine am_iast2 (n := 105) d_M_laysGather_104 rfl (am_sho (k := 24) (o := 9) hq (by decide) (by decide) (by decide) rfl) g1 rfl ?_
      generalize eI3 : am_u2 I (q + 9) (Int32.toNatClampNeg v4) 1000000 = I3
      have h := h I3 eI3.symm
      refine am_iconst (n := 106) d_M_laysGather_105 ci_0 rfl ?_
      refine am_istore (ls' := [some (.ref q), some (.int p1), some (.int v2), some (.int v3), some (.int v4), some (.int 0), none]) (n := 108) d_M_laysGather_106 (by decide) rfl rfl ?_
      obtain ⟨n, h⟩ := h
      exact tl_M_laysGather_108 hw hq ih hd n I3 v2 v3 v4 0 h
def wl_M_laysGather_12 (L : am_TL) (R : am_TR) (q : Nat) (p1 : Int32) (Q : Int32 → am_TI → Prop)  : Nat → am_TI → Int32 → Int32 → Int32 → Prop
  | 0 => fun _ _ _ _ => False
  | f12 + 1 => fun I v2 v3 v4 => (((I (q + 1) 3) ≤ v4 → (∀ I2, I2 = am_u2 I (q + 9) 0 0 → (∃ z, wl_M_laysGather_89 L R q p1 Q z I2 v2 v3 1))) ∧ (¬ (I (q + 1) 3) ≤ v4 → wp_M_isIn I L R q p1 v4 (fun (r2 : Bool) => ((r2 = false → wl_M_laysGather_12 L R q p1 Q f12 I v2 v3 (v4 + 1)) ∧ (r2 = true → wp_M_farOf I L R q v4 (fun (r3 : Int32) => (vp_in (I q 26) 3 ∧ (∀ I5, I5 = am_u2 I (q + 10) (Int32.toNatClampNeg (I q 26)) v4 → (∀ I6, I6 = am_u2 I5 q 26 ((I5 q 26) + 1) → wl_M_laysGather_12 L R q p1 Q f12 I6 (v2 + (v3 * r3)) (v3 * 9) (v4 + 1))))))))))
set_option maxRecDepth 20000 in
theorem tl_M_laysGather_12 {d : Nat}  {L : am_TL} {R : am_TR} {q : Nat} {p1 : Int32} {Q : Int32 → am_TI → Prop}  (hw : am_Wf R) (hq : am_SH[q]? = some (.inl 12)) (hd : 3 ≤ d) : ∀ (n : Nat) (I : am_TI) (v2 : Int32) (v3 : Int32) (v4 : Int32), wl_M_laysGather_12 L R q p1 Q  n I v2 v3 v4 → am_Wp (d, "UnseenRingModel", b_M_laysGather, 7, false) 0 0 12 [some (.ref q), some (.int p1), some (.int v2), some (.int v3), some (.int v4), none, none] [] (I, L, R, am_SH) (po_M_laysGather L R Q) := by
  intro n
  induction n with
  | zero => intro I v2 v3 v4 h; exact h.elim
  | succ n ih =>
    intro I v2 v3 v4 h
    unfold wl_M_laysGather_12 at h
    refine am_iload (n := 14) d_M_laysGather_12 rfl rfl ?_
    refine am_aload_n (n := 15) d_M_laysGather_14 rfl rfl ?_
    refine am_getR (x := (q + 1)) (n := 18) f_M_7 d_M_laysGather_15 rfl rfl hq (hw.1 q 12 0 1 hq rfl) ?_
    refine am_iconst (n := 19) d_M_laysGather_18 ci_3 rfl ?_
    refine am_iald2 (n := 20) d_M_laysGather_19 rfl (am_sho (k := 0) (o := 1) hq (by decide) (by decide) (by decide) rfl) cx_3_2258 cn_3 ?_
    refine am_icmp_ge (tgt := 79) (n := 23) d_M_laysGather_20 rfl rfl (fun c1 => ?_) (fun c1 => ?_)
    · have h := h.1 c1
      refine am_aload_n (n := 80) d_M_laysGather_79 rfl rfl ?_
      refine am_getR (x := (q + 9)) (n := 83) f_M_47 d_M_laysGather_80 rfl rfl hq (hw.1 q 12 24 9 hq rfl) ?_
      refine am_iconst (n := 84) d_M_laysGather_83 ci_0 rfl ?_
      refine am_iconst (n := 85) d_M_laysGather_84 ci_0 rfl ?_
      refine am_iast2 (n := 86) d_M_laysGather_85 rfl (am_sho (k := 24) (o := 9) hq (by decide) (by decide) (by decide) rfl) cx_0_729 cn_0 ?_
      generalize eI2 : am_u2 I (q + 9) 0 0 = I2
      have h := h I2 eI2.symm
      refine am_iconst (n := 87) d_M_laysGather_86 ci_1 rfl ?_
      refine am_istore (ls' := [some (.ref q), some (.int p1), some (.int v2), some (.int v3), some (.int 1), none, none]) (n := 89) d_M_laysGather_87 (by decide) rfl rfl ?_
      obtain ⟨n, h⟩ := h
      exact tl_M_laysGather_89 hw hq hd n I2 v2 v3 1 h
    · have h := h.2 c1
      refine am_aload_n (n := 24) d_M_laysGather_23 rfl rfl ?_
      refine am_iload_n (n := 25) d_M_laysGather_24 rfl rfl ?_
      refine am_iload (n := 27) d_M_laysGather_25 rfl rfl ?_
      refine am_callV (kc := 0) (ks := 0) (As := [.int p1, .int v4]) (n := 30) d_M_laysGather_27 rfl ce_M_isIn lk_M_251 in_M_isIn rfl rfl hq rfl rfl (Nat.le_of_ble_eq_true rfl) (Or.inl rfl) (cm_M_isIn (d := d - 1) hw (by omega) hq h) (by omega) ?_
      rintro _ _ ⟨r2, rfl, rfl, h⟩
      show am_Wp (d, "UnseenRingModel", b_M_laysGather, 7, false) 0 0 30 [some (.ref q), some (.int p1), some (.int v2), some (.int v3), some (.int v4), none, none] [.int (am_b r2)] (I, L, R, am_SH) (po_M_laysGather L R Q)
      refine am_if_ne (y := 0) (tgt := 36) (n := 33) d_M_laysGather_30 rfl rfl (fun c5 => ?_) (fun c5 => ?_)
      · have h := h.2 (am_b_n0 c5)
        refine am_iload_n (n := 37) d_M_laysGather_36 rfl rfl ?_
        refine am_iload_n (n := 38) d_M_laysGather_37 rfl rfl ?_
        refine am_aload_n (n := 39) d_M_laysGather_38 rfl rfl ?_
        refine am_iload (n := 41) d_M_laysGather_39 rfl rfl ?_
        refine am_callV (kc := 0) (ks := 0) (As := [.int v4]) (n := 44) d_M_laysGather_41 rfl ce_M_farOf lk_M_331 in_M_farOf rfl rfl hq rfl rfl (Nat.le_of_ble_eq_true rfl) (Or.inl rfl) (cm_M_farOf (d := d - 1) hw (by omega) hq h) (by omega) ?_
        rintro _ _ ⟨r3, rfl, rfl, h⟩
        show am_Wp (d, "UnseenRingModel", b_M_laysGather, 7, false) 0 0 44 [some (.ref q), some (.int p1), some (.int v2), some (.int v3), some (.int v4), none, none] [.int r3, .int v3, .int v2] (I, L, R, am_SH) (po_M_laysGather L R Q)
        refine am_imul (n := 45) d_M_laysGather_44 rfl ?_
        refine am_iadd (n := 46) d_M_laysGather_45 rfl ?_
        refine am_istore_n (ls' := [some (.ref q), some (.int p1), some (.int (v2 + (v3 * r3))), some (.int v3), some (.int v4), none, none]) (n := 47) d_M_laysGather_46 (by decide) rfl rfl ?_
        refine am_iload_n (n := 48) d_M_laysGather_47 rfl rfl ?_
        refine am_bipush (n := 50) d_M_laysGather_48 cb_9 rfl ?_
        refine am_imul (n := 51) d_M_laysGather_50 rfl ?_
        refine am_istore_n (ls' := [some (.ref q), some (.int p1), some (.int (v2 + (v3 * r3))), some (.int (v3 * 9)), some (.int v4), none, none]) (n := 52) d_M_laysGather_51 (by decide) rfl rfl ?_
        refine am_aload_n (n := 53) d_M_laysGather_52 rfl rfl ?_
        refine am_getR (x := (q + 10)) (n := 56) f_M_50 d_M_laysGather_53 rfl rfl hq (hw.1 q 12 25 10 hq rfl) ?_
        refine am_aload_n (n := 57) d_M_laysGather_56 rfl rfl ?_
        refine am_getI (n := 60) f_M_389 d_M_laysGather_57 rfl rfl hq ?_
        refine am_iload (n := 62) d_M_laysGather_60 rfl rfl ?_
        obtain ⟨g5, h⟩ := h
        refine am_iast2 (n := 63) d_M_laysGather_62 rfl (am_sho (k := 25) (o := 10) hq (by decide) (by decide) (by decide) rfl) g5 rfl ?_
        generalize eI5 : am_u2 I (q + 10) (Int32.toNatClampNeg (I q 26)) v4 = I5
        have h := h I5 eI5.symm
        refine am_aload_n (n := 64) d_M_laysGather_63 rfl rfl ?_
        refine am_dup (n := 65) d_M_laysGather_64 rfl rfl ?_
        refine am_getI (n := 68) f_M_389 d_M_laysGather_65 rfl rfl hq ?_
        refine am_iconst (n := 69) d_M_laysGather_68 ci_1 rfl ?_
        refine am_iadd (n := 70) d_M_laysGather_69 rfl ?_
        refine am_putI (n := 73) f_M_389 d_M_laysGather_70 rfl ⟨_, rfl, Or.inl rfl⟩ rfl rfl hq ?_
        generalize eI6 : am_u2 I5 q 26 ((I5 q 26) + 1) = I6
        have h := h I6 eI6.symm
        refine am_iinc (v := v4 + 1) (ls' := [some (.ref q), some (.int p1), some (.int (v2 + (v3 * r3))), some (.int (v3 * 9)), some (.int (v4 + 1)), none, none]) (n := 76) d_M_laysGather_73 rfl (congrArg _ ci_1) (by decide) rfl rfl ?_
        refine am_goto (tgt := 12) d_M_laysGather_76 rfl ?_
        exact ih I6 (v2 + (v3 * r3)) (v3 * 9) (v4 + 1)  h
      · have h := h.1 (am_b_0 c5)
        refine am_goto (tgt := 73) d_M_laysGather_33 rfl ?_
        refine am_iinc (v := v4 + 1) (ls' := [some (.ref q), some (.int p1), some (.int v2), some (.int v3), some (.int (v4 + 1)), none, none]) (n := 76) d_M_laysGather_73 rfl (congrArg _ ci_1) (by decide) rfl rfl ?_
        refine am_goto (tgt := 12) d_M_laysGather_76 rfl ?_
        exact ih I v2 v3 (v4 + 1)  h
def wp_M_laysGather (I : am_TI) (L : am_TL) (R : am_TR) (q : Nat) (p1 : Int32)  (Q : Int32 → am_TI → Prop) : Prop := (∀ I1, I1 = am_u2 I q 26 0 → (∃ z, wl_M_laysGather_12 L R q p1 Q z I1 0 1 0))
set_option maxRecDepth 20000 in
theorem cm_M_laysGather {d : Nat} {I : am_TI} {L : am_TL} {R : am_TR}  (hw : am_Wf R)   {q : Nat} {p1 : Int32} {Q : Int32 → am_TI → Prop} (hd : 3 ≤ d) (hq : am_SH[q]? = some (.inl 12)) (h : wp_M_laysGather I L R q p1  Q) : am_Cm d 0 0 y_M_laysGather b_M_laysGather 7 (some .int) [.ref q, .int p1] (I, L, R, am_SH) (po_M_laysGather L R Q) := by
  refine am_Cm_of (ini := false) (by decide +kernel) (fun z => by cases z) (by simp [Value.category]) (fun r σ' z => by obtain ⟨x, _, rfl, -⟩ := z; exact ⟨_, rfl, rfl⟩) ?_
  unfold wp_M_laysGather at h
  show am_Wp (d, "UnseenRingModel", b_M_laysGather, 7, false) 0 0 0 [some (.ref q), some (.int p1), none, none, none, none, none] [] (I, L, R, am_SH) (po_M_laysGather L R Q)
  refine am_iconst (n := 1) d_M_laysGather_0 ci_0 rfl ?_
  refine am_istore_n (ls' := [some (.ref q), some (.int p1), some (.int 0), none, none, none, none]) (n := 2) d_M_laysGather_1 (by decide) rfl rfl ?_
  refine am_iconst (n := 3) d_M_laysGather_2 ci_1 rfl ?_
  refine am_istore_n (ls' := [some (.ref q), some (.int p1), some (.int 0), some (.int 1), none, none, none]) (n := 4) d_M_laysGather_3 (by decide) rfl rfl ?_
  refine am_aload_n (n := 5) d_M_laysGather_4 rfl rfl ?_
  refine am_iconst (n := 6) d_M_laysGather_5 ci_0 rfl ?_
  refine am_putI (n := 9) f_M_389 d_M_laysGather_6 rfl ⟨_, rfl, Or.inl rfl⟩ rfl rfl hq ?_
  generalize eI1 : am_u2 I q 26 0 = I1
  have h := h I1 eI1.symm
  refine am_iconst (n := 10) d_M_laysGather_9 ci_0 rfl ?_
  refine am_istore (ls' := [some (.ref q), some (.int p1), some (.int 0), some (.int 1), some (.int 0), none, none]) (n := 12) d_M_laysGather_10 (by decide) rfl rfl ?_
  obtain ⟨n, h⟩ := h
  exact tl_M_laysGather_12 hw hq hd n I1 0 1 0 h
abbrev po_M_gather (L : am_TL) (R : am_TR) (Q : Int32 → am_TI → Prop) : Option Value → am_St → Prop := fun r σ' => ∃ (x : Int32) (I' : am_TI), r = some (.int x) ∧ σ' = (I', L, R, am_SH) ∧ Q x I'
def wp_M_gather (I : am_TI) (L : am_TL) (R : am_TR) (q : Nat) (p1 : Int32)  (Q : Int32 → am_TI → Prop) : Prop := wp_M_isGather I L R q p1 (fun (r1 : Bool) => ((r1 = false → wp_M_refuse I L R q 1 (fun (r5 : Int32) (I4 : am_TI) => Q r5 I4)) ∧ (r1 = true → wp_M_laysGather I L R q p1 (fun (r2 : Int32) (I1 : am_TI) => (vp_in r2 729 ∧ (((I1 (q + 9) (Int32.toNatClampNeg r2)) < 1000000 → (vp_in r2 729 ∧ wp_M_gives I1 L R q (I1 (q + 9) (Int32.toNatClampNeg r2)) (fun (r3 : Int32) (I2 : am_TI) => Q r3 I2))) ∧ (¬ (I1 (q + 9) (Int32.toNatClampNeg r2)) < 1000000 → wp_M_refuse I1 L R q 6 (fun (r4 : Int32) (I3 : am_TI) => Q r4 I3))))))))
set_option maxRecDepth 20000 in
theorem cm_M_gather {d : Nat} {I : am_TI} {L : am_TL} {R : am_TR}  (hw : am_Wf R)   {q : Nat} {p1 : Int32} {Q : Int32 → am_TI → Prop} (hd : 4 ≤ d) (hq : am_SH[q]? = some (.inl 12)) (h : wp_M_gather I L R q p1  Q) : am_Cm d 0 0 y_M_gather b_M_gather 3 (some .int) [.ref q, .int p1] (I, L, R, am_SH) (po_M_gather L R Q) := by
  refine am_Cm_of (ini := false) (by decide +kernel) (fun z => by cases z) (by simp [Value.category]) (fun r σ' z => by obtain ⟨x, _, rfl, -⟩ := z; exact ⟨_, rfl, rfl⟩) ?_
  unfold wp_M_gather at h
  show am_Wp (d, "UnseenRingModel", b_M_gather, 3, false) 0 0 0 [some (.ref q), some (.int p1), none] [] (I, L, R, am_SH) (po_M_gather L R Q)
  refine am_aload_n (n := 1) d_M_gather_0 rfl rfl ?_
  refine am_iload_n (n := 2) d_M_gather_1 rfl rfl ?_
  refine am_callV (kc := 0) (ks := 0) (As := [.int p1]) (n := 5) d_M_gather_2 rfl ce_M_isGather lk_M_400 in_M_isGather rfl rfl hq rfl rfl (Nat.le_of_ble_eq_true rfl) (Or.inl rfl) (cm_M_isGather (d := d - 1) hw (by omega) hq h) (by omega) ?_
  rintro _ _ ⟨r1, rfl, rfl, h⟩
  show am_Wp (d, "UnseenRingModel", b_M_gather, 3, false) 0 0 5 [some (.ref q), some (.int p1), none] [.int (am_b r1)] (I, L, R, am_SH) (po_M_gather L R Q)
  refine am_if_ne (y := 0) (tgt := 14) (n := 8) d_M_gather_5 rfl rfl (fun c1 => ?_) (fun c1 => ?_)
  · have h := h.2 (am_b_n0 c1)
    refine am_aload_n (n := 15) d_M_gather_14 rfl rfl ?_
    refine am_iload_n (n := 16) d_M_gather_15 rfl rfl ?_
    refine am_callV (kc := 0) (ks := 0) (As := [.int p1]) (n := 19) d_M_gather_16 rfl ce_M_laysGather lk_M_403 in_M_laysGather rfl rfl hq rfl rfl (Nat.le_of_ble_eq_true rfl) (Or.inl rfl) (cm_M_laysGather (d := d - 1) hw (by omega) hq h) (by omega) ?_
    rintro _ _ ⟨r2, I1, rfl, rfl, h⟩
    show am_Wp (d, "UnseenRingModel", b_M_gather, 3, false) 0 0 19 [some (.ref q), some (.int p1), none] [.int r2] (I1, L, R, am_SH) (po_M_gather L R Q)
    refine am_istore_n (ls' := [some (.ref q), some (.int p1), some (.int r2)]) (n := 20) d_M_gather_19 (by decide) rfl rfl ?_
    refine am_aload_n (n := 21) d_M_gather_20 rfl rfl ?_
    refine am_getR (x := (q + 9)) (n := 24) f_M_47 d_M_gather_21 rfl rfl hq (hw.1 q 12 24 9 hq rfl) ?_
    refine am_iload_n (n := 25) d_M_gather_24 rfl rfl ?_
    obtain ⟨g1, h⟩ := h
    refine am_iald2 (n := 26) d_M_gather_25 rfl (am_sho (k := 24) (o := 9) hq (by decide) (by decide) (by decide) rfl) g1 rfl ?_
    refine am_ldcw (n := 29) d_M_gather_26 k_M_392 rfl ?_
    refine am_icmp_lt (tgt := 41) (n := 32) d_M_gather_29 rfl rfl (fun c2 => ?_) (fun c2 => ?_)
    · have h := h.1 c2
      refine am_aload_n (n := 42) d_M_gather_41 rfl rfl ?_
      refine am_aload_n (n := 43) d_M_gather_42 rfl rfl ?_
      refine am_getR (x := (q + 9)) (n := 46) f_M_47 d_M_gather_43 rfl rfl hq (hw.1 q 12 24 9 hq rfl) ?_
      refine am_iload_n (n := 47) d_M_gather_46 rfl rfl ?_
      obtain ⟨g2, h⟩ := h
      refine am_iald2 (n := 48) d_M_gather_47 rfl (am_sho (k := 24) (o := 9) hq (by decide) (by decide) (by decide) rfl) g2 rfl ?_
      refine am_callV (kc := 0) (ks := 0) (As := [.int (I1 (q + 9) (Int32.toNatClampNeg r2))]) (n := 51) d_M_gather_48 rfl ce_M_gives lk_M_125 in_M_gives rfl rfl hq rfl rfl (Nat.le_of_ble_eq_true rfl) (Or.inl rfl) (cm_M_gives (d := d - 1) hw (by omega) hq h) (by omega) ?_
      rintro _ _ ⟨r3, I2, rfl, rfl, h⟩
      show am_Wp (d, "UnseenRingModel", b_M_gather, 3, false) 0 0 51 [some (.ref q), some (.int p1), some (.int r2)] [.int r3] (I2, L, R, am_SH) (po_M_gather L R Q)
      exact am_iret d_M_gather_51 ⟨r3, I2, rfl, rfl, h⟩
    · have h := h.2 c2
      refine am_aload_n (n := 33) d_M_gather_32 rfl rfl ?_
      refine am_bipush (n := 35) d_M_gather_33 cb_6 rfl ?_
      refine am_callV (kc := 0) (ks := 0) (As := [.int 6]) (n := 38) d_M_gather_35 rfl ce_M_refuse lk_M_121 in_M_refuse rfl rfl hq rfl rfl (Nat.le_of_ble_eq_true rfl) (Or.inl rfl) (cm_M_refuse (d := d - 1) hw (by omega) hq h) (by omega) ?_
      rintro _ _ ⟨r4, I3, rfl, rfl, h⟩
      show am_Wp (d, "UnseenRingModel", b_M_gather, 3, false) 0 0 38 [some (.ref q), some (.int p1), some (.int r2)] [.int r4] (I3, L, R, am_SH) (po_M_gather L R Q)
      refine am_goto (tgt := 51) d_M_gather_38 rfl ?_
      exact am_iret d_M_gather_51 ⟨r4, I3, rfl, rfl, h⟩
  · have h := h.1 (am_b_0 c1)
    refine am_aload_n (n := 9) d_M_gather_8 rfl rfl ?_
    refine am_iconst (n := 10) d_M_gather_9 ci_1 rfl ?_
    refine am_callV (kc := 0) (ks := 0) (As := [.int 1]) (n := 13) d_M_gather_10 rfl ce_M_refuse lk_M_121 in_M_refuse rfl rfl hq rfl rfl (Nat.le_of_ble_eq_true rfl) (Or.inl rfl) (cm_M_refuse (d := d - 1) hw (by omega) hq h) (by omega) ?_
    rintro _ _ ⟨r5, I4, rfl, rfl, h⟩
    show am_Wp (d, "UnseenRingModel", b_M_gather, 3, false) 0 0 13 [some (.ref q), some (.int p1), none] [.int r5] (I4, L, R, am_SH) (po_M_gather L R Q)
    exact am_iret d_M_gather_13 ⟨r5, I4, rfl, rfl, h⟩
abbrev po_M_gatherAt (L : am_TL) (R : am_TR) (Q : Int32 → am_TI → Prop) : Option Value → am_St → Prop := fun r σ' => ∃ (x : Int32) (I' : am_TI), r = some (.int x) ∧ σ' = (I', L, R, am_SH) ∧ Q x I'
def wb_M_gatherAt_12 (L : am_TL) (R : am_TR) (q : Nat) (p1 : Int32) (p2 : Int32) (Q : Int32 → am_TI → Prop)  (I : am_TI) : Prop := wp_M_refuse I L R q 1 (fun (r2 : Int32) (I1 : am_TI) => Q r2 I1)
set_option maxRecDepth 20000 in
theorem tb_M_gatherAt_12 {d : Nat}  {L : am_TL} {R : am_TR} {q : Nat} {p1 : Int32} {p2 : Int32} {Q : Int32 → am_TI → Prop}  (hw : am_Wf R) (hq : am_SH[q]? = some (.inl 12)) (hd : 4 ≤ d) (I : am_TI) (h : wb_M_gatherAt_12 L R q p1 p2 Q  I) : am_Wp (d, "UnseenRingModel", b_M_gatherAt, 6, false) 0 0 12 [some (.ref q), some (.int p1), some (.int p2), none, none, none] [] (I, L, R, am_SH) (po_M_gatherAt L R Q) := by
  unfold wb_M_gatherAt_12 at h
  refine am_aload_n (n := 13) d_M_gatherAt_12 rfl rfl ?_
  refine am_iconst (n := 14) d_M_gatherAt_13 ci_1 rfl ?_
  refine am_callV (kc := 0) (ks := 0) (As := [.int 1]) (n := 17) d_M_gatherAt_14 rfl ce_M_refuse lk_M_121 in_M_refuse rfl rfl hq rfl rfl (Nat.le_of_ble_eq_true rfl) (Or.inl rfl) (cm_M_refuse (d := d - 1) hw (by omega) hq h) (by omega) ?_
  rintro _ _ ⟨r2, I1, rfl, rfl, h⟩
  show am_Wp (d, "UnseenRingModel", b_M_gatherAt, 6, false) 0 0 17 [some (.ref q), some (.int p1), some (.int p2), none, none, none] [.int r2] (I1, L, R, am_SH) (po_M_gatherAt L R Q)
  exact am_iret d_M_gatherAt_17 ⟨r2, I1, rfl, rfl, h⟩
def wb_M_gatherAt_46 (L : am_TL) (R : am_TR) (q : Nat) (p1 : Int32) (p2 : Int32) (Q : Int32 → am_TI → Prop)  (I : am_TI) : Prop := wp_M_refuse I L R q 6 (fun (r4 : Int32) (I3 : am_TI) => Q r4 I3)
set_option maxRecDepth 20000 in
theorem tb_M_gatherAt_46 {d : Nat}  {L : am_TL} {R : am_TR} {q : Nat} {p1 : Int32} {p2 : Int32} {Q : Int32 → am_TI → Prop}  (hw : am_Wf R) (hq : am_SH[q]? = some (.inl 12)) (hd : 4 ≤ d) (I : am_TI) (h : wb_M_gatherAt_46 L R q p1 p2 Q  I) : am_Wp (d, "UnseenRingModel", b_M_gatherAt, 6, false) 0 0 46 [some (.ref q), some (.int p1), some (.int p2), none, none, none] [] (I, L, R, am_SH) (po_M_gatherAt L R Q) := by
  unfold wb_M_gatherAt_46 at h
  refine am_aload_n (n := 47) d_M_gatherAt_46 rfl rfl ?_
  refine am_bipush (n := 49) d_M_gatherAt_47 cb_6 rfl ?_
  refine am_callV (kc := 0) (ks := 0) (As := [.int 6]) (n := 52) d_M_gatherAt_49 rfl ce_M_refuse lk_M_121 in_M_refuse rfl rfl hq rfl rfl (Nat.le_of_ble_eq_true rfl) (Or.inl rfl) (cm_M_refuse (d := d - 1) hw (by omega) hq h) (by omega) ?_
  rintro _ _ ⟨r4, I3, rfl, rfl, h⟩
  show am_Wp (d, "UnseenRingModel", b_M_gatherAt, 6, false) 0 0 52 [some (.ref q), some (.int p1), some (.int p2), none, none, none] [.int r4] (I3, L, R, am_SH) (po_M_gatherAt L R Q)
  exact am_iret d_M_gatherAt_52 ⟨r4, I3, rfl, rfl, h⟩
def wl_M_gatherAt_68 (L : am_TL) (R : am_TR) (q : Nat) (p1 : Int32) (p2 : Int32) (Q : Int32 → am_TI → Prop) (K59 : am_TI → Int32 → Int32 → Int32 → Prop) : Nat → am_TI → Int32 → Int32 → Int32 → Prop
  | 0 => fun _ _ _ _ => False
  | f68 + 1 => fun I v3 v4 v5 => wp_M_behindTune I L R q v3 v4 (fun (r6 : Int32) => (vp_in r6 729 ∧ (vp_in v3 729 ∧ (((I (q + 9) (Int32.toNatClampNeg r6)) = ((I (q + 9) (Int32.toNatClampNeg v3)) - 1) → wp_M_behindTune I L R q v3 v4 (fun (r7 : Int32) => K59 I r7 v4 (v5 + 1))) ∧ (¬ (I (q + 9) (Int32.toNatClampNeg r6)) = ((I (q + 9) (Int32.toNatClampNeg v3)) - 1) → wl_M_gatherAt_68 L R q p1 p2 Q K59 f68 I v3 (v4 + 1) v5)))))
set_option maxRecDepth 20000 in
theorem tl_M_gatherAt_68 {d : Nat}  {L : am_TL} {R : am_TR} {q : Nat} {p1 : Int32} {p2 : Int32} {Q : Int32 → am_TI → Prop} {K59 : am_TI → Int32 → Int32 → Int32 → Prop} (hw : am_Wf R) (hq : am_SH[q]? = some (.inl 12)) (hK59 : ∀ (I : am_TI) (v3 : Int32) (v4 : Int32) (v5 : Int32), K59 I v3 v4 v5 → am_Wp (d, "UnseenRingModel", b_M_gatherAt, 6, false) 0 0 59 [some (.ref q), some (.int p1), some (.int p2), some (.int v3), some (.int v4), some (.int v5)] [] (I, L, R, am_SH) (po_M_gatherAt L R Q)) (hd : 4 ≤ d) : ∀ (n : Nat) (I : am_TI) (v3 : Int32) (v4 : Int32) (v5 : Int32), wl_M_gatherAt_68 L R q p1 p2 Q K59 n I v3 v4 v5 → am_Wp (d, "UnseenRingModel", b_M_gatherAt, 6, false) 0 0 68 [some (.ref q), some (.int p1), some (.int p2), some (.int v3), some (.int v4), some (.int v5)] [] (I, L, R, am_SH) (po_M_gatherAt L R Q) := by
  intro n
  induction n with
  | zero => intro I v3 v4 v5 h; exact h.elim
  | succ n ih =>
    intro I v3 v4 v5 h
    unfold wl_M_gatherAt_68 at h
    refine am_aload_n (n := 69) d_M_gatherAt_68 rfl rfl ?_
    refine am_getR (x := (q + 9)) (n := 72) f_M_47 d_M_gatherAt_69 rfl rfl hq (hw.1 q 12 24 9 hq rfl) ?_
    refine am_aload_n (n := 73) d_M_gatherAt_72 rfl rfl ?_
    refine am_iload_n (n := 74) d_M_gatherAt_73 rfl rfl ?_
    refine am_iload (n := 76) d_M_gatherAt_74 rfl rfl ?_
    refine am_callV (kc := 0) (ks := 0) (As := [.int v3, .int v4]) (n := 79) d_M_gatherAt_76 rfl ce_M_behindTune lk_M_393 in_M_behindTune rfl rfl hq rfl rfl (Nat.le_of_ble_eq_true rfl) (Or.inl rfl) (cm_M_behindTune (d := d - 1) hw (by omega) hq h) (by omega) ?_
    rintro _ _ ⟨r6, rfl, rfl, h⟩
    show am_Wp (d, "UnseenRingModel", b_M_gatherAt, 6, false) 0 0 79 [some (.ref q), some (.int p1), some (.int p2), some (.int v3), some (.int v4), some (.int v5)] [.int r6, .ref (q + 9)] (I, L, R, am_SH) (po_M_gatherAt L R Q)
    obtain ⟨g3, h⟩ := h
    refine am_iald2 (n := 80) d_M_gatherAt_79 rfl (am_sho (k := 24) (o := 9) hq (by decide) (by decide) (by decide) rfl) g3 rfl ?_
    refine am_aload_n (n := 81) d_M_gatherAt_80 rfl rfl ?_
    refine am_getR (x := (q + 9)) (n := 84) f_M_47 d_M_gatherAt_81 rfl rfl hq (hw.1 q 12 24 9 hq rfl) ?_
    refine am_iload_n (n := 85) d_M_gatherAt_84 rfl rfl ?_
    obtain ⟨g4, h⟩ := h
    refine am_iald2 (n := 86) d_M_gatherAt_85 rfl (am_sho (k := 24) (o := 9) hq (by decide) (by decide) (by decide) rfl) g4 rfl ?_
    refine am_iconst (n := 87) d_M_gatherAt_86 ci_1 rfl ?_
    refine am_isub (n := 88) d_M_gatherAt_87 rfl ?_
    refine am_icmp_eq (tgt := 97) (n := 91) d_M_gatherAt_88 rfl rfl (fun c6 => ?_) (fun c6 => ?_)
    · have h := h.1 c6
      refine am_aload_n (n := 98) d_M_gatherAt_97 rfl rfl ?_
      refine am_iload_n (n := 99) d_M_gatherAt_98 rfl rfl ?_
      refine am_iload (n := 101) d_M_gatherAt_99 rfl rfl ?_
      refine am_callV (kc := 0) (ks := 0) (As := [.int v3, .int v4]) (n := 104) d_M_gatherAt_101 rfl ce_M_behindTune lk_M_393 in_M_behindTune rfl rfl hq rfl rfl (Nat.le_of_ble_eq_true rfl) (Or.inl rfl) (cm_M_behindTune (d := d - 1) hw (by omega) hq h) (by omega) ?_
      rintro _ _ ⟨r7, rfl, rfl, h⟩
      show am_Wp (d, "UnseenRingModel", b_M_gatherAt, 6, false) 0 0 104 [some (.ref q), some (.int p1), some (.int p2), some (.int v3), some (.int v4), some (.int v5)] [.int r7] (I, L, R, am_SH) (po_M_gatherAt L R Q)
      refine am_istore_n (ls' := [some (.ref q), some (.int p1), some (.int p2), some (.int r7), some (.int v4), some (.int v5)]) (n := 105) d_M_gatherAt_104 (by decide) rfl rfl ?_
      refine am_iinc (v := v5 + 1) (ls' := [some (.ref q), some (.int p1), some (.int p2), some (.int r7), some (.int v4), some (.int (v5 + 1))]) (n := 108) d_M_gatherAt_105 rfl (congrArg _ ci_1) (by decide) rfl rfl ?_
      refine am_goto (tgt := 59) d_M_gatherAt_108 rfl ?_
      exact hK59 I r7 v4 (v5 + 1)  h
    · have h := h.2 c6
      refine am_iinc (v := v4 + 1) (ls' := [some (.ref q), some (.int p1), some (.int p2), some (.int v3), some (.int (v4 + 1)), some (.int v5)]) (n := 94) d_M_gatherAt_91 rfl (congrArg _ ci_1) (by decide) rfl rfl ?_
      refine am_goto (tgt := 68) d_M_gatherAt_94 rfl ?_
      exact ih I v3 (v4 + 1) v5  h
def wl_M_gatherAt_59 (L : am_TL) (R : am_TR) (q : Nat) (p1 : Int32) (p2 : Int32) (Q : Int32 → am_TI → Prop)  : Nat → am_TI → Int32 → Int32 → Int32 → Prop
  | 0 => fun _ _ _ _ => False
  | f59 + 1 => fun I v3 v4 v5 => ((p2 < v5 → wp_M_gives I L R q v4 (fun (r5 : Int32) (I4 : am_TI) => Q r5 I4)) ∧ (¬ p2 < v5 → (∃ z, wl_M_gatherAt_68 L R q p1 p2 Q (wl_M_gatherAt_59 L R q p1 p2 Q f59) z I v3 0 v5)))
set_option maxRecDepth 20000 in
theorem tl_M_gatherAt_59 {d : Nat}  {L : am_TL} {R : am_TR} {q : Nat} {p1 : Int32} {p2 : Int32} {Q : Int32 → am_TI → Prop}  (hw : am_Wf R) (hq : am_SH[q]? = some (.inl 12)) (hd : 4 ≤ d) : ∀ (n : Nat) (I : am_TI) (v3 : Int32) (v4 : Int32) (v5 : Int32), wl_M_gatherAt_59 L R q p1 p2 Q  n I v3 v4 v5 → am_Wp (d, "UnseenRingModel", b_M_gatherAt, 6, false) 0 0 59 [some (.ref q), some (.int p1), some (.int p2), some (.int v3), some (.int v4), some (.int v5)] [] (I, L, R, am_SH) (po_M_gatherAt L R Q) := by
  intro n
  induction n with
  | zero => intro I v3 v4 v5 h; exact h.elim
  | succ n ih =>
    intro I v3 v4 v5 h
    unfold wl_M_gatherAt_59 at h
    refine am_iload (n := 61) d_M_gatherAt_59 rfl rfl ?_
    refine am_iload_n (n := 62) d_M_gatherAt_61 rfl rfl ?_
    refine am_icmp_gt (tgt := 111) (n := 65) d_M_gatherAt_62 rfl rfl (fun c5 => ?_) (fun c5 => ?_)
    · have h := h.1 c5
      refine am_aload_n (n := 112) d_M_gatherAt_111 rfl rfl ?_
      refine am_iload (n := 114) d_M_gatherAt_112 rfl rfl ?_
      refine am_callV (kc := 0) (ks := 0) (As := [.int v4]) (n := 117) d_M_gatherAt_114 rfl ce_M_gives lk_M_125 in_M_gives rfl rfl hq rfl rfl (Nat.le_of_ble_eq_true rfl) (Or.inl rfl) (cm_M_gives (d := d - 1) hw (by omega) hq h) (by omega) ?_
      rintro _ _ ⟨r5, I4, rfl, rfl, h⟩
      show am_Wp (d, "UnseenRingModel", b_M_gatherAt, 6, false) 0 0 117 [some (.ref q), some (.int p1), some (.int p2), some (.int v3), some (.int v4), some (.int v5)] [.int r5] (I4, L, R, am_SH) (po_M_gatherAt L R Q)
      exact am_iret d_M_gatherAt_117 ⟨r5, I4, rfl, rfl, h⟩
    · have h := h.2 c5
      refine am_iconst (n := 66) d_M_gatherAt_65 ci_0 rfl ?_
      refine am_istore (ls' := [some (.ref q), some (.int p1), some (.int p2), some (.int v3), some (.int 0), some (.int v5)]) (n := 68) d_M_gatherAt_66 (by decide) rfl rfl ?_
      obtain ⟨n, h⟩ := h
      exact tl_M_gatherAt_68 hw hq ih hd n I v3 0 v5 h
def wp_M_gatherAt (I : am_TI) (L : am_TL) (R : am_TR) (q : Nat) (p1 : Int32) (p2 : Int32)  (Q : Int32 → am_TI → Prop) : Prop := wp_M_isGather I L R q p1 (fun (r1 : Bool) => ((r1 = false → wb_M_gatherAt_12 L R q p1 p2 Q I) ∧ (r1 = true → ((0 ≤ p2 → wp_M_laysGather I L R q p1 (fun (r3 : Int32) (I2 : am_TI) => (vp_in r3 729 ∧ (((I2 (q + 9) (Int32.toNatClampNeg r3)) ≤ p2 → wb_M_gatherAt_46 L R q p1 p2 Q I2) ∧ (¬ (I2 (q + 9) (Int32.toNatClampNeg r3)) ≤ p2 → (vp_in r3 729 ∧ (((I2 (q + 9) (Int32.toNatClampNeg r3)) < 1000000 → (∃ z, wl_M_gatherAt_59 L R q p1 p2 Q z I2 r3 0 0)) ∧ (¬ (I2 (q + 9) (Int32.toNatClampNeg r3)) < 1000000 → wb_M_gatherAt_46 L R q p1 p2 Q I2)))))))) ∧ (¬ 0 ≤ p2 → wb_M_gatherAt_12 L R q p1 p2 Q I)))))
set_option maxRecDepth 20000 in
theorem cm_M_gatherAt {d : Nat} {I : am_TI} {L : am_TL} {R : am_TR}  (hw : am_Wf R)   {q : Nat} {p1 : Int32} {p2 : Int32} {Q : Int32 → am_TI → Prop} (hd : 4 ≤ d) (hq : am_SH[q]? = some (.inl 12)) (h : wp_M_gatherAt I L R q p1 p2  Q) : am_Cm d 0 0 y_M_gatherAt b_M_gatherAt 6 (some .int) [.ref q, .int p1, .int p2] (I, L, R, am_SH) (po_M_gatherAt L R Q) := by
  refine am_Cm_of (ini := false) (by decide +kernel) (fun z => by cases z) (by simp [Value.category]) (fun r σ' z => by obtain ⟨x, _, rfl, -⟩ := z; exact ⟨_, rfl, rfl⟩) ?_
  unfold wp_M_gatherAt at h
  show am_Wp (d, "UnseenRingModel", b_M_gatherAt, 6, false) 0 0 0 [some (.ref q), some (.int p1), some (.int p2), none, none, none] [] (I, L, R, am_SH) (po_M_gatherAt L R Q)
  refine am_aload_n (n := 1) d_M_gatherAt_0 rfl rfl ?_
  refine am_iload_n (n := 2) d_M_gatherAt_1 rfl rfl ?_
  refine am_callV (kc := 0) (ks := 0) (As := [.int p1]) (n := 5) d_M_gatherAt_2 rfl ce_M_isGather lk_M_400 in_M_isGather rfl rfl hq rfl rfl (Nat.le_of_ble_eq_true rfl) (Or.inl rfl) (cm_M_isGather (d := d - 1) hw (by omega) hq h) (by omega) ?_
  rintro _ _ ⟨r1, rfl, rfl, h⟩
  show am_Wp (d, "UnseenRingModel", b_M_gatherAt, 6, false) 0 0 5 [some (.ref q), some (.int p1), some (.int p2), none, none, none] [.int (am_b r1)] (I, L, R, am_SH) (po_M_gatherAt L R Q)
  refine am_if_eq (y := 0) (tgt := 12) (n := 8) d_M_gatherAt_5 rfl rfl (fun c1 => ?_) (fun c1 => ?_)
  · have h := h.1 (am_b_0 c1)
    exact tb_M_gatherAt_12 hw hq hd I h
  · have h := h.2 (am_b_n0 c1)
    refine am_iload_n (n := 9) d_M_gatherAt_8 rfl rfl ?_
    refine am_if_ge (y := 0) (tgt := 18) (n := 12) d_M_gatherAt_9 rfl rfl (fun c2 => ?_) (fun c2 => ?_)
    · have h := h.1 c2
      refine am_aload_n (n := 19) d_M_gatherAt_18 rfl rfl ?_
      refine am_iload_n (n := 20) d_M_gatherAt_19 rfl rfl ?_
      refine am_callV (kc := 0) (ks := 0) (As := [.int p1]) (n := 23) d_M_gatherAt_20 rfl ce_M_laysGather lk_M_403 in_M_laysGather rfl rfl hq rfl rfl (Nat.le_of_ble_eq_true rfl) (Or.inl rfl) (cm_M_laysGather (d := d - 1) hw (by omega) hq h) (by omega) ?_
      rintro _ _ ⟨r3, I2, rfl, rfl, h⟩
      show am_Wp (d, "UnseenRingModel", b_M_gatherAt, 6, false) 0 0 23 [some (.ref q), some (.int p1), some (.int p2), none, none, none] [.int r3] (I2, L, R, am_SH) (po_M_gatherAt L R Q)
      refine am_istore_n (ls' := [some (.ref q), some (.int p1), some (.int p2), some (.int r3), none, none]) (n := 24) d_M_gatherAt_23 (by decide) rfl rfl ?_
      refine am_iload_n (n := 25) d_M_gatherAt_24 rfl rfl ?_
      refine am_aload_n (n := 26) d_M_gatherAt_25 rfl rfl ?_
      refine am_getR (x := (q + 9)) (n := 29) f_M_47 d_M_gatherAt_26 rfl rfl hq (hw.1 q 12 24 9 hq rfl) ?_
      refine am_iload_n (n := 30) d_M_gatherAt_29 rfl rfl ?_
      obtain ⟨g1, h⟩ := h
      refine am_iald2 (n := 31) d_M_gatherAt_30 rfl (am_sho (k := 24) (o := 9) hq (by decide) (by decide) (by decide) rfl) g1 rfl ?_
      refine am_icmp_ge (tgt := 46) (n := 34) d_M_gatherAt_31 rfl rfl (fun c3 => ?_) (fun c3 => ?_)
      · have h := h.1 c3
        refine am_forget (ls' := [some (.ref q), some (.int p1), some (.int p2), none, none, none]) (am_le_s (am_le_s (am_le_s (am_le_n (am_le_n (am_le_n am_le_e)))))) ?_
        exact tb_M_gatherAt_46 hw hq hd I2 h
      · have h := h.2 c3
        refine am_aload_n (n := 35) d_M_gatherAt_34 rfl rfl ?_
        refine am_getR (x := (q + 9)) (n := 38) f_M_47 d_M_gatherAt_35 rfl rfl hq (hw.1 q 12 24 9 hq rfl) ?_
        refine am_iload_n (n := 39) d_M_gatherAt_38 rfl rfl ?_
        obtain ⟨g2, h⟩ := h
        refine am_iald2 (n := 40) d_M_gatherAt_39 rfl (am_sho (k := 24) (o := 9) hq (by decide) (by decide) (by decide) rfl) g2 rfl ?_
        refine am_ldcw (n := 43) d_M_gatherAt_40 k_M_392 rfl ?_
        refine am_icmp_lt (tgt := 53) (n := 46) d_M_gatherAt_43 rfl rfl (fun c4 => ?_) (fun c4 => ?_)
        · have h := h.1 c4
          refine am_iconst (n := 54) d_M_gatherAt_53 ci_0 rfl ?_
          refine am_istore (ls' := [some (.ref q), some (.int p1), some (.int p2), some (.int r3), some (.int 0), none]) (n := 56) d_M_gatherAt_54 (by decide) rfl rfl ?_
          refine am_iconst (n := 57) d_M_gatherAt_56 ci_0 rfl ?_
          refine am_istore (ls' := [some (.ref q), some (.int p1), some (.int p2), some (.int r3), some (.int 0), some (.int 0)]) (n := 59) d_M_gatherAt_57 (by decide) rfl rfl ?_
          obtain ⟨n, h⟩ := h
          exact tl_M_gatherAt_59 hw hq hd n I2 r3 0 0 h
        · have h := h.2 c4
          refine am_forget (ls' := [some (.ref q), some (.int p1), some (.int p2), none, none, none]) (am_le_s (am_le_s (am_le_s (am_le_n (am_le_n (am_le_n am_le_e)))))) ?_
          exact tb_M_gatherAt_46 hw hq hd I2 h
    · have h := h.2 c2
      exact tb_M_gatherAt_12 hw hq hd I h
abbrev po_M_areDogs (I : am_TI) (L : am_TL) (R : am_TR) (Q : Bool → Prop) : Option Value → am_St → Prop := fun r σ' => ∃ (x : Bool), r = some (.int (am_b x)) ∧ σ' = (I, L, R, am_SH) ∧ Q x
def wp_M_areDogs (I : am_TI) (L : am_TL) (R : am_TR) (q : Nat) (p1 : Int64)  (Q : Bool → Prop) : Prop := wp_M_isFrom I L R p1 0 (((1 : Int64) <<< (Int32.toInt64 (I (q + 1) 4) &&& 63)) - 1) (fun (r1 : Bool) => Q r1)
set_option maxRecDepth 20000 in
theorem cm_M_areDogs {d : Nat} {I : am_TI} {L : am_TL} {R : am_TR}  (hw : am_Wf R)   {q : Nat} {p1 : Int64} {Q : Bool → Prop} (hd : 1 ≤ d) (hq : am_SH[q]? = some (.inl 12)) (h : wp_M_areDogs I L R q p1  Q) : am_Cm d 0 0 y_M_areDogs b_M_areDogs 3 (some .boolean) [.ref q, .long p1] (I, L, R, am_SH) (po_M_areDogs I L R Q) := by
  refine am_Cm_of (ini := false) (by decide +kernel) (fun z => by cases z) (by simp [Value.category]) (fun r σ' z => by obtain ⟨x, rfl, -⟩ := z; exact ⟨_, rfl, am_b_nar x⟩) ?_
  unfold wp_M_areDogs at h
  show am_Wp (d, "UnseenRingModel", b_M_areDogs, 3, false) 0 0 0 [some (.ref q), some (.long p1), none] [] (I, L, R, am_SH) (po_M_areDogs I L R Q)
  refine am_lload_n (n := 1) d_M_areDogs_0 rfl rfl ?_
  refine am_lconst (v := 0) (n := 2) d_M_areDogs_1 rfl rfl ?_
  refine am_lconst (v := 1) (n := 3) d_M_areDogs_2 rfl rfl ?_
  refine am_aload_n (n := 4) d_M_areDogs_3 rfl rfl ?_
  refine am_getR (x := (q + 1)) (n := 7) f_M_7 d_M_areDogs_4 rfl rfl hq (hw.1 q 12 0 1 hq rfl) ?_
  refine am_iconst (n := 8) d_M_areDogs_7 ci_4 rfl ?_
  refine am_iald2 (n := 9) d_M_areDogs_8 rfl (am_sho (k := 0) (o := 1) hq (by decide) (by decide) (by decide) rfl) cx_4_2258 cn_4 ?_
  refine am_lshl (n := 10) d_M_areDogs_9 rfl ?_
  refine am_lconst (v := 1) (n := 11) d_M_areDogs_10 rfl rfl ?_
  refine am_lsub (n := 12) d_M_areDogs_11 rfl ?_
  refine am_callS (kc := 0) (ks := 0) (As := [.long p1, .long 0, .long (((1 : Int64) <<< (Int32.toInt64 (I (q + 1) 4) &&& 63)) - 1)]) (n := 15) d_M_areDogs_12 rfl ce_M_isFrom lk_M_306 st_M_isFrom rfl rfl (Nat.le_of_ble_eq_true rfl) (Or.inl rfl) (cm_M_isFrom (d := d - 1) hw (by omega)  h) (by omega) ?_
  rintro _ _ ⟨r1, rfl, rfl, h⟩
  show am_Wp (d, "UnseenRingModel", b_M_areDogs, 3, false) 0 0 15 [some (.ref q), some (.long p1), none] [.int (am_b r1)] (I, L, R, am_SH) (po_M_areDogs I L R Q)
  exact am_iret d_M_areDogs_15 ⟨r1, rfl, rfl, h⟩
abbrev po_M_counts (L : am_TL) (R : am_TR) (Q : am_TI → Prop) : Option Value → am_St → Prop := fun r σ' => ∃ (I' : am_TI), r = none ∧ σ' = (I', L, R, am_SH) ∧ Q I'
def wb_M_counts_55 (L : am_TL) (R : am_TR) (q : Nat) (p1 : Int32) (Q : am_TI → Prop) (K12 : am_TI → Int32 → Prop) (K26 : am_TI → Int32 → Int32 → Int32 → Prop) (I : am_TI) (v2 : Int32) (v3 : Int32) (v4 : Int32) (s0 : Nat) (s1 : Int32) (s2 : Int32) (s3 : Bool) : Prop := (vp_in s1 25 ∧ (∀ I4, I4 = am_u2 I s0 (Int32.toNatClampNeg s1) (s2 + (am_b s3)) → (vp_in v4 5 ∧ wp_M_farBetween I4 L R q (I4 (q + 11) (Int32.toNatClampNeg v4)) v2 (fun (r2 : Int32) => ((2 ≤ r2 → K26 I4 v2 (v3 + 0) (v4 + 1)) ∧ (¬ 2 ≤ r2 → K26 I4 v2 (v3 + 1) (v4 + 1)))))))
set_option maxRecDepth 20000 in
theorem tb_M_counts_55 {d : Nat}  {L : am_TL} {R : am_TR} {q : Nat} {p1 : Int32} {Q : am_TI → Prop} {K12 : am_TI → Int32 → Prop} {K26 : am_TI → Int32 → Int32 → Int32 → Prop} (hw : am_Wf R) (hq : am_SH[q]? = some (.inl 12)) (hK12 : ∀ (I : am_TI) (v2 : Int32), K12 I v2 → am_Wp (d, "UnseenRingModel", b_M_counts, 5, false) 0 0 12 [some (.ref q), some (.int p1), some (.int v2), none, none] [] (I, L, R, am_SH) (po_M_counts L R Q)) (hK26 : ∀ (I : am_TI) (v2 : Int32) (v3 : Int32) (v4 : Int32), K26 I v2 v3 v4 → am_Wp (d, "UnseenRingModel", b_M_counts, 5, false) 0 0 26 [some (.ref q), some (.int p1), some (.int v2), some (.int v3), some (.int v4)] [] (I, L, R, am_SH) (po_M_counts L R Q)) (hd : 2 ≤ d) (I : am_TI) (v2 : Int32) (v3 : Int32) (v4 : Int32) (s0 : Nat) (s1 : Int32) (s2 : Int32) (s3 : Bool) (hs0 : am_SH[s0]? = some (.inr (0, 25))) (h : wb_M_counts_55 L R q p1 Q K12 K26 I v2 v3 v4 s0 s1 s2 s3) : am_Wp (d, "UnseenRingModel", b_M_counts, 5, false) 0 0 55 [some (.ref q), some (.int p1), some (.int v2), some (.int v3), some (.int v4)] [.int (am_b s3), .int s2, .int s1, .ref s0] (I, L, R, am_SH) (po_M_counts L R Q) := by
  unfold wb_M_counts_55 at h
  refine am_iadd (n := 56) d_M_counts_55 rfl ?_
  obtain ⟨g6, h⟩ := h
  refine am_iast2 (n := 57) d_M_counts_56 rfl hs0 g6 rfl ?_
  generalize eI4 : am_u2 I s0 (Int32.toNatClampNeg s1) (s2 + (am_b s3)) = I4
  have h := h I4 eI4.symm
  refine am_iload_n (n := 58) d_M_counts_57 rfl rfl ?_
  refine am_aload_n (n := 59) d_M_counts_58 rfl rfl ?_
  refine am_aload_n (n := 60) d_M_counts_59 rfl rfl ?_
  refine am_getR (x := (q + 11)) (n := 63) f_M_53 d_M_counts_60 rfl rfl hq (hw.1 q 12 27 11 hq rfl) ?_
  refine am_iload (n := 65) d_M_counts_63 rfl rfl ?_
  obtain ⟨g7, h⟩ := h
  refine am_iald2 (n := 66) d_M_counts_65 rfl (am_sho (k := 27) (o := 11) hq (by decide) (by decide) (by decide) rfl) g7 rfl ?_
  refine am_iload_n (n := 67) d_M_counts_66 rfl rfl ?_
  refine am_callV (kc := 0) (ks := 0) (As := [.int (I4 (q + 11) (Int32.toNatClampNeg v4)), .int v2]) (n := 70) d_M_counts_67 rfl ce_M_farBetween lk_M_316 in_M_farBetween rfl rfl hq rfl rfl (Nat.le_of_ble_eq_true rfl) (Or.inl rfl) (cm_M_farBetween (d := d - 1) hw (by omega) hq h) (by omega) ?_
  rintro _ _ ⟨r2, rfl, rfl, h⟩
  show am_Wp (d, "UnseenRingModel", b_M_counts, 5, false) 0 0 70 [some (.ref q), some (.int p1), some (.int v2), some (.int v3), some (.int v4)] [.int r2, .int v3] (I4, L, R, am_SH) (po_M_counts L R Q)
  refine am_iconst (n := 71) d_M_counts_70 ci_2 rfl ?_
  refine am_icmp_ge (tgt := 78) (n := 74) d_M_counts_71 rfl rfl (fun c5 => ?_) (fun c5 => ?_)
  · have h := h.1 c5
    refine am_iconst (n := 79) d_M_counts_78 ci_0 rfl ?_
    refine am_iadd (n := 80) d_M_counts_79 rfl ?_
    refine am_istore_n (ls' := [some (.ref q), some (.int p1), some (.int v2), some (.int (v3 + 0)), some (.int v4)]) (n := 81) d_M_counts_80 (by decide) rfl rfl ?_
    refine am_iinc (v := v4 + 1) (ls' := [some (.ref q), some (.int p1), some (.int v2), some (.int (v3 + 0)), some (.int (v4 + 1))]) (n := 84) d_M_counts_81 rfl (congrArg _ ci_1) (by decide) rfl rfl ?_
    refine am_goto (tgt := 26) d_M_counts_84 rfl ?_
    exact hK26 I4 v2 (v3 + 0) (v4 + 1)  h
  · have h := h.2 c5
    refine am_iconst (n := 75) d_M_counts_74 ci_1 rfl ?_
    refine am_goto (tgt := 79) d_M_counts_75 rfl ?_
    refine am_iadd (n := 80) d_M_counts_79 rfl ?_
    refine am_istore_n (ls' := [some (.ref q), some (.int p1), some (.int v2), some (.int (v3 + 1)), some (.int v4)]) (n := 81) d_M_counts_80 (by decide) rfl rfl ?_
    refine am_iinc (v := v4 + 1) (ls' := [some (.ref q), some (.int p1), some (.int v2), some (.int (v3 + 1)), some (.int (v4 + 1))]) (n := 84) d_M_counts_81 rfl (congrArg _ ci_1) (by decide) rfl rfl ?_
    refine am_goto (tgt := 26) d_M_counts_84 rfl ?_
    exact hK26 I4 v2 (v3 + 1) (v4 + 1)  h
def wl_M_counts_26 (L : am_TL) (R : am_TR) (q : Nat) (p1 : Int32) (Q : am_TI → Prop) (K12 : am_TI → Int32 → Prop) : Nat → am_TI → Int32 → Int32 → Int32 → Prop
  | 0 => fun _ _ _ _ => False
  | f26 + 1 => fun I v2 v3 v4 => ((p1 ≤ v4 → (vp_in v2 25 ∧ ((v3 ≤ 0 → (vp_in v2 25 ∧ (∀ I2, I2 = am_u2 I (q + 14) (Int32.toNatClampNeg v2) ((I (q + 14) (Int32.toNatClampNeg v2)) + 0) → K12 I2 (v2 + 1)))) ∧ (¬ v3 ≤ 0 → (vp_in v2 25 ∧ (∀ I3, I3 = am_u2 I (q + 14) (Int32.toNatClampNeg v2) ((I (q + 14) (Int32.toNatClampNeg v2)) + 1) → K12 I3 (v2 + 1))))))) ∧ (¬ p1 ≤ v4 → (vp_in v2 25 ∧ (vp_in v4 5 ∧ (((I (q + 11) (Int32.toNatClampNeg v4)) = v2 → wb_M_counts_55 L R q p1 Q K12 (wl_M_counts_26 L R q p1 Q K12 f26) I v2 v3 v4 (q + 13) v2 (I (q + 13) (Int32.toNatClampNeg v2)) true) ∧ (¬ (I (q + 11) (Int32.toNatClampNeg v4)) = v2 → wb_M_counts_55 L R q p1 Q K12 (wl_M_counts_26 L R q p1 Q K12 f26) I v2 v3 v4 (q + 13) v2 (I (q + 13) (Int32.toNatClampNeg v2)) false))))))
set_option maxRecDepth 20000 in
theorem tl_M_counts_26 {d : Nat}  {L : am_TL} {R : am_TR} {q : Nat} {p1 : Int32} {Q : am_TI → Prop} {K12 : am_TI → Int32 → Prop} (hw : am_Wf R) (hq : am_SH[q]? = some (.inl 12)) (hK12 : ∀ (I : am_TI) (v2 : Int32), K12 I v2 → am_Wp (d, "UnseenRingModel", b_M_counts, 5, false) 0 0 12 [some (.ref q), some (.int p1), some (.int v2), none, none] [] (I, L, R, am_SH) (po_M_counts L R Q)) (hd : 2 ≤ d) : ∀ (n : Nat) (I : am_TI) (v2 : Int32) (v3 : Int32) (v4 : Int32), wl_M_counts_26 L R q p1 Q K12 n I v2 v3 v4 → am_Wp (d, "UnseenRingModel", b_M_counts, 5, false) 0 0 26 [some (.ref q), some (.int p1), some (.int v2), some (.int v3), some (.int v4)] [] (I, L, R, am_SH) (po_M_counts L R Q) := by
  intro n
  induction n with
  | zero => intro I v2 v3 v4 h; exact h.elim
  | succ n ih =>
    intro I v2 v3 v4 h
    unfold wl_M_counts_26 at h
    refine am_iload (n := 28) d_M_counts_26 rfl rfl ?_
    refine am_iload_n (n := 29) d_M_counts_28 rfl rfl ?_
    refine am_icmp_ge (tgt := 87) (n := 32) d_M_counts_29 rfl rfl (fun c2 => ?_) (fun c2 => ?_)
    · have h := h.1 c2
      refine am_aload_n (n := 88) d_M_counts_87 rfl rfl ?_
      refine am_getR (x := (q + 14)) (n := 91) f_M_62 d_M_counts_88 rfl rfl hq (hw.1 q 12 30 14 hq rfl) ?_
      refine am_iload_n (n := 92) d_M_counts_91 rfl rfl ?_
      refine am_dup2 (n := 93) d_M_counts_92 rfl rfl rfl ?_
      obtain ⟨g1, h⟩ := h
      refine am_iald2 (n := 94) d_M_counts_93 rfl (am_sho (k := 30) (o := 14) hq (by decide) (by decide) (by decide) rfl) g1 rfl ?_
      refine am_iload_n (n := 95) d_M_counts_94 rfl rfl ?_
      refine am_if_le (y := 0) (tgt := 102) (n := 98) d_M_counts_95 rfl rfl (fun c3 => ?_) (fun c3 => ?_)
      · have h := h.1 c3
        refine am_iconst (n := 103) d_M_counts_102 ci_0 rfl ?_
        refine am_iadd (n := 104) d_M_counts_103 rfl ?_
        obtain ⟨g2, h⟩ := h
        refine am_iast2 (n := 105) d_M_counts_104 rfl (am_sho (k := 30) (o := 14) hq (by decide) (by decide) (by decide) rfl) g2 rfl ?_
        generalize eI2 : am_u2 I (q + 14) (Int32.toNatClampNeg v2) ((I (q + 14) (Int32.toNatClampNeg v2)) + 0) = I2
        have h := h I2 eI2.symm
        refine am_iinc (v := v2 + 1) (ls' := [some (.ref q), some (.int p1), some (.int (v2 + 1)), some (.int v3), some (.int v4)]) (n := 108) d_M_counts_105 rfl (congrArg _ ci_1) (by decide) rfl rfl ?_
        refine am_goto (tgt := 12) d_M_counts_108 rfl ?_
        refine am_forget (ls' := [some (.ref q), some (.int p1), some (.int (v2 + 1)), none, none]) (am_le_s (am_le_s (am_le_s (am_le_n (am_le_n am_le_e))))) ?_
        exact hK12 I2 (v2 + 1)  h
      · have h := h.2 c3
        refine am_iconst (n := 99) d_M_counts_98 ci_1 rfl ?_
        refine am_goto (tgt := 103) d_M_counts_99 rfl ?_
        refine am_iadd (n := 104) d_M_counts_103 rfl ?_
        obtain ⟨g3, h⟩ := h
        refine am_iast2 (n := 105) d_M_counts_104 rfl (am_sho (k := 30) (o := 14) hq (by decide) (by decide) (by decide) rfl) g3 rfl ?_
        generalize eI3 : am_u2 I (q + 14) (Int32.toNatClampNeg v2) ((I (q + 14) (Int32.toNatClampNeg v2)) + 1) = I3
        have h := h I3 eI3.symm
        refine am_iinc (v := v2 + 1) (ls' := [some (.ref q), some (.int p1), some (.int (v2 + 1)), some (.int v3), some (.int v4)]) (n := 108) d_M_counts_105 rfl (congrArg _ ci_1) (by decide) rfl rfl ?_
        refine am_goto (tgt := 12) d_M_counts_108 rfl ?_
        refine am_forget (ls' := [some (.ref q), some (.int p1), some (.int (v2 + 1)), none, none]) (am_le_s (am_le_s (am_le_s (am_le_n (am_le_n am_le_e))))) ?_
        exact hK12 I3 (v2 + 1)  h
    · have h := h.2 c2
      refine am_aload_n (n := 33) d_M_counts_32 rfl rfl ?_
      refine am_getR (x := (q + 13)) (n := 36) f_M_59 d_M_counts_33 rfl rfl hq (hw.1 q 12 29 13 hq rfl) ?_
      refine am_iload_n (n := 37) d_M_counts_36 rfl rfl ?_
      refine am_dup2 (n := 38) d_M_counts_37 rfl rfl rfl ?_
      obtain ⟨g4, h⟩ := h
      refine am_iald2 (n := 39) d_M_counts_38 rfl (am_sho (k := 29) (o := 13) hq (by decide) (by decide) (by decide) rfl) g4 rfl ?_
      refine am_aload_n (n := 40) d_M_counts_39 rfl rfl ?_
      refine am_getR (x := (q + 11)) (n := 43) f_M_53 d_M_counts_40 rfl rfl hq (hw.1 q 12 27 11 hq rfl) ?_
      refine am_iload (n := 45) d_M_counts_43 rfl rfl ?_
      obtain ⟨g5, h⟩ := h
      refine am_iald2 (n := 46) d_M_counts_45 rfl (am_sho (k := 27) (o := 11) hq (by decide) (by decide) (by decide) rfl) g5 rfl ?_
      refine am_iload_n (n := 47) d_M_counts_46 rfl rfl ?_
      refine am_icmp_ne (tgt := 54) (n := 50) d_M_counts_47 rfl rfl (fun c4 => ?_) (fun c4 => ?_)
      · have h := h.2 c4
        refine am_iconst (n := 55) d_M_counts_54 ci_0 rfl ?_
        exact tb_M_counts_55 hw hq hK12 ih hd I v2 v3 v4 (q + 13) v2 (I (q + 13) (Int32.toNatClampNeg v2)) false (am_sho (k := 29) (o := 13) hq (by decide) (by decide) (by decide) rfl) h
      · have h := h.1 c4
        refine am_iconst (n := 51) d_M_counts_50 ci_1 rfl ?_
        refine am_goto (tgt := 55) d_M_counts_51 rfl ?_
        exact tb_M_counts_55 hw hq hK12 ih hd I v2 v3 v4 (q + 13) v2 (I (q + 13) (Int32.toNatClampNeg v2)) true (am_sho (k := 29) (o := 13) hq (by decide) (by decide) (by decide) rfl) h
def wl_M_counts_12 (L : am_TL) (R : am_TR) (q : Nat) (p1 : Int32) (Q : am_TI → Prop)  : Nat → am_TI → Int32 → Prop
  | 0 => fun _ _ => False
  | f12 + 1 => fun I v2 => wp_M_cellsOf I L R q 0 (fun (r1 : Int32) => ((r1 ≤ v2 → Q I) ∧ (¬ r1 ≤ v2 → (∃ z, wl_M_counts_26 L R q p1 Q (wl_M_counts_12 L R q p1 Q f12) z I v2 0 0))))
set_option maxRecDepth 20000 in
theorem tl_M_counts_12 {d : Nat}  {L : am_TL} {R : am_TR} {q : Nat} {p1 : Int32} {Q : am_TI → Prop}  (hw : am_Wf R) (hq : am_SH[q]? = some (.inl 12)) (hd : 2 ≤ d) : ∀ (n : Nat) (I : am_TI) (v2 : Int32), wl_M_counts_12 L R q p1 Q  n I v2 → am_Wp (d, "UnseenRingModel", b_M_counts, 5, false) 0 0 12 [some (.ref q), some (.int p1), some (.int v2), none, none] [] (I, L, R, am_SH) (po_M_counts L R Q) := by
  intro n
  induction n with
  | zero => intro I v2 h; exact h.elim
  | succ n ih =>
    intro I v2 h
    unfold wl_M_counts_12 at h
    refine am_iload_n (n := 13) d_M_counts_12 rfl rfl ?_
    refine am_aload_n (n := 14) d_M_counts_13 rfl rfl ?_
    refine am_iconst (n := 15) d_M_counts_14 ci_0 rfl ?_
    refine am_callV (kc := 0) (ks := 0) (As := [.int 0]) (n := 18) d_M_counts_15 rfl ce_M_cellsOf lk_M_223 in_M_cellsOf rfl rfl hq rfl rfl (Nat.le_of_ble_eq_true rfl) (Or.inl rfl) (cm_M_cellsOf (d := d - 1) hw (by omega) hq h) (by omega) ?_
    rintro _ _ ⟨r1, rfl, rfl, h⟩
    show am_Wp (d, "UnseenRingModel", b_M_counts, 5, false) 0 0 18 [some (.ref q), some (.int p1), some (.int v2), none, none] [.int r1, .int v2] (I, L, R, am_SH) (po_M_counts L R Q)
    refine am_icmp_ge (tgt := 111) (n := 21) d_M_counts_18 rfl rfl (fun c1 => ?_) (fun c1 => ?_)
    · have h := h.1 c1
      exact am_vret d_M_counts_111 ⟨I, rfl, rfl, h⟩
    · have h := h.2 c1
      refine am_iconst (n := 22) d_M_counts_21 ci_0 rfl ?_
      refine am_istore_n (ls' := [some (.ref q), some (.int p1), some (.int v2), some (.int 0), none]) (n := 23) d_M_counts_22 (by decide) rfl rfl ?_
      refine am_iconst (n := 24) d_M_counts_23 ci_0 rfl ?_
      refine am_istore (ls' := [some (.ref q), some (.int p1), some (.int v2), some (.int 0), some (.int 0)]) (n := 26) d_M_counts_24 (by decide) rfl rfl ?_
      obtain ⟨n, h⟩ := h
      exact tl_M_counts_26 hw hq ih hd n I v2 0 0 h
def wp_M_counts (I : am_TI) (L : am_TL) (R : am_TR) (q : Nat) (p1 : Int32)  (Q : am_TI → Prop) : Prop := (∀ I1, I1 = am_u2 I q 33 ((I q 33) + 1) → (∃ z, wl_M_counts_12 L R q p1 Q z I1 0))
set_option maxRecDepth 20000 in
theorem cm_M_counts {d : Nat} {I : am_TI} {L : am_TL} {R : am_TR}  (hw : am_Wf R)   {q : Nat} {p1 : Int32} {Q : am_TI → Prop} (hd : 2 ≤ d) (hq : am_SH[q]? = some (.inl 12)) (h : wp_M_counts I L R q p1  Q) : am_Cm d 0 0 y_M_counts b_M_counts 5 (none) [.ref q, .int p1] (I, L, R, am_SH) (po_M_counts L R Q) := by
  refine am_Cm_of (ini := false) (by decide +kernel) (fun z => by cases z) (by simp [Value.category]) (fun r σ' z => by obtain ⟨_, rfl, -⟩ := z; rfl) ?_
  unfold wp_M_counts at h
  show am_Wp (d, "UnseenRingModel", b_M_counts, 5, false) 0 0 0 [some (.ref q), some (.int p1), none, none, none] [] (I, L, R, am_SH) (po_M_counts L R Q)
  refine am_aload_n (n := 1) d_M_counts_0 rfl rfl ?_
  refine am_dup (n := 2) d_M_counts_1 rfl rfl ?_
  refine am_getI (n := 5) f_M_406 d_M_counts_2 rfl rfl hq ?_
  refine am_iconst (n := 6) d_M_counts_5 ci_1 rfl ?_
  refine am_iadd (n := 7) d_M_counts_6 rfl ?_
  refine am_putI (n := 10) f_M_406 d_M_counts_7 rfl ⟨_, rfl, Or.inl rfl⟩ rfl rfl hq ?_
  generalize eI1 : am_u2 I q 33 ((I q 33) + 1) = I1
  have h := h I1 eI1.symm
  refine am_iconst (n := 11) d_M_counts_10 ci_0 rfl ?_
  refine am_istore_n (ls' := [some (.ref q), some (.int p1), some (.int 0), none, none]) (n := 12) d_M_counts_11 (by decide) rfl rfl ?_
  obtain ⟨n, h⟩ := h
  exact tl_M_counts_12 hw hq hd n I1 0 h
abbrev po_M_laysPlacings (L : am_TL) (R : am_TR) (Q : am_TI → Prop) : Option Value → am_St → Prop := fun r σ' => ∃ (I' : am_TI), r = none ∧ σ' = (I', L, R, am_SH) ∧ Q I'
def wl_M_laysPlacings_66 (L : am_TL) (R : am_TR) (q : Nat) (p1 : Int32) (p2 : Int32) (Q : am_TI → Prop)  : Nat → am_TI → Int32 → Prop
  | 0 => fun _ _ => False
  | f66 + 1 => fun I v3 => ((v3 < 0 → Q I) ∧ (¬ v3 < 0 → ((p2 ≤ 0 → Q I) ∧ (¬ p2 ≤ 0 → (vp_in v3 5 ∧ (vp_in v3 5 ∧ (∀ I4, I4 = am_u2 I (q + 11) (Int32.toNatClampNeg v3) ((I (q + 11) (Int32.toNatClampNeg v3)) + 1) → (vp_in v3 5 ∧ wp_M_cellsOf I4 L R q 0 (fun (r1 : Int32) => (((I4 (q + 11) (Int32.toNatClampNeg v3)) = r1 → wl_M_laysPlacings_66 L R q p1 p2 Q f66 I4 (v3 + (-1))) ∧ (¬ (I4 (q + 11) (Int32.toNatClampNeg v3)) = r1 → (vp_in v3 5 ∧ (vp_in v3 5 ∧ wp_M_dogsBy I4 L R q (I4 (q + 11) (Int32.toNatClampNeg v3)) (fun (r2 : Int32) => (((v3 + 1) = p2 → ((((I4 (q + 12) (Int32.toNatClampNeg v3)) ||| r2) = p1 → wp_M_counts I4 L R q p2 (fun (I7 : am_TI) => wl_M_laysPlacings_66 L R q p1 p2 Q f66 I7 v3)) ∧ (¬ ((I4 (q + 12) (Int32.toNatClampNeg v3)) ||| r2) = p1 → wl_M_laysPlacings_66 L R q p1 p2 Q f66 I4 v3))) ∧ (¬ (v3 + 1) = p2 → (vp_in ((v3 + 1) - 1) 5 ∧ (vp_in (v3 + 1) 5 ∧ (∀ I5, I5 = am_u2 I4 (q + 11) (Int32.toNatClampNeg (v3 + 1)) (I4 (q + 11) (Int32.toNatClampNeg ((v3 + 1) - 1))) → (vp_in (v3 + 1) 5 ∧ (∀ I6, I6 = am_u2 I5 (q + 12) (Int32.toNatClampNeg (v3 + 1)) ((I4 (q + 12) (Int32.toNatClampNeg v3)) ||| r2) → wl_M_laysPlacings_66 L R q p1 p2 Q f66 I6 (v3 + 1))))))))))))))))))))))
set_option maxRecDepth 20000 in
theorem tl_M_laysPlacings_66 {d : Nat}  {L : am_TL} {R : am_TR} {q : Nat} {p1 : Int32} {p2 : Int32} {Q : am_TI → Prop}  (hw : am_Wf R) (hq : am_SH[q]? = some (.inl 12)) (hd : 3 ≤ d) : ∀ (n : Nat) (I : am_TI) (v3 : Int32), wl_M_laysPlacings_66 L R q p1 p2 Q  n I v3 → am_Wp (d, "UnseenRingModel", b_M_laysPlacings, 5, false) 0 0 66 [some (.ref q), some (.int p1), some (.int p2), some (.int v3), none] [] (I, L, R, am_SH) (po_M_laysPlacings L R Q) := by
  intro n
  induction n with
  | zero => intro I v3 h; exact h.elim
  | succ n ih =>
    intro I v3 h
    unfold wl_M_laysPlacings_66 at h
    refine am_iload_n (n := 67) d_M_laysPlacings_66 rfl rfl ?_
    refine am_if_lt (y := 0) (tgt := 172) (n := 70) d_M_laysPlacings_67 rfl rfl (fun c3 => ?_) (fun c3 => ?_)
    · have h := h.1 c3
      exact am_vret d_M_laysPlacings_172 ⟨I, rfl, rfl, h⟩
    · have h := h.2 c3
      refine am_iload_n (n := 71) d_M_laysPlacings_70 rfl rfl ?_
      refine am_if_le (y := 0) (tgt := 172) (n := 74) d_M_laysPlacings_71 rfl rfl (fun c4 => ?_) (fun c4 => ?_)
      · have h := h.1 c4
        exact am_vret d_M_laysPlacings_172 ⟨I, rfl, rfl, h⟩
      · have h := h.2 c4
        refine am_aload_n (n := 75) d_M_laysPlacings_74 rfl rfl ?_
        refine am_getR (x := (q + 11)) (n := 78) f_M_53 d_M_laysPlacings_75 rfl rfl hq (hw.1 q 12 27 11 hq rfl) ?_
        refine am_iload_n (n := 79) d_M_laysPlacings_78 rfl rfl ?_
        refine am_dup2 (n := 80) d_M_laysPlacings_79 rfl rfl rfl ?_
        obtain ⟨g1, h⟩ := h
        refine am_iald2 (n := 81) d_M_laysPlacings_80 rfl (am_sho (k := 27) (o := 11) hq (by decide) (by decide) (by decide) rfl) g1 rfl ?_
        refine am_iconst (n := 82) d_M_laysPlacings_81 ci_1 rfl ?_
        refine am_iadd (n := 83) d_M_laysPlacings_82 rfl ?_
        obtain ⟨g2, h⟩ := h
        refine am_iast2 (n := 84) d_M_laysPlacings_83 rfl (am_sho (k := 27) (o := 11) hq (by decide) (by decide) (by decide) rfl) g2 rfl ?_
        generalize eI4 : am_u2 I (q + 11) (Int32.toNatClampNeg v3) ((I (q + 11) (Int32.toNatClampNeg v3)) + 1) = I4
        have h := h I4 eI4.symm
        refine am_aload_n (n := 85) d_M_laysPlacings_84 rfl rfl ?_
        refine am_getR (x := (q + 11)) (n := 88) f_M_53 d_M_laysPlacings_85 rfl rfl hq (hw.1 q 12 27 11 hq rfl) ?_
        refine am_iload_n (n := 89) d_M_laysPlacings_88 rfl rfl ?_
        obtain ⟨g3, h⟩ := h
        refine am_iald2 (n := 90) d_M_laysPlacings_89 rfl (am_sho (k := 27) (o := 11) hq (by decide) (by decide) (by decide) rfl) g3 rfl ?_
        refine am_aload_n (n := 91) d_M_laysPlacings_90 rfl rfl ?_
        refine am_iconst (n := 92) d_M_laysPlacings_91 ci_0 rfl ?_
        refine am_callV (kc := 0) (ks := 0) (As := [.int 0]) (n := 95) d_M_laysPlacings_92 rfl ce_M_cellsOf lk_M_223 in_M_cellsOf rfl rfl hq rfl rfl (Nat.le_of_ble_eq_true rfl) (Or.inl rfl) (cm_M_cellsOf (d := d - 1) hw (by omega) hq h) (by omega) ?_
        rintro _ _ ⟨r1, rfl, rfl, h⟩
        show am_Wp (d, "UnseenRingModel", b_M_laysPlacings, 5, false) 0 0 95 [some (.ref q), some (.int p1), some (.int p2), some (.int v3), none] [.int r1, .int (I4 (q + 11) (Int32.toNatClampNeg v3))] (I4, L, R, am_SH) (po_M_laysPlacings L R Q)
        refine am_icmp_ne (tgt := 104) (n := 98) d_M_laysPlacings_95 rfl rfl (fun c5 => ?_) (fun c5 => ?_)
        · have h := h.2 c5
          refine am_aload_n (n := 105) d_M_laysPlacings_104 rfl rfl ?_
          refine am_getR (x := (q + 12)) (n := 108) f_M_56 d_M_laysPlacings_105 rfl rfl hq (hw.1 q 12 28 12 hq rfl) ?_
          refine am_iload_n (n := 109) d_M_laysPlacings_108 rfl rfl ?_
          obtain ⟨g4, h⟩ := h
          refine am_iald2 (n := 110) d_M_laysPlacings_109 rfl (am_sho (k := 28) (o := 12) hq (by decide) (by decide) (by decide) rfl) g4 rfl ?_
          refine am_aload_n (n := 111) d_M_laysPlacings_110 rfl rfl ?_
          refine am_aload_n (n := 112) d_M_laysPlacings_111 rfl rfl ?_
          refine am_getR (x := (q + 11)) (n := 115) f_M_53 d_M_laysPlacings_112 rfl rfl hq (hw.1 q 12 27 11 hq rfl) ?_
          refine am_iload_n (n := 116) d_M_laysPlacings_115 rfl rfl ?_
          obtain ⟨g5, h⟩ := h
          refine am_iald2 (n := 117) d_M_laysPlacings_116 rfl (am_sho (k := 27) (o := 11) hq (by decide) (by decide) (by decide) rfl) g5 rfl ?_
          refine am_callV (kc := 0) (ks := 0) (As := [.int (I4 (q + 11) (Int32.toNatClampNeg v3))]) (n := 120) d_M_laysPlacings_117 rfl ce_M_dogsBy lk_M_319 in_M_dogsBy rfl rfl hq rfl rfl (Nat.le_of_ble_eq_true rfl) (Or.inl rfl) (cm_M_dogsBy (d := d - 1) hw (by omega) hq h) (by omega) ?_
          rintro _ _ ⟨r2, rfl, rfl, h⟩
          show am_Wp (d, "UnseenRingModel", b_M_laysPlacings, 5, false) 0 0 120 [some (.ref q), some (.int p1), some (.int p2), some (.int v3), none] [.int r2, .int (I4 (q + 12) (Int32.toNatClampNeg v3))] (I4, L, R, am_SH) (po_M_laysPlacings L R Q)
          refine am_ior (n := 121) d_M_laysPlacings_120 rfl ?_
          refine am_istore (ls' := [some (.ref q), some (.int p1), some (.int p2), some (.int v3), some (.int ((I4 (q + 12) (Int32.toNatClampNeg v3)) ||| r2))]) (n := 123) d_M_laysPlacings_121 (by decide) rfl rfl ?_
          refine am_iload_n (n := 124) d_M_laysPlacings_123 rfl rfl ?_
          refine am_iconst (n := 125) d_M_laysPlacings_124 ci_1 rfl ?_
          refine am_iadd (n := 126) d_M_laysPlacings_125 rfl ?_
          refine am_iload_n (n := 127) d_M_laysPlacings_126 rfl rfl ?_
          refine am_icmp_ne (tgt := 144) (n := 130) d_M_laysPlacings_127 rfl rfl (fun c6 => ?_) (fun c6 => ?_)
          · have h := h.2 c6
            refine am_iinc (v := v3 + 1) (ls' := [some (.ref q), some (.int p1), some (.int p2), some (.int (v3 + 1)), some (.int ((I4 (q + 12) (Int32.toNatClampNeg v3)) ||| r2))]) (n := 147) d_M_laysPlacings_144 rfl (congrArg _ ci_1) (by decide) rfl rfl ?_
            refine am_aload_n (n := 148) d_M_laysPlacings_147 rfl rfl ?_
            refine am_getR (x := (q + 11)) (n := 151) f_M_53 d_M_laysPlacings_148 rfl rfl hq (hw.1 q 12 27 11 hq rfl) ?_
            refine am_iload_n (n := 152) d_M_laysPlacings_151 rfl rfl ?_
            refine am_aload_n (n := 153) d_M_laysPlacings_152 rfl rfl ?_
            refine am_getR (x := (q + 11)) (n := 156) f_M_53 d_M_laysPlacings_153 rfl rfl hq (hw.1 q 12 27 11 hq rfl) ?_
            refine am_iload_n (n := 157) d_M_laysPlacings_156 rfl rfl ?_
            refine am_iconst (n := 158) d_M_laysPlacings_157 ci_1 rfl ?_
            refine am_isub (n := 159) d_M_laysPlacings_158 rfl ?_
            obtain ⟨g6, h⟩ := h
            refine am_iald2 (n := 160) d_M_laysPlacings_159 rfl (am_sho (k := 27) (o := 11) hq (by decide) (by decide) (by decide) rfl) g6 rfl ?_
            obtain ⟨g7, h⟩ := h
            refine am_iast2 (n := 161) d_M_laysPlacings_160 rfl (am_sho (k := 27) (o := 11) hq (by decide) (by decide) (by decide) rfl) g7 rfl ?_
            generalize eI5 : am_u2 I4 (q + 11) (Int32.toNatClampNeg (v3 + 1)) (I4 (q + 11) (Int32.toNatClampNeg ((v3 + 1) - 1))) = I5
            have h := h I5 eI5.symm
            refine am_aload_n (n := 162) d_M_laysPlacings_161 rfl rfl ?_
            refine am_getR (x := (q + 12)) (n := 165) f_M_56 d_M_laysPlacings_162 rfl rfl hq (hw.1 q 12 28 12 hq rfl) ?_
            refine am_iload_n (n := 166) d_M_laysPlacings_165 rfl rfl ?_
            refine am_iload (n := 168) d_M_laysPlacings_166 rfl rfl ?_
            obtain ⟨g8, h⟩ := h
            refine am_iast2 (n := 169) d_M_laysPlacings_168 rfl (am_sho (k := 28) (o := 12) hq (by decide) (by decide) (by decide) rfl) g8 rfl ?_
            generalize eI6 : am_u2 I5 (q + 12) (Int32.toNatClampNeg (v3 + 1)) ((I4 (q + 12) (Int32.toNatClampNeg v3)) ||| r2) = I6
            have h := h I6 eI6.symm
            refine am_goto (tgt := 66) d_M_laysPlacings_169 rfl ?_
            refine am_forget (ls' := [some (.ref q), some (.int p1), some (.int p2), some (.int (v3 + 1)), none]) (am_le_s (am_le_s (am_le_s (am_le_s (am_le_n am_le_e))))) ?_
            exact ih I6 (v3 + 1)  h
          · have h := h.1 c6
            refine am_iload (n := 132) d_M_laysPlacings_130 rfl rfl ?_
            refine am_iload_n (n := 133) d_M_laysPlacings_132 rfl rfl ?_
            refine am_icmp_ne (tgt := 169) (n := 136) d_M_laysPlacings_133 rfl rfl (fun c7 => ?_) (fun c7 => ?_)
            · have h := h.2 c7
              refine am_goto (tgt := 66) d_M_laysPlacings_169 rfl ?_
              refine am_forget (ls' := [some (.ref q), some (.int p1), some (.int p2), some (.int v3), none]) (am_le_s (am_le_s (am_le_s (am_le_s (am_le_n am_le_e))))) ?_
              exact ih I4 v3  h
            · have h := h.1 c7
              refine am_aload_n (n := 137) d_M_laysPlacings_136 rfl rfl ?_
              refine am_iload_n (n := 138) d_M_laysPlacings_137 rfl rfl ?_
              refine am_callV (kc := 0) (ks := 0) (As := [.int p2]) (n := 141) d_M_laysPlacings_138 rfl ce_M_counts lk_M_409 in_M_counts rfl rfl hq rfl rfl (Nat.le_of_ble_eq_true rfl) (Or.inl rfl) (cm_M_counts (d := d - 1) hw (by omega) hq h) (by omega) ?_
              rintro _ _ ⟨I7, rfl, rfl, h⟩
              show am_Wp (d, "UnseenRingModel", b_M_laysPlacings, 5, false) 0 0 141 [some (.ref q), some (.int p1), some (.int p2), some (.int v3), some (.int ((I4 (q + 12) (Int32.toNatClampNeg v3)) ||| r2))] [] (I7, L, R, am_SH) (po_M_laysPlacings L R Q)
              refine am_goto (tgt := 169) d_M_laysPlacings_141 rfl ?_
              refine am_goto (tgt := 66) d_M_laysPlacings_169 rfl ?_
              refine am_forget (ls' := [some (.ref q), some (.int p1), some (.int p2), some (.int v3), none]) (am_le_s (am_le_s (am_le_s (am_le_s (am_le_n am_le_e))))) ?_
              exact ih I7 v3  h
        · have h := h.1 c5
          refine am_iinc (v := v3 + (-1)) (ls' := [some (.ref q), some (.int p1), some (.int p2), some (.int (v3 + (-1))), none]) (n := 101) d_M_laysPlacings_98 rfl (congrArg _ ci_m1) (by decide) rfl rfl ?_
          refine am_goto (tgt := 66) d_M_laysPlacings_101 rfl ?_
          exact ih I4 (v3 + (-1))  h
def wb_M_laysPlacings_52 (L : am_TL) (R : am_TR) (q : Nat) (p1 : Int32) (p2 : Int32) (Q : am_TI → Prop)  (I : am_TI) (v3 : Bool) : Prop := (∀ I2, I2 = am_u2 I (q + 11) 0 (-1) → (∀ I3, I3 = am_u2 I2 (q + 12) 0 0 → (∃ z, wl_M_laysPlacings_66 L R q p1 p2 Q z I3 (am_b v3))))
set_option maxRecDepth 20000 in
theorem tb_M_laysPlacings_52 {d : Nat}  {L : am_TL} {R : am_TR} {q : Nat} {p1 : Int32} {p2 : Int32} {Q : am_TI → Prop}  (hw : am_Wf R) (hq : am_SH[q]? = some (.inl 12)) (hd : 3 ≤ d) (I : am_TI) (v3 : Bool) (h : wb_M_laysPlacings_52 L R q p1 p2 Q  I v3) : am_Wp (d, "UnseenRingModel", b_M_laysPlacings, 5, false) 0 0 52 [some (.ref q), some (.int p1), some (.int p2), some (.int (am_b v3)), none] [] (I, L, R, am_SH) (po_M_laysPlacings L R Q) := by
  unfold wb_M_laysPlacings_52 at h
  refine am_aload_n (n := 53) d_M_laysPlacings_52 rfl rfl ?_
  refine am_getR (x := (q + 11)) (n := 56) f_M_53 d_M_laysPlacings_53 rfl rfl hq (hw.1 q 12 27 11 hq rfl) ?_
  refine am_iconst (n := 57) d_M_laysPlacings_56 ci_0 rfl ?_
  refine am_iconst (n := 58) d_M_laysPlacings_57 ci_m1 rfl ?_
  refine am_iast2 (n := 59) d_M_laysPlacings_58 rfl (am_sho (k := 27) (o := 11) hq (by decide) (by decide) (by decide) rfl) cx_0_5 cn_0 ?_
  generalize eI2 : am_u2 I (q + 11) 0 (-1) = I2
  have h := h I2 eI2.symm
  refine am_aload_n (n := 60) d_M_laysPlacings_59 rfl rfl ?_
  refine am_getR (x := (q + 12)) (n := 63) f_M_56 d_M_laysPlacings_60 rfl rfl hq (hw.1 q 12 28 12 hq rfl) ?_
  refine am_iconst (n := 64) d_M_laysPlacings_63 ci_0 rfl ?_
  refine am_iconst (n := 65) d_M_laysPlacings_64 ci_0 rfl ?_
  refine am_iast2 (n := 66) d_M_laysPlacings_65 rfl (am_sho (k := 28) (o := 12) hq (by decide) (by decide) (by decide) rfl) cx_0_5 cn_0 ?_
  generalize eI3 : am_u2 I2 (q + 12) 0 0 = I3
  have h := h I3 eI3.symm
  obtain ⟨n, h⟩ := h
  exact tl_M_laysPlacings_66 hw hq hd n I3 (am_b v3) h
def wl_M_laysPlacings_10 (L : am_TL) (R : am_TR) (q : Nat) (p1 : Int32) (p2 : Int32) (Q : am_TI → Prop)  : Nat → am_TI → Bool → Int32 → Prop
  | 0 => fun _ _ _ => False
  | f10 + 1 => fun I v3 v4 => ((25 ≤ v4 → ((p2 = 0 → ((p1 = 0 → wp_M_counts I L R q 0 (fun (I8 : am_TI) => wb_M_laysPlacings_52 L R q p1 p2 Q I8 v3)) ∧ (¬ p1 = 0 → wb_M_laysPlacings_52 L R q p1 p2 Q I v3))) ∧ (¬ p2 = 0 → wb_M_laysPlacings_52 L R q p1 p2 Q I v3))) ∧ (¬ 25 ≤ v4 → (vp_in v4 25 ∧ (∀ I9, I9 = am_u2 I (q + 13) (Int32.toNatClampNeg v4) 0 → (vp_in v4 25 ∧ (∀ I10, I10 = am_u2 I9 (q + 14) (Int32.toNatClampNeg v4) 0 → wl_M_laysPlacings_10 L R q p1 p2 Q f10 I10 v3 (v4 + 1)))))))
set_option maxRecDepth 20000 in
theorem tl_M_laysPlacings_10 {d : Nat}  {L : am_TL} {R : am_TR} {q : Nat} {p1 : Int32} {p2 : Int32} {Q : am_TI → Prop}  (hw : am_Wf R) (hq : am_SH[q]? = some (.inl 12)) (hd : 3 ≤ d) : ∀ (n : Nat) (I : am_TI) (v3 : Bool) (v4 : Int32), wl_M_laysPlacings_10 L R q p1 p2 Q  n I v3 v4 → am_Wp (d, "UnseenRingModel", b_M_laysPlacings, 5, false) 0 0 10 [some (.ref q), some (.int p1), some (.int p2), some (.int (am_b v3)), some (.int v4)] [] (I, L, R, am_SH) (po_M_laysPlacings L R Q) := by
  intro n
  induction n with
  | zero => intro I v3 v4 h; exact h.elim
  | succ n ih =>
    intro I v3 v4 h
    unfold wl_M_laysPlacings_10 at h
    refine am_iload (n := 12) d_M_laysPlacings_10 rfl rfl ?_
    refine am_bipush (n := 14) d_M_laysPlacings_12 cb_25 rfl ?_
    refine am_icmp_ge (tgt := 39) (n := 17) d_M_laysPlacings_14 rfl rfl (fun c1 => ?_) (fun c1 => ?_)
    · have h := h.1 c1
      refine am_iload_n (n := 40) d_M_laysPlacings_39 rfl rfl ?_
      refine am_if_ne (y := 0) (tgt := 52) (n := 43) d_M_laysPlacings_40 rfl rfl (fun c2 => ?_) (fun c2 => ?_)
      · have h := h.2 c2
        refine am_forget (ls' := [some (.ref q), some (.int p1), some (.int p2), some (.int (am_b v3)), none]) (am_le_s (am_le_s (am_le_s (am_le_s (am_le_n am_le_e))))) ?_
        exact tb_M_laysPlacings_52 hw hq hd I v3 h
      · have h := h.1 c2
        refine am_iload_n (n := 44) d_M_laysPlacings_43 rfl rfl ?_
        refine am_if_ne (y := 0) (tgt := 52) (n := 47) d_M_laysPlacings_44 rfl rfl (fun c8 => ?_) (fun c8 => ?_)
        · have h := h.2 c8
          refine am_forget (ls' := [some (.ref q), some (.int p1), some (.int p2), some (.int (am_b v3)), none]) (am_le_s (am_le_s (am_le_s (am_le_s (am_le_n am_le_e))))) ?_
          exact tb_M_laysPlacings_52 hw hq hd I v3 h
        · have h := h.1 c8
          refine am_aload_n (n := 48) d_M_laysPlacings_47 rfl rfl ?_
          refine am_iconst (n := 49) d_M_laysPlacings_48 ci_0 rfl ?_
          refine am_callV (kc := 0) (ks := 0) (As := [.int 0]) (n := 52) d_M_laysPlacings_49 rfl ce_M_counts lk_M_409 in_M_counts rfl rfl hq rfl rfl (Nat.le_of_ble_eq_true rfl) (Or.inl rfl) (cm_M_counts (d := d - 1) hw (by omega) hq h) (by omega) ?_
          rintro _ _ ⟨I8, rfl, rfl, h⟩
          show am_Wp (d, "UnseenRingModel", b_M_laysPlacings, 5, false) 0 0 52 [some (.ref q), some (.int p1), some (.int p2), some (.int (am_b v3)), some (.int v4)] [] (I8, L, R, am_SH) (po_M_laysPlacings L R Q)
          refine am_forget (ls' := [some (.ref q), some (.int p1), some (.int p2), some (.int (am_b v3)), none]) (am_le_s (am_le_s (am_le_s (am_le_s (am_le_n am_le_e))))) ?_
          exact tb_M_laysPlacings_52 hw hq hd I8 v3 h
    · have h := h.2 c1
      refine am_aload_n (n := 18) d_M_laysPlacings_17 rfl rfl ?_
      refine am_getR (x := (q + 13)) (n := 21) f_M_59 d_M_laysPlacings_18 rfl rfl hq (hw.1 q 12 29 13 hq rfl) ?_
      refine am_iload (n := 23) d_M_laysPlacings_21 rfl rfl ?_
      refine am_iconst (n := 24) d_M_laysPlacings_23 ci_0 rfl ?_
      obtain ⟨g9, h⟩ := h
      refine am_iast2 (n := 25) d_M_laysPlacings_24 rfl (am_sho (k := 29) (o := 13) hq (by decide) (by decide) (by decide) rfl) g9 rfl ?_
      generalize eI9 : am_u2 I (q + 13) (Int32.toNatClampNeg v4) 0 = I9
      have h := h I9 eI9.symm
      refine am_aload_n (n := 26) d_M_laysPlacings_25 rfl rfl ?_
      refine am_getR (x := (q + 14)) (n := 29) f_M_62 d_M_laysPlacings_26 rfl rfl hq (hw.1 q 12 30 14 hq rfl) ?_
      refine am_iload (n := 31) d_M_laysPlacings_29 rfl rfl ?_
      refine am_iconst (n := 32) d_M_laysPlacings_31 ci_0 rfl ?_
      obtain ⟨g10, h⟩ := h
      refine am_iast2 (n := 33) d_M_laysPlacings_32 rfl (am_sho (k := 30) (o := 14) hq (by decide) (by decide) (by decide) rfl) g10 rfl ?_
      generalize eI10 : am_u2 I9 (q + 14) (Int32.toNatClampNeg v4) 0 = I10
      have h := h I10 eI10.symm
      refine am_iinc (v := v4 + 1) (ls' := [some (.ref q), some (.int p1), some (.int p2), some (.int (am_b v3)), some (.int (v4 + 1))]) (n := 36) d_M_laysPlacings_33 rfl (congrArg _ ci_1) (by decide) rfl rfl ?_
      refine am_goto (tgt := 10) d_M_laysPlacings_36 rfl ?_
      exact ih I10 v3 (v4 + 1)  h
def wp_M_laysPlacings (I : am_TI) (L : am_TL) (R : am_TR) (q : Nat) (p1 : Int32) (p2 : Int32)  (Q : am_TI → Prop) : Prop := (∀ I1, I1 = am_u2 I q 33 0 → (∃ z, wl_M_laysPlacings_10 L R q p1 p2 Q z I1 false 0))
set_option maxRecDepth 20000 in
theorem cm_M_laysPlacings {d : Nat} {I : am_TI} {L : am_TL} {R : am_TR}  (hw : am_Wf R)   {q : Nat} {p1 : Int32} {p2 : Int32} {Q : am_TI → Prop} (hd : 3 ≤ d) (hq : am_SH[q]? = some (.inl 12)) (h : wp_M_laysPlacings I L R q p1 p2  Q) : am_Cm d 0 0 y_M_laysPlacings b_M_laysPlacings 5 (none) [.ref q, .int p1, .int p2] (I, L, R, am_SH) (po_M_laysPlacings L R Q) := by
  refine am_Cm_of (ini := false) (by decide +kernel) (fun z => by cases z) (by simp [Value.category]) (fun r σ' z => by obtain ⟨_, rfl, -⟩ := z; rfl) ?_
  unfold wp_M_laysPlacings at h
  show am_Wp (d, "UnseenRingModel", b_M_laysPlacings, 5, false) 0 0 0 [some (.ref q), some (.int p1), some (.int p2), none, none] [] (I, L, R, am_SH) (po_M_laysPlacings L R Q)
  refine am_iconst (n := 1) d_M_laysPlacings_0 ci_0 rfl ?_
  refine am_istore_n (ls' := [some (.ref q), some (.int p1), some (.int p2), some (.int 0), none]) (n := 2) d_M_laysPlacings_1 (by decide) rfl rfl ?_
  refine am_aload_n (n := 3) d_M_laysPlacings_2 rfl rfl ?_
  refine am_iconst (n := 4) d_M_laysPlacings_3 ci_0 rfl ?_
  refine am_putI (n := 7) f_M_406 d_M_laysPlacings_4 rfl ⟨_, rfl, Or.inl rfl⟩ rfl rfl hq ?_
  generalize eI1 : am_u2 I q 33 0 = I1
  have h := h I1 eI1.symm
  refine am_iconst (n := 8) d_M_laysPlacings_7 ci_0 rfl ?_
  refine am_istore (ls' := [some (.ref q), some (.int p1), some (.int p2), some (.int 0), some (.int 0)]) (n := 10) d_M_laysPlacings_8 (by decide) rfl rfl ?_
  obtain ⟨n, h⟩ := h
  exact tl_M_laysPlacings_10 hw hq hd n I1 false 0 h
abbrev po_M_explain (L : am_TL) (R : am_TR) (Q : Int32 → am_TI → Prop) : Option Value → am_St → Prop := fun r σ' => ∃ (x : Int32) (I' : am_TI), r = some (.int x) ∧ σ' = (I', L, R, am_SH) ∧ Q x I'
def wl_M_explain_17 (L : am_TL) (R : am_TR) (q : Nat) (p1 : Int32) (Q : Int32 → am_TI → Prop)  : Nat → am_TI → Int32 → Prop
  | 0 => fun _ _ => False
  | f17 + 1 => fun I v2 => ((4 < v2 → wp_M_refuse I L R q 6 (fun (r2 : Int32) (I1 : am_TI) => Q r2 I1)) ∧ (¬ 4 < v2 → wp_M_laysPlacings I L R q p1 v2 (fun (I2 : am_TI) => (((I2 q 33) ≤ 0 → wl_M_explain_17 L R q p1 Q f17 I2 (v2 + 1)) ∧ (¬ (I2 q 33) ≤ 0 → wp_M_gives I2 L R q v2 (fun (r3 : Int32) (I3 : am_TI) => Q r3 I3))))))
set_option maxRecDepth 20000 in
theorem tl_M_explain_17 {d : Nat}  {L : am_TL} {R : am_TR} {q : Nat} {p1 : Int32} {Q : Int32 → am_TI → Prop}  (hw : am_Wf R) (hq : am_SH[q]? = some (.inl 12)) (hd : 4 ≤ d) : ∀ (n : Nat) (I : am_TI) (v2 : Int32), wl_M_explain_17 L R q p1 Q  n I v2 → am_Wp (d, "UnseenRingModel", b_M_explain, 3, false) 0 0 17 [some (.ref q), some (.int p1), some (.int v2)] [] (I, L, R, am_SH) (po_M_explain L R Q) := by
  intro n
  induction n with
  | zero => intro I v2 h; exact h.elim
  | succ n ih =>
    intro I v2 h
    unfold wl_M_explain_17 at h
    refine am_iload_n (n := 18) d_M_explain_17 rfl rfl ?_
    refine am_iconst (n := 19) d_M_explain_18 ci_4 rfl ?_
    refine am_icmp_gt (tgt := 47) (n := 22) d_M_explain_19 rfl rfl (fun c2 => ?_) (fun c2 => ?_)
    · have h := h.1 c2
      refine am_aload_n (n := 48) d_M_explain_47 rfl rfl ?_
      refine am_bipush (n := 50) d_M_explain_48 cb_6 rfl ?_
      refine am_callV (kc := 0) (ks := 0) (As := [.int 6]) (n := 53) d_M_explain_50 rfl ce_M_refuse lk_M_121 in_M_refuse rfl rfl hq rfl rfl (Nat.le_of_ble_eq_true rfl) (Or.inl rfl) (cm_M_refuse (d := d - 1) hw (by omega) hq h) (by omega) ?_
      rintro _ _ ⟨r2, I1, rfl, rfl, h⟩
      show am_Wp (d, "UnseenRingModel", b_M_explain, 3, false) 0 0 53 [some (.ref q), some (.int p1), some (.int v2)] [.int r2] (I1, L, R, am_SH) (po_M_explain L R Q)
      exact am_iret d_M_explain_53 ⟨r2, I1, rfl, rfl, h⟩
    · have h := h.2 c2
      refine am_aload_n (n := 23) d_M_explain_22 rfl rfl ?_
      refine am_iload_n (n := 24) d_M_explain_23 rfl rfl ?_
      refine am_iload_n (n := 25) d_M_explain_24 rfl rfl ?_
      refine am_callV (kc := 0) (ks := 0) (As := [.int p1, .int v2]) (n := 28) d_M_explain_25 rfl ce_M_laysPlacings lk_M_415 in_M_laysPlacings rfl rfl hq rfl rfl (Nat.le_of_ble_eq_true rfl) (Or.inl rfl) (cm_M_laysPlacings (d := d - 1) hw (by omega) hq h) (by omega) ?_
      rintro _ _ ⟨I2, rfl, rfl, h⟩
      show am_Wp (d, "UnseenRingModel", b_M_explain, 3, false) 0 0 28 [some (.ref q), some (.int p1), some (.int v2)] [] (I2, L, R, am_SH) (po_M_explain L R Q)
      refine am_aload_n (n := 29) d_M_explain_28 rfl rfl ?_
      refine am_getI (n := 32) f_M_406 d_M_explain_29 rfl rfl hq ?_
      refine am_if_le (y := 0) (tgt := 41) (n := 35) d_M_explain_32 rfl rfl (fun c3 => ?_) (fun c3 => ?_)
      · have h := h.1 c3
        refine am_iinc (v := v2 + 1) (ls' := [some (.ref q), some (.int p1), some (.int (v2 + 1))]) (n := 44) d_M_explain_41 rfl (congrArg _ ci_1) (by decide) rfl rfl ?_
        refine am_goto (tgt := 17) d_M_explain_44 rfl ?_
        exact ih I2 (v2 + 1)  h
      · have h := h.2 c3
        refine am_aload_n (n := 36) d_M_explain_35 rfl rfl ?_
        refine am_iload_n (n := 37) d_M_explain_36 rfl rfl ?_
        refine am_callV (kc := 0) (ks := 0) (As := [.int v2]) (n := 40) d_M_explain_37 rfl ce_M_gives lk_M_125 in_M_gives rfl rfl hq rfl rfl (Nat.le_of_ble_eq_true rfl) (Or.inl rfl) (cm_M_gives (d := d - 1) hw (by omega) hq h) (by omega) ?_
        rintro _ _ ⟨r3, I3, rfl, rfl, h⟩
        show am_Wp (d, "UnseenRingModel", b_M_explain, 3, false) 0 0 40 [some (.ref q), some (.int p1), some (.int v2)] [.int r3] (I3, L, R, am_SH) (po_M_explain L R Q)
        exact am_iret d_M_explain_40 ⟨r3, I3, rfl, rfl, h⟩
def wp_M_explain (I : am_TI) (L : am_TL) (R : am_TR) (q : Nat) (p1 : Int32)  (Q : Int32 → am_TI → Prop) : Prop := wp_M_areDogs I L R q (Int32.toInt64 p1) (fun (r1 : Bool) => ((r1 = false → wp_M_refuse I L R q 1 (fun (r4 : Int32) (I4 : am_TI) => Q r4 I4)) ∧ (r1 = true → (∃ z, wl_M_explain_17 L R q p1 Q z I 0))))
set_option maxRecDepth 20000 in
theorem cm_M_explain {d : Nat} {I : am_TI} {L : am_TL} {R : am_TR}  (hw : am_Wf R)   {q : Nat} {p1 : Int32} {Q : Int32 → am_TI → Prop} (hd : 4 ≤ d) (hq : am_SH[q]? = some (.inl 12)) (h : wp_M_explain I L R q p1  Q) : am_Cm d 0 0 y_M_explain b_M_explain 3 (some .int) [.ref q, .int p1] (I, L, R, am_SH) (po_M_explain L R Q) := by
  refine am_Cm_of (ini := false) (by decide +kernel) (fun z => by cases z) (by simp [Value.category]) (fun r σ' z => by obtain ⟨x, _, rfl, -⟩ := z; exact ⟨_, rfl, rfl⟩) ?_
  unfold wp_M_explain at h
  show am_Wp (d, "UnseenRingModel", b_M_explain, 3, false) 0 0 0 [some (.ref q), some (.int p1), none] [] (I, L, R, am_SH) (po_M_explain L R Q)
  refine am_aload_n (n := 1) d_M_explain_0 rfl rfl ?_
  refine am_iload_n (n := 2) d_M_explain_1 rfl rfl ?_
  refine am_i2l (n := 3) d_M_explain_2 rfl ?_
  refine am_callV (kc := 0) (ks := 0) (As := [.long (Int32.toInt64 p1)]) (n := 6) d_M_explain_3 rfl ce_M_areDogs lk_M_412 in_M_areDogs rfl rfl hq rfl rfl (Nat.le_of_ble_eq_true rfl) (Or.inl rfl) (cm_M_areDogs (d := d - 1) hw (by omega) hq h) (by omega) ?_
  rintro _ _ ⟨r1, rfl, rfl, h⟩
  show am_Wp (d, "UnseenRingModel", b_M_explain, 3, false) 0 0 6 [some (.ref q), some (.int p1), none] [.int (am_b r1)] (I, L, R, am_SH) (po_M_explain L R Q)
  refine am_if_ne (y := 0) (tgt := 15) (n := 9) d_M_explain_6 rfl rfl (fun c1 => ?_) (fun c1 => ?_)
  · have h := h.2 (am_b_n0 c1)
    refine am_iconst (n := 16) d_M_explain_15 ci_0 rfl ?_
    refine am_istore_n (ls' := [some (.ref q), some (.int p1), some (.int 0)]) (n := 17) d_M_explain_16 (by decide) rfl rfl ?_
    obtain ⟨n, h⟩ := h
    exact tl_M_explain_17 hw hq hd n I 0 h
  · have h := h.1 (am_b_0 c1)
    refine am_aload_n (n := 10) d_M_explain_9 rfl rfl ?_
    refine am_iconst (n := 11) d_M_explain_10 ci_1 rfl ?_
    refine am_callV (kc := 0) (ks := 0) (As := [.int 1]) (n := 14) d_M_explain_11 rfl ce_M_refuse lk_M_121 in_M_refuse rfl rfl hq rfl rfl (Nat.le_of_ble_eq_true rfl) (Or.inl rfl) (cm_M_refuse (d := d - 1) hw (by omega) hq h) (by omega) ?_
    rintro _ _ ⟨r4, I4, rfl, rfl, h⟩
    show am_Wp (d, "UnseenRingModel", b_M_explain, 3, false) 0 0 14 [some (.ref q), some (.int p1), none] [.int r4] (I4, L, R, am_SH) (po_M_explain L R Q)
    exact am_iret d_M_explain_14 ⟨r4, I4, rfl, rfl, h⟩
abbrev po_M_isPlacing (I : am_TI) (L : am_TL) (R : am_TR) (Q : Bool → Prop) : Option Value → am_St → Prop := fun r σ' => ∃ (x : Bool), r = some (.int (am_b x)) ∧ σ' = (I, L, R, am_SH) ∧ Q x
def wp_M_isPlacing (I : am_TI) (L : am_TL) (R : am_TR) (q : Nat) (p1 : Int32) (p2 : Int32)  (Q : Bool → Prop) : Prop := wp_M_areDogs I L R q (Int32.toInt64 p1) (fun (r1 : Bool) => ((r1 = false → Q false) ∧ (r1 = true → wp_M_isFrom I L R (Int32.toInt64 p2) 0 4 (fun (r2 : Bool) => ((r2 = false → Q false) ∧ (r2 = true → Q true))))))
set_option maxRecDepth 20000 in
theorem cm_M_isPlacing {d : Nat} {I : am_TI} {L : am_TL} {R : am_TR}  (hw : am_Wf R)   {q : Nat} {p1 : Int32} {p2 : Int32} {Q : Bool → Prop} (hd : 2 ≤ d) (hq : am_SH[q]? = some (.inl 12)) (h : wp_M_isPlacing I L R q p1 p2  Q) : am_Cm d 0 0 y_M_isPlacing b_M_isPlacing 3 (some .boolean) [.ref q, .int p1, .int p2] (I, L, R, am_SH) (po_M_isPlacing I L R Q) := by
  refine am_Cm_of (ini := false) (by decide +kernel) (fun z => by cases z) (by simp [Value.category]) (fun r σ' z => by obtain ⟨x, rfl, -⟩ := z; exact ⟨_, rfl, am_b_nar x⟩) ?_
  unfold wp_M_isPlacing at h
  show am_Wp (d, "UnseenRingModel", b_M_isPlacing, 3, false) 0 0 0 [some (.ref q), some (.int p1), some (.int p2)] [] (I, L, R, am_SH) (po_M_isPlacing I L R Q)
  refine am_aload_n (n := 1) d_M_isPlacing_0 rfl rfl ?_
  refine am_iload_n (n := 2) d_M_isPlacing_1 rfl rfl ?_
  refine am_i2l (n := 3) d_M_isPlacing_2 rfl ?_
  refine am_callV (kc := 0) (ks := 0) (As := [.long (Int32.toInt64 p1)]) (n := 6) d_M_isPlacing_3 rfl ce_M_areDogs lk_M_412 in_M_areDogs rfl rfl hq rfl rfl (Nat.le_of_ble_eq_true rfl) (Or.inl rfl) (cm_M_areDogs (d := d - 1) hw (by omega) hq h) (by omega) ?_
  rintro _ _ ⟨r1, rfl, rfl, h⟩
  show am_Wp (d, "UnseenRingModel", b_M_isPlacing, 3, false) 0 0 6 [some (.ref q), some (.int p1), some (.int p2)] [.int (am_b r1)] (I, L, R, am_SH) (po_M_isPlacing I L R Q)
  refine am_if_eq (y := 0) (tgt := 25) (n := 9) d_M_isPlacing_6 rfl rfl (fun c1 => ?_) (fun c1 => ?_)
  · have h := h.1 (am_b_0 c1)
    refine am_iconst (n := 26) d_M_isPlacing_25 ci_0 rfl ?_
    exact am_iret d_M_isPlacing_26 ⟨false, rfl, rfl, h⟩
  · have h := h.2 (am_b_n0 c1)
    refine am_iload_n (n := 10) d_M_isPlacing_9 rfl rfl ?_
    refine am_i2l (n := 11) d_M_isPlacing_10 rfl ?_
    refine am_lconst (v := 0) (n := 12) d_M_isPlacing_11 rfl rfl ?_
    refine am_ldc2 (n := 15) d_M_isPlacing_12 k_M_419 rfl ?_
    refine am_callS (kc := 0) (ks := 0) (As := [.long (Int32.toInt64 p2), .long 0, .long 4]) (n := 18) d_M_isPlacing_15 rfl ce_M_isFrom lk_M_306 st_M_isFrom rfl rfl (Nat.le_of_ble_eq_true rfl) (Or.inl rfl) (cm_M_isFrom (d := d - 1) hw (by omega)  h) (by omega) ?_
    rintro _ _ ⟨r2, rfl, rfl, h⟩
    show am_Wp (d, "UnseenRingModel", b_M_isPlacing, 3, false) 0 0 18 [some (.ref q), some (.int p1), some (.int p2)] [.int (am_b r2)] (I, L, R, am_SH) (po_M_isPlacing I L R Q)
    refine am_if_eq (y := 0) (tgt := 25) (n := 21) d_M_isPlacing_18 rfl rfl (fun c2 => ?_) (fun c2 => ?_)
    · have h := h.1 (am_b_0 c2)
      refine am_iconst (n := 26) d_M_isPlacing_25 ci_0 rfl ?_
      exact am_iret d_M_isPlacing_26 ⟨false, rfl, rfl, h⟩
    · have h := h.2 (am_b_n0 c2)
      refine am_iconst (n := 22) d_M_isPlacing_21 ci_1 rfl ?_
      refine am_goto (tgt := 26) d_M_isPlacing_22 rfl ?_
      exact am_iret d_M_isPlacing_26 ⟨true, rfl, rfl, h⟩
