abbrev po_M_crowd (R : am_TR) (Q : Bool → am_TI → am_TL → Prop) : Option Value → am_St → Prop := fun r σ' => ∃ (x : Bool) (I' : am_TI) (L' : am_TL), r = some (.int (am_b x)) ∧ σ' = (I', L', R, am_SH) ∧ Q x I' L'
def wl_M_crowd_152 (R : am_TR) (q : Nat) (p1 : Int32) (Q : Bool → am_TI → am_TL → Prop)  : Nat → am_TI → am_TL → Int64 → Int64 → Int32 → Prop
  | 0 => fun _ _ _ _ _ => False
  | f152 + 1 => fun I L v2 v4 v6 => ((7 ≤ v6 → wp_M_tellsBy I L R q v4 v2 (fun (r2 : Bool) (I1 : am_TI) (L1 : am_TL) => Q r2 I1 L1)) ∧ (¬ 7 ≤ v6 → (vp_in v6 7 ∧ wl_M_crowd_152 R q p1 Q f152 I L v2 (v4 + (L (q + 26) (Int32.toNatClampNeg v6))) (v6 + 1))))
set_option maxRecDepth 20000 in
theorem tl_M_crowd_152 {d : Nat}  {R : am_TR} {q : Nat} {p1 : Int32} {Q : Bool → am_TI → am_TL → Prop}  (hw : am_Wf R) (hq : am_SH[q]? = some (.inl 12)) (hd : 2 ≤ d) : ∀ (n : Nat) (I : am_TI) (L : am_TL) (v2 : Int64) (v4 : Int64) (v6 : Int32), wl_M_crowd_152 R q p1 Q  n I L v2 v4 v6 → am_Wp (d, "UnseenRingModel", b_M_crowd, 7, false) 0 0 152 [some (.ref q), some (.int p1), some (.long v2), none, some (.long v4), none, some (.int v6)] [] (I, L, R, am_SH) (po_M_crowd R Q) := by
  intro n
  induction n with
  | zero => intro I L v2 v4 v6 h; exact h.elim
  | succ n ih =>
    intro I L v2 v4 v6 h
    unfold wl_M_crowd_152 at h
    refine am_iload (n := 154) d_M_crowd_152 rfl rfl ?_
    refine am_bipush (n := 156) d_M_crowd_154 cb_7 rfl ?_
    refine am_icmp_ge (tgt := 177) (n := 159) d_M_crowd_156 rfl rfl (fun c4 => ?_) (fun c4 => ?_)
    · have h := h.1 c4
      refine am_aload_n (n := 178) d_M_crowd_177 rfl rfl ?_
      refine am_lload (n := 180) d_M_crowd_178 rfl rfl ?_
      refine am_lload_n (n := 181) d_M_crowd_180 rfl rfl ?_
      refine am_callV (kc := 0) (ks := 0) (As := [.long v4, .long v2]) (n := 184) d_M_crowd_181 rfl ce_M_tellsBy lk_M_427 in_M_tellsBy rfl rfl hq rfl rfl (Nat.le_of_ble_eq_true rfl) (Or.inl rfl) (cm_M_tellsBy (d := d - 1) hw (by omega) hq h) (by omega) ?_
      rintro _ _ ⟨r2, I1, L1, rfl, rfl, h⟩
      show am_Wp (d, "UnseenRingModel", b_M_crowd, 7, false) 0 0 184 [some (.ref q), some (.int p1), some (.long v2), none, some (.long v4), none, some (.int v6)] [.int (am_b r2)] (I1, L1, R, am_SH) (po_M_crowd R Q)
      exact am_iret d_M_crowd_184 ⟨r2, I1, L1, rfl, rfl, h⟩
    · have h := h.2 c4
      refine am_lload (n := 161) d_M_crowd_159 rfl rfl ?_
      refine am_aload_n (n := 162) d_M_crowd_161 rfl rfl ?_
      refine am_getR (x := (q + 26)) (n := 165) f_M_99 d_M_crowd_162 rfl rfl hq (hw.1 q 12 43 26 hq rfl) ?_
      refine am_iload (n := 167) d_M_crowd_165 rfl rfl ?_
      obtain ⟨g1, h⟩ := h
      refine am_lald2 (n := 168) d_M_crowd_167 rfl (am_sho (k := 43) (o := 26) hq (by decide) (by decide) (by decide) rfl) g1 rfl ?_
      refine am_ladd (n := 169) d_M_crowd_168 rfl ?_
      refine am_lstore (ls' := [some (.ref q), some (.int p1), some (.long v2), none, some (.long (v4 + (L (q + 26) (Int32.toNatClampNeg v6)))), none, some (.int v6)]) (n := 171) d_M_crowd_169 (by decide) rfl rfl ?_
      refine am_iinc (v := v6 + 1) (ls' := [some (.ref q), some (.int p1), some (.long v2), none, some (.long (v4 + (L (q + 26) (Int32.toNatClampNeg v6)))), none, some (.int (v6 + 1))]) (n := 174) d_M_crowd_171 rfl (congrArg _ ci_1) (by decide) rfl rfl ?_
      refine am_goto (tgt := 152) d_M_crowd_174 rfl ?_
      exact ih I L v2 (v4 + (L (q + 26) (Int32.toNatClampNeg v6))) (v6 + 1)  h
def wl_M_crowd_71 (R : am_TR) (q : Nat) (p1 : Int32) (Q : Bool → am_TI → am_TL → Prop) (K56 : am_TI → am_TL → Int64 → Int32 → Prop) : Nat → am_TI → am_TL → Int64 → Int32 → Int32 → Prop
  | 0 => fun _ _ _ _ _ => False
  | f71 + 1 => fun I L v2 v4 v5 => ((v5 < 0 → K56 I L (v2 * 16) (v4 + 1)) ∧ (¬ v5 < 0 → (vp_in v5 7 ∧ ((v5 = 0 → (vp_in v5 7 ∧ (∀ L3, L3 = am_u2 L (q + 26) (Int32.toNatClampNeg v5) (((L (q + 26) (Int32.toNatClampNeg v5)) * (Int32.toInt64 (16 - (I (q + 1) 5)))) + 0) → wl_M_crowd_71 R q p1 Q K56 f71 I L3 v2 v4 (v5 + (-1))))) ∧ (¬ v5 = 0 → (vp_in (v5 - 1) 7 ∧ (vp_in v5 7 ∧ (∀ L2, L2 = am_u2 L (q + 26) (Int32.toNatClampNeg v5) (((L (q + 26) (Int32.toNatClampNeg v5)) * (Int32.toInt64 (16 - (I (q + 1) 5)))) + ((L (q + 26) (Int32.toNatClampNeg (v5 - 1))) * (Int32.toInt64 (I (q + 1) 5)))) → wl_M_crowd_71 R q p1 Q K56 f71 I L2 v2 v4 (v5 + (-1))))))))))
set_option maxRecDepth 20000 in
theorem tl_M_crowd_71 {d : Nat}  {R : am_TR} {q : Nat} {p1 : Int32} {Q : Bool → am_TI → am_TL → Prop} {K56 : am_TI → am_TL → Int64 → Int32 → Prop} (hw : am_Wf R) (hq : am_SH[q]? = some (.inl 12)) (hK56 : ∀ (I : am_TI) (L : am_TL) (v2 : Int64) (v4 : Int32), K56 I L v2 v4 → am_Wp (d, "UnseenRingModel", b_M_crowd, 7, false) 0 0 56 [some (.ref q), some (.int p1), some (.long v2), none, some (.int v4), none, none] [] (I, L, R, am_SH) (po_M_crowd R Q)) (hd : 2 ≤ d) : ∀ (n : Nat) (I : am_TI) (L : am_TL) (v2 : Int64) (v4 : Int32) (v5 : Int32), wl_M_crowd_71 R q p1 Q K56 n I L v2 v4 v5 → am_Wp (d, "UnseenRingModel", b_M_crowd, 7, false) 0 0 71 [some (.ref q), some (.int p1), some (.long v2), none, some (.int v4), some (.int v5), none] [] (I, L, R, am_SH) (po_M_crowd R Q) := by
  intro n
  induction n with
  | zero => intro I L v2 v4 v5 h; exact h.elim
  | succ n ih =>
    intro I L v2 v4 v5 h
    unfold wl_M_crowd_71 at h
    refine am_iload (n := 73) d_M_crowd_71 rfl rfl ?_
    refine am_if_lt (y := 0) (tgt := 134) (n := 76) d_M_crowd_73 rfl rfl (fun c5 => ?_) (fun c5 => ?_)
    · have h := h.1 c5
      refine am_lload_n (n := 135) d_M_crowd_134 rfl rfl ?_
      refine am_ldc2 (n := 138) d_M_crowd_135 k_M_372 rfl ?_
      refine am_lmul (n := 139) d_M_crowd_138 rfl ?_
      refine am_lstore_n (ls' := [some (.ref q), some (.int p1), some (.long (v2 * 16)), none, some (.int v4), some (.int v5), none]) (n := 140) d_M_crowd_139 (by decide) rfl rfl ?_
      refine am_iinc (v := v4 + 1) (ls' := [some (.ref q), some (.int p1), some (.long (v2 * 16)), none, some (.int (v4 + 1)), some (.int v5), none]) (n := 143) d_M_crowd_140 rfl (congrArg _ ci_1) (by decide) rfl rfl ?_
      refine am_goto (tgt := 56) d_M_crowd_143 rfl ?_
      refine am_forget (ls' := [some (.ref q), some (.int p1), some (.long (v2 * 16)), none, some (.int (v4 + 1)), none, none]) (am_le_s (am_le_s (am_le_s (am_le_n (am_le_s (am_le_n (am_le_n am_le_e))))))) ?_
      exact hK56 I L (v2 * 16) (v4 + 1)  h
    · have h := h.2 c5
      refine am_aload_n (n := 77) d_M_crowd_76 rfl rfl ?_
      refine am_getR (x := (q + 26)) (n := 80) f_M_99 d_M_crowd_77 rfl rfl hq (hw.1 q 12 43 26 hq rfl) ?_
      refine am_iload (n := 82) d_M_crowd_80 rfl rfl ?_
      refine am_aload_n (n := 83) d_M_crowd_82 rfl rfl ?_
      refine am_getR (x := (q + 26)) (n := 86) f_M_99 d_M_crowd_83 rfl rfl hq (hw.1 q 12 43 26 hq rfl) ?_
      refine am_iload (n := 88) d_M_crowd_86 rfl rfl ?_
      obtain ⟨g2, h⟩ := h
      refine am_lald2 (n := 89) d_M_crowd_88 rfl (am_sho (k := 43) (o := 26) hq (by decide) (by decide) (by decide) rfl) g2 rfl ?_
      refine am_bipush (n := 91) d_M_crowd_89 cb_16 rfl ?_
      refine am_aload_n (n := 92) d_M_crowd_91 rfl rfl ?_
      refine am_getR (x := (q + 1)) (n := 95) f_M_7 d_M_crowd_92 rfl rfl hq (hw.1 q 12 0 1 hq rfl) ?_
      refine am_iconst (n := 96) d_M_crowd_95 ci_5 rfl ?_
      refine am_iald2 (n := 97) d_M_crowd_96 rfl (am_sho (k := 0) (o := 1) hq (by decide) (by decide) (by decide) rfl) cx_5_2258 cn_5 ?_
      refine am_isub (n := 98) d_M_crowd_97 rfl ?_
      refine am_i2l (n := 99) d_M_crowd_98 rfl ?_
      refine am_lmul (n := 100) d_M_crowd_99 rfl ?_
      refine am_iload (n := 102) d_M_crowd_100 rfl rfl ?_
      refine am_if_ne (y := 0) (tgt := 109) (n := 105) d_M_crowd_102 rfl rfl (fun c6 => ?_) (fun c6 => ?_)
      · have h := h.2 c6
        refine am_aload_n (n := 110) d_M_crowd_109 rfl rfl ?_
        refine am_getR (x := (q + 26)) (n := 113) f_M_99 d_M_crowd_110 rfl rfl hq (hw.1 q 12 43 26 hq rfl) ?_
        refine am_iload (n := 115) d_M_crowd_113 rfl rfl ?_
        refine am_iconst (n := 116) d_M_crowd_115 ci_1 rfl ?_
        refine am_isub (n := 117) d_M_crowd_116 rfl ?_
        obtain ⟨g3, h⟩ := h
        refine am_lald2 (n := 118) d_M_crowd_117 rfl (am_sho (k := 43) (o := 26) hq (by decide) (by decide) (by decide) rfl) g3 rfl ?_
        refine am_aload_n (n := 119) d_M_crowd_118 rfl rfl ?_
        refine am_getR (x := (q + 1)) (n := 122) f_M_7 d_M_crowd_119 rfl rfl hq (hw.1 q 12 0 1 hq rfl) ?_
        refine am_iconst (n := 123) d_M_crowd_122 ci_5 rfl ?_
        refine am_iald2 (n := 124) d_M_crowd_123 rfl (am_sho (k := 0) (o := 1) hq (by decide) (by decide) (by decide) rfl) cx_5_2258 cn_5 ?_
        refine am_i2l (n := 125) d_M_crowd_124 rfl ?_
        refine am_lmul (n := 126) d_M_crowd_125 rfl ?_
        refine am_ladd (n := 127) d_M_crowd_126 rfl ?_
        obtain ⟨g4, h⟩ := h
        refine am_last2 (n := 128) d_M_crowd_127 rfl (am_sho (k := 43) (o := 26) hq (by decide) (by decide) (by decide) rfl) g4 rfl ?_
        generalize eL2 : am_u2 L (q + 26) (Int32.toNatClampNeg v5) (((L (q + 26) (Int32.toNatClampNeg v5)) * (Int32.toInt64 (16 - (I (q + 1) 5)))) + ((L (q + 26) (Int32.toNatClampNeg (v5 - 1))) * (Int32.toInt64 (I (q + 1) 5)))) = L2
        have h := h L2 eL2.symm
        refine am_iinc (v := v5 + (-1)) (ls' := [some (.ref q), some (.int p1), some (.long v2), none, some (.int v4), some (.int (v5 + (-1))), none]) (n := 131) d_M_crowd_128 rfl (congrArg _ ci_m1) (by decide) rfl rfl ?_
        refine am_goto (tgt := 71) d_M_crowd_131 rfl ?_
        exact ih I L2 v2 v4 (v5 + (-1))  h
      · have h := h.1 c6
        refine am_lconst (v := 0) (n := 106) d_M_crowd_105 rfl rfl ?_
        refine am_goto (tgt := 126) d_M_crowd_106 rfl ?_
        refine am_ladd (n := 127) d_M_crowd_126 rfl ?_
        obtain ⟨g5, h⟩ := h
        refine am_last2 (n := 128) d_M_crowd_127 rfl (am_sho (k := 43) (o := 26) hq (by decide) (by decide) (by decide) rfl) g5 rfl ?_
        generalize eL3 : am_u2 L (q + 26) (Int32.toNatClampNeg v5) (((L (q + 26) (Int32.toNatClampNeg v5)) * (Int32.toInt64 (16 - (I (q + 1) 5)))) + 0) = L3
        have h := h L3 eL3.symm
        refine am_iinc (v := v5 + (-1)) (ls' := [some (.ref q), some (.int p1), some (.long v2), none, some (.int v4), some (.int (v5 + (-1))), none]) (n := 131) d_M_crowd_128 rfl (congrArg _ ci_m1) (by decide) rfl rfl ?_
        refine am_goto (tgt := 71) d_M_crowd_131 rfl ?_
        exact ih I L3 v2 v4 (v5 + (-1))  h
def wl_M_crowd_56 (R : am_TR) (q : Nat) (p1 : Int32) (Q : Bool → am_TI → am_TL → Prop)  : Nat → am_TI → am_TL → Int64 → Int32 → Prop
  | 0 => fun _ _ _ _ => False
  | f56 + 1 => fun I L v2 v4 => (((I (q + 1) 3) ≤ v4 → (∃ z, wl_M_crowd_152 R q p1 Q z I L v2 0 p1)) ∧ (¬ (I (q + 1) 3) ≤ v4 → (∃ z, wl_M_crowd_71 R q p1 Q (wl_M_crowd_56 R q p1 Q f56) z I L v2 v4 6)))
set_option maxRecDepth 20000 in
theorem tl_M_crowd_56 {d : Nat}  {R : am_TR} {q : Nat} {p1 : Int32} {Q : Bool → am_TI → am_TL → Prop}  (hw : am_Wf R) (hq : am_SH[q]? = some (.inl 12)) (hd : 2 ≤ d) : ∀ (n : Nat) (I : am_TI) (L : am_TL) (v2 : Int64) (v4 : Int32), wl_M_crowd_56 R q p1 Q  n I L v2 v4 → am_Wp (d, "UnseenRingModel", b_M_crowd, 7, false) 0 0 56 [some (.ref q), some (.int p1), some (.long v2), none, some (.int v4), none, none] [] (I, L, R, am_SH) (po_M_crowd R Q) := by
  intro n
  induction n with
  | zero => intro I L v2 v4 h; exact h.elim
  | succ n ih =>
    intro I L v2 v4 h
    unfold wl_M_crowd_56 at h
    refine am_iload (n := 58) d_M_crowd_56 rfl rfl ?_
    refine am_aload_n (n := 59) d_M_crowd_58 rfl rfl ?_
    refine am_getR (x := (q + 1)) (n := 62) f_M_7 d_M_crowd_59 rfl rfl hq (hw.1 q 12 0 1 hq rfl) ?_
    refine am_iconst (n := 63) d_M_crowd_62 ci_3 rfl ?_
    refine am_iald2 (n := 64) d_M_crowd_63 rfl (am_sho (k := 0) (o := 1) hq (by decide) (by decide) (by decide) rfl) cx_3_2258 cn_3 ?_
    refine am_icmp_ge (tgt := 146) (n := 67) d_M_crowd_64 rfl rfl (fun c3 => ?_) (fun c3 => ?_)
    · have h := h.1 c3
      refine am_lconst (v := 0) (n := 147) d_M_crowd_146 rfl rfl ?_
      refine am_lstore (ls' := [some (.ref q), some (.int p1), some (.long v2), none, some (.long 0), none, none]) (n := 149) d_M_crowd_147 (by decide) rfl rfl ?_
      refine am_iload_n (n := 150) d_M_crowd_149 rfl rfl ?_
      refine am_istore (ls' := [some (.ref q), some (.int p1), some (.long v2), none, some (.long 0), none, some (.int p1)]) (n := 152) d_M_crowd_150 (by decide) rfl rfl ?_
      obtain ⟨n, h⟩ := h
      exact tl_M_crowd_152 hw hq hd n I L v2 0 p1 h
    · have h := h.2 c3
      refine am_bipush (n := 69) d_M_crowd_67 cb_6 rfl ?_
      refine am_istore (ls' := [some (.ref q), some (.int p1), some (.long v2), none, some (.int v4), some (.int 6), none]) (n := 71) d_M_crowd_69 (by decide) rfl rfl ?_
      obtain ⟨n, h⟩ := h
      exact tl_M_crowd_71 hw hq ih hd n I L v2 v4 6 h
def wl_M_crowd_23 (R : am_TR) (q : Nat) (p1 : Int32) (Q : Bool → am_TI → am_TL → Prop)  : Nat → am_TI → am_TL → Int64 → Int32 → Prop
  | 0 => fun _ _ _ _ => False
  | f23 + 1 => fun I L v2 v4 => ((7 ≤ v4 → (∃ z, wl_M_crowd_56 R q p1 Q z I L v2 0)) ∧ (¬ 7 ≤ v4 → ((v4 = 0 → (vp_in v4 7 ∧ (∀ L5, L5 = am_u2 L (q + 26) (Int32.toNatClampNeg v4) 1 → wl_M_crowd_23 R q p1 Q f23 I L5 v2 (v4 + 1)))) ∧ (¬ v4 = 0 → (vp_in v4 7 ∧ (∀ L4, L4 = am_u2 L (q + 26) (Int32.toNatClampNeg v4) 0 → wl_M_crowd_23 R q p1 Q f23 I L4 v2 (v4 + 1)))))))
set_option maxRecDepth 20000 in
theorem tl_M_crowd_23 {d : Nat}  {R : am_TR} {q : Nat} {p1 : Int32} {Q : Bool → am_TI → am_TL → Prop}  (hw : am_Wf R) (hq : am_SH[q]? = some (.inl 12)) (hd : 2 ≤ d) : ∀ (n : Nat) (I : am_TI) (L : am_TL) (v2 : Int64) (v4 : Int32), wl_M_crowd_23 R q p1 Q  n I L v2 v4 → am_Wp (d, "UnseenRingModel", b_M_crowd, 7, false) 0 0 23 [some (.ref q), some (.int p1), some (.long v2), none, some (.int v4), none, none] [] (I, L, R, am_SH) (po_M_crowd R Q) := by
  intro n
  induction n with
  | zero => intro I L v2 v4 h; exact h.elim
  | succ n ih =>
    intro I L v2 v4 h
    unfold wl_M_crowd_23 at h
    refine am_iload (n := 25) d_M_crowd_23 rfl rfl ?_
    refine am_bipush (n := 27) d_M_crowd_25 cb_7 rfl ?_
    refine am_icmp_ge (tgt := 53) (n := 30) d_M_crowd_27 rfl rfl (fun c2 => ?_) (fun c2 => ?_)
    · have h := h.1 c2
      refine am_iconst (n := 54) d_M_crowd_53 ci_0 rfl ?_
      refine am_istore (ls' := [some (.ref q), some (.int p1), some (.long v2), none, some (.int 0), none, none]) (n := 56) d_M_crowd_54 (by decide) rfl rfl ?_
      obtain ⟨n, h⟩ := h
      exact tl_M_crowd_56 hw hq hd n I L v2 0 h
    · have h := h.2 c2
      refine am_aload_n (n := 31) d_M_crowd_30 rfl rfl ?_
      refine am_getR (x := (q + 26)) (n := 34) f_M_99 d_M_crowd_31 rfl rfl hq (hw.1 q 12 43 26 hq rfl) ?_
      refine am_iload (n := 36) d_M_crowd_34 rfl rfl ?_
      refine am_iload (n := 38) d_M_crowd_36 rfl rfl ?_
      refine am_if_ne (y := 0) (tgt := 45) (n := 41) d_M_crowd_38 rfl rfl (fun c7 => ?_) (fun c7 => ?_)
      · have h := h.2 c7
        refine am_lconst (v := 0) (n := 46) d_M_crowd_45 rfl rfl ?_
        obtain ⟨g6, h⟩ := h
        refine am_last2 (n := 47) d_M_crowd_46 rfl (am_sho (k := 43) (o := 26) hq (by decide) (by decide) (by decide) rfl) g6 rfl ?_
        generalize eL4 : am_u2 L (q + 26) (Int32.toNatClampNeg v4) 0 = L4
        have h := h L4 eL4.symm
        refine am_iinc (v := v4 + 1) (ls' := [some (.ref q), some (.int p1), some (.long v2), none, some (.int (v4 + 1)), none, none]) (n := 50) d_M_crowd_47 rfl (congrArg _ ci_1) (by decide) rfl rfl ?_
        refine am_goto (tgt := 23) d_M_crowd_50 rfl ?_
        exact ih I L4 v2 (v4 + 1)  h
      · have h := h.1 c7
        refine am_lconst (v := 1) (n := 42) d_M_crowd_41 rfl rfl ?_
        refine am_goto (tgt := 46) d_M_crowd_42 rfl ?_
        obtain ⟨g7, h⟩ := h
        refine am_last2 (n := 47) d_M_crowd_46 rfl (am_sho (k := 43) (o := 26) hq (by decide) (by decide) (by decide) rfl) g7 rfl ?_
        generalize eL5 : am_u2 L (q + 26) (Int32.toNatClampNeg v4) 1 = L5
        have h := h L5 eL5.symm
        refine am_iinc (v := v4 + 1) (ls' := [some (.ref q), some (.int p1), some (.long v2), none, some (.int (v4 + 1)), none, none]) (n := 50) d_M_crowd_47 rfl (congrArg _ ci_1) (by decide) rfl rfl ?_
        refine am_goto (tgt := 23) d_M_crowd_50 rfl ?_
        exact ih I L5 v2 (v4 + 1)  h
def wp_M_crowd (I : am_TI) (L : am_TL) (R : am_TR) (q : Nat) (p1 : Int32)  (Q : Bool → am_TI → am_TL → Prop) : Prop := wp_M_isFrom I L R (Int32.toInt64 p1) 0 6 (fun (r1 : Bool) => ((r1 = false → wp_M_is I L R q 1 (fun (r3 : Bool) (I2 : am_TI) => Q r3 I2 L)) ∧ (r1 = true → (∃ z, wl_M_crowd_23 R q p1 Q z I L 1 0))))
set_option maxRecDepth 20000 in
theorem cm_M_crowd {d : Nat} {I : am_TI} {L : am_TL} {R : am_TR}  (hw : am_Wf R)   {q : Nat} {p1 : Int32} {Q : Bool → am_TI → am_TL → Prop} (hd : 2 ≤ d) (hq : am_SH[q]? = some (.inl 12)) (h : wp_M_crowd I L R q p1  Q) : am_Cm d 0 0 y_M_crowd b_M_crowd 7 (some .boolean) [.ref q, .int p1] (I, L, R, am_SH) (po_M_crowd R Q) := by
  refine am_Cm_of (ini := false) (by decide +kernel) (fun z => by cases z) (by simp [Value.category]) (fun r σ' z => by obtain ⟨x, _, _, rfl, -⟩ := z; exact ⟨_, rfl, am_b_nar x⟩) ?_
  unfold wp_M_crowd at h
  show am_Wp (d, "UnseenRingModel", b_M_crowd, 7, false) 0 0 0 [some (.ref q), some (.int p1), none, none, none, none, none] [] (I, L, R, am_SH) (po_M_crowd R Q)
  refine am_iload_n (n := 1) d_M_crowd_0 rfl rfl ?_
  refine am_i2l (n := 2) d_M_crowd_1 rfl ?_
  refine am_lconst (v := 0) (n := 3) d_M_crowd_2 rfl rfl ?_
  refine am_ldc2 (n := 6) d_M_crowd_3 k_M_477 rfl ?_
  refine am_callS (kc := 0) (ks := 0) (As := [.long (Int32.toInt64 p1), .long 0, .long 6]) (n := 9) d_M_crowd_6 rfl ce_M_isFrom lk_M_306 st_M_isFrom rfl rfl (Nat.le_of_ble_eq_true rfl) (Or.inl rfl) (cm_M_isFrom (d := d - 1) hw (by omega)  h) (by omega) ?_
  rintro _ _ ⟨r1, rfl, rfl, h⟩
  show am_Wp (d, "UnseenRingModel", b_M_crowd, 7, false) 0 0 9 [some (.ref q), some (.int p1), none, none, none, none, none] [.int (am_b r1)] (I, L, R, am_SH) (po_M_crowd R Q)
  refine am_if_ne (y := 0) (tgt := 18) (n := 12) d_M_crowd_9 rfl rfl (fun c1 => ?_) (fun c1 => ?_)
  · have h := h.2 (am_b_n0 c1)
    refine am_lconst (v := 1) (n := 19) d_M_crowd_18 rfl rfl ?_
    refine am_lstore_n (ls' := [some (.ref q), some (.int p1), some (.long 1), none, none, none, none]) (n := 20) d_M_crowd_19 (by decide) rfl rfl ?_
    refine am_iconst (n := 21) d_M_crowd_20 ci_0 rfl ?_
    refine am_istore (ls' := [some (.ref q), some (.int p1), some (.long 1), none, some (.int 0), none, none]) (n := 23) d_M_crowd_21 (by decide) rfl rfl ?_
    obtain ⟨n, h⟩ := h
    exact tl_M_crowd_23 hw hq hd n I L 1 0 h
  · have h := h.1 (am_b_0 c1)
    refine am_aload_n (n := 13) d_M_crowd_12 rfl rfl ?_
    refine am_iconst (n := 14) d_M_crowd_13 ci_1 rfl ?_
    refine am_callV (kc := 0) (ks := 0) (As := [.int 1]) (n := 17) d_M_crowd_14 rfl ce_M_is lk_M_128 in_M_is rfl rfl hq rfl rfl (Nat.le_of_ble_eq_true rfl) (Or.inl rfl) (cm_M_is (d := d - 1) hw (by omega) hq h) (by omega) ?_
    rintro _ _ ⟨r3, I2, rfl, rfl, h⟩
    show am_Wp (d, "UnseenRingModel", b_M_crowd, 7, false) 0 0 17 [some (.ref q), some (.int p1), none, none, none, none, none] [.int (am_b r3)] (I2, L, R, am_SH) (po_M_crowd R Q)
    exact am_iret d_M_crowd_17 ⟨r3, I2, L, rfl, rfl, h⟩
abbrev po_M_allCoins (I : am_TI) (L : am_TL) (R : am_TR) (Q : Int32 → Prop) : Option Value → am_St → Prop := fun r σ' => ∃ (x : Int32), r = some (.int x) ∧ σ' = (I, L, R, am_SH) ∧ Q x
def wl_M_allCoins_4 (I : am_TI) (L : am_TL) (R : am_TR) (q : Nat) (Q : Int32 → Prop)  : Nat → Int32 → Int32 → Prop
  | 0 => fun _ _ => False
  | f4 + 1 => fun v1 v2 => (((I (q + 1) 3) ≤ v2 → Q v1) ∧ (¬ (I (q + 1) 3) ≤ v2 → wp_M_hearerOf I L R q v2 2 (fun (r1 : Int32) => wl_M_allCoins_4 I L R q Q f4 (v1 + r1) (v2 + 1))))
set_option maxRecDepth 20000 in
theorem tl_M_allCoins_4 {d : Nat}  {I : am_TI} {L : am_TL} {R : am_TR} {q : Nat} {Q : Int32 → Prop}  (hw : am_Wf R) (hq : am_SH[q]? = some (.inl 12)) (hd : 2 ≤ d) : ∀ (n : Nat) (v1 : Int32) (v2 : Int32), wl_M_allCoins_4 I L R q Q  n v1 v2 → am_Wp (d, "UnseenRingModel", b_M_allCoins, 3, false) 0 0 4 [some (.ref q), some (.int v1), some (.int v2)] [] (I, L, R, am_SH) (po_M_allCoins I L R Q) := by
  intro n
  induction n with
  | zero => intro v1 v2 h; exact h.elim
  | succ n ih =>
    intro v1 v2 h
    unfold wl_M_allCoins_4 at h
    refine am_iload_n (n := 5) d_M_allCoins_4 rfl rfl ?_
    refine am_aload_n (n := 6) d_M_allCoins_5 rfl rfl ?_
    refine am_getR (x := (q + 1)) (n := 9) f_M_7 d_M_allCoins_6 rfl rfl hq (hw.1 q 12 0 1 hq rfl) ?_
    refine am_iconst (n := 10) d_M_allCoins_9 ci_3 rfl ?_
    refine am_iald2 (n := 11) d_M_allCoins_10 rfl (am_sho (k := 0) (o := 1) hq (by decide) (by decide) (by decide) rfl) cx_3_2258 cn_3 ?_
    refine am_icmp_ge (tgt := 29) (n := 14) d_M_allCoins_11 rfl rfl (fun c1 => ?_) (fun c1 => ?_)
    · have h := h.1 c1
      refine am_iload_n (n := 30) d_M_allCoins_29 rfl rfl ?_
      exact am_iret d_M_allCoins_30 ⟨v1, rfl, rfl, h⟩
    · have h := h.2 c1
      refine am_iload_n (n := 15) d_M_allCoins_14 rfl rfl ?_
      refine am_aload_n (n := 16) d_M_allCoins_15 rfl rfl ?_
      refine am_iload_n (n := 17) d_M_allCoins_16 rfl rfl ?_
      refine am_iconst (n := 18) d_M_allCoins_17 ci_2 rfl ?_
      refine am_callV (kc := 0) (ks := 0) (As := [.int v2, .int 2]) (n := 21) d_M_allCoins_18 rfl ce_M_hearerOf lk_M_313 in_M_hearerOf rfl rfl hq rfl rfl (Nat.le_of_ble_eq_true rfl) (Or.inl rfl) (cm_M_hearerOf (d := d - 1) hw (by omega) hq h) (by omega) ?_
      rintro _ _ ⟨r1, rfl, rfl, h⟩
      show am_Wp (d, "UnseenRingModel", b_M_allCoins, 3, false) 0 0 21 [some (.ref q), some (.int v1), some (.int v2)] [.int r1, .int v1] (I, L, R, am_SH) (po_M_allCoins I L R Q)
      refine am_iadd (n := 22) d_M_allCoins_21 rfl ?_
      refine am_istore_n (ls' := [some (.ref q), some (.int (v1 + r1)), some (.int v2)]) (n := 23) d_M_allCoins_22 (by decide) rfl rfl ?_
      refine am_iinc (v := v2 + 1) (ls' := [some (.ref q), some (.int (v1 + r1)), some (.int (v2 + 1))]) (n := 26) d_M_allCoins_23 rfl (congrArg _ ci_1) (by decide) rfl rfl ?_
      refine am_goto (tgt := 4) d_M_allCoins_26 rfl ?_
      exact ih (v1 + r1) (v2 + 1)  h
def wp_M_allCoins (I : am_TI) (L : am_TL) (R : am_TR) (q : Nat)  (Q : Int32 → Prop) : Prop := (∃ z, wl_M_allCoins_4 I L R q Q z 0 0)
set_option maxRecDepth 20000 in
theorem cm_M_allCoins {d : Nat} {I : am_TI} {L : am_TL} {R : am_TR}  (hw : am_Wf R)   {q : Nat} {Q : Int32 → Prop} (hd : 2 ≤ d) (hq : am_SH[q]? = some (.inl 12)) (h : wp_M_allCoins I L R q  Q) : am_Cm d 0 0 y_M_allCoins b_M_allCoins 3 (some .int) [.ref q] (I, L, R, am_SH) (po_M_allCoins I L R Q) := by
  refine am_Cm_of (ini := false) (by decide +kernel) (fun z => by cases z) (by simp [Value.category]) (fun r σ' z => by obtain ⟨x, rfl, -⟩ := z; exact ⟨_, rfl, rfl⟩) ?_
  unfold wp_M_allCoins at h
  show am_Wp (d, "UnseenRingModel", b_M_allCoins, 3, false) 0 0 0 [some (.ref q), none, none] [] (I, L, R, am_SH) (po_M_allCoins I L R Q)
  refine am_iconst (n := 1) d_M_allCoins_0 ci_0 rfl ?_
  refine am_istore_n (ls' := [some (.ref q), some (.int 0), none]) (n := 2) d_M_allCoins_1 (by decide) rfl rfl ?_
  refine am_iconst (n := 3) d_M_allCoins_2 ci_0 rfl ?_
  refine am_istore_n (ls' := [some (.ref q), some (.int 0), some (.int 0)]) (n := 4) d_M_allCoins_3 (by decide) rfl rfl ?_
  obtain ⟨n, h⟩ := h
  exact tl_M_allCoins_4 hw hq hd n 0 0 h
abbrev po_M_share (R : am_TR) (Q : Bool → am_TI → am_TL → Prop) : Option Value → am_St → Prop := fun r σ' => ∃ (x : Bool) (I' : am_TI) (L' : am_TL), r = some (.int (am_b x)) ∧ σ' = (I', L', R, am_SH) ∧ Q x I' L'
def wp_M_share (I : am_TI) (L : am_TL) (R : am_TR) (q : Nat) (p1 : Int32)  (Q : Bool → am_TI → am_TL → Prop) : Prop := wp_M_isHearer I L R q p1 (fun (r1 : Bool) => ((r1 = false → wp_M_is I L R q 1 (fun (r7 : Bool) (I3 : am_TI) => Q r7 I3 L)) ∧ (r1 = true → wp_M_allCoins I L R q (fun (r2 : Int32) => ((r2 = 0 → wp_M_is I L R q 6 (fun (r6 : Bool) (I2 : am_TI) => Q r6 I2 L)) ∧ (¬ r2 = 0 → wp_M_hearerOf I L R q p1 2 (fun (r3 : Int32) => wp_M_allCoins I L R q (fun (r4 : Int32) => wp_M_tellsBy I L R q (Int32.toInt64 r3) (Int32.toInt64 r4) (fun (r5 : Bool) (I1 : am_TI) (L1 : am_TL) => Q r5 I1 L1)))))))))
set_option maxRecDepth 20000 in
theorem cm_M_share {d : Nat} {I : am_TI} {L : am_TL} {R : am_TR}  (hw : am_Wf R)   {q : Nat} {p1 : Int32} {Q : Bool → am_TI → am_TL → Prop} (hd : 3 ≤ d) (hq : am_SH[q]? = some (.inl 12)) (h : wp_M_share I L R q p1  Q) : am_Cm d 0 0 y_M_share b_M_share 2 (some .boolean) [.ref q, .int p1] (I, L, R, am_SH) (po_M_share R Q) := by
  refine am_Cm_of (ini := false) (by decide +kernel) (fun z => by cases z) (by simp [Value.category]) (fun r σ' z => by obtain ⟨x, _, _, rfl, -⟩ := z; exact ⟨_, rfl, am_b_nar x⟩) ?_
  unfold wp_M_share at h
  show am_Wp (d, "UnseenRingModel", b_M_share, 2, false) 0 0 0 [some (.ref q), some (.int p1)] [] (I, L, R, am_SH) (po_M_share R Q)
  refine am_aload_n (n := 1) d_M_share_0 rfl rfl ?_
  refine am_iload_n (n := 2) d_M_share_1 rfl rfl ?_
  refine am_callV (kc := 0) (ks := 0) (As := [.int p1]) (n := 5) d_M_share_2 rfl ce_M_isHearer lk_M_328 in_M_isHearer rfl rfl hq rfl rfl (Nat.le_of_ble_eq_true rfl) (Or.inl rfl) (cm_M_isHearer (d := d - 1) hw (by omega) hq h) (by omega) ?_
  rintro _ _ ⟨r1, rfl, rfl, h⟩
  show am_Wp (d, "UnseenRingModel", b_M_share, 2, false) 0 0 5 [some (.ref q), some (.int p1)] [.int (am_b r1)] (I, L, R, am_SH) (po_M_share R Q)
  refine am_if_ne (y := 0) (tgt := 14) (n := 8) d_M_share_5 rfl rfl (fun c1 => ?_) (fun c1 => ?_)
  · have h := h.2 (am_b_n0 c1)
    refine am_aload_n (n := 15) d_M_share_14 rfl rfl ?_
    refine am_callV (kc := 0) (ks := 0) (As := []) (n := 18) d_M_share_15 rfl ce_M_allCoins lk_M_479 in_M_allCoins rfl rfl hq rfl rfl (Nat.le_of_ble_eq_true rfl) (Or.inl rfl) (cm_M_allCoins (d := d - 1) hw (by omega) hq h) (by omega) ?_
    rintro _ _ ⟨r2, rfl, rfl, h⟩
    show am_Wp (d, "UnseenRingModel", b_M_share, 2, false) 0 0 18 [some (.ref q), some (.int p1)] [.int r2] (I, L, R, am_SH) (po_M_share R Q)
    refine am_if_ne (y := 0) (tgt := 30) (n := 21) d_M_share_18 rfl rfl (fun c2 => ?_) (fun c2 => ?_)
    · have h := h.2 c2
      refine am_aload_n (n := 31) d_M_share_30 rfl rfl ?_
      refine am_aload_n (n := 32) d_M_share_31 rfl rfl ?_
      refine am_iload_n (n := 33) d_M_share_32 rfl rfl ?_
      refine am_iconst (n := 34) d_M_share_33 ci_2 rfl ?_
      refine am_callV (kc := 0) (ks := 0) (As := [.int p1, .int 2]) (n := 37) d_M_share_34 rfl ce_M_hearerOf lk_M_313 in_M_hearerOf rfl rfl hq rfl rfl (Nat.le_of_ble_eq_true rfl) (Or.inl rfl) (cm_M_hearerOf (d := d - 1) hw (by omega) hq h) (by omega) ?_
      rintro _ _ ⟨r3, rfl, rfl, h⟩
      show am_Wp (d, "UnseenRingModel", b_M_share, 2, false) 0 0 37 [some (.ref q), some (.int p1)] [.int r3, .ref q] (I, L, R, am_SH) (po_M_share R Q)
      refine am_i2l (n := 38) d_M_share_37 rfl ?_
      refine am_aload_n (n := 39) d_M_share_38 rfl rfl ?_
      refine am_callV (kc := 0) (ks := 0) (As := []) (n := 42) d_M_share_39 rfl ce_M_allCoins lk_M_479 in_M_allCoins rfl rfl hq rfl rfl (Nat.le_of_ble_eq_true rfl) (Or.inl rfl) (cm_M_allCoins (d := d - 1) hw (by omega) hq h) (by omega) ?_
      rintro _ _ ⟨r4, rfl, rfl, h⟩
      show am_Wp (d, "UnseenRingModel", b_M_share, 2, false) 0 0 42 [some (.ref q), some (.int p1)] [.int r4, .long (Int32.toInt64 r3), .ref q] (I, L, R, am_SH) (po_M_share R Q)
      refine am_i2l (n := 43) d_M_share_42 rfl ?_
      refine am_callV (kc := 0) (ks := 0) (As := [.long (Int32.toInt64 r3), .long (Int32.toInt64 r4)]) (n := 46) d_M_share_43 rfl ce_M_tellsBy lk_M_427 in_M_tellsBy rfl rfl hq rfl rfl (Nat.le_of_ble_eq_true rfl) (Or.inl rfl) (cm_M_tellsBy (d := d - 1) hw (by omega) hq h) (by omega) ?_
      rintro _ _ ⟨r5, I1, L1, rfl, rfl, h⟩
      show am_Wp (d, "UnseenRingModel", b_M_share, 2, false) 0 0 46 [some (.ref q), some (.int p1)] [.int (am_b r5)] (I1, L1, R, am_SH) (po_M_share R Q)
      exact am_iret d_M_share_46 ⟨r5, I1, L1, rfl, rfl, h⟩
    · have h := h.1 c2
      refine am_aload_n (n := 22) d_M_share_21 rfl rfl ?_
      refine am_bipush (n := 24) d_M_share_22 cb_6 rfl ?_
      refine am_callV (kc := 0) (ks := 0) (As := [.int 6]) (n := 27) d_M_share_24 rfl ce_M_is lk_M_128 in_M_is rfl rfl hq rfl rfl (Nat.le_of_ble_eq_true rfl) (Or.inl rfl) (cm_M_is (d := d - 1) hw (by omega) hq h) (by omega) ?_
      rintro _ _ ⟨r6, I2, rfl, rfl, h⟩
      show am_Wp (d, "UnseenRingModel", b_M_share, 2, false) 0 0 27 [some (.ref q), some (.int p1)] [.int (am_b r6)] (I2, L, R, am_SH) (po_M_share R Q)
      refine am_goto (tgt := 46) d_M_share_27 rfl ?_
      exact am_iret d_M_share_46 ⟨r6, I2, L, rfl, rfl, h⟩
  · have h := h.1 (am_b_0 c1)
    refine am_aload_n (n := 9) d_M_share_8 rfl rfl ?_
    refine am_iconst (n := 10) d_M_share_9 ci_1 rfl ?_
    refine am_callV (kc := 0) (ks := 0) (As := [.int 1]) (n := 13) d_M_share_10 rfl ce_M_is lk_M_128 in_M_is rfl rfl hq rfl rfl (Nat.le_of_ble_eq_true rfl) (Or.inl rfl) (cm_M_is (d := d - 1) hw (by omega) hq h) (by omega) ?_
    rintro _ _ ⟨r7, I3, rfl, rfl, h⟩
    show am_Wp (d, "UnseenRingModel", b_M_share, 2, false) 0 0 13 [some (.ref q), some (.int p1)] [.int (am_b r7)] (I3, L, R, am_SH) (po_M_share R Q)
    exact am_iret d_M_share_13 ⟨r7, I3, L, rfl, rfl, h⟩
abbrev po_M_copyCells (R : am_TR) (Q : Int32 → am_TI → am_TL → Prop) : Option Value → am_St → Prop := fun r σ' => ∃ (x : Int32) (I' : am_TI) (L' : am_TL), r = some (.int x) ∧ σ' = (I', L', R, am_SH) ∧ Q x I' L'
def wl_M_copyCells_52 (R : am_TR) (q : Nat) (p1 : Int32) (Q : Int32 → am_TI → am_TL → Prop)  : Nat → am_TI → am_TL → Int32 → Prop
  | 0 => fun _ _ _ => False
  | f52 + 1 => fun I L v2 => (((I (q + 1) 3) ≤ v2 → wp_M_gives I L R q (I (q + 1) 3) (fun (r2 : Int32) (I1 : am_TI) => Q r2 I1 L)) ∧ (¬ (I (q + 1) 3) ≤ v2 → wp_M_hearerOf I L R q v2 0 (fun (r3 : Int32) => (vp_in p1 4 ∧ wp_M_cut I L R (Int32.toInt64 r3) (I (q + 3) (Int32.toNatClampNeg p1)) (fun (r4 : Int64) => (vp_in ((60 * p1) + v2) 240 ∧ (∀ L1, L1 = am_u2 L (q + 5) (Int32.toNatClampNeg ((60 * p1) + v2)) r4 → wl_M_copyCells_52 R q p1 Q f52 I L1 (v2 + 1))))))))
set_option maxRecDepth 20000 in
theorem tl_M_copyCells_52 {d : Nat}  {R : am_TR} {q : Nat} {p1 : Int32} {Q : Int32 → am_TI → am_TL → Prop}  (hw : am_Wf R) (hq : am_SH[q]? = some (.inl 12)) (hd : 2 ≤ d) : ∀ (n : Nat) (I : am_TI) (L : am_TL) (v2 : Int32), wl_M_copyCells_52 R q p1 Q  n I L v2 → am_Wp (d, "UnseenRingModel", b_M_copyCells, 3, false) 0 0 52 [some (.ref q), some (.int p1), some (.int v2)] [] (I, L, R, am_SH) (po_M_copyCells R Q) := by
  intro n
  induction n with
  | zero => intro I L v2 h; exact h.elim
  | succ n ih =>
    intro I L v2 h
    unfold wl_M_copyCells_52 at h
    refine am_iload_n (n := 53) d_M_copyCells_52 rfl rfl ?_
    refine am_aload_n (n := 54) d_M_copyCells_53 rfl rfl ?_
    refine am_getR (x := (q + 1)) (n := 57) f_M_7 d_M_copyCells_54 rfl rfl hq (hw.1 q 12 0 1 hq rfl) ?_
    refine am_iconst (n := 58) d_M_copyCells_57 ci_3 rfl ?_
    refine am_iald2 (n := 59) d_M_copyCells_58 rfl (am_sho (k := 0) (o := 1) hq (by decide) (by decide) (by decide) rfl) cx_3_2258 cn_3 ?_
    refine am_icmp_ge (tgt := 95) (n := 62) d_M_copyCells_59 rfl rfl (fun c4 => ?_) (fun c4 => ?_)
    · have h := h.1 c4
      refine am_aload_n (n := 96) d_M_copyCells_95 rfl rfl ?_
      refine am_aload_n (n := 97) d_M_copyCells_96 rfl rfl ?_
      refine am_getR (x := (q + 1)) (n := 100) f_M_7 d_M_copyCells_97 rfl rfl hq (hw.1 q 12 0 1 hq rfl) ?_
      refine am_iconst (n := 101) d_M_copyCells_100 ci_3 rfl ?_
      refine am_iald2 (n := 102) d_M_copyCells_101 rfl (am_sho (k := 0) (o := 1) hq (by decide) (by decide) (by decide) rfl) cx_3_2258 cn_3 ?_
      refine am_callV (kc := 0) (ks := 0) (As := [.int (I (q + 1) 3)]) (n := 105) d_M_copyCells_102 rfl ce_M_gives lk_M_125 in_M_gives rfl rfl hq rfl rfl (Nat.le_of_ble_eq_true rfl) (Or.inl rfl) (cm_M_gives (d := d - 1) hw (by omega) hq h) (by omega) ?_
      rintro _ _ ⟨r2, I1, rfl, rfl, h⟩
      show am_Wp (d, "UnseenRingModel", b_M_copyCells, 3, false) 0 0 105 [some (.ref q), some (.int p1), some (.int v2)] [.int r2] (I1, L, R, am_SH) (po_M_copyCells R Q)
      exact am_iret d_M_copyCells_105 ⟨r2, I1, L, rfl, rfl, h⟩
    · have h := h.2 c4
      refine am_aload_n (n := 63) d_M_copyCells_62 rfl rfl ?_
      refine am_getR (x := (q + 5)) (n := 66) f_M_27 d_M_copyCells_63 rfl rfl hq (hw.1 q 12 7 5 hq rfl) ?_
      refine am_bipush (n := 68) d_M_copyCells_66 cb_60 rfl ?_
      refine am_iload_n (n := 69) d_M_copyCells_68 rfl rfl ?_
      refine am_imul (n := 70) d_M_copyCells_69 rfl ?_
      refine am_iload_n (n := 71) d_M_copyCells_70 rfl rfl ?_
      refine am_iadd (n := 72) d_M_copyCells_71 rfl ?_
      refine am_aload_n (n := 73) d_M_copyCells_72 rfl rfl ?_
      refine am_iload_n (n := 74) d_M_copyCells_73 rfl rfl ?_
      refine am_iconst (n := 75) d_M_copyCells_74 ci_0 rfl ?_
      refine am_callV (kc := 0) (ks := 0) (As := [.int v2, .int 0]) (n := 78) d_M_copyCells_75 rfl ce_M_hearerOf lk_M_313 in_M_hearerOf rfl rfl hq rfl rfl (Nat.le_of_ble_eq_true rfl) (Or.inl rfl) (cm_M_hearerOf (d := d - 1) hw (by omega) hq h) (by omega) ?_
      rintro _ _ ⟨r3, rfl, rfl, h⟩
      show am_Wp (d, "UnseenRingModel", b_M_copyCells, 3, false) 0 0 78 [some (.ref q), some (.int p1), some (.int v2)] [.int r3, .int ((60 * p1) + v2), .ref (q + 5)] (I, L, R, am_SH) (po_M_copyCells R Q)
      refine am_i2l (n := 79) d_M_copyCells_78 rfl ?_
      refine am_aload_n (n := 80) d_M_copyCells_79 rfl rfl ?_
      refine am_getR (x := (q + 3)) (n := 83) f_M_21 d_M_copyCells_80 rfl rfl hq (hw.1 q 12 5 3 hq rfl) ?_
      refine am_iload_n (n := 84) d_M_copyCells_83 rfl rfl ?_
      obtain ⟨g3, h⟩ := h
      refine am_iald2 (n := 85) d_M_copyCells_84 rfl (am_sho (k := 5) (o := 3) hq (by decide) (by decide) (by decide) rfl) g3 rfl ?_
      refine am_callS (kc := 0) (ks := 0) (As := [.long (Int32.toInt64 r3), .int (I (q + 3) (Int32.toNatClampNeg p1))]) (n := 88) d_M_copyCells_85 rfl ce_M_cut lk_M_139 st_M_cut rfl rfl (Nat.le_of_ble_eq_true rfl) (Or.inl rfl) (cm_M_cut (d := d - 1) hw (by omega)  h) (by omega) ?_
      rintro _ _ ⟨r4, rfl, rfl, h⟩
      show am_Wp (d, "UnseenRingModel", b_M_copyCells, 3, false) 0 0 88 [some (.ref q), some (.int p1), some (.int v2)] [.long r4, .int ((60 * p1) + v2), .ref (q + 5)] (I, L, R, am_SH) (po_M_copyCells R Q)
      obtain ⟨g4, h⟩ := h
      refine am_last2 (n := 89) d_M_copyCells_88 rfl (am_sho (k := 7) (o := 5) hq (by decide) (by decide) (by decide) rfl) g4 rfl ?_
      generalize eL1 : am_u2 L (q + 5) (Int32.toNatClampNeg ((60 * p1) + v2)) r4 = L1
      have h := h L1 eL1.symm
      refine am_iinc (v := v2 + 1) (ls' := [some (.ref q), some (.int p1), some (.int (v2 + 1))]) (n := 92) d_M_copyCells_89 rfl (congrArg _ ci_1) (by decide) rfl rfl ?_
      refine am_goto (tgt := 52) d_M_copyCells_92 rfl ?_
      exact ih I L1 (v2 + 1)  h
def wp_M_copyCells (I : am_TI) (L : am_TL) (R : am_TR) (q : Nat) (p1 : Int32)  (Q : Int32 → am_TI → am_TL → Prop) : Prop := wp_M_isTray I L R p1 (fun (r1 : Bool) => ((r1 = false → wp_M_refuse I L R q 1 (fun (r7 : Int32) (I4 : am_TI) => Q r7 I4 L)) ∧ (r1 = true → (vp_in p1 4 ∧ (((I (q + 4) (Int32.toNatClampNeg p1)) = (-1) → wp_M_refuse I L R q 2 (fun (r6 : Int32) (I3 : am_TI) => Q r6 I3 L)) ∧ (¬ (I (q + 4) (Int32.toNatClampNeg p1)) = (-1) → (vp_in p1 4 ∧ (((I (q + 1) 3) ≤ (I (q + 4) (Int32.toNatClampNeg p1)) → (∃ z, wl_M_copyCells_52 R q p1 Q z I L 0)) ∧ (¬ (I (q + 1) 3) ≤ (I (q + 4) (Int32.toNatClampNeg p1)) → wp_M_refuse I L R q 3 (fun (r5 : Int32) (I2 : am_TI) => Q r5 I2 L))))))))))
set_option maxRecDepth 20000 in
theorem cm_M_copyCells {d : Nat} {I : am_TI} {L : am_TL} {R : am_TR}  (hw : am_Wf R)   {q : Nat} {p1 : Int32} {Q : Int32 → am_TI → am_TL → Prop} (hd : 2 ≤ d) (hq : am_SH[q]? = some (.inl 12)) (h : wp_M_copyCells I L R q p1  Q) : am_Cm d 0 0 y_M_copyCells b_M_copyCells 3 (some .int) [.ref q, .int p1] (I, L, R, am_SH) (po_M_copyCells R Q) := by
  refine am_Cm_of (ini := false) (by decide +kernel) (fun z => by cases z) (by simp [Value.category]) (fun r σ' z => by obtain ⟨x, _, _, rfl, -⟩ := z; exact ⟨_, rfl, rfl⟩) ?_
  unfold wp_M_copyCells at h
  show am_Wp (d, "UnseenRingModel", b_M_copyCells, 3, false) 0 0 0 [some (.ref q), some (.int p1), none] [] (I, L, R, am_SH) (po_M_copyCells R Q)
  refine am_iload_n (n := 1) d_M_copyCells_0 rfl rfl ?_
  refine am_callS (kc := 0) (ks := 0) (As := [.int p1]) (n := 4) d_M_copyCells_1 rfl ce_M_isTray lk_M_132 st_M_isTray rfl rfl (Nat.le_of_ble_eq_true rfl) (Or.inl rfl) (cm_M_isTray (d := d - 1) hw (by omega)  h) (by omega) ?_
  rintro _ _ ⟨r1, rfl, rfl, h⟩
  show am_Wp (d, "UnseenRingModel", b_M_copyCells, 3, false) 0 0 4 [some (.ref q), some (.int p1), none] [.int (am_b r1)] (I, L, R, am_SH) (po_M_copyCells R Q)
  refine am_if_ne (y := 0) (tgt := 13) (n := 7) d_M_copyCells_4 rfl rfl (fun c1 => ?_) (fun c1 => ?_)
  · have h := h.2 (am_b_n0 c1)
    refine am_aload_n (n := 14) d_M_copyCells_13 rfl rfl ?_
    refine am_getR (x := (q + 4)) (n := 17) f_M_24 d_M_copyCells_14 rfl rfl hq (hw.1 q 12 6 4 hq rfl) ?_
    refine am_iload_n (n := 18) d_M_copyCells_17 rfl rfl ?_
    obtain ⟨g1, h⟩ := h
    refine am_iald2 (n := 19) d_M_copyCells_18 rfl (am_sho (k := 6) (o := 4) hq (by decide) (by decide) (by decide) rfl) g1 rfl ?_
    refine am_iconst (n := 20) d_M_copyCells_19 ci_m1 rfl ?_
    refine am_icmp_ne (tgt := 29) (n := 23) d_M_copyCells_20 rfl rfl (fun c2 => ?_) (fun c2 => ?_)
    · have h := h.2 c2
      refine am_aload_n (n := 30) d_M_copyCells_29 rfl rfl ?_
      refine am_getR (x := (q + 4)) (n := 33) f_M_24 d_M_copyCells_30 rfl rfl hq (hw.1 q 12 6 4 hq rfl) ?_
      refine am_iload_n (n := 34) d_M_copyCells_33 rfl rfl ?_
      obtain ⟨g2, h⟩ := h
      refine am_iald2 (n := 35) d_M_copyCells_34 rfl (am_sho (k := 6) (o := 4) hq (by decide) (by decide) (by decide) rfl) g2 rfl ?_
      refine am_aload_n (n := 36) d_M_copyCells_35 rfl rfl ?_
      refine am_getR (x := (q + 1)) (n := 39) f_M_7 d_M_copyCells_36 rfl rfl hq (hw.1 q 12 0 1 hq rfl) ?_
      refine am_iconst (n := 40) d_M_copyCells_39 ci_3 rfl ?_
      refine am_iald2 (n := 41) d_M_copyCells_40 rfl (am_sho (k := 0) (o := 1) hq (by decide) (by decide) (by decide) rfl) cx_3_2258 cn_3 ?_
      refine am_icmp_ge (tgt := 50) (n := 44) d_M_copyCells_41 rfl rfl (fun c3 => ?_) (fun c3 => ?_)
      · have h := h.1 c3
        refine am_iconst (n := 51) d_M_copyCells_50 ci_0 rfl ?_
        refine am_istore_n (ls' := [some (.ref q), some (.int p1), some (.int 0)]) (n := 52) d_M_copyCells_51 (by decide) rfl rfl ?_
        obtain ⟨n, h⟩ := h
        exact tl_M_copyCells_52 hw hq hd n I L 0 h
      · have h := h.2 c3
        refine am_aload_n (n := 45) d_M_copyCells_44 rfl rfl ?_
        refine am_iconst (n := 46) d_M_copyCells_45 ci_3 rfl ?_
        refine am_callV (kc := 0) (ks := 0) (As := [.int 3]) (n := 49) d_M_copyCells_46 rfl ce_M_refuse lk_M_121 in_M_refuse rfl rfl hq rfl rfl (Nat.le_of_ble_eq_true rfl) (Or.inl rfl) (cm_M_refuse (d := d - 1) hw (by omega) hq h) (by omega) ?_
        rintro _ _ ⟨r5, I2, rfl, rfl, h⟩
        show am_Wp (d, "UnseenRingModel", b_M_copyCells, 3, false) 0 0 49 [some (.ref q), some (.int p1), none] [.int r5] (I2, L, R, am_SH) (po_M_copyCells R Q)
        exact am_iret d_M_copyCells_49 ⟨r5, I2, L, rfl, rfl, h⟩
    · have h := h.1 c2
      refine am_aload_n (n := 24) d_M_copyCells_23 rfl rfl ?_
      refine am_iconst (n := 25) d_M_copyCells_24 ci_2 rfl ?_
      refine am_callV (kc := 0) (ks := 0) (As := [.int 2]) (n := 28) d_M_copyCells_25 rfl ce_M_refuse lk_M_121 in_M_refuse rfl rfl hq rfl rfl (Nat.le_of_ble_eq_true rfl) (Or.inl rfl) (cm_M_refuse (d := d - 1) hw (by omega) hq h) (by omega) ?_
      rintro _ _ ⟨r6, I3, rfl, rfl, h⟩
      show am_Wp (d, "UnseenRingModel", b_M_copyCells, 3, false) 0 0 28 [some (.ref q), some (.int p1), none] [.int r6] (I3, L, R, am_SH) (po_M_copyCells R Q)
      exact am_iret d_M_copyCells_28 ⟨r6, I3, L, rfl, rfl, h⟩
  · have h := h.1 (am_b_0 c1)
    refine am_aload_n (n := 8) d_M_copyCells_7 rfl rfl ?_
    refine am_iconst (n := 9) d_M_copyCells_8 ci_1 rfl ?_
    refine am_callV (kc := 0) (ks := 0) (As := [.int 1]) (n := 12) d_M_copyCells_9 rfl ce_M_refuse lk_M_121 in_M_refuse rfl rfl hq rfl rfl (Nat.le_of_ble_eq_true rfl) (Or.inl rfl) (cm_M_refuse (d := d - 1) hw (by omega) hq h) (by omega) ?_
    rintro _ _ ⟨r7, I4, rfl, rfl, h⟩
    show am_Wp (d, "UnseenRingModel", b_M_copyCells, 3, false) 0 0 12 [some (.ref q), some (.int p1), none] [.int r7] (I4, L, R, am_SH) (po_M_copyCells R Q)
    exact am_iret d_M_copyCells_12 ⟨r7, I4, L, rfl, rfl, h⟩
abbrev po_M_behindEnds (L : am_TL) (R : am_TR) (Q : Int32 → am_TI → Prop) : Option Value → am_St → Prop := fun r σ' => ∃ (x : Int32) (I' : am_TI), r = some (.int x) ∧ σ' = (I', L, R, am_SH) ∧ Q x I'
def wb_M_behindEnds_95 (L : am_TL) (R : am_TR) (q : Nat) (p1 : Int32) (Q : Int32 → am_TI → Prop) (K2 : am_TI → Int32 → Prop) (I : am_TI) (v2 : Int32) (v3 : Int32) (v4 : Bool) (s0 : Nat) (s1 : Int32) (s2 : Int32) (s3 : Bool) : Prop := (vp_in s1 80 ∧ (∀ I1, I1 = am_u2 I s0 (Int32.toNatClampNeg s1) (s2 - (am_b s3)) → ((v4 = false → K2 I1 (v2 + 1)) ∧ (v4 = true → K2 I1 (v3 + 1)))))
set_option maxRecDepth 20000 in
theorem tb_M_behindEnds_95 {d : Nat}  {L : am_TL} {R : am_TR} {q : Nat} {p1 : Int32} {Q : Int32 → am_TI → Prop} {K2 : am_TI → Int32 → Prop} (hw : am_Wf R) (hq : am_SH[q]? = some (.inl 12)) (hK2 : ∀ (I : am_TI) (v2 : Int32), K2 I v2 → am_Wp (d, "UnseenRingModel", b_M_behindEnds, 5, false) 0 0 2 [some (.ref q), some (.int p1), some (.int v2), none, none] [] (I, L, R, am_SH) (po_M_behindEnds L R Q)) (hd : 0 ≤ d) (I : am_TI) (v2 : Int32) (v3 : Int32) (v4 : Bool) (s0 : Nat) (s1 : Int32) (s2 : Int32) (s3 : Bool) (hs0 : am_SH[s0]? = some (.inr (0, 80))) (h : wb_M_behindEnds_95 L R q p1 Q K2 I v2 v3 v4 s0 s1 s2 s3) : am_Wp (d, "UnseenRingModel", b_M_behindEnds, 5, false) 0 0 95 [some (.ref q), some (.int p1), some (.int v2), some (.int v3), some (.int (am_b v4))] [.int (am_b s3), .int s2, .int s1, .ref s0] (I, L, R, am_SH) (po_M_behindEnds L R Q) := by
  unfold wb_M_behindEnds_95 at h
  refine am_isub (n := 96) d_M_behindEnds_95 rfl ?_
  obtain ⟨g5, h⟩ := h
  refine am_iast2 (n := 97) d_M_behindEnds_96 rfl hs0 g5 rfl ?_
  generalize eI1 : am_u2 I s0 (Int32.toNatClampNeg s1) (s2 - (am_b s3)) = I1
  have h := h I1 eI1.symm
  refine am_iload (n := 99) d_M_behindEnds_97 rfl rfl ?_
  refine am_if_eq (y := 0) (tgt := 108) (n := 102) d_M_behindEnds_99 rfl rfl (fun c5 => ?_) (fun c5 => ?_)
  · have h := h.1 (am_b_0 c5)
    refine am_iload_n (n := 109) d_M_behindEnds_108 rfl rfl ?_
    refine am_iconst (n := 110) d_M_behindEnds_109 ci_1 rfl ?_
    refine am_iadd (n := 111) d_M_behindEnds_110 rfl ?_
    refine am_istore_n (ls' := [some (.ref q), some (.int p1), some (.int (v2 + 1)), some (.int v3), some (.int (am_b v4))]) (n := 112) d_M_behindEnds_111 (by decide) rfl rfl ?_
    refine am_goto (tgt := 2) d_M_behindEnds_112 rfl ?_
    refine am_forget (ls' := [some (.ref q), some (.int p1), some (.int (v2 + 1)), none, none]) (am_le_s (am_le_s (am_le_s (am_le_n (am_le_n am_le_e))))) ?_
    exact hK2 I1 (v2 + 1)  h
  · have h := h.2 (am_b_n0 c5)
    refine am_iload_n (n := 103) d_M_behindEnds_102 rfl rfl ?_
    refine am_iconst (n := 104) d_M_behindEnds_103 ci_1 rfl ?_
    refine am_iadd (n := 105) d_M_behindEnds_104 rfl ?_
    refine am_goto (tgt := 111) d_M_behindEnds_105 rfl ?_
    refine am_istore_n (ls' := [some (.ref q), some (.int p1), some (.int (v3 + 1)), some (.int v3), some (.int (am_b v4))]) (n := 112) d_M_behindEnds_111 (by decide) rfl rfl ?_
    refine am_goto (tgt := 2) d_M_behindEnds_112 rfl ?_
    refine am_forget (ls' := [some (.ref q), some (.int p1), some (.int (v3 + 1)), none, none]) (am_le_s (am_le_s (am_le_s (am_le_n (am_le_n am_le_e))))) ?_
    exact hK2 I1 (v3 + 1)  h
def wb_M_behindEnds_76 (L : am_TL) (R : am_TR) (q : Nat) (p1 : Int32) (Q : Int32 → am_TI → Prop) (K2 : am_TI → Int32 → Prop) (I : am_TI) (v2 : Int32) (v3 : Int32) (s0 : Bool) : Prop := (vp_in v3 80 ∧ ((s0 = false → wb_M_behindEnds_95 L R q p1 Q K2 I v2 v3 s0 (q + 27) v3 (I (q + 27) (Int32.toNatClampNeg v3)) false) ∧ (s0 = true → wb_M_behindEnds_95 L R q p1 Q K2 I v2 v3 s0 (q + 27) v3 (I (q + 27) (Int32.toNatClampNeg v3)) true)))
set_option maxRecDepth 20000 in
theorem tb_M_behindEnds_76 {d : Nat}  {L : am_TL} {R : am_TR} {q : Nat} {p1 : Int32} {Q : Int32 → am_TI → Prop} {K2 : am_TI → Int32 → Prop} (hw : am_Wf R) (hq : am_SH[q]? = some (.inl 12)) (hK2 : ∀ (I : am_TI) (v2 : Int32), K2 I v2 → am_Wp (d, "UnseenRingModel", b_M_behindEnds, 5, false) 0 0 2 [some (.ref q), some (.int p1), some (.int v2), none, none] [] (I, L, R, am_SH) (po_M_behindEnds L R Q)) (hd : 0 ≤ d) (I : am_TI) (v2 : Int32) (v3 : Int32) (s0 : Bool) (h : wb_M_behindEnds_76 L R q p1 Q K2 I v2 v3 s0) : am_Wp (d, "UnseenRingModel", b_M_behindEnds, 5, false) 0 0 76 [some (.ref q), some (.int p1), some (.int v2), some (.int v3), none] [.int (am_b s0)] (I, L, R, am_SH) (po_M_behindEnds L R Q) := by
  unfold wb_M_behindEnds_76 at h
  refine am_istore (ls' := [some (.ref q), some (.int p1), some (.int v2), some (.int v3), some (.int (am_b s0))]) (n := 78) d_M_behindEnds_76 (by decide) rfl rfl ?_
  refine am_aload_n (n := 79) d_M_behindEnds_78 rfl rfl ?_
  refine am_getR (x := (q + 27)) (n := 82) f_M_102 d_M_behindEnds_79 rfl rfl hq (hw.1 q 12 46 27 hq rfl) ?_
  refine am_iload_n (n := 83) d_M_behindEnds_82 rfl rfl ?_
  refine am_dup2 (n := 84) d_M_behindEnds_83 rfl rfl rfl ?_
  obtain ⟨g4, h⟩ := h
  refine am_iald2 (n := 85) d_M_behindEnds_84 rfl (am_sho (k := 46) (o := 27) hq (by decide) (by decide) (by decide) rfl) g4 rfl ?_
  refine am_iload (n := 87) d_M_behindEnds_85 rfl rfl ?_
  refine am_if_eq (y := 0) (tgt := 94) (n := 90) d_M_behindEnds_87 rfl rfl (fun c4 => ?_) (fun c4 => ?_)
  · have h := h.1 (am_b_0 c4)
    refine am_iconst (n := 95) d_M_behindEnds_94 ci_0 rfl ?_
    exact tb_M_behindEnds_95 hw hq hK2 hd I v2 v3 s0 (q + 27) v3 (I (q + 27) (Int32.toNatClampNeg v3)) false (am_sho (k := 46) (o := 27) hq (by decide) (by decide) (by decide) rfl) h
  · have h := h.2 (am_b_n0 c4)
    refine am_iconst (n := 91) d_M_behindEnds_90 ci_1 rfl ?_
    refine am_goto (tgt := 95) d_M_behindEnds_91 rfl ?_
    exact tb_M_behindEnds_95 hw hq hK2 hd I v2 v3 s0 (q + 27) v3 (I (q + 27) (Int32.toNatClampNeg v3)) true (am_sho (k := 46) (o := 27) hq (by decide) (by decide) (by decide) rfl) h
def wb_M_behindEnds_75 (L : am_TL) (R : am_TR) (q : Nat) (p1 : Int32) (Q : Int32 → am_TI → Prop) (K2 : am_TI → Int32 → Prop) (I : am_TI) (v2 : Int32) (v3 : Int32) : Prop := wb_M_behindEnds_76 L R q p1 Q K2 I v2 v3 false
set_option maxRecDepth 20000 in
theorem tb_M_behindEnds_75 {d : Nat}  {L : am_TL} {R : am_TR} {q : Nat} {p1 : Int32} {Q : Int32 → am_TI → Prop} {K2 : am_TI → Int32 → Prop} (hw : am_Wf R) (hq : am_SH[q]? = some (.inl 12)) (hK2 : ∀ (I : am_TI) (v2 : Int32), K2 I v2 → am_Wp (d, "UnseenRingModel", b_M_behindEnds, 5, false) 0 0 2 [some (.ref q), some (.int p1), some (.int v2), none, none] [] (I, L, R, am_SH) (po_M_behindEnds L R Q)) (hd : 0 ≤ d) (I : am_TI) (v2 : Int32) (v3 : Int32) (h : wb_M_behindEnds_75 L R q p1 Q K2 I v2 v3) : am_Wp (d, "UnseenRingModel", b_M_behindEnds, 5, false) 0 0 75 [some (.ref q), some (.int p1), some (.int v2), some (.int v3), none] [] (I, L, R, am_SH) (po_M_behindEnds L R Q) := by
  unfold wb_M_behindEnds_75 at h
  refine am_iconst (n := 76) d_M_behindEnds_75 ci_0 rfl ?_
  exact tb_M_behindEnds_76 hw hq hK2 hd I v2 v3 false h
def wl_M_behindEnds_2 (L : am_TL) (R : am_TR) (q : Nat) (p1 : Int32) (Q : Int32 → am_TI → Prop)  : Nat → am_TI → Int32 → Prop
  | 0 => fun _ _ => False
  | f2 + 1 => fun I v2 => (((I (q + 1) 7) ≤ v2 → Q v2 I) ∧ (¬ (I (q + 1) 7) ≤ v2 → (vp_in (38 + (6 * v2)) 2258 ∧ (((I (q + 1) (Int32.toNatClampNeg (38 + (6 * v2)))) = 19 → (vp_in ((38 + (6 * v2)) + 4) 2258 ∧ (vp_in (38 + (6 * (I (q + 1) (Int32.toNatClampNeg ((38 + (6 * v2)) + 4))))) 2258 ∧ (((I (q + 1) (Int32.toNatClampNeg (38 + (6 * (I (q + 1) (Int32.toNatClampNeg ((38 + (6 * v2)) + 4))))))) = 18 → (vp_in (I (q + 1) (Int32.toNatClampNeg ((38 + (6 * v2)) + 4))) 80 ∧ (((I (q + 27) (Int32.toNatClampNeg (I (q + 1) (Int32.toNatClampNeg ((38 + (6 * v2)) + 4))))) ≤ 0 → wb_M_behindEnds_75 L R q p1 Q (wl_M_behindEnds_2 L R q p1 Q f2) I v2 (I (q + 1) (Int32.toNatClampNeg ((38 + (6 * v2)) + 4)))) ∧ (¬ (I (q + 27) (Int32.toNatClampNeg (I (q + 1) (Int32.toNatClampNeg ((38 + (6 * v2)) + 4))))) ≤ 0 → wb_M_behindEnds_76 L R q p1 Q (wl_M_behindEnds_2 L R q p1 Q f2) I v2 (I (q + 1) (Int32.toNatClampNeg ((38 + (6 * v2)) + 4))) true)))) ∧ (¬ (I (q + 1) (Int32.toNatClampNeg (38 + (6 * (I (q + 1) (Int32.toNatClampNeg ((38 + (6 * v2)) + 4))))))) = 18 → wb_M_behindEnds_75 L R q p1 Q (wl_M_behindEnds_2 L R q p1 Q f2) I v2 (I (q + 1) (Int32.toNatClampNeg ((38 + (6 * v2)) + 4)))))))) ∧ (¬ (I (q + 1) (Int32.toNatClampNeg (38 + (6 * v2)))) = 19 → Q v2 I)))))
set_option maxRecDepth 20000 in
theorem tl_M_behindEnds_2 {d : Nat}  {L : am_TL} {R : am_TR} {q : Nat} {p1 : Int32} {Q : Int32 → am_TI → Prop}  (hw : am_Wf R) (hq : am_SH[q]? = some (.inl 12)) (hd : 0 ≤ d) : ∀ (n : Nat) (I : am_TI) (v2 : Int32), wl_M_behindEnds_2 L R q p1 Q  n I v2 → am_Wp (d, "UnseenRingModel", b_M_behindEnds, 5, false) 0 0 2 [some (.ref q), some (.int p1), some (.int v2), none, none] [] (I, L, R, am_SH) (po_M_behindEnds L R Q) := by
  intro n
  induction n with
  | zero => intro I v2 h; exact h.elim
  | succ n ih =>
    intro I v2 h
    unfold wl_M_behindEnds_2 at h
    refine am_iload_n (n := 3) d_M_behindEnds_2 rfl rfl ?_
    refine am_aload_n (n := 4) d_M_behindEnds_3 rfl rfl ?_
    refine am_getR (x := (q + 1)) (n := 7) f_M_7 d_M_behindEnds_4 rfl rfl hq (hw.1 q 12 0 1 hq rfl) ?_
    refine am_bipush (n := 9) d_M_behindEnds_7 cb_7 rfl ?_
    refine am_iald2 (n := 10) d_M_behindEnds_9 rfl (am_sho (k := 0) (o := 1) hq (by decide) (by decide) (by decide) rfl) cx_7_2258 cn_7 ?_
    refine am_icmp_ge (tgt := 115) (n := 13) d_M_behindEnds_10 rfl rfl (fun c1 => ?_) (fun c1 => ?_)
    · have h := h.1 c1
      refine am_iload_n (n := 116) d_M_behindEnds_115 rfl rfl ?_
      exact am_iret d_M_behindEnds_116 ⟨v2, I, rfl, rfl, h⟩
    · have h := h.2 c1
      refine am_aload_n (n := 14) d_M_behindEnds_13 rfl rfl ?_
      refine am_getR (x := (q + 1)) (n := 17) f_M_7 d_M_behindEnds_14 rfl rfl hq (hw.1 q 12 0 1 hq rfl) ?_
      refine am_bipush (n := 19) d_M_behindEnds_17 cb_38 rfl ?_
      refine am_bipush (n := 21) d_M_behindEnds_19 cb_6 rfl ?_
      refine am_iload_n (n := 22) d_M_behindEnds_21 rfl rfl ?_
      refine am_imul (n := 23) d_M_behindEnds_22 rfl ?_
      refine am_iadd (n := 24) d_M_behindEnds_23 rfl ?_
      obtain ⟨g1, h⟩ := h
      refine am_iald2 (n := 25) d_M_behindEnds_24 rfl (am_sho (k := 0) (o := 1) hq (by decide) (by decide) (by decide) rfl) g1 rfl ?_
      refine am_bipush (n := 27) d_M_behindEnds_25 cb_19 rfl ?_
      refine am_icmp_ne (tgt := 115) (n := 30) d_M_behindEnds_27 rfl rfl (fun c2 => ?_) (fun c2 => ?_)
      · have h := h.2 c2
        refine am_iload_n (n := 116) d_M_behindEnds_115 rfl rfl ?_
        exact am_iret d_M_behindEnds_116 ⟨v2, I, rfl, rfl, h⟩
      · have h := h.1 c2
        refine am_aload_n (n := 31) d_M_behindEnds_30 rfl rfl ?_
        refine am_getR (x := (q + 1)) (n := 34) f_M_7 d_M_behindEnds_31 rfl rfl hq (hw.1 q 12 0 1 hq rfl) ?_
        refine am_bipush (n := 36) d_M_behindEnds_34 cb_38 rfl ?_
        refine am_bipush (n := 38) d_M_behindEnds_36 cb_6 rfl ?_
        refine am_iload_n (n := 39) d_M_behindEnds_38 rfl rfl ?_
        refine am_imul (n := 40) d_M_behindEnds_39 rfl ?_
        refine am_iadd (n := 41) d_M_behindEnds_40 rfl ?_
        refine am_iconst (n := 42) d_M_behindEnds_41 ci_4 rfl ?_
        refine am_iadd (n := 43) d_M_behindEnds_42 rfl ?_
        obtain ⟨g2, h⟩ := h
        refine am_iald2 (n := 44) d_M_behindEnds_43 rfl (am_sho (k := 0) (o := 1) hq (by decide) (by decide) (by decide) rfl) g2 rfl ?_
        refine am_istore_n (ls' := [some (.ref q), some (.int p1), some (.int v2), some (.int (I (q + 1) (Int32.toNatClampNeg ((38 + (6 * v2)) + 4)))), none]) (n := 45) d_M_behindEnds_44 (by decide) rfl rfl ?_
        refine am_aload_n (n := 46) d_M_behindEnds_45 rfl rfl ?_
        refine am_getR (x := (q + 1)) (n := 49) f_M_7 d_M_behindEnds_46 rfl rfl hq (hw.1 q 12 0 1 hq rfl) ?_
        refine am_bipush (n := 51) d_M_behindEnds_49 cb_38 rfl ?_
        refine am_bipush (n := 53) d_M_behindEnds_51 cb_6 rfl ?_
        refine am_iload_n (n := 54) d_M_behindEnds_53 rfl rfl ?_
        refine am_imul (n := 55) d_M_behindEnds_54 rfl ?_
        refine am_iadd (n := 56) d_M_behindEnds_55 rfl ?_
        obtain ⟨g3, h⟩ := h
        refine am_iald2 (n := 57) d_M_behindEnds_56 rfl (am_sho (k := 0) (o := 1) hq (by decide) (by decide) (by decide) rfl) g3 rfl ?_
        refine am_bipush (n := 59) d_M_behindEnds_57 cb_18 rfl ?_
        refine am_icmp_ne (tgt := 75) (n := 62) d_M_behindEnds_59 rfl rfl (fun c3 => ?_) (fun c3 => ?_)
        · have h := h.2 c3
          exact tb_M_behindEnds_75 hw hq ih hd I v2 (I (q + 1) (Int32.toNatClampNeg ((38 + (6 * v2)) + 4))) h
        · have h := h.1 c3
          refine am_aload_n (n := 63) d_M_behindEnds_62 rfl rfl ?_
          refine am_getR (x := (q + 27)) (n := 66) f_M_102 d_M_behindEnds_63 rfl rfl hq (hw.1 q 12 46 27 hq rfl) ?_
          refine am_iload_n (n := 67) d_M_behindEnds_66 rfl rfl ?_
          obtain ⟨g6, h⟩ := h
          refine am_iald2 (n := 68) d_M_behindEnds_67 rfl (am_sho (k := 46) (o := 27) hq (by decide) (by decide) (by decide) rfl) g6 rfl ?_
          refine am_if_le (y := 0) (tgt := 75) (n := 71) d_M_behindEnds_68 rfl rfl (fun c6 => ?_) (fun c6 => ?_)
          · have h := h.1 c6
            exact tb_M_behindEnds_75 hw hq ih hd I v2 (I (q + 1) (Int32.toNatClampNeg ((38 + (6 * v2)) + 4))) h
          · have h := h.2 c6
            refine am_iconst (n := 72) d_M_behindEnds_71 ci_1 rfl ?_
            refine am_goto (tgt := 76) d_M_behindEnds_72 rfl ?_
            exact tb_M_behindEnds_76 hw hq ih hd I v2 (I (q + 1) (Int32.toNatClampNeg ((38 + (6 * v2)) + 4))) true h
def wp_M_behindEnds (I : am_TI) (L : am_TL) (R : am_TR) (q : Nat) (p1 : Int32)  (Q : Int32 → am_TI → Prop) : Prop := (∃ z, wl_M_behindEnds_2 L R q p1 Q z I p1)
set_option maxRecDepth 20000 in
theorem cm_M_behindEnds {d : Nat} {I : am_TI} {L : am_TL} {R : am_TR}  (hw : am_Wf R)   {q : Nat} {p1 : Int32} {Q : Int32 → am_TI → Prop} (hd : 0 ≤ d) (hq : am_SH[q]? = some (.inl 12)) (h : wp_M_behindEnds I L R q p1  Q) : am_Cm d 0 0 y_M_behindEnds b_M_behindEnds 5 (some .int) [.ref q, .int p1] (I, L, R, am_SH) (po_M_behindEnds L R Q) := by
  refine am_Cm_of (ini := false) (by decide +kernel) (fun z => by cases z) (by simp [Value.category]) (fun r σ' z => by obtain ⟨x, _, rfl, -⟩ := z; exact ⟨_, rfl, rfl⟩) ?_
  unfold wp_M_behindEnds at h
  show am_Wp (d, "UnseenRingModel", b_M_behindEnds, 5, false) 0 0 0 [some (.ref q), some (.int p1), none, none, none] [] (I, L, R, am_SH) (po_M_behindEnds L R Q)
  refine am_iload_n (n := 1) d_M_behindEnds_0 rfl rfl ?_
  refine am_istore_n (ls' := [some (.ref q), some (.int p1), some (.int p1), none, none]) (n := 2) d_M_behindEnds_1 (by decide) rfl rfl ?_
  obtain ⟨n, h⟩ := h
  exact tl_M_behindEnds_2 hw hq hd n I p1 h
abbrev po_M_draw (L : am_TL) (R : am_TR) (Q : Int32 → am_TI → Prop) : Option Value → am_St → Prop := fun r σ' => ∃ (x : Int32) (I' : am_TI), r = some (.int x) ∧ σ' = (I', L, R, am_SH) ∧ Q x I'
def wp_M_draw (I : am_TI) (L : am_TL) (R : am_TR) (q : Nat) (p1 : Int32)  (Q : Int32 → am_TI → Prop) : Prop := (∀ I1, I1 = am_u2 I q 44 ((((I q 44) * 3257) + 11483) - (((I q 44) * 3257) + 11483) / 65536 * 65536) → (¬ p1 = 0 ∧ Q (((I1 q 44) / 8) - ((I1 q 44) / 8) / p1 * p1) I1))
set_option maxRecDepth 20000 in
theorem cm_M_draw {d : Nat} {I : am_TI} {L : am_TL} {R : am_TR}  (hw : am_Wf R)   {q : Nat} {p1 : Int32} {Q : Int32 → am_TI → Prop} (hd : 0 ≤ d) (hq : am_SH[q]? = some (.inl 12)) (h : wp_M_draw I L R q p1  Q) : am_Cm d 0 0 y_M_draw b_M_draw 2 (some .int) [.ref q, .int p1] (I, L, R, am_SH) (po_M_draw L R Q) := by
  refine am_Cm_of (ini := false) (by decide +kernel) (fun z => by cases z) (by simp [Value.category]) (fun r σ' z => by obtain ⟨x, _, rfl, -⟩ := z; exact ⟨_, rfl, rfl⟩) ?_
  unfold wp_M_draw at h
  show am_Wp (d, "UnseenRingModel", b_M_draw, 2, false) 0 0 0 [some (.ref q), some (.int p1)] [] (I, L, R, am_SH) (po_M_draw L R Q)
  refine am_aload_n (n := 1) d_M_draw_0 rfl rfl ?_
  refine am_aload_n (n := 2) d_M_draw_1 rfl rfl ?_
  refine am_getI (n := 5) f_M_482 d_M_draw_2 rfl rfl hq ?_
  refine am_sipush (n := 8) d_M_draw_5 cs_3257 rfl ?_
  refine am_imul (n := 9) d_M_draw_8 rfl ?_
  refine am_sipush (n := 12) d_M_draw_9 cs_11483 rfl ?_
  refine am_iadd (n := 13) d_M_draw_12 rfl ?_
  refine am_ldcw (n := 16) d_M_draw_13 k_M_485 rfl ?_
  refine am_irem (n := 17) d_M_draw_16 (by decide) rfl ?_
  refine am_putI (n := 20) f_M_482 d_M_draw_17 rfl ⟨_, rfl, Or.inl rfl⟩ rfl rfl hq ?_
  generalize eI1 : am_u2 I q 44 ((((I q 44) * 3257) + 11483) - (((I q 44) * 3257) + 11483) / 65536 * 65536) = I1
  have h := h I1 eI1.symm
  refine am_aload_n (n := 21) d_M_draw_20 rfl rfl ?_
  refine am_getI (n := 24) f_M_482 d_M_draw_21 rfl rfl hq ?_
  refine am_bipush (n := 26) d_M_draw_24 cb_8 rfl ?_
  refine am_idiv (n := 27) d_M_draw_26 (by decide) rfl ?_
  refine am_iload_n (n := 28) d_M_draw_27 rfl rfl ?_
  obtain ⟨g1, h⟩ := h
  refine am_irem (n := 29) d_M_draw_28 g1 rfl ?_
  exact am_iret d_M_draw_29 ⟨(((I1 q 44) / 8) - ((I1 q 44) / 8) / p1 * p1), I1, rfl, rfl, h⟩
abbrev po_M_hitsBy (L : am_TL) (R : am_TR) (Q : Bool → am_TI → Prop) : Option Value → am_St → Prop := fun r σ' => ∃ (x : Bool) (I' : am_TI), r = some (.int (am_b x)) ∧ σ' = (I', L, R, am_SH) ∧ Q x I'
def wp_M_hitsBy (I : am_TI) (L : am_TL) (R : am_TR) (q : Nat) (p1 : Int32)  (Q : Bool → am_TI → Prop) : Prop := wp_M_hits I L R q p1 (fun (r1 : Int32) (I1 : am_TI) => ((r1 = 0 → Q false I1) ∧ (¬ r1 = 0 → (∀ I2, I2 = am_u2 I1 (q + 28) 3 ((I1 (q + 28) 3) + 1) → Q true I2))))
set_option maxRecDepth 20000 in
theorem cm_M_hitsBy {d : Nat} {I : am_TI} {L : am_TL} {R : am_TR}  (hw : am_Wf R)   {q : Nat} {p1 : Int32} {Q : Bool → am_TI → Prop} (hd : 4 ≤ d) (hq : am_SH[q]? = some (.inl 12)) (h : wp_M_hitsBy I L R q p1  Q) : am_Cm d 0 0 y_M_hitsBy b_M_hitsBy 2 (some .boolean) [.ref q, .int p1] (I, L, R, am_SH) (po_M_hitsBy L R Q) := by
  refine am_Cm_of (ini := false) (by decide +kernel) (fun z => by cases z) (by simp [Value.category]) (fun r σ' z => by obtain ⟨x, _, rfl, -⟩ := z; exact ⟨_, rfl, am_b_nar x⟩) ?_
  unfold wp_M_hitsBy at h
  show am_Wp (d, "UnseenRingModel", b_M_hitsBy, 2, false) 0 0 0 [some (.ref q), some (.int p1)] [] (I, L, R, am_SH) (po_M_hitsBy L R Q)
  refine am_aload_n (n := 1) d_M_hitsBy_0 rfl rfl ?_
  refine am_iload_n (n := 2) d_M_hitsBy_1 rfl rfl ?_
  refine am_callV (kc := 0) (ks := 0) (As := [.int p1]) (n := 5) d_M_hitsBy_2 rfl ce_M_hits lk_M_355 in_M_hits rfl rfl hq rfl rfl (Nat.le_of_ble_eq_true rfl) (Or.inl rfl) (cm_M_hits (d := d - 1) hw (by omega) hq h) (by omega) ?_
  rintro _ _ ⟨r1, I1, rfl, rfl, h⟩
  show am_Wp (d, "UnseenRingModel", b_M_hitsBy, 2, false) 0 0 5 [some (.ref q), some (.int p1)] [.int r1] (I1, L, R, am_SH) (po_M_hitsBy L R Q)
  refine am_if_ne (y := 0) (tgt := 10) (n := 8) d_M_hitsBy_5 rfl rfl (fun c1 => ?_) (fun c1 => ?_)
  · have h := h.2 c1
    refine am_aload_n (n := 11) d_M_hitsBy_10 rfl rfl ?_
    refine am_getR (x := (q + 28)) (n := 14) f_M_105 d_M_hitsBy_11 rfl rfl hq (hw.1 q 12 47 28 hq rfl) ?_
    refine am_iconst (n := 15) d_M_hitsBy_14 ci_3 rfl ?_
    refine am_dup2 (n := 16) d_M_hitsBy_15 rfl rfl rfl ?_
    refine am_iald2 (n := 17) d_M_hitsBy_16 rfl (am_sho (k := 47) (o := 28) hq (by decide) (by decide) (by decide) rfl) cx_3_5 cn_3 ?_
    refine am_iconst (n := 18) d_M_hitsBy_17 ci_1 rfl ?_
    refine am_iadd (n := 19) d_M_hitsBy_18 rfl ?_
    refine am_iast2 (n := 20) d_M_hitsBy_19 rfl (am_sho (k := 47) (o := 28) hq (by decide) (by decide) (by decide) rfl) cx_3_5 cn_3 ?_
    generalize eI2 : am_u2 I1 (q + 28) 3 ((I1 (q + 28) 3) + 1) = I2
    have h := h I2 eI2.symm
    refine am_iconst (n := 21) d_M_hitsBy_20 ci_1 rfl ?_
    exact am_iret d_M_hitsBy_21 ⟨true, I2, rfl, rfl, h⟩
  · have h := h.1 c1
    refine am_iconst (n := 9) d_M_hitsBy_8 ci_0 rfl ?_
    exact am_iret d_M_hitsBy_9 ⟨false, I1, rfl, rfl, h⟩
abbrev po_M_playsBy (L : am_TL) (R : am_TR) (Q : Bool → am_TI → Prop) : Option Value → am_St → Prop := fun r σ' => ∃ (x : Bool) (I' : am_TI), r = some (.int (am_b x)) ∧ σ' = (I', L, R, am_SH) ∧ Q x I'
def wp_M_playsBy (I : am_TI) (L : am_TL) (R : am_TR) (q : Nat) (p1 : Int32)  (Q : Bool → am_TI → Prop) : Prop := wp_M_likersOf I L R q p1 (fun (r1 : Int32) => ((r1 = 0 → Q false I) ∧ (¬ r1 = 0 → wp_M_plays I L R q p1 (fun (r2 : Int32) (I1 : am_TI) => (∀ I2, I2 = am_u2 I1 (q + 28) 2 ((I (q + 28) 2) + r2) → (∀ I3, I3 = am_u2 I2 (q + 28) 1 ((I2 (q + 28) 1) + 1) → Q true I3))))))
set_option maxRecDepth 20000 in
theorem cm_M_playsBy {d : Nat} {I : am_TI} {L : am_TL} {R : am_TR}  (hw : am_Wf R)   {q : Nat} {p1 : Int32} {Q : Bool → am_TI → Prop} (hd : 3 ≤ d) (hq : am_SH[q]? = some (.inl 12)) (h : wp_M_playsBy I L R q p1  Q) : am_Cm d 0 0 y_M_playsBy b_M_playsBy 2 (some .boolean) [.ref q, .int p1] (I, L, R, am_SH) (po_M_playsBy L R Q) := by
  refine am_Cm_of (ini := false) (by decide +kernel) (fun z => by cases z) (by simp [Value.category]) (fun r σ' z => by obtain ⟨x, _, rfl, -⟩ := z; exact ⟨_, rfl, am_b_nar x⟩) ?_
  unfold wp_M_playsBy at h
  show am_Wp (d, "UnseenRingModel", b_M_playsBy, 2, false) 0 0 0 [some (.ref q), some (.int p1)] [] (I, L, R, am_SH) (po_M_playsBy L R Q)
  refine am_aload_n (n := 1) d_M_playsBy_0 rfl rfl ?_
  refine am_iload_n (n := 2) d_M_playsBy_1 rfl rfl ?_
  refine am_callV (kc := 0) (ks := 0) (As := [.int p1]) (n := 5) d_M_playsBy_2 rfl ce_M_likersOf lk_M_343 in_M_likersOf rfl rfl hq rfl rfl (Nat.le_of_ble_eq_true rfl) (Or.inl rfl) (cm_M_likersOf (d := d - 1) hw (by omega) hq h) (by omega) ?_
  rintro _ _ ⟨r1, rfl, rfl, h⟩
  show am_Wp (d, "UnseenRingModel", b_M_playsBy, 2, false) 0 0 5 [some (.ref q), some (.int p1)] [.int r1] (I, L, R, am_SH) (po_M_playsBy L R Q)
  refine am_if_ne (y := 0) (tgt := 10) (n := 8) d_M_playsBy_5 rfl rfl (fun c1 => ?_) (fun c1 => ?_)
  · have h := h.2 c1
    refine am_aload_n (n := 11) d_M_playsBy_10 rfl rfl ?_
    refine am_getR (x := (q + 28)) (n := 14) f_M_105 d_M_playsBy_11 rfl rfl hq (hw.1 q 12 47 28 hq rfl) ?_
    refine am_iconst (n := 15) d_M_playsBy_14 ci_2 rfl ?_
    refine am_dup2 (n := 16) d_M_playsBy_15 rfl rfl rfl ?_
    refine am_iald2 (n := 17) d_M_playsBy_16 rfl (am_sho (k := 47) (o := 28) hq (by decide) (by decide) (by decide) rfl) cx_2_5 cn_2 ?_
    refine am_aload_n (n := 18) d_M_playsBy_17 rfl rfl ?_
    refine am_iload_n (n := 19) d_M_playsBy_18 rfl rfl ?_
    refine am_callV (kc := 0) (ks := 0) (As := [.int p1]) (n := 22) d_M_playsBy_19 rfl ce_M_plays lk_M_349 in_M_plays rfl rfl hq rfl rfl (Nat.le_of_ble_eq_true rfl) (Or.inl rfl) (cm_M_plays (d := d - 1) hw (by omega) hq h) (by omega) ?_
    rintro _ _ ⟨r2, I1, rfl, rfl, h⟩
    show am_Wp (d, "UnseenRingModel", b_M_playsBy, 2, false) 0 0 22 [some (.ref q), some (.int p1)] [.int r2, .int (I (q + 28) 2), .int 2, .ref (q + 28)] (I1, L, R, am_SH) (po_M_playsBy L R Q)
    refine am_iadd (n := 23) d_M_playsBy_22 rfl ?_
    refine am_iast2 (n := 24) d_M_playsBy_23 rfl (am_sho (k := 47) (o := 28) hq (by decide) (by decide) (by decide) rfl) cx_2_5 cn_2 ?_
    generalize eI2 : am_u2 I1 (q + 28) 2 ((I (q + 28) 2) + r2) = I2
    have h := h I2 eI2.symm
    refine am_aload_n (n := 25) d_M_playsBy_24 rfl rfl ?_
    refine am_getR (x := (q + 28)) (n := 28) f_M_105 d_M_playsBy_25 rfl rfl hq (hw.1 q 12 47 28 hq rfl) ?_
    refine am_iconst (n := 29) d_M_playsBy_28 ci_1 rfl ?_
    refine am_dup2 (n := 30) d_M_playsBy_29 rfl rfl rfl ?_
    refine am_iald2 (n := 31) d_M_playsBy_30 rfl (am_sho (k := 47) (o := 28) hq (by decide) (by decide) (by decide) rfl) cx_1_5 cn_1 ?_
    refine am_iconst (n := 32) d_M_playsBy_31 ci_1 rfl ?_
    refine am_iadd (n := 33) d_M_playsBy_32 rfl ?_
    refine am_iast2 (n := 34) d_M_playsBy_33 rfl (am_sho (k := 47) (o := 28) hq (by decide) (by decide) (by decide) rfl) cx_1_5 cn_1 ?_
    generalize eI3 : am_u2 I2 (q + 28) 1 ((I2 (q + 28) 1) + 1) = I3
    have h := h I3 eI3.symm
    refine am_iconst (n := 35) d_M_playsBy_34 ci_1 rfl ?_
    exact am_iret d_M_playsBy_35 ⟨true, I3, rfl, rfl, h⟩
  · have h := h.1 c1
    refine am_iconst (n := 9) d_M_playsBy_8 ci_0 rfl ?_
    exact am_iret d_M_playsBy_9 ⟨false, I, rfl, rfl, h⟩
abbrev po_M_doesAny (L : am_TL) (R : am_TR) (Q : Bool → am_TI → Prop) : Option Value → am_St → Prop := fun r σ' => ∃ (x : Bool) (I' : am_TI), r = some (.int (am_b x)) ∧ σ' = (I', L, R, am_SH) ∧ Q x I'
def wp_M_doesAny (I : am_TI) (L : am_TL) (R : am_TR) (q : Nat)  (Q : Bool → am_TI → Prop) : Prop := (((I (q + 1) 2) = 0 → Q false I) ∧ (¬ (I (q + 1) 2) = 0 → wp_M_draw I L R q (I (q + 1) 2) (fun (r1 : Int32) (I1 : am_TI) => wp_M_cellsOf I1 L R q 0 (fun (r2 : Int32) => wp_M_draw I1 L R q r2 (fun (r3 : Int32) (I2 : am_TI) => wp_M_draw I2 L R q 16 (fun (r4 : Int32) (I3 : am_TI) => (((I3 (q + 1) 5) ≤ r4 → wp_M_hitsBy I3 L R q r3 (fun (r5 : Bool) (I4 : am_TI) => Q r5 I4)) ∧ (¬ (I3 (q + 1) 5) ≤ r4 → wp_M_playsBy I3 L R q r1 (fun (r6 : Bool) (I5 : am_TI) => Q r6 I5)))))))))
set_option maxRecDepth 20000 in
theorem cm_M_doesAny {d : Nat} {I : am_TI} {L : am_TL} {R : am_TR}  (hw : am_Wf R)   {q : Nat} {Q : Bool → am_TI → Prop} (hd : 5 ≤ d) (hq : am_SH[q]? = some (.inl 12)) (h : wp_M_doesAny I L R q  Q) : am_Cm d 0 0 y_M_doesAny b_M_doesAny 3 (some .boolean) [.ref q] (I, L, R, am_SH) (po_M_doesAny L R Q) := by
  refine am_Cm_of (ini := false) (by decide +kernel) (fun z => by cases z) (by simp [Value.category]) (fun r σ' z => by obtain ⟨x, _, rfl, -⟩ := z; exact ⟨_, rfl, am_b_nar x⟩) ?_
  unfold wp_M_doesAny at h
  show am_Wp (d, "UnseenRingModel", b_M_doesAny, 3, false) 0 0 0 [some (.ref q), none, none] [] (I, L, R, am_SH) (po_M_doesAny L R Q)
  refine am_aload_n (n := 1) d_M_doesAny_0 rfl rfl ?_
  refine am_getR (x := (q + 1)) (n := 4) f_M_7 d_M_doesAny_1 rfl rfl hq (hw.1 q 12 0 1 hq rfl) ?_
  refine am_iconst (n := 5) d_M_doesAny_4 ci_2 rfl ?_
  refine am_iald2 (n := 6) d_M_doesAny_5 rfl (am_sho (k := 0) (o := 1) hq (by decide) (by decide) (by decide) rfl) cx_2_2258 cn_2 ?_
  refine am_if_ne (y := 0) (tgt := 11) (n := 9) d_M_doesAny_6 rfl rfl (fun c1 => ?_) (fun c1 => ?_)
  · have h := h.2 c1
    refine am_aload_n (n := 12) d_M_doesAny_11 rfl rfl ?_
    refine am_aload_n (n := 13) d_M_doesAny_12 rfl rfl ?_
    refine am_getR (x := (q + 1)) (n := 16) f_M_7 d_M_doesAny_13 rfl rfl hq (hw.1 q 12 0 1 hq rfl) ?_
    refine am_iconst (n := 17) d_M_doesAny_16 ci_2 rfl ?_
    refine am_iald2 (n := 18) d_M_doesAny_17 rfl (am_sho (k := 0) (o := 1) hq (by decide) (by decide) (by decide) rfl) cx_2_2258 cn_2 ?_
    refine am_callV (kc := 0) (ks := 0) (As := [.int (I (q + 1) 2)]) (n := 21) d_M_doesAny_18 rfl ce_M_draw lk_M_486 in_M_draw rfl rfl hq rfl rfl (Nat.le_of_ble_eq_true rfl) (Or.inl rfl) (cm_M_draw (d := d - 1) hw (by omega) hq h) (by omega) ?_
    rintro _ _ ⟨r1, I1, rfl, rfl, h⟩
    show am_Wp (d, "UnseenRingModel", b_M_doesAny, 3, false) 0 0 21 [some (.ref q), none, none] [.int r1] (I1, L, R, am_SH) (po_M_doesAny L R Q)
    refine am_istore_n (ls' := [some (.ref q), some (.int r1), none]) (n := 22) d_M_doesAny_21 (by decide) rfl rfl ?_
    refine am_aload_n (n := 23) d_M_doesAny_22 rfl rfl ?_
    refine am_aload_n (n := 24) d_M_doesAny_23 rfl rfl ?_
    refine am_iconst (n := 25) d_M_doesAny_24 ci_0 rfl ?_
    refine am_callV (kc := 0) (ks := 0) (As := [.int 0]) (n := 28) d_M_doesAny_25 rfl ce_M_cellsOf lk_M_223 in_M_cellsOf rfl rfl hq rfl rfl (Nat.le_of_ble_eq_true rfl) (Or.inl rfl) (cm_M_cellsOf (d := d - 1) hw (by omega) hq h) (by omega) ?_
    rintro _ _ ⟨r2, rfl, rfl, h⟩
    show am_Wp (d, "UnseenRingModel", b_M_doesAny, 3, false) 0 0 28 [some (.ref q), some (.int r1), none] [.int r2, .ref q] (I1, L, R, am_SH) (po_M_doesAny L R Q)
    refine am_callV (kc := 0) (ks := 0) (As := [.int r2]) (n := 31) d_M_doesAny_28 rfl ce_M_draw lk_M_486 in_M_draw rfl rfl hq rfl rfl (Nat.le_of_ble_eq_true rfl) (Or.inl rfl) (cm_M_draw (d := d - 1) hw (by omega) hq h) (by omega) ?_
    rintro _ _ ⟨r3, I2, rfl, rfl, h⟩
    show am_Wp (d, "UnseenRingModel", b_M_doesAny, 3, false) 0 0 31 [some (.ref q), some (.int r1), none] [.int r3] (I2, L, R, am_SH) (po_M_doesAny L R Q)
    refine am_istore_n (ls' := [some (.ref q), some (.int r1), some (.int r3)]) (n := 32) d_M_doesAny_31 (by decide) rfl rfl ?_
    refine am_aload_n (n := 33) d_M_doesAny_32 rfl rfl ?_
    refine am_bipush (n := 35) d_M_doesAny_33 cb_16 rfl ?_
    refine am_callV (kc := 0) (ks := 0) (As := [.int 16]) (n := 38) d_M_doesAny_35 rfl ce_M_draw lk_M_486 in_M_draw rfl rfl hq rfl rfl (Nat.le_of_ble_eq_true rfl) (Or.inl rfl) (cm_M_draw (d := d - 1) hw (by omega) hq h) (by omega) ?_
    rintro _ _ ⟨r4, I3, rfl, rfl, h⟩
    show am_Wp (d, "UnseenRingModel", b_M_doesAny, 3, false) 0 0 38 [some (.ref q), some (.int r1), some (.int r3)] [.int r4] (I3, L, R, am_SH) (po_M_doesAny L R Q)
    refine am_aload_n (n := 39) d_M_doesAny_38 rfl rfl ?_
    refine am_getR (x := (q + 1)) (n := 42) f_M_7 d_M_doesAny_39 rfl rfl hq (hw.1 q 12 0 1 hq rfl) ?_
    refine am_iconst (n := 43) d_M_doesAny_42 ci_5 rfl ?_
    refine am_iald2 (n := 44) d_M_doesAny_43 rfl (am_sho (k := 0) (o := 1) hq (by decide) (by decide) (by decide) rfl) cx_5_2258 cn_5 ?_
    refine am_icmp_ge (tgt := 55) (n := 47) d_M_doesAny_44 rfl rfl (fun c2 => ?_) (fun c2 => ?_)
    · have h := h.1 c2
      refine am_aload_n (n := 56) d_M_doesAny_55 rfl rfl ?_
      refine am_iload_n (n := 57) d_M_doesAny_56 rfl rfl ?_
      refine am_callV (kc := 0) (ks := 0) (As := [.int r3]) (n := 60) d_M_doesAny_57 rfl ce_M_hitsBy lk_M_492 in_M_hitsBy rfl rfl hq rfl rfl (Nat.le_of_ble_eq_true rfl) (Or.inl rfl) (cm_M_hitsBy (d := d - 1) hw (by omega) hq h) (by omega) ?_
      rintro _ _ ⟨r5, I4, rfl, rfl, h⟩
      show am_Wp (d, "UnseenRingModel", b_M_doesAny, 3, false) 0 0 60 [some (.ref q), some (.int r1), some (.int r3)] [.int (am_b r5)] (I4, L, R, am_SH) (po_M_doesAny L R Q)
      exact am_iret d_M_doesAny_60 ⟨r5, I4, rfl, rfl, h⟩
    · have h := h.2 c2
      refine am_aload_n (n := 48) d_M_doesAny_47 rfl rfl ?_
      refine am_iload_n (n := 49) d_M_doesAny_48 rfl rfl ?_
      refine am_callV (kc := 0) (ks := 0) (As := [.int r1]) (n := 52) d_M_doesAny_49 rfl ce_M_playsBy lk_M_489 in_M_playsBy rfl rfl hq rfl rfl (Nat.le_of_ble_eq_true rfl) (Or.inl rfl) (cm_M_playsBy (d := d - 1) hw (by omega) hq h) (by omega) ?_
      rintro _ _ ⟨r6, I5, rfl, rfl, h⟩
      show am_Wp (d, "UnseenRingModel", b_M_doesAny, 3, false) 0 0 52 [some (.ref q), some (.int r1), some (.int r3)] [.int (am_b r6)] (I5, L, R, am_SH) (po_M_doesAny L R Q)
      refine am_goto (tgt := 60) d_M_doesAny_52 rfl ?_
      exact am_iret d_M_doesAny_60 ⟨r6, I5, rfl, rfl, h⟩
  · have h := h.1 c1
    refine am_iconst (n := 10) d_M_doesAny_9 ci_0 rfl ?_
    exact am_iret d_M_doesAny_10 ⟨false, I, rfl, rfl, h⟩
abbrev po_M_does (L : am_TL) (R : am_TR) (Q : Bool → am_TI → Prop) : Option Value → am_St → Prop := fun r σ' => ∃ (x : Bool) (I' : am_TI), r = some (.int (am_b x)) ∧ σ' = (I', L, R, am_SH) ∧ Q x I'
def wp_M_does (I : am_TI) (L : am_TL) (R : am_TR) (q : Nat) (p1 : Int32)  (Q : Bool → am_TI → Prop) : Prop := (vp_in (p1 + 1) 2258 ∧ (vp_in p1 2258 ∧ (((I (q + 1) (Int32.toNatClampNeg p1)) = 10 → wp_M_playsBy I L R q (I (q + 1) (Int32.toNatClampNeg (p1 + 1))) (fun (r1 : Bool) (I1 : am_TI) => Q r1 I1)) ∧ ((I (q + 1) (Int32.toNatClampNeg p1)) = 11 → wp_M_grinds I L R q (I (q + 1) (Int32.toNatClampNeg (p1 + 1))) (fun (r2 : Bool) (I2 : am_TI) => Q r2 I2)) ∧ ((I (q + 1) (Int32.toNatClampNeg p1)) = 12 → wp_M_hitsBy I L R q (I (q + 1) (Int32.toNatClampNeg (p1 + 1))) (fun (r3 : Bool) (I3 : am_TI) => Q r3 I3)) ∧ ((I (q + 1) (Int32.toNatClampNeg p1)) = 13 → wp_M_brushes I L R q (fun (r4 : Int32) (I4 : am_TI) => ((r4 ≤ 0 → Q false I4) ∧ (¬ r4 ≤ 0 → Q true I4)))) ∧ ((I (q + 1) (Int32.toNatClampNeg p1)) = 14 → (vp_in (p1 + 2) 2258 ∧ wp_M_sends I L R q (I (q + 1) (Int32.toNatClampNeg (p1 + 1))) (I (q + 1) (Int32.toNatClampNeg (p1 + 2))) (fun (r5 : Bool) (I5 : am_TI) => Q r5 I5))) ∧ ((I (q + 1) (Int32.toNatClampNeg p1)) = 15 → wp_M_empties I L R q (fun (r6 : Int32) (I6 : am_TI) => ((r6 ≤ 0 → Q false I6) ∧ (¬ r6 ≤ 0 → Q true I6)))) ∧ ((I (q + 1) (Int32.toNatClampNeg p1)) = 16 → wp_M_doesAny I L R q (fun (r7 : Bool) (I7 : am_TI) => Q r7 I7)) ∧ (¬ (I (q + 1) (Int32.toNatClampNeg p1)) = 10 → ¬ (I (q + 1) (Int32.toNatClampNeg p1)) = 11 → ¬ (I (q + 1) (Int32.toNatClampNeg p1)) = 12 → ¬ (I (q + 1) (Int32.toNatClampNeg p1)) = 13 → ¬ (I (q + 1) (Int32.toNatClampNeg p1)) = 14 → ¬ (I (q + 1) (Int32.toNatClampNeg p1)) = 15 → ¬ (I (q + 1) (Int32.toNatClampNeg p1)) = 16 → Q true I))))
set_option maxRecDepth 20000 in
theorem cm_M_does {d : Nat} {I : am_TI} {L : am_TL} {R : am_TR}  (hw : am_Wf R)   {q : Nat} {p1 : Int32} {Q : Bool → am_TI → Prop} (hd : 6 ≤ d) (hq : am_SH[q]? = some (.inl 12)) (h : wp_M_does I L R q p1  Q) : am_Cm d 0 0 y_M_does b_M_does 3 (some .boolean) [.ref q, .int p1] (I, L, R, am_SH) (po_M_does L R Q) := by
  refine am_Cm_of (ini := false) (by decide +kernel) (fun z => by cases z) (by simp [Value.category]) (fun r σ' z => by obtain ⟨x, _, rfl, -⟩ := z; exact ⟨_, rfl, am_b_nar x⟩) ?_
  unfold wp_M_does at h
  show am_Wp (d, "UnseenRingModel", b_M_does, 3, false) 0 0 0 [some (.ref q), some (.int p1), none] [] (I, L, R, am_SH) (po_M_does L R Q)
  refine am_aload_n (n := 1) d_M_does_0 rfl rfl ?_
  refine am_getR (x := (q + 1)) (n := 4) f_M_7 d_M_does_1 rfl rfl hq (hw.1 q 12 0 1 hq rfl) ?_
  refine am_iload_n (n := 5) d_M_does_4 rfl rfl ?_
  refine am_iconst (n := 6) d_M_does_5 ci_1 rfl ?_
  refine am_iadd (n := 7) d_M_does_6 rfl ?_
  obtain ⟨g1, h⟩ := h
  refine am_iald2 (n := 8) d_M_does_7 rfl (am_sho (k := 0) (o := 1) hq (by decide) (by decide) (by decide) rfl) g1 rfl ?_
  refine am_istore_n (ls' := [some (.ref q), some (.int p1), some (.int (I (q + 1) (Int32.toNatClampNeg (p1 + 1))))]) (n := 9) d_M_does_8 (by decide) rfl rfl ?_
  refine am_aload_n (n := 10) d_M_does_9 rfl rfl ?_
  refine am_getR (x := (q + 1)) (n := 13) f_M_7 d_M_does_10 rfl rfl hq (hw.1 q 12 0 1 hq rfl) ?_
  refine am_iload_n (n := 14) d_M_does_13 rfl rfl ?_
  obtain ⟨g2, h⟩ := h
  refine am_iald2 (n := 15) d_M_does_14 rfl (am_sho (k := 0) (o := 1) hq (by decide) (by decide) (by decide) rfl) g2 rfl ?_
  by_cases c1 : (I (q + 1) (Int32.toNatClampNeg p1)) = 10
  · have h := h.1 c1
    refine am_tableIn (off := 41) (tgt := 56) d_M_does_15 (by rw [c1]; decide) (by rw [c1]; decide) (by rw [c1]; decide +kernel) rfl ?_
    refine am_aload_n (n := 57) d_M_does_56 rfl rfl ?_
    refine am_iload_n (n := 58) d_M_does_57 rfl rfl ?_
    refine am_callV (kc := 0) (ks := 0) (As := [.int (I (q + 1) (Int32.toNatClampNeg (p1 + 1)))]) (n := 61) d_M_does_58 rfl ce_M_playsBy lk_M_489 in_M_playsBy rfl rfl hq rfl rfl (Nat.le_of_ble_eq_true rfl) (Or.inl rfl) (cm_M_playsBy (d := d - 1) hw (by omega) hq h) (by omega) ?_
    rintro _ _ ⟨r1, I1, rfl, rfl, h⟩
    show am_Wp (d, "UnseenRingModel", b_M_does, 3, false) 0 0 61 [some (.ref q), some (.int p1), some (.int (I (q + 1) (Int32.toNatClampNeg (p1 + 1))))] [.int (am_b r1)] (I1, L, R, am_SH) (po_M_does L R Q)
    exact am_iret d_M_does_61 ⟨r1, I1, rfl, rfl, h⟩
  by_cases c2 : (I (q + 1) (Int32.toNatClampNeg p1)) = 11
  · have h := h.2.1 c2
    refine am_tableIn (off := 47) (tgt := 62) d_M_does_15 (by rw [c2]; decide) (by rw [c2]; decide) (by rw [c2]; decide +kernel) rfl ?_
    refine am_aload_n (n := 63) d_M_does_62 rfl rfl ?_
    refine am_iload_n (n := 64) d_M_does_63 rfl rfl ?_
    refine am_callV (kc := 0) (ks := 0) (As := [.int (I (q + 1) (Int32.toNatClampNeg (p1 + 1)))]) (n := 67) d_M_does_64 rfl ce_M_grinds lk_M_352 in_M_grinds rfl rfl hq rfl rfl (Nat.le_of_ble_eq_true rfl) (Or.inl rfl) (cm_M_grinds (d := d - 1) hw (by omega) hq h) (by omega) ?_
    rintro _ _ ⟨r2, I2, rfl, rfl, h⟩
    show am_Wp (d, "UnseenRingModel", b_M_does, 3, false) 0 0 67 [some (.ref q), some (.int p1), some (.int (I (q + 1) (Int32.toNatClampNeg (p1 + 1))))] [.int (am_b r2)] (I2, L, R, am_SH) (po_M_does L R Q)
    exact am_iret d_M_does_67 ⟨r2, I2, rfl, rfl, h⟩
  by_cases c3 : (I (q + 1) (Int32.toNatClampNeg p1)) = 12
  · have h := h.2.2.1 c3
    refine am_tableIn (off := 53) (tgt := 68) d_M_does_15 (by rw [c3]; decide) (by rw [c3]; decide) (by rw [c3]; decide +kernel) rfl ?_
    refine am_aload_n (n := 69) d_M_does_68 rfl rfl ?_
    refine am_iload_n (n := 70) d_M_does_69 rfl rfl ?_
    refine am_callV (kc := 0) (ks := 0) (As := [.int (I (q + 1) (Int32.toNatClampNeg (p1 + 1)))]) (n := 73) d_M_does_70 rfl ce_M_hitsBy lk_M_492 in_M_hitsBy rfl rfl hq rfl rfl (Nat.le_of_ble_eq_true rfl) (Or.inl rfl) (cm_M_hitsBy (d := d - 1) hw (by omega) hq h) (by omega) ?_
    rintro _ _ ⟨r3, I3, rfl, rfl, h⟩
    show am_Wp (d, "UnseenRingModel", b_M_does, 3, false) 0 0 73 [some (.ref q), some (.int p1), some (.int (I (q + 1) (Int32.toNatClampNeg (p1 + 1))))] [.int (am_b r3)] (I3, L, R, am_SH) (po_M_does L R Q)
    exact am_iret d_M_does_73 ⟨r3, I3, rfl, rfl, h⟩
  by_cases c4 : (I (q + 1) (Int32.toNatClampNeg p1)) = 13
  · have h := h.2.2.2.1 c4
    refine am_tableIn (off := 59) (tgt := 74) d_M_does_15 (by rw [c4]; decide) (by rw [c4]; decide) (by rw [c4]; decide +kernel) rfl ?_
    refine am_aload_n (n := 75) d_M_does_74 rfl rfl ?_
    refine am_callV (kc := 0) (ks := 0) (As := []) (n := 78) d_M_does_75 rfl ce_M_brushes lk_M_361 in_M_brushes rfl rfl hq rfl rfl (Nat.le_of_ble_eq_true rfl) (Or.inl rfl) (cm_M_brushes (d := d - 1) hw (by omega) hq h) (by omega) ?_
    rintro _ _ ⟨r4, I4, rfl, rfl, h⟩
    show am_Wp (d, "UnseenRingModel", b_M_does, 3, false) 0 0 78 [some (.ref q), some (.int p1), some (.int (I (q + 1) (Int32.toNatClampNeg (p1 + 1))))] [.int r4] (I4, L, R, am_SH) (po_M_does L R Q)
    refine am_if_le (y := 0) (tgt := 85) (n := 81) d_M_does_78 rfl rfl (fun c5 => ?_) (fun c5 => ?_)
    · have h := h.1 c5
      refine am_iconst (n := 86) d_M_does_85 ci_0 rfl ?_
      exact am_iret d_M_does_86 ⟨false, I4, rfl, rfl, h⟩
    · have h := h.2 c5
      refine am_iconst (n := 82) d_M_does_81 ci_1 rfl ?_
      refine am_goto (tgt := 86) d_M_does_82 rfl ?_
      exact am_iret d_M_does_86 ⟨true, I4, rfl, rfl, h⟩
  by_cases c6 : (I (q + 1) (Int32.toNatClampNeg p1)) = 14
  · have h := h.2.2.2.2.1 c6
    refine am_tableIn (off := 72) (tgt := 87) d_M_does_15 (by rw [c6]; decide) (by rw [c6]; decide) (by rw [c6]; decide +kernel) rfl ?_
    refine am_aload_n (n := 88) d_M_does_87 rfl rfl ?_
    refine am_iload_n (n := 89) d_M_does_88 rfl rfl ?_
    refine am_aload_n (n := 90) d_M_does_89 rfl rfl ?_
    refine am_getR (x := (q + 1)) (n := 93) f_M_7 d_M_does_90 rfl rfl hq (hw.1 q 12 0 1 hq rfl) ?_
    refine am_iload_n (n := 94) d_M_does_93 rfl rfl ?_
    refine am_iconst (n := 95) d_M_does_94 ci_2 rfl ?_
    refine am_iadd (n := 96) d_M_does_95 rfl ?_
    obtain ⟨g3, h⟩ := h
    refine am_iald2 (n := 97) d_M_does_96 rfl (am_sho (k := 0) (o := 1) hq (by decide) (by decide) (by decide) rfl) g3 rfl ?_
    refine am_callV (kc := 0) (ks := 0) (As := [.int (I (q + 1) (Int32.toNatClampNeg (p1 + 1))), .int (I (q + 1) (Int32.toNatClampNeg (p1 + 2)))]) (n := 100) d_M_does_97 rfl ce_M_sends lk_M_364 in_M_sends rfl rfl hq rfl rfl (Nat.le_of_ble_eq_true rfl) (Or.inl rfl) (cm_M_sends (d := d - 1) hw (by omega) hq h) (by omega) ?_
    rintro _ _ ⟨r5, I5, rfl, rfl, h⟩
    show am_Wp (d, "UnseenRingModel", b_M_does, 3, false) 0 0 100 [some (.ref q), some (.int p1), some (.int (I (q + 1) (Int32.toNatClampNeg (p1 + 1))))] [.int (am_b r5)] (I5, L, R, am_SH) (po_M_does L R Q)
    exact am_iret d_M_does_100 ⟨r5, I5, rfl, rfl, h⟩
  by_cases c7 : (I (q + 1) (Int32.toNatClampNeg p1)) = 15
  · have h := h.2.2.2.2.2.1 c7
    refine am_tableIn (off := 86) (tgt := 101) d_M_does_15 (by rw [c7]; decide) (by rw [c7]; decide) (by rw [c7]; decide +kernel) rfl ?_
    refine am_aload_n (n := 102) d_M_does_101 rfl rfl ?_
    refine am_callV (kc := 0) (ks := 0) (As := []) (n := 105) d_M_does_102 rfl ce_M_empties lk_M_369 in_M_empties rfl rfl hq rfl rfl (Nat.le_of_ble_eq_true rfl) (Or.inl rfl) (cm_M_empties (d := d - 1) hw (by omega) hq h) (by omega) ?_
    rintro _ _ ⟨r6, I6, rfl, rfl, h⟩
    show am_Wp (d, "UnseenRingModel", b_M_does, 3, false) 0 0 105 [some (.ref q), some (.int p1), some (.int (I (q + 1) (Int32.toNatClampNeg (p1 + 1))))] [.int r6] (I6, L, R, am_SH) (po_M_does L R Q)
    refine am_if_le (y := 0) (tgt := 112) (n := 108) d_M_does_105 rfl rfl (fun c8 => ?_) (fun c8 => ?_)
    · have h := h.1 c8
      refine am_iconst (n := 113) d_M_does_112 ci_0 rfl ?_
      exact am_iret d_M_does_113 ⟨false, I6, rfl, rfl, h⟩
    · have h := h.2 c8
      refine am_iconst (n := 109) d_M_does_108 ci_1 rfl ?_
      refine am_goto (tgt := 113) d_M_does_109 rfl ?_
      exact am_iret d_M_does_113 ⟨true, I6, rfl, rfl, h⟩
  by_cases c9 : (I (q + 1) (Int32.toNatClampNeg p1)) = 16
  · have h := h.2.2.2.2.2.2.1 c9
    refine am_tableIn (off := 99) (tgt := 114) d_M_does_15 (by rw [c9]; decide) (by rw [c9]; decide) (by rw [c9]; decide +kernel) rfl ?_
    refine am_aload_n (n := 115) d_M_does_114 rfl rfl ?_
    refine am_callV (kc := 0) (ks := 0) (As := []) (n := 118) d_M_does_115 rfl ce_M_doesAny lk_M_495 in_M_doesAny rfl rfl hq rfl rfl (Nat.le_of_ble_eq_true rfl) (Or.inl rfl) (cm_M_doesAny (d := d - 1) hw (by omega) hq h) (by omega) ?_
    rintro _ _ ⟨r7, I7, rfl, rfl, h⟩
    show am_Wp (d, "UnseenRingModel", b_M_does, 3, false) 0 0 118 [some (.ref q), some (.int p1), some (.int (I (q + 1) (Int32.toNatClampNeg (p1 + 1))))] [.int (am_b r7)] (I7, L, R, am_SH) (po_M_does L R Q)
    exact am_iret d_M_does_118 ⟨r7, I7, rfl, rfl, h⟩
  have h := h.2.2.2.2.2.2.2 c1 c2 c3 c4 c6 c7 c9
  have z0 := lv_neT c1 (a := 10) (by decide)
  have z1 := lv_neT c2 (a := 11) (by decide)
  have z2 := lv_neT c3 (a := 12) (by decide)
  have z3 := lv_neT c4 (a := 13) (by decide)
  have z4 := lv_neT c6 (a := 14) (by decide)
  have z5 := lv_neT c7 (a := 15) (by decide)
  have z6 := lv_neT c9 (a := 16) (by decide)
  refine am_tableOut (tgt := 119) d_M_does_15 (by omega) rfl ?_
  refine am_iconst (n := 120) d_M_does_119 ci_1 rfl ?_
  exact am_iret d_M_does_120 ⟨true, I, rfl, rfl, h⟩
