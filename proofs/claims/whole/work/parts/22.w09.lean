abbrev po_M_placingsOf (L : am_TL) (R : am_TR) (Q : Int32 → am_TI → Prop) : Option Value → am_St → Prop := fun r σ' => ∃ (x : Int32) (I' : am_TI), r = some (.int x) ∧ σ' = (I', L, R, am_SH) ∧ Q x I'
def wl_M_placingsOf_119 (L : am_TL) (R : am_TR) (q : Nat) (p1 : Int32) (p2 : Int32) (Q : Int32 → am_TI → Prop) (K31 : am_TI → Int32 → Prop) : Nat → am_TI → Int32 → Int32 → Prop
  | 0 => fun _ _ _ => False
  | f119 + 1 => fun I v3 v5 => ((80 ≤ v5 → K31 I (v3 + 1)) ∧ (¬ 80 ≤ v5 → (vp_in v5 80 ∧ (vp_in v5 80 ∧ (∀ I1, I1 = am_u2 I (q + 15) (Int32.toNatClampNeg v5) (I (q + 16) (Int32.toNatClampNeg v5)) → wl_M_placingsOf_119 L R q p1 p2 Q K31 f119 I1 v3 (v5 + 1))))))
set_option maxRecDepth 20000 in
theorem tl_M_placingsOf_119 {d : Nat}  {L : am_TL} {R : am_TR} {q : Nat} {p1 : Int32} {p2 : Int32} {Q : Int32 → am_TI → Prop} {K31 : am_TI → Int32 → Prop} (hw : am_Wf R) (hq : am_SH[q]? = some (.inl 12)) (hK31 : ∀ (I : am_TI) (v3 : Int32), K31 I v3 → am_Wp (d, "UnseenRingModel", b_M_placingsOf, 6, false) 0 0 31 [some (.ref q), some (.int p1), some (.int p2), some (.int v3), none, none] [] (I, L, R, am_SH) (po_M_placingsOf L R Q)) (hd : 3 ≤ d) : ∀ (n : Nat) (I : am_TI) (v3 : Int32) (v5 : Int32), wl_M_placingsOf_119 L R q p1 p2 Q K31 n I v3 v5 → am_Wp (d, "UnseenRingModel", b_M_placingsOf, 6, false) 0 0 119 [some (.ref q), some (.int p1), some (.int p2), some (.int v3), none, some (.int v5)] [] (I, L, R, am_SH) (po_M_placingsOf L R Q) := by
  intro n
  induction n with
  | zero => intro I v3 v5 h; exact h.elim
  | succ n ih =>
    intro I v3 v5 h
    unfold wl_M_placingsOf_119 at h
    refine am_iload (n := 121) d_M_placingsOf_119 rfl rfl ?_
    refine am_bipush (n := 123) d_M_placingsOf_121 cb_80 rfl ?_
    refine am_icmp_ge (tgt := 146) (n := 126) d_M_placingsOf_123 rfl rfl (fun c5 => ?_) (fun c5 => ?_)
    · have h := h.1 c5
      refine am_iinc (v := v3 + 1) (ls' := [some (.ref q), some (.int p1), some (.int p2), some (.int (v3 + 1)), none, some (.int v5)]) (n := 149) d_M_placingsOf_146 rfl (congrArg _ ci_1) (by decide) rfl rfl ?_
      refine am_goto (tgt := 31) d_M_placingsOf_149 rfl ?_
      refine am_forget (ls' := [some (.ref q), some (.int p1), some (.int p2), some (.int (v3 + 1)), none, none]) (am_le_s (am_le_s (am_le_s (am_le_s (am_le_n (am_le_n am_le_e)))))) ?_
      exact hK31 I (v3 + 1)  h
    · have h := h.2 c5
      refine am_aload_n (n := 127) d_M_placingsOf_126 rfl rfl ?_
      refine am_getR (x := (q + 15)) (n := 130) f_M_65 d_M_placingsOf_127 rfl rfl hq (hw.1 q 12 31 15 hq rfl) ?_
      refine am_iload (n := 132) d_M_placingsOf_130 rfl rfl ?_
      refine am_aload_n (n := 133) d_M_placingsOf_132 rfl rfl ?_
      refine am_getR (x := (q + 16)) (n := 136) f_M_68 d_M_placingsOf_133 rfl rfl hq (hw.1 q 12 32 16 hq rfl) ?_
      refine am_iload (n := 138) d_M_placingsOf_136 rfl rfl ?_
      obtain ⟨g2, h⟩ := h
      refine am_iald2 (n := 139) d_M_placingsOf_138 rfl (am_sho (k := 32) (o := 16) hq (by decide) (by decide) (by decide) rfl) g2 rfl ?_
      obtain ⟨g3, h⟩ := h
      refine am_iast2 (n := 140) d_M_placingsOf_139 rfl (am_sho (k := 31) (o := 15) hq (by decide) (by decide) (by decide) rfl) g3 rfl ?_
      generalize eI1 : am_u2 I (q + 15) (Int32.toNatClampNeg v5) (I (q + 16) (Int32.toNatClampNeg v5)) = I1
      have h := h I1 eI1.symm
      refine am_iinc (v := v5 + 1) (ls' := [some (.ref q), some (.int p1), some (.int p2), some (.int v3), none, some (.int (v5 + 1))]) (n := 143) d_M_placingsOf_140 rfl (congrArg _ ci_1) (by decide) rfl rfl ?_
      refine am_goto (tgt := 119) d_M_placingsOf_143 rfl ?_
      exact ih I1 v3 (v5 + 1)  h
def wl_M_placingsOf_80 (L : am_TL) (R : am_TR) (q : Nat) (p1 : Int32) (p2 : Int32) (Q : Int32 → am_TI → Prop) (K31 : am_TI → Int32 → Prop) : Nat → am_TI → Int32 → Int32 → Int32 → Prop
  | 0 => fun _ _ _ _ => False
  | f80 + 1 => fun I v3 v4 v5 => ((64 ≤ v5 → (∃ z, wl_M_placingsOf_119 L R q p1 p2 Q K31 z I v3 0)) ∧ (¬ 64 ≤ v5 → (vp_in (16 + (v5 ||| v4)) 80 ∧ (vp_in v5 80 ∧ (vp_in (16 + (v5 ||| v4)) 80 ∧ (∀ I2, I2 = am_u2 I (q + 16) (Int32.toNatClampNeg (16 + (v5 ||| v4))) ((I (q + 16) (Int32.toNatClampNeg (16 + (v5 ||| v4)))) + (I (q + 15) (Int32.toNatClampNeg v5))) → wl_M_placingsOf_80 L R q p1 p2 Q K31 f80 I2 v3 v4 (v5 + 1)))))))
set_option maxRecDepth 20000 in
theorem tl_M_placingsOf_80 {d : Nat}  {L : am_TL} {R : am_TR} {q : Nat} {p1 : Int32} {p2 : Int32} {Q : Int32 → am_TI → Prop} {K31 : am_TI → Int32 → Prop} (hw : am_Wf R) (hq : am_SH[q]? = some (.inl 12)) (hK31 : ∀ (I : am_TI) (v3 : Int32), K31 I v3 → am_Wp (d, "UnseenRingModel", b_M_placingsOf, 6, false) 0 0 31 [some (.ref q), some (.int p1), some (.int p2), some (.int v3), none, none] [] (I, L, R, am_SH) (po_M_placingsOf L R Q)) (hd : 3 ≤ d) : ∀ (n : Nat) (I : am_TI) (v3 : Int32) (v4 : Int32) (v5 : Int32), wl_M_placingsOf_80 L R q p1 p2 Q K31 n I v3 v4 v5 → am_Wp (d, "UnseenRingModel", b_M_placingsOf, 6, false) 0 0 80 [some (.ref q), some (.int p1), some (.int p2), some (.int v3), some (.int v4), some (.int v5)] [] (I, L, R, am_SH) (po_M_placingsOf L R Q) := by
  intro n
  induction n with
  | zero => intro I v3 v4 v5 h; exact h.elim
  | succ n ih =>
    intro I v3 v4 v5 h
    unfold wl_M_placingsOf_80 at h
    refine am_iload (n := 82) d_M_placingsOf_80 rfl rfl ?_
    refine am_bipush (n := 84) d_M_placingsOf_82 cb_64 rfl ?_
    refine am_icmp_ge (tgt := 116) (n := 87) d_M_placingsOf_84 rfl rfl (fun c4 => ?_) (fun c4 => ?_)
    · have h := h.1 c4
      refine am_iconst (n := 117) d_M_placingsOf_116 ci_0 rfl ?_
      refine am_istore (ls' := [some (.ref q), some (.int p1), some (.int p2), some (.int v3), some (.int v4), some (.int 0)]) (n := 119) d_M_placingsOf_117 (by decide) rfl rfl ?_
      refine am_forget (ls' := [some (.ref q), some (.int p1), some (.int p2), some (.int v3), none, some (.int 0)]) (am_le_s (am_le_s (am_le_s (am_le_s (am_le_n (am_le_s am_le_e)))))) ?_
      obtain ⟨n, h⟩ := h
      exact tl_M_placingsOf_119 hw hq hK31 hd n I v3 0 h
    · have h := h.2 c4
      refine am_aload_n (n := 88) d_M_placingsOf_87 rfl rfl ?_
      refine am_getR (x := (q + 16)) (n := 91) f_M_68 d_M_placingsOf_88 rfl rfl hq (hw.1 q 12 32 16 hq rfl) ?_
      refine am_bipush (n := 93) d_M_placingsOf_91 cb_16 rfl ?_
      refine am_iload (n := 95) d_M_placingsOf_93 rfl rfl ?_
      refine am_iload (n := 97) d_M_placingsOf_95 rfl rfl ?_
      refine am_ior (n := 98) d_M_placingsOf_97 rfl ?_
      refine am_iadd (n := 99) d_M_placingsOf_98 rfl ?_
      refine am_dup2 (n := 100) d_M_placingsOf_99 rfl rfl rfl ?_
      obtain ⟨g4, h⟩ := h
      refine am_iald2 (n := 101) d_M_placingsOf_100 rfl (am_sho (k := 32) (o := 16) hq (by decide) (by decide) (by decide) rfl) g4 rfl ?_
      refine am_aload_n (n := 102) d_M_placingsOf_101 rfl rfl ?_
      refine am_getR (x := (q + 15)) (n := 105) f_M_65 d_M_placingsOf_102 rfl rfl hq (hw.1 q 12 31 15 hq rfl) ?_
      refine am_iload (n := 107) d_M_placingsOf_105 rfl rfl ?_
      obtain ⟨g5, h⟩ := h
      refine am_iald2 (n := 108) d_M_placingsOf_107 rfl (am_sho (k := 31) (o := 15) hq (by decide) (by decide) (by decide) rfl) g5 rfl ?_
      refine am_iadd (n := 109) d_M_placingsOf_108 rfl ?_
      obtain ⟨g6, h⟩ := h
      refine am_iast2 (n := 110) d_M_placingsOf_109 rfl (am_sho (k := 32) (o := 16) hq (by decide) (by decide) (by decide) rfl) g6 rfl ?_
      generalize eI2 : am_u2 I (q + 16) (Int32.toNatClampNeg (16 + (v5 ||| v4))) ((I (q + 16) (Int32.toNatClampNeg (16 + (v5 ||| v4)))) + (I (q + 15) (Int32.toNatClampNeg v5))) = I2
      have h := h I2 eI2.symm
      refine am_iinc (v := v5 + 1) (ls' := [some (.ref q), some (.int p1), some (.int p2), some (.int v3), some (.int v4), some (.int (v5 + 1))]) (n := 113) d_M_placingsOf_110 rfl (congrArg _ ci_1) (by decide) rfl rfl ?_
      refine am_goto (tgt := 80) d_M_placingsOf_113 rfl ?_
      exact ih I2 v3 v4 (v5 + 1)  h
def wl_M_placingsOf_50 (L : am_TL) (R : am_TR) (q : Nat) (p1 : Int32) (p2 : Int32) (Q : Int32 → am_TI → Prop) (K31 : am_TI → Int32 → Prop) : Nat → am_TI → Int32 → Int32 → Int32 → Prop
  | 0 => fun _ _ _ _ => False
  | f50 + 1 => fun I v3 v4 v5 => ((80 ≤ v5 → (∃ z, wl_M_placingsOf_80 L R q p1 p2 Q K31 z I v3 v4 0)) ∧ (¬ 80 ≤ v5 → (vp_in v5 80 ∧ (vp_in v5 80 ∧ (∀ I3, I3 = am_u2 I (q + 16) (Int32.toNatClampNeg v5) (I (q + 15) (Int32.toNatClampNeg v5)) → wl_M_placingsOf_50 L R q p1 p2 Q K31 f50 I3 v3 v4 (v5 + 1))))))
set_option maxRecDepth 20000 in
theorem tl_M_placingsOf_50 {d : Nat}  {L : am_TL} {R : am_TR} {q : Nat} {p1 : Int32} {p2 : Int32} {Q : Int32 → am_TI → Prop} {K31 : am_TI → Int32 → Prop} (hw : am_Wf R) (hq : am_SH[q]? = some (.inl 12)) (hK31 : ∀ (I : am_TI) (v3 : Int32), K31 I v3 → am_Wp (d, "UnseenRingModel", b_M_placingsOf, 6, false) 0 0 31 [some (.ref q), some (.int p1), some (.int p2), some (.int v3), none, none] [] (I, L, R, am_SH) (po_M_placingsOf L R Q)) (hd : 3 ≤ d) : ∀ (n : Nat) (I : am_TI) (v3 : Int32) (v4 : Int32) (v5 : Int32), wl_M_placingsOf_50 L R q p1 p2 Q K31 n I v3 v4 v5 → am_Wp (d, "UnseenRingModel", b_M_placingsOf, 6, false) 0 0 50 [some (.ref q), some (.int p1), some (.int p2), some (.int v3), some (.int v4), some (.int v5)] [] (I, L, R, am_SH) (po_M_placingsOf L R Q) := by
  intro n
  induction n with
  | zero => intro I v3 v4 v5 h; exact h.elim
  | succ n ih =>
    intro I v3 v4 v5 h
    unfold wl_M_placingsOf_50 at h
    refine am_iload (n := 52) d_M_placingsOf_50 rfl rfl ?_
    refine am_bipush (n := 54) d_M_placingsOf_52 cb_80 rfl ?_
    refine am_icmp_ge (tgt := 77) (n := 57) d_M_placingsOf_54 rfl rfl (fun c3 => ?_) (fun c3 => ?_)
    · have h := h.1 c3
      refine am_iconst (n := 78) d_M_placingsOf_77 ci_0 rfl ?_
      refine am_istore (ls' := [some (.ref q), some (.int p1), some (.int p2), some (.int v3), some (.int v4), some (.int 0)]) (n := 80) d_M_placingsOf_78 (by decide) rfl rfl ?_
      obtain ⟨n, h⟩ := h
      exact tl_M_placingsOf_80 hw hq hK31 hd n I v3 v4 0 h
    · have h := h.2 c3
      refine am_aload_n (n := 58) d_M_placingsOf_57 rfl rfl ?_
      refine am_getR (x := (q + 16)) (n := 61) f_M_68 d_M_placingsOf_58 rfl rfl hq (hw.1 q 12 32 16 hq rfl) ?_
      refine am_iload (n := 63) d_M_placingsOf_61 rfl rfl ?_
      refine am_aload_n (n := 64) d_M_placingsOf_63 rfl rfl ?_
      refine am_getR (x := (q + 15)) (n := 67) f_M_65 d_M_placingsOf_64 rfl rfl hq (hw.1 q 12 31 15 hq rfl) ?_
      refine am_iload (n := 69) d_M_placingsOf_67 rfl rfl ?_
      obtain ⟨g7, h⟩ := h
      refine am_iald2 (n := 70) d_M_placingsOf_69 rfl (am_sho (k := 31) (o := 15) hq (by decide) (by decide) (by decide) rfl) g7 rfl ?_
      obtain ⟨g8, h⟩ := h
      refine am_iast2 (n := 71) d_M_placingsOf_70 rfl (am_sho (k := 32) (o := 16) hq (by decide) (by decide) (by decide) rfl) g8 rfl ?_
      generalize eI3 : am_u2 I (q + 16) (Int32.toNatClampNeg v5) (I (q + 15) (Int32.toNatClampNeg v5)) = I3
      have h := h I3 eI3.symm
      refine am_iinc (v := v5 + 1) (ls' := [some (.ref q), some (.int p1), some (.int p2), some (.int v3), some (.int v4), some (.int (v5 + 1))]) (n := 74) d_M_placingsOf_71 rfl (congrArg _ ci_1) (by decide) rfl rfl ?_
      refine am_goto (tgt := 50) d_M_placingsOf_74 rfl ?_
      exact ih I3 v3 v4 (v5 + 1)  h
def wl_M_placingsOf_31 (L : am_TL) (R : am_TR) (q : Nat) (p1 : Int32) (p2 : Int32) (Q : Int32 → am_TI → Prop)  : Nat → am_TI → Int32 → Prop
  | 0 => fun _ _ => False
  | f31 + 1 => fun I v3 => wp_M_cellsOf I L R q 0 (fun (r1 : Int32) => ((r1 ≤ v3 → (vp_in ((16 * p2) + p1) 80 ∧ Q (I (q + 15) (Int32.toNatClampNeg ((16 * p2) + p1))) I)) ∧ (¬ r1 ≤ v3 → wp_M_dogsBy I L R q v3 (fun (r2 : Int32) => (∃ z, wl_M_placingsOf_50 L R q p1 p2 Q (wl_M_placingsOf_31 L R q p1 p2 Q f31) z I v3 r2 0)))))
set_option maxRecDepth 20000 in
theorem tl_M_placingsOf_31 {d : Nat}  {L : am_TL} {R : am_TR} {q : Nat} {p1 : Int32} {p2 : Int32} {Q : Int32 → am_TI → Prop}  (hw : am_Wf R) (hq : am_SH[q]? = some (.inl 12)) (hd : 3 ≤ d) : ∀ (n : Nat) (I : am_TI) (v3 : Int32), wl_M_placingsOf_31 L R q p1 p2 Q  n I v3 → am_Wp (d, "UnseenRingModel", b_M_placingsOf, 6, false) 0 0 31 [some (.ref q), some (.int p1), some (.int p2), some (.int v3), none, none] [] (I, L, R, am_SH) (po_M_placingsOf L R Q) := by
  intro n
  induction n with
  | zero => intro I v3 h; exact h.elim
  | succ n ih =>
    intro I v3 h
    unfold wl_M_placingsOf_31 at h
    refine am_iload_n (n := 32) d_M_placingsOf_31 rfl rfl ?_
    refine am_aload_n (n := 33) d_M_placingsOf_32 rfl rfl ?_
    refine am_iconst (n := 34) d_M_placingsOf_33 ci_0 rfl ?_
    refine am_callV (kc := 0) (ks := 0) (As := [.int 0]) (n := 37) d_M_placingsOf_34 rfl ce_M_cellsOf lk_M_223 in_M_cellsOf rfl rfl hq rfl rfl (Nat.le_of_ble_eq_true rfl) (Or.inl rfl) (cm_M_cellsOf (d := d - 1) hw (by omega) hq h) (by omega) ?_
    rintro _ _ ⟨r1, rfl, rfl, h⟩
    show am_Wp (d, "UnseenRingModel", b_M_placingsOf, 6, false) 0 0 37 [some (.ref q), some (.int p1), some (.int p2), some (.int v3), none, none] [.int r1, .int v3] (I, L, R, am_SH) (po_M_placingsOf L R Q)
    refine am_icmp_ge (tgt := 152) (n := 40) d_M_placingsOf_37 rfl rfl (fun c2 => ?_) (fun c2 => ?_)
    · have h := h.1 c2
      refine am_aload_n (n := 153) d_M_placingsOf_152 rfl rfl ?_
      refine am_getR (x := (q + 15)) (n := 156) f_M_65 d_M_placingsOf_153 rfl rfl hq (hw.1 q 12 31 15 hq rfl) ?_
      refine am_bipush (n := 158) d_M_placingsOf_156 cb_16 rfl ?_
      refine am_iload_n (n := 159) d_M_placingsOf_158 rfl rfl ?_
      refine am_imul (n := 160) d_M_placingsOf_159 rfl ?_
      refine am_iload_n (n := 161) d_M_placingsOf_160 rfl rfl ?_
      refine am_iadd (n := 162) d_M_placingsOf_161 rfl ?_
      obtain ⟨g1, h⟩ := h
      refine am_iald2 (n := 163) d_M_placingsOf_162 rfl (am_sho (k := 31) (o := 15) hq (by decide) (by decide) (by decide) rfl) g1 rfl ?_
      exact am_iret d_M_placingsOf_163 ⟨(I (q + 15) (Int32.toNatClampNeg ((16 * p2) + p1))), I, rfl, rfl, h⟩
    · have h := h.2 c2
      refine am_aload_n (n := 41) d_M_placingsOf_40 rfl rfl ?_
      refine am_iload_n (n := 42) d_M_placingsOf_41 rfl rfl ?_
      refine am_callV (kc := 0) (ks := 0) (As := [.int v3]) (n := 45) d_M_placingsOf_42 rfl ce_M_dogsBy lk_M_319 in_M_dogsBy rfl rfl hq rfl rfl (Nat.le_of_ble_eq_true rfl) (Or.inl rfl) (cm_M_dogsBy (d := d - 1) hw (by omega) hq h) (by omega) ?_
      rintro _ _ ⟨r2, rfl, rfl, h⟩
      show am_Wp (d, "UnseenRingModel", b_M_placingsOf, 6, false) 0 0 45 [some (.ref q), some (.int p1), some (.int p2), some (.int v3), none, none] [.int r2] (I, L, R, am_SH) (po_M_placingsOf L R Q)
      refine am_istore (ls' := [some (.ref q), some (.int p1), some (.int p2), some (.int v3), some (.int r2), none]) (n := 47) d_M_placingsOf_45 (by decide) rfl rfl ?_
      refine am_iconst (n := 48) d_M_placingsOf_47 ci_0 rfl ?_
      refine am_istore (ls' := [some (.ref q), some (.int p1), some (.int p2), some (.int v3), some (.int r2), some (.int 0)]) (n := 50) d_M_placingsOf_48 (by decide) rfl rfl ?_
      obtain ⟨n, h⟩ := h
      exact tl_M_placingsOf_50 hw hq ih hd n I v3 r2 0 h
def wl_M_placingsOf_2 (L : am_TL) (R : am_TR) (q : Nat) (p1 : Int32) (p2 : Int32) (Q : Int32 → am_TI → Prop)  : Nat → am_TI → Int32 → Prop
  | 0 => fun _ _ => False
  | f2 + 1 => fun I v3 => ((80 ≤ v3 → (∃ z, wl_M_placingsOf_31 L R q p1 p2 Q z I 0)) ∧ (¬ 80 ≤ v3 → ((v3 = 0 → (vp_in v3 80 ∧ (∀ I5, I5 = am_u2 I (q + 15) (Int32.toNatClampNeg v3) 1 → wl_M_placingsOf_2 L R q p1 p2 Q f2 I5 (v3 + 1)))) ∧ (¬ v3 = 0 → (vp_in v3 80 ∧ (∀ I4, I4 = am_u2 I (q + 15) (Int32.toNatClampNeg v3) 0 → wl_M_placingsOf_2 L R q p1 p2 Q f2 I4 (v3 + 1)))))))
set_option maxRecDepth 20000 in
theorem tl_M_placingsOf_2 {d : Nat}  {L : am_TL} {R : am_TR} {q : Nat} {p1 : Int32} {p2 : Int32} {Q : Int32 → am_TI → Prop}  (hw : am_Wf R) (hq : am_SH[q]? = some (.inl 12)) (hd : 3 ≤ d) : ∀ (n : Nat) (I : am_TI) (v3 : Int32), wl_M_placingsOf_2 L R q p1 p2 Q  n I v3 → am_Wp (d, "UnseenRingModel", b_M_placingsOf, 6, false) 0 0 2 [some (.ref q), some (.int p1), some (.int p2), some (.int v3), none, none] [] (I, L, R, am_SH) (po_M_placingsOf L R Q) := by
  intro n
  induction n with
  | zero => intro I v3 h; exact h.elim
  | succ n ih =>
    intro I v3 h
    unfold wl_M_placingsOf_2 at h
    refine am_iload_n (n := 3) d_M_placingsOf_2 rfl rfl ?_
    refine am_bipush (n := 5) d_M_placingsOf_3 cb_80 rfl ?_
    refine am_icmp_ge (tgt := 29) (n := 8) d_M_placingsOf_5 rfl rfl (fun c1 => ?_) (fun c1 => ?_)
    · have h := h.1 c1
      refine am_iconst (n := 30) d_M_placingsOf_29 ci_0 rfl ?_
      refine am_istore_n (ls' := [some (.ref q), some (.int p1), some (.int p2), some (.int 0), none, none]) (n := 31) d_M_placingsOf_30 (by decide) rfl rfl ?_
      obtain ⟨n, h⟩ := h
      exact tl_M_placingsOf_31 hw hq hd n I 0 h
    · have h := h.2 c1
      refine am_aload_n (n := 9) d_M_placingsOf_8 rfl rfl ?_
      refine am_getR (x := (q + 15)) (n := 12) f_M_65 d_M_placingsOf_9 rfl rfl hq (hw.1 q 12 31 15 hq rfl) ?_
      refine am_iload_n (n := 13) d_M_placingsOf_12 rfl rfl ?_
      refine am_iload_n (n := 14) d_M_placingsOf_13 rfl rfl ?_
      refine am_if_ne (y := 0) (tgt := 21) (n := 17) d_M_placingsOf_14 rfl rfl (fun c6 => ?_) (fun c6 => ?_)
      · have h := h.2 c6
        refine am_iconst (n := 22) d_M_placingsOf_21 ci_0 rfl ?_
        obtain ⟨g9, h⟩ := h
        refine am_iast2 (n := 23) d_M_placingsOf_22 rfl (am_sho (k := 31) (o := 15) hq (by decide) (by decide) (by decide) rfl) g9 rfl ?_
        generalize eI4 : am_u2 I (q + 15) (Int32.toNatClampNeg v3) 0 = I4
        have h := h I4 eI4.symm
        refine am_iinc (v := v3 + 1) (ls' := [some (.ref q), some (.int p1), some (.int p2), some (.int (v3 + 1)), none, none]) (n := 26) d_M_placingsOf_23 rfl (congrArg _ ci_1) (by decide) rfl rfl ?_
        refine am_goto (tgt := 2) d_M_placingsOf_26 rfl ?_
        exact ih I4 (v3 + 1)  h
      · have h := h.1 c6
        refine am_iconst (n := 18) d_M_placingsOf_17 ci_1 rfl ?_
        refine am_goto (tgt := 22) d_M_placingsOf_18 rfl ?_
        obtain ⟨g10, h⟩ := h
        refine am_iast2 (n := 23) d_M_placingsOf_22 rfl (am_sho (k := 31) (o := 15) hq (by decide) (by decide) (by decide) rfl) g10 rfl ?_
        generalize eI5 : am_u2 I (q + 15) (Int32.toNatClampNeg v3) 1 = I5
        have h := h I5 eI5.symm
        refine am_iinc (v := v3 + 1) (ls' := [some (.ref q), some (.int p1), some (.int p2), some (.int (v3 + 1)), none, none]) (n := 26) d_M_placingsOf_23 rfl (congrArg _ ci_1) (by decide) rfl rfl ?_
        refine am_goto (tgt := 2) d_M_placingsOf_26 rfl ?_
        exact ih I5 (v3 + 1)  h
def wp_M_placingsOf (I : am_TI) (L : am_TL) (R : am_TR) (q : Nat) (p1 : Int32) (p2 : Int32)  (Q : Int32 → am_TI → Prop) : Prop := (∃ z, wl_M_placingsOf_2 L R q p1 p2 Q z I 0)
set_option maxRecDepth 20000 in
theorem cm_M_placingsOf {d : Nat} {I : am_TI} {L : am_TL} {R : am_TR}  (hw : am_Wf R)   {q : Nat} {p1 : Int32} {p2 : Int32} {Q : Int32 → am_TI → Prop} (hd : 3 ≤ d) (hq : am_SH[q]? = some (.inl 12)) (h : wp_M_placingsOf I L R q p1 p2  Q) : am_Cm d 0 0 y_M_placingsOf b_M_placingsOf 6 (some .int) [.ref q, .int p1, .int p2] (I, L, R, am_SH) (po_M_placingsOf L R Q) := by
  refine am_Cm_of (ini := false) (by decide +kernel) (fun z => by cases z) (by simp [Value.category]) (fun r σ' z => by obtain ⟨x, _, rfl, -⟩ := z; exact ⟨_, rfl, rfl⟩) ?_
  unfold wp_M_placingsOf at h
  show am_Wp (d, "UnseenRingModel", b_M_placingsOf, 6, false) 0 0 0 [some (.ref q), some (.int p1), some (.int p2), none, none, none] [] (I, L, R, am_SH) (po_M_placingsOf L R Q)
  refine am_iconst (n := 1) d_M_placingsOf_0 ci_0 rfl ?_
  refine am_istore_n (ls' := [some (.ref q), some (.int p1), some (.int p2), some (.int 0), none, none]) (n := 2) d_M_placingsOf_1 (by decide) rfl rfl ?_
  obtain ⟨n, h⟩ := h
  exact tl_M_placingsOf_2 hw hq hd n I 0 h
abbrev po_M_placings (L : am_TL) (R : am_TR) (Q : Int32 → am_TI → Prop) : Option Value → am_St → Prop := fun r σ' => ∃ (x : Int32) (I' : am_TI), r = some (.int x) ∧ σ' = (I', L, R, am_SH) ∧ Q x I'
def wp_M_placings (I : am_TI) (L : am_TL) (R : am_TR) (q : Nat) (p1 : Int32) (p2 : Int32)  (Q : Int32 → am_TI → Prop) : Prop := wp_M_isPlacing I L R q p1 p2 (fun (r1 : Bool) => ((r1 = false → wp_M_refuse I L R q 1 (fun (r2 : Int32) (I1 : am_TI) => Q r2 I1)) ∧ (r1 = true → wp_M_placingsOf I L R q p1 p2 (fun (r3 : Int32) (I2 : am_TI) => wp_M_gives I2 L R q r3 (fun (r4 : Int32) (I3 : am_TI) => Q r4 I3)))))
set_option maxRecDepth 20000 in
theorem cm_M_placings {d : Nat} {I : am_TI} {L : am_TL} {R : am_TR}  (hw : am_Wf R)   {q : Nat} {p1 : Int32} {p2 : Int32} {Q : Int32 → am_TI → Prop} (hd : 4 ≤ d) (hq : am_SH[q]? = some (.inl 12)) (h : wp_M_placings I L R q p1 p2  Q) : am_Cm d 0 0 y_M_placings b_M_placings 3 (some .int) [.ref q, .int p1, .int p2] (I, L, R, am_SH) (po_M_placings L R Q) := by
  refine am_Cm_of (ini := false) (by decide +kernel) (fun z => by cases z) (by simp [Value.category]) (fun r σ' z => by obtain ⟨x, _, rfl, -⟩ := z; exact ⟨_, rfl, rfl⟩) ?_
  unfold wp_M_placings at h
  show am_Wp (d, "UnseenRingModel", b_M_placings, 3, false) 0 0 0 [some (.ref q), some (.int p1), some (.int p2)] [] (I, L, R, am_SH) (po_M_placings L R Q)
  refine am_aload_n (n := 1) d_M_placings_0 rfl rfl ?_
  refine am_iload_n (n := 2) d_M_placings_1 rfl rfl ?_
  refine am_iload_n (n := 3) d_M_placings_2 rfl rfl ?_
  refine am_callV (kc := 0) (ks := 0) (As := [.int p1, .int p2]) (n := 6) d_M_placings_3 rfl ce_M_isPlacing lk_M_421 in_M_isPlacing rfl rfl hq rfl rfl (Nat.le_of_ble_eq_true rfl) (Or.inl rfl) (cm_M_isPlacing (d := d - 1) hw (by omega) hq h) (by omega) ?_
  rintro _ _ ⟨r1, rfl, rfl, h⟩
  show am_Wp (d, "UnseenRingModel", b_M_placings, 3, false) 0 0 6 [some (.ref q), some (.int p1), some (.int p2)] [.int (am_b r1)] (I, L, R, am_SH) (po_M_placings L R Q)
  refine am_if_eq (y := 0) (tgt := 22) (n := 9) d_M_placings_6 rfl rfl (fun c1 => ?_) (fun c1 => ?_)
  · have h := h.1 (am_b_0 c1)
    refine am_aload_n (n := 23) d_M_placings_22 rfl rfl ?_
    refine am_iconst (n := 24) d_M_placings_23 ci_1 rfl ?_
    refine am_callV (kc := 0) (ks := 0) (As := [.int 1]) (n := 27) d_M_placings_24 rfl ce_M_refuse lk_M_121 in_M_refuse rfl rfl hq rfl rfl (Nat.le_of_ble_eq_true rfl) (Or.inl rfl) (cm_M_refuse (d := d - 1) hw (by omega) hq h) (by omega) ?_
    rintro _ _ ⟨r2, I1, rfl, rfl, h⟩
    show am_Wp (d, "UnseenRingModel", b_M_placings, 3, false) 0 0 27 [some (.ref q), some (.int p1), some (.int p2)] [.int r2] (I1, L, R, am_SH) (po_M_placings L R Q)
    exact am_iret d_M_placings_27 ⟨r2, I1, rfl, rfl, h⟩
  · have h := h.2 (am_b_n0 c1)
    refine am_aload_n (n := 10) d_M_placings_9 rfl rfl ?_
    refine am_aload_n (n := 11) d_M_placings_10 rfl rfl ?_
    refine am_iload_n (n := 12) d_M_placings_11 rfl rfl ?_
    refine am_iload_n (n := 13) d_M_placings_12 rfl rfl ?_
    refine am_callV (kc := 0) (ks := 0) (As := [.int p1, .int p2]) (n := 16) d_M_placings_13 rfl ce_M_placingsOf lk_M_424 in_M_placingsOf rfl rfl hq rfl rfl (Nat.le_of_ble_eq_true rfl) (Or.inl rfl) (cm_M_placingsOf (d := d - 1) hw (by omega) hq h) (by omega) ?_
    rintro _ _ ⟨r3, I2, rfl, rfl, h⟩
    show am_Wp (d, "UnseenRingModel", b_M_placings, 3, false) 0 0 16 [some (.ref q), some (.int p1), some (.int p2)] [.int r3, .ref q] (I2, L, R, am_SH) (po_M_placings L R Q)
    refine am_callV (kc := 0) (ks := 0) (As := [.int r3]) (n := 19) d_M_placings_16 rfl ce_M_gives lk_M_125 in_M_gives rfl rfl hq rfl rfl (Nat.le_of_ble_eq_true rfl) (Or.inl rfl) (cm_M_gives (d := d - 1) hw (by omega) hq h) (by omega) ?_
    rintro _ _ ⟨r4, I3, rfl, rfl, h⟩
    show am_Wp (d, "UnseenRingModel", b_M_placings, 3, false) 0 0 19 [some (.ref q), some (.int p1), some (.int p2)] [.int r4] (I3, L, R, am_SH) (po_M_placings L R Q)
    refine am_goto (tgt := 27) d_M_placings_19 rfl ?_
    exact am_iret d_M_placings_27 ⟨r4, I3, rfl, rfl, h⟩
abbrev po_M_tellsBy (R : am_TR) (Q : Bool → am_TI → am_TL → Prop) : Option Value → am_St → Prop := fun r σ' => ∃ (x : Bool) (I' : am_TI) (L' : am_TL), r = some (.int (am_b x)) ∧ σ' = (I', L', R, am_SH) ∧ Q x I' L'
def wl_M_tellsBy_6 (R : am_TR) (q : Nat) (p1 : Int64) (p3 : Int64) (Q : Bool → am_TI → am_TL → Prop)  : Nat → am_TI → am_TL → Int64 → Int64 → Prop
  | 0 => fun _ _ _ _ => False
  | f6 + 1 => fun I L v5 v7 => ((v7 = 0 → (¬ v5 = 0 ∧ (∀ L1, L1 = am_u2 L q 3 (p1 / v5) → (¬ v5 = 0 ∧ (∀ L2, L2 = am_u2 L1 q 4 (p3 / v5) → wp_M_is I L2 R q 0 (fun (r1 : Bool) (I1 : am_TI) => Q r1 I1 L2)))))) ∧ (¬ v7 = 0 → (¬ v7 = 0 ∧ wl_M_tellsBy_6 R q p1 p3 Q f6 I L v7 (v5 - v5 / v7 * v7))))
set_option maxRecDepth 20000 in
theorem tl_M_tellsBy_6 {d : Nat}  {R : am_TR} {q : Nat} {p1 : Int64} {p3 : Int64} {Q : Bool → am_TI → am_TL → Prop}  (hw : am_Wf R) (hq : am_SH[q]? = some (.inl 12)) (hd : 1 ≤ d) : ∀ (n : Nat) (I : am_TI) (L : am_TL) (v5 : Int64) (v7 : Int64), wl_M_tellsBy_6 R q p1 p3 Q  n I L v5 v7 → am_Wp (d, "UnseenRingModel", b_M_tellsBy, 11, false) 0 0 6 [some (.ref q), some (.long p1), none, some (.long p3), none, some (.long v5), none, some (.long v7), none, none, none] [] (I, L, R, am_SH) (po_M_tellsBy R Q) := by
  intro n
  induction n with
  | zero => intro I L v5 v7 h; exact h.elim
  | succ n ih =>
    intro I L v5 v7 h
    unfold wl_M_tellsBy_6 at h
    refine am_lload (n := 8) d_M_tellsBy_6 rfl rfl ?_
    refine am_lconst (v := 0) (n := 9) d_M_tellsBy_8 rfl rfl ?_
    refine am_lcmp (n := 10) d_M_tellsBy_9 rfl ?_
    refine am_if_eq (y := 0) (tgt := 31) (n := 13) d_M_tellsBy_10 rfl rfl (fun c1 => ?_) (fun c1 => ?_)
    · have h := h.1 (am_cmp_eq.mp c1)
      refine am_aload_n (n := 32) d_M_tellsBy_31 rfl rfl ?_
      refine am_lload_n (n := 33) d_M_tellsBy_32 rfl rfl ?_
      refine am_lload (n := 35) d_M_tellsBy_33 rfl rfl ?_
      obtain ⟨g1, h⟩ := h
      refine am_ldiv (n := 36) d_M_tellsBy_35 g1 rfl ?_
      refine am_putL (n := 39) f_M_118 d_M_tellsBy_36 rfl ⟨_, rfl, Or.inl rfl⟩ rfl rfl hq ?_
      generalize eL1 : am_u2 L q 3 (p1 / v5) = L1
      have h := h L1 eL1.symm
      refine am_aload_n (n := 40) d_M_tellsBy_39 rfl rfl ?_
      refine am_lload_n (n := 41) d_M_tellsBy_40 rfl rfl ?_
      refine am_lload (n := 43) d_M_tellsBy_41 rfl rfl ?_
      obtain ⟨g2, h⟩ := h
      refine am_ldiv (n := 44) d_M_tellsBy_43 g2 rfl ?_
      refine am_putL (n := 47) f_M_17 d_M_tellsBy_44 rfl ⟨_, rfl, Or.inl rfl⟩ rfl rfl hq ?_
      generalize eL2 : am_u2 L1 q 4 (p3 / v5) = L2
      have h := h L2 eL2.symm
      refine am_aload_n (n := 48) d_M_tellsBy_47 rfl rfl ?_
      refine am_iconst (n := 49) d_M_tellsBy_48 ci_0 rfl ?_
      refine am_callV (kc := 0) (ks := 0) (As := [.int 0]) (n := 52) d_M_tellsBy_49 rfl ce_M_is lk_M_128 in_M_is rfl rfl hq rfl rfl (Nat.le_of_ble_eq_true rfl) (Or.inl rfl) (cm_M_is (d := d - 1) hw (by omega) hq h) (by omega) ?_
      rintro _ _ ⟨r1, I1, rfl, rfl, h⟩
      show am_Wp (d, "UnseenRingModel", b_M_tellsBy, 11, false) 0 0 52 [some (.ref q), some (.long p1), none, some (.long p3), none, some (.long v5), none, some (.long v7), none, none, none] [.int (am_b r1)] (I1, L2, R, am_SH) (po_M_tellsBy R Q)
      exact am_iret d_M_tellsBy_52 ⟨r1, I1, L2, rfl, rfl, h⟩
    · have h := h.2 (fun z => c1 (am_cmp_eq.mpr z))
      refine am_lload (n := 15) d_M_tellsBy_13 rfl rfl ?_
      refine am_lload (n := 17) d_M_tellsBy_15 rfl rfl ?_
      obtain ⟨g3, h⟩ := h
      refine am_lrem (n := 18) d_M_tellsBy_17 g3 rfl ?_
      refine am_lstore (ls' := [some (.ref q), some (.long p1), none, some (.long p3), none, some (.long v5), none, some (.long v7), none, some (.long (v5 - v5 / v7 * v7)), none]) (n := 20) d_M_tellsBy_18 (by decide) rfl rfl ?_
      refine am_lload (n := 22) d_M_tellsBy_20 rfl rfl ?_
      refine am_lstore (ls' := [some (.ref q), some (.long p1), none, some (.long p3), none, some (.long v7), none, some (.long v7), none, some (.long (v5 - v5 / v7 * v7)), none]) (n := 24) d_M_tellsBy_22 (by decide) rfl rfl ?_
      refine am_lload (n := 26) d_M_tellsBy_24 rfl rfl ?_
      refine am_lstore (ls' := [some (.ref q), some (.long p1), none, some (.long p3), none, some (.long v7), none, some (.long (v5 - v5 / v7 * v7)), none, some (.long (v5 - v5 / v7 * v7)), none]) (n := 28) d_M_tellsBy_26 (by decide) rfl rfl ?_
      refine am_goto (tgt := 6) d_M_tellsBy_28 rfl ?_
      refine am_forget (ls' := [some (.ref q), some (.long p1), none, some (.long p3), none, some (.long v7), none, some (.long (v5 - v5 / v7 * v7)), none, none, none]) (am_le_s (am_le_s (am_le_n (am_le_s (am_le_n (am_le_s (am_le_n (am_le_s (am_le_n (am_le_n (am_le_n am_le_e))))))))))) ?_
      exact ih I L v7 (v5 - v5 / v7 * v7)  h
def wp_M_tellsBy (I : am_TI) (L : am_TL) (R : am_TR) (q : Nat) (p1 : Int64) (p3 : Int64)  (Q : Bool → am_TI → am_TL → Prop) : Prop := (∃ z, wl_M_tellsBy_6 R q p1 p3 Q z I L p1 p3)
set_option maxRecDepth 20000 in
theorem cm_M_tellsBy {d : Nat} {I : am_TI} {L : am_TL} {R : am_TR}  (hw : am_Wf R)   {q : Nat} {p1 : Int64} {p3 : Int64} {Q : Bool → am_TI → am_TL → Prop} (hd : 1 ≤ d) (hq : am_SH[q]? = some (.inl 12)) (h : wp_M_tellsBy I L R q p1 p3  Q) : am_Cm d 0 0 y_M_tellsBy b_M_tellsBy 11 (some .boolean) [.ref q, .long p1, .long p3] (I, L, R, am_SH) (po_M_tellsBy R Q) := by
  refine am_Cm_of (ini := false) (by decide +kernel) (fun z => by cases z) (by simp [Value.category]) (fun r σ' z => by obtain ⟨x, _, _, rfl, -⟩ := z; exact ⟨_, rfl, am_b_nar x⟩) ?_
  unfold wp_M_tellsBy at h
  show am_Wp (d, "UnseenRingModel", b_M_tellsBy, 11, false) 0 0 0 [some (.ref q), some (.long p1), none, some (.long p3), none, none, none, none, none, none, none] [] (I, L, R, am_SH) (po_M_tellsBy R Q)
  refine am_lload_n (n := 1) d_M_tellsBy_0 rfl rfl ?_
  refine am_lstore (ls' := [some (.ref q), some (.long p1), none, some (.long p3), none, some (.long p1), none, none, none, none, none]) (n := 3) d_M_tellsBy_1 (by decide) rfl rfl ?_
  refine am_lload_n (n := 4) d_M_tellsBy_3 rfl rfl ?_
  refine am_lstore (ls' := [some (.ref q), some (.long p1), none, some (.long p3), none, some (.long p1), none, some (.long p3), none, none, none]) (n := 6) d_M_tellsBy_4 (by decide) rfl rfl ?_
  obtain ⟨n, h⟩ := h
  exact tl_M_tellsBy_6 hw hq hd n I L p1 p3 h
abbrev po_M_oddsThat (R : am_TR) (Q : Bool → am_TI → am_TL → Prop) : Option Value → am_St → Prop := fun r σ' => ∃ (x : Bool) (I' : am_TI) (L' : am_TL), r = some (.int (am_b x)) ∧ σ' = (I', L', R, am_SH) ∧ Q x I' L'
def wb_M_oddsThat_17 (R : am_TR) (q : Nat) (p1 : Int32) (p2 : Int32) (p3 : Int32) (Q : Bool → am_TI → am_TL → Prop)  (I : am_TI) (L : am_TL) : Prop := wp_M_is I L R q 1 (fun (r2 : Bool) (I1 : am_TI) => Q r2 I1 L)
set_option maxRecDepth 20000 in
theorem tb_M_oddsThat_17 {d : Nat}  {R : am_TR} {q : Nat} {p1 : Int32} {p2 : Int32} {p3 : Int32} {Q : Bool → am_TI → am_TL → Prop}  (hw : am_Wf R) (hq : am_SH[q]? = some (.inl 12)) (hd : 4 ≤ d) (I : am_TI) (L : am_TL) (h : wb_M_oddsThat_17 R q p1 p2 p3 Q  I L) : am_Wp (d, "UnseenRingModel", b_M_oddsThat, 4, false) 0 0 17 [some (.ref q), some (.int p1), some (.int p2), some (.int p3)] [] (I, L, R, am_SH) (po_M_oddsThat R Q) := by
  unfold wb_M_oddsThat_17 at h
  refine am_aload_n (n := 18) d_M_oddsThat_17 rfl rfl ?_
  refine am_iconst (n := 19) d_M_oddsThat_18 ci_1 rfl ?_
  refine am_callV (kc := 0) (ks := 0) (As := [.int 1]) (n := 22) d_M_oddsThat_19 rfl ce_M_is lk_M_128 in_M_is rfl rfl hq rfl rfl (Nat.le_of_ble_eq_true rfl) (Or.inl rfl) (cm_M_is (d := d - 1) hw (by omega) hq h) (by omega) ?_
  rintro _ _ ⟨r2, I1, rfl, rfl, h⟩
  show am_Wp (d, "UnseenRingModel", b_M_oddsThat, 4, false) 0 0 22 [some (.ref q), some (.int p1), some (.int p2), some (.int p3)] [.int (am_b r2)] (I1, L, R, am_SH) (po_M_oddsThat R Q)
  exact am_iret d_M_oddsThat_22 ⟨r2, I1, L, rfl, rfl, h⟩
def wp_M_oddsThat (I : am_TI) (L : am_TL) (R : am_TR) (q : Nat) (p1 : Int32) (p2 : Int32) (p3 : Int32)  (Q : Bool → am_TI → am_TL → Prop) : Prop := wp_M_isPlacing I L R q p1 p2 (fun (r1 : Bool) => ((r1 = false → wb_M_oddsThat_17 R q p1 p2 p3 Q I L) ∧ (r1 = true → wp_M_isCell I L R q p3 (fun (r3 : Bool) => ((r3 = false → wb_M_oddsThat_17 R q p1 p2 p3 Q I L) ∧ (r3 = true → wp_M_laysPlacings I L R q p1 p2 (fun (I2 : am_TI) => (((I2 q 33) = 0 → wp_M_is I2 L R q 6 (fun (r5 : Bool) (I4 : am_TI) => Q r5 I4 L)) ∧ (¬ (I2 q 33) = 0 → (vp_in p3 25 ∧ wp_M_tellsBy I2 L R q (Int32.toInt64 (I2 (q + 13) (Int32.toNatClampNeg p3))) (Int32.toInt64 (I2 q 33)) (fun (r4 : Bool) (I3 : am_TI) (L1 : am_TL) => Q r4 I3 L1)))))))))))
set_option maxRecDepth 20000 in
theorem cm_M_oddsThat {d : Nat} {I : am_TI} {L : am_TL} {R : am_TR}  (hw : am_Wf R)   {q : Nat} {p1 : Int32} {p2 : Int32} {p3 : Int32} {Q : Bool → am_TI → am_TL → Prop} (hd : 4 ≤ d) (hq : am_SH[q]? = some (.inl 12)) (h : wp_M_oddsThat I L R q p1 p2 p3  Q) : am_Cm d 0 0 y_M_oddsThat b_M_oddsThat 4 (some .boolean) [.ref q, .int p1, .int p2, .int p3] (I, L, R, am_SH) (po_M_oddsThat R Q) := by
  refine am_Cm_of (ini := false) (by decide +kernel) (fun z => by cases z) (by simp [Value.category]) (fun r σ' z => by obtain ⟨x, _, _, rfl, -⟩ := z; exact ⟨_, rfl, am_b_nar x⟩) ?_
  unfold wp_M_oddsThat at h
  show am_Wp (d, "UnseenRingModel", b_M_oddsThat, 4, false) 0 0 0 [some (.ref q), some (.int p1), some (.int p2), some (.int p3)] [] (I, L, R, am_SH) (po_M_oddsThat R Q)
  refine am_aload_n (n := 1) d_M_oddsThat_0 rfl rfl ?_
  refine am_iload_n (n := 2) d_M_oddsThat_1 rfl rfl ?_
  refine am_iload_n (n := 3) d_M_oddsThat_2 rfl rfl ?_
  refine am_callV (kc := 0) (ks := 0) (As := [.int p1, .int p2]) (n := 6) d_M_oddsThat_3 rfl ce_M_isPlacing lk_M_421 in_M_isPlacing rfl rfl hq rfl rfl (Nat.le_of_ble_eq_true rfl) (Or.inl rfl) (cm_M_isPlacing (d := d - 1) hw (by omega) hq h) (by omega) ?_
  rintro _ _ ⟨r1, rfl, rfl, h⟩
  show am_Wp (d, "UnseenRingModel", b_M_oddsThat, 4, false) 0 0 6 [some (.ref q), some (.int p1), some (.int p2), some (.int p3)] [.int (am_b r1)] (I, L, R, am_SH) (po_M_oddsThat R Q)
  refine am_if_eq (y := 0) (tgt := 17) (n := 9) d_M_oddsThat_6 rfl rfl (fun c1 => ?_) (fun c1 => ?_)
  · have h := h.1 (am_b_0 c1)
    exact tb_M_oddsThat_17 hw hq hd I L h
  · have h := h.2 (am_b_n0 c1)
    refine am_aload_n (n := 10) d_M_oddsThat_9 rfl rfl ?_
    refine am_iload_n (n := 11) d_M_oddsThat_10 rfl rfl ?_
    refine am_callV (kc := 0) (ks := 0) (As := [.int p3]) (n := 14) d_M_oddsThat_11 rfl ce_M_isCell lk_M_334 in_M_isCell rfl rfl hq rfl rfl (Nat.le_of_ble_eq_true rfl) (Or.inl rfl) (cm_M_isCell (d := d - 1) hw (by omega) hq h) (by omega) ?_
    rintro _ _ ⟨r3, rfl, rfl, h⟩
    show am_Wp (d, "UnseenRingModel", b_M_oddsThat, 4, false) 0 0 14 [some (.ref q), some (.int p1), some (.int p2), some (.int p3)] [.int (am_b r3)] (I, L, R, am_SH) (po_M_oddsThat R Q)
    refine am_if_ne (y := 0) (tgt := 23) (n := 17) d_M_oddsThat_14 rfl rfl (fun c2 => ?_) (fun c2 => ?_)
    · have h := h.2 (am_b_n0 c2)
      refine am_aload_n (n := 24) d_M_oddsThat_23 rfl rfl ?_
      refine am_iload_n (n := 25) d_M_oddsThat_24 rfl rfl ?_
      refine am_iload_n (n := 26) d_M_oddsThat_25 rfl rfl ?_
      refine am_callV (kc := 0) (ks := 0) (As := [.int p1, .int p2]) (n := 29) d_M_oddsThat_26 rfl ce_M_laysPlacings lk_M_415 in_M_laysPlacings rfl rfl hq rfl rfl (Nat.le_of_ble_eq_true rfl) (Or.inl rfl) (cm_M_laysPlacings (d := d - 1) hw (by omega) hq h) (by omega) ?_
      rintro _ _ ⟨I2, rfl, rfl, h⟩
      show am_Wp (d, "UnseenRingModel", b_M_oddsThat, 4, false) 0 0 29 [some (.ref q), some (.int p1), some (.int p2), some (.int p3)] [] (I2, L, R, am_SH) (po_M_oddsThat R Q)
      refine am_aload_n (n := 30) d_M_oddsThat_29 rfl rfl ?_
      refine am_getI (n := 33) f_M_406 d_M_oddsThat_30 rfl rfl hq ?_
      refine am_if_ne (y := 0) (tgt := 45) (n := 36) d_M_oddsThat_33 rfl rfl (fun c3 => ?_) (fun c3 => ?_)
      · have h := h.2 c3
        refine am_aload_n (n := 46) d_M_oddsThat_45 rfl rfl ?_
        refine am_aload_n (n := 47) d_M_oddsThat_46 rfl rfl ?_
        refine am_getR (x := (q + 13)) (n := 50) f_M_59 d_M_oddsThat_47 rfl rfl hq (hw.1 q 12 29 13 hq rfl) ?_
        refine am_iload_n (n := 51) d_M_oddsThat_50 rfl rfl ?_
        obtain ⟨g1, h⟩ := h
        refine am_iald2 (n := 52) d_M_oddsThat_51 rfl (am_sho (k := 29) (o := 13) hq (by decide) (by decide) (by decide) rfl) g1 rfl ?_
        refine am_i2l (n := 53) d_M_oddsThat_52 rfl ?_
        refine am_aload_n (n := 54) d_M_oddsThat_53 rfl rfl ?_
        refine am_getI (n := 57) f_M_406 d_M_oddsThat_54 rfl rfl hq ?_
        refine am_i2l (n := 58) d_M_oddsThat_57 rfl ?_
        refine am_callV (kc := 0) (ks := 0) (As := [.long (Int32.toInt64 (I2 (q + 13) (Int32.toNatClampNeg p3))), .long (Int32.toInt64 (I2 q 33))]) (n := 61) d_M_oddsThat_58 rfl ce_M_tellsBy lk_M_427 in_M_tellsBy rfl rfl hq rfl rfl (Nat.le_of_ble_eq_true rfl) (Or.inl rfl) (cm_M_tellsBy (d := d - 1) hw (by omega) hq h) (by omega) ?_
        rintro _ _ ⟨r4, I3, L1, rfl, rfl, h⟩
        show am_Wp (d, "UnseenRingModel", b_M_oddsThat, 4, false) 0 0 61 [some (.ref q), some (.int p1), some (.int p2), some (.int p3)] [.int (am_b r4)] (I3, L1, R, am_SH) (po_M_oddsThat R Q)
        exact am_iret d_M_oddsThat_61 ⟨r4, I3, L1, rfl, rfl, h⟩
      · have h := h.1 c3
        refine am_aload_n (n := 37) d_M_oddsThat_36 rfl rfl ?_
        refine am_bipush (n := 39) d_M_oddsThat_37 cb_6 rfl ?_
        refine am_callV (kc := 0) (ks := 0) (As := [.int 6]) (n := 42) d_M_oddsThat_39 rfl ce_M_is lk_M_128 in_M_is rfl rfl hq rfl rfl (Nat.le_of_ble_eq_true rfl) (Or.inl rfl) (cm_M_is (d := d - 1) hw (by omega) hq h) (by omega) ?_
        rintro _ _ ⟨r5, I4, rfl, rfl, h⟩
        show am_Wp (d, "UnseenRingModel", b_M_oddsThat, 4, false) 0 0 42 [some (.ref q), some (.int p1), some (.int p2), some (.int p3)] [.int (am_b r5)] (I4, L, R, am_SH) (po_M_oddsThat R Q)
        refine am_goto (tgt := 61) d_M_oddsThat_42 rfl ?_
        exact am_iret d_M_oddsThat_61 ⟨r5, I4, L, rfl, rfl, h⟩
    · have h := h.1 (am_b_0 c2)
      exact tb_M_oddsThat_17 hw hq hd I L h
abbrev po_M_aim (L : am_TL) (R : am_TR) (Q : Int32 → am_TI → Prop) : Option Value → am_St → Prop := fun r σ' => ∃ (x : Int32) (I' : am_TI), r = some (.int x) ∧ σ' = (I', L, R, am_SH) ∧ Q x I'
def wl_M_aim_40 (L : am_TL) (R : am_TR) (q : Nat) (p1 : Int32) (p2 : Int32) (Q : Int32 → am_TI → Prop)  : Nat → am_TI → Int32 → Int32 → Prop
  | 0 => fun _ _ _ => False
  | f40 + 1 => fun I v3 v4 => wp_M_cellsOf I L R q 0 (fun (r2 : Int32) => ((r2 ≤ v4 → wp_M_gives I L R q v3 (fun (r3 : Int32) (I2 : am_TI) => Q r3 I2)) ∧ (¬ r2 ≤ v4 → (vp_in v4 25 ∧ (vp_in v3 25 ∧ (((I (q + 14) (Int32.toNatClampNeg v4)) ≤ (I (q + 14) (Int32.toNatClampNeg v3)) → wl_M_aim_40 L R q p1 p2 Q f40 I v3 (v4 + 1)) ∧ (¬ (I (q + 14) (Int32.toNatClampNeg v4)) ≤ (I (q + 14) (Int32.toNatClampNeg v3)) → wl_M_aim_40 L R q p1 p2 Q f40 I v4 (v4 + 1))))))))
set_option maxRecDepth 20000 in
theorem tl_M_aim_40 {d : Nat}  {L : am_TL} {R : am_TR} {q : Nat} {p1 : Int32} {p2 : Int32} {Q : Int32 → am_TI → Prop}  (hw : am_Wf R) (hq : am_SH[q]? = some (.inl 12)) (hd : 4 ≤ d) : ∀ (n : Nat) (I : am_TI) (v3 : Int32) (v4 : Int32), wl_M_aim_40 L R q p1 p2 Q  n I v3 v4 → am_Wp (d, "UnseenRingModel", b_M_aim, 5, false) 0 0 40 [some (.ref q), some (.int p1), some (.int p2), some (.int v3), some (.int v4)] [] (I, L, R, am_SH) (po_M_aim L R Q) := by
  intro n
  induction n with
  | zero => intro I v3 v4 h; exact h.elim
  | succ n ih =>
    intro I v3 v4 h
    unfold wl_M_aim_40 at h
    refine am_iload (n := 42) d_M_aim_40 rfl rfl ?_
    refine am_aload_n (n := 43) d_M_aim_42 rfl rfl ?_
    refine am_iconst (n := 44) d_M_aim_43 ci_0 rfl ?_
    refine am_callV (kc := 0) (ks := 0) (As := [.int 0]) (n := 47) d_M_aim_44 rfl ce_M_cellsOf lk_M_223 in_M_cellsOf rfl rfl hq rfl rfl (Nat.le_of_ble_eq_true rfl) (Or.inl rfl) (cm_M_cellsOf (d := d - 1) hw (by omega) hq h) (by omega) ?_
    rintro _ _ ⟨r2, rfl, rfl, h⟩
    show am_Wp (d, "UnseenRingModel", b_M_aim, 5, false) 0 0 47 [some (.ref q), some (.int p1), some (.int p2), some (.int v3), some (.int v4)] [.int r2, .int v4] (I, L, R, am_SH) (po_M_aim L R Q)
    refine am_icmp_ge (tgt := 75) (n := 50) d_M_aim_47 rfl rfl (fun c3 => ?_) (fun c3 => ?_)
    · have h := h.1 c3
      refine am_aload_n (n := 76) d_M_aim_75 rfl rfl ?_
      refine am_iload_n (n := 77) d_M_aim_76 rfl rfl ?_
      refine am_callV (kc := 0) (ks := 0) (As := [.int v3]) (n := 80) d_M_aim_77 rfl ce_M_gives lk_M_125 in_M_gives rfl rfl hq rfl rfl (Nat.le_of_ble_eq_true rfl) (Or.inl rfl) (cm_M_gives (d := d - 1) hw (by omega) hq h) (by omega) ?_
      rintro _ _ ⟨r3, I2, rfl, rfl, h⟩
      show am_Wp (d, "UnseenRingModel", b_M_aim, 5, false) 0 0 80 [some (.ref q), some (.int p1), some (.int p2), some (.int v3), some (.int v4)] [.int r3] (I2, L, R, am_SH) (po_M_aim L R Q)
      exact am_iret d_M_aim_80 ⟨r3, I2, rfl, rfl, h⟩
    · have h := h.2 c3
      refine am_aload_n (n := 51) d_M_aim_50 rfl rfl ?_
      refine am_getR (x := (q + 14)) (n := 54) f_M_62 d_M_aim_51 rfl rfl hq (hw.1 q 12 30 14 hq rfl) ?_
      refine am_iload (n := 56) d_M_aim_54 rfl rfl ?_
      obtain ⟨g1, h⟩ := h
      refine am_iald2 (n := 57) d_M_aim_56 rfl (am_sho (k := 30) (o := 14) hq (by decide) (by decide) (by decide) rfl) g1 rfl ?_
      refine am_aload_n (n := 58) d_M_aim_57 rfl rfl ?_
      refine am_getR (x := (q + 14)) (n := 61) f_M_62 d_M_aim_58 rfl rfl hq (hw.1 q 12 30 14 hq rfl) ?_
      refine am_iload_n (n := 62) d_M_aim_61 rfl rfl ?_
      obtain ⟨g2, h⟩ := h
      refine am_iald2 (n := 63) d_M_aim_62 rfl (am_sho (k := 30) (o := 14) hq (by decide) (by decide) (by decide) rfl) g2 rfl ?_
      refine am_icmp_le (tgt := 69) (n := 66) d_M_aim_63 rfl rfl (fun c4 => ?_) (fun c4 => ?_)
      · have h := h.1 c4
        refine am_iinc (v := v4 + 1) (ls' := [some (.ref q), some (.int p1), some (.int p2), some (.int v3), some (.int (v4 + 1))]) (n := 72) d_M_aim_69 rfl (congrArg _ ci_1) (by decide) rfl rfl ?_
        refine am_goto (tgt := 40) d_M_aim_72 rfl ?_
        exact ih I v3 (v4 + 1)  h
      · have h := h.2 c4
        refine am_iload (n := 68) d_M_aim_66 rfl rfl ?_
        refine am_istore_n (ls' := [some (.ref q), some (.int p1), some (.int p2), some (.int v4), some (.int v4)]) (n := 69) d_M_aim_68 (by decide) rfl rfl ?_
        refine am_iinc (v := v4 + 1) (ls' := [some (.ref q), some (.int p1), some (.int p2), some (.int v4), some (.int (v4 + 1))]) (n := 72) d_M_aim_69 rfl (congrArg _ ci_1) (by decide) rfl rfl ?_
        refine am_goto (tgt := 40) d_M_aim_72 rfl ?_
        exact ih I v4 (v4 + 1)  h
def wp_M_aim (I : am_TI) (L : am_TL) (R : am_TR) (q : Nat) (p1 : Int32) (p2 : Int32)  (Q : Int32 → am_TI → Prop) : Prop := wp_M_isPlacing I L R q p1 p2 (fun (r1 : Bool) => ((r1 = false → wp_M_refuse I L R q 1 (fun (r5 : Int32) (I4 : am_TI) => Q r5 I4)) ∧ (r1 = true → wp_M_laysPlacings I L R q p1 p2 (fun (I1 : am_TI) => (((I1 q 33) = 0 → wp_M_refuse I1 L R q 6 (fun (r4 : Int32) (I3 : am_TI) => Q r4 I3)) ∧ (¬ (I1 q 33) = 0 → (∃ z, wl_M_aim_40 L R q p1 p2 Q z I1 0 1)))))))
set_option maxRecDepth 20000 in
theorem cm_M_aim {d : Nat} {I : am_TI} {L : am_TL} {R : am_TR}  (hw : am_Wf R)   {q : Nat} {p1 : Int32} {p2 : Int32} {Q : Int32 → am_TI → Prop} (hd : 4 ≤ d) (hq : am_SH[q]? = some (.inl 12)) (h : wp_M_aim I L R q p1 p2  Q) : am_Cm d 0 0 y_M_aim b_M_aim 5 (some .int) [.ref q, .int p1, .int p2] (I, L, R, am_SH) (po_M_aim L R Q) := by
  refine am_Cm_of (ini := false) (by decide +kernel) (fun z => by cases z) (by simp [Value.category]) (fun r σ' z => by obtain ⟨x, _, rfl, -⟩ := z; exact ⟨_, rfl, rfl⟩) ?_
  unfold wp_M_aim at h
  show am_Wp (d, "UnseenRingModel", b_M_aim, 5, false) 0 0 0 [some (.ref q), some (.int p1), some (.int p2), none, none] [] (I, L, R, am_SH) (po_M_aim L R Q)
  refine am_aload_n (n := 1) d_M_aim_0 rfl rfl ?_
  refine am_iload_n (n := 2) d_M_aim_1 rfl rfl ?_
  refine am_iload_n (n := 3) d_M_aim_2 rfl rfl ?_
  refine am_callV (kc := 0) (ks := 0) (As := [.int p1, .int p2]) (n := 6) d_M_aim_3 rfl ce_M_isPlacing lk_M_421 in_M_isPlacing rfl rfl hq rfl rfl (Nat.le_of_ble_eq_true rfl) (Or.inl rfl) (cm_M_isPlacing (d := d - 1) hw (by omega) hq h) (by omega) ?_
  rintro _ _ ⟨r1, rfl, rfl, h⟩
  show am_Wp (d, "UnseenRingModel", b_M_aim, 5, false) 0 0 6 [some (.ref q), some (.int p1), some (.int p2), none, none] [.int (am_b r1)] (I, L, R, am_SH) (po_M_aim L R Q)
  refine am_if_ne (y := 0) (tgt := 15) (n := 9) d_M_aim_6 rfl rfl (fun c1 => ?_) (fun c1 => ?_)
  · have h := h.2 (am_b_n0 c1)
    refine am_aload_n (n := 16) d_M_aim_15 rfl rfl ?_
    refine am_iload_n (n := 17) d_M_aim_16 rfl rfl ?_
    refine am_iload_n (n := 18) d_M_aim_17 rfl rfl ?_
    refine am_callV (kc := 0) (ks := 0) (As := [.int p1, .int p2]) (n := 21) d_M_aim_18 rfl ce_M_laysPlacings lk_M_415 in_M_laysPlacings rfl rfl hq rfl rfl (Nat.le_of_ble_eq_true rfl) (Or.inl rfl) (cm_M_laysPlacings (d := d - 1) hw (by omega) hq h) (by omega) ?_
    rintro _ _ ⟨I1, rfl, rfl, h⟩
    show am_Wp (d, "UnseenRingModel", b_M_aim, 5, false) 0 0 21 [some (.ref q), some (.int p1), some (.int p2), none, none] [] (I1, L, R, am_SH) (po_M_aim L R Q)
    refine am_aload_n (n := 22) d_M_aim_21 rfl rfl ?_
    refine am_getI (n := 25) f_M_406 d_M_aim_22 rfl rfl hq ?_
    refine am_if_ne (y := 0) (tgt := 35) (n := 28) d_M_aim_25 rfl rfl (fun c2 => ?_) (fun c2 => ?_)
    · have h := h.2 c2
      refine am_iconst (n := 36) d_M_aim_35 ci_0 rfl ?_
      refine am_istore_n (ls' := [some (.ref q), some (.int p1), some (.int p2), some (.int 0), none]) (n := 37) d_M_aim_36 (by decide) rfl rfl ?_
      refine am_iconst (n := 38) d_M_aim_37 ci_1 rfl ?_
      refine am_istore (ls' := [some (.ref q), some (.int p1), some (.int p2), some (.int 0), some (.int 1)]) (n := 40) d_M_aim_38 (by decide) rfl rfl ?_
      obtain ⟨n, h⟩ := h
      exact tl_M_aim_40 hw hq hd n I1 0 1 h
    · have h := h.1 c2
      refine am_aload_n (n := 29) d_M_aim_28 rfl rfl ?_
      refine am_bipush (n := 31) d_M_aim_29 cb_6 rfl ?_
      refine am_callV (kc := 0) (ks := 0) (As := [.int 6]) (n := 34) d_M_aim_31 rfl ce_M_refuse lk_M_121 in_M_refuse rfl rfl hq rfl rfl (Nat.le_of_ble_eq_true rfl) (Or.inl rfl) (cm_M_refuse (d := d - 1) hw (by omega) hq h) (by omega) ?_
      rintro _ _ ⟨r4, I3, rfl, rfl, h⟩
      show am_Wp (d, "UnseenRingModel", b_M_aim, 5, false) 0 0 34 [some (.ref q), some (.int p1), some (.int p2), none, none] [.int r4] (I3, L, R, am_SH) (po_M_aim L R Q)
      exact am_iret d_M_aim_34 ⟨r4, I3, rfl, rfl, h⟩
  · have h := h.1 (am_b_0 c1)
    refine am_aload_n (n := 10) d_M_aim_9 rfl rfl ?_
    refine am_iconst (n := 11) d_M_aim_10 ci_1 rfl ?_
    refine am_callV (kc := 0) (ks := 0) (As := [.int 1]) (n := 14) d_M_aim_11 rfl ce_M_refuse lk_M_121 in_M_refuse rfl rfl hq rfl rfl (Nat.le_of_ble_eq_true rfl) (Or.inl rfl) (cm_M_refuse (d := d - 1) hw (by omega) hq h) (by omega) ?_
    rintro _ _ ⟨r5, I4, rfl, rfl, h⟩
    show am_Wp (d, "UnseenRingModel", b_M_aim, 5, false) 0 0 14 [some (.ref q), some (.int p1), some (.int p2), none, none] [.int r5] (I4, L, R, am_SH) (po_M_aim L R Q)
    exact am_iret d_M_aim_14 ⟨r5, I4, rfl, rfl, h⟩
abbrev po_M_hitFrom (I : am_TI) (L : am_TL) (R : am_TR) (Q : Int32 → Prop) : Option Value → am_St → Prop := fun r σ' => ∃ (x : Int32), r = some (.int x) ∧ σ' = (I, L, R, am_SH) ∧ Q x
def wl_M_hitFrom_6 (I : am_TI) (L : am_TL) (R : am_TR) (q : Nat) (p1 : Int32) (p2 : Int32) (p3 : Int32) (Q : Int32 → Prop)  : Nat → Int32 → Int32 → Prop
  | 0 => fun _ _ => False
  | f6 + 1 => fun v4 v5 => ((p3 ≤ v5 → Q v4) ∧ (¬ p3 ≤ v5 → (vp_in ((60 * p2) + v5) 240 ∧ wp_M_farBetween I L R q (Int64.toInt32 (L (q + 5) (Int32.toNatClampNeg ((60 * p2) + v5)))) p1 (fun (r1 : Int32) => ((2 ≤ r1 → wl_M_hitFrom_6 I L R q p1 p2 p3 Q f6 (v4 ||| 0) (v5 + 1)) ∧ (¬ 2 ≤ r1 → wl_M_hitFrom_6 I L R q p1 p2 p3 Q f6 (v4 ||| ((1 : Int32) <<< (v5 &&& 31))) (v5 + 1)))))))
set_option maxRecDepth 20000 in
theorem tl_M_hitFrom_6 {d : Nat}  {I : am_TI} {L : am_TL} {R : am_TR} {q : Nat} {p1 : Int32} {p2 : Int32} {p3 : Int32} {Q : Int32 → Prop}  (hw : am_Wf R) (hq : am_SH[q]? = some (.inl 12)) (hd : 2 ≤ d) : ∀ (n : Nat) (v4 : Int32) (v5 : Int32), wl_M_hitFrom_6 I L R q p1 p2 p3 Q  n v4 v5 → am_Wp (d, "UnseenRingModel", b_M_hitFrom, 6, false) 0 0 6 [some (.ref q), some (.int p1), some (.int p2), some (.int p3), some (.int v4), some (.int v5)] [] (I, L, R, am_SH) (po_M_hitFrom I L R Q) := by
  intro n
  induction n with
  | zero => intro v4 v5 h; exact h.elim
  | succ n ih =>
    intro v4 v5 h
    unfold wl_M_hitFrom_6 at h
    refine am_iload (n := 8) d_M_hitFrom_6 rfl rfl ?_
    refine am_iload_n (n := 9) d_M_hitFrom_8 rfl rfl ?_
    refine am_icmp_ge (tgt := 53) (n := 12) d_M_hitFrom_9 rfl rfl (fun c1 => ?_) (fun c1 => ?_)
    · have h := h.1 c1
      refine am_iload (n := 55) d_M_hitFrom_53 rfl rfl ?_
      exact am_iret d_M_hitFrom_55 ⟨v4, rfl, rfl, h⟩
    · have h := h.2 c1
      refine am_iload (n := 14) d_M_hitFrom_12 rfl rfl ?_
      refine am_aload_n (n := 15) d_M_hitFrom_14 rfl rfl ?_
      refine am_aload_n (n := 16) d_M_hitFrom_15 rfl rfl ?_
      refine am_getR (x := (q + 5)) (n := 19) f_M_27 d_M_hitFrom_16 rfl rfl hq (hw.1 q 12 7 5 hq rfl) ?_
      refine am_bipush (n := 21) d_M_hitFrom_19 cb_60 rfl ?_
      refine am_iload_n (n := 22) d_M_hitFrom_21 rfl rfl ?_
      refine am_imul (n := 23) d_M_hitFrom_22 rfl ?_
      refine am_iload (n := 25) d_M_hitFrom_23 rfl rfl ?_
      refine am_iadd (n := 26) d_M_hitFrom_25 rfl ?_
      obtain ⟨g1, h⟩ := h
      refine am_lald2 (n := 27) d_M_hitFrom_26 rfl (am_sho (k := 7) (o := 5) hq (by decide) (by decide) (by decide) rfl) g1 rfl ?_
      refine am_l2i (n := 28) d_M_hitFrom_27 rfl ?_
      refine am_iload_n (n := 29) d_M_hitFrom_28 rfl rfl ?_
      refine am_callV (kc := 0) (ks := 0) (As := [.int (Int64.toInt32 (L (q + 5) (Int32.toNatClampNeg ((60 * p2) + v5)))), .int p1]) (n := 32) d_M_hitFrom_29 rfl ce_M_farBetween lk_M_316 in_M_farBetween rfl rfl hq rfl rfl (Nat.le_of_ble_eq_true rfl) (Or.inl rfl) (cm_M_farBetween (d := d - 1) hw (by omega) hq h) (by omega) ?_
      rintro _ _ ⟨r1, rfl, rfl, h⟩
      show am_Wp (d, "UnseenRingModel", b_M_hitFrom, 6, false) 0 0 32 [some (.ref q), some (.int p1), some (.int p2), some (.int p3), some (.int v4), some (.int v5)] [.int r1, .int v4] (I, L, R, am_SH) (po_M_hitFrom I L R Q)
      refine am_iconst (n := 33) d_M_hitFrom_32 ci_2 rfl ?_
      refine am_icmp_ge (tgt := 43) (n := 36) d_M_hitFrom_33 rfl rfl (fun c2 => ?_) (fun c2 => ?_)
      · have h := h.1 c2
        refine am_iconst (n := 44) d_M_hitFrom_43 ci_0 rfl ?_
        refine am_ior (n := 45) d_M_hitFrom_44 rfl ?_
        refine am_istore (ls' := [some (.ref q), some (.int p1), some (.int p2), some (.int p3), some (.int (v4 ||| 0)), some (.int v5)]) (n := 47) d_M_hitFrom_45 (by decide) rfl rfl ?_
        refine am_iinc (v := v5 + 1) (ls' := [some (.ref q), some (.int p1), some (.int p2), some (.int p3), some (.int (v4 ||| 0)), some (.int (v5 + 1))]) (n := 50) d_M_hitFrom_47 rfl (congrArg _ ci_1) (by decide) rfl rfl ?_
        refine am_goto (tgt := 6) d_M_hitFrom_50 rfl ?_
        exact ih (v4 ||| 0) (v5 + 1)  h
      · have h := h.2 c2
        refine am_iconst (n := 37) d_M_hitFrom_36 ci_1 rfl ?_
        refine am_iload (n := 39) d_M_hitFrom_37 rfl rfl ?_
        refine am_ishl (n := 40) d_M_hitFrom_39 rfl ?_
        refine am_goto (tgt := 44) d_M_hitFrom_40 rfl ?_
        refine am_ior (n := 45) d_M_hitFrom_44 rfl ?_
        refine am_istore (ls' := [some (.ref q), some (.int p1), some (.int p2), some (.int p3), some (.int (v4 ||| ((1 : Int32) <<< (v5 &&& 31)))), some (.int v5)]) (n := 47) d_M_hitFrom_45 (by decide) rfl rfl ?_
        refine am_iinc (v := v5 + 1) (ls' := [some (.ref q), some (.int p1), some (.int p2), some (.int p3), some (.int (v4 ||| ((1 : Int32) <<< (v5 &&& 31)))), some (.int (v5 + 1))]) (n := 50) d_M_hitFrom_47 rfl (congrArg _ ci_1) (by decide) rfl rfl ?_
        refine am_goto (tgt := 6) d_M_hitFrom_50 rfl ?_
        exact ih (v4 ||| ((1 : Int32) <<< (v5 &&& 31))) (v5 + 1)  h
def wp_M_hitFrom (I : am_TI) (L : am_TL) (R : am_TR) (q : Nat) (p1 : Int32) (p2 : Int32) (p3 : Int32)  (Q : Int32 → Prop) : Prop := (∃ z, wl_M_hitFrom_6 I L R q p1 p2 p3 Q z 0 0)
set_option maxRecDepth 20000 in
theorem cm_M_hitFrom {d : Nat} {I : am_TI} {L : am_TL} {R : am_TR}  (hw : am_Wf R)   {q : Nat} {p1 : Int32} {p2 : Int32} {p3 : Int32} {Q : Int32 → Prop} (hd : 2 ≤ d) (hq : am_SH[q]? = some (.inl 12)) (h : wp_M_hitFrom I L R q p1 p2 p3  Q) : am_Cm d 0 0 y_M_hitFrom b_M_hitFrom 6 (some .int) [.ref q, .int p1, .int p2, .int p3] (I, L, R, am_SH) (po_M_hitFrom I L R Q) := by
  refine am_Cm_of (ini := false) (by decide +kernel) (fun z => by cases z) (by simp [Value.category]) (fun r σ' z => by obtain ⟨x, rfl, -⟩ := z; exact ⟨_, rfl, rfl⟩) ?_
  unfold wp_M_hitFrom at h
  show am_Wp (d, "UnseenRingModel", b_M_hitFrom, 6, false) 0 0 0 [some (.ref q), some (.int p1), some (.int p2), some (.int p3), none, none] [] (I, L, R, am_SH) (po_M_hitFrom I L R Q)
  refine am_iconst (n := 1) d_M_hitFrom_0 ci_0 rfl ?_
  refine am_istore (ls' := [some (.ref q), some (.int p1), some (.int p2), some (.int p3), some (.int 0), none]) (n := 3) d_M_hitFrom_1 (by decide) rfl rfl ?_
  refine am_iconst (n := 4) d_M_hitFrom_3 ci_0 rfl ?_
  refine am_istore (ls' := [some (.ref q), some (.int p1), some (.int p2), some (.int p3), some (.int 0), some (.int 0)]) (n := 6) d_M_hitFrom_4 (by decide) rfl rfl ?_
  obtain ⟨n, h⟩ := h
  exact tl_M_hitFrom_6 hw hq hd n 0 0 h
abbrev po_M_laysThrows (L : am_TL) (R : am_TR) (Q : am_TI → Prop) : Option Value → am_St → Prop := fun r σ' => ∃ (I' : am_TI), r = none ∧ σ' = (I', L, R, am_SH) ∧ Q I'
def wb_M_laysThrows_122 (L : am_TL) (R : am_TR) (q : Nat) (p1 : Int32) (p2 : Int32) (Q : am_TI → Prop) (K13 : am_TI → Int32 → Int32 → Prop) (K45 : am_TI → Int32 → Int32 → Int32 → Int32 → Prop) (I : am_TI) (v3 : Int32) (v4 : Int32) (v5 : Int32) (v6 : Int32) (v7 : Int32) (s0 : Int32) : Prop := ((v6 = v3 → (vp_in ((256 * v4) + v6) 6656 ∧ (∀ I2, I2 = am_u2 I (q + 17) (Int32.toNatClampNeg ((256 * v4) + v6)) 0 → K45 I2 v3 v4 v5 (v6 + 1)))) ∧ (¬ v6 = v3 → (vp_in ((256 * v4) + v6) 6656 ∧ (∀ I1, I1 = am_u2 I (q + 17) (Int32.toNatClampNeg ((256 * v4) + v6)) (am_min v7 s0) → K45 I1 v3 v4 v5 (v6 + 1)))))
set_option maxRecDepth 20000 in
theorem tb_M_laysThrows_122 {d : Nat}  {L : am_TL} {R : am_TR} {q : Nat} {p1 : Int32} {p2 : Int32} {Q : am_TI → Prop} {K13 : am_TI → Int32 → Int32 → Prop} {K45 : am_TI → Int32 → Int32 → Int32 → Int32 → Prop} (hw : am_Wf R) (hq : am_SH[q]? = some (.inl 12)) (hK13 : ∀ (I : am_TI) (v3 : Int32) (v4 : Int32), K13 I v3 v4 → am_Wp (d, "UnseenRingModel", b_M_laysThrows, 9, false) 0 0 13 [some (.ref q), some (.int p1), some (.int p2), some (.int v3), some (.int v4), none, none, none, none] [] (I, L, R, am_SH) (po_M_laysThrows L R Q)) (hK45 : ∀ (I : am_TI) (v3 : Int32) (v4 : Int32) (v5 : Int32) (v6 : Int32), K45 I v3 v4 v5 v6 → am_Wp (d, "UnseenRingModel", b_M_laysThrows, 9, false) 0 0 45 [some (.ref q), some (.int p1), some (.int p2), some (.int v3), some (.int v4), some (.int v5), some (.int v6), none, none] [] (I, L, R, am_SH) (po_M_laysThrows L R Q)) (hd : 3 ≤ d) (I : am_TI) (v3 : Int32) (v4 : Int32) (v5 : Int32) (v6 : Int32) (v7 : Int32) (s0 : Int32) (h : wb_M_laysThrows_122 L R q p1 p2 Q K13 K45 I v3 v4 v5 v6 v7 s0) : am_Wp (d, "UnseenRingModel", b_M_laysThrows, 9, false) 0 0 122 [some (.ref q), some (.int p1), some (.int p2), some (.int v3), some (.int v4), some (.int v5), some (.int v6), some (.int v7), none] [.int s0] (I, L, R, am_SH) (po_M_laysThrows L R Q) := by
  unfold wb_M_laysThrows_122 at h
  refine am_istore (ls' := [some (.ref q), some (.int p1), some (.int p2), some (.int v3), some (.int v4), some (.int v5), some (.int v6), some (.int v7), some (.int s0)]) (n := 124) d_M_laysThrows_122 (by decide) rfl rfl ?_
  refine am_aload_n (n := 125) d_M_laysThrows_124 rfl rfl ?_
  refine am_getR (x := (q + 17)) (n := 128) f_M_71 d_M_laysThrows_125 rfl rfl hq (hw.1 q 12 34 17 hq rfl) ?_
  refine am_sipush (n := 131) d_M_laysThrows_128 cs_256 rfl ?_
  refine am_iload (n := 133) d_M_laysThrows_131 rfl rfl ?_
  refine am_imul (n := 134) d_M_laysThrows_133 rfl ?_
  refine am_iload (n := 136) d_M_laysThrows_134 rfl rfl ?_
  refine am_iadd (n := 137) d_M_laysThrows_136 rfl ?_
  refine am_iload (n := 139) d_M_laysThrows_137 rfl rfl ?_
  refine am_iload_n (n := 140) d_M_laysThrows_139 rfl rfl ?_
  refine am_icmp_ne (tgt := 147) (n := 143) d_M_laysThrows_140 rfl rfl (fun c6 => ?_) (fun c6 => ?_)
  · have h := h.2 c6
    refine am_iload (n := 149) d_M_laysThrows_147 rfl rfl ?_
    refine am_iload (n := 151) d_M_laysThrows_149 rfl rfl ?_
    refine am_mmin2 (n := 154) d_M_laysThrows_151 rfl lm_M_176 (Nat.le_of_ble_eq_true rfl) (by omega) ?_
    obtain ⟨g3, h⟩ := h
    refine am_iast2 (n := 155) d_M_laysThrows_154 rfl (am_sho (k := 34) (o := 17) hq (by decide) (by decide) (by decide) rfl) g3 rfl ?_
    generalize eI1 : am_u2 I (q + 17) (Int32.toNatClampNeg ((256 * v4) + v6)) (am_min v7 s0) = I1
    have h := h I1 eI1.symm
    refine am_iinc (v := v6 + 1) (ls' := [some (.ref q), some (.int p1), some (.int p2), some (.int v3), some (.int v4), some (.int v5), some (.int (v6 + 1)), some (.int v7), some (.int s0)]) (n := 158) d_M_laysThrows_155 rfl (congrArg _ ci_1) (by decide) rfl rfl ?_
    refine am_goto (tgt := 45) d_M_laysThrows_158 rfl ?_
    refine am_forget (ls' := [some (.ref q), some (.int p1), some (.int p2), some (.int v3), some (.int v4), some (.int v5), some (.int (v6 + 1)), none, none]) (am_le_s (am_le_s (am_le_s (am_le_s (am_le_s (am_le_s (am_le_s (am_le_n (am_le_n am_le_e))))))))) ?_
    exact hK45 I1 v3 v4 v5 (v6 + 1)  h
  · have h := h.1 c6
    refine am_iconst (n := 144) d_M_laysThrows_143 ci_0 rfl ?_
    refine am_goto (tgt := 154) d_M_laysThrows_144 rfl ?_
    obtain ⟨g4, h⟩ := h
    refine am_iast2 (n := 155) d_M_laysThrows_154 rfl (am_sho (k := 34) (o := 17) hq (by decide) (by decide) (by decide) rfl) g4 rfl ?_
    generalize eI2 : am_u2 I (q + 17) (Int32.toNatClampNeg ((256 * v4) + v6)) 0 = I2
    have h := h I2 eI2.symm
    refine am_iinc (v := v6 + 1) (ls' := [some (.ref q), some (.int p1), some (.int p2), some (.int v3), some (.int v4), some (.int v5), some (.int (v6 + 1)), some (.int v7), some (.int s0)]) (n := 158) d_M_laysThrows_155 rfl (congrArg _ ci_1) (by decide) rfl rfl ?_
    refine am_goto (tgt := 45) d_M_laysThrows_158 rfl ?_
    refine am_forget (ls' := [some (.ref q), some (.int p1), some (.int p2), some (.int v3), some (.int v4), some (.int v5), some (.int (v6 + 1)), none, none]) (am_le_s (am_le_s (am_le_s (am_le_s (am_le_s (am_le_s (am_le_s (am_le_n (am_le_n am_le_e))))))))) ?_
    exact hK45 I2 v3 v4 v5 (v6 + 1)  h
def wb_M_laysThrows_83 (L : am_TL) (R : am_TR) (q : Nat) (p1 : Int32) (p2 : Int32) (Q : am_TI → Prop) (K13 : am_TI → Int32 → Int32 → Prop) (K45 : am_TI → Int32 → Int32 → Int32 → Int32 → Prop) (I : am_TI) (v3 : Int32) (v4 : Int32) (v5 : Int32) (v6 : Int32) (s0 : Int32) : Prop := wp_M_cellsOf I L R q 0 (fun (r5 : Int32) => ((v4 = r5 → wb_M_laysThrows_122 L R q p1 p2 Q K13 K45 I v3 v4 v5 v6 s0 1000000) ∧ (¬ v4 = r5 → (vp_in ((256 * (v4 + 1)) + (v6 ||| v5)) 6656 ∧ wb_M_laysThrows_122 L R q p1 p2 Q K13 K45 I v3 v4 v5 v6 s0 (1 + (I (q + 17) (Int32.toNatClampNeg ((256 * (v4 + 1)) + (v6 ||| v5)))))))))
set_option maxRecDepth 20000 in
theorem tb_M_laysThrows_83 {d : Nat}  {L : am_TL} {R : am_TR} {q : Nat} {p1 : Int32} {p2 : Int32} {Q : am_TI → Prop} {K13 : am_TI → Int32 → Int32 → Prop} {K45 : am_TI → Int32 → Int32 → Int32 → Int32 → Prop} (hw : am_Wf R) (hq : am_SH[q]? = some (.inl 12)) (hK13 : ∀ (I : am_TI) (v3 : Int32) (v4 : Int32), K13 I v3 v4 → am_Wp (d, "UnseenRingModel", b_M_laysThrows, 9, false) 0 0 13 [some (.ref q), some (.int p1), some (.int p2), some (.int v3), some (.int v4), none, none, none, none] [] (I, L, R, am_SH) (po_M_laysThrows L R Q)) (hK45 : ∀ (I : am_TI) (v3 : Int32) (v4 : Int32) (v5 : Int32) (v6 : Int32), K45 I v3 v4 v5 v6 → am_Wp (d, "UnseenRingModel", b_M_laysThrows, 9, false) 0 0 45 [some (.ref q), some (.int p1), some (.int p2), some (.int v3), some (.int v4), some (.int v5), some (.int v6), none, none] [] (I, L, R, am_SH) (po_M_laysThrows L R Q)) (hd : 3 ≤ d) (I : am_TI) (v3 : Int32) (v4 : Int32) (v5 : Int32) (v6 : Int32) (s0 : Int32) (h : wb_M_laysThrows_83 L R q p1 p2 Q K13 K45 I v3 v4 v5 v6 s0) : am_Wp (d, "UnseenRingModel", b_M_laysThrows, 9, false) 0 0 83 [some (.ref q), some (.int p1), some (.int p2), some (.int v3), some (.int v4), some (.int v5), some (.int v6), none, none] [.int s0] (I, L, R, am_SH) (po_M_laysThrows L R Q) := by
  unfold wb_M_laysThrows_83 at h
  refine am_istore (ls' := [some (.ref q), some (.int p1), some (.int p2), some (.int v3), some (.int v4), some (.int v5), some (.int v6), some (.int s0), none]) (n := 85) d_M_laysThrows_83 (by decide) rfl rfl ?_
  refine am_iload (n := 87) d_M_laysThrows_85 rfl rfl ?_
  refine am_aload_n (n := 88) d_M_laysThrows_87 rfl rfl ?_
  refine am_iconst (n := 89) d_M_laysThrows_88 ci_0 rfl ?_
  refine am_callV (kc := 0) (ks := 0) (As := [.int 0]) (n := 92) d_M_laysThrows_89 rfl ce_M_cellsOf lk_M_223 in_M_cellsOf rfl rfl hq rfl rfl (Nat.le_of_ble_eq_true rfl) (Or.inl rfl) (cm_M_cellsOf (d := d - 1) hw (by omega) hq h) (by omega) ?_
  rintro _ _ ⟨r5, rfl, rfl, h⟩
  show am_Wp (d, "UnseenRingModel", b_M_laysThrows, 9, false) 0 0 92 [some (.ref q), some (.int p1), some (.int p2), some (.int v3), some (.int v4), some (.int v5), some (.int v6), some (.int s0), none] [.int r5, .int v4] (I, L, R, am_SH) (po_M_laysThrows L R Q)
  refine am_icmp_ne (tgt := 101) (n := 95) d_M_laysThrows_92 rfl rfl (fun c5 => ?_) (fun c5 => ?_)
  · have h := h.2 c5
    refine am_iconst (n := 102) d_M_laysThrows_101 ci_1 rfl ?_
    refine am_aload_n (n := 103) d_M_laysThrows_102 rfl rfl ?_
    refine am_getR (x := (q + 17)) (n := 106) f_M_71 d_M_laysThrows_103 rfl rfl hq (hw.1 q 12 34 17 hq rfl) ?_
    refine am_sipush (n := 109) d_M_laysThrows_106 cs_256 rfl ?_
    refine am_iload (n := 111) d_M_laysThrows_109 rfl rfl ?_
    refine am_iconst (n := 112) d_M_laysThrows_111 ci_1 rfl ?_
    refine am_iadd (n := 113) d_M_laysThrows_112 rfl ?_
    refine am_imul (n := 114) d_M_laysThrows_113 rfl ?_
    refine am_iload (n := 116) d_M_laysThrows_114 rfl rfl ?_
    refine am_iload (n := 118) d_M_laysThrows_116 rfl rfl ?_
    refine am_ior (n := 119) d_M_laysThrows_118 rfl ?_
    refine am_iadd (n := 120) d_M_laysThrows_119 rfl ?_
    obtain ⟨g2, h⟩ := h
    refine am_iald2 (n := 121) d_M_laysThrows_120 rfl (am_sho (k := 34) (o := 17) hq (by decide) (by decide) (by decide) rfl) g2 rfl ?_
    refine am_iadd (n := 122) d_M_laysThrows_121 rfl ?_
    exact tb_M_laysThrows_122 hw hq hK13 hK45 hd I v3 v4 v5 v6 s0 (1 + (I (q + 17) (Int32.toNatClampNeg ((256 * (v4 + 1)) + (v6 ||| v5))))) h
  · have h := h.1 c5
    refine am_ldcw (n := 98) d_M_laysThrows_95 k_M_392 rfl ?_
    refine am_goto (tgt := 122) d_M_laysThrows_98 rfl ?_
    exact tb_M_laysThrows_122 hw hq hK13 hK45 hd I v3 v4 v5 v6 s0 1000000 h
def wl_M_laysThrows_45 (L : am_TL) (R : am_TR) (q : Nat) (p1 : Int32) (p2 : Int32) (Q : am_TI → Prop) (K13 : am_TI → Int32 → Int32 → Prop) : Nat → am_TI → Int32 → Int32 → Int32 → Int32 → Prop
  | 0 => fun _ _ _ _ _ => False
  | f45 + 1 => fun I v3 v4 v5 v6 => ((v3 < v6 → K13 I v3 (v4 + (-1))) ∧ (¬ v3 < v6 → wp_M_cellsOf I L R q 0 (fun (r4 : Int32) => ((v4 = r4 → wb_M_laysThrows_83 L R q p1 p2 Q K13 (wl_M_laysThrows_45 L R q p1 p2 Q K13 f45) I v3 v4 v5 v6 1000000) ∧ (¬ v4 = r4 → (vp_in ((256 * (v4 + 1)) + v6) 6656 ∧ wb_M_laysThrows_83 L R q p1 p2 Q K13 (wl_M_laysThrows_45 L R q p1 p2 Q K13 f45) I v3 v4 v5 v6 (I (q + 17) (Int32.toNatClampNeg ((256 * (v4 + 1)) + v6)))))))))
set_option maxRecDepth 20000 in
theorem tl_M_laysThrows_45 {d : Nat}  {L : am_TL} {R : am_TR} {q : Nat} {p1 : Int32} {p2 : Int32} {Q : am_TI → Prop} {K13 : am_TI → Int32 → Int32 → Prop} (hw : am_Wf R) (hq : am_SH[q]? = some (.inl 12)) (hK13 : ∀ (I : am_TI) (v3 : Int32) (v4 : Int32), K13 I v3 v4 → am_Wp (d, "UnseenRingModel", b_M_laysThrows, 9, false) 0 0 13 [some (.ref q), some (.int p1), some (.int p2), some (.int v3), some (.int v4), none, none, none, none] [] (I, L, R, am_SH) (po_M_laysThrows L R Q)) (hd : 3 ≤ d) : ∀ (n : Nat) (I : am_TI) (v3 : Int32) (v4 : Int32) (v5 : Int32) (v6 : Int32), wl_M_laysThrows_45 L R q p1 p2 Q K13 n I v3 v4 v5 v6 → am_Wp (d, "UnseenRingModel", b_M_laysThrows, 9, false) 0 0 45 [some (.ref q), some (.int p1), some (.int p2), some (.int v3), some (.int v4), some (.int v5), some (.int v6), none, none] [] (I, L, R, am_SH) (po_M_laysThrows L R Q) := by
  intro n
  induction n with
  | zero => intro I v3 v4 v5 v6 h; exact h.elim
  | succ n ih =>
    intro I v3 v4 v5 v6 h
    unfold wl_M_laysThrows_45 at h
    refine am_iload (n := 47) d_M_laysThrows_45 rfl rfl ?_
    refine am_iload_n (n := 48) d_M_laysThrows_47 rfl rfl ?_
    refine am_icmp_gt (tgt := 161) (n := 51) d_M_laysThrows_48 rfl rfl (fun c3 => ?_) (fun c3 => ?_)
    · have h := h.1 c3
      refine am_iinc (v := v4 + (-1)) (ls' := [some (.ref q), some (.int p1), some (.int p2), some (.int v3), some (.int (v4 + (-1))), some (.int v5), some (.int v6), none, none]) (n := 164) d_M_laysThrows_161 rfl (congrArg _ ci_m1) (by decide) rfl rfl ?_
      refine am_goto (tgt := 13) d_M_laysThrows_164 rfl ?_
      refine am_forget (ls' := [some (.ref q), some (.int p1), some (.int p2), some (.int v3), some (.int (v4 + (-1))), none, none, none, none]) (am_le_s (am_le_s (am_le_s (am_le_s (am_le_s (am_le_n (am_le_n (am_le_n (am_le_n am_le_e))))))))) ?_
      exact hK13 I v3 (v4 + (-1))  h
    · have h := h.2 c3
      refine am_iload (n := 53) d_M_laysThrows_51 rfl rfl ?_
      refine am_aload_n (n := 54) d_M_laysThrows_53 rfl rfl ?_
      refine am_iconst (n := 55) d_M_laysThrows_54 ci_0 rfl ?_
      refine am_callV (kc := 0) (ks := 0) (As := [.int 0]) (n := 58) d_M_laysThrows_55 rfl ce_M_cellsOf lk_M_223 in_M_cellsOf rfl rfl hq rfl rfl (Nat.le_of_ble_eq_true rfl) (Or.inl rfl) (cm_M_cellsOf (d := d - 1) hw (by omega) hq h) (by omega) ?_
      rintro _ _ ⟨r4, rfl, rfl, h⟩
      show am_Wp (d, "UnseenRingModel", b_M_laysThrows, 9, false) 0 0 58 [some (.ref q), some (.int p1), some (.int p2), some (.int v3), some (.int v4), some (.int v5), some (.int v6), none, none] [.int r4, .int v4] (I, L, R, am_SH) (po_M_laysThrows L R Q)
      refine am_icmp_ne (tgt := 67) (n := 61) d_M_laysThrows_58 rfl rfl (fun c4 => ?_) (fun c4 => ?_)
      · have h := h.2 c4
        refine am_aload_n (n := 68) d_M_laysThrows_67 rfl rfl ?_
        refine am_getR (x := (q + 17)) (n := 71) f_M_71 d_M_laysThrows_68 rfl rfl hq (hw.1 q 12 34 17 hq rfl) ?_
        refine am_sipush (n := 74) d_M_laysThrows_71 cs_256 rfl ?_
        refine am_iload (n := 76) d_M_laysThrows_74 rfl rfl ?_
        refine am_iconst (n := 77) d_M_laysThrows_76 ci_1 rfl ?_
        refine am_iadd (n := 78) d_M_laysThrows_77 rfl ?_
        refine am_imul (n := 79) d_M_laysThrows_78 rfl ?_
        refine am_iload (n := 81) d_M_laysThrows_79 rfl rfl ?_
        refine am_iadd (n := 82) d_M_laysThrows_81 rfl ?_
        obtain ⟨g1, h⟩ := h
        refine am_iald2 (n := 83) d_M_laysThrows_82 rfl (am_sho (k := 34) (o := 17) hq (by decide) (by decide) (by decide) rfl) g1 rfl ?_
        exact tb_M_laysThrows_83 hw hq hK13 ih hd I v3 v4 v5 v6 (I (q + 17) (Int32.toNatClampNeg ((256 * (v4 + 1)) + v6))) h
      · have h := h.1 c4
        refine am_ldcw (n := 64) d_M_laysThrows_61 k_M_392 rfl ?_
        refine am_goto (tgt := 83) d_M_laysThrows_64 rfl ?_
        exact tb_M_laysThrows_83 hw hq hK13 ih hd I v3 v4 v5 v6 1000000 h
def wb_M_laysThrows_40 (L : am_TL) (R : am_TR) (q : Nat) (p1 : Int32) (p2 : Int32) (Q : am_TI → Prop) (K13 : am_TI → Int32 → Int32 → Prop) (I : am_TI) (v3 : Int32) (v4 : Int32) (s0 : Int32) : Prop := (∃ z, wl_M_laysThrows_45 L R q p1 p2 Q K13 z I v3 v4 s0 0)
set_option maxRecDepth 20000 in
theorem tb_M_laysThrows_40 {d : Nat}  {L : am_TL} {R : am_TR} {q : Nat} {p1 : Int32} {p2 : Int32} {Q : am_TI → Prop} {K13 : am_TI → Int32 → Int32 → Prop} (hw : am_Wf R) (hq : am_SH[q]? = some (.inl 12)) (hK13 : ∀ (I : am_TI) (v3 : Int32) (v4 : Int32), K13 I v3 v4 → am_Wp (d, "UnseenRingModel", b_M_laysThrows, 9, false) 0 0 13 [some (.ref q), some (.int p1), some (.int p2), some (.int v3), some (.int v4), none, none, none, none] [] (I, L, R, am_SH) (po_M_laysThrows L R Q)) (hd : 3 ≤ d) (I : am_TI) (v3 : Int32) (v4 : Int32) (s0 : Int32) (h : wb_M_laysThrows_40 L R q p1 p2 Q K13 I v3 v4 s0) : am_Wp (d, "UnseenRingModel", b_M_laysThrows, 9, false) 0 0 40 [some (.ref q), some (.int p1), some (.int p2), some (.int v3), some (.int v4), none, none, none, none] [.int s0] (I, L, R, am_SH) (po_M_laysThrows L R Q) := by
  unfold wb_M_laysThrows_40 at h
  refine am_istore (ls' := [some (.ref q), some (.int p1), some (.int p2), some (.int v3), some (.int v4), some (.int s0), none, none, none]) (n := 42) d_M_laysThrows_40 (by decide) rfl rfl ?_
  refine am_iconst (n := 43) d_M_laysThrows_42 ci_0 rfl ?_
  refine am_istore (ls' := [some (.ref q), some (.int p1), some (.int p2), some (.int v3), some (.int v4), some (.int s0), some (.int 0), none, none]) (n := 45) d_M_laysThrows_43 (by decide) rfl rfl ?_
  obtain ⟨n, h⟩ := h
  exact tl_M_laysThrows_45 hw hq hK13 hd n I v3 v4 s0 0 h
def wl_M_laysThrows_13 (L : am_TL) (R : am_TR) (q : Nat) (p1 : Int32) (p2 : Int32) (Q : am_TI → Prop)  : Nat → am_TI → Int32 → Int32 → Prop
  | 0 => fun _ _ _ => False
  | f13 + 1 => fun I v3 v4 => ((v4 < 0 → Q I) ∧ (¬ v4 < 0 → wp_M_cellsOf I L R q 0 (fun (r2 : Int32) => ((v4 = r2 → wb_M_laysThrows_40 L R q p1 p2 Q (wl_M_laysThrows_13 L R q p1 p2 Q f13) I v3 v4 0) ∧ (¬ v4 = r2 → wp_M_hitFrom I L R q v4 p1 p2 (fun (r3 : Int32) => wb_M_laysThrows_40 L R q p1 p2 Q (wl_M_laysThrows_13 L R q p1 p2 Q f13) I v3 v4 r3))))))
set_option maxRecDepth 20000 in
theorem tl_M_laysThrows_13 {d : Nat}  {L : am_TL} {R : am_TR} {q : Nat} {p1 : Int32} {p2 : Int32} {Q : am_TI → Prop}  (hw : am_Wf R) (hq : am_SH[q]? = some (.inl 12)) (hd : 3 ≤ d) : ∀ (n : Nat) (I : am_TI) (v3 : Int32) (v4 : Int32), wl_M_laysThrows_13 L R q p1 p2 Q  n I v3 v4 → am_Wp (d, "UnseenRingModel", b_M_laysThrows, 9, false) 0 0 13 [some (.ref q), some (.int p1), some (.int p2), some (.int v3), some (.int v4), none, none, none, none] [] (I, L, R, am_SH) (po_M_laysThrows L R Q) := by
  intro n
  induction n with
  | zero => intro I v3 v4 h; exact h.elim
  | succ n ih =>
    intro I v3 v4 h
    unfold wl_M_laysThrows_13 at h
    refine am_iload (n := 15) d_M_laysThrows_13 rfl rfl ?_
    refine am_if_lt (y := 0) (tgt := 167) (n := 18) d_M_laysThrows_15 rfl rfl (fun c1 => ?_) (fun c1 => ?_)
    · have h := h.1 c1
      exact am_vret d_M_laysThrows_167 ⟨I, rfl, rfl, h⟩
    · have h := h.2 c1
      refine am_iload (n := 20) d_M_laysThrows_18 rfl rfl ?_
      refine am_aload_n (n := 21) d_M_laysThrows_20 rfl rfl ?_
      refine am_iconst (n := 22) d_M_laysThrows_21 ci_0 rfl ?_
      refine am_callV (kc := 0) (ks := 0) (As := [.int 0]) (n := 25) d_M_laysThrows_22 rfl ce_M_cellsOf lk_M_223 in_M_cellsOf rfl rfl hq rfl rfl (Nat.le_of_ble_eq_true rfl) (Or.inl rfl) (cm_M_cellsOf (d := d - 1) hw (by omega) hq h) (by omega) ?_
      rintro _ _ ⟨r2, rfl, rfl, h⟩
      show am_Wp (d, "UnseenRingModel", b_M_laysThrows, 9, false) 0 0 25 [some (.ref q), some (.int p1), some (.int p2), some (.int v3), some (.int v4), none, none, none, none] [.int r2, .int v4] (I, L, R, am_SH) (po_M_laysThrows L R Q)
      refine am_icmp_ne (tgt := 32) (n := 28) d_M_laysThrows_25 rfl rfl (fun c2 => ?_) (fun c2 => ?_)
      · have h := h.2 c2
        refine am_aload_n (n := 33) d_M_laysThrows_32 rfl rfl ?_
        refine am_iload (n := 35) d_M_laysThrows_33 rfl rfl ?_
        refine am_iload_n (n := 36) d_M_laysThrows_35 rfl rfl ?_
        refine am_iload_n (n := 37) d_M_laysThrows_36 rfl rfl ?_
        refine am_callV (kc := 0) (ks := 0) (As := [.int v4, .int p1, .int p2]) (n := 40) d_M_laysThrows_37 rfl ce_M_hitFrom lk_M_433 in_M_hitFrom rfl rfl hq rfl rfl (Nat.le_of_ble_eq_true rfl) (Or.inl rfl) (cm_M_hitFrom (d := d - 1) hw (by omega) hq h) (by omega) ?_
        rintro _ _ ⟨r3, rfl, rfl, h⟩
        show am_Wp (d, "UnseenRingModel", b_M_laysThrows, 9, false) 0 0 40 [some (.ref q), some (.int p1), some (.int p2), some (.int v3), some (.int v4), none, none, none, none] [.int r3] (I, L, R, am_SH) (po_M_laysThrows L R Q)
        exact tb_M_laysThrows_40 hw hq ih hd I v3 v4 r3 h
      · have h := h.1 c2
        refine am_iconst (n := 29) d_M_laysThrows_28 ci_0 rfl ?_
        refine am_goto (tgt := 40) d_M_laysThrows_29 rfl ?_
        exact tb_M_laysThrows_40 hw hq ih hd I v3 v4 0 h
def wp_M_laysThrows (I : am_TI) (L : am_TL) (R : am_TR) (q : Nat) (p1 : Int32) (p2 : Int32)  (Q : am_TI → Prop) : Prop := wp_M_cellsOf I L R q 0 (fun (r1 : Int32) => (∃ z, wl_M_laysThrows_13 L R q p1 p2 Q z I (((1 : Int32) <<< (p2 &&& 31)) - 1) r1))
set_option maxRecDepth 20000 in
theorem cm_M_laysThrows {d : Nat} {I : am_TI} {L : am_TL} {R : am_TR}  (hw : am_Wf R)   {q : Nat} {p1 : Int32} {p2 : Int32} {Q : am_TI → Prop} (hd : 3 ≤ d) (hq : am_SH[q]? = some (.inl 12)) (h : wp_M_laysThrows I L R q p1 p2  Q) : am_Cm d 0 0 y_M_laysThrows b_M_laysThrows 9 (none) [.ref q, .int p1, .int p2] (I, L, R, am_SH) (po_M_laysThrows L R Q) := by
  refine am_Cm_of (ini := false) (by decide +kernel) (fun z => by cases z) (by simp [Value.category]) (fun r σ' z => by obtain ⟨_, rfl, -⟩ := z; rfl) ?_
  unfold wp_M_laysThrows at h
  show am_Wp (d, "UnseenRingModel", b_M_laysThrows, 9, false) 0 0 0 [some (.ref q), some (.int p1), some (.int p2), none, none, none, none, none, none] [] (I, L, R, am_SH) (po_M_laysThrows L R Q)
  refine am_iconst (n := 1) d_M_laysThrows_0 ci_1 rfl ?_
  refine am_iload_n (n := 2) d_M_laysThrows_1 rfl rfl ?_
  refine am_ishl (n := 3) d_M_laysThrows_2 rfl ?_
  refine am_iconst (n := 4) d_M_laysThrows_3 ci_1 rfl ?_
  refine am_isub (n := 5) d_M_laysThrows_4 rfl ?_
  refine am_istore_n (ls' := [some (.ref q), some (.int p1), some (.int p2), some (.int (((1 : Int32) <<< (p2 &&& 31)) - 1)), none, none, none, none, none]) (n := 6) d_M_laysThrows_5 (by decide) rfl rfl ?_
  refine am_aload_n (n := 7) d_M_laysThrows_6 rfl rfl ?_
  refine am_iconst (n := 8) d_M_laysThrows_7 ci_0 rfl ?_
  refine am_callV (kc := 0) (ks := 0) (As := [.int 0]) (n := 11) d_M_laysThrows_8 rfl ce_M_cellsOf lk_M_223 in_M_cellsOf rfl rfl hq rfl rfl (Nat.le_of_ble_eq_true rfl) (Or.inl rfl) (cm_M_cellsOf (d := d - 1) hw (by omega) hq h) (by omega) ?_
  rintro _ _ ⟨r1, rfl, rfl, h⟩
  show am_Wp (d, "UnseenRingModel", b_M_laysThrows, 9, false) 0 0 11 [some (.ref q), some (.int p1), some (.int p2), some (.int (((1 : Int32) <<< (p2 &&& 31)) - 1)), none, none, none, none, none] [.int r1] (I, L, R, am_SH) (po_M_laysThrows L R Q)
  refine am_istore (ls' := [some (.ref q), some (.int p1), some (.int p2), some (.int (((1 : Int32) <<< (p2 &&& 31)) - 1)), some (.int r1), none, none, none, none]) (n := 13) d_M_laysThrows_11 (by decide) rfl rfl ?_
  obtain ⟨n, h⟩ := h
  exact tl_M_laysThrows_13 hw hq hd n I (((1 : Int32) <<< (p2 &&& 31)) - 1) r1 h
abbrev po_M_wrongCells (I : am_TI) (L : am_TL) (R : am_TR) (Q : Int32 → Prop) : Option Value → am_St → Prop := fun r σ' => ∃ (x : Int32), r = some (.int x) ∧ σ' = (I, L, R, am_SH) ∧ Q x
def wl_M_wrongCells_47 (I : am_TI) (L : am_TL) (R : am_TR) (q : Nat) (p1 : Int32) (p2 : Int32) (Q : Int32 → Prop)  : Nat → Int32 → Prop
  | 0 => fun _ => False
  | f47 + 1 => fun v3 => ((p2 ≤ v3 → Q 0) ∧ (¬ p2 ≤ v3 → (vp_in ((60 * p1) + v3) 240 ∧ wp_M_cellsOf I L R q 0 (fun (r3 : Int32) => wp_M_isFrom I L R (L (q + 5) (Int32.toNatClampNeg ((60 * p1) + v3))) 0 ((Int32.toInt64 r3) - 1) (fun (r4 : Bool) => ((r4 = false → Q 5) ∧ (r4 = true → wl_M_wrongCells_47 I L R q p1 p2 Q f47 (v3 + 1))))))))
set_option maxRecDepth 20000 in
theorem tl_M_wrongCells_47 {d : Nat}  {I : am_TI} {L : am_TL} {R : am_TR} {q : Nat} {p1 : Int32} {p2 : Int32} {Q : Int32 → Prop}  (hw : am_Wf R) (hq : am_SH[q]? = some (.inl 12)) (hd : 1 ≤ d) : ∀ (n : Nat) (v3 : Int32), wl_M_wrongCells_47 I L R q p1 p2 Q  n v3 → am_Wp (d, "UnseenRingModel", b_M_wrongCells, 4, false) 0 0 47 [some (.ref q), some (.int p1), some (.int p2), some (.int v3)] [] (I, L, R, am_SH) (po_M_wrongCells I L R Q) := by
  intro n
  induction n with
  | zero => intro v3 h; exact h.elim
  | succ n ih =>
    intro v3 h
    unfold wl_M_wrongCells_47 at h
    refine am_iload_n (n := 48) d_M_wrongCells_47 rfl rfl ?_
    refine am_iload_n (n := 49) d_M_wrongCells_48 rfl rfl ?_
    refine am_icmp_ge (tgt := 86) (n := 52) d_M_wrongCells_49 rfl rfl (fun c5 => ?_) (fun c5 => ?_)
    · have h := h.1 c5
      refine am_iconst (n := 87) d_M_wrongCells_86 ci_0 rfl ?_
      exact am_iret d_M_wrongCells_87 ⟨0, rfl, rfl, h⟩
    · have h := h.2 c5
      refine am_aload_n (n := 53) d_M_wrongCells_52 rfl rfl ?_
      refine am_getR (x := (q + 5)) (n := 56) f_M_27 d_M_wrongCells_53 rfl rfl hq (hw.1 q 12 7 5 hq rfl) ?_
      refine am_bipush (n := 58) d_M_wrongCells_56 cb_60 rfl ?_
      refine am_iload_n (n := 59) d_M_wrongCells_58 rfl rfl ?_
      refine am_imul (n := 60) d_M_wrongCells_59 rfl ?_
      refine am_iload_n (n := 61) d_M_wrongCells_60 rfl rfl ?_
      refine am_iadd (n := 62) d_M_wrongCells_61 rfl ?_
      obtain ⟨g3, h⟩ := h
      refine am_lald2 (n := 63) d_M_wrongCells_62 rfl (am_sho (k := 7) (o := 5) hq (by decide) (by decide) (by decide) rfl) g3 rfl ?_
      refine am_lconst (v := 0) (n := 64) d_M_wrongCells_63 rfl rfl ?_
      refine am_aload_n (n := 65) d_M_wrongCells_64 rfl rfl ?_
      refine am_iconst (n := 66) d_M_wrongCells_65 ci_0 rfl ?_
      refine am_callV (kc := 0) (ks := 0) (As := [.int 0]) (n := 69) d_M_wrongCells_66 rfl ce_M_cellsOf lk_M_223 in_M_cellsOf rfl rfl hq rfl rfl (Nat.le_of_ble_eq_true rfl) (Or.inl rfl) (cm_M_cellsOf (d := d - 1) hw (by omega) hq h) (by omega) ?_
      rintro _ _ ⟨r3, rfl, rfl, h⟩
      show am_Wp (d, "UnseenRingModel", b_M_wrongCells, 4, false) 0 0 69 [some (.ref q), some (.int p1), some (.int p2), some (.int v3)] [.int r3, .long 0, .long (L (q + 5) (Int32.toNatClampNeg ((60 * p1) + v3)))] (I, L, R, am_SH) (po_M_wrongCells I L R Q)
      refine am_i2l (n := 70) d_M_wrongCells_69 rfl ?_
      refine am_lconst (v := 1) (n := 71) d_M_wrongCells_70 rfl rfl ?_
      refine am_lsub (n := 72) d_M_wrongCells_71 rfl ?_
      refine am_callS (kc := 0) (ks := 0) (As := [.long (L (q + 5) (Int32.toNatClampNeg ((60 * p1) + v3))), .long 0, .long ((Int32.toInt64 r3) - 1)]) (n := 75) d_M_wrongCells_72 rfl ce_M_isFrom lk_M_306 st_M_isFrom rfl rfl (Nat.le_of_ble_eq_true rfl) (Or.inl rfl) (cm_M_isFrom (d := d - 1) hw (by omega)  h) (by omega) ?_
      rintro _ _ ⟨r4, rfl, rfl, h⟩
      show am_Wp (d, "UnseenRingModel", b_M_wrongCells, 4, false) 0 0 75 [some (.ref q), some (.int p1), some (.int p2), some (.int v3)] [.int (am_b r4)] (I, L, R, am_SH) (po_M_wrongCells I L R Q)
      refine am_if_ne (y := 0) (tgt := 80) (n := 78) d_M_wrongCells_75 rfl rfl (fun c6 => ?_) (fun c6 => ?_)
      · have h := h.2 (am_b_n0 c6)
        refine am_iinc (v := v3 + 1) (ls' := [some (.ref q), some (.int p1), some (.int p2), some (.int (v3 + 1))]) (n := 83) d_M_wrongCells_80 rfl (congrArg _ ci_1) (by decide) rfl rfl ?_
        refine am_goto (tgt := 47) d_M_wrongCells_83 rfl ?_
        exact ih (v3 + 1)  h
      · have h := h.1 (am_b_0 c6)
        refine am_iconst (n := 79) d_M_wrongCells_78 ci_5 rfl ?_
        exact am_iret d_M_wrongCells_79 ⟨5, rfl, rfl, h⟩
def wp_M_wrongCells (I : am_TI) (L : am_TL) (R : am_TR) (q : Nat) (p1 : Int32) (p2 : Int32)  (Q : Int32 → Prop) : Prop := wp_M_isTray I L R p1 (fun (r1 : Bool) => ((r1 = false → Q 1) ∧ (r1 = true → wp_M_isFrom I L R (Int32.toInt64 p2) 0 8 (fun (r2 : Bool) => ((r2 = false → Q 1) ∧ (r2 = true → (vp_in p1 4 ∧ (((I (q + 4) (Int32.toNatClampNeg p1)) = (-1) → Q 2) ∧ (¬ (I (q + 4) (Int32.toNatClampNeg p1)) = (-1) → (vp_in p1 4 ∧ ((p2 ≤ (I (q + 4) (Int32.toNatClampNeg p1)) → (∃ z, wl_M_wrongCells_47 I L R q p1 p2 Q z 0)) ∧ (¬ p2 ≤ (I (q + 4) (Int32.toNatClampNeg p1)) → Q 3))))))))))))
set_option maxRecDepth 20000 in
theorem cm_M_wrongCells {d : Nat} {I : am_TI} {L : am_TL} {R : am_TR}  (hw : am_Wf R)   {q : Nat} {p1 : Int32} {p2 : Int32} {Q : Int32 → Prop} (hd : 1 ≤ d) (hq : am_SH[q]? = some (.inl 12)) (h : wp_M_wrongCells I L R q p1 p2  Q) : am_Cm d 0 0 y_M_wrongCells b_M_wrongCells 4 (some .int) [.ref q, .int p1, .int p2] (I, L, R, am_SH) (po_M_wrongCells I L R Q) := by
  refine am_Cm_of (ini := false) (by decide +kernel) (fun z => by cases z) (by simp [Value.category]) (fun r σ' z => by obtain ⟨x, rfl, -⟩ := z; exact ⟨_, rfl, rfl⟩) ?_
  unfold wp_M_wrongCells at h
  show am_Wp (d, "UnseenRingModel", b_M_wrongCells, 4, false) 0 0 0 [some (.ref q), some (.int p1), some (.int p2), none] [] (I, L, R, am_SH) (po_M_wrongCells I L R Q)
  refine am_iload_n (n := 1) d_M_wrongCells_0 rfl rfl ?_
  refine am_callS (kc := 0) (ks := 0) (As := [.int p1]) (n := 4) d_M_wrongCells_1 rfl ce_M_isTray lk_M_132 st_M_isTray rfl rfl (Nat.le_of_ble_eq_true rfl) (Or.inl rfl) (cm_M_isTray (d := d - 1) hw (by omega)  h) (by omega) ?_
  rintro _ _ ⟨r1, rfl, rfl, h⟩
  show am_Wp (d, "UnseenRingModel", b_M_wrongCells, 4, false) 0 0 4 [some (.ref q), some (.int p1), some (.int p2), none] [.int (am_b r1)] (I, L, R, am_SH) (po_M_wrongCells I L R Q)
  refine am_if_eq (y := 0) (tgt := 19) (n := 7) d_M_wrongCells_4 rfl rfl (fun c1 => ?_) (fun c1 => ?_)
  · have h := h.1 (am_b_0 c1)
    refine am_iconst (n := 20) d_M_wrongCells_19 ci_1 rfl ?_
    exact am_iret d_M_wrongCells_20 ⟨1, rfl, rfl, h⟩
  · have h := h.2 (am_b_n0 c1)
    refine am_iload_n (n := 8) d_M_wrongCells_7 rfl rfl ?_
    refine am_i2l (n := 9) d_M_wrongCells_8 rfl ?_
    refine am_lconst (v := 0) (n := 10) d_M_wrongCells_9 rfl rfl ?_
    refine am_ldc2 (n := 13) d_M_wrongCells_10 k_M_431 rfl ?_
    refine am_callS (kc := 0) (ks := 0) (As := [.long (Int32.toInt64 p2), .long 0, .long 8]) (n := 16) d_M_wrongCells_13 rfl ce_M_isFrom lk_M_306 st_M_isFrom rfl rfl (Nat.le_of_ble_eq_true rfl) (Or.inl rfl) (cm_M_isFrom (d := d - 1) hw (by omega)  h) (by omega) ?_
    rintro _ _ ⟨r2, rfl, rfl, h⟩
    show am_Wp (d, "UnseenRingModel", b_M_wrongCells, 4, false) 0 0 16 [some (.ref q), some (.int p1), some (.int p2), none] [.int (am_b r2)] (I, L, R, am_SH) (po_M_wrongCells I L R Q)
    refine am_if_ne (y := 0) (tgt := 21) (n := 19) d_M_wrongCells_16 rfl rfl (fun c2 => ?_) (fun c2 => ?_)
    · have h := h.2 (am_b_n0 c2)
      refine am_aload_n (n := 22) d_M_wrongCells_21 rfl rfl ?_
      refine am_getR (x := (q + 4)) (n := 25) f_M_24 d_M_wrongCells_22 rfl rfl hq (hw.1 q 12 6 4 hq rfl) ?_
      refine am_iload_n (n := 26) d_M_wrongCells_25 rfl rfl ?_
      obtain ⟨g1, h⟩ := h
      refine am_iald2 (n := 27) d_M_wrongCells_26 rfl (am_sho (k := 6) (o := 4) hq (by decide) (by decide) (by decide) rfl) g1 rfl ?_
      refine am_iconst (n := 28) d_M_wrongCells_27 ci_m1 rfl ?_
      refine am_icmp_ne (tgt := 33) (n := 31) d_M_wrongCells_28 rfl rfl (fun c3 => ?_) (fun c3 => ?_)
      · have h := h.2 c3
        refine am_aload_n (n := 34) d_M_wrongCells_33 rfl rfl ?_
        refine am_getR (x := (q + 4)) (n := 37) f_M_24 d_M_wrongCells_34 rfl rfl hq (hw.1 q 12 6 4 hq rfl) ?_
        refine am_iload_n (n := 38) d_M_wrongCells_37 rfl rfl ?_
        obtain ⟨g2, h⟩ := h
        refine am_iald2 (n := 39) d_M_wrongCells_38 rfl (am_sho (k := 6) (o := 4) hq (by decide) (by decide) (by decide) rfl) g2 rfl ?_
        refine am_iload_n (n := 40) d_M_wrongCells_39 rfl rfl ?_
        refine am_icmp_ge (tgt := 45) (n := 43) d_M_wrongCells_40 rfl rfl (fun c4 => ?_) (fun c4 => ?_)
        · have h := h.1 c4
          refine am_iconst (n := 46) d_M_wrongCells_45 ci_0 rfl ?_
          refine am_istore_n (ls' := [some (.ref q), some (.int p1), some (.int p2), some (.int 0)]) (n := 47) d_M_wrongCells_46 (by decide) rfl rfl ?_
          obtain ⟨n, h⟩ := h
          exact tl_M_wrongCells_47 hw hq hd n 0 h
        · have h := h.2 c4
          refine am_iconst (n := 44) d_M_wrongCells_43 ci_3 rfl ?_
          exact am_iret d_M_wrongCells_44 ⟨3, rfl, rfl, h⟩
      · have h := h.1 c3
        refine am_iconst (n := 32) d_M_wrongCells_31 ci_2 rfl ?_
        exact am_iret d_M_wrongCells_32 ⟨2, rfl, rfl, h⟩
    · have h := h.1 (am_b_0 c2)
      refine am_iconst (n := 20) d_M_wrongCells_19 ci_1 rfl ?_
      exact am_iret d_M_wrongCells_20 ⟨1, rfl, rfl, h⟩
abbrev po_M_cover (L : am_TL) (R : am_TR) (Q : Int32 → am_TI → Prop) : Option Value → am_St → Prop := fun r σ' => ∃ (x : Int32) (I' : am_TI), r = some (.int x) ∧ σ' = (I', L, R, am_SH) ∧ Q x I'
def wp_M_cover (I : am_TI) (L : am_TL) (R : am_TR) (q : Nat) (p1 : Int32) (p2 : Int32)  (Q : Int32 → am_TI → Prop) : Prop := wp_M_wrongCells I L R q p1 p2 (fun (r1 : Int32) => ((r1 ≤ 0 → wp_M_laysThrows I L R q p1 p2 (fun (I1 : am_TI) => wp_M_gives I1 L R q (I1 (q + 17) 0) (fun (r2 : Int32) (I2 : am_TI) => Q r2 I2))) ∧ (¬ r1 ≤ 0 → wp_M_refuse I L R q r1 (fun (r3 : Int32) (I3 : am_TI) => Q r3 I3))))
set_option maxRecDepth 20000 in
theorem cm_M_cover {d : Nat} {I : am_TI} {L : am_TL} {R : am_TR}  (hw : am_Wf R)   {q : Nat} {p1 : Int32} {p2 : Int32} {Q : Int32 → am_TI → Prop} (hd : 4 ≤ d) (hq : am_SH[q]? = some (.inl 12)) (h : wp_M_cover I L R q p1 p2  Q) : am_Cm d 0 0 y_M_cover b_M_cover 4 (some .int) [.ref q, .int p1, .int p2] (I, L, R, am_SH) (po_M_cover L R Q) := by
  refine am_Cm_of (ini := false) (by decide +kernel) (fun z => by cases z) (by simp [Value.category]) (fun r σ' z => by obtain ⟨x, _, rfl, -⟩ := z; exact ⟨_, rfl, rfl⟩) ?_
  unfold wp_M_cover at h
  show am_Wp (d, "UnseenRingModel", b_M_cover, 4, false) 0 0 0 [some (.ref q), some (.int p1), some (.int p2), none] [] (I, L, R, am_SH) (po_M_cover L R Q)
  refine am_aload_n (n := 1) d_M_cover_0 rfl rfl ?_
  refine am_iload_n (n := 2) d_M_cover_1 rfl rfl ?_
  refine am_iload_n (n := 3) d_M_cover_2 rfl rfl ?_
  refine am_callV (kc := 0) (ks := 0) (As := [.int p1, .int p2]) (n := 6) d_M_cover_3 rfl ce_M_wrongCells lk_M_436 in_M_wrongCells rfl rfl hq rfl rfl (Nat.le_of_ble_eq_true rfl) (Or.inl rfl) (cm_M_wrongCells (d := d - 1) hw (by omega) hq h) (by omega) ?_
  rintro _ _ ⟨r1, rfl, rfl, h⟩
  show am_Wp (d, "UnseenRingModel", b_M_cover, 4, false) 0 0 6 [some (.ref q), some (.int p1), some (.int p2), none] [.int r1] (I, L, R, am_SH) (po_M_cover L R Q)
  refine am_istore_n (ls' := [some (.ref q), some (.int p1), some (.int p2), some (.int r1)]) (n := 7) d_M_cover_6 (by decide) rfl rfl ?_
  refine am_iload_n (n := 8) d_M_cover_7 rfl rfl ?_
  refine am_if_le (y := 0) (tgt := 17) (n := 11) d_M_cover_8 rfl rfl (fun c1 => ?_) (fun c1 => ?_)
  · have h := h.1 c1
    refine am_aload_n (n := 18) d_M_cover_17 rfl rfl ?_
    refine am_iload_n (n := 19) d_M_cover_18 rfl rfl ?_
    refine am_iload_n (n := 20) d_M_cover_19 rfl rfl ?_
    refine am_callV (kc := 0) (ks := 0) (As := [.int p1, .int p2]) (n := 23) d_M_cover_20 rfl ce_M_laysThrows lk_M_439 in_M_laysThrows rfl rfl hq rfl rfl (Nat.le_of_ble_eq_true rfl) (Or.inl rfl) (cm_M_laysThrows (d := d - 1) hw (by omega) hq h) (by omega) ?_
    rintro _ _ ⟨I1, rfl, rfl, h⟩
    show am_Wp (d, "UnseenRingModel", b_M_cover, 4, false) 0 0 23 [some (.ref q), some (.int p1), some (.int p2), some (.int r1)] [] (I1, L, R, am_SH) (po_M_cover L R Q)
    refine am_aload_n (n := 24) d_M_cover_23 rfl rfl ?_
    refine am_aload_n (n := 25) d_M_cover_24 rfl rfl ?_
    refine am_getR (x := (q + 17)) (n := 28) f_M_71 d_M_cover_25 rfl rfl hq (hw.1 q 12 34 17 hq rfl) ?_
    refine am_iconst (n := 29) d_M_cover_28 ci_0 rfl ?_
    refine am_iald2 (n := 30) d_M_cover_29 rfl (am_sho (k := 34) (o := 17) hq (by decide) (by decide) (by decide) rfl) cx_0_6656 cn_0 ?_
    refine am_callV (kc := 0) (ks := 0) (As := [.int (I1 (q + 17) 0)]) (n := 33) d_M_cover_30 rfl ce_M_gives lk_M_125 in_M_gives rfl rfl hq rfl rfl (Nat.le_of_ble_eq_true rfl) (Or.inl rfl) (cm_M_gives (d := d - 1) hw (by omega) hq h) (by omega) ?_
    rintro _ _ ⟨r2, I2, rfl, rfl, h⟩
    show am_Wp (d, "UnseenRingModel", b_M_cover, 4, false) 0 0 33 [some (.ref q), some (.int p1), some (.int p2), some (.int r1)] [.int r2] (I2, L, R, am_SH) (po_M_cover L R Q)
    exact am_iret d_M_cover_33 ⟨r2, I2, rfl, rfl, h⟩
  · have h := h.2 c1
    refine am_aload_n (n := 12) d_M_cover_11 rfl rfl ?_
    refine am_iload_n (n := 13) d_M_cover_12 rfl rfl ?_
    refine am_callV (kc := 0) (ks := 0) (As := [.int r1]) (n := 16) d_M_cover_13 rfl ce_M_refuse lk_M_121 in_M_refuse rfl rfl hq rfl rfl (Nat.le_of_ble_eq_true rfl) (Or.inl rfl) (cm_M_refuse (d := d - 1) hw (by omega) hq h) (by omega) ?_
    rintro _ _ ⟨r3, I3, rfl, rfl, h⟩
    show am_Wp (d, "UnseenRingModel", b_M_cover, 4, false) 0 0 16 [some (.ref q), some (.int p1), some (.int p2), some (.int r1)] [.int r3] (I3, L, R, am_SH) (po_M_cover L R Q)
    exact am_iret d_M_cover_16 ⟨r3, I3, rfl, rfl, h⟩
