abbrev po_M_holds (I : am_TI) (L : am_TL) (R : am_TR) (Q : Bool → Prop) : Option Value → am_St → Prop := fun r σ' => ∃ (x : Bool), r = some (.int (am_b x)) ∧ σ' = (I, L, R, am_SH) ∧ Q x
def wb_M_holds_79 (I : am_TI) (L : am_TL) (R : am_TR) (q : Nat) (p1 : Int32) (Q : Bool → Prop)  (s0 : Int32) : Prop := (vp_in (p1 + 5) 2258 ∧ (((I (q + 1) (Int32.toNatClampNeg (p1 + 5))) = 60 → (vp_in (p1 + 2) 2258 ∧ (((I (q + 1) (Int32.toNatClampNeg (p1 + 2))) ≤ s0 → Q false) ∧ (¬ (I (q + 1) (Int32.toNatClampNeg (p1 + 2))) ≤ s0 → Q true)))) ∧ (¬ (I (q + 1) (Int32.toNatClampNeg (p1 + 5))) = 60 → (vp_in (p1 + 5) 2258 ∧ (((I (q + 1) (Int32.toNatClampNeg (p1 + 5))) = 62 → (vp_in (p1 + 2) 2258 ∧ ((s0 ≤ (I (q + 1) (Int32.toNatClampNeg (p1 + 2))) → Q false) ∧ (¬ s0 ≤ (I (q + 1) (Int32.toNatClampNeg (p1 + 2))) → Q true)))) ∧ (¬ (I (q + 1) (Int32.toNatClampNeg (p1 + 5))) = 62 → (vp_in (p1 + 2) 2258 ∧ ((s0 = (I (q + 1) (Int32.toNatClampNeg (p1 + 2))) → Q true) ∧ (¬ s0 = (I (q + 1) (Int32.toNatClampNeg (p1 + 2))) → Q false)))))))))
set_option maxRecDepth 20000 in
theorem tb_M_holds_79 {d : Nat}  {I : am_TI} {L : am_TL} {R : am_TR} {q : Nat} {p1 : Int32} {Q : Bool → Prop}  (hw : am_Wf R) (hq : am_SH[q]? = some (.inl 12)) (hd : 4 ≤ d) (s0 : Int32) (h : wb_M_holds_79 I L R q p1 Q  s0) : am_Wp (d, "UnseenRingModel", b_M_holds, 5, false) 0 0 79 [some (.ref q), some (.int p1), none, none, none] [.int s0] (I, L, R, am_SH) (po_M_holds I L R Q) := by
  unfold wb_M_holds_79 at h
  refine am_istore (ls' := [some (.ref q), some (.int p1), none, none, some (.int s0)]) (n := 81) d_M_holds_79 (by decide) rfl rfl ?_
  refine am_aload_n (n := 82) d_M_holds_81 rfl rfl ?_
  refine am_getR (x := (q + 1)) (n := 85) f_M_7 d_M_holds_82 rfl rfl hq (hw.1 q 12 0 1 hq rfl) ?_
  refine am_iload_n (n := 86) d_M_holds_85 rfl rfl ?_
  refine am_iconst (n := 87) d_M_holds_86 ci_5 rfl ?_
  refine am_iadd (n := 88) d_M_holds_87 rfl ?_
  obtain ⟨g3, h⟩ := h
  refine am_iald2 (n := 89) d_M_holds_88 rfl (am_sho (k := 0) (o := 1) hq (by decide) (by decide) (by decide) rfl) g3 rfl ?_
  refine am_bipush (n := 91) d_M_holds_89 cb_60 rfl ?_
  refine am_icmp_ne (tgt := 115) (n := 94) d_M_holds_91 rfl rfl (fun c4 => ?_) (fun c4 => ?_)
  · have h := h.2 c4
    refine am_aload_n (n := 116) d_M_holds_115 rfl rfl ?_
    refine am_getR (x := (q + 1)) (n := 119) f_M_7 d_M_holds_116 rfl rfl hq (hw.1 q 12 0 1 hq rfl) ?_
    refine am_iload_n (n := 120) d_M_holds_119 rfl rfl ?_
    refine am_iconst (n := 121) d_M_holds_120 ci_5 rfl ?_
    refine am_iadd (n := 122) d_M_holds_121 rfl ?_
    obtain ⟨g4, h⟩ := h
    refine am_iald2 (n := 123) d_M_holds_122 rfl (am_sho (k := 0) (o := 1) hq (by decide) (by decide) (by decide) rfl) g4 rfl ?_
    refine am_bipush (n := 125) d_M_holds_123 cb_62 rfl ?_
    refine am_icmp_ne (tgt := 149) (n := 128) d_M_holds_125 rfl rfl (fun c5 => ?_) (fun c5 => ?_)
    · have h := h.2 c5
      refine am_iload (n := 151) d_M_holds_149 rfl rfl ?_
      refine am_aload_n (n := 152) d_M_holds_151 rfl rfl ?_
      refine am_getR (x := (q + 1)) (n := 155) f_M_7 d_M_holds_152 rfl rfl hq (hw.1 q 12 0 1 hq rfl) ?_
      refine am_iload_n (n := 156) d_M_holds_155 rfl rfl ?_
      refine am_iconst (n := 157) d_M_holds_156 ci_2 rfl ?_
      refine am_iadd (n := 158) d_M_holds_157 rfl ?_
      obtain ⟨g5, h⟩ := h
      refine am_iald2 (n := 159) d_M_holds_158 rfl (am_sho (k := 0) (o := 1) hq (by decide) (by decide) (by decide) rfl) g5 rfl ?_
      refine am_icmp_ne (tgt := 166) (n := 162) d_M_holds_159 rfl rfl (fun c6 => ?_) (fun c6 => ?_)
      · have h := h.2 c6
        refine am_iconst (n := 167) d_M_holds_166 ci_0 rfl ?_
        exact am_iret d_M_holds_167 ⟨false, rfl, rfl, h⟩
      · have h := h.1 c6
        refine am_iconst (n := 163) d_M_holds_162 ci_1 rfl ?_
        refine am_goto (tgt := 167) d_M_holds_163 rfl ?_
        exact am_iret d_M_holds_167 ⟨true, rfl, rfl, h⟩
    · have h := h.1 c5
      refine am_iload (n := 130) d_M_holds_128 rfl rfl ?_
      refine am_aload_n (n := 131) d_M_holds_130 rfl rfl ?_
      refine am_getR (x := (q + 1)) (n := 134) f_M_7 d_M_holds_131 rfl rfl hq (hw.1 q 12 0 1 hq rfl) ?_
      refine am_iload_n (n := 135) d_M_holds_134 rfl rfl ?_
      refine am_iconst (n := 136) d_M_holds_135 ci_2 rfl ?_
      refine am_iadd (n := 137) d_M_holds_136 rfl ?_
      obtain ⟨g6, h⟩ := h
      refine am_iald2 (n := 138) d_M_holds_137 rfl (am_sho (k := 0) (o := 1) hq (by decide) (by decide) (by decide) rfl) g6 rfl ?_
      refine am_icmp_le (tgt := 145) (n := 141) d_M_holds_138 rfl rfl (fun c7 => ?_) (fun c7 => ?_)
      · have h := h.1 c7
        refine am_iconst (n := 146) d_M_holds_145 ci_0 rfl ?_
        refine am_goto (tgt := 167) d_M_holds_146 rfl ?_
        exact am_iret d_M_holds_167 ⟨false, rfl, rfl, h⟩
      · have h := h.2 c7
        refine am_iconst (n := 142) d_M_holds_141 ci_1 rfl ?_
        refine am_goto (tgt := 167) d_M_holds_142 rfl ?_
        exact am_iret d_M_holds_167 ⟨true, rfl, rfl, h⟩
  · have h := h.1 c4
    refine am_iload (n := 96) d_M_holds_94 rfl rfl ?_
    refine am_aload_n (n := 97) d_M_holds_96 rfl rfl ?_
    refine am_getR (x := (q + 1)) (n := 100) f_M_7 d_M_holds_97 rfl rfl hq (hw.1 q 12 0 1 hq rfl) ?_
    refine am_iload_n (n := 101) d_M_holds_100 rfl rfl ?_
    refine am_iconst (n := 102) d_M_holds_101 ci_2 rfl ?_
    refine am_iadd (n := 103) d_M_holds_102 rfl ?_
    obtain ⟨g7, h⟩ := h
    refine am_iald2 (n := 104) d_M_holds_103 rfl (am_sho (k := 0) (o := 1) hq (by decide) (by decide) (by decide) rfl) g7 rfl ?_
    refine am_icmp_ge (tgt := 111) (n := 107) d_M_holds_104 rfl rfl (fun c8 => ?_) (fun c8 => ?_)
    · have h := h.1 c8
      refine am_iconst (n := 112) d_M_holds_111 ci_0 rfl ?_
      refine am_goto (tgt := 167) d_M_holds_112 rfl ?_
      exact am_iret d_M_holds_167 ⟨false, rfl, rfl, h⟩
    · have h := h.2 c8
      refine am_iconst (n := 108) d_M_holds_107 ci_1 rfl ?_
      refine am_goto (tgt := 167) d_M_holds_108 rfl ?_
      exact am_iret d_M_holds_167 ⟨true, rfl, rfl, h⟩
def wp_M_holds (I : am_TI) (L : am_TL) (R : am_TR) (q : Nat) (p1 : Int32)  (Q : Bool → Prop) : Prop := (vp_in p1 2258 ∧ (vp_in (p1 + 1) 2258 ∧ ((((I (q + 1) (Int32.toNatClampNeg p1)) - 1700) = 21 → wp_M_dogsUp I L R q (fun (r3 : Int32) => wp_M_isIn I L R q r3 (I (q + 1) (Int32.toNatClampNeg (p1 + 1))) (fun (r4 : Bool) => Q r4))) ∧ (¬ ((I (q + 1) (Int32.toNatClampNeg p1)) - 1700) = 21 → ((((I (q + 1) (Int32.toNatClampNeg p1)) - 1700) = 22 → wp_M_hearerOf I L R q (I (q + 1) (Int32.toNatClampNeg (p1 + 1))) 3 (fun (r2 : Int32) => ((r2 = 1 → Q true) ∧ (¬ r2 = 1 → Q false)))) ∧ (¬ ((I (q + 1) (Int32.toNatClampNeg p1)) - 1700) = 22 → ((((I (q + 1) (Int32.toNatClampNeg p1)) - 1700) = 23 → wb_M_holds_79 I L R q p1 Q (I (q + 1) 8)) ∧ (¬ ((I (q + 1) (Int32.toNatClampNeg p1)) - 1700) = 23 → wp_M_farOf I L R q (I (q + 1) (Int32.toNatClampNeg (p1 + 1))) (fun (r1 : Int32) => wb_M_holds_79 I L R q p1 Q r1)))))))))
set_option maxRecDepth 20000 in
theorem cm_M_holds {d : Nat} {I : am_TI} {L : am_TL} {R : am_TR}  (hw : am_Wf R)   {q : Nat} {p1 : Int32} {Q : Bool → Prop} (hd : 4 ≤ d) (hq : am_SH[q]? = some (.inl 12)) (h : wp_M_holds I L R q p1  Q) : am_Cm d 0 0 y_M_holds b_M_holds 5 (some .boolean) [.ref q, .int p1] (I, L, R, am_SH) (po_M_holds I L R Q) := by
  refine am_Cm_of (ini := false) (by decide +kernel) (fun z => by cases z) (by simp [Value.category]) (fun r σ' z => by obtain ⟨x, rfl, -⟩ := z; exact ⟨_, rfl, am_b_nar x⟩) ?_
  unfold wp_M_holds at h
  show am_Wp (d, "UnseenRingModel", b_M_holds, 5, false) 0 0 0 [some (.ref q), some (.int p1), none, none, none] [] (I, L, R, am_SH) (po_M_holds I L R Q)
  refine am_aload_n (n := 1) d_M_holds_0 rfl rfl ?_
  refine am_getR (x := (q + 1)) (n := 4) f_M_7 d_M_holds_1 rfl rfl hq (hw.1 q 12 0 1 hq rfl) ?_
  refine am_iload_n (n := 5) d_M_holds_4 rfl rfl ?_
  obtain ⟨g1, h⟩ := h
  refine am_iald2 (n := 6) d_M_holds_5 rfl (am_sho (k := 0) (o := 1) hq (by decide) (by decide) (by decide) rfl) g1 rfl ?_
  refine am_sipush (n := 9) d_M_holds_6 cs_1700 rfl ?_
  refine am_isub (n := 10) d_M_holds_9 rfl ?_
  refine am_istore_n (ls' := [some (.ref q), some (.int p1), some (.int ((I (q + 1) (Int32.toNatClampNeg p1)) - 1700)), none, none]) (n := 11) d_M_holds_10 (by decide) rfl rfl ?_
  refine am_aload_n (n := 12) d_M_holds_11 rfl rfl ?_
  refine am_getR (x := (q + 1)) (n := 15) f_M_7 d_M_holds_12 rfl rfl hq (hw.1 q 12 0 1 hq rfl) ?_
  refine am_iload_n (n := 16) d_M_holds_15 rfl rfl ?_
  refine am_iconst (n := 17) d_M_holds_16 ci_1 rfl ?_
  refine am_iadd (n := 18) d_M_holds_17 rfl ?_
  obtain ⟨g2, h⟩ := h
  refine am_iald2 (n := 19) d_M_holds_18 rfl (am_sho (k := 0) (o := 1) hq (by decide) (by decide) (by decide) rfl) g2 rfl ?_
  refine am_istore_n (ls' := [some (.ref q), some (.int p1), some (.int ((I (q + 1) (Int32.toNatClampNeg p1)) - 1700)), some (.int (I (q + 1) (Int32.toNatClampNeg (p1 + 1)))), none]) (n := 20) d_M_holds_19 (by decide) rfl rfl ?_
  refine am_iload_n (n := 21) d_M_holds_20 rfl rfl ?_
  refine am_bipush (n := 23) d_M_holds_21 cb_21 rfl ?_
  refine am_icmp_ne (tgt := 36) (n := 26) d_M_holds_23 rfl rfl (fun c1 => ?_) (fun c1 => ?_)
  · have h := h.2 c1
    refine am_iload_n (n := 37) d_M_holds_36 rfl rfl ?_
    refine am_bipush (n := 39) d_M_holds_37 cb_22 rfl ?_
    refine am_icmp_ne (tgt := 58) (n := 42) d_M_holds_39 rfl rfl (fun c2 => ?_) (fun c2 => ?_)
    · have h := h.2 c2
      refine am_iload_n (n := 59) d_M_holds_58 rfl rfl ?_
      refine am_bipush (n := 61) d_M_holds_59 cb_23 rfl ?_
      refine am_icmp_ne (tgt := 74) (n := 64) d_M_holds_61 rfl rfl (fun c3 => ?_) (fun c3 => ?_)
      · have h := h.2 c3
        refine am_aload_n (n := 75) d_M_holds_74 rfl rfl ?_
        refine am_iload_n (n := 76) d_M_holds_75 rfl rfl ?_
        refine am_callV (kc := 0) (ks := 0) (As := [.int (I (q + 1) (Int32.toNatClampNeg (p1 + 1)))]) (n := 79) d_M_holds_76 rfl ce_M_farOf lk_M_331 in_M_farOf rfl rfl hq rfl rfl (Nat.le_of_ble_eq_true rfl) (Or.inl rfl) (cm_M_farOf (d := d - 1) hw (by omega) hq h) (by omega) ?_
        rintro _ _ ⟨r1, rfl, rfl, h⟩
        show am_Wp (d, "UnseenRingModel", b_M_holds, 5, false) 0 0 79 [some (.ref q), some (.int p1), some (.int ((I (q + 1) (Int32.toNatClampNeg p1)) - 1700)), some (.int (I (q + 1) (Int32.toNatClampNeg (p1 + 1)))), none] [.int r1] (I, L, R, am_SH) (po_M_holds I L R Q)
        refine am_forget (ls' := [some (.ref q), some (.int p1), none, none, none]) (am_le_s (am_le_s (am_le_n (am_le_n (am_le_n am_le_e))))) ?_
        exact tb_M_holds_79 hw hq hd r1 h
      · have h := h.1 c3
        refine am_aload_n (n := 65) d_M_holds_64 rfl rfl ?_
        refine am_getR (x := (q + 1)) (n := 68) f_M_7 d_M_holds_65 rfl rfl hq (hw.1 q 12 0 1 hq rfl) ?_
        refine am_bipush (n := 70) d_M_holds_68 cb_8 rfl ?_
        refine am_iald2 (n := 71) d_M_holds_70 rfl (am_sho (k := 0) (o := 1) hq (by decide) (by decide) (by decide) rfl) cx_8_2258 cn_8 ?_
        refine am_goto (tgt := 79) d_M_holds_71 rfl ?_
        refine am_forget (ls' := [some (.ref q), some (.int p1), none, none, none]) (am_le_s (am_le_s (am_le_n (am_le_n (am_le_n am_le_e))))) ?_
        exact tb_M_holds_79 hw hq hd (I (q + 1) 8) h
    · have h := h.1 c2
      refine am_aload_n (n := 43) d_M_holds_42 rfl rfl ?_
      refine am_iload_n (n := 44) d_M_holds_43 rfl rfl ?_
      refine am_iconst (n := 45) d_M_holds_44 ci_3 rfl ?_
      refine am_callV (kc := 0) (ks := 0) (As := [.int (I (q + 1) (Int32.toNatClampNeg (p1 + 1))), .int 3]) (n := 48) d_M_holds_45 rfl ce_M_hearerOf lk_M_313 in_M_hearerOf rfl rfl hq rfl rfl (Nat.le_of_ble_eq_true rfl) (Or.inl rfl) (cm_M_hearerOf (d := d - 1) hw (by omega) hq h) (by omega) ?_
      rintro _ _ ⟨r2, rfl, rfl, h⟩
      show am_Wp (d, "UnseenRingModel", b_M_holds, 5, false) 0 0 48 [some (.ref q), some (.int p1), some (.int ((I (q + 1) (Int32.toNatClampNeg p1)) - 1700)), some (.int (I (q + 1) (Int32.toNatClampNeg (p1 + 1)))), none] [.int r2] (I, L, R, am_SH) (po_M_holds I L R Q)
      refine am_iconst (n := 49) d_M_holds_48 ci_1 rfl ?_
      refine am_icmp_ne (tgt := 56) (n := 52) d_M_holds_49 rfl rfl (fun c9 => ?_) (fun c9 => ?_)
      · have h := h.2 c9
        refine am_iconst (n := 57) d_M_holds_56 ci_0 rfl ?_
        exact am_iret d_M_holds_57 ⟨false, rfl, rfl, h⟩
      · have h := h.1 c9
        refine am_iconst (n := 53) d_M_holds_52 ci_1 rfl ?_
        refine am_goto (tgt := 57) d_M_holds_53 rfl ?_
        exact am_iret d_M_holds_57 ⟨true, rfl, rfl, h⟩
  · have h := h.1 c1
    refine am_aload_n (n := 27) d_M_holds_26 rfl rfl ?_
    refine am_aload_n (n := 28) d_M_holds_27 rfl rfl ?_
    refine am_callV (kc := 0) (ks := 0) (As := []) (n := 31) d_M_holds_28 rfl ce_M_dogsUp lk_M_325 in_M_dogsUp rfl rfl hq rfl rfl (Nat.le_of_ble_eq_true rfl) (Or.inl rfl) (cm_M_dogsUp (d := d - 1) hw (by omega) hq h) (by omega) ?_
    rintro _ _ ⟨r3, rfl, rfl, h⟩
    show am_Wp (d, "UnseenRingModel", b_M_holds, 5, false) 0 0 31 [some (.ref q), some (.int p1), some (.int ((I (q + 1) (Int32.toNatClampNeg p1)) - 1700)), some (.int (I (q + 1) (Int32.toNatClampNeg (p1 + 1)))), none] [.int r3, .ref q] (I, L, R, am_SH) (po_M_holds I L R Q)
    refine am_iload_n (n := 32) d_M_holds_31 rfl rfl ?_
    refine am_callV (kc := 0) (ks := 0) (As := [.int r3, .int (I (q + 1) (Int32.toNatClampNeg (p1 + 1)))]) (n := 35) d_M_holds_32 rfl ce_M_isIn lk_M_251 in_M_isIn rfl rfl hq rfl rfl (Nat.le_of_ble_eq_true rfl) (Or.inl rfl) (cm_M_isIn (d := d - 1) hw (by omega) hq h) (by omega) ?_
    rintro _ _ ⟨r4, rfl, rfl, h⟩
    show am_Wp (d, "UnseenRingModel", b_M_holds, 5, false) 0 0 35 [some (.ref q), some (.int p1), some (.int ((I (q + 1) (Int32.toNatClampNeg p1)) - 1700)), some (.int (I (q + 1) (Int32.toNatClampNeg (p1 + 1)))), none] [.int (am_b r4)] (I, L, R, am_SH) (po_M_holds I L R Q)
    exact am_iret d_M_holds_35 ⟨r4, rfl, rfl, h⟩
abbrev po_M_lives (L : am_TL) (R : am_TR) (Q : am_TI → Prop) : Option Value → am_St → Prop := fun r σ' => ∃ (I' : am_TI), r = none ∧ σ' = (I', L, R, am_SH) ∧ Q I'
def wb_M_lives_177 (L : am_TL) (R : am_TR) (q : Nat) (p1 : Int32) (Q : am_TI → Prop) (K32 : am_TI → Int32 → Prop) (I : am_TI) (s0 : Nat) (s1 : Int32) : Prop := wp_M_behindEnds I L R s0 s1 (fun (r2 : Int32) (I6 : am_TI) => K32 I6 r2)
set_option maxRecDepth 20000 in
theorem tb_M_lives_177 {d : Nat}  {L : am_TL} {R : am_TR} {q : Nat} {p1 : Int32} {Q : am_TI → Prop} {K32 : am_TI → Int32 → Prop} (hw : am_Wf R) (hq : am_SH[q]? = some (.inl 12)) (hK32 : ∀ (I : am_TI) (v2 : Int32), K32 I v2 → am_Wp (d, "UnseenRingModel", b_M_lives, 4, false) 0 0 32 [some (.ref q), some (.int p1), some (.int v2), none] [] (I, L, R, am_SH) (po_M_lives L R Q)) (hd : 7 ≤ d) (I : am_TI) (s0 : Nat) (s1 : Int32) (hs0 : am_SH[s0]? = some (.inl 12)) (h : wb_M_lives_177 L R q p1 Q K32 I s0 s1) : am_Wp (d, "UnseenRingModel", b_M_lives, 4, false) 0 0 177 [some (.ref q), some (.int p1), none, none] [.int s1, .ref s0] (I, L, R, am_SH) (po_M_lives L R Q) := by
  unfold wb_M_lives_177 at h
  refine am_callV (kc := 0) (ks := 0) (As := [.int s1]) (n := 180) d_M_lives_177 rfl ce_M_behindEnds lk_M_507 in_M_behindEnds rfl rfl hs0 rfl rfl (Nat.le_of_ble_eq_true rfl) (Or.inl rfl) (cm_M_behindEnds (d := d - 1) hw (by omega) hs0 h) (by omega) ?_
  rintro _ _ ⟨r2, I6, rfl, rfl, h⟩
  show am_Wp (d, "UnseenRingModel", b_M_lives, 4, false) 0 0 180 [some (.ref q), some (.int p1), none, none] [.int r2] (I6, L, R, am_SH) (po_M_lives L R Q)
  refine am_istore_n (ls' := [some (.ref q), some (.int p1), some (.int r2), none]) (n := 181) d_M_lives_180 (by decide) rfl rfl ?_
  refine am_goto (tgt := 32) d_M_lives_181 rfl ?_
  exact hK32 I6 r2  h
def wb_M_lives_174 (L : am_TL) (R : am_TR) (q : Nat) (p1 : Int32) (Q : am_TI → Prop) (K32 : am_TI → Int32 → Prop) (I : am_TI) (v2 : Int32) (s0 : Nat) : Prop := wb_M_lives_177 L R q p1 Q K32 I s0 (v2 + 1)
set_option maxRecDepth 20000 in
theorem tb_M_lives_174 {d : Nat}  {L : am_TL} {R : am_TR} {q : Nat} {p1 : Int32} {Q : am_TI → Prop} {K32 : am_TI → Int32 → Prop} (hw : am_Wf R) (hq : am_SH[q]? = some (.inl 12)) (hK32 : ∀ (I : am_TI) (v2 : Int32), K32 I v2 → am_Wp (d, "UnseenRingModel", b_M_lives, 4, false) 0 0 32 [some (.ref q), some (.int p1), some (.int v2), none] [] (I, L, R, am_SH) (po_M_lives L R Q)) (hd : 7 ≤ d) (I : am_TI) (v2 : Int32) (s0 : Nat) (hs0 : am_SH[s0]? = some (.inl 12)) (h : wb_M_lives_174 L R q p1 Q K32 I v2 s0) : am_Wp (d, "UnseenRingModel", b_M_lives, 4, false) 0 0 174 [some (.ref q), some (.int p1), some (.int v2), none] [.ref s0] (I, L, R, am_SH) (po_M_lives L R Q) := by
  unfold wb_M_lives_174 at h
  refine am_iload_n (n := 175) d_M_lives_174 rfl rfl ?_
  refine am_iconst (n := 176) d_M_lives_175 ci_1 rfl ?_
  refine am_iadd (n := 177) d_M_lives_176 rfl ?_
  refine am_forget (ls' := [some (.ref q), some (.int p1), none, none]) (am_le_s (am_le_s (am_le_n (am_le_n am_le_e)))) ?_
  exact tb_M_lives_177 hw hq hK32 hd I s0 (v2 + 1) hs0 h
def wb_M_lives_140 (L : am_TL) (R : am_TR) (q : Nat) (p1 : Int32) (Q : am_TI → Prop) (K32 : am_TI → Int32 → Prop) (I : am_TI) (v2 : Int32) (v3 : Int32) : Prop := (vp_in v3 2258 ∧ (((I (q + 1) (Int32.toNatClampNeg v3)) < 1700 → wb_M_lives_174 L R q p1 Q K32 I v2 q) ∧ (¬ (I (q + 1) (Int32.toNatClampNeg v3)) < 1700 → wp_M_holds I L R q v3 (fun (r3 : Bool) => ((r3 = false → (vp_in (v3 + 4) 2258 ∧ wb_M_lives_177 L R q p1 Q K32 I q ((I (q + 1) (Int32.toNatClampNeg (v3 + 4))) + 1))) ∧ (r3 = true → wb_M_lives_174 L R q p1 Q K32 I v2 q))))))
set_option maxRecDepth 20000 in
theorem tb_M_lives_140 {d : Nat}  {L : am_TL} {R : am_TR} {q : Nat} {p1 : Int32} {Q : am_TI → Prop} {K32 : am_TI → Int32 → Prop} (hw : am_Wf R) (hq : am_SH[q]? = some (.inl 12)) (hK32 : ∀ (I : am_TI) (v2 : Int32), K32 I v2 → am_Wp (d, "UnseenRingModel", b_M_lives, 4, false) 0 0 32 [some (.ref q), some (.int p1), some (.int v2), none] [] (I, L, R, am_SH) (po_M_lives L R Q)) (hd : 7 ≤ d) (I : am_TI) (v2 : Int32) (v3 : Int32) (h : wb_M_lives_140 L R q p1 Q K32 I v2 v3) : am_Wp (d, "UnseenRingModel", b_M_lives, 4, false) 0 0 140 [some (.ref q), some (.int p1), some (.int v2), some (.int v3)] [] (I, L, R, am_SH) (po_M_lives L R Q) := by
  unfold wb_M_lives_140 at h
  refine am_aload_n (n := 141) d_M_lives_140 rfl rfl ?_
  refine am_aload_n (n := 142) d_M_lives_141 rfl rfl ?_
  refine am_getR (x := (q + 1)) (n := 145) f_M_7 d_M_lives_142 rfl rfl hq (hw.1 q 12 0 1 hq rfl) ?_
  refine am_iload_n (n := 146) d_M_lives_145 rfl rfl ?_
  obtain ⟨g4, h⟩ := h
  refine am_iald2 (n := 147) d_M_lives_146 rfl (am_sho (k := 0) (o := 1) hq (by decide) (by decide) (by decide) rfl) g4 rfl ?_
  refine am_sipush (n := 150) d_M_lives_147 cs_1700 rfl ?_
  refine am_icmp_lt (tgt := 174) (n := 153) d_M_lives_150 rfl rfl (fun c7 => ?_) (fun c7 => ?_)
  · have h := h.1 c7
    refine am_forget (ls' := [some (.ref q), some (.int p1), some (.int v2), none]) (am_le_s (am_le_s (am_le_s (am_le_n am_le_e)))) ?_
    exact tb_M_lives_174 hw hq hK32 hd I v2 q hq h
  · have h := h.2 c7
    refine am_aload_n (n := 154) d_M_lives_153 rfl rfl ?_
    refine am_iload_n (n := 155) d_M_lives_154 rfl rfl ?_
    refine am_callV (kc := 0) (ks := 0) (As := [.int v3]) (n := 158) d_M_lives_155 rfl ce_M_holds lk_M_504 in_M_holds rfl rfl hq rfl rfl (Nat.le_of_ble_eq_true rfl) (Or.inl rfl) (cm_M_holds (d := d - 1) hw (by omega) hq h) (by omega) ?_
    rintro _ _ ⟨r3, rfl, rfl, h⟩
    show am_Wp (d, "UnseenRingModel", b_M_lives, 4, false) 0 0 158 [some (.ref q), some (.int p1), some (.int v2), some (.int v3)] [.int (am_b r3), .ref q] (I, L, R, am_SH) (po_M_lives L R Q)
    refine am_if_ne (y := 0) (tgt := 174) (n := 161) d_M_lives_158 rfl rfl (fun c8 => ?_) (fun c8 => ?_)
    · have h := h.2 (am_b_n0 c8)
      refine am_forget (ls' := [some (.ref q), some (.int p1), some (.int v2), none]) (am_le_s (am_le_s (am_le_s (am_le_n am_le_e)))) ?_
      exact tb_M_lives_174 hw hq hK32 hd I v2 q hq h
    · have h := h.1 (am_b_0 c8)
      refine am_aload_n (n := 162) d_M_lives_161 rfl rfl ?_
      refine am_getR (x := (q + 1)) (n := 165) f_M_7 d_M_lives_162 rfl rfl hq (hw.1 q 12 0 1 hq rfl) ?_
      refine am_iload_n (n := 166) d_M_lives_165 rfl rfl ?_
      refine am_iconst (n := 167) d_M_lives_166 ci_4 rfl ?_
      refine am_iadd (n := 168) d_M_lives_167 rfl ?_
      obtain ⟨g5, h⟩ := h
      refine am_iald2 (n := 169) d_M_lives_168 rfl (am_sho (k := 0) (o := 1) hq (by decide) (by decide) (by decide) rfl) g5 rfl ?_
      refine am_iconst (n := 170) d_M_lives_169 ci_1 rfl ?_
      refine am_iadd (n := 171) d_M_lives_170 rfl ?_
      refine am_goto (tgt := 177) d_M_lives_171 rfl ?_
      refine am_forget (ls' := [some (.ref q), some (.int p1), none, none]) (am_le_s (am_le_s (am_le_n (am_le_n am_le_e)))) ?_
      exact tb_M_lives_177 hw hq hK32 hd I q ((I (q + 1) (Int32.toNatClampNeg (v3 + 4))) + 1) hq h
def wb_M_lives_111 (L : am_TL) (R : am_TR) (q : Nat) (p1 : Int32) (Q : am_TI → Prop) (K32 : am_TI → Int32 → Prop) (I : am_TI) (v2 : Int32) (v3 : Int32) (s0 : Nat) (s1 : Bool) (s2 : Int32) (s3 : Bool) : Prop := (vp_in (am_b s1) 5 ∧ (∀ I5, I5 = am_u2 I s0 (Int32.toNatClampNeg (am_b s1)) (s2 + (am_b s3)) → (vp_in v3 2258 ∧ (((I5 (q + 1) (Int32.toNatClampNeg v3)) = 18 → (vp_in (v3 + 1) 2258 ∧ (vp_in v2 80 ∧ (∀ I7, I7 = am_u2 I5 (q + 27) (Int32.toNatClampNeg v2) ((I5 (q + 1) (Int32.toNatClampNeg (v3 + 1))) - 1) → wb_M_lives_140 L R q p1 Q K32 I7 v2 v3)))) ∧ (¬ (I5 (q + 1) (Int32.toNatClampNeg v3)) = 18 → wb_M_lives_140 L R q p1 Q K32 I5 v2 v3)))))
set_option maxRecDepth 20000 in
theorem tb_M_lives_111 {d : Nat}  {L : am_TL} {R : am_TR} {q : Nat} {p1 : Int32} {Q : am_TI → Prop} {K32 : am_TI → Int32 → Prop} (hw : am_Wf R) (hq : am_SH[q]? = some (.inl 12)) (hK32 : ∀ (I : am_TI) (v2 : Int32), K32 I v2 → am_Wp (d, "UnseenRingModel", b_M_lives, 4, false) 0 0 32 [some (.ref q), some (.int p1), some (.int v2), none] [] (I, L, R, am_SH) (po_M_lives L R Q)) (hd : 7 ≤ d) (I : am_TI) (v2 : Int32) (v3 : Int32) (s0 : Nat) (s1 : Bool) (s2 : Int32) (s3 : Bool) (hs0 : am_SH[s0]? = some (.inr (0, 5))) (h : wb_M_lives_111 L R q p1 Q K32 I v2 v3 s0 s1 s2 s3) : am_Wp (d, "UnseenRingModel", b_M_lives, 4, false) 0 0 111 [some (.ref q), some (.int p1), some (.int v2), some (.int v3)] [.int (am_b s3), .int s2, .int (am_b s1), .ref s0] (I, L, R, am_SH) (po_M_lives L R Q) := by
  unfold wb_M_lives_111 at h
  refine am_iadd (n := 112) d_M_lives_111 rfl ?_
  obtain ⟨g2, h⟩ := h
  refine am_iast2 (n := 113) d_M_lives_112 rfl hs0 g2 rfl ?_
  generalize eI5 : am_u2 I s0 (Int32.toNatClampNeg (am_b s1)) (s2 + (am_b s3)) = I5
  have h := h I5 eI5.symm
  refine am_aload_n (n := 114) d_M_lives_113 rfl rfl ?_
  refine am_getR (x := (q + 1)) (n := 117) f_M_7 d_M_lives_114 rfl rfl hq (hw.1 q 12 0 1 hq rfl) ?_
  refine am_iload_n (n := 118) d_M_lives_117 rfl rfl ?_
  obtain ⟨g3, h⟩ := h
  refine am_iald2 (n := 119) d_M_lives_118 rfl (am_sho (k := 0) (o := 1) hq (by decide) (by decide) (by decide) rfl) g3 rfl ?_
  refine am_bipush (n := 121) d_M_lives_119 cb_18 rfl ?_
  refine am_icmp_ne (tgt := 140) (n := 124) d_M_lives_121 rfl rfl (fun c6 => ?_) (fun c6 => ?_)
  · have h := h.2 c6
    exact tb_M_lives_140 hw hq hK32 hd I5 v2 v3 h
  · have h := h.1 c6
    refine am_aload_n (n := 125) d_M_lives_124 rfl rfl ?_
    refine am_getR (x := (q + 27)) (n := 128) f_M_102 d_M_lives_125 rfl rfl hq (hw.1 q 12 46 27 hq rfl) ?_
    refine am_iload_n (n := 129) d_M_lives_128 rfl rfl ?_
    refine am_aload_n (n := 130) d_M_lives_129 rfl rfl ?_
    refine am_getR (x := (q + 1)) (n := 133) f_M_7 d_M_lives_130 rfl rfl hq (hw.1 q 12 0 1 hq rfl) ?_
    refine am_iload_n (n := 134) d_M_lives_133 rfl rfl ?_
    refine am_iconst (n := 135) d_M_lives_134 ci_1 rfl ?_
    refine am_iadd (n := 136) d_M_lives_135 rfl ?_
    obtain ⟨g6, h⟩ := h
    refine am_iald2 (n := 137) d_M_lives_136 rfl (am_sho (k := 0) (o := 1) hq (by decide) (by decide) (by decide) rfl) g6 rfl ?_
    refine am_iconst (n := 138) d_M_lives_137 ci_1 rfl ?_
    refine am_isub (n := 139) d_M_lives_138 rfl ?_
    obtain ⟨g7, h⟩ := h
    refine am_iast2 (n := 140) d_M_lives_139 rfl (am_sho (k := 46) (o := 27) hq (by decide) (by decide) (by decide) rfl) g7 rfl ?_
    generalize eI7 : am_u2 I5 (q + 27) (Int32.toNatClampNeg v2) ((I5 (q + 1) (Int32.toNatClampNeg (v3 + 1))) - 1) = I7
    have h := h I7 eI7.symm
    exact tb_M_lives_140 hw hq hK32 hd I7 v2 v3 h
def wl_M_lives_32 (L : am_TL) (R : am_TR) (q : Nat) (p1 : Int32) (Q : am_TI → Prop)  : Nat → am_TI → Int32 → Prop
  | 0 => fun _ _ => False
  | f32 + 1 => fun I v2 => (((I (q + 1) 7) ≤ v2 → Q I) ∧ (¬ (I (q + 1) 7) ≤ v2 → (((I q 45) = 300 → (∀ I8, I8 = am_u2 I (q + 28) 4 1 → Q I8)) ∧ (¬ (I q 45) = 300 → (∀ I3, I3 = am_u2 I q 45 ((I q 45) + 1) → (vp_in (38 + (6 * v2)) 2258 ∧ (((I3 (q + 1) (Int32.toNatClampNeg (38 + (6 * v2)))) = 20 → Q I3) ∧ (¬ (I3 (q + 1) (Int32.toNatClampNeg (38 + (6 * v2)))) = 20 → wp_M_does I3 L R q (38 + (6 * v2)) (fun (r1 : Bool) (I4 : am_TI) => ((r1 = false → wb_M_lives_111 L R q p1 Q (wl_M_lives_32 L R q p1 Q f32) I4 v2 (38 + (6 * v2)) (q + 28) false (I3 (q + 28) 0) true) ∧ (r1 = true → wb_M_lives_111 L R q p1 Q (wl_M_lives_32 L R q p1 Q f32) I4 v2 (38 + (6 * v2)) (q + 28) false (I3 (q + 28) 0) false)))))))))))
set_option maxRecDepth 20000 in
theorem tl_M_lives_32 {d : Nat}  {L : am_TL} {R : am_TR} {q : Nat} {p1 : Int32} {Q : am_TI → Prop}  (hw : am_Wf R) (hq : am_SH[q]? = some (.inl 12)) (hd : 7 ≤ d) : ∀ (n : Nat) (I : am_TI) (v2 : Int32), wl_M_lives_32 L R q p1 Q  n I v2 → am_Wp (d, "UnseenRingModel", b_M_lives, 4, false) 0 0 32 [some (.ref q), some (.int p1), some (.int v2), none] [] (I, L, R, am_SH) (po_M_lives L R Q) := by
  intro n
  induction n with
  | zero => intro I v2 h; exact h.elim
  | succ n ih =>
    intro I v2 h
    unfold wl_M_lives_32 at h
    refine am_iload_n (n := 33) d_M_lives_32 rfl rfl ?_
    refine am_aload_n (n := 34) d_M_lives_33 rfl rfl ?_
    refine am_getR (x := (q + 1)) (n := 37) f_M_7 d_M_lives_34 rfl rfl hq (hw.1 q 12 0 1 hq rfl) ?_
    refine am_bipush (n := 39) d_M_lives_37 cb_7 rfl ?_
    refine am_iald2 (n := 40) d_M_lives_39 rfl (am_sho (k := 0) (o := 1) hq (by decide) (by decide) (by decide) rfl) cx_7_2258 cn_7 ?_
    refine am_icmp_ge (tgt := 184) (n := 43) d_M_lives_40 rfl rfl (fun c2 => ?_) (fun c2 => ?_)
    · have h := h.1 c2
      exact am_vret d_M_lives_184 ⟨I, rfl, rfl, h⟩
    · have h := h.2 c2
      refine am_aload_n (n := 44) d_M_lives_43 rfl rfl ?_
      refine am_getI (n := 47) f_M_498 d_M_lives_44 rfl rfl hq ?_
      refine am_sipush (n := 50) d_M_lives_47 cs_300 rfl ?_
      refine am_icmp_ne (tgt := 61) (n := 53) d_M_lives_50 rfl rfl (fun c3 => ?_) (fun c3 => ?_)
      · have h := h.2 c3
        refine am_bipush (n := 63) d_M_lives_61 cb_38 rfl ?_
        refine am_bipush (n := 65) d_M_lives_63 cb_6 rfl ?_
        refine am_iload_n (n := 66) d_M_lives_65 rfl rfl ?_
        refine am_imul (n := 67) d_M_lives_66 rfl ?_
        refine am_iadd (n := 68) d_M_lives_67 rfl ?_
        refine am_istore_n (ls' := [some (.ref q), some (.int p1), some (.int v2), some (.int (38 + (6 * v2)))]) (n := 69) d_M_lives_68 (by decide) rfl rfl ?_
        refine am_aload_n (n := 70) d_M_lives_69 rfl rfl ?_
        refine am_dup (n := 71) d_M_lives_70 rfl rfl ?_
        refine am_getI (n := 74) f_M_498 d_M_lives_71 rfl rfl hq ?_
        refine am_iconst (n := 75) d_M_lives_74 ci_1 rfl ?_
        refine am_iadd (n := 76) d_M_lives_75 rfl ?_
        refine am_putI (n := 79) f_M_498 d_M_lives_76 rfl ⟨_, rfl, Or.inl rfl⟩ rfl rfl hq ?_
        generalize eI3 : am_u2 I q 45 ((I q 45) + 1) = I3
        have h := h I3 eI3.symm
        refine am_aload_n (n := 80) d_M_lives_79 rfl rfl ?_
        refine am_getR (x := (q + 1)) (n := 83) f_M_7 d_M_lives_80 rfl rfl hq (hw.1 q 12 0 1 hq rfl) ?_
        refine am_iload_n (n := 84) d_M_lives_83 rfl rfl ?_
        obtain ⟨g1, h⟩ := h
        refine am_iald2 (n := 85) d_M_lives_84 rfl (am_sho (k := 0) (o := 1) hq (by decide) (by decide) (by decide) rfl) g1 rfl ?_
        refine am_bipush (n := 87) d_M_lives_85 cb_20 rfl ?_
        refine am_icmp_ne (tgt := 91) (n := 90) d_M_lives_87 rfl rfl (fun c4 => ?_) (fun c4 => ?_)
        · have h := h.2 c4
          refine am_aload_n (n := 92) d_M_lives_91 rfl rfl ?_
          refine am_getR (x := (q + 28)) (n := 95) f_M_105 d_M_lives_92 rfl rfl hq (hw.1 q 12 47 28 hq rfl) ?_
          refine am_iconst (n := 96) d_M_lives_95 ci_0 rfl ?_
          refine am_dup2 (n := 97) d_M_lives_96 rfl rfl rfl ?_
          refine am_iald2 (n := 98) d_M_lives_97 rfl (am_sho (k := 47) (o := 28) hq (by decide) (by decide) (by decide) rfl) cx_0_5 cn_0 ?_
          refine am_aload_n (n := 99) d_M_lives_98 rfl rfl ?_
          refine am_iload_n (n := 100) d_M_lives_99 rfl rfl ?_
          refine am_callV (kc := 0) (ks := 0) (As := [.int (38 + (6 * v2))]) (n := 103) d_M_lives_100 rfl ce_M_does lk_M_501 in_M_does rfl rfl hq rfl rfl (Nat.le_of_ble_eq_true rfl) (Or.inl rfl) (cm_M_does (d := d - 1) hw (by omega) hq h) (by omega) ?_
          rintro _ _ ⟨r1, I4, rfl, rfl, h⟩
          show am_Wp (d, "UnseenRingModel", b_M_lives, 4, false) 0 0 103 [some (.ref q), some (.int p1), some (.int v2), some (.int (38 + (6 * v2)))] [.int (am_b r1), .int (I3 (q + 28) 0), .int 0, .ref (q + 28)] (I4, L, R, am_SH) (po_M_lives L R Q)
          refine am_if_eq (y := 0) (tgt := 110) (n := 106) d_M_lives_103 rfl rfl (fun c5 => ?_) (fun c5 => ?_)
          · have h := h.1 (am_b_0 c5)
            refine am_iconst (n := 111) d_M_lives_110 ci_1 rfl ?_
            exact tb_M_lives_111 hw hq ih hd I4 v2 (38 + (6 * v2)) (q + 28) false (I3 (q + 28) 0) true (am_sho (k := 47) (o := 28) hq (by decide) (by decide) (by decide) rfl) h
          · have h := h.2 (am_b_n0 c5)
            refine am_iconst (n := 107) d_M_lives_106 ci_0 rfl ?_
            refine am_goto (tgt := 111) d_M_lives_107 rfl ?_
            exact tb_M_lives_111 hw hq ih hd I4 v2 (38 + (6 * v2)) (q + 28) false (I3 (q + 28) 0) false (am_sho (k := 47) (o := 28) hq (by decide) (by decide) (by decide) rfl) h
        · have h := h.1 c4
          exact am_vret d_M_lives_90 ⟨I3, rfl, rfl, h⟩
      · have h := h.1 c3
        refine am_aload_n (n := 54) d_M_lives_53 rfl rfl ?_
        refine am_getR (x := (q + 28)) (n := 57) f_M_105 d_M_lives_54 rfl rfl hq (hw.1 q 12 47 28 hq rfl) ?_
        refine am_iconst (n := 58) d_M_lives_57 ci_4 rfl ?_
        refine am_iconst (n := 59) d_M_lives_58 ci_1 rfl ?_
        refine am_iast2 (n := 60) d_M_lives_59 rfl (am_sho (k := 47) (o := 28) hq (by decide) (by decide) (by decide) rfl) cx_4_5 cn_4 ?_
        generalize eI8 : am_u2 I (q + 28) 4 1 = I8
        have h := h I8 eI8.symm
        exact am_vret d_M_lives_60 ⟨I8, rfl, rfl, h⟩
def wl_M_lives_12 (L : am_TL) (R : am_TR) (q : Nat) (p1 : Int32) (Q : am_TI → Prop)  : Nat → am_TI → Int32 → Prop
  | 0 => fun _ _ => False
  | f12 + 1 => fun I v2 => ((5 ≤ v2 → (∃ z, wl_M_lives_32 L R q p1 Q z I 0)) ∧ (¬ 5 ≤ v2 → (vp_in v2 5 ∧ (∀ I9, I9 = am_u2 I (q + 28) (Int32.toNatClampNeg v2) 0 → wl_M_lives_12 L R q p1 Q f12 I9 (v2 + 1)))))
set_option maxRecDepth 20000 in
theorem tl_M_lives_12 {d : Nat}  {L : am_TL} {R : am_TR} {q : Nat} {p1 : Int32} {Q : am_TI → Prop}  (hw : am_Wf R) (hq : am_SH[q]? = some (.inl 12)) (hd : 7 ≤ d) : ∀ (n : Nat) (I : am_TI) (v2 : Int32), wl_M_lives_12 L R q p1 Q  n I v2 → am_Wp (d, "UnseenRingModel", b_M_lives, 4, false) 0 0 12 [some (.ref q), some (.int p1), some (.int v2), none] [] (I, L, R, am_SH) (po_M_lives L R Q) := by
  intro n
  induction n with
  | zero => intro I v2 h; exact h.elim
  | succ n ih =>
    intro I v2 h
    unfold wl_M_lives_12 at h
    refine am_iload_n (n := 13) d_M_lives_12 rfl rfl ?_
    refine am_iconst (n := 14) d_M_lives_13 ci_5 rfl ?_
    refine am_icmp_ge (tgt := 30) (n := 17) d_M_lives_14 rfl rfl (fun c1 => ?_) (fun c1 => ?_)
    · have h := h.1 c1
      refine am_iconst (n := 31) d_M_lives_30 ci_0 rfl ?_
      refine am_istore_n (ls' := [some (.ref q), some (.int p1), some (.int 0), none]) (n := 32) d_M_lives_31 (by decide) rfl rfl ?_
      obtain ⟨n, h⟩ := h
      exact tl_M_lives_32 hw hq hd n I 0 h
    · have h := h.2 c1
      refine am_aload_n (n := 18) d_M_lives_17 rfl rfl ?_
      refine am_getR (x := (q + 28)) (n := 21) f_M_105 d_M_lives_18 rfl rfl hq (hw.1 q 12 47 28 hq rfl) ?_
      refine am_iload_n (n := 22) d_M_lives_21 rfl rfl ?_
      refine am_iconst (n := 23) d_M_lives_22 ci_0 rfl ?_
      obtain ⟨g8, h⟩ := h
      refine am_iast2 (n := 24) d_M_lives_23 rfl (am_sho (k := 47) (o := 28) hq (by decide) (by decide) (by decide) rfl) g8 rfl ?_
      generalize eI9 : am_u2 I (q + 28) (Int32.toNatClampNeg v2) 0 = I9
      have h := h I9 eI9.symm
      refine am_iinc (v := v2 + 1) (ls' := [some (.ref q), some (.int p1), some (.int (v2 + 1)), none]) (n := 27) d_M_lives_24 rfl (congrArg _ ci_1) (by decide) rfl rfl ?_
      refine am_goto (tgt := 12) d_M_lives_27 rfl ?_
      exact ih I9 (v2 + 1)  h
def wp_M_lives (I : am_TI) (L : am_TL) (R : am_TR) (q : Nat) (p1 : Int32)  (Q : am_TI → Prop) : Prop := (∀ I1, I1 = am_u2 I q 44 p1 → (∀ I2, I2 = am_u2 I1 q 45 0 → (∃ z, wl_M_lives_12 L R q p1 Q z I2 0)))
set_option maxRecDepth 20000 in
theorem cm_M_lives {d : Nat} {I : am_TI} {L : am_TL} {R : am_TR}  (hw : am_Wf R)   {q : Nat} {p1 : Int32} {Q : am_TI → Prop} (hd : 7 ≤ d) (hq : am_SH[q]? = some (.inl 12)) (h : wp_M_lives I L R q p1  Q) : am_Cm d 0 0 y_M_lives b_M_lives 4 (none) [.ref q, .int p1] (I, L, R, am_SH) (po_M_lives L R Q) := by
  refine am_Cm_of (ini := false) (by decide +kernel) (fun z => by cases z) (by simp [Value.category]) (fun r σ' z => by obtain ⟨_, rfl, -⟩ := z; rfl) ?_
  unfold wp_M_lives at h
  show am_Wp (d, "UnseenRingModel", b_M_lives, 4, false) 0 0 0 [some (.ref q), some (.int p1), none, none] [] (I, L, R, am_SH) (po_M_lives L R Q)
  refine am_aload_n (n := 1) d_M_lives_0 rfl rfl ?_
  refine am_iload_n (n := 2) d_M_lives_1 rfl rfl ?_
  refine am_putI (n := 5) f_M_482 d_M_lives_2 rfl ⟨_, rfl, Or.inl rfl⟩ rfl rfl hq ?_
  generalize eI1 : am_u2 I q 44 p1 = I1
  have h := h I1 eI1.symm
  refine am_aload_n (n := 6) d_M_lives_5 rfl rfl ?_
  refine am_iconst (n := 7) d_M_lives_6 ci_0 rfl ?_
  refine am_putI (n := 10) f_M_498 d_M_lives_7 rfl ⟨_, rfl, Or.inl rfl⟩ rfl rfl hq ?_
  generalize eI2 : am_u2 I1 q 45 0 = I2
  have h := h I2 eI2.symm
  refine am_iconst (n := 11) d_M_lives_10 ci_0 rfl ?_
  refine am_istore_n (ls' := [some (.ref q), some (.int p1), some (.int 0), none]) (n := 12) d_M_lives_11 (by decide) rfl rfl ?_
  obtain ⟨n, h⟩ := h
  exact tl_M_lives_12 hw hq hd n I2 0 h
abbrev po_M_live (L : am_TL) (R : am_TR) (Q : Int32 → am_TI → Prop) : Option Value → am_St → Prop := fun r σ' => ∃ (x : Int32) (I' : am_TI), r = some (.int x) ∧ σ' = (I', L, R, am_SH) ∧ Q x I'
def wl_M_live_43 (L : am_TL) (R : am_TR) (q : Nat) (p1 : Int32) (Q : Int32 → am_TI → Prop)  : Nat → am_TI → Int32 → Prop
  | 0 => fun _ _ => False
  | f43 + 1 => fun I v2 => ((5 ≤ v2 → (∀ I2, I2 = am_u2 I q 49 1 → wp_M_gives I2 L R q (I2 q 45) (fun (r2 : Int32) (I3 : am_TI) => Q r2 I3))) ∧ (¬ 5 ≤ v2 → (vp_in v2 5 ∧ (vp_in v2 5 ∧ (∀ I4, I4 = am_u2 I (q + 29) (Int32.toNatClampNeg v2) (I (q + 28) (Int32.toNatClampNeg v2)) → wl_M_live_43 L R q p1 Q f43 I4 (v2 + 1))))))
set_option maxRecDepth 20000 in
theorem tl_M_live_43 {d : Nat}  {L : am_TL} {R : am_TR} {q : Nat} {p1 : Int32} {Q : Int32 → am_TI → Prop}  (hw : am_Wf R) (hq : am_SH[q]? = some (.inl 12)) (hd : 8 ≤ d) : ∀ (n : Nat) (I : am_TI) (v2 : Int32), wl_M_live_43 L R q p1 Q  n I v2 → am_Wp (d, "UnseenRingModel", b_M_live, 3, false) 0 0 43 [some (.ref q), some (.int p1), some (.int v2)] [] (I, L, R, am_SH) (po_M_live L R Q) := by
  intro n
  induction n with
  | zero => intro I v2 h; exact h.elim
  | succ n ih =>
    intro I v2 h
    unfold wl_M_live_43 at h
    refine am_iload_n (n := 44) d_M_live_43 rfl rfl ?_
    refine am_iconst (n := 45) d_M_live_44 ci_5 rfl ?_
    refine am_icmp_ge (tgt := 66) (n := 48) d_M_live_45 rfl rfl (fun c3 => ?_) (fun c3 => ?_)
    · have h := h.1 c3
      refine am_aload_n (n := 67) d_M_live_66 rfl rfl ?_
      refine am_iconst (n := 68) d_M_live_67 ci_1 rfl ?_
      refine am_putZ (n := 71) f_M_515 d_M_live_68 rfl ⟨_, rfl, Or.inl rfl⟩ rfl rfl hq (Or.inr rfl) ?_
      generalize eI2 : am_u2 I q 49 1 = I2
      have h := h I2 eI2.symm
      refine am_aload_n (n := 72) d_M_live_71 rfl rfl ?_
      refine am_aload_n (n := 73) d_M_live_72 rfl rfl ?_
      refine am_getI (n := 76) f_M_498 d_M_live_73 rfl rfl hq ?_
      refine am_callV (kc := 0) (ks := 0) (As := [.int (I2 q 45)]) (n := 79) d_M_live_76 rfl ce_M_gives lk_M_125 in_M_gives rfl rfl hq rfl rfl (Nat.le_of_ble_eq_true rfl) (Or.inl rfl) (cm_M_gives (d := d - 1) hw (by omega) hq h) (by omega) ?_
      rintro _ _ ⟨r2, I3, rfl, rfl, h⟩
      show am_Wp (d, "UnseenRingModel", b_M_live, 3, false) 0 0 79 [some (.ref q), some (.int p1), some (.int v2)] [.int r2] (I3, L, R, am_SH) (po_M_live L R Q)
      exact am_iret d_M_live_79 ⟨r2, I3, rfl, rfl, h⟩
    · have h := h.2 c3
      refine am_aload_n (n := 49) d_M_live_48 rfl rfl ?_
      refine am_getR (x := (q + 29)) (n := 52) f_M_108 d_M_live_49 rfl rfl hq (hw.1 q 12 48 29 hq rfl) ?_
      refine am_iload_n (n := 53) d_M_live_52 rfl rfl ?_
      refine am_aload_n (n := 54) d_M_live_53 rfl rfl ?_
      refine am_getR (x := (q + 28)) (n := 57) f_M_105 d_M_live_54 rfl rfl hq (hw.1 q 12 47 28 hq rfl) ?_
      refine am_iload_n (n := 58) d_M_live_57 rfl rfl ?_
      obtain ⟨g1, h⟩ := h
      refine am_iald2 (n := 59) d_M_live_58 rfl (am_sho (k := 47) (o := 28) hq (by decide) (by decide) (by decide) rfl) g1 rfl ?_
      obtain ⟨g2, h⟩ := h
      refine am_iast2 (n := 60) d_M_live_59 rfl (am_sho (k := 48) (o := 29) hq (by decide) (by decide) (by decide) rfl) g2 rfl ?_
      generalize eI4 : am_u2 I (q + 29) (Int32.toNatClampNeg v2) (I (q + 28) (Int32.toNatClampNeg v2)) = I4
      have h := h I4 eI4.symm
      refine am_iinc (v := v2 + 1) (ls' := [some (.ref q), some (.int p1), some (.int (v2 + 1))]) (n := 63) d_M_live_60 rfl (congrArg _ ci_1) (by decide) rfl rfl ?_
      refine am_goto (tgt := 43) d_M_live_63 rfl ?_
      exact ih I4 (v2 + 1)  h
def wp_M_live (I : am_TI) (L : am_TL) (R : am_TR) (q : Nat) (p1 : Int32)  (Q : Int32 → am_TI → Prop) : Prop := wp_M_isFrom I L R (Int32.toInt64 p1) 0 9999 (fun (r1 : Bool) => ((r1 = false → wp_M_refuse I L R q 1 (fun (r4 : Int32) (I6 : am_TI) => Q r4 I6)) ∧ (r1 = true → (((I (q + 1) 7) = (-1) → wp_M_refuse I L R q 6 (fun (r3 : Int32) (I5 : am_TI) => Q r3 I5)) ∧ (¬ (I (q + 1) 7) = (-1) → wp_M_lives I L R q p1 (fun (I1 : am_TI) => (∃ z, wl_M_live_43 L R q p1 Q z I1 0)))))))
set_option maxRecDepth 20000 in
theorem cm_M_live {d : Nat} {I : am_TI} {L : am_TL} {R : am_TR}  (hw : am_Wf R)   {q : Nat} {p1 : Int32} {Q : Int32 → am_TI → Prop} (hd : 8 ≤ d) (hq : am_SH[q]? = some (.inl 12)) (h : wp_M_live I L R q p1  Q) : am_Cm d 0 0 y_M_live b_M_live 3 (some .int) [.ref q, .int p1] (I, L, R, am_SH) (po_M_live L R Q) := by
  refine am_Cm_of (ini := false) (by decide +kernel) (fun z => by cases z) (by simp [Value.category]) (fun r σ' z => by obtain ⟨x, _, rfl, -⟩ := z; exact ⟨_, rfl, rfl⟩) ?_
  unfold wp_M_live at h
  show am_Wp (d, "UnseenRingModel", b_M_live, 3, false) 0 0 0 [some (.ref q), some (.int p1), none] [] (I, L, R, am_SH) (po_M_live L R Q)
  refine am_iload_n (n := 1) d_M_live_0 rfl rfl ?_
  refine am_i2l (n := 2) d_M_live_1 rfl ?_
  refine am_lconst (v := 0) (n := 3) d_M_live_2 rfl rfl ?_
  refine am_ldc2 (n := 6) d_M_live_3 k_M_510 rfl ?_
  refine am_callS (kc := 0) (ks := 0) (As := [.long (Int32.toInt64 p1), .long 0, .long 9999]) (n := 9) d_M_live_6 rfl ce_M_isFrom lk_M_306 st_M_isFrom rfl rfl (Nat.le_of_ble_eq_true rfl) (Or.inl rfl) (cm_M_isFrom (d := d - 1) hw (by omega)  h) (by omega) ?_
  rintro _ _ ⟨r1, rfl, rfl, h⟩
  show am_Wp (d, "UnseenRingModel", b_M_live, 3, false) 0 0 9 [some (.ref q), some (.int p1), none] [.int (am_b r1)] (I, L, R, am_SH) (po_M_live L R Q)
  refine am_if_ne (y := 0) (tgt := 18) (n := 12) d_M_live_9 rfl rfl (fun c1 => ?_) (fun c1 => ?_)
  · have h := h.2 (am_b_n0 c1)
    refine am_aload_n (n := 19) d_M_live_18 rfl rfl ?_
    refine am_getR (x := (q + 1)) (n := 22) f_M_7 d_M_live_19 rfl rfl hq (hw.1 q 12 0 1 hq rfl) ?_
    refine am_bipush (n := 24) d_M_live_22 cb_7 rfl ?_
    refine am_iald2 (n := 25) d_M_live_24 rfl (am_sho (k := 0) (o := 1) hq (by decide) (by decide) (by decide) rfl) cx_7_2258 cn_7 ?_
    refine am_iconst (n := 26) d_M_live_25 ci_m1 rfl ?_
    refine am_icmp_ne (tgt := 36) (n := 29) d_M_live_26 rfl rfl (fun c2 => ?_) (fun c2 => ?_)
    · have h := h.2 c2
      refine am_aload_n (n := 37) d_M_live_36 rfl rfl ?_
      refine am_iload_n (n := 38) d_M_live_37 rfl rfl ?_
      refine am_callV (kc := 0) (ks := 0) (As := [.int p1]) (n := 41) d_M_live_38 rfl ce_M_lives lk_M_512 in_M_lives rfl rfl hq rfl rfl (Nat.le_of_ble_eq_true rfl) (Or.inl rfl) (cm_M_lives (d := d - 1) hw (by omega) hq h) (by omega) ?_
      rintro _ _ ⟨I1, rfl, rfl, h⟩
      show am_Wp (d, "UnseenRingModel", b_M_live, 3, false) 0 0 41 [some (.ref q), some (.int p1), none] [] (I1, L, R, am_SH) (po_M_live L R Q)
      refine am_iconst (n := 42) d_M_live_41 ci_0 rfl ?_
      refine am_istore_n (ls' := [some (.ref q), some (.int p1), some (.int 0)]) (n := 43) d_M_live_42 (by decide) rfl rfl ?_
      obtain ⟨n, h⟩ := h
      exact tl_M_live_43 hw hq hd n I1 0 h
    · have h := h.1 c2
      refine am_aload_n (n := 30) d_M_live_29 rfl rfl ?_
      refine am_bipush (n := 32) d_M_live_30 cb_6 rfl ?_
      refine am_callV (kc := 0) (ks := 0) (As := [.int 6]) (n := 35) d_M_live_32 rfl ce_M_refuse lk_M_121 in_M_refuse rfl rfl hq rfl rfl (Nat.le_of_ble_eq_true rfl) (Or.inl rfl) (cm_M_refuse (d := d - 1) hw (by omega) hq h) (by omega) ?_
      rintro _ _ ⟨r3, I5, rfl, rfl, h⟩
      show am_Wp (d, "UnseenRingModel", b_M_live, 3, false) 0 0 35 [some (.ref q), some (.int p1), none] [.int r3] (I5, L, R, am_SH) (po_M_live L R Q)
      exact am_iret d_M_live_35 ⟨r3, I5, rfl, rfl, h⟩
  · have h := h.1 (am_b_0 c1)
    refine am_aload_n (n := 13) d_M_live_12 rfl rfl ?_
    refine am_iconst (n := 14) d_M_live_13 ci_1 rfl ?_
    refine am_callV (kc := 0) (ks := 0) (As := [.int 1]) (n := 17) d_M_live_14 rfl ce_M_refuse lk_M_121 in_M_refuse rfl rfl hq rfl rfl (Nat.le_of_ble_eq_true rfl) (Or.inl rfl) (cm_M_refuse (d := d - 1) hw (by omega) hq h) (by omega) ?_
    rintro _ _ ⟨r4, I6, rfl, rfl, h⟩
    show am_Wp (d, "UnseenRingModel", b_M_live, 3, false) 0 0 17 [some (.ref q), some (.int p1), none] [.int r4] (I6, L, R, am_SH) (po_M_live L R Q)
    exact am_iret d_M_live_17 ⟨r4, I6, rfl, rfl, h⟩
abbrev po_M_lived (L : am_TL) (R : am_TR) (Q : Int32 → am_TI → Prop) : Option Value → am_St → Prop := fun r σ' => ∃ (x : Int32) (I' : am_TI), r = some (.int x) ∧ σ' = (I', L, R, am_SH) ∧ Q x I'
def wb_M_lived_9 (L : am_TL) (R : am_TR) (q : Nat) (p1 : Int32) (Q : Int32 → am_TI → Prop)  (I : am_TI) : Prop := wp_M_refuse I L R q 1 (fun (r1 : Int32) (I1 : am_TI) => Q r1 I1)
set_option maxRecDepth 20000 in
theorem tb_M_lived_9 {d : Nat}  {L : am_TL} {R : am_TR} {q : Nat} {p1 : Int32} {Q : Int32 → am_TI → Prop}  (hw : am_Wf R) (hq : am_SH[q]? = some (.inl 12)) (hd : 1 ≤ d) (I : am_TI) (h : wb_M_lived_9 L R q p1 Q  I) : am_Wp (d, "UnseenRingModel", b_M_lived, 2, false) 0 0 9 [some (.ref q), some (.int p1)] [] (I, L, R, am_SH) (po_M_lived L R Q) := by
  unfold wb_M_lived_9 at h
  refine am_aload_n (n := 10) d_M_lived_9 rfl rfl ?_
  refine am_iconst (n := 11) d_M_lived_10 ci_1 rfl ?_
  refine am_callV (kc := 0) (ks := 0) (As := [.int 1]) (n := 14) d_M_lived_11 rfl ce_M_refuse lk_M_121 in_M_refuse rfl rfl hq rfl rfl (Nat.le_of_ble_eq_true rfl) (Or.inl rfl) (cm_M_refuse (d := d - 1) hw (by omega) hq h) (by omega) ?_
  rintro _ _ ⟨r1, I1, rfl, rfl, h⟩
  show am_Wp (d, "UnseenRingModel", b_M_lived, 2, false) 0 0 14 [some (.ref q), some (.int p1)] [.int r1] (I1, L, R, am_SH) (po_M_lived L R Q)
  refine am_goto (tgt := 43) d_M_lived_14 rfl ?_
  exact am_iret d_M_lived_43 ⟨r1, I1, rfl, rfl, h⟩
def wp_M_lived (I : am_TI) (L : am_TL) (R : am_TR) (q : Nat) (p1 : Int32)  (Q : Int32 → am_TI → Prop) : Prop := ((p1 < 0 → wb_M_lived_9 L R q p1 Q I) ∧ (¬ p1 < 0 → ((p1 ≤ 4 → (((I q 49) = 0 → wp_M_refuse I L R q 6 (fun (r2 : Int32) (I2 : am_TI) => Q r2 I2)) ∧ (¬ (I q 49) = 0 → (vp_in p1 5 ∧ wp_M_gives I L R q (I (q + 29) (Int32.toNatClampNeg p1)) (fun (r3 : Int32) (I3 : am_TI) => Q r3 I3))))) ∧ (¬ p1 ≤ 4 → wb_M_lived_9 L R q p1 Q I))))
set_option maxRecDepth 20000 in
theorem cm_M_lived {d : Nat} {I : am_TI} {L : am_TL} {R : am_TR}  (hw : am_Wf R)   {q : Nat} {p1 : Int32} {Q : Int32 → am_TI → Prop} (hd : 1 ≤ d) (hq : am_SH[q]? = some (.inl 12)) (h : wp_M_lived I L R q p1  Q) : am_Cm d 0 0 y_M_lived b_M_lived 2 (some .int) [.ref q, .int p1] (I, L, R, am_SH) (po_M_lived L R Q) := by
  refine am_Cm_of (ini := false) (by decide +kernel) (fun z => by cases z) (by simp [Value.category]) (fun r σ' z => by obtain ⟨x, _, rfl, -⟩ := z; exact ⟨_, rfl, rfl⟩) ?_
  unfold wp_M_lived at h
  show am_Wp (d, "UnseenRingModel", b_M_lived, 2, false) 0 0 0 [some (.ref q), some (.int p1)] [] (I, L, R, am_SH) (po_M_lived L R Q)
  refine am_iload_n (n := 1) d_M_lived_0 rfl rfl ?_
  refine am_if_lt (y := 0) (tgt := 9) (n := 4) d_M_lived_1 rfl rfl (fun c1 => ?_) (fun c1 => ?_)
  · have h := h.1 c1
    exact tb_M_lived_9 hw hq hd I h
  · have h := h.2 c1
    refine am_iload_n (n := 5) d_M_lived_4 rfl rfl ?_
    refine am_iconst (n := 6) d_M_lived_5 ci_4 rfl ?_
    refine am_icmp_le (tgt := 17) (n := 9) d_M_lived_6 rfl rfl (fun c2 => ?_) (fun c2 => ?_)
    · have h := h.1 c2
      refine am_aload_n (n := 18) d_M_lived_17 rfl rfl ?_
      refine am_getZ (n := 21) f_M_515 d_M_lived_18 rfl rfl hq ?_
      refine am_if_eq (y := 0) (tgt := 37) (n := 24) d_M_lived_21 rfl rfl (fun c3 => ?_) (fun c3 => ?_)
      · have h := h.1 c3
        refine am_aload_n (n := 38) d_M_lived_37 rfl rfl ?_
        refine am_bipush (n := 40) d_M_lived_38 cb_6 rfl ?_
        refine am_callV (kc := 0) (ks := 0) (As := [.int 6]) (n := 43) d_M_lived_40 rfl ce_M_refuse lk_M_121 in_M_refuse rfl rfl hq rfl rfl (Nat.le_of_ble_eq_true rfl) (Or.inl rfl) (cm_M_refuse (d := d - 1) hw (by omega) hq h) (by omega) ?_
        rintro _ _ ⟨r2, I2, rfl, rfl, h⟩
        show am_Wp (d, "UnseenRingModel", b_M_lived, 2, false) 0 0 43 [some (.ref q), some (.int p1)] [.int r2] (I2, L, R, am_SH) (po_M_lived L R Q)
        exact am_iret d_M_lived_43 ⟨r2, I2, rfl, rfl, h⟩
      · have h := h.2 c3
        refine am_aload_n (n := 25) d_M_lived_24 rfl rfl ?_
        refine am_aload_n (n := 26) d_M_lived_25 rfl rfl ?_
        refine am_getR (x := (q + 29)) (n := 29) f_M_108 d_M_lived_26 rfl rfl hq (hw.1 q 12 48 29 hq rfl) ?_
        refine am_iload_n (n := 30) d_M_lived_29 rfl rfl ?_
        obtain ⟨g1, h⟩ := h
        refine am_iald2 (n := 31) d_M_lived_30 rfl (am_sho (k := 48) (o := 29) hq (by decide) (by decide) (by decide) rfl) g1 rfl ?_
        refine am_callV (kc := 0) (ks := 0) (As := [.int (I (q + 29) (Int32.toNatClampNeg p1))]) (n := 34) d_M_lived_31 rfl ce_M_gives lk_M_125 in_M_gives rfl rfl hq rfl rfl (Nat.le_of_ble_eq_true rfl) (Or.inl rfl) (cm_M_gives (d := d - 1) hw (by omega) hq h) (by omega) ?_
        rintro _ _ ⟨r3, I3, rfl, rfl, h⟩
        show am_Wp (d, "UnseenRingModel", b_M_lived, 2, false) 0 0 34 [some (.ref q), some (.int p1)] [.int r3] (I3, L, R, am_SH) (po_M_lived L R Q)
        refine am_goto (tgt := 43) d_M_lived_34 rfl ?_
        exact am_iret d_M_lived_43 ⟨r3, I3, rfl, rfl, h⟩
    · have h := h.2 c2
      exact tb_M_lived_9 hw hq hd I h
abbrev po_M_mean (R : am_TR) (Q : Bool → am_TI → am_TL → Prop) : Option Value → am_St → Prop := fun r σ' => ∃ (x : Bool) (I' : am_TI) (L' : am_TL), r = some (.int (am_b x)) ∧ σ' = (I', L', R, am_SH) ∧ Q x I' L'
def wb_M_mean_35 (R : am_TR) (q : Nat) (p1 : Int32) (p2 : Int32) (Q : Bool → am_TI → am_TL → Prop)  (I : am_TI) (L : am_TL) : Prop := wp_M_is I L R q 1 (fun (r2 : Bool) (I1 : am_TI) => Q r2 I1 L)
set_option maxRecDepth 20000 in
theorem tb_M_mean_35 {d : Nat}  {R : am_TR} {q : Nat} {p1 : Int32} {p2 : Int32} {Q : Bool → am_TI → am_TL → Prop}  (hw : am_Wf R) (hq : am_SH[q]? = some (.inl 12)) (hd : 8 ≤ d) (I : am_TI) (L : am_TL) (h : wb_M_mean_35 R q p1 p2 Q  I L) : am_Wp (d, "UnseenRingModel", b_M_mean, 6, false) 0 0 35 [some (.ref q), some (.int p1), some (.int p2), none, none, none] [] (I, L, R, am_SH) (po_M_mean R Q) := by
  unfold wb_M_mean_35 at h
  refine am_aload_n (n := 36) d_M_mean_35 rfl rfl ?_
  refine am_iconst (n := 37) d_M_mean_36 ci_1 rfl ?_
  refine am_callV (kc := 0) (ks := 0) (As := [.int 1]) (n := 40) d_M_mean_37 rfl ce_M_is lk_M_128 in_M_is rfl rfl hq rfl rfl (Nat.le_of_ble_eq_true rfl) (Or.inl rfl) (cm_M_is (d := d - 1) hw (by omega) hq h) (by omega) ?_
  rintro _ _ ⟨r2, I1, rfl, rfl, h⟩
  show am_Wp (d, "UnseenRingModel", b_M_mean, 6, false) 0 0 40 [some (.ref q), some (.int p1), some (.int p2), none, none, none] [.int (am_b r2)] (I1, L, R, am_SH) (po_M_mean R Q)
  exact am_iret d_M_mean_40 ⟨r2, I1, L, rfl, rfl, h⟩
def wl_M_mean_71 (R : am_TR) (q : Nat) (p1 : Int32) (p2 : Int32) (Q : Bool → am_TI → am_TL → Prop)  : Nat → am_TI → am_TL → Int64 → Int32 → Prop
  | 0 => fun _ _ _ _ => False
  | f71 + 1 => fun I L v3 v5 => ((p2 ≤ v5 → wp_M_tellsBy I L R q v3 (Int32.toInt64 p2) (fun (r4 : Bool) (I3 : am_TI) (L1 : am_TL) => Q r4 I3 L1)) ∧ (¬ p2 ≤ v5 → wp_M_lives I L R q (p1 + v5) (fun (I4 : am_TI) => wp_M_restores I4 L R q 2030 (fun (I5 : am_TI) => wl_M_mean_71 R q p1 p2 Q f71 I5 L (v3 + (Int32.toInt64 (I4 (q + 1) 8))) (v5 + 1)))))
set_option maxRecDepth 20000 in
theorem tl_M_mean_71 {d : Nat}  {R : am_TR} {q : Nat} {p1 : Int32} {p2 : Int32} {Q : Bool → am_TI → am_TL → Prop}  (hw : am_Wf R) (hq : am_SH[q]? = some (.inl 12)) (hd : 8 ≤ d) : ∀ (n : Nat) (I : am_TI) (L : am_TL) (v3 : Int64) (v5 : Int32), wl_M_mean_71 R q p1 p2 Q  n I L v3 v5 → am_Wp (d, "UnseenRingModel", b_M_mean, 6, false) 0 0 71 [some (.ref q), some (.int p1), some (.int p2), some (.long v3), none, some (.int v5)] [] (I, L, R, am_SH) (po_M_mean R Q) := by
  intro n
  induction n with
  | zero => intro I L v3 v5 h; exact h.elim
  | succ n ih =>
    intro I L v3 v5 h
    unfold wl_M_mean_71 at h
    refine am_iload (n := 73) d_M_mean_71 rfl rfl ?_
    refine am_iload_n (n := 74) d_M_mean_73 rfl rfl ?_
    refine am_icmp_ge (tgt := 109) (n := 77) d_M_mean_74 rfl rfl (fun c5 => ?_) (fun c5 => ?_)
    · have h := h.1 c5
      refine am_aload_n (n := 110) d_M_mean_109 rfl rfl ?_
      refine am_lload_n (n := 111) d_M_mean_110 rfl rfl ?_
      refine am_iload_n (n := 112) d_M_mean_111 rfl rfl ?_
      refine am_i2l (n := 113) d_M_mean_112 rfl ?_
      refine am_callV (kc := 0) (ks := 0) (As := [.long v3, .long (Int32.toInt64 p2)]) (n := 116) d_M_mean_113 rfl ce_M_tellsBy lk_M_427 in_M_tellsBy rfl rfl hq rfl rfl (Nat.le_of_ble_eq_true rfl) (Or.inl rfl) (cm_M_tellsBy (d := d - 1) hw (by omega) hq h) (by omega) ?_
      rintro _ _ ⟨r4, I3, L1, rfl, rfl, h⟩
      show am_Wp (d, "UnseenRingModel", b_M_mean, 6, false) 0 0 116 [some (.ref q), some (.int p1), some (.int p2), some (.long v3), none, some (.int v5)] [.int (am_b r4)] (I3, L1, R, am_SH) (po_M_mean R Q)
      exact am_iret d_M_mean_116 ⟨r4, I3, L1, rfl, rfl, h⟩
    · have h := h.2 c5
      refine am_aload_n (n := 78) d_M_mean_77 rfl rfl ?_
      refine am_iload_n (n := 79) d_M_mean_78 rfl rfl ?_
      refine am_iload (n := 81) d_M_mean_79 rfl rfl ?_
      refine am_iadd (n := 82) d_M_mean_81 rfl ?_
      refine am_callV (kc := 0) (ks := 0) (As := [.int (p1 + v5)]) (n := 85) d_M_mean_82 rfl ce_M_lives lk_M_512 in_M_lives rfl rfl hq rfl rfl (Nat.le_of_ble_eq_true rfl) (Or.inl rfl) (cm_M_lives (d := d - 1) hw (by omega) hq h) (by omega) ?_
      rintro _ _ ⟨I4, rfl, rfl, h⟩
      show am_Wp (d, "UnseenRingModel", b_M_mean, 6, false) 0 0 85 [some (.ref q), some (.int p1), some (.int p2), some (.long v3), none, some (.int v5)] [] (I4, L, R, am_SH) (po_M_mean R Q)
      refine am_lload_n (n := 86) d_M_mean_85 rfl rfl ?_
      refine am_aload_n (n := 87) d_M_mean_86 rfl rfl ?_
      refine am_getR (x := (q + 1)) (n := 90) f_M_7 d_M_mean_87 rfl rfl hq (hw.1 q 12 0 1 hq rfl) ?_
      refine am_bipush (n := 92) d_M_mean_90 cb_8 rfl ?_
      refine am_iald2 (n := 93) d_M_mean_92 rfl (am_sho (k := 0) (o := 1) hq (by decide) (by decide) (by decide) rfl) cx_8_2258 cn_8 ?_
      refine am_i2l (n := 94) d_M_mean_93 rfl ?_
      refine am_ladd (n := 95) d_M_mean_94 rfl ?_
      refine am_lstore_n (ls' := [some (.ref q), some (.int p1), some (.int p2), some (.long (v3 + (Int32.toInt64 (I4 (q + 1) 8)))), none, some (.int v5)]) (n := 96) d_M_mean_95 (by decide) rfl rfl ?_
      refine am_aload_n (n := 97) d_M_mean_96 rfl rfl ?_
      refine am_sipush (n := 100) d_M_mean_97 cs_2030 rfl ?_
      refine am_callV (kc := 0) (ks := 0) (As := [.int 2030]) (n := 103) d_M_mean_100 rfl ce_M_restores lk_M_377 in_M_restores rfl rfl hq rfl rfl (Nat.le_of_ble_eq_true rfl) (Or.inl rfl) (cm_M_restores (d := d - 1) hw (by omega) hq h) (by omega) ?_
      rintro _ _ ⟨I5, rfl, rfl, h⟩
      show am_Wp (d, "UnseenRingModel", b_M_mean, 6, false) 0 0 103 [some (.ref q), some (.int p1), some (.int p2), some (.long (v3 + (Int32.toInt64 (I4 (q + 1) 8)))), none, some (.int v5)] [] (I5, L, R, am_SH) (po_M_mean R Q)
      refine am_iinc (v := v5 + 1) (ls' := [some (.ref q), some (.int p1), some (.int p2), some (.long (v3 + (Int32.toInt64 (I4 (q + 1) 8)))), none, some (.int (v5 + 1))]) (n := 106) d_M_mean_103 rfl (congrArg _ ci_1) (by decide) rfl rfl ?_
      refine am_goto (tgt := 71) d_M_mean_106 rfl ?_
      exact ih I5 L (v3 + (Int32.toInt64 (I4 (q + 1) 8))) (v5 + 1)  h
def wp_M_mean (I : am_TI) (L : am_TL) (R : am_TR) (q : Nat) (p1 : Int32) (p2 : Int32)  (Q : Bool → am_TI → am_TL → Prop) : Prop := wp_M_isFrom I L R (Int32.toInt64 p1) 0 9999 (fun (r1 : Bool) => ((r1 = false → wb_M_mean_35 R q p1 p2 Q I L) ∧ (r1 = true → wp_M_isFrom I L R (Int32.toInt64 p2) 1 20 (fun (r3 : Bool) => ((r3 = false → wb_M_mean_35 R q p1 p2 Q I L) ∧ (r3 = true → ((((p1 + p2) - 1) ≤ 9999 → (((I (q + 1) 7) = (-1) → wp_M_is I L R q 6 (fun (r5 : Bool) (I6 : am_TI) => Q r5 I6 L)) ∧ (¬ (I (q + 1) 7) = (-1) → wp_M_keeps I L R q 2030 (fun (I2 : am_TI) => (∃ z, wl_M_mean_71 R q p1 p2 Q z I2 L 0 0))))) ∧ (¬ ((p1 + p2) - 1) ≤ 9999 → wb_M_mean_35 R q p1 p2 Q I L))))))))
set_option maxRecDepth 20000 in
theorem cm_M_mean {d : Nat} {I : am_TI} {L : am_TL} {R : am_TR}  (hw : am_Wf R)   {q : Nat} {p1 : Int32} {p2 : Int32} {Q : Bool → am_TI → am_TL → Prop} (hd : 8 ≤ d) (hq : am_SH[q]? = some (.inl 12)) (h : wp_M_mean I L R q p1 p2  Q) : am_Cm d 0 0 y_M_mean b_M_mean 6 (some .boolean) [.ref q, .int p1, .int p2] (I, L, R, am_SH) (po_M_mean R Q) := by
  refine am_Cm_of (ini := false) (by decide +kernel) (fun z => by cases z) (by simp [Value.category]) (fun r σ' z => by obtain ⟨x, _, _, rfl, -⟩ := z; exact ⟨_, rfl, am_b_nar x⟩) ?_
  unfold wp_M_mean at h
  show am_Wp (d, "UnseenRingModel", b_M_mean, 6, false) 0 0 0 [some (.ref q), some (.int p1), some (.int p2), none, none, none] [] (I, L, R, am_SH) (po_M_mean R Q)
  refine am_iload_n (n := 1) d_M_mean_0 rfl rfl ?_
  refine am_i2l (n := 2) d_M_mean_1 rfl ?_
  refine am_lconst (v := 0) (n := 3) d_M_mean_2 rfl rfl ?_
  refine am_ldc2 (n := 6) d_M_mean_3 k_M_510 rfl ?_
  refine am_callS (kc := 0) (ks := 0) (As := [.long (Int32.toInt64 p1), .long 0, .long 9999]) (n := 9) d_M_mean_6 rfl ce_M_isFrom lk_M_306 st_M_isFrom rfl rfl (Nat.le_of_ble_eq_true rfl) (Or.inl rfl) (cm_M_isFrom (d := d - 1) hw (by omega)  h) (by omega) ?_
  rintro _ _ ⟨r1, rfl, rfl, h⟩
  show am_Wp (d, "UnseenRingModel", b_M_mean, 6, false) 0 0 9 [some (.ref q), some (.int p1), some (.int p2), none, none, none] [.int (am_b r1)] (I, L, R, am_SH) (po_M_mean R Q)
  refine am_if_eq (y := 0) (tgt := 35) (n := 12) d_M_mean_9 rfl rfl (fun c1 => ?_) (fun c1 => ?_)
  · have h := h.1 (am_b_0 c1)
    exact tb_M_mean_35 hw hq hd I L h
  · have h := h.2 (am_b_n0 c1)
    refine am_iload_n (n := 13) d_M_mean_12 rfl rfl ?_
    refine am_i2l (n := 14) d_M_mean_13 rfl ?_
    refine am_lconst (v := 1) (n := 15) d_M_mean_14 rfl rfl ?_
    refine am_ldc2 (n := 18) d_M_mean_15 k_M_380 rfl ?_
    refine am_callS (kc := 0) (ks := 0) (As := [.long (Int32.toInt64 p2), .long 1, .long 20]) (n := 21) d_M_mean_18 rfl ce_M_isFrom lk_M_306 st_M_isFrom rfl rfl (Nat.le_of_ble_eq_true rfl) (Or.inl rfl) (cm_M_isFrom (d := d - 1) hw (by omega)  h) (by omega) ?_
    rintro _ _ ⟨r3, rfl, rfl, h⟩
    show am_Wp (d, "UnseenRingModel", b_M_mean, 6, false) 0 0 21 [some (.ref q), some (.int p1), some (.int p2), none, none, none] [.int (am_b r3)] (I, L, R, am_SH) (po_M_mean R Q)
    refine am_if_eq (y := 0) (tgt := 35) (n := 24) d_M_mean_21 rfl rfl (fun c2 => ?_) (fun c2 => ?_)
    · have h := h.1 (am_b_0 c2)
      exact tb_M_mean_35 hw hq hd I L h
    · have h := h.2 (am_b_n0 c2)
      refine am_iload_n (n := 25) d_M_mean_24 rfl rfl ?_
      refine am_iload_n (n := 26) d_M_mean_25 rfl rfl ?_
      refine am_iadd (n := 27) d_M_mean_26 rfl ?_
      refine am_iconst (n := 28) d_M_mean_27 ci_1 rfl ?_
      refine am_isub (n := 29) d_M_mean_28 rfl ?_
      refine am_sipush (n := 32) d_M_mean_29 cs_9999 rfl ?_
      refine am_icmp_le (tgt := 41) (n := 35) d_M_mean_32 rfl rfl (fun c3 => ?_) (fun c3 => ?_)
      · have h := h.1 c3
        refine am_aload_n (n := 42) d_M_mean_41 rfl rfl ?_
        refine am_getR (x := (q + 1)) (n := 45) f_M_7 d_M_mean_42 rfl rfl hq (hw.1 q 12 0 1 hq rfl) ?_
        refine am_bipush (n := 47) d_M_mean_45 cb_7 rfl ?_
        refine am_iald2 (n := 48) d_M_mean_47 rfl (am_sho (k := 0) (o := 1) hq (by decide) (by decide) (by decide) rfl) cx_7_2258 cn_7 ?_
        refine am_iconst (n := 49) d_M_mean_48 ci_m1 rfl ?_
        refine am_icmp_ne (tgt := 59) (n := 52) d_M_mean_49 rfl rfl (fun c4 => ?_) (fun c4 => ?_)
        · have h := h.2 c4
          refine am_aload_n (n := 60) d_M_mean_59 rfl rfl ?_
          refine am_sipush (n := 63) d_M_mean_60 cs_2030 rfl ?_
          refine am_callV (kc := 0) (ks := 0) (As := [.int 2030]) (n := 66) d_M_mean_63 rfl ce_M_keeps lk_M_374 in_M_keeps rfl rfl hq rfl rfl (Nat.le_of_ble_eq_true rfl) (Or.inl rfl) (cm_M_keeps (d := d - 1) hw (by omega) hq h) (by omega) ?_
          rintro _ _ ⟨I2, rfl, rfl, h⟩
          show am_Wp (d, "UnseenRingModel", b_M_mean, 6, false) 0 0 66 [some (.ref q), some (.int p1), some (.int p2), none, none, none] [] (I2, L, R, am_SH) (po_M_mean R Q)
          refine am_lconst (v := 0) (n := 67) d_M_mean_66 rfl rfl ?_
          refine am_lstore_n (ls' := [some (.ref q), some (.int p1), some (.int p2), some (.long 0), none, none]) (n := 68) d_M_mean_67 (by decide) rfl rfl ?_
          refine am_iconst (n := 69) d_M_mean_68 ci_0 rfl ?_
          refine am_istore (ls' := [some (.ref q), some (.int p1), some (.int p2), some (.long 0), none, some (.int 0)]) (n := 71) d_M_mean_69 (by decide) rfl rfl ?_
          obtain ⟨n, h⟩ := h
          exact tl_M_mean_71 hw hq hd n I2 L 0 0 h
        · have h := h.1 c4
          refine am_aload_n (n := 53) d_M_mean_52 rfl rfl ?_
          refine am_bipush (n := 55) d_M_mean_53 cb_6 rfl ?_
          refine am_callV (kc := 0) (ks := 0) (As := [.int 6]) (n := 58) d_M_mean_55 rfl ce_M_is lk_M_128 in_M_is rfl rfl hq rfl rfl (Nat.le_of_ble_eq_true rfl) (Or.inl rfl) (cm_M_is (d := d - 1) hw (by omega) hq h) (by omega) ?_
          rintro _ _ ⟨r5, I6, rfl, rfl, h⟩
          show am_Wp (d, "UnseenRingModel", b_M_mean, 6, false) 0 0 58 [some (.ref q), some (.int p1), some (.int p2), none, none, none] [.int (am_b r5)] (I6, L, R, am_SH) (po_M_mean R Q)
          exact am_iret d_M_mean_58 ⟨r5, I6, L, rfl, rfl, h⟩
      · have h := h.2 c3
        exact tb_M_mean_35 hw hq hd I L h
abbrev po_M_copies (R : am_TR) (Q : am_TI → am_TL → Prop) : Option Value → am_St → Prop := fun r σ' => ∃ (I' : am_TI) (L' : am_TL), r = none ∧ σ' = (I', L', R, am_SH) ∧ Q I' L'
def wl_M_copies_41 (R : am_TR) (q : Nat) (p1 : Int32) (p2 : Int32) (Q : am_TI → am_TL → Prop)  : Nat → am_TI → am_TL → Int32 → Prop
  | 0 => fun _ _ _ => False
  | f41 + 1 => fun I L v3 => ((6 ≤ v3 → Q I L) ∧ (¬ 6 ≤ v3 → (vp_in ((6 * p1) + v3) 36 ∧ (vp_in ((6 * p2) + v3) 36 ∧ (∀ L1, L1 = am_u2 L (q + 2) (Int32.toNatClampNeg ((6 * p2) + v3)) (L (q + 2) (Int32.toNatClampNeg ((6 * p1) + v3))) → wl_M_copies_41 R q p1 p2 Q f41 I L1 (v3 + 1))))))
set_option maxRecDepth 20000 in
theorem tl_M_copies_41 {d : Nat}  {R : am_TR} {q : Nat} {p1 : Int32} {p2 : Int32} {Q : am_TI → am_TL → Prop}  (hw : am_Wf R) (hq : am_SH[q]? = some (.inl 12)) (hd : 0 ≤ d) : ∀ (n : Nat) (I : am_TI) (L : am_TL) (v3 : Int32), wl_M_copies_41 R q p1 p2 Q  n I L v3 → am_Wp (d, "UnseenRingModel", b_M_copies, 4, false) 0 0 41 [some (.ref q), some (.int p1), some (.int p2), some (.int v3)] [] (I, L, R, am_SH) (po_M_copies R Q) := by
  intro n
  induction n with
  | zero => intro I L v3 h; exact h.elim
  | succ n ih =>
    intro I L v3 h
    unfold wl_M_copies_41 at h
    refine am_iload_n (n := 42) d_M_copies_41 rfl rfl ?_
    refine am_bipush (n := 44) d_M_copies_42 cb_6 rfl ?_
    refine am_icmp_ge (tgt := 75) (n := 47) d_M_copies_44 rfl rfl (fun c2 => ?_) (fun c2 => ?_)
    · have h := h.1 c2
      exact am_vret d_M_copies_75 ⟨I, L, rfl, rfl, h⟩
    · have h := h.2 c2
      refine am_aload_n (n := 48) d_M_copies_47 rfl rfl ?_
      refine am_getR (x := (q + 2)) (n := 51) f_M_13 d_M_copies_48 rfl rfl hq (hw.1 q 12 1 2 hq rfl) ?_
      refine am_bipush (n := 53) d_M_copies_51 cb_6 rfl ?_
      refine am_iload_n (n := 54) d_M_copies_53 rfl rfl ?_
      refine am_imul (n := 55) d_M_copies_54 rfl ?_
      refine am_iload_n (n := 56) d_M_copies_55 rfl rfl ?_
      refine am_iadd (n := 57) d_M_copies_56 rfl ?_
      refine am_aload_n (n := 58) d_M_copies_57 rfl rfl ?_
      refine am_getR (x := (q + 2)) (n := 61) f_M_13 d_M_copies_58 rfl rfl hq (hw.1 q 12 1 2 hq rfl) ?_
      refine am_bipush (n := 63) d_M_copies_61 cb_6 rfl ?_
      refine am_iload_n (n := 64) d_M_copies_63 rfl rfl ?_
      refine am_imul (n := 65) d_M_copies_64 rfl ?_
      refine am_iload_n (n := 66) d_M_copies_65 rfl rfl ?_
      refine am_iadd (n := 67) d_M_copies_66 rfl ?_
      obtain ⟨g1, h⟩ := h
      refine am_lald2 (n := 68) d_M_copies_67 rfl (am_sho (k := 1) (o := 2) hq (by decide) (by decide) (by decide) rfl) g1 rfl ?_
      obtain ⟨g2, h⟩ := h
      refine am_last2 (n := 69) d_M_copies_68 rfl (am_sho (k := 1) (o := 2) hq (by decide) (by decide) (by decide) rfl) g2 rfl ?_
      generalize eL1 : am_u2 L (q + 2) (Int32.toNatClampNeg ((6 * p2) + v3)) (L (q + 2) (Int32.toNatClampNeg ((6 * p1) + v3))) = L1
      have h := h L1 eL1.symm
      refine am_iinc (v := v3 + 1) (ls' := [some (.ref q), some (.int p1), some (.int p2), some (.int (v3 + 1))]) (n := 72) d_M_copies_69 rfl (congrArg _ ci_1) (by decide) rfl rfl ?_
      refine am_goto (tgt := 41) d_M_copies_72 rfl ?_
      exact ih I L1 (v3 + 1)  h
def wl_M_copies_2 (R : am_TR) (q : Nat) (p1 : Int32) (p2 : Int32) (Q : am_TI → am_TL → Prop)  : Nat → am_TI → am_TL → Int32 → Prop
  | 0 => fun _ _ _ => False
  | f2 + 1 => fun I L v3 => ((406 ≤ v3 → (∃ z, wl_M_copies_41 R q p1 p2 Q z I L 0)) ∧ (¬ 406 ≤ v3 → (vp_in ((406 * p1) + v3) 2258 ∧ (vp_in ((406 * p2) + v3) 2258 ∧ (∀ I1, I1 = am_u2 I (q + 1) (Int32.toNatClampNeg ((406 * p2) + v3)) (I (q + 1) (Int32.toNatClampNeg ((406 * p1) + v3))) → wl_M_copies_2 R q p1 p2 Q f2 I1 L (v3 + 1))))))
set_option maxRecDepth 20000 in
theorem tl_M_copies_2 {d : Nat}  {R : am_TR} {q : Nat} {p1 : Int32} {p2 : Int32} {Q : am_TI → am_TL → Prop}  (hw : am_Wf R) (hq : am_SH[q]? = some (.inl 12)) (hd : 0 ≤ d) : ∀ (n : Nat) (I : am_TI) (L : am_TL) (v3 : Int32), wl_M_copies_2 R q p1 p2 Q  n I L v3 → am_Wp (d, "UnseenRingModel", b_M_copies, 4, false) 0 0 2 [some (.ref q), some (.int p1), some (.int p2), some (.int v3)] [] (I, L, R, am_SH) (po_M_copies R Q) := by
  intro n
  induction n with
  | zero => intro I L v3 h; exact h.elim
  | succ n ih =>
    intro I L v3 h
    unfold wl_M_copies_2 at h
    refine am_iload_n (n := 3) d_M_copies_2 rfl rfl ?_
    refine am_sipush (n := 6) d_M_copies_3 cs_406 rfl ?_
    refine am_icmp_ge (tgt := 39) (n := 9) d_M_copies_6 rfl rfl (fun c1 => ?_) (fun c1 => ?_)
    · have h := h.1 c1
      refine am_iconst (n := 40) d_M_copies_39 ci_0 rfl ?_
      refine am_istore_n (ls' := [some (.ref q), some (.int p1), some (.int p2), some (.int 0)]) (n := 41) d_M_copies_40 (by decide) rfl rfl ?_
      obtain ⟨n, h⟩ := h
      exact tl_M_copies_41 hw hq hd n I L 0 h
    · have h := h.2 c1
      refine am_aload_n (n := 10) d_M_copies_9 rfl rfl ?_
      refine am_getR (x := (q + 1)) (n := 13) f_M_7 d_M_copies_10 rfl rfl hq (hw.1 q 12 0 1 hq rfl) ?_
      refine am_sipush (n := 16) d_M_copies_13 cs_406 rfl ?_
      refine am_iload_n (n := 17) d_M_copies_16 rfl rfl ?_
      refine am_imul (n := 18) d_M_copies_17 rfl ?_
      refine am_iload_n (n := 19) d_M_copies_18 rfl rfl ?_
      refine am_iadd (n := 20) d_M_copies_19 rfl ?_
      refine am_aload_n (n := 21) d_M_copies_20 rfl rfl ?_
      refine am_getR (x := (q + 1)) (n := 24) f_M_7 d_M_copies_21 rfl rfl hq (hw.1 q 12 0 1 hq rfl) ?_
      refine am_sipush (n := 27) d_M_copies_24 cs_406 rfl ?_
      refine am_iload_n (n := 28) d_M_copies_27 rfl rfl ?_
      refine am_imul (n := 29) d_M_copies_28 rfl ?_
      refine am_iload_n (n := 30) d_M_copies_29 rfl rfl ?_
      refine am_iadd (n := 31) d_M_copies_30 rfl ?_
      obtain ⟨g3, h⟩ := h
      refine am_iald2 (n := 32) d_M_copies_31 rfl (am_sho (k := 0) (o := 1) hq (by decide) (by decide) (by decide) rfl) g3 rfl ?_
      obtain ⟨g4, h⟩ := h
      refine am_iast2 (n := 33) d_M_copies_32 rfl (am_sho (k := 0) (o := 1) hq (by decide) (by decide) (by decide) rfl) g4 rfl ?_
      generalize eI1 : am_u2 I (q + 1) (Int32.toNatClampNeg ((406 * p2) + v3)) (I (q + 1) (Int32.toNatClampNeg ((406 * p1) + v3))) = I1
      have h := h I1 eI1.symm
      refine am_iinc (v := v3 + 1) (ls' := [some (.ref q), some (.int p1), some (.int p2), some (.int (v3 + 1))]) (n := 36) d_M_copies_33 rfl (congrArg _ ci_1) (by decide) rfl rfl ?_
      refine am_goto (tgt := 2) d_M_copies_36 rfl ?_
      exact ih I1 L (v3 + 1)  h
def wp_M_copies (I : am_TI) (L : am_TL) (R : am_TR) (q : Nat) (p1 : Int32) (p2 : Int32)  (Q : am_TI → am_TL → Prop) : Prop := (∃ z, wl_M_copies_2 R q p1 p2 Q z I L 0)
set_option maxRecDepth 20000 in
theorem cm_M_copies {d : Nat} {I : am_TI} {L : am_TL} {R : am_TR}  (hw : am_Wf R)   {q : Nat} {p1 : Int32} {p2 : Int32} {Q : am_TI → am_TL → Prop} (hd : 0 ≤ d) (hq : am_SH[q]? = some (.inl 12)) (h : wp_M_copies I L R q p1 p2  Q) : am_Cm d 0 0 y_M_copies b_M_copies 4 (none) [.ref q, .int p1, .int p2] (I, L, R, am_SH) (po_M_copies R Q) := by
  refine am_Cm_of (ini := false) (by decide +kernel) (fun z => by cases z) (by simp [Value.category]) (fun r σ' z => by obtain ⟨_, _, rfl, -⟩ := z; rfl) ?_
  unfold wp_M_copies at h
  show am_Wp (d, "UnseenRingModel", b_M_copies, 4, false) 0 0 0 [some (.ref q), some (.int p1), some (.int p2), none] [] (I, L, R, am_SH) (po_M_copies R Q)
  refine am_iconst (n := 1) d_M_copies_0 ci_0 rfl ?_
  refine am_istore_n (ls' := [some (.ref q), some (.int p1), some (.int p2), some (.int 0)]) (n := 2) d_M_copies_1 (by decide) rfl rfl ?_
  obtain ⟨n, h⟩ := h
  exact tl_M_copies_2 hw hq hd n I L 0 h
abbrev po_M_mark (R : am_TR) (Q : Int32 → am_TI → am_TL → Prop) : Option Value → am_St → Prop := fun r σ' => ∃ (x : Int32) (I' : am_TI) (L' : am_TL), r = some (.int x) ∧ σ' = (I', L', R, am_SH) ∧ Q x I' L'
def wp_M_mark (I : am_TI) (L : am_TL) (R : am_TR) (q : Nat)  (Q : Int32 → am_TI → am_TL → Prop) : Prop := (((I q 50) = 3 → wp_M_refuse I L R q 4 (fun (r2 : Int32) (I4 : am_TI) => Q r2 I4 L)) ∧ (¬ (I q 50) = 3 → (∀ I1, I1 = am_u2 I q 50 ((I q 50) + 1) → wp_M_copies I1 L R q 0 (I1 q 50) (fun (I2 : am_TI) (L1 : am_TL) => wp_M_gives I2 L1 R q (I2 q 50) (fun (r1 : Int32) (I3 : am_TI) => Q r1 I3 L1)))))
set_option maxRecDepth 20000 in
theorem cm_M_mark {d : Nat} {I : am_TI} {L : am_TL} {R : am_TR}  (hw : am_Wf R)   {q : Nat} {Q : Int32 → am_TI → am_TL → Prop} (hd : 1 ≤ d) (hq : am_SH[q]? = some (.inl 12)) (h : wp_M_mark I L R q  Q) : am_Cm d 0 0 y_M_mark b_M_mark 1 (some .int) [.ref q] (I, L, R, am_SH) (po_M_mark R Q) := by
  refine am_Cm_of (ini := false) (by decide +kernel) (fun z => by cases z) (by simp [Value.category]) (fun r σ' z => by obtain ⟨x, _, _, rfl, -⟩ := z; exact ⟨_, rfl, rfl⟩) ?_
  unfold wp_M_mark at h
  show am_Wp (d, "UnseenRingModel", b_M_mark, 1, false) 0 0 0 [some (.ref q)] [] (I, L, R, am_SH) (po_M_mark R Q)
  refine am_aload_n (n := 1) d_M_mark_0 rfl rfl ?_
  refine am_getI (n := 4) f_M_519 d_M_mark_1 rfl rfl hq ?_
  refine am_iconst (n := 5) d_M_mark_4 ci_3 rfl ?_
  refine am_icmp_ne (tgt := 14) (n := 8) d_M_mark_5 rfl rfl (fun c1 => ?_) (fun c1 => ?_)
  · have h := h.2 c1
    refine am_aload_n (n := 15) d_M_mark_14 rfl rfl ?_
    refine am_dup (n := 16) d_M_mark_15 rfl rfl ?_
    refine am_getI (n := 19) f_M_519 d_M_mark_16 rfl rfl hq ?_
    refine am_iconst (n := 20) d_M_mark_19 ci_1 rfl ?_
    refine am_iadd (n := 21) d_M_mark_20 rfl ?_
    refine am_putI (n := 24) f_M_519 d_M_mark_21 rfl ⟨_, rfl, Or.inl rfl⟩ rfl rfl hq ?_
    generalize eI1 : am_u2 I q 50 ((I q 50) + 1) = I1
    have h := h I1 eI1.symm
    refine am_aload_n (n := 25) d_M_mark_24 rfl rfl ?_
    refine am_iconst (n := 26) d_M_mark_25 ci_0 rfl ?_
    refine am_aload_n (n := 27) d_M_mark_26 rfl rfl ?_
    refine am_getI (n := 30) f_M_519 d_M_mark_27 rfl rfl hq ?_
    refine am_callV (kc := 0) (ks := 0) (As := [.int 0, .int (I1 q 50)]) (n := 33) d_M_mark_30 rfl ce_M_copies lk_M_522 in_M_copies rfl rfl hq rfl rfl (Nat.le_of_ble_eq_true rfl) (Or.inl rfl) (cm_M_copies (d := d - 1) hw (by omega) hq h) (by omega) ?_
    rintro _ _ ⟨I2, L1, rfl, rfl, h⟩
    show am_Wp (d, "UnseenRingModel", b_M_mark, 1, false) 0 0 33 [some (.ref q)] [] (I2, L1, R, am_SH) (po_M_mark R Q)
    refine am_aload_n (n := 34) d_M_mark_33 rfl rfl ?_
    refine am_aload_n (n := 35) d_M_mark_34 rfl rfl ?_
    refine am_getI (n := 38) f_M_519 d_M_mark_35 rfl rfl hq ?_
    refine am_callV (kc := 0) (ks := 0) (As := [.int (I2 q 50)]) (n := 41) d_M_mark_38 rfl ce_M_gives lk_M_125 in_M_gives rfl rfl hq rfl rfl (Nat.le_of_ble_eq_true rfl) (Or.inl rfl) (cm_M_gives (d := d - 1) hw (by omega) hq h) (by omega) ?_
    rintro _ _ ⟨r1, I3, rfl, rfl, h⟩
    show am_Wp (d, "UnseenRingModel", b_M_mark, 1, false) 0 0 41 [some (.ref q)] [.int r1] (I3, L1, R, am_SH) (po_M_mark R Q)
    exact am_iret d_M_mark_41 ⟨r1, I3, L1, rfl, rfl, h⟩
  · have h := h.1 c1
    refine am_aload_n (n := 9) d_M_mark_8 rfl rfl ?_
    refine am_iconst (n := 10) d_M_mark_9 ci_4 rfl ?_
    refine am_callV (kc := 0) (ks := 0) (As := [.int 4]) (n := 13) d_M_mark_10 rfl ce_M_refuse lk_M_121 in_M_refuse rfl rfl hq rfl rfl (Nat.le_of_ble_eq_true rfl) (Or.inl rfl) (cm_M_refuse (d := d - 1) hw (by omega) hq h) (by omega) ?_
    rintro _ _ ⟨r2, I4, rfl, rfl, h⟩
    show am_Wp (d, "UnseenRingModel", b_M_mark, 1, false) 0 0 13 [some (.ref q)] [.int r2] (I4, L, R, am_SH) (po_M_mark R Q)
    exact am_iret d_M_mark_13 ⟨r2, I4, L, rfl, rfl, h⟩
abbrev po_M_undo (R : am_TR) (Q : Int32 → am_TI → am_TL → Prop) : Option Value → am_St → Prop := fun r σ' => ∃ (x : Int32) (I' : am_TI) (L' : am_TL), r = some (.int x) ∧ σ' = (I', L', R, am_SH) ∧ Q x I' L'
def wp_M_undo (I : am_TI) (L : am_TL) (R : am_TR) (q : Nat)  (Q : Int32 → am_TI → am_TL → Prop) : Prop := (((I q 50) = 0 → wp_M_refuse I L R q 6 (fun (r2 : Int32) (I4 : am_TI) => Q r2 I4 L)) ∧ (¬ (I q 50) = 0 → wp_M_copies I L R q (I q 50) 0 (fun (I1 : am_TI) (L1 : am_TL) => (∀ I2, I2 = am_u2 I1 q 50 ((I1 q 50) - 1) → wp_M_gives I2 L1 R q (I2 q 50) (fun (r1 : Int32) (I3 : am_TI) => Q r1 I3 L1)))))
set_option maxRecDepth 20000 in
theorem cm_M_undo {d : Nat} {I : am_TI} {L : am_TL} {R : am_TR}  (hw : am_Wf R)   {q : Nat} {Q : Int32 → am_TI → am_TL → Prop} (hd : 1 ≤ d) (hq : am_SH[q]? = some (.inl 12)) (h : wp_M_undo I L R q  Q) : am_Cm d 0 0 y_M_undo b_M_undo 1 (some .int) [.ref q] (I, L, R, am_SH) (po_M_undo R Q) := by
  refine am_Cm_of (ini := false) (by decide +kernel) (fun z => by cases z) (by simp [Value.category]) (fun r σ' z => by obtain ⟨x, _, _, rfl, -⟩ := z; exact ⟨_, rfl, rfl⟩) ?_
  unfold wp_M_undo at h
  show am_Wp (d, "UnseenRingModel", b_M_undo, 1, false) 0 0 0 [some (.ref q)] [] (I, L, R, am_SH) (po_M_undo R Q)
  refine am_aload_n (n := 1) d_M_undo_0 rfl rfl ?_
  refine am_getI (n := 4) f_M_519 d_M_undo_1 rfl rfl hq ?_
  refine am_if_ne (y := 0) (tgt := 14) (n := 7) d_M_undo_4 rfl rfl (fun c1 => ?_) (fun c1 => ?_)
  · have h := h.2 c1
    refine am_aload_n (n := 15) d_M_undo_14 rfl rfl ?_
    refine am_aload_n (n := 16) d_M_undo_15 rfl rfl ?_
    refine am_getI (n := 19) f_M_519 d_M_undo_16 rfl rfl hq ?_
    refine am_iconst (n := 20) d_M_undo_19 ci_0 rfl ?_
    refine am_callV (kc := 0) (ks := 0) (As := [.int (I q 50), .int 0]) (n := 23) d_M_undo_20 rfl ce_M_copies lk_M_522 in_M_copies rfl rfl hq rfl rfl (Nat.le_of_ble_eq_true rfl) (Or.inl rfl) (cm_M_copies (d := d - 1) hw (by omega) hq h) (by omega) ?_
    rintro _ _ ⟨I1, L1, rfl, rfl, h⟩
    show am_Wp (d, "UnseenRingModel", b_M_undo, 1, false) 0 0 23 [some (.ref q)] [] (I1, L1, R, am_SH) (po_M_undo R Q)
    refine am_aload_n (n := 24) d_M_undo_23 rfl rfl ?_
    refine am_dup (n := 25) d_M_undo_24 rfl rfl ?_
    refine am_getI (n := 28) f_M_519 d_M_undo_25 rfl rfl hq ?_
    refine am_iconst (n := 29) d_M_undo_28 ci_1 rfl ?_
    refine am_isub (n := 30) d_M_undo_29 rfl ?_
    refine am_putI (n := 33) f_M_519 d_M_undo_30 rfl ⟨_, rfl, Or.inl rfl⟩ rfl rfl hq ?_
    generalize eI2 : am_u2 I1 q 50 ((I1 q 50) - 1) = I2
    have h := h I2 eI2.symm
    refine am_aload_n (n := 34) d_M_undo_33 rfl rfl ?_
    refine am_aload_n (n := 35) d_M_undo_34 rfl rfl ?_
    refine am_getI (n := 38) f_M_519 d_M_undo_35 rfl rfl hq ?_
    refine am_callV (kc := 0) (ks := 0) (As := [.int (I2 q 50)]) (n := 41) d_M_undo_38 rfl ce_M_gives lk_M_125 in_M_gives rfl rfl hq rfl rfl (Nat.le_of_ble_eq_true rfl) (Or.inl rfl) (cm_M_gives (d := d - 1) hw (by omega) hq h) (by omega) ?_
    rintro _ _ ⟨r1, I3, rfl, rfl, h⟩
    show am_Wp (d, "UnseenRingModel", b_M_undo, 1, false) 0 0 41 [some (.ref q)] [.int r1] (I3, L1, R, am_SH) (po_M_undo R Q)
    exact am_iret d_M_undo_41 ⟨r1, I3, L1, rfl, rfl, h⟩
  · have h := h.1 c1
    refine am_aload_n (n := 8) d_M_undo_7 rfl rfl ?_
    refine am_bipush (n := 10) d_M_undo_8 cb_6 rfl ?_
    refine am_callV (kc := 0) (ks := 0) (As := [.int 6]) (n := 13) d_M_undo_10 rfl ce_M_refuse lk_M_121 in_M_refuse rfl rfl hq rfl rfl (Nat.le_of_ble_eq_true rfl) (Or.inl rfl) (cm_M_refuse (d := d - 1) hw (by omega) hq h) (by omega) ?_
    rintro _ _ ⟨r2, I4, rfl, rfl, h⟩
    show am_Wp (d, "UnseenRingModel", b_M_undo, 1, false) 0 0 13 [some (.ref q)] [.int r2] (I4, L, R, am_SH) (po_M_undo R Q)
    exact am_iret d_M_undo_13 ⟨r2, I4, L, rfl, rfl, h⟩
