abbrev po_M_test (L : am_TL) (R : am_TR) (Q : Bool → am_TI → Prop) : Option Value → am_St → Prop := fun r σ' => ∃ (x : Bool) (I' : am_TI), r = some (.int (am_b x)) ∧ σ' = (I', L, R, am_SH) ∧ Q x I'
def wb_M_test_151 (L : am_TL) (R : am_TR) (q : Nat) (p1 : Int32) (Q : Bool → am_TI → Prop)  (I : am_TI) (s0 : Nat) (s1 : Int32) (s2 : Bool) (s3 : Int32) : Prop := wp_M_number I L R s0 s1 (am_b s2) s3 (fun (r3 : Bool) (I5 : am_TI) => Q r3 I5)
set_option maxRecDepth 20000 in
theorem tb_M_test_151 {d : Nat}  {L : am_TL} {R : am_TR} {q : Nat} {p1 : Int32} {Q : Bool → am_TI → Prop}  (hw : am_Wf R) (hq : am_SH[q]? = some (.inl 12)) (hd : 5 ≤ d) (I : am_TI) (s0 : Nat) (s1 : Int32) (s2 : Bool) (s3 : Int32) (hs0 : am_SH[s0]? = some (.inl 12)) (h : wb_M_test_151 L R q p1 Q  I s0 s1 s2 s3) : am_Wp (d, "UnseenRingModel", b_M_test, 3, false) 0 0 151 [some (.ref q), some (.int p1), none] [.int s3, .int (am_b s2), .int s1, .ref s0] (I, L, R, am_SH) (po_M_test L R Q) := by
  unfold wb_M_test_151 at h
  refine am_callV (kc := 0) (ks := 0) (As := [.int s1, .int (am_b s2), .int s3]) (n := 154) d_M_test_151 rfl ce_M_number lk_M_219 in_M_number rfl rfl hs0 rfl rfl (Nat.le_of_ble_eq_true rfl) (Or.inl rfl) (cm_M_number (d := d - 1) hw (by omega) hs0 h) (by omega) ?_
  rintro _ _ ⟨r3, I5, rfl, rfl, h⟩
  show am_Wp (d, "UnseenRingModel", b_M_test, 3, false) 0 0 154 [some (.ref q), some (.int p1), none] [.int (am_b r3)] (I5, L, R, am_SH) (po_M_test L R Q)
  exact am_iret d_M_test_154 ⟨r3, I5, rfl, rfl, h⟩
def wb_M_test_116 (L : am_TL) (R : am_TR) (q : Nat) (p1 : Int32) (Q : Bool → am_TI → Prop)  (I : am_TI) (v2 : Int32) : Prop := (vp_in (p1 + 5) 2258 ∧ (∀ I3, I3 = am_u2 I (q + 1) (Int32.toNatClampNeg (p1 + 5)) (I q 15) → wp_M_ahead I3 L R q (fun (I4 : am_TI) => ((v2 = 23 → wb_M_test_151 L R q p1 Q I4 q (p1 + 2) false 9999) ∧ (¬ v2 = 23 → wb_M_test_151 L R q p1 Q I4 q (p1 + 2) false 8)))))
set_option maxRecDepth 20000 in
theorem tb_M_test_116 {d : Nat}  {L : am_TL} {R : am_TR} {q : Nat} {p1 : Int32} {Q : Bool → am_TI → Prop}  (hw : am_Wf R) (hq : am_SH[q]? = some (.inl 12)) (hd : 5 ≤ d) (I : am_TI) (v2 : Int32) (h : wb_M_test_116 L R q p1 Q  I v2) : am_Wp (d, "UnseenRingModel", b_M_test, 3, false) 0 0 116 [some (.ref q), some (.int p1), some (.int v2)] [] (I, L, R, am_SH) (po_M_test L R Q) := by
  unfold wb_M_test_116 at h
  refine am_aload_n (n := 117) d_M_test_116 rfl rfl ?_
  refine am_getR (x := (q + 1)) (n := 120) f_M_7 d_M_test_117 rfl rfl hq (hw.1 q 12 0 1 hq rfl) ?_
  refine am_iload_n (n := 121) d_M_test_120 rfl rfl ?_
  refine am_iconst (n := 122) d_M_test_121 ci_5 rfl ?_
  refine am_iadd (n := 123) d_M_test_122 rfl ?_
  refine am_aload_n (n := 124) d_M_test_123 rfl rfl ?_
  refine am_getI (n := 127) f_M_163 d_M_test_124 rfl rfl hq ?_
  obtain ⟨g2, h⟩ := h
  refine am_iast2 (n := 128) d_M_test_127 rfl (am_sho (k := 0) (o := 1) hq (by decide) (by decide) (by decide) rfl) g2 rfl ?_
  generalize eI3 : am_u2 I (q + 1) (Int32.toNatClampNeg (p1 + 5)) (I q 15) = I3
  have h := h I3 eI3.symm
  refine am_aload_n (n := 129) d_M_test_128 rfl rfl ?_
  refine am_callV (kc := 0) (ks := 0) (As := []) (n := 132) d_M_test_129 rfl ce_M_ahead lk_M_197 in_M_ahead rfl rfl hq rfl rfl (Nat.le_of_ble_eq_true rfl) (Or.inl rfl) (cm_M_ahead (d := d - 1) hw (by omega) hq h) (by omega) ?_
  rintro _ _ ⟨I4, rfl, rfl, h⟩
  show am_Wp (d, "UnseenRingModel", b_M_test, 3, false) 0 0 132 [some (.ref q), some (.int p1), some (.int v2)] [] (I4, L, R, am_SH) (po_M_test L R Q)
  refine am_aload_n (n := 133) d_M_test_132 rfl rfl ?_
  refine am_iload_n (n := 134) d_M_test_133 rfl rfl ?_
  refine am_iconst (n := 135) d_M_test_134 ci_2 rfl ?_
  refine am_iadd (n := 136) d_M_test_135 rfl ?_
  refine am_iconst (n := 137) d_M_test_136 ci_0 rfl ?_
  refine am_iload_n (n := 138) d_M_test_137 rfl rfl ?_
  refine am_bipush (n := 140) d_M_test_138 cb_23 rfl ?_
  refine am_icmp_ne (tgt := 149) (n := 143) d_M_test_140 rfl rfl (fun c6 => ?_) (fun c6 => ?_)
  · have h := h.2 c6
    refine am_bipush (n := 151) d_M_test_149 cb_8 rfl ?_
    refine am_forget (ls' := [some (.ref q), some (.int p1), none]) (am_le_s (am_le_s (am_le_n am_le_e))) ?_
    exact tb_M_test_151 hw hq hd I4 q (p1 + 2) false 8 hq h
  · have h := h.1 c6
    refine am_sipush (n := 146) d_M_test_143 cs_9999 rfl ?_
    refine am_goto (tgt := 151) d_M_test_146 rfl ?_
    refine am_forget (ls' := [some (.ref q), some (.int p1), none]) (am_le_s (am_le_s (am_le_n am_le_e))) ?_
    exact tb_M_test_151 hw hq hd I4 q (p1 + 2) false 9999 hq h
def wb_M_test_75 (L : am_TL) (R : am_TR) (q : Nat) (p1 : Int32) (Q : Bool → am_TI → Prop)  (I : am_TI) (v2 : Int32) : Prop := ((v2 = 22 → Q true I) ∧ (¬ v2 = 22 → wp_M_isSign I L R q 60 (fun (r2 : Bool) => ((r2 = false → wp_M_isSign I L R q 62 (fun (r4 : Bool) => ((r4 = false → wp_M_isSign I L R q 61 (fun (r5 : Bool) => ((r5 = false → wp_M_fails I L R q 2 (fun (r6 : Bool) (I6 : am_TI) => Q r6 I6)) ∧ (r5 = true → wb_M_test_116 L R q p1 Q I v2)))) ∧ (r4 = true → wb_M_test_116 L R q p1 Q I v2)))) ∧ (r2 = true → wb_M_test_116 L R q p1 Q I v2)))))
set_option maxRecDepth 20000 in
theorem tb_M_test_75 {d : Nat}  {L : am_TL} {R : am_TR} {q : Nat} {p1 : Int32} {Q : Bool → am_TI → Prop}  (hw : am_Wf R) (hq : am_SH[q]? = some (.inl 12)) (hd : 5 ≤ d) (I : am_TI) (v2 : Int32) (h : wb_M_test_75 L R q p1 Q  I v2) : am_Wp (d, "UnseenRingModel", b_M_test, 3, false) 0 0 75 [some (.ref q), some (.int p1), some (.int v2)] [] (I, L, R, am_SH) (po_M_test L R Q) := by
  unfold wb_M_test_75 at h
  refine am_iload_n (n := 76) d_M_test_75 rfl rfl ?_
  refine am_bipush (n := 78) d_M_test_76 cb_22 rfl ?_
  refine am_icmp_ne (tgt := 83) (n := 81) d_M_test_78 rfl rfl (fun c4 => ?_) (fun c4 => ?_)
  · have h := h.2 c4
    refine am_aload_n (n := 84) d_M_test_83 rfl rfl ?_
    refine am_bipush (n := 86) d_M_test_84 cb_60 rfl ?_
    refine am_callV (kc := 0) (ks := 0) (As := [.int 60]) (n := 89) d_M_test_86 rfl ce_M_isSign lk_M_200 in_M_isSign rfl rfl hq rfl rfl (Nat.le_of_ble_eq_true rfl) (Or.inl rfl) (cm_M_isSign (d := d - 1) hw (by omega) hq h) (by omega) ?_
    rintro _ _ ⟨r2, rfl, rfl, h⟩
    show am_Wp (d, "UnseenRingModel", b_M_test, 3, false) 0 0 89 [some (.ref q), some (.int p1), some (.int v2)] [.int (am_b r2)] (I, L, R, am_SH) (po_M_test L R Q)
    refine am_if_ne (y := 0) (tgt := 116) (n := 92) d_M_test_89 rfl rfl (fun c5 => ?_) (fun c5 => ?_)
    · have h := h.2 (am_b_n0 c5)
      exact tb_M_test_116 hw hq hd I v2 h
    · have h := h.1 (am_b_0 c5)
      refine am_aload_n (n := 93) d_M_test_92 rfl rfl ?_
      refine am_bipush (n := 95) d_M_test_93 cb_62 rfl ?_
      refine am_callV (kc := 0) (ks := 0) (As := [.int 62]) (n := 98) d_M_test_95 rfl ce_M_isSign lk_M_200 in_M_isSign rfl rfl hq rfl rfl (Nat.le_of_ble_eq_true rfl) (Or.inl rfl) (cm_M_isSign (d := d - 1) hw (by omega) hq h) (by omega) ?_
      rintro _ _ ⟨r4, rfl, rfl, h⟩
      show am_Wp (d, "UnseenRingModel", b_M_test, 3, false) 0 0 98 [some (.ref q), some (.int p1), some (.int v2)] [.int (am_b r4)] (I, L, R, am_SH) (po_M_test L R Q)
      refine am_if_ne (y := 0) (tgt := 116) (n := 101) d_M_test_98 rfl rfl (fun c7 => ?_) (fun c7 => ?_)
      · have h := h.2 (am_b_n0 c7)
        exact tb_M_test_116 hw hq hd I v2 h
      · have h := h.1 (am_b_0 c7)
        refine am_aload_n (n := 102) d_M_test_101 rfl rfl ?_
        refine am_bipush (n := 104) d_M_test_102 cb_61 rfl ?_
        refine am_callV (kc := 0) (ks := 0) (As := [.int 61]) (n := 107) d_M_test_104 rfl ce_M_isSign lk_M_200 in_M_isSign rfl rfl hq rfl rfl (Nat.le_of_ble_eq_true rfl) (Or.inl rfl) (cm_M_isSign (d := d - 1) hw (by omega) hq h) (by omega) ?_
        rintro _ _ ⟨r5, rfl, rfl, h⟩
        show am_Wp (d, "UnseenRingModel", b_M_test, 3, false) 0 0 107 [some (.ref q), some (.int p1), some (.int v2)] [.int (am_b r5)] (I, L, R, am_SH) (po_M_test L R Q)
        refine am_if_ne (y := 0) (tgt := 116) (n := 110) d_M_test_107 rfl rfl (fun c8 => ?_) (fun c8 => ?_)
        · have h := h.2 (am_b_n0 c8)
          exact tb_M_test_116 hw hq hd I v2 h
        · have h := h.1 (am_b_0 c8)
          refine am_aload_n (n := 111) d_M_test_110 rfl rfl ?_
          refine am_iconst (n := 112) d_M_test_111 ci_2 rfl ?_
          refine am_callV (kc := 0) (ks := 0) (As := [.int 2]) (n := 115) d_M_test_112 rfl ce_M_fails lk_M_203 in_M_fails rfl rfl hq rfl rfl (Nat.le_of_ble_eq_true rfl) (Or.inl rfl) (cm_M_fails (d := d - 1) hw (by omega) hq h) (by omega) ?_
          rintro _ _ ⟨r6, I6, rfl, rfl, h⟩
          show am_Wp (d, "UnseenRingModel", b_M_test, 3, false) 0 0 115 [some (.ref q), some (.int p1), some (.int v2)] [.int (am_b r6)] (I6, L, R, am_SH) (po_M_test L R Q)
          exact am_iret d_M_test_115 ⟨r6, I6, rfl, rfl, h⟩
  · have h := h.1 c4
    refine am_iconst (n := 82) d_M_test_81 ci_1 rfl ?_
    exact am_iret d_M_test_82 ⟨true, I, rfl, rfl, h⟩
def wp_M_test (I : am_TI) (L : am_TL) (R : am_TR) (q : Nat) (p1 : Int32)  (Q : Bool → am_TI → Prop) : Prop := wp_M_inWords I L R q 1002 (fun (r1 : Int32) => ((21 ≤ r1 → (vp_in p1 2258 ∧ (∀ I1, I1 = am_u2 I (q + 1) (Int32.toNatClampNeg p1) (1700 + r1) → wp_M_ahead I1 L R q (fun (I2 : am_TI) => ((r1 = 21 → wp_M_number I2 L R q (p1 + 1) 0 ((I2 (q + 1) 4) - 1) (fun (r8 : Bool) (I8 : am_TI) => Q r8 I8)) ∧ (¬ r1 = 21 → ((r1 = 23 → wb_M_test_75 L R q p1 Q I2 r1) ∧ (¬ r1 = 23 → wp_M_hearerTo I2 L R q (p1 + 1) (fun (r7 : Bool) (I7 : am_TI) => ((r7 = false → Q false I7) ∧ (r7 = true → wb_M_test_75 L R q p1 Q I7 r1))))))))))) ∧ (¬ 21 ≤ r1 → wp_M_fails I L R q 2 (fun (r9 : Bool) (I9 : am_TI) => Q r9 I9))))
set_option maxRecDepth 20000 in
theorem cm_M_test {d : Nat} {I : am_TI} {L : am_TL} {R : am_TR}  (hw : am_Wf R)   {q : Nat} {p1 : Int32} {Q : Bool → am_TI → Prop} (hd : 5 ≤ d) (hq : am_SH[q]? = some (.inl 12)) (h : wp_M_test I L R q p1  Q) : am_Cm d 0 0 y_M_test b_M_test 3 (some .boolean) [.ref q, .int p1] (I, L, R, am_SH) (po_M_test L R Q) := by
  refine am_Cm_of (ini := false) (by decide +kernel) (fun z => by cases z) (by simp [Value.category]) (fun r σ' z => by obtain ⟨x, _, rfl, -⟩ := z; exact ⟨_, rfl, am_b_nar x⟩) ?_
  unfold wp_M_test at h
  show am_Wp (d, "UnseenRingModel", b_M_test, 3, false) 0 0 0 [some (.ref q), some (.int p1), none] [] (I, L, R, am_SH) (po_M_test L R Q)
  refine am_aload_n (n := 1) d_M_test_0 rfl rfl ?_
  refine am_ldcS1 (n := 3) d_M_test_1 rfl ?_
  refine am_callV (kc := 0) (ks := 0) (As := [.ref 1002]) (n := 6) d_M_test_3 rfl ce_M_inWords lk_M_206 in_M_inWords rfl rfl hq rfl rfl (Nat.le_of_ble_eq_true rfl) (Or.inl rfl) (cm_M_inWords (d := d - 1) hw (by omega) hq h) (by omega) ?_
  rintro _ _ ⟨r1, rfl, rfl, h⟩
  show am_Wp (d, "UnseenRingModel", b_M_test, 3, false) 0 0 6 [some (.ref q), some (.int p1), none] [.int r1] (I, L, R, am_SH) (po_M_test L R Q)
  refine am_istore_n (ls' := [some (.ref q), some (.int p1), some (.int r1)]) (n := 7) d_M_test_6 (by decide) rfl rfl ?_
  refine am_iload_n (n := 8) d_M_test_7 rfl rfl ?_
  refine am_bipush (n := 10) d_M_test_8 cb_21 rfl ?_
  refine am_icmp_ge (tgt := 19) (n := 13) d_M_test_10 rfl rfl (fun c1 => ?_) (fun c1 => ?_)
  · have h := h.1 c1
    refine am_aload_n (n := 20) d_M_test_19 rfl rfl ?_
    refine am_getR (x := (q + 1)) (n := 23) f_M_7 d_M_test_20 rfl rfl hq (hw.1 q 12 0 1 hq rfl) ?_
    refine am_iload_n (n := 24) d_M_test_23 rfl rfl ?_
    refine am_sipush (n := 27) d_M_test_24 cs_1700 rfl ?_
    refine am_iload_n (n := 28) d_M_test_27 rfl rfl ?_
    refine am_iadd (n := 29) d_M_test_28 rfl ?_
    obtain ⟨g1, h⟩ := h
    refine am_iast2 (n := 30) d_M_test_29 rfl (am_sho (k := 0) (o := 1) hq (by decide) (by decide) (by decide) rfl) g1 rfl ?_
    generalize eI1 : am_u2 I (q + 1) (Int32.toNatClampNeg p1) (1700 + r1) = I1
    have h := h I1 eI1.symm
    refine am_aload_n (n := 31) d_M_test_30 rfl rfl ?_
    refine am_callV (kc := 0) (ks := 0) (As := []) (n := 34) d_M_test_31 rfl ce_M_ahead lk_M_197 in_M_ahead rfl rfl hq rfl rfl (Nat.le_of_ble_eq_true rfl) (Or.inl rfl) (cm_M_ahead (d := d - 1) hw (by omega) hq h) (by omega) ?_
    rintro _ _ ⟨I2, rfl, rfl, h⟩
    show am_Wp (d, "UnseenRingModel", b_M_test, 3, false) 0 0 34 [some (.ref q), some (.int p1), some (.int r1)] [] (I2, L, R, am_SH) (po_M_test L R Q)
    refine am_iload_n (n := 35) d_M_test_34 rfl rfl ?_
    refine am_bipush (n := 37) d_M_test_35 cb_21 rfl ?_
    refine am_icmp_ne (tgt := 57) (n := 40) d_M_test_37 rfl rfl (fun c2 => ?_) (fun c2 => ?_)
    · have h := h.2 c2
      refine am_iload_n (n := 58) d_M_test_57 rfl rfl ?_
      refine am_bipush (n := 60) d_M_test_58 cb_23 rfl ?_
      refine am_icmp_eq (tgt := 75) (n := 63) d_M_test_60 rfl rfl (fun c3 => ?_) (fun c3 => ?_)
      · have h := h.1 c3
        exact tb_M_test_75 hw hq hd I2 r1 h
      · have h := h.2 c3
        refine am_aload_n (n := 64) d_M_test_63 rfl rfl ?_
        refine am_iload_n (n := 65) d_M_test_64 rfl rfl ?_
        refine am_iconst (n := 66) d_M_test_65 ci_1 rfl ?_
        refine am_iadd (n := 67) d_M_test_66 rfl ?_
        refine am_callV (kc := 0) (ks := 0) (As := [.int (p1 + 1)]) (n := 70) d_M_test_67 rfl ce_M_hearerTo lk_M_282 in_M_hearerTo rfl rfl hq rfl rfl (Nat.le_of_ble_eq_true rfl) (Or.inl rfl) (cm_M_hearerTo (d := d - 1) hw (by omega) hq h) (by omega) ?_
        rintro _ _ ⟨r7, I7, rfl, rfl, h⟩
        show am_Wp (d, "UnseenRingModel", b_M_test, 3, false) 0 0 70 [some (.ref q), some (.int p1), some (.int r1)] [.int (am_b r7)] (I7, L, R, am_SH) (po_M_test L R Q)
        refine am_if_ne (y := 0) (tgt := 75) (n := 73) d_M_test_70 rfl rfl (fun c9 => ?_) (fun c9 => ?_)
        · have h := h.2 (am_b_n0 c9)
          exact tb_M_test_75 hw hq hd I7 r1 h
        · have h := h.1 (am_b_0 c9)
          refine am_iconst (n := 74) d_M_test_73 ci_0 rfl ?_
          exact am_iret d_M_test_74 ⟨false, I7, rfl, rfl, h⟩
    · have h := h.1 c2
      refine am_aload_n (n := 41) d_M_test_40 rfl rfl ?_
      refine am_iload_n (n := 42) d_M_test_41 rfl rfl ?_
      refine am_iconst (n := 43) d_M_test_42 ci_1 rfl ?_
      refine am_iadd (n := 44) d_M_test_43 rfl ?_
      refine am_iconst (n := 45) d_M_test_44 ci_0 rfl ?_
      refine am_aload_n (n := 46) d_M_test_45 rfl rfl ?_
      refine am_getR (x := (q + 1)) (n := 49) f_M_7 d_M_test_46 rfl rfl hq (hw.1 q 12 0 1 hq rfl) ?_
      refine am_iconst (n := 50) d_M_test_49 ci_4 rfl ?_
      refine am_iald2 (n := 51) d_M_test_50 rfl (am_sho (k := 0) (o := 1) hq (by decide) (by decide) (by decide) rfl) cx_4_2258 cn_4 ?_
      refine am_iconst (n := 52) d_M_test_51 ci_1 rfl ?_
      refine am_isub (n := 53) d_M_test_52 rfl ?_
      refine am_callV (kc := 0) (ks := 0) (As := [.int (p1 + 1), .int 0, .int ((I2 (q + 1) 4) - 1)]) (n := 56) d_M_test_53 rfl ce_M_number lk_M_219 in_M_number rfl rfl hq rfl rfl (Nat.le_of_ble_eq_true rfl) (Or.inl rfl) (cm_M_number (d := d - 1) hw (by omega) hq h) (by omega) ?_
      rintro _ _ ⟨r8, I8, rfl, rfl, h⟩
      show am_Wp (d, "UnseenRingModel", b_M_test, 3, false) 0 0 56 [some (.ref q), some (.int p1), some (.int r1)] [.int (am_b r8)] (I8, L, R, am_SH) (po_M_test L R Q)
      exact am_iret d_M_test_56 ⟨r8, I8, rfl, rfl, h⟩
  · have h := h.2 c1
    refine am_aload_n (n := 14) d_M_test_13 rfl rfl ?_
    refine am_iconst (n := 15) d_M_test_14 ci_2 rfl ?_
    refine am_callV (kc := 0) (ks := 0) (As := [.int 2]) (n := 18) d_M_test_15 rfl ce_M_fails lk_M_203 in_M_fails rfl rfl hq rfl rfl (Nat.le_of_ble_eq_true rfl) (Or.inl rfl) (cm_M_fails (d := d - 1) hw (by omega) hq h) (by omega) ?_
    rintro _ _ ⟨r9, I9, rfl, rfl, h⟩
    show am_Wp (d, "UnseenRingModel", b_M_test, 3, false) 0 0 18 [some (.ref q), some (.int p1), some (.int r1)] [.int (am_b r9)] (I9, L, R, am_SH) (po_M_test L R Q)
    exact am_iret d_M_test_18 ⟨r9, I9, rfl, rfl, h⟩
abbrev po_M_tuneTo (L : am_TL) (R : am_TR) (Q : Bool → am_TI → Prop) : Option Value → am_St → Prop := fun r σ' => ∃ (x : Bool) (I' : am_TI), r = some (.int (am_b x)) ∧ σ' = (I', L, R, am_SH) ∧ Q x I'
def wp_M_tuneTo (I : am_TI) (L : am_TL) (R : am_TR) (q : Nat) (p1 : Int32)  (Q : Bool → am_TI → Prop) : Prop := wp_M_isName I L R q 1002 (fun (r1 : Bool) => ((r1 = false → wp_M_fails I L R q 2 (fun (r4 : Bool) (I4 : am_TI) => Q r4 I4)) ∧ (r1 = true → wp_M_findHere I L R q 0 (I (q + 1) 2) (fun (r2 : Int32) => (vp_in p1 2258 ∧ (∀ I1, I1 = am_u2 I (q + 1) (Int32.toNatClampNeg p1) r2 → (vp_in p1 2258 ∧ (((I1 (q + 1) (Int32.toNatClampNeg p1)) = (-1) → wp_M_fails I1 L R q 3 (fun (r3 : Bool) (I3 : am_TI) => Q r3 I3)) ∧ (¬ (I1 (q + 1) (Int32.toNatClampNeg p1)) = (-1) → wp_M_ahead I1 L R q (fun (I2 : am_TI) => Q true I2))))))))))
set_option maxRecDepth 20000 in
theorem cm_M_tuneTo {d : Nat} {I : am_TI} {L : am_TL} {R : am_TR}  (hw : am_Wf R)   {q : Nat} {p1 : Int32} {Q : Bool → am_TI → Prop} (hd : 6 ≤ d) (hq : am_SH[q]? = some (.inl 12)) (h : wp_M_tuneTo I L R q p1  Q) : am_Cm d 0 0 y_M_tuneTo b_M_tuneTo 2 (some .boolean) [.ref q, .int p1] (I, L, R, am_SH) (po_M_tuneTo L R Q) := by
  refine am_Cm_of (ini := false) (by decide +kernel) (fun z => by cases z) (by simp [Value.category]) (fun r σ' z => by obtain ⟨x, _, rfl, -⟩ := z; exact ⟨_, rfl, am_b_nar x⟩) ?_
  unfold wp_M_tuneTo at h
  show am_Wp (d, "UnseenRingModel", b_M_tuneTo, 2, false) 0 0 0 [some (.ref q), some (.int p1)] [] (I, L, R, am_SH) (po_M_tuneTo L R Q)
  refine am_aload_n (n := 1) d_M_tuneTo_0 rfl rfl ?_
  refine am_ldcS1 (n := 3) d_M_tuneTo_1 rfl ?_
  refine am_callV (kc := 0) (ks := 0) (As := [.ref 1002]) (n := 6) d_M_tuneTo_3 rfl ce_M_isName lk_M_234 in_M_isName rfl rfl hq rfl rfl (Nat.le_of_ble_eq_true rfl) (Or.inl rfl) (cm_M_isName (d := d - 1) hw (by omega) hq h) (by omega) ?_
  rintro _ _ ⟨r1, rfl, rfl, h⟩
  show am_Wp (d, "UnseenRingModel", b_M_tuneTo, 2, false) 0 0 6 [some (.ref q), some (.int p1)] [.int (am_b r1)] (I, L, R, am_SH) (po_M_tuneTo L R Q)
  refine am_if_ne (y := 0) (tgt := 15) (n := 9) d_M_tuneTo_6 rfl rfl (fun c1 => ?_) (fun c1 => ?_)
  · have h := h.2 (am_b_n0 c1)
    refine am_aload_n (n := 16) d_M_tuneTo_15 rfl rfl ?_
    refine am_getR (x := (q + 1)) (n := 19) f_M_7 d_M_tuneTo_16 rfl rfl hq (hw.1 q 12 0 1 hq rfl) ?_
    refine am_iload_n (n := 20) d_M_tuneTo_19 rfl rfl ?_
    refine am_aload_n (n := 21) d_M_tuneTo_20 rfl rfl ?_
    refine am_iconst (n := 22) d_M_tuneTo_21 ci_0 rfl ?_
    refine am_aload_n (n := 23) d_M_tuneTo_22 rfl rfl ?_
    refine am_getR (x := (q + 1)) (n := 26) f_M_7 d_M_tuneTo_23 rfl rfl hq (hw.1 q 12 0 1 hq rfl) ?_
    refine am_iconst (n := 27) d_M_tuneTo_26 ci_2 rfl ?_
    refine am_iald2 (n := 28) d_M_tuneTo_27 rfl (am_sho (k := 0) (o := 1) hq (by decide) (by decide) (by decide) rfl) cx_2_2258 cn_2 ?_
    refine am_callV (kc := 0) (ks := 0) (As := [.int 0, .int (I (q + 1) 2)]) (n := 31) d_M_tuneTo_28 rfl ce_M_findHere lk_M_238 in_M_findHere rfl rfl hq rfl rfl (Nat.le_of_ble_eq_true rfl) (Or.inl rfl) (cm_M_findHere (d := d - 1) hw (by omega) hq h) (by omega) ?_
    rintro _ _ ⟨r2, rfl, rfl, h⟩
    show am_Wp (d, "UnseenRingModel", b_M_tuneTo, 2, false) 0 0 31 [some (.ref q), some (.int p1)] [.int r2, .int p1, .ref (q + 1)] (I, L, R, am_SH) (po_M_tuneTo L R Q)
    obtain ⟨g1, h⟩ := h
    refine am_iast2 (n := 32) d_M_tuneTo_31 rfl (am_sho (k := 0) (o := 1) hq (by decide) (by decide) (by decide) rfl) g1 rfl ?_
    generalize eI1 : am_u2 I (q + 1) (Int32.toNatClampNeg p1) r2 = I1
    have h := h I1 eI1.symm
    refine am_aload_n (n := 33) d_M_tuneTo_32 rfl rfl ?_
    refine am_getR (x := (q + 1)) (n := 36) f_M_7 d_M_tuneTo_33 rfl rfl hq (hw.1 q 12 0 1 hq rfl) ?_
    refine am_iload_n (n := 37) d_M_tuneTo_36 rfl rfl ?_
    obtain ⟨g2, h⟩ := h
    refine am_iald2 (n := 38) d_M_tuneTo_37 rfl (am_sho (k := 0) (o := 1) hq (by decide) (by decide) (by decide) rfl) g2 rfl ?_
    refine am_iconst (n := 39) d_M_tuneTo_38 ci_m1 rfl ?_
    refine am_icmp_ne (tgt := 48) (n := 42) d_M_tuneTo_39 rfl rfl (fun c2 => ?_) (fun c2 => ?_)
    · have h := h.2 c2
      refine am_aload_n (n := 49) d_M_tuneTo_48 rfl rfl ?_
      refine am_callV (kc := 0) (ks := 0) (As := []) (n := 52) d_M_tuneTo_49 rfl ce_M_ahead lk_M_197 in_M_ahead rfl rfl hq rfl rfl (Nat.le_of_ble_eq_true rfl) (Or.inl rfl) (cm_M_ahead (d := d - 1) hw (by omega) hq h) (by omega) ?_
      rintro _ _ ⟨I2, rfl, rfl, h⟩
      show am_Wp (d, "UnseenRingModel", b_M_tuneTo, 2, false) 0 0 52 [some (.ref q), some (.int p1)] [] (I2, L, R, am_SH) (po_M_tuneTo L R Q)
      refine am_iconst (n := 53) d_M_tuneTo_52 ci_1 rfl ?_
      exact am_iret d_M_tuneTo_53 ⟨true, I2, rfl, rfl, h⟩
    · have h := h.1 c2
      refine am_aload_n (n := 43) d_M_tuneTo_42 rfl rfl ?_
      refine am_iconst (n := 44) d_M_tuneTo_43 ci_3 rfl ?_
      refine am_callV (kc := 0) (ks := 0) (As := [.int 3]) (n := 47) d_M_tuneTo_44 rfl ce_M_fails lk_M_203 in_M_fails rfl rfl hq rfl rfl (Nat.le_of_ble_eq_true rfl) (Or.inl rfl) (cm_M_fails (d := d - 1) hw (by omega) hq h) (by omega) ?_
      rintro _ _ ⟨r3, I3, rfl, rfl, h⟩
      show am_Wp (d, "UnseenRingModel", b_M_tuneTo, 2, false) 0 0 47 [some (.ref q), some (.int p1)] [.int (am_b r3)] (I3, L, R, am_SH) (po_M_tuneTo L R Q)
      exact am_iret d_M_tuneTo_47 ⟨r3, I3, rfl, rfl, h⟩
  · have h := h.1 (am_b_0 c1)
    refine am_aload_n (n := 10) d_M_tuneTo_9 rfl rfl ?_
    refine am_iconst (n := 11) d_M_tuneTo_10 ci_2 rfl ?_
    refine am_callV (kc := 0) (ks := 0) (As := [.int 2]) (n := 14) d_M_tuneTo_11 rfl ce_M_fails lk_M_203 in_M_fails rfl rfl hq rfl rfl (Nat.le_of_ble_eq_true rfl) (Or.inl rfl) (cm_M_fails (d := d - 1) hw (by omega) hq h) (by omega) ?_
    rintro _ _ ⟨r4, I4, rfl, rfl, h⟩
    show am_Wp (d, "UnseenRingModel", b_M_tuneTo, 2, false) 0 0 14 [some (.ref q), some (.int p1)] [.int (am_b r4)] (I4, L, R, am_SH) (po_M_tuneTo L R Q)
    exact am_iret d_M_tuneTo_14 ⟨r4, I4, rfl, rfl, h⟩
abbrev po_M_dayOrder (L : am_TL) (R : am_TR) (Q : Bool → am_TI → Prop) : Option Value → am_St → Prop := fun r σ' => ∃ (x : Bool) (I' : am_TI), r = some (.int (am_b x)) ∧ σ' = (I', L, R, am_SH) ∧ Q x I'
def wp_M_dayOrder (I : am_TI) (L : am_TL) (R : am_TR) (q : Nat) (p1 : Int32) (p2 : Int32)  (Q : Bool → am_TI → Prop) : Prop := ((p1 = 10 → wp_M_tuneTo I L R q (p2 + 1) (fun (r1 : Bool) (I1 : am_TI) => Q r1 I1)) ∧ (p1 = 11 → wp_M_cellTo I L R q (p2 + 1) (fun (r2 : Bool) (I2 : am_TI) => Q r2 I2)) ∧ (p1 = 12 → wp_M_cellTo I L R q (p2 + 1) (fun (r3 : Bool) (I3 : am_TI) => Q r3 I3)) ∧ (p1 = 13 → Q true I) ∧ (p1 = 14 → wp_M_hearerTo I L R q (p2 + 1) (fun (r4 : Bool) (I4 : am_TI) => ((r4 = false → Q false I4) ∧ (r4 = true → wp_M_cellTo I4 L R q (p2 + 2) (fun (r5 : Bool) (I5 : am_TI) => ((r5 = false → Q false I5) ∧ (r5 = true → Q true I5))))))) ∧ (p1 = 15 → Q true I) ∧ (p1 = 16 → Q true I) ∧ (p1 = 17 → wp_M_test I L R q p2 (fun (r6 : Bool) (I6 : am_TI) => Q r6 I6)) ∧ (p1 = 18 → wp_M_number I L R q (p2 + 1) 1 99 (fun (r7 : Bool) (I7 : am_TI) => Q r7 I7)) ∧ (¬ p1 = 10 → ¬ p1 = 11 → ¬ p1 = 12 → ¬ p1 = 13 → ¬ p1 = 14 → ¬ p1 = 15 → ¬ p1 = 16 → ¬ p1 = 17 → ¬ p1 = 18 → Q true I))
set_option maxRecDepth 20000 in
theorem cm_M_dayOrder {d : Nat} {I : am_TI} {L : am_TL} {R : am_TR}  (hw : am_Wf R)   {q : Nat} {p1 : Int32} {p2 : Int32} {Q : Bool → am_TI → Prop} (hd : 7 ≤ d) (hq : am_SH[q]? = some (.inl 12)) (h : wp_M_dayOrder I L R q p1 p2  Q) : am_Cm d 0 0 y_M_dayOrder b_M_dayOrder 3 (some .boolean) [.ref q, .int p1, .int p2] (I, L, R, am_SH) (po_M_dayOrder L R Q) := by
  refine am_Cm_of (ini := false) (by decide +kernel) (fun z => by cases z) (by simp [Value.category]) (fun r σ' z => by obtain ⟨x, _, rfl, -⟩ := z; exact ⟨_, rfl, am_b_nar x⟩) ?_
  unfold wp_M_dayOrder at h
  show am_Wp (d, "UnseenRingModel", b_M_dayOrder, 3, false) 0 0 0 [some (.ref q), some (.int p1), some (.int p2)] [] (I, L, R, am_SH) (po_M_dayOrder L R Q)
  refine am_iload_n (n := 1) d_M_dayOrder_0 rfl rfl ?_
  by_cases c1 : p1 = 10
  · have h := h.1 c1
    refine am_tableIn (off := 51) (tgt := 52) d_M_dayOrder_1 (by rw [c1]; decide) (by rw [c1]; decide) (by rw [c1]; decide +kernel) rfl ?_
    refine am_aload_n (n := 53) d_M_dayOrder_52 rfl rfl ?_
    refine am_iload_n (n := 54) d_M_dayOrder_53 rfl rfl ?_
    refine am_iconst (n := 55) d_M_dayOrder_54 ci_1 rfl ?_
    refine am_iadd (n := 56) d_M_dayOrder_55 rfl ?_
    refine am_callV (kc := 0) (ks := 0) (As := [.int (p2 + 1)]) (n := 59) d_M_dayOrder_56 rfl ce_M_tuneTo lk_M_285 in_M_tuneTo rfl rfl hq rfl rfl (Nat.le_of_ble_eq_true rfl) (Or.inl rfl) (cm_M_tuneTo (d := d - 1) hw (by omega) hq h) (by omega) ?_
    rintro _ _ ⟨r1, I1, rfl, rfl, h⟩
    show am_Wp (d, "UnseenRingModel", b_M_dayOrder, 3, false) 0 0 59 [some (.ref q), some (.int p1), some (.int p2)] [.int (am_b r1)] (I1, L, R, am_SH) (po_M_dayOrder L R Q)
    exact am_iret d_M_dayOrder_59 ⟨r1, I1, rfl, rfl, h⟩
  by_cases c2 : p1 = 11
  · have h := h.2.1 c2
    refine am_tableIn (off := 59) (tgt := 60) d_M_dayOrder_1 (by rw [c2]; decide) (by rw [c2]; decide) (by rw [c2]; decide +kernel) rfl ?_
    refine am_aload_n (n := 61) d_M_dayOrder_60 rfl rfl ?_
    refine am_iload_n (n := 62) d_M_dayOrder_61 rfl rfl ?_
    refine am_iconst (n := 63) d_M_dayOrder_62 ci_1 rfl ?_
    refine am_iadd (n := 64) d_M_dayOrder_63 rfl ?_
    refine am_callV (kc := 0) (ks := 0) (As := [.int (p2 + 1)]) (n := 67) d_M_dayOrder_64 rfl ce_M_cellTo lk_M_288 in_M_cellTo rfl rfl hq rfl rfl (Nat.le_of_ble_eq_true rfl) (Or.inl rfl) (cm_M_cellTo (d := d - 1) hw (by omega) hq h) (by omega) ?_
    rintro _ _ ⟨r2, I2, rfl, rfl, h⟩
    show am_Wp (d, "UnseenRingModel", b_M_dayOrder, 3, false) 0 0 67 [some (.ref q), some (.int p1), some (.int p2)] [.int (am_b r2)] (I2, L, R, am_SH) (po_M_dayOrder L R Q)
    exact am_iret d_M_dayOrder_67 ⟨r2, I2, rfl, rfl, h⟩
  by_cases c3 : p1 = 12
  · have h := h.2.2.1 c3
    refine am_tableIn (off := 59) (tgt := 60) d_M_dayOrder_1 (by rw [c3]; decide) (by rw [c3]; decide) (by rw [c3]; decide +kernel) rfl ?_
    refine am_aload_n (n := 61) d_M_dayOrder_60 rfl rfl ?_
    refine am_iload_n (n := 62) d_M_dayOrder_61 rfl rfl ?_
    refine am_iconst (n := 63) d_M_dayOrder_62 ci_1 rfl ?_
    refine am_iadd (n := 64) d_M_dayOrder_63 rfl ?_
    refine am_callV (kc := 0) (ks := 0) (As := [.int (p2 + 1)]) (n := 67) d_M_dayOrder_64 rfl ce_M_cellTo lk_M_288 in_M_cellTo rfl rfl hq rfl rfl (Nat.le_of_ble_eq_true rfl) (Or.inl rfl) (cm_M_cellTo (d := d - 1) hw (by omega) hq h) (by omega) ?_
    rintro _ _ ⟨r3, I3, rfl, rfl, h⟩
    show am_Wp (d, "UnseenRingModel", b_M_dayOrder, 3, false) 0 0 67 [some (.ref q), some (.int p1), some (.int p2)] [.int (am_b r3)] (I3, L, R, am_SH) (po_M_dayOrder L R Q)
    exact am_iret d_M_dayOrder_67 ⟨r3, I3, rfl, rfl, h⟩
  by_cases c4 : p1 = 13
  · have h := h.2.2.2.1 c4
    refine am_tableIn (off := 110) (tgt := 111) d_M_dayOrder_1 (by rw [c4]; decide) (by rw [c4]; decide) (by rw [c4]; decide +kernel) rfl ?_
    refine am_iconst (n := 112) d_M_dayOrder_111 ci_1 rfl ?_
    exact am_iret d_M_dayOrder_112 ⟨true, I, rfl, rfl, h⟩
  by_cases c5 : p1 = 14
  · have h := h.2.2.2.2.1 c5
    refine am_tableIn (off := 67) (tgt := 68) d_M_dayOrder_1 (by rw [c5]; decide) (by rw [c5]; decide) (by rw [c5]; decide +kernel) rfl ?_
    refine am_aload_n (n := 69) d_M_dayOrder_68 rfl rfl ?_
    refine am_iload_n (n := 70) d_M_dayOrder_69 rfl rfl ?_
    refine am_iconst (n := 71) d_M_dayOrder_70 ci_1 rfl ?_
    refine am_iadd (n := 72) d_M_dayOrder_71 rfl ?_
    refine am_callV (kc := 0) (ks := 0) (As := [.int (p2 + 1)]) (n := 75) d_M_dayOrder_72 rfl ce_M_hearerTo lk_M_282 in_M_hearerTo rfl rfl hq rfl rfl (Nat.le_of_ble_eq_true rfl) (Or.inl rfl) (cm_M_hearerTo (d := d - 1) hw (by omega) hq h) (by omega) ?_
    rintro _ _ ⟨r4, I4, rfl, rfl, h⟩
    show am_Wp (d, "UnseenRingModel", b_M_dayOrder, 3, false) 0 0 75 [some (.ref q), some (.int p1), some (.int p2)] [.int (am_b r4)] (I4, L, R, am_SH) (po_M_dayOrder L R Q)
    refine am_if_eq (y := 0) (tgt := 92) (n := 78) d_M_dayOrder_75 rfl rfl (fun c6 => ?_) (fun c6 => ?_)
    · have h := h.1 (am_b_0 c6)
      refine am_iconst (n := 93) d_M_dayOrder_92 ci_0 rfl ?_
      exact am_iret d_M_dayOrder_93 ⟨false, I4, rfl, rfl, h⟩
    · have h := h.2 (am_b_n0 c6)
      refine am_aload_n (n := 79) d_M_dayOrder_78 rfl rfl ?_
      refine am_iload_n (n := 80) d_M_dayOrder_79 rfl rfl ?_
      refine am_iconst (n := 81) d_M_dayOrder_80 ci_2 rfl ?_
      refine am_iadd (n := 82) d_M_dayOrder_81 rfl ?_
      refine am_callV (kc := 0) (ks := 0) (As := [.int (p2 + 2)]) (n := 85) d_M_dayOrder_82 rfl ce_M_cellTo lk_M_288 in_M_cellTo rfl rfl hq rfl rfl (Nat.le_of_ble_eq_true rfl) (Or.inl rfl) (cm_M_cellTo (d := d - 1) hw (by omega) hq h) (by omega) ?_
      rintro _ _ ⟨r5, I5, rfl, rfl, h⟩
      show am_Wp (d, "UnseenRingModel", b_M_dayOrder, 3, false) 0 0 85 [some (.ref q), some (.int p1), some (.int p2)] [.int (am_b r5)] (I5, L, R, am_SH) (po_M_dayOrder L R Q)
      refine am_if_eq (y := 0) (tgt := 92) (n := 88) d_M_dayOrder_85 rfl rfl (fun c7 => ?_) (fun c7 => ?_)
      · have h := h.1 (am_b_0 c7)
        refine am_iconst (n := 93) d_M_dayOrder_92 ci_0 rfl ?_
        exact am_iret d_M_dayOrder_93 ⟨false, I5, rfl, rfl, h⟩
      · have h := h.2 (am_b_n0 c7)
        refine am_iconst (n := 89) d_M_dayOrder_88 ci_1 rfl ?_
        refine am_goto (tgt := 93) d_M_dayOrder_89 rfl ?_
        exact am_iret d_M_dayOrder_93 ⟨true, I5, rfl, rfl, h⟩
  by_cases c8 : p1 = 15
  · have h := h.2.2.2.2.2.1 c8
    refine am_tableIn (off := 110) (tgt := 111) d_M_dayOrder_1 (by rw [c8]; decide) (by rw [c8]; decide) (by rw [c8]; decide +kernel) rfl ?_
    refine am_iconst (n := 112) d_M_dayOrder_111 ci_1 rfl ?_
    exact am_iret d_M_dayOrder_112 ⟨true, I, rfl, rfl, h⟩
  by_cases c9 : p1 = 16
  · have h := h.2.2.2.2.2.2.1 c9
    refine am_tableIn (off := 110) (tgt := 111) d_M_dayOrder_1 (by rw [c9]; decide) (by rw [c9]; decide) (by rw [c9]; decide +kernel) rfl ?_
    refine am_iconst (n := 112) d_M_dayOrder_111 ci_1 rfl ?_
    exact am_iret d_M_dayOrder_112 ⟨true, I, rfl, rfl, h⟩
  by_cases c10 : p1 = 17
  · have h := h.2.2.2.2.2.2.2.1 c10
    refine am_tableIn (off := 104) (tgt := 105) d_M_dayOrder_1 (by rw [c10]; decide) (by rw [c10]; decide) (by rw [c10]; decide +kernel) rfl ?_
    refine am_aload_n (n := 106) d_M_dayOrder_105 rfl rfl ?_
    refine am_iload_n (n := 107) d_M_dayOrder_106 rfl rfl ?_
    refine am_callV (kc := 0) (ks := 0) (As := [.int p2]) (n := 110) d_M_dayOrder_107 rfl ce_M_test lk_M_291 in_M_test rfl rfl hq rfl rfl (Nat.le_of_ble_eq_true rfl) (Or.inl rfl) (cm_M_test (d := d - 1) hw (by omega) hq h) (by omega) ?_
    rintro _ _ ⟨r6, I6, rfl, rfl, h⟩
    show am_Wp (d, "UnseenRingModel", b_M_dayOrder, 3, false) 0 0 110 [some (.ref q), some (.int p1), some (.int p2)] [.int (am_b r6)] (I6, L, R, am_SH) (po_M_dayOrder L R Q)
    exact am_iret d_M_dayOrder_110 ⟨r6, I6, rfl, rfl, h⟩
  by_cases c11 : p1 = 18
  · have h := h.2.2.2.2.2.2.2.2.1 c11
    refine am_tableIn (off := 93) (tgt := 94) d_M_dayOrder_1 (by rw [c11]; decide) (by rw [c11]; decide) (by rw [c11]; decide +kernel) rfl ?_
    refine am_aload_n (n := 95) d_M_dayOrder_94 rfl rfl ?_
    refine am_iload_n (n := 96) d_M_dayOrder_95 rfl rfl ?_
    refine am_iconst (n := 97) d_M_dayOrder_96 ci_1 rfl ?_
    refine am_iadd (n := 98) d_M_dayOrder_97 rfl ?_
    refine am_iconst (n := 99) d_M_dayOrder_98 ci_1 rfl ?_
    refine am_bipush (n := 101) d_M_dayOrder_99 cb_99 rfl ?_
    refine am_callV (kc := 0) (ks := 0) (As := [.int (p2 + 1), .int 1, .int 99]) (n := 104) d_M_dayOrder_101 rfl ce_M_number lk_M_219 in_M_number rfl rfl hq rfl rfl (Nat.le_of_ble_eq_true rfl) (Or.inl rfl) (cm_M_number (d := d - 1) hw (by omega) hq h) (by omega) ?_
    rintro _ _ ⟨r7, I7, rfl, rfl, h⟩
    show am_Wp (d, "UnseenRingModel", b_M_dayOrder, 3, false) 0 0 104 [some (.ref q), some (.int p1), some (.int p2)] [.int (am_b r7)] (I7, L, R, am_SH) (po_M_dayOrder L R Q)
    exact am_iret d_M_dayOrder_104 ⟨r7, I7, rfl, rfl, h⟩
  have h := h.2.2.2.2.2.2.2.2.2 c1 c2 c3 c4 c5 c8 c9 c10 c11
  have z0 := lv_neT c1 (a := 10) (by decide)
  have z1 := lv_neT c2 (a := 11) (by decide)
  have z2 := lv_neT c3 (a := 12) (by decide)
  have z3 := lv_neT c4 (a := 13) (by decide)
  have z4 := lv_neT c5 (a := 14) (by decide)
  have z5 := lv_neT c8 (a := 15) (by decide)
  have z6 := lv_neT c9 (a := 16) (by decide)
  have z7 := lv_neT c10 (a := 17) (by decide)
  have z8 := lv_neT c11 (a := 18) (by decide)
  refine am_tableOut (tgt := 111) d_M_dayOrder_1 (by omega) rfl ?_
  refine am_iconst (n := 112) d_M_dayOrder_111 ci_1 rfl ?_
  exact am_iret d_M_dayOrder_112 ⟨true, I, rfl, rfl, h⟩
abbrev po_M_dayStep (L : am_TL) (R : am_TR) (Q : Bool → am_TI → Prop) : Option Value → am_St → Prop := fun r σ' => ∃ (x : Bool) (I' : am_TI), r = some (.int (am_b x)) ∧ σ' = (I', L, R, am_SH) ∧ Q x I'
def wb_M_dayStep_69 (L : am_TL) (R : am_TR) (q : Nat) (Q : Bool → am_TI → Prop)  (I : am_TI) : Prop := wp_M_fails I L R q 2 (fun (r2 : Bool) (I1 : am_TI) => Q r2 I1)
set_option maxRecDepth 20000 in
theorem tb_M_dayStep_69 {d : Nat}  {L : am_TL} {R : am_TR} {q : Nat} {Q : Bool → am_TI → Prop}  (hw : am_Wf R) (hq : am_SH[q]? = some (.inl 12)) (hd : 8 ≤ d) (I : am_TI) (h : wb_M_dayStep_69 L R q Q  I) : am_Wp (d, "UnseenRingModel", b_M_dayStep, 6, false) 0 0 69 [some (.ref q), none, none, none, none, none] [] (I, L, R, am_SH) (po_M_dayStep L R Q) := by
  unfold wb_M_dayStep_69 at h
  refine am_aload_n (n := 70) d_M_dayStep_69 rfl rfl ?_
  refine am_iconst (n := 71) d_M_dayStep_70 ci_2 rfl ?_
  refine am_callV (kc := 0) (ks := 0) (As := [.int 2]) (n := 74) d_M_dayStep_71 rfl ce_M_fails lk_M_203 in_M_fails rfl rfl hq rfl rfl (Nat.le_of_ble_eq_true rfl) (Or.inl rfl) (cm_M_fails (d := d - 1) hw (by omega) hq h) (by omega) ?_
  rintro _ _ ⟨r2, I1, rfl, rfl, h⟩
  show am_Wp (d, "UnseenRingModel", b_M_dayStep, 6, false) 0 0 74 [some (.ref q), none, none, none, none, none] [.int (am_b r2)] (I1, L, R, am_SH) (po_M_dayStep L R Q)
  exact am_iret d_M_dayStep_74 ⟨r2, I1, rfl, rfl, h⟩
def wb_M_dayStep_279 (L : am_TL) (R : am_TR) (q : Nat) (Q : Bool → am_TI → Prop)  (I : am_TI) : Prop := wp_M_wantSign I L R q 59 (fun (r4 : Bool) (I7 : am_TI) => Q r4 I7)
set_option maxRecDepth 20000 in
theorem tb_M_dayStep_279 {d : Nat}  {L : am_TL} {R : am_TR} {q : Nat} {Q : Bool → am_TI → Prop}  (hw : am_Wf R) (hq : am_SH[q]? = some (.inl 12)) (hd : 8 ≤ d) (I : am_TI) (h : wb_M_dayStep_279 L R q Q  I) : am_Wp (d, "UnseenRingModel", b_M_dayStep, 6, false) 0 0 279 [some (.ref q), none, none, none, none, none] [] (I, L, R, am_SH) (po_M_dayStep L R Q) := by
  unfold wb_M_dayStep_279 at h
  refine am_aload_n (n := 280) d_M_dayStep_279 rfl rfl ?_
  refine am_bipush (n := 282) d_M_dayStep_280 cb_59 rfl ?_
  refine am_callV (kc := 0) (ks := 0) (As := [.int 59]) (n := 285) d_M_dayStep_282 rfl ce_M_wantSign lk_M_270 in_M_wantSign rfl rfl hq rfl rfl (Nat.le_of_ble_eq_true rfl) (Or.inl rfl) (cm_M_wantSign (d := d - 1) hw (by omega) hq h) (by omega) ?_
  rintro _ _ ⟨r4, I7, rfl, rfl, h⟩
  show am_Wp (d, "UnseenRingModel", b_M_dayStep, 6, false) 0 0 285 [some (.ref q), none, none, none, none, none] [.int (am_b r4)] (I7, L, R, am_SH) (po_M_dayStep L R Q)
  exact am_iret d_M_dayStep_285 ⟨r4, I7, rfl, rfl, h⟩
def wb_M_dayStep_222 (L : am_TL) (R : am_TR) (q : Nat) (Q : Bool → am_TI → Prop)  (I : am_TI) (v1 : Int32) (v2 : Int32) (v3 : Int32) : Prop := ((v1 = 19 → (∀ I8, I8 = am_u2 I q 22 ((I q 22) - 1) → (vp_in (I8 q 22) 3 ∧ (vp_in (v3 + 4) 2258 ∧ (∀ I9, I9 = am_u2 I8 (q + 1) (Int32.toNatClampNeg (v3 + 4)) (I8 (q + 8) (Int32.toNatClampNeg (I8 q 22))) → (vp_in (I9 q 22) 3 ∧ (vp_in ((1662 + (6 * (I9 (q + 8) (Int32.toNatClampNeg (I9 q 22))))) + 4) 2258 ∧ (∀ I10, I10 = am_u2 I9 (q + 1) (Int32.toNatClampNeg ((1662 + (6 * (I9 (q + 8) (Int32.toNatClampNeg (I9 q 22))))) + 4)) v2 → wb_M_dayStep_279 L R q Q I10)))))))) ∧ (¬ v1 = 19 → wb_M_dayStep_279 L R q Q I))
set_option maxRecDepth 20000 in
theorem tb_M_dayStep_222 {d : Nat}  {L : am_TL} {R : am_TR} {q : Nat} {Q : Bool → am_TI → Prop}  (hw : am_Wf R) (hq : am_SH[q]? = some (.inl 12)) (hd : 8 ≤ d) (I : am_TI) (v1 : Int32) (v2 : Int32) (v3 : Int32) (h : wb_M_dayStep_222 L R q Q  I v1 v2 v3) : am_Wp (d, "UnseenRingModel", b_M_dayStep, 6, false) 0 0 222 [some (.ref q), some (.int v1), some (.int v2), some (.int v3), none, none] [] (I, L, R, am_SH) (po_M_dayStep L R Q) := by
  unfold wb_M_dayStep_222 at h
  refine am_iload_n (n := 223) d_M_dayStep_222 rfl rfl ?_
  refine am_bipush (n := 225) d_M_dayStep_223 cb_19 rfl ?_
  refine am_icmp_ne (tgt := 279) (n := 228) d_M_dayStep_225 rfl rfl (fun c11 => ?_) (fun c11 => ?_)
  · have h := h.2 c11
    refine am_forget (ls' := [some (.ref q), none, none, none, none, none]) (am_le_s (am_le_n (am_le_n (am_le_n (am_le_n (am_le_n am_le_e)))))) ?_
    exact tb_M_dayStep_279 hw hq hd I h
  · have h := h.1 c11
    refine am_aload_n (n := 229) d_M_dayStep_228 rfl rfl ?_
    refine am_dup (n := 230) d_M_dayStep_229 rfl rfl ?_
    refine am_getI (n := 233) f_M_294 d_M_dayStep_230 rfl rfl hq ?_
    refine am_iconst (n := 234) d_M_dayStep_233 ci_1 rfl ?_
    refine am_isub (n := 235) d_M_dayStep_234 rfl ?_
    refine am_putI (n := 238) f_M_294 d_M_dayStep_235 rfl ⟨_, rfl, Or.inl rfl⟩ rfl rfl hq ?_
    generalize eI8 : am_u2 I q 22 ((I q 22) - 1) = I8
    have h := h I8 eI8.symm
    refine am_aload_n (n := 239) d_M_dayStep_238 rfl rfl ?_
    refine am_getR (x := (q + 1)) (n := 242) f_M_7 d_M_dayStep_239 rfl rfl hq (hw.1 q 12 0 1 hq rfl) ?_
    refine am_iload_n (n := 243) d_M_dayStep_242 rfl rfl ?_
    refine am_iconst (n := 244) d_M_dayStep_243 ci_4 rfl ?_
    refine am_iadd (n := 245) d_M_dayStep_244 rfl ?_
    refine am_aload_n (n := 246) d_M_dayStep_245 rfl rfl ?_
    refine am_getR (x := (q + 8)) (n := 249) f_M_44 d_M_dayStep_246 rfl rfl hq (hw.1 q 12 21 8 hq rfl) ?_
    refine am_aload_n (n := 250) d_M_dayStep_249 rfl rfl ?_
    refine am_getI (n := 253) f_M_294 d_M_dayStep_250 rfl rfl hq ?_
    obtain ⟨g2, h⟩ := h
    refine am_iald2 (n := 254) d_M_dayStep_253 rfl (am_sho (k := 21) (o := 8) hq (by decide) (by decide) (by decide) rfl) g2 rfl ?_
    obtain ⟨g3, h⟩ := h
    refine am_iast2 (n := 255) d_M_dayStep_254 rfl (am_sho (k := 0) (o := 1) hq (by decide) (by decide) (by decide) rfl) g3 rfl ?_
    generalize eI9 : am_u2 I8 (q + 1) (Int32.toNatClampNeg (v3 + 4)) (I8 (q + 8) (Int32.toNatClampNeg (I8 q 22))) = I9
    have h := h I9 eI9.symm
    refine am_aload_n (n := 256) d_M_dayStep_255 rfl rfl ?_
    refine am_getR (x := (q + 1)) (n := 259) f_M_7 d_M_dayStep_256 rfl rfl hq (hw.1 q 12 0 1 hq rfl) ?_
    refine am_sipush (n := 262) d_M_dayStep_259 cs_1662 rfl ?_
    refine am_bipush (n := 264) d_M_dayStep_262 cb_6 rfl ?_
    refine am_aload_n (n := 265) d_M_dayStep_264 rfl rfl ?_
    refine am_getR (x := (q + 8)) (n := 268) f_M_44 d_M_dayStep_265 rfl rfl hq (hw.1 q 12 21 8 hq rfl) ?_
    refine am_aload_n (n := 269) d_M_dayStep_268 rfl rfl ?_
    refine am_getI (n := 272) f_M_294 d_M_dayStep_269 rfl rfl hq ?_
    obtain ⟨g4, h⟩ := h
    refine am_iald2 (n := 273) d_M_dayStep_272 rfl (am_sho (k := 21) (o := 8) hq (by decide) (by decide) (by decide) rfl) g4 rfl ?_
    refine am_imul (n := 274) d_M_dayStep_273 rfl ?_
    refine am_iadd (n := 275) d_M_dayStep_274 rfl ?_
    refine am_iconst (n := 276) d_M_dayStep_275 ci_4 rfl ?_
    refine am_iadd (n := 277) d_M_dayStep_276 rfl ?_
    refine am_iload_n (n := 278) d_M_dayStep_277 rfl rfl ?_
    obtain ⟨g5, h⟩ := h
    refine am_iast2 (n := 279) d_M_dayStep_278 rfl (am_sho (k := 0) (o := 1) hq (by decide) (by decide) (by decide) rfl) g5 rfl ?_
    generalize eI10 : am_u2 I9 (q + 1) (Int32.toNatClampNeg ((1662 + (6 * (I9 (q + 8) (Int32.toNatClampNeg (I9 q 22))))) + 4)) v2 = I10
    have h := h I10 eI10.symm
    refine am_forget (ls' := [some (.ref q), none, none, none, none, none]) (am_le_s (am_le_n (am_le_n (am_le_n (am_le_n (am_le_n am_le_e)))))) ?_
    exact tb_M_dayStep_279 hw hq hd I10 h
def wl_M_dayStep_147 (L : am_TL) (R : am_TR) (q : Nat) (Q : Bool → am_TI → Prop)  : Nat → am_TI → Int32 → Int32 → Int32 → Bool → Int32 → Prop
  | 0 => fun _ _ _ _ _ _ => False
  | f147 + 1 => fun I v1 v2 v3 v4 v5 => ((6 ≤ v5 → (∀ I4, I4 = am_u2 I (q + 1) 1631 ((I (q + 1) 1631) + 1) → wp_M_ahead I4 L R q (fun (I5 : am_TI) => wp_M_dayOrder I5 L R q v1 v3 (fun (r3 : Bool) (I6 : am_TI) => ((r3 = false → Q false I6) ∧ (r3 = true → ((v4 = false → wb_M_dayStep_222 L R q Q I6 v1 v2 v3) ∧ (v4 = true → (vp_in (I6 q 22) 3 ∧ (∀ I11, I11 = am_u2 I6 (q + 8) (Int32.toNatClampNeg (I6 q 22)) v2 → (∀ I12, I12 = am_u2 I11 q 22 ((I11 q 22) + 1) → wb_M_dayStep_222 L R q Q I12 v1 v2 v3))))))))))) ∧ (¬ 6 ≤ v5 → (vp_in (v3 + v5) 2258 ∧ (∀ I13, I13 = am_u2 I (q + 1) (Int32.toNatClampNeg (v3 + v5)) 0 → wl_M_dayStep_147 L R q Q f147 I13 v1 v2 v3 v4 (v5 + 1)))))
set_option maxRecDepth 20000 in
theorem tl_M_dayStep_147 {d : Nat}  {L : am_TL} {R : am_TR} {q : Nat} {Q : Bool → am_TI → Prop}  (hw : am_Wf R) (hq : am_SH[q]? = some (.inl 12)) (hd : 8 ≤ d) : ∀ (n : Nat) (I : am_TI) (v1 : Int32) (v2 : Int32) (v3 : Int32) (v4 : Bool) (v5 : Int32), wl_M_dayStep_147 L R q Q  n I v1 v2 v3 v4 v5 → am_Wp (d, "UnseenRingModel", b_M_dayStep, 6, false) 0 0 147 [some (.ref q), some (.int v1), some (.int v2), some (.int v3), some (.int (am_b v4)), some (.int v5)] [] (I, L, R, am_SH) (po_M_dayStep L R Q) := by
  intro n
  induction n with
  | zero => intro I v1 v2 v3 v4 v5 h; exact h.elim
  | succ n ih =>
    intro I v1 v2 v3 v4 v5 h
    unfold wl_M_dayStep_147 at h
    refine am_iload (n := 149) d_M_dayStep_147 rfl rfl ?_
    refine am_bipush (n := 151) d_M_dayStep_149 cb_6 rfl ?_
    refine am_icmp_ge (tgt := 170) (n := 154) d_M_dayStep_151 rfl rfl (fun c8 => ?_) (fun c8 => ?_)
    · have h := h.1 c8
      refine am_aload_n (n := 171) d_M_dayStep_170 rfl rfl ?_
      refine am_getR (x := (q + 1)) (n := 174) f_M_7 d_M_dayStep_171 rfl rfl hq (hw.1 q 12 0 1 hq rfl) ?_
      refine am_sipush (n := 177) d_M_dayStep_174 cs_1631 rfl ?_
      refine am_dup2 (n := 178) d_M_dayStep_177 rfl rfl rfl ?_
      refine am_iald2 (n := 179) d_M_dayStep_178 rfl (am_sho (k := 0) (o := 1) hq (by decide) (by decide) (by decide) rfl) cx_1631_2258 cn_1631 ?_
      refine am_iconst (n := 180) d_M_dayStep_179 ci_1 rfl ?_
      refine am_iadd (n := 181) d_M_dayStep_180 rfl ?_
      refine am_iast2 (n := 182) d_M_dayStep_181 rfl (am_sho (k := 0) (o := 1) hq (by decide) (by decide) (by decide) rfl) cx_1631_2258 cn_1631 ?_
      generalize eI4 : am_u2 I (q + 1) 1631 ((I (q + 1) 1631) + 1) = I4
      have h := h I4 eI4.symm
      refine am_aload_n (n := 183) d_M_dayStep_182 rfl rfl ?_
      refine am_callV (kc := 0) (ks := 0) (As := []) (n := 186) d_M_dayStep_183 rfl ce_M_ahead lk_M_197 in_M_ahead rfl rfl hq rfl rfl (Nat.le_of_ble_eq_true rfl) (Or.inl rfl) (cm_M_ahead (d := d - 1) hw (by omega) hq h) (by omega) ?_
      rintro _ _ ⟨I5, rfl, rfl, h⟩
      show am_Wp (d, "UnseenRingModel", b_M_dayStep, 6, false) 0 0 186 [some (.ref q), some (.int v1), some (.int v2), some (.int v3), some (.int (am_b v4)), some (.int v5)] [] (I5, L, R, am_SH) (po_M_dayStep L R Q)
      refine am_aload_n (n := 187) d_M_dayStep_186 rfl rfl ?_
      refine am_iload_n (n := 188) d_M_dayStep_187 rfl rfl ?_
      refine am_iload_n (n := 189) d_M_dayStep_188 rfl rfl ?_
      refine am_callV (kc := 0) (ks := 0) (As := [.int v1, .int v3]) (n := 192) d_M_dayStep_189 rfl ce_M_dayOrder lk_M_300 in_M_dayOrder rfl rfl hq rfl rfl (Nat.le_of_ble_eq_true rfl) (Or.inl rfl) (cm_M_dayOrder (d := d - 1) hw (by omega) hq h) (by omega) ?_
      rintro _ _ ⟨r3, I6, rfl, rfl, h⟩
      show am_Wp (d, "UnseenRingModel", b_M_dayStep, 6, false) 0 0 192 [some (.ref q), some (.int v1), some (.int v2), some (.int v3), some (.int (am_b v4)), some (.int v5)] [.int (am_b r3)] (I6, L, R, am_SH) (po_M_dayStep L R Q)
      refine am_if_ne (y := 0) (tgt := 197) (n := 195) d_M_dayStep_192 rfl rfl (fun c9 => ?_) (fun c9 => ?_)
      · have h := h.2 (am_b_n0 c9)
        refine am_iload (n := 199) d_M_dayStep_197 rfl rfl ?_
        refine am_if_eq (y := 0) (tgt := 222) (n := 202) d_M_dayStep_199 rfl rfl (fun c10 => ?_) (fun c10 => ?_)
        · have h := h.1 (am_b_0 c10)
          refine am_forget (ls' := [some (.ref q), some (.int v1), some (.int v2), some (.int v3), none, none]) (am_le_s (am_le_s (am_le_s (am_le_s (am_le_n (am_le_n am_le_e)))))) ?_
          exact tb_M_dayStep_222 hw hq hd I6 v1 v2 v3 h
        · have h := h.2 (am_b_n0 c10)
          refine am_aload_n (n := 203) d_M_dayStep_202 rfl rfl ?_
          refine am_getR (x := (q + 8)) (n := 206) f_M_44 d_M_dayStep_203 rfl rfl hq (hw.1 q 12 21 8 hq rfl) ?_
          refine am_aload_n (n := 207) d_M_dayStep_206 rfl rfl ?_
          refine am_getI (n := 210) f_M_294 d_M_dayStep_207 rfl rfl hq ?_
          refine am_iload_n (n := 211) d_M_dayStep_210 rfl rfl ?_
          obtain ⟨g6, h⟩ := h
          refine am_iast2 (n := 212) d_M_dayStep_211 rfl (am_sho (k := 21) (o := 8) hq (by decide) (by decide) (by decide) rfl) g6 rfl ?_
          generalize eI11 : am_u2 I6 (q + 8) (Int32.toNatClampNeg (I6 q 22)) v2 = I11
          have h := h I11 eI11.symm
          refine am_aload_n (n := 213) d_M_dayStep_212 rfl rfl ?_
          refine am_dup (n := 214) d_M_dayStep_213 rfl rfl ?_
          refine am_getI (n := 217) f_M_294 d_M_dayStep_214 rfl rfl hq ?_
          refine am_iconst (n := 218) d_M_dayStep_217 ci_1 rfl ?_
          refine am_iadd (n := 219) d_M_dayStep_218 rfl ?_
          refine am_putI (n := 222) f_M_294 d_M_dayStep_219 rfl ⟨_, rfl, Or.inl rfl⟩ rfl rfl hq ?_
          generalize eI12 : am_u2 I11 q 22 ((I11 q 22) + 1) = I12
          have h := h I12 eI12.symm
          refine am_forget (ls' := [some (.ref q), some (.int v1), some (.int v2), some (.int v3), none, none]) (am_le_s (am_le_s (am_le_s (am_le_s (am_le_n (am_le_n am_le_e)))))) ?_
          exact tb_M_dayStep_222 hw hq hd I12 v1 v2 v3 h
      · have h := h.1 (am_b_0 c9)
        refine am_iconst (n := 196) d_M_dayStep_195 ci_0 rfl ?_
        exact am_iret d_M_dayStep_196 ⟨false, I6, rfl, rfl, h⟩
    · have h := h.2 c8
      refine am_aload_n (n := 155) d_M_dayStep_154 rfl rfl ?_
      refine am_getR (x := (q + 1)) (n := 158) f_M_7 d_M_dayStep_155 rfl rfl hq (hw.1 q 12 0 1 hq rfl) ?_
      refine am_iload_n (n := 159) d_M_dayStep_158 rfl rfl ?_
      refine am_iload (n := 161) d_M_dayStep_159 rfl rfl ?_
      refine am_iadd (n := 162) d_M_dayStep_161 rfl ?_
      refine am_iconst (n := 163) d_M_dayStep_162 ci_0 rfl ?_
      obtain ⟨g7, h⟩ := h
      refine am_iast2 (n := 164) d_M_dayStep_163 rfl (am_sho (k := 0) (o := 1) hq (by decide) (by decide) (by decide) rfl) g7 rfl ?_
      generalize eI13 : am_u2 I (q + 1) (Int32.toNatClampNeg (v3 + v5)) 0 = I13
      have h := h I13 eI13.symm
      refine am_iinc (v := v5 + 1) (ls' := [some (.ref q), some (.int v1), some (.int v2), some (.int v3), some (.int (am_b v4)), some (.int (v5 + 1))]) (n := 167) d_M_dayStep_164 rfl (congrArg _ ci_1) (by decide) rfl rfl ?_
      refine am_goto (tgt := 147) d_M_dayStep_167 rfl ?_
      exact ih I13 v1 v2 v3 v4 (v5 + 1)  h
def wb_M_dayStep_133 (L : am_TL) (R : am_TR) (q : Nat) (Q : Bool → am_TI → Prop)  (I : am_TI) (v1 : Int32) (v2 : Int32) (v3 : Int32) (v4 : Bool) (s0 : Nat) (s1 : Int32) (s2 : Bool) : Prop := (∀ I2, I2 = am_u2 I s0 23 (s1 + (am_b s2)) → (vp_in v3 2258 ∧ (∀ I3, I3 = am_u2 I2 (q + 1) (Int32.toNatClampNeg v3) v1 → (∃ z, wl_M_dayStep_147 L R q Q z I3 v1 v2 v3 v4 1))))
set_option maxRecDepth 20000 in
theorem tb_M_dayStep_133 {d : Nat}  {L : am_TL} {R : am_TR} {q : Nat} {Q : Bool → am_TI → Prop}  (hw : am_Wf R) (hq : am_SH[q]? = some (.inl 12)) (hd : 8 ≤ d) (I : am_TI) (v1 : Int32) (v2 : Int32) (v3 : Int32) (v4 : Bool) (s0 : Nat) (s1 : Int32) (s2 : Bool) (hs0 : am_SH[s0]? = some (.inl 12)) (h : wb_M_dayStep_133 L R q Q  I v1 v2 v3 v4 s0 s1 s2) : am_Wp (d, "UnseenRingModel", b_M_dayStep, 6, false) 0 0 133 [some (.ref q), some (.int v1), some (.int v2), some (.int v3), some (.int (am_b v4)), none] [.int (am_b s2), .int s1, .ref s0] (I, L, R, am_SH) (po_M_dayStep L R Q) := by
  unfold wb_M_dayStep_133 at h
  refine am_iadd (n := 134) d_M_dayStep_133 rfl ?_
  refine am_putI (n := 137) f_M_297 d_M_dayStep_134 rfl ⟨_, rfl, Or.inl rfl⟩ rfl rfl hs0 ?_
  generalize eI2 : am_u2 I s0 23 (s1 + (am_b s2)) = I2
  have h := h I2 eI2.symm
  refine am_aload_n (n := 138) d_M_dayStep_137 rfl rfl ?_
  refine am_getR (x := (q + 1)) (n := 141) f_M_7 d_M_dayStep_138 rfl rfl hq (hw.1 q 12 0 1 hq rfl) ?_
  refine am_iload_n (n := 142) d_M_dayStep_141 rfl rfl ?_
  refine am_iload_n (n := 143) d_M_dayStep_142 rfl rfl ?_
  obtain ⟨g1, h⟩ := h
  refine am_iast2 (n := 144) d_M_dayStep_143 rfl (am_sho (k := 0) (o := 1) hq (by decide) (by decide) (by decide) rfl) g1 rfl ?_
  generalize eI3 : am_u2 I2 (q + 1) (Int32.toNatClampNeg v3) v1 = I3
  have h := h I3 eI3.symm
  refine am_iconst (n := 145) d_M_dayStep_144 ci_1 rfl ?_
  refine am_istore (ls' := [some (.ref q), some (.int v1), some (.int v2), some (.int v3), some (.int (am_b v4)), some (.int 1)]) (n := 147) d_M_dayStep_145 (by decide) rfl rfl ?_
  obtain ⟨n, h⟩ := h
  exact tl_M_dayStep_147 hw hq hd n I3 v1 v2 v3 v4 1 h
def wb_M_dayStep_117 (L : am_TL) (R : am_TR) (q : Nat) (Q : Bool → am_TI → Prop)  (I : am_TI) (v1 : Int32) (v2 : Int32) (v3 : Int32) (v4 : Bool) : Prop := ((v1 = 19 → wb_M_dayStep_133 L R q Q I v1 v2 v3 v4 q (I q 23) false) ∧ (¬ v1 = 19 → wb_M_dayStep_133 L R q Q I v1 v2 v3 v4 q (I q 23) true))
set_option maxRecDepth 20000 in
theorem tb_M_dayStep_117 {d : Nat}  {L : am_TL} {R : am_TR} {q : Nat} {Q : Bool → am_TI → Prop}  (hw : am_Wf R) (hq : am_SH[q]? = some (.inl 12)) (hd : 8 ≤ d) (I : am_TI) (v1 : Int32) (v2 : Int32) (v3 : Int32) (v4 : Bool) (h : wb_M_dayStep_117 L R q Q  I v1 v2 v3 v4) : am_Wp (d, "UnseenRingModel", b_M_dayStep, 6, false) 0 0 117 [some (.ref q), some (.int v1), some (.int v2), some (.int v3), some (.int (am_b v4)), none] [] (I, L, R, am_SH) (po_M_dayStep L R Q) := by
  unfold wb_M_dayStep_117 at h
  refine am_aload_n (n := 118) d_M_dayStep_117 rfl rfl ?_
  refine am_dup (n := 119) d_M_dayStep_118 rfl rfl ?_
  refine am_getI (n := 122) f_M_297 d_M_dayStep_119 rfl rfl hq ?_
  refine am_iload_n (n := 123) d_M_dayStep_122 rfl rfl ?_
  refine am_bipush (n := 125) d_M_dayStep_123 cb_19 rfl ?_
  refine am_icmp_ne (tgt := 132) (n := 128) d_M_dayStep_125 rfl rfl (fun c7 => ?_) (fun c7 => ?_)
  · have h := h.2 c7
    refine am_iconst (n := 133) d_M_dayStep_132 ci_1 rfl ?_
    exact tb_M_dayStep_133 hw hq hd I v1 v2 v3 v4 q (I q 23) true hq h
  · have h := h.1 c7
    refine am_iconst (n := 129) d_M_dayStep_128 ci_0 rfl ?_
    refine am_goto (tgt := 133) d_M_dayStep_129 rfl ?_
    exact tb_M_dayStep_133 hw hq hd I v1 v2 v3 v4 q (I q 23) false hq h
def wb_M_dayStep_97 (L : am_TL) (R : am_TR) (q : Nat) (Q : Bool → am_TI → Prop)  (I : am_TI) (v1 : Int32) (v2 : Int32) (v3 : Int32) (v4 : Bool) : Prop := ((v4 = false → wb_M_dayStep_117 L R q Q I v1 v2 v3 v4) ∧ (v4 = true → (((I q 22) = 3 → wp_M_fails I L R q 7 (fun (r5 : Bool) (I14 : am_TI) => Q r5 I14)) ∧ (¬ (I q 22) = 3 → wb_M_dayStep_117 L R q Q I v1 v2 v3 v4))))
set_option maxRecDepth 20000 in
theorem tb_M_dayStep_97 {d : Nat}  {L : am_TL} {R : am_TR} {q : Nat} {Q : Bool → am_TI → Prop}  (hw : am_Wf R) (hq : am_SH[q]? = some (.inl 12)) (hd : 8 ≤ d) (I : am_TI) (v1 : Int32) (v2 : Int32) (v3 : Int32) (v4 : Bool) (h : wb_M_dayStep_97 L R q Q  I v1 v2 v3 v4) : am_Wp (d, "UnseenRingModel", b_M_dayStep, 6, false) 0 0 97 [some (.ref q), some (.int v1), some (.int v2), some (.int v3), some (.int (am_b v4)), none] [] (I, L, R, am_SH) (po_M_dayStep L R Q) := by
  unfold wb_M_dayStep_97 at h
  refine am_iload (n := 99) d_M_dayStep_97 rfl rfl ?_
  refine am_if_eq (y := 0) (tgt := 117) (n := 102) d_M_dayStep_99 rfl rfl (fun c6 => ?_) (fun c6 => ?_)
  · have h := h.1 (am_b_0 c6)
    exact tb_M_dayStep_117 hw hq hd I v1 v2 v3 v4 h
  · have h := h.2 (am_b_n0 c6)
    refine am_aload_n (n := 103) d_M_dayStep_102 rfl rfl ?_
    refine am_getI (n := 106) f_M_294 d_M_dayStep_103 rfl rfl hq ?_
    refine am_iconst (n := 107) d_M_dayStep_106 ci_3 rfl ?_
    refine am_icmp_ne (tgt := 117) (n := 110) d_M_dayStep_107 rfl rfl (fun c12 => ?_) (fun c12 => ?_)
    · have h := h.2 c12
      exact tb_M_dayStep_117 hw hq hd I v1 v2 v3 v4 h
    · have h := h.1 c12
      refine am_aload_n (n := 111) d_M_dayStep_110 rfl rfl ?_
      refine am_bipush (n := 113) d_M_dayStep_111 cb_7 rfl ?_
      refine am_callV (kc := 0) (ks := 0) (As := [.int 7]) (n := 116) d_M_dayStep_113 rfl ce_M_fails lk_M_203 in_M_fails rfl rfl hq rfl rfl (Nat.le_of_ble_eq_true rfl) (Or.inl rfl) (cm_M_fails (d := d - 1) hw (by omega) hq h) (by omega) ?_
      rintro _ _ ⟨r5, I14, rfl, rfl, h⟩
      show am_Wp (d, "UnseenRingModel", b_M_dayStep, 6, false) 0 0 116 [some (.ref q), some (.int v1), some (.int v2), some (.int v3), some (.int (am_b v4)), none] [.int (am_b r5)] (I14, L, R, am_SH) (po_M_dayStep L R Q)
      exact am_iret d_M_dayStep_116 ⟨r5, I14, rfl, rfl, h⟩
def wb_M_dayStep_75 (L : am_TL) (R : am_TR) (q : Nat) (Q : Bool → am_TI → Prop)  (I : am_TI) (v1 : Int32) (v2 : Int32) (v3 : Int32) (v4 : Bool) : Prop := ((v1 = 19 → wb_M_dayStep_97 L R q Q I v1 v2 v3 v4) ∧ (¬ v1 = 19 → (((I q 23) = 30 → wp_M_fails I L R q 6 (fun (r6 : Bool) (I15 : am_TI) => Q r6 I15)) ∧ (¬ (I q 23) = 30 → wb_M_dayStep_97 L R q Q I v1 v2 v3 v4))))
set_option maxRecDepth 20000 in
theorem tb_M_dayStep_75 {d : Nat}  {L : am_TL} {R : am_TR} {q : Nat} {Q : Bool → am_TI → Prop}  (hw : am_Wf R) (hq : am_SH[q]? = some (.inl 12)) (hd : 8 ≤ d) (I : am_TI) (v1 : Int32) (v2 : Int32) (v3 : Int32) (v4 : Bool) (h : wb_M_dayStep_75 L R q Q  I v1 v2 v3 v4) : am_Wp (d, "UnseenRingModel", b_M_dayStep, 6, false) 0 0 75 [some (.ref q), some (.int v1), some (.int v2), some (.int v3), some (.int (am_b v4)), none] [] (I, L, R, am_SH) (po_M_dayStep L R Q) := by
  unfold wb_M_dayStep_75 at h
  refine am_iload_n (n := 76) d_M_dayStep_75 rfl rfl ?_
  refine am_bipush (n := 78) d_M_dayStep_76 cb_19 rfl ?_
  refine am_icmp_eq (tgt := 97) (n := 81) d_M_dayStep_78 rfl rfl (fun c5 => ?_) (fun c5 => ?_)
  · have h := h.1 c5
    exact tb_M_dayStep_97 hw hq hd I v1 v2 v3 v4 h
  · have h := h.2 c5
    refine am_aload_n (n := 82) d_M_dayStep_81 rfl rfl ?_
    refine am_getI (n := 85) f_M_297 d_M_dayStep_82 rfl rfl hq ?_
    refine am_bipush (n := 87) d_M_dayStep_85 cb_30 rfl ?_
    refine am_icmp_ne (tgt := 97) (n := 90) d_M_dayStep_87 rfl rfl (fun c13 => ?_) (fun c13 => ?_)
    · have h := h.2 c13
      exact tb_M_dayStep_97 hw hq hd I v1 v2 v3 v4 h
    · have h := h.1 c13
      refine am_aload_n (n := 91) d_M_dayStep_90 rfl rfl ?_
      refine am_bipush (n := 93) d_M_dayStep_91 cb_6 rfl ?_
      refine am_callV (kc := 0) (ks := 0) (As := [.int 6]) (n := 96) d_M_dayStep_93 rfl ce_M_fails lk_M_203 in_M_fails rfl rfl hq rfl rfl (Nat.le_of_ble_eq_true rfl) (Or.inl rfl) (cm_M_fails (d := d - 1) hw (by omega) hq h) (by omega) ?_
      rintro _ _ ⟨r6, I15, rfl, rfl, h⟩
      show am_Wp (d, "UnseenRingModel", b_M_dayStep, 6, false) 0 0 96 [some (.ref q), some (.int v1), some (.int v2), some (.int v3), some (.int (am_b v4)), none] [.int (am_b r6)] (I15, L, R, am_SH) (po_M_dayStep L R Q)
      exact am_iret d_M_dayStep_96 ⟨r6, I15, rfl, rfl, h⟩
def wb_M_dayStep_42 (L : am_TL) (R : am_TR) (q : Nat) (Q : Bool → am_TI → Prop)  (I : am_TI) (v1 : Int32) (v2 : Int32) (v3 : Int32) (s0 : Bool) : Prop := ((v1 < 10 → wb_M_dayStep_69 L R q Q I) ∧ (¬ v1 < 10 → ((20 < v1 → wb_M_dayStep_69 L R q Q I) ∧ (¬ 20 < v1 → ((v1 = 19 → (((I q 22) = 0 → wb_M_dayStep_69 L R q Q I) ∧ (¬ (I q 22) = 0 → wb_M_dayStep_75 L R q Q I v1 v2 v3 s0))) ∧ (¬ v1 = 19 → wb_M_dayStep_75 L R q Q I v1 v2 v3 s0))))))
set_option maxRecDepth 20000 in
theorem tb_M_dayStep_42 {d : Nat}  {L : am_TL} {R : am_TR} {q : Nat} {Q : Bool → am_TI → Prop}  (hw : am_Wf R) (hq : am_SH[q]? = some (.inl 12)) (hd : 8 ≤ d) (I : am_TI) (v1 : Int32) (v2 : Int32) (v3 : Int32) (s0 : Bool) (h : wb_M_dayStep_42 L R q Q  I v1 v2 v3 s0) : am_Wp (d, "UnseenRingModel", b_M_dayStep, 6, false) 0 0 42 [some (.ref q), some (.int v1), some (.int v2), some (.int v3), none, none] [.int (am_b s0)] (I, L, R, am_SH) (po_M_dayStep L R Q) := by
  unfold wb_M_dayStep_42 at h
  refine am_istore (ls' := [some (.ref q), some (.int v1), some (.int v2), some (.int v3), some (.int (am_b s0)), none]) (n := 44) d_M_dayStep_42 (by decide) rfl rfl ?_
  refine am_iload_n (n := 45) d_M_dayStep_44 rfl rfl ?_
  refine am_bipush (n := 47) d_M_dayStep_45 cb_10 rfl ?_
  refine am_icmp_lt (tgt := 69) (n := 50) d_M_dayStep_47 rfl rfl (fun c2 => ?_) (fun c2 => ?_)
  · have h := h.1 c2
    refine am_forget (ls' := [some (.ref q), none, none, none, none, none]) (am_le_s (am_le_n (am_le_n (am_le_n (am_le_n (am_le_n am_le_e)))))) ?_
    exact tb_M_dayStep_69 hw hq hd I h
  · have h := h.2 c2
    refine am_iload_n (n := 51) d_M_dayStep_50 rfl rfl ?_
    refine am_bipush (n := 53) d_M_dayStep_51 cb_20 rfl ?_
    refine am_icmp_gt (tgt := 69) (n := 56) d_M_dayStep_53 rfl rfl (fun c3 => ?_) (fun c3 => ?_)
    · have h := h.1 c3
      refine am_forget (ls' := [some (.ref q), none, none, none, none, none]) (am_le_s (am_le_n (am_le_n (am_le_n (am_le_n (am_le_n am_le_e)))))) ?_
      exact tb_M_dayStep_69 hw hq hd I h
    · have h := h.2 c3
      refine am_iload_n (n := 57) d_M_dayStep_56 rfl rfl ?_
      refine am_bipush (n := 59) d_M_dayStep_57 cb_19 rfl ?_
      refine am_icmp_ne (tgt := 75) (n := 62) d_M_dayStep_59 rfl rfl (fun c4 => ?_) (fun c4 => ?_)
      · have h := h.2 c4
        exact tb_M_dayStep_75 hw hq hd I v1 v2 v3 s0 h
      · have h := h.1 c4
        refine am_aload_n (n := 63) d_M_dayStep_62 rfl rfl ?_
        refine am_getI (n := 66) f_M_294 d_M_dayStep_63 rfl rfl hq ?_
        refine am_if_ne (y := 0) (tgt := 75) (n := 69) d_M_dayStep_66 rfl rfl (fun c14 => ?_) (fun c14 => ?_)
        · have h := h.2 c14
          exact tb_M_dayStep_75 hw hq hd I v1 v2 v3 s0 h
        · have h := h.1 c14
          refine am_forget (ls' := [some (.ref q), none, none, none, none, none]) (am_le_s (am_le_n (am_le_n (am_le_n (am_le_n (am_le_n am_le_e)))))) ?_
          exact tb_M_dayStep_69 hw hq hd I h
def wb_M_dayStep_37 (L : am_TL) (R : am_TR) (q : Nat) (Q : Bool → am_TI → Prop)  (I : am_TI) (v1 : Int32) (v2 : Int32) (v3 : Int32) : Prop := wb_M_dayStep_42 L R q Q I v1 v2 v3 true
set_option maxRecDepth 20000 in
theorem tb_M_dayStep_37 {d : Nat}  {L : am_TL} {R : am_TR} {q : Nat} {Q : Bool → am_TI → Prop}  (hw : am_Wf R) (hq : am_SH[q]? = some (.inl 12)) (hd : 8 ≤ d) (I : am_TI) (v1 : Int32) (v2 : Int32) (v3 : Int32) (h : wb_M_dayStep_37 L R q Q  I v1 v2 v3) : am_Wp (d, "UnseenRingModel", b_M_dayStep, 6, false) 0 0 37 [some (.ref q), some (.int v1), some (.int v2), some (.int v3), none, none] [] (I, L, R, am_SH) (po_M_dayStep L R Q) := by
  unfold wb_M_dayStep_37 at h
  refine am_iconst (n := 38) d_M_dayStep_37 ci_1 rfl ?_
  refine am_goto (tgt := 42) d_M_dayStep_38 rfl ?_
  exact tb_M_dayStep_42 hw hq hd I v1 v2 v3 true h
def wp_M_dayStep (I : am_TI) (L : am_TL) (R : am_TR) (q : Nat)  (Q : Bool → am_TI → Prop) : Prop := wp_M_inWords I L R q 1002 (fun (r1 : Int32) => ((r1 = 17 → wb_M_dayStep_37 L R q Q I r1 (I (q + 1) 1631) (1662 + (6 * (I (q + 1) 1631)))) ∧ (¬ r1 = 17 → ((r1 = 18 → wb_M_dayStep_37 L R q Q I r1 (I (q + 1) 1631) (1662 + (6 * (I (q + 1) 1631)))) ∧ (¬ r1 = 18 → wb_M_dayStep_42 L R q Q I r1 (I (q + 1) 1631) (1662 + (6 * (I (q + 1) 1631))) false)))))
set_option maxRecDepth 20000 in
theorem cm_M_dayStep {d : Nat} {I : am_TI} {L : am_TL} {R : am_TR}  (hw : am_Wf R)   {q : Nat} {Q : Bool → am_TI → Prop} (hd : 8 ≤ d) (hq : am_SH[q]? = some (.inl 12)) (h : wp_M_dayStep I L R q  Q) : am_Cm d 0 0 y_M_dayStep b_M_dayStep 6 (some .boolean) [.ref q] (I, L, R, am_SH) (po_M_dayStep L R Q) := by
  refine am_Cm_of (ini := false) (by decide +kernel) (fun z => by cases z) (by simp [Value.category]) (fun r σ' z => by obtain ⟨x, _, rfl, -⟩ := z; exact ⟨_, rfl, am_b_nar x⟩) ?_
  unfold wp_M_dayStep at h
  show am_Wp (d, "UnseenRingModel", b_M_dayStep, 6, false) 0 0 0 [some (.ref q), none, none, none, none, none] [] (I, L, R, am_SH) (po_M_dayStep L R Q)
  refine am_aload_n (n := 1) d_M_dayStep_0 rfl rfl ?_
  refine am_ldcS1 (n := 3) d_M_dayStep_1 rfl ?_
  refine am_callV (kc := 0) (ks := 0) (As := [.ref 1002]) (n := 6) d_M_dayStep_3 rfl ce_M_inWords lk_M_206 in_M_inWords rfl rfl hq rfl rfl (Nat.le_of_ble_eq_true rfl) (Or.inl rfl) (cm_M_inWords (d := d - 1) hw (by omega) hq h) (by omega) ?_
  rintro _ _ ⟨r1, rfl, rfl, h⟩
  show am_Wp (d, "UnseenRingModel", b_M_dayStep, 6, false) 0 0 6 [some (.ref q), none, none, none, none, none] [.int r1] (I, L, R, am_SH) (po_M_dayStep L R Q)
  refine am_istore_n (ls' := [some (.ref q), some (.int r1), none, none, none, none]) (n := 7) d_M_dayStep_6 (by decide) rfl rfl ?_
  refine am_aload_n (n := 8) d_M_dayStep_7 rfl rfl ?_
  refine am_getR (x := (q + 1)) (n := 11) f_M_7 d_M_dayStep_8 rfl rfl hq (hw.1 q 12 0 1 hq rfl) ?_
  refine am_sipush (n := 14) d_M_dayStep_11 cs_1631 rfl ?_
  refine am_iald2 (n := 15) d_M_dayStep_14 rfl (am_sho (k := 0) (o := 1) hq (by decide) (by decide) (by decide) rfl) cx_1631_2258 cn_1631 ?_
  refine am_istore_n (ls' := [some (.ref q), some (.int r1), some (.int (I (q + 1) 1631)), none, none, none]) (n := 16) d_M_dayStep_15 (by decide) rfl rfl ?_
  refine am_sipush (n := 19) d_M_dayStep_16 cs_1662 rfl ?_
  refine am_bipush (n := 21) d_M_dayStep_19 cb_6 rfl ?_
  refine am_iload_n (n := 22) d_M_dayStep_21 rfl rfl ?_
  refine am_imul (n := 23) d_M_dayStep_22 rfl ?_
  refine am_iadd (n := 24) d_M_dayStep_23 rfl ?_
  refine am_istore_n (ls' := [some (.ref q), some (.int r1), some (.int (I (q + 1) 1631)), some (.int (1662 + (6 * (I (q + 1) 1631)))), none, none]) (n := 25) d_M_dayStep_24 (by decide) rfl rfl ?_
  refine am_iload_n (n := 26) d_M_dayStep_25 rfl rfl ?_
  refine am_bipush (n := 28) d_M_dayStep_26 cb_17 rfl ?_
  refine am_icmp_eq (tgt := 37) (n := 31) d_M_dayStep_28 rfl rfl (fun c1 => ?_) (fun c1 => ?_)
  · have h := h.1 c1
    exact tb_M_dayStep_37 hw hq hd I r1 (I (q + 1) 1631) (1662 + (6 * (I (q + 1) 1631))) h
  · have h := h.2 c1
    refine am_iload_n (n := 32) d_M_dayStep_31 rfl rfl ?_
    refine am_bipush (n := 34) d_M_dayStep_32 cb_18 rfl ?_
    refine am_icmp_ne (tgt := 41) (n := 37) d_M_dayStep_34 rfl rfl (fun c15 => ?_) (fun c15 => ?_)
    · have h := h.2 c15
      refine am_iconst (n := 42) d_M_dayStep_41 ci_0 rfl ?_
      exact tb_M_dayStep_42 hw hq hd I r1 (I (q + 1) 1631) (1662 + (6 * (I (q + 1) 1631))) false h
    · have h := h.1 c15
      exact tb_M_dayStep_37 hw hq hd I r1 (I (q + 1) 1631) (1662 + (6 * (I (q + 1) 1631))) h
abbrev po_M_days (L : am_TL) (R : am_TR) (Q : Int32 → am_TI → Prop) : Option Value → am_St → Prop := fun r σ' => ∃ (x : Int32) (I' : am_TI), r = some (.int x) ∧ σ' = (I', L, R, am_SH) ∧ Q x I'
def wb_M_days_131 (L : am_TL) (R : am_TR) (q : Nat) (p1 : Int32) (Q : Int32 → am_TI → Prop)  (I : am_TI) : Prop := wp_M_taken I L R q (I q 23) (fun (r2 : Int32) (I5 : am_TI) => Q r2 I5)
set_option maxRecDepth 20000 in
theorem tb_M_days_131 {d : Nat}  {L : am_TL} {R : am_TR} {q : Nat} {p1 : Int32} {Q : Int32 → am_TI → Prop}  (hw : am_Wf R) (hq : am_SH[q]? = some (.inl 12)) (hd : 9 ≤ d) (I : am_TI) (h : wb_M_days_131 L R q p1 Q  I) : am_Wp (d, "UnseenRingModel", b_M_days, 4, false) 0 0 131 [some (.ref q), some (.int p1), none, none] [] (I, L, R, am_SH) (po_M_days L R Q) := by
  unfold wb_M_days_131 at h
  refine am_aload_n (n := 132) d_M_days_131 rfl rfl ?_
  refine am_aload_n (n := 133) d_M_days_132 rfl rfl ?_
  refine am_getI (n := 136) f_M_297 d_M_days_133 rfl rfl hq ?_
  refine am_callV (kc := 0) (ks := 0) (As := [.int (I q 23)]) (n := 139) d_M_days_136 rfl ce_M_taken lk_M_279 in_M_taken rfl rfl hq rfl rfl (Nat.le_of_ble_eq_true rfl) (Or.inl rfl) (cm_M_taken (d := d - 1) hw (by omega) hq h) (by omega) ?_
  rintro _ _ ⟨r2, I5, rfl, rfl, h⟩
  show am_Wp (d, "UnseenRingModel", b_M_days, 4, false) 0 0 139 [some (.ref q), some (.int p1), none, none] [.int r2] (I5, L, R, am_SH) (po_M_days L R Q)
  exact am_iret d_M_days_139 ⟨r2, I5, rfl, rfl, h⟩
def wl_M_days_102 (L : am_TL) (R : am_TR) (q : Nat) (p1 : Int32) (Q : Int32 → am_TI → Prop)  : Nat → am_TI → Int32 → Prop
  | 0 => fun _ _ => False
  | f102 + 1 => fun I v3 => ((398 ≤ v3 → wb_M_days_131 L R q p1 Q I) ∧ (¬ 398 ≤ v3 → (vp_in (1624 + v3) 2258 ∧ (vp_in v3 2258 ∧ (∀ I7, I7 = am_u2 I (q + 1) (Int32.toNatClampNeg v3) (I (q + 1) (Int32.toNatClampNeg (1624 + v3))) → wl_M_days_102 L R q p1 Q f102 I7 (v3 + 1))))))
set_option maxRecDepth 20000 in
theorem tl_M_days_102 {d : Nat}  {L : am_TL} {R : am_TR} {q : Nat} {p1 : Int32} {Q : Int32 → am_TI → Prop}  (hw : am_Wf R) (hq : am_SH[q]? = some (.inl 12)) (hd : 9 ≤ d) : ∀ (n : Nat) (I : am_TI) (v3 : Int32), wl_M_days_102 L R q p1 Q  n I v3 → am_Wp (d, "UnseenRingModel", b_M_days, 4, false) 0 0 102 [some (.ref q), some (.int p1), none, some (.int v3)] [] (I, L, R, am_SH) (po_M_days L R Q) := by
  intro n
  induction n with
  | zero => intro I v3 h; exact h.elim
  | succ n ih =>
    intro I v3 h
    unfold wl_M_days_102 at h
    refine am_iload_n (n := 103) d_M_days_102 rfl rfl ?_
    refine am_sipush (n := 106) d_M_days_103 cs_398 rfl ?_
    refine am_icmp_ge (tgt := 131) (n := 109) d_M_days_106 rfl rfl (fun c5 => ?_) (fun c5 => ?_)
    · have h := h.1 c5
      refine am_forget (ls' := [some (.ref q), some (.int p1), none, none]) (am_le_s (am_le_s (am_le_n (am_le_n am_le_e)))) ?_
      exact tb_M_days_131 hw hq hd I h
    · have h := h.2 c5
      refine am_aload_n (n := 110) d_M_days_109 rfl rfl ?_
      refine am_getR (x := (q + 1)) (n := 113) f_M_7 d_M_days_110 rfl rfl hq (hw.1 q 12 0 1 hq rfl) ?_
      refine am_iload_n (n := 114) d_M_days_113 rfl rfl ?_
      refine am_aload_n (n := 115) d_M_days_114 rfl rfl ?_
      refine am_getR (x := (q + 1)) (n := 118) f_M_7 d_M_days_115 rfl rfl hq (hw.1 q 12 0 1 hq rfl) ?_
      refine am_sipush (n := 121) d_M_days_118 cs_1624 rfl ?_
      refine am_iload_n (n := 122) d_M_days_121 rfl rfl ?_
      refine am_iadd (n := 123) d_M_days_122 rfl ?_
      obtain ⟨g1, h⟩ := h
      refine am_iald2 (n := 124) d_M_days_123 rfl (am_sho (k := 0) (o := 1) hq (by decide) (by decide) (by decide) rfl) g1 rfl ?_
      obtain ⟨g2, h⟩ := h
      refine am_iast2 (n := 125) d_M_days_124 rfl (am_sho (k := 0) (o := 1) hq (by decide) (by decide) (by decide) rfl) g2 rfl ?_
      generalize eI7 : am_u2 I (q + 1) (Int32.toNatClampNeg v3) (I (q + 1) (Int32.toNatClampNeg (1624 + v3))) = I7
      have h := h I7 eI7.symm
      refine am_iinc (v := v3 + 1) (ls' := [some (.ref q), some (.int p1), none, some (.int (v3 + 1))]) (n := 128) d_M_days_125 rfl (congrArg _ ci_1) (by decide) rfl rfl ?_
      refine am_goto (tgt := 102) d_M_days_128 rfl ?_
      exact ih I7 (v3 + 1)  h
def wb_M_days_77 (L : am_TL) (R : am_TR) (q : Nat) (p1 : Int32) (Q : Int32 → am_TI → Prop)  (I : am_TI) : Prop := (((I q 18) = 0 → (∀ I6, I6 = am_u2 I (q + 1) 7 (I (q + 1) 1631) → (∃ z, wl_M_days_102 L R q p1 Q z I6 38))) ∧ (¬ (I q 18) = 0 → wb_M_days_131 L R q p1 Q I))
set_option maxRecDepth 20000 in
theorem tb_M_days_77 {d : Nat}  {L : am_TL} {R : am_TR} {q : Nat} {p1 : Int32} {Q : Int32 → am_TI → Prop}  (hw : am_Wf R) (hq : am_SH[q]? = some (.inl 12)) (hd : 9 ≤ d) (I : am_TI) (h : wb_M_days_77 L R q p1 Q  I) : am_Wp (d, "UnseenRingModel", b_M_days, 4, false) 0 0 77 [some (.ref q), some (.int p1), none, none] [] (I, L, R, am_SH) (po_M_days L R Q) := by
  unfold wb_M_days_77 at h
  refine am_aload_n (n := 78) d_M_days_77 rfl rfl ?_
  refine am_getI (n := 81) f_M_191 d_M_days_78 rfl rfl hq ?_
  refine am_if_ne (y := 0) (tgt := 131) (n := 84) d_M_days_81 rfl rfl (fun c4 => ?_) (fun c4 => ?_)
  · have h := h.2 c4
    exact tb_M_days_131 hw hq hd I h
  · have h := h.1 c4
    refine am_aload_n (n := 85) d_M_days_84 rfl rfl ?_
    refine am_getR (x := (q + 1)) (n := 88) f_M_7 d_M_days_85 rfl rfl hq (hw.1 q 12 0 1 hq rfl) ?_
    refine am_bipush (n := 90) d_M_days_88 cb_7 rfl ?_
    refine am_aload_n (n := 91) d_M_days_90 rfl rfl ?_
    refine am_getR (x := (q + 1)) (n := 94) f_M_7 d_M_days_91 rfl rfl hq (hw.1 q 12 0 1 hq rfl) ?_
    refine am_sipush (n := 97) d_M_days_94 cs_1631 rfl ?_
    refine am_iald2 (n := 98) d_M_days_97 rfl (am_sho (k := 0) (o := 1) hq (by decide) (by decide) (by decide) rfl) cx_1631_2258 cn_1631 ?_
    refine am_iast2 (n := 99) d_M_days_98 rfl (am_sho (k := 0) (o := 1) hq (by decide) (by decide) (by decide) rfl) cx_7_2258 cn_7 ?_
    generalize eI6 : am_u2 I (q + 1) 7 (I (q + 1) 1631) = I6
    have h := h I6 eI6.symm
    refine am_bipush (n := 101) d_M_days_99 cb_38 rfl ?_
    refine am_istore_n (ls' := [some (.ref q), some (.int p1), none, some (.int 38)]) (n := 102) d_M_days_101 (by decide) rfl rfl ?_
    obtain ⟨n, h⟩ := h
    exact tl_M_days_102 hw hq hd n I6 38 h
def wb_M_days_57 (L : am_TL) (R : am_TR) (q : Nat) (p1 : Int32) (Q : Int32 → am_TI → Prop)  (I : am_TI) : Prop := (((I q 18) = 0 → (((I q 22) ≤ 0 → wb_M_days_77 L R q p1 Q I) ∧ (¬ (I q 22) ≤ 0 → wp_M_fails I L R q 2 (fun (r3 : Bool) (I8 : am_TI) => wb_M_days_77 L R q p1 Q I8)))) ∧ (¬ (I q 18) = 0 → wb_M_days_77 L R q p1 Q I))
set_option maxRecDepth 20000 in
theorem tb_M_days_57 {d : Nat}  {L : am_TL} {R : am_TR} {q : Nat} {p1 : Int32} {Q : Int32 → am_TI → Prop}  (hw : am_Wf R) (hq : am_SH[q]? = some (.inl 12)) (hd : 9 ≤ d) (I : am_TI) (h : wb_M_days_57 L R q p1 Q  I) : am_Wp (d, "UnseenRingModel", b_M_days, 4, false) 0 0 57 [some (.ref q), some (.int p1), none, none] [] (I, L, R, am_SH) (po_M_days L R Q) := by
  unfold wb_M_days_57 at h
  refine am_aload_n (n := 58) d_M_days_57 rfl rfl ?_
  refine am_getI (n := 61) f_M_191 d_M_days_58 rfl rfl hq ?_
  refine am_if_ne (y := 0) (tgt := 77) (n := 64) d_M_days_61 rfl rfl (fun c3 => ?_) (fun c3 => ?_)
  · have h := h.2 c3
    exact tb_M_days_77 hw hq hd I h
  · have h := h.1 c3
    refine am_aload_n (n := 65) d_M_days_64 rfl rfl ?_
    refine am_getI (n := 68) f_M_294 d_M_days_65 rfl rfl hq ?_
    refine am_if_le (y := 0) (tgt := 77) (n := 71) d_M_days_68 rfl rfl (fun c6 => ?_) (fun c6 => ?_)
    · have h := h.1 c6
      exact tb_M_days_77 hw hq hd I h
    · have h := h.2 c6
      refine am_aload_n (n := 72) d_M_days_71 rfl rfl ?_
      refine am_iconst (n := 73) d_M_days_72 ci_2 rfl ?_
      refine am_callV (kc := 0) (ks := 0) (As := [.int 2]) (n := 76) d_M_days_73 rfl ce_M_fails lk_M_203 in_M_fails rfl rfl hq rfl rfl (Nat.le_of_ble_eq_true rfl) (Or.inl rfl) (cm_M_fails (d := d - 1) hw (by omega) hq h) (by omega) ?_
      rintro _ _ ⟨r3, I8, rfl, rfl, h⟩
      show am_Wp (d, "UnseenRingModel", b_M_days, 4, false) 0 0 76 [some (.ref q), some (.int p1), none, none] [.int (am_b r3)] (I8, L, R, am_SH) (po_M_days L R Q)
      refine am_pop (n := 77) d_M_days_76 rfl rfl ?_
      exact tb_M_days_77 hw hq hd I8 h
def wl_M_days_38 (L : am_TL) (R : am_TR) (q : Nat) (p1 : Int32) (Q : Int32 → am_TI → Prop)  : Nat → am_TI → Bool → Prop
  | 0 => fun _ _ => False
  | f38 + 1 => fun I v2 => ((v2 = false → wb_M_days_57 L R q p1 Q I) ∧ (v2 = true → (((I q 12) = 0 → wb_M_days_57 L R q p1 Q I) ∧ (¬ (I q 12) = 0 → wp_M_dayStep I L R q (fun (r4 : Bool) (I9 : am_TI) => wl_M_days_38 L R q p1 Q f38 I9 r4)))))
set_option maxRecDepth 20000 in
theorem tl_M_days_38 {d : Nat}  {L : am_TL} {R : am_TR} {q : Nat} {p1 : Int32} {Q : Int32 → am_TI → Prop}  (hw : am_Wf R) (hq : am_SH[q]? = some (.inl 12)) (hd : 9 ≤ d) : ∀ (n : Nat) (I : am_TI) (v2 : Bool), wl_M_days_38 L R q p1 Q  n I v2 → am_Wp (d, "UnseenRingModel", b_M_days, 4, false) 0 0 38 [some (.ref q), some (.int p1), some (.int (am_b v2)), none] [] (I, L, R, am_SH) (po_M_days L R Q) := by
  intro n
  induction n with
  | zero => intro I v2 h; exact h.elim
  | succ n ih =>
    intro I v2 h
    unfold wl_M_days_38 at h
    refine am_iload_n (n := 39) d_M_days_38 rfl rfl ?_
    refine am_if_eq (y := 0) (tgt := 57) (n := 42) d_M_days_39 rfl rfl (fun c2 => ?_) (fun c2 => ?_)
    · have h := h.1 (am_b_0 c2)
      refine am_forget (ls' := [some (.ref q), some (.int p1), none, none]) (am_le_s (am_le_s (am_le_n (am_le_n am_le_e)))) ?_
      exact tb_M_days_57 hw hq hd I h
    · have h := h.2 (am_b_n0 c2)
      refine am_aload_n (n := 43) d_M_days_42 rfl rfl ?_
      refine am_getI (n := 46) f_M_166 d_M_days_43 rfl rfl hq ?_
      refine am_if_eq (y := 0) (tgt := 57) (n := 49) d_M_days_46 rfl rfl (fun c7 => ?_) (fun c7 => ?_)
      · have h := h.1 c7
        refine am_forget (ls' := [some (.ref q), some (.int p1), none, none]) (am_le_s (am_le_s (am_le_n (am_le_n am_le_e)))) ?_
        exact tb_M_days_57 hw hq hd I h
      · have h := h.2 c7
        refine am_aload_n (n := 50) d_M_days_49 rfl rfl ?_
        refine am_callV (kc := 0) (ks := 0) (As := []) (n := 53) d_M_days_50 rfl ce_M_dayStep lk_M_303 in_M_dayStep rfl rfl hq rfl rfl (Nat.le_of_ble_eq_true rfl) (Or.inl rfl) (cm_M_dayStep (d := d - 1) hw (by omega) hq h) (by omega) ?_
        rintro _ _ ⟨r4, I9, rfl, rfl, h⟩
        show am_Wp (d, "UnseenRingModel", b_M_days, 4, false) 0 0 53 [some (.ref q), some (.int p1), some (.int (am_b v2)), none] [.int (am_b r4)] (I9, L, R, am_SH) (po_M_days L R Q)
        refine am_istore_n (ls' := [some (.ref q), some (.int p1), some (.int (am_b r4)), none]) (n := 54) d_M_days_53 (by decide) rfl rfl ?_
        refine am_goto (tgt := 38) d_M_days_54 rfl ?_
        exact ih I9 r4  h
def wp_M_days (I : am_TI) (L : am_TL) (R : am_TR) (q : Nat) (p1 : Int32)  (Q : Int32 → am_TI → Prop) : Prop := wp_M_begins I L R q p1 300 (fun (r1 : Bool) (I1 : am_TI) => ((r1 = false → wp_M_refuse I1 L R q 1 (fun (r5 : Int32) (I10 : am_TI) => Q r5 I10)) ∧ (r1 = true → (∀ I2, I2 = am_u2 I1 (q + 1) 1631 0 → (∀ I3, I3 = am_u2 I2 q 22 0 → (∀ I4, I4 = am_u2 I3 q 23 0 → (∃ z, wl_M_days_38 L R q p1 Q z I4 true)))))))
set_option maxRecDepth 20000 in
theorem cm_M_days {d : Nat} {I : am_TI} {L : am_TL} {R : am_TR}  (hw : am_Wf R)   {q : Nat} {p1 : Int32} {Q : Int32 → am_TI → Prop} (hd : 9 ≤ d) (hq : am_SH[q]? = some (.inl 12)) (h : wp_M_days I L R q p1  Q) : am_Cm d 0 0 y_M_days b_M_days 4 (some .int) [.ref q, .int p1] (I, L, R, am_SH) (po_M_days L R Q) := by
  refine am_Cm_of (ini := false) (by decide +kernel) (fun z => by cases z) (by simp [Value.category]) (fun r σ' z => by obtain ⟨x, _, rfl, -⟩ := z; exact ⟨_, rfl, rfl⟩) ?_
  unfold wp_M_days at h
  show am_Wp (d, "UnseenRingModel", b_M_days, 4, false) 0 0 0 [some (.ref q), some (.int p1), none, none] [] (I, L, R, am_SH) (po_M_days L R Q)
  refine am_aload_n (n := 1) d_M_days_0 rfl rfl ?_
  refine am_iload_n (n := 2) d_M_days_1 rfl rfl ?_
  refine am_sipush (n := 5) d_M_days_2 cs_300 rfl ?_
  refine am_callV (kc := 0) (ks := 0) (As := [.int p1, .int 300]) (n := 8) d_M_days_5 rfl ce_M_begins lk_M_273 in_M_begins rfl rfl hq rfl rfl (Nat.le_of_ble_eq_true rfl) (Or.inl rfl) (cm_M_begins (d := d - 1) hw (by omega) hq h) (by omega) ?_
  rintro _ _ ⟨r1, I1, rfl, rfl, h⟩
  show am_Wp (d, "UnseenRingModel", b_M_days, 4, false) 0 0 8 [some (.ref q), some (.int p1), none, none] [.int (am_b r1)] (I1, L, R, am_SH) (po_M_days L R Q)
  refine am_if_ne (y := 0) (tgt := 17) (n := 11) d_M_days_8 rfl rfl (fun c1 => ?_) (fun c1 => ?_)
  · have h := h.2 (am_b_n0 c1)
    refine am_aload_n (n := 18) d_M_days_17 rfl rfl ?_
    refine am_getR (x := (q + 1)) (n := 21) f_M_7 d_M_days_18 rfl rfl hq (hw.1 q 12 0 1 hq rfl) ?_
    refine am_sipush (n := 24) d_M_days_21 cs_1631 rfl ?_
    refine am_iconst (n := 25) d_M_days_24 ci_0 rfl ?_
    refine am_iast2 (n := 26) d_M_days_25 rfl (am_sho (k := 0) (o := 1) hq (by decide) (by decide) (by decide) rfl) cx_1631_2258 cn_1631 ?_
    generalize eI2 : am_u2 I1 (q + 1) 1631 0 = I2
    have h := h I2 eI2.symm
    refine am_aload_n (n := 27) d_M_days_26 rfl rfl ?_
    refine am_iconst (n := 28) d_M_days_27 ci_0 rfl ?_
    refine am_putI (n := 31) f_M_294 d_M_days_28 rfl ⟨_, rfl, Or.inl rfl⟩ rfl rfl hq ?_
    generalize eI3 : am_u2 I2 q 22 0 = I3
    have h := h I3 eI3.symm
    refine am_aload_n (n := 32) d_M_days_31 rfl rfl ?_
    refine am_iconst (n := 33) d_M_days_32 ci_0 rfl ?_
    refine am_putI (n := 36) f_M_297 d_M_days_33 rfl ⟨_, rfl, Or.inl rfl⟩ rfl rfl hq ?_
    generalize eI4 : am_u2 I3 q 23 0 = I4
    have h := h I4 eI4.symm
    refine am_iconst (n := 37) d_M_days_36 ci_1 rfl ?_
    refine am_istore_n (ls' := [some (.ref q), some (.int p1), some (.int 1), none]) (n := 38) d_M_days_37 (by decide) rfl rfl ?_
    obtain ⟨n, h⟩ := h
    exact tl_M_days_38 hw hq hd n I4 true h
  · have h := h.1 (am_b_0 c1)
    refine am_aload_n (n := 12) d_M_days_11 rfl rfl ?_
    refine am_iconst (n := 13) d_M_days_12 ci_1 rfl ?_
    refine am_callV (kc := 0) (ks := 0) (As := [.int 1]) (n := 16) d_M_days_13 rfl ce_M_refuse lk_M_121 in_M_refuse rfl rfl hq rfl rfl (Nat.le_of_ble_eq_true rfl) (Or.inl rfl) (cm_M_refuse (d := d - 1) hw (by omega) hq h) (by omega) ?_
    rintro _ _ ⟨r5, I10, rfl, rfl, h⟩
    show am_Wp (d, "UnseenRingModel", b_M_days, 4, false) 0 0 16 [some (.ref q), some (.int p1), none, none] [.int r5] (I10, L, R, am_SH) (po_M_days L R Q)
    exact am_iret d_M_days_16 ⟨r5, I10, rfl, rfl, h⟩
abbrev po_M_hearerOf (I : am_TI) (L : am_TL) (R : am_TR) (Q : Int32 → Prop) : Option Value → am_St → Prop := fun r σ' => ∃ (x : Int32), r = some (.int x) ∧ σ' = (I, L, R, am_SH) ∧ Q x
def wp_M_hearerOf (I : am_TI) (L : am_TL) (R : am_TR) (q : Nat) (p1 : Int32) (p2 : Int32)  (Q : Int32 → Prop) : Prop := wp_M_hearerRow I L R p1 (fun (r1 : Int32) => (vp_in (r1 + p2) 2258 ∧ Q (I (q + 1) (Int32.toNatClampNeg (r1 + p2)))))
set_option maxRecDepth 20000 in
theorem cm_M_hearerOf {d : Nat} {I : am_TI} {L : am_TL} {R : am_TR}  (hw : am_Wf R)   {q : Nat} {p1 : Int32} {p2 : Int32} {Q : Int32 → Prop} (hd : 1 ≤ d) (hq : am_SH[q]? = some (.inl 12)) (h : wp_M_hearerOf I L R q p1 p2  Q) : am_Cm d 0 0 y_M_hearerOf b_M_hearerOf 3 (some .int) [.ref q, .int p1, .int p2] (I, L, R, am_SH) (po_M_hearerOf I L R Q) := by
  refine am_Cm_of (ini := false) (by decide +kernel) (fun z => by cases z) (by simp [Value.category]) (fun r σ' z => by obtain ⟨x, rfl, -⟩ := z; exact ⟨_, rfl, rfl⟩) ?_
  unfold wp_M_hearerOf at h
  show am_Wp (d, "UnseenRingModel", b_M_hearerOf, 3, false) 0 0 0 [some (.ref q), some (.int p1), some (.int p2)] [] (I, L, R, am_SH) (po_M_hearerOf I L R Q)
  refine am_aload_n (n := 1) d_M_hearerOf_0 rfl rfl ?_
  refine am_getR (x := (q + 1)) (n := 4) f_M_7 d_M_hearerOf_1 rfl rfl hq (hw.1 q 12 0 1 hq rfl) ?_
  refine am_iload_n (n := 5) d_M_hearerOf_4 rfl rfl ?_
  refine am_callS (kc := 0) (ks := 0) (As := [.int p1]) (n := 8) d_M_hearerOf_5 rfl ce_M_hearerRow lk_M_241 st_M_hearerRow rfl rfl (Nat.le_of_ble_eq_true rfl) (Or.inl rfl) (cm_M_hearerRow (d := d - 1) hw (by omega)  h) (by omega) ?_
  rintro _ _ ⟨r1, rfl, rfl, h⟩
  show am_Wp (d, "UnseenRingModel", b_M_hearerOf, 3, false) 0 0 8 [some (.ref q), some (.int p1), some (.int p2)] [.int r1, .ref (q + 1)] (I, L, R, am_SH) (po_M_hearerOf I L R Q)
  refine am_iload_n (n := 9) d_M_hearerOf_8 rfl rfl ?_
  refine am_iadd (n := 10) d_M_hearerOf_9 rfl ?_
  obtain ⟨g1, h⟩ := h
  refine am_iald2 (n := 11) d_M_hearerOf_10 rfl (am_sho (k := 0) (o := 1) hq (by decide) (by decide) (by decide) rfl) g1 rfl ?_
  exact am_iret d_M_hearerOf_11 ⟨(I (q + 1) (Int32.toNatClampNeg (r1 + p2))), rfl, rfl, h⟩
abbrev po_M_areSeen (I : am_TI) (L : am_TL) (R : am_TR) (Q : Int32 → Prop) : Option Value → am_St → Prop := fun r σ' => ∃ (x : Int32), r = some (.int x) ∧ σ' = (I, L, R, am_SH) ∧ Q x
def wl_M_areSeen_4 (I : am_TI) (L : am_TL) (R : am_TR) (q : Nat) (Q : Int32 → Prop)  : Nat → Int32 → Int32 → Prop
  | 0 => fun _ _ => False
  | f4 + 1 => fun v1 v2 => (((I (q + 1) 3) ≤ v2 → Q v1) ∧ (¬ (I (q + 1) 3) ≤ v2 → wp_M_hearerOf I L R q v2 3 (fun (r1 : Int32) => wl_M_areSeen_4 I L R q Q f4 (v1 ||| (r1 <<< (v2 &&& 31))) (v2 + 1))))
set_option maxRecDepth 20000 in
theorem tl_M_areSeen_4 {d : Nat}  {I : am_TI} {L : am_TL} {R : am_TR} {q : Nat} {Q : Int32 → Prop}  (hw : am_Wf R) (hq : am_SH[q]? = some (.inl 12)) (hd : 2 ≤ d) : ∀ (n : Nat) (v1 : Int32) (v2 : Int32), wl_M_areSeen_4 I L R q Q  n v1 v2 → am_Wp (d, "UnseenRingModel", b_M_areSeen, 3, false) 0 0 4 [some (.ref q), some (.int v1), some (.int v2)] [] (I, L, R, am_SH) (po_M_areSeen I L R Q) := by
  intro n
  induction n with
  | zero => intro v1 v2 h; exact h.elim
  | succ n ih =>
    intro v1 v2 h
    unfold wl_M_areSeen_4 at h
    refine am_iload_n (n := 5) d_M_areSeen_4 rfl rfl ?_
    refine am_aload_n (n := 6) d_M_areSeen_5 rfl rfl ?_
    refine am_getR (x := (q + 1)) (n := 9) f_M_7 d_M_areSeen_6 rfl rfl hq (hw.1 q 12 0 1 hq rfl) ?_
    refine am_iconst (n := 10) d_M_areSeen_9 ci_3 rfl ?_
    refine am_iald2 (n := 11) d_M_areSeen_10 rfl (am_sho (k := 0) (o := 1) hq (by decide) (by decide) (by decide) rfl) cx_3_2258 cn_3 ?_
    refine am_icmp_ge (tgt := 31) (n := 14) d_M_areSeen_11 rfl rfl (fun c1 => ?_) (fun c1 => ?_)
    · have h := h.1 c1
      refine am_iload_n (n := 32) d_M_areSeen_31 rfl rfl ?_
      exact am_iret d_M_areSeen_32 ⟨v1, rfl, rfl, h⟩
    · have h := h.2 c1
      refine am_iload_n (n := 15) d_M_areSeen_14 rfl rfl ?_
      refine am_aload_n (n := 16) d_M_areSeen_15 rfl rfl ?_
      refine am_iload_n (n := 17) d_M_areSeen_16 rfl rfl ?_
      refine am_iconst (n := 18) d_M_areSeen_17 ci_3 rfl ?_
      refine am_callV (kc := 0) (ks := 0) (As := [.int v2, .int 3]) (n := 21) d_M_areSeen_18 rfl ce_M_hearerOf lk_M_313 in_M_hearerOf rfl rfl hq rfl rfl (Nat.le_of_ble_eq_true rfl) (Or.inl rfl) (cm_M_hearerOf (d := d - 1) hw (by omega) hq h) (by omega) ?_
      rintro _ _ ⟨r1, rfl, rfl, h⟩
      show am_Wp (d, "UnseenRingModel", b_M_areSeen, 3, false) 0 0 21 [some (.ref q), some (.int v1), some (.int v2)] [.int r1, .int v1] (I, L, R, am_SH) (po_M_areSeen I L R Q)
      refine am_iload_n (n := 22) d_M_areSeen_21 rfl rfl ?_
      refine am_ishl (n := 23) d_M_areSeen_22 rfl ?_
      refine am_ior (n := 24) d_M_areSeen_23 rfl ?_
      refine am_istore_n (ls' := [some (.ref q), some (.int (v1 ||| (r1 <<< (v2 &&& 31)))), some (.int v2)]) (n := 25) d_M_areSeen_24 (by decide) rfl rfl ?_
      refine am_iinc (v := v2 + 1) (ls' := [some (.ref q), some (.int (v1 ||| (r1 <<< (v2 &&& 31)))), some (.int (v2 + 1))]) (n := 28) d_M_areSeen_25 rfl (congrArg _ ci_1) (by decide) rfl rfl ?_
      refine am_goto (tgt := 4) d_M_areSeen_28 rfl ?_
      exact ih (v1 ||| (r1 <<< (v2 &&& 31))) (v2 + 1)  h
def wp_M_areSeen (I : am_TI) (L : am_TL) (R : am_TR) (q : Nat)  (Q : Int32 → Prop) : Prop := (∃ z, wl_M_areSeen_4 I L R q Q z 0 0)
set_option maxRecDepth 20000 in
theorem cm_M_areSeen {d : Nat} {I : am_TI} {L : am_TL} {R : am_TR}  (hw : am_Wf R)   {q : Nat} {Q : Int32 → Prop} (hd : 2 ≤ d) (hq : am_SH[q]? = some (.inl 12)) (h : wp_M_areSeen I L R q  Q) : am_Cm d 0 0 y_M_areSeen b_M_areSeen 3 (some .int) [.ref q] (I, L, R, am_SH) (po_M_areSeen I L R Q) := by
  refine am_Cm_of (ini := false) (by decide +kernel) (fun z => by cases z) (by simp [Value.category]) (fun r σ' z => by obtain ⟨x, rfl, -⟩ := z; exact ⟨_, rfl, rfl⟩) ?_
  unfold wp_M_areSeen at h
  show am_Wp (d, "UnseenRingModel", b_M_areSeen, 3, false) 0 0 0 [some (.ref q), none, none] [] (I, L, R, am_SH) (po_M_areSeen I L R Q)
  refine am_iconst (n := 1) d_M_areSeen_0 ci_0 rfl ?_
  refine am_istore_n (ls' := [some (.ref q), some (.int 0), none]) (n := 2) d_M_areSeen_1 (by decide) rfl rfl ?_
  refine am_iconst (n := 3) d_M_areSeen_2 ci_0 rfl ?_
  refine am_istore_n (ls' := [some (.ref q), some (.int 0), some (.int 0)]) (n := 4) d_M_areSeen_3 (by decide) rfl rfl ?_
  obtain ⟨n, h⟩ := h
  exact tl_M_areSeen_4 hw hq hd n 0 0 h
abbrev po_M_farBetween (I : am_TI) (L : am_TL) (R : am_TR) (Q : Int32 → Prop) : Option Value → am_St → Prop := fun r σ' => ∃ (x : Int32), r = some (.int x) ∧ σ' = (I, L, R, am_SH) ∧ Q x
def wp_M_farBetween (I : am_TI) (L : am_TL) (R : am_TR) (q : Nat) (p1 : Int32) (p2 : Int32)  (Q : Int32 → Prop) : Prop := (¬ (I (q + 1) 0) = 0 ∧ (¬ (I (q + 1) 0) = 0 ∧ (¬ (I (q + 1) 0) = 0 ∧ (¬ (I (q + 1) 0) = 0 ∧ Q ((am_max ((p1 - p1 / (I (q + 1) 0) * (I (q + 1) 0)) - (p2 - p2 / (I (q + 1) 0) * (I (q + 1) 0))) (-((p1 - p1 / (I (q + 1) 0) * (I (q + 1) 0)) - (p2 - p2 / (I (q + 1) 0) * (I (q + 1) 0))))) + (am_max ((p1 / (I (q + 1) 0)) - (p2 / (I (q + 1) 0))) (-((p1 / (I (q + 1) 0)) - (p2 / (I (q + 1) 0))))))))))
set_option maxRecDepth 20000 in
theorem cm_M_farBetween {d : Nat} {I : am_TI} {L : am_TL} {R : am_TR}  (hw : am_Wf R)   {q : Nat} {p1 : Int32} {p2 : Int32} {Q : Int32 → Prop} (hd : 1 ≤ d) (hq : am_SH[q]? = some (.inl 12)) (h : wp_M_farBetween I L R q p1 p2  Q) : am_Cm d 0 0 y_M_farBetween b_M_farBetween 6 (some .int) [.ref q, .int p1, .int p2] (I, L, R, am_SH) (po_M_farBetween I L R Q) := by
  refine am_Cm_of (ini := false) (by decide +kernel) (fun z => by cases z) (by simp [Value.category]) (fun r σ' z => by obtain ⟨x, rfl, -⟩ := z; exact ⟨_, rfl, rfl⟩) ?_
  unfold wp_M_farBetween at h
  show am_Wp (d, "UnseenRingModel", b_M_farBetween, 6, false) 0 0 0 [some (.ref q), some (.int p1), some (.int p2), none, none, none] [] (I, L, R, am_SH) (po_M_farBetween I L R Q)
  refine am_aload_n (n := 1) d_M_farBetween_0 rfl rfl ?_
  refine am_getR (x := (q + 1)) (n := 4) f_M_7 d_M_farBetween_1 rfl rfl hq (hw.1 q 12 0 1 hq rfl) ?_
  refine am_iconst (n := 5) d_M_farBetween_4 ci_0 rfl ?_
  refine am_iald2 (n := 6) d_M_farBetween_5 rfl (am_sho (k := 0) (o := 1) hq (by decide) (by decide) (by decide) rfl) cx_0_2258 cn_0 ?_
  refine am_istore_n (ls' := [some (.ref q), some (.int p1), some (.int p2), some (.int (I (q + 1) 0)), none, none]) (n := 7) d_M_farBetween_6 (by decide) rfl rfl ?_
  refine am_iload_n (n := 8) d_M_farBetween_7 rfl rfl ?_
  refine am_iload_n (n := 9) d_M_farBetween_8 rfl rfl ?_
  obtain ⟨g1, h⟩ := h
  refine am_irem (n := 10) d_M_farBetween_9 g1 rfl ?_
  refine am_iload_n (n := 11) d_M_farBetween_10 rfl rfl ?_
  refine am_iload_n (n := 12) d_M_farBetween_11 rfl rfl ?_
  obtain ⟨g2, h⟩ := h
  refine am_irem (n := 13) d_M_farBetween_12 g2 rfl ?_
  refine am_isub (n := 14) d_M_farBetween_13 rfl ?_
  refine am_istore (ls' := [some (.ref q), some (.int p1), some (.int p2), some (.int (I (q + 1) 0)), some (.int ((p1 - p1 / (I (q + 1) 0) * (I (q + 1) 0)) - (p2 - p2 / (I (q + 1) 0) * (I (q + 1) 0)))), none]) (n := 16) d_M_farBetween_14 (by decide) rfl rfl ?_
  refine am_iload_n (n := 17) d_M_farBetween_16 rfl rfl ?_
  refine am_iload_n (n := 18) d_M_farBetween_17 rfl rfl ?_
  obtain ⟨g3, h⟩ := h
  refine am_idiv (n := 19) d_M_farBetween_18 g3 rfl ?_
  refine am_iload_n (n := 20) d_M_farBetween_19 rfl rfl ?_
  refine am_iload_n (n := 21) d_M_farBetween_20 rfl rfl ?_
  obtain ⟨g4, h⟩ := h
  refine am_idiv (n := 22) d_M_farBetween_21 g4 rfl ?_
  refine am_isub (n := 23) d_M_farBetween_22 rfl ?_
  refine am_istore (ls' := [some (.ref q), some (.int p1), some (.int p2), some (.int (I (q + 1) 0)), some (.int ((p1 - p1 / (I (q + 1) 0) * (I (q + 1) 0)) - (p2 - p2 / (I (q + 1) 0) * (I (q + 1) 0)))), some (.int ((p1 / (I (q + 1) 0)) - (p2 / (I (q + 1) 0))))]) (n := 25) d_M_farBetween_23 (by decide) rfl rfl ?_
  refine am_iload (n := 27) d_M_farBetween_25 rfl rfl ?_
  refine am_iload (n := 29) d_M_farBetween_27 rfl rfl ?_
  refine am_ineg (n := 30) d_M_farBetween_29 rfl ?_
  refine am_mmax2 (n := 33) d_M_farBetween_30 rfl lm_M_310 (Nat.le_of_ble_eq_true rfl) (by omega) ?_
  refine am_iload (n := 35) d_M_farBetween_33 rfl rfl ?_
  refine am_iload (n := 37) d_M_farBetween_35 rfl rfl ?_
  refine am_ineg (n := 38) d_M_farBetween_37 rfl ?_
  refine am_mmax2 (n := 41) d_M_farBetween_38 rfl lm_M_310 (Nat.le_of_ble_eq_true rfl) (by omega) ?_
  refine am_iadd (n := 42) d_M_farBetween_41 rfl ?_
  exact am_iret d_M_farBetween_42 ⟨((am_max ((p1 - p1 / (I (q + 1) 0) * (I (q + 1) 0)) - (p2 - p2 / (I (q + 1) 0) * (I (q + 1) 0))) (-((p1 - p1 / (I (q + 1) 0) * (I (q + 1) 0)) - (p2 - p2 / (I (q + 1) 0) * (I (q + 1) 0))))) + (am_max ((p1 / (I (q + 1) 0)) - (p2 / (I (q + 1) 0))) (-((p1 / (I (q + 1) 0)) - (p2 / (I (q + 1) 0)))))), rfl, rfl, h⟩
