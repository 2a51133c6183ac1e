abbrev po_DaysReader_readTest (L : am_TL) (R : am_TR) (Q : Bool → am_TI → Prop) : Option Value → am_St → Prop := fun r σ' => ∃ (x : Bool) (I' : am_TI), r = some (.int (am_b x)) ∧ σ' = (I', L, R, am_SH) ∧ Q x I'
def wp_DaysReader_readTest (I : am_TI) (L : am_TL) (R : am_TR) (q : Nat) (p1 : Nat) (p2 : Nat) (p3 : Nat)  (Q : Bool → am_TI → Prop) : Prop := wp_U_within I L R (I p1 9) 18 21 (fun (r1 : Bool) => ((r1 = false → wp_Tokens_refuse I L R p1 2 (fun (r9 : Bool) (I10 : am_TI) => Q r9 I10)) ∧ (r1 = true → wp_Tokens_advance I L R p1 (fun (I1 : am_TI) => (vp_in ((I1 p3 6) - 1) 60 ∧ (∀ I2, I2 = am_u2 I1 (p3 + 1) (Int32.toNatClampNeg ((I1 p3 6) - 1)) (I p1 9) → (((I p1 9) = 18 → wp_DaysReader_readFirst I2 L R q p1 0 ((I2 p2 12) - 1) p3 (fun (r2 : Bool) (I3 : am_TI) => Q r2 I3)) ∧ ((I p1 9) = 19 → wp_DaysReader_readFirst I2 L R q p1 0 ((I2 p2 11) - 1) p3 (fun (r3 : Bool) (I4 : am_TI) => Q r3 I4)) ∧ ((I p1 9) = 20 → wp_DaysReader_readCompares I2 L R q p1 p3 (fun (r4 : Bool) (I5 : am_TI) => ((r4 = false → Q false I5) ∧ (r4 = true → wp_DaysReader_readSecond I5 L R q p1 0 9999 p3 (fun (r5 : Bool) (I6 : am_TI) => ((r5 = false → Q false I6) ∧ (r5 = true → Q true I6))))))) ∧ (¬ (I p1 9) = 18 → ¬ (I p1 9) = 19 → ¬ (I p1 9) = 20 → wp_DaysReader_readFirst I2 L R q p1 0 ((I2 p2 11) - 1) p3 (fun (r6 : Bool) (I7 : am_TI) => ((r6 = false → Q false I7) ∧ (r6 = true → wp_DaysReader_readCompares I7 L R q p1 p3 (fun (r7 : Bool) (I8 : am_TI) => ((r7 = false → Q false I8) ∧ (r7 = true → wp_DaysReader_readSecond I8 L R q p1 0 8 p3 (fun (r8 : Bool) (I9 : am_TI) => ((r8 = false → Q false I9) ∧ (r8 = true → Q true I9)))))))))))))))))
set_option maxRecDepth 20000 in
theorem cm_DaysReader_readTest {d : Nat} {I : am_TI} {L : am_TL} {R : am_TR}  (hw : am_Wf R)   {q : Nat} {p1 : Nat} {p2 : Nat} {p3 : Nat} {Q : Bool → am_TI → Prop} (hd : 3 ≤ d) (hq : am_SH[q]? = some (.inl 2)) (hp1 : am_SH[p1]? = some (.inl 9)) (hp2 : am_SH[p2]? = some (.inl 7)) (hp3 : am_SH[p3]? = some (.inl 1)) (h : wp_DaysReader_readTest I L R q p1 p2 p3  Q) : am_Cm d 0 0 y_DaysReader_readTest b_DaysReader_readTest 5 (some .boolean) [.ref q, .ref p1, .ref p2, .ref p3] (I, L, R, am_SH) (po_DaysReader_readTest L R Q) := by
  refine am_Cm_of (ini := false) (by decide +kernel) (fun z => by cases z) (by simp [Value.category]) (fun r σ' z => by obtain ⟨x, _, rfl, -⟩ := z; exact ⟨_, rfl, am_b_nar x⟩) ?_
  unfold wp_DaysReader_readTest at h
  show am_Wp (d, "UnseenRing$DaysReader", b_DaysReader_readTest, 5, false) 0 0 0 [some (.ref q), some (.ref p1), some (.ref p2), some (.ref p3), none] [] (I, L, R, am_SH) (po_DaysReader_readTest L R Q)
  refine am_aload_n (n := 1) d_DaysReader_readTest_0 rfl rfl ?_
  refine am_getI (n := 4) f_DaysReader_45 d_DaysReader_readTest_1 rfl rfl hp1 ?_
  refine am_istore (ls' := [some (.ref q), some (.ref p1), some (.ref p2), some (.ref p3), some (.int (I p1 9))]) (n := 6) d_DaysReader_readTest_4 (by decide) rfl rfl ?_
  refine am_iload (n := 8) d_DaysReader_readTest_6 rfl rfl ?_
  refine am_bipush (n := 10) d_DaysReader_readTest_8 cb_18 rfl ?_
  refine am_bipush (n := 12) d_DaysReader_readTest_10 cb_21 rfl ?_
  refine am_callS (kc := 0) (ks := 0) (As := [.int (I p1 9), .int 18, .int 21]) (n := 15) d_DaysReader_readTest_12 rfl ce_U_within lk_DaysReader_52 st_U_within rfl rfl (Nat.le_of_ble_eq_true rfl) (Or.inl rfl) (cm_U_within (d := d - 1) hw (by omega)  h) (by omega) ?_
  rintro _ _ ⟨r1, rfl, rfl, h⟩
  show am_Wp (d, "UnseenRing$DaysReader", b_DaysReader_readTest, 5, false) 0 0 15 [some (.ref q), some (.ref p1), some (.ref p2), some (.ref p3), some (.int (I p1 9))] [.int (am_b r1)] (I, L, R, am_SH) (po_DaysReader_readTest L R Q)
  refine am_if_ne (y := 0) (tgt := 24) (n := 18) d_DaysReader_readTest_15 rfl rfl (fun c1 => ?_) (fun c1 => ?_)
  · have h := h.2 (am_b_n0 c1)
    refine am_aload_n (n := 25) d_DaysReader_readTest_24 rfl rfl ?_
    refine am_callV (kc := 0) (ks := 0) (As := []) (n := 28) d_DaysReader_readTest_25 rfl ce_Tokens_advance lk_DaysReader_59 in_Tokens_advance rfl rfl hp1 rfl rfl (Nat.le_of_ble_eq_true rfl) (Or.inl rfl) (cm_Tokens_advance (d := d - 1) hw (by omega) hp1 h) (by omega) ?_
    rintro _ _ ⟨I1, rfl, rfl, h⟩
    show am_Wp (d, "UnseenRing$DaysReader", b_DaysReader_readTest, 5, false) 0 0 28 [some (.ref q), some (.ref p1), some (.ref p2), some (.ref p3), some (.int (I p1 9))] [] (I1, L, R, am_SH) (po_DaysReader_readTest L R Q)
    refine am_aload_n (n := 29) d_DaysReader_readTest_28 rfl rfl ?_
    refine am_getR (x := (p3 + 1)) (n := 32) f_DaysReader_113 d_DaysReader_readTest_29 rfl rfl hp3 (hw.1 p3 1 0 1 hp3 rfl) ?_
    refine am_aload_n (n := 33) d_DaysReader_readTest_32 rfl rfl ?_
    refine am_getI (n := 36) f_DaysReader_65 d_DaysReader_readTest_33 rfl rfl hp3 ?_
    refine am_iconst (n := 37) d_DaysReader_readTest_36 ci_1 rfl ?_
    refine am_isub (n := 38) d_DaysReader_readTest_37 rfl ?_
    refine am_iload (n := 40) d_DaysReader_readTest_38 rfl rfl ?_
    obtain ⟨g1, h⟩ := h
    refine am_iast2 (n := 41) d_DaysReader_readTest_40 rfl (am_sho (k := 0) (o := 1) hp3 (by decide) (by decide) (by decide) rfl) g1 rfl ?_
    generalize eI2 : am_u2 I1 (p3 + 1) (Int32.toNatClampNeg ((I1 p3 6) - 1)) (I p1 9) = I2
    have h := h I2 eI2.symm
    refine am_iload (n := 43) d_DaysReader_readTest_41 rfl rfl ?_
    by_cases c2 : (I p1 9) = 18
    · have h := h.1 c2
      refine am_tableIn (off := 25) (tgt := 68) d_DaysReader_readTest_43 (by rw [c2]; decide) (by rw [c2]; decide) (by rw [c2]; decide +kernel) rfl ?_
      refine am_aload_n (n := 69) d_DaysReader_readTest_68 rfl rfl ?_
      refine am_aload_n (n := 70) d_DaysReader_readTest_69 rfl rfl ?_
      refine am_iconst (n := 71) d_DaysReader_readTest_70 ci_0 rfl ?_
      refine am_aload_n (n := 72) d_DaysReader_readTest_71 rfl rfl ?_
      refine am_getI (n := 75) f_DaysReader_115 d_DaysReader_readTest_72 rfl rfl hp2 ?_
      refine am_iconst (n := 76) d_DaysReader_readTest_75 ci_1 rfl ?_
      refine am_isub (n := 77) d_DaysReader_readTest_76 rfl ?_
      refine am_aload_n (n := 78) d_DaysReader_readTest_77 rfl rfl ?_
      refine am_callV (kc := 0) (ks := 0) (As := [.ref p1, .int 0, .int ((I2 p2 12) - 1), .ref p3]) (n := 81) d_DaysReader_readTest_78 rfl ce_DaysReader_readFirst lk_DaysReader_92 in_DaysReader_readFirst rfl rfl hq rfl rfl (Nat.le_of_ble_eq_true rfl) (Or.inl rfl) (cm_DaysReader_readFirst (d := d - 1) hw (by omega) hq hp1 hp3 h) (by omega) ?_
      rintro _ _ ⟨r2, I3, rfl, rfl, h⟩
      show am_Wp (d, "UnseenRing$DaysReader", b_DaysReader_readTest, 5, false) 0 0 81 [some (.ref q), some (.ref p1), some (.ref p2), some (.ref p3), some (.int (I p1 9))] [.int (am_b r2)] (I3, L, R, am_SH) (po_DaysReader_readTest L R Q)
      exact am_iret d_DaysReader_readTest_81 ⟨r2, I3, rfl, rfl, h⟩
    by_cases c3 : (I p1 9) = 19
    · have h := h.2.1 c3
      refine am_tableIn (off := 39) (tgt := 82) d_DaysReader_readTest_43 (by rw [c3]; decide) (by rw [c3]; decide) (by rw [c3]; decide +kernel) rfl ?_
      refine am_aload_n (n := 83) d_DaysReader_readTest_82 rfl rfl ?_
      refine am_aload_n (n := 84) d_DaysReader_readTest_83 rfl rfl ?_
      refine am_iconst (n := 85) d_DaysReader_readTest_84 ci_0 rfl ?_
      refine am_aload_n (n := 86) d_DaysReader_readTest_85 rfl rfl ?_
      refine am_getI (n := 89) f_DaysReader_96 d_DaysReader_readTest_86 rfl rfl hp2 ?_
      refine am_iconst (n := 90) d_DaysReader_readTest_89 ci_1 rfl ?_
      refine am_isub (n := 91) d_DaysReader_readTest_90 rfl ?_
      refine am_aload_n (n := 92) d_DaysReader_readTest_91 rfl rfl ?_
      refine am_callV (kc := 0) (ks := 0) (As := [.ref p1, .int 0, .int ((I2 p2 11) - 1), .ref p3]) (n := 95) d_DaysReader_readTest_92 rfl ce_DaysReader_readFirst lk_DaysReader_92 in_DaysReader_readFirst rfl rfl hq rfl rfl (Nat.le_of_ble_eq_true rfl) (Or.inl rfl) (cm_DaysReader_readFirst (d := d - 1) hw (by omega) hq hp1 hp3 h) (by omega) ?_
      rintro _ _ ⟨r3, I4, rfl, rfl, h⟩
      show am_Wp (d, "UnseenRing$DaysReader", b_DaysReader_readTest, 5, false) 0 0 95 [some (.ref q), some (.ref p1), some (.ref p2), some (.ref p3), some (.int (I p1 9))] [.int (am_b r3)] (I4, L, R, am_SH) (po_DaysReader_readTest L R Q)
      exact am_iret d_DaysReader_readTest_95 ⟨r3, I4, rfl, rfl, h⟩
    by_cases c4 : (I p1 9) = 20
    · have h := h.2.2.1 c4
      refine am_tableIn (off := 53) (tgt := 96) d_DaysReader_readTest_43 (by rw [c4]; decide) (by rw [c4]; decide) (by rw [c4]; decide +kernel) rfl ?_
      refine am_aload_n (n := 97) d_DaysReader_readTest_96 rfl rfl ?_
      refine am_aload_n (n := 98) d_DaysReader_readTest_97 rfl rfl ?_
      refine am_aload_n (n := 99) d_DaysReader_readTest_98 rfl rfl ?_
      refine am_callV (kc := 0) (ks := 0) (As := [.ref p1, .ref p3]) (n := 102) d_DaysReader_readTest_99 rfl ce_DaysReader_readCompares lk_DaysReader_118 in_DaysReader_readCompares rfl rfl hq rfl rfl (Nat.le_of_ble_eq_true rfl) (Or.inl rfl) (cm_DaysReader_readCompares (d := d - 1) hw (by omega) hq hp1 hp3 h) (by omega) ?_
      rintro _ _ ⟨r4, I5, rfl, rfl, h⟩
      show am_Wp (d, "UnseenRing$DaysReader", b_DaysReader_readTest, 5, false) 0 0 102 [some (.ref q), some (.ref p1), some (.ref p2), some (.ref p3), some (.int (I p1 9))] [.int (am_b r4)] (I5, L, R, am_SH) (po_DaysReader_readTest L R Q)
      refine am_if_eq (y := 0) (tgt := 122) (n := 105) d_DaysReader_readTest_102 rfl rfl (fun c5 => ?_) (fun c5 => ?_)
      · have h := h.1 (am_b_0 c5)
        refine am_iconst (n := 123) d_DaysReader_readTest_122 ci_0 rfl ?_
        exact am_iret d_DaysReader_readTest_123 ⟨false, I5, rfl, rfl, h⟩
      · have h := h.2 (am_b_n0 c5)
        refine am_aload_n (n := 106) d_DaysReader_readTest_105 rfl rfl ?_
        refine am_aload_n (n := 107) d_DaysReader_readTest_106 rfl rfl ?_
        refine am_iconst (n := 108) d_DaysReader_readTest_107 ci_0 rfl ?_
        refine am_sipush (n := 111) d_DaysReader_readTest_108 cs_9999 rfl ?_
        refine am_aload_n (n := 112) d_DaysReader_readTest_111 rfl rfl ?_
        refine am_callV (kc := 0) (ks := 0) (As := [.ref p1, .int 0, .int 9999, .ref p3]) (n := 115) d_DaysReader_readTest_112 rfl ce_DaysReader_readSecond lk_DaysReader_99 in_DaysReader_readSecond rfl rfl hq rfl rfl (Nat.le_of_ble_eq_true rfl) (Or.inl rfl) (cm_DaysReader_readSecond (d := d - 1) hw (by omega) hq hp1 hp3 h) (by omega) ?_
        rintro _ _ ⟨r5, I6, rfl, rfl, h⟩
        show am_Wp (d, "UnseenRing$DaysReader", b_DaysReader_readTest, 5, false) 0 0 115 [some (.ref q), some (.ref p1), some (.ref p2), some (.ref p3), some (.int (I p1 9))] [.int (am_b r5)] (I6, L, R, am_SH) (po_DaysReader_readTest L R Q)
        refine am_if_eq (y := 0) (tgt := 122) (n := 118) d_DaysReader_readTest_115 rfl rfl (fun c6 => ?_) (fun c6 => ?_)
        · have h := h.1 (am_b_0 c6)
          refine am_iconst (n := 123) d_DaysReader_readTest_122 ci_0 rfl ?_
          exact am_iret d_DaysReader_readTest_123 ⟨false, I6, rfl, rfl, h⟩
        · have h := h.2 (am_b_n0 c6)
          refine am_iconst (n := 119) d_DaysReader_readTest_118 ci_1 rfl ?_
          refine am_goto (tgt := 123) d_DaysReader_readTest_119 rfl ?_
          exact am_iret d_DaysReader_readTest_123 ⟨true, I6, rfl, rfl, h⟩
    have h := h.2.2.2 c2 c3 c4
    have z0 := lv_neT c2 (a := 18) (by decide)
    have z1 := lv_neT c3 (a := 19) (by decide)
    have z2 := lv_neT c4 (a := 20) (by decide)
    refine am_tableOut (tgt := 124) d_DaysReader_readTest_43 (by omega) rfl ?_
    refine am_aload_n (n := 125) d_DaysReader_readTest_124 rfl rfl ?_
    refine am_aload_n (n := 126) d_DaysReader_readTest_125 rfl rfl ?_
    refine am_iconst (n := 127) d_DaysReader_readTest_126 ci_0 rfl ?_
    refine am_aload_n (n := 128) d_DaysReader_readTest_127 rfl rfl ?_
    refine am_getI (n := 131) f_DaysReader_96 d_DaysReader_readTest_128 rfl rfl hp2 ?_
    refine am_iconst (n := 132) d_DaysReader_readTest_131 ci_1 rfl ?_
    refine am_isub (n := 133) d_DaysReader_readTest_132 rfl ?_
    refine am_aload_n (n := 134) d_DaysReader_readTest_133 rfl rfl ?_
    refine am_callV (kc := 0) (ks := 0) (As := [.ref p1, .int 0, .int ((I2 p2 11) - 1), .ref p3]) (n := 137) d_DaysReader_readTest_134 rfl ce_DaysReader_readFirst lk_DaysReader_92 in_DaysReader_readFirst rfl rfl hq rfl rfl (Nat.le_of_ble_eq_true rfl) (Or.inl rfl) (cm_DaysReader_readFirst (d := d - 1) hw (by omega) hq hp1 hp3 h) (by omega) ?_
    rintro _ _ ⟨r6, I7, rfl, rfl, h⟩
    show am_Wp (d, "UnseenRing$DaysReader", b_DaysReader_readTest, 5, false) 0 0 137 [some (.ref q), some (.ref p1), some (.ref p2), some (.ref p3), some (.int (I p1 9))] [.int (am_b r6)] (I7, L, R, am_SH) (po_DaysReader_readTest L R Q)
    refine am_if_eq (y := 0) (tgt := 165) (n := 140) d_DaysReader_readTest_137 rfl rfl (fun c7 => ?_) (fun c7 => ?_)
    · have h := h.1 (am_b_0 c7)
      refine am_iconst (n := 166) d_DaysReader_readTest_165 ci_0 rfl ?_
      exact am_iret d_DaysReader_readTest_166 ⟨false, I7, rfl, rfl, h⟩
    · have h := h.2 (am_b_n0 c7)
      refine am_aload_n (n := 141) d_DaysReader_readTest_140 rfl rfl ?_
      refine am_aload_n (n := 142) d_DaysReader_readTest_141 rfl rfl ?_
      refine am_aload_n (n := 143) d_DaysReader_readTest_142 rfl rfl ?_
      refine am_callV (kc := 0) (ks := 0) (As := [.ref p1, .ref p3]) (n := 146) d_DaysReader_readTest_143 rfl ce_DaysReader_readCompares lk_DaysReader_118 in_DaysReader_readCompares rfl rfl hq rfl rfl (Nat.le_of_ble_eq_true rfl) (Or.inl rfl) (cm_DaysReader_readCompares (d := d - 1) hw (by omega) hq hp1 hp3 h) (by omega) ?_
      rintro _ _ ⟨r7, I8, rfl, rfl, h⟩
      show am_Wp (d, "UnseenRing$DaysReader", b_DaysReader_readTest, 5, false) 0 0 146 [some (.ref q), some (.ref p1), some (.ref p2), some (.ref p3), some (.int (I p1 9))] [.int (am_b r7)] (I8, L, R, am_SH) (po_DaysReader_readTest L R Q)
      refine am_if_eq (y := 0) (tgt := 165) (n := 149) d_DaysReader_readTest_146 rfl rfl (fun c8 => ?_) (fun c8 => ?_)
      · have h := h.1 (am_b_0 c8)
        refine am_iconst (n := 166) d_DaysReader_readTest_165 ci_0 rfl ?_
        exact am_iret d_DaysReader_readTest_166 ⟨false, I8, rfl, rfl, h⟩
      · have h := h.2 (am_b_n0 c8)
        refine am_aload_n (n := 150) d_DaysReader_readTest_149 rfl rfl ?_
        refine am_aload_n (n := 151) d_DaysReader_readTest_150 rfl rfl ?_
        refine am_iconst (n := 152) d_DaysReader_readTest_151 ci_0 rfl ?_
        refine am_bipush (n := 154) d_DaysReader_readTest_152 cb_8 rfl ?_
        refine am_aload_n (n := 155) d_DaysReader_readTest_154 rfl rfl ?_
        refine am_callV (kc := 0) (ks := 0) (As := [.ref p1, .int 0, .int 8, .ref p3]) (n := 158) d_DaysReader_readTest_155 rfl ce_DaysReader_readSecond lk_DaysReader_99 in_DaysReader_readSecond rfl rfl hq rfl rfl (Nat.le_of_ble_eq_true rfl) (Or.inl rfl) (cm_DaysReader_readSecond (d := d - 1) hw (by omega) hq hp1 hp3 h) (by omega) ?_
        rintro _ _ ⟨r8, I9, rfl, rfl, h⟩
        show am_Wp (d, "UnseenRing$DaysReader", b_DaysReader_readTest, 5, false) 0 0 158 [some (.ref q), some (.ref p1), some (.ref p2), some (.ref p3), some (.int (I p1 9))] [.int (am_b r8)] (I9, L, R, am_SH) (po_DaysReader_readTest L R Q)
        refine am_if_eq (y := 0) (tgt := 165) (n := 161) d_DaysReader_readTest_158 rfl rfl (fun c9 => ?_) (fun c9 => ?_)
        · have h := h.1 (am_b_0 c9)
          refine am_iconst (n := 166) d_DaysReader_readTest_165 ci_0 rfl ?_
          exact am_iret d_DaysReader_readTest_166 ⟨false, I9, rfl, rfl, h⟩
        · have h := h.2 (am_b_n0 c9)
          refine am_iconst (n := 162) d_DaysReader_readTest_161 ci_1 rfl ?_
          refine am_goto (tgt := 166) d_DaysReader_readTest_162 rfl ?_
          exact am_iret d_DaysReader_readTest_166 ⟨true, I9, rfl, rfl, h⟩
  · have h := h.1 (am_b_0 c1)
    refine am_aload_n (n := 19) d_DaysReader_readTest_18 rfl rfl ?_
    refine am_iconst (n := 20) d_DaysReader_readTest_19 ci_2 rfl ?_
    refine am_callV (kc := 0) (ks := 0) (As := [.int 2]) (n := 23) d_DaysReader_readTest_20 rfl ce_Tokens_refuse lk_DaysReader_37 in_Tokens_refuse rfl rfl hp1 rfl rfl (Nat.le_of_ble_eq_true rfl) (Or.inl rfl) (cm_Tokens_refuse (d := d - 1) hw (by omega) hp1 h) (by omega) ?_
    rintro _ _ ⟨r9, I10, rfl, rfl, h⟩
    show am_Wp (d, "UnseenRing$DaysReader", b_DaysReader_readTest, 5, false) 0 0 23 [some (.ref q), some (.ref p1), some (.ref p2), some (.ref p3), some (.int (I p1 9))] [.int (am_b r9)] (I10, L, R, am_SH) (po_DaysReader_readTest L R Q)
    exact am_iret d_DaysReader_readTest_23 ⟨r9, I10, rfl, rfl, h⟩
abbrev po_DaysReader_readStep (L : am_TL) (R : am_TR) (Q : Bool → am_TI → Prop) : Option Value → am_St → Prop := fun r σ' => ∃ (x : Bool) (I' : am_TI), r = some (.int (am_b x)) ∧ σ' = (I', L, R, am_SH) ∧ Q x I'
def wb_DaysReader_readStep_183 (L : am_TL) (R : am_TR) (q : Nat) (p1 : Nat) (p2 : Nat) (p3 : Nat) (Q : Bool → am_TI → Prop)  (I : am_TI) (s0 : Bool) : Prop := ((s0 = false → Q false I) ∧ (s0 = true → wp_Tokens_takeSemicolon I L R p1 (fun (r2 : Bool) (I5 : am_TI) => ((r2 = false → Q false I5) ∧ (r2 = true → Q true I5)))))
set_option maxRecDepth 20000 in
theorem tb_DaysReader_readStep_183 {d : Nat}  {L : am_TL} {R : am_TR} {q : Nat} {p1 : Nat} {p2 : Nat} {p3 : Nat} {Q : Bool → am_TI → Prop}  (hw : am_Wf R) (hq : am_SH[q]? = some (.inl 2)) (hp1 : am_SH[p1]? = some (.inl 9)) (hp2 : am_SH[p2]? = some (.inl 7)) (hp3 : am_SH[p3]? = some (.inl 1)) (hd : 4 ≤ d) (I : am_TI) (s0 : Bool) (h : wb_DaysReader_readStep_183 L R q p1 p2 p3 Q  I s0) : am_Wp (d, "UnseenRing$DaysReader", b_DaysReader_readStep, 7, false) 0 0 183 [some (.ref q), some (.ref p1), some (.ref p2), some (.ref p3), none, none, none] [.int (am_b s0)] (I, L, R, am_SH) (po_DaysReader_readStep L R Q) := by
  unfold wb_DaysReader_readStep_183 at h
  refine am_istore (ls' := [some (.ref q), some (.ref p1), some (.ref p2), some (.ref p3), none, none, some (.int (am_b s0))]) (n := 185) d_DaysReader_readStep_183 (by decide) rfl rfl ?_
  refine am_iload (n := 187) d_DaysReader_readStep_185 rfl rfl ?_
  refine am_if_eq (y := 0) (tgt := 201) (n := 190) d_DaysReader_readStep_187 rfl rfl (fun c8 => ?_) (fun c8 => ?_)
  · have h := h.1 (am_b_0 c8)
    refine am_iconst (n := 202) d_DaysReader_readStep_201 ci_0 rfl ?_
    exact am_iret d_DaysReader_readStep_202 ⟨false, I, rfl, rfl, h⟩
  · have h := h.2 (am_b_n0 c8)
    refine am_aload_n (n := 191) d_DaysReader_readStep_190 rfl rfl ?_
    refine am_callV (kc := 0) (ks := 0) (As := []) (n := 194) d_DaysReader_readStep_191 rfl ce_Tokens_takeSemicolon lk_DaysReader_75 in_Tokens_takeSemicolon rfl rfl hp1 rfl rfl (Nat.le_of_ble_eq_true rfl) (Or.inl rfl) (cm_Tokens_takeSemicolon (d := d - 1) hw (by omega) hp1 h) (by omega) ?_
    rintro _ _ ⟨r2, I5, rfl, rfl, h⟩
    show am_Wp (d, "UnseenRing$DaysReader", b_DaysReader_readStep, 7, false) 0 0 194 [some (.ref q), some (.ref p1), some (.ref p2), some (.ref p3), none, none, some (.int (am_b s0))] [.int (am_b r2)] (I5, L, R, am_SH) (po_DaysReader_readStep L R Q)
    refine am_if_eq (y := 0) (tgt := 201) (n := 197) d_DaysReader_readStep_194 rfl rfl (fun c9 => ?_) (fun c9 => ?_)
    · have h := h.1 (am_b_0 c9)
      refine am_iconst (n := 202) d_DaysReader_readStep_201 ci_0 rfl ?_
      exact am_iret d_DaysReader_readStep_202 ⟨false, I5, rfl, rfl, h⟩
    · have h := h.2 (am_b_n0 c9)
      refine am_iconst (n := 198) d_DaysReader_readStep_197 ci_1 rfl ?_
      refine am_goto (tgt := 202) d_DaysReader_readStep_198 rfl ?_
      exact am_iret d_DaysReader_readStep_202 ⟨true, I5, rfl, rfl, h⟩
def wb_DaysReader_readStep_157 (L : am_TL) (R : am_TR) (q : Nat) (p1 : Nat) (p2 : Nat) (p3 : Nat) (Q : Bool → am_TI → Prop)  (I : am_TI) (v4 : Int32) : Prop := ((v4 = 17 → wp_DaysReader_readTest I L R q p1 p2 p3 (fun (r3 : Bool) (I6 : am_TI) => wb_DaysReader_readStep_183 L R q p1 p2 p3 Q I6 r3)) ∧ (¬ v4 = 17 → wp_DaysReader_readRest I L R q v4 p1 p2 p3 (fun (r1 : Bool) (I4 : am_TI) => wb_DaysReader_readStep_183 L R q p1 p2 p3 Q I4 r1)))
set_option maxRecDepth 20000 in
theorem tb_DaysReader_readStep_157 {d : Nat}  {L : am_TL} {R : am_TR} {q : Nat} {p1 : Nat} {p2 : Nat} {p3 : Nat} {Q : Bool → am_TI → Prop}  (hw : am_Wf R) (hq : am_SH[q]? = some (.inl 2)) (hp1 : am_SH[p1]? = some (.inl 9)) (hp2 : am_SH[p2]? = some (.inl 7)) (hp3 : am_SH[p3]? = some (.inl 1)) (hd : 4 ≤ d) (I : am_TI) (v4 : Int32) (h : wb_DaysReader_readStep_157 L R q p1 p2 p3 Q  I v4) : am_Wp (d, "UnseenRing$DaysReader", b_DaysReader_readStep, 7, false) 0 0 157 [some (.ref q), some (.ref p1), some (.ref p2), some (.ref p3), some (.int v4), none, none] [] (I, L, R, am_SH) (po_DaysReader_readStep L R Q) := by
  unfold wb_DaysReader_readStep_157 at h
  refine am_iload (n := 159) d_DaysReader_readStep_157 rfl rfl ?_
  refine am_bipush (n := 161) d_DaysReader_readStep_159 cb_17 rfl ?_
  refine am_icmp_ne (tgt := 174) (n := 164) d_DaysReader_readStep_161 rfl rfl (fun c7 => ?_) (fun c7 => ?_)
  · have h := h.2 c7
    refine am_aload_n (n := 175) d_DaysReader_readStep_174 rfl rfl ?_
    refine am_iload (n := 177) d_DaysReader_readStep_175 rfl rfl ?_
    refine am_aload_n (n := 178) d_DaysReader_readStep_177 rfl rfl ?_
    refine am_aload_n (n := 179) d_DaysReader_readStep_178 rfl rfl ?_
    refine am_aload_n (n := 180) d_DaysReader_readStep_179 rfl rfl ?_
    refine am_callV (kc := 0) (ks := 0) (As := [.int v4, .ref p1, .ref p2, .ref p3]) (n := 183) d_DaysReader_readStep_180 rfl ce_DaysReader_readRest lk_DaysReader_71 in_DaysReader_readRest rfl rfl hq rfl rfl (Nat.le_of_ble_eq_true rfl) (Or.inl rfl) (cm_DaysReader_readRest (d := d - 1) hw (by omega) hq hp1 hp2 hp3 h) (by omega) ?_
    rintro _ _ ⟨r1, I4, rfl, rfl, h⟩
    show am_Wp (d, "UnseenRing$DaysReader", b_DaysReader_readStep, 7, false) 0 0 183 [some (.ref q), some (.ref p1), some (.ref p2), some (.ref p3), some (.int v4), none, none] [.int (am_b r1)] (I4, L, R, am_SH) (po_DaysReader_readStep L R Q)
    refine am_forget (ls' := [some (.ref q), some (.ref p1), some (.ref p2), some (.ref p3), none, none, none]) (am_le_s (am_le_s (am_le_s (am_le_s (am_le_n (am_le_n (am_le_n am_le_e))))))) ?_
    exact tb_DaysReader_readStep_183 hw hq hp1 hp2 hp3 hd I4 r1 h
  · have h := h.1 c7
    refine am_aload_n (n := 165) d_DaysReader_readStep_164 rfl rfl ?_
    refine am_aload_n (n := 166) d_DaysReader_readStep_165 rfl rfl ?_
    refine am_aload_n (n := 167) d_DaysReader_readStep_166 rfl rfl ?_
    refine am_aload_n (n := 168) d_DaysReader_readStep_167 rfl rfl ?_
    refine am_callV (kc := 0) (ks := 0) (As := [.ref p1, .ref p2, .ref p3]) (n := 171) d_DaysReader_readStep_168 rfl ce_DaysReader_readTest lk_DaysReader_68 in_DaysReader_readTest rfl rfl hq rfl rfl (Nat.le_of_ble_eq_true rfl) (Or.inl rfl) (cm_DaysReader_readTest (d := d - 1) hw (by omega) hq hp1 hp2 hp3 h) (by omega) ?_
    rintro _ _ ⟨r3, I6, rfl, rfl, h⟩
    show am_Wp (d, "UnseenRing$DaysReader", b_DaysReader_readStep, 7, false) 0 0 171 [some (.ref q), some (.ref p1), some (.ref p2), some (.ref p3), some (.int v4), none, none] [.int (am_b r3)] (I6, L, R, am_SH) (po_DaysReader_readStep L R Q)
    refine am_goto (tgt := 183) d_DaysReader_readStep_171 rfl ?_
    refine am_forget (ls' := [some (.ref q), some (.ref p1), some (.ref p2), some (.ref p3), none, none, none]) (am_le_s (am_le_s (am_le_s (am_le_s (am_le_n (am_le_n (am_le_n am_le_e))))))) ?_
    exact tb_DaysReader_readStep_183 hw hq hp1 hp2 hp3 hd I6 r3 h
def wb_DaysReader_readStep_107 (L : am_TL) (R : am_TR) (q : Nat) (p1 : Nat) (p2 : Nat) (p3 : Nat) (Q : Bool → am_TI → Prop)  (I : am_TI) (v4 : Int32) (v5 : Bool) : Prop := wp_Tokens_advance I L R p1 (fun (I1 : am_TI) => wp_Days_add I1 L R p3 v4 (fun (I2 : am_TI) => (∀ I3, I3 = am_u2 I2 p3 7 ((I2 p3 7) + 1) → ((v5 = false → wb_DaysReader_readStep_157 L R q p1 p2 p3 Q I3 v4) ∧ (v5 = true → (vp_in (I3 q 1) 3 ∧ (∀ I7, I7 = am_u2 I3 (q + 1) (Int32.toNatClampNeg (I3 q 1)) ((I3 p3 6) - 1) → (∀ I8, I8 = am_u2 I7 q 1 ((I7 q 1) + 1) → wb_DaysReader_readStep_157 L R q p1 p2 p3 Q I8 v4))))))))
set_option maxRecDepth 20000 in
theorem tb_DaysReader_readStep_107 {d : Nat}  {L : am_TL} {R : am_TR} {q : Nat} {p1 : Nat} {p2 : Nat} {p3 : Nat} {Q : Bool → am_TI → Prop}  (hw : am_Wf R) (hq : am_SH[q]? = some (.inl 2)) (hp1 : am_SH[p1]? = some (.inl 9)) (hp2 : am_SH[p2]? = some (.inl 7)) (hp3 : am_SH[p3]? = some (.inl 1)) (hd : 4 ≤ d) (I : am_TI) (v4 : Int32) (v5 : Bool) (h : wb_DaysReader_readStep_107 L R q p1 p2 p3 Q  I v4 v5) : am_Wp (d, "UnseenRing$DaysReader", b_DaysReader_readStep, 7, false) 0 0 107 [some (.ref q), some (.ref p1), some (.ref p2), some (.ref p3), some (.int v4), some (.int (am_b v5)), none] [] (I, L, R, am_SH) (po_DaysReader_readStep L R Q) := by
  unfold wb_DaysReader_readStep_107 at h
  refine am_aload_n (n := 108) d_DaysReader_readStep_107 rfl rfl ?_
  refine am_callV (kc := 0) (ks := 0) (As := []) (n := 111) d_DaysReader_readStep_108 rfl ce_Tokens_advance lk_DaysReader_59 in_Tokens_advance rfl rfl hp1 rfl rfl (Nat.le_of_ble_eq_true rfl) (Or.inl rfl) (cm_Tokens_advance (d := d - 1) hw (by omega) hp1 h) (by omega) ?_
  rintro _ _ ⟨I1, rfl, rfl, h⟩
  show am_Wp (d, "UnseenRing$DaysReader", b_DaysReader_readStep, 7, false) 0 0 111 [some (.ref q), some (.ref p1), some (.ref p2), some (.ref p3), some (.int v4), some (.int (am_b v5)), none] [] (I1, L, R, am_SH) (po_DaysReader_readStep L R Q)
  refine am_aload_n (n := 112) d_DaysReader_readStep_111 rfl rfl ?_
  refine am_iload (n := 114) d_DaysReader_readStep_112 rfl rfl ?_
  refine am_callV (kc := 0) (ks := 0) (As := [.int v4]) (n := 117) d_DaysReader_readStep_114 rfl ce_Days_add lk_DaysReader_62 in_Days_add rfl rfl hp3 rfl rfl (Nat.le_of_ble_eq_true rfl) (Or.inl rfl) (cm_Days_add (d := d - 1) hw (by omega) hp3 h) (by omega) ?_
  rintro _ _ ⟨I2, rfl, rfl, h⟩
  show am_Wp (d, "UnseenRing$DaysReader", b_DaysReader_readStep, 7, false) 0 0 117 [some (.ref q), some (.ref p1), some (.ref p2), some (.ref p3), some (.int v4), some (.int (am_b v5)), none] [] (I2, L, R, am_SH) (po_DaysReader_readStep L R Q)
  refine am_aload_n (n := 118) d_DaysReader_readStep_117 rfl rfl ?_
  refine am_dup (n := 119) d_DaysReader_readStep_118 rfl rfl ?_
  refine am_getI (n := 122) f_DaysReader_56 d_DaysReader_readStep_119 rfl rfl hp3 ?_
  refine am_iconst (n := 123) d_DaysReader_readStep_122 ci_1 rfl ?_
  refine am_iadd (n := 124) d_DaysReader_readStep_123 rfl ?_
  refine am_putI (n := 127) f_DaysReader_56 d_DaysReader_readStep_124 rfl ⟨_, rfl, Or.inl rfl⟩ rfl rfl hp3 ?_
  generalize eI3 : am_u2 I2 p3 7 ((I2 p3 7) + 1) = I3
  have h := h I3 eI3.symm
  refine am_iload (n := 129) d_DaysReader_readStep_127 rfl rfl ?_
  refine am_if_eq (y := 0) (tgt := 157) (n := 132) d_DaysReader_readStep_129 rfl rfl (fun c6 => ?_) (fun c6 => ?_)
  · have h := h.1 (am_b_0 c6)
    refine am_forget (ls' := [some (.ref q), some (.ref p1), some (.ref p2), some (.ref p3), some (.int v4), none, none]) (am_le_s (am_le_s (am_le_s (am_le_s (am_le_s (am_le_n (am_le_n am_le_e))))))) ?_
    exact tb_DaysReader_readStep_157 hw hq hp1 hp2 hp3 hd I3 v4 h
  · have h := h.2 (am_b_n0 c6)
    refine am_aload_n (n := 133) d_DaysReader_readStep_132 rfl rfl ?_
    refine am_getR (x := (q + 1)) (n := 136) f_DaysReader_11 d_DaysReader_readStep_133 rfl rfl hq (hw.1 q 2 0 1 hq rfl) ?_
    refine am_aload_n (n := 137) d_DaysReader_readStep_136 rfl rfl ?_
    refine am_getI (n := 140) f_DaysReader_15 d_DaysReader_readStep_137 rfl rfl hq ?_
    refine am_aload_n (n := 141) d_DaysReader_readStep_140 rfl rfl ?_
    refine am_getI (n := 144) f_DaysReader_65 d_DaysReader_readStep_141 rfl rfl hp3 ?_
    refine am_iconst (n := 145) d_DaysReader_readStep_144 ci_1 rfl ?_
    refine am_isub (n := 146) d_DaysReader_readStep_145 rfl ?_
    obtain ⟨g1, h⟩ := h
    refine am_iast2 (n := 147) d_DaysReader_readStep_146 rfl (am_sho (k := 0) (o := 1) hq (by decide) (by decide) (by decide) rfl) g1 rfl ?_
    generalize eI7 : am_u2 I3 (q + 1) (Int32.toNatClampNeg (I3 q 1)) ((I3 p3 6) - 1) = I7
    have h := h I7 eI7.symm
    refine am_aload_n (n := 148) d_DaysReader_readStep_147 rfl rfl ?_
    refine am_dup (n := 149) d_DaysReader_readStep_148 rfl rfl ?_
    refine am_getI (n := 152) f_DaysReader_15 d_DaysReader_readStep_149 rfl rfl hq ?_
    refine am_iconst (n := 153) d_DaysReader_readStep_152 ci_1 rfl ?_
    refine am_iadd (n := 154) d_DaysReader_readStep_153 rfl ?_
    refine am_putI (n := 157) f_DaysReader_15 d_DaysReader_readStep_154 rfl ⟨_, rfl, Or.inl rfl⟩ rfl rfl hq ?_
    generalize eI8 : am_u2 I7 q 1 ((I7 q 1) + 1) = I8
    have h := h I8 eI8.symm
    refine am_forget (ls' := [some (.ref q), some (.ref p1), some (.ref p2), some (.ref p3), some (.int v4), none, none]) (am_le_s (am_le_s (am_le_s (am_le_s (am_le_s (am_le_n (am_le_n am_le_e))))))) ?_
    exact tb_DaysReader_readStep_157 hw hq hp1 hp2 hp3 hd I8 v4 h
def wb_DaysReader_readStep_71 (L : am_TL) (R : am_TR) (q : Nat) (p1 : Nat) (p2 : Nat) (p3 : Nat) (Q : Bool → am_TI → Prop)  (I : am_TI) (v4 : Int32) (v5 : Bool) : Prop := (((I p3 7) < 30 → ((v5 = false → wb_DaysReader_readStep_107 L R q p1 p2 p3 Q I v4 v5) ∧ (v5 = true → (((I q 1) < 3 → wb_DaysReader_readStep_107 L R q p1 p2 p3 Q I v4 v5) ∧ (¬ (I q 1) < 3 → wp_Tokens_refuse I L R p1 7 (fun (r4 : Bool) (I9 : am_TI) => Q r4 I9)))))) ∧ (¬ (I p3 7) < 30 → wp_Tokens_refuse I L R p1 6 (fun (r5 : Bool) (I10 : am_TI) => Q r5 I10)))
set_option maxRecDepth 20000 in
theorem tb_DaysReader_readStep_71 {d : Nat}  {L : am_TL} {R : am_TR} {q : Nat} {p1 : Nat} {p2 : Nat} {p3 : Nat} {Q : Bool → am_TI → Prop}  (hw : am_Wf R) (hq : am_SH[q]? = some (.inl 2)) (hp1 : am_SH[p1]? = some (.inl 9)) (hp2 : am_SH[p2]? = some (.inl 7)) (hp3 : am_SH[p3]? = some (.inl 1)) (hd : 4 ≤ d) (I : am_TI) (v4 : Int32) (v5 : Bool) (h : wb_DaysReader_readStep_71 L R q p1 p2 p3 Q  I v4 v5) : am_Wp (d, "UnseenRing$DaysReader", b_DaysReader_readStep, 7, false) 0 0 71 [some (.ref q), some (.ref p1), some (.ref p2), some (.ref p3), some (.int v4), some (.int (am_b v5)), none] [] (I, L, R, am_SH) (po_DaysReader_readStep L R Q) := by
  unfold wb_DaysReader_readStep_71 at h
  refine am_aload_n (n := 72) d_DaysReader_readStep_71 rfl rfl ?_
  refine am_getI (n := 75) f_DaysReader_56 d_DaysReader_readStep_72 rfl rfl hp3 ?_
  refine am_bipush (n := 77) d_DaysReader_readStep_75 cb_30 rfl ?_
  refine am_icmp_lt (tgt := 87) (n := 80) d_DaysReader_readStep_77 rfl rfl (fun c4 => ?_) (fun c4 => ?_)
  · have h := h.1 c4
    refine am_iload (n := 89) d_DaysReader_readStep_87 rfl rfl ?_
    refine am_if_eq (y := 0) (tgt := 107) (n := 92) d_DaysReader_readStep_89 rfl rfl (fun c5 => ?_) (fun c5 => ?_)
    · have h := h.1 (am_b_0 c5)
      exact tb_DaysReader_readStep_107 hw hq hp1 hp2 hp3 hd I v4 v5 h
    · have h := h.2 (am_b_n0 c5)
      refine am_aload_n (n := 93) d_DaysReader_readStep_92 rfl rfl ?_
      refine am_getI (n := 96) f_DaysReader_15 d_DaysReader_readStep_93 rfl rfl hq ?_
      refine am_iconst (n := 97) d_DaysReader_readStep_96 ci_3 rfl ?_
      refine am_icmp_lt (tgt := 107) (n := 100) d_DaysReader_readStep_97 rfl rfl (fun c10 => ?_) (fun c10 => ?_)
      · have h := h.1 c10
        exact tb_DaysReader_readStep_107 hw hq hp1 hp2 hp3 hd I v4 v5 h
      · have h := h.2 c10
        refine am_aload_n (n := 101) d_DaysReader_readStep_100 rfl rfl ?_
        refine am_bipush (n := 103) d_DaysReader_readStep_101 cb_7 rfl ?_
        refine am_callV (kc := 0) (ks := 0) (As := [.int 7]) (n := 106) d_DaysReader_readStep_103 rfl ce_Tokens_refuse lk_DaysReader_37 in_Tokens_refuse rfl rfl hp1 rfl rfl (Nat.le_of_ble_eq_true rfl) (Or.inl rfl) (cm_Tokens_refuse (d := d - 1) hw (by omega) hp1 h) (by omega) ?_
        rintro _ _ ⟨r4, I9, rfl, rfl, h⟩
        show am_Wp (d, "UnseenRing$DaysReader", b_DaysReader_readStep, 7, false) 0 0 106 [some (.ref q), some (.ref p1), some (.ref p2), some (.ref p3), some (.int v4), some (.int (am_b v5)), none] [.int (am_b r4)] (I9, L, R, am_SH) (po_DaysReader_readStep L R Q)
        exact am_iret d_DaysReader_readStep_106 ⟨r4, I9, rfl, rfl, h⟩
  · have h := h.2 c4
    refine am_aload_n (n := 81) d_DaysReader_readStep_80 rfl rfl ?_
    refine am_bipush (n := 83) d_DaysReader_readStep_81 cb_6 rfl ?_
    refine am_callV (kc := 0) (ks := 0) (As := [.int 6]) (n := 86) d_DaysReader_readStep_83 rfl ce_Tokens_refuse lk_DaysReader_37 in_Tokens_refuse rfl rfl hp1 rfl rfl (Nat.le_of_ble_eq_true rfl) (Or.inl rfl) (cm_Tokens_refuse (d := d - 1) hw (by omega) hp1 h) (by omega) ?_
    rintro _ _ ⟨r5, I10, rfl, rfl, h⟩
    show am_Wp (d, "UnseenRing$DaysReader", b_DaysReader_readStep, 7, false) 0 0 86 [some (.ref q), some (.ref p1), some (.ref p2), some (.ref p3), some (.int v4), some (.int (am_b v5)), none] [.int (am_b r5)] (I10, L, R, am_SH) (po_DaysReader_readStep L R Q)
    exact am_iret d_DaysReader_readStep_86 ⟨r5, I10, rfl, rfl, h⟩
def wb_DaysReader_readStep_39 (L : am_TL) (R : am_TR) (q : Nat) (p1 : Nat) (p2 : Nat) (p3 : Nat) (Q : Bool → am_TI → Prop)  (I : am_TI) (v4 : Int32) (s0 : Bool) : Prop := ((s0 = false → ((v4 = 24 → wb_DaysReader_readStep_71 L R q p1 p2 p3 Q I v4 s0) ∧ (¬ v4 = 24 → wp_U_within I L R v4 10 16 (fun (r6 : Bool) => ((r6 = false → wp_Tokens_refuse I L R p1 2 (fun (r7 : Bool) (I11 : am_TI) => Q r7 I11)) ∧ (r6 = true → wb_DaysReader_readStep_71 L R q p1 p2 p3 Q I v4 s0)))))) ∧ (s0 = true → wb_DaysReader_readStep_71 L R q p1 p2 p3 Q I v4 s0))
set_option maxRecDepth 20000 in
theorem tb_DaysReader_readStep_39 {d : Nat}  {L : am_TL} {R : am_TR} {q : Nat} {p1 : Nat} {p2 : Nat} {p3 : Nat} {Q : Bool → am_TI → Prop}  (hw : am_Wf R) (hq : am_SH[q]? = some (.inl 2)) (hp1 : am_SH[p1]? = some (.inl 9)) (hp2 : am_SH[p2]? = some (.inl 7)) (hp3 : am_SH[p3]? = some (.inl 1)) (hd : 4 ≤ d) (I : am_TI) (v4 : Int32) (s0 : Bool) (h : wb_DaysReader_readStep_39 L R q p1 p2 p3 Q  I v4 s0) : am_Wp (d, "UnseenRing$DaysReader", b_DaysReader_readStep, 7, false) 0 0 39 [some (.ref q), some (.ref p1), some (.ref p2), some (.ref p3), some (.int v4), none, none] [.int (am_b s0)] (I, L, R, am_SH) (po_DaysReader_readStep L R Q) := by
  unfold wb_DaysReader_readStep_39 at h
  refine am_istore (ls' := [some (.ref q), some (.ref p1), some (.ref p2), some (.ref p3), some (.int v4), some (.int (am_b s0)), none]) (n := 41) d_DaysReader_readStep_39 (by decide) rfl rfl ?_
  refine am_iload (n := 43) d_DaysReader_readStep_41 rfl rfl ?_
  refine am_if_ne (y := 0) (tgt := 71) (n := 46) d_DaysReader_readStep_43 rfl rfl (fun c3 => ?_) (fun c3 => ?_)
  · have h := h.2 (am_b_n0 c3)
    exact tb_DaysReader_readStep_71 hw hq hp1 hp2 hp3 hd I v4 s0 h
  · have h := h.1 (am_b_0 c3)
    refine am_iload (n := 48) d_DaysReader_readStep_46 rfl rfl ?_
    refine am_bipush (n := 50) d_DaysReader_readStep_48 cb_24 rfl ?_
    refine am_icmp_eq (tgt := 71) (n := 53) d_DaysReader_readStep_50 rfl rfl (fun c11 => ?_) (fun c11 => ?_)
    · have h := h.1 c11
      exact tb_DaysReader_readStep_71 hw hq hp1 hp2 hp3 hd I v4 s0 h
    · have h := h.2 c11
      refine am_iload (n := 55) d_DaysReader_readStep_53 rfl rfl ?_
      refine am_bipush (n := 57) d_DaysReader_readStep_55 cb_10 rfl ?_
      refine am_bipush (n := 59) d_DaysReader_readStep_57 cb_16 rfl ?_
      refine am_callS (kc := 0) (ks := 0) (As := [.int v4, .int 10, .int 16]) (n := 62) d_DaysReader_readStep_59 rfl ce_U_within lk_DaysReader_52 st_U_within rfl rfl (Nat.le_of_ble_eq_true rfl) (Or.inl rfl) (cm_U_within (d := d - 1) hw (by omega)  h) (by omega) ?_
      rintro _ _ ⟨r6, rfl, rfl, h⟩
      show am_Wp (d, "UnseenRing$DaysReader", b_DaysReader_readStep, 7, false) 0 0 62 [some (.ref q), some (.ref p1), some (.ref p2), some (.ref p3), some (.int v4), some (.int (am_b s0)), none] [.int (am_b r6)] (I, L, R, am_SH) (po_DaysReader_readStep L R Q)
      refine am_if_ne (y := 0) (tgt := 71) (n := 65) d_DaysReader_readStep_62 rfl rfl (fun c12 => ?_) (fun c12 => ?_)
      · have h := h.2 (am_b_n0 c12)
        exact tb_DaysReader_readStep_71 hw hq hp1 hp2 hp3 hd I v4 s0 h
      · have h := h.1 (am_b_0 c12)
        refine am_aload_n (n := 66) d_DaysReader_readStep_65 rfl rfl ?_
        refine am_iconst (n := 67) d_DaysReader_readStep_66 ci_2 rfl ?_
        refine am_callV (kc := 0) (ks := 0) (As := [.int 2]) (n := 70) d_DaysReader_readStep_67 rfl ce_Tokens_refuse lk_DaysReader_37 in_Tokens_refuse rfl rfl hp1 rfl rfl (Nat.le_of_ble_eq_true rfl) (Or.inl rfl) (cm_Tokens_refuse (d := d - 1) hw (by omega) hp1 h) (by omega) ?_
        rintro _ _ ⟨r7, I11, rfl, rfl, h⟩
        show am_Wp (d, "UnseenRing$DaysReader", b_DaysReader_readStep, 7, false) 0 0 70 [some (.ref q), some (.ref p1), some (.ref p2), some (.ref p3), some (.int v4), some (.int (am_b s0)), none] [.int (am_b r7)] (I11, L, R, am_SH) (po_DaysReader_readStep L R Q)
        exact am_iret d_DaysReader_readStep_70 ⟨r7, I11, rfl, rfl, h⟩
def wb_DaysReader_readStep_34 (L : am_TL) (R : am_TR) (q : Nat) (p1 : Nat) (p2 : Nat) (p3 : Nat) (Q : Bool → am_TI → Prop)  (I : am_TI) (v4 : Int32) : Prop := wb_DaysReader_readStep_39 L R q p1 p2 p3 Q I v4 true
set_option maxRecDepth 20000 in
theorem tb_DaysReader_readStep_34 {d : Nat}  {L : am_TL} {R : am_TR} {q : Nat} {p1 : Nat} {p2 : Nat} {p3 : Nat} {Q : Bool → am_TI → Prop}  (hw : am_Wf R) (hq : am_SH[q]? = some (.inl 2)) (hp1 : am_SH[p1]? = some (.inl 9)) (hp2 : am_SH[p2]? = some (.inl 7)) (hp3 : am_SH[p3]? = some (.inl 1)) (hd : 4 ≤ d) (I : am_TI) (v4 : Int32) (h : wb_DaysReader_readStep_34 L R q p1 p2 p3 Q  I v4) : am_Wp (d, "UnseenRing$DaysReader", b_DaysReader_readStep, 7, false) 0 0 34 [some (.ref q), some (.ref p1), some (.ref p2), some (.ref p3), some (.int v4), none, none] [] (I, L, R, am_SH) (po_DaysReader_readStep L R Q) := by
  unfold wb_DaysReader_readStep_34 at h
  refine am_iconst (n := 35) d_DaysReader_readStep_34 ci_1 rfl ?_
  refine am_goto (tgt := 39) d_DaysReader_readStep_35 rfl ?_
  exact tb_DaysReader_readStep_39 hw hq hp1 hp2 hp3 hd I v4 true h
def wp_DaysReader_readStep (I : am_TI) (L : am_TL) (R : am_TR) (q : Nat) (p1 : Nat) (p2 : Nat) (p3 : Nat)  (Q : Bool → am_TI → Prop) : Prop := (((I p1 9) = 23 → wp_DaysReader_readEnd I L R q p1 p3 (fun (r8 : Bool) (I12 : am_TI) => Q r8 I12)) ∧ (¬ (I p1 9) = 23 → (((I p1 9) = 17 → wb_DaysReader_readStep_34 L R q p1 p2 p3 Q I (I p1 9)) ∧ (¬ (I p1 9) = 17 → (((I p1 9) = 22 → wb_DaysReader_readStep_34 L R q p1 p2 p3 Q I (I p1 9)) ∧ (¬ (I p1 9) = 22 → wb_DaysReader_readStep_39 L R q p1 p2 p3 Q I (I p1 9) false))))))
set_option maxRecDepth 20000 in
theorem cm_DaysReader_readStep {d : Nat} {I : am_TI} {L : am_TL} {R : am_TR}  (hw : am_Wf R)   {q : Nat} {p1 : Nat} {p2 : Nat} {p3 : Nat} {Q : Bool → am_TI → Prop} (hd : 4 ≤ d) (hq : am_SH[q]? = some (.inl 2)) (hp1 : am_SH[p1]? = some (.inl 9)) (hp2 : am_SH[p2]? = some (.inl 7)) (hp3 : am_SH[p3]? = some (.inl 1)) (h : wp_DaysReader_readStep I L R q p1 p2 p3  Q) : am_Cm d 0 0 y_DaysReader_readStep b_DaysReader_readStep 7 (some .boolean) [.ref q, .ref p1, .ref p2, .ref p3] (I, L, R, am_SH) (po_DaysReader_readStep L R Q) := by
  refine am_Cm_of (ini := false) (by decide +kernel) (fun z => by cases z) (by simp [Value.category]) (fun r σ' z => by obtain ⟨x, _, rfl, -⟩ := z; exact ⟨_, rfl, am_b_nar x⟩) ?_
  unfold wp_DaysReader_readStep at h
  show am_Wp (d, "UnseenRing$DaysReader", b_DaysReader_readStep, 7, false) 0 0 0 [some (.ref q), some (.ref p1), some (.ref p2), some (.ref p3), none, none, none] [] (I, L, R, am_SH) (po_DaysReader_readStep L R Q)
  refine am_aload_n (n := 1) d_DaysReader_readStep_0 rfl rfl ?_
  refine am_getI (n := 4) f_DaysReader_45 d_DaysReader_readStep_1 rfl rfl hp1 ?_
  refine am_istore (ls' := [some (.ref q), some (.ref p1), some (.ref p2), some (.ref p3), some (.int (I p1 9)), none, none]) (n := 6) d_DaysReader_readStep_4 (by decide) rfl rfl ?_
  refine am_iload (n := 8) d_DaysReader_readStep_6 rfl rfl ?_
  refine am_bipush (n := 10) d_DaysReader_readStep_8 cb_23 rfl ?_
  refine am_icmp_ne (tgt := 20) (n := 13) d_DaysReader_readStep_10 rfl rfl (fun c1 => ?_) (fun c1 => ?_)
  · have h := h.2 c1
    refine am_iload (n := 22) d_DaysReader_readStep_20 rfl rfl ?_
    refine am_bipush (n := 24) d_DaysReader_readStep_22 cb_17 rfl ?_
    refine am_icmp_eq (tgt := 34) (n := 27) d_DaysReader_readStep_24 rfl rfl (fun c2 => ?_) (fun c2 => ?_)
    · have h := h.1 c2
      exact tb_DaysReader_readStep_34 hw hq hp1 hp2 hp3 hd I (I p1 9) h
    · have h := h.2 c2
      refine am_iload (n := 29) d_DaysReader_readStep_27 rfl rfl ?_
      refine am_bipush (n := 31) d_DaysReader_readStep_29 cb_22 rfl ?_
      refine am_icmp_ne (tgt := 38) (n := 34) d_DaysReader_readStep_31 rfl rfl (fun c13 => ?_) (fun c13 => ?_)
      · have h := h.2 c13
        refine am_iconst (n := 39) d_DaysReader_readStep_38 ci_0 rfl ?_
        exact tb_DaysReader_readStep_39 hw hq hp1 hp2 hp3 hd I (I p1 9) false h
      · have h := h.1 c13
        exact tb_DaysReader_readStep_34 hw hq hp1 hp2 hp3 hd I (I p1 9) h
  · have h := h.1 c1
    refine am_aload_n (n := 14) d_DaysReader_readStep_13 rfl rfl ?_
    refine am_aload_n (n := 15) d_DaysReader_readStep_14 rfl rfl ?_
    refine am_aload_n (n := 16) d_DaysReader_readStep_15 rfl rfl ?_
    refine am_callV (kc := 0) (ks := 0) (As := [.ref p1, .ref p3]) (n := 19) d_DaysReader_readStep_16 rfl ce_DaysReader_readEnd lk_DaysReader_48 in_DaysReader_readEnd rfl rfl hq rfl rfl (Nat.le_of_ble_eq_true rfl) (Or.inl rfl) (cm_DaysReader_readEnd (d := d - 1) hw (by omega) hq hp1 hp3 h) (by omega) ?_
    rintro _ _ ⟨r8, I12, rfl, rfl, h⟩
    show am_Wp (d, "UnseenRing$DaysReader", b_DaysReader_readStep, 7, false) 0 0 19 [some (.ref q), some (.ref p1), some (.ref p2), some (.ref p3), some (.int (I p1 9)), none, none] [.int (am_b r8)] (I12, L, R, am_SH) (po_DaysReader_readStep L R Q)
    exact am_iret d_DaysReader_readStep_19 ⟨r8, I12, rfl, rfl, h⟩
abbrev po_DaysReader_readText (R : am_TR) (Q : Bool → am_TI → am_TL → Prop) : Option Value → am_St → Prop := fun r σ' => ∃ (x : Bool) (I' : am_TI) (L' : am_TL), r = some (.int (am_b x)) ∧ σ' = (I', L', R, am_SH) ∧ Q x I' L'
def wb_DaysReader_readText_52 (R : am_TR) (q : Nat) (p1 : Nat) (p2 : Int32) (p3 : Nat) (p4 : Nat) (Q : Bool → am_TI → am_TL → Prop)  (I : am_TI) (L : am_TL) : Prop := (((I q 1) ≤ 0 → (∀ I4, I4 = am_u2 I p4 5 1 → Q true I4 L)) ∧ (¬ (I q 1) ≤ 0 → wp_Tokens_refuse I L R p1 2 (fun (r1 : Bool) (I5 : am_TI) => Q r1 I5 L)))
set_option maxRecDepth 20000 in
theorem tb_DaysReader_readText_52 {d : Nat}  {R : am_TR} {q : Nat} {p1 : Nat} {p2 : Int32} {p3 : Nat} {p4 : Nat} {Q : Bool → am_TI → am_TL → Prop}  (hw : am_Wf R) (hq : am_SH[q]? = some (.inl 2)) (hp1 : am_SH[p1]? = some (.inl 9)) (hp3 : am_SH[p3]? = some (.inl 7)) (hp4 : am_SH[p4]? = some (.inl 1)) (hd : 5 ≤ d) (I : am_TI) (L : am_TL) (h : wb_DaysReader_readText_52 R q p1 p2 p3 p4 Q  I L) : am_Wp (d, "UnseenRing$DaysReader", b_DaysReader_readText, 6, false) 0 0 52 [some (.ref q), some (.ref p1), some (.int p2), some (.ref p3), some (.ref p4), none] [] (I, L, R, am_SH) (po_DaysReader_readText R Q) := by
  unfold wb_DaysReader_readText_52 at h
  refine am_aload_n (n := 53) d_DaysReader_readText_52 rfl rfl ?_
  refine am_getI (n := 56) f_DaysReader_15 d_DaysReader_readText_53 rfl rfl hq ?_
  refine am_if_le (y := 0) (tgt := 65) (n := 59) d_DaysReader_readText_56 rfl rfl (fun c2 => ?_) (fun c2 => ?_)
  · have h := h.1 c2
    refine am_aload (n := 67) d_DaysReader_readText_65 rfl rfl ?_
    refine am_iconst (n := 68) d_DaysReader_readText_67 ci_1 rfl ?_
    refine am_putZ (n := 71) f_DaysReader_41 d_DaysReader_readText_68 rfl ⟨_, rfl, Or.inl rfl⟩ rfl rfl hp4 (Or.inr rfl) ?_
    generalize eI4 : am_u2 I p4 5 1 = I4
    have h := h I4 eI4.symm
    refine am_iconst (n := 72) d_DaysReader_readText_71 ci_1 rfl ?_
    exact am_iret d_DaysReader_readText_72 ⟨true, I4, L, rfl, rfl, h⟩
  · have h := h.2 c2
    refine am_aload_n (n := 60) d_DaysReader_readText_59 rfl rfl ?_
    refine am_iconst (n := 61) d_DaysReader_readText_60 ci_2 rfl ?_
    refine am_callV (kc := 0) (ks := 0) (As := [.int 2]) (n := 64) d_DaysReader_readText_61 rfl ce_Tokens_refuse lk_DaysReader_37 in_Tokens_refuse rfl rfl hp1 rfl rfl (Nat.le_of_ble_eq_true rfl) (Or.inl rfl) (cm_Tokens_refuse (d := d - 1) hw (by omega) hp1 h) (by omega) ?_
    rintro _ _ ⟨r1, I5, rfl, rfl, h⟩
    show am_Wp (d, "UnseenRing$DaysReader", b_DaysReader_readText, 6, false) 0 0 64 [some (.ref q), some (.ref p1), some (.int p2), some (.ref p3), some (.ref p4), none] [.int (am_b r1)] (I5, L, R, am_SH) (po_DaysReader_readText R Q)
    exact am_iret d_DaysReader_readText_64 ⟨r1, I5, L, rfl, rfl, h⟩
def wl_DaysReader_readText_18 (R : am_TR) (q : Nat) (p1 : Nat) (p2 : Int32) (p3 : Nat) (p4 : Nat) (Q : Bool → am_TI → am_TL → Prop)  : Nat → am_TI → am_TL → Int32 → Prop
  | 0 => fun _ _ _ => False
  | f18 + 1 => fun I L v5 => ((300 ≤ v5 → wb_DaysReader_readText_52 R q p1 p2 p3 p4 Q I L) ∧ (¬ 300 ≤ v5 → (((I p1 8) = 0 → wb_DaysReader_readText_52 R q p1 p2 p3 p4 Q I L) ∧ (¬ (I p1 8) = 0 → wp_DaysReader_readStep I L R q p1 p3 p4 (fun (r2 : Bool) (I6 : am_TI) => ((r2 = false → Q false I6 L) ∧ (r2 = true → wl_DaysReader_readText_18 R q p1 p2 p3 p4 Q f18 I6 L (v5 + 1))))))))
set_option maxRecDepth 20000 in
theorem tl_DaysReader_readText_18 {d : Nat}  {R : am_TR} {q : Nat} {p1 : Nat} {p2 : Int32} {p3 : Nat} {p4 : Nat} {Q : Bool → am_TI → am_TL → Prop}  (hw : am_Wf R) (hq : am_SH[q]? = some (.inl 2)) (hp1 : am_SH[p1]? = some (.inl 9)) (hp3 : am_SH[p3]? = some (.inl 7)) (hp4 : am_SH[p4]? = some (.inl 1)) (hd : 5 ≤ d) : ∀ (n : Nat) (I : am_TI) (L : am_TL) (v5 : Int32), wl_DaysReader_readText_18 R q p1 p2 p3 p4 Q  n I L v5 → am_Wp (d, "UnseenRing$DaysReader", b_DaysReader_readText, 6, false) 0 0 18 [some (.ref q), some (.ref p1), some (.int p2), some (.ref p3), some (.ref p4), some (.int v5)] [] (I, L, R, am_SH) (po_DaysReader_readText R Q) := by
  intro n
  induction n with
  | zero => intro I L v5 h; exact h.elim
  | succ n ih =>
    intro I L v5 h
    unfold wl_DaysReader_readText_18 at h
    refine am_iload (n := 20) d_DaysReader_readText_18 rfl rfl ?_
    refine am_sipush (n := 23) d_DaysReader_readText_20 cs_300 rfl ?_
    refine am_icmp_ge (tgt := 52) (n := 26) d_DaysReader_readText_23 rfl rfl (fun c1 => ?_) (fun c1 => ?_)
    · have h := h.1 c1
      refine am_forget (ls' := [some (.ref q), some (.ref p1), some (.int p2), some (.ref p3), some (.ref p4), none]) (am_le_s (am_le_s (am_le_s (am_le_s (am_le_s (am_le_n am_le_e)))))) ?_
      exact tb_DaysReader_readText_52 hw hq hp1 hp3 hp4 hd I L h
    · have h := h.2 c1
      refine am_aload_n (n := 27) d_DaysReader_readText_26 rfl rfl ?_
      refine am_getI (n := 30) f_DaysReader_30 d_DaysReader_readText_27 rfl rfl hp1 ?_
      refine am_if_eq (y := 0) (tgt := 52) (n := 33) d_DaysReader_readText_30 rfl rfl (fun c3 => ?_) (fun c3 => ?_)
      · have h := h.1 c3
        refine am_forget (ls' := [some (.ref q), some (.ref p1), some (.int p2), some (.ref p3), some (.ref p4), none]) (am_le_s (am_le_s (am_le_s (am_le_s (am_le_s (am_le_n am_le_e)))))) ?_
        exact tb_DaysReader_readText_52 hw hq hp1 hp3 hp4 hd I L h
      · have h := h.2 c3
        refine am_aload_n (n := 34) d_DaysReader_readText_33 rfl rfl ?_
        refine am_aload_n (n := 35) d_DaysReader_readText_34 rfl rfl ?_
        refine am_aload_n (n := 36) d_DaysReader_readText_35 rfl rfl ?_
        refine am_aload (n := 38) d_DaysReader_readText_36 rfl rfl ?_
        refine am_callV (kc := 0) (ks := 0) (As := [.ref p1, .ref p3, .ref p4]) (n := 41) d_DaysReader_readText_38 rfl ce_DaysReader_readStep lk_DaysReader_33 in_DaysReader_readStep rfl rfl hq rfl rfl (Nat.le_of_ble_eq_true rfl) (Or.inl rfl) (cm_DaysReader_readStep (d := d - 1) hw (by omega) hq hp1 hp3 hp4 h) (by omega) ?_
        rintro _ _ ⟨r2, I6, rfl, rfl, h⟩
        show am_Wp (d, "UnseenRing$DaysReader", b_DaysReader_readText, 6, false) 0 0 41 [some (.ref q), some (.ref p1), some (.int p2), some (.ref p3), some (.ref p4), some (.int v5)] [.int (am_b r2)] (I6, L, R, am_SH) (po_DaysReader_readText R Q)
        refine am_if_ne (y := 0) (tgt := 46) (n := 44) d_DaysReader_readText_41 rfl rfl (fun c4 => ?_) (fun c4 => ?_)
        · have h := h.2 (am_b_n0 c4)
          refine am_iinc (v := v5 + 1) (ls' := [some (.ref q), some (.ref p1), some (.int p2), some (.ref p3), some (.ref p4), some (.int (v5 + 1))]) (n := 49) d_DaysReader_readText_46 rfl (congrArg _ ci_1) (by decide) rfl rfl ?_
          refine am_goto (tgt := 18) d_DaysReader_readText_49 rfl ?_
          exact ih I6 L (v5 + 1)  h
        · have h := h.1 (am_b_0 c4)
          refine am_iconst (n := 45) d_DaysReader_readText_44 ci_0 rfl ?_
          exact am_iret d_DaysReader_readText_45 ⟨false, I6, L, rfl, rfl, h⟩
def wp_DaysReader_readText (I : am_TI) (L : am_TL) (R : am_TR) (q : Nat) (p1 : Nat) (p2 : Int32) (p3 : Nat) (p4 : Nat)  (Q : Bool → am_TI → am_TL → Prop) : Prop := wp_Days_clear I L R p4 (fun (I1 : am_TI) => (∀ I2, I2 = am_u2 I1 q 1 0 → wp_Tokens_begin I2 L R p1 p2 (fun (I3 : am_TI) (L1 : am_TL) => (∃ z, wl_DaysReader_readText_18 R q p1 p2 p3 p4 Q z I3 L1 0))))
set_option maxRecDepth 20000 in
theorem cm_DaysReader_readText {d : Nat} {I : am_TI} {L : am_TL} {R : am_TR}  (hw : am_Wf R)   {q : Nat} {p1 : Nat} {p2 : Int32} {p3 : Nat} {p4 : Nat} {Q : Bool → am_TI → am_TL → Prop} (hd : 5 ≤ d) (hq : am_SH[q]? = some (.inl 2)) (hp1 : am_SH[p1]? = some (.inl 9)) (hp3 : am_SH[p3]? = some (.inl 7)) (hp4 : am_SH[p4]? = some (.inl 1)) (h : wp_DaysReader_readText I L R q p1 p2 p3 p4  Q) : am_Cm d 0 0 y_DaysReader_readText b_DaysReader_readText 6 (some .boolean) [.ref q, .ref p1, .int p2, .ref p3, .ref p4] (I, L, R, am_SH) (po_DaysReader_readText R Q) := by
  refine am_Cm_of (ini := false) (by decide +kernel) (fun z => by cases z) (by simp [Value.category]) (fun r σ' z => by obtain ⟨x, _, _, rfl, -⟩ := z; exact ⟨_, rfl, am_b_nar x⟩) ?_
  unfold wp_DaysReader_readText at h
  show am_Wp (d, "UnseenRing$DaysReader", b_DaysReader_readText, 6, false) 0 0 0 [some (.ref q), some (.ref p1), some (.int p2), some (.ref p3), some (.ref p4), none] [] (I, L, R, am_SH) (po_DaysReader_readText R Q)
  refine am_aload (n := 2) d_DaysReader_readText_0 rfl rfl ?_
  refine am_callV (kc := 0) (ks := 0) (As := []) (n := 5) d_DaysReader_readText_2 rfl ce_Days_clear lk_DaysReader_19 in_Days_clear rfl rfl hp4 rfl rfl (Nat.le_of_ble_eq_true rfl) (Or.inl rfl) (cm_Days_clear (d := d - 1) hw (by omega) hp4 h) (by omega) ?_
  rintro _ _ ⟨I1, rfl, rfl, h⟩
  show am_Wp (d, "UnseenRing$DaysReader", b_DaysReader_readText, 6, false) 0 0 5 [some (.ref q), some (.ref p1), some (.int p2), some (.ref p3), some (.ref p4), none] [] (I1, L, R, am_SH) (po_DaysReader_readText R Q)
  refine am_aload_n (n := 6) d_DaysReader_readText_5 rfl rfl ?_
  refine am_iconst (n := 7) d_DaysReader_readText_6 ci_0 rfl ?_
  refine am_putI (n := 10) f_DaysReader_15 d_DaysReader_readText_7 rfl ⟨_, rfl, Or.inl rfl⟩ rfl rfl hq ?_
  generalize eI2 : am_u2 I1 q 1 0 = I2
  have h := h I2 eI2.symm
  refine am_aload_n (n := 11) d_DaysReader_readText_10 rfl rfl ?_
  refine am_iload_n (n := 12) d_DaysReader_readText_11 rfl rfl ?_
  refine am_callV (kc := 0) (ks := 0) (As := [.int p2]) (n := 15) d_DaysReader_readText_12 rfl ce_Tokens_begin lk_DaysReader_24 in_Tokens_begin rfl rfl hp1 rfl rfl (Nat.le_of_ble_eq_true rfl) (Or.inl rfl) (cm_Tokens_begin (d := d - 1) hw (by omega) hp1 h) (by omega) ?_
  rintro _ _ ⟨I3, L1, rfl, rfl, h⟩
  show am_Wp (d, "UnseenRing$DaysReader", b_DaysReader_readText, 6, false) 0 0 15 [some (.ref q), some (.ref p1), some (.int p2), some (.ref p3), some (.ref p4), none] [] (I3, L1, R, am_SH) (po_DaysReader_readText R Q)
  refine am_iconst (n := 16) d_DaysReader_readText_15 ci_0 rfl ?_
  refine am_istore (ls' := [some (.ref q), some (.ref p1), some (.int p2), some (.ref p3), some (.ref p4), some (.int 0)]) (n := 18) d_DaysReader_readText_16 (by decide) rfl rfl ?_
  obtain ⟨n, h⟩ := h
  exact tl_DaysReader_readText_18 hw hq hp1 hp3 hp4 hd n I3 L1 0 h
abbrev po_U_days  (Q : Int32 → am_TI → am_TL → am_TR → Prop) : Option Value → am_St → Prop := fun r σ' => ∃ (x : Int32) (I' : am_TI) (L' : am_TL) (R' : am_TR), r = some (.int x) ∧ σ' = (I', L', R', am_SH) ∧ am_Wf R' ∧ Q x I' L' R'
def wb_U_days_22 (q : Nat) (p1 : Int32) (Q : Int32 → am_TI → am_TL → am_TR → Prop)  (I : am_TI) (L : am_TL) (R : am_TR) : Prop := wp_U_refused I L R q 1 (fun (r2 : Int32) (I1 : am_TI) => Q r2 I1 L R)
set_option maxRecDepth 20000 in
theorem tb_U_days_22 {d : Nat}  {q : Nat} {p1 : Int32} {Q : Int32 → am_TI → am_TL → am_TR → Prop}  (hq : am_SH[q]? = some (.inl 11)) (hd : 6 ≤ d) (I : am_TI) (L : am_TL) (R : am_TR) (hw : am_Wf R) (h : wb_U_days_22 q p1 Q  I L R) : am_Wp (d, "UnseenRing", b_U_days, 4, false) 0 0 22 [some (.ref q), some (.int p1), none, none] [] (I, L, R, am_SH) (po_U_days Q) := by
  unfold wb_U_days_22 at h
  refine am_aload_n (n := 23) d_U_days_22 rfl rfl ?_
  refine am_iconst (n := 24) d_U_days_23 ci_1 rfl ?_
  refine am_callV (kc := 0) (ks := 0) (As := [.int 1]) (n := 27) d_U_days_24 rfl ce_U_refused lk_U_133 in_U_refused rfl rfl hq rfl rfl (Nat.le_of_ble_eq_true rfl) (Or.inl rfl) (cm_U_refused (d := d - 1) hw (by omega) hq h) (by omega) ?_
  rintro _ _ ⟨r2, I1, rfl, rfl, h⟩
  show am_Wp (d, "UnseenRing", b_U_days, 4, false) 0 0 27 [some (.ref q), some (.int p1), none, none] [.int r2] (I1, L, R, am_SH) (po_U_days Q)
  exact am_iret d_U_days_27 ⟨r2, I1, L, R, rfl, rfl, hw, h⟩
def wp_U_days (I : am_TI) (L : am_TL) (R : am_TR) (q : Nat) (p1 : Int32)  (Q : Int32 → am_TI → am_TL → am_TR → Prop) : Prop := wp_U_within I L R p1 0 (I (q + 2) 7) (fun (r1 : Bool) => ((r1 = false → wb_U_days_22 q p1 Q I L R) ∧ (r1 = true → ((p1 ≤ 300 → wp_DaysReader_readText I L R (q + 9) (q + 2) p1 (am_rd R q 11) (am_rd R q 13) (fun (r3 : Bool) (I2 : am_TI) (L1 : am_TL) => wp_Tokens_clear I2 L1 R (q + 2) (fun (I3 : am_TI) => ((r3 = false → wp_U_refused I3 L1 R q 9 (fun (r5 : Int32) (I5 : am_TI) => Q r5 I5 L1 R)) ∧ (r3 = true → (∀ R1, R1 = am_u2 R (am_rd R q 11) 5 (some (am_rd R q 13)) → (∀ R2, R2 = am_u2 R1 q 13 (some (am_rd R (am_rd R q 11) 5)) → wp_U_answered I3 L1 R2 q (I3 (am_rd R2 (am_rd R2 q 11) 5) 7) (fun (r4 : Int32) (I4 : am_TI) => Q r4 I4 L1 R2)))))))) ∧ (¬ p1 ≤ 300 → wb_U_days_22 q p1 Q I L R)))))
set_option maxRecDepth 20000 in
theorem cm_U_days {d : Nat} {I : am_TI} {L : am_TL} {R : am_TR}  (hw : am_Wf R)   {q : Nat} {p1 : Int32} {Q : Int32 → am_TI → am_TL → am_TR → Prop} (hd : 6 ≤ d) (hq : am_SH[q]? = some (.inl 11)) (h : wp_U_days I L R q p1  Q) : am_Cm d 0 0 y_U_days b_U_days 4 (some .int) [.ref q, .int p1] (I, L, R, am_SH) (po_U_days Q) := by
  refine am_Cm_of (ini := false) (by decide +kernel) (fun z => by cases z) (by simp [Value.category]) (fun r σ' z => by obtain ⟨x, _, _, _, rfl, -⟩ := z; exact ⟨_, rfl, rfl⟩) ?_
  unfold wp_U_days at h
  show am_Wp (d, "UnseenRing", b_U_days, 4, false) 0 0 0 [some (.ref q), some (.int p1), none, none] [] (I, L, R, am_SH) (po_U_days Q)
  refine am_iload_n (n := 1) d_U_days_0 rfl rfl ?_
  refine am_iconst (n := 2) d_U_days_1 ci_0 rfl ?_
  refine am_aload_n (n := 3) d_U_days_2 rfl rfl ?_
  refine am_getR (x := (q + 2)) (n := 6) f_U_18 d_U_days_3 rfl rfl hq (hw.1 q 11 1 2 hq rfl) ?_
  refine am_getI (n := 9) f_U_171 d_U_days_6 rfl rfl (am_sho (k := 1) (o := 2) hq (by decide) (by decide) (by decide) rfl) ?_
  refine am_callS (kc := 0) (ks := 0) (As := [.int p1, .int 0, .int (I (q + 2) 7)]) (n := 12) d_U_days_9 rfl ce_U_within lk_U_114 st_U_within rfl rfl (Nat.le_of_ble_eq_true rfl) (Or.inl rfl) (cm_U_within (d := d - 1) hw (by omega)  h) (by omega) ?_
  rintro _ _ ⟨r1, rfl, rfl, h⟩
  show am_Wp (d, "UnseenRing", b_U_days, 4, false) 0 0 12 [some (.ref q), some (.int p1), none, none] [.int (am_b r1)] (I, L, R, am_SH) (po_U_days Q)
  refine am_if_eq (y := 0) (tgt := 22) (n := 15) d_U_days_12 rfl rfl (fun c1 => ?_) (fun c1 => ?_)
  · have h := h.1 (am_b_0 c1)
    exact tb_U_days_22 hq hd I L R hw h
  · have h := h.2 (am_b_n0 c1)
    refine am_iload_n (n := 16) d_U_days_15 rfl rfl ?_
    refine am_sipush (n := 19) d_U_days_16 cs_300 rfl ?_
    refine am_icmp_le (tgt := 28) (n := 22) d_U_days_19 rfl rfl (fun c2 => ?_) (fun c2 => ?_)
    · have h := h.1 c2
      refine am_aload_n (n := 29) d_U_days_28 rfl rfl ?_
      refine am_getR (x := (q + 9)) (n := 32) f_U_32 d_U_days_29 rfl rfl hq (hw.1 q 11 3 9 hq rfl) ?_
      refine am_aload_n (n := 33) d_U_days_32 rfl rfl ?_
      refine am_getR (x := (q + 2)) (n := 36) f_U_18 d_U_days_33 rfl rfl hq (hw.1 q 11 1 2 hq rfl) ?_
      refine am_iload_n (n := 37) d_U_days_36 rfl rfl ?_
      refine am_aload_n (n := 38) d_U_days_37 rfl rfl ?_
      refine am_getR (x := (am_rd R q 11)) (n := 41) f_U_81 d_U_days_38 rfl rfl hq (hw.rd (k := 11) hq rfl).1 ?_
      refine am_aload_n (n := 42) d_U_days_41 rfl rfl ?_
      refine am_getR (x := (am_rd R q 13)) (n := 45) f_U_91 d_U_days_42 rfl rfl hq (hw.rd (k := 13) hq rfl).1 ?_
      refine am_callV (kc := 0) (ks := 0) (As := [.ref (q + 2), .int p1, .ref (am_rd R q 11), .ref (am_rd R q 13)]) (n := 48) d_U_days_45 rfl ce_DaysReader_readText lk_U_187 in_DaysReader_readText rfl rfl (am_sho (k := 3) (o := 9) hq (by decide) (by decide) (by decide) rfl) rfl rfl (Nat.le_of_ble_eq_true rfl) (Or.inl rfl) (cm_DaysReader_readText (d := d - 1) hw (by omega) (am_sho (k := 3) (o := 9) hq (by decide) (by decide) (by decide) rfl) (am_sho (k := 1) (o := 2) hq (by decide) (by decide) (by decide) rfl) (hw.rd (k := 11) hq rfl).2 (hw.rd (k := 13) hq rfl).2 h) (by omega) ?_
      rintro _ _ ⟨r3, I2, L1, rfl, rfl, h⟩
      show am_Wp (d, "UnseenRing", b_U_days, 4, false) 0 0 48 [some (.ref q), some (.int p1), none, none] [.int (am_b r3)] (I2, L1, R, am_SH) (po_U_days Q)
      refine am_istore_n (ls' := [some (.ref q), some (.int p1), some (.int (am_b r3)), none]) (n := 49) d_U_days_48 (by decide) rfl rfl ?_
      refine am_aload_n (n := 50) d_U_days_49 rfl rfl ?_
      refine am_getR (x := (q + 2)) (n := 53) f_U_18 d_U_days_50 rfl rfl hq (hw.1 q 11 1 2 hq rfl) ?_
      refine am_callV (kc := 0) (ks := 0) (As := []) (n := 56) d_U_days_53 rfl ce_Tokens_clear lk_U_178 in_Tokens_clear rfl rfl (am_sho (k := 1) (o := 2) hq (by decide) (by decide) (by decide) rfl) rfl rfl (Nat.le_of_ble_eq_true rfl) (Or.inl rfl) (cm_Tokens_clear (d := d - 1) hw (by omega) (am_sho (k := 1) (o := 2) hq (by decide) (by decide) (by decide) rfl) h) (by omega) ?_
      rintro _ _ ⟨I3, rfl, rfl, h⟩
      show am_Wp (d, "UnseenRing", b_U_days, 4, false) 0 0 56 [some (.ref q), some (.int p1), some (.int (am_b r3)), none] [] (I3, L1, R, am_SH) (po_U_days Q)
      refine am_iload_n (n := 57) d_U_days_56 rfl rfl ?_
      refine am_if_ne (y := 0) (tgt := 67) (n := 60) d_U_days_57 rfl rfl (fun c3 => ?_) (fun c3 => ?_)
      · have h := h.2 (am_b_n0 c3)
        refine am_aload_n (n := 68) d_U_days_67 rfl rfl ?_
        refine am_getR (x := (am_rd R q 11)) (n := 71) f_U_81 d_U_days_68 rfl rfl hq (hw.rd (k := 11) hq rfl).1 ?_
        refine am_getR (x := (am_rd R (am_rd R q 11) 5)) (n := 74) f_U_190 d_U_days_71 rfl rfl (hw.rd (k := 11) hq rfl).2 (hw.rd (k := 5) (hw.rd (k := 11) hq rfl).2 rfl).1 ?_
        refine am_astore_n (ls' := [some (.ref q), some (.int p1), some (.int (am_b r3)), some (.ref (am_rd R (am_rd R q 11) 5))]) (n := 75) d_U_days_74 (by decide) rfl rfl ?_
        refine am_aload_n (n := 76) d_U_days_75 rfl rfl ?_
        refine am_getR (x := (am_rd R q 11)) (n := 79) f_U_81 d_U_days_76 rfl rfl hq (hw.rd (k := 11) hq rfl).1 ?_
        refine am_aload_n (n := 80) d_U_days_79 rfl rfl ?_
        refine am_getR (x := (am_rd R q 13)) (n := 83) f_U_91 d_U_days_80 rfl rfl hq (hw.rd (k := 13) hq rfl).1 ?_
        refine am_putR (n := 86) f_U_190 d_U_days_83 rfl ⟨_, rfl, Or.inl rfl⟩ rfl rfl (hw.rd (k := 11) hq rfl).2 ?_
        generalize eR1 : am_u2 R (am_rd R q 11) 5 (some (am_rd R q 13)) = R1
        have h := h R1 eR1.symm
        have hw1 : am_Wf R1 := by rw [← eR1]; exact hw.put (hw.rd (k := 11) hq rfl).2 rfl rfl (hw.rd (k := 13) hq rfl).2
        refine am_aload_n (n := 87) d_U_days_86 rfl rfl ?_
        refine am_aload_n (n := 88) d_U_days_87 rfl rfl ?_
        refine am_putR (n := 91) f_U_91 d_U_days_88 rfl ⟨_, rfl, Or.inl rfl⟩ rfl rfl hq ?_
        generalize eR2 : am_u2 R1 q 13 (some (am_rd R (am_rd R q 11) 5)) = R2
        have h := h R2 eR2.symm
        have hw2 : am_Wf R2 := by rw [← eR2]; exact hw1.put hq rfl rfl (hw.rd (k := 5) (hw.rd (k := 11) hq rfl).2 rfl).2
        refine am_aload_n (n := 92) d_U_days_91 rfl rfl ?_
        refine am_aload_n (n := 93) d_U_days_92 rfl rfl ?_
        refine am_getR (x := (am_rd R2 q 11)) (n := 96) f_U_81 d_U_days_93 rfl rfl hq (hw2.rd (k := 11) hq rfl).1 ?_
        refine am_getR (x := (am_rd R2 (am_rd R2 q 11) 5)) (n := 99) f_U_190 d_U_days_96 rfl rfl (hw2.rd (k := 11) hq rfl).2 (hw2.rd (k := 5) (hw2.rd (k := 11) hq rfl).2 rfl).1 ?_
        refine am_getI (n := 102) f_U_193 d_U_days_99 rfl rfl (hw2.rd (k := 5) (hw2.rd (k := 11) hq rfl).2 rfl).2 ?_
        refine am_callV (kc := 0) (ks := 0) (As := [.int (I3 (am_rd R2 (am_rd R2 q 11) 5) 7)]) (n := 105) d_U_days_102 rfl ce_U_answered lk_U_184 in_U_answered rfl rfl hq rfl rfl (Nat.le_of_ble_eq_true rfl) (Or.inl rfl) (cm_U_answered (d := d - 1) hw2 (by omega) hq h) (by omega) ?_
        rintro _ _ ⟨r4, I4, rfl, rfl, h⟩
        show am_Wp (d, "UnseenRing", b_U_days, 4, false) 0 0 105 [some (.ref q), some (.int p1), some (.int (am_b r3)), some (.ref (am_rd R (am_rd R q 11) 5))] [.int r4] (I4, L1, R2, am_SH) (po_U_days Q)
        exact am_iret d_U_days_105 ⟨r4, I4, L1, R2, rfl, rfl, hw2, h⟩
      · have h := h.1 (am_b_0 c3)
        refine am_aload_n (n := 61) d_U_days_60 rfl rfl ?_
        refine am_bipush (n := 63) d_U_days_61 cb_9 rfl ?_
        refine am_callV (kc := 0) (ks := 0) (As := [.int 9]) (n := 66) d_U_days_63 rfl ce_U_refused lk_U_133 in_U_refused rfl rfl hq rfl rfl (Nat.le_of_ble_eq_true rfl) (Or.inl rfl) (cm_U_refused (d := d - 1) hw (by omega) hq h) (by omega) ?_
        rintro _ _ ⟨r5, I5, rfl, rfl, h⟩
        show am_Wp (d, "UnseenRing", b_U_days, 4, false) 0 0 66 [some (.ref q), some (.int p1), some (.int (am_b r3)), none] [.int r5] (I5, L1, R, am_SH) (po_U_days Q)
        exact am_iret d_U_days_66 ⟨r5, I5, L1, R, rfl, rfl, hw, h⟩
    · have h := h.2 c2
      exact tb_U_days_22 hq hd I L R hw h
abbrev po_U_fault (I : am_TI) (L : am_TL) (R : am_TR) (Q : Int32 → Prop) : Option Value → am_St → Prop := fun r σ' => ∃ (x : Int32), r = some (.int x) ∧ σ' = (I, L, R, am_SH) ∧ Q x
def wp_U_fault (I : am_TI) (L : am_TL) (R : am_TR) (q : Nat) (p1 : Int32)  (Q : Int32 → Prop) : Prop := ((p1 = 0 → Q (I (q + 2) 10)) ∧ (¬ p1 = 0 → ((p1 = 1 → Q (I (q + 2) 11)) ∧ (¬ p1 = 1 → Q (-1)))))
set_option maxRecDepth 20000 in
theorem cm_U_fault {d : Nat} {I : am_TI} {L : am_TL} {R : am_TR}  (hw : am_Wf R)   {q : Nat} {p1 : Int32} {Q : Int32 → Prop} (hd : 0 ≤ d) (hq : am_SH[q]? = some (.inl 11)) (h : wp_U_fault I L R q p1  Q) : am_Cm d 0 0 y_U_fault b_U_fault 2 (some .int) [.ref q, .int p1] (I, L, R, am_SH) (po_U_fault I L R Q) := by
  refine am_Cm_of (ini := false) (by decide +kernel) (fun z => by cases z) (by simp [Value.category]) (fun r σ' z => by obtain ⟨x, rfl, -⟩ := z; exact ⟨_, rfl, rfl⟩) ?_
  unfold wp_U_fault at h
  show am_Wp (d, "UnseenRing", b_U_fault, 2, false) 0 0 0 [some (.ref q), some (.int p1)] [] (I, L, R, am_SH) (po_U_fault I L R Q)
  refine am_iload_n (n := 1) d_U_fault_0 rfl rfl ?_
  refine am_if_ne (y := 0) (tgt := 12) (n := 4) d_U_fault_1 rfl rfl (fun c1 => ?_) (fun c1 => ?_)
  · have h := h.2 c1
    refine am_iload_n (n := 13) d_U_fault_12 rfl rfl ?_
    refine am_iconst (n := 14) d_U_fault_13 ci_1 rfl ?_
    refine am_icmp_ne (tgt := 27) (n := 17) d_U_fault_14 rfl rfl (fun c2 => ?_) (fun c2 => ?_)
    · have h := h.2 c2
      refine am_iconst (n := 28) d_U_fault_27 ci_m1 rfl ?_
      exact am_iret d_U_fault_28 ⟨(-1), rfl, rfl, h⟩
    · have h := h.1 c2
      refine am_aload_n (n := 18) d_U_fault_17 rfl rfl ?_
      refine am_getR (x := (q + 2)) (n := 21) f_U_18 d_U_fault_18 rfl rfl hq (hw.1 q 11 1 2 hq rfl) ?_
      refine am_getI (n := 24) f_U_199 d_U_fault_21 rfl rfl (am_sho (k := 1) (o := 2) hq (by decide) (by decide) (by decide) rfl) ?_
      refine am_goto (tgt := 28) d_U_fault_24 rfl ?_
      exact am_iret d_U_fault_28 ⟨(I (q + 2) 11), rfl, rfl, h⟩
  · have h := h.1 c1
    refine am_aload_n (n := 5) d_U_fault_4 rfl rfl ?_
    refine am_getR (x := (q + 2)) (n := 8) f_U_18 d_U_fault_5 rfl rfl hq (hw.1 q 11 1 2 hq rfl) ?_
    refine am_getI (n := 11) f_U_196 d_U_fault_8 rfl rfl (am_sho (k := 1) (o := 2) hq (by decide) (by decide) (by decide) rfl) ?_
    exact am_iret d_U_fault_11 ⟨(I (q + 2) 10), rfl, rfl, h⟩
abbrev po_Square_far (I : am_TI) (L : am_TL) (R : am_TR) (Q : Int32 → Prop) : Option Value → am_St → Prop := fun r σ' => ∃ (x : Int32), r = some (.int x) ∧ σ' = (I, L, R, am_SH) ∧ Q x
def wp_Square_far (I : am_TI) (L : am_TL) (R : am_TR) (q : Nat) (p1 : Int32) (p2 : Int32)  (Q : Int32 → Prop) : Prop := ((0 < (I q 6) → (¬ (I q 6) = 0 ∧ (¬ (I q 6) = 0 ∧ (¬ (I q 6) = 0 ∧ (¬ (I q 6) = 0 ∧ Q ((am_abs ((p1 - p1 / (I q 6) * (I q 6)) - (p2 - p2 / (I q 6) * (I q 6)))) + (am_abs ((p1 / (I q 6)) - (p2 / (I q 6)))))))))) ∧ (¬ 0 < (I q 6) → Q 0))
set_option maxRecDepth 20000 in
theorem cm_Square_far {d : Nat} {I : am_TI} {L : am_TL} {R : am_TR}  (hw : am_Wf R)   {q : Nat} {p1 : Int32} {p2 : Int32} {Q : Int32 → Prop} (hd : 1 ≤ d) (hq : am_SH[q]? = some (.inl 7)) (h : wp_Square_far I L R q p1 p2  Q) : am_Cm d 0 0 y_Square_far b_Square_far 3 (some .int) [.ref q, .int p1, .int p2] (I, L, R, am_SH) (po_Square_far I L R Q) := by
  refine am_Cm_of (ini := false) (by decide +kernel) (fun z => by cases z) (by simp [Value.category]) (fun r σ' z => by obtain ⟨x, rfl, -⟩ := z; exact ⟨_, rfl, rfl⟩) ?_
  unfold wp_Square_far at h
  show am_Wp (d, "UnseenRing$Square", b_Square_far, 3, false) 0 0 0 [some (.ref q), some (.int p1), some (.int p2)] [] (I, L, R, am_SH) (po_Square_far I L R Q)
  refine am_aload_n (n := 1) d_Square_far_0 rfl rfl ?_
  refine am_getI (n := 4) f_Square_35 d_Square_far_1 rfl rfl hq ?_
  refine am_if_gt (y := 0) (tgt := 9) (n := 7) d_Square_far_4 rfl rfl (fun c1 => ?_) (fun c1 => ?_)
  · have h := h.1 c1
    refine am_iload_n (n := 10) d_Square_far_9 rfl rfl ?_
    refine am_aload_n (n := 11) d_Square_far_10 rfl rfl ?_
    refine am_getI (n := 14) f_Square_35 d_Square_far_11 rfl rfl hq ?_
    obtain ⟨g1, h⟩ := h
    refine am_irem (n := 15) d_Square_far_14 g1 rfl ?_
    refine am_iload_n (n := 16) d_Square_far_15 rfl rfl ?_
    refine am_aload_n (n := 17) d_Square_far_16 rfl rfl ?_
    refine am_getI (n := 20) f_Square_35 d_Square_far_17 rfl rfl hq ?_
    obtain ⟨g2, h⟩ := h
    refine am_irem (n := 21) d_Square_far_20 g2 rfl ?_
    refine am_isub (n := 22) d_Square_far_21 rfl ?_
    refine am_mabs2 (n := 25) d_Square_far_22 rfl lm_Square_98 (Nat.le_of_ble_eq_true rfl) (by omega) ?_
    refine am_iload_n (n := 26) d_Square_far_25 rfl rfl ?_
    refine am_aload_n (n := 27) d_Square_far_26 rfl rfl ?_
    refine am_getI (n := 30) f_Square_35 d_Square_far_27 rfl rfl hq ?_
    obtain ⟨g3, h⟩ := h
    refine am_idiv (n := 31) d_Square_far_30 g3 rfl ?_
    refine am_iload_n (n := 32) d_Square_far_31 rfl rfl ?_
    refine am_aload_n (n := 33) d_Square_far_32 rfl rfl ?_
    refine am_getI (n := 36) f_Square_35 d_Square_far_33 rfl rfl hq ?_
    obtain ⟨g4, h⟩ := h
    refine am_idiv (n := 37) d_Square_far_36 g4 rfl ?_
    refine am_isub (n := 38) d_Square_far_37 rfl ?_
    refine am_mabs2 (n := 41) d_Square_far_38 rfl lm_Square_98 (Nat.le_of_ble_eq_true rfl) (by omega) ?_
    refine am_iadd (n := 42) d_Square_far_41 rfl ?_
    exact am_iret d_Square_far_42 ⟨((am_abs ((p1 - p1 / (I q 6) * (I q 6)) - (p2 - p2 / (I q 6) * (I q 6)))) + (am_abs ((p1 / (I q 6)) - (p2 / (I q 6))))), rfl, rfl, h⟩
  · have h := h.2 c1
    refine am_iconst (n := 8) d_Square_far_7 ci_0 rfl ?_
    exact am_iret d_Square_far_8 ⟨0, rfl, rfl, h⟩
abbrev po_Square_hearersNear (I : am_TI) (L : am_TL) (R : am_TR) (Q : Int32 → Prop) : Option Value → am_St → Prop := fun r σ' => ∃ (x : Int32), r = some (.int x) ∧ σ' = (I, L, R, am_SH) ∧ Q x
def wl_Square_hearersNear_5 (I : am_TI) (L : am_TL) (R : am_TR) (q : Nat) (p1 : Int32) (p2 : Int32) (Q : Int32 → Prop)  : Nat → Int32 → Int32 → Prop
  | 0 => fun _ _ => False
  | f5 + 1 => fun v3 v4 => (((I q 11) ≤ v4 → Q v3) ∧ (¬ (I q 11) ≤ v4 → (vp_in v4 6 ∧ wp_Square_far I L R q (I (q + 2) (Int32.toNatClampNeg v4)) p1 (fun (r1 : Int32) => ((p2 < r1 → wl_Square_hearersNear_5 I L R q p1 p2 Q f5 v3 (v4 + 1)) ∧ (¬ p2 < r1 → wl_Square_hearersNear_5 I L R q p1 p2 Q f5 (v3 ||| ((1 : Int32) <<< (v4 &&& 31))) (v4 + 1)))))))
set_option maxRecDepth 20000 in
theorem tl_Square_hearersNear_5 {d : Nat}  {I : am_TI} {L : am_TL} {R : am_TR} {q : Nat} {p1 : Int32} {p2 : Int32} {Q : Int32 → Prop}  (hw : am_Wf R) (hq : am_SH[q]? = some (.inl 7)) (hd : 2 ≤ d) : ∀ (n : Nat) (v3 : Int32) (v4 : Int32), wl_Square_hearersNear_5 I L R q p1 p2 Q  n v3 v4 → am_Wp (d, "UnseenRing$Square", b_Square_hearersNear, 5, false) 0 0 5 [some (.ref q), some (.int p1), some (.int p2), some (.int v3), some (.int v4)] [] (I, L, R, am_SH) (po_Square_hearersNear I L R Q) := by
  intro n
  induction n with
  | zero => intro v3 v4 h; exact h.elim
  | succ n ih =>
    intro v3 v4 h
    unfold wl_Square_hearersNear_5 at h
    refine am_iload (n := 7) d_Square_hearersNear_5 rfl rfl ?_
    refine am_aload_n (n := 8) d_Square_hearersNear_7 rfl rfl ?_
    refine am_getI (n := 11) f_Square_51 d_Square_hearersNear_8 rfl rfl hq ?_
    refine am_icmp_ge (tgt := 43) (n := 14) d_Square_hearersNear_11 rfl rfl (fun c1 => ?_) (fun c1 => ?_)
    · have h := h.1 c1
      refine am_iload_n (n := 44) d_Square_hearersNear_43 rfl rfl ?_
      exact am_iret d_Square_hearersNear_44 ⟨v3, rfl, rfl, h⟩
    · have h := h.2 c1
      refine am_aload_n (n := 15) d_Square_hearersNear_14 rfl rfl ?_
      refine am_aload_n (n := 16) d_Square_hearersNear_15 rfl rfl ?_
      refine am_getR (x := (q + 2)) (n := 19) f_Square_15 d_Square_hearersNear_16 rfl rfl hq (hw.1 q 7 1 2 hq rfl) ?_
      refine am_iload (n := 21) d_Square_hearersNear_19 rfl rfl ?_
      obtain ⟨g1, h⟩ := h
      refine am_iald2 (n := 22) d_Square_hearersNear_21 rfl (am_sho (k := 1) (o := 2) hq (by decide) (by decide) (by decide) rfl) g1 rfl ?_
      refine am_iload_n (n := 23) d_Square_hearersNear_22 rfl rfl ?_
      refine am_callV (kc := 0) (ks := 0) (As := [.int (I (q + 2) (Int32.toNatClampNeg v4)), .int p1]) (n := 26) d_Square_hearersNear_23 rfl ce_Square_far lk_Square_103 in_Square_far rfl rfl hq rfl rfl (Nat.le_of_ble_eq_true rfl) (Or.inl rfl) (cm_Square_far (d := d - 1) hw (by omega) hq h) (by omega) ?_
      rintro _ _ ⟨r1, rfl, rfl, h⟩
      show am_Wp (d, "UnseenRing$Square", b_Square_hearersNear, 5, false) 0 0 26 [some (.ref q), some (.int p1), some (.int p2), some (.int v3), some (.int v4)] [.int r1] (I, L, R, am_SH) (po_Square_hearersNear I L R Q)
      refine am_iload_n (n := 27) d_Square_hearersNear_26 rfl rfl ?_
      refine am_icmp_gt (tgt := 37) (n := 30) d_Square_hearersNear_27 rfl rfl (fun c2 => ?_) (fun c2 => ?_)
      · have h := h.1 c2
        refine am_iinc (v := v4 + 1) (ls' := [some (.ref q), some (.int p1), some (.int p2), some (.int v3), some (.int (v4 + 1))]) (n := 40) d_Square_hearersNear_37 rfl (congrArg _ ci_1) (by decide) rfl rfl ?_
        refine am_goto (tgt := 5) d_Square_hearersNear_40 rfl ?_
        exact ih v3 (v4 + 1)  h
      · have h := h.2 c2
        refine am_iload_n (n := 31) d_Square_hearersNear_30 rfl rfl ?_
        refine am_iconst (n := 32) d_Square_hearersNear_31 ci_1 rfl ?_
        refine am_iload (n := 34) d_Square_hearersNear_32 rfl rfl ?_
        refine am_ishl (n := 35) d_Square_hearersNear_34 rfl ?_
        refine am_ior (n := 36) d_Square_hearersNear_35 rfl ?_
        refine am_istore_n (ls' := [some (.ref q), some (.int p1), some (.int p2), some (.int (v3 ||| ((1 : Int32) <<< (v4 &&& 31)))), some (.int v4)]) (n := 37) d_Square_hearersNear_36 (by decide) rfl rfl ?_
        refine am_iinc (v := v4 + 1) (ls' := [some (.ref q), some (.int p1), some (.int p2), some (.int (v3 ||| ((1 : Int32) <<< (v4 &&& 31)))), some (.int (v4 + 1))]) (n := 40) d_Square_hearersNear_37 rfl (congrArg _ ci_1) (by decide) rfl rfl ?_
        refine am_goto (tgt := 5) d_Square_hearersNear_40 rfl ?_
        exact ih (v3 ||| ((1 : Int32) <<< (v4 &&& 31))) (v4 + 1)  h
def wp_Square_hearersNear (I : am_TI) (L : am_TL) (R : am_TR) (q : Nat) (p1 : Int32) (p2 : Int32)  (Q : Int32 → Prop) : Prop := (∃ z, wl_Square_hearersNear_5 I L R q p1 p2 Q z 0 0)
set_option maxRecDepth 20000 in
theorem cm_Square_hearersNear {d : Nat} {I : am_TI} {L : am_TL} {R : am_TR}  (hw : am_Wf R)   {q : Nat} {p1 : Int32} {p2 : Int32} {Q : Int32 → Prop} (hd : 2 ≤ d) (hq : am_SH[q]? = some (.inl 7)) (h : wp_Square_hearersNear I L R q p1 p2  Q) : am_Cm d 0 0 y_Square_hearersNear b_Square_hearersNear 5 (some .int) [.ref q, .int p1, .int p2] (I, L, R, am_SH) (po_Square_hearersNear I L R Q) := by
  refine am_Cm_of (ini := false) (by decide +kernel) (fun z => by cases z) (by simp [Value.category]) (fun r σ' z => by obtain ⟨x, rfl, -⟩ := z; exact ⟨_, rfl, rfl⟩) ?_
  unfold wp_Square_hearersNear at h
  show am_Wp (d, "UnseenRing$Square", b_Square_hearersNear, 5, false) 0 0 0 [some (.ref q), some (.int p1), some (.int p2), none, none] [] (I, L, R, am_SH) (po_Square_hearersNear I L R Q)
  refine am_iconst (n := 1) d_Square_hearersNear_0 ci_0 rfl ?_
  refine am_istore_n (ls' := [some (.ref q), some (.int p1), some (.int p2), some (.int 0), none]) (n := 2) d_Square_hearersNear_1 (by decide) rfl rfl ?_
  refine am_iconst (n := 3) d_Square_hearersNear_2 ci_0 rfl ?_
  refine am_istore (ls' := [some (.ref q), some (.int p1), some (.int p2), some (.int 0), some (.int 0)]) (n := 5) d_Square_hearersNear_3 (by decide) rfl rfl ?_
  obtain ⟨n, h⟩ := h
  exact tl_Square_hearersNear_5 hw hq hd n 0 0 h
abbrev po_Square_isUp (I : am_TI) (L : am_TL) (R : am_TR) (Q : Bool → Prop) : Option Value → am_St → Prop := fun r σ' => ∃ (x : Bool), r = some (.int (am_b x)) ∧ σ' = (I, L, R, am_SH) ∧ Q x
def wp_Square_isUp (I : am_TI) (L : am_TL) (R : am_TR) (q : Nat) (p1 : Int32)  (Q : Bool → Prop) : Prop := (vp_in p1 4 ∧ wp_Square_hearersNear I L R q (I (q + 5) (Int32.toNatClampNeg p1)) 1 (fun (r1 : Int32) => ((r1 = 0 → Q false) ∧ (¬ r1 = 0 → Q true))))
set_option maxRecDepth 20000 in
theorem cm_Square_isUp {d : Nat} {I : am_TI} {L : am_TL} {R : am_TR}  (hw : am_Wf R)   {q : Nat} {p1 : Int32} {Q : Bool → Prop} (hd : 3 ≤ d) (hq : am_SH[q]? = some (.inl 7)) (h : wp_Square_isUp I L R q p1  Q) : am_Cm d 0 0 y_Square_isUp b_Square_isUp 2 (some .boolean) [.ref q, .int p1] (I, L, R, am_SH) (po_Square_isUp I L R Q) := by
  refine am_Cm_of (ini := false) (by decide +kernel) (fun z => by cases z) (by simp [Value.category]) (fun r σ' z => by obtain ⟨x, rfl, -⟩ := z; exact ⟨_, rfl, am_b_nar x⟩) ?_
  unfold wp_Square_isUp at h
  show am_Wp (d, "UnseenRing$Square", b_Square_isUp, 2, false) 0 0 0 [some (.ref q), some (.int p1)] [] (I, L, R, am_SH) (po_Square_isUp I L R Q)
  refine am_aload_n (n := 1) d_Square_isUp_0 rfl rfl ?_
  refine am_aload_n (n := 2) d_Square_isUp_1 rfl rfl ?_
  refine am_getR (x := (q + 5)) (n := 5) f_Square_25 d_Square_isUp_2 rfl rfl hq (hw.1 q 7 4 5 hq rfl) ?_
  refine am_iload_n (n := 6) d_Square_isUp_5 rfl rfl ?_
  obtain ⟨g1, h⟩ := h
  refine am_iald2 (n := 7) d_Square_isUp_6 rfl (am_sho (k := 4) (o := 5) hq (by decide) (by decide) (by decide) rfl) g1 rfl ?_
  refine am_iconst (n := 8) d_Square_isUp_7 ci_1 rfl ?_
  refine am_callV (kc := 0) (ks := 0) (As := [.int (I (q + 5) (Int32.toNatClampNeg p1)), .int 1]) (n := 11) d_Square_isUp_8 rfl ce_Square_hearersNear lk_Square_107 in_Square_hearersNear rfl rfl hq rfl rfl (Nat.le_of_ble_eq_true rfl) (Or.inl rfl) (cm_Square_hearersNear (d := d - 1) hw (by omega) hq h) (by omega) ?_
  rintro _ _ ⟨r1, rfl, rfl, h⟩
  show am_Wp (d, "UnseenRing$Square", b_Square_isUp, 2, false) 0 0 11 [some (.ref q), some (.int p1)] [.int r1] (I, L, R, am_SH) (po_Square_isUp I L R Q)
  refine am_if_eq (y := 0) (tgt := 18) (n := 14) d_Square_isUp_11 rfl rfl (fun c1 => ?_) (fun c1 => ?_)
  · have h := h.1 c1
    refine am_iconst (n := 19) d_Square_isUp_18 ci_0 rfl ?_
    exact am_iret d_Square_isUp_19 ⟨false, rfl, rfl, h⟩
  · have h := h.2 c1
    refine am_iconst (n := 15) d_Square_isUp_14 ci_1 rfl ?_
    refine am_goto (tgt := 19) d_Square_isUp_15 rfl ?_
    exact am_iret d_Square_isUp_19 ⟨true, rfl, rfl, h⟩
abbrev po_Square_dogsUp (I : am_TI) (L : am_TL) (R : am_TR) (Q : Int32 → Prop) : Option Value → am_St → Prop := fun r σ' => ∃ (x : Int32), r = some (.int x) ∧ σ' = (I, L, R, am_SH) ∧ Q x
def wl_Square_dogsUp_4 (I : am_TI) (L : am_TL) (R : am_TR) (q : Nat) (Q : Int32 → Prop)  : Nat → Int32 → Int32 → Prop
  | 0 => fun _ _ => False
  | f4 + 1 => fun v1 v2 => (((I q 12) ≤ v2 → Q v1) ∧ (¬ (I q 12) ≤ v2 → wp_Square_isUp I L R q v2 (fun (r1 : Bool) => ((r1 = false → wl_Square_dogsUp_4 I L R q Q f4 v1 (v2 + 1)) ∧ (r1 = true → wl_Square_dogsUp_4 I L R q Q f4 (v1 ||| ((1 : Int32) <<< (v2 &&& 31))) (v2 + 1))))))
set_option maxRecDepth 20000 in
theorem tl_Square_dogsUp_4 {d : Nat}  {I : am_TI} {L : am_TL} {R : am_TR} {q : Nat} {Q : Int32 → Prop}  (hw : am_Wf R) (hq : am_SH[q]? = some (.inl 7)) (hd : 4 ≤ d) : ∀ (n : Nat) (v1 : Int32) (v2 : Int32), wl_Square_dogsUp_4 I L R q Q  n v1 v2 → am_Wp (d, "UnseenRing$Square", b_Square_dogsUp, 3, false) 0 0 4 [some (.ref q), some (.int v1), some (.int v2)] [] (I, L, R, am_SH) (po_Square_dogsUp I L R Q) := by
  intro n
  induction n with
  | zero => intro v1 v2 h; exact h.elim
  | succ n ih =>
    intro v1 v2 h
    unfold wl_Square_dogsUp_4 at h
    refine am_iload_n (n := 5) d_Square_dogsUp_4 rfl rfl ?_
    refine am_aload_n (n := 6) d_Square_dogsUp_5 rfl rfl ?_
    refine am_getI (n := 9) f_Square_54 d_Square_dogsUp_6 rfl rfl hq ?_
    refine am_icmp_ge (tgt := 32) (n := 12) d_Square_dogsUp_9 rfl rfl (fun c1 => ?_) (fun c1 => ?_)
    · have h := h.1 c1
      refine am_iload_n (n := 33) d_Square_dogsUp_32 rfl rfl ?_
      exact am_iret d_Square_dogsUp_33 ⟨v1, rfl, rfl, h⟩
    · have h := h.2 c1
      refine am_aload_n (n := 13) d_Square_dogsUp_12 rfl rfl ?_
      refine am_iload_n (n := 14) d_Square_dogsUp_13 rfl rfl ?_
      refine am_callV (kc := 0) (ks := 0) (As := [.int v2]) (n := 17) d_Square_dogsUp_14 rfl ce_Square_isUp lk_Square_117 in_Square_isUp rfl rfl hq rfl rfl (Nat.le_of_ble_eq_true rfl) (Or.inl rfl) (cm_Square_isUp (d := d - 1) hw (by omega) hq h) (by omega) ?_
      rintro _ _ ⟨r1, rfl, rfl, h⟩
      show am_Wp (d, "UnseenRing$Square", b_Square_dogsUp, 3, false) 0 0 17 [some (.ref q), some (.int v1), some (.int v2)] [.int (am_b r1)] (I, L, R, am_SH) (po_Square_dogsUp I L R Q)
      refine am_if_eq (y := 0) (tgt := 26) (n := 20) d_Square_dogsUp_17 rfl rfl (fun c2 => ?_) (fun c2 => ?_)
      · have h := h.1 (am_b_0 c2)
        refine am_iinc (v := v2 + 1) (ls' := [some (.ref q), some (.int v1), some (.int (v2 + 1))]) (n := 29) d_Square_dogsUp_26 rfl (congrArg _ ci_1) (by decide) rfl rfl ?_
        refine am_goto (tgt := 4) d_Square_dogsUp_29 rfl ?_
        exact ih v1 (v2 + 1)  h
      · have h := h.2 (am_b_n0 c2)
        refine am_iload_n (n := 21) d_Square_dogsUp_20 rfl rfl ?_
        refine am_iconst (n := 22) d_Square_dogsUp_21 ci_1 rfl ?_
        refine am_iload_n (n := 23) d_Square_dogsUp_22 rfl rfl ?_
        refine am_ishl (n := 24) d_Square_dogsUp_23 rfl ?_
        refine am_ior (n := 25) d_Square_dogsUp_24 rfl ?_
        refine am_istore_n (ls' := [some (.ref q), some (.int (v1 ||| ((1 : Int32) <<< (v2 &&& 31)))), some (.int v2)]) (n := 26) d_Square_dogsUp_25 (by decide) rfl rfl ?_
        refine am_iinc (v := v2 + 1) (ls' := [some (.ref q), some (.int (v1 ||| ((1 : Int32) <<< (v2 &&& 31)))), some (.int (v2 + 1))]) (n := 29) d_Square_dogsUp_26 rfl (congrArg _ ci_1) (by decide) rfl rfl ?_
        refine am_goto (tgt := 4) d_Square_dogsUp_29 rfl ?_
        exact ih (v1 ||| ((1 : Int32) <<< (v2 &&& 31))) (v2 + 1)  h
def wp_Square_dogsUp (I : am_TI) (L : am_TL) (R : am_TR) (q : Nat)  (Q : Int32 → Prop) : Prop := (∃ z, wl_Square_dogsUp_4 I L R q Q z 0 0)
set_option maxRecDepth 20000 in
theorem cm_Square_dogsUp {d : Nat} {I : am_TI} {L : am_TL} {R : am_TR}  (hw : am_Wf R)   {q : Nat} {Q : Int32 → Prop} (hd : 4 ≤ d) (hq : am_SH[q]? = some (.inl 7)) (h : wp_Square_dogsUp I L R q  Q) : am_Cm d 0 0 y_Square_dogsUp b_Square_dogsUp 3 (some .int) [.ref q] (I, L, R, am_SH) (po_Square_dogsUp I L R Q) := by
  refine am_Cm_of (ini := false) (by decide +kernel) (fun z => by cases z) (by simp [Value.category]) (fun r σ' z => by obtain ⟨x, rfl, -⟩ := z; exact ⟨_, rfl, rfl⟩) ?_
  unfold wp_Square_dogsUp at h
  show am_Wp (d, "UnseenRing$Square", b_Square_dogsUp, 3, false) 0 0 0 [some (.ref q), none, none] [] (I, L, R, am_SH) (po_Square_dogsUp I L R Q)
  refine am_iconst (n := 1) d_Square_dogsUp_0 ci_0 rfl ?_
  refine am_istore_n (ls' := [some (.ref q), some (.int 0), none]) (n := 2) d_Square_dogsUp_1 (by decide) rfl rfl ?_
  refine am_iconst (n := 3) d_Square_dogsUp_2 ci_0 rfl ?_
  refine am_istore_n (ls' := [some (.ref q), some (.int 0), some (.int 0)]) (n := 4) d_Square_dogsUp_3 (by decide) rfl rfl ?_
  obtain ⟨n, h⟩ := h
  exact tl_Square_dogsUp_4 hw hq hd n 0 0 h
abbrev po_Square_toldOf (I : am_TI) (L : am_TL) (R : am_TR) (Q : Int32 → Prop) : Option Value → am_St → Prop := fun r σ' => ∃ (x : Int32), r = some (.int x) ∧ σ' = (I, L, R, am_SH) ∧ Q x
def wp_Square_toldOf (I : am_TI) (L : am_TL) (R : am_TR) (q : Nat) (p1 : Int32)  (Q : Int32 → Prop) : Prop := ((p1 = 0 → Q (I q 6)) ∧ (p1 = 1 → Q (I q 7)) ∧ (p1 = 2 → Q (I q 10)) ∧ (p1 = 3 → Q (I q 11)) ∧ (p1 = 4 → Q (I q 12)) ∧ (p1 = 5 → Q (I q 8)) ∧ (p1 = 6 → Q (I q 9)) ∧ (p1 = 7 → Q (I q 13)) ∧ (p1 = 8 → Q (I q 14)) ∧ (p1 = 9 → Q (I q 15)) ∧ (¬ p1 = 0 → ¬ p1 = 1 → ¬ p1 = 2 → ¬ p1 = 3 → ¬ p1 = 4 → ¬ p1 = 5 → ¬ p1 = 6 → ¬ p1 = 7 → ¬ p1 = 8 → ¬ p1 = 9 → wp_Square_dogsUp I L R q (fun (r1 : Int32) => Q r1)))
set_option maxRecDepth 20000 in
theorem cm_Square_toldOf {d : Nat} {I : am_TI} {L : am_TL} {R : am_TR}  (hw : am_Wf R)   {q : Nat} {p1 : Int32} {Q : Int32 → Prop} (hd : 5 ≤ d) (hq : am_SH[q]? = some (.inl 7)) (h : wp_Square_toldOf I L R q p1  Q) : am_Cm d 0 0 y_Square_toldOf b_Square_toldOf 2 (some .int) [.ref q, .int p1] (I, L, R, am_SH) (po_Square_toldOf I L R Q) := by
  refine am_Cm_of (ini := false) (by decide +kernel) (fun z => by cases z) (by simp [Value.category]) (fun r σ' z => by obtain ⟨x, rfl, -⟩ := z; exact ⟨_, rfl, rfl⟩) ?_
  unfold wp_Square_toldOf at h
  show am_Wp (d, "UnseenRing$Square", b_Square_toldOf, 2, false) 0 0 0 [some (.ref q), some (.int p1)] [] (I, L, R, am_SH) (po_Square_toldOf I L R Q)
  refine am_iload_n (n := 1) d_Square_toldOf_0 rfl rfl ?_
  by_cases c1 : p1 = 0
  · have h := h.1 c1
    refine am_tableIn (off := 55) (tgt := 56) d_Square_toldOf_1 (by rw [c1]; decide) (by rw [c1]; decide) (by rw [c1]; decide +kernel) rfl ?_
    refine am_aload_n (n := 57) d_Square_toldOf_56 rfl rfl ?_
    refine am_getI (n := 60) f_Square_35 d_Square_toldOf_57 rfl rfl hq ?_
    exact am_iret d_Square_toldOf_60 ⟨(I q 6), rfl, rfl, h⟩
  by_cases c2 : p1 = 1
  · have h := h.2.1 c2
    refine am_tableIn (off := 60) (tgt := 61) d_Square_toldOf_1 (by rw [c2]; decide) (by rw [c2]; decide) (by rw [c2]; decide +kernel) rfl ?_
    refine am_aload_n (n := 62) d_Square_toldOf_61 rfl rfl ?_
    refine am_getI (n := 65) f_Square_39 d_Square_toldOf_62 rfl rfl hq ?_
    exact am_iret d_Square_toldOf_65 ⟨(I q 7), rfl, rfl, h⟩
  by_cases c3 : p1 = 2
  · have h := h.2.2.1 c3
    refine am_tableIn (off := 65) (tgt := 66) d_Square_toldOf_1 (by rw [c3]; decide) (by rw [c3]; decide) (by rw [c3]; decide +kernel) rfl ?_
    refine am_aload_n (n := 67) d_Square_toldOf_66 rfl rfl ?_
    refine am_getI (n := 70) f_Square_48 d_Square_toldOf_67 rfl rfl hq ?_
    exact am_iret d_Square_toldOf_70 ⟨(I q 10), rfl, rfl, h⟩
  by_cases c4 : p1 = 3
  · have h := h.2.2.2.1 c4
    refine am_tableIn (off := 70) (tgt := 71) d_Square_toldOf_1 (by rw [c4]; decide) (by rw [c4]; decide) (by rw [c4]; decide +kernel) rfl ?_
    refine am_aload_n (n := 72) d_Square_toldOf_71 rfl rfl ?_
    refine am_getI (n := 75) f_Square_51 d_Square_toldOf_72 rfl rfl hq ?_
    exact am_iret d_Square_toldOf_75 ⟨(I q 11), rfl, rfl, h⟩
  by_cases c5 : p1 = 4
  · have h := h.2.2.2.2.1 c5
    refine am_tableIn (off := 75) (tgt := 76) d_Square_toldOf_1 (by rw [c5]; decide) (by rw [c5]; decide) (by rw [c5]; decide +kernel) rfl ?_
    refine am_aload_n (n := 77) d_Square_toldOf_76 rfl rfl ?_
    refine am_getI (n := 80) f_Square_54 d_Square_toldOf_77 rfl rfl hq ?_
    exact am_iret d_Square_toldOf_80 ⟨(I q 12), rfl, rfl, h⟩
  by_cases c6 : p1 = 5
  · have h := h.2.2.2.2.2.1 c6
    refine am_tableIn (off := 80) (tgt := 81) d_Square_toldOf_1 (by rw [c6]; decide) (by rw [c6]; decide) (by rw [c6]; decide +kernel) rfl ?_
    refine am_aload_n (n := 82) d_Square_toldOf_81 rfl rfl ?_
    refine am_getI (n := 85) f_Square_42 d_Square_toldOf_82 rfl rfl hq ?_
    exact am_iret d_Square_toldOf_85 ⟨(I q 8), rfl, rfl, h⟩
  by_cases c7 : p1 = 6
  · have h := h.2.2.2.2.2.2.1 c7
    refine am_tableIn (off := 85) (tgt := 86) d_Square_toldOf_1 (by rw [c7]; decide) (by rw [c7]; decide) (by rw [c7]; decide +kernel) rfl ?_
    refine am_aload_n (n := 87) d_Square_toldOf_86 rfl rfl ?_
    refine am_getI (n := 90) f_Square_45 d_Square_toldOf_87 rfl rfl hq ?_
    exact am_iret d_Square_toldOf_90 ⟨(I q 9), rfl, rfl, h⟩
  by_cases c8 : p1 = 7
  · have h := h.2.2.2.2.2.2.2.1 c8
    refine am_tableIn (off := 90) (tgt := 91) d_Square_toldOf_1 (by rw [c8]; decide) (by rw [c8]; decide) (by rw [c8]; decide +kernel) rfl ?_
    refine am_aload_n (n := 92) d_Square_toldOf_91 rfl rfl ?_
    refine am_getI (n := 95) f_Square_57 d_Square_toldOf_92 rfl rfl hq ?_
    exact am_iret d_Square_toldOf_95 ⟨(I q 13), rfl, rfl, h⟩
  by_cases c9 : p1 = 8
  · have h := h.2.2.2.2.2.2.2.2.1 c9
    refine am_tableIn (off := 95) (tgt := 96) d_Square_toldOf_1 (by rw [c9]; decide) (by rw [c9]; decide) (by rw [c9]; decide +kernel) rfl ?_
    refine am_aload_n (n := 97) d_Square_toldOf_96 rfl rfl ?_
    refine am_getI (n := 100) f_Square_60 d_Square_toldOf_97 rfl rfl hq ?_
    exact am_iret d_Square_toldOf_100 ⟨(I q 14), rfl, rfl, h⟩
  by_cases c10 : p1 = 9
  · have h := h.2.2.2.2.2.2.2.2.2.1 c10
    refine am_tableIn (off := 100) (tgt := 101) d_Square_toldOf_1 (by rw [c10]; decide) (by rw [c10]; decide) (by rw [c10]; decide +kernel) rfl ?_
    refine am_aload_n (n := 102) d_Square_toldOf_101 rfl rfl ?_
    refine am_getI (n := 105) f_Square_63 d_Square_toldOf_102 rfl rfl hq ?_
    exact am_iret d_Square_toldOf_105 ⟨(I q 15), rfl, rfl, h⟩
  have h := h.2.2.2.2.2.2.2.2.2.2 c1 c2 c3 c4 c5 c6 c7 c8 c9 c10
  have z0 := lv_neT c1 (a := 0) (by decide)
  have z1 := lv_neT c2 (a := 1) (by decide)
  have z2 := lv_neT c3 (a := 2) (by decide)
  have z3 := lv_neT c4 (a := 3) (by decide)
  have z4 := lv_neT c5 (a := 4) (by decide)
  have z5 := lv_neT c6 (a := 5) (by decide)
  have z6 := lv_neT c7 (a := 6) (by decide)
  have z7 := lv_neT c8 (a := 7) (by decide)
  have z8 := lv_neT c9 (a := 8) (by decide)
  have z9 := lv_neT c10 (a := 9) (by decide)
  refine am_tableOut (tgt := 106) d_Square_toldOf_1 (by omega) rfl ?_
  refine am_aload_n (n := 107) d_Square_toldOf_106 rfl rfl ?_
  refine am_callV (kc := 0) (ks := 0) (As := []) (n := 110) d_Square_toldOf_107 rfl ce_Square_dogsUp lk_Square_87 in_Square_dogsUp rfl rfl hq rfl rfl (Nat.le_of_ble_eq_true rfl) (Or.inl rfl) (cm_Square_dogsUp (d := d - 1) hw (by omega) hq h) (by omega) ?_
  rintro _ _ ⟨r1, rfl, rfl, h⟩
  show am_Wp (d, "UnseenRing$Square", b_Square_toldOf, 2, false) 0 0 110 [some (.ref q), some (.int p1)] [.int r1] (I, L, R, am_SH) (po_Square_toldOf I L R Q)
  exact am_iret d_Square_toldOf_110 ⟨r1, rfl, rfl, h⟩
