abbrev po_SquareReader_readSize (L : am_TL) (R : am_TR) (Q : Bool → am_TI → Prop) : Option Value → am_St → Prop := fun r σ' => ∃ (x : Bool) (I' : am_TI), r = some (.int (am_b x)) ∧ σ' = (I', L, R, am_SH) ∧ Q x I'
def wb_SquareReader_readSize_28 (L : am_TL) (R : am_TR) (q : Nat) (p1 : Nat) (p2 : Nat) (Q : Bool → am_TI → Prop)  (I : am_TI) : Prop := wp_Tokens_refuse I L R p1 5 (fun (r1 : Bool) (I1 : am_TI) => Q r1 I1)
set_option maxRecDepth 20000 in
theorem tb_SquareReader_readSize_28 {d : Nat}  {L : am_TL} {R : am_TR} {q : Nat} {p1 : Nat} {p2 : Nat} {Q : Bool → am_TI → Prop}  (hw : am_Wf R) (hq : am_SH[q]? = some (.inl 8)) (hp1 : am_SH[p1]? = some (.inl 9)) (hp2 : am_SH[p2]? = some (.inl 7)) (hd : 2 ≤ d) (I : am_TI) (h : wb_SquareReader_readSize_28 L R q p1 p2 Q  I) : am_Wp (d, "UnseenRing$SquareReader", b_SquareReader_readSize, 5, false) 0 0 28 [some (.ref q), some (.ref p1), some (.ref p2), none, none] [] (I, L, R, am_SH) (po_SquareReader_readSize L R Q) := by
  unfold wb_SquareReader_readSize_28 at h
  refine am_aload_n (n := 29) d_SquareReader_readSize_28 rfl rfl ?_
  refine am_iconst (n := 30) d_SquareReader_readSize_29 ci_5 rfl ?_
  refine am_callV (kc := 0) (ks := 0) (As := [.int 5]) (n := 33) d_SquareReader_readSize_30 rfl ce_Tokens_refuse lk_SquareReader_61 in_Tokens_refuse rfl rfl hp1 rfl rfl (Nat.le_of_ble_eq_true rfl) (Or.inl rfl) (cm_Tokens_refuse (d := d - 1) hw (by omega) hp1 h) (by omega) ?_
  rintro _ _ ⟨r1, I1, rfl, rfl, h⟩
  show am_Wp (d, "UnseenRing$SquareReader", b_SquareReader_readSize, 5, false) 0 0 33 [some (.ref q), some (.ref p1), some (.ref p2), none, none] [.int (am_b r1)] (I1, L, R, am_SH) (po_SquareReader_readSize L R Q)
  exact am_iret d_SquareReader_readSize_33 ⟨r1, I1, rfl, rfl, h⟩
def wp_SquareReader_readSize (I : am_TI) (L : am_TL) (R : am_TR) (q : Nat) (p1 : Nat) (p2 : Nat)  (Q : Bool → am_TI → Prop) : Prop := (((I q 0) = 0 → (((I q 2) = 0 → ((0 < (I p2 11) → wb_SquareReader_readSize_28 L R q p1 p2 Q I) ∧ (¬ 0 < (I p2 11) → (((I p2 12) ≤ 0 → (∀ I2, I2 = am_u2 I q 0 1 → wp_Tokens_advance I2 L R p1 (fun (I3 : am_TI) => wp_Tokens_takeNumber I3 L R p1 1 5 (fun (r2 : Int32) (I4 : am_TI) => ((r2 = (-1) → Q false I4) ∧ (¬ r2 = (-1) → wp_Tokens_takeWord I4 L R p1 1 (fun (r3 : Bool) (I5 : am_TI) => ((r3 = false → Q false I5) ∧ (r3 = true → wp_Tokens_takeNumber I5 L R p1 1 5 (fun (r4 : Int32) (I6 : am_TI) => ((r4 = (-1) → Q false I6) ∧ (¬ r4 = (-1) → (∀ I7, I7 = am_u2 I6 p2 6 r2 → (∀ I8, I8 = am_u2 I7 p2 7 r4 → wp_Tokens_takeSemicolon I8 L R p1 (fun (r5 : Bool) (I9 : am_TI) => Q r5 I9))))))))))))))) ∧ (¬ (I p2 12) ≤ 0 → wb_SquareReader_readSize_28 L R q p1 p2 Q I))))) ∧ (¬ (I q 2) = 0 → wb_SquareReader_readSize_28 L R q p1 p2 Q I))) ∧ (¬ (I q 0) = 0 → wb_SquareReader_readSize_28 L R q p1 p2 Q I))
set_option maxRecDepth 20000 in
theorem cm_SquareReader_readSize {d : Nat} {I : am_TI} {L : am_TL} {R : am_TR}  (hw : am_Wf R)   {q : Nat} {p1 : Nat} {p2 : Nat} {Q : Bool → am_TI → Prop} (hd : 2 ≤ d) (hq : am_SH[q]? = some (.inl 8)) (hp1 : am_SH[p1]? = some (.inl 9)) (hp2 : am_SH[p2]? = some (.inl 7)) (h : wp_SquareReader_readSize I L R q p1 p2  Q) : am_Cm d 0 0 y_SquareReader_readSize b_SquareReader_readSize 5 (some .boolean) [.ref q, .ref p1, .ref p2] (I, L, R, am_SH) (po_SquareReader_readSize L R Q) := by
  refine am_Cm_of (ini := false) (by decide +kernel) (fun z => by cases z) (by simp [Value.category]) (fun r σ' z => by obtain ⟨x, _, rfl, -⟩ := z; exact ⟨_, rfl, am_b_nar x⟩) ?_
  unfold wp_SquareReader_readSize at h
  show am_Wp (d, "UnseenRing$SquareReader", b_SquareReader_readSize, 5, false) 0 0 0 [some (.ref q), some (.ref p1), some (.ref p2), none, none] [] (I, L, R, am_SH) (po_SquareReader_readSize L R Q)
  refine am_aload_n (n := 1) d_SquareReader_readSize_0 rfl rfl ?_
  refine am_getZ (n := 4) f_SquareReader_9 d_SquareReader_readSize_1 rfl rfl hq ?_
  refine am_if_ne (y := 0) (tgt := 28) (n := 7) d_SquareReader_readSize_4 rfl rfl (fun c1 => ?_) (fun c1 => ?_)
  · have h := h.2 c1
    exact tb_SquareReader_readSize_28 hw hq hp1 hp2 hd I h
  · have h := h.1 c1
    refine am_aload_n (n := 8) d_SquareReader_readSize_7 rfl rfl ?_
    refine am_getZ (n := 11) f_SquareReader_18 d_SquareReader_readSize_8 rfl rfl hq ?_
    refine am_if_ne (y := 0) (tgt := 28) (n := 14) d_SquareReader_readSize_11 rfl rfl (fun c2 => ?_) (fun c2 => ?_)
    · have h := h.2 c2
      exact tb_SquareReader_readSize_28 hw hq hp1 hp2 hd I h
    · have h := h.1 c2
      refine am_aload_n (n := 15) d_SquareReader_readSize_14 rfl rfl ?_
      refine am_getI (n := 18) f_SquareReader_65 d_SquareReader_readSize_15 rfl rfl hp2 ?_
      refine am_if_gt (y := 0) (tgt := 28) (n := 21) d_SquareReader_readSize_18 rfl rfl (fun c3 => ?_) (fun c3 => ?_)
      · have h := h.1 c3
        exact tb_SquareReader_readSize_28 hw hq hp1 hp2 hd I h
      · have h := h.2 c3
        refine am_aload_n (n := 22) d_SquareReader_readSize_21 rfl rfl ?_
        refine am_getI (n := 25) f_SquareReader_68 d_SquareReader_readSize_22 rfl rfl hp2 ?_
        refine am_if_le (y := 0) (tgt := 34) (n := 28) d_SquareReader_readSize_25 rfl rfl (fun c4 => ?_) (fun c4 => ?_)
        · have h := h.1 c4
          refine am_aload_n (n := 35) d_SquareReader_readSize_34 rfl rfl ?_
          refine am_iconst (n := 36) d_SquareReader_readSize_35 ci_1 rfl ?_
          refine am_putZ (n := 39) f_SquareReader_9 d_SquareReader_readSize_36 rfl ⟨_, rfl, Or.inl rfl⟩ rfl rfl hq (Or.inr rfl) ?_
          generalize eI2 : am_u2 I q 0 1 = I2
          have h := h I2 eI2.symm
          refine am_aload_n (n := 40) d_SquareReader_readSize_39 rfl rfl ?_
          refine am_callV (kc := 0) (ks := 0) (As := []) (n := 43) d_SquareReader_readSize_40 rfl ce_Tokens_advance lk_SquareReader_71 in_Tokens_advance rfl rfl hp1 rfl rfl (Nat.le_of_ble_eq_true rfl) (Or.inl rfl) (cm_Tokens_advance (d := d - 1) hw (by omega) hp1 h) (by omega) ?_
          rintro _ _ ⟨I3, rfl, rfl, h⟩
          show am_Wp (d, "UnseenRing$SquareReader", b_SquareReader_readSize, 5, false) 0 0 43 [some (.ref q), some (.ref p1), some (.ref p2), none, none] [] (I3, L, R, am_SH) (po_SquareReader_readSize L R Q)
          refine am_aload_n (n := 44) d_SquareReader_readSize_43 rfl rfl ?_
          refine am_iconst (n := 45) d_SquareReader_readSize_44 ci_1 rfl ?_
          refine am_iconst (n := 46) d_SquareReader_readSize_45 ci_5 rfl ?_
          refine am_callV (kc := 0) (ks := 0) (As := [.int 1, .int 5]) (n := 49) d_SquareReader_readSize_46 rfl ce_Tokens_takeNumber lk_SquareReader_74 in_Tokens_takeNumber rfl rfl hp1 rfl rfl (Nat.le_of_ble_eq_true rfl) (Or.inl rfl) (cm_Tokens_takeNumber (d := d - 1) hw (by omega) hp1 h) (by omega) ?_
          rintro _ _ ⟨r2, I4, rfl, rfl, h⟩
          show am_Wp (d, "UnseenRing$SquareReader", b_SquareReader_readSize, 5, false) 0 0 49 [some (.ref q), some (.ref p1), some (.ref p2), none, none] [.int r2] (I4, L, R, am_SH) (po_SquareReader_readSize L R Q)
          refine am_istore_n (ls' := [some (.ref q), some (.ref p1), some (.ref p2), some (.int r2), none]) (n := 50) d_SquareReader_readSize_49 (by decide) rfl rfl ?_
          refine am_iload_n (n := 51) d_SquareReader_readSize_50 rfl rfl ?_
          refine am_iconst (n := 52) d_SquareReader_readSize_51 ci_m1 rfl ?_
          refine am_icmp_eq (tgt := 63) (n := 55) d_SquareReader_readSize_52 rfl rfl (fun c5 => ?_) (fun c5 => ?_)
          · have h := h.1 c5
            refine am_iconst (n := 64) d_SquareReader_readSize_63 ci_0 rfl ?_
            exact am_iret d_SquareReader_readSize_64 ⟨false, I4, rfl, rfl, h⟩
          · have h := h.2 c5
            refine am_aload_n (n := 56) d_SquareReader_readSize_55 rfl rfl ?_
            refine am_iconst (n := 57) d_SquareReader_readSize_56 ci_1 rfl ?_
            refine am_callV (kc := 0) (ks := 0) (As := [.int 1]) (n := 60) d_SquareReader_readSize_57 rfl ce_Tokens_takeWord lk_SquareReader_78 in_Tokens_takeWord rfl rfl hp1 rfl rfl (Nat.le_of_ble_eq_true rfl) (Or.inl rfl) (cm_Tokens_takeWord (d := d - 1) hw (by omega) hp1 h) (by omega) ?_
            rintro _ _ ⟨r3, I5, rfl, rfl, h⟩
            show am_Wp (d, "UnseenRing$SquareReader", b_SquareReader_readSize, 5, false) 0 0 60 [some (.ref q), some (.ref p1), some (.ref p2), some (.int r2), none] [.int (am_b r3)] (I5, L, R, am_SH) (po_SquareReader_readSize L R Q)
            refine am_if_ne (y := 0) (tgt := 65) (n := 63) d_SquareReader_readSize_60 rfl rfl (fun c6 => ?_) (fun c6 => ?_)
            · have h := h.2 (am_b_n0 c6)
              refine am_aload_n (n := 66) d_SquareReader_readSize_65 rfl rfl ?_
              refine am_iconst (n := 67) d_SquareReader_readSize_66 ci_1 rfl ?_
              refine am_iconst (n := 68) d_SquareReader_readSize_67 ci_5 rfl ?_
              refine am_callV (kc := 0) (ks := 0) (As := [.int 1, .int 5]) (n := 71) d_SquareReader_readSize_68 rfl ce_Tokens_takeNumber lk_SquareReader_74 in_Tokens_takeNumber rfl rfl hp1 rfl rfl (Nat.le_of_ble_eq_true rfl) (Or.inl rfl) (cm_Tokens_takeNumber (d := d - 1) hw (by omega) hp1 h) (by omega) ?_
              rintro _ _ ⟨r4, I6, rfl, rfl, h⟩
              show am_Wp (d, "UnseenRing$SquareReader", b_SquareReader_readSize, 5, false) 0 0 71 [some (.ref q), some (.ref p1), some (.ref p2), some (.int r2), none] [.int r4] (I6, L, R, am_SH) (po_SquareReader_readSize L R Q)
              refine am_istore (ls' := [some (.ref q), some (.ref p1), some (.ref p2), some (.int r2), some (.int r4)]) (n := 73) d_SquareReader_readSize_71 (by decide) rfl rfl ?_
              refine am_iload (n := 75) d_SquareReader_readSize_73 rfl rfl ?_
              refine am_iconst (n := 76) d_SquareReader_readSize_75 ci_m1 rfl ?_
              refine am_icmp_ne (tgt := 81) (n := 79) d_SquareReader_readSize_76 rfl rfl (fun c7 => ?_) (fun c7 => ?_)
              · have h := h.2 c7
                refine am_aload_n (n := 82) d_SquareReader_readSize_81 rfl rfl ?_
                refine am_iload_n (n := 83) d_SquareReader_readSize_82 rfl rfl ?_
                refine am_putI (n := 86) f_SquareReader_81 d_SquareReader_readSize_83 rfl ⟨_, rfl, Or.inl rfl⟩ rfl rfl hp2 ?_
                generalize eI7 : am_u2 I6 p2 6 r2 = I7
                have h := h I7 eI7.symm
                refine am_aload_n (n := 87) d_SquareReader_readSize_86 rfl rfl ?_
                refine am_iload (n := 89) d_SquareReader_readSize_87 rfl rfl ?_
                refine am_putI (n := 92) f_SquareReader_84 d_SquareReader_readSize_89 rfl ⟨_, rfl, Or.inl rfl⟩ rfl rfl hp2 ?_
                generalize eI8 : am_u2 I7 p2 7 r4 = I8
                have h := h I8 eI8.symm
                refine am_aload_n (n := 93) d_SquareReader_readSize_92 rfl rfl ?_
                refine am_callV (kc := 0) (ks := 0) (As := []) (n := 96) d_SquareReader_readSize_93 rfl ce_Tokens_takeSemicolon lk_SquareReader_87 in_Tokens_takeSemicolon rfl rfl hp1 rfl rfl (Nat.le_of_ble_eq_true rfl) (Or.inl rfl) (cm_Tokens_takeSemicolon (d := d - 1) hw (by omega) hp1 h) (by omega) ?_
                rintro _ _ ⟨r5, I9, rfl, rfl, h⟩
                show am_Wp (d, "UnseenRing$SquareReader", b_SquareReader_readSize, 5, false) 0 0 96 [some (.ref q), some (.ref p1), some (.ref p2), some (.int r2), some (.int r4)] [.int (am_b r5)] (I9, L, R, am_SH) (po_SquareReader_readSize L R Q)
                exact am_iret d_SquareReader_readSize_96 ⟨r5, I9, rfl, rfl, h⟩
              · have h := h.1 c7
                refine am_iconst (n := 80) d_SquareReader_readSize_79 ci_0 rfl ?_
                exact am_iret d_SquareReader_readSize_80 ⟨false, I6, rfl, rfl, h⟩
            · have h := h.1 (am_b_0 c6)
              refine am_iconst (n := 64) d_SquareReader_readSize_63 ci_0 rfl ?_
              exact am_iret d_SquareReader_readSize_64 ⟨false, I5, rfl, rfl, h⟩
        · have h := h.2 c4
          exact tb_SquareReader_readSize_28 hw hq hp1 hp2 hd I h
abbrev po_SquareReader_readTune (R : am_TR) (Q : Bool → am_TI → am_TL → Prop) : Option Value → am_St → Prop := fun r σ' => ∃ (x : Bool) (I' : am_TI) (L' : am_TL), r = some (.int (am_b x)) ∧ σ' = (I', L', R, am_SH) ∧ Q x I' L'
def wp_SquareReader_readTune (I : am_TI) (L : am_TL) (R : am_TR) (q : Nat) (p1 : Nat) (p2 : Nat)  (Q : Bool → am_TI → am_TL → Prop) : Prop := (((I p2 10) < 6 → wp_Tokens_advance I L R p1 (fun (I1 : am_TI) => wp_Tokens_nameHere I1 L R p1 (fun (r1 : Int64) (I2 : am_TI) => ((r1 = 0 → Q false I2 L) ∧ (¬ r1 = 0 → wp_Square_tuneNamed I2 L R p2 r1 (fun (r2 : Int32) => ((r2 = (-1) → (vp_in (I2 p2 10) 6 ∧ (∀ L1, L1 = am_u2 L (p2 + 1) (Int32.toNatClampNeg (I2 p2 10)) r1 → (∀ I3, I3 = am_u2 I2 p2 10 ((I2 p2 10) + 1) → wp_Tokens_advance I3 L1 R p1 (fun (I4 : am_TI) => wp_Tokens_takeSemicolon I4 L1 R p1 (fun (r3 : Bool) (I5 : am_TI) => Q r3 I5 L1)))))) ∧ (¬ r2 = (-1) → wp_Tokens_refuse I2 L R p1 3 (fun (r4 : Bool) (I6 : am_TI) => Q r4 I6 L))))))))) ∧ (¬ (I p2 10) < 6 → wp_Tokens_refuse I L R p1 6 (fun (r5 : Bool) (I7 : am_TI) => Q r5 I7 L)))
set_option maxRecDepth 20000 in
theorem cm_SquareReader_readTune {d : Nat} {I : am_TI} {L : am_TL} {R : am_TR}  (hw : am_Wf R)   {q : Nat} {p1 : Nat} {p2 : Nat} {Q : Bool → am_TI → am_TL → Prop} (hd : 2 ≤ d) (hq : am_SH[q]? = some (.inl 8)) (hp1 : am_SH[p1]? = some (.inl 9)) (hp2 : am_SH[p2]? = some (.inl 7)) (h : wp_SquareReader_readTune I L R q p1 p2  Q) : am_Cm d 0 0 y_SquareReader_readTune b_SquareReader_readTune 5 (some .boolean) [.ref q, .ref p1, .ref p2] (I, L, R, am_SH) (po_SquareReader_readTune R Q) := by
  refine am_Cm_of (ini := false) (by decide +kernel) (fun z => by cases z) (by simp [Value.category]) (fun r σ' z => by obtain ⟨x, _, _, rfl, -⟩ := z; exact ⟨_, rfl, am_b_nar x⟩) ?_
  unfold wp_SquareReader_readTune at h
  show am_Wp (d, "UnseenRing$SquareReader", b_SquareReader_readTune, 5, false) 0 0 0 [some (.ref q), some (.ref p1), some (.ref p2), none, none] [] (I, L, R, am_SH) (po_SquareReader_readTune R Q)
  refine am_aload_n (n := 1) d_SquareReader_readTune_0 rfl rfl ?_
  refine am_getI (n := 4) f_SquareReader_101 d_SquareReader_readTune_1 rfl rfl hp2 ?_
  refine am_bipush (n := 6) d_SquareReader_readTune_4 cb_6 rfl ?_
  refine am_icmp_lt (tgt := 16) (n := 9) d_SquareReader_readTune_6 rfl rfl (fun c1 => ?_) (fun c1 => ?_)
  · have h := h.1 c1
    refine am_aload_n (n := 17) d_SquareReader_readTune_16 rfl rfl ?_
    refine am_callV (kc := 0) (ks := 0) (As := []) (n := 20) d_SquareReader_readTune_17 rfl ce_Tokens_advance lk_SquareReader_71 in_Tokens_advance rfl rfl hp1 rfl rfl (Nat.le_of_ble_eq_true rfl) (Or.inl rfl) (cm_Tokens_advance (d := d - 1) hw (by omega) hp1 h) (by omega) ?_
    rintro _ _ ⟨I1, rfl, rfl, h⟩
    show am_Wp (d, "UnseenRing$SquareReader", b_SquareReader_readTune, 5, false) 0 0 20 [some (.ref q), some (.ref p1), some (.ref p2), none, none] [] (I1, L, R, am_SH) (po_SquareReader_readTune R Q)
    refine am_aload_n (n := 21) d_SquareReader_readTune_20 rfl rfl ?_
    refine am_callV (kc := 0) (ks := 0) (As := []) (n := 24) d_SquareReader_readTune_21 rfl ce_Tokens_nameHere lk_SquareReader_104 in_Tokens_nameHere rfl rfl hp1 rfl rfl (Nat.le_of_ble_eq_true rfl) (Or.inl rfl) (cm_Tokens_nameHere (d := d - 1) hw (by omega) hp1 h) (by omega) ?_
    rintro _ _ ⟨r1, I2, rfl, rfl, h⟩
    show am_Wp (d, "UnseenRing$SquareReader", b_SquareReader_readTune, 5, false) 0 0 24 [some (.ref q), some (.ref p1), some (.ref p2), none, none] [.long r1] (I2, L, R, am_SH) (po_SquareReader_readTune R Q)
    refine am_lstore_n (ls' := [some (.ref q), some (.ref p1), some (.ref p2), some (.long r1), none]) (n := 25) d_SquareReader_readTune_24 (by decide) rfl rfl ?_
    refine am_lload_n (n := 26) d_SquareReader_readTune_25 rfl rfl ?_
    refine am_lconst (v := 0) (n := 27) d_SquareReader_readTune_26 rfl rfl ?_
    refine am_lcmp (n := 28) d_SquareReader_readTune_27 rfl ?_
    refine am_if_ne (y := 0) (tgt := 33) (n := 31) d_SquareReader_readTune_28 rfl rfl (fun c2 => ?_) (fun c2 => ?_)
    · have h := h.2 (fun z => c2 (am_cmp_eq.mpr z))
      refine am_aload_n (n := 34) d_SquareReader_readTune_33 rfl rfl ?_
      refine am_lload_n (n := 35) d_SquareReader_readTune_34 rfl rfl ?_
      refine am_callV (kc := 0) (ks := 0) (As := [.long r1]) (n := 38) d_SquareReader_readTune_35 rfl ce_Square_tuneNamed lk_SquareReader_108 in_Square_tuneNamed rfl rfl hp2 rfl rfl (Nat.le_of_ble_eq_true rfl) (Or.inl rfl) (cm_Square_tuneNamed (d := d - 1) hw (by omega) hp2 h) (by omega) ?_
      rintro _ _ ⟨r2, rfl, rfl, h⟩
      show am_Wp (d, "UnseenRing$SquareReader", b_SquareReader_readTune, 5, false) 0 0 38 [some (.ref q), some (.ref p1), some (.ref p2), some (.long r1), none] [.int r2] (I2, L, R, am_SH) (po_SquareReader_readTune R Q)
      refine am_iconst (n := 39) d_SquareReader_readTune_38 ci_m1 rfl ?_
      refine am_icmp_eq (tgt := 48) (n := 42) d_SquareReader_readTune_39 rfl rfl (fun c3 => ?_) (fun c3 => ?_)
      · have h := h.1 c3
        refine am_aload_n (n := 49) d_SquareReader_readTune_48 rfl rfl ?_
        refine am_getR (x := (p2 + 1)) (n := 52) f_SquareReader_112 d_SquareReader_readTune_49 rfl rfl hp2 (hw.1 p2 7 0 1 hp2 rfl) ?_
        refine am_aload_n (n := 53) d_SquareReader_readTune_52 rfl rfl ?_
        refine am_getI (n := 56) f_SquareReader_101 d_SquareReader_readTune_53 rfl rfl hp2 ?_
        refine am_lload_n (n := 57) d_SquareReader_readTune_56 rfl rfl ?_
        obtain ⟨g1, h⟩ := h
        refine am_last2 (n := 58) d_SquareReader_readTune_57 rfl (am_sho (k := 0) (o := 1) hp2 (by decide) (by decide) (by decide) rfl) g1 rfl ?_
        generalize eL1 : am_u2 L (p2 + 1) (Int32.toNatClampNeg (I2 p2 10)) r1 = L1
        have h := h L1 eL1.symm
        refine am_aload_n (n := 59) d_SquareReader_readTune_58 rfl rfl ?_
        refine am_dup (n := 60) d_SquareReader_readTune_59 rfl rfl ?_
        refine am_getI (n := 63) f_SquareReader_101 d_SquareReader_readTune_60 rfl rfl hp2 ?_
        refine am_iconst (n := 64) d_SquareReader_readTune_63 ci_1 rfl ?_
        refine am_iadd (n := 65) d_SquareReader_readTune_64 rfl ?_
        refine am_putI (n := 68) f_SquareReader_101 d_SquareReader_readTune_65 rfl ⟨_, rfl, Or.inl rfl⟩ rfl rfl hp2 ?_
        generalize eI3 : am_u2 I2 p2 10 ((I2 p2 10) + 1) = I3
        have h := h I3 eI3.symm
        refine am_aload_n (n := 69) d_SquareReader_readTune_68 rfl rfl ?_
        refine am_callV (kc := 0) (ks := 0) (As := []) (n := 72) d_SquareReader_readTune_69 rfl ce_Tokens_advance lk_SquareReader_71 in_Tokens_advance rfl rfl hp1 rfl rfl (Nat.le_of_ble_eq_true rfl) (Or.inl rfl) (cm_Tokens_advance (d := d - 1) hw (by omega) hp1 h) (by omega) ?_
        rintro _ _ ⟨I4, rfl, rfl, h⟩
        show am_Wp (d, "UnseenRing$SquareReader", b_SquareReader_readTune, 5, false) 0 0 72 [some (.ref q), some (.ref p1), some (.ref p2), some (.long r1), none] [] (I4, L1, R, am_SH) (po_SquareReader_readTune R Q)
        refine am_aload_n (n := 73) d_SquareReader_readTune_72 rfl rfl ?_
        refine am_callV (kc := 0) (ks := 0) (As := []) (n := 76) d_SquareReader_readTune_73 rfl ce_Tokens_takeSemicolon lk_SquareReader_87 in_Tokens_takeSemicolon rfl rfl hp1 rfl rfl (Nat.le_of_ble_eq_true rfl) (Or.inl rfl) (cm_Tokens_takeSemicolon (d := d - 1) hw (by omega) hp1 h) (by omega) ?_
        rintro _ _ ⟨r3, I5, rfl, rfl, h⟩
        show am_Wp (d, "UnseenRing$SquareReader", b_SquareReader_readTune, 5, false) 0 0 76 [some (.ref q), some (.ref p1), some (.ref p2), some (.long r1), none] [.int (am_b r3)] (I5, L1, R, am_SH) (po_SquareReader_readTune R Q)
        exact am_iret d_SquareReader_readTune_76 ⟨r3, I5, L1, rfl, rfl, h⟩
      · have h := h.2 c3
        refine am_aload_n (n := 43) d_SquareReader_readTune_42 rfl rfl ?_
        refine am_iconst (n := 44) d_SquareReader_readTune_43 ci_3 rfl ?_
        refine am_callV (kc := 0) (ks := 0) (As := [.int 3]) (n := 47) d_SquareReader_readTune_44 rfl ce_Tokens_refuse lk_SquareReader_61 in_Tokens_refuse rfl rfl hp1 rfl rfl (Nat.le_of_ble_eq_true rfl) (Or.inl rfl) (cm_Tokens_refuse (d := d - 1) hw (by omega) hp1 h) (by omega) ?_
        rintro _ _ ⟨r4, I6, rfl, rfl, h⟩
        show am_Wp (d, "UnseenRing$SquareReader", b_SquareReader_readTune, 5, false) 0 0 47 [some (.ref q), some (.ref p1), some (.ref p2), some (.long r1), none] [.int (am_b r4)] (I6, L, R, am_SH) (po_SquareReader_readTune R Q)
        exact am_iret d_SquareReader_readTune_47 ⟨r4, I6, L, rfl, rfl, h⟩
    · have h := h.1 (am_cmp_eq.mp c2)
      refine am_iconst (n := 32) d_SquareReader_readTune_31 ci_0 rfl ?_
      exact am_iret d_SquareReader_readTune_32 ⟨false, I2, L, rfl, rfl, h⟩
  · have h := h.2 c1
    refine am_aload_n (n := 10) d_SquareReader_readTune_9 rfl rfl ?_
    refine am_bipush (n := 12) d_SquareReader_readTune_10 cb_6 rfl ?_
    refine am_callV (kc := 0) (ks := 0) (As := [.int 6]) (n := 15) d_SquareReader_readTune_12 rfl ce_Tokens_refuse lk_SquareReader_61 in_Tokens_refuse rfl rfl hp1 rfl rfl (Nat.le_of_ble_eq_true rfl) (Or.inl rfl) (cm_Tokens_refuse (d := d - 1) hw (by omega) hp1 h) (by omega) ?_
    rintro _ _ ⟨r5, I7, rfl, rfl, h⟩
    show am_Wp (d, "UnseenRing$SquareReader", b_SquareReader_readTune, 5, false) 0 0 15 [some (.ref q), some (.ref p1), some (.ref p2), none, none] [.int (am_b r5)] (I7, L, R, am_SH) (po_SquareReader_readTune R Q)
    exact am_iret d_SquareReader_readTune_15 ⟨r5, I7, L, rfl, rfl, h⟩
abbrev po_SquareReader_readPart (R : am_TR) (Q : Bool → am_TI → am_TL → Prop) : Option Value → am_St → Prop := fun r σ' => ∃ (x : Bool) (I' : am_TI) (L' : am_TL), r = some (.int (am_b x)) ∧ σ' = (I', L', R, am_SH) ∧ Q x I' L'
def wp_SquareReader_readPart (I : am_TI) (L : am_TL) (R : am_TR) (q : Nat) (p1 : Nat) (p2 : Nat)  (Q : Bool → am_TI → am_TL → Prop) : Prop := (((I p1 9) = 0 → wp_SquareReader_readSize I L R q p1 p2 (fun (r1 : Bool) (I1 : am_TI) => Q r1 I1 L)) ∧ ((I p1 9) = 1 → wp_Tokens_refuse I L R p1 2 (fun (r2 : Bool) (I2 : am_TI) => Q r2 I2 L)) ∧ ((I p1 9) = 2 → wp_SquareReader_readOdds I L R q p1 p2 (fun (r3 : Bool) (I3 : am_TI) => Q r3 I3 L)) ∧ ((I p1 9) = 3 → wp_SquareReader_readOrgan I L R q p1 p2 (fun (r4 : Bool) (I4 : am_TI) => Q r4 I4 L)) ∧ ((I p1 9) = 4 → wp_SquareReader_readTune I L R q p1 p2 (fun (r5 : Bool) (I5 : am_TI) (L1 : am_TL) => Q r5 I5 L1)) ∧ ((I p1 9) = 5 → wp_SquareReader_readHearer I L R q p1 p2 (fun (r6 : Bool) (I6 : am_TI) => Q r6 I6 L)) ∧ ((I p1 9) = 6 → wp_Tokens_refuse I L R p1 2 (fun (r7 : Bool) (I7 : am_TI) => Q r7 I7 L)) ∧ ((I p1 9) = 7 → wp_Tokens_refuse I L R p1 2 (fun (r8 : Bool) (I8 : am_TI) => Q r8 I8 L)) ∧ ((I p1 9) = 8 → wp_Tokens_refuse I L R p1 2 (fun (r9 : Bool) (I9 : am_TI) => Q r9 I9 L)) ∧ ((I p1 9) = 9 → wp_SquareReader_readDog I L R q p1 p2 (fun (r10 : Bool) (I10 : am_TI) => Q r10 I10 L)) ∧ (¬ (I p1 9) = 0 → ¬ (I p1 9) = 1 → ¬ (I p1 9) = 2 → ¬ (I p1 9) = 3 → ¬ (I p1 9) = 4 → ¬ (I p1 9) = 5 → ¬ (I p1 9) = 6 → ¬ (I p1 9) = 7 → ¬ (I p1 9) = 8 → ¬ (I p1 9) = 9 → wp_Tokens_refuse I L R p1 2 (fun (r11 : Bool) (I11 : am_TI) => Q r11 I11 L)))
set_option maxRecDepth 20000 in
theorem cm_SquareReader_readPart {d : Nat} {I : am_TI} {L : am_TL} {R : am_TR}  (hw : am_Wf R)   {q : Nat} {p1 : Nat} {p2 : Nat} {Q : Bool → am_TI → am_TL → Prop} (hd : 4 ≤ d) (hq : am_SH[q]? = some (.inl 8)) (hp1 : am_SH[p1]? = some (.inl 9)) (hp2 : am_SH[p2]? = some (.inl 7)) (h : wp_SquareReader_readPart I L R q p1 p2  Q) : am_Cm d 0 0 y_SquareReader_readPart b_SquareReader_readPart 3 (some .boolean) [.ref q, .ref p1, .ref p2] (I, L, R, am_SH) (po_SquareReader_readPart R Q) := by
  refine am_Cm_of (ini := false) (by decide +kernel) (fun z => by cases z) (by simp [Value.category]) (fun r σ' z => by obtain ⟨x, _, _, rfl, -⟩ := z; exact ⟨_, rfl, am_b_nar x⟩) ?_
  unfold wp_SquareReader_readPart at h
  show am_Wp (d, "UnseenRing$SquareReader", b_SquareReader_readPart, 3, false) 0 0 0 [some (.ref q), some (.ref p1), some (.ref p2)] [] (I, L, R, am_SH) (po_SquareReader_readPart R Q)
  refine am_aload_n (n := 1) d_SquareReader_readPart_0 rfl rfl ?_
  refine am_getI (n := 4) f_SquareReader_40 d_SquareReader_readPart_1 rfl rfl hp1 ?_
  by_cases c1 : (I p1 9) = 0
  · have h := h.1 c1
    refine am_tableIn (off := 56) (tgt := 60) d_SquareReader_readPart_4 (by rw [c1]; decide) (by rw [c1]; decide) (by rw [c1]; decide +kernel) rfl ?_
    refine am_aload_n (n := 61) d_SquareReader_readPart_60 rfl rfl ?_
    refine am_aload_n (n := 62) d_SquareReader_readPart_61 rfl rfl ?_
    refine am_aload_n (n := 63) d_SquareReader_readPart_62 rfl rfl ?_
    refine am_callV (kc := 0) (ks := 0) (As := [.ref p1, .ref p2]) (n := 66) d_SquareReader_readPart_63 rfl ce_SquareReader_readSize lk_SquareReader_43 in_SquareReader_readSize rfl rfl hq rfl rfl (Nat.le_of_ble_eq_true rfl) (Or.inl rfl) (cm_SquareReader_readSize (d := d - 1) hw (by omega) hq hp1 hp2 h) (by omega) ?_
    rintro _ _ ⟨r1, I1, rfl, rfl, h⟩
    show am_Wp (d, "UnseenRing$SquareReader", b_SquareReader_readPart, 3, false) 0 0 66 [some (.ref q), some (.ref p1), some (.ref p2)] [.int (am_b r1)] (I1, L, R, am_SH) (po_SquareReader_readPart R Q)
    exact am_iret d_SquareReader_readPart_66 ⟨r1, I1, L, rfl, rfl, h⟩
  by_cases c2 : (I p1 9) = 1
  · have h := h.2.1 c2
    refine am_tableIn (off := 98) (tgt := 102) d_SquareReader_readPart_4 (by rw [c2]; decide) (by rw [c2]; decide) (by rw [c2]; decide +kernel) rfl ?_
    refine am_aload_n (n := 103) d_SquareReader_readPart_102 rfl rfl ?_
    refine am_iconst (n := 104) d_SquareReader_readPart_103 ci_2 rfl ?_
    refine am_callV (kc := 0) (ks := 0) (As := [.int 2]) (n := 107) d_SquareReader_readPart_104 rfl ce_Tokens_refuse lk_SquareReader_61 in_Tokens_refuse rfl rfl hp1 rfl rfl (Nat.le_of_ble_eq_true rfl) (Or.inl rfl) (cm_Tokens_refuse (d := d - 1) hw (by omega) hp1 h) (by omega) ?_
    rintro _ _ ⟨r2, I2, rfl, rfl, h⟩
    show am_Wp (d, "UnseenRing$SquareReader", b_SquareReader_readPart, 3, false) 0 0 107 [some (.ref q), some (.ref p1), some (.ref p2)] [.int (am_b r2)] (I2, L, R, am_SH) (po_SquareReader_readPart R Q)
    exact am_iret d_SquareReader_readPart_107 ⟨r2, I2, L, rfl, rfl, h⟩
  by_cases c3 : (I p1 9) = 2
  · have h := h.2.2.1 c3
    refine am_tableIn (off := 63) (tgt := 67) d_SquareReader_readPart_4 (by rw [c3]; decide) (by rw [c3]; decide) (by rw [c3]; decide +kernel) rfl ?_
    refine am_aload_n (n := 68) d_SquareReader_readPart_67 rfl rfl ?_
    refine am_aload_n (n := 69) d_SquareReader_readPart_68 rfl rfl ?_
    refine am_aload_n (n := 70) d_SquareReader_readPart_69 rfl rfl ?_
    refine am_callV (kc := 0) (ks := 0) (As := [.ref p1, .ref p2]) (n := 73) d_SquareReader_readPart_70 rfl ce_SquareReader_readOdds lk_SquareReader_46 in_SquareReader_readOdds rfl rfl hq rfl rfl (Nat.le_of_ble_eq_true rfl) (Or.inl rfl) (cm_SquareReader_readOdds (d := d - 1) hw (by omega) hq hp1 hp2 h) (by omega) ?_
    rintro _ _ ⟨r3, I3, rfl, rfl, h⟩
    show am_Wp (d, "UnseenRing$SquareReader", b_SquareReader_readPart, 3, false) 0 0 73 [some (.ref q), some (.ref p1), some (.ref p2)] [.int (am_b r3)] (I3, L, R, am_SH) (po_SquareReader_readPart R Q)
    exact am_iret d_SquareReader_readPart_73 ⟨r3, I3, L, rfl, rfl, h⟩
  by_cases c4 : (I p1 9) = 3
  · have h := h.2.2.2.1 c4
    refine am_tableIn (off := 70) (tgt := 74) d_SquareReader_readPart_4 (by rw [c4]; decide) (by rw [c4]; decide) (by rw [c4]; decide +kernel) rfl ?_
    refine am_aload_n (n := 75) d_SquareReader_readPart_74 rfl rfl ?_
    refine am_aload_n (n := 76) d_SquareReader_readPart_75 rfl rfl ?_
    refine am_aload_n (n := 77) d_SquareReader_readPart_76 rfl rfl ?_
    refine am_callV (kc := 0) (ks := 0) (As := [.ref p1, .ref p2]) (n := 80) d_SquareReader_readPart_77 rfl ce_SquareReader_readOrgan lk_SquareReader_49 in_SquareReader_readOrgan rfl rfl hq rfl rfl (Nat.le_of_ble_eq_true rfl) (Or.inl rfl) (cm_SquareReader_readOrgan (d := d - 1) hw (by omega) hq hp1 hp2 h) (by omega) ?_
    rintro _ _ ⟨r4, I4, rfl, rfl, h⟩
    show am_Wp (d, "UnseenRing$SquareReader", b_SquareReader_readPart, 3, false) 0 0 80 [some (.ref q), some (.ref p1), some (.ref p2)] [.int (am_b r4)] (I4, L, R, am_SH) (po_SquareReader_readPart R Q)
    exact am_iret d_SquareReader_readPart_80 ⟨r4, I4, L, rfl, rfl, h⟩
  by_cases c5 : (I p1 9) = 4
  · have h := h.2.2.2.2.1 c5
    refine am_tableIn (off := 77) (tgt := 81) d_SquareReader_readPart_4 (by rw [c5]; decide) (by rw [c5]; decide) (by rw [c5]; decide +kernel) rfl ?_
    refine am_aload_n (n := 82) d_SquareReader_readPart_81 rfl rfl ?_
    refine am_aload_n (n := 83) d_SquareReader_readPart_82 rfl rfl ?_
    refine am_aload_n (n := 84) d_SquareReader_readPart_83 rfl rfl ?_
    refine am_callV (kc := 0) (ks := 0) (As := [.ref p1, .ref p2]) (n := 87) d_SquareReader_readPart_84 rfl ce_SquareReader_readTune lk_SquareReader_52 in_SquareReader_readTune rfl rfl hq rfl rfl (Nat.le_of_ble_eq_true rfl) (Or.inl rfl) (cm_SquareReader_readTune (d := d - 1) hw (by omega) hq hp1 hp2 h) (by omega) ?_
    rintro _ _ ⟨r5, I5, L1, rfl, rfl, h⟩
    show am_Wp (d, "UnseenRing$SquareReader", b_SquareReader_readPart, 3, false) 0 0 87 [some (.ref q), some (.ref p1), some (.ref p2)] [.int (am_b r5)] (I5, L1, R, am_SH) (po_SquareReader_readPart R Q)
    exact am_iret d_SquareReader_readPart_87 ⟨r5, I5, L1, rfl, rfl, h⟩
  by_cases c6 : (I p1 9) = 5
  · have h := h.2.2.2.2.2.1 c6
    refine am_tableIn (off := 84) (tgt := 88) d_SquareReader_readPart_4 (by rw [c6]; decide) (by rw [c6]; decide) (by rw [c6]; decide +kernel) rfl ?_
    refine am_aload_n (n := 89) d_SquareReader_readPart_88 rfl rfl ?_
    refine am_aload_n (n := 90) d_SquareReader_readPart_89 rfl rfl ?_
    refine am_aload_n (n := 91) d_SquareReader_readPart_90 rfl rfl ?_
    refine am_callV (kc := 0) (ks := 0) (As := [.ref p1, .ref p2]) (n := 94) d_SquareReader_readPart_91 rfl ce_SquareReader_readHearer lk_SquareReader_55 in_SquareReader_readHearer rfl rfl hq rfl rfl (Nat.le_of_ble_eq_true rfl) (Or.inl rfl) (cm_SquareReader_readHearer (d := d - 1) hw (by omega) hq hp1 hp2 h) (by omega) ?_
    rintro _ _ ⟨r6, I6, rfl, rfl, h⟩
    show am_Wp (d, "UnseenRing$SquareReader", b_SquareReader_readPart, 3, false) 0 0 94 [some (.ref q), some (.ref p1), some (.ref p2)] [.int (am_b r6)] (I6, L, R, am_SH) (po_SquareReader_readPart R Q)
    exact am_iret d_SquareReader_readPart_94 ⟨r6, I6, L, rfl, rfl, h⟩
  by_cases c7 : (I p1 9) = 6
  · have h := h.2.2.2.2.2.2.1 c7
    refine am_tableIn (off := 98) (tgt := 102) d_SquareReader_readPart_4 (by rw [c7]; decide) (by rw [c7]; decide) (by rw [c7]; decide +kernel) rfl ?_
    refine am_aload_n (n := 103) d_SquareReader_readPart_102 rfl rfl ?_
    refine am_iconst (n := 104) d_SquareReader_readPart_103 ci_2 rfl ?_
    refine am_callV (kc := 0) (ks := 0) (As := [.int 2]) (n := 107) d_SquareReader_readPart_104 rfl ce_Tokens_refuse lk_SquareReader_61 in_Tokens_refuse rfl rfl hp1 rfl rfl (Nat.le_of_ble_eq_true rfl) (Or.inl rfl) (cm_Tokens_refuse (d := d - 1) hw (by omega) hp1 h) (by omega) ?_
    rintro _ _ ⟨r7, I7, rfl, rfl, h⟩
    show am_Wp (d, "UnseenRing$SquareReader", b_SquareReader_readPart, 3, false) 0 0 107 [some (.ref q), some (.ref p1), some (.ref p2)] [.int (am_b r7)] (I7, L, R, am_SH) (po_SquareReader_readPart R Q)
    exact am_iret d_SquareReader_readPart_107 ⟨r7, I7, L, rfl, rfl, h⟩
  by_cases c8 : (I p1 9) = 7
  · have h := h.2.2.2.2.2.2.2.1 c8
    refine am_tableIn (off := 98) (tgt := 102) d_SquareReader_readPart_4 (by rw [c8]; decide) (by rw [c8]; decide) (by rw [c8]; decide +kernel) rfl ?_
    refine am_aload_n (n := 103) d_SquareReader_readPart_102 rfl rfl ?_
    refine am_iconst (n := 104) d_SquareReader_readPart_103 ci_2 rfl ?_
    refine am_callV (kc := 0) (ks := 0) (As := [.int 2]) (n := 107) d_SquareReader_readPart_104 rfl ce_Tokens_refuse lk_SquareReader_61 in_Tokens_refuse rfl rfl hp1 rfl rfl (Nat.le_of_ble_eq_true rfl) (Or.inl rfl) (cm_Tokens_refuse (d := d - 1) hw (by omega) hp1 h) (by omega) ?_
    rintro _ _ ⟨r8, I8, rfl, rfl, h⟩
    show am_Wp (d, "UnseenRing$SquareReader", b_SquareReader_readPart, 3, false) 0 0 107 [some (.ref q), some (.ref p1), some (.ref p2)] [.int (am_b r8)] (I8, L, R, am_SH) (po_SquareReader_readPart R Q)
    exact am_iret d_SquareReader_readPart_107 ⟨r8, I8, L, rfl, rfl, h⟩
  by_cases c9 : (I p1 9) = 8
  · have h := h.2.2.2.2.2.2.2.2.1 c9
    refine am_tableIn (off := 98) (tgt := 102) d_SquareReader_readPart_4 (by rw [c9]; decide) (by rw [c9]; decide) (by rw [c9]; decide +kernel) rfl ?_
    refine am_aload_n (n := 103) d_SquareReader_readPart_102 rfl rfl ?_
    refine am_iconst (n := 104) d_SquareReader_readPart_103 ci_2 rfl ?_
    refine am_callV (kc := 0) (ks := 0) (As := [.int 2]) (n := 107) d_SquareReader_readPart_104 rfl ce_Tokens_refuse lk_SquareReader_61 in_Tokens_refuse rfl rfl hp1 rfl rfl (Nat.le_of_ble_eq_true rfl) (Or.inl rfl) (cm_Tokens_refuse (d := d - 1) hw (by omega) hp1 h) (by omega) ?_
    rintro _ _ ⟨r9, I9, rfl, rfl, h⟩
    show am_Wp (d, "UnseenRing$SquareReader", b_SquareReader_readPart, 3, false) 0 0 107 [some (.ref q), some (.ref p1), some (.ref p2)] [.int (am_b r9)] (I9, L, R, am_SH) (po_SquareReader_readPart R Q)
    exact am_iret d_SquareReader_readPart_107 ⟨r9, I9, L, rfl, rfl, h⟩
  by_cases c10 : (I p1 9) = 9
  · have h := h.2.2.2.2.2.2.2.2.2.1 c10
    refine am_tableIn (off := 91) (tgt := 95) d_SquareReader_readPart_4 (by rw [c10]; decide) (by rw [c10]; decide) (by rw [c10]; decide +kernel) rfl ?_
    refine am_aload_n (n := 96) d_SquareReader_readPart_95 rfl rfl ?_
    refine am_aload_n (n := 97) d_SquareReader_readPart_96 rfl rfl ?_
    refine am_aload_n (n := 98) d_SquareReader_readPart_97 rfl rfl ?_
    refine am_callV (kc := 0) (ks := 0) (As := [.ref p1, .ref p2]) (n := 101) d_SquareReader_readPart_98 rfl ce_SquareReader_readDog lk_SquareReader_58 in_SquareReader_readDog rfl rfl hq rfl rfl (Nat.le_of_ble_eq_true rfl) (Or.inl rfl) (cm_SquareReader_readDog (d := d - 1) hw (by omega) hq hp1 hp2 h) (by omega) ?_
    rintro _ _ ⟨r10, I10, rfl, rfl, h⟩
    show am_Wp (d, "UnseenRing$SquareReader", b_SquareReader_readPart, 3, false) 0 0 101 [some (.ref q), some (.ref p1), some (.ref p2)] [.int (am_b r10)] (I10, L, R, am_SH) (po_SquareReader_readPart R Q)
    exact am_iret d_SquareReader_readPart_101 ⟨r10, I10, L, rfl, rfl, h⟩
  have h := h.2.2.2.2.2.2.2.2.2.2 c1 c2 c3 c4 c5 c6 c7 c8 c9 c10
  have z0 := lv_neT c1 (a := 0) (by decide)
  have z1 := lv_neT c2 (a := 1) (by decide)
  have z2 := lv_neT c3 (a := 2) (by decide)
  have z3 := lv_neT c4 (a := 3) (by decide)
  have z4 := lv_neT c5 (a := 4) (by decide)
  have z5 := lv_neT c6 (a := 5) (by decide)
  have z6 := lv_neT c7 (a := 6) (by decide)
  have z7 := lv_neT c8 (a := 7) (by decide)
  have z8 := lv_neT c9 (a := 8) (by decide)
  have z9 := lv_neT c10 (a := 9) (by decide)
  refine am_tableOut (tgt := 102) d_SquareReader_readPart_4 (by omega) rfl ?_
  refine am_aload_n (n := 103) d_SquareReader_readPart_102 rfl rfl ?_
  refine am_iconst (n := 104) d_SquareReader_readPart_103 ci_2 rfl ?_
  refine am_callV (kc := 0) (ks := 0) (As := [.int 2]) (n := 107) d_SquareReader_readPart_104 rfl ce_Tokens_refuse lk_SquareReader_61 in_Tokens_refuse rfl rfl hp1 rfl rfl (Nat.le_of_ble_eq_true rfl) (Or.inl rfl) (cm_Tokens_refuse (d := d - 1) hw (by omega) hp1 h) (by omega) ?_
  rintro _ _ ⟨r11, I11, rfl, rfl, h⟩
  show am_Wp (d, "UnseenRing$SquareReader", b_SquareReader_readPart, 3, false) 0 0 107 [some (.ref q), some (.ref p1), some (.ref p2)] [.int (am_b r11)] (I11, L, R, am_SH) (po_SquareReader_readPart R Q)
  exact am_iret d_SquareReader_readPart_107 ⟨r11, I11, L, rfl, rfl, h⟩
abbrev po_Days_clear (L : am_TL) (R : am_TR) (Q : am_TI → Prop) : Option Value → am_St → Prop := fun r σ' => ∃ (I' : am_TI), r = none ∧ σ' = (I', L, R, am_SH) ∧ Q I'
def wp_Days_clear (I : am_TI) (L : am_TL) (R : am_TR) (q : Nat)  (Q : am_TI → Prop) : Prop := (∀ I1, I1 = am_u2 I q 5 0 → (∀ I2, I2 = am_u2 I1 q 6 0 → (∀ I3, I3 = am_u2 I2 q 7 0 → Q I3)))
set_option maxRecDepth 20000 in
theorem cm_Days_clear {d : Nat} {I : am_TI} {L : am_TL} {R : am_TR}  (hw : am_Wf R)   {q : Nat} {Q : am_TI → Prop} (hd : 0 ≤ d) (hq : am_SH[q]? = some (.inl 1)) (h : wp_Days_clear I L R q  Q) : am_Cm d 0 0 y_Days_clear b_Days_clear 1 (none) [.ref q] (I, L, R, am_SH) (po_Days_clear L R Q) := by
  refine am_Cm_of (ini := false) (by decide +kernel) (fun z => by cases z) (by simp [Value.category]) (fun r σ' z => by obtain ⟨_, rfl, -⟩ := z; rfl) ?_
  unfold wp_Days_clear at h
  show am_Wp (d, "UnseenRing$Days", b_Days_clear, 1, false) 0 0 0 [some (.ref q)] [] (I, L, R, am_SH) (po_Days_clear L R Q)
  refine am_aload_n (n := 1) d_Days_clear_0 rfl rfl ?_
  refine am_iconst (n := 2) d_Days_clear_1 ci_0 rfl ?_
  refine am_putZ (n := 5) f_Days_25 d_Days_clear_2 rfl ⟨_, rfl, Or.inl rfl⟩ rfl rfl hq (Or.inl rfl) ?_
  generalize eI1 : am_u2 I q 5 0 = I1
  have h := h I1 eI1.symm
  refine am_aload_n (n := 6) d_Days_clear_5 rfl rfl ?_
  refine am_iconst (n := 7) d_Days_clear_6 ci_0 rfl ?_
  refine am_putI (n := 10) f_Days_29 d_Days_clear_7 rfl ⟨_, rfl, Or.inl rfl⟩ rfl rfl hq ?_
  generalize eI2 : am_u2 I1 q 6 0 = I2
  have h := h I2 eI2.symm
  refine am_aload_n (n := 11) d_Days_clear_10 rfl rfl ?_
  refine am_iconst (n := 12) d_Days_clear_11 ci_0 rfl ?_
  refine am_putI (n := 15) f_Days_33 d_Days_clear_12 rfl ⟨_, rfl, Or.inl rfl⟩ rfl rfl hq ?_
  generalize eI3 : am_u2 I2 q 7 0 = I3
  have h := h I3 eI3.symm
  exact am_vret d_Days_clear_15 ⟨I3, rfl, rfl, h⟩
abbrev po_Square_reset (L : am_TL) (R : am_TR) (Q : am_TI → Prop) : Option Value → am_St → Prop := fun r σ' => ∃ (I' : am_TI), r = none ∧ σ' = (I', L, R, am_SH) ∧ Q I'
def wp_Square_reset (I : am_TI) (L : am_TL) (R : am_TR) (q : Nat)  (Q : am_TI → Prop) : Prop := (∀ I1, I1 = am_u2 I q 6 4 → (∀ I2, I2 = am_u2 I1 q 7 4 → (∀ I3, I3 = am_u2 I2 q 8 8 → (∀ I4, I4 = am_u2 I3 q 9 0 → (∀ I5, I5 = am_u2 I4 q 10 0 → (∀ I6, I6 = am_u2 I5 q 11 0 → (∀ I7, I7 = am_u2 I6 q 12 0 → (∀ I8, I8 = am_u2 I7 q 13 0 → (∀ I9, I9 = am_u2 I8 q 14 0 → (∀ I10, I10 = am_u2 I9 q 15 0 → wp_Days_clear I10 L R (am_rd R q 5) (fun (I11 : am_TI) => Q I11)))))))))))
set_option maxRecDepth 20000 in
theorem cm_Square_reset {d : Nat} {I : am_TI} {L : am_TL} {R : am_TR}  (hw : am_Wf R)   {q : Nat} {Q : am_TI → Prop} (hd : 1 ≤ d) (hq : am_SH[q]? = some (.inl 7)) (h : wp_Square_reset I L R q  Q) : am_Cm d 0 0 y_Square_reset b_Square_reset 1 (none) [.ref q] (I, L, R, am_SH) (po_Square_reset L R Q) := by
  refine am_Cm_of (ini := false) (by decide +kernel) (fun z => by cases z) (by simp [Value.category]) (fun r σ' z => by obtain ⟨_, rfl, -⟩ := z; rfl) ?_
  unfold wp_Square_reset at h
  show am_Wp (d, "UnseenRing$Square", b_Square_reset, 1, false) 0 0 0 [some (.ref q)] [] (I, L, R, am_SH) (po_Square_reset L R Q)
  refine am_aload_n (n := 1) d_Square_reset_0 rfl rfl ?_
  refine am_iconst (n := 2) d_Square_reset_1 ci_4 rfl ?_
  refine am_putI (n := 5) f_Square_35 d_Square_reset_2 rfl ⟨_, rfl, Or.inl rfl⟩ rfl rfl hq ?_
  generalize eI1 : am_u2 I q 6 4 = I1
  have h := h I1 eI1.symm
  refine am_aload_n (n := 6) d_Square_reset_5 rfl rfl ?_
  refine am_iconst (n := 7) d_Square_reset_6 ci_4 rfl ?_
  refine am_putI (n := 10) f_Square_39 d_Square_reset_7 rfl ⟨_, rfl, Or.inl rfl⟩ rfl rfl hq ?_
  generalize eI2 : am_u2 I1 q 7 4 = I2
  have h := h I2 eI2.symm
  refine am_aload_n (n := 11) d_Square_reset_10 rfl rfl ?_
  refine am_bipush (n := 13) d_Square_reset_11 cb_8 rfl ?_
  refine am_putI (n := 16) f_Square_42 d_Square_reset_13 rfl ⟨_, rfl, Or.inl rfl⟩ rfl rfl hq ?_
  generalize eI3 : am_u2 I2 q 8 8 = I3
  have h := h I3 eI3.symm
  refine am_aload_n (n := 17) d_Square_reset_16 rfl rfl ?_
  refine am_iconst (n := 18) d_Square_reset_17 ci_0 rfl ?_
  refine am_putI (n := 21) f_Square_45 d_Square_reset_18 rfl ⟨_, rfl, Or.inl rfl⟩ rfl rfl hq ?_
  generalize eI4 : am_u2 I3 q 9 0 = I4
  have h := h I4 eI4.symm
  refine am_aload_n (n := 22) d_Square_reset_21 rfl rfl ?_
  refine am_iconst (n := 23) d_Square_reset_22 ci_0 rfl ?_
  refine am_putI (n := 26) f_Square_48 d_Square_reset_23 rfl ⟨_, rfl, Or.inl rfl⟩ rfl rfl hq ?_
  generalize eI5 : am_u2 I4 q 10 0 = I5
  have h := h I5 eI5.symm
  refine am_aload_n (n := 27) d_Square_reset_26 rfl rfl ?_
  refine am_iconst (n := 28) d_Square_reset_27 ci_0 rfl ?_
  refine am_putI (n := 31) f_Square_51 d_Square_reset_28 rfl ⟨_, rfl, Or.inl rfl⟩ rfl rfl hq ?_
  generalize eI6 : am_u2 I5 q 11 0 = I6
  have h := h I6 eI6.symm
  refine am_aload_n (n := 32) d_Square_reset_31 rfl rfl ?_
  refine am_iconst (n := 33) d_Square_reset_32 ci_0 rfl ?_
  refine am_putI (n := 36) f_Square_54 d_Square_reset_33 rfl ⟨_, rfl, Or.inl rfl⟩ rfl rfl hq ?_
  generalize eI7 : am_u2 I6 q 12 0 = I7
  have h := h I7 eI7.symm
  refine am_aload_n (n := 37) d_Square_reset_36 rfl rfl ?_
  refine am_iconst (n := 38) d_Square_reset_37 ci_0 rfl ?_
  refine am_putI (n := 41) f_Square_57 d_Square_reset_38 rfl ⟨_, rfl, Or.inl rfl⟩ rfl rfl hq ?_
  generalize eI8 : am_u2 I7 q 13 0 = I8
  have h := h I8 eI8.symm
  refine am_aload_n (n := 42) d_Square_reset_41 rfl rfl ?_
  refine am_iconst (n := 43) d_Square_reset_42 ci_0 rfl ?_
  refine am_putI (n := 46) f_Square_60 d_Square_reset_43 rfl ⟨_, rfl, Or.inl rfl⟩ rfl rfl hq ?_
  generalize eI9 : am_u2 I8 q 14 0 = I9
  have h := h I9 eI9.symm
  refine am_aload_n (n := 47) d_Square_reset_46 rfl rfl ?_
  refine am_iconst (n := 48) d_Square_reset_47 ci_0 rfl ?_
  refine am_putI (n := 51) f_Square_63 d_Square_reset_48 rfl ⟨_, rfl, Or.inl rfl⟩ rfl rfl hq ?_
  generalize eI10 : am_u2 I9 q 15 0 = I10
  have h := h I10 eI10.symm
  refine am_aload_n (n := 52) d_Square_reset_51 rfl rfl ?_
  refine am_getR (x := (am_rd R q 5)) (n := 55) f_Square_31 d_Square_reset_52 rfl rfl hq (hw.rd (k := 5) hq rfl).1 ?_
  refine am_callV (kc := 0) (ks := 0) (As := []) (n := 58) d_Square_reset_55 rfl ce_Days_clear lk_Square_66 in_Days_clear rfl rfl (hw.rd (k := 5) hq rfl).2 rfl rfl (Nat.le_of_ble_eq_true rfl) (Or.inl rfl) (cm_Days_clear (d := d - 1) hw (by omega) (hw.rd (k := 5) hq rfl).2 h) (by omega) ?_
  rintro _ _ ⟨I11, rfl, rfl, h⟩
  show am_Wp (d, "UnseenRing$Square", b_Square_reset, 1, false) 0 0 58 [some (.ref q)] [] (I11, L, R, am_SH) (po_Square_reset L R Q)
  exact am_vret d_Square_reset_58 ⟨I11, rfl, rfl, h⟩
abbrev po_Tokens_add (R : am_TR) (Q : am_TI → am_TL → Prop) : Option Value → am_St → Prop := fun r σ' => ∃ (I' : am_TI) (L' : am_TL), r = none ∧ σ' = (I', L', R, am_SH) ∧ Q I' L'
def wp_Tokens_add (I : am_TI) (L : am_TL) (R : am_TR) (q : Nat) (p1 : Int32) (p2 : Int32) (p3 : Int64)  (Q : am_TI → am_TL → Prop) : Prop := ((900 < (I q 5) → Q I L) ∧ (¬ 900 < (I q 5) → (vp_in (I q 5) 901 ∧ (∀ I1, I1 = am_u2 I (q + 3) (Int32.toNatClampNeg (I q 5)) p1 → (vp_in (I1 q 5) 901 ∧ (∀ I2, I2 = am_u2 I1 (q + 4) (Int32.toNatClampNeg (I1 q 5)) p2 → (vp_in (I2 q 5) 901 ∧ (∀ L1, L1 = am_u2 L (q + 5) (Int32.toNatClampNeg (I2 q 5)) p3 → (∀ I3, I3 = am_u2 I2 q 5 ((I2 q 5) + 1) → Q I3 L1)))))))))
set_option maxRecDepth 20000 in
theorem cm_Tokens_add {d : Nat} {I : am_TI} {L : am_TL} {R : am_TR}  (hw : am_Wf R)   {q : Nat} {p1 : Int32} {p2 : Int32} {p3 : Int64} {Q : am_TI → am_TL → Prop} (hd : 0 ≤ d) (hq : am_SH[q]? = some (.inl 9)) (h : wp_Tokens_add I L R q p1 p2 p3  Q) : am_Cm d 0 0 y_Tokens_add b_Tokens_add 5 (none) [.ref q, .int p1, .int p2, .long p3] (I, L, R, am_SH) (po_Tokens_add R Q) := by
  refine am_Cm_of (ini := false) (by decide +kernel) (fun z => by cases z) (by simp [Value.category]) (fun r σ' z => by obtain ⟨_, _, rfl, -⟩ := z; rfl) ?_
  unfold wp_Tokens_add at h
  show am_Wp (d, "UnseenRing$Tokens", b_Tokens_add, 5, false) 0 0 0 [some (.ref q), some (.int p1), some (.int p2), some (.long p3), none] [] (I, L, R, am_SH) (po_Tokens_add R Q)
  refine am_aload_n (n := 1) d_Tokens_add_0 rfl rfl ?_
  refine am_getI (n := 4) f_Tokens_29 d_Tokens_add_1 rfl rfl hq ?_
  refine am_sipush (n := 7) d_Tokens_add_4 cs_900 rfl ?_
  refine am_icmp_gt (tgt := 50) (n := 10) d_Tokens_add_7 rfl rfl (fun c1 => ?_) (fun c1 => ?_)
  · have h := h.1 c1
    exact am_vret d_Tokens_add_50 ⟨I, L, rfl, rfl, h⟩
  · have h := h.2 c1
    refine am_aload_n (n := 11) d_Tokens_add_10 rfl rfl ?_
    refine am_getR (x := (q + 3)) (n := 14) f_Tokens_19 d_Tokens_add_11 rfl rfl hq (hw.1 q 9 2 3 hq rfl) ?_
    refine am_aload_n (n := 15) d_Tokens_add_14 rfl rfl ?_
    refine am_getI (n := 18) f_Tokens_29 d_Tokens_add_15 rfl rfl hq ?_
    refine am_iload_n (n := 19) d_Tokens_add_18 rfl rfl ?_
    obtain ⟨g1, h⟩ := h
    refine am_iast2 (n := 20) d_Tokens_add_19 rfl (am_sho (k := 2) (o := 3) hq (by decide) (by decide) (by decide) rfl) g1 rfl ?_
    generalize eI1 : am_u2 I (q + 3) (Int32.toNatClampNeg (I q 5)) p1 = I1
    have h := h I1 eI1.symm
    refine am_aload_n (n := 21) d_Tokens_add_20 rfl rfl ?_
    refine am_getR (x := (q + 4)) (n := 24) f_Tokens_23 d_Tokens_add_21 rfl rfl hq (hw.1 q 9 3 4 hq rfl) ?_
    refine am_aload_n (n := 25) d_Tokens_add_24 rfl rfl ?_
    refine am_getI (n := 28) f_Tokens_29 d_Tokens_add_25 rfl rfl hq ?_
    refine am_iload_n (n := 29) d_Tokens_add_28 rfl rfl ?_
    obtain ⟨g2, h⟩ := h
    refine am_iast2 (n := 30) d_Tokens_add_29 rfl (am_sho (k := 3) (o := 4) hq (by decide) (by decide) (by decide) rfl) g2 rfl ?_
    generalize eI2 : am_u2 I1 (q + 4) (Int32.toNatClampNeg (I1 q 5)) p2 = I2
    have h := h I2 eI2.symm
    refine am_aload_n (n := 31) d_Tokens_add_30 rfl rfl ?_
    refine am_getR (x := (q + 5)) (n := 34) f_Tokens_26 d_Tokens_add_31 rfl rfl hq (hw.1 q 9 4 5 hq rfl) ?_
    refine am_aload_n (n := 35) d_Tokens_add_34 rfl rfl ?_
    refine am_getI (n := 38) f_Tokens_29 d_Tokens_add_35 rfl rfl hq ?_
    refine am_lload_n (n := 39) d_Tokens_add_38 rfl rfl ?_
    obtain ⟨g3, h⟩ := h
    refine am_last2 (n := 40) d_Tokens_add_39 rfl (am_sho (k := 4) (o := 5) hq (by decide) (by decide) (by decide) rfl) g3 rfl ?_
    generalize eL1 : am_u2 L (q + 5) (Int32.toNatClampNeg (I2 q 5)) p3 = L1
    have h := h L1 eL1.symm
    refine am_aload_n (n := 41) d_Tokens_add_40 rfl rfl ?_
    refine am_dup (n := 42) d_Tokens_add_41 rfl rfl ?_
    refine am_getI (n := 45) f_Tokens_29 d_Tokens_add_42 rfl rfl hq ?_
    refine am_iconst (n := 46) d_Tokens_add_45 ci_1 rfl ?_
    refine am_iadd (n := 47) d_Tokens_add_46 rfl ?_
    refine am_putI (n := 50) f_Tokens_29 d_Tokens_add_47 rfl ⟨_, rfl, Or.inl rfl⟩ rfl rfl hq ?_
    generalize eI3 : am_u2 I2 q 5 ((I2 q 5) + 1) = I3
    have h := h I3 eI3.symm
    exact am_vret d_Tokens_add_50 ⟨I3, L1, rfl, rfl, h⟩
abbrev po_Tokens_isDigit (I : am_TI) (L : am_TL) (R : am_TR) (Q : Bool → Prop) : Option Value → am_St → Prop := fun r σ' => ∃ (x : Bool), r = some (.int (am_b x)) ∧ σ' = (I, L, R, am_SH) ∧ Q x
def wp_Tokens_isDigit (I : am_TI) (L : am_TL) (R : am_TR) (p0 : Int32)  (Q : Bool → Prop) : Prop := ((p0 < 48 → Q false) ∧ (¬ p0 < 48 → ((57 < p0 → Q false) ∧ (¬ 57 < p0 → Q true))))
set_option maxRecDepth 20000 in
theorem cm_Tokens_isDigit {d : Nat} {I : am_TI} {L : am_TL} {R : am_TR}  (hw : am_Wf R)   {p0 : Int32} {Q : Bool → Prop} (hd : 0 ≤ d)  (h : wp_Tokens_isDigit I L R p0  Q) : am_Cm d 0 0 y_Tokens_isDigit b_Tokens_isDigit 1 (some .boolean) [.int p0] (I, L, R, am_SH) (po_Tokens_isDigit I L R Q) := by
  refine am_Cm_of (ini := false) (by decide +kernel) (fun z => by cases z) (by simp [Value.category]) (fun r σ' z => by obtain ⟨x, rfl, -⟩ := z; exact ⟨_, rfl, am_b_nar x⟩) ?_
  unfold wp_Tokens_isDigit at h
  show am_Wp (d, "UnseenRing$Tokens", b_Tokens_isDigit, 1, false) 0 0 0 [some (.int p0)] [] (I, L, R, am_SH) (po_Tokens_isDigit I L R Q)
  refine am_iload_n (n := 1) d_Tokens_isDigit_0 rfl rfl ?_
  refine am_bipush (n := 3) d_Tokens_isDigit_1 cb_48 rfl ?_
  refine am_icmp_lt (tgt := 16) (n := 6) d_Tokens_isDigit_3 rfl rfl (fun c1 => ?_) (fun c1 => ?_)
  · have h := h.1 c1
    refine am_iconst (n := 17) d_Tokens_isDigit_16 ci_0 rfl ?_
    exact am_iret d_Tokens_isDigit_17 ⟨false, rfl, rfl, h⟩
  · have h := h.2 c1
    refine am_iload_n (n := 7) d_Tokens_isDigit_6 rfl rfl ?_
    refine am_bipush (n := 9) d_Tokens_isDigit_7 cb_57 rfl ?_
    refine am_icmp_gt (tgt := 16) (n := 12) d_Tokens_isDigit_9 rfl rfl (fun c2 => ?_) (fun c2 => ?_)
    · have h := h.1 c2
      refine am_iconst (n := 17) d_Tokens_isDigit_16 ci_0 rfl ?_
      exact am_iret d_Tokens_isDigit_17 ⟨false, rfl, rfl, h⟩
    · have h := h.2 c2
      refine am_iconst (n := 13) d_Tokens_isDigit_12 ci_1 rfl ?_
      refine am_goto (tgt := 17) d_Tokens_isDigit_13 rfl ?_
      exact am_iret d_Tokens_isDigit_17 ⟨true, rfl, rfl, h⟩
abbrev po_Tokens_isLetter (I : am_TI) (L : am_TL) (R : am_TR) (Q : Bool → Prop) : Option Value → am_St → Prop := fun r σ' => ∃ (x : Bool), r = some (.int (am_b x)) ∧ σ' = (I, L, R, am_SH) ∧ Q x
def wp_Tokens_isLetter (I : am_TI) (L : am_TL) (R : am_TR) (p0 : Int32)  (Q : Bool → Prop) : Prop := ((p0 < 97 → Q false) ∧ (¬ p0 < 97 → ((122 < p0 → Q false) ∧ (¬ 122 < p0 → Q true))))
set_option maxRecDepth 20000 in
theorem cm_Tokens_isLetter {d : Nat} {I : am_TI} {L : am_TL} {R : am_TR}  (hw : am_Wf R)   {p0 : Int32} {Q : Bool → Prop} (hd : 0 ≤ d)  (h : wp_Tokens_isLetter I L R p0  Q) : am_Cm d 0 0 y_Tokens_isLetter b_Tokens_isLetter 1 (some .boolean) [.int p0] (I, L, R, am_SH) (po_Tokens_isLetter I L R Q) := by
  refine am_Cm_of (ini := false) (by decide +kernel) (fun z => by cases z) (by simp [Value.category]) (fun r σ' z => by obtain ⟨x, rfl, -⟩ := z; exact ⟨_, rfl, am_b_nar x⟩) ?_
  unfold wp_Tokens_isLetter at h
  show am_Wp (d, "UnseenRing$Tokens", b_Tokens_isLetter, 1, false) 0 0 0 [some (.int p0)] [] (I, L, R, am_SH) (po_Tokens_isLetter I L R Q)
  refine am_iload_n (n := 1) d_Tokens_isLetter_0 rfl rfl ?_
  refine am_bipush (n := 3) d_Tokens_isLetter_1 cb_97 rfl ?_
  refine am_icmp_lt (tgt := 16) (n := 6) d_Tokens_isLetter_3 rfl rfl (fun c1 => ?_) (fun c1 => ?_)
  · have h := h.1 c1
    refine am_iconst (n := 17) d_Tokens_isLetter_16 ci_0 rfl ?_
    exact am_iret d_Tokens_isLetter_17 ⟨false, rfl, rfl, h⟩
  · have h := h.2 c1
    refine am_iload_n (n := 7) d_Tokens_isLetter_6 rfl rfl ?_
    refine am_bipush (n := 9) d_Tokens_isLetter_7 cb_122 rfl ?_
    refine am_icmp_gt (tgt := 16) (n := 12) d_Tokens_isLetter_9 rfl rfl (fun c2 => ?_) (fun c2 => ?_)
    · have h := h.1 c2
      refine am_iconst (n := 17) d_Tokens_isLetter_16 ci_0 rfl ?_
      exact am_iret d_Tokens_isLetter_17 ⟨false, rfl, rfl, h⟩
    · have h := h.2 c2
      refine am_iconst (n := 13) d_Tokens_isLetter_12 ci_1 rfl ?_
      refine am_goto (tgt := 17) d_Tokens_isLetter_13 rfl ?_
      exact am_iret d_Tokens_isLetter_17 ⟨true, rfl, rfl, h⟩
abbrev po_Tokens_scanNumber (R : am_TR) (Q : Int32 → am_TI → am_TL → Prop) : Option Value → am_St → Prop := fun r σ' => ∃ (x : Int32) (I' : am_TI) (L' : am_TL), r = some (.int x) ∧ σ' = (I', L', R, am_SH) ∧ Q x I' L'
def wb_Tokens_scanNumber_78 (R : am_TR) (q : Nat) (p1 : Int32) (p2 : Int32) (Q : Int32 → am_TI → am_TL → Prop)  (I : am_TI) (L : am_TL) (v3 : Int32) (v4 : Int32) (s0 : Nat) (s1 : Int32) : Prop := wp_Tokens_add I L R s0 s1 p1 (Int32.toInt64 v3) (fun (I1 : am_TI) (L1 : am_TL) => Q v4 I1 L1)
set_option maxRecDepth 20000 in
theorem tb_Tokens_scanNumber_78 {d : Nat}  {R : am_TR} {q : Nat} {p1 : Int32} {p2 : Int32} {Q : Int32 → am_TI → am_TL → Prop}  (hw : am_Wf R) (hq : am_SH[q]? = some (.inl 9)) (hd : 1 ≤ d) (I : am_TI) (L : am_TL) (v3 : Int32) (v4 : Int32) (s0 : Nat) (s1 : Int32) (hs0 : am_SH[s0]? = some (.inl 9)) (h : wb_Tokens_scanNumber_78 R q p1 p2 Q  I L v3 v4 s0 s1) : am_Wp (d, "UnseenRing$Tokens", b_Tokens_scanNumber, 6, false) 0 0 78 [some (.ref q), some (.int p1), some (.int p2), some (.int v3), some (.int v4), none] [.int s1, .ref s0] (I, L, R, am_SH) (po_Tokens_scanNumber R Q) := by
  unfold wb_Tokens_scanNumber_78 at h
  refine am_iload_n (n := 79) d_Tokens_scanNumber_78 rfl rfl ?_
  refine am_iload_n (n := 80) d_Tokens_scanNumber_79 rfl rfl ?_
  refine am_i2l (n := 81) d_Tokens_scanNumber_80 rfl ?_
  refine am_callV (kc := 0) (ks := 0) (As := [.int s1, .int p1, .long (Int32.toInt64 v3)]) (n := 84) d_Tokens_scanNumber_81 rfl ce_Tokens_add lk_Tokens_105 in_Tokens_add rfl rfl hs0 rfl rfl (Nat.le_of_ble_eq_true rfl) (Or.inl rfl) (cm_Tokens_add (d := d - 1) hw (by omega) hs0 h) (by omega) ?_
  rintro _ _ ⟨I1, L1, rfl, rfl, h⟩
  show am_Wp (d, "UnseenRing$Tokens", b_Tokens_scanNumber, 6, false) 0 0 84 [some (.ref q), some (.int p1), some (.int p2), some (.int v3), some (.int v4), none] [] (I1, L1, R, am_SH) (po_Tokens_scanNumber R Q)
  refine am_iload (n := 86) d_Tokens_scanNumber_84 rfl rfl ?_
  exact am_iret d_Tokens_scanNumber_86 ⟨v4, I1, L1, rfl, rfl, h⟩
def wb_Tokens_scanNumber_63 (R : am_TR) (q : Nat) (p1 : Int32) (p2 : Int32) (Q : Int32 → am_TI → am_TL → Prop)  (I : am_TI) (L : am_TL) (v3 : Int32) (v4 : Int32) : Prop := ((4 < (v4 - p1) → wb_Tokens_scanNumber_78 R q p1 p2 Q I L v3 v4 q 6) ∧ (¬ 4 < (v4 - p1) → wb_Tokens_scanNumber_78 R q p1 p2 Q I L v3 v4 q 4))
set_option maxRecDepth 20000 in
theorem tb_Tokens_scanNumber_63 {d : Nat}  {R : am_TR} {q : Nat} {p1 : Int32} {p2 : Int32} {Q : Int32 → am_TI → am_TL → Prop}  (hw : am_Wf R) (hq : am_SH[q]? = some (.inl 9)) (hd : 1 ≤ d) (I : am_TI) (L : am_TL) (v3 : Int32) (v4 : Int32) (h : wb_Tokens_scanNumber_63 R q p1 p2 Q  I L v3 v4) : am_Wp (d, "UnseenRing$Tokens", b_Tokens_scanNumber, 6, false) 0 0 63 [some (.ref q), some (.int p1), some (.int p2), some (.int v3), some (.int v4), none] [] (I, L, R, am_SH) (po_Tokens_scanNumber R Q) := by
  unfold wb_Tokens_scanNumber_63 at h
  refine am_aload_n (n := 64) d_Tokens_scanNumber_63 rfl rfl ?_
  refine am_iload (n := 66) d_Tokens_scanNumber_64 rfl rfl ?_
  refine am_iload_n (n := 67) d_Tokens_scanNumber_66 rfl rfl ?_
  refine am_isub (n := 68) d_Tokens_scanNumber_67 rfl ?_
  refine am_iconst (n := 69) d_Tokens_scanNumber_68 ci_4 rfl ?_
  refine am_icmp_gt (tgt := 76) (n := 72) d_Tokens_scanNumber_69 rfl rfl (fun c2 => ?_) (fun c2 => ?_)
  · have h := h.1 c2
    refine am_bipush (n := 78) d_Tokens_scanNumber_76 cb_6 rfl ?_
    exact tb_Tokens_scanNumber_78 hw hq hd I L v3 v4 q 6 hq h
  · have h := h.2 c2
    refine am_iconst (n := 73) d_Tokens_scanNumber_72 ci_4 rfl ?_
    refine am_goto (tgt := 78) d_Tokens_scanNumber_73 rfl ?_
    exact tb_Tokens_scanNumber_78 hw hq hd I L v3 v4 q 4 hq h
def wl_Tokens_scanNumber_8 (R : am_TR) (q : Nat) (p1 : Int32) (p2 : Int32) (Q : Int32 → am_TI → am_TL → Prop)  : Nat → am_TI → am_TL → Int32 → Int32 → Int32 → Prop
  | 0 => fun _ _ _ _ _ => False
  | f8 + 1 => fun I L v3 v4 v5 => ((p2 ≤ v5 → wb_Tokens_scanNumber_63 R q p1 p2 Q I L v3 v4) ∧ (¬ p2 ≤ v5 → (vp_in v5 900 ∧ wp_Tokens_isDigit I L R ((I (q + 1) (Int32.toNatClampNeg v5)) &&& 255) (fun (r1 : Bool) => ((r1 = false → wb_Tokens_scanNumber_63 R q p1 p2 Q I L v3 v4) ∧ (r1 = true → (vp_in v5 900 ∧ wl_Tokens_scanNumber_8 R q p1 p2 Q f8 I L ((v3 * 10) + (((I (q + 1) (Int32.toNatClampNeg v5)) &&& 255) - 48)) (v5 + 1) (v5 + 1))))))))
set_option maxRecDepth 20000 in
theorem tl_Tokens_scanNumber_8 {d : Nat}  {R : am_TR} {q : Nat} {p1 : Int32} {p2 : Int32} {Q : Int32 → am_TI → am_TL → Prop}  (hw : am_Wf R) (hq : am_SH[q]? = some (.inl 9)) (hd : 1 ≤ d) : ∀ (n : Nat) (I : am_TI) (L : am_TL) (v3 : Int32) (v4 : Int32) (v5 : Int32), wl_Tokens_scanNumber_8 R q p1 p2 Q  n I L v3 v4 v5 → am_Wp (d, "UnseenRing$Tokens", b_Tokens_scanNumber, 6, false) 0 0 8 [some (.ref q), some (.int p1), some (.int p2), some (.int v3), some (.int v4), some (.int v5)] [] (I, L, R, am_SH) (po_Tokens_scanNumber R Q) := by
  intro n
  induction n with
  | zero => intro I L v3 v4 v5 h; exact h.elim
  | succ n ih =>
    intro I L v3 v4 v5 h
    unfold wl_Tokens_scanNumber_8 at h
    refine am_iload (n := 10) d_Tokens_scanNumber_8 rfl rfl ?_
    refine am_iload_n (n := 11) d_Tokens_scanNumber_10 rfl rfl ?_
    refine am_icmp_ge (tgt := 63) (n := 14) d_Tokens_scanNumber_11 rfl rfl (fun c1 => ?_) (fun c1 => ?_)
    · have h := h.1 c1
      refine am_forget (ls' := [some (.ref q), some (.int p1), some (.int p2), some (.int v3), some (.int v4), none]) (am_le_s (am_le_s (am_le_s (am_le_s (am_le_s (am_le_n am_le_e)))))) ?_
      exact tb_Tokens_scanNumber_63 hw hq hd I L v3 v4 h
    · have h := h.2 c1
      refine am_aload_n (n := 15) d_Tokens_scanNumber_14 rfl rfl ?_
      refine am_getR (x := (q + 1)) (n := 18) f_Tokens_11 d_Tokens_scanNumber_15 rfl rfl hq (hw.1 q 9 0 1 hq rfl) ?_
      refine am_iload (n := 20) d_Tokens_scanNumber_18 rfl rfl ?_
      obtain ⟨g1, h⟩ := h
      refine am_bald2 (n := 21) d_Tokens_scanNumber_20 rfl (am_sho (k := 0) (o := 1) hq (by decide) (by decide) (by decide) rfl) g1 rfl ?_
      refine am_sipush (n := 24) d_Tokens_scanNumber_21 cs_255 rfl ?_
      refine am_iand (n := 25) d_Tokens_scanNumber_24 rfl ?_
      refine am_callS (kc := 0) (ks := 0) (As := [.int ((I (q + 1) (Int32.toNatClampNeg v5)) &&& 255)]) (n := 28) d_Tokens_scanNumber_25 rfl ce_Tokens_isDigit lk_Tokens_95 st_Tokens_isDigit rfl rfl (Nat.le_of_ble_eq_true rfl) (Or.inl rfl) (cm_Tokens_isDigit (d := d - 1) hw (by omega)  h) (by omega) ?_
      rintro _ _ ⟨r1, rfl, rfl, h⟩
      show am_Wp (d, "UnseenRing$Tokens", b_Tokens_scanNumber, 6, false) 0 0 28 [some (.ref q), some (.int p1), some (.int p2), some (.int v3), some (.int v4), some (.int v5)] [.int (am_b r1)] (I, L, R, am_SH) (po_Tokens_scanNumber R Q)
      refine am_if_eq (y := 0) (tgt := 63) (n := 31) d_Tokens_scanNumber_28 rfl rfl (fun c3 => ?_) (fun c3 => ?_)
      · have h := h.1 (am_b_0 c3)
        refine am_forget (ls' := [some (.ref q), some (.int p1), some (.int p2), some (.int v3), some (.int v4), none]) (am_le_s (am_le_s (am_le_s (am_le_s (am_le_s (am_le_n am_le_e)))))) ?_
        exact tb_Tokens_scanNumber_63 hw hq hd I L v3 v4 h
      · have h := h.2 (am_b_n0 c3)
        refine am_iload_n (n := 32) d_Tokens_scanNumber_31 rfl rfl ?_
        refine am_bipush (n := 34) d_Tokens_scanNumber_32 cb_10 rfl ?_
        refine am_imul (n := 35) d_Tokens_scanNumber_34 rfl ?_
        refine am_aload_n (n := 36) d_Tokens_scanNumber_35 rfl rfl ?_
        refine am_getR (x := (q + 1)) (n := 39) f_Tokens_11 d_Tokens_scanNumber_36 rfl rfl hq (hw.1 q 9 0 1 hq rfl) ?_
        refine am_iload (n := 41) d_Tokens_scanNumber_39 rfl rfl ?_
        obtain ⟨g2, h⟩ := h
        refine am_bald2 (n := 42) d_Tokens_scanNumber_41 rfl (am_sho (k := 0) (o := 1) hq (by decide) (by decide) (by decide) rfl) g2 rfl ?_
        refine am_sipush (n := 45) d_Tokens_scanNumber_42 cs_255 rfl ?_
        refine am_iand (n := 46) d_Tokens_scanNumber_45 rfl ?_
        refine am_bipush (n := 48) d_Tokens_scanNumber_46 cb_48 rfl ?_
        refine am_isub (n := 49) d_Tokens_scanNumber_48 rfl ?_
        refine am_iadd (n := 50) d_Tokens_scanNumber_49 rfl ?_
        refine am_istore_n (ls' := [some (.ref q), some (.int p1), some (.int p2), some (.int ((v3 * 10) + (((I (q + 1) (Int32.toNatClampNeg v5)) &&& 255) - 48))), some (.int v4), some (.int v5)]) (n := 51) d_Tokens_scanNumber_50 (by decide) rfl rfl ?_
        refine am_iload (n := 53) d_Tokens_scanNumber_51 rfl rfl ?_
        refine am_iconst (n := 54) d_Tokens_scanNumber_53 ci_1 rfl ?_
        refine am_iadd (n := 55) d_Tokens_scanNumber_54 rfl ?_
        refine am_istore (ls' := [some (.ref q), some (.int p1), some (.int p2), some (.int ((v3 * 10) + (((I (q + 1) (Int32.toNatClampNeg v5)) &&& 255) - 48))), some (.int (v5 + 1)), some (.int v5)]) (n := 57) d_Tokens_scanNumber_55 (by decide) rfl rfl ?_
        refine am_iinc (v := v5 + 1) (ls' := [some (.ref q), some (.int p1), some (.int p2), some (.int ((v3 * 10) + (((I (q + 1) (Int32.toNatClampNeg v5)) &&& 255) - 48))), some (.int (v5 + 1)), some (.int (v5 + 1))]) (n := 60) d_Tokens_scanNumber_57 rfl (congrArg _ ci_1) (by decide) rfl rfl ?_
        refine am_goto (tgt := 8) d_Tokens_scanNumber_60 rfl ?_
        exact ih I L ((v3 * 10) + (((I (q + 1) (Int32.toNatClampNeg v5)) &&& 255) - 48)) (v5 + 1) (v5 + 1)  h
def wp_Tokens_scanNumber (I : am_TI) (L : am_TL) (R : am_TR) (q : Nat) (p1 : Int32) (p2 : Int32)  (Q : Int32 → am_TI → am_TL → Prop) : Prop := (∃ z, wl_Tokens_scanNumber_8 R q p1 p2 Q z I L 0 p1 p1)
set_option maxRecDepth 20000 in
theorem cm_Tokens_scanNumber {d : Nat} {I : am_TI} {L : am_TL} {R : am_TR}  (hw : am_Wf R)   {q : Nat} {p1 : Int32} {p2 : Int32} {Q : Int32 → am_TI → am_TL → Prop} (hd : 1 ≤ d) (hq : am_SH[q]? = some (.inl 9)) (h : wp_Tokens_scanNumber I L R q p1 p2  Q) : am_Cm d 0 0 y_Tokens_scanNumber b_Tokens_scanNumber 6 (some .int) [.ref q, .int p1, .int p2] (I, L, R, am_SH) (po_Tokens_scanNumber R Q) := by
  refine am_Cm_of (ini := false) (by decide +kernel) (fun z => by cases z) (by simp [Value.category]) (fun r σ' z => by obtain ⟨x, _, _, rfl, -⟩ := z; exact ⟨_, rfl, rfl⟩) ?_
  unfold wp_Tokens_scanNumber at h
  show am_Wp (d, "UnseenRing$Tokens", b_Tokens_scanNumber, 6, false) 0 0 0 [some (.ref q), some (.int p1), some (.int p2), none, none, none] [] (I, L, R, am_SH) (po_Tokens_scanNumber R Q)
  refine am_iconst (n := 1) d_Tokens_scanNumber_0 ci_0 rfl ?_
  refine am_istore_n (ls' := [some (.ref q), some (.int p1), some (.int p2), some (.int 0), none, none]) (n := 2) d_Tokens_scanNumber_1 (by decide) rfl rfl ?_
  refine am_iload_n (n := 3) d_Tokens_scanNumber_2 rfl rfl ?_
  refine am_istore (ls' := [some (.ref q), some (.int p1), some (.int p2), some (.int 0), some (.int p1), none]) (n := 5) d_Tokens_scanNumber_3 (by decide) rfl rfl ?_
  refine am_iload_n (n := 6) d_Tokens_scanNumber_5 rfl rfl ?_
  refine am_istore (ls' := [some (.ref q), some (.int p1), some (.int p2), some (.int 0), some (.int p1), some (.int p1)]) (n := 8) d_Tokens_scanNumber_6 (by decide) rfl rfl ?_
  obtain ⟨n, h⟩ := h
  exact tl_Tokens_scanNumber_8 hw hq hd n I L 0 p1 p1 h
abbrev po_Tokens_scanSign (R : am_TR) (Q : am_TI → am_TL → Prop) : Option Value → am_St → Prop := fun r σ' => ∃ (I' : am_TI) (L' : am_TL), r = none ∧ σ' = (I', L', R, am_SH) ∧ Q I' L'
def wb_Tokens_scanSign_24 (R : am_TR) (q : Nat) (p1 : Int32) (p2 : Int32) (Q : am_TI → am_TL → Prop)  (I : am_TI) (L : am_TL) : Prop := wp_Tokens_add I L R q 5 p1 (Int32.toInt64 p2) (fun (I1 : am_TI) (L1 : am_TL) => Q I1 L1)
set_option maxRecDepth 20000 in
theorem tb_Tokens_scanSign_24 {d : Nat}  {R : am_TR} {q : Nat} {p1 : Int32} {p2 : Int32} {Q : am_TI → am_TL → Prop}  (hw : am_Wf R) (hq : am_SH[q]? = some (.inl 9)) (hd : 1 ≤ d) (I : am_TI) (L : am_TL) (h : wb_Tokens_scanSign_24 R q p1 p2 Q  I L) : am_Wp (d, "UnseenRing$Tokens", b_Tokens_scanSign, 3, false) 0 0 24 [some (.ref q), some (.int p1), some (.int p2)] [] (I, L, R, am_SH) (po_Tokens_scanSign R Q) := by
  unfold wb_Tokens_scanSign_24 at h
  refine am_aload_n (n := 25) d_Tokens_scanSign_24 rfl rfl ?_
  refine am_iconst (n := 26) d_Tokens_scanSign_25 ci_5 rfl ?_
  refine am_iload_n (n := 27) d_Tokens_scanSign_26 rfl rfl ?_
  refine am_iload_n (n := 28) d_Tokens_scanSign_27 rfl rfl ?_
  refine am_i2l (n := 29) d_Tokens_scanSign_28 rfl ?_
  refine am_callV (kc := 0) (ks := 0) (As := [.int 5, .int p1, .long (Int32.toInt64 p2)]) (n := 32) d_Tokens_scanSign_29 rfl ce_Tokens_add lk_Tokens_105 in_Tokens_add rfl rfl hq rfl rfl (Nat.le_of_ble_eq_true rfl) (Or.inl rfl) (cm_Tokens_add (d := d - 1) hw (by omega) hq h) (by omega) ?_
  rintro _ _ ⟨I1, L1, rfl, rfl, h⟩
  show am_Wp (d, "UnseenRing$Tokens", b_Tokens_scanSign, 3, false) 0 0 32 [some (.ref q), some (.int p1), some (.int p2)] [] (I1, L1, R, am_SH) (po_Tokens_scanSign R Q)
  refine am_goto (tgt := 56) d_Tokens_scanSign_32 rfl ?_
  exact am_vret d_Tokens_scanSign_56 ⟨I1, L1, rfl, rfl, h⟩
def wp_Tokens_scanSign (I : am_TI) (L : am_TL) (R : am_TR) (q : Nat) (p1 : Int32) (p2 : Int32)  (Q : am_TI → am_TL → Prop) : Prop := ((p2 = 59 → wb_Tokens_scanSign_24 R q p1 p2 Q I L) ∧ (¬ p2 = 59 → ((p2 = 60 → wb_Tokens_scanSign_24 R q p1 p2 Q I L) ∧ (¬ p2 = 60 → ((p2 = 62 → wb_Tokens_scanSign_24 R q p1 p2 Q I L) ∧ (¬ p2 = 62 → ((p2 = 61 → wb_Tokens_scanSign_24 R q p1 p2 Q I L) ∧ (¬ p2 = 61 → ((p2 = 32 → Q I L) ∧ (¬ p2 = 32 → ((p2 = 10 → Q I L) ∧ (¬ p2 = 10 → wp_Tokens_add I L R q 6 p1 (Int32.toInt64 p2) (fun (I2 : am_TI) (L2 : am_TL) => Q I2 L2)))))))))))))
set_option maxRecDepth 20000 in
theorem cm_Tokens_scanSign {d : Nat} {I : am_TI} {L : am_TL} {R : am_TR}  (hw : am_Wf R)   {q : Nat} {p1 : Int32} {p2 : Int32} {Q : am_TI → am_TL → Prop} (hd : 1 ≤ d) (hq : am_SH[q]? = some (.inl 9)) (h : wp_Tokens_scanSign I L R q p1 p2  Q) : am_Cm d 0 0 y_Tokens_scanSign b_Tokens_scanSign 3 (none) [.ref q, .int p1, .int p2] (I, L, R, am_SH) (po_Tokens_scanSign R Q) := by
  refine am_Cm_of (ini := false) (by decide +kernel) (fun z => by cases z) (by simp [Value.category]) (fun r σ' z => by obtain ⟨_, _, rfl, -⟩ := z; rfl) ?_
  unfold wp_Tokens_scanSign at h
  show am_Wp (d, "UnseenRing$Tokens", b_Tokens_scanSign, 3, false) 0 0 0 [some (.ref q), some (.int p1), some (.int p2)] [] (I, L, R, am_SH) (po_Tokens_scanSign R Q)
  refine am_iload_n (n := 1) d_Tokens_scanSign_0 rfl rfl ?_
  refine am_bipush (n := 3) d_Tokens_scanSign_1 cb_59 rfl ?_
  refine am_icmp_eq (tgt := 24) (n := 6) d_Tokens_scanSign_3 rfl rfl (fun c1 => ?_) (fun c1 => ?_)
  · have h := h.1 c1
    exact tb_Tokens_scanSign_24 hw hq hd I L h
  · have h := h.2 c1
    refine am_iload_n (n := 7) d_Tokens_scanSign_6 rfl rfl ?_
    refine am_bipush (n := 9) d_Tokens_scanSign_7 cb_60 rfl ?_
    refine am_icmp_eq (tgt := 24) (n := 12) d_Tokens_scanSign_9 rfl rfl (fun c2 => ?_) (fun c2 => ?_)
    · have h := h.1 c2
      exact tb_Tokens_scanSign_24 hw hq hd I L h
    · have h := h.2 c2
      refine am_iload_n (n := 13) d_Tokens_scanSign_12 rfl rfl ?_
      refine am_bipush (n := 15) d_Tokens_scanSign_13 cb_62 rfl ?_
      refine am_icmp_eq (tgt := 24) (n := 18) d_Tokens_scanSign_15 rfl rfl (fun c3 => ?_) (fun c3 => ?_)
      · have h := h.1 c3
        exact tb_Tokens_scanSign_24 hw hq hd I L h
      · have h := h.2 c3
        refine am_iload_n (n := 19) d_Tokens_scanSign_18 rfl rfl ?_
        refine am_bipush (n := 21) d_Tokens_scanSign_19 cb_61 rfl ?_
        refine am_icmp_ne (tgt := 35) (n := 24) d_Tokens_scanSign_21 rfl rfl (fun c4 => ?_) (fun c4 => ?_)
        · have h := h.2 c4
          refine am_iload_n (n := 36) d_Tokens_scanSign_35 rfl rfl ?_
          refine am_bipush (n := 38) d_Tokens_scanSign_36 cb_32 rfl ?_
          refine am_icmp_eq (tgt := 56) (n := 41) d_Tokens_scanSign_38 rfl rfl (fun c5 => ?_) (fun c5 => ?_)
          · have h := h.1 c5
            exact am_vret d_Tokens_scanSign_56 ⟨I, L, rfl, rfl, h⟩
          · have h := h.2 c5
            refine am_iload_n (n := 42) d_Tokens_scanSign_41 rfl rfl ?_
            refine am_bipush (n := 44) d_Tokens_scanSign_42 cb_10 rfl ?_
            refine am_icmp_eq (tgt := 56) (n := 47) d_Tokens_scanSign_44 rfl rfl (fun c6 => ?_) (fun c6 => ?_)
            · have h := h.1 c6
              exact am_vret d_Tokens_scanSign_56 ⟨I, L, rfl, rfl, h⟩
            · have h := h.2 c6
              refine am_aload_n (n := 48) d_Tokens_scanSign_47 rfl rfl ?_
              refine am_bipush (n := 50) d_Tokens_scanSign_48 cb_6 rfl ?_
              refine am_iload_n (n := 51) d_Tokens_scanSign_50 rfl rfl ?_
              refine am_iload_n (n := 52) d_Tokens_scanSign_51 rfl rfl ?_
              refine am_i2l (n := 53) d_Tokens_scanSign_52 rfl ?_
              refine am_callV (kc := 0) (ks := 0) (As := [.int 6, .int p1, .long (Int32.toInt64 p2)]) (n := 56) d_Tokens_scanSign_53 rfl ce_Tokens_add lk_Tokens_105 in_Tokens_add rfl rfl hq rfl rfl (Nat.le_of_ble_eq_true rfl) (Or.inl rfl) (cm_Tokens_add (d := d - 1) hw (by omega) hq h) (by omega) ?_
              rintro _ _ ⟨I2, L2, rfl, rfl, h⟩
              show am_Wp (d, "UnseenRing$Tokens", b_Tokens_scanSign, 3, false) 0 0 56 [some (.ref q), some (.int p1), some (.int p2)] [] (I2, L2, R, am_SH) (po_Tokens_scanSign R Q)
              exact am_vret d_Tokens_scanSign_56 ⟨I2, L2, rfl, rfl, h⟩
        · have h := h.1 c4
          exact tb_Tokens_scanSign_24 hw hq hd I L h
abbrev po_Tokens_reservedWord (I : am_TI) (L : am_TL) (R : am_TR) (Q : Int32 → Prop) : Option Value → am_St → Prop := fun r σ' => ∃ (x : Int32), r = some (.int x) ∧ σ' = (I, L, R, am_SH) ∧ Q x
def wl_Tokens_reservedWord_2 (I : am_TI) (L : am_TL) (R : am_TR) (q : Nat) (p1 : Int64) (Q : Int32 → Prop)  : Nat → Int32 → Prop
  | 0 => fun _ => False
  | f2 + 1 => fun v3 => ((25 ≤ v3 → Q (-1)) ∧ (¬ 25 ≤ v3 → (vp_in v3 25 ∧ (((L (q + 2) (Int32.toNatClampNeg v3)) = p1 → Q v3) ∧ (¬ (L (q + 2) (Int32.toNatClampNeg v3)) = p1 → wl_Tokens_reservedWord_2 I L R q p1 Q f2 (v3 + 1))))))
set_option maxRecDepth 20000 in
theorem tl_Tokens_reservedWord_2 {d : Nat}  {I : am_TI} {L : am_TL} {R : am_TR} {q : Nat} {p1 : Int64} {Q : Int32 → Prop}  (hw : am_Wf R) (hq : am_SH[q]? = some (.inl 9)) (hd : 0 ≤ d) : ∀ (n : Nat) (v3 : Int32), wl_Tokens_reservedWord_2 I L R q p1 Q  n v3 → am_Wp (d, "UnseenRing$Tokens", b_Tokens_reservedWord, 4, false) 0 0 2 [some (.ref q), some (.long p1), none, some (.int v3)] [] (I, L, R, am_SH) (po_Tokens_reservedWord I L R Q) := by
  intro n
  induction n with
  | zero => intro v3 h; exact h.elim
  | succ n ih =>
    intro v3 h
    unfold wl_Tokens_reservedWord_2 at h
    refine am_iload_n (n := 3) d_Tokens_reservedWord_2 rfl rfl ?_
    refine am_bipush (n := 5) d_Tokens_reservedWord_3 cb_25 rfl ?_
    refine am_icmp_ge (tgt := 27) (n := 8) d_Tokens_reservedWord_5 rfl rfl (fun c1 => ?_) (fun c1 => ?_)
    · have h := h.1 c1
      refine am_iconst (n := 28) d_Tokens_reservedWord_27 ci_m1 rfl ?_
      exact am_iret d_Tokens_reservedWord_28 ⟨(-1), rfl, rfl, h⟩
    · have h := h.2 c1
      refine am_aload_n (n := 9) d_Tokens_reservedWord_8 rfl rfl ?_
      refine am_getR (x := (q + 2)) (n := 12) f_Tokens_15 d_Tokens_reservedWord_9 rfl rfl hq (hw.1 q 9 1 2 hq rfl) ?_
      refine am_iload_n (n := 13) d_Tokens_reservedWord_12 rfl rfl ?_
      obtain ⟨g1, h⟩ := h
      refine am_lald2 (n := 14) d_Tokens_reservedWord_13 rfl (am_sho (k := 1) (o := 2) hq (by decide) (by decide) (by decide) rfl) g1 rfl ?_
      refine am_lload_n (n := 15) d_Tokens_reservedWord_14 rfl rfl ?_
      refine am_lcmp (n := 16) d_Tokens_reservedWord_15 rfl ?_
      refine am_if_ne (y := 0) (tgt := 21) (n := 19) d_Tokens_reservedWord_16 rfl rfl (fun c2 => ?_) (fun c2 => ?_)
      · have h := h.2 (fun z => c2 (am_cmp_eq.mpr z))
        refine am_iinc (v := v3 + 1) (ls' := [some (.ref q), some (.long p1), none, some (.int (v3 + 1))]) (n := 24) d_Tokens_reservedWord_21 rfl (congrArg _ ci_1) (by decide) rfl rfl ?_
        refine am_goto (tgt := 2) d_Tokens_reservedWord_24 rfl ?_
        exact ih (v3 + 1)  h
      · have h := h.1 (am_cmp_eq.mp c2)
        refine am_iload_n (n := 20) d_Tokens_reservedWord_19 rfl rfl ?_
        exact am_iret d_Tokens_reservedWord_20 ⟨v3, rfl, rfl, h⟩
def wp_Tokens_reservedWord (I : am_TI) (L : am_TL) (R : am_TR) (q : Nat) (p1 : Int64)  (Q : Int32 → Prop) : Prop := (∃ z, wl_Tokens_reservedWord_2 I L R q p1 Q z 0)
set_option maxRecDepth 20000 in
theorem cm_Tokens_reservedWord {d : Nat} {I : am_TI} {L : am_TL} {R : am_TR}  (hw : am_Wf R)   {q : Nat} {p1 : Int64} {Q : Int32 → Prop} (hd : 0 ≤ d) (hq : am_SH[q]? = some (.inl 9)) (h : wp_Tokens_reservedWord I L R q p1  Q) : am_Cm d 0 0 y_Tokens_reservedWord b_Tokens_reservedWord 4 (some .int) [.ref q, .long p1] (I, L, R, am_SH) (po_Tokens_reservedWord I L R Q) := by
  refine am_Cm_of (ini := false) (by decide +kernel) (fun z => by cases z) (by simp [Value.category]) (fun r σ' z => by obtain ⟨x, rfl, -⟩ := z; exact ⟨_, rfl, rfl⟩) ?_
  unfold wp_Tokens_reservedWord at h
  show am_Wp (d, "UnseenRing$Tokens", b_Tokens_reservedWord, 4, false) 0 0 0 [some (.ref q), some (.long p1), none, none] [] (I, L, R, am_SH) (po_Tokens_reservedWord I L R Q)
  refine am_iconst (n := 1) d_Tokens_reservedWord_0 ci_0 rfl ?_
  refine am_istore_n (ls' := [some (.ref q), some (.long p1), none, some (.int 0)]) (n := 2) d_Tokens_reservedWord_1 (by decide) rfl rfl ?_
  obtain ⟨n, h⟩ := h
  exact tl_Tokens_reservedWord_2 hw hq hd n 0 h
abbrev po_Tokens_scanWord (R : am_TR) (Q : Int32 → am_TI → am_TL → Prop) : Option Value → am_St → Prop := fun r σ' => ∃ (x : Int32) (I' : am_TI) (L' : am_TL), r = some (.int x) ∧ σ' = (I', L', R, am_SH) ∧ Q x I' L'
def wb_Tokens_scanWord_59 (R : am_TR) (q : Nat) (p1 : Int32) (p2 : Int32) (Q : Int32 → am_TI → am_TL → Prop)  (I : am_TI) (L : am_TL) (v3 : Int64) (v5 : Int32) : Prop := (((v5 - p1) ≤ 8 → wp_Tokens_reservedWord I L R q v3 (fun (r1 : Int32) => ((r1 = (-1) → wp_Tokens_add I L R q 1 p1 v3 (fun (I2 : am_TI) (L2 : am_TL) => Q v5 I2 L2)) ∧ (¬ r1 = (-1) → wp_Tokens_add I L R q 3 p1 (Int32.toInt64 r1) (fun (I1 : am_TI) (L1 : am_TL) => Q v5 I1 L1))))) ∧ (¬ (v5 - p1) ≤ 8 → wp_Tokens_add I L R q 2 p1 0 (fun (I3 : am_TI) (L3 : am_TL) => Q v5 I3 L3)))
set_option maxRecDepth 20000 in
theorem tb_Tokens_scanWord_59 {d : Nat}  {R : am_TR} {q : Nat} {p1 : Int32} {p2 : Int32} {Q : Int32 → am_TI → am_TL → Prop}  (hw : am_Wf R) (hq : am_SH[q]? = some (.inl 9)) (hd : 1 ≤ d) (I : am_TI) (L : am_TL) (v3 : Int64) (v5 : Int32) (h : wb_Tokens_scanWord_59 R q p1 p2 Q  I L v3 v5) : am_Wp (d, "UnseenRing$Tokens", b_Tokens_scanWord, 7, false) 0 0 59 [some (.ref q), some (.int p1), some (.int p2), some (.long v3), none, some (.int v5), none] [] (I, L, R, am_SH) (po_Tokens_scanWord R Q) := by
  unfold wb_Tokens_scanWord_59 at h
  refine am_iload (n := 61) d_Tokens_scanWord_59 rfl rfl ?_
  refine am_iload_n (n := 62) d_Tokens_scanWord_61 rfl rfl ?_
  refine am_isub (n := 63) d_Tokens_scanWord_62 rfl ?_
  refine am_bipush (n := 65) d_Tokens_scanWord_63 cb_8 rfl ?_
  refine am_icmp_le (tgt := 78) (n := 68) d_Tokens_scanWord_65 rfl rfl (fun c2 => ?_) (fun c2 => ?_)
  · have h := h.1 c2
    refine am_aload_n (n := 79) d_Tokens_scanWord_78 rfl rfl ?_
    refine am_lload_n (n := 80) d_Tokens_scanWord_79 rfl rfl ?_
    refine am_callV (kc := 0) (ks := 0) (As := [.long v3]) (n := 83) d_Tokens_scanWord_80 rfl ce_Tokens_reservedWord lk_Tokens_109 in_Tokens_reservedWord rfl rfl hq rfl rfl (Nat.le_of_ble_eq_true rfl) (Or.inl rfl) (cm_Tokens_reservedWord (d := d - 1) hw (by omega) hq h) (by omega) ?_
    rintro _ _ ⟨r1, rfl, rfl, h⟩
    show am_Wp (d, "UnseenRing$Tokens", b_Tokens_scanWord, 7, false) 0 0 83 [some (.ref q), some (.int p1), some (.int p2), some (.long v3), none, some (.int v5), none] [.int r1] (I, L, R, am_SH) (po_Tokens_scanWord R Q)
    refine am_istore (ls' := [some (.ref q), some (.int p1), some (.int p2), some (.long v3), none, some (.int v5), some (.int r1)]) (n := 85) d_Tokens_scanWord_83 (by decide) rfl rfl ?_
    refine am_iload (n := 87) d_Tokens_scanWord_85 rfl rfl ?_
    refine am_iconst (n := 88) d_Tokens_scanWord_87 ci_m1 rfl ?_
    refine am_icmp_ne (tgt := 101) (n := 91) d_Tokens_scanWord_88 rfl rfl (fun c3 => ?_) (fun c3 => ?_)
    · have h := h.2 c3
      refine am_aload_n (n := 102) d_Tokens_scanWord_101 rfl rfl ?_
      refine am_iconst (n := 103) d_Tokens_scanWord_102 ci_3 rfl ?_
      refine am_iload_n (n := 104) d_Tokens_scanWord_103 rfl rfl ?_
      refine am_iload (n := 106) d_Tokens_scanWord_104 rfl rfl ?_
      refine am_i2l (n := 107) d_Tokens_scanWord_106 rfl ?_
      refine am_callV (kc := 0) (ks := 0) (As := [.int 3, .int p1, .long (Int32.toInt64 r1)]) (n := 110) d_Tokens_scanWord_107 rfl ce_Tokens_add lk_Tokens_105 in_Tokens_add rfl rfl hq rfl rfl (Nat.le_of_ble_eq_true rfl) (Or.inl rfl) (cm_Tokens_add (d := d - 1) hw (by omega) hq h) (by omega) ?_
      rintro _ _ ⟨I1, L1, rfl, rfl, h⟩
      show am_Wp (d, "UnseenRing$Tokens", b_Tokens_scanWord, 7, false) 0 0 110 [some (.ref q), some (.int p1), some (.int p2), some (.long v3), none, some (.int v5), some (.int r1)] [] (I1, L1, R, am_SH) (po_Tokens_scanWord R Q)
      refine am_iload (n := 112) d_Tokens_scanWord_110 rfl rfl ?_
      exact am_iret d_Tokens_scanWord_112 ⟨v5, I1, L1, rfl, rfl, h⟩
    · have h := h.1 c3
      refine am_aload_n (n := 92) d_Tokens_scanWord_91 rfl rfl ?_
      refine am_iconst (n := 93) d_Tokens_scanWord_92 ci_1 rfl ?_
      refine am_iload_n (n := 94) d_Tokens_scanWord_93 rfl rfl ?_
      refine am_lload_n (n := 95) d_Tokens_scanWord_94 rfl rfl ?_
      refine am_callV (kc := 0) (ks := 0) (As := [.int 1, .int p1, .long v3]) (n := 98) d_Tokens_scanWord_95 rfl ce_Tokens_add lk_Tokens_105 in_Tokens_add rfl rfl hq rfl rfl (Nat.le_of_ble_eq_true rfl) (Or.inl rfl) (cm_Tokens_add (d := d - 1) hw (by omega) hq h) (by omega) ?_
      rintro _ _ ⟨I2, L2, rfl, rfl, h⟩
      show am_Wp (d, "UnseenRing$Tokens", b_Tokens_scanWord, 7, false) 0 0 98 [some (.ref q), some (.int p1), some (.int p2), some (.long v3), none, some (.int v5), some (.int r1)] [] (I2, L2, R, am_SH) (po_Tokens_scanWord R Q)
      refine am_goto (tgt := 110) d_Tokens_scanWord_98 rfl ?_
      refine am_iload (n := 112) d_Tokens_scanWord_110 rfl rfl ?_
      exact am_iret d_Tokens_scanWord_112 ⟨v5, I2, L2, rfl, rfl, h⟩
  · have h := h.2 c2
    refine am_aload_n (n := 69) d_Tokens_scanWord_68 rfl rfl ?_
    refine am_iconst (n := 70) d_Tokens_scanWord_69 ci_2 rfl ?_
    refine am_iload_n (n := 71) d_Tokens_scanWord_70 rfl rfl ?_
    refine am_lconst (v := 0) (n := 72) d_Tokens_scanWord_71 rfl rfl ?_
    refine am_callV (kc := 0) (ks := 0) (As := [.int 2, .int p1, .long 0]) (n := 75) d_Tokens_scanWord_72 rfl ce_Tokens_add lk_Tokens_105 in_Tokens_add rfl rfl hq rfl rfl (Nat.le_of_ble_eq_true rfl) (Or.inl rfl) (cm_Tokens_add (d := d - 1) hw (by omega) hq h) (by omega) ?_
    rintro _ _ ⟨I3, L3, rfl, rfl, h⟩
    show am_Wp (d, "UnseenRing$Tokens", b_Tokens_scanWord, 7, false) 0 0 75 [some (.ref q), some (.int p1), some (.int p2), some (.long v3), none, some (.int v5), none] [] (I3, L3, R, am_SH) (po_Tokens_scanWord R Q)
    refine am_iload (n := 77) d_Tokens_scanWord_75 rfl rfl ?_
    exact am_iret d_Tokens_scanWord_77 ⟨v5, I3, L3, rfl, rfl, h⟩
def wl_Tokens_scanWord_8 (R : am_TR) (q : Nat) (p1 : Int32) (p2 : Int32) (Q : Int32 → am_TI → am_TL → Prop)  : Nat → am_TI → am_TL → Int64 → Int32 → Int32 → Prop
  | 0 => fun _ _ _ _ _ => False
  | f8 + 1 => fun I L v3 v5 v6 => ((p2 ≤ v6 → wb_Tokens_scanWord_59 R q p1 p2 Q I L v3 v5) ∧ (¬ p2 ≤ v6 → (vp_in v6 900 ∧ wp_Tokens_isLetter I L R ((I (q + 1) (Int32.toNatClampNeg v6)) &&& 255) (fun (r2 : Bool) => ((r2 = false → wb_Tokens_scanWord_59 R q p1 p2 Q I L v3 v5) ∧ (r2 = true → (vp_in v6 900 ∧ wp_Tokens_withLetter I L R v3 ((I (q + 1) (Int32.toNatClampNeg v6)) &&& 255) (fun (r3 : Int64) => wl_Tokens_scanWord_8 R q p1 p2 Q f8 I L r3 (v6 + 1) (v6 + 1)))))))))
set_option maxRecDepth 20000 in
theorem tl_Tokens_scanWord_8 {d : Nat}  {R : am_TR} {q : Nat} {p1 : Int32} {p2 : Int32} {Q : Int32 → am_TI → am_TL → Prop}  (hw : am_Wf R) (hq : am_SH[q]? = some (.inl 9)) (hd : 1 ≤ d) : ∀ (n : Nat) (I : am_TI) (L : am_TL) (v3 : Int64) (v5 : Int32) (v6 : Int32), wl_Tokens_scanWord_8 R q p1 p2 Q  n I L v3 v5 v6 → am_Wp (d, "UnseenRing$Tokens", b_Tokens_scanWord, 7, false) 0 0 8 [some (.ref q), some (.int p1), some (.int p2), some (.long v3), none, some (.int v5), some (.int v6)] [] (I, L, R, am_SH) (po_Tokens_scanWord R Q) := by
  intro n
  induction n with
  | zero => intro I L v3 v5 v6 h; exact h.elim
  | succ n ih =>
    intro I L v3 v5 v6 h
    unfold wl_Tokens_scanWord_8 at h
    refine am_iload (n := 10) d_Tokens_scanWord_8 rfl rfl ?_
    refine am_iload_n (n := 11) d_Tokens_scanWord_10 rfl rfl ?_
    refine am_icmp_ge (tgt := 59) (n := 14) d_Tokens_scanWord_11 rfl rfl (fun c1 => ?_) (fun c1 => ?_)
    · have h := h.1 c1
      refine am_forget (ls' := [some (.ref q), some (.int p1), some (.int p2), some (.long v3), none, some (.int v5), none]) (am_le_s (am_le_s (am_le_s (am_le_s (am_le_n (am_le_s (am_le_n am_le_e))))))) ?_
      exact tb_Tokens_scanWord_59 hw hq hd I L v3 v5 h
    · have h := h.2 c1
      refine am_aload_n (n := 15) d_Tokens_scanWord_14 rfl rfl ?_
      refine am_getR (x := (q + 1)) (n := 18) f_Tokens_11 d_Tokens_scanWord_15 rfl rfl hq (hw.1 q 9 0 1 hq rfl) ?_
      refine am_iload (n := 20) d_Tokens_scanWord_18 rfl rfl ?_
      obtain ⟨g1, h⟩ := h
      refine am_bald2 (n := 21) d_Tokens_scanWord_20 rfl (am_sho (k := 0) (o := 1) hq (by decide) (by decide) (by decide) rfl) g1 rfl ?_
      refine am_sipush (n := 24) d_Tokens_scanWord_21 cs_255 rfl ?_
      refine am_iand (n := 25) d_Tokens_scanWord_24 rfl ?_
      refine am_callS (kc := 0) (ks := 0) (As := [.int ((I (q + 1) (Int32.toNatClampNeg v6)) &&& 255)]) (n := 28) d_Tokens_scanWord_25 rfl ce_Tokens_isLetter lk_Tokens_89 st_Tokens_isLetter rfl rfl (Nat.le_of_ble_eq_true rfl) (Or.inl rfl) (cm_Tokens_isLetter (d := d - 1) hw (by omega)  h) (by omega) ?_
      rintro _ _ ⟨r2, rfl, rfl, h⟩
      show am_Wp (d, "UnseenRing$Tokens", b_Tokens_scanWord, 7, false) 0 0 28 [some (.ref q), some (.int p1), some (.int p2), some (.long v3), none, some (.int v5), some (.int v6)] [.int (am_b r2)] (I, L, R, am_SH) (po_Tokens_scanWord R Q)
      refine am_if_eq (y := 0) (tgt := 59) (n := 31) d_Tokens_scanWord_28 rfl rfl (fun c4 => ?_) (fun c4 => ?_)
      · have h := h.1 (am_b_0 c4)
        refine am_forget (ls' := [some (.ref q), some (.int p1), some (.int p2), some (.long v3), none, some (.int v5), none]) (am_le_s (am_le_s (am_le_s (am_le_s (am_le_n (am_le_s (am_le_n am_le_e))))))) ?_
        exact tb_Tokens_scanWord_59 hw hq hd I L v3 v5 h
      · have h := h.2 (am_b_n0 c4)
        refine am_lload_n (n := 32) d_Tokens_scanWord_31 rfl rfl ?_
        refine am_aload_n (n := 33) d_Tokens_scanWord_32 rfl rfl ?_
        refine am_getR (x := (q + 1)) (n := 36) f_Tokens_11 d_Tokens_scanWord_33 rfl rfl hq (hw.1 q 9 0 1 hq rfl) ?_
        refine am_iload (n := 38) d_Tokens_scanWord_36 rfl rfl ?_
        obtain ⟨g2, h⟩ := h
        refine am_bald2 (n := 39) d_Tokens_scanWord_38 rfl (am_sho (k := 0) (o := 1) hq (by decide) (by decide) (by decide) rfl) g2 rfl ?_
        refine am_sipush (n := 42) d_Tokens_scanWord_39 cs_255 rfl ?_
        refine am_iand (n := 43) d_Tokens_scanWord_42 rfl ?_
        refine am_callS (kc := 0) (ks := 0) (As := [.long v3, .int ((I (q + 1) (Int32.toNatClampNeg v6)) &&& 255)]) (n := 46) d_Tokens_scanWord_43 rfl ce_Tokens_withLetter lk_Tokens_62 st_Tokens_withLetter rfl rfl (Nat.le_of_ble_eq_true rfl) (Or.inl rfl) (cm_Tokens_withLetter (d := d - 1) hw (by omega)  h) (by omega) ?_
        rintro _ _ ⟨r3, rfl, rfl, h⟩
        show am_Wp (d, "UnseenRing$Tokens", b_Tokens_scanWord, 7, false) 0 0 46 [some (.ref q), some (.int p1), some (.int p2), some (.long v3), none, some (.int v5), some (.int v6)] [.long r3] (I, L, R, am_SH) (po_Tokens_scanWord R Q)
        refine am_lstore_n (ls' := [some (.ref q), some (.int p1), some (.int p2), some (.long r3), none, some (.int v5), some (.int v6)]) (n := 47) d_Tokens_scanWord_46 (by decide) rfl rfl ?_
        refine am_iload (n := 49) d_Tokens_scanWord_47 rfl rfl ?_
        refine am_iconst (n := 50) d_Tokens_scanWord_49 ci_1 rfl ?_
        refine am_iadd (n := 51) d_Tokens_scanWord_50 rfl ?_
        refine am_istore (ls' := [some (.ref q), some (.int p1), some (.int p2), some (.long r3), none, some (.int (v6 + 1)), some (.int v6)]) (n := 53) d_Tokens_scanWord_51 (by decide) rfl rfl ?_
        refine am_iinc (v := v6 + 1) (ls' := [some (.ref q), some (.int p1), some (.int p2), some (.long r3), none, some (.int (v6 + 1)), some (.int (v6 + 1))]) (n := 56) d_Tokens_scanWord_53 rfl (congrArg _ ci_1) (by decide) rfl rfl ?_
        refine am_goto (tgt := 8) d_Tokens_scanWord_56 rfl ?_
        exact ih I L r3 (v6 + 1) (v6 + 1)  h
def wp_Tokens_scanWord (I : am_TI) (L : am_TL) (R : am_TR) (q : Nat) (p1 : Int32) (p2 : Int32)  (Q : Int32 → am_TI → am_TL → Prop) : Prop := (∃ z, wl_Tokens_scanWord_8 R q p1 p2 Q z I L 0 p1 p1)
set_option maxRecDepth 20000 in
theorem cm_Tokens_scanWord {d : Nat} {I : am_TI} {L : am_TL} {R : am_TR}  (hw : am_Wf R)   {q : Nat} {p1 : Int32} {p2 : Int32} {Q : Int32 → am_TI → am_TL → Prop} (hd : 1 ≤ d) (hq : am_SH[q]? = some (.inl 9)) (h : wp_Tokens_scanWord I L R q p1 p2  Q) : am_Cm d 0 0 y_Tokens_scanWord b_Tokens_scanWord 7 (some .int) [.ref q, .int p1, .int p2] (I, L, R, am_SH) (po_Tokens_scanWord R Q) := by
  refine am_Cm_of (ini := false) (by decide +kernel) (fun z => by cases z) (by simp [Value.category]) (fun r σ' z => by obtain ⟨x, _, _, rfl, -⟩ := z; exact ⟨_, rfl, rfl⟩) ?_
  unfold wp_Tokens_scanWord at h
  show am_Wp (d, "UnseenRing$Tokens", b_Tokens_scanWord, 7, false) 0 0 0 [some (.ref q), some (.int p1), some (.int p2), none, none, none, none] [] (I, L, R, am_SH) (po_Tokens_scanWord R Q)
  refine am_lconst (v := 0) (n := 1) d_Tokens_scanWord_0 rfl rfl ?_
  refine am_lstore_n (ls' := [some (.ref q), some (.int p1), some (.int p2), some (.long 0), none, none, none]) (n := 2) d_Tokens_scanWord_1 (by decide) rfl rfl ?_
  refine am_iload_n (n := 3) d_Tokens_scanWord_2 rfl rfl ?_
  refine am_istore (ls' := [some (.ref q), some (.int p1), some (.int p2), some (.long 0), none, some (.int p1), none]) (n := 5) d_Tokens_scanWord_3 (by decide) rfl rfl ?_
  refine am_iload_n (n := 6) d_Tokens_scanWord_5 rfl rfl ?_
  refine am_istore (ls' := [some (.ref q), some (.int p1), some (.int p2), some (.long 0), none, some (.int p1), some (.int p1)]) (n := 8) d_Tokens_scanWord_6 (by decide) rfl rfl ?_
  obtain ⟨n, h⟩ := h
  exact tl_Tokens_scanWord_8 hw hq hd n I L 0 p1 p1 h
