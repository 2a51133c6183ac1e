abbrev po_M_come (L : am_TL) (R : am_TR) (Q : Int32 → am_TI → Prop) : Option Value → am_St → Prop := fun r σ' => ∃ (x : Int32) (I' : am_TI), r = some (.int x) ∧ σ' = (I', L, R, am_SH) ∧ Q x I'
def wp_M_come (I : am_TI) (L : am_TL) (R : am_TR) (q : Nat) (p1 : Int32)  (Q : Int32 → am_TI → Prop) : Prop := wp_M_isCell I L R q p1 (fun (r1 : Bool) => ((r1 = false → wp_M_refuse I L R q 1 (fun (r8 : Int32) (I8 : am_TI) => Q r8 I8)) ∧ (r1 = true → (((I (q + 1) 3) = 6 → wp_M_refuse I L R q 4 (fun (r7 : Int32) (I7 : am_TI) => Q r7 I7)) ∧ (¬ (I (q + 1) 3) = 6 → (∀ I1, I1 = am_u2 I (q + 1) 3 ((I (q + 1) 3) + 1) → wp_M_hearerRow I1 L R (I (q + 1) 3) (fun (r2 : Int32) => (vp_in r2 2258 ∧ (∀ I2, I2 = am_u2 I1 (q + 1) (Int32.toNatClampNeg r2) p1 → wp_M_hearerRow I2 L R (I (q + 1) 3) (fun (r3 : Int32) => (vp_in (r3 + 1) 2258 ∧ (∀ I3, I3 = am_u2 I2 (q + 1) (Int32.toNatClampNeg (r3 + 1)) 0 → wp_M_hearerRow I3 L R (I (q + 1) 3) (fun (r4 : Int32) => (vp_in (r4 + 2) 2258 ∧ (∀ I4, I4 = am_u2 I3 (q + 1) (Int32.toNatClampNeg (r4 + 2)) 3 → wp_M_hearerRow I4 L R (I (q + 1) 3) (fun (r5 : Int32) => (vp_in (r5 + 3) 2258 ∧ (∀ I5, I5 = am_u2 I4 (q + 1) (Int32.toNatClampNeg (r5 + 3)) 0 → wp_M_gives I5 L R q (I (q + 1) 3) (fun (r6 : Int32) (I6 : am_TI) => Q r6 I6)))))))))))))))))))
set_option maxRecDepth 20000 in
theorem cm_M_come {d : Nat} {I : am_TI} {L : am_TL} {R : am_TR}  (hw : am_Wf R)   {q : Nat} {p1 : Int32} {Q : Int32 → am_TI → Prop} (hd : 2 ≤ d) (hq : am_SH[q]? = some (.inl 12)) (h : wp_M_come I L R q p1  Q) : am_Cm d 0 0 y_M_come b_M_come 3 (some .int) [.ref q, .int p1] (I, L, R, am_SH) (po_M_come L R Q) := by
  refine am_Cm_of (ini := false) (by decide +kernel) (fun z => by cases z) (by simp [Value.category]) (fun r σ' z => by obtain ⟨x, _, rfl, -⟩ := z; exact ⟨_, rfl, rfl⟩) ?_
  unfold wp_M_come at h
  show am_Wp (d, "UnseenRingModel", b_M_come, 3, false) 0 0 0 [some (.ref q), some (.int p1), none] [] (I, L, R, am_SH) (po_M_come L R Q)
  refine am_aload_n (n := 1) d_M_come_0 rfl rfl ?_
  refine am_iload_n (n := 2) d_M_come_1 rfl rfl ?_
  refine am_callV (kc := 0) (ks := 0) (As := [.int p1]) (n := 5) d_M_come_2 rfl ce_M_isCell lk_M_334 in_M_isCell rfl rfl hq rfl rfl (Nat.le_of_ble_eq_true rfl) (Or.inl rfl) (cm_M_isCell (d := d - 1) hw (by omega) hq h) (by omega) ?_
  rintro _ _ ⟨r1, rfl, rfl, h⟩
  show am_Wp (d, "UnseenRingModel", b_M_come, 3, false) 0 0 5 [some (.ref q), some (.int p1), none] [.int (am_b r1)] (I, L, R, am_SH) (po_M_come L R Q)
  refine am_if_ne (y := 0) (tgt := 14) (n := 8) d_M_come_5 rfl rfl (fun c1 => ?_) (fun c1 => ?_)
  · have h := h.2 (am_b_n0 c1)
    refine am_aload_n (n := 15) d_M_come_14 rfl rfl ?_
    refine am_getR (x := (q + 1)) (n := 18) f_M_7 d_M_come_15 rfl rfl hq (hw.1 q 12 0 1 hq rfl) ?_
    refine am_iconst (n := 19) d_M_come_18 ci_3 rfl ?_
    refine am_iald2 (n := 20) d_M_come_19 rfl (am_sho (k := 0) (o := 1) hq (by decide) (by decide) (by decide) rfl) cx_3_2258 cn_3 ?_
    refine am_istore_n (ls' := [some (.ref q), some (.int p1), some (.int (I (q + 1) 3))]) (n := 21) d_M_come_20 (by decide) rfl rfl ?_
    refine am_iload_n (n := 22) d_M_come_21 rfl rfl ?_
    refine am_bipush (n := 24) d_M_come_22 cb_6 rfl ?_
    refine am_icmp_ne (tgt := 33) (n := 27) d_M_come_24 rfl rfl (fun c2 => ?_) (fun c2 => ?_)
    · have h := h.2 c2
      refine am_aload_n (n := 34) d_M_come_33 rfl rfl ?_
      refine am_getR (x := (q + 1)) (n := 37) f_M_7 d_M_come_34 rfl rfl hq (hw.1 q 12 0 1 hq rfl) ?_
      refine am_iconst (n := 38) d_M_come_37 ci_3 rfl ?_
      refine am_dup2 (n := 39) d_M_come_38 rfl rfl rfl ?_
      refine am_iald2 (n := 40) d_M_come_39 rfl (am_sho (k := 0) (o := 1) hq (by decide) (by decide) (by decide) rfl) cx_3_2258 cn_3 ?_
      refine am_iconst (n := 41) d_M_come_40 ci_1 rfl ?_
      refine am_iadd (n := 42) d_M_come_41 rfl ?_
      refine am_iast2 (n := 43) d_M_come_42 rfl (am_sho (k := 0) (o := 1) hq (by decide) (by decide) (by decide) rfl) cx_3_2258 cn_3 ?_
      generalize eI1 : am_u2 I (q + 1) 3 ((I (q + 1) 3) + 1) = I1
      have h := h I1 eI1.symm
      refine am_aload_n (n := 44) d_M_come_43 rfl rfl ?_
      refine am_getR (x := (q + 1)) (n := 47) f_M_7 d_M_come_44 rfl rfl hq (hw.1 q 12 0 1 hq rfl) ?_
      refine am_iload_n (n := 48) d_M_come_47 rfl rfl ?_
      refine am_callS (kc := 0) (ks := 0) (As := [.int (I (q + 1) 3)]) (n := 51) d_M_come_48 rfl ce_M_hearerRow lk_M_241 st_M_hearerRow rfl rfl (Nat.le_of_ble_eq_true rfl) (Or.inl rfl) (cm_M_hearerRow (d := d - 1) hw (by omega)  h) (by omega) ?_
      rintro _ _ ⟨r2, rfl, rfl, h⟩
      show am_Wp (d, "UnseenRingModel", b_M_come, 3, false) 0 0 51 [some (.ref q), some (.int p1), some (.int (I (q + 1) 3))] [.int r2, .ref (q + 1)] (I1, L, R, am_SH) (po_M_come L R Q)
      refine am_iload_n (n := 52) d_M_come_51 rfl rfl ?_
      obtain ⟨g1, h⟩ := h
      refine am_iast2 (n := 53) d_M_come_52 rfl (am_sho (k := 0) (o := 1) hq (by decide) (by decide) (by decide) rfl) g1 rfl ?_
      generalize eI2 : am_u2 I1 (q + 1) (Int32.toNatClampNeg r2) p1 = I2
      have h := h I2 eI2.symm
      refine am_aload_n (n := 54) d_M_come_53 rfl rfl ?_
      refine am_getR (x := (q + 1)) (n := 57) f_M_7 d_M_come_54 rfl rfl hq (hw.1 q 12 0 1 hq rfl) ?_
      refine am_iload_n (n := 58) d_M_come_57 rfl rfl ?_
      refine am_callS (kc := 0) (ks := 0) (As := [.int (I (q + 1) 3)]) (n := 61) d_M_come_58 rfl ce_M_hearerRow lk_M_241 st_M_hearerRow rfl rfl (Nat.le_of_ble_eq_true rfl) (Or.inl rfl) (cm_M_hearerRow (d := d - 1) hw (by omega)  h) (by omega) ?_
      rintro _ _ ⟨r3, rfl, rfl, h⟩
      show am_Wp (d, "UnseenRingModel", b_M_come, 3, false) 0 0 61 [some (.ref q), some (.int p1), some (.int (I (q + 1) 3))] [.int r3, .ref (q + 1)] (I2, L, R, am_SH) (po_M_come L R Q)
      refine am_iconst (n := 62) d_M_come_61 ci_1 rfl ?_
      refine am_iadd (n := 63) d_M_come_62 rfl ?_
      refine am_iconst (n := 64) d_M_come_63 ci_0 rfl ?_
      obtain ⟨g2, h⟩ := h
      refine am_iast2 (n := 65) d_M_come_64 rfl (am_sho (k := 0) (o := 1) hq (by decide) (by decide) (by decide) rfl) g2 rfl ?_
      generalize eI3 : am_u2 I2 (q + 1) (Int32.toNatClampNeg (r3 + 1)) 0 = I3
      have h := h I3 eI3.symm
      refine am_aload_n (n := 66) d_M_come_65 rfl rfl ?_
      refine am_getR (x := (q + 1)) (n := 69) f_M_7 d_M_come_66 rfl rfl hq (hw.1 q 12 0 1 hq rfl) ?_
      refine am_iload_n (n := 70) d_M_come_69 rfl rfl ?_
      refine am_callS (kc := 0) (ks := 0) (As := [.int (I (q + 1) 3)]) (n := 73) d_M_come_70 rfl ce_M_hearerRow lk_M_241 st_M_hearerRow rfl rfl (Nat.le_of_ble_eq_true rfl) (Or.inl rfl) (cm_M_hearerRow (d := d - 1) hw (by omega)  h) (by omega) ?_
      rintro _ _ ⟨r4, rfl, rfl, h⟩
      show am_Wp (d, "UnseenRingModel", b_M_come, 3, false) 0 0 73 [some (.ref q), some (.int p1), some (.int (I (q + 1) 3))] [.int r4, .ref (q + 1)] (I3, L, R, am_SH) (po_M_come L R Q)
      refine am_iconst (n := 74) d_M_come_73 ci_2 rfl ?_
      refine am_iadd (n := 75) d_M_come_74 rfl ?_
      refine am_iconst (n := 76) d_M_come_75 ci_3 rfl ?_
      obtain ⟨g3, h⟩ := h
      refine am_iast2 (n := 77) d_M_come_76 rfl (am_sho (k := 0) (o := 1) hq (by decide) (by decide) (by decide) rfl) g3 rfl ?_
      generalize eI4 : am_u2 I3 (q + 1) (Int32.toNatClampNeg (r4 + 2)) 3 = I4
      have h := h I4 eI4.symm
      refine am_aload_n (n := 78) d_M_come_77 rfl rfl ?_
      refine am_getR (x := (q + 1)) (n := 81) f_M_7 d_M_come_78 rfl rfl hq (hw.1 q 12 0 1 hq rfl) ?_
      refine am_iload_n (n := 82) d_M_come_81 rfl rfl ?_
      refine am_callS (kc := 0) (ks := 0) (As := [.int (I (q + 1) 3)]) (n := 85) d_M_come_82 rfl ce_M_hearerRow lk_M_241 st_M_hearerRow rfl rfl (Nat.le_of_ble_eq_true rfl) (Or.inl rfl) (cm_M_hearerRow (d := d - 1) hw (by omega)  h) (by omega) ?_
      rintro _ _ ⟨r5, rfl, rfl, h⟩
      show am_Wp (d, "UnseenRingModel", b_M_come, 3, false) 0 0 85 [some (.ref q), some (.int p1), some (.int (I (q + 1) 3))] [.int r5, .ref (q + 1)] (I4, L, R, am_SH) (po_M_come L R Q)
      refine am_iconst (n := 86) d_M_come_85 ci_3 rfl ?_
      refine am_iadd (n := 87) d_M_come_86 rfl ?_
      refine am_iconst (n := 88) d_M_come_87 ci_0 rfl ?_
      obtain ⟨g4, h⟩ := h
      refine am_iast2 (n := 89) d_M_come_88 rfl (am_sho (k := 0) (o := 1) hq (by decide) (by decide) (by decide) rfl) g4 rfl ?_
      generalize eI5 : am_u2 I4 (q + 1) (Int32.toNatClampNeg (r5 + 3)) 0 = I5
      have h := h I5 eI5.symm
      refine am_aload_n (n := 90) d_M_come_89 rfl rfl ?_
      refine am_iload_n (n := 91) d_M_come_90 rfl rfl ?_
      refine am_callV (kc := 0) (ks := 0) (As := [.int (I (q + 1) 3)]) (n := 94) d_M_come_91 rfl ce_M_gives lk_M_125 in_M_gives rfl rfl hq rfl rfl (Nat.le_of_ble_eq_true rfl) (Or.inl rfl) (cm_M_gives (d := d - 1) hw (by omega) hq h) (by omega) ?_
      rintro _ _ ⟨r6, I6, rfl, rfl, h⟩
      show am_Wp (d, "UnseenRingModel", b_M_come, 3, false) 0 0 94 [some (.ref q), some (.int p1), some (.int (I (q + 1) 3))] [.int r6] (I6, L, R, am_SH) (po_M_come L R Q)
      exact am_iret d_M_come_94 ⟨r6, I6, rfl, rfl, h⟩
    · have h := h.1 c2
      refine am_aload_n (n := 28) d_M_come_27 rfl rfl ?_
      refine am_iconst (n := 29) d_M_come_28 ci_4 rfl ?_
      refine am_callV (kc := 0) (ks := 0) (As := [.int 4]) (n := 32) d_M_come_29 rfl ce_M_refuse lk_M_121 in_M_refuse rfl rfl hq rfl rfl (Nat.le_of_ble_eq_true rfl) (Or.inl rfl) (cm_M_refuse (d := d - 1) hw (by omega) hq h) (by omega) ?_
      rintro _ _ ⟨r7, I7, rfl, rfl, h⟩
      show am_Wp (d, "UnseenRingModel", b_M_come, 3, false) 0 0 32 [some (.ref q), some (.int p1), some (.int (I (q + 1) 3))] [.int r7] (I7, L, R, am_SH) (po_M_come L R Q)
      exact am_iret d_M_come_32 ⟨r7, I7, rfl, rfl, h⟩
  · have h := h.1 (am_b_0 c1)
    refine am_aload_n (n := 9) d_M_come_8 rfl rfl ?_
    refine am_iconst (n := 10) d_M_come_9 ci_1 rfl ?_
    refine am_callV (kc := 0) (ks := 0) (As := [.int 1]) (n := 13) d_M_come_10 rfl ce_M_refuse lk_M_121 in_M_refuse rfl rfl hq rfl rfl (Nat.le_of_ble_eq_true rfl) (Or.inl rfl) (cm_M_refuse (d := d - 1) hw (by omega) hq h) (by omega) ?_
    rintro _ _ ⟨r8, I8, rfl, rfl, h⟩
    show am_Wp (d, "UnseenRingModel", b_M_come, 3, false) 0 0 13 [some (.ref q), some (.int p1), none] [.int r8] (I8, L, R, am_SH) (po_M_come L R Q)
    exact am_iret d_M_come_13 ⟨r8, I8, rfl, rfl, h⟩
abbrev po_M_empties (L : am_TL) (R : am_TR) (Q : Int32 → am_TI → Prop) : Option Value → am_St → Prop := fun r σ' => ∃ (x : Int32) (I' : am_TI), r = some (.int x) ∧ σ' = (I', L, R, am_SH) ∧ Q x I'
def wp_M_empties (I : am_TI) (L : am_TL) (R : am_TR) (q : Nat)  (Q : Int32 → am_TI → Prop) : Prop := (∀ I1, I1 = am_u2 I (q + 1) 8 0 → Q (I (q + 1) 8) I1)
set_option maxRecDepth 20000 in
theorem cm_M_empties {d : Nat} {I : am_TI} {L : am_TL} {R : am_TR}  (hw : am_Wf R)   {q : Nat} {Q : Int32 → am_TI → Prop} (hd : 0 ≤ d) (hq : am_SH[q]? = some (.inl 12)) (h : wp_M_empties I L R q  Q) : am_Cm d 0 0 y_M_empties b_M_empties 2 (some .int) [.ref q] (I, L, R, am_SH) (po_M_empties L R Q) := by
  refine am_Cm_of (ini := false) (by decide +kernel) (fun z => by cases z) (by simp [Value.category]) (fun r σ' z => by obtain ⟨x, _, rfl, -⟩ := z; exact ⟨_, rfl, rfl⟩) ?_
  unfold wp_M_empties at h
  show am_Wp (d, "UnseenRingModel", b_M_empties, 2, false) 0 0 0 [some (.ref q), none] [] (I, L, R, am_SH) (po_M_empties L R Q)
  refine am_aload_n (n := 1) d_M_empties_0 rfl rfl ?_
  refine am_getR (x := (q + 1)) (n := 4) f_M_7 d_M_empties_1 rfl rfl hq (hw.1 q 12 0 1 hq rfl) ?_
  refine am_bipush (n := 6) d_M_empties_4 cb_8 rfl ?_
  refine am_iald2 (n := 7) d_M_empties_6 rfl (am_sho (k := 0) (o := 1) hq (by decide) (by decide) (by decide) rfl) cx_8_2258 cn_8 ?_
  refine am_istore_n (ls' := [some (.ref q), some (.int (I (q + 1) 8))]) (n := 8) d_M_empties_7 (by decide) rfl rfl ?_
  refine am_aload_n (n := 9) d_M_empties_8 rfl rfl ?_
  refine am_getR (x := (q + 1)) (n := 12) f_M_7 d_M_empties_9 rfl rfl hq (hw.1 q 12 0 1 hq rfl) ?_
  refine am_bipush (n := 14) d_M_empties_12 cb_8 rfl ?_
  refine am_iconst (n := 15) d_M_empties_14 ci_0 rfl ?_
  refine am_iast2 (n := 16) d_M_empties_15 rfl (am_sho (k := 0) (o := 1) hq (by decide) (by decide) (by decide) rfl) cx_8_2258 cn_8 ?_
  generalize eI1 : am_u2 I (q + 1) 8 0 = I1
  have h := h I1 eI1.symm
  refine am_iload_n (n := 17) d_M_empties_16 rfl rfl ?_
  exact am_iret d_M_empties_17 ⟨(I (q + 1) 8), I1, rfl, rfl, h⟩
abbrev po_M_empty (L : am_TL) (R : am_TR) (Q : Int32 → am_TI → Prop) : Option Value → am_St → Prop := fun r σ' => ∃ (x : Int32) (I' : am_TI), r = some (.int x) ∧ σ' = (I', L, R, am_SH) ∧ Q x I'
def wp_M_empty (I : am_TI) (L : am_TL) (R : am_TR) (q : Nat)  (Q : Int32 → am_TI → Prop) : Prop := wp_M_empties I L R q (fun (r1 : Int32) (I1 : am_TI) => ((r1 = 0 → wp_M_refuse I1 L R q 7 (fun (r3 : Int32) (I3 : am_TI) => Q r3 I3)) ∧ (¬ r1 = 0 → wp_M_gives I1 L R q r1 (fun (r2 : Int32) (I2 : am_TI) => Q r2 I2))))
set_option maxRecDepth 20000 in
theorem cm_M_empty {d : Nat} {I : am_TI} {L : am_TL} {R : am_TR}  (hw : am_Wf R)   {q : Nat} {Q : Int32 → am_TI → Prop} (hd : 1 ≤ d) (hq : am_SH[q]? = some (.inl 12)) (h : wp_M_empty I L R q  Q) : am_Cm d 0 0 y_M_empty b_M_empty 2 (some .int) [.ref q] (I, L, R, am_SH) (po_M_empty L R Q) := by
  refine am_Cm_of (ini := false) (by decide +kernel) (fun z => by cases z) (by simp [Value.category]) (fun r σ' z => by obtain ⟨x, _, rfl, -⟩ := z; exact ⟨_, rfl, rfl⟩) ?_
  unfold wp_M_empty at h
  show am_Wp (d, "UnseenRingModel", b_M_empty, 2, false) 0 0 0 [some (.ref q), none] [] (I, L, R, am_SH) (po_M_empty L R Q)
  refine am_aload_n (n := 1) d_M_empty_0 rfl rfl ?_
  refine am_callV (kc := 0) (ks := 0) (As := []) (n := 4) d_M_empty_1 rfl ce_M_empties lk_M_369 in_M_empties rfl rfl hq rfl rfl (Nat.le_of_ble_eq_true rfl) (Or.inl rfl) (cm_M_empties (d := d - 1) hw (by omega) hq h) (by omega) ?_
  rintro _ _ ⟨r1, I1, rfl, rfl, h⟩
  show am_Wp (d, "UnseenRingModel", b_M_empty, 2, false) 0 0 4 [some (.ref q), none] [.int r1] (I1, L, R, am_SH) (po_M_empty L R Q)
  refine am_istore_n (ls' := [some (.ref q), some (.int r1)]) (n := 5) d_M_empty_4 (by decide) rfl rfl ?_
  refine am_iload_n (n := 6) d_M_empty_5 rfl rfl ?_
  refine am_if_ne (y := 0) (tgt := 18) (n := 9) d_M_empty_6 rfl rfl (fun c1 => ?_) (fun c1 => ?_)
  · have h := h.2 c1
    refine am_aload_n (n := 19) d_M_empty_18 rfl rfl ?_
    refine am_iload_n (n := 20) d_M_empty_19 rfl rfl ?_
    refine am_callV (kc := 0) (ks := 0) (As := [.int r1]) (n := 23) d_M_empty_20 rfl ce_M_gives lk_M_125 in_M_gives rfl rfl hq rfl rfl (Nat.le_of_ble_eq_true rfl) (Or.inl rfl) (cm_M_gives (d := d - 1) hw (by omega) hq h) (by omega) ?_
    rintro _ _ ⟨r2, I2, rfl, rfl, h⟩
    show am_Wp (d, "UnseenRingModel", b_M_empty, 2, false) 0 0 23 [some (.ref q), some (.int r1)] [.int r2] (I2, L, R, am_SH) (po_M_empty L R Q)
    exact am_iret d_M_empty_23 ⟨r2, I2, rfl, rfl, h⟩
  · have h := h.1 c1
    refine am_aload_n (n := 10) d_M_empty_9 rfl rfl ?_
    refine am_bipush (n := 12) d_M_empty_10 cb_7 rfl ?_
    refine am_callV (kc := 0) (ks := 0) (As := [.int 7]) (n := 15) d_M_empty_12 rfl ce_M_refuse lk_M_121 in_M_refuse rfl rfl hq rfl rfl (Nat.le_of_ble_eq_true rfl) (Or.inl rfl) (cm_M_refuse (d := d - 1) hw (by omega) hq h) (by omega) ?_
    rintro _ _ ⟨r3, I3, rfl, rfl, h⟩
    show am_Wp (d, "UnseenRingModel", b_M_empty, 2, false) 0 0 15 [some (.ref q), some (.int r1)] [.int r3] (I3, L, R, am_SH) (po_M_empty L R Q)
    refine am_goto (tgt := 23) d_M_empty_15 rfl ?_
    exact am_iret d_M_empty_23 ⟨r3, I3, rfl, rfl, h⟩
abbrev po_M_rule (L : am_TL) (R : am_TR) (Q : Bool → am_TI → Prop) : Option Value → am_St → Prop := fun r σ' => ∃ (x : Bool) (I' : am_TI), r = some (.int (am_b x)) ∧ σ' = (I', L, R, am_SH) ∧ Q x I'
def wp_M_rule (I : am_TI) (L : am_TL) (R : am_TR) (q : Nat) (p1 : Int32)  (Q : Bool → am_TI → Prop) : Prop := wp_M_isFrom I L R (Int32.toInt64 p1) 0 16 (fun (r1 : Bool) => ((r1 = false → wp_M_is I L R q 1 (fun (r3 : Bool) (I3 : am_TI) => Q r3 I3)) ∧ (r1 = true → (∀ I1, I1 = am_u2 I (q + 1) 5 p1 → wp_M_is I1 L R q 0 (fun (r2 : Bool) (I2 : am_TI) => Q r2 I2)))))
set_option maxRecDepth 20000 in
theorem cm_M_rule {d : Nat} {I : am_TI} {L : am_TL} {R : am_TR}  (hw : am_Wf R)   {q : Nat} {p1 : Int32} {Q : Bool → am_TI → Prop} (hd : 1 ≤ d) (hq : am_SH[q]? = some (.inl 12)) (h : wp_M_rule I L R q p1  Q) : am_Cm d 0 0 y_M_rule b_M_rule 2 (some .boolean) [.ref q, .int p1] (I, L, R, am_SH) (po_M_rule L R Q) := by
  refine am_Cm_of (ini := false) (by decide +kernel) (fun z => by cases z) (by simp [Value.category]) (fun r σ' z => by obtain ⟨x, _, rfl, -⟩ := z; exact ⟨_, rfl, am_b_nar x⟩) ?_
  unfold wp_M_rule at h
  show am_Wp (d, "UnseenRingModel", b_M_rule, 2, false) 0 0 0 [some (.ref q), some (.int p1)] [] (I, L, R, am_SH) (po_M_rule L R Q)
  refine am_iload_n (n := 1) d_M_rule_0 rfl rfl ?_
  refine am_i2l (n := 2) d_M_rule_1 rfl ?_
  refine am_lconst (v := 0) (n := 3) d_M_rule_2 rfl rfl ?_
  refine am_ldc2 (n := 6) d_M_rule_3 k_M_372 rfl ?_
  refine am_callS (kc := 0) (ks := 0) (As := [.long (Int32.toInt64 p1), .long 0, .long 16]) (n := 9) d_M_rule_6 rfl ce_M_isFrom lk_M_306 st_M_isFrom rfl rfl (Nat.le_of_ble_eq_true rfl) (Or.inl rfl) (cm_M_isFrom (d := d - 1) hw (by omega)  h) (by omega) ?_
  rintro _ _ ⟨r1, rfl, rfl, h⟩
  show am_Wp (d, "UnseenRingModel", b_M_rule, 2, false) 0 0 9 [some (.ref q), some (.int p1)] [.int (am_b r1)] (I, L, R, am_SH) (po_M_rule L R Q)
  refine am_if_ne (y := 0) (tgt := 18) (n := 12) d_M_rule_9 rfl rfl (fun c1 => ?_) (fun c1 => ?_)
  · have h := h.2 (am_b_n0 c1)
    refine am_aload_n (n := 19) d_M_rule_18 rfl rfl ?_
    refine am_getR (x := (q + 1)) (n := 22) f_M_7 d_M_rule_19 rfl rfl hq (hw.1 q 12 0 1 hq rfl) ?_
    refine am_iconst (n := 23) d_M_rule_22 ci_5 rfl ?_
    refine am_iload_n (n := 24) d_M_rule_23 rfl rfl ?_
    refine am_iast2 (n := 25) d_M_rule_24 rfl (am_sho (k := 0) (o := 1) hq (by decide) (by decide) (by decide) rfl) cx_5_2258 cn_5 ?_
    generalize eI1 : am_u2 I (q + 1) 5 p1 = I1
    have h := h I1 eI1.symm
    refine am_aload_n (n := 26) d_M_rule_25 rfl rfl ?_
    refine am_iconst (n := 27) d_M_rule_26 ci_0 rfl ?_
    refine am_callV (kc := 0) (ks := 0) (As := [.int 0]) (n := 30) d_M_rule_27 rfl ce_M_is lk_M_128 in_M_is rfl rfl hq rfl rfl (Nat.le_of_ble_eq_true rfl) (Or.inl rfl) (cm_M_is (d := d - 1) hw (by omega) hq h) (by omega) ?_
    rintro _ _ ⟨r2, I2, rfl, rfl, h⟩
    show am_Wp (d, "UnseenRingModel", b_M_rule, 2, false) 0 0 30 [some (.ref q), some (.int p1)] [.int (am_b r2)] (I2, L, R, am_SH) (po_M_rule L R Q)
    exact am_iret d_M_rule_30 ⟨r2, I2, rfl, rfl, h⟩
  · have h := h.1 (am_b_0 c1)
    refine am_aload_n (n := 13) d_M_rule_12 rfl rfl ?_
    refine am_iconst (n := 14) d_M_rule_13 ci_1 rfl ?_
    refine am_callV (kc := 0) (ks := 0) (As := [.int 1]) (n := 17) d_M_rule_14 rfl ce_M_is lk_M_128 in_M_is rfl rfl hq rfl rfl (Nat.le_of_ble_eq_true rfl) (Or.inl rfl) (cm_M_is (d := d - 1) hw (by omega) hq h) (by omega) ?_
    rintro _ _ ⟨r3, I3, rfl, rfl, h⟩
    show am_Wp (d, "UnseenRingModel", b_M_rule, 2, false) 0 0 17 [some (.ref q), some (.int p1)] [.int (am_b r3)] (I3, L, R, am_SH) (po_M_rule L R Q)
    exact am_iret d_M_rule_17 ⟨r3, I3, rfl, rfl, h⟩
abbrev po_M_keeps (L : am_TL) (R : am_TR) (Q : am_TI → Prop) : Option Value → am_St → Prop := fun r σ' => ∃ (I' : am_TI), r = none ∧ σ' = (I', L, R, am_SH) ∧ Q I'
def wl_M_keeps_2 (L : am_TL) (R : am_TR) (q : Nat) (p1 : Int32) (Q : am_TI → Prop)  : Nat → am_TI → Int32 → Prop
  | 0 => fun _ _ => False
  | f2 + 1 => fun I v2 => ((38 ≤ v2 → Q I) ∧ (¬ 38 ≤ v2 → (vp_in v2 2258 ∧ (vp_in (p1 + v2) 2258 ∧ (∀ I1, I1 = am_u2 I (q + 1) (Int32.toNatClampNeg (p1 + v2)) (I (q + 1) (Int32.toNatClampNeg v2)) → wl_M_keeps_2 L R q p1 Q f2 I1 (v2 + 1))))))
set_option maxRecDepth 20000 in
theorem tl_M_keeps_2 {d : Nat}  {L : am_TL} {R : am_TR} {q : Nat} {p1 : Int32} {Q : am_TI → Prop}  (hw : am_Wf R) (hq : am_SH[q]? = some (.inl 12)) (hd : 0 ≤ d) : ∀ (n : Nat) (I : am_TI) (v2 : Int32), wl_M_keeps_2 L R q p1 Q  n I v2 → am_Wp (d, "UnseenRingModel", b_M_keeps, 3, false) 0 0 2 [some (.ref q), some (.int p1), some (.int v2)] [] (I, L, R, am_SH) (po_M_keeps L R Q) := by
  intro n
  induction n with
  | zero => intro I v2 h; exact h.elim
  | succ n ih =>
    intro I v2 h
    unfold wl_M_keeps_2 at h
    refine am_iload_n (n := 3) d_M_keeps_2 rfl rfl ?_
    refine am_bipush (n := 5) d_M_keeps_3 cb_38 rfl ?_
    refine am_icmp_ge (tgt := 28) (n := 8) d_M_keeps_5 rfl rfl (fun c1 => ?_) (fun c1 => ?_)
    · have h := h.1 c1
      exact am_vret d_M_keeps_28 ⟨I, rfl, rfl, h⟩
    · have h := h.2 c1
      refine am_aload_n (n := 9) d_M_keeps_8 rfl rfl ?_
      refine am_getR (x := (q + 1)) (n := 12) f_M_7 d_M_keeps_9 rfl rfl hq (hw.1 q 12 0 1 hq rfl) ?_
      refine am_iload_n (n := 13) d_M_keeps_12 rfl rfl ?_
      refine am_iload_n (n := 14) d_M_keeps_13 rfl rfl ?_
      refine am_iadd (n := 15) d_M_keeps_14 rfl ?_
      refine am_aload_n (n := 16) d_M_keeps_15 rfl rfl ?_
      refine am_getR (x := (q + 1)) (n := 19) f_M_7 d_M_keeps_16 rfl rfl hq (hw.1 q 12 0 1 hq rfl) ?_
      refine am_iload_n (n := 20) d_M_keeps_19 rfl rfl ?_
      obtain ⟨g1, h⟩ := h
      refine am_iald2 (n := 21) d_M_keeps_20 rfl (am_sho (k := 0) (o := 1) hq (by decide) (by decide) (by decide) rfl) g1 rfl ?_
      obtain ⟨g2, h⟩ := h
      refine am_iast2 (n := 22) d_M_keeps_21 rfl (am_sho (k := 0) (o := 1) hq (by decide) (by decide) (by decide) rfl) g2 rfl ?_
      generalize eI1 : am_u2 I (q + 1) (Int32.toNatClampNeg (p1 + v2)) (I (q + 1) (Int32.toNatClampNeg v2)) = I1
      have h := h I1 eI1.symm
      refine am_iinc (v := v2 + 1) (ls' := [some (.ref q), some (.int p1), some (.int (v2 + 1))]) (n := 25) d_M_keeps_22 rfl (congrArg _ ci_1) (by decide) rfl rfl ?_
      refine am_goto (tgt := 2) d_M_keeps_25 rfl ?_
      exact ih I1 (v2 + 1)  h
def wp_M_keeps (I : am_TI) (L : am_TL) (R : am_TR) (q : Nat) (p1 : Int32)  (Q : am_TI → Prop) : Prop := (∃ z, wl_M_keeps_2 L R q p1 Q z I 0)
set_option maxRecDepth 20000 in
theorem cm_M_keeps {d : Nat} {I : am_TI} {L : am_TL} {R : am_TR}  (hw : am_Wf R)   {q : Nat} {p1 : Int32} {Q : am_TI → Prop} (hd : 0 ≤ d) (hq : am_SH[q]? = some (.inl 12)) (h : wp_M_keeps I L R q p1  Q) : am_Cm d 0 0 y_M_keeps b_M_keeps 3 (none) [.ref q, .int p1] (I, L, R, am_SH) (po_M_keeps L R Q) := by
  refine am_Cm_of (ini := false) (by decide +kernel) (fun z => by cases z) (by simp [Value.category]) (fun r σ' z => by obtain ⟨_, rfl, -⟩ := z; rfl) ?_
  unfold wp_M_keeps at h
  show am_Wp (d, "UnseenRingModel", b_M_keeps, 3, false) 0 0 0 [some (.ref q), some (.int p1), none] [] (I, L, R, am_SH) (po_M_keeps L R Q)
  refine am_iconst (n := 1) d_M_keeps_0 ci_0 rfl ?_
  refine am_istore_n (ls' := [some (.ref q), some (.int p1), some (.int 0)]) (n := 2) d_M_keeps_1 (by decide) rfl rfl ?_
  obtain ⟨n, h⟩ := h
  exact tl_M_keeps_2 hw hq hd n I 0 h
abbrev po_M_restores (L : am_TL) (R : am_TR) (Q : am_TI → Prop) : Option Value → am_St → Prop := fun r σ' => ∃ (I' : am_TI), r = none ∧ σ' = (I', L, R, am_SH) ∧ Q I'
def wl_M_restores_2 (L : am_TL) (R : am_TR) (q : Nat) (p1 : Int32) (Q : am_TI → Prop)  : Nat → am_TI → Int32 → Prop
  | 0 => fun _ _ => False
  | f2 + 1 => fun I v2 => ((38 ≤ v2 → Q I) ∧ (¬ 38 ≤ v2 → (vp_in (p1 + v2) 2258 ∧ (vp_in v2 2258 ∧ (∀ I1, I1 = am_u2 I (q + 1) (Int32.toNatClampNeg v2) (I (q + 1) (Int32.toNatClampNeg (p1 + v2))) → wl_M_restores_2 L R q p1 Q f2 I1 (v2 + 1))))))
set_option maxRecDepth 20000 in
theorem tl_M_restores_2 {d : Nat}  {L : am_TL} {R : am_TR} {q : Nat} {p1 : Int32} {Q : am_TI → Prop}  (hw : am_Wf R) (hq : am_SH[q]? = some (.inl 12)) (hd : 0 ≤ d) : ∀ (n : Nat) (I : am_TI) (v2 : Int32), wl_M_restores_2 L R q p1 Q  n I v2 → am_Wp (d, "UnseenRingModel", b_M_restores, 3, false) 0 0 2 [some (.ref q), some (.int p1), some (.int v2)] [] (I, L, R, am_SH) (po_M_restores L R Q) := by
  intro n
  induction n with
  | zero => intro I v2 h; exact h.elim
  | succ n ih =>
    intro I v2 h
    unfold wl_M_restores_2 at h
    refine am_iload_n (n := 3) d_M_restores_2 rfl rfl ?_
    refine am_bipush (n := 5) d_M_restores_3 cb_38 rfl ?_
    refine am_icmp_ge (tgt := 28) (n := 8) d_M_restores_5 rfl rfl (fun c1 => ?_) (fun c1 => ?_)
    · have h := h.1 c1
      exact am_vret d_M_restores_28 ⟨I, rfl, rfl, h⟩
    · have h := h.2 c1
      refine am_aload_n (n := 9) d_M_restores_8 rfl rfl ?_
      refine am_getR (x := (q + 1)) (n := 12) f_M_7 d_M_restores_9 rfl rfl hq (hw.1 q 12 0 1 hq rfl) ?_
      refine am_iload_n (n := 13) d_M_restores_12 rfl rfl ?_
      refine am_aload_n (n := 14) d_M_restores_13 rfl rfl ?_
      refine am_getR (x := (q + 1)) (n := 17) f_M_7 d_M_restores_14 rfl rfl hq (hw.1 q 12 0 1 hq rfl) ?_
      refine am_iload_n (n := 18) d_M_restores_17 rfl rfl ?_
      refine am_iload_n (n := 19) d_M_restores_18 rfl rfl ?_
      refine am_iadd (n := 20) d_M_restores_19 rfl ?_
      obtain ⟨g1, h⟩ := h
      refine am_iald2 (n := 21) d_M_restores_20 rfl (am_sho (k := 0) (o := 1) hq (by decide) (by decide) (by decide) rfl) g1 rfl ?_
      obtain ⟨g2, h⟩ := h
      refine am_iast2 (n := 22) d_M_restores_21 rfl (am_sho (k := 0) (o := 1) hq (by decide) (by decide) (by decide) rfl) g2 rfl ?_
      generalize eI1 : am_u2 I (q + 1) (Int32.toNatClampNeg v2) (I (q + 1) (Int32.toNatClampNeg (p1 + v2))) = I1
      have h := h I1 eI1.symm
      refine am_iinc (v := v2 + 1) (ls' := [some (.ref q), some (.int p1), some (.int (v2 + 1))]) (n := 25) d_M_restores_22 rfl (congrArg _ ci_1) (by decide) rfl rfl ?_
      refine am_goto (tgt := 2) d_M_restores_25 rfl ?_
      exact ih I1 (v2 + 1)  h
def wp_M_restores (I : am_TI) (L : am_TL) (R : am_TR) (q : Nat) (p1 : Int32)  (Q : am_TI → Prop) : Prop := (∃ z, wl_M_restores_2 L R q p1 Q z I 0)
set_option maxRecDepth 20000 in
theorem cm_M_restores {d : Nat} {I : am_TI} {L : am_TL} {R : am_TR}  (hw : am_Wf R)   {q : Nat} {p1 : Int32} {Q : am_TI → Prop} (hd : 0 ≤ d) (hq : am_SH[q]? = some (.inl 12)) (h : wp_M_restores I L R q p1  Q) : am_Cm d 0 0 y_M_restores b_M_restores 3 (none) [.ref q, .int p1] (I, L, R, am_SH) (po_M_restores L R Q) := by
  refine am_Cm_of (ini := false) (by decide +kernel) (fun z => by cases z) (by simp [Value.category]) (fun r σ' z => by obtain ⟨_, rfl, -⟩ := z; rfl) ?_
  unfold wp_M_restores at h
  show am_Wp (d, "UnseenRingModel", b_M_restores, 3, false) 0 0 0 [some (.ref q), some (.int p1), none] [] (I, L, R, am_SH) (po_M_restores L R Q)
  refine am_iconst (n := 1) d_M_restores_0 ci_0 rfl ?_
  refine am_istore_n (ls' := [some (.ref q), some (.int p1), some (.int 0)]) (n := 2) d_M_restores_1 (by decide) rfl rfl ?_
  obtain ⟨n, h⟩ := h
  exact tl_M_restores_2 hw hq hd n I 0 h
abbrev po_M_comesBy (L : am_TL) (R : am_TR) (Q : Int32 → am_TI → Prop) : Option Value → am_St → Prop := fun r σ' => ∃ (x : Int32) (I' : am_TI), r = some (.int x) ∧ σ' = (I', L, R, am_SH) ∧ Q x I'
def wl_M_comesBy_21 (L : am_TL) (R : am_TR) (q : Nat) (p1 : Int32) (p2 : Int32) (p3 : Int32) (Q : Int32 → am_TI → Prop)  : Nat → am_TI → Int32 → Int32 → Prop
  | 0 => fun _ _ _ => False
  | f21 + 1 => fun I v4 v5 => ((p3 ≤ v5 → wp_M_restores I L R q 2030 (fun (I3 : am_TI) => Q v4 I3)) ∧ (¬ p3 ≤ v5 → wp_M_plays I L R q p2 (fun (r1 : Int32) (I4 : am_TI) => wl_M_comesBy_21 L R q p1 p2 p3 Q f21 I4 (v4 + r1) (v5 + 1))))
set_option maxRecDepth 20000 in
theorem tl_M_comesBy_21 {d : Nat}  {L : am_TL} {R : am_TR} {q : Nat} {p1 : Int32} {p2 : Int32} {p3 : Int32} {Q : Int32 → am_TI → Prop}  (hw : am_Wf R) (hq : am_SH[q]? = some (.inl 12)) (hd : 2 ≤ d) : ∀ (n : Nat) (I : am_TI) (v4 : Int32) (v5 : Int32), wl_M_comesBy_21 L R q p1 p2 p3 Q  n I v4 v5 → am_Wp (d, "UnseenRingModel", b_M_comesBy, 6, false) 0 0 21 [some (.ref q), some (.int p1), some (.int p2), some (.int p3), some (.int v4), some (.int v5)] [] (I, L, R, am_SH) (po_M_comesBy L R Q) := by
  intro n
  induction n with
  | zero => intro I v4 v5 h; exact h.elim
  | succ n ih =>
    intro I v4 v5 h
    unfold wl_M_comesBy_21 at h
    refine am_iload (n := 23) d_M_comesBy_21 rfl rfl ?_
    refine am_iload_n (n := 24) d_M_comesBy_23 rfl rfl ?_
    refine am_icmp_ge (tgt := 43) (n := 27) d_M_comesBy_24 rfl rfl (fun c1 => ?_) (fun c1 => ?_)
    · have h := h.1 c1
      refine am_aload_n (n := 44) d_M_comesBy_43 rfl rfl ?_
      refine am_sipush (n := 47) d_M_comesBy_44 cs_2030 rfl ?_
      refine am_callV (kc := 0) (ks := 0) (As := [.int 2030]) (n := 50) d_M_comesBy_47 rfl ce_M_restores lk_M_377 in_M_restores rfl rfl hq rfl rfl (Nat.le_of_ble_eq_true rfl) (Or.inl rfl) (cm_M_restores (d := d - 1) hw (by omega) hq h) (by omega) ?_
      rintro _ _ ⟨I3, rfl, rfl, h⟩
      show am_Wp (d, "UnseenRingModel", b_M_comesBy, 6, false) 0 0 50 [some (.ref q), some (.int p1), some (.int p2), some (.int p3), some (.int v4), some (.int v5)] [] (I3, L, R, am_SH) (po_M_comesBy L R Q)
      refine am_iload (n := 52) d_M_comesBy_50 rfl rfl ?_
      exact am_iret d_M_comesBy_52 ⟨v4, I3, rfl, rfl, h⟩
    · have h := h.2 c1
      refine am_iload (n := 29) d_M_comesBy_27 rfl rfl ?_
      refine am_aload_n (n := 30) d_M_comesBy_29 rfl rfl ?_
      refine am_iload_n (n := 31) d_M_comesBy_30 rfl rfl ?_
      refine am_callV (kc := 0) (ks := 0) (As := [.int p2]) (n := 34) d_M_comesBy_31 rfl ce_M_plays lk_M_349 in_M_plays rfl rfl hq rfl rfl (Nat.le_of_ble_eq_true rfl) (Or.inl rfl) (cm_M_plays (d := d - 1) hw (by omega) hq h) (by omega) ?_
      rintro _ _ ⟨r1, I4, rfl, rfl, h⟩
      show am_Wp (d, "UnseenRingModel", b_M_comesBy, 6, false) 0 0 34 [some (.ref q), some (.int p1), some (.int p2), some (.int p3), some (.int v4), some (.int v5)] [.int r1, .int v4] (I4, L, R, am_SH) (po_M_comesBy L R Q)
      refine am_iadd (n := 35) d_M_comesBy_34 rfl ?_
      refine am_istore (ls' := [some (.ref q), some (.int p1), some (.int p2), some (.int p3), some (.int (v4 + r1)), some (.int v5)]) (n := 37) d_M_comesBy_35 (by decide) rfl rfl ?_
      refine am_iinc (v := v5 + 1) (ls' := [some (.ref q), some (.int p1), some (.int p2), some (.int p3), some (.int (v4 + r1)), some (.int (v5 + 1))]) (n := 40) d_M_comesBy_37 rfl (congrArg _ ci_1) (by decide) rfl rfl ?_
      refine am_goto (tgt := 21) d_M_comesBy_40 rfl ?_
      exact ih I4 (v4 + r1) (v5 + 1)  h
def wp_M_comesBy (I : am_TI) (L : am_TL) (R : am_TR) (q : Nat) (p1 : Int32) (p2 : Int32) (p3 : Int32)  (Q : Int32 → am_TI → Prop) : Prop := wp_M_keeps I L R q 2030 (fun (I1 : am_TI) => (∀ I2, I2 = am_u2 I1 (q + 1) 6 p1 → (∃ z, wl_M_comesBy_21 L R q p1 p2 p3 Q z I2 0 0)))
set_option maxRecDepth 20000 in
theorem cm_M_comesBy {d : Nat} {I : am_TI} {L : am_TL} {R : am_TR}  (hw : am_Wf R)   {q : Nat} {p1 : Int32} {p2 : Int32} {p3 : Int32} {Q : Int32 → am_TI → Prop} (hd : 2 ≤ d) (hq : am_SH[q]? = some (.inl 12)) (h : wp_M_comesBy I L R q p1 p2 p3  Q) : am_Cm d 0 0 y_M_comesBy b_M_comesBy 6 (some .int) [.ref q, .int p1, .int p2, .int p3] (I, L, R, am_SH) (po_M_comesBy L R Q) := by
  refine am_Cm_of (ini := false) (by decide +kernel) (fun z => by cases z) (by simp [Value.category]) (fun r σ' z => by obtain ⟨x, _, rfl, -⟩ := z; exact ⟨_, rfl, rfl⟩) ?_
  unfold wp_M_comesBy at h
  show am_Wp (d, "UnseenRingModel", b_M_comesBy, 6, false) 0 0 0 [some (.ref q), some (.int p1), some (.int p2), some (.int p3), none, none] [] (I, L, R, am_SH) (po_M_comesBy L R Q)
  refine am_iconst (n := 1) d_M_comesBy_0 ci_0 rfl ?_
  refine am_istore (ls' := [some (.ref q), some (.int p1), some (.int p2), some (.int p3), some (.int 0), none]) (n := 3) d_M_comesBy_1 (by decide) rfl rfl ?_
  refine am_aload_n (n := 4) d_M_comesBy_3 rfl rfl ?_
  refine am_sipush (n := 7) d_M_comesBy_4 cs_2030 rfl ?_
  refine am_callV (kc := 0) (ks := 0) (As := [.int 2030]) (n := 10) d_M_comesBy_7 rfl ce_M_keeps lk_M_374 in_M_keeps rfl rfl hq rfl rfl (Nat.le_of_ble_eq_true rfl) (Or.inl rfl) (cm_M_keeps (d := d - 1) hw (by omega) hq h) (by omega) ?_
  rintro _ _ ⟨I1, rfl, rfl, h⟩
  show am_Wp (d, "UnseenRingModel", b_M_comesBy, 6, false) 0 0 10 [some (.ref q), some (.int p1), some (.int p2), some (.int p3), some (.int 0), none] [] (I1, L, R, am_SH) (po_M_comesBy L R Q)
  refine am_aload_n (n := 11) d_M_comesBy_10 rfl rfl ?_
  refine am_getR (x := (q + 1)) (n := 14) f_M_7 d_M_comesBy_11 rfl rfl hq (hw.1 q 12 0 1 hq rfl) ?_
  refine am_bipush (n := 16) d_M_comesBy_14 cb_6 rfl ?_
  refine am_iload_n (n := 17) d_M_comesBy_16 rfl rfl ?_
  refine am_iast2 (n := 18) d_M_comesBy_17 rfl (am_sho (k := 0) (o := 1) hq (by decide) (by decide) (by decide) rfl) cx_6_2258 cn_6 ?_
  generalize eI2 : am_u2 I1 (q + 1) 6 p1 = I2
  have h := h I2 eI2.symm
  refine am_iconst (n := 19) d_M_comesBy_18 ci_0 rfl ?_
  refine am_istore (ls' := [some (.ref q), some (.int p1), some (.int p2), some (.int p3), some (.int 0), some (.int 0)]) (n := 21) d_M_comesBy_19 (by decide) rfl rfl ?_
  obtain ⟨n, h⟩ := h
  exact tl_M_comesBy_21 hw hq hd n I2 0 0 h
abbrev po_M_isPlay (I : am_TI) (L : am_TL) (R : am_TR) (Q : Bool → Prop) : Option Value → am_St → Prop := fun r σ' => ∃ (x : Bool), r = some (.int (am_b x)) ∧ σ' = (I, L, R, am_SH) ∧ Q x
def wp_M_isPlay (I : am_TI) (L : am_TL) (R : am_TR) (q : Nat) (p1 : Int32) (p2 : Int32)  (Q : Bool → Prop) : Prop := wp_M_isTune I L R q p1 (fun (r1 : Bool) => ((r1 = false → Q false) ∧ (r1 = true → wp_M_isFrom I L R (Int32.toInt64 p2) 0 20 (fun (r2 : Bool) => ((r2 = false → Q false) ∧ (r2 = true → Q true))))))
set_option maxRecDepth 20000 in
theorem cm_M_isPlay {d : Nat} {I : am_TI} {L : am_TL} {R : am_TR}  (hw : am_Wf R)   {q : Nat} {p1 : Int32} {p2 : Int32} {Q : Bool → Prop} (hd : 1 ≤ d) (hq : am_SH[q]? = some (.inl 12)) (h : wp_M_isPlay I L R q p1 p2  Q) : am_Cm d 0 0 y_M_isPlay b_M_isPlay 3 (some .boolean) [.ref q, .int p1, .int p2] (I, L, R, am_SH) (po_M_isPlay I L R Q) := by
  refine am_Cm_of (ini := false) (by decide +kernel) (fun z => by cases z) (by simp [Value.category]) (fun r σ' z => by obtain ⟨x, rfl, -⟩ := z; exact ⟨_, rfl, am_b_nar x⟩) ?_
  unfold wp_M_isPlay at h
  show am_Wp (d, "UnseenRingModel", b_M_isPlay, 3, false) 0 0 0 [some (.ref q), some (.int p1), some (.int p2)] [] (I, L, R, am_SH) (po_M_isPlay I L R Q)
  refine am_aload_n (n := 1) d_M_isPlay_0 rfl rfl ?_
  refine am_iload_n (n := 2) d_M_isPlay_1 rfl rfl ?_
  refine am_callV (kc := 0) (ks := 0) (As := [.int p1]) (n := 5) d_M_isPlay_2 rfl ce_M_isTune lk_M_340 in_M_isTune rfl rfl hq rfl rfl (Nat.le_of_ble_eq_true rfl) (Or.inl rfl) (cm_M_isTune (d := d - 1) hw (by omega) hq h) (by omega) ?_
  rintro _ _ ⟨r1, rfl, rfl, h⟩
  show am_Wp (d, "UnseenRingModel", b_M_isPlay, 3, false) 0 0 5 [some (.ref q), some (.int p1), some (.int p2)] [.int (am_b r1)] (I, L, R, am_SH) (po_M_isPlay I L R Q)
  refine am_if_eq (y := 0) (tgt := 24) (n := 8) d_M_isPlay_5 rfl rfl (fun c1 => ?_) (fun c1 => ?_)
  · have h := h.1 (am_b_0 c1)
    refine am_iconst (n := 25) d_M_isPlay_24 ci_0 rfl ?_
    exact am_iret d_M_isPlay_25 ⟨false, rfl, rfl, h⟩
  · have h := h.2 (am_b_n0 c1)
    refine am_iload_n (n := 9) d_M_isPlay_8 rfl rfl ?_
    refine am_i2l (n := 10) d_M_isPlay_9 rfl ?_
    refine am_lconst (v := 0) (n := 11) d_M_isPlay_10 rfl rfl ?_
    refine am_ldc2 (n := 14) d_M_isPlay_11 k_M_380 rfl ?_
    refine am_callS (kc := 0) (ks := 0) (As := [.long (Int32.toInt64 p2), .long 0, .long 20]) (n := 17) d_M_isPlay_14 rfl ce_M_isFrom lk_M_306 st_M_isFrom rfl rfl (Nat.le_of_ble_eq_true rfl) (Or.inl rfl) (cm_M_isFrom (d := d - 1) hw (by omega)  h) (by omega) ?_
    rintro _ _ ⟨r2, rfl, rfl, h⟩
    show am_Wp (d, "UnseenRingModel", b_M_isPlay, 3, false) 0 0 17 [some (.ref q), some (.int p1), some (.int p2)] [.int (am_b r2)] (I, L, R, am_SH) (po_M_isPlay I L R Q)
    refine am_if_eq (y := 0) (tgt := 24) (n := 20) d_M_isPlay_17 rfl rfl (fun c2 => ?_) (fun c2 => ?_)
    · have h := h.1 (am_b_0 c2)
      refine am_iconst (n := 25) d_M_isPlay_24 ci_0 rfl ?_
      exact am_iret d_M_isPlay_25 ⟨false, rfl, rfl, h⟩
    · have h := h.2 (am_b_n0 c2)
      refine am_iconst (n := 21) d_M_isPlay_20 ci_1 rfl ?_
      refine am_goto (tgt := 25) d_M_isPlay_21 rfl ?_
      exact am_iret d_M_isPlay_25 ⟨true, rfl, rfl, h⟩
abbrev po_M_takings (L : am_TL) (R : am_TR) (Q : Int32 → am_TI → Prop) : Option Value → am_St → Prop := fun r σ' => ∃ (x : Int32) (I' : am_TI), r = some (.int x) ∧ σ' = (I', L, R, am_SH) ∧ Q x I'
def wp_M_takings (I : am_TI) (L : am_TL) (R : am_TR) (q : Nat) (p1 : Int32) (p2 : Int32)  (Q : Int32 → am_TI → Prop) : Prop := wp_M_isPlay I L R q p1 p2 (fun (r1 : Bool) => ((r1 = false → wp_M_refuse I L R q 1 (fun (r2 : Int32) (I1 : am_TI) => Q r2 I1)) ∧ (r1 = true → wp_M_comesBy I L R q (I (q + 1) 6) p1 p2 (fun (r3 : Int32) (I2 : am_TI) => wp_M_gives I2 L R q r3 (fun (r4 : Int32) (I3 : am_TI) => Q r4 I3)))))
set_option maxRecDepth 20000 in
theorem cm_M_takings {d : Nat} {I : am_TI} {L : am_TL} {R : am_TR}  (hw : am_Wf R)   {q : Nat} {p1 : Int32} {p2 : Int32} {Q : Int32 → am_TI → Prop} (hd : 3 ≤ d) (hq : am_SH[q]? = some (.inl 12)) (h : wp_M_takings I L R q p1 p2  Q) : am_Cm d 0 0 y_M_takings b_M_takings 3 (some .int) [.ref q, .int p1, .int p2] (I, L, R, am_SH) (po_M_takings L R Q) := by
  refine am_Cm_of (ini := false) (by decide +kernel) (fun z => by cases z) (by simp [Value.category]) (fun r σ' z => by obtain ⟨x, _, rfl, -⟩ := z; exact ⟨_, rfl, rfl⟩) ?_
  unfold wp_M_takings at h
  show am_Wp (d, "UnseenRingModel", b_M_takings, 3, false) 0 0 0 [some (.ref q), some (.int p1), some (.int p2)] [] (I, L, R, am_SH) (po_M_takings L R Q)
  refine am_aload_n (n := 1) d_M_takings_0 rfl rfl ?_
  refine am_iload_n (n := 2) d_M_takings_1 rfl rfl ?_
  refine am_iload_n (n := 3) d_M_takings_2 rfl rfl ?_
  refine am_callV (kc := 0) (ks := 0) (As := [.int p1, .int p2]) (n := 6) d_M_takings_3 rfl ce_M_isPlay lk_M_382 in_M_isPlay rfl rfl hq rfl rfl (Nat.le_of_ble_eq_true rfl) (Or.inl rfl) (cm_M_isPlay (d := d - 1) hw (by omega) hq h) (by omega) ?_
  rintro _ _ ⟨r1, rfl, rfl, h⟩
  show am_Wp (d, "UnseenRingModel", b_M_takings, 3, false) 0 0 6 [some (.ref q), some (.int p1), some (.int p2)] [.int (am_b r1)] (I, L, R, am_SH) (po_M_takings L R Q)
  refine am_if_eq (y := 0) (tgt := 29) (n := 9) d_M_takings_6 rfl rfl (fun c1 => ?_) (fun c1 => ?_)
  · have h := h.1 (am_b_0 c1)
    refine am_aload_n (n := 30) d_M_takings_29 rfl rfl ?_
    refine am_iconst (n := 31) d_M_takings_30 ci_1 rfl ?_
    refine am_callV (kc := 0) (ks := 0) (As := [.int 1]) (n := 34) d_M_takings_31 rfl ce_M_refuse lk_M_121 in_M_refuse rfl rfl hq rfl rfl (Nat.le_of_ble_eq_true rfl) (Or.inl rfl) (cm_M_refuse (d := d - 1) hw (by omega) hq h) (by omega) ?_
    rintro _ _ ⟨r2, I1, rfl, rfl, h⟩
    show am_Wp (d, "UnseenRingModel", b_M_takings, 3, false) 0 0 34 [some (.ref q), some (.int p1), some (.int p2)] [.int r2] (I1, L, R, am_SH) (po_M_takings L R Q)
    exact am_iret d_M_takings_34 ⟨r2, I1, rfl, rfl, h⟩
  · have h := h.2 (am_b_n0 c1)
    refine am_aload_n (n := 10) d_M_takings_9 rfl rfl ?_
    refine am_aload_n (n := 11) d_M_takings_10 rfl rfl ?_
    refine am_aload_n (n := 12) d_M_takings_11 rfl rfl ?_
    refine am_getR (x := (q + 1)) (n := 15) f_M_7 d_M_takings_12 rfl rfl hq (hw.1 q 12 0 1 hq rfl) ?_
    refine am_bipush (n := 17) d_M_takings_15 cb_6 rfl ?_
    refine am_iald2 (n := 18) d_M_takings_17 rfl (am_sho (k := 0) (o := 1) hq (by decide) (by decide) (by decide) rfl) cx_6_2258 cn_6 ?_
    refine am_iload_n (n := 19) d_M_takings_18 rfl rfl ?_
    refine am_iload_n (n := 20) d_M_takings_19 rfl rfl ?_
    refine am_callV (kc := 0) (ks := 0) (As := [.int (I (q + 1) 6), .int p1, .int p2]) (n := 23) d_M_takings_20 rfl ce_M_comesBy lk_M_385 in_M_comesBy rfl rfl hq rfl rfl (Nat.le_of_ble_eq_true rfl) (Or.inl rfl) (cm_M_comesBy (d := d - 1) hw (by omega) hq h) (by omega) ?_
    rintro _ _ ⟨r3, I2, rfl, rfl, h⟩
    show am_Wp (d, "UnseenRingModel", b_M_takings, 3, false) 0 0 23 [some (.ref q), some (.int p1), some (.int p2)] [.int r3, .ref q] (I2, L, R, am_SH) (po_M_takings L R Q)
    refine am_callV (kc := 0) (ks := 0) (As := [.int r3]) (n := 26) d_M_takings_23 rfl ce_M_gives lk_M_125 in_M_gives rfl rfl hq rfl rfl (Nat.le_of_ble_eq_true rfl) (Or.inl rfl) (cm_M_gives (d := d - 1) hw (by omega) hq h) (by omega) ?_
    rintro _ _ ⟨r4, I3, rfl, rfl, h⟩
    show am_Wp (d, "UnseenRingModel", b_M_takings, 3, false) 0 0 26 [some (.ref q), some (.int p1), some (.int p2)] [.int r4] (I3, L, R, am_SH) (po_M_takings L R Q)
    refine am_goto (tgt := 34) d_M_takings_26 rfl ?_
    exact am_iret d_M_takings_34 ⟨r4, I3, rfl, rfl, h⟩
abbrev po_M_pitch (L : am_TL) (R : am_TR) (Q : Int32 → am_TI → Prop) : Option Value → am_St → Prop := fun r σ' => ∃ (x : Int32) (I' : am_TI), r = some (.int x) ∧ σ' = (I', L, R, am_SH) ∧ Q x I'
def wb_M_pitch_17 (L : am_TL) (R : am_TR) (q : Nat) (p1 : Int32) (p2 : Int32) (p3 : Int32) (Q : Int32 → am_TI → Prop)  (I : am_TI) : Prop := wp_M_refuse I L R q 1 (fun (r2 : Int32) (I1 : am_TI) => Q r2 I1)
set_option maxRecDepth 20000 in
theorem tb_M_pitch_17 {d : Nat}  {L : am_TL} {R : am_TR} {q : Nat} {p1 : Int32} {p2 : Int32} {p3 : Int32} {Q : Int32 → am_TI → Prop}  (hw : am_Wf R) (hq : am_SH[q]? = some (.inl 12)) (hd : 3 ≤ d) (I : am_TI) (h : wb_M_pitch_17 L R q p1 p2 p3 Q  I) : am_Wp (d, "UnseenRingModel", b_M_pitch, 4, false) 0 0 17 [some (.ref q), some (.int p1), some (.int p2), some (.int p3)] [] (I, L, R, am_SH) (po_M_pitch L R Q) := by
  unfold wb_M_pitch_17 at h
  refine am_aload_n (n := 18) d_M_pitch_17 rfl rfl ?_
  refine am_iconst (n := 19) d_M_pitch_18 ci_1 rfl ?_
  refine am_callV (kc := 0) (ks := 0) (As := [.int 1]) (n := 22) d_M_pitch_19 rfl ce_M_refuse lk_M_121 in_M_refuse rfl rfl hq rfl rfl (Nat.le_of_ble_eq_true rfl) (Or.inl rfl) (cm_M_refuse (d := d - 1) hw (by omega) hq h) (by omega) ?_
  rintro _ _ ⟨r2, I1, rfl, rfl, h⟩
  show am_Wp (d, "UnseenRingModel", b_M_pitch, 4, false) 0 0 22 [some (.ref q), some (.int p1), some (.int p2), some (.int p3)] [.int r2] (I1, L, R, am_SH) (po_M_pitch L R Q)
  exact am_iret d_M_pitch_22 ⟨r2, I1, rfl, rfl, h⟩
def wp_M_pitch (I : am_TI) (L : am_TL) (R : am_TR) (q : Nat) (p1 : Int32) (p2 : Int32) (p3 : Int32)  (Q : Int32 → am_TI → Prop) : Prop := wp_M_isCell I L R q p1 (fun (r1 : Bool) => ((r1 = false → wb_M_pitch_17 L R q p1 p2 p3 Q I) ∧ (r1 = true → wp_M_isPlay I L R q p2 p3 (fun (r3 : Bool) => ((r3 = false → wb_M_pitch_17 L R q p1 p2 p3 Q I) ∧ (r3 = true → wp_M_comesBy I L R q p1 p2 p3 (fun (r4 : Int32) (I2 : am_TI) => wp_M_gives I2 L R q r4 (fun (r5 : Int32) (I3 : am_TI) => Q r5 I3))))))))
set_option maxRecDepth 20000 in
theorem cm_M_pitch {d : Nat} {I : am_TI} {L : am_TL} {R : am_TR}  (hw : am_Wf R)   {q : Nat} {p1 : Int32} {p2 : Int32} {p3 : Int32} {Q : Int32 → am_TI → Prop} (hd : 3 ≤ d) (hq : am_SH[q]? = some (.inl 12)) (h : wp_M_pitch I L R q p1 p2 p3  Q) : am_Cm d 0 0 y_M_pitch b_M_pitch 4 (some .int) [.ref q, .int p1, .int p2, .int p3] (I, L, R, am_SH) (po_M_pitch L R Q) := by
  refine am_Cm_of (ini := false) (by decide +kernel) (fun z => by cases z) (by simp [Value.category]) (fun r σ' z => by obtain ⟨x, _, rfl, -⟩ := z; exact ⟨_, rfl, rfl⟩) ?_
  unfold wp_M_pitch at h
  show am_Wp (d, "UnseenRingModel", b_M_pitch, 4, false) 0 0 0 [some (.ref q), some (.int p1), some (.int p2), some (.int p3)] [] (I, L, R, am_SH) (po_M_pitch L R Q)
  refine am_aload_n (n := 1) d_M_pitch_0 rfl rfl ?_
  refine am_iload_n (n := 2) d_M_pitch_1 rfl rfl ?_
  refine am_callV (kc := 0) (ks := 0) (As := [.int p1]) (n := 5) d_M_pitch_2 rfl ce_M_isCell lk_M_334 in_M_isCell rfl rfl hq rfl rfl (Nat.le_of_ble_eq_true rfl) (Or.inl rfl) (cm_M_isCell (d := d - 1) hw (by omega) hq h) (by omega) ?_
  rintro _ _ ⟨r1, rfl, rfl, h⟩
  show am_Wp (d, "UnseenRingModel", b_M_pitch, 4, false) 0 0 5 [some (.ref q), some (.int p1), some (.int p2), some (.int p3)] [.int (am_b r1)] (I, L, R, am_SH) (po_M_pitch L R Q)
  refine am_if_eq (y := 0) (tgt := 17) (n := 8) d_M_pitch_5 rfl rfl (fun c1 => ?_) (fun c1 => ?_)
  · have h := h.1 (am_b_0 c1)
    exact tb_M_pitch_17 hw hq hd I h
  · have h := h.2 (am_b_n0 c1)
    refine am_aload_n (n := 9) d_M_pitch_8 rfl rfl ?_
    refine am_iload_n (n := 10) d_M_pitch_9 rfl rfl ?_
    refine am_iload_n (n := 11) d_M_pitch_10 rfl rfl ?_
    refine am_callV (kc := 0) (ks := 0) (As := [.int p2, .int p3]) (n := 14) d_M_pitch_11 rfl ce_M_isPlay lk_M_382 in_M_isPlay rfl rfl hq rfl rfl (Nat.le_of_ble_eq_true rfl) (Or.inl rfl) (cm_M_isPlay (d := d - 1) hw (by omega) hq h) (by omega) ?_
    rintro _ _ ⟨r3, rfl, rfl, h⟩
    show am_Wp (d, "UnseenRingModel", b_M_pitch, 4, false) 0 0 14 [some (.ref q), some (.int p1), some (.int p2), some (.int p3)] [.int (am_b r3)] (I, L, R, am_SH) (po_M_pitch L R Q)
    refine am_if_ne (y := 0) (tgt := 23) (n := 17) d_M_pitch_14 rfl rfl (fun c2 => ?_) (fun c2 => ?_)
    · have h := h.2 (am_b_n0 c2)
      refine am_aload_n (n := 24) d_M_pitch_23 rfl rfl ?_
      refine am_aload_n (n := 25) d_M_pitch_24 rfl rfl ?_
      refine am_iload_n (n := 26) d_M_pitch_25 rfl rfl ?_
      refine am_iload_n (n := 27) d_M_pitch_26 rfl rfl ?_
      refine am_iload_n (n := 28) d_M_pitch_27 rfl rfl ?_
      refine am_callV (kc := 0) (ks := 0) (As := [.int p1, .int p2, .int p3]) (n := 31) d_M_pitch_28 rfl ce_M_comesBy lk_M_385 in_M_comesBy rfl rfl hq rfl rfl (Nat.le_of_ble_eq_true rfl) (Or.inl rfl) (cm_M_comesBy (d := d - 1) hw (by omega) hq h) (by omega) ?_
      rintro _ _ ⟨r4, I2, rfl, rfl, h⟩
      show am_Wp (d, "UnseenRingModel", b_M_pitch, 4, false) 0 0 31 [some (.ref q), some (.int p1), some (.int p2), some (.int p3)] [.int r4, .ref q] (I2, L, R, am_SH) (po_M_pitch L R Q)
      refine am_callV (kc := 0) (ks := 0) (As := [.int r4]) (n := 34) d_M_pitch_31 rfl ce_M_gives lk_M_125 in_M_gives rfl rfl hq rfl rfl (Nat.le_of_ble_eq_true rfl) (Or.inl rfl) (cm_M_gives (d := d - 1) hw (by omega) hq h) (by omega) ?_
      rintro _ _ ⟨r5, I3, rfl, rfl, h⟩
      show am_Wp (d, "UnseenRingModel", b_M_pitch, 4, false) 0 0 34 [some (.ref q), some (.int p1), some (.int p2), some (.int p3)] [.int r5] (I3, L, R, am_SH) (po_M_pitch L R Q)
      exact am_iret d_M_pitch_34 ⟨r5, I3, rfl, rfl, h⟩
    · have h := h.1 (am_b_0 c2)
      exact tb_M_pitch_17 hw hq hd I h
abbrev po_M_bestPitch (L : am_TL) (R : am_TR) (Q : Int32 → am_TI → Prop) : Option Value → am_St → Prop := fun r σ' => ∃ (x : Int32) (I' : am_TI), r = some (.int x) ∧ σ' = (I', L, R, am_SH) ∧ Q x I'
def wl_M_bestPitch_20 (L : am_TL) (R : am_TR) (q : Nat) (p1 : Int32) (p2 : Int32) (Q : Int32 → am_TI → Prop)  : Nat → am_TI → Int32 → Int32 → Prop
  | 0 => fun _ _ _ => False
  | f20 + 1 => fun I v3 v4 => wp_M_cellsOf I L R q 0 (fun (r2 : Int32) => ((r2 ≤ v4 → wp_M_gives I L R q v3 (fun (r3 : Int32) (I1 : am_TI) => Q r3 I1)) ∧ (¬ r2 ≤ v4 → wp_M_comesBy I L R q v4 p1 p2 (fun (r4 : Int32) (I2 : am_TI) => wp_M_comesBy I2 L R q v3 p1 p2 (fun (r5 : Int32) (I3 : am_TI) => ((r4 ≤ r5 → wl_M_bestPitch_20 L R q p1 p2 Q f20 I3 v3 (v4 + 1)) ∧ (¬ r4 ≤ r5 → wl_M_bestPitch_20 L R q p1 p2 Q f20 I3 v4 (v4 + 1))))))))
set_option maxRecDepth 20000 in
theorem tl_M_bestPitch_20 {d : Nat}  {L : am_TL} {R : am_TR} {q : Nat} {p1 : Int32} {p2 : Int32} {Q : Int32 → am_TI → Prop}  (hw : am_Wf R) (hq : am_SH[q]? = some (.inl 12)) (hd : 3 ≤ d) : ∀ (n : Nat) (I : am_TI) (v3 : Int32) (v4 : Int32), wl_M_bestPitch_20 L R q p1 p2 Q  n I v3 v4 → am_Wp (d, "UnseenRingModel", b_M_bestPitch, 5, false) 0 0 20 [some (.ref q), some (.int p1), some (.int p2), some (.int v3), some (.int v4)] [] (I, L, R, am_SH) (po_M_bestPitch L R Q) := by
  intro n
  induction n with
  | zero => intro I v3 v4 h; exact h.elim
  | succ n ih =>
    intro I v3 v4 h
    unfold wl_M_bestPitch_20 at h
    refine am_iload (n := 22) d_M_bestPitch_20 rfl rfl ?_
    refine am_aload_n (n := 23) d_M_bestPitch_22 rfl rfl ?_
    refine am_iconst (n := 24) d_M_bestPitch_23 ci_0 rfl ?_
    refine am_callV (kc := 0) (ks := 0) (As := [.int 0]) (n := 27) d_M_bestPitch_24 rfl ce_M_cellsOf lk_M_223 in_M_cellsOf rfl rfl hq rfl rfl (Nat.le_of_ble_eq_true rfl) (Or.inl rfl) (cm_M_cellsOf (d := d - 1) hw (by omega) hq h) (by omega) ?_
    rintro _ _ ⟨r2, rfl, rfl, h⟩
    show am_Wp (d, "UnseenRingModel", b_M_bestPitch, 5, false) 0 0 27 [some (.ref q), some (.int p1), some (.int p2), some (.int v3), some (.int v4)] [.int r2, .int v4] (I, L, R, am_SH) (po_M_bestPitch L R Q)
    refine am_icmp_ge (tgt := 57) (n := 30) d_M_bestPitch_27 rfl rfl (fun c2 => ?_) (fun c2 => ?_)
    · have h := h.1 c2
      refine am_aload_n (n := 58) d_M_bestPitch_57 rfl rfl ?_
      refine am_iload_n (n := 59) d_M_bestPitch_58 rfl rfl ?_
      refine am_callV (kc := 0) (ks := 0) (As := [.int v3]) (n := 62) d_M_bestPitch_59 rfl ce_M_gives lk_M_125 in_M_gives rfl rfl hq rfl rfl (Nat.le_of_ble_eq_true rfl) (Or.inl rfl) (cm_M_gives (d := d - 1) hw (by omega) hq h) (by omega) ?_
      rintro _ _ ⟨r3, I1, rfl, rfl, h⟩
      show am_Wp (d, "UnseenRingModel", b_M_bestPitch, 5, false) 0 0 62 [some (.ref q), some (.int p1), some (.int p2), some (.int v3), some (.int v4)] [.int r3] (I1, L, R, am_SH) (po_M_bestPitch L R Q)
      exact am_iret d_M_bestPitch_62 ⟨r3, I1, rfl, rfl, h⟩
    · have h := h.2 c2
      refine am_aload_n (n := 31) d_M_bestPitch_30 rfl rfl ?_
      refine am_iload (n := 33) d_M_bestPitch_31 rfl rfl ?_
      refine am_iload_n (n := 34) d_M_bestPitch_33 rfl rfl ?_
      refine am_iload_n (n := 35) d_M_bestPitch_34 rfl rfl ?_
      refine am_callV (kc := 0) (ks := 0) (As := [.int v4, .int p1, .int p2]) (n := 38) d_M_bestPitch_35 rfl ce_M_comesBy lk_M_385 in_M_comesBy rfl rfl hq rfl rfl (Nat.le_of_ble_eq_true rfl) (Or.inl rfl) (cm_M_comesBy (d := d - 1) hw (by omega) hq h) (by omega) ?_
      rintro _ _ ⟨r4, I2, rfl, rfl, h⟩
      show am_Wp (d, "UnseenRingModel", b_M_bestPitch, 5, false) 0 0 38 [some (.ref q), some (.int p1), some (.int p2), some (.int v3), some (.int v4)] [.int r4] (I2, L, R, am_SH) (po_M_bestPitch L R Q)
      refine am_aload_n (n := 39) d_M_bestPitch_38 rfl rfl ?_
      refine am_iload_n (n := 40) d_M_bestPitch_39 rfl rfl ?_
      refine am_iload_n (n := 41) d_M_bestPitch_40 rfl rfl ?_
      refine am_iload_n (n := 42) d_M_bestPitch_41 rfl rfl ?_
      refine am_callV (kc := 0) (ks := 0) (As := [.int v3, .int p1, .int p2]) (n := 45) d_M_bestPitch_42 rfl ce_M_comesBy lk_M_385 in_M_comesBy rfl rfl hq rfl rfl (Nat.le_of_ble_eq_true rfl) (Or.inl rfl) (cm_M_comesBy (d := d - 1) hw (by omega) hq h) (by omega) ?_
      rintro _ _ ⟨r5, I3, rfl, rfl, h⟩
      show am_Wp (d, "UnseenRingModel", b_M_bestPitch, 5, false) 0 0 45 [some (.ref q), some (.int p1), some (.int p2), some (.int v3), some (.int v4)] [.int r5, .int r4] (I3, L, R, am_SH) (po_M_bestPitch L R Q)
      refine am_icmp_le (tgt := 51) (n := 48) d_M_bestPitch_45 rfl rfl (fun c3 => ?_) (fun c3 => ?_)
      · have h := h.1 c3
        refine am_iinc (v := v4 + 1) (ls' := [some (.ref q), some (.int p1), some (.int p2), some (.int v3), some (.int (v4 + 1))]) (n := 54) d_M_bestPitch_51 rfl (congrArg _ ci_1) (by decide) rfl rfl ?_
        refine am_goto (tgt := 20) d_M_bestPitch_54 rfl ?_
        exact ih I3 v3 (v4 + 1)  h
      · have h := h.2 c3
        refine am_iload (n := 50) d_M_bestPitch_48 rfl rfl ?_
        refine am_istore_n (ls' := [some (.ref q), some (.int p1), some (.int p2), some (.int v4), some (.int v4)]) (n := 51) d_M_bestPitch_50 (by decide) rfl rfl ?_
        refine am_iinc (v := v4 + 1) (ls' := [some (.ref q), some (.int p1), some (.int p2), some (.int v4), some (.int (v4 + 1))]) (n := 54) d_M_bestPitch_51 rfl (congrArg _ ci_1) (by decide) rfl rfl ?_
        refine am_goto (tgt := 20) d_M_bestPitch_54 rfl ?_
        exact ih I3 v4 (v4 + 1)  h
def wp_M_bestPitch (I : am_TI) (L : am_TL) (R : am_TR) (q : Nat) (p1 : Int32) (p2 : Int32)  (Q : Int32 → am_TI → Prop) : Prop := wp_M_isPlay I L R q p1 p2 (fun (r1 : Bool) => ((r1 = false → wp_M_refuse I L R q 1 (fun (r6 : Int32) (I4 : am_TI) => Q r6 I4)) ∧ (r1 = true → (∃ z, wl_M_bestPitch_20 L R q p1 p2 Q z I 0 1))))
set_option maxRecDepth 20000 in
theorem cm_M_bestPitch {d : Nat} {I : am_TI} {L : am_TL} {R : am_TR}  (hw : am_Wf R)   {q : Nat} {p1 : Int32} {p2 : Int32} {Q : Int32 → am_TI → Prop} (hd : 3 ≤ d) (hq : am_SH[q]? = some (.inl 12)) (h : wp_M_bestPitch I L R q p1 p2  Q) : am_Cm d 0 0 y_M_bestPitch b_M_bestPitch 5 (some .int) [.ref q, .int p1, .int p2] (I, L, R, am_SH) (po_M_bestPitch L R Q) := by
  refine am_Cm_of (ini := false) (by decide +kernel) (fun z => by cases z) (by simp [Value.category]) (fun r σ' z => by obtain ⟨x, _, rfl, -⟩ := z; exact ⟨_, rfl, rfl⟩) ?_
  unfold wp_M_bestPitch at h
  show am_Wp (d, "UnseenRingModel", b_M_bestPitch, 5, false) 0 0 0 [some (.ref q), some (.int p1), some (.int p2), none, none] [] (I, L, R, am_SH) (po_M_bestPitch L R Q)
  refine am_aload_n (n := 1) d_M_bestPitch_0 rfl rfl ?_
  refine am_iload_n (n := 2) d_M_bestPitch_1 rfl rfl ?_
  refine am_iload_n (n := 3) d_M_bestPitch_2 rfl rfl ?_
  refine am_callV (kc := 0) (ks := 0) (As := [.int p1, .int p2]) (n := 6) d_M_bestPitch_3 rfl ce_M_isPlay lk_M_382 in_M_isPlay rfl rfl hq rfl rfl (Nat.le_of_ble_eq_true rfl) (Or.inl rfl) (cm_M_isPlay (d := d - 1) hw (by omega) hq h) (by omega) ?_
  rintro _ _ ⟨r1, rfl, rfl, h⟩
  show am_Wp (d, "UnseenRingModel", b_M_bestPitch, 5, false) 0 0 6 [some (.ref q), some (.int p1), some (.int p2), none, none] [.int (am_b r1)] (I, L, R, am_SH) (po_M_bestPitch L R Q)
  refine am_if_ne (y := 0) (tgt := 15) (n := 9) d_M_bestPitch_6 rfl rfl (fun c1 => ?_) (fun c1 => ?_)
  · have h := h.2 (am_b_n0 c1)
    refine am_iconst (n := 16) d_M_bestPitch_15 ci_0 rfl ?_
    refine am_istore_n (ls' := [some (.ref q), some (.int p1), some (.int p2), some (.int 0), none]) (n := 17) d_M_bestPitch_16 (by decide) rfl rfl ?_
    refine am_iconst (n := 18) d_M_bestPitch_17 ci_1 rfl ?_
    refine am_istore (ls' := [some (.ref q), some (.int p1), some (.int p2), some (.int 0), some (.int 1)]) (n := 20) d_M_bestPitch_18 (by decide) rfl rfl ?_
    obtain ⟨n, h⟩ := h
    exact tl_M_bestPitch_20 hw hq hd n I 0 1 h
  · have h := h.1 (am_b_0 c1)
    refine am_aload_n (n := 10) d_M_bestPitch_9 rfl rfl ?_
    refine am_iconst (n := 11) d_M_bestPitch_10 ci_1 rfl ?_
    refine am_callV (kc := 0) (ks := 0) (As := [.int 1]) (n := 14) d_M_bestPitch_11 rfl ce_M_refuse lk_M_121 in_M_refuse rfl rfl hq rfl rfl (Nat.le_of_ble_eq_true rfl) (Or.inl rfl) (cm_M_refuse (d := d - 1) hw (by omega) hq h) (by omega) ?_
    rintro _ _ ⟨r6, I4, rfl, rfl, h⟩
    show am_Wp (d, "UnseenRingModel", b_M_bestPitch, 5, false) 0 0 14 [some (.ref q), some (.int p1), some (.int p2), none, none] [.int r6] (I4, L, R, am_SH) (po_M_bestPitch L R Q)
    exact am_iret d_M_bestPitch_14 ⟨r6, I4, rfl, rfl, h⟩
abbrev po_M_soon (L : am_TL) (R : am_TR) (Q : Int32 → am_TI → Prop) : Option Value → am_St → Prop := fun r σ' => ∃ (x : Int32) (I' : am_TI), r = some (.int x) ∧ σ' = (I', L, R, am_SH) ∧ Q x I'
def wb_M_soon_42 (L : am_TL) (R : am_TR) (q : Nat) (p1 : Int32) (Q : Int32 → am_TI → Prop)  (I : am_TI) (v2 : Int32) : Prop := wp_M_gives I L R q v2 (fun (r3 : Int32) (I1 : am_TI) => Q r3 I1)
set_option maxRecDepth 20000 in
theorem tb_M_soon_42 {d : Nat}  {L : am_TL} {R : am_TR} {q : Nat} {p1 : Int32} {Q : Int32 → am_TI → Prop}  (hw : am_Wf R) (hq : am_SH[q]? = some (.inl 12)) (hd : 3 ≤ d) (I : am_TI) (v2 : Int32) (h : wb_M_soon_42 L R q p1 Q  I v2) : am_Wp (d, "UnseenRingModel", b_M_soon, 3, false) 0 0 42 [some (.ref q), some (.int p1), some (.int v2)] [] (I, L, R, am_SH) (po_M_soon L R Q) := by
  unfold wb_M_soon_42 at h
  refine am_aload_n (n := 43) d_M_soon_42 rfl rfl ?_
  refine am_iload_n (n := 44) d_M_soon_43 rfl rfl ?_
  refine am_callV (kc := 0) (ks := 0) (As := [.int v2]) (n := 47) d_M_soon_44 rfl ce_M_gives lk_M_125 in_M_gives rfl rfl hq rfl rfl (Nat.le_of_ble_eq_true rfl) (Or.inl rfl) (cm_M_gives (d := d - 1) hw (by omega) hq h) (by omega) ?_
  rintro _ _ ⟨r3, I1, rfl, rfl, h⟩
  show am_Wp (d, "UnseenRingModel", b_M_soon, 3, false) 0 0 47 [some (.ref q), some (.int p1), some (.int v2)] [.int r3] (I1, L, R, am_SH) (po_M_soon L R Q)
  exact am_iret d_M_soon_47 ⟨r3, I1, rfl, rfl, h⟩
def wp_M_soon (I : am_TI) (L : am_TL) (R : am_TR) (q : Nat) (p1 : Int32)  (Q : Int32 → am_TI → Prop) : Prop := wp_M_isHearer I L R q p1 (fun (r1 : Bool) => ((r1 = false → wp_M_refuse I L R q 1 (fun (r6 : Int32) (I3 : am_TI) => Q r6 I3)) ∧ (r1 = true → wp_M_farOf I L R q p1 (fun (r2 : Int32) => ((r2 ≤ 0 → wb_M_soon_42 L R q p1 Q I r2) ∧ (¬ r2 ≤ 0 → wp_M_hearerOf I L R q p1 1 (fun (r4 : Int32) => ((r4 = 0 → wp_M_refuse I L R q 6 (fun (r5 : Int32) (I2 : am_TI) => Q r5 I2)) ∧ (¬ r4 = 0 → wb_M_soon_42 L R q p1 Q I r2)))))))))
set_option maxRecDepth 20000 in
theorem cm_M_soon {d : Nat} {I : am_TI} {L : am_TL} {R : am_TR}  (hw : am_Wf R)   {q : Nat} {p1 : Int32} {Q : Int32 → am_TI → Prop} (hd : 3 ≤ d) (hq : am_SH[q]? = some (.inl 12)) (h : wp_M_soon I L R q p1  Q) : am_Cm d 0 0 y_M_soon b_M_soon 3 (some .int) [.ref q, .int p1] (I, L, R, am_SH) (po_M_soon L R Q) := by
  refine am_Cm_of (ini := false) (by decide +kernel) (fun z => by cases z) (by simp [Value.category]) (fun r σ' z => by obtain ⟨x, _, rfl, -⟩ := z; exact ⟨_, rfl, rfl⟩) ?_
  unfold wp_M_soon at h
  show am_Wp (d, "UnseenRingModel", b_M_soon, 3, false) 0 0 0 [some (.ref q), some (.int p1), none] [] (I, L, R, am_SH) (po_M_soon L R Q)
  refine am_aload_n (n := 1) d_M_soon_0 rfl rfl ?_
  refine am_iload_n (n := 2) d_M_soon_1 rfl rfl ?_
  refine am_callV (kc := 0) (ks := 0) (As := [.int p1]) (n := 5) d_M_soon_2 rfl ce_M_isHearer lk_M_328 in_M_isHearer rfl rfl hq rfl rfl (Nat.le_of_ble_eq_true rfl) (Or.inl rfl) (cm_M_isHearer (d := d - 1) hw (by omega) hq h) (by omega) ?_
  rintro _ _ ⟨r1, rfl, rfl, h⟩
  show am_Wp (d, "UnseenRingModel", b_M_soon, 3, false) 0 0 5 [some (.ref q), some (.int p1), none] [.int (am_b r1)] (I, L, R, am_SH) (po_M_soon L R Q)
  refine am_if_ne (y := 0) (tgt := 14) (n := 8) d_M_soon_5 rfl rfl (fun c1 => ?_) (fun c1 => ?_)
  · have h := h.2 (am_b_n0 c1)
    refine am_aload_n (n := 15) d_M_soon_14 rfl rfl ?_
    refine am_iload_n (n := 16) d_M_soon_15 rfl rfl ?_
    refine am_callV (kc := 0) (ks := 0) (As := [.int p1]) (n := 19) d_M_soon_16 rfl ce_M_farOf lk_M_331 in_M_farOf rfl rfl hq rfl rfl (Nat.le_of_ble_eq_true rfl) (Or.inl rfl) (cm_M_farOf (d := d - 1) hw (by omega) hq h) (by omega) ?_
    rintro _ _ ⟨r2, rfl, rfl, h⟩
    show am_Wp (d, "UnseenRingModel", b_M_soon, 3, false) 0 0 19 [some (.ref q), some (.int p1), none] [.int r2] (I, L, R, am_SH) (po_M_soon L R Q)
    refine am_istore_n (ls' := [some (.ref q), some (.int p1), some (.int r2)]) (n := 20) d_M_soon_19 (by decide) rfl rfl ?_
    refine am_iload_n (n := 21) d_M_soon_20 rfl rfl ?_
    refine am_if_le (y := 0) (tgt := 42) (n := 24) d_M_soon_21 rfl rfl (fun c2 => ?_) (fun c2 => ?_)
    · have h := h.1 c2
      exact tb_M_soon_42 hw hq hd I r2 h
    · have h := h.2 c2
      refine am_aload_n (n := 25) d_M_soon_24 rfl rfl ?_
      refine am_iload_n (n := 26) d_M_soon_25 rfl rfl ?_
      refine am_iconst (n := 27) d_M_soon_26 ci_1 rfl ?_
      refine am_callV (kc := 0) (ks := 0) (As := [.int p1, .int 1]) (n := 30) d_M_soon_27 rfl ce_M_hearerOf lk_M_313 in_M_hearerOf rfl rfl hq rfl rfl (Nat.le_of_ble_eq_true rfl) (Or.inl rfl) (cm_M_hearerOf (d := d - 1) hw (by omega) hq h) (by omega) ?_
      rintro _ _ ⟨r4, rfl, rfl, h⟩
      show am_Wp (d, "UnseenRingModel", b_M_soon, 3, false) 0 0 30 [some (.ref q), some (.int p1), some (.int r2)] [.int r4] (I, L, R, am_SH) (po_M_soon L R Q)
      refine am_if_ne (y := 0) (tgt := 42) (n := 33) d_M_soon_30 rfl rfl (fun c3 => ?_) (fun c3 => ?_)
      · have h := h.2 c3
        exact tb_M_soon_42 hw hq hd I r2 h
      · have h := h.1 c3
        refine am_aload_n (n := 34) d_M_soon_33 rfl rfl ?_
        refine am_bipush (n := 36) d_M_soon_34 cb_6 rfl ?_
        refine am_callV (kc := 0) (ks := 0) (As := [.int 6]) (n := 39) d_M_soon_36 rfl ce_M_refuse lk_M_121 in_M_refuse rfl rfl hq rfl rfl (Nat.le_of_ble_eq_true rfl) (Or.inl rfl) (cm_M_refuse (d := d - 1) hw (by omega) hq h) (by omega) ?_
        rintro _ _ ⟨r5, I2, rfl, rfl, h⟩
        show am_Wp (d, "UnseenRingModel", b_M_soon, 3, false) 0 0 39 [some (.ref q), some (.int p1), some (.int r2)] [.int r5] (I2, L, R, am_SH) (po_M_soon L R Q)
        refine am_goto (tgt := 47) d_M_soon_39 rfl ?_
        exact am_iret d_M_soon_47 ⟨r5, I2, rfl, rfl, h⟩
  · have h := h.1 (am_b_0 c1)
    refine am_aload_n (n := 9) d_M_soon_8 rfl rfl ?_
    refine am_iconst (n := 10) d_M_soon_9 ci_1 rfl ?_
    refine am_callV (kc := 0) (ks := 0) (As := [.int 1]) (n := 13) d_M_soon_10 rfl ce_M_refuse lk_M_121 in_M_refuse rfl rfl hq rfl rfl (Nat.le_of_ble_eq_true rfl) (Or.inl rfl) (cm_M_refuse (d := d - 1) hw (by omega) hq h) (by omega) ?_
    rintro _ _ ⟨r6, I3, rfl, rfl, h⟩
    show am_Wp (d, "UnseenRingModel", b_M_soon, 3, false) 0 0 13 [some (.ref q), some (.int p1), none] [.int r6] (I3, L, R, am_SH) (po_M_soon L R Q)
    exact am_iret d_M_soon_13 ⟨r6, I3, rfl, rfl, h⟩
abbrev po_M_areHearers (I : am_TI) (L : am_TL) (R : am_TR) (Q : Bool → Prop) : Option Value → am_St → Prop := fun r σ' => ∃ (x : Bool), r = some (.int (am_b x)) ∧ σ' = (I, L, R, am_SH) ∧ Q x
def wp_M_areHearers (I : am_TI) (L : am_TL) (R : am_TR) (q : Nat) (p1 : Int64)  (Q : Bool → Prop) : Prop := wp_M_isFrom I L R p1 0 (((1 : Int64) <<< (Int32.toInt64 (I (q + 1) 3) &&& 63)) - 1) (fun (r1 : Bool) => Q r1)
set_option maxRecDepth 20000 in
theorem cm_M_areHearers {d : Nat} {I : am_TI} {L : am_TL} {R : am_TR}  (hw : am_Wf R)   {q : Nat} {p1 : Int64} {Q : Bool → Prop} (hd : 1 ≤ d) (hq : am_SH[q]? = some (.inl 12)) (h : wp_M_areHearers I L R q p1  Q) : am_Cm d 0 0 y_M_areHearers b_M_areHearers 3 (some .boolean) [.ref q, .long p1] (I, L, R, am_SH) (po_M_areHearers I L R Q) := by
  refine am_Cm_of (ini := false) (by decide +kernel) (fun z => by cases z) (by simp [Value.category]) (fun r σ' z => by obtain ⟨x, rfl, -⟩ := z; exact ⟨_, rfl, am_b_nar x⟩) ?_
  unfold wp_M_areHearers at h
  show am_Wp (d, "UnseenRingModel", b_M_areHearers, 3, false) 0 0 0 [some (.ref q), some (.long p1), none] [] (I, L, R, am_SH) (po_M_areHearers I L R Q)
  refine am_lload_n (n := 1) d_M_areHearers_0 rfl rfl ?_
  refine am_lconst (v := 0) (n := 2) d_M_areHearers_1 rfl rfl ?_
  refine am_lconst (v := 1) (n := 3) d_M_areHearers_2 rfl rfl ?_
  refine am_aload_n (n := 4) d_M_areHearers_3 rfl rfl ?_
  refine am_getR (x := (q + 1)) (n := 7) f_M_7 d_M_areHearers_4 rfl rfl hq (hw.1 q 12 0 1 hq rfl) ?_
  refine am_iconst (n := 8) d_M_areHearers_7 ci_3 rfl ?_
  refine am_iald2 (n := 9) d_M_areHearers_8 rfl (am_sho (k := 0) (o := 1) hq (by decide) (by decide) (by decide) rfl) cx_3_2258 cn_3 ?_
  refine am_lshl (n := 10) d_M_areHearers_9 rfl ?_
  refine am_lconst (v := 1) (n := 11) d_M_areHearers_10 rfl rfl ?_
  refine am_lsub (n := 12) d_M_areHearers_11 rfl ?_
  refine am_callS (kc := 0) (ks := 0) (As := [.long p1, .long 0, .long (((1 : Int64) <<< (Int32.toInt64 (I (q + 1) 3) &&& 63)) - 1)]) (n := 15) d_M_areHearers_12 rfl ce_M_isFrom lk_M_306 st_M_isFrom rfl rfl (Nat.le_of_ble_eq_true rfl) (Or.inl rfl) (cm_M_isFrom (d := d - 1) hw (by omega)  h) (by omega) ?_
  rintro _ _ ⟨r1, rfl, rfl, h⟩
  show am_Wp (d, "UnseenRingModel", b_M_areHearers, 3, false) 0 0 15 [some (.ref q), some (.long p1), none] [.int (am_b r1)] (I, L, R, am_SH) (po_M_areHearers I L R Q)
  exact am_iret d_M_areHearers_15 ⟨r1, rfl, rfl, h⟩
abbrev po_M_isGather (I : am_TI) (L : am_TL) (R : am_TR) (Q : Bool → Prop) : Option Value → am_St → Prop := fun r σ' => ∃ (x : Bool), r = some (.int (am_b x)) ∧ σ' = (I, L, R, am_SH) ∧ Q x
def wp_M_isGather (I : am_TI) (L : am_TL) (R : am_TR) (q : Nat) (p1 : Int32)  (Q : Bool → Prop) : Prop := wp_M_areHearers I L R q (Int32.toInt64 p1) (fun (r1 : Bool) => ((r1 = false → Q false) ∧ (r1 = true → ((p1 = 0 → Q false) ∧ (¬ p1 = 0 → wp_M_bits I L R p1 (fun (r2 : Int32) => ((4 ≤ r2 → Q false) ∧ (¬ 4 ≤ r2 → Q true))))))))
set_option maxRecDepth 20000 in
theorem cm_M_isGather {d : Nat} {I : am_TI} {L : am_TL} {R : am_TR}  (hw : am_Wf R)   {q : Nat} {p1 : Int32} {Q : Bool → Prop} (hd : 2 ≤ d) (hq : am_SH[q]? = some (.inl 12)) (h : wp_M_isGather I L R q p1  Q) : am_Cm d 0 0 y_M_isGather b_M_isGather 2 (some .boolean) [.ref q, .int p1] (I, L, R, am_SH) (po_M_isGather I L R Q) := by
  refine am_Cm_of (ini := false) (by decide +kernel) (fun z => by cases z) (by simp [Value.category]) (fun r σ' z => by obtain ⟨x, rfl, -⟩ := z; exact ⟨_, rfl, am_b_nar x⟩) ?_
  unfold wp_M_isGather at h
  show am_Wp (d, "UnseenRingModel", b_M_isGather, 2, false) 0 0 0 [some (.ref q), some (.int p1)] [] (I, L, R, am_SH) (po_M_isGather I L R Q)
  refine am_aload_n (n := 1) d_M_isGather_0 rfl rfl ?_
  refine am_iload_n (n := 2) d_M_isGather_1 rfl rfl ?_
  refine am_i2l (n := 3) d_M_isGather_2 rfl ?_
  refine am_callV (kc := 0) (ks := 0) (As := [.long (Int32.toInt64 p1)]) (n := 6) d_M_isGather_3 rfl ce_M_areHearers lk_M_396 in_M_areHearers rfl rfl hq rfl rfl (Nat.le_of_ble_eq_true rfl) (Or.inl rfl) (cm_M_areHearers (d := d - 1) hw (by omega) hq h) (by omega) ?_
  rintro _ _ ⟨r1, rfl, rfl, h⟩
  show am_Wp (d, "UnseenRingModel", b_M_isGather, 2, false) 0 0 6 [some (.ref q), some (.int p1)] [.int (am_b r1)] (I, L, R, am_SH) (po_M_isGather I L R Q)
  refine am_if_eq (y := 0) (tgt := 25) (n := 9) d_M_isGather_6 rfl rfl (fun c1 => ?_) (fun c1 => ?_)
  · have h := h.1 (am_b_0 c1)
    refine am_iconst (n := 26) d_M_isGather_25 ci_0 rfl ?_
    exact am_iret d_M_isGather_26 ⟨false, rfl, rfl, h⟩
  · have h := h.2 (am_b_n0 c1)
    refine am_iload_n (n := 10) d_M_isGather_9 rfl rfl ?_
    refine am_if_eq (y := 0) (tgt := 25) (n := 13) d_M_isGather_10 rfl rfl (fun c2 => ?_) (fun c2 => ?_)
    · have h := h.1 c2
      refine am_iconst (n := 26) d_M_isGather_25 ci_0 rfl ?_
      exact am_iret d_M_isGather_26 ⟨false, rfl, rfl, h⟩
    · have h := h.2 c2
      refine am_iload_n (n := 14) d_M_isGather_13 rfl rfl ?_
      refine am_callS (kc := 0) (ks := 0) (As := [.int p1]) (n := 17) d_M_isGather_14 rfl ce_M_bits lk_M_358 st_M_bits rfl rfl (Nat.le_of_ble_eq_true rfl) (Or.inl rfl) (cm_M_bits (d := d - 1) hw (by omega)  h) (by omega) ?_
      rintro _ _ ⟨r2, rfl, rfl, h⟩
      show am_Wp (d, "UnseenRingModel", b_M_isGather, 2, false) 0 0 17 [some (.ref q), some (.int p1)] [.int r2] (I, L, R, am_SH) (po_M_isGather I L R Q)
      refine am_iconst (n := 18) d_M_isGather_17 ci_4 rfl ?_
      refine am_icmp_ge (tgt := 25) (n := 21) d_M_isGather_18 rfl rfl (fun c3 => ?_) (fun c3 => ?_)
      · have h := h.1 c3
        refine am_iconst (n := 26) d_M_isGather_25 ci_0 rfl ?_
        exact am_iret d_M_isGather_26 ⟨false, rfl, rfl, h⟩
      · have h := h.2 c3
        refine am_iconst (n := 22) d_M_isGather_21 ci_1 rfl ?_
        refine am_goto (tgt := 26) d_M_isGather_22 rfl ?_
        exact am_iret d_M_isGather_26 ⟨true, rfl, rfl, h⟩
abbrev po_M_behindTune (I : am_TI) (L : am_TL) (R : am_TR) (Q : Int32 → Prop) : Option Value → am_St → Prop := fun r σ' => ∃ (x : Int32), r = some (.int x) ∧ σ' = (I, L, R, am_SH) ∧ Q x
def wb_M_behindTune_76 (I : am_TI) (L : am_TL) (R : am_TR) (q : Nat) (p1 : Int32) (p2 : Int32) (Q : Int32 → Prop) (K11 : Int32 → Int32 → Int32 → Int32 → Prop) (v4 : Int32) (v5 : Int32) (v6 : Int32) (s0 : Int32) (s1 : Int32) (s2 : Int32) : Prop := K11 (s0 + (s1 * s2)) (v4 * 9) (v5 / 9) (v6 + 1)
set_option maxRecDepth 20000 in
theorem tb_M_behindTune_76 {d : Nat}  {I : am_TI} {L : am_TL} {R : am_TR} {q : Nat} {p1 : Int32} {p2 : Int32} {Q : Int32 → Prop} {K11 : Int32 → Int32 → Int32 → Int32 → Prop} (hw : am_Wf R) (hq : am_SH[q]? = some (.inl 12)) (hK11 : ∀ (v3 : Int32) (v4 : Int32) (v5 : Int32) (v6 : Int32), K11 v3 v4 v5 v6 → am_Wp (d, "UnseenRingModel", b_M_behindTune, 9, false) 0 0 11 [some (.ref q), some (.int p1), some (.int p2), some (.int v3), some (.int v4), some (.int v5), some (.int v6), none, none] [] (I, L, R, am_SH) (po_M_behindTune I L R Q)) (hd : 2 ≤ d) (v4 : Int32) (v5 : Int32) (v6 : Int32) (s0 : Int32) (s1 : Int32) (s2 : Int32) (h : wb_M_behindTune_76 I L R q p1 p2 Q K11 v4 v5 v6 s0 s1 s2) : am_Wp (d, "UnseenRingModel", b_M_behindTune, 9, false) 0 0 76 [some (.ref q), some (.int p1), some (.int p2), none, some (.int v4), some (.int v5), some (.int v6), none, none] [.int s2, .int s1, .int s0] (I, L, R, am_SH) (po_M_behindTune I L R Q) := by
  unfold wb_M_behindTune_76 at h
  refine am_imul (n := 77) d_M_behindTune_76 rfl ?_
  refine am_iadd (n := 78) d_M_behindTune_77 rfl ?_
  refine am_istore_n (ls' := [some (.ref q), some (.int p1), some (.int p2), some (.int (s0 + (s1 * s2))), some (.int v4), some (.int v5), some (.int v6), none, none]) (n := 79) d_M_behindTune_78 (by decide) rfl rfl ?_
  refine am_iload (n := 81) d_M_behindTune_79 rfl rfl ?_
  refine am_bipush (n := 83) d_M_behindTune_81 cb_9 rfl ?_
  refine am_imul (n := 84) d_M_behindTune_83 rfl ?_
  refine am_istore (ls' := [some (.ref q), some (.int p1), some (.int p2), some (.int (s0 + (s1 * s2))), some (.int (v4 * 9)), some (.int v5), some (.int v6), none, none]) (n := 86) d_M_behindTune_84 (by decide) rfl rfl ?_
  refine am_iload (n := 88) d_M_behindTune_86 rfl rfl ?_
  refine am_bipush (n := 90) d_M_behindTune_88 cb_9 rfl ?_
  refine am_idiv (n := 91) d_M_behindTune_90 (by decide) rfl ?_
  refine am_istore (ls' := [some (.ref q), some (.int p1), some (.int p2), some (.int (s0 + (s1 * s2))), some (.int (v4 * 9)), some (.int (v5 / 9)), some (.int v6), none, none]) (n := 93) d_M_behindTune_91 (by decide) rfl rfl ?_
  refine am_iinc (v := v6 + 1) (ls' := [some (.ref q), some (.int p1), some (.int p2), some (.int (s0 + (s1 * s2))), some (.int (v4 * 9)), some (.int (v5 / 9)), some (.int (v6 + 1)), none, none]) (n := 96) d_M_behindTune_93 rfl (congrArg _ ci_1) (by decide) rfl rfl ?_
  refine am_goto (tgt := 11) d_M_behindTune_96 rfl ?_
  exact hK11 (s0 + (s1 * s2)) (v4 * 9) (v5 / 9) (v6 + 1)  h
def wb_M_behindTune_57 (I : am_TI) (L : am_TL) (R : am_TR) (q : Nat) (p1 : Int32) (p2 : Int32) (Q : Int32 → Prop) (K11 : Int32 → Int32 → Int32 → Int32 → Prop) (v3 : Int32) (v4 : Int32) (v5 : Int32) (v6 : Int32) (v7 : Int32) (s0 : Bool) : Prop := ((s0 = false → wb_M_behindTune_76 I L R q p1 p2 Q K11 v4 v5 v6 v3 v4 v7) ∧ (s0 = true → wb_M_behindTune_76 I L R q p1 p2 Q K11 v4 v5 v6 v3 v4 (v7 - 1)))
set_option maxRecDepth 20000 in
theorem tb_M_behindTune_57 {d : Nat}  {I : am_TI} {L : am_TL} {R : am_TR} {q : Nat} {p1 : Int32} {p2 : Int32} {Q : Int32 → Prop} {K11 : Int32 → Int32 → Int32 → Int32 → Prop} (hw : am_Wf R) (hq : am_SH[q]? = some (.inl 12)) (hK11 : ∀ (v3 : Int32) (v4 : Int32) (v5 : Int32) (v6 : Int32), K11 v3 v4 v5 v6 → am_Wp (d, "UnseenRingModel", b_M_behindTune, 9, false) 0 0 11 [some (.ref q), some (.int p1), some (.int p2), some (.int v3), some (.int v4), some (.int v5), some (.int v6), none, none] [] (I, L, R, am_SH) (po_M_behindTune I L R Q)) (hd : 2 ≤ d) (v3 : Int32) (v4 : Int32) (v5 : Int32) (v6 : Int32) (v7 : Int32) (s0 : Bool) (h : wb_M_behindTune_57 I L R q p1 p2 Q K11 v3 v4 v5 v6 v7 s0) : am_Wp (d, "UnseenRingModel", b_M_behindTune, 9, false) 0 0 57 [some (.ref q), some (.int p1), some (.int p2), some (.int v3), some (.int v4), some (.int v5), some (.int v6), some (.int v7), none] [.int (am_b s0)] (I, L, R, am_SH) (po_M_behindTune I L R Q) := by
  unfold wb_M_behindTune_57 at h
  refine am_istore (ls' := [some (.ref q), some (.int p1), some (.int p2), some (.int v3), some (.int v4), some (.int v5), some (.int v6), some (.int v7), some (.int (am_b s0))]) (n := 59) d_M_behindTune_57 (by decide) rfl rfl ?_
  refine am_iload_n (n := 60) d_M_behindTune_59 rfl rfl ?_
  refine am_iload (n := 62) d_M_behindTune_60 rfl rfl ?_
  refine am_iload (n := 64) d_M_behindTune_62 rfl rfl ?_
  refine am_if_eq (y := 0) (tgt := 74) (n := 67) d_M_behindTune_64 rfl rfl (fun c3 => ?_) (fun c3 => ?_)
  · have h := h.1 (am_b_0 c3)
    refine am_iload (n := 76) d_M_behindTune_74 rfl rfl ?_
    refine am_forget (ls' := [some (.ref q), some (.int p1), some (.int p2), none, some (.int v4), some (.int v5), some (.int v6), none, none]) (am_le_s (am_le_s (am_le_s (am_le_n (am_le_s (am_le_s (am_le_s (am_le_n (am_le_n am_le_e))))))))) ?_
    exact tb_M_behindTune_76 hw hq hK11 hd v4 v5 v6 v3 v4 v7 h
  · have h := h.2 (am_b_n0 c3)
    refine am_iload (n := 69) d_M_behindTune_67 rfl rfl ?_
    refine am_iconst (n := 70) d_M_behindTune_69 ci_1 rfl ?_
    refine am_isub (n := 71) d_M_behindTune_70 rfl ?_
    refine am_goto (tgt := 76) d_M_behindTune_71 rfl ?_
    refine am_forget (ls' := [some (.ref q), some (.int p1), some (.int p2), none, some (.int v4), some (.int v5), some (.int v6), none, none]) (am_le_s (am_le_s (am_le_s (am_le_n (am_le_s (am_le_s (am_le_s (am_le_n (am_le_n am_le_e))))))))) ?_
    exact tb_M_behindTune_76 hw hq hK11 hd v4 v5 v6 v3 v4 (v7 - 1) h
def wb_M_behindTune_56 (I : am_TI) (L : am_TL) (R : am_TR) (q : Nat) (p1 : Int32) (p2 : Int32) (Q : Int32 → Prop) (K11 : Int32 → Int32 → Int32 → Int32 → Prop) (v3 : Int32) (v4 : Int32) (v5 : Int32) (v6 : Int32) (v7 : Int32) : Prop := wb_M_behindTune_57 I L R q p1 p2 Q K11 v3 v4 v5 v6 v7 false
set_option maxRecDepth 20000 in
theorem tb_M_behindTune_56 {d : Nat}  {I : am_TI} {L : am_TL} {R : am_TR} {q : Nat} {p1 : Int32} {p2 : Int32} {Q : Int32 → Prop} {K11 : Int32 → Int32 → Int32 → Int32 → Prop} (hw : am_Wf R) (hq : am_SH[q]? = some (.inl 12)) (hK11 : ∀ (v3 : Int32) (v4 : Int32) (v5 : Int32) (v6 : Int32), K11 v3 v4 v5 v6 → am_Wp (d, "UnseenRingModel", b_M_behindTune, 9, false) 0 0 11 [some (.ref q), some (.int p1), some (.int p2), some (.int v3), some (.int v4), some (.int v5), some (.int v6), none, none] [] (I, L, R, am_SH) (po_M_behindTune I L R Q)) (hd : 2 ≤ d) (v3 : Int32) (v4 : Int32) (v5 : Int32) (v6 : Int32) (v7 : Int32) (h : wb_M_behindTune_56 I L R q p1 p2 Q K11 v3 v4 v5 v6 v7) : am_Wp (d, "UnseenRingModel", b_M_behindTune, 9, false) 0 0 56 [some (.ref q), some (.int p1), some (.int p2), some (.int v3), some (.int v4), some (.int v5), some (.int v6), some (.int v7), none] [] (I, L, R, am_SH) (po_M_behindTune I L R Q) := by
  unfold wb_M_behindTune_56 at h
  refine am_iconst (n := 57) d_M_behindTune_56 ci_0 rfl ?_
  exact tb_M_behindTune_57 hw hq hK11 hd v3 v4 v5 v6 v7 false h
def wl_M_behindTune_11 (I : am_TI) (L : am_TL) (R : am_TR) (q : Nat) (p1 : Int32) (p2 : Int32) (Q : Int32 → Prop)  : Nat → Int32 → Int32 → Int32 → Int32 → Prop
  | 0 => fun _ _ _ _ => False
  | f11 + 1 => fun v3 v4 v5 v6 => (((I q 26) ≤ v6 → Q v3) ∧ (¬ (I q 26) ≤ v6 → (((v5 - v5 / 9 * 9) ≤ 0 → wb_M_behindTune_56 I L R q p1 p2 Q (wl_M_behindTune_11 I L R q p1 p2 Q f11) v3 v4 v5 v6 (v5 - v5 / 9 * 9)) ∧ (¬ (v5 - v5 / 9 * 9) ≤ 0 → (vp_in v6 3 ∧ wp_M_hearerOf I L R q (I (q + 10) (Int32.toNatClampNeg v6)) 1 (fun (r1 : Int32) => wp_M_isIn I L R q r1 p2 (fun (r2 : Bool) => ((r2 = false → wb_M_behindTune_56 I L R q p1 p2 Q (wl_M_behindTune_11 I L R q p1 p2 Q f11) v3 v4 v5 v6 (v5 - v5 / 9 * 9)) ∧ (r2 = true → wb_M_behindTune_57 I L R q p1 p2 Q (wl_M_behindTune_11 I L R q p1 p2 Q f11) v3 v4 v5 v6 (v5 - v5 / 9 * 9) true)))))))))
set_option maxRecDepth 20000 in
theorem tl_M_behindTune_11 {d : Nat}  {I : am_TI} {L : am_TL} {R : am_TR} {q : Nat} {p1 : Int32} {p2 : Int32} {Q : Int32 → Prop}  (hw : am_Wf R) (hq : am_SH[q]? = some (.inl 12)) (hd : 2 ≤ d) : ∀ (n : Nat) (v3 : Int32) (v4 : Int32) (v5 : Int32) (v6 : Int32), wl_M_behindTune_11 I L R q p1 p2 Q  n v3 v4 v5 v6 → am_Wp (d, "UnseenRingModel", b_M_behindTune, 9, false) 0 0 11 [some (.ref q), some (.int p1), some (.int p2), some (.int v3), some (.int v4), some (.int v5), some (.int v6), none, none] [] (I, L, R, am_SH) (po_M_behindTune I L R Q) := by
  intro n
  induction n with
  | zero => intro v3 v4 v5 v6 h; exact h.elim
  | succ n ih =>
    intro v3 v4 v5 v6 h
    unfold wl_M_behindTune_11 at h
    refine am_iload (n := 13) d_M_behindTune_11 rfl rfl ?_
    refine am_aload_n (n := 14) d_M_behindTune_13 rfl rfl ?_
    refine am_getI (n := 17) f_M_389 d_M_behindTune_14 rfl rfl hq ?_
    refine am_icmp_ge (tgt := 99) (n := 20) d_M_behindTune_17 rfl rfl (fun c1 => ?_) (fun c1 => ?_)
    · have h := h.1 c1
      refine am_iload_n (n := 100) d_M_behindTune_99 rfl rfl ?_
      exact am_iret d_M_behindTune_100 ⟨v3, rfl, rfl, h⟩
    · have h := h.2 c1
      refine am_iload (n := 22) d_M_behindTune_20 rfl rfl ?_
      refine am_bipush (n := 24) d_M_behindTune_22 cb_9 rfl ?_
      refine am_irem (n := 25) d_M_behindTune_24 (by decide) rfl ?_
      refine am_istore (ls' := [some (.ref q), some (.int p1), some (.int p2), some (.int v3), some (.int v4), some (.int v5), some (.int v6), some (.int (v5 - v5 / 9 * 9)), none]) (n := 27) d_M_behindTune_25 (by decide) rfl rfl ?_
      refine am_iload (n := 29) d_M_behindTune_27 rfl rfl ?_
      refine am_if_le (y := 0) (tgt := 56) (n := 32) d_M_behindTune_29 rfl rfl (fun c2 => ?_) (fun c2 => ?_)
      · have h := h.1 c2
        exact tb_M_behindTune_56 hw hq ih hd v3 v4 v5 v6 (v5 - v5 / 9 * 9) h
      · have h := h.2 c2
        refine am_aload_n (n := 33) d_M_behindTune_32 rfl rfl ?_
        refine am_aload_n (n := 34) d_M_behindTune_33 rfl rfl ?_
        refine am_aload_n (n := 35) d_M_behindTune_34 rfl rfl ?_
        refine am_getR (x := (q + 10)) (n := 38) f_M_50 d_M_behindTune_35 rfl rfl hq (hw.1 q 12 25 10 hq rfl) ?_
        refine am_iload (n := 40) d_M_behindTune_38 rfl rfl ?_
        obtain ⟨g1, h⟩ := h
        refine am_iald2 (n := 41) d_M_behindTune_40 rfl (am_sho (k := 25) (o := 10) hq (by decide) (by decide) (by decide) rfl) g1 rfl ?_
        refine am_iconst (n := 42) d_M_behindTune_41 ci_1 rfl ?_
        refine am_callV (kc := 0) (ks := 0) (As := [.int (I (q + 10) (Int32.toNatClampNeg v6)), .int 1]) (n := 45) d_M_behindTune_42 rfl ce_M_hearerOf lk_M_313 in_M_hearerOf rfl rfl hq rfl rfl (Nat.le_of_ble_eq_true rfl) (Or.inl rfl) (cm_M_hearerOf (d := d - 1) hw (by omega) hq h) (by omega) ?_
        rintro _ _ ⟨r1, rfl, rfl, h⟩
        show am_Wp (d, "UnseenRingModel", b_M_behindTune, 9, false) 0 0 45 [some (.ref q), some (.int p1), some (.int p2), some (.int v3), some (.int v4), some (.int v5), some (.int v6), some (.int (v5 - v5 / 9 * 9)), none] [.int r1, .ref q] (I, L, R, am_SH) (po_M_behindTune I L R Q)
        refine am_iload_n (n := 46) d_M_behindTune_45 rfl rfl ?_
        refine am_callV (kc := 0) (ks := 0) (As := [.int r1, .int p2]) (n := 49) d_M_behindTune_46 rfl ce_M_isIn lk_M_251 in_M_isIn rfl rfl hq rfl rfl (Nat.le_of_ble_eq_true rfl) (Or.inl rfl) (cm_M_isIn (d := d - 1) hw (by omega) hq h) (by omega) ?_
        rintro _ _ ⟨r2, rfl, rfl, h⟩
        show am_Wp (d, "UnseenRingModel", b_M_behindTune, 9, false) 0 0 49 [some (.ref q), some (.int p1), some (.int p2), some (.int v3), some (.int v4), some (.int v5), some (.int v6), some (.int (v5 - v5 / 9 * 9)), none] [.int (am_b r2)] (I, L, R, am_SH) (po_M_behindTune I L R Q)
        refine am_if_eq (y := 0) (tgt := 56) (n := 52) d_M_behindTune_49 rfl rfl (fun c4 => ?_) (fun c4 => ?_)
        · have h := h.1 (am_b_0 c4)
          exact tb_M_behindTune_56 hw hq ih hd v3 v4 v5 v6 (v5 - v5 / 9 * 9) h
        · have h := h.2 (am_b_n0 c4)
          refine am_iconst (n := 53) d_M_behindTune_52 ci_1 rfl ?_
          refine am_goto (tgt := 57) d_M_behindTune_53 rfl ?_
          exact tb_M_behindTune_57 hw hq ih hd v3 v4 v5 v6 (v5 - v5 / 9 * 9) true h
def wp_M_behindTune (I : am_TI) (L : am_TL) (R : am_TR) (q : Nat) (p1 : Int32) (p2 : Int32)  (Q : Int32 → Prop) : Prop := (∃ z, wl_M_behindTune_11 I L R q p1 p2 Q z 0 1 p1 0)
set_option maxRecDepth 20000 in
theorem cm_M_behindTune {d : Nat} {I : am_TI} {L : am_TL} {R : am_TR}  (hw : am_Wf R)   {q : Nat} {p1 : Int32} {p2 : Int32} {Q : Int32 → Prop} (hd : 2 ≤ d) (hq : am_SH[q]? = some (.inl 12)) (h : wp_M_behindTune I L R q p1 p2  Q) : am_Cm d 0 0 y_M_behindTune b_M_behindTune 9 (some .int) [.ref q, .int p1, .int p2] (I, L, R, am_SH) (po_M_behindTune I L R Q) := by
  refine am_Cm_of (ini := false) (by decide +kernel) (fun z => by cases z) (by simp [Value.category]) (fun r σ' z => by obtain ⟨x, rfl, -⟩ := z; exact ⟨_, rfl, rfl⟩) ?_
  unfold wp_M_behindTune at h
  show am_Wp (d, "UnseenRingModel", b_M_behindTune, 9, false) 0 0 0 [some (.ref q), some (.int p1), some (.int p2), none, none, none, none, none, none] [] (I, L, R, am_SH) (po_M_behindTune I L R Q)
  refine am_iconst (n := 1) d_M_behindTune_0 ci_0 rfl ?_
  refine am_istore_n (ls' := [some (.ref q), some (.int p1), some (.int p2), some (.int 0), none, none, none, none, none]) (n := 2) d_M_behindTune_1 (by decide) rfl rfl ?_
  refine am_iconst (n := 3) d_M_behindTune_2 ci_1 rfl ?_
  refine am_istore (ls' := [some (.ref q), some (.int p1), some (.int p2), some (.int 0), some (.int 1), none, none, none, none]) (n := 5) d_M_behindTune_3 (by decide) rfl rfl ?_
  refine am_iload_n (n := 6) d_M_behindTune_5 rfl rfl ?_
  refine am_istore (ls' := [some (.ref q), some (.int p1), some (.int p2), some (.int 0), some (.int 1), some (.int p1), none, none, none]) (n := 8) d_M_behindTune_6 (by decide) rfl rfl ?_
  refine am_iconst (n := 9) d_M_behindTune_8 ci_0 rfl ?_
  refine am_istore (ls' := [some (.ref q), some (.int p1), some (.int p2), some (.int 0), some (.int 1), some (.int p1), some (.int 0), none, none]) (n := 11) d_M_behindTune_9 (by decide) rfl rfl ?_
  obtain ⟨n, h⟩ := h
  exact tl_M_behindTune_11 hw hq hd n 0 1 p1 0 h
