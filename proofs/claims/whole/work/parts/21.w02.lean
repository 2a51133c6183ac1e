abbrev po_Tokens_advance (L : am_TL) (R : am_TR) (Q : am_TI → Prop) : Option Value → am_St → Prop := fun r σ' => ∃ (I' : am_TI), r = none ∧ σ' = (I', L, R, am_SH) ∧ Q I'
def wb_Tokens_advance_23 (L : am_TL) (R : am_TR) (q : Nat) (Q : am_TI → Prop)  (I : am_TI) : Prop := (vp_in (I q 6) 901 ∧ (∀ I1, I1 = am_u2 I q 8 (I (q + 3) (Int32.toNatClampNeg (I q 6))) → (((I1 q 8) = 3 → (vp_in (I1 q 6) 901 ∧ (∀ I3, I3 = am_u2 I1 q 9 (Int64.toInt32 (L (q + 5) (Int32.toNatClampNeg (I1 q 6)))) → Q I3))) ∧ (¬ (I1 q 8) = 3 → (∀ I2, I2 = am_u2 I1 q 9 (-1) → Q I2)))))
set_option maxRecDepth 20000 in
theorem tb_Tokens_advance_23 {d : Nat}  {L : am_TL} {R : am_TR} {q : Nat} {Q : am_TI → Prop}  (hw : am_Wf R) (hq : am_SH[q]? = some (.inl 9)) (hd : 0 ≤ d) (I : am_TI) (h : wb_Tokens_advance_23 L R q Q  I) : am_Wp (d, "UnseenRing$Tokens", b_Tokens_advance, 1, false) 0 0 23 [some (.ref q)] [] (I, L, R, am_SH) (po_Tokens_advance L R Q) := by
  unfold wb_Tokens_advance_23 at h
  refine am_aload_n (n := 24) d_Tokens_advance_23 rfl rfl ?_
  refine am_aload_n (n := 25) d_Tokens_advance_24 rfl rfl ?_
  refine am_getR (x := (q + 3)) (n := 28) f_Tokens_19 d_Tokens_advance_25 rfl rfl hq (hw.1 q 9 2 3 hq rfl) ?_
  refine am_aload_n (n := 29) d_Tokens_advance_28 rfl rfl ?_
  refine am_getI (n := 32) f_Tokens_33 d_Tokens_advance_29 rfl rfl hq ?_
  obtain ⟨g1, h⟩ := h
  refine am_iald2 (n := 33) d_Tokens_advance_32 rfl (am_sho (k := 2) (o := 3) hq (by decide) (by decide) (by decide) rfl) g1 rfl ?_
  refine am_putI (n := 36) f_Tokens_39 d_Tokens_advance_33 rfl ⟨_, rfl, Or.inl rfl⟩ rfl rfl hq ?_
  generalize eI1 : am_u2 I q 8 (I (q + 3) (Int32.toNatClampNeg (I q 6))) = I1
  have h := h I1 eI1.symm
  refine am_aload_n (n := 37) d_Tokens_advance_36 rfl rfl ?_
  refine am_aload_n (n := 38) d_Tokens_advance_37 rfl rfl ?_
  refine am_getI (n := 41) f_Tokens_39 d_Tokens_advance_38 rfl rfl hq ?_
  refine am_iconst (n := 42) d_Tokens_advance_41 ci_3 rfl ?_
  refine am_icmp_ne (tgt := 58) (n := 45) d_Tokens_advance_42 rfl rfl (fun c2 => ?_) (fun c2 => ?_)
  · have h := h.2 c2
    refine am_iconst (n := 59) d_Tokens_advance_58 ci_m1 rfl ?_
    refine am_putI (n := 62) f_Tokens_42 d_Tokens_advance_59 rfl ⟨_, rfl, Or.inl rfl⟩ rfl rfl hq ?_
    generalize eI2 : am_u2 I1 q 9 (-1) = I2
    have h := h I2 eI2.symm
    exact am_vret d_Tokens_advance_62 ⟨I2, rfl, rfl, h⟩
  · have h := h.1 c2
    refine am_aload_n (n := 46) d_Tokens_advance_45 rfl rfl ?_
    refine am_getR (x := (q + 5)) (n := 49) f_Tokens_26 d_Tokens_advance_46 rfl rfl hq (hw.1 q 9 4 5 hq rfl) ?_
    refine am_aload_n (n := 50) d_Tokens_advance_49 rfl rfl ?_
    refine am_getI (n := 53) f_Tokens_33 d_Tokens_advance_50 rfl rfl hq ?_
    obtain ⟨g2, h⟩ := h
    refine am_lald2 (n := 54) d_Tokens_advance_53 rfl (am_sho (k := 4) (o := 5) hq (by decide) (by decide) (by decide) rfl) g2 rfl ?_
    refine am_l2i (n := 55) d_Tokens_advance_54 rfl ?_
    refine am_goto (tgt := 59) d_Tokens_advance_55 rfl ?_
    refine am_putI (n := 62) f_Tokens_42 d_Tokens_advance_59 rfl ⟨_, rfl, Or.inl rfl⟩ rfl rfl hq ?_
    generalize eI3 : am_u2 I1 q 9 (Int64.toInt32 (L (q + 5) (Int32.toNatClampNeg (I1 q 6)))) = I3
    have h := h I3 eI3.symm
    exact am_vret d_Tokens_advance_62 ⟨I3, rfl, rfl, h⟩
def wp_Tokens_advance (I : am_TI) (L : am_TL) (R : am_TR) (q : Nat)  (Q : am_TI → Prop) : Prop := ((((I q 5) - 1) ≤ (I q 6) → wb_Tokens_advance_23 L R q Q I) ∧ (¬ ((I q 5) - 1) ≤ (I q 6) → (∀ I4, I4 = am_u2 I q 6 ((I q 6) + 1) → wb_Tokens_advance_23 L R q Q I4)))
set_option maxRecDepth 20000 in
theorem cm_Tokens_advance {d : Nat} {I : am_TI} {L : am_TL} {R : am_TR}  (hw : am_Wf R)   {q : Nat} {Q : am_TI → Prop} (hd : 0 ≤ d) (hq : am_SH[q]? = some (.inl 9)) (h : wp_Tokens_advance I L R q  Q) : am_Cm d 0 0 y_Tokens_advance b_Tokens_advance 1 (none) [.ref q] (I, L, R, am_SH) (po_Tokens_advance L R Q) := by
  refine am_Cm_of (ini := false) (by decide +kernel) (fun z => by cases z) (by simp [Value.category]) (fun r σ' z => by obtain ⟨_, rfl, -⟩ := z; rfl) ?_
  unfold wp_Tokens_advance at h
  show am_Wp (d, "UnseenRing$Tokens", b_Tokens_advance, 1, false) 0 0 0 [some (.ref q)] [] (I, L, R, am_SH) (po_Tokens_advance L R Q)
  refine am_aload_n (n := 1) d_Tokens_advance_0 rfl rfl ?_
  refine am_getI (n := 4) f_Tokens_33 d_Tokens_advance_1 rfl rfl hq ?_
  refine am_aload_n (n := 5) d_Tokens_advance_4 rfl rfl ?_
  refine am_getI (n := 8) f_Tokens_29 d_Tokens_advance_5 rfl rfl hq ?_
  refine am_iconst (n := 9) d_Tokens_advance_8 ci_1 rfl ?_
  refine am_isub (n := 10) d_Tokens_advance_9 rfl ?_
  refine am_icmp_ge (tgt := 23) (n := 13) d_Tokens_advance_10 rfl rfl (fun c1 => ?_) (fun c1 => ?_)
  · have h := h.1 c1
    exact tb_Tokens_advance_23 hw hq hd I h
  · have h := h.2 c1
    refine am_aload_n (n := 14) d_Tokens_advance_13 rfl rfl ?_
    refine am_dup (n := 15) d_Tokens_advance_14 rfl rfl ?_
    refine am_getI (n := 18) f_Tokens_33 d_Tokens_advance_15 rfl rfl hq ?_
    refine am_iconst (n := 19) d_Tokens_advance_18 ci_1 rfl ?_
    refine am_iadd (n := 20) d_Tokens_advance_19 rfl ?_
    refine am_putI (n := 23) f_Tokens_33 d_Tokens_advance_20 rfl ⟨_, rfl, Or.inl rfl⟩ rfl rfl hq ?_
    generalize eI4 : am_u2 I q 6 ((I q 6) + 1) = I4
    have h := h I4 eI4.symm
    exact tb_Tokens_advance_23 hw hq hd I4 h
abbrev po_Tokens_refuse (L : am_TL) (R : am_TR) (Q : Bool → am_TI → Prop) : Option Value → am_St → Prop := fun r σ' => ∃ (x : Bool) (I' : am_TI), r = some (.int (am_b x)) ∧ σ' = (I', L, R, am_SH) ∧ Q x I'
def wb_Tokens_refuse_15 (L : am_TL) (R : am_TR) (q : Nat) (p1 : Int32) (Q : Bool → am_TI → Prop)  (I : am_TI) (s0 : Nat) (s1 : Int32) : Prop := (∀ I1, I1 = am_u2 I s0 10 s1 → (vp_in (I1 q 6) 901 ∧ (∀ I2, I2 = am_u2 I1 q 11 (I1 (q + 4) (Int32.toNatClampNeg (I1 q 6))) → Q false I2)))
set_option maxRecDepth 20000 in
theorem tb_Tokens_refuse_15 {d : Nat}  {L : am_TL} {R : am_TR} {q : Nat} {p1 : Int32} {Q : Bool → am_TI → Prop}  (hw : am_Wf R) (hq : am_SH[q]? = some (.inl 9)) (hd : 0 ≤ d) (I : am_TI) (s0 : Nat) (s1 : Int32) (hs0 : am_SH[s0]? = some (.inl 9)) (h : wb_Tokens_refuse_15 L R q p1 Q  I s0 s1) : am_Wp (d, "UnseenRing$Tokens", b_Tokens_refuse, 2, false) 0 0 15 [some (.ref q), some (.int p1)] [.int s1, .ref s0] (I, L, R, am_SH) (po_Tokens_refuse L R Q) := by
  unfold wb_Tokens_refuse_15 at h
  refine am_putI (n := 18) f_Tokens_45 d_Tokens_refuse_15 rfl ⟨_, rfl, Or.inl rfl⟩ rfl rfl hs0 ?_
  generalize eI1 : am_u2 I s0 10 s1 = I1
  have h := h I1 eI1.symm
  refine am_aload_n (n := 19) d_Tokens_refuse_18 rfl rfl ?_
  refine am_aload_n (n := 20) d_Tokens_refuse_19 rfl rfl ?_
  refine am_getR (x := (q + 4)) (n := 23) f_Tokens_23 d_Tokens_refuse_20 rfl rfl hq (hw.1 q 9 3 4 hq rfl) ?_
  refine am_aload_n (n := 24) d_Tokens_refuse_23 rfl rfl ?_
  refine am_getI (n := 27) f_Tokens_33 d_Tokens_refuse_24 rfl rfl hq ?_
  obtain ⟨g1, h⟩ := h
  refine am_iald2 (n := 28) d_Tokens_refuse_27 rfl (am_sho (k := 3) (o := 4) hq (by decide) (by decide) (by decide) rfl) g1 rfl ?_
  refine am_putI (n := 31) f_Tokens_48 d_Tokens_refuse_28 rfl ⟨_, rfl, Or.inl rfl⟩ rfl rfl hq ?_
  generalize eI2 : am_u2 I1 q 11 (I1 (q + 4) (Int32.toNatClampNeg (I1 q 6))) = I2
  have h := h I2 eI2.symm
  refine am_iconst (n := 32) d_Tokens_refuse_31 ci_0 rfl ?_
  exact am_iret d_Tokens_refuse_32 ⟨false, I2, rfl, rfl, h⟩
def wp_Tokens_refuse (I : am_TI) (L : am_TL) (R : am_TR) (q : Nat) (p1 : Int32)  (Q : Bool → am_TI → Prop) : Prop := (((I q 8) = 6 → wb_Tokens_refuse_15 L R q p1 Q I q 1) ∧ (¬ (I q 8) = 6 → wb_Tokens_refuse_15 L R q p1 Q I q p1))
set_option maxRecDepth 20000 in
theorem cm_Tokens_refuse {d : Nat} {I : am_TI} {L : am_TL} {R : am_TR}  (hw : am_Wf R)   {q : Nat} {p1 : Int32} {Q : Bool → am_TI → Prop} (hd : 0 ≤ d) (hq : am_SH[q]? = some (.inl 9)) (h : wp_Tokens_refuse I L R q p1  Q) : am_Cm d 0 0 y_Tokens_refuse b_Tokens_refuse 2 (some .boolean) [.ref q, .int p1] (I, L, R, am_SH) (po_Tokens_refuse L R Q) := by
  refine am_Cm_of (ini := false) (by decide +kernel) (fun z => by cases z) (by simp [Value.category]) (fun r σ' z => by obtain ⟨x, _, rfl, -⟩ := z; exact ⟨_, rfl, am_b_nar x⟩) ?_
  unfold wp_Tokens_refuse at h
  show am_Wp (d, "UnseenRing$Tokens", b_Tokens_refuse, 2, false) 0 0 0 [some (.ref q), some (.int p1)] [] (I, L, R, am_SH) (po_Tokens_refuse L R Q)
  refine am_aload_n (n := 1) d_Tokens_refuse_0 rfl rfl ?_
  refine am_aload_n (n := 2) d_Tokens_refuse_1 rfl rfl ?_
  refine am_getI (n := 5) f_Tokens_39 d_Tokens_refuse_2 rfl rfl hq ?_
  refine am_bipush (n := 7) d_Tokens_refuse_5 cb_6 rfl ?_
  refine am_icmp_ne (tgt := 14) (n := 10) d_Tokens_refuse_7 rfl rfl (fun c1 => ?_) (fun c1 => ?_)
  · have h := h.2 c1
    refine am_iload_n (n := 15) d_Tokens_refuse_14 rfl rfl ?_
    exact tb_Tokens_refuse_15 hw hq hd I q p1 hq h
  · have h := h.1 c1
    refine am_iconst (n := 11) d_Tokens_refuse_10 ci_1 rfl ?_
    refine am_goto (tgt := 15) d_Tokens_refuse_11 rfl ?_
    exact tb_Tokens_refuse_15 hw hq hd I q 1 hq h
abbrev po_Tokens_takeNumber (L : am_TL) (R : am_TR) (Q : Int32 → am_TI → Prop) : Option Value → am_St → Prop := fun r σ' => ∃ (x : Int32) (I' : am_TI), r = some (.int x) ∧ σ' = (I', L, R, am_SH) ∧ Q x I'
def wp_Tokens_takeNumber (I : am_TI) (L : am_TL) (R : am_TR) (q : Nat) (p1 : Int32) (p2 : Int32)  (Q : Int32 → am_TI → Prop) : Prop := (((I q 8) = 4 → (vp_in (I q 6) 901 ∧ wp_U_within I L R (Int64.toInt32 (L (q + 5) (Int32.toNatClampNeg (I q 6)))) p1 p2 (fun (r1 : Bool) => ((r1 = false → wp_Tokens_refuse I L R q 4 (fun (r2 : Bool) (I2 : am_TI) => Q (-1) I2)) ∧ (r1 = true → wp_Tokens_advance I L R q (fun (I1 : am_TI) => Q (Int64.toInt32 (L (q + 5) (Int32.toNatClampNeg (I q 6)))) I1)))))) ∧ (¬ (I q 8) = 4 → wp_Tokens_refuse I L R q 2 (fun (r3 : Bool) (I3 : am_TI) => Q (-1) I3)))
set_option maxRecDepth 20000 in
theorem cm_Tokens_takeNumber {d : Nat} {I : am_TI} {L : am_TL} {R : am_TR}  (hw : am_Wf R)   {q : Nat} {p1 : Int32} {p2 : Int32} {Q : Int32 → am_TI → Prop} (hd : 1 ≤ d) (hq : am_SH[q]? = some (.inl 9)) (h : wp_Tokens_takeNumber I L R q p1 p2  Q) : am_Cm d 0 0 y_Tokens_takeNumber b_Tokens_takeNumber 4 (some .int) [.ref q, .int p1, .int p2] (I, L, R, am_SH) (po_Tokens_takeNumber L R Q) := by
  refine am_Cm_of (ini := false) (by decide +kernel) (fun z => by cases z) (by simp [Value.category]) (fun r σ' z => by obtain ⟨x, _, rfl, -⟩ := z; exact ⟨_, rfl, rfl⟩) ?_
  unfold wp_Tokens_takeNumber at h
  show am_Wp (d, "UnseenRing$Tokens", b_Tokens_takeNumber, 4, false) 0 0 0 [some (.ref q), some (.int p1), some (.int p2), none] [] (I, L, R, am_SH) (po_Tokens_takeNumber L R Q)
  refine am_aload_n (n := 1) d_Tokens_takeNumber_0 rfl rfl ?_
  refine am_getI (n := 4) f_Tokens_39 d_Tokens_takeNumber_1 rfl rfl hq ?_
  refine am_iconst (n := 5) d_Tokens_takeNumber_4 ci_4 rfl ?_
  refine am_icmp_eq (tgt := 16) (n := 8) d_Tokens_takeNumber_5 rfl rfl (fun c1 => ?_) (fun c1 => ?_)
  · have h := h.1 c1
    refine am_aload_n (n := 17) d_Tokens_takeNumber_16 rfl rfl ?_
    refine am_getR (x := (q + 5)) (n := 20) f_Tokens_26 d_Tokens_takeNumber_17 rfl rfl hq (hw.1 q 9 4 5 hq rfl) ?_
    refine am_aload_n (n := 21) d_Tokens_takeNumber_20 rfl rfl ?_
    refine am_getI (n := 24) f_Tokens_33 d_Tokens_takeNumber_21 rfl rfl hq ?_
    obtain ⟨g1, h⟩ := h
    refine am_lald2 (n := 25) d_Tokens_takeNumber_24 rfl (am_sho (k := 4) (o := 5) hq (by decide) (by decide) (by decide) rfl) g1 rfl ?_
    refine am_l2i (n := 26) d_Tokens_takeNumber_25 rfl ?_
    refine am_istore_n (ls' := [some (.ref q), some (.int p1), some (.int p2), some (.int (Int64.toInt32 (L (q + 5) (Int32.toNatClampNeg (I q 6)))))]) (n := 27) d_Tokens_takeNumber_26 (by decide) rfl rfl ?_
    refine am_iload_n (n := 28) d_Tokens_takeNumber_27 rfl rfl ?_
    refine am_iload_n (n := 29) d_Tokens_takeNumber_28 rfl rfl ?_
    refine am_iload_n (n := 30) d_Tokens_takeNumber_29 rfl rfl ?_
    refine am_callS (kc := 0) (ks := 0) (As := [.int (Int64.toInt32 (L (q + 5) (Int32.toNatClampNeg (I q 6)))), .int p1, .int p2]) (n := 33) d_Tokens_takeNumber_30 rfl ce_U_within lk_Tokens_85 st_U_within rfl rfl (Nat.le_of_ble_eq_true rfl) (Or.inl rfl) (cm_U_within (d := d - 1) hw (by omega)  h) (by omega) ?_
    rintro _ _ ⟨r1, rfl, rfl, h⟩
    show am_Wp (d, "UnseenRing$Tokens", b_Tokens_takeNumber, 4, false) 0 0 33 [some (.ref q), some (.int p1), some (.int p2), some (.int (Int64.toInt32 (L (q + 5) (Int32.toNatClampNeg (I q 6)))))] [.int (am_b r1)] (I, L, R, am_SH) (po_Tokens_takeNumber L R Q)
    refine am_if_ne (y := 0) (tgt := 44) (n := 36) d_Tokens_takeNumber_33 rfl rfl (fun c2 => ?_) (fun c2 => ?_)
    · have h := h.2 (am_b_n0 c2)
      refine am_aload_n (n := 45) d_Tokens_takeNumber_44 rfl rfl ?_
      refine am_callV (kc := 0) (ks := 0) (As := []) (n := 48) d_Tokens_takeNumber_45 rfl ce_Tokens_advance lk_Tokens_76 in_Tokens_advance rfl rfl hq rfl rfl (Nat.le_of_ble_eq_true rfl) (Or.inl rfl) (cm_Tokens_advance (d := d - 1) hw (by omega) hq h) (by omega) ?_
      rintro _ _ ⟨I1, rfl, rfl, h⟩
      show am_Wp (d, "UnseenRing$Tokens", b_Tokens_takeNumber, 4, false) 0 0 48 [some (.ref q), some (.int p1), some (.int p2), some (.int (Int64.toInt32 (L (q + 5) (Int32.toNatClampNeg (I q 6)))))] [] (I1, L, R, am_SH) (po_Tokens_takeNumber L R Q)
      refine am_iload_n (n := 49) d_Tokens_takeNumber_48 rfl rfl ?_
      exact am_iret d_Tokens_takeNumber_49 ⟨(Int64.toInt32 (L (q + 5) (Int32.toNatClampNeg (I q 6)))), I1, rfl, rfl, h⟩
    · have h := h.1 (am_b_0 c2)
      refine am_aload_n (n := 37) d_Tokens_takeNumber_36 rfl rfl ?_
      refine am_iconst (n := 38) d_Tokens_takeNumber_37 ci_4 rfl ?_
      refine am_callV (kc := 0) (ks := 0) (As := [.int 4]) (n := 41) d_Tokens_takeNumber_38 rfl ce_Tokens_refuse lk_Tokens_79 in_Tokens_refuse rfl rfl hq rfl rfl (Nat.le_of_ble_eq_true rfl) (Or.inl rfl) (cm_Tokens_refuse (d := d - 1) hw (by omega) hq h) (by omega) ?_
      rintro _ _ ⟨r2, I2, rfl, rfl, h⟩
      show am_Wp (d, "UnseenRing$Tokens", b_Tokens_takeNumber, 4, false) 0 0 41 [some (.ref q), some (.int p1), some (.int p2), some (.int (Int64.toInt32 (L (q + 5) (Int32.toNatClampNeg (I q 6)))))] [.int (am_b r2)] (I2, L, R, am_SH) (po_Tokens_takeNumber L R Q)
      refine am_pop (n := 42) d_Tokens_takeNumber_41 rfl rfl ?_
      refine am_iconst (n := 43) d_Tokens_takeNumber_42 ci_m1 rfl ?_
      exact am_iret d_Tokens_takeNumber_43 ⟨(-1), I2, rfl, rfl, h⟩
  · have h := h.2 c1
    refine am_aload_n (n := 9) d_Tokens_takeNumber_8 rfl rfl ?_
    refine am_iconst (n := 10) d_Tokens_takeNumber_9 ci_2 rfl ?_
    refine am_callV (kc := 0) (ks := 0) (As := [.int 2]) (n := 13) d_Tokens_takeNumber_10 rfl ce_Tokens_refuse lk_Tokens_79 in_Tokens_refuse rfl rfl hq rfl rfl (Nat.le_of_ble_eq_true rfl) (Or.inl rfl) (cm_Tokens_refuse (d := d - 1) hw (by omega) hq h) (by omega) ?_
    rintro _ _ ⟨r3, I3, rfl, rfl, h⟩
    show am_Wp (d, "UnseenRing$Tokens", b_Tokens_takeNumber, 4, false) 0 0 13 [some (.ref q), some (.int p1), some (.int p2), none] [.int (am_b r3)] (I3, L, R, am_SH) (po_Tokens_takeNumber L R Q)
    refine am_pop (n := 14) d_Tokens_takeNumber_13 rfl rfl ?_
    refine am_iconst (n := 15) d_Tokens_takeNumber_14 ci_m1 rfl ?_
    exact am_iret d_Tokens_takeNumber_15 ⟨(-1), I3, rfl, rfl, h⟩
abbrev po_Tokens_takeSemicolon (L : am_TL) (R : am_TR) (Q : Bool → am_TI → Prop) : Option Value → am_St → Prop := fun r σ' => ∃ (x : Bool) (I' : am_TI), r = some (.int (am_b x)) ∧ σ' = (I', L, R, am_SH) ∧ Q x I'
def wb_Tokens_takeSemicolon_24 (L : am_TL) (R : am_TR) (q : Nat) (Q : Bool → am_TI → Prop)  (I : am_TI) : Prop := wp_Tokens_refuse I L R q 2 (fun (r1 : Bool) (I1 : am_TI) => Q r1 I1)
set_option maxRecDepth 20000 in
theorem tb_Tokens_takeSemicolon_24 {d : Nat}  {L : am_TL} {R : am_TR} {q : Nat} {Q : Bool → am_TI → Prop}  (hw : am_Wf R) (hq : am_SH[q]? = some (.inl 9)) (hd : 1 ≤ d) (I : am_TI) (h : wb_Tokens_takeSemicolon_24 L R q Q  I) : am_Wp (d, "UnseenRing$Tokens", b_Tokens_takeSemicolon, 1, false) 0 0 24 [some (.ref q)] [] (I, L, R, am_SH) (po_Tokens_takeSemicolon L R Q) := by
  unfold wb_Tokens_takeSemicolon_24 at h
  refine am_aload_n (n := 25) d_Tokens_takeSemicolon_24 rfl rfl ?_
  refine am_iconst (n := 26) d_Tokens_takeSemicolon_25 ci_2 rfl ?_
  refine am_callV (kc := 0) (ks := 0) (As := [.int 2]) (n := 29) d_Tokens_takeSemicolon_26 rfl ce_Tokens_refuse lk_Tokens_79 in_Tokens_refuse rfl rfl hq rfl rfl (Nat.le_of_ble_eq_true rfl) (Or.inl rfl) (cm_Tokens_refuse (d := d - 1) hw (by omega) hq h) (by omega) ?_
  rintro _ _ ⟨r1, I1, rfl, rfl, h⟩
  show am_Wp (d, "UnseenRing$Tokens", b_Tokens_takeSemicolon, 1, false) 0 0 29 [some (.ref q)] [.int (am_b r1)] (I1, L, R, am_SH) (po_Tokens_takeSemicolon L R Q)
  exact am_iret d_Tokens_takeSemicolon_29 ⟨r1, I1, rfl, rfl, h⟩
def wp_Tokens_takeSemicolon (I : am_TI) (L : am_TL) (R : am_TR) (q : Nat)  (Q : Bool → am_TI → Prop) : Prop := (((I q 8) = 5 → (vp_in (I q 6) 901 ∧ (((L (q + 5) (Int32.toNatClampNeg (I q 6))) = 59 → wp_Tokens_advance I L R q (fun (I2 : am_TI) => Q true I2)) ∧ (¬ (L (q + 5) (Int32.toNatClampNeg (I q 6))) = 59 → wb_Tokens_takeSemicolon_24 L R q Q I)))) ∧ (¬ (I q 8) = 5 → wb_Tokens_takeSemicolon_24 L R q Q I))
set_option maxRecDepth 20000 in
theorem cm_Tokens_takeSemicolon {d : Nat} {I : am_TI} {L : am_TL} {R : am_TR}  (hw : am_Wf R)   {q : Nat} {Q : Bool → am_TI → Prop} (hd : 1 ≤ d) (hq : am_SH[q]? = some (.inl 9)) (h : wp_Tokens_takeSemicolon I L R q  Q) : am_Cm d 0 0 y_Tokens_takeSemicolon b_Tokens_takeSemicolon 1 (some .boolean) [.ref q] (I, L, R, am_SH) (po_Tokens_takeSemicolon L R Q) := by
  refine am_Cm_of (ini := false) (by decide +kernel) (fun z => by cases z) (by simp [Value.category]) (fun r σ' z => by obtain ⟨x, _, rfl, -⟩ := z; exact ⟨_, rfl, am_b_nar x⟩) ?_
  unfold wp_Tokens_takeSemicolon at h
  show am_Wp (d, "UnseenRing$Tokens", b_Tokens_takeSemicolon, 1, false) 0 0 0 [some (.ref q)] [] (I, L, R, am_SH) (po_Tokens_takeSemicolon L R Q)
  refine am_aload_n (n := 1) d_Tokens_takeSemicolon_0 rfl rfl ?_
  refine am_getI (n := 4) f_Tokens_39 d_Tokens_takeSemicolon_1 rfl rfl hq ?_
  refine am_iconst (n := 5) d_Tokens_takeSemicolon_4 ci_5 rfl ?_
  refine am_icmp_ne (tgt := 24) (n := 8) d_Tokens_takeSemicolon_5 rfl rfl (fun c1 => ?_) (fun c1 => ?_)
  · have h := h.2 c1
    exact tb_Tokens_takeSemicolon_24 hw hq hd I h
  · have h := h.1 c1
    refine am_aload_n (n := 9) d_Tokens_takeSemicolon_8 rfl rfl ?_
    refine am_getR (x := (q + 5)) (n := 12) f_Tokens_26 d_Tokens_takeSemicolon_9 rfl rfl hq (hw.1 q 9 4 5 hq rfl) ?_
    refine am_aload_n (n := 13) d_Tokens_takeSemicolon_12 rfl rfl ?_
    refine am_getI (n := 16) f_Tokens_33 d_Tokens_takeSemicolon_13 rfl rfl hq ?_
    obtain ⟨g1, h⟩ := h
    refine am_lald2 (n := 17) d_Tokens_takeSemicolon_16 rfl (am_sho (k := 4) (o := 5) hq (by decide) (by decide) (by decide) rfl) g1 rfl ?_
    refine am_ldc2 (n := 20) d_Tokens_takeSemicolon_17 k_Tokens_83 rfl ?_
    refine am_lcmp (n := 21) d_Tokens_takeSemicolon_20 rfl ?_
    refine am_if_eq (y := 0) (tgt := 30) (n := 24) d_Tokens_takeSemicolon_21 rfl rfl (fun c2 => ?_) (fun c2 => ?_)
    · have h := h.1 (am_cmp_eq.mp c2)
      refine am_aload_n (n := 31) d_Tokens_takeSemicolon_30 rfl rfl ?_
      refine am_callV (kc := 0) (ks := 0) (As := []) (n := 34) d_Tokens_takeSemicolon_31 rfl ce_Tokens_advance lk_Tokens_76 in_Tokens_advance rfl rfl hq rfl rfl (Nat.le_of_ble_eq_true rfl) (Or.inl rfl) (cm_Tokens_advance (d := d - 1) hw (by omega) hq h) (by omega) ?_
      rintro _ _ ⟨I2, rfl, rfl, h⟩
      show am_Wp (d, "UnseenRing$Tokens", b_Tokens_takeSemicolon, 1, false) 0 0 34 [some (.ref q)] [] (I2, L, R, am_SH) (po_Tokens_takeSemicolon L R Q)
      refine am_iconst (n := 35) d_Tokens_takeSemicolon_34 ci_1 rfl ?_
      exact am_iret d_Tokens_takeSemicolon_35 ⟨true, I2, rfl, rfl, h⟩
    · have h := h.2 (fun z => c2 (am_cmp_eq.mpr z))
      exact tb_Tokens_takeSemicolon_24 hw hq hd I h
abbrev po_Tokens_takeWord (L : am_TL) (R : am_TR) (Q : Bool → am_TI → Prop) : Option Value → am_St → Prop := fun r σ' => ∃ (x : Bool) (I' : am_TI), r = some (.int (am_b x)) ∧ σ' = (I', L, R, am_SH) ∧ Q x I'
def wp_Tokens_takeWord (I : am_TI) (L : am_TL) (R : am_TR) (q : Nat) (p1 : Int32)  (Q : Bool → am_TI → Prop) : Prop := (((I q 9) = p1 → wp_Tokens_advance I L R q (fun (I1 : am_TI) => Q true I1)) ∧ (¬ (I q 9) = p1 → wp_Tokens_refuse I L R q 2 (fun (r1 : Bool) (I2 : am_TI) => Q r1 I2)))
set_option maxRecDepth 20000 in
theorem cm_Tokens_takeWord {d : Nat} {I : am_TI} {L : am_TL} {R : am_TR}  (hw : am_Wf R)   {q : Nat} {p1 : Int32} {Q : Bool → am_TI → Prop} (hd : 1 ≤ d) (hq : am_SH[q]? = some (.inl 9)) (h : wp_Tokens_takeWord I L R q p1  Q) : am_Cm d 0 0 y_Tokens_takeWord b_Tokens_takeWord 2 (some .boolean) [.ref q, .int p1] (I, L, R, am_SH) (po_Tokens_takeWord L R Q) := by
  refine am_Cm_of (ini := false) (by decide +kernel) (fun z => by cases z) (by simp [Value.category]) (fun r σ' z => by obtain ⟨x, _, rfl, -⟩ := z; exact ⟨_, rfl, am_b_nar x⟩) ?_
  unfold wp_Tokens_takeWord at h
  show am_Wp (d, "UnseenRing$Tokens", b_Tokens_takeWord, 2, false) 0 0 0 [some (.ref q), some (.int p1)] [] (I, L, R, am_SH) (po_Tokens_takeWord L R Q)
  refine am_aload_n (n := 1) d_Tokens_takeWord_0 rfl rfl ?_
  refine am_getI (n := 4) f_Tokens_42 d_Tokens_takeWord_1 rfl rfl hq ?_
  refine am_iload_n (n := 5) d_Tokens_takeWord_4 rfl rfl ?_
  refine am_icmp_eq (tgt := 14) (n := 8) d_Tokens_takeWord_5 rfl rfl (fun c1 => ?_) (fun c1 => ?_)
  · have h := h.1 c1
    refine am_aload_n (n := 15) d_Tokens_takeWord_14 rfl rfl ?_
    refine am_callV (kc := 0) (ks := 0) (As := []) (n := 18) d_Tokens_takeWord_15 rfl ce_Tokens_advance lk_Tokens_76 in_Tokens_advance rfl rfl hq rfl rfl (Nat.le_of_ble_eq_true rfl) (Or.inl rfl) (cm_Tokens_advance (d := d - 1) hw (by omega) hq h) (by omega) ?_
    rintro _ _ ⟨I1, rfl, rfl, h⟩
    show am_Wp (d, "UnseenRing$Tokens", b_Tokens_takeWord, 2, false) 0 0 18 [some (.ref q), some (.int p1)] [] (I1, L, R, am_SH) (po_Tokens_takeWord L R Q)
    refine am_iconst (n := 19) d_Tokens_takeWord_18 ci_1 rfl ?_
    exact am_iret d_Tokens_takeWord_19 ⟨true, I1, rfl, rfl, h⟩
  · have h := h.2 c1
    refine am_aload_n (n := 9) d_Tokens_takeWord_8 rfl rfl ?_
    refine am_iconst (n := 10) d_Tokens_takeWord_9 ci_2 rfl ?_
    refine am_callV (kc := 0) (ks := 0) (As := [.int 2]) (n := 13) d_Tokens_takeWord_10 rfl ce_Tokens_refuse lk_Tokens_79 in_Tokens_refuse rfl rfl hq rfl rfl (Nat.le_of_ble_eq_true rfl) (Or.inl rfl) (cm_Tokens_refuse (d := d - 1) hw (by omega) hq h) (by omega) ?_
    rintro _ _ ⟨r1, I2, rfl, rfl, h⟩
    show am_Wp (d, "UnseenRing$Tokens", b_Tokens_takeWord, 2, false) 0 0 13 [some (.ref q), some (.int p1)] [.int (am_b r1)] (I2, L, R, am_SH) (po_Tokens_takeWord L R Q)
    exact am_iret d_Tokens_takeWord_13 ⟨r1, I2, rfl, rfl, h⟩
abbrev po_SquareReader_readDog (L : am_TL) (R : am_TR) (Q : Bool → am_TI → Prop) : Option Value → am_St → Prop := fun r σ' => ∃ (x : Bool) (I' : am_TI), r = some (.int (am_b x)) ∧ σ' = (I', L, R, am_SH) ∧ Q x I'
def wp_SquareReader_readDog (I : am_TI) (L : am_TL) (R : am_TR) (q : Nat) (p1 : Nat) (p2 : Nat)  (Q : Bool → am_TI → Prop) : Prop := (((I p2 12) < 4 → wp_Tokens_advance I L R p1 (fun (I1 : am_TI) => wp_Tokens_takeWord I1 L R p1 6 (fun (r1 : Bool) (I2 : am_TI) => ((r1 = false → Q false I2) ∧ (r1 = true → wp_Square_cells I2 L R p2 (fun (r2 : Int32) => wp_Tokens_takeNumber I2 L R p1 0 (r2 - 1) (fun (r3 : Int32) (I3 : am_TI) => ((r3 = (-1) → Q false I3) ∧ (¬ r3 = (-1) → (vp_in (I3 p2 12) 4 ∧ (∀ I4, I4 = am_u2 I3 (p2 + 5) (Int32.toNatClampNeg (I3 p2 12)) r3 → (∀ I5, I5 = am_u2 I4 p2 12 ((I4 p2 12) + 1) → wp_Tokens_takeSemicolon I5 L R p1 (fun (r4 : Bool) (I6 : am_TI) => Q r4 I6))))))))))))) ∧ (¬ (I p2 12) < 4 → wp_Tokens_refuse I L R p1 6 (fun (r5 : Bool) (I7 : am_TI) => Q r5 I7)))
set_option maxRecDepth 20000 in
theorem cm_SquareReader_readDog {d : Nat} {I : am_TI} {L : am_TL} {R : am_TR}  (hw : am_Wf R)   {q : Nat} {p1 : Nat} {p2 : Nat} {Q : Bool → am_TI → Prop} (hd : 2 ≤ d) (hq : am_SH[q]? = some (.inl 8)) (hp1 : am_SH[p1]? = some (.inl 9)) (hp2 : am_SH[p2]? = some (.inl 7)) (h : wp_SquareReader_readDog I L R q p1 p2  Q) : am_Cm d 0 0 y_SquareReader_readDog b_SquareReader_readDog 4 (some .boolean) [.ref q, .ref p1, .ref p2] (I, L, R, am_SH) (po_SquareReader_readDog L R Q) := by
  refine am_Cm_of (ini := false) (by decide +kernel) (fun z => by cases z) (by simp [Value.category]) (fun r σ' z => by obtain ⟨x, _, rfl, -⟩ := z; exact ⟨_, rfl, am_b_nar x⟩) ?_
  unfold wp_SquareReader_readDog at h
  show am_Wp (d, "UnseenRing$SquareReader", b_SquareReader_readDog, 4, false) 0 0 0 [some (.ref q), some (.ref p1), some (.ref p2), none] [] (I, L, R, am_SH) (po_SquareReader_readDog L R Q)
  refine am_aload_n (n := 1) d_SquareReader_readDog_0 rfl rfl ?_
  refine am_getI (n := 4) f_SquareReader_68 d_SquareReader_readDog_1 rfl rfl hp2 ?_
  refine am_iconst (n := 5) d_SquareReader_readDog_4 ci_4 rfl ?_
  refine am_icmp_lt (tgt := 15) (n := 8) d_SquareReader_readDog_5 rfl rfl (fun c1 => ?_) (fun c1 => ?_)
  · have h := h.1 c1
    refine am_aload_n (n := 16) d_SquareReader_readDog_15 rfl rfl ?_
    refine am_callV (kc := 0) (ks := 0) (As := []) (n := 19) d_SquareReader_readDog_16 rfl ce_Tokens_advance lk_SquareReader_71 in_Tokens_advance rfl rfl hp1 rfl rfl (Nat.le_of_ble_eq_true rfl) (Or.inl rfl) (cm_Tokens_advance (d := d - 1) hw (by omega) hp1 h) (by omega) ?_
    rintro _ _ ⟨I1, rfl, rfl, h⟩
    show am_Wp (d, "UnseenRing$SquareReader", b_SquareReader_readDog, 4, false) 0 0 19 [some (.ref q), some (.ref p1), some (.ref p2), none] [] (I1, L, R, am_SH) (po_SquareReader_readDog L R Q)
    refine am_aload_n (n := 20) d_SquareReader_readDog_19 rfl rfl ?_
    refine am_bipush (n := 22) d_SquareReader_readDog_20 cb_6 rfl ?_
    refine am_callV (kc := 0) (ks := 0) (As := [.int 6]) (n := 25) d_SquareReader_readDog_22 rfl ce_Tokens_takeWord lk_SquareReader_78 in_Tokens_takeWord rfl rfl hp1 rfl rfl (Nat.le_of_ble_eq_true rfl) (Or.inl rfl) (cm_Tokens_takeWord (d := d - 1) hw (by omega) hp1 h) (by omega) ?_
    rintro _ _ ⟨r1, I2, rfl, rfl, h⟩
    show am_Wp (d, "UnseenRing$SquareReader", b_SquareReader_readDog, 4, false) 0 0 25 [some (.ref q), some (.ref p1), some (.ref p2), none] [.int (am_b r1)] (I2, L, R, am_SH) (po_SquareReader_readDog L R Q)
    refine am_if_ne (y := 0) (tgt := 30) (n := 28) d_SquareReader_readDog_25 rfl rfl (fun c2 => ?_) (fun c2 => ?_)
    · have h := h.2 (am_b_n0 c2)
      refine am_aload_n (n := 31) d_SquareReader_readDog_30 rfl rfl ?_
      refine am_iconst (n := 32) d_SquareReader_readDog_31 ci_0 rfl ?_
      refine am_aload_n (n := 33) d_SquareReader_readDog_32 rfl rfl ?_
      refine am_callV (kc := 0) (ks := 0) (As := []) (n := 36) d_SquareReader_readDog_33 rfl ce_Square_cells lk_SquareReader_94 in_Square_cells rfl rfl hp2 rfl rfl (Nat.le_of_ble_eq_true rfl) (Or.inl rfl) (cm_Square_cells (d := d - 1) hw (by omega) hp2 h) (by omega) ?_
      rintro _ _ ⟨r2, rfl, rfl, h⟩
      show am_Wp (d, "UnseenRing$SquareReader", b_SquareReader_readDog, 4, false) 0 0 36 [some (.ref q), some (.ref p1), some (.ref p2), none] [.int r2, .int 0, .ref p1] (I2, L, R, am_SH) (po_SquareReader_readDog L R Q)
      refine am_iconst (n := 37) d_SquareReader_readDog_36 ci_1 rfl ?_
      refine am_isub (n := 38) d_SquareReader_readDog_37 rfl ?_
      refine am_callV (kc := 0) (ks := 0) (As := [.int 0, .int (r2 - 1)]) (n := 41) d_SquareReader_readDog_38 rfl ce_Tokens_takeNumber lk_SquareReader_74 in_Tokens_takeNumber rfl rfl hp1 rfl rfl (Nat.le_of_ble_eq_true rfl) (Or.inl rfl) (cm_Tokens_takeNumber (d := d - 1) hw (by omega) hp1 h) (by omega) ?_
      rintro _ _ ⟨r3, I3, rfl, rfl, h⟩
      show am_Wp (d, "UnseenRing$SquareReader", b_SquareReader_readDog, 4, false) 0 0 41 [some (.ref q), some (.ref p1), some (.ref p2), none] [.int r3] (I3, L, R, am_SH) (po_SquareReader_readDog L R Q)
      refine am_istore_n (ls' := [some (.ref q), some (.ref p1), some (.ref p2), some (.int r3)]) (n := 42) d_SquareReader_readDog_41 (by decide) rfl rfl ?_
      refine am_iload_n (n := 43) d_SquareReader_readDog_42 rfl rfl ?_
      refine am_iconst (n := 44) d_SquareReader_readDog_43 ci_m1 rfl ?_
      refine am_icmp_ne (tgt := 49) (n := 47) d_SquareReader_readDog_44 rfl rfl (fun c3 => ?_) (fun c3 => ?_)
      · have h := h.2 c3
        refine am_aload_n (n := 50) d_SquareReader_readDog_49 rfl rfl ?_
        refine am_getR (x := (p2 + 5)) (n := 53) f_SquareReader_124 d_SquareReader_readDog_50 rfl rfl hp2 (hw.1 p2 7 4 5 hp2 rfl) ?_
        refine am_aload_n (n := 54) d_SquareReader_readDog_53 rfl rfl ?_
        refine am_getI (n := 57) f_SquareReader_68 d_SquareReader_readDog_54 rfl rfl hp2 ?_
        refine am_iload_n (n := 58) d_SquareReader_readDog_57 rfl rfl ?_
        obtain ⟨g1, h⟩ := h
        refine am_iast2 (n := 59) d_SquareReader_readDog_58 rfl (am_sho (k := 4) (o := 5) hp2 (by decide) (by decide) (by decide) rfl) g1 rfl ?_
        generalize eI4 : am_u2 I3 (p2 + 5) (Int32.toNatClampNeg (I3 p2 12)) r3 = I4
        have h := h I4 eI4.symm
        refine am_aload_n (n := 60) d_SquareReader_readDog_59 rfl rfl ?_
        refine am_dup (n := 61) d_SquareReader_readDog_60 rfl rfl ?_
        refine am_getI (n := 64) f_SquareReader_68 d_SquareReader_readDog_61 rfl rfl hp2 ?_
        refine am_iconst (n := 65) d_SquareReader_readDog_64 ci_1 rfl ?_
        refine am_iadd (n := 66) d_SquareReader_readDog_65 rfl ?_
        refine am_putI (n := 69) f_SquareReader_68 d_SquareReader_readDog_66 rfl ⟨_, rfl, Or.inl rfl⟩ rfl rfl hp2 ?_
        generalize eI5 : am_u2 I4 p2 12 ((I4 p2 12) + 1) = I5
        have h := h I5 eI5.symm
        refine am_aload_n (n := 70) d_SquareReader_readDog_69 rfl rfl ?_
        refine am_callV (kc := 0) (ks := 0) (As := []) (n := 73) d_SquareReader_readDog_70 rfl ce_Tokens_takeSemicolon lk_SquareReader_87 in_Tokens_takeSemicolon rfl rfl hp1 rfl rfl (Nat.le_of_ble_eq_true rfl) (Or.inl rfl) (cm_Tokens_takeSemicolon (d := d - 1) hw (by omega) hp1 h) (by omega) ?_
        rintro _ _ ⟨r4, I6, rfl, rfl, h⟩
        show am_Wp (d, "UnseenRing$SquareReader", b_SquareReader_readDog, 4, false) 0 0 73 [some (.ref q), some (.ref p1), some (.ref p2), some (.int r3)] [.int (am_b r4)] (I6, L, R, am_SH) (po_SquareReader_readDog L R Q)
        exact am_iret d_SquareReader_readDog_73 ⟨r4, I6, rfl, rfl, h⟩
      · have h := h.1 c3
        refine am_iconst (n := 48) d_SquareReader_readDog_47 ci_0 rfl ?_
        exact am_iret d_SquareReader_readDog_48 ⟨false, I3, rfl, rfl, h⟩
    · have h := h.1 (am_b_0 c2)
      refine am_iconst (n := 29) d_SquareReader_readDog_28 ci_0 rfl ?_
      exact am_iret d_SquareReader_readDog_29 ⟨false, I2, rfl, rfl, h⟩
  · have h := h.2 c1
    refine am_aload_n (n := 9) d_SquareReader_readDog_8 rfl rfl ?_
    refine am_bipush (n := 11) d_SquareReader_readDog_9 cb_6 rfl ?_
    refine am_callV (kc := 0) (ks := 0) (As := [.int 6]) (n := 14) d_SquareReader_readDog_11 rfl ce_Tokens_refuse lk_SquareReader_61 in_Tokens_refuse rfl rfl hp1 rfl rfl (Nat.le_of_ble_eq_true rfl) (Or.inl rfl) (cm_Tokens_refuse (d := d - 1) hw (by omega) hp1 h) (by omega) ?_
    rintro _ _ ⟨r5, I7, rfl, rfl, h⟩
    show am_Wp (d, "UnseenRing$SquareReader", b_SquareReader_readDog, 4, false) 0 0 14 [some (.ref q), some (.ref p1), some (.ref p2), none] [.int (am_b r5)] (I7, L, R, am_SH) (po_SquareReader_readDog L R Q)
    exact am_iret d_SquareReader_readDog_14 ⟨r5, I7, rfl, rfl, h⟩
abbrev po_Square_tuneNamed (I : am_TI) (L : am_TL) (R : am_TR) (Q : Int32 → Prop) : Option Value → am_St → Prop := fun r σ' => ∃ (x : Int32), r = some (.int x) ∧ σ' = (I, L, R, am_SH) ∧ Q x
def wl_Square_tuneNamed_2 (I : am_TI) (L : am_TL) (R : am_TR) (q : Nat) (p1 : Int64) (Q : Int32 → Prop)  : Nat → Int32 → Prop
  | 0 => fun _ => False
  | f2 + 1 => fun v3 => (((I q 10) ≤ v3 → Q (-1)) ∧ (¬ (I q 10) ≤ v3 → (vp_in v3 6 ∧ (((L (q + 1) (Int32.toNatClampNeg v3)) = p1 → Q v3) ∧ (¬ (L (q + 1) (Int32.toNatClampNeg v3)) = p1 → wl_Square_tuneNamed_2 I L R q p1 Q f2 (v3 + 1))))))
set_option maxRecDepth 20000 in
theorem tl_Square_tuneNamed_2 {d : Nat}  {I : am_TI} {L : am_TL} {R : am_TR} {q : Nat} {p1 : Int64} {Q : Int32 → Prop}  (hw : am_Wf R) (hq : am_SH[q]? = some (.inl 7)) (hd : 0 ≤ d) : ∀ (n : Nat) (v3 : Int32), wl_Square_tuneNamed_2 I L R q p1 Q  n v3 → am_Wp (d, "UnseenRing$Square", b_Square_tuneNamed, 4, false) 0 0 2 [some (.ref q), some (.long p1), none, some (.int v3)] [] (I, L, R, am_SH) (po_Square_tuneNamed I L R Q) := by
  intro n
  induction n with
  | zero => intro v3 h; exact h.elim
  | succ n ih =>
    intro v3 h
    unfold wl_Square_tuneNamed_2 at h
    refine am_iload_n (n := 3) d_Square_tuneNamed_2 rfl rfl ?_
    refine am_aload_n (n := 4) d_Square_tuneNamed_3 rfl rfl ?_
    refine am_getI (n := 7) f_Square_48 d_Square_tuneNamed_4 rfl rfl hq ?_
    refine am_icmp_ge (tgt := 29) (n := 10) d_Square_tuneNamed_7 rfl rfl (fun c1 => ?_) (fun c1 => ?_)
    · have h := h.1 c1
      refine am_iconst (n := 30) d_Square_tuneNamed_29 ci_m1 rfl ?_
      exact am_iret d_Square_tuneNamed_30 ⟨(-1), rfl, rfl, h⟩
    · have h := h.2 c1
      refine am_aload_n (n := 11) d_Square_tuneNamed_10 rfl rfl ?_
      refine am_getR (x := (q + 1)) (n := 14) f_Square_9 d_Square_tuneNamed_11 rfl rfl hq (hw.1 q 7 0 1 hq rfl) ?_
      refine am_iload_n (n := 15) d_Square_tuneNamed_14 rfl rfl ?_
      obtain ⟨g1, h⟩ := h
      refine am_lald2 (n := 16) d_Square_tuneNamed_15 rfl (am_sho (k := 0) (o := 1) hq (by decide) (by decide) (by decide) rfl) g1 rfl ?_
      refine am_lload_n (n := 17) d_Square_tuneNamed_16 rfl rfl ?_
      refine am_lcmp (n := 18) d_Square_tuneNamed_17 rfl ?_
      refine am_if_ne (y := 0) (tgt := 23) (n := 21) d_Square_tuneNamed_18 rfl rfl (fun c2 => ?_) (fun c2 => ?_)
      · have h := h.2 (fun z => c2 (am_cmp_eq.mpr z))
        refine am_iinc (v := v3 + 1) (ls' := [some (.ref q), some (.long p1), none, some (.int (v3 + 1))]) (n := 26) d_Square_tuneNamed_23 rfl (congrArg _ ci_1) (by decide) rfl rfl ?_
        refine am_goto (tgt := 2) d_Square_tuneNamed_26 rfl ?_
        exact ih (v3 + 1)  h
      · have h := h.1 (am_cmp_eq.mp c2)
        refine am_iload_n (n := 22) d_Square_tuneNamed_21 rfl rfl ?_
        exact am_iret d_Square_tuneNamed_22 ⟨v3, rfl, rfl, h⟩
def wp_Square_tuneNamed (I : am_TI) (L : am_TL) (R : am_TR) (q : Nat) (p1 : Int64)  (Q : Int32 → Prop) : Prop := (∃ z, wl_Square_tuneNamed_2 I L R q p1 Q z 0)
set_option maxRecDepth 20000 in
theorem cm_Square_tuneNamed {d : Nat} {I : am_TI} {L : am_TL} {R : am_TR}  (hw : am_Wf R)   {q : Nat} {p1 : Int64} {Q : Int32 → Prop} (hd : 0 ≤ d) (hq : am_SH[q]? = some (.inl 7)) (h : wp_Square_tuneNamed I L R q p1  Q) : am_Cm d 0 0 y_Square_tuneNamed b_Square_tuneNamed 4 (some .int) [.ref q, .long p1] (I, L, R, am_SH) (po_Square_tuneNamed I L R Q) := by
  refine am_Cm_of (ini := false) (by decide +kernel) (fun z => by cases z) (by simp [Value.category]) (fun r σ' z => by obtain ⟨x, rfl, -⟩ := z; exact ⟨_, rfl, rfl⟩) ?_
  unfold wp_Square_tuneNamed at h
  show am_Wp (d, "UnseenRing$Square", b_Square_tuneNamed, 4, false) 0 0 0 [some (.ref q), some (.long p1), none, none] [] (I, L, R, am_SH) (po_Square_tuneNamed I L R Q)
  refine am_iconst (n := 1) d_Square_tuneNamed_0 ci_0 rfl ?_
  refine am_istore_n (ls' := [some (.ref q), some (.long p1), none, some (.int 0)]) (n := 2) d_Square_tuneNamed_1 (by decide) rfl rfl ?_
  obtain ⟨n, h⟩ := h
  exact tl_Square_tuneNamed_2 hw hq hd n 0 h
abbrev po_Tokens_nameHere (L : am_TL) (R : am_TR) (Q : Int64 → am_TI → Prop) : Option Value → am_St → Prop := fun r σ' => ∃ (x : Int64) (I' : am_TI), r = some (.long x) ∧ σ' = (I', L, R, am_SH) ∧ Q x I'
def wp_Tokens_nameHere (I : am_TI) (L : am_TL) (R : am_TR) (q : Nat)  (Q : Int64 → am_TI → Prop) : Prop := (((I q 8) = 1 → (vp_in (I q 6) 901 ∧ Q (L (q + 5) (Int32.toNatClampNeg (I q 6))) I)) ∧ (¬ (I q 8) = 1 → wp_Tokens_refuse I L R q 2 (fun (r1 : Bool) (I1 : am_TI) => Q 0 I1)))
set_option maxRecDepth 20000 in
theorem cm_Tokens_nameHere {d : Nat} {I : am_TI} {L : am_TL} {R : am_TR}  (hw : am_Wf R)   {q : Nat} {Q : Int64 → am_TI → Prop} (hd : 1 ≤ d) (hq : am_SH[q]? = some (.inl 9)) (h : wp_Tokens_nameHere I L R q  Q) : am_Cm d 0 0 y_Tokens_nameHere b_Tokens_nameHere 1 (some .long) [.ref q] (I, L, R, am_SH) (po_Tokens_nameHere L R Q) := by
  refine am_Cm_of (ini := false) (by decide +kernel) (fun z => by cases z) (by simp [Value.category]) (fun r σ' z => by obtain ⟨_, _, rfl, -⟩ := z; rfl) ?_
  unfold wp_Tokens_nameHere at h
  show am_Wp (d, "UnseenRing$Tokens", b_Tokens_nameHere, 1, false) 0 0 0 [some (.ref q)] [] (I, L, R, am_SH) (po_Tokens_nameHere L R Q)
  refine am_aload_n (n := 1) d_Tokens_nameHere_0 rfl rfl ?_
  refine am_getI (n := 4) f_Tokens_39 d_Tokens_nameHere_1 rfl rfl hq ?_
  refine am_iconst (n := 5) d_Tokens_nameHere_4 ci_1 rfl ?_
  refine am_icmp_eq (tgt := 16) (n := 8) d_Tokens_nameHere_5 rfl rfl (fun c1 => ?_) (fun c1 => ?_)
  · have h := h.1 c1
    refine am_aload_n (n := 17) d_Tokens_nameHere_16 rfl rfl ?_
    refine am_getR (x := (q + 5)) (n := 20) f_Tokens_26 d_Tokens_nameHere_17 rfl rfl hq (hw.1 q 9 4 5 hq rfl) ?_
    refine am_aload_n (n := 21) d_Tokens_nameHere_20 rfl rfl ?_
    refine am_getI (n := 24) f_Tokens_33 d_Tokens_nameHere_21 rfl rfl hq ?_
    obtain ⟨g1, h⟩ := h
    refine am_lald2 (n := 25) d_Tokens_nameHere_24 rfl (am_sho (k := 4) (o := 5) hq (by decide) (by decide) (by decide) rfl) g1 rfl ?_
    exact am_lret d_Tokens_nameHere_25 ⟨(L (q + 5) (Int32.toNatClampNeg (I q 6))), I, rfl, rfl, h⟩
  · have h := h.2 c1
    refine am_aload_n (n := 9) d_Tokens_nameHere_8 rfl rfl ?_
    refine am_iconst (n := 10) d_Tokens_nameHere_9 ci_2 rfl ?_
    refine am_callV (kc := 0) (ks := 0) (As := [.int 2]) (n := 13) d_Tokens_nameHere_10 rfl ce_Tokens_refuse lk_Tokens_79 in_Tokens_refuse rfl rfl hq rfl rfl (Nat.le_of_ble_eq_true rfl) (Or.inl rfl) (cm_Tokens_refuse (d := d - 1) hw (by omega) hq h) (by omega) ?_
    rintro _ _ ⟨r1, I1, rfl, rfl, h⟩
    show am_Wp (d, "UnseenRing$Tokens", b_Tokens_nameHere, 1, false) 0 0 13 [some (.ref q)] [.int (am_b r1)] (I1, L, R, am_SH) (po_Tokens_nameHere L R Q)
    refine am_pop (n := 14) d_Tokens_nameHere_13 rfl rfl ?_
    refine am_lconst (v := 0) (n := 15) d_Tokens_nameHere_14 rfl rfl ?_
    exact am_lret d_Tokens_nameHere_15 ⟨0, I1, rfl, rfl, h⟩
abbrev po_SquareReader_readLikes (L : am_TL) (R : am_TR) (Q : Int32 → am_TI → Prop) : Option Value → am_St → Prop := fun r σ' => ∃ (x : Int32) (I' : am_TI), r = some (.int x) ∧ σ' = (I', L, R, am_SH) ∧ Q x I'
def wb_SquareReader_readLikes_62 (L : am_TL) (R : am_TR) (q : Nat) (p1 : Nat) (p2 : Nat) (Q : Int32 → am_TI → Prop)  (I : am_TI) (s0 : Nat) (s1 : Int32) : Prop := wp_Tokens_refuse I L R s0 s1 (fun (r3 : Bool) (I3 : am_TI) => Q (-1) I3)
set_option maxRecDepth 20000 in
theorem tb_SquareReader_readLikes_62 {d : Nat}  {L : am_TL} {R : am_TR} {q : Nat} {p1 : Nat} {p2 : Nat} {Q : Int32 → am_TI → Prop}  (hw : am_Wf R) (hq : am_SH[q]? = some (.inl 8)) (hp1 : am_SH[p1]? = some (.inl 9)) (hp2 : am_SH[p2]? = some (.inl 7)) (hd : 2 ≤ d) (I : am_TI) (s0 : Nat) (s1 : Int32) (hs0 : am_SH[s0]? = some (.inl 9)) (h : wb_SquareReader_readLikes_62 L R q p1 p2 Q  I s0 s1) : am_Wp (d, "UnseenRing$SquareReader", b_SquareReader_readLikes, 6, false) 0 0 62 [some (.ref q), some (.ref p1), some (.ref p2), none, none, none] [.int s1, .ref s0] (I, L, R, am_SH) (po_SquareReader_readLikes L R Q) := by
  unfold wb_SquareReader_readLikes_62 at h
  refine am_callV (kc := 0) (ks := 0) (As := [.int s1]) (n := 65) d_SquareReader_readLikes_62 rfl ce_Tokens_refuse lk_SquareReader_61 in_Tokens_refuse rfl rfl hs0 rfl rfl (Nat.le_of_ble_eq_true rfl) (Or.inl rfl) (cm_Tokens_refuse (d := d - 1) hw (by omega) hs0 h) (by omega) ?_
  rintro _ _ ⟨r3, I3, rfl, rfl, h⟩
  show am_Wp (d, "UnseenRing$SquareReader", b_SquareReader_readLikes, 6, false) 0 0 65 [some (.ref q), some (.ref p1), some (.ref p2), none, none, none] [.int (am_b r3)] (I3, L, R, am_SH) (po_SquareReader_readLikes L R Q)
  refine am_pop (n := 66) d_SquareReader_readLikes_65 rfl rfl ?_
  refine am_iconst (n := 67) d_SquareReader_readLikes_66 ci_m1 rfl ?_
  exact am_iret d_SquareReader_readLikes_67 ⟨(-1), I3, rfl, rfl, h⟩
def wb_SquareReader_readLikes_50 (L : am_TL) (R : am_TR) (q : Nat) (p1 : Nat) (p2 : Nat) (Q : Int32 → am_TI → Prop)  (I : am_TI) (v5 : Int32) : Prop := ((v5 = (-1) → wb_SquareReader_readLikes_62 L R q p1 p2 Q I p1 3) ∧ (¬ v5 = (-1) → wb_SquareReader_readLikes_62 L R q p1 p2 Q I p1 5))
set_option maxRecDepth 20000 in
theorem tb_SquareReader_readLikes_50 {d : Nat}  {L : am_TL} {R : am_TR} {q : Nat} {p1 : Nat} {p2 : Nat} {Q : Int32 → am_TI → Prop}  (hw : am_Wf R) (hq : am_SH[q]? = some (.inl 8)) (hp1 : am_SH[p1]? = some (.inl 9)) (hp2 : am_SH[p2]? = some (.inl 7)) (hd : 2 ≤ d) (I : am_TI) (v5 : Int32) (h : wb_SquareReader_readLikes_50 L R q p1 p2 Q  I v5) : am_Wp (d, "UnseenRing$SquareReader", b_SquareReader_readLikes, 6, false) 0 0 50 [some (.ref q), some (.ref p1), some (.ref p2), none, none, some (.int v5)] [] (I, L, R, am_SH) (po_SquareReader_readLikes L R Q) := by
  unfold wb_SquareReader_readLikes_50 at h
  refine am_aload_n (n := 51) d_SquareReader_readLikes_50 rfl rfl ?_
  refine am_iload (n := 53) d_SquareReader_readLikes_51 rfl rfl ?_
  refine am_iconst (n := 54) d_SquareReader_readLikes_53 ci_m1 rfl ?_
  refine am_icmp_ne (tgt := 61) (n := 57) d_SquareReader_readLikes_54 rfl rfl (fun c4 => ?_) (fun c4 => ?_)
  · have h := h.2 c4
    refine am_iconst (n := 62) d_SquareReader_readLikes_61 ci_5 rfl ?_
    refine am_forget (ls' := [some (.ref q), some (.ref p1), some (.ref p2), none, none, none]) (am_le_s (am_le_s (am_le_s (am_le_n (am_le_n (am_le_n am_le_e)))))) ?_
    exact tb_SquareReader_readLikes_62 hw hq hp1 hp2 hd I p1 5 hp1 h
  · have h := h.1 c4
    refine am_iconst (n := 58) d_SquareReader_readLikes_57 ci_3 rfl ?_
    refine am_goto (tgt := 62) d_SquareReader_readLikes_58 rfl ?_
    refine am_forget (ls' := [some (.ref q), some (.ref p1), some (.ref p2), none, none, none]) (am_le_s (am_le_s (am_le_s (am_le_n (am_le_n (am_le_n am_le_e)))))) ?_
    exact tb_SquareReader_readLikes_62 hw hq hp1 hp2 hd I p1 3 hp1 h
def wl_SquareReader_readLikes_9 (L : am_TL) (R : am_TR) (q : Nat) (p1 : Nat) (p2 : Nat) (Q : Int32 → am_TI → Prop)  : Nat → am_TI → Int32 → Int32 → Prop
  | 0 => fun _ _ _ => False
  | f9 + 1 => fun I v3 v4 => ((6 < v4 → Q v3 I) ∧ (¬ 6 < v4 → (((I p1 8) = 1 → wp_Tokens_nameHere I L R p1 (fun (r1 : Int64) (I2 : am_TI) => wp_Square_tuneNamed I2 L R p2 r1 (fun (r2 : Int32) => ((r2 = (-1) → wb_SquareReader_readLikes_50 L R q p1 p2 Q I2 r2) ∧ (¬ r2 = (-1) → ((((v3 >>> (r2 &&& 31)) &&& 1) = 1 → wb_SquareReader_readLikes_50 L R q p1 p2 Q I2 r2) ∧ (¬ ((v3 >>> (r2 &&& 31)) &&& 1) = 1 → wp_Tokens_advance I2 L R p1 (fun (I4 : am_TI) => wl_SquareReader_readLikes_9 L R q p1 p2 Q f9 I4 (v3 ||| ((1 : Int32) <<< (r2 &&& 31))) (v4 + 1))))))))) ∧ (¬ (I p1 8) = 1 → Q v3 I))))
set_option maxRecDepth 20000 in
theorem tl_SquareReader_readLikes_9 {d : Nat}  {L : am_TL} {R : am_TR} {q : Nat} {p1 : Nat} {p2 : Nat} {Q : Int32 → am_TI → Prop}  (hw : am_Wf R) (hq : am_SH[q]? = some (.inl 8)) (hp1 : am_SH[p1]? = some (.inl 9)) (hp2 : am_SH[p2]? = some (.inl 7)) (hd : 2 ≤ d) : ∀ (n : Nat) (I : am_TI) (v3 : Int32) (v4 : Int32), wl_SquareReader_readLikes_9 L R q p1 p2 Q  n I v3 v4 → am_Wp (d, "UnseenRing$SquareReader", b_SquareReader_readLikes, 6, false) 0 0 9 [some (.ref q), some (.ref p1), some (.ref p2), some (.int v3), some (.int v4), none] [] (I, L, R, am_SH) (po_SquareReader_readLikes L R Q) := by
  intro n
  induction n with
  | zero => intro I v3 v4 h; exact h.elim
  | succ n ih =>
    intro I v3 v4 h
    unfold wl_SquareReader_readLikes_9 at h
    refine am_iload (n := 11) d_SquareReader_readLikes_9 rfl rfl ?_
    refine am_bipush (n := 13) d_SquareReader_readLikes_11 cb_6 rfl ?_
    refine am_icmp_gt (tgt := 85) (n := 16) d_SquareReader_readLikes_13 rfl rfl (fun c1 => ?_) (fun c1 => ?_)
    · have h := h.1 c1
      refine am_iload_n (n := 86) d_SquareReader_readLikes_85 rfl rfl ?_
      exact am_iret d_SquareReader_readLikes_86 ⟨v3, I, rfl, rfl, h⟩
    · have h := h.2 c1
      refine am_aload_n (n := 17) d_SquareReader_readLikes_16 rfl rfl ?_
      refine am_getI (n := 20) f_SquareReader_32 d_SquareReader_readLikes_17 rfl rfl hp1 ?_
      refine am_iconst (n := 21) d_SquareReader_readLikes_20 ci_1 rfl ?_
      refine am_icmp_ne (tgt := 85) (n := 24) d_SquareReader_readLikes_21 rfl rfl (fun c2 => ?_) (fun c2 => ?_)
      · have h := h.2 c2
        refine am_iload_n (n := 86) d_SquareReader_readLikes_85 rfl rfl ?_
        exact am_iret d_SquareReader_readLikes_86 ⟨v3, I, rfl, rfl, h⟩
      · have h := h.1 c2
        refine am_aload_n (n := 25) d_SquareReader_readLikes_24 rfl rfl ?_
        refine am_aload_n (n := 26) d_SquareReader_readLikes_25 rfl rfl ?_
        refine am_callV (kc := 0) (ks := 0) (As := []) (n := 29) d_SquareReader_readLikes_26 rfl ce_Tokens_nameHere lk_SquareReader_104 in_Tokens_nameHere rfl rfl hp1 rfl rfl (Nat.le_of_ble_eq_true rfl) (Or.inl rfl) (cm_Tokens_nameHere (d := d - 1) hw (by omega) hp1 h) (by omega) ?_
        rintro _ _ ⟨r1, I2, rfl, rfl, h⟩
        show am_Wp (d, "UnseenRing$SquareReader", b_SquareReader_readLikes, 6, false) 0 0 29 [some (.ref q), some (.ref p1), some (.ref p2), some (.int v3), some (.int v4), none] [.long r1, .ref p2] (I2, L, R, am_SH) (po_SquareReader_readLikes L R Q)
        refine am_callV (kc := 0) (ks := 0) (As := [.long r1]) (n := 32) d_SquareReader_readLikes_29 rfl ce_Square_tuneNamed lk_SquareReader_108 in_Square_tuneNamed rfl rfl hp2 rfl rfl (Nat.le_of_ble_eq_true rfl) (Or.inl rfl) (cm_Square_tuneNamed (d := d - 1) hw (by omega) hp2 h) (by omega) ?_
        rintro _ _ ⟨r2, rfl, rfl, h⟩
        show am_Wp (d, "UnseenRing$SquareReader", b_SquareReader_readLikes, 6, false) 0 0 32 [some (.ref q), some (.ref p1), some (.ref p2), some (.int v3), some (.int v4), none] [.int r2] (I2, L, R, am_SH) (po_SquareReader_readLikes L R Q)
        refine am_istore (ls' := [some (.ref q), some (.ref p1), some (.ref p2), some (.int v3), some (.int v4), some (.int r2)]) (n := 34) d_SquareReader_readLikes_32 (by decide) rfl rfl ?_
        refine am_iload (n := 36) d_SquareReader_readLikes_34 rfl rfl ?_
        refine am_iconst (n := 37) d_SquareReader_readLikes_36 ci_m1 rfl ?_
        refine am_icmp_eq (tgt := 50) (n := 40) d_SquareReader_readLikes_37 rfl rfl (fun c3 => ?_) (fun c3 => ?_)
        · have h := h.1 c3
          refine am_forget (ls' := [some (.ref q), some (.ref p1), some (.ref p2), none, none, some (.int r2)]) (am_le_s (am_le_s (am_le_s (am_le_n (am_le_n (am_le_s am_le_e)))))) ?_
          exact tb_SquareReader_readLikes_50 hw hq hp1 hp2 hd I2 r2 h
        · have h := h.2 c3
          refine am_iload_n (n := 41) d_SquareReader_readLikes_40 rfl rfl ?_
          refine am_iload (n := 43) d_SquareReader_readLikes_41 rfl rfl ?_
          refine am_ishr (n := 44) d_SquareReader_readLikes_43 rfl ?_
          refine am_iconst (n := 45) d_SquareReader_readLikes_44 ci_1 rfl ?_
          refine am_iand (n := 46) d_SquareReader_readLikes_45 rfl ?_
          refine am_iconst (n := 47) d_SquareReader_readLikes_46 ci_1 rfl ?_
          refine am_icmp_ne (tgt := 68) (n := 50) d_SquareReader_readLikes_47 rfl rfl (fun c5 => ?_) (fun c5 => ?_)
          · have h := h.2 c5
            refine am_iload_n (n := 69) d_SquareReader_readLikes_68 rfl rfl ?_
            refine am_iconst (n := 70) d_SquareReader_readLikes_69 ci_1 rfl ?_
            refine am_iload (n := 72) d_SquareReader_readLikes_70 rfl rfl ?_
            refine am_ishl (n := 73) d_SquareReader_readLikes_72 rfl ?_
            refine am_ior (n := 74) d_SquareReader_readLikes_73 rfl ?_
            refine am_istore_n (ls' := [some (.ref q), some (.ref p1), some (.ref p2), some (.int (v3 ||| ((1 : Int32) <<< (r2 &&& 31)))), some (.int v4), some (.int r2)]) (n := 75) d_SquareReader_readLikes_74 (by decide) rfl rfl ?_
            refine am_aload_n (n := 76) d_SquareReader_readLikes_75 rfl rfl ?_
            refine am_callV (kc := 0) (ks := 0) (As := []) (n := 79) d_SquareReader_readLikes_76 rfl ce_Tokens_advance lk_SquareReader_71 in_Tokens_advance rfl rfl hp1 rfl rfl (Nat.le_of_ble_eq_true rfl) (Or.inl rfl) (cm_Tokens_advance (d := d - 1) hw (by omega) hp1 h) (by omega) ?_
            rintro _ _ ⟨I4, rfl, rfl, h⟩
            show am_Wp (d, "UnseenRing$SquareReader", b_SquareReader_readLikes, 6, false) 0 0 79 [some (.ref q), some (.ref p1), some (.ref p2), some (.int (v3 ||| ((1 : Int32) <<< (r2 &&& 31)))), some (.int v4), some (.int r2)] [] (I4, L, R, am_SH) (po_SquareReader_readLikes L R Q)
            refine am_iinc (v := v4 + 1) (ls' := [some (.ref q), some (.ref p1), some (.ref p2), some (.int (v3 ||| ((1 : Int32) <<< (r2 &&& 31)))), some (.int (v4 + 1)), some (.int r2)]) (n := 82) d_SquareReader_readLikes_79 rfl (congrArg _ ci_1) (by decide) rfl rfl ?_
            refine am_goto (tgt := 9) d_SquareReader_readLikes_82 rfl ?_
            refine am_forget (ls' := [some (.ref q), some (.ref p1), some (.ref p2), some (.int (v3 ||| ((1 : Int32) <<< (r2 &&& 31)))), some (.int (v4 + 1)), none]) (am_le_s (am_le_s (am_le_s (am_le_s (am_le_s (am_le_n am_le_e)))))) ?_
            exact ih I4 (v3 ||| ((1 : Int32) <<< (r2 &&& 31))) (v4 + 1)  h
          · have h := h.1 c5
            refine am_forget (ls' := [some (.ref q), some (.ref p1), some (.ref p2), none, none, some (.int r2)]) (am_le_s (am_le_s (am_le_s (am_le_n (am_le_n (am_le_s am_le_e)))))) ?_
            exact tb_SquareReader_readLikes_50 hw hq hp1 hp2 hd I2 r2 h
def wp_SquareReader_readLikes (I : am_TI) (L : am_TL) (R : am_TR) (q : Nat) (p1 : Nat) (p2 : Nat)  (Q : Int32 → am_TI → Prop) : Prop := wp_Tokens_advance I L R p1 (fun (I1 : am_TI) => (∃ z, wl_SquareReader_readLikes_9 L R q p1 p2 Q z I1 0 0))
set_option maxRecDepth 20000 in
theorem cm_SquareReader_readLikes {d : Nat} {I : am_TI} {L : am_TL} {R : am_TR}  (hw : am_Wf R)   {q : Nat} {p1 : Nat} {p2 : Nat} {Q : Int32 → am_TI → Prop} (hd : 2 ≤ d) (hq : am_SH[q]? = some (.inl 8)) (hp1 : am_SH[p1]? = some (.inl 9)) (hp2 : am_SH[p2]? = some (.inl 7)) (h : wp_SquareReader_readLikes I L R q p1 p2  Q) : am_Cm d 0 0 y_SquareReader_readLikes b_SquareReader_readLikes 6 (some .int) [.ref q, .ref p1, .ref p2] (I, L, R, am_SH) (po_SquareReader_readLikes L R Q) := by
  refine am_Cm_of (ini := false) (by decide +kernel) (fun z => by cases z) (by simp [Value.category]) (fun r σ' z => by obtain ⟨x, _, rfl, -⟩ := z; exact ⟨_, rfl, rfl⟩) ?_
  unfold wp_SquareReader_readLikes at h
  show am_Wp (d, "UnseenRing$SquareReader", b_SquareReader_readLikes, 6, false) 0 0 0 [some (.ref q), some (.ref p1), some (.ref p2), none, none, none] [] (I, L, R, am_SH) (po_SquareReader_readLikes L R Q)
  refine am_aload_n (n := 1) d_SquareReader_readLikes_0 rfl rfl ?_
  refine am_callV (kc := 0) (ks := 0) (As := []) (n := 4) d_SquareReader_readLikes_1 rfl ce_Tokens_advance lk_SquareReader_71 in_Tokens_advance rfl rfl hp1 rfl rfl (Nat.le_of_ble_eq_true rfl) (Or.inl rfl) (cm_Tokens_advance (d := d - 1) hw (by omega) hp1 h) (by omega) ?_
  rintro _ _ ⟨I1, rfl, rfl, h⟩
  show am_Wp (d, "UnseenRing$SquareReader", b_SquareReader_readLikes, 6, false) 0 0 4 [some (.ref q), some (.ref p1), some (.ref p2), none, none, none] [] (I1, L, R, am_SH) (po_SquareReader_readLikes L R Q)
  refine am_iconst (n := 5) d_SquareReader_readLikes_4 ci_0 rfl ?_
  refine am_istore_n (ls' := [some (.ref q), some (.ref p1), some (.ref p2), some (.int 0), none, none]) (n := 6) d_SquareReader_readLikes_5 (by decide) rfl rfl ?_
  refine am_iconst (n := 7) d_SquareReader_readLikes_6 ci_0 rfl ?_
  refine am_istore (ls' := [some (.ref q), some (.ref p1), some (.ref p2), some (.int 0), some (.int 0), none]) (n := 9) d_SquareReader_readLikes_7 (by decide) rfl rfl ?_
  obtain ⟨n, h⟩ := h
  exact tl_SquareReader_readLikes_9 hw hq hp1 hp2 hd n I1 0 0 h
abbrev po_Square_addHearer (L : am_TL) (R : am_TR) (Q : am_TI → Prop) : Option Value → am_St → Prop := fun r σ' => ∃ (I' : am_TI), r = none ∧ σ' = (I', L, R, am_SH) ∧ Q I'
def wp_Square_addHearer (I : am_TI) (L : am_TL) (R : am_TR) (q : Nat) (p1 : Int32) (p2 : Int32) (p3 : Int32)  (Q : am_TI → Prop) : Prop := ((6 ≤ (I q 11) → Q I) ∧ (¬ 6 ≤ (I q 11) → (vp_in (I q 11) 6 ∧ (∀ I1, I1 = am_u2 I (q + 2) (Int32.toNatClampNeg (I q 11)) p1 → (vp_in (I1 q 11) 6 ∧ (∀ I2, I2 = am_u2 I1 (q + 3) (Int32.toNatClampNeg (I1 q 11)) p2 → (vp_in (I2 q 11) 6 ∧ (∀ I3, I3 = am_u2 I2 (q + 4) (Int32.toNatClampNeg (I2 q 11)) p3 → (∀ I4, I4 = am_u2 I3 q 11 ((I3 q 11) + 1) → Q I4)))))))))
set_option maxRecDepth 20000 in
theorem cm_Square_addHearer {d : Nat} {I : am_TI} {L : am_TL} {R : am_TR}  (hw : am_Wf R)   {q : Nat} {p1 : Int32} {p2 : Int32} {p3 : Int32} {Q : am_TI → Prop} (hd : 0 ≤ d) (hq : am_SH[q]? = some (.inl 7)) (h : wp_Square_addHearer I L R q p1 p2 p3  Q) : am_Cm d 0 0 y_Square_addHearer b_Square_addHearer 4 (none) [.ref q, .int p1, .int p2, .int p3] (I, L, R, am_SH) (po_Square_addHearer L R Q) := by
  refine am_Cm_of (ini := false) (by decide +kernel) (fun z => by cases z) (by simp [Value.category]) (fun r σ' z => by obtain ⟨_, rfl, -⟩ := z; rfl) ?_
  unfold wp_Square_addHearer at h
  show am_Wp (d, "UnseenRing$Square", b_Square_addHearer, 4, false) 0 0 0 [some (.ref q), some (.int p1), some (.int p2), some (.int p3)] [] (I, L, R, am_SH) (po_Square_addHearer L R Q)
  refine am_aload_n (n := 1) d_Square_addHearer_0 rfl rfl ?_
  refine am_getI (n := 4) f_Square_51 d_Square_addHearer_1 rfl rfl hq ?_
  refine am_bipush (n := 6) d_Square_addHearer_4 cb_6 rfl ?_
  refine am_icmp_ge (tgt := 49) (n := 9) d_Square_addHearer_6 rfl rfl (fun c1 => ?_) (fun c1 => ?_)
  · have h := h.1 c1
    exact am_vret d_Square_addHearer_49 ⟨I, rfl, rfl, h⟩
  · have h := h.2 c1
    refine am_aload_n (n := 10) d_Square_addHearer_9 rfl rfl ?_
    refine am_getR (x := (q + 2)) (n := 13) f_Square_15 d_Square_addHearer_10 rfl rfl hq (hw.1 q 7 1 2 hq rfl) ?_
    refine am_aload_n (n := 14) d_Square_addHearer_13 rfl rfl ?_
    refine am_getI (n := 17) f_Square_51 d_Square_addHearer_14 rfl rfl hq ?_
    refine am_iload_n (n := 18) d_Square_addHearer_17 rfl rfl ?_
    obtain ⟨g1, h⟩ := h
    refine am_iast2 (n := 19) d_Square_addHearer_18 rfl (am_sho (k := 1) (o := 2) hq (by decide) (by decide) (by decide) rfl) g1 rfl ?_
    generalize eI1 : am_u2 I (q + 2) (Int32.toNatClampNeg (I q 11)) p1 = I1
    have h := h I1 eI1.symm
    refine am_aload_n (n := 20) d_Square_addHearer_19 rfl rfl ?_
    refine am_getR (x := (q + 3)) (n := 23) f_Square_19 d_Square_addHearer_20 rfl rfl hq (hw.1 q 7 2 3 hq rfl) ?_
    refine am_aload_n (n := 24) d_Square_addHearer_23 rfl rfl ?_
    refine am_getI (n := 27) f_Square_51 d_Square_addHearer_24 rfl rfl hq ?_
    refine am_iload_n (n := 28) d_Square_addHearer_27 rfl rfl ?_
    obtain ⟨g2, h⟩ := h
    refine am_iast2 (n := 29) d_Square_addHearer_28 rfl (am_sho (k := 2) (o := 3) hq (by decide) (by decide) (by decide) rfl) g2 rfl ?_
    generalize eI2 : am_u2 I1 (q + 3) (Int32.toNatClampNeg (I1 q 11)) p2 = I2
    have h := h I2 eI2.symm
    refine am_aload_n (n := 30) d_Square_addHearer_29 rfl rfl ?_
    refine am_getR (x := (q + 4)) (n := 33) f_Square_22 d_Square_addHearer_30 rfl rfl hq (hw.1 q 7 3 4 hq rfl) ?_
    refine am_aload_n (n := 34) d_Square_addHearer_33 rfl rfl ?_
    refine am_getI (n := 37) f_Square_51 d_Square_addHearer_34 rfl rfl hq ?_
    refine am_iload_n (n := 38) d_Square_addHearer_37 rfl rfl ?_
    obtain ⟨g3, h⟩ := h
    refine am_iast2 (n := 39) d_Square_addHearer_38 rfl (am_sho (k := 3) (o := 4) hq (by decide) (by decide) (by decide) rfl) g3 rfl ?_
    generalize eI3 : am_u2 I2 (q + 4) (Int32.toNatClampNeg (I2 q 11)) p3 = I3
    have h := h I3 eI3.symm
    refine am_aload_n (n := 40) d_Square_addHearer_39 rfl rfl ?_
    refine am_dup (n := 41) d_Square_addHearer_40 rfl rfl ?_
    refine am_getI (n := 44) f_Square_51 d_Square_addHearer_41 rfl rfl hq ?_
    refine am_iconst (n := 45) d_Square_addHearer_44 ci_1 rfl ?_
    refine am_iadd (n := 46) d_Square_addHearer_45 rfl ?_
    refine am_putI (n := 49) f_Square_51 d_Square_addHearer_46 rfl ⟨_, rfl, Or.inl rfl⟩ rfl rfl hq ?_
    generalize eI4 : am_u2 I3 q 11 ((I3 q 11) + 1) = I4
    have h := h I4 eI4.symm
    exact am_vret d_Square_addHearer_49 ⟨I4, rfl, rfl, h⟩
abbrev po_SquareReader_readHearer (L : am_TL) (R : am_TR) (Q : Bool → am_TI → Prop) : Option Value → am_St → Prop := fun r σ' => ∃ (x : Bool) (I' : am_TI), r = some (.int (am_b x)) ∧ σ' = (I', L, R, am_SH) ∧ Q x I'
def wb_SquareReader_readHearer_102 (L : am_TL) (R : am_TR) (q : Nat) (p1 : Nat) (p2 : Nat) (Q : Bool → am_TI → Prop)  (I : am_TI) (v3 : Int32) (v4 : Int32) (s0 : Int32) : Prop := ((s0 = (-1) → Q false I) ∧ (¬ s0 = (-1) → wp_Square_addHearer I L R p2 v3 v4 s0 (fun (I4 : am_TI) => wp_Tokens_takeSemicolon I4 L R p1 (fun (r4 : Bool) (I5 : am_TI) => Q r4 I5))))
set_option maxRecDepth 20000 in
theorem tb_SquareReader_readHearer_102 {d : Nat}  {L : am_TL} {R : am_TR} {q : Nat} {p1 : Nat} {p2 : Nat} {Q : Bool → am_TI → Prop}  (hw : am_Wf R) (hq : am_SH[q]? = some (.inl 8)) (hp1 : am_SH[p1]? = some (.inl 9)) (hp2 : am_SH[p2]? = some (.inl 7)) (hd : 3 ≤ d) (I : am_TI) (v3 : Int32) (v4 : Int32) (s0 : Int32) (h : wb_SquareReader_readHearer_102 L R q p1 p2 Q  I v3 v4 s0) : am_Wp (d, "UnseenRing$SquareReader", b_SquareReader_readHearer, 6, false) 0 0 102 [some (.ref q), some (.ref p1), some (.ref p2), some (.int v3), some (.int v4), none] [.int s0] (I, L, R, am_SH) (po_SquareReader_readHearer L R Q) := by
  unfold wb_SquareReader_readHearer_102 at h
  refine am_istore (ls' := [some (.ref q), some (.ref p1), some (.ref p2), some (.int v3), some (.int v4), some (.int s0)]) (n := 104) d_SquareReader_readHearer_102 (by decide) rfl rfl ?_
  refine am_iload (n := 106) d_SquareReader_readHearer_104 rfl rfl ?_
  refine am_iconst (n := 107) d_SquareReader_readHearer_106 ci_m1 rfl ?_
  refine am_icmp_ne (tgt := 112) (n := 110) d_SquareReader_readHearer_107 rfl rfl (fun c7 => ?_) (fun c7 => ?_)
  · have h := h.2 c7
    refine am_aload_n (n := 113) d_SquareReader_readHearer_112 rfl rfl ?_
    refine am_iload_n (n := 114) d_SquareReader_readHearer_113 rfl rfl ?_
    refine am_iload (n := 116) d_SquareReader_readHearer_114 rfl rfl ?_
    refine am_iload (n := 118) d_SquareReader_readHearer_116 rfl rfl ?_
    refine am_callV (kc := 0) (ks := 0) (As := [.int v3, .int v4, .int s0]) (n := 121) d_SquareReader_readHearer_118 rfl ce_Square_addHearer lk_SquareReader_120 in_Square_addHearer rfl rfl hp2 rfl rfl (Nat.le_of_ble_eq_true rfl) (Or.inl rfl) (cm_Square_addHearer (d := d - 1) hw (by omega) hp2 h) (by omega) ?_
    rintro _ _ ⟨I4, rfl, rfl, h⟩
    show am_Wp (d, "UnseenRing$SquareReader", b_SquareReader_readHearer, 6, false) 0 0 121 [some (.ref q), some (.ref p1), some (.ref p2), some (.int v3), some (.int v4), some (.int s0)] [] (I4, L, R, am_SH) (po_SquareReader_readHearer L R Q)
    refine am_aload_n (n := 122) d_SquareReader_readHearer_121 rfl rfl ?_
    refine am_callV (kc := 0) (ks := 0) (As := []) (n := 125) d_SquareReader_readHearer_122 rfl ce_Tokens_takeSemicolon lk_SquareReader_87 in_Tokens_takeSemicolon rfl rfl hp1 rfl rfl (Nat.le_of_ble_eq_true rfl) (Or.inl rfl) (cm_Tokens_takeSemicolon (d := d - 1) hw (by omega) hp1 h) (by omega) ?_
    rintro _ _ ⟨r4, I5, rfl, rfl, h⟩
    show am_Wp (d, "UnseenRing$SquareReader", b_SquareReader_readHearer, 6, false) 0 0 125 [some (.ref q), some (.ref p1), some (.ref p2), some (.int v3), some (.int v4), some (.int s0)] [.int (am_b r4)] (I5, L, R, am_SH) (po_SquareReader_readHearer L R Q)
    exact am_iret d_SquareReader_readHearer_125 ⟨r4, I5, rfl, rfl, h⟩
  · have h := h.1 c7
    refine am_iconst (n := 111) d_SquareReader_readHearer_110 ci_0 rfl ?_
    exact am_iret d_SquareReader_readHearer_111 ⟨false, I, rfl, rfl, h⟩
def wb_SquareReader_readHearer_75 (L : am_TL) (R : am_TR) (q : Nat) (p1 : Nat) (p2 : Nat) (Q : Bool → am_TI → Prop)  (I : am_TI) (v3 : Int32) (v4 : Int32) : Prop := ((v4 = (-1) → Q false I) ∧ (¬ v4 = (-1) → (((I p1 9) = 8 → wp_SquareReader_readLikes I L R q p1 p2 (fun (r5 : Int32) (I6 : am_TI) => wb_SquareReader_readHearer_102 L R q p1 p2 Q I6 v3 v4 r5)) ∧ (¬ (I p1 9) = 8 → wb_SquareReader_readHearer_102 L R q p1 p2 Q I v3 v4 0))))
set_option maxRecDepth 20000 in
theorem tb_SquareReader_readHearer_75 {d : Nat}  {L : am_TL} {R : am_TR} {q : Nat} {p1 : Nat} {p2 : Nat} {Q : Bool → am_TI → Prop}  (hw : am_Wf R) (hq : am_SH[q]? = some (.inl 8)) (hp1 : am_SH[p1]? = some (.inl 9)) (hp2 : am_SH[p2]? = some (.inl 7)) (hd : 3 ≤ d) (I : am_TI) (v3 : Int32) (v4 : Int32) (h : wb_SquareReader_readHearer_75 L R q p1 p2 Q  I v3 v4) : am_Wp (d, "UnseenRing$SquareReader", b_SquareReader_readHearer, 6, false) 0 0 75 [some (.ref q), some (.ref p1), some (.ref p2), some (.int v3), some (.int v4), none] [] (I, L, R, am_SH) (po_SquareReader_readHearer L R Q) := by
  unfold wb_SquareReader_readHearer_75 at h
  refine am_iload (n := 77) d_SquareReader_readHearer_75 rfl rfl ?_
  refine am_iconst (n := 78) d_SquareReader_readHearer_77 ci_m1 rfl ?_
  refine am_icmp_ne (tgt := 83) (n := 81) d_SquareReader_readHearer_78 rfl rfl (fun c5 => ?_) (fun c5 => ?_)
  · have h := h.2 c5
    refine am_aload_n (n := 84) d_SquareReader_readHearer_83 rfl rfl ?_
    refine am_getI (n := 87) f_SquareReader_40 d_SquareReader_readHearer_84 rfl rfl hp1 ?_
    refine am_bipush (n := 89) d_SquareReader_readHearer_87 cb_8 rfl ?_
    refine am_icmp_ne (tgt := 101) (n := 92) d_SquareReader_readHearer_89 rfl rfl (fun c6 => ?_) (fun c6 => ?_)
    · have h := h.2 c6
      refine am_iconst (n := 102) d_SquareReader_readHearer_101 ci_0 rfl ?_
      exact tb_SquareReader_readHearer_102 hw hq hp1 hp2 hd I v3 v4 0 h
    · have h := h.1 c6
      refine am_aload_n (n := 93) d_SquareReader_readHearer_92 rfl rfl ?_
      refine am_aload_n (n := 94) d_SquareReader_readHearer_93 rfl rfl ?_
      refine am_aload_n (n := 95) d_SquareReader_readHearer_94 rfl rfl ?_
      refine am_callV (kc := 0) (ks := 0) (As := [.ref p1, .ref p2]) (n := 98) d_SquareReader_readHearer_95 rfl ce_SquareReader_readLikes lk_SquareReader_116 in_SquareReader_readLikes rfl rfl hq rfl rfl (Nat.le_of_ble_eq_true rfl) (Or.inl rfl) (cm_SquareReader_readLikes (d := d - 1) hw (by omega) hq hp1 hp2 h) (by omega) ?_
      rintro _ _ ⟨r5, I6, rfl, rfl, h⟩
      show am_Wp (d, "UnseenRing$SquareReader", b_SquareReader_readHearer, 6, false) 0 0 98 [some (.ref q), some (.ref p1), some (.ref p2), some (.int v3), some (.int v4), none] [.int r5] (I6, L, R, am_SH) (po_SquareReader_readHearer L R Q)
      refine am_goto (tgt := 102) d_SquareReader_readHearer_98 rfl ?_
      exact tb_SquareReader_readHearer_102 hw hq hp1 hp2 hd I6 v3 v4 r5 h
  · have h := h.1 c5
    refine am_iconst (n := 82) d_SquareReader_readHearer_81 ci_0 rfl ?_
    exact am_iret d_SquareReader_readHearer_82 ⟨false, I, rfl, rfl, h⟩
def wp_SquareReader_readHearer (I : am_TI) (L : am_TL) (R : am_TR) (q : Nat) (p1 : Nat) (p2 : Nat)  (Q : Bool → am_TI → Prop) : Prop := (((I p2 11) < 6 → wp_Tokens_advance I L R p1 (fun (I1 : am_TI) => wp_Tokens_takeWord I1 L R p1 6 (fun (r1 : Bool) (I2 : am_TI) => ((r1 = false → Q false I2) ∧ (r1 = true → wp_Square_cells I2 L R p2 (fun (r2 : Int32) => wp_Tokens_takeNumber I2 L R p1 0 (r2 - 1) (fun (r3 : Int32) (I3 : am_TI) => ((r3 = (-1) → Q false I3) ∧ (¬ r3 = (-1) → (((I3 p1 9) = 7 → wp_Tokens_advance I3 L R p1 (fun (I7 : am_TI) => wp_Tokens_takeNumber I7 L R p1 0 99 (fun (r6 : Int32) (I8 : am_TI) => wb_SquareReader_readHearer_75 L R q p1 p2 Q I8 r3 r6))) ∧ (¬ (I3 p1 9) = 7 → wb_SquareReader_readHearer_75 L R q p1 p2 Q I3 r3 3))))))))))) ∧ (¬ (I p2 11) < 6 → wp_Tokens_refuse I L R p1 6 (fun (r7 : Bool) (I9 : am_TI) => Q r7 I9)))
set_option maxRecDepth 20000 in
theorem cm_SquareReader_readHearer {d : Nat} {I : am_TI} {L : am_TL} {R : am_TR}  (hw : am_Wf R)   {q : Nat} {p1 : Nat} {p2 : Nat} {Q : Bool → am_TI → Prop} (hd : 3 ≤ d) (hq : am_SH[q]? = some (.inl 8)) (hp1 : am_SH[p1]? = some (.inl 9)) (hp2 : am_SH[p2]? = some (.inl 7)) (h : wp_SquareReader_readHearer I L R q p1 p2  Q) : am_Cm d 0 0 y_SquareReader_readHearer b_SquareReader_readHearer 6 (some .boolean) [.ref q, .ref p1, .ref p2] (I, L, R, am_SH) (po_SquareReader_readHearer L R Q) := by
  refine am_Cm_of (ini := false) (by decide +kernel) (fun z => by cases z) (by simp [Value.category]) (fun r σ' z => by obtain ⟨x, _, rfl, -⟩ := z; exact ⟨_, rfl, am_b_nar x⟩) ?_
  unfold wp_SquareReader_readHearer at h
  show am_Wp (d, "UnseenRing$SquareReader", b_SquareReader_readHearer, 6, false) 0 0 0 [some (.ref q), some (.ref p1), some (.ref p2), none, none, none] [] (I, L, R, am_SH) (po_SquareReader_readHearer L R Q)
  refine am_aload_n (n := 1) d_SquareReader_readHearer_0 rfl rfl ?_
  refine am_getI (n := 4) f_SquareReader_65 d_SquareReader_readHearer_1 rfl rfl hp2 ?_
  refine am_bipush (n := 6) d_SquareReader_readHearer_4 cb_6 rfl ?_
  refine am_icmp_lt (tgt := 16) (n := 9) d_SquareReader_readHearer_6 rfl rfl (fun c1 => ?_) (fun c1 => ?_)
  · have h := h.1 c1
    refine am_aload_n (n := 17) d_SquareReader_readHearer_16 rfl rfl ?_
    refine am_callV (kc := 0) (ks := 0) (As := []) (n := 20) d_SquareReader_readHearer_17 rfl ce_Tokens_advance lk_SquareReader_71 in_Tokens_advance rfl rfl hp1 rfl rfl (Nat.le_of_ble_eq_true rfl) (Or.inl rfl) (cm_Tokens_advance (d := d - 1) hw (by omega) hp1 h) (by omega) ?_
    rintro _ _ ⟨I1, rfl, rfl, h⟩
    show am_Wp (d, "UnseenRing$SquareReader", b_SquareReader_readHearer, 6, false) 0 0 20 [some (.ref q), some (.ref p1), some (.ref p2), none, none, none] [] (I1, L, R, am_SH) (po_SquareReader_readHearer L R Q)
    refine am_aload_n (n := 21) d_SquareReader_readHearer_20 rfl rfl ?_
    refine am_bipush (n := 23) d_SquareReader_readHearer_21 cb_6 rfl ?_
    refine am_callV (kc := 0) (ks := 0) (As := [.int 6]) (n := 26) d_SquareReader_readHearer_23 rfl ce_Tokens_takeWord lk_SquareReader_78 in_Tokens_takeWord rfl rfl hp1 rfl rfl (Nat.le_of_ble_eq_true rfl) (Or.inl rfl) (cm_Tokens_takeWord (d := d - 1) hw (by omega) hp1 h) (by omega) ?_
    rintro _ _ ⟨r1, I2, rfl, rfl, h⟩
    show am_Wp (d, "UnseenRing$SquareReader", b_SquareReader_readHearer, 6, false) 0 0 26 [some (.ref q), some (.ref p1), some (.ref p2), none, none, none] [.int (am_b r1)] (I2, L, R, am_SH) (po_SquareReader_readHearer L R Q)
    refine am_if_ne (y := 0) (tgt := 31) (n := 29) d_SquareReader_readHearer_26 rfl rfl (fun c2 => ?_) (fun c2 => ?_)
    · have h := h.2 (am_b_n0 c2)
      refine am_aload_n (n := 32) d_SquareReader_readHearer_31 rfl rfl ?_
      refine am_iconst (n := 33) d_SquareReader_readHearer_32 ci_0 rfl ?_
      refine am_aload_n (n := 34) d_SquareReader_readHearer_33 rfl rfl ?_
      refine am_callV (kc := 0) (ks := 0) (As := []) (n := 37) d_SquareReader_readHearer_34 rfl ce_Square_cells lk_SquareReader_94 in_Square_cells rfl rfl hp2 rfl rfl (Nat.le_of_ble_eq_true rfl) (Or.inl rfl) (cm_Square_cells (d := d - 1) hw (by omega) hp2 h) (by omega) ?_
      rintro _ _ ⟨r2, rfl, rfl, h⟩
      show am_Wp (d, "UnseenRing$SquareReader", b_SquareReader_readHearer, 6, false) 0 0 37 [some (.ref q), some (.ref p1), some (.ref p2), none, none, none] [.int r2, .int 0, .ref p1] (I2, L, R, am_SH) (po_SquareReader_readHearer L R Q)
      refine am_iconst (n := 38) d_SquareReader_readHearer_37 ci_1 rfl ?_
      refine am_isub (n := 39) d_SquareReader_readHearer_38 rfl ?_
      refine am_callV (kc := 0) (ks := 0) (As := [.int 0, .int (r2 - 1)]) (n := 42) d_SquareReader_readHearer_39 rfl ce_Tokens_takeNumber lk_SquareReader_74 in_Tokens_takeNumber rfl rfl hp1 rfl rfl (Nat.le_of_ble_eq_true rfl) (Or.inl rfl) (cm_Tokens_takeNumber (d := d - 1) hw (by omega) hp1 h) (by omega) ?_
      rintro _ _ ⟨r3, I3, rfl, rfl, h⟩
      show am_Wp (d, "UnseenRing$SquareReader", b_SquareReader_readHearer, 6, false) 0 0 42 [some (.ref q), some (.ref p1), some (.ref p2), none, none, none] [.int r3] (I3, L, R, am_SH) (po_SquareReader_readHearer L R Q)
      refine am_istore_n (ls' := [some (.ref q), some (.ref p1), some (.ref p2), some (.int r3), none, none]) (n := 43) d_SquareReader_readHearer_42 (by decide) rfl rfl ?_
      refine am_iload_n (n := 44) d_SquareReader_readHearer_43 rfl rfl ?_
      refine am_iconst (n := 45) d_SquareReader_readHearer_44 ci_m1 rfl ?_
      refine am_icmp_ne (tgt := 50) (n := 48) d_SquareReader_readHearer_45 rfl rfl (fun c3 => ?_) (fun c3 => ?_)
      · have h := h.2 c3
        refine am_iconst (n := 51) d_SquareReader_readHearer_50 ci_3 rfl ?_
        refine am_istore (ls' := [some (.ref q), some (.ref p1), some (.ref p2), some (.int r3), some (.int 3), none]) (n := 53) d_SquareReader_readHearer_51 (by decide) rfl rfl ?_
        refine am_aload_n (n := 54) d_SquareReader_readHearer_53 rfl rfl ?_
        refine am_getI (n := 57) f_SquareReader_40 d_SquareReader_readHearer_54 rfl rfl hp1 ?_
        refine am_bipush (n := 59) d_SquareReader_readHearer_57 cb_7 rfl ?_
        refine am_icmp_ne (tgt := 75) (n := 62) d_SquareReader_readHearer_59 rfl rfl (fun c4 => ?_) (fun c4 => ?_)
        · have h := h.2 c4
          exact tb_SquareReader_readHearer_75 hw hq hp1 hp2 hd I3 r3 3 h
        · have h := h.1 c4
          refine am_aload_n (n := 63) d_SquareReader_readHearer_62 rfl rfl ?_
          refine am_callV (kc := 0) (ks := 0) (As := []) (n := 66) d_SquareReader_readHearer_63 rfl ce_Tokens_advance lk_SquareReader_71 in_Tokens_advance rfl rfl hp1 rfl rfl (Nat.le_of_ble_eq_true rfl) (Or.inl rfl) (cm_Tokens_advance (d := d - 1) hw (by omega) hp1 h) (by omega) ?_
          rintro _ _ ⟨I7, rfl, rfl, h⟩
          show am_Wp (d, "UnseenRing$SquareReader", b_SquareReader_readHearer, 6, false) 0 0 66 [some (.ref q), some (.ref p1), some (.ref p2), some (.int r3), some (.int 3), none] [] (I7, L, R, am_SH) (po_SquareReader_readHearer L R Q)
          refine am_aload_n (n := 67) d_SquareReader_readHearer_66 rfl rfl ?_
          refine am_iconst (n := 68) d_SquareReader_readHearer_67 ci_0 rfl ?_
          refine am_bipush (n := 70) d_SquareReader_readHearer_68 cb_99 rfl ?_
          refine am_callV (kc := 0) (ks := 0) (As := [.int 0, .int 99]) (n := 73) d_SquareReader_readHearer_70 rfl ce_Tokens_takeNumber lk_SquareReader_74 in_Tokens_takeNumber rfl rfl hp1 rfl rfl (Nat.le_of_ble_eq_true rfl) (Or.inl rfl) (cm_Tokens_takeNumber (d := d - 1) hw (by omega) hp1 h) (by omega) ?_
          rintro _ _ ⟨r6, I8, rfl, rfl, h⟩
          show am_Wp (d, "UnseenRing$SquareReader", b_SquareReader_readHearer, 6, false) 0 0 73 [some (.ref q), some (.ref p1), some (.ref p2), some (.int r3), some (.int 3), none] [.int r6] (I8, L, R, am_SH) (po_SquareReader_readHearer L R Q)
          refine am_istore (ls' := [some (.ref q), some (.ref p1), some (.ref p2), some (.int r3), some (.int r6), none]) (n := 75) d_SquareReader_readHearer_73 (by decide) rfl rfl ?_
          exact tb_SquareReader_readHearer_75 hw hq hp1 hp2 hd I8 r3 r6 h
      · have h := h.1 c3
        refine am_iconst (n := 49) d_SquareReader_readHearer_48 ci_0 rfl ?_
        exact am_iret d_SquareReader_readHearer_49 ⟨false, I3, rfl, rfl, h⟩
    · have h := h.1 (am_b_0 c2)
      refine am_iconst (n := 30) d_SquareReader_readHearer_29 ci_0 rfl ?_
      exact am_iret d_SquareReader_readHearer_30 ⟨false, I2, rfl, rfl, h⟩
  · have h := h.2 c1
    refine am_aload_n (n := 10) d_SquareReader_readHearer_9 rfl rfl ?_
    refine am_bipush (n := 12) d_SquareReader_readHearer_10 cb_6 rfl ?_
    refine am_callV (kc := 0) (ks := 0) (As := [.int 6]) (n := 15) d_SquareReader_readHearer_12 rfl ce_Tokens_refuse lk_SquareReader_61 in_Tokens_refuse rfl rfl hp1 rfl rfl (Nat.le_of_ble_eq_true rfl) (Or.inl rfl) (cm_Tokens_refuse (d := d - 1) hw (by omega) hp1 h) (by omega) ?_
    rintro _ _ ⟨r7, I9, rfl, rfl, h⟩
    show am_Wp (d, "UnseenRing$SquareReader", b_SquareReader_readHearer, 6, false) 0 0 15 [some (.ref q), some (.ref p1), some (.ref p2), none, none, none] [.int (am_b r7)] (I9, L, R, am_SH) (po_SquareReader_readHearer L R Q)
    exact am_iret d_SquareReader_readHearer_15 ⟨r7, I9, rfl, rfl, h⟩
abbrev po_SquareReader_readOdds (L : am_TL) (R : am_TR) (Q : Bool → am_TI → Prop) : Option Value → am_St → Prop := fun r σ' => ∃ (x : Bool) (I' : am_TI), r = some (.int (am_b x)) ∧ σ' = (I', L, R, am_SH) ∧ Q x I'
def wp_SquareReader_readOdds (I : am_TI) (L : am_TL) (R : am_TR) (q : Nat) (p1 : Nat) (p2 : Nat)  (Q : Bool → am_TI → Prop) : Prop := (((I q 1) = 0 → (∀ I1, I1 = am_u2 I q 1 1 → wp_Tokens_advance I1 L R p1 (fun (I2 : am_TI) => wp_Tokens_takeNumber I2 L R p1 0 16 (fun (r1 : Int32) (I3 : am_TI) => (∀ I4, I4 = am_u2 I3 p2 8 r1 → (((I4 p2 8) = (-1) → Q false I4) ∧ (¬ (I4 p2 8) = (-1) → wp_Tokens_takeSemicolon I4 L R p1 (fun (r2 : Bool) (I5 : am_TI) => ((r2 = false → Q false I5) ∧ (r2 = true → Q true I5)))))))))) ∧ (¬ (I q 1) = 0 → wp_Tokens_refuse I L R p1 5 (fun (r3 : Bool) (I6 : am_TI) => Q r3 I6)))
set_option maxRecDepth 20000 in
theorem cm_SquareReader_readOdds {d : Nat} {I : am_TI} {L : am_TL} {R : am_TR}  (hw : am_Wf R)   {q : Nat} {p1 : Nat} {p2 : Nat} {Q : Bool → am_TI → Prop} (hd : 2 ≤ d) (hq : am_SH[q]? = some (.inl 8)) (hp1 : am_SH[p1]? = some (.inl 9)) (hp2 : am_SH[p2]? = some (.inl 7)) (h : wp_SquareReader_readOdds I L R q p1 p2  Q) : am_Cm d 0 0 y_SquareReader_readOdds b_SquareReader_readOdds 3 (some .boolean) [.ref q, .ref p1, .ref p2] (I, L, R, am_SH) (po_SquareReader_readOdds L R Q) := by
  refine am_Cm_of (ini := false) (by decide +kernel) (fun z => by cases z) (by simp [Value.category]) (fun r σ' z => by obtain ⟨x, _, rfl, -⟩ := z; exact ⟨_, rfl, am_b_nar x⟩) ?_
  unfold wp_SquareReader_readOdds at h
  show am_Wp (d, "UnseenRing$SquareReader", b_SquareReader_readOdds, 3, false) 0 0 0 [some (.ref q), some (.ref p1), some (.ref p2)] [] (I, L, R, am_SH) (po_SquareReader_readOdds L R Q)
  refine am_aload_n (n := 1) d_SquareReader_readOdds_0 rfl rfl ?_
  refine am_getZ (n := 4) f_SquareReader_15 d_SquareReader_readOdds_1 rfl rfl hq ?_
  refine am_if_eq (y := 0) (tgt := 13) (n := 7) d_SquareReader_readOdds_4 rfl rfl (fun c1 => ?_) (fun c1 => ?_)
  · have h := h.1 c1
    refine am_aload_n (n := 14) d_SquareReader_readOdds_13 rfl rfl ?_
    refine am_iconst (n := 15) d_SquareReader_readOdds_14 ci_1 rfl ?_
    refine am_putZ (n := 18) f_SquareReader_15 d_SquareReader_readOdds_15 rfl ⟨_, rfl, Or.inl rfl⟩ rfl rfl hq (Or.inr rfl) ?_
    generalize eI1 : am_u2 I q 1 1 = I1
    have h := h I1 eI1.symm
    refine am_aload_n (n := 19) d_SquareReader_readOdds_18 rfl rfl ?_
    refine am_callV (kc := 0) (ks := 0) (As := []) (n := 22) d_SquareReader_readOdds_19 rfl ce_Tokens_advance lk_SquareReader_71 in_Tokens_advance rfl rfl hp1 rfl rfl (Nat.le_of_ble_eq_true rfl) (Or.inl rfl) (cm_Tokens_advance (d := d - 1) hw (by omega) hp1 h) (by omega) ?_
    rintro _ _ ⟨I2, rfl, rfl, h⟩
    show am_Wp (d, "UnseenRing$SquareReader", b_SquareReader_readOdds, 3, false) 0 0 22 [some (.ref q), some (.ref p1), some (.ref p2)] [] (I2, L, R, am_SH) (po_SquareReader_readOdds L R Q)
    refine am_aload_n (n := 23) d_SquareReader_readOdds_22 rfl rfl ?_
    refine am_aload_n (n := 24) d_SquareReader_readOdds_23 rfl rfl ?_
    refine am_iconst (n := 25) d_SquareReader_readOdds_24 ci_0 rfl ?_
    refine am_bipush (n := 27) d_SquareReader_readOdds_25 cb_16 rfl ?_
    refine am_callV (kc := 0) (ks := 0) (As := [.int 0, .int 16]) (n := 30) d_SquareReader_readOdds_27 rfl ce_Tokens_takeNumber lk_SquareReader_74 in_Tokens_takeNumber rfl rfl hp1 rfl rfl (Nat.le_of_ble_eq_true rfl) (Or.inl rfl) (cm_Tokens_takeNumber (d := d - 1) hw (by omega) hp1 h) (by omega) ?_
    rintro _ _ ⟨r1, I3, rfl, rfl, h⟩
    show am_Wp (d, "UnseenRing$SquareReader", b_SquareReader_readOdds, 3, false) 0 0 30 [some (.ref q), some (.ref p1), some (.ref p2)] [.int r1, .ref p2] (I3, L, R, am_SH) (po_SquareReader_readOdds L R Q)
    refine am_putI (n := 33) f_SquareReader_91 d_SquareReader_readOdds_30 rfl ⟨_, rfl, Or.inl rfl⟩ rfl rfl hp2 ?_
    generalize eI4 : am_u2 I3 p2 8 r1 = I4
    have h := h I4 eI4.symm
    refine am_aload_n (n := 34) d_SquareReader_readOdds_33 rfl rfl ?_
    refine am_getI (n := 37) f_SquareReader_91 d_SquareReader_readOdds_34 rfl rfl hp2 ?_
    refine am_iconst (n := 38) d_SquareReader_readOdds_37 ci_m1 rfl ?_
    refine am_icmp_eq (tgt := 52) (n := 41) d_SquareReader_readOdds_38 rfl rfl (fun c2 => ?_) (fun c2 => ?_)
    · have h := h.1 c2
      refine am_iconst (n := 53) d_SquareReader_readOdds_52 ci_0 rfl ?_
      exact am_iret d_SquareReader_readOdds_53 ⟨false, I4, rfl, rfl, h⟩
    · have h := h.2 c2
      refine am_aload_n (n := 42) d_SquareReader_readOdds_41 rfl rfl ?_
      refine am_callV (kc := 0) (ks := 0) (As := []) (n := 45) d_SquareReader_readOdds_42 rfl ce_Tokens_takeSemicolon lk_SquareReader_87 in_Tokens_takeSemicolon rfl rfl hp1 rfl rfl (Nat.le_of_ble_eq_true rfl) (Or.inl rfl) (cm_Tokens_takeSemicolon (d := d - 1) hw (by omega) hp1 h) (by omega) ?_
      rintro _ _ ⟨r2, I5, rfl, rfl, h⟩
      show am_Wp (d, "UnseenRing$SquareReader", b_SquareReader_readOdds, 3, false) 0 0 45 [some (.ref q), some (.ref p1), some (.ref p2)] [.int (am_b r2)] (I5, L, R, am_SH) (po_SquareReader_readOdds L R Q)
      refine am_if_eq (y := 0) (tgt := 52) (n := 48) d_SquareReader_readOdds_45 rfl rfl (fun c3 => ?_) (fun c3 => ?_)
      · have h := h.1 (am_b_0 c3)
        refine am_iconst (n := 53) d_SquareReader_readOdds_52 ci_0 rfl ?_
        exact am_iret d_SquareReader_readOdds_53 ⟨false, I5, rfl, rfl, h⟩
      · have h := h.2 (am_b_n0 c3)
        refine am_iconst (n := 49) d_SquareReader_readOdds_48 ci_1 rfl ?_
        refine am_goto (tgt := 53) d_SquareReader_readOdds_49 rfl ?_
        exact am_iret d_SquareReader_readOdds_53 ⟨true, I5, rfl, rfl, h⟩
  · have h := h.2 c1
    refine am_aload_n (n := 8) d_SquareReader_readOdds_7 rfl rfl ?_
    refine am_iconst (n := 9) d_SquareReader_readOdds_8 ci_5 rfl ?_
    refine am_callV (kc := 0) (ks := 0) (As := [.int 5]) (n := 12) d_SquareReader_readOdds_9 rfl ce_Tokens_refuse lk_SquareReader_61 in_Tokens_refuse rfl rfl hp1 rfl rfl (Nat.le_of_ble_eq_true rfl) (Or.inl rfl) (cm_Tokens_refuse (d := d - 1) hw (by omega) hp1 h) (by omega) ?_
    rintro _ _ ⟨r3, I6, rfl, rfl, h⟩
    show am_Wp (d, "UnseenRing$SquareReader", b_SquareReader_readOdds, 3, false) 0 0 12 [some (.ref q), some (.ref p1), some (.ref p2)] [.int (am_b r3)] (I6, L, R, am_SH) (po_SquareReader_readOdds L R Q)
    exact am_iret d_SquareReader_readOdds_12 ⟨r3, I6, rfl, rfl, h⟩
abbrev po_SquareReader_readOrgan (L : am_TL) (R : am_TR) (Q : Bool → am_TI → Prop) : Option Value → am_St → Prop := fun r σ' => ∃ (x : Bool) (I' : am_TI), r = some (.int (am_b x)) ∧ σ' = (I', L, R, am_SH) ∧ Q x I'
def wp_SquareReader_readOrgan (I : am_TI) (L : am_TL) (R : am_TR) (q : Nat) (p1 : Nat) (p2 : Nat)  (Q : Bool → am_TI → Prop) : Prop := (((I q 2) = 0 → (∀ I1, I1 = am_u2 I q 2 1 → wp_Tokens_advance I1 L R p1 (fun (I2 : am_TI) => wp_Square_cells I2 L R p2 (fun (r1 : Int32) => wp_Tokens_takeNumber I2 L R p1 0 (r1 - 1) (fun (r2 : Int32) (I3 : am_TI) => (∀ I4, I4 = am_u2 I3 p2 9 r2 → (((I4 p2 9) = (-1) → Q false I4) ∧ (¬ (I4 p2 9) = (-1) → wp_Tokens_takeSemicolon I4 L R p1 (fun (r3 : Bool) (I5 : am_TI) => ((r3 = false → Q false I5) ∧ (r3 = true → Q true I5))))))))))) ∧ (¬ (I q 2) = 0 → wp_Tokens_refuse I L R p1 5 (fun (r4 : Bool) (I6 : am_TI) => Q r4 I6)))
set_option maxRecDepth 20000 in
theorem cm_SquareReader_readOrgan {d : Nat} {I : am_TI} {L : am_TL} {R : am_TR}  (hw : am_Wf R)   {q : Nat} {p1 : Nat} {p2 : Nat} {Q : Bool → am_TI → Prop} (hd : 2 ≤ d) (hq : am_SH[q]? = some (.inl 8)) (hp1 : am_SH[p1]? = some (.inl 9)) (hp2 : am_SH[p2]? = some (.inl 7)) (h : wp_SquareReader_readOrgan I L R q p1 p2  Q) : am_Cm d 0 0 y_SquareReader_readOrgan b_SquareReader_readOrgan 3 (some .boolean) [.ref q, .ref p1, .ref p2] (I, L, R, am_SH) (po_SquareReader_readOrgan L R Q) := by
  refine am_Cm_of (ini := false) (by decide +kernel) (fun z => by cases z) (by simp [Value.category]) (fun r σ' z => by obtain ⟨x, _, rfl, -⟩ := z; exact ⟨_, rfl, am_b_nar x⟩) ?_
  unfold wp_SquareReader_readOrgan at h
  show am_Wp (d, "UnseenRing$SquareReader", b_SquareReader_readOrgan, 3, false) 0 0 0 [some (.ref q), some (.ref p1), some (.ref p2)] [] (I, L, R, am_SH) (po_SquareReader_readOrgan L R Q)
  refine am_aload_n (n := 1) d_SquareReader_readOrgan_0 rfl rfl ?_
  refine am_getZ (n := 4) f_SquareReader_18 d_SquareReader_readOrgan_1 rfl rfl hq ?_
  refine am_if_eq (y := 0) (tgt := 13) (n := 7) d_SquareReader_readOrgan_4 rfl rfl (fun c1 => ?_) (fun c1 => ?_)
  · have h := h.1 c1
    refine am_aload_n (n := 14) d_SquareReader_readOrgan_13 rfl rfl ?_
    refine am_iconst (n := 15) d_SquareReader_readOrgan_14 ci_1 rfl ?_
    refine am_putZ (n := 18) f_SquareReader_18 d_SquareReader_readOrgan_15 rfl ⟨_, rfl, Or.inl rfl⟩ rfl rfl hq (Or.inr rfl) ?_
    generalize eI1 : am_u2 I q 2 1 = I1
    have h := h I1 eI1.symm
    refine am_aload_n (n := 19) d_SquareReader_readOrgan_18 rfl rfl ?_
    refine am_callV (kc := 0) (ks := 0) (As := []) (n := 22) d_SquareReader_readOrgan_19 rfl ce_Tokens_advance lk_SquareReader_71 in_Tokens_advance rfl rfl hp1 rfl rfl (Nat.le_of_ble_eq_true rfl) (Or.inl rfl) (cm_Tokens_advance (d := d - 1) hw (by omega) hp1 h) (by omega) ?_
    rintro _ _ ⟨I2, rfl, rfl, h⟩
    show am_Wp (d, "UnseenRing$SquareReader", b_SquareReader_readOrgan, 3, false) 0 0 22 [some (.ref q), some (.ref p1), some (.ref p2)] [] (I2, L, R, am_SH) (po_SquareReader_readOrgan L R Q)
    refine am_aload_n (n := 23) d_SquareReader_readOrgan_22 rfl rfl ?_
    refine am_aload_n (n := 24) d_SquareReader_readOrgan_23 rfl rfl ?_
    refine am_iconst (n := 25) d_SquareReader_readOrgan_24 ci_0 rfl ?_
    refine am_aload_n (n := 26) d_SquareReader_readOrgan_25 rfl rfl ?_
    refine am_callV (kc := 0) (ks := 0) (As := []) (n := 29) d_SquareReader_readOrgan_26 rfl ce_Square_cells lk_SquareReader_94 in_Square_cells rfl rfl hp2 rfl rfl (Nat.le_of_ble_eq_true rfl) (Or.inl rfl) (cm_Square_cells (d := d - 1) hw (by omega) hp2 h) (by omega) ?_
    rintro _ _ ⟨r1, rfl, rfl, h⟩
    show am_Wp (d, "UnseenRing$SquareReader", b_SquareReader_readOrgan, 3, false) 0 0 29 [some (.ref q), some (.ref p1), some (.ref p2)] [.int r1, .int 0, .ref p1, .ref p2] (I2, L, R, am_SH) (po_SquareReader_readOrgan L R Q)
    refine am_iconst (n := 30) d_SquareReader_readOrgan_29 ci_1 rfl ?_
    refine am_isub (n := 31) d_SquareReader_readOrgan_30 rfl ?_
    refine am_callV (kc := 0) (ks := 0) (As := [.int 0, .int (r1 - 1)]) (n := 34) d_SquareReader_readOrgan_31 rfl ce_Tokens_takeNumber lk_SquareReader_74 in_Tokens_takeNumber rfl rfl hp1 rfl rfl (Nat.le_of_ble_eq_true rfl) (Or.inl rfl) (cm_Tokens_takeNumber (d := d - 1) hw (by omega) hp1 h) (by omega) ?_
    rintro _ _ ⟨r2, I3, rfl, rfl, h⟩
    show am_Wp (d, "UnseenRing$SquareReader", b_SquareReader_readOrgan, 3, false) 0 0 34 [some (.ref q), some (.ref p1), some (.ref p2)] [.int r2, .ref p2] (I3, L, R, am_SH) (po_SquareReader_readOrgan L R Q)
    refine am_putI (n := 37) f_SquareReader_98 d_SquareReader_readOrgan_34 rfl ⟨_, rfl, Or.inl rfl⟩ rfl rfl hp2 ?_
    generalize eI4 : am_u2 I3 p2 9 r2 = I4
    have h := h I4 eI4.symm
    refine am_aload_n (n := 38) d_SquareReader_readOrgan_37 rfl rfl ?_
    refine am_getI (n := 41) f_SquareReader_98 d_SquareReader_readOrgan_38 rfl rfl hp2 ?_
    refine am_iconst (n := 42) d_SquareReader_readOrgan_41 ci_m1 rfl ?_
    refine am_icmp_eq (tgt := 56) (n := 45) d_SquareReader_readOrgan_42 rfl rfl (fun c2 => ?_) (fun c2 => ?_)
    · have h := h.1 c2
      refine am_iconst (n := 57) d_SquareReader_readOrgan_56 ci_0 rfl ?_
      exact am_iret d_SquareReader_readOrgan_57 ⟨false, I4, rfl, rfl, h⟩
    · have h := h.2 c2
      refine am_aload_n (n := 46) d_SquareReader_readOrgan_45 rfl rfl ?_
      refine am_callV (kc := 0) (ks := 0) (As := []) (n := 49) d_SquareReader_readOrgan_46 rfl ce_Tokens_takeSemicolon lk_SquareReader_87 in_Tokens_takeSemicolon rfl rfl hp1 rfl rfl (Nat.le_of_ble_eq_true rfl) (Or.inl rfl) (cm_Tokens_takeSemicolon (d := d - 1) hw (by omega) hp1 h) (by omega) ?_
      rintro _ _ ⟨r3, I5, rfl, rfl, h⟩
      show am_Wp (d, "UnseenRing$SquareReader", b_SquareReader_readOrgan, 3, false) 0 0 49 [some (.ref q), some (.ref p1), some (.ref p2)] [.int (am_b r3)] (I5, L, R, am_SH) (po_SquareReader_readOrgan L R Q)
      refine am_if_eq (y := 0) (tgt := 56) (n := 52) d_SquareReader_readOrgan_49 rfl rfl (fun c3 => ?_) (fun c3 => ?_)
      · have h := h.1 (am_b_0 c3)
        refine am_iconst (n := 57) d_SquareReader_readOrgan_56 ci_0 rfl ?_
        exact am_iret d_SquareReader_readOrgan_57 ⟨false, I5, rfl, rfl, h⟩
      · have h := h.2 (am_b_n0 c3)
        refine am_iconst (n := 53) d_SquareReader_readOrgan_52 ci_1 rfl ?_
        refine am_goto (tgt := 57) d_SquareReader_readOrgan_53 rfl ?_
        exact am_iret d_SquareReader_readOrgan_57 ⟨true, I5, rfl, rfl, h⟩
  · have h := h.2 c1
    refine am_aload_n (n := 8) d_SquareReader_readOrgan_7 rfl rfl ?_
    refine am_iconst (n := 9) d_SquareReader_readOrgan_8 ci_5 rfl ?_
    refine am_callV (kc := 0) (ks := 0) (As := [.int 5]) (n := 12) d_SquareReader_readOrgan_9 rfl ce_Tokens_refuse lk_SquareReader_61 in_Tokens_refuse rfl rfl hp1 rfl rfl (Nat.le_of_ble_eq_true rfl) (Or.inl rfl) (cm_Tokens_refuse (d := d - 1) hw (by omega) hp1 h) (by omega) ?_
    rintro _ _ ⟨r4, I6, rfl, rfl, h⟩
    show am_Wp (d, "UnseenRing$SquareReader", b_SquareReader_readOrgan, 3, false) 0 0 12 [some (.ref q), some (.ref p1), some (.ref p2)] [.int (am_b r4)] (I6, L, R, am_SH) (po_SquareReader_readOrgan L R Q)
    exact am_iret d_SquareReader_readOrgan_12 ⟨r4, I6, rfl, rfl, h⟩
