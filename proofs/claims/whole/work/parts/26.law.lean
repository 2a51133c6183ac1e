theorem ci_6 : Int32.ofInt (6) = 6 := by decide +kernel
abbrev po_Law (Q : Bool → am_TI → am_TL → am_TR → Prop) : Option Value → am_St → Prop := fun r σ' => ∃ (x : Bool) (I' : am_TI) (L' : am_TL) (R' : am_TR), r = some (.int (am_b x)) ∧ σ' = (I', L', R', am_SH) ∧ am_Wf R' ∧ Q x I' L' R'
def wb_Law_law_986 (Q : Bool → am_TI → am_TL → am_TR → Prop) (K18 : am_TI → am_TL → am_TR → Int32 → Prop) (I : am_TI) (L : am_TL) (R : am_TR) (v3 : Int32) (s0 : Bool) (s1 : Nat) (s2 : Int32) (s3 : Int32) (s4 : Bool) : Prop := wp_M_teach I L R s1 s2 s3 (am_b s4) (fun (r46 : Bool) (I38 : am_TI) => (((am_b s0) = (am_b r46) → K18 I38 L R (v3 + 6)) ∧ (¬ (am_b s0) = (am_b r46) → Q false I38 L R)))
set_option maxRecDepth 20000 in
theorem tb_Law_law_986 {d : Nat}  {Q : Bool → am_TI → am_TL → am_TR → Prop} {K18 : am_TI → am_TL → am_TR → Int32 → Prop}  (hK18 : ∀ (I : am_TI) (L : am_TL) (R : am_TR) (v3 : Int32) (hw : am_Wf R), K18 I L R v3 → am_Wp (d, "UnseenRingLaw", b_Law_law, 4, false) 0 0 18 [some (.ref 1000), some (.ref 0), some (.ref 103), some (.int v3)] [] (I, L, R, am_SH) (po_Law Q)) (hd : 60 ≤ d) (I : am_TI) (L : am_TL) (R : am_TR) (v3 : Int32) (s0 : Bool) (s1 : Nat) (s2 : Int32) (s3 : Int32) (s4 : Bool) (hw : am_Wf R) (hs1 : am_SH[s1]? = some (.inl 12)) (h : wb_Law_law_986 Q K18 I L R v3 s0 s1 s2 s3 s4) : am_Wp (d, "UnseenRingLaw", b_Law_law, 4, false) 0 0 986 [some (.ref 1000), some (.ref 0), some (.ref 103), some (.int v3)] [.int (am_b s4), .int s3, .int s2, .ref s1, .int (am_b s0)] (I, L, R, am_SH) (po_Law Q) := by
  unfold wb_Law_law_986 at h
  refine am_callV (kc := 0) (ks := 0) (As := [.int s2, .int s3, .int (am_b s4)]) (n := 989) d_Law_law_986 rfl ce_M_teach lk_Law_116 in_M_teach rfl rfl hs1 rfl rfl (Nat.le_of_ble_eq_true rfl) (Or.inl rfl) (cm_M_teach (d := d - 1) hw (by omega) hs1 h) (by omega) ?_
  rintro _ _ ⟨r46, I38, rfl, rfl, h⟩
  show am_Wp (d, "UnseenRingLaw", b_Law_law, 4, false) 0 0 989 [some (.ref 1000), some (.ref 0), some (.ref 103), some (.int v3)] [.int (am_b r46), .int (am_b s0)] (I38, L, R, am_SH) (po_Law Q)
  refine am_icmp_eq (tgt := 1831) (n := 992) d_Law_law_989 rfl rfl (fun c49 => ?_) (fun c49 => ?_)
  · have h := h.1 c49
    refine am_iinc (v := v3 + 6) (ls' := [some (.ref 1000), some (.ref 0), some (.ref 103), some (.int (v3 + 6))]) (n := 1834) d_Law_law_1831 rfl (congrArg _ ci_6) (by decide) rfl rfl ?_
    refine am_goto (tgt := 18) d_Law_law_1834 rfl ?_
    exact hK18 I38 L R (v3 + 6) hw h
  · have h := h.2 c49
    refine am_iconst (n := 993) d_Law_law_992 ci_0 rfl ?_
    exact am_iret d_Law_law_993 ⟨false, I38, L, R, rfl, rfl, hw, h⟩
def wb_Law_law_959 (Q : Bool → am_TI → am_TL → am_TR → Prop) (K18 : am_TI → am_TL → am_TR → Int32 → Prop) (I : am_TI) (L : am_TL) (R : am_TR) (v3 : Int32) (s0 : Nat) (s1 : Int32) (s2 : Int32) (s3 : Bool) : Prop := wp_U_teach I L R s0 s1 s2 (am_b s3) (fun (r45 : Bool) (I37 : am_TI) => (∃ w79, (nI w79 = I37 1001 0 ∧ w79 ≤ 3072 ∧ vp_in (v3 + 1) w79) ∧ (∃ w80, (nI w80 = I37 1001 0 ∧ w80 ≤ 3072 ∧ vp_in (v3 + 2) w80) ∧ (∃ w81, (nI w81 = I37 1001 0 ∧ w81 ≤ 3072 ∧ vp_in (v3 + 3) w81) ∧ (((I37 1000 (Int32.toNatClampNeg (v3 + 3))) = 0 → wb_Law_law_986 Q K18 I37 L R v3 r45 103 (I37 1000 (Int32.toNatClampNeg (v3 + 1))) (I37 1000 (Int32.toNatClampNeg (v3 + 2))) false) ∧ (¬ (I37 1000 (Int32.toNatClampNeg (v3 + 3))) = 0 → wb_Law_law_986 Q K18 I37 L R v3 r45 103 (I37 1000 (Int32.toNatClampNeg (v3 + 1))) (I37 1000 (Int32.toNatClampNeg (v3 + 2))) true))))))
set_option maxRecDepth 20000 in
theorem tb_Law_law_959 {d : Nat}  {Q : Bool → am_TI → am_TL → am_TR → Prop} {K18 : am_TI → am_TL → am_TR → Int32 → Prop}  (hK18 : ∀ (I : am_TI) (L : am_TL) (R : am_TR) (v3 : Int32) (hw : am_Wf R), K18 I L R v3 → am_Wp (d, "UnseenRingLaw", b_Law_law, 4, false) 0 0 18 [some (.ref 1000), some (.ref 0), some (.ref 103), some (.int v3)] [] (I, L, R, am_SH) (po_Law Q)) (hd : 60 ≤ d) (I : am_TI) (L : am_TL) (R : am_TR) (v3 : Int32) (s0 : Nat) (s1 : Int32) (s2 : Int32) (s3 : Bool) (hw : am_Wf R) (hs0 : am_SH[s0]? = some (.inl 11)) (h : wb_Law_law_959 Q K18 I L R v3 s0 s1 s2 s3) : am_Wp (d, "UnseenRingLaw", b_Law_law, 4, false) 0 0 959 [some (.ref 1000), some (.ref 0), some (.ref 103), some (.int v3)] [.int (am_b s3), .int s2, .int s1, .ref s0] (I, L, R, am_SH) (po_Law Q) := by
  unfold wb_Law_law_959 at h
  refine am_callV (kc := 0) (ks := 0) (As := [.int s1, .int s2, .int (am_b s3)]) (n := 962) d_Law_law_959 rfl ce_U_teach lk_Law_112 in_U_teach rfl rfl hs0 rfl rfl (Nat.le_of_ble_eq_true rfl) (Or.inl rfl) (cm_U_teach (d := d - 1) hw (by omega) hs0 h) (by omega) ?_
  rintro _ _ ⟨r45, I37, rfl, rfl, h⟩
  show am_Wp (d, "UnseenRingLaw", b_Law_law, 4, false) 0 0 962 [some (.ref 1000), some (.ref 0), some (.ref 103), some (.int v3)] [.int (am_b r45)] (I37, L, R, am_SH) (po_Law Q)
  refine am_aload_n (n := 963) d_Law_law_962 rfl rfl ?_
  refine am_aload_n (n := 964) d_Law_law_963 rfl rfl ?_
  refine am_iload_n (n := 965) d_Law_law_964 rfl rfl ?_
  refine am_iconst (n := 966) d_Law_law_965 ci_1 rfl ?_
  refine am_iadd (n := 967) d_Law_law_966 rfl ?_
  obtain ⟨w79, g79, h⟩ := h
  refine am_sald (n := 968) d_Law_law_967 rfl g79.1 g79.2.1 g79.2.2 ?_
  refine am_aload_n (n := 969) d_Law_law_968 rfl rfl ?_
  refine am_iload_n (n := 970) d_Law_law_969 rfl rfl ?_
  refine am_iconst (n := 971) d_Law_law_970 ci_2 rfl ?_
  refine am_iadd (n := 972) d_Law_law_971 rfl ?_
  obtain ⟨w80, g80, h⟩ := h
  refine am_sald (n := 973) d_Law_law_972 rfl g80.1 g80.2.1 g80.2.2 ?_
  refine am_aload_n (n := 974) d_Law_law_973 rfl rfl ?_
  refine am_iload_n (n := 975) d_Law_law_974 rfl rfl ?_
  refine am_iconst (n := 976) d_Law_law_975 ci_3 rfl ?_
  refine am_iadd (n := 977) d_Law_law_976 rfl ?_
  obtain ⟨w81, g81, h⟩ := h
  refine am_sald (n := 978) d_Law_law_977 rfl g81.1 g81.2.1 g81.2.2 ?_
  refine am_if_eq (y := 0) (tgt := 985) (n := 981) d_Law_law_978 rfl rfl (fun c48 => ?_) (fun c48 => ?_)
  · have h := h.1 c48
    refine am_iconst (n := 986) d_Law_law_985 ci_0 rfl ?_
    exact tb_Law_law_986 hK18 hd I37 L R v3 r45 103 (I37 1000 (Int32.toNatClampNeg (v3 + 1))) (I37 1000 (Int32.toNatClampNeg (v3 + 2))) false hw rfl h
  · have h := h.2 c48
    refine am_iconst (n := 982) d_Law_law_981 ci_1 rfl ?_
    refine am_goto (tgt := 986) d_Law_law_982 rfl ?_
    exact tb_Law_law_986 hK18 hd I37 L R v3 r45 103 (I37 1000 (Int32.toNatClampNeg (v3 + 1))) (I37 1000 (Int32.toNatClampNeg (v3 + 2))) true hw rfl h
def wl_Law_law_18 (Q : Bool → am_TI → am_TL → am_TR → Prop)  : Nat → am_TI → am_TL → am_TR → Int32 → Prop
  | 0 => fun _ _ _ _ => False
  | f18 + 1 => fun I L R v3 => ((((I 1001 0) - 6) < v3 → Q true I L R) ∧ (¬ ((I 1001 0) - 6) < v3 → (∃ w1, (nI w1 = I 1001 0 ∧ w1 ≤ 3072 ∧ vp_in v3 w1) ∧ ((((I 1000 (Int32.toNatClampNeg v3)) &&& 63) = 0 → wp_U_status I L R 0 (fun (r1 : Int32) => wp_M_status I L R 103 (fun (r2 : Int32) => ((r1 = r2 → wl_Law_law_18 Q f18 I L R (v3 + 6)) ∧ (¬ r1 = r2 → Q false I L R))))) ∧ (((I 1000 (Int32.toNatClampNeg v3)) &&& 63) = 1 → wp_U_top I L R 0 (fun (r3 : Int64) => wp_M_top I L R 103 (fun (r4 : Int64) => ((r3 = r4 → wl_Law_law_18 Q f18 I L R (v3 + 6)) ∧ (¬ r3 = r4 → Q false I L R))))) ∧ (((I 1000 (Int32.toNatClampNeg v3)) &&& 63) = 2 → wp_U_bottom I L R 0 (fun (r5 : Int64) => wp_M_bottom I L R 103 (fun (r6 : Int64) => ((r5 = r6 → wl_Law_law_18 Q f18 I L R (v3 + 6)) ∧ (¬ r5 = r6 → Q false I L R))))) ∧ (((I 1000 (Int32.toNatClampNeg v3)) &&& 63) = 3 → (∃ w2, (nI w2 = I 1001 0 ∧ w2 ≤ 3072 ∧ vp_in (v3 + 1) w2) ∧ (∃ w3, (nI w3 = I 1001 0 ∧ w3 ≤ 3072 ∧ vp_in (v3 + 2) w3) ∧ (∃ w4, (nI w4 = I 1001 0 ∧ w4 ≤ 3072 ∧ vp_in (v3 + 3) w4) ∧ wp_U_tray I L R 0 (I 1000 (Int32.toNatClampNeg (v3 + 1))) (I 1000 (Int32.toNatClampNeg (v3 + 2))) (I 1000 (Int32.toNatClampNeg (v3 + 3))) (fun (r7 : Bool) (I1 : am_TI) (L1 : am_TL) => (∃ w5, (nI w5 = I1 1001 0 ∧ w5 ≤ 3072 ∧ vp_in (v3 + 1) w5) ∧ (∃ w6, (nI w6 = I1 1001 0 ∧ w6 ≤ 3072 ∧ vp_in (v3 + 2) w6) ∧ (∃ w7, (nI w7 = I1 1001 0 ∧ w7 ≤ 3072 ∧ vp_in (v3 + 3) w7) ∧ wp_M_tray I1 L1 R 103 (I1 1000 (Int32.toNatClampNeg (v3 + 1))) (I1 1000 (Int32.toNatClampNeg (v3 + 2))) (I1 1000 (Int32.toNatClampNeg (v3 + 3))) (fun (r8 : Bool) (I2 : am_TI) (L2 : am_TL) => (((am_b r7) = (am_b r8) → wl_Law_law_18 Q f18 I2 L2 R (v3 + 6)) ∧ (¬ (am_b r7) = (am_b r8) → Q false I2 L2 R))))))))))) ∧ (((I 1000 (Int32.toNatClampNeg v3)) &&& 63) = 4 → (∃ w8, (nI w8 = I 1001 0 ∧ w8 ≤ 3072 ∧ vp_in (v3 + 1) w8) ∧ (∃ w9, (nI w9 = I 1001 0 ∧ w9 ≤ 3072 ∧ vp_in (v3 + 2) w9) ∧ (∃ w10, (nI w10 = I 1001 0 ∧ w10 ≤ 3072 ∧ vp_in (v3 + 3) w10) ∧ (∃ w11, (nI w11 = I 1001 0 ∧ w11 ≤ 3072 ∧ vp_in (v3 + 4) w11) ∧ wp_U_write I L R 0 (I 1000 (Int32.toNatClampNeg (v3 + 1))) (I 1000 (Int32.toNatClampNeg (v3 + 2))) (((Int32.toInt64 (I 1000 (Int32.toNatClampNeg (v3 + 3)))) <<< (Int32.toInt64 32 &&& 63)) ||| ((Int32.toInt64 (I 1000 (Int32.toNatClampNeg (v3 + 4)))) &&& 4294967295)) (fun (r9 : Bool) (I3 : am_TI) (L3 : am_TL) => (∃ w12, (nI w12 = I3 1001 0 ∧ w12 ≤ 3072 ∧ vp_in (v3 + 1) w12) ∧ (∃ w13, (nI w13 = I3 1001 0 ∧ w13 ≤ 3072 ∧ vp_in (v3 + 2) w13) ∧ (∃ w14, (nI w14 = I3 1001 0 ∧ w14 ≤ 3072 ∧ vp_in (v3 + 3) w14) ∧ (∃ w15, (nI w15 = I3 1001 0 ∧ w15 ≤ 3072 ∧ vp_in (v3 + 4) w15) ∧ wp_M_write I3 L3 R 103 (I3 1000 (Int32.toNatClampNeg (v3 + 1))) (I3 1000 (Int32.toNatClampNeg (v3 + 2))) (((Int32.toInt64 (I3 1000 (Int32.toNatClampNeg (v3 + 3)))) <<< (Int32.toInt64 32 &&& 63)) ||| ((Int32.toInt64 (I3 1000 (Int32.toNatClampNeg (v3 + 4)))) &&& 4294967295)) (fun (r10 : Bool) (I4 : am_TI) (L4 : am_TL) => (((am_b r9) = (am_b r10) → wl_Law_law_18 Q f18 I4 L4 R (v3 + 6)) ∧ (¬ (am_b r9) = (am_b r10) → Q false I4 L4 R))))))))))))) ∧ (((I 1000 (Int32.toNatClampNeg v3)) &&& 63) = 5 → (∃ w16, (nI w16 = I 1001 0 ∧ w16 ≤ 3072 ∧ vp_in (v3 + 1) w16) ∧ (∃ w17, (nI w17 = I 1001 0 ∧ w17 ≤ 3072 ∧ vp_in (v3 + 2) w17) ∧ wp_U_read I L R 0 (I 1000 (Int32.toNatClampNeg (v3 + 1))) (I 1000 (Int32.toNatClampNeg (v3 + 2))) (fun (r11 : Int64) (I5 : am_TI) => (∃ w18, (nI w18 = I5 1001 0 ∧ w18 ≤ 3072 ∧ vp_in (v3 + 1) w18) ∧ (∃ w19, (nI w19 = I5 1001 0 ∧ w19 ≤ 3072 ∧ vp_in (v3 + 2) w19) ∧ wp_M_read I5 L R 103 (I5 1000 (Int32.toNatClampNeg (v3 + 1))) (I5 1000 (Int32.toNatClampNeg (v3 + 2))) (fun (r12 : Int64) (I6 : am_TI) => ((r11 = r12 → wl_Law_law_18 Q f18 I6 L R (v3 + 6)) ∧ (¬ r11 = r12 → Q false I6 L R))))))))) ∧ (((I 1000 (Int32.toNatClampNeg v3)) &&& 63) = 6 → (∃ w20, (nI w20 = I 1001 0 ∧ w20 ≤ 3072 ∧ vp_in (v3 + 1) w20) ∧ (∃ w21, (nI w21 = I 1001 0 ∧ w21 ≤ 3072 ∧ vp_in (v3 + 2) w21) ∧ (∃ w22, (nI w22 = I 1001 0 ∧ w22 ≤ 3072 ∧ vp_in (v3 + 3) w22) ∧ (∃ w23, (nI w23 = I 1001 0 ∧ w23 ≤ 3072 ∧ vp_in (v3 + 4) w23) ∧ (∃ w24, (nI w24 = I 1001 0 ∧ w24 ≤ 3072 ∧ vp_in (v3 + 5) w24) ∧ wp_U_pour I L R 0 (I 1000 (Int32.toNatClampNeg (v3 + 1))) (I 1000 (Int32.toNatClampNeg (v3 + 2))) (I 1000 (Int32.toNatClampNeg (v3 + 3))) (I 1000 (Int32.toNatClampNeg (v3 + 4))) (I 1000 (Int32.toNatClampNeg (v3 + 5))) (fun (r13 : Bool) (I7 : am_TI) (L5 : am_TL) => (∃ w25, (nI w25 = I7 1001 0 ∧ w25 ≤ 3072 ∧ vp_in (v3 + 1) w25) ∧ (∃ w26, (nI w26 = I7 1001 0 ∧ w26 ≤ 3072 ∧ vp_in (v3 + 2) w26) ∧ (∃ w27, (nI w27 = I7 1001 0 ∧ w27 ≤ 3072 ∧ vp_in (v3 + 3) w27) ∧ (∃ w28, (nI w28 = I7 1001 0 ∧ w28 ≤ 3072 ∧ vp_in (v3 + 4) w28) ∧ (∃ w29, (nI w29 = I7 1001 0 ∧ w29 ≤ 3072 ∧ vp_in (v3 + 5) w29) ∧ wp_M_pour I7 L5 R 103 (I7 1000 (Int32.toNatClampNeg (v3 + 1))) (I7 1000 (Int32.toNatClampNeg (v3 + 2))) (I7 1000 (Int32.toNatClampNeg (v3 + 3))) (I7 1000 (Int32.toNatClampNeg (v3 + 4))) (I7 1000 (Int32.toNatClampNeg (v3 + 5))) (fun (r14 : Bool) (I8 : am_TI) (L6 : am_TL) => (((am_b r13) = (am_b r14) → wl_Law_law_18 Q f18 I8 L6 R (v3 + 6)) ∧ (¬ (am_b r13) = (am_b r14) → Q false I8 L6 R))))))))))))))) ∧ (((I 1000 (Int32.toNatClampNeg v3)) &&& 63) = 7 → (∃ w30, (nI w30 = I 1001 0 ∧ w30 ≤ 3072 ∧ vp_in (v3 + 1) w30) ∧ (∃ w31, (nI w31 = I 1001 0 ∧ w31 ≤ 3072 ∧ vp_in (v3 + 2) w31) ∧ (∃ w32, (nI w32 = I 1001 0 ∧ w32 ≤ 3072 ∧ vp_in (v3 + 3) w32) ∧ (∃ w33, (nI w33 = I 1001 0 ∧ w33 ≤ 3072 ∧ vp_in (v3 + 4) w33) ∧ (∃ w34, (nI w34 = I 1001 0 ∧ w34 ≤ 3072 ∧ vp_in (v3 + 5) w34) ∧ wp_U_feed I L R 0 (I 1000 (Int32.toNatClampNeg (v3 + 1))) (I 1000 (Int32.toNatClampNeg (v3 + 2))) (I 1000 (Int32.toNatClampNeg (v3 + 3))) (I 1000 (Int32.toNatClampNeg (v3 + 4))) (I 1000 (Int32.toNatClampNeg (v3 + 5))) (fun (r15 : Int32) (I9 : am_TI) => (∃ w35, (nI w35 = I9 1001 0 ∧ w35 ≤ 3072 ∧ vp_in (v3 + 1) w35) ∧ (∃ w36, (nI w36 = I9 1001 0 ∧ w36 ≤ 3072 ∧ vp_in (v3 + 2) w36) ∧ (∃ w37, (nI w37 = I9 1001 0 ∧ w37 ≤ 3072 ∧ vp_in (v3 + 3) w37) ∧ (∃ w38, (nI w38 = I9 1001 0 ∧ w38 ≤ 3072 ∧ vp_in (v3 + 4) w38) ∧ (∃ w39, (nI w39 = I9 1001 0 ∧ w39 ≤ 3072 ∧ vp_in (v3 + 5) w39) ∧ wp_M_feed I9 L R 103 (I9 1000 (Int32.toNatClampNeg (v3 + 1))) (I9 1000 (Int32.toNatClampNeg (v3 + 2))) (I9 1000 (Int32.toNatClampNeg (v3 + 3))) (I9 1000 (Int32.toNatClampNeg (v3 + 4))) (I9 1000 (Int32.toNatClampNeg (v3 + 5))) (fun (r16 : Int32) (I10 : am_TI) => ((r15 = r16 → wl_Law_law_18 Q f18 I10 L R (v3 + 6)) ∧ (¬ r15 = r16 → Q false I10 L R))))))))))))))) ∧ (((I 1000 (Int32.toNatClampNeg v3)) &&& 63) = 8 → (∃ w40, (nI w40 = I 1001 0 ∧ w40 ≤ 3072 ∧ vp_in (v3 + 1) w40) ∧ wp_U_square I L R 0 (I 1000 (Int32.toNatClampNeg (v3 + 1))) (fun (r17 : Int32) (I11 : am_TI) (L7 : am_TL) (R1 : am_TR) => (∃ w41, (nI w41 = I11 1001 0 ∧ w41 ≤ 3072 ∧ vp_in (v3 + 1) w41) ∧ wp_M_square I11 L7 R1 103 (I11 1000 (Int32.toNatClampNeg (v3 + 1))) (fun (r18 : Int32) (I12 : am_TI) (L8 : am_TL) => ((r17 = r18 → wl_Law_law_18 Q f18 I12 L8 R1 (v3 + 6)) ∧ (¬ r17 = r18 → Q false I12 L8 R1))))))) ∧ (((I 1000 (Int32.toNatClampNeg v3)) &&& 63) = 9 → (∃ w42, (nI w42 = I 1001 0 ∧ w42 ≤ 3072 ∧ vp_in (v3 + 1) w42) ∧ wp_U_days I L R 0 (I 1000 (Int32.toNatClampNeg (v3 + 1))) (fun (r19 : Int32) (I13 : am_TI) (L9 : am_TL) (R2 : am_TR) => (∃ w43, (nI w43 = I13 1001 0 ∧ w43 ≤ 3072 ∧ vp_in (v3 + 1) w43) ∧ wp_M_days I13 L9 R2 103 (I13 1000 (Int32.toNatClampNeg (v3 + 1))) (fun (r20 : Int32) (I14 : am_TI) => ((r19 = r20 → wl_Law_law_18 Q f18 I14 L9 R2 (v3 + 6)) ∧ (¬ r19 = r20 → Q false I14 L9 R2))))))) ∧ (((I 1000 (Int32.toNatClampNeg v3)) &&& 63) = 10 → (∃ w44, (nI w44 = I 1001 0 ∧ w44 ≤ 3072 ∧ vp_in (v3 + 1) w44) ∧ wp_U_fault I L R 0 (I 1000 (Int32.toNatClampNeg (v3 + 1))) (fun (r21 : Int32) => (∃ w45, (nI w45 = I 1001 0 ∧ w45 ≤ 3072 ∧ vp_in (v3 + 1) w45) ∧ wp_M_fault I L R 103 (I 1000 (Int32.toNatClampNeg (v3 + 1))) (fun (r22 : Int32) => ((r21 = r22 → wl_Law_law_18 Q f18 I L R (v3 + 6)) ∧ (¬ r21 = r22 → Q false I L R))))))) ∧ (((I 1000 (Int32.toNatClampNeg v3)) &&& 63) = 11 → (∃ w46, (nI w46 = I 1001 0 ∧ w46 ≤ 3072 ∧ vp_in (v3 + 1) w46) ∧ wp_U_told I L R 0 (I 1000 (Int32.toNatClampNeg (v3 + 1))) (fun (r23 : Int32) (I15 : am_TI) => (∃ w47, (nI w47 = I15 1001 0 ∧ w47 ≤ 3072 ∧ vp_in (v3 + 1) w47) ∧ wp_M_told I15 L R 103 (I15 1000 (Int32.toNatClampNeg (v3 + 1))) (fun (r24 : Int32) (I16 : am_TI) => ((r23 = r24 → wl_Law_law_18 Q f18 I16 L R (v3 + 6)) ∧ (¬ r23 = r24 → Q false I16 L R))))))) ∧ (((I 1000 (Int32.toNatClampNeg v3)) &&& 63) = 12 → (∃ w48, (nI w48 = I 1001 0 ∧ w48 ≤ 3072 ∧ vp_in (v3 + 1) w48) ∧ (∃ w49, (nI w49 = I 1001 0 ∧ w49 ≤ 3072 ∧ vp_in (v3 + 2) w49) ∧ wp_U_hearer I L R 0 (I 1000 (Int32.toNatClampNeg (v3 + 1))) (I 1000 (Int32.toNatClampNeg (v3 + 2))) (fun (r25 : Int32) (I17 : am_TI) => (∃ w50, (nI w50 = I17 1001 0 ∧ w50 ≤ 3072 ∧ vp_in (v3 + 1) w50) ∧ (∃ w51, (nI w51 = I17 1001 0 ∧ w51 ≤ 3072 ∧ vp_in (v3 + 2) w51) ∧ wp_M_hearer I17 L R 103 (I17 1000 (Int32.toNatClampNeg (v3 + 1))) (I17 1000 (Int32.toNatClampNeg (v3 + 2))) (fun (r26 : Int32) (I18 : am_TI) => ((r25 = r26 → wl_Law_law_18 Q f18 I18 L R (v3 + 6)) ∧ (¬ r25 = r26 → Q false I18 L R))))))))) ∧ (((I 1000 (Int32.toNatClampNeg v3)) &&& 63) = 13 → (∃ w52, (nI w52 = I 1001 0 ∧ w52 ≤ 3072 ∧ vp_in (v3 + 1) w52) ∧ (∃ w53, (nI w53 = I 1001 0 ∧ w53 ≤ 3072 ∧ vp_in (v3 + 2) w53) ∧ wp_U_dog I L R 0 (I 1000 (Int32.toNatClampNeg (v3 + 1))) (I 1000 (Int32.toNatClampNeg (v3 + 2))) (fun (r27 : Int32) (I19 : am_TI) => (∃ w54, (nI w54 = I19 1001 0 ∧ w54 ≤ 3072 ∧ vp_in (v3 + 1) w54) ∧ (∃ w55, (nI w55 = I19 1001 0 ∧ w55 ≤ 3072 ∧ vp_in (v3 + 2) w55) ∧ wp_M_dog I19 L R 103 (I19 1000 (Int32.toNatClampNeg (v3 + 1))) (I19 1000 (Int32.toNatClampNeg (v3 + 2))) (fun (r28 : Int32) (I20 : am_TI) => ((r27 = r28 → wl_Law_law_18 Q f18 I20 L R (v3 + 6)) ∧ (¬ r27 = r28 → Q false I20 L R))))))))) ∧ (((I 1000 (Int32.toNatClampNeg v3)) &&& 63) = 14 → (∃ w56, (nI w56 = I 1001 0 ∧ w56 ≤ 3072 ∧ vp_in (v3 + 1) w56) ∧ (∃ w57, (nI w57 = I 1001 0 ∧ w57 ≤ 3072 ∧ vp_in (v3 + 2) w57) ∧ wp_U_cell I L R 0 (I 1000 (Int32.toNatClampNeg (v3 + 1))) (I 1000 (Int32.toNatClampNeg (v3 + 2))) (fun (r29 : Int32) (I21 : am_TI) => (∃ w58, (nI w58 = I21 1001 0 ∧ w58 ≤ 3072 ∧ vp_in (v3 + 1) w58) ∧ (∃ w59, (nI w59 = I21 1001 0 ∧ w59 ≤ 3072 ∧ vp_in (v3 + 2) w59) ∧ wp_M_cell I21 L R 103 (I21 1000 (Int32.toNatClampNeg (v3 + 1))) (I21 1000 (Int32.toNatClampNeg (v3 + 2))) (fun (r30 : Int32) (I22 : am_TI) => ((r29 = r30 → wl_Law_law_18 Q f18 I22 L R (v3 + 6)) ∧ (¬ r29 = r30 → Q false I22 L R))))))))) ∧ (((I 1000 (Int32.toNatClampNeg v3)) &&& 63) = 15 → (∃ w60, (nI w60 = I 1001 0 ∧ w60 ≤ 3072 ∧ vp_in (v3 + 1) w60) ∧ wp_U_likers I L R 0 (I 1000 (Int32.toNatClampNeg (v3 + 1))) (fun (r31 : Int32) (I23 : am_TI) => (∃ w61, (nI w61 = I23 1001 0 ∧ w61 ≤ 3072 ∧ vp_in (v3 + 1) w61) ∧ wp_M_likers I23 L R 103 (I23 1000 (Int32.toNatClampNeg (v3 + 1))) (fun (r32 : Int32) (I24 : am_TI) => ((r31 = r32 → wl_Law_law_18 Q f18 I24 L R (v3 + 6)) ∧ (¬ r31 = r32 → Q false I24 L R))))))) ∧ (((I 1000 (Int32.toNatClampNeg v3)) &&& 63) = 16 → (∃ w62, (nI w62 = I 1001 0 ∧ w62 ≤ 3072 ∧ vp_in (v3 + 1) w62) ∧ wp_U_play I L R 0 (I 1000 (Int32.toNatClampNeg (v3 + 1))) (fun (r33 : Int32) (I25 : am_TI) => (∃ w63, (nI w63 = I25 1001 0 ∧ w63 ≤ 3072 ∧ vp_in (v3 + 1) w63) ∧ wp_M_play I25 L R 103 (I25 1000 (Int32.toNatClampNeg (v3 + 1))) (fun (r34 : Int32) (I26 : am_TI) => ((r33 = r34 → wl_Law_law_18 Q f18 I26 L R (v3 + 6)) ∧ (¬ r33 = r34 → Q false I26 L R))))))) ∧ (((I 1000 (Int32.toNatClampNeg v3)) &&& 63) = 17 → (∃ w64, (nI w64 = I 1001 0 ∧ w64 ≤ 3072 ∧ vp_in (v3 + 1) w64) ∧ wp_U_grind I L R 0 (I 1000 (Int32.toNatClampNeg (v3 + 1))) (fun (r35 : Int32) (I27 : am_TI) => (∃ w65, (nI w65 = I27 1001 0 ∧ w65 ≤ 3072 ∧ vp_in (v3 + 1) w65) ∧ wp_M_grind I27 L R 103 (I27 1000 (Int32.toNatClampNeg (v3 + 1))) (fun (r36 : Int32) (I28 : am_TI) => ((r35 = r36 → wl_Law_law_18 Q f18 I28 L R (v3 + 6)) ∧ (¬ r35 = r36 → Q false I28 L R))))))) ∧ (((I 1000 (Int32.toNatClampNeg v3)) &&& 63) = 18 → (∃ w66, (nI w66 = I 1001 0 ∧ w66 ≤ 3072 ∧ vp_in (v3 + 1) w66) ∧ wp_U_throwAt I L R 0 (I 1000 (Int32.toNatClampNeg (v3 + 1))) (fun (r37 : Int32) (I29 : am_TI) => (∃ w67, (nI w67 = I29 1001 0 ∧ w67 ≤ 3072 ∧ vp_in (v3 + 1) w67) ∧ wp_M_throwAt I29 L R 103 (I29 1000 (Int32.toNatClampNeg (v3 + 1))) (fun (r38 : Int32) (I30 : am_TI) => ((r37 = r38 → wl_Law_law_18 Q f18 I30 L R (v3 + 6)) ∧ (¬ r37 = r38 → Q false I30 L R))))))) ∧ (((I 1000 (Int32.toNatClampNeg v3)) &&& 63) = 19 → wp_U_brush I L R 0 (fun (r39 : Int32) (I31 : am_TI) => wp_M_brush I31 L R 103 (fun (r40 : Int32) (I32 : am_TI) => ((r39 = r40 → wl_Law_law_18 Q f18 I32 L R (v3 + 6)) ∧ (¬ r39 = r40 → Q false I32 L R))))) ∧ (((I 1000 (Int32.toNatClampNeg v3)) &&& 63) = 20 → (∃ w68, (nI w68 = I 1001 0 ∧ w68 ≤ 3072 ∧ vp_in (v3 + 1) w68) ∧ (∃ w69, (nI w69 = I 1001 0 ∧ w69 ≤ 3072 ∧ vp_in (v3 + 2) w69) ∧ wp_U_send I L R 0 (I 1000 (Int32.toNatClampNeg (v3 + 1))) (I 1000 (Int32.toNatClampNeg (v3 + 2))) (fun (r41 : Int32) (I33 : am_TI) => (∃ w70, (nI w70 = I33 1001 0 ∧ w70 ≤ 3072 ∧ vp_in (v3 + 1) w70) ∧ (∃ w71, (nI w71 = I33 1001 0 ∧ w71 ≤ 3072 ∧ vp_in (v3 + 2) w71) ∧ wp_M_send I33 L R 103 (I33 1000 (Int32.toNatClampNeg (v3 + 1))) (I33 1000 (Int32.toNatClampNeg (v3 + 2))) (fun (r42 : Int32) (I34 : am_TI) => ((r41 = r42 → wl_Law_law_18 Q f18 I34 L R (v3 + 6)) ∧ (¬ r41 = r42 → Q false I34 L R))))))))) ∧ (((I 1000 (Int32.toNatClampNeg v3)) &&& 63) = 21 → (∃ w72, (nI w72 = I 1001 0 ∧ w72 ≤ 3072 ∧ vp_in (v3 + 1) w72) ∧ (∃ w73, (nI w73 = I 1001 0 ∧ w73 ≤ 3072 ∧ vp_in (v3 + 2) w73) ∧ wp_U_give I L R 0 (I 1000 (Int32.toNatClampNeg (v3 + 1))) (I 1000 (Int32.toNatClampNeg (v3 + 2))) (fun (r43 : Int32) (I35 : am_TI) => (∃ w74, (nI w74 = I35 1001 0 ∧ w74 ≤ 3072 ∧ vp_in (v3 + 1) w74) ∧ (∃ w75, (nI w75 = I35 1001 0 ∧ w75 ≤ 3072 ∧ vp_in (v3 + 2) w75) ∧ wp_M_give I35 L R 103 (I35 1000 (Int32.toNatClampNeg (v3 + 1))) (I35 1000 (Int32.toNatClampNeg (v3 + 2))) (fun (r44 : Int32) (I36 : am_TI) => ((r43 = r44 → wl_Law_law_18 Q f18 I36 L R (v3 + 6)) ∧ (¬ r43 = r44 → Q false I36 L R))))))))) ∧ (((I 1000 (Int32.toNatClampNeg v3)) &&& 63) = 22 → (∃ w76, (nI w76 = I 1001 0 ∧ w76 ≤ 3072 ∧ vp_in (v3 + 1) w76) ∧ (∃ w77, (nI w77 = I 1001 0 ∧ w77 ≤ 3072 ∧ vp_in (v3 + 2) w77) ∧ (∃ w78, (nI w78 = I 1001 0 ∧ w78 ≤ 3072 ∧ vp_in (v3 + 3) w78) ∧ (((I 1000 (Int32.toNatClampNeg (v3 + 3))) = 0 → wb_Law_law_959 Q (wl_Law_law_18 Q f18) I L R v3 0 (I 1000 (Int32.toNatClampNeg (v3 + 1))) (I 1000 (Int32.toNatClampNeg (v3 + 2))) false) ∧ (¬ (I 1000 (Int32.toNatClampNeg (v3 + 3))) = 0 → wb_Law_law_959 Q (wl_Law_law_18 Q f18) I L R v3 0 (I 1000 (Int32.toNatClampNeg (v3 + 1))) (I 1000 (Int32.toNatClampNeg (v3 + 2))) true)))))) ∧ (((I 1000 (Int32.toNatClampNeg v3)) &&& 63) = 23 → (∃ w82, (nI w82 = I 1001 0 ∧ w82 ≤ 3072 ∧ vp_in (v3 + 1) w82) ∧ wp_U_come I L R 0 (I 1000 (Int32.toNatClampNeg (v3 + 1))) (fun (r47 : Int32) (I39 : am_TI) => (∃ w83, (nI w83 = I39 1001 0 ∧ w83 ≤ 3072 ∧ vp_in (v3 + 1) w83) ∧ wp_M_come I39 L R 103 (I39 1000 (Int32.toNatClampNeg (v3 + 1))) (fun (r48 : Int32) (I40 : am_TI) => ((r47 = r48 → wl_Law_law_18 Q f18 I40 L R (v3 + 6)) ∧ (¬ r47 = r48 → Q false I40 L R))))))) ∧ (((I 1000 (Int32.toNatClampNeg v3)) &&& 63) = 24 → wp_U_empty I L R 0 (fun (r49 : Int32) (I41 : am_TI) => wp_M_empty I41 L R 103 (fun (r50 : Int32) (I42 : am_TI) => ((r49 = r50 → wl_Law_law_18 Q f18 I42 L R (v3 + 6)) ∧ (¬ r49 = r50 → Q false I42 L R))))) ∧ (((I 1000 (Int32.toNatClampNeg v3)) &&& 63) = 25 → (∃ w84, (nI w84 = I 1001 0 ∧ w84 ≤ 3072 ∧ vp_in (v3 + 1) w84) ∧ wp_U_rule I L R 0 (I 1000 (Int32.toNatClampNeg (v3 + 1))) (fun (r51 : Bool) (I43 : am_TI) => (∃ w85, (nI w85 = I43 1001 0 ∧ w85 ≤ 3072 ∧ vp_in (v3 + 1) w85) ∧ wp_M_rule I43 L R 103 (I43 1000 (Int32.toNatClampNeg (v3 + 1))) (fun (r52 : Bool) (I44 : am_TI) => (((am_b r51) = (am_b r52) → wl_Law_law_18 Q f18 I44 L R (v3 + 6)) ∧ (¬ (am_b r51) = (am_b r52) → Q false I44 L R))))))) ∧ (((I 1000 (Int32.toNatClampNeg v3)) &&& 63) = 26 → (∃ w86, (nI w86 = I 1001 0 ∧ w86 ≤ 3072 ∧ vp_in (v3 + 1) w86) ∧ (∃ w87, (nI w87 = I 1001 0 ∧ w87 ≤ 3072 ∧ vp_in (v3 + 2) w87) ∧ wp_U_takings I L R 0 (I 1000 (Int32.toNatClampNeg (v3 + 1))) (I 1000 (Int32.toNatClampNeg (v3 + 2))) (fun (r53 : Int32) (I45 : am_TI) => (∃ w88, (nI w88 = I45 1001 0 ∧ w88 ≤ 3072 ∧ vp_in (v3 + 1) w88) ∧ (∃ w89, (nI w89 = I45 1001 0 ∧ w89 ≤ 3072 ∧ vp_in (v3 + 2) w89) ∧ wp_M_takings I45 L R 103 (I45 1000 (Int32.toNatClampNeg (v3 + 1))) (I45 1000 (Int32.toNatClampNeg (v3 + 2))) (fun (r54 : Int32) (I46 : am_TI) => ((r53 = r54 → wl_Law_law_18 Q f18 I46 L R (v3 + 6)) ∧ (¬ r53 = r54 → Q false I46 L R))))))))) ∧ (((I 1000 (Int32.toNatClampNeg v3)) &&& 63) = 27 → (∃ w90, (nI w90 = I 1001 0 ∧ w90 ≤ 3072 ∧ vp_in (v3 + 1) w90) ∧ (∃ w91, (nI w91 = I 1001 0 ∧ w91 ≤ 3072 ∧ vp_in (v3 + 2) w91) ∧ (∃ w92, (nI w92 = I 1001 0 ∧ w92 ≤ 3072 ∧ vp_in (v3 + 3) w92) ∧ wp_U_pitch I L R 0 (I 1000 (Int32.toNatClampNeg (v3 + 1))) (I 1000 (Int32.toNatClampNeg (v3 + 2))) (I 1000 (Int32.toNatClampNeg (v3 + 3))) (fun (r55 : Int32) (I47 : am_TI) => (∃ w93, (nI w93 = I47 1001 0 ∧ w93 ≤ 3072 ∧ vp_in (v3 + 1) w93) ∧ (∃ w94, (nI w94 = I47 1001 0 ∧ w94 ≤ 3072 ∧ vp_in (v3 + 2) w94) ∧ (∃ w95, (nI w95 = I47 1001 0 ∧ w95 ≤ 3072 ∧ vp_in (v3 + 3) w95) ∧ wp_M_pitch I47 L R 103 (I47 1000 (Int32.toNatClampNeg (v3 + 1))) (I47 1000 (Int32.toNatClampNeg (v3 + 2))) (I47 1000 (Int32.toNatClampNeg (v3 + 3))) (fun (r56 : Int32) (I48 : am_TI) => ((r55 = r56 → wl_Law_law_18 Q f18 I48 L R (v3 + 6)) ∧ (¬ r55 = r56 → Q false I48 L R))))))))))) ∧ (((I 1000 (Int32.toNatClampNeg v3)) &&& 63) = 28 → (∃ w96, (nI w96 = I 1001 0 ∧ w96 ≤ 3072 ∧ vp_in (v3 + 1) w96) ∧ (∃ w97, (nI w97 = I 1001 0 ∧ w97 ≤ 3072 ∧ vp_in (v3 + 2) w97) ∧ wp_U_bestPitch I L R 0 (I 1000 (Int32.toNatClampNeg (v3 + 1))) (I 1000 (Int32.toNatClampNeg (v3 + 2))) (fun (r57 : Int32) (I49 : am_TI) => (∃ w98, (nI w98 = I49 1001 0 ∧ w98 ≤ 3072 ∧ vp_in (v3 + 1) w98) ∧ (∃ w99, (nI w99 = I49 1001 0 ∧ w99 ≤ 3072 ∧ vp_in (v3 + 2) w99) ∧ wp_M_bestPitch I49 L R 103 (I49 1000 (Int32.toNatClampNeg (v3 + 1))) (I49 1000 (Int32.toNatClampNeg (v3 + 2))) (fun (r58 : Int32) (I50 : am_TI) => ((r57 = r58 → wl_Law_law_18 Q f18 I50 L R (v3 + 6)) ∧ (¬ r57 = r58 → Q false I50 L R))))))))) ∧ (((I 1000 (Int32.toNatClampNeg v3)) &&& 63) = 29 → (∃ w100, (nI w100 = I 1001 0 ∧ w100 ≤ 3072 ∧ vp_in (v3 + 1) w100) ∧ wp_U_soon I L R 0 (I 1000 (Int32.toNatClampNeg (v3 + 1))) (fun (r59 : Int32) (I51 : am_TI) => (∃ w101, (nI w101 = I51 1001 0 ∧ w101 ≤ 3072 ∧ vp_in (v3 + 1) w101) ∧ wp_M_soon I51 L R 103 (I51 1000 (Int32.toNatClampNeg (v3 + 1))) (fun (r60 : Int32) (I52 : am_TI) => ((r59 = r60 → wl_Law_law_18 Q f18 I52 L R (v3 + 6)) ∧ (¬ r59 = r60 → Q false I52 L R))))))) ∧ (((I 1000 (Int32.toNatClampNeg v3)) &&& 63) = 30 → (∃ w102, (nI w102 = I 1001 0 ∧ w102 ≤ 3072 ∧ vp_in (v3 + 1) w102) ∧ wp_U_gather I L R 0 (I 1000 (Int32.toNatClampNeg (v3 + 1))) (fun (r61 : Int32) (I53 : am_TI) => (∃ w103, (nI w103 = I53 1001 0 ∧ w103 ≤ 3072 ∧ vp_in (v3 + 1) w103) ∧ wp_M_gather I53 L R 103 (I53 1000 (Int32.toNatClampNeg (v3 + 1))) (fun (r62 : Int32) (I54 : am_TI) => ((r61 = r62 → wl_Law_law_18 Q f18 I54 L R (v3 + 6)) ∧ (¬ r61 = r62 → Q false I54 L R))))))) ∧ (((I 1000 (Int32.toNatClampNeg v3)) &&& 63) = 31 → (∃ w104, (nI w104 = I 1001 0 ∧ w104 ≤ 3072 ∧ vp_in (v3 + 1) w104) ∧ (∃ w105, (nI w105 = I 1001 0 ∧ w105 ≤ 3072 ∧ vp_in (v3 + 2) w105) ∧ wp_U_gatherAt I L R 0 (I 1000 (Int32.toNatClampNeg (v3 + 1))) (I 1000 (Int32.toNatClampNeg (v3 + 2))) (fun (r63 : Int32) (I55 : am_TI) => (∃ w106, (nI w106 = I55 1001 0 ∧ w106 ≤ 3072 ∧ vp_in (v3 + 1) w106) ∧ (∃ w107, (nI w107 = I55 1001 0 ∧ w107 ≤ 3072 ∧ vp_in (v3 + 2) w107) ∧ wp_M_gatherAt I55 L R 103 (I55 1000 (Int32.toNatClampNeg (v3 + 1))) (I55 1000 (Int32.toNatClampNeg (v3 + 2))) (fun (r64 : Int32) (I56 : am_TI) => ((r63 = r64 → wl_Law_law_18 Q f18 I56 L R (v3 + 6)) ∧ (¬ r63 = r64 → Q false I56 L R))))))))) ∧ (((I 1000 (Int32.toNatClampNeg v3)) &&& 63) = 32 → (∃ w108, (nI w108 = I 1001 0 ∧ w108 ≤ 3072 ∧ vp_in (v3 + 1) w108) ∧ wp_U_explain I L R 0 (I 1000 (Int32.toNatClampNeg (v3 + 1))) (fun (r65 : Int32) (I57 : am_TI) => (∃ w109, (nI w109 = I57 1001 0 ∧ w109 ≤ 3072 ∧ vp_in (v3 + 1) w109) ∧ wp_M_explain I57 L R 103 (I57 1000 (Int32.toNatClampNeg (v3 + 1))) (fun (r66 : Int32) (I58 : am_TI) => ((r65 = r66 → wl_Law_law_18 Q f18 I58 L R (v3 + 6)) ∧ (¬ r65 = r66 → Q false I58 L R))))))) ∧ (((I 1000 (Int32.toNatClampNeg v3)) &&& 63) = 33 → (∃ w110, (nI w110 = I 1001 0 ∧ w110 ≤ 3072 ∧ vp_in (v3 + 1) w110) ∧ (∃ w111, (nI w111 = I 1001 0 ∧ w111 ≤ 3072 ∧ vp_in (v3 + 2) w111) ∧ wp_U_placings I L R 0 (I 1000 (Int32.toNatClampNeg (v3 + 1))) (I 1000 (Int32.toNatClampNeg (v3 + 2))) (fun (r67 : Int32) (I59 : am_TI) => (∃ w112, (nI w112 = I59 1001 0 ∧ w112 ≤ 3072 ∧ vp_in (v3 + 1) w112) ∧ (∃ w113, (nI w113 = I59 1001 0 ∧ w113 ≤ 3072 ∧ vp_in (v3 + 2) w113) ∧ wp_M_placings I59 L R 103 (I59 1000 (Int32.toNatClampNeg (v3 + 1))) (I59 1000 (Int32.toNatClampNeg (v3 + 2))) (fun (r68 : Int32) (I60 : am_TI) => ((r67 = r68 → wl_Law_law_18 Q f18 I60 L R (v3 + 6)) ∧ (¬ r67 = r68 → Q false I60 L R))))))))) ∧ (((I 1000 (Int32.toNatClampNeg v3)) &&& 63) = 34 → (∃ w114, (nI w114 = I 1001 0 ∧ w114 ≤ 3072 ∧ vp_in (v3 + 1) w114) ∧ (∃ w115, (nI w115 = I 1001 0 ∧ w115 ≤ 3072 ∧ vp_in (v3 + 2) w115) ∧ (∃ w116, (nI w116 = I 1001 0 ∧ w116 ≤ 3072 ∧ vp_in (v3 + 3) w116) ∧ wp_U_oddsThat I L R 0 (I 1000 (Int32.toNatClampNeg (v3 + 1))) (I 1000 (Int32.toNatClampNeg (v3 + 2))) (I 1000 (Int32.toNatClampNeg (v3 + 3))) (fun (r69 : Bool) (I61 : am_TI) (L10 : am_TL) => (∃ w117, (nI w117 = I61 1001 0 ∧ w117 ≤ 3072 ∧ vp_in (v3 + 1) w117) ∧ (∃ w118, (nI w118 = I61 1001 0 ∧ w118 ≤ 3072 ∧ vp_in (v3 + 2) w118) ∧ (∃ w119, (nI w119 = I61 1001 0 ∧ w119 ≤ 3072 ∧ vp_in (v3 + 3) w119) ∧ wp_M_oddsThat I61 L10 R 103 (I61 1000 (Int32.toNatClampNeg (v3 + 1))) (I61 1000 (Int32.toNatClampNeg (v3 + 2))) (I61 1000 (Int32.toNatClampNeg (v3 + 3))) (fun (r70 : Bool) (I62 : am_TI) (L11 : am_TL) => (((am_b r69) = (am_b r70) → wl_Law_law_18 Q f18 I62 L11 R (v3 + 6)) ∧ (¬ (am_b r69) = (am_b r70) → Q false I62 L11 R))))))))))) ∧ (((I 1000 (Int32.toNatClampNeg v3)) &&& 63) = 35 → (∃ w120, (nI w120 = I 1001 0 ∧ w120 ≤ 3072 ∧ vp_in (v3 + 1) w120) ∧ (∃ w121, (nI w121 = I 1001 0 ∧ w121 ≤ 3072 ∧ vp_in (v3 + 2) w121) ∧ wp_U_aim I L R 0 (I 1000 (Int32.toNatClampNeg (v3 + 1))) (I 1000 (Int32.toNatClampNeg (v3 + 2))) (fun (r71 : Int32) (I63 : am_TI) => (∃ w122, (nI w122 = I63 1001 0 ∧ w122 ≤ 3072 ∧ vp_in (v3 + 1) w122) ∧ (∃ w123, (nI w123 = I63 1001 0 ∧ w123 ≤ 3072 ∧ vp_in (v3 + 2) w123) ∧ wp_M_aim I63 L R 103 (I63 1000 (Int32.toNatClampNeg (v3 + 1))) (I63 1000 (Int32.toNatClampNeg (v3 + 2))) (fun (r72 : Int32) (I64 : am_TI) => ((r71 = r72 → wl_Law_law_18 Q f18 I64 L R (v3 + 6)) ∧ (¬ r71 = r72 → Q false I64 L R))))))))) ∧ (((I 1000 (Int32.toNatClampNeg v3)) &&& 63) = 36 → (∃ w124, (nI w124 = I 1001 0 ∧ w124 ≤ 3072 ∧ vp_in (v3 + 1) w124) ∧ (∃ w125, (nI w125 = I 1001 0 ∧ w125 ≤ 3072 ∧ vp_in (v3 + 2) w125) ∧ wp_U_cover I L R 0 (I 1000 (Int32.toNatClampNeg (v3 + 1))) (I 1000 (Int32.toNatClampNeg (v3 + 2))) (fun (r73 : Int32) (I65 : am_TI) => (∃ w126, (nI w126 = I65 1001 0 ∧ w126 ≤ 3072 ∧ vp_in (v3 + 1) w126) ∧ (∃ w127, (nI w127 = I65 1001 0 ∧ w127 ≤ 3072 ∧ vp_in (v3 + 2) w127) ∧ wp_M_cover I65 L R 103 (I65 1000 (Int32.toNatClampNeg (v3 + 1))) (I65 1000 (Int32.toNatClampNeg (v3 + 2))) (fun (r74 : Int32) (I66 : am_TI) => ((r73 = r74 → wl_Law_law_18 Q f18 I66 L R (v3 + 6)) ∧ (¬ r73 = r74 → Q false I66 L R))))))))) ∧ (((I 1000 (Int32.toNatClampNeg v3)) &&& 63) = 37 → (∃ w128, (nI w128 = I 1001 0 ∧ w128 ≤ 3072 ∧ vp_in (v3 + 1) w128) ∧ (∃ w129, (nI w129 = I 1001 0 ∧ w129 ≤ 3072 ∧ vp_in (v3 + 2) w129) ∧ (∃ w130, (nI w130 = I 1001 0 ∧ w130 ≤ 3072 ∧ vp_in (v3 + 3) w130) ∧ wp_U_coverAt I L R 0 (I 1000 (Int32.toNatClampNeg (v3 + 1))) (I 1000 (Int32.toNatClampNeg (v3 + 2))) (I 1000 (Int32.toNatClampNeg (v3 + 3))) (fun (r75 : Int32) (I67 : am_TI) => (∃ w131, (nI w131 = I67 1001 0 ∧ w131 ≤ 3072 ∧ vp_in (v3 + 1) w131) ∧ (∃ w132, (nI w132 = I67 1001 0 ∧ w132 ≤ 3072 ∧ vp_in (v3 + 2) w132) ∧ (∃ w133, (nI w133 = I67 1001 0 ∧ w133 ≤ 3072 ∧ vp_in (v3 + 3) w133) ∧ wp_M_coverAt I67 L R 103 (I67 1000 (Int32.toNatClampNeg (v3 + 1))) (I67 1000 (Int32.toNatClampNeg (v3 + 2))) (I67 1000 (Int32.toNatClampNeg (v3 + 3))) (fun (r76 : Int32) (I68 : am_TI) => ((r75 = r76 → wl_Law_law_18 Q f18 I68 L R (v3 + 6)) ∧ (¬ r75 = r76 → Q false I68 L R))))))))))) ∧ (((I 1000 (Int32.toNatClampNeg v3)) &&& 63) = 38 → (∃ w134, (nI w134 = I 1001 0 ∧ w134 ≤ 3072 ∧ vp_in (v3 + 1) w134) ∧ (∃ w135, (nI w135 = I 1001 0 ∧ w135 ≤ 3072 ∧ vp_in (v3 + 2) w135) ∧ (∃ w136, (nI w136 = I 1001 0 ∧ w136 ≤ 3072 ∧ vp_in (v3 + 3) w136) ∧ wp_U_fits I L R 0 (I 1000 (Int32.toNatClampNeg (v3 + 1))) (I 1000 (Int32.toNatClampNeg (v3 + 2))) (I 1000 (Int32.toNatClampNeg (v3 + 3))) (fun (r77 : Int32) (I69 : am_TI) => (∃ w137, (nI w137 = I69 1001 0 ∧ w137 ≤ 3072 ∧ vp_in (v3 + 1) w137) ∧ (∃ w138, (nI w138 = I69 1001 0 ∧ w138 ≤ 3072 ∧ vp_in (v3 + 2) w138) ∧ (∃ w139, (nI w139 = I69 1001 0 ∧ w139 ≤ 3072 ∧ vp_in (v3 + 3) w139) ∧ wp_M_fits I69 L R 103 (I69 1000 (Int32.toNatClampNeg (v3 + 1))) (I69 1000 (Int32.toNatClampNeg (v3 + 2))) (I69 1000 (Int32.toNatClampNeg (v3 + 3))) (fun (r78 : Int32) (I70 : am_TI) => ((r77 = r78 → wl_Law_law_18 Q f18 I70 L R (v3 + 6)) ∧ (¬ r77 = r78 → Q false I70 L R))))))))))) ∧ (((I 1000 (Int32.toNatClampNeg v3)) &&& 63) = 39 → (∃ w140, (nI w140 = I 1001 0 ∧ w140 ≤ 3072 ∧ vp_in (v3 + 1) w140) ∧ (∃ w141, (nI w141 = I 1001 0 ∧ w141 ≤ 3072 ∧ vp_in (v3 + 2) w141) ∧ (∃ w142, (nI w142 = I 1001 0 ∧ w142 ≤ 3072 ∧ vp_in (v3 + 3) w142) ∧ wp_U_sure I L R 0 (I 1000 (Int32.toNatClampNeg (v3 + 1))) (I 1000 (Int32.toNatClampNeg (v3 + 2))) (I 1000 (Int32.toNatClampNeg (v3 + 3))) (fun (r79 : Int32) (I71 : am_TI) => (∃ w143, (nI w143 = I71 1001 0 ∧ w143 ≤ 3072 ∧ vp_in (v3 + 1) w143) ∧ (∃ w144, (nI w144 = I71 1001 0 ∧ w144 ≤ 3072 ∧ vp_in (v3 + 2) w144) ∧ (∃ w145, (nI w145 = I71 1001 0 ∧ w145 ≤ 3072 ∧ vp_in (v3 + 3) w145) ∧ wp_M_sure I71 L R 103 (I71 1000 (Int32.toNatClampNeg (v3 + 1))) (I71 1000 (Int32.toNatClampNeg (v3 + 2))) (I71 1000 (Int32.toNatClampNeg (v3 + 3))) (fun (r80 : Int32) (I72 : am_TI) => ((r79 = r80 → wl_Law_law_18 Q f18 I72 L R (v3 + 6)) ∧ (¬ r79 = r80 → Q false I72 L R))))))))))) ∧ (((I 1000 (Int32.toNatClampNeg v3)) &&& 63) = 40 → (∃ w146, (nI w146 = I 1001 0 ∧ w146 ≤ 3072 ∧ vp_in (v3 + 1) w146) ∧ (∃ w147, (nI w147 = I 1001 0 ∧ w147 ≤ 3072 ∧ vp_in (v3 + 2) w147) ∧ wp_U_rounds I L R 0 (I 1000 (Int32.toNatClampNeg (v3 + 1))) (I 1000 (Int32.toNatClampNeg (v3 + 2))) (fun (r81 : Int32) (I73 : am_TI) (L12 : am_TL) => (∃ w148, (nI w148 = I73 1001 0 ∧ w148 ≤ 3072 ∧ vp_in (v3 + 1) w148) ∧ (∃ w149, (nI w149 = I73 1001 0 ∧ w149 ≤ 3072 ∧ vp_in (v3 + 2) w149) ∧ wp_M_rounds I73 L12 R 103 (I73 1000 (Int32.toNatClampNeg (v3 + 1))) (I73 1000 (Int32.toNatClampNeg (v3 + 2))) (fun (r82 : Int32) (I74 : am_TI) => ((r81 = r82 → wl_Law_law_18 Q f18 I74 L12 R (v3 + 6)) ∧ (¬ r81 = r82 → Q false I74 L12 R))))))))) ∧ (((I 1000 (Int32.toNatClampNeg v3)) &&& 63) = 41 → (∃ w150, (nI w150 = I 1001 0 ∧ w150 ≤ 3072 ∧ vp_in (v3 + 1) w150) ∧ (∃ w151, (nI w151 = I 1001 0 ∧ w151 ≤ 3072 ∧ vp_in (v3 + 2) w151) ∧ (∃ w152, (nI w152 = I 1001 0 ∧ w152 ≤ 3072 ∧ vp_in (v3 + 3) w152) ∧ wp_U_knowers I L R 0 (I 1000 (Int32.toNatClampNeg (v3 + 1))) (I 1000 (Int32.toNatClampNeg (v3 + 2))) (I 1000 (Int32.toNatClampNeg (v3 + 3))) (fun (r83 : Int32) (I75 : am_TI) (L13 : am_TL) => (∃ w153, (nI w153 = I75 1001 0 ∧ w153 ≤ 3072 ∧ vp_in (v3 + 1) w153) ∧ (∃ w154, (nI w154 = I75 1001 0 ∧ w154 ≤ 3072 ∧ vp_in (v3 + 2) w154) ∧ (∃ w155, (nI w155 = I75 1001 0 ∧ w155 ≤ 3072 ∧ vp_in (v3 + 3) w155) ∧ wp_M_knowers I75 L13 R 103 (I75 1000 (Int32.toNatClampNeg (v3 + 1))) (I75 1000 (Int32.toNatClampNeg (v3 + 2))) (I75 1000 (Int32.toNatClampNeg (v3 + 3))) (fun (r84 : Int32) (I76 : am_TI) => ((r83 = r84 → wl_Law_law_18 Q f18 I76 L13 R (v3 + 6)) ∧ (¬ r83 = r84 → Q false I76 L13 R))))))))))) ∧ (((I 1000 (Int32.toNatClampNeg v3)) &&& 63) = 42 → (∃ w156, (nI w156 = I 1001 0 ∧ w156 ≤ 3072 ∧ vp_in (v3 + 1) w156) ∧ wp_U_game I L R 0 (I 1000 (Int32.toNatClampNeg (v3 + 1))) (fun (r85 : Int32) (I77 : am_TI) (R3 : am_TR) => (∃ w157, (nI w157 = I77 1001 0 ∧ w157 ≤ 3072 ∧ vp_in (v3 + 1) w157) ∧ wp_M_game I77 L R3 103 (I77 1000 (Int32.toNatClampNeg (v3 + 1))) (fun (r86 : Int32) (I78 : am_TI) => ((r85 = r86 → wl_Law_law_18 Q f18 I78 L R3 (v3 + 6)) ∧ (¬ r85 = r86 → Q false I78 L R3))))))) ∧ (((I 1000 (Int32.toNatClampNeg v3)) &&& 63) = 43 → (∃ w158, (nI w158 = I 1001 0 ∧ w158 ≤ 3072 ∧ vp_in (v3 + 1) w158) ∧ wp_U_moveOf I L R 0 (I 1000 (Int32.toNatClampNeg (v3 + 1))) (fun (r87 : Int32) (I79 : am_TI) (R4 : am_TR) => (∃ w159, (nI w159 = I79 1001 0 ∧ w159 ≤ 3072 ∧ vp_in (v3 + 1) w159) ∧ wp_M_moveOf I79 L R4 103 (I79 1000 (Int32.toNatClampNeg (v3 + 1))) (fun (r88 : Int32) (I80 : am_TI) => ((r87 = r88 → wl_Law_law_18 Q f18 I80 L R4 (v3 + 6)) ∧ (¬ r87 = r88 → Q false I80 L R4))))))) ∧ (((I 1000 (Int32.toNatClampNeg v3)) &&& 63) = 44 → (∃ w160, (nI w160 = I 1001 0 ∧ w160 ≤ 3072 ∧ vp_in (v3 + 1) w160) ∧ wp_U_crowd I L R 0 (I 1000 (Int32.toNatClampNeg (v3 + 1))) (fun (r89 : Bool) (I81 : am_TI) (L14 : am_TL) => (∃ w161, (nI w161 = I81 1001 0 ∧ w161 ≤ 3072 ∧ vp_in (v3 + 1) w161) ∧ wp_M_crowd I81 L14 R 103 (I81 1000 (Int32.toNatClampNeg (v3 + 1))) (fun (r90 : Bool) (I82 : am_TI) (L15 : am_TL) => (((am_b r89) = (am_b r90) → wl_Law_law_18 Q f18 I82 L15 R (v3 + 6)) ∧ (¬ (am_b r89) = (am_b r90) → Q false I82 L15 R))))))) ∧ (((I 1000 (Int32.toNatClampNeg v3)) &&& 63) = 45 → (∃ w162, (nI w162 = I 1001 0 ∧ w162 ≤ 3072 ∧ vp_in (v3 + 1) w162) ∧ wp_U_share I L R 0 (I 1000 (Int32.toNatClampNeg (v3 + 1))) (fun (r91 : Bool) (I83 : am_TI) (L16 : am_TL) => (∃ w163, (nI w163 = I83 1001 0 ∧ w163 ≤ 3072 ∧ vp_in (v3 + 1) w163) ∧ wp_M_share I83 L16 R 103 (I83 1000 (Int32.toNatClampNeg (v3 + 1))) (fun (r92 : Bool) (I84 : am_TI) (L17 : am_TL) => (((am_b r91) = (am_b r92) → wl_Law_law_18 Q f18 I84 L17 R (v3 + 6)) ∧ (¬ (am_b r91) = (am_b r92) → Q false I84 L17 R))))))) ∧ (((I 1000 (Int32.toNatClampNeg v3)) &&& 63) = 46 → (∃ w164, (nI w164 = I 1001 0 ∧ w164 ≤ 3072 ∧ vp_in (v3 + 1) w164) ∧ wp_U_copyCells I L R 0 (I 1000 (Int32.toNatClampNeg (v3 + 1))) (fun (r93 : Int32) (I85 : am_TI) (L18 : am_TL) => (∃ w165, (nI w165 = I85 1001 0 ∧ w165 ≤ 3072 ∧ vp_in (v3 + 1) w165) ∧ wp_M_copyCells I85 L18 R 103 (I85 1000 (Int32.toNatClampNeg (v3 + 1))) (fun (r94 : Int32) (I86 : am_TI) (L19 : am_TL) => ((r93 = r94 → wl_Law_law_18 Q f18 I86 L19 R (v3 + 6)) ∧ (¬ r93 = r94 → Q false I86 L19 R))))))) ∧ (((I 1000 (Int32.toNatClampNeg v3)) &&& 63) = 47 → (∃ w166, (nI w166 = I 1001 0 ∧ w166 ≤ 3072 ∧ vp_in (v3 + 1) w166) ∧ wp_U_live I L R 0 (I 1000 (Int32.toNatClampNeg (v3 + 1))) (fun (r95 : Int32) (I87 : am_TI) => (∃ w167, (nI w167 = I87 1001 0 ∧ w167 ≤ 3072 ∧ vp_in (v3 + 1) w167) ∧ wp_M_live I87 L R 103 (I87 1000 (Int32.toNatClampNeg (v3 + 1))) (fun (r96 : Int32) (I88 : am_TI) => ((r95 = r96 → wl_Law_law_18 Q f18 I88 L R (v3 + 6)) ∧ (¬ r95 = r96 → Q false I88 L R))))))) ∧ (((I 1000 (Int32.toNatClampNeg v3)) &&& 63) = 48 → (∃ w168, (nI w168 = I 1001 0 ∧ w168 ≤ 3072 ∧ vp_in (v3 + 1) w168) ∧ wp_U_lived I L R 0 (I 1000 (Int32.toNatClampNeg (v3 + 1))) (fun (r97 : Int32) (I89 : am_TI) => (∃ w169, (nI w169 = I89 1001 0 ∧ w169 ≤ 3072 ∧ vp_in (v3 + 1) w169) ∧ wp_M_lived I89 L R 103 (I89 1000 (Int32.toNatClampNeg (v3 + 1))) (fun (r98 : Int32) (I90 : am_TI) => ((r97 = r98 → wl_Law_law_18 Q f18 I90 L R (v3 + 6)) ∧ (¬ r97 = r98 → Q false I90 L R))))))) ∧ (((I 1000 (Int32.toNatClampNeg v3)) &&& 63) = 49 → (∃ w170, (nI w170 = I 1001 0 ∧ w170 ≤ 3072 ∧ vp_in (v3 + 1) w170) ∧ (∃ w171, (nI w171 = I 1001 0 ∧ w171 ≤ 3072 ∧ vp_in (v3 + 2) w171) ∧ wp_U_mean I L R 0 (I 1000 (Int32.toNatClampNeg (v3 + 1))) (I 1000 (Int32.toNatClampNeg (v3 + 2))) (fun (r99 : Bool) (I91 : am_TI) (L20 : am_TL) => (∃ w172, (nI w172 = I91 1001 0 ∧ w172 ≤ 3072 ∧ vp_in (v3 + 1) w172) ∧ (∃ w173, (nI w173 = I91 1001 0 ∧ w173 ≤ 3072 ∧ vp_in (v3 + 2) w173) ∧ wp_M_mean I91 L20 R 103 (I91 1000 (Int32.toNatClampNeg (v3 + 1))) (I91 1000 (Int32.toNatClampNeg (v3 + 2))) (fun (r100 : Bool) (I92 : am_TI) (L21 : am_TL) => (((am_b r99) = (am_b r100) → wl_Law_law_18 Q f18 I92 L21 R (v3 + 6)) ∧ (¬ (am_b r99) = (am_b r100) → Q false I92 L21 R))))))))) ∧ (((I 1000 (Int32.toNatClampNeg v3)) &&& 63) = 50 → wp_U_mark I L R 0 (fun (r101 : Int32) (I93 : am_TI) (L22 : am_TL) => wp_M_mark I93 L22 R 103 (fun (r102 : Int32) (I94 : am_TI) (L23 : am_TL) => ((r101 = r102 → wl_Law_law_18 Q f18 I94 L23 R (v3 + 6)) ∧ (¬ r101 = r102 → Q false I94 L23 R))))) ∧ (((I 1000 (Int32.toNatClampNeg v3)) &&& 63) = 51 → wp_U_undo I L R 0 (fun (r103 : Int32) (I95 : am_TI) (L24 : am_TL) => wp_M_undo I95 L24 R 103 (fun (r104 : Int32) (I96 : am_TI) (L25 : am_TL) => ((r103 = r104 → wl_Law_law_18 Q f18 I96 L25 R (v3 + 6)) ∧ (¬ r103 = r104 → Q false I96 L25 R))))) ∧ (¬ ((I 1000 (Int32.toNatClampNeg v3)) &&& 63) = 0 → ¬ ((I 1000 (Int32.toNatClampNeg v3)) &&& 63) = 1 → ¬ ((I 1000 (Int32.toNatClampNeg v3)) &&& 63) = 2 → ¬ ((I 1000 (Int32.toNatClampNeg v3)) &&& 63) = 3 → ¬ ((I 1000 (Int32.toNatClampNeg v3)) &&& 63) = 4 → ¬ ((I 1000 (Int32.toNatClampNeg v3)) &&& 63) = 5 → ¬ ((I 1000 (Int32.toNatClampNeg v3)) &&& 63) = 6 → ¬ ((I 1000 (Int32.toNatClampNeg v3)) &&& 63) = 7 → ¬ ((I 1000 (Int32.toNatClampNeg v3)) &&& 63) = 8 → ¬ ((I 1000 (Int32.toNatClampNeg v3)) &&& 63) = 9 → ¬ ((I 1000 (Int32.toNatClampNeg v3)) &&& 63) = 10 → ¬ ((I 1000 (Int32.toNatClampNeg v3)) &&& 63) = 11 → ¬ ((I 1000 (Int32.toNatClampNeg v3)) &&& 63) = 12 → ¬ ((I 1000 (Int32.toNatClampNeg v3)) &&& 63) = 13 → ¬ ((I 1000 (Int32.toNatClampNeg v3)) &&& 63) = 14 → ¬ ((I 1000 (Int32.toNatClampNeg v3)) &&& 63) = 15 → ¬ ((I 1000 (Int32.toNatClampNeg v3)) &&& 63) = 16 → ¬ ((I 1000 (Int32.toNatClampNeg v3)) &&& 63) = 17 → ¬ ((I 1000 (Int32.toNatClampNeg v3)) &&& 63) = 18 → ¬ ((I 1000 (Int32.toNatClampNeg v3)) &&& 63) = 19 → ¬ ((I 1000 (Int32.toNatClampNeg v3)) &&& 63) = 20 → ¬ ((I 1000 (Int32.toNatClampNeg v3)) &&& 63) = 21 → ¬ ((I 1000 (Int32.toNatClampNeg v3)) &&& 63) = 22 → ¬ ((I 1000 (Int32.toNatClampNeg v3)) &&& 63) = 23 → ¬ ((I 1000 (Int32.toNatClampNeg v3)) &&& 63) = 24 → ¬ ((I 1000 (Int32.toNatClampNeg v3)) &&& 63) = 25 → ¬ ((I 1000 (Int32.toNatClampNeg v3)) &&& 63) = 26 → ¬ ((I 1000 (Int32.toNatClampNeg v3)) &&& 63) = 27 → ¬ ((I 1000 (Int32.toNatClampNeg v3)) &&& 63) = 28 → ¬ ((I 1000 (Int32.toNatClampNeg v3)) &&& 63) = 29 → ¬ ((I 1000 (Int32.toNatClampNeg v3)) &&& 63) = 30 → ¬ ((I 1000 (Int32.toNatClampNeg v3)) &&& 63) = 31 → ¬ ((I 1000 (Int32.toNatClampNeg v3)) &&& 63) = 32 → ¬ ((I 1000 (Int32.toNatClampNeg v3)) &&& 63) = 33 → ¬ ((I 1000 (Int32.toNatClampNeg v3)) &&& 63) = 34 → ¬ ((I 1000 (Int32.toNatClampNeg v3)) &&& 63) = 35 → ¬ ((I 1000 (Int32.toNatClampNeg v3)) &&& 63) = 36 → ¬ ((I 1000 (Int32.toNatClampNeg v3)) &&& 63) = 37 → ¬ ((I 1000 (Int32.toNatClampNeg v3)) &&& 63) = 38 → ¬ ((I 1000 (Int32.toNatClampNeg v3)) &&& 63) = 39 → ¬ ((I 1000 (Int32.toNatClampNeg v3)) &&& 63) = 40 → ¬ ((I 1000 (Int32.toNatClampNeg v3)) &&& 63) = 41 → ¬ ((I 1000 (Int32.toNatClampNeg v3)) &&& 63) = 42 → ¬ ((I 1000 (Int32.toNatClampNeg v3)) &&& 63) = 43 → ¬ ((I 1000 (Int32.toNatClampNeg v3)) &&& 63) = 44 → ¬ ((I 1000 (Int32.toNatClampNeg v3)) &&& 63) = 45 → ¬ ((I 1000 (Int32.toNatClampNeg v3)) &&& 63) = 46 → ¬ ((I 1000 (Int32.toNatClampNeg v3)) &&& 63) = 47 → ¬ ((I 1000 (Int32.toNatClampNeg v3)) &&& 63) = 48 → ¬ ((I 1000 (Int32.toNatClampNeg v3)) &&& 63) = 49 → ¬ ((I 1000 (Int32.toNatClampNeg v3)) &&& 63) = 50 → ¬ ((I 1000 (Int32.toNatClampNeg v3)) &&& 63) = 51 → wl_Law_law_18 Q f18 I L R (v3 + 6))))))
set_option maxRecDepth 20000 in
theorem tl_Law_law_18 {d : Nat}  {Q : Bool → am_TI → am_TL → am_TR → Prop}   (hd : 60 ≤ d) : ∀ (n : Nat) (I : am_TI) (L : am_TL) (R : am_TR) (v3 : Int32) (hw : am_Wf R), wl_Law_law_18 Q  n I L R v3 → am_Wp (d, "UnseenRingLaw", b_Law_law, 4, false) 0 0 18 [some (.ref 1000), some (.ref 0), some (.ref 103), some (.int v3)] [] (I, L, R, am_SH) (po_Law Q) := by
  intro n
  induction n with
  | zero => intro I L R v3 hw h; exact h.elim
  | succ n ih =>
    intro I L R v3 hw h
    unfold wl_Law_law_18 at h
    refine am_iload_n (n := 19) d_Law_law_18 rfl rfl ?_
    refine am_aload_n (n := 20) d_Law_law_19 rfl rfl ?_
    refine am_slen (n := 21) d_Law_law_20 rfl ?_
    refine am_bipush (n := 23) d_Law_law_21 cb_6 rfl ?_
    refine am_isub (n := 24) d_Law_law_23 rfl ?_
    refine am_icmp_gt (tgt := 1837) (n := 27) d_Law_law_24 rfl rfl (fun c1 => ?_) (fun c1 => ?_)
    · have h := h.1 c1
      refine am_iconst (n := 1838) d_Law_law_1837 ci_1 rfl ?_
      exact am_iret d_Law_law_1838 ⟨true, I, L, R, rfl, rfl, hw, h⟩
    · have h := h.2 c1
      refine am_aload_n (n := 28) d_Law_law_27 rfl rfl ?_
      refine am_iload_n (n := 29) d_Law_law_28 rfl rfl ?_
      obtain ⟨w1, g1, h⟩ := h
      refine am_sald (n := 30) d_Law_law_29 rfl g1.1 g1.2.1 g1.2.2 ?_
      refine am_bipush (n := 32) d_Law_law_30 cb_63 rfl ?_
      refine am_iand (n := 33) d_Law_law_32 rfl ?_
      by_cases c2 : ((I 1000 (Int32.toNatClampNeg v3)) &&& 63) = 0
      · have h := h.1 c2
        refine am_tableIn (off := 223) (tgt := 256) d_Law_law_33 (by rw [c2]; decide) (by rw [c2]; decide) (by rw [c2]; decide +kernel) rfl ?_
        refine am_aload_n (n := 257) d_Law_law_256 rfl rfl ?_
        refine am_callV (kc := 0) (ks := 0) (As := []) (n := 260) d_Law_law_257 rfl ce_U_status lk_Law_13 in_U_status rfl rfl rfl rfl rfl (Nat.le_of_ble_eq_true rfl) (Or.inl rfl) (cm_U_status (d := d - 1) hw (by omega) rfl h) (by omega) ?_
        rintro _ _ ⟨r1, rfl, rfl, h⟩
        show am_Wp (d, "UnseenRingLaw", b_Law_law, 4, false) 0 0 260 [some (.ref 1000), some (.ref 0), some (.ref 103), some (.int v3)] [.int r1] (I, L, R, am_SH) (po_Law Q)
        refine am_aload_n (n := 261) d_Law_law_260 rfl rfl ?_
        refine am_callV (kc := 0) (ks := 0) (As := []) (n := 264) d_Law_law_261 rfl ce_M_status lk_Law_17 in_M_status rfl rfl rfl rfl rfl (Nat.le_of_ble_eq_true rfl) (Or.inl rfl) (cm_M_status (d := d - 1) hw (by omega) rfl h) (by omega) ?_
        rintro _ _ ⟨r2, rfl, rfl, h⟩
        show am_Wp (d, "UnseenRingLaw", b_Law_law, 4, false) 0 0 264 [some (.ref 1000), some (.ref 0), some (.ref 103), some (.int v3)] [.int r2, .int r1] (I, L, R, am_SH) (po_Law Q)
        refine am_icmp_eq (tgt := 1831) (n := 267) d_Law_law_264 rfl rfl (fun c3 => ?_) (fun c3 => ?_)
        · have h := h.1 c3
          refine am_iinc (v := v3 + 6) (ls' := [some (.ref 1000), some (.ref 0), some (.ref 103), some (.int (v3 + 6))]) (n := 1834) d_Law_law_1831 rfl (congrArg _ ci_6) (by decide) rfl rfl ?_
          refine am_goto (tgt := 18) d_Law_law_1834 rfl ?_
          exact ih I L R (v3 + 6) hw h
        · have h := h.2 c3
          refine am_iconst (n := 268) d_Law_law_267 ci_0 rfl ?_
          exact am_iret d_Law_law_268 ⟨false, I, L, R, rfl, rfl, hw, h⟩
      by_cases c4 : ((I 1000 (Int32.toNatClampNeg v3)) &&& 63) = 1
      · have h := h.2.1 c4
        refine am_tableIn (off := 236) (tgt := 269) d_Law_law_33 (by rw [c4]; decide) (by rw [c4]; decide) (by rw [c4]; decide +kernel) rfl ?_
        refine am_aload_n (n := 270) d_Law_law_269 rfl rfl ?_
        refine am_callV (kc := 0) (ks := 0) (As := []) (n := 273) d_Law_law_270 rfl ce_U_top lk_Law_18 in_U_top rfl rfl rfl rfl rfl (Nat.le_of_ble_eq_true rfl) (Or.inl rfl) (cm_U_top (d := d - 1) hw (by omega) rfl h) (by omega) ?_
        rintro _ _ ⟨r3, rfl, rfl, h⟩
        show am_Wp (d, "UnseenRingLaw", b_Law_law, 4, false) 0 0 273 [some (.ref 1000), some (.ref 0), some (.ref 103), some (.int v3)] [.long r3] (I, L, R, am_SH) (po_Law Q)
        refine am_aload_n (n := 274) d_Law_law_273 rfl rfl ?_
        refine am_callV (kc := 0) (ks := 0) (As := []) (n := 277) d_Law_law_274 rfl ce_M_top lk_Law_22 in_M_top rfl rfl rfl rfl rfl (Nat.le_of_ble_eq_true rfl) (Or.inl rfl) (cm_M_top (d := d - 1) hw (by omega) rfl h) (by omega) ?_
        rintro _ _ ⟨r4, rfl, rfl, h⟩
        show am_Wp (d, "UnseenRingLaw", b_Law_law, 4, false) 0 0 277 [some (.ref 1000), some (.ref 0), some (.ref 103), some (.int v3)] [.long r4, .long r3] (I, L, R, am_SH) (po_Law Q)
        refine am_lcmp (n := 278) d_Law_law_277 rfl ?_
        refine am_if_eq (y := 0) (tgt := 1831) (n := 281) d_Law_law_278 rfl rfl (fun c5 => ?_) (fun c5 => ?_)
        · have h := h.1 (am_cmp_eq.mp c5)
          refine am_iinc (v := v3 + 6) (ls' := [some (.ref 1000), some (.ref 0), some (.ref 103), some (.int (v3 + 6))]) (n := 1834) d_Law_law_1831 rfl (congrArg _ ci_6) (by decide) rfl rfl ?_
          refine am_goto (tgt := 18) d_Law_law_1834 rfl ?_
          exact ih I L R (v3 + 6) hw h
        · have h := h.2 (fun z => c5 (am_cmp_eq.mpr z))
          refine am_iconst (n := 282) d_Law_law_281 ci_0 rfl ?_
          exact am_iret d_Law_law_282 ⟨false, I, L, R, rfl, rfl, hw, h⟩
      by_cases c6 : ((I 1000 (Int32.toNatClampNeg v3)) &&& 63) = 2
      · have h := h.2.2.1 c6
        refine am_tableIn (off := 250) (tgt := 283) d_Law_law_33 (by rw [c6]; decide) (by rw [c6]; decide) (by rw [c6]; decide +kernel) rfl ?_
        refine am_aload_n (n := 284) d_Law_law_283 rfl rfl ?_
        refine am_callV (kc := 0) (ks := 0) (As := []) (n := 287) d_Law_law_284 rfl ce_U_bottom lk_Law_23 in_U_bottom rfl rfl rfl rfl rfl (Nat.le_of_ble_eq_true rfl) (Or.inl rfl) (cm_U_bottom (d := d - 1) hw (by omega) rfl h) (by omega) ?_
        rintro _ _ ⟨r5, rfl, rfl, h⟩
        show am_Wp (d, "UnseenRingLaw", b_Law_law, 4, false) 0 0 287 [some (.ref 1000), some (.ref 0), some (.ref 103), some (.int v3)] [.long r5] (I, L, R, am_SH) (po_Law Q)
        refine am_aload_n (n := 288) d_Law_law_287 rfl rfl ?_
        refine am_callV (kc := 0) (ks := 0) (As := []) (n := 291) d_Law_law_288 rfl ce_M_bottom lk_Law_26 in_M_bottom rfl rfl rfl rfl rfl (Nat.le_of_ble_eq_true rfl) (Or.inl rfl) (cm_M_bottom (d := d - 1) hw (by omega) rfl h) (by omega) ?_
        rintro _ _ ⟨r6, rfl, rfl, h⟩
        show am_Wp (d, "UnseenRingLaw", b_Law_law, 4, false) 0 0 291 [some (.ref 1000), some (.ref 0), some (.ref 103), some (.int v3)] [.long r6, .long r5] (I, L, R, am_SH) (po_Law Q)
        refine am_lcmp (n := 292) d_Law_law_291 rfl ?_
        refine am_if_eq (y := 0) (tgt := 1831) (n := 295) d_Law_law_292 rfl rfl (fun c7 => ?_) (fun c7 => ?_)
        · have h := h.1 (am_cmp_eq.mp c7)
          refine am_iinc (v := v3 + 6) (ls' := [some (.ref 1000), some (.ref 0), some (.ref 103), some (.int (v3 + 6))]) (n := 1834) d_Law_law_1831 rfl (congrArg _ ci_6) (by decide) rfl rfl ?_
          refine am_goto (tgt := 18) d_Law_law_1834 rfl ?_
          exact ih I L R (v3 + 6) hw h
        · have h := h.2 (fun z => c7 (am_cmp_eq.mpr z))
          refine am_iconst (n := 296) d_Law_law_295 ci_0 rfl ?_
          exact am_iret d_Law_law_296 ⟨false, I, L, R, rfl, rfl, hw, h⟩
      by_cases c8 : ((I 1000 (Int32.toNatClampNeg v3)) &&& 63) = 3
      · have h := h.2.2.2.1 c8
        refine am_tableIn (off := 264) (tgt := 297) d_Law_law_33 (by rw [c8]; decide) (by rw [c8]; decide) (by rw [c8]; decide +kernel) rfl ?_
        refine am_aload_n (n := 298) d_Law_law_297 rfl rfl ?_
        refine am_aload_n (n := 299) d_Law_law_298 rfl rfl ?_
        refine am_iload_n (n := 300) d_Law_law_299 rfl rfl ?_
        refine am_iconst (n := 301) d_Law_law_300 ci_1 rfl ?_
        refine am_iadd (n := 302) d_Law_law_301 rfl ?_
        obtain ⟨w2, g2, h⟩ := h
        refine am_sald (n := 303) d_Law_law_302 rfl g2.1 g2.2.1 g2.2.2 ?_
        refine am_aload_n (n := 304) d_Law_law_303 rfl rfl ?_
        refine am_iload_n (n := 305) d_Law_law_304 rfl rfl ?_
        refine am_iconst (n := 306) d_Law_law_305 ci_2 rfl ?_
        refine am_iadd (n := 307) d_Law_law_306 rfl ?_
        obtain ⟨w3, g3, h⟩ := h
        refine am_sald (n := 308) d_Law_law_307 rfl g3.1 g3.2.1 g3.2.2 ?_
        refine am_aload_n (n := 309) d_Law_law_308 rfl rfl ?_
        refine am_iload_n (n := 310) d_Law_law_309 rfl rfl ?_
        refine am_iconst (n := 311) d_Law_law_310 ci_3 rfl ?_
        refine am_iadd (n := 312) d_Law_law_311 rfl ?_
        obtain ⟨w4, g4, h⟩ := h
        refine am_sald (n := 313) d_Law_law_312 rfl g4.1 g4.2.1 g4.2.2 ?_
        refine am_callV (kc := 0) (ks := 0) (As := [.int (I 1000 (Int32.toNatClampNeg (v3 + 1))), .int (I 1000 (Int32.toNatClampNeg (v3 + 2))), .int (I 1000 (Int32.toNatClampNeg (v3 + 3)))]) (n := 316) d_Law_law_313 rfl ce_U_tray lk_Law_27 in_U_tray rfl rfl rfl rfl rfl (Nat.le_of_ble_eq_true rfl) (Or.inl rfl) (cm_U_tray (d := d - 1) hw (by omega) rfl h) (by omega) ?_
        rintro _ _ ⟨r7, I1, L1, rfl, rfl, h⟩
        show am_Wp (d, "UnseenRingLaw", b_Law_law, 4, false) 0 0 316 [some (.ref 1000), some (.ref 0), some (.ref 103), some (.int v3)] [.int (am_b r7)] (I1, L1, R, am_SH) (po_Law Q)
        refine am_aload_n (n := 317) d_Law_law_316 rfl rfl ?_
        refine am_aload_n (n := 318) d_Law_law_317 rfl rfl ?_
        refine am_iload_n (n := 319) d_Law_law_318 rfl rfl ?_
        refine am_iconst (n := 320) d_Law_law_319 ci_1 rfl ?_
        refine am_iadd (n := 321) d_Law_law_320 rfl ?_
        obtain ⟨w5, g5, h⟩ := h
        refine am_sald (n := 322) d_Law_law_321 rfl g5.1 g5.2.1 g5.2.2 ?_
        refine am_aload_n (n := 323) d_Law_law_322 rfl rfl ?_
        refine am_iload_n (n := 324) d_Law_law_323 rfl rfl ?_
        refine am_iconst (n := 325) d_Law_law_324 ci_2 rfl ?_
        refine am_iadd (n := 326) d_Law_law_325 rfl ?_
        obtain ⟨w6, g6, h⟩ := h
        refine am_sald (n := 327) d_Law_law_326 rfl g6.1 g6.2.1 g6.2.2 ?_
        refine am_aload_n (n := 328) d_Law_law_327 rfl rfl ?_
        refine am_iload_n (n := 329) d_Law_law_328 rfl rfl ?_
        refine am_iconst (n := 330) d_Law_law_329 ci_3 rfl ?_
        refine am_iadd (n := 331) d_Law_law_330 rfl ?_
        obtain ⟨w7, g7, h⟩ := h
        refine am_sald (n := 332) d_Law_law_331 rfl g7.1 g7.2.1 g7.2.2 ?_
        refine am_callV (kc := 0) (ks := 0) (As := [.int (I1 1000 (Int32.toNatClampNeg (v3 + 1))), .int (I1 1000 (Int32.toNatClampNeg (v3 + 2))), .int (I1 1000 (Int32.toNatClampNeg (v3 + 3)))]) (n := 335) d_Law_law_332 rfl ce_M_tray lk_Law_31 in_M_tray rfl rfl rfl rfl rfl (Nat.le_of_ble_eq_true rfl) (Or.inl rfl) (cm_M_tray (d := d - 1) hw (by omega) rfl h) (by omega) ?_
        rintro _ _ ⟨r8, I2, L2, rfl, rfl, h⟩
        show am_Wp (d, "UnseenRingLaw", b_Law_law, 4, false) 0 0 335 [some (.ref 1000), some (.ref 0), some (.ref 103), some (.int v3)] [.int (am_b r8), .int (am_b r7)] (I2, L2, R, am_SH) (po_Law Q)
        refine am_icmp_eq (tgt := 1831) (n := 338) d_Law_law_335 rfl rfl (fun c9 => ?_) (fun c9 => ?_)
        · have h := h.1 c9
          refine am_iinc (v := v3 + 6) (ls' := [some (.ref 1000), some (.ref 0), some (.ref 103), some (.int (v3 + 6))]) (n := 1834) d_Law_law_1831 rfl (congrArg _ ci_6) (by decide) rfl rfl ?_
          refine am_goto (tgt := 18) d_Law_law_1834 rfl ?_
          exact ih I2 L2 R (v3 + 6) hw h
        · have h := h.2 c9
          refine am_iconst (n := 339) d_Law_law_338 ci_0 rfl ?_
          exact am_iret d_Law_law_339 ⟨false, I2, L2, R, rfl, rfl, hw, h⟩
      by_cases c10 : ((I 1000 (Int32.toNatClampNeg v3)) &&& 63) = 4
      · have h := h.2.2.2.2.1 c10
        refine am_tableIn (off := 307) (tgt := 340) d_Law_law_33 (by rw [c10]; decide) (by rw [c10]; decide) (by rw [c10]; decide +kernel) rfl ?_
        refine am_aload_n (n := 341) d_Law_law_340 rfl rfl ?_
        refine am_aload_n (n := 342) d_Law_law_341 rfl rfl ?_
        refine am_iload_n (n := 343) d_Law_law_342 rfl rfl ?_
        refine am_iconst (n := 344) d_Law_law_343 ci_1 rfl ?_
        refine am_iadd (n := 345) d_Law_law_344 rfl ?_
        obtain ⟨w8, g8, h⟩ := h
        refine am_sald (n := 346) d_Law_law_345 rfl g8.1 g8.2.1 g8.2.2 ?_
        refine am_aload_n (n := 347) d_Law_law_346 rfl rfl ?_
        refine am_iload_n (n := 348) d_Law_law_347 rfl rfl ?_
        refine am_iconst (n := 349) d_Law_law_348 ci_2 rfl ?_
        refine am_iadd (n := 350) d_Law_law_349 rfl ?_
        obtain ⟨w9, g9, h⟩ := h
        refine am_sald (n := 351) d_Law_law_350 rfl g9.1 g9.2.1 g9.2.2 ?_
        refine am_aload_n (n := 352) d_Law_law_351 rfl rfl ?_
        refine am_iload_n (n := 353) d_Law_law_352 rfl rfl ?_
        refine am_iconst (n := 354) d_Law_law_353 ci_3 rfl ?_
        refine am_iadd (n := 355) d_Law_law_354 rfl ?_
        obtain ⟨w10, g10, h⟩ := h
        refine am_sald (n := 356) d_Law_law_355 rfl g10.1 g10.2.1 g10.2.2 ?_
        refine am_i2l (n := 357) d_Law_law_356 rfl ?_
        refine am_bipush (n := 359) d_Law_law_357 cb_32 rfl ?_
        refine am_lshl (n := 360) d_Law_law_359 rfl ?_
        refine am_aload_n (n := 361) d_Law_law_360 rfl rfl ?_
        refine am_iload_n (n := 362) d_Law_law_361 rfl rfl ?_
        refine am_iconst (n := 363) d_Law_law_362 ci_4 rfl ?_
        refine am_iadd (n := 364) d_Law_law_363 rfl ?_
        obtain ⟨w11, g11, h⟩ := h
        refine am_sald (n := 365) d_Law_law_364 rfl g11.1 g11.2.1 g11.2.2 ?_
        refine am_i2l (n := 366) d_Law_law_365 rfl ?_
        refine am_ldc2 (n := 369) d_Law_law_366 k_Law_32 rfl ?_
        refine am_land (n := 370) d_Law_law_369 rfl ?_
        refine am_lor (n := 371) d_Law_law_370 rfl ?_
        refine am_callV (kc := 0) (ks := 0) (As := [.int (I 1000 (Int32.toNatClampNeg (v3 + 1))), .int (I 1000 (Int32.toNatClampNeg (v3 + 2))), .long (((Int32.toInt64 (I 1000 (Int32.toNatClampNeg (v3 + 3)))) <<< (Int32.toInt64 32 &&& 63)) ||| ((Int32.toInt64 (I 1000 (Int32.toNatClampNeg (v3 + 4)))) &&& 4294967295))]) (n := 374) d_Law_law_371 rfl ce_U_write lk_Law_34 in_U_write rfl rfl rfl rfl rfl (Nat.le_of_ble_eq_true rfl) (Or.inl rfl) (cm_U_write (d := d - 1) hw (by omega) rfl h) (by omega) ?_
        rintro _ _ ⟨r9, I3, L3, rfl, rfl, h⟩
        show am_Wp (d, "UnseenRingLaw", b_Law_law, 4, false) 0 0 374 [some (.ref 1000), some (.ref 0), some (.ref 103), some (.int v3)] [.int (am_b r9)] (I3, L3, R, am_SH) (po_Law Q)
        refine am_aload_n (n := 375) d_Law_law_374 rfl rfl ?_
        refine am_aload_n (n := 376) d_Law_law_375 rfl rfl ?_
        refine am_iload_n (n := 377) d_Law_law_376 rfl rfl ?_
        refine am_iconst (n := 378) d_Law_law_377 ci_1 rfl ?_
        refine am_iadd (n := 379) d_Law_law_378 rfl ?_
        obtain ⟨w12, g12, h⟩ := h
        refine am_sald (n := 380) d_Law_law_379 rfl g12.1 g12.2.1 g12.2.2 ?_
        refine am_aload_n (n := 381) d_Law_law_380 rfl rfl ?_
        refine am_iload_n (n := 382) d_Law_law_381 rfl rfl ?_
        refine am_iconst (n := 383) d_Law_law_382 ci_2 rfl ?_
        refine am_iadd (n := 384) d_Law_law_383 rfl ?_
        obtain ⟨w13, g13, h⟩ := h
        refine am_sald (n := 385) d_Law_law_384 rfl g13.1 g13.2.1 g13.2.2 ?_
        refine am_aload_n (n := 386) d_Law_law_385 rfl rfl ?_
        refine am_iload_n (n := 387) d_Law_law_386 rfl rfl ?_
        refine am_iconst (n := 388) d_Law_law_387 ci_3 rfl ?_
        refine am_iadd (n := 389) d_Law_law_388 rfl ?_
        obtain ⟨w14, g14, h⟩ := h
        refine am_sald (n := 390) d_Law_law_389 rfl g14.1 g14.2.1 g14.2.2 ?_
        refine am_i2l (n := 391) d_Law_law_390 rfl ?_
        refine am_bipush (n := 393) d_Law_law_391 cb_32 rfl ?_
        refine am_lshl (n := 394) d_Law_law_393 rfl ?_
        refine am_aload_n (n := 395) d_Law_law_394 rfl rfl ?_
        refine am_iload_n (n := 396) d_Law_law_395 rfl rfl ?_
        refine am_iconst (n := 397) d_Law_law_396 ci_4 rfl ?_
        refine am_iadd (n := 398) d_Law_law_397 rfl ?_
        obtain ⟨w15, g15, h⟩ := h
        refine am_sald (n := 399) d_Law_law_398 rfl g15.1 g15.2.1 g15.2.2 ?_
        refine am_i2l (n := 400) d_Law_law_399 rfl ?_
        refine am_ldc2 (n := 403) d_Law_law_400 k_Law_32 rfl ?_
        refine am_land (n := 404) d_Law_law_403 rfl ?_
        refine am_lor (n := 405) d_Law_law_404 rfl ?_
        refine am_callV (kc := 0) (ks := 0) (As := [.int (I3 1000 (Int32.toNatClampNeg (v3 + 1))), .int (I3 1000 (Int32.toNatClampNeg (v3 + 2))), .long (((Int32.toInt64 (I3 1000 (Int32.toNatClampNeg (v3 + 3)))) <<< (Int32.toInt64 32 &&& 63)) ||| ((Int32.toInt64 (I3 1000 (Int32.toNatClampNeg (v3 + 4)))) &&& 4294967295))]) (n := 408) d_Law_law_405 rfl ce_M_write lk_Law_38 in_M_write rfl rfl rfl rfl rfl (Nat.le_of_ble_eq_true rfl) (Or.inl rfl) (cm_M_write (d := d - 1) hw (by omega) rfl h) (by omega) ?_
        rintro _ _ ⟨r10, I4, L4, rfl, rfl, h⟩
        show am_Wp (d, "UnseenRingLaw", b_Law_law, 4, false) 0 0 408 [some (.ref 1000), some (.ref 0), some (.ref 103), some (.int v3)] [.int (am_b r10), .int (am_b r9)] (I4, L4, R, am_SH) (po_Law Q)
        refine am_icmp_eq (tgt := 1831) (n := 411) d_Law_law_408 rfl rfl (fun c11 => ?_) (fun c11 => ?_)
        · have h := h.1 c11
          refine am_iinc (v := v3 + 6) (ls' := [some (.ref 1000), some (.ref 0), some (.ref 103), some (.int (v3 + 6))]) (n := 1834) d_Law_law_1831 rfl (congrArg _ ci_6) (by decide) rfl rfl ?_
          refine am_goto (tgt := 18) d_Law_law_1834 rfl ?_
          exact ih I4 L4 R (v3 + 6) hw h
        · have h := h.2 c11
          refine am_iconst (n := 412) d_Law_law_411 ci_0 rfl ?_
          exact am_iret d_Law_law_412 ⟨false, I4, L4, R, rfl, rfl, hw, h⟩
      by_cases c12 : ((I 1000 (Int32.toNatClampNeg v3)) &&& 63) = 5
      · have h := h.2.2.2.2.2.1 c12
        refine am_tableIn (off := 380) (tgt := 413) d_Law_law_33 (by rw [c12]; decide) (by rw [c12]; decide) (by rw [c12]; decide +kernel) rfl ?_
        refine am_aload_n (n := 414) d_Law_law_413 rfl rfl ?_
        refine am_aload_n (n := 415) d_Law_law_414 rfl rfl ?_
        refine am_iload_n (n := 416) d_Law_law_415 rfl rfl ?_
        refine am_iconst (n := 417) d_Law_law_416 ci_1 rfl ?_
        refine am_iadd (n := 418) d_Law_law_417 rfl ?_
        obtain ⟨w16, g16, h⟩ := h
        refine am_sald (n := 419) d_Law_law_418 rfl g16.1 g16.2.1 g16.2.2 ?_
        refine am_aload_n (n := 420) d_Law_law_419 rfl rfl ?_
        refine am_iload_n (n := 421) d_Law_law_420 rfl rfl ?_
        refine am_iconst (n := 422) d_Law_law_421 ci_2 rfl ?_
        refine am_iadd (n := 423) d_Law_law_422 rfl ?_
        obtain ⟨w17, g17, h⟩ := h
        refine am_sald (n := 424) d_Law_law_423 rfl g17.1 g17.2.1 g17.2.2 ?_
        refine am_callV (kc := 0) (ks := 0) (As := [.int (I 1000 (Int32.toNatClampNeg (v3 + 1))), .int (I 1000 (Int32.toNatClampNeg (v3 + 2)))]) (n := 427) d_Law_law_424 rfl ce_U_read lk_Law_39 in_U_read rfl rfl rfl rfl rfl (Nat.le_of_ble_eq_true rfl) (Or.inl rfl) (cm_U_read (d := d - 1) hw (by omega) rfl h) (by omega) ?_
        rintro _ _ ⟨r11, I5, rfl, rfl, h⟩
        show am_Wp (d, "UnseenRingLaw", b_Law_law, 4, false) 0 0 427 [some (.ref 1000), some (.ref 0), some (.ref 103), some (.int v3)] [.long r11] (I5, L, R, am_SH) (po_Law Q)
        refine am_aload_n (n := 428) d_Law_law_427 rfl rfl ?_
        refine am_aload_n (n := 429) d_Law_law_428 rfl rfl ?_
        refine am_iload_n (n := 430) d_Law_law_429 rfl rfl ?_
        refine am_iconst (n := 431) d_Law_law_430 ci_1 rfl ?_
        refine am_iadd (n := 432) d_Law_law_431 rfl ?_
        obtain ⟨w18, g18, h⟩ := h
        refine am_sald (n := 433) d_Law_law_432 rfl g18.1 g18.2.1 g18.2.2 ?_
        refine am_aload_n (n := 434) d_Law_law_433 rfl rfl ?_
        refine am_iload_n (n := 435) d_Law_law_434 rfl rfl ?_
        refine am_iconst (n := 436) d_Law_law_435 ci_2 rfl ?_
        refine am_iadd (n := 437) d_Law_law_436 rfl ?_
        obtain ⟨w19, g19, h⟩ := h
        refine am_sald (n := 438) d_Law_law_437 rfl g19.1 g19.2.1 g19.2.2 ?_
        refine am_callV (kc := 0) (ks := 0) (As := [.int (I5 1000 (Int32.toNatClampNeg (v3 + 1))), .int (I5 1000 (Int32.toNatClampNeg (v3 + 2)))]) (n := 441) d_Law_law_438 rfl ce_M_read lk_Law_43 in_M_read rfl rfl rfl rfl rfl (Nat.le_of_ble_eq_true rfl) (Or.inl rfl) (cm_M_read (d := d - 1) hw (by omega) rfl h) (by omega) ?_
        rintro _ _ ⟨r12, I6, rfl, rfl, h⟩
        show am_Wp (d, "UnseenRingLaw", b_Law_law, 4, false) 0 0 441 [some (.ref 1000), some (.ref 0), some (.ref 103), some (.int v3)] [.long r12, .long r11] (I6, L, R, am_SH) (po_Law Q)
        refine am_lcmp (n := 442) d_Law_law_441 rfl ?_
        refine am_if_eq (y := 0) (tgt := 1831) (n := 445) d_Law_law_442 rfl rfl (fun c13 => ?_) (fun c13 => ?_)
        · have h := h.1 (am_cmp_eq.mp c13)
          refine am_iinc (v := v3 + 6) (ls' := [some (.ref 1000), some (.ref 0), some (.ref 103), some (.int (v3 + 6))]) (n := 1834) d_Law_law_1831 rfl (congrArg _ ci_6) (by decide) rfl rfl ?_
          refine am_goto (tgt := 18) d_Law_law_1834 rfl ?_
          exact ih I6 L R (v3 + 6) hw h
        · have h := h.2 (fun z => c13 (am_cmp_eq.mpr z))
          refine am_iconst (n := 446) d_Law_law_445 ci_0 rfl ?_
          exact am_iret d_Law_law_446 ⟨false, I6, L, R, rfl, rfl, hw, h⟩
      by_cases c14 : ((I 1000 (Int32.toNatClampNeg v3)) &&& 63) = 6
      · have h := h.2.2.2.2.2.2.1 c14
        refine am_tableIn (off := 414) (tgt := 447) d_Law_law_33 (by rw [c14]; decide) (by rw [c14]; decide) (by rw [c14]; decide +kernel) rfl ?_
        refine am_aload_n (n := 448) d_Law_law_447 rfl rfl ?_
        refine am_aload_n (n := 449) d_Law_law_448 rfl rfl ?_
        refine am_iload_n (n := 450) d_Law_law_449 rfl rfl ?_
        refine am_iconst (n := 451) d_Law_law_450 ci_1 rfl ?_
        refine am_iadd (n := 452) d_Law_law_451 rfl ?_
        obtain ⟨w20, g20, h⟩ := h
        refine am_sald (n := 453) d_Law_law_452 rfl g20.1 g20.2.1 g20.2.2 ?_
        refine am_aload_n (n := 454) d_Law_law_453 rfl rfl ?_
        refine am_iload_n (n := 455) d_Law_law_454 rfl rfl ?_
        refine am_iconst (n := 456) d_Law_law_455 ci_2 rfl ?_
        refine am_iadd (n := 457) d_Law_law_456 rfl ?_
        obtain ⟨w21, g21, h⟩ := h
        refine am_sald (n := 458) d_Law_law_457 rfl g21.1 g21.2.1 g21.2.2 ?_
        refine am_aload_n (n := 459) d_Law_law_458 rfl rfl ?_
        refine am_iload_n (n := 460) d_Law_law_459 rfl rfl ?_
        refine am_iconst (n := 461) d_Law_law_460 ci_3 rfl ?_
        refine am_iadd (n := 462) d_Law_law_461 rfl ?_
        obtain ⟨w22, g22, h⟩ := h
        refine am_sald (n := 463) d_Law_law_462 rfl g22.1 g22.2.1 g22.2.2 ?_
        refine am_aload_n (n := 464) d_Law_law_463 rfl rfl ?_
        refine am_iload_n (n := 465) d_Law_law_464 rfl rfl ?_
        refine am_iconst (n := 466) d_Law_law_465 ci_4 rfl ?_
        refine am_iadd (n := 467) d_Law_law_466 rfl ?_
        obtain ⟨w23, g23, h⟩ := h
        refine am_sald (n := 468) d_Law_law_467 rfl g23.1 g23.2.1 g23.2.2 ?_
        refine am_aload_n (n := 469) d_Law_law_468 rfl rfl ?_
        refine am_iload_n (n := 470) d_Law_law_469 rfl rfl ?_
        refine am_iconst (n := 471) d_Law_law_470 ci_5 rfl ?_
        refine am_iadd (n := 472) d_Law_law_471 rfl ?_
        obtain ⟨w24, g24, h⟩ := h
        refine am_sald (n := 473) d_Law_law_472 rfl g24.1 g24.2.1 g24.2.2 ?_
        refine am_callV (kc := 0) (ks := 0) (As := [.int (I 1000 (Int32.toNatClampNeg (v3 + 1))), .int (I 1000 (Int32.toNatClampNeg (v3 + 2))), .int (I 1000 (Int32.toNatClampNeg (v3 + 3))), .int (I 1000 (Int32.toNatClampNeg (v3 + 4))), .int (I 1000 (Int32.toNatClampNeg (v3 + 5)))]) (n := 476) d_Law_law_473 rfl ce_U_pour lk_Law_44 in_U_pour rfl rfl rfl rfl rfl (Nat.le_of_ble_eq_true rfl) (Or.inl rfl) (cm_U_pour (d := d - 1) hw (by omega) rfl h) (by omega) ?_
        rintro _ _ ⟨r13, I7, L5, rfl, rfl, h⟩
        show am_Wp (d, "UnseenRingLaw", b_Law_law, 4, false) 0 0 476 [some (.ref 1000), some (.ref 0), some (.ref 103), some (.int v3)] [.int (am_b r13)] (I7, L5, R, am_SH) (po_Law Q)
        refine am_aload_n (n := 477) d_Law_law_476 rfl rfl ?_
        refine am_aload_n (n := 478) d_Law_law_477 rfl rfl ?_
        refine am_iload_n (n := 479) d_Law_law_478 rfl rfl ?_
        refine am_iconst (n := 480) d_Law_law_479 ci_1 rfl ?_
        refine am_iadd (n := 481) d_Law_law_480 rfl ?_
        obtain ⟨w25, g25, h⟩ := h
        refine am_sald (n := 482) d_Law_law_481 rfl g25.1 g25.2.1 g25.2.2 ?_
        refine am_aload_n (n := 483) d_Law_law_482 rfl rfl ?_
        refine am_iload_n (n := 484) d_Law_law_483 rfl rfl ?_
        refine am_iconst (n := 485) d_Law_law_484 ci_2 rfl ?_
        refine am_iadd (n := 486) d_Law_law_485 rfl ?_
        obtain ⟨w26, g26, h⟩ := h
        refine am_sald (n := 487) d_Law_law_486 rfl g26.1 g26.2.1 g26.2.2 ?_
        refine am_aload_n (n := 488) d_Law_law_487 rfl rfl ?_
        refine am_iload_n (n := 489) d_Law_law_488 rfl rfl ?_
        refine am_iconst (n := 490) d_Law_law_489 ci_3 rfl ?_
        refine am_iadd (n := 491) d_Law_law_490 rfl ?_
        obtain ⟨w27, g27, h⟩ := h
        refine am_sald (n := 492) d_Law_law_491 rfl g27.1 g27.2.1 g27.2.2 ?_
        refine am_aload_n (n := 493) d_Law_law_492 rfl rfl ?_
        refine am_iload_n (n := 494) d_Law_law_493 rfl rfl ?_
        refine am_iconst (n := 495) d_Law_law_494 ci_4 rfl ?_
        refine am_iadd (n := 496) d_Law_law_495 rfl ?_
        obtain ⟨w28, g28, h⟩ := h
        refine am_sald (n := 497) d_Law_law_496 rfl g28.1 g28.2.1 g28.2.2 ?_
        refine am_aload_n (n := 498) d_Law_law_497 rfl rfl ?_
        refine am_iload_n (n := 499) d_Law_law_498 rfl rfl ?_
        refine am_iconst (n := 500) d_Law_law_499 ci_5 rfl ?_
        refine am_iadd (n := 501) d_Law_law_500 rfl ?_
        obtain ⟨w29, g29, h⟩ := h
        refine am_sald (n := 502) d_Law_law_501 rfl g29.1 g29.2.1 g29.2.2 ?_
        refine am_callV (kc := 0) (ks := 0) (As := [.int (I7 1000 (Int32.toNatClampNeg (v3 + 1))), .int (I7 1000 (Int32.toNatClampNeg (v3 + 2))), .int (I7 1000 (Int32.toNatClampNeg (v3 + 3))), .int (I7 1000 (Int32.toNatClampNeg (v3 + 4))), .int (I7 1000 (Int32.toNatClampNeg (v3 + 5)))]) (n := 505) d_Law_law_502 rfl ce_M_pour lk_Law_48 in_M_pour rfl rfl rfl rfl rfl (Nat.le_of_ble_eq_true rfl) (Or.inl rfl) (cm_M_pour (d := d - 1) hw (by omega) rfl h) (by omega) ?_
        rintro _ _ ⟨r14, I8, L6, rfl, rfl, h⟩
        show am_Wp (d, "UnseenRingLaw", b_Law_law, 4, false) 0 0 505 [some (.ref 1000), some (.ref 0), some (.ref 103), some (.int v3)] [.int (am_b r14), .int (am_b r13)] (I8, L6, R, am_SH) (po_Law Q)
        refine am_icmp_eq (tgt := 1831) (n := 508) d_Law_law_505 rfl rfl (fun c15 => ?_) (fun c15 => ?_)
        · have h := h.1 c15
          refine am_iinc (v := v3 + 6) (ls' := [some (.ref 1000), some (.ref 0), some (.ref 103), some (.int (v3 + 6))]) (n := 1834) d_Law_law_1831 rfl (congrArg _ ci_6) (by decide) rfl rfl ?_
          refine am_goto (tgt := 18) d_Law_law_1834 rfl ?_
          exact ih I8 L6 R (v3 + 6) hw h
        · have h := h.2 c15
          refine am_iconst (n := 509) d_Law_law_508 ci_0 rfl ?_
          exact am_iret d_Law_law_509 ⟨false, I8, L6, R, rfl, rfl, hw, h⟩
      by_cases c16 : ((I 1000 (Int32.toNatClampNeg v3)) &&& 63) = 7
      · have h := h.2.2.2.2.2.2.2.1 c16
        refine am_tableIn (off := 477) (tgt := 510) d_Law_law_33 (by rw [c16]; decide) (by rw [c16]; decide) (by rw [c16]; decide +kernel) rfl ?_
        refine am_aload_n (n := 511) d_Law_law_510 rfl rfl ?_
        refine am_aload_n (n := 512) d_Law_law_511 rfl rfl ?_
        refine am_iload_n (n := 513) d_Law_law_512 rfl rfl ?_
        refine am_iconst (n := 514) d_Law_law_513 ci_1 rfl ?_
        refine am_iadd (n := 515) d_Law_law_514 rfl ?_
        obtain ⟨w30, g30, h⟩ := h
        refine am_sald (n := 516) d_Law_law_515 rfl g30.1 g30.2.1 g30.2.2 ?_
        refine am_aload_n (n := 517) d_Law_law_516 rfl rfl ?_
        refine am_iload_n (n := 518) d_Law_law_517 rfl rfl ?_
        refine am_iconst (n := 519) d_Law_law_518 ci_2 rfl ?_
        refine am_iadd (n := 520) d_Law_law_519 rfl ?_
        obtain ⟨w31, g31, h⟩ := h
        refine am_sald (n := 521) d_Law_law_520 rfl g31.1 g31.2.1 g31.2.2 ?_
        refine am_aload_n (n := 522) d_Law_law_521 rfl rfl ?_
        refine am_iload_n (n := 523) d_Law_law_522 rfl rfl ?_
        refine am_iconst (n := 524) d_Law_law_523 ci_3 rfl ?_
        refine am_iadd (n := 525) d_Law_law_524 rfl ?_
        obtain ⟨w32, g32, h⟩ := h
        refine am_sald (n := 526) d_Law_law_525 rfl g32.1 g32.2.1 g32.2.2 ?_
        refine am_aload_n (n := 527) d_Law_law_526 rfl rfl ?_
        refine am_iload_n (n := 528) d_Law_law_527 rfl rfl ?_
        refine am_iconst (n := 529) d_Law_law_528 ci_4 rfl ?_
        refine am_iadd (n := 530) d_Law_law_529 rfl ?_
        obtain ⟨w33, g33, h⟩ := h
        refine am_sald (n := 531) d_Law_law_530 rfl g33.1 g33.2.1 g33.2.2 ?_
        refine am_aload_n (n := 532) d_Law_law_531 rfl rfl ?_
        refine am_iload_n (n := 533) d_Law_law_532 rfl rfl ?_
        refine am_iconst (n := 534) d_Law_law_533 ci_5 rfl ?_
        refine am_iadd (n := 535) d_Law_law_534 rfl ?_
        obtain ⟨w34, g34, h⟩ := h
        refine am_sald (n := 536) d_Law_law_535 rfl g34.1 g34.2.1 g34.2.2 ?_
        refine am_callV (kc := 0) (ks := 0) (As := [.int (I 1000 (Int32.toNatClampNeg (v3 + 1))), .int (I 1000 (Int32.toNatClampNeg (v3 + 2))), .int (I 1000 (Int32.toNatClampNeg (v3 + 3))), .int (I 1000 (Int32.toNatClampNeg (v3 + 4))), .int (I 1000 (Int32.toNatClampNeg (v3 + 5)))]) (n := 539) d_Law_law_536 rfl ce_U_feed lk_Law_49 in_U_feed rfl rfl rfl rfl rfl (Nat.le_of_ble_eq_true rfl) (Or.inl rfl) (cm_U_feed (d := d - 1) hw (by omega) rfl h) (by omega) ?_
        rintro _ _ ⟨r15, I9, rfl, rfl, h⟩
        show am_Wp (d, "UnseenRingLaw", b_Law_law, 4, false) 0 0 539 [some (.ref 1000), some (.ref 0), some (.ref 103), some (.int v3)] [.int r15] (I9, L, R, am_SH) (po_Law Q)
        refine am_aload_n (n := 540) d_Law_law_539 rfl rfl ?_
        refine am_aload_n (n := 541) d_Law_law_540 rfl rfl ?_
        refine am_iload_n (n := 542) d_Law_law_541 rfl rfl ?_
        refine am_iconst (n := 543) d_Law_law_542 ci_1 rfl ?_
        refine am_iadd (n := 544) d_Law_law_543 rfl ?_
        obtain ⟨w35, g35, h⟩ := h
        refine am_sald (n := 545) d_Law_law_544 rfl g35.1 g35.2.1 g35.2.2 ?_
        refine am_aload_n (n := 546) d_Law_law_545 rfl rfl ?_
        refine am_iload_n (n := 547) d_Law_law_546 rfl rfl ?_
        refine am_iconst (n := 548) d_Law_law_547 ci_2 rfl ?_
        refine am_iadd (n := 549) d_Law_law_548 rfl ?_
        obtain ⟨w36, g36, h⟩ := h
        refine am_sald (n := 550) d_Law_law_549 rfl g36.1 g36.2.1 g36.2.2 ?_
        refine am_aload_n (n := 551) d_Law_law_550 rfl rfl ?_
        refine am_iload_n (n := 552) d_Law_law_551 rfl rfl ?_
        refine am_iconst (n := 553) d_Law_law_552 ci_3 rfl ?_
        refine am_iadd (n := 554) d_Law_law_553 rfl ?_
        obtain ⟨w37, g37, h⟩ := h
        refine am_sald (n := 555) d_Law_law_554 rfl g37.1 g37.2.1 g37.2.2 ?_
        refine am_aload_n (n := 556) d_Law_law_555 rfl rfl ?_
        refine am_iload_n (n := 557) d_Law_law_556 rfl rfl ?_
        refine am_iconst (n := 558) d_Law_law_557 ci_4 rfl ?_
        refine am_iadd (n := 559) d_Law_law_558 rfl ?_
        obtain ⟨w38, g38, h⟩ := h
        refine am_sald (n := 560) d_Law_law_559 rfl g38.1 g38.2.1 g38.2.2 ?_
        refine am_aload_n (n := 561) d_Law_law_560 rfl rfl ?_
        refine am_iload_n (n := 562) d_Law_law_561 rfl rfl ?_
        refine am_iconst (n := 563) d_Law_law_562 ci_5 rfl ?_
        refine am_iadd (n := 564) d_Law_law_563 rfl ?_
        obtain ⟨w39, g39, h⟩ := h
        refine am_sald (n := 565) d_Law_law_564 rfl g39.1 g39.2.1 g39.2.2 ?_
        refine am_callV (kc := 0) (ks := 0) (As := [.int (I9 1000 (Int32.toNatClampNeg (v3 + 1))), .int (I9 1000 (Int32.toNatClampNeg (v3 + 2))), .int (I9 1000 (Int32.toNatClampNeg (v3 + 3))), .int (I9 1000 (Int32.toNatClampNeg (v3 + 4))), .int (I9 1000 (Int32.toNatClampNeg (v3 + 5)))]) (n := 568) d_Law_law_565 rfl ce_M_feed lk_Law_53 in_M_feed rfl rfl rfl rfl rfl (Nat.le_of_ble_eq_true rfl) (Or.inl rfl) (cm_M_feed (d := d - 1) hw (by omega) rfl h) (by omega) ?_
        rintro _ _ ⟨r16, I10, rfl, rfl, h⟩
        show am_Wp (d, "UnseenRingLaw", b_Law_law, 4, false) 0 0 568 [some (.ref 1000), some (.ref 0), some (.ref 103), some (.int v3)] [.int r16, .int r15] (I10, L, R, am_SH) (po_Law Q)
        refine am_icmp_eq (tgt := 1831) (n := 571) d_Law_law_568 rfl rfl (fun c17 => ?_) (fun c17 => ?_)
        · have h := h.1 c17
          refine am_iinc (v := v3 + 6) (ls' := [some (.ref 1000), some (.ref 0), some (.ref 103), some (.int (v3 + 6))]) (n := 1834) d_Law_law_1831 rfl (congrArg _ ci_6) (by decide) rfl rfl ?_
          refine am_goto (tgt := 18) d_Law_law_1834 rfl ?_
          exact ih I10 L R (v3 + 6) hw h
        · have h := h.2 c17
          refine am_iconst (n := 572) d_Law_law_571 ci_0 rfl ?_
          exact am_iret d_Law_law_572 ⟨false, I10, L, R, rfl, rfl, hw, h⟩
      by_cases c18 : ((I 1000 (Int32.toNatClampNeg v3)) &&& 63) = 8
      · have h := h.2.2.2.2.2.2.2.2.1 c18
        refine am_tableIn (off := 540) (tgt := 573) d_Law_law_33 (by rw [c18]; decide) (by rw [c18]; decide) (by rw [c18]; decide +kernel) rfl ?_
        refine am_aload_n (n := 574) d_Law_law_573 rfl rfl ?_
        refine am_aload_n (n := 575) d_Law_law_574 rfl rfl ?_
        refine am_iload_n (n := 576) d_Law_law_575 rfl rfl ?_
        refine am_iconst (n := 577) d_Law_law_576 ci_1 rfl ?_
        refine am_iadd (n := 578) d_Law_law_577 rfl ?_
        obtain ⟨w40, g40, h⟩ := h
        refine am_sald (n := 579) d_Law_law_578 rfl g40.1 g40.2.1 g40.2.2 ?_
        refine am_callV (kc := 0) (ks := 0) (As := [.int (I 1000 (Int32.toNatClampNeg (v3 + 1)))]) (n := 582) d_Law_law_579 rfl ce_U_square lk_Law_54 in_U_square rfl rfl rfl rfl rfl (Nat.le_of_ble_eq_true rfl) (Or.inl rfl) (cm_U_square (d := d - 1) hw (by omega) rfl h) (by omega) ?_
        rintro _ _ ⟨r17, I11, L7, R1, rfl, rfl, hw1, h⟩
        show am_Wp (d, "UnseenRingLaw", b_Law_law, 4, false) 0 0 582 [some (.ref 1000), some (.ref 0), some (.ref 103), some (.int v3)] [.int r17] (I11, L7, R1, am_SH) (po_Law Q)
        refine am_aload_n (n := 583) d_Law_law_582 rfl rfl ?_
        refine am_aload_n (n := 584) d_Law_law_583 rfl rfl ?_
        refine am_iload_n (n := 585) d_Law_law_584 rfl rfl ?_
        refine am_iconst (n := 586) d_Law_law_585 ci_1 rfl ?_
        refine am_iadd (n := 587) d_Law_law_586 rfl ?_
        obtain ⟨w41, g41, h⟩ := h
        refine am_sald (n := 588) d_Law_law_587 rfl g41.1 g41.2.1 g41.2.2 ?_
        refine am_callV (kc := 0) (ks := 0) (As := [.int (I11 1000 (Int32.toNatClampNeg (v3 + 1)))]) (n := 591) d_Law_law_588 rfl ce_M_square lk_Law_58 in_M_square rfl rfl rfl rfl rfl (Nat.le_of_ble_eq_true rfl) (Or.inl rfl) (cm_M_square (d := d - 1) hw1 (by omega) rfl h) (by omega) ?_
        rintro _ _ ⟨r18, I12, L8, rfl, rfl, h⟩
        show am_Wp (d, "UnseenRingLaw", b_Law_law, 4, false) 0 0 591 [some (.ref 1000), some (.ref 0), some (.ref 103), some (.int v3)] [.int r18, .int r17] (I12, L8, R1, am_SH) (po_Law Q)
        refine am_icmp_eq (tgt := 1831) (n := 594) d_Law_law_591 rfl rfl (fun c19 => ?_) (fun c19 => ?_)
        · have h := h.1 c19
          refine am_iinc (v := v3 + 6) (ls' := [some (.ref 1000), some (.ref 0), some (.ref 103), some (.int (v3 + 6))]) (n := 1834) d_Law_law_1831 rfl (congrArg _ ci_6) (by decide) rfl rfl ?_
          refine am_goto (tgt := 18) d_Law_law_1834 rfl ?_
          exact ih I12 L8 R1 (v3 + 6) hw1 h
        · have h := h.2 c19
          refine am_iconst (n := 595) d_Law_law_594 ci_0 rfl ?_
          exact am_iret d_Law_law_595 ⟨false, I12, L8, R1, rfl, rfl, hw1, h⟩
      by_cases c20 : ((I 1000 (Int32.toNatClampNeg v3)) &&& 63) = 9
      · have h := h.2.2.2.2.2.2.2.2.2.1 c20
        refine am_tableIn (off := 563) (tgt := 596) d_Law_law_33 (by rw [c20]; decide) (by rw [c20]; decide) (by rw [c20]; decide +kernel) rfl ?_
        refine am_aload_n (n := 597) d_Law_law_596 rfl rfl ?_
        refine am_aload_n (n := 598) d_Law_law_597 rfl rfl ?_
        refine am_iload_n (n := 599) d_Law_law_598 rfl rfl ?_
        refine am_iconst (n := 600) d_Law_law_599 ci_1 rfl ?_
        refine am_iadd (n := 601) d_Law_law_600 rfl ?_
        obtain ⟨w42, g42, h⟩ := h
        refine am_sald (n := 602) d_Law_law_601 rfl g42.1 g42.2.1 g42.2.2 ?_
        refine am_callV (kc := 0) (ks := 0) (As := [.int (I 1000 (Int32.toNatClampNeg (v3 + 1)))]) (n := 605) d_Law_law_602 rfl ce_U_days lk_Law_59 in_U_days rfl rfl rfl rfl rfl (Nat.le_of_ble_eq_true rfl) (Or.inl rfl) (cm_U_days (d := d - 1) hw (by omega) rfl h) (by omega) ?_
        rintro _ _ ⟨r19, I13, L9, R2, rfl, rfl, hw2, h⟩
        show am_Wp (d, "UnseenRingLaw", b_Law_law, 4, false) 0 0 605 [some (.ref 1000), some (.ref 0), some (.ref 103), some (.int v3)] [.int r19] (I13, L9, R2, am_SH) (po_Law Q)
        refine am_aload_n (n := 606) d_Law_law_605 rfl rfl ?_
        refine am_aload_n (n := 607) d_Law_law_606 rfl rfl ?_
        refine am_iload_n (n := 608) d_Law_law_607 rfl rfl ?_
        refine am_iconst (n := 609) d_Law_law_608 ci_1 rfl ?_
        refine am_iadd (n := 610) d_Law_law_609 rfl ?_
        obtain ⟨w43, g43, h⟩ := h
        refine am_sald (n := 611) d_Law_law_610 rfl g43.1 g43.2.1 g43.2.2 ?_
        refine am_callV (kc := 0) (ks := 0) (As := [.int (I13 1000 (Int32.toNatClampNeg (v3 + 1)))]) (n := 614) d_Law_law_611 rfl ce_M_days lk_Law_62 in_M_days rfl rfl rfl rfl rfl (Nat.le_of_ble_eq_true rfl) (Or.inl rfl) (cm_M_days (d := d - 1) hw2 (by omega) rfl h) (by omega) ?_
        rintro _ _ ⟨r20, I14, rfl, rfl, h⟩
        show am_Wp (d, "UnseenRingLaw", b_Law_law, 4, false) 0 0 614 [some (.ref 1000), some (.ref 0), some (.ref 103), some (.int v3)] [.int r20, .int r19] (I14, L9, R2, am_SH) (po_Law Q)
        refine am_icmp_eq (tgt := 1831) (n := 617) d_Law_law_614 rfl rfl (fun c21 => ?_) (fun c21 => ?_)
        · have h := h.1 c21
          refine am_iinc (v := v3 + 6) (ls' := [some (.ref 1000), some (.ref 0), some (.ref 103), some (.int (v3 + 6))]) (n := 1834) d_Law_law_1831 rfl (congrArg _ ci_6) (by decide) rfl rfl ?_
          refine am_goto (tgt := 18) d_Law_law_1834 rfl ?_
          exact ih I14 L9 R2 (v3 + 6) hw2 h
        · have h := h.2 c21
          refine am_iconst (n := 618) d_Law_law_617 ci_0 rfl ?_
          exact am_iret d_Law_law_618 ⟨false, I14, L9, R2, rfl, rfl, hw2, h⟩
      by_cases c22 : ((I 1000 (Int32.toNatClampNeg v3)) &&& 63) = 10
      · have h := h.2.2.2.2.2.2.2.2.2.2.1 c22
        refine am_tableIn (off := 586) (tgt := 619) d_Law_law_33 (by rw [c22]; decide) (by rw [c22]; decide) (by rw [c22]; decide +kernel) rfl ?_
        refine am_aload_n (n := 620) d_Law_law_619 rfl rfl ?_
        refine am_aload_n (n := 621) d_Law_law_620 rfl rfl ?_
        refine am_iload_n (n := 622) d_Law_law_621 rfl rfl ?_
        refine am_iconst (n := 623) d_Law_law_622 ci_1 rfl ?_
        refine am_iadd (n := 624) d_Law_law_623 rfl ?_
        obtain ⟨w44, g44, h⟩ := h
        refine am_sald (n := 625) d_Law_law_624 rfl g44.1 g44.2.1 g44.2.2 ?_
        refine am_callV (kc := 0) (ks := 0) (As := [.int (I 1000 (Int32.toNatClampNeg (v3 + 1)))]) (n := 628) d_Law_law_625 rfl ce_U_fault lk_Law_63 in_U_fault rfl rfl rfl rfl rfl (Nat.le_of_ble_eq_true rfl) (Or.inl rfl) (cm_U_fault (d := d - 1) hw (by omega) rfl h) (by omega) ?_
        rintro _ _ ⟨r21, rfl, rfl, h⟩
        show am_Wp (d, "UnseenRingLaw", b_Law_law, 4, false) 0 0 628 [some (.ref 1000), some (.ref 0), some (.ref 103), some (.int v3)] [.int r21] (I, L, R, am_SH) (po_Law Q)
        refine am_aload_n (n := 629) d_Law_law_628 rfl rfl ?_
        refine am_aload_n (n := 630) d_Law_law_629 rfl rfl ?_
        refine am_iload_n (n := 631) d_Law_law_630 rfl rfl ?_
        refine am_iconst (n := 632) d_Law_law_631 ci_1 rfl ?_
        refine am_iadd (n := 633) d_Law_law_632 rfl ?_
        obtain ⟨w45, g45, h⟩ := h
        refine am_sald (n := 634) d_Law_law_633 rfl g45.1 g45.2.1 g45.2.2 ?_
        refine am_callV (kc := 0) (ks := 0) (As := [.int (I 1000 (Int32.toNatClampNeg (v3 + 1)))]) (n := 637) d_Law_law_634 rfl ce_M_fault lk_Law_66 in_M_fault rfl rfl rfl rfl rfl (Nat.le_of_ble_eq_true rfl) (Or.inl rfl) (cm_M_fault (d := d - 1) hw (by omega) rfl h) (by omega) ?_
        rintro _ _ ⟨r22, rfl, rfl, h⟩
        show am_Wp (d, "UnseenRingLaw", b_Law_law, 4, false) 0 0 637 [some (.ref 1000), some (.ref 0), some (.ref 103), some (.int v3)] [.int r22, .int r21] (I, L, R, am_SH) (po_Law Q)
        refine am_icmp_eq (tgt := 1831) (n := 640) d_Law_law_637 rfl rfl (fun c23 => ?_) (fun c23 => ?_)
        · have h := h.1 c23
          refine am_iinc (v := v3 + 6) (ls' := [some (.ref 1000), some (.ref 0), some (.ref 103), some (.int (v3 + 6))]) (n := 1834) d_Law_law_1831 rfl (congrArg _ ci_6) (by decide) rfl rfl ?_
          refine am_goto (tgt := 18) d_Law_law_1834 rfl ?_
          exact ih I L R (v3 + 6) hw h
        · have h := h.2 c23
          refine am_iconst (n := 641) d_Law_law_640 ci_0 rfl ?_
          exact am_iret d_Law_law_641 ⟨false, I, L, R, rfl, rfl, hw, h⟩
      by_cases c24 : ((I 1000 (Int32.toNatClampNeg v3)) &&& 63) = 11
      · have h := h.2.2.2.2.2.2.2.2.2.2.2.1 c24
        refine am_tableIn (off := 609) (tgt := 642) d_Law_law_33 (by rw [c24]; decide) (by rw [c24]; decide) (by rw [c24]; decide +kernel) rfl ?_
        refine am_aload_n (n := 643) d_Law_law_642 rfl rfl ?_
        refine am_aload_n (n := 644) d_Law_law_643 rfl rfl ?_
        refine am_iload_n (n := 645) d_Law_law_644 rfl rfl ?_
        refine am_iconst (n := 646) d_Law_law_645 ci_1 rfl ?_
        refine am_iadd (n := 647) d_Law_law_646 rfl ?_
        obtain ⟨w46, g46, h⟩ := h
        refine am_sald (n := 648) d_Law_law_647 rfl g46.1 g46.2.1 g46.2.2 ?_
        refine am_callV (kc := 0) (ks := 0) (As := [.int (I 1000 (Int32.toNatClampNeg (v3 + 1)))]) (n := 651) d_Law_law_648 rfl ce_U_told lk_Law_67 in_U_told rfl rfl rfl rfl rfl (Nat.le_of_ble_eq_true rfl) (Or.inl rfl) (cm_U_told (d := d - 1) hw (by omega) rfl h) (by omega) ?_
        rintro _ _ ⟨r23, I15, rfl, rfl, h⟩
        show am_Wp (d, "UnseenRingLaw", b_Law_law, 4, false) 0 0 651 [some (.ref 1000), some (.ref 0), some (.ref 103), some (.int v3)] [.int r23] (I15, L, R, am_SH) (po_Law Q)
        refine am_aload_n (n := 652) d_Law_law_651 rfl rfl ?_
        refine am_aload_n (n := 653) d_Law_law_652 rfl rfl ?_
        refine am_iload_n (n := 654) d_Law_law_653 rfl rfl ?_
        refine am_iconst (n := 655) d_Law_law_654 ci_1 rfl ?_
        refine am_iadd (n := 656) d_Law_law_655 rfl ?_
        obtain ⟨w47, g47, h⟩ := h
        refine am_sald (n := 657) d_Law_law_656 rfl g47.1 g47.2.1 g47.2.2 ?_
        refine am_callV (kc := 0) (ks := 0) (As := [.int (I15 1000 (Int32.toNatClampNeg (v3 + 1)))]) (n := 660) d_Law_law_657 rfl ce_M_told lk_Law_70 in_M_told rfl rfl rfl rfl rfl (Nat.le_of_ble_eq_true rfl) (Or.inl rfl) (cm_M_told (d := d - 1) hw (by omega) rfl h) (by omega) ?_
        rintro _ _ ⟨r24, I16, rfl, rfl, h⟩
        show am_Wp (d, "UnseenRingLaw", b_Law_law, 4, false) 0 0 660 [some (.ref 1000), some (.ref 0), some (.ref 103), some (.int v3)] [.int r24, .int r23] (I16, L, R, am_SH) (po_Law Q)
        refine am_icmp_eq (tgt := 1831) (n := 663) d_Law_law_660 rfl rfl (fun c25 => ?_) (fun c25 => ?_)
        · have h := h.1 c25
          refine am_iinc (v := v3 + 6) (ls' := [some (.ref 1000), some (.ref 0), some (.ref 103), some (.int (v3 + 6))]) (n := 1834) d_Law_law_1831 rfl (congrArg _ ci_6) (by decide) rfl rfl ?_
          refine am_goto (tgt := 18) d_Law_law_1834 rfl ?_
          exact ih I16 L R (v3 + 6) hw h
        · have h := h.2 c25
          refine am_iconst (n := 664) d_Law_law_663 ci_0 rfl ?_
          exact am_iret d_Law_law_664 ⟨false, I16, L, R, rfl, rfl, hw, h⟩
      by_cases c26 : ((I 1000 (Int32.toNatClampNeg v3)) &&& 63) = 12
      · have h := h.2.2.2.2.2.2.2.2.2.2.2.2.1 c26
        refine am_tableIn (off := 632) (tgt := 665) d_Law_law_33 (by rw [c26]; decide) (by rw [c26]; decide) (by rw [c26]; decide +kernel) rfl ?_
        refine am_aload_n (n := 666) d_Law_law_665 rfl rfl ?_
        refine am_aload_n (n := 667) d_Law_law_666 rfl rfl ?_
        refine am_iload_n (n := 668) d_Law_law_667 rfl rfl ?_
        refine am_iconst (n := 669) d_Law_law_668 ci_1 rfl ?_
        refine am_iadd (n := 670) d_Law_law_669 rfl ?_
        obtain ⟨w48, g48, h⟩ := h
        refine am_sald (n := 671) d_Law_law_670 rfl g48.1 g48.2.1 g48.2.2 ?_
        refine am_aload_n (n := 672) d_Law_law_671 rfl rfl ?_
        refine am_iload_n (n := 673) d_Law_law_672 rfl rfl ?_
        refine am_iconst (n := 674) d_Law_law_673 ci_2 rfl ?_
        refine am_iadd (n := 675) d_Law_law_674 rfl ?_
        obtain ⟨w49, g49, h⟩ := h
        refine am_sald (n := 676) d_Law_law_675 rfl g49.1 g49.2.1 g49.2.2 ?_
        refine am_callV (kc := 0) (ks := 0) (As := [.int (I 1000 (Int32.toNatClampNeg (v3 + 1))), .int (I 1000 (Int32.toNatClampNeg (v3 + 2)))]) (n := 679) d_Law_law_676 rfl ce_U_hearer lk_Law_71 in_U_hearer rfl rfl rfl rfl rfl (Nat.le_of_ble_eq_true rfl) (Or.inl rfl) (cm_U_hearer (d := d - 1) hw (by omega) rfl h) (by omega) ?_
        rintro _ _ ⟨r25, I17, rfl, rfl, h⟩
        show am_Wp (d, "UnseenRingLaw", b_Law_law, 4, false) 0 0 679 [some (.ref 1000), some (.ref 0), some (.ref 103), some (.int v3)] [.int r25] (I17, L, R, am_SH) (po_Law Q)
        refine am_aload_n (n := 680) d_Law_law_679 rfl rfl ?_
        refine am_aload_n (n := 681) d_Law_law_680 rfl rfl ?_
        refine am_iload_n (n := 682) d_Law_law_681 rfl rfl ?_
        refine am_iconst (n := 683) d_Law_law_682 ci_1 rfl ?_
        refine am_iadd (n := 684) d_Law_law_683 rfl ?_
        obtain ⟨w50, g50, h⟩ := h
        refine am_sald (n := 685) d_Law_law_684 rfl g50.1 g50.2.1 g50.2.2 ?_
        refine am_aload_n (n := 686) d_Law_law_685 rfl rfl ?_
        refine am_iload_n (n := 687) d_Law_law_686 rfl rfl ?_
        refine am_iconst (n := 688) d_Law_law_687 ci_2 rfl ?_
        refine am_iadd (n := 689) d_Law_law_688 rfl ?_
        obtain ⟨w51, g51, h⟩ := h
        refine am_sald (n := 690) d_Law_law_689 rfl g51.1 g51.2.1 g51.2.2 ?_
        refine am_callV (kc := 0) (ks := 0) (As := [.int (I17 1000 (Int32.toNatClampNeg (v3 + 1))), .int (I17 1000 (Int32.toNatClampNeg (v3 + 2)))]) (n := 693) d_Law_law_690 rfl ce_M_hearer lk_Law_75 in_M_hearer rfl rfl rfl rfl rfl (Nat.le_of_ble_eq_true rfl) (Or.inl rfl) (cm_M_hearer (d := d - 1) hw (by omega) rfl h) (by omega) ?_
        rintro _ _ ⟨r26, I18, rfl, rfl, h⟩
        show am_Wp (d, "UnseenRingLaw", b_Law_law, 4, false) 0 0 693 [some (.ref 1000), some (.ref 0), some (.ref 103), some (.int v3)] [.int r26, .int r25] (I18, L, R, am_SH) (po_Law Q)
        refine am_icmp_eq (tgt := 1831) (n := 696) d_Law_law_693 rfl rfl (fun c27 => ?_) (fun c27 => ?_)
        · have h := h.1 c27
          refine am_iinc (v := v3 + 6) (ls' := [some (.ref 1000), some (.ref 0), some (.ref 103), some (.int (v3 + 6))]) (n := 1834) d_Law_law_1831 rfl (congrArg _ ci_6) (by decide) rfl rfl ?_
          refine am_goto (tgt := 18) d_Law_law_1834 rfl ?_
          exact ih I18 L R (v3 + 6) hw h
        · have h := h.2 c27
          refine am_iconst (n := 697) d_Law_law_696 ci_0 rfl ?_
          exact am_iret d_Law_law_697 ⟨false, I18, L, R, rfl, rfl, hw, h⟩
      by_cases c28 : ((I 1000 (Int32.toNatClampNeg v3)) &&& 63) = 13
      · have h := h.2.2.2.2.2.2.2.2.2.2.2.2.2.1 c28
        refine am_tableIn (off := 665) (tgt := 698) d_Law_law_33 (by rw [c28]; decide) (by rw [c28]; decide) (by rw [c28]; decide +kernel) rfl ?_
        refine am_aload_n (n := 699) d_Law_law_698 rfl rfl ?_
        refine am_aload_n (n := 700) d_Law_law_699 rfl rfl ?_
        refine am_iload_n (n := 701) d_Law_law_700 rfl rfl ?_
        refine am_iconst (n := 702) d_Law_law_701 ci_1 rfl ?_
        refine am_iadd (n := 703) d_Law_law_702 rfl ?_
        obtain ⟨w52, g52, h⟩ := h
        refine am_sald (n := 704) d_Law_law_703 rfl g52.1 g52.2.1 g52.2.2 ?_
        refine am_aload_n (n := 705) d_Law_law_704 rfl rfl ?_
        refine am_iload_n (n := 706) d_Law_law_705 rfl rfl ?_
        refine am_iconst (n := 707) d_Law_law_706 ci_2 rfl ?_
        refine am_iadd (n := 708) d_Law_law_707 rfl ?_
        obtain ⟨w53, g53, h⟩ := h
        refine am_sald (n := 709) d_Law_law_708 rfl g53.1 g53.2.1 g53.2.2 ?_
        refine am_callV (kc := 0) (ks := 0) (As := [.int (I 1000 (Int32.toNatClampNeg (v3 + 1))), .int (I 1000 (Int32.toNatClampNeg (v3 + 2)))]) (n := 712) d_Law_law_709 rfl ce_U_dog lk_Law_76 in_U_dog rfl rfl rfl rfl rfl (Nat.le_of_ble_eq_true rfl) (Or.inl rfl) (cm_U_dog (d := d - 1) hw (by omega) rfl h) (by omega) ?_
        rintro _ _ ⟨r27, I19, rfl, rfl, h⟩
        show am_Wp (d, "UnseenRingLaw", b_Law_law, 4, false) 0 0 712 [some (.ref 1000), some (.ref 0), some (.ref 103), some (.int v3)] [.int r27] (I19, L, R, am_SH) (po_Law Q)
        refine am_aload_n (n := 713) d_Law_law_712 rfl rfl ?_
        refine am_aload_n (n := 714) d_Law_law_713 rfl rfl ?_
        refine am_iload_n (n := 715) d_Law_law_714 rfl rfl ?_
        refine am_iconst (n := 716) d_Law_law_715 ci_1 rfl ?_
        refine am_iadd (n := 717) d_Law_law_716 rfl ?_
        obtain ⟨w54, g54, h⟩ := h
        refine am_sald (n := 718) d_Law_law_717 rfl g54.1 g54.2.1 g54.2.2 ?_
        refine am_aload_n (n := 719) d_Law_law_718 rfl rfl ?_
        refine am_iload_n (n := 720) d_Law_law_719 rfl rfl ?_
        refine am_iconst (n := 721) d_Law_law_720 ci_2 rfl ?_
        refine am_iadd (n := 722) d_Law_law_721 rfl ?_
        obtain ⟨w55, g55, h⟩ := h
        refine am_sald (n := 723) d_Law_law_722 rfl g55.1 g55.2.1 g55.2.2 ?_
        refine am_callV (kc := 0) (ks := 0) (As := [.int (I19 1000 (Int32.toNatClampNeg (v3 + 1))), .int (I19 1000 (Int32.toNatClampNeg (v3 + 2)))]) (n := 726) d_Law_law_723 rfl ce_M_dog lk_Law_79 in_M_dog rfl rfl rfl rfl rfl (Nat.le_of_ble_eq_true rfl) (Or.inl rfl) (cm_M_dog (d := d - 1) hw (by omega) rfl h) (by omega) ?_
        rintro _ _ ⟨r28, I20, rfl, rfl, h⟩
        show am_Wp (d, "UnseenRingLaw", b_Law_law, 4, false) 0 0 726 [some (.ref 1000), some (.ref 0), some (.ref 103), some (.int v3)] [.int r28, .int r27] (I20, L, R, am_SH) (po_Law Q)
        refine am_icmp_eq (tgt := 1831) (n := 729) d_Law_law_726 rfl rfl (fun c29 => ?_) (fun c29 => ?_)
        · have h := h.1 c29
          refine am_iinc (v := v3 + 6) (ls' := [some (.ref 1000), some (.ref 0), some (.ref 103), some (.int (v3 + 6))]) (n := 1834) d_Law_law_1831 rfl (congrArg _ ci_6) (by decide) rfl rfl ?_
          refine am_goto (tgt := 18) d_Law_law_1834 rfl ?_
          exact ih I20 L R (v3 + 6) hw h
        · have h := h.2 c29
          refine am_iconst (n := 730) d_Law_law_729 ci_0 rfl ?_
          exact am_iret d_Law_law_730 ⟨false, I20, L, R, rfl, rfl, hw, h⟩
      by_cases c30 : ((I 1000 (Int32.toNatClampNeg v3)) &&& 63) = 14
      · have h := h.2.2.2.2.2.2.2.2.2.2.2.2.2.2.1 c30
        refine am_tableIn (off := 698) (tgt := 731) d_Law_law_33 (by rw [c30]; decide) (by rw [c30]; decide) (by rw [c30]; decide +kernel) rfl ?_
        refine am_aload_n (n := 732) d_Law_law_731 rfl rfl ?_
        refine am_aload_n (n := 733) d_Law_law_732 rfl rfl ?_
        refine am_iload_n (n := 734) d_Law_law_733 rfl rfl ?_
        refine am_iconst (n := 735) d_Law_law_734 ci_1 rfl ?_
        refine am_iadd (n := 736) d_Law_law_735 rfl ?_
        obtain ⟨w56, g56, h⟩ := h
        refine am_sald (n := 737) d_Law_law_736 rfl g56.1 g56.2.1 g56.2.2 ?_
        refine am_aload_n (n := 738) d_Law_law_737 rfl rfl ?_
        refine am_iload_n (n := 739) d_Law_law_738 rfl rfl ?_
        refine am_iconst (n := 740) d_Law_law_739 ci_2 rfl ?_
        refine am_iadd (n := 741) d_Law_law_740 rfl ?_
        obtain ⟨w57, g57, h⟩ := h
        refine am_sald (n := 742) d_Law_law_741 rfl g57.1 g57.2.1 g57.2.2 ?_
        refine am_callV (kc := 0) (ks := 0) (As := [.int (I 1000 (Int32.toNatClampNeg (v3 + 1))), .int (I 1000 (Int32.toNatClampNeg (v3 + 2)))]) (n := 745) d_Law_law_742 rfl ce_U_cell lk_Law_80 in_U_cell rfl rfl rfl rfl rfl (Nat.le_of_ble_eq_true rfl) (Or.inl rfl) (cm_U_cell (d := d - 1) hw (by omega) rfl h) (by omega) ?_
        rintro _ _ ⟨r29, I21, rfl, rfl, h⟩
        show am_Wp (d, "UnseenRingLaw", b_Law_law, 4, false) 0 0 745 [some (.ref 1000), some (.ref 0), some (.ref 103), some (.int v3)] [.int r29] (I21, L, R, am_SH) (po_Law Q)
        refine am_aload_n (n := 746) d_Law_law_745 rfl rfl ?_
        refine am_aload_n (n := 747) d_Law_law_746 rfl rfl ?_
        refine am_iload_n (n := 748) d_Law_law_747 rfl rfl ?_
        refine am_iconst (n := 749) d_Law_law_748 ci_1 rfl ?_
        refine am_iadd (n := 750) d_Law_law_749 rfl ?_
        obtain ⟨w58, g58, h⟩ := h
        refine am_sald (n := 751) d_Law_law_750 rfl g58.1 g58.2.1 g58.2.2 ?_
        refine am_aload_n (n := 752) d_Law_law_751 rfl rfl ?_
        refine am_iload_n (n := 753) d_Law_law_752 rfl rfl ?_
        refine am_iconst (n := 754) d_Law_law_753 ci_2 rfl ?_
        refine am_iadd (n := 755) d_Law_law_754 rfl ?_
        obtain ⟨w59, g59, h⟩ := h
        refine am_sald (n := 756) d_Law_law_755 rfl g59.1 g59.2.1 g59.2.2 ?_
        refine am_callV (kc := 0) (ks := 0) (As := [.int (I21 1000 (Int32.toNatClampNeg (v3 + 1))), .int (I21 1000 (Int32.toNatClampNeg (v3 + 2)))]) (n := 759) d_Law_law_756 rfl ce_M_cell lk_Law_83 in_M_cell rfl rfl rfl rfl rfl (Nat.le_of_ble_eq_true rfl) (Or.inl rfl) (cm_M_cell (d := d - 1) hw (by omega) rfl h) (by omega) ?_
        rintro _ _ ⟨r30, I22, rfl, rfl, h⟩
        show am_Wp (d, "UnseenRingLaw", b_Law_law, 4, false) 0 0 759 [some (.ref 1000), some (.ref 0), some (.ref 103), some (.int v3)] [.int r30, .int r29] (I22, L, R, am_SH) (po_Law Q)
        refine am_icmp_eq (tgt := 1831) (n := 762) d_Law_law_759 rfl rfl (fun c31 => ?_) (fun c31 => ?_)
        · have h := h.1 c31
          refine am_iinc (v := v3 + 6) (ls' := [some (.ref 1000), some (.ref 0), some (.ref 103), some (.int (v3 + 6))]) (n := 1834) d_Law_law_1831 rfl (congrArg _ ci_6) (by decide) rfl rfl ?_
          refine am_goto (tgt := 18) d_Law_law_1834 rfl ?_
          exact ih I22 L R (v3 + 6) hw h
        · have h := h.2 c31
          refine am_iconst (n := 763) d_Law_law_762 ci_0 rfl ?_
          exact am_iret d_Law_law_763 ⟨false, I22, L, R, rfl, rfl, hw, h⟩
      by_cases c32 : ((I 1000 (Int32.toNatClampNeg v3)) &&& 63) = 15
      · have h := h.2.2.2.2.2.2.2.2.2.2.2.2.2.2.2.1 c32
        refine am_tableIn (off := 731) (tgt := 764) d_Law_law_33 (by rw [c32]; decide) (by rw [c32]; decide) (by rw [c32]; decide +kernel) rfl ?_
        refine am_aload_n (n := 765) d_Law_law_764 rfl rfl ?_
        refine am_aload_n (n := 766) d_Law_law_765 rfl rfl ?_
        refine am_iload_n (n := 767) d_Law_law_766 rfl rfl ?_
        refine am_iconst (n := 768) d_Law_law_767 ci_1 rfl ?_
        refine am_iadd (n := 769) d_Law_law_768 rfl ?_
        obtain ⟨w60, g60, h⟩ := h
        refine am_sald (n := 770) d_Law_law_769 rfl g60.1 g60.2.1 g60.2.2 ?_
        refine am_callV (kc := 0) (ks := 0) (As := [.int (I 1000 (Int32.toNatClampNeg (v3 + 1)))]) (n := 773) d_Law_law_770 rfl ce_U_likers lk_Law_84 in_U_likers rfl rfl rfl rfl rfl (Nat.le_of_ble_eq_true rfl) (Or.inl rfl) (cm_U_likers (d := d - 1) hw (by omega) rfl h) (by omega) ?_
        rintro _ _ ⟨r31, I23, rfl, rfl, h⟩
        show am_Wp (d, "UnseenRingLaw", b_Law_law, 4, false) 0 0 773 [some (.ref 1000), some (.ref 0), some (.ref 103), some (.int v3)] [.int r31] (I23, L, R, am_SH) (po_Law Q)
        refine am_aload_n (n := 774) d_Law_law_773 rfl rfl ?_
        refine am_aload_n (n := 775) d_Law_law_774 rfl rfl ?_
        refine am_iload_n (n := 776) d_Law_law_775 rfl rfl ?_
        refine am_iconst (n := 777) d_Law_law_776 ci_1 rfl ?_
        refine am_iadd (n := 778) d_Law_law_777 rfl ?_
        obtain ⟨w61, g61, h⟩ := h
        refine am_sald (n := 779) d_Law_law_778 rfl g61.1 g61.2.1 g61.2.2 ?_
        refine am_callV (kc := 0) (ks := 0) (As := [.int (I23 1000 (Int32.toNatClampNeg (v3 + 1)))]) (n := 782) d_Law_law_779 rfl ce_M_likers lk_Law_87 in_M_likers rfl rfl rfl rfl rfl (Nat.le_of_ble_eq_true rfl) (Or.inl rfl) (cm_M_likers (d := d - 1) hw (by omega) rfl h) (by omega) ?_
        rintro _ _ ⟨r32, I24, rfl, rfl, h⟩
        show am_Wp (d, "UnseenRingLaw", b_Law_law, 4, false) 0 0 782 [some (.ref 1000), some (.ref 0), some (.ref 103), some (.int v3)] [.int r32, .int r31] (I24, L, R, am_SH) (po_Law Q)
        refine am_icmp_eq (tgt := 1831) (n := 785) d_Law_law_782 rfl rfl (fun c33 => ?_) (fun c33 => ?_)
        · have h := h.1 c33
          refine am_iinc (v := v3 + 6) (ls' := [some (.ref 1000), some (.ref 0), some (.ref 103), some (.int (v3 + 6))]) (n := 1834) d_Law_law_1831 rfl (congrArg _ ci_6) (by decide) rfl rfl ?_
          refine am_goto (tgt := 18) d_Law_law_1834 rfl ?_
          exact ih I24 L R (v3 + 6) hw h
        · have h := h.2 c33
          refine am_iconst (n := 786) d_Law_law_785 ci_0 rfl ?_
          exact am_iret d_Law_law_786 ⟨false, I24, L, R, rfl, rfl, hw, h⟩
      by_cases c34 : ((I 1000 (Int32.toNatClampNeg v3)) &&& 63) = 16
      · have h := h.2.2.2.2.2.2.2.2.2.2.2.2.2.2.2.2.1 c34
        refine am_tableIn (off := 754) (tgt := 787) d_Law_law_33 (by rw [c34]; decide) (by rw [c34]; decide) (by rw [c34]; decide +kernel) rfl ?_
        refine am_aload_n (n := 788) d_Law_law_787 rfl rfl ?_
        refine am_aload_n (n := 789) d_Law_law_788 rfl rfl ?_
        refine am_iload_n (n := 790) d_Law_law_789 rfl rfl ?_
        refine am_iconst (n := 791) d_Law_law_790 ci_1 rfl ?_
        refine am_iadd (n := 792) d_Law_law_791 rfl ?_
        obtain ⟨w62, g62, h⟩ := h
        refine am_sald (n := 793) d_Law_law_792 rfl g62.1 g62.2.1 g62.2.2 ?_
        refine am_callV (kc := 0) (ks := 0) (As := [.int (I 1000 (Int32.toNatClampNeg (v3 + 1)))]) (n := 796) d_Law_law_793 rfl ce_U_play lk_Law_88 in_U_play rfl rfl rfl rfl rfl (Nat.le_of_ble_eq_true rfl) (Or.inl rfl) (cm_U_play (d := d - 1) hw (by omega) rfl h) (by omega) ?_
        rintro _ _ ⟨r33, I25, rfl, rfl, h⟩
        show am_Wp (d, "UnseenRingLaw", b_Law_law, 4, false) 0 0 796 [some (.ref 1000), some (.ref 0), some (.ref 103), some (.int v3)] [.int r33] (I25, L, R, am_SH) (po_Law Q)
        refine am_aload_n (n := 797) d_Law_law_796 rfl rfl ?_
        refine am_aload_n (n := 798) d_Law_law_797 rfl rfl ?_
        refine am_iload_n (n := 799) d_Law_law_798 rfl rfl ?_
        refine am_iconst (n := 800) d_Law_law_799 ci_1 rfl ?_
        refine am_iadd (n := 801) d_Law_law_800 rfl ?_
        obtain ⟨w63, g63, h⟩ := h
        refine am_sald (n := 802) d_Law_law_801 rfl g63.1 g63.2.1 g63.2.2 ?_
        refine am_callV (kc := 0) (ks := 0) (As := [.int (I25 1000 (Int32.toNatClampNeg (v3 + 1)))]) (n := 805) d_Law_law_802 rfl ce_M_play lk_Law_91 in_M_play rfl rfl rfl rfl rfl (Nat.le_of_ble_eq_true rfl) (Or.inl rfl) (cm_M_play (d := d - 1) hw (by omega) rfl h) (by omega) ?_
        rintro _ _ ⟨r34, I26, rfl, rfl, h⟩
        show am_Wp (d, "UnseenRingLaw", b_Law_law, 4, false) 0 0 805 [some (.ref 1000), some (.ref 0), some (.ref 103), some (.int v3)] [.int r34, .int r33] (I26, L, R, am_SH) (po_Law Q)
        refine am_icmp_eq (tgt := 1831) (n := 808) d_Law_law_805 rfl rfl (fun c35 => ?_) (fun c35 => ?_)
        · have h := h.1 c35
          refine am_iinc (v := v3 + 6) (ls' := [some (.ref 1000), some (.ref 0), some (.ref 103), some (.int (v3 + 6))]) (n := 1834) d_Law_law_1831 rfl (congrArg _ ci_6) (by decide) rfl rfl ?_
          refine am_goto (tgt := 18) d_Law_law_1834 rfl ?_
          exact ih I26 L R (v3 + 6) hw h
        · have h := h.2 c35
          refine am_iconst (n := 809) d_Law_law_808 ci_0 rfl ?_
          exact am_iret d_Law_law_809 ⟨false, I26, L, R, rfl, rfl, hw, h⟩
      by_cases c36 : ((I 1000 (Int32.toNatClampNeg v3)) &&& 63) = 17
      · have h := h.2.2.2.2.2.2.2.2.2.2.2.2.2.2.2.2.2.1 c36
        refine am_tableIn (off := 777) (tgt := 810) d_Law_law_33 (by rw [c36]; decide) (by rw [c36]; decide) (by rw [c36]; decide +kernel) rfl ?_
        refine am_aload_n (n := 811) d_Law_law_810 rfl rfl ?_
        refine am_aload_n (n := 812) d_Law_law_811 rfl rfl ?_
        refine am_iload_n (n := 813) d_Law_law_812 rfl rfl ?_
        refine am_iconst (n := 814) d_Law_law_813 ci_1 rfl ?_
        refine am_iadd (n := 815) d_Law_law_814 rfl ?_
        obtain ⟨w64, g64, h⟩ := h
        refine am_sald (n := 816) d_Law_law_815 rfl g64.1 g64.2.1 g64.2.2 ?_
        refine am_callV (kc := 0) (ks := 0) (As := [.int (I 1000 (Int32.toNatClampNeg (v3 + 1)))]) (n := 819) d_Law_law_816 rfl ce_U_grind lk_Law_92 in_U_grind rfl rfl rfl rfl rfl (Nat.le_of_ble_eq_true rfl) (Or.inl rfl) (cm_U_grind (d := d - 1) hw (by omega) rfl h) (by omega) ?_
        rintro _ _ ⟨r35, I27, rfl, rfl, h⟩
        show am_Wp (d, "UnseenRingLaw", b_Law_law, 4, false) 0 0 819 [some (.ref 1000), some (.ref 0), some (.ref 103), some (.int v3)] [.int r35] (I27, L, R, am_SH) (po_Law Q)
        refine am_aload_n (n := 820) d_Law_law_819 rfl rfl ?_
        refine am_aload_n (n := 821) d_Law_law_820 rfl rfl ?_
        refine am_iload_n (n := 822) d_Law_law_821 rfl rfl ?_
        refine am_iconst (n := 823) d_Law_law_822 ci_1 rfl ?_
        refine am_iadd (n := 824) d_Law_law_823 rfl ?_
        obtain ⟨w65, g65, h⟩ := h
        refine am_sald (n := 825) d_Law_law_824 rfl g65.1 g65.2.1 g65.2.2 ?_
        refine am_callV (kc := 0) (ks := 0) (As := [.int (I27 1000 (Int32.toNatClampNeg (v3 + 1)))]) (n := 828) d_Law_law_825 rfl ce_M_grind lk_Law_95 in_M_grind rfl rfl rfl rfl rfl (Nat.le_of_ble_eq_true rfl) (Or.inl rfl) (cm_M_grind (d := d - 1) hw (by omega) rfl h) (by omega) ?_
        rintro _ _ ⟨r36, I28, rfl, rfl, h⟩
        show am_Wp (d, "UnseenRingLaw", b_Law_law, 4, false) 0 0 828 [some (.ref 1000), some (.ref 0), some (.ref 103), some (.int v3)] [.int r36, .int r35] (I28, L, R, am_SH) (po_Law Q)
        refine am_icmp_eq (tgt := 1831) (n := 831) d_Law_law_828 rfl rfl (fun c37 => ?_) (fun c37 => ?_)
        · have h := h.1 c37
          refine am_iinc (v := v3 + 6) (ls' := [some (.ref 1000), some (.ref 0), some (.ref 103), some (.int (v3 + 6))]) (n := 1834) d_Law_law_1831 rfl (congrArg _ ci_6) (by decide) rfl rfl ?_
          refine am_goto (tgt := 18) d_Law_law_1834 rfl ?_
          exact ih I28 L R (v3 + 6) hw h
        · have h := h.2 c37
          refine am_iconst (n := 832) d_Law_law_831 ci_0 rfl ?_
          exact am_iret d_Law_law_832 ⟨false, I28, L, R, rfl, rfl, hw, h⟩
      by_cases c38 : ((I 1000 (Int32.toNatClampNeg v3)) &&& 63) = 18
      · have h := h.2.2.2.2.2.2.2.2.2.2.2.2.2.2.2.2.2.2.1 c38
        refine am_tableIn (off := 800) (tgt := 833) d_Law_law_33 (by rw [c38]; decide) (by rw [c38]; decide) (by rw [c38]; decide +kernel) rfl ?_
        refine am_aload_n (n := 834) d_Law_law_833 rfl rfl ?_
        refine am_aload_n (n := 835) d_Law_law_834 rfl rfl ?_
        refine am_iload_n (n := 836) d_Law_law_835 rfl rfl ?_
        refine am_iconst (n := 837) d_Law_law_836 ci_1 rfl ?_
        refine am_iadd (n := 838) d_Law_law_837 rfl ?_
        obtain ⟨w66, g66, h⟩ := h
        refine am_sald (n := 839) d_Law_law_838 rfl g66.1 g66.2.1 g66.2.2 ?_
        refine am_callV (kc := 0) (ks := 0) (As := [.int (I 1000 (Int32.toNatClampNeg (v3 + 1)))]) (n := 842) d_Law_law_839 rfl ce_U_throwAt lk_Law_96 in_U_throwAt rfl rfl rfl rfl rfl (Nat.le_of_ble_eq_true rfl) (Or.inl rfl) (cm_U_throwAt (d := d - 1) hw (by omega) rfl h) (by omega) ?_
        rintro _ _ ⟨r37, I29, rfl, rfl, h⟩
        show am_Wp (d, "UnseenRingLaw", b_Law_law, 4, false) 0 0 842 [some (.ref 1000), some (.ref 0), some (.ref 103), some (.int v3)] [.int r37] (I29, L, R, am_SH) (po_Law Q)
        refine am_aload_n (n := 843) d_Law_law_842 rfl rfl ?_
        refine am_aload_n (n := 844) d_Law_law_843 rfl rfl ?_
        refine am_iload_n (n := 845) d_Law_law_844 rfl rfl ?_
        refine am_iconst (n := 846) d_Law_law_845 ci_1 rfl ?_
        refine am_iadd (n := 847) d_Law_law_846 rfl ?_
        obtain ⟨w67, g67, h⟩ := h
        refine am_sald (n := 848) d_Law_law_847 rfl g67.1 g67.2.1 g67.2.2 ?_
        refine am_callV (kc := 0) (ks := 0) (As := [.int (I29 1000 (Int32.toNatClampNeg (v3 + 1)))]) (n := 851) d_Law_law_848 rfl ce_M_throwAt lk_Law_99 in_M_throwAt rfl rfl rfl rfl rfl (Nat.le_of_ble_eq_true rfl) (Or.inl rfl) (cm_M_throwAt (d := d - 1) hw (by omega) rfl h) (by omega) ?_
        rintro _ _ ⟨r38, I30, rfl, rfl, h⟩
        show am_Wp (d, "UnseenRingLaw", b_Law_law, 4, false) 0 0 851 [some (.ref 1000), some (.ref 0), some (.ref 103), some (.int v3)] [.int r38, .int r37] (I30, L, R, am_SH) (po_Law Q)
        refine am_icmp_eq (tgt := 1831) (n := 854) d_Law_law_851 rfl rfl (fun c39 => ?_) (fun c39 => ?_)
        · have h := h.1 c39
          refine am_iinc (v := v3 + 6) (ls' := [some (.ref 1000), some (.ref 0), some (.ref 103), some (.int (v3 + 6))]) (n := 1834) d_Law_law_1831 rfl (congrArg _ ci_6) (by decide) rfl rfl ?_
          refine am_goto (tgt := 18) d_Law_law_1834 rfl ?_
          exact ih I30 L R (v3 + 6) hw h
        · have h := h.2 c39
          refine am_iconst (n := 855) d_Law_law_854 ci_0 rfl ?_
          exact am_iret d_Law_law_855 ⟨false, I30, L, R, rfl, rfl, hw, h⟩
      by_cases c40 : ((I 1000 (Int32.toNatClampNeg v3)) &&& 63) = 19
      · have h := h.2.2.2.2.2.2.2.2.2.2.2.2.2.2.2.2.2.2.2.1 c40
        refine am_tableIn (off := 823) (tgt := 856) d_Law_law_33 (by rw [c40]; decide) (by rw [c40]; decide) (by rw [c40]; decide +kernel) rfl ?_
        refine am_aload_n (n := 857) d_Law_law_856 rfl rfl ?_
        refine am_callV (kc := 0) (ks := 0) (As := []) (n := 860) d_Law_law_857 rfl ce_U_brush lk_Law_100 in_U_brush rfl rfl rfl rfl rfl (Nat.le_of_ble_eq_true rfl) (Or.inl rfl) (cm_U_brush (d := d - 1) hw (by omega) rfl h) (by omega) ?_
        rintro _ _ ⟨r39, I31, rfl, rfl, h⟩
        show am_Wp (d, "UnseenRingLaw", b_Law_law, 4, false) 0 0 860 [some (.ref 1000), some (.ref 0), some (.ref 103), some (.int v3)] [.int r39] (I31, L, R, am_SH) (po_Law Q)
        refine am_aload_n (n := 861) d_Law_law_860 rfl rfl ?_
        refine am_callV (kc := 0) (ks := 0) (As := []) (n := 864) d_Law_law_861 rfl ce_M_brush lk_Law_103 in_M_brush rfl rfl rfl rfl rfl (Nat.le_of_ble_eq_true rfl) (Or.inl rfl) (cm_M_brush (d := d - 1) hw (by omega) rfl h) (by omega) ?_
        rintro _ _ ⟨r40, I32, rfl, rfl, h⟩
        show am_Wp (d, "UnseenRingLaw", b_Law_law, 4, false) 0 0 864 [some (.ref 1000), some (.ref 0), some (.ref 103), some (.int v3)] [.int r40, .int r39] (I32, L, R, am_SH) (po_Law Q)
        refine am_icmp_eq (tgt := 1831) (n := 867) d_Law_law_864 rfl rfl (fun c41 => ?_) (fun c41 => ?_)
        · have h := h.1 c41
          refine am_iinc (v := v3 + 6) (ls' := [some (.ref 1000), some (.ref 0), some (.ref 103), some (.int (v3 + 6))]) (n := 1834) d_Law_law_1831 rfl (congrArg _ ci_6) (by decide) rfl rfl ?_
          refine am_goto (tgt := 18) d_Law_law_1834 rfl ?_
          exact ih I32 L R (v3 + 6) hw h
        · have h := h.2 c41
          refine am_iconst (n := 868) d_Law_law_867 ci_0 rfl ?_
          exact am_iret d_Law_law_868 ⟨false, I32, L, R, rfl, rfl, hw, h⟩
      by_cases c42 : ((I 1000 (Int32.toNatClampNeg v3)) &&& 63) = 20
      · have h := h.2.2.2.2.2.2.2.2.2.2.2.2.2.2.2.2.2.2.2.2.1 c42
        refine am_tableIn (off := 836) (tgt := 869) d_Law_law_33 (by rw [c42]; decide) (by rw [c42]; decide) (by rw [c42]; decide +kernel) rfl ?_
        refine am_aload_n (n := 870) d_Law_law_869 rfl rfl ?_
        refine am_aload_n (n := 871) d_Law_law_870 rfl rfl ?_
        refine am_iload_n (n := 872) d_Law_law_871 rfl rfl ?_
        refine am_iconst (n := 873) d_Law_law_872 ci_1 rfl ?_
        refine am_iadd (n := 874) d_Law_law_873 rfl ?_
        obtain ⟨w68, g68, h⟩ := h
        refine am_sald (n := 875) d_Law_law_874 rfl g68.1 g68.2.1 g68.2.2 ?_
        refine am_aload_n (n := 876) d_Law_law_875 rfl rfl ?_
        refine am_iload_n (n := 877) d_Law_law_876 rfl rfl ?_
        refine am_iconst (n := 878) d_Law_law_877 ci_2 rfl ?_
        refine am_iadd (n := 879) d_Law_law_878 rfl ?_
        obtain ⟨w69, g69, h⟩ := h
        refine am_sald (n := 880) d_Law_law_879 rfl g69.1 g69.2.1 g69.2.2 ?_
        refine am_callV (kc := 0) (ks := 0) (As := [.int (I 1000 (Int32.toNatClampNeg (v3 + 1))), .int (I 1000 (Int32.toNatClampNeg (v3 + 2)))]) (n := 883) d_Law_law_880 rfl ce_U_send lk_Law_104 in_U_send rfl rfl rfl rfl rfl (Nat.le_of_ble_eq_true rfl) (Or.inl rfl) (cm_U_send (d := d - 1) hw (by omega) rfl h) (by omega) ?_
        rintro _ _ ⟨r41, I33, rfl, rfl, h⟩
        show am_Wp (d, "UnseenRingLaw", b_Law_law, 4, false) 0 0 883 [some (.ref 1000), some (.ref 0), some (.ref 103), some (.int v3)] [.int r41] (I33, L, R, am_SH) (po_Law Q)
        refine am_aload_n (n := 884) d_Law_law_883 rfl rfl ?_
        refine am_aload_n (n := 885) d_Law_law_884 rfl rfl ?_
        refine am_iload_n (n := 886) d_Law_law_885 rfl rfl ?_
        refine am_iconst (n := 887) d_Law_law_886 ci_1 rfl ?_
        refine am_iadd (n := 888) d_Law_law_887 rfl ?_
        obtain ⟨w70, g70, h⟩ := h
        refine am_sald (n := 889) d_Law_law_888 rfl g70.1 g70.2.1 g70.2.2 ?_
        refine am_aload_n (n := 890) d_Law_law_889 rfl rfl ?_
        refine am_iload_n (n := 891) d_Law_law_890 rfl rfl ?_
        refine am_iconst (n := 892) d_Law_law_891 ci_2 rfl ?_
        refine am_iadd (n := 893) d_Law_law_892 rfl ?_
        obtain ⟨w71, g71, h⟩ := h
        refine am_sald (n := 894) d_Law_law_893 rfl g71.1 g71.2.1 g71.2.2 ?_
        refine am_callV (kc := 0) (ks := 0) (As := [.int (I33 1000 (Int32.toNatClampNeg (v3 + 1))), .int (I33 1000 (Int32.toNatClampNeg (v3 + 2)))]) (n := 897) d_Law_law_894 rfl ce_M_send lk_Law_107 in_M_send rfl rfl rfl rfl rfl (Nat.le_of_ble_eq_true rfl) (Or.inl rfl) (cm_M_send (d := d - 1) hw (by omega) rfl h) (by omega) ?_
        rintro _ _ ⟨r42, I34, rfl, rfl, h⟩
        show am_Wp (d, "UnseenRingLaw", b_Law_law, 4, false) 0 0 897 [some (.ref 1000), some (.ref 0), some (.ref 103), some (.int v3)] [.int r42, .int r41] (I34, L, R, am_SH) (po_Law Q)
        refine am_icmp_eq (tgt := 1831) (n := 900) d_Law_law_897 rfl rfl (fun c43 => ?_) (fun c43 => ?_)
        · have h := h.1 c43
          refine am_iinc (v := v3 + 6) (ls' := [some (.ref 1000), some (.ref 0), some (.ref 103), some (.int (v3 + 6))]) (n := 1834) d_Law_law_1831 rfl (congrArg _ ci_6) (by decide) rfl rfl ?_
          refine am_goto (tgt := 18) d_Law_law_1834 rfl ?_
          exact ih I34 L R (v3 + 6) hw h
        · have h := h.2 c43
          refine am_iconst (n := 901) d_Law_law_900 ci_0 rfl ?_
          exact am_iret d_Law_law_901 ⟨false, I34, L, R, rfl, rfl, hw, h⟩
      by_cases c44 : ((I 1000 (Int32.toNatClampNeg v3)) &&& 63) = 21
      · have h := h.2.2.2.2.2.2.2.2.2.2.2.2.2.2.2.2.2.2.2.2.2.1 c44
        refine am_tableIn (off := 869) (tgt := 902) d_Law_law_33 (by rw [c44]; decide) (by rw [c44]; decide) (by rw [c44]; decide +kernel) rfl ?_
        refine am_aload_n (n := 903) d_Law_law_902 rfl rfl ?_
        refine am_aload_n (n := 904) d_Law_law_903 rfl rfl ?_
        refine am_iload_n (n := 905) d_Law_law_904 rfl rfl ?_
        refine am_iconst (n := 906) d_Law_law_905 ci_1 rfl ?_
        refine am_iadd (n := 907) d_Law_law_906 rfl ?_
        obtain ⟨w72, g72, h⟩ := h
        refine am_sald (n := 908) d_Law_law_907 rfl g72.1 g72.2.1 g72.2.2 ?_
        refine am_aload_n (n := 909) d_Law_law_908 rfl rfl ?_
        refine am_iload_n (n := 910) d_Law_law_909 rfl rfl ?_
        refine am_iconst (n := 911) d_Law_law_910 ci_2 rfl ?_
        refine am_iadd (n := 912) d_Law_law_911 rfl ?_
        obtain ⟨w73, g73, h⟩ := h
        refine am_sald (n := 913) d_Law_law_912 rfl g73.1 g73.2.1 g73.2.2 ?_
        refine am_callV (kc := 0) (ks := 0) (As := [.int (I 1000 (Int32.toNatClampNeg (v3 + 1))), .int (I 1000 (Int32.toNatClampNeg (v3 + 2)))]) (n := 916) d_Law_law_913 rfl ce_U_give lk_Law_108 in_U_give rfl rfl rfl rfl rfl (Nat.le_of_ble_eq_true rfl) (Or.inl rfl) (cm_U_give (d := d - 1) hw (by omega) rfl h) (by omega) ?_
        rintro _ _ ⟨r43, I35, rfl, rfl, h⟩
        show am_Wp (d, "UnseenRingLaw", b_Law_law, 4, false) 0 0 916 [some (.ref 1000), some (.ref 0), some (.ref 103), some (.int v3)] [.int r43] (I35, L, R, am_SH) (po_Law Q)
        refine am_aload_n (n := 917) d_Law_law_916 rfl rfl ?_
        refine am_aload_n (n := 918) d_Law_law_917 rfl rfl ?_
        refine am_iload_n (n := 919) d_Law_law_918 rfl rfl ?_
        refine am_iconst (n := 920) d_Law_law_919 ci_1 rfl ?_
        refine am_iadd (n := 921) d_Law_law_920 rfl ?_
        obtain ⟨w74, g74, h⟩ := h
        refine am_sald (n := 922) d_Law_law_921 rfl g74.1 g74.2.1 g74.2.2 ?_
        refine am_aload_n (n := 923) d_Law_law_922 rfl rfl ?_
        refine am_iload_n (n := 924) d_Law_law_923 rfl rfl ?_
        refine am_iconst (n := 925) d_Law_law_924 ci_2 rfl ?_
        refine am_iadd (n := 926) d_Law_law_925 rfl ?_
        obtain ⟨w75, g75, h⟩ := h
        refine am_sald (n := 927) d_Law_law_926 rfl g75.1 g75.2.1 g75.2.2 ?_
        refine am_callV (kc := 0) (ks := 0) (As := [.int (I35 1000 (Int32.toNatClampNeg (v3 + 1))), .int (I35 1000 (Int32.toNatClampNeg (v3 + 2)))]) (n := 930) d_Law_law_927 rfl ce_M_give lk_Law_111 in_M_give rfl rfl rfl rfl rfl (Nat.le_of_ble_eq_true rfl) (Or.inl rfl) (cm_M_give (d := d - 1) hw (by omega) rfl h) (by omega) ?_
        rintro _ _ ⟨r44, I36, rfl, rfl, h⟩
        show am_Wp (d, "UnseenRingLaw", b_Law_law, 4, false) 0 0 930 [some (.ref 1000), some (.ref 0), some (.ref 103), some (.int v3)] [.int r44, .int r43] (I36, L, R, am_SH) (po_Law Q)
        refine am_icmp_eq (tgt := 1831) (n := 933) d_Law_law_930 rfl rfl (fun c45 => ?_) (fun c45 => ?_)
        · have h := h.1 c45
          refine am_iinc (v := v3 + 6) (ls' := [some (.ref 1000), some (.ref 0), some (.ref 103), some (.int (v3 + 6))]) (n := 1834) d_Law_law_1831 rfl (congrArg _ ci_6) (by decide) rfl rfl ?_
          refine am_goto (tgt := 18) d_Law_law_1834 rfl ?_
          exact ih I36 L R (v3 + 6) hw h
        · have h := h.2 c45
          refine am_iconst (n := 934) d_Law_law_933 ci_0 rfl ?_
          exact am_iret d_Law_law_934 ⟨false, I36, L, R, rfl, rfl, hw, h⟩
      by_cases c46 : ((I 1000 (Int32.toNatClampNeg v3)) &&& 63) = 22
      · have h := h.2.2.2.2.2.2.2.2.2.2.2.2.2.2.2.2.2.2.2.2.2.2.1 c46
        refine am_tableIn (off := 902) (tgt := 935) d_Law_law_33 (by rw [c46]; decide) (by rw [c46]; decide) (by rw [c46]; decide +kernel) rfl ?_
        refine am_aload_n (n := 936) d_Law_law_935 rfl rfl ?_
        refine am_aload_n (n := 937) d_Law_law_936 rfl rfl ?_
        refine am_iload_n (n := 938) d_Law_law_937 rfl rfl ?_
        refine am_iconst (n := 939) d_Law_law_938 ci_1 rfl ?_
        refine am_iadd (n := 940) d_Law_law_939 rfl ?_
        obtain ⟨w76, g76, h⟩ := h
        refine am_sald (n := 941) d_Law_law_940 rfl g76.1 g76.2.1 g76.2.2 ?_
        refine am_aload_n (n := 942) d_Law_law_941 rfl rfl ?_
        refine am_iload_n (n := 943) d_Law_law_942 rfl rfl ?_
        refine am_iconst (n := 944) d_Law_law_943 ci_2 rfl ?_
        refine am_iadd (n := 945) d_Law_law_944 rfl ?_
        obtain ⟨w77, g77, h⟩ := h
        refine am_sald (n := 946) d_Law_law_945 rfl g77.1 g77.2.1 g77.2.2 ?_
        refine am_aload_n (n := 947) d_Law_law_946 rfl rfl ?_
        refine am_iload_n (n := 948) d_Law_law_947 rfl rfl ?_
        refine am_iconst (n := 949) d_Law_law_948 ci_3 rfl ?_
        refine am_iadd (n := 950) d_Law_law_949 rfl ?_
        obtain ⟨w78, g78, h⟩ := h
        refine am_sald (n := 951) d_Law_law_950 rfl g78.1 g78.2.1 g78.2.2 ?_
        refine am_if_eq (y := 0) (tgt := 958) (n := 954) d_Law_law_951 rfl rfl (fun c47 => ?_) (fun c47 => ?_)
        · have h := h.1 c47
          refine am_iconst (n := 959) d_Law_law_958 ci_0 rfl ?_
          exact tb_Law_law_959 ih hd I L R v3 0 (I 1000 (Int32.toNatClampNeg (v3 + 1))) (I 1000 (Int32.toNatClampNeg (v3 + 2))) false hw rfl h
        · have h := h.2 c47
          refine am_iconst (n := 955) d_Law_law_954 ci_1 rfl ?_
          refine am_goto (tgt := 959) d_Law_law_955 rfl ?_
          exact tb_Law_law_959 ih hd I L R v3 0 (I 1000 (Int32.toNatClampNeg (v3 + 1))) (I 1000 (Int32.toNatClampNeg (v3 + 2))) true hw rfl h
      by_cases c50 : ((I 1000 (Int32.toNatClampNeg v3)) &&& 63) = 23
      · have h := h.2.2.2.2.2.2.2.2.2.2.2.2.2.2.2.2.2.2.2.2.2.2.2.1 c50
        refine am_tableIn (off := 961) (tgt := 994) d_Law_law_33 (by rw [c50]; decide) (by rw [c50]; decide) (by rw [c50]; decide +kernel) rfl ?_
        refine am_aload_n (n := 995) d_Law_law_994 rfl rfl ?_
        refine am_aload_n (n := 996) d_Law_law_995 rfl rfl ?_
        refine am_iload_n (n := 997) d_Law_law_996 rfl rfl ?_
        refine am_iconst (n := 998) d_Law_law_997 ci_1 rfl ?_
        refine am_iadd (n := 999) d_Law_law_998 rfl ?_
        obtain ⟨w82, g82, h⟩ := h
        refine am_sald (n := 1000) d_Law_law_999 rfl g82.1 g82.2.1 g82.2.2 ?_
        refine am_callV (kc := 0) (ks := 0) (As := [.int (I 1000 (Int32.toNatClampNeg (v3 + 1)))]) (n := 1003) d_Law_law_1000 rfl ce_U_come lk_Law_117 in_U_come rfl rfl rfl rfl rfl (Nat.le_of_ble_eq_true rfl) (Or.inl rfl) (cm_U_come (d := d - 1) hw (by omega) rfl h) (by omega) ?_
        rintro _ _ ⟨r47, I39, rfl, rfl, h⟩
        show am_Wp (d, "UnseenRingLaw", b_Law_law, 4, false) 0 0 1003 [some (.ref 1000), some (.ref 0), some (.ref 103), some (.int v3)] [.int r47] (I39, L, R, am_SH) (po_Law Q)
        refine am_aload_n (n := 1004) d_Law_law_1003 rfl rfl ?_
        refine am_aload_n (n := 1005) d_Law_law_1004 rfl rfl ?_
        refine am_iload_n (n := 1006) d_Law_law_1005 rfl rfl ?_
        refine am_iconst (n := 1007) d_Law_law_1006 ci_1 rfl ?_
        refine am_iadd (n := 1008) d_Law_law_1007 rfl ?_
        obtain ⟨w83, g83, h⟩ := h
        refine am_sald (n := 1009) d_Law_law_1008 rfl g83.1 g83.2.1 g83.2.2 ?_
        refine am_callV (kc := 0) (ks := 0) (As := [.int (I39 1000 (Int32.toNatClampNeg (v3 + 1)))]) (n := 1012) d_Law_law_1009 rfl ce_M_come lk_Law_120 in_M_come rfl rfl rfl rfl rfl (Nat.le_of_ble_eq_true rfl) (Or.inl rfl) (cm_M_come (d := d - 1) hw (by omega) rfl h) (by omega) ?_
        rintro _ _ ⟨r48, I40, rfl, rfl, h⟩
        show am_Wp (d, "UnseenRingLaw", b_Law_law, 4, false) 0 0 1012 [some (.ref 1000), some (.ref 0), some (.ref 103), some (.int v3)] [.int r48, .int r47] (I40, L, R, am_SH) (po_Law Q)
        refine am_icmp_eq (tgt := 1831) (n := 1015) d_Law_law_1012 rfl rfl (fun c51 => ?_) (fun c51 => ?_)
        · have h := h.1 c51
          refine am_iinc (v := v3 + 6) (ls' := [some (.ref 1000), some (.ref 0), some (.ref 103), some (.int (v3 + 6))]) (n := 1834) d_Law_law_1831 rfl (congrArg _ ci_6) (by decide) rfl rfl ?_
          refine am_goto (tgt := 18) d_Law_law_1834 rfl ?_
          exact ih I40 L R (v3 + 6) hw h
        · have h := h.2 c51
          refine am_iconst (n := 1016) d_Law_law_1015 ci_0 rfl ?_
          exact am_iret d_Law_law_1016 ⟨false, I40, L, R, rfl, rfl, hw, h⟩
      by_cases c52 : ((I 1000 (Int32.toNatClampNeg v3)) &&& 63) = 24
      · have h := h.2.2.2.2.2.2.2.2.2.2.2.2.2.2.2.2.2.2.2.2.2.2.2.2.1 c52
        refine am_tableIn (off := 984) (tgt := 1017) d_Law_law_33 (by rw [c52]; decide) (by rw [c52]; decide) (by rw [c52]; decide +kernel) rfl ?_
        refine am_aload_n (n := 1018) d_Law_law_1017 rfl rfl ?_
        refine am_callV (kc := 0) (ks := 0) (As := []) (n := 1021) d_Law_law_1018 rfl ce_U_empty lk_Law_121 in_U_empty rfl rfl rfl rfl rfl (Nat.le_of_ble_eq_true rfl) (Or.inl rfl) (cm_U_empty (d := d - 1) hw (by omega) rfl h) (by omega) ?_
        rintro _ _ ⟨r49, I41, rfl, rfl, h⟩
        show am_Wp (d, "UnseenRingLaw", b_Law_law, 4, false) 0 0 1021 [some (.ref 1000), some (.ref 0), some (.ref 103), some (.int v3)] [.int r49] (I41, L, R, am_SH) (po_Law Q)
        refine am_aload_n (n := 1022) d_Law_law_1021 rfl rfl ?_
        refine am_callV (kc := 0) (ks := 0) (As := []) (n := 1025) d_Law_law_1022 rfl ce_M_empty lk_Law_124 in_M_empty rfl rfl rfl rfl rfl (Nat.le_of_ble_eq_true rfl) (Or.inl rfl) (cm_M_empty (d := d - 1) hw (by omega) rfl h) (by omega) ?_
        rintro _ _ ⟨r50, I42, rfl, rfl, h⟩
        show am_Wp (d, "UnseenRingLaw", b_Law_law, 4, false) 0 0 1025 [some (.ref 1000), some (.ref 0), some (.ref 103), some (.int v3)] [.int r50, .int r49] (I42, L, R, am_SH) (po_Law Q)
        refine am_icmp_eq (tgt := 1831) (n := 1028) d_Law_law_1025 rfl rfl (fun c53 => ?_) (fun c53 => ?_)
        · have h := h.1 c53
          refine am_iinc (v := v3 + 6) (ls' := [some (.ref 1000), some (.ref 0), some (.ref 103), some (.int (v3 + 6))]) (n := 1834) d_Law_law_1831 rfl (congrArg _ ci_6) (by decide) rfl rfl ?_
          refine am_goto (tgt := 18) d_Law_law_1834 rfl ?_
          exact ih I42 L R (v3 + 6) hw h
        · have h := h.2 c53
          refine am_iconst (n := 1029) d_Law_law_1028 ci_0 rfl ?_
          exact am_iret d_Law_law_1029 ⟨false, I42, L, R, rfl, rfl, hw, h⟩
      by_cases c54 : ((I 1000 (Int32.toNatClampNeg v3)) &&& 63) = 25
      · have h := h.2.2.2.2.2.2.2.2.2.2.2.2.2.2.2.2.2.2.2.2.2.2.2.2.2.1 c54
        refine am_tableIn (off := 997) (tgt := 1030) d_Law_law_33 (by rw [c54]; decide) (by rw [c54]; decide) (by rw [c54]; decide +kernel) rfl ?_
        refine am_aload_n (n := 1031) d_Law_law_1030 rfl rfl ?_
        refine am_aload_n (n := 1032) d_Law_law_1031 rfl rfl ?_
        refine am_iload_n (n := 1033) d_Law_law_1032 rfl rfl ?_
        refine am_iconst (n := 1034) d_Law_law_1033 ci_1 rfl ?_
        refine am_iadd (n := 1035) d_Law_law_1034 rfl ?_
        obtain ⟨w84, g84, h⟩ := h
        refine am_sald (n := 1036) d_Law_law_1035 rfl g84.1 g84.2.1 g84.2.2 ?_
        refine am_callV (kc := 0) (ks := 0) (As := [.int (I 1000 (Int32.toNatClampNeg (v3 + 1)))]) (n := 1039) d_Law_law_1036 rfl ce_U_rule lk_Law_125 in_U_rule rfl rfl rfl rfl rfl (Nat.le_of_ble_eq_true rfl) (Or.inl rfl) (cm_U_rule (d := d - 1) hw (by omega) rfl h) (by omega) ?_
        rintro _ _ ⟨r51, I43, rfl, rfl, h⟩
        show am_Wp (d, "UnseenRingLaw", b_Law_law, 4, false) 0 0 1039 [some (.ref 1000), some (.ref 0), some (.ref 103), some (.int v3)] [.int (am_b r51)] (I43, L, R, am_SH) (po_Law Q)
        refine am_aload_n (n := 1040) d_Law_law_1039 rfl rfl ?_
        refine am_aload_n (n := 1041) d_Law_law_1040 rfl rfl ?_
        refine am_iload_n (n := 1042) d_Law_law_1041 rfl rfl ?_
        refine am_iconst (n := 1043) d_Law_law_1042 ci_1 rfl ?_
        refine am_iadd (n := 1044) d_Law_law_1043 rfl ?_
        obtain ⟨w85, g85, h⟩ := h
        refine am_sald (n := 1045) d_Law_law_1044 rfl g85.1 g85.2.1 g85.2.2 ?_
        refine am_callV (kc := 0) (ks := 0) (As := [.int (I43 1000 (Int32.toNatClampNeg (v3 + 1)))]) (n := 1048) d_Law_law_1045 rfl ce_M_rule lk_Law_129 in_M_rule rfl rfl rfl rfl rfl (Nat.le_of_ble_eq_true rfl) (Or.inl rfl) (cm_M_rule (d := d - 1) hw (by omega) rfl h) (by omega) ?_
        rintro _ _ ⟨r52, I44, rfl, rfl, h⟩
        show am_Wp (d, "UnseenRingLaw", b_Law_law, 4, false) 0 0 1048 [some (.ref 1000), some (.ref 0), some (.ref 103), some (.int v3)] [.int (am_b r52), .int (am_b r51)] (I44, L, R, am_SH) (po_Law Q)
        refine am_icmp_eq (tgt := 1831) (n := 1051) d_Law_law_1048 rfl rfl (fun c55 => ?_) (fun c55 => ?_)
        · have h := h.1 c55
          refine am_iinc (v := v3 + 6) (ls' := [some (.ref 1000), some (.ref 0), some (.ref 103), some (.int (v3 + 6))]) (n := 1834) d_Law_law_1831 rfl (congrArg _ ci_6) (by decide) rfl rfl ?_
          refine am_goto (tgt := 18) d_Law_law_1834 rfl ?_
          exact ih I44 L R (v3 + 6) hw h
        · have h := h.2 c55
          refine am_iconst (n := 1052) d_Law_law_1051 ci_0 rfl ?_
          exact am_iret d_Law_law_1052 ⟨false, I44, L, R, rfl, rfl, hw, h⟩
      by_cases c56 : ((I 1000 (Int32.toNatClampNeg v3)) &&& 63) = 26
      · have h := h.2.2.2.2.2.2.2.2.2.2.2.2.2.2.2.2.2.2.2.2.2.2.2.2.2.2.1 c56
        refine am_tableIn (off := 1020) (tgt := 1053) d_Law_law_33 (by rw [c56]; decide) (by rw [c56]; decide) (by rw [c56]; decide +kernel) rfl ?_
        refine am_aload_n (n := 1054) d_Law_law_1053 rfl rfl ?_
        refine am_aload_n (n := 1055) d_Law_law_1054 rfl rfl ?_
        refine am_iload_n (n := 1056) d_Law_law_1055 rfl rfl ?_
        refine am_iconst (n := 1057) d_Law_law_1056 ci_1 rfl ?_
        refine am_iadd (n := 1058) d_Law_law_1057 rfl ?_
        obtain ⟨w86, g86, h⟩ := h
        refine am_sald (n := 1059) d_Law_law_1058 rfl g86.1 g86.2.1 g86.2.2 ?_
        refine am_aload_n (n := 1060) d_Law_law_1059 rfl rfl ?_
        refine am_iload_n (n := 1061) d_Law_law_1060 rfl rfl ?_
        refine am_iconst (n := 1062) d_Law_law_1061 ci_2 rfl ?_
        refine am_iadd (n := 1063) d_Law_law_1062 rfl ?_
        obtain ⟨w87, g87, h⟩ := h
        refine am_sald (n := 1064) d_Law_law_1063 rfl g87.1 g87.2.1 g87.2.2 ?_
        refine am_callV (kc := 0) (ks := 0) (As := [.int (I 1000 (Int32.toNatClampNeg (v3 + 1))), .int (I 1000 (Int32.toNatClampNeg (v3 + 2)))]) (n := 1067) d_Law_law_1064 rfl ce_U_takings lk_Law_130 in_U_takings rfl rfl rfl rfl rfl (Nat.le_of_ble_eq_true rfl) (Or.inl rfl) (cm_U_takings (d := d - 1) hw (by omega) rfl h) (by omega) ?_
        rintro _ _ ⟨r53, I45, rfl, rfl, h⟩
        show am_Wp (d, "UnseenRingLaw", b_Law_law, 4, false) 0 0 1067 [some (.ref 1000), some (.ref 0), some (.ref 103), some (.int v3)] [.int r53] (I45, L, R, am_SH) (po_Law Q)
        refine am_aload_n (n := 1068) d_Law_law_1067 rfl rfl ?_
        refine am_aload_n (n := 1069) d_Law_law_1068 rfl rfl ?_
        refine am_iload_n (n := 1070) d_Law_law_1069 rfl rfl ?_
        refine am_iconst (n := 1071) d_Law_law_1070 ci_1 rfl ?_
        refine am_iadd (n := 1072) d_Law_law_1071 rfl ?_
        obtain ⟨w88, g88, h⟩ := h
        refine am_sald (n := 1073) d_Law_law_1072 rfl g88.1 g88.2.1 g88.2.2 ?_
        refine am_aload_n (n := 1074) d_Law_law_1073 rfl rfl ?_
        refine am_iload_n (n := 1075) d_Law_law_1074 rfl rfl ?_
        refine am_iconst (n := 1076) d_Law_law_1075 ci_2 rfl ?_
        refine am_iadd (n := 1077) d_Law_law_1076 rfl ?_
        obtain ⟨w89, g89, h⟩ := h
        refine am_sald (n := 1078) d_Law_law_1077 rfl g89.1 g89.2.1 g89.2.2 ?_
        refine am_callV (kc := 0) (ks := 0) (As := [.int (I45 1000 (Int32.toNatClampNeg (v3 + 1))), .int (I45 1000 (Int32.toNatClampNeg (v3 + 2)))]) (n := 1081) d_Law_law_1078 rfl ce_M_takings lk_Law_133 in_M_takings rfl rfl rfl rfl rfl (Nat.le_of_ble_eq_true rfl) (Or.inl rfl) (cm_M_takings (d := d - 1) hw (by omega) rfl h) (by omega) ?_
        rintro _ _ ⟨r54, I46, rfl, rfl, h⟩
        show am_Wp (d, "UnseenRingLaw", b_Law_law, 4, false) 0 0 1081 [some (.ref 1000), some (.ref 0), some (.ref 103), some (.int v3)] [.int r54, .int r53] (I46, L, R, am_SH) (po_Law Q)
        refine am_icmp_eq (tgt := 1831) (n := 1084) d_Law_law_1081 rfl rfl (fun c57 => ?_) (fun c57 => ?_)
        · have h := h.1 c57
          refine am_iinc (v := v3 + 6) (ls' := [some (.ref 1000), some (.ref 0), some (.ref 103), some (.int (v3 + 6))]) (n := 1834) d_Law_law_1831 rfl (congrArg _ ci_6) (by decide) rfl rfl ?_
          refine am_goto (tgt := 18) d_Law_law_1834 rfl ?_
          exact ih I46 L R (v3 + 6) hw h
        · have h := h.2 c57
          refine am_iconst (n := 1085) d_Law_law_1084 ci_0 rfl ?_
          exact am_iret d_Law_law_1085 ⟨false, I46, L, R, rfl, rfl, hw, h⟩
      by_cases c58 : ((I 1000 (Int32.toNatClampNeg v3)) &&& 63) = 27
      · have h := h.2.2.2.2.2.2.2.2.2.2.2.2.2.2.2.2.2.2.2.2.2.2.2.2.2.2.2.1 c58
        refine am_tableIn (off := 1053) (tgt := 1086) d_Law_law_33 (by rw [c58]; decide) (by rw [c58]; decide) (by rw [c58]; decide +kernel) rfl ?_
        refine am_aload_n (n := 1087) d_Law_law_1086 rfl rfl ?_
        refine am_aload_n (n := 1088) d_Law_law_1087 rfl rfl ?_
        refine am_iload_n (n := 1089) d_Law_law_1088 rfl rfl ?_
        refine am_iconst (n := 1090) d_Law_law_1089 ci_1 rfl ?_
        refine am_iadd (n := 1091) d_Law_law_1090 rfl ?_
        obtain ⟨w90, g90, h⟩ := h
        refine am_sald (n := 1092) d_Law_law_1091 rfl g90.1 g90.2.1 g90.2.2 ?_
        refine am_aload_n (n := 1093) d_Law_law_1092 rfl rfl ?_
        refine am_iload_n (n := 1094) d_Law_law_1093 rfl rfl ?_
        refine am_iconst (n := 1095) d_Law_law_1094 ci_2 rfl ?_
        refine am_iadd (n := 1096) d_Law_law_1095 rfl ?_
        obtain ⟨w91, g91, h⟩ := h
        refine am_sald (n := 1097) d_Law_law_1096 rfl g91.1 g91.2.1 g91.2.2 ?_
        refine am_aload_n (n := 1098) d_Law_law_1097 rfl rfl ?_
        refine am_iload_n (n := 1099) d_Law_law_1098 rfl rfl ?_
        refine am_iconst (n := 1100) d_Law_law_1099 ci_3 rfl ?_
        refine am_iadd (n := 1101) d_Law_law_1100 rfl ?_
        obtain ⟨w92, g92, h⟩ := h
        refine am_sald (n := 1102) d_Law_law_1101 rfl g92.1 g92.2.1 g92.2.2 ?_
        refine am_callV (kc := 0) (ks := 0) (As := [.int (I 1000 (Int32.toNatClampNeg (v3 + 1))), .int (I 1000 (Int32.toNatClampNeg (v3 + 2))), .int (I 1000 (Int32.toNatClampNeg (v3 + 3)))]) (n := 1105) d_Law_law_1102 rfl ce_U_pitch lk_Law_134 in_U_pitch rfl rfl rfl rfl rfl (Nat.le_of_ble_eq_true rfl) (Or.inl rfl) (cm_U_pitch (d := d - 1) hw (by omega) rfl h) (by omega) ?_
        rintro _ _ ⟨r55, I47, rfl, rfl, h⟩
        show am_Wp (d, "UnseenRingLaw", b_Law_law, 4, false) 0 0 1105 [some (.ref 1000), some (.ref 0), some (.ref 103), some (.int v3)] [.int r55] (I47, L, R, am_SH) (po_Law Q)
        refine am_aload_n (n := 1106) d_Law_law_1105 rfl rfl ?_
        refine am_aload_n (n := 1107) d_Law_law_1106 rfl rfl ?_
        refine am_iload_n (n := 1108) d_Law_law_1107 rfl rfl ?_
        refine am_iconst (n := 1109) d_Law_law_1108 ci_1 rfl ?_
        refine am_iadd (n := 1110) d_Law_law_1109 rfl ?_
        obtain ⟨w93, g93, h⟩ := h
        refine am_sald (n := 1111) d_Law_law_1110 rfl g93.1 g93.2.1 g93.2.2 ?_
        refine am_aload_n (n := 1112) d_Law_law_1111 rfl rfl ?_
        refine am_iload_n (n := 1113) d_Law_law_1112 rfl rfl ?_
        refine am_iconst (n := 1114) d_Law_law_1113 ci_2 rfl ?_
        refine am_iadd (n := 1115) d_Law_law_1114 rfl ?_
        obtain ⟨w94, g94, h⟩ := h
        refine am_sald (n := 1116) d_Law_law_1115 rfl g94.1 g94.2.1 g94.2.2 ?_
        refine am_aload_n (n := 1117) d_Law_law_1116 rfl rfl ?_
        refine am_iload_n (n := 1118) d_Law_law_1117 rfl rfl ?_
        refine am_iconst (n := 1119) d_Law_law_1118 ci_3 rfl ?_
        refine am_iadd (n := 1120) d_Law_law_1119 rfl ?_
        obtain ⟨w95, g95, h⟩ := h
        refine am_sald (n := 1121) d_Law_law_1120 rfl g95.1 g95.2.1 g95.2.2 ?_
        refine am_callV (kc := 0) (ks := 0) (As := [.int (I47 1000 (Int32.toNatClampNeg (v3 + 1))), .int (I47 1000 (Int32.toNatClampNeg (v3 + 2))), .int (I47 1000 (Int32.toNatClampNeg (v3 + 3)))]) (n := 1124) d_Law_law_1121 rfl ce_M_pitch lk_Law_138 in_M_pitch rfl rfl rfl rfl rfl (Nat.le_of_ble_eq_true rfl) (Or.inl rfl) (cm_M_pitch (d := d - 1) hw (by omega) rfl h) (by omega) ?_
        rintro _ _ ⟨r56, I48, rfl, rfl, h⟩
        show am_Wp (d, "UnseenRingLaw", b_Law_law, 4, false) 0 0 1124 [some (.ref 1000), some (.ref 0), some (.ref 103), some (.int v3)] [.int r56, .int r55] (I48, L, R, am_SH) (po_Law Q)
        refine am_icmp_eq (tgt := 1831) (n := 1127) d_Law_law_1124 rfl rfl (fun c59 => ?_) (fun c59 => ?_)
        · have h := h.1 c59
          refine am_iinc (v := v3 + 6) (ls' := [some (.ref 1000), some (.ref 0), some (.ref 103), some (.int (v3 + 6))]) (n := 1834) d_Law_law_1831 rfl (congrArg _ ci_6) (by decide) rfl rfl ?_
          refine am_goto (tgt := 18) d_Law_law_1834 rfl ?_
          exact ih I48 L R (v3 + 6) hw h
        · have h := h.2 c59
          refine am_iconst (n := 1128) d_Law_law_1127 ci_0 rfl ?_
          exact am_iret d_Law_law_1128 ⟨false, I48, L, R, rfl, rfl, hw, h⟩
      by_cases c60 : ((I 1000 (Int32.toNatClampNeg v3)) &&& 63) = 28
      · have h := h.2.2.2.2.2.2.2.2.2.2.2.2.2.2.2.2.2.2.2.2.2.2.2.2.2.2.2.2.1 c60
        refine am_tableIn (off := 1096) (tgt := 1129) d_Law_law_33 (by rw [c60]; decide) (by rw [c60]; decide) (by rw [c60]; decide +kernel) rfl ?_
        refine am_aload_n (n := 1130) d_Law_law_1129 rfl rfl ?_
        refine am_aload_n (n := 1131) d_Law_law_1130 rfl rfl ?_
        refine am_iload_n (n := 1132) d_Law_law_1131 rfl rfl ?_
        refine am_iconst (n := 1133) d_Law_law_1132 ci_1 rfl ?_
        refine am_iadd (n := 1134) d_Law_law_1133 rfl ?_
        obtain ⟨w96, g96, h⟩ := h
        refine am_sald (n := 1135) d_Law_law_1134 rfl g96.1 g96.2.1 g96.2.2 ?_
        refine am_aload_n (n := 1136) d_Law_law_1135 rfl rfl ?_
        refine am_iload_n (n := 1137) d_Law_law_1136 rfl rfl ?_
        refine am_iconst (n := 1138) d_Law_law_1137 ci_2 rfl ?_
        refine am_iadd (n := 1139) d_Law_law_1138 rfl ?_
        obtain ⟨w97, g97, h⟩ := h
        refine am_sald (n := 1140) d_Law_law_1139 rfl g97.1 g97.2.1 g97.2.2 ?_
        refine am_callV (kc := 0) (ks := 0) (As := [.int (I 1000 (Int32.toNatClampNeg (v3 + 1))), .int (I 1000 (Int32.toNatClampNeg (v3 + 2)))]) (n := 1143) d_Law_law_1140 rfl ce_U_bestPitch lk_Law_139 in_U_bestPitch rfl rfl rfl rfl rfl (Nat.le_of_ble_eq_true rfl) (Or.inl rfl) (cm_U_bestPitch (d := d - 1) hw (by omega) rfl h) (by omega) ?_
        rintro _ _ ⟨r57, I49, rfl, rfl, h⟩
        show am_Wp (d, "UnseenRingLaw", b_Law_law, 4, false) 0 0 1143 [some (.ref 1000), some (.ref 0), some (.ref 103), some (.int v3)] [.int r57] (I49, L, R, am_SH) (po_Law Q)
        refine am_aload_n (n := 1144) d_Law_law_1143 rfl rfl ?_
        refine am_aload_n (n := 1145) d_Law_law_1144 rfl rfl ?_
        refine am_iload_n (n := 1146) d_Law_law_1145 rfl rfl ?_
        refine am_iconst (n := 1147) d_Law_law_1146 ci_1 rfl ?_
        refine am_iadd (n := 1148) d_Law_law_1147 rfl ?_
        obtain ⟨w98, g98, h⟩ := h
        refine am_sald (n := 1149) d_Law_law_1148 rfl g98.1 g98.2.1 g98.2.2 ?_
        refine am_aload_n (n := 1150) d_Law_law_1149 rfl rfl ?_
        refine am_iload_n (n := 1151) d_Law_law_1150 rfl rfl ?_
        refine am_iconst (n := 1152) d_Law_law_1151 ci_2 rfl ?_
        refine am_iadd (n := 1153) d_Law_law_1152 rfl ?_
        obtain ⟨w99, g99, h⟩ := h
        refine am_sald (n := 1154) d_Law_law_1153 rfl g99.1 g99.2.1 g99.2.2 ?_
        refine am_callV (kc := 0) (ks := 0) (As := [.int (I49 1000 (Int32.toNatClampNeg (v3 + 1))), .int (I49 1000 (Int32.toNatClampNeg (v3 + 2)))]) (n := 1157) d_Law_law_1154 rfl ce_M_bestPitch lk_Law_142 in_M_bestPitch rfl rfl rfl rfl rfl (Nat.le_of_ble_eq_true rfl) (Or.inl rfl) (cm_M_bestPitch (d := d - 1) hw (by omega) rfl h) (by omega) ?_
        rintro _ _ ⟨r58, I50, rfl, rfl, h⟩
        show am_Wp (d, "UnseenRingLaw", b_Law_law, 4, false) 0 0 1157 [some (.ref 1000), some (.ref 0), some (.ref 103), some (.int v3)] [.int r58, .int r57] (I50, L, R, am_SH) (po_Law Q)
        refine am_icmp_eq (tgt := 1831) (n := 1160) d_Law_law_1157 rfl rfl (fun c61 => ?_) (fun c61 => ?_)
        · have h := h.1 c61
          refine am_iinc (v := v3 + 6) (ls' := [some (.ref 1000), some (.ref 0), some (.ref 103), some (.int (v3 + 6))]) (n := 1834) d_Law_law_1831 rfl (congrArg _ ci_6) (by decide) rfl rfl ?_
          refine am_goto (tgt := 18) d_Law_law_1834 rfl ?_
          exact ih I50 L R (v3 + 6) hw h
        · have h := h.2 c61
          refine am_iconst (n := 1161) d_Law_law_1160 ci_0 rfl ?_
          exact am_iret d_Law_law_1161 ⟨false, I50, L, R, rfl, rfl, hw, h⟩
      by_cases c62 : ((I 1000 (Int32.toNatClampNeg v3)) &&& 63) = 29
      · have h := h.2.2.2.2.2.2.2.2.2.2.2.2.2.2.2.2.2.2.2.2.2.2.2.2.2.2.2.2.2.1 c62
        refine am_tableIn (off := 1129) (tgt := 1162) d_Law_law_33 (by rw [c62]; decide) (by rw [c62]; decide) (by rw [c62]; decide +kernel) rfl ?_
        refine am_aload_n (n := 1163) d_Law_law_1162 rfl rfl ?_
        refine am_aload_n (n := 1164) d_Law_law_1163 rfl rfl ?_
        refine am_iload_n (n := 1165) d_Law_law_1164 rfl rfl ?_
        refine am_iconst (n := 1166) d_Law_law_1165 ci_1 rfl ?_
        refine am_iadd (n := 1167) d_Law_law_1166 rfl ?_
        obtain ⟨w100, g100, h⟩ := h
        refine am_sald (n := 1168) d_Law_law_1167 rfl g100.1 g100.2.1 g100.2.2 ?_
        refine am_callV (kc := 0) (ks := 0) (As := [.int (I 1000 (Int32.toNatClampNeg (v3 + 1)))]) (n := 1171) d_Law_law_1168 rfl ce_U_soon lk_Law_143 in_U_soon rfl rfl rfl rfl rfl (Nat.le_of_ble_eq_true rfl) (Or.inl rfl) (cm_U_soon (d := d - 1) hw (by omega) rfl h) (by omega) ?_
        rintro _ _ ⟨r59, I51, rfl, rfl, h⟩
        show am_Wp (d, "UnseenRingLaw", b_Law_law, 4, false) 0 0 1171 [some (.ref 1000), some (.ref 0), some (.ref 103), some (.int v3)] [.int r59] (I51, L, R, am_SH) (po_Law Q)
        refine am_aload_n (n := 1172) d_Law_law_1171 rfl rfl ?_
        refine am_aload_n (n := 1173) d_Law_law_1172 rfl rfl ?_
        refine am_iload_n (n := 1174) d_Law_law_1173 rfl rfl ?_
        refine am_iconst (n := 1175) d_Law_law_1174 ci_1 rfl ?_
        refine am_iadd (n := 1176) d_Law_law_1175 rfl ?_
        obtain ⟨w101, g101, h⟩ := h
        refine am_sald (n := 1177) d_Law_law_1176 rfl g101.1 g101.2.1 g101.2.2 ?_
        refine am_callV (kc := 0) (ks := 0) (As := [.int (I51 1000 (Int32.toNatClampNeg (v3 + 1)))]) (n := 1180) d_Law_law_1177 rfl ce_M_soon lk_Law_146 in_M_soon rfl rfl rfl rfl rfl (Nat.le_of_ble_eq_true rfl) (Or.inl rfl) (cm_M_soon (d := d - 1) hw (by omega) rfl h) (by omega) ?_
        rintro _ _ ⟨r60, I52, rfl, rfl, h⟩
        show am_Wp (d, "UnseenRingLaw", b_Law_law, 4, false) 0 0 1180 [some (.ref 1000), some (.ref 0), some (.ref 103), some (.int v3)] [.int r60, .int r59] (I52, L, R, am_SH) (po_Law Q)
        refine am_icmp_eq (tgt := 1831) (n := 1183) d_Law_law_1180 rfl rfl (fun c63 => ?_) (fun c63 => ?_)
        · have h := h.1 c63
          refine am_iinc (v := v3 + 6) (ls' := [some (.ref 1000), some (.ref 0), some (.ref 103), some (.int (v3 + 6))]) (n := 1834) d_Law_law_1831 rfl (congrArg _ ci_6) (by decide) rfl rfl ?_
          refine am_goto (tgt := 18) d_Law_law_1834 rfl ?_
          exact ih I52 L R (v3 + 6) hw h
        · have h := h.2 c63
          refine am_iconst (n := 1184) d_Law_law_1183 ci_0 rfl ?_
          exact am_iret d_Law_law_1184 ⟨false, I52, L, R, rfl, rfl, hw, h⟩
      by_cases c64 : ((I 1000 (Int32.toNatClampNeg v3)) &&& 63) = 30
      · have h := h.2.2.2.2.2.2.2.2.2.2.2.2.2.2.2.2.2.2.2.2.2.2.2.2.2.2.2.2.2.2.1 c64
        refine am_tableIn (off := 1152) (tgt := 1185) d_Law_law_33 (by rw [c64]; decide) (by rw [c64]; decide) (by rw [c64]; decide +kernel) rfl ?_
        refine am_aload_n (n := 1186) d_Law_law_1185 rfl rfl ?_
        refine am_aload_n (n := 1187) d_Law_law_1186 rfl rfl ?_
        refine am_iload_n (n := 1188) d_Law_law_1187 rfl rfl ?_
        refine am_iconst (n := 1189) d_Law_law_1188 ci_1 rfl ?_
        refine am_iadd (n := 1190) d_Law_law_1189 rfl ?_
        obtain ⟨w102, g102, h⟩ := h
        refine am_sald (n := 1191) d_Law_law_1190 rfl g102.1 g102.2.1 g102.2.2 ?_
        refine am_callV (kc := 0) (ks := 0) (As := [.int (I 1000 (Int32.toNatClampNeg (v3 + 1)))]) (n := 1194) d_Law_law_1191 rfl ce_U_gather lk_Law_147 in_U_gather rfl rfl rfl rfl rfl (Nat.le_of_ble_eq_true rfl) (Or.inl rfl) (cm_U_gather (d := d - 1) hw (by omega) rfl h) (by omega) ?_
        rintro _ _ ⟨r61, I53, rfl, rfl, h⟩
        show am_Wp (d, "UnseenRingLaw", b_Law_law, 4, false) 0 0 1194 [some (.ref 1000), some (.ref 0), some (.ref 103), some (.int v3)] [.int r61] (I53, L, R, am_SH) (po_Law Q)
        refine am_aload_n (n := 1195) d_Law_law_1194 rfl rfl ?_
        refine am_aload_n (n := 1196) d_Law_law_1195 rfl rfl ?_
        refine am_iload_n (n := 1197) d_Law_law_1196 rfl rfl ?_
        refine am_iconst (n := 1198) d_Law_law_1197 ci_1 rfl ?_
        refine am_iadd (n := 1199) d_Law_law_1198 rfl ?_
        obtain ⟨w103, g103, h⟩ := h
        refine am_sald (n := 1200) d_Law_law_1199 rfl g103.1 g103.2.1 g103.2.2 ?_
        refine am_callV (kc := 0) (ks := 0) (As := [.int (I53 1000 (Int32.toNatClampNeg (v3 + 1)))]) (n := 1203) d_Law_law_1200 rfl ce_M_gather lk_Law_150 in_M_gather rfl rfl rfl rfl rfl (Nat.le_of_ble_eq_true rfl) (Or.inl rfl) (cm_M_gather (d := d - 1) hw (by omega) rfl h) (by omega) ?_
        rintro _ _ ⟨r62, I54, rfl, rfl, h⟩
        show am_Wp (d, "UnseenRingLaw", b_Law_law, 4, false) 0 0 1203 [some (.ref 1000), some (.ref 0), some (.ref 103), some (.int v3)] [.int r62, .int r61] (I54, L, R, am_SH) (po_Law Q)
        refine am_icmp_eq (tgt := 1831) (n := 1206) d_Law_law_1203 rfl rfl (fun c65 => ?_) (fun c65 => ?_)
        · have h := h.1 c65
          refine am_iinc (v := v3 + 6) (ls' := [some (.ref 1000), some (.ref 0), some (.ref 103), some (.int (v3 + 6))]) (n := 1834) d_Law_law_1831 rfl (congrArg _ ci_6) (by decide) rfl rfl ?_
          refine am_goto (tgt := 18) d_Law_law_1834 rfl ?_
          exact ih I54 L R (v3 + 6) hw h
        · have h := h.2 c65
          refine am_iconst (n := 1207) d_Law_law_1206 ci_0 rfl ?_
          exact am_iret d_Law_law_1207 ⟨false, I54, L, R, rfl, rfl, hw, h⟩
      by_cases c66 : ((I 1000 (Int32.toNatClampNeg v3)) &&& 63) = 31
      · have h := h.2.2.2.2.2.2.2.2.2.2.2.2.2.2.2.2.2.2.2.2.2.2.2.2.2.2.2.2.2.2.2.1 c66
        refine am_tableIn (off := 1175) (tgt := 1208) d_Law_law_33 (by rw [c66]; decide) (by rw [c66]; decide) (by rw [c66]; decide +kernel) rfl ?_
        refine am_aload_n (n := 1209) d_Law_law_1208 rfl rfl ?_
        refine am_aload_n (n := 1210) d_Law_law_1209 rfl rfl ?_
        refine am_iload_n (n := 1211) d_Law_law_1210 rfl rfl ?_
        refine am_iconst (n := 1212) d_Law_law_1211 ci_1 rfl ?_
        refine am_iadd (n := 1213) d_Law_law_1212 rfl ?_
        obtain ⟨w104, g104, h⟩ := h
        refine am_sald (n := 1214) d_Law_law_1213 rfl g104.1 g104.2.1 g104.2.2 ?_
        refine am_aload_n (n := 1215) d_Law_law_1214 rfl rfl ?_
        refine am_iload_n (n := 1216) d_Law_law_1215 rfl rfl ?_
        refine am_iconst (n := 1217) d_Law_law_1216 ci_2 rfl ?_
        refine am_iadd (n := 1218) d_Law_law_1217 rfl ?_
        obtain ⟨w105, g105, h⟩ := h
        refine am_sald (n := 1219) d_Law_law_1218 rfl g105.1 g105.2.1 g105.2.2 ?_
        refine am_callV (kc := 0) (ks := 0) (As := [.int (I 1000 (Int32.toNatClampNeg (v3 + 1))), .int (I 1000 (Int32.toNatClampNeg (v3 + 2)))]) (n := 1222) d_Law_law_1219 rfl ce_U_gatherAt lk_Law_151 in_U_gatherAt rfl rfl rfl rfl rfl (Nat.le_of_ble_eq_true rfl) (Or.inl rfl) (cm_U_gatherAt (d := d - 1) hw (by omega) rfl h) (by omega) ?_
        rintro _ _ ⟨r63, I55, rfl, rfl, h⟩
        show am_Wp (d, "UnseenRingLaw", b_Law_law, 4, false) 0 0 1222 [some (.ref 1000), some (.ref 0), some (.ref 103), some (.int v3)] [.int r63] (I55, L, R, am_SH) (po_Law Q)
        refine am_aload_n (n := 1223) d_Law_law_1222 rfl rfl ?_
        refine am_aload_n (n := 1224) d_Law_law_1223 rfl rfl ?_
        refine am_iload_n (n := 1225) d_Law_law_1224 rfl rfl ?_
        refine am_iconst (n := 1226) d_Law_law_1225 ci_1 rfl ?_
        refine am_iadd (n := 1227) d_Law_law_1226 rfl ?_
        obtain ⟨w106, g106, h⟩ := h
        refine am_sald (n := 1228) d_Law_law_1227 rfl g106.1 g106.2.1 g106.2.2 ?_
        refine am_aload_n (n := 1229) d_Law_law_1228 rfl rfl ?_
        refine am_iload_n (n := 1230) d_Law_law_1229 rfl rfl ?_
        refine am_iconst (n := 1231) d_Law_law_1230 ci_2 rfl ?_
        refine am_iadd (n := 1232) d_Law_law_1231 rfl ?_
        obtain ⟨w107, g107, h⟩ := h
        refine am_sald (n := 1233) d_Law_law_1232 rfl g107.1 g107.2.1 g107.2.2 ?_
        refine am_callV (kc := 0) (ks := 0) (As := [.int (I55 1000 (Int32.toNatClampNeg (v3 + 1))), .int (I55 1000 (Int32.toNatClampNeg (v3 + 2)))]) (n := 1236) d_Law_law_1233 rfl ce_M_gatherAt lk_Law_154 in_M_gatherAt rfl rfl rfl rfl rfl (Nat.le_of_ble_eq_true rfl) (Or.inl rfl) (cm_M_gatherAt (d := d - 1) hw (by omega) rfl h) (by omega) ?_
        rintro _ _ ⟨r64, I56, rfl, rfl, h⟩
        show am_Wp (d, "UnseenRingLaw", b_Law_law, 4, false) 0 0 1236 [some (.ref 1000), some (.ref 0), some (.ref 103), some (.int v3)] [.int r64, .int r63] (I56, L, R, am_SH) (po_Law Q)
        refine am_icmp_eq (tgt := 1831) (n := 1239) d_Law_law_1236 rfl rfl (fun c67 => ?_) (fun c67 => ?_)
        · have h := h.1 c67
          refine am_iinc (v := v3 + 6) (ls' := [some (.ref 1000), some (.ref 0), some (.ref 103), some (.int (v3 + 6))]) (n := 1834) d_Law_law_1831 rfl (congrArg _ ci_6) (by decide) rfl rfl ?_
          refine am_goto (tgt := 18) d_Law_law_1834 rfl ?_
          exact ih I56 L R (v3 + 6) hw h
        · have h := h.2 c67
          refine am_iconst (n := 1240) d_Law_law_1239 ci_0 rfl ?_
          exact am_iret d_Law_law_1240 ⟨false, I56, L, R, rfl, rfl, hw, h⟩
      by_cases c68 : ((I 1000 (Int32.toNatClampNeg v3)) &&& 63) = 32
      · have h := h.2.2.2.2.2.2.2.2.2.2.2.2.2.2.2.2.2.2.2.2.2.2.2.2.2.2.2.2.2.2.2.2.1 c68
        refine am_tableIn (off := 1208) (tgt := 1241) d_Law_law_33 (by rw [c68]; decide) (by rw [c68]; decide) (by rw [c68]; decide +kernel) rfl ?_
        refine am_aload_n (n := 1242) d_Law_law_1241 rfl rfl ?_
        refine am_aload_n (n := 1243) d_Law_law_1242 rfl rfl ?_
        refine am_iload_n (n := 1244) d_Law_law_1243 rfl rfl ?_
        refine am_iconst (n := 1245) d_Law_law_1244 ci_1 rfl ?_
        refine am_iadd (n := 1246) d_Law_law_1245 rfl ?_
        obtain ⟨w108, g108, h⟩ := h
        refine am_sald (n := 1247) d_Law_law_1246 rfl g108.1 g108.2.1 g108.2.2 ?_
        refine am_callV (kc := 0) (ks := 0) (As := [.int (I 1000 (Int32.toNatClampNeg (v3 + 1)))]) (n := 1250) d_Law_law_1247 rfl ce_U_explain lk_Law_155 in_U_explain rfl rfl rfl rfl rfl (Nat.le_of_ble_eq_true rfl) (Or.inl rfl) (cm_U_explain (d := d - 1) hw (by omega) rfl h) (by omega) ?_
        rintro _ _ ⟨r65, I57, rfl, rfl, h⟩
        show am_Wp (d, "UnseenRingLaw", b_Law_law, 4, false) 0 0 1250 [some (.ref 1000), some (.ref 0), some (.ref 103), some (.int v3)] [.int r65] (I57, L, R, am_SH) (po_Law Q)
        refine am_aload_n (n := 1251) d_Law_law_1250 rfl rfl ?_
        refine am_aload_n (n := 1252) d_Law_law_1251 rfl rfl ?_
        refine am_iload_n (n := 1253) d_Law_law_1252 rfl rfl ?_
        refine am_iconst (n := 1254) d_Law_law_1253 ci_1 rfl ?_
        refine am_iadd (n := 1255) d_Law_law_1254 rfl ?_
        obtain ⟨w109, g109, h⟩ := h
        refine am_sald (n := 1256) d_Law_law_1255 rfl g109.1 g109.2.1 g109.2.2 ?_
        refine am_callV (kc := 0) (ks := 0) (As := [.int (I57 1000 (Int32.toNatClampNeg (v3 + 1)))]) (n := 1259) d_Law_law_1256 rfl ce_M_explain lk_Law_158 in_M_explain rfl rfl rfl rfl rfl (Nat.le_of_ble_eq_true rfl) (Or.inl rfl) (cm_M_explain (d := d - 1) hw (by omega) rfl h) (by omega) ?_
        rintro _ _ ⟨r66, I58, rfl, rfl, h⟩
        show am_Wp (d, "UnseenRingLaw", b_Law_law, 4, false) 0 0 1259 [some (.ref 1000), some (.ref 0), some (.ref 103), some (.int v3)] [.int r66, .int r65] (I58, L, R, am_SH) (po_Law Q)
        refine am_icmp_eq (tgt := 1831) (n := 1262) d_Law_law_1259 rfl rfl (fun c69 => ?_) (fun c69 => ?_)
        · have h := h.1 c69
          refine am_iinc (v := v3 + 6) (ls' := [some (.ref 1000), some (.ref 0), some (.ref 103), some (.int (v3 + 6))]) (n := 1834) d_Law_law_1831 rfl (congrArg _ ci_6) (by decide) rfl rfl ?_
          refine am_goto (tgt := 18) d_Law_law_1834 rfl ?_
          exact ih I58 L R (v3 + 6) hw h
        · have h := h.2 c69
          refine am_iconst (n := 1263) d_Law_law_1262 ci_0 rfl ?_
          exact am_iret d_Law_law_1263 ⟨false, I58, L, R, rfl, rfl, hw, h⟩
      by_cases c70 : ((I 1000 (Int32.toNatClampNeg v3)) &&& 63) = 33
      · have h := h.2.2.2.2.2.2.2.2.2.2.2.2.2.2.2.2.2.2.2.2.2.2.2.2.2.2.2.2.2.2.2.2.2.1 c70
        refine am_tableIn (off := 1231) (tgt := 1264) d_Law_law_33 (by rw [c70]; decide) (by rw [c70]; decide) (by rw [c70]; decide +kernel) rfl ?_
        refine am_aload_n (n := 1265) d_Law_law_1264 rfl rfl ?_
        refine am_aload_n (n := 1266) d_Law_law_1265 rfl rfl ?_
        refine am_iload_n (n := 1267) d_Law_law_1266 rfl rfl ?_
        refine am_iconst (n := 1268) d_Law_law_1267 ci_1 rfl ?_
        refine am_iadd (n := 1269) d_Law_law_1268 rfl ?_
        obtain ⟨w110, g110, h⟩ := h
        refine am_sald (n := 1270) d_Law_law_1269 rfl g110.1 g110.2.1 g110.2.2 ?_
        refine am_aload_n (n := 1271) d_Law_law_1270 rfl rfl ?_
        refine am_iload_n (n := 1272) d_Law_law_1271 rfl rfl ?_
        refine am_iconst (n := 1273) d_Law_law_1272 ci_2 rfl ?_
        refine am_iadd (n := 1274) d_Law_law_1273 rfl ?_
        obtain ⟨w111, g111, h⟩ := h
        refine am_sald (n := 1275) d_Law_law_1274 rfl g111.1 g111.2.1 g111.2.2 ?_
        refine am_callV (kc := 0) (ks := 0) (As := [.int (I 1000 (Int32.toNatClampNeg (v3 + 1))), .int (I 1000 (Int32.toNatClampNeg (v3 + 2)))]) (n := 1278) d_Law_law_1275 rfl ce_U_placings lk_Law_159 in_U_placings rfl rfl rfl rfl rfl (Nat.le_of_ble_eq_true rfl) (Or.inl rfl) (cm_U_placings (d := d - 1) hw (by omega) rfl h) (by omega) ?_
        rintro _ _ ⟨r67, I59, rfl, rfl, h⟩
        show am_Wp (d, "UnseenRingLaw", b_Law_law, 4, false) 0 0 1278 [some (.ref 1000), some (.ref 0), some (.ref 103), some (.int v3)] [.int r67] (I59, L, R, am_SH) (po_Law Q)
        refine am_aload_n (n := 1279) d_Law_law_1278 rfl rfl ?_
        refine am_aload_n (n := 1280) d_Law_law_1279 rfl rfl ?_
        refine am_iload_n (n := 1281) d_Law_law_1280 rfl rfl ?_
        refine am_iconst (n := 1282) d_Law_law_1281 ci_1 rfl ?_
        refine am_iadd (n := 1283) d_Law_law_1282 rfl ?_
        obtain ⟨w112, g112, h⟩ := h
        refine am_sald (n := 1284) d_Law_law_1283 rfl g112.1 g112.2.1 g112.2.2 ?_
        refine am_aload_n (n := 1285) d_Law_law_1284 rfl rfl ?_
        refine am_iload_n (n := 1286) d_Law_law_1285 rfl rfl ?_
        refine am_iconst (n := 1287) d_Law_law_1286 ci_2 rfl ?_
        refine am_iadd (n := 1288) d_Law_law_1287 rfl ?_
        obtain ⟨w113, g113, h⟩ := h
        refine am_sald (n := 1289) d_Law_law_1288 rfl g113.1 g113.2.1 g113.2.2 ?_
        refine am_callV (kc := 0) (ks := 0) (As := [.int (I59 1000 (Int32.toNatClampNeg (v3 + 1))), .int (I59 1000 (Int32.toNatClampNeg (v3 + 2)))]) (n := 1292) d_Law_law_1289 rfl ce_M_placings lk_Law_162 in_M_placings rfl rfl rfl rfl rfl (Nat.le_of_ble_eq_true rfl) (Or.inl rfl) (cm_M_placings (d := d - 1) hw (by omega) rfl h) (by omega) ?_
        rintro _ _ ⟨r68, I60, rfl, rfl, h⟩
        show am_Wp (d, "UnseenRingLaw", b_Law_law, 4, false) 0 0 1292 [some (.ref 1000), some (.ref 0), some (.ref 103), some (.int v3)] [.int r68, .int r67] (I60, L, R, am_SH) (po_Law Q)
        refine am_icmp_eq (tgt := 1831) (n := 1295) d_Law_law_1292 rfl rfl (fun c71 => ?_) (fun c71 => ?_)
        · have h := h.1 c71
          refine am_iinc (v := v3 + 6) (ls' := [some (.ref 1000), some (.ref 0), some (.ref 103), some (.int (v3 + 6))]) (n := 1834) d_Law_law_1831 rfl (congrArg _ ci_6) (by decide) rfl rfl ?_
          refine am_goto (tgt := 18) d_Law_law_1834 rfl ?_
          exact ih I60 L R (v3 + 6) hw h
        · have h := h.2 c71
          refine am_iconst (n := 1296) d_Law_law_1295 ci_0 rfl ?_
          exact am_iret d_Law_law_1296 ⟨false, I60, L, R, rfl, rfl, hw, h⟩
      by_cases c72 : ((I 1000 (Int32.toNatClampNeg v3)) &&& 63) = 34
      · have h := h.2.2.2.2.2.2.2.2.2.2.2.2.2.2.2.2.2.2.2.2.2.2.2.2.2.2.2.2.2.2.2.2.2.2.1 c72
        refine am_tableIn (off := 1264) (tgt := 1297) d_Law_law_33 (by rw [c72]; decide) (by rw [c72]; decide) (by rw [c72]; decide +kernel) rfl ?_
        refine am_aload_n (n := 1298) d_Law_law_1297 rfl rfl ?_
        refine am_aload_n (n := 1299) d_Law_law_1298 rfl rfl ?_
        refine am_iload_n (n := 1300) d_Law_law_1299 rfl rfl ?_
        refine am_iconst (n := 1301) d_Law_law_1300 ci_1 rfl ?_
        refine am_iadd (n := 1302) d_Law_law_1301 rfl ?_
        obtain ⟨w114, g114, h⟩ := h
        refine am_sald (n := 1303) d_Law_law_1302 rfl g114.1 g114.2.1 g114.2.2 ?_
        refine am_aload_n (n := 1304) d_Law_law_1303 rfl rfl ?_
        refine am_iload_n (n := 1305) d_Law_law_1304 rfl rfl ?_
        refine am_iconst (n := 1306) d_Law_law_1305 ci_2 rfl ?_
        refine am_iadd (n := 1307) d_Law_law_1306 rfl ?_
        obtain ⟨w115, g115, h⟩ := h
        refine am_sald (n := 1308) d_Law_law_1307 rfl g115.1 g115.2.1 g115.2.2 ?_
        refine am_aload_n (n := 1309) d_Law_law_1308 rfl rfl ?_
        refine am_iload_n (n := 1310) d_Law_law_1309 rfl rfl ?_
        refine am_iconst (n := 1311) d_Law_law_1310 ci_3 rfl ?_
        refine am_iadd (n := 1312) d_Law_law_1311 rfl ?_
        obtain ⟨w116, g116, h⟩ := h
        refine am_sald (n := 1313) d_Law_law_1312 rfl g116.1 g116.2.1 g116.2.2 ?_
        refine am_callV (kc := 0) (ks := 0) (As := [.int (I 1000 (Int32.toNatClampNeg (v3 + 1))), .int (I 1000 (Int32.toNatClampNeg (v3 + 2))), .int (I 1000 (Int32.toNatClampNeg (v3 + 3)))]) (n := 1316) d_Law_law_1313 rfl ce_U_oddsThat lk_Law_163 in_U_oddsThat rfl rfl rfl rfl rfl (Nat.le_of_ble_eq_true rfl) (Or.inl rfl) (cm_U_oddsThat (d := d - 1) hw (by omega) rfl h) (by omega) ?_
        rintro _ _ ⟨r69, I61, L10, rfl, rfl, h⟩
        show am_Wp (d, "UnseenRingLaw", b_Law_law, 4, false) 0 0 1316 [some (.ref 1000), some (.ref 0), some (.ref 103), some (.int v3)] [.int (am_b r69)] (I61, L10, R, am_SH) (po_Law Q)
        refine am_aload_n (n := 1317) d_Law_law_1316 rfl rfl ?_
        refine am_aload_n (n := 1318) d_Law_law_1317 rfl rfl ?_
        refine am_iload_n (n := 1319) d_Law_law_1318 rfl rfl ?_
        refine am_iconst (n := 1320) d_Law_law_1319 ci_1 rfl ?_
        refine am_iadd (n := 1321) d_Law_law_1320 rfl ?_
        obtain ⟨w117, g117, h⟩ := h
        refine am_sald (n := 1322) d_Law_law_1321 rfl g117.1 g117.2.1 g117.2.2 ?_
        refine am_aload_n (n := 1323) d_Law_law_1322 rfl rfl ?_
        refine am_iload_n (n := 1324) d_Law_law_1323 rfl rfl ?_
        refine am_iconst (n := 1325) d_Law_law_1324 ci_2 rfl ?_
        refine am_iadd (n := 1326) d_Law_law_1325 rfl ?_
        obtain ⟨w118, g118, h⟩ := h
        refine am_sald (n := 1327) d_Law_law_1326 rfl g118.1 g118.2.1 g118.2.2 ?_
        refine am_aload_n (n := 1328) d_Law_law_1327 rfl rfl ?_
        refine am_iload_n (n := 1329) d_Law_law_1328 rfl rfl ?_
        refine am_iconst (n := 1330) d_Law_law_1329 ci_3 rfl ?_
        refine am_iadd (n := 1331) d_Law_law_1330 rfl ?_
        obtain ⟨w119, g119, h⟩ := h
        refine am_sald (n := 1332) d_Law_law_1331 rfl g119.1 g119.2.1 g119.2.2 ?_
        refine am_callV (kc := 0) (ks := 0) (As := [.int (I61 1000 (Int32.toNatClampNeg (v3 + 1))), .int (I61 1000 (Int32.toNatClampNeg (v3 + 2))), .int (I61 1000 (Int32.toNatClampNeg (v3 + 3)))]) (n := 1335) d_Law_law_1332 rfl ce_M_oddsThat lk_Law_166 in_M_oddsThat rfl rfl rfl rfl rfl (Nat.le_of_ble_eq_true rfl) (Or.inl rfl) (cm_M_oddsThat (d := d - 1) hw (by omega) rfl h) (by omega) ?_
        rintro _ _ ⟨r70, I62, L11, rfl, rfl, h⟩
        show am_Wp (d, "UnseenRingLaw", b_Law_law, 4, false) 0 0 1335 [some (.ref 1000), some (.ref 0), some (.ref 103), some (.int v3)] [.int (am_b r70), .int (am_b r69)] (I62, L11, R, am_SH) (po_Law Q)
        refine am_icmp_eq (tgt := 1831) (n := 1338) d_Law_law_1335 rfl rfl (fun c73 => ?_) (fun c73 => ?_)
        · have h := h.1 c73
          refine am_iinc (v := v3 + 6) (ls' := [some (.ref 1000), some (.ref 0), some (.ref 103), some (.int (v3 + 6))]) (n := 1834) d_Law_law_1831 rfl (congrArg _ ci_6) (by decide) rfl rfl ?_
          refine am_goto (tgt := 18) d_Law_law_1834 rfl ?_
          exact ih I62 L11 R (v3 + 6) hw h
        · have h := h.2 c73
          refine am_iconst (n := 1339) d_Law_law_1338 ci_0 rfl ?_
          exact am_iret d_Law_law_1339 ⟨false, I62, L11, R, rfl, rfl, hw, h⟩
      by_cases c74 : ((I 1000 (Int32.toNatClampNeg v3)) &&& 63) = 35
      · have h := h.2.2.2.2.2.2.2.2.2.2.2.2.2.2.2.2.2.2.2.2.2.2.2.2.2.2.2.2.2.2.2.2.2.2.2.1 c74
        refine am_tableIn (off := 1307) (tgt := 1340) d_Law_law_33 (by rw [c74]; decide) (by rw [c74]; decide) (by rw [c74]; decide +kernel) rfl ?_
        refine am_aload_n (n := 1341) d_Law_law_1340 rfl rfl ?_
        refine am_aload_n (n := 1342) d_Law_law_1341 rfl rfl ?_
        refine am_iload_n (n := 1343) d_Law_law_1342 rfl rfl ?_
        refine am_iconst (n := 1344) d_Law_law_1343 ci_1 rfl ?_
        refine am_iadd (n := 1345) d_Law_law_1344 rfl ?_
        obtain ⟨w120, g120, h⟩ := h
        refine am_sald (n := 1346) d_Law_law_1345 rfl g120.1 g120.2.1 g120.2.2 ?_
        refine am_aload_n (n := 1347) d_Law_law_1346 rfl rfl ?_
        refine am_iload_n (n := 1348) d_Law_law_1347 rfl rfl ?_
        refine am_iconst (n := 1349) d_Law_law_1348 ci_2 rfl ?_
        refine am_iadd (n := 1350) d_Law_law_1349 rfl ?_
        obtain ⟨w121, g121, h⟩ := h
        refine am_sald (n := 1351) d_Law_law_1350 rfl g121.1 g121.2.1 g121.2.2 ?_
        refine am_callV (kc := 0) (ks := 0) (As := [.int (I 1000 (Int32.toNatClampNeg (v3 + 1))), .int (I 1000 (Int32.toNatClampNeg (v3 + 2)))]) (n := 1354) d_Law_law_1351 rfl ce_U_aim lk_Law_167 in_U_aim rfl rfl rfl rfl rfl (Nat.le_of_ble_eq_true rfl) (Or.inl rfl) (cm_U_aim (d := d - 1) hw (by omega) rfl h) (by omega) ?_
        rintro _ _ ⟨r71, I63, rfl, rfl, h⟩
        show am_Wp (d, "UnseenRingLaw", b_Law_law, 4, false) 0 0 1354 [some (.ref 1000), some (.ref 0), some (.ref 103), some (.int v3)] [.int r71] (I63, L, R, am_SH) (po_Law Q)
        refine am_aload_n (n := 1355) d_Law_law_1354 rfl rfl ?_
        refine am_aload_n (n := 1356) d_Law_law_1355 rfl rfl ?_
        refine am_iload_n (n := 1357) d_Law_law_1356 rfl rfl ?_
        refine am_iconst (n := 1358) d_Law_law_1357 ci_1 rfl ?_
        refine am_iadd (n := 1359) d_Law_law_1358 rfl ?_
        obtain ⟨w122, g122, h⟩ := h
        refine am_sald (n := 1360) d_Law_law_1359 rfl g122.1 g122.2.1 g122.2.2 ?_
        refine am_aload_n (n := 1361) d_Law_law_1360 rfl rfl ?_
        refine am_iload_n (n := 1362) d_Law_law_1361 rfl rfl ?_
        refine am_iconst (n := 1363) d_Law_law_1362 ci_2 rfl ?_
        refine am_iadd (n := 1364) d_Law_law_1363 rfl ?_
        obtain ⟨w123, g123, h⟩ := h
        refine am_sald (n := 1365) d_Law_law_1364 rfl g123.1 g123.2.1 g123.2.2 ?_
        refine am_callV (kc := 0) (ks := 0) (As := [.int (I63 1000 (Int32.toNatClampNeg (v3 + 1))), .int (I63 1000 (Int32.toNatClampNeg (v3 + 2)))]) (n := 1368) d_Law_law_1365 rfl ce_M_aim lk_Law_170 in_M_aim rfl rfl rfl rfl rfl (Nat.le_of_ble_eq_true rfl) (Or.inl rfl) (cm_M_aim (d := d - 1) hw (by omega) rfl h) (by omega) ?_
        rintro _ _ ⟨r72, I64, rfl, rfl, h⟩
        show am_Wp (d, "UnseenRingLaw", b_Law_law, 4, false) 0 0 1368 [some (.ref 1000), some (.ref 0), some (.ref 103), some (.int v3)] [.int r72, .int r71] (I64, L, R, am_SH) (po_Law Q)
        refine am_icmp_eq (tgt := 1831) (n := 1371) d_Law_law_1368 rfl rfl (fun c75 => ?_) (fun c75 => ?_)
        · have h := h.1 c75
          refine am_iinc (v := v3 + 6) (ls' := [some (.ref 1000), some (.ref 0), some (.ref 103), some (.int (v3 + 6))]) (n := 1834) d_Law_law_1831 rfl (congrArg _ ci_6) (by decide) rfl rfl ?_
          refine am_goto (tgt := 18) d_Law_law_1834 rfl ?_
          exact ih I64 L R (v3 + 6) hw h
        · have h := h.2 c75
          refine am_iconst (n := 1372) d_Law_law_1371 ci_0 rfl ?_
          exact am_iret d_Law_law_1372 ⟨false, I64, L, R, rfl, rfl, hw, h⟩
      by_cases c76 : ((I 1000 (Int32.toNatClampNeg v3)) &&& 63) = 36
      · have h := h.2.2.2.2.2.2.2.2.2.2.2.2.2.2.2.2.2.2.2.2.2.2.2.2.2.2.2.2.2.2.2.2.2.2.2.2.1 c76
        refine am_tableIn (off := 1340) (tgt := 1373) d_Law_law_33 (by rw [c76]; decide) (by rw [c76]; decide) (by rw [c76]; decide +kernel) rfl ?_
        refine am_aload_n (n := 1374) d_Law_law_1373 rfl rfl ?_
        refine am_aload_n (n := 1375) d_Law_law_1374 rfl rfl ?_
        refine am_iload_n (n := 1376) d_Law_law_1375 rfl rfl ?_
        refine am_iconst (n := 1377) d_Law_law_1376 ci_1 rfl ?_
        refine am_iadd (n := 1378) d_Law_law_1377 rfl ?_
        obtain ⟨w124, g124, h⟩ := h
        refine am_sald (n := 1379) d_Law_law_1378 rfl g124.1 g124.2.1 g124.2.2 ?_
        refine am_aload_n (n := 1380) d_Law_law_1379 rfl rfl ?_
        refine am_iload_n (n := 1381) d_Law_law_1380 rfl rfl ?_
        refine am_iconst (n := 1382) d_Law_law_1381 ci_2 rfl ?_
        refine am_iadd (n := 1383) d_Law_law_1382 rfl ?_
        obtain ⟨w125, g125, h⟩ := h
        refine am_sald (n := 1384) d_Law_law_1383 rfl g125.1 g125.2.1 g125.2.2 ?_
        refine am_callV (kc := 0) (ks := 0) (As := [.int (I 1000 (Int32.toNatClampNeg (v3 + 1))), .int (I 1000 (Int32.toNatClampNeg (v3 + 2)))]) (n := 1387) d_Law_law_1384 rfl ce_U_cover lk_Law_171 in_U_cover rfl rfl rfl rfl rfl (Nat.le_of_ble_eq_true rfl) (Or.inl rfl) (cm_U_cover (d := d - 1) hw (by omega) rfl h) (by omega) ?_
        rintro _ _ ⟨r73, I65, rfl, rfl, h⟩
        show am_Wp (d, "UnseenRingLaw", b_Law_law, 4, false) 0 0 1387 [some (.ref 1000), some (.ref 0), some (.ref 103), some (.int v3)] [.int r73] (I65, L, R, am_SH) (po_Law Q)
        refine am_aload_n (n := 1388) d_Law_law_1387 rfl rfl ?_
        refine am_aload_n (n := 1389) d_Law_law_1388 rfl rfl ?_
        refine am_iload_n (n := 1390) d_Law_law_1389 rfl rfl ?_
        refine am_iconst (n := 1391) d_Law_law_1390 ci_1 rfl ?_
        refine am_iadd (n := 1392) d_Law_law_1391 rfl ?_
        obtain ⟨w126, g126, h⟩ := h
        refine am_sald (n := 1393) d_Law_law_1392 rfl g126.1 g126.2.1 g126.2.2 ?_
        refine am_aload_n (n := 1394) d_Law_law_1393 rfl rfl ?_
        refine am_iload_n (n := 1395) d_Law_law_1394 rfl rfl ?_
        refine am_iconst (n := 1396) d_Law_law_1395 ci_2 rfl ?_
        refine am_iadd (n := 1397) d_Law_law_1396 rfl ?_
        obtain ⟨w127, g127, h⟩ := h
        refine am_sald (n := 1398) d_Law_law_1397 rfl g127.1 g127.2.1 g127.2.2 ?_
        refine am_callV (kc := 0) (ks := 0) (As := [.int (I65 1000 (Int32.toNatClampNeg (v3 + 1))), .int (I65 1000 (Int32.toNatClampNeg (v3 + 2)))]) (n := 1401) d_Law_law_1398 rfl ce_M_cover lk_Law_174 in_M_cover rfl rfl rfl rfl rfl (Nat.le_of_ble_eq_true rfl) (Or.inl rfl) (cm_M_cover (d := d - 1) hw (by omega) rfl h) (by omega) ?_
        rintro _ _ ⟨r74, I66, rfl, rfl, h⟩
        show am_Wp (d, "UnseenRingLaw", b_Law_law, 4, false) 0 0 1401 [some (.ref 1000), some (.ref 0), some (.ref 103), some (.int v3)] [.int r74, .int r73] (I66, L, R, am_SH) (po_Law Q)
        refine am_icmp_eq (tgt := 1831) (n := 1404) d_Law_law_1401 rfl rfl (fun c77 => ?_) (fun c77 => ?_)
        · have h := h.1 c77
          refine am_iinc (v := v3 + 6) (ls' := [some (.ref 1000), some (.ref 0), some (.ref 103), some (.int (v3 + 6))]) (n := 1834) d_Law_law_1831 rfl (congrArg _ ci_6) (by decide) rfl rfl ?_
          refine am_goto (tgt := 18) d_Law_law_1834 rfl ?_
          exact ih I66 L R (v3 + 6) hw h
        · have h := h.2 c77
          refine am_iconst (n := 1405) d_Law_law_1404 ci_0 rfl ?_
          exact am_iret d_Law_law_1405 ⟨false, I66, L, R, rfl, rfl, hw, h⟩
      by_cases c78 : ((I 1000 (Int32.toNatClampNeg v3)) &&& 63) = 37
      · have h := h.2.2.2.2.2.2.2.2.2.2.2.2.2.2.2.2.2.2.2.2.2.2.2.2.2.2.2.2.2.2.2.2.2.2.2.2.2.1 c78
        refine am_tableIn (off := 1373) (tgt := 1406) d_Law_law_33 (by rw [c78]; decide) (by rw [c78]; decide) (by rw [c78]; decide +kernel) rfl ?_
        refine am_aload_n (n := 1407) d_Law_law_1406 rfl rfl ?_
        refine am_aload_n (n := 1408) d_Law_law_1407 rfl rfl ?_
        refine am_iload_n (n := 1409) d_Law_law_1408 rfl rfl ?_
        refine am_iconst (n := 1410) d_Law_law_1409 ci_1 rfl ?_
        refine am_iadd (n := 1411) d_Law_law_1410 rfl ?_
        obtain ⟨w128, g128, h⟩ := h
        refine am_sald (n := 1412) d_Law_law_1411 rfl g128.1 g128.2.1 g128.2.2 ?_
        refine am_aload_n (n := 1413) d_Law_law_1412 rfl rfl ?_
        refine am_iload_n (n := 1414) d_Law_law_1413 rfl rfl ?_
        refine am_iconst (n := 1415) d_Law_law_1414 ci_2 rfl ?_
        refine am_iadd (n := 1416) d_Law_law_1415 rfl ?_
        obtain ⟨w129, g129, h⟩ := h
        refine am_sald (n := 1417) d_Law_law_1416 rfl g129.1 g129.2.1 g129.2.2 ?_
        refine am_aload_n (n := 1418) d_Law_law_1417 rfl rfl ?_
        refine am_iload_n (n := 1419) d_Law_law_1418 rfl rfl ?_
        refine am_iconst (n := 1420) d_Law_law_1419 ci_3 rfl ?_
        refine am_iadd (n := 1421) d_Law_law_1420 rfl ?_
        obtain ⟨w130, g130, h⟩ := h
        refine am_sald (n := 1422) d_Law_law_1421 rfl g130.1 g130.2.1 g130.2.2 ?_
        refine am_callV (kc := 0) (ks := 0) (As := [.int (I 1000 (Int32.toNatClampNeg (v3 + 1))), .int (I 1000 (Int32.toNatClampNeg (v3 + 2))), .int (I 1000 (Int32.toNatClampNeg (v3 + 3)))]) (n := 1425) d_Law_law_1422 rfl ce_U_coverAt lk_Law_175 in_U_coverAt rfl rfl rfl rfl rfl (Nat.le_of_ble_eq_true rfl) (Or.inl rfl) (cm_U_coverAt (d := d - 1) hw (by omega) rfl h) (by omega) ?_
        rintro _ _ ⟨r75, I67, rfl, rfl, h⟩
        show am_Wp (d, "UnseenRingLaw", b_Law_law, 4, false) 0 0 1425 [some (.ref 1000), some (.ref 0), some (.ref 103), some (.int v3)] [.int r75] (I67, L, R, am_SH) (po_Law Q)
        refine am_aload_n (n := 1426) d_Law_law_1425 rfl rfl ?_
        refine am_aload_n (n := 1427) d_Law_law_1426 rfl rfl ?_
        refine am_iload_n (n := 1428) d_Law_law_1427 rfl rfl ?_
        refine am_iconst (n := 1429) d_Law_law_1428 ci_1 rfl ?_
        refine am_iadd (n := 1430) d_Law_law_1429 rfl ?_
        obtain ⟨w131, g131, h⟩ := h
        refine am_sald (n := 1431) d_Law_law_1430 rfl g131.1 g131.2.1 g131.2.2 ?_
        refine am_aload_n (n := 1432) d_Law_law_1431 rfl rfl ?_
        refine am_iload_n (n := 1433) d_Law_law_1432 rfl rfl ?_
        refine am_iconst (n := 1434) d_Law_law_1433 ci_2 rfl ?_
        refine am_iadd (n := 1435) d_Law_law_1434 rfl ?_
        obtain ⟨w132, g132, h⟩ := h
        refine am_sald (n := 1436) d_Law_law_1435 rfl g132.1 g132.2.1 g132.2.2 ?_
        refine am_aload_n (n := 1437) d_Law_law_1436 rfl rfl ?_
        refine am_iload_n (n := 1438) d_Law_law_1437 rfl rfl ?_
        refine am_iconst (n := 1439) d_Law_law_1438 ci_3 rfl ?_
        refine am_iadd (n := 1440) d_Law_law_1439 rfl ?_
        obtain ⟨w133, g133, h⟩ := h
        refine am_sald (n := 1441) d_Law_law_1440 rfl g133.1 g133.2.1 g133.2.2 ?_
        refine am_callV (kc := 0) (ks := 0) (As := [.int (I67 1000 (Int32.toNatClampNeg (v3 + 1))), .int (I67 1000 (Int32.toNatClampNeg (v3 + 2))), .int (I67 1000 (Int32.toNatClampNeg (v3 + 3)))]) (n := 1444) d_Law_law_1441 rfl ce_M_coverAt lk_Law_178 in_M_coverAt rfl rfl rfl rfl rfl (Nat.le_of_ble_eq_true rfl) (Or.inl rfl) (cm_M_coverAt (d := d - 1) hw (by omega) rfl h) (by omega) ?_
        rintro _ _ ⟨r76, I68, rfl, rfl, h⟩
        show am_Wp (d, "UnseenRingLaw", b_Law_law, 4, false) 0 0 1444 [some (.ref 1000), some (.ref 0), some (.ref 103), some (.int v3)] [.int r76, .int r75] (I68, L, R, am_SH) (po_Law Q)
        refine am_icmp_eq (tgt := 1831) (n := 1447) d_Law_law_1444 rfl rfl (fun c79 => ?_) (fun c79 => ?_)
        · have h := h.1 c79
          refine am_iinc (v := v3 + 6) (ls' := [some (.ref 1000), some (.ref 0), some (.ref 103), some (.int (v3 + 6))]) (n := 1834) d_Law_law_1831 rfl (congrArg _ ci_6) (by decide) rfl rfl ?_
          refine am_goto (tgt := 18) d_Law_law_1834 rfl ?_
          exact ih I68 L R (v3 + 6) hw h
        · have h := h.2 c79
          refine am_iconst (n := 1448) d_Law_law_1447 ci_0 rfl ?_
          exact am_iret d_Law_law_1448 ⟨false, I68, L, R, rfl, rfl, hw, h⟩
      by_cases c80 : ((I 1000 (Int32.toNatClampNeg v3)) &&& 63) = 38
      · have h := h.2.2.2.2.2.2.2.2.2.2.2.2.2.2.2.2.2.2.2.2.2.2.2.2.2.2.2.2.2.2.2.2.2.2.2.2.2.2.1 c80
        refine am_tableIn (off := 1416) (tgt := 1449) d_Law_law_33 (by rw [c80]; decide) (by rw [c80]; decide) (by rw [c80]; decide +kernel) rfl ?_
        refine am_aload_n (n := 1450) d_Law_law_1449 rfl rfl ?_
        refine am_aload_n (n := 1451) d_Law_law_1450 rfl rfl ?_
        refine am_iload_n (n := 1452) d_Law_law_1451 rfl rfl ?_
        refine am_iconst (n := 1453) d_Law_law_1452 ci_1 rfl ?_
        refine am_iadd (n := 1454) d_Law_law_1453 rfl ?_
        obtain ⟨w134, g134, h⟩ := h
        refine am_sald (n := 1455) d_Law_law_1454 rfl g134.1 g134.2.1 g134.2.2 ?_
        refine am_aload_n (n := 1456) d_Law_law_1455 rfl rfl ?_
        refine am_iload_n (n := 1457) d_Law_law_1456 rfl rfl ?_
        refine am_iconst (n := 1458) d_Law_law_1457 ci_2 rfl ?_
        refine am_iadd (n := 1459) d_Law_law_1458 rfl ?_
        obtain ⟨w135, g135, h⟩ := h
        refine am_sald (n := 1460) d_Law_law_1459 rfl g135.1 g135.2.1 g135.2.2 ?_
        refine am_aload_n (n := 1461) d_Law_law_1460 rfl rfl ?_
        refine am_iload_n (n := 1462) d_Law_law_1461 rfl rfl ?_
        refine am_iconst (n := 1463) d_Law_law_1462 ci_3 rfl ?_
        refine am_iadd (n := 1464) d_Law_law_1463 rfl ?_
        obtain ⟨w136, g136, h⟩ := h
        refine am_sald (n := 1465) d_Law_law_1464 rfl g136.1 g136.2.1 g136.2.2 ?_
        refine am_callV (kc := 0) (ks := 0) (As := [.int (I 1000 (Int32.toNatClampNeg (v3 + 1))), .int (I 1000 (Int32.toNatClampNeg (v3 + 2))), .int (I 1000 (Int32.toNatClampNeg (v3 + 3)))]) (n := 1468) d_Law_law_1465 rfl ce_U_fits lk_Law_179 in_U_fits rfl rfl rfl rfl rfl (Nat.le_of_ble_eq_true rfl) (Or.inl rfl) (cm_U_fits (d := d - 1) hw (by omega) rfl h) (by omega) ?_
        rintro _ _ ⟨r77, I69, rfl, rfl, h⟩
        show am_Wp (d, "UnseenRingLaw", b_Law_law, 4, false) 0 0 1468 [some (.ref 1000), some (.ref 0), some (.ref 103), some (.int v3)] [.int r77] (I69, L, R, am_SH) (po_Law Q)
        refine am_aload_n (n := 1469) d_Law_law_1468 rfl rfl ?_
        refine am_aload_n (n := 1470) d_Law_law_1469 rfl rfl ?_
        refine am_iload_n (n := 1471) d_Law_law_1470 rfl rfl ?_
        refine am_iconst (n := 1472) d_Law_law_1471 ci_1 rfl ?_
        refine am_iadd (n := 1473) d_Law_law_1472 rfl ?_
        obtain ⟨w137, g137, h⟩ := h
        refine am_sald (n := 1474) d_Law_law_1473 rfl g137.1 g137.2.1 g137.2.2 ?_
        refine am_aload_n (n := 1475) d_Law_law_1474 rfl rfl ?_
        refine am_iload_n (n := 1476) d_Law_law_1475 rfl rfl ?_
        refine am_iconst (n := 1477) d_Law_law_1476 ci_2 rfl ?_
        refine am_iadd (n := 1478) d_Law_law_1477 rfl ?_
        obtain ⟨w138, g138, h⟩ := h
        refine am_sald (n := 1479) d_Law_law_1478 rfl g138.1 g138.2.1 g138.2.2 ?_
        refine am_aload_n (n := 1480) d_Law_law_1479 rfl rfl ?_
        refine am_iload_n (n := 1481) d_Law_law_1480 rfl rfl ?_
        refine am_iconst (n := 1482) d_Law_law_1481 ci_3 rfl ?_
        refine am_iadd (n := 1483) d_Law_law_1482 rfl ?_
        obtain ⟨w139, g139, h⟩ := h
        refine am_sald (n := 1484) d_Law_law_1483 rfl g139.1 g139.2.1 g139.2.2 ?_
        refine am_callV (kc := 0) (ks := 0) (As := [.int (I69 1000 (Int32.toNatClampNeg (v3 + 1))), .int (I69 1000 (Int32.toNatClampNeg (v3 + 2))), .int (I69 1000 (Int32.toNatClampNeg (v3 + 3)))]) (n := 1487) d_Law_law_1484 rfl ce_M_fits lk_Law_182 in_M_fits rfl rfl rfl rfl rfl (Nat.le_of_ble_eq_true rfl) (Or.inl rfl) (cm_M_fits (d := d - 1) hw (by omega) rfl h) (by omega) ?_
        rintro _ _ ⟨r78, I70, rfl, rfl, h⟩
        show am_Wp (d, "UnseenRingLaw", b_Law_law, 4, false) 0 0 1487 [some (.ref 1000), some (.ref 0), some (.ref 103), some (.int v3)] [.int r78, .int r77] (I70, L, R, am_SH) (po_Law Q)
        refine am_icmp_eq (tgt := 1831) (n := 1490) d_Law_law_1487 rfl rfl (fun c81 => ?_) (fun c81 => ?_)
        · have h := h.1 c81
          refine am_iinc (v := v3 + 6) (ls' := [some (.ref 1000), some (.ref 0), some (.ref 103), some (.int (v3 + 6))]) (n := 1834) d_Law_law_1831 rfl (congrArg _ ci_6) (by decide) rfl rfl ?_
          refine am_goto (tgt := 18) d_Law_law_1834 rfl ?_
          exact ih I70 L R (v3 + 6) hw h
        · have h := h.2 c81
          refine am_iconst (n := 1491) d_Law_law_1490 ci_0 rfl ?_
          exact am_iret d_Law_law_1491 ⟨false, I70, L, R, rfl, rfl, hw, h⟩
      by_cases c82 : ((I 1000 (Int32.toNatClampNeg v3)) &&& 63) = 39
      · have h := h.2.2.2.2.2.2.2.2.2.2.2.2.2.2.2.2.2.2.2.2.2.2.2.2.2.2.2.2.2.2.2.2.2.2.2.2.2.2.2.1 c82
        refine am_tableIn (off := 1459) (tgt := 1492) d_Law_law_33 (by rw [c82]; decide) (by rw [c82]; decide) (by rw [c82]; decide +kernel) rfl ?_
        refine am_aload_n (n := 1493) d_Law_law_1492 rfl rfl ?_
        refine am_aload_n (n := 1494) d_Law_law_1493 rfl rfl ?_
        refine am_iload_n (n := 1495) d_Law_law_1494 rfl rfl ?_
        refine am_iconst (n := 1496) d_Law_law_1495 ci_1 rfl ?_
        refine am_iadd (n := 1497) d_Law_law_1496 rfl ?_
        obtain ⟨w140, g140, h⟩ := h
        refine am_sald (n := 1498) d_Law_law_1497 rfl g140.1 g140.2.1 g140.2.2 ?_
        refine am_aload_n (n := 1499) d_Law_law_1498 rfl rfl ?_
        refine am_iload_n (n := 1500) d_Law_law_1499 rfl rfl ?_
        refine am_iconst (n := 1501) d_Law_law_1500 ci_2 rfl ?_
        refine am_iadd (n := 1502) d_Law_law_1501 rfl ?_
        obtain ⟨w141, g141, h⟩ := h
        refine am_sald (n := 1503) d_Law_law_1502 rfl g141.1 g141.2.1 g141.2.2 ?_
        refine am_aload_n (n := 1504) d_Law_law_1503 rfl rfl ?_
        refine am_iload_n (n := 1505) d_Law_law_1504 rfl rfl ?_
        refine am_iconst (n := 1506) d_Law_law_1505 ci_3 rfl ?_
        refine am_iadd (n := 1507) d_Law_law_1506 rfl ?_
        obtain ⟨w142, g142, h⟩ := h
        refine am_sald (n := 1508) d_Law_law_1507 rfl g142.1 g142.2.1 g142.2.2 ?_
        refine am_callV (kc := 0) (ks := 0) (As := [.int (I 1000 (Int32.toNatClampNeg (v3 + 1))), .int (I 1000 (Int32.toNatClampNeg (v3 + 2))), .int (I 1000 (Int32.toNatClampNeg (v3 + 3)))]) (n := 1511) d_Law_law_1508 rfl ce_U_sure lk_Law_183 in_U_sure rfl rfl rfl rfl rfl (Nat.le_of_ble_eq_true rfl) (Or.inl rfl) (cm_U_sure (d := d - 1) hw (by omega) rfl h) (by omega) ?_
        rintro _ _ ⟨r79, I71, rfl, rfl, h⟩
        show am_Wp (d, "UnseenRingLaw", b_Law_law, 4, false) 0 0 1511 [some (.ref 1000), some (.ref 0), some (.ref 103), some (.int v3)] [.int r79] (I71, L, R, am_SH) (po_Law Q)
        refine am_aload_n (n := 1512) d_Law_law_1511 rfl rfl ?_
        refine am_aload_n (n := 1513) d_Law_law_1512 rfl rfl ?_
        refine am_iload_n (n := 1514) d_Law_law_1513 rfl rfl ?_
        refine am_iconst (n := 1515) d_Law_law_1514 ci_1 rfl ?_
        refine am_iadd (n := 1516) d_Law_law_1515 rfl ?_
        obtain ⟨w143, g143, h⟩ := h
        refine am_sald (n := 1517) d_Law_law_1516 rfl g143.1 g143.2.1 g143.2.2 ?_
        refine am_aload_n (n := 1518) d_Law_law_1517 rfl rfl ?_
        refine am_iload_n (n := 1519) d_Law_law_1518 rfl rfl ?_
        refine am_iconst (n := 1520) d_Law_law_1519 ci_2 rfl ?_
        refine am_iadd (n := 1521) d_Law_law_1520 rfl ?_
        obtain ⟨w144, g144, h⟩ := h
        refine am_sald (n := 1522) d_Law_law_1521 rfl g144.1 g144.2.1 g144.2.2 ?_
        refine am_aload_n (n := 1523) d_Law_law_1522 rfl rfl ?_
        refine am_iload_n (n := 1524) d_Law_law_1523 rfl rfl ?_
        refine am_iconst (n := 1525) d_Law_law_1524 ci_3 rfl ?_
        refine am_iadd (n := 1526) d_Law_law_1525 rfl ?_
        obtain ⟨w145, g145, h⟩ := h
        refine am_sald (n := 1527) d_Law_law_1526 rfl g145.1 g145.2.1 g145.2.2 ?_
        refine am_callV (kc := 0) (ks := 0) (As := [.int (I71 1000 (Int32.toNatClampNeg (v3 + 1))), .int (I71 1000 (Int32.toNatClampNeg (v3 + 2))), .int (I71 1000 (Int32.toNatClampNeg (v3 + 3)))]) (n := 1530) d_Law_law_1527 rfl ce_M_sure lk_Law_186 in_M_sure rfl rfl rfl rfl rfl (Nat.le_of_ble_eq_true rfl) (Or.inl rfl) (cm_M_sure (d := d - 1) hw (by omega) rfl h) (by omega) ?_
        rintro _ _ ⟨r80, I72, rfl, rfl, h⟩
        show am_Wp (d, "UnseenRingLaw", b_Law_law, 4, false) 0 0 1530 [some (.ref 1000), some (.ref 0), some (.ref 103), some (.int v3)] [.int r80, .int r79] (I72, L, R, am_SH) (po_Law Q)
        refine am_icmp_eq (tgt := 1831) (n := 1533) d_Law_law_1530 rfl rfl (fun c83 => ?_) (fun c83 => ?_)
        · have h := h.1 c83
          refine am_iinc (v := v3 + 6) (ls' := [some (.ref 1000), some (.ref 0), some (.ref 103), some (.int (v3 + 6))]) (n := 1834) d_Law_law_1831 rfl (congrArg _ ci_6) (by decide) rfl rfl ?_
          refine am_goto (tgt := 18) d_Law_law_1834 rfl ?_
          exact ih I72 L R (v3 + 6) hw h
        · have h := h.2 c83
          refine am_iconst (n := 1534) d_Law_law_1533 ci_0 rfl ?_
          exact am_iret d_Law_law_1534 ⟨false, I72, L, R, rfl, rfl, hw, h⟩
      by_cases c84 : ((I 1000 (Int32.toNatClampNeg v3)) &&& 63) = 40
      · have h := h.2.2.2.2.2.2.2.2.2.2.2.2.2.2.2.2.2.2.2.2.2.2.2.2.2.2.2.2.2.2.2.2.2.2.2.2.2.2.2.2.1 c84
        refine am_tableIn (off := 1502) (tgt := 1535) d_Law_law_33 (by rw [c84]; decide) (by rw [c84]; decide) (by rw [c84]; decide +kernel) rfl ?_
        refine am_aload_n (n := 1536) d_Law_law_1535 rfl rfl ?_
        refine am_aload_n (n := 1537) d_Law_law_1536 rfl rfl ?_
        refine am_iload_n (n := 1538) d_Law_law_1537 rfl rfl ?_
        refine am_iconst (n := 1539) d_Law_law_1538 ci_1 rfl ?_
        refine am_iadd (n := 1540) d_Law_law_1539 rfl ?_
        obtain ⟨w146, g146, h⟩ := h
        refine am_sald (n := 1541) d_Law_law_1540 rfl g146.1 g146.2.1 g146.2.2 ?_
        refine am_aload_n (n := 1542) d_Law_law_1541 rfl rfl ?_
        refine am_iload_n (n := 1543) d_Law_law_1542 rfl rfl ?_
        refine am_iconst (n := 1544) d_Law_law_1543 ci_2 rfl ?_
        refine am_iadd (n := 1545) d_Law_law_1544 rfl ?_
        obtain ⟨w147, g147, h⟩ := h
        refine am_sald (n := 1546) d_Law_law_1545 rfl g147.1 g147.2.1 g147.2.2 ?_
        refine am_callV (kc := 0) (ks := 0) (As := [.int (I 1000 (Int32.toNatClampNeg (v3 + 1))), .int (I 1000 (Int32.toNatClampNeg (v3 + 2)))]) (n := 1549) d_Law_law_1546 rfl ce_U_rounds lk_Law_187 in_U_rounds rfl rfl rfl rfl rfl (Nat.le_of_ble_eq_true rfl) (Or.inl rfl) (cm_U_rounds (d := d - 1) hw (by omega) rfl h) (by omega) ?_
        rintro _ _ ⟨r81, I73, L12, rfl, rfl, h⟩
        show am_Wp (d, "UnseenRingLaw", b_Law_law, 4, false) 0 0 1549 [some (.ref 1000), some (.ref 0), some (.ref 103), some (.int v3)] [.int r81] (I73, L12, R, am_SH) (po_Law Q)
        refine am_aload_n (n := 1550) d_Law_law_1549 rfl rfl ?_
        refine am_aload_n (n := 1551) d_Law_law_1550 rfl rfl ?_
        refine am_iload_n (n := 1552) d_Law_law_1551 rfl rfl ?_
        refine am_iconst (n := 1553) d_Law_law_1552 ci_1 rfl ?_
        refine am_iadd (n := 1554) d_Law_law_1553 rfl ?_
        obtain ⟨w148, g148, h⟩ := h
        refine am_sald (n := 1555) d_Law_law_1554 rfl g148.1 g148.2.1 g148.2.2 ?_
        refine am_aload_n (n := 1556) d_Law_law_1555 rfl rfl ?_
        refine am_iload_n (n := 1557) d_Law_law_1556 rfl rfl ?_
        refine am_iconst (n := 1558) d_Law_law_1557 ci_2 rfl ?_
        refine am_iadd (n := 1559) d_Law_law_1558 rfl ?_
        obtain ⟨w149, g149, h⟩ := h
        refine am_sald (n := 1560) d_Law_law_1559 rfl g149.1 g149.2.1 g149.2.2 ?_
        refine am_callV (kc := 0) (ks := 0) (As := [.int (I73 1000 (Int32.toNatClampNeg (v3 + 1))), .int (I73 1000 (Int32.toNatClampNeg (v3 + 2)))]) (n := 1563) d_Law_law_1560 rfl ce_M_rounds lk_Law_190 in_M_rounds rfl rfl rfl rfl rfl (Nat.le_of_ble_eq_true rfl) (Or.inl rfl) (cm_M_rounds (d := d - 1) hw (by omega) rfl h) (by omega) ?_
        rintro _ _ ⟨r82, I74, rfl, rfl, h⟩
        show am_Wp (d, "UnseenRingLaw", b_Law_law, 4, false) 0 0 1563 [some (.ref 1000), some (.ref 0), some (.ref 103), some (.int v3)] [.int r82, .int r81] (I74, L12, R, am_SH) (po_Law Q)
        refine am_icmp_eq (tgt := 1831) (n := 1566) d_Law_law_1563 rfl rfl (fun c85 => ?_) (fun c85 => ?_)
        · have h := h.1 c85
          refine am_iinc (v := v3 + 6) (ls' := [some (.ref 1000), some (.ref 0), some (.ref 103), some (.int (v3 + 6))]) (n := 1834) d_Law_law_1831 rfl (congrArg _ ci_6) (by decide) rfl rfl ?_
          refine am_goto (tgt := 18) d_Law_law_1834 rfl ?_
          exact ih I74 L12 R (v3 + 6) hw h
        · have h := h.2 c85
          refine am_iconst (n := 1567) d_Law_law_1566 ci_0 rfl ?_
          exact am_iret d_Law_law_1567 ⟨false, I74, L12, R, rfl, rfl, hw, h⟩
      by_cases c86 : ((I 1000 (Int32.toNatClampNeg v3)) &&& 63) = 41
      · have h := h.2.2.2.2.2.2.2.2.2.2.2.2.2.2.2.2.2.2.2.2.2.2.2.2.2.2.2.2.2.2.2.2.2.2.2.2.2.2.2.2.2.1 c86
        refine am_tableIn (off := 1535) (tgt := 1568) d_Law_law_33 (by rw [c86]; decide) (by rw [c86]; decide) (by rw [c86]; decide +kernel) rfl ?_
        refine am_aload_n (n := 1569) d_Law_law_1568 rfl rfl ?_
        refine am_aload_n (n := 1570) d_Law_law_1569 rfl rfl ?_
        refine am_iload_n (n := 1571) d_Law_law_1570 rfl rfl ?_
        refine am_iconst (n := 1572) d_Law_law_1571 ci_1 rfl ?_
        refine am_iadd (n := 1573) d_Law_law_1572 rfl ?_
        obtain ⟨w150, g150, h⟩ := h
        refine am_sald (n := 1574) d_Law_law_1573 rfl g150.1 g150.2.1 g150.2.2 ?_
        refine am_aload_n (n := 1575) d_Law_law_1574 rfl rfl ?_
        refine am_iload_n (n := 1576) d_Law_law_1575 rfl rfl ?_
        refine am_iconst (n := 1577) d_Law_law_1576 ci_2 rfl ?_
        refine am_iadd (n := 1578) d_Law_law_1577 rfl ?_
        obtain ⟨w151, g151, h⟩ := h
        refine am_sald (n := 1579) d_Law_law_1578 rfl g151.1 g151.2.1 g151.2.2 ?_
        refine am_aload_n (n := 1580) d_Law_law_1579 rfl rfl ?_
        refine am_iload_n (n := 1581) d_Law_law_1580 rfl rfl ?_
        refine am_iconst (n := 1582) d_Law_law_1581 ci_3 rfl ?_
        refine am_iadd (n := 1583) d_Law_law_1582 rfl ?_
        obtain ⟨w152, g152, h⟩ := h
        refine am_sald (n := 1584) d_Law_law_1583 rfl g152.1 g152.2.1 g152.2.2 ?_
        refine am_callV (kc := 0) (ks := 0) (As := [.int (I 1000 (Int32.toNatClampNeg (v3 + 1))), .int (I 1000 (Int32.toNatClampNeg (v3 + 2))), .int (I 1000 (Int32.toNatClampNeg (v3 + 3)))]) (n := 1587) d_Law_law_1584 rfl ce_U_knowers lk_Law_191 in_U_knowers rfl rfl rfl rfl rfl (Nat.le_of_ble_eq_true rfl) (Or.inl rfl) (cm_U_knowers (d := d - 1) hw (by omega) rfl h) (by omega) ?_
        rintro _ _ ⟨r83, I75, L13, rfl, rfl, h⟩
        show am_Wp (d, "UnseenRingLaw", b_Law_law, 4, false) 0 0 1587 [some (.ref 1000), some (.ref 0), some (.ref 103), some (.int v3)] [.int r83] (I75, L13, R, am_SH) (po_Law Q)
        refine am_aload_n (n := 1588) d_Law_law_1587 rfl rfl ?_
        refine am_aload_n (n := 1589) d_Law_law_1588 rfl rfl ?_
        refine am_iload_n (n := 1590) d_Law_law_1589 rfl rfl ?_
        refine am_iconst (n := 1591) d_Law_law_1590 ci_1 rfl ?_
        refine am_iadd (n := 1592) d_Law_law_1591 rfl ?_
        obtain ⟨w153, g153, h⟩ := h
        refine am_sald (n := 1593) d_Law_law_1592 rfl g153.1 g153.2.1 g153.2.2 ?_
        refine am_aload_n (n := 1594) d_Law_law_1593 rfl rfl ?_
        refine am_iload_n (n := 1595) d_Law_law_1594 rfl rfl ?_
        refine am_iconst (n := 1596) d_Law_law_1595 ci_2 rfl ?_
        refine am_iadd (n := 1597) d_Law_law_1596 rfl ?_
        obtain ⟨w154, g154, h⟩ := h
        refine am_sald (n := 1598) d_Law_law_1597 rfl g154.1 g154.2.1 g154.2.2 ?_
        refine am_aload_n (n := 1599) d_Law_law_1598 rfl rfl ?_
        refine am_iload_n (n := 1600) d_Law_law_1599 rfl rfl ?_
        refine am_iconst (n := 1601) d_Law_law_1600 ci_3 rfl ?_
        refine am_iadd (n := 1602) d_Law_law_1601 rfl ?_
        obtain ⟨w155, g155, h⟩ := h
        refine am_sald (n := 1603) d_Law_law_1602 rfl g155.1 g155.2.1 g155.2.2 ?_
        refine am_callV (kc := 0) (ks := 0) (As := [.int (I75 1000 (Int32.toNatClampNeg (v3 + 1))), .int (I75 1000 (Int32.toNatClampNeg (v3 + 2))), .int (I75 1000 (Int32.toNatClampNeg (v3 + 3)))]) (n := 1606) d_Law_law_1603 rfl ce_M_knowers lk_Law_194 in_M_knowers rfl rfl rfl rfl rfl (Nat.le_of_ble_eq_true rfl) (Or.inl rfl) (cm_M_knowers (d := d - 1) hw (by omega) rfl h) (by omega) ?_
        rintro _ _ ⟨r84, I76, rfl, rfl, h⟩
        show am_Wp (d, "UnseenRingLaw", b_Law_law, 4, false) 0 0 1606 [some (.ref 1000), some (.ref 0), some (.ref 103), some (.int v3)] [.int r84, .int r83] (I76, L13, R, am_SH) (po_Law Q)
        refine am_icmp_eq (tgt := 1831) (n := 1609) d_Law_law_1606 rfl rfl (fun c87 => ?_) (fun c87 => ?_)
        · have h := h.1 c87
          refine am_iinc (v := v3 + 6) (ls' := [some (.ref 1000), some (.ref 0), some (.ref 103), some (.int (v3 + 6))]) (n := 1834) d_Law_law_1831 rfl (congrArg _ ci_6) (by decide) rfl rfl ?_
          refine am_goto (tgt := 18) d_Law_law_1834 rfl ?_
          exact ih I76 L13 R (v3 + 6) hw h
        · have h := h.2 c87
          refine am_iconst (n := 1610) d_Law_law_1609 ci_0 rfl ?_
          exact am_iret d_Law_law_1610 ⟨false, I76, L13, R, rfl, rfl, hw, h⟩
      by_cases c88 : ((I 1000 (Int32.toNatClampNeg v3)) &&& 63) = 42
      · have h := h.2.2.2.2.2.2.2.2.2.2.2.2.2.2.2.2.2.2.2.2.2.2.2.2.2.2.2.2.2.2.2.2.2.2.2.2.2.2.2.2.2.2.1 c88
        refine am_tableIn (off := 1578) (tgt := 1611) d_Law_law_33 (by rw [c88]; decide) (by rw [c88]; decide) (by rw [c88]; decide +kernel) rfl ?_
        refine am_aload_n (n := 1612) d_Law_law_1611 rfl rfl ?_
        refine am_aload_n (n := 1613) d_Law_law_1612 rfl rfl ?_
        refine am_iload_n (n := 1614) d_Law_law_1613 rfl rfl ?_
        refine am_iconst (n := 1615) d_Law_law_1614 ci_1 rfl ?_
        refine am_iadd (n := 1616) d_Law_law_1615 rfl ?_
        obtain ⟨w156, g156, h⟩ := h
        refine am_sald (n := 1617) d_Law_law_1616 rfl g156.1 g156.2.1 g156.2.2 ?_
        refine am_callV (kc := 0) (ks := 0) (As := [.int (I 1000 (Int32.toNatClampNeg (v3 + 1)))]) (n := 1620) d_Law_law_1617 rfl ce_U_game lk_Law_195 in_U_game rfl rfl rfl rfl rfl (Nat.le_of_ble_eq_true rfl) (Or.inl rfl) (cm_U_game (d := d - 1) hw (by omega) rfl h) (by omega) ?_
        rintro _ _ ⟨r85, I77, R3, rfl, rfl, hw3, h⟩
        show am_Wp (d, "UnseenRingLaw", b_Law_law, 4, false) 0 0 1620 [some (.ref 1000), some (.ref 0), some (.ref 103), some (.int v3)] [.int r85] (I77, L, R3, am_SH) (po_Law Q)
        refine am_aload_n (n := 1621) d_Law_law_1620 rfl rfl ?_
        refine am_aload_n (n := 1622) d_Law_law_1621 rfl rfl ?_
        refine am_iload_n (n := 1623) d_Law_law_1622 rfl rfl ?_
        refine am_iconst (n := 1624) d_Law_law_1623 ci_1 rfl ?_
        refine am_iadd (n := 1625) d_Law_law_1624 rfl ?_
        obtain ⟨w157, g157, h⟩ := h
        refine am_sald (n := 1626) d_Law_law_1625 rfl g157.1 g157.2.1 g157.2.2 ?_
        refine am_callV (kc := 0) (ks := 0) (As := [.int (I77 1000 (Int32.toNatClampNeg (v3 + 1)))]) (n := 1629) d_Law_law_1626 rfl ce_M_game lk_Law_198 in_M_game rfl rfl rfl rfl rfl (Nat.le_of_ble_eq_true rfl) (Or.inl rfl) (cm_M_game (d := d - 1) hw3 (by omega) rfl h) (by omega) ?_
        rintro _ _ ⟨r86, I78, rfl, rfl, h⟩
        show am_Wp (d, "UnseenRingLaw", b_Law_law, 4, false) 0 0 1629 [some (.ref 1000), some (.ref 0), some (.ref 103), some (.int v3)] [.int r86, .int r85] (I78, L, R3, am_SH) (po_Law Q)
        refine am_icmp_eq (tgt := 1831) (n := 1632) d_Law_law_1629 rfl rfl (fun c89 => ?_) (fun c89 => ?_)
        · have h := h.1 c89
          refine am_iinc (v := v3 + 6) (ls' := [some (.ref 1000), some (.ref 0), some (.ref 103), some (.int (v3 + 6))]) (n := 1834) d_Law_law_1831 rfl (congrArg _ ci_6) (by decide) rfl rfl ?_
          refine am_goto (tgt := 18) d_Law_law_1834 rfl ?_
          exact ih I78 L R3 (v3 + 6) hw3 h
        · have h := h.2 c89
          refine am_iconst (n := 1633) d_Law_law_1632 ci_0 rfl ?_
          exact am_iret d_Law_law_1633 ⟨false, I78, L, R3, rfl, rfl, hw3, h⟩
      by_cases c90 : ((I 1000 (Int32.toNatClampNeg v3)) &&& 63) = 43
      · have h := h.2.2.2.2.2.2.2.2.2.2.2.2.2.2.2.2.2.2.2.2.2.2.2.2.2.2.2.2.2.2.2.2.2.2.2.2.2.2.2.2.2.2.2.1 c90
        refine am_tableIn (off := 1601) (tgt := 1634) d_Law_law_33 (by rw [c90]; decide) (by rw [c90]; decide) (by rw [c90]; decide +kernel) rfl ?_
        refine am_aload_n (n := 1635) d_Law_law_1634 rfl rfl ?_
        refine am_aload_n (n := 1636) d_Law_law_1635 rfl rfl ?_
        refine am_iload_n (n := 1637) d_Law_law_1636 rfl rfl ?_
        refine am_iconst (n := 1638) d_Law_law_1637 ci_1 rfl ?_
        refine am_iadd (n := 1639) d_Law_law_1638 rfl ?_
        obtain ⟨w158, g158, h⟩ := h
        refine am_sald (n := 1640) d_Law_law_1639 rfl g158.1 g158.2.1 g158.2.2 ?_
        refine am_callV (kc := 0) (ks := 0) (As := [.int (I 1000 (Int32.toNatClampNeg (v3 + 1)))]) (n := 1643) d_Law_law_1640 rfl ce_U_moveOf lk_Law_199 in_U_moveOf rfl rfl rfl rfl rfl (Nat.le_of_ble_eq_true rfl) (Or.inl rfl) (cm_U_moveOf (d := d - 1) hw (by omega) rfl h) (by omega) ?_
        rintro _ _ ⟨r87, I79, R4, rfl, rfl, hw4, h⟩
        show am_Wp (d, "UnseenRingLaw", b_Law_law, 4, false) 0 0 1643 [some (.ref 1000), some (.ref 0), some (.ref 103), some (.int v3)] [.int r87] (I79, L, R4, am_SH) (po_Law Q)
        refine am_aload_n (n := 1644) d_Law_law_1643 rfl rfl ?_
        refine am_aload_n (n := 1645) d_Law_law_1644 rfl rfl ?_
        refine am_iload_n (n := 1646) d_Law_law_1645 rfl rfl ?_
        refine am_iconst (n := 1647) d_Law_law_1646 ci_1 rfl ?_
        refine am_iadd (n := 1648) d_Law_law_1647 rfl ?_
        obtain ⟨w159, g159, h⟩ := h
        refine am_sald (n := 1649) d_Law_law_1648 rfl g159.1 g159.2.1 g159.2.2 ?_
        refine am_callV (kc := 0) (ks := 0) (As := [.int (I79 1000 (Int32.toNatClampNeg (v3 + 1)))]) (n := 1652) d_Law_law_1649 rfl ce_M_moveOf lk_Law_202 in_M_moveOf rfl rfl rfl rfl rfl (Nat.le_of_ble_eq_true rfl) (Or.inl rfl) (cm_M_moveOf (d := d - 1) hw4 (by omega) rfl h) (by omega) ?_
        rintro _ _ ⟨r88, I80, rfl, rfl, h⟩
        show am_Wp (d, "UnseenRingLaw", b_Law_law, 4, false) 0 0 1652 [some (.ref 1000), some (.ref 0), some (.ref 103), some (.int v3)] [.int r88, .int r87] (I80, L, R4, am_SH) (po_Law Q)
        refine am_icmp_eq (tgt := 1831) (n := 1655) d_Law_law_1652 rfl rfl (fun c91 => ?_) (fun c91 => ?_)
        · have h := h.1 c91
          refine am_iinc (v := v3 + 6) (ls' := [some (.ref 1000), some (.ref 0), some (.ref 103), some (.int (v3 + 6))]) (n := 1834) d_Law_law_1831 rfl (congrArg _ ci_6) (by decide) rfl rfl ?_
          refine am_goto (tgt := 18) d_Law_law_1834 rfl ?_
          exact ih I80 L R4 (v3 + 6) hw4 h
        · have h := h.2 c91
          refine am_iconst (n := 1656) d_Law_law_1655 ci_0 rfl ?_
          exact am_iret d_Law_law_1656 ⟨false, I80, L, R4, rfl, rfl, hw4, h⟩
      by_cases c92 : ((I 1000 (Int32.toNatClampNeg v3)) &&& 63) = 44
      · have h := h.2.2.2.2.2.2.2.2.2.2.2.2.2.2.2.2.2.2.2.2.2.2.2.2.2.2.2.2.2.2.2.2.2.2.2.2.2.2.2.2.2.2.2.2.1 c92
        refine am_tableIn (off := 1624) (tgt := 1657) d_Law_law_33 (by rw [c92]; decide) (by rw [c92]; decide) (by rw [c92]; decide +kernel) rfl ?_
        refine am_aload_n (n := 1658) d_Law_law_1657 rfl rfl ?_
        refine am_aload_n (n := 1659) d_Law_law_1658 rfl rfl ?_
        refine am_iload_n (n := 1660) d_Law_law_1659 rfl rfl ?_
        refine am_iconst (n := 1661) d_Law_law_1660 ci_1 rfl ?_
        refine am_iadd (n := 1662) d_Law_law_1661 rfl ?_
        obtain ⟨w160, g160, h⟩ := h
        refine am_sald (n := 1663) d_Law_law_1662 rfl g160.1 g160.2.1 g160.2.2 ?_
        refine am_callV (kc := 0) (ks := 0) (As := [.int (I 1000 (Int32.toNatClampNeg (v3 + 1)))]) (n := 1666) d_Law_law_1663 rfl ce_U_crowd lk_Law_203 in_U_crowd rfl rfl rfl rfl rfl (Nat.le_of_ble_eq_true rfl) (Or.inl rfl) (cm_U_crowd (d := d - 1) hw (by omega) rfl h) (by omega) ?_
        rintro _ _ ⟨r89, I81, L14, rfl, rfl, h⟩
        show am_Wp (d, "UnseenRingLaw", b_Law_law, 4, false) 0 0 1666 [some (.ref 1000), some (.ref 0), some (.ref 103), some (.int v3)] [.int (am_b r89)] (I81, L14, R, am_SH) (po_Law Q)
        refine am_aload_n (n := 1667) d_Law_law_1666 rfl rfl ?_
        refine am_aload_n (n := 1668) d_Law_law_1667 rfl rfl ?_
        refine am_iload_n (n := 1669) d_Law_law_1668 rfl rfl ?_
        refine am_iconst (n := 1670) d_Law_law_1669 ci_1 rfl ?_
        refine am_iadd (n := 1671) d_Law_law_1670 rfl ?_
        obtain ⟨w161, g161, h⟩ := h
        refine am_sald (n := 1672) d_Law_law_1671 rfl g161.1 g161.2.1 g161.2.2 ?_
        refine am_callV (kc := 0) (ks := 0) (As := [.int (I81 1000 (Int32.toNatClampNeg (v3 + 1)))]) (n := 1675) d_Law_law_1672 rfl ce_M_crowd lk_Law_206 in_M_crowd rfl rfl rfl rfl rfl (Nat.le_of_ble_eq_true rfl) (Or.inl rfl) (cm_M_crowd (d := d - 1) hw (by omega) rfl h) (by omega) ?_
        rintro _ _ ⟨r90, I82, L15, rfl, rfl, h⟩
        show am_Wp (d, "UnseenRingLaw", b_Law_law, 4, false) 0 0 1675 [some (.ref 1000), some (.ref 0), some (.ref 103), some (.int v3)] [.int (am_b r90), .int (am_b r89)] (I82, L15, R, am_SH) (po_Law Q)
        refine am_icmp_eq (tgt := 1831) (n := 1678) d_Law_law_1675 rfl rfl (fun c93 => ?_) (fun c93 => ?_)
        · have h := h.1 c93
          refine am_iinc (v := v3 + 6) (ls' := [some (.ref 1000), some (.ref 0), some (.ref 103), some (.int (v3 + 6))]) (n := 1834) d_Law_law_1831 rfl (congrArg _ ci_6) (by decide) rfl rfl ?_
          refine am_goto (tgt := 18) d_Law_law_1834 rfl ?_
          exact ih I82 L15 R (v3 + 6) hw h
        · have h := h.2 c93
          refine am_iconst (n := 1679) d_Law_law_1678 ci_0 rfl ?_
          exact am_iret d_Law_law_1679 ⟨false, I82, L15, R, rfl, rfl, hw, h⟩
      by_cases c94 : ((I 1000 (Int32.toNatClampNeg v3)) &&& 63) = 45
      · have h := h.2.2.2.2.2.2.2.2.2.2.2.2.2.2.2.2.2.2.2.2.2.2.2.2.2.2.2.2.2.2.2.2.2.2.2.2.2.2.2.2.2.2.2.2.2.1 c94
        refine am_tableIn (off := 1647) (tgt := 1680) d_Law_law_33 (by rw [c94]; decide) (by rw [c94]; decide) (by rw [c94]; decide +kernel) rfl ?_
        refine am_aload_n (n := 1681) d_Law_law_1680 rfl rfl ?_
        refine am_aload_n (n := 1682) d_Law_law_1681 rfl rfl ?_
        refine am_iload_n (n := 1683) d_Law_law_1682 rfl rfl ?_
        refine am_iconst (n := 1684) d_Law_law_1683 ci_1 rfl ?_
        refine am_iadd (n := 1685) d_Law_law_1684 rfl ?_
        obtain ⟨w162, g162, h⟩ := h
        refine am_sald (n := 1686) d_Law_law_1685 rfl g162.1 g162.2.1 g162.2.2 ?_
        refine am_callV (kc := 0) (ks := 0) (As := [.int (I 1000 (Int32.toNatClampNeg (v3 + 1)))]) (n := 1689) d_Law_law_1686 rfl ce_U_share lk_Law_207 in_U_share rfl rfl rfl rfl rfl (Nat.le_of_ble_eq_true rfl) (Or.inl rfl) (cm_U_share (d := d - 1) hw (by omega) rfl h) (by omega) ?_
        rintro _ _ ⟨r91, I83, L16, rfl, rfl, h⟩
        show am_Wp (d, "UnseenRingLaw", b_Law_law, 4, false) 0 0 1689 [some (.ref 1000), some (.ref 0), some (.ref 103), some (.int v3)] [.int (am_b r91)] (I83, L16, R, am_SH) (po_Law Q)
        refine am_aload_n (n := 1690) d_Law_law_1689 rfl rfl ?_
        refine am_aload_n (n := 1691) d_Law_law_1690 rfl rfl ?_
        refine am_iload_n (n := 1692) d_Law_law_1691 rfl rfl ?_
        refine am_iconst (n := 1693) d_Law_law_1692 ci_1 rfl ?_
        refine am_iadd (n := 1694) d_Law_law_1693 rfl ?_
        obtain ⟨w163, g163, h⟩ := h
        refine am_sald (n := 1695) d_Law_law_1694 rfl g163.1 g163.2.1 g163.2.2 ?_
        refine am_callV (kc := 0) (ks := 0) (As := [.int (I83 1000 (Int32.toNatClampNeg (v3 + 1)))]) (n := 1698) d_Law_law_1695 rfl ce_M_share lk_Law_210 in_M_share rfl rfl rfl rfl rfl (Nat.le_of_ble_eq_true rfl) (Or.inl rfl) (cm_M_share (d := d - 1) hw (by omega) rfl h) (by omega) ?_
        rintro _ _ ⟨r92, I84, L17, rfl, rfl, h⟩
        show am_Wp (d, "UnseenRingLaw", b_Law_law, 4, false) 0 0 1698 [some (.ref 1000), some (.ref 0), some (.ref 103), some (.int v3)] [.int (am_b r92), .int (am_b r91)] (I84, L17, R, am_SH) (po_Law Q)
        refine am_icmp_eq (tgt := 1831) (n := 1701) d_Law_law_1698 rfl rfl (fun c95 => ?_) (fun c95 => ?_)
        · have h := h.1 c95
          refine am_iinc (v := v3 + 6) (ls' := [some (.ref 1000), some (.ref 0), some (.ref 103), some (.int (v3 + 6))]) (n := 1834) d_Law_law_1831 rfl (congrArg _ ci_6) (by decide) rfl rfl ?_
          refine am_goto (tgt := 18) d_Law_law_1834 rfl ?_
          exact ih I84 L17 R (v3 + 6) hw h
        · have h := h.2 c95
          refine am_iconst (n := 1702) d_Law_law_1701 ci_0 rfl ?_
          exact am_iret d_Law_law_1702 ⟨false, I84, L17, R, rfl, rfl, hw, h⟩
      by_cases c96 : ((I 1000 (Int32.toNatClampNeg v3)) &&& 63) = 46
      · have h := h.2.2.2.2.2.2.2.2.2.2.2.2.2.2.2.2.2.2.2.2.2.2.2.2.2.2.2.2.2.2.2.2.2.2.2.2.2.2.2.2.2.2.2.2.2.2.1 c96
        refine am_tableIn (off := 1670) (tgt := 1703) d_Law_law_33 (by rw [c96]; decide) (by rw [c96]; decide) (by rw [c96]; decide +kernel) rfl ?_
        refine am_aload_n (n := 1704) d_Law_law_1703 rfl rfl ?_
        refine am_aload_n (n := 1705) d_Law_law_1704 rfl rfl ?_
        refine am_iload_n (n := 1706) d_Law_law_1705 rfl rfl ?_
        refine am_iconst (n := 1707) d_Law_law_1706 ci_1 rfl ?_
        refine am_iadd (n := 1708) d_Law_law_1707 rfl ?_
        obtain ⟨w164, g164, h⟩ := h
        refine am_sald (n := 1709) d_Law_law_1708 rfl g164.1 g164.2.1 g164.2.2 ?_
        refine am_callV (kc := 0) (ks := 0) (As := [.int (I 1000 (Int32.toNatClampNeg (v3 + 1)))]) (n := 1712) d_Law_law_1709 rfl ce_U_copyCells lk_Law_211 in_U_copyCells rfl rfl rfl rfl rfl (Nat.le_of_ble_eq_true rfl) (Or.inl rfl) (cm_U_copyCells (d := d - 1) hw (by omega) rfl h) (by omega) ?_
        rintro _ _ ⟨r93, I85, L18, rfl, rfl, h⟩
        show am_Wp (d, "UnseenRingLaw", b_Law_law, 4, false) 0 0 1712 [some (.ref 1000), some (.ref 0), some (.ref 103), some (.int v3)] [.int r93] (I85, L18, R, am_SH) (po_Law Q)
        refine am_aload_n (n := 1713) d_Law_law_1712 rfl rfl ?_
        refine am_aload_n (n := 1714) d_Law_law_1713 rfl rfl ?_
        refine am_iload_n (n := 1715) d_Law_law_1714 rfl rfl ?_
        refine am_iconst (n := 1716) d_Law_law_1715 ci_1 rfl ?_
        refine am_iadd (n := 1717) d_Law_law_1716 rfl ?_
        obtain ⟨w165, g165, h⟩ := h
        refine am_sald (n := 1718) d_Law_law_1717 rfl g165.1 g165.2.1 g165.2.2 ?_
        refine am_callV (kc := 0) (ks := 0) (As := [.int (I85 1000 (Int32.toNatClampNeg (v3 + 1)))]) (n := 1721) d_Law_law_1718 rfl ce_M_copyCells lk_Law_214 in_M_copyCells rfl rfl rfl rfl rfl (Nat.le_of_ble_eq_true rfl) (Or.inl rfl) (cm_M_copyCells (d := d - 1) hw (by omega) rfl h) (by omega) ?_
        rintro _ _ ⟨r94, I86, L19, rfl, rfl, h⟩
        show am_Wp (d, "UnseenRingLaw", b_Law_law, 4, false) 0 0 1721 [some (.ref 1000), some (.ref 0), some (.ref 103), some (.int v3)] [.int r94, .int r93] (I86, L19, R, am_SH) (po_Law Q)
        refine am_icmp_eq (tgt := 1831) (n := 1724) d_Law_law_1721 rfl rfl (fun c97 => ?_) (fun c97 => ?_)
        · have h := h.1 c97
          refine am_iinc (v := v3 + 6) (ls' := [some (.ref 1000), some (.ref 0), some (.ref 103), some (.int (v3 + 6))]) (n := 1834) d_Law_law_1831 rfl (congrArg _ ci_6) (by decide) rfl rfl ?_
          refine am_goto (tgt := 18) d_Law_law_1834 rfl ?_
          exact ih I86 L19 R (v3 + 6) hw h
        · have h := h.2 c97
          refine am_iconst (n := 1725) d_Law_law_1724 ci_0 rfl ?_
          exact am_iret d_Law_law_1725 ⟨false, I86, L19, R, rfl, rfl, hw, h⟩
      by_cases c98 : ((I 1000 (Int32.toNatClampNeg v3)) &&& 63) = 47
      · have h := h.2.2.2.2.2.2.2.2.2.2.2.2.2.2.2.2.2.2.2.2.2.2.2.2.2.2.2.2.2.2.2.2.2.2.2.2.2.2.2.2.2.2.2.2.2.2.2.1 c98
        refine am_tableIn (off := 1693) (tgt := 1726) d_Law_law_33 (by rw [c98]; decide) (by rw [c98]; decide) (by rw [c98]; decide +kernel) rfl ?_
        refine am_aload_n (n := 1727) d_Law_law_1726 rfl rfl ?_
        refine am_aload_n (n := 1728) d_Law_law_1727 rfl rfl ?_
        refine am_iload_n (n := 1729) d_Law_law_1728 rfl rfl ?_
        refine am_iconst (n := 1730) d_Law_law_1729 ci_1 rfl ?_
        refine am_iadd (n := 1731) d_Law_law_1730 rfl ?_
        obtain ⟨w166, g166, h⟩ := h
        refine am_sald (n := 1732) d_Law_law_1731 rfl g166.1 g166.2.1 g166.2.2 ?_
        refine am_callV (kc := 0) (ks := 0) (As := [.int (I 1000 (Int32.toNatClampNeg (v3 + 1)))]) (n := 1735) d_Law_law_1732 rfl ce_U_live lk_Law_215 in_U_live rfl rfl rfl rfl rfl (Nat.le_of_ble_eq_true rfl) (Or.inl rfl) (cm_U_live (d := d - 1) hw (by omega) rfl h) (by omega) ?_
        rintro _ _ ⟨r95, I87, rfl, rfl, h⟩
        show am_Wp (d, "UnseenRingLaw", b_Law_law, 4, false) 0 0 1735 [some (.ref 1000), some (.ref 0), some (.ref 103), some (.int v3)] [.int r95] (I87, L, R, am_SH) (po_Law Q)
        refine am_aload_n (n := 1736) d_Law_law_1735 rfl rfl ?_
        refine am_aload_n (n := 1737) d_Law_law_1736 rfl rfl ?_
        refine am_iload_n (n := 1738) d_Law_law_1737 rfl rfl ?_
        refine am_iconst (n := 1739) d_Law_law_1738 ci_1 rfl ?_
        refine am_iadd (n := 1740) d_Law_law_1739 rfl ?_
        obtain ⟨w167, g167, h⟩ := h
        refine am_sald (n := 1741) d_Law_law_1740 rfl g167.1 g167.2.1 g167.2.2 ?_
        refine am_callV (kc := 0) (ks := 0) (As := [.int (I87 1000 (Int32.toNatClampNeg (v3 + 1)))]) (n := 1744) d_Law_law_1741 rfl ce_M_live lk_Law_218 in_M_live rfl rfl rfl rfl rfl (Nat.le_of_ble_eq_true rfl) (Or.inl rfl) (cm_M_live (d := d - 1) hw (by omega) rfl h) (by omega) ?_
        rintro _ _ ⟨r96, I88, rfl, rfl, h⟩
        show am_Wp (d, "UnseenRingLaw", b_Law_law, 4, false) 0 0 1744 [some (.ref 1000), some (.ref 0), some (.ref 103), some (.int v3)] [.int r96, .int r95] (I88, L, R, am_SH) (po_Law Q)
        refine am_icmp_eq (tgt := 1831) (n := 1747) d_Law_law_1744 rfl rfl (fun c99 => ?_) (fun c99 => ?_)
        · have h := h.1 c99
          refine am_iinc (v := v3 + 6) (ls' := [some (.ref 1000), some (.ref 0), some (.ref 103), some (.int (v3 + 6))]) (n := 1834) d_Law_law_1831 rfl (congrArg _ ci_6) (by decide) rfl rfl ?_
          refine am_goto (tgt := 18) d_Law_law_1834 rfl ?_
          exact ih I88 L R (v3 + 6) hw h
        · have h := h.2 c99
          refine am_iconst (n := 1748) d_Law_law_1747 ci_0 rfl ?_
          exact am_iret d_Law_law_1748 ⟨false, I88, L, R, rfl, rfl, hw, h⟩
      by_cases c100 : ((I 1000 (Int32.toNatClampNeg v3)) &&& 63) = 48
      · have h := h.2.2.2.2.2.2.2.2.2.2.2.2.2.2.2.2.2.2.2.2.2.2.2.2.2.2.2.2.2.2.2.2.2.2.2.2.2.2.2.2.2.2.2.2.2.2.2.2.1 c100
        refine am_tableIn (off := 1716) (tgt := 1749) d_Law_law_33 (by rw [c100]; decide) (by rw [c100]; decide) (by rw [c100]; decide +kernel) rfl ?_
        refine am_aload_n (n := 1750) d_Law_law_1749 rfl rfl ?_
        refine am_aload_n (n := 1751) d_Law_law_1750 rfl rfl ?_
        refine am_iload_n (n := 1752) d_Law_law_1751 rfl rfl ?_
        refine am_iconst (n := 1753) d_Law_law_1752 ci_1 rfl ?_
        refine am_iadd (n := 1754) d_Law_law_1753 rfl ?_
        obtain ⟨w168, g168, h⟩ := h
        refine am_sald (n := 1755) d_Law_law_1754 rfl g168.1 g168.2.1 g168.2.2 ?_
        refine am_callV (kc := 0) (ks := 0) (As := [.int (I 1000 (Int32.toNatClampNeg (v3 + 1)))]) (n := 1758) d_Law_law_1755 rfl ce_U_lived lk_Law_219 in_U_lived rfl rfl rfl rfl rfl (Nat.le_of_ble_eq_true rfl) (Or.inl rfl) (cm_U_lived (d := d - 1) hw (by omega) rfl h) (by omega) ?_
        rintro _ _ ⟨r97, I89, rfl, rfl, h⟩
        show am_Wp (d, "UnseenRingLaw", b_Law_law, 4, false) 0 0 1758 [some (.ref 1000), some (.ref 0), some (.ref 103), some (.int v3)] [.int r97] (I89, L, R, am_SH) (po_Law Q)
        refine am_aload_n (n := 1759) d_Law_law_1758 rfl rfl ?_
        refine am_aload_n (n := 1760) d_Law_law_1759 rfl rfl ?_
        refine am_iload_n (n := 1761) d_Law_law_1760 rfl rfl ?_
        refine am_iconst (n := 1762) d_Law_law_1761 ci_1 rfl ?_
        refine am_iadd (n := 1763) d_Law_law_1762 rfl ?_
        obtain ⟨w169, g169, h⟩ := h
        refine am_sald (n := 1764) d_Law_law_1763 rfl g169.1 g169.2.1 g169.2.2 ?_
        refine am_callV (kc := 0) (ks := 0) (As := [.int (I89 1000 (Int32.toNatClampNeg (v3 + 1)))]) (n := 1767) d_Law_law_1764 rfl ce_M_lived lk_Law_222 in_M_lived rfl rfl rfl rfl rfl (Nat.le_of_ble_eq_true rfl) (Or.inl rfl) (cm_M_lived (d := d - 1) hw (by omega) rfl h) (by omega) ?_
        rintro _ _ ⟨r98, I90, rfl, rfl, h⟩
        show am_Wp (d, "UnseenRingLaw", b_Law_law, 4, false) 0 0 1767 [some (.ref 1000), some (.ref 0), some (.ref 103), some (.int v3)] [.int r98, .int r97] (I90, L, R, am_SH) (po_Law Q)
        refine am_icmp_eq (tgt := 1831) (n := 1770) d_Law_law_1767 rfl rfl (fun c101 => ?_) (fun c101 => ?_)
        · have h := h.1 c101
          refine am_iinc (v := v3 + 6) (ls' := [some (.ref 1000), some (.ref 0), some (.ref 103), some (.int (v3 + 6))]) (n := 1834) d_Law_law_1831 rfl (congrArg _ ci_6) (by decide) rfl rfl ?_
          refine am_goto (tgt := 18) d_Law_law_1834 rfl ?_
          exact ih I90 L R (v3 + 6) hw h
        · have h := h.2 c101
          refine am_iconst (n := 1771) d_Law_law_1770 ci_0 rfl ?_
          exact am_iret d_Law_law_1771 ⟨false, I90, L, R, rfl, rfl, hw, h⟩
      by_cases c102 : ((I 1000 (Int32.toNatClampNeg v3)) &&& 63) = 49
      · have h := h.2.2.2.2.2.2.2.2.2.2.2.2.2.2.2.2.2.2.2.2.2.2.2.2.2.2.2.2.2.2.2.2.2.2.2.2.2.2.2.2.2.2.2.2.2.2.2.2.2.1 c102
        refine am_tableIn (off := 1739) (tgt := 1772) d_Law_law_33 (by rw [c102]; decide) (by rw [c102]; decide) (by rw [c102]; decide +kernel) rfl ?_
        refine am_aload_n (n := 1773) d_Law_law_1772 rfl rfl ?_
        refine am_aload_n (n := 1774) d_Law_law_1773 rfl rfl ?_
        refine am_iload_n (n := 1775) d_Law_law_1774 rfl rfl ?_
        refine am_iconst (n := 1776) d_Law_law_1775 ci_1 rfl ?_
        refine am_iadd (n := 1777) d_Law_law_1776 rfl ?_
        obtain ⟨w170, g170, h⟩ := h
        refine am_sald (n := 1778) d_Law_law_1777 rfl g170.1 g170.2.1 g170.2.2 ?_
        refine am_aload_n (n := 1779) d_Law_law_1778 rfl rfl ?_
        refine am_iload_n (n := 1780) d_Law_law_1779 rfl rfl ?_
        refine am_iconst (n := 1781) d_Law_law_1780 ci_2 rfl ?_
        refine am_iadd (n := 1782) d_Law_law_1781 rfl ?_
        obtain ⟨w171, g171, h⟩ := h
        refine am_sald (n := 1783) d_Law_law_1782 rfl g171.1 g171.2.1 g171.2.2 ?_
        refine am_callV (kc := 0) (ks := 0) (As := [.int (I 1000 (Int32.toNatClampNeg (v3 + 1))), .int (I 1000 (Int32.toNatClampNeg (v3 + 2)))]) (n := 1786) d_Law_law_1783 rfl ce_U_mean lk_Law_223 in_U_mean rfl rfl rfl rfl rfl (Nat.le_of_ble_eq_true rfl) (Or.inl rfl) (cm_U_mean (d := d - 1) hw (by omega) rfl h) (by omega) ?_
        rintro _ _ ⟨r99, I91, L20, rfl, rfl, h⟩
        show am_Wp (d, "UnseenRingLaw", b_Law_law, 4, false) 0 0 1786 [some (.ref 1000), some (.ref 0), some (.ref 103), some (.int v3)] [.int (am_b r99)] (I91, L20, R, am_SH) (po_Law Q)
        refine am_aload_n (n := 1787) d_Law_law_1786 rfl rfl ?_
        refine am_aload_n (n := 1788) d_Law_law_1787 rfl rfl ?_
        refine am_iload_n (n := 1789) d_Law_law_1788 rfl rfl ?_
        refine am_iconst (n := 1790) d_Law_law_1789 ci_1 rfl ?_
        refine am_iadd (n := 1791) d_Law_law_1790 rfl ?_
        obtain ⟨w172, g172, h⟩ := h
        refine am_sald (n := 1792) d_Law_law_1791 rfl g172.1 g172.2.1 g172.2.2 ?_
        refine am_aload_n (n := 1793) d_Law_law_1792 rfl rfl ?_
        refine am_iload_n (n := 1794) d_Law_law_1793 rfl rfl ?_
        refine am_iconst (n := 1795) d_Law_law_1794 ci_2 rfl ?_
        refine am_iadd (n := 1796) d_Law_law_1795 rfl ?_
        obtain ⟨w173, g173, h⟩ := h
        refine am_sald (n := 1797) d_Law_law_1796 rfl g173.1 g173.2.1 g173.2.2 ?_
        refine am_callV (kc := 0) (ks := 0) (As := [.int (I91 1000 (Int32.toNatClampNeg (v3 + 1))), .int (I91 1000 (Int32.toNatClampNeg (v3 + 2)))]) (n := 1800) d_Law_law_1797 rfl ce_M_mean lk_Law_227 in_M_mean rfl rfl rfl rfl rfl (Nat.le_of_ble_eq_true rfl) (Or.inl rfl) (cm_M_mean (d := d - 1) hw (by omega) rfl h) (by omega) ?_
        rintro _ _ ⟨r100, I92, L21, rfl, rfl, h⟩
        show am_Wp (d, "UnseenRingLaw", b_Law_law, 4, false) 0 0 1800 [some (.ref 1000), some (.ref 0), some (.ref 103), some (.int v3)] [.int (am_b r100), .int (am_b r99)] (I92, L21, R, am_SH) (po_Law Q)
        refine am_icmp_eq (tgt := 1831) (n := 1803) d_Law_law_1800 rfl rfl (fun c103 => ?_) (fun c103 => ?_)
        · have h := h.1 c103
          refine am_iinc (v := v3 + 6) (ls' := [some (.ref 1000), some (.ref 0), some (.ref 103), some (.int (v3 + 6))]) (n := 1834) d_Law_law_1831 rfl (congrArg _ ci_6) (by decide) rfl rfl ?_
          refine am_goto (tgt := 18) d_Law_law_1834 rfl ?_
          exact ih I92 L21 R (v3 + 6) hw h
        · have h := h.2 c103
          refine am_iconst (n := 1804) d_Law_law_1803 ci_0 rfl ?_
          exact am_iret d_Law_law_1804 ⟨false, I92, L21, R, rfl, rfl, hw, h⟩
      by_cases c104 : ((I 1000 (Int32.toNatClampNeg v3)) &&& 63) = 50
      · have h := h.2.2.2.2.2.2.2.2.2.2.2.2.2.2.2.2.2.2.2.2.2.2.2.2.2.2.2.2.2.2.2.2.2.2.2.2.2.2.2.2.2.2.2.2.2.2.2.2.2.2.1 c104
        refine am_tableIn (off := 1772) (tgt := 1805) d_Law_law_33 (by rw [c104]; decide) (by rw [c104]; decide) (by rw [c104]; decide +kernel) rfl ?_
        refine am_aload_n (n := 1806) d_Law_law_1805 rfl rfl ?_
        refine am_callV (kc := 0) (ks := 0) (As := []) (n := 1809) d_Law_law_1806 rfl ce_U_mark lk_Law_228 in_U_mark rfl rfl rfl rfl rfl (Nat.le_of_ble_eq_true rfl) (Or.inl rfl) (cm_U_mark (d := d - 1) hw (by omega) rfl h) (by omega) ?_
        rintro _ _ ⟨r101, I93, L22, rfl, rfl, h⟩
        show am_Wp (d, "UnseenRingLaw", b_Law_law, 4, false) 0 0 1809 [some (.ref 1000), some (.ref 0), some (.ref 103), some (.int v3)] [.int r101] (I93, L22, R, am_SH) (po_Law Q)
        refine am_aload_n (n := 1810) d_Law_law_1809 rfl rfl ?_
        refine am_callV (kc := 0) (ks := 0) (As := []) (n := 1813) d_Law_law_1810 rfl ce_M_mark lk_Law_231 in_M_mark rfl rfl rfl rfl rfl (Nat.le_of_ble_eq_true rfl) (Or.inl rfl) (cm_M_mark (d := d - 1) hw (by omega) rfl h) (by omega) ?_
        rintro _ _ ⟨r102, I94, L23, rfl, rfl, h⟩
        show am_Wp (d, "UnseenRingLaw", b_Law_law, 4, false) 0 0 1813 [some (.ref 1000), some (.ref 0), some (.ref 103), some (.int v3)] [.int r102, .int r101] (I94, L23, R, am_SH) (po_Law Q)
        refine am_icmp_eq (tgt := 1831) (n := 1816) d_Law_law_1813 rfl rfl (fun c105 => ?_) (fun c105 => ?_)
        · have h := h.1 c105
          refine am_iinc (v := v3 + 6) (ls' := [some (.ref 1000), some (.ref 0), some (.ref 103), some (.int (v3 + 6))]) (n := 1834) d_Law_law_1831 rfl (congrArg _ ci_6) (by decide) rfl rfl ?_
          refine am_goto (tgt := 18) d_Law_law_1834 rfl ?_
          exact ih I94 L23 R (v3 + 6) hw h
        · have h := h.2 c105
          refine am_iconst (n := 1817) d_Law_law_1816 ci_0 rfl ?_
          exact am_iret d_Law_law_1817 ⟨false, I94, L23, R, rfl, rfl, hw, h⟩
      by_cases c106 : ((I 1000 (Int32.toNatClampNeg v3)) &&& 63) = 51
      · have h := h.2.2.2.2.2.2.2.2.2.2.2.2.2.2.2.2.2.2.2.2.2.2.2.2.2.2.2.2.2.2.2.2.2.2.2.2.2.2.2.2.2.2.2.2.2.2.2.2.2.2.2.1 c106
        refine am_tableIn (off := 1785) (tgt := 1818) d_Law_law_33 (by rw [c106]; decide) (by rw [c106]; decide) (by rw [c106]; decide +kernel) rfl ?_
        refine am_aload_n (n := 1819) d_Law_law_1818 rfl rfl ?_
        refine am_callV (kc := 0) (ks := 0) (As := []) (n := 1822) d_Law_law_1819 rfl ce_U_undo lk_Law_232 in_U_undo rfl rfl rfl rfl rfl (Nat.le_of_ble_eq_true rfl) (Or.inl rfl) (cm_U_undo (d := d - 1) hw (by omega) rfl h) (by omega) ?_
        rintro _ _ ⟨r103, I95, L24, rfl, rfl, h⟩
        show am_Wp (d, "UnseenRingLaw", b_Law_law, 4, false) 0 0 1822 [some (.ref 1000), some (.ref 0), some (.ref 103), some (.int v3)] [.int r103] (I95, L24, R, am_SH) (po_Law Q)
        refine am_aload_n (n := 1823) d_Law_law_1822 rfl rfl ?_
        refine am_callV (kc := 0) (ks := 0) (As := []) (n := 1826) d_Law_law_1823 rfl ce_M_undo lk_Law_235 in_M_undo rfl rfl rfl rfl rfl (Nat.le_of_ble_eq_true rfl) (Or.inl rfl) (cm_M_undo (d := d - 1) hw (by omega) rfl h) (by omega) ?_
        rintro _ _ ⟨r104, I96, L25, rfl, rfl, h⟩
        show am_Wp (d, "UnseenRingLaw", b_Law_law, 4, false) 0 0 1826 [some (.ref 1000), some (.ref 0), some (.ref 103), some (.int v3)] [.int r104, .int r103] (I96, L25, R, am_SH) (po_Law Q)
        refine am_icmp_eq (tgt := 1831) (n := 1829) d_Law_law_1826 rfl rfl (fun c107 => ?_) (fun c107 => ?_)
        · have h := h.1 c107
          refine am_iinc (v := v3 + 6) (ls' := [some (.ref 1000), some (.ref 0), some (.ref 103), some (.int (v3 + 6))]) (n := 1834) d_Law_law_1831 rfl (congrArg _ ci_6) (by decide) rfl rfl ?_
          refine am_goto (tgt := 18) d_Law_law_1834 rfl ?_
          exact ih I96 L25 R (v3 + 6) hw h
        · have h := h.2 c107
          refine am_iconst (n := 1830) d_Law_law_1829 ci_0 rfl ?_
          exact am_iret d_Law_law_1830 ⟨false, I96, L25, R, rfl, rfl, hw, h⟩
      have h := h.2.2.2.2.2.2.2.2.2.2.2.2.2.2.2.2.2.2.2.2.2.2.2.2.2.2.2.2.2.2.2.2.2.2.2.2.2.2.2.2.2.2.2.2.2.2.2.2.2.2.2.2 c2 c4 c6 c8 c10 c12 c14 c16 c18 c20 c22 c24 c26 c28 c30 c32 c34 c36 c38 c40 c42 c44 c46 c50 c52 c54 c56 c58 c60 c62 c64 c66 c68 c70 c72 c74 c76 c78 c80 c82 c84 c86 c88 c90 c92 c94 c96 c98 c100 c102 c104 c106
      have z0 := lv_neT c2 (a := 0) (by decide)
      have z1 := lv_neT c4 (a := 1) (by decide)
      have z2 := lv_neT c6 (a := 2) (by decide)
      have z3 := lv_neT c8 (a := 3) (by decide)
      have z4 := lv_neT c10 (a := 4) (by decide)
      have z5 := lv_neT c12 (a := 5) (by decide)
      have z6 := lv_neT c14 (a := 6) (by decide)
      have z7 := lv_neT c16 (a := 7) (by decide)
      have z8 := lv_neT c18 (a := 8) (by decide)
      have z9 := lv_neT c20 (a := 9) (by decide)
      have z10 := lv_neT c22 (a := 10) (by decide)
      have z11 := lv_neT c24 (a := 11) (by decide)
      have z12 := lv_neT c26 (a := 12) (by decide)
      have z13 := lv_neT c28 (a := 13) (by decide)
      have z14 := lv_neT c30 (a := 14) (by decide)
      have z15 := lv_neT c32 (a := 15) (by decide)
      have z16 := lv_neT c34 (a := 16) (by decide)
      have z17 := lv_neT c36 (a := 17) (by decide)
      have z18 := lv_neT c38 (a := 18) (by decide)
      have z19 := lv_neT c40 (a := 19) (by decide)
      have z20 := lv_neT c42 (a := 20) (by decide)
      have z21 := lv_neT c44 (a := 21) (by decide)
      have z22 := lv_neT c46 (a := 22) (by decide)
      have z23 := lv_neT c50 (a := 23) (by decide)
      have z24 := lv_neT c52 (a := 24) (by decide)
      have z25 := lv_neT c54 (a := 25) (by decide)
      have z26 := lv_neT c56 (a := 26) (by decide)
      have z27 := lv_neT c58 (a := 27) (by decide)
      have z28 := lv_neT c60 (a := 28) (by decide)
      have z29 := lv_neT c62 (a := 29) (by decide)
      have z30 := lv_neT c64 (a := 30) (by decide)
      have z31 := lv_neT c66 (a := 31) (by decide)
      have z32 := lv_neT c68 (a := 32) (by decide)
      have z33 := lv_neT c70 (a := 33) (by decide)
      have z34 := lv_neT c72 (a := 34) (by decide)
      have z35 := lv_neT c74 (a := 35) (by decide)
      have z36 := lv_neT c76 (a := 36) (by decide)
      have z37 := lv_neT c78 (a := 37) (by decide)
      have z38 := lv_neT c80 (a := 38) (by decide)
      have z39 := lv_neT c82 (a := 39) (by decide)
      have z40 := lv_neT c84 (a := 40) (by decide)
      have z41 := lv_neT c86 (a := 41) (by decide)
      have z42 := lv_neT c88 (a := 42) (by decide)
      have z43 := lv_neT c90 (a := 43) (by decide)
      have z44 := lv_neT c92 (a := 44) (by decide)
      have z45 := lv_neT c94 (a := 45) (by decide)
      have z46 := lv_neT c96 (a := 46) (by decide)
      have z47 := lv_neT c98 (a := 47) (by decide)
      have z48 := lv_neT c100 (a := 48) (by decide)
      have z49 := lv_neT c102 (a := 49) (by decide)
      have z50 := lv_neT c104 (a := 50) (by decide)
      have z51 := lv_neT c106 (a := 51) (by decide)
      refine am_tableOut (tgt := 1831) d_Law_law_33 (by omega) rfl ?_
      refine am_iinc (v := v3 + 6) (ls' := [some (.ref 1000), some (.ref 0), some (.ref 103), some (.int (v3 + 6))]) (n := 1834) d_Law_law_1831 rfl (congrArg _ ci_6) (by decide) rfl rfl ?_
      refine am_goto (tgt := 18) d_Law_law_1834 rfl ?_
      exact ih I L R (v3 + 6) hw h
