abbrev po_Tokens_scanAll (R : am_TR) (Q : am_TI → am_TL → Prop) : Option Value → am_St → Prop := fun r σ' => ∃ (I' : am_TI) (L' : am_TL), r = none ∧ σ' = (I', L', R, am_SH) ∧ Q I' L'
def wb_Tokens_scanAll_85 (R : am_TR) (q : Nat) (p1 : Int32) (Q : am_TI → am_TL → Prop)  (I : am_TI) (L : am_TL) : Prop := wp_Tokens_add I L R q 0 p1 0 (fun (I2 : am_TI) (L1 : am_TL) => Q I2 L1)
set_option maxRecDepth 20000 in
theorem tb_Tokens_scanAll_85 {d : Nat}  {R : am_TR} {q : Nat} {p1 : Int32} {Q : am_TI → am_TL → Prop}  (hw : am_Wf R) (hq : am_SH[q]? = some (.inl 9)) (hd : 2 ≤ d) (I : am_TI) (L : am_TL) (h : wb_Tokens_scanAll_85 R q p1 Q  I L) : am_Wp (d, "UnseenRing$Tokens", b_Tokens_scanAll, 5, false) 0 0 85 [some (.ref q), some (.int p1), none, none, none] [] (I, L, R, am_SH) (po_Tokens_scanAll R Q) := by
  unfold wb_Tokens_scanAll_85 at h
  refine am_aload_n (n := 86) d_Tokens_scanAll_85 rfl rfl ?_
  refine am_iconst (n := 87) d_Tokens_scanAll_86 ci_0 rfl ?_
  refine am_iload_n (n := 88) d_Tokens_scanAll_87 rfl rfl ?_
  refine am_lconst (v := 0) (n := 89) d_Tokens_scanAll_88 rfl rfl ?_
  refine am_callV (kc := 0) (ks := 0) (As := [.int 0, .int p1, .long 0]) (n := 92) d_Tokens_scanAll_89 rfl ce_Tokens_add lk_Tokens_105 in_Tokens_add rfl rfl hq rfl rfl (Nat.le_of_ble_eq_true rfl) (Or.inl rfl) (cm_Tokens_add (d := d - 1) hw (by omega) hq h) (by omega) ?_
  rintro _ _ ⟨I2, L1, rfl, rfl, h⟩
  show am_Wp (d, "UnseenRing$Tokens", b_Tokens_scanAll, 5, false) 0 0 92 [some (.ref q), some (.int p1), none, none, none] [] (I2, L1, R, am_SH) (po_Tokens_scanAll R Q)
  exact am_vret d_Tokens_scanAll_92 ⟨I2, L1, rfl, rfl, h⟩
def wl_Tokens_scanAll_9 (R : am_TR) (q : Nat) (p1 : Int32) (Q : am_TI → am_TL → Prop)  : Nat → am_TI → am_TL → Int32 → Int32 → Prop
  | 0 => fun _ _ _ _ => False
  | f9 + 1 => fun I L v2 v3 => ((900 ≤ v3 → wb_Tokens_scanAll_85 R q p1 Q I L) ∧ (¬ 900 ≤ v3 → ((p1 ≤ v2 → wb_Tokens_scanAll_85 R q p1 Q I L) ∧ (¬ p1 ≤ v2 → (vp_in v2 900 ∧ wp_Tokens_isLetter I L R ((I (q + 1) (Int32.toNatClampNeg v2)) &&& 255) (fun (r1 : Bool) => ((r1 = false → wp_Tokens_isDigit I L R ((I (q + 1) (Int32.toNatClampNeg v2)) &&& 255) (fun (r2 : Bool) => ((r2 = false → wp_Tokens_scanSign I L R q v2 ((I (q + 1) (Int32.toNatClampNeg v2)) &&& 255) (fun (I3 : am_TI) (L2 : am_TL) => wl_Tokens_scanAll_9 R q p1 Q f9 I3 L2 (v2 + 1) (v3 + 1))) ∧ (r2 = true → wp_Tokens_scanNumber I L R q v2 p1 (fun (r3 : Int32) (I4 : am_TI) (L3 : am_TL) => wl_Tokens_scanAll_9 R q p1 Q f9 I4 L3 r3 (v3 + 1)))))) ∧ (r1 = true → wp_Tokens_scanWord I L R q v2 p1 (fun (r4 : Int32) (I5 : am_TI) (L4 : am_TL) => wl_Tokens_scanAll_9 R q p1 Q f9 I5 L4 r4 (v3 + 1))))))))))
set_option maxRecDepth 20000 in
theorem tl_Tokens_scanAll_9 {d : Nat}  {R : am_TR} {q : Nat} {p1 : Int32} {Q : am_TI → am_TL → Prop}  (hw : am_Wf R) (hq : am_SH[q]? = some (.inl 9)) (hd : 2 ≤ d) : ∀ (n : Nat) (I : am_TI) (L : am_TL) (v2 : Int32) (v3 : Int32), wl_Tokens_scanAll_9 R q p1 Q  n I L v2 v3 → am_Wp (d, "UnseenRing$Tokens", b_Tokens_scanAll, 5, false) 0 0 9 [some (.ref q), some (.int p1), some (.int v2), some (.int v3), none] [] (I, L, R, am_SH) (po_Tokens_scanAll R Q) := by
  intro n
  induction n with
  | zero => intro I L v2 v3 h; exact h.elim
  | succ n ih =>
    intro I L v2 v3 h
    unfold wl_Tokens_scanAll_9 at h
    refine am_iload_n (n := 10) d_Tokens_scanAll_9 rfl rfl ?_
    refine am_sipush (n := 13) d_Tokens_scanAll_10 cs_900 rfl ?_
    refine am_icmp_ge (tgt := 85) (n := 16) d_Tokens_scanAll_13 rfl rfl (fun c1 => ?_) (fun c1 => ?_)
    · have h := h.1 c1
      refine am_forget (ls' := [some (.ref q), some (.int p1), none, none, none]) (am_le_s (am_le_s (am_le_n (am_le_n (am_le_n am_le_e))))) ?_
      exact tb_Tokens_scanAll_85 hw hq hd I L h
    · have h := h.2 c1
      refine am_iload_n (n := 17) d_Tokens_scanAll_16 rfl rfl ?_
      refine am_iload_n (n := 18) d_Tokens_scanAll_17 rfl rfl ?_
      refine am_icmp_ge (tgt := 85) (n := 21) d_Tokens_scanAll_18 rfl rfl (fun c2 => ?_) (fun c2 => ?_)
      · have h := h.1 c2
        refine am_forget (ls' := [some (.ref q), some (.int p1), none, none, none]) (am_le_s (am_le_s (am_le_n (am_le_n (am_le_n am_le_e))))) ?_
        exact tb_Tokens_scanAll_85 hw hq hd I L h
      · have h := h.2 c2
        refine am_aload_n (n := 22) d_Tokens_scanAll_21 rfl rfl ?_
        refine am_getR (x := (q + 1)) (n := 25) f_Tokens_11 d_Tokens_scanAll_22 rfl rfl hq (hw.1 q 9 0 1 hq rfl) ?_
        refine am_iload_n (n := 26) d_Tokens_scanAll_25 rfl rfl ?_
        obtain ⟨g1, h⟩ := h
        refine am_bald2 (n := 27) d_Tokens_scanAll_26 rfl (am_sho (k := 0) (o := 1) hq (by decide) (by decide) (by decide) rfl) g1 rfl ?_
        refine am_sipush (n := 30) d_Tokens_scanAll_27 cs_255 rfl ?_
        refine am_iand (n := 31) d_Tokens_scanAll_30 rfl ?_
        refine am_istore (ls' := [some (.ref q), some (.int p1), some (.int v2), some (.int v3), some (.int ((I (q + 1) (Int32.toNatClampNeg v2)) &&& 255))]) (n := 33) d_Tokens_scanAll_31 (by decide) rfl rfl ?_
        refine am_iload (n := 35) d_Tokens_scanAll_33 rfl rfl ?_
        refine am_callS (kc := 0) (ks := 0) (As := [.int ((I (q + 1) (Int32.toNatClampNeg v2)) &&& 255)]) (n := 38) d_Tokens_scanAll_35 rfl ce_Tokens_isLetter lk_Tokens_89 st_Tokens_isLetter rfl rfl (Nat.le_of_ble_eq_true rfl) (Or.inl rfl) (cm_Tokens_isLetter (d := d - 1) hw (by omega)  h) (by omega) ?_
        rintro _ _ ⟨r1, rfl, rfl, h⟩
        show am_Wp (d, "UnseenRing$Tokens", b_Tokens_scanAll, 5, false) 0 0 38 [some (.ref q), some (.int p1), some (.int v2), some (.int v3), some (.int ((I (q + 1) (Int32.toNatClampNeg v2)) &&& 255))] [.int (am_b r1)] (I, L, R, am_SH) (po_Tokens_scanAll R Q)
        refine am_if_eq (y := 0) (tgt := 51) (n := 41) d_Tokens_scanAll_38 rfl rfl (fun c3 => ?_) (fun c3 => ?_)
        · have h := h.1 (am_b_0 c3)
          refine am_iload (n := 53) d_Tokens_scanAll_51 rfl rfl ?_
          refine am_callS (kc := 0) (ks := 0) (As := [.int ((I (q + 1) (Int32.toNatClampNeg v2)) &&& 255)]) (n := 56) d_Tokens_scanAll_53 rfl ce_Tokens_isDigit lk_Tokens_95 st_Tokens_isDigit rfl rfl (Nat.le_of_ble_eq_true rfl) (Or.inl rfl) (cm_Tokens_isDigit (d := d - 1) hw (by omega)  h) (by omega) ?_
          rintro _ _ ⟨r2, rfl, rfl, h⟩
          show am_Wp (d, "UnseenRing$Tokens", b_Tokens_scanAll, 5, false) 0 0 56 [some (.ref q), some (.int p1), some (.int v2), some (.int v3), some (.int ((I (q + 1) (Int32.toNatClampNeg v2)) &&& 255))] [.int (am_b r2)] (I, L, R, am_SH) (po_Tokens_scanAll R Q)
          refine am_if_eq (y := 0) (tgt := 69) (n := 59) d_Tokens_scanAll_56 rfl rfl (fun c4 => ?_) (fun c4 => ?_)
          · have h := h.1 (am_b_0 c4)
            refine am_aload_n (n := 70) d_Tokens_scanAll_69 rfl rfl ?_
            refine am_iload_n (n := 71) d_Tokens_scanAll_70 rfl rfl ?_
            refine am_iload (n := 73) d_Tokens_scanAll_71 rfl rfl ?_
            refine am_callV (kc := 0) (ks := 0) (As := [.int v2, .int ((I (q + 1) (Int32.toNatClampNeg v2)) &&& 255)]) (n := 76) d_Tokens_scanAll_73 rfl ce_Tokens_scanSign lk_Tokens_101 in_Tokens_scanSign rfl rfl hq rfl rfl (Nat.le_of_ble_eq_true rfl) (Or.inl rfl) (cm_Tokens_scanSign (d := d - 1) hw (by omega) hq h) (by omega) ?_
            rintro _ _ ⟨I3, L2, rfl, rfl, h⟩
            show am_Wp (d, "UnseenRing$Tokens", b_Tokens_scanAll, 5, false) 0 0 76 [some (.ref q), some (.int p1), some (.int v2), some (.int v3), some (.int ((I (q + 1) (Int32.toNatClampNeg v2)) &&& 255))] [] (I3, L2, R, am_SH) (po_Tokens_scanAll R Q)
            refine am_iinc (v := v2 + 1) (ls' := [some (.ref q), some (.int p1), some (.int (v2 + 1)), some (.int v3), some (.int ((I (q + 1) (Int32.toNatClampNeg v2)) &&& 255))]) (n := 79) d_Tokens_scanAll_76 rfl (congrArg _ ci_1) (by decide) rfl rfl ?_
            refine am_iinc (v := v3 + 1) (ls' := [some (.ref q), some (.int p1), some (.int (v2 + 1)), some (.int (v3 + 1)), some (.int ((I (q + 1) (Int32.toNatClampNeg v2)) &&& 255))]) (n := 82) d_Tokens_scanAll_79 rfl (congrArg _ ci_1) (by decide) rfl rfl ?_
            refine am_goto (tgt := 9) d_Tokens_scanAll_82 rfl ?_
            refine am_forget (ls' := [some (.ref q), some (.int p1), some (.int (v2 + 1)), some (.int (v3 + 1)), none]) (am_le_s (am_le_s (am_le_s (am_le_s (am_le_n am_le_e))))) ?_
            exact ih I3 L2 (v2 + 1) (v3 + 1)  h
          · have h := h.2 (am_b_n0 c4)
            refine am_aload_n (n := 60) d_Tokens_scanAll_59 rfl rfl ?_
            refine am_iload_n (n := 61) d_Tokens_scanAll_60 rfl rfl ?_
            refine am_iload_n (n := 62) d_Tokens_scanAll_61 rfl rfl ?_
            refine am_callV (kc := 0) (ks := 0) (As := [.int v2, .int p1]) (n := 65) d_Tokens_scanAll_62 rfl ce_Tokens_scanNumber lk_Tokens_98 in_Tokens_scanNumber rfl rfl hq rfl rfl (Nat.le_of_ble_eq_true rfl) (Or.inl rfl) (cm_Tokens_scanNumber (d := d - 1) hw (by omega) hq h) (by omega) ?_
            rintro _ _ ⟨r3, I4, L3, rfl, rfl, h⟩
            show am_Wp (d, "UnseenRing$Tokens", b_Tokens_scanAll, 5, false) 0 0 65 [some (.ref q), some (.int p1), some (.int v2), some (.int v3), some (.int ((I (q + 1) (Int32.toNatClampNeg v2)) &&& 255))] [.int r3] (I4, L3, R, am_SH) (po_Tokens_scanAll R Q)
            refine am_istore_n (ls' := [some (.ref q), some (.int p1), some (.int r3), some (.int v3), some (.int ((I (q + 1) (Int32.toNatClampNeg v2)) &&& 255))]) (n := 66) d_Tokens_scanAll_65 (by decide) rfl rfl ?_
            refine am_goto (tgt := 79) d_Tokens_scanAll_66 rfl ?_
            refine am_iinc (v := v3 + 1) (ls' := [some (.ref q), some (.int p1), some (.int r3), some (.int (v3 + 1)), some (.int ((I (q + 1) (Int32.toNatClampNeg v2)) &&& 255))]) (n := 82) d_Tokens_scanAll_79 rfl (congrArg _ ci_1) (by decide) rfl rfl ?_
            refine am_goto (tgt := 9) d_Tokens_scanAll_82 rfl ?_
            refine am_forget (ls' := [some (.ref q), some (.int p1), some (.int r3), some (.int (v3 + 1)), none]) (am_le_s (am_le_s (am_le_s (am_le_s (am_le_n am_le_e))))) ?_
            exact ih I4 L3 r3 (v3 + 1)  h
        · have h := h.2 (am_b_n0 c3)
          refine am_aload_n (n := 42) d_Tokens_scanAll_41 rfl rfl ?_
          refine am_iload_n (n := 43) d_Tokens_scanAll_42 rfl rfl ?_
          refine am_iload_n (n := 44) d_Tokens_scanAll_43 rfl rfl ?_
          refine am_callV (kc := 0) (ks := 0) (As := [.int v2, .int p1]) (n := 47) d_Tokens_scanAll_44 rfl ce_Tokens_scanWord lk_Tokens_92 in_Tokens_scanWord rfl rfl hq rfl rfl (Nat.le_of_ble_eq_true rfl) (Or.inl rfl) (cm_Tokens_scanWord (d := d - 1) hw (by omega) hq h) (by omega) ?_
          rintro _ _ ⟨r4, I5, L4, rfl, rfl, h⟩
          show am_Wp (d, "UnseenRing$Tokens", b_Tokens_scanAll, 5, false) 0 0 47 [some (.ref q), some (.int p1), some (.int v2), some (.int v3), some (.int ((I (q + 1) (Int32.toNatClampNeg v2)) &&& 255))] [.int r4] (I5, L4, R, am_SH) (po_Tokens_scanAll R Q)
          refine am_istore_n (ls' := [some (.ref q), some (.int p1), some (.int r4), some (.int v3), some (.int ((I (q + 1) (Int32.toNatClampNeg v2)) &&& 255))]) (n := 48) d_Tokens_scanAll_47 (by decide) rfl rfl ?_
          refine am_goto (tgt := 79) d_Tokens_scanAll_48 rfl ?_
          refine am_iinc (v := v3 + 1) (ls' := [some (.ref q), some (.int p1), some (.int r4), some (.int (v3 + 1)), some (.int ((I (q + 1) (Int32.toNatClampNeg v2)) &&& 255))]) (n := 82) d_Tokens_scanAll_79 rfl (congrArg _ ci_1) (by decide) rfl rfl ?_
          refine am_goto (tgt := 9) d_Tokens_scanAll_82 rfl ?_
          refine am_forget (ls' := [some (.ref q), some (.int p1), some (.int r4), some (.int (v3 + 1)), none]) (am_le_s (am_le_s (am_le_s (am_le_s (am_le_n am_le_e))))) ?_
          exact ih I5 L4 r4 (v3 + 1)  h
def wp_Tokens_scanAll (I : am_TI) (L : am_TL) (R : am_TR) (q : Nat) (p1 : Int32)  (Q : am_TI → am_TL → Prop) : Prop := (∀ I1, I1 = am_u2 I q 5 0 → (∃ z, wl_Tokens_scanAll_9 R q p1 Q z I1 L 0 0))
set_option maxRecDepth 20000 in
theorem cm_Tokens_scanAll {d : Nat} {I : am_TI} {L : am_TL} {R : am_TR}  (hw : am_Wf R)   {q : Nat} {p1 : Int32} {Q : am_TI → am_TL → Prop} (hd : 2 ≤ d) (hq : am_SH[q]? = some (.inl 9)) (h : wp_Tokens_scanAll I L R q p1  Q) : am_Cm d 0 0 y_Tokens_scanAll b_Tokens_scanAll 5 (none) [.ref q, .int p1] (I, L, R, am_SH) (po_Tokens_scanAll R Q) := by
  refine am_Cm_of (ini := false) (by decide +kernel) (fun z => by cases z) (by simp [Value.category]) (fun r σ' z => by obtain ⟨_, _, rfl, -⟩ := z; rfl) ?_
  unfold wp_Tokens_scanAll at h
  show am_Wp (d, "UnseenRing$Tokens", b_Tokens_scanAll, 5, false) 0 0 0 [some (.ref q), some (.int p1), none, none, none] [] (I, L, R, am_SH) (po_Tokens_scanAll R Q)
  refine am_aload_n (n := 1) d_Tokens_scanAll_0 rfl rfl ?_
  refine am_iconst (n := 2) d_Tokens_scanAll_1 ci_0 rfl ?_
  refine am_putI (n := 5) f_Tokens_29 d_Tokens_scanAll_2 rfl ⟨_, rfl, Or.inl rfl⟩ rfl rfl hq ?_
  generalize eI1 : am_u2 I q 5 0 = I1
  have h := h I1 eI1.symm
  refine am_iconst (n := 6) d_Tokens_scanAll_5 ci_0 rfl ?_
  refine am_istore_n (ls' := [some (.ref q), some (.int p1), some (.int 0), none, none]) (n := 7) d_Tokens_scanAll_6 (by decide) rfl rfl ?_
  refine am_iconst (n := 8) d_Tokens_scanAll_7 ci_0 rfl ?_
  refine am_istore_n (ls' := [some (.ref q), some (.int p1), some (.int 0), some (.int 0), none]) (n := 9) d_Tokens_scanAll_8 (by decide) rfl rfl ?_
  obtain ⟨n, h⟩ := h
  exact tl_Tokens_scanAll_9 hw hq hd n I1 L 0 0 h
abbrev po_Tokens_begin (R : am_TR) (Q : am_TI → am_TL → Prop) : Option Value → am_St → Prop := fun r σ' => ∃ (I' : am_TI) (L' : am_TL), r = none ∧ σ' = (I', L', R, am_SH) ∧ Q I' L'
def wp_Tokens_begin (I : am_TI) (L : am_TL) (R : am_TR) (q : Nat) (p1 : Int32)  (Q : am_TI → am_TL → Prop) : Prop := wp_Tokens_scanAll I L R q (am_min p1 (I q 7)) (fun (I1 : am_TI) (L1 : am_TL) => (∀ I2, I2 = am_u2 I1 q 10 0 → (∀ I3, I3 = am_u2 I2 q 11 (-1) → (∀ I4, I4 = am_u2 I3 q 6 (-1) → wp_Tokens_advance I4 L1 R q (fun (I5 : am_TI) => Q I5 L1)))))
set_option maxRecDepth 20000 in
theorem cm_Tokens_begin {d : Nat} {I : am_TI} {L : am_TL} {R : am_TR}  (hw : am_Wf R)   {q : Nat} {p1 : Int32} {Q : am_TI → am_TL → Prop} (hd : 3 ≤ d) (hq : am_SH[q]? = some (.inl 9)) (h : wp_Tokens_begin I L R q p1  Q) : am_Cm d 0 0 y_Tokens_begin b_Tokens_begin 2 (none) [.ref q, .int p1] (I, L, R, am_SH) (po_Tokens_begin R Q) := by
  refine am_Cm_of (ini := false) (by decide +kernel) (fun z => by cases z) (by simp [Value.category]) (fun r σ' z => by obtain ⟨_, _, rfl, -⟩ := z; rfl) ?_
  unfold wp_Tokens_begin at h
  show am_Wp (d, "UnseenRing$Tokens", b_Tokens_begin, 2, false) 0 0 0 [some (.ref q), some (.int p1)] [] (I, L, R, am_SH) (po_Tokens_begin R Q)
  refine am_aload_n (n := 1) d_Tokens_begin_0 rfl rfl ?_
  refine am_iload_n (n := 2) d_Tokens_begin_1 rfl rfl ?_
  refine am_aload_n (n := 3) d_Tokens_begin_2 rfl rfl ?_
  refine am_getI (n := 6) f_Tokens_36 d_Tokens_begin_3 rfl rfl hq ?_
  refine am_mmin2 (n := 9) d_Tokens_begin_6 rfl lm_Tokens_66 (Nat.le_of_ble_eq_true rfl) (by omega) ?_
  refine am_callV (kc := 0) (ks := 0) (As := [.int (am_min p1 (I q 7))]) (n := 12) d_Tokens_begin_9 rfl ce_Tokens_scanAll lk_Tokens_72 in_Tokens_scanAll rfl rfl hq rfl rfl (Nat.le_of_ble_eq_true rfl) (Or.inl rfl) (cm_Tokens_scanAll (d := d - 1) hw (by omega) hq h) (by omega) ?_
  rintro _ _ ⟨I1, L1, rfl, rfl, h⟩
  show am_Wp (d, "UnseenRing$Tokens", b_Tokens_begin, 2, false) 0 0 12 [some (.ref q), some (.int p1)] [] (I1, L1, R, am_SH) (po_Tokens_begin R Q)
  refine am_aload_n (n := 13) d_Tokens_begin_12 rfl rfl ?_
  refine am_iconst (n := 14) d_Tokens_begin_13 ci_0 rfl ?_
  refine am_putI (n := 17) f_Tokens_45 d_Tokens_begin_14 rfl ⟨_, rfl, Or.inl rfl⟩ rfl rfl hq ?_
  generalize eI2 : am_u2 I1 q 10 0 = I2
  have h := h I2 eI2.symm
  refine am_aload_n (n := 18) d_Tokens_begin_17 rfl rfl ?_
  refine am_iconst (n := 19) d_Tokens_begin_18 ci_m1 rfl ?_
  refine am_putI (n := 22) f_Tokens_48 d_Tokens_begin_19 rfl ⟨_, rfl, Or.inl rfl⟩ rfl rfl hq ?_
  generalize eI3 : am_u2 I2 q 11 (-1) = I3
  have h := h I3 eI3.symm
  refine am_aload_n (n := 23) d_Tokens_begin_22 rfl rfl ?_
  refine am_iconst (n := 24) d_Tokens_begin_23 ci_m1 rfl ?_
  refine am_putI (n := 27) f_Tokens_33 d_Tokens_begin_24 rfl ⟨_, rfl, Or.inl rfl⟩ rfl rfl hq ?_
  generalize eI4 : am_u2 I3 q 6 (-1) = I4
  have h := h I4 eI4.symm
  refine am_aload_n (n := 28) d_Tokens_begin_27 rfl rfl ?_
  refine am_callV (kc := 0) (ks := 0) (As := []) (n := 31) d_Tokens_begin_28 rfl ce_Tokens_advance lk_Tokens_76 in_Tokens_advance rfl rfl hq rfl rfl (Nat.le_of_ble_eq_true rfl) (Or.inl rfl) (cm_Tokens_advance (d := d - 1) hw (by omega) hq h) (by omega) ?_
  rintro _ _ ⟨I5, rfl, rfl, h⟩
  show am_Wp (d, "UnseenRing$Tokens", b_Tokens_begin, 2, false) 0 0 31 [some (.ref q), some (.int p1)] [] (I5, L1, R, am_SH) (po_Tokens_begin R Q)
  exact am_vret d_Tokens_begin_31 ⟨I5, L1, rfl, rfl, h⟩
abbrev po_SquareReader_readText (R : am_TR) (Q : Bool → am_TI → am_TL → Prop) : Option Value → am_St → Prop := fun r σ' => ∃ (x : Bool) (I' : am_TI) (L' : am_TL), r = some (.int (am_b x)) ∧ σ' = (I', L', R, am_SH) ∧ Q x I' L'
def wl_SquareReader_readText_27 (R : am_TR) (q : Nat) (p1 : Nat) (p2 : Int32) (p3 : Nat) (Q : Bool → am_TI → am_TL → Prop)  : Nat → am_TI → am_TL → Int32 → Prop
  | 0 => fun _ _ _ => False
  | f27 + 1 => fun I L v4 => ((900 ≤ v4 → Q true I L) ∧ (¬ 900 ≤ v4 → (((I p1 8) = 0 → Q true I L) ∧ (¬ (I p1 8) = 0 → wp_SquareReader_readPart I L R q p1 p3 (fun (r1 : Bool) (I6 : am_TI) (L2 : am_TL) => ((r1 = false → Q false I6 L2) ∧ (r1 = true → wl_SquareReader_readText_27 R q p1 p2 p3 Q f27 I6 L2 (v4 + 1))))))))
set_option maxRecDepth 20000 in
theorem tl_SquareReader_readText_27 {d : Nat}  {R : am_TR} {q : Nat} {p1 : Nat} {p2 : Int32} {p3 : Nat} {Q : Bool → am_TI → am_TL → Prop}  (hw : am_Wf R) (hq : am_SH[q]? = some (.inl 8)) (hp1 : am_SH[p1]? = some (.inl 9)) (hp3 : am_SH[p3]? = some (.inl 7)) (hd : 5 ≤ d) : ∀ (n : Nat) (I : am_TI) (L : am_TL) (v4 : Int32), wl_SquareReader_readText_27 R q p1 p2 p3 Q  n I L v4 → am_Wp (d, "UnseenRing$SquareReader", b_SquareReader_readText, 5, false) 0 0 27 [some (.ref q), some (.ref p1), some (.int p2), some (.ref p3), some (.int v4)] [] (I, L, R, am_SH) (po_SquareReader_readText R Q) := by
  intro n
  induction n with
  | zero => intro I L v4 h; exact h.elim
  | succ n ih =>
    intro I L v4 h
    unfold wl_SquareReader_readText_27 at h
    refine am_iload (n := 29) d_SquareReader_readText_27 rfl rfl ?_
    refine am_sipush (n := 32) d_SquareReader_readText_29 cs_900 rfl ?_
    refine am_icmp_ge (tgt := 59) (n := 35) d_SquareReader_readText_32 rfl rfl (fun c1 => ?_) (fun c1 => ?_)
    · have h := h.1 c1
      refine am_iconst (n := 60) d_SquareReader_readText_59 ci_1 rfl ?_
      exact am_iret d_SquareReader_readText_60 ⟨true, I, L, rfl, rfl, h⟩
    · have h := h.2 c1
      refine am_aload_n (n := 36) d_SquareReader_readText_35 rfl rfl ?_
      refine am_getI (n := 39) f_SquareReader_32 d_SquareReader_readText_36 rfl rfl hp1 ?_
      refine am_if_eq (y := 0) (tgt := 59) (n := 42) d_SquareReader_readText_39 rfl rfl (fun c2 => ?_) (fun c2 => ?_)
      · have h := h.1 c2
        refine am_iconst (n := 60) d_SquareReader_readText_59 ci_1 rfl ?_
        exact am_iret d_SquareReader_readText_60 ⟨true, I, L, rfl, rfl, h⟩
      · have h := h.2 c2
        refine am_aload_n (n := 43) d_SquareReader_readText_42 rfl rfl ?_
        refine am_aload_n (n := 44) d_SquareReader_readText_43 rfl rfl ?_
        refine am_aload_n (n := 45) d_SquareReader_readText_44 rfl rfl ?_
        refine am_callV (kc := 0) (ks := 0) (As := [.ref p1, .ref p3]) (n := 48) d_SquareReader_readText_45 rfl ce_SquareReader_readPart lk_SquareReader_36 in_SquareReader_readPart rfl rfl hq rfl rfl (Nat.le_of_ble_eq_true rfl) (Or.inl rfl) (cm_SquareReader_readPart (d := d - 1) hw (by omega) hq hp1 hp3 h) (by omega) ?_
        rintro _ _ ⟨r1, I6, L2, rfl, rfl, h⟩
        show am_Wp (d, "UnseenRing$SquareReader", b_SquareReader_readText, 5, false) 0 0 48 [some (.ref q), some (.ref p1), some (.int p2), some (.ref p3), some (.int v4)] [.int (am_b r1)] (I6, L2, R, am_SH) (po_SquareReader_readText R Q)
        refine am_if_ne (y := 0) (tgt := 53) (n := 51) d_SquareReader_readText_48 rfl rfl (fun c3 => ?_) (fun c3 => ?_)
        · have h := h.2 (am_b_n0 c3)
          refine am_iinc (v := v4 + 1) (ls' := [some (.ref q), some (.ref p1), some (.int p2), some (.ref p3), some (.int (v4 + 1))]) (n := 56) d_SquareReader_readText_53 rfl (congrArg _ ci_1) (by decide) rfl rfl ?_
          refine am_goto (tgt := 27) d_SquareReader_readText_56 rfl ?_
          exact ih I6 L2 (v4 + 1)  h
        · have h := h.1 (am_b_0 c3)
          refine am_iconst (n := 52) d_SquareReader_readText_51 ci_0 rfl ?_
          exact am_iret d_SquareReader_readText_52 ⟨false, I6, L2, rfl, rfl, h⟩
def wp_SquareReader_readText (I : am_TI) (L : am_TL) (R : am_TR) (q : Nat) (p1 : Nat) (p2 : Int32) (p3 : Nat)  (Q : Bool → am_TI → am_TL → Prop) : Prop := wp_Square_reset I L R p3 (fun (I1 : am_TI) => (∀ I2, I2 = am_u2 I1 q 0 0 → (∀ I3, I3 = am_u2 I2 q 1 0 → (∀ I4, I4 = am_u2 I3 q 2 0 → wp_Tokens_begin I4 L R p1 p2 (fun (I5 : am_TI) (L1 : am_TL) => (∃ z, wl_SquareReader_readText_27 R q p1 p2 p3 Q z I5 L1 0))))))
set_option maxRecDepth 20000 in
theorem cm_SquareReader_readText {d : Nat} {I : am_TI} {L : am_TL} {R : am_TR}  (hw : am_Wf R)   {q : Nat} {p1 : Nat} {p2 : Int32} {p3 : Nat} {Q : Bool → am_TI → am_TL → Prop} (hd : 5 ≤ d) (hq : am_SH[q]? = some (.inl 8)) (hp1 : am_SH[p1]? = some (.inl 9)) (hp3 : am_SH[p3]? = some (.inl 7)) (h : wp_SquareReader_readText I L R q p1 p2 p3  Q) : am_Cm d 0 0 y_SquareReader_readText b_SquareReader_readText 5 (some .boolean) [.ref q, .ref p1, .int p2, .ref p3] (I, L, R, am_SH) (po_SquareReader_readText R Q) := by
  refine am_Cm_of (ini := false) (by decide +kernel) (fun z => by cases z) (by simp [Value.category]) (fun r σ' z => by obtain ⟨x, _, _, rfl, -⟩ := z; exact ⟨_, rfl, am_b_nar x⟩) ?_
  unfold wp_SquareReader_readText at h
  show am_Wp (d, "UnseenRing$SquareReader", b_SquareReader_readText, 5, false) 0 0 0 [some (.ref q), some (.ref p1), some (.int p2), some (.ref p3), none] [] (I, L, R, am_SH) (po_SquareReader_readText R Q)
  refine am_aload_n (n := 1) d_SquareReader_readText_0 rfl rfl ?_
  refine am_callV (kc := 0) (ks := 0) (As := []) (n := 4) d_SquareReader_readText_1 rfl ce_Square_reset lk_SquareReader_21 in_Square_reset rfl rfl hp3 rfl rfl (Nat.le_of_ble_eq_true rfl) (Or.inl rfl) (cm_Square_reset (d := d - 1) hw (by omega) hp3 h) (by omega) ?_
  rintro _ _ ⟨I1, rfl, rfl, h⟩
  show am_Wp (d, "UnseenRing$SquareReader", b_SquareReader_readText, 5, false) 0 0 4 [some (.ref q), some (.ref p1), some (.int p2), some (.ref p3), none] [] (I1, L, R, am_SH) (po_SquareReader_readText R Q)
  refine am_aload_n (n := 5) d_SquareReader_readText_4 rfl rfl ?_
  refine am_iconst (n := 6) d_SquareReader_readText_5 ci_0 rfl ?_
  refine am_putZ (n := 9) f_SquareReader_9 d_SquareReader_readText_6 rfl ⟨_, rfl, Or.inl rfl⟩ rfl rfl hq (Or.inl rfl) ?_
  generalize eI2 : am_u2 I1 q 0 0 = I2
  have h := h I2 eI2.symm
  refine am_aload_n (n := 10) d_SquareReader_readText_9 rfl rfl ?_
  refine am_iconst (n := 11) d_SquareReader_readText_10 ci_0 rfl ?_
  refine am_putZ (n := 14) f_SquareReader_15 d_SquareReader_readText_11 rfl ⟨_, rfl, Or.inl rfl⟩ rfl rfl hq (Or.inl rfl) ?_
  generalize eI3 : am_u2 I2 q 1 0 = I3
  have h := h I3 eI3.symm
  refine am_aload_n (n := 15) d_SquareReader_readText_14 rfl rfl ?_
  refine am_iconst (n := 16) d_SquareReader_readText_15 ci_0 rfl ?_
  refine am_putZ (n := 19) f_SquareReader_18 d_SquareReader_readText_16 rfl ⟨_, rfl, Or.inl rfl⟩ rfl rfl hq (Or.inl rfl) ?_
  generalize eI4 : am_u2 I3 q 2 0 = I4
  have h := h I4 eI4.symm
  refine am_aload_n (n := 20) d_SquareReader_readText_19 rfl rfl ?_
  refine am_iload_n (n := 21) d_SquareReader_readText_20 rfl rfl ?_
  refine am_callV (kc := 0) (ks := 0) (As := [.int p2]) (n := 24) d_SquareReader_readText_21 rfl ce_Tokens_begin lk_SquareReader_26 in_Tokens_begin rfl rfl hp1 rfl rfl (Nat.le_of_ble_eq_true rfl) (Or.inl rfl) (cm_Tokens_begin (d := d - 1) hw (by omega) hp1 h) (by omega) ?_
  rintro _ _ ⟨I5, L1, rfl, rfl, h⟩
  show am_Wp (d, "UnseenRing$SquareReader", b_SquareReader_readText, 5, false) 0 0 24 [some (.ref q), some (.ref p1), some (.int p2), some (.ref p3), none] [] (I5, L1, R, am_SH) (po_SquareReader_readText R Q)
  refine am_iconst (n := 25) d_SquareReader_readText_24 ci_0 rfl ?_
  refine am_istore (ls' := [some (.ref q), some (.ref p1), some (.int p2), some (.ref p3), some (.int 0)]) (n := 27) d_SquareReader_readText_25 (by decide) rfl rfl ?_
  obtain ⟨n, h⟩ := h
  exact tl_SquareReader_readText_27 hw hq hp1 hp3 hd n I5 L1 0 h
abbrev po_Tokens_clear (L : am_TL) (R : am_TR) (Q : am_TI → Prop) : Option Value → am_St → Prop := fun r σ' => ∃ (I' : am_TI), r = none ∧ σ' = (I', L, R, am_SH) ∧ Q I'
def wp_Tokens_clear (I : am_TI) (L : am_TL) (R : am_TR) (q : Nat)  (Q : am_TI → Prop) : Prop := (∀ I1, I1 = am_u2 I q 7 0 → Q I1)
set_option maxRecDepth 20000 in
theorem cm_Tokens_clear {d : Nat} {I : am_TI} {L : am_TL} {R : am_TR}  (hw : am_Wf R)   {q : Nat} {Q : am_TI → Prop} (hd : 0 ≤ d) (hq : am_SH[q]? = some (.inl 9)) (h : wp_Tokens_clear I L R q  Q) : am_Cm d 0 0 y_Tokens_clear b_Tokens_clear 1 (none) [.ref q] (I, L, R, am_SH) (po_Tokens_clear L R Q) := by
  refine am_Cm_of (ini := false) (by decide +kernel) (fun z => by cases z) (by simp [Value.category]) (fun r σ' z => by obtain ⟨_, rfl, -⟩ := z; rfl) ?_
  unfold wp_Tokens_clear at h
  show am_Wp (d, "UnseenRing$Tokens", b_Tokens_clear, 1, false) 0 0 0 [some (.ref q)] [] (I, L, R, am_SH) (po_Tokens_clear L R Q)
  refine am_aload_n (n := 1) d_Tokens_clear_0 rfl rfl ?_
  refine am_iconst (n := 2) d_Tokens_clear_1 ci_0 rfl ?_
  refine am_putI (n := 5) f_Tokens_36 d_Tokens_clear_2 rfl ⟨_, rfl, Or.inl rfl⟩ rfl rfl hq ?_
  generalize eI1 : am_u2 I q 7 0 = I1
  have h := h I1 eI1.symm
  exact am_vret d_Tokens_clear_5 ⟨I1, rfl, rfl, h⟩
abbrev po_U_answered (L : am_TL) (R : am_TR) (Q : Int32 → am_TI → Prop) : Option Value → am_St → Prop := fun r σ' => ∃ (x : Int32) (I' : am_TI), r = some (.int x) ∧ σ' = (I', L, R, am_SH) ∧ Q x I'
def wp_U_answered (I : am_TI) (L : am_TL) (R : am_TR) (q : Nat) (p1 : Int32)  (Q : Int32 → am_TI → Prop) : Prop := (∀ I1, I1 = am_u2 I q 15 0 → Q p1 I1)
set_option maxRecDepth 20000 in
theorem cm_U_answered {d : Nat} {I : am_TI} {L : am_TL} {R : am_TR}  (hw : am_Wf R)   {q : Nat} {p1 : Int32} {Q : Int32 → am_TI → Prop} (hd : 0 ≤ d) (hq : am_SH[q]? = some (.inl 11)) (h : wp_U_answered I L R q p1  Q) : am_Cm d 0 0 y_U_answered b_U_answered 2 (some .int) [.ref q, .int p1] (I, L, R, am_SH) (po_U_answered L R Q) := by
  refine am_Cm_of (ini := false) (by decide +kernel) (fun z => by cases z) (by simp [Value.category]) (fun r σ' z => by obtain ⟨x, _, rfl, -⟩ := z; exact ⟨_, rfl, rfl⟩) ?_
  unfold wp_U_answered at h
  show am_Wp (d, "UnseenRing", b_U_answered, 2, false) 0 0 0 [some (.ref q), some (.int p1)] [] (I, L, R, am_SH) (po_U_answered L R Q)
  refine am_aload_n (n := 1) d_U_answered_0 rfl rfl ?_
  refine am_iconst (n := 2) d_U_answered_1 ci_0 rfl ?_
  refine am_putI (n := 5) f_U_99 d_U_answered_2 rfl ⟨_, rfl, Or.inl rfl⟩ rfl rfl hq ?_
  generalize eI1 : am_u2 I q 15 0 = I1
  have h := h I1 eI1.symm
  refine am_iload_n (n := 6) d_U_answered_5 rfl rfl ?_
  exact am_iret d_U_answered_6 ⟨p1, I1, rfl, rfl, h⟩
abbrev po_U_square  (Q : Int32 → am_TI → am_TL → am_TR → Prop) : Option Value → am_St → Prop := fun r σ' => ∃ (x : Int32) (I' : am_TI) (L' : am_TL) (R' : am_TR), r = some (.int x) ∧ σ' = (I', L', R', am_SH) ∧ am_Wf R' ∧ Q x I' L' R'
def wp_U_square (I : am_TI) (L : am_TL) (R : am_TR) (q : Nat) (p1 : Int32)  (Q : Int32 → am_TI → am_TL → am_TR → Prop) : Prop := wp_U_within I L R p1 0 (I (q + 2) 7) (fun (r1 : Bool) => ((r1 = false → wp_U_refused I L R q 1 (fun (r5 : Int32) (I5 : am_TI) => Q r5 I5 L R)) ∧ (r1 = true → wp_SquareReader_readText I L R (q + 8) (q + 2) p1 (am_rd R q 12) (fun (r2 : Bool) (I1 : am_TI) (L1 : am_TL) => wp_Tokens_clear I1 L1 R (q + 2) (fun (I2 : am_TI) => ((r2 = false → wp_U_refused I2 L1 R q 9 (fun (r4 : Int32) (I4 : am_TI) => Q r4 I4 L1 R)) ∧ (r2 = true → (∀ R1, R1 = am_u2 R q 11 (some (am_rd R q 12)) → (∀ R2, R2 = am_u2 R1 q 12 (some (am_rd R q 11)) → wp_U_answered I2 L1 R2 q (I2 (am_rd R2 q 11) 11) (fun (r3 : Int32) (I3 : am_TI) => Q r3 I3 L1 R2))))))))))
set_option maxRecDepth 20000 in
theorem cm_U_square {d : Nat} {I : am_TI} {L : am_TL} {R : am_TR}  (hw : am_Wf R)   {q : Nat} {p1 : Int32} {Q : Int32 → am_TI → am_TL → am_TR → Prop} (hd : 6 ≤ d) (hq : am_SH[q]? = some (.inl 11)) (h : wp_U_square I L R q p1  Q) : am_Cm d 0 0 y_U_square b_U_square 4 (some .int) [.ref q, .int p1] (I, L, R, am_SH) (po_U_square Q) := by
  refine am_Cm_of (ini := false) (by decide +kernel) (fun z => by cases z) (by simp [Value.category]) (fun r σ' z => by obtain ⟨x, _, _, _, rfl, -⟩ := z; exact ⟨_, rfl, rfl⟩) ?_
  unfold wp_U_square at h
  show am_Wp (d, "UnseenRing", b_U_square, 4, false) 0 0 0 [some (.ref q), some (.int p1), none, none] [] (I, L, R, am_SH) (po_U_square Q)
  refine am_iload_n (n := 1) d_U_square_0 rfl rfl ?_
  refine am_iconst (n := 2) d_U_square_1 ci_0 rfl ?_
  refine am_aload_n (n := 3) d_U_square_2 rfl rfl ?_
  refine am_getR (x := (q + 2)) (n := 6) f_U_18 d_U_square_3 rfl rfl hq (hw.1 q 11 1 2 hq rfl) ?_
  refine am_getI (n := 9) f_U_171 d_U_square_6 rfl rfl (am_sho (k := 1) (o := 2) hq (by decide) (by decide) (by decide) rfl) ?_
  refine am_callS (kc := 0) (ks := 0) (As := [.int p1, .int 0, .int (I (q + 2) 7)]) (n := 12) d_U_square_9 rfl ce_U_within lk_U_114 st_U_within rfl rfl (Nat.le_of_ble_eq_true rfl) (Or.inl rfl) (cm_U_within (d := d - 1) hw (by omega)  h) (by omega) ?_
  rintro _ _ ⟨r1, rfl, rfl, h⟩
  show am_Wp (d, "UnseenRing", b_U_square, 4, false) 0 0 12 [some (.ref q), some (.int p1), none, none] [.int (am_b r1)] (I, L, R, am_SH) (po_U_square Q)
  refine am_if_ne (y := 0) (tgt := 21) (n := 15) d_U_square_12 rfl rfl (fun c1 => ?_) (fun c1 => ?_)
  · have h := h.2 (am_b_n0 c1)
    refine am_aload_n (n := 22) d_U_square_21 rfl rfl ?_
    refine am_getR (x := (q + 8)) (n := 25) f_U_25 d_U_square_22 rfl rfl hq (hw.1 q 11 2 8 hq rfl) ?_
    refine am_aload_n (n := 26) d_U_square_25 rfl rfl ?_
    refine am_getR (x := (q + 2)) (n := 29) f_U_18 d_U_square_26 rfl rfl hq (hw.1 q 11 1 2 hq rfl) ?_
    refine am_iload_n (n := 30) d_U_square_29 rfl rfl ?_
    refine am_aload_n (n := 31) d_U_square_30 rfl rfl ?_
    refine am_getR (x := (am_rd R q 12)) (n := 34) f_U_85 d_U_square_31 rfl rfl hq (hw.rd (k := 12) hq rfl).1 ?_
    refine am_callV (kc := 0) (ks := 0) (As := [.ref (q + 2), .int p1, .ref (am_rd R q 12)]) (n := 37) d_U_square_34 rfl ce_SquareReader_readText lk_U_174 in_SquareReader_readText rfl rfl (am_sho (k := 2) (o := 8) hq (by decide) (by decide) (by decide) rfl) rfl rfl (Nat.le_of_ble_eq_true rfl) (Or.inl rfl) (cm_SquareReader_readText (d := d - 1) hw (by omega) (am_sho (k := 2) (o := 8) hq (by decide) (by decide) (by decide) rfl) (am_sho (k := 1) (o := 2) hq (by decide) (by decide) (by decide) rfl) (hw.rd (k := 12) hq rfl).2 h) (by omega) ?_
    rintro _ _ ⟨r2, I1, L1, rfl, rfl, h⟩
    show am_Wp (d, "UnseenRing", b_U_square, 4, false) 0 0 37 [some (.ref q), some (.int p1), none, none] [.int (am_b r2)] (I1, L1, R, am_SH) (po_U_square Q)
    refine am_istore_n (ls' := [some (.ref q), some (.int p1), some (.int (am_b r2)), none]) (n := 38) d_U_square_37 (by decide) rfl rfl ?_
    refine am_aload_n (n := 39) d_U_square_38 rfl rfl ?_
    refine am_getR (x := (q + 2)) (n := 42) f_U_18 d_U_square_39 rfl rfl hq (hw.1 q 11 1 2 hq rfl) ?_
    refine am_callV (kc := 0) (ks := 0) (As := []) (n := 45) d_U_square_42 rfl ce_Tokens_clear lk_U_178 in_Tokens_clear rfl rfl (am_sho (k := 1) (o := 2) hq (by decide) (by decide) (by decide) rfl) rfl rfl (Nat.le_of_ble_eq_true rfl) (Or.inl rfl) (cm_Tokens_clear (d := d - 1) hw (by omega) (am_sho (k := 1) (o := 2) hq (by decide) (by decide) (by decide) rfl) h) (by omega) ?_
    rintro _ _ ⟨I2, rfl, rfl, h⟩
    show am_Wp (d, "UnseenRing", b_U_square, 4, false) 0 0 45 [some (.ref q), some (.int p1), some (.int (am_b r2)), none] [] (I2, L1, R, am_SH) (po_U_square Q)
    refine am_iload_n (n := 46) d_U_square_45 rfl rfl ?_
    refine am_if_ne (y := 0) (tgt := 56) (n := 49) d_U_square_46 rfl rfl (fun c2 => ?_) (fun c2 => ?_)
    · have h := h.2 (am_b_n0 c2)
      refine am_aload_n (n := 57) d_U_square_56 rfl rfl ?_
      refine am_getR (x := (am_rd R q 11)) (n := 60) f_U_81 d_U_square_57 rfl rfl hq (hw.rd (k := 11) hq rfl).1 ?_
      refine am_astore_n (ls' := [some (.ref q), some (.int p1), some (.int (am_b r2)), some (.ref (am_rd R q 11))]) (n := 61) d_U_square_60 (by decide) rfl rfl ?_
      refine am_aload_n (n := 62) d_U_square_61 rfl rfl ?_
      refine am_aload_n (n := 63) d_U_square_62 rfl rfl ?_
      refine am_getR (x := (am_rd R q 12)) (n := 66) f_U_85 d_U_square_63 rfl rfl hq (hw.rd (k := 12) hq rfl).1 ?_
      refine am_putR (n := 69) f_U_81 d_U_square_66 rfl ⟨_, rfl, Or.inl rfl⟩ rfl rfl hq ?_
      generalize eR1 : am_u2 R q 11 (some (am_rd R q 12)) = R1
      have h := h R1 eR1.symm
      have hw1 : am_Wf R1 := by rw [← eR1]; exact hw.put hq rfl rfl (hw.rd (k := 12) hq rfl).2
      refine am_aload_n (n := 70) d_U_square_69 rfl rfl ?_
      refine am_aload_n (n := 71) d_U_square_70 rfl rfl ?_
      refine am_putR (n := 74) f_U_85 d_U_square_71 rfl ⟨_, rfl, Or.inl rfl⟩ rfl rfl hq ?_
      generalize eR2 : am_u2 R1 q 12 (some (am_rd R q 11)) = R2
      have h := h R2 eR2.symm
      have hw2 : am_Wf R2 := by rw [← eR2]; exact hw1.put hq rfl rfl (hw.rd (k := 11) hq rfl).2
      refine am_aload_n (n := 75) d_U_square_74 rfl rfl ?_
      refine am_aload_n (n := 76) d_U_square_75 rfl rfl ?_
      refine am_getR (x := (am_rd R2 q 11)) (n := 79) f_U_81 d_U_square_76 rfl rfl hq (hw2.rd (k := 11) hq rfl).1 ?_
      refine am_getI (n := 82) f_U_181 d_U_square_79 rfl rfl (hw2.rd (k := 11) hq rfl).2 ?_
      refine am_callV (kc := 0) (ks := 0) (As := [.int (I2 (am_rd R2 q 11) 11)]) (n := 85) d_U_square_82 rfl ce_U_answered lk_U_184 in_U_answered rfl rfl hq rfl rfl (Nat.le_of_ble_eq_true rfl) (Or.inl rfl) (cm_U_answered (d := d - 1) hw2 (by omega) hq h) (by omega) ?_
      rintro _ _ ⟨r3, I3, rfl, rfl, h⟩
      show am_Wp (d, "UnseenRing", b_U_square, 4, false) 0 0 85 [some (.ref q), some (.int p1), some (.int (am_b r2)), some (.ref (am_rd R q 11))] [.int r3] (I3, L1, R2, am_SH) (po_U_square Q)
      exact am_iret d_U_square_85 ⟨r3, I3, L1, R2, rfl, rfl, hw2, h⟩
    · have h := h.1 (am_b_0 c2)
      refine am_aload_n (n := 50) d_U_square_49 rfl rfl ?_
      refine am_bipush (n := 52) d_U_square_50 cb_9 rfl ?_
      refine am_callV (kc := 0) (ks := 0) (As := [.int 9]) (n := 55) d_U_square_52 rfl ce_U_refused lk_U_133 in_U_refused rfl rfl hq rfl rfl (Nat.le_of_ble_eq_true rfl) (Or.inl rfl) (cm_U_refused (d := d - 1) hw (by omega) hq h) (by omega) ?_
      rintro _ _ ⟨r4, I4, rfl, rfl, h⟩
      show am_Wp (d, "UnseenRing", b_U_square, 4, false) 0 0 55 [some (.ref q), some (.int p1), some (.int (am_b r2)), none] [.int r4] (I4, L1, R, am_SH) (po_U_square Q)
      exact am_iret d_U_square_55 ⟨r4, I4, L1, R, rfl, rfl, hw, h⟩
  · have h := h.1 (am_b_0 c1)
    refine am_aload_n (n := 16) d_U_square_15 rfl rfl ?_
    refine am_iconst (n := 17) d_U_square_16 ci_1 rfl ?_
    refine am_callV (kc := 0) (ks := 0) (As := [.int 1]) (n := 20) d_U_square_17 rfl ce_U_refused lk_U_133 in_U_refused rfl rfl hq rfl rfl (Nat.le_of_ble_eq_true rfl) (Or.inl rfl) (cm_U_refused (d := d - 1) hw (by omega) hq h) (by omega) ?_
    rintro _ _ ⟨r5, I5, rfl, rfl, h⟩
    show am_Wp (d, "UnseenRing", b_U_square, 4, false) 0 0 20 [some (.ref q), some (.int p1), none, none] [.int r5] (I5, L, R, am_SH) (po_U_square Q)
    exact am_iret d_U_square_20 ⟨r5, I5, L, R, rfl, rfl, hw, h⟩
abbrev po_Days_add (L : am_TL) (R : am_TR) (Q : am_TI → Prop) : Option Value → am_St → Prop := fun r σ' => ∃ (I' : am_TI), r = none ∧ σ' = (I', L, R, am_SH) ∧ Q I'
def wp_Days_add (I : am_TI) (L : am_TL) (R : am_TR) (q : Nat) (p1 : Int32)  (Q : am_TI → Prop) : Prop := ((60 ≤ (I q 6) → Q I) ∧ (¬ 60 ≤ (I q 6) → (vp_in (I q 6) 60 ∧ (∀ I1, I1 = am_u2 I (q + 1) (Int32.toNatClampNeg (I q 6)) p1 → (∀ I2, I2 = am_u2 I1 q 6 ((I1 q 6) + 1) → Q I2)))))
set_option maxRecDepth 20000 in
theorem cm_Days_add {d : Nat} {I : am_TI} {L : am_TL} {R : am_TR}  (hw : am_Wf R)   {q : Nat} {p1 : Int32} {Q : am_TI → Prop} (hd : 0 ≤ d) (hq : am_SH[q]? = some (.inl 1)) (h : wp_Days_add I L R q p1  Q) : am_Cm d 0 0 y_Days_add b_Days_add 2 (none) [.ref q, .int p1] (I, L, R, am_SH) (po_Days_add L R Q) := by
  refine am_Cm_of (ini := false) (by decide +kernel) (fun z => by cases z) (by simp [Value.category]) (fun r σ' z => by obtain ⟨_, rfl, -⟩ := z; rfl) ?_
  unfold wp_Days_add at h
  show am_Wp (d, "UnseenRing$Days", b_Days_add, 2, false) 0 0 0 [some (.ref q), some (.int p1)] [] (I, L, R, am_SH) (po_Days_add L R Q)
  refine am_aload_n (n := 1) d_Days_add_0 rfl rfl ?_
  refine am_getI (n := 4) f_Days_29 d_Days_add_1 rfl rfl hq ?_
  refine am_bipush (n := 6) d_Days_add_4 cb_60 rfl ?_
  refine am_icmp_ge (tgt := 29) (n := 9) d_Days_add_6 rfl rfl (fun c1 => ?_) (fun c1 => ?_)
  · have h := h.1 c1
    exact am_vret d_Days_add_29 ⟨I, rfl, rfl, h⟩
  · have h := h.2 c1
    refine am_aload_n (n := 10) d_Days_add_9 rfl rfl ?_
    refine am_getR (x := (q + 1)) (n := 13) f_Days_9 d_Days_add_10 rfl rfl hq (hw.1 q 1 0 1 hq rfl) ?_
    refine am_aload_n (n := 14) d_Days_add_13 rfl rfl ?_
    refine am_getI (n := 17) f_Days_29 d_Days_add_14 rfl rfl hq ?_
    refine am_iload_n (n := 18) d_Days_add_17 rfl rfl ?_
    obtain ⟨g1, h⟩ := h
    refine am_iast2 (n := 19) d_Days_add_18 rfl (am_sho (k := 0) (o := 1) hq (by decide) (by decide) (by decide) rfl) g1 rfl ?_
    generalize eI1 : am_u2 I (q + 1) (Int32.toNatClampNeg (I q 6)) p1 = I1
    have h := h I1 eI1.symm
    refine am_aload_n (n := 20) d_Days_add_19 rfl rfl ?_
    refine am_dup (n := 21) d_Days_add_20 rfl rfl ?_
    refine am_getI (n := 24) f_Days_29 d_Days_add_21 rfl rfl hq ?_
    refine am_iconst (n := 25) d_Days_add_24 ci_1 rfl ?_
    refine am_iadd (n := 26) d_Days_add_25 rfl ?_
    refine am_putI (n := 29) f_Days_29 d_Days_add_26 rfl ⟨_, rfl, Or.inl rfl⟩ rfl rfl hq ?_
    generalize eI2 : am_u2 I1 q 6 ((I1 q 6) + 1) = I2
    have h := h I2 eI2.symm
    exact am_vret d_Days_add_29 ⟨I2, rfl, rfl, h⟩
abbrev po_Days_join (L : am_TL) (R : am_TR) (Q : am_TI → Prop) : Option Value → am_St → Prop := fun r σ' => ∃ (I' : am_TI), r = none ∧ σ' = (I', L, R, am_SH) ∧ Q I'
def wp_Days_join (I : am_TI) (L : am_TL) (R : am_TR) (q : Nat) (p1 : Int32) (p2 : Int32)  (Q : am_TI → Prop) : Prop := (vp_in p1 60 ∧ (∀ I1, I1 = am_u2 I (q + 5) (Int32.toNatClampNeg p1) p2 → (vp_in p2 60 ∧ (∀ I2, I2 = am_u2 I1 (q + 5) (Int32.toNatClampNeg p2) p1 → Q I2))))
set_option maxRecDepth 20000 in
theorem cm_Days_join {d : Nat} {I : am_TI} {L : am_TL} {R : am_TR}  (hw : am_Wf R)   {q : Nat} {p1 : Int32} {p2 : Int32} {Q : am_TI → Prop} (hd : 0 ≤ d) (hq : am_SH[q]? = some (.inl 1)) (h : wp_Days_join I L R q p1 p2  Q) : am_Cm d 0 0 y_Days_join b_Days_join 3 (none) [.ref q, .int p1, .int p2] (I, L, R, am_SH) (po_Days_join L R Q) := by
  refine am_Cm_of (ini := false) (by decide +kernel) (fun z => by cases z) (by simp [Value.category]) (fun r σ' z => by obtain ⟨_, rfl, -⟩ := z; rfl) ?_
  unfold wp_Days_join at h
  show am_Wp (d, "UnseenRing$Days", b_Days_join, 3, false) 0 0 0 [some (.ref q), some (.int p1), some (.int p2)] [] (I, L, R, am_SH) (po_Days_join L R Q)
  refine am_aload_n (n := 1) d_Days_join_0 rfl rfl ?_
  refine am_getR (x := (q + 5)) (n := 4) f_Days_22 d_Days_join_1 rfl rfl hq (hw.1 q 1 4 5 hq rfl) ?_
  refine am_iload_n (n := 5) d_Days_join_4 rfl rfl ?_
  refine am_iload_n (n := 6) d_Days_join_5 rfl rfl ?_
  obtain ⟨g1, h⟩ := h
  refine am_iast2 (n := 7) d_Days_join_6 rfl (am_sho (k := 4) (o := 5) hq (by decide) (by decide) (by decide) rfl) g1 rfl ?_
  generalize eI1 : am_u2 I (q + 5) (Int32.toNatClampNeg p1) p2 = I1
  have h := h I1 eI1.symm
  refine am_aload_n (n := 8) d_Days_join_7 rfl rfl ?_
  refine am_getR (x := (q + 5)) (n := 11) f_Days_22 d_Days_join_8 rfl rfl hq (hw.1 q 1 4 5 hq rfl) ?_
  refine am_iload_n (n := 12) d_Days_join_11 rfl rfl ?_
  refine am_iload_n (n := 13) d_Days_join_12 rfl rfl ?_
  obtain ⟨g2, h⟩ := h
  refine am_iast2 (n := 14) d_Days_join_13 rfl (am_sho (k := 4) (o := 5) hq (by decide) (by decide) (by decide) rfl) g2 rfl ?_
  generalize eI2 : am_u2 I1 (q + 5) (Int32.toNatClampNeg p2) p1 = I2
  have h := h I2 eI2.symm
  exact am_vret d_Days_join_14 ⟨I2, rfl, rfl, h⟩
abbrev po_DaysReader_readEnd (L : am_TL) (R : am_TR) (Q : Bool → am_TI → Prop) : Option Value → am_St → Prop := fun r σ' => ∃ (x : Bool) (I' : am_TI), r = some (.int (am_b x)) ∧ σ' = (I', L, R, am_SH) ∧ Q x I'
def wp_DaysReader_readEnd (I : am_TI) (L : am_TL) (R : am_TR) (q : Nat) (p1 : Nat) (p2 : Nat)  (Q : Bool → am_TI → Prop) : Prop := ((0 < (I q 1) → wp_Tokens_advance I L R p1 (fun (I1 : am_TI) => (∀ I2, I2 = am_u2 I1 q 1 ((I1 q 1) - 1) → wp_Days_add I2 L R p2 23 (fun (I3 : am_TI) => (vp_in (I3 q 1) 3 ∧ wp_Days_join I3 L R p2 (I3 (q + 1) (Int32.toNatClampNeg (I3 q 1))) ((I3 p2 6) - 1) (fun (I4 : am_TI) => wp_Tokens_takeSemicolon I4 L R p1 (fun (r1 : Bool) (I5 : am_TI) => Q r1 I5))))))) ∧ (¬ 0 < (I q 1) → wp_Tokens_refuse I L R p1 2 (fun (r2 : Bool) (I6 : am_TI) => Q r2 I6)))
set_option maxRecDepth 20000 in
theorem cm_DaysReader_readEnd {d : Nat} {I : am_TI} {L : am_TL} {R : am_TR}  (hw : am_Wf R)   {q : Nat} {p1 : Nat} {p2 : Nat} {Q : Bool → am_TI → Prop} (hd : 2 ≤ d) (hq : am_SH[q]? = some (.inl 2)) (hp1 : am_SH[p1]? = some (.inl 9)) (hp2 : am_SH[p2]? = some (.inl 1)) (h : wp_DaysReader_readEnd I L R q p1 p2  Q) : am_Cm d 0 0 y_DaysReader_readEnd b_DaysReader_readEnd 3 (some .boolean) [.ref q, .ref p1, .ref p2] (I, L, R, am_SH) (po_DaysReader_readEnd L R Q) := by
  refine am_Cm_of (ini := false) (by decide +kernel) (fun z => by cases z) (by simp [Value.category]) (fun r σ' z => by obtain ⟨x, _, rfl, -⟩ := z; exact ⟨_, rfl, am_b_nar x⟩) ?_
  unfold wp_DaysReader_readEnd at h
  show am_Wp (d, "UnseenRing$DaysReader", b_DaysReader_readEnd, 3, false) 0 0 0 [some (.ref q), some (.ref p1), some (.ref p2)] [] (I, L, R, am_SH) (po_DaysReader_readEnd L R Q)
  refine am_aload_n (n := 1) d_DaysReader_readEnd_0 rfl rfl ?_
  refine am_getI (n := 4) f_DaysReader_15 d_DaysReader_readEnd_1 rfl rfl hq ?_
  refine am_if_gt (y := 0) (tgt := 13) (n := 7) d_DaysReader_readEnd_4 rfl rfl (fun c1 => ?_) (fun c1 => ?_)
  · have h := h.1 c1
    refine am_aload_n (n := 14) d_DaysReader_readEnd_13 rfl rfl ?_
    refine am_callV (kc := 0) (ks := 0) (As := []) (n := 17) d_DaysReader_readEnd_14 rfl ce_Tokens_advance lk_DaysReader_59 in_Tokens_advance rfl rfl hp1 rfl rfl (Nat.le_of_ble_eq_true rfl) (Or.inl rfl) (cm_Tokens_advance (d := d - 1) hw (by omega) hp1 h) (by omega) ?_
    rintro _ _ ⟨I1, rfl, rfl, h⟩
    show am_Wp (d, "UnseenRing$DaysReader", b_DaysReader_readEnd, 3, false) 0 0 17 [some (.ref q), some (.ref p1), some (.ref p2)] [] (I1, L, R, am_SH) (po_DaysReader_readEnd L R Q)
    refine am_aload_n (n := 18) d_DaysReader_readEnd_17 rfl rfl ?_
    refine am_dup (n := 19) d_DaysReader_readEnd_18 rfl rfl ?_
    refine am_getI (n := 22) f_DaysReader_15 d_DaysReader_readEnd_19 rfl rfl hq ?_
    refine am_iconst (n := 23) d_DaysReader_readEnd_22 ci_1 rfl ?_
    refine am_isub (n := 24) d_DaysReader_readEnd_23 rfl ?_
    refine am_putI (n := 27) f_DaysReader_15 d_DaysReader_readEnd_24 rfl ⟨_, rfl, Or.inl rfl⟩ rfl rfl hq ?_
    generalize eI2 : am_u2 I1 q 1 ((I1 q 1) - 1) = I2
    have h := h I2 eI2.symm
    refine am_aload_n (n := 28) d_DaysReader_readEnd_27 rfl rfl ?_
    refine am_bipush (n := 30) d_DaysReader_readEnd_28 cb_23 rfl ?_
    refine am_callV (kc := 0) (ks := 0) (As := [.int 23]) (n := 33) d_DaysReader_readEnd_30 rfl ce_Days_add lk_DaysReader_62 in_Days_add rfl rfl hp2 rfl rfl (Nat.le_of_ble_eq_true rfl) (Or.inl rfl) (cm_Days_add (d := d - 1) hw (by omega) hp2 h) (by omega) ?_
    rintro _ _ ⟨I3, rfl, rfl, h⟩
    show am_Wp (d, "UnseenRing$DaysReader", b_DaysReader_readEnd, 3, false) 0 0 33 [some (.ref q), some (.ref p1), some (.ref p2)] [] (I3, L, R, am_SH) (po_DaysReader_readEnd L R Q)
    refine am_aload_n (n := 34) d_DaysReader_readEnd_33 rfl rfl ?_
    refine am_aload_n (n := 35) d_DaysReader_readEnd_34 rfl rfl ?_
    refine am_getR (x := (q + 1)) (n := 38) f_DaysReader_11 d_DaysReader_readEnd_35 rfl rfl hq (hw.1 q 2 0 1 hq rfl) ?_
    refine am_aload_n (n := 39) d_DaysReader_readEnd_38 rfl rfl ?_
    refine am_getI (n := 42) f_DaysReader_15 d_DaysReader_readEnd_39 rfl rfl hq ?_
    obtain ⟨g1, h⟩ := h
    refine am_iald2 (n := 43) d_DaysReader_readEnd_42 rfl (am_sho (k := 0) (o := 1) hq (by decide) (by decide) (by decide) rfl) g1 rfl ?_
    refine am_aload_n (n := 44) d_DaysReader_readEnd_43 rfl rfl ?_
    refine am_getI (n := 47) f_DaysReader_65 d_DaysReader_readEnd_44 rfl rfl hp2 ?_
    refine am_iconst (n := 48) d_DaysReader_readEnd_47 ci_1 rfl ?_
    refine am_isub (n := 49) d_DaysReader_readEnd_48 rfl ?_
    refine am_callV (kc := 0) (ks := 0) (As := [.int (I3 (q + 1) (Int32.toNatClampNeg (I3 q 1))), .int ((I3 p2 6) - 1)]) (n := 52) d_DaysReader_readEnd_49 rfl ce_Days_join lk_DaysReader_79 in_Days_join rfl rfl hp2 rfl rfl (Nat.le_of_ble_eq_true rfl) (Or.inl rfl) (cm_Days_join (d := d - 1) hw (by omega) hp2 h) (by omega) ?_
    rintro _ _ ⟨I4, rfl, rfl, h⟩
    show am_Wp (d, "UnseenRing$DaysReader", b_DaysReader_readEnd, 3, false) 0 0 52 [some (.ref q), some (.ref p1), some (.ref p2)] [] (I4, L, R, am_SH) (po_DaysReader_readEnd L R Q)
    refine am_aload_n (n := 53) d_DaysReader_readEnd_52 rfl rfl ?_
    refine am_callV (kc := 0) (ks := 0) (As := []) (n := 56) d_DaysReader_readEnd_53 rfl ce_Tokens_takeSemicolon lk_DaysReader_75 in_Tokens_takeSemicolon rfl rfl hp1 rfl rfl (Nat.le_of_ble_eq_true rfl) (Or.inl rfl) (cm_Tokens_takeSemicolon (d := d - 1) hw (by omega) hp1 h) (by omega) ?_
    rintro _ _ ⟨r1, I5, rfl, rfl, h⟩
    show am_Wp (d, "UnseenRing$DaysReader", b_DaysReader_readEnd, 3, false) 0 0 56 [some (.ref q), some (.ref p1), some (.ref p2)] [.int (am_b r1)] (I5, L, R, am_SH) (po_DaysReader_readEnd L R Q)
    exact am_iret d_DaysReader_readEnd_56 ⟨r1, I5, rfl, rfl, h⟩
  · have h := h.2 c1
    refine am_aload_n (n := 8) d_DaysReader_readEnd_7 rfl rfl ?_
    refine am_iconst (n := 9) d_DaysReader_readEnd_8 ci_2 rfl ?_
    refine am_callV (kc := 0) (ks := 0) (As := [.int 2]) (n := 12) d_DaysReader_readEnd_9 rfl ce_Tokens_refuse lk_DaysReader_37 in_Tokens_refuse rfl rfl hp1 rfl rfl (Nat.le_of_ble_eq_true rfl) (Or.inl rfl) (cm_Tokens_refuse (d := d - 1) hw (by omega) hp1 h) (by omega) ?_
    rintro _ _ ⟨r2, I6, rfl, rfl, h⟩
    show am_Wp (d, "UnseenRing$DaysReader", b_DaysReader_readEnd, 3, false) 0 0 12 [some (.ref q), some (.ref p1), some (.ref p2)] [.int (am_b r2)] (I6, L, R, am_SH) (po_DaysReader_readEnd L R Q)
    exact am_iret d_DaysReader_readEnd_12 ⟨r2, I6, rfl, rfl, h⟩
abbrev po_DaysReader_readFirst (L : am_TL) (R : am_TR) (Q : Bool → am_TI → Prop) : Option Value → am_St → Prop := fun r σ' => ∃ (x : Bool) (I' : am_TI), r = some (.int (am_b x)) ∧ σ' = (I', L, R, am_SH) ∧ Q x I'
def wp_DaysReader_readFirst (I : am_TI) (L : am_TL) (R : am_TR) (q : Nat) (p1 : Nat) (p2 : Int32) (p3 : Int32) (p4 : Nat)  (Q : Bool → am_TI → Prop) : Prop := wp_Tokens_takeNumber I L R p1 p2 p3 (fun (r1 : Int32) (I1 : am_TI) => (vp_in ((I1 p4 6) - 1) 60 ∧ (∀ I2, I2 = am_u2 I1 (p4 + 2) (Int32.toNatClampNeg ((I1 p4 6) - 1)) r1 → ((r1 = (-1) → Q false I2) ∧ (¬ r1 = (-1) → Q true I2)))))
set_option maxRecDepth 20000 in
theorem cm_DaysReader_readFirst {d : Nat} {I : am_TI} {L : am_TL} {R : am_TR}  (hw : am_Wf R)   {q : Nat} {p1 : Nat} {p2 : Int32} {p3 : Int32} {p4 : Nat} {Q : Bool → am_TI → Prop} (hd : 2 ≤ d) (hq : am_SH[q]? = some (.inl 2)) (hp1 : am_SH[p1]? = some (.inl 9)) (hp4 : am_SH[p4]? = some (.inl 1)) (h : wp_DaysReader_readFirst I L R q p1 p2 p3 p4  Q) : am_Cm d 0 0 y_DaysReader_readFirst b_DaysReader_readFirst 6 (some .boolean) [.ref q, .ref p1, .int p2, .int p3, .ref p4] (I, L, R, am_SH) (po_DaysReader_readFirst L R Q) := by
  refine am_Cm_of (ini := false) (by decide +kernel) (fun z => by cases z) (by simp [Value.category]) (fun r σ' z => by obtain ⟨x, _, rfl, -⟩ := z; exact ⟨_, rfl, am_b_nar x⟩) ?_
  unfold wp_DaysReader_readFirst at h
  show am_Wp (d, "UnseenRing$DaysReader", b_DaysReader_readFirst, 6, false) 0 0 0 [some (.ref q), some (.ref p1), some (.int p2), some (.int p3), some (.ref p4), none] [] (I, L, R, am_SH) (po_DaysReader_readFirst L R Q)
  refine am_aload_n (n := 1) d_DaysReader_readFirst_0 rfl rfl ?_
  refine am_iload_n (n := 2) d_DaysReader_readFirst_1 rfl rfl ?_
  refine am_iload_n (n := 3) d_DaysReader_readFirst_2 rfl rfl ?_
  refine am_callV (kc := 0) (ks := 0) (As := [.int p2, .int p3]) (n := 6) d_DaysReader_readFirst_3 rfl ce_Tokens_takeNumber lk_DaysReader_121 in_Tokens_takeNumber rfl rfl hp1 rfl rfl (Nat.le_of_ble_eq_true rfl) (Or.inl rfl) (cm_Tokens_takeNumber (d := d - 1) hw (by omega) hp1 h) (by omega) ?_
  rintro _ _ ⟨r1, I1, rfl, rfl, h⟩
  show am_Wp (d, "UnseenRing$DaysReader", b_DaysReader_readFirst, 6, false) 0 0 6 [some (.ref q), some (.ref p1), some (.int p2), some (.int p3), some (.ref p4), none] [.int r1] (I1, L, R, am_SH) (po_DaysReader_readFirst L R Q)
  refine am_istore (ls' := [some (.ref q), some (.ref p1), some (.int p2), some (.int p3), some (.ref p4), some (.int r1)]) (n := 8) d_DaysReader_readFirst_6 (by decide) rfl rfl ?_
  refine am_aload (n := 10) d_DaysReader_readFirst_8 rfl rfl ?_
  refine am_getR (x := (p4 + 2)) (n := 13) f_DaysReader_110 d_DaysReader_readFirst_10 rfl rfl hp4 (hw.1 p4 1 1 2 hp4 rfl) ?_
  refine am_aload (n := 15) d_DaysReader_readFirst_13 rfl rfl ?_
  refine am_getI (n := 18) f_DaysReader_65 d_DaysReader_readFirst_15 rfl rfl hp4 ?_
  refine am_iconst (n := 19) d_DaysReader_readFirst_18 ci_1 rfl ?_
  refine am_isub (n := 20) d_DaysReader_readFirst_19 rfl ?_
  refine am_iload (n := 22) d_DaysReader_readFirst_20 rfl rfl ?_
  obtain ⟨g1, h⟩ := h
  refine am_iast2 (n := 23) d_DaysReader_readFirst_22 rfl (am_sho (k := 1) (o := 2) hp4 (by decide) (by decide) (by decide) rfl) g1 rfl ?_
  generalize eI2 : am_u2 I1 (p4 + 2) (Int32.toNatClampNeg ((I1 p4 6) - 1)) r1 = I2
  have h := h I2 eI2.symm
  refine am_iload (n := 25) d_DaysReader_readFirst_23 rfl rfl ?_
  refine am_iconst (n := 26) d_DaysReader_readFirst_25 ci_m1 rfl ?_
  refine am_icmp_eq (tgt := 33) (n := 29) d_DaysReader_readFirst_26 rfl rfl (fun c1 => ?_) (fun c1 => ?_)
  · have h := h.1 c1
    refine am_iconst (n := 34) d_DaysReader_readFirst_33 ci_0 rfl ?_
    exact am_iret d_DaysReader_readFirst_34 ⟨false, I2, rfl, rfl, h⟩
  · have h := h.2 c1
    refine am_iconst (n := 30) d_DaysReader_readFirst_29 ci_1 rfl ?_
    refine am_goto (tgt := 34) d_DaysReader_readFirst_30 rfl ?_
    exact am_iret d_DaysReader_readFirst_34 ⟨true, I2, rfl, rfl, h⟩
abbrev po_DaysReader_readSecond (L : am_TL) (R : am_TR) (Q : Bool → am_TI → Prop) : Option Value → am_St → Prop := fun r σ' => ∃ (x : Bool) (I' : am_TI), r = some (.int (am_b x)) ∧ σ' = (I', L, R, am_SH) ∧ Q x I'
def wp_DaysReader_readSecond (I : am_TI) (L : am_TL) (R : am_TR) (q : Nat) (p1 : Nat) (p2 : Int32) (p3 : Int32) (p4 : Nat)  (Q : Bool → am_TI → Prop) : Prop := wp_Tokens_takeNumber I L R p1 p2 p3 (fun (r1 : Int32) (I1 : am_TI) => (vp_in ((I1 p4 6) - 1) 60 ∧ (∀ I2, I2 = am_u2 I1 (p4 + 3) (Int32.toNatClampNeg ((I1 p4 6) - 1)) r1 → ((r1 = (-1) → Q false I2) ∧ (¬ r1 = (-1) → Q true I2)))))
set_option maxRecDepth 20000 in
theorem cm_DaysReader_readSecond {d : Nat} {I : am_TI} {L : am_TL} {R : am_TR}  (hw : am_Wf R)   {q : Nat} {p1 : Nat} {p2 : Int32} {p3 : Int32} {p4 : Nat} {Q : Bool → am_TI → Prop} (hd : 2 ≤ d) (hq : am_SH[q]? = some (.inl 2)) (hp1 : am_SH[p1]? = some (.inl 9)) (hp4 : am_SH[p4]? = some (.inl 1)) (h : wp_DaysReader_readSecond I L R q p1 p2 p3 p4  Q) : am_Cm d 0 0 y_DaysReader_readSecond b_DaysReader_readSecond 6 (some .boolean) [.ref q, .ref p1, .int p2, .int p3, .ref p4] (I, L, R, am_SH) (po_DaysReader_readSecond L R Q) := by
  refine am_Cm_of (ini := false) (by decide +kernel) (fun z => by cases z) (by simp [Value.category]) (fun r σ' z => by obtain ⟨x, _, rfl, -⟩ := z; exact ⟨_, rfl, am_b_nar x⟩) ?_
  unfold wp_DaysReader_readSecond at h
  show am_Wp (d, "UnseenRing$DaysReader", b_DaysReader_readSecond, 6, false) 0 0 0 [some (.ref q), some (.ref p1), some (.int p2), some (.int p3), some (.ref p4), none] [] (I, L, R, am_SH) (po_DaysReader_readSecond L R Q)
  refine am_aload_n (n := 1) d_DaysReader_readSecond_0 rfl rfl ?_
  refine am_iload_n (n := 2) d_DaysReader_readSecond_1 rfl rfl ?_
  refine am_iload_n (n := 3) d_DaysReader_readSecond_2 rfl rfl ?_
  refine am_callV (kc := 0) (ks := 0) (As := [.int p2, .int p3]) (n := 6) d_DaysReader_readSecond_3 rfl ce_Tokens_takeNumber lk_DaysReader_121 in_Tokens_takeNumber rfl rfl hp1 rfl rfl (Nat.le_of_ble_eq_true rfl) (Or.inl rfl) (cm_Tokens_takeNumber (d := d - 1) hw (by omega) hp1 h) (by omega) ?_
  rintro _ _ ⟨r1, I1, rfl, rfl, h⟩
  show am_Wp (d, "UnseenRing$DaysReader", b_DaysReader_readSecond, 6, false) 0 0 6 [some (.ref q), some (.ref p1), some (.int p2), some (.int p3), some (.ref p4), none] [.int r1] (I1, L, R, am_SH) (po_DaysReader_readSecond L R Q)
  refine am_istore (ls' := [some (.ref q), some (.ref p1), some (.int p2), some (.int p3), some (.ref p4), some (.int r1)]) (n := 8) d_DaysReader_readSecond_6 (by decide) rfl rfl ?_
  refine am_aload (n := 10) d_DaysReader_readSecond_8 rfl rfl ?_
  refine am_getR (x := (p4 + 3)) (n := 13) f_DaysReader_125 d_DaysReader_readSecond_10 rfl rfl hp4 (hw.1 p4 1 2 3 hp4 rfl) ?_
  refine am_aload (n := 15) d_DaysReader_readSecond_13 rfl rfl ?_
  refine am_getI (n := 18) f_DaysReader_65 d_DaysReader_readSecond_15 rfl rfl hp4 ?_
  refine am_iconst (n := 19) d_DaysReader_readSecond_18 ci_1 rfl ?_
  refine am_isub (n := 20) d_DaysReader_readSecond_19 rfl ?_
  refine am_iload (n := 22) d_DaysReader_readSecond_20 rfl rfl ?_
  obtain ⟨g1, h⟩ := h
  refine am_iast2 (n := 23) d_DaysReader_readSecond_22 rfl (am_sho (k := 2) (o := 3) hp4 (by decide) (by decide) (by decide) rfl) g1 rfl ?_
  generalize eI2 : am_u2 I1 (p4 + 3) (Int32.toNatClampNeg ((I1 p4 6) - 1)) r1 = I2
  have h := h I2 eI2.symm
  refine am_iload (n := 25) d_DaysReader_readSecond_23 rfl rfl ?_
  refine am_iconst (n := 26) d_DaysReader_readSecond_25 ci_m1 rfl ?_
  refine am_icmp_eq (tgt := 33) (n := 29) d_DaysReader_readSecond_26 rfl rfl (fun c1 => ?_) (fun c1 => ?_)
  · have h := h.1 c1
    refine am_iconst (n := 34) d_DaysReader_readSecond_33 ci_0 rfl ?_
    exact am_iret d_DaysReader_readSecond_34 ⟨false, I2, rfl, rfl, h⟩
  · have h := h.2 c1
    refine am_iconst (n := 30) d_DaysReader_readSecond_29 ci_1 rfl ?_
    refine am_goto (tgt := 34) d_DaysReader_readSecond_30 rfl ?_
    exact am_iret d_DaysReader_readSecond_34 ⟨true, I2, rfl, rfl, h⟩
abbrev po_DaysReader_readTune (L : am_TL) (R : am_TR) (Q : Bool → am_TI → Prop) : Option Value → am_St → Prop := fun r σ' => ∃ (x : Bool) (I' : am_TI), r = some (.int (am_b x)) ∧ σ' = (I', L, R, am_SH) ∧ Q x I'
def wp_DaysReader_readTune (I : am_TI) (L : am_TL) (R : am_TR) (q : Nat) (p1 : Nat) (p2 : Nat) (p3 : Nat)  (Q : Bool → am_TI → Prop) : Prop := wp_Tokens_nameHere I L R p1 (fun (r1 : Int64) (I1 : am_TI) => ((r1 = 0 → Q false I1) ∧ (¬ r1 = 0 → wp_Square_tuneNamed I1 L R p2 r1 (fun (r2 : Int32) => ((r2 = (-1) → wp_Tokens_refuse I1 L R p1 3 (fun (r3 : Bool) (I4 : am_TI) => Q r3 I4)) ∧ (¬ r2 = (-1) → (vp_in ((I1 p3 6) - 1) 60 ∧ (∀ I2, I2 = am_u2 I1 (p3 + 2) (Int32.toNatClampNeg ((I1 p3 6) - 1)) r2 → wp_Tokens_advance I2 L R p1 (fun (I3 : am_TI) => Q true I3)))))))))
set_option maxRecDepth 20000 in
theorem cm_DaysReader_readTune {d : Nat} {I : am_TI} {L : am_TL} {R : am_TR}  (hw : am_Wf R)   {q : Nat} {p1 : Nat} {p2 : Nat} {p3 : Nat} {Q : Bool → am_TI → Prop} (hd : 2 ≤ d) (hq : am_SH[q]? = some (.inl 2)) (hp1 : am_SH[p1]? = some (.inl 9)) (hp2 : am_SH[p2]? = some (.inl 7)) (hp3 : am_SH[p3]? = some (.inl 1)) (h : wp_DaysReader_readTune I L R q p1 p2 p3  Q) : am_Cm d 0 0 y_DaysReader_readTune b_DaysReader_readTune 7 (some .boolean) [.ref q, .ref p1, .ref p2, .ref p3] (I, L, R, am_SH) (po_DaysReader_readTune L R Q) := by
  refine am_Cm_of (ini := false) (by decide +kernel) (fun z => by cases z) (by simp [Value.category]) (fun r σ' z => by obtain ⟨x, _, rfl, -⟩ := z; exact ⟨_, rfl, am_b_nar x⟩) ?_
  unfold wp_DaysReader_readTune at h
  show am_Wp (d, "UnseenRing$DaysReader", b_DaysReader_readTune, 7, false) 0 0 0 [some (.ref q), some (.ref p1), some (.ref p2), some (.ref p3), none, none, none] [] (I, L, R, am_SH) (po_DaysReader_readTune L R Q)
  refine am_aload_n (n := 1) d_DaysReader_readTune_0 rfl rfl ?_
  refine am_callV (kc := 0) (ks := 0) (As := []) (n := 4) d_DaysReader_readTune_1 rfl ce_Tokens_nameHere lk_DaysReader_102 in_Tokens_nameHere rfl rfl hp1 rfl rfl (Nat.le_of_ble_eq_true rfl) (Or.inl rfl) (cm_Tokens_nameHere (d := d - 1) hw (by omega) hp1 h) (by omega) ?_
  rintro _ _ ⟨r1, I1, rfl, rfl, h⟩
  show am_Wp (d, "UnseenRing$DaysReader", b_DaysReader_readTune, 7, false) 0 0 4 [some (.ref q), some (.ref p1), some (.ref p2), some (.ref p3), none, none, none] [.long r1] (I1, L, R, am_SH) (po_DaysReader_readTune L R Q)
  refine am_lstore (ls' := [some (.ref q), some (.ref p1), some (.ref p2), some (.ref p3), some (.long r1), none, none]) (n := 6) d_DaysReader_readTune_4 (by decide) rfl rfl ?_
  refine am_lload (n := 8) d_DaysReader_readTune_6 rfl rfl ?_
  refine am_lconst (v := 0) (n := 9) d_DaysReader_readTune_8 rfl rfl ?_
  refine am_lcmp (n := 10) d_DaysReader_readTune_9 rfl ?_
  refine am_if_ne (y := 0) (tgt := 15) (n := 13) d_DaysReader_readTune_10 rfl rfl (fun c1 => ?_) (fun c1 => ?_)
  · have h := h.2 (fun z => c1 (am_cmp_eq.mpr z))
    refine am_aload_n (n := 16) d_DaysReader_readTune_15 rfl rfl ?_
    refine am_lload (n := 18) d_DaysReader_readTune_16 rfl rfl ?_
    refine am_callV (kc := 0) (ks := 0) (As := [.long r1]) (n := 21) d_DaysReader_readTune_18 rfl ce_Square_tuneNamed lk_DaysReader_106 in_Square_tuneNamed rfl rfl hp2 rfl rfl (Nat.le_of_ble_eq_true rfl) (Or.inl rfl) (cm_Square_tuneNamed (d := d - 1) hw (by omega) hp2 h) (by omega) ?_
    rintro _ _ ⟨r2, rfl, rfl, h⟩
    show am_Wp (d, "UnseenRing$DaysReader", b_DaysReader_readTune, 7, false) 0 0 21 [some (.ref q), some (.ref p1), some (.ref p2), some (.ref p3), some (.long r1), none, none] [.int r2] (I1, L, R, am_SH) (po_DaysReader_readTune L R Q)
    refine am_istore (ls' := [some (.ref q), some (.ref p1), some (.ref p2), some (.ref p3), some (.long r1), none, some (.int r2)]) (n := 23) d_DaysReader_readTune_21 (by decide) rfl rfl ?_
    refine am_iload (n := 25) d_DaysReader_readTune_23 rfl rfl ?_
    refine am_iconst (n := 26) d_DaysReader_readTune_25 ci_m1 rfl ?_
    refine am_icmp_ne (tgt := 35) (n := 29) d_DaysReader_readTune_26 rfl rfl (fun c2 => ?_) (fun c2 => ?_)
    · have h := h.2 c2
      refine am_aload_n (n := 36) d_DaysReader_readTune_35 rfl rfl ?_
      refine am_getR (x := (p3 + 2)) (n := 39) f_DaysReader_110 d_DaysReader_readTune_36 rfl rfl hp3 (hw.1 p3 1 1 2 hp3 rfl) ?_
      refine am_aload_n (n := 40) d_DaysReader_readTune_39 rfl rfl ?_
      refine am_getI (n := 43) f_DaysReader_65 d_DaysReader_readTune_40 rfl rfl hp3 ?_
      refine am_iconst (n := 44) d_DaysReader_readTune_43 ci_1 rfl ?_
      refine am_isub (n := 45) d_DaysReader_readTune_44 rfl ?_
      refine am_iload (n := 47) d_DaysReader_readTune_45 rfl rfl ?_
      obtain ⟨g1, h⟩ := h
      refine am_iast2 (n := 48) d_DaysReader_readTune_47 rfl (am_sho (k := 1) (o := 2) hp3 (by decide) (by decide) (by decide) rfl) g1 rfl ?_
      generalize eI2 : am_u2 I1 (p3 + 2) (Int32.toNatClampNeg ((I1 p3 6) - 1)) r2 = I2
      have h := h I2 eI2.symm
      refine am_aload_n (n := 49) d_DaysReader_readTune_48 rfl rfl ?_
      refine am_callV (kc := 0) (ks := 0) (As := []) (n := 52) d_DaysReader_readTune_49 rfl ce_Tokens_advance lk_DaysReader_59 in_Tokens_advance rfl rfl hp1 rfl rfl (Nat.le_of_ble_eq_true rfl) (Or.inl rfl) (cm_Tokens_advance (d := d - 1) hw (by omega) hp1 h) (by omega) ?_
      rintro _ _ ⟨I3, rfl, rfl, h⟩
      show am_Wp (d, "UnseenRing$DaysReader", b_DaysReader_readTune, 7, false) 0 0 52 [some (.ref q), some (.ref p1), some (.ref p2), some (.ref p3), some (.long r1), none, some (.int r2)] [] (I3, L, R, am_SH) (po_DaysReader_readTune L R Q)
      refine am_iconst (n := 53) d_DaysReader_readTune_52 ci_1 rfl ?_
      exact am_iret d_DaysReader_readTune_53 ⟨true, I3, rfl, rfl, h⟩
    · have h := h.1 c2
      refine am_aload_n (n := 30) d_DaysReader_readTune_29 rfl rfl ?_
      refine am_iconst (n := 31) d_DaysReader_readTune_30 ci_3 rfl ?_
      refine am_callV (kc := 0) (ks := 0) (As := [.int 3]) (n := 34) d_DaysReader_readTune_31 rfl ce_Tokens_refuse lk_DaysReader_37 in_Tokens_refuse rfl rfl hp1 rfl rfl (Nat.le_of_ble_eq_true rfl) (Or.inl rfl) (cm_Tokens_refuse (d := d - 1) hw (by omega) hp1 h) (by omega) ?_
      rintro _ _ ⟨r3, I4, rfl, rfl, h⟩
      show am_Wp (d, "UnseenRing$DaysReader", b_DaysReader_readTune, 7, false) 0 0 34 [some (.ref q), some (.ref p1), some (.ref p2), some (.ref p3), some (.long r1), none, some (.int r2)] [.int (am_b r3)] (I4, L, R, am_SH) (po_DaysReader_readTune L R Q)
      exact am_iret d_DaysReader_readTune_34 ⟨r3, I4, rfl, rfl, h⟩
  · have h := h.1 (am_cmp_eq.mp c1)
    refine am_iconst (n := 14) d_DaysReader_readTune_13 ci_0 rfl ?_
    exact am_iret d_DaysReader_readTune_14 ⟨false, I1, rfl, rfl, h⟩
abbrev po_DaysReader_readRest (L : am_TL) (R : am_TR) (Q : Bool → am_TI → Prop) : Option Value → am_St → Prop := fun r σ' => ∃ (x : Bool) (I' : am_TI), r = some (.int (am_b x)) ∧ σ' = (I', L, R, am_SH) ∧ Q x I'
def wp_DaysReader_readRest (I : am_TI) (L : am_TL) (R : am_TR) (q : Nat) (p1 : Int32) (p2 : Nat) (p3 : Nat) (p4 : Nat)  (Q : Bool → am_TI → Prop) : Prop := ((p1 = 10 → wp_DaysReader_readTune I L R q p2 p3 p4 (fun (r1 : Bool) (I1 : am_TI) => Q r1 I1)) ∧ (p1 = 11 → wp_Square_cells I L R p3 (fun (r2 : Int32) => wp_DaysReader_readFirst I L R q p2 0 (r2 - 1) p4 (fun (r3 : Bool) (I2 : am_TI) => Q r3 I2))) ∧ (p1 = 12 → wp_Square_cells I L R p3 (fun (r4 : Int32) => wp_DaysReader_readFirst I L R q p2 0 (r4 - 1) p4 (fun (r5 : Bool) (I3 : am_TI) => Q r5 I3))) ∧ (p1 = 13 → Q true I) ∧ (p1 = 14 → wp_DaysReader_readFirst I L R q p2 0 ((I p3 11) - 1) p4 (fun (r6 : Bool) (I4 : am_TI) => ((r6 = false → Q false I4) ∧ (r6 = true → wp_Square_cells I4 L R p3 (fun (r7 : Int32) => wp_DaysReader_readSecond I4 L R q p2 0 (r7 - 1) p4 (fun (r8 : Bool) (I5 : am_TI) => ((r8 = false → Q false I5) ∧ (r8 = true → Q true I5)))))))) ∧ (p1 = 15 → Q true I) ∧ (p1 = 16 → Q true I) ∧ (p1 = 17 → Q true I) ∧ (p1 = 18 → Q true I) ∧ (p1 = 19 → Q true I) ∧ (p1 = 20 → Q true I) ∧ (p1 = 21 → Q true I) ∧ (p1 = 22 → wp_DaysReader_readFirst I L R q p2 1 99 p4 (fun (r9 : Bool) (I6 : am_TI) => Q r9 I6)) ∧ (¬ p1 = 10 → ¬ p1 = 11 → ¬ p1 = 12 → ¬ p1 = 13 → ¬ p1 = 14 → ¬ p1 = 15 → ¬ p1 = 16 → ¬ p1 = 17 → ¬ p1 = 18 → ¬ p1 = 19 → ¬ p1 = 20 → ¬ p1 = 21 → ¬ p1 = 22 → Q true I))
set_option maxRecDepth 20000 in
theorem cm_DaysReader_readRest {d : Nat} {I : am_TI} {L : am_TL} {R : am_TR}  (hw : am_Wf R)   {q : Nat} {p1 : Int32} {p2 : Nat} {p3 : Nat} {p4 : Nat} {Q : Bool → am_TI → Prop} (hd : 3 ≤ d) (hq : am_SH[q]? = some (.inl 2)) (hp2 : am_SH[p2]? = some (.inl 9)) (hp3 : am_SH[p3]? = some (.inl 7)) (hp4 : am_SH[p4]? = some (.inl 1)) (h : wp_DaysReader_readRest I L R q p1 p2 p3 p4  Q) : am_Cm d 0 0 y_DaysReader_readRest b_DaysReader_readRest 5 (some .boolean) [.ref q, .int p1, .ref p2, .ref p3, .ref p4] (I, L, R, am_SH) (po_DaysReader_readRest L R Q) := by
  refine am_Cm_of (ini := false) (by decide +kernel) (fun z => by cases z) (by simp [Value.category]) (fun r σ' z => by obtain ⟨x, _, rfl, -⟩ := z; exact ⟨_, rfl, am_b_nar x⟩) ?_
  unfold wp_DaysReader_readRest at h
  show am_Wp (d, "UnseenRing$DaysReader", b_DaysReader_readRest, 5, false) 0 0 0 [some (.ref q), some (.int p1), some (.ref p2), some (.ref p3), some (.ref p4)] [] (I, L, R, am_SH) (po_DaysReader_readRest L R Q)
  refine am_iload_n (n := 1) d_DaysReader_readRest_0 rfl rfl ?_
  by_cases c1 : p1 = 10
  · have h := h.1 c1
    refine am_tableIn (off := 67) (tgt := 68) d_DaysReader_readRest_1 (by rw [c1]; decide) (by rw [c1]; decide) (by rw [c1]; decide +kernel) rfl ?_
    refine am_aload_n (n := 69) d_DaysReader_readRest_68 rfl rfl ?_
    refine am_aload_n (n := 70) d_DaysReader_readRest_69 rfl rfl ?_
    refine am_aload_n (n := 71) d_DaysReader_readRest_70 rfl rfl ?_
    refine am_aload (n := 73) d_DaysReader_readRest_71 rfl rfl ?_
    refine am_callV (kc := 0) (ks := 0) (As := [.ref p2, .ref p3, .ref p4]) (n := 76) d_DaysReader_readRest_73 rfl ce_DaysReader_readTune lk_DaysReader_83 in_DaysReader_readTune rfl rfl hq rfl rfl (Nat.le_of_ble_eq_true rfl) (Or.inl rfl) (cm_DaysReader_readTune (d := d - 1) hw (by omega) hq hp2 hp3 hp4 h) (by omega) ?_
    rintro _ _ ⟨r1, I1, rfl, rfl, h⟩
    show am_Wp (d, "UnseenRing$DaysReader", b_DaysReader_readRest, 5, false) 0 0 76 [some (.ref q), some (.int p1), some (.ref p2), some (.ref p3), some (.ref p4)] [.int (am_b r1)] (I1, L, R, am_SH) (po_DaysReader_readRest L R Q)
    exact am_iret d_DaysReader_readRest_76 ⟨r1, I1, rfl, rfl, h⟩
  by_cases c2 : p1 = 11
  · have h := h.2.1 c2
    refine am_tableIn (off := 76) (tgt := 77) d_DaysReader_readRest_1 (by rw [c2]; decide) (by rw [c2]; decide) (by rw [c2]; decide +kernel) rfl ?_
    refine am_aload_n (n := 78) d_DaysReader_readRest_77 rfl rfl ?_
    refine am_aload_n (n := 79) d_DaysReader_readRest_78 rfl rfl ?_
    refine am_iconst (n := 80) d_DaysReader_readRest_79 ci_0 rfl ?_
    refine am_aload_n (n := 81) d_DaysReader_readRest_80 rfl rfl ?_
    refine am_callV (kc := 0) (ks := 0) (As := []) (n := 84) d_DaysReader_readRest_81 rfl ce_Square_cells lk_DaysReader_86 in_Square_cells rfl rfl hp3 rfl rfl (Nat.le_of_ble_eq_true rfl) (Or.inl rfl) (cm_Square_cells (d := d - 1) hw (by omega) hp3 h) (by omega) ?_
    rintro _ _ ⟨r2, rfl, rfl, h⟩
    show am_Wp (d, "UnseenRing$DaysReader", b_DaysReader_readRest, 5, false) 0 0 84 [some (.ref q), some (.int p1), some (.ref p2), some (.ref p3), some (.ref p4)] [.int r2, .int 0, .ref p2, .ref q] (I, L, R, am_SH) (po_DaysReader_readRest L R Q)
    refine am_iconst (n := 85) d_DaysReader_readRest_84 ci_1 rfl ?_
    refine am_isub (n := 86) d_DaysReader_readRest_85 rfl ?_
    refine am_aload (n := 88) d_DaysReader_readRest_86 rfl rfl ?_
    refine am_callV (kc := 0) (ks := 0) (As := [.ref p2, .int 0, .int (r2 - 1), .ref p4]) (n := 91) d_DaysReader_readRest_88 rfl ce_DaysReader_readFirst lk_DaysReader_92 in_DaysReader_readFirst rfl rfl hq rfl rfl (Nat.le_of_ble_eq_true rfl) (Or.inl rfl) (cm_DaysReader_readFirst (d := d - 1) hw (by omega) hq hp2 hp4 h) (by omega) ?_
    rintro _ _ ⟨r3, I2, rfl, rfl, h⟩
    show am_Wp (d, "UnseenRing$DaysReader", b_DaysReader_readRest, 5, false) 0 0 91 [some (.ref q), some (.int p1), some (.ref p2), some (.ref p3), some (.ref p4)] [.int (am_b r3)] (I2, L, R, am_SH) (po_DaysReader_readRest L R Q)
    exact am_iret d_DaysReader_readRest_91 ⟨r3, I2, rfl, rfl, h⟩
  by_cases c3 : p1 = 12
  · have h := h.2.2.1 c3
    refine am_tableIn (off := 76) (tgt := 77) d_DaysReader_readRest_1 (by rw [c3]; decide) (by rw [c3]; decide) (by rw [c3]; decide +kernel) rfl ?_
    refine am_aload_n (n := 78) d_DaysReader_readRest_77 rfl rfl ?_
    refine am_aload_n (n := 79) d_DaysReader_readRest_78 rfl rfl ?_
    refine am_iconst (n := 80) d_DaysReader_readRest_79 ci_0 rfl ?_
    refine am_aload_n (n := 81) d_DaysReader_readRest_80 rfl rfl ?_
    refine am_callV (kc := 0) (ks := 0) (As := []) (n := 84) d_DaysReader_readRest_81 rfl ce_Square_cells lk_DaysReader_86 in_Square_cells rfl rfl hp3 rfl rfl (Nat.le_of_ble_eq_true rfl) (Or.inl rfl) (cm_Square_cells (d := d - 1) hw (by omega) hp3 h) (by omega) ?_
    rintro _ _ ⟨r4, rfl, rfl, h⟩
    show am_Wp (d, "UnseenRing$DaysReader", b_DaysReader_readRest, 5, false) 0 0 84 [some (.ref q), some (.int p1), some (.ref p2), some (.ref p3), some (.ref p4)] [.int r4, .int 0, .ref p2, .ref q] (I, L, R, am_SH) (po_DaysReader_readRest L R Q)
    refine am_iconst (n := 85) d_DaysReader_readRest_84 ci_1 rfl ?_
    refine am_isub (n := 86) d_DaysReader_readRest_85 rfl ?_
    refine am_aload (n := 88) d_DaysReader_readRest_86 rfl rfl ?_
    refine am_callV (kc := 0) (ks := 0) (As := [.ref p2, .int 0, .int (r4 - 1), .ref p4]) (n := 91) d_DaysReader_readRest_88 rfl ce_DaysReader_readFirst lk_DaysReader_92 in_DaysReader_readFirst rfl rfl hq rfl rfl (Nat.le_of_ble_eq_true rfl) (Or.inl rfl) (cm_DaysReader_readFirst (d := d - 1) hw (by omega) hq hp2 hp4 h) (by omega) ?_
    rintro _ _ ⟨r5, I3, rfl, rfl, h⟩
    show am_Wp (d, "UnseenRing$DaysReader", b_DaysReader_readRest, 5, false) 0 0 91 [some (.ref q), some (.int p1), some (.ref p2), some (.ref p3), some (.ref p4)] [.int (am_b r5)] (I3, L, R, am_SH) (po_DaysReader_readRest L R Q)
    exact am_iret d_DaysReader_readRest_91 ⟨r5, I3, rfl, rfl, h⟩
  by_cases c4 : p1 = 13
  · have h := h.2.2.2.1 c4
    refine am_tableIn (off := 142) (tgt := 143) d_DaysReader_readRest_1 (by rw [c4]; decide) (by rw [c4]; decide) (by rw [c4]; decide +kernel) rfl ?_
    refine am_iconst (n := 144) d_DaysReader_readRest_143 ci_1 rfl ?_
    exact am_iret d_DaysReader_readRest_144 ⟨true, I, rfl, rfl, h⟩
  by_cases c5 : p1 = 14
  · have h := h.2.2.2.2.1 c5
    refine am_tableIn (off := 91) (tgt := 92) d_DaysReader_readRest_1 (by rw [c5]; decide) (by rw [c5]; decide) (by rw [c5]; decide +kernel) rfl ?_
    refine am_aload_n (n := 93) d_DaysReader_readRest_92 rfl rfl ?_
    refine am_aload_n (n := 94) d_DaysReader_readRest_93 rfl rfl ?_
    refine am_iconst (n := 95) d_DaysReader_readRest_94 ci_0 rfl ?_
    refine am_aload_n (n := 96) d_DaysReader_readRest_95 rfl rfl ?_
    refine am_getI (n := 99) f_DaysReader_96 d_DaysReader_readRest_96 rfl rfl hp3 ?_
    refine am_iconst (n := 100) d_DaysReader_readRest_99 ci_1 rfl ?_
    refine am_isub (n := 101) d_DaysReader_readRest_100 rfl ?_
    refine am_aload (n := 103) d_DaysReader_readRest_101 rfl rfl ?_
    refine am_callV (kc := 0) (ks := 0) (As := [.ref p2, .int 0, .int ((I p3 11) - 1), .ref p4]) (n := 106) d_DaysReader_readRest_103 rfl ce_DaysReader_readFirst lk_DaysReader_92 in_DaysReader_readFirst rfl rfl hq rfl rfl (Nat.le_of_ble_eq_true rfl) (Or.inl rfl) (cm_DaysReader_readFirst (d := d - 1) hw (by omega) hq hp2 hp4 h) (by omega) ?_
    rintro _ _ ⟨r6, I4, rfl, rfl, h⟩
    show am_Wp (d, "UnseenRing$DaysReader", b_DaysReader_readRest, 5, false) 0 0 106 [some (.ref q), some (.int p1), some (.ref p2), some (.ref p3), some (.ref p4)] [.int (am_b r6)] (I4, L, R, am_SH) (po_DaysReader_readRest L R Q)
    refine am_if_eq (y := 0) (tgt := 130) (n := 109) d_DaysReader_readRest_106 rfl rfl (fun c6 => ?_) (fun c6 => ?_)
    · have h := h.1 (am_b_0 c6)
      refine am_iconst (n := 131) d_DaysReader_readRest_130 ci_0 rfl ?_
      exact am_iret d_DaysReader_readRest_131 ⟨false, I4, rfl, rfl, h⟩
    · have h := h.2 (am_b_n0 c6)
      refine am_aload_n (n := 110) d_DaysReader_readRest_109 rfl rfl ?_
      refine am_aload_n (n := 111) d_DaysReader_readRest_110 rfl rfl ?_
      refine am_iconst (n := 112) d_DaysReader_readRest_111 ci_0 rfl ?_
      refine am_aload_n (n := 113) d_DaysReader_readRest_112 rfl rfl ?_
      refine am_callV (kc := 0) (ks := 0) (As := []) (n := 116) d_DaysReader_readRest_113 rfl ce_Square_cells lk_DaysReader_86 in_Square_cells rfl rfl hp3 rfl rfl (Nat.le_of_ble_eq_true rfl) (Or.inl rfl) (cm_Square_cells (d := d - 1) hw (by omega) hp3 h) (by omega) ?_
      rintro _ _ ⟨r7, rfl, rfl, h⟩
      show am_Wp (d, "UnseenRing$DaysReader", b_DaysReader_readRest, 5, false) 0 0 116 [some (.ref q), some (.int p1), some (.ref p2), some (.ref p3), some (.ref p4)] [.int r7, .int 0, .ref p2, .ref q] (I4, L, R, am_SH) (po_DaysReader_readRest L R Q)
      refine am_iconst (n := 117) d_DaysReader_readRest_116 ci_1 rfl ?_
      refine am_isub (n := 118) d_DaysReader_readRest_117 rfl ?_
      refine am_aload (n := 120) d_DaysReader_readRest_118 rfl rfl ?_
      refine am_callV (kc := 0) (ks := 0) (As := [.ref p2, .int 0, .int (r7 - 1), .ref p4]) (n := 123) d_DaysReader_readRest_120 rfl ce_DaysReader_readSecond lk_DaysReader_99 in_DaysReader_readSecond rfl rfl hq rfl rfl (Nat.le_of_ble_eq_true rfl) (Or.inl rfl) (cm_DaysReader_readSecond (d := d - 1) hw (by omega) hq hp2 hp4 h) (by omega) ?_
      rintro _ _ ⟨r8, I5, rfl, rfl, h⟩
      show am_Wp (d, "UnseenRing$DaysReader", b_DaysReader_readRest, 5, false) 0 0 123 [some (.ref q), some (.int p1), some (.ref p2), some (.ref p3), some (.ref p4)] [.int (am_b r8)] (I5, L, R, am_SH) (po_DaysReader_readRest L R Q)
      refine am_if_eq (y := 0) (tgt := 130) (n := 126) d_DaysReader_readRest_123 rfl rfl (fun c7 => ?_) (fun c7 => ?_)
      · have h := h.1 (am_b_0 c7)
        refine am_iconst (n := 131) d_DaysReader_readRest_130 ci_0 rfl ?_
        exact am_iret d_DaysReader_readRest_131 ⟨false, I5, rfl, rfl, h⟩
      · have h := h.2 (am_b_n0 c7)
        refine am_iconst (n := 127) d_DaysReader_readRest_126 ci_1 rfl ?_
        refine am_goto (tgt := 131) d_DaysReader_readRest_127 rfl ?_
        exact am_iret d_DaysReader_readRest_131 ⟨true, I5, rfl, rfl, h⟩
  by_cases c8 : p1 = 15
  · have h := h.2.2.2.2.2.1 c8
    refine am_tableIn (off := 142) (tgt := 143) d_DaysReader_readRest_1 (by rw [c8]; decide) (by rw [c8]; decide) (by rw [c8]; decide +kernel) rfl ?_
    refine am_iconst (n := 144) d_DaysReader_readRest_143 ci_1 rfl ?_
    exact am_iret d_DaysReader_readRest_144 ⟨true, I, rfl, rfl, h⟩
  by_cases c9 : p1 = 16
  · have h := h.2.2.2.2.2.2.1 c9
    refine am_tableIn (off := 142) (tgt := 143) d_DaysReader_readRest_1 (by rw [c9]; decide) (by rw [c9]; decide) (by rw [c9]; decide +kernel) rfl ?_
    refine am_iconst (n := 144) d_DaysReader_readRest_143 ci_1 rfl ?_
    exact am_iret d_DaysReader_readRest_144 ⟨true, I, rfl, rfl, h⟩
  by_cases c10 : p1 = 17
  · have h := h.2.2.2.2.2.2.2.1 c10
    refine am_tableIn (off := 142) (tgt := 143) d_DaysReader_readRest_1 (by rw [c10]; decide) (by rw [c10]; decide) (by rw [c10]; decide +kernel) rfl ?_
    refine am_iconst (n := 144) d_DaysReader_readRest_143 ci_1 rfl ?_
    exact am_iret d_DaysReader_readRest_144 ⟨true, I, rfl, rfl, h⟩
  by_cases c11 : p1 = 18
  · have h := h.2.2.2.2.2.2.2.2.1 c11
    refine am_tableIn (off := 142) (tgt := 143) d_DaysReader_readRest_1 (by rw [c11]; decide) (by rw [c11]; decide) (by rw [c11]; decide +kernel) rfl ?_
    refine am_iconst (n := 144) d_DaysReader_readRest_143 ci_1 rfl ?_
    exact am_iret d_DaysReader_readRest_144 ⟨true, I, rfl, rfl, h⟩
  by_cases c12 : p1 = 19
  · have h := h.2.2.2.2.2.2.2.2.2.1 c12
    refine am_tableIn (off := 142) (tgt := 143) d_DaysReader_readRest_1 (by rw [c12]; decide) (by rw [c12]; decide) (by rw [c12]; decide +kernel) rfl ?_
    refine am_iconst (n := 144) d_DaysReader_readRest_143 ci_1 rfl ?_
    exact am_iret d_DaysReader_readRest_144 ⟨true, I, rfl, rfl, h⟩
  by_cases c13 : p1 = 20
  · have h := h.2.2.2.2.2.2.2.2.2.2.1 c13
    refine am_tableIn (off := 142) (tgt := 143) d_DaysReader_readRest_1 (by rw [c13]; decide) (by rw [c13]; decide) (by rw [c13]; decide +kernel) rfl ?_
    refine am_iconst (n := 144) d_DaysReader_readRest_143 ci_1 rfl ?_
    exact am_iret d_DaysReader_readRest_144 ⟨true, I, rfl, rfl, h⟩
  by_cases c14 : p1 = 21
  · have h := h.2.2.2.2.2.2.2.2.2.2.2.1 c14
    refine am_tableIn (off := 142) (tgt := 143) d_DaysReader_readRest_1 (by rw [c14]; decide) (by rw [c14]; decide) (by rw [c14]; decide +kernel) rfl ?_
    refine am_iconst (n := 144) d_DaysReader_readRest_143 ci_1 rfl ?_
    exact am_iret d_DaysReader_readRest_144 ⟨true, I, rfl, rfl, h⟩
  by_cases c15 : p1 = 22
  · have h := h.2.2.2.2.2.2.2.2.2.2.2.2.1 c15
    refine am_tableIn (off := 131) (tgt := 132) d_DaysReader_readRest_1 (by rw [c15]; decide) (by rw [c15]; decide) (by rw [c15]; decide +kernel) rfl ?_
    refine am_aload_n (n := 133) d_DaysReader_readRest_132 rfl rfl ?_
    refine am_aload_n (n := 134) d_DaysReader_readRest_133 rfl rfl ?_
    refine am_iconst (n := 135) d_DaysReader_readRest_134 ci_1 rfl ?_
    refine am_bipush (n := 137) d_DaysReader_readRest_135 cb_99 rfl ?_
    refine am_aload (n := 139) d_DaysReader_readRest_137 rfl rfl ?_
    refine am_callV (kc := 0) (ks := 0) (As := [.ref p2, .int 1, .int 99, .ref p4]) (n := 142) d_DaysReader_readRest_139 rfl ce_DaysReader_readFirst lk_DaysReader_92 in_DaysReader_readFirst rfl rfl hq rfl rfl (Nat.le_of_ble_eq_true rfl) (Or.inl rfl) (cm_DaysReader_readFirst (d := d - 1) hw (by omega) hq hp2 hp4 h) (by omega) ?_
    rintro _ _ ⟨r9, I6, rfl, rfl, h⟩
    show am_Wp (d, "UnseenRing$DaysReader", b_DaysReader_readRest, 5, false) 0 0 142 [some (.ref q), some (.int p1), some (.ref p2), some (.ref p3), some (.ref p4)] [.int (am_b r9)] (I6, L, R, am_SH) (po_DaysReader_readRest L R Q)
    exact am_iret d_DaysReader_readRest_142 ⟨r9, I6, rfl, rfl, h⟩
  have h := h.2.2.2.2.2.2.2.2.2.2.2.2.2 c1 c2 c3 c4 c5 c8 c9 c10 c11 c12 c13 c14 c15
  have z0 := lv_neT c1 (a := 10) (by decide)
  have z1 := lv_neT c2 (a := 11) (by decide)
  have z2 := lv_neT c3 (a := 12) (by decide)
  have z3 := lv_neT c4 (a := 13) (by decide)
  have z4 := lv_neT c5 (a := 14) (by decide)
  have z5 := lv_neT c8 (a := 15) (by decide)
  have z6 := lv_neT c9 (a := 16) (by decide)
  have z7 := lv_neT c10 (a := 17) (by decide)
  have z8 := lv_neT c11 (a := 18) (by decide)
  have z9 := lv_neT c12 (a := 19) (by decide)
  have z10 := lv_neT c13 (a := 20) (by decide)
  have z11 := lv_neT c14 (a := 21) (by decide)
  have z12 := lv_neT c15 (a := 22) (by decide)
  refine am_tableOut (tgt := 143) d_DaysReader_readRest_1 (by omega) rfl ?_
  refine am_iconst (n := 144) d_DaysReader_readRest_143 ci_1 rfl ?_
  exact am_iret d_DaysReader_readRest_144 ⟨true, I, rfl, rfl, h⟩
abbrev po_Tokens_takeCompares (L : am_TL) (R : am_TR) (Q : Int32 → am_TI → Prop) : Option Value → am_St → Prop := fun r σ' => ∃ (x : Int32) (I' : am_TI), r = some (.int x) ∧ σ' = (I', L, R, am_SH) ∧ Q x I'
def wb_Tokens_takeCompares_24 (L : am_TL) (R : am_TR) (q : Nat) (Q : Int32 → am_TI → Prop)  (I : am_TI) : Prop := wp_Tokens_refuse I L R q 2 (fun (r1 : Bool) (I1 : am_TI) => Q (-1) I1)
set_option maxRecDepth 20000 in
theorem tb_Tokens_takeCompares_24 {d : Nat}  {L : am_TL} {R : am_TR} {q : Nat} {Q : Int32 → am_TI → Prop}  (hw : am_Wf R) (hq : am_SH[q]? = some (.inl 9)) (hd : 1 ≤ d) (I : am_TI) (h : wb_Tokens_takeCompares_24 L R q Q  I) : am_Wp (d, "UnseenRing$Tokens", b_Tokens_takeCompares, 2, false) 0 0 24 [some (.ref q), none] [] (I, L, R, am_SH) (po_Tokens_takeCompares L R Q) := by
  unfold wb_Tokens_takeCompares_24 at h
  refine am_aload_n (n := 25) d_Tokens_takeCompares_24 rfl rfl ?_
  refine am_iconst (n := 26) d_Tokens_takeCompares_25 ci_2 rfl ?_
  refine am_callV (kc := 0) (ks := 0) (As := [.int 2]) (n := 29) d_Tokens_takeCompares_26 rfl ce_Tokens_refuse lk_Tokens_79 in_Tokens_refuse rfl rfl hq rfl rfl (Nat.le_of_ble_eq_true rfl) (Or.inl rfl) (cm_Tokens_refuse (d := d - 1) hw (by omega) hq h) (by omega) ?_
  rintro _ _ ⟨r1, I1, rfl, rfl, h⟩
  show am_Wp (d, "UnseenRing$Tokens", b_Tokens_takeCompares, 2, false) 0 0 29 [some (.ref q), none] [.int (am_b r1)] (I1, L, R, am_SH) (po_Tokens_takeCompares L R Q)
  refine am_pop (n := 30) d_Tokens_takeCompares_29 rfl rfl ?_
  refine am_iconst (n := 31) d_Tokens_takeCompares_30 ci_m1 rfl ?_
  exact am_iret d_Tokens_takeCompares_31 ⟨(-1), I1, rfl, rfl, h⟩
def wp_Tokens_takeCompares (I : am_TI) (L : am_TL) (R : am_TR) (q : Nat)  (Q : Int32 → am_TI → Prop) : Prop := (((I q 8) = 5 → (vp_in (I q 6) 901 ∧ (((L (q + 5) (Int32.toNatClampNeg (I q 6))) = 59 → wb_Tokens_takeCompares_24 L R q Q I) ∧ (¬ (L (q + 5) (Int32.toNatClampNeg (I q 6))) = 59 → (vp_in (I q 6) 901 ∧ wp_Tokens_advance I L R q (fun (I2 : am_TI) => Q (Int64.toInt32 (L (q + 5) (Int32.toNatClampNeg (I q 6)))) I2)))))) ∧ (¬ (I q 8) = 5 → wb_Tokens_takeCompares_24 L R q Q I))
set_option maxRecDepth 20000 in
theorem cm_Tokens_takeCompares {d : Nat} {I : am_TI} {L : am_TL} {R : am_TR}  (hw : am_Wf R)   {q : Nat} {Q : Int32 → am_TI → Prop} (hd : 1 ≤ d) (hq : am_SH[q]? = some (.inl 9)) (h : wp_Tokens_takeCompares I L R q  Q) : am_Cm d 0 0 y_Tokens_takeCompares b_Tokens_takeCompares 2 (some .int) [.ref q] (I, L, R, am_SH) (po_Tokens_takeCompares L R Q) := by
  refine am_Cm_of (ini := false) (by decide +kernel) (fun z => by cases z) (by simp [Value.category]) (fun r σ' z => by obtain ⟨x, _, rfl, -⟩ := z; exact ⟨_, rfl, rfl⟩) ?_
  unfold wp_Tokens_takeCompares at h
  show am_Wp (d, "UnseenRing$Tokens", b_Tokens_takeCompares, 2, false) 0 0 0 [some (.ref q), none] [] (I, L, R, am_SH) (po_Tokens_takeCompares L R Q)
  refine am_aload_n (n := 1) d_Tokens_takeCompares_0 rfl rfl ?_
  refine am_getI (n := 4) f_Tokens_39 d_Tokens_takeCompares_1 rfl rfl hq ?_
  refine am_iconst (n := 5) d_Tokens_takeCompares_4 ci_5 rfl ?_
  refine am_icmp_ne (tgt := 24) (n := 8) d_Tokens_takeCompares_5 rfl rfl (fun c1 => ?_) (fun c1 => ?_)
  · have h := h.2 c1
    exact tb_Tokens_takeCompares_24 hw hq hd I h
  · have h := h.1 c1
    refine am_aload_n (n := 9) d_Tokens_takeCompares_8 rfl rfl ?_
    refine am_getR (x := (q + 5)) (n := 12) f_Tokens_26 d_Tokens_takeCompares_9 rfl rfl hq (hw.1 q 9 4 5 hq rfl) ?_
    refine am_aload_n (n := 13) d_Tokens_takeCompares_12 rfl rfl ?_
    refine am_getI (n := 16) f_Tokens_33 d_Tokens_takeCompares_13 rfl rfl hq ?_
    obtain ⟨g1, h⟩ := h
    refine am_lald2 (n := 17) d_Tokens_takeCompares_16 rfl (am_sho (k := 4) (o := 5) hq (by decide) (by decide) (by decide) rfl) g1 rfl ?_
    refine am_ldc2 (n := 20) d_Tokens_takeCompares_17 k_Tokens_83 rfl ?_
    refine am_lcmp (n := 21) d_Tokens_takeCompares_20 rfl ?_
    refine am_if_ne (y := 0) (tgt := 32) (n := 24) d_Tokens_takeCompares_21 rfl rfl (fun c2 => ?_) (fun c2 => ?_)
    · have h := h.2 (fun z => c2 (am_cmp_eq.mpr z))
      refine am_aload_n (n := 33) d_Tokens_takeCompares_32 rfl rfl ?_
      refine am_getR (x := (q + 5)) (n := 36) f_Tokens_26 d_Tokens_takeCompares_33 rfl rfl hq (hw.1 q 9 4 5 hq rfl) ?_
      refine am_aload_n (n := 37) d_Tokens_takeCompares_36 rfl rfl ?_
      refine am_getI (n := 40) f_Tokens_33 d_Tokens_takeCompares_37 rfl rfl hq ?_
      obtain ⟨g2, h⟩ := h
      refine am_lald2 (n := 41) d_Tokens_takeCompares_40 rfl (am_sho (k := 4) (o := 5) hq (by decide) (by decide) (by decide) rfl) g2 rfl ?_
      refine am_l2i (n := 42) d_Tokens_takeCompares_41 rfl ?_
      refine am_istore_n (ls' := [some (.ref q), some (.int (Int64.toInt32 (L (q + 5) (Int32.toNatClampNeg (I q 6)))))]) (n := 43) d_Tokens_takeCompares_42 (by decide) rfl rfl ?_
      refine am_aload_n (n := 44) d_Tokens_takeCompares_43 rfl rfl ?_
      refine am_callV (kc := 0) (ks := 0) (As := []) (n := 47) d_Tokens_takeCompares_44 rfl ce_Tokens_advance lk_Tokens_76 in_Tokens_advance rfl rfl hq rfl rfl (Nat.le_of_ble_eq_true rfl) (Or.inl rfl) (cm_Tokens_advance (d := d - 1) hw (by omega) hq h) (by omega) ?_
      rintro _ _ ⟨I2, rfl, rfl, h⟩
      show am_Wp (d, "UnseenRing$Tokens", b_Tokens_takeCompares, 2, false) 0 0 47 [some (.ref q), some (.int (Int64.toInt32 (L (q + 5) (Int32.toNatClampNeg (I q 6)))))] [] (I2, L, R, am_SH) (po_Tokens_takeCompares L R Q)
      refine am_iload_n (n := 48) d_Tokens_takeCompares_47 rfl rfl ?_
      exact am_iret d_Tokens_takeCompares_48 ⟨(Int64.toInt32 (L (q + 5) (Int32.toNatClampNeg (I q 6)))), I2, rfl, rfl, h⟩
    · have h := h.1 (am_cmp_eq.mp c2)
      exact tb_Tokens_takeCompares_24 hw hq hd I h
abbrev po_DaysReader_readCompares (L : am_TL) (R : am_TR) (Q : Bool → am_TI → Prop) : Option Value → am_St → Prop := fun r σ' => ∃ (x : Bool) (I' : am_TI), r = some (.int (am_b x)) ∧ σ' = (I', L, R, am_SH) ∧ Q x I'
def wp_DaysReader_readCompares (I : am_TI) (L : am_TL) (R : am_TR) (q : Nat) (p1 : Nat) (p2 : Nat)  (Q : Bool → am_TI → Prop) : Prop := wp_Tokens_takeCompares I L R p1 (fun (r1 : Int32) (I1 : am_TI) => (vp_in ((I1 p2 6) - 1) 60 ∧ (∀ I2, I2 = am_u2 I1 (p2 + 4) (Int32.toNatClampNeg ((I1 p2 6) - 1)) r1 → ((r1 = (-1) → Q false I2) ∧ (¬ r1 = (-1) → Q true I2)))))
set_option maxRecDepth 20000 in
theorem cm_DaysReader_readCompares {d : Nat} {I : am_TI} {L : am_TL} {R : am_TR}  (hw : am_Wf R)   {q : Nat} {p1 : Nat} {p2 : Nat} {Q : Bool → am_TI → Prop} (hd : 2 ≤ d) (hq : am_SH[q]? = some (.inl 2)) (hp1 : am_SH[p1]? = some (.inl 9)) (hp2 : am_SH[p2]? = some (.inl 1)) (h : wp_DaysReader_readCompares I L R q p1 p2  Q) : am_Cm d 0 0 y_DaysReader_readCompares b_DaysReader_readCompares 4 (some .boolean) [.ref q, .ref p1, .ref p2] (I, L, R, am_SH) (po_DaysReader_readCompares L R Q) := by
  refine am_Cm_of (ini := false) (by decide +kernel) (fun z => by cases z) (by simp [Value.category]) (fun r σ' z => by obtain ⟨x, _, rfl, -⟩ := z; exact ⟨_, rfl, am_b_nar x⟩) ?_
  unfold wp_DaysReader_readCompares at h
  show am_Wp (d, "UnseenRing$DaysReader", b_DaysReader_readCompares, 4, false) 0 0 0 [some (.ref q), some (.ref p1), some (.ref p2), none] [] (I, L, R, am_SH) (po_DaysReader_readCompares L R Q)
  refine am_aload_n (n := 1) d_DaysReader_readCompares_0 rfl rfl ?_
  refine am_callV (kc := 0) (ks := 0) (As := []) (n := 4) d_DaysReader_readCompares_1 rfl ce_Tokens_takeCompares lk_DaysReader_128 in_Tokens_takeCompares rfl rfl hp1 rfl rfl (Nat.le_of_ble_eq_true rfl) (Or.inl rfl) (cm_Tokens_takeCompares (d := d - 1) hw (by omega) hp1 h) (by omega) ?_
  rintro _ _ ⟨r1, I1, rfl, rfl, h⟩
  show am_Wp (d, "UnseenRing$DaysReader", b_DaysReader_readCompares, 4, false) 0 0 4 [some (.ref q), some (.ref p1), some (.ref p2), none] [.int r1] (I1, L, R, am_SH) (po_DaysReader_readCompares L R Q)
  refine am_istore_n (ls' := [some (.ref q), some (.ref p1), some (.ref p2), some (.int r1)]) (n := 5) d_DaysReader_readCompares_4 (by decide) rfl rfl ?_
  refine am_aload_n (n := 6) d_DaysReader_readCompares_5 rfl rfl ?_
  refine am_getR (x := (p2 + 4)) (n := 9) f_DaysReader_131 d_DaysReader_readCompares_6 rfl rfl hp2 (hw.1 p2 1 3 4 hp2 rfl) ?_
  refine am_aload_n (n := 10) d_DaysReader_readCompares_9 rfl rfl ?_
  refine am_getI (n := 13) f_DaysReader_65 d_DaysReader_readCompares_10 rfl rfl hp2 ?_
  refine am_iconst (n := 14) d_DaysReader_readCompares_13 ci_1 rfl ?_
  refine am_isub (n := 15) d_DaysReader_readCompares_14 rfl ?_
  refine am_iload_n (n := 16) d_DaysReader_readCompares_15 rfl rfl ?_
  obtain ⟨g1, h⟩ := h
  refine am_iast2 (n := 17) d_DaysReader_readCompares_16 rfl (am_sho (k := 3) (o := 4) hp2 (by decide) (by decide) (by decide) rfl) g1 rfl ?_
  generalize eI2 : am_u2 I1 (p2 + 4) (Int32.toNatClampNeg ((I1 p2 6) - 1)) r1 = I2
  have h := h I2 eI2.symm
  refine am_iload_n (n := 18) d_DaysReader_readCompares_17 rfl rfl ?_
  refine am_iconst (n := 19) d_DaysReader_readCompares_18 ci_m1 rfl ?_
  refine am_icmp_eq (tgt := 26) (n := 22) d_DaysReader_readCompares_19 rfl rfl (fun c1 => ?_) (fun c1 => ?_)
  · have h := h.1 c1
    refine am_iconst (n := 27) d_DaysReader_readCompares_26 ci_0 rfl ?_
    exact am_iret d_DaysReader_readCompares_27 ⟨false, I2, rfl, rfl, h⟩
  · have h := h.2 c1
    refine am_iconst (n := 23) d_DaysReader_readCompares_22 ci_1 rfl ?_
    refine am_goto (tgt := 27) d_DaysReader_readCompares_23 rfl ?_
    exact am_iret d_DaysReader_readCompares_27 ⟨true, I2, rfl, rfl, h⟩
