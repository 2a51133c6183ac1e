abbrev po_Rows_value (L : am_TL) (R : am_TR) (Q : Int32 → am_TI → Prop) : Option Value → am_St → Prop := fun r σ' => ∃ (x : Int32) (I' : am_TI), r = some (.int x) ∧ σ' = (I', L, R, am_SH) ∧ Q x I'
abbrev po_Rows_valueBehind (L : am_TL) (R : am_TR) (Q : Int32 → am_TI → Prop) : Option Value → am_St → Prop := fun r σ' => ∃ (x : Int32) (I' : am_TI), r = some (.int x) ∧ σ' = (I', L, R, am_SH) ∧ Q x I'
def wp_Rows_valueBehind (I : am_TI) (L : am_TL) (R : am_TR) (q : Nat) (p1 : Int32) (p2 : Int32) (p3 : Int32) (p4 : Int32) (V : am_TI → am_TL → am_TR → Nat → Int32 → Int32 → Int32 → (Int32 → am_TI → Prop) → Prop) (Q : Int32 → am_TI → Prop) : Prop := (vp_in p1 6 ∧ (vp_in p1 6 ∧ (∀ I1, I1 = am_u2 I (q + 4) (Int32.toNatClampNeg p1) ((I (q + 4) (Int32.toNatClampNeg p1)) + 1) → V I1 L R q (p2 + 1) p3 p4 (fun (r1 : Int32) (I2 : am_TI) => (vp_in p1 6 ∧ (vp_in p1 6 ∧ (∀ I3, I3 = am_u2 I2 (q + 4) (Int32.toNatClampNeg p1) ((I2 (q + 4) (Int32.toNatClampNeg p1)) - 1) → Q r1 I3)))))))
set_option maxRecDepth 20000 in
theorem cm_Rows_valueBehind {d : Nat} {I : am_TI} {L : am_TL} {R : am_TR} {V : am_TI → am_TL → am_TR → Nat → Int32 → Int32 → Int32 → (Int32 → am_TI → Prop) → Prop} {hb : Nat} (hw : am_Wf R) (hV : ∀ (e : Nat), hb ≤ e → ∀ (I : am_TI) (q : Nat) (p1 p2 p3 : Int32) (Q : Int32 → am_TI → Prop), am_SH[q]? = some (.inl 6) → V I L R q p1 p2 p3 Q → am_Cm e 0 0 y_Rows_value b_Rows_value 8 (some .int) [.ref q, .int p1, .int p2, .int p3] (I, L, R, am_SH) (po_Rows_value L R Q))  {q : Nat} {p1 : Int32} {p2 : Int32} {p3 : Int32} {p4 : Int32} {Q : Int32 → am_TI → Prop} (hd : hb + 1 ≤ d) (hq : am_SH[q]? = some (.inl 6)) (h : wp_Rows_valueBehind I L R q p1 p2 p3 p4 V Q) : am_Cm d 0 0 y_Rows_valueBehind b_Rows_valueBehind 6 (some .int) [.ref q, .int p1, .int p2, .int p3, .int p4] (I, L, R, am_SH) (po_Rows_valueBehind L R Q) := by
  refine am_Cm_of (ini := false) (by decide +kernel) (fun z => by cases z) (by simp [Value.category]) (fun r σ' z => by obtain ⟨x, _, rfl, -⟩ := z; exact ⟨_, rfl, rfl⟩) ?_
  unfold wp_Rows_valueBehind at h
  show am_Wp (d, "UnseenRing$Rows", b_Rows_valueBehind, 6, false) 0 0 0 [some (.ref q), some (.int p1), some (.int p2), some (.int p3), some (.int p4), none] [] (I, L, R, am_SH) (po_Rows_valueBehind L R Q)
  refine am_aload_n (n := 1) d_Rows_valueBehind_0 rfl rfl ?_
  refine am_getR (x := (q + 4)) (n := 4) f_Rows_21 d_Rows_valueBehind_1 rfl rfl hq (hw.1 q 6 3 4 hq rfl) ?_
  refine am_iload_n (n := 5) d_Rows_valueBehind_4 rfl rfl ?_
  refine am_dup2 (n := 6) d_Rows_valueBehind_5 rfl rfl rfl ?_
  obtain ⟨g1, h⟩ := h
  refine am_iald2 (n := 7) d_Rows_valueBehind_6 rfl (am_sho (k := 3) (o := 4) hq (by decide) (by decide) (by decide) rfl) g1 rfl ?_
  refine am_iconst (n := 8) d_Rows_valueBehind_7 ci_1 rfl ?_
  refine am_iadd (n := 9) d_Rows_valueBehind_8 rfl ?_
  obtain ⟨g2, h⟩ := h
  refine am_iast2 (n := 10) d_Rows_valueBehind_9 rfl (am_sho (k := 3) (o := 4) hq (by decide) (by decide) (by decide) rfl) g2 rfl ?_
  generalize eI1 : am_u2 I (q + 4) (Int32.toNatClampNeg p1) ((I (q + 4) (Int32.toNatClampNeg p1)) + 1) = I1
  have h := h I1 eI1.symm
  refine am_aload_n (n := 11) d_Rows_valueBehind_10 rfl rfl ?_
  refine am_iload_n (n := 12) d_Rows_valueBehind_11 rfl rfl ?_
  refine am_iconst (n := 13) d_Rows_valueBehind_12 ci_1 rfl ?_
  refine am_iadd (n := 14) d_Rows_valueBehind_13 rfl ?_
  refine am_iload_n (n := 15) d_Rows_valueBehind_14 rfl rfl ?_
  refine am_iload (n := 17) d_Rows_valueBehind_15 rfl rfl ?_
  refine am_callV (kc := 0) (ks := 0) (As := [.int (p2 + 1), .int p3, .int p4]) (n := 20) d_Rows_valueBehind_17 rfl ce_Rows_value lk_Rows_72 in_Rows_value rfl rfl hq rfl rfl (Nat.le_of_ble_eq_true rfl) (Or.inl rfl) (hV (d - 1) (by omega) _ _ _ _ _ _ hq h) (by omega) ?_
  rintro _ _ ⟨r1, I2, rfl, rfl, h⟩
  show am_Wp (d, "UnseenRing$Rows", b_Rows_valueBehind, 6, false) 0 0 20 [some (.ref q), some (.int p1), some (.int p2), some (.int p3), some (.int p4), none] [.int r1] (I2, L, R, am_SH) (po_Rows_valueBehind L R Q)
  refine am_istore (ls' := [some (.ref q), some (.int p1), some (.int p2), some (.int p3), some (.int p4), some (.int r1)]) (n := 22) d_Rows_valueBehind_20 (by decide) rfl rfl ?_
  refine am_aload_n (n := 23) d_Rows_valueBehind_22 rfl rfl ?_
  refine am_getR (x := (q + 4)) (n := 26) f_Rows_21 d_Rows_valueBehind_23 rfl rfl hq (hw.1 q 6 3 4 hq rfl) ?_
  refine am_iload_n (n := 27) d_Rows_valueBehind_26 rfl rfl ?_
  refine am_dup2 (n := 28) d_Rows_valueBehind_27 rfl rfl rfl ?_
  obtain ⟨g3, h⟩ := h
  refine am_iald2 (n := 29) d_Rows_valueBehind_28 rfl (am_sho (k := 3) (o := 4) hq (by decide) (by decide) (by decide) rfl) g3 rfl ?_
  refine am_iconst (n := 30) d_Rows_valueBehind_29 ci_1 rfl ?_
  refine am_isub (n := 31) d_Rows_valueBehind_30 rfl ?_
  obtain ⟨g4, h⟩ := h
  refine am_iast2 (n := 32) d_Rows_valueBehind_31 rfl (am_sho (k := 3) (o := 4) hq (by decide) (by decide) (by decide) rfl) g4 rfl ?_
  generalize eI3 : am_u2 I2 (q + 4) (Int32.toNatClampNeg p1) ((I2 (q + 4) (Int32.toNatClampNeg p1)) - 1) = I3
  have h := h I3 eI3.symm
  refine am_iload (n := 34) d_Rows_valueBehind_32 rfl rfl ?_
  exact am_iret d_Rows_valueBehind_34 ⟨r1, I3, rfl, rfl, h⟩
def wb_Rows_value_38 (L : am_TL) (R : am_TR) (q : Nat) (p1 : Int32) (p2 : Int32) (p3 : Int32) (V : am_TI → am_TL → am_TR → Nat → Int32 → Int32 → Int32 → (Int32 → am_TI → Prop) → Prop) (Q : Int32 → am_TI → Prop)  (I : am_TI) : Prop := wp_Rows_coinsCome I L R q (fun (r1 : Int32) => Q r1 I)
set_option maxRecDepth 20000 in
theorem tb_Rows_value_38 {d : Nat}  {L : am_TL} {R : am_TR} {q : Nat} {p1 : Int32} {p2 : Int32} {p3 : Int32} {V : am_TI → am_TL → am_TR → Nat → Int32 → Int32 → Int32 → (Int32 → am_TI → Prop) → Prop} {hb : Nat} {Q : Int32 → am_TI → Prop}  (hw : am_Wf R) (hV : ∀ (e : Nat), hb ≤ e → ∀ (I : am_TI) (q : Nat) (p1 p2 p3 : Int32) (Q : Int32 → am_TI → Prop), am_SH[q]? = some (.inl 6) → V I L R q p1 p2 p3 Q → am_Cm e 0 0 y_Rows_value b_Rows_value 8 (some .int) [.ref q, .int p1, .int p2, .int p3] (I, L, R, am_SH) (po_Rows_value L R Q)) (hq : am_SH[q]? = some (.inl 6)) (hd : hb + 4 ≤ d) (I : am_TI) (h : wb_Rows_value_38 L R q p1 p2 p3 V Q  I) : am_Wp (d, "UnseenRing$Rows", b_Rows_value, 8, false) 0 0 38 [some (.ref q), some (.int p1), some (.int p2), some (.int p3), none, none, none, none] [] (I, L, R, am_SH) (po_Rows_value L R Q) := by
  unfold wb_Rows_value_38 at h
  refine am_aload_n (n := 39) d_Rows_value_38 rfl rfl ?_
  refine am_callV (kc := 0) (ks := 0) (As := []) (n := 42) d_Rows_value_39 rfl ce_Rows_coinsCome lk_Rows_79 in_Rows_coinsCome rfl rfl hq rfl rfl (Nat.le_of_ble_eq_true rfl) (Or.inl rfl) (cm_Rows_coinsCome (d := d - 1) hw (by omega) hq h) (by omega) ?_
  rintro _ _ ⟨r1, rfl, rfl, h⟩
  show am_Wp (d, "UnseenRing$Rows", b_Rows_value, 8, false) 0 0 42 [some (.ref q), some (.int p1), some (.int p2), some (.int p3), none, none, none, none] [.int r1] (I, L, R, am_SH) (po_Rows_value L R Q)
  exact am_iret d_Rows_value_42 ⟨r1, I, rfl, rfl, h⟩
def wl_Rows_value_57 (L : am_TL) (R : am_TR) (q : Nat) (p1 : Int32) (p2 : Int32) (p3 : Int32) (V : am_TI → am_TL → am_TR → Nat → Int32 → Int32 → Int32 → (Int32 → am_TI → Prop) → Prop) (Q : Int32 → am_TI → Prop)  : Nat → am_TI → Bool → Int32 → Int32 → Prop
  | 0 => fun _ _ _ _ => False
  | f57 + 1 => fun I v4 v6 v7 => (((I q 5) ≤ v7 → Q v6 I) ∧ (¬ (I q 5) ≤ v7 → ((((p3 >>> (v7 &&& 31)) &&& 1) = 1 → wl_Rows_value_57 L R q p1 p2 p3 V Q f57 I v4 v6 (v7 + 1)) ∧ (¬ ((p3 >>> (v7 &&& 31)) &&& 1) = 1 → ((v4 = false → V I L R q (p1 + 1) p2 (p3 ||| ((1 : Int32) <<< (v7 &&& 31))) (fun (r3 : Int32) (I2 : am_TI) => wl_Rows_value_57 L R q p1 p2 p3 V Q f57 I2 v4 (am_min v6 r3) (v7 + 1))) ∧ (v4 = true → wp_Rows_valueBehind I L R q v7 p1 p2 p3 V (fun (r4 : Int32) (I3 : am_TI) => wl_Rows_value_57 L R q p1 p2 p3 V Q f57 I3 v4 (am_max v6 r4) (v7 + 1))))))))
set_option maxRecDepth 20000 in
theorem tl_Rows_value_57 {d : Nat}  {L : am_TL} {R : am_TR} {q : Nat} {p1 : Int32} {p2 : Int32} {p3 : Int32} {V : am_TI → am_TL → am_TR → Nat → Int32 → Int32 → Int32 → (Int32 → am_TI → Prop) → Prop} {hb : Nat} {Q : Int32 → am_TI → Prop}  (hw : am_Wf R) (hV : ∀ (e : Nat), hb ≤ e → ∀ (I : am_TI) (q : Nat) (p1 p2 p3 : Int32) (Q : Int32 → am_TI → Prop), am_SH[q]? = some (.inl 6) → V I L R q p1 p2 p3 Q → am_Cm e 0 0 y_Rows_value b_Rows_value 8 (some .int) [.ref q, .int p1, .int p2, .int p3] (I, L, R, am_SH) (po_Rows_value L R Q)) (hq : am_SH[q]? = some (.inl 6)) (hd : hb + 4 ≤ d) : ∀ (n : Nat) (I : am_TI) (v4 : Bool) (v6 : Int32) (v7 : Int32), wl_Rows_value_57 L R q p1 p2 p3 V Q  n I v4 v6 v7 → am_Wp (d, "UnseenRing$Rows", b_Rows_value, 8, false) 0 0 57 [some (.ref q), some (.int p1), some (.int p2), some (.int p3), some (.int (am_b v4)), none, some (.int v6), some (.int v7)] [] (I, L, R, am_SH) (po_Rows_value L R Q) := by
  intro n
  induction n with
  | zero => intro I v4 v6 v7 h; exact h.elim
  | succ n ih =>
    intro I v4 v6 v7 h
    unfold wl_Rows_value_57 at h
    refine am_iload (n := 59) d_Rows_value_57 rfl rfl ?_
    refine am_aload_n (n := 60) d_Rows_value_59 rfl rfl ?_
    refine am_getI (n := 63) f_Rows_28 d_Rows_value_60 rfl rfl hq ?_
    refine am_icmp_ge (tgt := 128) (n := 66) d_Rows_value_63 rfl rfl (fun c5 => ?_) (fun c5 => ?_)
    · have h := h.1 c5
      refine am_iload (n := 130) d_Rows_value_128 rfl rfl ?_
      exact am_iret d_Rows_value_130 ⟨v6, I, rfl, rfl, h⟩
    · have h := h.2 c5
      refine am_iload_n (n := 67) d_Rows_value_66 rfl rfl ?_
      refine am_iload (n := 69) d_Rows_value_67 rfl rfl ?_
      refine am_ishr (n := 70) d_Rows_value_69 rfl ?_
      refine am_iconst (n := 71) d_Rows_value_70 ci_1 rfl ?_
      refine am_iand (n := 72) d_Rows_value_71 rfl ?_
      refine am_iconst (n := 73) d_Rows_value_72 ci_1 rfl ?_
      refine am_icmp_ne (tgt := 79) (n := 76) d_Rows_value_73 rfl rfl (fun c6 => ?_) (fun c6 => ?_)
      · have h := h.2 c6
        refine am_iload (n := 81) d_Rows_value_79 rfl rfl ?_
        refine am_if_eq (y := 0) (tgt := 101) (n := 84) d_Rows_value_81 rfl rfl (fun c7 => ?_) (fun c7 => ?_)
        · have h := h.1 (am_b_0 c7)
          refine am_iload (n := 103) d_Rows_value_101 rfl rfl ?_
          refine am_aload_n (n := 104) d_Rows_value_103 rfl rfl ?_
          refine am_iload_n (n := 105) d_Rows_value_104 rfl rfl ?_
          refine am_iconst (n := 106) d_Rows_value_105 ci_1 rfl ?_
          refine am_iadd (n := 107) d_Rows_value_106 rfl ?_
          refine am_iload_n (n := 108) d_Rows_value_107 rfl rfl ?_
          refine am_iload_n (n := 109) d_Rows_value_108 rfl rfl ?_
          refine am_iconst (n := 110) d_Rows_value_109 ci_1 rfl ?_
          refine am_iload (n := 112) d_Rows_value_110 rfl rfl ?_
          refine am_ishl (n := 113) d_Rows_value_112 rfl ?_
          refine am_ior (n := 114) d_Rows_value_113 rfl ?_
          refine am_callV (kc := 0) (ks := 0) (As := [.int (p1 + 1), .int p2, .int (p3 ||| ((1 : Int32) <<< (v7 &&& 31)))]) (n := 117) d_Rows_value_114 rfl ce_Rows_value lk_Rows_72 in_Rows_value rfl rfl hq rfl rfl (Nat.le_of_ble_eq_true rfl) (Or.inl rfl) (hV (d - 1) (by omega) _ _ _ _ _ _ hq h) (by omega) ?_
          rintro _ _ ⟨r3, I2, rfl, rfl, h⟩
          show am_Wp (d, "UnseenRing$Rows", b_Rows_value, 8, false) 0 0 117 [some (.ref q), some (.int p1), some (.int p2), some (.int p3), some (.int (am_b v4)), none, some (.int v6), some (.int v7)] [.int r3, .int v6] (I2, L, R, am_SH) (po_Rows_value L R Q)
          refine am_mmin2 (n := 120) d_Rows_value_117 rfl lm_Rows_59 (Nat.le_of_ble_eq_true rfl) (by omega) ?_
          refine am_istore (ls' := [some (.ref q), some (.int p1), some (.int p2), some (.int p3), some (.int (am_b v4)), none, some (.int (am_min v6 r3)), some (.int v7)]) (n := 122) d_Rows_value_120 (by decide) rfl rfl ?_
          refine am_iinc (v := v7 + 1) (ls' := [some (.ref q), some (.int p1), some (.int p2), some (.int p3), some (.int (am_b v4)), none, some (.int (am_min v6 r3)), some (.int (v7 + 1))]) (n := 125) d_Rows_value_122 rfl (congrArg _ ci_1) (by decide) rfl rfl ?_
          refine am_goto (tgt := 57) d_Rows_value_125 rfl ?_
          exact ih I2 v4 (am_min v6 r3) (v7 + 1)  h
        · have h := h.2 (am_b_n0 c7)
          refine am_iload (n := 86) d_Rows_value_84 rfl rfl ?_
          refine am_aload_n (n := 87) d_Rows_value_86 rfl rfl ?_
          refine am_iload (n := 89) d_Rows_value_87 rfl rfl ?_
          refine am_iload_n (n := 90) d_Rows_value_89 rfl rfl ?_
          refine am_iload_n (n := 91) d_Rows_value_90 rfl rfl ?_
          refine am_iload_n (n := 92) d_Rows_value_91 rfl rfl ?_
          refine am_callV (kc := 0) (ks := 0) (As := [.int v7, .int p1, .int p2, .int p3]) (n := 95) d_Rows_value_92 rfl ce_Rows_valueBehind lk_Rows_75 in_Rows_valueBehind rfl rfl hq rfl rfl (Nat.le_of_ble_eq_true rfl) (Or.inl rfl) (cm_Rows_valueBehind (d := d - 1) (hb := hb) hw hV (by omega) hq h) (by omega) ?_
          rintro _ _ ⟨r4, I3, rfl, rfl, h⟩
          show am_Wp (d, "UnseenRing$Rows", b_Rows_value, 8, false) 0 0 95 [some (.ref q), some (.int p1), some (.int p2), some (.int p3), some (.int (am_b v4)), none, some (.int v6), some (.int v7)] [.int r4, .int v6] (I3, L, R, am_SH) (po_Rows_value L R Q)
          refine am_mmax2 (n := 98) d_Rows_value_95 rfl lm_Rows_83 (Nat.le_of_ble_eq_true rfl) (by omega) ?_
          refine am_goto (tgt := 120) d_Rows_value_98 rfl ?_
          refine am_istore (ls' := [some (.ref q), some (.int p1), some (.int p2), some (.int p3), some (.int (am_b v4)), none, some (.int (am_max v6 r4)), some (.int v7)]) (n := 122) d_Rows_value_120 (by decide) rfl rfl ?_
          refine am_iinc (v := v7 + 1) (ls' := [some (.ref q), some (.int p1), some (.int p2), some (.int p3), some (.int (am_b v4)), none, some (.int (am_max v6 r4)), some (.int (v7 + 1))]) (n := 125) d_Rows_value_122 rfl (congrArg _ ci_1) (by decide) rfl rfl ?_
          refine am_goto (tgt := 57) d_Rows_value_125 rfl ?_
          exact ih I3 v4 (am_max v6 r4) (v7 + 1)  h
      · have h := h.1 c6
        refine am_goto (tgt := 122) d_Rows_value_76 rfl ?_
        refine am_iinc (v := v7 + 1) (ls' := [some (.ref q), some (.int p1), some (.int p2), some (.int p3), some (.int (am_b v4)), none, some (.int v6), some (.int (v7 + 1))]) (n := 125) d_Rows_value_122 rfl (congrArg _ ci_1) (by decide) rfl rfl ?_
        refine am_goto (tgt := 57) d_Rows_value_125 rfl ?_
        exact ih I v4 v6 (v7 + 1)  h
def wb_Rows_value_25 (L : am_TL) (R : am_TR) (q : Nat) (p1 : Int32) (p2 : Int32) (p3 : Int32) (V : am_TI → am_TL → am_TR → Nat → Int32 → Int32 → Int32 → (Int32 → am_TI → Prop) → Prop) (Q : Int32 → am_TI → Prop)  (I : am_TI) (v4 : Bool) (s0 : Int32) : Prop := ((s0 ≤ p1 → wb_Rows_value_38 L R q p1 p2 p3 V Q I) ∧ (¬ s0 ≤ p1 → ((p1 < 4 → V I L R q (p1 + 1) p2 p3 (fun (r2 : Int32) (I1 : am_TI) => (∃ z, wl_Rows_value_57 L R q p1 p2 p3 V Q z I1 v4 r2 0))) ∧ (¬ p1 < 4 → wb_Rows_value_38 L R q p1 p2 p3 V Q I))))
set_option maxRecDepth 20000 in
theorem tb_Rows_value_25 {d : Nat}  {L : am_TL} {R : am_TR} {q : Nat} {p1 : Int32} {p2 : Int32} {p3 : Int32} {V : am_TI → am_TL → am_TR → Nat → Int32 → Int32 → Int32 → (Int32 → am_TI → Prop) → Prop} {hb : Nat} {Q : Int32 → am_TI → Prop}  (hw : am_Wf R) (hV : ∀ (e : Nat), hb ≤ e → ∀ (I : am_TI) (q : Nat) (p1 p2 p3 : Int32) (Q : Int32 → am_TI → Prop), am_SH[q]? = some (.inl 6) → V I L R q p1 p2 p3 Q → am_Cm e 0 0 y_Rows_value b_Rows_value 8 (some .int) [.ref q, .int p1, .int p2, .int p3] (I, L, R, am_SH) (po_Rows_value L R Q)) (hq : am_SH[q]? = some (.inl 6)) (hd : hb + 4 ≤ d) (I : am_TI) (v4 : Bool) (s0 : Int32) (h : wb_Rows_value_25 L R q p1 p2 p3 V Q  I v4 s0) : am_Wp (d, "UnseenRing$Rows", b_Rows_value, 8, false) 0 0 25 [some (.ref q), some (.int p1), some (.int p2), some (.int p3), some (.int (am_b v4)), none, none, none] [.int s0] (I, L, R, am_SH) (po_Rows_value L R Q) := by
  unfold wb_Rows_value_25 at h
  refine am_istore (ls' := [some (.ref q), some (.int p1), some (.int p2), some (.int p3), some (.int (am_b v4)), some (.int s0), none, none]) (n := 27) d_Rows_value_25 (by decide) rfl rfl ?_
  refine am_iload_n (n := 28) d_Rows_value_27 rfl rfl ?_
  refine am_iload (n := 30) d_Rows_value_28 rfl rfl ?_
  refine am_icmp_ge (tgt := 38) (n := 33) d_Rows_value_30 rfl rfl (fun c3 => ?_) (fun c3 => ?_)
  · have h := h.1 c3
    refine am_forget (ls' := [some (.ref q), some (.int p1), some (.int p2), some (.int p3), none, none, none, none]) (am_le_s (am_le_s (am_le_s (am_le_s (am_le_n (am_le_n (am_le_n (am_le_n am_le_e)))))))) ?_
    exact tb_Rows_value_38 hw hV hq hd I h
  · have h := h.2 c3
    refine am_iload_n (n := 34) d_Rows_value_33 rfl rfl ?_
    refine am_iconst (n := 35) d_Rows_value_34 ci_4 rfl ?_
    refine am_icmp_lt (tgt := 43) (n := 38) d_Rows_value_35 rfl rfl (fun c4 => ?_) (fun c4 => ?_)
    · have h := h.1 c4
      refine am_aload_n (n := 44) d_Rows_value_43 rfl rfl ?_
      refine am_iload_n (n := 45) d_Rows_value_44 rfl rfl ?_
      refine am_iconst (n := 46) d_Rows_value_45 ci_1 rfl ?_
      refine am_iadd (n := 47) d_Rows_value_46 rfl ?_
      refine am_iload_n (n := 48) d_Rows_value_47 rfl rfl ?_
      refine am_iload_n (n := 49) d_Rows_value_48 rfl rfl ?_
      refine am_callV (kc := 0) (ks := 0) (As := [.int (p1 + 1), .int p2, .int p3]) (n := 52) d_Rows_value_49 rfl ce_Rows_value lk_Rows_72 in_Rows_value rfl rfl hq rfl rfl (Nat.le_of_ble_eq_true rfl) (Or.inl rfl) (hV (d - 1) (by omega) _ _ _ _ _ _ hq h) (by omega) ?_
      rintro _ _ ⟨r2, I1, rfl, rfl, h⟩
      show am_Wp (d, "UnseenRing$Rows", b_Rows_value, 8, false) 0 0 52 [some (.ref q), some (.int p1), some (.int p2), some (.int p3), some (.int (am_b v4)), some (.int s0), none, none] [.int r2] (I1, L, R, am_SH) (po_Rows_value L R Q)
      refine am_istore (ls' := [some (.ref q), some (.int p1), some (.int p2), some (.int p3), some (.int (am_b v4)), some (.int s0), some (.int r2), none]) (n := 54) d_Rows_value_52 (by decide) rfl rfl ?_
      refine am_iconst (n := 55) d_Rows_value_54 ci_0 rfl ?_
      refine am_istore (ls' := [some (.ref q), some (.int p1), some (.int p2), some (.int p3), some (.int (am_b v4)), some (.int s0), some (.int r2), some (.int 0)]) (n := 57) d_Rows_value_55 (by decide) rfl rfl ?_
      refine am_forget (ls' := [some (.ref q), some (.int p1), some (.int p2), some (.int p3), some (.int (am_b v4)), none, some (.int r2), some (.int 0)]) (am_le_s (am_le_s (am_le_s (am_le_s (am_le_s (am_le_n (am_le_s (am_le_s am_le_e)))))))) ?_
      obtain ⟨n, h⟩ := h
      exact tl_Rows_value_57 hw hV hq hd n I1 v4 r2 0 h
    · have h := h.2 c4
      refine am_forget (ls' := [some (.ref q), some (.int p1), some (.int p2), some (.int p3), none, none, none, none]) (am_le_s (am_le_s (am_le_s (am_le_s (am_le_n (am_le_n (am_le_n (am_le_n am_le_e)))))))) ?_
      exact tb_Rows_value_38 hw hV hq hd I h
def wb_Rows_value_11 (L : am_TL) (R : am_TR) (q : Nat) (p1 : Int32) (p2 : Int32) (p3 : Int32) (V : am_TI → am_TL → am_TR → Nat → Int32 → Int32 → Int32 → (Int32 → am_TI → Prop) → Prop) (Q : Int32 → am_TI → Prop)  (I : am_TI) (s0 : Bool) : Prop := ((s0 = false → wb_Rows_value_25 L R q p1 p2 p3 V Q I s0 (p2 - 1)) ∧ (s0 = true → wb_Rows_value_25 L R q p1 p2 p3 V Q I s0 p2))
set_option maxRecDepth 20000 in
theorem tb_Rows_value_11 {d : Nat}  {L : am_TL} {R : am_TR} {q : Nat} {p1 : Int32} {p2 : Int32} {p3 : Int32} {V : am_TI → am_TL → am_TR → Nat → Int32 → Int32 → Int32 → (Int32 → am_TI → Prop) → Prop} {hb : Nat} {Q : Int32 → am_TI → Prop}  (hw : am_Wf R) (hV : ∀ (e : Nat), hb ≤ e → ∀ (I : am_TI) (q : Nat) (p1 p2 p3 : Int32) (Q : Int32 → am_TI → Prop), am_SH[q]? = some (.inl 6) → V I L R q p1 p2 p3 Q → am_Cm e 0 0 y_Rows_value b_Rows_value 8 (some .int) [.ref q, .int p1, .int p2, .int p3] (I, L, R, am_SH) (po_Rows_value L R Q)) (hq : am_SH[q]? = some (.inl 6)) (hd : hb + 4 ≤ d) (I : am_TI) (s0 : Bool) (h : wb_Rows_value_11 L R q p1 p2 p3 V Q  I s0) : am_Wp (d, "UnseenRing$Rows", b_Rows_value, 8, false) 0 0 11 [some (.ref q), some (.int p1), some (.int p2), some (.int p3), none, none, none, none] [.int (am_b s0)] (I, L, R, am_SH) (po_Rows_value L R Q) := by
  unfold wb_Rows_value_11 at h
  refine am_istore (ls' := [some (.ref q), some (.int p1), some (.int p2), some (.int p3), some (.int (am_b s0)), none, none, none]) (n := 13) d_Rows_value_11 (by decide) rfl rfl ?_
  refine am_iload (n := 15) d_Rows_value_13 rfl rfl ?_
  refine am_if_eq (y := 0) (tgt := 22) (n := 18) d_Rows_value_15 rfl rfl (fun c2 => ?_) (fun c2 => ?_)
  · have h := h.1 (am_b_0 c2)
    refine am_iload_n (n := 23) d_Rows_value_22 rfl rfl ?_
    refine am_iconst (n := 24) d_Rows_value_23 ci_1 rfl ?_
    refine am_isub (n := 25) d_Rows_value_24 rfl ?_
    exact tb_Rows_value_25 hw hV hq hd I s0 (p2 - 1) h
  · have h := h.2 (am_b_n0 c2)
    refine am_iload_n (n := 19) d_Rows_value_18 rfl rfl ?_
    refine am_goto (tgt := 25) d_Rows_value_19 rfl ?_
    exact tb_Rows_value_25 hw hV hq hd I s0 p2 h
def wps_Rows_value (I : am_TI) (L : am_TL) (R : am_TR) (q : Nat) (p1 : Int32) (p2 : Int32) (p3 : Int32) (V : am_TI → am_TL → am_TR → Nat → Int32 → Int32 → Int32 → (Int32 → am_TI → Prop) → Prop) (Q : Int32 → am_TI → Prop) : Prop := (((p1 - p1 / 2 * 2) = 0 → wb_Rows_value_11 L R q p1 p2 p3 V Q I true) ∧ (¬ (p1 - p1 / 2 * 2) = 0 → wb_Rows_value_11 L R q p1 p2 p3 V Q I false))
set_option maxRecDepth 20000 in
theorem cms_Rows_value {d : Nat} {I : am_TI} {L : am_TL} {R : am_TR} {V : am_TI → am_TL → am_TR → Nat → Int32 → Int32 → Int32 → (Int32 → am_TI → Prop) → Prop} {hb : Nat} (hw : am_Wf R) (hV : ∀ (e : Nat), hb ≤ e → ∀ (I : am_TI) (q : Nat) (p1 p2 p3 : Int32) (Q : Int32 → am_TI → Prop), am_SH[q]? = some (.inl 6) → V I L R q p1 p2 p3 Q → am_Cm e 0 0 y_Rows_value b_Rows_value 8 (some .int) [.ref q, .int p1, .int p2, .int p3] (I, L, R, am_SH) (po_Rows_value L R Q))  {q : Nat} {p1 : Int32} {p2 : Int32} {p3 : Int32} {Q : Int32 → am_TI → Prop} (hd : hb + 4 ≤ d) (hq : am_SH[q]? = some (.inl 6)) (h : wps_Rows_value I L R q p1 p2 p3 V Q) : am_Cm d 0 0 y_Rows_value b_Rows_value 8 (some .int) [.ref q, .int p1, .int p2, .int p3] (I, L, R, am_SH) (po_Rows_value L R Q) := by
  refine am_Cm_of (ini := false) (by decide +kernel) (fun z => by cases z) (by simp [Value.category]) (fun r σ' z => by obtain ⟨x, _, rfl, -⟩ := z; exact ⟨_, rfl, rfl⟩) ?_
  unfold wps_Rows_value at h
  show am_Wp (d, "UnseenRing$Rows", b_Rows_value, 8, false) 0 0 0 [some (.ref q), some (.int p1), some (.int p2), some (.int p3), none, none, none, none] [] (I, L, R, am_SH) (po_Rows_value L R Q)
  refine am_iload_n (n := 1) d_Rows_value_0 rfl rfl ?_
  refine am_iconst (n := 2) d_Rows_value_1 ci_2 rfl ?_
  refine am_irem (n := 3) d_Rows_value_2 (by decide) rfl ?_
  refine am_if_ne (y := 0) (tgt := 10) (n := 6) d_Rows_value_3 rfl rfl (fun c1 => ?_) (fun c1 => ?_)
  · have h := h.2 c1
    refine am_iconst (n := 11) d_Rows_value_10 ci_0 rfl ?_
    exact tb_Rows_value_11 hw hV hq hd I false h
  · have h := h.1 c1
    refine am_iconst (n := 7) d_Rows_value_6 ci_1 rfl ?_
    refine am_goto (tgt := 11) d_Rows_value_7 rfl ?_
    exact tb_Rows_value_11 hw hV hq hd I true h
def wp_Rows_value : Nat → am_TI → am_TL → am_TR → Nat → Int32 → Int32 → Int32 → (Int32 → am_TI → Prop) → Prop
  | 0 => fun _ _ _ _ _ _ _ _ => False
  | k + 1 => fun I L R q p1 p2 p3 Q => wps_Rows_value I L R q p1 p2 p3 (wp_Rows_value k) Q
theorem cm_Rows_valueK {R : am_TR} {L : am_TL} (hw : am_Wf R) : ∀ (k e : Nat), 4 * k ≤ e → ∀ (I : am_TI) (q : Nat) (p1 p2 p3 : Int32) (Q : Int32 → am_TI → Prop), am_SH[q]? = some (.inl 6) → wp_Rows_value k I L R q p1 p2 p3 Q → am_Cm e 0 0 y_Rows_value b_Rows_value 8 (some .int) [.ref q, .int p1, .int p2, .int p3] (I, L, R, am_SH) (po_Rows_value L R Q) := by
  intro k
  induction k with
  | zero => intro e _ I q p1 p2 p3 Q _ h; exact h.elim
  | succ k ih =>
    intro e he I q p1 p2 p3 Q hq h
    unfold wp_Rows_value at h
    exact cms_Rows_value (hb := 4 * k) hw ih (by omega) hq h
theorem cm_Rows_value {d : Nat} {I : am_TI} {L : am_TL} {R : am_TR} (hw : am_Wf R) (k : Nat) {q : Nat} {p1 p2 p3 : Int32} {Q : Int32 → am_TI → Prop} (hd : 4 * k ≤ d) (hq : am_SH[q]? = some (.inl 6)) (h : wp_Rows_value k I L R q p1 p2 p3 Q) : am_Cm d 0 0 y_Rows_value b_Rows_value 8 (some .int) [.ref q, .int p1, .int p2, .int p3] (I, L, R, am_SH) (po_Rows_value L R Q) := cm_Rows_valueK hw k d hd I q p1 p2 p3 Q hq h
theorem am_hV {R : am_TR} {L : am_TL} (hw : am_Wf R) : ∀ (e : Nat), 24 ≤ e → ∀ (I : am_TI) (q : Nat) (p1 p2 p3 : Int32) (Q : Int32 → am_TI → Prop), am_SH[q]? = some (.inl 6) → wp_Rows_value 6 I L R q p1 p2 p3 Q → am_Cm e 0 0 y_Rows_value b_Rows_value 8 (some .int) [.ref q, .int p1, .int p2, .int p3] (I, L, R, am_SH) (po_Rows_value L R Q) := fun e he => cm_Rows_valueK hw 6 e (by omega)
abbrev po_Rows_coinsOfGame (L : am_TL) (Q : Int32 → am_TI → am_TR → Prop) : Option Value → am_St → Prop := fun r σ' => ∃ (x : Int32) (I' : am_TI) (R' : am_TR), r = some (.int x) ∧ σ' = (I', L, R', am_SH) ∧ am_Wf R' ∧ Q x I' R'
def wp_Rows_coinsOfGame (I : am_TI) (L : am_TL) (R : am_TR) (q : Nat) (p1 : Nat) (p2 : Int32)  (Q : Int32 → am_TI → am_TR → Prop) : Prop := wp_Rows_setUp I L R q p1 (fun (I1 : am_TI) (R1 : am_TR) => wp_Rows_value 6 I1 L R1 q 0 p2 0 (fun (r1 : Int32) (I2 : am_TI) => Q r1 I2 R1))
set_option maxRecDepth 20000 in
theorem cm_Rows_coinsOfGame {d : Nat} {I : am_TI} {L : am_TL} {R : am_TR}  (hw : am_Wf R)   {q : Nat} {p1 : Nat} {p2 : Int32} {Q : Int32 → am_TI → am_TR → Prop} (hd : 25 ≤ d) (hq : am_SH[q]? = some (.inl 6)) (hp1 : am_SH[p1]? = some (.inl 7)) (h : wp_Rows_coinsOfGame I L R q p1 p2  Q) : am_Cm d 0 0 y_Rows_coinsOfGame b_Rows_coinsOfGame 3 (some .int) [.ref q, .ref p1, .int p2] (I, L, R, am_SH) (po_Rows_coinsOfGame L Q) := by
  refine am_Cm_of (ini := false) (by decide +kernel) (fun z => by cases z) (by simp [Value.category]) (fun r σ' z => by obtain ⟨x, _, _, rfl, -⟩ := z; exact ⟨_, rfl, rfl⟩) ?_
  unfold wp_Rows_coinsOfGame at h
  show am_Wp (d, "UnseenRing$Rows", b_Rows_coinsOfGame, 3, false) 0 0 0 [some (.ref q), some (.ref p1), some (.int p2)] [] (I, L, R, am_SH) (po_Rows_coinsOfGame L Q)
  refine am_aload_n (n := 1) d_Rows_coinsOfGame_0 rfl rfl ?_
  refine am_aload_n (n := 2) d_Rows_coinsOfGame_1 rfl rfl ?_
  refine am_callV (kc := 0) (ks := 0) (As := [.ref p1]) (n := 5) d_Rows_coinsOfGame_2 rfl ce_Rows_setUp lk_Rows_68 in_Rows_setUp rfl rfl hq rfl rfl (Nat.le_of_ble_eq_true rfl) (Or.inl rfl) (cm_Rows_setUp (d := d - 1) hw (by omega) hq hp1 h) (by omega) ?_
  rintro _ _ ⟨I1, R1, rfl, rfl, hw1, h⟩
  show am_Wp (d, "UnseenRing$Rows", b_Rows_coinsOfGame, 3, false) 0 0 5 [some (.ref q), some (.ref p1), some (.int p2)] [] (I1, L, R1, am_SH) (po_Rows_coinsOfGame L Q)
  refine am_aload_n (n := 6) d_Rows_coinsOfGame_5 rfl rfl ?_
  refine am_iconst (n := 7) d_Rows_coinsOfGame_6 ci_0 rfl ?_
  refine am_iload_n (n := 8) d_Rows_coinsOfGame_7 rfl rfl ?_
  refine am_iconst (n := 9) d_Rows_coinsOfGame_8 ci_0 rfl ?_
  refine am_callV (kc := 0) (ks := 0) (As := [.int 0, .int p2, .int 0]) (n := 12) d_Rows_coinsOfGame_9 rfl ce_Rows_value lk_Rows_72 in_Rows_value rfl rfl hq rfl rfl (Nat.le_of_ble_eq_true rfl) (Or.inl rfl) (cm_Rows_value (d := d - 1) hw1 6 (by omega) hq h) (by omega) ?_
  rintro _ _ ⟨r1, I2, rfl, rfl, h⟩
  show am_Wp (d, "UnseenRing$Rows", b_Rows_coinsOfGame, 3, false) 0 0 12 [some (.ref q), some (.ref p1), some (.int p2)] [.int r1] (I2, L, R1, am_SH) (po_Rows_coinsOfGame L Q)
  exact am_iret d_Rows_coinsOfGame_12 ⟨r1, I2, R1, rfl, rfl, hw1, h⟩
abbrev po_Rows_firstTuneOfGame (L : am_TL) (Q : Int32 → am_TI → am_TR → Prop) : Option Value → am_St → Prop := fun r σ' => ∃ (x : Int32) (I' : am_TI) (R' : am_TR), r = some (.int x) ∧ σ' = (I', L, R', am_SH) ∧ am_Wf R' ∧ Q x I' R'
def wl_Rows_firstTuneOfGame_13 (L : am_TL) (q : Nat) (p1 : Nat) (p2 : Int32) (Q : Int32 → am_TI → am_TR → Prop)  : Nat → am_TI → am_TR → Int32 → Int32 → Int32 → Prop
  | 0 => fun _ _ _ _ _ => False
  | f13 + 1 => fun I R v3 v4 v5 => (((I q 5) ≤ v5 → wp_Rows_value 6 I L R q 1 p2 0 (fun (r1 : Int32) (I2 : am_TI) => ((r1 ≤ v4 → Q v3 I2 R) ∧ (¬ r1 ≤ v4 → Q (-1) I2 R)))) ∧ (¬ (I q 5) ≤ v5 → wp_Rows_valueBehind I L R q v5 0 p2 0 (wp_Rows_value 6) (fun (r2 : Int32) (I3 : am_TI) => ((r2 ≤ v4 → wl_Rows_firstTuneOfGame_13 L q p1 p2 Q f13 I3 R v3 v4 (v5 + 1)) ∧ (¬ r2 ≤ v4 → wl_Rows_firstTuneOfGame_13 L q p1 p2 Q f13 I3 R v5 r2 (v5 + 1))))))
set_option maxRecDepth 20000 in
theorem tl_Rows_firstTuneOfGame_13 {d : Nat}  {L : am_TL} {q : Nat} {p1 : Nat} {p2 : Int32} {Q : Int32 → am_TI → am_TR → Prop}  (hq : am_SH[q]? = some (.inl 6)) (hp1 : am_SH[p1]? = some (.inl 7)) (hd : 27 ≤ d) : ∀ (n : Nat) (I : am_TI) (R : am_TR) (v3 : Int32) (v4 : Int32) (v5 : Int32) (hw : am_Wf R), wl_Rows_firstTuneOfGame_13 L q p1 p2 Q  n I R v3 v4 v5 → am_Wp (d, "UnseenRing$Rows", b_Rows_firstTuneOfGame, 7, false) 0 0 13 [some (.ref q), some (.ref p1), some (.int p2), some (.int v3), some (.int v4), some (.int v5), none] [] (I, L, R, am_SH) (po_Rows_firstTuneOfGame L Q) := by
  intro n
  induction n with
  | zero => intro I R v3 v4 v5 hw h; exact h.elim
  | succ n ih =>
    intro I R v3 v4 v5 hw h
    unfold wl_Rows_firstTuneOfGame_13 at h
    refine am_iload (n := 15) d_Rows_firstTuneOfGame_13 rfl rfl ?_
    refine am_aload_n (n := 16) d_Rows_firstTuneOfGame_15 rfl rfl ?_
    refine am_getI (n := 19) f_Rows_28 d_Rows_firstTuneOfGame_16 rfl rfl hq ?_
    refine am_icmp_ge (tgt := 53) (n := 22) d_Rows_firstTuneOfGame_19 rfl rfl (fun c1 => ?_) (fun c1 => ?_)
    · have h := h.1 c1
      refine am_aload_n (n := 54) d_Rows_firstTuneOfGame_53 rfl rfl ?_
      refine am_iconst (n := 55) d_Rows_firstTuneOfGame_54 ci_1 rfl ?_
      refine am_iload_n (n := 56) d_Rows_firstTuneOfGame_55 rfl rfl ?_
      refine am_iconst (n := 57) d_Rows_firstTuneOfGame_56 ci_0 rfl ?_
      refine am_callV (kc := 0) (ks := 0) (As := [.int 1, .int p2, .int 0]) (n := 60) d_Rows_firstTuneOfGame_57 rfl ce_Rows_value lk_Rows_72 in_Rows_value rfl rfl hq rfl rfl (Nat.le_of_ble_eq_true rfl) (Or.inl rfl) (cm_Rows_value (d := d - 1) hw 6 (by omega) hq h) (by omega) ?_
      rintro _ _ ⟨r1, I2, rfl, rfl, h⟩
      show am_Wp (d, "UnseenRing$Rows", b_Rows_firstTuneOfGame, 7, false) 0 0 60 [some (.ref q), some (.ref p1), some (.int p2), some (.int v3), some (.int v4), some (.int v5), none] [.int r1] (I2, L, R, am_SH) (po_Rows_firstTuneOfGame L Q)
      refine am_iload (n := 62) d_Rows_firstTuneOfGame_60 rfl rfl ?_
      refine am_icmp_le (tgt := 69) (n := 65) d_Rows_firstTuneOfGame_62 rfl rfl (fun c2 => ?_) (fun c2 => ?_)
      · have h := h.1 c2
        refine am_iload_n (n := 70) d_Rows_firstTuneOfGame_69 rfl rfl ?_
        exact am_iret d_Rows_firstTuneOfGame_70 ⟨v3, I2, R, rfl, rfl, hw, h⟩
      · have h := h.2 c2
        refine am_iconst (n := 66) d_Rows_firstTuneOfGame_65 ci_m1 rfl ?_
        refine am_goto (tgt := 70) d_Rows_firstTuneOfGame_66 rfl ?_
        exact am_iret d_Rows_firstTuneOfGame_70 ⟨(-1), I2, R, rfl, rfl, hw, h⟩
    · have h := h.2 c1
      refine am_aload_n (n := 23) d_Rows_firstTuneOfGame_22 rfl rfl ?_
      refine am_iload (n := 25) d_Rows_firstTuneOfGame_23 rfl rfl ?_
      refine am_iconst (n := 26) d_Rows_firstTuneOfGame_25 ci_0 rfl ?_
      refine am_iload_n (n := 27) d_Rows_firstTuneOfGame_26 rfl rfl ?_
      refine am_iconst (n := 28) d_Rows_firstTuneOfGame_27 ci_0 rfl ?_
      refine am_callV (kc := 0) (ks := 0) (As := [.int v5, .int 0, .int p2, .int 0]) (n := 31) d_Rows_firstTuneOfGame_28 rfl ce_Rows_valueBehind lk_Rows_75 in_Rows_valueBehind rfl rfl hq rfl rfl (Nat.le_of_ble_eq_true rfl) (Or.inl rfl) (cm_Rows_valueBehind (d := d - 1) (hb := 24) hw (am_hV hw) (by omega) hq h) (by omega) ?_
      rintro _ _ ⟨r2, I3, rfl, rfl, h⟩
      show am_Wp (d, "UnseenRing$Rows", b_Rows_firstTuneOfGame, 7, false) 0 0 31 [some (.ref q), some (.ref p1), some (.int p2), some (.int v3), some (.int v4), some (.int v5), none] [.int r2] (I3, L, R, am_SH) (po_Rows_firstTuneOfGame L Q)
      refine am_istore (ls' := [some (.ref q), some (.ref p1), some (.int p2), some (.int v3), some (.int v4), some (.int v5), some (.int r2)]) (n := 33) d_Rows_firstTuneOfGame_31 (by decide) rfl rfl ?_
      refine am_iload (n := 35) d_Rows_firstTuneOfGame_33 rfl rfl ?_
      refine am_iload (n := 37) d_Rows_firstTuneOfGame_35 rfl rfl ?_
      refine am_icmp_le (tgt := 47) (n := 40) d_Rows_firstTuneOfGame_37 rfl rfl (fun c3 => ?_) (fun c3 => ?_)
      · have h := h.1 c3
        refine am_iinc (v := v5 + 1) (ls' := [some (.ref q), some (.ref p1), some (.int p2), some (.int v3), some (.int v4), some (.int (v5 + 1)), some (.int r2)]) (n := 50) d_Rows_firstTuneOfGame_47 rfl (congrArg _ ci_1) (by decide) rfl rfl ?_
        refine am_goto (tgt := 13) d_Rows_firstTuneOfGame_50 rfl ?_
        refine am_forget (ls' := [some (.ref q), some (.ref p1), some (.int p2), some (.int v3), some (.int v4), some (.int (v5 + 1)), none]) (am_le_s (am_le_s (am_le_s (am_le_s (am_le_s (am_le_s (am_le_n am_le_e))))))) ?_
        exact ih I3 R v3 v4 (v5 + 1) hw h
      · have h := h.2 c3
        refine am_iload (n := 42) d_Rows_firstTuneOfGame_40 rfl rfl ?_
        refine am_istore_n (ls' := [some (.ref q), some (.ref p1), some (.int p2), some (.int v5), some (.int v4), some (.int v5), some (.int r2)]) (n := 43) d_Rows_firstTuneOfGame_42 (by decide) rfl rfl ?_
        refine am_iload (n := 45) d_Rows_firstTuneOfGame_43 rfl rfl ?_
        refine am_istore (ls' := [some (.ref q), some (.ref p1), some (.int p2), some (.int v5), some (.int r2), some (.int v5), some (.int r2)]) (n := 47) d_Rows_firstTuneOfGame_45 (by decide) rfl rfl ?_
        refine am_iinc (v := v5 + 1) (ls' := [some (.ref q), some (.ref p1), some (.int p2), some (.int v5), some (.int r2), some (.int (v5 + 1)), some (.int r2)]) (n := 50) d_Rows_firstTuneOfGame_47 rfl (congrArg _ ci_1) (by decide) rfl rfl ?_
        refine am_goto (tgt := 13) d_Rows_firstTuneOfGame_50 rfl ?_
        refine am_forget (ls' := [some (.ref q), some (.ref p1), some (.int p2), some (.int v5), some (.int r2), some (.int (v5 + 1)), none]) (am_le_s (am_le_s (am_le_s (am_le_s (am_le_s (am_le_s (am_le_n am_le_e))))))) ?_
        exact ih I3 R v5 r2 (v5 + 1) hw h
def wp_Rows_firstTuneOfGame (I : am_TI) (L : am_TL) (R : am_TR) (q : Nat) (p1 : Nat) (p2 : Int32)  (Q : Int32 → am_TI → am_TR → Prop) : Prop := wp_Rows_setUp I L R q p1 (fun (I1 : am_TI) (R1 : am_TR) => (∃ z, wl_Rows_firstTuneOfGame_13 L q p1 p2 Q z I1 R1 (-1) (-1) 0))
set_option maxRecDepth 20000 in
theorem cm_Rows_firstTuneOfGame {d : Nat} {I : am_TI} {L : am_TL} {R : am_TR}  (hw : am_Wf R)   {q : Nat} {p1 : Nat} {p2 : Int32} {Q : Int32 → am_TI → am_TR → Prop} (hd : 27 ≤ d) (hq : am_SH[q]? = some (.inl 6)) (hp1 : am_SH[p1]? = some (.inl 7)) (h : wp_Rows_firstTuneOfGame I L R q p1 p2  Q) : am_Cm d 0 0 y_Rows_firstTuneOfGame b_Rows_firstTuneOfGame 7 (some .int) [.ref q, .ref p1, .int p2] (I, L, R, am_SH) (po_Rows_firstTuneOfGame L Q) := by
  refine am_Cm_of (ini := false) (by decide +kernel) (fun z => by cases z) (by simp [Value.category]) (fun r σ' z => by obtain ⟨x, _, _, rfl, -⟩ := z; exact ⟨_, rfl, rfl⟩) ?_
  unfold wp_Rows_firstTuneOfGame at h
  show am_Wp (d, "UnseenRing$Rows", b_Rows_firstTuneOfGame, 7, false) 0 0 0 [some (.ref q), some (.ref p1), some (.int p2), none, none, none, none] [] (I, L, R, am_SH) (po_Rows_firstTuneOfGame L Q)
  refine am_aload_n (n := 1) d_Rows_firstTuneOfGame_0 rfl rfl ?_
  refine am_aload_n (n := 2) d_Rows_firstTuneOfGame_1 rfl rfl ?_
  refine am_callV (kc := 0) (ks := 0) (As := [.ref p1]) (n := 5) d_Rows_firstTuneOfGame_2 rfl ce_Rows_setUp lk_Rows_68 in_Rows_setUp rfl rfl hq rfl rfl (Nat.le_of_ble_eq_true rfl) (Or.inl rfl) (cm_Rows_setUp (d := d - 1) hw (by omega) hq hp1 h) (by omega) ?_
  rintro _ _ ⟨I1, R1, rfl, rfl, hw1, h⟩
  show am_Wp (d, "UnseenRing$Rows", b_Rows_firstTuneOfGame, 7, false) 0 0 5 [some (.ref q), some (.ref p1), some (.int p2), none, none, none, none] [] (I1, L, R1, am_SH) (po_Rows_firstTuneOfGame L Q)
  refine am_iconst (n := 6) d_Rows_firstTuneOfGame_5 ci_m1 rfl ?_
  refine am_istore_n (ls' := [some (.ref q), some (.ref p1), some (.int p2), some (.int (-1)), none, none, none]) (n := 7) d_Rows_firstTuneOfGame_6 (by decide) rfl rfl ?_
  refine am_iconst (n := 8) d_Rows_firstTuneOfGame_7 ci_m1 rfl ?_
  refine am_istore (ls' := [some (.ref q), some (.ref p1), some (.int p2), some (.int (-1)), some (.int (-1)), none, none]) (n := 10) d_Rows_firstTuneOfGame_8 (by decide) rfl rfl ?_
  refine am_iconst (n := 11) d_Rows_firstTuneOfGame_10 ci_0 rfl ?_
  refine am_istore (ls' := [some (.ref q), some (.ref p1), some (.int p2), some (.int (-1)), some (.int (-1)), some (.int 0), none]) (n := 13) d_Rows_firstTuneOfGame_11 (by decide) rfl rfl ?_
  obtain ⟨n, h⟩ := h
  exact tl_Rows_firstTuneOfGame_13 hq hp1 hd n I1 R1 (-1) (-1) 0 hw1 h
abbrev po_U_game (L : am_TL) (Q : Int32 → am_TI → am_TR → Prop) : Option Value → am_St → Prop := fun r σ' => ∃ (x : Int32) (I' : am_TI) (R' : am_TR), r = some (.int x) ∧ σ' = (I', L, R', am_SH) ∧ am_Wf R' ∧ Q x I' R'
def wp_U_game (I : am_TI) (L : am_TL) (R : am_TR) (q : Nat) (p1 : Int32)  (Q : Int32 → am_TI → am_TR → Prop) : Prop := wp_U_within I L R p1 0 4 (fun (r1 : Bool) => ((r1 = false → wp_U_refused I L R q 1 (fun (r4 : Int32) (I3 : am_TI) => Q r4 I3 R)) ∧ (r1 = true → wp_Rows_coinsOfGame I L R (q + 16) (am_rd R q 11) p1 (fun (r2 : Int32) (I1 : am_TI) (R1 : am_TR) => wp_U_answered I1 L R1 q r2 (fun (r3 : Int32) (I2 : am_TI) => Q r3 I2 R1)))))
set_option maxRecDepth 20000 in
theorem cm_U_game {d : Nat} {I : am_TI} {L : am_TL} {R : am_TR}  (hw : am_Wf R)   {q : Nat} {p1 : Int32} {Q : Int32 → am_TI → am_TR → Prop} (hd : 26 ≤ d) (hq : am_SH[q]? = some (.inl 11)) (h : wp_U_game I L R q p1  Q) : am_Cm d 0 0 y_U_game b_U_game 2 (some .int) [.ref q, .int p1] (I, L, R, am_SH) (po_U_game L Q) := by
  refine am_Cm_of (ini := false) (by decide +kernel) (fun z => by cases z) (by simp [Value.category]) (fun r σ' z => by obtain ⟨x, _, _, rfl, -⟩ := z; exact ⟨_, rfl, rfl⟩) ?_
  unfold wp_U_game at h
  show am_Wp (d, "UnseenRing", b_U_game, 2, false) 0 0 0 [some (.ref q), some (.int p1)] [] (I, L, R, am_SH) (po_U_game L Q)
  refine am_iload_n (n := 1) d_U_game_0 rfl rfl ?_
  refine am_iconst (n := 2) d_U_game_1 ci_0 rfl ?_
  refine am_iconst (n := 3) d_U_game_2 ci_4 rfl ?_
  refine am_callS (kc := 0) (ks := 0) (As := [.int p1, .int 0, .int 4]) (n := 6) d_U_game_3 rfl ce_U_within lk_U_114 st_U_within rfl rfl (Nat.le_of_ble_eq_true rfl) (Or.inl rfl) (cm_U_within (d := d - 1) hw (by omega)  h) (by omega) ?_
  rintro _ _ ⟨r1, rfl, rfl, h⟩
  show am_Wp (d, "UnseenRing", b_U_game, 2, false) 0 0 6 [some (.ref q), some (.int p1)] [.int (am_b r1)] (I, L, R, am_SH) (po_U_game L Q)
  refine am_if_ne (y := 0) (tgt := 15) (n := 9) d_U_game_6 rfl rfl (fun c1 => ?_) (fun c1 => ?_)
  · have h := h.2 (am_b_n0 c1)
    refine am_aload_n (n := 16) d_U_game_15 rfl rfl ?_
    refine am_aload_n (n := 17) d_U_game_16 rfl rfl ?_
    refine am_getR (x := (q + 16)) (n := 20) f_U_55 d_U_game_17 rfl rfl hq (hw.1 q 11 7 16 hq rfl) ?_
    refine am_aload_n (n := 21) d_U_game_20 rfl rfl ?_
    refine am_getR (x := (am_rd R q 11)) (n := 24) f_U_81 d_U_game_21 rfl rfl hq (hw.rd (k := 11) hq rfl).1 ?_
    refine am_iload_n (n := 25) d_U_game_24 rfl rfl ?_
    refine am_callV (kc := 0) (ks := 0) (As := [.ref (am_rd R q 11), .int p1]) (n := 28) d_U_game_25 rfl ce_Rows_coinsOfGame lk_U_374 in_Rows_coinsOfGame rfl rfl (am_sho (k := 7) (o := 16) hq (by decide) (by decide) (by decide) rfl) rfl rfl (Nat.le_of_ble_eq_true rfl) (Or.inl rfl) (cm_Rows_coinsOfGame (d := d - 1) hw (by omega) (am_sho (k := 7) (o := 16) hq (by decide) (by decide) (by decide) rfl) (hw.rd (k := 11) hq rfl).2 h) (by omega) ?_
    rintro _ _ ⟨r2, I1, R1, rfl, rfl, hw1, h⟩
    show am_Wp (d, "UnseenRing", b_U_game, 2, false) 0 0 28 [some (.ref q), some (.int p1)] [.int r2, .ref q] (I1, L, R1, am_SH) (po_U_game L Q)
    refine am_callV (kc := 0) (ks := 0) (As := [.int r2]) (n := 31) d_U_game_28 rfl ce_U_answered lk_U_184 in_U_answered rfl rfl hq rfl rfl (Nat.le_of_ble_eq_true rfl) (Or.inl rfl) (cm_U_answered (d := d - 1) hw1 (by omega) hq h) (by omega) ?_
    rintro _ _ ⟨r3, I2, rfl, rfl, h⟩
    show am_Wp (d, "UnseenRing", b_U_game, 2, false) 0 0 31 [some (.ref q), some (.int p1)] [.int r3] (I2, L, R1, am_SH) (po_U_game L Q)
    exact am_iret d_U_game_31 ⟨r3, I2, R1, rfl, rfl, hw1, h⟩
  · have h := h.1 (am_b_0 c1)
    refine am_aload_n (n := 10) d_U_game_9 rfl rfl ?_
    refine am_iconst (n := 11) d_U_game_10 ci_1 rfl ?_
    refine am_callV (kc := 0) (ks := 0) (As := [.int 1]) (n := 14) d_U_game_11 rfl ce_U_refused lk_U_133 in_U_refused rfl rfl hq rfl rfl (Nat.le_of_ble_eq_true rfl) (Or.inl rfl) (cm_U_refused (d := d - 1) hw (by omega) hq h) (by omega) ?_
    rintro _ _ ⟨r4, I3, rfl, rfl, h⟩
    show am_Wp (d, "UnseenRing", b_U_game, 2, false) 0 0 14 [some (.ref q), some (.int p1)] [.int r4] (I3, L, R, am_SH) (po_U_game L Q)
    exact am_iret d_U_game_14 ⟨r4, I3, R, rfl, rfl, hw, h⟩
abbrev po_U_moveOf (L : am_TL) (Q : Int32 → am_TI → am_TR → Prop) : Option Value → am_St → Prop := fun r σ' => ∃ (x : Int32) (I' : am_TI) (R' : am_TR), r = some (.int x) ∧ σ' = (I', L, R', am_SH) ∧ am_Wf R' ∧ Q x I' R'
def wp_U_moveOf (I : am_TI) (L : am_TL) (R : am_TR) (q : Nat) (p1 : Int32)  (Q : Int32 → am_TI → am_TR → Prop) : Prop := wp_U_within I L R p1 1 4 (fun (r1 : Bool) => ((r1 = false → wp_U_refused I L R q 1 (fun (r4 : Int32) (I3 : am_TI) => Q r4 I3 R)) ∧ (r1 = true → wp_Rows_firstTuneOfGame I L R (q + 16) (am_rd R q 11) p1 (fun (r2 : Int32) (I1 : am_TI) (R1 : am_TR) => wp_U_answeredIfThereIs I1 L R1 q r2 (fun (r3 : Int32) (I2 : am_TI) => Q r3 I2 R1)))))
set_option maxRecDepth 20000 in
theorem cm_U_moveOf {d : Nat} {I : am_TI} {L : am_TL} {R : am_TR}  (hw : am_Wf R)   {q : Nat} {p1 : Int32} {Q : Int32 → am_TI → am_TR → Prop} (hd : 28 ≤ d) (hq : am_SH[q]? = some (.inl 11)) (h : wp_U_moveOf I L R q p1  Q) : am_Cm d 0 0 y_U_moveOf b_U_moveOf 2 (some .int) [.ref q, .int p1] (I, L, R, am_SH) (po_U_moveOf L Q) := by
  refine am_Cm_of (ini := false) (by decide +kernel) (fun z => by cases z) (by simp [Value.category]) (fun r σ' z => by obtain ⟨x, _, _, rfl, -⟩ := z; exact ⟨_, rfl, rfl⟩) ?_
  unfold wp_U_moveOf at h
  show am_Wp (d, "UnseenRing", b_U_moveOf, 2, false) 0 0 0 [some (.ref q), some (.int p1)] [] (I, L, R, am_SH) (po_U_moveOf L Q)
  refine am_iload_n (n := 1) d_U_moveOf_0 rfl rfl ?_
  refine am_iconst (n := 2) d_U_moveOf_1 ci_1 rfl ?_
  refine am_iconst (n := 3) d_U_moveOf_2 ci_4 rfl ?_
  refine am_callS (kc := 0) (ks := 0) (As := [.int p1, .int 1, .int 4]) (n := 6) d_U_moveOf_3 rfl ce_U_within lk_U_114 st_U_within rfl rfl (Nat.le_of_ble_eq_true rfl) (Or.inl rfl) (cm_U_within (d := d - 1) hw (by omega)  h) (by omega) ?_
  rintro _ _ ⟨r1, rfl, rfl, h⟩
  show am_Wp (d, "UnseenRing", b_U_moveOf, 2, false) 0 0 6 [some (.ref q), some (.int p1)] [.int (am_b r1)] (I, L, R, am_SH) (po_U_moveOf L Q)
  refine am_if_ne (y := 0) (tgt := 15) (n := 9) d_U_moveOf_6 rfl rfl (fun c1 => ?_) (fun c1 => ?_)
  · have h := h.2 (am_b_n0 c1)
    refine am_aload_n (n := 16) d_U_moveOf_15 rfl rfl ?_
    refine am_aload_n (n := 17) d_U_moveOf_16 rfl rfl ?_
    refine am_getR (x := (q + 16)) (n := 20) f_U_55 d_U_moveOf_17 rfl rfl hq (hw.1 q 11 7 16 hq rfl) ?_
    refine am_aload_n (n := 21) d_U_moveOf_20 rfl rfl ?_
    refine am_getR (x := (am_rd R q 11)) (n := 24) f_U_81 d_U_moveOf_21 rfl rfl hq (hw.rd (k := 11) hq rfl).1 ?_
    refine am_iload_n (n := 25) d_U_moveOf_24 rfl rfl ?_
    refine am_callV (kc := 0) (ks := 0) (As := [.ref (am_rd R q 11), .int p1]) (n := 28) d_U_moveOf_25 rfl ce_Rows_firstTuneOfGame lk_U_377 in_Rows_firstTuneOfGame rfl rfl (am_sho (k := 7) (o := 16) hq (by decide) (by decide) (by decide) rfl) rfl rfl (Nat.le_of_ble_eq_true rfl) (Or.inl rfl) (cm_Rows_firstTuneOfGame (d := d - 1) hw (by omega) (am_sho (k := 7) (o := 16) hq (by decide) (by decide) (by decide) rfl) (hw.rd (k := 11) hq rfl).2 h) (by omega) ?_
    rintro _ _ ⟨r2, I1, R1, rfl, rfl, hw1, h⟩
    show am_Wp (d, "UnseenRing", b_U_moveOf, 2, false) 0 0 28 [some (.ref q), some (.int p1)] [.int r2, .ref q] (I1, L, R1, am_SH) (po_U_moveOf L Q)
    refine am_callV (kc := 0) (ks := 0) (As := [.int r2]) (n := 31) d_U_moveOf_28 rfl ce_U_answeredIfThereIs lk_U_301 in_U_answeredIfThereIs rfl rfl hq rfl rfl (Nat.le_of_ble_eq_true rfl) (Or.inl rfl) (cm_U_answeredIfThereIs (d := d - 1) hw1 (by omega) hq h) (by omega) ?_
    rintro _ _ ⟨r3, I2, rfl, rfl, h⟩
    show am_Wp (d, "UnseenRing", b_U_moveOf, 2, false) 0 0 31 [some (.ref q), some (.int p1)] [.int r3] (I2, L, R1, am_SH) (po_U_moveOf L Q)
    exact am_iret d_U_moveOf_31 ⟨r3, I2, R1, rfl, rfl, hw1, h⟩
  · have h := h.1 (am_b_0 c1)
    refine am_aload_n (n := 10) d_U_moveOf_9 rfl rfl ?_
    refine am_iconst (n := 11) d_U_moveOf_10 ci_1 rfl ?_
    refine am_callV (kc := 0) (ks := 0) (As := [.int 1]) (n := 14) d_U_moveOf_11 rfl ce_U_refused lk_U_133 in_U_refused rfl rfl hq rfl rfl (Nat.le_of_ble_eq_true rfl) (Or.inl rfl) (cm_U_refused (d := d - 1) hw (by omega) hq h) (by omega) ?_
    rintro _ _ ⟨r4, I3, rfl, rfl, h⟩
    show am_Wp (d, "UnseenRing", b_U_moveOf, 2, false) 0 0 14 [some (.ref q), some (.int p1)] [.int r4] (I3, L, R, am_SH) (po_U_moveOf L Q)
    exact am_iret d_U_moveOf_14 ⟨r4, I3, R, rfl, rfl, hw, h⟩
