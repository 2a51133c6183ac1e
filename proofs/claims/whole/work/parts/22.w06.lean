abbrev po_M_plays (L : am_TL) (R : am_TR) (Q : Int32 → am_TI → Prop) : Option Value → am_St → Prop := fun r σ' => ∃ (x : Int32) (I' : am_TI), r = some (.int x) ∧ σ' = (I', L, R, am_SH) ∧ Q x I'
def wl_M_plays_4 (L : am_TL) (R : am_TR) (q : Nat) (p1 : Int32) (Q : Int32 → am_TI → Prop)  : Nat → am_TI → Int32 → Int32 → Prop
  | 0 => fun _ _ _ => False
  | f4 + 1 => fun I v2 v3 => (((I (q + 1) 3) ≤ v3 → (∀ I1, I1 = am_u2 I (q + 1) 8 (am_min 9999 ((I (q + 1) 8) + v2)) → (∀ I2, I2 = am_u2 I1 (q + 1) 9 ((I1 (q + 1) 9) + 1) → Q v2 I2))) ∧ (¬ (I (q + 1) 3) ≤ v3 → wp_M_hearerRow I L R v3 (fun (r1 : Int32) => (vp_in (r1 + 1) 2258 ∧ wp_M_isIn I L R q (I (q + 1) (Int32.toNatClampNeg (r1 + 1))) p1 (fun (r2 : Bool) => ((r2 = false → wl_M_plays_4 L R q p1 Q f4 I v2 (v3 + 1)) ∧ (r2 = true → (vp_in r1 2258 ∧ (((I (q + 1) (Int32.toNatClampNeg r1)) = (I (q + 1) 6) → (vp_in (r1 + 2) 2258 ∧ (((I (q + 1) (Int32.toNatClampNeg (r1 + 2))) ≤ 0 → wl_M_plays_4 L R q p1 Q f4 I v2 (v3 + 1)) ∧ (¬ (I (q + 1) (Int32.toNatClampNeg (r1 + 2))) ≤ 0 → (vp_in (r1 + 2) 2258 ∧ (vp_in (r1 + 2) 2258 ∧ (∀ I3, I3 = am_u2 I (q + 1) (Int32.toNatClampNeg (r1 + 2)) ((I (q + 1) (Int32.toNatClampNeg (r1 + 2))) - 1) → wl_M_plays_4 L R q p1 Q f4 I3 (v2 + 1) (v3 + 1)))))))) ∧ (¬ (I (q + 1) (Int32.toNatClampNeg r1)) = (I (q + 1) 6) → (vp_in r1 2258 ∧ wp_M_nearer I L R q (I (q + 1) (Int32.toNatClampNeg r1)) (fun (r3 : Int32) => (vp_in r1 2258 ∧ (∀ I4, I4 = am_u2 I (q + 1) (Int32.toNatClampNeg r1) r3 → wl_M_plays_4 L R q p1 Q f4 I4 v2 (v3 + 1)))))))))))))))
set_option maxRecDepth 20000 in
theorem tl_M_plays_4 {d : Nat}  {L : am_TL} {R : am_TR} {q : Nat} {p1 : Int32} {Q : Int32 → am_TI → Prop}  (hw : am_Wf R) (hq : am_SH[q]? = some (.inl 12)) (hd : 1 ≤ d) : ∀ (n : Nat) (I : am_TI) (v2 : Int32) (v3 : Int32), wl_M_plays_4 L R q p1 Q  n I v2 v3 → am_Wp (d, "UnseenRingModel", b_M_plays, 5, false) 0 0 4 [some (.ref q), some (.int p1), some (.int v2), some (.int v3), none] [] (I, L, R, am_SH) (po_M_plays L R Q) := by
  intro n
  induction n with
  | zero => intro I v2 v3 h; exact h.elim
  | succ n ih =>
    intro I v2 v3 h
    unfold wl_M_plays_4 at h
    refine am_iload_n (n := 5) d_M_plays_4 rfl rfl ?_
    refine am_aload_n (n := 6) d_M_plays_5 rfl rfl ?_
    refine am_getR (x := (q + 1)) (n := 9) f_M_7 d_M_plays_6 rfl rfl hq (hw.1 q 12 0 1 hq rfl) ?_
    refine am_iconst (n := 10) d_M_plays_9 ci_3 rfl ?_
    refine am_iald2 (n := 11) d_M_plays_10 rfl (am_sho (k := 0) (o := 1) hq (by decide) (by decide) (by decide) rfl) cx_3_2258 cn_3 ?_
    refine am_icmp_ge (tgt := 112) (n := 14) d_M_plays_11 rfl rfl (fun c1 => ?_) (fun c1 => ?_)
    · have h := h.1 c1
      refine am_aload_n (n := 113) d_M_plays_112 rfl rfl ?_
      refine am_getR (x := (q + 1)) (n := 116) f_M_7 d_M_plays_113 rfl rfl hq (hw.1 q 12 0 1 hq rfl) ?_
      refine am_bipush (n := 118) d_M_plays_116 cb_8 rfl ?_
      refine am_sipush (n := 121) d_M_plays_118 cs_9999 rfl ?_
      refine am_aload_n (n := 122) d_M_plays_121 rfl rfl ?_
      refine am_getR (x := (q + 1)) (n := 125) f_M_7 d_M_plays_122 rfl rfl hq (hw.1 q 12 0 1 hq rfl) ?_
      refine am_bipush (n := 127) d_M_plays_125 cb_8 rfl ?_
      refine am_iald2 (n := 128) d_M_plays_127 rfl (am_sho (k := 0) (o := 1) hq (by decide) (by decide) (by decide) rfl) cx_8_2258 cn_8 ?_
      refine am_iload_n (n := 129) d_M_plays_128 rfl rfl ?_
      refine am_iadd (n := 130) d_M_plays_129 rfl ?_
      refine am_mmin2 (n := 133) d_M_plays_130 rfl lm_M_176 (Nat.le_of_ble_eq_true rfl) (by omega) ?_
      refine am_iast2 (n := 134) d_M_plays_133 rfl (am_sho (k := 0) (o := 1) hq (by decide) (by decide) (by decide) rfl) cx_8_2258 cn_8 ?_
      generalize eI1 : am_u2 I (q + 1) 8 (am_min 9999 ((I (q + 1) 8) + v2)) = I1
      have h := h I1 eI1.symm
      refine am_aload_n (n := 135) d_M_plays_134 rfl rfl ?_
      refine am_getR (x := (q + 1)) (n := 138) f_M_7 d_M_plays_135 rfl rfl hq (hw.1 q 12 0 1 hq rfl) ?_
      refine am_bipush (n := 140) d_M_plays_138 cb_9 rfl ?_
      refine am_dup2 (n := 141) d_M_plays_140 rfl rfl rfl ?_
      refine am_iald2 (n := 142) d_M_plays_141 rfl (am_sho (k := 0) (o := 1) hq (by decide) (by decide) (by decide) rfl) cx_9_2258 cn_9 ?_
      refine am_iconst (n := 143) d_M_plays_142 ci_1 rfl ?_
      refine am_iadd (n := 144) d_M_plays_143 rfl ?_
      refine am_iast2 (n := 145) d_M_plays_144 rfl (am_sho (k := 0) (o := 1) hq (by decide) (by decide) (by decide) rfl) cx_9_2258 cn_9 ?_
      generalize eI2 : am_u2 I1 (q + 1) 9 ((I1 (q + 1) 9) + 1) = I2
      have h := h I2 eI2.symm
      refine am_iload_n (n := 146) d_M_plays_145 rfl rfl ?_
      exact am_iret d_M_plays_146 ⟨v2, I2, rfl, rfl, h⟩
    · have h := h.2 c1
      refine am_iload_n (n := 15) d_M_plays_14 rfl rfl ?_
      refine am_callS (kc := 0) (ks := 0) (As := [.int v3]) (n := 18) d_M_plays_15 rfl ce_M_hearerRow lk_M_241 st_M_hearerRow rfl rfl (Nat.le_of_ble_eq_true rfl) (Or.inl rfl) (cm_M_hearerRow (d := d - 1) hw (by omega)  h) (by omega) ?_
      rintro _ _ ⟨r1, rfl, rfl, h⟩
      show am_Wp (d, "UnseenRingModel", b_M_plays, 5, false) 0 0 18 [some (.ref q), some (.int p1), some (.int v2), some (.int v3), none] [.int r1] (I, L, R, am_SH) (po_M_plays L R Q)
      refine am_istore (ls' := [some (.ref q), some (.int p1), some (.int v2), some (.int v3), some (.int r1)]) (n := 20) d_M_plays_18 (by decide) rfl rfl ?_
      refine am_aload_n (n := 21) d_M_plays_20 rfl rfl ?_
      refine am_aload_n (n := 22) d_M_plays_21 rfl rfl ?_
      refine am_getR (x := (q + 1)) (n := 25) f_M_7 d_M_plays_22 rfl rfl hq (hw.1 q 12 0 1 hq rfl) ?_
      refine am_iload (n := 27) d_M_plays_25 rfl rfl ?_
      refine am_iconst (n := 28) d_M_plays_27 ci_1 rfl ?_
      refine am_iadd (n := 29) d_M_plays_28 rfl ?_
      obtain ⟨g1, h⟩ := h
      refine am_iald2 (n := 30) d_M_plays_29 rfl (am_sho (k := 0) (o := 1) hq (by decide) (by decide) (by decide) rfl) g1 rfl ?_
      refine am_iload_n (n := 31) d_M_plays_30 rfl rfl ?_
      refine am_callV (kc := 0) (ks := 0) (As := [.int (I (q + 1) (Int32.toNatClampNeg (r1 + 1))), .int p1]) (n := 34) d_M_plays_31 rfl ce_M_isIn lk_M_251 in_M_isIn rfl rfl hq rfl rfl (Nat.le_of_ble_eq_true rfl) (Or.inl rfl) (cm_M_isIn (d := d - 1) hw (by omega) hq h) (by omega) ?_
      rintro _ _ ⟨r2, rfl, rfl, h⟩
      show am_Wp (d, "UnseenRingModel", b_M_plays, 5, false) 0 0 34 [some (.ref q), some (.int p1), some (.int v2), some (.int v3), some (.int r1)] [.int (am_b r2)] (I, L, R, am_SH) (po_M_plays L R Q)
      refine am_if_ne (y := 0) (tgt := 40) (n := 37) d_M_plays_34 rfl rfl (fun c2 => ?_) (fun c2 => ?_)
      · have h := h.2 (am_b_n0 c2)
        refine am_aload_n (n := 41) d_M_plays_40 rfl rfl ?_
        refine am_getR (x := (q + 1)) (n := 44) f_M_7 d_M_plays_41 rfl rfl hq (hw.1 q 12 0 1 hq rfl) ?_
        refine am_iload (n := 46) d_M_plays_44 rfl rfl ?_
        obtain ⟨g2, h⟩ := h
        refine am_iald2 (n := 47) d_M_plays_46 rfl (am_sho (k := 0) (o := 1) hq (by decide) (by decide) (by decide) rfl) g2 rfl ?_
        refine am_aload_n (n := 48) d_M_plays_47 rfl rfl ?_
        refine am_getR (x := (q + 1)) (n := 51) f_M_7 d_M_plays_48 rfl rfl hq (hw.1 q 12 0 1 hq rfl) ?_
        refine am_bipush (n := 53) d_M_plays_51 cb_6 rfl ?_
        refine am_iald2 (n := 54) d_M_plays_53 rfl (am_sho (k := 0) (o := 1) hq (by decide) (by decide) (by decide) rfl) cx_6_2258 cn_6 ?_
        refine am_icmp_eq (tgt := 78) (n := 57) d_M_plays_54 rfl rfl (fun c3 => ?_) (fun c3 => ?_)
        · have h := h.1 c3
          refine am_aload_n (n := 79) d_M_plays_78 rfl rfl ?_
          refine am_getR (x := (q + 1)) (n := 82) f_M_7 d_M_plays_79 rfl rfl hq (hw.1 q 12 0 1 hq rfl) ?_
          refine am_iload (n := 84) d_M_plays_82 rfl rfl ?_
          refine am_iconst (n := 85) d_M_plays_84 ci_2 rfl ?_
          refine am_iadd (n := 86) d_M_plays_85 rfl ?_
          obtain ⟨g3, h⟩ := h
          refine am_iald2 (n := 87) d_M_plays_86 rfl (am_sho (k := 0) (o := 1) hq (by decide) (by decide) (by decide) rfl) g3 rfl ?_
          refine am_if_le (y := 0) (tgt := 106) (n := 90) d_M_plays_87 rfl rfl (fun c4 => ?_) (fun c4 => ?_)
          · have h := h.1 c4
            refine am_iinc (v := v3 + 1) (ls' := [some (.ref q), some (.int p1), some (.int v2), some (.int (v3 + 1)), some (.int r1)]) (n := 109) d_M_plays_106 rfl (congrArg _ ci_1) (by decide) rfl rfl ?_
            refine am_goto (tgt := 4) d_M_plays_109 rfl ?_
            refine am_forget (ls' := [some (.ref q), some (.int p1), some (.int v2), some (.int (v3 + 1)), none]) (am_le_s (am_le_s (am_le_s (am_le_s (am_le_n am_le_e))))) ?_
            exact ih I v2 (v3 + 1)  h
          · have h := h.2 c4
            refine am_aload_n (n := 91) d_M_plays_90 rfl rfl ?_
            refine am_getR (x := (q + 1)) (n := 94) f_M_7 d_M_plays_91 rfl rfl hq (hw.1 q 12 0 1 hq rfl) ?_
            refine am_iload (n := 96) d_M_plays_94 rfl rfl ?_
            refine am_iconst (n := 97) d_M_plays_96 ci_2 rfl ?_
            refine am_iadd (n := 98) d_M_plays_97 rfl ?_
            refine am_dup2 (n := 99) d_M_plays_98 rfl rfl rfl ?_
            obtain ⟨g4, h⟩ := h
            refine am_iald2 (n := 100) d_M_plays_99 rfl (am_sho (k := 0) (o := 1) hq (by decide) (by decide) (by decide) rfl) g4 rfl ?_
            refine am_iconst (n := 101) d_M_plays_100 ci_1 rfl ?_
            refine am_isub (n := 102) d_M_plays_101 rfl ?_
            obtain ⟨g5, h⟩ := h
            refine am_iast2 (n := 103) d_M_plays_102 rfl (am_sho (k := 0) (o := 1) hq (by decide) (by decide) (by decide) rfl) g5 rfl ?_
            generalize eI3 : am_u2 I (q + 1) (Int32.toNatClampNeg (r1 + 2)) ((I (q + 1) (Int32.toNatClampNeg (r1 + 2))) - 1) = I3
            have h := h I3 eI3.symm
            refine am_iinc (v := v2 + 1) (ls' := [some (.ref q), some (.int p1), some (.int (v2 + 1)), some (.int v3), some (.int r1)]) (n := 106) d_M_plays_103 rfl (congrArg _ ci_1) (by decide) rfl rfl ?_
            refine am_iinc (v := v3 + 1) (ls' := [some (.ref q), some (.int p1), some (.int (v2 + 1)), some (.int (v3 + 1)), some (.int r1)]) (n := 109) d_M_plays_106 rfl (congrArg _ ci_1) (by decide) rfl rfl ?_
            refine am_goto (tgt := 4) d_M_plays_109 rfl ?_
            refine am_forget (ls' := [some (.ref q), some (.int p1), some (.int (v2 + 1)), some (.int (v3 + 1)), none]) (am_le_s (am_le_s (am_le_s (am_le_s (am_le_n am_le_e))))) ?_
            exact ih I3 (v2 + 1) (v3 + 1)  h
        · have h := h.2 c3
          refine am_aload_n (n := 58) d_M_plays_57 rfl rfl ?_
          refine am_getR (x := (q + 1)) (n := 61) f_M_7 d_M_plays_58 rfl rfl hq (hw.1 q 12 0 1 hq rfl) ?_
          refine am_iload (n := 63) d_M_plays_61 rfl rfl ?_
          refine am_aload_n (n := 64) d_M_plays_63 rfl rfl ?_
          refine am_aload_n (n := 65) d_M_plays_64 rfl rfl ?_
          refine am_getR (x := (q + 1)) (n := 68) f_M_7 d_M_plays_65 rfl rfl hq (hw.1 q 12 0 1 hq rfl) ?_
          refine am_iload (n := 70) d_M_plays_68 rfl rfl ?_
          obtain ⟨g6, h⟩ := h
          refine am_iald2 (n := 71) d_M_plays_70 rfl (am_sho (k := 0) (o := 1) hq (by decide) (by decide) (by decide) rfl) g6 rfl ?_
          refine am_callV (kc := 0) (ks := 0) (As := [.int (I (q + 1) (Int32.toNatClampNeg r1))]) (n := 74) d_M_plays_71 rfl ce_M_nearer lk_M_346 in_M_nearer rfl rfl hq rfl rfl (Nat.le_of_ble_eq_true rfl) (Or.inl rfl) (cm_M_nearer (d := d - 1) hw (by omega) hq h) (by omega) ?_
          rintro _ _ ⟨r3, rfl, rfl, h⟩
          show am_Wp (d, "UnseenRingModel", b_M_plays, 5, false) 0 0 74 [some (.ref q), some (.int p1), some (.int v2), some (.int v3), some (.int r1)] [.int r3, .int r1, .ref (q + 1)] (I, L, R, am_SH) (po_M_plays L R Q)
          obtain ⟨g7, h⟩ := h
          refine am_iast2 (n := 75) d_M_plays_74 rfl (am_sho (k := 0) (o := 1) hq (by decide) (by decide) (by decide) rfl) g7 rfl ?_
          generalize eI4 : am_u2 I (q + 1) (Int32.toNatClampNeg r1) r3 = I4
          have h := h I4 eI4.symm
          refine am_goto (tgt := 106) d_M_plays_75 rfl ?_
          refine am_iinc (v := v3 + 1) (ls' := [some (.ref q), some (.int p1), some (.int v2), some (.int (v3 + 1)), some (.int r1)]) (n := 109) d_M_plays_106 rfl (congrArg _ ci_1) (by decide) rfl rfl ?_
          refine am_goto (tgt := 4) d_M_plays_109 rfl ?_
          refine am_forget (ls' := [some (.ref q), some (.int p1), some (.int v2), some (.int (v3 + 1)), none]) (am_le_s (am_le_s (am_le_s (am_le_s (am_le_n am_le_e))))) ?_
          exact ih I4 v2 (v3 + 1)  h
      · have h := h.1 (am_b_0 c2)
        refine am_goto (tgt := 106) d_M_plays_37 rfl ?_
        refine am_iinc (v := v3 + 1) (ls' := [some (.ref q), some (.int p1), some (.int v2), some (.int (v3 + 1)), some (.int r1)]) (n := 109) d_M_plays_106 rfl (congrArg _ ci_1) (by decide) rfl rfl ?_
        refine am_goto (tgt := 4) d_M_plays_109 rfl ?_
        refine am_forget (ls' := [some (.ref q), some (.int p1), some (.int v2), some (.int (v3 + 1)), none]) (am_le_s (am_le_s (am_le_s (am_le_s (am_le_n am_le_e))))) ?_
        exact ih I v2 (v3 + 1)  h
def wp_M_plays (I : am_TI) (L : am_TL) (R : am_TR) (q : Nat) (p1 : Int32)  (Q : Int32 → am_TI → Prop) : Prop := (∃ z, wl_M_plays_4 L R q p1 Q z I 0 0)
set_option maxRecDepth 20000 in
theorem cm_M_plays {d : Nat} {I : am_TI} {L : am_TL} {R : am_TR}  (hw : am_Wf R)   {q : Nat} {p1 : Int32} {Q : Int32 → am_TI → Prop} (hd : 1 ≤ d) (hq : am_SH[q]? = some (.inl 12)) (h : wp_M_plays I L R q p1  Q) : am_Cm d 0 0 y_M_plays b_M_plays 5 (some .int) [.ref q, .int p1] (I, L, R, am_SH) (po_M_plays L R Q) := by
  refine am_Cm_of (ini := false) (by decide +kernel) (fun z => by cases z) (by simp [Value.category]) (fun r σ' z => by obtain ⟨x, _, rfl, -⟩ := z; exact ⟨_, rfl, rfl⟩) ?_
  unfold wp_M_plays at h
  show am_Wp (d, "UnseenRingModel", b_M_plays, 5, false) 0 0 0 [some (.ref q), some (.int p1), none, none, none] [] (I, L, R, am_SH) (po_M_plays L R Q)
  refine am_iconst (n := 1) d_M_plays_0 ci_0 rfl ?_
  refine am_istore_n (ls' := [some (.ref q), some (.int p1), some (.int 0), none, none]) (n := 2) d_M_plays_1 (by decide) rfl rfl ?_
  refine am_iconst (n := 3) d_M_plays_2 ci_0 rfl ?_
  refine am_istore_n (ls' := [some (.ref q), some (.int p1), some (.int 0), some (.int 0), none]) (n := 4) d_M_plays_3 (by decide) rfl rfl ?_
  obtain ⟨n, h⟩ := h
  exact tl_M_plays_4 hw hq hd n I 0 0 h
abbrev po_M_play (L : am_TL) (R : am_TR) (Q : Int32 → am_TI → Prop) : Option Value → am_St → Prop := fun r σ' => ∃ (x : Int32) (I' : am_TI), r = some (.int x) ∧ σ' = (I', L, R, am_SH) ∧ Q x I'
def wp_M_play (I : am_TI) (L : am_TL) (R : am_TR) (q : Nat) (p1 : Int32)  (Q : Int32 → am_TI → Prop) : Prop := wp_M_isTune I L R q p1 (fun (r1 : Bool) => ((r1 = false → wp_M_refuse I L R q 1 (fun (r6 : Int32) (I4 : am_TI) => Q r6 I4)) ∧ (r1 = true → wp_M_likersOf I L R q p1 (fun (r2 : Int32) => ((r2 = 0 → wp_M_refuse I L R q 7 (fun (r5 : Int32) (I3 : am_TI) => Q r5 I3)) ∧ (¬ r2 = 0 → wp_M_plays I L R q p1 (fun (r3 : Int32) (I1 : am_TI) => wp_M_gives I1 L R q r3 (fun (r4 : Int32) (I2 : am_TI) => Q r4 I2))))))))
set_option maxRecDepth 20000 in
theorem cm_M_play {d : Nat} {I : am_TI} {L : am_TL} {R : am_TR}  (hw : am_Wf R)   {q : Nat} {p1 : Int32} {Q : Int32 → am_TI → Prop} (hd : 3 ≤ d) (hq : am_SH[q]? = some (.inl 12)) (h : wp_M_play I L R q p1  Q) : am_Cm d 0 0 y_M_play b_M_play 2 (some .int) [.ref q, .int p1] (I, L, R, am_SH) (po_M_play L R Q) := by
  refine am_Cm_of (ini := false) (by decide +kernel) (fun z => by cases z) (by simp [Value.category]) (fun r σ' z => by obtain ⟨x, _, rfl, -⟩ := z; exact ⟨_, rfl, rfl⟩) ?_
  unfold wp_M_play at h
  show am_Wp (d, "UnseenRingModel", b_M_play, 2, false) 0 0 0 [some (.ref q), some (.int p1)] [] (I, L, R, am_SH) (po_M_play L R Q)
  refine am_aload_n (n := 1) d_M_play_0 rfl rfl ?_
  refine am_iload_n (n := 2) d_M_play_1 rfl rfl ?_
  refine am_callV (kc := 0) (ks := 0) (As := [.int p1]) (n := 5) d_M_play_2 rfl ce_M_isTune lk_M_340 in_M_isTune rfl rfl hq rfl rfl (Nat.le_of_ble_eq_true rfl) (Or.inl rfl) (cm_M_isTune (d := d - 1) hw (by omega) hq h) (by omega) ?_
  rintro _ _ ⟨r1, rfl, rfl, h⟩
  show am_Wp (d, "UnseenRingModel", b_M_play, 2, false) 0 0 5 [some (.ref q), some (.int p1)] [.int (am_b r1)] (I, L, R, am_SH) (po_M_play L R Q)
  refine am_if_ne (y := 0) (tgt := 14) (n := 8) d_M_play_5 rfl rfl (fun c1 => ?_) (fun c1 => ?_)
  · have h := h.2 (am_b_n0 c1)
    refine am_aload_n (n := 15) d_M_play_14 rfl rfl ?_
    refine am_iload_n (n := 16) d_M_play_15 rfl rfl ?_
    refine am_callV (kc := 0) (ks := 0) (As := [.int p1]) (n := 19) d_M_play_16 rfl ce_M_likersOf lk_M_343 in_M_likersOf rfl rfl hq rfl rfl (Nat.le_of_ble_eq_true rfl) (Or.inl rfl) (cm_M_likersOf (d := d - 1) hw (by omega) hq h) (by omega) ?_
    rintro _ _ ⟨r2, rfl, rfl, h⟩
    show am_Wp (d, "UnseenRingModel", b_M_play, 2, false) 0 0 19 [some (.ref q), some (.int p1)] [.int r2] (I, L, R, am_SH) (po_M_play L R Q)
    refine am_if_ne (y := 0) (tgt := 31) (n := 22) d_M_play_19 rfl rfl (fun c2 => ?_) (fun c2 => ?_)
    · have h := h.2 c2
      refine am_aload_n (n := 32) d_M_play_31 rfl rfl ?_
      refine am_aload_n (n := 33) d_M_play_32 rfl rfl ?_
      refine am_iload_n (n := 34) d_M_play_33 rfl rfl ?_
      refine am_callV (kc := 0) (ks := 0) (As := [.int p1]) (n := 37) d_M_play_34 rfl ce_M_plays lk_M_349 in_M_plays rfl rfl hq rfl rfl (Nat.le_of_ble_eq_true rfl) (Or.inl rfl) (cm_M_plays (d := d - 1) hw (by omega) hq h) (by omega) ?_
      rintro _ _ ⟨r3, I1, rfl, rfl, h⟩
      show am_Wp (d, "UnseenRingModel", b_M_play, 2, false) 0 0 37 [some (.ref q), some (.int p1)] [.int r3, .ref q] (I1, L, R, am_SH) (po_M_play L R Q)
      refine am_callV (kc := 0) (ks := 0) (As := [.int r3]) (n := 40) d_M_play_37 rfl ce_M_gives lk_M_125 in_M_gives rfl rfl hq rfl rfl (Nat.le_of_ble_eq_true rfl) (Or.inl rfl) (cm_M_gives (d := d - 1) hw (by omega) hq h) (by omega) ?_
      rintro _ _ ⟨r4, I2, rfl, rfl, h⟩
      show am_Wp (d, "UnseenRingModel", b_M_play, 2, false) 0 0 40 [some (.ref q), some (.int p1)] [.int r4] (I2, L, R, am_SH) (po_M_play L R Q)
      exact am_iret d_M_play_40 ⟨r4, I2, rfl, rfl, h⟩
    · have h := h.1 c2
      refine am_aload_n (n := 23) d_M_play_22 rfl rfl ?_
      refine am_bipush (n := 25) d_M_play_23 cb_7 rfl ?_
      refine am_callV (kc := 0) (ks := 0) (As := [.int 7]) (n := 28) d_M_play_25 rfl ce_M_refuse lk_M_121 in_M_refuse rfl rfl hq rfl rfl (Nat.le_of_ble_eq_true rfl) (Or.inl rfl) (cm_M_refuse (d := d - 1) hw (by omega) hq h) (by omega) ?_
      rintro _ _ ⟨r5, I3, rfl, rfl, h⟩
      show am_Wp (d, "UnseenRingModel", b_M_play, 2, false) 0 0 28 [some (.ref q), some (.int p1)] [.int r5] (I3, L, R, am_SH) (po_M_play L R Q)
      refine am_goto (tgt := 40) d_M_play_28 rfl ?_
      exact am_iret d_M_play_40 ⟨r5, I3, rfl, rfl, h⟩
  · have h := h.1 (am_b_0 c1)
    refine am_aload_n (n := 9) d_M_play_8 rfl rfl ?_
    refine am_iconst (n := 10) d_M_play_9 ci_1 rfl ?_
    refine am_callV (kc := 0) (ks := 0) (As := [.int 1]) (n := 13) d_M_play_10 rfl ce_M_refuse lk_M_121 in_M_refuse rfl rfl hq rfl rfl (Nat.le_of_ble_eq_true rfl) (Or.inl rfl) (cm_M_refuse (d := d - 1) hw (by omega) hq h) (by omega) ?_
    rintro _ _ ⟨r6, I4, rfl, rfl, h⟩
    show am_Wp (d, "UnseenRingModel", b_M_play, 2, false) 0 0 13 [some (.ref q), some (.int p1)] [.int r6] (I4, L, R, am_SH) (po_M_play L R Q)
    exact am_iret d_M_play_13 ⟨r6, I4, rfl, rfl, h⟩
abbrev po_M_grinds (L : am_TL) (R : am_TR) (Q : Bool → am_TI → Prop) : Option Value → am_St → Prop := fun r σ' => ∃ (x : Bool) (I' : am_TI), r = some (.int (am_b x)) ∧ σ' = (I', L, R, am_SH) ∧ Q x I'
def wb_M_grinds_16 (L : am_TL) (R : am_TR) (q : Nat) (p1 : Int32) (Q : Bool → am_TI → Prop)  (I : am_TI) (s0 : Bool) : Prop := (∀ I1, I1 = am_u2 I (q + 1) 6 p1 → Q s0 I1)
set_option maxRecDepth 20000 in
theorem tb_M_grinds_16 {d : Nat}  {L : am_TL} {R : am_TR} {q : Nat} {p1 : Int32} {Q : Bool → am_TI → Prop}  (hw : am_Wf R) (hq : am_SH[q]? = some (.inl 12)) (hd : 0 ≤ d) (I : am_TI) (s0 : Bool) (h : wb_M_grinds_16 L R q p1 Q  I s0) : am_Wp (d, "UnseenRingModel", b_M_grinds, 3, false) 0 0 16 [some (.ref q), some (.int p1), none] [.int (am_b s0)] (I, L, R, am_SH) (po_M_grinds L R Q) := by
  unfold wb_M_grinds_16 at h
  refine am_istore_n (ls' := [some (.ref q), some (.int p1), some (.int (am_b s0))]) (n := 17) d_M_grinds_16 (by decide) rfl rfl ?_
  refine am_aload_n (n := 18) d_M_grinds_17 rfl rfl ?_
  refine am_getR (x := (q + 1)) (n := 21) f_M_7 d_M_grinds_18 rfl rfl hq (hw.1 q 12 0 1 hq rfl) ?_
  refine am_bipush (n := 23) d_M_grinds_21 cb_6 rfl ?_
  refine am_iload_n (n := 24) d_M_grinds_23 rfl rfl ?_
  refine am_iast2 (n := 25) d_M_grinds_24 rfl (am_sho (k := 0) (o := 1) hq (by decide) (by decide) (by decide) rfl) cx_6_2258 cn_6 ?_
  generalize eI1 : am_u2 I (q + 1) 6 p1 = I1
  have h := h I1 eI1.symm
  refine am_iload_n (n := 26) d_M_grinds_25 rfl rfl ?_
  exact am_iret d_M_grinds_26 ⟨s0, I1, rfl, rfl, h⟩
def wp_M_grinds (I : am_TI) (L : am_TL) (R : am_TR) (q : Nat) (p1 : Int32)  (Q : Bool → am_TI → Prop) : Prop := (((I (q + 1) 6) = p1 → wb_M_grinds_16 L R q p1 Q I false) ∧ (¬ (I (q + 1) 6) = p1 → wb_M_grinds_16 L R q p1 Q I true))
set_option maxRecDepth 20000 in
theorem cm_M_grinds {d : Nat} {I : am_TI} {L : am_TL} {R : am_TR}  (hw : am_Wf R)   {q : Nat} {p1 : Int32} {Q : Bool → am_TI → Prop} (hd : 0 ≤ d) (hq : am_SH[q]? = some (.inl 12)) (h : wp_M_grinds I L R q p1  Q) : am_Cm d 0 0 y_M_grinds b_M_grinds 3 (some .boolean) [.ref q, .int p1] (I, L, R, am_SH) (po_M_grinds L R Q) := by
  refine am_Cm_of (ini := false) (by decide +kernel) (fun z => by cases z) (by simp [Value.category]) (fun r σ' z => by obtain ⟨x, _, rfl, -⟩ := z; exact ⟨_, rfl, am_b_nar x⟩) ?_
  unfold wp_M_grinds at h
  show am_Wp (d, "UnseenRingModel", b_M_grinds, 3, false) 0 0 0 [some (.ref q), some (.int p1), none] [] (I, L, R, am_SH) (po_M_grinds L R Q)
  refine am_aload_n (n := 1) d_M_grinds_0 rfl rfl ?_
  refine am_getR (x := (q + 1)) (n := 4) f_M_7 d_M_grinds_1 rfl rfl hq (hw.1 q 12 0 1 hq rfl) ?_
  refine am_bipush (n := 6) d_M_grinds_4 cb_6 rfl ?_
  refine am_iald2 (n := 7) d_M_grinds_6 rfl (am_sho (k := 0) (o := 1) hq (by decide) (by decide) (by decide) rfl) cx_6_2258 cn_6 ?_
  refine am_iload_n (n := 8) d_M_grinds_7 rfl rfl ?_
  refine am_icmp_eq (tgt := 15) (n := 11) d_M_grinds_8 rfl rfl (fun c1 => ?_) (fun c1 => ?_)
  · have h := h.1 c1
    refine am_iconst (n := 16) d_M_grinds_15 ci_0 rfl ?_
    exact tb_M_grinds_16 hw hq hd I false h
  · have h := h.2 c1
    refine am_iconst (n := 12) d_M_grinds_11 ci_1 rfl ?_
    refine am_goto (tgt := 16) d_M_grinds_12 rfl ?_
    exact tb_M_grinds_16 hw hq hd I true h
abbrev po_M_grind (L : am_TL) (R : am_TR) (Q : Int32 → am_TI → Prop) : Option Value → am_St → Prop := fun r σ' => ∃ (x : Int32) (I' : am_TI), r = some (.int x) ∧ σ' = (I', L, R, am_SH) ∧ Q x I'
def wp_M_grind (I : am_TI) (L : am_TL) (R : am_TR) (q : Nat) (p1 : Int32)  (Q : Int32 → am_TI → Prop) : Prop := wp_M_isCell I L R q p1 (fun (r1 : Bool) => ((r1 = false → wp_M_refuse I L R q 1 (fun (r6 : Int32) (I4 : am_TI) => Q r6 I4)) ∧ (r1 = true → wp_M_farBetween I L R q p1 (I (q + 1) 6) (fun (r2 : Int32) => wp_M_grinds I L R q p1 (fun (r3 : Bool) (I1 : am_TI) => ((r3 = false → wp_M_refuse I1 L R q 7 (fun (r4 : Int32) (I2 : am_TI) => Q r4 I2)) ∧ (r3 = true → wp_M_gives I1 L R q r2 (fun (r5 : Int32) (I3 : am_TI) => Q r5 I3))))))))
set_option maxRecDepth 20000 in
theorem cm_M_grind {d : Nat} {I : am_TI} {L : am_TL} {R : am_TR}  (hw : am_Wf R)   {q : Nat} {p1 : Int32} {Q : Int32 → am_TI → Prop} (hd : 2 ≤ d) (hq : am_SH[q]? = some (.inl 12)) (h : wp_M_grind I L R q p1  Q) : am_Cm d 0 0 y_M_grind b_M_grind 3 (some .int) [.ref q, .int p1] (I, L, R, am_SH) (po_M_grind L R Q) := by
  refine am_Cm_of (ini := false) (by decide +kernel) (fun z => by cases z) (by simp [Value.category]) (fun r σ' z => by obtain ⟨x, _, rfl, -⟩ := z; exact ⟨_, rfl, rfl⟩) ?_
  unfold wp_M_grind at h
  show am_Wp (d, "UnseenRingModel", b_M_grind, 3, false) 0 0 0 [some (.ref q), some (.int p1), none] [] (I, L, R, am_SH) (po_M_grind L R Q)
  refine am_aload_n (n := 1) d_M_grind_0 rfl rfl ?_
  refine am_iload_n (n := 2) d_M_grind_1 rfl rfl ?_
  refine am_callV (kc := 0) (ks := 0) (As := [.int p1]) (n := 5) d_M_grind_2 rfl ce_M_isCell lk_M_334 in_M_isCell rfl rfl hq rfl rfl (Nat.le_of_ble_eq_true rfl) (Or.inl rfl) (cm_M_isCell (d := d - 1) hw (by omega) hq h) (by omega) ?_
  rintro _ _ ⟨r1, rfl, rfl, h⟩
  show am_Wp (d, "UnseenRingModel", b_M_grind, 3, false) 0 0 5 [some (.ref q), some (.int p1), none] [.int (am_b r1)] (I, L, R, am_SH) (po_M_grind L R Q)
  refine am_if_ne (y := 0) (tgt := 14) (n := 8) d_M_grind_5 rfl rfl (fun c1 => ?_) (fun c1 => ?_)
  · have h := h.2 (am_b_n0 c1)
    refine am_aload_n (n := 15) d_M_grind_14 rfl rfl ?_
    refine am_iload_n (n := 16) d_M_grind_15 rfl rfl ?_
    refine am_aload_n (n := 17) d_M_grind_16 rfl rfl ?_
    refine am_getR (x := (q + 1)) (n := 20) f_M_7 d_M_grind_17 rfl rfl hq (hw.1 q 12 0 1 hq rfl) ?_
    refine am_bipush (n := 22) d_M_grind_20 cb_6 rfl ?_
    refine am_iald2 (n := 23) d_M_grind_22 rfl (am_sho (k := 0) (o := 1) hq (by decide) (by decide) (by decide) rfl) cx_6_2258 cn_6 ?_
    refine am_callV (kc := 0) (ks := 0) (As := [.int p1, .int (I (q + 1) 6)]) (n := 26) d_M_grind_23 rfl ce_M_farBetween lk_M_316 in_M_farBetween rfl rfl hq rfl rfl (Nat.le_of_ble_eq_true rfl) (Or.inl rfl) (cm_M_farBetween (d := d - 1) hw (by omega) hq h) (by omega) ?_
    rintro _ _ ⟨r2, rfl, rfl, h⟩
    show am_Wp (d, "UnseenRingModel", b_M_grind, 3, false) 0 0 26 [some (.ref q), some (.int p1), none] [.int r2] (I, L, R, am_SH) (po_M_grind L R Q)
    refine am_istore_n (ls' := [some (.ref q), some (.int p1), some (.int r2)]) (n := 27) d_M_grind_26 (by decide) rfl rfl ?_
    refine am_aload_n (n := 28) d_M_grind_27 rfl rfl ?_
    refine am_iload_n (n := 29) d_M_grind_28 rfl rfl ?_
    refine am_callV (kc := 0) (ks := 0) (As := [.int p1]) (n := 32) d_M_grind_29 rfl ce_M_grinds lk_M_352 in_M_grinds rfl rfl hq rfl rfl (Nat.le_of_ble_eq_true rfl) (Or.inl rfl) (cm_M_grinds (d := d - 1) hw (by omega) hq h) (by omega) ?_
    rintro _ _ ⟨r3, I1, rfl, rfl, h⟩
    show am_Wp (d, "UnseenRingModel", b_M_grind, 3, false) 0 0 32 [some (.ref q), some (.int p1), some (.int r2)] [.int (am_b r3)] (I1, L, R, am_SH) (po_M_grind L R Q)
    refine am_if_eq (y := 0) (tgt := 43) (n := 35) d_M_grind_32 rfl rfl (fun c2 => ?_) (fun c2 => ?_)
    · have h := h.1 (am_b_0 c2)
      refine am_aload_n (n := 44) d_M_grind_43 rfl rfl ?_
      refine am_bipush (n := 46) d_M_grind_44 cb_7 rfl ?_
      refine am_callV (kc := 0) (ks := 0) (As := [.int 7]) (n := 49) d_M_grind_46 rfl ce_M_refuse lk_M_121 in_M_refuse rfl rfl hq rfl rfl (Nat.le_of_ble_eq_true rfl) (Or.inl rfl) (cm_M_refuse (d := d - 1) hw (by omega) hq h) (by omega) ?_
      rintro _ _ ⟨r4, I2, rfl, rfl, h⟩
      show am_Wp (d, "UnseenRingModel", b_M_grind, 3, false) 0 0 49 [some (.ref q), some (.int p1), some (.int r2)] [.int r4] (I2, L, R, am_SH) (po_M_grind L R Q)
      exact am_iret d_M_grind_49 ⟨r4, I2, rfl, rfl, h⟩
    · have h := h.2 (am_b_n0 c2)
      refine am_aload_n (n := 36) d_M_grind_35 rfl rfl ?_
      refine am_iload_n (n := 37) d_M_grind_36 rfl rfl ?_
      refine am_callV (kc := 0) (ks := 0) (As := [.int r2]) (n := 40) d_M_grind_37 rfl ce_M_gives lk_M_125 in_M_gives rfl rfl hq rfl rfl (Nat.le_of_ble_eq_true rfl) (Or.inl rfl) (cm_M_gives (d := d - 1) hw (by omega) hq h) (by omega) ?_
      rintro _ _ ⟨r5, I3, rfl, rfl, h⟩
      show am_Wp (d, "UnseenRingModel", b_M_grind, 3, false) 0 0 40 [some (.ref q), some (.int p1), some (.int r2)] [.int r5] (I3, L, R, am_SH) (po_M_grind L R Q)
      refine am_goto (tgt := 49) d_M_grind_40 rfl ?_
      exact am_iret d_M_grind_49 ⟨r5, I3, rfl, rfl, h⟩
  · have h := h.1 (am_b_0 c1)
    refine am_aload_n (n := 9) d_M_grind_8 rfl rfl ?_
    refine am_iconst (n := 10) d_M_grind_9 ci_1 rfl ?_
    refine am_callV (kc := 0) (ks := 0) (As := [.int 1]) (n := 13) d_M_grind_10 rfl ce_M_refuse lk_M_121 in_M_refuse rfl rfl hq rfl rfl (Nat.le_of_ble_eq_true rfl) (Or.inl rfl) (cm_M_refuse (d := d - 1) hw (by omega) hq h) (by omega) ?_
    rintro _ _ ⟨r6, I4, rfl, rfl, h⟩
    show am_Wp (d, "UnseenRingModel", b_M_grind, 3, false) 0 0 13 [some (.ref q), some (.int p1), none] [.int r6] (I4, L, R, am_SH) (po_M_grind L R Q)
    exact am_iret d_M_grind_13 ⟨r6, I4, rfl, rfl, h⟩
abbrev po_M_hits (L : am_TL) (R : am_TR) (Q : Int32 → am_TI → Prop) : Option Value → am_St → Prop := fun r σ' => ∃ (x : Int32) (I' : am_TI), r = some (.int x) ∧ σ' = (I', L, R, am_SH) ∧ Q x I'
def wl_M_hits_9 (L : am_TL) (R : am_TR) (q : Nat) (p1 : Int32) (Q : Int32 → am_TI → Prop)  : Nat → am_TI → Int32 → Int32 → Prop
  | 0 => fun _ _ _ => False
  | f9 + 1 => fun I v2 v3 => (((I (q + 1) 3) ≤ v3 → Q v2 I) ∧ (¬ (I (q + 1) 3) ≤ v3 → wp_M_isIn I L R q v2 v3 (fun (r2 : Bool) => ((r2 = false → wl_M_hits_9 L R q p1 Q f9 I v2 (v3 + 1)) ∧ (r2 = true → wp_M_hearerRow I L R v3 (fun (r3 : Int32) => (vp_in (r3 + 3) 2258 ∧ (∀ I1, I1 = am_u2 I (q + 1) (Int32.toNatClampNeg (r3 + 3)) 1 → wl_M_hits_9 L R q p1 Q f9 I1 v2 (v3 + 1)))))))))
set_option maxRecDepth 20000 in
theorem tl_M_hits_9 {d : Nat}  {L : am_TL} {R : am_TR} {q : Nat} {p1 : Int32} {Q : Int32 → am_TI → Prop}  (hw : am_Wf R) (hq : am_SH[q]? = some (.inl 12)) (hd : 3 ≤ d) : ∀ (n : Nat) (I : am_TI) (v2 : Int32) (v3 : Int32), wl_M_hits_9 L R q p1 Q  n I v2 v3 → am_Wp (d, "UnseenRingModel", b_M_hits, 4, false) 0 0 9 [some (.ref q), some (.int p1), some (.int v2), some (.int v3)] [] (I, L, R, am_SH) (po_M_hits L R Q) := by
  intro n
  induction n with
  | zero => intro I v2 v3 h; exact h.elim
  | succ n ih =>
    intro I v2 v3 h
    unfold wl_M_hits_9 at h
    refine am_iload_n (n := 10) d_M_hits_9 rfl rfl ?_
    refine am_aload_n (n := 11) d_M_hits_10 rfl rfl ?_
    refine am_getR (x := (q + 1)) (n := 14) f_M_7 d_M_hits_11 rfl rfl hq (hw.1 q 12 0 1 hq rfl) ?_
    refine am_iconst (n := 15) d_M_hits_14 ci_3 rfl ?_
    refine am_iald2 (n := 16) d_M_hits_15 rfl (am_sho (k := 0) (o := 1) hq (by decide) (by decide) (by decide) rfl) cx_3_2258 cn_3 ?_
    refine am_icmp_ge (tgt := 46) (n := 19) d_M_hits_16 rfl rfl (fun c1 => ?_) (fun c1 => ?_)
    · have h := h.1 c1
      refine am_iload_n (n := 47) d_M_hits_46 rfl rfl ?_
      exact am_iret d_M_hits_47 ⟨v2, I, rfl, rfl, h⟩
    · have h := h.2 c1
      refine am_aload_n (n := 20) d_M_hits_19 rfl rfl ?_
      refine am_iload_n (n := 21) d_M_hits_20 rfl rfl ?_
      refine am_iload_n (n := 22) d_M_hits_21 rfl rfl ?_
      refine am_callV (kc := 0) (ks := 0) (As := [.int v2, .int v3]) (n := 25) d_M_hits_22 rfl ce_M_isIn lk_M_251 in_M_isIn rfl rfl hq rfl rfl (Nat.le_of_ble_eq_true rfl) (Or.inl rfl) (cm_M_isIn (d := d - 1) hw (by omega) hq h) (by omega) ?_
      rintro _ _ ⟨r2, rfl, rfl, h⟩
      show am_Wp (d, "UnseenRingModel", b_M_hits, 4, false) 0 0 25 [some (.ref q), some (.int p1), some (.int v2), some (.int v3)] [.int (am_b r2)] (I, L, R, am_SH) (po_M_hits L R Q)
      refine am_if_eq (y := 0) (tgt := 40) (n := 28) d_M_hits_25 rfl rfl (fun c2 => ?_) (fun c2 => ?_)
      · have h := h.1 (am_b_0 c2)
        refine am_iinc (v := v3 + 1) (ls' := [some (.ref q), some (.int p1), some (.int v2), some (.int (v3 + 1))]) (n := 43) d_M_hits_40 rfl (congrArg _ ci_1) (by decide) rfl rfl ?_
        refine am_goto (tgt := 9) d_M_hits_43 rfl ?_
        exact ih I v2 (v3 + 1)  h
      · have h := h.2 (am_b_n0 c2)
        refine am_aload_n (n := 29) d_M_hits_28 rfl rfl ?_
        refine am_getR (x := (q + 1)) (n := 32) f_M_7 d_M_hits_29 rfl rfl hq (hw.1 q 12 0 1 hq rfl) ?_
        refine am_iload_n (n := 33) d_M_hits_32 rfl rfl ?_
        refine am_callS (kc := 0) (ks := 0) (As := [.int v3]) (n := 36) d_M_hits_33 rfl ce_M_hearerRow lk_M_241 st_M_hearerRow rfl rfl (Nat.le_of_ble_eq_true rfl) (Or.inl rfl) (cm_M_hearerRow (d := d - 1) hw (by omega)  h) (by omega) ?_
        rintro _ _ ⟨r3, rfl, rfl, h⟩
        show am_Wp (d, "UnseenRingModel", b_M_hits, 4, false) 0 0 36 [some (.ref q), some (.int p1), some (.int v2), some (.int v3)] [.int r3, .ref (q + 1)] (I, L, R, am_SH) (po_M_hits L R Q)
        refine am_iconst (n := 37) d_M_hits_36 ci_3 rfl ?_
        refine am_iadd (n := 38) d_M_hits_37 rfl ?_
        refine am_iconst (n := 39) d_M_hits_38 ci_1 rfl ?_
        obtain ⟨g1, h⟩ := h
        refine am_iast2 (n := 40) d_M_hits_39 rfl (am_sho (k := 0) (o := 1) hq (by decide) (by decide) (by decide) rfl) g1 rfl ?_
        generalize eI1 : am_u2 I (q + 1) (Int32.toNatClampNeg (r3 + 3)) 1 = I1
        have h := h I1 eI1.symm
        refine am_iinc (v := v3 + 1) (ls' := [some (.ref q), some (.int p1), some (.int v2), some (.int (v3 + 1))]) (n := 43) d_M_hits_40 rfl (congrArg _ ci_1) (by decide) rfl rfl ?_
        refine am_goto (tgt := 9) d_M_hits_43 rfl ?_
        exact ih I1 v2 (v3 + 1)  h
def wp_M_hits (I : am_TI) (L : am_TL) (R : am_TR) (q : Nat) (p1 : Int32)  (Q : Int32 → am_TI → Prop) : Prop := wp_M_hearersBy I L R q p1 1 (fun (r1 : Int32) => (∃ z, wl_M_hits_9 L R q p1 Q z I r1 0))
set_option maxRecDepth 20000 in
theorem cm_M_hits {d : Nat} {I : am_TI} {L : am_TL} {R : am_TR}  (hw : am_Wf R)   {q : Nat} {p1 : Int32} {Q : Int32 → am_TI → Prop} (hd : 3 ≤ d) (hq : am_SH[q]? = some (.inl 12)) (h : wp_M_hits I L R q p1  Q) : am_Cm d 0 0 y_M_hits b_M_hits 4 (some .int) [.ref q, .int p1] (I, L, R, am_SH) (po_M_hits L R Q) := by
  refine am_Cm_of (ini := false) (by decide +kernel) (fun z => by cases z) (by simp [Value.category]) (fun r σ' z => by obtain ⟨x, _, rfl, -⟩ := z; exact ⟨_, rfl, rfl⟩) ?_
  unfold wp_M_hits at h
  show am_Wp (d, "UnseenRingModel", b_M_hits, 4, false) 0 0 0 [some (.ref q), some (.int p1), none, none] [] (I, L, R, am_SH) (po_M_hits L R Q)
  refine am_aload_n (n := 1) d_M_hits_0 rfl rfl ?_
  refine am_iload_n (n := 2) d_M_hits_1 rfl rfl ?_
  refine am_iconst (n := 3) d_M_hits_2 ci_1 rfl ?_
  refine am_callV (kc := 0) (ks := 0) (As := [.int p1, .int 1]) (n := 6) d_M_hits_3 rfl ce_M_hearersBy lk_M_337 in_M_hearersBy rfl rfl hq rfl rfl (Nat.le_of_ble_eq_true rfl) (Or.inl rfl) (cm_M_hearersBy (d := d - 1) hw (by omega) hq h) (by omega) ?_
  rintro _ _ ⟨r1, rfl, rfl, h⟩
  show am_Wp (d, "UnseenRingModel", b_M_hits, 4, false) 0 0 6 [some (.ref q), some (.int p1), none, none] [.int r1] (I, L, R, am_SH) (po_M_hits L R Q)
  refine am_istore_n (ls' := [some (.ref q), some (.int p1), some (.int r1), none]) (n := 7) d_M_hits_6 (by decide) rfl rfl ?_
  refine am_iconst (n := 8) d_M_hits_7 ci_0 rfl ?_
  refine am_istore_n (ls' := [some (.ref q), some (.int p1), some (.int r1), some (.int 0)]) (n := 9) d_M_hits_8 (by decide) rfl rfl ?_
  obtain ⟨n, h⟩ := h
  exact tl_M_hits_9 hw hq hd n I r1 0 h
abbrev po_M_throwAt (L : am_TL) (R : am_TR) (Q : Int32 → am_TI → Prop) : Option Value → am_St → Prop := fun r σ' => ∃ (x : Int32) (I' : am_TI), r = some (.int x) ∧ σ' = (I', L, R, am_SH) ∧ Q x I'
def wp_M_throwAt (I : am_TI) (L : am_TL) (R : am_TR) (q : Nat) (p1 : Int32)  (Q : Int32 → am_TI → Prop) : Prop := wp_M_isCell I L R q p1 (fun (r1 : Bool) => ((r1 = false → wp_M_refuse I L R q 1 (fun (r5 : Int32) (I4 : am_TI) => Q r5 I4)) ∧ (r1 = true → wp_M_hits I L R q p1 (fun (r2 : Int32) (I1 : am_TI) => ((r2 = 0 → wp_M_refuse I1 L R q 7 (fun (r4 : Int32) (I3 : am_TI) => Q r4 I3)) ∧ (¬ r2 = 0 → wp_M_gives I1 L R q r2 (fun (r3 : Int32) (I2 : am_TI) => Q r3 I2)))))))
set_option maxRecDepth 20000 in
theorem cm_M_throwAt {d : Nat} {I : am_TI} {L : am_TL} {R : am_TR}  (hw : am_Wf R)   {q : Nat} {p1 : Int32} {Q : Int32 → am_TI → Prop} (hd : 4 ≤ d) (hq : am_SH[q]? = some (.inl 12)) (h : wp_M_throwAt I L R q p1  Q) : am_Cm d 0 0 y_M_throwAt b_M_throwAt 3 (some .int) [.ref q, .int p1] (I, L, R, am_SH) (po_M_throwAt L R Q) := by
  refine am_Cm_of (ini := false) (by decide +kernel) (fun z => by cases z) (by simp [Value.category]) (fun r σ' z => by obtain ⟨x, _, rfl, -⟩ := z; exact ⟨_, rfl, rfl⟩) ?_
  unfold wp_M_throwAt at h
  show am_Wp (d, "UnseenRingModel", b_M_throwAt, 3, false) 0 0 0 [some (.ref q), some (.int p1), none] [] (I, L, R, am_SH) (po_M_throwAt L R Q)
  refine am_aload_n (n := 1) d_M_throwAt_0 rfl rfl ?_
  refine am_iload_n (n := 2) d_M_throwAt_1 rfl rfl ?_
  refine am_callV (kc := 0) (ks := 0) (As := [.int p1]) (n := 5) d_M_throwAt_2 rfl ce_M_isCell lk_M_334 in_M_isCell rfl rfl hq rfl rfl (Nat.le_of_ble_eq_true rfl) (Or.inl rfl) (cm_M_isCell (d := d - 1) hw (by omega) hq h) (by omega) ?_
  rintro _ _ ⟨r1, rfl, rfl, h⟩
  show am_Wp (d, "UnseenRingModel", b_M_throwAt, 3, false) 0 0 5 [some (.ref q), some (.int p1), none] [.int (am_b r1)] (I, L, R, am_SH) (po_M_throwAt L R Q)
  refine am_if_ne (y := 0) (tgt := 14) (n := 8) d_M_throwAt_5 rfl rfl (fun c1 => ?_) (fun c1 => ?_)
  · have h := h.2 (am_b_n0 c1)
    refine am_aload_n (n := 15) d_M_throwAt_14 rfl rfl ?_
    refine am_iload_n (n := 16) d_M_throwAt_15 rfl rfl ?_
    refine am_callV (kc := 0) (ks := 0) (As := [.int p1]) (n := 19) d_M_throwAt_16 rfl ce_M_hits lk_M_355 in_M_hits rfl rfl hq rfl rfl (Nat.le_of_ble_eq_true rfl) (Or.inl rfl) (cm_M_hits (d := d - 1) hw (by omega) hq h) (by omega) ?_
    rintro _ _ ⟨r2, I1, rfl, rfl, h⟩
    show am_Wp (d, "UnseenRingModel", b_M_throwAt, 3, false) 0 0 19 [some (.ref q), some (.int p1), none] [.int r2] (I1, L, R, am_SH) (po_M_throwAt L R Q)
    refine am_istore_n (ls' := [some (.ref q), some (.int p1), some (.int r2)]) (n := 20) d_M_throwAt_19 (by decide) rfl rfl ?_
    refine am_iload_n (n := 21) d_M_throwAt_20 rfl rfl ?_
    refine am_if_ne (y := 0) (tgt := 33) (n := 24) d_M_throwAt_21 rfl rfl (fun c2 => ?_) (fun c2 => ?_)
    · have h := h.2 c2
      refine am_aload_n (n := 34) d_M_throwAt_33 rfl rfl ?_
      refine am_iload_n (n := 35) d_M_throwAt_34 rfl rfl ?_
      refine am_callV (kc := 0) (ks := 0) (As := [.int r2]) (n := 38) d_M_throwAt_35 rfl ce_M_gives lk_M_125 in_M_gives rfl rfl hq rfl rfl (Nat.le_of_ble_eq_true rfl) (Or.inl rfl) (cm_M_gives (d := d - 1) hw (by omega) hq h) (by omega) ?_
      rintro _ _ ⟨r3, I2, rfl, rfl, h⟩
      show am_Wp (d, "UnseenRingModel", b_M_throwAt, 3, false) 0 0 38 [some (.ref q), some (.int p1), some (.int r2)] [.int r3] (I2, L, R, am_SH) (po_M_throwAt L R Q)
      exact am_iret d_M_throwAt_38 ⟨r3, I2, rfl, rfl, h⟩
    · have h := h.1 c2
      refine am_aload_n (n := 25) d_M_throwAt_24 rfl rfl ?_
      refine am_bipush (n := 27) d_M_throwAt_25 cb_7 rfl ?_
      refine am_callV (kc := 0) (ks := 0) (As := [.int 7]) (n := 30) d_M_throwAt_27 rfl ce_M_refuse lk_M_121 in_M_refuse rfl rfl hq rfl rfl (Nat.le_of_ble_eq_true rfl) (Or.inl rfl) (cm_M_refuse (d := d - 1) hw (by omega) hq h) (by omega) ?_
      rintro _ _ ⟨r4, I3, rfl, rfl, h⟩
      show am_Wp (d, "UnseenRingModel", b_M_throwAt, 3, false) 0 0 30 [some (.ref q), some (.int p1), some (.int r2)] [.int r4] (I3, L, R, am_SH) (po_M_throwAt L R Q)
      refine am_goto (tgt := 38) d_M_throwAt_30 rfl ?_
      exact am_iret d_M_throwAt_38 ⟨r4, I3, rfl, rfl, h⟩
  · have h := h.1 (am_b_0 c1)
    refine am_aload_n (n := 9) d_M_throwAt_8 rfl rfl ?_
    refine am_iconst (n := 10) d_M_throwAt_9 ci_1 rfl ?_
    refine am_callV (kc := 0) (ks := 0) (As := [.int 1]) (n := 13) d_M_throwAt_10 rfl ce_M_refuse lk_M_121 in_M_refuse rfl rfl hq rfl rfl (Nat.le_of_ble_eq_true rfl) (Or.inl rfl) (cm_M_refuse (d := d - 1) hw (by omega) hq h) (by omega) ?_
    rintro _ _ ⟨r5, I4, rfl, rfl, h⟩
    show am_Wp (d, "UnseenRingModel", b_M_throwAt, 3, false) 0 0 13 [some (.ref q), some (.int p1), none] [.int r5] (I4, L, R, am_SH) (po_M_throwAt L R Q)
    exact am_iret d_M_throwAt_13 ⟨r5, I4, rfl, rfl, h⟩
abbrev po_M_bits (I : am_TI) (L : am_TL) (R : am_TR) (Q : Int32 → Prop) : Option Value → am_St → Prop := fun r σ' => ∃ (x : Int32), r = some (.int x) ∧ σ' = (I, L, R, am_SH) ∧ Q x
def wl_M_bits_4 (I : am_TI) (L : am_TL) (R : am_TR) (p0 : Int32) (Q : Int32 → Prop)  : Nat → Int32 → Int32 → Prop
  | 0 => fun _ _ => False
  | f4 + 1 => fun v1 v2 => ((v2 = 0 → Q v1) ∧ (¬ v2 = 0 → wl_M_bits_4 I L R p0 Q f4 (v1 + 1) (v2 &&& (v2 - 1))))
set_option maxRecDepth 20000 in
theorem tl_M_bits_4 {d : Nat}  {I : am_TI} {L : am_TL} {R : am_TR} {p0 : Int32} {Q : Int32 → Prop}  (hw : am_Wf R)  (hd : 0 ≤ d) : ∀ (n : Nat) (v1 : Int32) (v2 : Int32), wl_M_bits_4 I L R p0 Q  n v1 v2 → am_Wp (d, "UnseenRingModel", b_M_bits, 3, false) 0 0 4 [some (.int p0), some (.int v1), some (.int v2)] [] (I, L, R, am_SH) (po_M_bits I L R Q) := by
  intro n
  induction n with
  | zero => intro v1 v2 h; exact h.elim
  | succ n ih =>
    intro v1 v2 h
    unfold wl_M_bits_4 at h
    refine am_iload_n (n := 5) d_M_bits_4 rfl rfl ?_
    refine am_if_eq (y := 0) (tgt := 20) (n := 8) d_M_bits_5 rfl rfl (fun c1 => ?_) (fun c1 => ?_)
    · have h := h.1 c1
      refine am_iload_n (n := 21) d_M_bits_20 rfl rfl ?_
      exact am_iret d_M_bits_21 ⟨v1, rfl, rfl, h⟩
    · have h := h.2 c1
      refine am_iinc (v := v1 + 1) (ls' := [some (.int p0), some (.int (v1 + 1)), some (.int v2)]) (n := 11) d_M_bits_8 rfl (congrArg _ ci_1) (by decide) rfl rfl ?_
      refine am_iload_n (n := 12) d_M_bits_11 rfl rfl ?_
      refine am_iload_n (n := 13) d_M_bits_12 rfl rfl ?_
      refine am_iconst (n := 14) d_M_bits_13 ci_1 rfl ?_
      refine am_isub (n := 15) d_M_bits_14 rfl ?_
      refine am_iand (n := 16) d_M_bits_15 rfl ?_
      refine am_istore_n (ls' := [some (.int p0), some (.int (v1 + 1)), some (.int (v2 &&& (v2 - 1)))]) (n := 17) d_M_bits_16 (by decide) rfl rfl ?_
      refine am_goto (tgt := 4) d_M_bits_17 rfl ?_
      exact ih (v1 + 1) (v2 &&& (v2 - 1))  h
def wp_M_bits (I : am_TI) (L : am_TL) (R : am_TR) (p0 : Int32)  (Q : Int32 → Prop) : Prop := (∃ z, wl_M_bits_4 I L R p0 Q z 0 p0)
set_option maxRecDepth 20000 in
theorem cm_M_bits {d : Nat} {I : am_TI} {L : am_TL} {R : am_TR}  (hw : am_Wf R)   {p0 : Int32} {Q : Int32 → Prop} (hd : 0 ≤ d)  (h : wp_M_bits I L R p0  Q) : am_Cm d 0 0 y_M_bits b_M_bits 3 (some .int) [.int p0] (I, L, R, am_SH) (po_M_bits I L R Q) := by
  refine am_Cm_of (ini := false) (by decide +kernel) (fun z => by cases z) (by simp [Value.category]) (fun r σ' z => by obtain ⟨x, rfl, -⟩ := z; exact ⟨_, rfl, rfl⟩) ?_
  unfold wp_M_bits at h
  show am_Wp (d, "UnseenRingModel", b_M_bits, 3, false) 0 0 0 [some (.int p0), none, none] [] (I, L, R, am_SH) (po_M_bits I L R Q)
  refine am_iconst (n := 1) d_M_bits_0 ci_0 rfl ?_
  refine am_istore_n (ls' := [some (.int p0), some (.int 0), none]) (n := 2) d_M_bits_1 (by decide) rfl rfl ?_
  refine am_iload_n (n := 3) d_M_bits_2 rfl rfl ?_
  refine am_istore_n (ls' := [some (.int p0), some (.int 0), some (.int p0)]) (n := 4) d_M_bits_3 (by decide) rfl rfl ?_
  obtain ⟨n, h⟩ := h
  exact tl_M_bits_4 hw hd n 0 p0 h
abbrev po_M_brushes (L : am_TL) (R : am_TR) (Q : Int32 → am_TI → Prop) : Option Value → am_St → Prop := fun r σ' => ∃ (x : Int32) (I' : am_TI), r = some (.int x) ∧ σ' = (I', L, R, am_SH) ∧ Q x I'
def wl_M_brushes_10 (L : am_TL) (R : am_TR) (q : Nat) (Q : Int32 → am_TI → Prop)  : Nat → am_TI → Int32 → Int32 → Prop
  | 0 => fun _ _ _ => False
  | f10 + 1 => fun I v1 v2 => (((I (q + 1) 3) ≤ v2 → Q v1 I) ∧ (¬ (I (q + 1) 3) ≤ v2 → wp_M_hearerRow I L R v2 (fun (r3 : Int32) => (vp_in (r3 + 3) 2258 ∧ (∀ I1, I1 = am_u2 I (q + 1) (Int32.toNatClampNeg (r3 + 3)) 0 → wl_M_brushes_10 L R q Q f10 I1 v1 (v2 + 1))))))
set_option maxRecDepth 20000 in
theorem tl_M_brushes_10 {d : Nat}  {L : am_TL} {R : am_TR} {q : Nat} {Q : Int32 → am_TI → Prop}  (hw : am_Wf R) (hq : am_SH[q]? = some (.inl 12)) (hd : 3 ≤ d) : ∀ (n : Nat) (I : am_TI) (v1 : Int32) (v2 : Int32), wl_M_brushes_10 L R q Q  n I v1 v2 → am_Wp (d, "UnseenRingModel", b_M_brushes, 3, false) 0 0 10 [some (.ref q), some (.int v1), some (.int v2)] [] (I, L, R, am_SH) (po_M_brushes L R Q) := by
  intro n
  induction n with
  | zero => intro I v1 v2 h; exact h.elim
  | succ n ih =>
    intro I v1 v2 h
    unfold wl_M_brushes_10 at h
    refine am_iload_n (n := 11) d_M_brushes_10 rfl rfl ?_
    refine am_aload_n (n := 12) d_M_brushes_11 rfl rfl ?_
    refine am_getR (x := (q + 1)) (n := 15) f_M_7 d_M_brushes_12 rfl rfl hq (hw.1 q 12 0 1 hq rfl) ?_
    refine am_iconst (n := 16) d_M_brushes_15 ci_3 rfl ?_
    refine am_iald2 (n := 17) d_M_brushes_16 rfl (am_sho (k := 0) (o := 1) hq (by decide) (by decide) (by decide) rfl) cx_3_2258 cn_3 ?_
    refine am_icmp_ge (tgt := 38) (n := 20) d_M_brushes_17 rfl rfl (fun c1 => ?_) (fun c1 => ?_)
    · have h := h.1 c1
      refine am_iload_n (n := 39) d_M_brushes_38 rfl rfl ?_
      exact am_iret d_M_brushes_39 ⟨v1, I, rfl, rfl, h⟩
    · have h := h.2 c1
      refine am_aload_n (n := 21) d_M_brushes_20 rfl rfl ?_
      refine am_getR (x := (q + 1)) (n := 24) f_M_7 d_M_brushes_21 rfl rfl hq (hw.1 q 12 0 1 hq rfl) ?_
      refine am_iload_n (n := 25) d_M_brushes_24 rfl rfl ?_
      refine am_callS (kc := 0) (ks := 0) (As := [.int v2]) (n := 28) d_M_brushes_25 rfl ce_M_hearerRow lk_M_241 st_M_hearerRow rfl rfl (Nat.le_of_ble_eq_true rfl) (Or.inl rfl) (cm_M_hearerRow (d := d - 1) hw (by omega)  h) (by omega) ?_
      rintro _ _ ⟨r3, rfl, rfl, h⟩
      show am_Wp (d, "UnseenRingModel", b_M_brushes, 3, false) 0 0 28 [some (.ref q), some (.int v1), some (.int v2)] [.int r3, .ref (q + 1)] (I, L, R, am_SH) (po_M_brushes L R Q)
      refine am_iconst (n := 29) d_M_brushes_28 ci_3 rfl ?_
      refine am_iadd (n := 30) d_M_brushes_29 rfl ?_
      refine am_iconst (n := 31) d_M_brushes_30 ci_0 rfl ?_
      obtain ⟨g1, h⟩ := h
      refine am_iast2 (n := 32) d_M_brushes_31 rfl (am_sho (k := 0) (o := 1) hq (by decide) (by decide) (by decide) rfl) g1 rfl ?_
      generalize eI1 : am_u2 I (q + 1) (Int32.toNatClampNeg (r3 + 3)) 0 = I1
      have h := h I1 eI1.symm
      refine am_iinc (v := v2 + 1) (ls' := [some (.ref q), some (.int v1), some (.int (v2 + 1))]) (n := 35) d_M_brushes_32 rfl (congrArg _ ci_1) (by decide) rfl rfl ?_
      refine am_goto (tgt := 10) d_M_brushes_35 rfl ?_
      exact ih I1 v1 (v2 + 1)  h
def wp_M_brushes (I : am_TI) (L : am_TL) (R : am_TR) (q : Nat)  (Q : Int32 → am_TI → Prop) : Prop := wp_M_areSeen I L R q (fun (r1 : Int32) => wp_M_bits I L R r1 (fun (r2 : Int32) => (∃ z, wl_M_brushes_10 L R q Q z I r2 0)))
set_option maxRecDepth 20000 in
theorem cm_M_brushes {d : Nat} {I : am_TI} {L : am_TL} {R : am_TR}  (hw : am_Wf R)   {q : Nat} {Q : Int32 → am_TI → Prop} (hd : 3 ≤ d) (hq : am_SH[q]? = some (.inl 12)) (h : wp_M_brushes I L R q  Q) : am_Cm d 0 0 y_M_brushes b_M_brushes 3 (some .int) [.ref q] (I, L, R, am_SH) (po_M_brushes L R Q) := by
  refine am_Cm_of (ini := false) (by decide +kernel) (fun z => by cases z) (by simp [Value.category]) (fun r σ' z => by obtain ⟨x, _, rfl, -⟩ := z; exact ⟨_, rfl, rfl⟩) ?_
  unfold wp_M_brushes at h
  show am_Wp (d, "UnseenRingModel", b_M_brushes, 3, false) 0 0 0 [some (.ref q), none, none] [] (I, L, R, am_SH) (po_M_brushes L R Q)
  refine am_aload_n (n := 1) d_M_brushes_0 rfl rfl ?_
  refine am_callV (kc := 0) (ks := 0) (As := []) (n := 4) d_M_brushes_1 rfl ce_M_areSeen lk_M_322 in_M_areSeen rfl rfl hq rfl rfl (Nat.le_of_ble_eq_true rfl) (Or.inl rfl) (cm_M_areSeen (d := d - 1) hw (by omega) hq h) (by omega) ?_
  rintro _ _ ⟨r1, rfl, rfl, h⟩
  show am_Wp (d, "UnseenRingModel", b_M_brushes, 3, false) 0 0 4 [some (.ref q), none, none] [.int r1] (I, L, R, am_SH) (po_M_brushes L R Q)
  refine am_callS (kc := 0) (ks := 0) (As := [.int r1]) (n := 7) d_M_brushes_4 rfl ce_M_bits lk_M_358 st_M_bits rfl rfl (Nat.le_of_ble_eq_true rfl) (Or.inl rfl) (cm_M_bits (d := d - 1) hw (by omega)  h) (by omega) ?_
  rintro _ _ ⟨r2, rfl, rfl, h⟩
  show am_Wp (d, "UnseenRingModel", b_M_brushes, 3, false) 0 0 7 [some (.ref q), none, none] [.int r2] (I, L, R, am_SH) (po_M_brushes L R Q)
  refine am_istore_n (ls' := [some (.ref q), some (.int r2), none]) (n := 8) d_M_brushes_7 (by decide) rfl rfl ?_
  refine am_iconst (n := 9) d_M_brushes_8 ci_0 rfl ?_
  refine am_istore_n (ls' := [some (.ref q), some (.int r2), some (.int 0)]) (n := 10) d_M_brushes_9 (by decide) rfl rfl ?_
  obtain ⟨n, h⟩ := h
  exact tl_M_brushes_10 hw hq hd n I r2 0 h
abbrev po_M_brush (L : am_TL) (R : am_TR) (Q : Int32 → am_TI → Prop) : Option Value → am_St → Prop := fun r σ' => ∃ (x : Int32) (I' : am_TI), r = some (.int x) ∧ σ' = (I', L, R, am_SH) ∧ Q x I'
def wp_M_brush (I : am_TI) (L : am_TL) (R : am_TR) (q : Nat)  (Q : Int32 → am_TI → Prop) : Prop := wp_M_brushes I L R q (fun (r1 : Int32) (I1 : am_TI) => ((r1 = 0 → wp_M_refuse I1 L R q 7 (fun (r3 : Int32) (I3 : am_TI) => Q r3 I3)) ∧ (¬ r1 = 0 → wp_M_gives I1 L R q r1 (fun (r2 : Int32) (I2 : am_TI) => Q r2 I2))))
set_option maxRecDepth 20000 in
theorem cm_M_brush {d : Nat} {I : am_TI} {L : am_TL} {R : am_TR}  (hw : am_Wf R)   {q : Nat} {Q : Int32 → am_TI → Prop} (hd : 4 ≤ d) (hq : am_SH[q]? = some (.inl 12)) (h : wp_M_brush I L R q  Q) : am_Cm d 0 0 y_M_brush b_M_brush 2 (some .int) [.ref q] (I, L, R, am_SH) (po_M_brush L R Q) := by
  refine am_Cm_of (ini := false) (by decide +kernel) (fun z => by cases z) (by simp [Value.category]) (fun r σ' z => by obtain ⟨x, _, rfl, -⟩ := z; exact ⟨_, rfl, rfl⟩) ?_
  unfold wp_M_brush at h
  show am_Wp (d, "UnseenRingModel", b_M_brush, 2, false) 0 0 0 [some (.ref q), none] [] (I, L, R, am_SH) (po_M_brush L R Q)
  refine am_aload_n (n := 1) d_M_brush_0 rfl rfl ?_
  refine am_callV (kc := 0) (ks := 0) (As := []) (n := 4) d_M_brush_1 rfl ce_M_brushes lk_M_361 in_M_brushes rfl rfl hq rfl rfl (Nat.le_of_ble_eq_true rfl) (Or.inl rfl) (cm_M_brushes (d := d - 1) hw (by omega) hq h) (by omega) ?_
  rintro _ _ ⟨r1, I1, rfl, rfl, h⟩
  show am_Wp (d, "UnseenRingModel", b_M_brush, 2, false) 0 0 4 [some (.ref q), none] [.int r1] (I1, L, R, am_SH) (po_M_brush L R Q)
  refine am_istore_n (ls' := [some (.ref q), some (.int r1)]) (n := 5) d_M_brush_4 (by decide) rfl rfl ?_
  refine am_iload_n (n := 6) d_M_brush_5 rfl rfl ?_
  refine am_if_ne (y := 0) (tgt := 18) (n := 9) d_M_brush_6 rfl rfl (fun c1 => ?_) (fun c1 => ?_)
  · have h := h.2 c1
    refine am_aload_n (n := 19) d_M_brush_18 rfl rfl ?_
    refine am_iload_n (n := 20) d_M_brush_19 rfl rfl ?_
    refine am_callV (kc := 0) (ks := 0) (As := [.int r1]) (n := 23) d_M_brush_20 rfl ce_M_gives lk_M_125 in_M_gives rfl rfl hq rfl rfl (Nat.le_of_ble_eq_true rfl) (Or.inl rfl) (cm_M_gives (d := d - 1) hw (by omega) hq h) (by omega) ?_
    rintro _ _ ⟨r2, I2, rfl, rfl, h⟩
    show am_Wp (d, "UnseenRingModel", b_M_brush, 2, false) 0 0 23 [some (.ref q), some (.int r1)] [.int r2] (I2, L, R, am_SH) (po_M_brush L R Q)
    exact am_iret d_M_brush_23 ⟨r2, I2, rfl, rfl, h⟩
  · have h := h.1 c1
    refine am_aload_n (n := 10) d_M_brush_9 rfl rfl ?_
    refine am_bipush (n := 12) d_M_brush_10 cb_7 rfl ?_
    refine am_callV (kc := 0) (ks := 0) (As := [.int 7]) (n := 15) d_M_brush_12 rfl ce_M_refuse lk_M_121 in_M_refuse rfl rfl hq rfl rfl (Nat.le_of_ble_eq_true rfl) (Or.inl rfl) (cm_M_refuse (d := d - 1) hw (by omega) hq h) (by omega) ?_
    rintro _ _ ⟨r3, I3, rfl, rfl, h⟩
    show am_Wp (d, "UnseenRingModel", b_M_brush, 2, false) 0 0 15 [some (.ref q), some (.int r1)] [.int r3] (I3, L, R, am_SH) (po_M_brush L R Q)
    refine am_goto (tgt := 23) d_M_brush_15 rfl ?_
    exact am_iret d_M_brush_23 ⟨r3, I3, rfl, rfl, h⟩
abbrev po_M_sends (L : am_TL) (R : am_TR) (Q : Bool → am_TI → Prop) : Option Value → am_St → Prop := fun r σ' => ∃ (x : Bool) (I' : am_TI), r = some (.int (am_b x)) ∧ σ' = (I', L, R, am_SH) ∧ Q x I'
def wb_M_sends_15 (L : am_TL) (R : am_TR) (q : Nat) (p1 : Int32) (p2 : Int32) (Q : Bool → am_TI → Prop)  (I : am_TI) (s0 : Bool) : Prop := wp_M_hearerRow I L R p1 (fun (r2 : Int32) => (vp_in r2 2258 ∧ (∀ I1, I1 = am_u2 I (q + 1) (Int32.toNatClampNeg r2) p2 → Q s0 I1)))
set_option maxRecDepth 20000 in
theorem tb_M_sends_15 {d : Nat}  {L : am_TL} {R : am_TR} {q : Nat} {p1 : Int32} {p2 : Int32} {Q : Bool → am_TI → Prop}  (hw : am_Wf R) (hq : am_SH[q]? = some (.inl 12)) (hd : 2 ≤ d) (I : am_TI) (s0 : Bool) (h : wb_M_sends_15 L R q p1 p2 Q  I s0) : am_Wp (d, "UnseenRingModel", b_M_sends, 4, false) 0 0 15 [some (.ref q), some (.int p1), some (.int p2), none] [.int (am_b s0)] (I, L, R, am_SH) (po_M_sends L R Q) := by
  unfold wb_M_sends_15 at h
  refine am_istore_n (ls' := [some (.ref q), some (.int p1), some (.int p2), some (.int (am_b s0))]) (n := 16) d_M_sends_15 (by decide) rfl rfl ?_
  refine am_aload_n (n := 17) d_M_sends_16 rfl rfl ?_
  refine am_getR (x := (q + 1)) (n := 20) f_M_7 d_M_sends_17 rfl rfl hq (hw.1 q 12 0 1 hq rfl) ?_
  refine am_iload_n (n := 21) d_M_sends_20 rfl rfl ?_
  refine am_callS (kc := 0) (ks := 0) (As := [.int p1]) (n := 24) d_M_sends_21 rfl ce_M_hearerRow lk_M_241 st_M_hearerRow rfl rfl (Nat.le_of_ble_eq_true rfl) (Or.inl rfl) (cm_M_hearerRow (d := d - 1) hw (by omega)  h) (by omega) ?_
  rintro _ _ ⟨r2, rfl, rfl, h⟩
  show am_Wp (d, "UnseenRingModel", b_M_sends, 4, false) 0 0 24 [some (.ref q), some (.int p1), some (.int p2), some (.int (am_b s0))] [.int r2, .ref (q + 1)] (I, L, R, am_SH) (po_M_sends L R Q)
  refine am_iload_n (n := 25) d_M_sends_24 rfl rfl ?_
  obtain ⟨g1, h⟩ := h
  refine am_iast2 (n := 26) d_M_sends_25 rfl (am_sho (k := 0) (o := 1) hq (by decide) (by decide) (by decide) rfl) g1 rfl ?_
  generalize eI1 : am_u2 I (q + 1) (Int32.toNatClampNeg r2) p2 = I1
  have h := h I1 eI1.symm
  refine am_iload_n (n := 27) d_M_sends_26 rfl rfl ?_
  exact am_iret d_M_sends_27 ⟨s0, I1, rfl, rfl, h⟩
def wp_M_sends (I : am_TI) (L : am_TL) (R : am_TR) (q : Nat) (p1 : Int32) (p2 : Int32)  (Q : Bool → am_TI → Prop) : Prop := wp_M_hearerOf I L R q p1 0 (fun (r1 : Int32) => ((r1 = p2 → wb_M_sends_15 L R q p1 p2 Q I false) ∧ (¬ r1 = p2 → wb_M_sends_15 L R q p1 p2 Q I true)))
set_option maxRecDepth 20000 in
theorem cm_M_sends {d : Nat} {I : am_TI} {L : am_TL} {R : am_TR}  (hw : am_Wf R)   {q : Nat} {p1 : Int32} {p2 : Int32} {Q : Bool → am_TI → Prop} (hd : 2 ≤ d) (hq : am_SH[q]? = some (.inl 12)) (h : wp_M_sends I L R q p1 p2  Q) : am_Cm d 0 0 y_M_sends b_M_sends 4 (some .boolean) [.ref q, .int p1, .int p2] (I, L, R, am_SH) (po_M_sends L R Q) := by
  refine am_Cm_of (ini := false) (by decide +kernel) (fun z => by cases z) (by simp [Value.category]) (fun r σ' z => by obtain ⟨x, _, rfl, -⟩ := z; exact ⟨_, rfl, am_b_nar x⟩) ?_
  unfold wp_M_sends at h
  show am_Wp (d, "UnseenRingModel", b_M_sends, 4, false) 0 0 0 [some (.ref q), some (.int p1), some (.int p2), none] [] (I, L, R, am_SH) (po_M_sends L R Q)
  refine am_aload_n (n := 1) d_M_sends_0 rfl rfl ?_
  refine am_iload_n (n := 2) d_M_sends_1 rfl rfl ?_
  refine am_iconst (n := 3) d_M_sends_2 ci_0 rfl ?_
  refine am_callV (kc := 0) (ks := 0) (As := [.int p1, .int 0]) (n := 6) d_M_sends_3 rfl ce_M_hearerOf lk_M_313 in_M_hearerOf rfl rfl hq rfl rfl (Nat.le_of_ble_eq_true rfl) (Or.inl rfl) (cm_M_hearerOf (d := d - 1) hw (by omega) hq h) (by omega) ?_
  rintro _ _ ⟨r1, rfl, rfl, h⟩
  show am_Wp (d, "UnseenRingModel", b_M_sends, 4, false) 0 0 6 [some (.ref q), some (.int p1), some (.int p2), none] [.int r1] (I, L, R, am_SH) (po_M_sends L R Q)
  refine am_iload_n (n := 7) d_M_sends_6 rfl rfl ?_
  refine am_icmp_eq (tgt := 14) (n := 10) d_M_sends_7 rfl rfl (fun c1 => ?_) (fun c1 => ?_)
  · have h := h.1 c1
    refine am_iconst (n := 15) d_M_sends_14 ci_0 rfl ?_
    exact tb_M_sends_15 hw hq hd I false h
  · have h := h.2 c1
    refine am_iconst (n := 11) d_M_sends_10 ci_1 rfl ?_
    refine am_goto (tgt := 15) d_M_sends_11 rfl ?_
    exact tb_M_sends_15 hw hq hd I true h
abbrev po_M_send (L : am_TL) (R : am_TR) (Q : Int32 → am_TI → Prop) : Option Value → am_St → Prop := fun r σ' => ∃ (x : Int32) (I' : am_TI), r = some (.int x) ∧ σ' = (I', L, R, am_SH) ∧ Q x I'
def wb_M_send_16 (L : am_TL) (R : am_TR) (q : Nat) (p1 : Int32) (p2 : Int32) (Q : Int32 → am_TI → Prop)  (I : am_TI) : Prop := wp_M_refuse I L R q 1 (fun (r2 : Int32) (I1 : am_TI) => Q r2 I1)
set_option maxRecDepth 20000 in
theorem tb_M_send_16 {d : Nat}  {L : am_TL} {R : am_TR} {q : Nat} {p1 : Int32} {p2 : Int32} {Q : Int32 → am_TI → Prop}  (hw : am_Wf R) (hq : am_SH[q]? = some (.inl 12)) (hd : 3 ≤ d) (I : am_TI) (h : wb_M_send_16 L R q p1 p2 Q  I) : am_Wp (d, "UnseenRingModel", b_M_send, 4, false) 0 0 16 [some (.ref q), some (.int p1), some (.int p2), none] [] (I, L, R, am_SH) (po_M_send L R Q) := by
  unfold wb_M_send_16 at h
  refine am_aload_n (n := 17) d_M_send_16 rfl rfl ?_
  refine am_iconst (n := 18) d_M_send_17 ci_1 rfl ?_
  refine am_callV (kc := 0) (ks := 0) (As := [.int 1]) (n := 21) d_M_send_18 rfl ce_M_refuse lk_M_121 in_M_refuse rfl rfl hq rfl rfl (Nat.le_of_ble_eq_true rfl) (Or.inl rfl) (cm_M_refuse (d := d - 1) hw (by omega) hq h) (by omega) ?_
  rintro _ _ ⟨r2, I1, rfl, rfl, h⟩
  show am_Wp (d, "UnseenRingModel", b_M_send, 4, false) 0 0 21 [some (.ref q), some (.int p1), some (.int p2), none] [.int r2] (I1, L, R, am_SH) (po_M_send L R Q)
  exact am_iret d_M_send_21 ⟨r2, I1, rfl, rfl, h⟩
def wp_M_send (I : am_TI) (L : am_TL) (R : am_TR) (q : Nat) (p1 : Int32) (p2 : Int32)  (Q : Int32 → am_TI → Prop) : Prop := wp_M_isHearer I L R q p1 (fun (r1 : Bool) => ((r1 = false → wb_M_send_16 L R q p1 p2 Q I) ∧ (r1 = true → wp_M_isCell I L R q p2 (fun (r3 : Bool) => ((r3 = false → wb_M_send_16 L R q p1 p2 Q I) ∧ (r3 = true → wp_M_hearerOf I L R q p1 0 (fun (r4 : Int32) => wp_M_farBetween I L R q p2 r4 (fun (r5 : Int32) => wp_M_sends I L R q p1 p2 (fun (r6 : Bool) (I2 : am_TI) => ((r6 = false → wp_M_refuse I2 L R q 7 (fun (r7 : Int32) (I3 : am_TI) => Q r7 I3)) ∧ (r6 = true → wp_M_gives I2 L R q r5 (fun (r8 : Int32) (I4 : am_TI) => Q r8 I4))))))))))))
set_option maxRecDepth 20000 in
theorem cm_M_send {d : Nat} {I : am_TI} {L : am_TL} {R : am_TR}  (hw : am_Wf R)   {q : Nat} {p1 : Int32} {p2 : Int32} {Q : Int32 → am_TI → Prop} (hd : 3 ≤ d) (hq : am_SH[q]? = some (.inl 12)) (h : wp_M_send I L R q p1 p2  Q) : am_Cm d 0 0 y_M_send b_M_send 4 (some .int) [.ref q, .int p1, .int p2] (I, L, R, am_SH) (po_M_send L R Q) := by
  refine am_Cm_of (ini := false) (by decide +kernel) (fun z => by cases z) (by simp [Value.category]) (fun r σ' z => by obtain ⟨x, _, rfl, -⟩ := z; exact ⟨_, rfl, rfl⟩) ?_
  unfold wp_M_send at h
  show am_Wp (d, "UnseenRingModel", b_M_send, 4, false) 0 0 0 [some (.ref q), some (.int p1), some (.int p2), none] [] (I, L, R, am_SH) (po_M_send L R Q)
  refine am_aload_n (n := 1) d_M_send_0 rfl rfl ?_
  refine am_iload_n (n := 2) d_M_send_1 rfl rfl ?_
  refine am_callV (kc := 0) (ks := 0) (As := [.int p1]) (n := 5) d_M_send_2 rfl ce_M_isHearer lk_M_328 in_M_isHearer rfl rfl hq rfl rfl (Nat.le_of_ble_eq_true rfl) (Or.inl rfl) (cm_M_isHearer (d := d - 1) hw (by omega) hq h) (by omega) ?_
  rintro _ _ ⟨r1, rfl, rfl, h⟩
  show am_Wp (d, "UnseenRingModel", b_M_send, 4, false) 0 0 5 [some (.ref q), some (.int p1), some (.int p2), none] [.int (am_b r1)] (I, L, R, am_SH) (po_M_send L R Q)
  refine am_if_eq (y := 0) (tgt := 16) (n := 8) d_M_send_5 rfl rfl (fun c1 => ?_) (fun c1 => ?_)
  · have h := h.1 (am_b_0 c1)
    exact tb_M_send_16 hw hq hd I h
  · have h := h.2 (am_b_n0 c1)
    refine am_aload_n (n := 9) d_M_send_8 rfl rfl ?_
    refine am_iload_n (n := 10) d_M_send_9 rfl rfl ?_
    refine am_callV (kc := 0) (ks := 0) (As := [.int p2]) (n := 13) d_M_send_10 rfl ce_M_isCell lk_M_334 in_M_isCell rfl rfl hq rfl rfl (Nat.le_of_ble_eq_true rfl) (Or.inl rfl) (cm_M_isCell (d := d - 1) hw (by omega) hq h) (by omega) ?_
    rintro _ _ ⟨r3, rfl, rfl, h⟩
    show am_Wp (d, "UnseenRingModel", b_M_send, 4, false) 0 0 13 [some (.ref q), some (.int p1), some (.int p2), none] [.int (am_b r3)] (I, L, R, am_SH) (po_M_send L R Q)
    refine am_if_ne (y := 0) (tgt := 22) (n := 16) d_M_send_13 rfl rfl (fun c2 => ?_) (fun c2 => ?_)
    · have h := h.2 (am_b_n0 c2)
      refine am_aload_n (n := 23) d_M_send_22 rfl rfl ?_
      refine am_iload_n (n := 24) d_M_send_23 rfl rfl ?_
      refine am_aload_n (n := 25) d_M_send_24 rfl rfl ?_
      refine am_iload_n (n := 26) d_M_send_25 rfl rfl ?_
      refine am_iconst (n := 27) d_M_send_26 ci_0 rfl ?_
      refine am_callV (kc := 0) (ks := 0) (As := [.int p1, .int 0]) (n := 30) d_M_send_27 rfl ce_M_hearerOf lk_M_313 in_M_hearerOf rfl rfl hq rfl rfl (Nat.le_of_ble_eq_true rfl) (Or.inl rfl) (cm_M_hearerOf (d := d - 1) hw (by omega) hq h) (by omega) ?_
      rintro _ _ ⟨r4, rfl, rfl, h⟩
      show am_Wp (d, "UnseenRingModel", b_M_send, 4, false) 0 0 30 [some (.ref q), some (.int p1), some (.int p2), none] [.int r4, .int p2, .ref q] (I, L, R, am_SH) (po_M_send L R Q)
      refine am_callV (kc := 0) (ks := 0) (As := [.int p2, .int r4]) (n := 33) d_M_send_30 rfl ce_M_farBetween lk_M_316 in_M_farBetween rfl rfl hq rfl rfl (Nat.le_of_ble_eq_true rfl) (Or.inl rfl) (cm_M_farBetween (d := d - 1) hw (by omega) hq h) (by omega) ?_
      rintro _ _ ⟨r5, rfl, rfl, h⟩
      show am_Wp (d, "UnseenRingModel", b_M_send, 4, false) 0 0 33 [some (.ref q), some (.int p1), some (.int p2), none] [.int r5] (I, L, R, am_SH) (po_M_send L R Q)
      refine am_istore_n (ls' := [some (.ref q), some (.int p1), some (.int p2), some (.int r5)]) (n := 34) d_M_send_33 (by decide) rfl rfl ?_
      refine am_aload_n (n := 35) d_M_send_34 rfl rfl ?_
      refine am_iload_n (n := 36) d_M_send_35 rfl rfl ?_
      refine am_iload_n (n := 37) d_M_send_36 rfl rfl ?_
      refine am_callV (kc := 0) (ks := 0) (As := [.int p1, .int p2]) (n := 40) d_M_send_37 rfl ce_M_sends lk_M_364 in_M_sends rfl rfl hq rfl rfl (Nat.le_of_ble_eq_true rfl) (Or.inl rfl) (cm_M_sends (d := d - 1) hw (by omega) hq h) (by omega) ?_
      rintro _ _ ⟨r6, I2, rfl, rfl, h⟩
      show am_Wp (d, "UnseenRingModel", b_M_send, 4, false) 0 0 40 [some (.ref q), some (.int p1), some (.int p2), some (.int r5)] [.int (am_b r6)] (I2, L, R, am_SH) (po_M_send L R Q)
      refine am_if_eq (y := 0) (tgt := 51) (n := 43) d_M_send_40 rfl rfl (fun c3 => ?_) (fun c3 => ?_)
      · have h := h.1 (am_b_0 c3)
        refine am_aload_n (n := 52) d_M_send_51 rfl rfl ?_
        refine am_bipush (n := 54) d_M_send_52 cb_7 rfl ?_
        refine am_callV (kc := 0) (ks := 0) (As := [.int 7]) (n := 57) d_M_send_54 rfl ce_M_refuse lk_M_121 in_M_refuse rfl rfl hq rfl rfl (Nat.le_of_ble_eq_true rfl) (Or.inl rfl) (cm_M_refuse (d := d - 1) hw (by omega) hq h) (by omega) ?_
        rintro _ _ ⟨r7, I3, rfl, rfl, h⟩
        show am_Wp (d, "UnseenRingModel", b_M_send, 4, false) 0 0 57 [some (.ref q), some (.int p1), some (.int p2), some (.int r5)] [.int r7] (I3, L, R, am_SH) (po_M_send L R Q)
        exact am_iret d_M_send_57 ⟨r7, I3, rfl, rfl, h⟩
      · have h := h.2 (am_b_n0 c3)
        refine am_aload_n (n := 44) d_M_send_43 rfl rfl ?_
        refine am_iload_n (n := 45) d_M_send_44 rfl rfl ?_
        refine am_callV (kc := 0) (ks := 0) (As := [.int r5]) (n := 48) d_M_send_45 rfl ce_M_gives lk_M_125 in_M_gives rfl rfl hq rfl rfl (Nat.le_of_ble_eq_true rfl) (Or.inl rfl) (cm_M_gives (d := d - 1) hw (by omega) hq h) (by omega) ?_
        rintro _ _ ⟨r8, I4, rfl, rfl, h⟩
        show am_Wp (d, "UnseenRingModel", b_M_send, 4, false) 0 0 48 [some (.ref q), some (.int p1), some (.int p2), some (.int r5)] [.int r8] (I4, L, R, am_SH) (po_M_send L R Q)
        refine am_goto (tgt := 57) d_M_send_48 rfl ?_
        exact am_iret d_M_send_57 ⟨r8, I4, rfl, rfl, h⟩
    · have h := h.1 (am_b_0 c2)
      exact tb_M_send_16 hw hq hd I h
abbrev po_M_isFrom (I : am_TI) (L : am_TL) (R : am_TR) (Q : Bool → Prop) : Option Value → am_St → Prop := fun r σ' => ∃ (x : Bool), r = some (.int (am_b x)) ∧ σ' = (I, L, R, am_SH) ∧ Q x
def wp_M_isFrom (I : am_TI) (L : am_TL) (R : am_TR) (p0 : Int64) (p2 : Int64) (p4 : Int64)  (Q : Bool → Prop) : Prop := ((p0 < p2 → Q false) ∧ (¬ p0 < p2 → ((p4 < p0 → Q false) ∧ (¬ p4 < p0 → Q true))))
set_option maxRecDepth 20000 in
theorem cm_M_isFrom {d : Nat} {I : am_TI} {L : am_TL} {R : am_TR}  (hw : am_Wf R)   {p0 : Int64} {p2 : Int64} {p4 : Int64} {Q : Bool → Prop} (hd : 0 ≤ d)  (h : wp_M_isFrom I L R p0 p2 p4  Q) : am_Cm d 0 0 y_M_isFrom b_M_isFrom 6 (some .boolean) [.long p0, .long p2, .long p4] (I, L, R, am_SH) (po_M_isFrom I L R Q) := by
  refine am_Cm_of (ini := false) (by decide +kernel) (fun z => by cases z) (by simp [Value.category]) (fun r σ' z => by obtain ⟨x, rfl, -⟩ := z; exact ⟨_, rfl, am_b_nar x⟩) ?_
  unfold wp_M_isFrom at h
  show am_Wp (d, "UnseenRingModel", b_M_isFrom, 6, false) 0 0 0 [some (.long p0), none, some (.long p2), none, some (.long p4), none] [] (I, L, R, am_SH) (po_M_isFrom I L R Q)
  refine am_lload_n (n := 1) d_M_isFrom_0 rfl rfl ?_
  refine am_lload_n (n := 2) d_M_isFrom_1 rfl rfl ?_
  refine am_lcmp (n := 3) d_M_isFrom_2 rfl ?_
  refine am_if_lt (y := 0) (tgt := 17) (n := 6) d_M_isFrom_3 rfl rfl (fun c1 => ?_) (fun c1 => ?_)
  · have h := h.1 (am_cmp_lt.mp c1)
    refine am_iconst (n := 18) d_M_isFrom_17 ci_0 rfl ?_
    exact am_iret d_M_isFrom_18 ⟨false, rfl, rfl, h⟩
  · have h := h.2 (fun z => c1 (am_cmp_lt.mpr z))
    refine am_lload_n (n := 7) d_M_isFrom_6 rfl rfl ?_
    refine am_lload (n := 9) d_M_isFrom_7 rfl rfl ?_
    refine am_lcmp (n := 10) d_M_isFrom_9 rfl ?_
    refine am_if_gt (y := 0) (tgt := 17) (n := 13) d_M_isFrom_10 rfl rfl (fun c2 => ?_) (fun c2 => ?_)
    · have h := h.1 (am_cmp_gt.mp c2)
      refine am_iconst (n := 18) d_M_isFrom_17 ci_0 rfl ?_
      exact am_iret d_M_isFrom_18 ⟨false, rfl, rfl, h⟩
    · have h := h.2 (fun z => c2 (am_cmp_gt.mpr z))
      refine am_iconst (n := 14) d_M_isFrom_13 ci_1 rfl ?_
      refine am_goto (tgt := 18) d_M_isFrom_14 rfl ?_
      exact am_iret d_M_isFrom_18 ⟨true, rfl, rfl, h⟩
abbrev po_M_give (L : am_TL) (R : am_TR) (Q : Int32 → am_TI → Prop) : Option Value → am_St → Prop := fun r σ' => ∃ (x : Int32) (I' : am_TI), r = some (.int x) ∧ σ' = (I', L, R, am_SH) ∧ Q x I'
def wb_M_give_20 (L : am_TL) (R : am_TR) (q : Nat) (p1 : Int32) (p2 : Int32) (Q : Int32 → am_TI → Prop)  (I : am_TI) : Prop := wp_M_refuse I L R q 1 (fun (r2 : Int32) (I1 : am_TI) => Q r2 I1)
set_option maxRecDepth 20000 in
theorem tb_M_give_20 {d : Nat}  {L : am_TL} {R : am_TR} {q : Nat} {p1 : Int32} {p2 : Int32} {Q : Int32 → am_TI → Prop}  (hw : am_Wf R) (hq : am_SH[q]? = some (.inl 12)) (hd : 2 ≤ d) (I : am_TI) (h : wb_M_give_20 L R q p1 p2 Q  I) : am_Wp (d, "UnseenRingModel", b_M_give, 4, false) 0 0 20 [some (.ref q), some (.int p1), some (.int p2), none] [] (I, L, R, am_SH) (po_M_give L R Q) := by
  unfold wb_M_give_20 at h
  refine am_aload_n (n := 21) d_M_give_20 rfl rfl ?_
  refine am_iconst (n := 22) d_M_give_21 ci_1 rfl ?_
  refine am_callV (kc := 0) (ks := 0) (As := [.int 1]) (n := 25) d_M_give_22 rfl ce_M_refuse lk_M_121 in_M_refuse rfl rfl hq rfl rfl (Nat.le_of_ble_eq_true rfl) (Or.inl rfl) (cm_M_refuse (d := d - 1) hw (by omega) hq h) (by omega) ?_
  rintro _ _ ⟨r2, I1, rfl, rfl, h⟩
  show am_Wp (d, "UnseenRingModel", b_M_give, 4, false) 0 0 25 [some (.ref q), some (.int p1), some (.int p2), none] [.int r2] (I1, L, R, am_SH) (po_M_give L R Q)
  exact am_iret d_M_give_25 ⟨r2, I1, rfl, rfl, h⟩
def wp_M_give (I : am_TI) (L : am_TL) (R : am_TR) (q : Nat) (p1 : Int32) (p2 : Int32)  (Q : Int32 → am_TI → Prop) : Prop := wp_M_isHearer I L R q p1 (fun (r1 : Bool) => ((r1 = false → wb_M_give_20 L R q p1 p2 Q I) ∧ (r1 = true → wp_M_isFrom I L R (Int32.toInt64 p2) 0 99 (fun (r3 : Bool) => ((r3 = false → wb_M_give_20 L R q p1 p2 Q I) ∧ (r3 = true → wp_M_hearerOf I L R q p1 2 (fun (r4 : Int32) => wp_M_hearerRow I L R p1 (fun (r5 : Int32) => (vp_in (r5 + 2) 2258 ∧ (∀ I2, I2 = am_u2 I (q + 1) (Int32.toNatClampNeg (r5 + 2)) p2 → wp_M_gives I2 L R q r4 (fun (r6 : Int32) (I3 : am_TI) => Q r6 I3)))))))))))
set_option maxRecDepth 20000 in
theorem cm_M_give {d : Nat} {I : am_TI} {L : am_TL} {R : am_TR}  (hw : am_Wf R)   {q : Nat} {p1 : Int32} {p2 : Int32} {Q : Int32 → am_TI → Prop} (hd : 2 ≤ d) (hq : am_SH[q]? = some (.inl 12)) (h : wp_M_give I L R q p1 p2  Q) : am_Cm d 0 0 y_M_give b_M_give 4 (some .int) [.ref q, .int p1, .int p2] (I, L, R, am_SH) (po_M_give L R Q) := by
  refine am_Cm_of (ini := false) (by decide +kernel) (fun z => by cases z) (by simp [Value.category]) (fun r σ' z => by obtain ⟨x, _, rfl, -⟩ := z; exact ⟨_, rfl, rfl⟩) ?_
  unfold wp_M_give at h
  show am_Wp (d, "UnseenRingModel", b_M_give, 4, false) 0 0 0 [some (.ref q), some (.int p1), some (.int p2), none] [] (I, L, R, am_SH) (po_M_give L R Q)
  refine am_aload_n (n := 1) d_M_give_0 rfl rfl ?_
  refine am_iload_n (n := 2) d_M_give_1 rfl rfl ?_
  refine am_callV (kc := 0) (ks := 0) (As := [.int p1]) (n := 5) d_M_give_2 rfl ce_M_isHearer lk_M_328 in_M_isHearer rfl rfl hq rfl rfl (Nat.le_of_ble_eq_true rfl) (Or.inl rfl) (cm_M_isHearer (d := d - 1) hw (by omega) hq h) (by omega) ?_
  rintro _ _ ⟨r1, rfl, rfl, h⟩
  show am_Wp (d, "UnseenRingModel", b_M_give, 4, false) 0 0 5 [some (.ref q), some (.int p1), some (.int p2), none] [.int (am_b r1)] (I, L, R, am_SH) (po_M_give L R Q)
  refine am_if_eq (y := 0) (tgt := 20) (n := 8) d_M_give_5 rfl rfl (fun c1 => ?_) (fun c1 => ?_)
  · have h := h.1 (am_b_0 c1)
    exact tb_M_give_20 hw hq hd I h
  · have h := h.2 (am_b_n0 c1)
    refine am_iload_n (n := 9) d_M_give_8 rfl rfl ?_
    refine am_i2l (n := 10) d_M_give_9 rfl ?_
    refine am_lconst (v := 0) (n := 11) d_M_give_10 rfl rfl ?_
    refine am_ldc2 (n := 14) d_M_give_11 k_M_367 rfl ?_
    refine am_callS (kc := 0) (ks := 0) (As := [.long (Int32.toInt64 p2), .long 0, .long 99]) (n := 17) d_M_give_14 rfl ce_M_isFrom lk_M_306 st_M_isFrom rfl rfl (Nat.le_of_ble_eq_true rfl) (Or.inl rfl) (cm_M_isFrom (d := d - 1) hw (by omega)  h) (by omega) ?_
    rintro _ _ ⟨r3, rfl, rfl, h⟩
    show am_Wp (d, "UnseenRingModel", b_M_give, 4, false) 0 0 17 [some (.ref q), some (.int p1), some (.int p2), none] [.int (am_b r3)] (I, L, R, am_SH) (po_M_give L R Q)
    refine am_if_ne (y := 0) (tgt := 26) (n := 20) d_M_give_17 rfl rfl (fun c2 => ?_) (fun c2 => ?_)
    · have h := h.2 (am_b_n0 c2)
      refine am_aload_n (n := 27) d_M_give_26 rfl rfl ?_
      refine am_iload_n (n := 28) d_M_give_27 rfl rfl ?_
      refine am_iconst (n := 29) d_M_give_28 ci_2 rfl ?_
      refine am_callV (kc := 0) (ks := 0) (As := [.int p1, .int 2]) (n := 32) d_M_give_29 rfl ce_M_hearerOf lk_M_313 in_M_hearerOf rfl rfl hq rfl rfl (Nat.le_of_ble_eq_true rfl) (Or.inl rfl) (cm_M_hearerOf (d := d - 1) hw (by omega) hq h) (by omega) ?_
      rintro _ _ ⟨r4, rfl, rfl, h⟩
      show am_Wp (d, "UnseenRingModel", b_M_give, 4, false) 0 0 32 [some (.ref q), some (.int p1), some (.int p2), none] [.int r4] (I, L, R, am_SH) (po_M_give L R Q)
      refine am_istore_n (ls' := [some (.ref q), some (.int p1), some (.int p2), some (.int r4)]) (n := 33) d_M_give_32 (by decide) rfl rfl ?_
      refine am_aload_n (n := 34) d_M_give_33 rfl rfl ?_
      refine am_getR (x := (q + 1)) (n := 37) f_M_7 d_M_give_34 rfl rfl hq (hw.1 q 12 0 1 hq rfl) ?_
      refine am_iload_n (n := 38) d_M_give_37 rfl rfl ?_
      refine am_callS (kc := 0) (ks := 0) (As := [.int p1]) (n := 41) d_M_give_38 rfl ce_M_hearerRow lk_M_241 st_M_hearerRow rfl rfl (Nat.le_of_ble_eq_true rfl) (Or.inl rfl) (cm_M_hearerRow (d := d - 1) hw (by omega)  h) (by omega) ?_
      rintro _ _ ⟨r5, rfl, rfl, h⟩
      show am_Wp (d, "UnseenRingModel", b_M_give, 4, false) 0 0 41 [some (.ref q), some (.int p1), some (.int p2), some (.int r4)] [.int r5, .ref (q + 1)] (I, L, R, am_SH) (po_M_give L R Q)
      refine am_iconst (n := 42) d_M_give_41 ci_2 rfl ?_
      refine am_iadd (n := 43) d_M_give_42 rfl ?_
      refine am_iload_n (n := 44) d_M_give_43 rfl rfl ?_
      obtain ⟨g1, h⟩ := h
      refine am_iast2 (n := 45) d_M_give_44 rfl (am_sho (k := 0) (o := 1) hq (by decide) (by decide) (by decide) rfl) g1 rfl ?_
      generalize eI2 : am_u2 I (q + 1) (Int32.toNatClampNeg (r5 + 2)) p2 = I2
      have h := h I2 eI2.symm
      refine am_aload_n (n := 46) d_M_give_45 rfl rfl ?_
      refine am_iload_n (n := 47) d_M_give_46 rfl rfl ?_
      refine am_callV (kc := 0) (ks := 0) (As := [.int r4]) (n := 50) d_M_give_47 rfl ce_M_gives lk_M_125 in_M_gives rfl rfl hq rfl rfl (Nat.le_of_ble_eq_true rfl) (Or.inl rfl) (cm_M_gives (d := d - 1) hw (by omega) hq h) (by omega) ?_
      rintro _ _ ⟨r6, I3, rfl, rfl, h⟩
      show am_Wp (d, "UnseenRingModel", b_M_give, 4, false) 0 0 50 [some (.ref q), some (.int p1), some (.int p2), some (.int r4)] [.int r6] (I3, L, R, am_SH) (po_M_give L R Q)
      exact am_iret d_M_give_50 ⟨r6, I3, rfl, rfl, h⟩
    · have h := h.1 (am_b_0 c2)
      exact tb_M_give_20 hw hq hd I h
abbrev po_M_teach (L : am_TL) (R : am_TR) (Q : Bool → am_TI → Prop) : Option Value → am_St → Prop := fun r σ' => ∃ (x : Bool) (I' : am_TI), r = some (.int (am_b x)) ∧ σ' = (I', L, R, am_SH) ∧ Q x I'
def wb_M_teach_16 (L : am_TL) (R : am_TR) (q : Nat) (p1 : Int32) (p2 : Int32) (p3 : Int32) (Q : Bool → am_TI → Prop)  (I : am_TI) : Prop := wp_M_is I L R q 1 (fun (r2 : Bool) (I1 : am_TI) => Q r2 I1)
set_option maxRecDepth 20000 in
theorem tb_M_teach_16 {d : Nat}  {L : am_TL} {R : am_TR} {q : Nat} {p1 : Int32} {p2 : Int32} {p3 : Int32} {Q : Bool → am_TI → Prop}  (hw : am_Wf R) (hq : am_SH[q]? = some (.inl 12)) (hd : 2 ≤ d) (I : am_TI) (h : wb_M_teach_16 L R q p1 p2 p3 Q  I) : am_Wp (d, "UnseenRingModel", b_M_teach, 4, false) 0 0 16 [some (.ref q), some (.int p1), some (.int p2), some (.int p3)] [] (I, L, R, am_SH) (po_M_teach L R Q) := by
  unfold wb_M_teach_16 at h
  refine am_aload_n (n := 17) d_M_teach_16 rfl rfl ?_
  refine am_iconst (n := 18) d_M_teach_17 ci_1 rfl ?_
  refine am_callV (kc := 0) (ks := 0) (As := [.int 1]) (n := 21) d_M_teach_18 rfl ce_M_is lk_M_128 in_M_is rfl rfl hq rfl rfl (Nat.le_of_ble_eq_true rfl) (Or.inl rfl) (cm_M_is (d := d - 1) hw (by omega) hq h) (by omega) ?_
  rintro _ _ ⟨r2, I1, rfl, rfl, h⟩
  show am_Wp (d, "UnseenRingModel", b_M_teach, 4, false) 0 0 21 [some (.ref q), some (.int p1), some (.int p2), some (.int p3)] [.int (am_b r2)] (I1, L, R, am_SH) (po_M_teach L R Q)
  exact am_iret d_M_teach_21 ⟨r2, I1, rfl, rfl, h⟩
def wp_M_teach (I : am_TI) (L : am_TL) (R : am_TR) (q : Nat) (p1 : Int32) (p2 : Int32) (p3 : Int32)  (Q : Bool → am_TI → Prop) : Prop := wp_M_isHearer I L R q p1 (fun (r1 : Bool) => ((r1 = false → wb_M_teach_16 L R q p1 p2 p3 Q I) ∧ (r1 = true → wp_M_isTune I L R q p2 (fun (r3 : Bool) => ((r3 = false → wb_M_teach_16 L R q p1 p2 p3 Q I) ∧ (r3 = true → wp_M_hearerOf I L R q p1 1 (fun (r4 : Int32) => wp_M_isIn I L R q r4 p2 (fun (r5 : Bool) => (((am_b r5) = p3 → wp_M_is I L R q 7 (fun (r8 : Bool) (I4 : am_TI) => Q r8 I4)) ∧ (¬ (am_b r5) = p3 → wp_M_hearerRow I L R p1 (fun (r6 : Int32) => (vp_in (r6 + 1) 2258 ∧ (vp_in (r6 + 1) 2258 ∧ (∀ I2, I2 = am_u2 I (q + 1) (Int32.toNatClampNeg (r6 + 1)) ((I (q + 1) (Int32.toNatClampNeg (r6 + 1))) ^^^ ((1 : Int32) <<< (p2 &&& 31))) → wp_M_is I2 L R q 0 (fun (r7 : Bool) (I3 : am_TI) => Q r7 I3)))))))))))))))
set_option maxRecDepth 20000 in
theorem cm_M_teach {d : Nat} {I : am_TI} {L : am_TL} {R : am_TR}  (hw : am_Wf R)   {q : Nat} {p1 : Int32} {p2 : Int32} {p3 : Int32} {Q : Bool → am_TI → Prop} (hd : 2 ≤ d) (hq : am_SH[q]? = some (.inl 12)) (h : wp_M_teach I L R q p1 p2 p3  Q) : am_Cm d 0 0 y_M_teach b_M_teach 4 (some .boolean) [.ref q, .int p1, .int p2, .int p3] (I, L, R, am_SH) (po_M_teach L R Q) := by
  refine am_Cm_of (ini := false) (by decide +kernel) (fun z => by cases z) (by simp [Value.category]) (fun r σ' z => by obtain ⟨x, _, rfl, -⟩ := z; exact ⟨_, rfl, am_b_nar x⟩) ?_
  unfold wp_M_teach at h
  show am_Wp (d, "UnseenRingModel", b_M_teach, 4, false) 0 0 0 [some (.ref q), some (.int p1), some (.int p2), some (.int p3)] [] (I, L, R, am_SH) (po_M_teach L R Q)
  refine am_aload_n (n := 1) d_M_teach_0 rfl rfl ?_
  refine am_iload_n (n := 2) d_M_teach_1 rfl rfl ?_
  refine am_callV (kc := 0) (ks := 0) (As := [.int p1]) (n := 5) d_M_teach_2 rfl ce_M_isHearer lk_M_328 in_M_isHearer rfl rfl hq rfl rfl (Nat.le_of_ble_eq_true rfl) (Or.inl rfl) (cm_M_isHearer (d := d - 1) hw (by omega) hq h) (by omega) ?_
  rintro _ _ ⟨r1, rfl, rfl, h⟩
  show am_Wp (d, "UnseenRingModel", b_M_teach, 4, false) 0 0 5 [some (.ref q), some (.int p1), some (.int p2), some (.int p3)] [.int (am_b r1)] (I, L, R, am_SH) (po_M_teach L R Q)
  refine am_if_eq (y := 0) (tgt := 16) (n := 8) d_M_teach_5 rfl rfl (fun c1 => ?_) (fun c1 => ?_)
  · have h := h.1 (am_b_0 c1)
    exact tb_M_teach_16 hw hq hd I h
  · have h := h.2 (am_b_n0 c1)
    refine am_aload_n (n := 9) d_M_teach_8 rfl rfl ?_
    refine am_iload_n (n := 10) d_M_teach_9 rfl rfl ?_
    refine am_callV (kc := 0) (ks := 0) (As := [.int p2]) (n := 13) d_M_teach_10 rfl ce_M_isTune lk_M_340 in_M_isTune rfl rfl hq rfl rfl (Nat.le_of_ble_eq_true rfl) (Or.inl rfl) (cm_M_isTune (d := d - 1) hw (by omega) hq h) (by omega) ?_
    rintro _ _ ⟨r3, rfl, rfl, h⟩
    show am_Wp (d, "UnseenRingModel", b_M_teach, 4, false) 0 0 13 [some (.ref q), some (.int p1), some (.int p2), some (.int p3)] [.int (am_b r3)] (I, L, R, am_SH) (po_M_teach L R Q)
    refine am_if_ne (y := 0) (tgt := 22) (n := 16) d_M_teach_13 rfl rfl (fun c2 => ?_) (fun c2 => ?_)
    · have h := h.2 (am_b_n0 c2)
      refine am_aload_n (n := 23) d_M_teach_22 rfl rfl ?_
      refine am_aload_n (n := 24) d_M_teach_23 rfl rfl ?_
      refine am_iload_n (n := 25) d_M_teach_24 rfl rfl ?_
      refine am_iconst (n := 26) d_M_teach_25 ci_1 rfl ?_
      refine am_callV (kc := 0) (ks := 0) (As := [.int p1, .int 1]) (n := 29) d_M_teach_26 rfl ce_M_hearerOf lk_M_313 in_M_hearerOf rfl rfl hq rfl rfl (Nat.le_of_ble_eq_true rfl) (Or.inl rfl) (cm_M_hearerOf (d := d - 1) hw (by omega) hq h) (by omega) ?_
      rintro _ _ ⟨r4, rfl, rfl, h⟩
      show am_Wp (d, "UnseenRingModel", b_M_teach, 4, false) 0 0 29 [some (.ref q), some (.int p1), some (.int p2), some (.int p3)] [.int r4, .ref q] (I, L, R, am_SH) (po_M_teach L R Q)
      refine am_iload_n (n := 30) d_M_teach_29 rfl rfl ?_
      refine am_callV (kc := 0) (ks := 0) (As := [.int r4, .int p2]) (n := 33) d_M_teach_30 rfl ce_M_isIn lk_M_251 in_M_isIn rfl rfl hq rfl rfl (Nat.le_of_ble_eq_true rfl) (Or.inl rfl) (cm_M_isIn (d := d - 1) hw (by omega) hq h) (by omega) ?_
      rintro _ _ ⟨r5, rfl, rfl, h⟩
      show am_Wp (d, "UnseenRingModel", b_M_teach, 4, false) 0 0 33 [some (.ref q), some (.int p1), some (.int p2), some (.int p3)] [.int (am_b r5)] (I, L, R, am_SH) (po_M_teach L R Q)
      refine am_iload_n (n := 34) d_M_teach_33 rfl rfl ?_
      refine am_icmp_ne (tgt := 44) (n := 37) d_M_teach_34 rfl rfl (fun c3 => ?_) (fun c3 => ?_)
      · have h := h.2 c3
        refine am_aload_n (n := 45) d_M_teach_44 rfl rfl ?_
        refine am_getR (x := (q + 1)) (n := 48) f_M_7 d_M_teach_45 rfl rfl hq (hw.1 q 12 0 1 hq rfl) ?_
        refine am_iload_n (n := 49) d_M_teach_48 rfl rfl ?_
        refine am_callS (kc := 0) (ks := 0) (As := [.int p1]) (n := 52) d_M_teach_49 rfl ce_M_hearerRow lk_M_241 st_M_hearerRow rfl rfl (Nat.le_of_ble_eq_true rfl) (Or.inl rfl) (cm_M_hearerRow (d := d - 1) hw (by omega)  h) (by omega) ?_
        rintro _ _ ⟨r6, rfl, rfl, h⟩
        show am_Wp (d, "UnseenRingModel", b_M_teach, 4, false) 0 0 52 [some (.ref q), some (.int p1), some (.int p2), some (.int p3)] [.int r6, .ref (q + 1)] (I, L, R, am_SH) (po_M_teach L R Q)
        refine am_iconst (n := 53) d_M_teach_52 ci_1 rfl ?_
        refine am_iadd (n := 54) d_M_teach_53 rfl ?_
        refine am_dup2 (n := 55) d_M_teach_54 rfl rfl rfl ?_
        obtain ⟨g1, h⟩ := h
        refine am_iald2 (n := 56) d_M_teach_55 rfl (am_sho (k := 0) (o := 1) hq (by decide) (by decide) (by decide) rfl) g1 rfl ?_
        refine am_iconst (n := 57) d_M_teach_56 ci_1 rfl ?_
        refine am_iload_n (n := 58) d_M_teach_57 rfl rfl ?_
        refine am_ishl (n := 59) d_M_teach_58 rfl ?_
        refine am_ixor (n := 60) d_M_teach_59 rfl ?_
        obtain ⟨g2, h⟩ := h
        refine am_iast2 (n := 61) d_M_teach_60 rfl (am_sho (k := 0) (o := 1) hq (by decide) (by decide) (by decide) rfl) g2 rfl ?_
        generalize eI2 : am_u2 I (q + 1) (Int32.toNatClampNeg (r6 + 1)) ((I (q + 1) (Int32.toNatClampNeg (r6 + 1))) ^^^ ((1 : Int32) <<< (p2 &&& 31))) = I2
        have h := h I2 eI2.symm
        refine am_aload_n (n := 62) d_M_teach_61 rfl rfl ?_
        refine am_iconst (n := 63) d_M_teach_62 ci_0 rfl ?_
        refine am_callV (kc := 0) (ks := 0) (As := [.int 0]) (n := 66) d_M_teach_63 rfl ce_M_is lk_M_128 in_M_is rfl rfl hq rfl rfl (Nat.le_of_ble_eq_true rfl) (Or.inl rfl) (cm_M_is (d := d - 1) hw (by omega) hq h) (by omega) ?_
        rintro _ _ ⟨r7, I3, rfl, rfl, h⟩
        show am_Wp (d, "UnseenRingModel", b_M_teach, 4, false) 0 0 66 [some (.ref q), some (.int p1), some (.int p2), some (.int p3)] [.int (am_b r7)] (I3, L, R, am_SH) (po_M_teach L R Q)
        exact am_iret d_M_teach_66 ⟨r7, I3, rfl, rfl, h⟩
      · have h := h.1 c3
        refine am_aload_n (n := 38) d_M_teach_37 rfl rfl ?_
        refine am_bipush (n := 40) d_M_teach_38 cb_7 rfl ?_
        refine am_callV (kc := 0) (ks := 0) (As := [.int 7]) (n := 43) d_M_teach_40 rfl ce_M_is lk_M_128 in_M_is rfl rfl hq rfl rfl (Nat.le_of_ble_eq_true rfl) (Or.inl rfl) (cm_M_is (d := d - 1) hw (by omega) hq h) (by omega) ?_
        rintro _ _ ⟨r8, I4, rfl, rfl, h⟩
        show am_Wp (d, "UnseenRingModel", b_M_teach, 4, false) 0 0 43 [some (.ref q), some (.int p1), some (.int p2), some (.int p3)] [.int (am_b r8)] (I4, L, R, am_SH) (po_M_teach L R Q)
        exact am_iret d_M_teach_43 ⟨r8, I4, rfl, rfl, h⟩
    · have h := h.1 (am_b_0 c2)
      exact tb_M_teach_16 hw hq hd I h
