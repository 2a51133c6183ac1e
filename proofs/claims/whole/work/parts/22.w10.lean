abbrev po_M_coverAt (L : am_TL) (R : am_TR) (Q : Int32 → am_TI → Prop) : Option Value → am_St → Prop := fun r σ' => ∃ (x : Int32) (I' : am_TI), r = some (.int x) ∧ σ' = (I', L, R, am_SH) ∧ Q x I'
def wb_M_coverAt_139 (L : am_TL) (R : am_TR) (q : Nat) (p1 : Int32) (p2 : Int32) (p3 : Int32) (Q : Int32 → am_TI → Prop)  (I : am_TI) : Prop := wp_M_refuse I L R q 6 (fun (r3 : Int32) (I2 : am_TI) => Q r3 I2)
set_option maxRecDepth 20000 in
theorem tb_M_coverAt_139 {d : Nat}  {L : am_TL} {R : am_TR} {q : Nat} {p1 : Int32} {p2 : Int32} {p3 : Int32} {Q : Int32 → am_TI → Prop}  (hw : am_Wf R) (hq : am_SH[q]? = some (.inl 12)) (hd : 4 ≤ d) (I : am_TI) (h : wb_M_coverAt_139 L R q p1 p2 p3 Q  I) : am_Wp (d, "UnseenRingModel", b_M_coverAt, 9, false) 0 0 139 [some (.ref q), some (.int p1), some (.int p2), some (.int p3), none, none, none, none, none] [] (I, L, R, am_SH) (po_M_coverAt L R Q) := by
  unfold wb_M_coverAt_139 at h
  refine am_aload_n (n := 140) d_M_coverAt_139 rfl rfl ?_
  refine am_bipush (n := 142) d_M_coverAt_140 cb_6 rfl ?_
  refine am_callV (kc := 0) (ks := 0) (As := [.int 6]) (n := 145) d_M_coverAt_142 rfl ce_M_refuse lk_M_121 in_M_refuse rfl rfl hq rfl rfl (Nat.le_of_ble_eq_true rfl) (Or.inl rfl) (cm_M_refuse (d := d - 1) hw (by omega) hq h) (by omega) ?_
  rintro _ _ ⟨r3, I2, rfl, rfl, h⟩
  show am_Wp (d, "UnseenRingModel", b_M_coverAt, 9, false) 0 0 145 [some (.ref q), some (.int p1), some (.int p2), some (.int p3), none, none, none, none, none] [.int r3] (I2, L, R, am_SH) (po_M_coverAt L R Q)
  exact am_iret d_M_coverAt_145 ⟨r3, I2, rfl, rfl, h⟩
def wl_M_coverAt_43 (L : am_TL) (R : am_TR) (q : Nat) (p1 : Int32) (p2 : Int32) (p3 : Int32) (Q : Int32 → am_TI → Prop)  : Nat → am_TI → Int32 → Int32 → Int32 → Prop
  | 0 => fun _ _ _ _ => False
  | f43 + 1 => fun I v5 v6 v7 => wp_M_cellsOf I L R q 0 (fun (r2 : Int32) => ((r2 ≤ v7 → wb_M_coverAt_139 L R q p1 p2 p3 Q I) ∧ (¬ r2 ≤ v7 → ((v5 = (((1 : Int32) <<< (p2 &&& 31)) - 1) → wb_M_coverAt_139 L R q p1 p2 p3 Q I) ∧ (¬ v5 = (((1 : Int32) <<< (p2 &&& 31)) - 1) → wp_M_hitFrom I L R q v7 p1 p2 (fun (r4 : Int32) => (vp_in ((256 * (v7 + 1)) + (v5 ||| r4)) 6656 ∧ (vp_in ((256 * v7) + v5) 6656 ∧ (((1 + (I (q + 17) (Int32.toNatClampNeg ((256 * (v7 + 1)) + (v5 ||| r4))))) = (I (q + 17) (Int32.toNatClampNeg ((256 * v7) + v5))) → ((v6 = 0 → wp_M_gives I L R q v7 (fun (r5 : Int32) (I3 : am_TI) => Q r5 I3)) ∧ (¬ v6 = 0 → wl_M_coverAt_43 L R q p1 p2 p3 Q f43 I (v5 ||| r4) (v6 + (-1)) (v7 + 1)))) ∧ (¬ (1 + (I (q + 17) (Int32.toNatClampNeg ((256 * (v7 + 1)) + (v5 ||| r4))))) = (I (q + 17) (Int32.toNatClampNeg ((256 * v7) + v5))) → wl_M_coverAt_43 L R q p1 p2 p3 Q f43 I v5 v6 (v7 + 1)))))))))))
set_option maxRecDepth 20000 in
theorem tl_M_coverAt_43 {d : Nat}  {L : am_TL} {R : am_TR} {q : Nat} {p1 : Int32} {p2 : Int32} {p3 : Int32} {Q : Int32 → am_TI → Prop}  (hw : am_Wf R) (hq : am_SH[q]? = some (.inl 12)) (hd : 4 ≤ d) : ∀ (n : Nat) (I : am_TI) (v5 : Int32) (v6 : Int32) (v7 : Int32), wl_M_coverAt_43 L R q p1 p2 p3 Q  n I v5 v6 v7 → am_Wp (d, "UnseenRingModel", b_M_coverAt, 9, false) 0 0 43 [some (.ref q), some (.int p1), some (.int p2), some (.int p3), none, some (.int v5), some (.int v6), some (.int v7), none] [] (I, L, R, am_SH) (po_M_coverAt L R Q) := by
  intro n
  induction n with
  | zero => intro I v5 v6 v7 h; exact h.elim
  | succ n ih =>
    intro I v5 v6 v7 h
    unfold wl_M_coverAt_43 at h
    refine am_iload (n := 45) d_M_coverAt_43 rfl rfl ?_
    refine am_aload_n (n := 46) d_M_coverAt_45 rfl rfl ?_
    refine am_iconst (n := 47) d_M_coverAt_46 ci_0 rfl ?_
    refine am_callV (kc := 0) (ks := 0) (As := [.int 0]) (n := 50) d_M_coverAt_47 rfl ce_M_cellsOf lk_M_223 in_M_cellsOf rfl rfl hq rfl rfl (Nat.le_of_ble_eq_true rfl) (Or.inl rfl) (cm_M_cellsOf (d := d - 1) hw (by omega) hq h) (by omega) ?_
    rintro _ _ ⟨r2, rfl, rfl, h⟩
    show am_Wp (d, "UnseenRingModel", b_M_coverAt, 9, false) 0 0 50 [some (.ref q), some (.int p1), some (.int p2), some (.int p3), none, some (.int v5), some (.int v6), some (.int v7), none] [.int r2, .int v7] (I, L, R, am_SH) (po_M_coverAt L R Q)
    refine am_icmp_ge (tgt := 139) (n := 53) d_M_coverAt_50 rfl rfl (fun c3 => ?_) (fun c3 => ?_)
    · have h := h.1 c3
      refine am_forget (ls' := [some (.ref q), some (.int p1), some (.int p2), some (.int p3), none, none, none, none, none]) (am_le_s (am_le_s (am_le_s (am_le_s (am_le_n (am_le_n (am_le_n (am_le_n (am_le_n am_le_e))))))))) ?_
      exact tb_M_coverAt_139 hw hq hd I h
    · have h := h.2 c3
      refine am_iload (n := 55) d_M_coverAt_53 rfl rfl ?_
      refine am_iconst (n := 56) d_M_coverAt_55 ci_1 rfl ?_
      refine am_iload_n (n := 57) d_M_coverAt_56 rfl rfl ?_
      refine am_ishl (n := 58) d_M_coverAt_57 rfl ?_
      refine am_iconst (n := 59) d_M_coverAt_58 ci_1 rfl ?_
      refine am_isub (n := 60) d_M_coverAt_59 rfl ?_
      refine am_icmp_eq (tgt := 139) (n := 63) d_M_coverAt_60 rfl rfl (fun c4 => ?_) (fun c4 => ?_)
      · have h := h.1 c4
        refine am_forget (ls' := [some (.ref q), some (.int p1), some (.int p2), some (.int p3), none, none, none, none, none]) (am_le_s (am_le_s (am_le_s (am_le_s (am_le_n (am_le_n (am_le_n (am_le_n (am_le_n am_le_e))))))))) ?_
        exact tb_M_coverAt_139 hw hq hd I h
      · have h := h.2 c4
        refine am_iload (n := 65) d_M_coverAt_63 rfl rfl ?_
        refine am_aload_n (n := 66) d_M_coverAt_65 rfl rfl ?_
        refine am_iload (n := 68) d_M_coverAt_66 rfl rfl ?_
        refine am_iload_n (n := 69) d_M_coverAt_68 rfl rfl ?_
        refine am_iload_n (n := 70) d_M_coverAt_69 rfl rfl ?_
        refine am_callV (kc := 0) (ks := 0) (As := [.int v7, .int p1, .int p2]) (n := 73) d_M_coverAt_70 rfl ce_M_hitFrom lk_M_433 in_M_hitFrom rfl rfl hq rfl rfl (Nat.le_of_ble_eq_true rfl) (Or.inl rfl) (cm_M_hitFrom (d := d - 1) hw (by omega) hq h) (by omega) ?_
        rintro _ _ ⟨r4, rfl, rfl, h⟩
        show am_Wp (d, "UnseenRingModel", b_M_coverAt, 9, false) 0 0 73 [some (.ref q), some (.int p1), some (.int p2), some (.int p3), none, some (.int v5), some (.int v6), some (.int v7), none] [.int r4, .int v5] (I, L, R, am_SH) (po_M_coverAt L R Q)
        refine am_ior (n := 74) d_M_coverAt_73 rfl ?_
        refine am_istore (ls' := [some (.ref q), some (.int p1), some (.int p2), some (.int p3), none, some (.int v5), some (.int v6), some (.int v7), some (.int (v5 ||| r4))]) (n := 76) d_M_coverAt_74 (by decide) rfl rfl ?_
        refine am_iconst (n := 77) d_M_coverAt_76 ci_1 rfl ?_
        refine am_aload_n (n := 78) d_M_coverAt_77 rfl rfl ?_
        refine am_getR (x := (q + 17)) (n := 81) f_M_71 d_M_coverAt_78 rfl rfl hq (hw.1 q 12 34 17 hq rfl) ?_
        refine am_sipush (n := 84) d_M_coverAt_81 cs_256 rfl ?_
        refine am_iload (n := 86) d_M_coverAt_84 rfl rfl ?_
        refine am_iconst (n := 87) d_M_coverAt_86 ci_1 rfl ?_
        refine am_iadd (n := 88) d_M_coverAt_87 rfl ?_
        refine am_imul (n := 89) d_M_coverAt_88 rfl ?_
        refine am_iload (n := 91) d_M_coverAt_89 rfl rfl ?_
        refine am_iadd (n := 92) d_M_coverAt_91 rfl ?_
        obtain ⟨g1, h⟩ := h
        refine am_iald2 (n := 93) d_M_coverAt_92 rfl (am_sho (k := 34) (o := 17) hq (by decide) (by decide) (by decide) rfl) g1 rfl ?_
        refine am_iadd (n := 94) d_M_coverAt_93 rfl ?_
        refine am_aload_n (n := 95) d_M_coverAt_94 rfl rfl ?_
        refine am_getR (x := (q + 17)) (n := 98) f_M_71 d_M_coverAt_95 rfl rfl hq (hw.1 q 12 34 17 hq rfl) ?_
        refine am_sipush (n := 101) d_M_coverAt_98 cs_256 rfl ?_
        refine am_iload (n := 103) d_M_coverAt_101 rfl rfl ?_
        refine am_imul (n := 104) d_M_coverAt_103 rfl ?_
        refine am_iload (n := 106) d_M_coverAt_104 rfl rfl ?_
        refine am_iadd (n := 107) d_M_coverAt_106 rfl ?_
        obtain ⟨g2, h⟩ := h
        refine am_iald2 (n := 108) d_M_coverAt_107 rfl (am_sho (k := 34) (o := 17) hq (by decide) (by decide) (by decide) rfl) g2 rfl ?_
        refine am_icmp_eq (tgt := 114) (n := 111) d_M_coverAt_108 rfl rfl (fun c5 => ?_) (fun c5 => ?_)
        · have h := h.1 c5
          refine am_iload (n := 116) d_M_coverAt_114 rfl rfl ?_
          refine am_if_ne (y := 0) (tgt := 126) (n := 119) d_M_coverAt_116 rfl rfl (fun c6 => ?_) (fun c6 => ?_)
          · have h := h.2 c6
            refine am_iinc (v := v6 + (-1)) (ls' := [some (.ref q), some (.int p1), some (.int p2), some (.int p3), none, some (.int v5), some (.int (v6 + (-1))), some (.int v7), some (.int (v5 ||| r4))]) (n := 129) d_M_coverAt_126 rfl (congrArg _ ci_m1) (by decide) rfl rfl ?_
            refine am_iload (n := 131) d_M_coverAt_129 rfl rfl ?_
            refine am_istore (ls' := [some (.ref q), some (.int p1), some (.int p2), some (.int p3), none, some (.int (v5 ||| r4)), some (.int (v6 + (-1))), some (.int v7), some (.int (v5 ||| r4))]) (n := 133) d_M_coverAt_131 (by decide) rfl rfl ?_
            refine am_iinc (v := v7 + 1) (ls' := [some (.ref q), some (.int p1), some (.int p2), some (.int p3), none, some (.int (v5 ||| r4)), some (.int (v6 + (-1))), some (.int (v7 + 1)), some (.int (v5 ||| r4))]) (n := 136) d_M_coverAt_133 rfl (congrArg _ ci_1) (by decide) rfl rfl ?_
            refine am_goto (tgt := 43) d_M_coverAt_136 rfl ?_
            refine am_forget (ls' := [some (.ref q), some (.int p1), some (.int p2), some (.int p3), none, some (.int (v5 ||| r4)), some (.int (v6 + (-1))), some (.int (v7 + 1)), none]) (am_le_s (am_le_s (am_le_s (am_le_s (am_le_n (am_le_s (am_le_s (am_le_s (am_le_n am_le_e))))))))) ?_
            exact ih I (v5 ||| r4) (v6 + (-1)) (v7 + 1)  h
          · have h := h.1 c6
            refine am_aload_n (n := 120) d_M_coverAt_119 rfl rfl ?_
            refine am_iload (n := 122) d_M_coverAt_120 rfl rfl ?_
            refine am_callV (kc := 0) (ks := 0) (As := [.int v7]) (n := 125) d_M_coverAt_122 rfl ce_M_gives lk_M_125 in_M_gives rfl rfl hq rfl rfl (Nat.le_of_ble_eq_true rfl) (Or.inl rfl) (cm_M_gives (d := d - 1) hw (by omega) hq h) (by omega) ?_
            rintro _ _ ⟨r5, I3, rfl, rfl, h⟩
            show am_Wp (d, "UnseenRingModel", b_M_coverAt, 9, false) 0 0 125 [some (.ref q), some (.int p1), some (.int p2), some (.int p3), none, some (.int v5), some (.int v6), some (.int v7), some (.int (v5 ||| r4))] [.int r5] (I3, L, R, am_SH) (po_M_coverAt L R Q)
            exact am_iret d_M_coverAt_125 ⟨r5, I3, rfl, rfl, h⟩
        · have h := h.2 c5
          refine am_goto (tgt := 133) d_M_coverAt_111 rfl ?_
          refine am_iinc (v := v7 + 1) (ls' := [some (.ref q), some (.int p1), some (.int p2), some (.int p3), none, some (.int v5), some (.int v6), some (.int (v7 + 1)), some (.int (v5 ||| r4))]) (n := 136) d_M_coverAt_133 rfl (congrArg _ ci_1) (by decide) rfl rfl ?_
          refine am_goto (tgt := 43) d_M_coverAt_136 rfl ?_
          refine am_forget (ls' := [some (.ref q), some (.int p1), some (.int p2), some (.int p3), none, some (.int v5), some (.int v6), some (.int (v7 + 1)), none]) (am_le_s (am_le_s (am_le_s (am_le_s (am_le_n (am_le_s (am_le_s (am_le_s (am_le_n am_le_e))))))))) ?_
          exact ih I v5 v6 (v7 + 1)  h
def wb_M_coverAt_14 (L : am_TL) (R : am_TR) (q : Nat) (p1 : Int32) (p2 : Int32) (p3 : Int32) (Q : Int32 → am_TI → Prop)  (I : am_TI) (s0 : Int32) : Prop := ((s0 ≤ 0 → wp_M_laysThrows I L R q p1 p2 (fun (I1 : am_TI) => (∃ z, wl_M_coverAt_43 L R q p1 p2 p3 Q z I1 0 p3 0))) ∧ (¬ s0 ≤ 0 → wp_M_refuse I L R q s0 (fun (r6 : Int32) (I4 : am_TI) => Q r6 I4)))
set_option maxRecDepth 20000 in
theorem tb_M_coverAt_14 {d : Nat}  {L : am_TL} {R : am_TR} {q : Nat} {p1 : Int32} {p2 : Int32} {p3 : Int32} {Q : Int32 → am_TI → Prop}  (hw : am_Wf R) (hq : am_SH[q]? = some (.inl 12)) (hd : 4 ≤ d) (I : am_TI) (s0 : Int32) (h : wb_M_coverAt_14 L R q p1 p2 p3 Q  I s0) : am_Wp (d, "UnseenRingModel", b_M_coverAt, 9, false) 0 0 14 [some (.ref q), some (.int p1), some (.int p2), some (.int p3), none, none, none, none, none] [.int s0] (I, L, R, am_SH) (po_M_coverAt L R Q) := by
  unfold wb_M_coverAt_14 at h
  refine am_istore (ls' := [some (.ref q), some (.int p1), some (.int p2), some (.int p3), some (.int s0), none, none, none, none]) (n := 16) d_M_coverAt_14 (by decide) rfl rfl ?_
  refine am_iload (n := 18) d_M_coverAt_16 rfl rfl ?_
  refine am_if_le (y := 0) (tgt := 28) (n := 21) d_M_coverAt_18 rfl rfl (fun c2 => ?_) (fun c2 => ?_)
  · have h := h.1 c2
    refine am_aload_n (n := 29) d_M_coverAt_28 rfl rfl ?_
    refine am_iload_n (n := 30) d_M_coverAt_29 rfl rfl ?_
    refine am_iload_n (n := 31) d_M_coverAt_30 rfl rfl ?_
    refine am_callV (kc := 0) (ks := 0) (As := [.int p1, .int p2]) (n := 34) d_M_coverAt_31 rfl ce_M_laysThrows lk_M_439 in_M_laysThrows rfl rfl hq rfl rfl (Nat.le_of_ble_eq_true rfl) (Or.inl rfl) (cm_M_laysThrows (d := d - 1) hw (by omega) hq h) (by omega) ?_
    rintro _ _ ⟨I1, rfl, rfl, h⟩
    show am_Wp (d, "UnseenRingModel", b_M_coverAt, 9, false) 0 0 34 [some (.ref q), some (.int p1), some (.int p2), some (.int p3), some (.int s0), none, none, none, none] [] (I1, L, R, am_SH) (po_M_coverAt L R Q)
    refine am_iconst (n := 35) d_M_coverAt_34 ci_0 rfl ?_
    refine am_istore (ls' := [some (.ref q), some (.int p1), some (.int p2), some (.int p3), some (.int s0), some (.int 0), none, none, none]) (n := 37) d_M_coverAt_35 (by decide) rfl rfl ?_
    refine am_iload_n (n := 38) d_M_coverAt_37 rfl rfl ?_
    refine am_istore (ls' := [some (.ref q), some (.int p1), some (.int p2), some (.int p3), some (.int s0), some (.int 0), some (.int p3), none, none]) (n := 40) d_M_coverAt_38 (by decide) rfl rfl ?_
    refine am_iconst (n := 41) d_M_coverAt_40 ci_0 rfl ?_
    refine am_istore (ls' := [some (.ref q), some (.int p1), some (.int p2), some (.int p3), some (.int s0), some (.int 0), some (.int p3), some (.int 0), none]) (n := 43) d_M_coverAt_41 (by decide) rfl rfl ?_
    refine am_forget (ls' := [some (.ref q), some (.int p1), some (.int p2), some (.int p3), none, some (.int 0), some (.int p3), some (.int 0), none]) (am_le_s (am_le_s (am_le_s (am_le_s (am_le_n (am_le_s (am_le_s (am_le_s (am_le_n am_le_e))))))))) ?_
    obtain ⟨n, h⟩ := h
    exact tl_M_coverAt_43 hw hq hd n I1 0 p3 0 h
  · have h := h.2 c2
    refine am_aload_n (n := 22) d_M_coverAt_21 rfl rfl ?_
    refine am_iload (n := 24) d_M_coverAt_22 rfl rfl ?_
    refine am_callV (kc := 0) (ks := 0) (As := [.int s0]) (n := 27) d_M_coverAt_24 rfl ce_M_refuse lk_M_121 in_M_refuse rfl rfl hq rfl rfl (Nat.le_of_ble_eq_true rfl) (Or.inl rfl) (cm_M_refuse (d := d - 1) hw (by omega) hq h) (by omega) ?_
    rintro _ _ ⟨r6, I4, rfl, rfl, h⟩
    show am_Wp (d, "UnseenRingModel", b_M_coverAt, 9, false) 0 0 27 [some (.ref q), some (.int p1), some (.int p2), some (.int p3), some (.int s0), none, none, none, none] [.int r6] (I4, L, R, am_SH) (po_M_coverAt L R Q)
    exact am_iret d_M_coverAt_27 ⟨r6, I4, rfl, rfl, h⟩
def wp_M_coverAt (I : am_TI) (L : am_TL) (R : am_TR) (q : Nat) (p1 : Int32) (p2 : Int32) (p3 : Int32)  (Q : Int32 → am_TI → Prop) : Prop := ((0 ≤ p3 → wp_M_wrongCells I L R q p1 p2 (fun (r1 : Int32) => wb_M_coverAt_14 L R q p1 p2 p3 Q I r1)) ∧ (¬ 0 ≤ p3 → wb_M_coverAt_14 L R q p1 p2 p3 Q I 1))
set_option maxRecDepth 20000 in
theorem cm_M_coverAt {d : Nat} {I : am_TI} {L : am_TL} {R : am_TR}  (hw : am_Wf R)   {q : Nat} {p1 : Int32} {p2 : Int32} {p3 : Int32} {Q : Int32 → am_TI → Prop} (hd : 4 ≤ d) (hq : am_SH[q]? = some (.inl 12)) (h : wp_M_coverAt I L R q p1 p2 p3  Q) : am_Cm d 0 0 y_M_coverAt b_M_coverAt 9 (some .int) [.ref q, .int p1, .int p2, .int p3] (I, L, R, am_SH) (po_M_coverAt L R Q) := by
  refine am_Cm_of (ini := false) (by decide +kernel) (fun z => by cases z) (by simp [Value.category]) (fun r σ' z => by obtain ⟨x, _, rfl, -⟩ := z; exact ⟨_, rfl, rfl⟩) ?_
  unfold wp_M_coverAt at h
  show am_Wp (d, "UnseenRingModel", b_M_coverAt, 9, false) 0 0 0 [some (.ref q), some (.int p1), some (.int p2), some (.int p3), none, none, none, none, none] [] (I, L, R, am_SH) (po_M_coverAt L R Q)
  refine am_iload_n (n := 1) d_M_coverAt_0 rfl rfl ?_
  refine am_if_ge (y := 0) (tgt := 8) (n := 4) d_M_coverAt_1 rfl rfl (fun c1 => ?_) (fun c1 => ?_)
  · have h := h.1 c1
    refine am_aload_n (n := 9) d_M_coverAt_8 rfl rfl ?_
    refine am_iload_n (n := 10) d_M_coverAt_9 rfl rfl ?_
    refine am_iload_n (n := 11) d_M_coverAt_10 rfl rfl ?_
    refine am_callV (kc := 0) (ks := 0) (As := [.int p1, .int p2]) (n := 14) d_M_coverAt_11 rfl ce_M_wrongCells lk_M_436 in_M_wrongCells rfl rfl hq rfl rfl (Nat.le_of_ble_eq_true rfl) (Or.inl rfl) (cm_M_wrongCells (d := d - 1) hw (by omega) hq h) (by omega) ?_
    rintro _ _ ⟨r1, rfl, rfl, h⟩
    show am_Wp (d, "UnseenRingModel", b_M_coverAt, 9, false) 0 0 14 [some (.ref q), some (.int p1), some (.int p2), some (.int p3), none, none, none, none, none] [.int r1] (I, L, R, am_SH) (po_M_coverAt L R Q)
    exact tb_M_coverAt_14 hw hq hd I r1 h
  · have h := h.2 c1
    refine am_iconst (n := 5) d_M_coverAt_4 ci_1 rfl ?_
    refine am_goto (tgt := 14) d_M_coverAt_5 rfl ?_
    exact tb_M_coverAt_14 hw hq hd I 1 h
abbrev po_M_isLiking (I : am_TI) (L : am_TL) (R : am_TR) (Q : Bool → Prop) : Option Value → am_St → Prop := fun r σ' => ∃ (x : Bool), r = some (.int (am_b x)) ∧ σ' = (I, L, R, am_SH) ∧ Q x
def wb_M_isLiking_52 (I : am_TI) (L : am_TL) (R : am_TR) (q : Nat) (p1 : Int32) (p2 : Int32) (p3 : Int32) (p4 : Int32) (Q : Bool → Prop) (K10 : Int32 → Int32 → Prop) (v5 : Int32) (v6 : Int32) (v7 : Int32) : Prop := (vp_in (v7 + 1) 240 ∧ (((Int32.toInt64 v5) = (L (q + 5) (Int32.toNatClampNeg (v7 + 1))) → K10 v5 (v6 + 1)) ∧ (¬ (Int32.toInt64 v5) = (L (q + 5) (Int32.toNatClampNeg (v7 + 1))) → Q false)))
set_option maxRecDepth 20000 in
theorem tb_M_isLiking_52 {d : Nat}  {I : am_TI} {L : am_TL} {R : am_TR} {q : Nat} {p1 : Int32} {p2 : Int32} {p3 : Int32} {p4 : Int32} {Q : Bool → Prop} {K10 : Int32 → Int32 → Prop} (hw : am_Wf R) (hq : am_SH[q]? = some (.inl 12)) (hK10 : ∀ (v5 : Int32) (v6 : Int32), K10 v5 v6 → am_Wp (d, "UnseenRingModel", b_M_isLiking, 8, false) 0 0 10 [some (.ref q), some (.int p1), some (.int p2), some (.int p3), some (.int p4), some (.int v5), some (.int v6), none] [] (I, L, R, am_SH) (po_M_isLiking I L R Q)) (hd : 3 ≤ d) (v5 : Int32) (v6 : Int32) (v7 : Int32) (h : wb_M_isLiking_52 I L R q p1 p2 p3 p4 Q K10 v5 v6 v7) : am_Wp (d, "UnseenRingModel", b_M_isLiking, 8, false) 0 0 52 [some (.ref q), some (.int p1), some (.int p2), some (.int p3), some (.int p4), some (.int v5), some (.int v6), some (.int v7)] [] (I, L, R, am_SH) (po_M_isLiking I L R Q) := by
  unfold wb_M_isLiking_52 at h
  refine am_iload (n := 54) d_M_isLiking_52 rfl rfl ?_
  refine am_i2l (n := 55) d_M_isLiking_54 rfl ?_
  refine am_aload_n (n := 56) d_M_isLiking_55 rfl rfl ?_
  refine am_getR (x := (q + 5)) (n := 59) f_M_27 d_M_isLiking_56 rfl rfl hq (hw.1 q 12 7 5 hq rfl) ?_
  refine am_iload (n := 61) d_M_isLiking_59 rfl rfl ?_
  refine am_iconst (n := 62) d_M_isLiking_61 ci_1 rfl ?_
  refine am_iadd (n := 63) d_M_isLiking_62 rfl ?_
  obtain ⟨g1, h⟩ := h
  refine am_lald2 (n := 64) d_M_isLiking_63 rfl (am_sho (k := 7) (o := 5) hq (by decide) (by decide) (by decide) rfl) g1 rfl ?_
  refine am_lcmp (n := 65) d_M_isLiking_64 rfl ?_
  refine am_if_eq (y := 0) (tgt := 70) (n := 68) d_M_isLiking_65 rfl rfl (fun c3 => ?_) (fun c3 => ?_)
  · have h := h.1 (am_cmp_eq.mp c3)
    refine am_iinc (v := v6 + 1) (ls' := [some (.ref q), some (.int p1), some (.int p2), some (.int p3), some (.int p4), some (.int v5), some (.int (v6 + 1)), some (.int v7)]) (n := 73) d_M_isLiking_70 rfl (congrArg _ ci_1) (by decide) rfl rfl ?_
    refine am_goto (tgt := 10) d_M_isLiking_73 rfl ?_
    refine am_forget (ls' := [some (.ref q), some (.int p1), some (.int p2), some (.int p3), some (.int p4), some (.int v5), some (.int (v6 + 1)), none]) (am_le_s (am_le_s (am_le_s (am_le_s (am_le_s (am_le_s (am_le_s (am_le_n am_le_e)))))))) ?_
    exact hK10 v5 (v6 + 1)  h
  · have h := h.2 (fun z => c3 (am_cmp_eq.mpr z))
    refine am_iconst (n := 69) d_M_isLiking_68 ci_0 rfl ?_
    exact am_iret d_M_isLiking_69 ⟨false, rfl, rfl, h⟩
def wl_M_isLiking_10 (I : am_TI) (L : am_TL) (R : am_TR) (q : Nat) (p1 : Int32) (p2 : Int32) (p3 : Int32) (p4 : Int32) (Q : Bool → Prop)  : Nat → Int32 → Int32 → Prop
  | 0 => fun _ _ => False
  | f10 + 1 => fun v5 v6 => ((p4 ≤ v6 → Q true) ∧ (¬ p4 ≤ v6 → ((v5 ≤ 0 → wb_M_isLiking_52 I L R q p1 p2 p3 p4 Q (wl_M_isLiking_10 I L R q p1 p2 p3 p4 Q f10) v5 v6 ((60 * p3) + (2 * v6))) ∧ (¬ v5 ≤ 0 → (vp_in ((60 * p3) + (2 * v6)) 240 ∧ wp_M_isIn I L R q p2 (Int64.toInt32 (L (q + 5) (Int32.toNatClampNeg ((60 * p3) + (2 * v6))))) (fun (r2 : Bool) => ((r2 = false → wb_M_isLiking_52 I L R q p1 p2 p3 p4 Q (wl_M_isLiking_10 I L R q p1 p2 p3 p4 Q f10) v5 v6 ((60 * p3) + (2 * v6))) ∧ (r2 = true → wb_M_isLiking_52 I L R q p1 p2 p3 p4 Q (wl_M_isLiking_10 I L R q p1 p2 p3 p4 Q f10) (v5 + (-1)) v6 ((60 * p3) + (2 * v6))))))))))
set_option maxRecDepth 20000 in
theorem tl_M_isLiking_10 {d : Nat}  {I : am_TI} {L : am_TL} {R : am_TR} {q : Nat} {p1 : Int32} {p2 : Int32} {p3 : Int32} {p4 : Int32} {Q : Bool → Prop}  (hw : am_Wf R) (hq : am_SH[q]? = some (.inl 12)) (hd : 3 ≤ d) : ∀ (n : Nat) (v5 : Int32) (v6 : Int32), wl_M_isLiking_10 I L R q p1 p2 p3 p4 Q  n v5 v6 → am_Wp (d, "UnseenRingModel", b_M_isLiking, 8, false) 0 0 10 [some (.ref q), some (.int p1), some (.int p2), some (.int p3), some (.int p4), some (.int v5), some (.int v6), none] [] (I, L, R, am_SH) (po_M_isLiking I L R Q) := by
  intro n
  induction n with
  | zero => intro v5 v6 h; exact h.elim
  | succ n ih =>
    intro v5 v6 h
    unfold wl_M_isLiking_10 at h
    refine am_iload (n := 12) d_M_isLiking_10 rfl rfl ?_
    refine am_iload (n := 14) d_M_isLiking_12 rfl rfl ?_
    refine am_icmp_ge (tgt := 76) (n := 17) d_M_isLiking_14 rfl rfl (fun c1 => ?_) (fun c1 => ?_)
    · have h := h.1 c1
      refine am_iconst (n := 77) d_M_isLiking_76 ci_1 rfl ?_
      exact am_iret d_M_isLiking_77 ⟨true, rfl, rfl, h⟩
    · have h := h.2 c1
      refine am_bipush (n := 19) d_M_isLiking_17 cb_60 rfl ?_
      refine am_iload_n (n := 20) d_M_isLiking_19 rfl rfl ?_
      refine am_imul (n := 21) d_M_isLiking_20 rfl ?_
      refine am_iconst (n := 22) d_M_isLiking_21 ci_2 rfl ?_
      refine am_iload (n := 24) d_M_isLiking_22 rfl rfl ?_
      refine am_imul (n := 25) d_M_isLiking_24 rfl ?_
      refine am_iadd (n := 26) d_M_isLiking_25 rfl ?_
      refine am_istore (ls' := [some (.ref q), some (.int p1), some (.int p2), some (.int p3), some (.int p4), some (.int v5), some (.int v6), some (.int ((60 * p3) + (2 * v6)))]) (n := 28) d_M_isLiking_26 (by decide) rfl rfl ?_
      refine am_iload (n := 30) d_M_isLiking_28 rfl rfl ?_
      refine am_if_le (y := 0) (tgt := 52) (n := 33) d_M_isLiking_30 rfl rfl (fun c2 => ?_) (fun c2 => ?_)
      · have h := h.1 c2
        exact tb_M_isLiking_52 hw hq ih hd v5 v6 ((60 * p3) + (2 * v6)) h
      · have h := h.2 c2
        refine am_aload_n (n := 34) d_M_isLiking_33 rfl rfl ?_
        refine am_iload_n (n := 35) d_M_isLiking_34 rfl rfl ?_
        refine am_aload_n (n := 36) d_M_isLiking_35 rfl rfl ?_
        refine am_getR (x := (q + 5)) (n := 39) f_M_27 d_M_isLiking_36 rfl rfl hq (hw.1 q 12 7 5 hq rfl) ?_
        refine am_iload (n := 41) d_M_isLiking_39 rfl rfl ?_
        obtain ⟨g2, h⟩ := h
        refine am_lald2 (n := 42) d_M_isLiking_41 rfl (am_sho (k := 7) (o := 5) hq (by decide) (by decide) (by decide) rfl) g2 rfl ?_
        refine am_l2i (n := 43) d_M_isLiking_42 rfl ?_
        refine am_callV (kc := 0) (ks := 0) (As := [.int p2, .int (Int64.toInt32 (L (q + 5) (Int32.toNatClampNeg ((60 * p3) + (2 * v6)))))]) (n := 46) d_M_isLiking_43 rfl ce_M_isIn lk_M_251 in_M_isIn rfl rfl hq rfl rfl (Nat.le_of_ble_eq_true rfl) (Or.inl rfl) (cm_M_isIn (d := d - 1) hw (by omega) hq h) (by omega) ?_
        rintro _ _ ⟨r2, rfl, rfl, h⟩
        show am_Wp (d, "UnseenRingModel", b_M_isLiking, 8, false) 0 0 46 [some (.ref q), some (.int p1), some (.int p2), some (.int p3), some (.int p4), some (.int v5), some (.int v6), some (.int ((60 * p3) + (2 * v6)))] [.int (am_b r2)] (I, L, R, am_SH) (po_M_isLiking I L R Q)
        refine am_if_eq (y := 0) (tgt := 52) (n := 49) d_M_isLiking_46 rfl rfl (fun c4 => ?_) (fun c4 => ?_)
        · have h := h.1 (am_b_0 c4)
          exact tb_M_isLiking_52 hw hq ih hd v5 v6 ((60 * p3) + (2 * v6)) h
        · have h := h.2 (am_b_n0 c4)
          refine am_iinc (v := v5 + (-1)) (ls' := [some (.ref q), some (.int p1), some (.int p2), some (.int p3), some (.int p4), some (.int (v5 + (-1))), some (.int v6), some (.int ((60 * p3) + (2 * v6)))]) (n := 52) d_M_isLiking_49 rfl (congrArg _ ci_m1) (by decide) rfl rfl ?_
          exact tb_M_isLiking_52 hw hq ih hd (v5 + (-1)) v6 ((60 * p3) + (2 * v6)) h
def wp_M_isLiking (I : am_TI) (L : am_TL) (R : am_TR) (q : Nat) (p1 : Int32) (p2 : Int32) (p3 : Int32) (p4 : Int32)  (Q : Bool → Prop) : Prop := wp_M_farOf I L R q p1 (fun (r1 : Int32) => (∃ z, wl_M_isLiking_10 I L R q p1 p2 p3 p4 Q z r1 0))
set_option maxRecDepth 20000 in
theorem cm_M_isLiking {d : Nat} {I : am_TI} {L : am_TL} {R : am_TR}  (hw : am_Wf R)   {q : Nat} {p1 : Int32} {p2 : Int32} {p3 : Int32} {p4 : Int32} {Q : Bool → Prop} (hd : 3 ≤ d) (hq : am_SH[q]? = some (.inl 12)) (h : wp_M_isLiking I L R q p1 p2 p3 p4  Q) : am_Cm d 0 0 y_M_isLiking b_M_isLiking 8 (some .boolean) [.ref q, .int p1, .int p2, .int p3, .int p4] (I, L, R, am_SH) (po_M_isLiking I L R Q) := by
  refine am_Cm_of (ini := false) (by decide +kernel) (fun z => by cases z) (by simp [Value.category]) (fun r σ' z => by obtain ⟨x, rfl, -⟩ := z; exact ⟨_, rfl, am_b_nar x⟩) ?_
  unfold wp_M_isLiking at h
  show am_Wp (d, "UnseenRingModel", b_M_isLiking, 8, false) 0 0 0 [some (.ref q), some (.int p1), some (.int p2), some (.int p3), some (.int p4), none, none, none] [] (I, L, R, am_SH) (po_M_isLiking I L R Q)
  refine am_aload_n (n := 1) d_M_isLiking_0 rfl rfl ?_
  refine am_iload_n (n := 2) d_M_isLiking_1 rfl rfl ?_
  refine am_callV (kc := 0) (ks := 0) (As := [.int p1]) (n := 5) d_M_isLiking_2 rfl ce_M_farOf lk_M_331 in_M_farOf rfl rfl hq rfl rfl (Nat.le_of_ble_eq_true rfl) (Or.inl rfl) (cm_M_farOf (d := d - 1) hw (by omega) hq h) (by omega) ?_
  rintro _ _ ⟨r1, rfl, rfl, h⟩
  show am_Wp (d, "UnseenRingModel", b_M_isLiking, 8, false) 0 0 5 [some (.ref q), some (.int p1), some (.int p2), some (.int p3), some (.int p4), none, none, none] [.int r1] (I, L, R, am_SH) (po_M_isLiking I L R Q)
  refine am_istore (ls' := [some (.ref q), some (.int p1), some (.int p2), some (.int p3), some (.int p4), some (.int r1), none, none]) (n := 7) d_M_isLiking_5 (by decide) rfl rfl ?_
  refine am_iconst (n := 8) d_M_isLiking_7 ci_0 rfl ?_
  refine am_istore (ls' := [some (.ref q), some (.int p1), some (.int p2), some (.int p3), some (.int p4), some (.int r1), some (.int 0), none]) (n := 10) d_M_isLiking_8 (by decide) rfl rfl ?_
  obtain ⟨n, h⟩ := h
  exact tl_M_isLiking_10 hw hq hd n r1 0 h
abbrev po_M_wrongSeen (I : am_TI) (L : am_TL) (R : am_TR) (Q : Int32 → Prop) : Option Value → am_St → Prop := fun r σ' => ∃ (x : Int32), r = some (.int x) ∧ σ' = (I, L, R, am_SH) ∧ Q x
def wl_M_wrongSeen_58 (I : am_TI) (L : am_TL) (R : am_TR) (q : Nat) (p1 : Int32) (p2 : Int32) (p3 : Int32) (Q : Int32 → Prop)  : Nat → Int32 → Prop
  | 0 => fun _ => False
  | f58 + 1 => fun v4 => ((p3 ≤ v4 → Q 0) ∧ (¬ p3 ≤ v4 → (vp_in ((60 * p2) + (2 * v4)) 240 ∧ wp_M_isFrom I L R (L (q + 5) (Int32.toNatClampNeg ((60 * p2) + (2 * v4)))) 0 ((Int32.toInt64 (I (q + 1) 2)) - 1) (fun (r4 : Bool) => ((r4 = false → Q 5) ∧ (r4 = true → (vp_in (((60 * p2) + (2 * v4)) + 1) 240 ∧ wp_M_isFrom I L R (L (q + 5) (Int32.toNatClampNeg (((60 * p2) + (2 * v4)) + 1))) 0 8 (fun (r5 : Bool) => ((r5 = false → Q 5) ∧ (r5 = true → wl_M_wrongSeen_58 I L R q p1 p2 p3 Q f58 (v4 + 1)))))))))))
set_option maxRecDepth 20000 in
theorem tl_M_wrongSeen_58 {d : Nat}  {I : am_TI} {L : am_TL} {R : am_TR} {q : Nat} {p1 : Int32} {p2 : Int32} {p3 : Int32} {Q : Int32 → Prop}  (hw : am_Wf R) (hq : am_SH[q]? = some (.inl 12)) (hd : 1 ≤ d) : ∀ (n : Nat) (v4 : Int32), wl_M_wrongSeen_58 I L R q p1 p2 p3 Q  n v4 → am_Wp (d, "UnseenRingModel", b_M_wrongSeen, 6, false) 0 0 58 [some (.ref q), some (.int p1), some (.int p2), some (.int p3), some (.int v4), none] [] (I, L, R, am_SH) (po_M_wrongSeen I L R Q) := by
  intro n
  induction n with
  | zero => intro v4 h; exact h.elim
  | succ n ih =>
    intro v4 h
    unfold wl_M_wrongSeen_58 at h
    refine am_iload (n := 60) d_M_wrongSeen_58 rfl rfl ?_
    refine am_iload_n (n := 61) d_M_wrongSeen_60 rfl rfl ?_
    refine am_icmp_ge (tgt := 125) (n := 64) d_M_wrongSeen_61 rfl rfl (fun c6 => ?_) (fun c6 => ?_)
    · have h := h.1 c6
      refine am_iconst (n := 126) d_M_wrongSeen_125 ci_0 rfl ?_
      exact am_iret d_M_wrongSeen_126 ⟨0, rfl, rfl, h⟩
    · have h := h.2 c6
      refine am_bipush (n := 66) d_M_wrongSeen_64 cb_60 rfl ?_
      refine am_iload_n (n := 67) d_M_wrongSeen_66 rfl rfl ?_
      refine am_imul (n := 68) d_M_wrongSeen_67 rfl ?_
      refine am_iconst (n := 69) d_M_wrongSeen_68 ci_2 rfl ?_
      refine am_iload (n := 71) d_M_wrongSeen_69 rfl rfl ?_
      refine am_imul (n := 72) d_M_wrongSeen_71 rfl ?_
      refine am_iadd (n := 73) d_M_wrongSeen_72 rfl ?_
      refine am_istore (ls' := [some (.ref q), some (.int p1), some (.int p2), some (.int p3), some (.int v4), some (.int ((60 * p2) + (2 * v4)))]) (n := 75) d_M_wrongSeen_73 (by decide) rfl rfl ?_
      refine am_aload_n (n := 76) d_M_wrongSeen_75 rfl rfl ?_
      refine am_getR (x := (q + 5)) (n := 79) f_M_27 d_M_wrongSeen_76 rfl rfl hq (hw.1 q 12 7 5 hq rfl) ?_
      refine am_iload (n := 81) d_M_wrongSeen_79 rfl rfl ?_
      obtain ⟨g3, h⟩ := h
      refine am_lald2 (n := 82) d_M_wrongSeen_81 rfl (am_sho (k := 7) (o := 5) hq (by decide) (by decide) (by decide) rfl) g3 rfl ?_
      refine am_lconst (v := 0) (n := 83) d_M_wrongSeen_82 rfl rfl ?_
      refine am_aload_n (n := 84) d_M_wrongSeen_83 rfl rfl ?_
      refine am_getR (x := (q + 1)) (n := 87) f_M_7 d_M_wrongSeen_84 rfl rfl hq (hw.1 q 12 0 1 hq rfl) ?_
      refine am_iconst (n := 88) d_M_wrongSeen_87 ci_2 rfl ?_
      refine am_iald2 (n := 89) d_M_wrongSeen_88 rfl (am_sho (k := 0) (o := 1) hq (by decide) (by decide) (by decide) rfl) cx_2_2258 cn_2 ?_
      refine am_i2l (n := 90) d_M_wrongSeen_89 rfl ?_
      refine am_lconst (v := 1) (n := 91) d_M_wrongSeen_90 rfl rfl ?_
      refine am_lsub (n := 92) d_M_wrongSeen_91 rfl ?_
      refine am_callS (kc := 0) (ks := 0) (As := [.long (L (q + 5) (Int32.toNatClampNeg ((60 * p2) + (2 * v4)))), .long 0, .long ((Int32.toInt64 (I (q + 1) 2)) - 1)]) (n := 95) d_M_wrongSeen_92 rfl ce_M_isFrom lk_M_306 st_M_isFrom rfl rfl (Nat.le_of_ble_eq_true rfl) (Or.inl rfl) (cm_M_isFrom (d := d - 1) hw (by omega)  h) (by omega) ?_
      rintro _ _ ⟨r4, rfl, rfl, h⟩
      show am_Wp (d, "UnseenRingModel", b_M_wrongSeen, 6, false) 0 0 95 [some (.ref q), some (.int p1), some (.int p2), some (.int p3), some (.int v4), some (.int ((60 * p2) + (2 * v4)))] [.int (am_b r4)] (I, L, R, am_SH) (po_M_wrongSeen I L R Q)
      refine am_if_eq (y := 0) (tgt := 117) (n := 98) d_M_wrongSeen_95 rfl rfl (fun c7 => ?_) (fun c7 => ?_)
      · have h := h.1 (am_b_0 c7)
        refine am_iconst (n := 118) d_M_wrongSeen_117 ci_5 rfl ?_
        exact am_iret d_M_wrongSeen_118 ⟨5, rfl, rfl, h⟩
      · have h := h.2 (am_b_n0 c7)
        refine am_aload_n (n := 99) d_M_wrongSeen_98 rfl rfl ?_
        refine am_getR (x := (q + 5)) (n := 102) f_M_27 d_M_wrongSeen_99 rfl rfl hq (hw.1 q 12 7 5 hq rfl) ?_
        refine am_iload (n := 104) d_M_wrongSeen_102 rfl rfl ?_
        refine am_iconst (n := 105) d_M_wrongSeen_104 ci_1 rfl ?_
        refine am_iadd (n := 106) d_M_wrongSeen_105 rfl ?_
        obtain ⟨g4, h⟩ := h
        refine am_lald2 (n := 107) d_M_wrongSeen_106 rfl (am_sho (k := 7) (o := 5) hq (by decide) (by decide) (by decide) rfl) g4 rfl ?_
        refine am_lconst (v := 0) (n := 108) d_M_wrongSeen_107 rfl rfl ?_
        refine am_ldc2 (n := 111) d_M_wrongSeen_108 k_M_431 rfl ?_
        refine am_callS (kc := 0) (ks := 0) (As := [.long (L (q + 5) (Int32.toNatClampNeg (((60 * p2) + (2 * v4)) + 1))), .long 0, .long 8]) (n := 114) d_M_wrongSeen_111 rfl ce_M_isFrom lk_M_306 st_M_isFrom rfl rfl (Nat.le_of_ble_eq_true rfl) (Or.inl rfl) (cm_M_isFrom (d := d - 1) hw (by omega)  h) (by omega) ?_
        rintro _ _ ⟨r5, rfl, rfl, h⟩
        show am_Wp (d, "UnseenRingModel", b_M_wrongSeen, 6, false) 0 0 114 [some (.ref q), some (.int p1), some (.int p2), some (.int p3), some (.int v4), some (.int ((60 * p2) + (2 * v4)))] [.int (am_b r5)] (I, L, R, am_SH) (po_M_wrongSeen I L R Q)
        refine am_if_ne (y := 0) (tgt := 119) (n := 117) d_M_wrongSeen_114 rfl rfl (fun c8 => ?_) (fun c8 => ?_)
        · have h := h.2 (am_b_n0 c8)
          refine am_iinc (v := v4 + 1) (ls' := [some (.ref q), some (.int p1), some (.int p2), some (.int p3), some (.int (v4 + 1)), some (.int ((60 * p2) + (2 * v4)))]) (n := 122) d_M_wrongSeen_119 rfl (congrArg _ ci_1) (by decide) rfl rfl ?_
          refine am_goto (tgt := 58) d_M_wrongSeen_122 rfl ?_
          refine am_forget (ls' := [some (.ref q), some (.int p1), some (.int p2), some (.int p3), some (.int (v4 + 1)), none]) (am_le_s (am_le_s (am_le_s (am_le_s (am_le_s (am_le_n am_le_e)))))) ?_
          exact ih (v4 + 1)  h
        · have h := h.1 (am_b_0 c8)
          refine am_iconst (n := 118) d_M_wrongSeen_117 ci_5 rfl ?_
          exact am_iret d_M_wrongSeen_118 ⟨5, rfl, rfl, h⟩
def wp_M_wrongSeen (I : am_TI) (L : am_TL) (R : am_TR) (q : Nat) (p1 : Int32) (p2 : Int32) (p3 : Int32)  (Q : Int32 → Prop) : Prop := wp_M_isHearer I L R q p1 (fun (r1 : Bool) => ((r1 = false → Q 1) ∧ (r1 = true → wp_M_isTray I L R p2 (fun (r2 : Bool) => ((r2 = false → Q 1) ∧ (r2 = true → wp_M_isFrom I L R (Int32.toInt64 p3) 0 20 (fun (r3 : Bool) => ((r3 = false → Q 1) ∧ (r3 = true → (vp_in p2 4 ∧ (((I (q + 4) (Int32.toNatClampNeg p2)) = (-1) → Q 2) ∧ (¬ (I (q + 4) (Int32.toNatClampNeg p2)) = (-1) → (vp_in p2 4 ∧ (((2 * p3) ≤ (I (q + 4) (Int32.toNatClampNeg p2)) → (∃ z, wl_M_wrongSeen_58 I L R q p1 p2 p3 Q z 0)) ∧ (¬ (2 * p3) ≤ (I (q + 4) (Int32.toNatClampNeg p2)) → Q 3)))))))))))))))
set_option maxRecDepth 20000 in
theorem cm_M_wrongSeen {d : Nat} {I : am_TI} {L : am_TL} {R : am_TR}  (hw : am_Wf R)   {q : Nat} {p1 : Int32} {p2 : Int32} {p3 : Int32} {Q : Int32 → Prop} (hd : 1 ≤ d) (hq : am_SH[q]? = some (.inl 12)) (h : wp_M_wrongSeen I L R q p1 p2 p3  Q) : am_Cm d 0 0 y_M_wrongSeen b_M_wrongSeen 6 (some .int) [.ref q, .int p1, .int p2, .int p3] (I, L, R, am_SH) (po_M_wrongSeen I L R Q) := by
  refine am_Cm_of (ini := false) (by decide +kernel) (fun z => by cases z) (by simp [Value.category]) (fun r σ' z => by obtain ⟨x, rfl, -⟩ := z; exact ⟨_, rfl, rfl⟩) ?_
  unfold wp_M_wrongSeen at h
  show am_Wp (d, "UnseenRingModel", b_M_wrongSeen, 6, false) 0 0 0 [some (.ref q), some (.int p1), some (.int p2), some (.int p3), none, none] [] (I, L, R, am_SH) (po_M_wrongSeen I L R Q)
  refine am_aload_n (n := 1) d_M_wrongSeen_0 rfl rfl ?_
  refine am_iload_n (n := 2) d_M_wrongSeen_1 rfl rfl ?_
  refine am_callV (kc := 0) (ks := 0) (As := [.int p1]) (n := 5) d_M_wrongSeen_2 rfl ce_M_isHearer lk_M_328 in_M_isHearer rfl rfl hq rfl rfl (Nat.le_of_ble_eq_true rfl) (Or.inl rfl) (cm_M_isHearer (d := d - 1) hw (by omega) hq h) (by omega) ?_
  rintro _ _ ⟨r1, rfl, rfl, h⟩
  show am_Wp (d, "UnseenRingModel", b_M_wrongSeen, 6, false) 0 0 5 [some (.ref q), some (.int p1), some (.int p2), some (.int p3), none, none] [.int (am_b r1)] (I, L, R, am_SH) (po_M_wrongSeen I L R Q)
  refine am_if_eq (y := 0) (tgt := 27) (n := 8) d_M_wrongSeen_5 rfl rfl (fun c1 => ?_) (fun c1 => ?_)
  · have h := h.1 (am_b_0 c1)
    refine am_iconst (n := 28) d_M_wrongSeen_27 ci_1 rfl ?_
    exact am_iret d_M_wrongSeen_28 ⟨1, rfl, rfl, h⟩
  · have h := h.2 (am_b_n0 c1)
    refine am_iload_n (n := 9) d_M_wrongSeen_8 rfl rfl ?_
    refine am_callS (kc := 0) (ks := 0) (As := [.int p2]) (n := 12) d_M_wrongSeen_9 rfl ce_M_isTray lk_M_132 st_M_isTray rfl rfl (Nat.le_of_ble_eq_true rfl) (Or.inl rfl) (cm_M_isTray (d := d - 1) hw (by omega)  h) (by omega) ?_
    rintro _ _ ⟨r2, rfl, rfl, h⟩
    show am_Wp (d, "UnseenRingModel", b_M_wrongSeen, 6, false) 0 0 12 [some (.ref q), some (.int p1), some (.int p2), some (.int p3), none, none] [.int (am_b r2)] (I, L, R, am_SH) (po_M_wrongSeen I L R Q)
    refine am_if_eq (y := 0) (tgt := 27) (n := 15) d_M_wrongSeen_12 rfl rfl (fun c2 => ?_) (fun c2 => ?_)
    · have h := h.1 (am_b_0 c2)
      refine am_iconst (n := 28) d_M_wrongSeen_27 ci_1 rfl ?_
      exact am_iret d_M_wrongSeen_28 ⟨1, rfl, rfl, h⟩
    · have h := h.2 (am_b_n0 c2)
      refine am_iload_n (n := 16) d_M_wrongSeen_15 rfl rfl ?_
      refine am_i2l (n := 17) d_M_wrongSeen_16 rfl ?_
      refine am_lconst (v := 0) (n := 18) d_M_wrongSeen_17 rfl rfl ?_
      refine am_ldc2 (n := 21) d_M_wrongSeen_18 k_M_380 rfl ?_
      refine am_callS (kc := 0) (ks := 0) (As := [.long (Int32.toInt64 p3), .long 0, .long 20]) (n := 24) d_M_wrongSeen_21 rfl ce_M_isFrom lk_M_306 st_M_isFrom rfl rfl (Nat.le_of_ble_eq_true rfl) (Or.inl rfl) (cm_M_isFrom (d := d - 1) hw (by omega)  h) (by omega) ?_
      rintro _ _ ⟨r3, rfl, rfl, h⟩
      show am_Wp (d, "UnseenRingModel", b_M_wrongSeen, 6, false) 0 0 24 [some (.ref q), some (.int p1), some (.int p2), some (.int p3), none, none] [.int (am_b r3)] (I, L, R, am_SH) (po_M_wrongSeen I L R Q)
      refine am_if_ne (y := 0) (tgt := 29) (n := 27) d_M_wrongSeen_24 rfl rfl (fun c3 => ?_) (fun c3 => ?_)
      · have h := h.2 (am_b_n0 c3)
        refine am_aload_n (n := 30) d_M_wrongSeen_29 rfl rfl ?_
        refine am_getR (x := (q + 4)) (n := 33) f_M_24 d_M_wrongSeen_30 rfl rfl hq (hw.1 q 12 6 4 hq rfl) ?_
        refine am_iload_n (n := 34) d_M_wrongSeen_33 rfl rfl ?_
        obtain ⟨g1, h⟩ := h
        refine am_iald2 (n := 35) d_M_wrongSeen_34 rfl (am_sho (k := 6) (o := 4) hq (by decide) (by decide) (by decide) rfl) g1 rfl ?_
        refine am_iconst (n := 36) d_M_wrongSeen_35 ci_m1 rfl ?_
        refine am_icmp_ne (tgt := 41) (n := 39) d_M_wrongSeen_36 rfl rfl (fun c4 => ?_) (fun c4 => ?_)
        · have h := h.2 c4
          refine am_aload_n (n := 42) d_M_wrongSeen_41 rfl rfl ?_
          refine am_getR (x := (q + 4)) (n := 45) f_M_24 d_M_wrongSeen_42 rfl rfl hq (hw.1 q 12 6 4 hq rfl) ?_
          refine am_iload_n (n := 46) d_M_wrongSeen_45 rfl rfl ?_
          obtain ⟨g2, h⟩ := h
          refine am_iald2 (n := 47) d_M_wrongSeen_46 rfl (am_sho (k := 6) (o := 4) hq (by decide) (by decide) (by decide) rfl) g2 rfl ?_
          refine am_iconst (n := 48) d_M_wrongSeen_47 ci_2 rfl ?_
          refine am_iload_n (n := 49) d_M_wrongSeen_48 rfl rfl ?_
          refine am_imul (n := 50) d_M_wrongSeen_49 rfl ?_
          refine am_icmp_ge (tgt := 55) (n := 53) d_M_wrongSeen_50 rfl rfl (fun c5 => ?_) (fun c5 => ?_)
          · have h := h.1 c5
            refine am_iconst (n := 56) d_M_wrongSeen_55 ci_0 rfl ?_
            refine am_istore (ls' := [some (.ref q), some (.int p1), some (.int p2), some (.int p3), some (.int 0), none]) (n := 58) d_M_wrongSeen_56 (by decide) rfl rfl ?_
            obtain ⟨n, h⟩ := h
            exact tl_M_wrongSeen_58 hw hq hd n 0 h
          · have h := h.2 c5
            refine am_iconst (n := 54) d_M_wrongSeen_53 ci_3 rfl ?_
            exact am_iret d_M_wrongSeen_54 ⟨3, rfl, rfl, h⟩
        · have h := h.1 c4
          refine am_iconst (n := 40) d_M_wrongSeen_39 ci_2 rfl ?_
          exact am_iret d_M_wrongSeen_40 ⟨2, rfl, rfl, h⟩
      · have h := h.1 (am_b_0 c3)
        refine am_iconst (n := 28) d_M_wrongSeen_27 ci_1 rfl ?_
        exact am_iret d_M_wrongSeen_28 ⟨1, rfl, rfl, h⟩
abbrev po_M_fits (L : am_TL) (R : am_TR) (Q : Int32 → am_TI → Prop) : Option Value → am_St → Prop := fun r σ' => ∃ (x : Int32) (I' : am_TI), r = some (.int x) ∧ σ' = (I', L, R, am_SH) ∧ Q x I'
def wl_M_fits_27 (L : am_TL) (R : am_TR) (q : Nat) (p1 : Int32) (p2 : Int32) (p3 : Int32) (Q : Int32 → am_TI → Prop)  : Nat → am_TI → Int32 → Int32 → Prop
  | 0 => fun _ _ _ => False
  | f27 + 1 => fun I v5 v6 => ((((1 : Int32) <<< ((I (q + 1) 2) &&& 31)) ≤ v6 → wp_M_gives I L R q v5 (fun (r2 : Int32) (I1 : am_TI) => Q r2 I1)) ∧ (¬ ((1 : Int32) <<< ((I (q + 1) 2) &&& 31)) ≤ v6 → wp_M_isLiking I L R q p1 v6 p2 p3 (fun (r3 : Bool) => ((r3 = false → wl_M_fits_27 L R q p1 p2 p3 Q f27 I (v5 + 0) (v6 + 1)) ∧ (r3 = true → wl_M_fits_27 L R q p1 p2 p3 Q f27 I (v5 + 1) (v6 + 1))))))
set_option maxRecDepth 20000 in
theorem tl_M_fits_27 {d : Nat}  {L : am_TL} {R : am_TR} {q : Nat} {p1 : Int32} {p2 : Int32} {p3 : Int32} {Q : Int32 → am_TI → Prop}  (hw : am_Wf R) (hq : am_SH[q]? = some (.inl 12)) (hd : 4 ≤ d) : ∀ (n : Nat) (I : am_TI) (v5 : Int32) (v6 : Int32), wl_M_fits_27 L R q p1 p2 p3 Q  n I v5 v6 → am_Wp (d, "UnseenRingModel", b_M_fits, 7, false) 0 0 27 [some (.ref q), some (.int p1), some (.int p2), some (.int p3), none, some (.int v5), some (.int v6)] [] (I, L, R, am_SH) (po_M_fits L R Q) := by
  intro n
  induction n with
  | zero => intro I v5 v6 h; exact h.elim
  | succ n ih =>
    intro I v5 v6 h
    unfold wl_M_fits_27 at h
    refine am_iload (n := 29) d_M_fits_27 rfl rfl ?_
    refine am_iconst (n := 30) d_M_fits_29 ci_1 rfl ?_
    refine am_aload_n (n := 31) d_M_fits_30 rfl rfl ?_
    refine am_getR (x := (q + 1)) (n := 34) f_M_7 d_M_fits_31 rfl rfl hq (hw.1 q 12 0 1 hq rfl) ?_
    refine am_iconst (n := 35) d_M_fits_34 ci_2 rfl ?_
    refine am_iald2 (n := 36) d_M_fits_35 rfl (am_sho (k := 0) (o := 1) hq (by decide) (by decide) (by decide) rfl) cx_2_2258 cn_2 ?_
    refine am_ishl (n := 37) d_M_fits_36 rfl ?_
    refine am_icmp_ge (tgt := 68) (n := 40) d_M_fits_37 rfl rfl (fun c2 => ?_) (fun c2 => ?_)
    · have h := h.1 c2
      refine am_aload_n (n := 69) d_M_fits_68 rfl rfl ?_
      refine am_iload (n := 71) d_M_fits_69 rfl rfl ?_
      refine am_callV (kc := 0) (ks := 0) (As := [.int v5]) (n := 74) d_M_fits_71 rfl ce_M_gives lk_M_125 in_M_gives rfl rfl hq rfl rfl (Nat.le_of_ble_eq_true rfl) (Or.inl rfl) (cm_M_gives (d := d - 1) hw (by omega) hq h) (by omega) ?_
      rintro _ _ ⟨r2, I1, rfl, rfl, h⟩
      show am_Wp (d, "UnseenRingModel", b_M_fits, 7, false) 0 0 74 [some (.ref q), some (.int p1), some (.int p2), some (.int p3), none, some (.int v5), some (.int v6)] [.int r2] (I1, L, R, am_SH) (po_M_fits L R Q)
      exact am_iret d_M_fits_74 ⟨r2, I1, rfl, rfl, h⟩
    · have h := h.2 c2
      refine am_iload (n := 42) d_M_fits_40 rfl rfl ?_
      refine am_aload_n (n := 43) d_M_fits_42 rfl rfl ?_
      refine am_iload_n (n := 44) d_M_fits_43 rfl rfl ?_
      refine am_iload (n := 46) d_M_fits_44 rfl rfl ?_
      refine am_iload_n (n := 47) d_M_fits_46 rfl rfl ?_
      refine am_iload_n (n := 48) d_M_fits_47 rfl rfl ?_
      refine am_callV (kc := 0) (ks := 0) (As := [.int p1, .int v6, .int p2, .int p3]) (n := 51) d_M_fits_48 rfl ce_M_isLiking lk_M_445 in_M_isLiking rfl rfl hq rfl rfl (Nat.le_of_ble_eq_true rfl) (Or.inl rfl) (cm_M_isLiking (d := d - 1) hw (by omega) hq h) (by omega) ?_
      rintro _ _ ⟨r3, rfl, rfl, h⟩
      show am_Wp (d, "UnseenRingModel", b_M_fits, 7, false) 0 0 51 [some (.ref q), some (.int p1), some (.int p2), some (.int p3), none, some (.int v5), some (.int v6)] [.int (am_b r3), .int v5] (I, L, R, am_SH) (po_M_fits L R Q)
      refine am_if_eq (y := 0) (tgt := 58) (n := 54) d_M_fits_51 rfl rfl (fun c3 => ?_) (fun c3 => ?_)
      · have h := h.1 (am_b_0 c3)
        refine am_iconst (n := 59) d_M_fits_58 ci_0 rfl ?_
        refine am_iadd (n := 60) d_M_fits_59 rfl ?_
        refine am_istore (ls' := [some (.ref q), some (.int p1), some (.int p2), some (.int p3), none, some (.int (v5 + 0)), some (.int v6)]) (n := 62) d_M_fits_60 (by decide) rfl rfl ?_
        refine am_iinc (v := v6 + 1) (ls' := [some (.ref q), some (.int p1), some (.int p2), some (.int p3), none, some (.int (v5 + 0)), some (.int (v6 + 1))]) (n := 65) d_M_fits_62 rfl (congrArg _ ci_1) (by decide) rfl rfl ?_
        refine am_goto (tgt := 27) d_M_fits_65 rfl ?_
        exact ih I (v5 + 0) (v6 + 1)  h
      · have h := h.2 (am_b_n0 c3)
        refine am_iconst (n := 55) d_M_fits_54 ci_1 rfl ?_
        refine am_goto (tgt := 59) d_M_fits_55 rfl ?_
        refine am_iadd (n := 60) d_M_fits_59 rfl ?_
        refine am_istore (ls' := [some (.ref q), some (.int p1), some (.int p2), some (.int p3), none, some (.int (v5 + 1)), some (.int v6)]) (n := 62) d_M_fits_60 (by decide) rfl rfl ?_
        refine am_iinc (v := v6 + 1) (ls' := [some (.ref q), some (.int p1), some (.int p2), some (.int p3), none, some (.int (v5 + 1)), some (.int (v6 + 1))]) (n := 65) d_M_fits_62 rfl (congrArg _ ci_1) (by decide) rfl rfl ?_
        refine am_goto (tgt := 27) d_M_fits_65 rfl ?_
        exact ih I (v5 + 1) (v6 + 1)  h
def wp_M_fits (I : am_TI) (L : am_TL) (R : am_TR) (q : Nat) (p1 : Int32) (p2 : Int32) (p3 : Int32)  (Q : Int32 → am_TI → Prop) : Prop := wp_M_wrongSeen I L R q p1 p2 p3 (fun (r1 : Int32) => ((r1 ≤ 0 → (∃ z, wl_M_fits_27 L R q p1 p2 p3 Q z I 0 0)) ∧ (¬ r1 ≤ 0 → wp_M_refuse I L R q r1 (fun (r4 : Int32) (I2 : am_TI) => Q r4 I2))))
set_option maxRecDepth 20000 in
theorem cm_M_fits {d : Nat} {I : am_TI} {L : am_TL} {R : am_TR}  (hw : am_Wf R)   {q : Nat} {p1 : Int32} {p2 : Int32} {p3 : Int32} {Q : Int32 → am_TI → Prop} (hd : 4 ≤ d) (hq : am_SH[q]? = some (.inl 12)) (h : wp_M_fits I L R q p1 p2 p3  Q) : am_Cm d 0 0 y_M_fits b_M_fits 7 (some .int) [.ref q, .int p1, .int p2, .int p3] (I, L, R, am_SH) (po_M_fits L R Q) := by
  refine am_Cm_of (ini := false) (by decide +kernel) (fun z => by cases z) (by simp [Value.category]) (fun r σ' z => by obtain ⟨x, _, rfl, -⟩ := z; exact ⟨_, rfl, rfl⟩) ?_
  unfold wp_M_fits at h
  show am_Wp (d, "UnseenRingModel", b_M_fits, 7, false) 0 0 0 [some (.ref q), some (.int p1), some (.int p2), some (.int p3), none, none, none] [] (I, L, R, am_SH) (po_M_fits L R Q)
  refine am_aload_n (n := 1) d_M_fits_0 rfl rfl ?_
  refine am_iload_n (n := 2) d_M_fits_1 rfl rfl ?_
  refine am_iload_n (n := 3) d_M_fits_2 rfl rfl ?_
  refine am_iload_n (n := 4) d_M_fits_3 rfl rfl ?_
  refine am_callV (kc := 0) (ks := 0) (As := [.int p1, .int p2, .int p3]) (n := 7) d_M_fits_4 rfl ce_M_wrongSeen lk_M_442 in_M_wrongSeen rfl rfl hq rfl rfl (Nat.le_of_ble_eq_true rfl) (Or.inl rfl) (cm_M_wrongSeen (d := d - 1) hw (by omega) hq h) (by omega) ?_
  rintro _ _ ⟨r1, rfl, rfl, h⟩
  show am_Wp (d, "UnseenRingModel", b_M_fits, 7, false) 0 0 7 [some (.ref q), some (.int p1), some (.int p2), some (.int p3), none, none, none] [.int r1] (I, L, R, am_SH) (po_M_fits L R Q)
  refine am_istore (ls' := [some (.ref q), some (.int p1), some (.int p2), some (.int p3), some (.int r1), none, none]) (n := 9) d_M_fits_7 (by decide) rfl rfl ?_
  refine am_iload (n := 11) d_M_fits_9 rfl rfl ?_
  refine am_if_le (y := 0) (tgt := 21) (n := 14) d_M_fits_11 rfl rfl (fun c1 => ?_) (fun c1 => ?_)
  · have h := h.1 c1
    refine am_iconst (n := 22) d_M_fits_21 ci_0 rfl ?_
    refine am_istore (ls' := [some (.ref q), some (.int p1), some (.int p2), some (.int p3), some (.int r1), some (.int 0), none]) (n := 24) d_M_fits_22 (by decide) rfl rfl ?_
    refine am_iconst (n := 25) d_M_fits_24 ci_0 rfl ?_
    refine am_istore (ls' := [some (.ref q), some (.int p1), some (.int p2), some (.int p3), some (.int r1), some (.int 0), some (.int 0)]) (n := 27) d_M_fits_25 (by decide) rfl rfl ?_
    refine am_forget (ls' := [some (.ref q), some (.int p1), some (.int p2), some (.int p3), none, some (.int 0), some (.int 0)]) (am_le_s (am_le_s (am_le_s (am_le_s (am_le_n (am_le_s (am_le_s am_le_e))))))) ?_
    obtain ⟨n, h⟩ := h
    exact tl_M_fits_27 hw hq hd n I 0 0 h
  · have h := h.2 c1
    refine am_aload_n (n := 15) d_M_fits_14 rfl rfl ?_
    refine am_iload (n := 17) d_M_fits_15 rfl rfl ?_
    refine am_callV (kc := 0) (ks := 0) (As := [.int r1]) (n := 20) d_M_fits_17 rfl ce_M_refuse lk_M_121 in_M_refuse rfl rfl hq rfl rfl (Nat.le_of_ble_eq_true rfl) (Or.inl rfl) (cm_M_refuse (d := d - 1) hw (by omega) hq h) (by omega) ?_
    rintro _ _ ⟨r4, I2, rfl, rfl, h⟩
    show am_Wp (d, "UnseenRingModel", b_M_fits, 7, false) 0 0 20 [some (.ref q), some (.int p1), some (.int p2), some (.int p3), some (.int r1), none, none] [.int r4] (I2, L, R, am_SH) (po_M_fits L R Q)
    exact am_iret d_M_fits_20 ⟨r4, I2, rfl, rfl, h⟩
abbrev po_M_orNone (L : am_TL) (R : am_TR) (Q : Int32 → am_TI → Prop) : Option Value → am_St → Prop := fun r σ' => ∃ (x : Int32) (I' : am_TI), r = some (.int x) ∧ σ' = (I', L, R, am_SH) ∧ Q x I'
def wp_M_orNone (I : am_TI) (L : am_TL) (R : am_TR) (q : Nat) (p1 : Int32)  (Q : Int32 → am_TI → Prop) : Prop := ((p1 = (-1) → wp_M_refuse I L R q 6 (fun (r2 : Int32) (I2 : am_TI) => Q r2 I2)) ∧ (¬ p1 = (-1) → wp_M_gives I L R q p1 (fun (r1 : Int32) (I1 : am_TI) => Q r1 I1)))
set_option maxRecDepth 20000 in
theorem cm_M_orNone {d : Nat} {I : am_TI} {L : am_TL} {R : am_TR}  (hw : am_Wf R)   {q : Nat} {p1 : Int32} {Q : Int32 → am_TI → Prop} (hd : 1 ≤ d) (hq : am_SH[q]? = some (.inl 12)) (h : wp_M_orNone I L R q p1  Q) : am_Cm d 0 0 y_M_orNone b_M_orNone 2 (some .int) [.ref q, .int p1] (I, L, R, am_SH) (po_M_orNone L R Q) := by
  refine am_Cm_of (ini := false) (by decide +kernel) (fun z => by cases z) (by simp [Value.category]) (fun r σ' z => by obtain ⟨x, _, rfl, -⟩ := z; exact ⟨_, rfl, rfl⟩) ?_
  unfold wp_M_orNone at h
  show am_Wp (d, "UnseenRingModel", b_M_orNone, 2, false) 0 0 0 [some (.ref q), some (.int p1)] [] (I, L, R, am_SH) (po_M_orNone L R Q)
  refine am_iload_n (n := 1) d_M_orNone_0 rfl rfl ?_
  refine am_iconst (n := 2) d_M_orNone_1 ci_m1 rfl ?_
  refine am_icmp_ne (tgt := 12) (n := 5) d_M_orNone_2 rfl rfl (fun c1 => ?_) (fun c1 => ?_)
  · have h := h.2 c1
    refine am_aload_n (n := 13) d_M_orNone_12 rfl rfl ?_
    refine am_iload_n (n := 14) d_M_orNone_13 rfl rfl ?_
    refine am_callV (kc := 0) (ks := 0) (As := [.int p1]) (n := 17) d_M_orNone_14 rfl ce_M_gives lk_M_125 in_M_gives rfl rfl hq rfl rfl (Nat.le_of_ble_eq_true rfl) (Or.inl rfl) (cm_M_gives (d := d - 1) hw (by omega) hq h) (by omega) ?_
    rintro _ _ ⟨r1, I1, rfl, rfl, h⟩
    show am_Wp (d, "UnseenRingModel", b_M_orNone, 2, false) 0 0 17 [some (.ref q), some (.int p1)] [.int r1] (I1, L, R, am_SH) (po_M_orNone L R Q)
    exact am_iret d_M_orNone_17 ⟨r1, I1, rfl, rfl, h⟩
  · have h := h.1 c1
    refine am_aload_n (n := 6) d_M_orNone_5 rfl rfl ?_
    refine am_bipush (n := 8) d_M_orNone_6 cb_6 rfl ?_
    refine am_callV (kc := 0) (ks := 0) (As := [.int 6]) (n := 11) d_M_orNone_8 rfl ce_M_refuse lk_M_121 in_M_refuse rfl rfl hq rfl rfl (Nat.le_of_ble_eq_true rfl) (Or.inl rfl) (cm_M_refuse (d := d - 1) hw (by omega) hq h) (by omega) ?_
    rintro _ _ ⟨r2, I2, rfl, rfl, h⟩
    show am_Wp (d, "UnseenRingModel", b_M_orNone, 2, false) 0 0 11 [some (.ref q), some (.int p1)] [.int r2] (I2, L, R, am_SH) (po_M_orNone L R Q)
    exact am_iret d_M_orNone_11 ⟨r2, I2, rfl, rfl, h⟩
abbrev po_M_sure (L : am_TL) (R : am_TR) (Q : Int32 → am_TI → Prop) : Option Value → am_St → Prop := fun r σ' => ∃ (x : Int32) (I' : am_TI), r = some (.int x) ∧ σ' = (I', L, R, am_SH) ∧ Q x I'
def wl_M_sure_39 (L : am_TL) (R : am_TR) (q : Nat) (p1 : Int32) (p2 : Int32) (p3 : Int32) (Q : Int32 → am_TI → Prop)  : Nat → am_TI → Int32 → Int32 → Int32 → Prop
  | 0 => fun _ _ _ _ => False
  | f39 + 1 => fun I v5 v6 v7 => ((v5 < v7 → wp_M_orNone I L R q v6 (fun (r2 : Int32) (I1 : am_TI) => Q r2 I1)) ∧ (¬ v5 < v7 → wp_M_isLiking I L R q p1 v7 p2 p3 (fun (r3 : Bool) => ((r3 = false → wl_M_sure_39 L R q p1 p2 p3 Q f39 I v5 v6 (v7 + 1)) ∧ (r3 = true → ((v6 = (-1) → wl_M_sure_39 L R q p1 p2 p3 Q f39 I v5 v7 (v7 + 1)) ∧ (¬ v6 = (-1) → wl_M_sure_39 L R q p1 p2 p3 Q f39 I v5 (v6 &&& v7) (v7 + 1))))))))
set_option maxRecDepth 20000 in
theorem tl_M_sure_39 {d : Nat}  {L : am_TL} {R : am_TR} {q : Nat} {p1 : Int32} {p2 : Int32} {p3 : Int32} {Q : Int32 → am_TI → Prop}  (hw : am_Wf R) (hq : am_SH[q]? = some (.inl 12)) (hd : 4 ≤ d) : ∀ (n : Nat) (I : am_TI) (v5 : Int32) (v6 : Int32) (v7 : Int32), wl_M_sure_39 L R q p1 p2 p3 Q  n I v5 v6 v7 → am_Wp (d, "UnseenRingModel", b_M_sure, 8, false) 0 0 39 [some (.ref q), some (.int p1), some (.int p2), some (.int p3), none, some (.int v5), some (.int v6), some (.int v7)] [] (I, L, R, am_SH) (po_M_sure L R Q) := by
  intro n
  induction n with
  | zero => intro I v5 v6 v7 h; exact h.elim
  | succ n ih =>
    intro I v5 v6 v7 h
    unfold wl_M_sure_39 at h
    refine am_iload (n := 41) d_M_sure_39 rfl rfl ?_
    refine am_iload (n := 43) d_M_sure_41 rfl rfl ?_
    refine am_icmp_gt (tgt := 82) (n := 46) d_M_sure_43 rfl rfl (fun c2 => ?_) (fun c2 => ?_)
    · have h := h.1 c2
      refine am_aload_n (n := 83) d_M_sure_82 rfl rfl ?_
      refine am_iload (n := 85) d_M_sure_83 rfl rfl ?_
      refine am_callV (kc := 0) (ks := 0) (As := [.int v6]) (n := 88) d_M_sure_85 rfl ce_M_orNone lk_M_449 in_M_orNone rfl rfl hq rfl rfl (Nat.le_of_ble_eq_true rfl) (Or.inl rfl) (cm_M_orNone (d := d - 1) hw (by omega) hq h) (by omega) ?_
      rintro _ _ ⟨r2, I1, rfl, rfl, h⟩
      show am_Wp (d, "UnseenRingModel", b_M_sure, 8, false) 0 0 88 [some (.ref q), some (.int p1), some (.int p2), some (.int p3), none, some (.int v5), some (.int v6), some (.int v7)] [.int r2] (I1, L, R, am_SH) (po_M_sure L R Q)
      exact am_iret d_M_sure_88 ⟨r2, I1, rfl, rfl, h⟩
    · have h := h.2 c2
      refine am_aload_n (n := 47) d_M_sure_46 rfl rfl ?_
      refine am_iload_n (n := 48) d_M_sure_47 rfl rfl ?_
      refine am_iload (n := 50) d_M_sure_48 rfl rfl ?_
      refine am_iload_n (n := 51) d_M_sure_50 rfl rfl ?_
      refine am_iload_n (n := 52) d_M_sure_51 rfl rfl ?_
      refine am_callV (kc := 0) (ks := 0) (As := [.int p1, .int v7, .int p2, .int p3]) (n := 55) d_M_sure_52 rfl ce_M_isLiking lk_M_445 in_M_isLiking rfl rfl hq rfl rfl (Nat.le_of_ble_eq_true rfl) (Or.inl rfl) (cm_M_isLiking (d := d - 1) hw (by omega) hq h) (by omega) ?_
      rintro _ _ ⟨r3, rfl, rfl, h⟩
      show am_Wp (d, "UnseenRingModel", b_M_sure, 8, false) 0 0 55 [some (.ref q), some (.int p1), some (.int p2), some (.int p3), none, some (.int v5), some (.int v6), some (.int v7)] [.int (am_b r3)] (I, L, R, am_SH) (po_M_sure L R Q)
      refine am_if_eq (y := 0) (tgt := 76) (n := 58) d_M_sure_55 rfl rfl (fun c3 => ?_) (fun c3 => ?_)
      · have h := h.1 (am_b_0 c3)
        refine am_iinc (v := v7 + 1) (ls' := [some (.ref q), some (.int p1), some (.int p2), some (.int p3), none, some (.int v5), some (.int v6), some (.int (v7 + 1))]) (n := 79) d_M_sure_76 rfl (congrArg _ ci_1) (by decide) rfl rfl ?_
        refine am_goto (tgt := 39) d_M_sure_79 rfl ?_
        exact ih I v5 v6 (v7 + 1)  h
      · have h := h.2 (am_b_n0 c3)
        refine am_iload (n := 60) d_M_sure_58 rfl rfl ?_
        refine am_iconst (n := 61) d_M_sure_60 ci_m1 rfl ?_
        refine am_icmp_ne (tgt := 69) (n := 64) d_M_sure_61 rfl rfl (fun c4 => ?_) (fun c4 => ?_)
        · have h := h.2 c4
          refine am_iload (n := 71) d_M_sure_69 rfl rfl ?_
          refine am_iload (n := 73) d_M_sure_71 rfl rfl ?_
          refine am_iand (n := 74) d_M_sure_73 rfl ?_
          refine am_istore (ls' := [some (.ref q), some (.int p1), some (.int p2), some (.int p3), none, some (.int v5), some (.int (v6 &&& v7)), some (.int v7)]) (n := 76) d_M_sure_74 (by decide) rfl rfl ?_
          refine am_iinc (v := v7 + 1) (ls' := [some (.ref q), some (.int p1), some (.int p2), some (.int p3), none, some (.int v5), some (.int (v6 &&& v7)), some (.int (v7 + 1))]) (n := 79) d_M_sure_76 rfl (congrArg _ ci_1) (by decide) rfl rfl ?_
          refine am_goto (tgt := 39) d_M_sure_79 rfl ?_
          exact ih I v5 (v6 &&& v7) (v7 + 1)  h
        · have h := h.1 c4
          refine am_iload (n := 66) d_M_sure_64 rfl rfl ?_
          refine am_goto (tgt := 74) d_M_sure_66 rfl ?_
          refine am_istore (ls' := [some (.ref q), some (.int p1), some (.int p2), some (.int p3), none, some (.int v5), some (.int v7), some (.int v7)]) (n := 76) d_M_sure_74 (by decide) rfl rfl ?_
          refine am_iinc (v := v7 + 1) (ls' := [some (.ref q), some (.int p1), some (.int p2), some (.int p3), none, some (.int v5), some (.int v7), some (.int (v7 + 1))]) (n := 79) d_M_sure_76 rfl (congrArg _ ci_1) (by decide) rfl rfl ?_
          refine am_goto (tgt := 39) d_M_sure_79 rfl ?_
          exact ih I v5 v7 (v7 + 1)  h
def wp_M_sure (I : am_TI) (L : am_TL) (R : am_TR) (q : Nat) (p1 : Int32) (p2 : Int32) (p3 : Int32)  (Q : Int32 → am_TI → Prop) : Prop := wp_M_wrongSeen I L R q p1 p2 p3 (fun (r1 : Int32) => ((r1 ≤ 0 → (∃ z, wl_M_sure_39 L R q p1 p2 p3 Q z I (((1 : Int32) <<< ((I (q + 1) 2) &&& 31)) - 1) (-1) 0)) ∧ (¬ r1 ≤ 0 → wp_M_refuse I L R q r1 (fun (r4 : Int32) (I2 : am_TI) => Q r4 I2))))
set_option maxRecDepth 20000 in
theorem cm_M_sure {d : Nat} {I : am_TI} {L : am_TL} {R : am_TR}  (hw : am_Wf R)   {q : Nat} {p1 : Int32} {p2 : Int32} {p3 : Int32} {Q : Int32 → am_TI → Prop} (hd : 4 ≤ d) (hq : am_SH[q]? = some (.inl 12)) (h : wp_M_sure I L R q p1 p2 p3  Q) : am_Cm d 0 0 y_M_sure b_M_sure 8 (some .int) [.ref q, .int p1, .int p2, .int p3] (I, L, R, am_SH) (po_M_sure L R Q) := by
  refine am_Cm_of (ini := false) (by decide +kernel) (fun z => by cases z) (by simp [Value.category]) (fun r σ' z => by obtain ⟨x, _, rfl, -⟩ := z; exact ⟨_, rfl, rfl⟩) ?_
  unfold wp_M_sure at h
  show am_Wp (d, "UnseenRingModel", b_M_sure, 8, false) 0 0 0 [some (.ref q), some (.int p1), some (.int p2), some (.int p3), none, none, none, none] [] (I, L, R, am_SH) (po_M_sure L R Q)
  refine am_aload_n (n := 1) d_M_sure_0 rfl rfl ?_
  refine am_iload_n (n := 2) d_M_sure_1 rfl rfl ?_
  refine am_iload_n (n := 3) d_M_sure_2 rfl rfl ?_
  refine am_iload_n (n := 4) d_M_sure_3 rfl rfl ?_
  refine am_callV (kc := 0) (ks := 0) (As := [.int p1, .int p2, .int p3]) (n := 7) d_M_sure_4 rfl ce_M_wrongSeen lk_M_442 in_M_wrongSeen rfl rfl hq rfl rfl (Nat.le_of_ble_eq_true rfl) (Or.inl rfl) (cm_M_wrongSeen (d := d - 1) hw (by omega) hq h) (by omega) ?_
  rintro _ _ ⟨r1, rfl, rfl, h⟩
  show am_Wp (d, "UnseenRingModel", b_M_sure, 8, false) 0 0 7 [some (.ref q), some (.int p1), some (.int p2), some (.int p3), none, none, none, none] [.int r1] (I, L, R, am_SH) (po_M_sure L R Q)
  refine am_istore (ls' := [some (.ref q), some (.int p1), some (.int p2), some (.int p3), some (.int r1), none, none, none]) (n := 9) d_M_sure_7 (by decide) rfl rfl ?_
  refine am_iload (n := 11) d_M_sure_9 rfl rfl ?_
  refine am_if_le (y := 0) (tgt := 21) (n := 14) d_M_sure_11 rfl rfl (fun c1 => ?_) (fun c1 => ?_)
  · have h := h.1 c1
    refine am_iconst (n := 22) d_M_sure_21 ci_1 rfl ?_
    refine am_aload_n (n := 23) d_M_sure_22 rfl rfl ?_
    refine am_getR (x := (q + 1)) (n := 26) f_M_7 d_M_sure_23 rfl rfl hq (hw.1 q 12 0 1 hq rfl) ?_
    refine am_iconst (n := 27) d_M_sure_26 ci_2 rfl ?_
    refine am_iald2 (n := 28) d_M_sure_27 rfl (am_sho (k := 0) (o := 1) hq (by decide) (by decide) (by decide) rfl) cx_2_2258 cn_2 ?_
    refine am_ishl (n := 29) d_M_sure_28 rfl ?_
    refine am_iconst (n := 30) d_M_sure_29 ci_1 rfl ?_
    refine am_isub (n := 31) d_M_sure_30 rfl ?_
    refine am_istore (ls' := [some (.ref q), some (.int p1), some (.int p2), some (.int p3), some (.int r1), some (.int (((1 : Int32) <<< ((I (q + 1) 2) &&& 31)) - 1)), none, none]) (n := 33) d_M_sure_31 (by decide) rfl rfl ?_
    refine am_iconst (n := 34) d_M_sure_33 ci_m1 rfl ?_
    refine am_istore (ls' := [some (.ref q), some (.int p1), some (.int p2), some (.int p3), some (.int r1), some (.int (((1 : Int32) <<< ((I (q + 1) 2) &&& 31)) - 1)), some (.int (-1)), none]) (n := 36) d_M_sure_34 (by decide) rfl rfl ?_
    refine am_iconst (n := 37) d_M_sure_36 ci_0 rfl ?_
    refine am_istore (ls' := [some (.ref q), some (.int p1), some (.int p2), some (.int p3), some (.int r1), some (.int (((1 : Int32) <<< ((I (q + 1) 2) &&& 31)) - 1)), some (.int (-1)), some (.int 0)]) (n := 39) d_M_sure_37 (by decide) rfl rfl ?_
    refine am_forget (ls' := [some (.ref q), some (.int p1), some (.int p2), some (.int p3), none, some (.int (((1 : Int32) <<< ((I (q + 1) 2) &&& 31)) - 1)), some (.int (-1)), some (.int 0)]) (am_le_s (am_le_s (am_le_s (am_le_s (am_le_n (am_le_s (am_le_s (am_le_s am_le_e)))))))) ?_
    obtain ⟨n, h⟩ := h
    exact tl_M_sure_39 hw hq hd n I (((1 : Int32) <<< ((I (q + 1) 2) &&& 31)) - 1) (-1) 0 h
  · have h := h.2 c1
    refine am_aload_n (n := 15) d_M_sure_14 rfl rfl ?_
    refine am_iload (n := 17) d_M_sure_15 rfl rfl ?_
    refine am_callV (kc := 0) (ks := 0) (As := [.int r1]) (n := 20) d_M_sure_17 rfl ce_M_refuse lk_M_121 in_M_refuse rfl rfl hq rfl rfl (Nat.le_of_ble_eq_true rfl) (Or.inl rfl) (cm_M_refuse (d := d - 1) hw (by omega) hq h) (by omega) ?_
    rintro _ _ ⟨r4, I2, rfl, rfl, h⟩
    show am_Wp (d, "UnseenRingModel", b_M_sure, 8, false) 0 0 20 [some (.ref q), some (.int p1), some (.int p2), some (.int p3), some (.int r1), none, none, none] [.int r4] (I2, L, R, am_SH) (po_M_sure L R Q)
    exact am_iret d_M_sure_20 ⟨r4, I2, rfl, rfl, h⟩
abbrev po_M_isKnowing (I : am_TI) (L : am_TL) (R : am_TR) (Q : Bool → Prop) : Option Value → am_St → Prop := fun r σ' => ∃ (x : Bool), r = some (.int (am_b x)) ∧ σ' = (I, L, R, am_SH) ∧ Q x
def wp_M_isKnowing (I : am_TI) (L : am_TL) (R : am_TR) (q : Nat) (p1 : Int32) (p2 : Int32)  (Q : Bool → Prop) : Prop := wp_M_areHearers I L R q (Int32.toInt64 p1) (fun (r1 : Bool) => ((r1 = false → Q false) ∧ (r1 = true → ((p1 = 0 → Q false) ∧ (¬ p1 = 0 → wp_M_isFrom I L R (Int32.toInt64 p2) 0 8 (fun (r2 : Bool) => ((r2 = false → Q false) ∧ (r2 = true → Q true))))))))
set_option maxRecDepth 20000 in
theorem cm_M_isKnowing {d : Nat} {I : am_TI} {L : am_TL} {R : am_TR}  (hw : am_Wf R)   {q : Nat} {p1 : Int32} {p2 : Int32} {Q : Bool → Prop} (hd : 2 ≤ d) (hq : am_SH[q]? = some (.inl 12)) (h : wp_M_isKnowing I L R q p1 p2  Q) : am_Cm d 0 0 y_M_isKnowing b_M_isKnowing 3 (some .boolean) [.ref q, .int p1, .int p2] (I, L, R, am_SH) (po_M_isKnowing I L R Q) := by
  refine am_Cm_of (ini := false) (by decide +kernel) (fun z => by cases z) (by simp [Value.category]) (fun r σ' z => by obtain ⟨x, rfl, -⟩ := z; exact ⟨_, rfl, am_b_nar x⟩) ?_
  unfold wp_M_isKnowing at h
  show am_Wp (d, "UnseenRingModel", b_M_isKnowing, 3, false) 0 0 0 [some (.ref q), some (.int p1), some (.int p2)] [] (I, L, R, am_SH) (po_M_isKnowing I L R Q)
  refine am_aload_n (n := 1) d_M_isKnowing_0 rfl rfl ?_
  refine am_iload_n (n := 2) d_M_isKnowing_1 rfl rfl ?_
  refine am_i2l (n := 3) d_M_isKnowing_2 rfl ?_
  refine am_callV (kc := 0) (ks := 0) (As := [.long (Int32.toInt64 p1)]) (n := 6) d_M_isKnowing_3 rfl ce_M_areHearers lk_M_396 in_M_areHearers rfl rfl hq rfl rfl (Nat.le_of_ble_eq_true rfl) (Or.inl rfl) (cm_M_areHearers (d := d - 1) hw (by omega) hq h) (by omega) ?_
  rintro _ _ ⟨r1, rfl, rfl, h⟩
  show am_Wp (d, "UnseenRingModel", b_M_isKnowing, 3, false) 0 0 6 [some (.ref q), some (.int p1), some (.int p2)] [.int (am_b r1)] (I, L, R, am_SH) (po_M_isKnowing I L R Q)
  refine am_if_eq (y := 0) (tgt := 29) (n := 9) d_M_isKnowing_6 rfl rfl (fun c1 => ?_) (fun c1 => ?_)
  · have h := h.1 (am_b_0 c1)
    refine am_iconst (n := 30) d_M_isKnowing_29 ci_0 rfl ?_
    exact am_iret d_M_isKnowing_30 ⟨false, rfl, rfl, h⟩
  · have h := h.2 (am_b_n0 c1)
    refine am_iload_n (n := 10) d_M_isKnowing_9 rfl rfl ?_
    refine am_if_eq (y := 0) (tgt := 29) (n := 13) d_M_isKnowing_10 rfl rfl (fun c2 => ?_) (fun c2 => ?_)
    · have h := h.1 c2
      refine am_iconst (n := 30) d_M_isKnowing_29 ci_0 rfl ?_
      exact am_iret d_M_isKnowing_30 ⟨false, rfl, rfl, h⟩
    · have h := h.2 c2
      refine am_iload_n (n := 14) d_M_isKnowing_13 rfl rfl ?_
      refine am_i2l (n := 15) d_M_isKnowing_14 rfl ?_
      refine am_lconst (v := 0) (n := 16) d_M_isKnowing_15 rfl rfl ?_
      refine am_ldc2 (n := 19) d_M_isKnowing_16 k_M_431 rfl ?_
      refine am_callS (kc := 0) (ks := 0) (As := [.long (Int32.toInt64 p2), .long 0, .long 8]) (n := 22) d_M_isKnowing_19 rfl ce_M_isFrom lk_M_306 st_M_isFrom rfl rfl (Nat.le_of_ble_eq_true rfl) (Or.inl rfl) (cm_M_isFrom (d := d - 1) hw (by omega)  h) (by omega) ?_
      rintro _ _ ⟨r2, rfl, rfl, h⟩
      show am_Wp (d, "UnseenRingModel", b_M_isKnowing, 3, false) 0 0 22 [some (.ref q), some (.int p1), some (.int p2)] [.int (am_b r2)] (I, L, R, am_SH) (po_M_isKnowing I L R Q)
      refine am_if_eq (y := 0) (tgt := 29) (n := 25) d_M_isKnowing_22 rfl rfl (fun c3 => ?_) (fun c3 => ?_)
      · have h := h.1 (am_b_0 c3)
        refine am_iconst (n := 30) d_M_isKnowing_29 ci_0 rfl ?_
        exact am_iret d_M_isKnowing_30 ⟨false, rfl, rfl, h⟩
      · have h := h.2 (am_b_n0 c3)
        refine am_iconst (n := 26) d_M_isKnowing_25 ci_1 rfl ?_
        refine am_goto (tgt := 30) d_M_isKnowing_26 rfl ?_
        exact am_iret d_M_isKnowing_30 ⟨true, rfl, rfl, h⟩
abbrev po_M_knowing (I : am_TI) (L : am_TL) (R : am_TR) (Q : Int32 → Prop) : Option Value → am_St → Prop := fun r σ' => ∃ (x : Int32), r = some (.int x) ∧ σ' = (I, L, R, am_SH) ∧ Q x
def wb_M_knowing_96 (I : am_TI) (L : am_TL) (R : am_TR) (q : Nat) (p1 : Int32) (Q : Int32 → Prop) (K4 : Int32 → Int32 → Prop) (v2 : Int32) (v3 : Int32) (v4 : Bool) : Prop := ((v4 = false → K4 (v2 ||| 0) (v3 + 1)) ∧ (v4 = true → K4 (v2 ||| ((1 : Int32) <<< (v3 &&& 31))) (v3 + 1)))
set_option maxRecDepth 20000 in
theorem tb_M_knowing_96 {d : Nat}  {I : am_TI} {L : am_TL} {R : am_TR} {q : Nat} {p1 : Int32} {Q : Int32 → Prop} {K4 : Int32 → Int32 → Prop} (hw : am_Wf R) (hq : am_SH[q]? = some (.inl 12)) (hK4 : ∀ (v2 : Int32) (v3 : Int32), K4 v2 v3 → am_Wp (d, "UnseenRingModel", b_M_knowing, 7, false) 0 0 4 [some (.ref q), some (.int p1), some (.int v2), some (.int v3), none, none, none] [] (I, L, R, am_SH) (po_M_knowing I L R Q)) (hd : 1 ≤ d) (v2 : Int32) (v3 : Int32) (v4 : Bool) (h : wb_M_knowing_96 I L R q p1 Q K4 v2 v3 v4) : am_Wp (d, "UnseenRingModel", b_M_knowing, 7, false) 0 0 96 [some (.ref q), some (.int p1), some (.int v2), some (.int v3), some (.int (am_b v4)), none, none] [] (I, L, R, am_SH) (po_M_knowing I L R Q) := by
  unfold wb_M_knowing_96 at h
  refine am_iload_n (n := 97) d_M_knowing_96 rfl rfl ?_
  refine am_iload (n := 99) d_M_knowing_97 rfl rfl ?_
  refine am_if_eq (y := 0) (tgt := 108) (n := 102) d_M_knowing_99 rfl rfl (fun c3 => ?_) (fun c3 => ?_)
  · have h := h.1 (am_b_0 c3)
    refine am_iconst (n := 109) d_M_knowing_108 ci_0 rfl ?_
    refine am_ior (n := 110) d_M_knowing_109 rfl ?_
    refine am_istore_n (ls' := [some (.ref q), some (.int p1), some (.int (v2 ||| 0)), some (.int v3), some (.int (am_b v4)), none, none]) (n := 111) d_M_knowing_110 (by decide) rfl rfl ?_
    refine am_iinc (v := v3 + 1) (ls' := [some (.ref q), some (.int p1), some (.int (v2 ||| 0)), some (.int (v3 + 1)), some (.int (am_b v4)), none, none]) (n := 114) d_M_knowing_111 rfl (congrArg _ ci_1) (by decide) rfl rfl ?_
    refine am_goto (tgt := 4) d_M_knowing_114 rfl ?_
    refine am_forget (ls' := [some (.ref q), some (.int p1), some (.int (v2 ||| 0)), some (.int (v3 + 1)), none, none, none]) (am_le_s (am_le_s (am_le_s (am_le_s (am_le_n (am_le_n (am_le_n am_le_e))))))) ?_
    exact hK4 (v2 ||| 0) (v3 + 1)  h
  · have h := h.2 (am_b_n0 c3)
    refine am_iconst (n := 103) d_M_knowing_102 ci_1 rfl ?_
    refine am_iload_n (n := 104) d_M_knowing_103 rfl rfl ?_
    refine am_ishl (n := 105) d_M_knowing_104 rfl ?_
    refine am_goto (tgt := 109) d_M_knowing_105 rfl ?_
    refine am_ior (n := 110) d_M_knowing_109 rfl ?_
    refine am_istore_n (ls' := [some (.ref q), some (.int p1), some (.int (v2 ||| ((1 : Int32) <<< (v3 &&& 31)))), some (.int v3), some (.int (am_b v4)), none, none]) (n := 111) d_M_knowing_110 (by decide) rfl rfl ?_
    refine am_iinc (v := v3 + 1) (ls' := [some (.ref q), some (.int p1), some (.int (v2 ||| ((1 : Int32) <<< (v3 &&& 31)))), some (.int (v3 + 1)), some (.int (am_b v4)), none, none]) (n := 114) d_M_knowing_111 rfl (congrArg _ ci_1) (by decide) rfl rfl ?_
    refine am_goto (tgt := 4) d_M_knowing_114 rfl ?_
    refine am_forget (ls' := [some (.ref q), some (.int p1), some (.int (v2 ||| ((1 : Int32) <<< (v3 &&& 31)))), some (.int (v3 + 1)), none, none, none]) (am_le_s (am_le_s (am_le_s (am_le_s (am_le_n (am_le_n (am_le_n am_le_e))))))) ?_
    exact hK4 (v2 ||| ((1 : Int32) <<< (v3 &&& 31))) (v3 + 1)  h
def wl_M_knowing_34 (I : am_TI) (L : am_TL) (R : am_TR) (q : Nat) (p1 : Int32) (Q : Int32 → Prop) (K4 : Int32 → Int32 → Prop) : Nat → Int32 → Int32 → Bool → Int32 → Int32 → Prop
  | 0 => fun _ _ _ _ _ => False
  | f34 + 1 => fun v2 v3 v4 v5 v6 => ((((1 : Int32) <<< ((I (q + 1) 3) &&& 31)) ≤ v6 → wb_M_knowing_96 I L R q p1 Q K4 v2 v3 v4) ∧ (¬ ((1 : Int32) <<< ((I (q + 1) 3) &&& 31)) ≤ v6 → ((v4 = false → wb_M_knowing_96 I L R q p1 Q K4 v2 v3 v4) ∧ (v4 = true → (vp_in v6 64 ∧ (((I (q + 18) (Int32.toNatClampNeg v6)) = 0 → wl_M_knowing_34 I L R q p1 Q K4 f34 v2 v3 v4 v5 (v6 + 1)) ∧ (¬ (I (q + 18) (Int32.toNatClampNeg v6)) = 0 → (vp_in v3 6 ∧ ((((v6 ^^^ v5) &&& (I (q + 20) (Int32.toNatClampNeg v3))) = 0 → wp_M_isIn I L R q v6 v3 (fun (r2 : Bool) => ((r2 = false → wl_M_knowing_34 I L R q p1 Q K4 f34 v2 v3 false v5 (v6 + 1)) ∧ (r2 = true → wl_M_knowing_34 I L R q p1 Q K4 f34 v2 v3 v4 v5 (v6 + 1))))) ∧ (¬ ((v6 ^^^ v5) &&& (I (q + 20) (Int32.toNatClampNeg v3))) = 0 → wl_M_knowing_34 I L R q p1 Q K4 f34 v2 v3 v4 v5 (v6 + 1)))))))))))
set_option maxRecDepth 20000 in
theorem tl_M_knowing_34 {d : Nat}  {I : am_TI} {L : am_TL} {R : am_TR} {q : Nat} {p1 : Int32} {Q : Int32 → Prop} {K4 : Int32 → Int32 → Prop} (hw : am_Wf R) (hq : am_SH[q]? = some (.inl 12)) (hK4 : ∀ (v2 : Int32) (v3 : Int32), K4 v2 v3 → am_Wp (d, "UnseenRingModel", b_M_knowing, 7, false) 0 0 4 [some (.ref q), some (.int p1), some (.int v2), some (.int v3), none, none, none] [] (I, L, R, am_SH) (po_M_knowing I L R Q)) (hd : 1 ≤ d) : ∀ (n : Nat) (v2 : Int32) (v3 : Int32) (v4 : Bool) (v5 : Int32) (v6 : Int32), wl_M_knowing_34 I L R q p1 Q K4 n v2 v3 v4 v5 v6 → am_Wp (d, "UnseenRingModel", b_M_knowing, 7, false) 0 0 34 [some (.ref q), some (.int p1), some (.int v2), some (.int v3), some (.int (am_b v4)), some (.int v5), some (.int v6)] [] (I, L, R, am_SH) (po_M_knowing I L R Q) := by
  intro n
  induction n with
  | zero => intro v2 v3 v4 v5 v6 h; exact h.elim
  | succ n ih =>
    intro v2 v3 v4 v5 v6 h
    unfold wl_M_knowing_34 at h
    refine am_iload (n := 36) d_M_knowing_34 rfl rfl ?_
    refine am_iconst (n := 37) d_M_knowing_36 ci_1 rfl ?_
    refine am_aload_n (n := 38) d_M_knowing_37 rfl rfl ?_
    refine am_getR (x := (q + 1)) (n := 41) f_M_7 d_M_knowing_38 rfl rfl hq (hw.1 q 12 0 1 hq rfl) ?_
    refine am_iconst (n := 42) d_M_knowing_41 ci_3 rfl ?_
    refine am_iald2 (n := 43) d_M_knowing_42 rfl (am_sho (k := 0) (o := 1) hq (by decide) (by decide) (by decide) rfl) cx_3_2258 cn_3 ?_
    refine am_ishl (n := 44) d_M_knowing_43 rfl ?_
    refine am_icmp_ge (tgt := 96) (n := 47) d_M_knowing_44 rfl rfl (fun c2 => ?_) (fun c2 => ?_)
    · have h := h.1 c2
      refine am_forget (ls' := [some (.ref q), some (.int p1), some (.int v2), some (.int v3), some (.int (am_b v4)), none, none]) (am_le_s (am_le_s (am_le_s (am_le_s (am_le_s (am_le_n (am_le_n am_le_e))))))) ?_
      exact tb_M_knowing_96 hw hq hK4 hd v2 v3 v4 h
    · have h := h.2 c2
      refine am_iload (n := 49) d_M_knowing_47 rfl rfl ?_
      refine am_if_eq (y := 0) (tgt := 96) (n := 52) d_M_knowing_49 rfl rfl (fun c4 => ?_) (fun c4 => ?_)
      · have h := h.1 (am_b_0 c4)
        refine am_forget (ls' := [some (.ref q), some (.int p1), some (.int v2), some (.int v3), some (.int (am_b v4)), none, none]) (am_le_s (am_le_s (am_le_s (am_le_s (am_le_s (am_le_n (am_le_n am_le_e))))))) ?_
        exact tb_M_knowing_96 hw hq hK4 hd v2 v3 v4 h
      · have h := h.2 (am_b_n0 c4)
        refine am_aload_n (n := 53) d_M_knowing_52 rfl rfl ?_
        refine am_getR (x := (q + 18)) (n := 56) f_M_74 d_M_knowing_53 rfl rfl hq (hw.1 q 12 35 18 hq rfl) ?_
        refine am_iload (n := 58) d_M_knowing_56 rfl rfl ?_
        obtain ⟨g1, h⟩ := h
        refine am_zald2 (n := 59) d_M_knowing_58 rfl (am_sho (k := 35) (o := 18) hq (by decide) (by decide) (by decide) rfl) g1 rfl ?_
        refine am_if_eq (y := 0) (tgt := 90) (n := 62) d_M_knowing_59 rfl rfl (fun c5 => ?_) (fun c5 => ?_)
        · have h := h.1 c5
          refine am_iinc (v := v6 + 1) (ls' := [some (.ref q), some (.int p1), some (.int v2), some (.int v3), some (.int (am_b v4)), some (.int v5), some (.int (v6 + 1))]) (n := 93) d_M_knowing_90 rfl (congrArg _ ci_1) (by decide) rfl rfl ?_
          refine am_goto (tgt := 34) d_M_knowing_93 rfl ?_
          exact ih v2 v3 v4 v5 (v6 + 1)  h
        · have h := h.2 c5
          refine am_iload (n := 64) d_M_knowing_62 rfl rfl ?_
          refine am_iload (n := 66) d_M_knowing_64 rfl rfl ?_
          refine am_ixor (n := 67) d_M_knowing_66 rfl ?_
          refine am_aload_n (n := 68) d_M_knowing_67 rfl rfl ?_
          refine am_getR (x := (q + 20)) (n := 71) f_M_81 d_M_knowing_68 rfl rfl hq (hw.1 q 12 37 20 hq rfl) ?_
          refine am_iload_n (n := 72) d_M_knowing_71 rfl rfl ?_
          obtain ⟨g2, h⟩ := h
          refine am_iald2 (n := 73) d_M_knowing_72 rfl (am_sho (k := 37) (o := 20) hq (by decide) (by decide) (by decide) rfl) g2 rfl ?_
          refine am_iand (n := 74) d_M_knowing_73 rfl ?_
          refine am_if_ne (y := 0) (tgt := 90) (n := 77) d_M_knowing_74 rfl rfl (fun c6 => ?_) (fun c6 => ?_)
          · have h := h.2 c6
            refine am_iinc (v := v6 + 1) (ls' := [some (.ref q), some (.int p1), some (.int v2), some (.int v3), some (.int (am_b v4)), some (.int v5), some (.int (v6 + 1))]) (n := 93) d_M_knowing_90 rfl (congrArg _ ci_1) (by decide) rfl rfl ?_
            refine am_goto (tgt := 34) d_M_knowing_93 rfl ?_
            exact ih v2 v3 v4 v5 (v6 + 1)  h
          · have h := h.1 c6
            refine am_aload_n (n := 78) d_M_knowing_77 rfl rfl ?_
            refine am_iload (n := 80) d_M_knowing_78 rfl rfl ?_
            refine am_iload_n (n := 81) d_M_knowing_80 rfl rfl ?_
            refine am_callV (kc := 0) (ks := 0) (As := [.int v6, .int v3]) (n := 84) d_M_knowing_81 rfl ce_M_isIn lk_M_251 in_M_isIn rfl rfl hq rfl rfl (Nat.le_of_ble_eq_true rfl) (Or.inl rfl) (cm_M_isIn (d := d - 1) hw (by omega) hq h) (by omega) ?_
            rintro _ _ ⟨r2, rfl, rfl, h⟩
            show am_Wp (d, "UnseenRingModel", b_M_knowing, 7, false) 0 0 84 [some (.ref q), some (.int p1), some (.int v2), some (.int v3), some (.int (am_b v4)), some (.int v5), some (.int v6)] [.int (am_b r2)] (I, L, R, am_SH) (po_M_knowing I L R Q)
            refine am_if_ne (y := 0) (tgt := 90) (n := 87) d_M_knowing_84 rfl rfl (fun c7 => ?_) (fun c7 => ?_)
            · have h := h.2 (am_b_n0 c7)
              refine am_iinc (v := v6 + 1) (ls' := [some (.ref q), some (.int p1), some (.int v2), some (.int v3), some (.int (am_b v4)), some (.int v5), some (.int (v6 + 1))]) (n := 93) d_M_knowing_90 rfl (congrArg _ ci_1) (by decide) rfl rfl ?_
              refine am_goto (tgt := 34) d_M_knowing_93 rfl ?_
              exact ih v2 v3 v4 v5 (v6 + 1)  h
            · have h := h.1 (am_b_0 c7)
              refine am_iconst (n := 88) d_M_knowing_87 ci_0 rfl ?_
              refine am_istore (ls' := [some (.ref q), some (.int p1), some (.int v2), some (.int v3), some (.int 0), some (.int v5), some (.int v6)]) (n := 90) d_M_knowing_88 (by decide) rfl rfl ?_
              refine am_iinc (v := v6 + 1) (ls' := [some (.ref q), some (.int p1), some (.int v2), some (.int v3), some (.int 0), some (.int v5), some (.int (v6 + 1))]) (n := 93) d_M_knowing_90 rfl (congrArg _ ci_1) (by decide) rfl rfl ?_
              refine am_goto (tgt := 34) d_M_knowing_93 rfl ?_
              exact ih v2 v3 false v5 (v6 + 1)  h
def wl_M_knowing_4 (I : am_TI) (L : am_TL) (R : am_TR) (q : Nat) (p1 : Int32) (Q : Int32 → Prop)  : Nat → Int32 → Int32 → Prop
  | 0 => fun _ _ => False
  | f4 + 1 => fun v2 v3 => (((I (q + 1) 3) ≤ v3 → Q v2) ∧ (¬ (I (q + 1) 3) ≤ v3 → wp_M_isIn I L R q p1 v3 (fun (r1 : Bool) => (∃ z, wl_M_knowing_34 I L R q p1 Q (wl_M_knowing_4 I L R q p1 Q f4) z v2 v3 r1 (p1 &&& (((1 : Int32) <<< (v3 &&& 31)) ^^^ (-1))) 1))))
set_option maxRecDepth 20000 in
theorem tl_M_knowing_4 {d : Nat}  {I : am_TI} {L : am_TL} {R : am_TR} {q : Nat} {p1 : Int32} {Q : Int32 → Prop}  (hw : am_Wf R) (hq : am_SH[q]? = some (.inl 12)) (hd : 1 ≤ d) : ∀ (n : Nat) (v2 : Int32) (v3 : Int32), wl_M_knowing_4 I L R q p1 Q  n v2 v3 → am_Wp (d, "UnseenRingModel", b_M_knowing, 7, false) 0 0 4 [some (.ref q), some (.int p1), some (.int v2), some (.int v3), none, none, none] [] (I, L, R, am_SH) (po_M_knowing I L R Q) := by
  intro n
  induction n with
  | zero => intro v2 v3 h; exact h.elim
  | succ n ih =>
    intro v2 v3 h
    unfold wl_M_knowing_4 at h
    refine am_iload_n (n := 5) d_M_knowing_4 rfl rfl ?_
    refine am_aload_n (n := 6) d_M_knowing_5 rfl rfl ?_
    refine am_getR (x := (q + 1)) (n := 9) f_M_7 d_M_knowing_6 rfl rfl hq (hw.1 q 12 0 1 hq rfl) ?_
    refine am_iconst (n := 10) d_M_knowing_9 ci_3 rfl ?_
    refine am_iald2 (n := 11) d_M_knowing_10 rfl (am_sho (k := 0) (o := 1) hq (by decide) (by decide) (by decide) rfl) cx_3_2258 cn_3 ?_
    refine am_icmp_ge (tgt := 117) (n := 14) d_M_knowing_11 rfl rfl (fun c1 => ?_) (fun c1 => ?_)
    · have h := h.1 c1
      refine am_iload_n (n := 118) d_M_knowing_117 rfl rfl ?_
      exact am_iret d_M_knowing_118 ⟨v2, rfl, rfl, h⟩
    · have h := h.2 c1
      refine am_aload_n (n := 15) d_M_knowing_14 rfl rfl ?_
      refine am_iload_n (n := 16) d_M_knowing_15 rfl rfl ?_
      refine am_iload_n (n := 17) d_M_knowing_16 rfl rfl ?_
      refine am_callV (kc := 0) (ks := 0) (As := [.int p1, .int v3]) (n := 20) d_M_knowing_17 rfl ce_M_isIn lk_M_251 in_M_isIn rfl rfl hq rfl rfl (Nat.le_of_ble_eq_true rfl) (Or.inl rfl) (cm_M_isIn (d := d - 1) hw (by omega) hq h) (by omega) ?_
      rintro _ _ ⟨r1, rfl, rfl, h⟩
      show am_Wp (d, "UnseenRingModel", b_M_knowing, 7, false) 0 0 20 [some (.ref q), some (.int p1), some (.int v2), some (.int v3), none, none, none] [.int (am_b r1)] (I, L, R, am_SH) (po_M_knowing I L R Q)
      refine am_istore (ls' := [some (.ref q), some (.int p1), some (.int v2), some (.int v3), some (.int (am_b r1)), none, none]) (n := 22) d_M_knowing_20 (by decide) rfl rfl ?_
      refine am_iload_n (n := 23) d_M_knowing_22 rfl rfl ?_
      refine am_iconst (n := 24) d_M_knowing_23 ci_1 rfl ?_
      refine am_iload_n (n := 25) d_M_knowing_24 rfl rfl ?_
      refine am_ishl (n := 26) d_M_knowing_25 rfl ?_
      refine am_iconst (n := 27) d_M_knowing_26 ci_m1 rfl ?_
      refine am_ixor (n := 28) d_M_knowing_27 rfl ?_
      refine am_iand (n := 29) d_M_knowing_28 rfl ?_
      refine am_istore (ls' := [some (.ref q), some (.int p1), some (.int v2), some (.int v3), some (.int (am_b r1)), some (.int (p1 &&& (((1 : Int32) <<< (v3 &&& 31)) ^^^ (-1)))), none]) (n := 31) d_M_knowing_29 (by decide) rfl rfl ?_
      refine am_iconst (n := 32) d_M_knowing_31 ci_1 rfl ?_
      refine am_istore (ls' := [some (.ref q), some (.int p1), some (.int v2), some (.int v3), some (.int (am_b r1)), some (.int (p1 &&& (((1 : Int32) <<< (v3 &&& 31)) ^^^ (-1)))), some (.int 1)]) (n := 34) d_M_knowing_32 (by decide) rfl rfl ?_
      obtain ⟨n, h⟩ := h
      exact tl_M_knowing_34 hw hq ih hd n v2 v3 r1 (p1 &&& (((1 : Int32) <<< (v3 &&& 31)) ^^^ (-1))) 1 h
def wp_M_knowing (I : am_TI) (L : am_TL) (R : am_TR) (q : Nat) (p1 : Int32)  (Q : Int32 → Prop) : Prop := (∃ z, wl_M_knowing_4 I L R q p1 Q z 0 0)
set_option maxRecDepth 20000 in
theorem cm_M_knowing {d : Nat} {I : am_TI} {L : am_TL} {R : am_TR}  (hw : am_Wf R)   {q : Nat} {p1 : Int32} {Q : Int32 → Prop} (hd : 1 ≤ d) (hq : am_SH[q]? = some (.inl 12)) (h : wp_M_knowing I L R q p1  Q) : am_Cm d 0 0 y_M_knowing b_M_knowing 7 (some .int) [.ref q, .int p1] (I, L, R, am_SH) (po_M_knowing I L R Q) := by
  refine am_Cm_of (ini := false) (by decide +kernel) (fun z => by cases z) (by simp [Value.category]) (fun r σ' z => by obtain ⟨x, rfl, -⟩ := z; exact ⟨_, rfl, rfl⟩) ?_
  unfold wp_M_knowing at h
  show am_Wp (d, "UnseenRingModel", b_M_knowing, 7, false) 0 0 0 [some (.ref q), some (.int p1), none, none, none, none, none] [] (I, L, R, am_SH) (po_M_knowing I L R Q)
  refine am_iconst (n := 1) d_M_knowing_0 ci_0 rfl ?_
  refine am_istore_n (ls' := [some (.ref q), some (.int p1), some (.int 0), none, none, none, none]) (n := 2) d_M_knowing_1 (by decide) rfl rfl ?_
  refine am_iconst (n := 3) d_M_knowing_2 ci_0 rfl ?_
  refine am_istore_n (ls' := [some (.ref q), some (.int p1), some (.int 0), some (.int 0), none, none, none]) (n := 4) d_M_knowing_3 (by decide) rfl rfl ?_
  obtain ⟨n, h⟩ := h
  exact tl_M_knowing_4 hw hq hd n 0 0 h
abbrev po_M_laysWorlds (L : am_TL) (R : am_TR) (Q : am_TI → Prop) : Option Value → am_St → Prop := fun r σ' => ∃ (I' : am_TI), r = none ∧ σ' = (I', L, R, am_SH) ∧ Q I'
def wl_M_laysWorlds_43 (L : am_TL) (R : am_TR) (q : Nat) (p1 : Int32) (Q : am_TI → Prop)  : Nat → am_TI → Int32 → Prop
  | 0 => fun _ _ => False
  | f43 + 1 => fun I v2 => (((I (q + 1) 3) ≤ v2 → Q I) ∧ (¬ (I (q + 1) 3) ≤ v2 → wp_M_hearerOf I L R q v2 0 (fun (r1 : Int32) => wp_M_hearersBy I L R q r1 p1 (fun (r2 : Int32) => (vp_in v2 6 ∧ (∀ I1, I1 = am_u2 I (q + 20) (Int32.toNatClampNeg v2) (r2 &&& (((1 : Int32) <<< (v2 &&& 31)) ^^^ (-1))) → wl_M_laysWorlds_43 L R q p1 Q f43 I1 (v2 + 1)))))))
set_option maxRecDepth 20000 in
theorem tl_M_laysWorlds_43 {d : Nat}  {L : am_TL} {R : am_TR} {q : Nat} {p1 : Int32} {Q : am_TI → Prop}  (hw : am_Wf R) (hq : am_SH[q]? = some (.inl 12)) (hd : 3 ≤ d) : ∀ (n : Nat) (I : am_TI) (v2 : Int32), wl_M_laysWorlds_43 L R q p1 Q  n I v2 → am_Wp (d, "UnseenRingModel", b_M_laysWorlds, 3, false) 0 0 43 [some (.ref q), some (.int p1), some (.int v2)] [] (I, L, R, am_SH) (po_M_laysWorlds L R Q) := by
  intro n
  induction n with
  | zero => intro I v2 h; exact h.elim
  | succ n ih =>
    intro I v2 h
    unfold wl_M_laysWorlds_43 at h
    refine am_iload_n (n := 44) d_M_laysWorlds_43 rfl rfl ?_
    refine am_aload_n (n := 45) d_M_laysWorlds_44 rfl rfl ?_
    refine am_getR (x := (q + 1)) (n := 48) f_M_7 d_M_laysWorlds_45 rfl rfl hq (hw.1 q 12 0 1 hq rfl) ?_
    refine am_iconst (n := 49) d_M_laysWorlds_48 ci_3 rfl ?_
    refine am_iald2 (n := 50) d_M_laysWorlds_49 rfl (am_sho (k := 0) (o := 1) hq (by decide) (by decide) (by decide) rfl) cx_3_2258 cn_3 ?_
    refine am_icmp_ge (tgt := 82) (n := 53) d_M_laysWorlds_50 rfl rfl (fun c2 => ?_) (fun c2 => ?_)
    · have h := h.1 c2
      exact am_vret d_M_laysWorlds_82 ⟨I, rfl, rfl, h⟩
    · have h := h.2 c2
      refine am_aload_n (n := 54) d_M_laysWorlds_53 rfl rfl ?_
      refine am_getR (x := (q + 20)) (n := 57) f_M_81 d_M_laysWorlds_54 rfl rfl hq (hw.1 q 12 37 20 hq rfl) ?_
      refine am_iload_n (n := 58) d_M_laysWorlds_57 rfl rfl ?_
      refine am_aload_n (n := 59) d_M_laysWorlds_58 rfl rfl ?_
      refine am_aload_n (n := 60) d_M_laysWorlds_59 rfl rfl ?_
      refine am_iload_n (n := 61) d_M_laysWorlds_60 rfl rfl ?_
      refine am_iconst (n := 62) d_M_laysWorlds_61 ci_0 rfl ?_
      refine am_callV (kc := 0) (ks := 0) (As := [.int v2, .int 0]) (n := 65) d_M_laysWorlds_62 rfl ce_M_hearerOf lk_M_313 in_M_hearerOf rfl rfl hq rfl rfl (Nat.le_of_ble_eq_true rfl) (Or.inl rfl) (cm_M_hearerOf (d := d - 1) hw (by omega) hq h) (by omega) ?_
      rintro _ _ ⟨r1, rfl, rfl, h⟩
      show am_Wp (d, "UnseenRingModel", b_M_laysWorlds, 3, false) 0 0 65 [some (.ref q), some (.int p1), some (.int v2)] [.int r1, .ref q, .int v2, .ref (q + 20)] (I, L, R, am_SH) (po_M_laysWorlds L R Q)
      refine am_iload_n (n := 66) d_M_laysWorlds_65 rfl rfl ?_
      refine am_callV (kc := 0) (ks := 0) (As := [.int r1, .int p1]) (n := 69) d_M_laysWorlds_66 rfl ce_M_hearersBy lk_M_337 in_M_hearersBy rfl rfl hq rfl rfl (Nat.le_of_ble_eq_true rfl) (Or.inl rfl) (cm_M_hearersBy (d := d - 1) hw (by omega) hq h) (by omega) ?_
      rintro _ _ ⟨r2, rfl, rfl, h⟩
      show am_Wp (d, "UnseenRingModel", b_M_laysWorlds, 3, false) 0 0 69 [some (.ref q), some (.int p1), some (.int v2)] [.int r2, .int v2, .ref (q + 20)] (I, L, R, am_SH) (po_M_laysWorlds L R Q)
      refine am_iconst (n := 70) d_M_laysWorlds_69 ci_1 rfl ?_
      refine am_iload_n (n := 71) d_M_laysWorlds_70 rfl rfl ?_
      refine am_ishl (n := 72) d_M_laysWorlds_71 rfl ?_
      refine am_iconst (n := 73) d_M_laysWorlds_72 ci_m1 rfl ?_
      refine am_ixor (n := 74) d_M_laysWorlds_73 rfl ?_
      refine am_iand (n := 75) d_M_laysWorlds_74 rfl ?_
      obtain ⟨g1, h⟩ := h
      refine am_iast2 (n := 76) d_M_laysWorlds_75 rfl (am_sho (k := 37) (o := 20) hq (by decide) (by decide) (by decide) rfl) g1 rfl ?_
      generalize eI1 : am_u2 I (q + 20) (Int32.toNatClampNeg v2) (r2 &&& (((1 : Int32) <<< (v2 &&& 31)) ^^^ (-1))) = I1
      have h := h I1 eI1.symm
      refine am_iinc (v := v2 + 1) (ls' := [some (.ref q), some (.int p1), some (.int (v2 + 1))]) (n := 79) d_M_laysWorlds_76 rfl (congrArg _ ci_1) (by decide) rfl rfl ?_
      refine am_goto (tgt := 43) d_M_laysWorlds_79 rfl ?_
      exact ih I1 (v2 + 1)  h
def wl_M_laysWorlds_2 (L : am_TL) (R : am_TR) (q : Nat) (p1 : Int32) (Q : am_TI → Prop)  : Nat → am_TI → Int32 → Prop
  | 0 => fun _ _ => False
  | f2 + 1 => fun I v2 => ((64 ≤ v2 → (∃ z, wl_M_laysWorlds_43 L R q p1 Q z I 0)) ∧ (¬ 64 ≤ v2 → ((v2 ≤ 0 → (vp_in v2 64 ∧ (∀ I2, I2 = am_u2 I (q + 18) (Int32.toNatClampNeg v2) (vp_nar .boolean 0) → wl_M_laysWorlds_2 L R q p1 Q f2 I2 (v2 + 1)))) ∧ (¬ v2 ≤ 0 → ((((1 : Int32) <<< ((I (q + 1) 3) &&& 31)) ≤ v2 → (vp_in v2 64 ∧ (∀ I3, I3 = am_u2 I (q + 18) (Int32.toNatClampNeg v2) (vp_nar .boolean 0) → wl_M_laysWorlds_2 L R q p1 Q f2 I3 (v2 + 1)))) ∧ (¬ ((1 : Int32) <<< ((I (q + 1) 3) &&& 31)) ≤ v2 → (vp_in v2 64 ∧ (∀ I4, I4 = am_u2 I (q + 18) (Int32.toNatClampNeg v2) (vp_nar .boolean 1) → wl_M_laysWorlds_2 L R q p1 Q f2 I4 (v2 + 1)))))))))
set_option maxRecDepth 20000 in
theorem tl_M_laysWorlds_2 {d : Nat}  {L : am_TL} {R : am_TR} {q : Nat} {p1 : Int32} {Q : am_TI → Prop}  (hw : am_Wf R) (hq : am_SH[q]? = some (.inl 12)) (hd : 3 ≤ d) : ∀ (n : Nat) (I : am_TI) (v2 : Int32), wl_M_laysWorlds_2 L R q p1 Q  n I v2 → am_Wp (d, "UnseenRingModel", b_M_laysWorlds, 3, false) 0 0 2 [some (.ref q), some (.int p1), some (.int v2)] [] (I, L, R, am_SH) (po_M_laysWorlds L R Q) := by
  intro n
  induction n with
  | zero => intro I v2 h; exact h.elim
  | succ n ih =>
    intro I v2 h
    unfold wl_M_laysWorlds_2 at h
    refine am_iload_n (n := 3) d_M_laysWorlds_2 rfl rfl ?_
    refine am_bipush (n := 5) d_M_laysWorlds_3 cb_64 rfl ?_
    refine am_icmp_ge (tgt := 41) (n := 8) d_M_laysWorlds_5 rfl rfl (fun c1 => ?_) (fun c1 => ?_)
    · have h := h.1 c1
      refine am_iconst (n := 42) d_M_laysWorlds_41 ci_0 rfl ?_
      refine am_istore_n (ls' := [some (.ref q), some (.int p1), some (.int 0)]) (n := 43) d_M_laysWorlds_42 (by decide) rfl rfl ?_
      obtain ⟨n, h⟩ := h
      exact tl_M_laysWorlds_43 hw hq hd n I 0 h
    · have h := h.2 c1
      refine am_aload_n (n := 9) d_M_laysWorlds_8 rfl rfl ?_
      refine am_getR (x := (q + 18)) (n := 12) f_M_74 d_M_laysWorlds_9 rfl rfl hq (hw.1 q 12 35 18 hq rfl) ?_
      refine am_iload_n (n := 13) d_M_laysWorlds_12 rfl rfl ?_
      refine am_iload_n (n := 14) d_M_laysWorlds_13 rfl rfl ?_
      refine am_if_le (y := 0) (tgt := 33) (n := 17) d_M_laysWorlds_14 rfl rfl (fun c3 => ?_) (fun c3 => ?_)
      · have h := h.1 c3
        refine am_iconst (n := 34) d_M_laysWorlds_33 ci_0 rfl ?_
        obtain ⟨g2, h⟩ := h
        refine am_zast2 (n := 35) d_M_laysWorlds_34 rfl (am_sho (k := 35) (o := 18) hq (by decide) (by decide) (by decide) rfl) g2 rfl ?_
        generalize eI2 : am_u2 I (q + 18) (Int32.toNatClampNeg v2) (vp_nar .boolean 0) = I2
        have h := h I2 eI2.symm
        refine am_iinc (v := v2 + 1) (ls' := [some (.ref q), some (.int p1), some (.int (v2 + 1))]) (n := 38) d_M_laysWorlds_35 rfl (congrArg _ ci_1) (by decide) rfl rfl ?_
        refine am_goto (tgt := 2) d_M_laysWorlds_38 rfl ?_
        exact ih I2 (v2 + 1)  h
      · have h := h.2 c3
        refine am_iload_n (n := 18) d_M_laysWorlds_17 rfl rfl ?_
        refine am_iconst (n := 19) d_M_laysWorlds_18 ci_1 rfl ?_
        refine am_aload_n (n := 20) d_M_laysWorlds_19 rfl rfl ?_
        refine am_getR (x := (q + 1)) (n := 23) f_M_7 d_M_laysWorlds_20 rfl rfl hq (hw.1 q 12 0 1 hq rfl) ?_
        refine am_iconst (n := 24) d_M_laysWorlds_23 ci_3 rfl ?_
        refine am_iald2 (n := 25) d_M_laysWorlds_24 rfl (am_sho (k := 0) (o := 1) hq (by decide) (by decide) (by decide) rfl) cx_3_2258 cn_3 ?_
        refine am_ishl (n := 26) d_M_laysWorlds_25 rfl ?_
        refine am_icmp_ge (tgt := 33) (n := 29) d_M_laysWorlds_26 rfl rfl (fun c4 => ?_) (fun c4 => ?_)
        · have h := h.1 c4
          refine am_iconst (n := 34) d_M_laysWorlds_33 ci_0 rfl ?_
          obtain ⟨g3, h⟩ := h
          refine am_zast2 (n := 35) d_M_laysWorlds_34 rfl (am_sho (k := 35) (o := 18) hq (by decide) (by decide) (by decide) rfl) g3 rfl ?_
          generalize eI3 : am_u2 I (q + 18) (Int32.toNatClampNeg v2) (vp_nar .boolean 0) = I3
          have h := h I3 eI3.symm
          refine am_iinc (v := v2 + 1) (ls' := [some (.ref q), some (.int p1), some (.int (v2 + 1))]) (n := 38) d_M_laysWorlds_35 rfl (congrArg _ ci_1) (by decide) rfl rfl ?_
          refine am_goto (tgt := 2) d_M_laysWorlds_38 rfl ?_
          exact ih I3 (v2 + 1)  h
        · have h := h.2 c4
          refine am_iconst (n := 30) d_M_laysWorlds_29 ci_1 rfl ?_
          refine am_goto (tgt := 34) d_M_laysWorlds_30 rfl ?_
          obtain ⟨g4, h⟩ := h
          refine am_zast2 (n := 35) d_M_laysWorlds_34 rfl (am_sho (k := 35) (o := 18) hq (by decide) (by decide) (by decide) rfl) g4 rfl ?_
          generalize eI4 : am_u2 I (q + 18) (Int32.toNatClampNeg v2) (vp_nar .boolean 1) = I4
          have h := h I4 eI4.symm
          refine am_iinc (v := v2 + 1) (ls' := [some (.ref q), some (.int p1), some (.int (v2 + 1))]) (n := 38) d_M_laysWorlds_35 rfl (congrArg _ ci_1) (by decide) rfl rfl ?_
          refine am_goto (tgt := 2) d_M_laysWorlds_38 rfl ?_
          exact ih I4 (v2 + 1)  h
def wp_M_laysWorlds (I : am_TI) (L : am_TL) (R : am_TR) (q : Nat) (p1 : Int32)  (Q : am_TI → Prop) : Prop := (∃ z, wl_M_laysWorlds_2 L R q p1 Q z I 0)
set_option maxRecDepth 20000 in
theorem cm_M_laysWorlds {d : Nat} {I : am_TI} {L : am_TL} {R : am_TR}  (hw : am_Wf R)   {q : Nat} {p1 : Int32} {Q : am_TI → Prop} (hd : 3 ≤ d) (hq : am_SH[q]? = some (.inl 12)) (h : wp_M_laysWorlds I L R q p1  Q) : am_Cm d 0 0 y_M_laysWorlds b_M_laysWorlds 3 (none) [.ref q, .int p1] (I, L, R, am_SH) (po_M_laysWorlds L R Q) := by
  refine am_Cm_of (ini := false) (by decide +kernel) (fun z => by cases z) (by simp [Value.category]) (fun r σ' z => by obtain ⟨_, rfl, -⟩ := z; rfl) ?_
  unfold wp_M_laysWorlds at h
  show am_Wp (d, "UnseenRingModel", b_M_laysWorlds, 3, false) 0 0 0 [some (.ref q), some (.int p1), none] [] (I, L, R, am_SH) (po_M_laysWorlds L R Q)
  refine am_iconst (n := 1) d_M_laysWorlds_0 ci_0 rfl ?_
  refine am_istore_n (ls' := [some (.ref q), some (.int p1), some (.int 0)]) (n := 2) d_M_laysWorlds_1 (by decide) rfl rfl ?_
  obtain ⟨n, h⟩ := h
  exact tl_M_laysWorlds_2 hw hq hd n I 0 h
