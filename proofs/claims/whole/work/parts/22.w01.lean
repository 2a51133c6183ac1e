abbrev po_M_plain (L : am_TL) (R : am_TR) (Q : am_TI → Prop) : Option Value → am_St → Prop := fun r σ' => ∃ (I' : am_TI), r = none ∧ σ' = (I', L, R, am_SH) ∧ Q I'
def wl_M_plain_2 (L : am_TL) (R : am_TR) (q : Nat) (p1 : Int32) (Q : am_TI → Prop)  : Nat → am_TI → Int32 → Prop
  | 0 => fun _ _ => False
  | f2 + 1 => fun I v2 => ((406 ≤ v2 → (vp_in (p1 + 0) 2258 ∧ (∀ I1, I1 = am_u2 I (q + 1) (Int32.toNatClampNeg (p1 + 0)) 4 → (vp_in (p1 + 1) 2258 ∧ (∀ I2, I2 = am_u2 I1 (q + 1) (Int32.toNatClampNeg (p1 + 1)) 4 → (vp_in (p1 + 5) 2258 ∧ (∀ I3, I3 = am_u2 I2 (q + 1) (Int32.toNatClampNeg (p1 + 5)) 8 → (vp_in (p1 + 7) 2258 ∧ (∀ I4, I4 = am_u2 I3 (q + 1) (Int32.toNatClampNeg (p1 + 7)) (-1) → Q I4))))))))) ∧ (¬ 406 ≤ v2 → (vp_in (p1 + v2) 2258 ∧ (∀ I5, I5 = am_u2 I (q + 1) (Int32.toNatClampNeg (p1 + v2)) 0 → wl_M_plain_2 L R q p1 Q f2 I5 (v2 + 1)))))
set_option maxRecDepth 20000 in
theorem tl_M_plain_2 {d : Nat}  {L : am_TL} {R : am_TR} {q : Nat} {p1 : Int32} {Q : am_TI → Prop}  (hw : am_Wf R) (hq : am_SH[q]? = some (.inl 12)) (hd : 0 ≤ d) : ∀ (n : Nat) (I : am_TI) (v2 : Int32), wl_M_plain_2 L R q p1 Q  n I v2 → am_Wp (d, "UnseenRingModel", b_M_plain, 3, false) 0 0 2 [some (.ref q), some (.int p1), some (.int v2)] [] (I, L, R, am_SH) (po_M_plain L R Q) := by
  intro n
  induction n with
  | zero => intro I v2 h; exact h.elim
  | succ n ih =>
    intro I v2 h
    unfold wl_M_plain_2 at h
    refine am_iload_n (n := 3) d_M_plain_2 rfl rfl ?_
    refine am_sipush (n := 6) d_M_plain_3 cs_406 rfl ?_
    refine am_icmp_ge (tgt := 24) (n := 9) d_M_plain_6 rfl rfl (fun c1 => ?_) (fun c1 => ?_)
    · have h := h.1 c1
      refine am_aload_n (n := 25) d_M_plain_24 rfl rfl ?_
      refine am_getR (x := (q + 1)) (n := 28) f_M_7 d_M_plain_25 rfl rfl hq (hw.1 q 12 0 1 hq rfl) ?_
      refine am_iload_n (n := 29) d_M_plain_28 rfl rfl ?_
      refine am_iconst (n := 30) d_M_plain_29 ci_0 rfl ?_
      refine am_iadd (n := 31) d_M_plain_30 rfl ?_
      refine am_iconst (n := 32) d_M_plain_31 ci_4 rfl ?_
      obtain ⟨g1, h⟩ := h
      refine am_iast2 (n := 33) d_M_plain_32 rfl (am_sho (k := 0) (o := 1) hq (by decide) (by decide) (by decide) rfl) g1 rfl ?_
      generalize eI1 : am_u2 I (q + 1) (Int32.toNatClampNeg (p1 + 0)) 4 = I1
      have h := h I1 eI1.symm
      refine am_aload_n (n := 34) d_M_plain_33 rfl rfl ?_
      refine am_getR (x := (q + 1)) (n := 37) f_M_7 d_M_plain_34 rfl rfl hq (hw.1 q 12 0 1 hq rfl) ?_
      refine am_iload_n (n := 38) d_M_plain_37 rfl rfl ?_
      refine am_iconst (n := 39) d_M_plain_38 ci_1 rfl ?_
      refine am_iadd (n := 40) d_M_plain_39 rfl ?_
      refine am_iconst (n := 41) d_M_plain_40 ci_4 rfl ?_
      obtain ⟨g2, h⟩ := h
      refine am_iast2 (n := 42) d_M_plain_41 rfl (am_sho (k := 0) (o := 1) hq (by decide) (by decide) (by decide) rfl) g2 rfl ?_
      generalize eI2 : am_u2 I1 (q + 1) (Int32.toNatClampNeg (p1 + 1)) 4 = I2
      have h := h I2 eI2.symm
      refine am_aload_n (n := 43) d_M_plain_42 rfl rfl ?_
      refine am_getR (x := (q + 1)) (n := 46) f_M_7 d_M_plain_43 rfl rfl hq (hw.1 q 12 0 1 hq rfl) ?_
      refine am_iload_n (n := 47) d_M_plain_46 rfl rfl ?_
      refine am_iconst (n := 48) d_M_plain_47 ci_5 rfl ?_
      refine am_iadd (n := 49) d_M_plain_48 rfl ?_
      refine am_bipush (n := 51) d_M_plain_49 cb_8 rfl ?_
      obtain ⟨g3, h⟩ := h
      refine am_iast2 (n := 52) d_M_plain_51 rfl (am_sho (k := 0) (o := 1) hq (by decide) (by decide) (by decide) rfl) g3 rfl ?_
      generalize eI3 : am_u2 I2 (q + 1) (Int32.toNatClampNeg (p1 + 5)) 8 = I3
      have h := h I3 eI3.symm
      refine am_aload_n (n := 53) d_M_plain_52 rfl rfl ?_
      refine am_getR (x := (q + 1)) (n := 56) f_M_7 d_M_plain_53 rfl rfl hq (hw.1 q 12 0 1 hq rfl) ?_
      refine am_iload_n (n := 57) d_M_plain_56 rfl rfl ?_
      refine am_bipush (n := 59) d_M_plain_57 cb_7 rfl ?_
      refine am_iadd (n := 60) d_M_plain_59 rfl ?_
      refine am_iconst (n := 61) d_M_plain_60 ci_m1 rfl ?_
      obtain ⟨g4, h⟩ := h
      refine am_iast2 (n := 62) d_M_plain_61 rfl (am_sho (k := 0) (o := 1) hq (by decide) (by decide) (by decide) rfl) g4 rfl ?_
      generalize eI4 : am_u2 I3 (q + 1) (Int32.toNatClampNeg (p1 + 7)) (-1) = I4
      have h := h I4 eI4.symm
      exact am_vret d_M_plain_62 ⟨I4, rfl, rfl, h⟩
    · have h := h.2 c1
      refine am_aload_n (n := 10) d_M_plain_9 rfl rfl ?_
      refine am_getR (x := (q + 1)) (n := 13) f_M_7 d_M_plain_10 rfl rfl hq (hw.1 q 12 0 1 hq rfl) ?_
      refine am_iload_n (n := 14) d_M_plain_13 rfl rfl ?_
      refine am_iload_n (n := 15) d_M_plain_14 rfl rfl ?_
      refine am_iadd (n := 16) d_M_plain_15 rfl ?_
      refine am_iconst (n := 17) d_M_plain_16 ci_0 rfl ?_
      obtain ⟨g5, h⟩ := h
      refine am_iast2 (n := 18) d_M_plain_17 rfl (am_sho (k := 0) (o := 1) hq (by decide) (by decide) (by decide) rfl) g5 rfl ?_
      generalize eI5 : am_u2 I (q + 1) (Int32.toNatClampNeg (p1 + v2)) 0 = I5
      have h := h I5 eI5.symm
      refine am_iinc (v := v2 + 1) (ls' := [some (.ref q), some (.int p1), some (.int (v2 + 1))]) (n := 21) d_M_plain_18 rfl (congrArg _ ci_1) (by decide) rfl rfl ?_
      refine am_goto (tgt := 2) d_M_plain_21 rfl ?_
      exact ih I5 (v2 + 1)  h
def wp_M_plain (I : am_TI) (L : am_TL) (R : am_TR) (q : Nat) (p1 : Int32)  (Q : am_TI → Prop) : Prop := (∃ z, wl_M_plain_2 L R q p1 Q z I 0)
set_option maxRecDepth 20000 in
theorem cm_M_plain {d : Nat} {I : am_TI} {L : am_TL} {R : am_TR}  (hw : am_Wf R)   {q : Nat} {p1 : Int32} {Q : am_TI → Prop} (hd : 0 ≤ d) (hq : am_SH[q]? = some (.inl 12)) (h : wp_M_plain I L R q p1  Q) : am_Cm d 0 0 y_M_plain b_M_plain 3 (none) [.ref q, .int p1] (I, L, R, am_SH) (po_M_plain L R Q) := by
  refine am_Cm_of (ini := false) (by decide +kernel) (fun z => by cases z) (by simp [Value.category]) (fun r σ' z => by obtain ⟨_, rfl, -⟩ := z; rfl) ?_
  unfold wp_M_plain at h
  show am_Wp (d, "UnseenRingModel", b_M_plain, 3, false) 0 0 0 [some (.ref q), some (.int p1), none] [] (I, L, R, am_SH) (po_M_plain L R Q)
  refine am_iconst (n := 1) d_M_plain_0 ci_0 rfl ?_
  refine am_istore_n (ls' := [some (.ref q), some (.int p1), some (.int 0)]) (n := 2) d_M_plain_1 (by decide) rfl rfl ?_
  obtain ⟨n, h⟩ := h
  exact tl_M_plain_2 hw hq hd n I 0 h
abbrev po_M_status (I : am_TI) (L : am_TL) (R : am_TR) (Q : Int32 → Prop) : Option Value → am_St → Prop := fun r σ' => ∃ (x : Int32), r = some (.int x) ∧ σ' = (I, L, R, am_SH) ∧ Q x
def wp_M_status (I : am_TI) (L : am_TL) (R : am_TR) (q : Nat)  (Q : Int32 → Prop) : Prop := Q (I q 2)
set_option maxRecDepth 20000 in
theorem cm_M_status {d : Nat} {I : am_TI} {L : am_TL} {R : am_TR}  (hw : am_Wf R)   {q : Nat} {Q : Int32 → Prop} (hd : 0 ≤ d) (hq : am_SH[q]? = some (.inl 12)) (h : wp_M_status I L R q  Q) : am_Cm d 0 0 y_M_status b_M_status 1 (some .int) [.ref q] (I, L, R, am_SH) (po_M_status I L R Q) := by
  refine am_Cm_of (ini := false) (by decide +kernel) (fun z => by cases z) (by simp [Value.category]) (fun r σ' z => by obtain ⟨x, rfl, -⟩ := z; exact ⟨_, rfl, rfl⟩) ?_
  unfold wp_M_status at h
  show am_Wp (d, "UnseenRingModel", b_M_status, 1, false) 0 0 0 [some (.ref q)] [] (I, L, R, am_SH) (po_M_status I L R Q)
  refine am_aload_n (n := 1) d_M_status_0 rfl rfl ?_
  refine am_getI (n := 4) f_M_115 d_M_status_1 rfl rfl hq ?_
  exact am_iret d_M_status_4 ⟨(I q 2), rfl, rfl, h⟩
abbrev po_M_top (I : am_TI) (L : am_TL) (R : am_TR) (Q : Int64 → Prop) : Option Value → am_St → Prop := fun r σ' => ∃ (x : Int64), r = some (.long x) ∧ σ' = (I, L, R, am_SH) ∧ Q x
def wp_M_top (I : am_TI) (L : am_TL) (R : am_TR) (q : Nat)  (Q : Int64 → Prop) : Prop := Q (L q 3)
set_option maxRecDepth 20000 in
theorem cm_M_top {d : Nat} {I : am_TI} {L : am_TL} {R : am_TR}  (hw : am_Wf R)   {q : Nat} {Q : Int64 → Prop} (hd : 0 ≤ d) (hq : am_SH[q]? = some (.inl 12)) (h : wp_M_top I L R q  Q) : am_Cm d 0 0 y_M_top b_M_top 1 (some .long) [.ref q] (I, L, R, am_SH) (po_M_top I L R Q) := by
  refine am_Cm_of (ini := false) (by decide +kernel) (fun z => by cases z) (by simp [Value.category]) (fun r σ' z => by obtain ⟨_, rfl, -⟩ := z; rfl) ?_
  unfold wp_M_top at h
  show am_Wp (d, "UnseenRingModel", b_M_top, 1, false) 0 0 0 [some (.ref q)] [] (I, L, R, am_SH) (po_M_top I L R Q)
  refine am_aload_n (n := 1) d_M_top_0 rfl rfl ?_
  refine am_getL (n := 4) f_M_118 d_M_top_1 rfl rfl hq ?_
  exact am_lret d_M_top_4 ⟨(L q 3), rfl, rfl, h⟩
abbrev po_M_bottom (I : am_TI) (L : am_TL) (R : am_TR) (Q : Int64 → Prop) : Option Value → am_St → Prop := fun r σ' => ∃ (x : Int64), r = some (.long x) ∧ σ' = (I, L, R, am_SH) ∧ Q x
def wp_M_bottom (I : am_TI) (L : am_TL) (R : am_TR) (q : Nat)  (Q : Int64 → Prop) : Prop := Q (L q 4)
set_option maxRecDepth 20000 in
theorem cm_M_bottom {d : Nat} {I : am_TI} {L : am_TL} {R : am_TR}  (hw : am_Wf R)   {q : Nat} {Q : Int64 → Prop} (hd : 0 ≤ d) (hq : am_SH[q]? = some (.inl 12)) (h : wp_M_bottom I L R q  Q) : am_Cm d 0 0 y_M_bottom b_M_bottom 1 (some .long) [.ref q] (I, L, R, am_SH) (po_M_bottom I L R Q) := by
  refine am_Cm_of (ini := false) (by decide +kernel) (fun z => by cases z) (by simp [Value.category]) (fun r σ' z => by obtain ⟨_, rfl, -⟩ := z; rfl) ?_
  unfold wp_M_bottom at h
  show am_Wp (d, "UnseenRingModel", b_M_bottom, 1, false) 0 0 0 [some (.ref q)] [] (I, L, R, am_SH) (po_M_bottom I L R Q)
  refine am_aload_n (n := 1) d_M_bottom_0 rfl rfl ?_
  refine am_getL (n := 4) f_M_17 d_M_bottom_1 rfl rfl hq ?_
  exact am_lret d_M_bottom_4 ⟨(L q 4), rfl, rfl, h⟩
abbrev po_M_is (L : am_TL) (R : am_TR) (Q : Bool → am_TI → Prop) : Option Value → am_St → Prop := fun r σ' => ∃ (x : Bool) (I' : am_TI), r = some (.int (am_b x)) ∧ σ' = (I', L, R, am_SH) ∧ Q x I'
def wp_M_is (I : am_TI) (L : am_TL) (R : am_TR) (q : Nat) (p1 : Int32)  (Q : Bool → am_TI → Prop) : Prop := (∀ I1, I1 = am_u2 I q 2 p1 → ((p1 = 0 → Q true I1) ∧ (¬ p1 = 0 → Q false I1)))
set_option maxRecDepth 20000 in
theorem cm_M_is {d : Nat} {I : am_TI} {L : am_TL} {R : am_TR}  (hw : am_Wf R)   {q : Nat} {p1 : Int32} {Q : Bool → am_TI → Prop} (hd : 0 ≤ d) (hq : am_SH[q]? = some (.inl 12)) (h : wp_M_is I L R q p1  Q) : am_Cm d 0 0 y_M_is b_M_is 2 (some .boolean) [.ref q, .int p1] (I, L, R, am_SH) (po_M_is L R Q) := by
  refine am_Cm_of (ini := false) (by decide +kernel) (fun z => by cases z) (by simp [Value.category]) (fun r σ' z => by obtain ⟨x, _, rfl, -⟩ := z; exact ⟨_, rfl, am_b_nar x⟩) ?_
  unfold wp_M_is at h
  show am_Wp (d, "UnseenRingModel", b_M_is, 2, false) 0 0 0 [some (.ref q), some (.int p1)] [] (I, L, R, am_SH) (po_M_is L R Q)
  refine am_aload_n (n := 1) d_M_is_0 rfl rfl ?_
  refine am_iload_n (n := 2) d_M_is_1 rfl rfl ?_
  refine am_putI (n := 5) f_M_115 d_M_is_2 rfl ⟨_, rfl, Or.inl rfl⟩ rfl rfl hq ?_
  generalize eI1 : am_u2 I q 2 p1 = I1
  have h := h I1 eI1.symm
  refine am_iload_n (n := 6) d_M_is_5 rfl rfl ?_
  refine am_if_ne (y := 0) (tgt := 13) (n := 9) d_M_is_6 rfl rfl (fun c1 => ?_) (fun c1 => ?_)
  · have h := h.2 c1
    refine am_iconst (n := 14) d_M_is_13 ci_0 rfl ?_
    exact am_iret d_M_is_14 ⟨false, I1, rfl, rfl, h⟩
  · have h := h.1 c1
    refine am_iconst (n := 10) d_M_is_9 ci_1 rfl ?_
    refine am_goto (tgt := 14) d_M_is_10 rfl ?_
    exact am_iret d_M_is_14 ⟨true, I1, rfl, rfl, h⟩
abbrev po_M_isTray (I : am_TI) (L : am_TL) (R : am_TR) (Q : Bool → Prop) : Option Value → am_St → Prop := fun r σ' => ∃ (x : Bool), r = some (.int (am_b x)) ∧ σ' = (I, L, R, am_SH) ∧ Q x
def wp_M_isTray (I : am_TI) (L : am_TL) (R : am_TR) (p0 : Int32)  (Q : Bool → Prop) : Prop := ((p0 < 0 → Q false) ∧ (¬ p0 < 0 → ((4 ≤ p0 → Q false) ∧ (¬ 4 ≤ p0 → Q true))))
set_option maxRecDepth 20000 in
theorem cm_M_isTray {d : Nat} {I : am_TI} {L : am_TL} {R : am_TR}  (hw : am_Wf R)   {p0 : Int32} {Q : Bool → Prop} (hd : 0 ≤ d)  (h : wp_M_isTray I L R p0  Q) : am_Cm d 0 0 y_M_isTray b_M_isTray 1 (some .boolean) [.int p0] (I, L, R, am_SH) (po_M_isTray I L R Q) := by
  refine am_Cm_of (ini := false) (by decide +kernel) (fun z => by cases z) (by simp [Value.category]) (fun r σ' z => by obtain ⟨x, rfl, -⟩ := z; exact ⟨_, rfl, am_b_nar x⟩) ?_
  unfold wp_M_isTray at h
  show am_Wp (d, "UnseenRingModel", b_M_isTray, 1, false) 0 0 0 [some (.int p0)] [] (I, L, R, am_SH) (po_M_isTray I L R Q)
  refine am_iload_n (n := 1) d_M_isTray_0 rfl rfl ?_
  refine am_if_lt (y := 0) (tgt := 13) (n := 4) d_M_isTray_1 rfl rfl (fun c1 => ?_) (fun c1 => ?_)
  · have h := h.1 c1
    refine am_iconst (n := 14) d_M_isTray_13 ci_0 rfl ?_
    exact am_iret d_M_isTray_14 ⟨false, rfl, rfl, h⟩
  · have h := h.2 c1
    refine am_iload_n (n := 5) d_M_isTray_4 rfl rfl ?_
    refine am_iconst (n := 6) d_M_isTray_5 ci_4 rfl ?_
    refine am_icmp_ge (tgt := 13) (n := 9) d_M_isTray_6 rfl rfl (fun c2 => ?_) (fun c2 => ?_)
    · have h := h.1 c2
      refine am_iconst (n := 14) d_M_isTray_13 ci_0 rfl ?_
      exact am_iret d_M_isTray_14 ⟨false, rfl, rfl, h⟩
    · have h := h.2 c2
      refine am_iconst (n := 10) d_M_isTray_9 ci_1 rfl ?_
      refine am_goto (tgt := 14) d_M_isTray_10 rfl ?_
      exact am_iret d_M_isTray_14 ⟨true, rfl, rfl, h⟩
abbrev po_M_tray (R : am_TR) (Q : Bool → am_TI → am_TL → Prop) : Option Value → am_St → Prop := fun r σ' => ∃ (x : Bool) (I' : am_TI) (L' : am_TL), r = some (.int (am_b x)) ∧ σ' = (I', L', R, am_SH) ∧ Q x I' L'
def wb_M_tray_26 (R : am_TR) (q : Nat) (p1 : Int32) (p2 : Int32) (p3 : Int32) (Q : Bool → am_TI → am_TL → Prop)  (I : am_TI) (L : am_TL) : Prop := wp_M_is I L R q 1 (fun (r2 : Bool) (I1 : am_TI) => Q r2 I1 L)
set_option maxRecDepth 20000 in
theorem tb_M_tray_26 {d : Nat}  {R : am_TR} {q : Nat} {p1 : Int32} {p2 : Int32} {p3 : Int32} {Q : Bool → am_TI → am_TL → Prop}  (hw : am_Wf R) (hq : am_SH[q]? = some (.inl 12)) (hd : 1 ≤ d) (I : am_TI) (L : am_TL) (h : wb_M_tray_26 R q p1 p2 p3 Q  I L) : am_Wp (d, "UnseenRingModel", b_M_tray, 5, false) 0 0 26 [some (.ref q), some (.int p1), some (.int p2), some (.int p3), none] [] (I, L, R, am_SH) (po_M_tray R Q) := by
  unfold wb_M_tray_26 at h
  refine am_aload_n (n := 27) d_M_tray_26 rfl rfl ?_
  refine am_iconst (n := 28) d_M_tray_27 ci_1 rfl ?_
  refine am_callV (kc := 0) (ks := 0) (As := [.int 1]) (n := 31) d_M_tray_28 rfl ce_M_is lk_M_128 in_M_is rfl rfl hq rfl rfl (Nat.le_of_ble_eq_true rfl) (Or.inl rfl) (cm_M_is (d := d - 1) hw (by omega) hq h) (by omega) ?_
  rintro _ _ ⟨r2, I1, rfl, rfl, h⟩
  show am_Wp (d, "UnseenRingModel", b_M_tray, 5, false) 0 0 31 [some (.ref q), some (.int p1), some (.int p2), some (.int p3), none] [.int (am_b r2)] (I1, L, R, am_SH) (po_M_tray R Q)
  exact am_iret d_M_tray_31 ⟨r2, I1, L, rfl, rfl, h⟩
def wl_M_tray_49 (R : am_TR) (q : Nat) (p1 : Int32) (p2 : Int32) (p3 : Int32) (Q : Bool → am_TI → am_TL → Prop)  : Nat → am_TI → am_TL → Int32 → Prop
  | 0 => fun _ _ _ => False
  | f49 + 1 => fun I L v4 => ((p3 ≤ v4 → wp_M_is I L R q 0 (fun (r3 : Bool) (I4 : am_TI) => Q r3 I4 L)) ∧ (¬ p3 ≤ v4 → (vp_in ((60 * p1) + v4) 240 ∧ (∀ L1, L1 = am_u2 L (q + 5) (Int32.toNatClampNeg ((60 * p1) + v4)) 0 → wl_M_tray_49 R q p1 p2 p3 Q f49 I L1 (v4 + 1)))))
set_option maxRecDepth 20000 in
theorem tl_M_tray_49 {d : Nat}  {R : am_TR} {q : Nat} {p1 : Int32} {p2 : Int32} {p3 : Int32} {Q : Bool → am_TI → am_TL → Prop}  (hw : am_Wf R) (hq : am_SH[q]? = some (.inl 12)) (hd : 1 ≤ d) : ∀ (n : Nat) (I : am_TI) (L : am_TL) (v4 : Int32), wl_M_tray_49 R q p1 p2 p3 Q  n I L v4 → am_Wp (d, "UnseenRingModel", b_M_tray, 5, false) 0 0 49 [some (.ref q), some (.int p1), some (.int p2), some (.int p3), some (.int v4)] [] (I, L, R, am_SH) (po_M_tray R Q) := by
  intro n
  induction n with
  | zero => intro I L v4 h; exact h.elim
  | succ n ih =>
    intro I L v4 h
    unfold wl_M_tray_49 at h
    refine am_iload (n := 51) d_M_tray_49 rfl rfl ?_
    refine am_iload_n (n := 52) d_M_tray_51 rfl rfl ?_
    refine am_icmp_ge (tgt := 74) (n := 55) d_M_tray_52 rfl rfl (fun c6 => ?_) (fun c6 => ?_)
    · have h := h.1 c6
      refine am_aload_n (n := 75) d_M_tray_74 rfl rfl ?_
      refine am_iconst (n := 76) d_M_tray_75 ci_0 rfl ?_
      refine am_callV (kc := 0) (ks := 0) (As := [.int 0]) (n := 79) d_M_tray_76 rfl ce_M_is lk_M_128 in_M_is rfl rfl hq rfl rfl (Nat.le_of_ble_eq_true rfl) (Or.inl rfl) (cm_M_is (d := d - 1) hw (by omega) hq h) (by omega) ?_
      rintro _ _ ⟨r3, I4, rfl, rfl, h⟩
      show am_Wp (d, "UnseenRingModel", b_M_tray, 5, false) 0 0 79 [some (.ref q), some (.int p1), some (.int p2), some (.int p3), some (.int v4)] [.int (am_b r3)] (I4, L, R, am_SH) (po_M_tray R Q)
      exact am_iret d_M_tray_79 ⟨r3, I4, L, rfl, rfl, h⟩
    · have h := h.2 c6
      refine am_aload_n (n := 56) d_M_tray_55 rfl rfl ?_
      refine am_getR (x := (q + 5)) (n := 59) f_M_27 d_M_tray_56 rfl rfl hq (hw.1 q 12 7 5 hq rfl) ?_
      refine am_bipush (n := 61) d_M_tray_59 cb_60 rfl ?_
      refine am_iload_n (n := 62) d_M_tray_61 rfl rfl ?_
      refine am_imul (n := 63) d_M_tray_62 rfl ?_
      refine am_iload (n := 65) d_M_tray_63 rfl rfl ?_
      refine am_iadd (n := 66) d_M_tray_65 rfl ?_
      refine am_lconst (v := 0) (n := 67) d_M_tray_66 rfl rfl ?_
      obtain ⟨g3, h⟩ := h
      refine am_last2 (n := 68) d_M_tray_67 rfl (am_sho (k := 7) (o := 5) hq (by decide) (by decide) (by decide) rfl) g3 rfl ?_
      generalize eL1 : am_u2 L (q + 5) (Int32.toNatClampNeg ((60 * p1) + v4)) 0 = L1
      have h := h L1 eL1.symm
      refine am_iinc (v := v4 + 1) (ls' := [some (.ref q), some (.int p1), some (.int p2), some (.int p3), some (.int (v4 + 1))]) (n := 71) d_M_tray_68 rfl (congrArg _ ci_1) (by decide) rfl rfl ?_
      refine am_goto (tgt := 49) d_M_tray_71 rfl ?_
      exact ih I L1 (v4 + 1)  h
def wp_M_tray (I : am_TI) (L : am_TL) (R : am_TR) (q : Nat) (p1 : Int32) (p2 : Int32) (p3 : Int32)  (Q : Bool → am_TI → am_TL → Prop) : Prop := wp_M_isTray I L R p1 (fun (r1 : Bool) => ((r1 = false → wb_M_tray_26 R q p1 p2 p3 Q I L) ∧ (r1 = true → ((p2 < 0 → wb_M_tray_26 R q p1 p2 p3 Q I L) ∧ (¬ p2 < 0 → ((3 < p2 → wb_M_tray_26 R q p1 p2 p3 Q I L) ∧ (¬ 3 < p2 → ((p3 < 0 → wb_M_tray_26 R q p1 p2 p3 Q I L) ∧ (¬ p3 < 0 → ((p3 ≤ 60 → (vp_in p1 4 ∧ (∀ I2, I2 = am_u2 I (q + 3) (Int32.toNatClampNeg p1) p2 → (vp_in p1 4 ∧ (∀ I3, I3 = am_u2 I2 (q + 4) (Int32.toNatClampNeg p1) p3 → (∃ z, wl_M_tray_49 R q p1 p2 p3 Q z I3 L 0)))))) ∧ (¬ p3 ≤ 60 → wb_M_tray_26 R q p1 p2 p3 Q I L)))))))))))
set_option maxRecDepth 20000 in
theorem cm_M_tray {d : Nat} {I : am_TI} {L : am_TL} {R : am_TR}  (hw : am_Wf R)   {q : Nat} {p1 : Int32} {p2 : Int32} {p3 : Int32} {Q : Bool → am_TI → am_TL → Prop} (hd : 1 ≤ d) (hq : am_SH[q]? = some (.inl 12)) (h : wp_M_tray I L R q p1 p2 p3  Q) : am_Cm d 0 0 y_M_tray b_M_tray 5 (some .boolean) [.ref q, .int p1, .int p2, .int p3] (I, L, R, am_SH) (po_M_tray R Q) := by
  refine am_Cm_of (ini := false) (by decide +kernel) (fun z => by cases z) (by simp [Value.category]) (fun r σ' z => by obtain ⟨x, _, _, rfl, -⟩ := z; exact ⟨_, rfl, am_b_nar x⟩) ?_
  unfold wp_M_tray at h
  show am_Wp (d, "UnseenRingModel", b_M_tray, 5, false) 0 0 0 [some (.ref q), some (.int p1), some (.int p2), some (.int p3), none] [] (I, L, R, am_SH) (po_M_tray R Q)
  refine am_iload_n (n := 1) d_M_tray_0 rfl rfl ?_
  refine am_callS (kc := 0) (ks := 0) (As := [.int p1]) (n := 4) d_M_tray_1 rfl ce_M_isTray lk_M_132 st_M_isTray rfl rfl (Nat.le_of_ble_eq_true rfl) (Or.inl rfl) (cm_M_isTray (d := d - 1) hw (by omega)  h) (by omega) ?_
  rintro _ _ ⟨r1, rfl, rfl, h⟩
  show am_Wp (d, "UnseenRingModel", b_M_tray, 5, false) 0 0 4 [some (.ref q), some (.int p1), some (.int p2), some (.int p3), none] [.int (am_b r1)] (I, L, R, am_SH) (po_M_tray R Q)
  refine am_if_eq (y := 0) (tgt := 26) (n := 7) d_M_tray_4 rfl rfl (fun c1 => ?_) (fun c1 => ?_)
  · have h := h.1 (am_b_0 c1)
    exact tb_M_tray_26 hw hq hd I L h
  · have h := h.2 (am_b_n0 c1)
    refine am_iload_n (n := 8) d_M_tray_7 rfl rfl ?_
    refine am_if_lt (y := 0) (tgt := 26) (n := 11) d_M_tray_8 rfl rfl (fun c2 => ?_) (fun c2 => ?_)
    · have h := h.1 c2
      exact tb_M_tray_26 hw hq hd I L h
    · have h := h.2 c2
      refine am_iload_n (n := 12) d_M_tray_11 rfl rfl ?_
      refine am_iconst (n := 13) d_M_tray_12 ci_3 rfl ?_
      refine am_icmp_gt (tgt := 26) (n := 16) d_M_tray_13 rfl rfl (fun c3 => ?_) (fun c3 => ?_)
      · have h := h.1 c3
        exact tb_M_tray_26 hw hq hd I L h
      · have h := h.2 c3
        refine am_iload_n (n := 17) d_M_tray_16 rfl rfl ?_
        refine am_if_lt (y := 0) (tgt := 26) (n := 20) d_M_tray_17 rfl rfl (fun c4 => ?_) (fun c4 => ?_)
        · have h := h.1 c4
          exact tb_M_tray_26 hw hq hd I L h
        · have h := h.2 c4
          refine am_iload_n (n := 21) d_M_tray_20 rfl rfl ?_
          refine am_bipush (n := 23) d_M_tray_21 cb_60 rfl ?_
          refine am_icmp_le (tgt := 32) (n := 26) d_M_tray_23 rfl rfl (fun c5 => ?_) (fun c5 => ?_)
          · have h := h.1 c5
            refine am_aload_n (n := 33) d_M_tray_32 rfl rfl ?_
            refine am_getR (x := (q + 3)) (n := 36) f_M_21 d_M_tray_33 rfl rfl hq (hw.1 q 12 5 3 hq rfl) ?_
            refine am_iload_n (n := 37) d_M_tray_36 rfl rfl ?_
            refine am_iload_n (n := 38) d_M_tray_37 rfl rfl ?_
            obtain ⟨g1, h⟩ := h
            refine am_iast2 (n := 39) d_M_tray_38 rfl (am_sho (k := 5) (o := 3) hq (by decide) (by decide) (by decide) rfl) g1 rfl ?_
            generalize eI2 : am_u2 I (q + 3) (Int32.toNatClampNeg p1) p2 = I2
            have h := h I2 eI2.symm
            refine am_aload_n (n := 40) d_M_tray_39 rfl rfl ?_
            refine am_getR (x := (q + 4)) (n := 43) f_M_24 d_M_tray_40 rfl rfl hq (hw.1 q 12 6 4 hq rfl) ?_
            refine am_iload_n (n := 44) d_M_tray_43 rfl rfl ?_
            refine am_iload_n (n := 45) d_M_tray_44 rfl rfl ?_
            obtain ⟨g2, h⟩ := h
            refine am_iast2 (n := 46) d_M_tray_45 rfl (am_sho (k := 6) (o := 4) hq (by decide) (by decide) (by decide) rfl) g2 rfl ?_
            generalize eI3 : am_u2 I2 (q + 4) (Int32.toNatClampNeg p1) p3 = I3
            have h := h I3 eI3.symm
            refine am_iconst (n := 47) d_M_tray_46 ci_0 rfl ?_
            refine am_istore (ls' := [some (.ref q), some (.int p1), some (.int p2), some (.int p3), some (.int 0)]) (n := 49) d_M_tray_47 (by decide) rfl rfl ?_
            obtain ⟨n, h⟩ := h
            exact tl_M_tray_49 hw hq hd n I3 L 0 h
          · have h := h.2 c5
            exact tb_M_tray_26 hw hq hd I L h
abbrev po_M_cut (I : am_TI) (L : am_TL) (R : am_TR) (Q : Int64 → Prop) : Option Value → am_St → Prop := fun r σ' => ∃ (x : Int64), r = some (.long x) ∧ σ' = (I, L, R, am_SH) ∧ Q x
def wp_M_cut (I : am_TI) (L : am_TL) (R : am_TR) (p0 : Int64) (p2 : Int32)  (Q : Int64 → Prop) : Prop := ((p2 = 0 → Q (Int32.toInt64 (Int8.toInt32 (Int32.toInt8 (Int64.toInt32 p0))))) ∧ (¬ p2 = 0 → ((p2 = 1 → Q (Int32.toInt64 (Int16.toInt32 (Int32.toInt16 (Int64.toInt32 p0))))) ∧ (¬ p2 = 1 → ((p2 = 2 → Q (Int32.toInt64 (Int64.toInt32 p0))) ∧ (¬ p2 = 2 → Q p0))))))
set_option maxRecDepth 20000 in
theorem cm_M_cut {d : Nat} {I : am_TI} {L : am_TL} {R : am_TR}  (hw : am_Wf R)   {p0 : Int64} {p2 : Int32} {Q : Int64 → Prop} (hd : 0 ≤ d)  (h : wp_M_cut I L R p0 p2  Q) : am_Cm d 0 0 y_M_cut b_M_cut 3 (some .long) [.long p0, .int p2] (I, L, R, am_SH) (po_M_cut I L R Q) := by
  refine am_Cm_of (ini := false) (by decide +kernel) (fun z => by cases z) (by simp [Value.category]) (fun r σ' z => by obtain ⟨_, rfl, -⟩ := z; rfl) ?_
  unfold wp_M_cut at h
  show am_Wp (d, "UnseenRingModel", b_M_cut, 3, false) 0 0 0 [some (.long p0), none, some (.int p2)] [] (I, L, R, am_SH) (po_M_cut I L R Q)
  refine am_iload_n (n := 1) d_M_cut_0 rfl rfl ?_
  refine am_if_ne (y := 0) (tgt := 11) (n := 4) d_M_cut_1 rfl rfl (fun c1 => ?_) (fun c1 => ?_)
  · have h := h.2 c1
    refine am_iload_n (n := 12) d_M_cut_11 rfl rfl ?_
    refine am_iconst (n := 13) d_M_cut_12 ci_1 rfl ?_
    refine am_icmp_ne (tgt := 23) (n := 16) d_M_cut_13 rfl rfl (fun c2 => ?_) (fun c2 => ?_)
    · have h := h.2 c2
      refine am_iload_n (n := 24) d_M_cut_23 rfl rfl ?_
      refine am_iconst (n := 25) d_M_cut_24 ci_2 rfl ?_
      refine am_icmp_ne (tgt := 34) (n := 28) d_M_cut_25 rfl rfl (fun c3 => ?_) (fun c3 => ?_)
      · have h := h.2 c3
        refine am_lload_n (n := 35) d_M_cut_34 rfl rfl ?_
        exact am_lret d_M_cut_35 ⟨p0, rfl, rfl, h⟩
      · have h := h.1 c3
        refine am_lload_n (n := 29) d_M_cut_28 rfl rfl ?_
        refine am_l2i (n := 30) d_M_cut_29 rfl ?_
        refine am_i2l (n := 31) d_M_cut_30 rfl ?_
        refine am_goto (tgt := 35) d_M_cut_31 rfl ?_
        exact am_lret d_M_cut_35 ⟨(Int32.toInt64 (Int64.toInt32 p0)), rfl, rfl, h⟩
    · have h := h.1 c2
      refine am_lload_n (n := 17) d_M_cut_16 rfl rfl ?_
      refine am_l2i (n := 18) d_M_cut_17 rfl ?_
      refine am_i2s (n := 19) d_M_cut_18 rfl ?_
      refine am_i2l (n := 20) d_M_cut_19 rfl ?_
      refine am_goto (tgt := 35) d_M_cut_20 rfl ?_
      exact am_lret d_M_cut_35 ⟨(Int32.toInt64 (Int16.toInt32 (Int32.toInt16 (Int64.toInt32 p0)))), rfl, rfl, h⟩
  · have h := h.1 c1
    refine am_lload_n (n := 5) d_M_cut_4 rfl rfl ?_
    refine am_l2i (n := 6) d_M_cut_5 rfl ?_
    refine am_i2b (n := 7) d_M_cut_6 rfl ?_
    refine am_i2l (n := 8) d_M_cut_7 rfl ?_
    refine am_goto (tgt := 35) d_M_cut_8 rfl ?_
    exact am_lret d_M_cut_35 ⟨(Int32.toInt64 (Int8.toInt32 (Int32.toInt8 (Int64.toInt32 p0)))), rfl, rfl, h⟩
abbrev po_M_wrongPlace (I : am_TI) (L : am_TL) (R : am_TR) (Q : Int32 → Prop) : Option Value → am_St → Prop := fun r σ' => ∃ (x : Int32), r = some (.int x) ∧ σ' = (I, L, R, am_SH) ∧ Q x
def wb_M_wrongPlace_39 (I : am_TI) (L : am_TL) (R : am_TR) (q : Nat) (p1 : Int32) (p2 : Int32) (Q : Int32 → Prop)   : Prop := Q 3
set_option maxRecDepth 20000 in
theorem tb_M_wrongPlace_39 {d : Nat}  {I : am_TI} {L : am_TL} {R : am_TR} {q : Nat} {p1 : Int32} {p2 : Int32} {Q : Int32 → Prop}  (hw : am_Wf R) (hq : am_SH[q]? = some (.inl 12)) (hd : 1 ≤ d)  (h : wb_M_wrongPlace_39 I L R q p1 p2 Q  ) : am_Wp (d, "UnseenRingModel", b_M_wrongPlace, 3, false) 0 0 39 [some (.ref q), some (.int p1), some (.int p2)] [] (I, L, R, am_SH) (po_M_wrongPlace I L R Q) := by
  unfold wb_M_wrongPlace_39 at h
  refine am_iconst (n := 40) d_M_wrongPlace_39 ci_3 rfl ?_
  refine am_goto (tgt := 44) d_M_wrongPlace_40 rfl ?_
  exact am_iret d_M_wrongPlace_44 ⟨3, rfl, rfl, h⟩
def wp_M_wrongPlace (I : am_TI) (L : am_TL) (R : am_TR) (q : Nat) (p1 : Int32) (p2 : Int32)  (Q : Int32 → Prop) : Prop := wp_M_isTray I L R p1 (fun (r1 : Bool) => ((r1 = false → Q 1) ∧ (r1 = true → (vp_in p1 4 ∧ (((I (q + 4) (Int32.toNatClampNeg p1)) = (-1) → Q 2) ∧ (¬ (I (q + 4) (Int32.toNatClampNeg p1)) = (-1) → ((p2 < 0 → wb_M_wrongPlace_39 I L R q p1 p2 Q ) ∧ (¬ p2 < 0 → (vp_in p1 4 ∧ ((p2 < (I (q + 4) (Int32.toNatClampNeg p1)) → Q 0) ∧ (¬ p2 < (I (q + 4) (Int32.toNatClampNeg p1)) → wb_M_wrongPlace_39 I L R q p1 p2 Q )))))))))))
set_option maxRecDepth 20000 in
theorem cm_M_wrongPlace {d : Nat} {I : am_TI} {L : am_TL} {R : am_TR}  (hw : am_Wf R)   {q : Nat} {p1 : Int32} {p2 : Int32} {Q : Int32 → Prop} (hd : 1 ≤ d) (hq : am_SH[q]? = some (.inl 12)) (h : wp_M_wrongPlace I L R q p1 p2  Q) : am_Cm d 0 0 y_M_wrongPlace b_M_wrongPlace 3 (some .int) [.ref q, .int p1, .int p2] (I, L, R, am_SH) (po_M_wrongPlace I L R Q) := by
  refine am_Cm_of (ini := false) (by decide +kernel) (fun z => by cases z) (by simp [Value.category]) (fun r σ' z => by obtain ⟨x, rfl, -⟩ := z; exact ⟨_, rfl, rfl⟩) ?_
  unfold wp_M_wrongPlace at h
  show am_Wp (d, "UnseenRingModel", b_M_wrongPlace, 3, false) 0 0 0 [some (.ref q), some (.int p1), some (.int p2)] [] (I, L, R, am_SH) (po_M_wrongPlace I L R Q)
  refine am_iload_n (n := 1) d_M_wrongPlace_0 rfl rfl ?_
  refine am_callS (kc := 0) (ks := 0) (As := [.int p1]) (n := 4) d_M_wrongPlace_1 rfl ce_M_isTray lk_M_132 st_M_isTray rfl rfl (Nat.le_of_ble_eq_true rfl) (Or.inl rfl) (cm_M_isTray (d := d - 1) hw (by omega)  h) (by omega) ?_
  rintro _ _ ⟨r1, rfl, rfl, h⟩
  show am_Wp (d, "UnseenRingModel", b_M_wrongPlace, 3, false) 0 0 4 [some (.ref q), some (.int p1), some (.int p2)] [.int (am_b r1)] (I, L, R, am_SH) (po_M_wrongPlace I L R Q)
  refine am_if_ne (y := 0) (tgt := 11) (n := 7) d_M_wrongPlace_4 rfl rfl (fun c1 => ?_) (fun c1 => ?_)
  · have h := h.2 (am_b_n0 c1)
    refine am_aload_n (n := 12) d_M_wrongPlace_11 rfl rfl ?_
    refine am_getR (x := (q + 4)) (n := 15) f_M_24 d_M_wrongPlace_12 rfl rfl hq (hw.1 q 12 6 4 hq rfl) ?_
    refine am_iload_n (n := 16) d_M_wrongPlace_15 rfl rfl ?_
    obtain ⟨g1, h⟩ := h
    refine am_iald2 (n := 17) d_M_wrongPlace_16 rfl (am_sho (k := 6) (o := 4) hq (by decide) (by decide) (by decide) rfl) g1 rfl ?_
    refine am_iconst (n := 18) d_M_wrongPlace_17 ci_m1 rfl ?_
    refine am_icmp_ne (tgt := 25) (n := 21) d_M_wrongPlace_18 rfl rfl (fun c2 => ?_) (fun c2 => ?_)
    · have h := h.2 c2
      refine am_iload_n (n := 26) d_M_wrongPlace_25 rfl rfl ?_
      refine am_if_lt (y := 0) (tgt := 39) (n := 29) d_M_wrongPlace_26 rfl rfl (fun c3 => ?_) (fun c3 => ?_)
      · have h := h.1 c3
        exact tb_M_wrongPlace_39 hw hq hd h
      · have h := h.2 c3
        refine am_iload_n (n := 30) d_M_wrongPlace_29 rfl rfl ?_
        refine am_aload_n (n := 31) d_M_wrongPlace_30 rfl rfl ?_
        refine am_getR (x := (q + 4)) (n := 34) f_M_24 d_M_wrongPlace_31 rfl rfl hq (hw.1 q 12 6 4 hq rfl) ?_
        refine am_iload_n (n := 35) d_M_wrongPlace_34 rfl rfl ?_
        obtain ⟨g2, h⟩ := h
        refine am_iald2 (n := 36) d_M_wrongPlace_35 rfl (am_sho (k := 6) (o := 4) hq (by decide) (by decide) (by decide) rfl) g2 rfl ?_
        refine am_icmp_lt (tgt := 43) (n := 39) d_M_wrongPlace_36 rfl rfl (fun c4 => ?_) (fun c4 => ?_)
        · have h := h.1 c4
          refine am_iconst (n := 44) d_M_wrongPlace_43 ci_0 rfl ?_
          exact am_iret d_M_wrongPlace_44 ⟨0, rfl, rfl, h⟩
        · have h := h.2 c4
          exact tb_M_wrongPlace_39 hw hq hd h
    · have h := h.1 c2
      refine am_iconst (n := 22) d_M_wrongPlace_21 ci_2 rfl ?_
      refine am_goto (tgt := 44) d_M_wrongPlace_22 rfl ?_
      exact am_iret d_M_wrongPlace_44 ⟨2, rfl, rfl, h⟩
  · have h := h.1 (am_b_0 c1)
    refine am_iconst (n := 8) d_M_wrongPlace_7 ci_1 rfl ?_
    refine am_goto (tgt := 44) d_M_wrongPlace_8 rfl ?_
    exact am_iret d_M_wrongPlace_44 ⟨1, rfl, rfl, h⟩
abbrev po_M_write (R : am_TR) (Q : Bool → am_TI → am_TL → Prop) : Option Value → am_St → Prop := fun r σ' => ∃ (x : Bool) (I' : am_TI) (L' : am_TL), r = some (.int (am_b x)) ∧ σ' = (I', L', R, am_SH) ∧ Q x I' L'
def wb_M_write_34 (R : am_TR) (q : Nat) (p1 : Int32) (p2 : Int32) (p3 : Int64) (Q : Bool → am_TI → am_TL → Prop)  (I : am_TI) (L : am_TL) (v5 : Int32) : Prop := wp_M_is I L R q v5 (fun (r2 : Bool) (I1 : am_TI) => Q r2 I1 L)
set_option maxRecDepth 20000 in
theorem tb_M_write_34 {d : Nat}  {R : am_TR} {q : Nat} {p1 : Int32} {p2 : Int32} {p3 : Int64} {Q : Bool → am_TI → am_TL → Prop}  (hw : am_Wf R) (hq : am_SH[q]? = some (.inl 12)) (hd : 2 ≤ d) (I : am_TI) (L : am_TL) (v5 : Int32) (h : wb_M_write_34 R q p1 p2 p3 Q  I L v5) : am_Wp (d, "UnseenRingModel", b_M_write, 6, false) 0 0 34 [some (.ref q), some (.int p1), some (.int p2), some (.long p3), none, some (.int v5)] [] (I, L, R, am_SH) (po_M_write R Q) := by
  unfold wb_M_write_34 at h
  refine am_aload_n (n := 35) d_M_write_34 rfl rfl ?_
  refine am_iload (n := 37) d_M_write_35 rfl rfl ?_
  refine am_callV (kc := 0) (ks := 0) (As := [.int v5]) (n := 40) d_M_write_37 rfl ce_M_is lk_M_128 in_M_is rfl rfl hq rfl rfl (Nat.le_of_ble_eq_true rfl) (Or.inl rfl) (cm_M_is (d := d - 1) hw (by omega) hq h) (by omega) ?_
  rintro _ _ ⟨r2, I1, rfl, rfl, h⟩
  show am_Wp (d, "UnseenRingModel", b_M_write, 6, false) 0 0 40 [some (.ref q), some (.int p1), some (.int p2), some (.long p3), none, some (.int v5)] [.int (am_b r2)] (I1, L, R, am_SH) (po_M_write R Q)
  exact am_iret d_M_write_40 ⟨r2, I1, L, rfl, rfl, h⟩
def wp_M_write (I : am_TI) (L : am_TL) (R : am_TR) (q : Nat) (p1 : Int32) (p2 : Int32) (p3 : Int64)  (Q : Bool → am_TI → am_TL → Prop) : Prop := wp_M_wrongPlace I L R q p1 p2 (fun (r1 : Int32) => ((r1 = 0 → (vp_in p1 4 ∧ wp_M_cut I L R p3 (I (q + 3) (Int32.toNatClampNeg p1)) (fun (r3 : Int64) => (vp_in ((60 * p1) + p2) 240 ∧ (∀ L1, L1 = am_u2 L (q + 5) (Int32.toNatClampNeg ((60 * p1) + p2)) r3 → wb_M_write_34 R q p1 p2 p3 Q I L1 r1))))) ∧ (¬ r1 = 0 → wb_M_write_34 R q p1 p2 p3 Q I L r1)))
set_option maxRecDepth 20000 in
theorem cm_M_write {d : Nat} {I : am_TI} {L : am_TL} {R : am_TR}  (hw : am_Wf R)   {q : Nat} {p1 : Int32} {p2 : Int32} {p3 : Int64} {Q : Bool → am_TI → am_TL → Prop} (hd : 2 ≤ d) (hq : am_SH[q]? = some (.inl 12)) (h : wp_M_write I L R q p1 p2 p3  Q) : am_Cm d 0 0 y_M_write b_M_write 6 (some .boolean) [.ref q, .int p1, .int p2, .long p3] (I, L, R, am_SH) (po_M_write R Q) := by
  refine am_Cm_of (ini := false) (by decide +kernel) (fun z => by cases z) (by simp [Value.category]) (fun r σ' z => by obtain ⟨x, _, _, rfl, -⟩ := z; exact ⟨_, rfl, am_b_nar x⟩) ?_
  unfold wp_M_write at h
  show am_Wp (d, "UnseenRingModel", b_M_write, 6, false) 0 0 0 [some (.ref q), some (.int p1), some (.int p2), some (.long p3), none, none] [] (I, L, R, am_SH) (po_M_write R Q)
  refine am_aload_n (n := 1) d_M_write_0 rfl rfl ?_
  refine am_iload_n (n := 2) d_M_write_1 rfl rfl ?_
  refine am_iload_n (n := 3) d_M_write_2 rfl rfl ?_
  refine am_callV (kc := 0) (ks := 0) (As := [.int p1, .int p2]) (n := 6) d_M_write_3 rfl ce_M_wrongPlace lk_M_135 in_M_wrongPlace rfl rfl hq rfl rfl (Nat.le_of_ble_eq_true rfl) (Or.inl rfl) (cm_M_wrongPlace (d := d - 1) hw (by omega) hq h) (by omega) ?_
  rintro _ _ ⟨r1, rfl, rfl, h⟩
  show am_Wp (d, "UnseenRingModel", b_M_write, 6, false) 0 0 6 [some (.ref q), some (.int p1), some (.int p2), some (.long p3), none, none] [.int r1] (I, L, R, am_SH) (po_M_write R Q)
  refine am_istore (ls' := [some (.ref q), some (.int p1), some (.int p2), some (.long p3), none, some (.int r1)]) (n := 8) d_M_write_6 (by decide) rfl rfl ?_
  refine am_iload (n := 10) d_M_write_8 rfl rfl ?_
  refine am_if_ne (y := 0) (tgt := 34) (n := 13) d_M_write_10 rfl rfl (fun c1 => ?_) (fun c1 => ?_)
  · have h := h.2 c1
    exact tb_M_write_34 hw hq hd I L r1 h
  · have h := h.1 c1
    refine am_aload_n (n := 14) d_M_write_13 rfl rfl ?_
    refine am_getR (x := (q + 5)) (n := 17) f_M_27 d_M_write_14 rfl rfl hq (hw.1 q 12 7 5 hq rfl) ?_
    refine am_bipush (n := 19) d_M_write_17 cb_60 rfl ?_
    refine am_iload_n (n := 20) d_M_write_19 rfl rfl ?_
    refine am_imul (n := 21) d_M_write_20 rfl ?_
    refine am_iload_n (n := 22) d_M_write_21 rfl rfl ?_
    refine am_iadd (n := 23) d_M_write_22 rfl ?_
    refine am_lload_n (n := 24) d_M_write_23 rfl rfl ?_
    refine am_aload_n (n := 25) d_M_write_24 rfl rfl ?_
    refine am_getR (x := (q + 3)) (n := 28) f_M_21 d_M_write_25 rfl rfl hq (hw.1 q 12 5 3 hq rfl) ?_
    refine am_iload_n (n := 29) d_M_write_28 rfl rfl ?_
    obtain ⟨g1, h⟩ := h
    refine am_iald2 (n := 30) d_M_write_29 rfl (am_sho (k := 5) (o := 3) hq (by decide) (by decide) (by decide) rfl) g1 rfl ?_
    refine am_callS (kc := 0) (ks := 0) (As := [.long p3, .int (I (q + 3) (Int32.toNatClampNeg p1))]) (n := 33) d_M_write_30 rfl ce_M_cut lk_M_139 st_M_cut rfl rfl (Nat.le_of_ble_eq_true rfl) (Or.inl rfl) (cm_M_cut (d := d - 1) hw (by omega)  h) (by omega) ?_
    rintro _ _ ⟨r3, rfl, rfl, h⟩
    show am_Wp (d, "UnseenRingModel", b_M_write, 6, false) 0 0 33 [some (.ref q), some (.int p1), some (.int p2), some (.long p3), none, some (.int r1)] [.long r3, .int ((60 * p1) + p2), .ref (q + 5)] (I, L, R, am_SH) (po_M_write R Q)
    obtain ⟨g2, h⟩ := h
    refine am_last2 (n := 34) d_M_write_33 rfl (am_sho (k := 7) (o := 5) hq (by decide) (by decide) (by decide) rfl) g2 rfl ?_
    generalize eL1 : am_u2 L (q + 5) (Int32.toNatClampNeg ((60 * p1) + p2)) r3 = L1
    have h := h L1 eL1.symm
    exact tb_M_write_34 hw hq hd I L1 r1 h
abbrev po_M_read (L : am_TL) (R : am_TR) (Q : Int64 → am_TI → Prop) : Option Value → am_St → Prop := fun r σ' => ∃ (x : Int64) (I' : am_TI), r = some (.long x) ∧ σ' = (I', L, R, am_SH) ∧ Q x I'
def wp_M_read (I : am_TI) (L : am_TL) (R : am_TR) (q : Nat) (p1 : Int32) (p2 : Int32)  (Q : Int64 → am_TI → Prop) : Prop := wp_M_wrongPlace I L R q p1 p2 (fun (r1 : Int32) => (∀ I1, I1 = am_u2 I q 2 r1 → (((I1 q 2) ≤ 0 → (vp_in ((60 * p1) + p2) 240 ∧ Q (L (q + 5) (Int32.toNatClampNeg ((60 * p1) + p2))) I1)) ∧ (¬ (I1 q 2) ≤ 0 → Q (-1) I1))))
set_option maxRecDepth 20000 in
theorem cm_M_read {d : Nat} {I : am_TI} {L : am_TL} {R : am_TR}  (hw : am_Wf R)   {q : Nat} {p1 : Int32} {p2 : Int32} {Q : Int64 → am_TI → Prop} (hd : 2 ≤ d) (hq : am_SH[q]? = some (.inl 12)) (h : wp_M_read I L R q p1 p2  Q) : am_Cm d 0 0 y_M_read b_M_read 3 (some .long) [.ref q, .int p1, .int p2] (I, L, R, am_SH) (po_M_read L R Q) := by
  refine am_Cm_of (ini := false) (by decide +kernel) (fun z => by cases z) (by simp [Value.category]) (fun r σ' z => by obtain ⟨_, _, rfl, -⟩ := z; rfl) ?_
  unfold wp_M_read at h
  show am_Wp (d, "UnseenRingModel", b_M_read, 3, false) 0 0 0 [some (.ref q), some (.int p1), some (.int p2)] [] (I, L, R, am_SH) (po_M_read L R Q)
  refine am_aload_n (n := 1) d_M_read_0 rfl rfl ?_
  refine am_aload_n (n := 2) d_M_read_1 rfl rfl ?_
  refine am_iload_n (n := 3) d_M_read_2 rfl rfl ?_
  refine am_iload_n (n := 4) d_M_read_3 rfl rfl ?_
  refine am_callV (kc := 0) (ks := 0) (As := [.int p1, .int p2]) (n := 7) d_M_read_4 rfl ce_M_wrongPlace lk_M_135 in_M_wrongPlace rfl rfl hq rfl rfl (Nat.le_of_ble_eq_true rfl) (Or.inl rfl) (cm_M_wrongPlace (d := d - 1) hw (by omega) hq h) (by omega) ?_
  rintro _ _ ⟨r1, rfl, rfl, h⟩
  show am_Wp (d, "UnseenRingModel", b_M_read, 3, false) 0 0 7 [some (.ref q), some (.int p1), some (.int p2)] [.int r1, .ref q] (I, L, R, am_SH) (po_M_read L R Q)
  refine am_putI (n := 10) f_M_115 d_M_read_7 rfl ⟨_, rfl, Or.inl rfl⟩ rfl rfl hq ?_
  generalize eI1 : am_u2 I q 2 r1 = I1
  have h := h I1 eI1.symm
  refine am_aload_n (n := 11) d_M_read_10 rfl rfl ?_
  refine am_getI (n := 14) f_M_115 d_M_read_11 rfl rfl hq ?_
  refine am_if_le (y := 0) (tgt := 23) (n := 17) d_M_read_14 rfl rfl (fun c1 => ?_) (fun c1 => ?_)
  · have h := h.1 c1
    refine am_aload_n (n := 24) d_M_read_23 rfl rfl ?_
    refine am_getR (x := (q + 5)) (n := 27) f_M_27 d_M_read_24 rfl rfl hq (hw.1 q 12 7 5 hq rfl) ?_
    refine am_bipush (n := 29) d_M_read_27 cb_60 rfl ?_
    refine am_iload_n (n := 30) d_M_read_29 rfl rfl ?_
    refine am_imul (n := 31) d_M_read_30 rfl ?_
    refine am_iload_n (n := 32) d_M_read_31 rfl rfl ?_
    refine am_iadd (n := 33) d_M_read_32 rfl ?_
    obtain ⟨g1, h⟩ := h
    refine am_lald2 (n := 34) d_M_read_33 rfl (am_sho (k := 7) (o := 5) hq (by decide) (by decide) (by decide) rfl) g1 rfl ?_
    exact am_lret d_M_read_34 ⟨(L (q + 5) (Int32.toNatClampNeg ((60 * p1) + p2))), I1, rfl, rfl, h⟩
  · have h := h.2 c1
    refine am_ldc2 (n := 20) d_M_read_17 k_M_143 rfl ?_
    refine am_goto (tgt := 34) d_M_read_20 rfl ?_
    exact am_lret d_M_read_34 ⟨(-1), I1, rfl, rfl, h⟩
abbrev po_M_pour (R : am_TR) (Q : Bool → am_TI → am_TL → Prop) : Option Value → am_St → Prop := fun r σ' => ∃ (x : Bool) (I' : am_TI) (L' : am_TL), r = some (.int (am_b x)) ∧ σ' = (I', L', R, am_SH) ∧ Q x I' L'
def wb_M_pour_28 (R : am_TR) (q : Nat) (p1 : Int32) (p2 : Int32) (p3 : Int32) (p4 : Int32) (p5 : Int32) (Q : Bool → am_TI → am_TL → Prop)  (I : am_TI) (L : am_TL) : Prop := wp_M_is I L R q 1 (fun (r2 : Bool) (I1 : am_TI) => Q r2 I1 L)
set_option maxRecDepth 20000 in
theorem tb_M_pour_28 {d : Nat}  {R : am_TR} {q : Nat} {p1 : Int32} {p2 : Int32} {p3 : Int32} {p4 : Int32} {p5 : Int32} {Q : Bool → am_TI → am_TL → Prop}  (hw : am_Wf R) (hq : am_SH[q]? = some (.inl 12)) (hd : 1 ≤ d) (I : am_TI) (L : am_TL) (h : wb_M_pour_28 R q p1 p2 p3 p4 p5 Q  I L) : am_Wp (d, "UnseenRingModel", b_M_pour, 8, false) 0 0 28 [some (.ref q), some (.int p1), some (.int p2), some (.int p3), some (.int p4), some (.int p5), none, none] [] (I, L, R, am_SH) (po_M_pour R Q) := by
  unfold wb_M_pour_28 at h
  refine am_aload_n (n := 29) d_M_pour_28 rfl rfl ?_
  refine am_iconst (n := 30) d_M_pour_29 ci_1 rfl ?_
  refine am_callV (kc := 0) (ks := 0) (As := [.int 1]) (n := 33) d_M_pour_30 rfl ce_M_is lk_M_128 in_M_is rfl rfl hq rfl rfl (Nat.le_of_ble_eq_true rfl) (Or.inl rfl) (cm_M_is (d := d - 1) hw (by omega) hq h) (by omega) ?_
  rintro _ _ ⟨r2, I1, rfl, rfl, h⟩
  show am_Wp (d, "UnseenRingModel", b_M_pour, 8, false) 0 0 33 [some (.ref q), some (.int p1), some (.int p2), some (.int p3), some (.int p4), some (.int p5), none, none] [.int (am_b r2)] (I1, L, R, am_SH) (po_M_pour R Q)
  exact am_iret d_M_pour_33 ⟨r2, I1, L, rfl, rfl, h⟩
def wb_M_pour_54 (R : am_TR) (q : Nat) (p1 : Int32) (p2 : Int32) (p3 : Int32) (p4 : Int32) (p5 : Int32) (Q : Bool → am_TI → am_TL → Prop)  (I : am_TI) (L : am_TL) : Prop := wp_M_is I L R q 2 (fun (r4 : Bool) (I2 : am_TI) => Q r4 I2 L)
set_option maxRecDepth 20000 in
theorem tb_M_pour_54 {d : Nat}  {R : am_TR} {q : Nat} {p1 : Int32} {p2 : Int32} {p3 : Int32} {p4 : Int32} {p5 : Int32} {Q : Bool → am_TI → am_TL → Prop}  (hw : am_Wf R) (hq : am_SH[q]? = some (.inl 12)) (hd : 1 ≤ d) (I : am_TI) (L : am_TL) (h : wb_M_pour_54 R q p1 p2 p3 p4 p5 Q  I L) : am_Wp (d, "UnseenRingModel", b_M_pour, 8, false) 0 0 54 [some (.ref q), some (.int p1), some (.int p2), some (.int p3), some (.int p4), some (.int p5), none, none] [] (I, L, R, am_SH) (po_M_pour R Q) := by
  unfold wb_M_pour_54 at h
  refine am_aload_n (n := 55) d_M_pour_54 rfl rfl ?_
  refine am_iconst (n := 56) d_M_pour_55 ci_2 rfl ?_
  refine am_callV (kc := 0) (ks := 0) (As := [.int 2]) (n := 59) d_M_pour_56 rfl ce_M_is lk_M_128 in_M_is rfl rfl hq rfl rfl (Nat.le_of_ble_eq_true rfl) (Or.inl rfl) (cm_M_is (d := d - 1) hw (by omega) hq h) (by omega) ?_
  rintro _ _ ⟨r4, I2, rfl, rfl, h⟩
  show am_Wp (d, "UnseenRingModel", b_M_pour, 8, false) 0 0 59 [some (.ref q), some (.int p1), some (.int p2), some (.int p3), some (.int p4), some (.int p5), none, none] [.int (am_b r4)] (I2, L, R, am_SH) (po_M_pour R Q)
  exact am_iret d_M_pour_59 ⟨r4, I2, L, rfl, rfl, h⟩
def wb_M_pour_109 (R : am_TR) (q : Nat) (p1 : Int32) (p2 : Int32) (p3 : Int32) (p4 : Int32) (p5 : Int32) (Q : Bool → am_TI → am_TL → Prop)  (I : am_TI) (L : am_TL) : Prop := wp_M_is I L R q 3 (fun (r5 : Bool) (I3 : am_TI) => Q r5 I3 L)
set_option maxRecDepth 20000 in
theorem tb_M_pour_109 {d : Nat}  {R : am_TR} {q : Nat} {p1 : Int32} {p2 : Int32} {p3 : Int32} {p4 : Int32} {p5 : Int32} {Q : Bool → am_TI → am_TL → Prop}  (hw : am_Wf R) (hq : am_SH[q]? = some (.inl 12)) (hd : 1 ≤ d) (I : am_TI) (L : am_TL) (h : wb_M_pour_109 R q p1 p2 p3 p4 p5 Q  I L) : am_Wp (d, "UnseenRingModel", b_M_pour, 8, false) 0 0 109 [some (.ref q), some (.int p1), some (.int p2), some (.int p3), some (.int p4), some (.int p5), none, none] [] (I, L, R, am_SH) (po_M_pour R Q) := by
  unfold wb_M_pour_109 at h
  refine am_aload_n (n := 110) d_M_pour_109 rfl rfl ?_
  refine am_iconst (n := 111) d_M_pour_110 ci_3 rfl ?_
  refine am_callV (kc := 0) (ks := 0) (As := [.int 3]) (n := 114) d_M_pour_111 rfl ce_M_is lk_M_128 in_M_is rfl rfl hq rfl rfl (Nat.le_of_ble_eq_true rfl) (Or.inl rfl) (cm_M_is (d := d - 1) hw (by omega) hq h) (by omega) ?_
  rintro _ _ ⟨r5, I3, rfl, rfl, h⟩
  show am_Wp (d, "UnseenRingModel", b_M_pour, 8, false) 0 0 114 [some (.ref q), some (.int p1), some (.int p2), some (.int p3), some (.int p4), some (.int p5), none, none] [.int (am_b r5)] (I3, L, R, am_SH) (po_M_pour R Q)
  exact am_iret d_M_pour_114 ⟨r5, I3, L, rfl, rfl, h⟩
def wb_M_pour_143 (R : am_TR) (q : Nat) (p1 : Int32) (p2 : Int32) (p3 : Int32) (p4 : Int32) (p5 : Int32) (Q : Bool → am_TI → am_TL → Prop) (K118 : am_TI → am_TL → Int32 → Prop) (I : am_TI) (L : am_TL) (v6 : Int32) (s0 : Int32) : Prop := (vp_in (((60 * p1) + p2) + s0) 240 ∧ (vp_in (((60 * p3) + p4) + s0) 240 ∧ (∀ L1, L1 = am_u2 L (q + 5) (Int32.toNatClampNeg (((60 * p3) + p4) + s0)) (L (q + 5) (Int32.toNatClampNeg (((60 * p1) + p2) + s0))) → K118 I L1 (v6 + 1))))
set_option maxRecDepth 20000 in
theorem tb_M_pour_143 {d : Nat}  {R : am_TR} {q : Nat} {p1 : Int32} {p2 : Int32} {p3 : Int32} {p4 : Int32} {p5 : Int32} {Q : Bool → am_TI → am_TL → Prop} {K118 : am_TI → am_TL → Int32 → Prop} (hw : am_Wf R) (hq : am_SH[q]? = some (.inl 12)) (hK118 : ∀ (I : am_TI) (L : am_TL) (v6 : Int32), K118 I L v6 → am_Wp (d, "UnseenRingModel", b_M_pour, 8, false) 0 0 118 [some (.ref q), some (.int p1), some (.int p2), some (.int p3), some (.int p4), some (.int p5), some (.int v6), none] [] (I, L, R, am_SH) (po_M_pour R Q)) (hd : 1 ≤ d) (I : am_TI) (L : am_TL) (v6 : Int32) (s0 : Int32) (h : wb_M_pour_143 R q p1 p2 p3 p4 p5 Q K118 I L v6 s0) : am_Wp (d, "UnseenRingModel", b_M_pour, 8, false) 0 0 143 [some (.ref q), some (.int p1), some (.int p2), some (.int p3), some (.int p4), some (.int p5), some (.int v6), none] [.int s0] (I, L, R, am_SH) (po_M_pour R Q) := by
  unfold wb_M_pour_143 at h
  refine am_istore (ls' := [some (.ref q), some (.int p1), some (.int p2), some (.int p3), some (.int p4), some (.int p5), some (.int v6), some (.int s0)]) (n := 145) d_M_pour_143 (by decide) rfl rfl ?_
  refine am_aload_n (n := 146) d_M_pour_145 rfl rfl ?_
  refine am_getR (x := (q + 5)) (n := 149) f_M_27 d_M_pour_146 rfl rfl hq (hw.1 q 12 7 5 hq rfl) ?_
  refine am_bipush (n := 151) d_M_pour_149 cb_60 rfl ?_
  refine am_iload_n (n := 152) d_M_pour_151 rfl rfl ?_
  refine am_imul (n := 153) d_M_pour_152 rfl ?_
  refine am_iload (n := 155) d_M_pour_153 rfl rfl ?_
  refine am_iadd (n := 156) d_M_pour_155 rfl ?_
  refine am_iload (n := 158) d_M_pour_156 rfl rfl ?_
  refine am_iadd (n := 159) d_M_pour_158 rfl ?_
  refine am_aload_n (n := 160) d_M_pour_159 rfl rfl ?_
  refine am_getR (x := (q + 5)) (n := 163) f_M_27 d_M_pour_160 rfl rfl hq (hw.1 q 12 7 5 hq rfl) ?_
  refine am_bipush (n := 165) d_M_pour_163 cb_60 rfl ?_
  refine am_iload_n (n := 166) d_M_pour_165 rfl rfl ?_
  refine am_imul (n := 167) d_M_pour_166 rfl ?_
  refine am_iload_n (n := 168) d_M_pour_167 rfl rfl ?_
  refine am_iadd (n := 169) d_M_pour_168 rfl ?_
  refine am_iload (n := 171) d_M_pour_169 rfl rfl ?_
  refine am_iadd (n := 172) d_M_pour_171 rfl ?_
  obtain ⟨g7, h⟩ := h
  refine am_lald2 (n := 173) d_M_pour_172 rfl (am_sho (k := 7) (o := 5) hq (by decide) (by decide) (by decide) rfl) g7 rfl ?_
  obtain ⟨g8, h⟩ := h
  refine am_last2 (n := 174) d_M_pour_173 rfl (am_sho (k := 7) (o := 5) hq (by decide) (by decide) (by decide) rfl) g8 rfl ?_
  generalize eL1 : am_u2 L (q + 5) (Int32.toNatClampNeg (((60 * p3) + p4) + s0)) (L (q + 5) (Int32.toNatClampNeg (((60 * p1) + p2) + s0))) = L1
  have h := h L1 eL1.symm
  refine am_iinc (v := v6 + 1) (ls' := [some (.ref q), some (.int p1), some (.int p2), some (.int p3), some (.int p4), some (.int p5), some (.int (v6 + 1)), some (.int s0)]) (n := 177) d_M_pour_174 rfl (congrArg _ ci_1) (by decide) rfl rfl ?_
  refine am_goto (tgt := 118) d_M_pour_177 rfl ?_
  refine am_forget (ls' := [some (.ref q), some (.int p1), some (.int p2), some (.int p3), some (.int p4), some (.int p5), some (.int (v6 + 1)), none]) (am_le_s (am_le_s (am_le_s (am_le_s (am_le_s (am_le_s (am_le_s (am_le_n am_le_e)))))))) ?_
  exact hK118 I L1 (v6 + 1)  h
def wl_M_pour_118 (R : am_TR) (q : Nat) (p1 : Int32) (p2 : Int32) (p3 : Int32) (p4 : Int32) (p5 : Int32) (Q : Bool → am_TI → am_TL → Prop)  : Nat → am_TI → am_TL → Int32 → Prop
  | 0 => fun _ _ _ => False
  | f118 + 1 => fun I L v6 => ((p5 ≤ v6 → wp_M_is I L R q 0 (fun (r6 : Bool) (I4 : am_TI) => Q r6 I4 L)) ∧ (¬ p5 ≤ v6 → ((p4 ≤ p2 → wb_M_pour_143 R q p1 p2 p3 p4 p5 Q (wl_M_pour_118 R q p1 p2 p3 p4 p5 Q f118) I L v6 v6) ∧ (¬ p4 ≤ p2 → wb_M_pour_143 R q p1 p2 p3 p4 p5 Q (wl_M_pour_118 R q p1 p2 p3 p4 p5 Q f118) I L v6 ((p5 - 1) - v6)))))
set_option maxRecDepth 20000 in
theorem tl_M_pour_118 {d : Nat}  {R : am_TR} {q : Nat} {p1 : Int32} {p2 : Int32} {p3 : Int32} {p4 : Int32} {p5 : Int32} {Q : Bool → am_TI → am_TL → Prop}  (hw : am_Wf R) (hq : am_SH[q]? = some (.inl 12)) (hd : 1 ≤ d) : ∀ (n : Nat) (I : am_TI) (L : am_TL) (v6 : Int32), wl_M_pour_118 R q p1 p2 p3 p4 p5 Q  n I L v6 → am_Wp (d, "UnseenRingModel", b_M_pour, 8, false) 0 0 118 [some (.ref q), some (.int p1), some (.int p2), some (.int p3), some (.int p4), some (.int p5), some (.int v6), none] [] (I, L, R, am_SH) (po_M_pour R Q) := by
  intro n
  induction n with
  | zero => intro I L v6 h; exact h.elim
  | succ n ih =>
    intro I L v6 h
    unfold wl_M_pour_118 at h
    refine am_iload (n := 120) d_M_pour_118 rfl rfl ?_
    refine am_iload (n := 122) d_M_pour_120 rfl rfl ?_
    refine am_icmp_ge (tgt := 180) (n := 125) d_M_pour_122 rfl rfl (fun c11 => ?_) (fun c11 => ?_)
    · have h := h.1 c11
      refine am_aload_n (n := 181) d_M_pour_180 rfl rfl ?_
      refine am_iconst (n := 182) d_M_pour_181 ci_0 rfl ?_
      refine am_callV (kc := 0) (ks := 0) (As := [.int 0]) (n := 185) d_M_pour_182 rfl ce_M_is lk_M_128 in_M_is rfl rfl hq rfl rfl (Nat.le_of_ble_eq_true rfl) (Or.inl rfl) (cm_M_is (d := d - 1) hw (by omega) hq h) (by omega) ?_
      rintro _ _ ⟨r6, I4, rfl, rfl, h⟩
      show am_Wp (d, "UnseenRingModel", b_M_pour, 8, false) 0 0 185 [some (.ref q), some (.int p1), some (.int p2), some (.int p3), some (.int p4), some (.int p5), some (.int v6), none] [.int (am_b r6)] (I4, L, R, am_SH) (po_M_pour R Q)
      exact am_iret d_M_pour_185 ⟨r6, I4, L, rfl, rfl, h⟩
    · have h := h.2 c11
      refine am_iload_n (n := 126) d_M_pour_125 rfl rfl ?_
      refine am_iload (n := 128) d_M_pour_126 rfl rfl ?_
      refine am_icmp_ge (tgt := 141) (n := 131) d_M_pour_128 rfl rfl (fun c12 => ?_) (fun c12 => ?_)
      · have h := h.1 c12
        refine am_iload (n := 143) d_M_pour_141 rfl rfl ?_
        exact tb_M_pour_143 hw hq ih hd I L v6 v6 h
      · have h := h.2 c12
        refine am_iload (n := 133) d_M_pour_131 rfl rfl ?_
        refine am_iconst (n := 134) d_M_pour_133 ci_1 rfl ?_
        refine am_isub (n := 135) d_M_pour_134 rfl ?_
        refine am_iload (n := 137) d_M_pour_135 rfl rfl ?_
        refine am_isub (n := 138) d_M_pour_137 rfl ?_
        refine am_goto (tgt := 143) d_M_pour_138 rfl ?_
        exact tb_M_pour_143 hw hq ih hd I L v6 ((p5 - 1) - v6) h
def wp_M_pour (I : am_TI) (L : am_TL) (R : am_TR) (q : Nat) (p1 : Int32) (p2 : Int32) (p3 : Int32) (p4 : Int32) (p5 : Int32)  (Q : Bool → am_TI → am_TL → Prop) : Prop := wp_M_isTray I L R p1 (fun (r1 : Bool) => ((r1 = false → wb_M_pour_28 R q p1 p2 p3 p4 p5 Q I L) ∧ (r1 = true → wp_M_isTray I L R p3 (fun (r3 : Bool) => ((r3 = false → wb_M_pour_28 R q p1 p2 p3 p4 p5 Q I L) ∧ (r3 = true → ((p2 < 0 → wb_M_pour_28 R q p1 p2 p3 p4 p5 Q I L) ∧ (¬ p2 < 0 → ((p4 < 0 → wb_M_pour_28 R q p1 p2 p3 p4 p5 Q I L) ∧ (¬ p4 < 0 → ((0 ≤ p5 → (vp_in p1 4 ∧ (((I (q + 4) (Int32.toNatClampNeg p1)) = (-1) → wb_M_pour_54 R q p1 p2 p3 p4 p5 Q I L) ∧ (¬ (I (q + 4) (Int32.toNatClampNeg p1)) = (-1) → (vp_in p3 4 ∧ (((I (q + 4) (Int32.toNatClampNeg p3)) = (-1) → wb_M_pour_54 R q p1 p2 p3 p4 p5 Q I L) ∧ (¬ (I (q + 4) (Int32.toNatClampNeg p3)) = (-1) → (vp_in p1 4 ∧ (vp_in p3 4 ∧ (((I (q + 3) (Int32.toNatClampNeg p1)) = (I (q + 3) (Int32.toNatClampNeg p3)) → (vp_in p1 4 ∧ ((((I (q + 4) (Int32.toNatClampNeg p1)) - p2) < p5 → wb_M_pour_109 R q p1 p2 p3 p4 p5 Q I L) ∧ (¬ ((I (q + 4) (Int32.toNatClampNeg p1)) - p2) < p5 → (vp_in p3 4 ∧ ((p5 ≤ ((I (q + 4) (Int32.toNatClampNeg p3)) - p4) → (∃ z, wl_M_pour_118 R q p1 p2 p3 p4 p5 Q z I L 0)) ∧ (¬ p5 ≤ ((I (q + 4) (Int32.toNatClampNeg p3)) - p4) → wb_M_pour_109 R q p1 p2 p3 p4 p5 Q I L))))))) ∧ (¬ (I (q + 3) (Int32.toNatClampNeg p1)) = (I (q + 3) (Int32.toNatClampNeg p3)) → wp_M_is I L R q 8 (fun (r7 : Bool) (I5 : am_TI) => Q r7 I5 L)))))))))))) ∧ (¬ 0 ≤ p5 → wb_M_pour_28 R q p1 p2 p3 p4 p5 Q I L))))))))))))
set_option maxRecDepth 20000 in
theorem cm_M_pour {d : Nat} {I : am_TI} {L : am_TL} {R : am_TR}  (hw : am_Wf R)   {q : Nat} {p1 : Int32} {p2 : Int32} {p3 : Int32} {p4 : Int32} {p5 : Int32} {Q : Bool → am_TI → am_TL → Prop} (hd : 1 ≤ d) (hq : am_SH[q]? = some (.inl 12)) (h : wp_M_pour I L R q p1 p2 p3 p4 p5  Q) : am_Cm d 0 0 y_M_pour b_M_pour 8 (some .boolean) [.ref q, .int p1, .int p2, .int p3, .int p4, .int p5] (I, L, R, am_SH) (po_M_pour R Q) := by
  refine am_Cm_of (ini := false) (by decide +kernel) (fun z => by cases z) (by simp [Value.category]) (fun r σ' z => by obtain ⟨x, _, _, rfl, -⟩ := z; exact ⟨_, rfl, am_b_nar x⟩) ?_
  unfold wp_M_pour at h
  show am_Wp (d, "UnseenRingModel", b_M_pour, 8, false) 0 0 0 [some (.ref q), some (.int p1), some (.int p2), some (.int p3), some (.int p4), some (.int p5), none, none] [] (I, L, R, am_SH) (po_M_pour R Q)
  refine am_iload_n (n := 1) d_M_pour_0 rfl rfl ?_
  refine am_callS (kc := 0) (ks := 0) (As := [.int p1]) (n := 4) d_M_pour_1 rfl ce_M_isTray lk_M_132 st_M_isTray rfl rfl (Nat.le_of_ble_eq_true rfl) (Or.inl rfl) (cm_M_isTray (d := d - 1) hw (by omega)  h) (by omega) ?_
  rintro _ _ ⟨r1, rfl, rfl, h⟩
  show am_Wp (d, "UnseenRingModel", b_M_pour, 8, false) 0 0 4 [some (.ref q), some (.int p1), some (.int p2), some (.int p3), some (.int p4), some (.int p5), none, none] [.int (am_b r1)] (I, L, R, am_SH) (po_M_pour R Q)
  refine am_if_eq (y := 0) (tgt := 28) (n := 7) d_M_pour_4 rfl rfl (fun c1 => ?_) (fun c1 => ?_)
  · have h := h.1 (am_b_0 c1)
    exact tb_M_pour_28 hw hq hd I L h
  · have h := h.2 (am_b_n0 c1)
    refine am_iload_n (n := 8) d_M_pour_7 rfl rfl ?_
    refine am_callS (kc := 0) (ks := 0) (As := [.int p3]) (n := 11) d_M_pour_8 rfl ce_M_isTray lk_M_132 st_M_isTray rfl rfl (Nat.le_of_ble_eq_true rfl) (Or.inl rfl) (cm_M_isTray (d := d - 1) hw (by omega)  h) (by omega) ?_
    rintro _ _ ⟨r3, rfl, rfl, h⟩
    show am_Wp (d, "UnseenRingModel", b_M_pour, 8, false) 0 0 11 [some (.ref q), some (.int p1), some (.int p2), some (.int p3), some (.int p4), some (.int p5), none, none] [.int (am_b r3)] (I, L, R, am_SH) (po_M_pour R Q)
    refine am_if_eq (y := 0) (tgt := 28) (n := 14) d_M_pour_11 rfl rfl (fun c2 => ?_) (fun c2 => ?_)
    · have h := h.1 (am_b_0 c2)
      exact tb_M_pour_28 hw hq hd I L h
    · have h := h.2 (am_b_n0 c2)
      refine am_iload_n (n := 15) d_M_pour_14 rfl rfl ?_
      refine am_if_lt (y := 0) (tgt := 28) (n := 18) d_M_pour_15 rfl rfl (fun c3 => ?_) (fun c3 => ?_)
      · have h := h.1 c3
        exact tb_M_pour_28 hw hq hd I L h
      · have h := h.2 c3
        refine am_iload (n := 20) d_M_pour_18 rfl rfl ?_
        refine am_if_lt (y := 0) (tgt := 28) (n := 23) d_M_pour_20 rfl rfl (fun c4 => ?_) (fun c4 => ?_)
        · have h := h.1 c4
          exact tb_M_pour_28 hw hq hd I L h
        · have h := h.2 c4
          refine am_iload (n := 25) d_M_pour_23 rfl rfl ?_
          refine am_if_ge (y := 0) (tgt := 34) (n := 28) d_M_pour_25 rfl rfl (fun c5 => ?_) (fun c5 => ?_)
          · have h := h.1 c5
            refine am_aload_n (n := 35) d_M_pour_34 rfl rfl ?_
            refine am_getR (x := (q + 4)) (n := 38) f_M_24 d_M_pour_35 rfl rfl hq (hw.1 q 12 6 4 hq rfl) ?_
            refine am_iload_n (n := 39) d_M_pour_38 rfl rfl ?_
            obtain ⟨g1, h⟩ := h
            refine am_iald2 (n := 40) d_M_pour_39 rfl (am_sho (k := 6) (o := 4) hq (by decide) (by decide) (by decide) rfl) g1 rfl ?_
            refine am_iconst (n := 41) d_M_pour_40 ci_m1 rfl ?_
            refine am_icmp_eq (tgt := 54) (n := 44) d_M_pour_41 rfl rfl (fun c6 => ?_) (fun c6 => ?_)
            · have h := h.1 c6
              exact tb_M_pour_54 hw hq hd I L h
            · have h := h.2 c6
              refine am_aload_n (n := 45) d_M_pour_44 rfl rfl ?_
              refine am_getR (x := (q + 4)) (n := 48) f_M_24 d_M_pour_45 rfl rfl hq (hw.1 q 12 6 4 hq rfl) ?_
              refine am_iload_n (n := 49) d_M_pour_48 rfl rfl ?_
              obtain ⟨g2, h⟩ := h
              refine am_iald2 (n := 50) d_M_pour_49 rfl (am_sho (k := 6) (o := 4) hq (by decide) (by decide) (by decide) rfl) g2 rfl ?_
              refine am_iconst (n := 51) d_M_pour_50 ci_m1 rfl ?_
              refine am_icmp_ne (tgt := 60) (n := 54) d_M_pour_51 rfl rfl (fun c7 => ?_) (fun c7 => ?_)
              · have h := h.2 c7
                refine am_aload_n (n := 61) d_M_pour_60 rfl rfl ?_
                refine am_getR (x := (q + 3)) (n := 64) f_M_21 d_M_pour_61 rfl rfl hq (hw.1 q 12 5 3 hq rfl) ?_
                refine am_iload_n (n := 65) d_M_pour_64 rfl rfl ?_
                obtain ⟨g3, h⟩ := h
                refine am_iald2 (n := 66) d_M_pour_65 rfl (am_sho (k := 5) (o := 3) hq (by decide) (by decide) (by decide) rfl) g3 rfl ?_
                refine am_aload_n (n := 67) d_M_pour_66 rfl rfl ?_
                refine am_getR (x := (q + 3)) (n := 70) f_M_21 d_M_pour_67 rfl rfl hq (hw.1 q 12 5 3 hq rfl) ?_
                refine am_iload_n (n := 71) d_M_pour_70 rfl rfl ?_
                obtain ⟨g4, h⟩ := h
                refine am_iald2 (n := 72) d_M_pour_71 rfl (am_sho (k := 5) (o := 3) hq (by decide) (by decide) (by decide) rfl) g4 rfl ?_
                refine am_icmp_eq (tgt := 82) (n := 75) d_M_pour_72 rfl rfl (fun c8 => ?_) (fun c8 => ?_)
                · have h := h.1 c8
                  refine am_iload (n := 84) d_M_pour_82 rfl rfl ?_
                  refine am_aload_n (n := 85) d_M_pour_84 rfl rfl ?_
                  refine am_getR (x := (q + 4)) (n := 88) f_M_24 d_M_pour_85 rfl rfl hq (hw.1 q 12 6 4 hq rfl) ?_
                  refine am_iload_n (n := 89) d_M_pour_88 rfl rfl ?_
                  obtain ⟨g5, h⟩ := h
                  refine am_iald2 (n := 90) d_M_pour_89 rfl (am_sho (k := 6) (o := 4) hq (by decide) (by decide) (by decide) rfl) g5 rfl ?_
                  refine am_iload_n (n := 91) d_M_pour_90 rfl rfl ?_
                  refine am_isub (n := 92) d_M_pour_91 rfl ?_
                  refine am_icmp_gt (tgt := 109) (n := 95) d_M_pour_92 rfl rfl (fun c9 => ?_) (fun c9 => ?_)
                  · have h := h.1 c9
                    exact tb_M_pour_109 hw hq hd I L h
                  · have h := h.2 c9
                    refine am_iload (n := 97) d_M_pour_95 rfl rfl ?_
                    refine am_aload_n (n := 98) d_M_pour_97 rfl rfl ?_
                    refine am_getR (x := (q + 4)) (n := 101) f_M_24 d_M_pour_98 rfl rfl hq (hw.1 q 12 6 4 hq rfl) ?_
                    refine am_iload_n (n := 102) d_M_pour_101 rfl rfl ?_
                    obtain ⟨g6, h⟩ := h
                    refine am_iald2 (n := 103) d_M_pour_102 rfl (am_sho (k := 6) (o := 4) hq (by decide) (by decide) (by decide) rfl) g6 rfl ?_
                    refine am_iload (n := 105) d_M_pour_103 rfl rfl ?_
                    refine am_isub (n := 106) d_M_pour_105 rfl ?_
                    refine am_icmp_le (tgt := 115) (n := 109) d_M_pour_106 rfl rfl (fun c10 => ?_) (fun c10 => ?_)
                    · have h := h.1 c10
                      refine am_iconst (n := 116) d_M_pour_115 ci_0 rfl ?_
                      refine am_istore (ls' := [some (.ref q), some (.int p1), some (.int p2), some (.int p3), some (.int p4), some (.int p5), some (.int 0), none]) (n := 118) d_M_pour_116 (by decide) rfl rfl ?_
                      obtain ⟨n, h⟩ := h
                      exact tl_M_pour_118 hw hq hd n I L 0 h
                    · have h := h.2 c10
                      exact tb_M_pour_109 hw hq hd I L h
                · have h := h.2 c8
                  refine am_aload_n (n := 76) d_M_pour_75 rfl rfl ?_
                  refine am_bipush (n := 78) d_M_pour_76 cb_8 rfl ?_
                  refine am_callV (kc := 0) (ks := 0) (As := [.int 8]) (n := 81) d_M_pour_78 rfl ce_M_is lk_M_128 in_M_is rfl rfl hq rfl rfl (Nat.le_of_ble_eq_true rfl) (Or.inl rfl) (cm_M_is (d := d - 1) hw (by omega) hq h) (by omega) ?_
                  rintro _ _ ⟨r7, I5, rfl, rfl, h⟩
                  show am_Wp (d, "UnseenRingModel", b_M_pour, 8, false) 0 0 81 [some (.ref q), some (.int p1), some (.int p2), some (.int p3), some (.int p4), some (.int p5), none, none] [.int (am_b r7)] (I5, L, R, am_SH) (po_M_pour R Q)
                  exact am_iret d_M_pour_81 ⟨r7, I5, L, rfl, rfl, h⟩
              · have h := h.1 c7
                exact tb_M_pour_54 hw hq hd I L h
          · have h := h.2 c5
            exact tb_M_pour_28 hw hq hd I L h
abbrev po_M_four (L : am_TL) (R : am_TR) (Q : am_TI → Prop) : Option Value → am_St → Prop := fun r σ' => ∃ (I' : am_TI), r = none ∧ σ' = (I', L, R, am_SH) ∧ Q I'
def wl_M_four_3 (L : am_TL) (R : am_TR) (q : Nat) (p1 : Int32) (Q : am_TI → Prop)  : Nat → am_TI → Int32 → Prop
  | 0 => fun _ _ => False
  | f3 + 1 => fun I v2 => ((v2 < 0 → Q I) ∧ (¬ v2 < 0 → (vp_in (I q 10) 900 ∧ (∀ I1, I1 = am_u2 I (q + 6) (Int32.toNatClampNeg (I q 10)) (vp_nar .byte (Int8.toInt32 (Int32.toInt8 (p1 >>> (v2 &&& 31))))) → (∀ I2, I2 = am_u2 I1 q 10 ((I1 q 10) + 1) → wl_M_four_3 L R q p1 Q f3 I2 (v2 + (-8)))))))
set_option maxRecDepth 20000 in
theorem tl_M_four_3 {d : Nat}  {L : am_TL} {R : am_TR} {q : Nat} {p1 : Int32} {Q : am_TI → Prop}  (hw : am_Wf R) (hq : am_SH[q]? = some (.inl 12)) (hd : 0 ≤ d) : ∀ (n : Nat) (I : am_TI) (v2 : Int32), wl_M_four_3 L R q p1 Q  n I v2 → am_Wp (d, "UnseenRingModel", b_M_four, 3, false) 0 0 3 [some (.ref q), some (.int p1), some (.int v2)] [] (I, L, R, am_SH) (po_M_four L R Q) := by
  intro n
  induction n with
  | zero => intro I v2 h; exact h.elim
  | succ n ih =>
    intro I v2 h
    unfold wl_M_four_3 at h
    refine am_iload_n (n := 4) d_M_four_3 rfl rfl ?_
    refine am_if_lt (y := 0) (tgt := 36) (n := 7) d_M_four_4 rfl rfl (fun c1 => ?_) (fun c1 => ?_)
    · have h := h.1 c1
      exact am_vret d_M_four_36 ⟨I, rfl, rfl, h⟩
    · have h := h.2 c1
      refine am_aload_n (n := 8) d_M_four_7 rfl rfl ?_
      refine am_getR (x := (q + 6)) (n := 11) f_M_30 d_M_four_8 rfl rfl hq (hw.1 q 12 8 6 hq rfl) ?_
      refine am_aload_n (n := 12) d_M_four_11 rfl rfl ?_
      refine am_getI (n := 15) f_M_145 d_M_four_12 rfl rfl hq ?_
      refine am_iload_n (n := 16) d_M_four_15 rfl rfl ?_
      refine am_iload_n (n := 17) d_M_four_16 rfl rfl ?_
      refine am_ishr (n := 18) d_M_four_17 rfl ?_
      refine am_i2b (n := 19) d_M_four_18 rfl ?_
      obtain ⟨g1, h⟩ := h
      refine am_bast2 (n := 20) d_M_four_19 rfl (am_sho (k := 8) (o := 6) hq (by decide) (by decide) (by decide) rfl) g1 rfl ?_
      generalize eI1 : am_u2 I (q + 6) (Int32.toNatClampNeg (I q 10)) (vp_nar .byte (Int8.toInt32 (Int32.toInt8 (p1 >>> (v2 &&& 31))))) = I1
      have h := h I1 eI1.symm
      refine am_aload_n (n := 21) d_M_four_20 rfl rfl ?_
      refine am_dup (n := 22) d_M_four_21 rfl rfl ?_
      refine am_getI (n := 25) f_M_145 d_M_four_22 rfl rfl hq ?_
      refine am_iconst (n := 26) d_M_four_25 ci_1 rfl ?_
      refine am_iadd (n := 27) d_M_four_26 rfl ?_
      refine am_putI (n := 30) f_M_145 d_M_four_27 rfl ⟨_, rfl, Or.inl rfl⟩ rfl rfl hq ?_
      generalize eI2 : am_u2 I1 q 10 ((I1 q 10) + 1) = I2
      have h := h I2 eI2.symm
      refine am_iinc (v := v2 + (-8)) (ls' := [some (.ref q), some (.int p1), some (.int (v2 + (-8)))]) (n := 33) d_M_four_30 rfl (congrArg _ ci_m8) (by decide) rfl rfl ?_
      refine am_goto (tgt := 3) d_M_four_33 rfl ?_
      exact ih I2 (v2 + (-8))  h
def wp_M_four (I : am_TI) (L : am_TL) (R : am_TR) (q : Nat) (p1 : Int32)  (Q : am_TI → Prop) : Prop := (∃ z, wl_M_four_3 L R q p1 Q z I 24)
set_option maxRecDepth 20000 in
theorem cm_M_four {d : Nat} {I : am_TI} {L : am_TL} {R : am_TR}  (hw : am_Wf R)   {q : Nat} {p1 : Int32} {Q : am_TI → Prop} (hd : 0 ≤ d) (hq : am_SH[q]? = some (.inl 12)) (h : wp_M_four I L R q p1  Q) : am_Cm d 0 0 y_M_four b_M_four 3 (none) [.ref q, .int p1] (I, L, R, am_SH) (po_M_four L R Q) := by
  refine am_Cm_of (ini := false) (by decide +kernel) (fun z => by cases z) (by simp [Value.category]) (fun r σ' z => by obtain ⟨_, rfl, -⟩ := z; rfl) ?_
  unfold wp_M_four at h
  show am_Wp (d, "UnseenRingModel", b_M_four, 3, false) 0 0 0 [some (.ref q), some (.int p1), none] [] (I, L, R, am_SH) (po_M_four L R Q)
  refine am_bipush (n := 2) d_M_four_0 cb_24 rfl ?_
  refine am_istore_n (ls' := [some (.ref q), some (.int p1), some (.int 24)]) (n := 3) d_M_four_2 (by decide) rfl rfl ?_
  obtain ⟨n, h⟩ := h
  exact tl_M_four_3 hw hq hd n I 24 h
abbrev po_M_feed (L : am_TL) (R : am_TR) (Q : Int32 → am_TI → Prop) : Option Value → am_St → Prop := fun r σ' => ∃ (x : Int32) (I' : am_TI), r = some (.int x) ∧ σ' = (I', L, R, am_SH) ∧ Q x I'
def wp_M_feed (I : am_TI) (L : am_TL) (R : am_TR) (q : Nat) (p1 : Int32) (p2 : Int32) (p3 : Int32) (p4 : Int32) (p5 : Int32)  (Q : Int32 → am_TI → Prop) : Prop := ((((I q 10) + 20) ≤ 900 → wp_M_four I L R q p1 (fun (I1 : am_TI) => wp_M_four I1 L R q p2 (fun (I2 : am_TI) => wp_M_four I2 L R q p3 (fun (I3 : am_TI) => wp_M_four I3 L R q p4 (fun (I4 : am_TI) => wp_M_four I4 L R q p5 (fun (I5 : am_TI) => Q (I5 q 10) I5)))))) ∧ (¬ ((I q 10) + 20) ≤ 900 → Q (-1) I))
set_option maxRecDepth 20000 in
theorem cm_M_feed {d : Nat} {I : am_TI} {L : am_TL} {R : am_TR}  (hw : am_Wf R)   {q : Nat} {p1 : Int32} {p2 : Int32} {p3 : Int32} {p4 : Int32} {p5 : Int32} {Q : Int32 → am_TI → Prop} (hd : 1 ≤ d) (hq : am_SH[q]? = some (.inl 12)) (h : wp_M_feed I L R q p1 p2 p3 p4 p5  Q) : am_Cm d 0 0 y_M_feed b_M_feed 6 (some .int) [.ref q, .int p1, .int p2, .int p3, .int p4, .int p5] (I, L, R, am_SH) (po_M_feed L R Q) := by
  refine am_Cm_of (ini := false) (by decide +kernel) (fun z => by cases z) (by simp [Value.category]) (fun r σ' z => by obtain ⟨x, _, rfl, -⟩ := z; exact ⟨_, rfl, rfl⟩) ?_
  unfold wp_M_feed at h
  show am_Wp (d, "UnseenRingModel", b_M_feed, 6, false) 0 0 0 [some (.ref q), some (.int p1), some (.int p2), some (.int p3), some (.int p4), some (.int p5)] [] (I, L, R, am_SH) (po_M_feed L R Q)
  refine am_aload_n (n := 1) d_M_feed_0 rfl rfl ?_
  refine am_getI (n := 4) f_M_145 d_M_feed_1 rfl rfl hq ?_
  refine am_bipush (n := 6) d_M_feed_4 cb_20 rfl ?_
  refine am_iadd (n := 7) d_M_feed_6 rfl ?_
  refine am_sipush (n := 10) d_M_feed_7 cs_900 rfl ?_
  refine am_icmp_le (tgt := 15) (n := 13) d_M_feed_10 rfl rfl (fun c1 => ?_) (fun c1 => ?_)
  · have h := h.1 c1
    refine am_aload_n (n := 16) d_M_feed_15 rfl rfl ?_
    refine am_iload_n (n := 17) d_M_feed_16 rfl rfl ?_
    refine am_callV (kc := 0) (ks := 0) (As := [.int p1]) (n := 20) d_M_feed_17 rfl ce_M_four lk_M_148 in_M_four rfl rfl hq rfl rfl (Nat.le_of_ble_eq_true rfl) (Or.inl rfl) (cm_M_four (d := d - 1) hw (by omega) hq h) (by omega) ?_
    rintro _ _ ⟨I1, rfl, rfl, h⟩
    show am_Wp (d, "UnseenRingModel", b_M_feed, 6, false) 0 0 20 [some (.ref q), some (.int p1), some (.int p2), some (.int p3), some (.int p4), some (.int p5)] [] (I1, L, R, am_SH) (po_M_feed L R Q)
    refine am_aload_n (n := 21) d_M_feed_20 rfl rfl ?_
    refine am_iload_n (n := 22) d_M_feed_21 rfl rfl ?_
    refine am_callV (kc := 0) (ks := 0) (As := [.int p2]) (n := 25) d_M_feed_22 rfl ce_M_four lk_M_148 in_M_four rfl rfl hq rfl rfl (Nat.le_of_ble_eq_true rfl) (Or.inl rfl) (cm_M_four (d := d - 1) hw (by omega) hq h) (by omega) ?_
    rintro _ _ ⟨I2, rfl, rfl, h⟩
    show am_Wp (d, "UnseenRingModel", b_M_feed, 6, false) 0 0 25 [some (.ref q), some (.int p1), some (.int p2), some (.int p3), some (.int p4), some (.int p5)] [] (I2, L, R, am_SH) (po_M_feed L R Q)
    refine am_aload_n (n := 26) d_M_feed_25 rfl rfl ?_
    refine am_iload_n (n := 27) d_M_feed_26 rfl rfl ?_
    refine am_callV (kc := 0) (ks := 0) (As := [.int p3]) (n := 30) d_M_feed_27 rfl ce_M_four lk_M_148 in_M_four rfl rfl hq rfl rfl (Nat.le_of_ble_eq_true rfl) (Or.inl rfl) (cm_M_four (d := d - 1) hw (by omega) hq h) (by omega) ?_
    rintro _ _ ⟨I3, rfl, rfl, h⟩
    show am_Wp (d, "UnseenRingModel", b_M_feed, 6, false) 0 0 30 [some (.ref q), some (.int p1), some (.int p2), some (.int p3), some (.int p4), some (.int p5)] [] (I3, L, R, am_SH) (po_M_feed L R Q)
    refine am_aload_n (n := 31) d_M_feed_30 rfl rfl ?_
    refine am_iload (n := 33) d_M_feed_31 rfl rfl ?_
    refine am_callV (kc := 0) (ks := 0) (As := [.int p4]) (n := 36) d_M_feed_33 rfl ce_M_four lk_M_148 in_M_four rfl rfl hq rfl rfl (Nat.le_of_ble_eq_true rfl) (Or.inl rfl) (cm_M_four (d := d - 1) hw (by omega) hq h) (by omega) ?_
    rintro _ _ ⟨I4, rfl, rfl, h⟩
    show am_Wp (d, "UnseenRingModel", b_M_feed, 6, false) 0 0 36 [some (.ref q), some (.int p1), some (.int p2), some (.int p3), some (.int p4), some (.int p5)] [] (I4, L, R, am_SH) (po_M_feed L R Q)
    refine am_aload_n (n := 37) d_M_feed_36 rfl rfl ?_
    refine am_iload (n := 39) d_M_feed_37 rfl rfl ?_
    refine am_callV (kc := 0) (ks := 0) (As := [.int p5]) (n := 42) d_M_feed_39 rfl ce_M_four lk_M_148 in_M_four rfl rfl hq rfl rfl (Nat.le_of_ble_eq_true rfl) (Or.inl rfl) (cm_M_four (d := d - 1) hw (by omega) hq h) (by omega) ?_
    rintro _ _ ⟨I5, rfl, rfl, h⟩
    show am_Wp (d, "UnseenRingModel", b_M_feed, 6, false) 0 0 42 [some (.ref q), some (.int p1), some (.int p2), some (.int p3), some (.int p4), some (.int p5)] [] (I5, L, R, am_SH) (po_M_feed L R Q)
    refine am_aload_n (n := 43) d_M_feed_42 rfl rfl ?_
    refine am_getI (n := 46) f_M_145 d_M_feed_43 rfl rfl hq ?_
    exact am_iret d_M_feed_46 ⟨(I5 q 10), I5, rfl, rfl, h⟩
  · have h := h.2 c1
    refine am_iconst (n := 14) d_M_feed_13 ci_m1 rfl ?_
    exact am_iret d_M_feed_14 ⟨(-1), I, rfl, rfl, h⟩
abbrev po_M_fault (I : am_TI) (L : am_TL) (R : am_TR) (Q : Int32 → Prop) : Option Value → am_St → Prop := fun r σ' => ∃ (x : Int32), r = some (.int x) ∧ σ' = (I, L, R, am_SH) ∧ Q x
def wp_M_fault (I : am_TI) (L : am_TL) (R : am_TR) (q : Nat) (p1 : Int32)  (Q : Int32 → Prop) : Prop := ((p1 = 0 → Q (I q 16)) ∧ (¬ p1 = 0 → ((p1 = 1 → Q (I q 17)) ∧ (¬ p1 = 1 → Q (-1)))))
set_option maxRecDepth 20000 in
theorem cm_M_fault {d : Nat} {I : am_TI} {L : am_TL} {R : am_TR}  (hw : am_Wf R)   {q : Nat} {p1 : Int32} {Q : Int32 → Prop} (hd : 0 ≤ d) (hq : am_SH[q]? = some (.inl 12)) (h : wp_M_fault I L R q p1  Q) : am_Cm d 0 0 y_M_fault b_M_fault 2 (some .int) [.ref q, .int p1] (I, L, R, am_SH) (po_M_fault I L R Q) := by
  refine am_Cm_of (ini := false) (by decide +kernel) (fun z => by cases z) (by simp [Value.category]) (fun r σ' z => by obtain ⟨x, rfl, -⟩ := z; exact ⟨_, rfl, rfl⟩) ?_
  unfold wp_M_fault at h
  show am_Wp (d, "UnseenRingModel", b_M_fault, 2, false) 0 0 0 [some (.ref q), some (.int p1)] [] (I, L, R, am_SH) (po_M_fault I L R Q)
  refine am_iload_n (n := 1) d_M_fault_0 rfl rfl ?_
  refine am_if_ne (y := 0) (tgt := 11) (n := 4) d_M_fault_1 rfl rfl (fun c1 => ?_) (fun c1 => ?_)
  · have h := h.2 c1
    refine am_iload_n (n := 12) d_M_fault_11 rfl rfl ?_
    refine am_iconst (n := 13) d_M_fault_12 ci_1 rfl ?_
    refine am_icmp_ne (tgt := 23) (n := 16) d_M_fault_13 rfl rfl (fun c2 => ?_) (fun c2 => ?_)
    · have h := h.2 c2
      refine am_iconst (n := 24) d_M_fault_23 ci_m1 rfl ?_
      exact am_iret d_M_fault_24 ⟨(-1), rfl, rfl, h⟩
    · have h := h.1 c2
      refine am_aload_n (n := 17) d_M_fault_16 rfl rfl ?_
      refine am_getI (n := 20) f_M_41 d_M_fault_17 rfl rfl hq ?_
      refine am_goto (tgt := 24) d_M_fault_20 rfl ?_
      exact am_iret d_M_fault_24 ⟨(I q 17), rfl, rfl, h⟩
  · have h := h.1 c1
    refine am_aload_n (n := 5) d_M_fault_4 rfl rfl ?_
    refine am_getI (n := 8) f_M_37 d_M_fault_5 rfl rfl hq ?_
    refine am_goto (tgt := 24) d_M_fault_8 rfl ?_
    exact am_iret d_M_fault_24 ⟨(I q 16), rfl, rfl, h⟩
abbrev po_M_byteAt (I : am_TI) (L : am_TL) (R : am_TR) (Q : Int32 → Prop) : Option Value → am_St → Prop := fun r σ' => ∃ (x : Int32), r = some (.int x) ∧ σ' = (I, L, R, am_SH) ∧ Q x
def wp_M_byteAt (I : am_TI) (L : am_TL) (R : am_TR) (q : Nat) (p1 : Int32)  (Q : Int32 → Prop) : Prop := (((I q 11) ≤ p1 → Q (-1)) ∧ (¬ (I q 11) ≤ p1 → (vp_in p1 900 ∧ Q ((I (q + 7) (Int32.toNatClampNeg p1)) &&& 255))))
set_option maxRecDepth 20000 in
theorem cm_M_byteAt {d : Nat} {I : am_TI} {L : am_TL} {R : am_TR}  (hw : am_Wf R)   {q : Nat} {p1 : Int32} {Q : Int32 → Prop} (hd : 0 ≤ d) (hq : am_SH[q]? = some (.inl 12)) (h : wp_M_byteAt I L R q p1  Q) : am_Cm d 0 0 y_M_byteAt b_M_byteAt 2 (some .int) [.ref q, .int p1] (I, L, R, am_SH) (po_M_byteAt I L R Q) := by
  refine am_Cm_of (ini := false) (by decide +kernel) (fun z => by cases z) (by simp [Value.category]) (fun r σ' z => by obtain ⟨x, rfl, -⟩ := z; exact ⟨_, rfl, rfl⟩) ?_
  unfold wp_M_byteAt at h
  show am_Wp (d, "UnseenRingModel", b_M_byteAt, 2, false) 0 0 0 [some (.ref q), some (.int p1)] [] (I, L, R, am_SH) (po_M_byteAt I L R Q)
  refine am_iload_n (n := 1) d_M_byteAt_0 rfl rfl ?_
  refine am_aload_n (n := 2) d_M_byteAt_1 rfl rfl ?_
  refine am_getI (n := 5) f_M_151 d_M_byteAt_2 rfl rfl hq ?_
  refine am_icmp_ge (tgt := 21) (n := 8) d_M_byteAt_5 rfl rfl (fun c1 => ?_) (fun c1 => ?_)
  · have h := h.1 c1
    refine am_iconst (n := 22) d_M_byteAt_21 ci_m1 rfl ?_
    exact am_iret d_M_byteAt_22 ⟨(-1), rfl, rfl, h⟩
  · have h := h.2 c1
    refine am_aload_n (n := 9) d_M_byteAt_8 rfl rfl ?_
    refine am_getR (x := (q + 7)) (n := 12) f_M_34 d_M_byteAt_9 rfl rfl hq (hw.1 q 12 9 7 hq rfl) ?_
    refine am_iload_n (n := 13) d_M_byteAt_12 rfl rfl ?_
    obtain ⟨g1, h⟩ := h
    refine am_bald2 (n := 14) d_M_byteAt_13 rfl (am_sho (k := 9) (o := 7) hq (by decide) (by decide) (by decide) rfl) g1 rfl ?_
    refine am_sipush (n := 17) d_M_byteAt_14 cs_255 rfl ?_
    refine am_iand (n := 18) d_M_byteAt_17 rfl ?_
    refine am_goto (tgt := 22) d_M_byteAt_18 rfl ?_
    exact am_iret d_M_byteAt_22 ⟨((I (q + 7) (Int32.toNatClampNeg p1)) &&& 255), rfl, rfl, h⟩
abbrev po_M_isDigit (I : am_TI) (L : am_TL) (R : am_TR) (Q : Bool → Prop) : Option Value → am_St → Prop := fun r σ' => ∃ (x : Bool), r = some (.int (am_b x)) ∧ σ' = (I, L, R, am_SH) ∧ Q x
def wp_M_isDigit (I : am_TI) (L : am_TL) (R : am_TR) (p0 : Int32)  (Q : Bool → Prop) : Prop := ((p0 < 48 → Q false) ∧ (¬ p0 < 48 → ((57 < p0 → Q false) ∧ (¬ 57 < p0 → Q true))))
set_option maxRecDepth 20000 in
theorem cm_M_isDigit {d : Nat} {I : am_TI} {L : am_TL} {R : am_TR}  (hw : am_Wf R)   {p0 : Int32} {Q : Bool → Prop} (hd : 0 ≤ d)  (h : wp_M_isDigit I L R p0  Q) : am_Cm d 0 0 y_M_isDigit b_M_isDigit 1 (some .boolean) [.int p0] (I, L, R, am_SH) (po_M_isDigit I L R Q) := by
  refine am_Cm_of (ini := false) (by decide +kernel) (fun z => by cases z) (by simp [Value.category]) (fun r σ' z => by obtain ⟨x, rfl, -⟩ := z; exact ⟨_, rfl, am_b_nar x⟩) ?_
  unfold wp_M_isDigit at h
  show am_Wp (d, "UnseenRingModel", b_M_isDigit, 1, false) 0 0 0 [some (.int p0)] [] (I, L, R, am_SH) (po_M_isDigit I L R Q)
  refine am_iload_n (n := 1) d_M_isDigit_0 rfl rfl ?_
  refine am_bipush (n := 3) d_M_isDigit_1 cb_48 rfl ?_
  refine am_icmp_lt (tgt := 16) (n := 6) d_M_isDigit_3 rfl rfl (fun c1 => ?_) (fun c1 => ?_)
  · have h := h.1 c1
    refine am_iconst (n := 17) d_M_isDigit_16 ci_0 rfl ?_
    exact am_iret d_M_isDigit_17 ⟨false, rfl, rfl, h⟩
  · have h := h.2 c1
    refine am_iload_n (n := 7) d_M_isDigit_6 rfl rfl ?_
    refine am_bipush (n := 9) d_M_isDigit_7 cb_57 rfl ?_
    refine am_icmp_gt (tgt := 16) (n := 12) d_M_isDigit_9 rfl rfl (fun c2 => ?_) (fun c2 => ?_)
    · have h := h.1 c2
      refine am_iconst (n := 17) d_M_isDigit_16 ci_0 rfl ?_
      exact am_iret d_M_isDigit_17 ⟨false, rfl, rfl, h⟩
    · have h := h.2 c2
      refine am_iconst (n := 13) d_M_isDigit_12 ci_1 rfl ?_
      refine am_goto (tgt := 17) d_M_isDigit_13 rfl ?_
      exact am_iret d_M_isDigit_17 ⟨true, rfl, rfl, h⟩
abbrev po_M_isSmall (I : am_TI) (L : am_TL) (R : am_TR) (Q : Bool → Prop) : Option Value → am_St → Prop := fun r σ' => ∃ (x : Bool), r = some (.int (am_b x)) ∧ σ' = (I, L, R, am_SH) ∧ Q x
def wp_M_isSmall (I : am_TI) (L : am_TL) (R : am_TR) (p0 : Int32)  (Q : Bool → Prop) : Prop := ((p0 < 97 → Q false) ∧ (¬ p0 < 97 → ((122 < p0 → Q false) ∧ (¬ 122 < p0 → Q true))))
set_option maxRecDepth 20000 in
theorem cm_M_isSmall {d : Nat} {I : am_TI} {L : am_TL} {R : am_TR}  (hw : am_Wf R)   {p0 : Int32} {Q : Bool → Prop} (hd : 0 ≤ d)  (h : wp_M_isSmall I L R p0  Q) : am_Cm d 0 0 y_M_isSmall b_M_isSmall 1 (some .boolean) [.int p0] (I, L, R, am_SH) (po_M_isSmall I L R Q) := by
  refine am_Cm_of (ini := false) (by decide +kernel) (fun z => by cases z) (by simp [Value.category]) (fun r σ' z => by obtain ⟨x, rfl, -⟩ := z; exact ⟨_, rfl, am_b_nar x⟩) ?_
  unfold wp_M_isSmall at h
  show am_Wp (d, "UnseenRingModel", b_M_isSmall, 1, false) 0 0 0 [some (.int p0)] [] (I, L, R, am_SH) (po_M_isSmall I L R Q)
  refine am_iload_n (n := 1) d_M_isSmall_0 rfl rfl ?_
  refine am_bipush (n := 3) d_M_isSmall_1 cb_97 rfl ?_
  refine am_icmp_lt (tgt := 16) (n := 6) d_M_isSmall_3 rfl rfl (fun c1 => ?_) (fun c1 => ?_)
  · have h := h.1 c1
    refine am_iconst (n := 17) d_M_isSmall_16 ci_0 rfl ?_
    exact am_iret d_M_isSmall_17 ⟨false, rfl, rfl, h⟩
  · have h := h.2 c1
    refine am_iload_n (n := 7) d_M_isSmall_6 rfl rfl ?_
    refine am_bipush (n := 9) d_M_isSmall_7 cb_122 rfl ?_
    refine am_icmp_gt (tgt := 16) (n := 12) d_M_isSmall_9 rfl rfl (fun c2 => ?_) (fun c2 => ?_)
    · have h := h.1 c2
      refine am_iconst (n := 17) d_M_isSmall_16 ci_0 rfl ?_
      exact am_iret d_M_isSmall_17 ⟨false, rfl, rfl, h⟩
    · have h := h.2 c2
      refine am_iconst (n := 13) d_M_isSmall_12 ci_1 rfl ?_
      refine am_goto (tgt := 17) d_M_isSmall_13 rfl ?_
      exact am_iret d_M_isSmall_17 ⟨true, rfl, rfl, h⟩
