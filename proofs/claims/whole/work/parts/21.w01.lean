abbrev po_Tokens_withLetter (I : am_TI) (L : am_TL) (R : am_TR) (Q : Int64 → Prop) : Option Value → am_St → Prop := fun r σ' => ∃ (x : Int64), r = some (.long x) ∧ σ' = (I, L, R, am_SH) ∧ Q x
def wp_Tokens_withLetter (I : am_TI) (L : am_TL) (R : am_TR) (p0 : Int64) (p2 : Int32)  (Q : Int64 → Prop) : Prop := Q ((p0 * 32) + (Int32.toInt64 ((p2 - 97) + 1)))
set_option maxRecDepth 20000 in
theorem cm_Tokens_withLetter {d : Nat} {I : am_TI} {L : am_TL} {R : am_TR}  (hw : am_Wf R)   {p0 : Int64} {p2 : Int32} {Q : Int64 → Prop} (hd : 0 ≤ d)  (h : wp_Tokens_withLetter I L R p0 p2  Q) : am_Cm d 0 0 y_Tokens_withLetter b_Tokens_withLetter 3 (some .long) [.long p0, .int p2] (I, L, R, am_SH) (po_Tokens_withLetter I L R Q) := by
  refine am_Cm_of (ini := false) (by decide +kernel) (fun z => by cases z) (by simp [Value.category]) (fun r σ' z => by obtain ⟨_, rfl, -⟩ := z; rfl) ?_
  unfold wp_Tokens_withLetter at h
  show am_Wp (d, "UnseenRing$Tokens", b_Tokens_withLetter, 3, false) 0 0 0 [some (.long p0), none, some (.int p2)] [] (I, L, R, am_SH) (po_Tokens_withLetter I L R Q)
  refine am_lload_n (n := 1) d_Tokens_withLetter_0 rfl rfl ?_
  refine am_ldc2 (n := 4) d_Tokens_withLetter_1 k_Tokens_113 rfl ?_
  refine am_lmul (n := 5) d_Tokens_withLetter_4 rfl ?_
  refine am_iload_n (n := 6) d_Tokens_withLetter_5 rfl rfl ?_
  refine am_bipush (n := 8) d_Tokens_withLetter_6 cb_97 rfl ?_
  refine am_isub (n := 9) d_Tokens_withLetter_8 rfl ?_
  refine am_iconst (n := 10) d_Tokens_withLetter_9 ci_1 rfl ?_
  refine am_iadd (n := 11) d_Tokens_withLetter_10 rfl ?_
  refine am_i2l (n := 12) d_Tokens_withLetter_11 rfl ?_
  refine am_ladd (n := 13) d_Tokens_withLetter_12 rfl ?_
  exact am_lret d_Tokens_withLetter_13 ⟨((p0 * 32) + (Int32.toInt64 ((p2 - 97) + 1))), rfl, rfl, h⟩
abbrev po_U_status (I : am_TI) (L : am_TL) (R : am_TR) (Q : Int32 → Prop) : Option Value → am_St → Prop := fun r σ' => ∃ (x : Int32), r = some (.int x) ∧ σ' = (I, L, R, am_SH) ∧ Q x
def wp_U_status (I : am_TI) (L : am_TL) (R : am_TR) (q : Nat)  (Q : Int32 → Prop) : Prop := Q (I q 15)
set_option maxRecDepth 20000 in
theorem cm_U_status {d : Nat} {I : am_TI} {L : am_TL} {R : am_TR}  (hw : am_Wf R)   {q : Nat} {Q : Int32 → Prop} (hd : 0 ≤ d) (hq : am_SH[q]? = some (.inl 11)) (h : wp_U_status I L R q  Q) : am_Cm d 0 0 y_U_status b_U_status 1 (some .int) [.ref q] (I, L, R, am_SH) (po_U_status I L R Q) := by
  refine am_Cm_of (ini := false) (by decide +kernel) (fun z => by cases z) (by simp [Value.category]) (fun r σ' z => by obtain ⟨x, rfl, -⟩ := z; exact ⟨_, rfl, rfl⟩) ?_
  unfold wp_U_status at h
  show am_Wp (d, "UnseenRing", b_U_status, 1, false) 0 0 0 [some (.ref q)] [] (I, L, R, am_SH) (po_U_status I L R Q)
  refine am_aload_n (n := 1) d_U_status_0 rfl rfl ?_
  refine am_getI (n := 4) f_U_99 d_U_status_1 rfl rfl hq ?_
  exact am_iret d_U_status_4 ⟨(I q 15), rfl, rfl, h⟩
abbrev po_U_top (I : am_TI) (L : am_TL) (R : am_TR) (Q : Int64 → Prop) : Option Value → am_St → Prop := fun r σ' => ∃ (x : Int64), r = some (.long x) ∧ σ' = (I, L, R, am_SH) ∧ Q x
def wp_U_top (I : am_TI) (L : am_TL) (R : am_TR) (q : Nat)  (Q : Int64 → Prop) : Prop := Q (L q 16)
set_option maxRecDepth 20000 in
theorem cm_U_top {d : Nat} {I : am_TI} {L : am_TL} {R : am_TR}  (hw : am_Wf R)   {q : Nat} {Q : Int64 → Prop} (hd : 0 ≤ d) (hq : am_SH[q]? = some (.inl 11)) (h : wp_U_top I L R q  Q) : am_Cm d 0 0 y_U_top b_U_top 1 (some .long) [.ref q] (I, L, R, am_SH) (po_U_top I L R Q) := by
  refine am_Cm_of (ini := false) (by decide +kernel) (fun z => by cases z) (by simp [Value.category]) (fun r σ' z => by obtain ⟨_, rfl, -⟩ := z; rfl) ?_
  unfold wp_U_top at h
  show am_Wp (d, "UnseenRing", b_U_top, 1, false) 0 0 0 [some (.ref q)] [] (I, L, R, am_SH) (po_U_top I L R Q)
  refine am_aload_n (n := 1) d_U_top_0 rfl rfl ?_
  refine am_getL (n := 4) f_U_102 d_U_top_1 rfl rfl hq ?_
  exact am_lret d_U_top_4 ⟨(L q 16), rfl, rfl, h⟩
abbrev po_U_bottom (I : am_TI) (L : am_TL) (R : am_TR) (Q : Int64 → Prop) : Option Value → am_St → Prop := fun r σ' => ∃ (x : Int64), r = some (.long x) ∧ σ' = (I, L, R, am_SH) ∧ Q x
def wp_U_bottom (I : am_TI) (L : am_TL) (R : am_TR) (q : Nat)  (Q : Int64 → Prop) : Prop := Q (L q 17)
set_option maxRecDepth 20000 in
theorem cm_U_bottom {d : Nat} {I : am_TI} {L : am_TL} {R : am_TR}  (hw : am_Wf R)   {q : Nat} {Q : Int64 → Prop} (hd : 0 ≤ d) (hq : am_SH[q]? = some (.inl 11)) (h : wp_U_bottom I L R q  Q) : am_Cm d 0 0 y_U_bottom b_U_bottom 1 (some .long) [.ref q] (I, L, R, am_SH) (po_U_bottom I L R Q) := by
  refine am_Cm_of (ini := false) (by decide +kernel) (fun z => by cases z) (by simp [Value.category]) (fun r σ' z => by obtain ⟨_, rfl, -⟩ := z; rfl) ?_
  unfold wp_U_bottom at h
  show am_Wp (d, "UnseenRing", b_U_bottom, 1, false) 0 0 0 [some (.ref q)] [] (I, L, R, am_SH) (po_U_bottom I L R Q)
  refine am_aload_n (n := 1) d_U_bottom_0 rfl rfl ?_
  refine am_getL (n := 4) f_U_106 d_U_bottom_1 rfl rfl hq ?_
  exact am_lret d_U_bottom_4 ⟨(L q 17), rfl, rfl, h⟩
abbrev po_Tray_lay (R : am_TR) (Q : am_TI → am_TL → Prop) : Option Value → am_St → Prop := fun r σ' => ∃ (I' : am_TI) (L' : am_TL), r = none ∧ σ' = (I', L', R, am_SH) ∧ Q I' L'
def wp_Tray_lay (I : am_TI) (L : am_TL) (R : am_TR) (q : Nat) (p1 : Int32) (p2 : Int32)  (Q : am_TI → am_TL → Prop) : Prop := (∀ I1, I1 = am_u2 I q 1 p1 → (∀ I2, I2 = am_u2 I1 q 2 p2 → wp_Arrays_fillJ I2 L R (q + 1) 60 0 (fun (L1 : am_TL) => Q I2 L1)))
set_option maxRecDepth 20000 in
theorem cm_Tray_lay {d : Nat} {I : am_TI} {L : am_TL} {R : am_TR}  (hw : am_Wf R)   {q : Nat} {p1 : Int32} {p2 : Int32} {Q : am_TI → am_TL → Prop} (hd : 1 ≤ d) (hq : am_SH[q]? = some (.inl 10)) (h : wp_Tray_lay I L R q p1 p2  Q) : am_Cm d 0 0 y_Tray_lay b_Tray_lay 3 (none) [.ref q, .int p1, .int p2] (I, L, R, am_SH) (po_Tray_lay R Q) := by
  refine am_Cm_of (ini := false) (by decide +kernel) (fun z => by cases z) (by simp [Value.category]) (fun r σ' z => by obtain ⟨_, _, rfl, -⟩ := z; rfl) ?_
  unfold wp_Tray_lay at h
  show am_Wp (d, "UnseenRing$Tray", b_Tray_lay, 3, false) 0 0 0 [some (.ref q), some (.int p1), some (.int p2)] [] (I, L, R, am_SH) (po_Tray_lay R Q)
  refine am_aload_n (n := 1) d_Tray_lay_0 rfl rfl ?_
  refine am_iload_n (n := 2) d_Tray_lay_1 rfl rfl ?_
  refine am_putI (n := 5) f_Tray_15 d_Tray_lay_2 rfl ⟨_, rfl, Or.inl rfl⟩ rfl rfl hq ?_
  generalize eI1 : am_u2 I q 1 p1 = I1
  have h := h I1 eI1.symm
  refine am_aload_n (n := 6) d_Tray_lay_5 rfl rfl ?_
  refine am_iload_n (n := 7) d_Tray_lay_6 rfl rfl ?_
  refine am_putI (n := 10) f_Tray_19 d_Tray_lay_7 rfl ⟨_, rfl, Or.inl rfl⟩ rfl rfl hq ?_
  generalize eI2 : am_u2 I1 q 2 p2 = I2
  have h := h I2 eI2.symm
  refine am_aload_n (n := 11) d_Tray_lay_10 rfl rfl ?_
  refine am_getR (x := (q + 1)) (n := 14) f_Tray_9 d_Tray_lay_11 rfl rfl hq (hw.1 q 10 0 1 hq rfl) ?_
  refine am_lconst (v := 0) (n := 15) d_Tray_lay_14 rfl rfl ?_
  refine am_callS (kc := 0) (ks := 0) (As := [.ref (q + 1), .long 0]) (n := 18) d_Tray_lay_15 rfl ce_Arrays_fillJ lk_Tray_22 st_Arrays_fillJ rfl rfl (Nat.le_of_ble_eq_true rfl) (Or.inl rfl) (cm_Arrays_fillJ (d := d - 1) hw (by omega) (am_sho (k := 0) (o := 1) hq (by decide) (by decide) (by decide) rfl) h) (by omega) ?_
  rintro _ _ ⟨L1, rfl, rfl, h⟩
  show am_Wp (d, "UnseenRing$Tray", b_Tray_lay, 3, false) 0 0 18 [some (.ref q), some (.int p1), some (.int p2)] [] (I2, L1, R, am_SH) (po_Tray_lay R Q)
  exact am_vret d_Tray_lay_18 ⟨I2, L1, rfl, rfl, h⟩
abbrev po_U_within (I : am_TI) (L : am_TL) (R : am_TR) (Q : Bool → Prop) : Option Value → am_St → Prop := fun r σ' => ∃ (x : Bool), r = some (.int (am_b x)) ∧ σ' = (I, L, R, am_SH) ∧ Q x
def wp_U_within (I : am_TI) (L : am_TL) (R : am_TR) (p0 : Int32) (p1 : Int32) (p2 : Int32)  (Q : Bool → Prop) : Prop := ((p0 < p1 → Q false) ∧ (¬ p0 < p1 → ((p2 < p0 → Q false) ∧ (¬ p2 < p0 → Q true))))
set_option maxRecDepth 20000 in
theorem cm_U_within {d : Nat} {I : am_TI} {L : am_TL} {R : am_TR}  (hw : am_Wf R)   {p0 : Int32} {p1 : Int32} {p2 : Int32} {Q : Bool → Prop} (hd : 0 ≤ d)  (h : wp_U_within I L R p0 p1 p2  Q) : am_Cm d 0 0 y_U_within b_U_within 3 (some .boolean) [.int p0, .int p1, .int p2] (I, L, R, am_SH) (po_U_within I L R Q) := by
  refine am_Cm_of (ini := false) (by decide +kernel) (fun z => by cases z) (by simp [Value.category]) (fun r σ' z => by obtain ⟨x, rfl, -⟩ := z; exact ⟨_, rfl, am_b_nar x⟩) ?_
  unfold wp_U_within at h
  show am_Wp (d, "UnseenRing", b_U_within, 3, false) 0 0 0 [some (.int p0), some (.int p1), some (.int p2)] [] (I, L, R, am_SH) (po_U_within I L R Q)
  refine am_iload_n (n := 1) d_U_within_0 rfl rfl ?_
  refine am_iload_n (n := 2) d_U_within_1 rfl rfl ?_
  refine am_icmp_lt (tgt := 14) (n := 5) d_U_within_2 rfl rfl (fun c1 => ?_) (fun c1 => ?_)
  · have h := h.1 c1
    refine am_iconst (n := 15) d_U_within_14 ci_0 rfl ?_
    exact am_iret d_U_within_15 ⟨false, rfl, rfl, h⟩
  · have h := h.2 c1
    refine am_iload_n (n := 6) d_U_within_5 rfl rfl ?_
    refine am_iload_n (n := 7) d_U_within_6 rfl rfl ?_
    refine am_icmp_gt (tgt := 14) (n := 10) d_U_within_7 rfl rfl (fun c2 => ?_) (fun c2 => ?_)
    · have h := h.1 c2
      refine am_iconst (n := 15) d_U_within_14 ci_0 rfl ?_
      exact am_iret d_U_within_15 ⟨false, rfl, rfl, h⟩
    · have h := h.2 c2
      refine am_iconst (n := 11) d_U_within_10 ci_1 rfl ?_
      refine am_goto (tgt := 15) d_U_within_11 rfl ?_
      exact am_iret d_U_within_15 ⟨true, rfl, rfl, h⟩
abbrev po_U_isTray (I : am_TI) (L : am_TL) (R : am_TR) (Q : Bool → Prop) : Option Value → am_St → Prop := fun r σ' => ∃ (x : Bool), r = some (.int (am_b x)) ∧ σ' = (I, L, R, am_SH) ∧ Q x
def wp_U_isTray (I : am_TI) (L : am_TL) (R : am_TR) (p0 : Int32)  (Q : Bool → Prop) : Prop := wp_U_within I L R p0 0 3 (fun (r1 : Bool) => Q r1)
set_option maxRecDepth 20000 in
theorem cm_U_isTray {d : Nat} {I : am_TI} {L : am_TL} {R : am_TR}  (hw : am_Wf R)   {p0 : Int32} {Q : Bool → Prop} (hd : 1 ≤ d)  (h : wp_U_isTray I L R p0  Q) : am_Cm d 0 0 y_U_isTray b_U_isTray 1 (some .boolean) [.int p0] (I, L, R, am_SH) (po_U_isTray I L R Q) := by
  refine am_Cm_of (ini := false) (by decide +kernel) (fun z => by cases z) (by simp [Value.category]) (fun r σ' z => by obtain ⟨x, rfl, -⟩ := z; exact ⟨_, rfl, am_b_nar x⟩) ?_
  unfold wp_U_isTray at h
  show am_Wp (d, "UnseenRing", b_U_isTray, 1, false) 0 0 0 [some (.int p0)] [] (I, L, R, am_SH) (po_U_isTray I L R Q)
  refine am_iload_n (n := 1) d_U_isTray_0 rfl rfl ?_
  refine am_iconst (n := 2) d_U_isTray_1 ci_0 rfl ?_
  refine am_iconst (n := 3) d_U_isTray_2 ci_3 rfl ?_
  refine am_callS (kc := 0) (ks := 0) (As := [.int p0, .int 0, .int 3]) (n := 6) d_U_isTray_3 rfl ce_U_within lk_U_114 st_U_within rfl rfl (Nat.le_of_ble_eq_true rfl) (Or.inl rfl) (cm_U_within (d := d - 1) hw (by omega)  h) (by omega) ?_
  rintro _ _ ⟨r1, rfl, rfl, h⟩
  show am_Wp (d, "UnseenRing", b_U_isTray, 1, false) 0 0 6 [some (.int p0)] [.int (am_b r1)] (I, L, R, am_SH) (po_U_isTray I L R Q)
  exact am_iret d_U_isTray_6 ⟨r1, rfl, rfl, h⟩
abbrev po_U_settled (L : am_TL) (R : am_TR) (Q : Bool → am_TI → Prop) : Option Value → am_St → Prop := fun r σ' => ∃ (x : Bool) (I' : am_TI), r = some (.int (am_b x)) ∧ σ' = (I', L, R, am_SH) ∧ Q x I'
def wp_U_settled (I : am_TI) (L : am_TL) (R : am_TR) (q : Nat) (p1 : Int32)  (Q : Bool → am_TI → Prop) : Prop := (∀ I1, I1 = am_u2 I q 15 p1 → ((p1 = 0 → Q true I1) ∧ (¬ p1 = 0 → Q false I1)))
set_option maxRecDepth 20000 in
theorem cm_U_settled {d : Nat} {I : am_TI} {L : am_TL} {R : am_TR}  (hw : am_Wf R)   {q : Nat} {p1 : Int32} {Q : Bool → am_TI → Prop} (hd : 0 ≤ d) (hq : am_SH[q]? = some (.inl 11)) (h : wp_U_settled I L R q p1  Q) : am_Cm d 0 0 y_U_settled b_U_settled 2 (some .boolean) [.ref q, .int p1] (I, L, R, am_SH) (po_U_settled L R Q) := by
  refine am_Cm_of (ini := false) (by decide +kernel) (fun z => by cases z) (by simp [Value.category]) (fun r σ' z => by obtain ⟨x, _, rfl, -⟩ := z; exact ⟨_, rfl, am_b_nar x⟩) ?_
  unfold wp_U_settled at h
  show am_Wp (d, "UnseenRing", b_U_settled, 2, false) 0 0 0 [some (.ref q), some (.int p1)] [] (I, L, R, am_SH) (po_U_settled L R Q)
  refine am_aload_n (n := 1) d_U_settled_0 rfl rfl ?_
  refine am_iload_n (n := 2) d_U_settled_1 rfl rfl ?_
  refine am_putI (n := 5) f_U_99 d_U_settled_2 rfl ⟨_, rfl, Or.inl rfl⟩ rfl rfl hq ?_
  generalize eI1 : am_u2 I q 15 p1 = I1
  have h := h I1 eI1.symm
  refine am_iload_n (n := 6) d_U_settled_5 rfl rfl ?_
  refine am_if_ne (y := 0) (tgt := 13) (n := 9) d_U_settled_6 rfl rfl (fun c1 => ?_) (fun c1 => ?_)
  · have h := h.2 c1
    refine am_iconst (n := 14) d_U_settled_13 ci_0 rfl ?_
    exact am_iret d_U_settled_14 ⟨false, I1, rfl, rfl, h⟩
  · have h := h.1 c1
    refine am_iconst (n := 10) d_U_settled_9 ci_1 rfl ?_
    refine am_goto (tgt := 14) d_U_settled_10 rfl ?_
    exact am_iret d_U_settled_14 ⟨true, I1, rfl, rfl, h⟩
abbrev po_U_tray (R : am_TR) (Q : Bool → am_TI → am_TL → Prop) : Option Value → am_St → Prop := fun r σ' => ∃ (x : Bool) (I' : am_TI) (L' : am_TL), r = some (.int (am_b x)) ∧ σ' = (I', L', R, am_SH) ∧ Q x I' L'
def wb_U_tray_26 (R : am_TR) (q : Nat) (p1 : Int32) (p2 : Int32) (p3 : Int32) (Q : Bool → am_TI → am_TL → Prop)  (I : am_TI) (L : am_TL) : Prop := wp_U_settled I L R q 1 (fun (r2 : Bool) (I1 : am_TI) => Q r2 I1 L)
set_option maxRecDepth 20000 in
theorem tb_U_tray_26 {d : Nat}  {R : am_TR} {q : Nat} {p1 : Int32} {p2 : Int32} {p3 : Int32} {Q : Bool → am_TI → am_TL → Prop}  (hw : am_Wf R) (hq : am_SH[q]? = some (.inl 11)) (hd : 2 ≤ d) (I : am_TI) (L : am_TL) (h : wb_U_tray_26 R q p1 p2 p3 Q  I L) : am_Wp (d, "UnseenRing", b_U_tray, 4, false) 0 0 26 [some (.ref q), some (.int p1), some (.int p2), some (.int p3)] [] (I, L, R, am_SH) (po_U_tray R Q) := by
  unfold wb_U_tray_26 at h
  refine am_aload_n (n := 27) d_U_tray_26 rfl rfl ?_
  refine am_iconst (n := 28) d_U_tray_27 ci_1 rfl ?_
  refine am_callV (kc := 0) (ks := 0) (As := [.int 1]) (n := 31) d_U_tray_28 rfl ce_U_settled lk_U_118 in_U_settled rfl rfl hq rfl rfl (Nat.le_of_ble_eq_true rfl) (Or.inl rfl) (cm_U_settled (d := d - 1) hw (by omega) hq h) (by omega) ?_
  rintro _ _ ⟨r2, I1, rfl, rfl, h⟩
  show am_Wp (d, "UnseenRing", b_U_tray, 4, false) 0 0 31 [some (.ref q), some (.int p1), some (.int p2), some (.int p3)] [.int (am_b r2)] (I1, L, R, am_SH) (po_U_tray R Q)
  exact am_iret d_U_tray_31 ⟨r2, I1, L, rfl, rfl, h⟩
def wp_U_tray (I : am_TI) (L : am_TL) (R : am_TR) (q : Nat) (p1 : Int32) (p2 : Int32) (p3 : Int32)  (Q : Bool → am_TI → am_TL → Prop) : Prop := wp_U_isTray I L R p1 (fun (r1 : Bool) => ((r1 = false → wb_U_tray_26 R q p1 p2 p3 Q I L) ∧ (r1 = true → wp_U_within I L R p2 0 3 (fun (r3 : Bool) => ((r3 = false → wb_U_tray_26 R q p1 p2 p3 Q I L) ∧ (r3 = true → wp_U_within I L R p3 0 60 (fun (r4 : Bool) => ((r4 = false → wb_U_tray_26 R q p1 p2 p3 Q I L) ∧ (r4 = true → (vp_in p1 4 ∧ wp_Tray_lay I L R (am_rd R (q + 1) (Int32.toNatClampNeg p1)) p2 p3 (fun (I2 : am_TI) (L1 : am_TL) => wp_U_settled I2 L1 R q 0 (fun (r5 : Bool) (I3 : am_TI) => Q r5 I3 L1))))))))))))
set_option maxRecDepth 20000 in
theorem cm_U_tray {d : Nat} {I : am_TI} {L : am_TL} {R : am_TR}  (hw : am_Wf R)   {q : Nat} {p1 : Int32} {p2 : Int32} {p3 : Int32} {Q : Bool → am_TI → am_TL → Prop} (hd : 2 ≤ d) (hq : am_SH[q]? = some (.inl 11)) (h : wp_U_tray I L R q p1 p2 p3  Q) : am_Cm d 0 0 y_U_tray b_U_tray 4 (some .boolean) [.ref q, .int p1, .int p2, .int p3] (I, L, R, am_SH) (po_U_tray R Q) := by
  refine am_Cm_of (ini := false) (by decide +kernel) (fun z => by cases z) (by simp [Value.category]) (fun r σ' z => by obtain ⟨x, _, _, rfl, -⟩ := z; exact ⟨_, rfl, am_b_nar x⟩) ?_
  unfold wp_U_tray at h
  show am_Wp (d, "UnseenRing", b_U_tray, 4, false) 0 0 0 [some (.ref q), some (.int p1), some (.int p2), some (.int p3)] [] (I, L, R, am_SH) (po_U_tray R Q)
  refine am_iload_n (n := 1) d_U_tray_0 rfl rfl ?_
  refine am_callS (kc := 0) (ks := 0) (As := [.int p1]) (n := 4) d_U_tray_1 rfl ce_U_isTray lk_U_110 st_U_isTray rfl rfl (Nat.le_of_ble_eq_true rfl) (Or.inl rfl) (cm_U_isTray (d := d - 1) hw (by omega)  h) (by omega) ?_
  rintro _ _ ⟨r1, rfl, rfl, h⟩
  show am_Wp (d, "UnseenRing", b_U_tray, 4, false) 0 0 4 [some (.ref q), some (.int p1), some (.int p2), some (.int p3)] [.int (am_b r1)] (I, L, R, am_SH) (po_U_tray R Q)
  refine am_if_eq (y := 0) (tgt := 26) (n := 7) d_U_tray_4 rfl rfl (fun c1 => ?_) (fun c1 => ?_)
  · have h := h.1 (am_b_0 c1)
    exact tb_U_tray_26 hw hq hd I L h
  · have h := h.2 (am_b_n0 c1)
    refine am_iload_n (n := 8) d_U_tray_7 rfl rfl ?_
    refine am_iconst (n := 9) d_U_tray_8 ci_0 rfl ?_
    refine am_iconst (n := 10) d_U_tray_9 ci_3 rfl ?_
    refine am_callS (kc := 0) (ks := 0) (As := [.int p2, .int 0, .int 3]) (n := 13) d_U_tray_10 rfl ce_U_within lk_U_114 st_U_within rfl rfl (Nat.le_of_ble_eq_true rfl) (Or.inl rfl) (cm_U_within (d := d - 1) hw (by omega)  h) (by omega) ?_
    rintro _ _ ⟨r3, rfl, rfl, h⟩
    show am_Wp (d, "UnseenRing", b_U_tray, 4, false) 0 0 13 [some (.ref q), some (.int p1), some (.int p2), some (.int p3)] [.int (am_b r3)] (I, L, R, am_SH) (po_U_tray R Q)
    refine am_if_eq (y := 0) (tgt := 26) (n := 16) d_U_tray_13 rfl rfl (fun c2 => ?_) (fun c2 => ?_)
    · have h := h.1 (am_b_0 c2)
      exact tb_U_tray_26 hw hq hd I L h
    · have h := h.2 (am_b_n0 c2)
      refine am_iload_n (n := 17) d_U_tray_16 rfl rfl ?_
      refine am_iconst (n := 18) d_U_tray_17 ci_0 rfl ?_
      refine am_bipush (n := 20) d_U_tray_18 cb_60 rfl ?_
      refine am_callS (kc := 0) (ks := 0) (As := [.int p3, .int 0, .int 60]) (n := 23) d_U_tray_20 rfl ce_U_within lk_U_114 st_U_within rfl rfl (Nat.le_of_ble_eq_true rfl) (Or.inl rfl) (cm_U_within (d := d - 1) hw (by omega)  h) (by omega) ?_
      rintro _ _ ⟨r4, rfl, rfl, h⟩
      show am_Wp (d, "UnseenRing", b_U_tray, 4, false) 0 0 23 [some (.ref q), some (.int p1), some (.int p2), some (.int p3)] [.int (am_b r4)] (I, L, R, am_SH) (po_U_tray R Q)
      refine am_if_ne (y := 0) (tgt := 32) (n := 26) d_U_tray_23 rfl rfl (fun c3 => ?_) (fun c3 => ?_)
      · have h := h.2 (am_b_n0 c3)
        refine am_aload_n (n := 33) d_U_tray_32 rfl rfl ?_
        refine am_getR (x := (q + 1)) (n := 36) f_U_11 d_U_tray_33 rfl rfl hq (hw.1 q 11 0 1 hq rfl) ?_
        refine am_iload_n (n := 37) d_U_tray_36 rfl rfl ?_
        obtain ⟨g1, h⟩ := h
        refine am_aald42 (x := (am_rd R (q + 1) (Int32.toNatClampNeg p1))) (n := 38) d_U_tray_37 rfl (am_sho (k := 0) (o := 1) hq (by decide) (by decide) (by decide) rfl) g1 rfl (hw.tray (am_sho (k := 0) (o := 1) hq (by decide) (by decide) (by decide) rfl) (am_in_j g1 rfl)).1 ?_
        refine am_iload_n (n := 39) d_U_tray_38 rfl rfl ?_
        refine am_iload_n (n := 40) d_U_tray_39 rfl rfl ?_
        refine am_callV (kc := 0) (ks := 0) (As := [.int p2, .int p3]) (n := 43) d_U_tray_40 rfl ce_Tray_lay lk_U_121 in_Tray_lay rfl rfl (hw.tray (am_sho (k := 0) (o := 1) hq (by decide) (by decide) (by decide) rfl) (am_in_j g1 rfl)).2 rfl rfl (Nat.le_of_ble_eq_true rfl) (Or.inl rfl) (cm_Tray_lay (d := d - 1) hw (by omega) (hw.tray (am_sho (k := 0) (o := 1) hq (by decide) (by decide) (by decide) rfl) (am_in_j g1 rfl)).2 h) (by omega) ?_
        rintro _ _ ⟨I2, L1, rfl, rfl, h⟩
        show am_Wp (d, "UnseenRing", b_U_tray, 4, false) 0 0 43 [some (.ref q), some (.int p1), some (.int p2), some (.int p3)] [] (I2, L1, R, am_SH) (po_U_tray R Q)
        refine am_aload_n (n := 44) d_U_tray_43 rfl rfl ?_
        refine am_iconst (n := 45) d_U_tray_44 ci_0 rfl ?_
        refine am_callV (kc := 0) (ks := 0) (As := [.int 0]) (n := 48) d_U_tray_45 rfl ce_U_settled lk_U_118 in_U_settled rfl rfl hq rfl rfl (Nat.le_of_ble_eq_true rfl) (Or.inl rfl) (cm_U_settled (d := d - 1) hw (by omega) hq h) (by omega) ?_
        rintro _ _ ⟨r5, I3, rfl, rfl, h⟩
        show am_Wp (d, "UnseenRing", b_U_tray, 4, false) 0 0 48 [some (.ref q), some (.int p1), some (.int p2), some (.int p3)] [.int (am_b r5)] (I3, L1, R, am_SH) (po_U_tray R Q)
        exact am_iret d_U_tray_48 ⟨r5, I3, L1, rfl, rfl, h⟩
      · have h := h.1 (am_b_0 c3)
        exact tb_U_tray_26 hw hq hd I L h
abbrev po_Tray_cut (I : am_TI) (L : am_TL) (R : am_TR) (Q : Int64 → Prop) : Option Value → am_St → Prop := fun r σ' => ∃ (x : Int64), r = some (.long x) ∧ σ' = (I, L, R, am_SH) ∧ Q x
def wp_Tray_cut (I : am_TI) (L : am_TL) (R : am_TR) (q : Nat) (p1 : Int64)  (Q : Int64 → Prop) : Prop := (((I q 1) = 0 → Q (Int32.toInt64 (Int8.toInt32 (Int32.toInt8 (Int64.toInt32 p1))))) ∧ ((I q 1) = 1 → Q (Int32.toInt64 (Int16.toInt32 (Int32.toInt16 (Int64.toInt32 p1))))) ∧ ((I q 1) = 2 → Q (Int32.toInt64 (Int64.toInt32 p1))) ∧ (¬ (I q 1) = 0 → ¬ (I q 1) = 1 → ¬ (I q 1) = 2 → Q p1))
set_option maxRecDepth 20000 in
theorem cm_Tray_cut {d : Nat} {I : am_TI} {L : am_TL} {R : am_TR}  (hw : am_Wf R)   {q : Nat} {p1 : Int64} {Q : Int64 → Prop} (hd : 0 ≤ d) (hq : am_SH[q]? = some (.inl 10)) (h : wp_Tray_cut I L R q p1  Q) : am_Cm d 0 0 y_Tray_cut b_Tray_cut 3 (some .long) [.ref q, .long p1] (I, L, R, am_SH) (po_Tray_cut I L R Q) := by
  refine am_Cm_of (ini := false) (by decide +kernel) (fun z => by cases z) (by simp [Value.category]) (fun r σ' z => by obtain ⟨_, rfl, -⟩ := z; rfl) ?_
  unfold wp_Tray_cut at h
  show am_Wp (d, "UnseenRing$Tray", b_Tray_cut, 3, false) 0 0 0 [some (.ref q), some (.long p1), none] [] (I, L, R, am_SH) (po_Tray_cut I L R Q)
  refine am_aload_n (n := 1) d_Tray_cut_0 rfl rfl ?_
  refine am_getI (n := 4) f_Tray_15 d_Tray_cut_1 rfl rfl hq ?_
  by_cases c1 : (I q 1) = 0
  · have h := h.1 c1
    refine am_tableIn (off := 28) (tgt := 32) d_Tray_cut_4 (by rw [c1]; decide) (by rw [c1]; decide) (by rw [c1]; decide +kernel) rfl ?_
    refine am_lload_n (n := 33) d_Tray_cut_32 rfl rfl ?_
    refine am_l2i (n := 34) d_Tray_cut_33 rfl ?_
    refine am_i2b (n := 35) d_Tray_cut_34 rfl ?_
    refine am_i2l (n := 36) d_Tray_cut_35 rfl ?_
    exact am_lret d_Tray_cut_36 ⟨(Int32.toInt64 (Int8.toInt32 (Int32.toInt8 (Int64.toInt32 p1)))), rfl, rfl, h⟩
  by_cases c2 : (I q 1) = 1
  · have h := h.2.1 c2
    refine am_tableIn (off := 33) (tgt := 37) d_Tray_cut_4 (by rw [c2]; decide) (by rw [c2]; decide) (by rw [c2]; decide +kernel) rfl ?_
    refine am_lload_n (n := 38) d_Tray_cut_37 rfl rfl ?_
    refine am_l2i (n := 39) d_Tray_cut_38 rfl ?_
    refine am_i2s (n := 40) d_Tray_cut_39 rfl ?_
    refine am_i2l (n := 41) d_Tray_cut_40 rfl ?_
    exact am_lret d_Tray_cut_41 ⟨(Int32.toInt64 (Int16.toInt32 (Int32.toInt16 (Int64.toInt32 p1)))), rfl, rfl, h⟩
  by_cases c3 : (I q 1) = 2
  · have h := h.2.2.1 c3
    refine am_tableIn (off := 38) (tgt := 42) d_Tray_cut_4 (by rw [c3]; decide) (by rw [c3]; decide) (by rw [c3]; decide +kernel) rfl ?_
    refine am_lload_n (n := 43) d_Tray_cut_42 rfl rfl ?_
    refine am_l2i (n := 44) d_Tray_cut_43 rfl ?_
    refine am_i2l (n := 45) d_Tray_cut_44 rfl ?_
    exact am_lret d_Tray_cut_45 ⟨(Int32.toInt64 (Int64.toInt32 p1)), rfl, rfl, h⟩
  have h := h.2.2.2 c1 c2 c3
  have z0 := lv_neT c1 (a := 0) (by decide)
  have z1 := lv_neT c2 (a := 1) (by decide)
  have z2 := lv_neT c3 (a := 2) (by decide)
  refine am_tableOut (tgt := 46) d_Tray_cut_4 (by omega) rfl ?_
  refine am_lload_n (n := 47) d_Tray_cut_46 rfl rfl ?_
  exact am_lret d_Tray_cut_47 ⟨p1, rfl, rfl, h⟩
abbrev po_Tray_put (I : am_TI) (R : am_TR) (Q : am_TL → Prop) : Option Value → am_St → Prop := fun r σ' => ∃ (L' : am_TL), r = none ∧ σ' = (I, L', R, am_SH) ∧ Q L'
def wp_Tray_put (I : am_TI) (L : am_TL) (R : am_TR) (q : Nat) (p1 : Int32) (p2 : Int64)  (Q : am_TL → Prop) : Prop := wp_U_within I L R p1 0 59 (fun (r1 : Bool) => ((r1 = false → Q L) ∧ (r1 = true → wp_Tray_cut I L R q p2 (fun (r2 : Int64) => (vp_in p1 60 ∧ (∀ L1, L1 = am_u2 L (q + 1) (Int32.toNatClampNeg p1) r2 → Q L1))))))
set_option maxRecDepth 20000 in
theorem cm_Tray_put {d : Nat} {I : am_TI} {L : am_TL} {R : am_TR}  (hw : am_Wf R)   {q : Nat} {p1 : Int32} {p2 : Int64} {Q : am_TL → Prop} (hd : 1 ≤ d) (hq : am_SH[q]? = some (.inl 10)) (h : wp_Tray_put I L R q p1 p2  Q) : am_Cm d 0 0 y_Tray_put b_Tray_put 4 (none) [.ref q, .int p1, .long p2] (I, L, R, am_SH) (po_Tray_put I R Q) := by
  refine am_Cm_of (ini := false) (by decide +kernel) (fun z => by cases z) (by simp [Value.category]) (fun r σ' z => by obtain ⟨_, rfl, -⟩ := z; rfl) ?_
  unfold wp_Tray_put at h
  show am_Wp (d, "UnseenRing$Tray", b_Tray_put, 4, false) 0 0 0 [some (.ref q), some (.int p1), some (.long p2), none] [] (I, L, R, am_SH) (po_Tray_put I R Q)
  refine am_iload_n (n := 1) d_Tray_put_0 rfl rfl ?_
  refine am_iconst (n := 2) d_Tray_put_1 ci_0 rfl ?_
  refine am_bipush (n := 4) d_Tray_put_2 cb_59 rfl ?_
  refine am_callS (kc := 0) (ks := 0) (As := [.int p1, .int 0, .int 59]) (n := 7) d_Tray_put_4 rfl ce_U_within lk_Tray_28 st_U_within rfl rfl (Nat.le_of_ble_eq_true rfl) (Or.inl rfl) (cm_U_within (d := d - 1) hw (by omega)  h) (by omega) ?_
  rintro _ _ ⟨r1, rfl, rfl, h⟩
  show am_Wp (d, "UnseenRing$Tray", b_Tray_put, 4, false) 0 0 7 [some (.ref q), some (.int p1), some (.long p2), none] [.int (am_b r1)] (I, L, R, am_SH) (po_Tray_put I R Q)
  refine am_if_eq (y := 0) (tgt := 21) (n := 10) d_Tray_put_7 rfl rfl (fun c1 => ?_) (fun c1 => ?_)
  · have h := h.1 (am_b_0 c1)
    exact am_vret d_Tray_put_21 ⟨L, rfl, rfl, h⟩
  · have h := h.2 (am_b_n0 c1)
    refine am_aload_n (n := 11) d_Tray_put_10 rfl rfl ?_
    refine am_getR (x := (q + 1)) (n := 14) f_Tray_9 d_Tray_put_11 rfl rfl hq (hw.1 q 10 0 1 hq rfl) ?_
    refine am_iload_n (n := 15) d_Tray_put_14 rfl rfl ?_
    refine am_aload_n (n := 16) d_Tray_put_15 rfl rfl ?_
    refine am_lload_n (n := 17) d_Tray_put_16 rfl rfl ?_
    refine am_callV (kc := 0) (ks := 0) (As := [.long p2]) (n := 20) d_Tray_put_17 rfl ce_Tray_cut lk_Tray_32 in_Tray_cut rfl rfl hq rfl rfl (Nat.le_of_ble_eq_true rfl) (Or.inl rfl) (cm_Tray_cut (d := d - 1) hw (by omega) hq h) (by omega) ?_
    rintro _ _ ⟨r2, rfl, rfl, h⟩
    show am_Wp (d, "UnseenRing$Tray", b_Tray_put, 4, false) 0 0 20 [some (.ref q), some (.int p1), some (.long p2), none] [.long r2, .int p1, .ref (q + 1)] (I, L, R, am_SH) (po_Tray_put I R Q)
    obtain ⟨g1, h⟩ := h
    refine am_last2 (n := 21) d_Tray_put_20 rfl (am_sho (k := 0) (o := 1) hq (by decide) (by decide) (by decide) rfl) g1 rfl ?_
    generalize eL1 : am_u2 L (q + 1) (Int32.toNatClampNeg p1) r2 = L1
    have h := h L1 eL1.symm
    exact am_vret d_Tray_put_21 ⟨L1, rfl, rfl, h⟩
abbrev po_Tray_isMissing (I : am_TI) (L : am_TL) (R : am_TR) (Q : Bool → Prop) : Option Value → am_St → Prop := fun r σ' => ∃ (x : Bool), r = some (.int (am_b x)) ∧ σ' = (I, L, R, am_SH) ∧ Q x
def wp_Tray_isMissing (I : am_TI) (L : am_TL) (R : am_TR) (q : Nat)  (Q : Bool → Prop) : Prop := (((I q 1) = (-1) → Q true) ∧ (¬ (I q 1) = (-1) → Q false))
set_option maxRecDepth 20000 in
theorem cm_Tray_isMissing {d : Nat} {I : am_TI} {L : am_TL} {R : am_TR}  (hw : am_Wf R)   {q : Nat} {Q : Bool → Prop} (hd : 0 ≤ d) (hq : am_SH[q]? = some (.inl 10)) (h : wp_Tray_isMissing I L R q  Q) : am_Cm d 0 0 y_Tray_isMissing b_Tray_isMissing 1 (some .boolean) [.ref q] (I, L, R, am_SH) (po_Tray_isMissing I L R Q) := by
  refine am_Cm_of (ini := false) (by decide +kernel) (fun z => by cases z) (by simp [Value.category]) (fun r σ' z => by obtain ⟨x, rfl, -⟩ := z; exact ⟨_, rfl, am_b_nar x⟩) ?_
  unfold wp_Tray_isMissing at h
  show am_Wp (d, "UnseenRing$Tray", b_Tray_isMissing, 1, false) 0 0 0 [some (.ref q)] [] (I, L, R, am_SH) (po_Tray_isMissing I L R Q)
  refine am_aload_n (n := 1) d_Tray_isMissing_0 rfl rfl ?_
  refine am_getI (n := 4) f_Tray_15 d_Tray_isMissing_1 rfl rfl hq ?_
  refine am_iconst (n := 5) d_Tray_isMissing_4 ci_m1 rfl ?_
  refine am_icmp_ne (tgt := 12) (n := 8) d_Tray_isMissing_5 rfl rfl (fun c1 => ?_) (fun c1 => ?_)
  · have h := h.2 c1
    refine am_iconst (n := 13) d_Tray_isMissing_12 ci_0 rfl ?_
    exact am_iret d_Tray_isMissing_13 ⟨false, rfl, rfl, h⟩
  · have h := h.1 c1
    refine am_iconst (n := 9) d_Tray_isMissing_8 ci_1 rfl ?_
    refine am_goto (tgt := 13) d_Tray_isMissing_9 rfl ?_
    exact am_iret d_Tray_isMissing_13 ⟨true, rfl, rfl, h⟩
abbrev po_U_trayStatus (I : am_TI) (L : am_TL) (R : am_TR) (Q : Int32 → Prop) : Option Value → am_St → Prop := fun r σ' => ∃ (x : Int32), r = some (.int x) ∧ σ' = (I, L, R, am_SH) ∧ Q x
def wp_U_trayStatus (I : am_TI) (L : am_TL) (R : am_TR) (q : Nat) (p1 : Int32) (p2 : Int32)  (Q : Int32 → Prop) : Prop := wp_U_isTray I L R p1 (fun (r1 : Bool) => ((r1 = false → Q 1) ∧ (r1 = true → (vp_in p1 4 ∧ wp_Tray_isMissing I L R (am_rd R (q + 1) (Int32.toNatClampNeg p1)) (fun (r2 : Bool) => ((r2 = false → (vp_in p1 4 ∧ (((I (am_rd R (q + 1) (Int32.toNatClampNeg p1)) 2) < p2 → Q 3) ∧ (¬ (I (am_rd R (q + 1) (Int32.toNatClampNeg p1)) 2) < p2 → Q 0)))) ∧ (r2 = true → Q 2)))))))
set_option maxRecDepth 20000 in
theorem cm_U_trayStatus {d : Nat} {I : am_TI} {L : am_TL} {R : am_TR}  (hw : am_Wf R)   {q : Nat} {p1 : Int32} {p2 : Int32} {Q : Int32 → Prop} (hd : 2 ≤ d) (hq : am_SH[q]? = some (.inl 11)) (h : wp_U_trayStatus I L R q p1 p2  Q) : am_Cm d 0 0 y_U_trayStatus b_U_trayStatus 3 (some .int) [.ref q, .int p1, .int p2] (I, L, R, am_SH) (po_U_trayStatus I L R Q) := by
  refine am_Cm_of (ini := false) (by decide +kernel) (fun z => by cases z) (by simp [Value.category]) (fun r σ' z => by obtain ⟨x, rfl, -⟩ := z; exact ⟨_, rfl, rfl⟩) ?_
  unfold wp_U_trayStatus at h
  show am_Wp (d, "UnseenRing", b_U_trayStatus, 3, false) 0 0 0 [some (.ref q), some (.int p1), some (.int p2)] [] (I, L, R, am_SH) (po_U_trayStatus I L R Q)
  refine am_iload_n (n := 1) d_U_trayStatus_0 rfl rfl ?_
  refine am_callS (kc := 0) (ks := 0) (As := [.int p1]) (n := 4) d_U_trayStatus_1 rfl ce_U_isTray lk_U_110 st_U_isTray rfl rfl (Nat.le_of_ble_eq_true rfl) (Or.inl rfl) (cm_U_isTray (d := d - 1) hw (by omega)  h) (by omega) ?_
  rintro _ _ ⟨r1, rfl, rfl, h⟩
  show am_Wp (d, "UnseenRing", b_U_trayStatus, 3, false) 0 0 4 [some (.ref q), some (.int p1), some (.int p2)] [.int (am_b r1)] (I, L, R, am_SH) (po_U_trayStatus I L R Q)
  refine am_if_ne (y := 0) (tgt := 9) (n := 7) d_U_trayStatus_4 rfl rfl (fun c1 => ?_) (fun c1 => ?_)
  · have h := h.2 (am_b_n0 c1)
    refine am_aload_n (n := 10) d_U_trayStatus_9 rfl rfl ?_
    refine am_getR (x := (q + 1)) (n := 13) f_U_11 d_U_trayStatus_10 rfl rfl hq (hw.1 q 11 0 1 hq rfl) ?_
    refine am_iload_n (n := 14) d_U_trayStatus_13 rfl rfl ?_
    obtain ⟨g1, h⟩ := h
    refine am_aald42 (x := (am_rd R (q + 1) (Int32.toNatClampNeg p1))) (n := 15) d_U_trayStatus_14 rfl (am_sho (k := 0) (o := 1) hq (by decide) (by decide) (by decide) rfl) g1 rfl (hw.tray (am_sho (k := 0) (o := 1) hq (by decide) (by decide) (by decide) rfl) (am_in_j g1 rfl)).1 ?_
    refine am_callV (kc := 0) (ks := 0) (As := []) (n := 18) d_U_trayStatus_15 rfl ce_Tray_isMissing lk_U_141 in_Tray_isMissing rfl rfl (hw.tray (am_sho (k := 0) (o := 1) hq (by decide) (by decide) (by decide) rfl) (am_in_j g1 rfl)).2 rfl rfl (Nat.le_of_ble_eq_true rfl) (Or.inl rfl) (cm_Tray_isMissing (d := d - 1) hw (by omega) (hw.tray (am_sho (k := 0) (o := 1) hq (by decide) (by decide) (by decide) rfl) (am_in_j g1 rfl)).2 h) (by omega) ?_
    rintro _ _ ⟨r2, rfl, rfl, h⟩
    show am_Wp (d, "UnseenRing", b_U_trayStatus, 3, false) 0 0 18 [some (.ref q), some (.int p1), some (.int p2)] [.int (am_b r2)] (I, L, R, am_SH) (po_U_trayStatus I L R Q)
    refine am_if_eq (y := 0) (tgt := 23) (n := 21) d_U_trayStatus_18 rfl rfl (fun c2 => ?_) (fun c2 => ?_)
    · have h := h.1 (am_b_0 c2)
      refine am_iload_n (n := 24) d_U_trayStatus_23 rfl rfl ?_
      refine am_aload_n (n := 25) d_U_trayStatus_24 rfl rfl ?_
      refine am_getR (x := (q + 1)) (n := 28) f_U_11 d_U_trayStatus_25 rfl rfl hq (hw.1 q 11 0 1 hq rfl) ?_
      refine am_iload_n (n := 29) d_U_trayStatus_28 rfl rfl ?_
      obtain ⟨g2, h⟩ := h
      refine am_aald42 (x := (am_rd R (q + 1) (Int32.toNatClampNeg p1))) (n := 30) d_U_trayStatus_29 rfl (am_sho (k := 0) (o := 1) hq (by decide) (by decide) (by decide) rfl) g2 rfl (hw.tray (am_sho (k := 0) (o := 1) hq (by decide) (by decide) (by decide) rfl) (am_in_j g2 rfl)).1 ?_
      refine am_getI (n := 33) f_U_148 d_U_trayStatus_30 rfl rfl (hw.tray (am_sho (k := 0) (o := 1) hq (by decide) (by decide) (by decide) rfl) (am_in_j g2 rfl)).2 ?_
      refine am_icmp_gt (tgt := 40) (n := 36) d_U_trayStatus_33 rfl rfl (fun c3 => ?_) (fun c3 => ?_)
      · have h := h.1 c3
        refine am_iconst (n := 41) d_U_trayStatus_40 ci_3 rfl ?_
        exact am_iret d_U_trayStatus_41 ⟨3, rfl, rfl, h⟩
      · have h := h.2 c3
        refine am_iconst (n := 37) d_U_trayStatus_36 ci_0 rfl ?_
        refine am_goto (tgt := 41) d_U_trayStatus_37 rfl ?_
        exact am_iret d_U_trayStatus_41 ⟨0, rfl, rfl, h⟩
    · have h := h.2 (am_b_n0 c2)
      refine am_iconst (n := 22) d_U_trayStatus_21 ci_2 rfl ?_
      exact am_iret d_U_trayStatus_22 ⟨2, rfl, rfl, h⟩
  · have h := h.1 (am_b_0 c1)
    refine am_iconst (n := 8) d_U_trayStatus_7 ci_1 rfl ?_
    exact am_iret d_U_trayStatus_8 ⟨1, rfl, rfl, h⟩
abbrev po_U_placeStatus (I : am_TI) (L : am_TL) (R : am_TR) (Q : Int32 → Prop) : Option Value → am_St → Prop := fun r σ' => ∃ (x : Int32), r = some (.int x) ∧ σ' = (I, L, R, am_SH) ∧ Q x
def wp_U_placeStatus (I : am_TI) (L : am_TL) (R : am_TR) (q : Nat) (p1 : Int32) (p2 : Int32)  (Q : Int32 → Prop) : Prop := wp_U_trayStatus I L R q p1 0 (fun (r1 : Int32) => ((r1 = 0 → (vp_in p1 4 ∧ wp_U_within I L R p2 0 ((I (am_rd R (q + 1) (Int32.toNatClampNeg p1)) 2) - 1) (fun (r2 : Bool) => ((r2 = false → Q 3) ∧ (r2 = true → Q 0))))) ∧ (¬ r1 = 0 → Q r1)))
set_option maxRecDepth 20000 in
theorem cm_U_placeStatus {d : Nat} {I : am_TI} {L : am_TL} {R : am_TR}  (hw : am_Wf R)   {q : Nat} {p1 : Int32} {p2 : Int32} {Q : Int32 → Prop} (hd : 3 ≤ d) (hq : am_SH[q]? = some (.inl 11)) (h : wp_U_placeStatus I L R q p1 p2  Q) : am_Cm d 0 0 y_U_placeStatus b_U_placeStatus 4 (some .int) [.ref q, .int p1, .int p2] (I, L, R, am_SH) (po_U_placeStatus I L R Q) := by
  refine am_Cm_of (ini := false) (by decide +kernel) (fun z => by cases z) (by simp [Value.category]) (fun r σ' z => by obtain ⟨x, rfl, -⟩ := z; exact ⟨_, rfl, rfl⟩) ?_
  unfold wp_U_placeStatus at h
  show am_Wp (d, "UnseenRing", b_U_placeStatus, 4, false) 0 0 0 [some (.ref q), some (.int p1), some (.int p2), none] [] (I, L, R, am_SH) (po_U_placeStatus I L R Q)
  refine am_aload_n (n := 1) d_U_placeStatus_0 rfl rfl ?_
  refine am_iload_n (n := 2) d_U_placeStatus_1 rfl rfl ?_
  refine am_iconst (n := 3) d_U_placeStatus_2 ci_0 rfl ?_
  refine am_callV (kc := 0) (ks := 0) (As := [.int p1, .int 0]) (n := 6) d_U_placeStatus_3 rfl ce_U_trayStatus lk_U_161 in_U_trayStatus rfl rfl hq rfl rfl (Nat.le_of_ble_eq_true rfl) (Or.inl rfl) (cm_U_trayStatus (d := d - 1) hw (by omega) hq h) (by omega) ?_
  rintro _ _ ⟨r1, rfl, rfl, h⟩
  show am_Wp (d, "UnseenRing", b_U_placeStatus, 4, false) 0 0 6 [some (.ref q), some (.int p1), some (.int p2), none] [.int r1] (I, L, R, am_SH) (po_U_placeStatus I L R Q)
  refine am_istore_n (ls' := [some (.ref q), some (.int p1), some (.int p2), some (.int r1)]) (n := 7) d_U_placeStatus_6 (by decide) rfl rfl ?_
  refine am_iload_n (n := 8) d_U_placeStatus_7 rfl rfl ?_
  refine am_if_eq (y := 0) (tgt := 13) (n := 11) d_U_placeStatus_8 rfl rfl (fun c1 => ?_) (fun c1 => ?_)
  · have h := h.1 c1
    refine am_iload_n (n := 14) d_U_placeStatus_13 rfl rfl ?_
    refine am_iconst (n := 15) d_U_placeStatus_14 ci_0 rfl ?_
    refine am_aload_n (n := 16) d_U_placeStatus_15 rfl rfl ?_
    refine am_getR (x := (q + 1)) (n := 19) f_U_11 d_U_placeStatus_16 rfl rfl hq (hw.1 q 11 0 1 hq rfl) ?_
    refine am_iload_n (n := 20) d_U_placeStatus_19 rfl rfl ?_
    obtain ⟨g1, h⟩ := h
    refine am_aald42 (x := (am_rd R (q + 1) (Int32.toNatClampNeg p1))) (n := 21) d_U_placeStatus_20 rfl (am_sho (k := 0) (o := 1) hq (by decide) (by decide) (by decide) rfl) g1 rfl (hw.tray (am_sho (k := 0) (o := 1) hq (by decide) (by decide) (by decide) rfl) (am_in_j g1 rfl)).1 ?_
    refine am_getI (n := 24) f_U_148 d_U_placeStatus_21 rfl rfl (hw.tray (am_sho (k := 0) (o := 1) hq (by decide) (by decide) (by decide) rfl) (am_in_j g1 rfl)).2 ?_
    refine am_iconst (n := 25) d_U_placeStatus_24 ci_1 rfl ?_
    refine am_isub (n := 26) d_U_placeStatus_25 rfl ?_
    refine am_callS (kc := 0) (ks := 0) (As := [.int p2, .int 0, .int ((I (am_rd R (q + 1) (Int32.toNatClampNeg p1)) 2) - 1)]) (n := 29) d_U_placeStatus_26 rfl ce_U_within lk_U_114 st_U_within rfl rfl (Nat.le_of_ble_eq_true rfl) (Or.inl rfl) (cm_U_within (d := d - 1) hw (by omega)  h) (by omega) ?_
    rintro _ _ ⟨r2, rfl, rfl, h⟩
    show am_Wp (d, "UnseenRing", b_U_placeStatus, 4, false) 0 0 29 [some (.ref q), some (.int p1), some (.int p2), some (.int r1)] [.int (am_b r2)] (I, L, R, am_SH) (po_U_placeStatus I L R Q)
    refine am_if_eq (y := 0) (tgt := 36) (n := 32) d_U_placeStatus_29 rfl rfl (fun c2 => ?_) (fun c2 => ?_)
    · have h := h.1 (am_b_0 c2)
      refine am_iconst (n := 37) d_U_placeStatus_36 ci_3 rfl ?_
      exact am_iret d_U_placeStatus_37 ⟨3, rfl, rfl, h⟩
    · have h := h.2 (am_b_n0 c2)
      refine am_iconst (n := 33) d_U_placeStatus_32 ci_0 rfl ?_
      refine am_goto (tgt := 37) d_U_placeStatus_33 rfl ?_
      exact am_iret d_U_placeStatus_37 ⟨0, rfl, rfl, h⟩
  · have h := h.2 c1
    refine am_iload_n (n := 12) d_U_placeStatus_11 rfl rfl ?_
    exact am_iret d_U_placeStatus_12 ⟨r1, rfl, rfl, h⟩
abbrev po_U_write (R : am_TR) (Q : Bool → am_TI → am_TL → Prop) : Option Value → am_St → Prop := fun r σ' => ∃ (x : Bool) (I' : am_TI) (L' : am_TL), r = some (.int (am_b x)) ∧ σ' = (I', L', R, am_SH) ∧ Q x I' L'
def wb_U_write_24 (R : am_TR) (q : Nat) (p1 : Int32) (p2 : Int32) (p3 : Int64) (Q : Bool → am_TI → am_TL → Prop)  (I : am_TI) (L : am_TL) (v5 : Int32) : Prop := wp_U_settled I L R q v5 (fun (r2 : Bool) (I1 : am_TI) => Q r2 I1 L)
set_option maxRecDepth 20000 in
theorem tb_U_write_24 {d : Nat}  {R : am_TR} {q : Nat} {p1 : Int32} {p2 : Int32} {p3 : Int64} {Q : Bool → am_TI → am_TL → Prop}  (hw : am_Wf R) (hq : am_SH[q]? = some (.inl 11)) (hd : 4 ≤ d) (I : am_TI) (L : am_TL) (v5 : Int32) (h : wb_U_write_24 R q p1 p2 p3 Q  I L v5) : am_Wp (d, "UnseenRing", b_U_write, 6, false) 0 0 24 [some (.ref q), some (.int p1), some (.int p2), some (.long p3), none, some (.int v5)] [] (I, L, R, am_SH) (po_U_write R Q) := by
  unfold wb_U_write_24 at h
  refine am_aload_n (n := 25) d_U_write_24 rfl rfl ?_
  refine am_iload (n := 27) d_U_write_25 rfl rfl ?_
  refine am_callV (kc := 0) (ks := 0) (As := [.int v5]) (n := 30) d_U_write_27 rfl ce_U_settled lk_U_118 in_U_settled rfl rfl hq rfl rfl (Nat.le_of_ble_eq_true rfl) (Or.inl rfl) (cm_U_settled (d := d - 1) hw (by omega) hq h) (by omega) ?_
  rintro _ _ ⟨r2, I1, rfl, rfl, h⟩
  show am_Wp (d, "UnseenRing", b_U_write, 6, false) 0 0 30 [some (.ref q), some (.int p1), some (.int p2), some (.long p3), none, some (.int v5)] [.int (am_b r2)] (I1, L, R, am_SH) (po_U_write R Q)
  exact am_iret d_U_write_30 ⟨r2, I1, L, rfl, rfl, h⟩
def wp_U_write (I : am_TI) (L : am_TL) (R : am_TR) (q : Nat) (p1 : Int32) (p2 : Int32) (p3 : Int64)  (Q : Bool → am_TI → am_TL → Prop) : Prop := wp_U_placeStatus I L R q p1 p2 (fun (r1 : Int32) => ((r1 = 0 → (vp_in p1 4 ∧ wp_Tray_put I L R (am_rd R (q + 1) (Int32.toNatClampNeg p1)) p2 p3 (fun (L1 : am_TL) => wb_U_write_24 R q p1 p2 p3 Q I L1 r1))) ∧ (¬ r1 = 0 → wb_U_write_24 R q p1 p2 p3 Q I L r1)))
set_option maxRecDepth 20000 in
theorem cm_U_write {d : Nat} {I : am_TI} {L : am_TL} {R : am_TR}  (hw : am_Wf R)   {q : Nat} {p1 : Int32} {p2 : Int32} {p3 : Int64} {Q : Bool → am_TI → am_TL → Prop} (hd : 4 ≤ d) (hq : am_SH[q]? = some (.inl 11)) (h : wp_U_write I L R q p1 p2 p3  Q) : am_Cm d 0 0 y_U_write b_U_write 6 (some .boolean) [.ref q, .int p1, .int p2, .long p3] (I, L, R, am_SH) (po_U_write R Q) := by
  refine am_Cm_of (ini := false) (by decide +kernel) (fun z => by cases z) (by simp [Value.category]) (fun r σ' z => by obtain ⟨x, _, _, rfl, -⟩ := z; exact ⟨_, rfl, am_b_nar x⟩) ?_
  unfold wp_U_write at h
  show am_Wp (d, "UnseenRing", b_U_write, 6, false) 0 0 0 [some (.ref q), some (.int p1), some (.int p2), some (.long p3), none, none] [] (I, L, R, am_SH) (po_U_write R Q)
  refine am_aload_n (n := 1) d_U_write_0 rfl rfl ?_
  refine am_iload_n (n := 2) d_U_write_1 rfl rfl ?_
  refine am_iload_n (n := 3) d_U_write_2 rfl rfl ?_
  refine am_callV (kc := 0) (ks := 0) (As := [.int p1, .int p2]) (n := 6) d_U_write_3 rfl ce_U_placeStatus lk_U_125 in_U_placeStatus rfl rfl hq rfl rfl (Nat.le_of_ble_eq_true rfl) (Or.inl rfl) (cm_U_placeStatus (d := d - 1) hw (by omega) hq h) (by omega) ?_
  rintro _ _ ⟨r1, rfl, rfl, h⟩
  show am_Wp (d, "UnseenRing", b_U_write, 6, false) 0 0 6 [some (.ref q), some (.int p1), some (.int p2), some (.long p3), none, none] [.int r1] (I, L, R, am_SH) (po_U_write R Q)
  refine am_istore (ls' := [some (.ref q), some (.int p1), some (.int p2), some (.long p3), none, some (.int r1)]) (n := 8) d_U_write_6 (by decide) rfl rfl ?_
  refine am_iload (n := 10) d_U_write_8 rfl rfl ?_
  refine am_if_ne (y := 0) (tgt := 24) (n := 13) d_U_write_10 rfl rfl (fun c1 => ?_) (fun c1 => ?_)
  · have h := h.2 c1
    exact tb_U_write_24 hw hq hd I L r1 h
  · have h := h.1 c1
    refine am_aload_n (n := 14) d_U_write_13 rfl rfl ?_
    refine am_getR (x := (q + 1)) (n := 17) f_U_11 d_U_write_14 rfl rfl hq (hw.1 q 11 0 1 hq rfl) ?_
    refine am_iload_n (n := 18) d_U_write_17 rfl rfl ?_
    obtain ⟨g1, h⟩ := h
    refine am_aald42 (x := (am_rd R (q + 1) (Int32.toNatClampNeg p1))) (n := 19) d_U_write_18 rfl (am_sho (k := 0) (o := 1) hq (by decide) (by decide) (by decide) rfl) g1 rfl (hw.tray (am_sho (k := 0) (o := 1) hq (by decide) (by decide) (by decide) rfl) (am_in_j g1 rfl)).1 ?_
    refine am_iload_n (n := 20) d_U_write_19 rfl rfl ?_
    refine am_lload_n (n := 21) d_U_write_20 rfl rfl ?_
    refine am_callV (kc := 0) (ks := 0) (As := [.int p2, .long p3]) (n := 24) d_U_write_21 rfl ce_Tray_put lk_U_129 in_Tray_put rfl rfl (hw.tray (am_sho (k := 0) (o := 1) hq (by decide) (by decide) (by decide) rfl) (am_in_j g1 rfl)).2 rfl rfl (Nat.le_of_ble_eq_true rfl) (Or.inl rfl) (cm_Tray_put (d := d - 1) hw (by omega) (hw.tray (am_sho (k := 0) (o := 1) hq (by decide) (by decide) (by decide) rfl) (am_in_j g1 rfl)).2 h) (by omega) ?_
    rintro _ _ ⟨L1, rfl, rfl, h⟩
    show am_Wp (d, "UnseenRing", b_U_write, 6, false) 0 0 24 [some (.ref q), some (.int p1), some (.int p2), some (.long p3), none, some (.int r1)] [] (I, L1, R, am_SH) (po_U_write R Q)
    exact tb_U_write_24 hw hq hd I L1 r1 h
abbrev po_Tray_numberAt (I : am_TI) (L : am_TL) (R : am_TR) (Q : Int64 → Prop) : Option Value → am_St → Prop := fun r σ' => ∃ (x : Int64), r = some (.long x) ∧ σ' = (I, L, R, am_SH) ∧ Q x
def wp_Tray_numberAt (I : am_TI) (L : am_TL) (R : am_TR) (q : Nat) (p1 : Int32)  (Q : Int64 → Prop) : Prop := wp_U_within I L R p1 0 59 (fun (r1 : Bool) => ((r1 = false → Q (-1)) ∧ (r1 = true → (vp_in p1 60 ∧ Q (L (q + 1) (Int32.toNatClampNeg p1))))))
set_option maxRecDepth 20000 in
theorem cm_Tray_numberAt {d : Nat} {I : am_TI} {L : am_TL} {R : am_TR}  (hw : am_Wf R)   {q : Nat} {p1 : Int32} {Q : Int64 → Prop} (hd : 1 ≤ d) (hq : am_SH[q]? = some (.inl 10)) (h : wp_Tray_numberAt I L R q p1  Q) : am_Cm d 0 0 y_Tray_numberAt b_Tray_numberAt 2 (some .long) [.ref q, .int p1] (I, L, R, am_SH) (po_Tray_numberAt I L R Q) := by
  refine am_Cm_of (ini := false) (by decide +kernel) (fun z => by cases z) (by simp [Value.category]) (fun r σ' z => by obtain ⟨_, rfl, -⟩ := z; rfl) ?_
  unfold wp_Tray_numberAt at h
  show am_Wp (d, "UnseenRing$Tray", b_Tray_numberAt, 2, false) 0 0 0 [some (.ref q), some (.int p1)] [] (I, L, R, am_SH) (po_Tray_numberAt I L R Q)
  refine am_iload_n (n := 1) d_Tray_numberAt_0 rfl rfl ?_
  refine am_iconst (n := 2) d_Tray_numberAt_1 ci_0 rfl ?_
  refine am_bipush (n := 4) d_Tray_numberAt_2 cb_59 rfl ?_
  refine am_callS (kc := 0) (ks := 0) (As := [.int p1, .int 0, .int 59]) (n := 7) d_Tray_numberAt_4 rfl ce_U_within lk_Tray_28 st_U_within rfl rfl (Nat.le_of_ble_eq_true rfl) (Or.inl rfl) (cm_U_within (d := d - 1) hw (by omega)  h) (by omega) ?_
  rintro _ _ ⟨r1, rfl, rfl, h⟩
  show am_Wp (d, "UnseenRing$Tray", b_Tray_numberAt, 2, false) 0 0 7 [some (.ref q), some (.int p1)] [.int (am_b r1)] (I, L, R, am_SH) (po_Tray_numberAt I L R Q)
  refine am_if_eq (y := 0) (tgt := 19) (n := 10) d_Tray_numberAt_7 rfl rfl (fun c1 => ?_) (fun c1 => ?_)
  · have h := h.1 (am_b_0 c1)
    refine am_ldc2 (n := 22) d_Tray_numberAt_19 k_Tray_36 rfl ?_
    exact am_lret d_Tray_numberAt_22 ⟨(-1), rfl, rfl, h⟩
  · have h := h.2 (am_b_n0 c1)
    refine am_aload_n (n := 11) d_Tray_numberAt_10 rfl rfl ?_
    refine am_getR (x := (q + 1)) (n := 14) f_Tray_9 d_Tray_numberAt_11 rfl rfl hq (hw.1 q 10 0 1 hq rfl) ?_
    refine am_iload_n (n := 15) d_Tray_numberAt_14 rfl rfl ?_
    obtain ⟨g1, h⟩ := h
    refine am_lald2 (n := 16) d_Tray_numberAt_15 rfl (am_sho (k := 0) (o := 1) hq (by decide) (by decide) (by decide) rfl) g1 rfl ?_
    refine am_goto (tgt := 22) d_Tray_numberAt_16 rfl ?_
    exact am_lret d_Tray_numberAt_22 ⟨(L (q + 1) (Int32.toNatClampNeg p1)), rfl, rfl, h⟩
abbrev po_U_refused (L : am_TL) (R : am_TR) (Q : Int32 → am_TI → Prop) : Option Value → am_St → Prop := fun r σ' => ∃ (x : Int32) (I' : am_TI), r = some (.int x) ∧ σ' = (I', L, R, am_SH) ∧ Q x I'
def wp_U_refused (I : am_TI) (L : am_TL) (R : am_TR) (q : Nat) (p1 : Int32)  (Q : Int32 → am_TI → Prop) : Prop := (∀ I1, I1 = am_u2 I q 15 p1 → Q (-1) I1)
set_option maxRecDepth 20000 in
theorem cm_U_refused {d : Nat} {I : am_TI} {L : am_TL} {R : am_TR}  (hw : am_Wf R)   {q : Nat} {p1 : Int32} {Q : Int32 → am_TI → Prop} (hd : 0 ≤ d) (hq : am_SH[q]? = some (.inl 11)) (h : wp_U_refused I L R q p1  Q) : am_Cm d 0 0 y_U_refused b_U_refused 2 (some .int) [.ref q, .int p1] (I, L, R, am_SH) (po_U_refused L R Q) := by
  refine am_Cm_of (ini := false) (by decide +kernel) (fun z => by cases z) (by simp [Value.category]) (fun r σ' z => by obtain ⟨x, _, rfl, -⟩ := z; exact ⟨_, rfl, rfl⟩) ?_
  unfold wp_U_refused at h
  show am_Wp (d, "UnseenRing", b_U_refused, 2, false) 0 0 0 [some (.ref q), some (.int p1)] [] (I, L, R, am_SH) (po_U_refused L R Q)
  refine am_aload_n (n := 1) d_U_refused_0 rfl rfl ?_
  refine am_iload_n (n := 2) d_U_refused_1 rfl rfl ?_
  refine am_putI (n := 5) f_U_99 d_U_refused_2 rfl ⟨_, rfl, Or.inl rfl⟩ rfl rfl hq ?_
  generalize eI1 : am_u2 I q 15 p1 = I1
  have h := h I1 eI1.symm
  refine am_iconst (n := 6) d_U_refused_5 ci_m1 rfl ?_
  exact am_iret d_U_refused_6 ⟨(-1), I1, rfl, rfl, h⟩
abbrev po_U_read (L : am_TL) (R : am_TR) (Q : Int64 → am_TI → Prop) : Option Value → am_St → Prop := fun r σ' => ∃ (x : Int64) (I' : am_TI), r = some (.long x) ∧ σ' = (I', L, R, am_SH) ∧ Q x I'
def wp_U_read (I : am_TI) (L : am_TL) (R : am_TR) (q : Nat) (p1 : Int32) (p2 : Int32)  (Q : Int64 → am_TI → Prop) : Prop := wp_U_placeStatus I L R q p1 p2 (fun (r1 : Int32) => ((r1 = 0 → (∀ I1, I1 = am_u2 I q 15 0 → (vp_in p1 4 ∧ wp_Tray_numberAt I1 L R (am_rd R (q + 1) (Int32.toNatClampNeg p1)) p2 (fun (r2 : Int64) => Q r2 I1)))) ∧ (¬ r1 = 0 → wp_U_refused I L R q r1 (fun (r3 : Int32) (I2 : am_TI) => Q (Int32.toInt64 r3) I2))))
set_option maxRecDepth 20000 in
theorem cm_U_read {d : Nat} {I : am_TI} {L : am_TL} {R : am_TR}  (hw : am_Wf R)   {q : Nat} {p1 : Int32} {p2 : Int32} {Q : Int64 → am_TI → Prop} (hd : 4 ≤ d) (hq : am_SH[q]? = some (.inl 11)) (h : wp_U_read I L R q p1 p2  Q) : am_Cm d 0 0 y_U_read b_U_read 4 (some .long) [.ref q, .int p1, .int p2] (I, L, R, am_SH) (po_U_read L R Q) := by
  refine am_Cm_of (ini := false) (by decide +kernel) (fun z => by cases z) (by simp [Value.category]) (fun r σ' z => by obtain ⟨_, _, rfl, -⟩ := z; rfl) ?_
  unfold wp_U_read at h
  show am_Wp (d, "UnseenRing", b_U_read, 4, false) 0 0 0 [some (.ref q), some (.int p1), some (.int p2), none] [] (I, L, R, am_SH) (po_U_read L R Q)
  refine am_aload_n (n := 1) d_U_read_0 rfl rfl ?_
  refine am_iload_n (n := 2) d_U_read_1 rfl rfl ?_
  refine am_iload_n (n := 3) d_U_read_2 rfl rfl ?_
  refine am_callV (kc := 0) (ks := 0) (As := [.int p1, .int p2]) (n := 6) d_U_read_3 rfl ce_U_placeStatus lk_U_125 in_U_placeStatus rfl rfl hq rfl rfl (Nat.le_of_ble_eq_true rfl) (Or.inl rfl) (cm_U_placeStatus (d := d - 1) hw (by omega) hq h) (by omega) ?_
  rintro _ _ ⟨r1, rfl, rfl, h⟩
  show am_Wp (d, "UnseenRing", b_U_read, 4, false) 0 0 6 [some (.ref q), some (.int p1), some (.int p2), none] [.int r1] (I, L, R, am_SH) (po_U_read L R Q)
  refine am_istore_n (ls' := [some (.ref q), some (.int p1), some (.int p2), some (.int r1)]) (n := 7) d_U_read_6 (by decide) rfl rfl ?_
  refine am_iload_n (n := 8) d_U_read_7 rfl rfl ?_
  refine am_if_eq (y := 0) (tgt := 18) (n := 11) d_U_read_8 rfl rfl (fun c1 => ?_) (fun c1 => ?_)
  · have h := h.1 c1
    refine am_aload_n (n := 19) d_U_read_18 rfl rfl ?_
    refine am_iconst (n := 20) d_U_read_19 ci_0 rfl ?_
    refine am_putI (n := 23) f_U_99 d_U_read_20 rfl ⟨_, rfl, Or.inl rfl⟩ rfl rfl hq ?_
    generalize eI1 : am_u2 I q 15 0 = I1
    have h := h I1 eI1.symm
    refine am_aload_n (n := 24) d_U_read_23 rfl rfl ?_
    refine am_getR (x := (q + 1)) (n := 27) f_U_11 d_U_read_24 rfl rfl hq (hw.1 q 11 0 1 hq rfl) ?_
    refine am_iload_n (n := 28) d_U_read_27 rfl rfl ?_
    obtain ⟨g1, h⟩ := h
    refine am_aald42 (x := (am_rd R (q + 1) (Int32.toNatClampNeg p1))) (n := 29) d_U_read_28 rfl (am_sho (k := 0) (o := 1) hq (by decide) (by decide) (by decide) rfl) g1 rfl (hw.tray (am_sho (k := 0) (o := 1) hq (by decide) (by decide) (by decide) rfl) (am_in_j g1 rfl)).1 ?_
    refine am_iload_n (n := 30) d_U_read_29 rfl rfl ?_
    refine am_callV (kc := 0) (ks := 0) (As := [.int p2]) (n := 33) d_U_read_30 rfl ce_Tray_numberAt lk_U_137 in_Tray_numberAt rfl rfl (hw.tray (am_sho (k := 0) (o := 1) hq (by decide) (by decide) (by decide) rfl) (am_in_j g1 rfl)).2 rfl rfl (Nat.le_of_ble_eq_true rfl) (Or.inl rfl) (cm_Tray_numberAt (d := d - 1) hw (by omega) (hw.tray (am_sho (k := 0) (o := 1) hq (by decide) (by decide) (by decide) rfl) (am_in_j g1 rfl)).2 h) (by omega) ?_
    rintro _ _ ⟨r2, rfl, rfl, h⟩
    show am_Wp (d, "UnseenRing", b_U_read, 4, false) 0 0 33 [some (.ref q), some (.int p1), some (.int p2), some (.int r1)] [.long r2] (I1, L, R, am_SH) (po_U_read L R Q)
    exact am_lret d_U_read_33 ⟨r2, I1, rfl, rfl, h⟩
  · have h := h.2 c1
    refine am_aload_n (n := 12) d_U_read_11 rfl rfl ?_
    refine am_iload_n (n := 13) d_U_read_12 rfl rfl ?_
    refine am_callV (kc := 0) (ks := 0) (As := [.int r1]) (n := 16) d_U_read_13 rfl ce_U_refused lk_U_133 in_U_refused rfl rfl hq rfl rfl (Nat.le_of_ble_eq_true rfl) (Or.inl rfl) (cm_U_refused (d := d - 1) hw (by omega) hq h) (by omega) ?_
    rintro _ _ ⟨r3, I2, rfl, rfl, h⟩
    show am_Wp (d, "UnseenRing", b_U_read, 4, false) 0 0 16 [some (.ref q), some (.int p1), some (.int p2), some (.int r1)] [.int r3] (I2, L, R, am_SH) (po_U_read L R Q)
    refine am_i2l (n := 17) d_U_read_16 rfl ?_
    exact am_lret d_U_read_17 ⟨(Int32.toInt64 r3), I2, rfl, rfl, h⟩
abbrev po_U_pour (R : am_TR) (Q : Bool → am_TI → am_TL → Prop) : Option Value → am_St → Prop := fun r σ' => ∃ (x : Bool) (I' : am_TI) (L' : am_TL), r = some (.int (am_b x)) ∧ σ' = (I', L', R, am_SH) ∧ Q x I' L'
def wb_U_pour_28 (R : am_TR) (q : Nat) (p1 : Int32) (p2 : Int32) (p3 : Int32) (p4 : Int32) (p5 : Int32) (Q : Bool → am_TI → am_TL → Prop)  (I : am_TI) (L : am_TL) : Prop := wp_U_settled I L R q 1 (fun (r2 : Bool) (I1 : am_TI) => Q r2 I1 L)
set_option maxRecDepth 20000 in
theorem tb_U_pour_28 {d : Nat}  {R : am_TR} {q : Nat} {p1 : Int32} {p2 : Int32} {p3 : Int32} {p4 : Int32} {p5 : Int32} {Q : Bool → am_TI → am_TL → Prop}  (hw : am_Wf R) (hq : am_SH[q]? = some (.inl 11)) (hd : 2 ≤ d) (I : am_TI) (L : am_TL) (h : wb_U_pour_28 R q p1 p2 p3 p4 p5 Q  I L) : am_Wp (d, "UnseenRing", b_U_pour, 8, false) 0 0 28 [some (.ref q), some (.int p1), some (.int p2), some (.int p3), some (.int p4), some (.int p5), none, none] [] (I, L, R, am_SH) (po_U_pour R Q) := by
  unfold wb_U_pour_28 at h
  refine am_aload_n (n := 29) d_U_pour_28 rfl rfl ?_
  refine am_iconst (n := 30) d_U_pour_29 ci_1 rfl ?_
  refine am_callV (kc := 0) (ks := 0) (As := [.int 1]) (n := 33) d_U_pour_30 rfl ce_U_settled lk_U_118 in_U_settled rfl rfl hq rfl rfl (Nat.le_of_ble_eq_true rfl) (Or.inl rfl) (cm_U_settled (d := d - 1) hw (by omega) hq h) (by omega) ?_
  rintro _ _ ⟨r2, I1, rfl, rfl, h⟩
  show am_Wp (d, "UnseenRing", b_U_pour, 8, false) 0 0 33 [some (.ref q), some (.int p1), some (.int p2), some (.int p3), some (.int p4), some (.int p5), none, none] [.int (am_b r2)] (I1, L, R, am_SH) (po_U_pour R Q)
  exact am_iret d_U_pour_33 ⟨r2, I1, L, rfl, rfl, h⟩
def wb_U_pour_66 (R : am_TR) (q : Nat) (p1 : Int32) (p2 : Int32) (p3 : Int32) (p4 : Int32) (p5 : Int32) (Q : Bool → am_TI → am_TL → Prop)  (I : am_TI) (L : am_TL) : Prop := wp_U_settled I L R q 2 (fun (r5 : Bool) (I2 : am_TI) => Q r5 I2 L)
set_option maxRecDepth 20000 in
theorem tb_U_pour_66 {d : Nat}  {R : am_TR} {q : Nat} {p1 : Int32} {p2 : Int32} {p3 : Int32} {p4 : Int32} {p5 : Int32} {Q : Bool → am_TI → am_TL → Prop}  (hw : am_Wf R) (hq : am_SH[q]? = some (.inl 11)) (hd : 2 ≤ d) (I : am_TI) (L : am_TL) (h : wb_U_pour_66 R q p1 p2 p3 p4 p5 Q  I L) : am_Wp (d, "UnseenRing", b_U_pour, 8, false) 0 0 66 [some (.ref q), some (.int p1), some (.int p2), some (.int p3), some (.int p4), some (.int p5), none, none] [] (I, L, R, am_SH) (po_U_pour R Q) := by
  unfold wb_U_pour_66 at h
  refine am_aload_n (n := 67) d_U_pour_66 rfl rfl ?_
  refine am_iconst (n := 68) d_U_pour_67 ci_2 rfl ?_
  refine am_callV (kc := 0) (ks := 0) (As := [.int 2]) (n := 71) d_U_pour_68 rfl ce_U_settled lk_U_118 in_U_settled rfl rfl hq rfl rfl (Nat.le_of_ble_eq_true rfl) (Or.inl rfl) (cm_U_settled (d := d - 1) hw (by omega) hq h) (by omega) ?_
  rintro _ _ ⟨r5, I2, rfl, rfl, h⟩
  show am_Wp (d, "UnseenRing", b_U_pour, 8, false) 0 0 71 [some (.ref q), some (.int p1), some (.int p2), some (.int p3), some (.int p4), some (.int p5), none, none] [.int (am_b r5)] (I2, L, R, am_SH) (po_U_pour R Q)
  exact am_iret d_U_pour_71 ⟨r5, I2, L, rfl, rfl, h⟩
def wb_U_pour_117 (R : am_TR) (q : Nat) (p1 : Int32) (p2 : Int32) (p3 : Int32) (p4 : Int32) (p5 : Int32) (Q : Bool → am_TI → am_TL → Prop)  (I : am_TI) (L : am_TL) : Prop := wp_U_settled I L R q 3 (fun (r7 : Bool) (I3 : am_TI) => Q r7 I3 L)
set_option maxRecDepth 20000 in
theorem tb_U_pour_117 {d : Nat}  {R : am_TR} {q : Nat} {p1 : Int32} {p2 : Int32} {p3 : Int32} {p4 : Int32} {p5 : Int32} {Q : Bool → am_TI → am_TL → Prop}  (hw : am_Wf R) (hq : am_SH[q]? = some (.inl 11)) (hd : 2 ≤ d) (I : am_TI) (L : am_TL) (h : wb_U_pour_117 R q p1 p2 p3 p4 p5 Q  I L) : am_Wp (d, "UnseenRing", b_U_pour, 8, false) 0 0 117 [some (.ref q), some (.int p1), some (.int p2), some (.int p3), some (.int p4), some (.int p5), none, none] [] (I, L, R, am_SH) (po_U_pour R Q) := by
  unfold wb_U_pour_117 at h
  refine am_aload_n (n := 118) d_U_pour_117 rfl rfl ?_
  refine am_iconst (n := 119) d_U_pour_118 ci_3 rfl ?_
  refine am_callV (kc := 0) (ks := 0) (As := [.int 3]) (n := 122) d_U_pour_119 rfl ce_U_settled lk_U_118 in_U_settled rfl rfl hq rfl rfl (Nat.le_of_ble_eq_true rfl) (Or.inl rfl) (cm_U_settled (d := d - 1) hw (by omega) hq h) (by omega) ?_
  rintro _ _ ⟨r7, I3, rfl, rfl, h⟩
  show am_Wp (d, "UnseenRing", b_U_pour, 8, false) 0 0 122 [some (.ref q), some (.int p1), some (.int p2), some (.int p3), some (.int p4), some (.int p5), none, none] [.int (am_b r7)] (I3, L, R, am_SH) (po_U_pour R Q)
  exact am_iret d_U_pour_122 ⟨r7, I3, L, rfl, rfl, h⟩
def wp_U_pour (I : am_TI) (L : am_TL) (R : am_TR) (q : Nat) (p1 : Int32) (p2 : Int32) (p3 : Int32) (p4 : Int32) (p5 : Int32)  (Q : Bool → am_TI → am_TL → Prop) : Prop := wp_U_isTray I L R p1 (fun (r1 : Bool) => ((r1 = false → wb_U_pour_28 R q p1 p2 p3 p4 p5 Q I L) ∧ (r1 = true → wp_U_isTray I L R p3 (fun (r3 : Bool) => ((r3 = false → wb_U_pour_28 R q p1 p2 p3 p4 p5 Q I L) ∧ (r3 = true → ((p2 < 0 → wb_U_pour_28 R q p1 p2 p3 p4 p5 Q I L) ∧ (¬ p2 < 0 → ((p4 < 0 → wb_U_pour_28 R q p1 p2 p3 p4 p5 Q I L) ∧ (¬ p4 < 0 → ((0 ≤ p5 → (vp_in p1 4 ∧ (vp_in p3 4 ∧ wp_Tray_isMissing I L R (am_rd R (q + 1) (Int32.toNatClampNeg p1)) (fun (r4 : Bool) => ((r4 = false → wp_Tray_isMissing I L R (am_rd R (q + 1) (Int32.toNatClampNeg p3)) (fun (r6 : Bool) => ((r6 = false → (((I (am_rd R (q + 1) (Int32.toNatClampNeg p1)) 1) = (I (am_rd R (q + 1) (Int32.toNatClampNeg p3)) 1) → ((((I (am_rd R (q + 1) (Int32.toNatClampNeg p1)) 2) - p5) < p2 → wb_U_pour_117 R q p1 p2 p3 p4 p5 Q I L) ∧ (¬ ((I (am_rd R (q + 1) (Int32.toNatClampNeg p1)) 2) - p5) < p2 → ((p4 ≤ ((I (am_rd R (q + 1) (Int32.toNatClampNeg p3)) 2) - p5) → (¬ p2 < 0 ∧ (¬ p4 < 0 ∧ (¬ p5 < 0 ∧ (Int32.toNatClampNeg p2 + Int32.toNatClampNeg p5 ≤ 60 ∧ (Int32.toNatClampNeg p4 + Int32.toNatClampNeg p5 ≤ 60 ∧ (∀ L1, L1 = am_row L ((am_rd R (q + 1) (Int32.toNatClampNeg p3)) + 1) (va_cpy (L ((am_rd R (q + 1) (Int32.toNatClampNeg p1)) + 1)) (L ((am_rd R (q + 1) (Int32.toNatClampNeg p3)) + 1)) (Int32.toNatClampNeg p2) (Int32.toNatClampNeg p4) (Int32.toNatClampNeg p5)) → wp_U_settled I L1 R q 0 (fun (r8 : Bool) (I4 : am_TI) => Q r8 I4 L1)))))))) ∧ (¬ p4 ≤ ((I (am_rd R (q + 1) (Int32.toNatClampNeg p3)) 2) - p5) → wb_U_pour_117 R q p1 p2 p3 p4 p5 Q I L))))) ∧ (¬ (I (am_rd R (q + 1) (Int32.toNatClampNeg p1)) 1) = (I (am_rd R (q + 1) (Int32.toNatClampNeg p3)) 1) → wp_U_settled I L R q 8 (fun (r9 : Bool) (I5 : am_TI) => Q r9 I5 L)))) ∧ (r6 = true → wb_U_pour_66 R q p1 p2 p3 p4 p5 Q I L)))) ∧ (r4 = true → wb_U_pour_66 R q p1 p2 p3 p4 p5 Q I L)))))) ∧ (¬ 0 ≤ p5 → wb_U_pour_28 R q p1 p2 p3 p4 p5 Q I L))))))))))))
set_option maxRecDepth 20000 in
theorem cm_U_pour {d : Nat} {I : am_TI} {L : am_TL} {R : am_TR}  (hw : am_Wf R)   {q : Nat} {p1 : Int32} {p2 : Int32} {p3 : Int32} {p4 : Int32} {p5 : Int32} {Q : Bool → am_TI → am_TL → Prop} (hd : 2 ≤ d) (hq : am_SH[q]? = some (.inl 11)) (h : wp_U_pour I L R q p1 p2 p3 p4 p5  Q) : am_Cm d 0 0 y_U_pour b_U_pour 8 (some .boolean) [.ref q, .int p1, .int p2, .int p3, .int p4, .int p5] (I, L, R, am_SH) (po_U_pour R Q) := by
  refine am_Cm_of (ini := false) (by decide +kernel) (fun z => by cases z) (by simp [Value.category]) (fun r σ' z => by obtain ⟨x, _, _, rfl, -⟩ := z; exact ⟨_, rfl, am_b_nar x⟩) ?_
  unfold wp_U_pour at h
  show am_Wp (d, "UnseenRing", b_U_pour, 8, false) 0 0 0 [some (.ref q), some (.int p1), some (.int p2), some (.int p3), some (.int p4), some (.int p5), none, none] [] (I, L, R, am_SH) (po_U_pour R Q)
  refine am_iload_n (n := 1) d_U_pour_0 rfl rfl ?_
  refine am_callS (kc := 0) (ks := 0) (As := [.int p1]) (n := 4) d_U_pour_1 rfl ce_U_isTray lk_U_110 st_U_isTray rfl rfl (Nat.le_of_ble_eq_true rfl) (Or.inl rfl) (cm_U_isTray (d := d - 1) hw (by omega)  h) (by omega) ?_
  rintro _ _ ⟨r1, rfl, rfl, h⟩
  show am_Wp (d, "UnseenRing", b_U_pour, 8, false) 0 0 4 [some (.ref q), some (.int p1), some (.int p2), some (.int p3), some (.int p4), some (.int p5), none, none] [.int (am_b r1)] (I, L, R, am_SH) (po_U_pour R Q)
  refine am_if_eq (y := 0) (tgt := 28) (n := 7) d_U_pour_4 rfl rfl (fun c1 => ?_) (fun c1 => ?_)
  · have h := h.1 (am_b_0 c1)
    exact tb_U_pour_28 hw hq hd I L h
  · have h := h.2 (am_b_n0 c1)
    refine am_iload_n (n := 8) d_U_pour_7 rfl rfl ?_
    refine am_callS (kc := 0) (ks := 0) (As := [.int p3]) (n := 11) d_U_pour_8 rfl ce_U_isTray lk_U_110 st_U_isTray rfl rfl (Nat.le_of_ble_eq_true rfl) (Or.inl rfl) (cm_U_isTray (d := d - 1) hw (by omega)  h) (by omega) ?_
    rintro _ _ ⟨r3, rfl, rfl, h⟩
    show am_Wp (d, "UnseenRing", b_U_pour, 8, false) 0 0 11 [some (.ref q), some (.int p1), some (.int p2), some (.int p3), some (.int p4), some (.int p5), none, none] [.int (am_b r3)] (I, L, R, am_SH) (po_U_pour R Q)
    refine am_if_eq (y := 0) (tgt := 28) (n := 14) d_U_pour_11 rfl rfl (fun c2 => ?_) (fun c2 => ?_)
    · have h := h.1 (am_b_0 c2)
      exact tb_U_pour_28 hw hq hd I L h
    · have h := h.2 (am_b_n0 c2)
      refine am_iload_n (n := 15) d_U_pour_14 rfl rfl ?_
      refine am_if_lt (y := 0) (tgt := 28) (n := 18) d_U_pour_15 rfl rfl (fun c3 => ?_) (fun c3 => ?_)
      · have h := h.1 c3
        exact tb_U_pour_28 hw hq hd I L h
      · have h := h.2 c3
        refine am_iload (n := 20) d_U_pour_18 rfl rfl ?_
        refine am_if_lt (y := 0) (tgt := 28) (n := 23) d_U_pour_20 rfl rfl (fun c4 => ?_) (fun c4 => ?_)
        · have h := h.1 c4
          exact tb_U_pour_28 hw hq hd I L h
        · have h := h.2 c4
          refine am_iload (n := 25) d_U_pour_23 rfl rfl ?_
          refine am_if_ge (y := 0) (tgt := 34) (n := 28) d_U_pour_25 rfl rfl (fun c5 => ?_) (fun c5 => ?_)
          · have h := h.1 c5
            refine am_aload_n (n := 35) d_U_pour_34 rfl rfl ?_
            refine am_getR (x := (q + 1)) (n := 38) f_U_11 d_U_pour_35 rfl rfl hq (hw.1 q 11 0 1 hq rfl) ?_
            refine am_iload_n (n := 39) d_U_pour_38 rfl rfl ?_
            obtain ⟨g1, h⟩ := h
            refine am_aald42 (x := (am_rd R (q + 1) (Int32.toNatClampNeg p1))) (n := 40) d_U_pour_39 rfl (am_sho (k := 0) (o := 1) hq (by decide) (by decide) (by decide) rfl) g1 rfl (hw.tray (am_sho (k := 0) (o := 1) hq (by decide) (by decide) (by decide) rfl) (am_in_j g1 rfl)).1 ?_
            refine am_astore (ls' := [some (.ref q), some (.int p1), some (.int p2), some (.int p3), some (.int p4), some (.int p5), some (.ref (am_rd R (q + 1) (Int32.toNatClampNeg p1))), none]) (n := 42) d_U_pour_40 (by decide) rfl rfl ?_
            refine am_aload_n (n := 43) d_U_pour_42 rfl rfl ?_
            refine am_getR (x := (q + 1)) (n := 46) f_U_11 d_U_pour_43 rfl rfl hq (hw.1 q 11 0 1 hq rfl) ?_
            refine am_iload_n (n := 47) d_U_pour_46 rfl rfl ?_
            obtain ⟨g2, h⟩ := h
            refine am_aald42 (x := (am_rd R (q + 1) (Int32.toNatClampNeg p3))) (n := 48) d_U_pour_47 rfl (am_sho (k := 0) (o := 1) hq (by decide) (by decide) (by decide) rfl) g2 rfl (hw.tray (am_sho (k := 0) (o := 1) hq (by decide) (by decide) (by decide) rfl) (am_in_j g2 rfl)).1 ?_
            refine am_astore (ls' := [some (.ref q), some (.int p1), some (.int p2), some (.int p3), some (.int p4), some (.int p5), some (.ref (am_rd R (q + 1) (Int32.toNatClampNeg p1))), some (.ref (am_rd R (q + 1) (Int32.toNatClampNeg p3)))]) (n := 50) d_U_pour_48 (by decide) rfl rfl ?_
            refine am_aload (n := 52) d_U_pour_50 rfl rfl ?_
            refine am_callV (kc := 0) (ks := 0) (As := []) (n := 55) d_U_pour_52 rfl ce_Tray_isMissing lk_U_141 in_Tray_isMissing rfl rfl (hw.tray (am_sho (k := 0) (o := 1) hq (by decide) (by decide) (by decide) rfl) (am_in_j g1 rfl)).2 rfl rfl (Nat.le_of_ble_eq_true rfl) (Or.inl rfl) (cm_Tray_isMissing (d := d - 1) hw (by omega) (hw.tray (am_sho (k := 0) (o := 1) hq (by decide) (by decide) (by decide) rfl) (am_in_j g1 rfl)).2 h) (by omega) ?_
            rintro _ _ ⟨r4, rfl, rfl, h⟩
            show am_Wp (d, "UnseenRing", b_U_pour, 8, false) 0 0 55 [some (.ref q), some (.int p1), some (.int p2), some (.int p3), some (.int p4), some (.int p5), some (.ref (am_rd R (q + 1) (Int32.toNatClampNeg p1))), some (.ref (am_rd R (q + 1) (Int32.toNatClampNeg p3)))] [.int (am_b r4)] (I, L, R, am_SH) (po_U_pour R Q)
            refine am_if_ne (y := 0) (tgt := 66) (n := 58) d_U_pour_55 rfl rfl (fun c6 => ?_) (fun c6 => ?_)
            · have h := h.2 (am_b_n0 c6)
              refine am_forget (ls' := [some (.ref q), some (.int p1), some (.int p2), some (.int p3), some (.int p4), some (.int p5), none, none]) (am_le_s (am_le_s (am_le_s (am_le_s (am_le_s (am_le_s (am_le_n (am_le_n am_le_e)))))))) ?_
              exact tb_U_pour_66 hw hq hd I L h
            · have h := h.1 (am_b_0 c6)
              refine am_aload (n := 60) d_U_pour_58 rfl rfl ?_
              refine am_callV (kc := 0) (ks := 0) (As := []) (n := 63) d_U_pour_60 rfl ce_Tray_isMissing lk_U_141 in_Tray_isMissing rfl rfl (hw.tray (am_sho (k := 0) (o := 1) hq (by decide) (by decide) (by decide) rfl) (am_in_j g2 rfl)).2 rfl rfl (Nat.le_of_ble_eq_true rfl) (Or.inl rfl) (cm_Tray_isMissing (d := d - 1) hw (by omega) (hw.tray (am_sho (k := 0) (o := 1) hq (by decide) (by decide) (by decide) rfl) (am_in_j g2 rfl)).2 h) (by omega) ?_
              rintro _ _ ⟨r6, rfl, rfl, h⟩
              show am_Wp (d, "UnseenRing", b_U_pour, 8, false) 0 0 63 [some (.ref q), some (.int p1), some (.int p2), some (.int p3), some (.int p4), some (.int p5), some (.ref (am_rd R (q + 1) (Int32.toNatClampNeg p1))), some (.ref (am_rd R (q + 1) (Int32.toNatClampNeg p3)))] [.int (am_b r6)] (I, L, R, am_SH) (po_U_pour R Q)
              refine am_if_eq (y := 0) (tgt := 72) (n := 66) d_U_pour_63 rfl rfl (fun c7 => ?_) (fun c7 => ?_)
              · have h := h.1 (am_b_0 c7)
                refine am_aload (n := 74) d_U_pour_72 rfl rfl ?_
                refine am_getI (n := 77) f_U_145 d_U_pour_74 rfl rfl (hw.tray (am_sho (k := 0) (o := 1) hq (by decide) (by decide) (by decide) rfl) (am_in_j g1 rfl)).2 ?_
                refine am_aload (n := 79) d_U_pour_77 rfl rfl ?_
                refine am_getI (n := 82) f_U_145 d_U_pour_79 rfl rfl (hw.tray (am_sho (k := 0) (o := 1) hq (by decide) (by decide) (by decide) rfl) (am_in_j g2 rfl)).2 ?_
                refine am_icmp_eq (tgt := 92) (n := 85) d_U_pour_82 rfl rfl (fun c8 => ?_) (fun c8 => ?_)
                · have h := h.1 c8
                  refine am_iload_n (n := 93) d_U_pour_92 rfl rfl ?_
                  refine am_aload (n := 95) d_U_pour_93 rfl rfl ?_
                  refine am_getI (n := 98) f_U_148 d_U_pour_95 rfl rfl (hw.tray (am_sho (k := 0) (o := 1) hq (by decide) (by decide) (by decide) rfl) (am_in_j g1 rfl)).2 ?_
                  refine am_iload (n := 100) d_U_pour_98 rfl rfl ?_
                  refine am_isub (n := 101) d_U_pour_100 rfl ?_
                  refine am_icmp_gt (tgt := 117) (n := 104) d_U_pour_101 rfl rfl (fun c9 => ?_) (fun c9 => ?_)
                  · have h := h.1 c9
                    refine am_forget (ls' := [some (.ref q), some (.int p1), some (.int p2), some (.int p3), some (.int p4), some (.int p5), none, none]) (am_le_s (am_le_s (am_le_s (am_le_s (am_le_s (am_le_s (am_le_n (am_le_n am_le_e)))))))) ?_
                    exact tb_U_pour_117 hw hq hd I L h
                  · have h := h.2 c9
                    refine am_iload (n := 106) d_U_pour_104 rfl rfl ?_
                    refine am_aload (n := 108) d_U_pour_106 rfl rfl ?_
                    refine am_getI (n := 111) f_U_148 d_U_pour_108 rfl rfl (hw.tray (am_sho (k := 0) (o := 1) hq (by decide) (by decide) (by decide) rfl) (am_in_j g2 rfl)).2 ?_
                    refine am_iload (n := 113) d_U_pour_111 rfl rfl ?_
                    refine am_isub (n := 114) d_U_pour_113 rfl ?_
                    refine am_icmp_le (tgt := 123) (n := 117) d_U_pour_114 rfl rfl (fun c10 => ?_) (fun c10 => ?_)
                    · have h := h.1 c10
                      refine am_aload (n := 125) d_U_pour_123 rfl rfl ?_
                      refine am_getR (x := ((am_rd R (q + 1) (Int32.toNatClampNeg p1)) + 1)) (n := 128) f_U_151 d_U_pour_125 rfl rfl (hw.tray (am_sho (k := 0) (o := 1) hq (by decide) (by decide) (by decide) rfl) (am_in_j g1 rfl)).2 (hw.1 (am_rd R (q + 1) (Int32.toNatClampNeg p1)) 10 0 1 (hw.tray (am_sho (k := 0) (o := 1) hq (by decide) (by decide) (by decide) rfl) (am_in_j g1 rfl)).2 rfl) ?_
                      refine am_iload_n (n := 129) d_U_pour_128 rfl rfl ?_
                      refine am_aload (n := 131) d_U_pour_129 rfl rfl ?_
                      refine am_getR (x := ((am_rd R (q + 1) (Int32.toNatClampNeg p3)) + 1)) (n := 134) f_U_151 d_U_pour_131 rfl rfl (hw.tray (am_sho (k := 0) (o := 1) hq (by decide) (by decide) (by decide) rfl) (am_in_j g2 rfl)).2 (hw.1 (am_rd R (q + 1) (Int32.toNatClampNeg p3)) 10 0 1 (hw.tray (am_sho (k := 0) (o := 1) hq (by decide) (by decide) (by decide) rfl) (am_in_j g2 rfl)).2 rfl) ?_
                      refine am_iload (n := 136) d_U_pour_134 rfl rfl ?_
                      refine am_iload (n := 138) d_U_pour_136 rfl rfl ?_
                      obtain ⟨g3, h⟩ := h
                      obtain ⟨g4, h⟩ := h
                      obtain ⟨g5, h⟩ := h
                      obtain ⟨g6, h⟩ := h
                      obtain ⟨g7, h⟩ := h
                      refine am_copyL2 (n := 141) d_U_pour_138 rfl la_U_155 (am_sho (k := 0) (o := 1) (hw.tray (am_sho (k := 0) (o := 1) hq (by decide) (by decide) (by decide) rfl) (am_in_j g1 rfl)).2 (by decide) (by decide) (by decide) rfl) (am_sho (k := 0) (o := 1) (hw.tray (am_sho (k := 0) (o := 1) hq (by decide) (by decide) (by decide) rfl) (am_in_j g2 rfl)).2 (by decide) (by decide) (by decide) rfl) g3 g4 g5 g6 g7 (Nat.le_of_ble_eq_true rfl) (by omega) ?_
                      generalize eL1 : am_row L ((am_rd R (q + 1) (Int32.toNatClampNeg p3)) + 1) (va_cpy (L ((am_rd R (q + 1) (Int32.toNatClampNeg p1)) + 1)) (L ((am_rd R (q + 1) (Int32.toNatClampNeg p3)) + 1)) (Int32.toNatClampNeg p2) (Int32.toNatClampNeg p4) (Int32.toNatClampNeg p5)) = L1
                      have h := h L1 eL1.symm
                      refine am_aload_n (n := 142) d_U_pour_141 rfl rfl ?_
                      refine am_iconst (n := 143) d_U_pour_142 ci_0 rfl ?_
                      refine am_callV (kc := 0) (ks := 0) (As := [.int 0]) (n := 146) d_U_pour_143 rfl ce_U_settled lk_U_118 in_U_settled rfl rfl hq rfl rfl (Nat.le_of_ble_eq_true rfl) (Or.inl rfl) (cm_U_settled (d := d - 1) hw (by omega) hq h) (by omega) ?_
                      rintro _ _ ⟨r8, I4, rfl, rfl, h⟩
                      show am_Wp (d, "UnseenRing", b_U_pour, 8, false) 0 0 146 [some (.ref q), some (.int p1), some (.int p2), some (.int p3), some (.int p4), some (.int p5), some (.ref (am_rd R (q + 1) (Int32.toNatClampNeg p1))), some (.ref (am_rd R (q + 1) (Int32.toNatClampNeg p3)))] [.int (am_b r8)] (I4, L1, R, am_SH) (po_U_pour R Q)
                      exact am_iret d_U_pour_146 ⟨r8, I4, L1, rfl, rfl, h⟩
                    · have h := h.2 c10
                      refine am_forget (ls' := [some (.ref q), some (.int p1), some (.int p2), some (.int p3), some (.int p4), some (.int p5), none, none]) (am_le_s (am_le_s (am_le_s (am_le_s (am_le_s (am_le_s (am_le_n (am_le_n am_le_e)))))))) ?_
                      exact tb_U_pour_117 hw hq hd I L h
                · have h := h.2 c8
                  refine am_aload_n (n := 86) d_U_pour_85 rfl rfl ?_
                  refine am_bipush (n := 88) d_U_pour_86 cb_8 rfl ?_
                  refine am_callV (kc := 0) (ks := 0) (As := [.int 8]) (n := 91) d_U_pour_88 rfl ce_U_settled lk_U_118 in_U_settled rfl rfl hq rfl rfl (Nat.le_of_ble_eq_true rfl) (Or.inl rfl) (cm_U_settled (d := d - 1) hw (by omega) hq h) (by omega) ?_
                  rintro _ _ ⟨r9, I5, rfl, rfl, h⟩
                  show am_Wp (d, "UnseenRing", b_U_pour, 8, false) 0 0 91 [some (.ref q), some (.int p1), some (.int p2), some (.int p3), some (.int p4), some (.int p5), some (.ref (am_rd R (q + 1) (Int32.toNatClampNeg p1))), some (.ref (am_rd R (q + 1) (Int32.toNatClampNeg p3)))] [.int (am_b r9)] (I5, L, R, am_SH) (po_U_pour R Q)
                  exact am_iret d_U_pour_91 ⟨r9, I5, L, rfl, rfl, h⟩
              · have h := h.2 (am_b_n0 c7)
                refine am_forget (ls' := [some (.ref q), some (.int p1), some (.int p2), some (.int p3), some (.int p4), some (.int p5), none, none]) (am_le_s (am_le_s (am_le_s (am_le_s (am_le_s (am_le_s (am_le_n (am_le_n am_le_e)))))))) ?_
                exact tb_U_pour_66 hw hq hd I L h
          · have h := h.2 c5
            exact tb_U_pour_28 hw hq hd I L h
abbrev po_Tokens_append (L : am_TL) (R : am_TR) (Q : am_TI → Prop) : Option Value → am_St → Prop := fun r σ' => ∃ (I' : am_TI), r = none ∧ σ' = (I', L, R, am_SH) ∧ Q I'
def wl_Tokens_append_3 (L : am_TL) (R : am_TR) (q : Nat) (p1 : Int32) (Q : am_TI → Prop)  : Nat → am_TI → Int32 → Prop
  | 0 => fun _ _ => False
  | f3 + 1 => fun I v2 => ((v2 < 0 → Q I) ∧ (¬ v2 < 0 → ((900 ≤ (I q 7) → Q I) ∧ (¬ 900 ≤ (I q 7) → (vp_in (I q 7) 900 ∧ (∀ I1, I1 = am_u2 I (q + 1) (Int32.toNatClampNeg (I q 7)) (vp_nar .byte (Int8.toInt32 (Int32.toInt8 (p1 >>> (v2 &&& 31))))) → (∀ I2, I2 = am_u2 I1 q 7 ((I1 q 7) + 1) → wl_Tokens_append_3 L R q p1 Q f3 I2 (v2 + (-8)))))))))
set_option maxRecDepth 20000 in
theorem tl_Tokens_append_3 {d : Nat}  {L : am_TL} {R : am_TR} {q : Nat} {p1 : Int32} {Q : am_TI → Prop}  (hw : am_Wf R) (hq : am_SH[q]? = some (.inl 9)) (hd : 0 ≤ d) : ∀ (n : Nat) (I : am_TI) (v2 : Int32), wl_Tokens_append_3 L R q p1 Q  n I v2 → am_Wp (d, "UnseenRing$Tokens", b_Tokens_append, 3, false) 0 0 3 [some (.ref q), some (.int p1), some (.int v2)] [] (I, L, R, am_SH) (po_Tokens_append L R Q) := by
  intro n
  induction n with
  | zero => intro I v2 h; exact h.elim
  | succ n ih =>
    intro I v2 h
    unfold wl_Tokens_append_3 at h
    refine am_iload_n (n := 4) d_Tokens_append_3 rfl rfl ?_
    refine am_if_lt (y := 0) (tgt := 46) (n := 7) d_Tokens_append_4 rfl rfl (fun c1 => ?_) (fun c1 => ?_)
    · have h := h.1 c1
      exact am_vret d_Tokens_append_46 ⟨I, rfl, rfl, h⟩
    · have h := h.2 c1
      refine am_aload_n (n := 8) d_Tokens_append_7 rfl rfl ?_
      refine am_getI (n := 11) f_Tokens_36 d_Tokens_append_8 rfl rfl hq ?_
      refine am_sipush (n := 14) d_Tokens_append_11 cs_900 rfl ?_
      refine am_icmp_ge (tgt := 46) (n := 17) d_Tokens_append_14 rfl rfl (fun c2 => ?_) (fun c2 => ?_)
      · have h := h.1 c2
        exact am_vret d_Tokens_append_46 ⟨I, rfl, rfl, h⟩
      · have h := h.2 c2
        refine am_aload_n (n := 18) d_Tokens_append_17 rfl rfl ?_
        refine am_getR (x := (q + 1)) (n := 21) f_Tokens_11 d_Tokens_append_18 rfl rfl hq (hw.1 q 9 0 1 hq rfl) ?_
        refine am_aload_n (n := 22) d_Tokens_append_21 rfl rfl ?_
        refine am_getI (n := 25) f_Tokens_36 d_Tokens_append_22 rfl rfl hq ?_
        refine am_iload_n (n := 26) d_Tokens_append_25 rfl rfl ?_
        refine am_iload_n (n := 27) d_Tokens_append_26 rfl rfl ?_
        refine am_ishr (n := 28) d_Tokens_append_27 rfl ?_
        refine am_i2b (n := 29) d_Tokens_append_28 rfl ?_
        obtain ⟨g1, h⟩ := h
        refine am_bast2 (n := 30) d_Tokens_append_29 rfl (am_sho (k := 0) (o := 1) hq (by decide) (by decide) (by decide) rfl) g1 rfl ?_
        generalize eI1 : am_u2 I (q + 1) (Int32.toNatClampNeg (I q 7)) (vp_nar .byte (Int8.toInt32 (Int32.toInt8 (p1 >>> (v2 &&& 31))))) = I1
        have h := h I1 eI1.symm
        refine am_aload_n (n := 31) d_Tokens_append_30 rfl rfl ?_
        refine am_dup (n := 32) d_Tokens_append_31 rfl rfl ?_
        refine am_getI (n := 35) f_Tokens_36 d_Tokens_append_32 rfl rfl hq ?_
        refine am_iconst (n := 36) d_Tokens_append_35 ci_1 rfl ?_
        refine am_iadd (n := 37) d_Tokens_append_36 rfl ?_
        refine am_putI (n := 40) f_Tokens_36 d_Tokens_append_37 rfl ⟨_, rfl, Or.inl rfl⟩ rfl rfl hq ?_
        generalize eI2 : am_u2 I1 q 7 ((I1 q 7) + 1) = I2
        have h := h I2 eI2.symm
        refine am_iinc (v := v2 + (-8)) (ls' := [some (.ref q), some (.int p1), some (.int (v2 + (-8)))]) (n := 43) d_Tokens_append_40 rfl (congrArg _ ci_m8) (by decide) rfl rfl ?_
        refine am_goto (tgt := 3) d_Tokens_append_43 rfl ?_
        exact ih I2 (v2 + (-8))  h
def wp_Tokens_append (I : am_TI) (L : am_TL) (R : am_TR) (q : Nat) (p1 : Int32)  (Q : am_TI → Prop) : Prop := (∃ z, wl_Tokens_append_3 L R q p1 Q z I 24)
set_option maxRecDepth 20000 in
theorem cm_Tokens_append {d : Nat} {I : am_TI} {L : am_TL} {R : am_TR}  (hw : am_Wf R)   {q : Nat} {p1 : Int32} {Q : am_TI → Prop} (hd : 0 ≤ d) (hq : am_SH[q]? = some (.inl 9)) (h : wp_Tokens_append I L R q p1  Q) : am_Cm d 0 0 y_Tokens_append b_Tokens_append 3 (none) [.ref q, .int p1] (I, L, R, am_SH) (po_Tokens_append L R Q) := by
  refine am_Cm_of (ini := false) (by decide +kernel) (fun z => by cases z) (by simp [Value.category]) (fun r σ' z => by obtain ⟨_, rfl, -⟩ := z; rfl) ?_
  unfold wp_Tokens_append at h
  show am_Wp (d, "UnseenRing$Tokens", b_Tokens_append, 3, false) 0 0 0 [some (.ref q), some (.int p1), none] [] (I, L, R, am_SH) (po_Tokens_append L R Q)
  refine am_bipush (n := 2) d_Tokens_append_0 cb_24 rfl ?_
  refine am_istore_n (ls' := [some (.ref q), some (.int p1), some (.int 24)]) (n := 3) d_Tokens_append_2 (by decide) rfl rfl ?_
  obtain ⟨n, h⟩ := h
  exact tl_Tokens_append_3 hw hq hd n I 24 h
abbrev po_Tokens_hasRoom (I : am_TI) (L : am_TL) (R : am_TR) (Q : Bool → Prop) : Option Value → am_St → Prop := fun r σ' => ∃ (x : Bool), r = some (.int (am_b x)) ∧ σ' = (I, L, R, am_SH) ∧ Q x
def wp_Tokens_hasRoom (I : am_TI) (L : am_TL) (R : am_TR) (q : Nat)  (Q : Bool → Prop) : Prop := ((880 < (I q 7) → Q false) ∧ (¬ 880 < (I q 7) → Q true))
set_option maxRecDepth 20000 in
theorem cm_Tokens_hasRoom {d : Nat} {I : am_TI} {L : am_TL} {R : am_TR}  (hw : am_Wf R)   {q : Nat} {Q : Bool → Prop} (hd : 0 ≤ d) (hq : am_SH[q]? = some (.inl 9)) (h : wp_Tokens_hasRoom I L R q  Q) : am_Cm d 0 0 y_Tokens_hasRoom b_Tokens_hasRoom 1 (some .boolean) [.ref q] (I, L, R, am_SH) (po_Tokens_hasRoom I L R Q) := by
  refine am_Cm_of (ini := false) (by decide +kernel) (fun z => by cases z) (by simp [Value.category]) (fun r σ' z => by obtain ⟨x, rfl, -⟩ := z; exact ⟨_, rfl, am_b_nar x⟩) ?_
  unfold wp_Tokens_hasRoom at h
  show am_Wp (d, "UnseenRing$Tokens", b_Tokens_hasRoom, 1, false) 0 0 0 [some (.ref q)] [] (I, L, R, am_SH) (po_Tokens_hasRoom I L R Q)
  refine am_aload_n (n := 1) d_Tokens_hasRoom_0 rfl rfl ?_
  refine am_getI (n := 4) f_Tokens_36 d_Tokens_hasRoom_1 rfl rfl hq ?_
  refine am_sipush (n := 7) d_Tokens_hasRoom_4 cs_880 rfl ?_
  refine am_icmp_gt (tgt := 14) (n := 10) d_Tokens_hasRoom_7 rfl rfl (fun c1 => ?_) (fun c1 => ?_)
  · have h := h.1 c1
    refine am_iconst (n := 15) d_Tokens_hasRoom_14 ci_0 rfl ?_
    exact am_iret d_Tokens_hasRoom_15 ⟨false, rfl, rfl, h⟩
  · have h := h.2 c1
    refine am_iconst (n := 11) d_Tokens_hasRoom_10 ci_1 rfl ?_
    refine am_goto (tgt := 15) d_Tokens_hasRoom_11 rfl ?_
    exact am_iret d_Tokens_hasRoom_15 ⟨true, rfl, rfl, h⟩
abbrev po_U_feed (L : am_TL) (R : am_TR) (Q : Int32 → am_TI → Prop) : Option Value → am_St → Prop := fun r σ' => ∃ (x : Int32) (I' : am_TI), r = some (.int x) ∧ σ' = (I', L, R, am_SH) ∧ Q x I'
def wp_U_feed (I : am_TI) (L : am_TL) (R : am_TR) (q : Nat) (p1 : Int32) (p2 : Int32) (p3 : Int32) (p4 : Int32) (p5 : Int32)  (Q : Int32 → am_TI → Prop) : Prop := wp_Tokens_hasRoom I L R (q + 2) (fun (r1 : Bool) => ((r1 = false → Q (-1) I) ∧ (r1 = true → wp_Tokens_append I L R (q + 2) p1 (fun (I1 : am_TI) => wp_Tokens_append I1 L R (q + 2) p2 (fun (I2 : am_TI) => wp_Tokens_append I2 L R (q + 2) p3 (fun (I3 : am_TI) => wp_Tokens_append I3 L R (q + 2) p4 (fun (I4 : am_TI) => wp_Tokens_append I4 L R (q + 2) p5 (fun (I5 : am_TI) => Q (I5 (q + 2) 7) I5))))))))
set_option maxRecDepth 20000 in
theorem cm_U_feed {d : Nat} {I : am_TI} {L : am_TL} {R : am_TR}  (hw : am_Wf R)   {q : Nat} {p1 : Int32} {p2 : Int32} {p3 : Int32} {p4 : Int32} {p5 : Int32} {Q : Int32 → am_TI → Prop} (hd : 1 ≤ d) (hq : am_SH[q]? = some (.inl 11)) (h : wp_U_feed I L R q p1 p2 p3 p4 p5  Q) : am_Cm d 0 0 y_U_feed b_U_feed 6 (some .int) [.ref q, .int p1, .int p2, .int p3, .int p4, .int p5] (I, L, R, am_SH) (po_U_feed L R Q) := by
  refine am_Cm_of (ini := false) (by decide +kernel) (fun z => by cases z) (by simp [Value.category]) (fun r σ' z => by obtain ⟨x, _, rfl, -⟩ := z; exact ⟨_, rfl, rfl⟩) ?_
  unfold wp_U_feed at h
  show am_Wp (d, "UnseenRing", b_U_feed, 6, false) 0 0 0 [some (.ref q), some (.int p1), some (.int p2), some (.int p3), some (.int p4), some (.int p5)] [] (I, L, R, am_SH) (po_U_feed L R Q)
  refine am_aload_n (n := 1) d_U_feed_0 rfl rfl ?_
  refine am_getR (x := (q + 2)) (n := 4) f_U_18 d_U_feed_1 rfl rfl hq (hw.1 q 11 1 2 hq rfl) ?_
  refine am_callV (kc := 0) (ks := 0) (As := []) (n := 7) d_U_feed_4 rfl ce_Tokens_hasRoom lk_U_164 in_Tokens_hasRoom rfl rfl (am_sho (k := 1) (o := 2) hq (by decide) (by decide) (by decide) rfl) rfl rfl (Nat.le_of_ble_eq_true rfl) (Or.inl rfl) (cm_Tokens_hasRoom (d := d - 1) hw (by omega) (am_sho (k := 1) (o := 2) hq (by decide) (by decide) (by decide) rfl) h) (by omega) ?_
  rintro _ _ ⟨r1, rfl, rfl, h⟩
  show am_Wp (d, "UnseenRing", b_U_feed, 6, false) 0 0 7 [some (.ref q), some (.int p1), some (.int p2), some (.int p3), some (.int p4), some (.int p5)] [.int (am_b r1)] (I, L, R, am_SH) (po_U_feed L R Q)
  refine am_if_ne (y := 0) (tgt := 12) (n := 10) d_U_feed_7 rfl rfl (fun c1 => ?_) (fun c1 => ?_)
  · have h := h.2 (am_b_n0 c1)
    refine am_aload_n (n := 13) d_U_feed_12 rfl rfl ?_
    refine am_getR (x := (q + 2)) (n := 16) f_U_18 d_U_feed_13 rfl rfl hq (hw.1 q 11 1 2 hq rfl) ?_
    refine am_iload_n (n := 17) d_U_feed_16 rfl rfl ?_
    refine am_callV (kc := 0) (ks := 0) (As := [.int p1]) (n := 20) d_U_feed_17 rfl ce_Tokens_append lk_U_167 in_Tokens_append rfl rfl (am_sho (k := 1) (o := 2) hq (by decide) (by decide) (by decide) rfl) rfl rfl (Nat.le_of_ble_eq_true rfl) (Or.inl rfl) (cm_Tokens_append (d := d - 1) hw (by omega) (am_sho (k := 1) (o := 2) hq (by decide) (by decide) (by decide) rfl) h) (by omega) ?_
    rintro _ _ ⟨I1, rfl, rfl, h⟩
    show am_Wp (d, "UnseenRing", b_U_feed, 6, false) 0 0 20 [some (.ref q), some (.int p1), some (.int p2), some (.int p3), some (.int p4), some (.int p5)] [] (I1, L, R, am_SH) (po_U_feed L R Q)
    refine am_aload_n (n := 21) d_U_feed_20 rfl rfl ?_
    refine am_getR (x := (q + 2)) (n := 24) f_U_18 d_U_feed_21 rfl rfl hq (hw.1 q 11 1 2 hq rfl) ?_
    refine am_iload_n (n := 25) d_U_feed_24 rfl rfl ?_
    refine am_callV (kc := 0) (ks := 0) (As := [.int p2]) (n := 28) d_U_feed_25 rfl ce_Tokens_append lk_U_167 in_Tokens_append rfl rfl (am_sho (k := 1) (o := 2) hq (by decide) (by decide) (by decide) rfl) rfl rfl (Nat.le_of_ble_eq_true rfl) (Or.inl rfl) (cm_Tokens_append (d := d - 1) hw (by omega) (am_sho (k := 1) (o := 2) hq (by decide) (by decide) (by decide) rfl) h) (by omega) ?_
    rintro _ _ ⟨I2, rfl, rfl, h⟩
    show am_Wp (d, "UnseenRing", b_U_feed, 6, false) 0 0 28 [some (.ref q), some (.int p1), some (.int p2), some (.int p3), some (.int p4), some (.int p5)] [] (I2, L, R, am_SH) (po_U_feed L R Q)
    refine am_aload_n (n := 29) d_U_feed_28 rfl rfl ?_
    refine am_getR (x := (q + 2)) (n := 32) f_U_18 d_U_feed_29 rfl rfl hq (hw.1 q 11 1 2 hq rfl) ?_
    refine am_iload_n (n := 33) d_U_feed_32 rfl rfl ?_
    refine am_callV (kc := 0) (ks := 0) (As := [.int p3]) (n := 36) d_U_feed_33 rfl ce_Tokens_append lk_U_167 in_Tokens_append rfl rfl (am_sho (k := 1) (o := 2) hq (by decide) (by decide) (by decide) rfl) rfl rfl (Nat.le_of_ble_eq_true rfl) (Or.inl rfl) (cm_Tokens_append (d := d - 1) hw (by omega) (am_sho (k := 1) (o := 2) hq (by decide) (by decide) (by decide) rfl) h) (by omega) ?_
    rintro _ _ ⟨I3, rfl, rfl, h⟩
    show am_Wp (d, "UnseenRing", b_U_feed, 6, false) 0 0 36 [some (.ref q), some (.int p1), some (.int p2), some (.int p3), some (.int p4), some (.int p5)] [] (I3, L, R, am_SH) (po_U_feed L R Q)
    refine am_aload_n (n := 37) d_U_feed_36 rfl rfl ?_
    refine am_getR (x := (q + 2)) (n := 40) f_U_18 d_U_feed_37 rfl rfl hq (hw.1 q 11 1 2 hq rfl) ?_
    refine am_iload (n := 42) d_U_feed_40 rfl rfl ?_
    refine am_callV (kc := 0) (ks := 0) (As := [.int p4]) (n := 45) d_U_feed_42 rfl ce_Tokens_append lk_U_167 in_Tokens_append rfl rfl (am_sho (k := 1) (o := 2) hq (by decide) (by decide) (by decide) rfl) rfl rfl (Nat.le_of_ble_eq_true rfl) (Or.inl rfl) (cm_Tokens_append (d := d - 1) hw (by omega) (am_sho (k := 1) (o := 2) hq (by decide) (by decide) (by decide) rfl) h) (by omega) ?_
    rintro _ _ ⟨I4, rfl, rfl, h⟩
    show am_Wp (d, "UnseenRing", b_U_feed, 6, false) 0 0 45 [some (.ref q), some (.int p1), some (.int p2), some (.int p3), some (.int p4), some (.int p5)] [] (I4, L, R, am_SH) (po_U_feed L R Q)
    refine am_aload_n (n := 46) d_U_feed_45 rfl rfl ?_
    refine am_getR (x := (q + 2)) (n := 49) f_U_18 d_U_feed_46 rfl rfl hq (hw.1 q 11 1 2 hq rfl) ?_
    refine am_iload (n := 51) d_U_feed_49 rfl rfl ?_
    refine am_callV (kc := 0) (ks := 0) (As := [.int p5]) (n := 54) d_U_feed_51 rfl ce_Tokens_append lk_U_167 in_Tokens_append rfl rfl (am_sho (k := 1) (o := 2) hq (by decide) (by decide) (by decide) rfl) rfl rfl (Nat.le_of_ble_eq_true rfl) (Or.inl rfl) (cm_Tokens_append (d := d - 1) hw (by omega) (am_sho (k := 1) (o := 2) hq (by decide) (by decide) (by decide) rfl) h) (by omega) ?_
    rintro _ _ ⟨I5, rfl, rfl, h⟩
    show am_Wp (d, "UnseenRing", b_U_feed, 6, false) 0 0 54 [some (.ref q), some (.int p1), some (.int p2), some (.int p3), some (.int p4), some (.int p5)] [] (I5, L, R, am_SH) (po_U_feed L R Q)
    refine am_aload_n (n := 55) d_U_feed_54 rfl rfl ?_
    refine am_getR (x := (q + 2)) (n := 58) f_U_18 d_U_feed_55 rfl rfl hq (hw.1 q 11 1 2 hq rfl) ?_
    refine am_getI (n := 61) f_U_171 d_U_feed_58 rfl rfl (am_sho (k := 1) (o := 2) hq (by decide) (by decide) (by decide) rfl) ?_
    exact am_iret d_U_feed_61 ⟨(I5 (q + 2) 7), I5, rfl, rfl, h⟩
  · have h := h.1 (am_b_0 c1)
    refine am_iconst (n := 11) d_U_feed_10 ci_m1 rfl ?_
    exact am_iret d_U_feed_11 ⟨(-1), I, rfl, rfl, h⟩
abbrev po_Square_cells (I : am_TI) (L : am_TL) (R : am_TR) (Q : Int32 → Prop) : Option Value → am_St → Prop := fun r σ' => ∃ (x : Int32), r = some (.int x) ∧ σ' = (I, L, R, am_SH) ∧ Q x
def wp_Square_cells (I : am_TI) (L : am_TL) (R : am_TR) (q : Nat)  (Q : Int32 → Prop) : Prop := Q ((I q 6) * (I q 7))
set_option maxRecDepth 20000 in
theorem cm_Square_cells {d : Nat} {I : am_TI} {L : am_TL} {R : am_TR}  (hw : am_Wf R)   {q : Nat} {Q : Int32 → Prop} (hd : 0 ≤ d) (hq : am_SH[q]? = some (.inl 7)) (h : wp_Square_cells I L R q  Q) : am_Cm d 0 0 y_Square_cells b_Square_cells 1 (some .int) [.ref q] (I, L, R, am_SH) (po_Square_cells I L R Q) := by
  refine am_Cm_of (ini := false) (by decide +kernel) (fun z => by cases z) (by simp [Value.category]) (fun r σ' z => by obtain ⟨x, rfl, -⟩ := z; exact ⟨_, rfl, rfl⟩) ?_
  unfold wp_Square_cells at h
  show am_Wp (d, "UnseenRing$Square", b_Square_cells, 1, false) 0 0 0 [some (.ref q)] [] (I, L, R, am_SH) (po_Square_cells I L R Q)
  refine am_aload_n (n := 1) d_Square_cells_0 rfl rfl ?_
  refine am_getI (n := 4) f_Square_35 d_Square_cells_1 rfl rfl hq ?_
  refine am_aload_n (n := 5) d_Square_cells_4 rfl rfl ?_
  refine am_getI (n := 8) f_Square_39 d_Square_cells_5 rfl rfl hq ?_
  refine am_imul (n := 9) d_Square_cells_8 rfl ?_
  exact am_iret d_Square_cells_9 ⟨((I q 6) * (I q 7)), rfl, rfl, h⟩
