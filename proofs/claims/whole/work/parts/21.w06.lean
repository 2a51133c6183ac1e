abbrev po_U_told (L : am_TL) (R : am_TR) (Q : Int32 → am_TI → Prop) : Option Value → am_St → Prop := fun r σ' => ∃ (x : Int32) (I' : am_TI), r = some (.int x) ∧ σ' = (I', L, R, am_SH) ∧ Q x I'
def wp_U_told (I : am_TI) (L : am_TL) (R : am_TR) (q : Nat) (p1 : Int32)  (Q : Int32 → am_TI → Prop) : Prop := wp_U_within I L R p1 0 10 (fun (r1 : Bool) => ((r1 = false → wp_U_refused I L R q 1 (fun (r4 : Int32) (I2 : am_TI) => Q r4 I2)) ∧ (r1 = true → wp_Square_toldOf I L R (am_rd R q 11) p1 (fun (r2 : Int32) => wp_U_answered I L R q r2 (fun (r3 : Int32) (I1 : am_TI) => Q r3 I1)))))
set_option maxRecDepth 20000 in
theorem cm_U_told {d : Nat} {I : am_TI} {L : am_TL} {R : am_TR}  (hw : am_Wf R)   {q : Nat} {p1 : Int32} {Q : Int32 → am_TI → Prop} (hd : 6 ≤ d) (hq : am_SH[q]? = some (.inl 11)) (h : wp_U_told I L R q p1  Q) : am_Cm d 0 0 y_U_told b_U_told 2 (some .int) [.ref q, .int p1] (I, L, R, am_SH) (po_U_told L R Q) := by
  refine am_Cm_of (ini := false) (by decide +kernel) (fun z => by cases z) (by simp [Value.category]) (fun r σ' z => by obtain ⟨x, _, rfl, -⟩ := z; exact ⟨_, rfl, rfl⟩) ?_
  unfold wp_U_told at h
  show am_Wp (d, "UnseenRing", b_U_told, 2, false) 0 0 0 [some (.ref q), some (.int p1)] [] (I, L, R, am_SH) (po_U_told L R Q)
  refine am_iload_n (n := 1) d_U_told_0 rfl rfl ?_
  refine am_iconst (n := 2) d_U_told_1 ci_0 rfl ?_
  refine am_bipush (n := 4) d_U_told_2 cb_10 rfl ?_
  refine am_callS (kc := 0) (ks := 0) (As := [.int p1, .int 0, .int 10]) (n := 7) d_U_told_4 rfl ce_U_within lk_U_114 st_U_within rfl rfl (Nat.le_of_ble_eq_true rfl) (Or.inl rfl) (cm_U_within (d := d - 1) hw (by omega)  h) (by omega) ?_
  rintro _ _ ⟨r1, rfl, rfl, h⟩
  show am_Wp (d, "UnseenRing", b_U_told, 2, false) 0 0 7 [some (.ref q), some (.int p1)] [.int (am_b r1)] (I, L, R, am_SH) (po_U_told L R Q)
  refine am_if_ne (y := 0) (tgt := 16) (n := 10) d_U_told_7 rfl rfl (fun c1 => ?_) (fun c1 => ?_)
  · have h := h.2 (am_b_n0 c1)
    refine am_aload_n (n := 17) d_U_told_16 rfl rfl ?_
    refine am_aload_n (n := 18) d_U_told_17 rfl rfl ?_
    refine am_getR (x := (am_rd R q 11)) (n := 21) f_U_81 d_U_told_18 rfl rfl hq (hw.rd (k := 11) hq rfl).1 ?_
    refine am_iload_n (n := 22) d_U_told_21 rfl rfl ?_
    refine am_callV (kc := 0) (ks := 0) (As := [.int p1]) (n := 25) d_U_told_22 rfl ce_Square_toldOf lk_U_202 in_Square_toldOf rfl rfl (hw.rd (k := 11) hq rfl).2 rfl rfl (Nat.le_of_ble_eq_true rfl) (Or.inl rfl) (cm_Square_toldOf (d := d - 1) hw (by omega) (hw.rd (k := 11) hq rfl).2 h) (by omega) ?_
    rintro _ _ ⟨r2, rfl, rfl, h⟩
    show am_Wp (d, "UnseenRing", b_U_told, 2, false) 0 0 25 [some (.ref q), some (.int p1)] [.int r2, .ref q] (I, L, R, am_SH) (po_U_told L R Q)
    refine am_callV (kc := 0) (ks := 0) (As := [.int r2]) (n := 28) d_U_told_25 rfl ce_U_answered lk_U_184 in_U_answered rfl rfl hq rfl rfl (Nat.le_of_ble_eq_true rfl) (Or.inl rfl) (cm_U_answered (d := d - 1) hw (by omega) hq h) (by omega) ?_
    rintro _ _ ⟨r3, I1, rfl, rfl, h⟩
    show am_Wp (d, "UnseenRing", b_U_told, 2, false) 0 0 28 [some (.ref q), some (.int p1)] [.int r3] (I1, L, R, am_SH) (po_U_told L R Q)
    exact am_iret d_U_told_28 ⟨r3, I1, rfl, rfl, h⟩
  · have h := h.1 (am_b_0 c1)
    refine am_aload_n (n := 11) d_U_told_10 rfl rfl ?_
    refine am_iconst (n := 12) d_U_told_11 ci_1 rfl ?_
    refine am_callV (kc := 0) (ks := 0) (As := [.int 1]) (n := 15) d_U_told_12 rfl ce_U_refused lk_U_133 in_U_refused rfl rfl hq rfl rfl (Nat.le_of_ble_eq_true rfl) (Or.inl rfl) (cm_U_refused (d := d - 1) hw (by omega) hq h) (by omega) ?_
    rintro _ _ ⟨r4, I2, rfl, rfl, h⟩
    show am_Wp (d, "UnseenRing", b_U_told, 2, false) 0 0 15 [some (.ref q), some (.int p1)] [.int r4] (I2, L, R, am_SH) (po_U_told L R Q)
    exact am_iret d_U_told_15 ⟨r4, I2, rfl, rfl, h⟩
abbrev po_Square_hasHearer (I : am_TI) (L : am_TL) (R : am_TR) (Q : Bool → Prop) : Option Value → am_St → Prop := fun r σ' => ∃ (x : Bool), r = some (.int (am_b x)) ∧ σ' = (I, L, R, am_SH) ∧ Q x
def wp_Square_hasHearer (I : am_TI) (L : am_TL) (R : am_TR) (q : Nat) (p1 : Int32)  (Q : Bool → Prop) : Prop := wp_U_within I L R p1 0 ((I q 11) - 1) (fun (r1 : Bool) => Q r1)
set_option maxRecDepth 20000 in
theorem cm_Square_hasHearer {d : Nat} {I : am_TI} {L : am_TL} {R : am_TR}  (hw : am_Wf R)   {q : Nat} {p1 : Int32} {Q : Bool → Prop} (hd : 1 ≤ d) (hq : am_SH[q]? = some (.inl 7)) (h : wp_Square_hasHearer I L R q p1  Q) : am_Cm d 0 0 y_Square_hasHearer b_Square_hasHearer 2 (some .boolean) [.ref q, .int p1] (I, L, R, am_SH) (po_Square_hasHearer I L R Q) := by
  refine am_Cm_of (ini := false) (by decide +kernel) (fun z => by cases z) (by simp [Value.category]) (fun r σ' z => by obtain ⟨x, rfl, -⟩ := z; exact ⟨_, rfl, am_b_nar x⟩) ?_
  unfold wp_Square_hasHearer at h
  show am_Wp (d, "UnseenRing$Square", b_Square_hasHearer, 2, false) 0 0 0 [some (.ref q), some (.int p1)] [] (I, L, R, am_SH) (po_Square_hasHearer I L R Q)
  refine am_iload_n (n := 1) d_Square_hasHearer_0 rfl rfl ?_
  refine am_iconst (n := 2) d_Square_hasHearer_1 ci_0 rfl ?_
  refine am_aload_n (n := 3) d_Square_hasHearer_2 rfl rfl ?_
  refine am_getI (n := 6) f_Square_51 d_Square_hasHearer_3 rfl rfl hq ?_
  refine am_iconst (n := 7) d_Square_hasHearer_6 ci_1 rfl ?_
  refine am_isub (n := 8) d_Square_hasHearer_7 rfl ?_
  refine am_callS (kc := 0) (ks := 0) (As := [.int p1, .int 0, .int ((I q 11) - 1)]) (n := 11) d_Square_hasHearer_8 rfl ce_U_within lk_Square_83 st_U_within rfl rfl (Nat.le_of_ble_eq_true rfl) (Or.inl rfl) (cm_U_within (d := d - 1) hw (by omega)  h) (by omega) ?_
  rintro _ _ ⟨r1, rfl, rfl, h⟩
  show am_Wp (d, "UnseenRing$Square", b_Square_hasHearer, 2, false) 0 0 11 [some (.ref q), some (.int p1)] [.int (am_b r1)] (I, L, R, am_SH) (po_Square_hasHearer I L R Q)
  exact am_iret d_Square_hasHearer_11 ⟨r1, rfl, rfl, h⟩
abbrev po_Square_farFromOrgan (I : am_TI) (L : am_TL) (R : am_TR) (Q : Int32 → Prop) : Option Value → am_St → Prop := fun r σ' => ∃ (x : Int32), r = some (.int x) ∧ σ' = (I, L, R, am_SH) ∧ Q x
def wp_Square_farFromOrgan (I : am_TI) (L : am_TL) (R : am_TR) (q : Nat) (p1 : Int32)  (Q : Int32 → Prop) : Prop := (vp_in p1 6 ∧ wp_Square_far I L R q (I (q + 2) (Int32.toNatClampNeg p1)) (I q 9) (fun (r1 : Int32) => Q r1))
set_option maxRecDepth 20000 in
theorem cm_Square_farFromOrgan {d : Nat} {I : am_TI} {L : am_TL} {R : am_TR}  (hw : am_Wf R)   {q : Nat} {p1 : Int32} {Q : Int32 → Prop} (hd : 2 ≤ d) (hq : am_SH[q]? = some (.inl 7)) (h : wp_Square_farFromOrgan I L R q p1  Q) : am_Cm d 0 0 y_Square_farFromOrgan b_Square_farFromOrgan 2 (some .int) [.ref q, .int p1] (I, L, R, am_SH) (po_Square_farFromOrgan I L R Q) := by
  refine am_Cm_of (ini := false) (by decide +kernel) (fun z => by cases z) (by simp [Value.category]) (fun r σ' z => by obtain ⟨x, rfl, -⟩ := z; exact ⟨_, rfl, rfl⟩) ?_
  unfold wp_Square_farFromOrgan at h
  show am_Wp (d, "UnseenRing$Square", b_Square_farFromOrgan, 2, false) 0 0 0 [some (.ref q), some (.int p1)] [] (I, L, R, am_SH) (po_Square_farFromOrgan I L R Q)
  refine am_aload_n (n := 1) d_Square_farFromOrgan_0 rfl rfl ?_
  refine am_aload_n (n := 2) d_Square_farFromOrgan_1 rfl rfl ?_
  refine am_getR (x := (q + 2)) (n := 5) f_Square_15 d_Square_farFromOrgan_2 rfl rfl hq (hw.1 q 7 1 2 hq rfl) ?_
  refine am_iload_n (n := 6) d_Square_farFromOrgan_5 rfl rfl ?_
  obtain ⟨g1, h⟩ := h
  refine am_iald2 (n := 7) d_Square_farFromOrgan_6 rfl (am_sho (k := 1) (o := 2) hq (by decide) (by decide) (by decide) rfl) g1 rfl ?_
  refine am_aload_n (n := 8) d_Square_farFromOrgan_7 rfl rfl ?_
  refine am_getI (n := 11) f_Square_45 d_Square_farFromOrgan_8 rfl rfl hq ?_
  refine am_callV (kc := 0) (ks := 0) (As := [.int (I (q + 2) (Int32.toNatClampNeg p1)), .int (I q 9)]) (n := 14) d_Square_farFromOrgan_11 rfl ce_Square_far lk_Square_103 in_Square_far rfl rfl hq rfl rfl (Nat.le_of_ble_eq_true rfl) (Or.inl rfl) (cm_Square_far (d := d - 1) hw (by omega) hq h) (by omega) ?_
  rintro _ _ ⟨r1, rfl, rfl, h⟩
  show am_Wp (d, "UnseenRing$Square", b_Square_farFromOrgan, 2, false) 0 0 14 [some (.ref q), some (.int p1)] [.int r1] (I, L, R, am_SH) (po_Square_farFromOrgan I L R Q)
  exact am_iret d_Square_farFromOrgan_14 ⟨r1, rfl, rfl, h⟩
abbrev po_Square_isSeen (I : am_TI) (L : am_TL) (R : am_TR) (Q : Bool → Prop) : Option Value → am_St → Prop := fun r σ' => ∃ (x : Bool), r = some (.int (am_b x)) ∧ σ' = (I, L, R, am_SH) ∧ Q x
def wp_Square_isSeen (I : am_TI) (L : am_TL) (R : am_TR) (q : Nat) (p1 : Int32)  (Q : Bool → Prop) : Prop := (((((I q 15) >>> (p1 &&& 31)) &&& 1) = 1 → Q true) ∧ (¬ (((I q 15) >>> (p1 &&& 31)) &&& 1) = 1 → Q false))
set_option maxRecDepth 20000 in
theorem cm_Square_isSeen {d : Nat} {I : am_TI} {L : am_TL} {R : am_TR}  (hw : am_Wf R)   {q : Nat} {p1 : Int32} {Q : Bool → Prop} (hd : 0 ≤ d) (hq : am_SH[q]? = some (.inl 7)) (h : wp_Square_isSeen I L R q p1  Q) : am_Cm d 0 0 y_Square_isSeen b_Square_isSeen 2 (some .boolean) [.ref q, .int p1] (I, L, R, am_SH) (po_Square_isSeen I L R Q) := by
  refine am_Cm_of (ini := false) (by decide +kernel) (fun z => by cases z) (by simp [Value.category]) (fun r σ' z => by obtain ⟨x, rfl, -⟩ := z; exact ⟨_, rfl, am_b_nar x⟩) ?_
  unfold wp_Square_isSeen at h
  show am_Wp (d, "UnseenRing$Square", b_Square_isSeen, 2, false) 0 0 0 [some (.ref q), some (.int p1)] [] (I, L, R, am_SH) (po_Square_isSeen I L R Q)
  refine am_aload_n (n := 1) d_Square_isSeen_0 rfl rfl ?_
  refine am_getI (n := 4) f_Square_63 d_Square_isSeen_1 rfl rfl hq ?_
  refine am_iload_n (n := 5) d_Square_isSeen_4 rfl rfl ?_
  refine am_ishr (n := 6) d_Square_isSeen_5 rfl ?_
  refine am_iconst (n := 7) d_Square_isSeen_6 ci_1 rfl ?_
  refine am_iand (n := 8) d_Square_isSeen_7 rfl ?_
  refine am_iconst (n := 9) d_Square_isSeen_8 ci_1 rfl ?_
  refine am_icmp_ne (tgt := 16) (n := 12) d_Square_isSeen_9 rfl rfl (fun c1 => ?_) (fun c1 => ?_)
  · have h := h.2 c1
    refine am_iconst (n := 17) d_Square_isSeen_16 ci_0 rfl ?_
    exact am_iret d_Square_isSeen_17 ⟨false, rfl, rfl, h⟩
  · have h := h.1 c1
    refine am_iconst (n := 13) d_Square_isSeen_12 ci_1 rfl ?_
    refine am_goto (tgt := 17) d_Square_isSeen_13 rfl ?_
    exact am_iret d_Square_isSeen_17 ⟨true, rfl, rfl, h⟩
abbrev po_Square_toldOfHearer (I : am_TI) (L : am_TL) (R : am_TR) (Q : Int32 → Prop) : Option Value → am_St → Prop := fun r σ' => ∃ (x : Int32), r = some (.int x) ∧ σ' = (I, L, R, am_SH) ∧ Q x
def wp_Square_toldOfHearer (I : am_TI) (L : am_TL) (R : am_TR) (q : Nat) (p1 : Int32) (p2 : Int32)  (Q : Int32 → Prop) : Prop := ((p2 = 0 → (vp_in p1 6 ∧ Q (I (q + 2) (Int32.toNatClampNeg p1)))) ∧ (p2 = 1 → (vp_in p1 6 ∧ Q (I (q + 4) (Int32.toNatClampNeg p1)))) ∧ (p2 = 2 → (vp_in p1 6 ∧ Q (I (q + 3) (Int32.toNatClampNeg p1)))) ∧ (p2 = 3 → wp_Square_farFromOrgan I L R q p1 (fun (r1 : Int32) => Q r1)) ∧ (¬ p2 = 0 → ¬ p2 = 1 → ¬ p2 = 2 → ¬ p2 = 3 → wp_Square_isSeen I L R q p1 (fun (r2 : Bool) => ((r2 = false → Q 0) ∧ (r2 = true → Q 1)))))
set_option maxRecDepth 20000 in
theorem cm_Square_toldOfHearer {d : Nat} {I : am_TI} {L : am_TL} {R : am_TR}  (hw : am_Wf R)   {q : Nat} {p1 : Int32} {p2 : Int32} {Q : Int32 → Prop} (hd : 3 ≤ d) (hq : am_SH[q]? = some (.inl 7)) (h : wp_Square_toldOfHearer I L R q p1 p2  Q) : am_Cm d 0 0 y_Square_toldOfHearer b_Square_toldOfHearer 3 (some .int) [.ref q, .int p1, .int p2] (I, L, R, am_SH) (po_Square_toldOfHearer I L R Q) := by
  refine am_Cm_of (ini := false) (by decide +kernel) (fun z => by cases z) (by simp [Value.category]) (fun r σ' z => by obtain ⟨x, rfl, -⟩ := z; exact ⟨_, rfl, rfl⟩) ?_
  unfold wp_Square_toldOfHearer at h
  show am_Wp (d, "UnseenRing$Square", b_Square_toldOfHearer, 3, false) 0 0 0 [some (.ref q), some (.int p1), some (.int p2)] [] (I, L, R, am_SH) (po_Square_toldOfHearer I L R Q)
  refine am_iload_n (n := 1) d_Square_toldOfHearer_0 rfl rfl ?_
  by_cases c1 : p2 = 0
  · have h := h.1 c1
    refine am_tableIn (off := 31) (tgt := 32) d_Square_toldOfHearer_1 (by rw [c1]; decide) (by rw [c1]; decide) (by rw [c1]; decide +kernel) rfl ?_
    refine am_aload_n (n := 33) d_Square_toldOfHearer_32 rfl rfl ?_
    refine am_getR (x := (q + 2)) (n := 36) f_Square_15 d_Square_toldOfHearer_33 rfl rfl hq (hw.1 q 7 1 2 hq rfl) ?_
    refine am_iload_n (n := 37) d_Square_toldOfHearer_36 rfl rfl ?_
    obtain ⟨g1, h⟩ := h
    refine am_iald2 (n := 38) d_Square_toldOfHearer_37 rfl (am_sho (k := 1) (o := 2) hq (by decide) (by decide) (by decide) rfl) g1 rfl ?_
    exact am_iret d_Square_toldOfHearer_38 ⟨(I (q + 2) (Int32.toNatClampNeg p1)), rfl, rfl, h⟩
  by_cases c2 : p2 = 1
  · have h := h.2.1 c2
    refine am_tableIn (off := 38) (tgt := 39) d_Square_toldOfHearer_1 (by rw [c2]; decide) (by rw [c2]; decide) (by rw [c2]; decide +kernel) rfl ?_
    refine am_aload_n (n := 40) d_Square_toldOfHearer_39 rfl rfl ?_
    refine am_getR (x := (q + 4)) (n := 43) f_Square_22 d_Square_toldOfHearer_40 rfl rfl hq (hw.1 q 7 3 4 hq rfl) ?_
    refine am_iload_n (n := 44) d_Square_toldOfHearer_43 rfl rfl ?_
    obtain ⟨g2, h⟩ := h
    refine am_iald2 (n := 45) d_Square_toldOfHearer_44 rfl (am_sho (k := 3) (o := 4) hq (by decide) (by decide) (by decide) rfl) g2 rfl ?_
    exact am_iret d_Square_toldOfHearer_45 ⟨(I (q + 4) (Int32.toNatClampNeg p1)), rfl, rfl, h⟩
  by_cases c3 : p2 = 2
  · have h := h.2.2.1 c3
    refine am_tableIn (off := 45) (tgt := 46) d_Square_toldOfHearer_1 (by rw [c3]; decide) (by rw [c3]; decide) (by rw [c3]; decide +kernel) rfl ?_
    refine am_aload_n (n := 47) d_Square_toldOfHearer_46 rfl rfl ?_
    refine am_getR (x := (q + 3)) (n := 50) f_Square_19 d_Square_toldOfHearer_47 rfl rfl hq (hw.1 q 7 2 3 hq rfl) ?_
    refine am_iload_n (n := 51) d_Square_toldOfHearer_50 rfl rfl ?_
    obtain ⟨g3, h⟩ := h
    refine am_iald2 (n := 52) d_Square_toldOfHearer_51 rfl (am_sho (k := 2) (o := 3) hq (by decide) (by decide) (by decide) rfl) g3 rfl ?_
    exact am_iret d_Square_toldOfHearer_52 ⟨(I (q + 3) (Int32.toNatClampNeg p1)), rfl, rfl, h⟩
  by_cases c4 : p2 = 3
  · have h := h.2.2.2.1 c4
    refine am_tableIn (off := 52) (tgt := 53) d_Square_toldOfHearer_1 (by rw [c4]; decide) (by rw [c4]; decide) (by rw [c4]; decide +kernel) rfl ?_
    refine am_aload_n (n := 54) d_Square_toldOfHearer_53 rfl rfl ?_
    refine am_iload_n (n := 55) d_Square_toldOfHearer_54 rfl rfl ?_
    refine am_callV (kc := 0) (ks := 0) (As := [.int p1]) (n := 58) d_Square_toldOfHearer_55 rfl ce_Square_farFromOrgan lk_Square_90 in_Square_farFromOrgan rfl rfl hq rfl rfl (Nat.le_of_ble_eq_true rfl) (Or.inl rfl) (cm_Square_farFromOrgan (d := d - 1) hw (by omega) hq h) (by omega) ?_
    rintro _ _ ⟨r1, rfl, rfl, h⟩
    show am_Wp (d, "UnseenRing$Square", b_Square_toldOfHearer, 3, false) 0 0 58 [some (.ref q), some (.int p1), some (.int p2)] [.int r1] (I, L, R, am_SH) (po_Square_toldOfHearer I L R Q)
    exact am_iret d_Square_toldOfHearer_58 ⟨r1, rfl, rfl, h⟩
  have h := h.2.2.2.2 c1 c2 c3 c4
  have z0 := lv_neT c1 (a := 0) (by decide)
  have z1 := lv_neT c2 (a := 1) (by decide)
  have z2 := lv_neT c3 (a := 2) (by decide)
  have z3 := lv_neT c4 (a := 3) (by decide)
  refine am_tableOut (tgt := 59) d_Square_toldOfHearer_1 (by omega) rfl ?_
  refine am_aload_n (n := 60) d_Square_toldOfHearer_59 rfl rfl ?_
  refine am_iload_n (n := 61) d_Square_toldOfHearer_60 rfl rfl ?_
  refine am_callV (kc := 0) (ks := 0) (As := [.int p1]) (n := 64) d_Square_toldOfHearer_61 rfl ce_Square_isSeen lk_Square_94 in_Square_isSeen rfl rfl hq rfl rfl (Nat.le_of_ble_eq_true rfl) (Or.inl rfl) (cm_Square_isSeen (d := d - 1) hw (by omega) hq h) (by omega) ?_
  rintro _ _ ⟨r2, rfl, rfl, h⟩
  show am_Wp (d, "UnseenRing$Square", b_Square_toldOfHearer, 3, false) 0 0 64 [some (.ref q), some (.int p1), some (.int p2)] [.int (am_b r2)] (I, L, R, am_SH) (po_Square_toldOfHearer I L R Q)
  refine am_if_eq (y := 0) (tgt := 71) (n := 67) d_Square_toldOfHearer_64 rfl rfl (fun c5 => ?_) (fun c5 => ?_)
  · have h := h.1 (am_b_0 c5)
    refine am_iconst (n := 72) d_Square_toldOfHearer_71 ci_0 rfl ?_
    exact am_iret d_Square_toldOfHearer_72 ⟨0, rfl, rfl, h⟩
  · have h := h.2 (am_b_n0 c5)
    refine am_iconst (n := 68) d_Square_toldOfHearer_67 ci_1 rfl ?_
    refine am_goto (tgt := 72) d_Square_toldOfHearer_68 rfl ?_
    exact am_iret d_Square_toldOfHearer_72 ⟨1, rfl, rfl, h⟩
abbrev po_U_hearer (L : am_TL) (R : am_TR) (Q : Int32 → am_TI → Prop) : Option Value → am_St → Prop := fun r σ' => ∃ (x : Int32) (I' : am_TI), r = some (.int x) ∧ σ' = (I', L, R, am_SH) ∧ Q x I'
def wb_U_hearer_20 (L : am_TL) (R : am_TR) (q : Nat) (p1 : Int32) (p2 : Int32) (Q : Int32 → am_TI → Prop)  (I : am_TI) : Prop := wp_U_refused I L R q 1 (fun (r2 : Int32) (I1 : am_TI) => Q r2 I1)
set_option maxRecDepth 20000 in
theorem tb_U_hearer_20 {d : Nat}  {L : am_TL} {R : am_TR} {q : Nat} {p1 : Int32} {p2 : Int32} {Q : Int32 → am_TI → Prop}  (hw : am_Wf R) (hq : am_SH[q]? = some (.inl 11)) (hd : 4 ≤ d) (I : am_TI) (h : wb_U_hearer_20 L R q p1 p2 Q  I) : am_Wp (d, "UnseenRing", b_U_hearer, 3, false) 0 0 20 [some (.ref q), some (.int p1), some (.int p2)] [] (I, L, R, am_SH) (po_U_hearer L R Q) := by
  unfold wb_U_hearer_20 at h
  refine am_aload_n (n := 21) d_U_hearer_20 rfl rfl ?_
  refine am_iconst (n := 22) d_U_hearer_21 ci_1 rfl ?_
  refine am_callV (kc := 0) (ks := 0) (As := [.int 1]) (n := 25) d_U_hearer_22 rfl ce_U_refused lk_U_133 in_U_refused rfl rfl hq rfl rfl (Nat.le_of_ble_eq_true rfl) (Or.inl rfl) (cm_U_refused (d := d - 1) hw (by omega) hq h) (by omega) ?_
  rintro _ _ ⟨r2, I1, rfl, rfl, h⟩
  show am_Wp (d, "UnseenRing", b_U_hearer, 3, false) 0 0 25 [some (.ref q), some (.int p1), some (.int p2)] [.int r2] (I1, L, R, am_SH) (po_U_hearer L R Q)
  exact am_iret d_U_hearer_25 ⟨r2, I1, rfl, rfl, h⟩
def wp_U_hearer (I : am_TI) (L : am_TL) (R : am_TR) (q : Nat) (p1 : Int32) (p2 : Int32)  (Q : Int32 → am_TI → Prop) : Prop := wp_Square_hasHearer I L R (am_rd R q 11) p1 (fun (r1 : Bool) => ((r1 = false → wb_U_hearer_20 L R q p1 p2 Q I) ∧ (r1 = true → wp_U_within I L R p2 0 4 (fun (r3 : Bool) => ((r3 = false → wb_U_hearer_20 L R q p1 p2 Q I) ∧ (r3 = true → wp_Square_toldOfHearer I L R (am_rd R q 11) p1 p2 (fun (r4 : Int32) => wp_U_answered I L R q r4 (fun (r5 : Int32) (I2 : am_TI) => Q r5 I2))))))))
set_option maxRecDepth 20000 in
theorem cm_U_hearer {d : Nat} {I : am_TI} {L : am_TL} {R : am_TR}  (hw : am_Wf R)   {q : Nat} {p1 : Int32} {p2 : Int32} {Q : Int32 → am_TI → Prop} (hd : 4 ≤ d) (hq : am_SH[q]? = some (.inl 11)) (h : wp_U_hearer I L R q p1 p2  Q) : am_Cm d 0 0 y_U_hearer b_U_hearer 3 (some .int) [.ref q, .int p1, .int p2] (I, L, R, am_SH) (po_U_hearer L R Q) := by
  refine am_Cm_of (ini := false) (by decide +kernel) (fun z => by cases z) (by simp [Value.category]) (fun r σ' z => by obtain ⟨x, _, rfl, -⟩ := z; exact ⟨_, rfl, rfl⟩) ?_
  unfold wp_U_hearer at h
  show am_Wp (d, "UnseenRing", b_U_hearer, 3, false) 0 0 0 [some (.ref q), some (.int p1), some (.int p2)] [] (I, L, R, am_SH) (po_U_hearer L R Q)
  refine am_aload_n (n := 1) d_U_hearer_0 rfl rfl ?_
  refine am_getR (x := (am_rd R q 11)) (n := 4) f_U_81 d_U_hearer_1 rfl rfl hq (hw.rd (k := 11) hq rfl).1 ?_
  refine am_iload_n (n := 5) d_U_hearer_4 rfl rfl ?_
  refine am_callV (kc := 0) (ks := 0) (As := [.int p1]) (n := 8) d_U_hearer_5 rfl ce_Square_hasHearer lk_U_205 in_Square_hasHearer rfl rfl (hw.rd (k := 11) hq rfl).2 rfl rfl (Nat.le_of_ble_eq_true rfl) (Or.inl rfl) (cm_Square_hasHearer (d := d - 1) hw (by omega) (hw.rd (k := 11) hq rfl).2 h) (by omega) ?_
  rintro _ _ ⟨r1, rfl, rfl, h⟩
  show am_Wp (d, "UnseenRing", b_U_hearer, 3, false) 0 0 8 [some (.ref q), some (.int p1), some (.int p2)] [.int (am_b r1)] (I, L, R, am_SH) (po_U_hearer L R Q)
  refine am_if_eq (y := 0) (tgt := 20) (n := 11) d_U_hearer_8 rfl rfl (fun c1 => ?_) (fun c1 => ?_)
  · have h := h.1 (am_b_0 c1)
    exact tb_U_hearer_20 hw hq hd I h
  · have h := h.2 (am_b_n0 c1)
    refine am_iload_n (n := 12) d_U_hearer_11 rfl rfl ?_
    refine am_iconst (n := 13) d_U_hearer_12 ci_0 rfl ?_
    refine am_iconst (n := 14) d_U_hearer_13 ci_4 rfl ?_
    refine am_callS (kc := 0) (ks := 0) (As := [.int p2, .int 0, .int 4]) (n := 17) d_U_hearer_14 rfl ce_U_within lk_U_114 st_U_within rfl rfl (Nat.le_of_ble_eq_true rfl) (Or.inl rfl) (cm_U_within (d := d - 1) hw (by omega)  h) (by omega) ?_
    rintro _ _ ⟨r3, rfl, rfl, h⟩
    show am_Wp (d, "UnseenRing", b_U_hearer, 3, false) 0 0 17 [some (.ref q), some (.int p1), some (.int p2)] [.int (am_b r3)] (I, L, R, am_SH) (po_U_hearer L R Q)
    refine am_if_ne (y := 0) (tgt := 26) (n := 20) d_U_hearer_17 rfl rfl (fun c2 => ?_) (fun c2 => ?_)
    · have h := h.2 (am_b_n0 c2)
      refine am_aload_n (n := 27) d_U_hearer_26 rfl rfl ?_
      refine am_aload_n (n := 28) d_U_hearer_27 rfl rfl ?_
      refine am_getR (x := (am_rd R q 11)) (n := 31) f_U_81 d_U_hearer_28 rfl rfl hq (hw.rd (k := 11) hq rfl).1 ?_
      refine am_iload_n (n := 32) d_U_hearer_31 rfl rfl ?_
      refine am_iload_n (n := 33) d_U_hearer_32 rfl rfl ?_
      refine am_callV (kc := 0) (ks := 0) (As := [.int p1, .int p2]) (n := 36) d_U_hearer_33 rfl ce_Square_toldOfHearer lk_U_208 in_Square_toldOfHearer rfl rfl (hw.rd (k := 11) hq rfl).2 rfl rfl (Nat.le_of_ble_eq_true rfl) (Or.inl rfl) (cm_Square_toldOfHearer (d := d - 1) hw (by omega) (hw.rd (k := 11) hq rfl).2 h) (by omega) ?_
      rintro _ _ ⟨r4, rfl, rfl, h⟩
      show am_Wp (d, "UnseenRing", b_U_hearer, 3, false) 0 0 36 [some (.ref q), some (.int p1), some (.int p2)] [.int r4, .ref q] (I, L, R, am_SH) (po_U_hearer L R Q)
      refine am_callV (kc := 0) (ks := 0) (As := [.int r4]) (n := 39) d_U_hearer_36 rfl ce_U_answered lk_U_184 in_U_answered rfl rfl hq rfl rfl (Nat.le_of_ble_eq_true rfl) (Or.inl rfl) (cm_U_answered (d := d - 1) hw (by omega) hq h) (by omega) ?_
      rintro _ _ ⟨r5, I2, rfl, rfl, h⟩
      show am_Wp (d, "UnseenRing", b_U_hearer, 3, false) 0 0 39 [some (.ref q), some (.int p1), some (.int p2)] [.int r5] (I2, L, R, am_SH) (po_U_hearer L R Q)
      exact am_iret d_U_hearer_39 ⟨r5, I2, rfl, rfl, h⟩
    · have h := h.1 (am_b_0 c2)
      exact tb_U_hearer_20 hw hq hd I h
abbrev po_Square_hasDog (I : am_TI) (L : am_TL) (R : am_TR) (Q : Bool → Prop) : Option Value → am_St → Prop := fun r σ' => ∃ (x : Bool), r = some (.int (am_b x)) ∧ σ' = (I, L, R, am_SH) ∧ Q x
def wp_Square_hasDog (I : am_TI) (L : am_TL) (R : am_TR) (q : Nat) (p1 : Int32)  (Q : Bool → Prop) : Prop := wp_U_within I L R p1 0 ((I q 12) - 1) (fun (r1 : Bool) => Q r1)
set_option maxRecDepth 20000 in
theorem cm_Square_hasDog {d : Nat} {I : am_TI} {L : am_TL} {R : am_TR}  (hw : am_Wf R)   {q : Nat} {p1 : Int32} {Q : Bool → Prop} (hd : 1 ≤ d) (hq : am_SH[q]? = some (.inl 7)) (h : wp_Square_hasDog I L R q p1  Q) : am_Cm d 0 0 y_Square_hasDog b_Square_hasDog 2 (some .boolean) [.ref q, .int p1] (I, L, R, am_SH) (po_Square_hasDog I L R Q) := by
  refine am_Cm_of (ini := false) (by decide +kernel) (fun z => by cases z) (by simp [Value.category]) (fun r σ' z => by obtain ⟨x, rfl, -⟩ := z; exact ⟨_, rfl, am_b_nar x⟩) ?_
  unfold wp_Square_hasDog at h
  show am_Wp (d, "UnseenRing$Square", b_Square_hasDog, 2, false) 0 0 0 [some (.ref q), some (.int p1)] [] (I, L, R, am_SH) (po_Square_hasDog I L R Q)
  refine am_iload_n (n := 1) d_Square_hasDog_0 rfl rfl ?_
  refine am_iconst (n := 2) d_Square_hasDog_1 ci_0 rfl ?_
  refine am_aload_n (n := 3) d_Square_hasDog_2 rfl rfl ?_
  refine am_getI (n := 6) f_Square_54 d_Square_hasDog_3 rfl rfl hq ?_
  refine am_iconst (n := 7) d_Square_hasDog_6 ci_1 rfl ?_
  refine am_isub (n := 8) d_Square_hasDog_7 rfl ?_
  refine am_callS (kc := 0) (ks := 0) (As := [.int p1, .int 0, .int ((I q 12) - 1)]) (n := 11) d_Square_hasDog_8 rfl ce_U_within lk_Square_83 st_U_within rfl rfl (Nat.le_of_ble_eq_true rfl) (Or.inl rfl) (cm_U_within (d := d - 1) hw (by omega)  h) (by omega) ?_
  rintro _ _ ⟨r1, rfl, rfl, h⟩
  show am_Wp (d, "UnseenRing$Square", b_Square_hasDog, 2, false) 0 0 11 [some (.ref q), some (.int p1)] [.int (am_b r1)] (I, L, R, am_SH) (po_Square_hasDog I L R Q)
  exact am_iret d_Square_hasDog_11 ⟨r1, rfl, rfl, h⟩
abbrev po_U_dog (L : am_TL) (R : am_TR) (Q : Int32 → am_TI → Prop) : Option Value → am_St → Prop := fun r σ' => ∃ (x : Int32) (I' : am_TI), r = some (.int x) ∧ σ' = (I', L, R, am_SH) ∧ Q x I'
def wb_U_dog_20 (L : am_TL) (R : am_TR) (q : Nat) (p1 : Int32) (p2 : Int32) (Q : Int32 → am_TI → Prop)  (I : am_TI) : Prop := wp_U_refused I L R q 1 (fun (r2 : Int32) (I1 : am_TI) => Q r2 I1)
set_option maxRecDepth 20000 in
theorem tb_U_dog_20 {d : Nat}  {L : am_TL} {R : am_TR} {q : Nat} {p1 : Int32} {p2 : Int32} {Q : Int32 → am_TI → Prop}  (hw : am_Wf R) (hq : am_SH[q]? = some (.inl 11)) (hd : 4 ≤ d) (I : am_TI) (h : wb_U_dog_20 L R q p1 p2 Q  I) : am_Wp (d, "UnseenRing", b_U_dog, 3, false) 0 0 20 [some (.ref q), some (.int p1), some (.int p2)] [] (I, L, R, am_SH) (po_U_dog L R Q) := by
  unfold wb_U_dog_20 at h
  refine am_aload_n (n := 21) d_U_dog_20 rfl rfl ?_
  refine am_iconst (n := 22) d_U_dog_21 ci_1 rfl ?_
  refine am_callV (kc := 0) (ks := 0) (As := [.int 1]) (n := 25) d_U_dog_22 rfl ce_U_refused lk_U_133 in_U_refused rfl rfl hq rfl rfl (Nat.le_of_ble_eq_true rfl) (Or.inl rfl) (cm_U_refused (d := d - 1) hw (by omega) hq h) (by omega) ?_
  rintro _ _ ⟨r2, I1, rfl, rfl, h⟩
  show am_Wp (d, "UnseenRing", b_U_dog, 3, false) 0 0 25 [some (.ref q), some (.int p1), some (.int p2)] [.int r2] (I1, L, R, am_SH) (po_U_dog L R Q)
  exact am_iret d_U_dog_25 ⟨r2, I1, rfl, rfl, h⟩
def wb_U_dog_61 (L : am_TL) (R : am_TR) (q : Nat) (p1 : Int32) (p2 : Int32) (Q : Int32 → am_TI → Prop)  (I : am_TI) (s0 : Nat) (s1 : Bool) : Prop := wp_U_answered I L R s0 (am_b s1) (fun (r5 : Int32) (I2 : am_TI) => Q r5 I2)
set_option maxRecDepth 20000 in
theorem tb_U_dog_61 {d : Nat}  {L : am_TL} {R : am_TR} {q : Nat} {p1 : Int32} {p2 : Int32} {Q : Int32 → am_TI → Prop}  (hw : am_Wf R) (hq : am_SH[q]? = some (.inl 11)) (hd : 4 ≤ d) (I : am_TI) (s0 : Nat) (s1 : Bool) (hs0 : am_SH[s0]? = some (.inl 11)) (h : wb_U_dog_61 L R q p1 p2 Q  I s0 s1) : am_Wp (d, "UnseenRing", b_U_dog, 3, false) 0 0 61 [some (.ref q), some (.int p1), some (.int p2)] [.int (am_b s1), .ref s0] (I, L, R, am_SH) (po_U_dog L R Q) := by
  unfold wb_U_dog_61 at h
  refine am_callV (kc := 0) (ks := 0) (As := [.int (am_b s1)]) (n := 64) d_U_dog_61 rfl ce_U_answered lk_U_184 in_U_answered rfl rfl hs0 rfl rfl (Nat.le_of_ble_eq_true rfl) (Or.inl rfl) (cm_U_answered (d := d - 1) hw (by omega) hs0 h) (by omega) ?_
  rintro _ _ ⟨r5, I2, rfl, rfl, h⟩
  show am_Wp (d, "UnseenRing", b_U_dog, 3, false) 0 0 64 [some (.ref q), some (.int p1), some (.int p2)] [.int r5] (I2, L, R, am_SH) (po_U_dog L R Q)
  exact am_iret d_U_dog_64 ⟨r5, I2, rfl, rfl, h⟩
def wp_U_dog (I : am_TI) (L : am_TL) (R : am_TR) (q : Nat) (p1 : Int32) (p2 : Int32)  (Q : Int32 → am_TI → Prop) : Prop := wp_Square_hasDog I L R (am_rd R q 11) p1 (fun (r1 : Bool) => ((r1 = false → wb_U_dog_20 L R q p1 p2 Q I) ∧ (r1 = true → wp_U_within I L R p2 0 1 (fun (r3 : Bool) => ((r3 = false → wb_U_dog_20 L R q p1 p2 Q I) ∧ (r3 = true → ((p2 = 0 → (vp_in p1 4 ∧ wp_U_answered I L R q (I ((am_rd R q 11) + 5) (Int32.toNatClampNeg p1)) (fun (r6 : Int32) (I3 : am_TI) => Q r6 I3))) ∧ (¬ p2 = 0 → wp_Square_isUp I L R (am_rd R q 11) p1 (fun (r4 : Bool) => ((r4 = false → wb_U_dog_61 L R q p1 p2 Q I q false) ∧ (r4 = true → wb_U_dog_61 L R q p1 p2 Q I q true)))))))))))
set_option maxRecDepth 20000 in
theorem cm_U_dog {d : Nat} {I : am_TI} {L : am_TL} {R : am_TR}  (hw : am_Wf R)   {q : Nat} {p1 : Int32} {p2 : Int32} {Q : Int32 → am_TI → Prop} (hd : 4 ≤ d) (hq : am_SH[q]? = some (.inl 11)) (h : wp_U_dog I L R q p1 p2  Q) : am_Cm d 0 0 y_U_dog b_U_dog 3 (some .int) [.ref q, .int p1, .int p2] (I, L, R, am_SH) (po_U_dog L R Q) := by
  refine am_Cm_of (ini := false) (by decide +kernel) (fun z => by cases z) (by simp [Value.category]) (fun r σ' z => by obtain ⟨x, _, rfl, -⟩ := z; exact ⟨_, rfl, rfl⟩) ?_
  unfold wp_U_dog at h
  show am_Wp (d, "UnseenRing", b_U_dog, 3, false) 0 0 0 [some (.ref q), some (.int p1), some (.int p2)] [] (I, L, R, am_SH) (po_U_dog L R Q)
  refine am_aload_n (n := 1) d_U_dog_0 rfl rfl ?_
  refine am_getR (x := (am_rd R q 11)) (n := 4) f_U_81 d_U_dog_1 rfl rfl hq (hw.rd (k := 11) hq rfl).1 ?_
  refine am_iload_n (n := 5) d_U_dog_4 rfl rfl ?_
  refine am_callV (kc := 0) (ks := 0) (As := [.int p1]) (n := 8) d_U_dog_5 rfl ce_Square_hasDog lk_U_211 in_Square_hasDog rfl rfl (hw.rd (k := 11) hq rfl).2 rfl rfl (Nat.le_of_ble_eq_true rfl) (Or.inl rfl) (cm_Square_hasDog (d := d - 1) hw (by omega) (hw.rd (k := 11) hq rfl).2 h) (by omega) ?_
  rintro _ _ ⟨r1, rfl, rfl, h⟩
  show am_Wp (d, "UnseenRing", b_U_dog, 3, false) 0 0 8 [some (.ref q), some (.int p1), some (.int p2)] [.int (am_b r1)] (I, L, R, am_SH) (po_U_dog L R Q)
  refine am_if_eq (y := 0) (tgt := 20) (n := 11) d_U_dog_8 rfl rfl (fun c1 => ?_) (fun c1 => ?_)
  · have h := h.1 (am_b_0 c1)
    exact tb_U_dog_20 hw hq hd I h
  · have h := h.2 (am_b_n0 c1)
    refine am_iload_n (n := 12) d_U_dog_11 rfl rfl ?_
    refine am_iconst (n := 13) d_U_dog_12 ci_0 rfl ?_
    refine am_iconst (n := 14) d_U_dog_13 ci_1 rfl ?_
    refine am_callS (kc := 0) (ks := 0) (As := [.int p2, .int 0, .int 1]) (n := 17) d_U_dog_14 rfl ce_U_within lk_U_114 st_U_within rfl rfl (Nat.le_of_ble_eq_true rfl) (Or.inl rfl) (cm_U_within (d := d - 1) hw (by omega)  h) (by omega) ?_
    rintro _ _ ⟨r3, rfl, rfl, h⟩
    show am_Wp (d, "UnseenRing", b_U_dog, 3, false) 0 0 17 [some (.ref q), some (.int p1), some (.int p2)] [.int (am_b r3)] (I, L, R, am_SH) (po_U_dog L R Q)
    refine am_if_ne (y := 0) (tgt := 26) (n := 20) d_U_dog_17 rfl rfl (fun c2 => ?_) (fun c2 => ?_)
    · have h := h.2 (am_b_n0 c2)
      refine am_iload_n (n := 27) d_U_dog_26 rfl rfl ?_
      refine am_if_ne (y := 0) (tgt := 44) (n := 30) d_U_dog_27 rfl rfl (fun c3 => ?_) (fun c3 => ?_)
      · have h := h.2 c3
        refine am_aload_n (n := 45) d_U_dog_44 rfl rfl ?_
        refine am_aload_n (n := 46) d_U_dog_45 rfl rfl ?_
        refine am_getR (x := (am_rd R q 11)) (n := 49) f_U_81 d_U_dog_46 rfl rfl hq (hw.rd (k := 11) hq rfl).1 ?_
        refine am_iload_n (n := 50) d_U_dog_49 rfl rfl ?_
        refine am_callV (kc := 0) (ks := 0) (As := [.int p1]) (n := 53) d_U_dog_50 rfl ce_Square_isUp lk_U_218 in_Square_isUp rfl rfl (hw.rd (k := 11) hq rfl).2 rfl rfl (Nat.le_of_ble_eq_true rfl) (Or.inl rfl) (cm_Square_isUp (d := d - 1) hw (by omega) (hw.rd (k := 11) hq rfl).2 h) (by omega) ?_
        rintro _ _ ⟨r4, rfl, rfl, h⟩
        show am_Wp (d, "UnseenRing", b_U_dog, 3, false) 0 0 53 [some (.ref q), some (.int p1), some (.int p2)] [.int (am_b r4), .ref q] (I, L, R, am_SH) (po_U_dog L R Q)
        refine am_if_eq (y := 0) (tgt := 60) (n := 56) d_U_dog_53 rfl rfl (fun c4 => ?_) (fun c4 => ?_)
        · have h := h.1 (am_b_0 c4)
          refine am_iconst (n := 61) d_U_dog_60 ci_0 rfl ?_
          exact tb_U_dog_61 hw hq hd I q false hq h
        · have h := h.2 (am_b_n0 c4)
          refine am_iconst (n := 57) d_U_dog_56 ci_1 rfl ?_
          refine am_goto (tgt := 61) d_U_dog_57 rfl ?_
          exact tb_U_dog_61 hw hq hd I q true hq h
      · have h := h.1 c3
        refine am_aload_n (n := 31) d_U_dog_30 rfl rfl ?_
        refine am_aload_n (n := 32) d_U_dog_31 rfl rfl ?_
        refine am_getR (x := (am_rd R q 11)) (n := 35) f_U_81 d_U_dog_32 rfl rfl hq (hw.rd (k := 11) hq rfl).1 ?_
        refine am_getR (x := ((am_rd R q 11) + 5)) (n := 38) f_U_214 d_U_dog_35 rfl rfl (hw.rd (k := 11) hq rfl).2 (hw.1 (am_rd R q 11) 7 4 5 (hw.rd (k := 11) hq rfl).2 rfl) ?_
        refine am_iload_n (n := 39) d_U_dog_38 rfl rfl ?_
        obtain ⟨g1, h⟩ := h
        refine am_iald2 (n := 40) d_U_dog_39 rfl (am_sho (k := 4) (o := 5) (hw.rd (k := 11) hq rfl).2 (by decide) (by decide) (by decide) rfl) g1 rfl ?_
        refine am_callV (kc := 0) (ks := 0) (As := [.int (I ((am_rd R q 11) + 5) (Int32.toNatClampNeg p1))]) (n := 43) d_U_dog_40 rfl ce_U_answered lk_U_184 in_U_answered rfl rfl hq rfl rfl (Nat.le_of_ble_eq_true rfl) (Or.inl rfl) (cm_U_answered (d := d - 1) hw (by omega) hq h) (by omega) ?_
        rintro _ _ ⟨r6, I3, rfl, rfl, h⟩
        show am_Wp (d, "UnseenRing", b_U_dog, 3, false) 0 0 43 [some (.ref q), some (.int p1), some (.int p2)] [.int r6] (I3, L, R, am_SH) (po_U_dog L R Q)
        exact am_iret d_U_dog_43 ⟨r6, I3, rfl, rfl, h⟩
    · have h := h.1 (am_b_0 c2)
      exact tb_U_dog_20 hw hq hd I h
abbrev po_Square_isNear (I : am_TI) (L : am_TL) (R : am_TR) (Q : Bool → Prop) : Option Value → am_St → Prop := fun r σ' => ∃ (x : Bool), r = some (.int (am_b x)) ∧ σ' = (I, L, R, am_SH) ∧ Q x
def wp_Square_isNear (I : am_TI) (L : am_TL) (R : am_TR) (q : Nat) (p1 : Int32) (p2 : Int32)  (Q : Bool → Prop) : Prop := wp_Square_far I L R q p1 p2 (fun (r1 : Int32) => ((1 < r1 → Q false) ∧ (¬ 1 < r1 → Q true)))
set_option maxRecDepth 20000 in
theorem cm_Square_isNear {d : Nat} {I : am_TI} {L : am_TL} {R : am_TR}  (hw : am_Wf R)   {q : Nat} {p1 : Int32} {p2 : Int32} {Q : Bool → Prop} (hd : 2 ≤ d) (hq : am_SH[q]? = some (.inl 7)) (h : wp_Square_isNear I L R q p1 p2  Q) : am_Cm d 0 0 y_Square_isNear b_Square_isNear 3 (some .boolean) [.ref q, .int p1, .int p2] (I, L, R, am_SH) (po_Square_isNear I L R Q) := by
  refine am_Cm_of (ini := false) (by decide +kernel) (fun z => by cases z) (by simp [Value.category]) (fun r σ' z => by obtain ⟨x, rfl, -⟩ := z; exact ⟨_, rfl, am_b_nar x⟩) ?_
  unfold wp_Square_isNear at h
  show am_Wp (d, "UnseenRing$Square", b_Square_isNear, 3, false) 0 0 0 [some (.ref q), some (.int p1), some (.int p2)] [] (I, L, R, am_SH) (po_Square_isNear I L R Q)
  refine am_aload_n (n := 1) d_Square_isNear_0 rfl rfl ?_
  refine am_iload_n (n := 2) d_Square_isNear_1 rfl rfl ?_
  refine am_iload_n (n := 3) d_Square_isNear_2 rfl rfl ?_
  refine am_callV (kc := 0) (ks := 0) (As := [.int p1, .int p2]) (n := 6) d_Square_isNear_3 rfl ce_Square_far lk_Square_103 in_Square_far rfl rfl hq rfl rfl (Nat.le_of_ble_eq_true rfl) (Or.inl rfl) (cm_Square_far (d := d - 1) hw (by omega) hq h) (by omega) ?_
  rintro _ _ ⟨r1, rfl, rfl, h⟩
  show am_Wp (d, "UnseenRing$Square", b_Square_isNear, 3, false) 0 0 6 [some (.ref q), some (.int p1), some (.int p2)] [.int r1] (I, L, R, am_SH) (po_Square_isNear I L R Q)
  refine am_iconst (n := 7) d_Square_isNear_6 ci_1 rfl ?_
  refine am_icmp_gt (tgt := 14) (n := 10) d_Square_isNear_7 rfl rfl (fun c1 => ?_) (fun c1 => ?_)
  · have h := h.1 c1
    refine am_iconst (n := 15) d_Square_isNear_14 ci_0 rfl ?_
    exact am_iret d_Square_isNear_15 ⟨false, rfl, rfl, h⟩
  · have h := h.2 c1
    refine am_iconst (n := 11) d_Square_isNear_10 ci_1 rfl ?_
    refine am_goto (tgt := 15) d_Square_isNear_11 rfl ?_
    exact am_iret d_Square_isNear_15 ⟨true, rfl, rfl, h⟩
abbrev po_Square_dogsUpFrom (I : am_TI) (L : am_TL) (R : am_TR) (Q : Int32 → Prop) : Option Value → am_St → Prop := fun r σ' => ∃ (x : Int32), r = some (.int x) ∧ σ' = (I, L, R, am_SH) ∧ Q x
def wl_Square_dogsUpFrom_4 (I : am_TI) (L : am_TL) (R : am_TR) (q : Nat) (p1 : Int32) (Q : Int32 → Prop)  : Nat → Int32 → Int32 → Prop
  | 0 => fun _ _ => False
  | f4 + 1 => fun v2 v3 => (((I q 12) ≤ v3 → Q v2) ∧ (¬ (I q 12) ≤ v3 → (vp_in v3 4 ∧ wp_Square_isNear I L R q (I (q + 5) (Int32.toNatClampNeg v3)) p1 (fun (r1 : Bool) => ((r1 = false → wl_Square_dogsUpFrom_4 I L R q p1 Q f4 v2 (v3 + 1)) ∧ (r1 = true → wl_Square_dogsUpFrom_4 I L R q p1 Q f4 (v2 ||| ((1 : Int32) <<< (v3 &&& 31))) (v3 + 1)))))))
set_option maxRecDepth 20000 in
theorem tl_Square_dogsUpFrom_4 {d : Nat}  {I : am_TI} {L : am_TL} {R : am_TR} {q : Nat} {p1 : Int32} {Q : Int32 → Prop}  (hw : am_Wf R) (hq : am_SH[q]? = some (.inl 7)) (hd : 3 ≤ d) : ∀ (n : Nat) (v2 : Int32) (v3 : Int32), wl_Square_dogsUpFrom_4 I L R q p1 Q  n v2 v3 → am_Wp (d, "UnseenRing$Square", b_Square_dogsUpFrom, 4, false) 0 0 4 [some (.ref q), some (.int p1), some (.int v2), some (.int v3)] [] (I, L, R, am_SH) (po_Square_dogsUpFrom I L R Q) := by
  intro n
  induction n with
  | zero => intro v2 v3 h; exact h.elim
  | succ n ih =>
    intro v2 v3 h
    unfold wl_Square_dogsUpFrom_4 at h
    refine am_iload_n (n := 5) d_Square_dogsUpFrom_4 rfl rfl ?_
    refine am_aload_n (n := 6) d_Square_dogsUpFrom_5 rfl rfl ?_
    refine am_getI (n := 9) f_Square_54 d_Square_dogsUpFrom_6 rfl rfl hq ?_
    refine am_icmp_ge (tgt := 38) (n := 12) d_Square_dogsUpFrom_9 rfl rfl (fun c1 => ?_) (fun c1 => ?_)
    · have h := h.1 c1
      refine am_iload_n (n := 39) d_Square_dogsUpFrom_38 rfl rfl ?_
      exact am_iret d_Square_dogsUpFrom_39 ⟨v2, rfl, rfl, h⟩
    · have h := h.2 c1
      refine am_aload_n (n := 13) d_Square_dogsUpFrom_12 rfl rfl ?_
      refine am_aload_n (n := 14) d_Square_dogsUpFrom_13 rfl rfl ?_
      refine am_getR (x := (q + 5)) (n := 17) f_Square_25 d_Square_dogsUpFrom_14 rfl rfl hq (hw.1 q 7 4 5 hq rfl) ?_
      refine am_iload_n (n := 18) d_Square_dogsUpFrom_17 rfl rfl ?_
      obtain ⟨g1, h⟩ := h
      refine am_iald2 (n := 19) d_Square_dogsUpFrom_18 rfl (am_sho (k := 4) (o := 5) hq (by decide) (by decide) (by decide) rfl) g1 rfl ?_
      refine am_iload_n (n := 20) d_Square_dogsUpFrom_19 rfl rfl ?_
      refine am_callV (kc := 0) (ks := 0) (As := [.int (I (q + 5) (Int32.toNatClampNeg v3)), .int p1]) (n := 23) d_Square_dogsUpFrom_20 rfl ce_Square_isNear lk_Square_114 in_Square_isNear rfl rfl hq rfl rfl (Nat.le_of_ble_eq_true rfl) (Or.inl rfl) (cm_Square_isNear (d := d - 1) hw (by omega) hq h) (by omega) ?_
      rintro _ _ ⟨r1, rfl, rfl, h⟩
      show am_Wp (d, "UnseenRing$Square", b_Square_dogsUpFrom, 4, false) 0 0 23 [some (.ref q), some (.int p1), some (.int v2), some (.int v3)] [.int (am_b r1)] (I, L, R, am_SH) (po_Square_dogsUpFrom I L R Q)
      refine am_if_eq (y := 0) (tgt := 32) (n := 26) d_Square_dogsUpFrom_23 rfl rfl (fun c2 => ?_) (fun c2 => ?_)
      · have h := h.1 (am_b_0 c2)
        refine am_iinc (v := v3 + 1) (ls' := [some (.ref q), some (.int p1), some (.int v2), some (.int (v3 + 1))]) (n := 35) d_Square_dogsUpFrom_32 rfl (congrArg _ ci_1) (by decide) rfl rfl ?_
        refine am_goto (tgt := 4) d_Square_dogsUpFrom_35 rfl ?_
        exact ih v2 (v3 + 1)  h
      · have h := h.2 (am_b_n0 c2)
        refine am_iload_n (n := 27) d_Square_dogsUpFrom_26 rfl rfl ?_
        refine am_iconst (n := 28) d_Square_dogsUpFrom_27 ci_1 rfl ?_
        refine am_iload_n (n := 29) d_Square_dogsUpFrom_28 rfl rfl ?_
        refine am_ishl (n := 30) d_Square_dogsUpFrom_29 rfl ?_
        refine am_ior (n := 31) d_Square_dogsUpFrom_30 rfl ?_
        refine am_istore_n (ls' := [some (.ref q), some (.int p1), some (.int (v2 ||| ((1 : Int32) <<< (v3 &&& 31)))), some (.int v3)]) (n := 32) d_Square_dogsUpFrom_31 (by decide) rfl rfl ?_
        refine am_iinc (v := v3 + 1) (ls' := [some (.ref q), some (.int p1), some (.int (v2 ||| ((1 : Int32) <<< (v3 &&& 31)))), some (.int (v3 + 1))]) (n := 35) d_Square_dogsUpFrom_32 rfl (congrArg _ ci_1) (by decide) rfl rfl ?_
        refine am_goto (tgt := 4) d_Square_dogsUpFrom_35 rfl ?_
        exact ih (v2 ||| ((1 : Int32) <<< (v3 &&& 31))) (v3 + 1)  h
def wp_Square_dogsUpFrom (I : am_TI) (L : am_TL) (R : am_TR) (q : Nat) (p1 : Int32)  (Q : Int32 → Prop) : Prop := (∃ z, wl_Square_dogsUpFrom_4 I L R q p1 Q z 0 0)
set_option maxRecDepth 20000 in
theorem cm_Square_dogsUpFrom {d : Nat} {I : am_TI} {L : am_TL} {R : am_TR}  (hw : am_Wf R)   {q : Nat} {p1 : Int32} {Q : Int32 → Prop} (hd : 3 ≤ d) (hq : am_SH[q]? = some (.inl 7)) (h : wp_Square_dogsUpFrom I L R q p1  Q) : am_Cm d 0 0 y_Square_dogsUpFrom b_Square_dogsUpFrom 4 (some .int) [.ref q, .int p1] (I, L, R, am_SH) (po_Square_dogsUpFrom I L R Q) := by
  refine am_Cm_of (ini := false) (by decide +kernel) (fun z => by cases z) (by simp [Value.category]) (fun r σ' z => by obtain ⟨x, rfl, -⟩ := z; exact ⟨_, rfl, rfl⟩) ?_
  unfold wp_Square_dogsUpFrom at h
  show am_Wp (d, "UnseenRing$Square", b_Square_dogsUpFrom, 4, false) 0 0 0 [some (.ref q), some (.int p1), none, none] [] (I, L, R, am_SH) (po_Square_dogsUpFrom I L R Q)
  refine am_iconst (n := 1) d_Square_dogsUpFrom_0 ci_0 rfl ?_
  refine am_istore_n (ls' := [some (.ref q), some (.int p1), some (.int 0), none]) (n := 2) d_Square_dogsUpFrom_1 (by decide) rfl rfl ?_
  refine am_iconst (n := 3) d_Square_dogsUpFrom_2 ci_0 rfl ?_
  refine am_istore_n (ls' := [some (.ref q), some (.int p1), some (.int 0), some (.int 0)]) (n := 4) d_Square_dogsUpFrom_3 (by decide) rfl rfl ?_
  obtain ⟨n, h⟩ := h
  exact tl_Square_dogsUpFrom_4 hw hq hd n 0 0 h
abbrev po_Square_hasCell (I : am_TI) (L : am_TL) (R : am_TR) (Q : Bool → Prop) : Option Value → am_St → Prop := fun r σ' => ∃ (x : Bool), r = some (.int (am_b x)) ∧ σ' = (I, L, R, am_SH) ∧ Q x
def wp_Square_hasCell (I : am_TI) (L : am_TL) (R : am_TR) (q : Nat) (p1 : Int32)  (Q : Bool → Prop) : Prop := wp_Square_cells I L R q (fun (r1 : Int32) => wp_U_within I L R p1 0 (r1 - 1) (fun (r2 : Bool) => Q r2))
set_option maxRecDepth 20000 in
theorem cm_Square_hasCell {d : Nat} {I : am_TI} {L : am_TL} {R : am_TR}  (hw : am_Wf R)   {q : Nat} {p1 : Int32} {Q : Bool → Prop} (hd : 1 ≤ d) (hq : am_SH[q]? = some (.inl 7)) (h : wp_Square_hasCell I L R q p1  Q) : am_Cm d 0 0 y_Square_hasCell b_Square_hasCell 2 (some .boolean) [.ref q, .int p1] (I, L, R, am_SH) (po_Square_hasCell I L R Q) := by
  refine am_Cm_of (ini := false) (by decide +kernel) (fun z => by cases z) (by simp [Value.category]) (fun r σ' z => by obtain ⟨x, rfl, -⟩ := z; exact ⟨_, rfl, am_b_nar x⟩) ?_
  unfold wp_Square_hasCell at h
  show am_Wp (d, "UnseenRing$Square", b_Square_hasCell, 2, false) 0 0 0 [some (.ref q), some (.int p1)] [] (I, L, R, am_SH) (po_Square_hasCell I L R Q)
  refine am_iload_n (n := 1) d_Square_hasCell_0 rfl rfl ?_
  refine am_iconst (n := 2) d_Square_hasCell_1 ci_0 rfl ?_
  refine am_aload_n (n := 3) d_Square_hasCell_2 rfl rfl ?_
  refine am_callV (kc := 0) (ks := 0) (As := []) (n := 6) d_Square_hasCell_3 rfl ce_Square_cells lk_Square_79 in_Square_cells rfl rfl hq rfl rfl (Nat.le_of_ble_eq_true rfl) (Or.inl rfl) (cm_Square_cells (d := d - 1) hw (by omega) hq h) (by omega) ?_
  rintro _ _ ⟨r1, rfl, rfl, h⟩
  show am_Wp (d, "UnseenRing$Square", b_Square_hasCell, 2, false) 0 0 6 [some (.ref q), some (.int p1)] [.int r1, .int 0, .int p1] (I, L, R, am_SH) (po_Square_hasCell I L R Q)
  refine am_iconst (n := 7) d_Square_hasCell_6 ci_1 rfl ?_
  refine am_isub (n := 8) d_Square_hasCell_7 rfl ?_
  refine am_callS (kc := 0) (ks := 0) (As := [.int p1, .int 0, .int (r1 - 1)]) (n := 11) d_Square_hasCell_8 rfl ce_U_within lk_Square_83 st_U_within rfl rfl (Nat.le_of_ble_eq_true rfl) (Or.inl rfl) (cm_U_within (d := d - 1) hw (by omega)  h) (by omega) ?_
  rintro _ _ ⟨r2, rfl, rfl, h⟩
  show am_Wp (d, "UnseenRing$Square", b_Square_hasCell, 2, false) 0 0 11 [some (.ref q), some (.int p1)] [.int (am_b r2)] (I, L, R, am_SH) (po_Square_hasCell I L R Q)
  exact am_iret d_Square_hasCell_11 ⟨r2, rfl, rfl, h⟩
abbrev po_U_cell (L : am_TL) (R : am_TR) (Q : Int32 → am_TI → Prop) : Option Value → am_St → Prop := fun r σ' => ∃ (x : Int32) (I' : am_TI), r = some (.int x) ∧ σ' = (I', L, R, am_SH) ∧ Q x I'
def wb_U_cell_20 (L : am_TL) (R : am_TR) (q : Nat) (p1 : Int32) (p2 : Int32) (Q : Int32 → am_TI → Prop)  (I : am_TI) : Prop := wp_U_refused I L R q 1 (fun (r2 : Int32) (I1 : am_TI) => Q r2 I1)
set_option maxRecDepth 20000 in
theorem tb_U_cell_20 {d : Nat}  {L : am_TL} {R : am_TR} {q : Nat} {p1 : Int32} {p2 : Int32} {Q : Int32 → am_TI → Prop}  (hw : am_Wf R) (hq : am_SH[q]? = some (.inl 11)) (hd : 4 ≤ d) (I : am_TI) (h : wb_U_cell_20 L R q p1 p2 Q  I) : am_Wp (d, "UnseenRing", b_U_cell, 3, false) 0 0 20 [some (.ref q), some (.int p1), some (.int p2)] [] (I, L, R, am_SH) (po_U_cell L R Q) := by
  unfold wb_U_cell_20 at h
  refine am_aload_n (n := 21) d_U_cell_20 rfl rfl ?_
  refine am_iconst (n := 22) d_U_cell_21 ci_1 rfl ?_
  refine am_callV (kc := 0) (ks := 0) (As := [.int 1]) (n := 25) d_U_cell_22 rfl ce_U_refused lk_U_133 in_U_refused rfl rfl hq rfl rfl (Nat.le_of_ble_eq_true rfl) (Or.inl rfl) (cm_U_refused (d := d - 1) hw (by omega) hq h) (by omega) ?_
  rintro _ _ ⟨r2, I1, rfl, rfl, h⟩
  show am_Wp (d, "UnseenRing", b_U_cell, 3, false) 0 0 25 [some (.ref q), some (.int p1), some (.int p2)] [.int r2] (I1, L, R, am_SH) (po_U_cell L R Q)
  exact am_iret d_U_cell_25 ⟨r2, I1, rfl, rfl, h⟩
def wb_U_cell_76 (L : am_TL) (R : am_TR) (q : Nat) (p1 : Int32) (p2 : Int32) (Q : Int32 → am_TI → Prop)  (I : am_TI) (s0 : Nat) (s1 : Int32) : Prop := wp_U_answered I L R s0 s1 (fun (r5 : Int32) (I2 : am_TI) => Q r5 I2)
set_option maxRecDepth 20000 in
theorem tb_U_cell_76 {d : Nat}  {L : am_TL} {R : am_TR} {q : Nat} {p1 : Int32} {p2 : Int32} {Q : Int32 → am_TI → Prop}  (hw : am_Wf R) (hq : am_SH[q]? = some (.inl 11)) (hd : 4 ≤ d) (I : am_TI) (s0 : Nat) (s1 : Int32) (hs0 : am_SH[s0]? = some (.inl 11)) (h : wb_U_cell_76 L R q p1 p2 Q  I s0 s1) : am_Wp (d, "UnseenRing", b_U_cell, 3, false) 0 0 76 [some (.ref q), some (.int p1), some (.int p2)] [.int s1, .ref s0] (I, L, R, am_SH) (po_U_cell L R Q) := by
  unfold wb_U_cell_76 at h
  refine am_callV (kc := 0) (ks := 0) (As := [.int s1]) (n := 79) d_U_cell_76 rfl ce_U_answered lk_U_184 in_U_answered rfl rfl hs0 rfl rfl (Nat.le_of_ble_eq_true rfl) (Or.inl rfl) (cm_U_answered (d := d - 1) hw (by omega) hs0 h) (by omega) ?_
  rintro _ _ ⟨r5, I2, rfl, rfl, h⟩
  show am_Wp (d, "UnseenRing", b_U_cell, 3, false) 0 0 79 [some (.ref q), some (.int p1), some (.int p2)] [.int r5] (I2, L, R, am_SH) (po_U_cell L R Q)
  exact am_iret d_U_cell_79 ⟨r5, I2, rfl, rfl, h⟩
def wp_U_cell (I : am_TI) (L : am_TL) (R : am_TR) (q : Nat) (p1 : Int32) (p2 : Int32)  (Q : Int32 → am_TI → Prop) : Prop := wp_Square_hasCell I L R (am_rd R q 11) p1 (fun (r1 : Bool) => ((r1 = false → wb_U_cell_20 L R q p1 p2 Q I) ∧ (r1 = true → wp_U_within I L R p2 0 2 (fun (r3 : Bool) => ((r3 = false → wb_U_cell_20 L R q p1 p2 Q I) ∧ (r3 = true → ((p2 = 0 → wp_Square_hearersNear I L R (am_rd R q 11) p1 0 (fun (r7 : Int32) => wp_U_answered I L R q r7 (fun (r8 : Int32) (I3 : am_TI) => Q r8 I3))) ∧ (¬ p2 = 0 → ((p2 = 1 → wp_Square_far I L R (am_rd R q 11) p1 (I (am_rd R q 11) 9) (fun (r6 : Int32) => wb_U_cell_76 L R q p1 p2 Q I q r6)) ∧ (¬ p2 = 1 → wp_Square_dogsUpFrom I L R (am_rd R q 11) p1 (fun (r4 : Int32) => wb_U_cell_76 L R q p1 p2 Q I q r4)))))))))))
set_option maxRecDepth 20000 in
theorem cm_U_cell {d : Nat} {I : am_TI} {L : am_TL} {R : am_TR}  (hw : am_Wf R)   {q : Nat} {p1 : Int32} {p2 : Int32} {Q : Int32 → am_TI → Prop} (hd : 4 ≤ d) (hq : am_SH[q]? = some (.inl 11)) (h : wp_U_cell I L R q p1 p2  Q) : am_Cm d 0 0 y_U_cell b_U_cell 3 (some .int) [.ref q, .int p1, .int p2] (I, L, R, am_SH) (po_U_cell L R Q) := by
  refine am_Cm_of (ini := false) (by decide +kernel) (fun z => by cases z) (by simp [Value.category]) (fun r σ' z => by obtain ⟨x, _, rfl, -⟩ := z; exact ⟨_, rfl, rfl⟩) ?_
  unfold wp_U_cell at h
  show am_Wp (d, "UnseenRing", b_U_cell, 3, false) 0 0 0 [some (.ref q), some (.int p1), some (.int p2)] [] (I, L, R, am_SH) (po_U_cell L R Q)
  refine am_aload_n (n := 1) d_U_cell_0 rfl rfl ?_
  refine am_getR (x := (am_rd R q 11)) (n := 4) f_U_81 d_U_cell_1 rfl rfl hq (hw.rd (k := 11) hq rfl).1 ?_
  refine am_iload_n (n := 5) d_U_cell_4 rfl rfl ?_
  refine am_callV (kc := 0) (ks := 0) (As := [.int p1]) (n := 8) d_U_cell_5 rfl ce_Square_hasCell lk_U_221 in_Square_hasCell rfl rfl (hw.rd (k := 11) hq rfl).2 rfl rfl (Nat.le_of_ble_eq_true rfl) (Or.inl rfl) (cm_Square_hasCell (d := d - 1) hw (by omega) (hw.rd (k := 11) hq rfl).2 h) (by omega) ?_
  rintro _ _ ⟨r1, rfl, rfl, h⟩
  show am_Wp (d, "UnseenRing", b_U_cell, 3, false) 0 0 8 [some (.ref q), some (.int p1), some (.int p2)] [.int (am_b r1)] (I, L, R, am_SH) (po_U_cell L R Q)
  refine am_if_eq (y := 0) (tgt := 20) (n := 11) d_U_cell_8 rfl rfl (fun c1 => ?_) (fun c1 => ?_)
  · have h := h.1 (am_b_0 c1)
    exact tb_U_cell_20 hw hq hd I h
  · have h := h.2 (am_b_n0 c1)
    refine am_iload_n (n := 12) d_U_cell_11 rfl rfl ?_
    refine am_iconst (n := 13) d_U_cell_12 ci_0 rfl ?_
    refine am_iconst (n := 14) d_U_cell_13 ci_2 rfl ?_
    refine am_callS (kc := 0) (ks := 0) (As := [.int p2, .int 0, .int 2]) (n := 17) d_U_cell_14 rfl ce_U_within lk_U_114 st_U_within rfl rfl (Nat.le_of_ble_eq_true rfl) (Or.inl rfl) (cm_U_within (d := d - 1) hw (by omega)  h) (by omega) ?_
    rintro _ _ ⟨r3, rfl, rfl, h⟩
    show am_Wp (d, "UnseenRing", b_U_cell, 3, false) 0 0 17 [some (.ref q), some (.int p1), some (.int p2)] [.int (am_b r3)] (I, L, R, am_SH) (po_U_cell L R Q)
    refine am_if_ne (y := 0) (tgt := 26) (n := 20) d_U_cell_17 rfl rfl (fun c2 => ?_) (fun c2 => ?_)
    · have h := h.2 (am_b_n0 c2)
      refine am_iload_n (n := 27) d_U_cell_26 rfl rfl ?_
      refine am_if_ne (y := 0) (tgt := 44) (n := 30) d_U_cell_27 rfl rfl (fun c3 => ?_) (fun c3 => ?_)
      · have h := h.2 c3
        refine am_aload_n (n := 45) d_U_cell_44 rfl rfl ?_
        refine am_iload_n (n := 46) d_U_cell_45 rfl rfl ?_
        refine am_iconst (n := 47) d_U_cell_46 ci_1 rfl ?_
        refine am_icmp_ne (tgt := 68) (n := 50) d_U_cell_47 rfl rfl (fun c4 => ?_) (fun c4 => ?_)
        · have h := h.2 c4
          refine am_aload_n (n := 69) d_U_cell_68 rfl rfl ?_
          refine am_getR (x := (am_rd R q 11)) (n := 72) f_U_81 d_U_cell_69 rfl rfl hq (hw.rd (k := 11) hq rfl).1 ?_
          refine am_iload_n (n := 73) d_U_cell_72 rfl rfl ?_
          refine am_callV (kc := 0) (ks := 0) (As := [.int p1]) (n := 76) d_U_cell_73 rfl ce_Square_dogsUpFrom lk_U_233 in_Square_dogsUpFrom rfl rfl (hw.rd (k := 11) hq rfl).2 rfl rfl (Nat.le_of_ble_eq_true rfl) (Or.inl rfl) (cm_Square_dogsUpFrom (d := d - 1) hw (by omega) (hw.rd (k := 11) hq rfl).2 h) (by omega) ?_
          rintro _ _ ⟨r4, rfl, rfl, h⟩
          show am_Wp (d, "UnseenRing", b_U_cell, 3, false) 0 0 76 [some (.ref q), some (.int p1), some (.int p2)] [.int r4, .ref q] (I, L, R, am_SH) (po_U_cell L R Q)
          exact tb_U_cell_76 hw hq hd I q r4 hq h
        · have h := h.1 c4
          refine am_aload_n (n := 51) d_U_cell_50 rfl rfl ?_
          refine am_getR (x := (am_rd R q 11)) (n := 54) f_U_81 d_U_cell_51 rfl rfl hq (hw.rd (k := 11) hq rfl).1 ?_
          refine am_iload_n (n := 55) d_U_cell_54 rfl rfl ?_
          refine am_aload_n (n := 56) d_U_cell_55 rfl rfl ?_
          refine am_getR (x := (am_rd R q 11)) (n := 59) f_U_81 d_U_cell_56 rfl rfl hq (hw.rd (k := 11) hq rfl).1 ?_
          refine am_getI (n := 62) f_U_227 d_U_cell_59 rfl rfl (hw.rd (k := 11) hq rfl).2 ?_
          refine am_callV (kc := 0) (ks := 0) (As := [.int p1, .int (I (am_rd R q 11) 9)]) (n := 65) d_U_cell_62 rfl ce_Square_far lk_U_230 in_Square_far rfl rfl (hw.rd (k := 11) hq rfl).2 rfl rfl (Nat.le_of_ble_eq_true rfl) (Or.inl rfl) (cm_Square_far (d := d - 1) hw (by omega) (hw.rd (k := 11) hq rfl).2 h) (by omega) ?_
          rintro _ _ ⟨r6, rfl, rfl, h⟩
          show am_Wp (d, "UnseenRing", b_U_cell, 3, false) 0 0 65 [some (.ref q), some (.int p1), some (.int p2)] [.int r6, .ref q] (I, L, R, am_SH) (po_U_cell L R Q)
          refine am_goto (tgt := 76) d_U_cell_65 rfl ?_
          exact tb_U_cell_76 hw hq hd I q r6 hq h
      · have h := h.1 c3
        refine am_aload_n (n := 31) d_U_cell_30 rfl rfl ?_
        refine am_aload_n (n := 32) d_U_cell_31 rfl rfl ?_
        refine am_getR (x := (am_rd R q 11)) (n := 35) f_U_81 d_U_cell_32 rfl rfl hq (hw.rd (k := 11) hq rfl).1 ?_
        refine am_iload_n (n := 36) d_U_cell_35 rfl rfl ?_
        refine am_iconst (n := 37) d_U_cell_36 ci_0 rfl ?_
        refine am_callV (kc := 0) (ks := 0) (As := [.int p1, .int 0]) (n := 40) d_U_cell_37 rfl ce_Square_hearersNear lk_U_224 in_Square_hearersNear rfl rfl (hw.rd (k := 11) hq rfl).2 rfl rfl (Nat.le_of_ble_eq_true rfl) (Or.inl rfl) (cm_Square_hearersNear (d := d - 1) hw (by omega) (hw.rd (k := 11) hq rfl).2 h) (by omega) ?_
        rintro _ _ ⟨r7, rfl, rfl, h⟩
        show am_Wp (d, "UnseenRing", b_U_cell, 3, false) 0 0 40 [some (.ref q), some (.int p1), some (.int p2)] [.int r7, .ref q] (I, L, R, am_SH) (po_U_cell L R Q)
        refine am_callV (kc := 0) (ks := 0) (As := [.int r7]) (n := 43) d_U_cell_40 rfl ce_U_answered lk_U_184 in_U_answered rfl rfl hq rfl rfl (Nat.le_of_ble_eq_true rfl) (Or.inl rfl) (cm_U_answered (d := d - 1) hw (by omega) hq h) (by omega) ?_
        rintro _ _ ⟨r8, I3, rfl, rfl, h⟩
        show am_Wp (d, "UnseenRing", b_U_cell, 3, false) 0 0 43 [some (.ref q), some (.int p1), some (.int p2)] [.int r8] (I3, L, R, am_SH) (po_U_cell L R Q)
        exact am_iret d_U_cell_43 ⟨r8, I3, rfl, rfl, h⟩
    · have h := h.1 (am_b_0 c2)
      exact tb_U_cell_20 hw hq hd I h
abbrev po_Square_hasTune (I : am_TI) (L : am_TL) (R : am_TR) (Q : Bool → Prop) : Option Value → am_St → Prop := fun r σ' => ∃ (x : Bool), r = some (.int (am_b x)) ∧ σ' = (I, L, R, am_SH) ∧ Q x
def wp_Square_hasTune (I : am_TI) (L : am_TL) (R : am_TR) (q : Nat) (p1 : Int32)  (Q : Bool → Prop) : Prop := wp_U_within I L R p1 0 ((I q 10) - 1) (fun (r1 : Bool) => Q r1)
set_option maxRecDepth 20000 in
theorem cm_Square_hasTune {d : Nat} {I : am_TI} {L : am_TL} {R : am_TR}  (hw : am_Wf R)   {q : Nat} {p1 : Int32} {Q : Bool → Prop} (hd : 1 ≤ d) (hq : am_SH[q]? = some (.inl 7)) (h : wp_Square_hasTune I L R q p1  Q) : am_Cm d 0 0 y_Square_hasTune b_Square_hasTune 2 (some .boolean) [.ref q, .int p1] (I, L, R, am_SH) (po_Square_hasTune I L R Q) := by
  refine am_Cm_of (ini := false) (by decide +kernel) (fun z => by cases z) (by simp [Value.category]) (fun r σ' z => by obtain ⟨x, rfl, -⟩ := z; exact ⟨_, rfl, am_b_nar x⟩) ?_
  unfold wp_Square_hasTune at h
  show am_Wp (d, "UnseenRing$Square", b_Square_hasTune, 2, false) 0 0 0 [some (.ref q), some (.int p1)] [] (I, L, R, am_SH) (po_Square_hasTune I L R Q)
  refine am_iload_n (n := 1) d_Square_hasTune_0 rfl rfl ?_
  refine am_iconst (n := 2) d_Square_hasTune_1 ci_0 rfl ?_
  refine am_aload_n (n := 3) d_Square_hasTune_2 rfl rfl ?_
  refine am_getI (n := 6) f_Square_48 d_Square_hasTune_3 rfl rfl hq ?_
  refine am_iconst (n := 7) d_Square_hasTune_6 ci_1 rfl ?_
  refine am_isub (n := 8) d_Square_hasTune_7 rfl ?_
  refine am_callS (kc := 0) (ks := 0) (As := [.int p1, .int 0, .int ((I q 10) - 1)]) (n := 11) d_Square_hasTune_8 rfl ce_U_within lk_Square_83 st_U_within rfl rfl (Nat.le_of_ble_eq_true rfl) (Or.inl rfl) (cm_U_within (d := d - 1) hw (by omega)  h) (by omega) ?_
  rintro _ _ ⟨r1, rfl, rfl, h⟩
  show am_Wp (d, "UnseenRing$Square", b_Square_hasTune, 2, false) 0 0 11 [some (.ref q), some (.int p1)] [.int (am_b r1)] (I, L, R, am_SH) (po_Square_hasTune I L R Q)
  exact am_iret d_Square_hasTune_11 ⟨r1, rfl, rfl, h⟩
abbrev po_Square_doesLike (I : am_TI) (L : am_TL) (R : am_TR) (Q : Bool → Prop) : Option Value → am_St → Prop := fun r σ' => ∃ (x : Bool), r = some (.int (am_b x)) ∧ σ' = (I, L, R, am_SH) ∧ Q x
def wp_Square_doesLike (I : am_TI) (L : am_TL) (R : am_TR) (q : Nat) (p1 : Int32) (p2 : Int32)  (Q : Bool → Prop) : Prop := (vp_in p1 6 ∧ (((((I (q + 4) (Int32.toNatClampNeg p1)) >>> (p2 &&& 31)) &&& 1) = 1 → Q true) ∧ (¬ (((I (q + 4) (Int32.toNatClampNeg p1)) >>> (p2 &&& 31)) &&& 1) = 1 → Q false)))
set_option maxRecDepth 20000 in
theorem cm_Square_doesLike {d : Nat} {I : am_TI} {L : am_TL} {R : am_TR}  (hw : am_Wf R)   {q : Nat} {p1 : Int32} {p2 : Int32} {Q : Bool → Prop} (hd : 0 ≤ d) (hq : am_SH[q]? = some (.inl 7)) (h : wp_Square_doesLike I L R q p1 p2  Q) : am_Cm d 0 0 y_Square_doesLike b_Square_doesLike 3 (some .boolean) [.ref q, .int p1, .int p2] (I, L, R, am_SH) (po_Square_doesLike I L R Q) := by
  refine am_Cm_of (ini := false) (by decide +kernel) (fun z => by cases z) (by simp [Value.category]) (fun r σ' z => by obtain ⟨x, rfl, -⟩ := z; exact ⟨_, rfl, am_b_nar x⟩) ?_
  unfold wp_Square_doesLike at h
  show am_Wp (d, "UnseenRing$Square", b_Square_doesLike, 3, false) 0 0 0 [some (.ref q), some (.int p1), some (.int p2)] [] (I, L, R, am_SH) (po_Square_doesLike I L R Q)
  refine am_aload_n (n := 1) d_Square_doesLike_0 rfl rfl ?_
  refine am_getR (x := (q + 4)) (n := 4) f_Square_22 d_Square_doesLike_1 rfl rfl hq (hw.1 q 7 3 4 hq rfl) ?_
  refine am_iload_n (n := 5) d_Square_doesLike_4 rfl rfl ?_
  obtain ⟨g1, h⟩ := h
  refine am_iald2 (n := 6) d_Square_doesLike_5 rfl (am_sho (k := 3) (o := 4) hq (by decide) (by decide) (by decide) rfl) g1 rfl ?_
  refine am_iload_n (n := 7) d_Square_doesLike_6 rfl rfl ?_
  refine am_ishr (n := 8) d_Square_doesLike_7 rfl ?_
  refine am_iconst (n := 9) d_Square_doesLike_8 ci_1 rfl ?_
  refine am_iand (n := 10) d_Square_doesLike_9 rfl ?_
  refine am_iconst (n := 11) d_Square_doesLike_10 ci_1 rfl ?_
  refine am_icmp_ne (tgt := 18) (n := 14) d_Square_doesLike_11 rfl rfl (fun c1 => ?_) (fun c1 => ?_)
  · have h := h.2 c1
    refine am_iconst (n := 19) d_Square_doesLike_18 ci_0 rfl ?_
    exact am_iret d_Square_doesLike_19 ⟨false, rfl, rfl, h⟩
  · have h := h.1 c1
    refine am_iconst (n := 15) d_Square_doesLike_14 ci_1 rfl ?_
    refine am_goto (tgt := 19) d_Square_doesLike_15 rfl ?_
    exact am_iret d_Square_doesLike_19 ⟨true, rfl, rfl, h⟩
abbrev po_Square_likersOf (I : am_TI) (L : am_TL) (R : am_TR) (Q : Int32 → Prop) : Option Value → am_St → Prop := fun r σ' => ∃ (x : Int32), r = some (.int x) ∧ σ' = (I, L, R, am_SH) ∧ Q x
def wl_Square_likersOf_4 (I : am_TI) (L : am_TL) (R : am_TR) (q : Nat) (p1 : Int32) (Q : Int32 → Prop)  : Nat → Int32 → Int32 → Prop
  | 0 => fun _ _ => False
  | f4 + 1 => fun v2 v3 => (((I q 11) ≤ v3 → Q v2) ∧ (¬ (I q 11) ≤ v3 → wp_Square_doesLike I L R q v3 p1 (fun (r1 : Bool) => ((r1 = false → wl_Square_likersOf_4 I L R q p1 Q f4 v2 (v3 + 1)) ∧ (r1 = true → wl_Square_likersOf_4 I L R q p1 Q f4 (v2 ||| ((1 : Int32) <<< (v3 &&& 31))) (v3 + 1))))))
set_option maxRecDepth 20000 in
theorem tl_Square_likersOf_4 {d : Nat}  {I : am_TI} {L : am_TL} {R : am_TR} {q : Nat} {p1 : Int32} {Q : Int32 → Prop}  (hw : am_Wf R) (hq : am_SH[q]? = some (.inl 7)) (hd : 1 ≤ d) : ∀ (n : Nat) (v2 : Int32) (v3 : Int32), wl_Square_likersOf_4 I L R q p1 Q  n v2 v3 → am_Wp (d, "UnseenRing$Square", b_Square_likersOf, 4, false) 0 0 4 [some (.ref q), some (.int p1), some (.int v2), some (.int v3)] [] (I, L, R, am_SH) (po_Square_likersOf I L R Q) := by
  intro n
  induction n with
  | zero => intro v2 v3 h; exact h.elim
  | succ n ih =>
    intro v2 v3 h
    unfold wl_Square_likersOf_4 at h
    refine am_iload_n (n := 5) d_Square_likersOf_4 rfl rfl ?_
    refine am_aload_n (n := 6) d_Square_likersOf_5 rfl rfl ?_
    refine am_getI (n := 9) f_Square_51 d_Square_likersOf_6 rfl rfl hq ?_
    refine am_icmp_ge (tgt := 33) (n := 12) d_Square_likersOf_9 rfl rfl (fun c1 => ?_) (fun c1 => ?_)
    · have h := h.1 c1
      refine am_iload_n (n := 34) d_Square_likersOf_33 rfl rfl ?_
      exact am_iret d_Square_likersOf_34 ⟨v2, rfl, rfl, h⟩
    · have h := h.2 c1
      refine am_aload_n (n := 13) d_Square_likersOf_12 rfl rfl ?_
      refine am_iload_n (n := 14) d_Square_likersOf_13 rfl rfl ?_
      refine am_iload_n (n := 15) d_Square_likersOf_14 rfl rfl ?_
      refine am_callV (kc := 0) (ks := 0) (As := [.int v3, .int p1]) (n := 18) d_Square_likersOf_15 rfl ce_Square_doesLike lk_Square_110 in_Square_doesLike rfl rfl hq rfl rfl (Nat.le_of_ble_eq_true rfl) (Or.inl rfl) (cm_Square_doesLike (d := d - 1) hw (by omega) hq h) (by omega) ?_
      rintro _ _ ⟨r1, rfl, rfl, h⟩
      show am_Wp (d, "UnseenRing$Square", b_Square_likersOf, 4, false) 0 0 18 [some (.ref q), some (.int p1), some (.int v2), some (.int v3)] [.int (am_b r1)] (I, L, R, am_SH) (po_Square_likersOf I L R Q)
      refine am_if_eq (y := 0) (tgt := 27) (n := 21) d_Square_likersOf_18 rfl rfl (fun c2 => ?_) (fun c2 => ?_)
      · have h := h.1 (am_b_0 c2)
        refine am_iinc (v := v3 + 1) (ls' := [some (.ref q), some (.int p1), some (.int v2), some (.int (v3 + 1))]) (n := 30) d_Square_likersOf_27 rfl (congrArg _ ci_1) (by decide) rfl rfl ?_
        refine am_goto (tgt := 4) d_Square_likersOf_30 rfl ?_
        exact ih v2 (v3 + 1)  h
      · have h := h.2 (am_b_n0 c2)
        refine am_iload_n (n := 22) d_Square_likersOf_21 rfl rfl ?_
        refine am_iconst (n := 23) d_Square_likersOf_22 ci_1 rfl ?_
        refine am_iload_n (n := 24) d_Square_likersOf_23 rfl rfl ?_
        refine am_ishl (n := 25) d_Square_likersOf_24 rfl ?_
        refine am_ior (n := 26) d_Square_likersOf_25 rfl ?_
        refine am_istore_n (ls' := [some (.ref q), some (.int p1), some (.int (v2 ||| ((1 : Int32) <<< (v3 &&& 31)))), some (.int v3)]) (n := 27) d_Square_likersOf_26 (by decide) rfl rfl ?_
        refine am_iinc (v := v3 + 1) (ls' := [some (.ref q), some (.int p1), some (.int (v2 ||| ((1 : Int32) <<< (v3 &&& 31)))), some (.int (v3 + 1))]) (n := 30) d_Square_likersOf_27 rfl (congrArg _ ci_1) (by decide) rfl rfl ?_
        refine am_goto (tgt := 4) d_Square_likersOf_30 rfl ?_
        exact ih (v2 ||| ((1 : Int32) <<< (v3 &&& 31))) (v3 + 1)  h
def wp_Square_likersOf (I : am_TI) (L : am_TL) (R : am_TR) (q : Nat) (p1 : Int32)  (Q : Int32 → Prop) : Prop := (∃ z, wl_Square_likersOf_4 I L R q p1 Q z 0 0)
set_option maxRecDepth 20000 in
theorem cm_Square_likersOf {d : Nat} {I : am_TI} {L : am_TL} {R : am_TR}  (hw : am_Wf R)   {q : Nat} {p1 : Int32} {Q : Int32 → Prop} (hd : 1 ≤ d) (hq : am_SH[q]? = some (.inl 7)) (h : wp_Square_likersOf I L R q p1  Q) : am_Cm d 0 0 y_Square_likersOf b_Square_likersOf 4 (some .int) [.ref q, .int p1] (I, L, R, am_SH) (po_Square_likersOf I L R Q) := by
  refine am_Cm_of (ini := false) (by decide +kernel) (fun z => by cases z) (by simp [Value.category]) (fun r σ' z => by obtain ⟨x, rfl, -⟩ := z; exact ⟨_, rfl, rfl⟩) ?_
  unfold wp_Square_likersOf at h
  show am_Wp (d, "UnseenRing$Square", b_Square_likersOf, 4, false) 0 0 0 [some (.ref q), some (.int p1), none, none] [] (I, L, R, am_SH) (po_Square_likersOf I L R Q)
  refine am_iconst (n := 1) d_Square_likersOf_0 ci_0 rfl ?_
  refine am_istore_n (ls' := [some (.ref q), some (.int p1), some (.int 0), none]) (n := 2) d_Square_likersOf_1 (by decide) rfl rfl ?_
  refine am_iconst (n := 3) d_Square_likersOf_2 ci_0 rfl ?_
  refine am_istore_n (ls' := [some (.ref q), some (.int p1), some (.int 0), some (.int 0)]) (n := 4) d_Square_likersOf_3 (by decide) rfl rfl ?_
  obtain ⟨n, h⟩ := h
  exact tl_Square_likersOf_4 hw hq hd n 0 0 h
abbrev po_U_likers (L : am_TL) (R : am_TR) (Q : Int32 → am_TI → Prop) : Option Value → am_St → Prop := fun r σ' => ∃ (x : Int32) (I' : am_TI), r = some (.int x) ∧ σ' = (I', L, R, am_SH) ∧ Q x I'
def wp_U_likers (I : am_TI) (L : am_TL) (R : am_TR) (q : Nat) (p1 : Int32)  (Q : Int32 → am_TI → Prop) : Prop := wp_Square_hasTune I L R (am_rd R q 11) p1 (fun (r1 : Bool) => ((r1 = false → wp_U_refused I L R q 1 (fun (r4 : Int32) (I2 : am_TI) => Q r4 I2)) ∧ (r1 = true → wp_Square_likersOf I L R (am_rd R q 11) p1 (fun (r2 : Int32) => wp_U_answered I L R q r2 (fun (r3 : Int32) (I1 : am_TI) => Q r3 I1)))))
set_option maxRecDepth 20000 in
theorem cm_U_likers {d : Nat} {I : am_TI} {L : am_TL} {R : am_TR}  (hw : am_Wf R)   {q : Nat} {p1 : Int32} {Q : Int32 → am_TI → Prop} (hd : 2 ≤ d) (hq : am_SH[q]? = some (.inl 11)) (h : wp_U_likers I L R q p1  Q) : am_Cm d 0 0 y_U_likers b_U_likers 2 (some .int) [.ref q, .int p1] (I, L, R, am_SH) (po_U_likers L R Q) := by
  refine am_Cm_of (ini := false) (by decide +kernel) (fun z => by cases z) (by simp [Value.category]) (fun r σ' z => by obtain ⟨x, _, rfl, -⟩ := z; exact ⟨_, rfl, rfl⟩) ?_
  unfold wp_U_likers at h
  show am_Wp (d, "UnseenRing", b_U_likers, 2, false) 0 0 0 [some (.ref q), some (.int p1)] [] (I, L, R, am_SH) (po_U_likers L R Q)
  refine am_aload_n (n := 1) d_U_likers_0 rfl rfl ?_
  refine am_getR (x := (am_rd R q 11)) (n := 4) f_U_81 d_U_likers_1 rfl rfl hq (hw.rd (k := 11) hq rfl).1 ?_
  refine am_iload_n (n := 5) d_U_likers_4 rfl rfl ?_
  refine am_callV (kc := 0) (ks := 0) (As := [.int p1]) (n := 8) d_U_likers_5 rfl ce_Square_hasTune lk_U_236 in_Square_hasTune rfl rfl (hw.rd (k := 11) hq rfl).2 rfl rfl (Nat.le_of_ble_eq_true rfl) (Or.inl rfl) (cm_Square_hasTune (d := d - 1) hw (by omega) (hw.rd (k := 11) hq rfl).2 h) (by omega) ?_
  rintro _ _ ⟨r1, rfl, rfl, h⟩
  show am_Wp (d, "UnseenRing", b_U_likers, 2, false) 0 0 8 [some (.ref q), some (.int p1)] [.int (am_b r1)] (I, L, R, am_SH) (po_U_likers L R Q)
  refine am_if_ne (y := 0) (tgt := 17) (n := 11) d_U_likers_8 rfl rfl (fun c1 => ?_) (fun c1 => ?_)
  · have h := h.2 (am_b_n0 c1)
    refine am_aload_n (n := 18) d_U_likers_17 rfl rfl ?_
    refine am_aload_n (n := 19) d_U_likers_18 rfl rfl ?_
    refine am_getR (x := (am_rd R q 11)) (n := 22) f_U_81 d_U_likers_19 rfl rfl hq (hw.rd (k := 11) hq rfl).1 ?_
    refine am_iload_n (n := 23) d_U_likers_22 rfl rfl ?_
    refine am_callV (kc := 0) (ks := 0) (As := [.int p1]) (n := 26) d_U_likers_23 rfl ce_Square_likersOf lk_U_239 in_Square_likersOf rfl rfl (hw.rd (k := 11) hq rfl).2 rfl rfl (Nat.le_of_ble_eq_true rfl) (Or.inl rfl) (cm_Square_likersOf (d := d - 1) hw (by omega) (hw.rd (k := 11) hq rfl).2 h) (by omega) ?_
    rintro _ _ ⟨r2, rfl, rfl, h⟩
    show am_Wp (d, "UnseenRing", b_U_likers, 2, false) 0 0 26 [some (.ref q), some (.int p1)] [.int r2, .ref q] (I, L, R, am_SH) (po_U_likers L R Q)
    refine am_callV (kc := 0) (ks := 0) (As := [.int r2]) (n := 29) d_U_likers_26 rfl ce_U_answered lk_U_184 in_U_answered rfl rfl hq rfl rfl (Nat.le_of_ble_eq_true rfl) (Or.inl rfl) (cm_U_answered (d := d - 1) hw (by omega) hq h) (by omega) ?_
    rintro _ _ ⟨r3, I1, rfl, rfl, h⟩
    show am_Wp (d, "UnseenRing", b_U_likers, 2, false) 0 0 29 [some (.ref q), some (.int p1)] [.int r3] (I1, L, R, am_SH) (po_U_likers L R Q)
    exact am_iret d_U_likers_29 ⟨r3, I1, rfl, rfl, h⟩
  · have h := h.1 (am_b_0 c1)
    refine am_aload_n (n := 12) d_U_likers_11 rfl rfl ?_
    refine am_iconst (n := 13) d_U_likers_12 ci_1 rfl ?_
    refine am_callV (kc := 0) (ks := 0) (As := [.int 1]) (n := 16) d_U_likers_13 rfl ce_U_refused lk_U_133 in_U_refused rfl rfl hq rfl rfl (Nat.le_of_ble_eq_true rfl) (Or.inl rfl) (cm_U_refused (d := d - 1) hw (by omega) hq h) (by omega) ?_
    rintro _ _ ⟨r4, I2, rfl, rfl, h⟩
    show am_Wp (d, "UnseenRing", b_U_likers, 2, false) 0 0 16 [some (.ref q), some (.int p1)] [.int r4] (I2, L, R, am_SH) (po_U_likers L R Q)
    exact am_iret d_U_likers_16 ⟨r4, I2, rfl, rfl, h⟩
abbrev po_Square_aStepNearer (I : am_TI) (L : am_TL) (R : am_TR) (Q : Int32 → Prop) : Option Value → am_St → Prop := fun r σ' => ∃ (x : Int32), r = some (.int x) ∧ σ' = (I, L, R, am_SH) ∧ Q x
def wp_Square_aStepNearer (I : am_TI) (L : am_TL) (R : am_TR) (q : Nat) (p1 : Int32)  (Q : Int32 → Prop) : Prop := ((0 < (I q 6) → (¬ (I q 6) = 0 ∧ (¬ (I q 6) = 0 ∧ (¬ (I q 6) = 0 ∧ (¬ (I q 6) = 0 ∧ (((am_abs (((I q 9) - (I q 9) / (I q 6) * (I q 6)) - (p1 - p1 / (I q 6) * (I q 6)))) < (am_abs (((I q 9) / (I q 6)) - (p1 / (I q 6)))) → wp_Integer_compare I L R (((I q 9) / (I q 6)) - (p1 / (I q 6))) 0 (fun (r1 : Int32) => Q (p1 + ((I q 6) * r1)))) ∧ (¬ (am_abs (((I q 9) - (I q 9) / (I q 6) * (I q 6)) - (p1 - p1 / (I q 6) * (I q 6)))) < (am_abs (((I q 9) / (I q 6)) - (p1 / (I q 6)))) → wp_Integer_compare I L R (((I q 9) - (I q 9) / (I q 6) * (I q 6)) - (p1 - p1 / (I q 6) * (I q 6))) 0 (fun (r2 : Int32) => Q (p1 + r2))))))))) ∧ (¬ 0 < (I q 6) → Q p1))
set_option maxRecDepth 20000 in
theorem cm_Square_aStepNearer {d : Nat} {I : am_TI} {L : am_TL} {R : am_TR}  (hw : am_Wf R)   {q : Nat} {p1 : Int32} {Q : Int32 → Prop} (hd : 1 ≤ d) (hq : am_SH[q]? = some (.inl 7)) (h : wp_Square_aStepNearer I L R q p1  Q) : am_Cm d 0 0 y_Square_aStepNearer b_Square_aStepNearer 4 (some .int) [.ref q, .int p1] (I, L, R, am_SH) (po_Square_aStepNearer I L R Q) := by
  refine am_Cm_of (ini := false) (by decide +kernel) (fun z => by cases z) (by simp [Value.category]) (fun r σ' z => by obtain ⟨x, rfl, -⟩ := z; exact ⟨_, rfl, rfl⟩) ?_
  unfold wp_Square_aStepNearer at h
  show am_Wp (d, "UnseenRing$Square", b_Square_aStepNearer, 4, false) 0 0 0 [some (.ref q), some (.int p1), none, none] [] (I, L, R, am_SH) (po_Square_aStepNearer I L R Q)
  refine am_aload_n (n := 1) d_Square_aStepNearer_0 rfl rfl ?_
  refine am_getI (n := 4) f_Square_35 d_Square_aStepNearer_1 rfl rfl hq ?_
  refine am_if_gt (y := 0) (tgt := 9) (n := 7) d_Square_aStepNearer_4 rfl rfl (fun c1 => ?_) (fun c1 => ?_)
  · have h := h.1 c1
    refine am_aload_n (n := 10) d_Square_aStepNearer_9 rfl rfl ?_
    refine am_getI (n := 13) f_Square_45 d_Square_aStepNearer_10 rfl rfl hq ?_
    refine am_aload_n (n := 14) d_Square_aStepNearer_13 rfl rfl ?_
    refine am_getI (n := 17) f_Square_35 d_Square_aStepNearer_14 rfl rfl hq ?_
    obtain ⟨g1, h⟩ := h
    refine am_irem (n := 18) d_Square_aStepNearer_17 g1 rfl ?_
    refine am_iload_n (n := 19) d_Square_aStepNearer_18 rfl rfl ?_
    refine am_aload_n (n := 20) d_Square_aStepNearer_19 rfl rfl ?_
    refine am_getI (n := 23) f_Square_35 d_Square_aStepNearer_20 rfl rfl hq ?_
    obtain ⟨g2, h⟩ := h
    refine am_irem (n := 24) d_Square_aStepNearer_23 g2 rfl ?_
    refine am_isub (n := 25) d_Square_aStepNearer_24 rfl ?_
    refine am_istore_n (ls' := [some (.ref q), some (.int p1), some (.int (((I q 9) - (I q 9) / (I q 6) * (I q 6)) - (p1 - p1 / (I q 6) * (I q 6)))), none]) (n := 26) d_Square_aStepNearer_25 (by decide) rfl rfl ?_
    refine am_aload_n (n := 27) d_Square_aStepNearer_26 rfl rfl ?_
    refine am_getI (n := 30) f_Square_45 d_Square_aStepNearer_27 rfl rfl hq ?_
    refine am_aload_n (n := 31) d_Square_aStepNearer_30 rfl rfl ?_
    refine am_getI (n := 34) f_Square_35 d_Square_aStepNearer_31 rfl rfl hq ?_
    obtain ⟨g3, h⟩ := h
    refine am_idiv (n := 35) d_Square_aStepNearer_34 g3 rfl ?_
    refine am_iload_n (n := 36) d_Square_aStepNearer_35 rfl rfl ?_
    refine am_aload_n (n := 37) d_Square_aStepNearer_36 rfl rfl ?_
    refine am_getI (n := 40) f_Square_35 d_Square_aStepNearer_37 rfl rfl hq ?_
    obtain ⟨g4, h⟩ := h
    refine am_idiv (n := 41) d_Square_aStepNearer_40 g4 rfl ?_
    refine am_isub (n := 42) d_Square_aStepNearer_41 rfl ?_
    refine am_istore_n (ls' := [some (.ref q), some (.int p1), some (.int (((I q 9) - (I q 9) / (I q 6) * (I q 6)) - (p1 - p1 / (I q 6) * (I q 6)))), some (.int (((I q 9) / (I q 6)) - (p1 / (I q 6))))]) (n := 43) d_Square_aStepNearer_42 (by decide) rfl rfl ?_
    refine am_iload_n (n := 44) d_Square_aStepNearer_43 rfl rfl ?_
    refine am_mabs2 (n := 47) d_Square_aStepNearer_44 rfl lm_Square_98 (Nat.le_of_ble_eq_true rfl) (by omega) ?_
    refine am_iload_n (n := 48) d_Square_aStepNearer_47 rfl rfl ?_
    refine am_mabs2 (n := 51) d_Square_aStepNearer_48 rfl lm_Square_98 (Nat.le_of_ble_eq_true rfl) (by omega) ?_
    refine am_icmp_lt (tgt := 62) (n := 54) d_Square_aStepNearer_51 rfl rfl (fun c2 => ?_) (fun c2 => ?_)
    · have h := h.1 c2
      refine am_iload_n (n := 63) d_Square_aStepNearer_62 rfl rfl ?_
      refine am_aload_n (n := 64) d_Square_aStepNearer_63 rfl rfl ?_
      refine am_getI (n := 67) f_Square_35 d_Square_aStepNearer_64 rfl rfl hq ?_
      refine am_iload_n (n := 68) d_Square_aStepNearer_67 rfl rfl ?_
      refine am_iconst (n := 69) d_Square_aStepNearer_68 ci_0 rfl ?_
      refine am_callS (kc := 0) (ks := 0) (As := [.int (((I q 9) / (I q 6)) - (p1 / (I q 6))), .int 0]) (n := 72) d_Square_aStepNearer_69 rfl ce_Integer_compare lk_Square_129 st_Integer_compare rfl rfl (Nat.le_of_ble_eq_true rfl) (Or.inl rfl) (cm_Integer_compare (d := d - 1) hw (by omega)  h) (by omega) ?_
      rintro _ _ ⟨r1, rfl, rfl, h⟩
      show am_Wp (d, "UnseenRing$Square", b_Square_aStepNearer, 4, false) 0 0 72 [some (.ref q), some (.int p1), some (.int (((I q 9) - (I q 9) / (I q 6) * (I q 6)) - (p1 - p1 / (I q 6) * (I q 6)))), some (.int (((I q 9) / (I q 6)) - (p1 / (I q 6))))] [.int r1, .int (I q 6), .int p1] (I, L, R, am_SH) (po_Square_aStepNearer I L R Q)
      refine am_imul (n := 73) d_Square_aStepNearer_72 rfl ?_
      refine am_iadd (n := 74) d_Square_aStepNearer_73 rfl ?_
      exact am_iret d_Square_aStepNearer_74 ⟨(p1 + ((I q 6) * r1)), rfl, rfl, h⟩
    · have h := h.2 c2
      refine am_iload_n (n := 55) d_Square_aStepNearer_54 rfl rfl ?_
      refine am_iload_n (n := 56) d_Square_aStepNearer_55 rfl rfl ?_
      refine am_iconst (n := 57) d_Square_aStepNearer_56 ci_0 rfl ?_
      refine am_callS (kc := 0) (ks := 0) (As := [.int (((I q 9) - (I q 9) / (I q 6) * (I q 6)) - (p1 - p1 / (I q 6) * (I q 6))), .int 0]) (n := 60) d_Square_aStepNearer_57 rfl ce_Integer_compare lk_Square_129 st_Integer_compare rfl rfl (Nat.le_of_ble_eq_true rfl) (Or.inl rfl) (cm_Integer_compare (d := d - 1) hw (by omega)  h) (by omega) ?_
      rintro _ _ ⟨r2, rfl, rfl, h⟩
      show am_Wp (d, "UnseenRing$Square", b_Square_aStepNearer, 4, false) 0 0 60 [some (.ref q), some (.int p1), some (.int (((I q 9) - (I q 9) / (I q 6) * (I q 6)) - (p1 - p1 / (I q 6) * (I q 6)))), some (.int (((I q 9) / (I q 6)) - (p1 / (I q 6))))] [.int r2, .int p1] (I, L, R, am_SH) (po_Square_aStepNearer I L R Q)
      refine am_iadd (n := 61) d_Square_aStepNearer_60 rfl ?_
      exact am_iret d_Square_aStepNearer_61 ⟨(p1 + r2), rfl, rfl, h⟩
  · have h := h.2 c1
    refine am_iload_n (n := 8) d_Square_aStepNearer_7 rfl rfl ?_
    exact am_iret d_Square_aStepNearer_8 ⟨p1, rfl, rfl, h⟩
abbrev po_Square_playTune (L : am_TL) (R : am_TR) (Q : Int32 → am_TI → Prop) : Option Value → am_St → Prop := fun r σ' => ∃ (x : Int32) (I' : am_TI), r = some (.int x) ∧ σ' = (I', L, R, am_SH) ∧ Q x I'
def wl_Square_playTune_14 (L : am_TL) (R : am_TR) (q : Nat) (p1 : Int32) (Q : Int32 → am_TI → Prop)  : Nat → am_TI → Int32 → Int32 → Prop
  | 0 => fun _ _ _ => False
  | f14 + 1 => fun I v2 v3 => (((I q 11) ≤ v3 → (∀ I1, I1 = am_u2 I q 13 (am_min 9999 ((I q 13) + v2)) → (∀ I2, I2 = am_u2 I1 q 14 ((I1 q 14) + 1) → Q v2 I2))) ∧ (¬ (I q 11) ≤ v3 → wp_Square_doesLike I L R q v3 p1 (fun (r2 : Bool) => ((r2 = false → wl_Square_playTune_14 L R q p1 Q f14 I v2 (v3 + 1)) ∧ (r2 = true → (vp_in v3 6 ∧ (((I (q + 2) (Int32.toNatClampNeg v3)) = (I q 9) → (vp_in v3 6 ∧ (((I (q + 3) (Int32.toNatClampNeg v3)) ≤ 0 → wl_Square_playTune_14 L R q p1 Q f14 I v2 (v3 + 1)) ∧ (¬ (I (q + 3) (Int32.toNatClampNeg v3)) ≤ 0 → (vp_in v3 6 ∧ (vp_in v3 6 ∧ (∀ I3, I3 = am_u2 I (q + 3) (Int32.toNatClampNeg v3) ((I (q + 3) (Int32.toNatClampNeg v3)) - 1) → wl_Square_playTune_14 L R q p1 Q f14 I3 (v2 + 1) (v3 + 1)))))))) ∧ (¬ (I (q + 2) (Int32.toNatClampNeg v3)) = (I q 9) → (vp_in v3 6 ∧ wp_Square_aStepNearer I L R q (I (q + 2) (Int32.toNatClampNeg v3)) (fun (r3 : Int32) => (vp_in v3 6 ∧ (∀ I4, I4 = am_u2 I (q + 2) (Int32.toNatClampNeg v3) r3 → wl_Square_playTune_14 L R q p1 Q f14 I4 v2 (v3 + 1)))))))))))))
set_option maxRecDepth 20000 in
theorem tl_Square_playTune_14 {d : Nat}  {L : am_TL} {R : am_TR} {q : Nat} {p1 : Int32} {Q : Int32 → am_TI → Prop}  (hw : am_Wf R) (hq : am_SH[q]? = some (.inl 7)) (hd : 2 ≤ d) : ∀ (n : Nat) (I : am_TI) (v2 : Int32) (v3 : Int32), wl_Square_playTune_14 L R q p1 Q  n I v2 v3 → am_Wp (d, "UnseenRing$Square", b_Square_playTune, 4, false) 0 0 14 [some (.ref q), some (.int p1), some (.int v2), some (.int v3)] [] (I, L, R, am_SH) (po_Square_playTune L R Q) := by
  intro n
  induction n with
  | zero => intro I v2 v3 h; exact h.elim
  | succ n ih =>
    intro I v2 v3 h
    unfold wl_Square_playTune_14 at h
    refine am_iload_n (n := 15) d_Square_playTune_14 rfl rfl ?_
    refine am_aload_n (n := 16) d_Square_playTune_15 rfl rfl ?_
    refine am_getI (n := 19) f_Square_51 d_Square_playTune_16 rfl rfl hq ?_
    refine am_icmp_ge (tgt := 94) (n := 22) d_Square_playTune_19 rfl rfl (fun c2 => ?_) (fun c2 => ?_)
    · have h := h.1 c2
      refine am_aload_n (n := 95) d_Square_playTune_94 rfl rfl ?_
      refine am_sipush (n := 98) d_Square_playTune_95 cs_9999 rfl ?_
      refine am_aload_n (n := 99) d_Square_playTune_98 rfl rfl ?_
      refine am_getI (n := 102) f_Square_57 d_Square_playTune_99 rfl rfl hq ?_
      refine am_iload_n (n := 103) d_Square_playTune_102 rfl rfl ?_
      refine am_iadd (n := 104) d_Square_playTune_103 rfl ?_
      refine am_mmin2 (n := 107) d_Square_playTune_104 rfl lm_Square_126 (Nat.le_of_ble_eq_true rfl) (by omega) ?_
      refine am_putI (n := 110) f_Square_57 d_Square_playTune_107 rfl ⟨_, rfl, Or.inl rfl⟩ rfl rfl hq ?_
      generalize eI1 : am_u2 I q 13 (am_min 9999 ((I q 13) + v2)) = I1
      have h := h I1 eI1.symm
      refine am_aload_n (n := 111) d_Square_playTune_110 rfl rfl ?_
      refine am_dup (n := 112) d_Square_playTune_111 rfl rfl ?_
      refine am_getI (n := 115) f_Square_60 d_Square_playTune_112 rfl rfl hq ?_
      refine am_iconst (n := 116) d_Square_playTune_115 ci_1 rfl ?_
      refine am_iadd (n := 117) d_Square_playTune_116 rfl ?_
      refine am_putI (n := 120) f_Square_60 d_Square_playTune_117 rfl ⟨_, rfl, Or.inl rfl⟩ rfl rfl hq ?_
      generalize eI2 : am_u2 I1 q 14 ((I1 q 14) + 1) = I2
      have h := h I2 eI2.symm
      refine am_iload_n (n := 121) d_Square_playTune_120 rfl rfl ?_
      exact am_iret d_Square_playTune_121 ⟨v2, I2, rfl, rfl, h⟩
    · have h := h.2 c2
      refine am_aload_n (n := 23) d_Square_playTune_22 rfl rfl ?_
      refine am_iload_n (n := 24) d_Square_playTune_23 rfl rfl ?_
      refine am_iload_n (n := 25) d_Square_playTune_24 rfl rfl ?_
      refine am_callV (kc := 0) (ks := 0) (As := [.int v3, .int p1]) (n := 28) d_Square_playTune_25 rfl ce_Square_doesLike lk_Square_110 in_Square_doesLike rfl rfl hq rfl rfl (Nat.le_of_ble_eq_true rfl) (Or.inl rfl) (cm_Square_doesLike (d := d - 1) hw (by omega) hq h) (by omega) ?_
      rintro _ _ ⟨r2, rfl, rfl, h⟩
      show am_Wp (d, "UnseenRing$Square", b_Square_playTune, 4, false) 0 0 28 [some (.ref q), some (.int p1), some (.int v2), some (.int v3)] [.int (am_b r2)] (I, L, R, am_SH) (po_Square_playTune L R Q)
      refine am_if_ne (y := 0) (tgt := 34) (n := 31) d_Square_playTune_28 rfl rfl (fun c3 => ?_) (fun c3 => ?_)
      · have h := h.2 (am_b_n0 c3)
        refine am_aload_n (n := 35) d_Square_playTune_34 rfl rfl ?_
        refine am_getR (x := (q + 2)) (n := 38) f_Square_15 d_Square_playTune_35 rfl rfl hq (hw.1 q 7 1 2 hq rfl) ?_
        refine am_iload_n (n := 39) d_Square_playTune_38 rfl rfl ?_
        obtain ⟨g1, h⟩ := h
        refine am_iald2 (n := 40) d_Square_playTune_39 rfl (am_sho (k := 1) (o := 2) hq (by decide) (by decide) (by decide) rfl) g1 rfl ?_
        refine am_aload_n (n := 41) d_Square_playTune_40 rfl rfl ?_
        refine am_getI (n := 44) f_Square_45 d_Square_playTune_41 rfl rfl hq ?_
        refine am_icmp_eq (tgt := 66) (n := 47) d_Square_playTune_44 rfl rfl (fun c4 => ?_) (fun c4 => ?_)
        · have h := h.1 c4
          refine am_aload_n (n := 67) d_Square_playTune_66 rfl rfl ?_
          refine am_getR (x := (q + 3)) (n := 70) f_Square_19 d_Square_playTune_67 rfl rfl hq (hw.1 q 7 2 3 hq rfl) ?_
          refine am_iload_n (n := 71) d_Square_playTune_70 rfl rfl ?_
          obtain ⟨g2, h⟩ := h
          refine am_iald2 (n := 72) d_Square_playTune_71 rfl (am_sho (k := 2) (o := 3) hq (by decide) (by decide) (by decide) rfl) g2 rfl ?_
          refine am_if_le (y := 0) (tgt := 88) (n := 75) d_Square_playTune_72 rfl rfl (fun c5 => ?_) (fun c5 => ?_)
          · have h := h.1 c5
            refine am_iinc (v := v3 + 1) (ls' := [some (.ref q), some (.int p1), some (.int v2), some (.int (v3 + 1))]) (n := 91) d_Square_playTune_88 rfl (congrArg _ ci_1) (by decide) rfl rfl ?_
            refine am_goto (tgt := 14) d_Square_playTune_91 rfl ?_
            exact ih I v2 (v3 + 1)  h
          · have h := h.2 c5
            refine am_aload_n (n := 76) d_Square_playTune_75 rfl rfl ?_
            refine am_getR (x := (q + 3)) (n := 79) f_Square_19 d_Square_playTune_76 rfl rfl hq (hw.1 q 7 2 3 hq rfl) ?_
            refine am_iload_n (n := 80) d_Square_playTune_79 rfl rfl ?_
            refine am_dup2 (n := 81) d_Square_playTune_80 rfl rfl rfl ?_
            obtain ⟨g3, h⟩ := h
            refine am_iald2 (n := 82) d_Square_playTune_81 rfl (am_sho (k := 2) (o := 3) hq (by decide) (by decide) (by decide) rfl) g3 rfl ?_
            refine am_iconst (n := 83) d_Square_playTune_82 ci_1 rfl ?_
            refine am_isub (n := 84) d_Square_playTune_83 rfl ?_
            obtain ⟨g4, h⟩ := h
            refine am_iast2 (n := 85) d_Square_playTune_84 rfl (am_sho (k := 2) (o := 3) hq (by decide) (by decide) (by decide) rfl) g4 rfl ?_
            generalize eI3 : am_u2 I (q + 3) (Int32.toNatClampNeg v3) ((I (q + 3) (Int32.toNatClampNeg v3)) - 1) = I3
            have h := h I3 eI3.symm
            refine am_iinc (v := v2 + 1) (ls' := [some (.ref q), some (.int p1), some (.int (v2 + 1)), some (.int v3)]) (n := 88) d_Square_playTune_85 rfl (congrArg _ ci_1) (by decide) rfl rfl ?_
            refine am_iinc (v := v3 + 1) (ls' := [some (.ref q), some (.int p1), some (.int (v2 + 1)), some (.int (v3 + 1))]) (n := 91) d_Square_playTune_88 rfl (congrArg _ ci_1) (by decide) rfl rfl ?_
            refine am_goto (tgt := 14) d_Square_playTune_91 rfl ?_
            exact ih I3 (v2 + 1) (v3 + 1)  h
        · have h := h.2 c4
          refine am_aload_n (n := 48) d_Square_playTune_47 rfl rfl ?_
          refine am_getR (x := (q + 2)) (n := 51) f_Square_15 d_Square_playTune_48 rfl rfl hq (hw.1 q 7 1 2 hq rfl) ?_
          refine am_iload_n (n := 52) d_Square_playTune_51 rfl rfl ?_
          refine am_aload_n (n := 53) d_Square_playTune_52 rfl rfl ?_
          refine am_aload_n (n := 54) d_Square_playTune_53 rfl rfl ?_
          refine am_getR (x := (q + 2)) (n := 57) f_Square_15 d_Square_playTune_54 rfl rfl hq (hw.1 q 7 1 2 hq rfl) ?_
          refine am_iload_n (n := 58) d_Square_playTune_57 rfl rfl ?_
          obtain ⟨g5, h⟩ := h
          refine am_iald2 (n := 59) d_Square_playTune_58 rfl (am_sho (k := 1) (o := 2) hq (by decide) (by decide) (by decide) rfl) g5 rfl ?_
          refine am_callV (kc := 0) (ks := 0) (As := [.int (I (q + 2) (Int32.toNatClampNeg v3))]) (n := 62) d_Square_playTune_59 rfl ce_Square_aStepNearer lk_Square_123 in_Square_aStepNearer rfl rfl hq rfl rfl (Nat.le_of_ble_eq_true rfl) (Or.inl rfl) (cm_Square_aStepNearer (d := d - 1) hw (by omega) hq h) (by omega) ?_
          rintro _ _ ⟨r3, rfl, rfl, h⟩
          show am_Wp (d, "UnseenRing$Square", b_Square_playTune, 4, false) 0 0 62 [some (.ref q), some (.int p1), some (.int v2), some (.int v3)] [.int r3, .int v3, .ref (q + 2)] (I, L, R, am_SH) (po_Square_playTune L R Q)
          obtain ⟨g6, h⟩ := h
          refine am_iast2 (n := 63) d_Square_playTune_62 rfl (am_sho (k := 1) (o := 2) hq (by decide) (by decide) (by decide) rfl) g6 rfl ?_
          generalize eI4 : am_u2 I (q + 2) (Int32.toNatClampNeg v3) r3 = I4
          have h := h I4 eI4.symm
          refine am_goto (tgt := 88) d_Square_playTune_63 rfl ?_
          refine am_iinc (v := v3 + 1) (ls' := [some (.ref q), some (.int p1), some (.int v2), some (.int (v3 + 1))]) (n := 91) d_Square_playTune_88 rfl (congrArg _ ci_1) (by decide) rfl rfl ?_
          refine am_goto (tgt := 14) d_Square_playTune_91 rfl ?_
          exact ih I4 v2 (v3 + 1)  h
      · have h := h.1 (am_b_0 c3)
        refine am_goto (tgt := 88) d_Square_playTune_31 rfl ?_
        refine am_iinc (v := v3 + 1) (ls' := [some (.ref q), some (.int p1), some (.int v2), some (.int (v3 + 1))]) (n := 91) d_Square_playTune_88 rfl (congrArg _ ci_1) (by decide) rfl rfl ?_
        refine am_goto (tgt := 14) d_Square_playTune_91 rfl ?_
        exact ih I v2 (v3 + 1)  h
def wp_Square_playTune (I : am_TI) (L : am_TL) (R : am_TR) (q : Nat) (p1 : Int32)  (Q : Int32 → am_TI → Prop) : Prop := wp_Square_likersOf I L R q p1 (fun (r1 : Int32) => ((r1 = 0 → Q (-1) I) ∧ (¬ r1 = 0 → (∃ z, wl_Square_playTune_14 L R q p1 Q z I 0 0))))
set_option maxRecDepth 20000 in
theorem cm_Square_playTune {d : Nat} {I : am_TI} {L : am_TL} {R : am_TR}  (hw : am_Wf R)   {q : Nat} {p1 : Int32} {Q : Int32 → am_TI → Prop} (hd : 2 ≤ d) (hq : am_SH[q]? = some (.inl 7)) (h : wp_Square_playTune I L R q p1  Q) : am_Cm d 0 0 y_Square_playTune b_Square_playTune 4 (some .int) [.ref q, .int p1] (I, L, R, am_SH) (po_Square_playTune L R Q) := by
  refine am_Cm_of (ini := false) (by decide +kernel) (fun z => by cases z) (by simp [Value.category]) (fun r σ' z => by obtain ⟨x, _, rfl, -⟩ := z; exact ⟨_, rfl, rfl⟩) ?_
  unfold wp_Square_playTune at h
  show am_Wp (d, "UnseenRing$Square", b_Square_playTune, 4, false) 0 0 0 [some (.ref q), some (.int p1), none, none] [] (I, L, R, am_SH) (po_Square_playTune L R Q)
  refine am_aload_n (n := 1) d_Square_playTune_0 rfl rfl ?_
  refine am_iload_n (n := 2) d_Square_playTune_1 rfl rfl ?_
  refine am_callV (kc := 0) (ks := 0) (As := [.int p1]) (n := 5) d_Square_playTune_2 rfl ce_Square_likersOf lk_Square_120 in_Square_likersOf rfl rfl hq rfl rfl (Nat.le_of_ble_eq_true rfl) (Or.inl rfl) (cm_Square_likersOf (d := d - 1) hw (by omega) hq h) (by omega) ?_
  rintro _ _ ⟨r1, rfl, rfl, h⟩
  show am_Wp (d, "UnseenRing$Square", b_Square_playTune, 4, false) 0 0 5 [some (.ref q), some (.int p1), none, none] [.int r1] (I, L, R, am_SH) (po_Square_playTune L R Q)
  refine am_if_ne (y := 0) (tgt := 10) (n := 8) d_Square_playTune_5 rfl rfl (fun c1 => ?_) (fun c1 => ?_)
  · have h := h.2 c1
    refine am_iconst (n := 11) d_Square_playTune_10 ci_0 rfl ?_
    refine am_istore_n (ls' := [some (.ref q), some (.int p1), some (.int 0), none]) (n := 12) d_Square_playTune_11 (by decide) rfl rfl ?_
    refine am_iconst (n := 13) d_Square_playTune_12 ci_0 rfl ?_
    refine am_istore_n (ls' := [some (.ref q), some (.int p1), some (.int 0), some (.int 0)]) (n := 14) d_Square_playTune_13 (by decide) rfl rfl ?_
    obtain ⟨n, h⟩ := h
    exact tl_Square_playTune_14 hw hq hd n I 0 0 h
  · have h := h.1 c1
    refine am_iconst (n := 9) d_Square_playTune_8 ci_m1 rfl ?_
    exact am_iret d_Square_playTune_9 ⟨(-1), I, rfl, rfl, h⟩
abbrev po_U_answeredIfItCanBe (L : am_TL) (R : am_TR) (Q : Int32 → am_TI → Prop) : Option Value → am_St → Prop := fun r σ' => ∃ (x : Int32) (I' : am_TI), r = some (.int x) ∧ σ' = (I', L, R, am_SH) ∧ Q x I'
def wp_U_answeredIfItCanBe (I : am_TI) (L : am_TL) (R : am_TR) (q : Nat) (p1 : Int32)  (Q : Int32 → am_TI → Prop) : Prop := ((p1 = (-1) → wp_U_refused I L R q 7 (fun (r2 : Int32) (I2 : am_TI) => Q r2 I2)) ∧ (¬ p1 = (-1) → wp_U_answered I L R q p1 (fun (r1 : Int32) (I1 : am_TI) => Q r1 I1)))
set_option maxRecDepth 20000 in
theorem cm_U_answeredIfItCanBe {d : Nat} {I : am_TI} {L : am_TL} {R : am_TR}  (hw : am_Wf R)   {q : Nat} {p1 : Int32} {Q : Int32 → am_TI → Prop} (hd : 1 ≤ d) (hq : am_SH[q]? = some (.inl 11)) (h : wp_U_answeredIfItCanBe I L R q p1  Q) : am_Cm d 0 0 y_U_answeredIfItCanBe b_U_answeredIfItCanBe 2 (some .int) [.ref q, .int p1] (I, L, R, am_SH) (po_U_answeredIfItCanBe L R Q) := by
  refine am_Cm_of (ini := false) (by decide +kernel) (fun z => by cases z) (by simp [Value.category]) (fun r σ' z => by obtain ⟨x, _, rfl, -⟩ := z; exact ⟨_, rfl, rfl⟩) ?_
  unfold wp_U_answeredIfItCanBe at h
  show am_Wp (d, "UnseenRing", b_U_answeredIfItCanBe, 2, false) 0 0 0 [some (.ref q), some (.int p1)] [] (I, L, R, am_SH) (po_U_answeredIfItCanBe L R Q)
  refine am_iload_n (n := 1) d_U_answeredIfItCanBe_0 rfl rfl ?_
  refine am_iconst (n := 2) d_U_answeredIfItCanBe_1 ci_m1 rfl ?_
  refine am_icmp_ne (tgt := 14) (n := 5) d_U_answeredIfItCanBe_2 rfl rfl (fun c1 => ?_) (fun c1 => ?_)
  · have h := h.2 c1
    refine am_aload_n (n := 15) d_U_answeredIfItCanBe_14 rfl rfl ?_
    refine am_iload_n (n := 16) d_U_answeredIfItCanBe_15 rfl rfl ?_
    refine am_callV (kc := 0) (ks := 0) (As := [.int p1]) (n := 19) d_U_answeredIfItCanBe_16 rfl ce_U_answered lk_U_184 in_U_answered rfl rfl hq rfl rfl (Nat.le_of_ble_eq_true rfl) (Or.inl rfl) (cm_U_answered (d := d - 1) hw (by omega) hq h) (by omega) ?_
    rintro _ _ ⟨r1, I1, rfl, rfl, h⟩
    show am_Wp (d, "UnseenRing", b_U_answeredIfItCanBe, 2, false) 0 0 19 [some (.ref q), some (.int p1)] [.int r1] (I1, L, R, am_SH) (po_U_answeredIfItCanBe L R Q)
    exact am_iret d_U_answeredIfItCanBe_19 ⟨r1, I1, rfl, rfl, h⟩
  · have h := h.1 c1
    refine am_aload_n (n := 6) d_U_answeredIfItCanBe_5 rfl rfl ?_
    refine am_bipush (n := 8) d_U_answeredIfItCanBe_6 cb_7 rfl ?_
    refine am_callV (kc := 0) (ks := 0) (As := [.int 7]) (n := 11) d_U_answeredIfItCanBe_8 rfl ce_U_refused lk_U_133 in_U_refused rfl rfl hq rfl rfl (Nat.le_of_ble_eq_true rfl) (Or.inl rfl) (cm_U_refused (d := d - 1) hw (by omega) hq h) (by omega) ?_
    rintro _ _ ⟨r2, I2, rfl, rfl, h⟩
    show am_Wp (d, "UnseenRing", b_U_answeredIfItCanBe, 2, false) 0 0 11 [some (.ref q), some (.int p1)] [.int r2] (I2, L, R, am_SH) (po_U_answeredIfItCanBe L R Q)
    refine am_goto (tgt := 19) d_U_answeredIfItCanBe_11 rfl ?_
    exact am_iret d_U_answeredIfItCanBe_19 ⟨r2, I2, rfl, rfl, h⟩
