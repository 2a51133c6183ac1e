abbrev po_U_mark (R : am_TR) (Q : Int32 → am_TI → am_TL → Prop) : Option Value → am_St → Prop := fun r σ' => ∃ (x : Int32) (I' : am_TI) (L' : am_TL), r = some (.int x) ∧ σ' = (I', L', R, am_SH) ∧ Q x I' L'
def wp_U_mark (I : am_TI) (L : am_TL) (R : am_TR) (q : Nat)  (Q : Int32 → am_TI → am_TL → Prop) : Prop := (((I q 14) < 3 → (vp_in (I q 14) 3 ∧ wp_Square_copyFrom I L R (am_rd R (q + 11) (Int32.toNatClampNeg (I q 14))) (am_rd R q 11) (fun (I1 : am_TI) (L1 : am_TL) => (∀ I2, I2 = am_u2 I1 q 14 ((I1 q 14) + 1) → wp_U_answered I2 L1 R q (I2 q 14) (fun (r1 : Int32) (I3 : am_TI) => Q r1 I3 L1))))) ∧ (¬ (I q 14) < 3 → wp_U_refused I L R q 4 (fun (r2 : Int32) (I4 : am_TI) => Q r2 I4 L)))
set_option maxRecDepth 20000 in
theorem cm_U_mark {d : Nat} {I : am_TI} {L : am_TL} {R : am_TR}  (hw : am_Wf R)   {q : Nat} {Q : Int32 → am_TI → am_TL → Prop} (hd : 3 ≤ d) (hq : am_SH[q]? = some (.inl 11)) (h : wp_U_mark I L R q  Q) : am_Cm d 0 0 y_U_mark b_U_mark 1 (some .int) [.ref q] (I, L, R, am_SH) (po_U_mark R Q) := by
  refine am_Cm_of (ini := false) (by decide +kernel) (fun z => by cases z) (by simp [Value.category]) (fun r σ' z => by obtain ⟨x, _, _, rfl, -⟩ := z; exact ⟨_, rfl, rfl⟩) ?_
  unfold wp_U_mark at h
  show am_Wp (d, "UnseenRing", b_U_mark, 1, false) 0 0 0 [some (.ref q)] [] (I, L, R, am_SH) (po_U_mark R Q)
  refine am_aload_n (n := 1) d_U_mark_0 rfl rfl ?_
  refine am_getI (n := 4) f_U_95 d_U_mark_1 rfl rfl hq ?_
  refine am_iconst (n := 5) d_U_mark_4 ci_3 rfl ?_
  refine am_icmp_lt (tgt := 14) (n := 8) d_U_mark_5 rfl rfl (fun c1 => ?_) (fun c1 => ?_)
  · have h := h.1 c1
    refine am_aload_n (n := 15) d_U_mark_14 rfl rfl ?_
    refine am_getR (x := (q + 11)) (n := 18) f_U_38 d_U_mark_15 rfl rfl hq (hw.1 q 11 4 11 hq rfl) ?_
    refine am_aload_n (n := 19) d_U_mark_18 rfl rfl ?_
    refine am_getI (n := 22) f_U_95 d_U_mark_19 rfl rfl hq ?_
    obtain ⟨g1, h⟩ := h
    refine am_aald52 (x := (am_rd R (q + 11) (Int32.toNatClampNeg (I q 14)))) (n := 23) d_U_mark_22 rfl (am_sho (k := 4) (o := 11) hq (by decide) (by decide) (by decide) rfl) g1 rfl (hw.marked (am_sho (k := 4) (o := 11) hq (by decide) (by decide) (by decide) rfl) (am_in_j g1 rfl)).1 ?_
    refine am_aload_n (n := 24) d_U_mark_23 rfl rfl ?_
    refine am_getR (x := (am_rd R q 11)) (n := 27) f_U_81 d_U_mark_24 rfl rfl hq (hw.rd (k := 11) hq rfl).1 ?_
    refine am_callV (kc := 0) (ks := 0) (As := [.ref (am_rd R q 11)]) (n := 30) d_U_mark_27 rfl ce_Square_copyFrom lk_U_405 in_Square_copyFrom rfl rfl (hw.marked (am_sho (k := 4) (o := 11) hq (by decide) (by decide) (by decide) rfl) (am_in_j g1 rfl)).2 rfl rfl (Nat.le_of_ble_eq_true rfl) (Or.inl rfl) (cm_Square_copyFrom (d := d - 1) hw (by omega) (hw.marked (am_sho (k := 4) (o := 11) hq (by decide) (by decide) (by decide) rfl) (am_in_j g1 rfl)).2 (hw.rd (k := 11) hq rfl).2 h) (by omega) ?_
    rintro _ _ ⟨I1, L1, rfl, rfl, h⟩
    show am_Wp (d, "UnseenRing", b_U_mark, 1, false) 0 0 30 [some (.ref q)] [] (I1, L1, R, am_SH) (po_U_mark R Q)
    refine am_aload_n (n := 31) d_U_mark_30 rfl rfl ?_
    refine am_dup (n := 32) d_U_mark_31 rfl rfl ?_
    refine am_getI (n := 35) f_U_95 d_U_mark_32 rfl rfl hq ?_
    refine am_iconst (n := 36) d_U_mark_35 ci_1 rfl ?_
    refine am_iadd (n := 37) d_U_mark_36 rfl ?_
    refine am_putI (n := 40) f_U_95 d_U_mark_37 rfl ⟨_, rfl, Or.inl rfl⟩ rfl rfl hq ?_
    generalize eI2 : am_u2 I1 q 14 ((I1 q 14) + 1) = I2
    have h := h I2 eI2.symm
    refine am_aload_n (n := 41) d_U_mark_40 rfl rfl ?_
    refine am_aload_n (n := 42) d_U_mark_41 rfl rfl ?_
    refine am_getI (n := 45) f_U_95 d_U_mark_42 rfl rfl hq ?_
    refine am_callV (kc := 0) (ks := 0) (As := [.int (I2 q 14)]) (n := 48) d_U_mark_45 rfl ce_U_answered lk_U_184 in_U_answered rfl rfl hq rfl rfl (Nat.le_of_ble_eq_true rfl) (Or.inl rfl) (cm_U_answered (d := d - 1) hw (by omega) hq h) (by omega) ?_
    rintro _ _ ⟨r1, I3, rfl, rfl, h⟩
    show am_Wp (d, "UnseenRing", b_U_mark, 1, false) 0 0 48 [some (.ref q)] [.int r1] (I3, L1, R, am_SH) (po_U_mark R Q)
    exact am_iret d_U_mark_48 ⟨r1, I3, L1, rfl, rfl, h⟩
  · have h := h.2 c1
    refine am_aload_n (n := 9) d_U_mark_8 rfl rfl ?_
    refine am_iconst (n := 10) d_U_mark_9 ci_4 rfl ?_
    refine am_callV (kc := 0) (ks := 0) (As := [.int 4]) (n := 13) d_U_mark_10 rfl ce_U_refused lk_U_133 in_U_refused rfl rfl hq rfl rfl (Nat.le_of_ble_eq_true rfl) (Or.inl rfl) (cm_U_refused (d := d - 1) hw (by omega) hq h) (by omega) ?_
    rintro _ _ ⟨r2, I4, rfl, rfl, h⟩
    show am_Wp (d, "UnseenRing", b_U_mark, 1, false) 0 0 13 [some (.ref q)] [.int r2] (I4, L, R, am_SH) (po_U_mark R Q)
    exact am_iret d_U_mark_13 ⟨r2, I4, L, rfl, rfl, h⟩
abbrev po_U_undo (R : am_TR) (Q : Int32 → am_TI → am_TL → Prop) : Option Value → am_St → Prop := fun r σ' => ∃ (x : Int32) (I' : am_TI) (L' : am_TL), r = some (.int x) ∧ σ' = (I', L', R, am_SH) ∧ Q x I' L'
def wp_U_undo (I : am_TI) (L : am_TL) (R : am_TR) (q : Nat)  (Q : Int32 → am_TI → am_TL → Prop) : Prop := ((0 < (I q 14) → (∀ I1, I1 = am_u2 I q 14 ((I q 14) - 1) → (vp_in (I1 q 14) 3 ∧ wp_Square_copyFrom I1 L R (am_rd R q 11) (am_rd R (q + 11) (Int32.toNatClampNeg (I1 q 14))) (fun (I2 : am_TI) (L1 : am_TL) => wp_U_answered I2 L1 R q (I2 q 14) (fun (r1 : Int32) (I3 : am_TI) => Q r1 I3 L1))))) ∧ (¬ 0 < (I q 14) → wp_U_refused I L R q 6 (fun (r2 : Int32) (I4 : am_TI) => Q r2 I4 L)))
set_option maxRecDepth 20000 in
theorem cm_U_undo {d : Nat} {I : am_TI} {L : am_TL} {R : am_TR}  (hw : am_Wf R)   {q : Nat} {Q : Int32 → am_TI → am_TL → Prop} (hd : 3 ≤ d) (hq : am_SH[q]? = some (.inl 11)) (h : wp_U_undo I L R q  Q) : am_Cm d 0 0 y_U_undo b_U_undo 1 (some .int) [.ref q] (I, L, R, am_SH) (po_U_undo R Q) := by
  refine am_Cm_of (ini := false) (by decide +kernel) (fun z => by cases z) (by simp [Value.category]) (fun r σ' z => by obtain ⟨x, _, _, rfl, -⟩ := z; exact ⟨_, rfl, rfl⟩) ?_
  unfold wp_U_undo at h
  show am_Wp (d, "UnseenRing", b_U_undo, 1, false) 0 0 0 [some (.ref q)] [] (I, L, R, am_SH) (po_U_undo R Q)
  refine am_aload_n (n := 1) d_U_undo_0 rfl rfl ?_
  refine am_getI (n := 4) f_U_95 d_U_undo_1 rfl rfl hq ?_
  refine am_if_gt (y := 0) (tgt := 14) (n := 7) d_U_undo_4 rfl rfl (fun c1 => ?_) (fun c1 => ?_)
  · have h := h.1 c1
    refine am_aload_n (n := 15) d_U_undo_14 rfl rfl ?_
    refine am_dup (n := 16) d_U_undo_15 rfl rfl ?_
    refine am_getI (n := 19) f_U_95 d_U_undo_16 rfl rfl hq ?_
    refine am_iconst (n := 20) d_U_undo_19 ci_1 rfl ?_
    refine am_isub (n := 21) d_U_undo_20 rfl ?_
    refine am_putI (n := 24) f_U_95 d_U_undo_21 rfl ⟨_, rfl, Or.inl rfl⟩ rfl rfl hq ?_
    generalize eI1 : am_u2 I q 14 ((I q 14) - 1) = I1
    have h := h I1 eI1.symm
    refine am_aload_n (n := 25) d_U_undo_24 rfl rfl ?_
    refine am_getR (x := (am_rd R q 11)) (n := 28) f_U_81 d_U_undo_25 rfl rfl hq (hw.rd (k := 11) hq rfl).1 ?_
    refine am_aload_n (n := 29) d_U_undo_28 rfl rfl ?_
    refine am_getR (x := (q + 11)) (n := 32) f_U_38 d_U_undo_29 rfl rfl hq (hw.1 q 11 4 11 hq rfl) ?_
    refine am_aload_n (n := 33) d_U_undo_32 rfl rfl ?_
    refine am_getI (n := 36) f_U_95 d_U_undo_33 rfl rfl hq ?_
    obtain ⟨g1, h⟩ := h
    refine am_aald52 (x := (am_rd R (q + 11) (Int32.toNatClampNeg (I1 q 14)))) (n := 37) d_U_undo_36 rfl (am_sho (k := 4) (o := 11) hq (by decide) (by decide) (by decide) rfl) g1 rfl (hw.marked (am_sho (k := 4) (o := 11) hq (by decide) (by decide) (by decide) rfl) (am_in_j g1 rfl)).1 ?_
    refine am_callV (kc := 0) (ks := 0) (As := [.ref (am_rd R (q + 11) (Int32.toNatClampNeg (I1 q 14)))]) (n := 40) d_U_undo_37 rfl ce_Square_copyFrom lk_U_405 in_Square_copyFrom rfl rfl (hw.rd (k := 11) hq rfl).2 rfl rfl (Nat.le_of_ble_eq_true rfl) (Or.inl rfl) (cm_Square_copyFrom (d := d - 1) hw (by omega) (hw.rd (k := 11) hq rfl).2 (hw.marked (am_sho (k := 4) (o := 11) hq (by decide) (by decide) (by decide) rfl) (am_in_j g1 rfl)).2 h) (by omega) ?_
    rintro _ _ ⟨I2, L1, rfl, rfl, h⟩
    show am_Wp (d, "UnseenRing", b_U_undo, 1, false) 0 0 40 [some (.ref q)] [] (I2, L1, R, am_SH) (po_U_undo R Q)
    refine am_aload_n (n := 41) d_U_undo_40 rfl rfl ?_
    refine am_aload_n (n := 42) d_U_undo_41 rfl rfl ?_
    refine am_getI (n := 45) f_U_95 d_U_undo_42 rfl rfl hq ?_
    refine am_callV (kc := 0) (ks := 0) (As := [.int (I2 q 14)]) (n := 48) d_U_undo_45 rfl ce_U_answered lk_U_184 in_U_answered rfl rfl hq rfl rfl (Nat.le_of_ble_eq_true rfl) (Or.inl rfl) (cm_U_answered (d := d - 1) hw (by omega) hq h) (by omega) ?_
    rintro _ _ ⟨r1, I3, rfl, rfl, h⟩
    show am_Wp (d, "UnseenRing", b_U_undo, 1, false) 0 0 48 [some (.ref q)] [.int r1] (I3, L1, R, am_SH) (po_U_undo R Q)
    exact am_iret d_U_undo_48 ⟨r1, I3, L1, rfl, rfl, h⟩
  · have h := h.2 c1
    refine am_aload_n (n := 8) d_U_undo_7 rfl rfl ?_
    refine am_bipush (n := 10) d_U_undo_8 cb_6 rfl ?_
    refine am_callV (kc := 0) (ks := 0) (As := [.int 6]) (n := 13) d_U_undo_10 rfl ce_U_refused lk_U_133 in_U_refused rfl rfl hq rfl rfl (Nat.le_of_ble_eq_true rfl) (Or.inl rfl) (cm_U_refused (d := d - 1) hw (by omega) hq h) (by omega) ?_
    rintro _ _ ⟨r2, I4, rfl, rfl, h⟩
    show am_Wp (d, "UnseenRing", b_U_undo, 1, false) 0 0 13 [some (.ref q)] [.int r2] (I4, L, R, am_SH) (po_U_undo R Q)
    exact am_iret d_U_undo_13 ⟨r2, I4, L, rfl, rfl, h⟩
