abbrev po_U_soon (L : am_TL) (R : am_TR) (Q : Int32 → am_TI → Prop) : Option Value → am_St → Prop := fun r σ' => ∃ (x : Int32) (I' : am_TI), r = some (.int x) ∧ σ' = (I', L, R, am_SH) ∧ Q x I'
def wb_U_soon_49 (L : am_TL) (R : am_TR) (q : Nat) (p1 : Int32) (Q : Int32 → am_TI → Prop)  (I : am_TI) (v2 : Int32) : Prop := wp_U_answered I L R q v2 (fun (r3 : Int32) (I1 : am_TI) => Q r3 I1)
set_option maxRecDepth 20000 in
theorem tb_U_soon_49 {d : Nat}  {L : am_TL} {R : am_TR} {q : Nat} {p1 : Int32} {Q : Int32 → am_TI → Prop}  (hw : am_Wf R) (hq : am_SH[q]? = some (.inl 11)) (hd : 3 ≤ d) (I : am_TI) (v2 : Int32) (h : wb_U_soon_49 L R q p1 Q  I v2) : am_Wp (d, "UnseenRing", b_U_soon, 3, false) 0 0 49 [some (.ref q), some (.int p1), some (.int v2)] [] (I, L, R, am_SH) (po_U_soon L R Q) := by
  unfold wb_U_soon_49 at h
  refine am_aload_n (n := 50) d_U_soon_49 rfl rfl ?_
  refine am_iload_n (n := 51) d_U_soon_50 rfl rfl ?_
  refine am_callV (kc := 0) (ks := 0) (As := [.int v2]) (n := 54) d_U_soon_51 rfl ce_U_answered lk_U_184 in_U_answered rfl rfl hq rfl rfl (Nat.le_of_ble_eq_true rfl) (Or.inl rfl) (cm_U_answered (d := d - 1) hw (by omega) hq h) (by omega) ?_
  rintro _ _ ⟨r3, I1, rfl, rfl, h⟩
  show am_Wp (d, "UnseenRing", b_U_soon, 3, false) 0 0 54 [some (.ref q), some (.int p1), some (.int v2)] [.int r3] (I1, L, R, am_SH) (po_U_soon L R Q)
  exact am_iret d_U_soon_54 ⟨r3, I1, rfl, rfl, h⟩
def wp_U_soon (I : am_TI) (L : am_TL) (R : am_TR) (q : Nat) (p1 : Int32)  (Q : Int32 → am_TI → Prop) : Prop := wp_Square_hasHearer I L R (am_rd R q 11) p1 (fun (r1 : Bool) => ((r1 = false → wp_U_refused I L R q 1 (fun (r5 : Int32) (I3 : am_TI) => Q r5 I3)) ∧ (r1 = true → wp_Square_farFromOrgan I L R (am_rd R q 11) p1 (fun (r2 : Int32) => ((r2 ≤ 0 → wb_U_soon_49 L R q p1 Q I r2) ∧ (¬ r2 ≤ 0 → (vp_in p1 6 ∧ (((I ((am_rd R q 11) + 4) (Int32.toNatClampNeg p1)) = 0 → wp_U_refused I L R q 6 (fun (r4 : Int32) (I2 : am_TI) => Q r4 I2)) ∧ (¬ (I ((am_rd R q 11) + 4) (Int32.toNatClampNeg p1)) = 0 → wb_U_soon_49 L R q p1 Q I r2)))))))))
set_option maxRecDepth 20000 in
theorem cm_U_soon {d : Nat} {I : am_TI} {L : am_TL} {R : am_TR}  (hw : am_Wf R)   {q : Nat} {p1 : Int32} {Q : Int32 → am_TI → Prop} (hd : 3 ≤ d) (hq : am_SH[q]? = some (.inl 11)) (h : wp_U_soon I L R q p1  Q) : am_Cm d 0 0 y_U_soon b_U_soon 3 (some .int) [.ref q, .int p1] (I, L, R, am_SH) (po_U_soon L R Q) := by
  refine am_Cm_of (ini := false) (by decide +kernel) (fun z => by cases z) (by simp [Value.category]) (fun r σ' z => by obtain ⟨x, _, rfl, -⟩ := z; exact ⟨_, rfl, rfl⟩) ?_
  unfold wp_U_soon at h
  show am_Wp (d, "UnseenRing", b_U_soon, 3, false) 0 0 0 [some (.ref q), some (.int p1), none] [] (I, L, R, am_SH) (po_U_soon L R Q)
  refine am_aload_n (n := 1) d_U_soon_0 rfl rfl ?_
  refine am_getR (x := (am_rd R q 11)) (n := 4) f_U_81 d_U_soon_1 rfl rfl hq (hw.rd (k := 11) hq rfl).1 ?_
  refine am_iload_n (n := 5) d_U_soon_4 rfl rfl ?_
  refine am_callV (kc := 0) (ks := 0) (As := [.int p1]) (n := 8) d_U_soon_5 rfl ce_Square_hasHearer lk_U_205 in_Square_hasHearer rfl rfl (hw.rd (k := 11) hq rfl).2 rfl rfl (Nat.le_of_ble_eq_true rfl) (Or.inl rfl) (cm_Square_hasHearer (d := d - 1) hw (by omega) (hw.rd (k := 11) hq rfl).2 h) (by omega) ?_
  rintro _ _ ⟨r1, rfl, rfl, h⟩
  show am_Wp (d, "UnseenRing", b_U_soon, 3, false) 0 0 8 [some (.ref q), some (.int p1), none] [.int (am_b r1)] (I, L, R, am_SH) (po_U_soon L R Q)
  refine am_if_ne (y := 0) (tgt := 17) (n := 11) d_U_soon_8 rfl rfl (fun c1 => ?_) (fun c1 => ?_)
  · have h := h.2 (am_b_n0 c1)
    refine am_aload_n (n := 18) d_U_soon_17 rfl rfl ?_
    refine am_getR (x := (am_rd R q 11)) (n := 21) f_U_81 d_U_soon_18 rfl rfl hq (hw.rd (k := 11) hq rfl).1 ?_
    refine am_iload_n (n := 22) d_U_soon_21 rfl rfl ?_
    refine am_callV (kc := 0) (ks := 0) (As := [.int p1]) (n := 25) d_U_soon_22 rfl ce_Square_farFromOrgan lk_U_291 in_Square_farFromOrgan rfl rfl (hw.rd (k := 11) hq rfl).2 rfl rfl (Nat.le_of_ble_eq_true rfl) (Or.inl rfl) (cm_Square_farFromOrgan (d := d - 1) hw (by omega) (hw.rd (k := 11) hq rfl).2 h) (by omega) ?_
    rintro _ _ ⟨r2, rfl, rfl, h⟩
    show am_Wp (d, "UnseenRing", b_U_soon, 3, false) 0 0 25 [some (.ref q), some (.int p1), none] [.int r2] (I, L, R, am_SH) (po_U_soon L R Q)
    refine am_istore_n (ls' := [some (.ref q), some (.int p1), some (.int r2)]) (n := 26) d_U_soon_25 (by decide) rfl rfl ?_
    refine am_iload_n (n := 27) d_U_soon_26 rfl rfl ?_
    refine am_if_le (y := 0) (tgt := 49) (n := 30) d_U_soon_27 rfl rfl (fun c2 => ?_) (fun c2 => ?_)
    · have h := h.1 c2
      exact tb_U_soon_49 hw hq hd I r2 h
    · have h := h.2 c2
      refine am_aload_n (n := 31) d_U_soon_30 rfl rfl ?_
      refine am_getR (x := (am_rd R q 11)) (n := 34) f_U_81 d_U_soon_31 rfl rfl hq (hw.rd (k := 11) hq rfl).1 ?_
      refine am_getR (x := ((am_rd R q 11) + 4)) (n := 37) f_U_268 d_U_soon_34 rfl rfl (hw.rd (k := 11) hq rfl).2 (hw.1 (am_rd R q 11) 7 3 4 (hw.rd (k := 11) hq rfl).2 rfl) ?_
      refine am_iload_n (n := 38) d_U_soon_37 rfl rfl ?_
      obtain ⟨g1, h⟩ := h
      refine am_iald2 (n := 39) d_U_soon_38 rfl (am_sho (k := 3) (o := 4) (hw.rd (k := 11) hq rfl).2 (by decide) (by decide) (by decide) rfl) g1 rfl ?_
      refine am_if_ne (y := 0) (tgt := 49) (n := 42) d_U_soon_39 rfl rfl (fun c3 => ?_) (fun c3 => ?_)
      · have h := h.2 c3
        exact tb_U_soon_49 hw hq hd I r2 h
      · have h := h.1 c3
        refine am_aload_n (n := 43) d_U_soon_42 rfl rfl ?_
        refine am_bipush (n := 45) d_U_soon_43 cb_6 rfl ?_
        refine am_callV (kc := 0) (ks := 0) (As := [.int 6]) (n := 48) d_U_soon_45 rfl ce_U_refused lk_U_133 in_U_refused rfl rfl hq rfl rfl (Nat.le_of_ble_eq_true rfl) (Or.inl rfl) (cm_U_refused (d := d - 1) hw (by omega) hq h) (by omega) ?_
        rintro _ _ ⟨r4, I2, rfl, rfl, h⟩
        show am_Wp (d, "UnseenRing", b_U_soon, 3, false) 0 0 48 [some (.ref q), some (.int p1), some (.int r2)] [.int r4] (I2, L, R, am_SH) (po_U_soon L R Q)
        exact am_iret d_U_soon_48 ⟨r4, I2, rfl, rfl, h⟩
  · have h := h.1 (am_b_0 c1)
    refine am_aload_n (n := 12) d_U_soon_11 rfl rfl ?_
    refine am_iconst (n := 13) d_U_soon_12 ci_1 rfl ?_
    refine am_callV (kc := 0) (ks := 0) (As := [.int 1]) (n := 16) d_U_soon_13 rfl ce_U_refused lk_U_133 in_U_refused rfl rfl hq rfl rfl (Nat.le_of_ble_eq_true rfl) (Or.inl rfl) (cm_U_refused (d := d - 1) hw (by omega) hq h) (by omega) ?_
    rintro _ _ ⟨r5, I3, rfl, rfl, h⟩
    show am_Wp (d, "UnseenRing", b_U_soon, 3, false) 0 0 16 [some (.ref q), some (.int p1), none] [.int r5] (I3, L, R, am_SH) (po_U_soon L R Q)
    exact am_iret d_U_soon_16 ⟨r5, I3, rfl, rfl, h⟩
abbrev po_Rows_index (I : am_TI) (L : am_TL) (R : am_TR) (Q : Int32 → Prop) : Option Value → am_St → Prop := fun r σ' => ∃ (x : Int32), r = some (.int x) ∧ σ' = (I, L, R, am_SH) ∧ Q x
def wp_Rows_index (I : am_TI) (L : am_TL) (R : am_TR) (p0 : Int32) (p1 : Int32) (p2 : Int32)  (Q : Int32 → Prop) : Prop := Q ((((p0 * 9) + p1) * 9) + p2)
set_option maxRecDepth 20000 in
theorem cm_Rows_index {d : Nat} {I : am_TI} {L : am_TL} {R : am_TR}  (hw : am_Wf R)   {p0 : Int32} {p1 : Int32} {p2 : Int32} {Q : Int32 → Prop} (hd : 0 ≤ d)  (h : wp_Rows_index I L R p0 p1 p2  Q) : am_Cm d 0 0 y_Rows_index b_Rows_index 3 (some .int) [.int p0, .int p1, .int p2] (I, L, R, am_SH) (po_Rows_index I L R Q) := by
  refine am_Cm_of (ini := false) (by decide +kernel) (fun z => by cases z) (by simp [Value.category]) (fun r σ' z => by obtain ⟨x, rfl, -⟩ := z; exact ⟨_, rfl, rfl⟩) ?_
  unfold wp_Rows_index at h
  show am_Wp (d, "UnseenRing$Rows", b_Rows_index, 3, false) 0 0 0 [some (.int p0), some (.int p1), some (.int p2)] [] (I, L, R, am_SH) (po_Rows_index I L R Q)
  refine am_iload_n (n := 1) d_Rows_index_0 rfl rfl ?_
  refine am_bipush (n := 3) d_Rows_index_1 cb_9 rfl ?_
  refine am_imul (n := 4) d_Rows_index_3 rfl ?_
  refine am_iload_n (n := 5) d_Rows_index_4 rfl rfl ?_
  refine am_iadd (n := 6) d_Rows_index_5 rfl ?_
  refine am_bipush (n := 8) d_Rows_index_6 cb_9 rfl ?_
  refine am_imul (n := 9) d_Rows_index_8 rfl ?_
  refine am_iload_n (n := 10) d_Rows_index_9 rfl rfl ?_
  refine am_iadd (n := 11) d_Rows_index_10 rfl ?_
  exact am_iret d_Rows_index_11 ⟨((((p0 * 9) + p1) * 9) + p2), rfl, rfl, h⟩
abbrev po_Rows_left (I : am_TI) (L : am_TL) (R : am_TR) (Q : Int32 → Prop) : Option Value → am_St → Prop := fun r σ' => ∃ (x : Int32), r = some (.int x) ∧ σ' = (I, L, R, am_SH) ∧ Q x
def wp_Rows_left (I : am_TI) (L : am_TL) (R : am_TR) (q : Nat) (p1 : Int32) (p2 : Int32) (p3 : Int32)  (Q : Int32 → Prop) : Prop := ((p2 ≤ 0 → Q p2) ∧ (¬ p2 ≤ 0 → ((p3 < 0 → Q p2) ∧ (¬ p3 < 0 → (vp_in p1 6 ∧ (((((I (q + 3) (Int32.toNatClampNeg p1)) >>> (p3 &&& 31)) &&& 1) = 1 → Q (p2 - 1)) ∧ (¬ (((I (q + 3) (Int32.toNatClampNeg p1)) >>> (p3 &&& 31)) &&& 1) = 1 → Q p2)))))))
set_option maxRecDepth 20000 in
theorem cm_Rows_left {d : Nat} {I : am_TI} {L : am_TL} {R : am_TR}  (hw : am_Wf R)   {q : Nat} {p1 : Int32} {p2 : Int32} {p3 : Int32} {Q : Int32 → Prop} (hd : 0 ≤ d) (hq : am_SH[q]? = some (.inl 6)) (h : wp_Rows_left I L R q p1 p2 p3  Q) : am_Cm d 0 0 y_Rows_left b_Rows_left 4 (some .int) [.ref q, .int p1, .int p2, .int p3] (I, L, R, am_SH) (po_Rows_left I L R Q) := by
  refine am_Cm_of (ini := false) (by decide +kernel) (fun z => by cases z) (by simp [Value.category]) (fun r σ' z => by obtain ⟨x, rfl, -⟩ := z; exact ⟨_, rfl, rfl⟩) ?_
  unfold wp_Rows_left at h
  show am_Wp (d, "UnseenRing$Rows", b_Rows_left, 4, false) 0 0 0 [some (.ref q), some (.int p1), some (.int p2), some (.int p3)] [] (I, L, R, am_SH) (po_Rows_left I L R Q)
  refine am_iload_n (n := 1) d_Rows_left_0 rfl rfl ?_
  refine am_if_le (y := 0) (tgt := 28) (n := 4) d_Rows_left_1 rfl rfl (fun c1 => ?_) (fun c1 => ?_)
  · have h := h.1 c1
    refine am_iload_n (n := 29) d_Rows_left_28 rfl rfl ?_
    exact am_iret d_Rows_left_29 ⟨p2, rfl, rfl, h⟩
  · have h := h.2 c1
    refine am_iload_n (n := 5) d_Rows_left_4 rfl rfl ?_
    refine am_if_lt (y := 0) (tgt := 28) (n := 8) d_Rows_left_5 rfl rfl (fun c2 => ?_) (fun c2 => ?_)
    · have h := h.1 c2
      refine am_iload_n (n := 29) d_Rows_left_28 rfl rfl ?_
      exact am_iret d_Rows_left_29 ⟨p2, rfl, rfl, h⟩
    · have h := h.2 c2
      refine am_aload_n (n := 9) d_Rows_left_8 rfl rfl ?_
      refine am_getR (x := (q + 3)) (n := 12) f_Rows_18 d_Rows_left_9 rfl rfl hq (hw.1 q 6 2 3 hq rfl) ?_
      refine am_iload_n (n := 13) d_Rows_left_12 rfl rfl ?_
      obtain ⟨g1, h⟩ := h
      refine am_iald2 (n := 14) d_Rows_left_13 rfl (am_sho (k := 2) (o := 3) hq (by decide) (by decide) (by decide) rfl) g1 rfl ?_
      refine am_iload_n (n := 15) d_Rows_left_14 rfl rfl ?_
      refine am_ishr (n := 16) d_Rows_left_15 rfl ?_
      refine am_iconst (n := 17) d_Rows_left_16 ci_1 rfl ?_
      refine am_iand (n := 18) d_Rows_left_17 rfl ?_
      refine am_iconst (n := 19) d_Rows_left_18 ci_1 rfl ?_
      refine am_icmp_ne (tgt := 28) (n := 22) d_Rows_left_19 rfl rfl (fun c3 => ?_) (fun c3 => ?_)
      · have h := h.2 c3
        refine am_iload_n (n := 29) d_Rows_left_28 rfl rfl ?_
        exact am_iret d_Rows_left_29 ⟨p2, rfl, rfl, h⟩
      · have h := h.1 c3
        refine am_iload_n (n := 23) d_Rows_left_22 rfl rfl ?_
        refine am_iconst (n := 24) d_Rows_left_23 ci_1 rfl ?_
        refine am_isub (n := 25) d_Rows_left_24 rfl ?_
        refine am_goto (tgt := 29) d_Rows_left_25 rfl ?_
        exact am_iret d_Rows_left_29 ⟨(p2 - 1), rfl, rfl, h⟩
abbrev po_Rows_fewestFrom (I : am_TI) (L : am_TL) (R : am_TR) (Q : Int32 → Prop) : Option Value → am_St → Prop := fun r σ' => ∃ (x : Int32), r = some (.int x) ∧ σ' = (I, L, R, am_SH) ∧ Q x
def wl_Rows_fewestFrom_25 (I : am_TI) (L : am_TL) (R : am_TR) (q : Nat) (p1 : Int32) (p2 : Int32) (p3 : Int32) (Q : Int32 → Prop)  : Nat → Int32 → Int32 → Int32 → Prop
  | 0 => fun _ _ _ => False
  | f25 + 1 => fun v4 v5 v6 => (((I q 5) ≤ v6 → Q v5) ∧ (¬ (I q 5) ≤ v6 → wp_Rows_left I L R q 0 p1 v6 (fun (r2 : Int32) => wp_Rows_left I L R q 1 p2 v6 (fun (r3 : Int32) => wp_Rows_left I L R q 2 p3 v6 (fun (r4 : Int32) => wp_Rows_index I L R r2 r3 r4 (fun (r5 : Int32) => ((r5 = v4 → wl_Rows_fewestFrom_25 I L R q p1 p2 p3 Q f25 v4 v5 (v6 + 1)) ∧ (¬ r5 = v4 → (vp_in r5 729 ∧ wl_Rows_fewestFrom_25 I L R q p1 p2 p3 Q f25 v4 (am_min v5 ((I (q + 1) (Int32.toNatClampNeg r5)) + 1)) (v6 + 1))))))))))
set_option maxRecDepth 20000 in
theorem tl_Rows_fewestFrom_25 {d : Nat}  {I : am_TI} {L : am_TL} {R : am_TR} {q : Nat} {p1 : Int32} {p2 : Int32} {p3 : Int32} {Q : Int32 → Prop}  (hw : am_Wf R) (hq : am_SH[q]? = some (.inl 6)) (hd : 1 ≤ d) : ∀ (n : Nat) (v4 : Int32) (v5 : Int32) (v6 : Int32), wl_Rows_fewestFrom_25 I L R q p1 p2 p3 Q  n v4 v5 v6 → am_Wp (d, "UnseenRing$Rows", b_Rows_fewestFrom, 8, false) 0 0 25 [some (.ref q), some (.int p1), some (.int p2), some (.int p3), some (.int v4), some (.int v5), some (.int v6), none] [] (I, L, R, am_SH) (po_Rows_fewestFrom I L R Q) := by
  intro n
  induction n with
  | zero => intro v4 v5 v6 h; exact h.elim
  | succ n ih =>
    intro v4 v5 v6 h
    unfold wl_Rows_fewestFrom_25 at h
    refine am_iload (n := 27) d_Rows_fewestFrom_25 rfl rfl ?_
    refine am_aload_n (n := 28) d_Rows_fewestFrom_27 rfl rfl ?_
    refine am_getI (n := 31) f_Rows_28 d_Rows_fewestFrom_28 rfl rfl hq ?_
    refine am_icmp_ge (tgt := 92) (n := 34) d_Rows_fewestFrom_31 rfl rfl (fun c2 => ?_) (fun c2 => ?_)
    · have h := h.1 c2
      refine am_iload (n := 94) d_Rows_fewestFrom_92 rfl rfl ?_
      exact am_iret d_Rows_fewestFrom_94 ⟨v5, rfl, rfl, h⟩
    · have h := h.2 c2
      refine am_aload_n (n := 35) d_Rows_fewestFrom_34 rfl rfl ?_
      refine am_iconst (n := 36) d_Rows_fewestFrom_35 ci_0 rfl ?_
      refine am_iload_n (n := 37) d_Rows_fewestFrom_36 rfl rfl ?_
      refine am_iload (n := 39) d_Rows_fewestFrom_37 rfl rfl ?_
      refine am_callV (kc := 0) (ks := 0) (As := [.int 0, .int p1, .int v6]) (n := 42) d_Rows_fewestFrom_39 rfl ce_Rows_left lk_Rows_56 in_Rows_left rfl rfl hq rfl rfl (Nat.le_of_ble_eq_true rfl) (Or.inl rfl) (cm_Rows_left (d := d - 1) hw (by omega) hq h) (by omega) ?_
      rintro _ _ ⟨r2, rfl, rfl, h⟩
      show am_Wp (d, "UnseenRing$Rows", b_Rows_fewestFrom, 8, false) 0 0 42 [some (.ref q), some (.int p1), some (.int p2), some (.int p3), some (.int v4), some (.int v5), some (.int v6), none] [.int r2] (I, L, R, am_SH) (po_Rows_fewestFrom I L R Q)
      refine am_aload_n (n := 43) d_Rows_fewestFrom_42 rfl rfl ?_
      refine am_iconst (n := 44) d_Rows_fewestFrom_43 ci_1 rfl ?_
      refine am_iload_n (n := 45) d_Rows_fewestFrom_44 rfl rfl ?_
      refine am_iload (n := 47) d_Rows_fewestFrom_45 rfl rfl ?_
      refine am_callV (kc := 0) (ks := 0) (As := [.int 1, .int p2, .int v6]) (n := 50) d_Rows_fewestFrom_47 rfl ce_Rows_left lk_Rows_56 in_Rows_left rfl rfl hq rfl rfl (Nat.le_of_ble_eq_true rfl) (Or.inl rfl) (cm_Rows_left (d := d - 1) hw (by omega) hq h) (by omega) ?_
      rintro _ _ ⟨r3, rfl, rfl, h⟩
      show am_Wp (d, "UnseenRing$Rows", b_Rows_fewestFrom, 8, false) 0 0 50 [some (.ref q), some (.int p1), some (.int p2), some (.int p3), some (.int v4), some (.int v5), some (.int v6), none] [.int r3, .int r2] (I, L, R, am_SH) (po_Rows_fewestFrom I L R Q)
      refine am_aload_n (n := 51) d_Rows_fewestFrom_50 rfl rfl ?_
      refine am_iconst (n := 52) d_Rows_fewestFrom_51 ci_2 rfl ?_
      refine am_iload_n (n := 53) d_Rows_fewestFrom_52 rfl rfl ?_
      refine am_iload (n := 55) d_Rows_fewestFrom_53 rfl rfl ?_
      refine am_callV (kc := 0) (ks := 0) (As := [.int 2, .int p3, .int v6]) (n := 58) d_Rows_fewestFrom_55 rfl ce_Rows_left lk_Rows_56 in_Rows_left rfl rfl hq rfl rfl (Nat.le_of_ble_eq_true rfl) (Or.inl rfl) (cm_Rows_left (d := d - 1) hw (by omega) hq h) (by omega) ?_
      rintro _ _ ⟨r4, rfl, rfl, h⟩
      show am_Wp (d, "UnseenRing$Rows", b_Rows_fewestFrom, 8, false) 0 0 58 [some (.ref q), some (.int p1), some (.int p2), some (.int p3), some (.int v4), some (.int v5), some (.int v6), none] [.int r4, .int r3, .int r2] (I, L, R, am_SH) (po_Rows_fewestFrom I L R Q)
      refine am_callS (kc := 0) (ks := 0) (As := [.int r2, .int r3, .int r4]) (n := 61) d_Rows_fewestFrom_58 rfl ce_Rows_index lk_Rows_49 st_Rows_index rfl rfl (Nat.le_of_ble_eq_true rfl) (Or.inl rfl) (cm_Rows_index (d := d - 1) hw (by omega)  h) (by omega) ?_
      rintro _ _ ⟨r5, rfl, rfl, h⟩
      show am_Wp (d, "UnseenRing$Rows", b_Rows_fewestFrom, 8, false) 0 0 61 [some (.ref q), some (.int p1), some (.int p2), some (.int p3), some (.int v4), some (.int v5), some (.int v6), none] [.int r5] (I, L, R, am_SH) (po_Rows_fewestFrom I L R Q)
      refine am_istore (ls' := [some (.ref q), some (.int p1), some (.int p2), some (.int p3), some (.int v4), some (.int v5), some (.int v6), some (.int r5)]) (n := 63) d_Rows_fewestFrom_61 (by decide) rfl rfl ?_
      refine am_iload (n := 65) d_Rows_fewestFrom_63 rfl rfl ?_
      refine am_iload (n := 67) d_Rows_fewestFrom_65 rfl rfl ?_
      refine am_icmp_eq (tgt := 86) (n := 70) d_Rows_fewestFrom_67 rfl rfl (fun c3 => ?_) (fun c3 => ?_)
      · have h := h.1 c3
        refine am_iinc (v := v6 + 1) (ls' := [some (.ref q), some (.int p1), some (.int p2), some (.int p3), some (.int v4), some (.int v5), some (.int (v6 + 1)), some (.int r5)]) (n := 89) d_Rows_fewestFrom_86 rfl (congrArg _ ci_1) (by decide) rfl rfl ?_
        refine am_goto (tgt := 25) d_Rows_fewestFrom_89 rfl ?_
        refine am_forget (ls' := [some (.ref q), some (.int p1), some (.int p2), some (.int p3), some (.int v4), some (.int v5), some (.int (v6 + 1)), none]) (am_le_s (am_le_s (am_le_s (am_le_s (am_le_s (am_le_s (am_le_s (am_le_n am_le_e)))))))) ?_
        exact ih v4 v5 (v6 + 1)  h
      · have h := h.2 c3
        refine am_iload (n := 72) d_Rows_fewestFrom_70 rfl rfl ?_
        refine am_aload_n (n := 73) d_Rows_fewestFrom_72 rfl rfl ?_
        refine am_getR (x := (q + 1)) (n := 76) f_Rows_11 d_Rows_fewestFrom_73 rfl rfl hq (hw.1 q 6 0 1 hq rfl) ?_
        refine am_iload (n := 78) d_Rows_fewestFrom_76 rfl rfl ?_
        obtain ⟨g1, h⟩ := h
        refine am_iald2 (n := 79) d_Rows_fewestFrom_78 rfl (am_sho (k := 0) (o := 1) hq (by decide) (by decide) (by decide) rfl) g1 rfl ?_
        refine am_iconst (n := 80) d_Rows_fewestFrom_79 ci_1 rfl ?_
        refine am_iadd (n := 81) d_Rows_fewestFrom_80 rfl ?_
        refine am_mmin2 (n := 84) d_Rows_fewestFrom_81 rfl lm_Rows_59 (Nat.le_of_ble_eq_true rfl) (by omega) ?_
        refine am_istore (ls' := [some (.ref q), some (.int p1), some (.int p2), some (.int p3), some (.int v4), some (.int (am_min v5 ((I (q + 1) (Int32.toNatClampNeg r5)) + 1))), some (.int v6), some (.int r5)]) (n := 86) d_Rows_fewestFrom_84 (by decide) rfl rfl ?_
        refine am_iinc (v := v6 + 1) (ls' := [some (.ref q), some (.int p1), some (.int p2), some (.int p3), some (.int v4), some (.int (am_min v5 ((I (q + 1) (Int32.toNatClampNeg r5)) + 1))), some (.int (v6 + 1)), some (.int r5)]) (n := 89) d_Rows_fewestFrom_86 rfl (congrArg _ ci_1) (by decide) rfl rfl ?_
        refine am_goto (tgt := 25) d_Rows_fewestFrom_89 rfl ?_
        refine am_forget (ls' := [some (.ref q), some (.int p1), some (.int p2), some (.int p3), some (.int v4), some (.int (am_min v5 ((I (q + 1) (Int32.toNatClampNeg r5)) + 1))), some (.int (v6 + 1)), none]) (am_le_s (am_le_s (am_le_s (am_le_s (am_le_s (am_le_s (am_le_s (am_le_n am_le_e)))))))) ?_
        exact ih v4 (am_min v5 ((I (q + 1) (Int32.toNatClampNeg r5)) + 1)) (v6 + 1)  h
def wb_Rows_fewestFrom_20 (I : am_TI) (L : am_TL) (R : am_TR) (q : Nat) (p1 : Int32) (p2 : Int32) (p3 : Int32) (Q : Int32 → Prop)  (v4 : Int32) (s0 : Int32) : Prop := (∃ z, wl_Rows_fewestFrom_25 I L R q p1 p2 p3 Q z v4 s0 0)
set_option maxRecDepth 20000 in
theorem tb_Rows_fewestFrom_20 {d : Nat}  {I : am_TI} {L : am_TL} {R : am_TR} {q : Nat} {p1 : Int32} {p2 : Int32} {p3 : Int32} {Q : Int32 → Prop}  (hw : am_Wf R) (hq : am_SH[q]? = some (.inl 6)) (hd : 1 ≤ d) (v4 : Int32) (s0 : Int32) (h : wb_Rows_fewestFrom_20 I L R q p1 p2 p3 Q  v4 s0) : am_Wp (d, "UnseenRing$Rows", b_Rows_fewestFrom, 8, false) 0 0 20 [some (.ref q), some (.int p1), some (.int p2), some (.int p3), some (.int v4), none, none, none] [.int s0] (I, L, R, am_SH) (po_Rows_fewestFrom I L R Q) := by
  unfold wb_Rows_fewestFrom_20 at h
  refine am_istore (ls' := [some (.ref q), some (.int p1), some (.int p2), some (.int p3), some (.int v4), some (.int s0), none, none]) (n := 22) d_Rows_fewestFrom_20 (by decide) rfl rfl ?_
  refine am_iconst (n := 23) d_Rows_fewestFrom_22 ci_0 rfl ?_
  refine am_istore (ls' := [some (.ref q), some (.int p1), some (.int p2), some (.int p3), some (.int v4), some (.int s0), some (.int 0), none]) (n := 25) d_Rows_fewestFrom_23 (by decide) rfl rfl ?_
  obtain ⟨n, h⟩ := h
  exact tl_Rows_fewestFrom_25 hw hq hd n v4 s0 0 h
def wp_Rows_fewestFrom (I : am_TI) (L : am_TL) (R : am_TR) (q : Nat) (p1 : Int32) (p2 : Int32) (p3 : Int32)  (Q : Int32 → Prop) : Prop := wp_Rows_index I L R p1 p2 p3 (fun (r1 : Int32) => ((r1 = 0 → wb_Rows_fewestFrom_20 I L R q p1 p2 p3 Q r1 0) ∧ (¬ r1 = 0 → wb_Rows_fewestFrom_20 I L R q p1 p2 p3 Q r1 1000)))
set_option maxRecDepth 20000 in
theorem cm_Rows_fewestFrom {d : Nat} {I : am_TI} {L : am_TL} {R : am_TR}  (hw : am_Wf R)   {q : Nat} {p1 : Int32} {p2 : Int32} {p3 : Int32} {Q : Int32 → Prop} (hd : 1 ≤ d) (hq : am_SH[q]? = some (.inl 6)) (h : wp_Rows_fewestFrom I L R q p1 p2 p3  Q) : am_Cm d 0 0 y_Rows_fewestFrom b_Rows_fewestFrom 8 (some .int) [.ref q, .int p1, .int p2, .int p3] (I, L, R, am_SH) (po_Rows_fewestFrom I L R Q) := by
  refine am_Cm_of (ini := false) (by decide +kernel) (fun z => by cases z) (by simp [Value.category]) (fun r σ' z => by obtain ⟨x, rfl, -⟩ := z; exact ⟨_, rfl, rfl⟩) ?_
  unfold wp_Rows_fewestFrom at h
  show am_Wp (d, "UnseenRing$Rows", b_Rows_fewestFrom, 8, false) 0 0 0 [some (.ref q), some (.int p1), some (.int p2), some (.int p3), none, none, none, none] [] (I, L, R, am_SH) (po_Rows_fewestFrom I L R Q)
  refine am_iload_n (n := 1) d_Rows_fewestFrom_0 rfl rfl ?_
  refine am_iload_n (n := 2) d_Rows_fewestFrom_1 rfl rfl ?_
  refine am_iload_n (n := 3) d_Rows_fewestFrom_2 rfl rfl ?_
  refine am_callS (kc := 0) (ks := 0) (As := [.int p1, .int p2, .int p3]) (n := 6) d_Rows_fewestFrom_3 rfl ce_Rows_index lk_Rows_49 st_Rows_index rfl rfl (Nat.le_of_ble_eq_true rfl) (Or.inl rfl) (cm_Rows_index (d := d - 1) hw (by omega)  h) (by omega) ?_
  rintro _ _ ⟨r1, rfl, rfl, h⟩
  show am_Wp (d, "UnseenRing$Rows", b_Rows_fewestFrom, 8, false) 0 0 6 [some (.ref q), some (.int p1), some (.int p2), some (.int p3), none, none, none, none] [.int r1] (I, L, R, am_SH) (po_Rows_fewestFrom I L R Q)
  refine am_istore (ls' := [some (.ref q), some (.int p1), some (.int p2), some (.int p3), some (.int r1), none, none, none]) (n := 8) d_Rows_fewestFrom_6 (by decide) rfl rfl ?_
  refine am_iload (n := 10) d_Rows_fewestFrom_8 rfl rfl ?_
  refine am_if_ne (y := 0) (tgt := 17) (n := 13) d_Rows_fewestFrom_10 rfl rfl (fun c1 => ?_) (fun c1 => ?_)
  · have h := h.2 c1
    refine am_sipush (n := 20) d_Rows_fewestFrom_17 cs_1000 rfl ?_
    exact tb_Rows_fewestFrom_20 hw hq hd r1 1000 h
  · have h := h.1 c1
    refine am_iconst (n := 14) d_Rows_fewestFrom_13 ci_0 rfl ?_
    refine am_goto (tgt := 20) d_Rows_fewestFrom_14 rfl ?_
    exact tb_Rows_fewestFrom_20 hw hq hd r1 0 h
abbrev po_Rows_fewestTunes (L : am_TL) (R : am_TR) (Q : Int32 → am_TI → Prop) : Option Value → am_St → Prop := fun r σ' => ∃ (x : Int32) (I' : am_TI), r = some (.int x) ∧ σ' = (I', L, R, am_SH) ∧ Q x I'
def wl_Rows_fewestTunes_118 (L : am_TL) (R : am_TR) (q : Nat) (p1 : Nat) (p2 : Int32) (Q : Int32 → am_TI → Prop) (K90 : am_TI → Int32 → Prop) (K104 : am_TI → Int32 → Int32 → Prop) : Nat → am_TI → Int32 → Int32 → Int32 → Prop
  | 0 => fun _ _ _ _ => False
  | f118 + 1 => fun I v4 v5 v6 => (((I (q + 2) 2) < v6 → K104 I v4 (v5 + 1)) ∧ (¬ (I (q + 2) 2) < v6 → wp_Rows_index I L R v4 v5 v6 (fun (r2 : Int32) => wp_Rows_fewestFrom I L R q v4 v5 v6 (fun (r3 : Int32) => (vp_in r2 729 ∧ (∀ I4, I4 = am_u2 I (q + 1) (Int32.toNatClampNeg r2) r3 → wl_Rows_fewestTunes_118 L R q p1 p2 Q K90 K104 f118 I4 v4 v5 (v6 + 1)))))))
set_option maxRecDepth 20000 in
theorem tl_Rows_fewestTunes_118 {d : Nat}  {L : am_TL} {R : am_TR} {q : Nat} {p1 : Nat} {p2 : Int32} {Q : Int32 → am_TI → Prop} {K90 : am_TI → Int32 → Prop} {K104 : am_TI → Int32 → Int32 → Prop} (hw : am_Wf R) (hq : am_SH[q]? = some (.inl 6)) (hp1 : am_SH[p1]? = some (.inl 7)) (hK90 : ∀ (I : am_TI) (v4 : Int32), K90 I v4 → am_Wp (d, "UnseenRing$Rows", b_Rows_fewestTunes, 7, false) 0 0 90 [some (.ref q), some (.ref p1), some (.int p2), none, some (.int v4), none, none] [] (I, L, R, am_SH) (po_Rows_fewestTunes L R Q)) (hK104 : ∀ (I : am_TI) (v4 : Int32) (v5 : Int32), K104 I v4 v5 → am_Wp (d, "UnseenRing$Rows", b_Rows_fewestTunes, 7, false) 0 0 104 [some (.ref q), some (.ref p1), some (.int p2), none, some (.int v4), some (.int v5), none] [] (I, L, R, am_SH) (po_Rows_fewestTunes L R Q)) (hd : 3 ≤ d) : ∀ (n : Nat) (I : am_TI) (v4 : Int32) (v5 : Int32) (v6 : Int32), wl_Rows_fewestTunes_118 L R q p1 p2 Q K90 K104 n I v4 v5 v6 → am_Wp (d, "UnseenRing$Rows", b_Rows_fewestTunes, 7, false) 0 0 118 [some (.ref q), some (.ref p1), some (.int p2), none, some (.int v4), some (.int v5), some (.int v6)] [] (I, L, R, am_SH) (po_Rows_fewestTunes L R Q) := by
  intro n
  induction n with
  | zero => intro I v4 v5 v6 h; exact h.elim
  | succ n ih =>
    intro I v4 v5 v6 h
    unfold wl_Rows_fewestTunes_118 at h
    refine am_iload (n := 120) d_Rows_fewestTunes_118 rfl rfl ?_
    refine am_aload_n (n := 121) d_Rows_fewestTunes_120 rfl rfl ?_
    refine am_getR (x := (q + 2)) (n := 124) f_Rows_15 d_Rows_fewestTunes_121 rfl rfl hq (hw.1 q 6 1 2 hq rfl) ?_
    refine am_iconst (n := 125) d_Rows_fewestTunes_124 ci_2 rfl ?_
    refine am_iald2 (n := 126) d_Rows_fewestTunes_125 rfl (am_sho (k := 1) (o := 2) hq (by decide) (by decide) (by decide) rfl) cx_2_6 cn_2 ?_
    refine am_icmp_gt (tgt := 159) (n := 129) d_Rows_fewestTunes_126 rfl rfl (fun c5 => ?_) (fun c5 => ?_)
    · have h := h.1 c5
      refine am_iinc (v := v5 + 1) (ls' := [some (.ref q), some (.ref p1), some (.int p2), none, some (.int v4), some (.int (v5 + 1)), some (.int v6)]) (n := 162) d_Rows_fewestTunes_159 rfl (congrArg _ ci_1) (by decide) rfl rfl ?_
      refine am_goto (tgt := 104) d_Rows_fewestTunes_162 rfl ?_
      refine am_forget (ls' := [some (.ref q), some (.ref p1), some (.int p2), none, some (.int v4), some (.int (v5 + 1)), none]) (am_le_s (am_le_s (am_le_s (am_le_n (am_le_s (am_le_s (am_le_n am_le_e))))))) ?_
      exact hK104 I v4 (v5 + 1)  h
    · have h := h.2 c5
      refine am_aload_n (n := 130) d_Rows_fewestTunes_129 rfl rfl ?_
      refine am_getR (x := (q + 1)) (n := 133) f_Rows_11 d_Rows_fewestTunes_130 rfl rfl hq (hw.1 q 6 0 1 hq rfl) ?_
      refine am_iload (n := 135) d_Rows_fewestTunes_133 rfl rfl ?_
      refine am_iload (n := 137) d_Rows_fewestTunes_135 rfl rfl ?_
      refine am_iload (n := 139) d_Rows_fewestTunes_137 rfl rfl ?_
      refine am_callS (kc := 0) (ks := 0) (As := [.int v4, .int v5, .int v6]) (n := 142) d_Rows_fewestTunes_139 rfl ce_Rows_index lk_Rows_49 st_Rows_index rfl rfl (Nat.le_of_ble_eq_true rfl) (Or.inl rfl) (cm_Rows_index (d := d - 1) hw (by omega)  h) (by omega) ?_
      rintro _ _ ⟨r2, rfl, rfl, h⟩
      show am_Wp (d, "UnseenRing$Rows", b_Rows_fewestTunes, 7, false) 0 0 142 [some (.ref q), some (.ref p1), some (.int p2), none, some (.int v4), some (.int v5), some (.int v6)] [.int r2, .ref (q + 1)] (I, L, R, am_SH) (po_Rows_fewestTunes L R Q)
      refine am_aload_n (n := 143) d_Rows_fewestTunes_142 rfl rfl ?_
      refine am_iload (n := 145) d_Rows_fewestTunes_143 rfl rfl ?_
      refine am_iload (n := 147) d_Rows_fewestTunes_145 rfl rfl ?_
      refine am_iload (n := 149) d_Rows_fewestTunes_147 rfl rfl ?_
      refine am_callV (kc := 0) (ks := 0) (As := [.int v4, .int v5, .int v6]) (n := 152) d_Rows_fewestTunes_149 rfl ce_Rows_fewestFrom lk_Rows_53 in_Rows_fewestFrom rfl rfl hq rfl rfl (Nat.le_of_ble_eq_true rfl) (Or.inl rfl) (cm_Rows_fewestFrom (d := d - 1) hw (by omega) hq h) (by omega) ?_
      rintro _ _ ⟨r3, rfl, rfl, h⟩
      show am_Wp (d, "UnseenRing$Rows", b_Rows_fewestTunes, 7, false) 0 0 152 [some (.ref q), some (.ref p1), some (.int p2), none, some (.int v4), some (.int v5), some (.int v6)] [.int r3, .int r2, .ref (q + 1)] (I, L, R, am_SH) (po_Rows_fewestTunes L R Q)
      obtain ⟨g2, h⟩ := h
      refine am_iast2 (n := 153) d_Rows_fewestTunes_152 rfl (am_sho (k := 0) (o := 1) hq (by decide) (by decide) (by decide) rfl) g2 rfl ?_
      generalize eI4 : am_u2 I (q + 1) (Int32.toNatClampNeg r2) r3 = I4
      have h := h I4 eI4.symm
      refine am_iinc (v := v6 + 1) (ls' := [some (.ref q), some (.ref p1), some (.int p2), none, some (.int v4), some (.int v5), some (.int (v6 + 1))]) (n := 156) d_Rows_fewestTunes_153 rfl (congrArg _ ci_1) (by decide) rfl rfl ?_
      refine am_goto (tgt := 118) d_Rows_fewestTunes_156 rfl ?_
      exact ih I4 v4 v5 (v6 + 1)  h
def wl_Rows_fewestTunes_104 (L : am_TL) (R : am_TR) (q : Nat) (p1 : Nat) (p2 : Int32) (Q : Int32 → am_TI → Prop) (K90 : am_TI → Int32 → Prop) : Nat → am_TI → Int32 → Int32 → Prop
  | 0 => fun _ _ _ => False
  | f104 + 1 => fun I v4 v5 => (((I (q + 2) 1) < v5 → K90 I (v4 + 1)) ∧ (¬ (I (q + 2) 1) < v5 → (∃ z, wl_Rows_fewestTunes_118 L R q p1 p2 Q K90 (wl_Rows_fewestTunes_104 L R q p1 p2 Q K90 f104) z I v4 v5 0)))
set_option maxRecDepth 20000 in
theorem tl_Rows_fewestTunes_104 {d : Nat}  {L : am_TL} {R : am_TR} {q : Nat} {p1 : Nat} {p2 : Int32} {Q : Int32 → am_TI → Prop} {K90 : am_TI → Int32 → Prop} (hw : am_Wf R) (hq : am_SH[q]? = some (.inl 6)) (hp1 : am_SH[p1]? = some (.inl 7)) (hK90 : ∀ (I : am_TI) (v4 : Int32), K90 I v4 → am_Wp (d, "UnseenRing$Rows", b_Rows_fewestTunes, 7, false) 0 0 90 [some (.ref q), some (.ref p1), some (.int p2), none, some (.int v4), none, none] [] (I, L, R, am_SH) (po_Rows_fewestTunes L R Q)) (hd : 3 ≤ d) : ∀ (n : Nat) (I : am_TI) (v4 : Int32) (v5 : Int32), wl_Rows_fewestTunes_104 L R q p1 p2 Q K90 n I v4 v5 → am_Wp (d, "UnseenRing$Rows", b_Rows_fewestTunes, 7, false) 0 0 104 [some (.ref q), some (.ref p1), some (.int p2), none, some (.int v4), some (.int v5), none] [] (I, L, R, am_SH) (po_Rows_fewestTunes L R Q) := by
  intro n
  induction n with
  | zero => intro I v4 v5 h; exact h.elim
  | succ n ih =>
    intro I v4 v5 h
    unfold wl_Rows_fewestTunes_104 at h
    refine am_iload (n := 106) d_Rows_fewestTunes_104 rfl rfl ?_
    refine am_aload_n (n := 107) d_Rows_fewestTunes_106 rfl rfl ?_
    refine am_getR (x := (q + 2)) (n := 110) f_Rows_15 d_Rows_fewestTunes_107 rfl rfl hq (hw.1 q 6 1 2 hq rfl) ?_
    refine am_iconst (n := 111) d_Rows_fewestTunes_110 ci_1 rfl ?_
    refine am_iald2 (n := 112) d_Rows_fewestTunes_111 rfl (am_sho (k := 1) (o := 2) hq (by decide) (by decide) (by decide) rfl) cx_1_6 cn_1 ?_
    refine am_icmp_gt (tgt := 165) (n := 115) d_Rows_fewestTunes_112 rfl rfl (fun c4 => ?_) (fun c4 => ?_)
    · have h := h.1 c4
      refine am_iinc (v := v4 + 1) (ls' := [some (.ref q), some (.ref p1), some (.int p2), none, some (.int (v4 + 1)), some (.int v5), none]) (n := 168) d_Rows_fewestTunes_165 rfl (congrArg _ ci_1) (by decide) rfl rfl ?_
      refine am_goto (tgt := 90) d_Rows_fewestTunes_168 rfl ?_
      refine am_forget (ls' := [some (.ref q), some (.ref p1), some (.int p2), none, some (.int (v4 + 1)), none, none]) (am_le_s (am_le_s (am_le_s (am_le_n (am_le_s (am_le_n (am_le_n am_le_e))))))) ?_
      exact hK90 I (v4 + 1)  h
    · have h := h.2 c4
      refine am_iconst (n := 116) d_Rows_fewestTunes_115 ci_0 rfl ?_
      refine am_istore (ls' := [some (.ref q), some (.ref p1), some (.int p2), none, some (.int v4), some (.int v5), some (.int 0)]) (n := 118) d_Rows_fewestTunes_116 (by decide) rfl rfl ?_
      obtain ⟨n, h⟩ := h
      exact tl_Rows_fewestTunes_118 hw hq hp1 hK90 ih hd n I v4 v5 0 h
def wl_Rows_fewestTunes_90 (L : am_TL) (R : am_TR) (q : Nat) (p1 : Nat) (p2 : Int32) (Q : Int32 → am_TI → Prop)  : Nat → am_TI → Int32 → Prop
  | 0 => fun _ _ => False
  | f90 + 1 => fun I v4 => (((I (q + 2) 0) < v4 → wp_Rows_index I L R (I (q + 2) 0) (I (q + 2) 1) (I (q + 2) 2) (fun (r1 : Int32) => (vp_in r1 729 ∧ (((I (q + 1) (Int32.toNatClampNeg r1)) < 1000 → Q (I (q + 1) (Int32.toNatClampNeg r1)) I) ∧ (¬ (I (q + 1) (Int32.toNatClampNeg r1)) < 1000 → Q (-1) I))))) ∧ (¬ (I (q + 2) 0) < v4 → (∃ z, wl_Rows_fewestTunes_104 L R q p1 p2 Q (wl_Rows_fewestTunes_90 L R q p1 p2 Q f90) z I v4 0)))
set_option maxRecDepth 20000 in
theorem tl_Rows_fewestTunes_90 {d : Nat}  {L : am_TL} {R : am_TR} {q : Nat} {p1 : Nat} {p2 : Int32} {Q : Int32 → am_TI → Prop}  (hw : am_Wf R) (hq : am_SH[q]? = some (.inl 6)) (hp1 : am_SH[p1]? = some (.inl 7)) (hd : 3 ≤ d) : ∀ (n : Nat) (I : am_TI) (v4 : Int32), wl_Rows_fewestTunes_90 L R q p1 p2 Q  n I v4 → am_Wp (d, "UnseenRing$Rows", b_Rows_fewestTunes, 7, false) 0 0 90 [some (.ref q), some (.ref p1), some (.int p2), none, some (.int v4), none, none] [] (I, L, R, am_SH) (po_Rows_fewestTunes L R Q) := by
  intro n
  induction n with
  | zero => intro I v4 h; exact h.elim
  | succ n ih =>
    intro I v4 h
    unfold wl_Rows_fewestTunes_90 at h
    refine am_iload (n := 92) d_Rows_fewestTunes_90 rfl rfl ?_
    refine am_aload_n (n := 93) d_Rows_fewestTunes_92 rfl rfl ?_
    refine am_getR (x := (q + 2)) (n := 96) f_Rows_15 d_Rows_fewestTunes_93 rfl rfl hq (hw.1 q 6 1 2 hq rfl) ?_
    refine am_iconst (n := 97) d_Rows_fewestTunes_96 ci_0 rfl ?_
    refine am_iald2 (n := 98) d_Rows_fewestTunes_97 rfl (am_sho (k := 1) (o := 2) hq (by decide) (by decide) (by decide) rfl) cx_0_6 cn_0 ?_
    refine am_icmp_gt (tgt := 171) (n := 101) d_Rows_fewestTunes_98 rfl rfl (fun c2 => ?_) (fun c2 => ?_)
    · have h := h.1 c2
      refine am_aload_n (n := 172) d_Rows_fewestTunes_171 rfl rfl ?_
      refine am_getR (x := (q + 1)) (n := 175) f_Rows_11 d_Rows_fewestTunes_172 rfl rfl hq (hw.1 q 6 0 1 hq rfl) ?_
      refine am_aload_n (n := 176) d_Rows_fewestTunes_175 rfl rfl ?_
      refine am_getR (x := (q + 2)) (n := 179) f_Rows_15 d_Rows_fewestTunes_176 rfl rfl hq (hw.1 q 6 1 2 hq rfl) ?_
      refine am_iconst (n := 180) d_Rows_fewestTunes_179 ci_0 rfl ?_
      refine am_iald2 (n := 181) d_Rows_fewestTunes_180 rfl (am_sho (k := 1) (o := 2) hq (by decide) (by decide) (by decide) rfl) cx_0_6 cn_0 ?_
      refine am_aload_n (n := 182) d_Rows_fewestTunes_181 rfl rfl ?_
      refine am_getR (x := (q + 2)) (n := 185) f_Rows_15 d_Rows_fewestTunes_182 rfl rfl hq (hw.1 q 6 1 2 hq rfl) ?_
      refine am_iconst (n := 186) d_Rows_fewestTunes_185 ci_1 rfl ?_
      refine am_iald2 (n := 187) d_Rows_fewestTunes_186 rfl (am_sho (k := 1) (o := 2) hq (by decide) (by decide) (by decide) rfl) cx_1_6 cn_1 ?_
      refine am_aload_n (n := 188) d_Rows_fewestTunes_187 rfl rfl ?_
      refine am_getR (x := (q + 2)) (n := 191) f_Rows_15 d_Rows_fewestTunes_188 rfl rfl hq (hw.1 q 6 1 2 hq rfl) ?_
      refine am_iconst (n := 192) d_Rows_fewestTunes_191 ci_2 rfl ?_
      refine am_iald2 (n := 193) d_Rows_fewestTunes_192 rfl (am_sho (k := 1) (o := 2) hq (by decide) (by decide) (by decide) rfl) cx_2_6 cn_2 ?_
      refine am_callS (kc := 0) (ks := 0) (As := [.int (I (q + 2) 0), .int (I (q + 2) 1), .int (I (q + 2) 2)]) (n := 196) d_Rows_fewestTunes_193 rfl ce_Rows_index lk_Rows_49 st_Rows_index rfl rfl (Nat.le_of_ble_eq_true rfl) (Or.inl rfl) (cm_Rows_index (d := d - 1) hw (by omega)  h) (by omega) ?_
      rintro _ _ ⟨r1, rfl, rfl, h⟩
      show am_Wp (d, "UnseenRing$Rows", b_Rows_fewestTunes, 7, false) 0 0 196 [some (.ref q), some (.ref p1), some (.int p2), none, some (.int v4), none, none] [.int r1, .ref (q + 1)] (I, L, R, am_SH) (po_Rows_fewestTunes L R Q)
      obtain ⟨g1, h⟩ := h
      refine am_iald2 (n := 197) d_Rows_fewestTunes_196 rfl (am_sho (k := 0) (o := 1) hq (by decide) (by decide) (by decide) rfl) g1 rfl ?_
      refine am_istore (ls' := [some (.ref q), some (.ref p1), some (.int p2), none, some (.int (I (q + 1) (Int32.toNatClampNeg r1))), none, none]) (n := 199) d_Rows_fewestTunes_197 (by decide) rfl rfl ?_
      refine am_iload (n := 201) d_Rows_fewestTunes_199 rfl rfl ?_
      refine am_sipush (n := 204) d_Rows_fewestTunes_201 cs_1000 rfl ?_
      refine am_icmp_lt (tgt := 211) (n := 207) d_Rows_fewestTunes_204 rfl rfl (fun c3 => ?_) (fun c3 => ?_)
      · have h := h.1 c3
        refine am_iload (n := 213) d_Rows_fewestTunes_211 rfl rfl ?_
        exact am_iret d_Rows_fewestTunes_213 ⟨(I (q + 1) (Int32.toNatClampNeg r1)), I, rfl, rfl, h⟩
      · have h := h.2 c3
        refine am_iconst (n := 208) d_Rows_fewestTunes_207 ci_m1 rfl ?_
        refine am_goto (tgt := 213) d_Rows_fewestTunes_208 rfl ?_
        exact am_iret d_Rows_fewestTunes_213 ⟨(-1), I, rfl, rfl, h⟩
    · have h := h.2 c2
      refine am_iconst (n := 102) d_Rows_fewestTunes_101 ci_0 rfl ?_
      refine am_istore (ls' := [some (.ref q), some (.ref p1), some (.int p2), none, some (.int v4), some (.int 0), none]) (n := 104) d_Rows_fewestTunes_102 (by decide) rfl rfl ?_
      obtain ⟨n, h⟩ := h
      exact tl_Rows_fewestTunes_104 hw hq hp1 ih hd n I v4 0 h
def wb_Rows_fewestTunes_87 (L : am_TL) (R : am_TR) (q : Nat) (p1 : Nat) (p2 : Int32) (Q : Int32 → am_TI → Prop)  (I : am_TI) : Prop := (∃ z, wl_Rows_fewestTunes_90 L R q p1 p2 Q z I 0)
set_option maxRecDepth 20000 in
theorem tb_Rows_fewestTunes_87 {d : Nat}  {L : am_TL} {R : am_TR} {q : Nat} {p1 : Nat} {p2 : Int32} {Q : Int32 → am_TI → Prop}  (hw : am_Wf R) (hq : am_SH[q]? = some (.inl 6)) (hp1 : am_SH[p1]? = some (.inl 7)) (hd : 3 ≤ d) (I : am_TI) (h : wb_Rows_fewestTunes_87 L R q p1 p2 Q  I) : am_Wp (d, "UnseenRing$Rows", b_Rows_fewestTunes, 7, false) 0 0 87 [some (.ref q), some (.ref p1), some (.int p2), none, none, none, none] [] (I, L, R, am_SH) (po_Rows_fewestTunes L R Q) := by
  unfold wb_Rows_fewestTunes_87 at h
  refine am_iconst (n := 88) d_Rows_fewestTunes_87 ci_0 rfl ?_
  refine am_istore (ls' := [some (.ref q), some (.ref p1), some (.int p2), none, some (.int 0), none, none]) (n := 90) d_Rows_fewestTunes_88 (by decide) rfl rfl ?_
  obtain ⟨n, h⟩ := h
  exact tl_Rows_fewestTunes_90 hw hq hp1 hd n I 0 h
def wl_Rows_fewestTunes_29 (L : am_TL) (R : am_TR) (q : Nat) (p1 : Nat) (p2 : Int32) (Q : Int32 → am_TI → Prop)  : Nat → am_TI → Int32 → Int32 → Prop
  | 0 => fun _ _ _ => False
  | f29 + 1 => fun I v3 v4 => (((I p1 11) ≤ v4 → wb_Rows_fewestTunes_87 L R q p1 p2 Q I) ∧ (¬ (I p1 11) ≤ v4 → ((3 ≤ v3 → wb_Rows_fewestTunes_87 L R q p1 p2 Q I) ∧ (¬ 3 ≤ v3 → ((((p2 >>> (v4 &&& 31)) &&& 1) = 1 → wp_Square_farFromOrgan I L R p1 v4 (fun (r4 : Int32) => (vp_in v3 6 ∧ (∀ I5, I5 = am_u2 I (q + 2) (Int32.toNatClampNeg v3) r4 → (vp_in v4 6 ∧ (vp_in v3 6 ∧ (∀ I6, I6 = am_u2 I5 (q + 3) (Int32.toNatClampNeg v3) (I5 (p1 + 4) (Int32.toNatClampNeg v4)) → wl_Rows_fewestTunes_29 L R q p1 p2 Q f29 I6 (v3 + 1) (v4 + 1)))))))) ∧ (¬ ((p2 >>> (v4 &&& 31)) &&& 1) = 1 → wl_Rows_fewestTunes_29 L R q p1 p2 Q f29 I v3 (v4 + 1)))))))
set_option maxRecDepth 20000 in
theorem tl_Rows_fewestTunes_29 {d : Nat}  {L : am_TL} {R : am_TR} {q : Nat} {p1 : Nat} {p2 : Int32} {Q : Int32 → am_TI → Prop}  (hw : am_Wf R) (hq : am_SH[q]? = some (.inl 6)) (hp1 : am_SH[p1]? = some (.inl 7)) (hd : 3 ≤ d) : ∀ (n : Nat) (I : am_TI) (v3 : Int32) (v4 : Int32), wl_Rows_fewestTunes_29 L R q p1 p2 Q  n I v3 v4 → am_Wp (d, "UnseenRing$Rows", b_Rows_fewestTunes, 7, false) 0 0 29 [some (.ref q), some (.ref p1), some (.int p2), some (.int v3), some (.int v4), none, none] [] (I, L, R, am_SH) (po_Rows_fewestTunes L R Q) := by
  intro n
  induction n with
  | zero => intro I v3 v4 h; exact h.elim
  | succ n ih =>
    intro I v3 v4 h
    unfold wl_Rows_fewestTunes_29 at h
    refine am_iload (n := 31) d_Rows_fewestTunes_29 rfl rfl ?_
    refine am_aload_n (n := 32) d_Rows_fewestTunes_31 rfl rfl ?_
    refine am_getI (n := 35) f_Rows_41 d_Rows_fewestTunes_32 rfl rfl hp1 ?_
    refine am_icmp_ge (tgt := 87) (n := 38) d_Rows_fewestTunes_35 rfl rfl (fun c1 => ?_) (fun c1 => ?_)
    · have h := h.1 c1
      refine am_forget (ls' := [some (.ref q), some (.ref p1), some (.int p2), none, none, none, none]) (am_le_s (am_le_s (am_le_s (am_le_n (am_le_n (am_le_n (am_le_n am_le_e))))))) ?_
      exact tb_Rows_fewestTunes_87 hw hq hp1 hd I h
    · have h := h.2 c1
      refine am_iload_n (n := 39) d_Rows_fewestTunes_38 rfl rfl ?_
      refine am_iconst (n := 40) d_Rows_fewestTunes_39 ci_3 rfl ?_
      refine am_icmp_ge (tgt := 87) (n := 43) d_Rows_fewestTunes_40 rfl rfl (fun c6 => ?_) (fun c6 => ?_)
      · have h := h.1 c6
        refine am_forget (ls' := [some (.ref q), some (.ref p1), some (.int p2), none, none, none, none]) (am_le_s (am_le_s (am_le_s (am_le_n (am_le_n (am_le_n (am_le_n am_le_e))))))) ?_
        exact tb_Rows_fewestTunes_87 hw hq hp1 hd I h
      · have h := h.2 c6
        refine am_iload_n (n := 44) d_Rows_fewestTunes_43 rfl rfl ?_
        refine am_iload (n := 46) d_Rows_fewestTunes_44 rfl rfl ?_
        refine am_ishr (n := 47) d_Rows_fewestTunes_46 rfl ?_
        refine am_iconst (n := 48) d_Rows_fewestTunes_47 ci_1 rfl ?_
        refine am_iand (n := 49) d_Rows_fewestTunes_48 rfl ?_
        refine am_iconst (n := 50) d_Rows_fewestTunes_49 ci_1 rfl ?_
        refine am_icmp_ne (tgt := 81) (n := 53) d_Rows_fewestTunes_50 rfl rfl (fun c7 => ?_) (fun c7 => ?_)
        · have h := h.2 c7
          refine am_iinc (v := v4 + 1) (ls' := [some (.ref q), some (.ref p1), some (.int p2), some (.int v3), some (.int (v4 + 1)), none, none]) (n := 84) d_Rows_fewestTunes_81 rfl (congrArg _ ci_1) (by decide) rfl rfl ?_
          refine am_goto (tgt := 29) d_Rows_fewestTunes_84 rfl ?_
          exact ih I v3 (v4 + 1)  h
        · have h := h.1 c7
          refine am_aload_n (n := 54) d_Rows_fewestTunes_53 rfl rfl ?_
          refine am_getR (x := (q + 2)) (n := 57) f_Rows_15 d_Rows_fewestTunes_54 rfl rfl hq (hw.1 q 6 1 2 hq rfl) ?_
          refine am_iload_n (n := 58) d_Rows_fewestTunes_57 rfl rfl ?_
          refine am_aload_n (n := 59) d_Rows_fewestTunes_58 rfl rfl ?_
          refine am_iload (n := 61) d_Rows_fewestTunes_59 rfl rfl ?_
          refine am_callV (kc := 0) (ks := 0) (As := [.int v4]) (n := 64) d_Rows_fewestTunes_61 rfl ce_Square_farFromOrgan lk_Rows_44 in_Square_farFromOrgan rfl rfl hp1 rfl rfl (Nat.le_of_ble_eq_true rfl) (Or.inl rfl) (cm_Square_farFromOrgan (d := d - 1) hw (by omega) hp1 h) (by omega) ?_
          rintro _ _ ⟨r4, rfl, rfl, h⟩
          show am_Wp (d, "UnseenRing$Rows", b_Rows_fewestTunes, 7, false) 0 0 64 [some (.ref q), some (.ref p1), some (.int p2), some (.int v3), some (.int v4), none, none] [.int r4, .int v3, .ref (q + 2)] (I, L, R, am_SH) (po_Rows_fewestTunes L R Q)
          obtain ⟨g3, h⟩ := h
          refine am_iast2 (n := 65) d_Rows_fewestTunes_64 rfl (am_sho (k := 1) (o := 2) hq (by decide) (by decide) (by decide) rfl) g3 rfl ?_
          generalize eI5 : am_u2 I (q + 2) (Int32.toNatClampNeg v3) r4 = I5
          have h := h I5 eI5.symm
          refine am_aload_n (n := 66) d_Rows_fewestTunes_65 rfl rfl ?_
          refine am_getR (x := (q + 3)) (n := 69) f_Rows_18 d_Rows_fewestTunes_66 rfl rfl hq (hw.1 q 6 2 3 hq rfl) ?_
          refine am_iload_n (n := 70) d_Rows_fewestTunes_69 rfl rfl ?_
          refine am_aload_n (n := 71) d_Rows_fewestTunes_70 rfl rfl ?_
          refine am_getR (x := (p1 + 4)) (n := 74) f_Rows_48 d_Rows_fewestTunes_71 rfl rfl hp1 (hw.1 p1 7 3 4 hp1 rfl) ?_
          refine am_iload (n := 76) d_Rows_fewestTunes_74 rfl rfl ?_
          obtain ⟨g4, h⟩ := h
          refine am_iald2 (n := 77) d_Rows_fewestTunes_76 rfl (am_sho (k := 3) (o := 4) hp1 (by decide) (by decide) (by decide) rfl) g4 rfl ?_
          obtain ⟨g5, h⟩ := h
          refine am_iast2 (n := 78) d_Rows_fewestTunes_77 rfl (am_sho (k := 2) (o := 3) hq (by decide) (by decide) (by decide) rfl) g5 rfl ?_
          generalize eI6 : am_u2 I5 (q + 3) (Int32.toNatClampNeg v3) (I5 (p1 + 4) (Int32.toNatClampNeg v4)) = I6
          have h := h I6 eI6.symm
          refine am_iinc (v := v3 + 1) (ls' := [some (.ref q), some (.ref p1), some (.int p2), some (.int (v3 + 1)), some (.int v4), none, none]) (n := 81) d_Rows_fewestTunes_78 rfl (congrArg _ ci_1) (by decide) rfl rfl ?_
          refine am_iinc (v := v4 + 1) (ls' := [some (.ref q), some (.ref p1), some (.int p2), some (.int (v3 + 1)), some (.int (v4 + 1)), none, none]) (n := 84) d_Rows_fewestTunes_81 rfl (congrArg _ ci_1) (by decide) rfl rfl ?_
          refine am_goto (tgt := 29) d_Rows_fewestTunes_84 rfl ?_
          exact ih I6 (v3 + 1) (v4 + 1)  h
def wp_Rows_fewestTunes (I : am_TI) (L : am_TL) (R : am_TR) (q : Nat) (p1 : Nat) (p2 : Int32)  (Q : Int32 → am_TI → Prop) : Prop := wp_Arrays_fillI I L R (q + 2) 6 0 (fun (I1 : am_TI) => wp_Arrays_fillI I1 L R (q + 3) 6 0 (fun (I2 : am_TI) => (∀ I3, I3 = am_u2 I2 q 5 (I2 p1 10) → (∃ z, wl_Rows_fewestTunes_29 L R q p1 p2 Q z I3 0 0))))
set_option maxRecDepth 20000 in
theorem cm_Rows_fewestTunes {d : Nat} {I : am_TI} {L : am_TL} {R : am_TR}  (hw : am_Wf R)   {q : Nat} {p1 : Nat} {p2 : Int32} {Q : Int32 → am_TI → Prop} (hd : 3 ≤ d) (hq : am_SH[q]? = some (.inl 6)) (hp1 : am_SH[p1]? = some (.inl 7)) (h : wp_Rows_fewestTunes I L R q p1 p2  Q) : am_Cm d 0 0 y_Rows_fewestTunes b_Rows_fewestTunes 7 (some .int) [.ref q, .ref p1, .int p2] (I, L, R, am_SH) (po_Rows_fewestTunes L R Q) := by
  refine am_Cm_of (ini := false) (by decide +kernel) (fun z => by cases z) (by simp [Value.category]) (fun r σ' z => by obtain ⟨x, _, rfl, -⟩ := z; exact ⟨_, rfl, rfl⟩) ?_
  unfold wp_Rows_fewestTunes at h
  show am_Wp (d, "UnseenRing$Rows", b_Rows_fewestTunes, 7, false) 0 0 0 [some (.ref q), some (.ref p1), some (.int p2), none, none, none, none] [] (I, L, R, am_SH) (po_Rows_fewestTunes L R Q)
  refine am_aload_n (n := 1) d_Rows_fewestTunes_0 rfl rfl ?_
  refine am_getR (x := (q + 2)) (n := 4) f_Rows_15 d_Rows_fewestTunes_1 rfl rfl hq (hw.1 q 6 1 2 hq rfl) ?_
  refine am_iconst (n := 5) d_Rows_fewestTunes_4 ci_0 rfl ?_
  refine am_callS (kc := 0) (ks := 0) (As := [.ref (q + 2), .int 0]) (n := 8) d_Rows_fewestTunes_5 rfl ce_Arrays_fillI lk_Rows_32 st_Arrays_fillI rfl rfl (Nat.le_of_ble_eq_true rfl) (Or.inl rfl) (cm_Arrays_fillI (d := d - 1) hw (by omega) (am_sho (k := 1) (o := 2) hq (by decide) (by decide) (by decide) rfl) h) (by omega) ?_
  rintro _ _ ⟨I1, rfl, rfl, h⟩
  show am_Wp (d, "UnseenRing$Rows", b_Rows_fewestTunes, 7, false) 0 0 8 [some (.ref q), some (.ref p1), some (.int p2), none, none, none, none] [] (I1, L, R, am_SH) (po_Rows_fewestTunes L R Q)
  refine am_aload_n (n := 9) d_Rows_fewestTunes_8 rfl rfl ?_
  refine am_getR (x := (q + 3)) (n := 12) f_Rows_18 d_Rows_fewestTunes_9 rfl rfl hq (hw.1 q 6 2 3 hq rfl) ?_
  refine am_iconst (n := 13) d_Rows_fewestTunes_12 ci_0 rfl ?_
  refine am_callS (kc := 0) (ks := 0) (As := [.ref (q + 3), .int 0]) (n := 16) d_Rows_fewestTunes_13 rfl ce_Arrays_fillI lk_Rows_32 st_Arrays_fillI rfl rfl (Nat.le_of_ble_eq_true rfl) (Or.inl rfl) (cm_Arrays_fillI (d := d - 1) hw (by omega) (am_sho (k := 2) (o := 3) hq (by decide) (by decide) (by decide) rfl) h) (by omega) ?_
  rintro _ _ ⟨I2, rfl, rfl, h⟩
  show am_Wp (d, "UnseenRing$Rows", b_Rows_fewestTunes, 7, false) 0 0 16 [some (.ref q), some (.ref p1), some (.int p2), none, none, none, none] [] (I2, L, R, am_SH) (po_Rows_fewestTunes L R Q)
  refine am_aload_n (n := 17) d_Rows_fewestTunes_16 rfl rfl ?_
  refine am_aload_n (n := 18) d_Rows_fewestTunes_17 rfl rfl ?_
  refine am_getI (n := 21) f_Rows_38 d_Rows_fewestTunes_18 rfl rfl hp1 ?_
  refine am_putI (n := 24) f_Rows_28 d_Rows_fewestTunes_21 rfl ⟨_, rfl, Or.inl rfl⟩ rfl rfl hq ?_
  generalize eI3 : am_u2 I2 q 5 (I2 p1 10) = I3
  have h := h I3 eI3.symm
  refine am_iconst (n := 25) d_Rows_fewestTunes_24 ci_0 rfl ?_
  refine am_istore_n (ls' := [some (.ref q), some (.ref p1), some (.int p2), some (.int 0), none, none, none]) (n := 26) d_Rows_fewestTunes_25 (by decide) rfl rfl ?_
  refine am_iconst (n := 27) d_Rows_fewestTunes_26 ci_0 rfl ?_
  refine am_istore (ls' := [some (.ref q), some (.ref p1), some (.int p2), some (.int 0), some (.int 0), none, none]) (n := 29) d_Rows_fewestTunes_27 (by decide) rfl rfl ?_
  obtain ⟨n, h⟩ := h
  exact tl_Rows_fewestTunes_29 hw hq hp1 hd n I3 0 0 h
abbrev po_U_answeredIfThereIs (L : am_TL) (R : am_TR) (Q : Int32 → am_TI → Prop) : Option Value → am_St → Prop := fun r σ' => ∃ (x : Int32) (I' : am_TI), r = some (.int x) ∧ σ' = (I', L, R, am_SH) ∧ Q x I'
def wp_U_answeredIfThereIs (I : am_TI) (L : am_TL) (R : am_TR) (q : Nat) (p1 : Int32)  (Q : Int32 → am_TI → Prop) : Prop := ((p1 = (-1) → wp_U_refused I L R q 6 (fun (r2 : Int32) (I2 : am_TI) => Q r2 I2)) ∧ (¬ p1 = (-1) → wp_U_answered I L R q p1 (fun (r1 : Int32) (I1 : am_TI) => Q r1 I1)))
set_option maxRecDepth 20000 in
theorem cm_U_answeredIfThereIs {d : Nat} {I : am_TI} {L : am_TL} {R : am_TR}  (hw : am_Wf R)   {q : Nat} {p1 : Int32} {Q : Int32 → am_TI → Prop} (hd : 1 ≤ d) (hq : am_SH[q]? = some (.inl 11)) (h : wp_U_answeredIfThereIs I L R q p1  Q) : am_Cm d 0 0 y_U_answeredIfThereIs b_U_answeredIfThereIs 2 (some .int) [.ref q, .int p1] (I, L, R, am_SH) (po_U_answeredIfThereIs L R Q) := by
  refine am_Cm_of (ini := false) (by decide +kernel) (fun z => by cases z) (by simp [Value.category]) (fun r σ' z => by obtain ⟨x, _, rfl, -⟩ := z; exact ⟨_, rfl, rfl⟩) ?_
  unfold wp_U_answeredIfThereIs at h
  show am_Wp (d, "UnseenRing", b_U_answeredIfThereIs, 2, false) 0 0 0 [some (.ref q), some (.int p1)] [] (I, L, R, am_SH) (po_U_answeredIfThereIs L R Q)
  refine am_iload_n (n := 1) d_U_answeredIfThereIs_0 rfl rfl ?_
  refine am_iconst (n := 2) d_U_answeredIfThereIs_1 ci_m1 rfl ?_
  refine am_icmp_ne (tgt := 14) (n := 5) d_U_answeredIfThereIs_2 rfl rfl (fun c1 => ?_) (fun c1 => ?_)
  · have h := h.2 c1
    refine am_aload_n (n := 15) d_U_answeredIfThereIs_14 rfl rfl ?_
    refine am_iload_n (n := 16) d_U_answeredIfThereIs_15 rfl rfl ?_
    refine am_callV (kc := 0) (ks := 0) (As := [.int p1]) (n := 19) d_U_answeredIfThereIs_16 rfl ce_U_answered lk_U_184 in_U_answered rfl rfl hq rfl rfl (Nat.le_of_ble_eq_true rfl) (Or.inl rfl) (cm_U_answered (d := d - 1) hw (by omega) hq h) (by omega) ?_
    rintro _ _ ⟨r1, I1, rfl, rfl, h⟩
    show am_Wp (d, "UnseenRing", b_U_answeredIfThereIs, 2, false) 0 0 19 [some (.ref q), some (.int p1)] [.int r1] (I1, L, R, am_SH) (po_U_answeredIfThereIs L R Q)
    exact am_iret d_U_answeredIfThereIs_19 ⟨r1, I1, rfl, rfl, h⟩
  · have h := h.1 c1
    refine am_aload_n (n := 6) d_U_answeredIfThereIs_5 rfl rfl ?_
    refine am_bipush (n := 8) d_U_answeredIfThereIs_6 cb_6 rfl ?_
    refine am_callV (kc := 0) (ks := 0) (As := [.int 6]) (n := 11) d_U_answeredIfThereIs_8 rfl ce_U_refused lk_U_133 in_U_refused rfl rfl hq rfl rfl (Nat.le_of_ble_eq_true rfl) (Or.inl rfl) (cm_U_refused (d := d - 1) hw (by omega) hq h) (by omega) ?_
    rintro _ _ ⟨r2, I2, rfl, rfl, h⟩
    show am_Wp (d, "UnseenRing", b_U_answeredIfThereIs, 2, false) 0 0 11 [some (.ref q), some (.int p1)] [.int r2] (I2, L, R, am_SH) (po_U_answeredIfThereIs L R Q)
    refine am_goto (tgt := 19) d_U_answeredIfThereIs_11 rfl ?_
    exact am_iret d_U_answeredIfThereIs_19 ⟨r2, I2, rfl, rfl, h⟩
abbrev po_U_isSet (I : am_TI) (L : am_TL) (R : am_TR) (Q : Bool → Prop) : Option Value → am_St → Prop := fun r σ' => ∃ (x : Bool), r = some (.int (am_b x)) ∧ σ' = (I, L, R, am_SH) ∧ Q x
def wp_U_isSet (I : am_TI) (L : am_TL) (R : am_TR) (p0 : Int32) (p1 : Int32)  (Q : Bool → Prop) : Prop := wp_U_within I L R p0 0 (((1 : Int32) <<< (p1 &&& 31)) - 1) (fun (r1 : Bool) => Q r1)
set_option maxRecDepth 20000 in
theorem cm_U_isSet {d : Nat} {I : am_TI} {L : am_TL} {R : am_TR}  (hw : am_Wf R)   {p0 : Int32} {p1 : Int32} {Q : Bool → Prop} (hd : 1 ≤ d)  (h : wp_U_isSet I L R p0 p1  Q) : am_Cm d 0 0 y_U_isSet b_U_isSet 2 (some .boolean) [.int p0, .int p1] (I, L, R, am_SH) (po_U_isSet I L R Q) := by
  refine am_Cm_of (ini := false) (by decide +kernel) (fun z => by cases z) (by simp [Value.category]) (fun r σ' z => by obtain ⟨x, rfl, -⟩ := z; exact ⟨_, rfl, am_b_nar x⟩) ?_
  unfold wp_U_isSet at h
  show am_Wp (d, "UnseenRing", b_U_isSet, 2, false) 0 0 0 [some (.int p0), some (.int p1)] [] (I, L, R, am_SH) (po_U_isSet I L R Q)
  refine am_iload_n (n := 1) d_U_isSet_0 rfl rfl ?_
  refine am_iconst (n := 2) d_U_isSet_1 ci_0 rfl ?_
  refine am_iconst (n := 3) d_U_isSet_2 ci_1 rfl ?_
  refine am_iload_n (n := 4) d_U_isSet_3 rfl rfl ?_
  refine am_ishl (n := 5) d_U_isSet_4 rfl ?_
  refine am_iconst (n := 6) d_U_isSet_5 ci_1 rfl ?_
  refine am_isub (n := 7) d_U_isSet_6 rfl ?_
  refine am_callS (kc := 0) (ks := 0) (As := [.int p0, .int 0, .int (((1 : Int32) <<< (p1 &&& 31)) - 1)]) (n := 10) d_U_isSet_7 rfl ce_U_within lk_U_114 st_U_within rfl rfl (Nat.le_of_ble_eq_true rfl) (Or.inl rfl) (cm_U_within (d := d - 1) hw (by omega)  h) (by omega) ?_
  rintro _ _ ⟨r1, rfl, rfl, h⟩
  show am_Wp (d, "UnseenRing", b_U_isSet, 2, false) 0 0 10 [some (.int p0), some (.int p1)] [.int (am_b r1)] (I, L, R, am_SH) (po_U_isSet I L R Q)
  exact am_iret d_U_isSet_10 ⟨r1, rfl, rfl, h⟩
abbrev po_U_canGather (I : am_TI) (L : am_TL) (R : am_TR) (Q : Bool → Prop) : Option Value → am_St → Prop := fun r σ' => ∃ (x : Bool), r = some (.int (am_b x)) ∧ σ' = (I, L, R, am_SH) ∧ Q x
def wp_U_canGather (I : am_TI) (L : am_TL) (R : am_TR) (q : Nat) (p1 : Int32)  (Q : Bool → Prop) : Prop := wp_U_isSet I L R p1 (I (am_rd R q 11) 11) (fun (r1 : Bool) => ((r1 = false → Q false) ∧ (r1 = true → wp_Integer_bitCount I L R p1 (fun (r2 : Int32) => wp_U_within I L R r2 1 3 (fun (r3 : Bool) => ((r3 = false → Q false) ∧ (r3 = true → Q true)))))))
set_option maxRecDepth 20000 in
theorem cm_U_canGather {d : Nat} {I : am_TI} {L : am_TL} {R : am_TR}  (hw : am_Wf R)   {q : Nat} {p1 : Int32} {Q : Bool → Prop} (hd : 2 ≤ d) (hq : am_SH[q]? = some (.inl 11)) (h : wp_U_canGather I L R q p1  Q) : am_Cm d 0 0 y_U_canGather b_U_canGather 2 (some .boolean) [.ref q, .int p1] (I, L, R, am_SH) (po_U_canGather I L R Q) := by
  refine am_Cm_of (ini := false) (by decide +kernel) (fun z => by cases z) (by simp [Value.category]) (fun r σ' z => by obtain ⟨x, rfl, -⟩ := z; exact ⟨_, rfl, am_b_nar x⟩) ?_
  unfold wp_U_canGather at h
  show am_Wp (d, "UnseenRing", b_U_canGather, 2, false) 0 0 0 [some (.ref q), some (.int p1)] [] (I, L, R, am_SH) (po_U_canGather I L R Q)
  refine am_iload_n (n := 1) d_U_canGather_0 rfl rfl ?_
  refine am_aload_n (n := 2) d_U_canGather_1 rfl rfl ?_
  refine am_getR (x := (am_rd R q 11)) (n := 5) f_U_81 d_U_canGather_2 rfl rfl hq (hw.rd (k := 11) hq rfl).1 ?_
  refine am_getI (n := 8) f_U_181 d_U_canGather_5 rfl rfl (hw.rd (k := 11) hq rfl).2 ?_
  refine am_callS (kc := 0) (ks := 0) (As := [.int p1, .int (I (am_rd R q 11) 11)]) (n := 11) d_U_canGather_8 rfl ce_U_isSet lk_U_307 st_U_isSet rfl rfl (Nat.le_of_ble_eq_true rfl) (Or.inl rfl) (cm_U_isSet (d := d - 1) hw (by omega)  h) (by omega) ?_
  rintro _ _ ⟨r1, rfl, rfl, h⟩
  show am_Wp (d, "UnseenRing", b_U_canGather, 2, false) 0 0 11 [some (.ref q), some (.int p1)] [.int (am_b r1)] (I, L, R, am_SH) (po_U_canGather I L R Q)
  refine am_if_eq (y := 0) (tgt := 30) (n := 14) d_U_canGather_11 rfl rfl (fun c1 => ?_) (fun c1 => ?_)
  · have h := h.1 (am_b_0 c1)
    refine am_iconst (n := 31) d_U_canGather_30 ci_0 rfl ?_
    exact am_iret d_U_canGather_31 ⟨false, rfl, rfl, h⟩
  · have h := h.2 (am_b_n0 c1)
    refine am_iload_n (n := 15) d_U_canGather_14 rfl rfl ?_
    refine am_callS (kc := 0) (ks := 0) (As := [.int p1]) (n := 18) d_U_canGather_15 rfl ce_Integer_bitCount lk_U_310 st_Integer_bitCount rfl rfl (Nat.le_of_ble_eq_true rfl) (Or.inl rfl) (cm_Integer_bitCount (d := d - 1) hw (by omega)  h) (by omega) ?_
    rintro _ _ ⟨r2, rfl, rfl, h⟩
    show am_Wp (d, "UnseenRing", b_U_canGather, 2, false) 0 0 18 [some (.ref q), some (.int p1)] [.int r2] (I, L, R, am_SH) (po_U_canGather I L R Q)
    refine am_iconst (n := 19) d_U_canGather_18 ci_1 rfl ?_
    refine am_iconst (n := 20) d_U_canGather_19 ci_3 rfl ?_
    refine am_callS (kc := 0) (ks := 0) (As := [.int r2, .int 1, .int 3]) (n := 23) d_U_canGather_20 rfl ce_U_within lk_U_114 st_U_within rfl rfl (Nat.le_of_ble_eq_true rfl) (Or.inl rfl) (cm_U_within (d := d - 1) hw (by omega)  h) (by omega) ?_
    rintro _ _ ⟨r3, rfl, rfl, h⟩
    show am_Wp (d, "UnseenRing", b_U_canGather, 2, false) 0 0 23 [some (.ref q), some (.int p1)] [.int (am_b r3)] (I, L, R, am_SH) (po_U_canGather I L R Q)
    refine am_if_eq (y := 0) (tgt := 30) (n := 26) d_U_canGather_23 rfl rfl (fun c2 => ?_) (fun c2 => ?_)
    · have h := h.1 (am_b_0 c2)
      refine am_iconst (n := 31) d_U_canGather_30 ci_0 rfl ?_
      exact am_iret d_U_canGather_31 ⟨false, rfl, rfl, h⟩
    · have h := h.2 (am_b_n0 c2)
      refine am_iconst (n := 27) d_U_canGather_26 ci_1 rfl ?_
      refine am_goto (tgt := 31) d_U_canGather_27 rfl ?_
      exact am_iret d_U_canGather_31 ⟨true, rfl, rfl, h⟩
abbrev po_U_gather (L : am_TL) (R : am_TR) (Q : Int32 → am_TI → Prop) : Option Value → am_St → Prop := fun r σ' => ∃ (x : Int32) (I' : am_TI), r = some (.int x) ∧ σ' = (I', L, R, am_SH) ∧ Q x I'
def wp_U_gather (I : am_TI) (L : am_TL) (R : am_TR) (q : Nat) (p1 : Int32)  (Q : Int32 → am_TI → Prop) : Prop := wp_U_canGather I L R q p1 (fun (r1 : Bool) => ((r1 = false → wp_U_refused I L R q 1 (fun (r4 : Int32) (I3 : am_TI) => Q r4 I3)) ∧ (r1 = true → wp_Rows_fewestTunes I L R (q + 16) (am_rd R q 11) p1 (fun (r2 : Int32) (I1 : am_TI) => wp_U_answeredIfThereIs I1 L R q r2 (fun (r3 : Int32) (I2 : am_TI) => Q r3 I2)))))
set_option maxRecDepth 20000 in
theorem cm_U_gather {d : Nat} {I : am_TI} {L : am_TL} {R : am_TR}  (hw : am_Wf R)   {q : Nat} {p1 : Int32} {Q : Int32 → am_TI → Prop} (hd : 4 ≤ d) (hq : am_SH[q]? = some (.inl 11)) (h : wp_U_gather I L R q p1  Q) : am_Cm d 0 0 y_U_gather b_U_gather 2 (some .int) [.ref q, .int p1] (I, L, R, am_SH) (po_U_gather L R Q) := by
  refine am_Cm_of (ini := false) (by decide +kernel) (fun z => by cases z) (by simp [Value.category]) (fun r σ' z => by obtain ⟨x, _, rfl, -⟩ := z; exact ⟨_, rfl, rfl⟩) ?_
  unfold wp_U_gather at h
  show am_Wp (d, "UnseenRing", b_U_gather, 2, false) 0 0 0 [some (.ref q), some (.int p1)] [] (I, L, R, am_SH) (po_U_gather L R Q)
  refine am_aload_n (n := 1) d_U_gather_0 rfl rfl ?_
  refine am_iload_n (n := 2) d_U_gather_1 rfl rfl ?_
  refine am_callV (kc := 0) (ks := 0) (As := [.int p1]) (n := 5) d_U_gather_2 rfl ce_U_canGather lk_U_294 in_U_canGather rfl rfl hq rfl rfl (Nat.le_of_ble_eq_true rfl) (Or.inl rfl) (cm_U_canGather (d := d - 1) hw (by omega) hq h) (by omega) ?_
  rintro _ _ ⟨r1, rfl, rfl, h⟩
  show am_Wp (d, "UnseenRing", b_U_gather, 2, false) 0 0 5 [some (.ref q), some (.int p1)] [.int (am_b r1)] (I, L, R, am_SH) (po_U_gather L R Q)
  refine am_if_ne (y := 0) (tgt := 14) (n := 8) d_U_gather_5 rfl rfl (fun c1 => ?_) (fun c1 => ?_)
  · have h := h.2 (am_b_n0 c1)
    refine am_aload_n (n := 15) d_U_gather_14 rfl rfl ?_
    refine am_aload_n (n := 16) d_U_gather_15 rfl rfl ?_
    refine am_getR (x := (q + 16)) (n := 19) f_U_55 d_U_gather_16 rfl rfl hq (hw.1 q 11 7 16 hq rfl) ?_
    refine am_aload_n (n := 20) d_U_gather_19 rfl rfl ?_
    refine am_getR (x := (am_rd R q 11)) (n := 23) f_U_81 d_U_gather_20 rfl rfl hq (hw.rd (k := 11) hq rfl).1 ?_
    refine am_iload_n (n := 24) d_U_gather_23 rfl rfl ?_
    refine am_callV (kc := 0) (ks := 0) (As := [.ref (am_rd R q 11), .int p1]) (n := 27) d_U_gather_24 rfl ce_Rows_fewestTunes lk_U_297 in_Rows_fewestTunes rfl rfl (am_sho (k := 7) (o := 16) hq (by decide) (by decide) (by decide) rfl) rfl rfl (Nat.le_of_ble_eq_true rfl) (Or.inl rfl) (cm_Rows_fewestTunes (d := d - 1) hw (by omega) (am_sho (k := 7) (o := 16) hq (by decide) (by decide) (by decide) rfl) (hw.rd (k := 11) hq rfl).2 h) (by omega) ?_
    rintro _ _ ⟨r2, I1, rfl, rfl, h⟩
    show am_Wp (d, "UnseenRing", b_U_gather, 2, false) 0 0 27 [some (.ref q), some (.int p1)] [.int r2, .ref q] (I1, L, R, am_SH) (po_U_gather L R Q)
    refine am_callV (kc := 0) (ks := 0) (As := [.int r2]) (n := 30) d_U_gather_27 rfl ce_U_answeredIfThereIs lk_U_301 in_U_answeredIfThereIs rfl rfl hq rfl rfl (Nat.le_of_ble_eq_true rfl) (Or.inl rfl) (cm_U_answeredIfThereIs (d := d - 1) hw (by omega) hq h) (by omega) ?_
    rintro _ _ ⟨r3, I2, rfl, rfl, h⟩
    show am_Wp (d, "UnseenRing", b_U_gather, 2, false) 0 0 30 [some (.ref q), some (.int p1)] [.int r3] (I2, L, R, am_SH) (po_U_gather L R Q)
    exact am_iret d_U_gather_30 ⟨r3, I2, rfl, rfl, h⟩
  · have h := h.1 (am_b_0 c1)
    refine am_aload_n (n := 9) d_U_gather_8 rfl rfl ?_
    refine am_iconst (n := 10) d_U_gather_9 ci_1 rfl ?_
    refine am_callV (kc := 0) (ks := 0) (As := [.int 1]) (n := 13) d_U_gather_10 rfl ce_U_refused lk_U_133 in_U_refused rfl rfl hq rfl rfl (Nat.le_of_ble_eq_true rfl) (Or.inl rfl) (cm_U_refused (d := d - 1) hw (by omega) hq h) (by omega) ?_
    rintro _ _ ⟨r4, I3, rfl, rfl, h⟩
    show am_Wp (d, "UnseenRing", b_U_gather, 2, false) 0 0 13 [some (.ref q), some (.int p1)] [.int r4] (I3, L, R, am_SH) (po_U_gather L R Q)
    exact am_iret d_U_gather_13 ⟨r4, I3, rfl, rfl, h⟩
abbrev po_Rows_firstGoodTune (I : am_TI) (L : am_TL) (R : am_TR) (Q : Int32 → Prop) : Option Value → am_St → Prop := fun r σ' => ∃ (x : Int32), r = some (.int x) ∧ σ' = (I, L, R, am_SH) ∧ Q x
def wl_Rows_firstGoodTune_18 (I : am_TI) (L : am_TL) (R : am_TR) (q : Nat) (p1 : Int32) (p2 : Int32) (p3 : Int32) (Q : Int32 → Prop)  : Nat → Int32 → Int32 → Prop
  | 0 => fun _ _ => False
  | f18 + 1 => fun v4 v5 => (((I q 5) ≤ v5 → Q (-1)) ∧ (¬ (I q 5) ≤ v5 → wp_Rows_left I L R q 0 p1 v5 (fun (r2 : Int32) => wp_Rows_left I L R q 1 p2 v5 (fun (r3 : Int32) => wp_Rows_left I L R q 2 p3 v5 (fun (r4 : Int32) => wp_Rows_index I L R r2 r3 r4 (fun (r5 : Int32) => (vp_in r5 729 ∧ (((I (q + 1) (Int32.toNatClampNeg r5)) = v4 → Q v5) ∧ (¬ (I (q + 1) (Int32.toNatClampNeg r5)) = v4 → wl_Rows_firstGoodTune_18 I L R q p1 p2 p3 Q f18 v4 (v5 + 1))))))))))
set_option maxRecDepth 20000 in
theorem tl_Rows_firstGoodTune_18 {d : Nat}  {I : am_TI} {L : am_TL} {R : am_TR} {q : Nat} {p1 : Int32} {p2 : Int32} {p3 : Int32} {Q : Int32 → Prop}  (hw : am_Wf R) (hq : am_SH[q]? = some (.inl 6)) (hd : 1 ≤ d) : ∀ (n : Nat) (v4 : Int32) (v5 : Int32), wl_Rows_firstGoodTune_18 I L R q p1 p2 p3 Q  n v4 v5 → am_Wp (d, "UnseenRing$Rows", b_Rows_firstGoodTune, 6, false) 0 0 18 [some (.ref q), some (.int p1), some (.int p2), some (.int p3), some (.int v4), some (.int v5)] [] (I, L, R, am_SH) (po_Rows_firstGoodTune I L R Q) := by
  intro n
  induction n with
  | zero => intro v4 v5 h; exact h.elim
  | succ n ih =>
    intro v4 v5 h
    unfold wl_Rows_firstGoodTune_18 at h
    refine am_iload (n := 20) d_Rows_firstGoodTune_18 rfl rfl ?_
    refine am_aload_n (n := 21) d_Rows_firstGoodTune_20 rfl rfl ?_
    refine am_getI (n := 24) f_Rows_28 d_Rows_firstGoodTune_21 rfl rfl hq ?_
    refine am_icmp_ge (tgt := 73) (n := 27) d_Rows_firstGoodTune_24 rfl rfl (fun c1 => ?_) (fun c1 => ?_)
    · have h := h.1 c1
      refine am_iconst (n := 74) d_Rows_firstGoodTune_73 ci_m1 rfl ?_
      exact am_iret d_Rows_firstGoodTune_74 ⟨(-1), rfl, rfl, h⟩
    · have h := h.2 c1
      refine am_aload_n (n := 28) d_Rows_firstGoodTune_27 rfl rfl ?_
      refine am_getR (x := (q + 1)) (n := 31) f_Rows_11 d_Rows_firstGoodTune_28 rfl rfl hq (hw.1 q 6 0 1 hq rfl) ?_
      refine am_aload_n (n := 32) d_Rows_firstGoodTune_31 rfl rfl ?_
      refine am_iconst (n := 33) d_Rows_firstGoodTune_32 ci_0 rfl ?_
      refine am_iload_n (n := 34) d_Rows_firstGoodTune_33 rfl rfl ?_
      refine am_iload (n := 36) d_Rows_firstGoodTune_34 rfl rfl ?_
      refine am_callV (kc := 0) (ks := 0) (As := [.int 0, .int p1, .int v5]) (n := 39) d_Rows_firstGoodTune_36 rfl ce_Rows_left lk_Rows_56 in_Rows_left rfl rfl hq rfl rfl (Nat.le_of_ble_eq_true rfl) (Or.inl rfl) (cm_Rows_left (d := d - 1) hw (by omega) hq h) (by omega) ?_
      rintro _ _ ⟨r2, rfl, rfl, h⟩
      show am_Wp (d, "UnseenRing$Rows", b_Rows_firstGoodTune, 6, false) 0 0 39 [some (.ref q), some (.int p1), some (.int p2), some (.int p3), some (.int v4), some (.int v5)] [.int r2, .ref (q + 1)] (I, L, R, am_SH) (po_Rows_firstGoodTune I L R Q)
      refine am_aload_n (n := 40) d_Rows_firstGoodTune_39 rfl rfl ?_
      refine am_iconst (n := 41) d_Rows_firstGoodTune_40 ci_1 rfl ?_
      refine am_iload_n (n := 42) d_Rows_firstGoodTune_41 rfl rfl ?_
      refine am_iload (n := 44) d_Rows_firstGoodTune_42 rfl rfl ?_
      refine am_callV (kc := 0) (ks := 0) (As := [.int 1, .int p2, .int v5]) (n := 47) d_Rows_firstGoodTune_44 rfl ce_Rows_left lk_Rows_56 in_Rows_left rfl rfl hq rfl rfl (Nat.le_of_ble_eq_true rfl) (Or.inl rfl) (cm_Rows_left (d := d - 1) hw (by omega) hq h) (by omega) ?_
      rintro _ _ ⟨r3, rfl, rfl, h⟩
      show am_Wp (d, "UnseenRing$Rows", b_Rows_firstGoodTune, 6, false) 0 0 47 [some (.ref q), some (.int p1), some (.int p2), some (.int p3), some (.int v4), some (.int v5)] [.int r3, .int r2, .ref (q + 1)] (I, L, R, am_SH) (po_Rows_firstGoodTune I L R Q)
      refine am_aload_n (n := 48) d_Rows_firstGoodTune_47 rfl rfl ?_
      refine am_iconst (n := 49) d_Rows_firstGoodTune_48 ci_2 rfl ?_
      refine am_iload_n (n := 50) d_Rows_firstGoodTune_49 rfl rfl ?_
      refine am_iload (n := 52) d_Rows_firstGoodTune_50 rfl rfl ?_
      refine am_callV (kc := 0) (ks := 0) (As := [.int 2, .int p3, .int v5]) (n := 55) d_Rows_firstGoodTune_52 rfl ce_Rows_left lk_Rows_56 in_Rows_left rfl rfl hq rfl rfl (Nat.le_of_ble_eq_true rfl) (Or.inl rfl) (cm_Rows_left (d := d - 1) hw (by omega) hq h) (by omega) ?_
      rintro _ _ ⟨r4, rfl, rfl, h⟩
      show am_Wp (d, "UnseenRing$Rows", b_Rows_firstGoodTune, 6, false) 0 0 55 [some (.ref q), some (.int p1), some (.int p2), some (.int p3), some (.int v4), some (.int v5)] [.int r4, .int r3, .int r2, .ref (q + 1)] (I, L, R, am_SH) (po_Rows_firstGoodTune I L R Q)
      refine am_callS (kc := 0) (ks := 0) (As := [.int r2, .int r3, .int r4]) (n := 58) d_Rows_firstGoodTune_55 rfl ce_Rows_index lk_Rows_49 st_Rows_index rfl rfl (Nat.le_of_ble_eq_true rfl) (Or.inl rfl) (cm_Rows_index (d := d - 1) hw (by omega)  h) (by omega) ?_
      rintro _ _ ⟨r5, rfl, rfl, h⟩
      show am_Wp (d, "UnseenRing$Rows", b_Rows_firstGoodTune, 6, false) 0 0 58 [some (.ref q), some (.int p1), some (.int p2), some (.int p3), some (.int v4), some (.int v5)] [.int r5, .ref (q + 1)] (I, L, R, am_SH) (po_Rows_firstGoodTune I L R Q)
      obtain ⟨g2, h⟩ := h
      refine am_iald2 (n := 59) d_Rows_firstGoodTune_58 rfl (am_sho (k := 0) (o := 1) hq (by decide) (by decide) (by decide) rfl) g2 rfl ?_
      refine am_iload (n := 61) d_Rows_firstGoodTune_59 rfl rfl ?_
      refine am_icmp_ne (tgt := 67) (n := 64) d_Rows_firstGoodTune_61 rfl rfl (fun c2 => ?_) (fun c2 => ?_)
      · have h := h.2 c2
        refine am_iinc (v := v5 + 1) (ls' := [some (.ref q), some (.int p1), some (.int p2), some (.int p3), some (.int v4), some (.int (v5 + 1))]) (n := 70) d_Rows_firstGoodTune_67 rfl (congrArg _ ci_1) (by decide) rfl rfl ?_
        refine am_goto (tgt := 18) d_Rows_firstGoodTune_70 rfl ?_
        exact ih v4 (v5 + 1)  h
      · have h := h.1 c2
        refine am_iload (n := 66) d_Rows_firstGoodTune_64 rfl rfl ?_
        exact am_iret d_Rows_firstGoodTune_66 ⟨v5, rfl, rfl, h⟩
def wp_Rows_firstGoodTune (I : am_TI) (L : am_TL) (R : am_TR) (q : Nat) (p1 : Int32) (p2 : Int32) (p3 : Int32)  (Q : Int32 → Prop) : Prop := wp_Rows_index I L R p1 p2 p3 (fun (r1 : Int32) => (vp_in r1 729 ∧ (∃ z, wl_Rows_firstGoodTune_18 I L R q p1 p2 p3 Q z ((I (q + 1) (Int32.toNatClampNeg r1)) - 1) 0)))
set_option maxRecDepth 20000 in
theorem cm_Rows_firstGoodTune {d : Nat} {I : am_TI} {L : am_TL} {R : am_TR}  (hw : am_Wf R)   {q : Nat} {p1 : Int32} {p2 : Int32} {p3 : Int32} {Q : Int32 → Prop} (hd : 1 ≤ d) (hq : am_SH[q]? = some (.inl 6)) (h : wp_Rows_firstGoodTune I L R q p1 p2 p3  Q) : am_Cm d 0 0 y_Rows_firstGoodTune b_Rows_firstGoodTune 6 (some .int) [.ref q, .int p1, .int p2, .int p3] (I, L, R, am_SH) (po_Rows_firstGoodTune I L R Q) := by
  refine am_Cm_of (ini := false) (by decide +kernel) (fun z => by cases z) (by simp [Value.category]) (fun r σ' z => by obtain ⟨x, rfl, -⟩ := z; exact ⟨_, rfl, rfl⟩) ?_
  unfold wp_Rows_firstGoodTune at h
  show am_Wp (d, "UnseenRing$Rows", b_Rows_firstGoodTune, 6, false) 0 0 0 [some (.ref q), some (.int p1), some (.int p2), some (.int p3), none, none] [] (I, L, R, am_SH) (po_Rows_firstGoodTune I L R Q)
  refine am_aload_n (n := 1) d_Rows_firstGoodTune_0 rfl rfl ?_
  refine am_getR (x := (q + 1)) (n := 4) f_Rows_11 d_Rows_firstGoodTune_1 rfl rfl hq (hw.1 q 6 0 1 hq rfl) ?_
  refine am_iload_n (n := 5) d_Rows_firstGoodTune_4 rfl rfl ?_
  refine am_iload_n (n := 6) d_Rows_firstGoodTune_5 rfl rfl ?_
  refine am_iload_n (n := 7) d_Rows_firstGoodTune_6 rfl rfl ?_
  refine am_callS (kc := 0) (ks := 0) (As := [.int p1, .int p2, .int p3]) (n := 10) d_Rows_firstGoodTune_7 rfl ce_Rows_index lk_Rows_49 st_Rows_index rfl rfl (Nat.le_of_ble_eq_true rfl) (Or.inl rfl) (cm_Rows_index (d := d - 1) hw (by omega)  h) (by omega) ?_
  rintro _ _ ⟨r1, rfl, rfl, h⟩
  show am_Wp (d, "UnseenRing$Rows", b_Rows_firstGoodTune, 6, false) 0 0 10 [some (.ref q), some (.int p1), some (.int p2), some (.int p3), none, none] [.int r1, .ref (q + 1)] (I, L, R, am_SH) (po_Rows_firstGoodTune I L R Q)
  obtain ⟨g1, h⟩ := h
  refine am_iald2 (n := 11) d_Rows_firstGoodTune_10 rfl (am_sho (k := 0) (o := 1) hq (by decide) (by decide) (by decide) rfl) g1 rfl ?_
  refine am_iconst (n := 12) d_Rows_firstGoodTune_11 ci_1 rfl ?_
  refine am_isub (n := 13) d_Rows_firstGoodTune_12 rfl ?_
  refine am_istore (ls' := [some (.ref q), some (.int p1), some (.int p2), some (.int p3), some (.int ((I (q + 1) (Int32.toNatClampNeg r1)) - 1)), none]) (n := 15) d_Rows_firstGoodTune_13 (by decide) rfl rfl ?_
  refine am_iconst (n := 16) d_Rows_firstGoodTune_15 ci_0 rfl ?_
  refine am_istore (ls' := [some (.ref q), some (.int p1), some (.int p2), some (.int p3), some (.int ((I (q + 1) (Int32.toNatClampNeg r1)) - 1)), some (.int 0)]) (n := 18) d_Rows_firstGoodTune_16 (by decide) rfl rfl ?_
  obtain ⟨n, h⟩ := h
  exact tl_Rows_firstGoodTune_18 hw hq hd n ((I (q + 1) (Int32.toNatClampNeg r1)) - 1) 0 h
abbrev po_Rows_tuneOfRow (I : am_TI) (L : am_TL) (R : am_TR) (Q : Int32 → Prop) : Option Value → am_St → Prop := fun r σ' => ∃ (x : Int32), r = some (.int x) ∧ σ' = (I, L, R, am_SH) ∧ Q x
def wl_Rows_tuneOfRow_28 (I : am_TI) (L : am_TL) (R : am_TR) (q : Nat) (p1 : Int32) (Q : Int32 → Prop)  : Nat → Int32 → Int32 → Int32 → Int32 → Int32 → Prop
  | 0 => fun _ _ _ _ _ => False
  | f28 + 1 => fun v2 v3 v4 v5 v6 => ((p1 < v6 → Q v5) ∧ (¬ p1 < v6 → wp_Rows_firstGoodTune I L R q v2 v3 v4 (fun (r1 : Int32) => wp_Rows_left I L R q 0 v2 r1 (fun (r2 : Int32) => wp_Rows_left I L R q 1 v3 r1 (fun (r3 : Int32) => wp_Rows_left I L R q 2 v4 r1 (fun (r4 : Int32) => wl_Rows_tuneOfRow_28 I L R q p1 Q f28 r2 r3 r4 r1 (v6 + 1)))))))
set_option maxRecDepth 20000 in
theorem tl_Rows_tuneOfRow_28 {d : Nat}  {I : am_TI} {L : am_TL} {R : am_TR} {q : Nat} {p1 : Int32} {Q : Int32 → Prop}  (hw : am_Wf R) (hq : am_SH[q]? = some (.inl 6)) (hd : 2 ≤ d) : ∀ (n : Nat) (v2 : Int32) (v3 : Int32) (v4 : Int32) (v5 : Int32) (v6 : Int32), wl_Rows_tuneOfRow_28 I L R q p1 Q  n v2 v3 v4 v5 v6 → am_Wp (d, "UnseenRing$Rows", b_Rows_tuneOfRow, 7, false) 0 0 28 [some (.ref q), some (.int p1), some (.int v2), some (.int v3), some (.int v4), some (.int v5), some (.int v6)] [] (I, L, R, am_SH) (po_Rows_tuneOfRow I L R Q) := by
  intro n
  induction n with
  | zero => intro v2 v3 v4 v5 v6 h; exact h.elim
  | succ n ih =>
    intro v2 v3 v4 v5 v6 h
    unfold wl_Rows_tuneOfRow_28 at h
    refine am_iload (n := 30) d_Rows_tuneOfRow_28 rfl rfl ?_
    refine am_iload_n (n := 31) d_Rows_tuneOfRow_30 rfl rfl ?_
    refine am_icmp_gt (tgt := 79) (n := 34) d_Rows_tuneOfRow_31 rfl rfl (fun c1 => ?_) (fun c1 => ?_)
    · have h := h.1 c1
      refine am_iload (n := 81) d_Rows_tuneOfRow_79 rfl rfl ?_
      exact am_iret d_Rows_tuneOfRow_81 ⟨v5, rfl, rfl, h⟩
    · have h := h.2 c1
      refine am_aload_n (n := 35) d_Rows_tuneOfRow_34 rfl rfl ?_
      refine am_iload_n (n := 36) d_Rows_tuneOfRow_35 rfl rfl ?_
      refine am_iload_n (n := 37) d_Rows_tuneOfRow_36 rfl rfl ?_
      refine am_iload (n := 39) d_Rows_tuneOfRow_37 rfl rfl ?_
      refine am_callV (kc := 0) (ks := 0) (As := [.int v2, .int v3, .int v4]) (n := 42) d_Rows_tuneOfRow_39 rfl ce_Rows_firstGoodTune lk_Rows_65 in_Rows_firstGoodTune rfl rfl hq rfl rfl (Nat.le_of_ble_eq_true rfl) (Or.inl rfl) (cm_Rows_firstGoodTune (d := d - 1) hw (by omega) hq h) (by omega) ?_
      rintro _ _ ⟨r1, rfl, rfl, h⟩
      show am_Wp (d, "UnseenRing$Rows", b_Rows_tuneOfRow, 7, false) 0 0 42 [some (.ref q), some (.int p1), some (.int v2), some (.int v3), some (.int v4), some (.int v5), some (.int v6)] [.int r1] (I, L, R, am_SH) (po_Rows_tuneOfRow I L R Q)
      refine am_istore (ls' := [some (.ref q), some (.int p1), some (.int v2), some (.int v3), some (.int v4), some (.int r1), some (.int v6)]) (n := 44) d_Rows_tuneOfRow_42 (by decide) rfl rfl ?_
      refine am_aload_n (n := 45) d_Rows_tuneOfRow_44 rfl rfl ?_
      refine am_iconst (n := 46) d_Rows_tuneOfRow_45 ci_0 rfl ?_
      refine am_iload_n (n := 47) d_Rows_tuneOfRow_46 rfl rfl ?_
      refine am_iload (n := 49) d_Rows_tuneOfRow_47 rfl rfl ?_
      refine am_callV (kc := 0) (ks := 0) (As := [.int 0, .int v2, .int r1]) (n := 52) d_Rows_tuneOfRow_49 rfl ce_Rows_left lk_Rows_56 in_Rows_left rfl rfl hq rfl rfl (Nat.le_of_ble_eq_true rfl) (Or.inl rfl) (cm_Rows_left (d := d - 1) hw (by omega) hq h) (by omega) ?_
      rintro _ _ ⟨r2, rfl, rfl, h⟩
      show am_Wp (d, "UnseenRing$Rows", b_Rows_tuneOfRow, 7, false) 0 0 52 [some (.ref q), some (.int p1), some (.int v2), some (.int v3), some (.int v4), some (.int r1), some (.int v6)] [.int r2] (I, L, R, am_SH) (po_Rows_tuneOfRow I L R Q)
      refine am_istore_n (ls' := [some (.ref q), some (.int p1), some (.int r2), some (.int v3), some (.int v4), some (.int r1), some (.int v6)]) (n := 53) d_Rows_tuneOfRow_52 (by decide) rfl rfl ?_
      refine am_aload_n (n := 54) d_Rows_tuneOfRow_53 rfl rfl ?_
      refine am_iconst (n := 55) d_Rows_tuneOfRow_54 ci_1 rfl ?_
      refine am_iload_n (n := 56) d_Rows_tuneOfRow_55 rfl rfl ?_
      refine am_iload (n := 58) d_Rows_tuneOfRow_56 rfl rfl ?_
      refine am_callV (kc := 0) (ks := 0) (As := [.int 1, .int v3, .int r1]) (n := 61) d_Rows_tuneOfRow_58 rfl ce_Rows_left lk_Rows_56 in_Rows_left rfl rfl hq rfl rfl (Nat.le_of_ble_eq_true rfl) (Or.inl rfl) (cm_Rows_left (d := d - 1) hw (by omega) hq h) (by omega) ?_
      rintro _ _ ⟨r3, rfl, rfl, h⟩
      show am_Wp (d, "UnseenRing$Rows", b_Rows_tuneOfRow, 7, false) 0 0 61 [some (.ref q), some (.int p1), some (.int r2), some (.int v3), some (.int v4), some (.int r1), some (.int v6)] [.int r3] (I, L, R, am_SH) (po_Rows_tuneOfRow I L R Q)
      refine am_istore_n (ls' := [some (.ref q), some (.int p1), some (.int r2), some (.int r3), some (.int v4), some (.int r1), some (.int v6)]) (n := 62) d_Rows_tuneOfRow_61 (by decide) rfl rfl ?_
      refine am_aload_n (n := 63) d_Rows_tuneOfRow_62 rfl rfl ?_
      refine am_iconst (n := 64) d_Rows_tuneOfRow_63 ci_2 rfl ?_
      refine am_iload (n := 66) d_Rows_tuneOfRow_64 rfl rfl ?_
      refine am_iload (n := 68) d_Rows_tuneOfRow_66 rfl rfl ?_
      refine am_callV (kc := 0) (ks := 0) (As := [.int 2, .int v4, .int r1]) (n := 71) d_Rows_tuneOfRow_68 rfl ce_Rows_left lk_Rows_56 in_Rows_left rfl rfl hq rfl rfl (Nat.le_of_ble_eq_true rfl) (Or.inl rfl) (cm_Rows_left (d := d - 1) hw (by omega) hq h) (by omega) ?_
      rintro _ _ ⟨r4, rfl, rfl, h⟩
      show am_Wp (d, "UnseenRing$Rows", b_Rows_tuneOfRow, 7, false) 0 0 71 [some (.ref q), some (.int p1), some (.int r2), some (.int r3), some (.int v4), some (.int r1), some (.int v6)] [.int r4] (I, L, R, am_SH) (po_Rows_tuneOfRow I L R Q)
      refine am_istore (ls' := [some (.ref q), some (.int p1), some (.int r2), some (.int r3), some (.int r4), some (.int r1), some (.int v6)]) (n := 73) d_Rows_tuneOfRow_71 (by decide) rfl rfl ?_
      refine am_iinc (v := v6 + 1) (ls' := [some (.ref q), some (.int p1), some (.int r2), some (.int r3), some (.int r4), some (.int r1), some (.int (v6 + 1))]) (n := 76) d_Rows_tuneOfRow_73 rfl (congrArg _ ci_1) (by decide) rfl rfl ?_
      refine am_goto (tgt := 28) d_Rows_tuneOfRow_76 rfl ?_
      exact ih r2 r3 r4 r1 (v6 + 1)  h
def wp_Rows_tuneOfRow (I : am_TI) (L : am_TL) (R : am_TR) (q : Nat) (p1 : Int32)  (Q : Int32 → Prop) : Prop := (∃ z, wl_Rows_tuneOfRow_28 I L R q p1 Q z (I (q + 2) 0) (I (q + 2) 1) (I (q + 2) 2) (-1) 0)
set_option maxRecDepth 20000 in
theorem cm_Rows_tuneOfRow {d : Nat} {I : am_TI} {L : am_TL} {R : am_TR}  (hw : am_Wf R)   {q : Nat} {p1 : Int32} {Q : Int32 → Prop} (hd : 2 ≤ d) (hq : am_SH[q]? = some (.inl 6)) (h : wp_Rows_tuneOfRow I L R q p1  Q) : am_Cm d 0 0 y_Rows_tuneOfRow b_Rows_tuneOfRow 7 (some .int) [.ref q, .int p1] (I, L, R, am_SH) (po_Rows_tuneOfRow I L R Q) := by
  refine am_Cm_of (ini := false) (by decide +kernel) (fun z => by cases z) (by simp [Value.category]) (fun r σ' z => by obtain ⟨x, rfl, -⟩ := z; exact ⟨_, rfl, rfl⟩) ?_
  unfold wp_Rows_tuneOfRow at h
  show am_Wp (d, "UnseenRing$Rows", b_Rows_tuneOfRow, 7, false) 0 0 0 [some (.ref q), some (.int p1), none, none, none, none, none] [] (I, L, R, am_SH) (po_Rows_tuneOfRow I L R Q)
  refine am_aload_n (n := 1) d_Rows_tuneOfRow_0 rfl rfl ?_
  refine am_getR (x := (q + 2)) (n := 4) f_Rows_15 d_Rows_tuneOfRow_1 rfl rfl hq (hw.1 q 6 1 2 hq rfl) ?_
  refine am_iconst (n := 5) d_Rows_tuneOfRow_4 ci_0 rfl ?_
  refine am_iald2 (n := 6) d_Rows_tuneOfRow_5 rfl (am_sho (k := 1) (o := 2) hq (by decide) (by decide) (by decide) rfl) cx_0_6 cn_0 ?_
  refine am_istore_n (ls' := [some (.ref q), some (.int p1), some (.int (I (q + 2) 0)), none, none, none, none]) (n := 7) d_Rows_tuneOfRow_6 (by decide) rfl rfl ?_
  refine am_aload_n (n := 8) d_Rows_tuneOfRow_7 rfl rfl ?_
  refine am_getR (x := (q + 2)) (n := 11) f_Rows_15 d_Rows_tuneOfRow_8 rfl rfl hq (hw.1 q 6 1 2 hq rfl) ?_
  refine am_iconst (n := 12) d_Rows_tuneOfRow_11 ci_1 rfl ?_
  refine am_iald2 (n := 13) d_Rows_tuneOfRow_12 rfl (am_sho (k := 1) (o := 2) hq (by decide) (by decide) (by decide) rfl) cx_1_6 cn_1 ?_
  refine am_istore_n (ls' := [some (.ref q), some (.int p1), some (.int (I (q + 2) 0)), some (.int (I (q + 2) 1)), none, none, none]) (n := 14) d_Rows_tuneOfRow_13 (by decide) rfl rfl ?_
  refine am_aload_n (n := 15) d_Rows_tuneOfRow_14 rfl rfl ?_
  refine am_getR (x := (q + 2)) (n := 18) f_Rows_15 d_Rows_tuneOfRow_15 rfl rfl hq (hw.1 q 6 1 2 hq rfl) ?_
  refine am_iconst (n := 19) d_Rows_tuneOfRow_18 ci_2 rfl ?_
  refine am_iald2 (n := 20) d_Rows_tuneOfRow_19 rfl (am_sho (k := 1) (o := 2) hq (by decide) (by decide) (by decide) rfl) cx_2_6 cn_2 ?_
  refine am_istore (ls' := [some (.ref q), some (.int p1), some (.int (I (q + 2) 0)), some (.int (I (q + 2) 1)), some (.int (I (q + 2) 2)), none, none]) (n := 22) d_Rows_tuneOfRow_20 (by decide) rfl rfl ?_
  refine am_iconst (n := 23) d_Rows_tuneOfRow_22 ci_m1 rfl ?_
  refine am_istore (ls' := [some (.ref q), some (.int p1), some (.int (I (q + 2) 0)), some (.int (I (q + 2) 1)), some (.int (I (q + 2) 2)), some (.int (-1)), none]) (n := 25) d_Rows_tuneOfRow_23 (by decide) rfl rfl ?_
  refine am_iconst (n := 26) d_Rows_tuneOfRow_25 ci_0 rfl ?_
  refine am_istore (ls' := [some (.ref q), some (.int p1), some (.int (I (q + 2) 0)), some (.int (I (q + 2) 1)), some (.int (I (q + 2) 2)), some (.int (-1)), some (.int 0)]) (n := 28) d_Rows_tuneOfRow_26 (by decide) rfl rfl ?_
  obtain ⟨n, h⟩ := h
  exact tl_Rows_tuneOfRow_28 hw hq hd n (I (q + 2) 0) (I (q + 2) 1) (I (q + 2) 2) (-1) 0 h
abbrev po_U_gatherAt (L : am_TL) (R : am_TR) (Q : Int32 → am_TI → Prop) : Option Value → am_St → Prop := fun r σ' => ∃ (x : Int32) (I' : am_TI), r = some (.int x) ∧ σ' = (I', L, R, am_SH) ∧ Q x I'
def wb_U_gatherAt_12 (L : am_TL) (R : am_TR) (q : Nat) (p1 : Int32) (p2 : Int32) (Q : Int32 → am_TI → Prop)  (I : am_TI) : Prop := wp_U_refused I L R q 1 (fun (r2 : Int32) (I1 : am_TI) => Q r2 I1)
set_option maxRecDepth 20000 in
theorem tb_U_gatherAt_12 {d : Nat}  {L : am_TL} {R : am_TR} {q : Nat} {p1 : Int32} {p2 : Int32} {Q : Int32 → am_TI → Prop}  (hw : am_Wf R) (hq : am_SH[q]? = some (.inl 11)) (hd : 4 ≤ d) (I : am_TI) (h : wb_U_gatherAt_12 L R q p1 p2 Q  I) : am_Wp (d, "UnseenRing", b_U_gatherAt, 4, false) 0 0 12 [some (.ref q), some (.int p1), some (.int p2), none] [] (I, L, R, am_SH) (po_U_gatherAt L R Q) := by
  unfold wb_U_gatherAt_12 at h
  refine am_aload_n (n := 13) d_U_gatherAt_12 rfl rfl ?_
  refine am_iconst (n := 14) d_U_gatherAt_13 ci_1 rfl ?_
  refine am_callV (kc := 0) (ks := 0) (As := [.int 1]) (n := 17) d_U_gatherAt_14 rfl ce_U_refused lk_U_133 in_U_refused rfl rfl hq rfl rfl (Nat.le_of_ble_eq_true rfl) (Or.inl rfl) (cm_U_refused (d := d - 1) hw (by omega) hq h) (by omega) ?_
  rintro _ _ ⟨r2, I1, rfl, rfl, h⟩
  show am_Wp (d, "UnseenRing", b_U_gatherAt, 4, false) 0 0 17 [some (.ref q), some (.int p1), some (.int p2), none] [.int r2] (I1, L, R, am_SH) (po_U_gatherAt L R Q)
  exact am_iret d_U_gatherAt_17 ⟨r2, I1, rfl, rfl, h⟩
def wb_U_gatherAt_49 (L : am_TL) (R : am_TR) (q : Nat) (p1 : Int32) (p2 : Int32) (Q : Int32 → am_TI → Prop)  (I : am_TI) (s0 : Nat) (s1 : Int32) : Prop := wp_U_answeredIfThereIs I L R s0 s1 (fun (r4 : Int32) (I3 : am_TI) => Q r4 I3)
set_option maxRecDepth 20000 in
theorem tb_U_gatherAt_49 {d : Nat}  {L : am_TL} {R : am_TR} {q : Nat} {p1 : Int32} {p2 : Int32} {Q : Int32 → am_TI → Prop}  (hw : am_Wf R) (hq : am_SH[q]? = some (.inl 11)) (hd : 4 ≤ d) (I : am_TI) (s0 : Nat) (s1 : Int32) (hs0 : am_SH[s0]? = some (.inl 11)) (h : wb_U_gatherAt_49 L R q p1 p2 Q  I s0 s1) : am_Wp (d, "UnseenRing", b_U_gatherAt, 4, false) 0 0 49 [some (.ref q), some (.int p1), some (.int p2), none] [.int s1, .ref s0] (I, L, R, am_SH) (po_U_gatherAt L R Q) := by
  unfold wb_U_gatherAt_49 at h
  refine am_callV (kc := 0) (ks := 0) (As := [.int s1]) (n := 52) d_U_gatherAt_49 rfl ce_U_answeredIfThereIs lk_U_301 in_U_answeredIfThereIs rfl rfl hs0 rfl rfl (Nat.le_of_ble_eq_true rfl) (Or.inl rfl) (cm_U_answeredIfThereIs (d := d - 1) hw (by omega) hs0 h) (by omega) ?_
  rintro _ _ ⟨r4, I3, rfl, rfl, h⟩
  show am_Wp (d, "UnseenRing", b_U_gatherAt, 4, false) 0 0 52 [some (.ref q), some (.int p1), some (.int p2), none] [.int r4] (I3, L, R, am_SH) (po_U_gatherAt L R Q)
  exact am_iret d_U_gatherAt_52 ⟨r4, I3, rfl, rfl, h⟩
def wp_U_gatherAt (I : am_TI) (L : am_TL) (R : am_TR) (q : Nat) (p1 : Int32) (p2 : Int32)  (Q : Int32 → am_TI → Prop) : Prop := wp_U_canGather I L R q p1 (fun (r1 : Bool) => ((r1 = false → wb_U_gatherAt_12 L R q p1 p2 Q I) ∧ (r1 = true → ((0 ≤ p2 → wp_Rows_fewestTunes I L R (q + 16) (am_rd R q 11) p1 (fun (r3 : Int32) (I2 : am_TI) => ((r3 ≤ p2 → wb_U_gatherAt_49 L R q p1 p2 Q I2 q (-1)) ∧ (¬ r3 ≤ p2 → wp_Rows_tuneOfRow I2 L R (q + 16) p2 (fun (r5 : Int32) => wb_U_gatherAt_49 L R q p1 p2 Q I2 q r5))))) ∧ (¬ 0 ≤ p2 → wb_U_gatherAt_12 L R q p1 p2 Q I)))))
set_option maxRecDepth 20000 in
theorem cm_U_gatherAt {d : Nat} {I : am_TI} {L : am_TL} {R : am_TR}  (hw : am_Wf R)   {q : Nat} {p1 : Int32} {p2 : Int32} {Q : Int32 → am_TI → Prop} (hd : 4 ≤ d) (hq : am_SH[q]? = some (.inl 11)) (h : wp_U_gatherAt I L R q p1 p2  Q) : am_Cm d 0 0 y_U_gatherAt b_U_gatherAt 4 (some .int) [.ref q, .int p1, .int p2] (I, L, R, am_SH) (po_U_gatherAt L R Q) := by
  refine am_Cm_of (ini := false) (by decide +kernel) (fun z => by cases z) (by simp [Value.category]) (fun r σ' z => by obtain ⟨x, _, rfl, -⟩ := z; exact ⟨_, rfl, rfl⟩) ?_
  unfold wp_U_gatherAt at h
  show am_Wp (d, "UnseenRing", b_U_gatherAt, 4, false) 0 0 0 [some (.ref q), some (.int p1), some (.int p2), none] [] (I, L, R, am_SH) (po_U_gatherAt L R Q)
  refine am_aload_n (n := 1) d_U_gatherAt_0 rfl rfl ?_
  refine am_iload_n (n := 2) d_U_gatherAt_1 rfl rfl ?_
  refine am_callV (kc := 0) (ks := 0) (As := [.int p1]) (n := 5) d_U_gatherAt_2 rfl ce_U_canGather lk_U_294 in_U_canGather rfl rfl hq rfl rfl (Nat.le_of_ble_eq_true rfl) (Or.inl rfl) (cm_U_canGather (d := d - 1) hw (by omega) hq h) (by omega) ?_
  rintro _ _ ⟨r1, rfl, rfl, h⟩
  show am_Wp (d, "UnseenRing", b_U_gatherAt, 4, false) 0 0 5 [some (.ref q), some (.int p1), some (.int p2), none] [.int (am_b r1)] (I, L, R, am_SH) (po_U_gatherAt L R Q)
  refine am_if_eq (y := 0) (tgt := 12) (n := 8) d_U_gatherAt_5 rfl rfl (fun c1 => ?_) (fun c1 => ?_)
  · have h := h.1 (am_b_0 c1)
    exact tb_U_gatherAt_12 hw hq hd I h
  · have h := h.2 (am_b_n0 c1)
    refine am_iload_n (n := 9) d_U_gatherAt_8 rfl rfl ?_
    refine am_if_ge (y := 0) (tgt := 18) (n := 12) d_U_gatherAt_9 rfl rfl (fun c2 => ?_) (fun c2 => ?_)
    · have h := h.1 c2
      refine am_aload_n (n := 19) d_U_gatherAt_18 rfl rfl ?_
      refine am_getR (x := (q + 16)) (n := 22) f_U_55 d_U_gatherAt_19 rfl rfl hq (hw.1 q 11 7 16 hq rfl) ?_
      refine am_aload_n (n := 23) d_U_gatherAt_22 rfl rfl ?_
      refine am_getR (x := (am_rd R q 11)) (n := 26) f_U_81 d_U_gatherAt_23 rfl rfl hq (hw.rd (k := 11) hq rfl).1 ?_
      refine am_iload_n (n := 27) d_U_gatherAt_26 rfl rfl ?_
      refine am_callV (kc := 0) (ks := 0) (As := [.ref (am_rd R q 11), .int p1]) (n := 30) d_U_gatherAt_27 rfl ce_Rows_fewestTunes lk_U_297 in_Rows_fewestTunes rfl rfl (am_sho (k := 7) (o := 16) hq (by decide) (by decide) (by decide) rfl) rfl rfl (Nat.le_of_ble_eq_true rfl) (Or.inl rfl) (cm_Rows_fewestTunes (d := d - 1) hw (by omega) (am_sho (k := 7) (o := 16) hq (by decide) (by decide) (by decide) rfl) (hw.rd (k := 11) hq rfl).2 h) (by omega) ?_
      rintro _ _ ⟨r3, I2, rfl, rfl, h⟩
      show am_Wp (d, "UnseenRing", b_U_gatherAt, 4, false) 0 0 30 [some (.ref q), some (.int p1), some (.int p2), none] [.int r3] (I2, L, R, am_SH) (po_U_gatherAt L R Q)
      refine am_istore_n (ls' := [some (.ref q), some (.int p1), some (.int p2), some (.int r3)]) (n := 31) d_U_gatherAt_30 (by decide) rfl rfl ?_
      refine am_aload_n (n := 32) d_U_gatherAt_31 rfl rfl ?_
      refine am_iload_n (n := 33) d_U_gatherAt_32 rfl rfl ?_
      refine am_iload_n (n := 34) d_U_gatherAt_33 rfl rfl ?_
      refine am_icmp_ge (tgt := 48) (n := 37) d_U_gatherAt_34 rfl rfl (fun c3 => ?_) (fun c3 => ?_)
      · have h := h.1 c3
        refine am_iconst (n := 49) d_U_gatherAt_48 ci_m1 rfl ?_
        refine am_forget (ls' := [some (.ref q), some (.int p1), some (.int p2), none]) (am_le_s (am_le_s (am_le_s (am_le_n am_le_e)))) ?_
        exact tb_U_gatherAt_49 hw hq hd I2 q (-1) hq h
      · have h := h.2 c3
        refine am_aload_n (n := 38) d_U_gatherAt_37 rfl rfl ?_
        refine am_getR (x := (q + 16)) (n := 41) f_U_55 d_U_gatherAt_38 rfl rfl hq (hw.1 q 11 7 16 hq rfl) ?_
        refine am_iload_n (n := 42) d_U_gatherAt_41 rfl rfl ?_
        refine am_callV (kc := 0) (ks := 0) (As := [.int p2]) (n := 45) d_U_gatherAt_42 rfl ce_Rows_tuneOfRow lk_U_304 in_Rows_tuneOfRow rfl rfl (am_sho (k := 7) (o := 16) hq (by decide) (by decide) (by decide) rfl) rfl rfl (Nat.le_of_ble_eq_true rfl) (Or.inl rfl) (cm_Rows_tuneOfRow (d := d - 1) hw (by omega) (am_sho (k := 7) (o := 16) hq (by decide) (by decide) (by decide) rfl) h) (by omega) ?_
        rintro _ _ ⟨r5, rfl, rfl, h⟩
        show am_Wp (d, "UnseenRing", b_U_gatherAt, 4, false) 0 0 45 [some (.ref q), some (.int p1), some (.int p2), some (.int r3)] [.int r5, .ref q] (I2, L, R, am_SH) (po_U_gatherAt L R Q)
        refine am_goto (tgt := 49) d_U_gatherAt_45 rfl ?_
        refine am_forget (ls' := [some (.ref q), some (.int p1), some (.int p2), none]) (am_le_s (am_le_s (am_le_s (am_le_n am_le_e)))) ?_
        exact tb_U_gatherAt_49 hw hq hd I2 q r5 hq h
    · have h := h.2 c2
      exact tb_U_gatherAt_12 hw hq hd I h
