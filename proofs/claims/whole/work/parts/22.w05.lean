abbrev po_M_dogsBy (I : am_TI) (L : am_TL) (R : am_TR) (Q : Int32 → Prop) : Option Value → am_St → Prop := fun r σ' => ∃ (x : Int32), r = some (.int x) ∧ σ' = (I, L, R, am_SH) ∧ Q x
def wl_M_dogsBy_4 (I : am_TI) (L : am_TL) (R : am_TR) (q : Nat) (p1 : Int32) (Q : Int32 → Prop)  : Nat → Int32 → Int32 → Prop
  | 0 => fun _ _ => False
  | f4 + 1 => fun v2 v3 => (((I (q + 1) 4) ≤ v3 → Q v2) ∧ (¬ (I (q + 1) 4) ≤ v3 → (vp_in (34 + v3) 2258 ∧ wp_M_farBetween I L R q (I (q + 1) (Int32.toNatClampNeg (34 + v3))) p1 (fun (r1 : Int32) => ((2 ≤ r1 → wl_M_dogsBy_4 I L R q p1 Q f4 (v2 ||| 0) (v3 + 1)) ∧ (¬ 2 ≤ r1 → wl_M_dogsBy_4 I L R q p1 Q f4 (v2 ||| ((1 : Int32) <<< (v3 &&& 31))) (v3 + 1)))))))
set_option maxRecDepth 20000 in
theorem tl_M_dogsBy_4 {d : Nat}  {I : am_TI} {L : am_TL} {R : am_TR} {q : Nat} {p1 : Int32} {Q : Int32 → Prop}  (hw : am_Wf R) (hq : am_SH[q]? = some (.inl 12)) (hd : 2 ≤ d) : ∀ (n : Nat) (v2 : Int32) (v3 : Int32), wl_M_dogsBy_4 I L R q p1 Q  n v2 v3 → am_Wp (d, "UnseenRingModel", b_M_dogsBy, 4, false) 0 0 4 [some (.ref q), some (.int p1), some (.int v2), some (.int v3)] [] (I, L, R, am_SH) (po_M_dogsBy I L R Q) := by
  intro n
  induction n with
  | zero => intro v2 v3 h; exact h.elim
  | succ n ih =>
    intro v2 v3 h
    unfold wl_M_dogsBy_4 at h
    refine am_iload_n (n := 5) d_M_dogsBy_4 rfl rfl ?_
    refine am_aload_n (n := 6) d_M_dogsBy_5 rfl rfl ?_
    refine am_getR (x := (q + 1)) (n := 9) f_M_7 d_M_dogsBy_6 rfl rfl hq (hw.1 q 12 0 1 hq rfl) ?_
    refine am_iconst (n := 10) d_M_dogsBy_9 ci_4 rfl ?_
    refine am_iald2 (n := 11) d_M_dogsBy_10 rfl (am_sho (k := 0) (o := 1) hq (by decide) (by decide) (by decide) rfl) cx_4_2258 cn_4 ?_
    refine am_icmp_ge (tgt := 48) (n := 14) d_M_dogsBy_11 rfl rfl (fun c1 => ?_) (fun c1 => ?_)
    · have h := h.1 c1
      refine am_iload_n (n := 49) d_M_dogsBy_48 rfl rfl ?_
      exact am_iret d_M_dogsBy_49 ⟨v2, rfl, rfl, h⟩
    · have h := h.2 c1
      refine am_iload_n (n := 15) d_M_dogsBy_14 rfl rfl ?_
      refine am_aload_n (n := 16) d_M_dogsBy_15 rfl rfl ?_
      refine am_aload_n (n := 17) d_M_dogsBy_16 rfl rfl ?_
      refine am_getR (x := (q + 1)) (n := 20) f_M_7 d_M_dogsBy_17 rfl rfl hq (hw.1 q 12 0 1 hq rfl) ?_
      refine am_bipush (n := 22) d_M_dogsBy_20 cb_34 rfl ?_
      refine am_iload_n (n := 23) d_M_dogsBy_22 rfl rfl ?_
      refine am_iadd (n := 24) d_M_dogsBy_23 rfl ?_
      obtain ⟨g1, h⟩ := h
      refine am_iald2 (n := 25) d_M_dogsBy_24 rfl (am_sho (k := 0) (o := 1) hq (by decide) (by decide) (by decide) rfl) g1 rfl ?_
      refine am_iload_n (n := 26) d_M_dogsBy_25 rfl rfl ?_
      refine am_callV (kc := 0) (ks := 0) (As := [.int (I (q + 1) (Int32.toNatClampNeg (34 + v3))), .int p1]) (n := 29) d_M_dogsBy_26 rfl ce_M_farBetween lk_M_316 in_M_farBetween rfl rfl hq rfl rfl (Nat.le_of_ble_eq_true rfl) (Or.inl rfl) (cm_M_farBetween (d := d - 1) hw (by omega) hq h) (by omega) ?_
      rintro _ _ ⟨r1, rfl, rfl, h⟩
      show am_Wp (d, "UnseenRingModel", b_M_dogsBy, 4, false) 0 0 29 [some (.ref q), some (.int p1), some (.int v2), some (.int v3)] [.int r1, .int v2] (I, L, R, am_SH) (po_M_dogsBy I L R Q)
      refine am_iconst (n := 30) d_M_dogsBy_29 ci_2 rfl ?_
      refine am_icmp_ge (tgt := 39) (n := 33) d_M_dogsBy_30 rfl rfl (fun c2 => ?_) (fun c2 => ?_)
      · have h := h.1 c2
        refine am_iconst (n := 40) d_M_dogsBy_39 ci_0 rfl ?_
        refine am_ior (n := 41) d_M_dogsBy_40 rfl ?_
        refine am_istore_n (ls' := [some (.ref q), some (.int p1), some (.int (v2 ||| 0)), some (.int v3)]) (n := 42) d_M_dogsBy_41 (by decide) rfl rfl ?_
        refine am_iinc (v := v3 + 1) (ls' := [some (.ref q), some (.int p1), some (.int (v2 ||| 0)), some (.int (v3 + 1))]) (n := 45) d_M_dogsBy_42 rfl (congrArg _ ci_1) (by decide) rfl rfl ?_
        refine am_goto (tgt := 4) d_M_dogsBy_45 rfl ?_
        exact ih (v2 ||| 0) (v3 + 1)  h
      · have h := h.2 c2
        refine am_iconst (n := 34) d_M_dogsBy_33 ci_1 rfl ?_
        refine am_iload_n (n := 35) d_M_dogsBy_34 rfl rfl ?_
        refine am_ishl (n := 36) d_M_dogsBy_35 rfl ?_
        refine am_goto (tgt := 40) d_M_dogsBy_36 rfl ?_
        refine am_ior (n := 41) d_M_dogsBy_40 rfl ?_
        refine am_istore_n (ls' := [some (.ref q), some (.int p1), some (.int (v2 ||| ((1 : Int32) <<< (v3 &&& 31)))), some (.int v3)]) (n := 42) d_M_dogsBy_41 (by decide) rfl rfl ?_
        refine am_iinc (v := v3 + 1) (ls' := [some (.ref q), some (.int p1), some (.int (v2 ||| ((1 : Int32) <<< (v3 &&& 31)))), some (.int (v3 + 1))]) (n := 45) d_M_dogsBy_42 rfl (congrArg _ ci_1) (by decide) rfl rfl ?_
        refine am_goto (tgt := 4) d_M_dogsBy_45 rfl ?_
        exact ih (v2 ||| ((1 : Int32) <<< (v3 &&& 31))) (v3 + 1)  h
def wp_M_dogsBy (I : am_TI) (L : am_TL) (R : am_TR) (q : Nat) (p1 : Int32)  (Q : Int32 → Prop) : Prop := (∃ z, wl_M_dogsBy_4 I L R q p1 Q z 0 0)
set_option maxRecDepth 20000 in
theorem cm_M_dogsBy {d : Nat} {I : am_TI} {L : am_TL} {R : am_TR}  (hw : am_Wf R)   {q : Nat} {p1 : Int32} {Q : Int32 → Prop} (hd : 2 ≤ d) (hq : am_SH[q]? = some (.inl 12)) (h : wp_M_dogsBy I L R q p1  Q) : am_Cm d 0 0 y_M_dogsBy b_M_dogsBy 4 (some .int) [.ref q, .int p1] (I, L, R, am_SH) (po_M_dogsBy I L R Q) := by
  refine am_Cm_of (ini := false) (by decide +kernel) (fun z => by cases z) (by simp [Value.category]) (fun r σ' z => by obtain ⟨x, rfl, -⟩ := z; exact ⟨_, rfl, rfl⟩) ?_
  unfold wp_M_dogsBy at h
  show am_Wp (d, "UnseenRingModel", b_M_dogsBy, 4, false) 0 0 0 [some (.ref q), some (.int p1), none, none] [] (I, L, R, am_SH) (po_M_dogsBy I L R Q)
  refine am_iconst (n := 1) d_M_dogsBy_0 ci_0 rfl ?_
  refine am_istore_n (ls' := [some (.ref q), some (.int p1), some (.int 0), none]) (n := 2) d_M_dogsBy_1 (by decide) rfl rfl ?_
  refine am_iconst (n := 3) d_M_dogsBy_2 ci_0 rfl ?_
  refine am_istore_n (ls' := [some (.ref q), some (.int p1), some (.int 0), some (.int 0)]) (n := 4) d_M_dogsBy_3 (by decide) rfl rfl ?_
  obtain ⟨n, h⟩ := h
  exact tl_M_dogsBy_4 hw hq hd n 0 0 h
abbrev po_M_dogsUp (I : am_TI) (L : am_TL) (R : am_TR) (Q : Int32 → Prop) : Option Value → am_St → Prop := fun r σ' => ∃ (x : Int32), r = some (.int x) ∧ σ' = (I, L, R, am_SH) ∧ Q x
def wl_M_dogsUp_4 (I : am_TI) (L : am_TL) (R : am_TR) (q : Nat) (Q : Int32 → Prop)  : Nat → Int32 → Int32 → Prop
  | 0 => fun _ _ => False
  | f4 + 1 => fun v1 v2 => (((I (q + 1) 3) ≤ v2 → Q v1) ∧ (¬ (I (q + 1) 3) ≤ v2 → wp_M_hearerOf I L R q v2 0 (fun (r1 : Int32) => wp_M_dogsBy I L R q r1 (fun (r2 : Int32) => wl_M_dogsUp_4 I L R q Q f4 (v1 ||| r2) (v2 + 1)))))
set_option maxRecDepth 20000 in
theorem tl_M_dogsUp_4 {d : Nat}  {I : am_TI} {L : am_TL} {R : am_TR} {q : Nat} {Q : Int32 → Prop}  (hw : am_Wf R) (hq : am_SH[q]? = some (.inl 12)) (hd : 3 ≤ d) : ∀ (n : Nat) (v1 : Int32) (v2 : Int32), wl_M_dogsUp_4 I L R q Q  n v1 v2 → am_Wp (d, "UnseenRingModel", b_M_dogsUp, 3, false) 0 0 4 [some (.ref q), some (.int v1), some (.int v2)] [] (I, L, R, am_SH) (po_M_dogsUp I L R Q) := by
  intro n
  induction n with
  | zero => intro v1 v2 h; exact h.elim
  | succ n ih =>
    intro v1 v2 h
    unfold wl_M_dogsUp_4 at h
    refine am_iload_n (n := 5) d_M_dogsUp_4 rfl rfl ?_
    refine am_aload_n (n := 6) d_M_dogsUp_5 rfl rfl ?_
    refine am_getR (x := (q + 1)) (n := 9) f_M_7 d_M_dogsUp_6 rfl rfl hq (hw.1 q 12 0 1 hq rfl) ?_
    refine am_iconst (n := 10) d_M_dogsUp_9 ci_3 rfl ?_
    refine am_iald2 (n := 11) d_M_dogsUp_10 rfl (am_sho (k := 0) (o := 1) hq (by decide) (by decide) (by decide) rfl) cx_3_2258 cn_3 ?_
    refine am_icmp_ge (tgt := 33) (n := 14) d_M_dogsUp_11 rfl rfl (fun c1 => ?_) (fun c1 => ?_)
    · have h := h.1 c1
      refine am_iload_n (n := 34) d_M_dogsUp_33 rfl rfl ?_
      exact am_iret d_M_dogsUp_34 ⟨v1, rfl, rfl, h⟩
    · have h := h.2 c1
      refine am_iload_n (n := 15) d_M_dogsUp_14 rfl rfl ?_
      refine am_aload_n (n := 16) d_M_dogsUp_15 rfl rfl ?_
      refine am_aload_n (n := 17) d_M_dogsUp_16 rfl rfl ?_
      refine am_iload_n (n := 18) d_M_dogsUp_17 rfl rfl ?_
      refine am_iconst (n := 19) d_M_dogsUp_18 ci_0 rfl ?_
      refine am_callV (kc := 0) (ks := 0) (As := [.int v2, .int 0]) (n := 22) d_M_dogsUp_19 rfl ce_M_hearerOf lk_M_313 in_M_hearerOf rfl rfl hq rfl rfl (Nat.le_of_ble_eq_true rfl) (Or.inl rfl) (cm_M_hearerOf (d := d - 1) hw (by omega) hq h) (by omega) ?_
      rintro _ _ ⟨r1, rfl, rfl, h⟩
      show am_Wp (d, "UnseenRingModel", b_M_dogsUp, 3, false) 0 0 22 [some (.ref q), some (.int v1), some (.int v2)] [.int r1, .ref q, .int v1] (I, L, R, am_SH) (po_M_dogsUp I L R Q)
      refine am_callV (kc := 0) (ks := 0) (As := [.int r1]) (n := 25) d_M_dogsUp_22 rfl ce_M_dogsBy lk_M_319 in_M_dogsBy rfl rfl hq rfl rfl (Nat.le_of_ble_eq_true rfl) (Or.inl rfl) (cm_M_dogsBy (d := d - 1) hw (by omega) hq h) (by omega) ?_
      rintro _ _ ⟨r2, rfl, rfl, h⟩
      show am_Wp (d, "UnseenRingModel", b_M_dogsUp, 3, false) 0 0 25 [some (.ref q), some (.int v1), some (.int v2)] [.int r2, .int v1] (I, L, R, am_SH) (po_M_dogsUp I L R Q)
      refine am_ior (n := 26) d_M_dogsUp_25 rfl ?_
      refine am_istore_n (ls' := [some (.ref q), some (.int (v1 ||| r2)), some (.int v2)]) (n := 27) d_M_dogsUp_26 (by decide) rfl rfl ?_
      refine am_iinc (v := v2 + 1) (ls' := [some (.ref q), some (.int (v1 ||| r2)), some (.int (v2 + 1))]) (n := 30) d_M_dogsUp_27 rfl (congrArg _ ci_1) (by decide) rfl rfl ?_
      refine am_goto (tgt := 4) d_M_dogsUp_30 rfl ?_
      exact ih (v1 ||| r2) (v2 + 1)  h
def wp_M_dogsUp (I : am_TI) (L : am_TL) (R : am_TR) (q : Nat)  (Q : Int32 → Prop) : Prop := (∃ z, wl_M_dogsUp_4 I L R q Q z 0 0)
set_option maxRecDepth 20000 in
theorem cm_M_dogsUp {d : Nat} {I : am_TI} {L : am_TL} {R : am_TR}  (hw : am_Wf R)   {q : Nat} {Q : Int32 → Prop} (hd : 3 ≤ d) (hq : am_SH[q]? = some (.inl 12)) (h : wp_M_dogsUp I L R q  Q) : am_Cm d 0 0 y_M_dogsUp b_M_dogsUp 3 (some .int) [.ref q] (I, L, R, am_SH) (po_M_dogsUp I L R Q) := by
  refine am_Cm_of (ini := false) (by decide +kernel) (fun z => by cases z) (by simp [Value.category]) (fun r σ' z => by obtain ⟨x, rfl, -⟩ := z; exact ⟨_, rfl, rfl⟩) ?_
  unfold wp_M_dogsUp at h
  show am_Wp (d, "UnseenRingModel", b_M_dogsUp, 3, false) 0 0 0 [some (.ref q), none, none] [] (I, L, R, am_SH) (po_M_dogsUp I L R Q)
  refine am_iconst (n := 1) d_M_dogsUp_0 ci_0 rfl ?_
  refine am_istore_n (ls' := [some (.ref q), some (.int 0), none]) (n := 2) d_M_dogsUp_1 (by decide) rfl rfl ?_
  refine am_iconst (n := 3) d_M_dogsUp_2 ci_0 rfl ?_
  refine am_istore_n (ls' := [some (.ref q), some (.int 0), some (.int 0)]) (n := 4) d_M_dogsUp_3 (by decide) rfl rfl ?_
  obtain ⟨n, h⟩ := h
  exact tl_M_dogsUp_4 hw hq hd n 0 0 h
abbrev po_M_told (L : am_TL) (R : am_TR) (Q : Int32 → am_TI → Prop) : Option Value → am_St → Prop := fun r σ' => ∃ (x : Int32) (I' : am_TI), r = some (.int x) ∧ σ' = (I', L, R, am_SH) ∧ Q x I'
def wp_M_told (I : am_TI) (L : am_TL) (R : am_TR) (q : Nat) (p1 : Int32)  (Q : Int32 → am_TI → Prop) : Prop := ((p1 = 0 → (vp_in p1 2258 ∧ wp_M_gives I L R q (I (q + 1) (Int32.toNatClampNeg p1)) (fun (r1 : Int32) (I1 : am_TI) => Q r1 I1))) ∧ (p1 = 1 → (vp_in p1 2258 ∧ wp_M_gives I L R q (I (q + 1) (Int32.toNatClampNeg p1)) (fun (r2 : Int32) (I2 : am_TI) => Q r2 I2))) ∧ (p1 = 2 → (vp_in p1 2258 ∧ wp_M_gives I L R q (I (q + 1) (Int32.toNatClampNeg p1)) (fun (r3 : Int32) (I3 : am_TI) => Q r3 I3))) ∧ (p1 = 3 → (vp_in p1 2258 ∧ wp_M_gives I L R q (I (q + 1) (Int32.toNatClampNeg p1)) (fun (r4 : Int32) (I4 : am_TI) => Q r4 I4))) ∧ (p1 = 4 → (vp_in p1 2258 ∧ wp_M_gives I L R q (I (q + 1) (Int32.toNatClampNeg p1)) (fun (r5 : Int32) (I5 : am_TI) => Q r5 I5))) ∧ (p1 = 5 → (vp_in p1 2258 ∧ wp_M_gives I L R q (I (q + 1) (Int32.toNatClampNeg p1)) (fun (r6 : Int32) (I6 : am_TI) => Q r6 I6))) ∧ (p1 = 6 → (vp_in p1 2258 ∧ wp_M_gives I L R q (I (q + 1) (Int32.toNatClampNeg p1)) (fun (r7 : Int32) (I7 : am_TI) => Q r7 I7))) ∧ (p1 = 7 → (vp_in (p1 + 1) 2258 ∧ wp_M_gives I L R q (I (q + 1) (Int32.toNatClampNeg (p1 + 1))) (fun (r8 : Int32) (I8 : am_TI) => Q r8 I8))) ∧ (p1 = 8 → (vp_in (p1 + 1) 2258 ∧ wp_M_gives I L R q (I (q + 1) (Int32.toNatClampNeg (p1 + 1))) (fun (r9 : Int32) (I9 : am_TI) => Q r9 I9))) ∧ (p1 = 9 → wp_M_areSeen I L R q (fun (r10 : Int32) => wp_M_gives I L R q r10 (fun (r11 : Int32) (I10 : am_TI) => Q r11 I10))) ∧ (p1 = 10 → wp_M_dogsUp I L R q (fun (r12 : Int32) => wp_M_gives I L R q r12 (fun (r13 : Int32) (I11 : am_TI) => Q r13 I11))) ∧ (¬ p1 = 0 → ¬ p1 = 1 → ¬ p1 = 2 → ¬ p1 = 3 → ¬ p1 = 4 → ¬ p1 = 5 → ¬ p1 = 6 → ¬ p1 = 7 → ¬ p1 = 8 → ¬ p1 = 9 → ¬ p1 = 10 → wp_M_refuse I L R q 1 (fun (r14 : Int32) (I12 : am_TI) => Q r14 I12)))
set_option maxRecDepth 20000 in
theorem cm_M_told {d : Nat} {I : am_TI} {L : am_TL} {R : am_TR}  (hw : am_Wf R)   {q : Nat} {p1 : Int32} {Q : Int32 → am_TI → Prop} (hd : 4 ≤ d) (hq : am_SH[q]? = some (.inl 12)) (h : wp_M_told I L R q p1  Q) : am_Cm d 0 0 y_M_told b_M_told 2 (some .int) [.ref q, .int p1] (I, L, R, am_SH) (po_M_told L R Q) := by
  refine am_Cm_of (ini := false) (by decide +kernel) (fun z => by cases z) (by simp [Value.category]) (fun r σ' z => by obtain ⟨x, _, rfl, -⟩ := z; exact ⟨_, rfl, rfl⟩) ?_
  unfold wp_M_told at h
  show am_Wp (d, "UnseenRingModel", b_M_told, 2, false) 0 0 0 [some (.ref q), some (.int p1)] [] (I, L, R, am_SH) (po_M_told L R Q)
  refine am_iload_n (n := 1) d_M_told_0 rfl rfl ?_
  by_cases c1 : p1 = 0
  · have h := h.1 c1
    refine am_tableIn (off := 59) (tgt := 60) d_M_told_1 (by rw [c1]; decide) (by rw [c1]; decide) (by rw [c1]; decide +kernel) rfl ?_
    refine am_aload_n (n := 61) d_M_told_60 rfl rfl ?_
    refine am_aload_n (n := 62) d_M_told_61 rfl rfl ?_
    refine am_getR (x := (q + 1)) (n := 65) f_M_7 d_M_told_62 rfl rfl hq (hw.1 q 12 0 1 hq rfl) ?_
    refine am_iload_n (n := 66) d_M_told_65 rfl rfl ?_
    obtain ⟨g1, h⟩ := h
    refine am_iald2 (n := 67) d_M_told_66 rfl (am_sho (k := 0) (o := 1) hq (by decide) (by decide) (by decide) rfl) g1 rfl ?_
    refine am_callV (kc := 0) (ks := 0) (As := [.int (I (q + 1) (Int32.toNatClampNeg p1))]) (n := 70) d_M_told_67 rfl ce_M_gives lk_M_125 in_M_gives rfl rfl hq rfl rfl (Nat.le_of_ble_eq_true rfl) (Or.inl rfl) (cm_M_gives (d := d - 1) hw (by omega) hq h) (by omega) ?_
    rintro _ _ ⟨r1, I1, rfl, rfl, h⟩
    show am_Wp (d, "UnseenRingModel", b_M_told, 2, false) 0 0 70 [some (.ref q), some (.int p1)] [.int r1] (I1, L, R, am_SH) (po_M_told L R Q)
    exact am_iret d_M_told_70 ⟨r1, I1, rfl, rfl, h⟩
  by_cases c2 : p1 = 1
  · have h := h.2.1 c2
    refine am_tableIn (off := 59) (tgt := 60) d_M_told_1 (by rw [c2]; decide) (by rw [c2]; decide) (by rw [c2]; decide +kernel) rfl ?_
    refine am_aload_n (n := 61) d_M_told_60 rfl rfl ?_
    refine am_aload_n (n := 62) d_M_told_61 rfl rfl ?_
    refine am_getR (x := (q + 1)) (n := 65) f_M_7 d_M_told_62 rfl rfl hq (hw.1 q 12 0 1 hq rfl) ?_
    refine am_iload_n (n := 66) d_M_told_65 rfl rfl ?_
    obtain ⟨g2, h⟩ := h
    refine am_iald2 (n := 67) d_M_told_66 rfl (am_sho (k := 0) (o := 1) hq (by decide) (by decide) (by decide) rfl) g2 rfl ?_
    refine am_callV (kc := 0) (ks := 0) (As := [.int (I (q + 1) (Int32.toNatClampNeg p1))]) (n := 70) d_M_told_67 rfl ce_M_gives lk_M_125 in_M_gives rfl rfl hq rfl rfl (Nat.le_of_ble_eq_true rfl) (Or.inl rfl) (cm_M_gives (d := d - 1) hw (by omega) hq h) (by omega) ?_
    rintro _ _ ⟨r2, I2, rfl, rfl, h⟩
    show am_Wp (d, "UnseenRingModel", b_M_told, 2, false) 0 0 70 [some (.ref q), some (.int p1)] [.int r2] (I2, L, R, am_SH) (po_M_told L R Q)
    exact am_iret d_M_told_70 ⟨r2, I2, rfl, rfl, h⟩
  by_cases c3 : p1 = 2
  · have h := h.2.2.1 c3
    refine am_tableIn (off := 59) (tgt := 60) d_M_told_1 (by rw [c3]; decide) (by rw [c3]; decide) (by rw [c3]; decide +kernel) rfl ?_
    refine am_aload_n (n := 61) d_M_told_60 rfl rfl ?_
    refine am_aload_n (n := 62) d_M_told_61 rfl rfl ?_
    refine am_getR (x := (q + 1)) (n := 65) f_M_7 d_M_told_62 rfl rfl hq (hw.1 q 12 0 1 hq rfl) ?_
    refine am_iload_n (n := 66) d_M_told_65 rfl rfl ?_
    obtain ⟨g3, h⟩ := h
    refine am_iald2 (n := 67) d_M_told_66 rfl (am_sho (k := 0) (o := 1) hq (by decide) (by decide) (by decide) rfl) g3 rfl ?_
    refine am_callV (kc := 0) (ks := 0) (As := [.int (I (q + 1) (Int32.toNatClampNeg p1))]) (n := 70) d_M_told_67 rfl ce_M_gives lk_M_125 in_M_gives rfl rfl hq rfl rfl (Nat.le_of_ble_eq_true rfl) (Or.inl rfl) (cm_M_gives (d := d - 1) hw (by omega) hq h) (by omega) ?_
    rintro _ _ ⟨r3, I3, rfl, rfl, h⟩
    show am_Wp (d, "UnseenRingModel", b_M_told, 2, false) 0 0 70 [some (.ref q), some (.int p1)] [.int r3] (I3, L, R, am_SH) (po_M_told L R Q)
    exact am_iret d_M_told_70 ⟨r3, I3, rfl, rfl, h⟩
  by_cases c4 : p1 = 3
  · have h := h.2.2.2.1 c4
    refine am_tableIn (off := 59) (tgt := 60) d_M_told_1 (by rw [c4]; decide) (by rw [c4]; decide) (by rw [c4]; decide +kernel) rfl ?_
    refine am_aload_n (n := 61) d_M_told_60 rfl rfl ?_
    refine am_aload_n (n := 62) d_M_told_61 rfl rfl ?_
    refine am_getR (x := (q + 1)) (n := 65) f_M_7 d_M_told_62 rfl rfl hq (hw.1 q 12 0 1 hq rfl) ?_
    refine am_iload_n (n := 66) d_M_told_65 rfl rfl ?_
    obtain ⟨g4, h⟩ := h
    refine am_iald2 (n := 67) d_M_told_66 rfl (am_sho (k := 0) (o := 1) hq (by decide) (by decide) (by decide) rfl) g4 rfl ?_
    refine am_callV (kc := 0) (ks := 0) (As := [.int (I (q + 1) (Int32.toNatClampNeg p1))]) (n := 70) d_M_told_67 rfl ce_M_gives lk_M_125 in_M_gives rfl rfl hq rfl rfl (Nat.le_of_ble_eq_true rfl) (Or.inl rfl) (cm_M_gives (d := d - 1) hw (by omega) hq h) (by omega) ?_
    rintro _ _ ⟨r4, I4, rfl, rfl, h⟩
    show am_Wp (d, "UnseenRingModel", b_M_told, 2, false) 0 0 70 [some (.ref q), some (.int p1)] [.int r4] (I4, L, R, am_SH) (po_M_told L R Q)
    exact am_iret d_M_told_70 ⟨r4, I4, rfl, rfl, h⟩
  by_cases c5 : p1 = 4
  · have h := h.2.2.2.2.1 c5
    refine am_tableIn (off := 59) (tgt := 60) d_M_told_1 (by rw [c5]; decide) (by rw [c5]; decide) (by rw [c5]; decide +kernel) rfl ?_
    refine am_aload_n (n := 61) d_M_told_60 rfl rfl ?_
    refine am_aload_n (n := 62) d_M_told_61 rfl rfl ?_
    refine am_getR (x := (q + 1)) (n := 65) f_M_7 d_M_told_62 rfl rfl hq (hw.1 q 12 0 1 hq rfl) ?_
    refine am_iload_n (n := 66) d_M_told_65 rfl rfl ?_
    obtain ⟨g5, h⟩ := h
    refine am_iald2 (n := 67) d_M_told_66 rfl (am_sho (k := 0) (o := 1) hq (by decide) (by decide) (by decide) rfl) g5 rfl ?_
    refine am_callV (kc := 0) (ks := 0) (As := [.int (I (q + 1) (Int32.toNatClampNeg p1))]) (n := 70) d_M_told_67 rfl ce_M_gives lk_M_125 in_M_gives rfl rfl hq rfl rfl (Nat.le_of_ble_eq_true rfl) (Or.inl rfl) (cm_M_gives (d := d - 1) hw (by omega) hq h) (by omega) ?_
    rintro _ _ ⟨r5, I5, rfl, rfl, h⟩
    show am_Wp (d, "UnseenRingModel", b_M_told, 2, false) 0 0 70 [some (.ref q), some (.int p1)] [.int r5] (I5, L, R, am_SH) (po_M_told L R Q)
    exact am_iret d_M_told_70 ⟨r5, I5, rfl, rfl, h⟩
  by_cases c6 : p1 = 5
  · have h := h.2.2.2.2.2.1 c6
    refine am_tableIn (off := 59) (tgt := 60) d_M_told_1 (by rw [c6]; decide) (by rw [c6]; decide) (by rw [c6]; decide +kernel) rfl ?_
    refine am_aload_n (n := 61) d_M_told_60 rfl rfl ?_
    refine am_aload_n (n := 62) d_M_told_61 rfl rfl ?_
    refine am_getR (x := (q + 1)) (n := 65) f_M_7 d_M_told_62 rfl rfl hq (hw.1 q 12 0 1 hq rfl) ?_
    refine am_iload_n (n := 66) d_M_told_65 rfl rfl ?_
    obtain ⟨g6, h⟩ := h
    refine am_iald2 (n := 67) d_M_told_66 rfl (am_sho (k := 0) (o := 1) hq (by decide) (by decide) (by decide) rfl) g6 rfl ?_
    refine am_callV (kc := 0) (ks := 0) (As := [.int (I (q + 1) (Int32.toNatClampNeg p1))]) (n := 70) d_M_told_67 rfl ce_M_gives lk_M_125 in_M_gives rfl rfl hq rfl rfl (Nat.le_of_ble_eq_true rfl) (Or.inl rfl) (cm_M_gives (d := d - 1) hw (by omega) hq h) (by omega) ?_
    rintro _ _ ⟨r6, I6, rfl, rfl, h⟩
    show am_Wp (d, "UnseenRingModel", b_M_told, 2, false) 0 0 70 [some (.ref q), some (.int p1)] [.int r6] (I6, L, R, am_SH) (po_M_told L R Q)
    exact am_iret d_M_told_70 ⟨r6, I6, rfl, rfl, h⟩
  by_cases c7 : p1 = 6
  · have h := h.2.2.2.2.2.2.1 c7
    refine am_tableIn (off := 59) (tgt := 60) d_M_told_1 (by rw [c7]; decide) (by rw [c7]; decide) (by rw [c7]; decide +kernel) rfl ?_
    refine am_aload_n (n := 61) d_M_told_60 rfl rfl ?_
    refine am_aload_n (n := 62) d_M_told_61 rfl rfl ?_
    refine am_getR (x := (q + 1)) (n := 65) f_M_7 d_M_told_62 rfl rfl hq (hw.1 q 12 0 1 hq rfl) ?_
    refine am_iload_n (n := 66) d_M_told_65 rfl rfl ?_
    obtain ⟨g7, h⟩ := h
    refine am_iald2 (n := 67) d_M_told_66 rfl (am_sho (k := 0) (o := 1) hq (by decide) (by decide) (by decide) rfl) g7 rfl ?_
    refine am_callV (kc := 0) (ks := 0) (As := [.int (I (q + 1) (Int32.toNatClampNeg p1))]) (n := 70) d_M_told_67 rfl ce_M_gives lk_M_125 in_M_gives rfl rfl hq rfl rfl (Nat.le_of_ble_eq_true rfl) (Or.inl rfl) (cm_M_gives (d := d - 1) hw (by omega) hq h) (by omega) ?_
    rintro _ _ ⟨r7, I7, rfl, rfl, h⟩
    show am_Wp (d, "UnseenRingModel", b_M_told, 2, false) 0 0 70 [some (.ref q), some (.int p1)] [.int r7] (I7, L, R, am_SH) (po_M_told L R Q)
    exact am_iret d_M_told_70 ⟨r7, I7, rfl, rfl, h⟩
  by_cases c8 : p1 = 7
  · have h := h.2.2.2.2.2.2.2.1 c8
    refine am_tableIn (off := 70) (tgt := 71) d_M_told_1 (by rw [c8]; decide) (by rw [c8]; decide) (by rw [c8]; decide +kernel) rfl ?_
    refine am_aload_n (n := 72) d_M_told_71 rfl rfl ?_
    refine am_aload_n (n := 73) d_M_told_72 rfl rfl ?_
    refine am_getR (x := (q + 1)) (n := 76) f_M_7 d_M_told_73 rfl rfl hq (hw.1 q 12 0 1 hq rfl) ?_
    refine am_iload_n (n := 77) d_M_told_76 rfl rfl ?_
    refine am_iconst (n := 78) d_M_told_77 ci_1 rfl ?_
    refine am_iadd (n := 79) d_M_told_78 rfl ?_
    obtain ⟨g8, h⟩ := h
    refine am_iald2 (n := 80) d_M_told_79 rfl (am_sho (k := 0) (o := 1) hq (by decide) (by decide) (by decide) rfl) g8 rfl ?_
    refine am_callV (kc := 0) (ks := 0) (As := [.int (I (q + 1) (Int32.toNatClampNeg (p1 + 1)))]) (n := 83) d_M_told_80 rfl ce_M_gives lk_M_125 in_M_gives rfl rfl hq rfl rfl (Nat.le_of_ble_eq_true rfl) (Or.inl rfl) (cm_M_gives (d := d - 1) hw (by omega) hq h) (by omega) ?_
    rintro _ _ ⟨r8, I8, rfl, rfl, h⟩
    show am_Wp (d, "UnseenRingModel", b_M_told, 2, false) 0 0 83 [some (.ref q), some (.int p1)] [.int r8] (I8, L, R, am_SH) (po_M_told L R Q)
    exact am_iret d_M_told_83 ⟨r8, I8, rfl, rfl, h⟩
  by_cases c9 : p1 = 8
  · have h := h.2.2.2.2.2.2.2.2.1 c9
    refine am_tableIn (off := 70) (tgt := 71) d_M_told_1 (by rw [c9]; decide) (by rw [c9]; decide) (by rw [c9]; decide +kernel) rfl ?_
    refine am_aload_n (n := 72) d_M_told_71 rfl rfl ?_
    refine am_aload_n (n := 73) d_M_told_72 rfl rfl ?_
    refine am_getR (x := (q + 1)) (n := 76) f_M_7 d_M_told_73 rfl rfl hq (hw.1 q 12 0 1 hq rfl) ?_
    refine am_iload_n (n := 77) d_M_told_76 rfl rfl ?_
    refine am_iconst (n := 78) d_M_told_77 ci_1 rfl ?_
    refine am_iadd (n := 79) d_M_told_78 rfl ?_
    obtain ⟨g9, h⟩ := h
    refine am_iald2 (n := 80) d_M_told_79 rfl (am_sho (k := 0) (o := 1) hq (by decide) (by decide) (by decide) rfl) g9 rfl ?_
    refine am_callV (kc := 0) (ks := 0) (As := [.int (I (q + 1) (Int32.toNatClampNeg (p1 + 1)))]) (n := 83) d_M_told_80 rfl ce_M_gives lk_M_125 in_M_gives rfl rfl hq rfl rfl (Nat.le_of_ble_eq_true rfl) (Or.inl rfl) (cm_M_gives (d := d - 1) hw (by omega) hq h) (by omega) ?_
    rintro _ _ ⟨r9, I9, rfl, rfl, h⟩
    show am_Wp (d, "UnseenRingModel", b_M_told, 2, false) 0 0 83 [some (.ref q), some (.int p1)] [.int r9] (I9, L, R, am_SH) (po_M_told L R Q)
    exact am_iret d_M_told_83 ⟨r9, I9, rfl, rfl, h⟩
  by_cases c10 : p1 = 9
  · have h := h.2.2.2.2.2.2.2.2.2.1 c10
    refine am_tableIn (off := 83) (tgt := 84) d_M_told_1 (by rw [c10]; decide) (by rw [c10]; decide) (by rw [c10]; decide +kernel) rfl ?_
    refine am_aload_n (n := 85) d_M_told_84 rfl rfl ?_
    refine am_aload_n (n := 86) d_M_told_85 rfl rfl ?_
    refine am_callV (kc := 0) (ks := 0) (As := []) (n := 89) d_M_told_86 rfl ce_M_areSeen lk_M_322 in_M_areSeen rfl rfl hq rfl rfl (Nat.le_of_ble_eq_true rfl) (Or.inl rfl) (cm_M_areSeen (d := d - 1) hw (by omega) hq h) (by omega) ?_
    rintro _ _ ⟨r10, rfl, rfl, h⟩
    show am_Wp (d, "UnseenRingModel", b_M_told, 2, false) 0 0 89 [some (.ref q), some (.int p1)] [.int r10, .ref q] (I, L, R, am_SH) (po_M_told L R Q)
    refine am_callV (kc := 0) (ks := 0) (As := [.int r10]) (n := 92) d_M_told_89 rfl ce_M_gives lk_M_125 in_M_gives rfl rfl hq rfl rfl (Nat.le_of_ble_eq_true rfl) (Or.inl rfl) (cm_M_gives (d := d - 1) hw (by omega) hq h) (by omega) ?_
    rintro _ _ ⟨r11, I10, rfl, rfl, h⟩
    show am_Wp (d, "UnseenRingModel", b_M_told, 2, false) 0 0 92 [some (.ref q), some (.int p1)] [.int r11] (I10, L, R, am_SH) (po_M_told L R Q)
    exact am_iret d_M_told_92 ⟨r11, I10, rfl, rfl, h⟩
  by_cases c11 : p1 = 10
  · have h := h.2.2.2.2.2.2.2.2.2.2.1 c11
    refine am_tableIn (off := 92) (tgt := 93) d_M_told_1 (by rw [c11]; decide) (by rw [c11]; decide) (by rw [c11]; decide +kernel) rfl ?_
    refine am_aload_n (n := 94) d_M_told_93 rfl rfl ?_
    refine am_aload_n (n := 95) d_M_told_94 rfl rfl ?_
    refine am_callV (kc := 0) (ks := 0) (As := []) (n := 98) d_M_told_95 rfl ce_M_dogsUp lk_M_325 in_M_dogsUp rfl rfl hq rfl rfl (Nat.le_of_ble_eq_true rfl) (Or.inl rfl) (cm_M_dogsUp (d := d - 1) hw (by omega) hq h) (by omega) ?_
    rintro _ _ ⟨r12, rfl, rfl, h⟩
    show am_Wp (d, "UnseenRingModel", b_M_told, 2, false) 0 0 98 [some (.ref q), some (.int p1)] [.int r12, .ref q] (I, L, R, am_SH) (po_M_told L R Q)
    refine am_callV (kc := 0) (ks := 0) (As := [.int r12]) (n := 101) d_M_told_98 rfl ce_M_gives lk_M_125 in_M_gives rfl rfl hq rfl rfl (Nat.le_of_ble_eq_true rfl) (Or.inl rfl) (cm_M_gives (d := d - 1) hw (by omega) hq h) (by omega) ?_
    rintro _ _ ⟨r13, I11, rfl, rfl, h⟩
    show am_Wp (d, "UnseenRingModel", b_M_told, 2, false) 0 0 101 [some (.ref q), some (.int p1)] [.int r13] (I11, L, R, am_SH) (po_M_told L R Q)
    exact am_iret d_M_told_101 ⟨r13, I11, rfl, rfl, h⟩
  have h := h.2.2.2.2.2.2.2.2.2.2.2 c1 c2 c3 c4 c5 c6 c7 c8 c9 c10 c11
  have z0 := lv_neT c1 (a := 0) (by decide)
  have z1 := lv_neT c2 (a := 1) (by decide)
  have z2 := lv_neT c3 (a := 2) (by decide)
  have z3 := lv_neT c4 (a := 3) (by decide)
  have z4 := lv_neT c5 (a := 4) (by decide)
  have z5 := lv_neT c6 (a := 5) (by decide)
  have z6 := lv_neT c7 (a := 6) (by decide)
  have z7 := lv_neT c8 (a := 7) (by decide)
  have z8 := lv_neT c9 (a := 8) (by decide)
  have z9 := lv_neT c10 (a := 9) (by decide)
  have z10 := lv_neT c11 (a := 10) (by decide)
  refine am_tableOut (tgt := 102) d_M_told_1 (by omega) rfl ?_
  refine am_aload_n (n := 103) d_M_told_102 rfl rfl ?_
  refine am_iconst (n := 104) d_M_told_103 ci_1 rfl ?_
  refine am_callV (kc := 0) (ks := 0) (As := [.int 1]) (n := 107) d_M_told_104 rfl ce_M_refuse lk_M_121 in_M_refuse rfl rfl hq rfl rfl (Nat.le_of_ble_eq_true rfl) (Or.inl rfl) (cm_M_refuse (d := d - 1) hw (by omega) hq h) (by omega) ?_
  rintro _ _ ⟨r14, I12, rfl, rfl, h⟩
  show am_Wp (d, "UnseenRingModel", b_M_told, 2, false) 0 0 107 [some (.ref q), some (.int p1)] [.int r14] (I12, L, R, am_SH) (po_M_told L R Q)
  exact am_iret d_M_told_107 ⟨r14, I12, rfl, rfl, h⟩
abbrev po_M_farOf (I : am_TI) (L : am_TL) (R : am_TR) (Q : Int32 → Prop) : Option Value → am_St → Prop := fun r σ' => ∃ (x : Int32), r = some (.int x) ∧ σ' = (I, L, R, am_SH) ∧ Q x
def wp_M_farOf (I : am_TI) (L : am_TL) (R : am_TR) (q : Nat) (p1 : Int32)  (Q : Int32 → Prop) : Prop := wp_M_hearerOf I L R q p1 0 (fun (r1 : Int32) => wp_M_farBetween I L R q r1 (I (q + 1) 6) (fun (r2 : Int32) => Q r2))
set_option maxRecDepth 20000 in
theorem cm_M_farOf {d : Nat} {I : am_TI} {L : am_TL} {R : am_TR}  (hw : am_Wf R)   {q : Nat} {p1 : Int32} {Q : Int32 → Prop} (hd : 2 ≤ d) (hq : am_SH[q]? = some (.inl 12)) (h : wp_M_farOf I L R q p1  Q) : am_Cm d 0 0 y_M_farOf b_M_farOf 2 (some .int) [.ref q, .int p1] (I, L, R, am_SH) (po_M_farOf I L R Q) := by
  refine am_Cm_of (ini := false) (by decide +kernel) (fun z => by cases z) (by simp [Value.category]) (fun r σ' z => by obtain ⟨x, rfl, -⟩ := z; exact ⟨_, rfl, rfl⟩) ?_
  unfold wp_M_farOf at h
  show am_Wp (d, "UnseenRingModel", b_M_farOf, 2, false) 0 0 0 [some (.ref q), some (.int p1)] [] (I, L, R, am_SH) (po_M_farOf I L R Q)
  refine am_aload_n (n := 1) d_M_farOf_0 rfl rfl ?_
  refine am_aload_n (n := 2) d_M_farOf_1 rfl rfl ?_
  refine am_iload_n (n := 3) d_M_farOf_2 rfl rfl ?_
  refine am_iconst (n := 4) d_M_farOf_3 ci_0 rfl ?_
  refine am_callV (kc := 0) (ks := 0) (As := [.int p1, .int 0]) (n := 7) d_M_farOf_4 rfl ce_M_hearerOf lk_M_313 in_M_hearerOf rfl rfl hq rfl rfl (Nat.le_of_ble_eq_true rfl) (Or.inl rfl) (cm_M_hearerOf (d := d - 1) hw (by omega) hq h) (by omega) ?_
  rintro _ _ ⟨r1, rfl, rfl, h⟩
  show am_Wp (d, "UnseenRingModel", b_M_farOf, 2, false) 0 0 7 [some (.ref q), some (.int p1)] [.int r1, .ref q] (I, L, R, am_SH) (po_M_farOf I L R Q)
  refine am_aload_n (n := 8) d_M_farOf_7 rfl rfl ?_
  refine am_getR (x := (q + 1)) (n := 11) f_M_7 d_M_farOf_8 rfl rfl hq (hw.1 q 12 0 1 hq rfl) ?_
  refine am_bipush (n := 13) d_M_farOf_11 cb_6 rfl ?_
  refine am_iald2 (n := 14) d_M_farOf_13 rfl (am_sho (k := 0) (o := 1) hq (by decide) (by decide) (by decide) rfl) cx_6_2258 cn_6 ?_
  refine am_callV (kc := 0) (ks := 0) (As := [.int r1, .int (I (q + 1) 6)]) (n := 17) d_M_farOf_14 rfl ce_M_farBetween lk_M_316 in_M_farBetween rfl rfl hq rfl rfl (Nat.le_of_ble_eq_true rfl) (Or.inl rfl) (cm_M_farBetween (d := d - 1) hw (by omega) hq h) (by omega) ?_
  rintro _ _ ⟨r2, rfl, rfl, h⟩
  show am_Wp (d, "UnseenRingModel", b_M_farOf, 2, false) 0 0 17 [some (.ref q), some (.int p1)] [.int r2] (I, L, R, am_SH) (po_M_farOf I L R Q)
  exact am_iret d_M_farOf_17 ⟨r2, rfl, rfl, h⟩
abbrev po_M_isHearer (I : am_TI) (L : am_TL) (R : am_TR) (Q : Bool → Prop) : Option Value → am_St → Prop := fun r σ' => ∃ (x : Bool), r = some (.int (am_b x)) ∧ σ' = (I, L, R, am_SH) ∧ Q x
def wp_M_isHearer (I : am_TI) (L : am_TL) (R : am_TR) (q : Nat) (p1 : Int32)  (Q : Bool → Prop) : Prop := ((p1 < 0 → Q false) ∧ (¬ p1 < 0 → (((I (q + 1) 3) ≤ p1 → Q false) ∧ (¬ (I (q + 1) 3) ≤ p1 → Q true))))
set_option maxRecDepth 20000 in
theorem cm_M_isHearer {d : Nat} {I : am_TI} {L : am_TL} {R : am_TR}  (hw : am_Wf R)   {q : Nat} {p1 : Int32} {Q : Bool → Prop} (hd : 0 ≤ d) (hq : am_SH[q]? = some (.inl 12)) (h : wp_M_isHearer I L R q p1  Q) : am_Cm d 0 0 y_M_isHearer b_M_isHearer 2 (some .boolean) [.ref q, .int p1] (I, L, R, am_SH) (po_M_isHearer I L R Q) := by
  refine am_Cm_of (ini := false) (by decide +kernel) (fun z => by cases z) (by simp [Value.category]) (fun r σ' z => by obtain ⟨x, rfl, -⟩ := z; exact ⟨_, rfl, am_b_nar x⟩) ?_
  unfold wp_M_isHearer at h
  show am_Wp (d, "UnseenRingModel", b_M_isHearer, 2, false) 0 0 0 [some (.ref q), some (.int p1)] [] (I, L, R, am_SH) (po_M_isHearer I L R Q)
  refine am_iload_n (n := 1) d_M_isHearer_0 rfl rfl ?_
  refine am_if_lt (y := 0) (tgt := 18) (n := 4) d_M_isHearer_1 rfl rfl (fun c1 => ?_) (fun c1 => ?_)
  · have h := h.1 c1
    refine am_iconst (n := 19) d_M_isHearer_18 ci_0 rfl ?_
    exact am_iret d_M_isHearer_19 ⟨false, rfl, rfl, h⟩
  · have h := h.2 c1
    refine am_iload_n (n := 5) d_M_isHearer_4 rfl rfl ?_
    refine am_aload_n (n := 6) d_M_isHearer_5 rfl rfl ?_
    refine am_getR (x := (q + 1)) (n := 9) f_M_7 d_M_isHearer_6 rfl rfl hq (hw.1 q 12 0 1 hq rfl) ?_
    refine am_iconst (n := 10) d_M_isHearer_9 ci_3 rfl ?_
    refine am_iald2 (n := 11) d_M_isHearer_10 rfl (am_sho (k := 0) (o := 1) hq (by decide) (by decide) (by decide) rfl) cx_3_2258 cn_3 ?_
    refine am_icmp_ge (tgt := 18) (n := 14) d_M_isHearer_11 rfl rfl (fun c2 => ?_) (fun c2 => ?_)
    · have h := h.1 c2
      refine am_iconst (n := 19) d_M_isHearer_18 ci_0 rfl ?_
      exact am_iret d_M_isHearer_19 ⟨false, rfl, rfl, h⟩
    · have h := h.2 c2
      refine am_iconst (n := 15) d_M_isHearer_14 ci_1 rfl ?_
      refine am_goto (tgt := 19) d_M_isHearer_15 rfl ?_
      exact am_iret d_M_isHearer_19 ⟨true, rfl, rfl, h⟩
abbrev po_M_hearer (L : am_TL) (R : am_TR) (Q : Int32 → am_TI → Prop) : Option Value → am_St → Prop := fun r σ' => ∃ (x : Int32) (I' : am_TI), r = some (.int x) ∧ σ' = (I', L, R, am_SH) ∧ Q x I'
def wp_M_hearer (I : am_TI) (L : am_TL) (R : am_TR) (q : Nat) (p1 : Int32) (p2 : Int32)  (Q : Int32 → am_TI → Prop) : Prop := wp_M_isHearer I L R q p1 (fun (r1 : Bool) => ((r1 = false → wp_M_refuse I L R q 1 (fun (r13 : Int32) (I7 : am_TI) => Q r13 I7)) ∧ (r1 = true → ((p2 = 0 → wp_M_hearerOf I L R q p1 p2 (fun (r2 : Int32) => wp_M_gives I L R q r2 (fun (r3 : Int32) (I1 : am_TI) => Q r3 I1))) ∧ (p2 = 1 → wp_M_hearerOf I L R q p1 p2 (fun (r4 : Int32) => wp_M_gives I L R q r4 (fun (r5 : Int32) (I2 : am_TI) => Q r5 I2))) ∧ (p2 = 2 → wp_M_hearerOf I L R q p1 p2 (fun (r6 : Int32) => wp_M_gives I L R q r6 (fun (r7 : Int32) (I3 : am_TI) => Q r7 I3))) ∧ (p2 = 3 → wp_M_farOf I L R q p1 (fun (r8 : Int32) => wp_M_gives I L R q r8 (fun (r9 : Int32) (I4 : am_TI) => Q r9 I4))) ∧ (p2 = 4 → wp_M_hearerOf I L R q p1 3 (fun (r10 : Int32) => wp_M_gives I L R q r10 (fun (r11 : Int32) (I5 : am_TI) => Q r11 I5))) ∧ (¬ p2 = 0 → ¬ p2 = 1 → ¬ p2 = 2 → ¬ p2 = 3 → ¬ p2 = 4 → wp_M_refuse I L R q 1 (fun (r12 : Int32) (I6 : am_TI) => Q r12 I6))))))
set_option maxRecDepth 20000 in
theorem cm_M_hearer {d : Nat} {I : am_TI} {L : am_TL} {R : am_TR}  (hw : am_Wf R)   {q : Nat} {p1 : Int32} {p2 : Int32} {Q : Int32 → am_TI → Prop} (hd : 3 ≤ d) (hq : am_SH[q]? = some (.inl 12)) (h : wp_M_hearer I L R q p1 p2  Q) : am_Cm d 0 0 y_M_hearer b_M_hearer 3 (some .int) [.ref q, .int p1, .int p2] (I, L, R, am_SH) (po_M_hearer L R Q) := by
  refine am_Cm_of (ini := false) (by decide +kernel) (fun z => by cases z) (by simp [Value.category]) (fun r σ' z => by obtain ⟨x, _, rfl, -⟩ := z; exact ⟨_, rfl, rfl⟩) ?_
  unfold wp_M_hearer at h
  show am_Wp (d, "UnseenRingModel", b_M_hearer, 3, false) 0 0 0 [some (.ref q), some (.int p1), some (.int p2)] [] (I, L, R, am_SH) (po_M_hearer L R Q)
  refine am_aload_n (n := 1) d_M_hearer_0 rfl rfl ?_
  refine am_iload_n (n := 2) d_M_hearer_1 rfl rfl ?_
  refine am_callV (kc := 0) (ks := 0) (As := [.int p1]) (n := 5) d_M_hearer_2 rfl ce_M_isHearer lk_M_328 in_M_isHearer rfl rfl hq rfl rfl (Nat.le_of_ble_eq_true rfl) (Or.inl rfl) (cm_M_isHearer (d := d - 1) hw (by omega) hq h) (by omega) ?_
  rintro _ _ ⟨r1, rfl, rfl, h⟩
  show am_Wp (d, "UnseenRingModel", b_M_hearer, 3, false) 0 0 5 [some (.ref q), some (.int p1), some (.int p2)] [.int (am_b r1)] (I, L, R, am_SH) (po_M_hearer L R Q)
  refine am_if_ne (y := 0) (tgt := 14) (n := 8) d_M_hearer_5 rfl rfl (fun c1 => ?_) (fun c1 => ?_)
  · have h := h.2 (am_b_n0 c1)
    refine am_iload_n (n := 15) d_M_hearer_14 rfl rfl ?_
    by_cases c2 : p2 = 0
    · have h := h.1 c2
      refine am_tableIn (off := 33) (tgt := 48) d_M_hearer_15 (by rw [c2]; decide) (by rw [c2]; decide) (by rw [c2]; decide +kernel) rfl ?_
      refine am_aload_n (n := 49) d_M_hearer_48 rfl rfl ?_
      refine am_aload_n (n := 50) d_M_hearer_49 rfl rfl ?_
      refine am_iload_n (n := 51) d_M_hearer_50 rfl rfl ?_
      refine am_iload_n (n := 52) d_M_hearer_51 rfl rfl ?_
      refine am_callV (kc := 0) (ks := 0) (As := [.int p1, .int p2]) (n := 55) d_M_hearer_52 rfl ce_M_hearerOf lk_M_313 in_M_hearerOf rfl rfl hq rfl rfl (Nat.le_of_ble_eq_true rfl) (Or.inl rfl) (cm_M_hearerOf (d := d - 1) hw (by omega) hq h) (by omega) ?_
      rintro _ _ ⟨r2, rfl, rfl, h⟩
      show am_Wp (d, "UnseenRingModel", b_M_hearer, 3, false) 0 0 55 [some (.ref q), some (.int p1), some (.int p2)] [.int r2, .ref q] (I, L, R, am_SH) (po_M_hearer L R Q)
      refine am_callV (kc := 0) (ks := 0) (As := [.int r2]) (n := 58) d_M_hearer_55 rfl ce_M_gives lk_M_125 in_M_gives rfl rfl hq rfl rfl (Nat.le_of_ble_eq_true rfl) (Or.inl rfl) (cm_M_gives (d := d - 1) hw (by omega) hq h) (by omega) ?_
      rintro _ _ ⟨r3, I1, rfl, rfl, h⟩
      show am_Wp (d, "UnseenRingModel", b_M_hearer, 3, false) 0 0 58 [some (.ref q), some (.int p1), some (.int p2)] [.int r3] (I1, L, R, am_SH) (po_M_hearer L R Q)
      exact am_iret d_M_hearer_58 ⟨r3, I1, rfl, rfl, h⟩
    by_cases c3 : p2 = 1
    · have h := h.2.1 c3
      refine am_tableIn (off := 33) (tgt := 48) d_M_hearer_15 (by rw [c3]; decide) (by rw [c3]; decide) (by rw [c3]; decide +kernel) rfl ?_
      refine am_aload_n (n := 49) d_M_hearer_48 rfl rfl ?_
      refine am_aload_n (n := 50) d_M_hearer_49 rfl rfl ?_
      refine am_iload_n (n := 51) d_M_hearer_50 rfl rfl ?_
      refine am_iload_n (n := 52) d_M_hearer_51 rfl rfl ?_
      refine am_callV (kc := 0) (ks := 0) (As := [.int p1, .int p2]) (n := 55) d_M_hearer_52 rfl ce_M_hearerOf lk_M_313 in_M_hearerOf rfl rfl hq rfl rfl (Nat.le_of_ble_eq_true rfl) (Or.inl rfl) (cm_M_hearerOf (d := d - 1) hw (by omega) hq h) (by omega) ?_
      rintro _ _ ⟨r4, rfl, rfl, h⟩
      show am_Wp (d, "UnseenRingModel", b_M_hearer, 3, false) 0 0 55 [some (.ref q), some (.int p1), some (.int p2)] [.int r4, .ref q] (I, L, R, am_SH) (po_M_hearer L R Q)
      refine am_callV (kc := 0) (ks := 0) (As := [.int r4]) (n := 58) d_M_hearer_55 rfl ce_M_gives lk_M_125 in_M_gives rfl rfl hq rfl rfl (Nat.le_of_ble_eq_true rfl) (Or.inl rfl) (cm_M_gives (d := d - 1) hw (by omega) hq h) (by omega) ?_
      rintro _ _ ⟨r5, I2, rfl, rfl, h⟩
      show am_Wp (d, "UnseenRingModel", b_M_hearer, 3, false) 0 0 58 [some (.ref q), some (.int p1), some (.int p2)] [.int r5] (I2, L, R, am_SH) (po_M_hearer L R Q)
      exact am_iret d_M_hearer_58 ⟨r5, I2, rfl, rfl, h⟩
    by_cases c4 : p2 = 2
    · have h := h.2.2.1 c4
      refine am_tableIn (off := 33) (tgt := 48) d_M_hearer_15 (by rw [c4]; decide) (by rw [c4]; decide) (by rw [c4]; decide +kernel) rfl ?_
      refine am_aload_n (n := 49) d_M_hearer_48 rfl rfl ?_
      refine am_aload_n (n := 50) d_M_hearer_49 rfl rfl ?_
      refine am_iload_n (n := 51) d_M_hearer_50 rfl rfl ?_
      refine am_iload_n (n := 52) d_M_hearer_51 rfl rfl ?_
      refine am_callV (kc := 0) (ks := 0) (As := [.int p1, .int p2]) (n := 55) d_M_hearer_52 rfl ce_M_hearerOf lk_M_313 in_M_hearerOf rfl rfl hq rfl rfl (Nat.le_of_ble_eq_true rfl) (Or.inl rfl) (cm_M_hearerOf (d := d - 1) hw (by omega) hq h) (by omega) ?_
      rintro _ _ ⟨r6, rfl, rfl, h⟩
      show am_Wp (d, "UnseenRingModel", b_M_hearer, 3, false) 0 0 55 [some (.ref q), some (.int p1), some (.int p2)] [.int r6, .ref q] (I, L, R, am_SH) (po_M_hearer L R Q)
      refine am_callV (kc := 0) (ks := 0) (As := [.int r6]) (n := 58) d_M_hearer_55 rfl ce_M_gives lk_M_125 in_M_gives rfl rfl hq rfl rfl (Nat.le_of_ble_eq_true rfl) (Or.inl rfl) (cm_M_gives (d := d - 1) hw (by omega) hq h) (by omega) ?_
      rintro _ _ ⟨r7, I3, rfl, rfl, h⟩
      show am_Wp (d, "UnseenRingModel", b_M_hearer, 3, false) 0 0 58 [some (.ref q), some (.int p1), some (.int p2)] [.int r7] (I3, L, R, am_SH) (po_M_hearer L R Q)
      exact am_iret d_M_hearer_58 ⟨r7, I3, rfl, rfl, h⟩
    by_cases c5 : p2 = 3
    · have h := h.2.2.2.1 c5
      refine am_tableIn (off := 44) (tgt := 59) d_M_hearer_15 (by rw [c5]; decide) (by rw [c5]; decide) (by rw [c5]; decide +kernel) rfl ?_
      refine am_aload_n (n := 60) d_M_hearer_59 rfl rfl ?_
      refine am_aload_n (n := 61) d_M_hearer_60 rfl rfl ?_
      refine am_iload_n (n := 62) d_M_hearer_61 rfl rfl ?_
      refine am_callV (kc := 0) (ks := 0) (As := [.int p1]) (n := 65) d_M_hearer_62 rfl ce_M_farOf lk_M_331 in_M_farOf rfl rfl hq rfl rfl (Nat.le_of_ble_eq_true rfl) (Or.inl rfl) (cm_M_farOf (d := d - 1) hw (by omega) hq h) (by omega) ?_
      rintro _ _ ⟨r8, rfl, rfl, h⟩
      show am_Wp (d, "UnseenRingModel", b_M_hearer, 3, false) 0 0 65 [some (.ref q), some (.int p1), some (.int p2)] [.int r8, .ref q] (I, L, R, am_SH) (po_M_hearer L R Q)
      refine am_callV (kc := 0) (ks := 0) (As := [.int r8]) (n := 68) d_M_hearer_65 rfl ce_M_gives lk_M_125 in_M_gives rfl rfl hq rfl rfl (Nat.le_of_ble_eq_true rfl) (Or.inl rfl) (cm_M_gives (d := d - 1) hw (by omega) hq h) (by omega) ?_
      rintro _ _ ⟨r9, I4, rfl, rfl, h⟩
      show am_Wp (d, "UnseenRingModel", b_M_hearer, 3, false) 0 0 68 [some (.ref q), some (.int p1), some (.int p2)] [.int r9] (I4, L, R, am_SH) (po_M_hearer L R Q)
      exact am_iret d_M_hearer_68 ⟨r9, I4, rfl, rfl, h⟩
    by_cases c6 : p2 = 4
    · have h := h.2.2.2.2.1 c6
      refine am_tableIn (off := 54) (tgt := 69) d_M_hearer_15 (by rw [c6]; decide) (by rw [c6]; decide) (by rw [c6]; decide +kernel) rfl ?_
      refine am_aload_n (n := 70) d_M_hearer_69 rfl rfl ?_
      refine am_aload_n (n := 71) d_M_hearer_70 rfl rfl ?_
      refine am_iload_n (n := 72) d_M_hearer_71 rfl rfl ?_
      refine am_iconst (n := 73) d_M_hearer_72 ci_3 rfl ?_
      refine am_callV (kc := 0) (ks := 0) (As := [.int p1, .int 3]) (n := 76) d_M_hearer_73 rfl ce_M_hearerOf lk_M_313 in_M_hearerOf rfl rfl hq rfl rfl (Nat.le_of_ble_eq_true rfl) (Or.inl rfl) (cm_M_hearerOf (d := d - 1) hw (by omega) hq h) (by omega) ?_
      rintro _ _ ⟨r10, rfl, rfl, h⟩
      show am_Wp (d, "UnseenRingModel", b_M_hearer, 3, false) 0 0 76 [some (.ref q), some (.int p1), some (.int p2)] [.int r10, .ref q] (I, L, R, am_SH) (po_M_hearer L R Q)
      refine am_callV (kc := 0) (ks := 0) (As := [.int r10]) (n := 79) d_M_hearer_76 rfl ce_M_gives lk_M_125 in_M_gives rfl rfl hq rfl rfl (Nat.le_of_ble_eq_true rfl) (Or.inl rfl) (cm_M_gives (d := d - 1) hw (by omega) hq h) (by omega) ?_
      rintro _ _ ⟨r11, I5, rfl, rfl, h⟩
      show am_Wp (d, "UnseenRingModel", b_M_hearer, 3, false) 0 0 79 [some (.ref q), some (.int p1), some (.int p2)] [.int r11] (I5, L, R, am_SH) (po_M_hearer L R Q)
      exact am_iret d_M_hearer_79 ⟨r11, I5, rfl, rfl, h⟩
    have h := h.2.2.2.2.2 c2 c3 c4 c5 c6
    have z0 := lv_neT c2 (a := 0) (by decide)
    have z1 := lv_neT c3 (a := 1) (by decide)
    have z2 := lv_neT c4 (a := 2) (by decide)
    have z3 := lv_neT c5 (a := 3) (by decide)
    have z4 := lv_neT c6 (a := 4) (by decide)
    refine am_tableOut (tgt := 80) d_M_hearer_15 (by omega) rfl ?_
    refine am_aload_n (n := 81) d_M_hearer_80 rfl rfl ?_
    refine am_iconst (n := 82) d_M_hearer_81 ci_1 rfl ?_
    refine am_callV (kc := 0) (ks := 0) (As := [.int 1]) (n := 85) d_M_hearer_82 rfl ce_M_refuse lk_M_121 in_M_refuse rfl rfl hq rfl rfl (Nat.le_of_ble_eq_true rfl) (Or.inl rfl) (cm_M_refuse (d := d - 1) hw (by omega) hq h) (by omega) ?_
    rintro _ _ ⟨r12, I6, rfl, rfl, h⟩
    show am_Wp (d, "UnseenRingModel", b_M_hearer, 3, false) 0 0 85 [some (.ref q), some (.int p1), some (.int p2)] [.int r12] (I6, L, R, am_SH) (po_M_hearer L R Q)
    exact am_iret d_M_hearer_85 ⟨r12, I6, rfl, rfl, h⟩
  · have h := h.1 (am_b_0 c1)
    refine am_aload_n (n := 9) d_M_hearer_8 rfl rfl ?_
    refine am_iconst (n := 10) d_M_hearer_9 ci_1 rfl ?_
    refine am_callV (kc := 0) (ks := 0) (As := [.int 1]) (n := 13) d_M_hearer_10 rfl ce_M_refuse lk_M_121 in_M_refuse rfl rfl hq rfl rfl (Nat.le_of_ble_eq_true rfl) (Or.inl rfl) (cm_M_refuse (d := d - 1) hw (by omega) hq h) (by omega) ?_
    rintro _ _ ⟨r13, I7, rfl, rfl, h⟩
    show am_Wp (d, "UnseenRingModel", b_M_hearer, 3, false) 0 0 13 [some (.ref q), some (.int p1), some (.int p2)] [.int r13] (I7, L, R, am_SH) (po_M_hearer L R Q)
    exact am_iret d_M_hearer_13 ⟨r13, I7, rfl, rfl, h⟩
abbrev po_M_dog (L : am_TL) (R : am_TR) (Q : Int32 → am_TI → Prop) : Option Value → am_St → Prop := fun r σ' => ∃ (x : Int32) (I' : am_TI), r = some (.int x) ∧ σ' = (I', L, R, am_SH) ∧ Q x I'
def wb_M_dog_23 (L : am_TL) (R : am_TR) (q : Nat) (p1 : Int32) (p2 : Int32) (Q : Int32 → am_TI → Prop)  (I : am_TI) : Prop := wp_M_refuse I L R q 1 (fun (r1 : Int32) (I1 : am_TI) => Q r1 I1)
set_option maxRecDepth 20000 in
theorem tb_M_dog_23 {d : Nat}  {L : am_TL} {R : am_TR} {q : Nat} {p1 : Int32} {p2 : Int32} {Q : Int32 → am_TI → Prop}  (hw : am_Wf R) (hq : am_SH[q]? = some (.inl 12)) (hd : 4 ≤ d) (I : am_TI) (h : wb_M_dog_23 L R q p1 p2 Q  I) : am_Wp (d, "UnseenRingModel", b_M_dog, 3, false) 0 0 23 [some (.ref q), some (.int p1), some (.int p2)] [] (I, L, R, am_SH) (po_M_dog L R Q) := by
  unfold wb_M_dog_23 at h
  refine am_aload_n (n := 24) d_M_dog_23 rfl rfl ?_
  refine am_iconst (n := 25) d_M_dog_24 ci_1 rfl ?_
  refine am_callV (kc := 0) (ks := 0) (As := [.int 1]) (n := 28) d_M_dog_25 rfl ce_M_refuse lk_M_121 in_M_refuse rfl rfl hq rfl rfl (Nat.le_of_ble_eq_true rfl) (Or.inl rfl) (cm_M_refuse (d := d - 1) hw (by omega) hq h) (by omega) ?_
  rintro _ _ ⟨r1, I1, rfl, rfl, h⟩
  show am_Wp (d, "UnseenRingModel", b_M_dog, 3, false) 0 0 28 [some (.ref q), some (.int p1), some (.int p2)] [.int r1] (I1, L, R, am_SH) (po_M_dog L R Q)
  exact am_iret d_M_dog_28 ⟨r1, I1, rfl, rfl, h⟩
def wb_M_dog_54 (L : am_TL) (R : am_TR) (q : Nat) (p1 : Int32) (p2 : Int32) (Q : Int32 → am_TI → Prop)  (I : am_TI) (s0 : Nat) (s1 : Int32) : Prop := wp_M_gives I L R s0 s1 (fun (r3 : Int32) (I2 : am_TI) => Q r3 I2)
set_option maxRecDepth 20000 in
theorem tb_M_dog_54 {d : Nat}  {L : am_TL} {R : am_TR} {q : Nat} {p1 : Int32} {p2 : Int32} {Q : Int32 → am_TI → Prop}  (hw : am_Wf R) (hq : am_SH[q]? = some (.inl 12)) (hd : 4 ≤ d) (I : am_TI) (s0 : Nat) (s1 : Int32) (hs0 : am_SH[s0]? = some (.inl 12)) (h : wb_M_dog_54 L R q p1 p2 Q  I s0 s1) : am_Wp (d, "UnseenRingModel", b_M_dog, 3, false) 0 0 54 [some (.ref q), some (.int p1), some (.int p2)] [.int s1, .ref s0] (I, L, R, am_SH) (po_M_dog L R Q) := by
  unfold wb_M_dog_54 at h
  refine am_callV (kc := 0) (ks := 0) (As := [.int s1]) (n := 57) d_M_dog_54 rfl ce_M_gives lk_M_125 in_M_gives rfl rfl hs0 rfl rfl (Nat.le_of_ble_eq_true rfl) (Or.inl rfl) (cm_M_gives (d := d - 1) hw (by omega) hs0 h) (by omega) ?_
  rintro _ _ ⟨r3, I2, rfl, rfl, h⟩
  show am_Wp (d, "UnseenRingModel", b_M_dog, 3, false) 0 0 57 [some (.ref q), some (.int p1), some (.int p2)] [.int r3] (I2, L, R, am_SH) (po_M_dog L R Q)
  exact am_iret d_M_dog_57 ⟨r3, I2, rfl, rfl, h⟩
def wp_M_dog (I : am_TI) (L : am_TL) (R : am_TR) (q : Nat) (p1 : Int32) (p2 : Int32)  (Q : Int32 → am_TI → Prop) : Prop := ((p1 < 0 → wb_M_dog_23 L R q p1 p2 Q I) ∧ (¬ p1 < 0 → (((I (q + 1) 4) ≤ p1 → wb_M_dog_23 L R q p1 p2 Q I) ∧ (¬ (I (q + 1) 4) ≤ p1 → ((p2 < 0 → wb_M_dog_23 L R q p1 p2 Q I) ∧ (¬ p2 < 0 → ((p2 ≤ 1 → ((p2 = 0 → (vp_in (34 + p1) 2258 ∧ wb_M_dog_54 L R q p1 p2 Q I q (I (q + 1) (Int32.toNatClampNeg (34 + p1))))) ∧ (¬ p2 = 0 → wp_M_dogsUp I L R q (fun (r2 : Int32) => wb_M_dog_54 L R q p1 p2 Q I q ((r2 >>> (p1 &&& 31)) &&& 1))))) ∧ (¬ p2 ≤ 1 → wb_M_dog_23 L R q p1 p2 Q I))))))))
set_option maxRecDepth 20000 in
theorem cm_M_dog {d : Nat} {I : am_TI} {L : am_TL} {R : am_TR}  (hw : am_Wf R)   {q : Nat} {p1 : Int32} {p2 : Int32} {Q : Int32 → am_TI → Prop} (hd : 4 ≤ d) (hq : am_SH[q]? = some (.inl 12)) (h : wp_M_dog I L R q p1 p2  Q) : am_Cm d 0 0 y_M_dog b_M_dog 3 (some .int) [.ref q, .int p1, .int p2] (I, L, R, am_SH) (po_M_dog L R Q) := by
  refine am_Cm_of (ini := false) (by decide +kernel) (fun z => by cases z) (by simp [Value.category]) (fun r σ' z => by obtain ⟨x, _, rfl, -⟩ := z; exact ⟨_, rfl, rfl⟩) ?_
  unfold wp_M_dog at h
  show am_Wp (d, "UnseenRingModel", b_M_dog, 3, false) 0 0 0 [some (.ref q), some (.int p1), some (.int p2)] [] (I, L, R, am_SH) (po_M_dog L R Q)
  refine am_iload_n (n := 1) d_M_dog_0 rfl rfl ?_
  refine am_if_lt (y := 0) (tgt := 23) (n := 4) d_M_dog_1 rfl rfl (fun c1 => ?_) (fun c1 => ?_)
  · have h := h.1 c1
    exact tb_M_dog_23 hw hq hd I h
  · have h := h.2 c1
    refine am_iload_n (n := 5) d_M_dog_4 rfl rfl ?_
    refine am_aload_n (n := 6) d_M_dog_5 rfl rfl ?_
    refine am_getR (x := (q + 1)) (n := 9) f_M_7 d_M_dog_6 rfl rfl hq (hw.1 q 12 0 1 hq rfl) ?_
    refine am_iconst (n := 10) d_M_dog_9 ci_4 rfl ?_
    refine am_iald2 (n := 11) d_M_dog_10 rfl (am_sho (k := 0) (o := 1) hq (by decide) (by decide) (by decide) rfl) cx_4_2258 cn_4 ?_
    refine am_icmp_ge (tgt := 23) (n := 14) d_M_dog_11 rfl rfl (fun c2 => ?_) (fun c2 => ?_)
    · have h := h.1 c2
      exact tb_M_dog_23 hw hq hd I h
    · have h := h.2 c2
      refine am_iload_n (n := 15) d_M_dog_14 rfl rfl ?_
      refine am_if_lt (y := 0) (tgt := 23) (n := 18) d_M_dog_15 rfl rfl (fun c3 => ?_) (fun c3 => ?_)
      · have h := h.1 c3
        exact tb_M_dog_23 hw hq hd I h
      · have h := h.2 c3
        refine am_iload_n (n := 19) d_M_dog_18 rfl rfl ?_
        refine am_iconst (n := 20) d_M_dog_19 ci_1 rfl ?_
        refine am_icmp_le (tgt := 29) (n := 23) d_M_dog_20 rfl rfl (fun c4 => ?_) (fun c4 => ?_)
        · have h := h.1 c4
          refine am_aload_n (n := 30) d_M_dog_29 rfl rfl ?_
          refine am_iload_n (n := 31) d_M_dog_30 rfl rfl ?_
          refine am_if_ne (y := 0) (tgt := 46) (n := 34) d_M_dog_31 rfl rfl (fun c5 => ?_) (fun c5 => ?_)
          · have h := h.2 c5
            refine am_aload_n (n := 47) d_M_dog_46 rfl rfl ?_
            refine am_callV (kc := 0) (ks := 0) (As := []) (n := 50) d_M_dog_47 rfl ce_M_dogsUp lk_M_325 in_M_dogsUp rfl rfl hq rfl rfl (Nat.le_of_ble_eq_true rfl) (Or.inl rfl) (cm_M_dogsUp (d := d - 1) hw (by omega) hq h) (by omega) ?_
            rintro _ _ ⟨r2, rfl, rfl, h⟩
            show am_Wp (d, "UnseenRingModel", b_M_dog, 3, false) 0 0 50 [some (.ref q), some (.int p1), some (.int p2)] [.int r2, .ref q] (I, L, R, am_SH) (po_M_dog L R Q)
            refine am_iload_n (n := 51) d_M_dog_50 rfl rfl ?_
            refine am_ishr (n := 52) d_M_dog_51 rfl ?_
            refine am_iconst (n := 53) d_M_dog_52 ci_1 rfl ?_
            refine am_iand (n := 54) d_M_dog_53 rfl ?_
            exact tb_M_dog_54 hw hq hd I q ((r2 >>> (p1 &&& 31)) &&& 1) hq h
          · have h := h.1 c5
            refine am_aload_n (n := 35) d_M_dog_34 rfl rfl ?_
            refine am_getR (x := (q + 1)) (n := 38) f_M_7 d_M_dog_35 rfl rfl hq (hw.1 q 12 0 1 hq rfl) ?_
            refine am_bipush (n := 40) d_M_dog_38 cb_34 rfl ?_
            refine am_iload_n (n := 41) d_M_dog_40 rfl rfl ?_
            refine am_iadd (n := 42) d_M_dog_41 rfl ?_
            obtain ⟨g1, h⟩ := h
            refine am_iald2 (n := 43) d_M_dog_42 rfl (am_sho (k := 0) (o := 1) hq (by decide) (by decide) (by decide) rfl) g1 rfl ?_
            refine am_goto (tgt := 54) d_M_dog_43 rfl ?_
            exact tb_M_dog_54 hw hq hd I q (I (q + 1) (Int32.toNatClampNeg (34 + p1))) hq h
        · have h := h.2 c4
          exact tb_M_dog_23 hw hq hd I h
abbrev po_M_hearersBy (I : am_TI) (L : am_TL) (R : am_TR) (Q : Int32 → Prop) : Option Value → am_St → Prop := fun r σ' => ∃ (x : Int32), r = some (.int x) ∧ σ' = (I, L, R, am_SH) ∧ Q x
def wl_M_hearersBy_5 (I : am_TI) (L : am_TL) (R : am_TR) (q : Nat) (p1 : Int32) (p2 : Int32) (Q : Int32 → Prop)  : Nat → Int32 → Int32 → Prop
  | 0 => fun _ _ => False
  | f5 + 1 => fun v3 v4 => (((I (q + 1) 3) ≤ v4 → Q v3) ∧ (¬ (I (q + 1) 3) ≤ v4 → wp_M_hearerOf I L R q v4 0 (fun (r1 : Int32) => wp_M_farBetween I L R q r1 p1 (fun (r2 : Int32) => ((p2 < r2 → wl_M_hearersBy_5 I L R q p1 p2 Q f5 (v3 ||| 0) (v4 + 1)) ∧ (¬ p2 < r2 → wl_M_hearersBy_5 I L R q p1 p2 Q f5 (v3 ||| ((1 : Int32) <<< (v4 &&& 31))) (v4 + 1)))))))
set_option maxRecDepth 20000 in
theorem tl_M_hearersBy_5 {d : Nat}  {I : am_TI} {L : am_TL} {R : am_TR} {q : Nat} {p1 : Int32} {p2 : Int32} {Q : Int32 → Prop}  (hw : am_Wf R) (hq : am_SH[q]? = some (.inl 12)) (hd : 2 ≤ d) : ∀ (n : Nat) (v3 : Int32) (v4 : Int32), wl_M_hearersBy_5 I L R q p1 p2 Q  n v3 v4 → am_Wp (d, "UnseenRingModel", b_M_hearersBy, 5, false) 0 0 5 [some (.ref q), some (.int p1), some (.int p2), some (.int v3), some (.int v4)] [] (I, L, R, am_SH) (po_M_hearersBy I L R Q) := by
  intro n
  induction n with
  | zero => intro v3 v4 h; exact h.elim
  | succ n ih =>
    intro v3 v4 h
    unfold wl_M_hearersBy_5 at h
    refine am_iload (n := 7) d_M_hearersBy_5 rfl rfl ?_
    refine am_aload_n (n := 8) d_M_hearersBy_7 rfl rfl ?_
    refine am_getR (x := (q + 1)) (n := 11) f_M_7 d_M_hearersBy_8 rfl rfl hq (hw.1 q 12 0 1 hq rfl) ?_
    refine am_iconst (n := 12) d_M_hearersBy_11 ci_3 rfl ?_
    refine am_iald2 (n := 13) d_M_hearersBy_12 rfl (am_sho (k := 0) (o := 1) hq (by decide) (by decide) (by decide) rfl) cx_3_2258 cn_3 ?_
    refine am_icmp_ge (tgt := 49) (n := 16) d_M_hearersBy_13 rfl rfl (fun c1 => ?_) (fun c1 => ?_)
    · have h := h.1 c1
      refine am_iload_n (n := 50) d_M_hearersBy_49 rfl rfl ?_
      exact am_iret d_M_hearersBy_50 ⟨v3, rfl, rfl, h⟩
    · have h := h.2 c1
      refine am_iload_n (n := 17) d_M_hearersBy_16 rfl rfl ?_
      refine am_aload_n (n := 18) d_M_hearersBy_17 rfl rfl ?_
      refine am_aload_n (n := 19) d_M_hearersBy_18 rfl rfl ?_
      refine am_iload (n := 21) d_M_hearersBy_19 rfl rfl ?_
      refine am_iconst (n := 22) d_M_hearersBy_21 ci_0 rfl ?_
      refine am_callV (kc := 0) (ks := 0) (As := [.int v4, .int 0]) (n := 25) d_M_hearersBy_22 rfl ce_M_hearerOf lk_M_313 in_M_hearerOf rfl rfl hq rfl rfl (Nat.le_of_ble_eq_true rfl) (Or.inl rfl) (cm_M_hearerOf (d := d - 1) hw (by omega) hq h) (by omega) ?_
      rintro _ _ ⟨r1, rfl, rfl, h⟩
      show am_Wp (d, "UnseenRingModel", b_M_hearersBy, 5, false) 0 0 25 [some (.ref q), some (.int p1), some (.int p2), some (.int v3), some (.int v4)] [.int r1, .ref q, .int v3] (I, L, R, am_SH) (po_M_hearersBy I L R Q)
      refine am_iload_n (n := 26) d_M_hearersBy_25 rfl rfl ?_
      refine am_callV (kc := 0) (ks := 0) (As := [.int r1, .int p1]) (n := 29) d_M_hearersBy_26 rfl ce_M_farBetween lk_M_316 in_M_farBetween rfl rfl hq rfl rfl (Nat.le_of_ble_eq_true rfl) (Or.inl rfl) (cm_M_farBetween (d := d - 1) hw (by omega) hq h) (by omega) ?_
      rintro _ _ ⟨r2, rfl, rfl, h⟩
      show am_Wp (d, "UnseenRingModel", b_M_hearersBy, 5, false) 0 0 29 [some (.ref q), some (.int p1), some (.int p2), some (.int v3), some (.int v4)] [.int r2, .int v3] (I, L, R, am_SH) (po_M_hearersBy I L R Q)
      refine am_iload_n (n := 30) d_M_hearersBy_29 rfl rfl ?_
      refine am_icmp_gt (tgt := 40) (n := 33) d_M_hearersBy_30 rfl rfl (fun c2 => ?_) (fun c2 => ?_)
      · have h := h.1 c2
        refine am_iconst (n := 41) d_M_hearersBy_40 ci_0 rfl ?_
        refine am_ior (n := 42) d_M_hearersBy_41 rfl ?_
        refine am_istore_n (ls' := [some (.ref q), some (.int p1), some (.int p2), some (.int (v3 ||| 0)), some (.int v4)]) (n := 43) d_M_hearersBy_42 (by decide) rfl rfl ?_
        refine am_iinc (v := v4 + 1) (ls' := [some (.ref q), some (.int p1), some (.int p2), some (.int (v3 ||| 0)), some (.int (v4 + 1))]) (n := 46) d_M_hearersBy_43 rfl (congrArg _ ci_1) (by decide) rfl rfl ?_
        refine am_goto (tgt := 5) d_M_hearersBy_46 rfl ?_
        exact ih (v3 ||| 0) (v4 + 1)  h
      · have h := h.2 c2
        refine am_iconst (n := 34) d_M_hearersBy_33 ci_1 rfl ?_
        refine am_iload (n := 36) d_M_hearersBy_34 rfl rfl ?_
        refine am_ishl (n := 37) d_M_hearersBy_36 rfl ?_
        refine am_goto (tgt := 41) d_M_hearersBy_37 rfl ?_
        refine am_ior (n := 42) d_M_hearersBy_41 rfl ?_
        refine am_istore_n (ls' := [some (.ref q), some (.int p1), some (.int p2), some (.int (v3 ||| ((1 : Int32) <<< (v4 &&& 31)))), some (.int v4)]) (n := 43) d_M_hearersBy_42 (by decide) rfl rfl ?_
        refine am_iinc (v := v4 + 1) (ls' := [some (.ref q), some (.int p1), some (.int p2), some (.int (v3 ||| ((1 : Int32) <<< (v4 &&& 31)))), some (.int (v4 + 1))]) (n := 46) d_M_hearersBy_43 rfl (congrArg _ ci_1) (by decide) rfl rfl ?_
        refine am_goto (tgt := 5) d_M_hearersBy_46 rfl ?_
        exact ih (v3 ||| ((1 : Int32) <<< (v4 &&& 31))) (v4 + 1)  h
def wp_M_hearersBy (I : am_TI) (L : am_TL) (R : am_TR) (q : Nat) (p1 : Int32) (p2 : Int32)  (Q : Int32 → Prop) : Prop := (∃ z, wl_M_hearersBy_5 I L R q p1 p2 Q z 0 0)
set_option maxRecDepth 20000 in
theorem cm_M_hearersBy {d : Nat} {I : am_TI} {L : am_TL} {R : am_TR}  (hw : am_Wf R)   {q : Nat} {p1 : Int32} {p2 : Int32} {Q : Int32 → Prop} (hd : 2 ≤ d) (hq : am_SH[q]? = some (.inl 12)) (h : wp_M_hearersBy I L R q p1 p2  Q) : am_Cm d 0 0 y_M_hearersBy b_M_hearersBy 5 (some .int) [.ref q, .int p1, .int p2] (I, L, R, am_SH) (po_M_hearersBy I L R Q) := by
  refine am_Cm_of (ini := false) (by decide +kernel) (fun z => by cases z) (by simp [Value.category]) (fun r σ' z => by obtain ⟨x, rfl, -⟩ := z; exact ⟨_, rfl, rfl⟩) ?_
  unfold wp_M_hearersBy at h
  show am_Wp (d, "UnseenRingModel", b_M_hearersBy, 5, false) 0 0 0 [some (.ref q), some (.int p1), some (.int p2), none, none] [] (I, L, R, am_SH) (po_M_hearersBy I L R Q)
  refine am_iconst (n := 1) d_M_hearersBy_0 ci_0 rfl ?_
  refine am_istore_n (ls' := [some (.ref q), some (.int p1), some (.int p2), some (.int 0), none]) (n := 2) d_M_hearersBy_1 (by decide) rfl rfl ?_
  refine am_iconst (n := 3) d_M_hearersBy_2 ci_0 rfl ?_
  refine am_istore (ls' := [some (.ref q), some (.int p1), some (.int p2), some (.int 0), some (.int 0)]) (n := 5) d_M_hearersBy_3 (by decide) rfl rfl ?_
  obtain ⟨n, h⟩ := h
  exact tl_M_hearersBy_5 hw hq hd n 0 0 h
abbrev po_M_isCell (I : am_TI) (L : am_TL) (R : am_TR) (Q : Bool → Prop) : Option Value → am_St → Prop := fun r σ' => ∃ (x : Bool), r = some (.int (am_b x)) ∧ σ' = (I, L, R, am_SH) ∧ Q x
def wp_M_isCell (I : am_TI) (L : am_TL) (R : am_TR) (q : Nat) (p1 : Int32)  (Q : Bool → Prop) : Prop := ((p1 < 0 → Q false) ∧ (¬ p1 < 0 → wp_M_cellsOf I L R q 0 (fun (r1 : Int32) => ((r1 ≤ p1 → Q false) ∧ (¬ r1 ≤ p1 → Q true)))))
set_option maxRecDepth 20000 in
theorem cm_M_isCell {d : Nat} {I : am_TI} {L : am_TL} {R : am_TR}  (hw : am_Wf R)   {q : Nat} {p1 : Int32} {Q : Bool → Prop} (hd : 1 ≤ d) (hq : am_SH[q]? = some (.inl 12)) (h : wp_M_isCell I L R q p1  Q) : am_Cm d 0 0 y_M_isCell b_M_isCell 2 (some .boolean) [.ref q, .int p1] (I, L, R, am_SH) (po_M_isCell I L R Q) := by
  refine am_Cm_of (ini := false) (by decide +kernel) (fun z => by cases z) (by simp [Value.category]) (fun r σ' z => by obtain ⟨x, rfl, -⟩ := z; exact ⟨_, rfl, am_b_nar x⟩) ?_
  unfold wp_M_isCell at h
  show am_Wp (d, "UnseenRingModel", b_M_isCell, 2, false) 0 0 0 [some (.ref q), some (.int p1)] [] (I, L, R, am_SH) (po_M_isCell I L R Q)
  refine am_iload_n (n := 1) d_M_isCell_0 rfl rfl ?_
  refine am_if_lt (y := 0) (tgt := 17) (n := 4) d_M_isCell_1 rfl rfl (fun c1 => ?_) (fun c1 => ?_)
  · have h := h.1 c1
    refine am_iconst (n := 18) d_M_isCell_17 ci_0 rfl ?_
    exact am_iret d_M_isCell_18 ⟨false, rfl, rfl, h⟩
  · have h := h.2 c1
    refine am_iload_n (n := 5) d_M_isCell_4 rfl rfl ?_
    refine am_aload_n (n := 6) d_M_isCell_5 rfl rfl ?_
    refine am_iconst (n := 7) d_M_isCell_6 ci_0 rfl ?_
    refine am_callV (kc := 0) (ks := 0) (As := [.int 0]) (n := 10) d_M_isCell_7 rfl ce_M_cellsOf lk_M_223 in_M_cellsOf rfl rfl hq rfl rfl (Nat.le_of_ble_eq_true rfl) (Or.inl rfl) (cm_M_cellsOf (d := d - 1) hw (by omega) hq h) (by omega) ?_
    rintro _ _ ⟨r1, rfl, rfl, h⟩
    show am_Wp (d, "UnseenRingModel", b_M_isCell, 2, false) 0 0 10 [some (.ref q), some (.int p1)] [.int r1, .int p1] (I, L, R, am_SH) (po_M_isCell I L R Q)
    refine am_icmp_ge (tgt := 17) (n := 13) d_M_isCell_10 rfl rfl (fun c2 => ?_) (fun c2 => ?_)
    · have h := h.1 c2
      refine am_iconst (n := 18) d_M_isCell_17 ci_0 rfl ?_
      exact am_iret d_M_isCell_18 ⟨false, rfl, rfl, h⟩
    · have h := h.2 c2
      refine am_iconst (n := 14) d_M_isCell_13 ci_1 rfl ?_
      refine am_goto (tgt := 18) d_M_isCell_14 rfl ?_
      exact am_iret d_M_isCell_18 ⟨true, rfl, rfl, h⟩
abbrev po_M_cell (L : am_TL) (R : am_TR) (Q : Int32 → am_TI → Prop) : Option Value → am_St → Prop := fun r σ' => ∃ (x : Int32) (I' : am_TI), r = some (.int x) ∧ σ' = (I', L, R, am_SH) ∧ Q x I'
def wb_M_cell_17 (L : am_TL) (R : am_TR) (q : Nat) (p1 : Int32) (p2 : Int32) (Q : Int32 → am_TI → Prop)  (I : am_TI) : Prop := wp_M_refuse I L R q 1 (fun (r2 : Int32) (I1 : am_TI) => Q r2 I1)
set_option maxRecDepth 20000 in
theorem tb_M_cell_17 {d : Nat}  {L : am_TL} {R : am_TR} {q : Nat} {p1 : Int32} {p2 : Int32} {Q : Int32 → am_TI → Prop}  (hw : am_Wf R) (hq : am_SH[q]? = some (.inl 12)) (hd : 3 ≤ d) (I : am_TI) (h : wb_M_cell_17 L R q p1 p2 Q  I) : am_Wp (d, "UnseenRingModel", b_M_cell, 3, false) 0 0 17 [some (.ref q), some (.int p1), some (.int p2)] [] (I, L, R, am_SH) (po_M_cell L R Q) := by
  unfold wb_M_cell_17 at h
  refine am_aload_n (n := 18) d_M_cell_17 rfl rfl ?_
  refine am_iconst (n := 19) d_M_cell_18 ci_1 rfl ?_
  refine am_callV (kc := 0) (ks := 0) (As := [.int 1]) (n := 22) d_M_cell_19 rfl ce_M_refuse lk_M_121 in_M_refuse rfl rfl hq rfl rfl (Nat.le_of_ble_eq_true rfl) (Or.inl rfl) (cm_M_refuse (d := d - 1) hw (by omega) hq h) (by omega) ?_
  rintro _ _ ⟨r2, I1, rfl, rfl, h⟩
  show am_Wp (d, "UnseenRingModel", b_M_cell, 3, false) 0 0 22 [some (.ref q), some (.int p1), some (.int p2)] [.int r2] (I1, L, R, am_SH) (po_M_cell L R Q)
  exact am_iret d_M_cell_22 ⟨r2, I1, rfl, rfl, h⟩
def wb_M_cell_62 (L : am_TL) (R : am_TR) (q : Nat) (p1 : Int32) (p2 : Int32) (Q : Int32 → am_TI → Prop)  (I : am_TI) (s0 : Nat) (s1 : Int32) : Prop := wp_M_gives I L R s0 s1 (fun (r4 : Int32) (I2 : am_TI) => Q r4 I2)
set_option maxRecDepth 20000 in
theorem tb_M_cell_62 {d : Nat}  {L : am_TL} {R : am_TR} {q : Nat} {p1 : Int32} {p2 : Int32} {Q : Int32 → am_TI → Prop}  (hw : am_Wf R) (hq : am_SH[q]? = some (.inl 12)) (hd : 3 ≤ d) (I : am_TI) (s0 : Nat) (s1 : Int32) (hs0 : am_SH[s0]? = some (.inl 12)) (h : wb_M_cell_62 L R q p1 p2 Q  I s0 s1) : am_Wp (d, "UnseenRingModel", b_M_cell, 3, false) 0 0 62 [some (.ref q), some (.int p1), some (.int p2)] [.int s1, .ref s0] (I, L, R, am_SH) (po_M_cell L R Q) := by
  unfold wb_M_cell_62 at h
  refine am_callV (kc := 0) (ks := 0) (As := [.int s1]) (n := 65) d_M_cell_62 rfl ce_M_gives lk_M_125 in_M_gives rfl rfl hs0 rfl rfl (Nat.le_of_ble_eq_true rfl) (Or.inl rfl) (cm_M_gives (d := d - 1) hw (by omega) hs0 h) (by omega) ?_
  rintro _ _ ⟨r4, I2, rfl, rfl, h⟩
  show am_Wp (d, "UnseenRingModel", b_M_cell, 3, false) 0 0 65 [some (.ref q), some (.int p1), some (.int p2)] [.int r4] (I2, L, R, am_SH) (po_M_cell L R Q)
  exact am_iret d_M_cell_65 ⟨r4, I2, rfl, rfl, h⟩
def wp_M_cell (I : am_TI) (L : am_TL) (R : am_TR) (q : Nat) (p1 : Int32) (p2 : Int32)  (Q : Int32 → am_TI → Prop) : Prop := wp_M_isCell I L R q p1 (fun (r1 : Bool) => ((r1 = false → wb_M_cell_17 L R q p1 p2 Q I) ∧ (r1 = true → ((p2 < 0 → wb_M_cell_17 L R q p1 p2 Q I) ∧ (¬ p2 < 0 → ((p2 ≤ 2 → ((p2 = 0 → wp_M_hearersBy I L R q p1 0 (fun (r6 : Int32) => wb_M_cell_62 L R q p1 p2 Q I q r6)) ∧ (¬ p2 = 0 → ((p2 = 1 → wp_M_farBetween I L R q p1 (I (q + 1) 6) (fun (r5 : Int32) => wb_M_cell_62 L R q p1 p2 Q I q r5)) ∧ (¬ p2 = 1 → wp_M_dogsBy I L R q p1 (fun (r3 : Int32) => wb_M_cell_62 L R q p1 p2 Q I q r3)))))) ∧ (¬ p2 ≤ 2 → wb_M_cell_17 L R q p1 p2 Q I)))))))
set_option maxRecDepth 20000 in
theorem cm_M_cell {d : Nat} {I : am_TI} {L : am_TL} {R : am_TR}  (hw : am_Wf R)   {q : Nat} {p1 : Int32} {p2 : Int32} {Q : Int32 → am_TI → Prop} (hd : 3 ≤ d) (hq : am_SH[q]? = some (.inl 12)) (h : wp_M_cell I L R q p1 p2  Q) : am_Cm d 0 0 y_M_cell b_M_cell 3 (some .int) [.ref q, .int p1, .int p2] (I, L, R, am_SH) (po_M_cell L R Q) := by
  refine am_Cm_of (ini := false) (by decide +kernel) (fun z => by cases z) (by simp [Value.category]) (fun r σ' z => by obtain ⟨x, _, rfl, -⟩ := z; exact ⟨_, rfl, rfl⟩) ?_
  unfold wp_M_cell at h
  show am_Wp (d, "UnseenRingModel", b_M_cell, 3, false) 0 0 0 [some (.ref q), some (.int p1), some (.int p2)] [] (I, L, R, am_SH) (po_M_cell L R Q)
  refine am_aload_n (n := 1) d_M_cell_0 rfl rfl ?_
  refine am_iload_n (n := 2) d_M_cell_1 rfl rfl ?_
  refine am_callV (kc := 0) (ks := 0) (As := [.int p1]) (n := 5) d_M_cell_2 rfl ce_M_isCell lk_M_334 in_M_isCell rfl rfl hq rfl rfl (Nat.le_of_ble_eq_true rfl) (Or.inl rfl) (cm_M_isCell (d := d - 1) hw (by omega) hq h) (by omega) ?_
  rintro _ _ ⟨r1, rfl, rfl, h⟩
  show am_Wp (d, "UnseenRingModel", b_M_cell, 3, false) 0 0 5 [some (.ref q), some (.int p1), some (.int p2)] [.int (am_b r1)] (I, L, R, am_SH) (po_M_cell L R Q)
  refine am_if_eq (y := 0) (tgt := 17) (n := 8) d_M_cell_5 rfl rfl (fun c1 => ?_) (fun c1 => ?_)
  · have h := h.1 (am_b_0 c1)
    exact tb_M_cell_17 hw hq hd I h
  · have h := h.2 (am_b_n0 c1)
    refine am_iload_n (n := 9) d_M_cell_8 rfl rfl ?_
    refine am_if_lt (y := 0) (tgt := 17) (n := 12) d_M_cell_9 rfl rfl (fun c2 => ?_) (fun c2 => ?_)
    · have h := h.1 c2
      exact tb_M_cell_17 hw hq hd I h
    · have h := h.2 c2
      refine am_iload_n (n := 13) d_M_cell_12 rfl rfl ?_
      refine am_iconst (n := 14) d_M_cell_13 ci_2 rfl ?_
      refine am_icmp_le (tgt := 23) (n := 17) d_M_cell_14 rfl rfl (fun c3 => ?_) (fun c3 => ?_)
      · have h := h.1 c3
        refine am_aload_n (n := 24) d_M_cell_23 rfl rfl ?_
        refine am_iload_n (n := 25) d_M_cell_24 rfl rfl ?_
        refine am_if_ne (y := 0) (tgt := 37) (n := 28) d_M_cell_25 rfl rfl (fun c4 => ?_) (fun c4 => ?_)
        · have h := h.2 c4
          refine am_iload_n (n := 38) d_M_cell_37 rfl rfl ?_
          refine am_iconst (n := 39) d_M_cell_38 ci_1 rfl ?_
          refine am_icmp_ne (tgt := 57) (n := 42) d_M_cell_39 rfl rfl (fun c5 => ?_) (fun c5 => ?_)
          · have h := h.2 c5
            refine am_aload_n (n := 58) d_M_cell_57 rfl rfl ?_
            refine am_iload_n (n := 59) d_M_cell_58 rfl rfl ?_
            refine am_callV (kc := 0) (ks := 0) (As := [.int p1]) (n := 62) d_M_cell_59 rfl ce_M_dogsBy lk_M_319 in_M_dogsBy rfl rfl hq rfl rfl (Nat.le_of_ble_eq_true rfl) (Or.inl rfl) (cm_M_dogsBy (d := d - 1) hw (by omega) hq h) (by omega) ?_
            rintro _ _ ⟨r3, rfl, rfl, h⟩
            show am_Wp (d, "UnseenRingModel", b_M_cell, 3, false) 0 0 62 [some (.ref q), some (.int p1), some (.int p2)] [.int r3, .ref q] (I, L, R, am_SH) (po_M_cell L R Q)
            exact tb_M_cell_62 hw hq hd I q r3 hq h
          · have h := h.1 c5
            refine am_aload_n (n := 43) d_M_cell_42 rfl rfl ?_
            refine am_iload_n (n := 44) d_M_cell_43 rfl rfl ?_
            refine am_aload_n (n := 45) d_M_cell_44 rfl rfl ?_
            refine am_getR (x := (q + 1)) (n := 48) f_M_7 d_M_cell_45 rfl rfl hq (hw.1 q 12 0 1 hq rfl) ?_
            refine am_bipush (n := 50) d_M_cell_48 cb_6 rfl ?_
            refine am_iald2 (n := 51) d_M_cell_50 rfl (am_sho (k := 0) (o := 1) hq (by decide) (by decide) (by decide) rfl) cx_6_2258 cn_6 ?_
            refine am_callV (kc := 0) (ks := 0) (As := [.int p1, .int (I (q + 1) 6)]) (n := 54) d_M_cell_51 rfl ce_M_farBetween lk_M_316 in_M_farBetween rfl rfl hq rfl rfl (Nat.le_of_ble_eq_true rfl) (Or.inl rfl) (cm_M_farBetween (d := d - 1) hw (by omega) hq h) (by omega) ?_
            rintro _ _ ⟨r5, rfl, rfl, h⟩
            show am_Wp (d, "UnseenRingModel", b_M_cell, 3, false) 0 0 54 [some (.ref q), some (.int p1), some (.int p2)] [.int r5, .ref q] (I, L, R, am_SH) (po_M_cell L R Q)
            refine am_goto (tgt := 62) d_M_cell_54 rfl ?_
            exact tb_M_cell_62 hw hq hd I q r5 hq h
        · have h := h.1 c4
          refine am_aload_n (n := 29) d_M_cell_28 rfl rfl ?_
          refine am_iload_n (n := 30) d_M_cell_29 rfl rfl ?_
          refine am_iconst (n := 31) d_M_cell_30 ci_0 rfl ?_
          refine am_callV (kc := 0) (ks := 0) (As := [.int p1, .int 0]) (n := 34) d_M_cell_31 rfl ce_M_hearersBy lk_M_337 in_M_hearersBy rfl rfl hq rfl rfl (Nat.le_of_ble_eq_true rfl) (Or.inl rfl) (cm_M_hearersBy (d := d - 1) hw (by omega) hq h) (by omega) ?_
          rintro _ _ ⟨r6, rfl, rfl, h⟩
          show am_Wp (d, "UnseenRingModel", b_M_cell, 3, false) 0 0 34 [some (.ref q), some (.int p1), some (.int p2)] [.int r6, .ref q] (I, L, R, am_SH) (po_M_cell L R Q)
          refine am_goto (tgt := 62) d_M_cell_34 rfl ?_
          exact tb_M_cell_62 hw hq hd I q r6 hq h
      · have h := h.2 c3
        exact tb_M_cell_17 hw hq hd I h
abbrev po_M_isTune (I : am_TI) (L : am_TL) (R : am_TR) (Q : Bool → Prop) : Option Value → am_St → Prop := fun r σ' => ∃ (x : Bool), r = some (.int (am_b x)) ∧ σ' = (I, L, R, am_SH) ∧ Q x
def wp_M_isTune (I : am_TI) (L : am_TL) (R : am_TR) (q : Nat) (p1 : Int32)  (Q : Bool → Prop) : Prop := ((p1 < 0 → Q false) ∧ (¬ p1 < 0 → (((I (q + 1) 2) ≤ p1 → Q false) ∧ (¬ (I (q + 1) 2) ≤ p1 → Q true))))
set_option maxRecDepth 20000 in
theorem cm_M_isTune {d : Nat} {I : am_TI} {L : am_TL} {R : am_TR}  (hw : am_Wf R)   {q : Nat} {p1 : Int32} {Q : Bool → Prop} (hd : 0 ≤ d) (hq : am_SH[q]? = some (.inl 12)) (h : wp_M_isTune I L R q p1  Q) : am_Cm d 0 0 y_M_isTune b_M_isTune 2 (some .boolean) [.ref q, .int p1] (I, L, R, am_SH) (po_M_isTune I L R Q) := by
  refine am_Cm_of (ini := false) (by decide +kernel) (fun z => by cases z) (by simp [Value.category]) (fun r σ' z => by obtain ⟨x, rfl, -⟩ := z; exact ⟨_, rfl, am_b_nar x⟩) ?_
  unfold wp_M_isTune at h
  show am_Wp (d, "UnseenRingModel", b_M_isTune, 2, false) 0 0 0 [some (.ref q), some (.int p1)] [] (I, L, R, am_SH) (po_M_isTune I L R Q)
  refine am_iload_n (n := 1) d_M_isTune_0 rfl rfl ?_
  refine am_if_lt (y := 0) (tgt := 18) (n := 4) d_M_isTune_1 rfl rfl (fun c1 => ?_) (fun c1 => ?_)
  · have h := h.1 c1
    refine am_iconst (n := 19) d_M_isTune_18 ci_0 rfl ?_
    exact am_iret d_M_isTune_19 ⟨false, rfl, rfl, h⟩
  · have h := h.2 c1
    refine am_iload_n (n := 5) d_M_isTune_4 rfl rfl ?_
    refine am_aload_n (n := 6) d_M_isTune_5 rfl rfl ?_
    refine am_getR (x := (q + 1)) (n := 9) f_M_7 d_M_isTune_6 rfl rfl hq (hw.1 q 12 0 1 hq rfl) ?_
    refine am_iconst (n := 10) d_M_isTune_9 ci_2 rfl ?_
    refine am_iald2 (n := 11) d_M_isTune_10 rfl (am_sho (k := 0) (o := 1) hq (by decide) (by decide) (by decide) rfl) cx_2_2258 cn_2 ?_
    refine am_icmp_ge (tgt := 18) (n := 14) d_M_isTune_11 rfl rfl (fun c2 => ?_) (fun c2 => ?_)
    · have h := h.1 c2
      refine am_iconst (n := 19) d_M_isTune_18 ci_0 rfl ?_
      exact am_iret d_M_isTune_19 ⟨false, rfl, rfl, h⟩
    · have h := h.2 c2
      refine am_iconst (n := 15) d_M_isTune_14 ci_1 rfl ?_
      refine am_goto (tgt := 19) d_M_isTune_15 rfl ?_
      exact am_iret d_M_isTune_19 ⟨true, rfl, rfl, h⟩
abbrev po_M_likersOf (I : am_TI) (L : am_TL) (R : am_TR) (Q : Int32 → Prop) : Option Value → am_St → Prop := fun r σ' => ∃ (x : Int32), r = some (.int x) ∧ σ' = (I, L, R, am_SH) ∧ Q x
def wl_M_likersOf_4 (I : am_TI) (L : am_TL) (R : am_TR) (q : Nat) (p1 : Int32) (Q : Int32 → Prop)  : Nat → Int32 → Int32 → Prop
  | 0 => fun _ _ => False
  | f4 + 1 => fun v2 v3 => (((I (q + 1) 3) ≤ v3 → Q v2) ∧ (¬ (I (q + 1) 3) ≤ v3 → wp_M_hearerOf I L R q v3 1 (fun (r1 : Int32) => wp_M_isIn I L R q r1 p1 (fun (r2 : Bool) => ((r2 = false → wl_M_likersOf_4 I L R q p1 Q f4 (v2 ||| 0) (v3 + 1)) ∧ (r2 = true → wl_M_likersOf_4 I L R q p1 Q f4 (v2 ||| ((1 : Int32) <<< (v3 &&& 31))) (v3 + 1)))))))
set_option maxRecDepth 20000 in
theorem tl_M_likersOf_4 {d : Nat}  {I : am_TI} {L : am_TL} {R : am_TR} {q : Nat} {p1 : Int32} {Q : Int32 → Prop}  (hw : am_Wf R) (hq : am_SH[q]? = some (.inl 12)) (hd : 2 ≤ d) : ∀ (n : Nat) (v2 : Int32) (v3 : Int32), wl_M_likersOf_4 I L R q p1 Q  n v2 v3 → am_Wp (d, "UnseenRingModel", b_M_likersOf, 4, false) 0 0 4 [some (.ref q), some (.int p1), some (.int v2), some (.int v3)] [] (I, L, R, am_SH) (po_M_likersOf I L R Q) := by
  intro n
  induction n with
  | zero => intro v2 v3 h; exact h.elim
  | succ n ih =>
    intro v2 v3 h
    unfold wl_M_likersOf_4 at h
    refine am_iload_n (n := 5) d_M_likersOf_4 rfl rfl ?_
    refine am_aload_n (n := 6) d_M_likersOf_5 rfl rfl ?_
    refine am_getR (x := (q + 1)) (n := 9) f_M_7 d_M_likersOf_6 rfl rfl hq (hw.1 q 12 0 1 hq rfl) ?_
    refine am_iconst (n := 10) d_M_likersOf_9 ci_3 rfl ?_
    refine am_iald2 (n := 11) d_M_likersOf_10 rfl (am_sho (k := 0) (o := 1) hq (by decide) (by decide) (by decide) rfl) cx_3_2258 cn_3 ?_
    refine am_icmp_ge (tgt := 44) (n := 14) d_M_likersOf_11 rfl rfl (fun c1 => ?_) (fun c1 => ?_)
    · have h := h.1 c1
      refine am_iload_n (n := 45) d_M_likersOf_44 rfl rfl ?_
      exact am_iret d_M_likersOf_45 ⟨v2, rfl, rfl, h⟩
    · have h := h.2 c1
      refine am_iload_n (n := 15) d_M_likersOf_14 rfl rfl ?_
      refine am_aload_n (n := 16) d_M_likersOf_15 rfl rfl ?_
      refine am_aload_n (n := 17) d_M_likersOf_16 rfl rfl ?_
      refine am_iload_n (n := 18) d_M_likersOf_17 rfl rfl ?_
      refine am_iconst (n := 19) d_M_likersOf_18 ci_1 rfl ?_
      refine am_callV (kc := 0) (ks := 0) (As := [.int v3, .int 1]) (n := 22) d_M_likersOf_19 rfl ce_M_hearerOf lk_M_313 in_M_hearerOf rfl rfl hq rfl rfl (Nat.le_of_ble_eq_true rfl) (Or.inl rfl) (cm_M_hearerOf (d := d - 1) hw (by omega) hq h) (by omega) ?_
      rintro _ _ ⟨r1, rfl, rfl, h⟩
      show am_Wp (d, "UnseenRingModel", b_M_likersOf, 4, false) 0 0 22 [some (.ref q), some (.int p1), some (.int v2), some (.int v3)] [.int r1, .ref q, .int v2] (I, L, R, am_SH) (po_M_likersOf I L R Q)
      refine am_iload_n (n := 23) d_M_likersOf_22 rfl rfl ?_
      refine am_callV (kc := 0) (ks := 0) (As := [.int r1, .int p1]) (n := 26) d_M_likersOf_23 rfl ce_M_isIn lk_M_251 in_M_isIn rfl rfl hq rfl rfl (Nat.le_of_ble_eq_true rfl) (Or.inl rfl) (cm_M_isIn (d := d - 1) hw (by omega) hq h) (by omega) ?_
      rintro _ _ ⟨r2, rfl, rfl, h⟩
      show am_Wp (d, "UnseenRingModel", b_M_likersOf, 4, false) 0 0 26 [some (.ref q), some (.int p1), some (.int v2), some (.int v3)] [.int (am_b r2), .int v2] (I, L, R, am_SH) (po_M_likersOf I L R Q)
      refine am_if_eq (y := 0) (tgt := 35) (n := 29) d_M_likersOf_26 rfl rfl (fun c2 => ?_) (fun c2 => ?_)
      · have h := h.1 (am_b_0 c2)
        refine am_iconst (n := 36) d_M_likersOf_35 ci_0 rfl ?_
        refine am_ior (n := 37) d_M_likersOf_36 rfl ?_
        refine am_istore_n (ls' := [some (.ref q), some (.int p1), some (.int (v2 ||| 0)), some (.int v3)]) (n := 38) d_M_likersOf_37 (by decide) rfl rfl ?_
        refine am_iinc (v := v3 + 1) (ls' := [some (.ref q), some (.int p1), some (.int (v2 ||| 0)), some (.int (v3 + 1))]) (n := 41) d_M_likersOf_38 rfl (congrArg _ ci_1) (by decide) rfl rfl ?_
        refine am_goto (tgt := 4) d_M_likersOf_41 rfl ?_
        exact ih (v2 ||| 0) (v3 + 1)  h
      · have h := h.2 (am_b_n0 c2)
        refine am_iconst (n := 30) d_M_likersOf_29 ci_1 rfl ?_
        refine am_iload_n (n := 31) d_M_likersOf_30 rfl rfl ?_
        refine am_ishl (n := 32) d_M_likersOf_31 rfl ?_
        refine am_goto (tgt := 36) d_M_likersOf_32 rfl ?_
        refine am_ior (n := 37) d_M_likersOf_36 rfl ?_
        refine am_istore_n (ls' := [some (.ref q), some (.int p1), some (.int (v2 ||| ((1 : Int32) <<< (v3 &&& 31)))), some (.int v3)]) (n := 38) d_M_likersOf_37 (by decide) rfl rfl ?_
        refine am_iinc (v := v3 + 1) (ls' := [some (.ref q), some (.int p1), some (.int (v2 ||| ((1 : Int32) <<< (v3 &&& 31)))), some (.int (v3 + 1))]) (n := 41) d_M_likersOf_38 rfl (congrArg _ ci_1) (by decide) rfl rfl ?_
        refine am_goto (tgt := 4) d_M_likersOf_41 rfl ?_
        exact ih (v2 ||| ((1 : Int32) <<< (v3 &&& 31))) (v3 + 1)  h
def wp_M_likersOf (I : am_TI) (L : am_TL) (R : am_TR) (q : Nat) (p1 : Int32)  (Q : Int32 → Prop) : Prop := (∃ z, wl_M_likersOf_4 I L R q p1 Q z 0 0)
set_option maxRecDepth 20000 in
theorem cm_M_likersOf {d : Nat} {I : am_TI} {L : am_TL} {R : am_TR}  (hw : am_Wf R)   {q : Nat} {p1 : Int32} {Q : Int32 → Prop} (hd : 2 ≤ d) (hq : am_SH[q]? = some (.inl 12)) (h : wp_M_likersOf I L R q p1  Q) : am_Cm d 0 0 y_M_likersOf b_M_likersOf 4 (some .int) [.ref q, .int p1] (I, L, R, am_SH) (po_M_likersOf I L R Q) := by
  refine am_Cm_of (ini := false) (by decide +kernel) (fun z => by cases z) (by simp [Value.category]) (fun r σ' z => by obtain ⟨x, rfl, -⟩ := z; exact ⟨_, rfl, rfl⟩) ?_
  unfold wp_M_likersOf at h
  show am_Wp (d, "UnseenRingModel", b_M_likersOf, 4, false) 0 0 0 [some (.ref q), some (.int p1), none, none] [] (I, L, R, am_SH) (po_M_likersOf I L R Q)
  refine am_iconst (n := 1) d_M_likersOf_0 ci_0 rfl ?_
  refine am_istore_n (ls' := [some (.ref q), some (.int p1), some (.int 0), none]) (n := 2) d_M_likersOf_1 (by decide) rfl rfl ?_
  refine am_iconst (n := 3) d_M_likersOf_2 ci_0 rfl ?_
  refine am_istore_n (ls' := [some (.ref q), some (.int p1), some (.int 0), some (.int 0)]) (n := 4) d_M_likersOf_3 (by decide) rfl rfl ?_
  obtain ⟨n, h⟩ := h
  exact tl_M_likersOf_4 hw hq hd n 0 0 h
abbrev po_M_likers (L : am_TL) (R : am_TR) (Q : Int32 → am_TI → Prop) : Option Value → am_St → Prop := fun r σ' => ∃ (x : Int32) (I' : am_TI), r = some (.int x) ∧ σ' = (I', L, R, am_SH) ∧ Q x I'
def wp_M_likers (I : am_TI) (L : am_TL) (R : am_TR) (q : Nat) (p1 : Int32)  (Q : Int32 → am_TI → Prop) : Prop := wp_M_isTune I L R q p1 (fun (r1 : Bool) => ((r1 = false → wp_M_refuse I L R q 1 (fun (r2 : Int32) (I1 : am_TI) => Q r2 I1)) ∧ (r1 = true → wp_M_likersOf I L R q p1 (fun (r3 : Int32) => wp_M_gives I L R q r3 (fun (r4 : Int32) (I2 : am_TI) => Q r4 I2)))))
set_option maxRecDepth 20000 in
theorem cm_M_likers {d : Nat} {I : am_TI} {L : am_TL} {R : am_TR}  (hw : am_Wf R)   {q : Nat} {p1 : Int32} {Q : Int32 → am_TI → Prop} (hd : 3 ≤ d) (hq : am_SH[q]? = some (.inl 12)) (h : wp_M_likers I L R q p1  Q) : am_Cm d 0 0 y_M_likers b_M_likers 2 (some .int) [.ref q, .int p1] (I, L, R, am_SH) (po_M_likers L R Q) := by
  refine am_Cm_of (ini := false) (by decide +kernel) (fun z => by cases z) (by simp [Value.category]) (fun r σ' z => by obtain ⟨x, _, rfl, -⟩ := z; exact ⟨_, rfl, rfl⟩) ?_
  unfold wp_M_likers at h
  show am_Wp (d, "UnseenRingModel", b_M_likers, 2, false) 0 0 0 [some (.ref q), some (.int p1)] [] (I, L, R, am_SH) (po_M_likers L R Q)
  refine am_aload_n (n := 1) d_M_likers_0 rfl rfl ?_
  refine am_iload_n (n := 2) d_M_likers_1 rfl rfl ?_
  refine am_callV (kc := 0) (ks := 0) (As := [.int p1]) (n := 5) d_M_likers_2 rfl ce_M_isTune lk_M_340 in_M_isTune rfl rfl hq rfl rfl (Nat.le_of_ble_eq_true rfl) (Or.inl rfl) (cm_M_isTune (d := d - 1) hw (by omega) hq h) (by omega) ?_
  rintro _ _ ⟨r1, rfl, rfl, h⟩
  show am_Wp (d, "UnseenRingModel", b_M_likers, 2, false) 0 0 5 [some (.ref q), some (.int p1)] [.int (am_b r1)] (I, L, R, am_SH) (po_M_likers L R Q)
  refine am_if_eq (y := 0) (tgt := 20) (n := 8) d_M_likers_5 rfl rfl (fun c1 => ?_) (fun c1 => ?_)
  · have h := h.1 (am_b_0 c1)
    refine am_aload_n (n := 21) d_M_likers_20 rfl rfl ?_
    refine am_iconst (n := 22) d_M_likers_21 ci_1 rfl ?_
    refine am_callV (kc := 0) (ks := 0) (As := [.int 1]) (n := 25) d_M_likers_22 rfl ce_M_refuse lk_M_121 in_M_refuse rfl rfl hq rfl rfl (Nat.le_of_ble_eq_true rfl) (Or.inl rfl) (cm_M_refuse (d := d - 1) hw (by omega) hq h) (by omega) ?_
    rintro _ _ ⟨r2, I1, rfl, rfl, h⟩
    show am_Wp (d, "UnseenRingModel", b_M_likers, 2, false) 0 0 25 [some (.ref q), some (.int p1)] [.int r2] (I1, L, R, am_SH) (po_M_likers L R Q)
    exact am_iret d_M_likers_25 ⟨r2, I1, rfl, rfl, h⟩
  · have h := h.2 (am_b_n0 c1)
    refine am_aload_n (n := 9) d_M_likers_8 rfl rfl ?_
    refine am_aload_n (n := 10) d_M_likers_9 rfl rfl ?_
    refine am_iload_n (n := 11) d_M_likers_10 rfl rfl ?_
    refine am_callV (kc := 0) (ks := 0) (As := [.int p1]) (n := 14) d_M_likers_11 rfl ce_M_likersOf lk_M_343 in_M_likersOf rfl rfl hq rfl rfl (Nat.le_of_ble_eq_true rfl) (Or.inl rfl) (cm_M_likersOf (d := d - 1) hw (by omega) hq h) (by omega) ?_
    rintro _ _ ⟨r3, rfl, rfl, h⟩
    show am_Wp (d, "UnseenRingModel", b_M_likers, 2, false) 0 0 14 [some (.ref q), some (.int p1)] [.int r3, .ref q] (I, L, R, am_SH) (po_M_likers L R Q)
    refine am_callV (kc := 0) (ks := 0) (As := [.int r3]) (n := 17) d_M_likers_14 rfl ce_M_gives lk_M_125 in_M_gives rfl rfl hq rfl rfl (Nat.le_of_ble_eq_true rfl) (Or.inl rfl) (cm_M_gives (d := d - 1) hw (by omega) hq h) (by omega) ?_
    rintro _ _ ⟨r4, I2, rfl, rfl, h⟩
    show am_Wp (d, "UnseenRingModel", b_M_likers, 2, false) 0 0 17 [some (.ref q), some (.int p1)] [.int r4] (I2, L, R, am_SH) (po_M_likers L R Q)
    refine am_goto (tgt := 25) d_M_likers_17 rfl ?_
    exact am_iret d_M_likers_25 ⟨r4, I2, rfl, rfl, h⟩
abbrev po_M_nearer (I : am_TI) (L : am_TL) (R : am_TR) (Q : Int32 → Prop) : Option Value → am_St → Prop := fun r σ' => ∃ (x : Int32), r = some (.int x) ∧ σ' = (I, L, R, am_SH) ∧ Q x
def wb_M_nearer_47 (I : am_TI) (L : am_TL) (R : am_TR) (q : Nat) (p1 : Int32) (Q : Int32 → Prop)  (v2 : Int32) (v3 : Int32) (v4 : Int32) : Prop := (((v3 * v3) < (v4 * v4) → ((v4 ≤ 0 → Q (p1 - v2)) ∧ (¬ v4 ≤ 0 → Q (p1 + v2)))) ∧ (¬ (v3 * v3) < (v4 * v4) → ((v3 ≤ 0 → Q (p1 - 1)) ∧ (¬ v3 ≤ 0 → Q (p1 + 1)))))
set_option maxRecDepth 20000 in
theorem tb_M_nearer_47 {d : Nat}  {I : am_TI} {L : am_TL} {R : am_TR} {q : Nat} {p1 : Int32} {Q : Int32 → Prop}  (hw : am_Wf R) (hq : am_SH[q]? = some (.inl 12)) (hd : 0 ≤ d) (v2 : Int32) (v3 : Int32) (v4 : Int32) (h : wb_M_nearer_47 I L R q p1 Q  v2 v3 v4) : am_Wp (d, "UnseenRingModel", b_M_nearer, 5, false) 0 0 47 [some (.ref q), some (.int p1), some (.int v2), some (.int v3), some (.int v4)] [] (I, L, R, am_SH) (po_M_nearer I L R Q) := by
  unfold wb_M_nearer_47 at h
  refine am_iload_n (n := 48) d_M_nearer_47 rfl rfl ?_
  refine am_iload_n (n := 49) d_M_nearer_48 rfl rfl ?_
  refine am_imul (n := 50) d_M_nearer_49 rfl ?_
  refine am_iload (n := 52) d_M_nearer_50 rfl rfl ?_
  refine am_iload (n := 54) d_M_nearer_52 rfl rfl ?_
  refine am_imul (n := 55) d_M_nearer_54 rfl ?_
  refine am_icmp_lt (tgt := 72) (n := 58) d_M_nearer_55 rfl rfl (fun c2 => ?_) (fun c2 => ?_)
  · have h := h.1 c2
    refine am_iload (n := 74) d_M_nearer_72 rfl rfl ?_
    refine am_if_le (y := 0) (tgt := 83) (n := 77) d_M_nearer_74 rfl rfl (fun c3 => ?_) (fun c3 => ?_)
    · have h := h.1 c3
      refine am_iload_n (n := 84) d_M_nearer_83 rfl rfl ?_
      refine am_iload_n (n := 85) d_M_nearer_84 rfl rfl ?_
      refine am_isub (n := 86) d_M_nearer_85 rfl ?_
      exact am_iret d_M_nearer_86 ⟨(p1 - v2), rfl, rfl, h⟩
    · have h := h.2 c3
      refine am_iload_n (n := 78) d_M_nearer_77 rfl rfl ?_
      refine am_iload_n (n := 79) d_M_nearer_78 rfl rfl ?_
      refine am_iadd (n := 80) d_M_nearer_79 rfl ?_
      refine am_goto (tgt := 86) d_M_nearer_80 rfl ?_
      exact am_iret d_M_nearer_86 ⟨(p1 + v2), rfl, rfl, h⟩
  · have h := h.2 c2
    refine am_iload_n (n := 59) d_M_nearer_58 rfl rfl ?_
    refine am_if_le (y := 0) (tgt := 68) (n := 62) d_M_nearer_59 rfl rfl (fun c4 => ?_) (fun c4 => ?_)
    · have h := h.1 c4
      refine am_iload_n (n := 69) d_M_nearer_68 rfl rfl ?_
      refine am_iconst (n := 70) d_M_nearer_69 ci_1 rfl ?_
      refine am_isub (n := 71) d_M_nearer_70 rfl ?_
      exact am_iret d_M_nearer_71 ⟨(p1 - 1), rfl, rfl, h⟩
    · have h := h.2 c4
      refine am_iload_n (n := 63) d_M_nearer_62 rfl rfl ?_
      refine am_iconst (n := 64) d_M_nearer_63 ci_1 rfl ?_
      refine am_iadd (n := 65) d_M_nearer_64 rfl ?_
      refine am_goto (tgt := 71) d_M_nearer_65 rfl ?_
      exact am_iret d_M_nearer_71 ⟨(p1 + 1), rfl, rfl, h⟩
def wp_M_nearer (I : am_TI) (L : am_TL) (R : am_TR) (q : Nat) (p1 : Int32)  (Q : Int32 → Prop) : Prop := (¬ (I (q + 1) 0) = 0 ∧ (¬ (I (q + 1) 0) = 0 ∧ (¬ (I (q + 1) 0) = 0 ∧ (¬ (I (q + 1) 0) = 0 ∧ (((((I (q + 1) 6) - (I (q + 1) 6) / (I (q + 1) 0) * (I (q + 1) 0)) - (p1 - p1 / (I (q + 1) 0) * (I (q + 1) 0))) = 0 → (((((I (q + 1) 6) / (I (q + 1) 0)) - (p1 / (I (q + 1) 0))) = 0 → Q p1) ∧ (¬ (((I (q + 1) 6) / (I (q + 1) 0)) - (p1 / (I (q + 1) 0))) = 0 → wb_M_nearer_47 I L R q p1 Q (I (q + 1) 0) (((I (q + 1) 6) - (I (q + 1) 6) / (I (q + 1) 0) * (I (q + 1) 0)) - (p1 - p1 / (I (q + 1) 0) * (I (q + 1) 0))) (((I (q + 1) 6) / (I (q + 1) 0)) - (p1 / (I (q + 1) 0)))))) ∧ (¬ (((I (q + 1) 6) - (I (q + 1) 6) / (I (q + 1) 0) * (I (q + 1) 0)) - (p1 - p1 / (I (q + 1) 0) * (I (q + 1) 0))) = 0 → wb_M_nearer_47 I L R q p1 Q (I (q + 1) 0) (((I (q + 1) 6) - (I (q + 1) 6) / (I (q + 1) 0) * (I (q + 1) 0)) - (p1 - p1 / (I (q + 1) 0) * (I (q + 1) 0))) (((I (q + 1) 6) / (I (q + 1) 0)) - (p1 / (I (q + 1) 0)))))))))
set_option maxRecDepth 20000 in
theorem cm_M_nearer {d : Nat} {I : am_TI} {L : am_TL} {R : am_TR}  (hw : am_Wf R)   {q : Nat} {p1 : Int32} {Q : Int32 → Prop} (hd : 0 ≤ d) (hq : am_SH[q]? = some (.inl 12)) (h : wp_M_nearer I L R q p1  Q) : am_Cm d 0 0 y_M_nearer b_M_nearer 5 (some .int) [.ref q, .int p1] (I, L, R, am_SH) (po_M_nearer I L R Q) := by
  refine am_Cm_of (ini := false) (by decide +kernel) (fun z => by cases z) (by simp [Value.category]) (fun r σ' z => by obtain ⟨x, rfl, -⟩ := z; exact ⟨_, rfl, rfl⟩) ?_
  unfold wp_M_nearer at h
  show am_Wp (d, "UnseenRingModel", b_M_nearer, 5, false) 0 0 0 [some (.ref q), some (.int p1), none, none, none] [] (I, L, R, am_SH) (po_M_nearer I L R Q)
  refine am_aload_n (n := 1) d_M_nearer_0 rfl rfl ?_
  refine am_getR (x := (q + 1)) (n := 4) f_M_7 d_M_nearer_1 rfl rfl hq (hw.1 q 12 0 1 hq rfl) ?_
  refine am_iconst (n := 5) d_M_nearer_4 ci_0 rfl ?_
  refine am_iald2 (n := 6) d_M_nearer_5 rfl (am_sho (k := 0) (o := 1) hq (by decide) (by decide) (by decide) rfl) cx_0_2258 cn_0 ?_
  refine am_istore_n (ls' := [some (.ref q), some (.int p1), some (.int (I (q + 1) 0)), none, none]) (n := 7) d_M_nearer_6 (by decide) rfl rfl ?_
  refine am_aload_n (n := 8) d_M_nearer_7 rfl rfl ?_
  refine am_getR (x := (q + 1)) (n := 11) f_M_7 d_M_nearer_8 rfl rfl hq (hw.1 q 12 0 1 hq rfl) ?_
  refine am_bipush (n := 13) d_M_nearer_11 cb_6 rfl ?_
  refine am_iald2 (n := 14) d_M_nearer_13 rfl (am_sho (k := 0) (o := 1) hq (by decide) (by decide) (by decide) rfl) cx_6_2258 cn_6 ?_
  refine am_iload_n (n := 15) d_M_nearer_14 rfl rfl ?_
  obtain ⟨g1, h⟩ := h
  refine am_irem (n := 16) d_M_nearer_15 g1 rfl ?_
  refine am_iload_n (n := 17) d_M_nearer_16 rfl rfl ?_
  refine am_iload_n (n := 18) d_M_nearer_17 rfl rfl ?_
  obtain ⟨g2, h⟩ := h
  refine am_irem (n := 19) d_M_nearer_18 g2 rfl ?_
  refine am_isub (n := 20) d_M_nearer_19 rfl ?_
  refine am_istore_n (ls' := [some (.ref q), some (.int p1), some (.int (I (q + 1) 0)), some (.int (((I (q + 1) 6) - (I (q + 1) 6) / (I (q + 1) 0) * (I (q + 1) 0)) - (p1 - p1 / (I (q + 1) 0) * (I (q + 1) 0)))), none]) (n := 21) d_M_nearer_20 (by decide) rfl rfl ?_
  refine am_aload_n (n := 22) d_M_nearer_21 rfl rfl ?_
  refine am_getR (x := (q + 1)) (n := 25) f_M_7 d_M_nearer_22 rfl rfl hq (hw.1 q 12 0 1 hq rfl) ?_
  refine am_bipush (n := 27) d_M_nearer_25 cb_6 rfl ?_
  refine am_iald2 (n := 28) d_M_nearer_27 rfl (am_sho (k := 0) (o := 1) hq (by decide) (by decide) (by decide) rfl) cx_6_2258 cn_6 ?_
  refine am_iload_n (n := 29) d_M_nearer_28 rfl rfl ?_
  obtain ⟨g3, h⟩ := h
  refine am_idiv (n := 30) d_M_nearer_29 g3 rfl ?_
  refine am_iload_n (n := 31) d_M_nearer_30 rfl rfl ?_
  refine am_iload_n (n := 32) d_M_nearer_31 rfl rfl ?_
  obtain ⟨g4, h⟩ := h
  refine am_idiv (n := 33) d_M_nearer_32 g4 rfl ?_
  refine am_isub (n := 34) d_M_nearer_33 rfl ?_
  refine am_istore (ls' := [some (.ref q), some (.int p1), some (.int (I (q + 1) 0)), some (.int (((I (q + 1) 6) - (I (q + 1) 6) / (I (q + 1) 0) * (I (q + 1) 0)) - (p1 - p1 / (I (q + 1) 0) * (I (q + 1) 0)))), some (.int (((I (q + 1) 6) / (I (q + 1) 0)) - (p1 / (I (q + 1) 0))))]) (n := 36) d_M_nearer_34 (by decide) rfl rfl ?_
  refine am_iload_n (n := 37) d_M_nearer_36 rfl rfl ?_
  refine am_if_ne (y := 0) (tgt := 47) (n := 40) d_M_nearer_37 rfl rfl (fun c1 => ?_) (fun c1 => ?_)
  · have h := h.2 c1
    exact tb_M_nearer_47 hw hq hd (I (q + 1) 0) (((I (q + 1) 6) - (I (q + 1) 6) / (I (q + 1) 0) * (I (q + 1) 0)) - (p1 - p1 / (I (q + 1) 0) * (I (q + 1) 0))) (((I (q + 1) 6) / (I (q + 1) 0)) - (p1 / (I (q + 1) 0))) h
  · have h := h.1 c1
    refine am_iload (n := 42) d_M_nearer_40 rfl rfl ?_
    refine am_if_ne (y := 0) (tgt := 47) (n := 45) d_M_nearer_42 rfl rfl (fun c5 => ?_) (fun c5 => ?_)
    · have h := h.2 c5
      exact tb_M_nearer_47 hw hq hd (I (q + 1) 0) (((I (q + 1) 6) - (I (q + 1) 6) / (I (q + 1) 0) * (I (q + 1) 0)) - (p1 - p1 / (I (q + 1) 0) * (I (q + 1) 0))) (((I (q + 1) 6) / (I (q + 1) 0)) - (p1 / (I (q + 1) 0))) h
    · have h := h.1 c5
      refine am_iload_n (n := 46) d_M_nearer_45 rfl rfl ?_
      exact am_iret d_M_nearer_46 ⟨p1, rfl, rfl, h⟩
