abbrev po_U_fits (L : am_TL) (R : am_TR) (Q : Int32 → am_TI → Prop) : Option Value → am_St → Prop := fun r σ' => ∃ (x : Int32) (I' : am_TI), r = some (.int x) ∧ σ' = (I', L, R, am_SH) ∧ Q x I'
def wl_U_fits_27 (L : am_TL) (R : am_TR) (q : Nat) (p1 : Int32) (p2 : Int32) (p3 : Int32) (Q : Int32 → am_TI → Prop)  : Nat → am_TI → Int32 → Int32 → Prop
  | 0 => fun _ _ _ => False
  | f27 + 1 => fun I v5 v6 => ((((1 : Int32) <<< ((I (am_rd R q 11) 10) &&& 31)) ≤ v6 → wp_U_answered I L R q v5 (fun (r2 : Int32) (I1 : am_TI) => Q r2 I1)) ∧ (¬ ((1 : Int32) <<< ((I (am_rd R q 11) 10) &&& 31)) ≤ v6 → (vp_in p2 4 ∧ wp_U_doesFit I L R q v6 p1 (am_rd R (q + 1) (Int32.toNatClampNeg p2)) p3 (fun (r3 : Bool) => ((r3 = false → wl_U_fits_27 L R q p1 p2 p3 Q f27 I v5 (v6 + 1)) ∧ (r3 = true → wl_U_fits_27 L R q p1 p2 p3 Q f27 I (v5 + 1) (v6 + 1)))))))
set_option maxRecDepth 20000 in
theorem tl_U_fits_27 {d : Nat}  {L : am_TL} {R : am_TR} {q : Nat} {p1 : Int32} {p2 : Int32} {p3 : Int32} {Q : Int32 → am_TI → Prop}  (hw : am_Wf R) (hq : am_SH[q]? = some (.inl 11)) (hd : 4 ≤ d) : ∀ (n : Nat) (I : am_TI) (v5 : Int32) (v6 : Int32), wl_U_fits_27 L R q p1 p2 p3 Q  n I v5 v6 → am_Wp (d, "UnseenRing", b_U_fits, 7, false) 0 0 27 [some (.ref q), some (.int p1), some (.int p2), some (.int p3), none, some (.int v5), some (.int v6)] [] (I, L, R, am_SH) (po_U_fits L R Q) := by
  intro n
  induction n with
  | zero => intro I v5 v6 h; exact h.elim
  | succ n ih =>
    intro I v5 v6 h
    unfold wl_U_fits_27 at h
    refine am_iload (n := 29) d_U_fits_27 rfl rfl ?_
    refine am_iconst (n := 30) d_U_fits_29 ci_1 rfl ?_
    refine am_aload_n (n := 31) d_U_fits_30 rfl rfl ?_
    refine am_getR (x := (am_rd R q 11)) (n := 34) f_U_81 d_U_fits_31 rfl rfl hq (hw.rd (k := 11) hq rfl).1 ?_
    refine am_getI (n := 37) f_U_355 d_U_fits_34 rfl rfl (hw.rd (k := 11) hq rfl).2 ?_
    refine am_ishl (n := 38) d_U_fits_37 rfl ?_
    refine am_icmp_ge (tgt := 67) (n := 41) d_U_fits_38 rfl rfl (fun c2 => ?_) (fun c2 => ?_)
    · have h := h.1 c2
      refine am_aload_n (n := 68) d_U_fits_67 rfl rfl ?_
      refine am_iload (n := 70) d_U_fits_68 rfl rfl ?_
      refine am_callV (kc := 0) (ks := 0) (As := [.int v5]) (n := 73) d_U_fits_70 rfl ce_U_answered lk_U_184 in_U_answered rfl rfl hq rfl rfl (Nat.le_of_ble_eq_true rfl) (Or.inl rfl) (cm_U_answered (d := d - 1) hw (by omega) hq h) (by omega) ?_
      rintro _ _ ⟨r2, I1, rfl, rfl, h⟩
      show am_Wp (d, "UnseenRing", b_U_fits, 7, false) 0 0 73 [some (.ref q), some (.int p1), some (.int p2), some (.int p3), none, some (.int v5), some (.int v6)] [.int r2] (I1, L, R, am_SH) (po_U_fits L R Q)
      exact am_iret d_U_fits_73 ⟨r2, I1, rfl, rfl, h⟩
    · have h := h.2 c2
      refine am_aload_n (n := 42) d_U_fits_41 rfl rfl ?_
      refine am_iload (n := 44) d_U_fits_42 rfl rfl ?_
      refine am_iload_n (n := 45) d_U_fits_44 rfl rfl ?_
      refine am_aload_n (n := 46) d_U_fits_45 rfl rfl ?_
      refine am_getR (x := (q + 1)) (n := 49) f_U_11 d_U_fits_46 rfl rfl hq (hw.1 q 11 0 1 hq rfl) ?_
      refine am_iload_n (n := 50) d_U_fits_49 rfl rfl ?_
      obtain ⟨g1, h⟩ := h
      refine am_aald42 (x := (am_rd R (q + 1) (Int32.toNatClampNeg p2))) (n := 51) d_U_fits_50 rfl (am_sho (k := 0) (o := 1) hq (by decide) (by decide) (by decide) rfl) g1 rfl (hw.tray (am_sho (k := 0) (o := 1) hq (by decide) (by decide) (by decide) rfl) (am_in_j g1 rfl)).1 ?_
      refine am_iload_n (n := 52) d_U_fits_51 rfl rfl ?_
      refine am_callV (kc := 0) (ks := 0) (As := [.int v6, .int p1, .ref (am_rd R (q + 1) (Int32.toNatClampNeg p2)), .int p3]) (n := 55) d_U_fits_52 rfl ce_U_doesFit lk_U_358 in_U_doesFit rfl rfl hq rfl rfl (Nat.le_of_ble_eq_true rfl) (Or.inl rfl) (cm_U_doesFit (d := d - 1) hw (by omega) hq (hw.tray (am_sho (k := 0) (o := 1) hq (by decide) (by decide) (by decide) rfl) (am_in_j g1 rfl)).2 h) (by omega) ?_
      rintro _ _ ⟨r3, rfl, rfl, h⟩
      show am_Wp (d, "UnseenRing", b_U_fits, 7, false) 0 0 55 [some (.ref q), some (.int p1), some (.int p2), some (.int p3), none, some (.int v5), some (.int v6)] [.int (am_b r3)] (I, L, R, am_SH) (po_U_fits L R Q)
      refine am_if_eq (y := 0) (tgt := 61) (n := 58) d_U_fits_55 rfl rfl (fun c3 => ?_) (fun c3 => ?_)
      · have h := h.1 (am_b_0 c3)
        refine am_iinc (v := v6 + 1) (ls' := [some (.ref q), some (.int p1), some (.int p2), some (.int p3), none, some (.int v5), some (.int (v6 + 1))]) (n := 64) d_U_fits_61 rfl (congrArg _ ci_1) (by decide) rfl rfl ?_
        refine am_goto (tgt := 27) d_U_fits_64 rfl ?_
        exact ih I v5 (v6 + 1)  h
      · have h := h.2 (am_b_n0 c3)
        refine am_iinc (v := v5 + 1) (ls' := [some (.ref q), some (.int p1), some (.int p2), some (.int p3), none, some (.int (v5 + 1)), some (.int v6)]) (n := 61) d_U_fits_58 rfl (congrArg _ ci_1) (by decide) rfl rfl ?_
        refine am_iinc (v := v6 + 1) (ls' := [some (.ref q), some (.int p1), some (.int p2), some (.int p3), none, some (.int (v5 + 1)), some (.int (v6 + 1))]) (n := 64) d_U_fits_61 rfl (congrArg _ ci_1) (by decide) rfl rfl ?_
        refine am_goto (tgt := 27) d_U_fits_64 rfl ?_
        exact ih I (v5 + 1) (v6 + 1)  h
def wp_U_fits (I : am_TI) (L : am_TL) (R : am_TR) (q : Nat) (p1 : Int32) (p2 : Int32) (p3 : Int32)  (Q : Int32 → am_TI → Prop) : Prop := wp_U_fitStatus I L R q p1 p2 p3 (fun (r1 : Int32) => ((r1 = 0 → (∃ z, wl_U_fits_27 L R q p1 p2 p3 Q z I 0 0)) ∧ (¬ r1 = 0 → wp_U_refused I L R q r1 (fun (r4 : Int32) (I2 : am_TI) => Q r4 I2))))
set_option maxRecDepth 20000 in
theorem cm_U_fits {d : Nat} {I : am_TI} {L : am_TL} {R : am_TR}  (hw : am_Wf R)   {q : Nat} {p1 : Int32} {p2 : Int32} {p3 : Int32} {Q : Int32 → am_TI → Prop} (hd : 4 ≤ d) (hq : am_SH[q]? = some (.inl 11)) (h : wp_U_fits I L R q p1 p2 p3  Q) : am_Cm d 0 0 y_U_fits b_U_fits 7 (some .int) [.ref q, .int p1, .int p2, .int p3] (I, L, R, am_SH) (po_U_fits L R Q) := by
  refine am_Cm_of (ini := false) (by decide +kernel) (fun z => by cases z) (by simp [Value.category]) (fun r σ' z => by obtain ⟨x, _, rfl, -⟩ := z; exact ⟨_, rfl, rfl⟩) ?_
  unfold wp_U_fits at h
  show am_Wp (d, "UnseenRing", b_U_fits, 7, false) 0 0 0 [some (.ref q), some (.int p1), some (.int p2), some (.int p3), none, none, none] [] (I, L, R, am_SH) (po_U_fits L R Q)
  refine am_aload_n (n := 1) d_U_fits_0 rfl rfl ?_
  refine am_iload_n (n := 2) d_U_fits_1 rfl rfl ?_
  refine am_iload_n (n := 3) d_U_fits_2 rfl rfl ?_
  refine am_iload_n (n := 4) d_U_fits_3 rfl rfl ?_
  refine am_callV (kc := 0) (ks := 0) (As := [.int p1, .int p2, .int p3]) (n := 7) d_U_fits_4 rfl ce_U_fitStatus lk_U_352 in_U_fitStatus rfl rfl hq rfl rfl (Nat.le_of_ble_eq_true rfl) (Or.inl rfl) (cm_U_fitStatus (d := d - 1) hw (by omega) hq h) (by omega) ?_
  rintro _ _ ⟨r1, rfl, rfl, h⟩
  show am_Wp (d, "UnseenRing", b_U_fits, 7, false) 0 0 7 [some (.ref q), some (.int p1), some (.int p2), some (.int p3), none, none, none] [.int r1] (I, L, R, am_SH) (po_U_fits L R Q)
  refine am_istore (ls' := [some (.ref q), some (.int p1), some (.int p2), some (.int p3), some (.int r1), none, none]) (n := 9) d_U_fits_7 (by decide) rfl rfl ?_
  refine am_iload (n := 11) d_U_fits_9 rfl rfl ?_
  refine am_if_eq (y := 0) (tgt := 21) (n := 14) d_U_fits_11 rfl rfl (fun c1 => ?_) (fun c1 => ?_)
  · have h := h.1 c1
    refine am_iconst (n := 22) d_U_fits_21 ci_0 rfl ?_
    refine am_istore (ls' := [some (.ref q), some (.int p1), some (.int p2), some (.int p3), some (.int r1), some (.int 0), none]) (n := 24) d_U_fits_22 (by decide) rfl rfl ?_
    refine am_iconst (n := 25) d_U_fits_24 ci_0 rfl ?_
    refine am_istore (ls' := [some (.ref q), some (.int p1), some (.int p2), some (.int p3), some (.int r1), some (.int 0), some (.int 0)]) (n := 27) d_U_fits_25 (by decide) rfl rfl ?_
    refine am_forget (ls' := [some (.ref q), some (.int p1), some (.int p2), some (.int p3), none, some (.int 0), some (.int 0)]) (am_le_s (am_le_s (am_le_s (am_le_s (am_le_n (am_le_s (am_le_s am_le_e))))))) ?_
    obtain ⟨n, h⟩ := h
    exact tl_U_fits_27 hw hq hd n I 0 0 h
  · have h := h.2 c1
    refine am_aload_n (n := 15) d_U_fits_14 rfl rfl ?_
    refine am_iload (n := 17) d_U_fits_15 rfl rfl ?_
    refine am_callV (kc := 0) (ks := 0) (As := [.int r1]) (n := 20) d_U_fits_17 rfl ce_U_refused lk_U_133 in_U_refused rfl rfl hq rfl rfl (Nat.le_of_ble_eq_true rfl) (Or.inl rfl) (cm_U_refused (d := d - 1) hw (by omega) hq h) (by omega) ?_
    rintro _ _ ⟨r4, I2, rfl, rfl, h⟩
    show am_Wp (d, "UnseenRing", b_U_fits, 7, false) 0 0 20 [some (.ref q), some (.int p1), some (.int p2), some (.int p3), some (.int r1), none, none] [.int r4] (I2, L, R, am_SH) (po_U_fits L R Q)
    exact am_iret d_U_fits_20 ⟨r4, I2, rfl, rfl, h⟩
abbrev po_U_sure (L : am_TL) (R : am_TR) (Q : Int32 → am_TI → Prop) : Option Value → am_St → Prop := fun r σ' => ∃ (x : Int32) (I' : am_TI), r = some (.int x) ∧ σ' = (I', L, R, am_SH) ∧ Q x I'
def wl_U_sure_27 (L : am_TL) (R : am_TR) (q : Nat) (p1 : Int32) (p2 : Int32) (p3 : Int32) (Q : Int32 → am_TI → Prop)  : Nat → am_TI → Int32 → Int32 → Prop
  | 0 => fun _ _ _ => False
  | f27 + 1 => fun I v5 v6 => ((((1 : Int32) <<< ((I (am_rd R q 11) 10) &&& 31)) ≤ v6 → wp_U_answeredIfThereIs I L R q v5 (fun (r2 : Int32) (I1 : am_TI) => Q r2 I1)) ∧ (¬ ((1 : Int32) <<< ((I (am_rd R q 11) 10) &&& 31)) ≤ v6 → (vp_in p2 4 ∧ wp_U_doesFit I L R q v6 p1 (am_rd R (q + 1) (Int32.toNatClampNeg p2)) p3 (fun (r3 : Bool) => ((r3 = false → wl_U_sure_27 L R q p1 p2 p3 Q f27 I v5 (v6 + 1)) ∧ (r3 = true → wl_U_sure_27 L R q p1 p2 p3 Q f27 I (v5 &&& v6) (v6 + 1)))))))
set_option maxRecDepth 20000 in
theorem tl_U_sure_27 {d : Nat}  {L : am_TL} {R : am_TR} {q : Nat} {p1 : Int32} {p2 : Int32} {p3 : Int32} {Q : Int32 → am_TI → Prop}  (hw : am_Wf R) (hq : am_SH[q]? = some (.inl 11)) (hd : 4 ≤ d) : ∀ (n : Nat) (I : am_TI) (v5 : Int32) (v6 : Int32), wl_U_sure_27 L R q p1 p2 p3 Q  n I v5 v6 → am_Wp (d, "UnseenRing", b_U_sure, 7, false) 0 0 27 [some (.ref q), some (.int p1), some (.int p2), some (.int p3), none, some (.int v5), some (.int v6)] [] (I, L, R, am_SH) (po_U_sure L R Q) := by
  intro n
  induction n with
  | zero => intro I v5 v6 h; exact h.elim
  | succ n ih =>
    intro I v5 v6 h
    unfold wl_U_sure_27 at h
    refine am_iload (n := 29) d_U_sure_27 rfl rfl ?_
    refine am_iconst (n := 30) d_U_sure_29 ci_1 rfl ?_
    refine am_aload_n (n := 31) d_U_sure_30 rfl rfl ?_
    refine am_getR (x := (am_rd R q 11)) (n := 34) f_U_81 d_U_sure_31 rfl rfl hq (hw.rd (k := 11) hq rfl).1 ?_
    refine am_getI (n := 37) f_U_355 d_U_sure_34 rfl rfl (hw.rd (k := 11) hq rfl).2 ?_
    refine am_ishl (n := 38) d_U_sure_37 rfl ?_
    refine am_icmp_ge (tgt := 71) (n := 41) d_U_sure_38 rfl rfl (fun c2 => ?_) (fun c2 => ?_)
    · have h := h.1 c2
      refine am_aload_n (n := 72) d_U_sure_71 rfl rfl ?_
      refine am_iload (n := 74) d_U_sure_72 rfl rfl ?_
      refine am_callV (kc := 0) (ks := 0) (As := [.int v5]) (n := 77) d_U_sure_74 rfl ce_U_answeredIfThereIs lk_U_301 in_U_answeredIfThereIs rfl rfl hq rfl rfl (Nat.le_of_ble_eq_true rfl) (Or.inl rfl) (cm_U_answeredIfThereIs (d := d - 1) hw (by omega) hq h) (by omega) ?_
      rintro _ _ ⟨r2, I1, rfl, rfl, h⟩
      show am_Wp (d, "UnseenRing", b_U_sure, 7, false) 0 0 77 [some (.ref q), some (.int p1), some (.int p2), some (.int p3), none, some (.int v5), some (.int v6)] [.int r2] (I1, L, R, am_SH) (po_U_sure L R Q)
      exact am_iret d_U_sure_77 ⟨r2, I1, rfl, rfl, h⟩
    · have h := h.2 c2
      refine am_aload_n (n := 42) d_U_sure_41 rfl rfl ?_
      refine am_iload (n := 44) d_U_sure_42 rfl rfl ?_
      refine am_iload_n (n := 45) d_U_sure_44 rfl rfl ?_
      refine am_aload_n (n := 46) d_U_sure_45 rfl rfl ?_
      refine am_getR (x := (q + 1)) (n := 49) f_U_11 d_U_sure_46 rfl rfl hq (hw.1 q 11 0 1 hq rfl) ?_
      refine am_iload_n (n := 50) d_U_sure_49 rfl rfl ?_
      obtain ⟨g1, h⟩ := h
      refine am_aald42 (x := (am_rd R (q + 1) (Int32.toNatClampNeg p2))) (n := 51) d_U_sure_50 rfl (am_sho (k := 0) (o := 1) hq (by decide) (by decide) (by decide) rfl) g1 rfl (hw.tray (am_sho (k := 0) (o := 1) hq (by decide) (by decide) (by decide) rfl) (am_in_j g1 rfl)).1 ?_
      refine am_iload_n (n := 52) d_U_sure_51 rfl rfl ?_
      refine am_callV (kc := 0) (ks := 0) (As := [.int v6, .int p1, .ref (am_rd R (q + 1) (Int32.toNatClampNeg p2)), .int p3]) (n := 55) d_U_sure_52 rfl ce_U_doesFit lk_U_358 in_U_doesFit rfl rfl hq rfl rfl (Nat.le_of_ble_eq_true rfl) (Or.inl rfl) (cm_U_doesFit (d := d - 1) hw (by omega) hq (hw.tray (am_sho (k := 0) (o := 1) hq (by decide) (by decide) (by decide) rfl) (am_in_j g1 rfl)).2 h) (by omega) ?_
      rintro _ _ ⟨r3, rfl, rfl, h⟩
      show am_Wp (d, "UnseenRing", b_U_sure, 7, false) 0 0 55 [some (.ref q), some (.int p1), some (.int p2), some (.int p3), none, some (.int v5), some (.int v6)] [.int (am_b r3)] (I, L, R, am_SH) (po_U_sure L R Q)
      refine am_if_eq (y := 0) (tgt := 65) (n := 58) d_U_sure_55 rfl rfl (fun c3 => ?_) (fun c3 => ?_)
      · have h := h.1 (am_b_0 c3)
        refine am_iinc (v := v6 + 1) (ls' := [some (.ref q), some (.int p1), some (.int p2), some (.int p3), none, some (.int v5), some (.int (v6 + 1))]) (n := 68) d_U_sure_65 rfl (congrArg _ ci_1) (by decide) rfl rfl ?_
        refine am_goto (tgt := 27) d_U_sure_68 rfl ?_
        exact ih I v5 (v6 + 1)  h
      · have h := h.2 (am_b_n0 c3)
        refine am_iload (n := 60) d_U_sure_58 rfl rfl ?_
        refine am_iload (n := 62) d_U_sure_60 rfl rfl ?_
        refine am_iand (n := 63) d_U_sure_62 rfl ?_
        refine am_istore (ls' := [some (.ref q), some (.int p1), some (.int p2), some (.int p3), none, some (.int (v5 &&& v6)), some (.int v6)]) (n := 65) d_U_sure_63 (by decide) rfl rfl ?_
        refine am_iinc (v := v6 + 1) (ls' := [some (.ref q), some (.int p1), some (.int p2), some (.int p3), none, some (.int (v5 &&& v6)), some (.int (v6 + 1))]) (n := 68) d_U_sure_65 rfl (congrArg _ ci_1) (by decide) rfl rfl ?_
        refine am_goto (tgt := 27) d_U_sure_68 rfl ?_
        exact ih I (v5 &&& v6) (v6 + 1)  h
def wp_U_sure (I : am_TI) (L : am_TL) (R : am_TR) (q : Nat) (p1 : Int32) (p2 : Int32) (p3 : Int32)  (Q : Int32 → am_TI → Prop) : Prop := wp_U_fitStatus I L R q p1 p2 p3 (fun (r1 : Int32) => ((r1 = 0 → (∃ z, wl_U_sure_27 L R q p1 p2 p3 Q z I (-1) 0)) ∧ (¬ r1 = 0 → wp_U_refused I L R q r1 (fun (r4 : Int32) (I2 : am_TI) => Q r4 I2))))
set_option maxRecDepth 20000 in
theorem cm_U_sure {d : Nat} {I : am_TI} {L : am_TL} {R : am_TR}  (hw : am_Wf R)   {q : Nat} {p1 : Int32} {p2 : Int32} {p3 : Int32} {Q : Int32 → am_TI → Prop} (hd : 4 ≤ d) (hq : am_SH[q]? = some (.inl 11)) (h : wp_U_sure I L R q p1 p2 p3  Q) : am_Cm d 0 0 y_U_sure b_U_sure 7 (some .int) [.ref q, .int p1, .int p2, .int p3] (I, L, R, am_SH) (po_U_sure L R Q) := by
  refine am_Cm_of (ini := false) (by decide +kernel) (fun z => by cases z) (by simp [Value.category]) (fun r σ' z => by obtain ⟨x, _, rfl, -⟩ := z; exact ⟨_, rfl, rfl⟩) ?_
  unfold wp_U_sure at h
  show am_Wp (d, "UnseenRing", b_U_sure, 7, false) 0 0 0 [some (.ref q), some (.int p1), some (.int p2), some (.int p3), none, none, none] [] (I, L, R, am_SH) (po_U_sure L R Q)
  refine am_aload_n (n := 1) d_U_sure_0 rfl rfl ?_
  refine am_iload_n (n := 2) d_U_sure_1 rfl rfl ?_
  refine am_iload_n (n := 3) d_U_sure_2 rfl rfl ?_
  refine am_iload_n (n := 4) d_U_sure_3 rfl rfl ?_
  refine am_callV (kc := 0) (ks := 0) (As := [.int p1, .int p2, .int p3]) (n := 7) d_U_sure_4 rfl ce_U_fitStatus lk_U_352 in_U_fitStatus rfl rfl hq rfl rfl (Nat.le_of_ble_eq_true rfl) (Or.inl rfl) (cm_U_fitStatus (d := d - 1) hw (by omega) hq h) (by omega) ?_
  rintro _ _ ⟨r1, rfl, rfl, h⟩
  show am_Wp (d, "UnseenRing", b_U_sure, 7, false) 0 0 7 [some (.ref q), some (.int p1), some (.int p2), some (.int p3), none, none, none] [.int r1] (I, L, R, am_SH) (po_U_sure L R Q)
  refine am_istore (ls' := [some (.ref q), some (.int p1), some (.int p2), some (.int p3), some (.int r1), none, none]) (n := 9) d_U_sure_7 (by decide) rfl rfl ?_
  refine am_iload (n := 11) d_U_sure_9 rfl rfl ?_
  refine am_if_eq (y := 0) (tgt := 21) (n := 14) d_U_sure_11 rfl rfl (fun c1 => ?_) (fun c1 => ?_)
  · have h := h.1 c1
    refine am_iconst (n := 22) d_U_sure_21 ci_m1 rfl ?_
    refine am_istore (ls' := [some (.ref q), some (.int p1), some (.int p2), some (.int p3), some (.int r1), some (.int (-1)), none]) (n := 24) d_U_sure_22 (by decide) rfl rfl ?_
    refine am_iconst (n := 25) d_U_sure_24 ci_0 rfl ?_
    refine am_istore (ls' := [some (.ref q), some (.int p1), some (.int p2), some (.int p3), some (.int r1), some (.int (-1)), some (.int 0)]) (n := 27) d_U_sure_25 (by decide) rfl rfl ?_
    refine am_forget (ls' := [some (.ref q), some (.int p1), some (.int p2), some (.int p3), none, some (.int (-1)), some (.int 0)]) (am_le_s (am_le_s (am_le_s (am_le_s (am_le_n (am_le_s (am_le_s am_le_e))))))) ?_
    obtain ⟨n, h⟩ := h
    exact tl_U_sure_27 hw hq hd n I (-1) 0 h
  · have h := h.2 c1
    refine am_aload_n (n := 15) d_U_sure_14 rfl rfl ?_
    refine am_iload (n := 17) d_U_sure_15 rfl rfl ?_
    refine am_callV (kc := 0) (ks := 0) (As := [.int r1]) (n := 20) d_U_sure_17 rfl ce_U_refused lk_U_133 in_U_refused rfl rfl hq rfl rfl (Nat.le_of_ble_eq_true rfl) (Or.inl rfl) (cm_U_refused (d := d - 1) hw (by omega) hq h) (by omega) ?_
    rintro _ _ ⟨r4, I2, rfl, rfl, h⟩
    show am_Wp (d, "UnseenRing", b_U_sure, 7, false) 0 0 20 [some (.ref q), some (.int p1), some (.int p2), some (.int p3), some (.int r1), none, none] [.int r4] (I2, L, R, am_SH) (po_U_sure L R Q)
    exact am_iret d_U_sure_20 ⟨r4, I2, rfl, rfl, h⟩
abbrev po_Knowing_isPossible (I : am_TI) (L : am_TL) (R : am_TR) (Q : Bool → Prop) : Option Value → am_St → Prop := fun r σ' => ∃ (x : Bool), r = some (.int (am_b x)) ∧ σ' = (I, L, R, am_SH) ∧ Q x
def wp_Knowing_isPossible (I : am_TI) (L : am_TL) (R : am_TR) (q : Nat) (p1 : Int32)  (Q : Bool → Prop) : Prop := (((((L q 2) >>> (Int32.toInt64 p1 &&& 63)) &&& 1) = 1 → Q true) ∧ (¬ (((L q 2) >>> (Int32.toInt64 p1 &&& 63)) &&& 1) = 1 → Q false))
set_option maxRecDepth 20000 in
theorem cm_Knowing_isPossible {d : Nat} {I : am_TI} {L : am_TL} {R : am_TR}  (hw : am_Wf R)   {q : Nat} {p1 : Int32} {Q : Bool → Prop} (hd : 0 ≤ d) (hq : am_SH[q]? = some (.inl 3)) (h : wp_Knowing_isPossible I L R q p1  Q) : am_Cm d 0 0 y_Knowing_isPossible b_Knowing_isPossible 2 (some .boolean) [.ref q, .int p1] (I, L, R, am_SH) (po_Knowing_isPossible I L R Q) := by
  refine am_Cm_of (ini := false) (by decide +kernel) (fun z => by cases z) (by simp [Value.category]) (fun r σ' z => by obtain ⟨x, rfl, -⟩ := z; exact ⟨_, rfl, am_b_nar x⟩) ?_
  unfold wp_Knowing_isPossible at h
  show am_Wp (d, "UnseenRing$Knowing", b_Knowing_isPossible, 2, false) 0 0 0 [some (.ref q), some (.int p1)] [] (I, L, R, am_SH) (po_Knowing_isPossible I L R Q)
  refine am_aload_n (n := 1) d_Knowing_isPossible_0 rfl rfl ?_
  refine am_getL (n := 4) f_Knowing_19 d_Knowing_isPossible_1 rfl rfl hq ?_
  refine am_iload_n (n := 5) d_Knowing_isPossible_4 rfl rfl ?_
  refine am_lshr (n := 6) d_Knowing_isPossible_5 rfl ?_
  refine am_lconst (v := 1) (n := 7) d_Knowing_isPossible_6 rfl rfl ?_
  refine am_land (n := 8) d_Knowing_isPossible_7 rfl ?_
  refine am_lconst (v := 1) (n := 9) d_Knowing_isPossible_8 rfl rfl ?_
  refine am_lcmp (n := 10) d_Knowing_isPossible_9 rfl ?_
  refine am_if_ne (y := 0) (tgt := 17) (n := 13) d_Knowing_isPossible_10 rfl rfl (fun c1 => ?_) (fun c1 => ?_)
  · have h := h.2 (fun z => c1 (am_cmp_eq.mpr z))
    refine am_iconst (n := 18) d_Knowing_isPossible_17 ci_0 rfl ?_
    exact am_iret d_Knowing_isPossible_18 ⟨false, rfl, rfl, h⟩
  · have h := h.1 (am_cmp_eq.mp c1)
    refine am_iconst (n := 14) d_Knowing_isPossible_13 ci_1 rfl ?_
    refine am_goto (tgt := 18) d_Knowing_isPossible_14 rfl ?_
    exact am_iret d_Knowing_isPossible_18 ⟨true, rfl, rfl, h⟩
abbrev po_Knowing_knows (I : am_TI) (L : am_TL) (R : am_TR) (Q : Bool → Prop) : Option Value → am_St → Prop := fun r σ' => ∃ (x : Bool), r = some (.int (am_b x)) ∧ σ' = (I, L, R, am_SH) ∧ Q x
def wl_Knowing_knows_37 (I : am_TI) (L : am_TL) (R : am_TR) (q : Nat) (p1 : Int32) (p2 : Int32) (Q : Bool → Prop)  : Nat → Int32 → Int32 → Int32 → Prop
  | 0 => fun _ _ _ => False
  | f37 + 1 => fun v3 v4 v5 => ((v4 < v5 → Q true) ∧ (¬ v4 < v5 → (((v5 &&& (v4 ^^^ (-1))) = 0 → wp_Knowing_isPossible I L R q (v3 ||| v5) (fun (r1 : Bool) => ((r1 = false → wl_Knowing_knows_37 I L R q p1 p2 Q f37 v3 v4 (v5 + 1)) ∧ (r1 = true → Q false)))) ∧ (¬ (v5 &&& (v4 ^^^ (-1))) = 0 → wl_Knowing_knows_37 I L R q p1 p2 Q f37 v3 v4 (v5 + 1)))))
set_option maxRecDepth 20000 in
theorem tl_Knowing_knows_37 {d : Nat}  {I : am_TI} {L : am_TL} {R : am_TR} {q : Nat} {p1 : Int32} {p2 : Int32} {Q : Bool → Prop}  (hw : am_Wf R) (hq : am_SH[q]? = some (.inl 3)) (hd : 1 ≤ d) : ∀ (n : Nat) (v3 : Int32) (v4 : Int32) (v5 : Int32), wl_Knowing_knows_37 I L R q p1 p2 Q  n v3 v4 v5 → am_Wp (d, "UnseenRing$Knowing", b_Knowing_knows, 6, false) 0 0 37 [some (.ref q), some (.int p1), some (.int p2), some (.int v3), some (.int v4), some (.int v5)] [] (I, L, R, am_SH) (po_Knowing_knows I L R Q) := by
  intro n
  induction n with
  | zero => intro v3 v4 v5 h; exact h.elim
  | succ n ih =>
    intro v3 v4 v5 h
    unfold wl_Knowing_knows_37 at h
    refine am_iload (n := 39) d_Knowing_knows_37 rfl rfl ?_
    refine am_iload (n := 41) d_Knowing_knows_39 rfl rfl ?_
    refine am_icmp_gt (tgt := 73) (n := 44) d_Knowing_knows_41 rfl rfl (fun c1 => ?_) (fun c1 => ?_)
    · have h := h.1 c1
      refine am_iconst (n := 74) d_Knowing_knows_73 ci_1 rfl ?_
      exact am_iret d_Knowing_knows_74 ⟨true, rfl, rfl, h⟩
    · have h := h.2 c1
      refine am_iload (n := 46) d_Knowing_knows_44 rfl rfl ?_
      refine am_iload (n := 48) d_Knowing_knows_46 rfl rfl ?_
      refine am_iconst (n := 49) d_Knowing_knows_48 ci_m1 rfl ?_
      refine am_ixor (n := 50) d_Knowing_knows_49 rfl ?_
      refine am_iand (n := 51) d_Knowing_knows_50 rfl ?_
      refine am_if_ne (y := 0) (tgt := 67) (n := 54) d_Knowing_knows_51 rfl rfl (fun c2 => ?_) (fun c2 => ?_)
      · have h := h.2 c2
        refine am_iinc (v := v5 + 1) (ls' := [some (.ref q), some (.int p1), some (.int p2), some (.int v3), some (.int v4), some (.int (v5 + 1))]) (n := 70) d_Knowing_knows_67 rfl (congrArg _ ci_1) (by decide) rfl rfl ?_
        refine am_goto (tgt := 37) d_Knowing_knows_70 rfl ?_
        exact ih v3 v4 (v5 + 1)  h
      · have h := h.1 c2
        refine am_aload_n (n := 55) d_Knowing_knows_54 rfl rfl ?_
        refine am_iload_n (n := 56) d_Knowing_knows_55 rfl rfl ?_
        refine am_iload (n := 58) d_Knowing_knows_56 rfl rfl ?_
        refine am_ior (n := 59) d_Knowing_knows_58 rfl ?_
        refine am_callV (kc := 0) (ks := 0) (As := [.int (v3 ||| v5)]) (n := 62) d_Knowing_knows_59 rfl ce_Knowing_isPossible lk_Knowing_45 in_Knowing_isPossible rfl rfl hq rfl rfl (Nat.le_of_ble_eq_true rfl) (Or.inl rfl) (cm_Knowing_isPossible (d := d - 1) hw (by omega) hq h) (by omega) ?_
        rintro _ _ ⟨r1, rfl, rfl, h⟩
        show am_Wp (d, "UnseenRing$Knowing", b_Knowing_knows, 6, false) 0 0 62 [some (.ref q), some (.int p1), some (.int p2), some (.int v3), some (.int v4), some (.int v5)] [.int (am_b r1)] (I, L, R, am_SH) (po_Knowing_knows I L R Q)
        refine am_if_eq (y := 0) (tgt := 67) (n := 65) d_Knowing_knows_62 rfl rfl (fun c3 => ?_) (fun c3 => ?_)
        · have h := h.1 (am_b_0 c3)
          refine am_iinc (v := v5 + 1) (ls' := [some (.ref q), some (.int p1), some (.int p2), some (.int v3), some (.int v4), some (.int (v5 + 1))]) (n := 70) d_Knowing_knows_67 rfl (congrArg _ ci_1) (by decide) rfl rfl ?_
          refine am_goto (tgt := 37) d_Knowing_knows_70 rfl ?_
          exact ih v3 v4 (v5 + 1)  h
        · have h := h.2 (am_b_n0 c3)
          refine am_iconst (n := 66) d_Knowing_knows_65 ci_0 rfl ?_
          exact am_iret d_Knowing_knows_66 ⟨false, rfl, rfl, h⟩
def wp_Knowing_knows (I : am_TI) (L : am_TL) (R : am_TR) (q : Nat) (p1 : Int32) (p2 : Int32)  (Q : Bool → Prop) : Prop := (vp_in p1 6 ∧ (vp_in p1 6 ∧ (∃ z, wl_Knowing_knows_37 I L R q p1 p2 Q z (p2 &&& (I (q + 1) (Int32.toNatClampNeg p1))) (((((1 : Int32) <<< ((I q 1) &&& 31)) - 1) &&& ((I (q + 1) (Int32.toNatClampNeg p1)) ^^^ (-1))) &&& (((1 : Int32) <<< (p1 &&& 31)) ^^^ (-1))) 0)))
set_option maxRecDepth 20000 in
theorem cm_Knowing_knows {d : Nat} {I : am_TI} {L : am_TL} {R : am_TR}  (hw : am_Wf R)   {q : Nat} {p1 : Int32} {p2 : Int32} {Q : Bool → Prop} (hd : 1 ≤ d) (hq : am_SH[q]? = some (.inl 3)) (h : wp_Knowing_knows I L R q p1 p2  Q) : am_Cm d 0 0 y_Knowing_knows b_Knowing_knows 6 (some .boolean) [.ref q, .int p1, .int p2] (I, L, R, am_SH) (po_Knowing_knows I L R Q) := by
  refine am_Cm_of (ini := false) (by decide +kernel) (fun z => by cases z) (by simp [Value.category]) (fun r σ' z => by obtain ⟨x, rfl, -⟩ := z; exact ⟨_, rfl, am_b_nar x⟩) ?_
  unfold wp_Knowing_knows at h
  show am_Wp (d, "UnseenRing$Knowing", b_Knowing_knows, 6, false) 0 0 0 [some (.ref q), some (.int p1), some (.int p2), none, none, none] [] (I, L, R, am_SH) (po_Knowing_knows I L R Q)
  refine am_iload_n (n := 1) d_Knowing_knows_0 rfl rfl ?_
  refine am_aload_n (n := 2) d_Knowing_knows_1 rfl rfl ?_
  refine am_getR (x := (q + 1)) (n := 5) f_Knowing_9 d_Knowing_knows_2 rfl rfl hq (hw.1 q 3 0 1 hq rfl) ?_
  refine am_iload_n (n := 6) d_Knowing_knows_5 rfl rfl ?_
  obtain ⟨g1, h⟩ := h
  refine am_iald2 (n := 7) d_Knowing_knows_6 rfl (am_sho (k := 0) (o := 1) hq (by decide) (by decide) (by decide) rfl) g1 rfl ?_
  refine am_iand (n := 8) d_Knowing_knows_7 rfl ?_
  refine am_istore_n (ls' := [some (.ref q), some (.int p1), some (.int p2), some (.int (p2 &&& (I (q + 1) (Int32.toNatClampNeg p1)))), none, none]) (n := 9) d_Knowing_knows_8 (by decide) rfl rfl ?_
  refine am_iconst (n := 10) d_Knowing_knows_9 ci_1 rfl ?_
  refine am_aload_n (n := 11) d_Knowing_knows_10 rfl rfl ?_
  refine am_getI (n := 14) f_Knowing_15 d_Knowing_knows_11 rfl rfl hq ?_
  refine am_ishl (n := 15) d_Knowing_knows_14 rfl ?_
  refine am_iconst (n := 16) d_Knowing_knows_15 ci_1 rfl ?_
  refine am_isub (n := 17) d_Knowing_knows_16 rfl ?_
  refine am_aload_n (n := 18) d_Knowing_knows_17 rfl rfl ?_
  refine am_getR (x := (q + 1)) (n := 21) f_Knowing_9 d_Knowing_knows_18 rfl rfl hq (hw.1 q 3 0 1 hq rfl) ?_
  refine am_iload_n (n := 22) d_Knowing_knows_21 rfl rfl ?_
  obtain ⟨g2, h⟩ := h
  refine am_iald2 (n := 23) d_Knowing_knows_22 rfl (am_sho (k := 0) (o := 1) hq (by decide) (by decide) (by decide) rfl) g2 rfl ?_
  refine am_iconst (n := 24) d_Knowing_knows_23 ci_m1 rfl ?_
  refine am_ixor (n := 25) d_Knowing_knows_24 rfl ?_
  refine am_iand (n := 26) d_Knowing_knows_25 rfl ?_
  refine am_iconst (n := 27) d_Knowing_knows_26 ci_1 rfl ?_
  refine am_iload_n (n := 28) d_Knowing_knows_27 rfl rfl ?_
  refine am_ishl (n := 29) d_Knowing_knows_28 rfl ?_
  refine am_iconst (n := 30) d_Knowing_knows_29 ci_m1 rfl ?_
  refine am_ixor (n := 31) d_Knowing_knows_30 rfl ?_
  refine am_iand (n := 32) d_Knowing_knows_31 rfl ?_
  refine am_istore (ls' := [some (.ref q), some (.int p1), some (.int p2), some (.int (p2 &&& (I (q + 1) (Int32.toNatClampNeg p1)))), some (.int (((((1 : Int32) <<< ((I q 1) &&& 31)) - 1) &&& ((I (q + 1) (Int32.toNatClampNeg p1)) ^^^ (-1))) &&& (((1 : Int32) <<< (p1 &&& 31)) ^^^ (-1)))), none]) (n := 34) d_Knowing_knows_32 (by decide) rfl rfl ?_
  refine am_iconst (n := 35) d_Knowing_knows_34 ci_0 rfl ?_
  refine am_istore (ls' := [some (.ref q), some (.int p1), some (.int p2), some (.int (p2 &&& (I (q + 1) (Int32.toNatClampNeg p1)))), some (.int (((((1 : Int32) <<< ((I q 1) &&& 31)) - 1) &&& ((I (q + 1) (Int32.toNatClampNeg p1)) ^^^ (-1))) &&& (((1 : Int32) <<< (p1 &&& 31)) ^^^ (-1)))), some (.int 0)]) (n := 37) d_Knowing_knows_35 (by decide) rfl rfl ?_
  obtain ⟨n, h⟩ := h
  exact tl_Knowing_knows_37 hw hq hd n (p2 &&& (I (q + 1) (Int32.toNatClampNeg p1))) (((((1 : Int32) <<< ((I q 1) &&& 31)) - 1) &&& ((I (q + 1) (Int32.toNatClampNeg p1)) ^^^ (-1))) &&& (((1 : Int32) <<< (p1 &&& 31)) ^^^ (-1))) 0 h
abbrev po_Knowing_knowersIn (I : am_TI) (L : am_TL) (R : am_TR) (Q : Int32 → Prop) : Option Value → am_St → Prop := fun r σ' => ∃ (x : Int32), r = some (.int x) ∧ σ' = (I, L, R, am_SH) ∧ Q x
def wl_Knowing_knowersIn_4 (I : am_TI) (L : am_TL) (R : am_TR) (q : Nat) (p1 : Int32) (Q : Int32 → Prop)  : Nat → Int32 → Int32 → Prop
  | 0 => fun _ _ => False
  | f4 + 1 => fun v2 v3 => (((I q 1) ≤ v3 → Q v2) ∧ (¬ (I q 1) ≤ v3 → ((((p1 >>> (v3 &&& 31)) &&& 1) = 1 → wp_Knowing_knows I L R q v3 p1 (fun (r1 : Bool) => ((r1 = false → wl_Knowing_knowersIn_4 I L R q p1 Q f4 v2 (v3 + 1)) ∧ (r1 = true → wl_Knowing_knowersIn_4 I L R q p1 Q f4 (v2 ||| ((1 : Int32) <<< (v3 &&& 31))) (v3 + 1))))) ∧ (¬ ((p1 >>> (v3 &&& 31)) &&& 1) = 1 → wl_Knowing_knowersIn_4 I L R q p1 Q f4 v2 (v3 + 1)))))
set_option maxRecDepth 20000 in
theorem tl_Knowing_knowersIn_4 {d : Nat}  {I : am_TI} {L : am_TL} {R : am_TR} {q : Nat} {p1 : Int32} {Q : Int32 → Prop}  (hw : am_Wf R) (hq : am_SH[q]? = some (.inl 3)) (hd : 2 ≤ d) : ∀ (n : Nat) (v2 : Int32) (v3 : Int32), wl_Knowing_knowersIn_4 I L R q p1 Q  n v2 v3 → am_Wp (d, "UnseenRing$Knowing", b_Knowing_knowersIn, 4, false) 0 0 4 [some (.ref q), some (.int p1), some (.int v2), some (.int v3)] [] (I, L, R, am_SH) (po_Knowing_knowersIn I L R Q) := by
  intro n
  induction n with
  | zero => intro v2 v3 h; exact h.elim
  | succ n ih =>
    intro v2 v3 h
    unfold wl_Knowing_knowersIn_4 at h
    refine am_iload_n (n := 5) d_Knowing_knowersIn_4 rfl rfl ?_
    refine am_aload_n (n := 6) d_Knowing_knowersIn_5 rfl rfl ?_
    refine am_getI (n := 9) f_Knowing_15 d_Knowing_knowersIn_6 rfl rfl hq ?_
    refine am_icmp_ge (tgt := 42) (n := 12) d_Knowing_knowersIn_9 rfl rfl (fun c1 => ?_) (fun c1 => ?_)
    · have h := h.1 c1
      refine am_iload_n (n := 43) d_Knowing_knowersIn_42 rfl rfl ?_
      exact am_iret d_Knowing_knowersIn_43 ⟨v2, rfl, rfl, h⟩
    · have h := h.2 c1
      refine am_iload_n (n := 13) d_Knowing_knowersIn_12 rfl rfl ?_
      refine am_iload_n (n := 14) d_Knowing_knowersIn_13 rfl rfl ?_
      refine am_ishr (n := 15) d_Knowing_knowersIn_14 rfl ?_
      refine am_iconst (n := 16) d_Knowing_knowersIn_15 ci_1 rfl ?_
      refine am_iand (n := 17) d_Knowing_knowersIn_16 rfl ?_
      refine am_iconst (n := 18) d_Knowing_knowersIn_17 ci_1 rfl ?_
      refine am_icmp_ne (tgt := 36) (n := 21) d_Knowing_knowersIn_18 rfl rfl (fun c2 => ?_) (fun c2 => ?_)
      · have h := h.2 c2
        refine am_iinc (v := v3 + 1) (ls' := [some (.ref q), some (.int p1), some (.int v2), some (.int (v3 + 1))]) (n := 39) d_Knowing_knowersIn_36 rfl (congrArg _ ci_1) (by decide) rfl rfl ?_
        refine am_goto (tgt := 4) d_Knowing_knowersIn_39 rfl ?_
        exact ih v2 (v3 + 1)  h
      · have h := h.1 c2
        refine am_aload_n (n := 22) d_Knowing_knowersIn_21 rfl rfl ?_
        refine am_iload_n (n := 23) d_Knowing_knowersIn_22 rfl rfl ?_
        refine am_iload_n (n := 24) d_Knowing_knowersIn_23 rfl rfl ?_
        refine am_callV (kc := 0) (ks := 0) (As := [.int v3, .int p1]) (n := 27) d_Knowing_knowersIn_24 rfl ce_Knowing_knows lk_Knowing_48 in_Knowing_knows rfl rfl hq rfl rfl (Nat.le_of_ble_eq_true rfl) (Or.inl rfl) (cm_Knowing_knows (d := d - 1) hw (by omega) hq h) (by omega) ?_
        rintro _ _ ⟨r1, rfl, rfl, h⟩
        show am_Wp (d, "UnseenRing$Knowing", b_Knowing_knowersIn, 4, false) 0 0 27 [some (.ref q), some (.int p1), some (.int v2), some (.int v3)] [.int (am_b r1)] (I, L, R, am_SH) (po_Knowing_knowersIn I L R Q)
        refine am_if_eq (y := 0) (tgt := 36) (n := 30) d_Knowing_knowersIn_27 rfl rfl (fun c3 => ?_) (fun c3 => ?_)
        · have h := h.1 (am_b_0 c3)
          refine am_iinc (v := v3 + 1) (ls' := [some (.ref q), some (.int p1), some (.int v2), some (.int (v3 + 1))]) (n := 39) d_Knowing_knowersIn_36 rfl (congrArg _ ci_1) (by decide) rfl rfl ?_
          refine am_goto (tgt := 4) d_Knowing_knowersIn_39 rfl ?_
          exact ih v2 (v3 + 1)  h
        · have h := h.2 (am_b_n0 c3)
          refine am_iload_n (n := 31) d_Knowing_knowersIn_30 rfl rfl ?_
          refine am_iconst (n := 32) d_Knowing_knowersIn_31 ci_1 rfl ?_
          refine am_iload_n (n := 33) d_Knowing_knowersIn_32 rfl rfl ?_
          refine am_ishl (n := 34) d_Knowing_knowersIn_33 rfl ?_
          refine am_ior (n := 35) d_Knowing_knowersIn_34 rfl ?_
          refine am_istore_n (ls' := [some (.ref q), some (.int p1), some (.int (v2 ||| ((1 : Int32) <<< (v3 &&& 31)))), some (.int v3)]) (n := 36) d_Knowing_knowersIn_35 (by decide) rfl rfl ?_
          refine am_iinc (v := v3 + 1) (ls' := [some (.ref q), some (.int p1), some (.int (v2 ||| ((1 : Int32) <<< (v3 &&& 31)))), some (.int (v3 + 1))]) (n := 39) d_Knowing_knowersIn_36 rfl (congrArg _ ci_1) (by decide) rfl rfl ?_
          refine am_goto (tgt := 4) d_Knowing_knowersIn_39 rfl ?_
          exact ih (v2 ||| ((1 : Int32) <<< (v3 &&& 31))) (v3 + 1)  h
def wp_Knowing_knowersIn (I : am_TI) (L : am_TL) (R : am_TR) (q : Nat) (p1 : Int32)  (Q : Int32 → Prop) : Prop := (∃ z, wl_Knowing_knowersIn_4 I L R q p1 Q z 0 0)
set_option maxRecDepth 20000 in
theorem cm_Knowing_knowersIn {d : Nat} {I : am_TI} {L : am_TL} {R : am_TR}  (hw : am_Wf R)   {q : Nat} {p1 : Int32} {Q : Int32 → Prop} (hd : 2 ≤ d) (hq : am_SH[q]? = some (.inl 3)) (h : wp_Knowing_knowersIn I L R q p1  Q) : am_Cm d 0 0 y_Knowing_knowersIn b_Knowing_knowersIn 4 (some .int) [.ref q, .int p1] (I, L, R, am_SH) (po_Knowing_knowersIn I L R Q) := by
  refine am_Cm_of (ini := false) (by decide +kernel) (fun z => by cases z) (by simp [Value.category]) (fun r σ' z => by obtain ⟨x, rfl, -⟩ := z; exact ⟨_, rfl, rfl⟩) ?_
  unfold wp_Knowing_knowersIn at h
  show am_Wp (d, "UnseenRing$Knowing", b_Knowing_knowersIn, 4, false) 0 0 0 [some (.ref q), some (.int p1), none, none] [] (I, L, R, am_SH) (po_Knowing_knowersIn I L R Q)
  refine am_iconst (n := 1) d_Knowing_knowersIn_0 ci_0 rfl ?_
  refine am_istore_n (ls' := [some (.ref q), some (.int p1), some (.int 0), none]) (n := 2) d_Knowing_knowersIn_1 (by decide) rfl rfl ?_
  refine am_iconst (n := 3) d_Knowing_knowersIn_2 ci_0 rfl ?_
  refine am_istore_n (ls' := [some (.ref q), some (.int p1), some (.int 0), some (.int 0)]) (n := 4) d_Knowing_knowersIn_3 (by decide) rfl rfl ?_
  obtain ⟨n, h⟩ := h
  exact tl_Knowing_knowersIn_4 hw hq hd n 0 0 h
abbrev po_Knowing_hearAll (I : am_TI) (R : am_TR) (Q : Bool → am_TL → Prop) : Option Value → am_St → Prop := fun r σ' => ∃ (x : Bool) (L' : am_TL), r = some (.int (am_b x)) ∧ σ' = (I, L', R, am_SH) ∧ Q x L'
def wb_Knowing_hearAll_68 (I : am_TI) (R : am_TR) (q : Nat) (p1 : Int32) (Q : Bool → am_TL → Prop)  (L : am_TL) (v3 : Int64) (s0 : Bool) : Prop := (∀ L1, L1 = am_u2 L q 2 v3 → Q s0 L1)
set_option maxRecDepth 20000 in
theorem tb_Knowing_hearAll_68 {d : Nat}  {I : am_TI} {R : am_TR} {q : Nat} {p1 : Int32} {Q : Bool → am_TL → Prop}  (hw : am_Wf R) (hq : am_SH[q]? = some (.inl 3)) (hd : 3 ≤ d) (L : am_TL) (v3 : Int64) (s0 : Bool) (h : wb_Knowing_hearAll_68 I R q p1 Q  L v3 s0) : am_Wp (d, "UnseenRing$Knowing", b_Knowing_hearAll, 6, false) 0 0 68 [some (.ref q), some (.int p1), none, some (.long v3), none, none] [.int (am_b s0)] (I, L, R, am_SH) (po_Knowing_hearAll I R Q) := by
  unfold wb_Knowing_hearAll_68 at h
  refine am_istore (ls' := [some (.ref q), some (.int p1), none, some (.long v3), none, some (.int (am_b s0))]) (n := 70) d_Knowing_hearAll_68 (by decide) rfl rfl ?_
  refine am_aload_n (n := 71) d_Knowing_hearAll_70 rfl rfl ?_
  refine am_lload_n (n := 72) d_Knowing_hearAll_71 rfl rfl ?_
  refine am_putL (n := 75) f_Knowing_19 d_Knowing_hearAll_72 rfl ⟨_, rfl, Or.inl rfl⟩ rfl rfl hq ?_
  generalize eL1 : am_u2 L q 2 v3 = L1
  have h := h L1 eL1.symm
  refine am_iload (n := 77) d_Knowing_hearAll_75 rfl rfl ?_
  exact am_iret d_Knowing_hearAll_77 ⟨s0, L1, rfl, rfl, h⟩
def wl_Knowing_hearAll_11 (I : am_TI) (R : am_TR) (q : Nat) (p1 : Int32) (Q : Bool → am_TL → Prop)  : Nat → am_TL → Int32 → Int64 → Int32 → Prop
  | 0 => fun _ _ _ _ => False
  | f11 + 1 => fun L v2 v3 v5 => ((((1 : Int32) <<< ((I q 1) &&& 31)) ≤ v5 → ((v3 = (L q 2) → wb_Knowing_hearAll_68 I R q p1 Q L v3 false) ∧ (¬ v3 = (L q 2) → wb_Knowing_hearAll_68 I R q p1 Q L v3 true))) ∧ (¬ ((1 : Int32) <<< ((I q 1) &&& 31)) ≤ v5 → wp_Knowing_isPossible I L R q v5 (fun (r2 : Bool) => ((r2 = false → wl_Knowing_hearAll_11 I R q p1 Q f11 L v2 v3 (v5 + 1)) ∧ (r2 = true → wp_Knowing_knowersIn I L R q v5 (fun (r3 : Int32) => ((r3 = v2 → wl_Knowing_hearAll_11 I R q p1 Q f11 L v2 (v3 ||| ((1 : Int64) <<< (Int32.toInt64 v5 &&& 63))) (v5 + 1)) ∧ (¬ r3 = v2 → wl_Knowing_hearAll_11 I R q p1 Q f11 L v2 v3 (v5 + 1)))))))))
set_option maxRecDepth 20000 in
theorem tl_Knowing_hearAll_11 {d : Nat}  {I : am_TI} {R : am_TR} {q : Nat} {p1 : Int32} {Q : Bool → am_TL → Prop}  (hw : am_Wf R) (hq : am_SH[q]? = some (.inl 3)) (hd : 3 ≤ d) : ∀ (n : Nat) (L : am_TL) (v2 : Int32) (v3 : Int64) (v5 : Int32), wl_Knowing_hearAll_11 I R q p1 Q  n L v2 v3 v5 → am_Wp (d, "UnseenRing$Knowing", b_Knowing_hearAll, 6, false) 0 0 11 [some (.ref q), some (.int p1), some (.int v2), some (.long v3), none, some (.int v5)] [] (I, L, R, am_SH) (po_Knowing_hearAll I R Q) := by
  intro n
  induction n with
  | zero => intro L v2 v3 v5 h; exact h.elim
  | succ n ih =>
    intro L v2 v3 v5 h
    unfold wl_Knowing_hearAll_11 at h
    refine am_iload (n := 13) d_Knowing_hearAll_11 rfl rfl ?_
    refine am_iconst (n := 14) d_Knowing_hearAll_13 ci_1 rfl ?_
    refine am_aload_n (n := 15) d_Knowing_hearAll_14 rfl rfl ?_
    refine am_getI (n := 18) f_Knowing_15 d_Knowing_hearAll_15 rfl rfl hq ?_
    refine am_ishl (n := 19) d_Knowing_hearAll_18 rfl ?_
    refine am_icmp_ge (tgt := 54) (n := 22) d_Knowing_hearAll_19 rfl rfl (fun c1 => ?_) (fun c1 => ?_)
    · have h := h.1 c1
      refine am_lload_n (n := 55) d_Knowing_hearAll_54 rfl rfl ?_
      refine am_aload_n (n := 56) d_Knowing_hearAll_55 rfl rfl ?_
      refine am_getL (n := 59) f_Knowing_19 d_Knowing_hearAll_56 rfl rfl hq ?_
      refine am_lcmp (n := 60) d_Knowing_hearAll_59 rfl ?_
      refine am_if_eq (y := 0) (tgt := 67) (n := 63) d_Knowing_hearAll_60 rfl rfl (fun c2 => ?_) (fun c2 => ?_)
      · have h := h.1 (am_cmp_eq.mp c2)
        refine am_iconst (n := 68) d_Knowing_hearAll_67 ci_0 rfl ?_
        refine am_forget (ls' := [some (.ref q), some (.int p1), none, some (.long v3), none, none]) (am_le_s (am_le_s (am_le_n (am_le_s (am_le_n (am_le_n am_le_e)))))) ?_
        exact tb_Knowing_hearAll_68 hw hq hd L v3 false h
      · have h := h.2 (fun z => c2 (am_cmp_eq.mpr z))
        refine am_iconst (n := 64) d_Knowing_hearAll_63 ci_1 rfl ?_
        refine am_goto (tgt := 68) d_Knowing_hearAll_64 rfl ?_
        refine am_forget (ls' := [some (.ref q), some (.int p1), none, some (.long v3), none, none]) (am_le_s (am_le_s (am_le_n (am_le_s (am_le_n (am_le_n am_le_e)))))) ?_
        exact tb_Knowing_hearAll_68 hw hq hd L v3 true h
    · have h := h.2 c1
      refine am_aload_n (n := 23) d_Knowing_hearAll_22 rfl rfl ?_
      refine am_iload (n := 25) d_Knowing_hearAll_23 rfl rfl ?_
      refine am_callV (kc := 0) (ks := 0) (As := [.int v5]) (n := 28) d_Knowing_hearAll_25 rfl ce_Knowing_isPossible lk_Knowing_45 in_Knowing_isPossible rfl rfl hq rfl rfl (Nat.le_of_ble_eq_true rfl) (Or.inl rfl) (cm_Knowing_isPossible (d := d - 1) hw (by omega) hq h) (by omega) ?_
      rintro _ _ ⟨r2, rfl, rfl, h⟩
      show am_Wp (d, "UnseenRing$Knowing", b_Knowing_hearAll, 6, false) 0 0 28 [some (.ref q), some (.int p1), some (.int v2), some (.long v3), none, some (.int v5)] [.int (am_b r2)] (I, L, R, am_SH) (po_Knowing_hearAll I R Q)
      refine am_if_eq (y := 0) (tgt := 48) (n := 31) d_Knowing_hearAll_28 rfl rfl (fun c3 => ?_) (fun c3 => ?_)
      · have h := h.1 (am_b_0 c3)
        refine am_iinc (v := v5 + 1) (ls' := [some (.ref q), some (.int p1), some (.int v2), some (.long v3), none, some (.int (v5 + 1))]) (n := 51) d_Knowing_hearAll_48 rfl (congrArg _ ci_1) (by decide) rfl rfl ?_
        refine am_goto (tgt := 11) d_Knowing_hearAll_51 rfl ?_
        exact ih L v2 v3 (v5 + 1)  h
      · have h := h.2 (am_b_n0 c3)
        refine am_aload_n (n := 32) d_Knowing_hearAll_31 rfl rfl ?_
        refine am_iload (n := 34) d_Knowing_hearAll_32 rfl rfl ?_
        refine am_callV (kc := 0) (ks := 0) (As := [.int v5]) (n := 37) d_Knowing_hearAll_34 rfl ce_Knowing_knowersIn lk_Knowing_27 in_Knowing_knowersIn rfl rfl hq rfl rfl (Nat.le_of_ble_eq_true rfl) (Or.inl rfl) (cm_Knowing_knowersIn (d := d - 1) hw (by omega) hq h) (by omega) ?_
        rintro _ _ ⟨r3, rfl, rfl, h⟩
        show am_Wp (d, "UnseenRing$Knowing", b_Knowing_hearAll, 6, false) 0 0 37 [some (.ref q), some (.int p1), some (.int v2), some (.long v3), none, some (.int v5)] [.int r3] (I, L, R, am_SH) (po_Knowing_hearAll I R Q)
        refine am_iload_n (n := 38) d_Knowing_hearAll_37 rfl rfl ?_
        refine am_icmp_ne (tgt := 48) (n := 41) d_Knowing_hearAll_38 rfl rfl (fun c4 => ?_) (fun c4 => ?_)
        · have h := h.2 c4
          refine am_iinc (v := v5 + 1) (ls' := [some (.ref q), some (.int p1), some (.int v2), some (.long v3), none, some (.int (v5 + 1))]) (n := 51) d_Knowing_hearAll_48 rfl (congrArg _ ci_1) (by decide) rfl rfl ?_
          refine am_goto (tgt := 11) d_Knowing_hearAll_51 rfl ?_
          exact ih L v2 v3 (v5 + 1)  h
        · have h := h.1 c4
          refine am_lload_n (n := 42) d_Knowing_hearAll_41 rfl rfl ?_
          refine am_lconst (v := 1) (n := 43) d_Knowing_hearAll_42 rfl rfl ?_
          refine am_iload (n := 45) d_Knowing_hearAll_43 rfl rfl ?_
          refine am_lshl (n := 46) d_Knowing_hearAll_45 rfl ?_
          refine am_lor (n := 47) d_Knowing_hearAll_46 rfl ?_
          refine am_lstore_n (ls' := [some (.ref q), some (.int p1), some (.int v2), some (.long (v3 ||| ((1 : Int64) <<< (Int32.toInt64 v5 &&& 63)))), none, some (.int v5)]) (n := 48) d_Knowing_hearAll_47 (by decide) rfl rfl ?_
          refine am_iinc (v := v5 + 1) (ls' := [some (.ref q), some (.int p1), some (.int v2), some (.long (v3 ||| ((1 : Int64) <<< (Int32.toInt64 v5 &&& 63)))), none, some (.int (v5 + 1))]) (n := 51) d_Knowing_hearAll_48 rfl (congrArg _ ci_1) (by decide) rfl rfl ?_
          refine am_goto (tgt := 11) d_Knowing_hearAll_51 rfl ?_
          exact ih L v2 (v3 ||| ((1 : Int64) <<< (Int32.toInt64 v5 &&& 63))) (v5 + 1)  h
def wp_Knowing_hearAll (I : am_TI) (L : am_TL) (R : am_TR) (q : Nat) (p1 : Int32)  (Q : Bool → am_TL → Prop) : Prop := wp_Knowing_knowersIn I L R q p1 (fun (r1 : Int32) => (∃ z, wl_Knowing_hearAll_11 I R q p1 Q z L r1 0 1))
set_option maxRecDepth 20000 in
theorem cm_Knowing_hearAll {d : Nat} {I : am_TI} {L : am_TL} {R : am_TR}  (hw : am_Wf R)   {q : Nat} {p1 : Int32} {Q : Bool → am_TL → Prop} (hd : 3 ≤ d) (hq : am_SH[q]? = some (.inl 3)) (h : wp_Knowing_hearAll I L R q p1  Q) : am_Cm d 0 0 y_Knowing_hearAll b_Knowing_hearAll 6 (some .boolean) [.ref q, .int p1] (I, L, R, am_SH) (po_Knowing_hearAll I R Q) := by
  refine am_Cm_of (ini := false) (by decide +kernel) (fun z => by cases z) (by simp [Value.category]) (fun r σ' z => by obtain ⟨x, _, rfl, -⟩ := z; exact ⟨_, rfl, am_b_nar x⟩) ?_
  unfold wp_Knowing_hearAll at h
  show am_Wp (d, "UnseenRing$Knowing", b_Knowing_hearAll, 6, false) 0 0 0 [some (.ref q), some (.int p1), none, none, none, none] [] (I, L, R, am_SH) (po_Knowing_hearAll I R Q)
  refine am_aload_n (n := 1) d_Knowing_hearAll_0 rfl rfl ?_
  refine am_iload_n (n := 2) d_Knowing_hearAll_1 rfl rfl ?_
  refine am_callV (kc := 0) (ks := 0) (As := [.int p1]) (n := 5) d_Knowing_hearAll_2 rfl ce_Knowing_knowersIn lk_Knowing_27 in_Knowing_knowersIn rfl rfl hq rfl rfl (Nat.le_of_ble_eq_true rfl) (Or.inl rfl) (cm_Knowing_knowersIn (d := d - 1) hw (by omega) hq h) (by omega) ?_
  rintro _ _ ⟨r1, rfl, rfl, h⟩
  show am_Wp (d, "UnseenRing$Knowing", b_Knowing_hearAll, 6, false) 0 0 5 [some (.ref q), some (.int p1), none, none, none, none] [.int r1] (I, L, R, am_SH) (po_Knowing_hearAll I R Q)
  refine am_istore_n (ls' := [some (.ref q), some (.int p1), some (.int r1), none, none, none]) (n := 6) d_Knowing_hearAll_5 (by decide) rfl rfl ?_
  refine am_lconst (v := 0) (n := 7) d_Knowing_hearAll_6 rfl rfl ?_
  refine am_lstore_n (ls' := [some (.ref q), some (.int p1), some (.int r1), some (.long 0), none, none]) (n := 8) d_Knowing_hearAll_7 (by decide) rfl rfl ?_
  refine am_iconst (n := 9) d_Knowing_hearAll_8 ci_1 rfl ?_
  refine am_istore (ls' := [some (.ref q), some (.int p1), some (.int r1), some (.long 0), none, some (.int 1)]) (n := 11) d_Knowing_hearAll_9 (by decide) rfl rfl ?_
  obtain ⟨n, h⟩ := h
  exact tl_Knowing_hearAll_11 hw hq hd n L r1 0 1 h
abbrev po_Knowing_look (R : am_TR) (Q : am_TI → am_TL → Prop) : Option Value → am_St → Prop := fun r σ' => ∃ (I' : am_TI) (L' : am_TL), r = none ∧ σ' = (I', L', R, am_SH) ∧ Q I' L'
def wl_Knowing_look_54 (R : am_TR) (q : Nat) (p1 : Nat) (p2 : Int32) (Q : am_TI → am_TL → Prop)  : Nat → am_TI → am_TL → Int32 → Prop
  | 0 => fun _ _ _ => False
  | f54 + 1 => fun I L v3 => ((((1 : Int32) <<< ((I q 1) &&& 31)) ≤ v3 → Q I L) ∧ (¬ ((1 : Int32) <<< ((I q 1) &&& 31)) ≤ v3 → (∀ L2, L2 = am_u2 L q 2 ((L q 2) ||| ((1 : Int64) <<< (Int32.toInt64 v3 &&& 63))) → wl_Knowing_look_54 R q p1 p2 Q f54 I L2 (v3 + 1))))
set_option maxRecDepth 20000 in
theorem tl_Knowing_look_54 {d : Nat}  {R : am_TR} {q : Nat} {p1 : Nat} {p2 : Int32} {Q : am_TI → am_TL → Prop}  (hw : am_Wf R) (hq : am_SH[q]? = some (.inl 3)) (hp1 : am_SH[p1]? = some (.inl 7)) (hd : 3 ≤ d) : ∀ (n : Nat) (I : am_TI) (L : am_TL) (v3 : Int32), wl_Knowing_look_54 R q p1 p2 Q  n I L v3 → am_Wp (d, "UnseenRing$Knowing", b_Knowing_look, 4, false) 0 0 54 [some (.ref q), some (.ref p1), some (.int p2), some (.int v3)] [] (I, L, R, am_SH) (po_Knowing_look R Q) := by
  intro n
  induction n with
  | zero => intro I L v3 h; exact h.elim
  | succ n ih =>
    intro I L v3 h
    unfold wl_Knowing_look_54 at h
    refine am_iload_n (n := 55) d_Knowing_look_54 rfl rfl ?_
    refine am_iconst (n := 56) d_Knowing_look_55 ci_1 rfl ?_
    refine am_aload_n (n := 57) d_Knowing_look_56 rfl rfl ?_
    refine am_getI (n := 60) f_Knowing_15 d_Knowing_look_57 rfl rfl hq ?_
    refine am_ishl (n := 61) d_Knowing_look_60 rfl ?_
    refine am_icmp_ge (tgt := 82) (n := 64) d_Knowing_look_61 rfl rfl (fun c2 => ?_) (fun c2 => ?_)
    · have h := h.1 c2
      exact am_vret d_Knowing_look_82 ⟨I, L, rfl, rfl, h⟩
    · have h := h.2 c2
      refine am_aload_n (n := 65) d_Knowing_look_64 rfl rfl ?_
      refine am_dup (n := 66) d_Knowing_look_65 rfl rfl ?_
      refine am_getL (n := 69) f_Knowing_19 d_Knowing_look_66 rfl rfl hq ?_
      refine am_lconst (v := 1) (n := 70) d_Knowing_look_69 rfl rfl ?_
      refine am_iload_n (n := 71) d_Knowing_look_70 rfl rfl ?_
      refine am_lshl (n := 72) d_Knowing_look_71 rfl ?_
      refine am_lor (n := 73) d_Knowing_look_72 rfl ?_
      refine am_putL (n := 76) f_Knowing_19 d_Knowing_look_73 rfl ⟨_, rfl, Or.inl rfl⟩ rfl rfl hq ?_
      generalize eL2 : am_u2 L q 2 ((L q 2) ||| ((1 : Int64) <<< (Int32.toInt64 v3 &&& 63))) = L2
      have h := h L2 eL2.symm
      refine am_iinc (v := v3 + 1) (ls' := [some (.ref q), some (.ref p1), some (.int p2), some (.int (v3 + 1))]) (n := 79) d_Knowing_look_76 rfl (congrArg _ ci_1) (by decide) rfl rfl ?_
      refine am_goto (tgt := 54) d_Knowing_look_79 rfl ?_
      exact ih I L2 (v3 + 1)  h
def wl_Knowing_look_10 (R : am_TR) (q : Nat) (p1 : Nat) (p2 : Int32) (Q : am_TI → am_TL → Prop)  : Nat → am_TI → am_TL → Int32 → Prop
  | 0 => fun _ _ _ => False
  | f10 + 1 => fun I L v3 => (((I q 1) ≤ v3 → (∀ L1, L1 = am_u2 L q 2 0 → (∃ z, wl_Knowing_look_54 R q p1 p2 Q z I L1 1))) ∧ (¬ (I q 1) ≤ v3 → (vp_in v3 6 ∧ wp_Square_hearersNear I L R p1 (I (p1 + 2) (Int32.toNatClampNeg v3)) p2 (fun (r1 : Int32) => (vp_in v3 6 ∧ (∀ I2, I2 = am_u2 I (q + 1) (Int32.toNatClampNeg v3) (r1 &&& (((1 : Int32) <<< (v3 &&& 31)) ^^^ (-1))) → wl_Knowing_look_10 R q p1 p2 Q f10 I2 L (v3 + 1)))))))
set_option maxRecDepth 20000 in
theorem tl_Knowing_look_10 {d : Nat}  {R : am_TR} {q : Nat} {p1 : Nat} {p2 : Int32} {Q : am_TI → am_TL → Prop}  (hw : am_Wf R) (hq : am_SH[q]? = some (.inl 3)) (hp1 : am_SH[p1]? = some (.inl 7)) (hd : 3 ≤ d) : ∀ (n : Nat) (I : am_TI) (L : am_TL) (v3 : Int32), wl_Knowing_look_10 R q p1 p2 Q  n I L v3 → am_Wp (d, "UnseenRing$Knowing", b_Knowing_look, 4, false) 0 0 10 [some (.ref q), some (.ref p1), some (.int p2), some (.int v3)] [] (I, L, R, am_SH) (po_Knowing_look R Q) := by
  intro n
  induction n with
  | zero => intro I L v3 h; exact h.elim
  | succ n ih =>
    intro I L v3 h
    unfold wl_Knowing_look_10 at h
    refine am_iload_n (n := 11) d_Knowing_look_10 rfl rfl ?_
    refine am_aload_n (n := 12) d_Knowing_look_11 rfl rfl ?_
    refine am_getI (n := 15) f_Knowing_15 d_Knowing_look_12 rfl rfl hq ?_
    refine am_icmp_ge (tgt := 47) (n := 18) d_Knowing_look_15 rfl rfl (fun c1 => ?_) (fun c1 => ?_)
    · have h := h.1 c1
      refine am_aload_n (n := 48) d_Knowing_look_47 rfl rfl ?_
      refine am_lconst (v := 0) (n := 49) d_Knowing_look_48 rfl rfl ?_
      refine am_putL (n := 52) f_Knowing_19 d_Knowing_look_49 rfl ⟨_, rfl, Or.inl rfl⟩ rfl rfl hq ?_
      generalize eL1 : am_u2 L q 2 0 = L1
      have h := h L1 eL1.symm
      refine am_iconst (n := 53) d_Knowing_look_52 ci_1 rfl ?_
      refine am_istore_n (ls' := [some (.ref q), some (.ref p1), some (.int p2), some (.int 1)]) (n := 54) d_Knowing_look_53 (by decide) rfl rfl ?_
      obtain ⟨n, h⟩ := h
      exact tl_Knowing_look_54 hw hq hp1 hd n I L1 1 h
    · have h := h.2 c1
      refine am_aload_n (n := 19) d_Knowing_look_18 rfl rfl ?_
      refine am_getR (x := (q + 1)) (n := 22) f_Knowing_9 d_Knowing_look_19 rfl rfl hq (hw.1 q 3 0 1 hq rfl) ?_
      refine am_iload_n (n := 23) d_Knowing_look_22 rfl rfl ?_
      refine am_aload_n (n := 24) d_Knowing_look_23 rfl rfl ?_
      refine am_aload_n (n := 25) d_Knowing_look_24 rfl rfl ?_
      refine am_getR (x := (p1 + 2)) (n := 28) f_Knowing_38 d_Knowing_look_25 rfl rfl hp1 (hw.1 p1 7 1 2 hp1 rfl) ?_
      refine am_iload_n (n := 29) d_Knowing_look_28 rfl rfl ?_
      obtain ⟨g1, h⟩ := h
      refine am_iald2 (n := 30) d_Knowing_look_29 rfl (am_sho (k := 1) (o := 2) hp1 (by decide) (by decide) (by decide) rfl) g1 rfl ?_
      refine am_iload_n (n := 31) d_Knowing_look_30 rfl rfl ?_
      refine am_callV (kc := 0) (ks := 0) (As := [.int (I (p1 + 2) (Int32.toNatClampNeg v3)), .int p2]) (n := 34) d_Knowing_look_31 rfl ce_Square_hearersNear lk_Knowing_41 in_Square_hearersNear rfl rfl hp1 rfl rfl (Nat.le_of_ble_eq_true rfl) (Or.inl rfl) (cm_Square_hearersNear (d := d - 1) hw (by omega) hp1 h) (by omega) ?_
      rintro _ _ ⟨r1, rfl, rfl, h⟩
      show am_Wp (d, "UnseenRing$Knowing", b_Knowing_look, 4, false) 0 0 34 [some (.ref q), some (.ref p1), some (.int p2), some (.int v3)] [.int r1, .int v3, .ref (q + 1)] (I, L, R, am_SH) (po_Knowing_look R Q)
      refine am_iconst (n := 35) d_Knowing_look_34 ci_1 rfl ?_
      refine am_iload_n (n := 36) d_Knowing_look_35 rfl rfl ?_
      refine am_ishl (n := 37) d_Knowing_look_36 rfl ?_
      refine am_iconst (n := 38) d_Knowing_look_37 ci_m1 rfl ?_
      refine am_ixor (n := 39) d_Knowing_look_38 rfl ?_
      refine am_iand (n := 40) d_Knowing_look_39 rfl ?_
      obtain ⟨g2, h⟩ := h
      refine am_iast2 (n := 41) d_Knowing_look_40 rfl (am_sho (k := 0) (o := 1) hq (by decide) (by decide) (by decide) rfl) g2 rfl ?_
      generalize eI2 : am_u2 I (q + 1) (Int32.toNatClampNeg v3) (r1 &&& (((1 : Int32) <<< (v3 &&& 31)) ^^^ (-1))) = I2
      have h := h I2 eI2.symm
      refine am_iinc (v := v3 + 1) (ls' := [some (.ref q), some (.ref p1), some (.int p2), some (.int (v3 + 1))]) (n := 44) d_Knowing_look_41 rfl (congrArg _ ci_1) (by decide) rfl rfl ?_
      refine am_goto (tgt := 10) d_Knowing_look_44 rfl ?_
      exact ih I2 L (v3 + 1)  h
def wp_Knowing_look (I : am_TI) (L : am_TL) (R : am_TR) (q : Nat) (p1 : Nat) (p2 : Int32)  (Q : am_TI → am_TL → Prop) : Prop := (∀ I1, I1 = am_u2 I q 1 (I p1 11) → (∃ z, wl_Knowing_look_10 R q p1 p2 Q z I1 L 0))
set_option maxRecDepth 20000 in
theorem cm_Knowing_look {d : Nat} {I : am_TI} {L : am_TL} {R : am_TR}  (hw : am_Wf R)   {q : Nat} {p1 : Nat} {p2 : Int32} {Q : am_TI → am_TL → Prop} (hd : 3 ≤ d) (hq : am_SH[q]? = some (.inl 3)) (hp1 : am_SH[p1]? = some (.inl 7)) (h : wp_Knowing_look I L R q p1 p2  Q) : am_Cm d 0 0 y_Knowing_look b_Knowing_look 4 (none) [.ref q, .ref p1, .int p2] (I, L, R, am_SH) (po_Knowing_look R Q) := by
  refine am_Cm_of (ini := false) (by decide +kernel) (fun z => by cases z) (by simp [Value.category]) (fun r σ' z => by obtain ⟨_, _, rfl, -⟩ := z; rfl) ?_
  unfold wp_Knowing_look at h
  show am_Wp (d, "UnseenRing$Knowing", b_Knowing_look, 4, false) 0 0 0 [some (.ref q), some (.ref p1), some (.int p2), none] [] (I, L, R, am_SH) (po_Knowing_look R Q)
  refine am_aload_n (n := 1) d_Knowing_look_0 rfl rfl ?_
  refine am_aload_n (n := 2) d_Knowing_look_1 rfl rfl ?_
  refine am_getI (n := 5) f_Knowing_35 d_Knowing_look_2 rfl rfl hp1 ?_
  refine am_putI (n := 8) f_Knowing_15 d_Knowing_look_5 rfl ⟨_, rfl, Or.inl rfl⟩ rfl rfl hq ?_
  generalize eI1 : am_u2 I q 1 (I p1 11) = I1
  have h := h I1 eI1.symm
  refine am_iconst (n := 9) d_Knowing_look_8 ci_0 rfl ?_
  refine am_istore_n (ls' := [some (.ref q), some (.ref p1), some (.int p2), some (.int 0)]) (n := 10) d_Knowing_look_9 (by decide) rfl rfl ?_
  obtain ⟨n, h⟩ := h
  exact tl_Knowing_look_10 hw hq hp1 hd n I1 L 0 h
abbrev po_Knowing_firstRound (R : am_TR) (Q : Int32 → am_TI → am_TL → Prop) : Option Value → am_St → Prop := fun r σ' => ∃ (x : Int32) (I' : am_TI) (L' : am_TL), r = some (.int x) ∧ σ' = (I', L', R, am_SH) ∧ Q x I' L'
def wl_Knowing_firstRound_9 (R : am_TR) (q : Nat) (p1 : Nat) (p2 : Int32) (p3 : Int32) (Q : Int32 → am_TI → am_TL → Prop)  : Nat → am_TI → am_TL → Int32 → Prop
  | 0 => fun _ _ _ => False
  | f9 + 1 => fun I L v4 => ((64 < v4 → Q (-1) I L) ∧ (¬ 64 < v4 → wp_Knowing_knowersIn I L R q p2 (fun (r1 : Int32) => ((r1 = 0 → wp_Knowing_hearAll I L R q p2 (fun (r2 : Bool) (L2 : am_TL) => ((r2 = false → Q (-1) I L2) ∧ (r2 = true → wl_Knowing_firstRound_9 R q p1 p2 p3 Q f9 I L2 (v4 + 1))))) ∧ (¬ r1 = 0 → Q v4 I L)))))
set_option maxRecDepth 20000 in
theorem tl_Knowing_firstRound_9 {d : Nat}  {R : am_TR} {q : Nat} {p1 : Nat} {p2 : Int32} {p3 : Int32} {Q : Int32 → am_TI → am_TL → Prop}  (hw : am_Wf R) (hq : am_SH[q]? = some (.inl 3)) (hp1 : am_SH[p1]? = some (.inl 7)) (hd : 4 ≤ d) : ∀ (n : Nat) (I : am_TI) (L : am_TL) (v4 : Int32), wl_Knowing_firstRound_9 R q p1 p2 p3 Q  n I L v4 → am_Wp (d, "UnseenRing$Knowing", b_Knowing_firstRound, 5, false) 0 0 9 [some (.ref q), some (.ref p1), some (.int p2), some (.int p3), some (.int v4)] [] (I, L, R, am_SH) (po_Knowing_firstRound R Q) := by
  intro n
  induction n with
  | zero => intro I L v4 h; exact h.elim
  | succ n ih =>
    intro I L v4 h
    unfold wl_Knowing_firstRound_9 at h
    refine am_iload (n := 11) d_Knowing_firstRound_9 rfl rfl ?_
    refine am_bipush (n := 13) d_Knowing_firstRound_11 cb_64 rfl ?_
    refine am_icmp_gt (tgt := 43) (n := 16) d_Knowing_firstRound_13 rfl rfl (fun c1 => ?_) (fun c1 => ?_)
    · have h := h.1 c1
      refine am_iconst (n := 44) d_Knowing_firstRound_43 ci_m1 rfl ?_
      exact am_iret d_Knowing_firstRound_44 ⟨(-1), I, L, rfl, rfl, h⟩
    · have h := h.2 c1
      refine am_aload_n (n := 17) d_Knowing_firstRound_16 rfl rfl ?_
      refine am_iload_n (n := 18) d_Knowing_firstRound_17 rfl rfl ?_
      refine am_callV (kc := 0) (ks := 0) (As := [.int p2]) (n := 21) d_Knowing_firstRound_18 rfl ce_Knowing_knowersIn lk_Knowing_27 in_Knowing_knowersIn rfl rfl hq rfl rfl (Nat.le_of_ble_eq_true rfl) (Or.inl rfl) (cm_Knowing_knowersIn (d := d - 1) hw (by omega) hq h) (by omega) ?_
      rintro _ _ ⟨r1, rfl, rfl, h⟩
      show am_Wp (d, "UnseenRing$Knowing", b_Knowing_firstRound, 5, false) 0 0 21 [some (.ref q), some (.ref p1), some (.int p2), some (.int p3), some (.int v4)] [.int r1] (I, L, R, am_SH) (po_Knowing_firstRound R Q)
      refine am_if_eq (y := 0) (tgt := 27) (n := 24) d_Knowing_firstRound_21 rfl rfl (fun c2 => ?_) (fun c2 => ?_)
      · have h := h.1 c2
        refine am_aload_n (n := 28) d_Knowing_firstRound_27 rfl rfl ?_
        refine am_iload_n (n := 29) d_Knowing_firstRound_28 rfl rfl ?_
        refine am_callV (kc := 0) (ks := 0) (As := [.int p2]) (n := 32) d_Knowing_firstRound_29 rfl ce_Knowing_hearAll lk_Knowing_31 in_Knowing_hearAll rfl rfl hq rfl rfl (Nat.le_of_ble_eq_true rfl) (Or.inl rfl) (cm_Knowing_hearAll (d := d - 1) hw (by omega) hq h) (by omega) ?_
        rintro _ _ ⟨r2, L2, rfl, rfl, h⟩
        show am_Wp (d, "UnseenRing$Knowing", b_Knowing_firstRound, 5, false) 0 0 32 [some (.ref q), some (.ref p1), some (.int p2), some (.int p3), some (.int v4)] [.int (am_b r2)] (I, L2, R, am_SH) (po_Knowing_firstRound R Q)
        refine am_if_ne (y := 0) (tgt := 37) (n := 35) d_Knowing_firstRound_32 rfl rfl (fun c3 => ?_) (fun c3 => ?_)
        · have h := h.2 (am_b_n0 c3)
          refine am_iinc (v := v4 + 1) (ls' := [some (.ref q), some (.ref p1), some (.int p2), some (.int p3), some (.int (v4 + 1))]) (n := 40) d_Knowing_firstRound_37 rfl (congrArg _ ci_1) (by decide) rfl rfl ?_
          refine am_goto (tgt := 9) d_Knowing_firstRound_40 rfl ?_
          exact ih I L2 (v4 + 1)  h
        · have h := h.1 (am_b_0 c3)
          refine am_iconst (n := 36) d_Knowing_firstRound_35 ci_m1 rfl ?_
          exact am_iret d_Knowing_firstRound_36 ⟨(-1), I, L2, rfl, rfl, h⟩
      · have h := h.2 c2
        refine am_iload (n := 26) d_Knowing_firstRound_24 rfl rfl ?_
        exact am_iret d_Knowing_firstRound_26 ⟨v4, I, L, rfl, rfl, h⟩
def wp_Knowing_firstRound (I : am_TI) (L : am_TL) (R : am_TR) (q : Nat) (p1 : Nat) (p2 : Int32) (p3 : Int32)  (Q : Int32 → am_TI → am_TL → Prop) : Prop := wp_Knowing_look I L R q p1 p3 (fun (I1 : am_TI) (L1 : am_TL) => (∃ z, wl_Knowing_firstRound_9 R q p1 p2 p3 Q z I1 L1 1))
set_option maxRecDepth 20000 in
theorem cm_Knowing_firstRound {d : Nat} {I : am_TI} {L : am_TL} {R : am_TR}  (hw : am_Wf R)   {q : Nat} {p1 : Nat} {p2 : Int32} {p3 : Int32} {Q : Int32 → am_TI → am_TL → Prop} (hd : 4 ≤ d) (hq : am_SH[q]? = some (.inl 3)) (hp1 : am_SH[p1]? = some (.inl 7)) (h : wp_Knowing_firstRound I L R q p1 p2 p3  Q) : am_Cm d 0 0 y_Knowing_firstRound b_Knowing_firstRound 5 (some .int) [.ref q, .ref p1, .int p2, .int p3] (I, L, R, am_SH) (po_Knowing_firstRound R Q) := by
  refine am_Cm_of (ini := false) (by decide +kernel) (fun z => by cases z) (by simp [Value.category]) (fun r σ' z => by obtain ⟨x, _, _, rfl, -⟩ := z; exact ⟨_, rfl, rfl⟩) ?_
  unfold wp_Knowing_firstRound at h
  show am_Wp (d, "UnseenRing$Knowing", b_Knowing_firstRound, 5, false) 0 0 0 [some (.ref q), some (.ref p1), some (.int p2), some (.int p3), none] [] (I, L, R, am_SH) (po_Knowing_firstRound R Q)
  refine am_aload_n (n := 1) d_Knowing_firstRound_0 rfl rfl ?_
  refine am_aload_n (n := 2) d_Knowing_firstRound_1 rfl rfl ?_
  refine am_iload_n (n := 3) d_Knowing_firstRound_2 rfl rfl ?_
  refine am_callV (kc := 0) (ks := 0) (As := [.ref p1, .int p3]) (n := 6) d_Knowing_firstRound_3 rfl ce_Knowing_look lk_Knowing_23 in_Knowing_look rfl rfl hq rfl rfl (Nat.le_of_ble_eq_true rfl) (Or.inl rfl) (cm_Knowing_look (d := d - 1) hw (by omega) hq hp1 h) (by omega) ?_
  rintro _ _ ⟨I1, L1, rfl, rfl, h⟩
  show am_Wp (d, "UnseenRing$Knowing", b_Knowing_firstRound, 5, false) 0 0 6 [some (.ref q), some (.ref p1), some (.int p2), some (.int p3), none] [] (I1, L1, R, am_SH) (po_Knowing_firstRound R Q)
  refine am_iconst (n := 7) d_Knowing_firstRound_6 ci_1 rfl ?_
  refine am_istore (ls' := [some (.ref q), some (.ref p1), some (.int p2), some (.int p3), some (.int 1)]) (n := 9) d_Knowing_firstRound_7 (by decide) rfl rfl ?_
  obtain ⟨n, h⟩ := h
  exact tl_Knowing_firstRound_9 hw hq hp1 hd n I1 L1 1 h
abbrev po_U_isKnowing (I : am_TI) (L : am_TL) (R : am_TR) (Q : Bool → Prop) : Option Value → am_St → Prop := fun r σ' => ∃ (x : Bool), r = some (.int (am_b x)) ∧ σ' = (I, L, R, am_SH) ∧ Q x
def wp_U_isKnowing (I : am_TI) (L : am_TL) (R : am_TR) (q : Nat) (p1 : Int32) (p2 : Int32)  (Q : Bool → Prop) : Prop := wp_U_isSet I L R p1 (I (am_rd R q 11) 11) (fun (r1 : Bool) => ((r1 = false → Q false) ∧ (r1 = true → ((p1 = 0 → Q false) ∧ (¬ p1 = 0 → wp_U_within I L R p2 0 8 (fun (r2 : Bool) => ((r2 = false → Q false) ∧ (r2 = true → Q true))))))))
set_option maxRecDepth 20000 in
theorem cm_U_isKnowing {d : Nat} {I : am_TI} {L : am_TL} {R : am_TR}  (hw : am_Wf R)   {q : Nat} {p1 : Int32} {p2 : Int32} {Q : Bool → Prop} (hd : 2 ≤ d) (hq : am_SH[q]? = some (.inl 11)) (h : wp_U_isKnowing I L R q p1 p2  Q) : am_Cm d 0 0 y_U_isKnowing b_U_isKnowing 3 (some .boolean) [.ref q, .int p1, .int p2] (I, L, R, am_SH) (po_U_isKnowing I L R Q) := by
  refine am_Cm_of (ini := false) (by decide +kernel) (fun z => by cases z) (by simp [Value.category]) (fun r σ' z => by obtain ⟨x, rfl, -⟩ := z; exact ⟨_, rfl, am_b_nar x⟩) ?_
  unfold wp_U_isKnowing at h
  show am_Wp (d, "UnseenRing", b_U_isKnowing, 3, false) 0 0 0 [some (.ref q), some (.int p1), some (.int p2)] [] (I, L, R, am_SH) (po_U_isKnowing I L R Q)
  refine am_iload_n (n := 1) d_U_isKnowing_0 rfl rfl ?_
  refine am_aload_n (n := 2) d_U_isKnowing_1 rfl rfl ?_
  refine am_getR (x := (am_rd R q 11)) (n := 5) f_U_81 d_U_isKnowing_2 rfl rfl hq (hw.rd (k := 11) hq rfl).1 ?_
  refine am_getI (n := 8) f_U_181 d_U_isKnowing_5 rfl rfl (hw.rd (k := 11) hq rfl).2 ?_
  refine am_callS (kc := 0) (ks := 0) (As := [.int p1, .int (I (am_rd R q 11) 11)]) (n := 11) d_U_isKnowing_8 rfl ce_U_isSet lk_U_307 st_U_isSet rfl rfl (Nat.le_of_ble_eq_true rfl) (Or.inl rfl) (cm_U_isSet (d := d - 1) hw (by omega)  h) (by omega) ?_
  rintro _ _ ⟨r1, rfl, rfl, h⟩
  show am_Wp (d, "UnseenRing", b_U_isKnowing, 3, false) 0 0 11 [some (.ref q), some (.int p1), some (.int p2)] [.int (am_b r1)] (I, L, R, am_SH) (po_U_isKnowing I L R Q)
  refine am_if_eq (y := 0) (tgt := 32) (n := 14) d_U_isKnowing_11 rfl rfl (fun c1 => ?_) (fun c1 => ?_)
  · have h := h.1 (am_b_0 c1)
    refine am_iconst (n := 33) d_U_isKnowing_32 ci_0 rfl ?_
    exact am_iret d_U_isKnowing_33 ⟨false, rfl, rfl, h⟩
  · have h := h.2 (am_b_n0 c1)
    refine am_iload_n (n := 15) d_U_isKnowing_14 rfl rfl ?_
    refine am_if_eq (y := 0) (tgt := 32) (n := 18) d_U_isKnowing_15 rfl rfl (fun c2 => ?_) (fun c2 => ?_)
    · have h := h.1 c2
      refine am_iconst (n := 33) d_U_isKnowing_32 ci_0 rfl ?_
      exact am_iret d_U_isKnowing_33 ⟨false, rfl, rfl, h⟩
    · have h := h.2 c2
      refine am_iload_n (n := 19) d_U_isKnowing_18 rfl rfl ?_
      refine am_iconst (n := 20) d_U_isKnowing_19 ci_0 rfl ?_
      refine am_bipush (n := 22) d_U_isKnowing_20 cb_8 rfl ?_
      refine am_callS (kc := 0) (ks := 0) (As := [.int p2, .int 0, .int 8]) (n := 25) d_U_isKnowing_22 rfl ce_U_within lk_U_114 st_U_within rfl rfl (Nat.le_of_ble_eq_true rfl) (Or.inl rfl) (cm_U_within (d := d - 1) hw (by omega)  h) (by omega) ?_
      rintro _ _ ⟨r2, rfl, rfl, h⟩
      show am_Wp (d, "UnseenRing", b_U_isKnowing, 3, false) 0 0 25 [some (.ref q), some (.int p1), some (.int p2)] [.int (am_b r2)] (I, L, R, am_SH) (po_U_isKnowing I L R Q)
      refine am_if_eq (y := 0) (tgt := 32) (n := 28) d_U_isKnowing_25 rfl rfl (fun c3 => ?_) (fun c3 => ?_)
      · have h := h.1 (am_b_0 c3)
        refine am_iconst (n := 33) d_U_isKnowing_32 ci_0 rfl ?_
        exact am_iret d_U_isKnowing_33 ⟨false, rfl, rfl, h⟩
      · have h := h.2 (am_b_n0 c3)
        refine am_iconst (n := 29) d_U_isKnowing_28 ci_1 rfl ?_
        refine am_goto (tgt := 33) d_U_isKnowing_29 rfl ?_
        exact am_iret d_U_isKnowing_33 ⟨true, rfl, rfl, h⟩
abbrev po_U_rounds (R : am_TR) (Q : Int32 → am_TI → am_TL → Prop) : Option Value → am_St → Prop := fun r σ' => ∃ (x : Int32) (I' : am_TI) (L' : am_TL), r = some (.int x) ∧ σ' = (I', L', R, am_SH) ∧ Q x I' L'
def wp_U_rounds (I : am_TI) (L : am_TL) (R : am_TR) (q : Nat) (p1 : Int32) (p2 : Int32)  (Q : Int32 → am_TI → am_TL → Prop) : Prop := wp_U_isKnowing I L R q p1 p2 (fun (r1 : Bool) => ((r1 = false → wp_U_refused I L R q 1 (fun (r4 : Int32) (I3 : am_TI) => Q r4 I3 L)) ∧ (r1 = true → wp_Knowing_firstRound I L R (q + 27) (am_rd R q 11) p1 p2 (fun (r2 : Int32) (I1 : am_TI) (L1 : am_TL) => wp_U_answeredIfThereIs I1 L1 R q r2 (fun (r3 : Int32) (I2 : am_TI) => Q r3 I2 L1)))))
set_option maxRecDepth 20000 in
theorem cm_U_rounds {d : Nat} {I : am_TI} {L : am_TL} {R : am_TR}  (hw : am_Wf R)   {q : Nat} {p1 : Int32} {p2 : Int32} {Q : Int32 → am_TI → am_TL → Prop} (hd : 5 ≤ d) (hq : am_SH[q]? = some (.inl 11)) (h : wp_U_rounds I L R q p1 p2  Q) : am_Cm d 0 0 y_U_rounds b_U_rounds 3 (some .int) [.ref q, .int p1, .int p2] (I, L, R, am_SH) (po_U_rounds R Q) := by
  refine am_Cm_of (ini := false) (by decide +kernel) (fun z => by cases z) (by simp [Value.category]) (fun r σ' z => by obtain ⟨x, _, _, rfl, -⟩ := z; exact ⟨_, rfl, rfl⟩) ?_
  unfold wp_U_rounds at h
  show am_Wp (d, "UnseenRing", b_U_rounds, 3, false) 0 0 0 [some (.ref q), some (.int p1), some (.int p2)] [] (I, L, R, am_SH) (po_U_rounds R Q)
  refine am_aload_n (n := 1) d_U_rounds_0 rfl rfl ?_
  refine am_iload_n (n := 2) d_U_rounds_1 rfl rfl ?_
  refine am_iload_n (n := 3) d_U_rounds_2 rfl rfl ?_
  refine am_callV (kc := 0) (ks := 0) (As := [.int p1, .int p2]) (n := 6) d_U_rounds_3 rfl ce_U_isKnowing lk_U_364 in_U_isKnowing rfl rfl hq rfl rfl (Nat.le_of_ble_eq_true rfl) (Or.inl rfl) (cm_U_isKnowing (d := d - 1) hw (by omega) hq h) (by omega) ?_
  rintro _ _ ⟨r1, rfl, rfl, h⟩
  show am_Wp (d, "UnseenRing", b_U_rounds, 3, false) 0 0 6 [some (.ref q), some (.int p1), some (.int p2)] [.int (am_b r1)] (I, L, R, am_SH) (po_U_rounds R Q)
  refine am_if_ne (y := 0) (tgt := 15) (n := 9) d_U_rounds_6 rfl rfl (fun c1 => ?_) (fun c1 => ?_)
  · have h := h.2 (am_b_n0 c1)
    refine am_aload_n (n := 16) d_U_rounds_15 rfl rfl ?_
    refine am_aload_n (n := 17) d_U_rounds_16 rfl rfl ?_
    refine am_getR (x := (q + 27)) (n := 20) f_U_76 d_U_rounds_17 rfl rfl hq (hw.1 q 11 10 27 hq rfl) ?_
    refine am_aload_n (n := 21) d_U_rounds_20 rfl rfl ?_
    refine am_getR (x := (am_rd R q 11)) (n := 24) f_U_81 d_U_rounds_21 rfl rfl hq (hw.rd (k := 11) hq rfl).1 ?_
    refine am_iload_n (n := 25) d_U_rounds_24 rfl rfl ?_
    refine am_iload_n (n := 26) d_U_rounds_25 rfl rfl ?_
    refine am_callV (kc := 0) (ks := 0) (As := [.ref (am_rd R q 11), .int p1, .int p2]) (n := 29) d_U_rounds_26 rfl ce_Knowing_firstRound lk_U_367 in_Knowing_firstRound rfl rfl (am_sho (k := 10) (o := 27) hq (by decide) (by decide) (by decide) rfl) rfl rfl (Nat.le_of_ble_eq_true rfl) (Or.inl rfl) (cm_Knowing_firstRound (d := d - 1) hw (by omega) (am_sho (k := 10) (o := 27) hq (by decide) (by decide) (by decide) rfl) (hw.rd (k := 11) hq rfl).2 h) (by omega) ?_
    rintro _ _ ⟨r2, I1, L1, rfl, rfl, h⟩
    show am_Wp (d, "UnseenRing", b_U_rounds, 3, false) 0 0 29 [some (.ref q), some (.int p1), some (.int p2)] [.int r2, .ref q] (I1, L1, R, am_SH) (po_U_rounds R Q)
    refine am_callV (kc := 0) (ks := 0) (As := [.int r2]) (n := 32) d_U_rounds_29 rfl ce_U_answeredIfThereIs lk_U_301 in_U_answeredIfThereIs rfl rfl hq rfl rfl (Nat.le_of_ble_eq_true rfl) (Or.inl rfl) (cm_U_answeredIfThereIs (d := d - 1) hw (by omega) hq h) (by omega) ?_
    rintro _ _ ⟨r3, I2, rfl, rfl, h⟩
    show am_Wp (d, "UnseenRing", b_U_rounds, 3, false) 0 0 32 [some (.ref q), some (.int p1), some (.int p2)] [.int r3] (I2, L1, R, am_SH) (po_U_rounds R Q)
    exact am_iret d_U_rounds_32 ⟨r3, I2, L1, rfl, rfl, h⟩
  · have h := h.1 (am_b_0 c1)
    refine am_aload_n (n := 10) d_U_rounds_9 rfl rfl ?_
    refine am_iconst (n := 11) d_U_rounds_10 ci_1 rfl ?_
    refine am_callV (kc := 0) (ks := 0) (As := [.int 1]) (n := 14) d_U_rounds_11 rfl ce_U_refused lk_U_133 in_U_refused rfl rfl hq rfl rfl (Nat.le_of_ble_eq_true rfl) (Or.inl rfl) (cm_U_refused (d := d - 1) hw (by omega) hq h) (by omega) ?_
    rintro _ _ ⟨r4, I3, rfl, rfl, h⟩
    show am_Wp (d, "UnseenRing", b_U_rounds, 3, false) 0 0 14 [some (.ref q), some (.int p1), some (.int p2)] [.int r4] (I3, L, R, am_SH) (po_U_rounds R Q)
    exact am_iret d_U_rounds_14 ⟨r4, I3, L, rfl, rfl, h⟩
abbrev po_Knowing_knowersOf (R : am_TR) (Q : Int32 → am_TI → am_TL → Prop) : Option Value → am_St → Prop := fun r σ' => ∃ (x : Int32) (I' : am_TI) (L' : am_TL), r = some (.int x) ∧ σ' = (I', L', R, am_SH) ∧ Q x I' L'
def wb_Knowing_knowersOf_37 (R : am_TR) (q : Nat) (p1 : Nat) (p2 : Int32) (p3 : Int32) (p4 : Int32) (Q : Int32 → am_TI → am_TL → Prop)  (I : am_TI) (L : am_TL) : Prop := wp_Knowing_knowersIn I L R q p2 (fun (r1 : Int32) => Q r1 I L)
set_option maxRecDepth 20000 in
theorem tb_Knowing_knowersOf_37 {d : Nat}  {R : am_TR} {q : Nat} {p1 : Nat} {p2 : Int32} {p3 : Int32} {p4 : Int32} {Q : Int32 → am_TI → am_TL → Prop}  (hw : am_Wf R) (hq : am_SH[q]? = some (.inl 3)) (hp1 : am_SH[p1]? = some (.inl 7)) (hd : 4 ≤ d) (I : am_TI) (L : am_TL) (h : wb_Knowing_knowersOf_37 R q p1 p2 p3 p4 Q  I L) : am_Wp (d, "UnseenRing$Knowing", b_Knowing_knowersOf, 7, false) 0 0 37 [some (.ref q), some (.ref p1), some (.int p2), some (.int p3), some (.int p4), none, none] [] (I, L, R, am_SH) (po_Knowing_knowersOf R Q) := by
  unfold wb_Knowing_knowersOf_37 at h
  refine am_aload_n (n := 38) d_Knowing_knowersOf_37 rfl rfl ?_
  refine am_iload_n (n := 39) d_Knowing_knowersOf_38 rfl rfl ?_
  refine am_callV (kc := 0) (ks := 0) (As := [.int p2]) (n := 42) d_Knowing_knowersOf_39 rfl ce_Knowing_knowersIn lk_Knowing_27 in_Knowing_knowersIn rfl rfl hq rfl rfl (Nat.le_of_ble_eq_true rfl) (Or.inl rfl) (cm_Knowing_knowersIn (d := d - 1) hw (by omega) hq h) (by omega) ?_
  rintro _ _ ⟨r1, rfl, rfl, h⟩
  show am_Wp (d, "UnseenRing$Knowing", b_Knowing_knowersOf, 7, false) 0 0 42 [some (.ref q), some (.ref p1), some (.int p2), some (.int p3), some (.int p4), none, none] [.int r1] (I, L, R, am_SH) (po_Knowing_knowersOf R Q)
  exact am_iret d_Knowing_knowersOf_42 ⟨r1, I, L, rfl, rfl, h⟩
def wl_Knowing_knowersOf_12 (R : am_TR) (q : Nat) (p1 : Nat) (p2 : Int32) (p3 : Int32) (p4 : Int32) (Q : Int32 → am_TI → am_TL → Prop)  : Nat → am_TI → am_TL → Bool → Int32 → Prop
  | 0 => fun _ _ _ _ => False
  | f12 + 1 => fun I L v5 v6 => ((p4 ≤ v6 → wb_Knowing_knowersOf_37 R q p1 p2 p3 p4 Q I L) ∧ (¬ p4 ≤ v6 → ((v5 = false → wb_Knowing_knowersOf_37 R q p1 p2 p3 p4 Q I L) ∧ (v5 = true → wp_Knowing_hearAll I L R q p2 (fun (r2 : Bool) (L2 : am_TL) => wl_Knowing_knowersOf_12 R q p1 p2 p3 p4 Q f12 I L2 r2 (v6 + 1))))))
set_option maxRecDepth 20000 in
theorem tl_Knowing_knowersOf_12 {d : Nat}  {R : am_TR} {q : Nat} {p1 : Nat} {p2 : Int32} {p3 : Int32} {p4 : Int32} {Q : Int32 → am_TI → am_TL → Prop}  (hw : am_Wf R) (hq : am_SH[q]? = some (.inl 3)) (hp1 : am_SH[p1]? = some (.inl 7)) (hd : 4 ≤ d) : ∀ (n : Nat) (I : am_TI) (L : am_TL) (v5 : Bool) (v6 : Int32), wl_Knowing_knowersOf_12 R q p1 p2 p3 p4 Q  n I L v5 v6 → am_Wp (d, "UnseenRing$Knowing", b_Knowing_knowersOf, 7, false) 0 0 12 [some (.ref q), some (.ref p1), some (.int p2), some (.int p3), some (.int p4), some (.int (am_b v5)), some (.int v6)] [] (I, L, R, am_SH) (po_Knowing_knowersOf R Q) := by
  intro n
  induction n with
  | zero => intro I L v5 v6 h; exact h.elim
  | succ n ih =>
    intro I L v5 v6 h
    unfold wl_Knowing_knowersOf_12 at h
    refine am_iload (n := 14) d_Knowing_knowersOf_12 rfl rfl ?_
    refine am_iload (n := 16) d_Knowing_knowersOf_14 rfl rfl ?_
    refine am_icmp_ge (tgt := 37) (n := 19) d_Knowing_knowersOf_16 rfl rfl (fun c1 => ?_) (fun c1 => ?_)
    · have h := h.1 c1
      refine am_forget (ls' := [some (.ref q), some (.ref p1), some (.int p2), some (.int p3), some (.int p4), none, none]) (am_le_s (am_le_s (am_le_s (am_le_s (am_le_s (am_le_n (am_le_n am_le_e))))))) ?_
      exact tb_Knowing_knowersOf_37 hw hq hp1 hd I L h
    · have h := h.2 c1
      refine am_iload (n := 21) d_Knowing_knowersOf_19 rfl rfl ?_
      refine am_if_eq (y := 0) (tgt := 37) (n := 24) d_Knowing_knowersOf_21 rfl rfl (fun c2 => ?_) (fun c2 => ?_)
      · have h := h.1 (am_b_0 c2)
        refine am_forget (ls' := [some (.ref q), some (.ref p1), some (.int p2), some (.int p3), some (.int p4), none, none]) (am_le_s (am_le_s (am_le_s (am_le_s (am_le_s (am_le_n (am_le_n am_le_e))))))) ?_
        exact tb_Knowing_knowersOf_37 hw hq hp1 hd I L h
      · have h := h.2 (am_b_n0 c2)
        refine am_aload_n (n := 25) d_Knowing_knowersOf_24 rfl rfl ?_
        refine am_iload_n (n := 26) d_Knowing_knowersOf_25 rfl rfl ?_
        refine am_callV (kc := 0) (ks := 0) (As := [.int p2]) (n := 29) d_Knowing_knowersOf_26 rfl ce_Knowing_hearAll lk_Knowing_31 in_Knowing_hearAll rfl rfl hq rfl rfl (Nat.le_of_ble_eq_true rfl) (Or.inl rfl) (cm_Knowing_hearAll (d := d - 1) hw (by omega) hq h) (by omega) ?_
        rintro _ _ ⟨r2, L2, rfl, rfl, h⟩
        show am_Wp (d, "UnseenRing$Knowing", b_Knowing_knowersOf, 7, false) 0 0 29 [some (.ref q), some (.ref p1), some (.int p2), some (.int p3), some (.int p4), some (.int (am_b v5)), some (.int v6)] [.int (am_b r2)] (I, L2, R, am_SH) (po_Knowing_knowersOf R Q)
        refine am_istore (ls' := [some (.ref q), some (.ref p1), some (.int p2), some (.int p3), some (.int p4), some (.int (am_b r2)), some (.int v6)]) (n := 31) d_Knowing_knowersOf_29 (by decide) rfl rfl ?_
        refine am_iinc (v := v6 + 1) (ls' := [some (.ref q), some (.ref p1), some (.int p2), some (.int p3), some (.int p4), some (.int (am_b r2)), some (.int (v6 + 1))]) (n := 34) d_Knowing_knowersOf_31 rfl (congrArg _ ci_1) (by decide) rfl rfl ?_
        refine am_goto (tgt := 12) d_Knowing_knowersOf_34 rfl ?_
        exact ih I L2 r2 (v6 + 1)  h
def wp_Knowing_knowersOf (I : am_TI) (L : am_TL) (R : am_TR) (q : Nat) (p1 : Nat) (p2 : Int32) (p3 : Int32) (p4 : Int32)  (Q : Int32 → am_TI → am_TL → Prop) : Prop := wp_Knowing_look I L R q p1 p3 (fun (I1 : am_TI) (L1 : am_TL) => (∃ z, wl_Knowing_knowersOf_12 R q p1 p2 p3 p4 Q z I1 L1 true 1))
set_option maxRecDepth 20000 in
theorem cm_Knowing_knowersOf {d : Nat} {I : am_TI} {L : am_TL} {R : am_TR}  (hw : am_Wf R)   {q : Nat} {p1 : Nat} {p2 : Int32} {p3 : Int32} {p4 : Int32} {Q : Int32 → am_TI → am_TL → Prop} (hd : 4 ≤ d) (hq : am_SH[q]? = some (.inl 3)) (hp1 : am_SH[p1]? = some (.inl 7)) (h : wp_Knowing_knowersOf I L R q p1 p2 p3 p4  Q) : am_Cm d 0 0 y_Knowing_knowersOf b_Knowing_knowersOf 7 (some .int) [.ref q, .ref p1, .int p2, .int p3, .int p4] (I, L, R, am_SH) (po_Knowing_knowersOf R Q) := by
  refine am_Cm_of (ini := false) (by decide +kernel) (fun z => by cases z) (by simp [Value.category]) (fun r σ' z => by obtain ⟨x, _, _, rfl, -⟩ := z; exact ⟨_, rfl, rfl⟩) ?_
  unfold wp_Knowing_knowersOf at h
  show am_Wp (d, "UnseenRing$Knowing", b_Knowing_knowersOf, 7, false) 0 0 0 [some (.ref q), some (.ref p1), some (.int p2), some (.int p3), some (.int p4), none, none] [] (I, L, R, am_SH) (po_Knowing_knowersOf R Q)
  refine am_aload_n (n := 1) d_Knowing_knowersOf_0 rfl rfl ?_
  refine am_aload_n (n := 2) d_Knowing_knowersOf_1 rfl rfl ?_
  refine am_iload_n (n := 3) d_Knowing_knowersOf_2 rfl rfl ?_
  refine am_callV (kc := 0) (ks := 0) (As := [.ref p1, .int p3]) (n := 6) d_Knowing_knowersOf_3 rfl ce_Knowing_look lk_Knowing_23 in_Knowing_look rfl rfl hq rfl rfl (Nat.le_of_ble_eq_true rfl) (Or.inl rfl) (cm_Knowing_look (d := d - 1) hw (by omega) hq hp1 h) (by omega) ?_
  rintro _ _ ⟨I1, L1, rfl, rfl, h⟩
  show am_Wp (d, "UnseenRing$Knowing", b_Knowing_knowersOf, 7, false) 0 0 6 [some (.ref q), some (.ref p1), some (.int p2), some (.int p3), some (.int p4), none, none] [] (I1, L1, R, am_SH) (po_Knowing_knowersOf R Q)
  refine am_iconst (n := 7) d_Knowing_knowersOf_6 ci_1 rfl ?_
  refine am_istore (ls' := [some (.ref q), some (.ref p1), some (.int p2), some (.int p3), some (.int p4), some (.int 1), none]) (n := 9) d_Knowing_knowersOf_7 (by decide) rfl rfl ?_
  refine am_iconst (n := 10) d_Knowing_knowersOf_9 ci_1 rfl ?_
  refine am_istore (ls' := [some (.ref q), some (.ref p1), some (.int p2), some (.int p3), some (.int p4), some (.int 1), some (.int 1)]) (n := 12) d_Knowing_knowersOf_10 (by decide) rfl rfl ?_
  obtain ⟨n, h⟩ := h
  exact tl_Knowing_knowersOf_12 hw hq hp1 hd n I1 L1 true 1 h
abbrev po_U_knowers (R : am_TR) (Q : Int32 → am_TI → am_TL → Prop) : Option Value → am_St → Prop := fun r σ' => ∃ (x : Int32) (I' : am_TI) (L' : am_TL), r = some (.int x) ∧ σ' = (I', L', R, am_SH) ∧ Q x I' L'
def wb_U_knowers_19 (R : am_TR) (q : Nat) (p1 : Int32) (p2 : Int32) (p3 : Int32) (Q : Int32 → am_TI → am_TL → Prop)  (I : am_TI) (L : am_TL) : Prop := wp_U_refused I L R q 1 (fun (r2 : Int32) (I1 : am_TI) => Q r2 I1 L)
set_option maxRecDepth 20000 in
theorem tb_U_knowers_19 {d : Nat}  {R : am_TR} {q : Nat} {p1 : Int32} {p2 : Int32} {p3 : Int32} {Q : Int32 → am_TI → am_TL → Prop}  (hw : am_Wf R) (hq : am_SH[q]? = some (.inl 11)) (hd : 5 ≤ d) (I : am_TI) (L : am_TL) (h : wb_U_knowers_19 R q p1 p2 p3 Q  I L) : am_Wp (d, "UnseenRing", b_U_knowers, 4, false) 0 0 19 [some (.ref q), some (.int p1), some (.int p2), some (.int p3)] [] (I, L, R, am_SH) (po_U_knowers R Q) := by
  unfold wb_U_knowers_19 at h
  refine am_aload_n (n := 20) d_U_knowers_19 rfl rfl ?_
  refine am_iconst (n := 21) d_U_knowers_20 ci_1 rfl ?_
  refine am_callV (kc := 0) (ks := 0) (As := [.int 1]) (n := 24) d_U_knowers_21 rfl ce_U_refused lk_U_133 in_U_refused rfl rfl hq rfl rfl (Nat.le_of_ble_eq_true rfl) (Or.inl rfl) (cm_U_refused (d := d - 1) hw (by omega) hq h) (by omega) ?_
  rintro _ _ ⟨r2, I1, rfl, rfl, h⟩
  show am_Wp (d, "UnseenRing", b_U_knowers, 4, false) 0 0 24 [some (.ref q), some (.int p1), some (.int p2), some (.int p3)] [.int r2] (I1, L, R, am_SH) (po_U_knowers R Q)
  exact am_iret d_U_knowers_24 ⟨r2, I1, L, rfl, rfl, h⟩
def wp_U_knowers (I : am_TI) (L : am_TL) (R : am_TR) (q : Nat) (p1 : Int32) (p2 : Int32) (p3 : Int32)  (Q : Int32 → am_TI → am_TL → Prop) : Prop := wp_U_isKnowing I L R q p1 p2 (fun (r1 : Bool) => ((r1 = false → wb_U_knowers_19 R q p1 p2 p3 Q I L) ∧ (r1 = true → wp_U_within I L R p3 1 8 (fun (r3 : Bool) => ((r3 = false → wb_U_knowers_19 R q p1 p2 p3 Q I L) ∧ (r3 = true → wp_Knowing_knowersOf I L R (q + 27) (am_rd R q 11) p1 p2 p3 (fun (r4 : Int32) (I2 : am_TI) (L1 : am_TL) => wp_U_answered I2 L1 R q r4 (fun (r5 : Int32) (I3 : am_TI) => Q r5 I3 L1))))))))
set_option maxRecDepth 20000 in
theorem cm_U_knowers {d : Nat} {I : am_TI} {L : am_TL} {R : am_TR}  (hw : am_Wf R)   {q : Nat} {p1 : Int32} {p2 : Int32} {p3 : Int32} {Q : Int32 → am_TI → am_TL → Prop} (hd : 5 ≤ d) (hq : am_SH[q]? = some (.inl 11)) (h : wp_U_knowers I L R q p1 p2 p3  Q) : am_Cm d 0 0 y_U_knowers b_U_knowers 4 (some .int) [.ref q, .int p1, .int p2, .int p3] (I, L, R, am_SH) (po_U_knowers R Q) := by
  refine am_Cm_of (ini := false) (by decide +kernel) (fun z => by cases z) (by simp [Value.category]) (fun r σ' z => by obtain ⟨x, _, _, rfl, -⟩ := z; exact ⟨_, rfl, rfl⟩) ?_
  unfold wp_U_knowers at h
  show am_Wp (d, "UnseenRing", b_U_knowers, 4, false) 0 0 0 [some (.ref q), some (.int p1), some (.int p2), some (.int p3)] [] (I, L, R, am_SH) (po_U_knowers R Q)
  refine am_aload_n (n := 1) d_U_knowers_0 rfl rfl ?_
  refine am_iload_n (n := 2) d_U_knowers_1 rfl rfl ?_
  refine am_iload_n (n := 3) d_U_knowers_2 rfl rfl ?_
  refine am_callV (kc := 0) (ks := 0) (As := [.int p1, .int p2]) (n := 6) d_U_knowers_3 rfl ce_U_isKnowing lk_U_364 in_U_isKnowing rfl rfl hq rfl rfl (Nat.le_of_ble_eq_true rfl) (Or.inl rfl) (cm_U_isKnowing (d := d - 1) hw (by omega) hq h) (by omega) ?_
  rintro _ _ ⟨r1, rfl, rfl, h⟩
  show am_Wp (d, "UnseenRing", b_U_knowers, 4, false) 0 0 6 [some (.ref q), some (.int p1), some (.int p2), some (.int p3)] [.int (am_b r1)] (I, L, R, am_SH) (po_U_knowers R Q)
  refine am_if_eq (y := 0) (tgt := 19) (n := 9) d_U_knowers_6 rfl rfl (fun c1 => ?_) (fun c1 => ?_)
  · have h := h.1 (am_b_0 c1)
    exact tb_U_knowers_19 hw hq hd I L h
  · have h := h.2 (am_b_n0 c1)
    refine am_iload_n (n := 10) d_U_knowers_9 rfl rfl ?_
    refine am_iconst (n := 11) d_U_knowers_10 ci_1 rfl ?_
    refine am_bipush (n := 13) d_U_knowers_11 cb_8 rfl ?_
    refine am_callS (kc := 0) (ks := 0) (As := [.int p3, .int 1, .int 8]) (n := 16) d_U_knowers_13 rfl ce_U_within lk_U_114 st_U_within rfl rfl (Nat.le_of_ble_eq_true rfl) (Or.inl rfl) (cm_U_within (d := d - 1) hw (by omega)  h) (by omega) ?_
    rintro _ _ ⟨r3, rfl, rfl, h⟩
    show am_Wp (d, "UnseenRing", b_U_knowers, 4, false) 0 0 16 [some (.ref q), some (.int p1), some (.int p2), some (.int p3)] [.int (am_b r3)] (I, L, R, am_SH) (po_U_knowers R Q)
    refine am_if_ne (y := 0) (tgt := 25) (n := 19) d_U_knowers_16 rfl rfl (fun c2 => ?_) (fun c2 => ?_)
    · have h := h.2 (am_b_n0 c2)
      refine am_aload_n (n := 26) d_U_knowers_25 rfl rfl ?_
      refine am_aload_n (n := 27) d_U_knowers_26 rfl rfl ?_
      refine am_getR (x := (q + 27)) (n := 30) f_U_76 d_U_knowers_27 rfl rfl hq (hw.1 q 11 10 27 hq rfl) ?_
      refine am_aload_n (n := 31) d_U_knowers_30 rfl rfl ?_
      refine am_getR (x := (am_rd R q 11)) (n := 34) f_U_81 d_U_knowers_31 rfl rfl hq (hw.rd (k := 11) hq rfl).1 ?_
      refine am_iload_n (n := 35) d_U_knowers_34 rfl rfl ?_
      refine am_iload_n (n := 36) d_U_knowers_35 rfl rfl ?_
      refine am_iload_n (n := 37) d_U_knowers_36 rfl rfl ?_
      refine am_callV (kc := 0) (ks := 0) (As := [.ref (am_rd R q 11), .int p1, .int p2, .int p3]) (n := 40) d_U_knowers_37 rfl ce_Knowing_knowersOf lk_U_370 in_Knowing_knowersOf rfl rfl (am_sho (k := 10) (o := 27) hq (by decide) (by decide) (by decide) rfl) rfl rfl (Nat.le_of_ble_eq_true rfl) (Or.inl rfl) (cm_Knowing_knowersOf (d := d - 1) hw (by omega) (am_sho (k := 10) (o := 27) hq (by decide) (by decide) (by decide) rfl) (hw.rd (k := 11) hq rfl).2 h) (by omega) ?_
      rintro _ _ ⟨r4, I2, L1, rfl, rfl, h⟩
      show am_Wp (d, "UnseenRing", b_U_knowers, 4, false) 0 0 40 [some (.ref q), some (.int p1), some (.int p2), some (.int p3)] [.int r4, .ref q] (I2, L1, R, am_SH) (po_U_knowers R Q)
      refine am_callV (kc := 0) (ks := 0) (As := [.int r4]) (n := 43) d_U_knowers_40 rfl ce_U_answered lk_U_184 in_U_answered rfl rfl hq rfl rfl (Nat.le_of_ble_eq_true rfl) (Or.inl rfl) (cm_U_answered (d := d - 1) hw (by omega) hq h) (by omega) ?_
      rintro _ _ ⟨r5, I3, rfl, rfl, h⟩
      show am_Wp (d, "UnseenRing", b_U_knowers, 4, false) 0 0 43 [some (.ref q), some (.int p1), some (.int p2), some (.int p3)] [.int r5] (I3, L1, R, am_SH) (po_U_knowers R Q)
      exact am_iret d_U_knowers_43 ⟨r5, I3, L1, rfl, rfl, h⟩
    · have h := h.1 (am_b_0 c2)
      exact tb_U_knowers_19 hw hq hd I L h
abbrev po_Rows_setUp (L : am_TL) (Q : am_TI → am_TR → Prop) : Option Value → am_St → Prop := fun r σ' => ∃ (I' : am_TI) (R' : am_TR), r = none ∧ σ' = (I', L, R', am_SH) ∧ am_Wf R' ∧ Q I' R'
def wl_Rows_setUp_23 (L : am_TL) (q : Nat) (p1 : Nat) (Q : am_TI → am_TR → Prop)  : Nat → am_TI → am_TR → Int32 → Prop
  | 0 => fun _ _ _ => False
  | f23 + 1 => fun I R v2 => (((I p1 11) ≤ v2 → Q I R) ∧ (¬ (I p1 11) ≤ v2 → wp_Square_farFromOrgan I L R p1 v2 (fun (r1 : Int32) => (vp_in v2 6 ∧ (∀ I3, I3 = am_u2 I (q + 2) (Int32.toNatClampNeg v2) r1 → wl_Rows_setUp_23 L q p1 Q f23 I3 R (v2 + 1))))))
set_option maxRecDepth 20000 in
theorem tl_Rows_setUp_23 {d : Nat}  {L : am_TL} {q : Nat} {p1 : Nat} {Q : am_TI → am_TR → Prop}  (hq : am_SH[q]? = some (.inl 6)) (hp1 : am_SH[p1]? = some (.inl 7)) (hd : 3 ≤ d) : ∀ (n : Nat) (I : am_TI) (R : am_TR) (v2 : Int32) (hw : am_Wf R), wl_Rows_setUp_23 L q p1 Q  n I R v2 → am_Wp (d, "UnseenRing$Rows", b_Rows_setUp, 3, false) 0 0 23 [some (.ref q), some (.ref p1), some (.int v2)] [] (I, L, R, am_SH) (po_Rows_setUp L Q) := by
  intro n
  induction n with
  | zero => intro I R v2 hw h; exact h.elim
  | succ n ih =>
    intro I R v2 hw h
    unfold wl_Rows_setUp_23 at h
    refine am_iload_n (n := 24) d_Rows_setUp_23 rfl rfl ?_
    refine am_aload_n (n := 25) d_Rows_setUp_24 rfl rfl ?_
    refine am_getI (n := 28) f_Rows_41 d_Rows_setUp_25 rfl rfl hp1 ?_
    refine am_icmp_ge (tgt := 48) (n := 31) d_Rows_setUp_28 rfl rfl (fun c1 => ?_) (fun c1 => ?_)
    · have h := h.1 c1
      exact am_vret d_Rows_setUp_48 ⟨I, R, rfl, rfl, hw, h⟩
    · have h := h.2 c1
      refine am_aload_n (n := 32) d_Rows_setUp_31 rfl rfl ?_
      refine am_getR (x := (q + 2)) (n := 35) f_Rows_15 d_Rows_setUp_32 rfl rfl hq (hw.1 q 6 1 2 hq rfl) ?_
      refine am_iload_n (n := 36) d_Rows_setUp_35 rfl rfl ?_
      refine am_aload_n (n := 37) d_Rows_setUp_36 rfl rfl ?_
      refine am_iload_n (n := 38) d_Rows_setUp_37 rfl rfl ?_
      refine am_callV (kc := 0) (ks := 0) (As := [.int v2]) (n := 41) d_Rows_setUp_38 rfl ce_Square_farFromOrgan lk_Rows_44 in_Square_farFromOrgan rfl rfl hp1 rfl rfl (Nat.le_of_ble_eq_true rfl) (Or.inl rfl) (cm_Square_farFromOrgan (d := d - 1) hw (by omega) hp1 h) (by omega) ?_
      rintro _ _ ⟨r1, rfl, rfl, h⟩
      show am_Wp (d, "UnseenRing$Rows", b_Rows_setUp, 3, false) 0 0 41 [some (.ref q), some (.ref p1), some (.int v2)] [.int r1, .int v2, .ref (q + 2)] (I, L, R, am_SH) (po_Rows_setUp L Q)
      obtain ⟨g1, h⟩ := h
      refine am_iast2 (n := 42) d_Rows_setUp_41 rfl (am_sho (k := 1) (o := 2) hq (by decide) (by decide) (by decide) rfl) g1 rfl ?_
      generalize eI3 : am_u2 I (q + 2) (Int32.toNatClampNeg v2) r1 = I3
      have h := h I3 eI3.symm
      refine am_iinc (v := v2 + 1) (ls' := [some (.ref q), some (.ref p1), some (.int (v2 + 1))]) (n := 45) d_Rows_setUp_42 rfl (congrArg _ ci_1) (by decide) rfl rfl ?_
      refine am_goto (tgt := 23) d_Rows_setUp_45 rfl ?_
      exact ih I3 R (v2 + 1) hw h
def wp_Rows_setUp (I : am_TI) (L : am_TL) (R : am_TR) (q : Nat) (p1 : Nat)  (Q : am_TI → am_TR → Prop) : Prop := (∀ R1, R1 = am_u2 R q 4 (some p1) → (∀ I1, I1 = am_u2 I q 5 (I p1 10) → wp_Arrays_fillI I1 L R1 (q + 4) 6 0 (fun (I2 : am_TI) => (∃ z, wl_Rows_setUp_23 L q p1 Q z I2 R1 0))))
set_option maxRecDepth 20000 in
theorem cm_Rows_setUp {d : Nat} {I : am_TI} {L : am_TL} {R : am_TR}  (hw : am_Wf R)   {q : Nat} {p1 : Nat} {Q : am_TI → am_TR → Prop} (hd : 3 ≤ d) (hq : am_SH[q]? = some (.inl 6)) (hp1 : am_SH[p1]? = some (.inl 7)) (h : wp_Rows_setUp I L R q p1  Q) : am_Cm d 0 0 y_Rows_setUp b_Rows_setUp 3 (none) [.ref q, .ref p1] (I, L, R, am_SH) (po_Rows_setUp L Q) := by
  refine am_Cm_of (ini := false) (by decide +kernel) (fun z => by cases z) (by simp [Value.category]) (fun r σ' z => by obtain ⟨_, _, rfl, -⟩ := z; rfl) ?_
  unfold wp_Rows_setUp at h
  show am_Wp (d, "UnseenRing$Rows", b_Rows_setUp, 3, false) 0 0 0 [some (.ref q), some (.ref p1), none] [] (I, L, R, am_SH) (po_Rows_setUp L Q)
  refine am_aload_n (n := 1) d_Rows_setUp_0 rfl rfl ?_
  refine am_aload_n (n := 2) d_Rows_setUp_1 rfl rfl ?_
  refine am_putR (n := 5) f_Rows_24 d_Rows_setUp_2 rfl ⟨_, rfl, Or.inl rfl⟩ rfl rfl hq ?_
  generalize eR1 : am_u2 R q 4 (some p1) = R1
  have h := h R1 eR1.symm
  have hw1 : am_Wf R1 := by rw [← eR1]; exact hw.putFree _ hq rfl rfl
  refine am_aload_n (n := 6) d_Rows_setUp_5 rfl rfl ?_
  refine am_aload_n (n := 7) d_Rows_setUp_6 rfl rfl ?_
  refine am_getI (n := 10) f_Rows_38 d_Rows_setUp_7 rfl rfl hp1 ?_
  refine am_putI (n := 13) f_Rows_28 d_Rows_setUp_10 rfl ⟨_, rfl, Or.inl rfl⟩ rfl rfl hq ?_
  generalize eI1 : am_u2 I q 5 (I p1 10) = I1
  have h := h I1 eI1.symm
  refine am_aload_n (n := 14) d_Rows_setUp_13 rfl rfl ?_
  refine am_getR (x := (q + 4)) (n := 17) f_Rows_21 d_Rows_setUp_14 rfl rfl hq (hw1.1 q 6 3 4 hq rfl) ?_
  refine am_iconst (n := 18) d_Rows_setUp_17 ci_0 rfl ?_
  refine am_callS (kc := 0) (ks := 0) (As := [.ref (q + 4), .int 0]) (n := 21) d_Rows_setUp_18 rfl ce_Arrays_fillI lk_Rows_32 st_Arrays_fillI rfl rfl (Nat.le_of_ble_eq_true rfl) (Or.inl rfl) (cm_Arrays_fillI (d := d - 1) hw1 (by omega) (am_sho (k := 3) (o := 4) hq (by decide) (by decide) (by decide) rfl) h) (by omega) ?_
  rintro _ _ ⟨I2, rfl, rfl, h⟩
  show am_Wp (d, "UnseenRing$Rows", b_Rows_setUp, 3, false) 0 0 21 [some (.ref q), some (.ref p1), none] [] (I2, L, R1, am_SH) (po_Rows_setUp L Q)
  refine am_iconst (n := 22) d_Rows_setUp_21 ci_0 rfl ?_
  refine am_istore_n (ls' := [some (.ref q), some (.ref p1), some (.int 0)]) (n := 23) d_Rows_setUp_22 (by decide) rfl rfl ?_
  obtain ⟨n, h⟩ := h
  exact tl_Rows_setUp_23 hq hp1 hd n I2 R1 0 hw1 h
