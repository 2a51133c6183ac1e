abbrev po_U_aim (L : am_TL) (R : am_TR) (Q : Int32 → am_TI → Prop) : Option Value → am_St → Prop := fun r σ' => ∃ (x : Int32) (I' : am_TI), r = some (.int x) ∧ σ' = (I', L, R, am_SH) ∧ Q x I'
def wp_U_aim (I : am_TI) (L : am_TL) (R : am_TR) (q : Nat) (p1 : Int32) (p2 : Int32)  (Q : Int32 → am_TI → Prop) : Prop := wp_U_isPlacing I L R q p1 p2 (fun (r1 : Bool) => ((r1 = false → wp_U_refused I L R q 1 (fun (r4 : Int32) (I3 : am_TI) => Q r4 I3)) ∧ (r1 = true → wp_Placings_look I L R (q + 21) (am_rd R q 11) (fun (I1 : am_TI) => wp_Placings_cellThatHitsMost I1 L R (q + 21) (am_rd R q 11) p1 p2 (fun (r2 : Int32) => wp_U_answeredIfThereIs I1 L R q r2 (fun (r3 : Int32) (I2 : am_TI) => Q r3 I2))))))
set_option maxRecDepth 20000 in
theorem cm_U_aim {d : Nat} {I : am_TI} {L : am_TL} {R : am_TR}  (hw : am_Wf R)   {q : Nat} {p1 : Int32} {p2 : Int32} {Q : Int32 → am_TI → Prop} (hd : 5 ≤ d) (hq : am_SH[q]? = some (.inl 11)) (h : wp_U_aim I L R q p1 p2  Q) : am_Cm d 0 0 y_U_aim b_U_aim 3 (some .int) [.ref q, .int p1, .int p2] (I, L, R, am_SH) (po_U_aim L R Q) := by
  refine am_Cm_of (ini := false) (by decide +kernel) (fun z => by cases z) (by simp [Value.category]) (fun r σ' z => by obtain ⟨x, _, rfl, -⟩ := z; exact ⟨_, rfl, rfl⟩) ?_
  unfold wp_U_aim at h
  show am_Wp (d, "UnseenRing", b_U_aim, 3, false) 0 0 0 [some (.ref q), some (.int p1), some (.int p2)] [] (I, L, R, am_SH) (po_U_aim L R Q)
  refine am_aload_n (n := 1) d_U_aim_0 rfl rfl ?_
  refine am_iload_n (n := 2) d_U_aim_1 rfl rfl ?_
  refine am_iload_n (n := 3) d_U_aim_2 rfl rfl ?_
  refine am_callV (kc := 0) (ks := 0) (As := [.int p1, .int p2]) (n := 6) d_U_aim_3 rfl ce_U_isPlacing lk_U_325 in_U_isPlacing rfl rfl hq rfl rfl (Nat.le_of_ble_eq_true rfl) (Or.inl rfl) (cm_U_isPlacing (d := d - 1) hw (by omega) hq h) (by omega) ?_
  rintro _ _ ⟨r1, rfl, rfl, h⟩
  show am_Wp (d, "UnseenRing", b_U_aim, 3, false) 0 0 6 [some (.ref q), some (.int p1), some (.int p2)] [.int (am_b r1)] (I, L, R, am_SH) (po_U_aim L R Q)
  refine am_if_ne (y := 0) (tgt := 15) (n := 9) d_U_aim_6 rfl rfl (fun c1 => ?_) (fun c1 => ?_)
  · have h := h.2 (am_b_n0 c1)
    refine am_aload_n (n := 16) d_U_aim_15 rfl rfl ?_
    refine am_getR (x := (q + 21)) (n := 19) f_U_62 d_U_aim_16 rfl rfl hq (hw.1 q 11 8 21 hq rfl) ?_
    refine am_aload_n (n := 20) d_U_aim_19 rfl rfl ?_
    refine am_getR (x := (am_rd R q 11)) (n := 23) f_U_81 d_U_aim_20 rfl rfl hq (hw.rd (k := 11) hq rfl).1 ?_
    refine am_callV (kc := 0) (ks := 0) (As := [.ref (am_rd R q 11)]) (n := 26) d_U_aim_23 rfl ce_Placings_look lk_U_318 in_Placings_look rfl rfl (am_sho (k := 8) (o := 21) hq (by decide) (by decide) (by decide) rfl) rfl rfl (Nat.le_of_ble_eq_true rfl) (Or.inl rfl) (cm_Placings_look (d := d - 1) hw (by omega) (am_sho (k := 8) (o := 21) hq (by decide) (by decide) (by decide) rfl) (hw.rd (k := 11) hq rfl).2 h) (by omega) ?_
    rintro _ _ ⟨I1, rfl, rfl, h⟩
    show am_Wp (d, "UnseenRing", b_U_aim, 3, false) 0 0 26 [some (.ref q), some (.int p1), some (.int p2)] [] (I1, L, R, am_SH) (po_U_aim L R Q)
    refine am_aload_n (n := 27) d_U_aim_26 rfl rfl ?_
    refine am_aload_n (n := 28) d_U_aim_27 rfl rfl ?_
    refine am_getR (x := (q + 21)) (n := 31) f_U_62 d_U_aim_28 rfl rfl hq (hw.1 q 11 8 21 hq rfl) ?_
    refine am_aload_n (n := 32) d_U_aim_31 rfl rfl ?_
    refine am_getR (x := (am_rd R q 11)) (n := 35) f_U_81 d_U_aim_32 rfl rfl hq (hw.rd (k := 11) hq rfl).1 ?_
    refine am_iload_n (n := 36) d_U_aim_35 rfl rfl ?_
    refine am_iload_n (n := 37) d_U_aim_36 rfl rfl ?_
    refine am_callV (kc := 0) (ks := 0) (As := [.ref (am_rd R q 11), .int p1, .int p2]) (n := 40) d_U_aim_37 rfl ce_Placings_cellThatHitsMost lk_U_335 in_Placings_cellThatHitsMost rfl rfl (am_sho (k := 8) (o := 21) hq (by decide) (by decide) (by decide) rfl) rfl rfl (Nat.le_of_ble_eq_true rfl) (Or.inl rfl) (cm_Placings_cellThatHitsMost (d := d - 1) hw (by omega) (am_sho (k := 8) (o := 21) hq (by decide) (by decide) (by decide) rfl) (hw.rd (k := 11) hq rfl).2 h) (by omega) ?_
    rintro _ _ ⟨r2, rfl, rfl, h⟩
    show am_Wp (d, "UnseenRing", b_U_aim, 3, false) 0 0 40 [some (.ref q), some (.int p1), some (.int p2)] [.int r2, .ref q] (I1, L, R, am_SH) (po_U_aim L R Q)
    refine am_callV (kc := 0) (ks := 0) (As := [.int r2]) (n := 43) d_U_aim_40 rfl ce_U_answeredIfThereIs lk_U_301 in_U_answeredIfThereIs rfl rfl hq rfl rfl (Nat.le_of_ble_eq_true rfl) (Or.inl rfl) (cm_U_answeredIfThereIs (d := d - 1) hw (by omega) hq h) (by omega) ?_
    rintro _ _ ⟨r3, I2, rfl, rfl, h⟩
    show am_Wp (d, "UnseenRing", b_U_aim, 3, false) 0 0 43 [some (.ref q), some (.int p1), some (.int p2)] [.int r3] (I2, L, R, am_SH) (po_U_aim L R Q)
    exact am_iret d_U_aim_43 ⟨r3, I2, rfl, rfl, h⟩
  · have h := h.1 (am_b_0 c1)
    refine am_aload_n (n := 10) d_U_aim_9 rfl rfl ?_
    refine am_iconst (n := 11) d_U_aim_10 ci_1 rfl ?_
    refine am_callV (kc := 0) (ks := 0) (As := [.int 1]) (n := 14) d_U_aim_11 rfl ce_U_refused lk_U_133 in_U_refused rfl rfl hq rfl rfl (Nat.le_of_ble_eq_true rfl) (Or.inl rfl) (cm_U_refused (d := d - 1) hw (by omega) hq h) (by omega) ?_
    rintro _ _ ⟨r4, I3, rfl, rfl, h⟩
    show am_Wp (d, "UnseenRing", b_U_aim, 3, false) 0 0 14 [some (.ref q), some (.int p1), some (.int p2)] [.int r4] (I3, L, R, am_SH) (po_U_aim L R Q)
    exact am_iret d_U_aim_14 ⟨r4, I3, rfl, rfl, h⟩
abbrev po_Covering_fewestThrows (I : am_TI) (L : am_TL) (R : am_TR) (Q : Int32 → Prop) : Option Value → am_St → Prop := fun r σ' => ∃ (x : Int32), r = some (.int x) ∧ σ' = (I, L, R, am_SH) ∧ Q x
def wp_Covering_fewestThrows (I : am_TI) (L : am_TL) (R : am_TR) (q : Nat)  (Q : Int32 → Prop) : Prop := (vp_in (I q 3) 256 ∧ Q (I (q + 2) (Int32.toNatClampNeg (I q 3))))
set_option maxRecDepth 20000 in
theorem cm_Covering_fewestThrows {d : Nat} {I : am_TI} {L : am_TL} {R : am_TR}  (hw : am_Wf R)   {q : Nat} {Q : Int32 → Prop} (hd : 0 ≤ d) (hq : am_SH[q]? = some (.inl 0)) (h : wp_Covering_fewestThrows I L R q  Q) : am_Cm d 0 0 y_Covering_fewestThrows b_Covering_fewestThrows 1 (some .int) [.ref q] (I, L, R, am_SH) (po_Covering_fewestThrows I L R Q) := by
  refine am_Cm_of (ini := false) (by decide +kernel) (fun z => by cases z) (by simp [Value.category]) (fun r σ' z => by obtain ⟨x, rfl, -⟩ := z; exact ⟨_, rfl, rfl⟩) ?_
  unfold wp_Covering_fewestThrows at h
  show am_Wp (d, "UnseenRing$Covering", b_Covering_fewestThrows, 1, false) 0 0 0 [some (.ref q)] [] (I, L, R, am_SH) (po_Covering_fewestThrows I L R Q)
  refine am_aload_n (n := 1) d_Covering_fewestThrows_0 rfl rfl ?_
  refine am_getR (x := (q + 2)) (n := 4) f_Covering_15 d_Covering_fewestThrows_1 rfl rfl hq (hw.1 q 0 1 2 hq rfl) ?_
  refine am_aload_n (n := 5) d_Covering_fewestThrows_4 rfl rfl ?_
  refine am_getI (n := 8) f_Covering_22 d_Covering_fewestThrows_5 rfl rfl hq ?_
  obtain ⟨g1, h⟩ := h
  refine am_iald2 (n := 9) d_Covering_fewestThrows_8 rfl (am_sho (k := 1) (o := 2) hq (by decide) (by decide) (by decide) rfl) g1 rfl ?_
  exact am_iret d_Covering_fewestThrows_9 ⟨(I (q + 2) (Int32.toNatClampNeg (I q 3))), rfl, rfl, h⟩
abbrev po_Covering_fewestFor (I : am_TI) (L : am_TL) (R : am_TR) (Q : Int32 → Prop) : Option Value → am_St → Prop := fun r σ' => ∃ (x : Int32), r = some (.int x) ∧ σ' = (I, L, R, am_SH) ∧ Q x
def wl_Covering_fewestFor_12 (I : am_TI) (L : am_TL) (R : am_TR) (q : Nat) (p1 : Int32) (Q : Int32 → Prop)  : Nat → Int32 → Int32 → Int32 → Prop
  | 0 => fun _ _ _ => False
  | f12 + 1 => fun v2 v3 v4 => (((I q 2) ≤ v4 → Q v3) ∧ (¬ (I q 2) ≤ v4 → (vp_in v4 25 ∧ ((((I (q + 1) (Int32.toNatClampNeg v4)) &&& v2) = 0 → wl_Covering_fewestFor_12 I L R q p1 Q f12 v2 v3 (v4 + 1)) ∧ (¬ ((I (q + 1) (Int32.toNatClampNeg v4)) &&& v2) = 0 → (vp_in v4 25 ∧ (vp_in (p1 &&& ((I (q + 1) (Int32.toNatClampNeg v4)) ^^^ (-1))) 256 ∧ wl_Covering_fewestFor_12 I L R q p1 Q f12 v2 (am_min v3 ((I (q + 2) (Int32.toNatClampNeg (p1 &&& ((I (q + 1) (Int32.toNatClampNeg v4)) ^^^ (-1))))) + 1)) (v4 + 1))))))))
set_option maxRecDepth 20000 in
theorem tl_Covering_fewestFor_12 {d : Nat}  {I : am_TI} {L : am_TL} {R : am_TR} {q : Nat} {p1 : Int32} {Q : Int32 → Prop}  (hw : am_Wf R) (hq : am_SH[q]? = some (.inl 0)) (hd : 1 ≤ d) : ∀ (n : Nat) (v2 : Int32) (v3 : Int32) (v4 : Int32), wl_Covering_fewestFor_12 I L R q p1 Q  n v2 v3 v4 → am_Wp (d, "UnseenRing$Covering", b_Covering_fewestFor, 5, false) 0 0 12 [some (.ref q), some (.int p1), some (.int v2), some (.int v3), some (.int v4)] [] (I, L, R, am_SH) (po_Covering_fewestFor I L R Q) := by
  intro n
  induction n with
  | zero => intro v2 v3 v4 h; exact h.elim
  | succ n ih =>
    intro v2 v3 v4 h
    unfold wl_Covering_fewestFor_12 at h
    refine am_iload (n := 14) d_Covering_fewestFor_12 rfl rfl ?_
    refine am_aload_n (n := 15) d_Covering_fewestFor_14 rfl rfl ?_
    refine am_getI (n := 18) f_Covering_18 d_Covering_fewestFor_15 rfl rfl hq ?_
    refine am_icmp_ge (tgt := 62) (n := 21) d_Covering_fewestFor_18 rfl rfl (fun c1 => ?_) (fun c1 => ?_)
    · have h := h.1 c1
      refine am_iload_n (n := 63) d_Covering_fewestFor_62 rfl rfl ?_
      exact am_iret d_Covering_fewestFor_63 ⟨v3, rfl, rfl, h⟩
    · have h := h.2 c1
      refine am_aload_n (n := 22) d_Covering_fewestFor_21 rfl rfl ?_
      refine am_getR (x := (q + 1)) (n := 25) f_Covering_9 d_Covering_fewestFor_22 rfl rfl hq (hw.1 q 0 0 1 hq rfl) ?_
      refine am_iload (n := 27) d_Covering_fewestFor_25 rfl rfl ?_
      obtain ⟨g1, h⟩ := h
      refine am_iald2 (n := 28) d_Covering_fewestFor_27 rfl (am_sho (k := 0) (o := 1) hq (by decide) (by decide) (by decide) rfl) g1 rfl ?_
      refine am_iload_n (n := 29) d_Covering_fewestFor_28 rfl rfl ?_
      refine am_iand (n := 30) d_Covering_fewestFor_29 rfl ?_
      refine am_if_eq (y := 0) (tgt := 56) (n := 33) d_Covering_fewestFor_30 rfl rfl (fun c2 => ?_) (fun c2 => ?_)
      · have h := h.1 c2
        refine am_iinc (v := v4 + 1) (ls' := [some (.ref q), some (.int p1), some (.int v2), some (.int v3), some (.int (v4 + 1))]) (n := 59) d_Covering_fewestFor_56 rfl (congrArg _ ci_1) (by decide) rfl rfl ?_
        refine am_goto (tgt := 12) d_Covering_fewestFor_59 rfl ?_
        exact ih v2 v3 (v4 + 1)  h
      · have h := h.2 c2
        refine am_iload_n (n := 34) d_Covering_fewestFor_33 rfl rfl ?_
        refine am_aload_n (n := 35) d_Covering_fewestFor_34 rfl rfl ?_
        refine am_getR (x := (q + 2)) (n := 38) f_Covering_15 d_Covering_fewestFor_35 rfl rfl hq (hw.1 q 0 1 2 hq rfl) ?_
        refine am_iload_n (n := 39) d_Covering_fewestFor_38 rfl rfl ?_
        refine am_aload_n (n := 40) d_Covering_fewestFor_39 rfl rfl ?_
        refine am_getR (x := (q + 1)) (n := 43) f_Covering_9 d_Covering_fewestFor_40 rfl rfl hq (hw.1 q 0 0 1 hq rfl) ?_
        refine am_iload (n := 45) d_Covering_fewestFor_43 rfl rfl ?_
        obtain ⟨g2, h⟩ := h
        refine am_iald2 (n := 46) d_Covering_fewestFor_45 rfl (am_sho (k := 0) (o := 1) hq (by decide) (by decide) (by decide) rfl) g2 rfl ?_
        refine am_iconst (n := 47) d_Covering_fewestFor_46 ci_m1 rfl ?_
        refine am_ixor (n := 48) d_Covering_fewestFor_47 rfl ?_
        refine am_iand (n := 49) d_Covering_fewestFor_48 rfl ?_
        obtain ⟨g3, h⟩ := h
        refine am_iald2 (n := 50) d_Covering_fewestFor_49 rfl (am_sho (k := 1) (o := 2) hq (by decide) (by decide) (by decide) rfl) g3 rfl ?_
        refine am_iconst (n := 51) d_Covering_fewestFor_50 ci_1 rfl ?_
        refine am_iadd (n := 52) d_Covering_fewestFor_51 rfl ?_
        refine am_mmin2 (n := 55) d_Covering_fewestFor_52 rfl lm_Covering_30 (Nat.le_of_ble_eq_true rfl) (by omega) ?_
        refine am_istore_n (ls' := [some (.ref q), some (.int p1), some (.int v2), some (.int (am_min v3 ((I (q + 2) (Int32.toNatClampNeg (p1 &&& ((I (q + 1) (Int32.toNatClampNeg v4)) ^^^ (-1))))) + 1))), some (.int v4)]) (n := 56) d_Covering_fewestFor_55 (by decide) rfl rfl ?_
        refine am_iinc (v := v4 + 1) (ls' := [some (.ref q), some (.int p1), some (.int v2), some (.int (am_min v3 ((I (q + 2) (Int32.toNatClampNeg (p1 &&& ((I (q + 1) (Int32.toNatClampNeg v4)) ^^^ (-1))))) + 1))), some (.int (v4 + 1))]) (n := 59) d_Covering_fewestFor_56 rfl (congrArg _ ci_1) (by decide) rfl rfl ?_
        refine am_goto (tgt := 12) d_Covering_fewestFor_59 rfl ?_
        exact ih v2 (am_min v3 ((I (q + 2) (Int32.toNatClampNeg (p1 &&& ((I (q + 1) (Int32.toNatClampNeg v4)) ^^^ (-1))))) + 1)) (v4 + 1)  h
def wp_Covering_fewestFor (I : am_TI) (L : am_TL) (R : am_TR) (q : Nat) (p1 : Int32)  (Q : Int32 → Prop) : Prop := (∃ z, wl_Covering_fewestFor_12 I L R q p1 Q z (p1 &&& (-p1)) 1000 0)
set_option maxRecDepth 20000 in
theorem cm_Covering_fewestFor {d : Nat} {I : am_TI} {L : am_TL} {R : am_TR}  (hw : am_Wf R)   {q : Nat} {p1 : Int32} {Q : Int32 → Prop} (hd : 1 ≤ d) (hq : am_SH[q]? = some (.inl 0)) (h : wp_Covering_fewestFor I L R q p1  Q) : am_Cm d 0 0 y_Covering_fewestFor b_Covering_fewestFor 5 (some .int) [.ref q, .int p1] (I, L, R, am_SH) (po_Covering_fewestFor I L R Q) := by
  refine am_Cm_of (ini := false) (by decide +kernel) (fun z => by cases z) (by simp [Value.category]) (fun r σ' z => by obtain ⟨x, rfl, -⟩ := z; exact ⟨_, rfl, rfl⟩) ?_
  unfold wp_Covering_fewestFor at h
  show am_Wp (d, "UnseenRing$Covering", b_Covering_fewestFor, 5, false) 0 0 0 [some (.ref q), some (.int p1), none, none, none] [] (I, L, R, am_SH) (po_Covering_fewestFor I L R Q)
  refine am_iload_n (n := 1) d_Covering_fewestFor_0 rfl rfl ?_
  refine am_iload_n (n := 2) d_Covering_fewestFor_1 rfl rfl ?_
  refine am_ineg (n := 3) d_Covering_fewestFor_2 rfl ?_
  refine am_iand (n := 4) d_Covering_fewestFor_3 rfl ?_
  refine am_istore_n (ls' := [some (.ref q), some (.int p1), some (.int (p1 &&& (-p1))), none, none]) (n := 5) d_Covering_fewestFor_4 (by decide) rfl rfl ?_
  refine am_sipush (n := 8) d_Covering_fewestFor_5 cs_1000 rfl ?_
  refine am_istore_n (ls' := [some (.ref q), some (.int p1), some (.int (p1 &&& (-p1))), some (.int 1000), none]) (n := 9) d_Covering_fewestFor_8 (by decide) rfl rfl ?_
  refine am_iconst (n := 10) d_Covering_fewestFor_9 ci_0 rfl ?_
  refine am_istore (ls' := [some (.ref q), some (.int p1), some (.int (p1 &&& (-p1))), some (.int 1000), some (.int 0)]) (n := 12) d_Covering_fewestFor_10 (by decide) rfl rfl ?_
  obtain ⟨n, h⟩ := h
  exact tl_Covering_fewestFor_12 hw hq hd n (p1 &&& (-p1)) 1000 0 h
abbrev po_Covering_solve (L : am_TL) (R : am_TR) (Q : Bool → am_TI → Prop) : Option Value → am_St → Prop := fun r σ' => ∃ (x : Bool) (I' : am_TI), r = some (.int (am_b x)) ∧ σ' = (I', L, R, am_SH) ∧ Q x I'
def wl_Covering_solve_120 (L : am_TL) (R : am_TR) (q : Nat) (p1 : Nat) (p2 : Nat) (p3 : Int32) (Q : Bool → am_TI → Prop)  : Nat → am_TI → Int32 → Prop
  | 0 => fun _ _ => False
  | f120 + 1 => fun I v4 => (((I q 3) < v4 → Q true I) ∧ (¬ (I q 3) < v4 → wp_Covering_fewestFor I L R q v4 (fun (r2 : Int32) => (vp_in v4 256 ∧ (∀ I4, I4 = am_u2 I (q + 2) (Int32.toNatClampNeg v4) r2 → wl_Covering_solve_120 L R q p1 p2 p3 Q f120 I4 (v4 + 1))))))
set_option maxRecDepth 20000 in
theorem tl_Covering_solve_120 {d : Nat}  {L : am_TL} {R : am_TR} {q : Nat} {p1 : Nat} {p2 : Nat} {p3 : Int32} {Q : Bool → am_TI → Prop}  (hw : am_Wf R) (hq : am_SH[q]? = some (.inl 0)) (hp1 : am_SH[p1]? = some (.inl 7)) (hp2 : am_SH[p2]? = some (.inl 10)) (hd : 3 ≤ d) : ∀ (n : Nat) (I : am_TI) (v4 : Int32), wl_Covering_solve_120 L R q p1 p2 p3 Q  n I v4 → am_Wp (d, "UnseenRing$Covering", b_Covering_solve, 8, false) 0 0 120 [some (.ref q), some (.ref p1), some (.ref p2), some (.int p3), some (.int v4), none, none, none] [] (I, L, R, am_SH) (po_Covering_solve L R Q) := by
  intro n
  induction n with
  | zero => intro I v4 h; exact h.elim
  | succ n ih =>
    intro I v4 h
    unfold wl_Covering_solve_120 at h
    refine am_iload (n := 122) d_Covering_solve_120 rfl rfl ?_
    refine am_aload_n (n := 123) d_Covering_solve_122 rfl rfl ?_
    refine am_getI (n := 126) f_Covering_22 d_Covering_solve_123 rfl rfl hq ?_
    refine am_icmp_gt (tgt := 148) (n := 129) d_Covering_solve_126 rfl rfl (fun c2 => ?_) (fun c2 => ?_)
    · have h := h.1 c2
      refine am_iconst (n := 149) d_Covering_solve_148 ci_1 rfl ?_
      exact am_iret d_Covering_solve_149 ⟨true, I, rfl, rfl, h⟩
    · have h := h.2 c2
      refine am_aload_n (n := 130) d_Covering_solve_129 rfl rfl ?_
      refine am_getR (x := (q + 2)) (n := 133) f_Covering_15 d_Covering_solve_130 rfl rfl hq (hw.1 q 0 1 2 hq rfl) ?_
      refine am_iload (n := 135) d_Covering_solve_133 rfl rfl ?_
      refine am_aload_n (n := 136) d_Covering_solve_135 rfl rfl ?_
      refine am_iload (n := 138) d_Covering_solve_136 rfl rfl ?_
      refine am_callV (kc := 0) (ks := 0) (As := [.int v4]) (n := 141) d_Covering_solve_138 rfl ce_Covering_fewestFor lk_Covering_52 in_Covering_fewestFor rfl rfl hq rfl rfl (Nat.le_of_ble_eq_true rfl) (Or.inl rfl) (cm_Covering_fewestFor (d := d - 1) hw (by omega) hq h) (by omega) ?_
      rintro _ _ ⟨r2, rfl, rfl, h⟩
      show am_Wp (d, "UnseenRing$Covering", b_Covering_solve, 8, false) 0 0 141 [some (.ref q), some (.ref p1), some (.ref p2), some (.int p3), some (.int v4), none, none, none] [.int r2, .int v4, .ref (q + 2)] (I, L, R, am_SH) (po_Covering_solve L R Q)
      obtain ⟨g1, h⟩ := h
      refine am_iast2 (n := 142) d_Covering_solve_141 rfl (am_sho (k := 1) (o := 2) hq (by decide) (by decide) (by decide) rfl) g1 rfl ?_
      generalize eI4 : am_u2 I (q + 2) (Int32.toNatClampNeg v4) r2 = I4
      have h := h I4 eI4.symm
      refine am_iinc (v := v4 + 1) (ls' := [some (.ref q), some (.ref p1), some (.ref p2), some (.int p3), some (.int (v4 + 1)), none, none, none]) (n := 145) d_Covering_solve_142 rfl (congrArg _ ci_1) (by decide) rfl rfl ?_
      refine am_goto (tgt := 120) d_Covering_solve_145 rfl ?_
      exact ih I4 (v4 + 1)  h
def wl_Covering_solve_70 (L : am_TL) (R : am_TR) (q : Nat) (p1 : Nat) (p2 : Nat) (p3 : Int32) (Q : Bool → am_TI → Prop) (K33 : am_TI → Int32 → Prop) : Nat → am_TI → Int32 → Int64 → Int32 → Prop
  | 0 => fun _ _ _ _ => False
  | f70 + 1 => fun I v4 v5 v7 => (((I q 2) ≤ v7 → K33 I (v4 + 1)) ∧ (¬ (I q 2) ≤ v7 → wp_Square_isNear I L R p1 v7 (Int64.toInt32 v5) (fun (r4 : Bool) => ((r4 = false → wl_Covering_solve_70 L R q p1 p2 p3 Q K33 f70 I v4 v5 (v7 + 1)) ∧ (r4 = true → (vp_in v7 25 ∧ (vp_in v7 25 ∧ (∀ I5, I5 = am_u2 I (q + 1) (Int32.toNatClampNeg v7) ((I (q + 1) (Int32.toNatClampNeg v7)) ||| ((1 : Int32) <<< (v4 &&& 31))) → wl_Covering_solve_70 L R q p1 p2 p3 Q K33 f70 I5 v4 v5 (v7 + 1)))))))))
set_option maxRecDepth 20000 in
theorem tl_Covering_solve_70 {d : Nat}  {L : am_TL} {R : am_TR} {q : Nat} {p1 : Nat} {p2 : Nat} {p3 : Int32} {Q : Bool → am_TI → Prop} {K33 : am_TI → Int32 → Prop} (hw : am_Wf R) (hq : am_SH[q]? = some (.inl 0)) (hp1 : am_SH[p1]? = some (.inl 7)) (hp2 : am_SH[p2]? = some (.inl 10)) (hK33 : ∀ (I : am_TI) (v4 : Int32), K33 I v4 → am_Wp (d, "UnseenRing$Covering", b_Covering_solve, 8, false) 0 0 33 [some (.ref q), some (.ref p1), some (.ref p2), some (.int p3), some (.int v4), none, none, none] [] (I, L, R, am_SH) (po_Covering_solve L R Q)) (hd : 3 ≤ d) : ∀ (n : Nat) (I : am_TI) (v4 : Int32) (v5 : Int64) (v7 : Int32), wl_Covering_solve_70 L R q p1 p2 p3 Q K33 n I v4 v5 v7 → am_Wp (d, "UnseenRing$Covering", b_Covering_solve, 8, false) 0 0 70 [some (.ref q), some (.ref p1), some (.ref p2), some (.int p3), some (.int v4), some (.long v5), none, some (.int v7)] [] (I, L, R, am_SH) (po_Covering_solve L R Q) := by
  intro n
  induction n with
  | zero => intro I v4 v5 v7 h; exact h.elim
  | succ n ih =>
    intro I v4 v5 v7 h
    unfold wl_Covering_solve_70 at h
    refine am_iload (n := 72) d_Covering_solve_70 rfl rfl ?_
    refine am_aload_n (n := 73) d_Covering_solve_72 rfl rfl ?_
    refine am_getI (n := 76) f_Covering_18 d_Covering_solve_73 rfl rfl hq ?_
    refine am_icmp_ge (tgt := 111) (n := 79) d_Covering_solve_76 rfl rfl (fun c5 => ?_) (fun c5 => ?_)
    · have h := h.1 c5
      refine am_iinc (v := v4 + 1) (ls' := [some (.ref q), some (.ref p1), some (.ref p2), some (.int p3), some (.int (v4 + 1)), some (.long v5), none, some (.int v7)]) (n := 114) d_Covering_solve_111 rfl (congrArg _ ci_1) (by decide) rfl rfl ?_
      refine am_goto (tgt := 33) d_Covering_solve_114 rfl ?_
      refine am_forget (ls' := [some (.ref q), some (.ref p1), some (.ref p2), some (.int p3), some (.int (v4 + 1)), none, none, none]) (am_le_s (am_le_s (am_le_s (am_le_s (am_le_s (am_le_n (am_le_n (am_le_n am_le_e)))))))) ?_
      exact hK33 I (v4 + 1)  h
    · have h := h.2 c5
      refine am_aload_n (n := 80) d_Covering_solve_79 rfl rfl ?_
      refine am_iload (n := 82) d_Covering_solve_80 rfl rfl ?_
      refine am_lload (n := 84) d_Covering_solve_82 rfl rfl ?_
      refine am_l2i (n := 85) d_Covering_solve_84 rfl ?_
      refine am_callV (kc := 0) (ks := 0) (As := [.int v7, .int (Int64.toInt32 v5)]) (n := 88) d_Covering_solve_85 rfl ce_Square_isNear lk_Covering_48 in_Square_isNear rfl rfl hp1 rfl rfl (Nat.le_of_ble_eq_true rfl) (Or.inl rfl) (cm_Square_isNear (d := d - 1) hw (by omega) hp1 h) (by omega) ?_
      rintro _ _ ⟨r4, rfl, rfl, h⟩
      show am_Wp (d, "UnseenRing$Covering", b_Covering_solve, 8, false) 0 0 88 [some (.ref q), some (.ref p1), some (.ref p2), some (.int p3), some (.int v4), some (.long v5), none, some (.int v7)] [.int (am_b r4)] (I, L, R, am_SH) (po_Covering_solve L R Q)
      refine am_if_eq (y := 0) (tgt := 105) (n := 91) d_Covering_solve_88 rfl rfl (fun c6 => ?_) (fun c6 => ?_)
      · have h := h.1 (am_b_0 c6)
        refine am_iinc (v := v7 + 1) (ls' := [some (.ref q), some (.ref p1), some (.ref p2), some (.int p3), some (.int v4), some (.long v5), none, some (.int (v7 + 1))]) (n := 108) d_Covering_solve_105 rfl (congrArg _ ci_1) (by decide) rfl rfl ?_
        refine am_goto (tgt := 70) d_Covering_solve_108 rfl ?_
        exact ih I v4 v5 (v7 + 1)  h
      · have h := h.2 (am_b_n0 c6)
        refine am_aload_n (n := 92) d_Covering_solve_91 rfl rfl ?_
        refine am_getR (x := (q + 1)) (n := 95) f_Covering_9 d_Covering_solve_92 rfl rfl hq (hw.1 q 0 0 1 hq rfl) ?_
        refine am_iload (n := 97) d_Covering_solve_95 rfl rfl ?_
        refine am_dup2 (n := 98) d_Covering_solve_97 rfl rfl rfl ?_
        obtain ⟨g2, h⟩ := h
        refine am_iald2 (n := 99) d_Covering_solve_98 rfl (am_sho (k := 0) (o := 1) hq (by decide) (by decide) (by decide) rfl) g2 rfl ?_
        refine am_iconst (n := 100) d_Covering_solve_99 ci_1 rfl ?_
        refine am_iload (n := 102) d_Covering_solve_100 rfl rfl ?_
        refine am_ishl (n := 103) d_Covering_solve_102 rfl ?_
        refine am_ior (n := 104) d_Covering_solve_103 rfl ?_
        obtain ⟨g3, h⟩ := h
        refine am_iast2 (n := 105) d_Covering_solve_104 rfl (am_sho (k := 0) (o := 1) hq (by decide) (by decide) (by decide) rfl) g3 rfl ?_
        generalize eI5 : am_u2 I (q + 1) (Int32.toNatClampNeg v7) ((I (q + 1) (Int32.toNatClampNeg v7)) ||| ((1 : Int32) <<< (v4 &&& 31))) = I5
        have h := h I5 eI5.symm
        refine am_iinc (v := v7 + 1) (ls' := [some (.ref q), some (.ref p1), some (.ref p2), some (.int p3), some (.int v4), some (.long v5), none, some (.int (v7 + 1))]) (n := 108) d_Covering_solve_105 rfl (congrArg _ ci_1) (by decide) rfl rfl ?_
        refine am_goto (tgt := 70) d_Covering_solve_108 rfl ?_
        exact ih I5 v4 v5 (v7 + 1)  h
def wl_Covering_solve_33 (L : am_TL) (R : am_TR) (q : Nat) (p1 : Nat) (p2 : Nat) (p3 : Int32) (Q : Bool → am_TI → Prop)  : Nat → am_TI → Int32 → Prop
  | 0 => fun _ _ => False
  | f33 + 1 => fun I v4 => ((p3 ≤ v4 → (∃ z, wl_Covering_solve_120 L R q p1 p2 p3 Q z I 1)) ∧ (¬ p3 ≤ v4 → wp_Tray_numberAt I L R p2 v4 (fun (r3 : Int64) => ((r3 < 0 → Q false I) ∧ (¬ r3 < 0 → ((r3 < (Int32.toInt64 (I q 2)) → (∃ z, wl_Covering_solve_70 L R q p1 p2 p3 Q (wl_Covering_solve_33 L R q p1 p2 p3 Q f33) z I v4 r3 0)) ∧ (¬ r3 < (Int32.toInt64 (I q 2)) → Q false I)))))))
set_option maxRecDepth 20000 in
theorem tl_Covering_solve_33 {d : Nat}  {L : am_TL} {R : am_TR} {q : Nat} {p1 : Nat} {p2 : Nat} {p3 : Int32} {Q : Bool → am_TI → Prop}  (hw : am_Wf R) (hq : am_SH[q]? = some (.inl 0)) (hp1 : am_SH[p1]? = some (.inl 7)) (hp2 : am_SH[p2]? = some (.inl 10)) (hd : 3 ≤ d) : ∀ (n : Nat) (I : am_TI) (v4 : Int32), wl_Covering_solve_33 L R q p1 p2 p3 Q  n I v4 → am_Wp (d, "UnseenRing$Covering", b_Covering_solve, 8, false) 0 0 33 [some (.ref q), some (.ref p1), some (.ref p2), some (.int p3), some (.int v4), none, none, none] [] (I, L, R, am_SH) (po_Covering_solve L R Q) := by
  intro n
  induction n with
  | zero => intro I v4 h; exact h.elim
  | succ n ih =>
    intro I v4 h
    unfold wl_Covering_solve_33 at h
    refine am_iload (n := 35) d_Covering_solve_33 rfl rfl ?_
    refine am_iload_n (n := 36) d_Covering_solve_35 rfl rfl ?_
    refine am_icmp_ge (tgt := 117) (n := 39) d_Covering_solve_36 rfl rfl (fun c1 => ?_) (fun c1 => ?_)
    · have h := h.1 c1
      refine am_iconst (n := 118) d_Covering_solve_117 ci_1 rfl ?_
      refine am_istore (ls' := [some (.ref q), some (.ref p1), some (.ref p2), some (.int p3), some (.int 1), none, none, none]) (n := 120) d_Covering_solve_118 (by decide) rfl rfl ?_
      obtain ⟨n, h⟩ := h
      exact tl_Covering_solve_120 hw hq hp1 hp2 hd n I 1 h
    · have h := h.2 c1
      refine am_aload_n (n := 40) d_Covering_solve_39 rfl rfl ?_
      refine am_iload (n := 42) d_Covering_solve_40 rfl rfl ?_
      refine am_callV (kc := 0) (ks := 0) (As := [.int v4]) (n := 45) d_Covering_solve_42 rfl ce_Tray_numberAt lk_Covering_42 in_Tray_numberAt rfl rfl hp2 rfl rfl (Nat.le_of_ble_eq_true rfl) (Or.inl rfl) (cm_Tray_numberAt (d := d - 1) hw (by omega) hp2 h) (by omega) ?_
      rintro _ _ ⟨r3, rfl, rfl, h⟩
      show am_Wp (d, "UnseenRing$Covering", b_Covering_solve, 8, false) 0 0 45 [some (.ref q), some (.ref p1), some (.ref p2), some (.int p3), some (.int v4), none, none, none] [.long r3] (I, L, R, am_SH) (po_Covering_solve L R Q)
      refine am_lstore (ls' := [some (.ref q), some (.ref p1), some (.ref p2), some (.int p3), some (.int v4), some (.long r3), none, none]) (n := 47) d_Covering_solve_45 (by decide) rfl rfl ?_
      refine am_lload (n := 49) d_Covering_solve_47 rfl rfl ?_
      refine am_lconst (v := 0) (n := 50) d_Covering_solve_49 rfl rfl ?_
      refine am_lcmp (n := 51) d_Covering_solve_50 rfl ?_
      refine am_if_lt (y := 0) (tgt := 65) (n := 54) d_Covering_solve_51 rfl rfl (fun c3 => ?_) (fun c3 => ?_)
      · have h := h.1 (am_cmp_lt.mp c3)
        refine am_iconst (n := 66) d_Covering_solve_65 ci_0 rfl ?_
        exact am_iret d_Covering_solve_66 ⟨false, I, rfl, rfl, h⟩
      · have h := h.2 (fun z => c3 (am_cmp_lt.mpr z))
        refine am_lload (n := 56) d_Covering_solve_54 rfl rfl ?_
        refine am_aload_n (n := 57) d_Covering_solve_56 rfl rfl ?_
        refine am_getI (n := 60) f_Covering_18 d_Covering_solve_57 rfl rfl hq ?_
        refine am_i2l (n := 61) d_Covering_solve_60 rfl ?_
        refine am_lcmp (n := 62) d_Covering_solve_61 rfl ?_
        refine am_if_lt (y := 0) (tgt := 67) (n := 65) d_Covering_solve_62 rfl rfl (fun c4 => ?_) (fun c4 => ?_)
        · have h := h.1 (am_cmp_lt.mp c4)
          refine am_iconst (n := 68) d_Covering_solve_67 ci_0 rfl ?_
          refine am_istore (ls' := [some (.ref q), some (.ref p1), some (.ref p2), some (.int p3), some (.int v4), some (.long r3), none, some (.int 0)]) (n := 70) d_Covering_solve_68 (by decide) rfl rfl ?_
          obtain ⟨n, h⟩ := h
          exact tl_Covering_solve_70 hw hq hp1 hp2 ih hd n I v4 r3 0 h
        · have h := h.2 (fun z => c4 (am_cmp_lt.mpr z))
          refine am_iconst (n := 66) d_Covering_solve_65 ci_0 rfl ?_
          exact am_iret d_Covering_solve_66 ⟨false, I, rfl, rfl, h⟩
def wp_Covering_solve (I : am_TI) (L : am_TL) (R : am_TR) (q : Nat) (p1 : Nat) (p2 : Nat) (p3 : Int32)  (Q : Bool → am_TI → Prop) : Prop := wp_Square_cells I L R p1 (fun (r1 : Int32) => (∀ I1, I1 = am_u2 I q 2 (am_min r1 25) → (∀ I2, I2 = am_u2 I1 q 3 (((1 : Int32) <<< (p3 &&& 31)) - 1) → wp_Arrays_fillI I2 L R (q + 1) 25 0 (fun (I3 : am_TI) => (∃ z, wl_Covering_solve_33 L R q p1 p2 p3 Q z I3 0)))))
set_option maxRecDepth 20000 in
theorem cm_Covering_solve {d : Nat} {I : am_TI} {L : am_TL} {R : am_TR}  (hw : am_Wf R)   {q : Nat} {p1 : Nat} {p2 : Nat} {p3 : Int32} {Q : Bool → am_TI → Prop} (hd : 3 ≤ d) (hq : am_SH[q]? = some (.inl 0)) (hp1 : am_SH[p1]? = some (.inl 7)) (hp2 : am_SH[p2]? = some (.inl 10)) (h : wp_Covering_solve I L R q p1 p2 p3  Q) : am_Cm d 0 0 y_Covering_solve b_Covering_solve 8 (some .boolean) [.ref q, .ref p1, .ref p2, .int p3] (I, L, R, am_SH) (po_Covering_solve L R Q) := by
  refine am_Cm_of (ini := false) (by decide +kernel) (fun z => by cases z) (by simp [Value.category]) (fun r σ' z => by obtain ⟨x, _, rfl, -⟩ := z; exact ⟨_, rfl, am_b_nar x⟩) ?_
  unfold wp_Covering_solve at h
  show am_Wp (d, "UnseenRing$Covering", b_Covering_solve, 8, false) 0 0 0 [some (.ref q), some (.ref p1), some (.ref p2), some (.int p3), none, none, none, none] [] (I, L, R, am_SH) (po_Covering_solve L R Q)
  refine am_aload_n (n := 1) d_Covering_solve_0 rfl rfl ?_
  refine am_aload_n (n := 2) d_Covering_solve_1 rfl rfl ?_
  refine am_callV (kc := 0) (ks := 0) (As := []) (n := 5) d_Covering_solve_2 rfl ce_Square_cells lk_Covering_25 in_Square_cells rfl rfl hp1 rfl rfl (Nat.le_of_ble_eq_true rfl) (Or.inl rfl) (cm_Square_cells (d := d - 1) hw (by omega) hp1 h) (by omega) ?_
  rintro _ _ ⟨r1, rfl, rfl, h⟩
  show am_Wp (d, "UnseenRing$Covering", b_Covering_solve, 8, false) 0 0 5 [some (.ref q), some (.ref p1), some (.ref p2), some (.int p3), none, none, none, none] [.int r1, .ref q] (I, L, R, am_SH) (po_Covering_solve L R Q)
  refine am_bipush (n := 7) d_Covering_solve_5 cb_25 rfl ?_
  refine am_mmin2 (n := 10) d_Covering_solve_7 rfl lm_Covering_30 (Nat.le_of_ble_eq_true rfl) (by omega) ?_
  refine am_putI (n := 13) f_Covering_18 d_Covering_solve_10 rfl ⟨_, rfl, Or.inl rfl⟩ rfl rfl hq ?_
  generalize eI1 : am_u2 I q 2 (am_min r1 25) = I1
  have h := h I1 eI1.symm
  refine am_aload_n (n := 14) d_Covering_solve_13 rfl rfl ?_
  refine am_iconst (n := 15) d_Covering_solve_14 ci_1 rfl ?_
  refine am_iload_n (n := 16) d_Covering_solve_15 rfl rfl ?_
  refine am_ishl (n := 17) d_Covering_solve_16 rfl ?_
  refine am_iconst (n := 18) d_Covering_solve_17 ci_1 rfl ?_
  refine am_isub (n := 19) d_Covering_solve_18 rfl ?_
  refine am_putI (n := 22) f_Covering_22 d_Covering_solve_19 rfl ⟨_, rfl, Or.inl rfl⟩ rfl rfl hq ?_
  generalize eI2 : am_u2 I1 q 3 (((1 : Int32) <<< (p3 &&& 31)) - 1) = I2
  have h := h I2 eI2.symm
  refine am_aload_n (n := 23) d_Covering_solve_22 rfl rfl ?_
  refine am_getR (x := (q + 1)) (n := 26) f_Covering_9 d_Covering_solve_23 rfl rfl hq (hw.1 q 0 0 1 hq rfl) ?_
  refine am_iconst (n := 27) d_Covering_solve_26 ci_0 rfl ?_
  refine am_callS (kc := 0) (ks := 0) (As := [.ref (q + 1), .int 0]) (n := 30) d_Covering_solve_27 rfl ce_Arrays_fillI lk_Covering_36 st_Arrays_fillI rfl rfl (Nat.le_of_ble_eq_true rfl) (Or.inl rfl) (cm_Arrays_fillI (d := d - 1) hw (by omega) (am_sho (k := 0) (o := 1) hq (by decide) (by decide) (by decide) rfl) h) (by omega) ?_
  rintro _ _ ⟨I3, rfl, rfl, h⟩
  show am_Wp (d, "UnseenRing$Covering", b_Covering_solve, 8, false) 0 0 30 [some (.ref q), some (.ref p1), some (.ref p2), some (.int p3), none, none, none, none] [] (I3, L, R, am_SH) (po_Covering_solve L R Q)
  refine am_iconst (n := 31) d_Covering_solve_30 ci_0 rfl ?_
  refine am_istore (ls' := [some (.ref q), some (.ref p1), some (.ref p2), some (.int p3), some (.int 0), none, none, none]) (n := 33) d_Covering_solve_31 (by decide) rfl rfl ?_
  obtain ⟨n, h⟩ := h
  exact tl_Covering_solve_33 hw hq hp1 hp2 hd n I3 0 h
abbrev po_U_coverStatus (L : am_TL) (R : am_TR) (Q : Int32 → am_TI → Prop) : Option Value → am_St → Prop := fun r σ' => ∃ (x : Int32) (I' : am_TI), r = some (.int x) ∧ σ' = (I', L, R, am_SH) ∧ Q x I'
def wp_U_coverStatus (I : am_TI) (L : am_TL) (R : am_TR) (q : Nat) (p1 : Int32) (p2 : Int32)  (Q : Int32 → am_TI → Prop) : Prop := wp_U_within I L R p2 0 8 (fun (r1 : Bool) => ((r1 = false → Q 1 I) ∧ (r1 = true → wp_U_trayStatus I L R q p1 p2 (fun (r2 : Int32) => ((r2 = 0 → (vp_in p1 4 ∧ wp_Covering_solve I L R (q + 24) (am_rd R q 11) (am_rd R (q + 1) (Int32.toNatClampNeg p1)) p2 (fun (r3 : Bool) (I1 : am_TI) => ((r3 = false → Q 5 I1) ∧ (r3 = true → Q 0 I1))))) ∧ (¬ r2 = 0 → Q r2 I))))))
set_option maxRecDepth 20000 in
theorem cm_U_coverStatus {d : Nat} {I : am_TI} {L : am_TL} {R : am_TR}  (hw : am_Wf R)   {q : Nat} {p1 : Int32} {p2 : Int32} {Q : Int32 → am_TI → Prop} (hd : 4 ≤ d) (hq : am_SH[q]? = some (.inl 11)) (h : wp_U_coverStatus I L R q p1 p2  Q) : am_Cm d 0 0 y_U_coverStatus b_U_coverStatus 4 (some .int) [.ref q, .int p1, .int p2] (I, L, R, am_SH) (po_U_coverStatus L R Q) := by
  refine am_Cm_of (ini := false) (by decide +kernel) (fun z => by cases z) (by simp [Value.category]) (fun r σ' z => by obtain ⟨x, _, rfl, -⟩ := z; exact ⟨_, rfl, rfl⟩) ?_
  unfold wp_U_coverStatus at h
  show am_Wp (d, "UnseenRing", b_U_coverStatus, 4, false) 0 0 0 [some (.ref q), some (.int p1), some (.int p2), none] [] (I, L, R, am_SH) (po_U_coverStatus L R Q)
  refine am_iload_n (n := 1) d_U_coverStatus_0 rfl rfl ?_
  refine am_iconst (n := 2) d_U_coverStatus_1 ci_0 rfl ?_
  refine am_bipush (n := 4) d_U_coverStatus_2 cb_8 rfl ?_
  refine am_callS (kc := 0) (ks := 0) (As := [.int p2, .int 0, .int 8]) (n := 7) d_U_coverStatus_4 rfl ce_U_within lk_U_114 st_U_within rfl rfl (Nat.le_of_ble_eq_true rfl) (Or.inl rfl) (cm_U_within (d := d - 1) hw (by omega)  h) (by omega) ?_
  rintro _ _ ⟨r1, rfl, rfl, h⟩
  show am_Wp (d, "UnseenRing", b_U_coverStatus, 4, false) 0 0 7 [some (.ref q), some (.int p1), some (.int p2), none] [.int (am_b r1)] (I, L, R, am_SH) (po_U_coverStatus L R Q)
  refine am_if_ne (y := 0) (tgt := 12) (n := 10) d_U_coverStatus_7 rfl rfl (fun c1 => ?_) (fun c1 => ?_)
  · have h := h.2 (am_b_n0 c1)
    refine am_aload_n (n := 13) d_U_coverStatus_12 rfl rfl ?_
    refine am_iload_n (n := 14) d_U_coverStatus_13 rfl rfl ?_
    refine am_iload_n (n := 15) d_U_coverStatus_14 rfl rfl ?_
    refine am_callV (kc := 0) (ks := 0) (As := [.int p1, .int p2]) (n := 18) d_U_coverStatus_15 rfl ce_U_trayStatus lk_U_161 in_U_trayStatus rfl rfl hq rfl rfl (Nat.le_of_ble_eq_true rfl) (Or.inl rfl) (cm_U_trayStatus (d := d - 1) hw (by omega) hq h) (by omega) ?_
    rintro _ _ ⟨r2, rfl, rfl, h⟩
    show am_Wp (d, "UnseenRing", b_U_coverStatus, 4, false) 0 0 18 [some (.ref q), some (.int p1), some (.int p2), none] [.int r2] (I, L, R, am_SH) (po_U_coverStatus L R Q)
    refine am_istore_n (ls' := [some (.ref q), some (.int p1), some (.int p2), some (.int r2)]) (n := 19) d_U_coverStatus_18 (by decide) rfl rfl ?_
    refine am_iload_n (n := 20) d_U_coverStatus_19 rfl rfl ?_
    refine am_if_eq (y := 0) (tgt := 25) (n := 23) d_U_coverStatus_20 rfl rfl (fun c2 => ?_) (fun c2 => ?_)
    · have h := h.1 c2
      refine am_aload_n (n := 26) d_U_coverStatus_25 rfl rfl ?_
      refine am_getR (x := (q + 24)) (n := 29) f_U_69 d_U_coverStatus_26 rfl rfl hq (hw.1 q 11 9 24 hq rfl) ?_
      refine am_aload_n (n := 30) d_U_coverStatus_29 rfl rfl ?_
      refine am_getR (x := (am_rd R q 11)) (n := 33) f_U_81 d_U_coverStatus_30 rfl rfl hq (hw.rd (k := 11) hq rfl).1 ?_
      refine am_aload_n (n := 34) d_U_coverStatus_33 rfl rfl ?_
      refine am_getR (x := (q + 1)) (n := 37) f_U_11 d_U_coverStatus_34 rfl rfl hq (hw.1 q 11 0 1 hq rfl) ?_
      refine am_iload_n (n := 38) d_U_coverStatus_37 rfl rfl ?_
      obtain ⟨g1, h⟩ := h
      refine am_aald42 (x := (am_rd R (q + 1) (Int32.toNatClampNeg p1))) (n := 39) d_U_coverStatus_38 rfl (am_sho (k := 0) (o := 1) hq (by decide) (by decide) (by decide) rfl) g1 rfl (hw.tray (am_sho (k := 0) (o := 1) hq (by decide) (by decide) (by decide) rfl) (am_in_j g1 rfl)).1 ?_
      refine am_iload_n (n := 40) d_U_coverStatus_39 rfl rfl ?_
      refine am_callV (kc := 0) (ks := 0) (As := [.ref (am_rd R q 11), .ref (am_rd R (q + 1) (Int32.toNatClampNeg p1)), .int p2]) (n := 43) d_U_coverStatus_40 rfl ce_Covering_solve lk_U_348 in_Covering_solve rfl rfl (am_sho (k := 9) (o := 24) hq (by decide) (by decide) (by decide) rfl) rfl rfl (Nat.le_of_ble_eq_true rfl) (Or.inl rfl) (cm_Covering_solve (d := d - 1) hw (by omega) (am_sho (k := 9) (o := 24) hq (by decide) (by decide) (by decide) rfl) (hw.rd (k := 11) hq rfl).2 (hw.tray (am_sho (k := 0) (o := 1) hq (by decide) (by decide) (by decide) rfl) (am_in_j g1 rfl)).2 h) (by omega) ?_
      rintro _ _ ⟨r3, I1, rfl, rfl, h⟩
      show am_Wp (d, "UnseenRing", b_U_coverStatus, 4, false) 0 0 43 [some (.ref q), some (.int p1), some (.int p2), some (.int r2)] [.int (am_b r3)] (I1, L, R, am_SH) (po_U_coverStatus L R Q)
      refine am_if_eq (y := 0) (tgt := 50) (n := 46) d_U_coverStatus_43 rfl rfl (fun c3 => ?_) (fun c3 => ?_)
      · have h := h.1 (am_b_0 c3)
        refine am_iconst (n := 51) d_U_coverStatus_50 ci_5 rfl ?_
        exact am_iret d_U_coverStatus_51 ⟨5, I1, rfl, rfl, h⟩
      · have h := h.2 (am_b_n0 c3)
        refine am_iconst (n := 47) d_U_coverStatus_46 ci_0 rfl ?_
        refine am_goto (tgt := 51) d_U_coverStatus_47 rfl ?_
        exact am_iret d_U_coverStatus_51 ⟨0, I1, rfl, rfl, h⟩
    · have h := h.2 c2
      refine am_iload_n (n := 24) d_U_coverStatus_23 rfl rfl ?_
      exact am_iret d_U_coverStatus_24 ⟨r2, I, rfl, rfl, h⟩
  · have h := h.1 (am_b_0 c1)
    refine am_iconst (n := 11) d_U_coverStatus_10 ci_1 rfl ?_
    exact am_iret d_U_coverStatus_11 ⟨1, I, rfl, rfl, h⟩
abbrev po_U_cover (L : am_TL) (R : am_TR) (Q : Int32 → am_TI → Prop) : Option Value → am_St → Prop := fun r σ' => ∃ (x : Int32) (I' : am_TI), r = some (.int x) ∧ σ' = (I', L, R, am_SH) ∧ Q x I'
def wp_U_cover (I : am_TI) (L : am_TL) (R : am_TR) (q : Nat) (p1 : Int32) (p2 : Int32)  (Q : Int32 → am_TI → Prop) : Prop := wp_U_coverStatus I L R q p1 p2 (fun (r1 : Int32) (I1 : am_TI) => ((r1 = 0 → wp_Covering_fewestThrows I1 L R (q + 24) (fun (r3 : Int32) => wp_U_answered I1 L R q r3 (fun (r4 : Int32) (I3 : am_TI) => Q r4 I3))) ∧ (¬ r1 = 0 → wp_U_refused I1 L R q r1 (fun (r2 : Int32) (I2 : am_TI) => Q r2 I2))))
set_option maxRecDepth 20000 in
theorem cm_U_cover {d : Nat} {I : am_TI} {L : am_TL} {R : am_TR}  (hw : am_Wf R)   {q : Nat} {p1 : Int32} {p2 : Int32} {Q : Int32 → am_TI → Prop} (hd : 5 ≤ d) (hq : am_SH[q]? = some (.inl 11)) (h : wp_U_cover I L R q p1 p2  Q) : am_Cm d 0 0 y_U_cover b_U_cover 4 (some .int) [.ref q, .int p1, .int p2] (I, L, R, am_SH) (po_U_cover L R Q) := by
  refine am_Cm_of (ini := false) (by decide +kernel) (fun z => by cases z) (by simp [Value.category]) (fun r σ' z => by obtain ⟨x, _, rfl, -⟩ := z; exact ⟨_, rfl, rfl⟩) ?_
  unfold wp_U_cover at h
  show am_Wp (d, "UnseenRing", b_U_cover, 4, false) 0 0 0 [some (.ref q), some (.int p1), some (.int p2), none] [] (I, L, R, am_SH) (po_U_cover L R Q)
  refine am_aload_n (n := 1) d_U_cover_0 rfl rfl ?_
  refine am_iload_n (n := 2) d_U_cover_1 rfl rfl ?_
  refine am_iload_n (n := 3) d_U_cover_2 rfl rfl ?_
  refine am_callV (kc := 0) (ks := 0) (As := [.int p1, .int p2]) (n := 6) d_U_cover_3 rfl ce_U_coverStatus lk_U_339 in_U_coverStatus rfl rfl hq rfl rfl (Nat.le_of_ble_eq_true rfl) (Or.inl rfl) (cm_U_coverStatus (d := d - 1) hw (by omega) hq h) (by omega) ?_
  rintro _ _ ⟨r1, I1, rfl, rfl, h⟩
  show am_Wp (d, "UnseenRing", b_U_cover, 4, false) 0 0 6 [some (.ref q), some (.int p1), some (.int p2), none] [.int r1] (I1, L, R, am_SH) (po_U_cover L R Q)
  refine am_istore_n (ls' := [some (.ref q), some (.int p1), some (.int p2), some (.int r1)]) (n := 7) d_U_cover_6 (by decide) rfl rfl ?_
  refine am_iload_n (n := 8) d_U_cover_7 rfl rfl ?_
  refine am_if_ne (y := 0) (tgt := 25) (n := 11) d_U_cover_8 rfl rfl (fun c1 => ?_) (fun c1 => ?_)
  · have h := h.2 c1
    refine am_aload_n (n := 26) d_U_cover_25 rfl rfl ?_
    refine am_iload_n (n := 27) d_U_cover_26 rfl rfl ?_
    refine am_callV (kc := 0) (ks := 0) (As := [.int r1]) (n := 30) d_U_cover_27 rfl ce_U_refused lk_U_133 in_U_refused rfl rfl hq rfl rfl (Nat.le_of_ble_eq_true rfl) (Or.inl rfl) (cm_U_refused (d := d - 1) hw (by omega) hq h) (by omega) ?_
    rintro _ _ ⟨r2, I2, rfl, rfl, h⟩
    show am_Wp (d, "UnseenRing", b_U_cover, 4, false) 0 0 30 [some (.ref q), some (.int p1), some (.int p2), some (.int r1)] [.int r2] (I2, L, R, am_SH) (po_U_cover L R Q)
    exact am_iret d_U_cover_30 ⟨r2, I2, rfl, rfl, h⟩
  · have h := h.1 c1
    refine am_aload_n (n := 12) d_U_cover_11 rfl rfl ?_
    refine am_aload_n (n := 13) d_U_cover_12 rfl rfl ?_
    refine am_getR (x := (q + 24)) (n := 16) f_U_69 d_U_cover_13 rfl rfl hq (hw.1 q 11 9 24 hq rfl) ?_
    refine am_callV (kc := 0) (ks := 0) (As := []) (n := 19) d_U_cover_16 rfl ce_Covering_fewestThrows lk_U_342 in_Covering_fewestThrows rfl rfl (am_sho (k := 9) (o := 24) hq (by decide) (by decide) (by decide) rfl) rfl rfl (Nat.le_of_ble_eq_true rfl) (Or.inl rfl) (cm_Covering_fewestThrows (d := d - 1) hw (by omega) (am_sho (k := 9) (o := 24) hq (by decide) (by decide) (by decide) rfl) h) (by omega) ?_
    rintro _ _ ⟨r3, rfl, rfl, h⟩
    show am_Wp (d, "UnseenRing", b_U_cover, 4, false) 0 0 19 [some (.ref q), some (.int p1), some (.int p2), some (.int r1)] [.int r3, .ref q] (I1, L, R, am_SH) (po_U_cover L R Q)
    refine am_callV (kc := 0) (ks := 0) (As := [.int r3]) (n := 22) d_U_cover_19 rfl ce_U_answered lk_U_184 in_U_answered rfl rfl hq rfl rfl (Nat.le_of_ble_eq_true rfl) (Or.inl rfl) (cm_U_answered (d := d - 1) hw (by omega) hq h) (by omega) ?_
    rintro _ _ ⟨r4, I3, rfl, rfl, h⟩
    show am_Wp (d, "UnseenRing", b_U_cover, 4, false) 0 0 22 [some (.ref q), some (.int p1), some (.int p2), some (.int r1)] [.int r4] (I3, L, R, am_SH) (po_U_cover L R Q)
    refine am_goto (tgt := 30) d_U_cover_22 rfl ?_
    exact am_iret d_U_cover_30 ⟨r4, I3, rfl, rfl, h⟩
abbrev po_Covering_firstGoodCell (I : am_TI) (L : am_TL) (R : am_TR) (Q : Int32 → Prop) : Option Value → am_St → Prop := fun r σ' => ∃ (x : Int32), r = some (.int x) ∧ σ' = (I, L, R, am_SH) ∧ Q x
def wl_Covering_firstGoodCell_2 (I : am_TI) (L : am_TL) (R : am_TR) (q : Nat) (p1 : Int32) (Q : Int32 → Prop)  : Nat → Int32 → Prop
  | 0 => fun _ => False
  | f2 + 1 => fun v2 => (((I q 2) ≤ v2 → Q (-1)) ∧ (¬ (I q 2) ≤ v2 → (vp_in v2 25 ∧ (vp_in (p1 &&& ((I (q + 1) (Int32.toNatClampNeg v2)) ^^^ (-1))) 256 ∧ (vp_in p1 256 ∧ (((I (q + 2) (Int32.toNatClampNeg (p1 &&& ((I (q + 1) (Int32.toNatClampNeg v2)) ^^^ (-1))))) = ((I (q + 2) (Int32.toNatClampNeg p1)) - 1) → Q v2) ∧ (¬ (I (q + 2) (Int32.toNatClampNeg (p1 &&& ((I (q + 1) (Int32.toNatClampNeg v2)) ^^^ (-1))))) = ((I (q + 2) (Int32.toNatClampNeg p1)) - 1) → wl_Covering_firstGoodCell_2 I L R q p1 Q f2 (v2 + 1))))))))
set_option maxRecDepth 20000 in
theorem tl_Covering_firstGoodCell_2 {d : Nat}  {I : am_TI} {L : am_TL} {R : am_TR} {q : Nat} {p1 : Int32} {Q : Int32 → Prop}  (hw : am_Wf R) (hq : am_SH[q]? = some (.inl 0)) (hd : 0 ≤ d) : ∀ (n : Nat) (v2 : Int32), wl_Covering_firstGoodCell_2 I L R q p1 Q  n v2 → am_Wp (d, "UnseenRing$Covering", b_Covering_firstGoodCell, 3, false) 0 0 2 [some (.ref q), some (.int p1), some (.int v2)] [] (I, L, R, am_SH) (po_Covering_firstGoodCell I L R Q) := by
  intro n
  induction n with
  | zero => intro v2 h; exact h.elim
  | succ n ih =>
    intro v2 h
    unfold wl_Covering_firstGoodCell_2 at h
    refine am_iload_n (n := 3) d_Covering_firstGoodCell_2 rfl rfl ?_
    refine am_aload_n (n := 4) d_Covering_firstGoodCell_3 rfl rfl ?_
    refine am_getI (n := 7) f_Covering_18 d_Covering_firstGoodCell_4 rfl rfl hq ?_
    refine am_icmp_ge (tgt := 44) (n := 10) d_Covering_firstGoodCell_7 rfl rfl (fun c1 => ?_) (fun c1 => ?_)
    · have h := h.1 c1
      refine am_iconst (n := 45) d_Covering_firstGoodCell_44 ci_m1 rfl ?_
      exact am_iret d_Covering_firstGoodCell_45 ⟨(-1), rfl, rfl, h⟩
    · have h := h.2 c1
      refine am_aload_n (n := 11) d_Covering_firstGoodCell_10 rfl rfl ?_
      refine am_getR (x := (q + 2)) (n := 14) f_Covering_15 d_Covering_firstGoodCell_11 rfl rfl hq (hw.1 q 0 1 2 hq rfl) ?_
      refine am_iload_n (n := 15) d_Covering_firstGoodCell_14 rfl rfl ?_
      refine am_aload_n (n := 16) d_Covering_firstGoodCell_15 rfl rfl ?_
      refine am_getR (x := (q + 1)) (n := 19) f_Covering_9 d_Covering_firstGoodCell_16 rfl rfl hq (hw.1 q 0 0 1 hq rfl) ?_
      refine am_iload_n (n := 20) d_Covering_firstGoodCell_19 rfl rfl ?_
      obtain ⟨g1, h⟩ := h
      refine am_iald2 (n := 21) d_Covering_firstGoodCell_20 rfl (am_sho (k := 0) (o := 1) hq (by decide) (by decide) (by decide) rfl) g1 rfl ?_
      refine am_iconst (n := 22) d_Covering_firstGoodCell_21 ci_m1 rfl ?_
      refine am_ixor (n := 23) d_Covering_firstGoodCell_22 rfl ?_
      refine am_iand (n := 24) d_Covering_firstGoodCell_23 rfl ?_
      obtain ⟨g2, h⟩ := h
      refine am_iald2 (n := 25) d_Covering_firstGoodCell_24 rfl (am_sho (k := 1) (o := 2) hq (by decide) (by decide) (by decide) rfl) g2 rfl ?_
      refine am_aload_n (n := 26) d_Covering_firstGoodCell_25 rfl rfl ?_
      refine am_getR (x := (q + 2)) (n := 29) f_Covering_15 d_Covering_firstGoodCell_26 rfl rfl hq (hw.1 q 0 1 2 hq rfl) ?_
      refine am_iload_n (n := 30) d_Covering_firstGoodCell_29 rfl rfl ?_
      obtain ⟨g3, h⟩ := h
      refine am_iald2 (n := 31) d_Covering_firstGoodCell_30 rfl (am_sho (k := 1) (o := 2) hq (by decide) (by decide) (by decide) rfl) g3 rfl ?_
      refine am_iconst (n := 32) d_Covering_firstGoodCell_31 ci_1 rfl ?_
      refine am_isub (n := 33) d_Covering_firstGoodCell_32 rfl ?_
      refine am_icmp_ne (tgt := 38) (n := 36) d_Covering_firstGoodCell_33 rfl rfl (fun c2 => ?_) (fun c2 => ?_)
      · have h := h.2 c2
        refine am_iinc (v := v2 + 1) (ls' := [some (.ref q), some (.int p1), some (.int (v2 + 1))]) (n := 41) d_Covering_firstGoodCell_38 rfl (congrArg _ ci_1) (by decide) rfl rfl ?_
        refine am_goto (tgt := 2) d_Covering_firstGoodCell_41 rfl ?_
        exact ih (v2 + 1)  h
      · have h := h.1 c2
        refine am_iload_n (n := 37) d_Covering_firstGoodCell_36 rfl rfl ?_
        exact am_iret d_Covering_firstGoodCell_37 ⟨v2, rfl, rfl, h⟩
def wp_Covering_firstGoodCell (I : am_TI) (L : am_TL) (R : am_TR) (q : Nat) (p1 : Int32)  (Q : Int32 → Prop) : Prop := (∃ z, wl_Covering_firstGoodCell_2 I L R q p1 Q z 0)
set_option maxRecDepth 20000 in
theorem cm_Covering_firstGoodCell {d : Nat} {I : am_TI} {L : am_TL} {R : am_TR}  (hw : am_Wf R)   {q : Nat} {p1 : Int32} {Q : Int32 → Prop} (hd : 0 ≤ d) (hq : am_SH[q]? = some (.inl 0)) (h : wp_Covering_firstGoodCell I L R q p1  Q) : am_Cm d 0 0 y_Covering_firstGoodCell b_Covering_firstGoodCell 3 (some .int) [.ref q, .int p1] (I, L, R, am_SH) (po_Covering_firstGoodCell I L R Q) := by
  refine am_Cm_of (ini := false) (by decide +kernel) (fun z => by cases z) (by simp [Value.category]) (fun r σ' z => by obtain ⟨x, rfl, -⟩ := z; exact ⟨_, rfl, rfl⟩) ?_
  unfold wp_Covering_firstGoodCell at h
  show am_Wp (d, "UnseenRing$Covering", b_Covering_firstGoodCell, 3, false) 0 0 0 [some (.ref q), some (.int p1), none] [] (I, L, R, am_SH) (po_Covering_firstGoodCell I L R Q)
  refine am_iconst (n := 1) d_Covering_firstGoodCell_0 ci_0 rfl ?_
  refine am_istore_n (ls' := [some (.ref q), some (.int p1), some (.int 0)]) (n := 2) d_Covering_firstGoodCell_1 (by decide) rfl rfl ?_
  obtain ⟨n, h⟩ := h
  exact tl_Covering_firstGoodCell_2 hw hq hd n 0 h
abbrev po_Covering_cellOfRow (I : am_TI) (L : am_TL) (R : am_TR) (Q : Int32 → Prop) : Option Value → am_St → Prop := fun r σ' => ∃ (x : Int32), r = some (.int x) ∧ σ' = (I, L, R, am_SH) ∧ Q x
def wl_Covering_cellOfRow_10 (I : am_TI) (L : am_TL) (R : am_TR) (q : Nat) (p1 : Int32) (Q : Int32 → Prop)  : Nat → Int32 → Int32 → Int32 → Prop
  | 0 => fun _ _ _ => False
  | f10 + 1 => fun v2 v3 v4 => ((p1 < v4 → Q v3) ∧ (¬ p1 < v4 → wp_Covering_firstGoodCell I L R q v2 (fun (r1 : Int32) => ((r1 = (-1) → wl_Covering_cellOfRow_10 I L R q p1 Q f10 v2 r1 (v4 + 1)) ∧ (¬ r1 = (-1) → (vp_in r1 25 ∧ wl_Covering_cellOfRow_10 I L R q p1 Q f10 (v2 &&& ((I (q + 1) (Int32.toNatClampNeg r1)) ^^^ (-1))) r1 (v4 + 1)))))))
set_option maxRecDepth 20000 in
theorem tl_Covering_cellOfRow_10 {d : Nat}  {I : am_TI} {L : am_TL} {R : am_TR} {q : Nat} {p1 : Int32} {Q : Int32 → Prop}  (hw : am_Wf R) (hq : am_SH[q]? = some (.inl 0)) (hd : 1 ≤ d) : ∀ (n : Nat) (v2 : Int32) (v3 : Int32) (v4 : Int32), wl_Covering_cellOfRow_10 I L R q p1 Q  n v2 v3 v4 → am_Wp (d, "UnseenRing$Covering", b_Covering_cellOfRow, 5, false) 0 0 10 [some (.ref q), some (.int p1), some (.int v2), some (.int v3), some (.int v4)] [] (I, L, R, am_SH) (po_Covering_cellOfRow I L R Q) := by
  intro n
  induction n with
  | zero => intro v2 v3 v4 h; exact h.elim
  | succ n ih =>
    intro v2 v3 v4 h
    unfold wl_Covering_cellOfRow_10 at h
    refine am_iload (n := 12) d_Covering_cellOfRow_10 rfl rfl ?_
    refine am_iload_n (n := 13) d_Covering_cellOfRow_12 rfl rfl ?_
    refine am_icmp_gt (tgt := 48) (n := 16) d_Covering_cellOfRow_13 rfl rfl (fun c1 => ?_) (fun c1 => ?_)
    · have h := h.1 c1
      refine am_iload_n (n := 49) d_Covering_cellOfRow_48 rfl rfl ?_
      exact am_iret d_Covering_cellOfRow_49 ⟨v3, rfl, rfl, h⟩
    · have h := h.2 c1
      refine am_aload_n (n := 17) d_Covering_cellOfRow_16 rfl rfl ?_
      refine am_iload_n (n := 18) d_Covering_cellOfRow_17 rfl rfl ?_
      refine am_callV (kc := 0) (ks := 0) (As := [.int v2]) (n := 21) d_Covering_cellOfRow_18 rfl ce_Covering_firstGoodCell lk_Covering_56 in_Covering_firstGoodCell rfl rfl hq rfl rfl (Nat.le_of_ble_eq_true rfl) (Or.inl rfl) (cm_Covering_firstGoodCell (d := d - 1) hw (by omega) hq h) (by omega) ?_
      rintro _ _ ⟨r1, rfl, rfl, h⟩
      show am_Wp (d, "UnseenRing$Covering", b_Covering_cellOfRow, 5, false) 0 0 21 [some (.ref q), some (.int p1), some (.int v2), some (.int v3), some (.int v4)] [.int r1] (I, L, R, am_SH) (po_Covering_cellOfRow I L R Q)
      refine am_istore_n (ls' := [some (.ref q), some (.int p1), some (.int v2), some (.int r1), some (.int v4)]) (n := 22) d_Covering_cellOfRow_21 (by decide) rfl rfl ?_
      refine am_iload_n (n := 23) d_Covering_cellOfRow_22 rfl rfl ?_
      refine am_iconst (n := 24) d_Covering_cellOfRow_23 ci_m1 rfl ?_
      refine am_icmp_ne (tgt := 31) (n := 27) d_Covering_cellOfRow_24 rfl rfl (fun c2 => ?_) (fun c2 => ?_)
      · have h := h.2 c2
        refine am_iload_n (n := 32) d_Covering_cellOfRow_31 rfl rfl ?_
        refine am_aload_n (n := 33) d_Covering_cellOfRow_32 rfl rfl ?_
        refine am_getR (x := (q + 1)) (n := 36) f_Covering_9 d_Covering_cellOfRow_33 rfl rfl hq (hw.1 q 0 0 1 hq rfl) ?_
        refine am_iload_n (n := 37) d_Covering_cellOfRow_36 rfl rfl ?_
        obtain ⟨g1, h⟩ := h
        refine am_iald2 (n := 38) d_Covering_cellOfRow_37 rfl (am_sho (k := 0) (o := 1) hq (by decide) (by decide) (by decide) rfl) g1 rfl ?_
        refine am_iconst (n := 39) d_Covering_cellOfRow_38 ci_m1 rfl ?_
        refine am_ixor (n := 40) d_Covering_cellOfRow_39 rfl ?_
        refine am_iand (n := 41) d_Covering_cellOfRow_40 rfl ?_
        refine am_istore_n (ls' := [some (.ref q), some (.int p1), some (.int (v2 &&& ((I (q + 1) (Int32.toNatClampNeg r1)) ^^^ (-1)))), some (.int r1), some (.int v4)]) (n := 42) d_Covering_cellOfRow_41 (by decide) rfl rfl ?_
        refine am_iinc (v := v4 + 1) (ls' := [some (.ref q), some (.int p1), some (.int (v2 &&& ((I (q + 1) (Int32.toNatClampNeg r1)) ^^^ (-1)))), some (.int r1), some (.int (v4 + 1))]) (n := 45) d_Covering_cellOfRow_42 rfl (congrArg _ ci_1) (by decide) rfl rfl ?_
        refine am_goto (tgt := 10) d_Covering_cellOfRow_45 rfl ?_
        exact ih (v2 &&& ((I (q + 1) (Int32.toNatClampNeg r1)) ^^^ (-1))) r1 (v4 + 1)  h
      · have h := h.1 c2
        refine am_iload_n (n := 28) d_Covering_cellOfRow_27 rfl rfl ?_
        refine am_goto (tgt := 41) d_Covering_cellOfRow_28 rfl ?_
        refine am_istore_n (ls' := [some (.ref q), some (.int p1), some (.int v2), some (.int r1), some (.int v4)]) (n := 42) d_Covering_cellOfRow_41 (by decide) rfl rfl ?_
        refine am_iinc (v := v4 + 1) (ls' := [some (.ref q), some (.int p1), some (.int v2), some (.int r1), some (.int (v4 + 1))]) (n := 45) d_Covering_cellOfRow_42 rfl (congrArg _ ci_1) (by decide) rfl rfl ?_
        refine am_goto (tgt := 10) d_Covering_cellOfRow_45 rfl ?_
        exact ih v2 r1 (v4 + 1)  h
def wp_Covering_cellOfRow (I : am_TI) (L : am_TL) (R : am_TR) (q : Nat) (p1 : Int32)  (Q : Int32 → Prop) : Prop := (∃ z, wl_Covering_cellOfRow_10 I L R q p1 Q z (I q 3) (-1) 0)
set_option maxRecDepth 20000 in
theorem cm_Covering_cellOfRow {d : Nat} {I : am_TI} {L : am_TL} {R : am_TR}  (hw : am_Wf R)   {q : Nat} {p1 : Int32} {Q : Int32 → Prop} (hd : 1 ≤ d) (hq : am_SH[q]? = some (.inl 0)) (h : wp_Covering_cellOfRow I L R q p1  Q) : am_Cm d 0 0 y_Covering_cellOfRow b_Covering_cellOfRow 5 (some .int) [.ref q, .int p1] (I, L, R, am_SH) (po_Covering_cellOfRow I L R Q) := by
  refine am_Cm_of (ini := false) (by decide +kernel) (fun z => by cases z) (by simp [Value.category]) (fun r σ' z => by obtain ⟨x, rfl, -⟩ := z; exact ⟨_, rfl, rfl⟩) ?_
  unfold wp_Covering_cellOfRow at h
  show am_Wp (d, "UnseenRing$Covering", b_Covering_cellOfRow, 5, false) 0 0 0 [some (.ref q), some (.int p1), none, none, none] [] (I, L, R, am_SH) (po_Covering_cellOfRow I L R Q)
  refine am_aload_n (n := 1) d_Covering_cellOfRow_0 rfl rfl ?_
  refine am_getI (n := 4) f_Covering_22 d_Covering_cellOfRow_1 rfl rfl hq ?_
  refine am_istore_n (ls' := [some (.ref q), some (.int p1), some (.int (I q 3)), none, none]) (n := 5) d_Covering_cellOfRow_4 (by decide) rfl rfl ?_
  refine am_iconst (n := 6) d_Covering_cellOfRow_5 ci_m1 rfl ?_
  refine am_istore_n (ls' := [some (.ref q), some (.int p1), some (.int (I q 3)), some (.int (-1)), none]) (n := 7) d_Covering_cellOfRow_6 (by decide) rfl rfl ?_
  refine am_iconst (n := 8) d_Covering_cellOfRow_7 ci_0 rfl ?_
  refine am_istore (ls' := [some (.ref q), some (.int p1), some (.int (I q 3)), some (.int (-1)), some (.int 0)]) (n := 10) d_Covering_cellOfRow_8 (by decide) rfl rfl ?_
  obtain ⟨n, h⟩ := h
  exact tl_Covering_cellOfRow_10 hw hq hd n (I q 3) (-1) 0 h
abbrev po_U_coverAt (L : am_TL) (R : am_TR) (Q : Int32 → am_TI → Prop) : Option Value → am_St → Prop := fun r σ' => ∃ (x : Int32) (I' : am_TI), r = some (.int x) ∧ σ' = (I', L, R, am_SH) ∧ Q x I'
def wb_U_coverAt_52 (L : am_TL) (R : am_TR) (q : Nat) (p1 : Int32) (p2 : Int32) (p3 : Int32) (Q : Int32 → am_TI → Prop)  (I : am_TI) (s0 : Nat) (s1 : Int32) : Prop := wp_U_answeredIfThereIs I L R s0 s1 (fun (r3 : Int32) (I2 : am_TI) => Q r3 I2)
set_option maxRecDepth 20000 in
theorem tb_U_coverAt_52 {d : Nat}  {L : am_TL} {R : am_TR} {q : Nat} {p1 : Int32} {p2 : Int32} {p3 : Int32} {Q : Int32 → am_TI → Prop}  (hw : am_Wf R) (hq : am_SH[q]? = some (.inl 11)) (hd : 5 ≤ d) (I : am_TI) (s0 : Nat) (s1 : Int32) (hs0 : am_SH[s0]? = some (.inl 11)) (h : wb_U_coverAt_52 L R q p1 p2 p3 Q  I s0 s1) : am_Wp (d, "UnseenRing", b_U_coverAt, 5, false) 0 0 52 [some (.ref q), some (.int p1), some (.int p2), some (.int p3), none] [.int s1, .ref s0] (I, L, R, am_SH) (po_U_coverAt L R Q) := by
  unfold wb_U_coverAt_52 at h
  refine am_callV (kc := 0) (ks := 0) (As := [.int s1]) (n := 55) d_U_coverAt_52 rfl ce_U_answeredIfThereIs lk_U_301 in_U_answeredIfThereIs rfl rfl hs0 rfl rfl (Nat.le_of_ble_eq_true rfl) (Or.inl rfl) (cm_U_answeredIfThereIs (d := d - 1) hw (by omega) hs0 h) (by omega) ?_
  rintro _ _ ⟨r3, I2, rfl, rfl, h⟩
  show am_Wp (d, "UnseenRing", b_U_coverAt, 5, false) 0 0 55 [some (.ref q), some (.int p1), some (.int p2), some (.int p3), none] [.int r3] (I2, L, R, am_SH) (po_U_coverAt L R Q)
  exact am_iret d_U_coverAt_55 ⟨r3, I2, rfl, rfl, h⟩
def wb_U_coverAt_14 (L : am_TL) (R : am_TR) (q : Nat) (p1 : Int32) (p2 : Int32) (p3 : Int32) (Q : Int32 → am_TI → Prop)  (I : am_TI) (s0 : Int32) : Prop := ((s0 = 0 → wp_Covering_fewestThrows I L R (q + 24) (fun (r2 : Int32) => ((r2 ≤ p3 → wb_U_coverAt_52 L R q p1 p2 p3 Q I q (-1)) ∧ (¬ r2 ≤ p3 → wp_Covering_cellOfRow I L R (q + 24) p3 (fun (r4 : Int32) => wb_U_coverAt_52 L R q p1 p2 p3 Q I q r4))))) ∧ (¬ s0 = 0 → wp_U_refused I L R q s0 (fun (r5 : Int32) (I3 : am_TI) => Q r5 I3)))
set_option maxRecDepth 20000 in
theorem tb_U_coverAt_14 {d : Nat}  {L : am_TL} {R : am_TR} {q : Nat} {p1 : Int32} {p2 : Int32} {p3 : Int32} {Q : Int32 → am_TI → Prop}  (hw : am_Wf R) (hq : am_SH[q]? = some (.inl 11)) (hd : 5 ≤ d) (I : am_TI) (s0 : Int32) (h : wb_U_coverAt_14 L R q p1 p2 p3 Q  I s0) : am_Wp (d, "UnseenRing", b_U_coverAt, 5, false) 0 0 14 [some (.ref q), some (.int p1), some (.int p2), some (.int p3), none] [.int s0] (I, L, R, am_SH) (po_U_coverAt L R Q) := by
  unfold wb_U_coverAt_14 at h
  refine am_istore (ls' := [some (.ref q), some (.int p1), some (.int p2), some (.int p3), some (.int s0)]) (n := 16) d_U_coverAt_14 (by decide) rfl rfl ?_
  refine am_iload (n := 18) d_U_coverAt_16 rfl rfl ?_
  refine am_if_eq (y := 0) (tgt := 28) (n := 21) d_U_coverAt_18 rfl rfl (fun c2 => ?_) (fun c2 => ?_)
  · have h := h.1 c2
    refine am_aload_n (n := 29) d_U_coverAt_28 rfl rfl ?_
    refine am_iload_n (n := 30) d_U_coverAt_29 rfl rfl ?_
    refine am_aload_n (n := 31) d_U_coverAt_30 rfl rfl ?_
    refine am_getR (x := (q + 24)) (n := 34) f_U_69 d_U_coverAt_31 rfl rfl hq (hw.1 q 11 9 24 hq rfl) ?_
    refine am_callV (kc := 0) (ks := 0) (As := []) (n := 37) d_U_coverAt_34 rfl ce_Covering_fewestThrows lk_U_342 in_Covering_fewestThrows rfl rfl (am_sho (k := 9) (o := 24) hq (by decide) (by decide) (by decide) rfl) rfl rfl (Nat.le_of_ble_eq_true rfl) (Or.inl rfl) (cm_Covering_fewestThrows (d := d - 1) hw (by omega) (am_sho (k := 9) (o := 24) hq (by decide) (by decide) (by decide) rfl) h) (by omega) ?_
    rintro _ _ ⟨r2, rfl, rfl, h⟩
    show am_Wp (d, "UnseenRing", b_U_coverAt, 5, false) 0 0 37 [some (.ref q), some (.int p1), some (.int p2), some (.int p3), some (.int s0)] [.int r2, .int p3, .ref q] (I, L, R, am_SH) (po_U_coverAt L R Q)
    refine am_icmp_ge (tgt := 51) (n := 40) d_U_coverAt_37 rfl rfl (fun c3 => ?_) (fun c3 => ?_)
    · have h := h.1 c3
      refine am_iconst (n := 52) d_U_coverAt_51 ci_m1 rfl ?_
      refine am_forget (ls' := [some (.ref q), some (.int p1), some (.int p2), some (.int p3), none]) (am_le_s (am_le_s (am_le_s (am_le_s (am_le_n am_le_e))))) ?_
      exact tb_U_coverAt_52 hw hq hd I q (-1) hq h
    · have h := h.2 c3
      refine am_aload_n (n := 41) d_U_coverAt_40 rfl rfl ?_
      refine am_getR (x := (q + 24)) (n := 44) f_U_69 d_U_coverAt_41 rfl rfl hq (hw.1 q 11 9 24 hq rfl) ?_
      refine am_iload_n (n := 45) d_U_coverAt_44 rfl rfl ?_
      refine am_callV (kc := 0) (ks := 0) (As := [.int p3]) (n := 48) d_U_coverAt_45 rfl ce_Covering_cellOfRow lk_U_345 in_Covering_cellOfRow rfl rfl (am_sho (k := 9) (o := 24) hq (by decide) (by decide) (by decide) rfl) rfl rfl (Nat.le_of_ble_eq_true rfl) (Or.inl rfl) (cm_Covering_cellOfRow (d := d - 1) hw (by omega) (am_sho (k := 9) (o := 24) hq (by decide) (by decide) (by decide) rfl) h) (by omega) ?_
      rintro _ _ ⟨r4, rfl, rfl, h⟩
      show am_Wp (d, "UnseenRing", b_U_coverAt, 5, false) 0 0 48 [some (.ref q), some (.int p1), some (.int p2), some (.int p3), some (.int s0)] [.int r4, .ref q] (I, L, R, am_SH) (po_U_coverAt L R Q)
      refine am_goto (tgt := 52) d_U_coverAt_48 rfl ?_
      refine am_forget (ls' := [some (.ref q), some (.int p1), some (.int p2), some (.int p3), none]) (am_le_s (am_le_s (am_le_s (am_le_s (am_le_n am_le_e))))) ?_
      exact tb_U_coverAt_52 hw hq hd I q r4 hq h
  · have h := h.2 c2
    refine am_aload_n (n := 22) d_U_coverAt_21 rfl rfl ?_
    refine am_iload (n := 24) d_U_coverAt_22 rfl rfl ?_
    refine am_callV (kc := 0) (ks := 0) (As := [.int s0]) (n := 27) d_U_coverAt_24 rfl ce_U_refused lk_U_133 in_U_refused rfl rfl hq rfl rfl (Nat.le_of_ble_eq_true rfl) (Or.inl rfl) (cm_U_refused (d := d - 1) hw (by omega) hq h) (by omega) ?_
    rintro _ _ ⟨r5, I3, rfl, rfl, h⟩
    show am_Wp (d, "UnseenRing", b_U_coverAt, 5, false) 0 0 27 [some (.ref q), some (.int p1), some (.int p2), some (.int p3), some (.int s0)] [.int r5] (I3, L, R, am_SH) (po_U_coverAt L R Q)
    exact am_iret d_U_coverAt_27 ⟨r5, I3, rfl, rfl, h⟩
def wp_U_coverAt (I : am_TI) (L : am_TL) (R : am_TR) (q : Nat) (p1 : Int32) (p2 : Int32) (p3 : Int32)  (Q : Int32 → am_TI → Prop) : Prop := ((0 ≤ p3 → wp_U_coverStatus I L R q p1 p2 (fun (r1 : Int32) (I1 : am_TI) => wb_U_coverAt_14 L R q p1 p2 p3 Q I1 r1)) ∧ (¬ 0 ≤ p3 → wb_U_coverAt_14 L R q p1 p2 p3 Q I 1))
set_option maxRecDepth 20000 in
theorem cm_U_coverAt {d : Nat} {I : am_TI} {L : am_TL} {R : am_TR}  (hw : am_Wf R)   {q : Nat} {p1 : Int32} {p2 : Int32} {p3 : Int32} {Q : Int32 → am_TI → Prop} (hd : 5 ≤ d) (hq : am_SH[q]? = some (.inl 11)) (h : wp_U_coverAt I L R q p1 p2 p3  Q) : am_Cm d 0 0 y_U_coverAt b_U_coverAt 5 (some .int) [.ref q, .int p1, .int p2, .int p3] (I, L, R, am_SH) (po_U_coverAt L R Q) := by
  refine am_Cm_of (ini := false) (by decide +kernel) (fun z => by cases z) (by simp [Value.category]) (fun r σ' z => by obtain ⟨x, _, rfl, -⟩ := z; exact ⟨_, rfl, rfl⟩) ?_
  unfold wp_U_coverAt at h
  show am_Wp (d, "UnseenRing", b_U_coverAt, 5, false) 0 0 0 [some (.ref q), some (.int p1), some (.int p2), some (.int p3), none] [] (I, L, R, am_SH) (po_U_coverAt L R Q)
  refine am_iload_n (n := 1) d_U_coverAt_0 rfl rfl ?_
  refine am_if_ge (y := 0) (tgt := 8) (n := 4) d_U_coverAt_1 rfl rfl (fun c1 => ?_) (fun c1 => ?_)
  · have h := h.1 c1
    refine am_aload_n (n := 9) d_U_coverAt_8 rfl rfl ?_
    refine am_iload_n (n := 10) d_U_coverAt_9 rfl rfl ?_
    refine am_iload_n (n := 11) d_U_coverAt_10 rfl rfl ?_
    refine am_callV (kc := 0) (ks := 0) (As := [.int p1, .int p2]) (n := 14) d_U_coverAt_11 rfl ce_U_coverStatus lk_U_339 in_U_coverStatus rfl rfl hq rfl rfl (Nat.le_of_ble_eq_true rfl) (Or.inl rfl) (cm_U_coverStatus (d := d - 1) hw (by omega) hq h) (by omega) ?_
    rintro _ _ ⟨r1, I1, rfl, rfl, h⟩
    show am_Wp (d, "UnseenRing", b_U_coverAt, 5, false) 0 0 14 [some (.ref q), some (.int p1), some (.int p2), some (.int p3), none] [.int r1] (I1, L, R, am_SH) (po_U_coverAt L R Q)
    exact tb_U_coverAt_14 hw hq hd I1 r1 h
  · have h := h.2 c1
    refine am_iconst (n := 5) d_U_coverAt_4 ci_1 rfl ?_
    refine am_goto (tgt := 14) d_U_coverAt_5 rfl ?_
    exact tb_U_coverAt_14 hw hq hd I 1 h
abbrev po_U_doesFit (I : am_TI) (L : am_TL) (R : am_TR) (Q : Bool → Prop) : Option Value → am_St → Prop := fun r σ' => ∃ (x : Bool), r = some (.int (am_b x)) ∧ σ' = (I, L, R, am_SH) ∧ Q x
def wb_U_doesFit_49 (I : am_TI) (L : am_TL) (R : am_TR) (q : Nat) (p1 : Int32) (p2 : Int32) (p3 : Nat) (p4 : Int32) (Q : Bool → Prop) (K13 : Int32 → Int32 → Prop) (v5 : Int32) (v6 : Int32) : Prop := wp_Tray_numberAt I L R p3 ((2 * v6) + 1) (fun (r3 : Int64) => (((Int32.toInt64 v5) = r3 → K13 v5 (v6 + 1)) ∧ (¬ (Int32.toInt64 v5) = r3 → Q false)))
set_option maxRecDepth 20000 in
theorem tb_U_doesFit_49 {d : Nat}  {I : am_TI} {L : am_TL} {R : am_TR} {q : Nat} {p1 : Int32} {p2 : Int32} {p3 : Nat} {p4 : Int32} {Q : Bool → Prop} {K13 : Int32 → Int32 → Prop} (hw : am_Wf R) (hq : am_SH[q]? = some (.inl 11)) (hp3 : am_SH[p3]? = some (.inl 10)) (hK13 : ∀ (v5 : Int32) (v6 : Int32), K13 v5 v6 → am_Wp (d, "UnseenRing", b_U_doesFit, 8, false) 0 0 13 [some (.ref q), some (.int p1), some (.int p2), some (.ref p3), some (.int p4), some (.int v5), some (.int v6), none] [] (I, L, R, am_SH) (po_U_doesFit I L R Q)) (hd : 3 ≤ d) (v5 : Int32) (v6 : Int32) (h : wb_U_doesFit_49 I L R q p1 p2 p3 p4 Q K13 v5 v6) : am_Wp (d, "UnseenRing", b_U_doesFit, 8, false) 0 0 49 [some (.ref q), some (.int p1), some (.int p2), some (.ref p3), some (.int p4), some (.int v5), some (.int v6), none] [] (I, L, R, am_SH) (po_U_doesFit I L R Q) := by
  unfold wb_U_doesFit_49 at h
  refine am_iload (n := 51) d_U_doesFit_49 rfl rfl ?_
  refine am_i2l (n := 52) d_U_doesFit_51 rfl ?_
  refine am_aload_n (n := 53) d_U_doesFit_52 rfl rfl ?_
  refine am_iconst (n := 54) d_U_doesFit_53 ci_2 rfl ?_
  refine am_iload (n := 56) d_U_doesFit_54 rfl rfl ?_
  refine am_imul (n := 57) d_U_doesFit_56 rfl ?_
  refine am_iconst (n := 58) d_U_doesFit_57 ci_1 rfl ?_
  refine am_iadd (n := 59) d_U_doesFit_58 rfl ?_
  refine am_callV (kc := 0) (ks := 0) (As := [.int ((2 * v6) + 1)]) (n := 62) d_U_doesFit_59 rfl ce_Tray_numberAt lk_U_137 in_Tray_numberAt rfl rfl hp3 rfl rfl (Nat.le_of_ble_eq_true rfl) (Or.inl rfl) (cm_Tray_numberAt (d := d - 1) hw (by omega) hp3 h) (by omega) ?_
  rintro _ _ ⟨r3, rfl, rfl, h⟩
  show am_Wp (d, "UnseenRing", b_U_doesFit, 8, false) 0 0 62 [some (.ref q), some (.int p1), some (.int p2), some (.ref p3), some (.int p4), some (.int v5), some (.int v6), none] [.long r3, .long (Int32.toInt64 v5)] (I, L, R, am_SH) (po_U_doesFit I L R Q)
  refine am_lcmp (n := 63) d_U_doesFit_62 rfl ?_
  refine am_if_eq (y := 0) (tgt := 68) (n := 66) d_U_doesFit_63 rfl rfl (fun c3 => ?_) (fun c3 => ?_)
  · have h := h.1 (am_cmp_eq.mp c3)
    refine am_iinc (v := v6 + 1) (ls' := [some (.ref q), some (.int p1), some (.int p2), some (.ref p3), some (.int p4), some (.int v5), some (.int (v6 + 1)), none]) (n := 71) d_U_doesFit_68 rfl (congrArg _ ci_1) (by decide) rfl rfl ?_
    refine am_goto (tgt := 13) d_U_doesFit_71 rfl ?_
    exact hK13 v5 (v6 + 1)  h
  · have h := h.2 (fun z => c3 (am_cmp_eq.mpr z))
    refine am_iconst (n := 67) d_U_doesFit_66 ci_0 rfl ?_
    exact am_iret d_U_doesFit_67 ⟨false, rfl, rfl, h⟩
def wl_U_doesFit_13 (I : am_TI) (L : am_TL) (R : am_TR) (q : Nat) (p1 : Int32) (p2 : Int32) (p3 : Nat) (p4 : Int32) (Q : Bool → Prop)  : Nat → Int32 → Int32 → Prop
  | 0 => fun _ _ => False
  | f13 + 1 => fun v5 v6 => ((p4 ≤ v6 → Q true) ∧ (¬ p4 ≤ v6 → wp_Tray_numberAt I L R p3 (2 * v6) (fun (r2 : Int64) => ((v5 ≤ 0 → wb_U_doesFit_49 I L R q p1 p2 p3 p4 Q (wl_U_doesFit_13 I L R q p1 p2 p3 p4 Q f13) v5 v6) ∧ (¬ v5 ≤ 0 → ((((p1 >>> ((Int64.toInt32 r2) &&& 31)) &&& 1) = 1 → wb_U_doesFit_49 I L R q p1 p2 p3 p4 Q (wl_U_doesFit_13 I L R q p1 p2 p3 p4 Q f13) (v5 + (-1)) v6) ∧ (¬ ((p1 >>> ((Int64.toInt32 r2) &&& 31)) &&& 1) = 1 → wb_U_doesFit_49 I L R q p1 p2 p3 p4 Q (wl_U_doesFit_13 I L R q p1 p2 p3 p4 Q f13) v5 v6)))))))
set_option maxRecDepth 20000 in
theorem tl_U_doesFit_13 {d : Nat}  {I : am_TI} {L : am_TL} {R : am_TR} {q : Nat} {p1 : Int32} {p2 : Int32} {p3 : Nat} {p4 : Int32} {Q : Bool → Prop}  (hw : am_Wf R) (hq : am_SH[q]? = some (.inl 11)) (hp3 : am_SH[p3]? = some (.inl 10)) (hd : 3 ≤ d) : ∀ (n : Nat) (v5 : Int32) (v6 : Int32), wl_U_doesFit_13 I L R q p1 p2 p3 p4 Q  n v5 v6 → am_Wp (d, "UnseenRing", b_U_doesFit, 8, false) 0 0 13 [some (.ref q), some (.int p1), some (.int p2), some (.ref p3), some (.int p4), some (.int v5), some (.int v6), none] [] (I, L, R, am_SH) (po_U_doesFit I L R Q) := by
  intro n
  induction n with
  | zero => intro v5 v6 h; exact h.elim
  | succ n ih =>
    intro v5 v6 h
    unfold wl_U_doesFit_13 at h
    refine am_iload (n := 15) d_U_doesFit_13 rfl rfl ?_
    refine am_iload (n := 17) d_U_doesFit_15 rfl rfl ?_
    refine am_icmp_ge (tgt := 74) (n := 20) d_U_doesFit_17 rfl rfl (fun c1 => ?_) (fun c1 => ?_)
    · have h := h.1 c1
      refine am_iconst (n := 75) d_U_doesFit_74 ci_1 rfl ?_
      exact am_iret d_U_doesFit_75 ⟨true, rfl, rfl, h⟩
    · have h := h.2 c1
      refine am_aload_n (n := 21) d_U_doesFit_20 rfl rfl ?_
      refine am_iconst (n := 22) d_U_doesFit_21 ci_2 rfl ?_
      refine am_iload (n := 24) d_U_doesFit_22 rfl rfl ?_
      refine am_imul (n := 25) d_U_doesFit_24 rfl ?_
      refine am_callV (kc := 0) (ks := 0) (As := [.int (2 * v6)]) (n := 28) d_U_doesFit_25 rfl ce_Tray_numberAt lk_U_137 in_Tray_numberAt rfl rfl hp3 rfl rfl (Nat.le_of_ble_eq_true rfl) (Or.inl rfl) (cm_Tray_numberAt (d := d - 1) hw (by omega) hp3 h) (by omega) ?_
      rintro _ _ ⟨r2, rfl, rfl, h⟩
      show am_Wp (d, "UnseenRing", b_U_doesFit, 8, false) 0 0 28 [some (.ref q), some (.int p1), some (.int p2), some (.ref p3), some (.int p4), some (.int v5), some (.int v6), none] [.long r2] (I, L, R, am_SH) (po_U_doesFit I L R Q)
      refine am_l2i (n := 29) d_U_doesFit_28 rfl ?_
      refine am_istore (ls' := [some (.ref q), some (.int p1), some (.int p2), some (.ref p3), some (.int p4), some (.int v5), some (.int v6), some (.int (Int64.toInt32 r2))]) (n := 31) d_U_doesFit_29 (by decide) rfl rfl ?_
      refine am_iload (n := 33) d_U_doesFit_31 rfl rfl ?_
      refine am_if_le (y := 0) (tgt := 49) (n := 36) d_U_doesFit_33 rfl rfl (fun c2 => ?_) (fun c2 => ?_)
      · have h := h.1 c2
        refine am_forget (ls' := [some (.ref q), some (.int p1), some (.int p2), some (.ref p3), some (.int p4), some (.int v5), some (.int v6), none]) (am_le_s (am_le_s (am_le_s (am_le_s (am_le_s (am_le_s (am_le_s (am_le_n am_le_e)))))))) ?_
        exact tb_U_doesFit_49 hw hq hp3 ih hd v5 v6 h
      · have h := h.2 c2
        refine am_iload_n (n := 37) d_U_doesFit_36 rfl rfl ?_
        refine am_iload (n := 39) d_U_doesFit_37 rfl rfl ?_
        refine am_ishr (n := 40) d_U_doesFit_39 rfl ?_
        refine am_iconst (n := 41) d_U_doesFit_40 ci_1 rfl ?_
        refine am_iand (n := 42) d_U_doesFit_41 rfl ?_
        refine am_iconst (n := 43) d_U_doesFit_42 ci_1 rfl ?_
        refine am_icmp_ne (tgt := 49) (n := 46) d_U_doesFit_43 rfl rfl (fun c4 => ?_) (fun c4 => ?_)
        · have h := h.2 c4
          refine am_forget (ls' := [some (.ref q), some (.int p1), some (.int p2), some (.ref p3), some (.int p4), some (.int v5), some (.int v6), none]) (am_le_s (am_le_s (am_le_s (am_le_s (am_le_s (am_le_s (am_le_s (am_le_n am_le_e)))))))) ?_
          exact tb_U_doesFit_49 hw hq hp3 ih hd v5 v6 h
        · have h := h.1 c4
          refine am_iinc (v := v5 + (-1)) (ls' := [some (.ref q), some (.int p1), some (.int p2), some (.ref p3), some (.int p4), some (.int (v5 + (-1))), some (.int v6), some (.int (Int64.toInt32 r2))]) (n := 49) d_U_doesFit_46 rfl (congrArg _ ci_m1) (by decide) rfl rfl ?_
          refine am_forget (ls' := [some (.ref q), some (.int p1), some (.int p2), some (.ref p3), some (.int p4), some (.int (v5 + (-1))), some (.int v6), none]) (am_le_s (am_le_s (am_le_s (am_le_s (am_le_s (am_le_s (am_le_s (am_le_n am_le_e)))))))) ?_
          exact tb_U_doesFit_49 hw hq hp3 ih hd (v5 + (-1)) v6 h
def wp_U_doesFit (I : am_TI) (L : am_TL) (R : am_TR) (q : Nat) (p1 : Int32) (p2 : Int32) (p3 : Nat) (p4 : Int32)  (Q : Bool → Prop) : Prop := wp_Square_farFromOrgan I L R (am_rd R q 11) p2 (fun (r1 : Int32) => (∃ z, wl_U_doesFit_13 I L R q p1 p2 p3 p4 Q z r1 0))
set_option maxRecDepth 20000 in
theorem cm_U_doesFit {d : Nat} {I : am_TI} {L : am_TL} {R : am_TR}  (hw : am_Wf R)   {q : Nat} {p1 : Int32} {p2 : Int32} {p3 : Nat} {p4 : Int32} {Q : Bool → Prop} (hd : 3 ≤ d) (hq : am_SH[q]? = some (.inl 11)) (hp3 : am_SH[p3]? = some (.inl 10)) (h : wp_U_doesFit I L R q p1 p2 p3 p4  Q) : am_Cm d 0 0 y_U_doesFit b_U_doesFit 8 (some .boolean) [.ref q, .int p1, .int p2, .ref p3, .int p4] (I, L, R, am_SH) (po_U_doesFit I L R Q) := by
  refine am_Cm_of (ini := false) (by decide +kernel) (fun z => by cases z) (by simp [Value.category]) (fun r σ' z => by obtain ⟨x, rfl, -⟩ := z; exact ⟨_, rfl, am_b_nar x⟩) ?_
  unfold wp_U_doesFit at h
  show am_Wp (d, "UnseenRing", b_U_doesFit, 8, false) 0 0 0 [some (.ref q), some (.int p1), some (.int p2), some (.ref p3), some (.int p4), none, none, none] [] (I, L, R, am_SH) (po_U_doesFit I L R Q)
  refine am_aload_n (n := 1) d_U_doesFit_0 rfl rfl ?_
  refine am_getR (x := (am_rd R q 11)) (n := 4) f_U_81 d_U_doesFit_1 rfl rfl hq (hw.rd (k := 11) hq rfl).1 ?_
  refine am_iload_n (n := 5) d_U_doesFit_4 rfl rfl ?_
  refine am_callV (kc := 0) (ks := 0) (As := [.int p2]) (n := 8) d_U_doesFit_5 rfl ce_Square_farFromOrgan lk_U_291 in_Square_farFromOrgan rfl rfl (hw.rd (k := 11) hq rfl).2 rfl rfl (Nat.le_of_ble_eq_true rfl) (Or.inl rfl) (cm_Square_farFromOrgan (d := d - 1) hw (by omega) (hw.rd (k := 11) hq rfl).2 h) (by omega) ?_
  rintro _ _ ⟨r1, rfl, rfl, h⟩
  show am_Wp (d, "UnseenRing", b_U_doesFit, 8, false) 0 0 8 [some (.ref q), some (.int p1), some (.int p2), some (.ref p3), some (.int p4), none, none, none] [.int r1] (I, L, R, am_SH) (po_U_doesFit I L R Q)
  refine am_istore (ls' := [some (.ref q), some (.int p1), some (.int p2), some (.ref p3), some (.int p4), some (.int r1), none, none]) (n := 10) d_U_doesFit_8 (by decide) rfl rfl ?_
  refine am_iconst (n := 11) d_U_doesFit_10 ci_0 rfl ?_
  refine am_istore (ls' := [some (.ref q), some (.int p1), some (.int p2), some (.ref p3), some (.int p4), some (.int r1), some (.int 0), none]) (n := 13) d_U_doesFit_11 (by decide) rfl rfl ?_
  obtain ⟨n, h⟩ := h
  exact tl_U_doesFit_13 hw hq hp3 hd n r1 0 h
abbrev po_U_fitStatus (I : am_TI) (L : am_TL) (R : am_TR) (Q : Int32 → Prop) : Option Value → am_St → Prop := fun r σ' => ∃ (x : Int32), r = some (.int x) ∧ σ' = (I, L, R, am_SH) ∧ Q x
def wl_U_fitStatus_44 (I : am_TI) (L : am_TL) (R : am_TR) (q : Nat) (p1 : Int32) (p2 : Int32) (p3 : Int32) (Q : Int32 → Prop)  : Nat → Int32 → Prop
  | 0 => fun _ => False
  | f44 + 1 => fun v5 => ((p3 ≤ v5 → Q 0) ∧ (¬ p3 ≤ v5 → (vp_in p2 4 ∧ wp_Tray_numberAt I L R (am_rd R (q + 1) (Int32.toNatClampNeg p2)) (2 * v5) (fun (r4 : Int64) => (vp_in p2 4 ∧ wp_Tray_numberAt I L R (am_rd R (q + 1) (Int32.toNatClampNeg p2)) ((2 * v5) + 1) (fun (r5 : Int64) => ((r4 < 0 → Q 5) ∧ (¬ r4 < 0 → (((Int32.toInt64 (I (am_rd R q 11) 10)) ≤ r4 → Q 5) ∧ (¬ (Int32.toInt64 (I (am_rd R q 11) 10)) ≤ r4 → ((r5 < 0 → Q 5) ∧ (¬ r5 < 0 → ((r5 ≤ 8 → wl_U_fitStatus_44 I L R q p1 p2 p3 Q f44 (v5 + 1)) ∧ (¬ r5 ≤ 8 → Q 5))))))))))))))
set_option maxRecDepth 20000 in
theorem tl_U_fitStatus_44 {d : Nat}  {I : am_TI} {L : am_TL} {R : am_TR} {q : Nat} {p1 : Int32} {p2 : Int32} {p3 : Int32} {Q : Int32 → Prop}  (hw : am_Wf R) (hq : am_SH[q]? = some (.inl 11)) (hd : 3 ≤ d) : ∀ (n : Nat) (v5 : Int32), wl_U_fitStatus_44 I L R q p1 p2 p3 Q  n v5 → am_Wp (d, "UnseenRing", b_U_fitStatus, 10, false) 0 0 44 [some (.ref q), some (.int p1), some (.int p2), some (.int p3), none, some (.int v5), none, none, none, none] [] (I, L, R, am_SH) (po_U_fitStatus I L R Q) := by
  intro n
  induction n with
  | zero => intro v5 h; exact h.elim
  | succ n ih =>
    intro v5 h
    unfold wl_U_fitStatus_44 at h
    refine am_iload (n := 46) d_U_fitStatus_44 rfl rfl ?_
    refine am_iload_n (n := 47) d_U_fitStatus_46 rfl rfl ?_
    refine am_icmp_ge (tgt := 127) (n := 50) d_U_fitStatus_47 rfl rfl (fun c4 => ?_) (fun c4 => ?_)
    · have h := h.1 c4
      refine am_iconst (n := 128) d_U_fitStatus_127 ci_0 rfl ?_
      exact am_iret d_U_fitStatus_128 ⟨0, rfl, rfl, h⟩
    · have h := h.2 c4
      refine am_aload_n (n := 51) d_U_fitStatus_50 rfl rfl ?_
      refine am_getR (x := (q + 1)) (n := 54) f_U_11 d_U_fitStatus_51 rfl rfl hq (hw.1 q 11 0 1 hq rfl) ?_
      refine am_iload_n (n := 55) d_U_fitStatus_54 rfl rfl ?_
      obtain ⟨g1, h⟩ := h
      refine am_aald42 (x := (am_rd R (q + 1) (Int32.toNatClampNeg p2))) (n := 56) d_U_fitStatus_55 rfl (am_sho (k := 0) (o := 1) hq (by decide) (by decide) (by decide) rfl) g1 rfl (hw.tray (am_sho (k := 0) (o := 1) hq (by decide) (by decide) (by decide) rfl) (am_in_j g1 rfl)).1 ?_
      refine am_iconst (n := 57) d_U_fitStatus_56 ci_2 rfl ?_
      refine am_iload (n := 59) d_U_fitStatus_57 rfl rfl ?_
      refine am_imul (n := 60) d_U_fitStatus_59 rfl ?_
      refine am_callV (kc := 0) (ks := 0) (As := [.int (2 * v5)]) (n := 63) d_U_fitStatus_60 rfl ce_Tray_numberAt lk_U_137 in_Tray_numberAt rfl rfl (hw.tray (am_sho (k := 0) (o := 1) hq (by decide) (by decide) (by decide) rfl) (am_in_j g1 rfl)).2 rfl rfl (Nat.le_of_ble_eq_true rfl) (Or.inl rfl) (cm_Tray_numberAt (d := d - 1) hw (by omega) (hw.tray (am_sho (k := 0) (o := 1) hq (by decide) (by decide) (by decide) rfl) (am_in_j g1 rfl)).2 h) (by omega) ?_
      rintro _ _ ⟨r4, rfl, rfl, h⟩
      show am_Wp (d, "UnseenRing", b_U_fitStatus, 10, false) 0 0 63 [some (.ref q), some (.int p1), some (.int p2), some (.int p3), none, some (.int v5), none, none, none, none] [.long r4] (I, L, R, am_SH) (po_U_fitStatus I L R Q)
      refine am_lstore (ls' := [some (.ref q), some (.int p1), some (.int p2), some (.int p3), none, some (.int v5), some (.long r4), none, none, none]) (n := 65) d_U_fitStatus_63 (by decide) rfl rfl ?_
      refine am_aload_n (n := 66) d_U_fitStatus_65 rfl rfl ?_
      refine am_getR (x := (q + 1)) (n := 69) f_U_11 d_U_fitStatus_66 rfl rfl hq (hw.1 q 11 0 1 hq rfl) ?_
      refine am_iload_n (n := 70) d_U_fitStatus_69 rfl rfl ?_
      obtain ⟨g2, h⟩ := h
      refine am_aald42 (x := (am_rd R (q + 1) (Int32.toNatClampNeg p2))) (n := 71) d_U_fitStatus_70 rfl (am_sho (k := 0) (o := 1) hq (by decide) (by decide) (by decide) rfl) g2 rfl (hw.tray (am_sho (k := 0) (o := 1) hq (by decide) (by decide) (by decide) rfl) (am_in_j g2 rfl)).1 ?_
      refine am_iconst (n := 72) d_U_fitStatus_71 ci_2 rfl ?_
      refine am_iload (n := 74) d_U_fitStatus_72 rfl rfl ?_
      refine am_imul (n := 75) d_U_fitStatus_74 rfl ?_
      refine am_iconst (n := 76) d_U_fitStatus_75 ci_1 rfl ?_
      refine am_iadd (n := 77) d_U_fitStatus_76 rfl ?_
      refine am_callV (kc := 0) (ks := 0) (As := [.int ((2 * v5) + 1)]) (n := 80) d_U_fitStatus_77 rfl ce_Tray_numberAt lk_U_137 in_Tray_numberAt rfl rfl (hw.tray (am_sho (k := 0) (o := 1) hq (by decide) (by decide) (by decide) rfl) (am_in_j g2 rfl)).2 rfl rfl (Nat.le_of_ble_eq_true rfl) (Or.inl rfl) (cm_Tray_numberAt (d := d - 1) hw (by omega) (hw.tray (am_sho (k := 0) (o := 1) hq (by decide) (by decide) (by decide) rfl) (am_in_j g2 rfl)).2 h) (by omega) ?_
      rintro _ _ ⟨r5, rfl, rfl, h⟩
      show am_Wp (d, "UnseenRing", b_U_fitStatus, 10, false) 0 0 80 [some (.ref q), some (.int p1), some (.int p2), some (.int p3), none, some (.int v5), some (.long r4), none, none, none] [.long r5] (I, L, R, am_SH) (po_U_fitStatus I L R Q)
      refine am_lstore (ls' := [some (.ref q), some (.int p1), some (.int p2), some (.int p3), none, some (.int v5), some (.long r4), none, some (.long r5), none]) (n := 82) d_U_fitStatus_80 (by decide) rfl rfl ?_
      refine am_lload (n := 84) d_U_fitStatus_82 rfl rfl ?_
      refine am_lconst (v := 0) (n := 85) d_U_fitStatus_84 rfl rfl ?_
      refine am_lcmp (n := 86) d_U_fitStatus_85 rfl ?_
      refine am_if_lt (y := 0) (tgt := 119) (n := 89) d_U_fitStatus_86 rfl rfl (fun c5 => ?_) (fun c5 => ?_)
      · have h := h.1 (am_cmp_lt.mp c5)
        refine am_iconst (n := 120) d_U_fitStatus_119 ci_5 rfl ?_
        exact am_iret d_U_fitStatus_120 ⟨5, rfl, rfl, h⟩
      · have h := h.2 (fun z => c5 (am_cmp_lt.mpr z))
        refine am_lload (n := 91) d_U_fitStatus_89 rfl rfl ?_
        refine am_aload_n (n := 92) d_U_fitStatus_91 rfl rfl ?_
        refine am_getR (x := (am_rd R q 11)) (n := 95) f_U_81 d_U_fitStatus_92 rfl rfl hq (hw.rd (k := 11) hq rfl).1 ?_
        refine am_getI (n := 98) f_U_355 d_U_fitStatus_95 rfl rfl (hw.rd (k := 11) hq rfl).2 ?_
        refine am_i2l (n := 99) d_U_fitStatus_98 rfl ?_
        refine am_lcmp (n := 100) d_U_fitStatus_99 rfl ?_
        refine am_if_ge (y := 0) (tgt := 119) (n := 103) d_U_fitStatus_100 rfl rfl (fun c6 => ?_) (fun c6 => ?_)
        · have h := h.1 (am_cmp_ge.mp c6)
          refine am_iconst (n := 120) d_U_fitStatus_119 ci_5 rfl ?_
          exact am_iret d_U_fitStatus_120 ⟨5, rfl, rfl, h⟩
        · have h := h.2 (fun z => c6 (am_cmp_ge.mpr z))
          refine am_lload (n := 105) d_U_fitStatus_103 rfl rfl ?_
          refine am_lconst (v := 0) (n := 106) d_U_fitStatus_105 rfl rfl ?_
          refine am_lcmp (n := 107) d_U_fitStatus_106 rfl ?_
          refine am_if_lt (y := 0) (tgt := 119) (n := 110) d_U_fitStatus_107 rfl rfl (fun c7 => ?_) (fun c7 => ?_)
          · have h := h.1 (am_cmp_lt.mp c7)
            refine am_iconst (n := 120) d_U_fitStatus_119 ci_5 rfl ?_
            exact am_iret d_U_fitStatus_120 ⟨5, rfl, rfl, h⟩
          · have h := h.2 (fun z => c7 (am_cmp_lt.mpr z))
            refine am_lload (n := 112) d_U_fitStatus_110 rfl rfl ?_
            refine am_ldc2 (n := 115) d_U_fitStatus_112 k_U_362 rfl ?_
            refine am_lcmp (n := 116) d_U_fitStatus_115 rfl ?_
            refine am_if_le (y := 0) (tgt := 121) (n := 119) d_U_fitStatus_116 rfl rfl (fun c8 => ?_) (fun c8 => ?_)
            · have h := h.1 (am_cmp_le.mp c8)
              refine am_iinc (v := v5 + 1) (ls' := [some (.ref q), some (.int p1), some (.int p2), some (.int p3), none, some (.int (v5 + 1)), some (.long r4), none, some (.long r5), none]) (n := 124) d_U_fitStatus_121 rfl (congrArg _ ci_1) (by decide) rfl rfl ?_
              refine am_goto (tgt := 44) d_U_fitStatus_124 rfl ?_
              refine am_forget (ls' := [some (.ref q), some (.int p1), some (.int p2), some (.int p3), none, some (.int (v5 + 1)), none, none, none, none]) (am_le_s (am_le_s (am_le_s (am_le_s (am_le_n (am_le_s (am_le_n (am_le_n (am_le_n (am_le_n am_le_e)))))))))) ?_
              exact ih (v5 + 1)  h
            · have h := h.2 (fun z => c8 (am_cmp_le.mpr z))
              refine am_iconst (n := 120) d_U_fitStatus_119 ci_5 rfl ?_
              exact am_iret d_U_fitStatus_120 ⟨5, rfl, rfl, h⟩
def wp_U_fitStatus (I : am_TI) (L : am_TL) (R : am_TR) (q : Nat) (p1 : Int32) (p2 : Int32) (p3 : Int32)  (Q : Int32 → Prop) : Prop := wp_Square_hasHearer I L R (am_rd R q 11) p1 (fun (r1 : Bool) => ((r1 = false → Q 1) ∧ (r1 = true → wp_U_within I L R p3 0 20 (fun (r2 : Bool) => ((r2 = false → Q 1) ∧ (r2 = true → wp_U_trayStatus I L R q p2 (2 * p3) (fun (r3 : Int32) => ((r3 = 0 → (∃ z, wl_U_fitStatus_44 I L R q p1 p2 p3 Q z 0)) ∧ (¬ r3 = 0 → Q r3)))))))))
set_option maxRecDepth 20000 in
theorem cm_U_fitStatus {d : Nat} {I : am_TI} {L : am_TL} {R : am_TR}  (hw : am_Wf R)   {q : Nat} {p1 : Int32} {p2 : Int32} {p3 : Int32} {Q : Int32 → Prop} (hd : 3 ≤ d) (hq : am_SH[q]? = some (.inl 11)) (h : wp_U_fitStatus I L R q p1 p2 p3  Q) : am_Cm d 0 0 y_U_fitStatus b_U_fitStatus 10 (some .int) [.ref q, .int p1, .int p2, .int p3] (I, L, R, am_SH) (po_U_fitStatus I L R Q) := by
  refine am_Cm_of (ini := false) (by decide +kernel) (fun z => by cases z) (by simp [Value.category]) (fun r σ' z => by obtain ⟨x, rfl, -⟩ := z; exact ⟨_, rfl, rfl⟩) ?_
  unfold wp_U_fitStatus at h
  show am_Wp (d, "UnseenRing", b_U_fitStatus, 10, false) 0 0 0 [some (.ref q), some (.int p1), some (.int p2), some (.int p3), none, none, none, none, none, none] [] (I, L, R, am_SH) (po_U_fitStatus I L R Q)
  refine am_aload_n (n := 1) d_U_fitStatus_0 rfl rfl ?_
  refine am_getR (x := (am_rd R q 11)) (n := 4) f_U_81 d_U_fitStatus_1 rfl rfl hq (hw.rd (k := 11) hq rfl).1 ?_
  refine am_iload_n (n := 5) d_U_fitStatus_4 rfl rfl ?_
  refine am_callV (kc := 0) (ks := 0) (As := [.int p1]) (n := 8) d_U_fitStatus_5 rfl ce_Square_hasHearer lk_U_205 in_Square_hasHearer rfl rfl (hw.rd (k := 11) hq rfl).2 rfl rfl (Nat.le_of_ble_eq_true rfl) (Or.inl rfl) (cm_Square_hasHearer (d := d - 1) hw (by omega) (hw.rd (k := 11) hq rfl).2 h) (by omega) ?_
  rintro _ _ ⟨r1, rfl, rfl, h⟩
  show am_Wp (d, "UnseenRing", b_U_fitStatus, 10, false) 0 0 8 [some (.ref q), some (.int p1), some (.int p2), some (.int p3), none, none, none, none, none, none] [.int (am_b r1)] (I, L, R, am_SH) (po_U_fitStatus I L R Q)
  refine am_if_eq (y := 0) (tgt := 21) (n := 11) d_U_fitStatus_8 rfl rfl (fun c1 => ?_) (fun c1 => ?_)
  · have h := h.1 (am_b_0 c1)
    refine am_iconst (n := 22) d_U_fitStatus_21 ci_1 rfl ?_
    exact am_iret d_U_fitStatus_22 ⟨1, rfl, rfl, h⟩
  · have h := h.2 (am_b_n0 c1)
    refine am_iload_n (n := 12) d_U_fitStatus_11 rfl rfl ?_
    refine am_iconst (n := 13) d_U_fitStatus_12 ci_0 rfl ?_
    refine am_bipush (n := 15) d_U_fitStatus_13 cb_20 rfl ?_
    refine am_callS (kc := 0) (ks := 0) (As := [.int p3, .int 0, .int 20]) (n := 18) d_U_fitStatus_15 rfl ce_U_within lk_U_114 st_U_within rfl rfl (Nat.le_of_ble_eq_true rfl) (Or.inl rfl) (cm_U_within (d := d - 1) hw (by omega)  h) (by omega) ?_
    rintro _ _ ⟨r2, rfl, rfl, h⟩
    show am_Wp (d, "UnseenRing", b_U_fitStatus, 10, false) 0 0 18 [some (.ref q), some (.int p1), some (.int p2), some (.int p3), none, none, none, none, none, none] [.int (am_b r2)] (I, L, R, am_SH) (po_U_fitStatus I L R Q)
    refine am_if_ne (y := 0) (tgt := 23) (n := 21) d_U_fitStatus_18 rfl rfl (fun c2 => ?_) (fun c2 => ?_)
    · have h := h.2 (am_b_n0 c2)
      refine am_aload_n (n := 24) d_U_fitStatus_23 rfl rfl ?_
      refine am_iload_n (n := 25) d_U_fitStatus_24 rfl rfl ?_
      refine am_iconst (n := 26) d_U_fitStatus_25 ci_2 rfl ?_
      refine am_iload_n (n := 27) d_U_fitStatus_26 rfl rfl ?_
      refine am_imul (n := 28) d_U_fitStatus_27 rfl ?_
      refine am_callV (kc := 0) (ks := 0) (As := [.int p2, .int (2 * p3)]) (n := 31) d_U_fitStatus_28 rfl ce_U_trayStatus lk_U_161 in_U_trayStatus rfl rfl hq rfl rfl (Nat.le_of_ble_eq_true rfl) (Or.inl rfl) (cm_U_trayStatus (d := d - 1) hw (by omega) hq h) (by omega) ?_
      rintro _ _ ⟨r3, rfl, rfl, h⟩
      show am_Wp (d, "UnseenRing", b_U_fitStatus, 10, false) 0 0 31 [some (.ref q), some (.int p1), some (.int p2), some (.int p3), none, none, none, none, none, none] [.int r3] (I, L, R, am_SH) (po_U_fitStatus I L R Q)
      refine am_istore (ls' := [some (.ref q), some (.int p1), some (.int p2), some (.int p3), some (.int r3), none, none, none, none, none]) (n := 33) d_U_fitStatus_31 (by decide) rfl rfl ?_
      refine am_iload (n := 35) d_U_fitStatus_33 rfl rfl ?_
      refine am_if_eq (y := 0) (tgt := 41) (n := 38) d_U_fitStatus_35 rfl rfl (fun c3 => ?_) (fun c3 => ?_)
      · have h := h.1 c3
        refine am_iconst (n := 42) d_U_fitStatus_41 ci_0 rfl ?_
        refine am_istore (ls' := [some (.ref q), some (.int p1), some (.int p2), some (.int p3), some (.int r3), some (.int 0), none, none, none, none]) (n := 44) d_U_fitStatus_42 (by decide) rfl rfl ?_
        refine am_forget (ls' := [some (.ref q), some (.int p1), some (.int p2), some (.int p3), none, some (.int 0), none, none, none, none]) (am_le_s (am_le_s (am_le_s (am_le_s (am_le_n (am_le_s (am_le_n (am_le_n (am_le_n (am_le_n am_le_e)))))))))) ?_
        obtain ⟨n, h⟩ := h
        exact tl_U_fitStatus_44 hw hq hd n 0 h
      · have h := h.2 c3
        refine am_iload (n := 40) d_U_fitStatus_38 rfl rfl ?_
        exact am_iret d_U_fitStatus_40 ⟨r3, rfl, rfl, h⟩
    · have h := h.1 (am_b_0 c2)
      refine am_iconst (n := 22) d_U_fitStatus_21 ci_1 rfl ?_
      exact am_iret d_U_fitStatus_22 ⟨1, rfl, rfl, h⟩
