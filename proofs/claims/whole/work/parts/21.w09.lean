abbrev po_Placings_fewestCells (L : am_TL) (R : am_TR) (Q : Int32 → am_TI → Prop) : Option Value → am_St → Prop := fun r σ' => ∃ (x : Int32) (I' : am_TI), r = some (.int x) ∧ σ' = (I', L, R, am_SH) ∧ Q x I'
def wl_Placings_fewestCells_27 (L : am_TL) (R : am_TR) (q : Nat) (p1 : Int32) (Q : Int32 → am_TI → Prop) (K19 : am_TI → Int32 → Prop) : Nat → am_TI → Int32 → Int32 → Prop
  | 0 => fun _ _ _ => False
  | f27 + 1 => fun I v2 v3 => (((I q 2) ≤ v3 → K19 I (v2 + 1)) ∧ (¬ (I q 2) ≤ v3 → (vp_in v3 25 ∧ (vp_in v3 25 ∧ ((((I (q + 1) (Int32.toNatClampNeg v3)) &&& (p1 ^^^ (-1))) = 0 → (vp_in (v2 ||| (I (q + 1) (Int32.toNatClampNeg v3))) 16 ∧ (vp_in v2 16 ∧ (vp_in (v2 ||| (I (q + 1) (Int32.toNatClampNeg v3))) 16 ∧ (∀ I3, I3 = am_u2 I (q + 2) (Int32.toNatClampNeg (v2 ||| (I (q + 1) (Int32.toNatClampNeg v3)))) (am_min (I (q + 2) (Int32.toNatClampNeg (v2 ||| (I (q + 1) (Int32.toNatClampNeg v3))))) ((I (q + 2) (Int32.toNatClampNeg v2)) + 1)) → wl_Placings_fewestCells_27 L R q p1 Q K19 f27 I3 v2 (v3 + 1)))))) ∧ (¬ ((I (q + 1) (Int32.toNatClampNeg v3)) &&& (p1 ^^^ (-1))) = 0 → wl_Placings_fewestCells_27 L R q p1 Q K19 f27 I v2 (v3 + 1)))))))
set_option maxRecDepth 20000 in
theorem tl_Placings_fewestCells_27 {d : Nat}  {L : am_TL} {R : am_TR} {q : Nat} {p1 : Int32} {Q : Int32 → am_TI → Prop} {K19 : am_TI → Int32 → Prop} (hw : am_Wf R) (hq : am_SH[q]? = some (.inl 5)) (hK19 : ∀ (I : am_TI) (v2 : Int32), K19 I v2 → am_Wp (d, "UnseenRing$Placings", b_Placings_fewestCells, 5, false) 0 0 19 [some (.ref q), some (.int p1), some (.int v2), none, none] [] (I, L, R, am_SH) (po_Placings_fewestCells L R Q)) (hd : 1 ≤ d) : ∀ (n : Nat) (I : am_TI) (v2 : Int32) (v3 : Int32), wl_Placings_fewestCells_27 L R q p1 Q K19 n I v2 v3 → am_Wp (d, "UnseenRing$Placings", b_Placings_fewestCells, 5, false) 0 0 27 [some (.ref q), some (.int p1), some (.int v2), some (.int v3), none] [] (I, L, R, am_SH) (po_Placings_fewestCells L R Q) := by
  intro n
  induction n with
  | zero => intro I v2 v3 h; exact h.elim
  | succ n ih =>
    intro I v2 v3 h
    unfold wl_Placings_fewestCells_27 at h
    refine am_iload_n (n := 28) d_Placings_fewestCells_27 rfl rfl ?_
    refine am_aload_n (n := 29) d_Placings_fewestCells_28 rfl rfl ?_
    refine am_getI (n := 32) f_Placings_18 d_Placings_fewestCells_29 rfl rfl hq ?_
    refine am_icmp_ge (tgt := 89) (n := 35) d_Placings_fewestCells_32 rfl rfl (fun c3 => ?_) (fun c3 => ?_)
    · have h := h.1 c3
      refine am_iinc (v := v2 + 1) (ls' := [some (.ref q), some (.int p1), some (.int (v2 + 1)), some (.int v3), none]) (n := 92) d_Placings_fewestCells_89 rfl (congrArg _ ci_1) (by decide) rfl rfl ?_
      refine am_goto (tgt := 19) d_Placings_fewestCells_92 rfl ?_
      refine am_forget (ls' := [some (.ref q), some (.int p1), some (.int (v2 + 1)), none, none]) (am_le_s (am_le_s (am_le_s (am_le_n (am_le_n am_le_e))))) ?_
      exact hK19 I (v2 + 1)  h
    · have h := h.2 c3
      refine am_iload_n (n := 36) d_Placings_fewestCells_35 rfl rfl ?_
      refine am_aload_n (n := 37) d_Placings_fewestCells_36 rfl rfl ?_
      refine am_getR (x := (q + 1)) (n := 40) f_Placings_9 d_Placings_fewestCells_37 rfl rfl hq (hw.1 q 5 0 1 hq rfl) ?_
      refine am_iload_n (n := 41) d_Placings_fewestCells_40 rfl rfl ?_
      obtain ⟨g3, h⟩ := h
      refine am_iald2 (n := 42) d_Placings_fewestCells_41 rfl (am_sho (k := 0) (o := 1) hq (by decide) (by decide) (by decide) rfl) g3 rfl ?_
      refine am_ior (n := 43) d_Placings_fewestCells_42 rfl ?_
      refine am_istore (ls' := [some (.ref q), some (.int p1), some (.int v2), some (.int v3), some (.int (v2 ||| (I (q + 1) (Int32.toNatClampNeg v3))))]) (n := 45) d_Placings_fewestCells_43 (by decide) rfl rfl ?_
      refine am_aload_n (n := 46) d_Placings_fewestCells_45 rfl rfl ?_
      refine am_getR (x := (q + 1)) (n := 49) f_Placings_9 d_Placings_fewestCells_46 rfl rfl hq (hw.1 q 5 0 1 hq rfl) ?_
      refine am_iload_n (n := 50) d_Placings_fewestCells_49 rfl rfl ?_
      obtain ⟨g4, h⟩ := h
      refine am_iald2 (n := 51) d_Placings_fewestCells_50 rfl (am_sho (k := 0) (o := 1) hq (by decide) (by decide) (by decide) rfl) g4 rfl ?_
      refine am_iload_n (n := 52) d_Placings_fewestCells_51 rfl rfl ?_
      refine am_iconst (n := 53) d_Placings_fewestCells_52 ci_m1 rfl ?_
      refine am_ixor (n := 54) d_Placings_fewestCells_53 rfl ?_
      refine am_iand (n := 55) d_Placings_fewestCells_54 rfl ?_
      refine am_if_ne (y := 0) (tgt := 83) (n := 58) d_Placings_fewestCells_55 rfl rfl (fun c4 => ?_) (fun c4 => ?_)
      · have h := h.2 c4
        refine am_iinc (v := v3 + 1) (ls' := [some (.ref q), some (.int p1), some (.int v2), some (.int (v3 + 1)), some (.int (v2 ||| (I (q + 1) (Int32.toNatClampNeg v3))))]) (n := 86) d_Placings_fewestCells_83 rfl (congrArg _ ci_1) (by decide) rfl rfl ?_
        refine am_goto (tgt := 27) d_Placings_fewestCells_86 rfl ?_
        refine am_forget (ls' := [some (.ref q), some (.int p1), some (.int v2), some (.int (v3 + 1)), none]) (am_le_s (am_le_s (am_le_s (am_le_s (am_le_n am_le_e))))) ?_
        exact ih I v2 (v3 + 1)  h
      · have h := h.1 c4
        refine am_aload_n (n := 59) d_Placings_fewestCells_58 rfl rfl ?_
        refine am_getR (x := (q + 2)) (n := 62) f_Placings_15 d_Placings_fewestCells_59 rfl rfl hq (hw.1 q 5 1 2 hq rfl) ?_
        refine am_iload (n := 64) d_Placings_fewestCells_62 rfl rfl ?_
        refine am_aload_n (n := 65) d_Placings_fewestCells_64 rfl rfl ?_
        refine am_getR (x := (q + 2)) (n := 68) f_Placings_15 d_Placings_fewestCells_65 rfl rfl hq (hw.1 q 5 1 2 hq rfl) ?_
        refine am_iload (n := 70) d_Placings_fewestCells_68 rfl rfl ?_
        obtain ⟨g5, h⟩ := h
        refine am_iald2 (n := 71) d_Placings_fewestCells_70 rfl (am_sho (k := 1) (o := 2) hq (by decide) (by decide) (by decide) rfl) g5 rfl ?_
        refine am_aload_n (n := 72) d_Placings_fewestCells_71 rfl rfl ?_
        refine am_getR (x := (q + 2)) (n := 75) f_Placings_15 d_Placings_fewestCells_72 rfl rfl hq (hw.1 q 5 1 2 hq rfl) ?_
        refine am_iload_n (n := 76) d_Placings_fewestCells_75 rfl rfl ?_
        obtain ⟨g6, h⟩ := h
        refine am_iald2 (n := 77) d_Placings_fewestCells_76 rfl (am_sho (k := 1) (o := 2) hq (by decide) (by decide) (by decide) rfl) g6 rfl ?_
        refine am_iconst (n := 78) d_Placings_fewestCells_77 ci_1 rfl ?_
        refine am_iadd (n := 79) d_Placings_fewestCells_78 rfl ?_
        refine am_mmin2 (n := 82) d_Placings_fewestCells_79 rfl lm_Placings_27 (Nat.le_of_ble_eq_true rfl) (by omega) ?_
        obtain ⟨g7, h⟩ := h
        refine am_iast2 (n := 83) d_Placings_fewestCells_82 rfl (am_sho (k := 1) (o := 2) hq (by decide) (by decide) (by decide) rfl) g7 rfl ?_
        generalize eI3 : am_u2 I (q + 2) (Int32.toNatClampNeg (v2 ||| (I (q + 1) (Int32.toNatClampNeg v3)))) (am_min (I (q + 2) (Int32.toNatClampNeg (v2 ||| (I (q + 1) (Int32.toNatClampNeg v3))))) ((I (q + 2) (Int32.toNatClampNeg v2)) + 1)) = I3
        have h := h I3 eI3.symm
        refine am_iinc (v := v3 + 1) (ls' := [some (.ref q), some (.int p1), some (.int v2), some (.int (v3 + 1)), some (.int (v2 ||| (I (q + 1) (Int32.toNatClampNeg v3))))]) (n := 86) d_Placings_fewestCells_83 rfl (congrArg _ ci_1) (by decide) rfl rfl ?_
        refine am_goto (tgt := 27) d_Placings_fewestCells_86 rfl ?_
        refine am_forget (ls' := [some (.ref q), some (.int p1), some (.int v2), some (.int (v3 + 1)), none]) (am_le_s (am_le_s (am_le_s (am_le_s (am_le_n am_le_e))))) ?_
        exact ih I3 v2 (v3 + 1)  h
def wl_Placings_fewestCells_19 (L : am_TL) (R : am_TR) (q : Nat) (p1 : Int32) (Q : Int32 → am_TI → Prop)  : Nat → am_TI → Int32 → Prop
  | 0 => fun _ _ => False
  | f19 + 1 => fun I v2 => ((16 ≤ v2 → (vp_in p1 16 ∧ (((I (q + 2) (Int32.toNatClampNeg p1)) < 1000 → (vp_in p1 16 ∧ Q (I (q + 2) (Int32.toNatClampNeg p1)) I)) ∧ (¬ (I (q + 2) (Int32.toNatClampNeg p1)) < 1000 → Q (-1) I)))) ∧ (¬ 16 ≤ v2 → (∃ z, wl_Placings_fewestCells_27 L R q p1 Q (wl_Placings_fewestCells_19 L R q p1 Q f19) z I v2 0)))
set_option maxRecDepth 20000 in
theorem tl_Placings_fewestCells_19 {d : Nat}  {L : am_TL} {R : am_TR} {q : Nat} {p1 : Int32} {Q : Int32 → am_TI → Prop}  (hw : am_Wf R) (hq : am_SH[q]? = some (.inl 5)) (hd : 1 ≤ d) : ∀ (n : Nat) (I : am_TI) (v2 : Int32), wl_Placings_fewestCells_19 L R q p1 Q  n I v2 → am_Wp (d, "UnseenRing$Placings", b_Placings_fewestCells, 5, false) 0 0 19 [some (.ref q), some (.int p1), some (.int v2), none, none] [] (I, L, R, am_SH) (po_Placings_fewestCells L R Q) := by
  intro n
  induction n with
  | zero => intro I v2 h; exact h.elim
  | succ n ih =>
    intro I v2 h
    unfold wl_Placings_fewestCells_19 at h
    refine am_iload_n (n := 20) d_Placings_fewestCells_19 rfl rfl ?_
    refine am_bipush (n := 22) d_Placings_fewestCells_20 cb_16 rfl ?_
    refine am_icmp_ge (tgt := 95) (n := 25) d_Placings_fewestCells_22 rfl rfl (fun c1 => ?_) (fun c1 => ?_)
    · have h := h.1 c1
      refine am_aload_n (n := 96) d_Placings_fewestCells_95 rfl rfl ?_
      refine am_getR (x := (q + 2)) (n := 99) f_Placings_15 d_Placings_fewestCells_96 rfl rfl hq (hw.1 q 5 1 2 hq rfl) ?_
      refine am_iload_n (n := 100) d_Placings_fewestCells_99 rfl rfl ?_
      obtain ⟨g1, h⟩ := h
      refine am_iald2 (n := 101) d_Placings_fewestCells_100 rfl (am_sho (k := 1) (o := 2) hq (by decide) (by decide) (by decide) rfl) g1 rfl ?_
      refine am_sipush (n := 104) d_Placings_fewestCells_101 cs_1000 rfl ?_
      refine am_icmp_lt (tgt := 111) (n := 107) d_Placings_fewestCells_104 rfl rfl (fun c2 => ?_) (fun c2 => ?_)
      · have h := h.1 c2
        refine am_aload_n (n := 112) d_Placings_fewestCells_111 rfl rfl ?_
        refine am_getR (x := (q + 2)) (n := 115) f_Placings_15 d_Placings_fewestCells_112 rfl rfl hq (hw.1 q 5 1 2 hq rfl) ?_
        refine am_iload_n (n := 116) d_Placings_fewestCells_115 rfl rfl ?_
        obtain ⟨g2, h⟩ := h
        refine am_iald2 (n := 117) d_Placings_fewestCells_116 rfl (am_sho (k := 1) (o := 2) hq (by decide) (by decide) (by decide) rfl) g2 rfl ?_
        exact am_iret d_Placings_fewestCells_117 ⟨(I (q + 2) (Int32.toNatClampNeg p1)), I, rfl, rfl, h⟩
      · have h := h.2 c2
        refine am_iconst (n := 108) d_Placings_fewestCells_107 ci_m1 rfl ?_
        refine am_goto (tgt := 117) d_Placings_fewestCells_108 rfl ?_
        exact am_iret d_Placings_fewestCells_117 ⟨(-1), I, rfl, rfl, h⟩
    · have h := h.2 c1
      refine am_iconst (n := 26) d_Placings_fewestCells_25 ci_0 rfl ?_
      refine am_istore_n (ls' := [some (.ref q), some (.int p1), some (.int v2), some (.int 0), none]) (n := 27) d_Placings_fewestCells_26 (by decide) rfl rfl ?_
      obtain ⟨n, h⟩ := h
      exact tl_Placings_fewestCells_27 hw hq ih hd n I v2 0 h
def wp_Placings_fewestCells (I : am_TI) (L : am_TL) (R : am_TR) (q : Nat) (p1 : Int32)  (Q : Int32 → am_TI → Prop) : Prop := wp_Arrays_fillI I L R (q + 2) 16 1000 (fun (I1 : am_TI) => (∀ I2, I2 = am_u2 I1 (q + 2) 0 0 → (∃ z, wl_Placings_fewestCells_19 L R q p1 Q z I2 0)))
set_option maxRecDepth 20000 in
theorem cm_Placings_fewestCells {d : Nat} {I : am_TI} {L : am_TL} {R : am_TR}  (hw : am_Wf R)   {q : Nat} {p1 : Int32} {Q : Int32 → am_TI → Prop} (hd : 1 ≤ d) (hq : am_SH[q]? = some (.inl 5)) (h : wp_Placings_fewestCells I L R q p1  Q) : am_Cm d 0 0 y_Placings_fewestCells b_Placings_fewestCells 5 (some .int) [.ref q, .int p1] (I, L, R, am_SH) (po_Placings_fewestCells L R Q) := by
  refine am_Cm_of (ini := false) (by decide +kernel) (fun z => by cases z) (by simp [Value.category]) (fun r σ' z => by obtain ⟨x, _, rfl, -⟩ := z; exact ⟨_, rfl, rfl⟩) ?_
  unfold wp_Placings_fewestCells at h
  show am_Wp (d, "UnseenRing$Placings", b_Placings_fewestCells, 5, false) 0 0 0 [some (.ref q), some (.int p1), none, none, none] [] (I, L, R, am_SH) (po_Placings_fewestCells L R Q)
  refine am_aload_n (n := 1) d_Placings_fewestCells_0 rfl rfl ?_
  refine am_getR (x := (q + 2)) (n := 4) f_Placings_15 d_Placings_fewestCells_1 rfl rfl hq (hw.1 q 5 1 2 hq rfl) ?_
  refine am_sipush (n := 7) d_Placings_fewestCells_4 cs_1000 rfl ?_
  refine am_callS (kc := 0) (ks := 0) (As := [.ref (q + 2), .int 1000]) (n := 10) d_Placings_fewestCells_7 rfl ce_Arrays_fillI lk_Placings_37 st_Arrays_fillI rfl rfl (Nat.le_of_ble_eq_true rfl) (Or.inl rfl) (cm_Arrays_fillI (d := d - 1) hw (by omega) (am_sho (k := 1) (o := 2) hq (by decide) (by decide) (by decide) rfl) h) (by omega) ?_
  rintro _ _ ⟨I1, rfl, rfl, h⟩
  show am_Wp (d, "UnseenRing$Placings", b_Placings_fewestCells, 5, false) 0 0 10 [some (.ref q), some (.int p1), none, none, none] [] (I1, L, R, am_SH) (po_Placings_fewestCells L R Q)
  refine am_aload_n (n := 11) d_Placings_fewestCells_10 rfl rfl ?_
  refine am_getR (x := (q + 2)) (n := 14) f_Placings_15 d_Placings_fewestCells_11 rfl rfl hq (hw.1 q 5 1 2 hq rfl) ?_
  refine am_iconst (n := 15) d_Placings_fewestCells_14 ci_0 rfl ?_
  refine am_iconst (n := 16) d_Placings_fewestCells_15 ci_0 rfl ?_
  refine am_iast2 (n := 17) d_Placings_fewestCells_16 rfl (am_sho (k := 1) (o := 2) hq (by decide) (by decide) (by decide) rfl) cx_0_16 cn_0 ?_
  generalize eI2 : am_u2 I1 (q + 2) 0 0 = I2
  have h := h I2 eI2.symm
  refine am_iconst (n := 18) d_Placings_fewestCells_17 ci_0 rfl ?_
  refine am_istore_n (ls' := [some (.ref q), some (.int p1), some (.int 0), none, none]) (n := 19) d_Placings_fewestCells_18 (by decide) rfl rfl ?_
  obtain ⟨n, h⟩ := h
  exact tl_Placings_fewestCells_19 hw hq hd n I2 0 h
abbrev po_Placings_look (L : am_TL) (R : am_TR) (Q : am_TI → Prop) : Option Value → am_St → Prop := fun r σ' => ∃ (I' : am_TI), r = none ∧ σ' = (I', L, R, am_SH) ∧ Q I'
def wl_Placings_look_15 (L : am_TL) (R : am_TR) (q : Nat) (p1 : Nat) (Q : am_TI → Prop)  : Nat → am_TI → Int32 → Prop
  | 0 => fun _ _ => False
  | f15 + 1 => fun I v2 => (((I q 2) ≤ v2 → Q I) ∧ (¬ (I q 2) ≤ v2 → wp_Square_dogsUpFrom I L R p1 v2 (fun (r2 : Int32) => (vp_in v2 25 ∧ (∀ I2, I2 = am_u2 I (q + 1) (Int32.toNatClampNeg v2) r2 → wl_Placings_look_15 L R q p1 Q f15 I2 (v2 + 1))))))
set_option maxRecDepth 20000 in
theorem tl_Placings_look_15 {d : Nat}  {L : am_TL} {R : am_TR} {q : Nat} {p1 : Nat} {Q : am_TI → Prop}  (hw : am_Wf R) (hq : am_SH[q]? = some (.inl 5)) (hp1 : am_SH[p1]? = some (.inl 7)) (hd : 4 ≤ d) : ∀ (n : Nat) (I : am_TI) (v2 : Int32), wl_Placings_look_15 L R q p1 Q  n I v2 → am_Wp (d, "UnseenRing$Placings", b_Placings_look, 3, false) 0 0 15 [some (.ref q), some (.ref p1), some (.int v2)] [] (I, L, R, am_SH) (po_Placings_look L R Q) := by
  intro n
  induction n with
  | zero => intro I v2 h; exact h.elim
  | succ n ih =>
    intro I v2 h
    unfold wl_Placings_look_15 at h
    refine am_iload_n (n := 16) d_Placings_look_15 rfl rfl ?_
    refine am_aload_n (n := 17) d_Placings_look_16 rfl rfl ?_
    refine am_getI (n := 20) f_Placings_18 d_Placings_look_17 rfl rfl hq ?_
    refine am_icmp_ge (tgt := 40) (n := 23) d_Placings_look_20 rfl rfl (fun c1 => ?_) (fun c1 => ?_)
    · have h := h.1 c1
      exact am_vret d_Placings_look_40 ⟨I, rfl, rfl, h⟩
    · have h := h.2 c1
      refine am_aload_n (n := 24) d_Placings_look_23 rfl rfl ?_
      refine am_getR (x := (q + 1)) (n := 27) f_Placings_9 d_Placings_look_24 rfl rfl hq (hw.1 q 5 0 1 hq rfl) ?_
      refine am_iload_n (n := 28) d_Placings_look_27 rfl rfl ?_
      refine am_aload_n (n := 29) d_Placings_look_28 rfl rfl ?_
      refine am_iload_n (n := 30) d_Placings_look_29 rfl rfl ?_
      refine am_callV (kc := 0) (ks := 0) (As := [.int v2]) (n := 33) d_Placings_look_30 rfl ce_Square_dogsUpFrom lk_Placings_33 in_Square_dogsUpFrom rfl rfl hp1 rfl rfl (Nat.le_of_ble_eq_true rfl) (Or.inl rfl) (cm_Square_dogsUpFrom (d := d - 1) hw (by omega) hp1 h) (by omega) ?_
      rintro _ _ ⟨r2, rfl, rfl, h⟩
      show am_Wp (d, "UnseenRing$Placings", b_Placings_look, 3, false) 0 0 33 [some (.ref q), some (.ref p1), some (.int v2)] [.int r2, .int v2, .ref (q + 1)] (I, L, R, am_SH) (po_Placings_look L R Q)
      obtain ⟨g1, h⟩ := h
      refine am_iast2 (n := 34) d_Placings_look_33 rfl (am_sho (k := 0) (o := 1) hq (by decide) (by decide) (by decide) rfl) g1 rfl ?_
      generalize eI2 : am_u2 I (q + 1) (Int32.toNatClampNeg v2) r2 = I2
      have h := h I2 eI2.symm
      refine am_iinc (v := v2 + 1) (ls' := [some (.ref q), some (.ref p1), some (.int (v2 + 1))]) (n := 37) d_Placings_look_34 rfl (congrArg _ ci_1) (by decide) rfl rfl ?_
      refine am_goto (tgt := 15) d_Placings_look_37 rfl ?_
      exact ih I2 (v2 + 1)  h
def wp_Placings_look (I : am_TI) (L : am_TL) (R : am_TR) (q : Nat) (p1 : Nat)  (Q : am_TI → Prop) : Prop := wp_Square_cells I L R p1 (fun (r1 : Int32) => (∀ I1, I1 = am_u2 I q 2 (am_min r1 25) → (∃ z, wl_Placings_look_15 L R q p1 Q z I1 0)))
set_option maxRecDepth 20000 in
theorem cm_Placings_look {d : Nat} {I : am_TI} {L : am_TL} {R : am_TR}  (hw : am_Wf R)   {q : Nat} {p1 : Nat} {Q : am_TI → Prop} (hd : 4 ≤ d) (hq : am_SH[q]? = some (.inl 5)) (hp1 : am_SH[p1]? = some (.inl 7)) (h : wp_Placings_look I L R q p1  Q) : am_Cm d 0 0 y_Placings_look b_Placings_look 3 (none) [.ref q, .ref p1] (I, L, R, am_SH) (po_Placings_look L R Q) := by
  refine am_Cm_of (ini := false) (by decide +kernel) (fun z => by cases z) (by simp [Value.category]) (fun r σ' z => by obtain ⟨_, rfl, -⟩ := z; rfl) ?_
  unfold wp_Placings_look at h
  show am_Wp (d, "UnseenRing$Placings", b_Placings_look, 3, false) 0 0 0 [some (.ref q), some (.ref p1), none] [] (I, L, R, am_SH) (po_Placings_look L R Q)
  refine am_aload_n (n := 1) d_Placings_look_0 rfl rfl ?_
  refine am_aload_n (n := 2) d_Placings_look_1 rfl rfl ?_
  refine am_callV (kc := 0) (ks := 0) (As := []) (n := 5) d_Placings_look_2 rfl ce_Square_cells lk_Placings_22 in_Square_cells rfl rfl hp1 rfl rfl (Nat.le_of_ble_eq_true rfl) (Or.inl rfl) (cm_Square_cells (d := d - 1) hw (by omega) hp1 h) (by omega) ?_
  rintro _ _ ⟨r1, rfl, rfl, h⟩
  show am_Wp (d, "UnseenRing$Placings", b_Placings_look, 3, false) 0 0 5 [some (.ref q), some (.ref p1), none] [.int r1, .ref q] (I, L, R, am_SH) (po_Placings_look L R Q)
  refine am_bipush (n := 7) d_Placings_look_5 cb_25 rfl ?_
  refine am_mmin2 (n := 10) d_Placings_look_7 rfl lm_Placings_27 (Nat.le_of_ble_eq_true rfl) (by omega) ?_
  refine am_putI (n := 13) f_Placings_18 d_Placings_look_10 rfl ⟨_, rfl, Or.inl rfl⟩ rfl rfl hq ?_
  generalize eI1 : am_u2 I q 2 (am_min r1 25) = I1
  have h := h I1 eI1.symm
  refine am_iconst (n := 14) d_Placings_look_13 ci_0 rfl ?_
  refine am_istore_n (ls' := [some (.ref q), some (.ref p1), some (.int 0)]) (n := 15) d_Placings_look_14 (by decide) rfl rfl ?_
  obtain ⟨n, h⟩ := h
  exact tl_Placings_look_15 hw hq hp1 hd n I1 0 h
abbrev po_U_explain (L : am_TL) (R : am_TR) (Q : Int32 → am_TI → Prop) : Option Value → am_St → Prop := fun r σ' => ∃ (x : Int32) (I' : am_TI), r = some (.int x) ∧ σ' = (I', L, R, am_SH) ∧ Q x I'
def wp_U_explain (I : am_TI) (L : am_TL) (R : am_TR) (q : Nat) (p1 : Int32)  (Q : Int32 → am_TI → Prop) : Prop := wp_U_isSet I L R p1 (I (am_rd R q 11) 12) (fun (r1 : Bool) => ((r1 = false → wp_U_refused I L R q 1 (fun (r4 : Int32) (I4 : am_TI) => Q r4 I4)) ∧ (r1 = true → wp_Placings_look I L R (q + 21) (am_rd R q 11) (fun (I1 : am_TI) => wp_Placings_fewestCells I1 L R (q + 21) p1 (fun (r2 : Int32) (I2 : am_TI) => wp_U_answeredIfThereIs I2 L R q r2 (fun (r3 : Int32) (I3 : am_TI) => Q r3 I3))))))
set_option maxRecDepth 20000 in
theorem cm_U_explain {d : Nat} {I : am_TI} {L : am_TL} {R : am_TR}  (hw : am_Wf R)   {q : Nat} {p1 : Int32} {Q : Int32 → am_TI → Prop} (hd : 5 ≤ d) (hq : am_SH[q]? = some (.inl 11)) (h : wp_U_explain I L R q p1  Q) : am_Cm d 0 0 y_U_explain b_U_explain 2 (some .int) [.ref q, .int p1] (I, L, R, am_SH) (po_U_explain L R Q) := by
  refine am_Cm_of (ini := false) (by decide +kernel) (fun z => by cases z) (by simp [Value.category]) (fun r σ' z => by obtain ⟨x, _, rfl, -⟩ := z; exact ⟨_, rfl, rfl⟩) ?_
  unfold wp_U_explain at h
  show am_Wp (d, "UnseenRing", b_U_explain, 2, false) 0 0 0 [some (.ref q), some (.int p1)] [] (I, L, R, am_SH) (po_U_explain L R Q)
  refine am_iload_n (n := 1) d_U_explain_0 rfl rfl ?_
  refine am_aload_n (n := 2) d_U_explain_1 rfl rfl ?_
  refine am_getR (x := (am_rd R q 11)) (n := 5) f_U_81 d_U_explain_2 rfl rfl hq (hw.rd (k := 11) hq rfl).1 ?_
  refine am_getI (n := 8) f_U_315 d_U_explain_5 rfl rfl (hw.rd (k := 11) hq rfl).2 ?_
  refine am_callS (kc := 0) (ks := 0) (As := [.int p1, .int (I (am_rd R q 11) 12)]) (n := 11) d_U_explain_8 rfl ce_U_isSet lk_U_307 st_U_isSet rfl rfl (Nat.le_of_ble_eq_true rfl) (Or.inl rfl) (cm_U_isSet (d := d - 1) hw (by omega)  h) (by omega) ?_
  rintro _ _ ⟨r1, rfl, rfl, h⟩
  show am_Wp (d, "UnseenRing", b_U_explain, 2, false) 0 0 11 [some (.ref q), some (.int p1)] [.int (am_b r1)] (I, L, R, am_SH) (po_U_explain L R Q)
  refine am_if_ne (y := 0) (tgt := 20) (n := 14) d_U_explain_11 rfl rfl (fun c1 => ?_) (fun c1 => ?_)
  · have h := h.2 (am_b_n0 c1)
    refine am_aload_n (n := 21) d_U_explain_20 rfl rfl ?_
    refine am_getR (x := (q + 21)) (n := 24) f_U_62 d_U_explain_21 rfl rfl hq (hw.1 q 11 8 21 hq rfl) ?_
    refine am_aload_n (n := 25) d_U_explain_24 rfl rfl ?_
    refine am_getR (x := (am_rd R q 11)) (n := 28) f_U_81 d_U_explain_25 rfl rfl hq (hw.rd (k := 11) hq rfl).1 ?_
    refine am_callV (kc := 0) (ks := 0) (As := [.ref (am_rd R q 11)]) (n := 31) d_U_explain_28 rfl ce_Placings_look lk_U_318 in_Placings_look rfl rfl (am_sho (k := 8) (o := 21) hq (by decide) (by decide) (by decide) rfl) rfl rfl (Nat.le_of_ble_eq_true rfl) (Or.inl rfl) (cm_Placings_look (d := d - 1) hw (by omega) (am_sho (k := 8) (o := 21) hq (by decide) (by decide) (by decide) rfl) (hw.rd (k := 11) hq rfl).2 h) (by omega) ?_
    rintro _ _ ⟨I1, rfl, rfl, h⟩
    show am_Wp (d, "UnseenRing", b_U_explain, 2, false) 0 0 31 [some (.ref q), some (.int p1)] [] (I1, L, R, am_SH) (po_U_explain L R Q)
    refine am_aload_n (n := 32) d_U_explain_31 rfl rfl ?_
    refine am_aload_n (n := 33) d_U_explain_32 rfl rfl ?_
    refine am_getR (x := (q + 21)) (n := 36) f_U_62 d_U_explain_33 rfl rfl hq (hw.1 q 11 8 21 hq rfl) ?_
    refine am_iload_n (n := 37) d_U_explain_36 rfl rfl ?_
    refine am_callV (kc := 0) (ks := 0) (As := [.int p1]) (n := 40) d_U_explain_37 rfl ce_Placings_fewestCells lk_U_322 in_Placings_fewestCells rfl rfl (am_sho (k := 8) (o := 21) hq (by decide) (by decide) (by decide) rfl) rfl rfl (Nat.le_of_ble_eq_true rfl) (Or.inl rfl) (cm_Placings_fewestCells (d := d - 1) hw (by omega) (am_sho (k := 8) (o := 21) hq (by decide) (by decide) (by decide) rfl) h) (by omega) ?_
    rintro _ _ ⟨r2, I2, rfl, rfl, h⟩
    show am_Wp (d, "UnseenRing", b_U_explain, 2, false) 0 0 40 [some (.ref q), some (.int p1)] [.int r2, .ref q] (I2, L, R, am_SH) (po_U_explain L R Q)
    refine am_callV (kc := 0) (ks := 0) (As := [.int r2]) (n := 43) d_U_explain_40 rfl ce_U_answeredIfThereIs lk_U_301 in_U_answeredIfThereIs rfl rfl hq rfl rfl (Nat.le_of_ble_eq_true rfl) (Or.inl rfl) (cm_U_answeredIfThereIs (d := d - 1) hw (by omega) hq h) (by omega) ?_
    rintro _ _ ⟨r3, I3, rfl, rfl, h⟩
    show am_Wp (d, "UnseenRing", b_U_explain, 2, false) 0 0 43 [some (.ref q), some (.int p1)] [.int r3] (I3, L, R, am_SH) (po_U_explain L R Q)
    exact am_iret d_U_explain_43 ⟨r3, I3, rfl, rfl, h⟩
  · have h := h.1 (am_b_0 c1)
    refine am_aload_n (n := 15) d_U_explain_14 rfl rfl ?_
    refine am_iconst (n := 16) d_U_explain_15 ci_1 rfl ?_
    refine am_callV (kc := 0) (ks := 0) (As := [.int 1]) (n := 19) d_U_explain_16 rfl ce_U_refused lk_U_133 in_U_refused rfl rfl hq rfl rfl (Nat.le_of_ble_eq_true rfl) (Or.inl rfl) (cm_U_refused (d := d - 1) hw (by omega) hq h) (by omega) ?_
    rintro _ _ ⟨r4, I4, rfl, rfl, h⟩
    show am_Wp (d, "UnseenRing", b_U_explain, 2, false) 0 0 19 [some (.ref q), some (.int p1)] [.int r4] (I4, L, R, am_SH) (po_U_explain L R Q)
    exact am_iret d_U_explain_19 ⟨r4, I4, rfl, rfl, h⟩
abbrev po_Placings_cellsWithin (I : am_TI) (L : am_TL) (R : am_TR) (Q : Int32 → Prop) : Option Value → am_St → Prop := fun r σ' => ∃ (x : Int32), r = some (.int x) ∧ σ' = (I, L, R, am_SH) ∧ Q x
def wl_Placings_cellsWithin_5 (I : am_TI) (L : am_TL) (R : am_TR) (q : Nat) (p1 : Int32) (p2 : Int32) (Q : Int32 → Prop)  : Nat → Int32 → Int32 → Prop
  | 0 => fun _ _ => False
  | f5 + 1 => fun v3 v4 => (((I q 2) ≤ v4 → Q v3) ∧ (¬ (I q 2) ≤ v4 → (vp_in v4 25 ∧ ((((I (q + 1) (Int32.toNatClampNeg v4)) &&& (p1 ^^^ (-1))) = 0 → ((((p2 >>> (v4 &&& 31)) &&& 1) = 0 → wl_Placings_cellsWithin_5 I L R q p1 p2 Q f5 (v3 + 1) (v4 + 1)) ∧ (¬ ((p2 >>> (v4 &&& 31)) &&& 1) = 0 → wl_Placings_cellsWithin_5 I L R q p1 p2 Q f5 v3 (v4 + 1)))) ∧ (¬ ((I (q + 1) (Int32.toNatClampNeg v4)) &&& (p1 ^^^ (-1))) = 0 → wl_Placings_cellsWithin_5 I L R q p1 p2 Q f5 v3 (v4 + 1))))))
set_option maxRecDepth 20000 in
theorem tl_Placings_cellsWithin_5 {d : Nat}  {I : am_TI} {L : am_TL} {R : am_TR} {q : Nat} {p1 : Int32} {p2 : Int32} {Q : Int32 → Prop}  (hw : am_Wf R) (hq : am_SH[q]? = some (.inl 5)) (hd : 0 ≤ d) : ∀ (n : Nat) (v3 : Int32) (v4 : Int32), wl_Placings_cellsWithin_5 I L R q p1 p2 Q  n v3 v4 → am_Wp (d, "UnseenRing$Placings", b_Placings_cellsWithin, 5, false) 0 0 5 [some (.ref q), some (.int p1), some (.int p2), some (.int v3), some (.int v4)] [] (I, L, R, am_SH) (po_Placings_cellsWithin I L R Q) := by
  intro n
  induction n with
  | zero => intro v3 v4 h; exact h.elim
  | succ n ih =>
    intro v3 v4 h
    unfold wl_Placings_cellsWithin_5 at h
    refine am_iload (n := 7) d_Placings_cellsWithin_5 rfl rfl ?_
    refine am_aload_n (n := 8) d_Placings_cellsWithin_7 rfl rfl ?_
    refine am_getI (n := 11) f_Placings_18 d_Placings_cellsWithin_8 rfl rfl hq ?_
    refine am_icmp_ge (tgt := 46) (n := 14) d_Placings_cellsWithin_11 rfl rfl (fun c1 => ?_) (fun c1 => ?_)
    · have h := h.1 c1
      refine am_iload_n (n := 47) d_Placings_cellsWithin_46 rfl rfl ?_
      exact am_iret d_Placings_cellsWithin_47 ⟨v3, rfl, rfl, h⟩
    · have h := h.2 c1
      refine am_aload_n (n := 15) d_Placings_cellsWithin_14 rfl rfl ?_
      refine am_getR (x := (q + 1)) (n := 18) f_Placings_9 d_Placings_cellsWithin_15 rfl rfl hq (hw.1 q 5 0 1 hq rfl) ?_
      refine am_iload (n := 20) d_Placings_cellsWithin_18 rfl rfl ?_
      obtain ⟨g1, h⟩ := h
      refine am_iald2 (n := 21) d_Placings_cellsWithin_20 rfl (am_sho (k := 0) (o := 1) hq (by decide) (by decide) (by decide) rfl) g1 rfl ?_
      refine am_iload_n (n := 22) d_Placings_cellsWithin_21 rfl rfl ?_
      refine am_iconst (n := 23) d_Placings_cellsWithin_22 ci_m1 rfl ?_
      refine am_ixor (n := 24) d_Placings_cellsWithin_23 rfl ?_
      refine am_iand (n := 25) d_Placings_cellsWithin_24 rfl ?_
      refine am_if_ne (y := 0) (tgt := 40) (n := 28) d_Placings_cellsWithin_25 rfl rfl (fun c2 => ?_) (fun c2 => ?_)
      · have h := h.2 c2
        refine am_iinc (v := v4 + 1) (ls' := [some (.ref q), some (.int p1), some (.int p2), some (.int v3), some (.int (v4 + 1))]) (n := 43) d_Placings_cellsWithin_40 rfl (congrArg _ ci_1) (by decide) rfl rfl ?_
        refine am_goto (tgt := 5) d_Placings_cellsWithin_43 rfl ?_
        exact ih v3 (v4 + 1)  h
      · have h := h.1 c2
        refine am_iload_n (n := 29) d_Placings_cellsWithin_28 rfl rfl ?_
        refine am_iload (n := 31) d_Placings_cellsWithin_29 rfl rfl ?_
        refine am_ishr (n := 32) d_Placings_cellsWithin_31 rfl ?_
        refine am_iconst (n := 33) d_Placings_cellsWithin_32 ci_1 rfl ?_
        refine am_iand (n := 34) d_Placings_cellsWithin_33 rfl ?_
        refine am_if_ne (y := 0) (tgt := 40) (n := 37) d_Placings_cellsWithin_34 rfl rfl (fun c3 => ?_) (fun c3 => ?_)
        · have h := h.2 c3
          refine am_iinc (v := v4 + 1) (ls' := [some (.ref q), some (.int p1), some (.int p2), some (.int v3), some (.int (v4 + 1))]) (n := 43) d_Placings_cellsWithin_40 rfl (congrArg _ ci_1) (by decide) rfl rfl ?_
          refine am_goto (tgt := 5) d_Placings_cellsWithin_43 rfl ?_
          exact ih v3 (v4 + 1)  h
        · have h := h.1 c3
          refine am_iinc (v := v3 + 1) (ls' := [some (.ref q), some (.int p1), some (.int p2), some (.int (v3 + 1)), some (.int v4)]) (n := 40) d_Placings_cellsWithin_37 rfl (congrArg _ ci_1) (by decide) rfl rfl ?_
          refine am_iinc (v := v4 + 1) (ls' := [some (.ref q), some (.int p1), some (.int p2), some (.int (v3 + 1)), some (.int (v4 + 1))]) (n := 43) d_Placings_cellsWithin_40 rfl (congrArg _ ci_1) (by decide) rfl rfl ?_
          refine am_goto (tgt := 5) d_Placings_cellsWithin_43 rfl ?_
          exact ih (v3 + 1) (v4 + 1)  h
def wp_Placings_cellsWithin (I : am_TI) (L : am_TL) (R : am_TR) (q : Nat) (p1 : Int32) (p2 : Int32)  (Q : Int32 → Prop) : Prop := (∃ z, wl_Placings_cellsWithin_5 I L R q p1 p2 Q z 0 0)
set_option maxRecDepth 20000 in
theorem cm_Placings_cellsWithin {d : Nat} {I : am_TI} {L : am_TL} {R : am_TR}  (hw : am_Wf R)   {q : Nat} {p1 : Int32} {p2 : Int32} {Q : Int32 → Prop} (hd : 0 ≤ d) (hq : am_SH[q]? = some (.inl 5)) (h : wp_Placings_cellsWithin I L R q p1 p2  Q) : am_Cm d 0 0 y_Placings_cellsWithin b_Placings_cellsWithin 5 (some .int) [.ref q, .int p1, .int p2] (I, L, R, am_SH) (po_Placings_cellsWithin I L R Q) := by
  refine am_Cm_of (ini := false) (by decide +kernel) (fun z => by cases z) (by simp [Value.category]) (fun r σ' z => by obtain ⟨x, rfl, -⟩ := z; exact ⟨_, rfl, rfl⟩) ?_
  unfold wp_Placings_cellsWithin at h
  show am_Wp (d, "UnseenRing$Placings", b_Placings_cellsWithin, 5, false) 0 0 0 [some (.ref q), some (.int p1), some (.int p2), none, none] [] (I, L, R, am_SH) (po_Placings_cellsWithin I L R Q)
  refine am_iconst (n := 1) d_Placings_cellsWithin_0 ci_0 rfl ?_
  refine am_istore_n (ls' := [some (.ref q), some (.int p1), some (.int p2), some (.int 0), none]) (n := 2) d_Placings_cellsWithin_1 (by decide) rfl rfl ?_
  refine am_iconst (n := 3) d_Placings_cellsWithin_2 ci_0 rfl ?_
  refine am_istore (ls' := [some (.ref q), some (.int p1), some (.int p2), some (.int 0), some (.int 0)]) (n := 5) d_Placings_cellsWithin_3 (by decide) rfl rfl ?_
  obtain ⟨n, h⟩ := h
  exact tl_Placings_cellsWithin_5 hw hq hd n 0 0 h
abbrev po_U_choose (I : am_TI) (L : am_TL) (R : am_TR) (Q : Int32 → Prop) : Option Value → am_St → Prop := fun r σ' => ∃ (x : Int32), r = some (.int x) ∧ σ' = (I, L, R, am_SH) ∧ Q x
def wl_U_choose_15 (I : am_TI) (L : am_TL) (R : am_TR) (p0 : Int32) (p1 : Int32) (Q : Int32 → Prop)  : Nat → Int32 → Int32 → Prop
  | 0 => fun _ _ => False
  | f15 + 1 => fun v2 v3 => ((p1 ≤ v3 → Q v2) ∧ (¬ p1 ≤ v3 → (¬ (v3 + 1) = 0 ∧ wl_U_choose_15 I L R p0 p1 Q f15 ((v2 * (p0 - v3)) / (v3 + 1)) (v3 + 1))))
set_option maxRecDepth 20000 in
theorem tl_U_choose_15 {d : Nat}  {I : am_TI} {L : am_TL} {R : am_TR} {p0 : Int32} {p1 : Int32} {Q : Int32 → Prop}  (hw : am_Wf R)  (hd : 0 ≤ d) : ∀ (n : Nat) (v2 : Int32) (v3 : Int32), wl_U_choose_15 I L R p0 p1 Q  n v2 v3 → am_Wp (d, "UnseenRing", b_U_choose, 4, false) 0 0 15 [some (.int p0), some (.int p1), some (.int v2), some (.int v3)] [] (I, L, R, am_SH) (po_U_choose I L R Q) := by
  intro n
  induction n with
  | zero => intro v2 v3 h; exact h.elim
  | succ n ih =>
    intro v2 v3 h
    unfold wl_U_choose_15 at h
    refine am_iload_n (n := 16) d_U_choose_15 rfl rfl ?_
    refine am_iload_n (n := 17) d_U_choose_16 rfl rfl ?_
    refine am_icmp_ge (tgt := 36) (n := 20) d_U_choose_17 rfl rfl (fun c3 => ?_) (fun c3 => ?_)
    · have h := h.1 c3
      refine am_iload_n (n := 37) d_U_choose_36 rfl rfl ?_
      exact am_iret d_U_choose_37 ⟨v2, rfl, rfl, h⟩
    · have h := h.2 c3
      refine am_iload_n (n := 21) d_U_choose_20 rfl rfl ?_
      refine am_iload_n (n := 22) d_U_choose_21 rfl rfl ?_
      refine am_iload_n (n := 23) d_U_choose_22 rfl rfl ?_
      refine am_isub (n := 24) d_U_choose_23 rfl ?_
      refine am_imul (n := 25) d_U_choose_24 rfl ?_
      refine am_iload_n (n := 26) d_U_choose_25 rfl rfl ?_
      refine am_iconst (n := 27) d_U_choose_26 ci_1 rfl ?_
      refine am_iadd (n := 28) d_U_choose_27 rfl ?_
      obtain ⟨g1, h⟩ := h
      refine am_idiv (n := 29) d_U_choose_28 g1 rfl ?_
      refine am_istore_n (ls' := [some (.int p0), some (.int p1), some (.int ((v2 * (p0 - v3)) / (v3 + 1))), some (.int v3)]) (n := 30) d_U_choose_29 (by decide) rfl rfl ?_
      refine am_iinc (v := v3 + 1) (ls' := [some (.int p0), some (.int p1), some (.int ((v2 * (p0 - v3)) / (v3 + 1))), some (.int (v3 + 1))]) (n := 33) d_U_choose_30 rfl (congrArg _ ci_1) (by decide) rfl rfl ?_
      refine am_goto (tgt := 15) d_U_choose_33 rfl ?_
      exact ih ((v2 * (p0 - v3)) / (v3 + 1)) (v3 + 1)  h
def wp_U_choose (I : am_TI) (L : am_TL) (R : am_TR) (p0 : Int32) (p1 : Int32)  (Q : Int32 → Prop) : Prop := ((p1 < 0 → Q 0) ∧ (¬ p1 < 0 → ((p1 ≤ p0 → (∃ z, wl_U_choose_15 I L R p0 p1 Q z 1 0)) ∧ (¬ p1 ≤ p0 → Q 0))))
set_option maxRecDepth 20000 in
theorem cm_U_choose {d : Nat} {I : am_TI} {L : am_TL} {R : am_TR}  (hw : am_Wf R)   {p0 : Int32} {p1 : Int32} {Q : Int32 → Prop} (hd : 0 ≤ d)  (h : wp_U_choose I L R p0 p1  Q) : am_Cm d 0 0 y_U_choose b_U_choose 4 (some .int) [.int p0, .int p1] (I, L, R, am_SH) (po_U_choose I L R Q) := by
  refine am_Cm_of (ini := false) (by decide +kernel) (fun z => by cases z) (by simp [Value.category]) (fun r σ' z => by obtain ⟨x, rfl, -⟩ := z; exact ⟨_, rfl, rfl⟩) ?_
  unfold wp_U_choose at h
  show am_Wp (d, "UnseenRing", b_U_choose, 4, false) 0 0 0 [some (.int p0), some (.int p1), none, none] [] (I, L, R, am_SH) (po_U_choose I L R Q)
  refine am_iload_n (n := 1) d_U_choose_0 rfl rfl ?_
  refine am_if_lt (y := 0) (tgt := 9) (n := 4) d_U_choose_1 rfl rfl (fun c1 => ?_) (fun c1 => ?_)
  · have h := h.1 c1
    refine am_iconst (n := 10) d_U_choose_9 ci_0 rfl ?_
    exact am_iret d_U_choose_10 ⟨0, rfl, rfl, h⟩
  · have h := h.2 c1
    refine am_iload_n (n := 5) d_U_choose_4 rfl rfl ?_
    refine am_iload_n (n := 6) d_U_choose_5 rfl rfl ?_
    refine am_icmp_le (tgt := 11) (n := 9) d_U_choose_6 rfl rfl (fun c2 => ?_) (fun c2 => ?_)
    · have h := h.1 c2
      refine am_iconst (n := 12) d_U_choose_11 ci_1 rfl ?_
      refine am_istore_n (ls' := [some (.int p0), some (.int p1), some (.int 1), none]) (n := 13) d_U_choose_12 (by decide) rfl rfl ?_
      refine am_iconst (n := 14) d_U_choose_13 ci_0 rfl ?_
      refine am_istore_n (ls' := [some (.int p0), some (.int p1), some (.int 1), some (.int 0)]) (n := 15) d_U_choose_14 (by decide) rfl rfl ?_
      obtain ⟨n, h⟩ := h
      exact tl_U_choose_15 hw hd n 1 0 h
    · have h := h.2 c2
      refine am_iconst (n := 10) d_U_choose_9 ci_0 rfl ?_
      exact am_iret d_U_choose_10 ⟨0, rfl, rfl, h⟩
abbrev po_Placings_countWithout (I : am_TI) (L : am_TL) (R : am_TR) (Q : Int32 → Prop) : Option Value → am_St → Prop := fun r σ' => ∃ (x : Int32), r = some (.int x) ∧ σ' = (I, L, R, am_SH) ∧ Q x
def wl_Placings_countWithout_6 (I : am_TI) (L : am_TL) (R : am_TR) (q : Nat) (p1 : Int32) (p2 : Int32) (p3 : Int32) (Q : Int32 → Prop)  : Nat → Int32 → Int32 → Prop
  | 0 => fun _ _ => False
  | f6 + 1 => fun v4 v5 => ((p1 < v5 → Q v4) ∧ (¬ p1 < v5 → (((v5 &&& (p1 ^^^ (-1))) = 0 → wp_Placings_cellsWithin I L R q v5 p3 (fun (r1 : Int32) => wp_U_choose I L R r1 p2 (fun (r2 : Int32) => wp_Integer_bitCount I L R (p1 ^^^ v5) (fun (r3 : Int32) => (((r3 - r3 / 2 * 2) = 0 → wl_Placings_countWithout_6 I L R q p1 p2 p3 Q f6 (v4 + r2) (v5 + 1)) ∧ (¬ (r3 - r3 / 2 * 2) = 0 → wl_Placings_countWithout_6 I L R q p1 p2 p3 Q f6 (v4 + (-r2)) (v5 + 1))))))) ∧ (¬ (v5 &&& (p1 ^^^ (-1))) = 0 → wl_Placings_countWithout_6 I L R q p1 p2 p3 Q f6 v4 (v5 + 1)))))
set_option maxRecDepth 20000 in
theorem tl_Placings_countWithout_6 {d : Nat}  {I : am_TI} {L : am_TL} {R : am_TR} {q : Nat} {p1 : Int32} {p2 : Int32} {p3 : Int32} {Q : Int32 → Prop}  (hw : am_Wf R) (hq : am_SH[q]? = some (.inl 5)) (hd : 1 ≤ d) : ∀ (n : Nat) (v4 : Int32) (v5 : Int32), wl_Placings_countWithout_6 I L R q p1 p2 p3 Q  n v4 v5 → am_Wp (d, "UnseenRing$Placings", b_Placings_countWithout, 7, false) 0 0 6 [some (.ref q), some (.int p1), some (.int p2), some (.int p3), some (.int v4), some (.int v5), none] [] (I, L, R, am_SH) (po_Placings_countWithout I L R Q) := by
  intro n
  induction n with
  | zero => intro v4 v5 h; exact h.elim
  | succ n ih =>
    intro v4 v5 h
    unfold wl_Placings_countWithout_6 at h
    refine am_iload (n := 8) d_Placings_countWithout_6 rfl rfl ?_
    refine am_iload_n (n := 9) d_Placings_countWithout_8 rfl rfl ?_
    refine am_icmp_gt (tgt := 65) (n := 12) d_Placings_countWithout_9 rfl rfl (fun c1 => ?_) (fun c1 => ?_)
    · have h := h.1 c1
      refine am_iload (n := 67) d_Placings_countWithout_65 rfl rfl ?_
      exact am_iret d_Placings_countWithout_67 ⟨v4, rfl, rfl, h⟩
    · have h := h.2 c1
      refine am_iload (n := 14) d_Placings_countWithout_12 rfl rfl ?_
      refine am_iload_n (n := 15) d_Placings_countWithout_14 rfl rfl ?_
      refine am_iconst (n := 16) d_Placings_countWithout_15 ci_m1 rfl ?_
      refine am_ixor (n := 17) d_Placings_countWithout_16 rfl ?_
      refine am_iand (n := 18) d_Placings_countWithout_17 rfl ?_
      refine am_if_ne (y := 0) (tgt := 59) (n := 21) d_Placings_countWithout_18 rfl rfl (fun c2 => ?_) (fun c2 => ?_)
      · have h := h.2 c2
        refine am_iinc (v := v5 + 1) (ls' := [some (.ref q), some (.int p1), some (.int p2), some (.int p3), some (.int v4), some (.int (v5 + 1)), none]) (n := 62) d_Placings_countWithout_59 rfl (congrArg _ ci_1) (by decide) rfl rfl ?_
        refine am_goto (tgt := 6) d_Placings_countWithout_62 rfl ?_
        exact ih v4 (v5 + 1)  h
      · have h := h.1 c2
        refine am_aload_n (n := 22) d_Placings_countWithout_21 rfl rfl ?_
        refine am_iload (n := 24) d_Placings_countWithout_22 rfl rfl ?_
        refine am_iload_n (n := 25) d_Placings_countWithout_24 rfl rfl ?_
        refine am_callV (kc := 0) (ks := 0) (As := [.int v5, .int p3]) (n := 28) d_Placings_countWithout_25 rfl ce_Placings_cellsWithin lk_Placings_43 in_Placings_cellsWithin rfl rfl hq rfl rfl (Nat.le_of_ble_eq_true rfl) (Or.inl rfl) (cm_Placings_cellsWithin (d := d - 1) hw (by omega) hq h) (by omega) ?_
        rintro _ _ ⟨r1, rfl, rfl, h⟩
        show am_Wp (d, "UnseenRing$Placings", b_Placings_countWithout, 7, false) 0 0 28 [some (.ref q), some (.int p1), some (.int p2), some (.int p3), some (.int v4), some (.int v5), none] [.int r1] (I, L, R, am_SH) (po_Placings_countWithout I L R Q)
        refine am_iload_n (n := 29) d_Placings_countWithout_28 rfl rfl ?_
        refine am_callS (kc := 0) (ks := 0) (As := [.int r1, .int p2]) (n := 32) d_Placings_countWithout_29 rfl ce_U_choose lk_Placings_46 st_U_choose rfl rfl (Nat.le_of_ble_eq_true rfl) (Or.inl rfl) (cm_U_choose (d := d - 1) hw (by omega)  h) (by omega) ?_
        rintro _ _ ⟨r2, rfl, rfl, h⟩
        show am_Wp (d, "UnseenRing$Placings", b_Placings_countWithout, 7, false) 0 0 32 [some (.ref q), some (.int p1), some (.int p2), some (.int p3), some (.int v4), some (.int v5), none] [.int r2] (I, L, R, am_SH) (po_Placings_countWithout I L R Q)
        refine am_istore (ls' := [some (.ref q), some (.int p1), some (.int p2), some (.int p3), some (.int v4), some (.int v5), some (.int r2)]) (n := 34) d_Placings_countWithout_32 (by decide) rfl rfl ?_
        refine am_iload (n := 36) d_Placings_countWithout_34 rfl rfl ?_
        refine am_iload_n (n := 37) d_Placings_countWithout_36 rfl rfl ?_
        refine am_iload (n := 39) d_Placings_countWithout_37 rfl rfl ?_
        refine am_ixor (n := 40) d_Placings_countWithout_39 rfl ?_
        refine am_callS (kc := 0) (ks := 0) (As := [.int (p1 ^^^ v5)]) (n := 43) d_Placings_countWithout_40 rfl ce_Integer_bitCount lk_Placings_49 st_Integer_bitCount rfl rfl (Nat.le_of_ble_eq_true rfl) (Or.inl rfl) (cm_Integer_bitCount (d := d - 1) hw (by omega)  h) (by omega) ?_
        rintro _ _ ⟨r3, rfl, rfl, h⟩
        show am_Wp (d, "UnseenRing$Placings", b_Placings_countWithout, 7, false) 0 0 43 [some (.ref q), some (.int p1), some (.int p2), some (.int p3), some (.int v4), some (.int v5), some (.int r2)] [.int r3, .int v4] (I, L, R, am_SH) (po_Placings_countWithout I L R Q)
        refine am_iconst (n := 44) d_Placings_countWithout_43 ci_2 rfl ?_
        refine am_irem (n := 45) d_Placings_countWithout_44 (by decide) rfl ?_
        refine am_if_ne (y := 0) (tgt := 53) (n := 48) d_Placings_countWithout_45 rfl rfl (fun c3 => ?_) (fun c3 => ?_)
        · have h := h.2 c3
          refine am_iload (n := 55) d_Placings_countWithout_53 rfl rfl ?_
          refine am_ineg (n := 56) d_Placings_countWithout_55 rfl ?_
          refine am_iadd (n := 57) d_Placings_countWithout_56 rfl ?_
          refine am_istore (ls' := [some (.ref q), some (.int p1), some (.int p2), some (.int p3), some (.int (v4 + (-r2))), some (.int v5), some (.int r2)]) (n := 59) d_Placings_countWithout_57 (by decide) rfl rfl ?_
          refine am_iinc (v := v5 + 1) (ls' := [some (.ref q), some (.int p1), some (.int p2), some (.int p3), some (.int (v4 + (-r2))), some (.int (v5 + 1)), some (.int r2)]) (n := 62) d_Placings_countWithout_59 rfl (congrArg _ ci_1) (by decide) rfl rfl ?_
          refine am_goto (tgt := 6) d_Placings_countWithout_62 rfl ?_
          refine am_forget (ls' := [some (.ref q), some (.int p1), some (.int p2), some (.int p3), some (.int (v4 + (-r2))), some (.int (v5 + 1)), none]) (am_le_s (am_le_s (am_le_s (am_le_s (am_le_s (am_le_s (am_le_n am_le_e))))))) ?_
          exact ih (v4 + (-r2)) (v5 + 1)  h
        · have h := h.1 c3
          refine am_iload (n := 50) d_Placings_countWithout_48 rfl rfl ?_
          refine am_goto (tgt := 56) d_Placings_countWithout_50 rfl ?_
          refine am_iadd (n := 57) d_Placings_countWithout_56 rfl ?_
          refine am_istore (ls' := [some (.ref q), some (.int p1), some (.int p2), some (.int p3), some (.int (v4 + r2)), some (.int v5), some (.int r2)]) (n := 59) d_Placings_countWithout_57 (by decide) rfl rfl ?_
          refine am_iinc (v := v5 + 1) (ls' := [some (.ref q), some (.int p1), some (.int p2), some (.int p3), some (.int (v4 + r2)), some (.int (v5 + 1)), some (.int r2)]) (n := 62) d_Placings_countWithout_59 rfl (congrArg _ ci_1) (by decide) rfl rfl ?_
          refine am_goto (tgt := 6) d_Placings_countWithout_62 rfl ?_
          refine am_forget (ls' := [some (.ref q), some (.int p1), some (.int p2), some (.int p3), some (.int (v4 + r2)), some (.int (v5 + 1)), none]) (am_le_s (am_le_s (am_le_s (am_le_s (am_le_s (am_le_s (am_le_n am_le_e))))))) ?_
          exact ih (v4 + r2) (v5 + 1)  h
def wp_Placings_countWithout (I : am_TI) (L : am_TL) (R : am_TR) (q : Nat) (p1 : Int32) (p2 : Int32) (p3 : Int32)  (Q : Int32 → Prop) : Prop := (∃ z, wl_Placings_countWithout_6 I L R q p1 p2 p3 Q z 0 0)
set_option maxRecDepth 20000 in
theorem cm_Placings_countWithout {d : Nat} {I : am_TI} {L : am_TL} {R : am_TR}  (hw : am_Wf R)   {q : Nat} {p1 : Int32} {p2 : Int32} {p3 : Int32} {Q : Int32 → Prop} (hd : 1 ≤ d) (hq : am_SH[q]? = some (.inl 5)) (h : wp_Placings_countWithout I L R q p1 p2 p3  Q) : am_Cm d 0 0 y_Placings_countWithout b_Placings_countWithout 7 (some .int) [.ref q, .int p1, .int p2, .int p3] (I, L, R, am_SH) (po_Placings_countWithout I L R Q) := by
  refine am_Cm_of (ini := false) (by decide +kernel) (fun z => by cases z) (by simp [Value.category]) (fun r σ' z => by obtain ⟨x, rfl, -⟩ := z; exact ⟨_, rfl, rfl⟩) ?_
  unfold wp_Placings_countWithout at h
  show am_Wp (d, "UnseenRing$Placings", b_Placings_countWithout, 7, false) 0 0 0 [some (.ref q), some (.int p1), some (.int p2), some (.int p3), none, none, none] [] (I, L, R, am_SH) (po_Placings_countWithout I L R Q)
  refine am_iconst (n := 1) d_Placings_countWithout_0 ci_0 rfl ?_
  refine am_istore (ls' := [some (.ref q), some (.int p1), some (.int p2), some (.int p3), some (.int 0), none, none]) (n := 3) d_Placings_countWithout_1 (by decide) rfl rfl ?_
  refine am_iconst (n := 4) d_Placings_countWithout_3 ci_0 rfl ?_
  refine am_istore (ls' := [some (.ref q), some (.int p1), some (.int p2), some (.int p3), some (.int 0), some (.int 0), none]) (n := 6) d_Placings_countWithout_4 (by decide) rfl rfl ?_
  obtain ⟨n, h⟩ := h
  exact tl_Placings_countWithout_6 hw hq hd n 0 0 h
abbrev po_U_isPlacing (I : am_TI) (L : am_TL) (R : am_TR) (Q : Bool → Prop) : Option Value → am_St → Prop := fun r σ' => ∃ (x : Bool), r = some (.int (am_b x)) ∧ σ' = (I, L, R, am_SH) ∧ Q x
def wp_U_isPlacing (I : am_TI) (L : am_TL) (R : am_TR) (q : Nat) (p1 : Int32) (p2 : Int32)  (Q : Bool → Prop) : Prop := wp_U_isSet I L R p1 (I (am_rd R q 11) 12) (fun (r1 : Bool) => ((r1 = false → Q false) ∧ (r1 = true → wp_U_within I L R p2 0 4 (fun (r2 : Bool) => ((r2 = false → Q false) ∧ (r2 = true → Q true))))))
set_option maxRecDepth 20000 in
theorem cm_U_isPlacing {d : Nat} {I : am_TI} {L : am_TL} {R : am_TR}  (hw : am_Wf R)   {q : Nat} {p1 : Int32} {p2 : Int32} {Q : Bool → Prop} (hd : 2 ≤ d) (hq : am_SH[q]? = some (.inl 11)) (h : wp_U_isPlacing I L R q p1 p2  Q) : am_Cm d 0 0 y_U_isPlacing b_U_isPlacing 3 (some .boolean) [.ref q, .int p1, .int p2] (I, L, R, am_SH) (po_U_isPlacing I L R Q) := by
  refine am_Cm_of (ini := false) (by decide +kernel) (fun z => by cases z) (by simp [Value.category]) (fun r σ' z => by obtain ⟨x, rfl, -⟩ := z; exact ⟨_, rfl, am_b_nar x⟩) ?_
  unfold wp_U_isPlacing at h
  show am_Wp (d, "UnseenRing", b_U_isPlacing, 3, false) 0 0 0 [some (.ref q), some (.int p1), some (.int p2)] [] (I, L, R, am_SH) (po_U_isPlacing I L R Q)
  refine am_iload_n (n := 1) d_U_isPlacing_0 rfl rfl ?_
  refine am_aload_n (n := 2) d_U_isPlacing_1 rfl rfl ?_
  refine am_getR (x := (am_rd R q 11)) (n := 5) f_U_81 d_U_isPlacing_2 rfl rfl hq (hw.rd (k := 11) hq rfl).1 ?_
  refine am_getI (n := 8) f_U_315 d_U_isPlacing_5 rfl rfl (hw.rd (k := 11) hq rfl).2 ?_
  refine am_callS (kc := 0) (ks := 0) (As := [.int p1, .int (I (am_rd R q 11) 12)]) (n := 11) d_U_isPlacing_8 rfl ce_U_isSet lk_U_307 st_U_isSet rfl rfl (Nat.le_of_ble_eq_true rfl) (Or.inl rfl) (cm_U_isSet (d := d - 1) hw (by omega)  h) (by omega) ?_
  rintro _ _ ⟨r1, rfl, rfl, h⟩
  show am_Wp (d, "UnseenRing", b_U_isPlacing, 3, false) 0 0 11 [some (.ref q), some (.int p1), some (.int p2)] [.int (am_b r1)] (I, L, R, am_SH) (po_U_isPlacing I L R Q)
  refine am_if_eq (y := 0) (tgt := 27) (n := 14) d_U_isPlacing_11 rfl rfl (fun c1 => ?_) (fun c1 => ?_)
  · have h := h.1 (am_b_0 c1)
    refine am_iconst (n := 28) d_U_isPlacing_27 ci_0 rfl ?_
    exact am_iret d_U_isPlacing_28 ⟨false, rfl, rfl, h⟩
  · have h := h.2 (am_b_n0 c1)
    refine am_iload_n (n := 15) d_U_isPlacing_14 rfl rfl ?_
    refine am_iconst (n := 16) d_U_isPlacing_15 ci_0 rfl ?_
    refine am_iconst (n := 17) d_U_isPlacing_16 ci_4 rfl ?_
    refine am_callS (kc := 0) (ks := 0) (As := [.int p2, .int 0, .int 4]) (n := 20) d_U_isPlacing_17 rfl ce_U_within lk_U_114 st_U_within rfl rfl (Nat.le_of_ble_eq_true rfl) (Or.inl rfl) (cm_U_within (d := d - 1) hw (by omega)  h) (by omega) ?_
    rintro _ _ ⟨r2, rfl, rfl, h⟩
    show am_Wp (d, "UnseenRing", b_U_isPlacing, 3, false) 0 0 20 [some (.ref q), some (.int p1), some (.int p2)] [.int (am_b r2)] (I, L, R, am_SH) (po_U_isPlacing I L R Q)
    refine am_if_eq (y := 0) (tgt := 27) (n := 23) d_U_isPlacing_20 rfl rfl (fun c2 => ?_) (fun c2 => ?_)
    · have h := h.1 (am_b_0 c2)
      refine am_iconst (n := 28) d_U_isPlacing_27 ci_0 rfl ?_
      exact am_iret d_U_isPlacing_28 ⟨false, rfl, rfl, h⟩
    · have h := h.2 (am_b_n0 c2)
      refine am_iconst (n := 24) d_U_isPlacing_23 ci_1 rfl ?_
      refine am_goto (tgt := 28) d_U_isPlacing_24 rfl ?_
      exact am_iret d_U_isPlacing_28 ⟨true, rfl, rfl, h⟩
abbrev po_U_placings (L : am_TL) (R : am_TR) (Q : Int32 → am_TI → Prop) : Option Value → am_St → Prop := fun r σ' => ∃ (x : Int32) (I' : am_TI), r = some (.int x) ∧ σ' = (I', L, R, am_SH) ∧ Q x I'
def wp_U_placings (I : am_TI) (L : am_TL) (R : am_TR) (q : Nat) (p1 : Int32) (p2 : Int32)  (Q : Int32 → am_TI → Prop) : Prop := wp_U_isPlacing I L R q p1 p2 (fun (r1 : Bool) => ((r1 = false → wp_U_refused I L R q 1 (fun (r4 : Int32) (I3 : am_TI) => Q r4 I3)) ∧ (r1 = true → wp_Placings_look I L R (q + 21) (am_rd R q 11) (fun (I1 : am_TI) => wp_Placings_countWithout I1 L R (q + 21) p1 p2 0 (fun (r2 : Int32) => wp_U_answered I1 L R q r2 (fun (r3 : Int32) (I2 : am_TI) => Q r3 I2))))))
set_option maxRecDepth 20000 in
theorem cm_U_placings {d : Nat} {I : am_TI} {L : am_TL} {R : am_TR}  (hw : am_Wf R)   {q : Nat} {p1 : Int32} {p2 : Int32} {Q : Int32 → am_TI → Prop} (hd : 5 ≤ d) (hq : am_SH[q]? = some (.inl 11)) (h : wp_U_placings I L R q p1 p2  Q) : am_Cm d 0 0 y_U_placings b_U_placings 3 (some .int) [.ref q, .int p1, .int p2] (I, L, R, am_SH) (po_U_placings L R Q) := by
  refine am_Cm_of (ini := false) (by decide +kernel) (fun z => by cases z) (by simp [Value.category]) (fun r σ' z => by obtain ⟨x, _, rfl, -⟩ := z; exact ⟨_, rfl, rfl⟩) ?_
  unfold wp_U_placings at h
  show am_Wp (d, "UnseenRing", b_U_placings, 3, false) 0 0 0 [some (.ref q), some (.int p1), some (.int p2)] [] (I, L, R, am_SH) (po_U_placings L R Q)
  refine am_aload_n (n := 1) d_U_placings_0 rfl rfl ?_
  refine am_iload_n (n := 2) d_U_placings_1 rfl rfl ?_
  refine am_iload_n (n := 3) d_U_placings_2 rfl rfl ?_
  refine am_callV (kc := 0) (ks := 0) (As := [.int p1, .int p2]) (n := 6) d_U_placings_3 rfl ce_U_isPlacing lk_U_325 in_U_isPlacing rfl rfl hq rfl rfl (Nat.le_of_ble_eq_true rfl) (Or.inl rfl) (cm_U_isPlacing (d := d - 1) hw (by omega) hq h) (by omega) ?_
  rintro _ _ ⟨r1, rfl, rfl, h⟩
  show am_Wp (d, "UnseenRing", b_U_placings, 3, false) 0 0 6 [some (.ref q), some (.int p1), some (.int p2)] [.int (am_b r1)] (I, L, R, am_SH) (po_U_placings L R Q)
  refine am_if_ne (y := 0) (tgt := 15) (n := 9) d_U_placings_6 rfl rfl (fun c1 => ?_) (fun c1 => ?_)
  · have h := h.2 (am_b_n0 c1)
    refine am_aload_n (n := 16) d_U_placings_15 rfl rfl ?_
    refine am_getR (x := (q + 21)) (n := 19) f_U_62 d_U_placings_16 rfl rfl hq (hw.1 q 11 8 21 hq rfl) ?_
    refine am_aload_n (n := 20) d_U_placings_19 rfl rfl ?_
    refine am_getR (x := (am_rd R q 11)) (n := 23) f_U_81 d_U_placings_20 rfl rfl hq (hw.rd (k := 11) hq rfl).1 ?_
    refine am_callV (kc := 0) (ks := 0) (As := [.ref (am_rd R q 11)]) (n := 26) d_U_placings_23 rfl ce_Placings_look lk_U_318 in_Placings_look rfl rfl (am_sho (k := 8) (o := 21) hq (by decide) (by decide) (by decide) rfl) rfl rfl (Nat.le_of_ble_eq_true rfl) (Or.inl rfl) (cm_Placings_look (d := d - 1) hw (by omega) (am_sho (k := 8) (o := 21) hq (by decide) (by decide) (by decide) rfl) (hw.rd (k := 11) hq rfl).2 h) (by omega) ?_
    rintro _ _ ⟨I1, rfl, rfl, h⟩
    show am_Wp (d, "UnseenRing", b_U_placings, 3, false) 0 0 26 [some (.ref q), some (.int p1), some (.int p2)] [] (I1, L, R, am_SH) (po_U_placings L R Q)
    refine am_aload_n (n := 27) d_U_placings_26 rfl rfl ?_
    refine am_aload_n (n := 28) d_U_placings_27 rfl rfl ?_
    refine am_getR (x := (q + 21)) (n := 31) f_U_62 d_U_placings_28 rfl rfl hq (hw.1 q 11 8 21 hq rfl) ?_
    refine am_iload_n (n := 32) d_U_placings_31 rfl rfl ?_
    refine am_iload_n (n := 33) d_U_placings_32 rfl rfl ?_
    refine am_iconst (n := 34) d_U_placings_33 ci_0 rfl ?_
    refine am_callV (kc := 0) (ks := 0) (As := [.int p1, .int p2, .int 0]) (n := 37) d_U_placings_34 rfl ce_Placings_countWithout lk_U_328 in_Placings_countWithout rfl rfl (am_sho (k := 8) (o := 21) hq (by decide) (by decide) (by decide) rfl) rfl rfl (Nat.le_of_ble_eq_true rfl) (Or.inl rfl) (cm_Placings_countWithout (d := d - 1) hw (by omega) (am_sho (k := 8) (o := 21) hq (by decide) (by decide) (by decide) rfl) h) (by omega) ?_
    rintro _ _ ⟨r2, rfl, rfl, h⟩
    show am_Wp (d, "UnseenRing", b_U_placings, 3, false) 0 0 37 [some (.ref q), some (.int p1), some (.int p2)] [.int r2, .ref q] (I1, L, R, am_SH) (po_U_placings L R Q)
    refine am_callV (kc := 0) (ks := 0) (As := [.int r2]) (n := 40) d_U_placings_37 rfl ce_U_answered lk_U_184 in_U_answered rfl rfl hq rfl rfl (Nat.le_of_ble_eq_true rfl) (Or.inl rfl) (cm_U_answered (d := d - 1) hw (by omega) hq h) (by omega) ?_
    rintro _ _ ⟨r3, I2, rfl, rfl, h⟩
    show am_Wp (d, "UnseenRing", b_U_placings, 3, false) 0 0 40 [some (.ref q), some (.int p1), some (.int p2)] [.int r3] (I2, L, R, am_SH) (po_U_placings L R Q)
    exact am_iret d_U_placings_40 ⟨r3, I2, rfl, rfl, h⟩
  · have h := h.1 (am_b_0 c1)
    refine am_aload_n (n := 10) d_U_placings_9 rfl rfl ?_
    refine am_iconst (n := 11) d_U_placings_10 ci_1 rfl ?_
    refine am_callV (kc := 0) (ks := 0) (As := [.int 1]) (n := 14) d_U_placings_11 rfl ce_U_refused lk_U_133 in_U_refused rfl rfl hq rfl rfl (Nat.le_of_ble_eq_true rfl) (Or.inl rfl) (cm_U_refused (d := d - 1) hw (by omega) hq h) (by omega) ?_
    rintro _ _ ⟨r4, I3, rfl, rfl, h⟩
    show am_Wp (d, "UnseenRing", b_U_placings, 3, false) 0 0 14 [some (.ref q), some (.int p1), some (.int p2)] [.int r4] (I3, L, R, am_SH) (po_U_placings L R Q)
    exact am_iret d_U_placings_14 ⟨r4, I3, rfl, rfl, h⟩
abbrev po_U_commonDivisor (I : am_TI) (L : am_TL) (R : am_TR) (Q : Int64 → Prop) : Option Value → am_St → Prop := fun r σ' => ∃ (x : Int64), r = some (.long x) ∧ σ' = (I, L, R, am_SH) ∧ Q x
def wl_U_commonDivisor_3 (I : am_TI) (L : am_TL) (R : am_TR) (Q : Int64 → Prop)  : Nat → Int64 → Int64 → Int32 → Prop
  | 0 => fun _ _ _ => False
  | f3 + 1 => fun v0 v2 v4 => ((200 ≤ v4 → Q v0) ∧ (¬ 200 ≤ v4 → ((v2 = 0 → Q v0) ∧ (¬ v2 = 0 → (¬ v2 = 0 ∧ wl_U_commonDivisor_3 I L R Q f3 v2 (v0 - v0 / v2 * v2) (v4 + 1))))))
set_option maxRecDepth 20000 in
theorem tl_U_commonDivisor_3 {d : Nat}  {I : am_TI} {L : am_TL} {R : am_TR} {Q : Int64 → Prop}  (hw : am_Wf R)  (hd : 0 ≤ d) : ∀ (n : Nat) (v0 : Int64) (v2 : Int64) (v4 : Int32), wl_U_commonDivisor_3 I L R Q  n v0 v2 v4 → am_Wp (d, "UnseenRing", b_U_commonDivisor, 7, false) 0 0 3 [some (.long v0), none, some (.long v2), none, some (.int v4), none, none] [] (I, L, R, am_SH) (po_U_commonDivisor I L R Q) := by
  intro n
  induction n with
  | zero => intro v0 v2 v4 h; exact h.elim
  | succ n ih =>
    intro v0 v2 v4 h
    unfold wl_U_commonDivisor_3 at h
    refine am_iload (n := 5) d_U_commonDivisor_3 rfl rfl ?_
    refine am_sipush (n := 8) d_U_commonDivisor_5 cs_200 rfl ?_
    refine am_icmp_ge (tgt := 33) (n := 11) d_U_commonDivisor_8 rfl rfl (fun c1 => ?_) (fun c1 => ?_)
    · have h := h.1 c1
      refine am_lload_n (n := 34) d_U_commonDivisor_33 rfl rfl ?_
      exact am_lret d_U_commonDivisor_34 ⟨v0, rfl, rfl, h⟩
    · have h := h.2 c1
      refine am_lload_n (n := 12) d_U_commonDivisor_11 rfl rfl ?_
      refine am_lconst (v := 0) (n := 13) d_U_commonDivisor_12 rfl rfl ?_
      refine am_lcmp (n := 14) d_U_commonDivisor_13 rfl ?_
      refine am_if_eq (y := 0) (tgt := 33) (n := 17) d_U_commonDivisor_14 rfl rfl (fun c2 => ?_) (fun c2 => ?_)
      · have h := h.1 (am_cmp_eq.mp c2)
        refine am_lload_n (n := 34) d_U_commonDivisor_33 rfl rfl ?_
        exact am_lret d_U_commonDivisor_34 ⟨v0, rfl, rfl, h⟩
      · have h := h.2 (fun z => c2 (am_cmp_eq.mpr z))
        refine am_lload_n (n := 18) d_U_commonDivisor_17 rfl rfl ?_
        refine am_lload_n (n := 19) d_U_commonDivisor_18 rfl rfl ?_
        obtain ⟨g1, h⟩ := h
        refine am_lrem (n := 20) d_U_commonDivisor_19 g1 rfl ?_
        refine am_lstore (ls' := [some (.long v0), none, some (.long v2), none, some (.int v4), some (.long (v0 - v0 / v2 * v2)), none]) (n := 22) d_U_commonDivisor_20 (by decide) rfl rfl ?_
        refine am_lload_n (n := 23) d_U_commonDivisor_22 rfl rfl ?_
        refine am_lstore_n (ls' := [some (.long v2), none, some (.long v2), none, some (.int v4), some (.long (v0 - v0 / v2 * v2)), none]) (n := 24) d_U_commonDivisor_23 (by decide) rfl rfl ?_
        refine am_lload (n := 26) d_U_commonDivisor_24 rfl rfl ?_
        refine am_lstore_n (ls' := [some (.long v2), none, some (.long (v0 - v0 / v2 * v2)), none, some (.int v4), some (.long (v0 - v0 / v2 * v2)), none]) (n := 27) d_U_commonDivisor_26 (by decide) rfl rfl ?_
        refine am_iinc (v := v4 + 1) (ls' := [some (.long v2), none, some (.long (v0 - v0 / v2 * v2)), none, some (.int (v4 + 1)), some (.long (v0 - v0 / v2 * v2)), none]) (n := 30) d_U_commonDivisor_27 rfl (congrArg _ ci_1) (by decide) rfl rfl ?_
        refine am_goto (tgt := 3) d_U_commonDivisor_30 rfl ?_
        refine am_forget (ls' := [some (.long v2), none, some (.long (v0 - v0 / v2 * v2)), none, some (.int (v4 + 1)), none, none]) (am_le_s (am_le_n (am_le_s (am_le_n (am_le_s (am_le_n (am_le_n am_le_e))))))) ?_
        exact ih v2 (v0 - v0 / v2 * v2) (v4 + 1)  h
def wp_U_commonDivisor (I : am_TI) (L : am_TL) (R : am_TR) (p0 : Int64) (p2 : Int64)  (Q : Int64 → Prop) : Prop := (∃ z, wl_U_commonDivisor_3 I L R Q z p0 p2 0)
set_option maxRecDepth 20000 in
theorem cm_U_commonDivisor {d : Nat} {I : am_TI} {L : am_TL} {R : am_TR}  (hw : am_Wf R)   {p0 : Int64} {p2 : Int64} {Q : Int64 → Prop} (hd : 0 ≤ d)  (h : wp_U_commonDivisor I L R p0 p2  Q) : am_Cm d 0 0 y_U_commonDivisor b_U_commonDivisor 7 (some .long) [.long p0, .long p2] (I, L, R, am_SH) (po_U_commonDivisor I L R Q) := by
  refine am_Cm_of (ini := false) (by decide +kernel) (fun z => by cases z) (by simp [Value.category]) (fun r σ' z => by obtain ⟨_, rfl, -⟩ := z; rfl) ?_
  unfold wp_U_commonDivisor at h
  show am_Wp (d, "UnseenRing", b_U_commonDivisor, 7, false) 0 0 0 [some (.long p0), none, some (.long p2), none, none, none, none] [] (I, L, R, am_SH) (po_U_commonDivisor I L R Q)
  refine am_iconst (n := 1) d_U_commonDivisor_0 ci_0 rfl ?_
  refine am_istore (ls' := [some (.long p0), none, some (.long p2), none, some (.int 0), none, none]) (n := 3) d_U_commonDivisor_1 (by decide) rfl rfl ?_
  obtain ⟨n, h⟩ := h
  exact tl_U_commonDivisor_3 hw hd n p0 p2 0 h
abbrev po_U_tellFraction (I : am_TI) (R : am_TR) (Q : am_TL → Prop) : Option Value → am_St → Prop := fun r σ' => ∃ (L' : am_TL), r = none ∧ σ' = (I, L', R, am_SH) ∧ Q L'
def wp_U_tellFraction (I : am_TI) (L : am_TL) (R : am_TR) (q : Nat) (p1 : Int64) (p3 : Int64)  (Q : am_TL → Prop) : Prop := wp_U_commonDivisor I L R p1 p3 (fun (r1 : Int64) => ((r1 ≤ 0 → Q L) ∧ (¬ r1 ≤ 0 → (¬ r1 = 0 ∧ (∀ L1, L1 = am_u2 L q 16 (p1 / r1) → (¬ r1 = 0 ∧ (∀ L2, L2 = am_u2 L1 q 17 (p3 / r1) → Q L2)))))))
set_option maxRecDepth 20000 in
theorem cm_U_tellFraction {d : Nat} {I : am_TI} {L : am_TL} {R : am_TR}  (hw : am_Wf R)   {q : Nat} {p1 : Int64} {p3 : Int64} {Q : am_TL → Prop} (hd : 1 ≤ d) (hq : am_SH[q]? = some (.inl 11)) (h : wp_U_tellFraction I L R q p1 p3  Q) : am_Cm d 0 0 y_U_tellFraction b_U_tellFraction 7 (none) [.ref q, .long p1, .long p3] (I, L, R, am_SH) (po_U_tellFraction I R Q) := by
  refine am_Cm_of (ini := false) (by decide +kernel) (fun z => by cases z) (by simp [Value.category]) (fun r σ' z => by obtain ⟨_, rfl, -⟩ := z; rfl) ?_
  unfold wp_U_tellFraction at h
  show am_Wp (d, "UnseenRing", b_U_tellFraction, 7, false) 0 0 0 [some (.ref q), some (.long p1), none, some (.long p3), none, none, none] [] (I, L, R, am_SH) (po_U_tellFraction I R Q)
  refine am_lload_n (n := 1) d_U_tellFraction_0 rfl rfl ?_
  refine am_lload_n (n := 2) d_U_tellFraction_1 rfl rfl ?_
  refine am_callS (kc := 0) (ks := 0) (As := [.long p1, .long p3]) (n := 5) d_U_tellFraction_2 rfl ce_U_commonDivisor lk_U_411 st_U_commonDivisor rfl rfl (Nat.le_of_ble_eq_true rfl) (Or.inl rfl) (cm_U_commonDivisor (d := d - 1) hw (by omega)  h) (by omega) ?_
  rintro _ _ ⟨r1, rfl, rfl, h⟩
  show am_Wp (d, "UnseenRing", b_U_tellFraction, 7, false) 0 0 5 [some (.ref q), some (.long p1), none, some (.long p3), none, none, none] [.long r1] (I, L, R, am_SH) (po_U_tellFraction I R Q)
  refine am_lstore (ls' := [some (.ref q), some (.long p1), none, some (.long p3), none, some (.long r1), none]) (n := 7) d_U_tellFraction_5 (by decide) rfl rfl ?_
  refine am_lload (n := 9) d_U_tellFraction_7 rfl rfl ?_
  refine am_lconst (v := 0) (n := 10) d_U_tellFraction_9 rfl rfl ?_
  refine am_lcmp (n := 11) d_U_tellFraction_10 rfl ?_
  refine am_if_le (y := 0) (tgt := 30) (n := 14) d_U_tellFraction_11 rfl rfl (fun c1 => ?_) (fun c1 => ?_)
  · have h := h.1 (am_cmp_le.mp c1)
    exact am_vret d_U_tellFraction_30 ⟨L, rfl, rfl, h⟩
  · have h := h.2 (fun z => c1 (am_cmp_le.mpr z))
    refine am_aload_n (n := 15) d_U_tellFraction_14 rfl rfl ?_
    refine am_lload_n (n := 16) d_U_tellFraction_15 rfl rfl ?_
    refine am_lload (n := 18) d_U_tellFraction_16 rfl rfl ?_
    obtain ⟨g1, h⟩ := h
    refine am_ldiv (n := 19) d_U_tellFraction_18 g1 rfl ?_
    refine am_putL (n := 22) f_U_102 d_U_tellFraction_19 rfl ⟨_, rfl, Or.inl rfl⟩ rfl rfl hq ?_
    generalize eL1 : am_u2 L q 16 (p1 / r1) = L1
    have h := h L1 eL1.symm
    refine am_aload_n (n := 23) d_U_tellFraction_22 rfl rfl ?_
    refine am_lload_n (n := 24) d_U_tellFraction_23 rfl rfl ?_
    refine am_lload (n := 26) d_U_tellFraction_24 rfl rfl ?_
    obtain ⟨g2, h⟩ := h
    refine am_ldiv (n := 27) d_U_tellFraction_26 g2 rfl ?_
    refine am_putL (n := 30) f_U_106 d_U_tellFraction_27 rfl ⟨_, rfl, Or.inl rfl⟩ rfl rfl hq ?_
    generalize eL2 : am_u2 L1 q 17 (p3 / r1) = L2
    have h := h L2 eL2.symm
    exact am_vret d_U_tellFraction_30 ⟨L2, rfl, rfl, h⟩
abbrev po_U_oddsThat (R : am_TR) (Q : Bool → am_TI → am_TL → Prop) : Option Value → am_St → Prop := fun r σ' => ∃ (x : Bool) (I' : am_TI) (L' : am_TL), r = some (.int (am_b x)) ∧ σ' = (I', L', R, am_SH) ∧ Q x I' L'
def wb_U_oddsThat_20 (R : am_TR) (q : Nat) (p1 : Int32) (p2 : Int32) (p3 : Int32) (Q : Bool → am_TI → am_TL → Prop)  (I : am_TI) (L : am_TL) : Prop := wp_U_settled I L R q 1 (fun (r2 : Bool) (I1 : am_TI) => Q r2 I1 L)
set_option maxRecDepth 20000 in
theorem tb_U_oddsThat_20 {d : Nat}  {R : am_TR} {q : Nat} {p1 : Int32} {p2 : Int32} {p3 : Int32} {Q : Bool → am_TI → am_TL → Prop}  (hw : am_Wf R) (hq : am_SH[q]? = some (.inl 11)) (hd : 5 ≤ d) (I : am_TI) (L : am_TL) (h : wb_U_oddsThat_20 R q p1 p2 p3 Q  I L) : am_Wp (d, "UnseenRing", b_U_oddsThat, 5, false) 0 0 20 [some (.ref q), some (.int p1), some (.int p2), some (.int p3), none] [] (I, L, R, am_SH) (po_U_oddsThat R Q) := by
  unfold wb_U_oddsThat_20 at h
  refine am_aload_n (n := 21) d_U_oddsThat_20 rfl rfl ?_
  refine am_iconst (n := 22) d_U_oddsThat_21 ci_1 rfl ?_
  refine am_callV (kc := 0) (ks := 0) (As := [.int 1]) (n := 25) d_U_oddsThat_22 rfl ce_U_settled lk_U_118 in_U_settled rfl rfl hq rfl rfl (Nat.le_of_ble_eq_true rfl) (Or.inl rfl) (cm_U_settled (d := d - 1) hw (by omega) hq h) (by omega) ?_
  rintro _ _ ⟨r2, I1, rfl, rfl, h⟩
  show am_Wp (d, "UnseenRing", b_U_oddsThat, 5, false) 0 0 25 [some (.ref q), some (.int p1), some (.int p2), some (.int p3), none] [.int (am_b r2)] (I1, L, R, am_SH) (po_U_oddsThat R Q)
  exact am_iret d_U_oddsThat_25 ⟨r2, I1, L, rfl, rfl, h⟩
def wp_U_oddsThat (I : am_TI) (L : am_TL) (R : am_TR) (q : Nat) (p1 : Int32) (p2 : Int32) (p3 : Int32)  (Q : Bool → am_TI → am_TL → Prop) : Prop := wp_U_isPlacing I L R q p1 p2 (fun (r1 : Bool) => ((r1 = false → wb_U_oddsThat_20 R q p1 p2 p3 Q I L) ∧ (r1 = true → wp_Square_hasCell I L R (am_rd R q 11) p3 (fun (r3 : Bool) => ((r3 = false → wb_U_oddsThat_20 R q p1 p2 p3 Q I L) ∧ (r3 = true → wp_Placings_look I L R (q + 21) (am_rd R q 11) (fun (I2 : am_TI) => wp_Placings_countWithout I2 L R (q + 21) p1 p2 0 (fun (r4 : Int32) => ((r4 = 0 → wp_U_settled I2 L R q 6 (fun (r7 : Bool) (I4 : am_TI) => Q r7 I4 L)) ∧ (¬ r4 = 0 → wp_Placings_countWithout I2 L R (q + 21) p1 p2 ((1 : Int32) <<< (p3 &&& 31)) (fun (r5 : Int32) => wp_U_tellFraction I2 L R q (Int32.toInt64 (r4 - r5)) (Int32.toInt64 r4) (fun (L1 : am_TL) => wp_U_settled I2 L1 R q 0 (fun (r6 : Bool) (I3 : am_TI) => Q r6 I3 L1)))))))))))))
set_option maxRecDepth 20000 in
theorem cm_U_oddsThat {d : Nat} {I : am_TI} {L : am_TL} {R : am_TR}  (hw : am_Wf R)   {q : Nat} {p1 : Int32} {p2 : Int32} {p3 : Int32} {Q : Bool → am_TI → am_TL → Prop} (hd : 5 ≤ d) (hq : am_SH[q]? = some (.inl 11)) (h : wp_U_oddsThat I L R q p1 p2 p3  Q) : am_Cm d 0 0 y_U_oddsThat b_U_oddsThat 5 (some .boolean) [.ref q, .int p1, .int p2, .int p3] (I, L, R, am_SH) (po_U_oddsThat R Q) := by
  refine am_Cm_of (ini := false) (by decide +kernel) (fun z => by cases z) (by simp [Value.category]) (fun r σ' z => by obtain ⟨x, _, _, rfl, -⟩ := z; exact ⟨_, rfl, am_b_nar x⟩) ?_
  unfold wp_U_oddsThat at h
  show am_Wp (d, "UnseenRing", b_U_oddsThat, 5, false) 0 0 0 [some (.ref q), some (.int p1), some (.int p2), some (.int p3), none] [] (I, L, R, am_SH) (po_U_oddsThat R Q)
  refine am_aload_n (n := 1) d_U_oddsThat_0 rfl rfl ?_
  refine am_iload_n (n := 2) d_U_oddsThat_1 rfl rfl ?_
  refine am_iload_n (n := 3) d_U_oddsThat_2 rfl rfl ?_
  refine am_callV (kc := 0) (ks := 0) (As := [.int p1, .int p2]) (n := 6) d_U_oddsThat_3 rfl ce_U_isPlacing lk_U_325 in_U_isPlacing rfl rfl hq rfl rfl (Nat.le_of_ble_eq_true rfl) (Or.inl rfl) (cm_U_isPlacing (d := d - 1) hw (by omega) hq h) (by omega) ?_
  rintro _ _ ⟨r1, rfl, rfl, h⟩
  show am_Wp (d, "UnseenRing", b_U_oddsThat, 5, false) 0 0 6 [some (.ref q), some (.int p1), some (.int p2), some (.int p3), none] [.int (am_b r1)] (I, L, R, am_SH) (po_U_oddsThat R Q)
  refine am_if_eq (y := 0) (tgt := 20) (n := 9) d_U_oddsThat_6 rfl rfl (fun c1 => ?_) (fun c1 => ?_)
  · have h := h.1 (am_b_0 c1)
    exact tb_U_oddsThat_20 hw hq hd I L h
  · have h := h.2 (am_b_n0 c1)
    refine am_aload_n (n := 10) d_U_oddsThat_9 rfl rfl ?_
    refine am_getR (x := (am_rd R q 11)) (n := 13) f_U_81 d_U_oddsThat_10 rfl rfl hq (hw.rd (k := 11) hq rfl).1 ?_
    refine am_iload_n (n := 14) d_U_oddsThat_13 rfl rfl ?_
    refine am_callV (kc := 0) (ks := 0) (As := [.int p3]) (n := 17) d_U_oddsThat_14 rfl ce_Square_hasCell lk_U_221 in_Square_hasCell rfl rfl (hw.rd (k := 11) hq rfl).2 rfl rfl (Nat.le_of_ble_eq_true rfl) (Or.inl rfl) (cm_Square_hasCell (d := d - 1) hw (by omega) (hw.rd (k := 11) hq rfl).2 h) (by omega) ?_
    rintro _ _ ⟨r3, rfl, rfl, h⟩
    show am_Wp (d, "UnseenRing", b_U_oddsThat, 5, false) 0 0 17 [some (.ref q), some (.int p1), some (.int p2), some (.int p3), none] [.int (am_b r3)] (I, L, R, am_SH) (po_U_oddsThat R Q)
    refine am_if_ne (y := 0) (tgt := 26) (n := 20) d_U_oddsThat_17 rfl rfl (fun c2 => ?_) (fun c2 => ?_)
    · have h := h.2 (am_b_n0 c2)
      refine am_aload_n (n := 27) d_U_oddsThat_26 rfl rfl ?_
      refine am_getR (x := (q + 21)) (n := 30) f_U_62 d_U_oddsThat_27 rfl rfl hq (hw.1 q 11 8 21 hq rfl) ?_
      refine am_aload_n (n := 31) d_U_oddsThat_30 rfl rfl ?_
      refine am_getR (x := (am_rd R q 11)) (n := 34) f_U_81 d_U_oddsThat_31 rfl rfl hq (hw.rd (k := 11) hq rfl).1 ?_
      refine am_callV (kc := 0) (ks := 0) (As := [.ref (am_rd R q 11)]) (n := 37) d_U_oddsThat_34 rfl ce_Placings_look lk_U_318 in_Placings_look rfl rfl (am_sho (k := 8) (o := 21) hq (by decide) (by decide) (by decide) rfl) rfl rfl (Nat.le_of_ble_eq_true rfl) (Or.inl rfl) (cm_Placings_look (d := d - 1) hw (by omega) (am_sho (k := 8) (o := 21) hq (by decide) (by decide) (by decide) rfl) (hw.rd (k := 11) hq rfl).2 h) (by omega) ?_
      rintro _ _ ⟨I2, rfl, rfl, h⟩
      show am_Wp (d, "UnseenRing", b_U_oddsThat, 5, false) 0 0 37 [some (.ref q), some (.int p1), some (.int p2), some (.int p3), none] [] (I2, L, R, am_SH) (po_U_oddsThat R Q)
      refine am_aload_n (n := 38) d_U_oddsThat_37 rfl rfl ?_
      refine am_getR (x := (q + 21)) (n := 41) f_U_62 d_U_oddsThat_38 rfl rfl hq (hw.1 q 11 8 21 hq rfl) ?_
      refine am_iload_n (n := 42) d_U_oddsThat_41 rfl rfl ?_
      refine am_iload_n (n := 43) d_U_oddsThat_42 rfl rfl ?_
      refine am_iconst (n := 44) d_U_oddsThat_43 ci_0 rfl ?_
      refine am_callV (kc := 0) (ks := 0) (As := [.int p1, .int p2, .int 0]) (n := 47) d_U_oddsThat_44 rfl ce_Placings_countWithout lk_U_328 in_Placings_countWithout rfl rfl (am_sho (k := 8) (o := 21) hq (by decide) (by decide) (by decide) rfl) rfl rfl (Nat.le_of_ble_eq_true rfl) (Or.inl rfl) (cm_Placings_countWithout (d := d - 1) hw (by omega) (am_sho (k := 8) (o := 21) hq (by decide) (by decide) (by decide) rfl) h) (by omega) ?_
      rintro _ _ ⟨r4, rfl, rfl, h⟩
      show am_Wp (d, "UnseenRing", b_U_oddsThat, 5, false) 0 0 47 [some (.ref q), some (.int p1), some (.int p2), some (.int p3), none] [.int r4] (I2, L, R, am_SH) (po_U_oddsThat R Q)
      refine am_istore (ls' := [some (.ref q), some (.int p1), some (.int p2), some (.int p3), some (.int r4)]) (n := 49) d_U_oddsThat_47 (by decide) rfl rfl ?_
      refine am_iload (n := 51) d_U_oddsThat_49 rfl rfl ?_
      refine am_if_ne (y := 0) (tgt := 61) (n := 54) d_U_oddsThat_51 rfl rfl (fun c3 => ?_) (fun c3 => ?_)
      · have h := h.2 c3
        refine am_aload_n (n := 62) d_U_oddsThat_61 rfl rfl ?_
        refine am_iload (n := 64) d_U_oddsThat_62 rfl rfl ?_
        refine am_aload_n (n := 65) d_U_oddsThat_64 rfl rfl ?_
        refine am_getR (x := (q + 21)) (n := 68) f_U_62 d_U_oddsThat_65 rfl rfl hq (hw.1 q 11 8 21 hq rfl) ?_
        refine am_iload_n (n := 69) d_U_oddsThat_68 rfl rfl ?_
        refine am_iload_n (n := 70) d_U_oddsThat_69 rfl rfl ?_
        refine am_iconst (n := 71) d_U_oddsThat_70 ci_1 rfl ?_
        refine am_iload_n (n := 72) d_U_oddsThat_71 rfl rfl ?_
        refine am_ishl (n := 73) d_U_oddsThat_72 rfl ?_
        refine am_callV (kc := 0) (ks := 0) (As := [.int p1, .int p2, .int ((1 : Int32) <<< (p3 &&& 31))]) (n := 76) d_U_oddsThat_73 rfl ce_Placings_countWithout lk_U_328 in_Placings_countWithout rfl rfl (am_sho (k := 8) (o := 21) hq (by decide) (by decide) (by decide) rfl) rfl rfl (Nat.le_of_ble_eq_true rfl) (Or.inl rfl) (cm_Placings_countWithout (d := d - 1) hw (by omega) (am_sho (k := 8) (o := 21) hq (by decide) (by decide) (by decide) rfl) h) (by omega) ?_
        rintro _ _ ⟨r5, rfl, rfl, h⟩
        show am_Wp (d, "UnseenRing", b_U_oddsThat, 5, false) 0 0 76 [some (.ref q), some (.int p1), some (.int p2), some (.int p3), some (.int r4)] [.int r5, .int r4, .ref q] (I2, L, R, am_SH) (po_U_oddsThat R Q)
        refine am_isub (n := 77) d_U_oddsThat_76 rfl ?_
        refine am_i2l (n := 78) d_U_oddsThat_77 rfl ?_
        refine am_iload (n := 80) d_U_oddsThat_78 rfl rfl ?_
        refine am_i2l (n := 81) d_U_oddsThat_80 rfl ?_
        refine am_callV (kc := 0) (ks := 0) (As := [.long (Int32.toInt64 (r4 - r5)), .long (Int32.toInt64 r4)]) (n := 84) d_U_oddsThat_81 rfl ce_U_tellFraction lk_U_331 in_U_tellFraction rfl rfl hq rfl rfl (Nat.le_of_ble_eq_true rfl) (Or.inl rfl) (cm_U_tellFraction (d := d - 1) hw (by omega) hq h) (by omega) ?_
        rintro _ _ ⟨L1, rfl, rfl, h⟩
        show am_Wp (d, "UnseenRing", b_U_oddsThat, 5, false) 0 0 84 [some (.ref q), some (.int p1), some (.int p2), some (.int p3), some (.int r4)] [] (I2, L1, R, am_SH) (po_U_oddsThat R Q)
        refine am_aload_n (n := 85) d_U_oddsThat_84 rfl rfl ?_
        refine am_iconst (n := 86) d_U_oddsThat_85 ci_0 rfl ?_
        refine am_callV (kc := 0) (ks := 0) (As := [.int 0]) (n := 89) d_U_oddsThat_86 rfl ce_U_settled lk_U_118 in_U_settled rfl rfl hq rfl rfl (Nat.le_of_ble_eq_true rfl) (Or.inl rfl) (cm_U_settled (d := d - 1) hw (by omega) hq h) (by omega) ?_
        rintro _ _ ⟨r6, I3, rfl, rfl, h⟩
        show am_Wp (d, "UnseenRing", b_U_oddsThat, 5, false) 0 0 89 [some (.ref q), some (.int p1), some (.int p2), some (.int p3), some (.int r4)] [.int (am_b r6)] (I3, L1, R, am_SH) (po_U_oddsThat R Q)
        exact am_iret d_U_oddsThat_89 ⟨r6, I3, L1, rfl, rfl, h⟩
      · have h := h.1 c3
        refine am_aload_n (n := 55) d_U_oddsThat_54 rfl rfl ?_
        refine am_bipush (n := 57) d_U_oddsThat_55 cb_6 rfl ?_
        refine am_callV (kc := 0) (ks := 0) (As := [.int 6]) (n := 60) d_U_oddsThat_57 rfl ce_U_settled lk_U_118 in_U_settled rfl rfl hq rfl rfl (Nat.le_of_ble_eq_true rfl) (Or.inl rfl) (cm_U_settled (d := d - 1) hw (by omega) hq h) (by omega) ?_
        rintro _ _ ⟨r7, I4, rfl, rfl, h⟩
        show am_Wp (d, "UnseenRing", b_U_oddsThat, 5, false) 0 0 60 [some (.ref q), some (.int p1), some (.int p2), some (.int p3), some (.int r4)] [.int (am_b r7)] (I4, L, R, am_SH) (po_U_oddsThat R Q)
        exact am_iret d_U_oddsThat_60 ⟨r7, I4, L, rfl, rfl, h⟩
    · have h := h.1 (am_b_0 c2)
      exact tb_U_oddsThat_20 hw hq hd I L h
abbrev po_Placings_hitCells (I : am_TI) (L : am_TL) (R : am_TR) (Q : Int32 → Prop) : Option Value → am_St → Prop := fun r σ' => ∃ (x : Int32), r = some (.int x) ∧ σ' = (I, L, R, am_SH) ∧ Q x
def wl_Placings_hitCells_5 (I : am_TI) (L : am_TL) (R : am_TR) (q : Nat) (p1 : Nat) (p2 : Int32) (Q : Int32 → Prop)  : Nat → Int32 → Int32 → Prop
  | 0 => fun _ _ => False
  | f5 + 1 => fun v3 v4 => (((I q 2) ≤ v4 → Q v3) ∧ (¬ (I q 2) ≤ v4 → wp_Square_isNear I L R p1 v4 p2 (fun (r1 : Bool) => ((r1 = false → wl_Placings_hitCells_5 I L R q p1 p2 Q f5 v3 (v4 + 1)) ∧ (r1 = true → wl_Placings_hitCells_5 I L R q p1 p2 Q f5 (v3 ||| ((1 : Int32) <<< (v4 &&& 31))) (v4 + 1))))))
set_option maxRecDepth 20000 in
theorem tl_Placings_hitCells_5 {d : Nat}  {I : am_TI} {L : am_TL} {R : am_TR} {q : Nat} {p1 : Nat} {p2 : Int32} {Q : Int32 → Prop}  (hw : am_Wf R) (hq : am_SH[q]? = some (.inl 5)) (hp1 : am_SH[p1]? = some (.inl 7)) (hd : 3 ≤ d) : ∀ (n : Nat) (v3 : Int32) (v4 : Int32), wl_Placings_hitCells_5 I L R q p1 p2 Q  n v3 v4 → am_Wp (d, "UnseenRing$Placings", b_Placings_hitCells, 5, false) 0 0 5 [some (.ref q), some (.ref p1), some (.int p2), some (.int v3), some (.int v4)] [] (I, L, R, am_SH) (po_Placings_hitCells I L R Q) := by
  intro n
  induction n with
  | zero => intro v3 v4 h; exact h.elim
  | succ n ih =>
    intro v3 v4 h
    unfold wl_Placings_hitCells_5 at h
    refine am_iload (n := 7) d_Placings_hitCells_5 rfl rfl ?_
    refine am_aload_n (n := 8) d_Placings_hitCells_7 rfl rfl ?_
    refine am_getI (n := 11) f_Placings_18 d_Placings_hitCells_8 rfl rfl hq ?_
    refine am_icmp_ge (tgt := 37) (n := 14) d_Placings_hitCells_11 rfl rfl (fun c1 => ?_) (fun c1 => ?_)
    · have h := h.1 c1
      refine am_iload_n (n := 38) d_Placings_hitCells_37 rfl rfl ?_
      exact am_iret d_Placings_hitCells_38 ⟨v3, rfl, rfl, h⟩
    · have h := h.2 c1
      refine am_aload_n (n := 15) d_Placings_hitCells_14 rfl rfl ?_
      refine am_iload (n := 17) d_Placings_hitCells_15 rfl rfl ?_
      refine am_iload_n (n := 18) d_Placings_hitCells_17 rfl rfl ?_
      refine am_callV (kc := 0) (ks := 0) (As := [.int v4, .int p2]) (n := 21) d_Placings_hitCells_18 rfl ce_Square_isNear lk_Placings_62 in_Square_isNear rfl rfl hp1 rfl rfl (Nat.le_of_ble_eq_true rfl) (Or.inl rfl) (cm_Square_isNear (d := d - 1) hw (by omega) hp1 h) (by omega) ?_
      rintro _ _ ⟨r1, rfl, rfl, h⟩
      show am_Wp (d, "UnseenRing$Placings", b_Placings_hitCells, 5, false) 0 0 21 [some (.ref q), some (.ref p1), some (.int p2), some (.int v3), some (.int v4)] [.int (am_b r1)] (I, L, R, am_SH) (po_Placings_hitCells I L R Q)
      refine am_if_eq (y := 0) (tgt := 31) (n := 24) d_Placings_hitCells_21 rfl rfl (fun c2 => ?_) (fun c2 => ?_)
      · have h := h.1 (am_b_0 c2)
        refine am_iinc (v := v4 + 1) (ls' := [some (.ref q), some (.ref p1), some (.int p2), some (.int v3), some (.int (v4 + 1))]) (n := 34) d_Placings_hitCells_31 rfl (congrArg _ ci_1) (by decide) rfl rfl ?_
        refine am_goto (tgt := 5) d_Placings_hitCells_34 rfl ?_
        exact ih v3 (v4 + 1)  h
      · have h := h.2 (am_b_n0 c2)
        refine am_iload_n (n := 25) d_Placings_hitCells_24 rfl rfl ?_
        refine am_iconst (n := 26) d_Placings_hitCells_25 ci_1 rfl ?_
        refine am_iload (n := 28) d_Placings_hitCells_26 rfl rfl ?_
        refine am_ishl (n := 29) d_Placings_hitCells_28 rfl ?_
        refine am_ior (n := 30) d_Placings_hitCells_29 rfl ?_
        refine am_istore_n (ls' := [some (.ref q), some (.ref p1), some (.int p2), some (.int (v3 ||| ((1 : Int32) <<< (v4 &&& 31)))), some (.int v4)]) (n := 31) d_Placings_hitCells_30 (by decide) rfl rfl ?_
        refine am_iinc (v := v4 + 1) (ls' := [some (.ref q), some (.ref p1), some (.int p2), some (.int (v3 ||| ((1 : Int32) <<< (v4 &&& 31)))), some (.int (v4 + 1))]) (n := 34) d_Placings_hitCells_31 rfl (congrArg _ ci_1) (by decide) rfl rfl ?_
        refine am_goto (tgt := 5) d_Placings_hitCells_34 rfl ?_
        exact ih (v3 ||| ((1 : Int32) <<< (v4 &&& 31))) (v4 + 1)  h
def wp_Placings_hitCells (I : am_TI) (L : am_TL) (R : am_TR) (q : Nat) (p1 : Nat) (p2 : Int32)  (Q : Int32 → Prop) : Prop := (∃ z, wl_Placings_hitCells_5 I L R q p1 p2 Q z 0 0)
set_option maxRecDepth 20000 in
theorem cm_Placings_hitCells {d : Nat} {I : am_TI} {L : am_TL} {R : am_TR}  (hw : am_Wf R)   {q : Nat} {p1 : Nat} {p2 : Int32} {Q : Int32 → Prop} (hd : 3 ≤ d) (hq : am_SH[q]? = some (.inl 5)) (hp1 : am_SH[p1]? = some (.inl 7)) (h : wp_Placings_hitCells I L R q p1 p2  Q) : am_Cm d 0 0 y_Placings_hitCells b_Placings_hitCells 5 (some .int) [.ref q, .ref p1, .int p2] (I, L, R, am_SH) (po_Placings_hitCells I L R Q) := by
  refine am_Cm_of (ini := false) (by decide +kernel) (fun z => by cases z) (by simp [Value.category]) (fun r σ' z => by obtain ⟨x, rfl, -⟩ := z; exact ⟨_, rfl, rfl⟩) ?_
  unfold wp_Placings_hitCells at h
  show am_Wp (d, "UnseenRing$Placings", b_Placings_hitCells, 5, false) 0 0 0 [some (.ref q), some (.ref p1), some (.int p2), none, none] [] (I, L, R, am_SH) (po_Placings_hitCells I L R Q)
  refine am_iconst (n := 1) d_Placings_hitCells_0 ci_0 rfl ?_
  refine am_istore_n (ls' := [some (.ref q), some (.ref p1), some (.int p2), some (.int 0), none]) (n := 2) d_Placings_hitCells_1 (by decide) rfl rfl ?_
  refine am_iconst (n := 3) d_Placings_hitCells_2 ci_0 rfl ?_
  refine am_istore (ls' := [some (.ref q), some (.ref p1), some (.int p2), some (.int 0), some (.int 0)]) (n := 5) d_Placings_hitCells_3 (by decide) rfl rfl ?_
  obtain ⟨n, h⟩ := h
  exact tl_Placings_hitCells_5 hw hq hp1 hd n 0 0 h
abbrev po_Placings_cellThatHitsMost (I : am_TI) (L : am_TL) (R : am_TR) (Q : Int32 → Prop) : Option Value → am_St → Prop := fun r σ' => ∃ (x : Int32), r = some (.int x) ∧ σ' = (I, L, R, am_SH) ∧ Q x
def wb_Placings_cellThatHitsMost_61 (I : am_TI) (L : am_TL) (R : am_TR) (q : Nat) (p1 : Nat) (p2 : Int32) (p3 : Int32) (Q : Int32 → Prop) (K19 : Int32 → Int32 → Int32 → Int32 → Prop) (v4 : Int32) (v7 : Int32) (v8 : Int32) : Prop := K19 v4 v7 v8 (v7 + 1)
set_option maxRecDepth 20000 in
theorem tb_Placings_cellThatHitsMost_61 {d : Nat}  {I : am_TI} {L : am_TL} {R : am_TR} {q : Nat} {p1 : Nat} {p2 : Int32} {p3 : Int32} {Q : Int32 → Prop} {K19 : Int32 → Int32 → Int32 → Int32 → Prop} (hw : am_Wf R) (hq : am_SH[q]? = some (.inl 5)) (hp1 : am_SH[p1]? = some (.inl 7)) (hK19 : ∀ (v4 : Int32) (v5 : Int32) (v6 : Int32) (v7 : Int32), K19 v4 v5 v6 v7 → am_Wp (d, "UnseenRing$Placings", b_Placings_cellThatHitsMost, 9, false) 0 0 19 [some (.ref q), some (.ref p1), some (.int p2), some (.int p3), some (.int v4), some (.int v5), some (.int v6), some (.int v7), none] [] (I, L, R, am_SH) (po_Placings_cellThatHitsMost I L R Q)) (hd : 4 ≤ d) (v4 : Int32) (v7 : Int32) (v8 : Int32) (h : wb_Placings_cellThatHitsMost_61 I L R q p1 p2 p3 Q K19 v4 v7 v8) : am_Wp (d, "UnseenRing$Placings", b_Placings_cellThatHitsMost, 9, false) 0 0 61 [some (.ref q), some (.ref p1), some (.int p2), some (.int p3), some (.int v4), none, none, some (.int v7), some (.int v8)] [] (I, L, R, am_SH) (po_Placings_cellThatHitsMost I L R Q) := by
  unfold wb_Placings_cellThatHitsMost_61 at h
  refine am_iload (n := 63) d_Placings_cellThatHitsMost_61 rfl rfl ?_
  refine am_istore (ls' := [some (.ref q), some (.ref p1), some (.int p2), some (.int p3), some (.int v4), some (.int v7), none, some (.int v7), some (.int v8)]) (n := 65) d_Placings_cellThatHitsMost_63 (by decide) rfl rfl ?_
  refine am_iload (n := 67) d_Placings_cellThatHitsMost_65 rfl rfl ?_
  refine am_istore (ls' := [some (.ref q), some (.ref p1), some (.int p2), some (.int p3), some (.int v4), some (.int v7), some (.int v8), some (.int v7), some (.int v8)]) (n := 69) d_Placings_cellThatHitsMost_67 (by decide) rfl rfl ?_
  refine am_iinc (v := v7 + 1) (ls' := [some (.ref q), some (.ref p1), some (.int p2), some (.int p3), some (.int v4), some (.int v7), some (.int v8), some (.int (v7 + 1)), some (.int v8)]) (n := 72) d_Placings_cellThatHitsMost_69 rfl (congrArg _ ci_1) (by decide) rfl rfl ?_
  refine am_goto (tgt := 19) d_Placings_cellThatHitsMost_72 rfl ?_
  refine am_forget (ls' := [some (.ref q), some (.ref p1), some (.int p2), some (.int p3), some (.int v4), some (.int v7), some (.int v8), some (.int (v7 + 1)), none]) (am_le_s (am_le_s (am_le_s (am_le_s (am_le_s (am_le_s (am_le_s (am_le_s (am_le_n am_le_e))))))))) ?_
  exact hK19 v4 v7 v8 (v7 + 1)  h
def wl_Placings_cellThatHitsMost_19 (I : am_TI) (L : am_TL) (R : am_TR) (q : Nat) (p1 : Nat) (p2 : Int32) (p3 : Int32) (Q : Int32 → Prop)  : Nat → Int32 → Int32 → Int32 → Int32 → Prop
  | 0 => fun _ _ _ _ => False
  | f19 + 1 => fun v4 v5 v6 v7 => (((I q 2) ≤ v7 → Q v5) ∧ (¬ (I q 2) ≤ v7 → ((v4 ≤ 0 → Q v5) ∧ (¬ v4 ≤ 0 → wp_Placings_hitCells I L R q p1 v7 (fun (r2 : Int32) => wp_Placings_countWithout I L R q p2 p3 r2 (fun (r3 : Int32) => ((v5 = (-1) → wb_Placings_cellThatHitsMost_61 I L R q p1 p2 p3 Q (wl_Placings_cellThatHitsMost_19 I L R q p1 p2 p3 Q f19) v4 v7 r3) ∧ (¬ v5 = (-1) → ((v6 ≤ r3 → wl_Placings_cellThatHitsMost_19 I L R q p1 p2 p3 Q f19 v4 v5 v6 (v7 + 1)) ∧ (¬ v6 ≤ r3 → wb_Placings_cellThatHitsMost_61 I L R q p1 p2 p3 Q (wl_Placings_cellThatHitsMost_19 I L R q p1 p2 p3 Q f19) v4 v7 r3))))))))))
set_option maxRecDepth 20000 in
theorem tl_Placings_cellThatHitsMost_19 {d : Nat}  {I : am_TI} {L : am_TL} {R : am_TR} {q : Nat} {p1 : Nat} {p2 : Int32} {p3 : Int32} {Q : Int32 → Prop}  (hw : am_Wf R) (hq : am_SH[q]? = some (.inl 5)) (hp1 : am_SH[p1]? = some (.inl 7)) (hd : 4 ≤ d) : ∀ (n : Nat) (v4 : Int32) (v5 : Int32) (v6 : Int32) (v7 : Int32), wl_Placings_cellThatHitsMost_19 I L R q p1 p2 p3 Q  n v4 v5 v6 v7 → am_Wp (d, "UnseenRing$Placings", b_Placings_cellThatHitsMost, 9, false) 0 0 19 [some (.ref q), some (.ref p1), some (.int p2), some (.int p3), some (.int v4), some (.int v5), some (.int v6), some (.int v7), none] [] (I, L, R, am_SH) (po_Placings_cellThatHitsMost I L R Q) := by
  intro n
  induction n with
  | zero => intro v4 v5 v6 v7 h; exact h.elim
  | succ n ih =>
    intro v4 v5 v6 v7 h
    unfold wl_Placings_cellThatHitsMost_19 at h
    refine am_iload (n := 21) d_Placings_cellThatHitsMost_19 rfl rfl ?_
    refine am_aload_n (n := 22) d_Placings_cellThatHitsMost_21 rfl rfl ?_
    refine am_getI (n := 25) f_Placings_18 d_Placings_cellThatHitsMost_22 rfl rfl hq ?_
    refine am_icmp_ge (tgt := 75) (n := 28) d_Placings_cellThatHitsMost_25 rfl rfl (fun c1 => ?_) (fun c1 => ?_)
    · have h := h.1 c1
      refine am_iload (n := 77) d_Placings_cellThatHitsMost_75 rfl rfl ?_
      exact am_iret d_Placings_cellThatHitsMost_77 ⟨v5, rfl, rfl, h⟩
    · have h := h.2 c1
      refine am_iload (n := 30) d_Placings_cellThatHitsMost_28 rfl rfl ?_
      refine am_if_le (y := 0) (tgt := 75) (n := 33) d_Placings_cellThatHitsMost_30 rfl rfl (fun c2 => ?_) (fun c2 => ?_)
      · have h := h.1 c2
        refine am_iload (n := 77) d_Placings_cellThatHitsMost_75 rfl rfl ?_
        exact am_iret d_Placings_cellThatHitsMost_77 ⟨v5, rfl, rfl, h⟩
      · have h := h.2 c2
        refine am_aload_n (n := 34) d_Placings_cellThatHitsMost_33 rfl rfl ?_
        refine am_iload_n (n := 35) d_Placings_cellThatHitsMost_34 rfl rfl ?_
        refine am_iload_n (n := 36) d_Placings_cellThatHitsMost_35 rfl rfl ?_
        refine am_aload_n (n := 37) d_Placings_cellThatHitsMost_36 rfl rfl ?_
        refine am_aload_n (n := 38) d_Placings_cellThatHitsMost_37 rfl rfl ?_
        refine am_iload (n := 40) d_Placings_cellThatHitsMost_38 rfl rfl ?_
        refine am_callV (kc := 0) (ks := 0) (As := [.ref p1, .int v7]) (n := 43) d_Placings_cellThatHitsMost_40 rfl ce_Placings_hitCells lk_Placings_58 in_Placings_hitCells rfl rfl hq rfl rfl (Nat.le_of_ble_eq_true rfl) (Or.inl rfl) (cm_Placings_hitCells (d := d - 1) hw (by omega) hq hp1 h) (by omega) ?_
        rintro _ _ ⟨r2, rfl, rfl, h⟩
        show am_Wp (d, "UnseenRing$Placings", b_Placings_cellThatHitsMost, 9, false) 0 0 43 [some (.ref q), some (.ref p1), some (.int p2), some (.int p3), some (.int v4), some (.int v5), some (.int v6), some (.int v7), none] [.int r2, .int p3, .int p2, .ref q] (I, L, R, am_SH) (po_Placings_cellThatHitsMost I L R Q)
        refine am_callV (kc := 0) (ks := 0) (As := [.int p2, .int p3, .int r2]) (n := 46) d_Placings_cellThatHitsMost_43 rfl ce_Placings_countWithout lk_Placings_54 in_Placings_countWithout rfl rfl hq rfl rfl (Nat.le_of_ble_eq_true rfl) (Or.inl rfl) (cm_Placings_countWithout (d := d - 1) hw (by omega) hq h) (by omega) ?_
        rintro _ _ ⟨r3, rfl, rfl, h⟩
        show am_Wp (d, "UnseenRing$Placings", b_Placings_cellThatHitsMost, 9, false) 0 0 46 [some (.ref q), some (.ref p1), some (.int p2), some (.int p3), some (.int v4), some (.int v5), some (.int v6), some (.int v7), none] [.int r3] (I, L, R, am_SH) (po_Placings_cellThatHitsMost I L R Q)
        refine am_istore (ls' := [some (.ref q), some (.ref p1), some (.int p2), some (.int p3), some (.int v4), some (.int v5), some (.int v6), some (.int v7), some (.int r3)]) (n := 48) d_Placings_cellThatHitsMost_46 (by decide) rfl rfl ?_
        refine am_iload (n := 50) d_Placings_cellThatHitsMost_48 rfl rfl ?_
        refine am_iconst (n := 51) d_Placings_cellThatHitsMost_50 ci_m1 rfl ?_
        refine am_icmp_eq (tgt := 61) (n := 54) d_Placings_cellThatHitsMost_51 rfl rfl (fun c3 => ?_) (fun c3 => ?_)
        · have h := h.1 c3
          refine am_forget (ls' := [some (.ref q), some (.ref p1), some (.int p2), some (.int p3), some (.int v4), none, none, some (.int v7), some (.int r3)]) (am_le_s (am_le_s (am_le_s (am_le_s (am_le_s (am_le_n (am_le_n (am_le_s (am_le_s am_le_e))))))))) ?_
          exact tb_Placings_cellThatHitsMost_61 hw hq hp1 ih hd v4 v7 r3 h
        · have h := h.2 c3
          refine am_iload (n := 56) d_Placings_cellThatHitsMost_54 rfl rfl ?_
          refine am_iload (n := 58) d_Placings_cellThatHitsMost_56 rfl rfl ?_
          refine am_icmp_ge (tgt := 69) (n := 61) d_Placings_cellThatHitsMost_58 rfl rfl (fun c4 => ?_) (fun c4 => ?_)
          · have h := h.1 c4
            refine am_iinc (v := v7 + 1) (ls' := [some (.ref q), some (.ref p1), some (.int p2), some (.int p3), some (.int v4), some (.int v5), some (.int v6), some (.int (v7 + 1)), some (.int r3)]) (n := 72) d_Placings_cellThatHitsMost_69 rfl (congrArg _ ci_1) (by decide) rfl rfl ?_
            refine am_goto (tgt := 19) d_Placings_cellThatHitsMost_72 rfl ?_
            refine am_forget (ls' := [some (.ref q), some (.ref p1), some (.int p2), some (.int p3), some (.int v4), some (.int v5), some (.int v6), some (.int (v7 + 1)), none]) (am_le_s (am_le_s (am_le_s (am_le_s (am_le_s (am_le_s (am_le_s (am_le_s (am_le_n am_le_e))))))))) ?_
            exact ih v4 v5 v6 (v7 + 1)  h
          · have h := h.2 c4
            refine am_forget (ls' := [some (.ref q), some (.ref p1), some (.int p2), some (.int p3), some (.int v4), none, none, some (.int v7), some (.int r3)]) (am_le_s (am_le_s (am_le_s (am_le_s (am_le_s (am_le_n (am_le_n (am_le_s (am_le_s am_le_e))))))))) ?_
            exact tb_Placings_cellThatHitsMost_61 hw hq hp1 ih hd v4 v7 r3 h
def wp_Placings_cellThatHitsMost (I : am_TI) (L : am_TL) (R : am_TR) (q : Nat) (p1 : Nat) (p2 : Int32) (p3 : Int32)  (Q : Int32 → Prop) : Prop := wp_Placings_countWithout I L R q p2 p3 0 (fun (r1 : Int32) => (∃ z, wl_Placings_cellThatHitsMost_19 I L R q p1 p2 p3 Q z r1 (-1) r1 0))
set_option maxRecDepth 20000 in
theorem cm_Placings_cellThatHitsMost {d : Nat} {I : am_TI} {L : am_TL} {R : am_TR}  (hw : am_Wf R)   {q : Nat} {p1 : Nat} {p2 : Int32} {p3 : Int32} {Q : Int32 → Prop} (hd : 4 ≤ d) (hq : am_SH[q]? = some (.inl 5)) (hp1 : am_SH[p1]? = some (.inl 7)) (h : wp_Placings_cellThatHitsMost I L R q p1 p2 p3  Q) : am_Cm d 0 0 y_Placings_cellThatHitsMost b_Placings_cellThatHitsMost 9 (some .int) [.ref q, .ref p1, .int p2, .int p3] (I, L, R, am_SH) (po_Placings_cellThatHitsMost I L R Q) := by
  refine am_Cm_of (ini := false) (by decide +kernel) (fun z => by cases z) (by simp [Value.category]) (fun r σ' z => by obtain ⟨x, rfl, -⟩ := z; exact ⟨_, rfl, rfl⟩) ?_
  unfold wp_Placings_cellThatHitsMost at h
  show am_Wp (d, "UnseenRing$Placings", b_Placings_cellThatHitsMost, 9, false) 0 0 0 [some (.ref q), some (.ref p1), some (.int p2), some (.int p3), none, none, none, none, none] [] (I, L, R, am_SH) (po_Placings_cellThatHitsMost I L R Q)
  refine am_aload_n (n := 1) d_Placings_cellThatHitsMost_0 rfl rfl ?_
  refine am_iload_n (n := 2) d_Placings_cellThatHitsMost_1 rfl rfl ?_
  refine am_iload_n (n := 3) d_Placings_cellThatHitsMost_2 rfl rfl ?_
  refine am_iconst (n := 4) d_Placings_cellThatHitsMost_3 ci_0 rfl ?_
  refine am_callV (kc := 0) (ks := 0) (As := [.int p2, .int p3, .int 0]) (n := 7) d_Placings_cellThatHitsMost_4 rfl ce_Placings_countWithout lk_Placings_54 in_Placings_countWithout rfl rfl hq rfl rfl (Nat.le_of_ble_eq_true rfl) (Or.inl rfl) (cm_Placings_countWithout (d := d - 1) hw (by omega) hq h) (by omega) ?_
  rintro _ _ ⟨r1, rfl, rfl, h⟩
  show am_Wp (d, "UnseenRing$Placings", b_Placings_cellThatHitsMost, 9, false) 0 0 7 [some (.ref q), some (.ref p1), some (.int p2), some (.int p3), none, none, none, none, none] [.int r1] (I, L, R, am_SH) (po_Placings_cellThatHitsMost I L R Q)
  refine am_istore (ls' := [some (.ref q), some (.ref p1), some (.int p2), some (.int p3), some (.int r1), none, none, none, none]) (n := 9) d_Placings_cellThatHitsMost_7 (by decide) rfl rfl ?_
  refine am_iconst (n := 10) d_Placings_cellThatHitsMost_9 ci_m1 rfl ?_
  refine am_istore (ls' := [some (.ref q), some (.ref p1), some (.int p2), some (.int p3), some (.int r1), some (.int (-1)), none, none, none]) (n := 12) d_Placings_cellThatHitsMost_10 (by decide) rfl rfl ?_
  refine am_iload (n := 14) d_Placings_cellThatHitsMost_12 rfl rfl ?_
  refine am_istore (ls' := [some (.ref q), some (.ref p1), some (.int p2), some (.int p3), some (.int r1), some (.int (-1)), some (.int r1), none, none]) (n := 16) d_Placings_cellThatHitsMost_14 (by decide) rfl rfl ?_
  refine am_iconst (n := 17) d_Placings_cellThatHitsMost_16 ci_0 rfl ?_
  refine am_istore (ls' := [some (.ref q), some (.ref p1), some (.int p2), some (.int p3), some (.int r1), some (.int (-1)), some (.int r1), some (.int 0), none]) (n := 19) d_Placings_cellThatHitsMost_17 (by decide) rfl rfl ?_
  obtain ⟨n, h⟩ := h
  exact tl_Placings_cellThatHitsMost_19 hw hq hp1 hd n r1 (-1) r1 0 h
