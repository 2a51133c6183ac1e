abbrev po_M_tellsAll (L : am_TL) (R : am_TR) (Q : Bool → am_TI → Prop) : Option Value → am_St → Prop := fun r σ' => ∃ (x : Bool) (I' : am_TI), r = some (.int (am_b x)) ∧ σ' = (I', L, R, am_SH) ∧ Q x I'
def wl_M_tellsAll_72 (L : am_TL) (R : am_TR) (q : Nat) (p1 : Int32) (Q : Bool → am_TI → Prop)  : Nat → am_TI → Bool → Int32 → Prop
  | 0 => fun _ _ _ => False
  | f72 + 1 => fun I v2 v3 => ((64 ≤ v3 → Q v2 I) ∧ (¬ 64 ≤ v3 → (vp_in v3 64 ∧ (vp_in v3 64 ∧ (∀ I1, I1 = am_u2 I (q + 18) (Int32.toNatClampNeg v3) (vp_nar .boolean (I (q + 19) (Int32.toNatClampNeg v3))) → wl_M_tellsAll_72 L R q p1 Q f72 I1 v2 (v3 + 1))))))
set_option maxRecDepth 20000 in
theorem tl_M_tellsAll_72 {d : Nat}  {L : am_TL} {R : am_TR} {q : Nat} {p1 : Int32} {Q : Bool → am_TI → Prop}  (hw : am_Wf R) (hq : am_SH[q]? = some (.inl 12)) (hd : 2 ≤ d) : ∀ (n : Nat) (I : am_TI) (v2 : Bool) (v3 : Int32), wl_M_tellsAll_72 L R q p1 Q  n I v2 v3 → am_Wp (d, "UnseenRingModel", b_M_tellsAll, 4, false) 0 0 72 [some (.ref q), some (.int p1), some (.int (am_b v2)), some (.int v3)] [] (I, L, R, am_SH) (po_M_tellsAll L R Q) := by
  intro n
  induction n with
  | zero => intro I v2 v3 h; exact h.elim
  | succ n ih =>
    intro I v2 v3 h
    unfold wl_M_tellsAll_72 at h
    refine am_iload_n (n := 73) d_M_tellsAll_72 rfl rfl ?_
    refine am_bipush (n := 75) d_M_tellsAll_73 cb_64 rfl ?_
    refine am_icmp_ge (tgt := 96) (n := 78) d_M_tellsAll_75 rfl rfl (fun c2 => ?_) (fun c2 => ?_)
    · have h := h.1 c2
      refine am_iload_n (n := 97) d_M_tellsAll_96 rfl rfl ?_
      exact am_iret d_M_tellsAll_97 ⟨v2, I, rfl, rfl, h⟩
    · have h := h.2 c2
      refine am_aload_n (n := 79) d_M_tellsAll_78 rfl rfl ?_
      refine am_getR (x := (q + 18)) (n := 82) f_M_74 d_M_tellsAll_79 rfl rfl hq (hw.1 q 12 35 18 hq rfl) ?_
      refine am_iload_n (n := 83) d_M_tellsAll_82 rfl rfl ?_
      refine am_aload_n (n := 84) d_M_tellsAll_83 rfl rfl ?_
      refine am_getR (x := (q + 19)) (n := 87) f_M_78 d_M_tellsAll_84 rfl rfl hq (hw.1 q 12 36 19 hq rfl) ?_
      refine am_iload_n (n := 88) d_M_tellsAll_87 rfl rfl ?_
      obtain ⟨g1, h⟩ := h
      refine am_zald2 (n := 89) d_M_tellsAll_88 rfl (am_sho (k := 36) (o := 19) hq (by decide) (by decide) (by decide) rfl) g1 rfl ?_
      obtain ⟨g2, h⟩ := h
      refine am_zast2 (n := 90) d_M_tellsAll_89 rfl (am_sho (k := 35) (o := 18) hq (by decide) (by decide) (by decide) rfl) g2 rfl ?_
      generalize eI1 : am_u2 I (q + 18) (Int32.toNatClampNeg v3) (vp_nar .boolean (I (q + 19) (Int32.toNatClampNeg v3))) = I1
      have h := h I1 eI1.symm
      refine am_iinc (v := v3 + 1) (ls' := [some (.ref q), some (.int p1), some (.int (am_b v2)), some (.int (v3 + 1))]) (n := 93) d_M_tellsAll_90 rfl (congrArg _ ci_1) (by decide) rfl rfl ?_
      refine am_goto (tgt := 72) d_M_tellsAll_93 rfl ?_
      exact ih I1 v2 (v3 + 1)  h
def wb_M_tellsAll_58 (L : am_TL) (R : am_TR) (q : Nat) (p1 : Int32) (Q : Bool → am_TI → Prop) (K4 : am_TI → Bool → Int32 → Prop) (I : am_TI) (v3 : Int32) : Prop := K4 I true (v3 + 1)
set_option maxRecDepth 20000 in
theorem tb_M_tellsAll_58 {d : Nat}  {L : am_TL} {R : am_TR} {q : Nat} {p1 : Int32} {Q : Bool → am_TI → Prop} {K4 : am_TI → Bool → Int32 → Prop} (hw : am_Wf R) (hq : am_SH[q]? = some (.inl 12)) (hK4 : ∀ (I : am_TI) (v2 : Bool) (v3 : Int32), K4 I v2 v3 → am_Wp (d, "UnseenRingModel", b_M_tellsAll, 4, false) 0 0 4 [some (.ref q), some (.int p1), some (.int (am_b v2)), some (.int v3)] [] (I, L, R, am_SH) (po_M_tellsAll L R Q)) (hd : 2 ≤ d) (I : am_TI) (v3 : Int32) (h : wb_M_tellsAll_58 L R q p1 Q K4 I v3) : am_Wp (d, "UnseenRingModel", b_M_tellsAll, 4, false) 0 0 58 [some (.ref q), some (.int p1), none, some (.int v3)] [] (I, L, R, am_SH) (po_M_tellsAll L R Q) := by
  unfold wb_M_tellsAll_58 at h
  refine am_iconst (n := 59) d_M_tellsAll_58 ci_1 rfl ?_
  refine am_goto (tgt := 63) d_M_tellsAll_59 rfl ?_
  refine am_istore_n (ls' := [some (.ref q), some (.int p1), some (.int 1), some (.int v3)]) (n := 64) d_M_tellsAll_63 (by decide) rfl rfl ?_
  refine am_iinc (v := v3 + 1) (ls' := [some (.ref q), some (.int p1), some (.int 1), some (.int (v3 + 1))]) (n := 67) d_M_tellsAll_64 rfl (congrArg _ ci_1) (by decide) rfl rfl ?_
  refine am_goto (tgt := 4) d_M_tellsAll_67 rfl ?_
  exact hK4 I true (v3 + 1)  h
def wb_M_tellsAll_38 (L : am_TL) (R : am_TR) (q : Nat) (p1 : Int32) (Q : Bool → am_TI → Prop) (K4 : am_TI → Bool → Int32 → Prop) (I : am_TI) (v2 : Bool) (v3 : Int32) (s0 : Nat) (s1 : Int32) (s2 : Bool) : Prop := (vp_in s1 64 ∧ (∀ I2, I2 = am_u2 I s0 (Int32.toNatClampNeg s1) (vp_nar .boolean (am_b s2)) → ((v2 = false → (vp_in v3 64 ∧ (vp_in v3 64 ∧ (((I2 (q + 18) (Int32.toNatClampNeg v3)) = (I2 (q + 19) (Int32.toNatClampNeg v3)) → K4 I2 false (v3 + 1)) ∧ (¬ (I2 (q + 18) (Int32.toNatClampNeg v3)) = (I2 (q + 19) (Int32.toNatClampNeg v3)) → wb_M_tellsAll_58 L R q p1 Q K4 I2 v3))))) ∧ (v2 = true → wb_M_tellsAll_58 L R q p1 Q K4 I2 v3))))
set_option maxRecDepth 20000 in
theorem tb_M_tellsAll_38 {d : Nat}  {L : am_TL} {R : am_TR} {q : Nat} {p1 : Int32} {Q : Bool → am_TI → Prop} {K4 : am_TI → Bool → Int32 → Prop} (hw : am_Wf R) (hq : am_SH[q]? = some (.inl 12)) (hK4 : ∀ (I : am_TI) (v2 : Bool) (v3 : Int32), K4 I v2 v3 → am_Wp (d, "UnseenRingModel", b_M_tellsAll, 4, false) 0 0 4 [some (.ref q), some (.int p1), some (.int (am_b v2)), some (.int v3)] [] (I, L, R, am_SH) (po_M_tellsAll L R Q)) (hd : 2 ≤ d) (I : am_TI) (v2 : Bool) (v3 : Int32) (s0 : Nat) (s1 : Int32) (s2 : Bool) (hs0 : am_SH[s0]? = some (.inr (2, 64))) (h : wb_M_tellsAll_38 L R q p1 Q K4 I v2 v3 s0 s1 s2) : am_Wp (d, "UnseenRingModel", b_M_tellsAll, 4, false) 0 0 38 [some (.ref q), some (.int p1), some (.int (am_b v2)), some (.int v3)] [.int (am_b s2), .int s1, .ref s0] (I, L, R, am_SH) (po_M_tellsAll L R Q) := by
  unfold wb_M_tellsAll_38 at h
  obtain ⟨g4, h⟩ := h
  refine am_zast2 (n := 39) d_M_tellsAll_38 rfl hs0 g4 rfl ?_
  generalize eI2 : am_u2 I s0 (Int32.toNatClampNeg s1) (vp_nar .boolean (am_b s2)) = I2
  have h := h I2 eI2.symm
  refine am_iload_n (n := 40) d_M_tellsAll_39 rfl rfl ?_
  refine am_if_ne (y := 0) (tgt := 58) (n := 43) d_M_tellsAll_40 rfl rfl (fun c4 => ?_) (fun c4 => ?_)
  · have h := h.2 (am_b_n0 c4)
    refine am_forget (ls' := [some (.ref q), some (.int p1), none, some (.int v3)]) (am_le_s (am_le_s (am_le_n (am_le_s am_le_e)))) ?_
    exact tb_M_tellsAll_58 hw hq hK4 hd I2 v3 h
  · have h := h.1 (am_b_0 c4)
    refine am_aload_n (n := 44) d_M_tellsAll_43 rfl rfl ?_
    refine am_getR (x := (q + 18)) (n := 47) f_M_74 d_M_tellsAll_44 rfl rfl hq (hw.1 q 12 35 18 hq rfl) ?_
    refine am_iload_n (n := 48) d_M_tellsAll_47 rfl rfl ?_
    obtain ⟨g5, h⟩ := h
    refine am_zald2 (n := 49) d_M_tellsAll_48 rfl (am_sho (k := 35) (o := 18) hq (by decide) (by decide) (by decide) rfl) g5 rfl ?_
    refine am_aload_n (n := 50) d_M_tellsAll_49 rfl rfl ?_
    refine am_getR (x := (q + 19)) (n := 53) f_M_78 d_M_tellsAll_50 rfl rfl hq (hw.1 q 12 36 19 hq rfl) ?_
    refine am_iload_n (n := 54) d_M_tellsAll_53 rfl rfl ?_
    obtain ⟨g6, h⟩ := h
    refine am_zald2 (n := 55) d_M_tellsAll_54 rfl (am_sho (k := 36) (o := 19) hq (by decide) (by decide) (by decide) rfl) g6 rfl ?_
    refine am_icmp_eq (tgt := 62) (n := 58) d_M_tellsAll_55 rfl rfl (fun c5 => ?_) (fun c5 => ?_)
    · have h := h.1 c5
      refine am_iconst (n := 63) d_M_tellsAll_62 ci_0 rfl ?_
      refine am_istore_n (ls' := [some (.ref q), some (.int p1), some (.int 0), some (.int v3)]) (n := 64) d_M_tellsAll_63 (by decide) rfl rfl ?_
      refine am_iinc (v := v3 + 1) (ls' := [some (.ref q), some (.int p1), some (.int 0), some (.int (v3 + 1))]) (n := 67) d_M_tellsAll_64 rfl (congrArg _ ci_1) (by decide) rfl rfl ?_
      refine am_goto (tgt := 4) d_M_tellsAll_67 rfl ?_
      exact hK4 I2 false (v3 + 1)  h
    · have h := h.2 c5
      refine am_forget (ls' := [some (.ref q), some (.int p1), none, some (.int v3)]) (am_le_s (am_le_s (am_le_n (am_le_s am_le_e)))) ?_
      exact tb_M_tellsAll_58 hw hq hK4 hd I2 v3 h
def wb_M_tellsAll_37 (L : am_TL) (R : am_TR) (q : Nat) (p1 : Int32) (Q : Bool → am_TI → Prop) (K4 : am_TI → Bool → Int32 → Prop) (I : am_TI) (v2 : Bool) (v3 : Int32) (s0 : Nat) (s1 : Int32) : Prop := wb_M_tellsAll_38 L R q p1 Q K4 I v2 v3 s0 s1 false
set_option maxRecDepth 20000 in
theorem tb_M_tellsAll_37 {d : Nat}  {L : am_TL} {R : am_TR} {q : Nat} {p1 : Int32} {Q : Bool → am_TI → Prop} {K4 : am_TI → Bool → Int32 → Prop} (hw : am_Wf R) (hq : am_SH[q]? = some (.inl 12)) (hK4 : ∀ (I : am_TI) (v2 : Bool) (v3 : Int32), K4 I v2 v3 → am_Wp (d, "UnseenRingModel", b_M_tellsAll, 4, false) 0 0 4 [some (.ref q), some (.int p1), some (.int (am_b v2)), some (.int v3)] [] (I, L, R, am_SH) (po_M_tellsAll L R Q)) (hd : 2 ≤ d) (I : am_TI) (v2 : Bool) (v3 : Int32) (s0 : Nat) (s1 : Int32) (hs0 : am_SH[s0]? = some (.inr (2, 64))) (h : wb_M_tellsAll_37 L R q p1 Q K4 I v2 v3 s0 s1) : am_Wp (d, "UnseenRingModel", b_M_tellsAll, 4, false) 0 0 37 [some (.ref q), some (.int p1), some (.int (am_b v2)), some (.int v3)] [.int s1, .ref s0] (I, L, R, am_SH) (po_M_tellsAll L R Q) := by
  unfold wb_M_tellsAll_37 at h
  refine am_iconst (n := 38) d_M_tellsAll_37 ci_0 rfl ?_
  exact tb_M_tellsAll_38 hw hq hK4 hd I v2 v3 s0 s1 false hs0 h
def wl_M_tellsAll_4 (L : am_TL) (R : am_TR) (q : Nat) (p1 : Int32) (Q : Bool → am_TI → Prop)  : Nat → am_TI → Bool → Int32 → Prop
  | 0 => fun _ _ _ => False
  | f4 + 1 => fun I v2 v3 => ((64 ≤ v3 → (∃ z, wl_M_tellsAll_72 L R q p1 Q z I v2 0)) ∧ (¬ 64 ≤ v3 → (vp_in v3 64 ∧ (((I (q + 18) (Int32.toNatClampNeg v3)) = 0 → wb_M_tellsAll_37 L R q p1 Q (wl_M_tellsAll_4 L R q p1 Q f4) I v2 v3 (q + 19) v3) ∧ (¬ (I (q + 18) (Int32.toNatClampNeg v3)) = 0 → wp_M_knowing I L R q v3 (fun (r1 : Int32) => ((r1 = p1 → wb_M_tellsAll_38 L R q p1 Q (wl_M_tellsAll_4 L R q p1 Q f4) I v2 v3 (q + 19) v3 true) ∧ (¬ r1 = p1 → wb_M_tellsAll_37 L R q p1 Q (wl_M_tellsAll_4 L R q p1 Q f4) I v2 v3 (q + 19) v3))))))))
set_option maxRecDepth 20000 in
theorem tl_M_tellsAll_4 {d : Nat}  {L : am_TL} {R : am_TR} {q : Nat} {p1 : Int32} {Q : Bool → am_TI → Prop}  (hw : am_Wf R) (hq : am_SH[q]? = some (.inl 12)) (hd : 2 ≤ d) : ∀ (n : Nat) (I : am_TI) (v2 : Bool) (v3 : Int32), wl_M_tellsAll_4 L R q p1 Q  n I v2 v3 → am_Wp (d, "UnseenRingModel", b_M_tellsAll, 4, false) 0 0 4 [some (.ref q), some (.int p1), some (.int (am_b v2)), some (.int v3)] [] (I, L, R, am_SH) (po_M_tellsAll L R Q) := by
  intro n
  induction n with
  | zero => intro I v2 v3 h; exact h.elim
  | succ n ih =>
    intro I v2 v3 h
    unfold wl_M_tellsAll_4 at h
    refine am_iload_n (n := 5) d_M_tellsAll_4 rfl rfl ?_
    refine am_bipush (n := 7) d_M_tellsAll_5 cb_64 rfl ?_
    refine am_icmp_ge (tgt := 70) (n := 10) d_M_tellsAll_7 rfl rfl (fun c1 => ?_) (fun c1 => ?_)
    · have h := h.1 c1
      refine am_iconst (n := 71) d_M_tellsAll_70 ci_0 rfl ?_
      refine am_istore_n (ls' := [some (.ref q), some (.int p1), some (.int (am_b v2)), some (.int 0)]) (n := 72) d_M_tellsAll_71 (by decide) rfl rfl ?_
      obtain ⟨n, h⟩ := h
      exact tl_M_tellsAll_72 hw hq hd n I v2 0 h
    · have h := h.2 c1
      refine am_aload_n (n := 11) d_M_tellsAll_10 rfl rfl ?_
      refine am_getR (x := (q + 19)) (n := 14) f_M_78 d_M_tellsAll_11 rfl rfl hq (hw.1 q 12 36 19 hq rfl) ?_
      refine am_iload_n (n := 15) d_M_tellsAll_14 rfl rfl ?_
      refine am_aload_n (n := 16) d_M_tellsAll_15 rfl rfl ?_
      refine am_getR (x := (q + 18)) (n := 19) f_M_74 d_M_tellsAll_16 rfl rfl hq (hw.1 q 12 35 18 hq rfl) ?_
      refine am_iload_n (n := 20) d_M_tellsAll_19 rfl rfl ?_
      obtain ⟨g3, h⟩ := h
      refine am_zald2 (n := 21) d_M_tellsAll_20 rfl (am_sho (k := 35) (o := 18) hq (by decide) (by decide) (by decide) rfl) g3 rfl ?_
      refine am_if_eq (y := 0) (tgt := 37) (n := 24) d_M_tellsAll_21 rfl rfl (fun c3 => ?_) (fun c3 => ?_)
      · have h := h.1 c3
        exact tb_M_tellsAll_37 hw hq ih hd I v2 v3 (q + 19) v3 (am_sho (k := 36) (o := 19) hq (by decide) (by decide) (by decide) rfl) h
      · have h := h.2 c3
        refine am_aload_n (n := 25) d_M_tellsAll_24 rfl rfl ?_
        refine am_iload_n (n := 26) d_M_tellsAll_25 rfl rfl ?_
        refine am_callV (kc := 0) (ks := 0) (As := [.int v3]) (n := 29) d_M_tellsAll_26 rfl ce_M_knowing lk_M_452 in_M_knowing rfl rfl hq rfl rfl (Nat.le_of_ble_eq_true rfl) (Or.inl rfl) (cm_M_knowing (d := d - 1) hw (by omega) hq h) (by omega) ?_
        rintro _ _ ⟨r1, rfl, rfl, h⟩
        show am_Wp (d, "UnseenRingModel", b_M_tellsAll, 4, false) 0 0 29 [some (.ref q), some (.int p1), some (.int (am_b v2)), some (.int v3)] [.int r1, .int v3, .ref (q + 19)] (I, L, R, am_SH) (po_M_tellsAll L R Q)
        refine am_iload_n (n := 30) d_M_tellsAll_29 rfl rfl ?_
        refine am_icmp_ne (tgt := 37) (n := 33) d_M_tellsAll_30 rfl rfl (fun c6 => ?_) (fun c6 => ?_)
        · have h := h.2 c6
          exact tb_M_tellsAll_37 hw hq ih hd I v2 v3 (q + 19) v3 (am_sho (k := 36) (o := 19) hq (by decide) (by decide) (by decide) rfl) h
        · have h := h.1 c6
          refine am_iconst (n := 34) d_M_tellsAll_33 ci_1 rfl ?_
          refine am_goto (tgt := 38) d_M_tellsAll_34 rfl ?_
          exact tb_M_tellsAll_38 hw hq ih hd I v2 v3 (q + 19) v3 true (am_sho (k := 36) (o := 19) hq (by decide) (by decide) (by decide) rfl) h
def wp_M_tellsAll (I : am_TI) (L : am_TL) (R : am_TR) (q : Nat) (p1 : Int32)  (Q : Bool → am_TI → Prop) : Prop := (∃ z, wl_M_tellsAll_4 L R q p1 Q z I false 0)
set_option maxRecDepth 20000 in
theorem cm_M_tellsAll {d : Nat} {I : am_TI} {L : am_TL} {R : am_TR}  (hw : am_Wf R)   {q : Nat} {p1 : Int32} {Q : Bool → am_TI → Prop} (hd : 2 ≤ d) (hq : am_SH[q]? = some (.inl 12)) (h : wp_M_tellsAll I L R q p1  Q) : am_Cm d 0 0 y_M_tellsAll b_M_tellsAll 4 (some .boolean) [.ref q, .int p1] (I, L, R, am_SH) (po_M_tellsAll L R Q) := by
  refine am_Cm_of (ini := false) (by decide +kernel) (fun z => by cases z) (by simp [Value.category]) (fun r σ' z => by obtain ⟨x, _, rfl, -⟩ := z; exact ⟨_, rfl, am_b_nar x⟩) ?_
  unfold wp_M_tellsAll at h
  show am_Wp (d, "UnseenRingModel", b_M_tellsAll, 4, false) 0 0 0 [some (.ref q), some (.int p1), none, none] [] (I, L, R, am_SH) (po_M_tellsAll L R Q)
  refine am_iconst (n := 1) d_M_tellsAll_0 ci_0 rfl ?_
  refine am_istore_n (ls' := [some (.ref q), some (.int p1), some (.int 0), none]) (n := 2) d_M_tellsAll_1 (by decide) rfl rfl ?_
  refine am_iconst (n := 3) d_M_tellsAll_2 ci_0 rfl ?_
  refine am_istore_n (ls' := [some (.ref q), some (.int p1), some (.int 0), some (.int 0)]) (n := 4) d_M_tellsAll_3 (by decide) rfl rfl ?_
  obtain ⟨n, h⟩ := h
  exact tl_M_tellsAll_4 hw hq hd n I false 0 h
abbrev po_M_rounds (L : am_TL) (R : am_TR) (Q : Int32 → am_TI → Prop) : Option Value → am_St → Prop := fun r σ' => ∃ (x : Int32) (I' : am_TI), r = some (.int x) ∧ σ' = (I', L, R, am_SH) ∧ Q x I'
def wl_M_rounds_22 (L : am_TL) (R : am_TR) (q : Nat) (p1 : Int32) (p2 : Int32) (Q : Int32 → am_TI → Prop)  : Nat → am_TI → Int32 → Prop
  | 0 => fun _ _ => False
  | f22 + 1 => fun I v3 => wp_M_knowing I L R q p1 (fun (r2 : Int32) => ((r2 = 0 → wp_M_tellsAll I L R q 0 (fun (r4 : Bool) (I3 : am_TI) => ((r4 = false → wp_M_refuse I3 L R q 6 (fun (r5 : Int32) (I4 : am_TI) => Q r5 I4)) ∧ (r4 = true → wl_M_rounds_22 L R q p1 p2 Q f22 I3 (v3 + 1))))) ∧ (¬ r2 = 0 → wp_M_gives I L R q v3 (fun (r3 : Int32) (I2 : am_TI) => Q r3 I2))))
set_option maxRecDepth 20000 in
theorem tl_M_rounds_22 {d : Nat}  {L : am_TL} {R : am_TR} {q : Nat} {p1 : Int32} {p2 : Int32} {Q : Int32 → am_TI → Prop}  (hw : am_Wf R) (hq : am_SH[q]? = some (.inl 12)) (hd : 4 ≤ d) : ∀ (n : Nat) (I : am_TI) (v3 : Int32), wl_M_rounds_22 L R q p1 p2 Q  n I v3 → am_Wp (d, "UnseenRingModel", b_M_rounds, 4, false) 0 0 22 [some (.ref q), some (.int p1), some (.int p2), some (.int v3)] [] (I, L, R, am_SH) (po_M_rounds L R Q) := by
  intro n
  induction n with
  | zero => intro I v3 h; exact h.elim
  | succ n ih =>
    intro I v3 h
    unfold wl_M_rounds_22 at h
    refine am_aload_n (n := 23) d_M_rounds_22 rfl rfl ?_
    refine am_iload_n (n := 24) d_M_rounds_23 rfl rfl ?_
    refine am_callV (kc := 0) (ks := 0) (As := [.int p1]) (n := 27) d_M_rounds_24 rfl ce_M_knowing lk_M_452 in_M_knowing rfl rfl hq rfl rfl (Nat.le_of_ble_eq_true rfl) (Or.inl rfl) (cm_M_knowing (d := d - 1) hw (by omega) hq h) (by omega) ?_
    rintro _ _ ⟨r2, rfl, rfl, h⟩
    show am_Wp (d, "UnseenRingModel", b_M_rounds, 4, false) 0 0 27 [some (.ref q), some (.int p1), some (.int p2), some (.int v3)] [.int r2] (I, L, R, am_SH) (po_M_rounds L R Q)
    refine am_if_ne (y := 0) (tgt := 51) (n := 30) d_M_rounds_27 rfl rfl (fun c2 => ?_) (fun c2 => ?_)
    · have h := h.2 c2
      refine am_aload_n (n := 52) d_M_rounds_51 rfl rfl ?_
      refine am_iload_n (n := 53) d_M_rounds_52 rfl rfl ?_
      refine am_callV (kc := 0) (ks := 0) (As := [.int v3]) (n := 56) d_M_rounds_53 rfl ce_M_gives lk_M_125 in_M_gives rfl rfl hq rfl rfl (Nat.le_of_ble_eq_true rfl) (Or.inl rfl) (cm_M_gives (d := d - 1) hw (by omega) hq h) (by omega) ?_
      rintro _ _ ⟨r3, I2, rfl, rfl, h⟩
      show am_Wp (d, "UnseenRingModel", b_M_rounds, 4, false) 0 0 56 [some (.ref q), some (.int p1), some (.int p2), some (.int v3)] [.int r3] (I2, L, R, am_SH) (po_M_rounds L R Q)
      exact am_iret d_M_rounds_56 ⟨r3, I2, rfl, rfl, h⟩
    · have h := h.1 c2
      refine am_aload_n (n := 31) d_M_rounds_30 rfl rfl ?_
      refine am_iconst (n := 32) d_M_rounds_31 ci_0 rfl ?_
      refine am_callV (kc := 0) (ks := 0) (As := [.int 0]) (n := 35) d_M_rounds_32 rfl ce_M_tellsAll lk_M_461 in_M_tellsAll rfl rfl hq rfl rfl (Nat.le_of_ble_eq_true rfl) (Or.inl rfl) (cm_M_tellsAll (d := d - 1) hw (by omega) hq h) (by omega) ?_
      rintro _ _ ⟨r4, I3, rfl, rfl, h⟩
      show am_Wp (d, "UnseenRingModel", b_M_rounds, 4, false) 0 0 35 [some (.ref q), some (.int p1), some (.int p2), some (.int v3)] [.int (am_b r4)] (I3, L, R, am_SH) (po_M_rounds L R Q)
      refine am_if_ne (y := 0) (tgt := 45) (n := 38) d_M_rounds_35 rfl rfl (fun c3 => ?_) (fun c3 => ?_)
      · have h := h.2 (am_b_n0 c3)
        refine am_iinc (v := v3 + 1) (ls' := [some (.ref q), some (.int p1), some (.int p2), some (.int (v3 + 1))]) (n := 48) d_M_rounds_45 rfl (congrArg _ ci_1) (by decide) rfl rfl ?_
        refine am_goto (tgt := 22) d_M_rounds_48 rfl ?_
        exact ih I3 (v3 + 1)  h
      · have h := h.1 (am_b_0 c3)
        refine am_aload_n (n := 39) d_M_rounds_38 rfl rfl ?_
        refine am_bipush (n := 41) d_M_rounds_39 cb_6 rfl ?_
        refine am_callV (kc := 0) (ks := 0) (As := [.int 6]) (n := 44) d_M_rounds_41 rfl ce_M_refuse lk_M_121 in_M_refuse rfl rfl hq rfl rfl (Nat.le_of_ble_eq_true rfl) (Or.inl rfl) (cm_M_refuse (d := d - 1) hw (by omega) hq h) (by omega) ?_
        rintro _ _ ⟨r5, I4, rfl, rfl, h⟩
        show am_Wp (d, "UnseenRingModel", b_M_rounds, 4, false) 0 0 44 [some (.ref q), some (.int p1), some (.int p2), some (.int v3)] [.int r5] (I4, L, R, am_SH) (po_M_rounds L R Q)
        exact am_iret d_M_rounds_44 ⟨r5, I4, rfl, rfl, h⟩
def wp_M_rounds (I : am_TI) (L : am_TL) (R : am_TR) (q : Nat) (p1 : Int32) (p2 : Int32)  (Q : Int32 → am_TI → Prop) : Prop := wp_M_isKnowing I L R q p1 p2 (fun (r1 : Bool) => ((r1 = false → wp_M_refuse I L R q 1 (fun (r6 : Int32) (I5 : am_TI) => Q r6 I5)) ∧ (r1 = true → wp_M_laysWorlds I L R q p2 (fun (I1 : am_TI) => (∃ z, wl_M_rounds_22 L R q p1 p2 Q z I1 1)))))
set_option maxRecDepth 20000 in
theorem cm_M_rounds {d : Nat} {I : am_TI} {L : am_TL} {R : am_TR}  (hw : am_Wf R)   {q : Nat} {p1 : Int32} {p2 : Int32} {Q : Int32 → am_TI → Prop} (hd : 4 ≤ d) (hq : am_SH[q]? = some (.inl 12)) (h : wp_M_rounds I L R q p1 p2  Q) : am_Cm d 0 0 y_M_rounds b_M_rounds 4 (some .int) [.ref q, .int p1, .int p2] (I, L, R, am_SH) (po_M_rounds L R Q) := by
  refine am_Cm_of (ini := false) (by decide +kernel) (fun z => by cases z) (by simp [Value.category]) (fun r σ' z => by obtain ⟨x, _, rfl, -⟩ := z; exact ⟨_, rfl, rfl⟩) ?_
  unfold wp_M_rounds at h
  show am_Wp (d, "UnseenRingModel", b_M_rounds, 4, false) 0 0 0 [some (.ref q), some (.int p1), some (.int p2), none] [] (I, L, R, am_SH) (po_M_rounds L R Q)
  refine am_aload_n (n := 1) d_M_rounds_0 rfl rfl ?_
  refine am_iload_n (n := 2) d_M_rounds_1 rfl rfl ?_
  refine am_iload_n (n := 3) d_M_rounds_2 rfl rfl ?_
  refine am_callV (kc := 0) (ks := 0) (As := [.int p1, .int p2]) (n := 6) d_M_rounds_3 rfl ce_M_isKnowing lk_M_455 in_M_isKnowing rfl rfl hq rfl rfl (Nat.le_of_ble_eq_true rfl) (Or.inl rfl) (cm_M_isKnowing (d := d - 1) hw (by omega) hq h) (by omega) ?_
  rintro _ _ ⟨r1, rfl, rfl, h⟩
  show am_Wp (d, "UnseenRingModel", b_M_rounds, 4, false) 0 0 6 [some (.ref q), some (.int p1), some (.int p2), none] [.int (am_b r1)] (I, L, R, am_SH) (po_M_rounds L R Q)
  refine am_if_ne (y := 0) (tgt := 15) (n := 9) d_M_rounds_6 rfl rfl (fun c1 => ?_) (fun c1 => ?_)
  · have h := h.2 (am_b_n0 c1)
    refine am_aload_n (n := 16) d_M_rounds_15 rfl rfl ?_
    refine am_iload_n (n := 17) d_M_rounds_16 rfl rfl ?_
    refine am_callV (kc := 0) (ks := 0) (As := [.int p2]) (n := 20) d_M_rounds_17 rfl ce_M_laysWorlds lk_M_458 in_M_laysWorlds rfl rfl hq rfl rfl (Nat.le_of_ble_eq_true rfl) (Or.inl rfl) (cm_M_laysWorlds (d := d - 1) hw (by omega) hq h) (by omega) ?_
    rintro _ _ ⟨I1, rfl, rfl, h⟩
    show am_Wp (d, "UnseenRingModel", b_M_rounds, 4, false) 0 0 20 [some (.ref q), some (.int p1), some (.int p2), none] [] (I1, L, R, am_SH) (po_M_rounds L R Q)
    refine am_iconst (n := 21) d_M_rounds_20 ci_1 rfl ?_
    refine am_istore_n (ls' := [some (.ref q), some (.int p1), some (.int p2), some (.int 1)]) (n := 22) d_M_rounds_21 (by decide) rfl rfl ?_
    obtain ⟨n, h⟩ := h
    exact tl_M_rounds_22 hw hq hd n I1 1 h
  · have h := h.1 (am_b_0 c1)
    refine am_aload_n (n := 10) d_M_rounds_9 rfl rfl ?_
    refine am_iconst (n := 11) d_M_rounds_10 ci_1 rfl ?_
    refine am_callV (kc := 0) (ks := 0) (As := [.int 1]) (n := 14) d_M_rounds_11 rfl ce_M_refuse lk_M_121 in_M_refuse rfl rfl hq rfl rfl (Nat.le_of_ble_eq_true rfl) (Or.inl rfl) (cm_M_refuse (d := d - 1) hw (by omega) hq h) (by omega) ?_
    rintro _ _ ⟨r6, I5, rfl, rfl, h⟩
    show am_Wp (d, "UnseenRingModel", b_M_rounds, 4, false) 0 0 14 [some (.ref q), some (.int p1), some (.int p2), none] [.int r6] (I5, L, R, am_SH) (po_M_rounds L R Q)
    exact am_iret d_M_rounds_14 ⟨r6, I5, rfl, rfl, h⟩
abbrev po_M_knowers (L : am_TL) (R : am_TR) (Q : Int32 → am_TI → Prop) : Option Value → am_St → Prop := fun r σ' => ∃ (x : Int32) (I' : am_TI), r = some (.int x) ∧ σ' = (I', L, R, am_SH) ∧ Q x I'
def wb_M_knowers_21 (L : am_TL) (R : am_TR) (q : Nat) (p1 : Int32) (p2 : Int32) (p3 : Int32) (Q : Int32 → am_TI → Prop)  (I : am_TI) : Prop := wp_M_refuse I L R q 1 (fun (r2 : Int32) (I1 : am_TI) => Q r2 I1)
set_option maxRecDepth 20000 in
theorem tb_M_knowers_21 {d : Nat}  {L : am_TL} {R : am_TR} {q : Nat} {p1 : Int32} {p2 : Int32} {p3 : Int32} {Q : Int32 → am_TI → Prop}  (hw : am_Wf R) (hq : am_SH[q]? = some (.inl 12)) (hd : 4 ≤ d) (I : am_TI) (h : wb_M_knowers_21 L R q p1 p2 p3 Q  I) : am_Wp (d, "UnseenRingModel", b_M_knowers, 5, false) 0 0 21 [some (.ref q), some (.int p1), some (.int p2), some (.int p3), none] [] (I, L, R, am_SH) (po_M_knowers L R Q) := by
  unfold wb_M_knowers_21 at h
  refine am_aload_n (n := 22) d_M_knowers_21 rfl rfl ?_
  refine am_iconst (n := 23) d_M_knowers_22 ci_1 rfl ?_
  refine am_callV (kc := 0) (ks := 0) (As := [.int 1]) (n := 26) d_M_knowers_23 rfl ce_M_refuse lk_M_121 in_M_refuse rfl rfl hq rfl rfl (Nat.le_of_ble_eq_true rfl) (Or.inl rfl) (cm_M_refuse (d := d - 1) hw (by omega) hq h) (by omega) ?_
  rintro _ _ ⟨r2, I1, rfl, rfl, h⟩
  show am_Wp (d, "UnseenRingModel", b_M_knowers, 5, false) 0 0 26 [some (.ref q), some (.int p1), some (.int p2), some (.int p3), none] [.int r2] (I1, L, R, am_SH) (po_M_knowers L R Q)
  exact am_iret d_M_knowers_26 ⟨r2, I1, rfl, rfl, h⟩
def wl_M_knowers_35 (L : am_TL) (R : am_TR) (q : Nat) (p1 : Int32) (p2 : Int32) (p3 : Int32) (Q : Int32 → am_TI → Prop)  : Nat → am_TI → Int32 → Prop
  | 0 => fun _ _ => False
  | f35 + 1 => fun I v4 => ((p3 ≤ v4 → wp_M_knowing I L R q p1 (fun (r4 : Int32) => wp_M_gives I L R q r4 (fun (r5 : Int32) (I3 : am_TI) => Q r5 I3))) ∧ (¬ p3 ≤ v4 → wp_M_knowing I L R q p1 (fun (r6 : Int32) => wp_M_tellsAll I L R q r6 (fun (r7 : Bool) (I4 : am_TI) => wl_M_knowers_35 L R q p1 p2 p3 Q f35 I4 (v4 + 1)))))
set_option maxRecDepth 20000 in
theorem tl_M_knowers_35 {d : Nat}  {L : am_TL} {R : am_TR} {q : Nat} {p1 : Int32} {p2 : Int32} {p3 : Int32} {Q : Int32 → am_TI → Prop}  (hw : am_Wf R) (hq : am_SH[q]? = some (.inl 12)) (hd : 4 ≤ d) : ∀ (n : Nat) (I : am_TI) (v4 : Int32), wl_M_knowers_35 L R q p1 p2 p3 Q  n I v4 → am_Wp (d, "UnseenRingModel", b_M_knowers, 5, false) 0 0 35 [some (.ref q), some (.int p1), some (.int p2), some (.int p3), some (.int v4)] [] (I, L, R, am_SH) (po_M_knowers L R Q) := by
  intro n
  induction n with
  | zero => intro I v4 h; exact h.elim
  | succ n ih =>
    intro I v4 h
    unfold wl_M_knowers_35 at h
    refine am_iload (n := 37) d_M_knowers_35 rfl rfl ?_
    refine am_iload_n (n := 38) d_M_knowers_37 rfl rfl ?_
    refine am_icmp_ge (tgt := 57) (n := 41) d_M_knowers_38 rfl rfl (fun c3 => ?_) (fun c3 => ?_)
    · have h := h.1 c3
      refine am_aload_n (n := 58) d_M_knowers_57 rfl rfl ?_
      refine am_aload_n (n := 59) d_M_knowers_58 rfl rfl ?_
      refine am_iload_n (n := 60) d_M_knowers_59 rfl rfl ?_
      refine am_callV (kc := 0) (ks := 0) (As := [.int p1]) (n := 63) d_M_knowers_60 rfl ce_M_knowing lk_M_452 in_M_knowing rfl rfl hq rfl rfl (Nat.le_of_ble_eq_true rfl) (Or.inl rfl) (cm_M_knowing (d := d - 1) hw (by omega) hq h) (by omega) ?_
      rintro _ _ ⟨r4, rfl, rfl, h⟩
      show am_Wp (d, "UnseenRingModel", b_M_knowers, 5, false) 0 0 63 [some (.ref q), some (.int p1), some (.int p2), some (.int p3), some (.int v4)] [.int r4, .ref q] (I, L, R, am_SH) (po_M_knowers L R Q)
      refine am_callV (kc := 0) (ks := 0) (As := [.int r4]) (n := 66) d_M_knowers_63 rfl ce_M_gives lk_M_125 in_M_gives rfl rfl hq rfl rfl (Nat.le_of_ble_eq_true rfl) (Or.inl rfl) (cm_M_gives (d := d - 1) hw (by omega) hq h) (by omega) ?_
      rintro _ _ ⟨r5, I3, rfl, rfl, h⟩
      show am_Wp (d, "UnseenRingModel", b_M_knowers, 5, false) 0 0 66 [some (.ref q), some (.int p1), some (.int p2), some (.int p3), some (.int v4)] [.int r5] (I3, L, R, am_SH) (po_M_knowers L R Q)
      exact am_iret d_M_knowers_66 ⟨r5, I3, rfl, rfl, h⟩
    · have h := h.2 c3
      refine am_aload_n (n := 42) d_M_knowers_41 rfl rfl ?_
      refine am_aload_n (n := 43) d_M_knowers_42 rfl rfl ?_
      refine am_iload_n (n := 44) d_M_knowers_43 rfl rfl ?_
      refine am_callV (kc := 0) (ks := 0) (As := [.int p1]) (n := 47) d_M_knowers_44 rfl ce_M_knowing lk_M_452 in_M_knowing rfl rfl hq rfl rfl (Nat.le_of_ble_eq_true rfl) (Or.inl rfl) (cm_M_knowing (d := d - 1) hw (by omega) hq h) (by omega) ?_
      rintro _ _ ⟨r6, rfl, rfl, h⟩
      show am_Wp (d, "UnseenRingModel", b_M_knowers, 5, false) 0 0 47 [some (.ref q), some (.int p1), some (.int p2), some (.int p3), some (.int v4)] [.int r6, .ref q] (I, L, R, am_SH) (po_M_knowers L R Q)
      refine am_callV (kc := 0) (ks := 0) (As := [.int r6]) (n := 50) d_M_knowers_47 rfl ce_M_tellsAll lk_M_461 in_M_tellsAll rfl rfl hq rfl rfl (Nat.le_of_ble_eq_true rfl) (Or.inl rfl) (cm_M_tellsAll (d := d - 1) hw (by omega) hq h) (by omega) ?_
      rintro _ _ ⟨r7, I4, rfl, rfl, h⟩
      show am_Wp (d, "UnseenRingModel", b_M_knowers, 5, false) 0 0 50 [some (.ref q), some (.int p1), some (.int p2), some (.int p3), some (.int v4)] [.int (am_b r7)] (I4, L, R, am_SH) (po_M_knowers L R Q)
      refine am_pop (n := 51) d_M_knowers_50 rfl rfl ?_
      refine am_iinc (v := v4 + 1) (ls' := [some (.ref q), some (.int p1), some (.int p2), some (.int p3), some (.int (v4 + 1))]) (n := 54) d_M_knowers_51 rfl (congrArg _ ci_1) (by decide) rfl rfl ?_
      refine am_goto (tgt := 35) d_M_knowers_54 rfl ?_
      exact ih I4 (v4 + 1)  h
def wp_M_knowers (I : am_TI) (L : am_TL) (R : am_TR) (q : Nat) (p1 : Int32) (p2 : Int32) (p3 : Int32)  (Q : Int32 → am_TI → Prop) : Prop := wp_M_isKnowing I L R q p1 p2 (fun (r1 : Bool) => ((r1 = false → wb_M_knowers_21 L R q p1 p2 p3 Q I) ∧ (r1 = true → wp_M_isFrom I L R (Int32.toInt64 p3) 1 8 (fun (r3 : Bool) => ((r3 = false → wb_M_knowers_21 L R q p1 p2 p3 Q I) ∧ (r3 = true → wp_M_laysWorlds I L R q p2 (fun (I2 : am_TI) => (∃ z, wl_M_knowers_35 L R q p1 p2 p3 Q z I2 1))))))))
set_option maxRecDepth 20000 in
theorem cm_M_knowers {d : Nat} {I : am_TI} {L : am_TL} {R : am_TR}  (hw : am_Wf R)   {q : Nat} {p1 : Int32} {p2 : Int32} {p3 : Int32} {Q : Int32 → am_TI → Prop} (hd : 4 ≤ d) (hq : am_SH[q]? = some (.inl 12)) (h : wp_M_knowers I L R q p1 p2 p3  Q) : am_Cm d 0 0 y_M_knowers b_M_knowers 5 (some .int) [.ref q, .int p1, .int p2, .int p3] (I, L, R, am_SH) (po_M_knowers L R Q) := by
  refine am_Cm_of (ini := false) (by decide +kernel) (fun z => by cases z) (by simp [Value.category]) (fun r σ' z => by obtain ⟨x, _, rfl, -⟩ := z; exact ⟨_, rfl, rfl⟩) ?_
  unfold wp_M_knowers at h
  show am_Wp (d, "UnseenRingModel", b_M_knowers, 5, false) 0 0 0 [some (.ref q), some (.int p1), some (.int p2), some (.int p3), none] [] (I, L, R, am_SH) (po_M_knowers L R Q)
  refine am_aload_n (n := 1) d_M_knowers_0 rfl rfl ?_
  refine am_iload_n (n := 2) d_M_knowers_1 rfl rfl ?_
  refine am_iload_n (n := 3) d_M_knowers_2 rfl rfl ?_
  refine am_callV (kc := 0) (ks := 0) (As := [.int p1, .int p2]) (n := 6) d_M_knowers_3 rfl ce_M_isKnowing lk_M_455 in_M_isKnowing rfl rfl hq rfl rfl (Nat.le_of_ble_eq_true rfl) (Or.inl rfl) (cm_M_isKnowing (d := d - 1) hw (by omega) hq h) (by omega) ?_
  rintro _ _ ⟨r1, rfl, rfl, h⟩
  show am_Wp (d, "UnseenRingModel", b_M_knowers, 5, false) 0 0 6 [some (.ref q), some (.int p1), some (.int p2), some (.int p3), none] [.int (am_b r1)] (I, L, R, am_SH) (po_M_knowers L R Q)
  refine am_if_eq (y := 0) (tgt := 21) (n := 9) d_M_knowers_6 rfl rfl (fun c1 => ?_) (fun c1 => ?_)
  · have h := h.1 (am_b_0 c1)
    exact tb_M_knowers_21 hw hq hd I h
  · have h := h.2 (am_b_n0 c1)
    refine am_iload_n (n := 10) d_M_knowers_9 rfl rfl ?_
    refine am_i2l (n := 11) d_M_knowers_10 rfl ?_
    refine am_lconst (v := 1) (n := 12) d_M_knowers_11 rfl rfl ?_
    refine am_ldc2 (n := 15) d_M_knowers_12 k_M_431 rfl ?_
    refine am_callS (kc := 0) (ks := 0) (As := [.long (Int32.toInt64 p3), .long 1, .long 8]) (n := 18) d_M_knowers_15 rfl ce_M_isFrom lk_M_306 st_M_isFrom rfl rfl (Nat.le_of_ble_eq_true rfl) (Or.inl rfl) (cm_M_isFrom (d := d - 1) hw (by omega)  h) (by omega) ?_
    rintro _ _ ⟨r3, rfl, rfl, h⟩
    show am_Wp (d, "UnseenRingModel", b_M_knowers, 5, false) 0 0 18 [some (.ref q), some (.int p1), some (.int p2), some (.int p3), none] [.int (am_b r3)] (I, L, R, am_SH) (po_M_knowers L R Q)
    refine am_if_ne (y := 0) (tgt := 27) (n := 21) d_M_knowers_18 rfl rfl (fun c2 => ?_) (fun c2 => ?_)
    · have h := h.2 (am_b_n0 c2)
      refine am_aload_n (n := 28) d_M_knowers_27 rfl rfl ?_
      refine am_iload_n (n := 29) d_M_knowers_28 rfl rfl ?_
      refine am_callV (kc := 0) (ks := 0) (As := [.int p2]) (n := 32) d_M_knowers_29 rfl ce_M_laysWorlds lk_M_458 in_M_laysWorlds rfl rfl hq rfl rfl (Nat.le_of_ble_eq_true rfl) (Or.inl rfl) (cm_M_laysWorlds (d := d - 1) hw (by omega) hq h) (by omega) ?_
      rintro _ _ ⟨I2, rfl, rfl, h⟩
      show am_Wp (d, "UnseenRingModel", b_M_knowers, 5, false) 0 0 32 [some (.ref q), some (.int p1), some (.int p2), some (.int p3), none] [] (I2, L, R, am_SH) (po_M_knowers L R Q)
      refine am_iconst (n := 33) d_M_knowers_32 ci_1 rfl ?_
      refine am_istore (ls' := [some (.ref q), some (.int p1), some (.int p2), some (.int p3), some (.int 1)]) (n := 35) d_M_knowers_33 (by decide) rfl rfl ?_
      obtain ⟨n, h⟩ := h
      exact tl_M_knowers_35 hw hq hd n I2 1 h
    · have h := h.1 (am_b_0 c2)
      exact tb_M_knowers_21 hw hq hd I h
abbrev po_M_levelAt (I : am_TI) (L : am_TL) (R : am_TR) (Q : Int32 → Prop) : Option Value → am_St → Prop := fun r σ' => ∃ (x : Int32), r = some (.int x) ∧ σ' = (I, L, R, am_SH) ∧ Q x
def wp_M_levelAt (I : am_TI) (L : am_TL) (R : am_TR) (p0 : Int32)  (Q : Int32 → Prop) : Prop := Q (2068 + (38 * p0))
set_option maxRecDepth 20000 in
theorem cm_M_levelAt {d : Nat} {I : am_TI} {L : am_TL} {R : am_TR}  (hw : am_Wf R)   {p0 : Int32} {Q : Int32 → Prop} (hd : 0 ≤ d)  (h : wp_M_levelAt I L R p0  Q) : am_Cm d 0 0 y_M_levelAt b_M_levelAt 1 (some .int) [.int p0] (I, L, R, am_SH) (po_M_levelAt I L R Q) := by
  refine am_Cm_of (ini := false) (by decide +kernel) (fun z => by cases z) (by simp [Value.category]) (fun r σ' z => by obtain ⟨x, rfl, -⟩ := z; exact ⟨_, rfl, rfl⟩) ?_
  unfold wp_M_levelAt at h
  show am_Wp (d, "UnseenRingModel", b_M_levelAt, 1, false) 0 0 0 [some (.int p0)] [] (I, L, R, am_SH) (po_M_levelAt I L R Q)
  refine am_sipush (n := 3) d_M_levelAt_0 cs_2068 rfl ?_
  refine am_bipush (n := 5) d_M_levelAt_3 cb_38 rfl ?_
  refine am_iload_n (n := 6) d_M_levelAt_5 rfl rfl ?_
  refine am_imul (n := 7) d_M_levelAt_6 rfl ?_
  refine am_iadd (n := 8) d_M_levelAt_7 rfl ?_
  exact am_iret d_M_levelAt_8 ⟨(2068 + (38 * p0)), rfl, rfl, h⟩
abbrev po_M_beginsAt (L : am_TL) (R : am_TR) (Q : am_TI → Prop) : Option Value → am_St → Prop := fun r σ' => ∃ (I' : am_TI), r = none ∧ σ' = (I', L, R, am_SH) ∧ Q I'
def wp_M_beginsAt (I : am_TI) (L : am_TL) (R : am_TR) (q : Nat) (p1 : Int32) (p2 : Int32) (p3 : Int32)  (Q : am_TI → Prop) : Prop := wp_M_levelAt I L R p1 (fun (r1 : Int32) => wp_M_keeps I L R q r1 (fun (I1 : am_TI) => (vp_in p1 5 ∧ (∀ I2, I2 = am_u2 I1 (q + 21) (Int32.toNatClampNeg p1) (-1) → (vp_in p1 5 ∧ (∀ I3, I3 = am_u2 I2 (q + 25) (Int32.toNatClampNeg p1) (-1) → (vp_in p1 5 ∧ (∀ I4, I4 = am_u2 I3 (q + 22) (Int32.toNatClampNeg p1) p2 → (vp_in p1 5 ∧ (∀ I5, I5 = am_u2 I4 (q + 23) (Int32.toNatClampNeg p1) p3 → Q I5))))))))))
set_option maxRecDepth 20000 in
theorem cm_M_beginsAt {d : Nat} {I : am_TI} {L : am_TL} {R : am_TR}  (hw : am_Wf R)   {q : Nat} {p1 : Int32} {p2 : Int32} {p3 : Int32} {Q : am_TI → Prop} (hd : 1 ≤ d) (hq : am_SH[q]? = some (.inl 12)) (h : wp_M_beginsAt I L R q p1 p2 p3  Q) : am_Cm d 0 0 y_M_beginsAt b_M_beginsAt 4 (none) [.ref q, .int p1, .int p2, .int p3] (I, L, R, am_SH) (po_M_beginsAt L R Q) := by
  refine am_Cm_of (ini := false) (by decide +kernel) (fun z => by cases z) (by simp [Value.category]) (fun r σ' z => by obtain ⟨_, rfl, -⟩ := z; rfl) ?_
  unfold wp_M_beginsAt at h
  show am_Wp (d, "UnseenRingModel", b_M_beginsAt, 4, false) 0 0 0 [some (.ref q), some (.int p1), some (.int p2), some (.int p3)] [] (I, L, R, am_SH) (po_M_beginsAt L R Q)
  refine am_aload_n (n := 1) d_M_beginsAt_0 rfl rfl ?_
  refine am_iload_n (n := 2) d_M_beginsAt_1 rfl rfl ?_
  refine am_callS (kc := 0) (ks := 0) (As := [.int p1]) (n := 5) d_M_beginsAt_2 rfl ce_M_levelAt lk_M_464 st_M_levelAt rfl rfl (Nat.le_of_ble_eq_true rfl) (Or.inl rfl) (cm_M_levelAt (d := d - 1) hw (by omega)  h) (by omega) ?_
  rintro _ _ ⟨r1, rfl, rfl, h⟩
  show am_Wp (d, "UnseenRingModel", b_M_beginsAt, 4, false) 0 0 5 [some (.ref q), some (.int p1), some (.int p2), some (.int p3)] [.int r1, .ref q] (I, L, R, am_SH) (po_M_beginsAt L R Q)
  refine am_callV (kc := 0) (ks := 0) (As := [.int r1]) (n := 8) d_M_beginsAt_5 rfl ce_M_keeps lk_M_374 in_M_keeps rfl rfl hq rfl rfl (Nat.le_of_ble_eq_true rfl) (Or.inl rfl) (cm_M_keeps (d := d - 1) hw (by omega) hq h) (by omega) ?_
  rintro _ _ ⟨I1, rfl, rfl, h⟩
  show am_Wp (d, "UnseenRingModel", b_M_beginsAt, 4, false) 0 0 8 [some (.ref q), some (.int p1), some (.int p2), some (.int p3)] [] (I1, L, R, am_SH) (po_M_beginsAt L R Q)
  refine am_aload_n (n := 9) d_M_beginsAt_8 rfl rfl ?_
  refine am_getR (x := (q + 21)) (n := 12) f_M_84 d_M_beginsAt_9 rfl rfl hq (hw.1 q 12 38 21 hq rfl) ?_
  refine am_iload_n (n := 13) d_M_beginsAt_12 rfl rfl ?_
  refine am_iconst (n := 14) d_M_beginsAt_13 ci_m1 rfl ?_
  obtain ⟨g1, h⟩ := h
  refine am_iast2 (n := 15) d_M_beginsAt_14 rfl (am_sho (k := 38) (o := 21) hq (by decide) (by decide) (by decide) rfl) g1 rfl ?_
  generalize eI2 : am_u2 I1 (q + 21) (Int32.toNatClampNeg p1) (-1) = I2
  have h := h I2 eI2.symm
  refine am_aload_n (n := 16) d_M_beginsAt_15 rfl rfl ?_
  refine am_getR (x := (q + 25)) (n := 19) f_M_96 d_M_beginsAt_16 rfl rfl hq (hw.1 q 12 42 25 hq rfl) ?_
  refine am_iload_n (n := 20) d_M_beginsAt_19 rfl rfl ?_
  refine am_iconst (n := 21) d_M_beginsAt_20 ci_m1 rfl ?_
  obtain ⟨g2, h⟩ := h
  refine am_iast2 (n := 22) d_M_beginsAt_21 rfl (am_sho (k := 42) (o := 25) hq (by decide) (by decide) (by decide) rfl) g2 rfl ?_
  generalize eI3 : am_u2 I2 (q + 25) (Int32.toNatClampNeg p1) (-1) = I3
  have h := h I3 eI3.symm
  refine am_aload_n (n := 23) d_M_beginsAt_22 rfl rfl ?_
  refine am_getR (x := (q + 22)) (n := 26) f_M_87 d_M_beginsAt_23 rfl rfl hq (hw.1 q 12 39 22 hq rfl) ?_
  refine am_iload_n (n := 27) d_M_beginsAt_26 rfl rfl ?_
  refine am_iload_n (n := 28) d_M_beginsAt_27 rfl rfl ?_
  obtain ⟨g3, h⟩ := h
  refine am_iast2 (n := 29) d_M_beginsAt_28 rfl (am_sho (k := 39) (o := 22) hq (by decide) (by decide) (by decide) rfl) g3 rfl ?_
  generalize eI4 : am_u2 I3 (q + 22) (Int32.toNatClampNeg p1) p2 = I4
  have h := h I4 eI4.symm
  refine am_aload_n (n := 30) d_M_beginsAt_29 rfl rfl ?_
  refine am_getR (x := (q + 23)) (n := 33) f_M_90 d_M_beginsAt_30 rfl rfl hq (hw.1 q 12 40 23 hq rfl) ?_
  refine am_iload_n (n := 34) d_M_beginsAt_33 rfl rfl ?_
  refine am_iload_n (n := 35) d_M_beginsAt_34 rfl rfl ?_
  obtain ⟨g4, h⟩ := h
  refine am_iast2 (n := 36) d_M_beginsAt_35 rfl (am_sho (k := 40) (o := 23) hq (by decide) (by decide) (by decide) rfl) g4 rfl ?_
  generalize eI5 : am_u2 I4 (q + 23) (Int32.toNatClampNeg p1) p3 = I5
  have h := h I5 eI5.symm
  exact am_vret d_M_beginsAt_36 ⟨I5, rfl, rfl, h⟩
abbrev po_M_settles (L : am_TL) (R : am_TR) (Q : am_TI → Prop) : Option Value → am_St → Prop := fun r σ' => ∃ (I' : am_TI), r = none ∧ σ' = (I', L, R, am_SH) ∧ Q I'
def wb_M_settles_50 (L : am_TL) (R : am_TR) (q : Nat) (p1 : Int32) (p2 : Int32) (Q : am_TI → Prop)  (I : am_TI) : Prop := (vp_in p1 5 ∧ (∀ I1, I1 = am_u2 I (q + 24) (Int32.toNatClampNeg p1) p2 → (vp_in p1 5 ∧ (vp_in p1 5 ∧ (∀ I2, I2 = am_u2 I1 (q + 25) (Int32.toNatClampNeg p1) (I1 (q + 21) (Int32.toNatClampNeg p1)) → Q I2)))))
set_option maxRecDepth 20000 in
theorem tb_M_settles_50 {d : Nat}  {L : am_TL} {R : am_TR} {q : Nat} {p1 : Int32} {p2 : Int32} {Q : am_TI → Prop}  (hw : am_Wf R) (hq : am_SH[q]? = some (.inl 12)) (hd : 0 ≤ d) (I : am_TI) (h : wb_M_settles_50 L R q p1 p2 Q  I) : am_Wp (d, "UnseenRingModel", b_M_settles, 4, false) 0 0 50 [some (.ref q), some (.int p1), some (.int p2), none] [] (I, L, R, am_SH) (po_M_settles L R Q) := by
  unfold wb_M_settles_50 at h
  refine am_aload_n (n := 51) d_M_settles_50 rfl rfl ?_
  refine am_getR (x := (q + 24)) (n := 54) f_M_93 d_M_settles_51 rfl rfl hq (hw.1 q 12 41 24 hq rfl) ?_
  refine am_iload_n (n := 55) d_M_settles_54 rfl rfl ?_
  refine am_iload_n (n := 56) d_M_settles_55 rfl rfl ?_
  obtain ⟨g2, h⟩ := h
  refine am_iast2 (n := 57) d_M_settles_56 rfl (am_sho (k := 41) (o := 24) hq (by decide) (by decide) (by decide) rfl) g2 rfl ?_
  generalize eI1 : am_u2 I (q + 24) (Int32.toNatClampNeg p1) p2 = I1
  have h := h I1 eI1.symm
  refine am_aload_n (n := 58) d_M_settles_57 rfl rfl ?_
  refine am_getR (x := (q + 25)) (n := 61) f_M_96 d_M_settles_58 rfl rfl hq (hw.1 q 12 42 25 hq rfl) ?_
  refine am_iload_n (n := 62) d_M_settles_61 rfl rfl ?_
  refine am_aload_n (n := 63) d_M_settles_62 rfl rfl ?_
  refine am_getR (x := (q + 21)) (n := 66) f_M_84 d_M_settles_63 rfl rfl hq (hw.1 q 12 38 21 hq rfl) ?_
  refine am_iload_n (n := 67) d_M_settles_66 rfl rfl ?_
  obtain ⟨g3, h⟩ := h
  refine am_iald2 (n := 68) d_M_settles_67 rfl (am_sho (k := 38) (o := 21) hq (by decide) (by decide) (by decide) rfl) g3 rfl ?_
  obtain ⟨g4, h⟩ := h
  refine am_iast2 (n := 69) d_M_settles_68 rfl (am_sho (k := 42) (o := 25) hq (by decide) (by decide) (by decide) rfl) g4 rfl ?_
  generalize eI2 : am_u2 I1 (q + 25) (Int32.toNatClampNeg p1) (I1 (q + 21) (Int32.toNatClampNeg p1)) = I2
  have h := h I2 eI2.symm
  exact am_vret d_M_settles_69 ⟨I2, rfl, rfl, h⟩
def wb_M_settles_15 (L : am_TL) (R : am_TR) (q : Nat) (p1 : Int32) (p2 : Int32) (Q : am_TI → Prop)  (I : am_TI) (s0 : Bool) : Prop := ((s0 = false → (((p1 - p1 / 2 * 2) = 0 → (vp_in p1 5 ∧ (((I (q + 24) (Int32.toNatClampNeg p1)) < p2 → wb_M_settles_50 L R q p1 p2 Q I) ∧ (¬ (I (q + 24) (Int32.toNatClampNeg p1)) < p2 → Q I)))) ∧ (¬ (p1 - p1 / 2 * 2) = 0 → (vp_in p1 5 ∧ ((p2 < (I (q + 24) (Int32.toNatClampNeg p1)) → wb_M_settles_50 L R q p1 p2 Q I) ∧ (¬ p2 < (I (q + 24) (Int32.toNatClampNeg p1)) → Q I)))))) ∧ (s0 = true → wb_M_settles_50 L R q p1 p2 Q I))
set_option maxRecDepth 20000 in
theorem tb_M_settles_15 {d : Nat}  {L : am_TL} {R : am_TR} {q : Nat} {p1 : Int32} {p2 : Int32} {Q : am_TI → Prop}  (hw : am_Wf R) (hq : am_SH[q]? = some (.inl 12)) (hd : 0 ≤ d) (I : am_TI) (s0 : Bool) (h : wb_M_settles_15 L R q p1 p2 Q  I s0) : am_Wp (d, "UnseenRingModel", b_M_settles, 4, false) 0 0 15 [some (.ref q), some (.int p1), some (.int p2), none] [.int (am_b s0)] (I, L, R, am_SH) (po_M_settles L R Q) := by
  unfold wb_M_settles_15 at h
  refine am_istore_n (ls' := [some (.ref q), some (.int p1), some (.int p2), some (.int (am_b s0))]) (n := 16) d_M_settles_15 (by decide) rfl rfl ?_
  refine am_iload_n (n := 17) d_M_settles_16 rfl rfl ?_
  refine am_if_ne (y := 0) (tgt := 50) (n := 20) d_M_settles_17 rfl rfl (fun c2 => ?_) (fun c2 => ?_)
  · have h := h.2 (am_b_n0 c2)
    refine am_forget (ls' := [some (.ref q), some (.int p1), some (.int p2), none]) (am_le_s (am_le_s (am_le_s (am_le_n am_le_e)))) ?_
    exact tb_M_settles_50 hw hq hd I h
  · have h := h.1 (am_b_0 c2)
    refine am_iload_n (n := 21) d_M_settles_20 rfl rfl ?_
    refine am_iconst (n := 22) d_M_settles_21 ci_2 rfl ?_
    refine am_irem (n := 23) d_M_settles_22 (by decide) rfl ?_
    refine am_if_ne (y := 0) (tgt := 39) (n := 26) d_M_settles_23 rfl rfl (fun c3 => ?_) (fun c3 => ?_)
    · have h := h.2 c3
      refine am_iload_n (n := 40) d_M_settles_39 rfl rfl ?_
      refine am_aload_n (n := 41) d_M_settles_40 rfl rfl ?_
      refine am_getR (x := (q + 24)) (n := 44) f_M_93 d_M_settles_41 rfl rfl hq (hw.1 q 12 41 24 hq rfl) ?_
      refine am_iload_n (n := 45) d_M_settles_44 rfl rfl ?_
      obtain ⟨g5, h⟩ := h
      refine am_iald2 (n := 46) d_M_settles_45 rfl (am_sho (k := 41) (o := 24) hq (by decide) (by decide) (by decide) rfl) g5 rfl ?_
      refine am_icmp_lt (tgt := 50) (n := 49) d_M_settles_46 rfl rfl (fun c4 => ?_) (fun c4 => ?_)
      · have h := h.1 c4
        refine am_forget (ls' := [some (.ref q), some (.int p1), some (.int p2), none]) (am_le_s (am_le_s (am_le_s (am_le_n am_le_e)))) ?_
        exact tb_M_settles_50 hw hq hd I h
      · have h := h.2 c4
        exact am_vret d_M_settles_49 ⟨I, rfl, rfl, h⟩
    · have h := h.1 c3
      refine am_iload_n (n := 27) d_M_settles_26 rfl rfl ?_
      refine am_aload_n (n := 28) d_M_settles_27 rfl rfl ?_
      refine am_getR (x := (q + 24)) (n := 31) f_M_93 d_M_settles_28 rfl rfl hq (hw.1 q 12 41 24 hq rfl) ?_
      refine am_iload_n (n := 32) d_M_settles_31 rfl rfl ?_
      obtain ⟨g6, h⟩ := h
      refine am_iald2 (n := 33) d_M_settles_32 rfl (am_sho (k := 41) (o := 24) hq (by decide) (by decide) (by decide) rfl) g6 rfl ?_
      refine am_icmp_gt (tgt := 50) (n := 36) d_M_settles_33 rfl rfl (fun c5 => ?_) (fun c5 => ?_)
      · have h := h.1 c5
        refine am_forget (ls' := [some (.ref q), some (.int p1), some (.int p2), none]) (am_le_s (am_le_s (am_le_s (am_le_n am_le_e)))) ?_
        exact tb_M_settles_50 hw hq hd I h
      · have h := h.2 c5
        refine am_goto (tgt := 49) d_M_settles_36 rfl ?_
        exact am_vret d_M_settles_49 ⟨I, rfl, rfl, h⟩
def wp_M_settles (I : am_TI) (L : am_TL) (R : am_TR) (q : Nat) (p1 : Int32) (p2 : Int32)  (Q : am_TI → Prop) : Prop := (vp_in p1 5 ∧ (((I (q + 25) (Int32.toNatClampNeg p1)) = (-1) → wb_M_settles_15 L R q p1 p2 Q I true) ∧ (¬ (I (q + 25) (Int32.toNatClampNeg p1)) = (-1) → wb_M_settles_15 L R q p1 p2 Q I false)))
set_option maxRecDepth 20000 in
theorem cm_M_settles {d : Nat} {I : am_TI} {L : am_TL} {R : am_TR}  (hw : am_Wf R)   {q : Nat} {p1 : Int32} {p2 : Int32} {Q : am_TI → Prop} (hd : 0 ≤ d) (hq : am_SH[q]? = some (.inl 12)) (h : wp_M_settles I L R q p1 p2  Q) : am_Cm d 0 0 y_M_settles b_M_settles 4 (none) [.ref q, .int p1, .int p2] (I, L, R, am_SH) (po_M_settles L R Q) := by
  refine am_Cm_of (ini := false) (by decide +kernel) (fun z => by cases z) (by simp [Value.category]) (fun r σ' z => by obtain ⟨_, rfl, -⟩ := z; rfl) ?_
  unfold wp_M_settles at h
  show am_Wp (d, "UnseenRingModel", b_M_settles, 4, false) 0 0 0 [some (.ref q), some (.int p1), some (.int p2), none] [] (I, L, R, am_SH) (po_M_settles L R Q)
  refine am_aload_n (n := 1) d_M_settles_0 rfl rfl ?_
  refine am_getR (x := (q + 25)) (n := 4) f_M_96 d_M_settles_1 rfl rfl hq (hw.1 q 12 42 25 hq rfl) ?_
  refine am_iload_n (n := 5) d_M_settles_4 rfl rfl ?_
  obtain ⟨g1, h⟩ := h
  refine am_iald2 (n := 6) d_M_settles_5 rfl (am_sho (k := 42) (o := 25) hq (by decide) (by decide) (by decide) rfl) g1 rfl ?_
  refine am_iconst (n := 7) d_M_settles_6 ci_m1 rfl ?_
  refine am_icmp_ne (tgt := 14) (n := 10) d_M_settles_7 rfl rfl (fun c1 => ?_) (fun c1 => ?_)
  · have h := h.2 c1
    refine am_iconst (n := 15) d_M_settles_14 ci_0 rfl ?_
    exact tb_M_settles_15 hw hq hd I false h
  · have h := h.1 c1
    refine am_iconst (n := 11) d_M_settles_10 ci_1 rfl ?_
    refine am_goto (tgt := 15) d_M_settles_11 rfl ?_
    exact tb_M_settles_15 hw hq hd I true h
abbrev po_M_playing (L : am_TL) (R : am_TR) (Q : Int32 → am_TI → Prop) : Option Value → am_St → Prop := fun r σ' => ∃ (x : Int32) (I' : am_TI), r = some (.int x) ∧ σ' = (I', L, R, am_SH) ∧ Q x I'
def wb_M_playing_169 (L : am_TL) (R : am_TR) (q : Nat) (p1 : Int32) (Q : Int32 → am_TI → Prop) (K15 : am_TI → Int32 → Prop) (I : am_TI) (v2 : Int32) (v5 : Int32) (s0 : Int32) (s1 : Int32) : Prop := (((v2 + 1) = p1 → wp_M_settles I L R q v2 v5 (fun (I5 : am_TI) => K15 I5 v2)) ∧ (¬ (v2 + 1) = p1 → wp_M_beginsAt I L R q (v2 + 1) v5 (s0 ||| s1) (fun (I4 : am_TI) => K15 I4 (v2 + 1))))
set_option maxRecDepth 20000 in
theorem tb_M_playing_169 {d : Nat}  {L : am_TL} {R : am_TR} {q : Nat} {p1 : Int32} {Q : Int32 → am_TI → Prop} {K15 : am_TI → Int32 → Prop} (hw : am_Wf R) (hq : am_SH[q]? = some (.inl 12)) (hK15 : ∀ (I : am_TI) (v2 : Int32), K15 I v2 → am_Wp (d, "UnseenRingModel", b_M_playing, 7, false) 0 0 15 [some (.ref q), some (.int p1), some (.int v2), none, none, none, none] [] (I, L, R, am_SH) (po_M_playing L R Q)) (hd : 2 ≤ d) (I : am_TI) (v2 : Int32) (v5 : Int32) (s0 : Int32) (s1 : Int32) (h : wb_M_playing_169 L R q p1 Q K15 I v2 v5 s0 s1) : am_Wp (d, "UnseenRingModel", b_M_playing, 7, false) 0 0 169 [some (.ref q), some (.int p1), some (.int v2), none, none, some (.int v5), none] [.int s1, .int s0] (I, L, R, am_SH) (po_M_playing L R Q) := by
  unfold wb_M_playing_169 at h
  refine am_ior (n := 170) d_M_playing_169 rfl ?_
  refine am_istore (ls' := [some (.ref q), some (.int p1), some (.int v2), none, none, some (.int v5), some (.int (s0 ||| s1))]) (n := 172) d_M_playing_170 (by decide) rfl rfl ?_
  refine am_iload_n (n := 173) d_M_playing_172 rfl rfl ?_
  refine am_iconst (n := 174) d_M_playing_173 ci_1 rfl ?_
  refine am_iadd (n := 175) d_M_playing_174 rfl ?_
  refine am_iload_n (n := 176) d_M_playing_175 rfl rfl ?_
  refine am_icmp_ne (tgt := 189) (n := 179) d_M_playing_176 rfl rfl (fun c7 => ?_) (fun c7 => ?_)
  · have h := h.2 c7
    refine am_iinc (v := v2 + 1) (ls' := [some (.ref q), some (.int p1), some (.int (v2 + 1)), none, none, some (.int v5), some (.int (s0 ||| s1))]) (n := 192) d_M_playing_189 rfl (congrArg _ ci_1) (by decide) rfl rfl ?_
    refine am_aload_n (n := 193) d_M_playing_192 rfl rfl ?_
    refine am_iload_n (n := 194) d_M_playing_193 rfl rfl ?_
    refine am_iload (n := 196) d_M_playing_194 rfl rfl ?_
    refine am_iload (n := 198) d_M_playing_196 rfl rfl ?_
    refine am_callV (kc := 0) (ks := 0) (As := [.int (v2 + 1), .int v5, .int (s0 ||| s1)]) (n := 201) d_M_playing_198 rfl ce_M_beginsAt lk_M_467 in_M_beginsAt rfl rfl hq rfl rfl (Nat.le_of_ble_eq_true rfl) (Or.inl rfl) (cm_M_beginsAt (d := d - 1) hw (by omega) hq h) (by omega) ?_
    rintro _ _ ⟨I4, rfl, rfl, h⟩
    show am_Wp (d, "UnseenRingModel", b_M_playing, 7, false) 0 0 201 [some (.ref q), some (.int p1), some (.int (v2 + 1)), none, none, some (.int v5), some (.int (s0 ||| s1))] [] (I4, L, R, am_SH) (po_M_playing L R Q)
    refine am_goto (tgt := 15) d_M_playing_201 rfl ?_
    refine am_forget (ls' := [some (.ref q), some (.int p1), some (.int (v2 + 1)), none, none, none, none]) (am_le_s (am_le_s (am_le_s (am_le_n (am_le_n (am_le_n (am_le_n am_le_e))))))) ?_
    exact hK15 I4 (v2 + 1)  h
  · have h := h.1 c7
    refine am_aload_n (n := 180) d_M_playing_179 rfl rfl ?_
    refine am_iload_n (n := 181) d_M_playing_180 rfl rfl ?_
    refine am_iload (n := 183) d_M_playing_181 rfl rfl ?_
    refine am_callV (kc := 0) (ks := 0) (As := [.int v2, .int v5]) (n := 186) d_M_playing_183 rfl ce_M_settles lk_M_471 in_M_settles rfl rfl hq rfl rfl (Nat.le_of_ble_eq_true rfl) (Or.inl rfl) (cm_M_settles (d := d - 1) hw (by omega) hq h) (by omega) ?_
    rintro _ _ ⟨I5, rfl, rfl, h⟩
    show am_Wp (d, "UnseenRingModel", b_M_playing, 7, false) 0 0 186 [some (.ref q), some (.int p1), some (.int v2), none, none, some (.int v5), some (.int (s0 ||| s1))] [] (I5, L, R, am_SH) (po_M_playing L R Q)
    refine am_goto (tgt := 201) d_M_playing_186 rfl ?_
    refine am_goto (tgt := 15) d_M_playing_201 rfl ?_
    refine am_forget (ls' := [some (.ref q), some (.int p1), some (.int v2), none, none, none, none]) (am_le_s (am_le_s (am_le_s (am_le_n (am_le_n (am_le_n (am_le_n am_le_e))))))) ?_
    exact hK15 I5 v2  h
def wb_M_playing_168 (L : am_TL) (R : am_TR) (q : Nat) (p1 : Int32) (Q : Int32 → am_TI → Prop) (K15 : am_TI → Int32 → Prop) (I : am_TI) (v2 : Int32) (v5 : Int32) (s0 : Int32) : Prop := wb_M_playing_169 L R q p1 Q K15 I v2 v5 s0 0
set_option maxRecDepth 20000 in
theorem tb_M_playing_168 {d : Nat}  {L : am_TL} {R : am_TR} {q : Nat} {p1 : Int32} {Q : Int32 → am_TI → Prop} {K15 : am_TI → Int32 → Prop} (hw : am_Wf R) (hq : am_SH[q]? = some (.inl 12)) (hK15 : ∀ (I : am_TI) (v2 : Int32), K15 I v2 → am_Wp (d, "UnseenRingModel", b_M_playing, 7, false) 0 0 15 [some (.ref q), some (.int p1), some (.int v2), none, none, none, none] [] (I, L, R, am_SH) (po_M_playing L R Q)) (hd : 2 ≤ d) (I : am_TI) (v2 : Int32) (v5 : Int32) (s0 : Int32) (h : wb_M_playing_168 L R q p1 Q K15 I v2 v5 s0) : am_Wp (d, "UnseenRingModel", b_M_playing, 7, false) 0 0 168 [some (.ref q), some (.int p1), some (.int v2), none, none, some (.int v5), none] [.int s0] (I, L, R, am_SH) (po_M_playing L R Q) := by
  unfold wb_M_playing_168 at h
  refine am_iconst (n := 169) d_M_playing_168 ci_0 rfl ?_
  exact tb_M_playing_169 hw hq hK15 hd I v2 v5 s0 0 h
def wb_M_playing_141 (L : am_TL) (R : am_TR) (q : Nat) (p1 : Int32) (Q : Int32 → am_TI → Prop) (K15 : am_TI → Int32 → Prop) (I : am_TI) (v2 : Int32) (v3 : Int32) (v4 : Bool) (s0 : Int32) (s1 : Int32) : Prop := (vp_in v2 5 ∧ ((v4 = false → wb_M_playing_168 L R q p1 Q K15 I v2 (s0 + s1) (I (q + 23) (Int32.toNatClampNeg v2))) ∧ (v4 = true → (((v2 - v2 / 2 * 2) = 1 → wb_M_playing_169 L R q p1 Q K15 I v2 (s0 + s1) (I (q + 23) (Int32.toNatClampNeg v2)) ((1 : Int32) <<< (v3 &&& 31))) ∧ (¬ (v2 - v2 / 2 * 2) = 1 → wb_M_playing_168 L R q p1 Q K15 I v2 (s0 + s1) (I (q + 23) (Int32.toNatClampNeg v2)))))))
set_option maxRecDepth 20000 in
theorem tb_M_playing_141 {d : Nat}  {L : am_TL} {R : am_TR} {q : Nat} {p1 : Int32} {Q : Int32 → am_TI → Prop} {K15 : am_TI → Int32 → Prop} (hw : am_Wf R) (hq : am_SH[q]? = some (.inl 12)) (hK15 : ∀ (I : am_TI) (v2 : Int32), K15 I v2 → am_Wp (d, "UnseenRingModel", b_M_playing, 7, false) 0 0 15 [some (.ref q), some (.int p1), some (.int v2), none, none, none, none] [] (I, L, R, am_SH) (po_M_playing L R Q)) (hd : 2 ≤ d) (I : am_TI) (v2 : Int32) (v3 : Int32) (v4 : Bool) (s0 : Int32) (s1 : Int32) (h : wb_M_playing_141 L R q p1 Q K15 I v2 v3 v4 s0 s1) : am_Wp (d, "UnseenRingModel", b_M_playing, 7, false) 0 0 141 [some (.ref q), some (.int p1), some (.int v2), some (.int v3), some (.int (am_b v4)), none, none] [.int s1, .int s0] (I, L, R, am_SH) (po_M_playing L R Q) := by
  unfold wb_M_playing_141 at h
  refine am_iadd (n := 142) d_M_playing_141 rfl ?_
  refine am_istore (ls' := [some (.ref q), some (.int p1), some (.int v2), some (.int v3), some (.int (am_b v4)), some (.int (s0 + s1)), none]) (n := 144) d_M_playing_142 (by decide) rfl rfl ?_
  refine am_aload_n (n := 145) d_M_playing_144 rfl rfl ?_
  refine am_getR (x := (q + 23)) (n := 148) f_M_90 d_M_playing_145 rfl rfl hq (hw.1 q 12 40 23 hq rfl) ?_
  refine am_iload_n (n := 149) d_M_playing_148 rfl rfl ?_
  obtain ⟨g5, h⟩ := h
  refine am_iald2 (n := 150) d_M_playing_149 rfl (am_sho (k := 40) (o := 23) hq (by decide) (by decide) (by decide) rfl) g5 rfl ?_
  refine am_iload (n := 152) d_M_playing_150 rfl rfl ?_
  refine am_if_eq (y := 0) (tgt := 168) (n := 155) d_M_playing_152 rfl rfl (fun c6 => ?_) (fun c6 => ?_)
  · have h := h.1 (am_b_0 c6)
    refine am_forget (ls' := [some (.ref q), some (.int p1), some (.int v2), none, none, some (.int (s0 + s1)), none]) (am_le_s (am_le_s (am_le_s (am_le_n (am_le_n (am_le_s (am_le_n am_le_e))))))) ?_
    exact tb_M_playing_168 hw hq hK15 hd I v2 (s0 + s1) (I (q + 23) (Int32.toNatClampNeg v2)) h
  · have h := h.2 (am_b_n0 c6)
    refine am_iload_n (n := 156) d_M_playing_155 rfl rfl ?_
    refine am_iconst (n := 157) d_M_playing_156 ci_2 rfl ?_
    refine am_irem (n := 158) d_M_playing_157 (by decide) rfl ?_
    refine am_iconst (n := 159) d_M_playing_158 ci_1 rfl ?_
    refine am_icmp_ne (tgt := 168) (n := 162) d_M_playing_159 rfl rfl (fun c8 => ?_) (fun c8 => ?_)
    · have h := h.2 c8
      refine am_forget (ls' := [some (.ref q), some (.int p1), some (.int v2), none, none, some (.int (s0 + s1)), none]) (am_le_s (am_le_s (am_le_s (am_le_n (am_le_n (am_le_s (am_le_n am_le_e))))))) ?_
      exact tb_M_playing_168 hw hq hK15 hd I v2 (s0 + s1) (I (q + 23) (Int32.toNatClampNeg v2)) h
    · have h := h.1 c8
      refine am_iconst (n := 163) d_M_playing_162 ci_1 rfl ?_
      refine am_iload_n (n := 164) d_M_playing_163 rfl rfl ?_
      refine am_ishl (n := 165) d_M_playing_164 rfl ?_
      refine am_goto (tgt := 169) d_M_playing_165 rfl ?_
      refine am_forget (ls' := [some (.ref q), some (.int p1), some (.int v2), none, none, some (.int (s0 + s1)), none]) (am_le_s (am_le_s (am_le_s (am_le_n (am_le_n (am_le_s (am_le_n am_le_e))))))) ?_
      exact tb_M_playing_169 hw hq hK15 hd I v2 (s0 + s1) (I (q + 23) (Int32.toNatClampNeg v2)) ((1 : Int32) <<< (v3 &&& 31)) h
def wb_M_playing_140 (L : am_TL) (R : am_TR) (q : Nat) (p1 : Int32) (Q : Int32 → am_TI → Prop) (K15 : am_TI → Int32 → Prop) (I : am_TI) (v2 : Int32) (v3 : Int32) (v4 : Bool) (s0 : Int32) : Prop := wb_M_playing_141 L R q p1 Q K15 I v2 v3 v4 s0 0
set_option maxRecDepth 20000 in
theorem tb_M_playing_140 {d : Nat}  {L : am_TL} {R : am_TR} {q : Nat} {p1 : Int32} {Q : Int32 → am_TI → Prop} {K15 : am_TI → Int32 → Prop} (hw : am_Wf R) (hq : am_SH[q]? = some (.inl 12)) (hK15 : ∀ (I : am_TI) (v2 : Int32), K15 I v2 → am_Wp (d, "UnseenRingModel", b_M_playing, 7, false) 0 0 15 [some (.ref q), some (.int p1), some (.int v2), none, none, none, none] [] (I, L, R, am_SH) (po_M_playing L R Q)) (hd : 2 ≤ d) (I : am_TI) (v2 : Int32) (v3 : Int32) (v4 : Bool) (s0 : Int32) (h : wb_M_playing_140 L R q p1 Q K15 I v2 v3 v4 s0) : am_Wp (d, "UnseenRingModel", b_M_playing, 7, false) 0 0 140 [some (.ref q), some (.int p1), some (.int v2), some (.int v3), some (.int (am_b v4)), none, none] [.int s0] (I, L, R, am_SH) (po_M_playing L R Q) := by
  unfold wb_M_playing_140 at h
  refine am_iconst (n := 141) d_M_playing_140 ci_0 rfl ?_
  exact tb_M_playing_141 hw hq hK15 hd I v2 v3 v4 s0 0 h
def wb_M_playing_115 (L : am_TL) (R : am_TR) (q : Nat) (p1 : Int32) (Q : Int32 → am_TI → Prop) (K15 : am_TI → Int32 → Prop) (I : am_TI) (v2 : Int32) (v3 : Int32) (v4 : Bool) : Prop := (vp_in v2 5 ∧ ((v4 = false → wb_M_playing_140 L R q p1 Q K15 I v2 v3 v4 (I (q + 22) (Int32.toNatClampNeg v2))) ∧ (v4 = true → (((v2 - v2 / 2 * 2) = 0 → wp_M_plays I L R q v3 (fun (r2 : Int32) (I6 : am_TI) => wb_M_playing_141 L R q p1 Q K15 I6 v2 v3 v4 (I (q + 22) (Int32.toNatClampNeg v2)) r2)) ∧ (¬ (v2 - v2 / 2 * 2) = 0 → wb_M_playing_140 L R q p1 Q K15 I v2 v3 v4 (I (q + 22) (Int32.toNatClampNeg v2)))))))
set_option maxRecDepth 20000 in
theorem tb_M_playing_115 {d : Nat}  {L : am_TL} {R : am_TR} {q : Nat} {p1 : Int32} {Q : Int32 → am_TI → Prop} {K15 : am_TI → Int32 → Prop} (hw : am_Wf R) (hq : am_SH[q]? = some (.inl 12)) (hK15 : ∀ (I : am_TI) (v2 : Int32), K15 I v2 → am_Wp (d, "UnseenRingModel", b_M_playing, 7, false) 0 0 15 [some (.ref q), some (.int p1), some (.int v2), none, none, none, none] [] (I, L, R, am_SH) (po_M_playing L R Q)) (hd : 2 ≤ d) (I : am_TI) (v2 : Int32) (v3 : Int32) (v4 : Bool) (h : wb_M_playing_115 L R q p1 Q K15 I v2 v3 v4) : am_Wp (d, "UnseenRingModel", b_M_playing, 7, false) 0 0 115 [some (.ref q), some (.int p1), some (.int v2), some (.int v3), some (.int (am_b v4)), none, none] [] (I, L, R, am_SH) (po_M_playing L R Q) := by
  unfold wb_M_playing_115 at h
  refine am_aload_n (n := 116) d_M_playing_115 rfl rfl ?_
  refine am_getR (x := (q + 22)) (n := 119) f_M_87 d_M_playing_116 rfl rfl hq (hw.1 q 12 39 22 hq rfl) ?_
  refine am_iload_n (n := 120) d_M_playing_119 rfl rfl ?_
  obtain ⟨g4, h⟩ := h
  refine am_iald2 (n := 121) d_M_playing_120 rfl (am_sho (k := 39) (o := 22) hq (by decide) (by decide) (by decide) rfl) g4 rfl ?_
  refine am_iload (n := 123) d_M_playing_121 rfl rfl ?_
  refine am_if_eq (y := 0) (tgt := 140) (n := 126) d_M_playing_123 rfl rfl (fun c5 => ?_) (fun c5 => ?_)
  · have h := h.1 (am_b_0 c5)
    exact tb_M_playing_140 hw hq hK15 hd I v2 v3 v4 (I (q + 22) (Int32.toNatClampNeg v2)) h
  · have h := h.2 (am_b_n0 c5)
    refine am_iload_n (n := 127) d_M_playing_126 rfl rfl ?_
    refine am_iconst (n := 128) d_M_playing_127 ci_2 rfl ?_
    refine am_irem (n := 129) d_M_playing_128 (by decide) rfl ?_
    refine am_if_ne (y := 0) (tgt := 140) (n := 132) d_M_playing_129 rfl rfl (fun c9 => ?_) (fun c9 => ?_)
    · have h := h.2 c9
      exact tb_M_playing_140 hw hq hK15 hd I v2 v3 v4 (I (q + 22) (Int32.toNatClampNeg v2)) h
    · have h := h.1 c9
      refine am_aload_n (n := 133) d_M_playing_132 rfl rfl ?_
      refine am_iload_n (n := 134) d_M_playing_133 rfl rfl ?_
      refine am_callV (kc := 0) (ks := 0) (As := [.int v3]) (n := 137) d_M_playing_134 rfl ce_M_plays lk_M_349 in_M_plays rfl rfl hq rfl rfl (Nat.le_of_ble_eq_true rfl) (Or.inl rfl) (cm_M_plays (d := d - 1) hw (by omega) hq h) (by omega) ?_
      rintro _ _ ⟨r2, I6, rfl, rfl, h⟩
      show am_Wp (d, "UnseenRingModel", b_M_playing, 7, false) 0 0 137 [some (.ref q), some (.int p1), some (.int v2), some (.int v3), some (.int (am_b v4)), none, none] [.int r2, .int (I (q + 22) (Int32.toNatClampNeg v2))] (I6, L, R, am_SH) (po_M_playing L R Q)
      refine am_goto (tgt := 141) d_M_playing_137 rfl ?_
      exact tb_M_playing_141 hw hq hK15 hd I6 v2 v3 v4 (I (q + 22) (Int32.toNatClampNeg v2)) r2 h
def wb_M_playing_91 (L : am_TL) (R : am_TR) (q : Nat) (p1 : Int32) (Q : Int32 → am_TI → Prop) (K15 : am_TI → Int32 → Prop) (I : am_TI) (v2 : Int32) (v3 : Int32) (s0 : Bool) : Prop := ((s0 = false → wb_M_playing_115 L R q p1 Q K15 I v2 v3 s0) ∧ (s0 = true → (vp_in v2 5 ∧ wp_M_isIn I L R q (I (q + 23) (Int32.toNatClampNeg v2)) v3 (fun (r3 : Bool) => ((r3 = false → wb_M_playing_115 L R q p1 Q K15 I v2 v3 s0) ∧ (r3 = true → K15 I v2))))))
set_option maxRecDepth 20000 in
theorem tb_M_playing_91 {d : Nat}  {L : am_TL} {R : am_TR} {q : Nat} {p1 : Int32} {Q : Int32 → am_TI → Prop} {K15 : am_TI → Int32 → Prop} (hw : am_Wf R) (hq : am_SH[q]? = some (.inl 12)) (hK15 : ∀ (I : am_TI) (v2 : Int32), K15 I v2 → am_Wp (d, "UnseenRingModel", b_M_playing, 7, false) 0 0 15 [some (.ref q), some (.int p1), some (.int v2), none, none, none, none] [] (I, L, R, am_SH) (po_M_playing L R Q)) (hd : 2 ≤ d) (I : am_TI) (v2 : Int32) (v3 : Int32) (s0 : Bool) (h : wb_M_playing_91 L R q p1 Q K15 I v2 v3 s0) : am_Wp (d, "UnseenRingModel", b_M_playing, 7, false) 0 0 91 [some (.ref q), some (.int p1), some (.int v2), some (.int v3), none, none, none] [.int (am_b s0)] (I, L, R, am_SH) (po_M_playing L R Q) := by
  unfold wb_M_playing_91 at h
  refine am_istore (ls' := [some (.ref q), some (.int p1), some (.int v2), some (.int v3), some (.int (am_b s0)), none, none]) (n := 93) d_M_playing_91 (by decide) rfl rfl ?_
  refine am_iload (n := 95) d_M_playing_93 rfl rfl ?_
  refine am_if_eq (y := 0) (tgt := 115) (n := 98) d_M_playing_95 rfl rfl (fun c4 => ?_) (fun c4 => ?_)
  · have h := h.1 (am_b_0 c4)
    exact tb_M_playing_115 hw hq hK15 hd I v2 v3 s0 h
  · have h := h.2 (am_b_n0 c4)
    refine am_aload_n (n := 99) d_M_playing_98 rfl rfl ?_
    refine am_aload_n (n := 100) d_M_playing_99 rfl rfl ?_
    refine am_getR (x := (q + 23)) (n := 103) f_M_90 d_M_playing_100 rfl rfl hq (hw.1 q 12 40 23 hq rfl) ?_
    refine am_iload_n (n := 104) d_M_playing_103 rfl rfl ?_
    obtain ⟨g6, h⟩ := h
    refine am_iald2 (n := 105) d_M_playing_104 rfl (am_sho (k := 40) (o := 23) hq (by decide) (by decide) (by decide) rfl) g6 rfl ?_
    refine am_iload_n (n := 106) d_M_playing_105 rfl rfl ?_
    refine am_callV (kc := 0) (ks := 0) (As := [.int (I (q + 23) (Int32.toNatClampNeg v2)), .int v3]) (n := 109) d_M_playing_106 rfl ce_M_isIn lk_M_251 in_M_isIn rfl rfl hq rfl rfl (Nat.le_of_ble_eq_true rfl) (Or.inl rfl) (cm_M_isIn (d := d - 1) hw (by omega) hq h) (by omega) ?_
    rintro _ _ ⟨r3, rfl, rfl, h⟩
    show am_Wp (d, "UnseenRingModel", b_M_playing, 7, false) 0 0 109 [some (.ref q), some (.int p1), some (.int v2), some (.int v3), some (.int (am_b s0)), none, none] [.int (am_b r3)] (I, L, R, am_SH) (po_M_playing L R Q)
    refine am_if_eq (y := 0) (tgt := 115) (n := 112) d_M_playing_109 rfl rfl (fun c10 => ?_) (fun c10 => ?_)
    · have h := h.1 (am_b_0 c10)
      exact tb_M_playing_115 hw hq hK15 hd I v2 v3 s0 h
    · have h := h.2 (am_b_n0 c10)
      refine am_goto (tgt := 15) d_M_playing_112 rfl ?_
      refine am_forget (ls' := [some (.ref q), some (.int p1), some (.int v2), none, none, none, none]) (am_le_s (am_le_s (am_le_s (am_le_n (am_le_n (am_le_n (am_le_n am_le_e))))))) ?_
      exact hK15 I v2  h
def wl_M_playing_15 (L : am_TL) (R : am_TR) (q : Nat) (p1 : Int32) (Q : Int32 → am_TI → Prop)  : Nat → am_TI → Int32 → Prop
  | 0 => fun _ _ => False
  | f15 + 1 => fun I v2 => wp_M_levelAt I L R v2 (fun (r1 : Int32) => wp_M_restores I L R q r1 (fun (I2 : am_TI) => (vp_in v2 5 ∧ (vp_in v2 5 ∧ (∀ I3, I3 = am_u2 I2 (q + 21) (Int32.toNatClampNeg v2) ((I2 (q + 21) (Int32.toNatClampNeg v2)) + 1) → (vp_in v2 5 ∧ (((I3 (q + 21) (Int32.toNatClampNeg v2)) ≤ (I3 (q + 1) 2) → (((I3 (q + 1) 2) ≤ (I3 (q + 21) (Int32.toNatClampNeg v2)) → wb_M_playing_91 L R q p1 Q (wl_M_playing_15 L R q p1 Q f15) I3 v2 (I3 (q + 21) (Int32.toNatClampNeg v2)) false) ∧ (¬ (I3 (q + 1) 2) ≤ (I3 (q + 21) (Int32.toNatClampNeg v2)) → wb_M_playing_91 L R q p1 Q (wl_M_playing_15 L R q p1 Q f15) I3 v2 (I3 (q + 21) (Int32.toNatClampNeg v2)) true))) ∧ (¬ (I3 (q + 21) (Int32.toNatClampNeg v2)) ≤ (I3 (q + 1) 2) → ((v2 = 0 → wp_M_levelAt I3 L R 0 (fun (r4 : Int32) => wp_M_restores I3 L R q r4 (fun (I8 : am_TI) => Q (I8 (q + 24) 0) I8))) ∧ (¬ v2 = 0 → (vp_in ((v2 + (-1)) + 1) 5 ∧ wp_M_settles I3 L R q (v2 + (-1)) (I3 (q + 24) (Int32.toNatClampNeg ((v2 + (-1)) + 1))) (fun (I7 : am_TI) => wl_M_playing_15 L R q p1 Q f15 I7 (v2 + (-1))))))))))))))
set_option maxRecDepth 20000 in
theorem tl_M_playing_15 {d : Nat}  {L : am_TL} {R : am_TR} {q : Nat} {p1 : Int32} {Q : Int32 → am_TI → Prop}  (hw : am_Wf R) (hq : am_SH[q]? = some (.inl 12)) (hd : 2 ≤ d) : ∀ (n : Nat) (I : am_TI) (v2 : Int32), wl_M_playing_15 L R q p1 Q  n I v2 → am_Wp (d, "UnseenRingModel", b_M_playing, 7, false) 0 0 15 [some (.ref q), some (.int p1), some (.int v2), none, none, none, none] [] (I, L, R, am_SH) (po_M_playing L R Q) := by
  intro n
  induction n with
  | zero => intro I v2 h; exact h.elim
  | succ n ih =>
    intro I v2 h
    unfold wl_M_playing_15 at h
    refine am_aload_n (n := 16) d_M_playing_15 rfl rfl ?_
    refine am_iload_n (n := 17) d_M_playing_16 rfl rfl ?_
    refine am_callS (kc := 0) (ks := 0) (As := [.int v2]) (n := 20) d_M_playing_17 rfl ce_M_levelAt lk_M_464 st_M_levelAt rfl rfl (Nat.le_of_ble_eq_true rfl) (Or.inl rfl) (cm_M_levelAt (d := d - 1) hw (by omega)  h) (by omega) ?_
    rintro _ _ ⟨r1, rfl, rfl, h⟩
    show am_Wp (d, "UnseenRingModel", b_M_playing, 7, false) 0 0 20 [some (.ref q), some (.int p1), some (.int v2), none, none, none, none] [.int r1, .ref q] (I, L, R, am_SH) (po_M_playing L R Q)
    refine am_callV (kc := 0) (ks := 0) (As := [.int r1]) (n := 23) d_M_playing_20 rfl ce_M_restores lk_M_377 in_M_restores rfl rfl hq rfl rfl (Nat.le_of_ble_eq_true rfl) (Or.inl rfl) (cm_M_restores (d := d - 1) hw (by omega) hq h) (by omega) ?_
    rintro _ _ ⟨I2, rfl, rfl, h⟩
    show am_Wp (d, "UnseenRingModel", b_M_playing, 7, false) 0 0 23 [some (.ref q), some (.int p1), some (.int v2), none, none, none, none] [] (I2, L, R, am_SH) (po_M_playing L R Q)
    refine am_aload_n (n := 24) d_M_playing_23 rfl rfl ?_
    refine am_getR (x := (q + 21)) (n := 27) f_M_84 d_M_playing_24 rfl rfl hq (hw.1 q 12 38 21 hq rfl) ?_
    refine am_iload_n (n := 28) d_M_playing_27 rfl rfl ?_
    refine am_dup2 (n := 29) d_M_playing_28 rfl rfl rfl ?_
    obtain ⟨g1, h⟩ := h
    refine am_iald2 (n := 30) d_M_playing_29 rfl (am_sho (k := 38) (o := 21) hq (by decide) (by decide) (by decide) rfl) g1 rfl ?_
    refine am_iconst (n := 31) d_M_playing_30 ci_1 rfl ?_
    refine am_iadd (n := 32) d_M_playing_31 rfl ?_
    obtain ⟨g2, h⟩ := h
    refine am_iast2 (n := 33) d_M_playing_32 rfl (am_sho (k := 38) (o := 21) hq (by decide) (by decide) (by decide) rfl) g2 rfl ?_
    generalize eI3 : am_u2 I2 (q + 21) (Int32.toNatClampNeg v2) ((I2 (q + 21) (Int32.toNatClampNeg v2)) + 1) = I3
    have h := h I3 eI3.symm
    refine am_aload_n (n := 34) d_M_playing_33 rfl rfl ?_
    refine am_getR (x := (q + 21)) (n := 37) f_M_84 d_M_playing_34 rfl rfl hq (hw.1 q 12 38 21 hq rfl) ?_
    refine am_iload_n (n := 38) d_M_playing_37 rfl rfl ?_
    obtain ⟨g3, h⟩ := h
    refine am_iald2 (n := 39) d_M_playing_38 rfl (am_sho (k := 38) (o := 21) hq (by decide) (by decide) (by decide) rfl) g3 rfl ?_
    refine am_istore_n (ls' := [some (.ref q), some (.int p1), some (.int v2), some (.int (I3 (q + 21) (Int32.toNatClampNeg v2))), none, none, none]) (n := 40) d_M_playing_39 (by decide) rfl rfl ?_
    refine am_iload_n (n := 41) d_M_playing_40 rfl rfl ?_
    refine am_aload_n (n := 42) d_M_playing_41 rfl rfl ?_
    refine am_getR (x := (q + 1)) (n := 45) f_M_7 d_M_playing_42 rfl rfl hq (hw.1 q 12 0 1 hq rfl) ?_
    refine am_iconst (n := 46) d_M_playing_45 ci_2 rfl ?_
    refine am_iald2 (n := 47) d_M_playing_46 rfl (am_sho (k := 0) (o := 1) hq (by decide) (by decide) (by decide) rfl) cx_2_2258 cn_2 ?_
    refine am_icmp_le (tgt := 76) (n := 50) d_M_playing_47 rfl rfl (fun c2 => ?_) (fun c2 => ?_)
    · have h := h.1 c2
      refine am_iload_n (n := 77) d_M_playing_76 rfl rfl ?_
      refine am_aload_n (n := 78) d_M_playing_77 rfl rfl ?_
      refine am_getR (x := (q + 1)) (n := 81) f_M_7 d_M_playing_78 rfl rfl hq (hw.1 q 12 0 1 hq rfl) ?_
      refine am_iconst (n := 82) d_M_playing_81 ci_2 rfl ?_
      refine am_iald2 (n := 83) d_M_playing_82 rfl (am_sho (k := 0) (o := 1) hq (by decide) (by decide) (by decide) rfl) cx_2_2258 cn_2 ?_
      refine am_icmp_ge (tgt := 90) (n := 86) d_M_playing_83 rfl rfl (fun c3 => ?_) (fun c3 => ?_)
      · have h := h.1 c3
        refine am_iconst (n := 91) d_M_playing_90 ci_0 rfl ?_
        exact tb_M_playing_91 hw hq ih hd I3 v2 (I3 (q + 21) (Int32.toNatClampNeg v2)) false h
      · have h := h.2 c3
        refine am_iconst (n := 87) d_M_playing_86 ci_1 rfl ?_
        refine am_goto (tgt := 91) d_M_playing_87 rfl ?_
        exact tb_M_playing_91 hw hq ih hd I3 v2 (I3 (q + 21) (Int32.toNatClampNeg v2)) true h
    · have h := h.2 c2
      refine am_iload_n (n := 51) d_M_playing_50 rfl rfl ?_
      refine am_if_ne (y := 0) (tgt := 57) (n := 54) d_M_playing_51 rfl rfl (fun c11 => ?_) (fun c11 => ?_)
      · have h := h.2 c11
        refine am_iinc (v := v2 + (-1)) (ls' := [some (.ref q), some (.int p1), some (.int (v2 + (-1))), some (.int (I3 (q + 21) (Int32.toNatClampNeg v2))), none, none, none]) (n := 60) d_M_playing_57 rfl (congrArg _ ci_m1) (by decide) rfl rfl ?_
        refine am_aload_n (n := 61) d_M_playing_60 rfl rfl ?_
        refine am_iload_n (n := 62) d_M_playing_61 rfl rfl ?_
        refine am_aload_n (n := 63) d_M_playing_62 rfl rfl ?_
        refine am_getR (x := (q + 24)) (n := 66) f_M_93 d_M_playing_63 rfl rfl hq (hw.1 q 12 41 24 hq rfl) ?_
        refine am_iload_n (n := 67) d_M_playing_66 rfl rfl ?_
        refine am_iconst (n := 68) d_M_playing_67 ci_1 rfl ?_
        refine am_iadd (n := 69) d_M_playing_68 rfl ?_
        obtain ⟨g7, h⟩ := h
        refine am_iald2 (n := 70) d_M_playing_69 rfl (am_sho (k := 41) (o := 24) hq (by decide) (by decide) (by decide) rfl) g7 rfl ?_
        refine am_callV (kc := 0) (ks := 0) (As := [.int (v2 + (-1)), .int (I3 (q + 24) (Int32.toNatClampNeg ((v2 + (-1)) + 1)))]) (n := 73) d_M_playing_70 rfl ce_M_settles lk_M_471 in_M_settles rfl rfl hq rfl rfl (Nat.le_of_ble_eq_true rfl) (Or.inl rfl) (cm_M_settles (d := d - 1) hw (by omega) hq h) (by omega) ?_
        rintro _ _ ⟨I7, rfl, rfl, h⟩
        show am_Wp (d, "UnseenRingModel", b_M_playing, 7, false) 0 0 73 [some (.ref q), some (.int p1), some (.int (v2 + (-1))), some (.int (I3 (q + 21) (Int32.toNatClampNeg v2))), none, none, none] [] (I7, L, R, am_SH) (po_M_playing L R Q)
        refine am_goto (tgt := 15) d_M_playing_73 rfl ?_
        refine am_forget (ls' := [some (.ref q), some (.int p1), some (.int (v2 + (-1))), none, none, none, none]) (am_le_s (am_le_s (am_le_s (am_le_n (am_le_n (am_le_n (am_le_n am_le_e))))))) ?_
        exact ih I7 (v2 + (-1))  h
      · have h := h.1 c11
        refine am_goto (tgt := 204) d_M_playing_54 rfl ?_
        refine am_aload_n (n := 205) d_M_playing_204 rfl rfl ?_
        refine am_iconst (n := 206) d_M_playing_205 ci_0 rfl ?_
        refine am_callS (kc := 0) (ks := 0) (As := [.int 0]) (n := 209) d_M_playing_206 rfl ce_M_levelAt lk_M_464 st_M_levelAt rfl rfl (Nat.le_of_ble_eq_true rfl) (Or.inl rfl) (cm_M_levelAt (d := d - 1) hw (by omega)  h) (by omega) ?_
        rintro _ _ ⟨r4, rfl, rfl, h⟩
        show am_Wp (d, "UnseenRingModel", b_M_playing, 7, false) 0 0 209 [some (.ref q), some (.int p1), some (.int v2), some (.int (I3 (q + 21) (Int32.toNatClampNeg v2))), none, none, none] [.int r4, .ref q] (I3, L, R, am_SH) (po_M_playing L R Q)
        refine am_callV (kc := 0) (ks := 0) (As := [.int r4]) (n := 212) d_M_playing_209 rfl ce_M_restores lk_M_377 in_M_restores rfl rfl hq rfl rfl (Nat.le_of_ble_eq_true rfl) (Or.inl rfl) (cm_M_restores (d := d - 1) hw (by omega) hq h) (by omega) ?_
        rintro _ _ ⟨I8, rfl, rfl, h⟩
        show am_Wp (d, "UnseenRingModel", b_M_playing, 7, false) 0 0 212 [some (.ref q), some (.int p1), some (.int v2), some (.int (I3 (q + 21) (Int32.toNatClampNeg v2))), none, none, none] [] (I8, L, R, am_SH) (po_M_playing L R Q)
        refine am_aload_n (n := 213) d_M_playing_212 rfl rfl ?_
        refine am_getR (x := (q + 24)) (n := 216) f_M_93 d_M_playing_213 rfl rfl hq (hw.1 q 12 41 24 hq rfl) ?_
        refine am_iconst (n := 217) d_M_playing_216 ci_0 rfl ?_
        refine am_iald2 (n := 218) d_M_playing_217 rfl (am_sho (k := 41) (o := 24) hq (by decide) (by decide) (by decide) rfl) cx_0_5 cn_0 ?_
        exact am_iret d_M_playing_218 ⟨(I8 (q + 24) 0), I8, rfl, rfl, h⟩
def wp_M_playing (I : am_TI) (L : am_TL) (R : am_TR) (q : Nat) (p1 : Int32)  (Q : Int32 → am_TI → Prop) : Prop := ((p1 = 0 → Q 0 I) ∧ (¬ p1 = 0 → wp_M_beginsAt I L R q 0 0 0 (fun (I1 : am_TI) => (∃ z, wl_M_playing_15 L R q p1 Q z I1 0))))
set_option maxRecDepth 20000 in
theorem cm_M_playing {d : Nat} {I : am_TI} {L : am_TL} {R : am_TR}  (hw : am_Wf R)   {q : Nat} {p1 : Int32} {Q : Int32 → am_TI → Prop} (hd : 2 ≤ d) (hq : am_SH[q]? = some (.inl 12)) (h : wp_M_playing I L R q p1  Q) : am_Cm d 0 0 y_M_playing b_M_playing 7 (some .int) [.ref q, .int p1] (I, L, R, am_SH) (po_M_playing L R Q) := by
  refine am_Cm_of (ini := false) (by decide +kernel) (fun z => by cases z) (by simp [Value.category]) (fun r σ' z => by obtain ⟨x, _, rfl, -⟩ := z; exact ⟨_, rfl, rfl⟩) ?_
  unfold wp_M_playing at h
  show am_Wp (d, "UnseenRingModel", b_M_playing, 7, false) 0 0 0 [some (.ref q), some (.int p1), none, none, none, none, none] [] (I, L, R, am_SH) (po_M_playing L R Q)
  refine am_iload_n (n := 1) d_M_playing_0 rfl rfl ?_
  refine am_if_ne (y := 0) (tgt := 6) (n := 4) d_M_playing_1 rfl rfl (fun c1 => ?_) (fun c1 => ?_)
  · have h := h.2 c1
    refine am_iconst (n := 7) d_M_playing_6 ci_0 rfl ?_
    refine am_istore_n (ls' := [some (.ref q), some (.int p1), some (.int 0), none, none, none, none]) (n := 8) d_M_playing_7 (by decide) rfl rfl ?_
    refine am_aload_n (n := 9) d_M_playing_8 rfl rfl ?_
    refine am_iconst (n := 10) d_M_playing_9 ci_0 rfl ?_
    refine am_iconst (n := 11) d_M_playing_10 ci_0 rfl ?_
    refine am_iconst (n := 12) d_M_playing_11 ci_0 rfl ?_
    refine am_callV (kc := 0) (ks := 0) (As := [.int 0, .int 0, .int 0]) (n := 15) d_M_playing_12 rfl ce_M_beginsAt lk_M_467 in_M_beginsAt rfl rfl hq rfl rfl (Nat.le_of_ble_eq_true rfl) (Or.inl rfl) (cm_M_beginsAt (d := d - 1) hw (by omega) hq h) (by omega) ?_
    rintro _ _ ⟨I1, rfl, rfl, h⟩
    show am_Wp (d, "UnseenRingModel", b_M_playing, 7, false) 0 0 15 [some (.ref q), some (.int p1), some (.int 0), none, none, none, none] [] (I1, L, R, am_SH) (po_M_playing L R Q)
    obtain ⟨n, h⟩ := h
    exact tl_M_playing_15 hw hq hd n I1 0 h
  · have h := h.1 c1
    refine am_iconst (n := 5) d_M_playing_4 ci_0 rfl ?_
    exact am_iret d_M_playing_5 ⟨0, I, rfl, rfl, h⟩
abbrev po_M_game (L : am_TL) (R : am_TR) (Q : Int32 → am_TI → Prop) : Option Value → am_St → Prop := fun r σ' => ∃ (x : Int32) (I' : am_TI), r = some (.int x) ∧ σ' = (I', L, R, am_SH) ∧ Q x I'
def wp_M_game (I : am_TI) (L : am_TL) (R : am_TR) (q : Nat) (p1 : Int32)  (Q : Int32 → am_TI → Prop) : Prop := wp_M_isFrom I L R (Int32.toInt64 p1) 0 4 (fun (r1 : Bool) => ((r1 = false → wp_M_refuse I L R q 1 (fun (r2 : Int32) (I1 : am_TI) => Q r2 I1)) ∧ (r1 = true → wp_M_playing I L R q p1 (fun (r3 : Int32) (I2 : am_TI) => wp_M_gives I2 L R q r3 (fun (r4 : Int32) (I3 : am_TI) => Q r4 I3)))))
set_option maxRecDepth 20000 in
theorem cm_M_game {d : Nat} {I : am_TI} {L : am_TL} {R : am_TR}  (hw : am_Wf R)   {q : Nat} {p1 : Int32} {Q : Int32 → am_TI → Prop} (hd : 3 ≤ d) (hq : am_SH[q]? = some (.inl 12)) (h : wp_M_game I L R q p1  Q) : am_Cm d 0 0 y_M_game b_M_game 2 (some .int) [.ref q, .int p1] (I, L, R, am_SH) (po_M_game L R Q) := by
  refine am_Cm_of (ini := false) (by decide +kernel) (fun z => by cases z) (by simp [Value.category]) (fun r σ' z => by obtain ⟨x, _, rfl, -⟩ := z; exact ⟨_, rfl, rfl⟩) ?_
  unfold wp_M_game at h
  show am_Wp (d, "UnseenRingModel", b_M_game, 2, false) 0 0 0 [some (.ref q), some (.int p1)] [] (I, L, R, am_SH) (po_M_game L R Q)
  refine am_iload_n (n := 1) d_M_game_0 rfl rfl ?_
  refine am_i2l (n := 2) d_M_game_1 rfl ?_
  refine am_lconst (v := 0) (n := 3) d_M_game_2 rfl rfl ?_
  refine am_ldc2 (n := 6) d_M_game_3 k_M_419 rfl ?_
  refine am_callS (kc := 0) (ks := 0) (As := [.long (Int32.toInt64 p1), .long 0, .long 4]) (n := 9) d_M_game_6 rfl ce_M_isFrom lk_M_306 st_M_isFrom rfl rfl (Nat.le_of_ble_eq_true rfl) (Or.inl rfl) (cm_M_isFrom (d := d - 1) hw (by omega)  h) (by omega) ?_
  rintro _ _ ⟨r1, rfl, rfl, h⟩
  show am_Wp (d, "UnseenRingModel", b_M_game, 2, false) 0 0 9 [some (.ref q), some (.int p1)] [.int (am_b r1)] (I, L, R, am_SH) (po_M_game L R Q)
  refine am_if_eq (y := 0) (tgt := 24) (n := 12) d_M_game_9 rfl rfl (fun c1 => ?_) (fun c1 => ?_)
  · have h := h.1 (am_b_0 c1)
    refine am_aload_n (n := 25) d_M_game_24 rfl rfl ?_
    refine am_iconst (n := 26) d_M_game_25 ci_1 rfl ?_
    refine am_callV (kc := 0) (ks := 0) (As := [.int 1]) (n := 29) d_M_game_26 rfl ce_M_refuse lk_M_121 in_M_refuse rfl rfl hq rfl rfl (Nat.le_of_ble_eq_true rfl) (Or.inl rfl) (cm_M_refuse (d := d - 1) hw (by omega) hq h) (by omega) ?_
    rintro _ _ ⟨r2, I1, rfl, rfl, h⟩
    show am_Wp (d, "UnseenRingModel", b_M_game, 2, false) 0 0 29 [some (.ref q), some (.int p1)] [.int r2] (I1, L, R, am_SH) (po_M_game L R Q)
    exact am_iret d_M_game_29 ⟨r2, I1, rfl, rfl, h⟩
  · have h := h.2 (am_b_n0 c1)
    refine am_aload_n (n := 13) d_M_game_12 rfl rfl ?_
    refine am_aload_n (n := 14) d_M_game_13 rfl rfl ?_
    refine am_iload_n (n := 15) d_M_game_14 rfl rfl ?_
    refine am_callV (kc := 0) (ks := 0) (As := [.int p1]) (n := 18) d_M_game_15 rfl ce_M_playing lk_M_474 in_M_playing rfl rfl hq rfl rfl (Nat.le_of_ble_eq_true rfl) (Or.inl rfl) (cm_M_playing (d := d - 1) hw (by omega) hq h) (by omega) ?_
    rintro _ _ ⟨r3, I2, rfl, rfl, h⟩
    show am_Wp (d, "UnseenRingModel", b_M_game, 2, false) 0 0 18 [some (.ref q), some (.int p1)] [.int r3, .ref q] (I2, L, R, am_SH) (po_M_game L R Q)
    refine am_callV (kc := 0) (ks := 0) (As := [.int r3]) (n := 21) d_M_game_18 rfl ce_M_gives lk_M_125 in_M_gives rfl rfl hq rfl rfl (Nat.le_of_ble_eq_true rfl) (Or.inl rfl) (cm_M_gives (d := d - 1) hw (by omega) hq h) (by omega) ?_
    rintro _ _ ⟨r4, I3, rfl, rfl, h⟩
    show am_Wp (d, "UnseenRingModel", b_M_game, 2, false) 0 0 21 [some (.ref q), some (.int p1)] [.int r4] (I3, L, R, am_SH) (po_M_game L R Q)
    refine am_goto (tgt := 29) d_M_game_21 rfl ?_
    exact am_iret d_M_game_29 ⟨r4, I3, rfl, rfl, h⟩
abbrev po_M_moveOf (L : am_TL) (R : am_TR) (Q : Int32 → am_TI → Prop) : Option Value → am_St → Prop := fun r σ' => ∃ (x : Int32) (I' : am_TI), r = some (.int x) ∧ σ' = (I', L, R, am_SH) ∧ Q x I'
def wp_M_moveOf (I : am_TI) (L : am_TL) (R : am_TR) (q : Nat) (p1 : Int32)  (Q : Int32 → am_TI → Prop) : Prop := wp_M_isFrom I L R (Int32.toInt64 p1) 1 4 (fun (r1 : Bool) => ((r1 = false → wp_M_refuse I L R q 1 (fun (r5 : Int32) (I4 : am_TI) => Q r5 I4)) ∧ (r1 = true → wp_M_playing I L R q p1 (fun (r2 : Int32) (I1 : am_TI) => (((I1 (q + 25) 0) = (I1 (q + 1) 2) → wp_M_refuse I1 L R q 6 (fun (r4 : Int32) (I3 : am_TI) => Q r4 I3)) ∧ (¬ (I1 (q + 25) 0) = (I1 (q + 1) 2) → wp_M_gives I1 L R q (I1 (q + 25) 0) (fun (r3 : Int32) (I2 : am_TI) => Q r3 I2)))))))
set_option maxRecDepth 20000 in
theorem cm_M_moveOf {d : Nat} {I : am_TI} {L : am_TL} {R : am_TR}  (hw : am_Wf R)   {q : Nat} {p1 : Int32} {Q : Int32 → am_TI → Prop} (hd : 3 ≤ d) (hq : am_SH[q]? = some (.inl 12)) (h : wp_M_moveOf I L R q p1  Q) : am_Cm d 0 0 y_M_moveOf b_M_moveOf 2 (some .int) [.ref q, .int p1] (I, L, R, am_SH) (po_M_moveOf L R Q) := by
  refine am_Cm_of (ini := false) (by decide +kernel) (fun z => by cases z) (by simp [Value.category]) (fun r σ' z => by obtain ⟨x, _, rfl, -⟩ := z; exact ⟨_, rfl, rfl⟩) ?_
  unfold wp_M_moveOf at h
  show am_Wp (d, "UnseenRingModel", b_M_moveOf, 2, false) 0 0 0 [some (.ref q), some (.int p1)] [] (I, L, R, am_SH) (po_M_moveOf L R Q)
  refine am_iload_n (n := 1) d_M_moveOf_0 rfl rfl ?_
  refine am_i2l (n := 2) d_M_moveOf_1 rfl ?_
  refine am_lconst (v := 1) (n := 3) d_M_moveOf_2 rfl rfl ?_
  refine am_ldc2 (n := 6) d_M_moveOf_3 k_M_419 rfl ?_
  refine am_callS (kc := 0) (ks := 0) (As := [.long (Int32.toInt64 p1), .long 1, .long 4]) (n := 9) d_M_moveOf_6 rfl ce_M_isFrom lk_M_306 st_M_isFrom rfl rfl (Nat.le_of_ble_eq_true rfl) (Or.inl rfl) (cm_M_isFrom (d := d - 1) hw (by omega)  h) (by omega) ?_
  rintro _ _ ⟨r1, rfl, rfl, h⟩
  show am_Wp (d, "UnseenRingModel", b_M_moveOf, 2, false) 0 0 9 [some (.ref q), some (.int p1)] [.int (am_b r1)] (I, L, R, am_SH) (po_M_moveOf L R Q)
  refine am_if_ne (y := 0) (tgt := 18) (n := 12) d_M_moveOf_9 rfl rfl (fun c1 => ?_) (fun c1 => ?_)
  · have h := h.2 (am_b_n0 c1)
    refine am_aload_n (n := 19) d_M_moveOf_18 rfl rfl ?_
    refine am_iload_n (n := 20) d_M_moveOf_19 rfl rfl ?_
    refine am_callV (kc := 0) (ks := 0) (As := [.int p1]) (n := 23) d_M_moveOf_20 rfl ce_M_playing lk_M_474 in_M_playing rfl rfl hq rfl rfl (Nat.le_of_ble_eq_true rfl) (Or.inl rfl) (cm_M_playing (d := d - 1) hw (by omega) hq h) (by omega) ?_
    rintro _ _ ⟨r2, I1, rfl, rfl, h⟩
    show am_Wp (d, "UnseenRingModel", b_M_moveOf, 2, false) 0 0 23 [some (.ref q), some (.int p1)] [.int r2] (I1, L, R, am_SH) (po_M_moveOf L R Q)
    refine am_pop (n := 24) d_M_moveOf_23 rfl rfl ?_
    refine am_aload_n (n := 25) d_M_moveOf_24 rfl rfl ?_
    refine am_getR (x := (q + 25)) (n := 28) f_M_96 d_M_moveOf_25 rfl rfl hq (hw.1 q 12 42 25 hq rfl) ?_
    refine am_iconst (n := 29) d_M_moveOf_28 ci_0 rfl ?_
    refine am_iald2 (n := 30) d_M_moveOf_29 rfl (am_sho (k := 42) (o := 25) hq (by decide) (by decide) (by decide) rfl) cx_0_5 cn_0 ?_
    refine am_aload_n (n := 31) d_M_moveOf_30 rfl rfl ?_
    refine am_getR (x := (q + 1)) (n := 34) f_M_7 d_M_moveOf_31 rfl rfl hq (hw.1 q 12 0 1 hq rfl) ?_
    refine am_iconst (n := 35) d_M_moveOf_34 ci_2 rfl ?_
    refine am_iald2 (n := 36) d_M_moveOf_35 rfl (am_sho (k := 0) (o := 1) hq (by decide) (by decide) (by decide) rfl) cx_2_2258 cn_2 ?_
    refine am_icmp_ne (tgt := 48) (n := 39) d_M_moveOf_36 rfl rfl (fun c2 => ?_) (fun c2 => ?_)
    · have h := h.2 c2
      refine am_aload_n (n := 49) d_M_moveOf_48 rfl rfl ?_
      refine am_aload_n (n := 50) d_M_moveOf_49 rfl rfl ?_
      refine am_getR (x := (q + 25)) (n := 53) f_M_96 d_M_moveOf_50 rfl rfl hq (hw.1 q 12 42 25 hq rfl) ?_
      refine am_iconst (n := 54) d_M_moveOf_53 ci_0 rfl ?_
      refine am_iald2 (n := 55) d_M_moveOf_54 rfl (am_sho (k := 42) (o := 25) hq (by decide) (by decide) (by decide) rfl) cx_0_5 cn_0 ?_
      refine am_callV (kc := 0) (ks := 0) (As := [.int (I1 (q + 25) 0)]) (n := 58) d_M_moveOf_55 rfl ce_M_gives lk_M_125 in_M_gives rfl rfl hq rfl rfl (Nat.le_of_ble_eq_true rfl) (Or.inl rfl) (cm_M_gives (d := d - 1) hw (by omega) hq h) (by omega) ?_
      rintro _ _ ⟨r3, I2, rfl, rfl, h⟩
      show am_Wp (d, "UnseenRingModel", b_M_moveOf, 2, false) 0 0 58 [some (.ref q), some (.int p1)] [.int r3] (I2, L, R, am_SH) (po_M_moveOf L R Q)
      exact am_iret d_M_moveOf_58 ⟨r3, I2, rfl, rfl, h⟩
    · have h := h.1 c2
      refine am_aload_n (n := 40) d_M_moveOf_39 rfl rfl ?_
      refine am_bipush (n := 42) d_M_moveOf_40 cb_6 rfl ?_
      refine am_callV (kc := 0) (ks := 0) (As := [.int 6]) (n := 45) d_M_moveOf_42 rfl ce_M_refuse lk_M_121 in_M_refuse rfl rfl hq rfl rfl (Nat.le_of_ble_eq_true rfl) (Or.inl rfl) (cm_M_refuse (d := d - 1) hw (by omega) hq h) (by omega) ?_
      rintro _ _ ⟨r4, I3, rfl, rfl, h⟩
      show am_Wp (d, "UnseenRingModel", b_M_moveOf, 2, false) 0 0 45 [some (.ref q), some (.int p1)] [.int r4] (I3, L, R, am_SH) (po_M_moveOf L R Q)
      refine am_goto (tgt := 58) d_M_moveOf_45 rfl ?_
      exact am_iret d_M_moveOf_58 ⟨r4, I3, rfl, rfl, h⟩
  · have h := h.1 (am_b_0 c1)
    refine am_aload_n (n := 13) d_M_moveOf_12 rfl rfl ?_
    refine am_iconst (n := 14) d_M_moveOf_13 ci_1 rfl ?_
    refine am_callV (kc := 0) (ks := 0) (As := [.int 1]) (n := 17) d_M_moveOf_14 rfl ce_M_refuse lk_M_121 in_M_refuse rfl rfl hq rfl rfl (Nat.le_of_ble_eq_true rfl) (Or.inl rfl) (cm_M_refuse (d := d - 1) hw (by omega) hq h) (by omega) ?_
    rintro _ _ ⟨r5, I4, rfl, rfl, h⟩
    show am_Wp (d, "UnseenRingModel", b_M_moveOf, 2, false) 0 0 17 [some (.ref q), some (.int p1)] [.int r5] (I4, L, R, am_SH) (po_M_moveOf L R Q)
    exact am_iret d_M_moveOf_17 ⟨r5, I4, rfl, rfl, h⟩
