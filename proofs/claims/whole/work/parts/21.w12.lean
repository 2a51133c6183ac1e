abbrev po_Rows_coinsCome (I : am_TI) (L : am_TL) (R : am_TR) (Q : Int32 → Prop) : Option Value → am_St → Prop := fun r σ' => ∃ (x : Int32), r = some (.int x) ∧ σ' = (I, L, R, am_SH) ∧ Q x
def wl_Rows_coinsCome_27 (I : am_TI) (L : am_TL) (R : am_TR) (q : Nat) (Q : Int32 → Prop) (K4 : Int32 → Int32 → Prop) : Nat → Int32 → Int32 → Int32 → Int32 → Prop
  | 0 => fun _ _ _ _ => False
  | f27 + 1 => fun v1 v2 v3 v4 => (((I q 5) ≤ v4 → ((R q 4 = some (am_rd R q 4) ∧ am_SH[(am_rd R q 4)]? = some (.inl 7)) ∧ (vp_in v2 6 ∧ (vp_in v2 6 ∧ K4 (v1 + (am_min (I ((am_rd R q 4) + 3) (Int32.toNatClampNeg v2)) (am_max 0 (v3 - (I (q + 2) (Int32.toNatClampNeg v2)))))) (v2 + 1))))) ∧ (¬ (I q 5) ≤ v4 → ((R q 4 = some (am_rd R q 4) ∧ am_SH[(am_rd R q 4)]? = some (.inl 7)) ∧ wp_Square_doesLike I L R (am_rd R q 4) v2 v4 (fun (r1 : Bool) => ((r1 = false → wl_Rows_coinsCome_27 I L R q Q K4 f27 v1 v2 v3 (v4 + 1)) ∧ (r1 = true → (vp_in v4 6 ∧ wl_Rows_coinsCome_27 I L R q Q K4 f27 v1 v2 (v3 + (I (q + 4) (Int32.toNatClampNeg v4))) (v4 + 1))))))))
set_option maxRecDepth 20000 in
theorem tl_Rows_coinsCome_27 {d : Nat}  {I : am_TI} {L : am_TL} {R : am_TR} {q : Nat} {Q : Int32 → Prop} {K4 : Int32 → Int32 → Prop} (hw : am_Wf R) (hq : am_SH[q]? = some (.inl 6)) (hK4 : ∀ (v1 : Int32) (v2 : Int32), K4 v1 v2 → am_Wp (d, "UnseenRing$Rows", b_Rows_coinsCome, 5, false) 0 0 4 [some (.ref q), some (.int v1), some (.int v2), none, none] [] (I, L, R, am_SH) (po_Rows_coinsCome I L R Q)) (hd : 1 ≤ d) : ∀ (n : Nat) (v1 : Int32) (v2 : Int32) (v3 : Int32) (v4 : Int32), wl_Rows_coinsCome_27 I L R q Q K4 n v1 v2 v3 v4 → am_Wp (d, "UnseenRing$Rows", b_Rows_coinsCome, 5, false) 0 0 27 [some (.ref q), some (.int v1), some (.int v2), some (.int v3), some (.int v4)] [] (I, L, R, am_SH) (po_Rows_coinsCome I L R Q) := by
  intro n
  induction n with
  | zero => intro v1 v2 v3 v4 h; exact h.elim
  | succ n ih =>
    intro v1 v2 v3 v4 h
    unfold wl_Rows_coinsCome_27 at h
    refine am_iload (n := 29) d_Rows_coinsCome_27 rfl rfl ?_
    refine am_aload_n (n := 30) d_Rows_coinsCome_29 rfl rfl ?_
    refine am_getI (n := 33) f_Rows_28 d_Rows_coinsCome_30 rfl rfl hq ?_
    refine am_icmp_ge (tgt := 65) (n := 36) d_Rows_coinsCome_33 rfl rfl (fun c2 => ?_) (fun c2 => ?_)
    · have h := h.1 c2
      refine am_iload_n (n := 66) d_Rows_coinsCome_65 rfl rfl ?_
      refine am_aload_n (n := 67) d_Rows_coinsCome_66 rfl rfl ?_
      obtain ⟨g3, h⟩ := h
      refine am_getR (x := (am_rd R q 4)) (n := 70) f_Rows_24 d_Rows_coinsCome_67 rfl rfl hq g3.1 ?_
      refine am_getR (x := ((am_rd R q 4) + 3)) (n := 73) f_Rows_90 d_Rows_coinsCome_70 rfl rfl g3.2 (hw.1 (am_rd R q 4) 7 2 3 g3.2 rfl) ?_
      refine am_iload_n (n := 74) d_Rows_coinsCome_73 rfl rfl ?_
      obtain ⟨g4, h⟩ := h
      refine am_iald2 (n := 75) d_Rows_coinsCome_74 rfl (am_sho (k := 2) (o := 3) g3.2 (by decide) (by decide) (by decide) rfl) g4 rfl ?_
      refine am_iconst (n := 76) d_Rows_coinsCome_75 ci_0 rfl ?_
      refine am_iload_n (n := 77) d_Rows_coinsCome_76 rfl rfl ?_
      refine am_aload_n (n := 78) d_Rows_coinsCome_77 rfl rfl ?_
      refine am_getR (x := (q + 2)) (n := 81) f_Rows_15 d_Rows_coinsCome_78 rfl rfl hq (hw.1 q 6 1 2 hq rfl) ?_
      refine am_iload_n (n := 82) d_Rows_coinsCome_81 rfl rfl ?_
      obtain ⟨g5, h⟩ := h
      refine am_iald2 (n := 83) d_Rows_coinsCome_82 rfl (am_sho (k := 1) (o := 2) hq (by decide) (by decide) (by decide) rfl) g5 rfl ?_
      refine am_isub (n := 84) d_Rows_coinsCome_83 rfl ?_
      refine am_mmax2 (n := 87) d_Rows_coinsCome_84 rfl lm_Rows_83 (Nat.le_of_ble_eq_true rfl) (by omega) ?_
      refine am_mmin2 (n := 90) d_Rows_coinsCome_87 rfl lm_Rows_59 (Nat.le_of_ble_eq_true rfl) (by omega) ?_
      refine am_iadd (n := 91) d_Rows_coinsCome_90 rfl ?_
      refine am_istore_n (ls' := [some (.ref q), some (.int (v1 + (am_min (I ((am_rd R q 4) + 3) (Int32.toNatClampNeg v2)) (am_max 0 (v3 - (I (q + 2) (Int32.toNatClampNeg v2))))))), some (.int v2), some (.int v3), some (.int v4)]) (n := 92) d_Rows_coinsCome_91 (by decide) rfl rfl ?_
      refine am_iinc (v := v2 + 1) (ls' := [some (.ref q), some (.int (v1 + (am_min (I ((am_rd R q 4) + 3) (Int32.toNatClampNeg v2)) (am_max 0 (v3 - (I (q + 2) (Int32.toNatClampNeg v2))))))), some (.int (v2 + 1)), some (.int v3), some (.int v4)]) (n := 95) d_Rows_coinsCome_92 rfl (congrArg _ ci_1) (by decide) rfl rfl ?_
      refine am_goto (tgt := 4) d_Rows_coinsCome_95 rfl ?_
      refine am_forget (ls' := [some (.ref q), some (.int (v1 + (am_min (I ((am_rd R q 4) + 3) (Int32.toNatClampNeg v2)) (am_max 0 (v3 - (I (q + 2) (Int32.toNatClampNeg v2))))))), some (.int (v2 + 1)), none, none]) (am_le_s (am_le_s (am_le_s (am_le_n (am_le_n am_le_e))))) ?_
      exact hK4 (v1 + (am_min (I ((am_rd R q 4) + 3) (Int32.toNatClampNeg v2)) (am_max 0 (v3 - (I (q + 2) (Int32.toNatClampNeg v2)))))) (v2 + 1)  h
    · have h := h.2 c2
      refine am_aload_n (n := 37) d_Rows_coinsCome_36 rfl rfl ?_
      obtain ⟨g6, h⟩ := h
      refine am_getR (x := (am_rd R q 4)) (n := 40) f_Rows_24 d_Rows_coinsCome_37 rfl rfl hq g6.1 ?_
      refine am_iload_n (n := 41) d_Rows_coinsCome_40 rfl rfl ?_
      refine am_iload (n := 43) d_Rows_coinsCome_41 rfl rfl ?_
      refine am_callV (kc := 0) (ks := 0) (As := [.int v2, .int v4]) (n := 46) d_Rows_coinsCome_43 rfl ce_Square_doesLike lk_Rows_86 in_Square_doesLike rfl rfl g6.2 rfl rfl (Nat.le_of_ble_eq_true rfl) (Or.inl rfl) (cm_Square_doesLike (d := d - 1) hw (by omega) g6.2 h) (by omega) ?_
      rintro _ _ ⟨r1, rfl, rfl, h⟩
      show am_Wp (d, "UnseenRing$Rows", b_Rows_coinsCome, 5, false) 0 0 46 [some (.ref q), some (.int v1), some (.int v2), some (.int v3), some (.int v4)] [.int (am_b r1)] (I, L, R, am_SH) (po_Rows_coinsCome I L R Q)
      refine am_if_eq (y := 0) (tgt := 59) (n := 49) d_Rows_coinsCome_46 rfl rfl (fun c3 => ?_) (fun c3 => ?_)
      · have h := h.1 (am_b_0 c3)
        refine am_iinc (v := v4 + 1) (ls' := [some (.ref q), some (.int v1), some (.int v2), some (.int v3), some (.int (v4 + 1))]) (n := 62) d_Rows_coinsCome_59 rfl (congrArg _ ci_1) (by decide) rfl rfl ?_
        refine am_goto (tgt := 27) d_Rows_coinsCome_62 rfl ?_
        exact ih v1 v2 v3 (v4 + 1)  h
      · have h := h.2 (am_b_n0 c3)
        refine am_iload_n (n := 50) d_Rows_coinsCome_49 rfl rfl ?_
        refine am_aload_n (n := 51) d_Rows_coinsCome_50 rfl rfl ?_
        refine am_getR (x := (q + 4)) (n := 54) f_Rows_21 d_Rows_coinsCome_51 rfl rfl hq (hw.1 q 6 3 4 hq rfl) ?_
        refine am_iload (n := 56) d_Rows_coinsCome_54 rfl rfl ?_
        obtain ⟨g7, h⟩ := h
        refine am_iald2 (n := 57) d_Rows_coinsCome_56 rfl (am_sho (k := 3) (o := 4) hq (by decide) (by decide) (by decide) rfl) g7 rfl ?_
        refine am_iadd (n := 58) d_Rows_coinsCome_57 rfl ?_
        refine am_istore_n (ls' := [some (.ref q), some (.int v1), some (.int v2), some (.int (v3 + (I (q + 4) (Int32.toNatClampNeg v4)))), some (.int v4)]) (n := 59) d_Rows_coinsCome_58 (by decide) rfl rfl ?_
        refine am_iinc (v := v4 + 1) (ls' := [some (.ref q), some (.int v1), some (.int v2), some (.int (v3 + (I (q + 4) (Int32.toNatClampNeg v4)))), some (.int (v4 + 1))]) (n := 62) d_Rows_coinsCome_59 rfl (congrArg _ ci_1) (by decide) rfl rfl ?_
        refine am_goto (tgt := 27) d_Rows_coinsCome_62 rfl ?_
        exact ih v1 v2 (v3 + (I (q + 4) (Int32.toNatClampNeg v4))) (v4 + 1)  h
def wl_Rows_coinsCome_4 (I : am_TI) (L : am_TL) (R : am_TR) (q : Nat) (Q : Int32 → Prop)  : Nat → Int32 → Int32 → Prop
  | 0 => fun _ _ => False
  | f4 + 1 => fun v1 v2 => ((R q 4 = some (am_rd R q 4) ∧ am_SH[(am_rd R q 4)]? = some (.inl 7)) ∧ ((R q 4 = some (am_rd R q 4) ∧ am_SH[(am_rd R q 4)]? = some (.inl 7)) ∧ (((I (am_rd R q 4) 11) ≤ v2 → Q v1) ∧ (¬ (I (am_rd R q 4) 11) ≤ v2 → (∃ z, wl_Rows_coinsCome_27 I L R q Q (wl_Rows_coinsCome_4 I L R q Q f4) z v1 v2 0 0)))))
set_option maxRecDepth 20000 in
theorem tl_Rows_coinsCome_4 {d : Nat}  {I : am_TI} {L : am_TL} {R : am_TR} {q : Nat} {Q : Int32 → Prop}  (hw : am_Wf R) (hq : am_SH[q]? = some (.inl 6)) (hd : 1 ≤ d) : ∀ (n : Nat) (v1 : Int32) (v2 : Int32), wl_Rows_coinsCome_4 I L R q Q  n v1 v2 → am_Wp (d, "UnseenRing$Rows", b_Rows_coinsCome, 5, false) 0 0 4 [some (.ref q), some (.int v1), some (.int v2), none, none] [] (I, L, R, am_SH) (po_Rows_coinsCome I L R Q) := by
  intro n
  induction n with
  | zero => intro v1 v2 h; exact h.elim
  | succ n ih =>
    intro v1 v2 h
    unfold wl_Rows_coinsCome_4 at h
    refine am_aload_n (n := 5) d_Rows_coinsCome_4 rfl rfl ?_
    obtain ⟨g1, h⟩ := h
    refine am_getR (x := (am_rd R q 4)) (n := 8) f_Rows_24 d_Rows_coinsCome_5 rfl rfl hq g1.1 ?_
    refine am_ifnull (n := 11) d_Rows_coinsCome_8 rfl ?_
    refine am_iload_n (n := 12) d_Rows_coinsCome_11 rfl rfl ?_
    refine am_aload_n (n := 13) d_Rows_coinsCome_12 rfl rfl ?_
    obtain ⟨g2, h⟩ := h
    refine am_getR (x := (am_rd R q 4)) (n := 16) f_Rows_24 d_Rows_coinsCome_13 rfl rfl hq g2.1 ?_
    refine am_getI (n := 19) f_Rows_41 d_Rows_coinsCome_16 rfl rfl g2.2 ?_
    refine am_icmp_ge (tgt := 98) (n := 22) d_Rows_coinsCome_19 rfl rfl (fun c1 => ?_) (fun c1 => ?_)
    · have h := h.1 c1
      refine am_iload_n (n := 99) d_Rows_coinsCome_98 rfl rfl ?_
      exact am_iret d_Rows_coinsCome_99 ⟨v1, rfl, rfl, h⟩
    · have h := h.2 c1
      refine am_iconst (n := 23) d_Rows_coinsCome_22 ci_0 rfl ?_
      refine am_istore_n (ls' := [some (.ref q), some (.int v1), some (.int v2), some (.int 0), none]) (n := 24) d_Rows_coinsCome_23 (by decide) rfl rfl ?_
      refine am_iconst (n := 25) d_Rows_coinsCome_24 ci_0 rfl ?_
      refine am_istore (ls' := [some (.ref q), some (.int v1), some (.int v2), some (.int 0), some (.int 0)]) (n := 27) d_Rows_coinsCome_25 (by decide) rfl rfl ?_
      obtain ⟨n, h⟩ := h
      exact tl_Rows_coinsCome_27 hw hq ih hd n v1 v2 0 0 h
def wp_Rows_coinsCome (I : am_TI) (L : am_TL) (R : am_TR) (q : Nat)  (Q : Int32 → Prop) : Prop := (∃ z, wl_Rows_coinsCome_4 I L R q Q z 0 0)
set_option maxRecDepth 20000 in
theorem cm_Rows_coinsCome {d : Nat} {I : am_TI} {L : am_TL} {R : am_TR}  (hw : am_Wf R)   {q : Nat} {Q : Int32 → Prop} (hd : 1 ≤ d) (hq : am_SH[q]? = some (.inl 6)) (h : wp_Rows_coinsCome I L R q  Q) : am_Cm d 0 0 y_Rows_coinsCome b_Rows_coinsCome 5 (some .int) [.ref q] (I, L, R, am_SH) (po_Rows_coinsCome I L R Q) := by
  refine am_Cm_of (ini := false) (by decide +kernel) (fun z => by cases z) (by simp [Value.category]) (fun r σ' z => by obtain ⟨x, rfl, -⟩ := z; exact ⟨_, rfl, rfl⟩) ?_
  unfold wp_Rows_coinsCome at h
  show am_Wp (d, "UnseenRing$Rows", b_Rows_coinsCome, 5, false) 0 0 0 [some (.ref q), none, none, none, none] [] (I, L, R, am_SH) (po_Rows_coinsCome I L R Q)
  refine am_iconst (n := 1) d_Rows_coinsCome_0 ci_0 rfl ?_
  refine am_istore_n (ls' := [some (.ref q), some (.int 0), none, none, none]) (n := 2) d_Rows_coinsCome_1 (by decide) rfl rfl ?_
  refine am_iconst (n := 3) d_Rows_coinsCome_2 ci_0 rfl ?_
  refine am_istore_n (ls' := [some (.ref q), some (.int 0), some (.int 0), none, none]) (n := 4) d_Rows_coinsCome_3 (by decide) rfl rfl ?_
  obtain ⟨n, h⟩ := h
  exact tl_Rows_coinsCome_4 hw hq hd n 0 0 h
abbrev po_U_power (I : am_TI) (L : am_TL) (R : am_TR) (Q : Int64 → Prop) : Option Value → am_St → Prop := fun r σ' => ∃ (x : Int64), r = some (.long x) ∧ σ' = (I, L, R, am_SH) ∧ Q x
def wl_U_power_5 (I : am_TI) (L : am_TL) (R : am_TR) (p0 : Int32) (p1 : Int32) (Q : Int64 → Prop)  : Nat → Int64 → Int32 → Prop
  | 0 => fun _ _ => False
  | f5 + 1 => fun v2 v4 => ((p1 ≤ v4 → Q v2) ∧ (¬ p1 ≤ v4 → wl_U_power_5 I L R p0 p1 Q f5 (v2 * (Int32.toInt64 p0)) (v4 + 1)))
set_option maxRecDepth 20000 in
theorem tl_U_power_5 {d : Nat}  {I : am_TI} {L : am_TL} {R : am_TR} {p0 : Int32} {p1 : Int32} {Q : Int64 → Prop}  (hw : am_Wf R)  (hd : 0 ≤ d) : ∀ (n : Nat) (v2 : Int64) (v4 : Int32), wl_U_power_5 I L R p0 p1 Q  n v2 v4 → am_Wp (d, "UnseenRing", b_U_power, 5, false) 0 0 5 [some (.int p0), some (.int p1), some (.long v2), none, some (.int v4)] [] (I, L, R, am_SH) (po_U_power I L R Q) := by
  intro n
  induction n with
  | zero => intro v2 v4 h; exact h.elim
  | succ n ih =>
    intro v2 v4 h
    unfold wl_U_power_5 at h
    refine am_iload (n := 7) d_U_power_5 rfl rfl ?_
    refine am_iload_n (n := 8) d_U_power_7 rfl rfl ?_
    refine am_icmp_ge (tgt := 22) (n := 11) d_U_power_8 rfl rfl (fun c1 => ?_) (fun c1 => ?_)
    · have h := h.1 c1
      refine am_lload_n (n := 23) d_U_power_22 rfl rfl ?_
      exact am_lret d_U_power_23 ⟨v2, rfl, rfl, h⟩
    · have h := h.2 c1
      refine am_lload_n (n := 12) d_U_power_11 rfl rfl ?_
      refine am_iload_n (n := 13) d_U_power_12 rfl rfl ?_
      refine am_i2l (n := 14) d_U_power_13 rfl ?_
      refine am_lmul (n := 15) d_U_power_14 rfl ?_
      refine am_lstore_n (ls' := [some (.int p0), some (.int p1), some (.long (v2 * (Int32.toInt64 p0))), none, some (.int v4)]) (n := 16) d_U_power_15 (by decide) rfl rfl ?_
      refine am_iinc (v := v4 + 1) (ls' := [some (.int p0), some (.int p1), some (.long (v2 * (Int32.toInt64 p0))), none, some (.int (v4 + 1))]) (n := 19) d_U_power_16 rfl (congrArg _ ci_1) (by decide) rfl rfl ?_
      refine am_goto (tgt := 5) d_U_power_19 rfl ?_
      exact ih (v2 * (Int32.toInt64 p0)) (v4 + 1)  h
def wp_U_power (I : am_TI) (L : am_TL) (R : am_TR) (p0 : Int32) (p1 : Int32)  (Q : Int64 → Prop) : Prop := (∃ z, wl_U_power_5 I L R p0 p1 Q z 1 0)
set_option maxRecDepth 20000 in
theorem cm_U_power {d : Nat} {I : am_TI} {L : am_TL} {R : am_TR}  (hw : am_Wf R)   {p0 : Int32} {p1 : Int32} {Q : Int64 → Prop} (hd : 0 ≤ d)  (h : wp_U_power I L R p0 p1  Q) : am_Cm d 0 0 y_U_power b_U_power 5 (some .long) [.int p0, .int p1] (I, L, R, am_SH) (po_U_power I L R Q) := by
  refine am_Cm_of (ini := false) (by decide +kernel) (fun z => by cases z) (by simp [Value.category]) (fun r σ' z => by obtain ⟨_, rfl, -⟩ := z; rfl) ?_
  unfold wp_U_power at h
  show am_Wp (d, "UnseenRing", b_U_power, 5, false) 0 0 0 [some (.int p0), some (.int p1), none, none, none] [] (I, L, R, am_SH) (po_U_power I L R Q)
  refine am_lconst (v := 1) (n := 1) d_U_power_0 rfl rfl ?_
  refine am_lstore_n (ls' := [some (.int p0), some (.int p1), some (.long 1), none, none]) (n := 2) d_U_power_1 (by decide) rfl rfl ?_
  refine am_iconst (n := 3) d_U_power_2 ci_0 rfl ?_
  refine am_istore (ls' := [some (.int p0), some (.int p1), some (.long 1), none, some (.int 0)]) (n := 5) d_U_power_3 (by decide) rfl rfl ?_
  obtain ⟨n, h⟩ := h
  exact tl_U_power_5 hw hd n 1 0 h
abbrev po_U_crowd (R : am_TR) (Q : Bool → am_TI → am_TL → Prop) : Option Value → am_St → Prop := fun r σ' => ∃ (x : Bool) (I' : am_TI) (L' : am_TL), r = some (.int (am_b x)) ∧ σ' = (I', L', R, am_SH) ∧ Q x I' L'
def wl_U_crowd_29 (R : am_TR) (q : Nat) (p1 : Int32) (Q : Bool → am_TI → am_TL → Prop)  : Nat → am_TI → am_TL → Int32 → Int64 → Int32 → Prop
  | 0 => fun _ _ _ _ _ => False
  | f29 + 1 => fun I L v2 v3 v5 => ((v2 < v5 → wp_U_power I L R 16 v2 (fun (r2 : Int64) => wp_U_tellFraction I L R q v3 r2 (fun (L1 : am_TL) => wp_U_settled I L1 R q 0 (fun (r3 : Bool) (I1 : am_TI) => Q r3 I1 L1)))) ∧ (¬ v2 < v5 → wp_U_choose I L R v2 v5 (fun (r4 : Int32) => wp_U_power I L R (I (am_rd R q 11) 8) v5 (fun (r5 : Int64) => wp_U_power I L R (16 - (I (am_rd R q 11) 8)) (v2 - v5) (fun (r6 : Int64) => wl_U_crowd_29 R q p1 Q f29 I L v2 (v3 + (((Int32.toInt64 r4) * r5) * r6)) (v5 + 1))))))
set_option maxRecDepth 20000 in
theorem tl_U_crowd_29 {d : Nat}  {R : am_TR} {q : Nat} {p1 : Int32} {Q : Bool → am_TI → am_TL → Prop}  (hw : am_Wf R) (hq : am_SH[q]? = some (.inl 11)) (hd : 2 ≤ d) : ∀ (n : Nat) (I : am_TI) (L : am_TL) (v2 : Int32) (v3 : Int64) (v5 : Int32), wl_U_crowd_29 R q p1 Q  n I L v2 v3 v5 → am_Wp (d, "UnseenRing", b_U_crowd, 6, false) 0 0 29 [some (.ref q), some (.int p1), some (.int v2), some (.long v3), none, some (.int v5)] [] (I, L, R, am_SH) (po_U_crowd R Q) := by
  intro n
  induction n with
  | zero => intro I L v2 v3 v5 h; exact h.elim
  | succ n ih =>
    intro I L v2 v3 v5 h
    unfold wl_U_crowd_29 at h
    refine am_iload (n := 31) d_U_crowd_29 rfl rfl ?_
    refine am_iload_n (n := 32) d_U_crowd_31 rfl rfl ?_
    refine am_icmp_gt (tgt := 82) (n := 35) d_U_crowd_32 rfl rfl (fun c2 => ?_) (fun c2 => ?_)
    · have h := h.1 c2
      refine am_aload_n (n := 83) d_U_crowd_82 rfl rfl ?_
      refine am_lload_n (n := 84) d_U_crowd_83 rfl rfl ?_
      refine am_bipush (n := 86) d_U_crowd_84 cb_16 rfl ?_
      refine am_iload_n (n := 87) d_U_crowd_86 rfl rfl ?_
      refine am_callS (kc := 0) (ks := 0) (As := [.int 16, .int v2]) (n := 90) d_U_crowd_87 rfl ce_U_power lk_U_383 st_U_power rfl rfl (Nat.le_of_ble_eq_true rfl) (Or.inl rfl) (cm_U_power (d := d - 1) hw (by omega)  h) (by omega) ?_
      rintro _ _ ⟨r2, rfl, rfl, h⟩
      show am_Wp (d, "UnseenRing", b_U_crowd, 6, false) 0 0 90 [some (.ref q), some (.int p1), some (.int v2), some (.long v3), none, some (.int v5)] [.long r2, .long v3, .ref q] (I, L, R, am_SH) (po_U_crowd R Q)
      refine am_callV (kc := 0) (ks := 0) (As := [.long v3, .long r2]) (n := 93) d_U_crowd_90 rfl ce_U_tellFraction lk_U_331 in_U_tellFraction rfl rfl hq rfl rfl (Nat.le_of_ble_eq_true rfl) (Or.inl rfl) (cm_U_tellFraction (d := d - 1) hw (by omega) hq h) (by omega) ?_
      rintro _ _ ⟨L1, rfl, rfl, h⟩
      show am_Wp (d, "UnseenRing", b_U_crowd, 6, false) 0 0 93 [some (.ref q), some (.int p1), some (.int v2), some (.long v3), none, some (.int v5)] [] (I, L1, R, am_SH) (po_U_crowd R Q)
      refine am_aload_n (n := 94) d_U_crowd_93 rfl rfl ?_
      refine am_iconst (n := 95) d_U_crowd_94 ci_0 rfl ?_
      refine am_callV (kc := 0) (ks := 0) (As := [.int 0]) (n := 98) d_U_crowd_95 rfl ce_U_settled lk_U_118 in_U_settled rfl rfl hq rfl rfl (Nat.le_of_ble_eq_true rfl) (Or.inl rfl) (cm_U_settled (d := d - 1) hw (by omega) hq h) (by omega) ?_
      rintro _ _ ⟨r3, I1, rfl, rfl, h⟩
      show am_Wp (d, "UnseenRing", b_U_crowd, 6, false) 0 0 98 [some (.ref q), some (.int p1), some (.int v2), some (.long v3), none, some (.int v5)] [.int (am_b r3)] (I1, L1, R, am_SH) (po_U_crowd R Q)
      exact am_iret d_U_crowd_98 ⟨r3, I1, L1, rfl, rfl, h⟩
    · have h := h.2 c2
      refine am_lload_n (n := 36) d_U_crowd_35 rfl rfl ?_
      refine am_iload_n (n := 37) d_U_crowd_36 rfl rfl ?_
      refine am_iload (n := 39) d_U_crowd_37 rfl rfl ?_
      refine am_callS (kc := 0) (ks := 0) (As := [.int v2, .int v5]) (n := 42) d_U_crowd_39 rfl ce_U_choose lk_U_380 st_U_choose rfl rfl (Nat.le_of_ble_eq_true rfl) (Or.inl rfl) (cm_U_choose (d := d - 1) hw (by omega)  h) (by omega) ?_
      rintro _ _ ⟨r4, rfl, rfl, h⟩
      show am_Wp (d, "UnseenRing", b_U_crowd, 6, false) 0 0 42 [some (.ref q), some (.int p1), some (.int v2), some (.long v3), none, some (.int v5)] [.int r4, .long v3] (I, L, R, am_SH) (po_U_crowd R Q)
      refine am_i2l (n := 43) d_U_crowd_42 rfl ?_
      refine am_aload_n (n := 44) d_U_crowd_43 rfl rfl ?_
      refine am_getR (x := (am_rd R q 11)) (n := 47) f_U_81 d_U_crowd_44 rfl rfl hq (hw.rd (k := 11) hq rfl).1 ?_
      refine am_getI (n := 50) f_U_278 d_U_crowd_47 rfl rfl (hw.rd (k := 11) hq rfl).2 ?_
      refine am_iload (n := 52) d_U_crowd_50 rfl rfl ?_
      refine am_callS (kc := 0) (ks := 0) (As := [.int (I (am_rd R q 11) 8), .int v5]) (n := 55) d_U_crowd_52 rfl ce_U_power lk_U_383 st_U_power rfl rfl (Nat.le_of_ble_eq_true rfl) (Or.inl rfl) (cm_U_power (d := d - 1) hw (by omega)  h) (by omega) ?_
      rintro _ _ ⟨r5, rfl, rfl, h⟩
      show am_Wp (d, "UnseenRing", b_U_crowd, 6, false) 0 0 55 [some (.ref q), some (.int p1), some (.int v2), some (.long v3), none, some (.int v5)] [.long r5, .long (Int32.toInt64 r4), .long v3] (I, L, R, am_SH) (po_U_crowd R Q)
      refine am_lmul (n := 56) d_U_crowd_55 rfl ?_
      refine am_bipush (n := 58) d_U_crowd_56 cb_16 rfl ?_
      refine am_aload_n (n := 59) d_U_crowd_58 rfl rfl ?_
      refine am_getR (x := (am_rd R q 11)) (n := 62) f_U_81 d_U_crowd_59 rfl rfl hq (hw.rd (k := 11) hq rfl).1 ?_
      refine am_getI (n := 65) f_U_278 d_U_crowd_62 rfl rfl (hw.rd (k := 11) hq rfl).2 ?_
      refine am_isub (n := 66) d_U_crowd_65 rfl ?_
      refine am_iload_n (n := 67) d_U_crowd_66 rfl rfl ?_
      refine am_iload (n := 69) d_U_crowd_67 rfl rfl ?_
      refine am_isub (n := 70) d_U_crowd_69 rfl ?_
      refine am_callS (kc := 0) (ks := 0) (As := [.int (16 - (I (am_rd R q 11) 8)), .int (v2 - v5)]) (n := 73) d_U_crowd_70 rfl ce_U_power lk_U_383 st_U_power rfl rfl (Nat.le_of_ble_eq_true rfl) (Or.inl rfl) (cm_U_power (d := d - 1) hw (by omega)  h) (by omega) ?_
      rintro _ _ ⟨r6, rfl, rfl, h⟩
      show am_Wp (d, "UnseenRing", b_U_crowd, 6, false) 0 0 73 [some (.ref q), some (.int p1), some (.int v2), some (.long v3), none, some (.int v5)] [.long r6, .long ((Int32.toInt64 r4) * r5), .long v3] (I, L, R, am_SH) (po_U_crowd R Q)
      refine am_lmul (n := 74) d_U_crowd_73 rfl ?_
      refine am_ladd (n := 75) d_U_crowd_74 rfl ?_
      refine am_lstore_n (ls' := [some (.ref q), some (.int p1), some (.int v2), some (.long (v3 + (((Int32.toInt64 r4) * r5) * r6))), none, some (.int v5)]) (n := 76) d_U_crowd_75 (by decide) rfl rfl ?_
      refine am_iinc (v := v5 + 1) (ls' := [some (.ref q), some (.int p1), some (.int v2), some (.long (v3 + (((Int32.toInt64 r4) * r5) * r6))), none, some (.int (v5 + 1))]) (n := 79) d_U_crowd_76 rfl (congrArg _ ci_1) (by decide) rfl rfl ?_
      refine am_goto (tgt := 29) d_U_crowd_79 rfl ?_
      exact ih I L v2 (v3 + (((Int32.toInt64 r4) * r5) * r6)) (v5 + 1)  h
def wp_U_crowd (I : am_TI) (L : am_TL) (R : am_TR) (q : Nat) (p1 : Int32)  (Q : Bool → am_TI → am_TL → Prop) : Prop := wp_U_within I L R p1 0 6 (fun (r1 : Bool) => ((r1 = false → wp_U_settled I L R q 1 (fun (r7 : Bool) (I2 : am_TI) => Q r7 I2 L)) ∧ (r1 = true → (∃ z, wl_U_crowd_29 R q p1 Q z I L (I (am_rd R q 11) 11) 0 p1))))
set_option maxRecDepth 20000 in
theorem cm_U_crowd {d : Nat} {I : am_TI} {L : am_TL} {R : am_TR}  (hw : am_Wf R)   {q : Nat} {p1 : Int32} {Q : Bool → am_TI → am_TL → Prop} (hd : 2 ≤ d) (hq : am_SH[q]? = some (.inl 11)) (h : wp_U_crowd I L R q p1  Q) : am_Cm d 0 0 y_U_crowd b_U_crowd 6 (some .boolean) [.ref q, .int p1] (I, L, R, am_SH) (po_U_crowd R Q) := by
  refine am_Cm_of (ini := false) (by decide +kernel) (fun z => by cases z) (by simp [Value.category]) (fun r σ' z => by obtain ⟨x, _, _, rfl, -⟩ := z; exact ⟨_, rfl, am_b_nar x⟩) ?_
  unfold wp_U_crowd at h
  show am_Wp (d, "UnseenRing", b_U_crowd, 6, false) 0 0 0 [some (.ref q), some (.int p1), none, none, none, none] [] (I, L, R, am_SH) (po_U_crowd R Q)
  refine am_iload_n (n := 1) d_U_crowd_0 rfl rfl ?_
  refine am_iconst (n := 2) d_U_crowd_1 ci_0 rfl ?_
  refine am_bipush (n := 4) d_U_crowd_2 cb_6 rfl ?_
  refine am_callS (kc := 0) (ks := 0) (As := [.int p1, .int 0, .int 6]) (n := 7) d_U_crowd_4 rfl ce_U_within lk_U_114 st_U_within rfl rfl (Nat.le_of_ble_eq_true rfl) (Or.inl rfl) (cm_U_within (d := d - 1) hw (by omega)  h) (by omega) ?_
  rintro _ _ ⟨r1, rfl, rfl, h⟩
  show am_Wp (d, "UnseenRing", b_U_crowd, 6, false) 0 0 7 [some (.ref q), some (.int p1), none, none, none, none] [.int (am_b r1)] (I, L, R, am_SH) (po_U_crowd R Q)
  refine am_if_ne (y := 0) (tgt := 16) (n := 10) d_U_crowd_7 rfl rfl (fun c1 => ?_) (fun c1 => ?_)
  · have h := h.2 (am_b_n0 c1)
    refine am_aload_n (n := 17) d_U_crowd_16 rfl rfl ?_
    refine am_getR (x := (am_rd R q 11)) (n := 20) f_U_81 d_U_crowd_17 rfl rfl hq (hw.rd (k := 11) hq rfl).1 ?_
    refine am_getI (n := 23) f_U_181 d_U_crowd_20 rfl rfl (hw.rd (k := 11) hq rfl).2 ?_
    refine am_istore_n (ls' := [some (.ref q), some (.int p1), some (.int (I (am_rd R q 11) 11)), none, none, none]) (n := 24) d_U_crowd_23 (by decide) rfl rfl ?_
    refine am_lconst (v := 0) (n := 25) d_U_crowd_24 rfl rfl ?_
    refine am_lstore_n (ls' := [some (.ref q), some (.int p1), some (.int (I (am_rd R q 11) 11)), some (.long 0), none, none]) (n := 26) d_U_crowd_25 (by decide) rfl rfl ?_
    refine am_iload_n (n := 27) d_U_crowd_26 rfl rfl ?_
    refine am_istore (ls' := [some (.ref q), some (.int p1), some (.int (I (am_rd R q 11) 11)), some (.long 0), none, some (.int p1)]) (n := 29) d_U_crowd_27 (by decide) rfl rfl ?_
    obtain ⟨n, h⟩ := h
    exact tl_U_crowd_29 hw hq hd n I L (I (am_rd R q 11) 11) 0 p1 h
  · have h := h.1 (am_b_0 c1)
    refine am_aload_n (n := 11) d_U_crowd_10 rfl rfl ?_
    refine am_iconst (n := 12) d_U_crowd_11 ci_1 rfl ?_
    refine am_callV (kc := 0) (ks := 0) (As := [.int 1]) (n := 15) d_U_crowd_12 rfl ce_U_settled lk_U_118 in_U_settled rfl rfl hq rfl rfl (Nat.le_of_ble_eq_true rfl) (Or.inl rfl) (cm_U_settled (d := d - 1) hw (by omega) hq h) (by omega) ?_
    rintro _ _ ⟨r7, I2, rfl, rfl, h⟩
    show am_Wp (d, "UnseenRing", b_U_crowd, 6, false) 0 0 15 [some (.ref q), some (.int p1), none, none, none, none] [.int (am_b r7)] (I2, L, R, am_SH) (po_U_crowd R Q)
    exact am_iret d_U_crowd_15 ⟨r7, I2, L, rfl, rfl, h⟩
abbrev po_U_share (R : am_TR) (Q : Bool → am_TI → am_TL → Prop) : Option Value → am_St → Prop := fun r σ' => ∃ (x : Bool) (I' : am_TI) (L' : am_TL), r = some (.int (am_b x)) ∧ σ' = (I', L', R, am_SH) ∧ Q x I' L'
def wl_U_share_21 (R : am_TR) (q : Nat) (p1 : Int32) (Q : Bool → am_TI → am_TL → Prop)  : Nat → am_TI → am_TL → Int32 → Int32 → Prop
  | 0 => fun _ _ _ _ => False
  | f21 + 1 => fun I L v2 v3 => (((I (am_rd R q 11) 11) ≤ v3 → ((v2 = 0 → wp_U_settled I L R q 6 (fun (r3 : Bool) (I2 : am_TI) => Q r3 I2 L)) ∧ (¬ v2 = 0 → (vp_in p1 6 ∧ wp_U_tellFraction I L R q (Int32.toInt64 (I ((am_rd R q 11) + 3) (Int32.toNatClampNeg p1))) (Int32.toInt64 v2) (fun (L1 : am_TL) => wp_U_settled I L1 R q 0 (fun (r2 : Bool) (I1 : am_TI) => Q r2 I1 L1)))))) ∧ (¬ (I (am_rd R q 11) 11) ≤ v3 → (vp_in v3 6 ∧ wl_U_share_21 R q p1 Q f21 I L (v2 + (I ((am_rd R q 11) + 3) (Int32.toNatClampNeg v3))) (v3 + 1))))
set_option maxRecDepth 20000 in
theorem tl_U_share_21 {d : Nat}  {R : am_TR} {q : Nat} {p1 : Int32} {Q : Bool → am_TI → am_TL → Prop}  (hw : am_Wf R) (hq : am_SH[q]? = some (.inl 11)) (hd : 2 ≤ d) : ∀ (n : Nat) (I : am_TI) (L : am_TL) (v2 : Int32) (v3 : Int32), wl_U_share_21 R q p1 Q  n I L v2 v3 → am_Wp (d, "UnseenRing", b_U_share, 4, false) 0 0 21 [some (.ref q), some (.int p1), some (.int v2), some (.int v3)] [] (I, L, R, am_SH) (po_U_share R Q) := by
  intro n
  induction n with
  | zero => intro I L v2 v3 h; exact h.elim
  | succ n ih =>
    intro I L v2 v3 h
    unfold wl_U_share_21 at h
    refine am_iload_n (n := 22) d_U_share_21 rfl rfl ?_
    refine am_aload_n (n := 23) d_U_share_22 rfl rfl ?_
    refine am_getR (x := (am_rd R q 11)) (n := 26) f_U_81 d_U_share_23 rfl rfl hq (hw.rd (k := 11) hq rfl).1 ?_
    refine am_getI (n := 29) f_U_181 d_U_share_26 rfl rfl (hw.rd (k := 11) hq rfl).2 ?_
    refine am_icmp_ge (tgt := 50) (n := 32) d_U_share_29 rfl rfl (fun c2 => ?_) (fun c2 => ?_)
    · have h := h.1 c2
      refine am_iload_n (n := 51) d_U_share_50 rfl rfl ?_
      refine am_if_ne (y := 0) (tgt := 61) (n := 54) d_U_share_51 rfl rfl (fun c3 => ?_) (fun c3 => ?_)
      · have h := h.2 c3
        refine am_aload_n (n := 62) d_U_share_61 rfl rfl ?_
        refine am_aload_n (n := 63) d_U_share_62 rfl rfl ?_
        refine am_getR (x := (am_rd R q 11)) (n := 66) f_U_81 d_U_share_63 rfl rfl hq (hw.rd (k := 11) hq rfl).1 ?_
        refine am_getR (x := ((am_rd R q 11) + 3)) (n := 69) f_U_261 d_U_share_66 rfl rfl (hw.rd (k := 11) hq rfl).2 (hw.1 (am_rd R q 11) 7 2 3 (hw.rd (k := 11) hq rfl).2 rfl) ?_
        refine am_iload_n (n := 70) d_U_share_69 rfl rfl ?_
        obtain ⟨g1, h⟩ := h
        refine am_iald2 (n := 71) d_U_share_70 rfl (am_sho (k := 2) (o := 3) (hw.rd (k := 11) hq rfl).2 (by decide) (by decide) (by decide) rfl) g1 rfl ?_
        refine am_i2l (n := 72) d_U_share_71 rfl ?_
        refine am_iload_n (n := 73) d_U_share_72 rfl rfl ?_
        refine am_i2l (n := 74) d_U_share_73 rfl ?_
        refine am_callV (kc := 0) (ks := 0) (As := [.long (Int32.toInt64 (I ((am_rd R q 11) + 3) (Int32.toNatClampNeg p1))), .long (Int32.toInt64 v2)]) (n := 77) d_U_share_74 rfl ce_U_tellFraction lk_U_331 in_U_tellFraction rfl rfl hq rfl rfl (Nat.le_of_ble_eq_true rfl) (Or.inl rfl) (cm_U_tellFraction (d := d - 1) hw (by omega) hq h) (by omega) ?_
        rintro _ _ ⟨L1, rfl, rfl, h⟩
        show am_Wp (d, "UnseenRing", b_U_share, 4, false) 0 0 77 [some (.ref q), some (.int p1), some (.int v2), some (.int v3)] [] (I, L1, R, am_SH) (po_U_share R Q)
        refine am_aload_n (n := 78) d_U_share_77 rfl rfl ?_
        refine am_iconst (n := 79) d_U_share_78 ci_0 rfl ?_
        refine am_callV (kc := 0) (ks := 0) (As := [.int 0]) (n := 82) d_U_share_79 rfl ce_U_settled lk_U_118 in_U_settled rfl rfl hq rfl rfl (Nat.le_of_ble_eq_true rfl) (Or.inl rfl) (cm_U_settled (d := d - 1) hw (by omega) hq h) (by omega) ?_
        rintro _ _ ⟨r2, I1, rfl, rfl, h⟩
        show am_Wp (d, "UnseenRing", b_U_share, 4, false) 0 0 82 [some (.ref q), some (.int p1), some (.int v2), some (.int v3)] [.int (am_b r2)] (I1, L1, R, am_SH) (po_U_share R Q)
        exact am_iret d_U_share_82 ⟨r2, I1, L1, rfl, rfl, h⟩
      · have h := h.1 c3
        refine am_aload_n (n := 55) d_U_share_54 rfl rfl ?_
        refine am_bipush (n := 57) d_U_share_55 cb_6 rfl ?_
        refine am_callV (kc := 0) (ks := 0) (As := [.int 6]) (n := 60) d_U_share_57 rfl ce_U_settled lk_U_118 in_U_settled rfl rfl hq rfl rfl (Nat.le_of_ble_eq_true rfl) (Or.inl rfl) (cm_U_settled (d := d - 1) hw (by omega) hq h) (by omega) ?_
        rintro _ _ ⟨r3, I2, rfl, rfl, h⟩
        show am_Wp (d, "UnseenRing", b_U_share, 4, false) 0 0 60 [some (.ref q), some (.int p1), some (.int v2), some (.int v3)] [.int (am_b r3)] (I2, L, R, am_SH) (po_U_share R Q)
        exact am_iret d_U_share_60 ⟨r3, I2, L, rfl, rfl, h⟩
    · have h := h.2 c2
      refine am_iload_n (n := 33) d_U_share_32 rfl rfl ?_
      refine am_aload_n (n := 34) d_U_share_33 rfl rfl ?_
      refine am_getR (x := (am_rd R q 11)) (n := 37) f_U_81 d_U_share_34 rfl rfl hq (hw.rd (k := 11) hq rfl).1 ?_
      refine am_getR (x := ((am_rd R q 11) + 3)) (n := 40) f_U_261 d_U_share_37 rfl rfl (hw.rd (k := 11) hq rfl).2 (hw.1 (am_rd R q 11) 7 2 3 (hw.rd (k := 11) hq rfl).2 rfl) ?_
      refine am_iload_n (n := 41) d_U_share_40 rfl rfl ?_
      obtain ⟨g2, h⟩ := h
      refine am_iald2 (n := 42) d_U_share_41 rfl (am_sho (k := 2) (o := 3) (hw.rd (k := 11) hq rfl).2 (by decide) (by decide) (by decide) rfl) g2 rfl ?_
      refine am_iadd (n := 43) d_U_share_42 rfl ?_
      refine am_istore_n (ls' := [some (.ref q), some (.int p1), some (.int (v2 + (I ((am_rd R q 11) + 3) (Int32.toNatClampNeg v3)))), some (.int v3)]) (n := 44) d_U_share_43 (by decide) rfl rfl ?_
      refine am_iinc (v := v3 + 1) (ls' := [some (.ref q), some (.int p1), some (.int (v2 + (I ((am_rd R q 11) + 3) (Int32.toNatClampNeg v3)))), some (.int (v3 + 1))]) (n := 47) d_U_share_44 rfl (congrArg _ ci_1) (by decide) rfl rfl ?_
      refine am_goto (tgt := 21) d_U_share_47 rfl ?_
      exact ih I L (v2 + (I ((am_rd R q 11) + 3) (Int32.toNatClampNeg v3))) (v3 + 1)  h
def wp_U_share (I : am_TI) (L : am_TL) (R : am_TR) (q : Nat) (p1 : Int32)  (Q : Bool → am_TI → am_TL → Prop) : Prop := wp_Square_hasHearer I L R (am_rd R q 11) p1 (fun (r1 : Bool) => ((r1 = false → wp_U_settled I L R q 1 (fun (r4 : Bool) (I3 : am_TI) => Q r4 I3 L)) ∧ (r1 = true → (∃ z, wl_U_share_21 R q p1 Q z I L 0 0))))
set_option maxRecDepth 20000 in
theorem cm_U_share {d : Nat} {I : am_TI} {L : am_TL} {R : am_TR}  (hw : am_Wf R)   {q : Nat} {p1 : Int32} {Q : Bool → am_TI → am_TL → Prop} (hd : 2 ≤ d) (hq : am_SH[q]? = some (.inl 11)) (h : wp_U_share I L R q p1  Q) : am_Cm d 0 0 y_U_share b_U_share 4 (some .boolean) [.ref q, .int p1] (I, L, R, am_SH) (po_U_share R Q) := by
  refine am_Cm_of (ini := false) (by decide +kernel) (fun z => by cases z) (by simp [Value.category]) (fun r σ' z => by obtain ⟨x, _, _, rfl, -⟩ := z; exact ⟨_, rfl, am_b_nar x⟩) ?_
  unfold wp_U_share at h
  show am_Wp (d, "UnseenRing", b_U_share, 4, false) 0 0 0 [some (.ref q), some (.int p1), none, none] [] (I, L, R, am_SH) (po_U_share R Q)
  refine am_aload_n (n := 1) d_U_share_0 rfl rfl ?_
  refine am_getR (x := (am_rd R q 11)) (n := 4) f_U_81 d_U_share_1 rfl rfl hq (hw.rd (k := 11) hq rfl).1 ?_
  refine am_iload_n (n := 5) d_U_share_4 rfl rfl ?_
  refine am_callV (kc := 0) (ks := 0) (As := [.int p1]) (n := 8) d_U_share_5 rfl ce_Square_hasHearer lk_U_205 in_Square_hasHearer rfl rfl (hw.rd (k := 11) hq rfl).2 rfl rfl (Nat.le_of_ble_eq_true rfl) (Or.inl rfl) (cm_Square_hasHearer (d := d - 1) hw (by omega) (hw.rd (k := 11) hq rfl).2 h) (by omega) ?_
  rintro _ _ ⟨r1, rfl, rfl, h⟩
  show am_Wp (d, "UnseenRing", b_U_share, 4, false) 0 0 8 [some (.ref q), some (.int p1), none, none] [.int (am_b r1)] (I, L, R, am_SH) (po_U_share R Q)
  refine am_if_ne (y := 0) (tgt := 17) (n := 11) d_U_share_8 rfl rfl (fun c1 => ?_) (fun c1 => ?_)
  · have h := h.2 (am_b_n0 c1)
    refine am_iconst (n := 18) d_U_share_17 ci_0 rfl ?_
    refine am_istore_n (ls' := [some (.ref q), some (.int p1), some (.int 0), none]) (n := 19) d_U_share_18 (by decide) rfl rfl ?_
    refine am_iconst (n := 20) d_U_share_19 ci_0 rfl ?_
    refine am_istore_n (ls' := [some (.ref q), some (.int p1), some (.int 0), some (.int 0)]) (n := 21) d_U_share_20 (by decide) rfl rfl ?_
    obtain ⟨n, h⟩ := h
    exact tl_U_share_21 hw hq hd n I L 0 0 h
  · have h := h.1 (am_b_0 c1)
    refine am_aload_n (n := 12) d_U_share_11 rfl rfl ?_
    refine am_iconst (n := 13) d_U_share_12 ci_1 rfl ?_
    refine am_callV (kc := 0) (ks := 0) (As := [.int 1]) (n := 16) d_U_share_13 rfl ce_U_settled lk_U_118 in_U_settled rfl rfl hq rfl rfl (Nat.le_of_ble_eq_true rfl) (Or.inl rfl) (cm_U_settled (d := d - 1) hw (by omega) hq h) (by omega) ?_
    rintro _ _ ⟨r4, I3, rfl, rfl, h⟩
    show am_Wp (d, "UnseenRing", b_U_share, 4, false) 0 0 16 [some (.ref q), some (.int p1), none, none] [.int (am_b r4)] (I3, L, R, am_SH) (po_U_share R Q)
    exact am_iret d_U_share_16 ⟨r4, I3, L, rfl, rfl, h⟩
abbrev po_U_copyCells (R : am_TR) (Q : Int32 → am_TI → am_TL → Prop) : Option Value → am_St → Prop := fun r σ' => ∃ (x : Int32) (I' : am_TI) (L' : am_TL), r = some (.int x) ∧ σ' = (I', L', R, am_SH) ∧ Q x I' L'
def wl_U_copyCells_25 (R : am_TR) (q : Nat) (p1 : Int32) (Q : Int32 → am_TI → am_TL → Prop)  : Nat → am_TI → am_TL → Int32 → Prop
  | 0 => fun _ _ _ => False
  | f25 + 1 => fun I L v3 => (((I (am_rd R q 11) 11) ≤ v3 → wp_U_answered I L R q (I (am_rd R q 11) 11) (fun (r2 : Int32) (I1 : am_TI) => Q r2 I1 L)) ∧ (¬ (I (am_rd R q 11) 11) ≤ v3 → (vp_in p1 4 ∧ (vp_in v3 6 ∧ wp_Tray_put I L R (am_rd R (q + 1) (Int32.toNatClampNeg p1)) v3 (Int32.toInt64 (I ((am_rd R q 11) + 2) (Int32.toNatClampNeg v3))) (fun (L1 : am_TL) => wl_U_copyCells_25 R q p1 Q f25 I L1 (v3 + 1))))))
set_option maxRecDepth 20000 in
theorem tl_U_copyCells_25 {d : Nat}  {R : am_TR} {q : Nat} {p1 : Int32} {Q : Int32 → am_TI → am_TL → Prop}  (hw : am_Wf R) (hq : am_SH[q]? = some (.inl 11)) (hd : 3 ≤ d) : ∀ (n : Nat) (I : am_TI) (L : am_TL) (v3 : Int32), wl_U_copyCells_25 R q p1 Q  n I L v3 → am_Wp (d, "UnseenRing", b_U_copyCells, 4, false) 0 0 25 [some (.ref q), some (.int p1), none, some (.int v3)] [] (I, L, R, am_SH) (po_U_copyCells R Q) := by
  intro n
  induction n with
  | zero => intro I L v3 h; exact h.elim
  | succ n ih =>
    intro I L v3 h
    unfold wl_U_copyCells_25 at h
    refine am_iload_n (n := 26) d_U_copyCells_25 rfl rfl ?_
    refine am_aload_n (n := 27) d_U_copyCells_26 rfl rfl ?_
    refine am_getR (x := (am_rd R q 11)) (n := 30) f_U_81 d_U_copyCells_27 rfl rfl hq (hw.rd (k := 11) hq rfl).1 ?_
    refine am_getI (n := 33) f_U_181 d_U_copyCells_30 rfl rfl (hw.rd (k := 11) hq rfl).2 ?_
    refine am_icmp_ge (tgt := 62) (n := 36) d_U_copyCells_33 rfl rfl (fun c2 => ?_) (fun c2 => ?_)
    · have h := h.1 c2
      refine am_aload_n (n := 63) d_U_copyCells_62 rfl rfl ?_
      refine am_aload_n (n := 64) d_U_copyCells_63 rfl rfl ?_
      refine am_getR (x := (am_rd R q 11)) (n := 67) f_U_81 d_U_copyCells_64 rfl rfl hq (hw.rd (k := 11) hq rfl).1 ?_
      refine am_getI (n := 70) f_U_181 d_U_copyCells_67 rfl rfl (hw.rd (k := 11) hq rfl).2 ?_
      refine am_callV (kc := 0) (ks := 0) (As := [.int (I (am_rd R q 11) 11)]) (n := 73) d_U_copyCells_70 rfl ce_U_answered lk_U_184 in_U_answered rfl rfl hq rfl rfl (Nat.le_of_ble_eq_true rfl) (Or.inl rfl) (cm_U_answered (d := d - 1) hw (by omega) hq h) (by omega) ?_
      rintro _ _ ⟨r2, I1, rfl, rfl, h⟩
      show am_Wp (d, "UnseenRing", b_U_copyCells, 4, false) 0 0 73 [some (.ref q), some (.int p1), none, some (.int v3)] [.int r2] (I1, L, R, am_SH) (po_U_copyCells R Q)
      exact am_iret d_U_copyCells_73 ⟨r2, I1, L, rfl, rfl, h⟩
    · have h := h.2 c2
      refine am_aload_n (n := 37) d_U_copyCells_36 rfl rfl ?_
      refine am_getR (x := (q + 1)) (n := 40) f_U_11 d_U_copyCells_37 rfl rfl hq (hw.1 q 11 0 1 hq rfl) ?_
      refine am_iload_n (n := 41) d_U_copyCells_40 rfl rfl ?_
      obtain ⟨g1, h⟩ := h
      refine am_aald42 (x := (am_rd R (q + 1) (Int32.toNatClampNeg p1))) (n := 42) d_U_copyCells_41 rfl (am_sho (k := 0) (o := 1) hq (by decide) (by decide) (by decide) rfl) g1 rfl (hw.tray (am_sho (k := 0) (o := 1) hq (by decide) (by decide) (by decide) rfl) (am_in_j g1 rfl)).1 ?_
      refine am_iload_n (n := 43) d_U_copyCells_42 rfl rfl ?_
      refine am_aload_n (n := 44) d_U_copyCells_43 rfl rfl ?_
      refine am_getR (x := (am_rd R q 11)) (n := 47) f_U_81 d_U_copyCells_44 rfl rfl hq (hw.rd (k := 11) hq rfl).1 ?_
      refine am_getR (x := ((am_rd R q 11) + 2)) (n := 50) f_U_387 d_U_copyCells_47 rfl rfl (hw.rd (k := 11) hq rfl).2 (hw.1 (am_rd R q 11) 7 1 2 (hw.rd (k := 11) hq rfl).2 rfl) ?_
      refine am_iload_n (n := 51) d_U_copyCells_50 rfl rfl ?_
      obtain ⟨g2, h⟩ := h
      refine am_iald2 (n := 52) d_U_copyCells_51 rfl (am_sho (k := 1) (o := 2) (hw.rd (k := 11) hq rfl).2 (by decide) (by decide) (by decide) rfl) g2 rfl ?_
      refine am_i2l (n := 53) d_U_copyCells_52 rfl ?_
      refine am_callV (kc := 0) (ks := 0) (As := [.int v3, .long (Int32.toInt64 (I ((am_rd R q 11) + 2) (Int32.toNatClampNeg v3)))]) (n := 56) d_U_copyCells_53 rfl ce_Tray_put lk_U_129 in_Tray_put rfl rfl (hw.tray (am_sho (k := 0) (o := 1) hq (by decide) (by decide) (by decide) rfl) (am_in_j g1 rfl)).2 rfl rfl (Nat.le_of_ble_eq_true rfl) (Or.inl rfl) (cm_Tray_put (d := d - 1) hw (by omega) (hw.tray (am_sho (k := 0) (o := 1) hq (by decide) (by decide) (by decide) rfl) (am_in_j g1 rfl)).2 h) (by omega) ?_
      rintro _ _ ⟨L1, rfl, rfl, h⟩
      show am_Wp (d, "UnseenRing", b_U_copyCells, 4, false) 0 0 56 [some (.ref q), some (.int p1), none, some (.int v3)] [] (I, L1, R, am_SH) (po_U_copyCells R Q)
      refine am_iinc (v := v3 + 1) (ls' := [some (.ref q), some (.int p1), none, some (.int (v3 + 1))]) (n := 59) d_U_copyCells_56 rfl (congrArg _ ci_1) (by decide) rfl rfl ?_
      refine am_goto (tgt := 25) d_U_copyCells_59 rfl ?_
      exact ih I L1 (v3 + 1)  h
def wp_U_copyCells (I : am_TI) (L : am_TL) (R : am_TR) (q : Nat) (p1 : Int32)  (Q : Int32 → am_TI → am_TL → Prop) : Prop := wp_U_trayStatus I L R q p1 (I (am_rd R q 11) 11) (fun (r1 : Int32) => ((r1 = 0 → (∃ z, wl_U_copyCells_25 R q p1 Q z I L 0)) ∧ (¬ r1 = 0 → wp_U_refused I L R q r1 (fun (r3 : Int32) (I2 : am_TI) => Q r3 I2 L))))
set_option maxRecDepth 20000 in
theorem cm_U_copyCells {d : Nat} {I : am_TI} {L : am_TL} {R : am_TR}  (hw : am_Wf R)   {q : Nat} {p1 : Int32} {Q : Int32 → am_TI → am_TL → Prop} (hd : 3 ≤ d) (hq : am_SH[q]? = some (.inl 11)) (h : wp_U_copyCells I L R q p1  Q) : am_Cm d 0 0 y_U_copyCells b_U_copyCells 4 (some .int) [.ref q, .int p1] (I, L, R, am_SH) (po_U_copyCells R Q) := by
  refine am_Cm_of (ini := false) (by decide +kernel) (fun z => by cases z) (by simp [Value.category]) (fun r σ' z => by obtain ⟨x, _, _, rfl, -⟩ := z; exact ⟨_, rfl, rfl⟩) ?_
  unfold wp_U_copyCells at h
  show am_Wp (d, "UnseenRing", b_U_copyCells, 4, false) 0 0 0 [some (.ref q), some (.int p1), none, none] [] (I, L, R, am_SH) (po_U_copyCells R Q)
  refine am_aload_n (n := 1) d_U_copyCells_0 rfl rfl ?_
  refine am_iload_n (n := 2) d_U_copyCells_1 rfl rfl ?_
  refine am_aload_n (n := 3) d_U_copyCells_2 rfl rfl ?_
  refine am_getR (x := (am_rd R q 11)) (n := 6) f_U_81 d_U_copyCells_3 rfl rfl hq (hw.rd (k := 11) hq rfl).1 ?_
  refine am_getI (n := 9) f_U_181 d_U_copyCells_6 rfl rfl (hw.rd (k := 11) hq rfl).2 ?_
  refine am_callV (kc := 0) (ks := 0) (As := [.int p1, .int (I (am_rd R q 11) 11)]) (n := 12) d_U_copyCells_9 rfl ce_U_trayStatus lk_U_161 in_U_trayStatus rfl rfl hq rfl rfl (Nat.le_of_ble_eq_true rfl) (Or.inl rfl) (cm_U_trayStatus (d := d - 1) hw (by omega) hq h) (by omega) ?_
  rintro _ _ ⟨r1, rfl, rfl, h⟩
  show am_Wp (d, "UnseenRing", b_U_copyCells, 4, false) 0 0 12 [some (.ref q), some (.int p1), none, none] [.int r1] (I, L, R, am_SH) (po_U_copyCells R Q)
  refine am_istore_n (ls' := [some (.ref q), some (.int p1), some (.int r1), none]) (n := 13) d_U_copyCells_12 (by decide) rfl rfl ?_
  refine am_iload_n (n := 14) d_U_copyCells_13 rfl rfl ?_
  refine am_if_eq (y := 0) (tgt := 23) (n := 17) d_U_copyCells_14 rfl rfl (fun c1 => ?_) (fun c1 => ?_)
  · have h := h.1 c1
    refine am_iconst (n := 24) d_U_copyCells_23 ci_0 rfl ?_
    refine am_istore_n (ls' := [some (.ref q), some (.int p1), some (.int r1), some (.int 0)]) (n := 25) d_U_copyCells_24 (by decide) rfl rfl ?_
    refine am_forget (ls' := [some (.ref q), some (.int p1), none, some (.int 0)]) (am_le_s (am_le_s (am_le_n (am_le_s am_le_e)))) ?_
    obtain ⟨n, h⟩ := h
    exact tl_U_copyCells_25 hw hq hd n I L 0 h
  · have h := h.2 c1
    refine am_aload_n (n := 18) d_U_copyCells_17 rfl rfl ?_
    refine am_iload_n (n := 19) d_U_copyCells_18 rfl rfl ?_
    refine am_callV (kc := 0) (ks := 0) (As := [.int r1]) (n := 22) d_U_copyCells_19 rfl ce_U_refused lk_U_133 in_U_refused rfl rfl hq rfl rfl (Nat.le_of_ble_eq_true rfl) (Or.inl rfl) (cm_U_refused (d := d - 1) hw (by omega) hq h) (by omega) ?_
    rintro _ _ ⟨r3, I2, rfl, rfl, h⟩
    show am_Wp (d, "UnseenRing", b_U_copyCells, 4, false) 0 0 22 [some (.ref q), some (.int p1), some (.int r1), none] [.int r3] (I2, L, R, am_SH) (po_U_copyCells R Q)
    exact am_iret d_U_copyCells_22 ⟨r3, I2, L, rfl, rfl, h⟩
abbrev po_Life_countMissed (L : am_TL) (R : am_TR) (Q : am_TI → Prop) : Option Value → am_St → Prop := fun r σ' => ∃ (I' : am_TI), r = none ∧ σ' = (I', L, R, am_SH) ∧ Q I'
def wp_Life_countMissed (I : am_TI) (L : am_TL) (R : am_TR) (q : Nat) (p1 : Int32)  (Q : am_TI → Prop) : Prop := ((p1 = (-1) → (∀ I1, I1 = am_u2 I q 5 ((I q 5) + 1) → Q I1)) ∧ (¬ p1 = (-1) → Q I))
set_option maxRecDepth 20000 in
theorem cm_Life_countMissed {d : Nat} {I : am_TI} {L : am_TL} {R : am_TR}  (hw : am_Wf R)   {q : Nat} {p1 : Int32} {Q : am_TI → Prop} (hd : 0 ≤ d) (hq : am_SH[q]? = some (.inl 4)) (h : wp_Life_countMissed I L R q p1  Q) : am_Cm d 0 0 y_Life_countMissed b_Life_countMissed 2 (none) [.ref q, .int p1] (I, L, R, am_SH) (po_Life_countMissed L R Q) := by
  refine am_Cm_of (ini := false) (by decide +kernel) (fun z => by cases z) (by simp [Value.category]) (fun r σ' z => by obtain ⟨_, rfl, -⟩ := z; rfl) ?_
  unfold wp_Life_countMissed at h
  show am_Wp (d, "UnseenRing$Life", b_Life_countMissed, 2, false) 0 0 0 [some (.ref q), some (.int p1)] [] (I, L, R, am_SH) (po_Life_countMissed L R Q)
  refine am_iload_n (n := 1) d_Life_countMissed_0 rfl rfl ?_
  refine am_iconst (n := 2) d_Life_countMissed_1 ci_m1 rfl ?_
  refine am_icmp_ne (tgt := 15) (n := 5) d_Life_countMissed_2 rfl rfl (fun c1 => ?_) (fun c1 => ?_)
  · have h := h.2 c1
    exact am_vret d_Life_countMissed_15 ⟨I, rfl, rfl, h⟩
  · have h := h.1 c1
    refine am_aload_n (n := 6) d_Life_countMissed_5 rfl rfl ?_
    refine am_dup (n := 7) d_Life_countMissed_6 rfl rfl ?_
    refine am_getI (n := 10) f_Life_31 d_Life_countMissed_7 rfl rfl hq ?_
    refine am_iconst (n := 11) d_Life_countMissed_10 ci_1 rfl ?_
    refine am_iadd (n := 12) d_Life_countMissed_11 rfl ?_
    refine am_putI (n := 15) f_Life_31 d_Life_countMissed_12 rfl ⟨_, rfl, Or.inl rfl⟩ rfl rfl hq ?_
    generalize eI1 : am_u2 I q 5 ((I q 5) + 1) = I1
    have h := h I1 eI1.symm
    exact am_vret d_Life_countMissed_15 ⟨I1, rfl, rfl, h⟩
abbrev po_Life_draw (L : am_TL) (R : am_TR) (Q : Int32 → am_TI → Prop) : Option Value → am_St → Prop := fun r σ' => ∃ (x : Int32) (I' : am_TI), r = some (.int x) ∧ σ' = (I', L, R, am_SH) ∧ Q x I'
def wp_Life_draw (I : am_TI) (L : am_TL) (R : am_TR) (q : Nat) (p1 : Int32)  (Q : Int32 → am_TI → Prop) : Prop := (∀ I1, I1 = am_u2 I q 1 ((((I q 1) * 3257) + 11483) - (((I q 1) * 3257) + 11483) / 65536 * 65536) → ((p1 ≤ 0 → Q 0 I1) ∧ (¬ p1 ≤ 0 → (¬ p1 = 0 ∧ Q (((I1 q 1) / 8) - ((I1 q 1) / 8) / p1 * p1) I1))))
set_option maxRecDepth 20000 in
theorem cm_Life_draw {d : Nat} {I : am_TI} {L : am_TL} {R : am_TR}  (hw : am_Wf R)   {q : Nat} {p1 : Int32} {Q : Int32 → am_TI → Prop} (hd : 0 ≤ d) (hq : am_SH[q]? = some (.inl 4)) (h : wp_Life_draw I L R q p1  Q) : am_Cm d 0 0 y_Life_draw b_Life_draw 2 (some .int) [.ref q, .int p1] (I, L, R, am_SH) (po_Life_draw L R Q) := by
  refine am_Cm_of (ini := false) (by decide +kernel) (fun z => by cases z) (by simp [Value.category]) (fun r σ' z => by obtain ⟨x, _, rfl, -⟩ := z; exact ⟨_, rfl, rfl⟩) ?_
  unfold wp_Life_draw at h
  show am_Wp (d, "UnseenRing$Life", b_Life_draw, 2, false) 0 0 0 [some (.ref q), some (.int p1)] [] (I, L, R, am_SH) (po_Life_draw L R Q)
  refine am_aload_n (n := 1) d_Life_draw_0 rfl rfl ?_
  refine am_aload_n (n := 2) d_Life_draw_1 rfl rfl ?_
  refine am_getI (n := 5) f_Life_17 d_Life_draw_2 rfl rfl hq ?_
  refine am_sipush (n := 8) d_Life_draw_5 cs_3257 rfl ?_
  refine am_imul (n := 9) d_Life_draw_8 rfl ?_
  refine am_sipush (n := 12) d_Life_draw_9 cs_11483 rfl ?_
  refine am_iadd (n := 13) d_Life_draw_12 rfl ?_
  refine am_ldc (n := 15) d_Life_draw_13 k_Life_159 rfl ?_
  refine am_irem (n := 16) d_Life_draw_15 (by decide) rfl ?_
  refine am_putI (n := 19) f_Life_17 d_Life_draw_16 rfl ⟨_, rfl, Or.inl rfl⟩ rfl rfl hq ?_
  generalize eI1 : am_u2 I q 1 ((((I q 1) * 3257) + 11483) - (((I q 1) * 3257) + 11483) / 65536 * 65536) = I1
  have h := h I1 eI1.symm
  refine am_iload_n (n := 20) d_Life_draw_19 rfl rfl ?_
  refine am_if_le (y := 0) (tgt := 35) (n := 23) d_Life_draw_20 rfl rfl (fun c1 => ?_) (fun c1 => ?_)
  · have h := h.1 c1
    refine am_iconst (n := 36) d_Life_draw_35 ci_0 rfl ?_
    exact am_iret d_Life_draw_36 ⟨0, I1, rfl, rfl, h⟩
  · have h := h.2 c1
    refine am_aload_n (n := 24) d_Life_draw_23 rfl rfl ?_
    refine am_getI (n := 27) f_Life_17 d_Life_draw_24 rfl rfl hq ?_
    refine am_bipush (n := 29) d_Life_draw_27 cb_8 rfl ?_
    refine am_idiv (n := 30) d_Life_draw_29 (by decide) rfl ?_
    refine am_iload_n (n := 31) d_Life_draw_30 rfl rfl ?_
    obtain ⟨g1, h⟩ := h
    refine am_irem (n := 32) d_Life_draw_31 g1 rfl ?_
    refine am_goto (tgt := 36) d_Life_draw_32 rfl ?_
    exact am_iret d_Life_draw_36 ⟨(((I1 q 1) / 8) - ((I1 q 1) / 8) / p1 * p1), I1, rfl, rfl, h⟩
abbrev po_Life_drawAll (L : am_TL) (R : am_TR) (Q : am_TI → Prop) : Option Value → am_St → Prop := fun r σ' => ∃ (I' : am_TI), r = none ∧ σ' = (I', L, R, am_SH) ∧ Q I'
def wp_Life_drawAll (I : am_TI) (L : am_TL) (R : am_TR) (q : Nat) (p1 : Nat)  (Q : am_TI → Prop) : Prop := (((I p1 10) ≤ 0 → Q I) ∧ (¬ (I p1 10) ≤ 0 → wp_Life_draw I L R q (I p1 10) (fun (r1 : Int32) (I1 : am_TI) => (∀ I2, I2 = am_u2 I1 q 2 r1 → wp_Square_cells I2 L R p1 (fun (r2 : Int32) => wp_Life_draw I2 L R q r2 (fun (r3 : Int32) (I3 : am_TI) => (∀ I4, I4 = am_u2 I3 q 3 r3 → wp_Life_draw I4 L R q 16 (fun (r4 : Int32) (I5 : am_TI) => (((I5 p1 8) ≤ r4 → (∀ I6, I6 = am_u2 I5 q 4 0 → Q I6)) ∧ (¬ (I5 p1 8) ≤ r4 → (∀ I7, I7 = am_u2 I5 q 4 1 → Q I7)))))))))))
set_option maxRecDepth 20000 in
theorem cm_Life_drawAll {d : Nat} {I : am_TI} {L : am_TL} {R : am_TR}  (hw : am_Wf R)   {q : Nat} {p1 : Nat} {Q : am_TI → Prop} (hd : 1 ≤ d) (hq : am_SH[q]? = some (.inl 4)) (hp1 : am_SH[p1]? = some (.inl 7)) (h : wp_Life_drawAll I L R q p1  Q) : am_Cm d 0 0 y_Life_drawAll b_Life_drawAll 2 (none) [.ref q, .ref p1] (I, L, R, am_SH) (po_Life_drawAll L R Q) := by
  refine am_Cm_of (ini := false) (by decide +kernel) (fun z => by cases z) (by simp [Value.category]) (fun r σ' z => by obtain ⟨_, rfl, -⟩ := z; rfl) ?_
  unfold wp_Life_drawAll at h
  show am_Wp (d, "UnseenRing$Life", b_Life_drawAll, 2, false) 0 0 0 [some (.ref q), some (.ref p1)] [] (I, L, R, am_SH) (po_Life_drawAll L R Q)
  refine am_aload_n (n := 1) d_Life_drawAll_0 rfl rfl ?_
  refine am_getI (n := 4) f_Life_141 d_Life_drawAll_1 rfl rfl hp1 ?_
  refine am_if_le (y := 0) (tgt := 53) (n := 7) d_Life_drawAll_4 rfl rfl (fun c1 => ?_) (fun c1 => ?_)
  · have h := h.1 c1
    exact am_vret d_Life_drawAll_53 ⟨I, rfl, rfl, h⟩
  · have h := h.2 c1
    refine am_aload_n (n := 8) d_Life_drawAll_7 rfl rfl ?_
    refine am_aload_n (n := 9) d_Life_drawAll_8 rfl rfl ?_
    refine am_aload_n (n := 10) d_Life_drawAll_9 rfl rfl ?_
    refine am_getI (n := 13) f_Life_141 d_Life_drawAll_10 rfl rfl hp1 ?_
    refine am_callV (kc := 0) (ks := 0) (As := [.int (I p1 10)]) (n := 16) d_Life_drawAll_13 rfl ce_Life_draw lk_Life_144 in_Life_draw rfl rfl hq rfl rfl (Nat.le_of_ble_eq_true rfl) (Or.inl rfl) (cm_Life_draw (d := d - 1) hw (by omega) hq h) (by omega) ?_
    rintro _ _ ⟨r1, I1, rfl, rfl, h⟩
    show am_Wp (d, "UnseenRing$Life", b_Life_drawAll, 2, false) 0 0 16 [some (.ref q), some (.ref p1)] [.int r1, .ref q] (I1, L, R, am_SH) (po_Life_drawAll L R Q)
    refine am_putI (n := 19) f_Life_21 d_Life_drawAll_16 rfl ⟨_, rfl, Or.inl rfl⟩ rfl rfl hq ?_
    generalize eI2 : am_u2 I1 q 2 r1 = I2
    have h := h I2 eI2.symm
    refine am_aload_n (n := 20) d_Life_drawAll_19 rfl rfl ?_
    refine am_aload_n (n := 21) d_Life_drawAll_20 rfl rfl ?_
    refine am_aload_n (n := 22) d_Life_drawAll_21 rfl rfl ?_
    refine am_callV (kc := 0) (ks := 0) (As := []) (n := 25) d_Life_drawAll_22 rfl ce_Square_cells lk_Life_147 in_Square_cells rfl rfl hp1 rfl rfl (Nat.le_of_ble_eq_true rfl) (Or.inl rfl) (cm_Square_cells (d := d - 1) hw (by omega) hp1 h) (by omega) ?_
    rintro _ _ ⟨r2, rfl, rfl, h⟩
    show am_Wp (d, "UnseenRing$Life", b_Life_drawAll, 2, false) 0 0 25 [some (.ref q), some (.ref p1)] [.int r2, .ref q, .ref q] (I2, L, R, am_SH) (po_Life_drawAll L R Q)
    refine am_callV (kc := 0) (ks := 0) (As := [.int r2]) (n := 28) d_Life_drawAll_25 rfl ce_Life_draw lk_Life_144 in_Life_draw rfl rfl hq rfl rfl (Nat.le_of_ble_eq_true rfl) (Or.inl rfl) (cm_Life_draw (d := d - 1) hw (by omega) hq h) (by omega) ?_
    rintro _ _ ⟨r3, I3, rfl, rfl, h⟩
    show am_Wp (d, "UnseenRing$Life", b_Life_drawAll, 2, false) 0 0 28 [some (.ref q), some (.ref p1)] [.int r3, .ref q] (I3, L, R, am_SH) (po_Life_drawAll L R Q)
    refine am_putI (n := 31) f_Life_24 d_Life_drawAll_28 rfl ⟨_, rfl, Or.inl rfl⟩ rfl rfl hq ?_
    generalize eI4 : am_u2 I3 q 3 r3 = I4
    have h := h I4 eI4.symm
    refine am_aload_n (n := 32) d_Life_drawAll_31 rfl rfl ?_
    refine am_aload_n (n := 33) d_Life_drawAll_32 rfl rfl ?_
    refine am_bipush (n := 35) d_Life_drawAll_33 cb_16 rfl ?_
    refine am_callV (kc := 0) (ks := 0) (As := [.int 16]) (n := 38) d_Life_drawAll_35 rfl ce_Life_draw lk_Life_144 in_Life_draw rfl rfl hq rfl rfl (Nat.le_of_ble_eq_true rfl) (Or.inl rfl) (cm_Life_draw (d := d - 1) hw (by omega) hq h) (by omega) ?_
    rintro _ _ ⟨r4, I5, rfl, rfl, h⟩
    show am_Wp (d, "UnseenRing$Life", b_Life_drawAll, 2, false) 0 0 38 [some (.ref q), some (.ref p1)] [.int r4, .ref q] (I5, L, R, am_SH) (po_Life_drawAll L R Q)
    refine am_aload_n (n := 39) d_Life_drawAll_38 rfl rfl ?_
    refine am_getI (n := 42) f_Life_150 d_Life_drawAll_39 rfl rfl hp1 ?_
    refine am_icmp_ge (tgt := 49) (n := 45) d_Life_drawAll_42 rfl rfl (fun c2 => ?_) (fun c2 => ?_)
    · have h := h.1 c2
      refine am_iconst (n := 50) d_Life_drawAll_49 ci_0 rfl ?_
      refine am_putZ (n := 53) f_Life_27 d_Life_drawAll_50 rfl ⟨_, rfl, Or.inl rfl⟩ rfl rfl hq (Or.inl rfl) ?_
      generalize eI6 : am_u2 I5 q 4 0 = I6
      have h := h I6 eI6.symm
      exact am_vret d_Life_drawAll_53 ⟨I6, rfl, rfl, h⟩
    · have h := h.2 c2
      refine am_iconst (n := 46) d_Life_drawAll_45 ci_1 rfl ?_
      refine am_goto (tgt := 50) d_Life_drawAll_46 rfl ?_
      refine am_putZ (n := 53) f_Life_27 d_Life_drawAll_50 rfl ⟨_, rfl, Or.inl rfl⟩ rfl rfl hq (Or.inr rfl) ?_
      generalize eI7 : am_u2 I5 q 4 1 = I7
      have h := h I7 eI7.symm
      exact am_vret d_Life_drawAll_53 ⟨I7, rfl, rfl, h⟩
abbrev po_Life_playOne (L : am_TL) (R : am_TR) (Q : am_TI → Prop) : Option Value → am_St → Prop := fun r σ' => ∃ (I' : am_TI), r = none ∧ σ' = (I', L, R, am_SH) ∧ Q I'
def wp_Life_playOne (I : am_TI) (L : am_TL) (R : am_TR) (q : Nat) (p1 : Nat) (p2 : Int32)  (Q : am_TI → Prop) : Prop := wp_Square_playTune I L R p1 p2 (fun (r1 : Int32) (I1 : am_TI) => ((r1 = (-1) → (∀ I4, I4 = am_u2 I1 q 5 ((I1 q 5) + 1) → Q I4)) ∧ (¬ r1 = (-1) → (∀ I2, I2 = am_u2 I1 q 6 ((I1 q 6) + 1) → (∀ I3, I3 = am_u2 I2 q 7 ((I2 q 7) + r1) → Q I3)))))
set_option maxRecDepth 20000 in
theorem cm_Life_playOne {d : Nat} {I : am_TI} {L : am_TL} {R : am_TR}  (hw : am_Wf R)   {q : Nat} {p1 : Nat} {p2 : Int32} {Q : am_TI → Prop} (hd : 3 ≤ d) (hq : am_SH[q]? = some (.inl 4)) (hp1 : am_SH[p1]? = some (.inl 7)) (h : wp_Life_playOne I L R q p1 p2  Q) : am_Cm d 0 0 y_Life_playOne b_Life_playOne 4 (none) [.ref q, .ref p1, .int p2] (I, L, R, am_SH) (po_Life_playOne L R Q) := by
  refine am_Cm_of (ini := false) (by decide +kernel) (fun z => by cases z) (by simp [Value.category]) (fun r σ' z => by obtain ⟨_, rfl, -⟩ := z; rfl) ?_
  unfold wp_Life_playOne at h
  show am_Wp (d, "UnseenRing$Life", b_Life_playOne, 4, false) 0 0 0 [some (.ref q), some (.ref p1), some (.int p2), none] [] (I, L, R, am_SH) (po_Life_playOne L R Q)
  refine am_aload_n (n := 1) d_Life_playOne_0 rfl rfl ?_
  refine am_iload_n (n := 2) d_Life_playOne_1 rfl rfl ?_
  refine am_callV (kc := 0) (ks := 0) (As := [.int p2]) (n := 5) d_Life_playOne_2 rfl ce_Square_playTune lk_Life_153 in_Square_playTune rfl rfl hp1 rfl rfl (Nat.le_of_ble_eq_true rfl) (Or.inl rfl) (cm_Square_playTune (d := d - 1) hw (by omega) hp1 h) (by omega) ?_
  rintro _ _ ⟨r1, I1, rfl, rfl, h⟩
  show am_Wp (d, "UnseenRing$Life", b_Life_playOne, 4, false) 0 0 5 [some (.ref q), some (.ref p1), some (.int p2), none] [.int r1] (I1, L, R, am_SH) (po_Life_playOne L R Q)
  refine am_istore_n (ls' := [some (.ref q), some (.ref p1), some (.int p2), some (.int r1)]) (n := 6) d_Life_playOne_5 (by decide) rfl rfl ?_
  refine am_iload_n (n := 7) d_Life_playOne_6 rfl rfl ?_
  refine am_iconst (n := 8) d_Life_playOne_7 ci_m1 rfl ?_
  refine am_icmp_ne (tgt := 24) (n := 11) d_Life_playOne_8 rfl rfl (fun c1 => ?_) (fun c1 => ?_)
  · have h := h.2 c1
    refine am_aload_n (n := 25) d_Life_playOne_24 rfl rfl ?_
    refine am_dup (n := 26) d_Life_playOne_25 rfl rfl ?_
    refine am_getI (n := 29) f_Life_34 d_Life_playOne_26 rfl rfl hq ?_
    refine am_iconst (n := 30) d_Life_playOne_29 ci_1 rfl ?_
    refine am_iadd (n := 31) d_Life_playOne_30 rfl ?_
    refine am_putI (n := 34) f_Life_34 d_Life_playOne_31 rfl ⟨_, rfl, Or.inl rfl⟩ rfl rfl hq ?_
    generalize eI2 : am_u2 I1 q 6 ((I1 q 6) + 1) = I2
    have h := h I2 eI2.symm
    refine am_aload_n (n := 35) d_Life_playOne_34 rfl rfl ?_
    refine am_dup (n := 36) d_Life_playOne_35 rfl rfl ?_
    refine am_getI (n := 39) f_Life_37 d_Life_playOne_36 rfl rfl hq ?_
    refine am_iload_n (n := 40) d_Life_playOne_39 rfl rfl ?_
    refine am_iadd (n := 41) d_Life_playOne_40 rfl ?_
    refine am_putI (n := 44) f_Life_37 d_Life_playOne_41 rfl ⟨_, rfl, Or.inl rfl⟩ rfl rfl hq ?_
    generalize eI3 : am_u2 I2 q 7 ((I2 q 7) + r1) = I3
    have h := h I3 eI3.symm
    exact am_vret d_Life_playOne_44 ⟨I3, rfl, rfl, h⟩
  · have h := h.1 c1
    refine am_aload_n (n := 12) d_Life_playOne_11 rfl rfl ?_
    refine am_dup (n := 13) d_Life_playOne_12 rfl rfl ?_
    refine am_getI (n := 16) f_Life_31 d_Life_playOne_13 rfl rfl hq ?_
    refine am_iconst (n := 17) d_Life_playOne_16 ci_1 rfl ?_
    refine am_iadd (n := 18) d_Life_playOne_17 rfl ?_
    refine am_putI (n := 21) f_Life_31 d_Life_playOne_18 rfl ⟨_, rfl, Or.inl rfl⟩ rfl rfl hq ?_
    generalize eI4 : am_u2 I1 q 5 ((I1 q 5) + 1) = I4
    have h := h I4 eI4.symm
    refine am_goto (tgt := 44) d_Life_playOne_21 rfl ?_
    exact am_vret d_Life_playOne_44 ⟨I4, rfl, rfl, h⟩
abbrev po_Life_throwOne (L : am_TL) (R : am_TR) (Q : am_TI → Prop) : Option Value → am_St → Prop := fun r σ' => ∃ (I' : am_TI), r = none ∧ σ' = (I', L, R, am_SH) ∧ Q I'
def wp_Life_throwOne (I : am_TI) (L : am_TL) (R : am_TR) (q : Nat) (p1 : Nat) (p2 : Int32)  (Q : am_TI → Prop) : Prop := wp_Square_flour I L R p1 p2 (fun (r1 : Int32) (I1 : am_TI) => ((r1 = (-1) → (∀ I3, I3 = am_u2 I1 q 5 ((I1 q 5) + 1) → Q I3)) ∧ (¬ r1 = (-1) → (∀ I2, I2 = am_u2 I1 q 8 ((I1 q 8) + 1) → Q I2))))
set_option maxRecDepth 20000 in
theorem cm_Life_throwOne {d : Nat} {I : am_TI} {L : am_TL} {R : am_TR}  (hw : am_Wf R)   {q : Nat} {p1 : Nat} {p2 : Int32} {Q : am_TI → Prop} (hd : 4 ≤ d) (hq : am_SH[q]? = some (.inl 4)) (hp1 : am_SH[p1]? = some (.inl 7)) (h : wp_Life_throwOne I L R q p1 p2  Q) : am_Cm d 0 0 y_Life_throwOne b_Life_throwOne 3 (none) [.ref q, .ref p1, .int p2] (I, L, R, am_SH) (po_Life_throwOne L R Q) := by
  refine am_Cm_of (ini := false) (by decide +kernel) (fun z => by cases z) (by simp [Value.category]) (fun r σ' z => by obtain ⟨_, rfl, -⟩ := z; rfl) ?_
  unfold wp_Life_throwOne at h
  show am_Wp (d, "UnseenRing$Life", b_Life_throwOne, 3, false) 0 0 0 [some (.ref q), some (.ref p1), some (.int p2)] [] (I, L, R, am_SH) (po_Life_throwOne L R Q)
  refine am_aload_n (n := 1) d_Life_throwOne_0 rfl rfl ?_
  refine am_iload_n (n := 2) d_Life_throwOne_1 rfl rfl ?_
  refine am_callV (kc := 0) (ks := 0) (As := [.int p2]) (n := 5) d_Life_throwOne_2 rfl ce_Square_flour lk_Life_156 in_Square_flour rfl rfl hp1 rfl rfl (Nat.le_of_ble_eq_true rfl) (Or.inl rfl) (cm_Square_flour (d := d - 1) hw (by omega) hp1 h) (by omega) ?_
  rintro _ _ ⟨r1, I1, rfl, rfl, h⟩
  show am_Wp (d, "UnseenRing$Life", b_Life_throwOne, 3, false) 0 0 5 [some (.ref q), some (.ref p1), some (.int p2)] [.int r1] (I1, L, R, am_SH) (po_Life_throwOne L R Q)
  refine am_iconst (n := 6) d_Life_throwOne_5 ci_m1 rfl ?_
  refine am_icmp_ne (tgt := 22) (n := 9) d_Life_throwOne_6 rfl rfl (fun c1 => ?_) (fun c1 => ?_)
  · have h := h.2 c1
    refine am_aload_n (n := 23) d_Life_throwOne_22 rfl rfl ?_
    refine am_dup (n := 24) d_Life_throwOne_23 rfl rfl ?_
    refine am_getI (n := 27) f_Life_40 d_Life_throwOne_24 rfl rfl hq ?_
    refine am_iconst (n := 28) d_Life_throwOne_27 ci_1 rfl ?_
    refine am_iadd (n := 29) d_Life_throwOne_28 rfl ?_
    refine am_putI (n := 32) f_Life_40 d_Life_throwOne_29 rfl ⟨_, rfl, Or.inl rfl⟩ rfl rfl hq ?_
    generalize eI2 : am_u2 I1 q 8 ((I1 q 8) + 1) = I2
    have h := h I2 eI2.symm
    exact am_vret d_Life_throwOne_32 ⟨I2, rfl, rfl, h⟩
  · have h := h.1 c1
    refine am_aload_n (n := 10) d_Life_throwOne_9 rfl rfl ?_
    refine am_dup (n := 11) d_Life_throwOne_10 rfl rfl ?_
    refine am_getI (n := 14) f_Life_31 d_Life_throwOne_11 rfl rfl hq ?_
    refine am_iconst (n := 15) d_Life_throwOne_14 ci_1 rfl ?_
    refine am_iadd (n := 16) d_Life_throwOne_15 rfl ?_
    refine am_putI (n := 19) f_Life_31 d_Life_throwOne_16 rfl ⟨_, rfl, Or.inl rfl⟩ rfl rfl hq ?_
    generalize eI3 : am_u2 I1 q 5 ((I1 q 5) + 1) = I3
    have h := h I3 eI3.symm
    refine am_goto (tgt := 32) d_Life_throwOne_19 rfl ?_
    exact am_vret d_Life_throwOne_32 ⟨I3, rfl, rfl, h⟩
abbrev po_Life_act (L : am_TL) (R : am_TR) (Q : am_TI → Prop) : Option Value → am_St → Prop := fun r σ' => ∃ (I' : am_TI), r = none ∧ σ' = (I', L, R, am_SH) ∧ Q I'
def wp_Life_act (I : am_TI) (L : am_TL) (R : am_TR) (q : Nat) (p1 : Nat) (p2 : Int32)  (Q : am_TI → Prop) : Prop := (vp_in p2 60 ∧ (vp_in p2 60 ∧ (((I ((am_rd R p1 5) + 1) (Int32.toNatClampNeg p2)) = 10 → wp_Life_playOne I L R q p1 (I ((am_rd R p1 5) + 2) (Int32.toNatClampNeg p2)) (fun (I1 : am_TI) => Q I1)) ∧ ((I ((am_rd R p1 5) + 1) (Int32.toNatClampNeg p2)) = 11 → wp_Square_moveOrgan I L R p1 (I ((am_rd R p1 5) + 2) (Int32.toNatClampNeg p2)) (fun (r1 : Int32) (I2 : am_TI) => wp_Life_countMissed I2 L R q r1 (fun (I3 : am_TI) => Q I3))) ∧ ((I ((am_rd R p1 5) + 1) (Int32.toNatClampNeg p2)) = 12 → wp_Life_throwOne I L R q p1 (I ((am_rd R p1 5) + 2) (Int32.toNatClampNeg p2)) (fun (I4 : am_TI) => Q I4)) ∧ ((I ((am_rd R p1 5) + 1) (Int32.toNatClampNeg p2)) = 13 → wp_Square_brushOff I L R p1 (fun (r2 : Int32) (I5 : am_TI) => wp_Life_countMissed I5 L R q r2 (fun (I6 : am_TI) => Q I6))) ∧ ((I ((am_rd R p1 5) + 1) (Int32.toNatClampNeg p2)) = 14 → (vp_in p2 60 ∧ wp_Square_moveHearer I L R p1 (I ((am_rd R p1 5) + 2) (Int32.toNatClampNeg p2)) (I ((am_rd R p1 5) + 3) (Int32.toNatClampNeg p2)) (fun (r3 : Int32) (I7 : am_TI) => wp_Life_countMissed I7 L R q r3 (fun (I8 : am_TI) => Q I8)))) ∧ ((I ((am_rd R p1 5) + 1) (Int32.toNatClampNeg p2)) = 15 → wp_Square_emptyCup I L R p1 (fun (r4 : Int32) (I9 : am_TI) => wp_Life_countMissed I9 L R q r4 (fun (I10 : am_TI) => Q I10))) ∧ ((I ((am_rd R p1 5) + 1) (Int32.toNatClampNeg p2)) = 16 → wp_Life_drawAll I L R q p1 (fun (I11 : am_TI) => (((I11 p1 10) = 0 → (∀ I14, I14 = am_u2 I11 q 5 ((I11 q 5) + 1) → Q I14)) ∧ (¬ (I11 p1 10) = 0 → (((I11 q 4) = 0 → wp_Life_throwOne I11 L R q p1 (I11 q 3) (fun (I12 : am_TI) => Q I12)) ∧ (¬ (I11 q 4) = 0 → wp_Life_playOne I11 L R q p1 (I11 q 2) (fun (I13 : am_TI) => Q I13))))))) ∧ (¬ (I ((am_rd R p1 5) + 1) (Int32.toNatClampNeg p2)) = 10 → ¬ (I ((am_rd R p1 5) + 1) (Int32.toNatClampNeg p2)) = 11 → ¬ (I ((am_rd R p1 5) + 1) (Int32.toNatClampNeg p2)) = 12 → ¬ (I ((am_rd R p1 5) + 1) (Int32.toNatClampNeg p2)) = 13 → ¬ (I ((am_rd R p1 5) + 1) (Int32.toNatClampNeg p2)) = 14 → ¬ (I ((am_rd R p1 5) + 1) (Int32.toNatClampNeg p2)) = 15 → ¬ (I ((am_rd R p1 5) + 1) (Int32.toNatClampNeg p2)) = 16 → Q I))))
set_option maxRecDepth 20000 in
theorem cm_Life_act {d : Nat} {I : am_TI} {L : am_TL} {R : am_TR}  (hw : am_Wf R)   {q : Nat} {p1 : Nat} {p2 : Int32} {Q : am_TI → Prop} (hd : 5 ≤ d) (hq : am_SH[q]? = some (.inl 4)) (hp1 : am_SH[p1]? = some (.inl 7)) (h : wp_Life_act I L R q p1 p2  Q) : am_Cm d 0 0 y_Life_act b_Life_act 4 (none) [.ref q, .ref p1, .int p2] (I, L, R, am_SH) (po_Life_act L R Q) := by
  refine am_Cm_of (ini := false) (by decide +kernel) (fun z => by cases z) (by simp [Value.category]) (fun r σ' z => by obtain ⟨_, rfl, -⟩ := z; rfl) ?_
  unfold wp_Life_act at h
  show am_Wp (d, "UnseenRing$Life", b_Life_act, 4, false) 0 0 0 [some (.ref q), some (.ref p1), some (.int p2), none] [] (I, L, R, am_SH) (po_Life_act L R Q)
  refine am_aload_n (n := 1) d_Life_act_0 rfl rfl ?_
  refine am_getR (x := (am_rd R p1 5)) (n := 4) f_Life_52 d_Life_act_1 rfl rfl hp1 (hw.rd (k := 5) hp1 rfl).1 ?_
  refine am_getR (x := ((am_rd R p1 5) + 2)) (n := 7) f_Life_82 d_Life_act_4 rfl rfl (hw.rd (k := 5) hp1 rfl).2 (hw.1 (am_rd R p1 5) 1 1 2 (hw.rd (k := 5) hp1 rfl).2 rfl) ?_
  refine am_iload_n (n := 8) d_Life_act_7 rfl rfl ?_
  obtain ⟨g1, h⟩ := h
  refine am_iald2 (n := 9) d_Life_act_8 rfl (am_sho (k := 1) (o := 2) (hw.rd (k := 5) hp1 rfl).2 (by decide) (by decide) (by decide) rfl) g1 rfl ?_
  refine am_istore_n (ls' := [some (.ref q), some (.ref p1), some (.int p2), some (.int (I ((am_rd R p1 5) + 2) (Int32.toNatClampNeg p2)))]) (n := 10) d_Life_act_9 (by decide) rfl rfl ?_
  refine am_aload_n (n := 11) d_Life_act_10 rfl rfl ?_
  refine am_getR (x := (am_rd R p1 5)) (n := 14) f_Life_52 d_Life_act_11 rfl rfl hp1 (hw.rd (k := 5) hp1 rfl).1 ?_
  refine am_getR (x := ((am_rd R p1 5) + 1)) (n := 17) f_Life_62 d_Life_act_14 rfl rfl (hw.rd (k := 5) hp1 rfl).2 (hw.1 (am_rd R p1 5) 1 0 1 (hw.rd (k := 5) hp1 rfl).2 rfl) ?_
  refine am_iload_n (n := 18) d_Life_act_17 rfl rfl ?_
  obtain ⟨g2, h⟩ := h
  refine am_iald2 (n := 19) d_Life_act_18 rfl (am_sho (k := 0) (o := 1) (hw.rd (k := 5) hp1 rfl).2 (by decide) (by decide) (by decide) rfl) g2 rfl ?_
  by_cases c1 : (I ((am_rd R p1 5) + 1) (Int32.toNatClampNeg p2)) = 10
  · have h := h.1 c1
    refine am_tableIn (off := 41) (tgt := 60) d_Life_act_19 (by rw [c1]; decide) (by rw [c1]; decide) (by rw [c1]; decide +kernel) rfl ?_
    refine am_aload_n (n := 61) d_Life_act_60 rfl rfl ?_
    refine am_aload_n (n := 62) d_Life_act_61 rfl rfl ?_
    refine am_iload_n (n := 63) d_Life_act_62 rfl rfl ?_
    refine am_callV (kc := 0) (ks := 0) (As := [.ref p1, .int (I ((am_rd R p1 5) + 2) (Int32.toNatClampNeg p2))]) (n := 66) d_Life_act_63 rfl ce_Life_playOne lk_Life_113 in_Life_playOne rfl rfl hq rfl rfl (Nat.le_of_ble_eq_true rfl) (Or.inl rfl) (cm_Life_playOne (d := d - 1) hw (by omega) hq hp1 h) (by omega) ?_
    rintro _ _ ⟨I1, rfl, rfl, h⟩
    show am_Wp (d, "UnseenRing$Life", b_Life_act, 4, false) 0 0 66 [some (.ref q), some (.ref p1), some (.int p2), some (.int (I ((am_rd R p1 5) + 2) (Int32.toNatClampNeg p2)))] [] (I1, L, R, am_SH) (po_Life_act L R Q)
    refine am_goto (tgt := 189) d_Life_act_66 rfl ?_
    exact am_vret d_Life_act_189 ⟨I1, rfl, rfl, h⟩
  by_cases c2 : (I ((am_rd R p1 5) + 1) (Int32.toNatClampNeg p2)) = 11
  · have h := h.2.1 c2
    refine am_tableIn (off := 59) (tgt := 78) d_Life_act_19 (by rw [c2]; decide) (by rw [c2]; decide) (by rw [c2]; decide +kernel) rfl ?_
    refine am_aload_n (n := 79) d_Life_act_78 rfl rfl ?_
    refine am_aload_n (n := 80) d_Life_act_79 rfl rfl ?_
    refine am_iload_n (n := 81) d_Life_act_80 rfl rfl ?_
    refine am_callV (kc := 0) (ks := 0) (As := [.int (I ((am_rd R p1 5) + 2) (Int32.toNatClampNeg p2))]) (n := 84) d_Life_act_81 rfl ce_Square_moveOrgan lk_Life_119 in_Square_moveOrgan rfl rfl hp1 rfl rfl (Nat.le_of_ble_eq_true rfl) (Or.inl rfl) (cm_Square_moveOrgan (d := d - 1) hw (by omega) hp1 h) (by omega) ?_
    rintro _ _ ⟨r1, I2, rfl, rfl, h⟩
    show am_Wp (d, "UnseenRing$Life", b_Life_act, 4, false) 0 0 84 [some (.ref q), some (.ref p1), some (.int p2), some (.int (I ((am_rd R p1 5) + 2) (Int32.toNatClampNeg p2)))] [.int r1, .ref q] (I2, L, R, am_SH) (po_Life_act L R Q)
    refine am_callV (kc := 0) (ks := 0) (As := [.int r1]) (n := 87) d_Life_act_84 rfl ce_Life_countMissed lk_Life_122 in_Life_countMissed rfl rfl hq rfl rfl (Nat.le_of_ble_eq_true rfl) (Or.inl rfl) (cm_Life_countMissed (d := d - 1) hw (by omega) hq h) (by omega) ?_
    rintro _ _ ⟨I3, rfl, rfl, h⟩
    show am_Wp (d, "UnseenRing$Life", b_Life_act, 4, false) 0 0 87 [some (.ref q), some (.ref p1), some (.int p2), some (.int (I ((am_rd R p1 5) + 2) (Int32.toNatClampNeg p2)))] [] (I3, L, R, am_SH) (po_Life_act L R Q)
    refine am_goto (tgt := 189) d_Life_act_87 rfl ?_
    exact am_vret d_Life_act_189 ⟨I3, rfl, rfl, h⟩
  by_cases c3 : (I ((am_rd R p1 5) + 1) (Int32.toNatClampNeg p2)) = 12
  · have h := h.2.2.1 c3
    refine am_tableIn (off := 50) (tgt := 69) d_Life_act_19 (by rw [c3]; decide) (by rw [c3]; decide) (by rw [c3]; decide +kernel) rfl ?_
    refine am_aload_n (n := 70) d_Life_act_69 rfl rfl ?_
    refine am_aload_n (n := 71) d_Life_act_70 rfl rfl ?_
    refine am_iload_n (n := 72) d_Life_act_71 rfl rfl ?_
    refine am_callV (kc := 0) (ks := 0) (As := [.ref p1, .int (I ((am_rd R p1 5) + 2) (Int32.toNatClampNeg p2))]) (n := 75) d_Life_act_72 rfl ce_Life_throwOne lk_Life_116 in_Life_throwOne rfl rfl hq rfl rfl (Nat.le_of_ble_eq_true rfl) (Or.inl rfl) (cm_Life_throwOne (d := d - 1) hw (by omega) hq hp1 h) (by omega) ?_
    rintro _ _ ⟨I4, rfl, rfl, h⟩
    show am_Wp (d, "UnseenRing$Life", b_Life_act, 4, false) 0 0 75 [some (.ref q), some (.ref p1), some (.int p2), some (.int (I ((am_rd R p1 5) + 2) (Int32.toNatClampNeg p2)))] [] (I4, L, R, am_SH) (po_Life_act L R Q)
    refine am_goto (tgt := 189) d_Life_act_75 rfl ?_
    exact am_vret d_Life_act_189 ⟨I4, rfl, rfl, h⟩
  by_cases c4 : (I ((am_rd R p1 5) + 1) (Int32.toNatClampNeg p2)) = 13
  · have h := h.2.2.2.1 c4
    refine am_tableIn (off := 92) (tgt := 111) d_Life_act_19 (by rw [c4]; decide) (by rw [c4]; decide) (by rw [c4]; decide +kernel) rfl ?_
    refine am_aload_n (n := 112) d_Life_act_111 rfl rfl ?_
    refine am_aload_n (n := 113) d_Life_act_112 rfl rfl ?_
    refine am_callV (kc := 0) (ks := 0) (As := []) (n := 116) d_Life_act_113 rfl ce_Square_brushOff lk_Life_130 in_Square_brushOff rfl rfl hp1 rfl rfl (Nat.le_of_ble_eq_true rfl) (Or.inl rfl) (cm_Square_brushOff (d := d - 1) hw (by omega) hp1 h) (by omega) ?_
    rintro _ _ ⟨r2, I5, rfl, rfl, h⟩
    show am_Wp (d, "UnseenRing$Life", b_Life_act, 4, false) 0 0 116 [some (.ref q), some (.ref p1), some (.int p2), some (.int (I ((am_rd R p1 5) + 2) (Int32.toNatClampNeg p2)))] [.int r2, .ref q] (I5, L, R, am_SH) (po_Life_act L R Q)
    refine am_callV (kc := 0) (ks := 0) (As := [.int r2]) (n := 119) d_Life_act_116 rfl ce_Life_countMissed lk_Life_122 in_Life_countMissed rfl rfl hq rfl rfl (Nat.le_of_ble_eq_true rfl) (Or.inl rfl) (cm_Life_countMissed (d := d - 1) hw (by omega) hq h) (by omega) ?_
    rintro _ _ ⟨I6, rfl, rfl, h⟩
    show am_Wp (d, "UnseenRing$Life", b_Life_act, 4, false) 0 0 119 [some (.ref q), some (.ref p1), some (.int p2), some (.int (I ((am_rd R p1 5) + 2) (Int32.toNatClampNeg p2)))] [] (I6, L, R, am_SH) (po_Life_act L R Q)
    refine am_goto (tgt := 189) d_Life_act_119 rfl ?_
    exact am_vret d_Life_act_189 ⟨I6, rfl, rfl, h⟩
  by_cases c5 : (I ((am_rd R p1 5) + 1) (Int32.toNatClampNeg p2)) = 14
  · have h := h.2.2.2.2.1 c5
    refine am_tableIn (off := 71) (tgt := 90) d_Life_act_19 (by rw [c5]; decide) (by rw [c5]; decide) (by rw [c5]; decide +kernel) rfl ?_
    refine am_aload_n (n := 91) d_Life_act_90 rfl rfl ?_
    refine am_aload_n (n := 92) d_Life_act_91 rfl rfl ?_
    refine am_iload_n (n := 93) d_Life_act_92 rfl rfl ?_
    refine am_aload_n (n := 94) d_Life_act_93 rfl rfl ?_
    refine am_getR (x := (am_rd R p1 5)) (n := 97) f_Life_52 d_Life_act_94 rfl rfl hp1 (hw.rd (k := 5) hp1 rfl).1 ?_
    refine am_getR (x := ((am_rd R p1 5) + 3)) (n := 100) f_Life_102 d_Life_act_97 rfl rfl (hw.rd (k := 5) hp1 rfl).2 (hw.1 (am_rd R p1 5) 1 2 3 (hw.rd (k := 5) hp1 rfl).2 rfl) ?_
    refine am_iload_n (n := 101) d_Life_act_100 rfl rfl ?_
    obtain ⟨g3, h⟩ := h
    refine am_iald2 (n := 102) d_Life_act_101 rfl (am_sho (k := 2) (o := 3) (hw.rd (k := 5) hp1 rfl).2 (by decide) (by decide) (by decide) rfl) g3 rfl ?_
    refine am_callV (kc := 0) (ks := 0) (As := [.int (I ((am_rd R p1 5) + 2) (Int32.toNatClampNeg p2)), .int (I ((am_rd R p1 5) + 3) (Int32.toNatClampNeg p2))]) (n := 105) d_Life_act_102 rfl ce_Square_moveHearer lk_Life_126 in_Square_moveHearer rfl rfl hp1 rfl rfl (Nat.le_of_ble_eq_true rfl) (Or.inl rfl) (cm_Square_moveHearer (d := d - 1) hw (by omega) hp1 h) (by omega) ?_
    rintro _ _ ⟨r3, I7, rfl, rfl, h⟩
    show am_Wp (d, "UnseenRing$Life", b_Life_act, 4, false) 0 0 105 [some (.ref q), some (.ref p1), some (.int p2), some (.int (I ((am_rd R p1 5) + 2) (Int32.toNatClampNeg p2)))] [.int r3, .ref q] (I7, L, R, am_SH) (po_Life_act L R Q)
    refine am_callV (kc := 0) (ks := 0) (As := [.int r3]) (n := 108) d_Life_act_105 rfl ce_Life_countMissed lk_Life_122 in_Life_countMissed rfl rfl hq rfl rfl (Nat.le_of_ble_eq_true rfl) (Or.inl rfl) (cm_Life_countMissed (d := d - 1) hw (by omega) hq h) (by omega) ?_
    rintro _ _ ⟨I8, rfl, rfl, h⟩
    show am_Wp (d, "UnseenRing$Life", b_Life_act, 4, false) 0 0 108 [some (.ref q), some (.ref p1), some (.int p2), some (.int (I ((am_rd R p1 5) + 2) (Int32.toNatClampNeg p2)))] [] (I8, L, R, am_SH) (po_Life_act L R Q)
    refine am_goto (tgt := 189) d_Life_act_108 rfl ?_
    exact am_vret d_Life_act_189 ⟨I8, rfl, rfl, h⟩
  by_cases c6 : (I ((am_rd R p1 5) + 1) (Int32.toNatClampNeg p2)) = 15
  · have h := h.2.2.2.2.2.1 c6
    refine am_tableIn (off := 103) (tgt := 122) d_Life_act_19 (by rw [c6]; decide) (by rw [c6]; decide) (by rw [c6]; decide +kernel) rfl ?_
    refine am_aload_n (n := 123) d_Life_act_122 rfl rfl ?_
    refine am_aload_n (n := 124) d_Life_act_123 rfl rfl ?_
    refine am_callV (kc := 0) (ks := 0) (As := []) (n := 127) d_Life_act_124 rfl ce_Square_emptyCup lk_Life_134 in_Square_emptyCup rfl rfl hp1 rfl rfl (Nat.le_of_ble_eq_true rfl) (Or.inl rfl) (cm_Square_emptyCup (d := d - 1) hw (by omega) hp1 h) (by omega) ?_
    rintro _ _ ⟨r4, I9, rfl, rfl, h⟩
    show am_Wp (d, "UnseenRing$Life", b_Life_act, 4, false) 0 0 127 [some (.ref q), some (.ref p1), some (.int p2), some (.int (I ((am_rd R p1 5) + 2) (Int32.toNatClampNeg p2)))] [.int r4, .ref q] (I9, L, R, am_SH) (po_Life_act L R Q)
    refine am_callV (kc := 0) (ks := 0) (As := [.int r4]) (n := 130) d_Life_act_127 rfl ce_Life_countMissed lk_Life_122 in_Life_countMissed rfl rfl hq rfl rfl (Nat.le_of_ble_eq_true rfl) (Or.inl rfl) (cm_Life_countMissed (d := d - 1) hw (by omega) hq h) (by omega) ?_
    rintro _ _ ⟨I10, rfl, rfl, h⟩
    show am_Wp (d, "UnseenRing$Life", b_Life_act, 4, false) 0 0 130 [some (.ref q), some (.ref p1), some (.int p2), some (.int (I ((am_rd R p1 5) + 2) (Int32.toNatClampNeg p2)))] [] (I10, L, R, am_SH) (po_Life_act L R Q)
    refine am_goto (tgt := 189) d_Life_act_130 rfl ?_
    exact am_vret d_Life_act_189 ⟨I10, rfl, rfl, h⟩
  by_cases c7 : (I ((am_rd R p1 5) + 1) (Int32.toNatClampNeg p2)) = 16
  · have h := h.2.2.2.2.2.2.1 c7
    refine am_tableIn (off := 114) (tgt := 133) d_Life_act_19 (by rw [c7]; decide) (by rw [c7]; decide) (by rw [c7]; decide +kernel) rfl ?_
    refine am_aload_n (n := 134) d_Life_act_133 rfl rfl ?_
    refine am_aload_n (n := 135) d_Life_act_134 rfl rfl ?_
    refine am_callV (kc := 0) (ks := 0) (As := [.ref p1]) (n := 138) d_Life_act_135 rfl ce_Life_drawAll lk_Life_137 in_Life_drawAll rfl rfl hq rfl rfl (Nat.le_of_ble_eq_true rfl) (Or.inl rfl) (cm_Life_drawAll (d := d - 1) hw (by omega) hq hp1 h) (by omega) ?_
    rintro _ _ ⟨I11, rfl, rfl, h⟩
    show am_Wp (d, "UnseenRing$Life", b_Life_act, 4, false) 0 0 138 [some (.ref q), some (.ref p1), some (.int p2), some (.int (I ((am_rd R p1 5) + 2) (Int32.toNatClampNeg p2)))] [] (I11, L, R, am_SH) (po_Life_act L R Q)
    refine am_aload_n (n := 139) d_Life_act_138 rfl rfl ?_
    refine am_getI (n := 142) f_Life_141 d_Life_act_139 rfl rfl hp1 ?_
    refine am_if_ne (y := 0) (tgt := 158) (n := 145) d_Life_act_142 rfl rfl (fun c8 => ?_) (fun c8 => ?_)
    · have h := h.2 c8
      refine am_aload_n (n := 159) d_Life_act_158 rfl rfl ?_
      refine am_getZ (n := 162) f_Life_27 d_Life_act_159 rfl rfl hq ?_
      refine am_if_eq (y := 0) (tgt := 177) (n := 165) d_Life_act_162 rfl rfl (fun c9 => ?_) (fun c9 => ?_)
      · have h := h.1 c9
        refine am_aload_n (n := 178) d_Life_act_177 rfl rfl ?_
        refine am_aload_n (n := 179) d_Life_act_178 rfl rfl ?_
        refine am_aload_n (n := 180) d_Life_act_179 rfl rfl ?_
        refine am_getI (n := 183) f_Life_24 d_Life_act_180 rfl rfl hq ?_
        refine am_callV (kc := 0) (ks := 0) (As := [.ref p1, .int (I11 q 3)]) (n := 186) d_Life_act_183 rfl ce_Life_throwOne lk_Life_116 in_Life_throwOne rfl rfl hq rfl rfl (Nat.le_of_ble_eq_true rfl) (Or.inl rfl) (cm_Life_throwOne (d := d - 1) hw (by omega) hq hp1 h) (by omega) ?_
        rintro _ _ ⟨I12, rfl, rfl, h⟩
        show am_Wp (d, "UnseenRing$Life", b_Life_act, 4, false) 0 0 186 [some (.ref q), some (.ref p1), some (.int p2), some (.int (I ((am_rd R p1 5) + 2) (Int32.toNatClampNeg p2)))] [] (I12, L, R, am_SH) (po_Life_act L R Q)
        refine am_goto (tgt := 189) d_Life_act_186 rfl ?_
        exact am_vret d_Life_act_189 ⟨I12, rfl, rfl, h⟩
      · have h := h.2 c9
        refine am_aload_n (n := 166) d_Life_act_165 rfl rfl ?_
        refine am_aload_n (n := 167) d_Life_act_166 rfl rfl ?_
        refine am_aload_n (n := 168) d_Life_act_167 rfl rfl ?_
        refine am_getI (n := 171) f_Life_21 d_Life_act_168 rfl rfl hq ?_
        refine am_callV (kc := 0) (ks := 0) (As := [.ref p1, .int (I11 q 2)]) (n := 174) d_Life_act_171 rfl ce_Life_playOne lk_Life_113 in_Life_playOne rfl rfl hq rfl rfl (Nat.le_of_ble_eq_true rfl) (Or.inl rfl) (cm_Life_playOne (d := d - 1) hw (by omega) hq hp1 h) (by omega) ?_
        rintro _ _ ⟨I13, rfl, rfl, h⟩
        show am_Wp (d, "UnseenRing$Life", b_Life_act, 4, false) 0 0 174 [some (.ref q), some (.ref p1), some (.int p2), some (.int (I ((am_rd R p1 5) + 2) (Int32.toNatClampNeg p2)))] [] (I13, L, R, am_SH) (po_Life_act L R Q)
        refine am_goto (tgt := 189) d_Life_act_174 rfl ?_
        exact am_vret d_Life_act_189 ⟨I13, rfl, rfl, h⟩
    · have h := h.1 c8
      refine am_aload_n (n := 146) d_Life_act_145 rfl rfl ?_
      refine am_dup (n := 147) d_Life_act_146 rfl rfl ?_
      refine am_getI (n := 150) f_Life_31 d_Life_act_147 rfl rfl hq ?_
      refine am_iconst (n := 151) d_Life_act_150 ci_1 rfl ?_
      refine am_iadd (n := 152) d_Life_act_151 rfl ?_
      refine am_putI (n := 155) f_Life_31 d_Life_act_152 rfl ⟨_, rfl, Or.inl rfl⟩ rfl rfl hq ?_
      generalize eI14 : am_u2 I11 q 5 ((I11 q 5) + 1) = I14
      have h := h I14 eI14.symm
      refine am_goto (tgt := 189) d_Life_act_155 rfl ?_
      exact am_vret d_Life_act_189 ⟨I14, rfl, rfl, h⟩
  have h := h.2.2.2.2.2.2.2 c1 c2 c3 c4 c5 c6 c7
  have z0 := lv_neT c1 (a := 10) (by decide)
  have z1 := lv_neT c2 (a := 11) (by decide)
  have z2 := lv_neT c3 (a := 12) (by decide)
  have z3 := lv_neT c4 (a := 13) (by decide)
  have z4 := lv_neT c5 (a := 14) (by decide)
  have z5 := lv_neT c6 (a := 15) (by decide)
  have z6 := lv_neT c7 (a := 16) (by decide)
  refine am_tableOut (tgt := 189) d_Life_act_19 (by omega) rfl ?_
  exact am_vret d_Life_act_189 ⟨I, rfl, rfl, h⟩
abbrev po_Life_behindEnd (L : am_TL) (R : am_TR) (Q : Int32 → am_TI → Prop) : Option Value → am_St → Prop := fun r σ' => ∃ (x : Int32) (I' : am_TI), r = some (.int x) ∧ σ' = (I', L, R, am_SH) ∧ Q x I'
def wp_Life_behindEnd (I : am_TI) (L : am_TL) (R : am_TR) (q : Nat) (p1 : Nat) (p2 : Int32)  (Q : Int32 → am_TI → Prop) : Prop := (vp_in p2 60 ∧ (vp_in (I (p1 + 5) (Int32.toNatClampNeg p2)) 60 ∧ (((I (p1 + 1) (Int32.toNatClampNeg (I (p1 + 5) (Int32.toNatClampNeg p2)))) = 22 → (vp_in (I (p1 + 5) (Int32.toNatClampNeg p2)) 60 ∧ (vp_in (I (p1 + 5) (Int32.toNatClampNeg p2)) 60 ∧ (∀ I1, I1 = am_u2 I (q + 1) (Int32.toNatClampNeg (I (p1 + 5) (Int32.toNatClampNeg p2))) ((I (q + 1) (Int32.toNatClampNeg (I (p1 + 5) (Int32.toNatClampNeg p2)))) - 1) → (vp_in (I (p1 + 5) (Int32.toNatClampNeg p2)) 60 ∧ (((I1 (q + 1) (Int32.toNatClampNeg (I (p1 + 5) (Int32.toNatClampNeg p2)))) ≤ 0 → Q (p2 + 1) I1) ∧ (¬ (I1 (q + 1) (Int32.toNatClampNeg (I (p1 + 5) (Int32.toNatClampNeg p2)))) ≤ 0 → Q ((I (p1 + 5) (Int32.toNatClampNeg p2)) + 1) I1))))))) ∧ (¬ (I (p1 + 1) (Int32.toNatClampNeg (I (p1 + 5) (Int32.toNatClampNeg p2)))) = 22 → Q (p2 + 1) I))))
set_option maxRecDepth 20000 in
theorem cm_Life_behindEnd {d : Nat} {I : am_TI} {L : am_TL} {R : am_TR}  (hw : am_Wf R)   {q : Nat} {p1 : Nat} {p2 : Int32} {Q : Int32 → am_TI → Prop} (hd : 0 ≤ d) (hq : am_SH[q]? = some (.inl 4)) (hp1 : am_SH[p1]? = some (.inl 1)) (h : wp_Life_behindEnd I L R q p1 p2  Q) : am_Cm d 0 0 y_Life_behindEnd b_Life_behindEnd 4 (some .int) [.ref q, .ref p1, .int p2] (I, L, R, am_SH) (po_Life_behindEnd L R Q) := by
  refine am_Cm_of (ini := false) (by decide +kernel) (fun z => by cases z) (by simp [Value.category]) (fun r σ' z => by obtain ⟨x, _, rfl, -⟩ := z; exact ⟨_, rfl, rfl⟩) ?_
  unfold wp_Life_behindEnd at h
  show am_Wp (d, "UnseenRing$Life", b_Life_behindEnd, 4, false) 0 0 0 [some (.ref q), some (.ref p1), some (.int p2), none] [] (I, L, R, am_SH) (po_Life_behindEnd L R Q)
  refine am_aload_n (n := 1) d_Life_behindEnd_0 rfl rfl ?_
  refine am_getR (x := (p1 + 5)) (n := 4) f_Life_79 d_Life_behindEnd_1 rfl rfl hp1 (hw.1 p1 1 4 5 hp1 rfl) ?_
  refine am_iload_n (n := 5) d_Life_behindEnd_4 rfl rfl ?_
  obtain ⟨g1, h⟩ := h
  refine am_iald2 (n := 6) d_Life_behindEnd_5 rfl (am_sho (k := 4) (o := 5) hp1 (by decide) (by decide) (by decide) rfl) g1 rfl ?_
  refine am_istore_n (ls' := [some (.ref q), some (.ref p1), some (.int p2), some (.int (I (p1 + 5) (Int32.toNatClampNeg p2)))]) (n := 7) d_Life_behindEnd_6 (by decide) rfl rfl ?_
  refine am_aload_n (n := 8) d_Life_behindEnd_7 rfl rfl ?_
  refine am_getR (x := (p1 + 1)) (n := 11) f_Life_62 d_Life_behindEnd_8 rfl rfl hp1 (hw.1 p1 1 0 1 hp1 rfl) ?_
  refine am_iload_n (n := 12) d_Life_behindEnd_11 rfl rfl ?_
  obtain ⟨g2, h⟩ := h
  refine am_iald2 (n := 13) d_Life_behindEnd_12 rfl (am_sho (k := 0) (o := 1) hp1 (by decide) (by decide) (by decide) rfl) g2 rfl ?_
  refine am_bipush (n := 15) d_Life_behindEnd_13 cb_22 rfl ?_
  refine am_icmp_ne (tgt := 41) (n := 18) d_Life_behindEnd_15 rfl rfl (fun c1 => ?_) (fun c1 => ?_)
  · have h := h.2 c1
    refine am_iload_n (n := 42) d_Life_behindEnd_41 rfl rfl ?_
    refine am_iconst (n := 43) d_Life_behindEnd_42 ci_1 rfl ?_
    refine am_iadd (n := 44) d_Life_behindEnd_43 rfl ?_
    exact am_iret d_Life_behindEnd_44 ⟨(p2 + 1), I, rfl, rfl, h⟩
  · have h := h.1 c1
    refine am_aload_n (n := 19) d_Life_behindEnd_18 rfl rfl ?_
    refine am_getR (x := (q + 1)) (n := 22) f_Life_11 d_Life_behindEnd_19 rfl rfl hq (hw.1 q 4 0 1 hq rfl) ?_
    refine am_iload_n (n := 23) d_Life_behindEnd_22 rfl rfl ?_
    refine am_dup2 (n := 24) d_Life_behindEnd_23 rfl rfl rfl ?_
    obtain ⟨g3, h⟩ := h
    refine am_iald2 (n := 25) d_Life_behindEnd_24 rfl (am_sho (k := 0) (o := 1) hq (by decide) (by decide) (by decide) rfl) g3 rfl ?_
    refine am_iconst (n := 26) d_Life_behindEnd_25 ci_1 rfl ?_
    refine am_isub (n := 27) d_Life_behindEnd_26 rfl ?_
    obtain ⟨g4, h⟩ := h
    refine am_iast2 (n := 28) d_Life_behindEnd_27 rfl (am_sho (k := 0) (o := 1) hq (by decide) (by decide) (by decide) rfl) g4 rfl ?_
    generalize eI1 : am_u2 I (q + 1) (Int32.toNatClampNeg (I (p1 + 5) (Int32.toNatClampNeg p2))) ((I (q + 1) (Int32.toNatClampNeg (I (p1 + 5) (Int32.toNatClampNeg p2)))) - 1) = I1
    have h := h I1 eI1.symm
    refine am_aload_n (n := 29) d_Life_behindEnd_28 rfl rfl ?_
    refine am_getR (x := (q + 1)) (n := 32) f_Life_11 d_Life_behindEnd_29 rfl rfl hq (hw.1 q 4 0 1 hq rfl) ?_
    refine am_iload_n (n := 33) d_Life_behindEnd_32 rfl rfl ?_
    obtain ⟨g5, h⟩ := h
    refine am_iald2 (n := 34) d_Life_behindEnd_33 rfl (am_sho (k := 0) (o := 1) hq (by decide) (by decide) (by decide) rfl) g5 rfl ?_
    refine am_if_le (y := 0) (tgt := 41) (n := 37) d_Life_behindEnd_34 rfl rfl (fun c2 => ?_) (fun c2 => ?_)
    · have h := h.1 c2
      refine am_iload_n (n := 42) d_Life_behindEnd_41 rfl rfl ?_
      refine am_iconst (n := 43) d_Life_behindEnd_42 ci_1 rfl ?_
      refine am_iadd (n := 44) d_Life_behindEnd_43 rfl ?_
      exact am_iret d_Life_behindEnd_44 ⟨(p2 + 1), I1, rfl, rfl, h⟩
    · have h := h.2 c2
      refine am_iload_n (n := 38) d_Life_behindEnd_37 rfl rfl ?_
      refine am_iconst (n := 39) d_Life_behindEnd_38 ci_1 rfl ?_
      refine am_iadd (n := 40) d_Life_behindEnd_39 rfl ?_
      exact am_iret d_Life_behindEnd_40 ⟨((I (p1 + 5) (Int32.toNatClampNeg p2)) + 1), I1, rfl, rfl, h⟩
abbrev po_Life_compares (I : am_TI) (L : am_TL) (R : am_TR) (Q : Bool → Prop) : Option Value → am_St → Prop := fun r σ' => ∃ (x : Bool), r = some (.int (am_b x)) ∧ σ' = (I, L, R, am_SH) ∧ Q x
def wp_Life_compares (I : am_TI) (L : am_TL) (R : am_TR) (p0 : Int32) (p1 : Int32) (p2 : Int32)  (Q : Bool → Prop) : Prop := ((p1 = 60 → ((p2 ≤ p0 → Q false) ∧ (¬ p2 ≤ p0 → Q true))) ∧ (¬ p1 = 60 → ((p1 = 62 → ((p0 ≤ p2 → Q false) ∧ (¬ p0 ≤ p2 → Q true))) ∧ (¬ p1 = 62 → ((p0 = p2 → Q true) ∧ (¬ p0 = p2 → Q false))))))
set_option maxRecDepth 20000 in
theorem cm_Life_compares {d : Nat} {I : am_TI} {L : am_TL} {R : am_TR}  (hw : am_Wf R)   {p0 : Int32} {p1 : Int32} {p2 : Int32} {Q : Bool → Prop} (hd : 0 ≤ d)  (h : wp_Life_compares I L R p0 p1 p2  Q) : am_Cm d 0 0 y_Life_compares b_Life_compares 3 (some .boolean) [.int p0, .int p1, .int p2] (I, L, R, am_SH) (po_Life_compares I L R Q) := by
  refine am_Cm_of (ini := false) (by decide +kernel) (fun z => by cases z) (by simp [Value.category]) (fun r σ' z => by obtain ⟨x, rfl, -⟩ := z; exact ⟨_, rfl, am_b_nar x⟩) ?_
  unfold wp_Life_compares at h
  show am_Wp (d, "UnseenRing$Life", b_Life_compares, 3, false) 0 0 0 [some (.int p0), some (.int p1), some (.int p2)] [] (I, L, R, am_SH) (po_Life_compares I L R Q)
  refine am_iload_n (n := 1) d_Life_compares_0 rfl rfl ?_
  refine am_bipush (n := 3) d_Life_compares_1 cb_60 rfl ?_
  refine am_icmp_ne (tgt := 17) (n := 6) d_Life_compares_3 rfl rfl (fun c1 => ?_) (fun c1 => ?_)
  · have h := h.2 c1
    refine am_iload_n (n := 18) d_Life_compares_17 rfl rfl ?_
    refine am_bipush (n := 20) d_Life_compares_18 cb_62 rfl ?_
    refine am_icmp_ne (tgt := 36) (n := 23) d_Life_compares_20 rfl rfl (fun c2 => ?_) (fun c2 => ?_)
    · have h := h.2 c2
      refine am_iload_n (n := 37) d_Life_compares_36 rfl rfl ?_
      refine am_iload_n (n := 38) d_Life_compares_37 rfl rfl ?_
      refine am_icmp_ne (tgt := 45) (n := 41) d_Life_compares_38 rfl rfl (fun c3 => ?_) (fun c3 => ?_)
      · have h := h.2 c3
        refine am_iconst (n := 46) d_Life_compares_45 ci_0 rfl ?_
        exact am_iret d_Life_compares_46 ⟨false, rfl, rfl, h⟩
      · have h := h.1 c3
        refine am_iconst (n := 42) d_Life_compares_41 ci_1 rfl ?_
        refine am_goto (tgt := 46) d_Life_compares_42 rfl ?_
        exact am_iret d_Life_compares_46 ⟨true, rfl, rfl, h⟩
    · have h := h.1 c2
      refine am_iload_n (n := 24) d_Life_compares_23 rfl rfl ?_
      refine am_iload_n (n := 25) d_Life_compares_24 rfl rfl ?_
      refine am_icmp_le (tgt := 32) (n := 28) d_Life_compares_25 rfl rfl (fun c4 => ?_) (fun c4 => ?_)
      · have h := h.1 c4
        refine am_iconst (n := 33) d_Life_compares_32 ci_0 rfl ?_
        refine am_goto (tgt := 46) d_Life_compares_33 rfl ?_
        exact am_iret d_Life_compares_46 ⟨false, rfl, rfl, h⟩
      · have h := h.2 c4
        refine am_iconst (n := 29) d_Life_compares_28 ci_1 rfl ?_
        refine am_goto (tgt := 46) d_Life_compares_29 rfl ?_
        exact am_iret d_Life_compares_46 ⟨true, rfl, rfl, h⟩
  · have h := h.1 c1
    refine am_iload_n (n := 7) d_Life_compares_6 rfl rfl ?_
    refine am_iload_n (n := 8) d_Life_compares_7 rfl rfl ?_
    refine am_icmp_ge (tgt := 15) (n := 11) d_Life_compares_8 rfl rfl (fun c5 => ?_) (fun c5 => ?_)
    · have h := h.1 c5
      refine am_iconst (n := 16) d_Life_compares_15 ci_0 rfl ?_
      exact am_iret d_Life_compares_16 ⟨false, rfl, rfl, h⟩
    · have h := h.2 c5
      refine am_iconst (n := 12) d_Life_compares_11 ci_1 rfl ?_
      refine am_goto (tgt := 16) d_Life_compares_12 rfl ?_
      exact am_iret d_Life_compares_16 ⟨true, rfl, rfl, h⟩
