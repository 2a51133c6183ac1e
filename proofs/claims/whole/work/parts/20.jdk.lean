abbrev po_Arrays_fillJ (I : am_TI) (R : am_TR) (Q : am_TL → Prop) : Option Value → am_St → Prop := fun r σ' => ∃ (L' : am_TL), r = none ∧ σ' = (I, L', R, am_SH) ∧ Q L'
def wl_Arrays_fillJ_6 (I : am_TI) (R : am_TR) (p0 : Nat) (w0 : Nat) (p1 : Int64) (Q : am_TL → Prop)  : Nat → am_TL → Int32 → Int32 → Prop
  | 0 => fun _ _ _ => False
  | f6 + 1 => fun L v3 v4 => ((v4 ≤ v3 → Q L) ∧ (¬ v4 ≤ v3 → (vp_in v3 w0 ∧ (∀ L1, L1 = am_u2 L p0 (Int32.toNatClampNeg v3) p1 → wl_Arrays_fillJ_6 I R p0 w0 p1 Q f6 L1 (v3 + 1) v4))))
set_option maxRecDepth 20000 in
theorem tl_Arrays_fillJ_6 {d : Nat}  {I : am_TI} {R : am_TR} {p0 : Nat} {w0 : Nat} {p1 : Int64} {Q : am_TL → Prop}  (hw : am_Wf R) (hp0 : am_SH[p0]? = some (.inr (3, w0))) (hd : 0 ≤ d) : ∀ (n : Nat) (L : am_TL) (v3 : Int32) (v4 : Int32), wl_Arrays_fillJ_6 I R p0 w0 p1 Q  n L v3 v4 → am_Wp (d, "java/util/Arrays", b_Arrays_fillJ, 5, false) 0 0 6 [some (.ref p0), some (.long p1), none, some (.int v3), some (.int v4)] [] (I, L, R, am_SH) (po_Arrays_fillJ I R Q) := by
  intro n
  induction n with
  | zero => intro L v3 v4 h; exact h.elim
  | succ n ih =>
    intro L v3 v4 h
    unfold wl_Arrays_fillJ_6 at h
    refine am_iload_n (n := 7) d_Arrays_fillJ_6 rfl rfl ?_
    refine am_iload (n := 9) d_Arrays_fillJ_7 rfl rfl ?_
    refine am_icmp_ge (tgt := 22) (n := 12) d_Arrays_fillJ_9 rfl rfl (fun c1 => ?_) (fun c1 => ?_)
    · have h := h.1 c1
      exact am_vret d_Arrays_fillJ_22 ⟨L, rfl, rfl, h⟩
    · have h := h.2 c1
      refine am_aload_n (n := 13) d_Arrays_fillJ_12 rfl rfl ?_
      refine am_iload_n (n := 14) d_Arrays_fillJ_13 rfl rfl ?_
      refine am_lload_n (n := 15) d_Arrays_fillJ_14 rfl rfl ?_
      obtain ⟨g1, h⟩ := h
      refine am_last2 (n := 16) d_Arrays_fillJ_15 rfl hp0 g1 rfl ?_
      generalize eL1 : am_u2 L p0 (Int32.toNatClampNeg v3) p1 = L1
      have h := h L1 eL1.symm
      refine am_iinc (v := v3 + 1) (ls' := [some (.ref p0), some (.long p1), none, some (.int (v3 + 1)), some (.int v4)]) (n := 19) d_Arrays_fillJ_16 rfl (congrArg _ ci_1) (by decide) rfl rfl ?_
      refine am_goto (tgt := 6) d_Arrays_fillJ_19 rfl ?_
      exact ih L1 (v3 + 1) v4  h
def wp_Arrays_fillJ (I : am_TI) (L : am_TL) (R : am_TR) (p0 : Nat) (w0 : Nat) (p1 : Int64)  (Q : am_TL → Prop) : Prop := (∃ z, wl_Arrays_fillJ_6 I R p0 w0 p1 Q z L 0 (nI w0))
set_option maxRecDepth 20000 in
theorem cm_Arrays_fillJ {d : Nat} {I : am_TI} {L : am_TL} {R : am_TR}  (hw : am_Wf R)   {p0 : Nat} {w0 : Nat} {p1 : Int64} {Q : am_TL → Prop} (hd : 0 ≤ d) (hp0 : am_SH[p0]? = some (.inr (3, w0))) (h : wp_Arrays_fillJ I L R p0 w0 p1  Q) : am_Cm d 0 0 y_Arrays_fillJ b_Arrays_fillJ 5 (none) [.ref p0, .long p1] (I, L, R, am_SH) (po_Arrays_fillJ I R Q) := by
  refine am_Cm_of (ini := false) (by decide +kernel) (fun z => by cases z) (by simp [Value.category]) (fun r σ' z => by obtain ⟨_, rfl, -⟩ := z; rfl) ?_
  unfold wp_Arrays_fillJ at h
  show am_Wp (d, "java/util/Arrays", b_Arrays_fillJ, 5, false) 0 0 0 [some (.ref p0), some (.long p1), none, none, none] [] (I, L, R, am_SH) (po_Arrays_fillJ I R Q)
  refine am_iconst (n := 1) d_Arrays_fillJ_0 ci_0 rfl ?_
  refine am_istore_n (ls' := [some (.ref p0), some (.long p1), none, some (.int 0), none]) (n := 2) d_Arrays_fillJ_1 (by decide) rfl rfl ?_
  refine am_aload_n (n := 3) d_Arrays_fillJ_2 rfl rfl ?_
  refine am_alen (n := 4) d_Arrays_fillJ_3 rfl hp0 (by decide) ?_
  refine am_istore (ls' := [some (.ref p0), some (.long p1), none, some (.int 0), some (.int (nI w0))]) (n := 6) d_Arrays_fillJ_4 (by decide) rfl rfl ?_
  obtain ⟨n, h⟩ := h
  exact tl_Arrays_fillJ_6 hw hp0 hd n L 0 (nI w0) h
abbrev po_Integer_compare (I : am_TI) (L : am_TL) (R : am_TR) (Q : Int32 → Prop) : Option Value → am_St → Prop := fun r σ' => ∃ (x : Int32), r = some (.int x) ∧ σ' = (I, L, R, am_SH) ∧ Q x
def wp_Integer_compare (I : am_TI) (L : am_TL) (R : am_TR) (p0 : Int32) (p1 : Int32)  (Q : Int32 → Prop) : Prop := ((p1 ≤ p0 → ((p0 = p1 → Q 0) ∧ (¬ p0 = p1 → Q 1))) ∧ (¬ p1 ≤ p0 → Q (-1)))
set_option maxRecDepth 20000 in
theorem cm_Integer_compare {d : Nat} {I : am_TI} {L : am_TL} {R : am_TR}  (hw : am_Wf R)   {p0 : Int32} {p1 : Int32} {Q : Int32 → Prop} (hd : 0 ≤ d)  (h : wp_Integer_compare I L R p0 p1  Q) : am_Cm d 0 0 y_Integer_compare b_Integer_compare 2 (some .int) [.int p0, .int p1] (I, L, R, am_SH) (po_Integer_compare I L R Q) := by
  refine am_Cm_of (ini := false) (by decide +kernel) (fun z => by cases z) (by simp [Value.category]) (fun r σ' z => by obtain ⟨x, rfl, -⟩ := z; exact ⟨_, rfl, rfl⟩) ?_
  unfold wp_Integer_compare at h
  show am_Wp (d, "java/lang/Integer", b_Integer_compare, 2, false) 0 0 0 [some (.int p0), some (.int p1)] [] (I, L, R, am_SH) (po_Integer_compare I L R Q)
  refine am_iload_n (n := 1) d_Integer_compare_0 rfl rfl ?_
  refine am_iload_n (n := 2) d_Integer_compare_1 rfl rfl ?_
  refine am_icmp_ge (tgt := 9) (n := 5) d_Integer_compare_2 rfl rfl (fun c1 => ?_) (fun c1 => ?_)
  · have h := h.1 c1
    refine am_iload_n (n := 10) d_Integer_compare_9 rfl rfl ?_
    refine am_iload_n (n := 11) d_Integer_compare_10 rfl rfl ?_
    refine am_icmp_ne (tgt := 18) (n := 14) d_Integer_compare_11 rfl rfl (fun c2 => ?_) (fun c2 => ?_)
    · have h := h.2 c2
      refine am_iconst (n := 19) d_Integer_compare_18 ci_1 rfl ?_
      exact am_iret d_Integer_compare_19 ⟨1, rfl, rfl, h⟩
    · have h := h.1 c2
      refine am_iconst (n := 15) d_Integer_compare_14 ci_0 rfl ?_
      refine am_goto (tgt := 19) d_Integer_compare_15 rfl ?_
      exact am_iret d_Integer_compare_19 ⟨0, rfl, rfl, h⟩
  · have h := h.2 c1
    refine am_iconst (n := 6) d_Integer_compare_5 ci_m1 rfl ?_
    refine am_goto (tgt := 19) d_Integer_compare_6 rfl ?_
    exact am_iret d_Integer_compare_19 ⟨(-1), rfl, rfl, h⟩
abbrev po_Integer_bitCount (I : am_TI) (L : am_TL) (R : am_TR) (Q : Int32 → Prop) : Option Value → am_St → Prop := fun r σ' => ∃ (x : Int32), r = some (.int x) ∧ σ' = (I, L, R, am_SH) ∧ Q x
def wp_Integer_bitCount (I : am_TI) (L : am_TL) (R : am_TR) (p0 : Int32)  (Q : Int32 → Prop) : Prop := Q ((((((((p0 - (((Int32.toUInt32 p0 >>> (Int32.toUInt32 1 &&& Int32.toUInt32 31)).toInt32) &&& 1431655765)) &&& 858993459) + (((Int32.toUInt32 (p0 - (((Int32.toUInt32 p0 >>> (Int32.toUInt32 1 &&& Int32.toUInt32 31)).toInt32) &&& 1431655765)) >>> (Int32.toUInt32 2 &&& Int32.toUInt32 31)).toInt32) &&& 858993459)) + ((Int32.toUInt32 (((p0 - (((Int32.toUInt32 p0 >>> (Int32.toUInt32 1 &&& Int32.toUInt32 31)).toInt32) &&& 1431655765)) &&& 858993459) + (((Int32.toUInt32 (p0 - (((Int32.toUInt32 p0 >>> (Int32.toUInt32 1 &&& Int32.toUInt32 31)).toInt32) &&& 1431655765)) >>> (Int32.toUInt32 2 &&& Int32.toUInt32 31)).toInt32) &&& 858993459)) >>> (Int32.toUInt32 4 &&& Int32.toUInt32 31)).toInt32)) &&& 252645135) + ((Int32.toUInt32 (((((p0 - (((Int32.toUInt32 p0 >>> (Int32.toUInt32 1 &&& Int32.toUInt32 31)).toInt32) &&& 1431655765)) &&& 858993459) + (((Int32.toUInt32 (p0 - (((Int32.toUInt32 p0 >>> (Int32.toUInt32 1 &&& Int32.toUInt32 31)).toInt32) &&& 1431655765)) >>> (Int32.toUInt32 2 &&& Int32.toUInt32 31)).toInt32) &&& 858993459)) + ((Int32.toUInt32 (((p0 - (((Int32.toUInt32 p0 >>> (Int32.toUInt32 1 &&& Int32.toUInt32 31)).toInt32) &&& 1431655765)) &&& 858993459) + (((Int32.toUInt32 (p0 - (((Int32.toUInt32 p0 >>> (Int32.toUInt32 1 &&& Int32.toUInt32 31)).toInt32) &&& 1431655765)) >>> (Int32.toUInt32 2 &&& Int32.toUInt32 31)).toInt32) &&& 858993459)) >>> (Int32.toUInt32 4 &&& Int32.toUInt32 31)).toInt32)) &&& 252645135) >>> (Int32.toUInt32 8 &&& Int32.toUInt32 31)).toInt32)) + ((Int32.toUInt32 ((((((p0 - (((Int32.toUInt32 p0 >>> (Int32.toUInt32 1 &&& Int32.toUInt32 31)).toInt32) &&& 1431655765)) &&& 858993459) + (((Int32.toUInt32 (p0 - (((Int32.toUInt32 p0 >>> (Int32.toUInt32 1 &&& Int32.toUInt32 31)).toInt32) &&& 1431655765)) >>> (Int32.toUInt32 2 &&& Int32.toUInt32 31)).toInt32) &&& 858993459)) + ((Int32.toUInt32 (((p0 - (((Int32.toUInt32 p0 >>> (Int32.toUInt32 1 &&& Int32.toUInt32 31)).toInt32) &&& 1431655765)) &&& 858993459) + (((Int32.toUInt32 (p0 - (((Int32.toUInt32 p0 >>> (Int32.toUInt32 1 &&& Int32.toUInt32 31)).toInt32) &&& 1431655765)) >>> (Int32.toUInt32 2 &&& Int32.toUInt32 31)).toInt32) &&& 858993459)) >>> (Int32.toUInt32 4 &&& Int32.toUInt32 31)).toInt32)) &&& 252645135) + ((Int32.toUInt32 (((((p0 - (((Int32.toUInt32 p0 >>> (Int32.toUInt32 1 &&& Int32.toUInt32 31)).toInt32) &&& 1431655765)) &&& 858993459) + (((Int32.toUInt32 (p0 - (((Int32.toUInt32 p0 >>> (Int32.toUInt32 1 &&& Int32.toUInt32 31)).toInt32) &&& 1431655765)) >>> (Int32.toUInt32 2 &&& Int32.toUInt32 31)).toInt32) &&& 858993459)) + ((Int32.toUInt32 (((p0 - (((Int32.toUInt32 p0 >>> (Int32.toUInt32 1 &&& Int32.toUInt32 31)).toInt32) &&& 1431655765)) &&& 858993459) + (((Int32.toUInt32 (p0 - (((Int32.toUInt32 p0 >>> (Int32.toUInt32 1 &&& Int32.toUInt32 31)).toInt32) &&& 1431655765)) >>> (Int32.toUInt32 2 &&& Int32.toUInt32 31)).toInt32) &&& 858993459)) >>> (Int32.toUInt32 4 &&& Int32.toUInt32 31)).toInt32)) &&& 252645135) >>> (Int32.toUInt32 8 &&& Int32.toUInt32 31)).toInt32)) >>> (Int32.toUInt32 16 &&& Int32.toUInt32 31)).toInt32)) &&& 63)
set_option maxRecDepth 20000 in
theorem cm_Integer_bitCount {d : Nat} {I : am_TI} {L : am_TL} {R : am_TR}  (hw : am_Wf R)   {p0 : Int32} {Q : Int32 → Prop} (hd : 0 ≤ d)  (h : wp_Integer_bitCount I L R p0  Q) : am_Cm d 0 0 y_Integer_bitCount b_Integer_bitCount 1 (some .int) [.int p0] (I, L, R, am_SH) (po_Integer_bitCount I L R Q) := by
  refine am_Cm_of (ini := false) (by decide +kernel) (fun z => by cases z) (by simp [Value.category]) (fun r σ' z => by obtain ⟨x, rfl, -⟩ := z; exact ⟨_, rfl, rfl⟩) ?_
  unfold wp_Integer_bitCount at h
  show am_Wp (d, "java/lang/Integer", b_Integer_bitCount, 1, false) 0 0 0 [some (.int p0)] [] (I, L, R, am_SH) (po_Integer_bitCount I L R Q)
  refine am_iload_n (n := 1) d_Integer_bitCount_0 rfl rfl ?_
  refine am_iload_n (n := 2) d_Integer_bitCount_1 rfl rfl ?_
  refine am_iconst (n := 3) d_Integer_bitCount_2 ci_1 rfl ?_
  refine am_iushr (n := 4) d_Integer_bitCount_3 rfl ?_
  refine am_ldcw (n := 7) d_Integer_bitCount_4 k_Integer_265 rfl ?_
  refine am_iand (n := 8) d_Integer_bitCount_7 rfl ?_
  refine am_isub (n := 9) d_Integer_bitCount_8 rfl ?_
  refine am_istore_n (ls' := [some (.int (p0 - (((Int32.toUInt32 p0 >>> (Int32.toUInt32 1 &&& Int32.toUInt32 31)).toInt32) &&& 1431655765)))]) (n := 10) d_Integer_bitCount_9 (by decide) rfl rfl ?_
  refine am_iload_n (n := 11) d_Integer_bitCount_10 rfl rfl ?_
  refine am_ldcw (n := 14) d_Integer_bitCount_11 k_Integer_266 rfl ?_
  refine am_iand (n := 15) d_Integer_bitCount_14 rfl ?_
  refine am_iload_n (n := 16) d_Integer_bitCount_15 rfl rfl ?_
  refine am_iconst (n := 17) d_Integer_bitCount_16 ci_2 rfl ?_
  refine am_iushr (n := 18) d_Integer_bitCount_17 rfl ?_
  refine am_ldcw (n := 21) d_Integer_bitCount_18 k_Integer_266 rfl ?_
  refine am_iand (n := 22) d_Integer_bitCount_21 rfl ?_
  refine am_iadd (n := 23) d_Integer_bitCount_22 rfl ?_
  refine am_istore_n (ls' := [some (.int (((p0 - (((Int32.toUInt32 p0 >>> (Int32.toUInt32 1 &&& Int32.toUInt32 31)).toInt32) &&& 1431655765)) &&& 858993459) + (((Int32.toUInt32 (p0 - (((Int32.toUInt32 p0 >>> (Int32.toUInt32 1 &&& Int32.toUInt32 31)).toInt32) &&& 1431655765)) >>> (Int32.toUInt32 2 &&& Int32.toUInt32 31)).toInt32) &&& 858993459)))]) (n := 24) d_Integer_bitCount_23 (by decide) rfl rfl ?_
  refine am_iload_n (n := 25) d_Integer_bitCount_24 rfl rfl ?_
  refine am_iload_n (n := 26) d_Integer_bitCount_25 rfl rfl ?_
  refine am_iconst (n := 27) d_Integer_bitCount_26 ci_4 rfl ?_
  refine am_iushr (n := 28) d_Integer_bitCount_27 rfl ?_
  refine am_iadd (n := 29) d_Integer_bitCount_28 rfl ?_
  refine am_ldcw (n := 32) d_Integer_bitCount_29 k_Integer_267 rfl ?_
  refine am_iand (n := 33) d_Integer_bitCount_32 rfl ?_
  refine am_istore_n (ls' := [some (.int (((((p0 - (((Int32.toUInt32 p0 >>> (Int32.toUInt32 1 &&& Int32.toUInt32 31)).toInt32) &&& 1431655765)) &&& 858993459) + (((Int32.toUInt32 (p0 - (((Int32.toUInt32 p0 >>> (Int32.toUInt32 1 &&& Int32.toUInt32 31)).toInt32) &&& 1431655765)) >>> (Int32.toUInt32 2 &&& Int32.toUInt32 31)).toInt32) &&& 858993459)) + ((Int32.toUInt32 (((p0 - (((Int32.toUInt32 p0 >>> (Int32.toUInt32 1 &&& Int32.toUInt32 31)).toInt32) &&& 1431655765)) &&& 858993459) + (((Int32.toUInt32 (p0 - (((Int32.toUInt32 p0 >>> (Int32.toUInt32 1 &&& Int32.toUInt32 31)).toInt32) &&& 1431655765)) >>> (Int32.toUInt32 2 &&& Int32.toUInt32 31)).toInt32) &&& 858993459)) >>> (Int32.toUInt32 4 &&& Int32.toUInt32 31)).toInt32)) &&& 252645135))]) (n := 34) d_Integer_bitCount_33 (by decide) rfl rfl ?_
  refine am_iload_n (n := 35) d_Integer_bitCount_34 rfl rfl ?_
  refine am_iload_n (n := 36) d_Integer_bitCount_35 rfl rfl ?_
  refine am_bipush (n := 38) d_Integer_bitCount_36 cb_8 rfl ?_
  refine am_iushr (n := 39) d_Integer_bitCount_38 rfl ?_
  refine am_iadd (n := 40) d_Integer_bitCount_39 rfl ?_
  refine am_istore_n (ls' := [some (.int ((((((p0 - (((Int32.toUInt32 p0 >>> (Int32.toUInt32 1 &&& Int32.toUInt32 31)).toInt32) &&& 1431655765)) &&& 858993459) + (((Int32.toUInt32 (p0 - (((Int32.toUInt32 p0 >>> (Int32.toUInt32 1 &&& Int32.toUInt32 31)).toInt32) &&& 1431655765)) >>> (Int32.toUInt32 2 &&& Int32.toUInt32 31)).toInt32) &&& 858993459)) + ((Int32.toUInt32 (((p0 - (((Int32.toUInt32 p0 >>> (Int32.toUInt32 1 &&& Int32.toUInt32 31)).toInt32) &&& 1431655765)) &&& 858993459) + (((Int32.toUInt32 (p0 - (((Int32.toUInt32 p0 >>> (Int32.toUInt32 1 &&& Int32.toUInt32 31)).toInt32) &&& 1431655765)) >>> (Int32.toUInt32 2 &&& Int32.toUInt32 31)).toInt32) &&& 858993459)) >>> (Int32.toUInt32 4 &&& Int32.toUInt32 31)).toInt32)) &&& 252645135) + ((Int32.toUInt32 (((((p0 - (((Int32.toUInt32 p0 >>> (Int32.toUInt32 1 &&& Int32.toUInt32 31)).toInt32) &&& 1431655765)) &&& 858993459) + (((Int32.toUInt32 (p0 - (((Int32.toUInt32 p0 >>> (Int32.toUInt32 1 &&& Int32.toUInt32 31)).toInt32) &&& 1431655765)) >>> (Int32.toUInt32 2 &&& Int32.toUInt32 31)).toInt32) &&& 858993459)) + ((Int32.toUInt32 (((p0 - (((Int32.toUInt32 p0 >>> (Int32.toUInt32 1 &&& Int32.toUInt32 31)).toInt32) &&& 1431655765)) &&& 858993459) + (((Int32.toUInt32 (p0 - (((Int32.toUInt32 p0 >>> (Int32.toUInt32 1 &&& Int32.toUInt32 31)).toInt32) &&& 1431655765)) >>> (Int32.toUInt32 2 &&& Int32.toUInt32 31)).toInt32) &&& 858993459)) >>> (Int32.toUInt32 4 &&& Int32.toUInt32 31)).toInt32)) &&& 252645135) >>> (Int32.toUInt32 8 &&& Int32.toUInt32 31)).toInt32)))]) (n := 41) d_Integer_bitCount_40 (by decide) rfl rfl ?_
  refine am_iload_n (n := 42) d_Integer_bitCount_41 rfl rfl ?_
  refine am_iload_n (n := 43) d_Integer_bitCount_42 rfl rfl ?_
  refine am_bipush (n := 45) d_Integer_bitCount_43 cb_16 rfl ?_
  refine am_iushr (n := 46) d_Integer_bitCount_45 rfl ?_
  refine am_iadd (n := 47) d_Integer_bitCount_46 rfl ?_
  refine am_istore_n (ls' := [some (.int (((((((p0 - (((Int32.toUInt32 p0 >>> (Int32.toUInt32 1 &&& Int32.toUInt32 31)).toInt32) &&& 1431655765)) &&& 858993459) + (((Int32.toUInt32 (p0 - (((Int32.toUInt32 p0 >>> (Int32.toUInt32 1 &&& Int32.toUInt32 31)).toInt32) &&& 1431655765)) >>> (Int32.toUInt32 2 &&& Int32.toUInt32 31)).toInt32) &&& 858993459)) + ((Int32.toUInt32 (((p0 - (((Int32.toUInt32 p0 >>> (Int32.toUInt32 1 &&& Int32.toUInt32 31)).toInt32) &&& 1431655765)) &&& 858993459) + (((Int32.toUInt32 (p0 - (((Int32.toUInt32 p0 >>> (Int32.toUInt32 1 &&& Int32.toUInt32 31)).toInt32) &&& 1431655765)) >>> (Int32.toUInt32 2 &&& Int32.toUInt32 31)).toInt32) &&& 858993459)) >>> (Int32.toUInt32 4 &&& Int32.toUInt32 31)).toInt32)) &&& 252645135) + ((Int32.toUInt32 (((((p0 - (((Int32.toUInt32 p0 >>> (Int32.toUInt32 1 &&& Int32.toUInt32 31)).toInt32) &&& 1431655765)) &&& 858993459) + (((Int32.toUInt32 (p0 - (((Int32.toUInt32 p0 >>> (Int32.toUInt32 1 &&& Int32.toUInt32 31)).toInt32) &&& 1431655765)) >>> (Int32.toUInt32 2 &&& Int32.toUInt32 31)).toInt32) &&& 858993459)) + ((Int32.toUInt32 (((p0 - (((Int32.toUInt32 p0 >>> (Int32.toUInt32 1 &&& Int32.toUInt32 31)).toInt32) &&& 1431655765)) &&& 858993459) + (((Int32.toUInt32 (p0 - (((Int32.toUInt32 p0 >>> (Int32.toUInt32 1 &&& Int32.toUInt32 31)).toInt32) &&& 1431655765)) >>> (Int32.toUInt32 2 &&& Int32.toUInt32 31)).toInt32) &&& 858993459)) >>> (Int32.toUInt32 4 &&& Int32.toUInt32 31)).toInt32)) &&& 252645135) >>> (Int32.toUInt32 8 &&& Int32.toUInt32 31)).toInt32)) + ((Int32.toUInt32 ((((((p0 - (((Int32.toUInt32 p0 >>> (Int32.toUInt32 1 &&& Int32.toUInt32 31)).toInt32) &&& 1431655765)) &&& 858993459) + (((Int32.toUInt32 (p0 - (((Int32.toUInt32 p0 >>> (Int32.toUInt32 1 &&& Int32.toUInt32 31)).toInt32) &&& 1431655765)) >>> (Int32.toUInt32 2 &&& Int32.toUInt32 31)).toInt32) &&& 858993459)) + ((Int32.toUInt32 (((p0 - (((Int32.toUInt32 p0 >>> (Int32.toUInt32 1 &&& Int32.toUInt32 31)).toInt32) &&& 1431655765)) &&& 858993459) + (((Int32.toUInt32 (p0 - (((Int32.toUInt32 p0 >>> (Int32.toUInt32 1 &&& Int32.toUInt32 31)).toInt32) &&& 1431655765)) >>> (Int32.toUInt32 2 &&& Int32.toUInt32 31)).toInt32) &&& 858993459)) >>> (Int32.toUInt32 4 &&& Int32.toUInt32 31)).toInt32)) &&& 252645135) + ((Int32.toUInt32 (((((p0 - (((Int32.toUInt32 p0 >>> (Int32.toUInt32 1 &&& Int32.toUInt32 31)).toInt32) &&& 1431655765)) &&& 858993459) + (((Int32.toUInt32 (p0 - (((Int32.toUInt32 p0 >>> (Int32.toUInt32 1 &&& Int32.toUInt32 31)).toInt32) &&& 1431655765)) >>> (Int32.toUInt32 2 &&& Int32.toUInt32 31)).toInt32) &&& 858993459)) + ((Int32.toUInt32 (((p0 - (((Int32.toUInt32 p0 >>> (Int32.toUInt32 1 &&& Int32.toUInt32 31)).toInt32) &&& 1431655765)) &&& 858993459) + (((Int32.toUInt32 (p0 - (((Int32.toUInt32 p0 >>> (Int32.toUInt32 1 &&& Int32.toUInt32 31)).toInt32) &&& 1431655765)) >>> (Int32.toUInt32 2 &&& Int32.toUInt32 31)).toInt32) &&& 858993459)) >>> (Int32.toUInt32 4 &&& Int32.toUInt32 31)).toInt32)) &&& 252645135) >>> (Int32.toUInt32 8 &&& Int32.toUInt32 31)).toInt32)) >>> (Int32.toUInt32 16 &&& Int32.toUInt32 31)).toInt32)))]) (n := 48) d_Integer_bitCount_47 (by decide) rfl rfl ?_
  refine am_iload_n (n := 49) d_Integer_bitCount_48 rfl rfl ?_
  refine am_bipush (n := 51) d_Integer_bitCount_49 cb_63 rfl ?_
  refine am_iand (n := 52) d_Integer_bitCount_51 rfl ?_
  exact am_iret d_Integer_bitCount_52 ⟨((((((((p0 - (((Int32.toUInt32 p0 >>> (Int32.toUInt32 1 &&& Int32.toUInt32 31)).toInt32) &&& 1431655765)) &&& 858993459) + (((Int32.toUInt32 (p0 - (((Int32.toUInt32 p0 >>> (Int32.toUInt32 1 &&& Int32.toUInt32 31)).toInt32) &&& 1431655765)) >>> (Int32.toUInt32 2 &&& Int32.toUInt32 31)).toInt32) &&& 858993459)) + ((Int32.toUInt32 (((p0 - (((Int32.toUInt32 p0 >>> (Int32.toUInt32 1 &&& Int32.toUInt32 31)).toInt32) &&& 1431655765)) &&& 858993459) + (((Int32.toUInt32 (p0 - (((Int32.toUInt32 p0 >>> (Int32.toUInt32 1 &&& Int32.toUInt32 31)).toInt32) &&& 1431655765)) >>> (Int32.toUInt32 2 &&& Int32.toUInt32 31)).toInt32) &&& 858993459)) >>> (Int32.toUInt32 4 &&& Int32.toUInt32 31)).toInt32)) &&& 252645135) + ((Int32.toUInt32 (((((p0 - (((Int32.toUInt32 p0 >>> (Int32.toUInt32 1 &&& Int32.toUInt32 31)).toInt32) &&& 1431655765)) &&& 858993459) + (((Int32.toUInt32 (p0 - (((Int32.toUInt32 p0 >>> (Int32.toUInt32 1 &&& Int32.toUInt32 31)).toInt32) &&& 1431655765)) >>> (Int32.toUInt32 2 &&& Int32.toUInt32 31)).toInt32) &&& 858993459)) + ((Int32.toUInt32 (((p0 - (((Int32.toUInt32 p0 >>> (Int32.toUInt32 1 &&& Int32.toUInt32 31)).toInt32) &&& 1431655765)) &&& 858993459) + (((Int32.toUInt32 (p0 - (((Int32.toUInt32 p0 >>> (Int32.toUInt32 1 &&& Int32.toUInt32 31)).toInt32) &&& 1431655765)) >>> (Int32.toUInt32 2 &&& Int32.toUInt32 31)).toInt32) &&& 858993459)) >>> (Int32.toUInt32 4 &&& Int32.toUInt32 31)).toInt32)) &&& 252645135) >>> (Int32.toUInt32 8 &&& Int32.toUInt32 31)).toInt32)) + ((Int32.toUInt32 ((((((p0 - (((Int32.toUInt32 p0 >>> (Int32.toUInt32 1 &&& Int32.toUInt32 31)).toInt32) &&& 1431655765)) &&& 858993459) + (((Int32.toUInt32 (p0 - (((Int32.toUInt32 p0 >>> (Int32.toUInt32 1 &&& Int32.toUInt32 31)).toInt32) &&& 1431655765)) >>> (Int32.toUInt32 2 &&& Int32.toUInt32 31)).toInt32) &&& 858993459)) + ((Int32.toUInt32 (((p0 - (((Int32.toUInt32 p0 >>> (Int32.toUInt32 1 &&& Int32.toUInt32 31)).toInt32) &&& 1431655765)) &&& 858993459) + (((Int32.toUInt32 (p0 - (((Int32.toUInt32 p0 >>> (Int32.toUInt32 1 &&& Int32.toUInt32 31)).toInt32) &&& 1431655765)) >>> (Int32.toUInt32 2 &&& Int32.toUInt32 31)).toInt32) &&& 858993459)) >>> (Int32.toUInt32 4 &&& Int32.toUInt32 31)).toInt32)) &&& 252645135) + ((Int32.toUInt32 (((((p0 - (((Int32.toUInt32 p0 >>> (Int32.toUInt32 1 &&& Int32.toUInt32 31)).toInt32) &&& 1431655765)) &&& 858993459) + (((Int32.toUInt32 (p0 - (((Int32.toUInt32 p0 >>> (Int32.toUInt32 1 &&& Int32.toUInt32 31)).toInt32) &&& 1431655765)) >>> (Int32.toUInt32 2 &&& Int32.toUInt32 31)).toInt32) &&& 858993459)) + ((Int32.toUInt32 (((p0 - (((Int32.toUInt32 p0 >>> (Int32.toUInt32 1 &&& Int32.toUInt32 31)).toInt32) &&& 1431655765)) &&& 858993459) + (((Int32.toUInt32 (p0 - (((Int32.toUInt32 p0 >>> (Int32.toUInt32 1 &&& Int32.toUInt32 31)).toInt32) &&& 1431655765)) >>> (Int32.toUInt32 2 &&& Int32.toUInt32 31)).toInt32) &&& 858993459)) >>> (Int32.toUInt32 4 &&& Int32.toUInt32 31)).toInt32)) &&& 252645135) >>> (Int32.toUInt32 8 &&& Int32.toUInt32 31)).toInt32)) >>> (Int32.toUInt32 16 &&& Int32.toUInt32 31)).toInt32)) &&& 63), rfl, rfl, h⟩
abbrev po_Arrays_fillI (L : am_TL) (R : am_TR) (Q : am_TI → Prop) : Option Value → am_St → Prop := fun r σ' => ∃ (I' : am_TI), r = none ∧ σ' = (I', L, R, am_SH) ∧ Q I'
def wl_Arrays_fillI_5 (L : am_TL) (R : am_TR) (p0 : Nat) (w0 : Nat) (p1 : Int32) (Q : am_TI → Prop)  : Nat → am_TI → Int32 → Int32 → Prop
  | 0 => fun _ _ _ => False
  | f5 + 1 => fun I v2 v3 => ((v3 ≤ v2 → Q I) ∧ (¬ v3 ≤ v2 → (vp_in v2 w0 ∧ (∀ I1, I1 = am_u2 I p0 (Int32.toNatClampNeg v2) p1 → wl_Arrays_fillI_5 L R p0 w0 p1 Q f5 I1 (v2 + 1) v3))))
set_option maxRecDepth 20000 in
theorem tl_Arrays_fillI_5 {d : Nat}  {L : am_TL} {R : am_TR} {p0 : Nat} {w0 : Nat} {p1 : Int32} {Q : am_TI → Prop}  (hw : am_Wf R) (hp0 : am_SH[p0]? = some (.inr (0, w0))) (hd : 0 ≤ d) : ∀ (n : Nat) (I : am_TI) (v2 : Int32) (v3 : Int32), wl_Arrays_fillI_5 L R p0 w0 p1 Q  n I v2 v3 → am_Wp (d, "java/util/Arrays", b_Arrays_fillI, 4, false) 0 0 5 [some (.ref p0), some (.int p1), some (.int v2), some (.int v3)] [] (I, L, R, am_SH) (po_Arrays_fillI L R Q) := by
  intro n
  induction n with
  | zero => intro I v2 v3 h; exact h.elim
  | succ n ih =>
    intro I v2 v3 h
    unfold wl_Arrays_fillI_5 at h
    refine am_iload_n (n := 6) d_Arrays_fillI_5 rfl rfl ?_
    refine am_iload_n (n := 7) d_Arrays_fillI_6 rfl rfl ?_
    refine am_icmp_ge (tgt := 20) (n := 10) d_Arrays_fillI_7 rfl rfl (fun c1 => ?_) (fun c1 => ?_)
    · have h := h.1 c1
      exact am_vret d_Arrays_fillI_20 ⟨I, rfl, rfl, h⟩
    · have h := h.2 c1
      refine am_aload_n (n := 11) d_Arrays_fillI_10 rfl rfl ?_
      refine am_iload_n (n := 12) d_Arrays_fillI_11 rfl rfl ?_
      refine am_iload_n (n := 13) d_Arrays_fillI_12 rfl rfl ?_
      obtain ⟨g1, h⟩ := h
      refine am_iast2 (n := 14) d_Arrays_fillI_13 rfl hp0 g1 rfl ?_
      generalize eI1 : am_u2 I p0 (Int32.toNatClampNeg v2) p1 = I1
      have h := h I1 eI1.symm
      refine am_iinc (v := v2 + 1) (ls' := [some (.ref p0), some (.int p1), some (.int (v2 + 1)), some (.int v3)]) (n := 17) d_Arrays_fillI_14 rfl (congrArg _ ci_1) (by decide) rfl rfl ?_
      refine am_goto (tgt := 5) d_Arrays_fillI_17 rfl ?_
      exact ih I1 (v2 + 1) v3  h
def wp_Arrays_fillI (I : am_TI) (L : am_TL) (R : am_TR) (p0 : Nat) (w0 : Nat) (p1 : Int32)  (Q : am_TI → Prop) : Prop := (∃ z, wl_Arrays_fillI_5 L R p0 w0 p1 Q z I 0 (nI w0))
set_option maxRecDepth 20000 in
theorem cm_Arrays_fillI {d : Nat} {I : am_TI} {L : am_TL} {R : am_TR}  (hw : am_Wf R)   {p0 : Nat} {w0 : Nat} {p1 : Int32} {Q : am_TI → Prop} (hd : 0 ≤ d) (hp0 : am_SH[p0]? = some (.inr (0, w0))) (h : wp_Arrays_fillI I L R p0 w0 p1  Q) : am_Cm d 0 0 y_Arrays_fillI b_Arrays_fillI 4 (none) [.ref p0, .int p1] (I, L, R, am_SH) (po_Arrays_fillI L R Q) := by
  refine am_Cm_of (ini := false) (by decide +kernel) (fun z => by cases z) (by simp [Value.category]) (fun r σ' z => by obtain ⟨_, rfl, -⟩ := z; rfl) ?_
  unfold wp_Arrays_fillI at h
  show am_Wp (d, "java/util/Arrays", b_Arrays_fillI, 4, false) 0 0 0 [some (.ref p0), some (.int p1), none, none] [] (I, L, R, am_SH) (po_Arrays_fillI L R Q)
  refine am_iconst (n := 1) d_Arrays_fillI_0 ci_0 rfl ?_
  refine am_istore_n (ls' := [some (.ref p0), some (.int p1), some (.int 0), none]) (n := 2) d_Arrays_fillI_1 (by decide) rfl rfl ?_
  refine am_aload_n (n := 3) d_Arrays_fillI_2 rfl rfl ?_
  refine am_alen (n := 4) d_Arrays_fillI_3 rfl hp0 (by decide) ?_
  refine am_istore_n (ls' := [some (.ref p0), some (.int p1), some (.int 0), some (.int (nI w0))]) (n := 5) d_Arrays_fillI_4 (by decide) rfl rfl ?_
  obtain ⟨n, h⟩ := h
  exact tl_Arrays_fillI_5 hw hp0 hd n I 0 (nI w0) h
