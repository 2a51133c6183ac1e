/-! who knows: the class's look, the reference's worlds -/
theorem zvb (b : Bool) : vp_nar .boolean (nI b.toNat) = nI b.toNat := by cases b <;> rfl
theorem zv0 : vp_nar .boolean (nI 0) = nI 0 := rfl
theorem zv1 : vp_nar .boolean (nI 1) = nI 1 := rfl
theorem zab (b : Bool) : am_b b = nI b.toNat := by cases b <;> rfl
section
variable {q : Nat → Nat} {c d : Nat} {I I1 I2 : am_TI} {L L1 L2 : am_TL} {R : am_TR} {s : Nat → Nat} {N : Nat} {P : Nat → Bool}
theorem kn_s_ok (ok : sq_Ok q) (r : Nat) : ∀ i, i < q 3 → kn_s q r i < 2 ^ q 3 ∧ (kn_s q r i).testBit i = false := fun i _ => ⟨Nat.lt_of_le_of_lt (zan_le _ _) (sq_near_lt3 _ _), kn_s_bit q r i⟩
theorem kn_look (h : sq_U q c d I L) (hcd : sq_cd c d) (ok : sq_Ok q) {r : Nat} (hr : r < 1000) {Q : am_TI → am_TL → Prop} (k : ∀ I1 L1, kn_U (kn_s q r) (q 3) (kn_P0 (q 3)) I1 L1 → (∀ r, r ≠ 27 → r ≠ 28 → I1 r = I r) → (∀ r j, ¬ (r = 27 ∧ j = 2) → L1 r j = L r j) → Q I1 L1) : wp_Knowing_look I L R 27 c (nI r) Q := by
  have o := ok.1.2.2.1
  have n6 := zn_pow6 (N := q 3) (by omega)
  have hcd' := hcd
  obtain ⟨hc, hd⟩ := hcd'
  simp (disch := omega) only [wp_Knowing_look, h.n3, zi_0, zi_1, zi_2, zi_3, zi_4, zi_5, zi_6, zi_7, zi_8, zi_9, zi_10, zi_11, zi_12, zi_13, zi_14, zi_15, zi_16, zi_17, zi_18, zi_19, zi_20, zi_21, zi_22, zi_23, zi_24, zi_25, zi_26, zi_30, zi_31, zi_32, zi_34, zi_38, zi_59, zi_60, zi_61, zi_63, zi_64, zi_80, zi_96, zi_97, zi_99, zi_100, zi_122, zi_255, zi_256, zi_300, zi_398, zi_406, zi_900, zi_1000, zi_1024, zi_1624, zi_1662, zi_2030, zi_2031, zi_2068, zi_2258, zi_9999, zi_48, zi_57, zi_65536, zi_3257, zi_11483, zi_1000000, zi_729, zi_81, zi_m1, nI_add, pk_mul, nI_ltI, nI_leI, nI_eq, nI_clamp, zn_in, zn_sub1lt, zn_M, zn_Ml, zn_Mg, zn_Mle, zn_Mge, zn_sub, Nat.reduceAdd, Nat.reduceMul, forall_eq, true_imp_iff, false_imp_iff, and_true, true_and, not_true_eq_false, not_false_eq_true, reduceCtorEq, imp_self, eq_self, false_and, and_false, implies_true]
  refine (zl_up (P := fun f m => ∀ I1, I1 27 1 = nI (q 3) → (∀ i, i < m → I1 28 i = nI (kn_s q r i)) → (∀ r, r ≠ 27 → r ≠ 28 → I1 r = I r) → wl_Knowing_look_10 R 27 c (nI r) Q f I1 L (nI m)) (q 3) (fun f I1 e1 e2 e3 => ?_) (fun f m hm ih I1 e1 e2 e3 => ?_) 0 (by omega)).elim fun z hz => ⟨z, hz _ (am_u2_at _ _ _ _) (fun i hi => absurd hi (by omega)) (fun r a b => am_u2_row _ _ _ _ a)⟩
  · simp (disch := omega) only [wl_Knowing_look_10, e1, zi_0, zi_1, zi_2, zi_3, zi_4, zi_5, zi_6, zi_7, zi_8, zi_9, zi_10, zi_11, zi_12, zi_13, zi_14, zi_15, zi_16, zi_17, zi_18, zi_19, zi_20, zi_21, zi_22, zi_23, zi_24, zi_25, zi_26, zi_30, zi_31, zi_32, zi_34, zi_38, zi_59, zi_60, zi_61, zi_63, zi_64, zi_80, zi_96, zi_97, zi_99, zi_100, zi_122, zi_255, zi_256, zi_300, zi_398, zi_406, zi_900, zi_1000, zi_1024, zi_1624, zi_1662, zi_2030, zi_2031, zi_2068, zi_2258, zi_9999, zi_48, zi_57, zi_65536, zi_3257, zi_11483, zi_1000000, zi_729, zi_81, zi_m1, nI_add, pk_mul, nI_ltI, nI_leI, nI_eq, nI_clamp, zn_in, zn_sub1lt, zn_M, zn_Ml, zn_Mg, zn_Mle, zn_Mge, zn_sub, Nat.reduceAdd, Nat.reduceMul]
    refine ⟨fun _ L0 hL0 => ?_, fun g => absurd (Nat.le_refl _) g⟩
    subst hL0
    refine (zl_up (P := fun f m => 0 < m → ∀ L1 : am_TL, (∀ v, v < 64 → (L1 27 2).toBitVec.getLsbD v = (decide (v < m) && kn_P0 (q 3) v)) → (∀ r j, ¬ (r = 27 ∧ j = 2) → L1 r j = L r j) → wl_Knowing_look_54 R 27 c (nI r) Q f I1 L1 (nI m)) (2 ^ q 3) (fun f _ L1 hx fl => ?_) (fun f m hm ih h0 L1 hx fl => ?_) 1 (by omega)).elim fun z hz => ⟨z, hz (by omega) _ (fun v hv => ?_) (fun r j g => by unfold am_u2; rw [if_neg g])⟩
    · simp (disch := omega) only [wl_Knowing_look_54, e1, zn_shl, zi_0, zi_1, zi_2, zi_3, zi_4, zi_5, zi_6, zi_7, zi_8, zi_9, zi_10, zi_11, zi_12, zi_13, zi_14, zi_15, zi_16, zi_17, zi_18, zi_19, zi_20, zi_21, zi_22, zi_23, zi_24, zi_25, zi_26, zi_30, zi_31, zi_32, zi_34, zi_38, zi_59, zi_60, zi_61, zi_63, zi_64, zi_80, zi_96, zi_97, zi_99, zi_100, zi_122, zi_255, zi_256, zi_300, zi_398, zi_406, zi_900, zi_1000, zi_1024, zi_1624, zi_1662, zi_2030, zi_2031, zi_2068, zi_2258, zi_9999, zi_48, zi_57, zi_65536, zi_3257, zi_11483, zi_1000000, zi_729, zi_81, zi_m1, nI_add, pk_mul, nI_ltI, nI_leI, nI_eq, nI_clamp, zn_in, zn_sub1lt, zn_M, zn_Ml, zn_Mg, zn_Mle, zn_Mge, zn_sub, Nat.reduceAdd, Nat.reduceMul]
      refine ⟨fun _ => k I1 L1 ⟨e1, e2, fun v hv => ?_⟩ e3 fl, fun g => absurd (Nat.le_refl _) g⟩
      rw [hx v hv]
      by_cases g : v < 2 ^ q 3
      · simp [g]
      · simp [kn_P0, g]
    · simp (disch := omega) only [wl_Knowing_look_54, e1, zn_shl, zi_0, zi_1, zi_2, zi_3, zi_4, zi_5, zi_6, zi_7, zi_8, zi_9, zi_10, zi_11, zi_12, zi_13, zi_14, zi_15, zi_16, zi_17, zi_18, zi_19, zi_20, zi_21, zi_22, zi_23, zi_24, zi_25, zi_26, zi_30, zi_31, zi_32, zi_34, zi_38, zi_59, zi_60, zi_61, zi_63, zi_64, zi_80, zi_96, zi_97, zi_99, zi_100, zi_122, zi_255, zi_256, zi_300, zi_398, zi_406, zi_900, zi_1000, zi_1024, zi_1624, zi_1662, zi_2030, zi_2031, zi_2068, zi_2258, zi_9999, zi_48, zi_57, zi_65536, zi_3257, zi_11483, zi_1000000, zi_729, zi_81, zi_m1, nI_add, pk_mul, nI_ltI, nI_leI, nI_eq, nI_clamp, zn_in, zn_sub1lt, zn_M, zn_Ml, zn_Mg, zn_Mle, zn_Mge, zn_sub, Nat.reduceAdd, Nat.reduceMul]
      refine ⟨fun g => absurd g (by omega), fun _ L2 hL2 => ?_⟩
      subst hL2
      refine ih (by omega) _ (fun v hv => ?_) (fun r j g => by unfold am_u2; rw [if_neg g]; exact fl r j g)
      rw [am_u2_at]
      refine Eq.trans (zb_or (L1 27 2) (k := m) (w := v) (by omega) hv) ?_
      rw [hx v hv]
      by_cases e : v = m
      · subst e; simp [kn_P0, h0, hm]
      · simp only [show (v < m ↔ v < m + 1) by omega, e, decide_false, Bool.or_false]
    · have : ∀ v, v < 64 → (0 : Int64).toBitVec.getLsbD v = false := by decide +kernel
      rw [am_u2_at]
      refine Eq.trans (this v hv) ?_
      by_cases e : v = 0
      · subst e; simp [kn_P0]
      · simp; omega
  · have h1 : sq_U q c d I1 L := h.keep (fun r hr => e3 r (by omega) (by omega)) rfl
    have nl := sq_near_lt ok (q (10 + 4 * m)) r
    simp (disch := omega) only [wl_Knowing_look_10, e1, h1.at hm, zi_0, zi_1, zi_2, zi_3, zi_4, zi_5, zi_6, zi_7, zi_8, zi_9, zi_10, zi_11, zi_12, zi_13, zi_14, zi_15, zi_16, zi_17, zi_18, zi_19, zi_20, zi_21, zi_22, zi_23, zi_24, zi_25, zi_26, zi_30, zi_31, zi_32, zi_34, zi_38, zi_59, zi_60, zi_61, zi_63, zi_64, zi_80, zi_96, zi_97, zi_99, zi_100, zi_122, zi_255, zi_256, zi_300, zi_398, zi_406, zi_900, zi_1000, zi_1024, zi_1624, zi_1662, zi_2030, zi_2031, zi_2068, zi_2258, zi_9999, zi_48, zi_57, zi_65536, zi_3257, zi_11483, zi_1000000, zi_729, zi_81, zi_m1, nI_add, pk_mul, nI_ltI, nI_leI, nI_eq, nI_clamp, zn_in, zn_sub1lt, zn_M, zn_Ml, zn_Mg, zn_Mle, zn_Mge, zn_sub, Nat.reduceAdd, Nat.reduceMul]
    refine ⟨fun g => absurd g (by omega), fun _ => ⟨by omega, su_near h1 ok (ok.at25 hm) hr ⟨by omega, fun I2 hI2 => ?_⟩⟩⟩
    subst hI2
    rw [zn_shl (by omega), zn_an]
    refine ih _ (by rw [am_u2o (by omega)]; exact e1) (fun i hi => ?_) (fun r a b => by rw [am_u2_row _ _ _ _ (by omega)]; exact e3 r a b)
    by_cases e : i = m
    · subst e; rw [am_u2_at]; rfl
    · rw [am_u2_ne _ _ _ _ e]; exact e2 i (by omega)
/-- the reference's picture -/
def kn_M (s : Nat → Nat) (N : Nat) (P : Nat → Bool) (I : am_TI) : Prop := I 104 3 = nI N ∧ (∀ h, h < N → I 123 h = nI (s h)) ∧ ∀ w, w < 64 → I 121 w = nI (P w).toNat
theorem kn_ex_mono {h w a b : Nat} (hab : a ≤ b) (e : kn_ex s P h w a = true) : kn_ex s P h w b = true := by
  rw [kn_ex_iff] at e ⊢
  obtain ⟨o, h1, h2⟩ := e
  exact ⟨o, by omega, h2⟩
theorem sm_kn (hN : N ≤ 6) (h : kn_M s N P I) (hs : ∀ i, i < N → s i < 2 ^ N ∧ (s i).testBit i = false) (hP : kn_Ok N P) {w : Nat} (hw : w < 64) {Q : Int32 → Prop} (k : Q (nI (kn s N P w))) : wp_M_knowing I L R 103 (nI w) Q := by
  have n6 := zn_pow6 hN
  refine zl_up (P := fun f m => wl_M_knowing_4 I L R 103 (nI w) Q f (nI (zs_bs (fun h => w.testBit h && !kn_ex s P h w (2 ^ N)) m)) (nI m)) N (fun f => ?_) (fun f m hm ih => ?_) 0 (by omega)
  · simp (disch := omega) only [wl_M_knowing_4, h.1, zi_0, zi_1, zi_2, zi_3, zi_4, zi_5, zi_6, zi_7, zi_8, zi_9, zi_10, zi_11, zi_12, zi_13, zi_14, zi_15, zi_16, zi_17, zi_18, zi_19, zi_20, zi_21, zi_22, zi_23, zi_24, zi_25, zi_26, zi_30, zi_31, zi_32, zi_34, zi_38, zi_59, zi_60, zi_61, zi_63, zi_64, zi_80, zi_96, zi_97, zi_99, zi_100, zi_122, zi_255, zi_256, zi_300, zi_398, zi_406, zi_900, zi_1000, zi_1024, zi_1624, zi_1662, zi_2030, zi_2031, zi_2068, zi_2258, zi_9999, zi_48, zi_57, zi_65536, zi_3257, zi_11483, zi_1000000, zi_729, zi_81, zi_m1, nI_add, pk_mul, nI_ltI, nI_leI, nI_eq, nI_clamp, zn_in, zn_sub1lt, zn_M, zn_Ml, zn_Mg, zn_Mle, zn_Mge, zn_sub, Nat.reduceAdd, Nat.reduceMul, forall_eq, true_imp_iff, false_imp_iff, and_true, true_and, not_true_eq_false, not_false_eq_true, reduceCtorEq, imp_self, eq_self, false_and, and_false, implies_true]
    exact ⟨fun _ => k, fun g => absurd (Nat.le_refl _) g⟩
  · have fin : ∀ b, b = (w.testBit m && !kn_ex s P m w (2 ^ N)) → wb_M_knowing_96 I L R 103 (nI w) Q (wl_M_knowing_4 I L R 103 (nI w) Q f) (nI (zs_bs (fun h => w.testBit h && !kn_ex s P h w (2 ^ N)) m)) (nI m) b := by
      intro b hb
      simp (disch := omega) only [wb_M_knowing_96, zi_0, zi_1, zi_2, zi_3, zi_4, zi_5, zi_6, zi_7, zi_8, zi_9, zi_10, zi_11, zi_12, zi_13, zi_14, zi_15, zi_16, zi_17, zi_18, zi_19, zi_20, zi_21, zi_22, zi_23, zi_24, zi_25, zi_26, zi_30, zi_31, zi_32, zi_34, zi_38, zi_59, zi_60, zi_61, zi_63, zi_64, zi_80, zi_96, zi_97, zi_99, zi_100, zi_122, zi_255, zi_256, zi_300, zi_398, zi_406, zi_900, zi_1000, zi_1024, zi_1624, zi_1662, zi_2030, zi_2031, zi_2068, zi_2258, zi_9999, zi_48, zi_57, zi_65536, zi_3257, zi_11483, zi_1000000, zi_729, zi_81, zi_m1, nI_add, pk_mul, nI_ltI, nI_leI, nI_eq, nI_clamp, zn_in, zn_sub1lt, zn_M, zn_Ml, zn_Mg, zn_Mle, zn_Mge, zn_sub, Nat.reduceAdd, Nat.reduceMul]
      refine ⟨fun g => ?_, fun g => ?_⟩
      · rw [zn_or0, zs_no (by rw [← hb]; exact g)]; exact ih
      · rw [zn_yes (by rw [← hb]; exact g) (by omega)]; exact ih
    have inner : ∃ z, wl_M_knowing_34 I L R 103 (nI w) Q (wl_M_knowing_4 I L R 103 (nI w) Q f) z (nI (zs_bs (fun h => w.testBit h && !kn_ex s P h w (2 ^ N)) m)) (nI m) (w.testBit m) (nI (zan w (2 ^ m))) (nI 1) := by
      refine (zl_up (P := fun gf j => 0 < j → ∀ b, b = (w.testBit m && !kn_ex s P m w j) → wl_M_knowing_34 I L R 103 (nI w) Q (wl_M_knowing_4 I L R 103 (nI w) Q f) gf (nI (zs_bs (fun h => w.testBit h && !kn_ex s P h w (2 ^ N)) m)) (nI m) b (nI (zan w (2 ^ m))) (nI j)) (2 ^ N) (fun gf _ b hb => ?_) (fun gf j hj ih2 h0 b hb => ?_) 1 (by omega)).elim fun z hz => ⟨z, hz (by omega) _ ?_⟩
      · simp (disch := omega) only [wl_M_knowing_34, h.1, zn_shl, zi_0, zi_1, zi_2, zi_3, zi_4, zi_5, zi_6, zi_7, zi_8, zi_9, zi_10, zi_11, zi_12, zi_13, zi_14, zi_15, zi_16, zi_17, zi_18, zi_19, zi_20, zi_21, zi_22, zi_23, zi_24, zi_25, zi_26, zi_30, zi_31, zi_32, zi_34, zi_38, zi_59, zi_60, zi_61, zi_63, zi_64, zi_80, zi_96, zi_97, zi_99, zi_100, zi_122, zi_255, zi_256, zi_300, zi_398, zi_406, zi_900, zi_1000, zi_1024, zi_1624, zi_1662, zi_2030, zi_2031, zi_2068, zi_2258, zi_9999, zi_48, zi_57, zi_65536, zi_3257, zi_11483, zi_1000000, zi_729, zi_81, zi_m1, nI_add, pk_mul, nI_ltI, nI_leI, nI_eq, nI_clamp, zn_in, zn_sub1lt, zn_M, zn_Ml, zn_Mg, zn_Mle, zn_Mge, zn_sub, Nat.reduceAdd, Nat.reduceMul]
        exact ⟨fun _ => fin b hb, fun g => absurd (Nat.le_refl _) g⟩
      · have pj := h.2.2 j (by omega)
        have zl := zan_le w (2 ^ m)
        have x64 : ∀ a b, a < 64 → b < 64 → (a ^^^ b) < 64 := fun a b ha hb => Nat.xor_lt_two_pow (n := 6) ha hb
        have xl := x64 j (zan w (2 ^ m)) (by omega) (by omega)
        have al : (j ^^^ zan w (2 ^ m)) &&& s m < 64 := Nat.lt_of_le_of_lt Nat.and_le_left xl
        simp (disch := omega) only [wl_M_knowing_34, h.1, zn_shl, pj, h.2.1 m hm, wp_M_isIn, zn_bit, zi_0, zi_1, zi_2, zi_3, zi_4, zi_5, zi_6, zi_7, zi_8, zi_9, zi_10, zi_11, zi_12, zi_13, zi_14, zi_15, zi_16, zi_17, zi_18, zi_19, zi_20, zi_21, zi_22, zi_23, zi_24, zi_25, zi_26, zi_30, zi_31, zi_32, zi_34, zi_38, zi_59, zi_60, zi_61, zi_63, zi_64, zi_80, zi_96, zi_97, zi_99, zi_100, zi_122, zi_255, zi_256, zi_300, zi_398, zi_406, zi_900, zi_1000, zi_1024, zi_1624, zi_1662, zi_2030, zi_2031, zi_2068, zi_2258, zi_9999, zi_48, zi_57, zi_65536, zi_3257, zi_11483, zi_1000000, zi_729, zi_81, zi_m1, nI_add, pk_mul, nI_ltI, nI_leI, nI_eq, nI_clamp, zn_in, zn_sub1lt, zn_M, zn_Ml, zn_Mg, zn_Mle, zn_Mge, zn_sub, Nat.reduceAdd, Nat.reduceMul]
        simp (disch := omega) only [ze_xor, ze_and, zi_0, zi_1, zi_2, zi_3, zi_4, zi_5, zi_6, zi_7, zi_8, zi_9, zi_10, zi_11, zi_12, zi_13, zi_14, zi_15, zi_16, zi_17, zi_18, zi_19, zi_20, zi_21, zi_22, zi_23, zi_24, zi_25, zi_26, zi_30, zi_31, zi_32, zi_34, zi_38, zi_59, zi_60, zi_61, zi_63, zi_64, zi_80, zi_96, zi_97, zi_99, zi_100, zi_122, zi_255, zi_256, zi_300, zi_398, zi_406, zi_900, zi_1000, zi_1024, zi_1624, zi_1662, zi_2030, zi_2031, zi_2068, zi_2258, zi_9999, zi_48, zi_57, zi_65536, zi_3257, zi_11483, zi_1000000, zi_729, zi_81, zi_m1, nI_add, pk_mul, nI_ltI, nI_leI, nI_eq, nI_clamp, zn_in, zn_sub1lt, zn_M, zn_Ml, zn_Mg, zn_Mle, zn_Mge, zn_sub, Nat.reduceAdd, Nat.reduceMul]
        refine ⟨fun g => absurd g (by omega), fun _ => ⟨fun g => fin b ?_, fun g => ⟨by omega, ?_⟩⟩⟩
        · rw [g] at hb ⊢
          cases ew : w.testBit m with
          | false => rfl
          | true =>
            rw [ew] at hb
            simp only [Bool.true_and] at hb ⊢
            have := kn_ex_mono (show j ≤ 2 ^ N by omega) (show kn_ex s P m w j = true by simpa using hb.symm)
            rw [this]; rfl
        · have next : ∀ b', b' = (w.testBit m && !(kn_ex s P m w j || kn_cond s P m w j)) → wl_M_knowing_34 I L R 103 (nI w) Q (wl_M_knowing_4 I L R 103 (nI w) Q f) gf (nI (zs_bs (fun h => w.testBit h && !kn_ex s P h w (2 ^ N)) m)) (nI m) b' (nI (zan w (2 ^ m))) (nI (j + 1)) := fun b' hb' => ih2 (by omega) b' (by rw [kn_ex]; exact hb')
          have bt : w.testBit m = true ∧ kn_ex s P m w j = false := by rw [g] at hb; simpa using hb.symm
          unfold kn_cond at next
          rw [bt.1, bt.2] at next
          cases hp : P j with
          | false =>
            rw [hp] at next
            refine ⟨fun _ => next b (by rw [g]; rfl), fun g2 => ?_⟩
            exact absurd rfl g2
          | true =>
            rw [hp] at next
            refine ⟨fun g2 => ?_, fun _ => ⟨by omega, fun g2 => ?_, fun g2 => ?_⟩⟩
            · exact absurd g2 (by decide)
            · refine ⟨fun g3 => ⟨fun e => (by cases e), fun _ => next b ?_⟩, fun g3 => ⟨fun _ => next false ?_, fun e => (by cases e)⟩⟩
              · rw [g, g2, g3]; rfl
              · rw [Bool.not_eq_true] at g3
                rw [g2, g3]; rfl
            · exact next b (by rw [g]; simp [g2])
      · rw [kn_ex, kn_ex]
        unfold kn_cond
        rw [hP.1]; simp
    simp (disch := omega) only [wl_M_knowing_4, h.1, wp_M_isIn, zn_bit, zn_shl, zn_an, zi_0, zi_1, zi_2, zi_3, zi_4, zi_5, zi_6, zi_7, zi_8, zi_9, zi_10, zi_11, zi_12, zi_13, zi_14, zi_15, zi_16, zi_17, zi_18, zi_19, zi_20, zi_21, zi_22, zi_23, zi_24, zi_25, zi_26, zi_30, zi_31, zi_32, zi_34, zi_38, zi_59, zi_60, zi_61, zi_63, zi_64, zi_80, zi_96, zi_97, zi_99, zi_100, zi_122, zi_255, zi_256, zi_300, zi_398, zi_406, zi_900, zi_1000, zi_1024, zi_1624, zi_1662, zi_2030, zi_2031, zi_2068, zi_2258, zi_9999, zi_48, zi_57, zi_65536, zi_3257, zi_11483, zi_1000000, zi_729, zi_81, zi_m1, nI_add, pk_mul, nI_ltI, nI_leI, nI_eq, nI_clamp, zn_in, zn_sub1lt, zn_M, zn_Ml, zn_Mg, zn_Mle, zn_Mge, zn_sub, Nat.reduceAdd, Nat.reduceMul]
    refine ⟨fun g => absurd g (by omega), fun _ => ⟨fun g => ?_, fun g => ?_⟩⟩
    · rw [g] at inner; exact inner
    · rw [Bool.not_eq_true] at g; rw [g] at inner; exact inner
end
