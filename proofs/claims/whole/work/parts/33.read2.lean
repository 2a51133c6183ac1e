/-! more reads; told, hearer, dog, cell, likers -/
section
variable {q : Nat → Nat} {c d : Nat} {I I1 : am_TI} {L : am_TL} {R : am_TR}
theorem su_likers (h : sq_U q c d I L) (ok : sq_Ok q) {t : Nat} (ht : t < 31) {Q : Int32 → Prop} (k : Q (nI (sq_likers q t))) : wp_Square_likersOf I L R c (nI t) Q := by
  have o := ok.1.2.2.1
  refine zl_up (P := fun f m => wl_Square_likersOf_4 I L R c (nI t) Q f (nI (zs_bs (fun h => (q (11 + 4 * h)).testBit t) m)) (nI m)) (q 3) (fun f => ?_) (fun f m hm ih => ?_) 0 (by omega)
  · simp (disch := omega) only [wl_Square_likersOf_4, h.n3, zi_0, zi_1, zi_2, zi_3, zi_4, zi_5, zi_6, zi_7, zi_8, zi_9, zi_10, zi_11, zi_12, zi_13, zi_14, zi_15, zi_16, zi_17, zi_18, zi_19, zi_20, zi_21, zi_22, zi_23, zi_24, zi_25, zi_26, zi_30, zi_31, zi_32, zi_34, zi_38, zi_59, zi_60, zi_61, zi_63, zi_64, zi_80, zi_96, zi_97, zi_99, zi_100, zi_122, zi_255, zi_256, zi_300, zi_398, zi_406, zi_900, zi_1000, zi_1024, zi_1624, zi_1662, zi_2030, zi_2031, zi_2068, zi_2258, zi_9999, zi_48, zi_57, zi_65536, zi_3257, zi_11483, zi_1000000, zi_729, zi_81, zi_m1, nI_add, pk_mul, nI_ltI, nI_leI, nI_eq, nI_clamp, zn_in, zn_sub1lt, zn_M, zn_Ml, zn_Mg, zn_Mle, zn_Mge, zn_sub, Nat.reduceAdd, Nat.reduceMul, forall_eq, true_imp_iff, false_imp_iff, and_true, true_and, not_true_eq_false, not_false_eq_true, reduceCtorEq, imp_self, eq_self, false_and, and_false, implies_true]
    exact ⟨fun _ => k, fun g => absurd (Nat.le_refl _) g⟩
  · have lk := ok.lk31 hm
    simp (disch := omega) only [wl_Square_likersOf_4, wp_Square_doesLike, h.n3, h.lk hm, zn_bit, zi_0, zi_1, zi_2, zi_3, zi_4, zi_5, zi_6, zi_7, zi_8, zi_9, zi_10, zi_11, zi_12, zi_13, zi_14, zi_15, zi_16, zi_17, zi_18, zi_19, zi_20, zi_21, zi_22, zi_23, zi_24, zi_25, zi_26, zi_30, zi_31, zi_32, zi_34, zi_38, zi_59, zi_60, zi_61, zi_63, zi_64, zi_80, zi_96, zi_97, zi_99, zi_100, zi_122, zi_255, zi_256, zi_300, zi_398, zi_406, zi_900, zi_1000, zi_1024, zi_1624, zi_1662, zi_2030, zi_2031, zi_2068, zi_2258, zi_9999, zi_48, zi_57, zi_65536, zi_3257, zi_11483, zi_1000000, zi_729, zi_81, zi_m1, nI_add, pk_mul, nI_ltI, nI_leI, nI_eq, nI_clamp, zn_in, zn_sub1lt, zn_M, zn_Ml, zn_Mg, zn_Mle, zn_Mge, zn_sub, Nat.reduceAdd, Nat.reduceMul, forall_eq, true_imp_iff, false_imp_iff, and_true, true_and, not_true_eq_false, not_false_eq_true, reduceCtorEq, imp_self, eq_self, false_and, and_false, implies_true]
    refine ⟨fun g => absurd g (by omega), fun _ => ⟨by omega, fun g => ?_, fun g => ?_⟩⟩
    · rw [zn_yes (by simpa using g) (by omega)]; exact ih
    · rw [zs_no (by simpa using g)]; exact ih
theorem sm_likers (h : sq_M q 0 I L) (ok : sq_Ok q) {t : Nat} (ht : t < 31) {Q : Int32 → Prop} (k : Q (nI (sq_likers q t))) : wp_M_likersOf I L R 103 (nI t) Q := by
  have o := ok.1.2.2.1
  refine zl_up (P := fun f m => wl_M_likersOf_4 I L R 103 (nI t) Q f (nI (zs_bs (fun h => (q (11 + 4 * h)).testBit t) m)) (nI m)) (q 3) (fun f => ?_) (fun f m hm ih => ?_) 0 (by omega)
  · simp (disch := omega) only [wl_M_likersOf_4, h.n3, zi_0, zi_1, zi_2, zi_3, zi_4, zi_5, zi_6, zi_7, zi_8, zi_9, zi_10, zi_11, zi_12, zi_13, zi_14, zi_15, zi_16, zi_17, zi_18, zi_19, zi_20, zi_21, zi_22, zi_23, zi_24, zi_25, zi_26, zi_30, zi_31, zi_32, zi_34, zi_38, zi_59, zi_60, zi_61, zi_63, zi_64, zi_80, zi_96, zi_97, zi_99, zi_100, zi_122, zi_255, zi_256, zi_300, zi_398, zi_406, zi_900, zi_1000, zi_1024, zi_1624, zi_1662, zi_2030, zi_2031, zi_2068, zi_2258, zi_9999, zi_48, zi_57, zi_65536, zi_3257, zi_11483, zi_1000000, zi_729, zi_81, zi_m1, nI_add, pk_mul, nI_ltI, nI_leI, nI_eq, nI_clamp, zn_in, zn_sub1lt, zn_M, zn_Ml, zn_Mg, zn_Mle, zn_Mge, zn_sub, Nat.reduceAdd, Nat.reduceMul, forall_eq, true_imp_iff, false_imp_iff, and_true, true_and, not_true_eq_false, not_false_eq_true, reduceCtorEq, imp_self, eq_self, false_and, and_false, implies_true]
    exact ⟨fun _ => k, fun g => absurd (Nat.le_refl _) g⟩
  · have lk := ok.lk31 hm
    simp (disch := omega) only [wl_M_likersOf_4, h.n3, zi_0, zi_1, zi_2, zi_3, zi_4, zi_5, zi_6, zi_7, zi_8, zi_9, zi_10, zi_11, zi_12, zi_13, zi_14, zi_15, zi_16, zi_17, zi_18, zi_19, zi_20, zi_21, zi_22, zi_23, zi_24, zi_25, zi_26, zi_30, zi_31, zi_32, zi_34, zi_38, zi_59, zi_60, zi_61, zi_63, zi_64, zi_80, zi_96, zi_97, zi_99, zi_100, zi_122, zi_255, zi_256, zi_300, zi_398, zi_406, zi_900, zi_1000, zi_1024, zi_1624, zi_1662, zi_2030, zi_2031, zi_2068, zi_2258, zi_9999, zi_48, zi_57, zi_65536, zi_3257, zi_11483, zi_1000000, zi_729, zi_81, zi_m1, nI_add, pk_mul, nI_ltI, nI_leI, nI_eq, nI_clamp, zn_in, zn_sub1lt, zn_M, zn_Ml, zn_Mg, zn_Mle, zn_Mge, zn_sub, Nat.reduceAdd, Nat.reduceMul, forall_eq, true_imp_iff, false_imp_iff, and_true, true_and, not_true_eq_false, not_false_eq_true, reduceCtorEq, imp_self, eq_self, false_and, and_false, implies_true]
    refine ⟨fun g => absurd g (by omega), fun _ => ?_⟩
    refine sm_hearerOf h (by omega) (by omega) ?_
    rw [show 10 + 4 * m + 1 = 11 + 4 * m by omega]
    simp (disch := omega) only [wp_M_isIn, zn_bit, zn_or0, zi_0, zi_1, zi_2, zi_3, zi_4, zi_5, zi_6, zi_7, zi_8, zi_9, zi_10, zi_11, zi_12, zi_13, zi_14, zi_15, zi_16, zi_17, zi_18, zi_19, zi_20, zi_21, zi_22, zi_23, zi_24, zi_25, zi_26, zi_30, zi_31, zi_32, zi_34, zi_38, zi_59, zi_60, zi_61, zi_63, zi_64, zi_80, zi_96, zi_97, zi_99, zi_100, zi_122, zi_255, zi_256, zi_300, zi_398, zi_406, zi_900, zi_1000, zi_1024, zi_1624, zi_1662, zi_2030, zi_2031, zi_2068, zi_2258, zi_9999, zi_48, zi_57, zi_65536, zi_3257, zi_11483, zi_1000000, zi_729, zi_81, zi_m1, nI_add, pk_mul, nI_ltI, nI_leI, nI_eq, nI_clamp, zn_in, zn_sub1lt, zn_M, zn_Ml, zn_Mg, zn_Mle, zn_Mge, zn_sub, Nat.reduceAdd, Nat.reduceMul, forall_eq, true_imp_iff, false_imp_iff, and_true, true_and, not_true_eq_false, not_false_eq_true, reduceCtorEq, imp_self, eq_self, false_and, and_false, implies_true]
    refine ⟨fun g => ?_, fun g => ?_⟩
    · rw [zn_yes (by simpa using g) (by omega)]; exact ih
    · rw [zs_no (by simpa using g)]; exact ih
theorem su_dogsBy (h : sq_U q c d I L) (ok : sq_Ok q) {x : Nat} (hx : x < 25) {Q : Int32 → Prop} (k : Q (nI (sq_dogsBy q x))) : wp_Square_dogsUpFrom I L R c (nI x) Q := by
  have o := ok.1.2.2.1
  refine zl_up (P := fun f m => wl_Square_dogsUpFrom_4 I L R c (nI x) Q f (nI (zs_bs (fun k => decide (sq_far (q 0) (q (34 + k)) x ≤ 1)) m)) (nI m)) (q 4) (fun f => ?_) (fun f m hm ih => ?_) 0 (by omega)
  · simp (disch := omega) only [wl_Square_dogsUpFrom_4, h.n4, zi_0, zi_1, zi_2, zi_3, zi_4, zi_5, zi_6, zi_7, zi_8, zi_9, zi_10, zi_11, zi_12, zi_13, zi_14, zi_15, zi_16, zi_17, zi_18, zi_19, zi_20, zi_21, zi_22, zi_23, zi_24, zi_25, zi_26, zi_30, zi_31, zi_32, zi_34, zi_38, zi_59, zi_60, zi_61, zi_63, zi_64, zi_80, zi_96, zi_97, zi_99, zi_100, zi_122, zi_255, zi_256, zi_300, zi_398, zi_406, zi_900, zi_1000, zi_1024, zi_1624, zi_1662, zi_2030, zi_2031, zi_2068, zi_2258, zi_9999, zi_48, zi_57, zi_65536, zi_3257, zi_11483, zi_1000000, zi_729, zi_81, zi_m1, nI_add, pk_mul, nI_ltI, nI_leI, nI_eq, nI_clamp, zn_in, zn_sub1lt, zn_M, zn_Ml, zn_Mg, zn_Mle, zn_Mge, zn_sub, Nat.reduceAdd, Nat.reduceMul, forall_eq, true_imp_iff, false_imp_iff, and_true, true_and, not_true_eq_false, not_false_eq_true, reduceCtorEq, imp_self, eq_self, false_and, and_false, implies_true]
    exact ⟨fun _ => k, fun g => absurd (Nat.le_refl _) g⟩
  · simp (disch := omega) only [wl_Square_dogsUpFrom_4, h.n4, wp_Square_isNear, h.dg hm, zi_0, zi_1, zi_2, zi_3, zi_4, zi_5, zi_6, zi_7, zi_8, zi_9, zi_10, zi_11, zi_12, zi_13, zi_14, zi_15, zi_16, zi_17, zi_18, zi_19, zi_20, zi_21, zi_22, zi_23, zi_24, zi_25, zi_26, zi_30, zi_31, zi_32, zi_34, zi_38, zi_59, zi_60, zi_61, zi_63, zi_64, zi_80, zi_96, zi_97, zi_99, zi_100, zi_122, zi_255, zi_256, zi_300, zi_398, zi_406, zi_900, zi_1000, zi_1024, zi_1624, zi_1662, zi_2030, zi_2031, zi_2068, zi_2258, zi_9999, zi_48, zi_57, zi_65536, zi_3257, zi_11483, zi_1000000, zi_729, zi_81, zi_m1, nI_add, pk_mul, nI_ltI, nI_leI, nI_eq, nI_clamp, zn_in, zn_sub1lt, zn_M, zn_Ml, zn_Mg, zn_Mle, zn_Mge, zn_sub, Nat.reduceAdd, Nat.reduceMul, forall_eq, true_imp_iff, false_imp_iff, and_true, true_and, not_true_eq_false, not_false_eq_true, reduceCtorEq, imp_self, eq_self, false_and, and_false, implies_true]
    refine ⟨fun g => absurd g (by omega), fun _ => ⟨by omega, ?_⟩⟩
    have f50 := ok.far50 (ok.dg25 hm) hx
    refine su_far h ok (ok.dg25 hm) hx ?_
    simp (disch := omega) only [zi_0, zi_1, zi_2, zi_3, zi_4, zi_5, zi_6, zi_7, zi_8, zi_9, zi_10, zi_11, zi_12, zi_13, zi_14, zi_15, zi_16, zi_17, zi_18, zi_19, zi_20, zi_21, zi_22, zi_23, zi_24, zi_25, zi_26, zi_30, zi_31, zi_32, zi_34, zi_38, zi_59, zi_60, zi_61, zi_63, zi_64, zi_80, zi_96, zi_97, zi_99, zi_100, zi_122, zi_255, zi_256, zi_300, zi_398, zi_406, zi_900, zi_1000, zi_1024, zi_1624, zi_1662, zi_2030, zi_2031, zi_2068, zi_2258, zi_9999, zi_48, zi_57, zi_65536, zi_3257, zi_11483, zi_1000000, zi_729, zi_81, zi_m1, nI_add, pk_mul, nI_ltI, nI_leI, nI_eq, nI_clamp, zn_in, zn_sub1lt, zn_M, zn_Ml, zn_Mg, zn_Mle, zn_Mge, zn_sub, Nat.reduceAdd, Nat.reduceMul, forall_eq, true_imp_iff, false_imp_iff, and_true, true_and, not_true_eq_false, not_false_eq_true, reduceCtorEq, imp_self, eq_self, false_and, and_false, implies_true]
    refine ⟨fun g => ?_, fun g => ?_⟩
    · rw [zs_no (by simpa using g)]; exact ih
    · rw [zn_yes (by simpa using g) (by omega)]; exact ih
theorem sm_dogsBy (h : sq_M q 0 I L) (ok : sq_Ok q) {x : Nat} (hx : x < 25) {Q : Int32 → Prop} (k : Q (nI (sq_dogsBy q x))) : wp_M_dogsBy I L R 103 (nI x) Q := by
  have o := ok.1.2.2.1
  refine zl_up (P := fun f m => wl_M_dogsBy_4 I L R 103 (nI x) Q f (nI (zs_bs (fun k => decide (sq_far (q 0) (q (34 + k)) x ≤ 1)) m)) (nI m)) (q 4) (fun f => ?_) (fun f m hm ih => ?_) 0 (by omega)
  · simp (disch := omega) only [wl_M_dogsBy_4, h.n4, zi_0, zi_1, zi_2, zi_3, zi_4, zi_5, zi_6, zi_7, zi_8, zi_9, zi_10, zi_11, zi_12, zi_13, zi_14, zi_15, zi_16, zi_17, zi_18, zi_19, zi_20, zi_21, zi_22, zi_23, zi_24, zi_25, zi_26, zi_30, zi_31, zi_32, zi_34, zi_38, zi_59, zi_60, zi_61, zi_63, zi_64, zi_80, zi_96, zi_97, zi_99, zi_100, zi_122, zi_255, zi_256, zi_300, zi_398, zi_406, zi_900, zi_1000, zi_1024, zi_1624, zi_1662, zi_2030, zi_2031, zi_2068, zi_2258, zi_9999, zi_48, zi_57, zi_65536, zi_3257, zi_11483, zi_1000000, zi_729, zi_81, zi_m1, nI_add, pk_mul, nI_ltI, nI_leI, nI_eq, nI_clamp, zn_in, zn_sub1lt, zn_M, zn_Ml, zn_Mg, zn_Mle, zn_Mge, zn_sub, Nat.reduceAdd, Nat.reduceMul, forall_eq, true_imp_iff, false_imp_iff, and_true, true_and, not_true_eq_false, not_false_eq_true, reduceCtorEq, imp_self, eq_self, false_and, and_false, implies_true]
    exact ⟨fun _ => k, fun g => absurd (Nat.le_refl _) g⟩
  · simp (disch := omega) only [wl_M_dogsBy_4, h.n4, h.nk (k := 34 + m) (by omega) (by omega), zi_0, zi_1, zi_2, zi_3, zi_4, zi_5, zi_6, zi_7, zi_8, zi_9, zi_10, zi_11, zi_12, zi_13, zi_14, zi_15, zi_16, zi_17, zi_18, zi_19, zi_20, zi_21, zi_22, zi_23, zi_24, zi_25, zi_26, zi_30, zi_31, zi_32, zi_34, zi_38, zi_59, zi_60, zi_61, zi_63, zi_64, zi_80, zi_96, zi_97, zi_99, zi_100, zi_122, zi_255, zi_256, zi_300, zi_398, zi_406, zi_900, zi_1000, zi_1024, zi_1624, zi_1662, zi_2030, zi_2031, zi_2068, zi_2258, zi_9999, zi_48, zi_57, zi_65536, zi_3257, zi_11483, zi_1000000, zi_729, zi_81, zi_m1, nI_add, pk_mul, nI_ltI, nI_leI, nI_eq, nI_clamp, zn_in, zn_sub1lt, zn_M, zn_Ml, zn_Mg, zn_Mle, zn_Mge, zn_sub, Nat.reduceAdd, Nat.reduceMul, forall_eq, true_imp_iff, false_imp_iff, and_true, true_and, not_true_eq_false, not_false_eq_true, reduceCtorEq, imp_self, eq_self, false_and, and_false, implies_true]
    refine ⟨fun g => absurd g (by omega), fun _ => ⟨by omega, ?_⟩⟩
    have f50 := ok.far50 (ok.dg25 hm) hx
    refine sm_far h ok (ok.dg25 hm) hx ?_
    simp (disch := omega) only [zn_or0, zi_0, zi_1, zi_2, zi_3, zi_4, zi_5, zi_6, zi_7, zi_8, zi_9, zi_10, zi_11, zi_12, zi_13, zi_14, zi_15, zi_16, zi_17, zi_18, zi_19, zi_20, zi_21, zi_22, zi_23, zi_24, zi_25, zi_26, zi_30, zi_31, zi_32, zi_34, zi_38, zi_59, zi_60, zi_61, zi_63, zi_64, zi_80, zi_96, zi_97, zi_99, zi_100, zi_122, zi_255, zi_256, zi_300, zi_398, zi_406, zi_900, zi_1000, zi_1024, zi_1624, zi_1662, zi_2030, zi_2031, zi_2068, zi_2258, zi_9999, zi_48, zi_57, zi_65536, zi_3257, zi_11483, zi_1000000, zi_729, zi_81, zi_m1, nI_add, pk_mul, nI_ltI, nI_leI, nI_eq, nI_clamp, zn_in, zn_sub1lt, zn_M, zn_Ml, zn_Mg, zn_Mle, zn_Mge, zn_sub, Nat.reduceAdd, Nat.reduceMul, forall_eq, true_imp_iff, false_imp_iff, and_true, true_and, not_true_eq_false, not_false_eq_true, reduceCtorEq, imp_self, eq_self, false_and, and_false, implies_true]
    refine ⟨fun g => ?_, fun g => ?_⟩
    · rw [zs_no (by simp; omega)]; exact ih
    · rw [zn_yes (by simp; omega) (by omega)]; exact ih
theorem sq_near_lt (ok : sq_Ok q) (x r : Nat) : sq_near q x r < 64 := by
  have := zs_lt (fun h => decide (sq_far (q 0) (q (10 + 4 * h)) x ≤ r)) (q 3)
  have h2 : (2 : Nat) ^ q 3 ≤ 2 ^ 6 := Nat.pow_le_pow_right (by decide) ok.1.2.2.1.2.1
  unfold sq_near; omega
theorem sq_likers_lt (ok : sq_Ok q) (t : Nat) : sq_likers q t < 64 := by
  have := zs_lt (fun h => (q (11 + 4 * h)).testBit t) (q 3)
  have h2 : (2 : Nat) ^ q 3 ≤ 2 ^ 6 := Nat.pow_le_pow_right (by decide) ok.1.2.2.1.2.1
  unfold sq_likers; omega
theorem sq_seen_lt (ok : sq_Ok q) : sq_seen q < 64 := by
  have := zs_lt (fun h => q (13 + 4 * h) == 1) (q 3)
  have h2 : (2 : Nat) ^ q 3 ≤ 2 ^ 6 := Nat.pow_le_pow_right (by decide) ok.1.2.2.1.2.1
  unfold sq_seen; omega
theorem sq_dogsBy_lt (ok : sq_Ok q) (x : Nat) : sq_dogsBy q x < 16 := by
  have := zs_lt (fun k => decide (sq_far (q 0) (q (34 + k)) x ≤ 1)) (q 4)
  have h2 : (2 : Nat) ^ q 4 ≤ 2 ^ 4 := Nat.pow_le_pow_right (by decide) ok.1.2.2.1.2.2.1
  unfold sq_dogsBy; omega
theorem sq_dogsUp_lt (ok : sq_Ok q) : sq_dogsUp q < 16 := by
  have := zs_lt (sq_isUp q) (q 4)
  have h2 : (2 : Nat) ^ q 4 ≤ 2 ^ 4 := Nat.pow_le_pow_right (by decide) ok.1.2.2.1.2.2.1
  unfold sq_dogsUp; omega
theorem su_isUp (h : sq_U q c d I L) (ok : sq_Ok q) {m : Nat} (hm : m < q 4) {Q : Bool → Prop} (k : Q (sq_isUp q m)) : wp_Square_isUp I L R c (nI m) Q := by
  have o := ok.1.2.2.1
  simp (disch := omega) only [wp_Square_isUp, h.dg hm, zi_0, zi_1, zi_2, zi_3, zi_4, zi_5, zi_6, zi_7, zi_8, zi_9, zi_10, zi_11, zi_12, zi_13, zi_14, zi_15, zi_16, zi_17, zi_18, zi_19, zi_20, zi_21, zi_22, zi_23, zi_24, zi_25, zi_26, zi_30, zi_31, zi_32, zi_34, zi_38, zi_59, zi_60, zi_61, zi_63, zi_64, zi_80, zi_96, zi_97, zi_99, zi_100, zi_122, zi_255, zi_256, zi_300, zi_398, zi_406, zi_900, zi_1000, zi_1024, zi_1624, zi_1662, zi_2030, zi_2031, zi_2068, zi_2258, zi_9999, zi_48, zi_57, zi_65536, zi_3257, zi_11483, zi_1000000, zi_729, zi_81, zi_m1, nI_add, pk_mul, nI_ltI, nI_leI, nI_eq, nI_clamp, zn_in, zn_sub1lt, zn_M, zn_Ml, zn_Mg, zn_Mle, zn_Mge, zn_sub, Nat.reduceAdd, Nat.reduceMul, forall_eq, true_imp_iff, false_imp_iff, and_true, true_and, not_true_eq_false, not_false_eq_true, reduceCtorEq, imp_self, eq_self, false_and, and_false, implies_true]
  refine ⟨by omega, su_near h ok (ok.dg25 hm) (by omega) ?_⟩
  have := sq_near_lt ok (q (34 + m)) 1
  simp (disch := omega) only [zi_0, zi_1, zi_2, zi_3, zi_4, zi_5, zi_6, zi_7, zi_8, zi_9, zi_10, zi_11, zi_12, zi_13, zi_14, zi_15, zi_16, zi_17, zi_18, zi_19, zi_20, zi_21, zi_22, zi_23, zi_24, zi_25, zi_26, zi_30, zi_31, zi_32, zi_34, zi_38, zi_59, zi_60, zi_61, zi_63, zi_64, zi_80, zi_96, zi_97, zi_99, zi_100, zi_122, zi_255, zi_256, zi_300, zi_398, zi_406, zi_900, zi_1000, zi_1024, zi_1624, zi_1662, zi_2030, zi_2031, zi_2068, zi_2258, zi_9999, zi_48, zi_57, zi_65536, zi_3257, zi_11483, zi_1000000, zi_729, zi_81, zi_m1, nI_add, pk_mul, nI_ltI, nI_leI, nI_eq, nI_clamp, zn_in, zn_sub1lt, zn_M, zn_Ml, zn_Mg, zn_Mle, zn_Mge, zn_sub, Nat.reduceAdd, Nat.reduceMul, forall_eq, true_imp_iff, false_imp_iff, and_true, true_and, not_true_eq_false, not_false_eq_true, reduceCtorEq, imp_self, eq_self, false_and, and_false, implies_true]
  unfold sq_isUp at k
  refine ⟨fun g => ?_, fun g => ?_⟩
  · simpa [g] using k
  · simpa [g] using k
theorem su_dogsUp (h : sq_U q c d I L) (ok : sq_Ok q) {Q : Int32 → Prop} (k : Q (nI (sq_dogsUp q))) : wp_Square_dogsUp I L R c Q := by
  have o := ok.1.2.2.1
  refine zl_up (P := fun f m => wl_Square_dogsUp_4 I L R c Q f (nI (zs_bs (sq_isUp q) m)) (nI m)) (q 4) (fun f => ?_) (fun f m hm ih => ?_) 0 (by omega)
  · simp (disch := omega) only [wl_Square_dogsUp_4, h.n4, zi_0, zi_1, zi_2, zi_3, zi_4, zi_5, zi_6, zi_7, zi_8, zi_9, zi_10, zi_11, zi_12, zi_13, zi_14, zi_15, zi_16, zi_17, zi_18, zi_19, zi_20, zi_21, zi_22, zi_23, zi_24, zi_25, zi_26, zi_30, zi_31, zi_32, zi_34, zi_38, zi_59, zi_60, zi_61, zi_63, zi_64, zi_80, zi_96, zi_97, zi_99, zi_100, zi_122, zi_255, zi_256, zi_300, zi_398, zi_406, zi_900, zi_1000, zi_1024, zi_1624, zi_1662, zi_2030, zi_2031, zi_2068, zi_2258, zi_9999, zi_48, zi_57, zi_65536, zi_3257, zi_11483, zi_1000000, zi_729, zi_81, zi_m1, nI_add, pk_mul, nI_ltI, nI_leI, nI_eq, nI_clamp, zn_in, zn_sub1lt, zn_M, zn_Ml, zn_Mg, zn_Mle, zn_Mge, zn_sub, Nat.reduceAdd, Nat.reduceMul, forall_eq, true_imp_iff, false_imp_iff, and_true, true_and, not_true_eq_false, not_false_eq_true, reduceCtorEq, imp_self, eq_self, false_and, and_false, implies_true]
    exact ⟨fun _ => k, fun g => absurd (Nat.le_refl _) g⟩
  · simp (disch := omega) only [wl_Square_dogsUp_4, h.n4, zi_0, zi_1, zi_2, zi_3, zi_4, zi_5, zi_6, zi_7, zi_8, zi_9, zi_10, zi_11, zi_12, zi_13, zi_14, zi_15, zi_16, zi_17, zi_18, zi_19, zi_20, zi_21, zi_22, zi_23, zi_24, zi_25, zi_26, zi_30, zi_31, zi_32, zi_34, zi_38, zi_59, zi_60, zi_61, zi_63, zi_64, zi_80, zi_96, zi_97, zi_99, zi_100, zi_122, zi_255, zi_256, zi_300, zi_398, zi_406, zi_900, zi_1000, zi_1024, zi_1624, zi_1662, zi_2030, zi_2031, zi_2068, zi_2258, zi_9999, zi_48, zi_57, zi_65536, zi_3257, zi_11483, zi_1000000, zi_729, zi_81, zi_m1, nI_add, pk_mul, nI_ltI, nI_leI, nI_eq, nI_clamp, zn_in, zn_sub1lt, zn_M, zn_Ml, zn_Mg, zn_Mle, zn_Mge, zn_sub, Nat.reduceAdd, Nat.reduceMul, forall_eq, true_imp_iff, false_imp_iff, and_true, true_and, not_true_eq_false, not_false_eq_true, reduceCtorEq, imp_self, eq_self, false_and, and_false, implies_true]
    refine ⟨fun g => absurd g (by omega), fun _ => su_isUp h ok hm ?_⟩
    refine ⟨fun g => ?_, fun g => ?_⟩
    · rw [zs_no g]; exact ih
    · rw [zn_yes g (by omega)]; exact ih
/-- the sets of dogs that some of the hearers wake, one by one -/
def sq_upTo (q : Nat → Nat) : Nat → Nat
  | 0 => 0
  | m + 1 => sq_upTo q m ||| sq_dogsBy q (q (10 + 4 * m))
theorem sq_upTo_bit (q : Nat → Nat) (i : Nat) : ∀ m, (sq_upTo q m).testBit i = (decide (i < q 4) && decide (∃ h, h < m ∧ sq_far (q 0) (q (10 + 4 * h)) (q (34 + i)) ≤ 1))
  | 0 => by simp [sq_upTo]
  | m + 1 => by
    rw [sq_upTo, Nat.testBit_or, sq_upTo_bit q i m, sq_dogsBy, zs_bit]
    by_cases hi : i < q 4
    · simp only [hi, decide_true, Bool.true_and]
      rw [sq_far_comm (q 0) (q (34 + i)), Bool.eq_iff_iff]
      simp only [Bool.or_eq_true, decide_eq_true_eq]
      constructor
      · rintro (⟨h, h1, h2⟩ | g)
        · exact ⟨h, by omega, h2⟩
        · exact ⟨m, by omega, g⟩
      · rintro ⟨h, h1, h2⟩
        rcases Nat.lt_or_ge h m with g | g
        · exact Or.inl ⟨h, g, h2⟩
        · rw [show h = m by omega] at h2; exact Or.inr h2
    · simp [hi]
theorem sq_upTo_eq (q : Nat → Nat) : sq_upTo q (q 3) = sq_dogsUp q := by
  apply Nat.eq_of_testBit_eq
  intro i
  rw [sq_upTo_bit, sq_dogsUp, zs_bit, sq_isUp]
  congr 1
  rw [decide_eq_decide, sq_near, Ne, zs_eq0]
  constructor
  · rintro ⟨h, h1, h2⟩ g
    have := g h h1
    simp at this; omega
  · intro g
    apply Classical.byContradiction
    intro e
    apply g
    intro h hh
    simp only [decide_eq_false_iff_not]
    exact fun k => e ⟨h, hh, k⟩
theorem sm_dogsUp (h : sq_M q 0 I L) (ok : sq_Ok q) {Q : Int32 → Prop} (k : Q (nI (sq_dogsUp q))) : wp_M_dogsUp I L R 103 Q := by
  have o := ok.1.2.2.1
  rw [← sq_upTo_eq] at k
  refine zl_up (P := fun f m => wl_M_dogsUp_4 I L R 103 Q f (nI (sq_upTo q m)) (nI m)) (q 3) (fun f => ?_) (fun f m hm ih => ?_) 0 (by omega)
  · simp (disch := omega) only [wl_M_dogsUp_4, h.n3, zi_0, zi_1, zi_2, zi_3, zi_4, zi_5, zi_6, zi_7, zi_8, zi_9, zi_10, zi_11, zi_12, zi_13, zi_14, zi_15, zi_16, zi_17, zi_18, zi_19, zi_20, zi_21, zi_22, zi_23, zi_24, zi_25, zi_26, zi_30, zi_31, zi_32, zi_34, zi_38, zi_59, zi_60, zi_61, zi_63, zi_64, zi_80, zi_96, zi_97, zi_99, zi_100, zi_122, zi_255, zi_256, zi_300, zi_398, zi_406, zi_900, zi_1000, zi_1024, zi_1624, zi_1662, zi_2030, zi_2031, zi_2068, zi_2258, zi_9999, zi_48, zi_57, zi_65536, zi_3257, zi_11483, zi_1000000, zi_729, zi_81, zi_m1, nI_add, pk_mul, nI_ltI, nI_leI, nI_eq, nI_clamp, zn_in, zn_sub1lt, zn_M, zn_Ml, zn_Mg, zn_Mle, zn_Mge, zn_sub, Nat.reduceAdd, Nat.reduceMul, forall_eq, true_imp_iff, false_imp_iff, and_true, true_and, not_true_eq_false, not_false_eq_true, reduceCtorEq, imp_self, eq_self, false_and, and_false, implies_true]
    exact ⟨fun _ => k, fun g => absurd (Nat.le_refl _) g⟩
  · simp (disch := omega) only [wl_M_dogsUp_4, h.n3, zi_0, zi_1, zi_2, zi_3, zi_4, zi_5, zi_6, zi_7, zi_8, zi_9, zi_10, zi_11, zi_12, zi_13, zi_14, zi_15, zi_16, zi_17, zi_18, zi_19, zi_20, zi_21, zi_22, zi_23, zi_24, zi_25, zi_26, zi_30, zi_31, zi_32, zi_34, zi_38, zi_59, zi_60, zi_61, zi_63, zi_64, zi_80, zi_96, zi_97, zi_99, zi_100, zi_122, zi_255, zi_256, zi_300, zi_398, zi_406, zi_900, zi_1000, zi_1024, zi_1624, zi_1662, zi_2030, zi_2031, zi_2068, zi_2258, zi_9999, zi_48, zi_57, zi_65536, zi_3257, zi_11483, zi_1000000, zi_729, zi_81, zi_m1, nI_add, pk_mul, nI_ltI, nI_leI, nI_eq, nI_clamp, zn_in, zn_sub1lt, zn_M, zn_Ml, zn_Mg, zn_Mle, zn_Mge, zn_sub, Nat.reduceAdd, Nat.reduceMul, forall_eq, true_imp_iff, false_imp_iff, and_true, true_and, not_true_eq_false, not_false_eq_true, reduceCtorEq, imp_self, eq_self, false_and, and_false, implies_true]
    refine ⟨fun g => absurd g (by omega), fun _ => ?_⟩
    refine sm_hearerOf h (by omega) (by omega) ?_
    rw [Nat.add_zero]
    refine sm_dogsBy h ok (ok.at25 hm) ?_
    rw [ze_or]
    exact ih
theorem ze_shlb : ∀ b, b < 2 → ∀ m, m < 30 → nI b <<< (nI m &&& nI 31) = nI (if (b == 1) = true then 2 ^ m else 0) := by decide +kernel
theorem sm_seen (h : sq_M q 0 I L) (ok : sq_Ok q) {Q : Int32 → Prop} (k : Q (nI (sq_seen q))) : wp_M_areSeen I L R 103 Q := by
  have o := ok.1.2.2.1
  refine zl_up (P := fun f m => wl_M_areSeen_4 I L R 103 Q f (nI (zs_bs (fun h => q (13 + 4 * h) == 1) m)) (nI m)) (q 3) (fun f => ?_) (fun f m hm ih => ?_) 0 (by omega)
  · simp (disch := omega) only [wl_M_areSeen_4, h.n3, zi_0, zi_1, zi_2, zi_3, zi_4, zi_5, zi_6, zi_7, zi_8, zi_9, zi_10, zi_11, zi_12, zi_13, zi_14, zi_15, zi_16, zi_17, zi_18, zi_19, zi_20, zi_21, zi_22, zi_23, zi_24, zi_25, zi_26, zi_30, zi_31, zi_32, zi_34, zi_38, zi_59, zi_60, zi_61, zi_63, zi_64, zi_80, zi_96, zi_97, zi_99, zi_100, zi_122, zi_255, zi_256, zi_300, zi_398, zi_406, zi_900, zi_1000, zi_1024, zi_1624, zi_1662, zi_2030, zi_2031, zi_2068, zi_2258, zi_9999, zi_48, zi_57, zi_65536, zi_3257, zi_11483, zi_1000000, zi_729, zi_81, zi_m1, nI_add, pk_mul, nI_ltI, nI_leI, nI_eq, nI_clamp, zn_in, zn_sub1lt, zn_M, zn_Ml, zn_Mg, zn_Mle, zn_Mge, zn_sub, Nat.reduceAdd, Nat.reduceMul, forall_eq, true_imp_iff, false_imp_iff, and_true, true_and, not_true_eq_false, not_false_eq_true, reduceCtorEq, imp_self, eq_self, false_and, and_false, implies_true]
    exact ⟨fun _ => k, fun g => absurd (Nat.le_refl _) g⟩
  · simp (disch := omega) only [wl_M_areSeen_4, h.n3, zi_0, zi_1, zi_2, zi_3, zi_4, zi_5, zi_6, zi_7, zi_8, zi_9, zi_10, zi_11, zi_12, zi_13, zi_14, zi_15, zi_16, zi_17, zi_18, zi_19, zi_20, zi_21, zi_22, zi_23, zi_24, zi_25, zi_26, zi_30, zi_31, zi_32, zi_34, zi_38, zi_59, zi_60, zi_61, zi_63, zi_64, zi_80, zi_96, zi_97, zi_99, zi_100, zi_122, zi_255, zi_256, zi_300, zi_398, zi_406, zi_900, zi_1000, zi_1024, zi_1624, zi_1662, zi_2030, zi_2031, zi_2068, zi_2258, zi_9999, zi_48, zi_57, zi_65536, zi_3257, zi_11483, zi_1000000, zi_729, zi_81, zi_m1, nI_add, pk_mul, nI_ltI, nI_leI, nI_eq, nI_clamp, zn_in, zn_sub1lt, zn_M, zn_Ml, zn_Mg, zn_Mle, zn_Mge, zn_sub, Nat.reduceAdd, Nat.reduceMul, forall_eq, true_imp_iff, false_imp_iff, and_true, true_and, not_true_eq_false, not_false_eq_true, reduceCtorEq, imp_self, eq_self, false_and, and_false, implies_true]
    refine ⟨fun g => absurd g (by omega), fun _ => ?_⟩
    refine sm_hearerOf h (by omega) (by omega) ?_
    rw [show 10 + 4 * m + 3 = 13 + 4 * m by omega, ze_shlb _ (by have := (ok.2.1 m hm).2.2.2; omega) m (by omega), ze_or, ← zs_or (fun h => q (13 + 4 * h) == 1)]
    exact ih
theorem su_farO (h : sq_U q c d I L) (ok : sq_Ok q) {m : Nat} (hm : m < q 3) {Q : Int32 → Prop} (k : Q (nI (sq_far (q 0) (q (10 + 4 * m)) (q 6)))) : wp_Square_farFromOrgan I L R c (nI m) Q := by
  have o := ok.1.2.2.1
  simp (disch := omega) only [wp_Square_farFromOrgan, h.at hm, h.n6, zi_0, zi_1, zi_2, zi_3, zi_4, zi_5, zi_6, zi_7, zi_8, zi_9, zi_10, zi_11, zi_12, zi_13, zi_14, zi_15, zi_16, zi_17, zi_18, zi_19, zi_20, zi_21, zi_22, zi_23, zi_24, zi_25, zi_26, zi_30, zi_31, zi_32, zi_34, zi_38, zi_59, zi_60, zi_61, zi_63, zi_64, zi_80, zi_96, zi_97, zi_99, zi_100, zi_122, zi_255, zi_256, zi_300, zi_398, zi_406, zi_900, zi_1000, zi_1024, zi_1624, zi_1662, zi_2030, zi_2031, zi_2068, zi_2258, zi_9999, zi_48, zi_57, zi_65536, zi_3257, zi_11483, zi_1000000, zi_729, zi_81, zi_m1, nI_add, pk_mul, nI_ltI, nI_leI, nI_eq, nI_clamp, zn_in, zn_sub1lt, zn_M, zn_Ml, zn_Mg, zn_Mle, zn_Mge, zn_sub, Nat.reduceAdd, Nat.reduceMul, forall_eq, true_imp_iff, false_imp_iff, and_true, true_and, not_true_eq_false, not_false_eq_true, reduceCtorEq, imp_self, eq_self, false_and, and_false, implies_true]
  exact ⟨by omega, su_far h ok (ok.at25 hm) ok.or25 k⟩
theorem sm_farO (h : sq_M q 0 I L) (ok : sq_Ok q) {m : Nat} (hm : m < q 3) {Q : Int32 → Prop} (k : Q (nI (sq_far (q 0) (q (10 + 4 * m)) (q 6)))) : wp_M_farOf I L R 103 (nI m) Q := by
  have o := ok.1.2.2.1
  simp (disch := omega) only [wp_M_farOf, h.n6, zi_0, zi_1, zi_2, zi_3, zi_4, zi_5, zi_6, zi_7, zi_8, zi_9, zi_10, zi_11, zi_12, zi_13, zi_14, zi_15, zi_16, zi_17, zi_18, zi_19, zi_20, zi_21, zi_22, zi_23, zi_24, zi_25, zi_26, zi_30, zi_31, zi_32, zi_34, zi_38, zi_59, zi_60, zi_61, zi_63, zi_64, zi_80, zi_96, zi_97, zi_99, zi_100, zi_122, zi_255, zi_256, zi_300, zi_398, zi_406, zi_900, zi_1000, zi_1024, zi_1624, zi_1662, zi_2030, zi_2031, zi_2068, zi_2258, zi_9999, zi_48, zi_57, zi_65536, zi_3257, zi_11483, zi_1000000, zi_729, zi_81, zi_m1, nI_add, pk_mul, nI_ltI, nI_leI, nI_eq, nI_clamp, zn_in, zn_sub1lt, zn_M, zn_Ml, zn_Mg, zn_Mle, zn_Mge, zn_sub, Nat.reduceAdd, Nat.reduceMul, forall_eq, true_imp_iff, false_imp_iff, and_true, true_and, not_true_eq_false, not_false_eq_true, reduceCtorEq, imp_self, eq_self, false_and, and_false, implies_true]
  refine sm_hearerOf h (by omega) (by omega) ?_
  exact sm_far h ok (ok.at25 hm) ok.or25 k
theorem sm_cells (h : sq_M q 0 I L) {Q : Int32 → Prop} (k : Q (nI (q 0 * q 1))) : wp_M_cellsOf I L R 103 (nI 0) Q := by
  simp (disch := omega) only [wp_M_cellsOf, h.n0, h.n1, zi_0, zi_1, zi_2, zi_3, zi_4, zi_5, zi_6, zi_7, zi_8, zi_9, zi_10, zi_11, zi_12, zi_13, zi_14, zi_15, zi_16, zi_17, zi_18, zi_19, zi_20, zi_21, zi_22, zi_23, zi_24, zi_25, zi_26, zi_30, zi_31, zi_32, zi_34, zi_38, zi_59, zi_60, zi_61, zi_63, zi_64, zi_80, zi_96, zi_97, zi_99, zi_100, zi_122, zi_255, zi_256, zi_300, zi_398, zi_406, zi_900, zi_1000, zi_1024, zi_1624, zi_1662, zi_2030, zi_2031, zi_2068, zi_2258, zi_9999, zi_48, zi_57, zi_65536, zi_3257, zi_11483, zi_1000000, zi_729, zi_81, zi_m1, nI_add, pk_mul, nI_ltI, nI_leI, nI_eq, nI_clamp, zn_in, zn_sub1lt, zn_M, zn_Ml, zn_Mg, zn_Mle, zn_Mge, zn_sub, Nat.reduceAdd, Nat.reduceMul, forall_eq, true_imp_iff, false_imp_iff, and_true, true_and, not_true_eq_false, not_false_eq_true, reduceCtorEq, imp_self, eq_self, false_and, and_false, implies_true]
  exact ⟨by omega, by omega, k⟩
/-- is a parameter below a number: both sides' ways to ask -/
theorem zq_within {p : Int32} {n : Nat} (hn : n < 2 ^ 31) {Q : Bool → Prop} (h0 : (p < nI 0 ∨ ∃ j, p = nI j ∧ n ≤ j ∧ j < 2 ^ 31) → Q false) (h1 : ∀ j, j < n → p = nI j → Q true) : wp_U_within I L R p (nI 0) (nI n - nI 1) Q := by
  rcases zc p with hp | ⟨j, hj, rfl⟩
  · simp only [wp_U_within, hp, forall_eq, true_imp_iff, false_imp_iff, and_true, true_and, not_true_eq_false, not_false_eq_true, reduceCtorEq, imp_self, eq_self, false_and, and_false, implies_true]
    exact h0 (Or.inl hp)
  · simp (disch := omega) only [wp_U_within, zi_0, zi_1, zi_2, zi_3, zi_4, zi_5, zi_6, zi_7, zi_8, zi_9, zi_10, zi_11, zi_12, zi_13, zi_14, zi_15, zi_16, zi_17, zi_18, zi_19, zi_20, zi_21, zi_22, zi_23, zi_24, zi_25, zi_26, zi_30, zi_31, zi_32, zi_34, zi_38, zi_59, zi_60, zi_61, zi_63, zi_64, zi_80, zi_96, zi_97, zi_99, zi_100, zi_122, zi_255, zi_256, zi_300, zi_398, zi_406, zi_900, zi_1000, zi_1024, zi_1624, zi_1662, zi_2030, zi_2031, zi_2068, zi_2258, zi_9999, zi_48, zi_57, zi_65536, zi_3257, zi_11483, zi_1000000, zi_729, zi_81, zi_m1, nI_add, pk_mul, nI_ltI, nI_leI, nI_eq, nI_clamp, zn_in, zn_sub1lt, zn_M, zn_Ml, zn_Mg, zn_Mle, zn_Mge, zn_sub, Nat.reduceAdd, Nat.reduceMul, forall_eq, true_imp_iff, false_imp_iff, and_true, true_and, not_true_eq_false, not_false_eq_true, reduceCtorEq, imp_self, eq_self, false_and, and_false, implies_true]
    refine ⟨fun g => absurd g (by omega), fun _ => ⟨fun g => h0 (Or.inr ⟨j, rfl, g, hj⟩), fun g => h1 j (by omega) rfl⟩⟩
end
