/-! pour, copyCells, fits, sure; the tape -/
section
variable {q : Nat → Nat} {c d : Nat} {I I1 I2 : am_TI} {L L1 L2 : am_TL} {R : am_TR} {tm ts : Nat → Nat} {tv : Nat → Nat → Int64}
/-- numbers of one tray come to another -/
def tv_cpy (tv : Nat → Nat → Int64) (f p t a n : Nat) : Nat → Nat → Int64 := fun x i => if x = t ∧ a ≤ i ∧ i < a + n then tv f (p + (i - a)) else tv x i
theorem zn_sublt {a b e : Nat} (ha : a < 2 ^ 30) (hb : b < 2 ^ 31) (he : e < 2 ^ 31) : nI a - nI b < nI e ↔ a < e + b := by
  have e1 : (nI a - nI b).toInt = (a : Int) - b := by
    rw [Int32.toInt_sub, nI_toInt (by omega), nI_toInt hb, Int.bmod_eq_of_le (by omega) (by omega)]
  rw [ze_lt, e1, nI_toInt he]; omega
theorem zn_lesub {a b e : Nat} (ha : a < 2 ^ 30) (hb : b < 2 ^ 31) (he : e < 2 ^ 31) : nI e ≤ nI a - nI b ↔ e + b ≤ a := by
  have e1 : (nI a - nI b).toInt = (a : Int) - b := by
    rw [Int32.toInt_sub, nI_toInt (by omega), nI_toInt hb, Int.bmod_eq_of_le (by omega) (by omega)]
  rw [ze_le, e1, nI_toInt he]; omega
theorem op_pour (ok : tr_Ok tm ts) (p1 p2 p3 p4 p5 : Int32) : si_Y q tm ts tv (fun I L R Q => wp_U_pour I L R 0 p1 p2 p3 p4 p5 Q) (fun I L R Q => wp_M_pour I L R 103 p1 p2 p3 p4 p5 Q) := by
  rcases zc p1 with hp | ⟨f, hf, rfl⟩
  · refine ⟨false, 1, tm, ts, tv, ok, ?_, ?_⟩
    · intro c d I L R hcd h hc hz y Q K
      simp (disch := omega) only [wp_U_pour, wb_U_pour_28, wb_U_pour_66, wb_U_pour_117, wp_Tray_isMissing, wp_U_isTray, wp_U_within, wp_U_settled, zn_sublt, zn_lesub, hp, zc_t hp, zc_l hp, zc_m hp, zc_k hp, zi_0, zi_1, zi_2, zi_3, zi_4, zi_5, zi_6, zi_7, zi_8, zi_9, zi_10, zi_11, zi_12, zi_13, zi_14, zi_15, zi_16, zi_17, zi_18, zi_19, zi_20, zi_21, zi_22, zi_23, zi_24, zi_25, zi_26, zi_30, zi_31, zi_32, zi_34, zi_38, zi_59, zi_60, zi_61, zi_63, zi_64, zi_80, zi_96, zi_97, zi_99, zi_100, zi_122, zi_255, zi_256, zi_300, zi_398, zi_406, zi_900, zi_1000, zi_1024, zi_1624, zi_1662, zi_2030, zi_2031, zi_2068, zi_2258, zi_9999, zi_48, zi_57, zi_65536, zi_3257, zi_11483, zi_1000000, zi_729, zi_81, zi_m1, nI_add, pk_mul, nI_ltI, nI_leI, nI_eq, nI_clamp, zn_in, zn_sub1lt, zn_M, zn_Ml, zn_Mg, zn_Mle, zn_Mge, zn_sub, Nat.reduceAdd, Nat.reduceMul, forall_eq, true_imp_iff, false_imp_iff, and_true, true_and, not_true_eq_false, not_false_eq_true, reduceCtorEq, imp_self, eq_self, false_and, and_false, implies_true]
      repeat' (first | omega | with_reducible refine And.intro ?_ ?_ | with_reducible intro g)
      all_goals exact K _ _ (y.st _) (am_u2_at _ _ _ _) (fy_U.st _) fy_UL.rfl
    · intro I L R h y Q K
      simp (disch := omega) only [wp_M_pour, wb_M_pour_28, wb_M_pour_54, wb_M_pour_109, wp_M_isTray, wp_M_is, zn_sublt, zn_lesub, hp, zc_e hp, zf_n hp, zc_t hp, zc_l hp, zc_m hp, zc_k hp, zi_0, zi_1, zi_2, zi_3, zi_4, zi_5, zi_6, zi_7, zi_8, zi_9, zi_10, zi_11, zi_12, zi_13, zi_14, zi_15, zi_16, zi_17, zi_18, zi_19, zi_20, zi_21, zi_22, zi_23, zi_24, zi_25, zi_26, zi_30, zi_31, zi_32, zi_34, zi_38, zi_59, zi_60, zi_61, zi_63, zi_64, zi_80, zi_96, zi_97, zi_99, zi_100, zi_122, zi_255, zi_256, zi_300, zi_398, zi_406, zi_900, zi_1000, zi_1024, zi_1624, zi_1662, zi_2030, zi_2031, zi_2068, zi_2258, zi_9999, zi_48, zi_57, zi_65536, zi_3257, zi_11483, zi_1000000, zi_729, zi_81, zi_m1, nI_add, pk_mul, nI_ltI, nI_leI, nI_eq, nI_clamp, zn_in, zn_sub1lt, zn_M, zn_Ml, zn_Mg, zn_Mle, zn_Mge, zn_sub, Nat.reduceAdd, Nat.reduceMul, forall_eq, true_imp_iff, false_imp_iff, and_true, true_and, not_true_eq_false, not_false_eq_true, reduceCtorEq, imp_self, eq_self, false_and, and_false, implies_true]
      repeat' (first | omega | with_reducible refine And.intro ?_ ?_ | with_reducible intro g)
      all_goals exact K _ _ (y.st _) (am_u2_at _ _ _ _) (fy_M.st _) fy_ML.rfl
  by_cases g : 3 < f
  · refine ⟨false, 1, tm, ts, tv, ok, ?_, ?_⟩
    · intro c d I L R hcd h hc hz y Q K
      simp (disch := omega) only [wp_U_pour, wb_U_pour_28, wb_U_pour_66, wb_U_pour_117, wp_Tray_isMissing, wp_U_isTray, wp_U_within, wp_U_settled, zn_sublt, zn_lesub, zi_0, zi_1, zi_2, zi_3, zi_4, zi_5, zi_6, zi_7, zi_8, zi_9, zi_10, zi_11, zi_12, zi_13, zi_14, zi_15, zi_16, zi_17, zi_18, zi_19, zi_20, zi_21, zi_22, zi_23, zi_24, zi_25, zi_26, zi_30, zi_31, zi_32, zi_34, zi_38, zi_59, zi_60, zi_61, zi_63, zi_64, zi_80, zi_96, zi_97, zi_99, zi_100, zi_122, zi_255, zi_256, zi_300, zi_398, zi_406, zi_900, zi_1000, zi_1024, zi_1624, zi_1662, zi_2030, zi_2031, zi_2068, zi_2258, zi_9999, zi_48, zi_57, zi_65536, zi_3257, zi_11483, zi_1000000, zi_729, zi_81, zi_m1, nI_add, pk_mul, nI_ltI, nI_leI, nI_eq, nI_clamp, zn_in, zn_sub1lt, zn_M, zn_Ml, zn_Mg, zn_Mle, zn_Mge, zn_sub, Nat.reduceAdd, Nat.reduceMul, forall_eq, true_imp_iff, false_imp_iff, and_true, true_and, not_true_eq_false, not_false_eq_true, reduceCtorEq, imp_self, eq_self, false_and, and_false, implies_true]
      repeat' (first | omega | with_reducible refine And.intro ?_ ?_ | with_reducible intro g)
      all_goals exact K _ _ (y.st _) (am_u2_at _ _ _ _) (fy_U.st _) fy_UL.rfl
    · intro I L R h y Q K
      simp (disch := omega) only [wp_M_pour, wb_M_pour_28, wb_M_pour_54, wb_M_pour_109, wp_M_isTray, wp_M_is, zn_sublt, zn_lesub, zi_0, zi_1, zi_2, zi_3, zi_4, zi_5, zi_6, zi_7, zi_8, zi_9, zi_10, zi_11, zi_12, zi_13, zi_14, zi_15, zi_16, zi_17, zi_18, zi_19, zi_20, zi_21, zi_22, zi_23, zi_24, zi_25, zi_26, zi_30, zi_31, zi_32, zi_34, zi_38, zi_59, zi_60, zi_61, zi_63, zi_64, zi_80, zi_96, zi_97, zi_99, zi_100, zi_122, zi_255, zi_256, zi_300, zi_398, zi_406, zi_900, zi_1000, zi_1024, zi_1624, zi_1662, zi_2030, zi_2031, zi_2068, zi_2258, zi_9999, zi_48, zi_57, zi_65536, zi_3257, zi_11483, zi_1000000, zi_729, zi_81, zi_m1, nI_add, pk_mul, nI_ltI, nI_leI, nI_eq, nI_clamp, zn_in, zn_sub1lt, zn_M, zn_Ml, zn_Mg, zn_Mle, zn_Mge, zn_sub, Nat.reduceAdd, Nat.reduceMul, forall_eq, true_imp_iff, false_imp_iff, and_true, true_and, not_true_eq_false, not_false_eq_true, reduceCtorEq, imp_self, eq_self, false_and, and_false, implies_true]
      repeat' (first | omega | with_reducible refine And.intro ?_ ?_ | with_reducible intro g)
      all_goals exact K _ _ (y.st _) (am_u2_at _ _ _ _) (fy_M.st _) fy_ML.rfl
  rcases zc p3 with hp | ⟨t, ht, rfl⟩
  · refine ⟨false, 1, tm, ts, tv, ok, ?_, ?_⟩
    · intro c d I L R hcd h hc hz y Q K
      simp (disch := omega) only [wp_U_pour, wb_U_pour_28, wb_U_pour_66, wb_U_pour_117, wp_Tray_isMissing, wp_U_isTray, wp_U_within, wp_U_settled, zn_sublt, zn_lesub, hp, zc_t hp, zc_l hp, zc_m hp, zc_k hp, zi_0, zi_1, zi_2, zi_3, zi_4, zi_5, zi_6, zi_7, zi_8, zi_9, zi_10, zi_11, zi_12, zi_13, zi_14, zi_15, zi_16, zi_17, zi_18, zi_19, zi_20, zi_21, zi_22, zi_23, zi_24, zi_25, zi_26, zi_30, zi_31, zi_32, zi_34, zi_38, zi_59, zi_60, zi_61, zi_63, zi_64, zi_80, zi_96, zi_97, zi_99, zi_100, zi_122, zi_255, zi_256, zi_300, zi_398, zi_406, zi_900, zi_1000, zi_1024, zi_1624, zi_1662, zi_2030, zi_2031, zi_2068, zi_2258, zi_9999, zi_48, zi_57, zi_65536, zi_3257, zi_11483, zi_1000000, zi_729, zi_81, zi_m1, nI_add, pk_mul, nI_ltI, nI_leI, nI_eq, nI_clamp, zn_in, zn_sub1lt, zn_M, zn_Ml, zn_Mg, zn_Mle, zn_Mge, zn_sub, Nat.reduceAdd, Nat.reduceMul, forall_eq, true_imp_iff, false_imp_iff, and_true, true_and, not_true_eq_false, not_false_eq_true, reduceCtorEq, imp_self, eq_self, false_and, and_false, implies_true]
      repeat' (first | omega | with_reducible refine And.intro ?_ ?_ | with_reducible intro g)
      all_goals exact K _ _ (y.st _) (am_u2_at _ _ _ _) (fy_U.st _) fy_UL.rfl
    · intro I L R h y Q K
      simp (disch := omega) only [wp_M_pour, wb_M_pour_28, wb_M_pour_54, wb_M_pour_109, wp_M_isTray, wp_M_is, zn_sublt, zn_lesub, hp, zc_e hp, zf_n hp, zc_t hp, zc_l hp, zc_m hp, zc_k hp, zi_0, zi_1, zi_2, zi_3, zi_4, zi_5, zi_6, zi_7, zi_8, zi_9, zi_10, zi_11, zi_12, zi_13, zi_14, zi_15, zi_16, zi_17, zi_18, zi_19, zi_20, zi_21, zi_22, zi_23, zi_24, zi_25, zi_26, zi_30, zi_31, zi_32, zi_34, zi_38, zi_59, zi_60, zi_61, zi_63, zi_64, zi_80, zi_96, zi_97, zi_99, zi_100, zi_122, zi_255, zi_256, zi_300, zi_398, zi_406, zi_900, zi_1000, zi_1024, zi_1624, zi_1662, zi_2030, zi_2031, zi_2068, zi_2258, zi_9999, zi_48, zi_57, zi_65536, zi_3257, zi_11483, zi_1000000, zi_729, zi_81, zi_m1, nI_add, pk_mul, nI_ltI, nI_leI, nI_eq, nI_clamp, zn_in, zn_sub1lt, zn_M, zn_Ml, zn_Mg, zn_Mle, zn_Mge, zn_sub, Nat.reduceAdd, Nat.reduceMul, forall_eq, true_imp_iff, false_imp_iff, and_true, true_and, not_true_eq_false, not_false_eq_true, reduceCtorEq, imp_self, eq_self, false_and, and_false, implies_true]
      repeat' (first | omega | with_reducible refine And.intro ?_ ?_ | with_reducible intro g)
      all_goals exact K _ _ (y.st _) (am_u2_at _ _ _ _) (fy_M.st _) fy_ML.rfl
  by_cases g1 : 3 < t
  · refine ⟨false, 1, tm, ts, tv, ok, ?_, ?_⟩
    · intro c d I L R hcd h hc hz y Q K
      simp (disch := omega) only [wp_U_pour, wb_U_pour_28, wb_U_pour_66, wb_U_pour_117, wp_Tray_isMissing, wp_U_isTray, wp_U_within, wp_U_settled, zn_sublt, zn_lesub, zi_0, zi_1, zi_2, zi_3, zi_4, zi_5, zi_6, zi_7, zi_8, zi_9, zi_10, zi_11, zi_12, zi_13, zi_14, zi_15, zi_16, zi_17, zi_18, zi_19, zi_20, zi_21, zi_22, zi_23, zi_24, zi_25, zi_26, zi_30, zi_31, zi_32, zi_34, zi_38, zi_59, zi_60, zi_61, zi_63, zi_64, zi_80, zi_96, zi_97, zi_99, zi_100, zi_122, zi_255, zi_256, zi_300, zi_398, zi_406, zi_900, zi_1000, zi_1024, zi_1624, zi_1662, zi_2030, zi_2031, zi_2068, zi_2258, zi_9999, zi_48, zi_57, zi_65536, zi_3257, zi_11483, zi_1000000, zi_729, zi_81, zi_m1, nI_add, pk_mul, nI_ltI, nI_leI, nI_eq, nI_clamp, zn_in, zn_sub1lt, zn_M, zn_Ml, zn_Mg, zn_Mle, zn_Mge, zn_sub, Nat.reduceAdd, Nat.reduceMul, forall_eq, true_imp_iff, false_imp_iff, and_true, true_and, not_true_eq_false, not_false_eq_true, reduceCtorEq, imp_self, eq_self, false_and, and_false, implies_true]
      repeat' (first | omega | with_reducible refine And.intro ?_ ?_ | with_reducible intro g)
      all_goals exact K _ _ (y.st _) (am_u2_at _ _ _ _) (fy_U.st _) fy_UL.rfl
    · intro I L R h y Q K
      simp (disch := omega) only [wp_M_pour, wb_M_pour_28, wb_M_pour_54, wb_M_pour_109, wp_M_isTray, wp_M_is, zn_sublt, zn_lesub, zi_0, zi_1, zi_2, zi_3, zi_4, zi_5, zi_6, zi_7, zi_8, zi_9, zi_10, zi_11, zi_12, zi_13, zi_14, zi_15, zi_16, zi_17, zi_18, zi_19, zi_20, zi_21, zi_22, zi_23, zi_24, zi_25, zi_26, zi_30, zi_31, zi_32, zi_34, zi_38, zi_59, zi_60, zi_61, zi_63, zi_64, zi_80, zi_96, zi_97, zi_99, zi_100, zi_122, zi_255, zi_256, zi_300, zi_398, zi_406, zi_900, zi_1000, zi_1024, zi_1624, zi_1662, zi_2030, zi_2031, zi_2068, zi_2258, zi_9999, zi_48, zi_57, zi_65536, zi_3257, zi_11483, zi_1000000, zi_729, zi_81, zi_m1, nI_add, pk_mul, nI_ltI, nI_leI, nI_eq, nI_clamp, zn_in, zn_sub1lt, zn_M, zn_Ml, zn_Mg, zn_Mle, zn_Mge, zn_sub, Nat.reduceAdd, Nat.reduceMul, forall_eq, true_imp_iff, false_imp_iff, and_true, true_and, not_true_eq_false, not_false_eq_true, reduceCtorEq, imp_self, eq_self, false_and, and_false, implies_true]
      repeat' (first | omega | with_reducible refine And.intro ?_ ?_ | with_reducible intro g)
      all_goals exact K _ _ (y.st _) (am_u2_at _ _ _ _) (fy_M.st _) fy_ML.rfl
  rcases zc p2 with hp | ⟨p, hp, rfl⟩
  · refine ⟨false, 1, tm, ts, tv, ok, ?_, ?_⟩
    · intro c d I L R hcd h hc hz y Q K
      simp (disch := omega) only [wp_U_pour, wb_U_pour_28, wb_U_pour_66, wb_U_pour_117, wp_Tray_isMissing, wp_U_isTray, wp_U_within, wp_U_settled, zn_sublt, zn_lesub, hp, zc_t hp, zc_l hp, zc_m hp, zc_k hp, zi_0, zi_1, zi_2, zi_3, zi_4, zi_5, zi_6, zi_7, zi_8, zi_9, zi_10, zi_11, zi_12, zi_13, zi_14, zi_15, zi_16, zi_17, zi_18, zi_19, zi_20, zi_21, zi_22, zi_23, zi_24, zi_25, zi_26, zi_30, zi_31, zi_32, zi_34, zi_38, zi_59, zi_60, zi_61, zi_63, zi_64, zi_80, zi_96, zi_97, zi_99, zi_100, zi_122, zi_255, zi_256, zi_300, zi_398, zi_406, zi_900, zi_1000, zi_1024, zi_1624, zi_1662, zi_2030, zi_2031, zi_2068, zi_2258, zi_9999, zi_48, zi_57, zi_65536, zi_3257, zi_11483, zi_1000000, zi_729, zi_81, zi_m1, nI_add, pk_mul, nI_ltI, nI_leI, nI_eq, nI_clamp, zn_in, zn_sub1lt, zn_M, zn_Ml, zn_Mg, zn_Mle, zn_Mge, zn_sub, Nat.reduceAdd, Nat.reduceMul, forall_eq, true_imp_iff, false_imp_iff, and_true, true_and, not_true_eq_false, not_false_eq_true, reduceCtorEq, imp_self, eq_self, false_and, and_false, implies_true]
      repeat' (first | omega | with_reducible refine And.intro ?_ ?_ | with_reducible intro g)
      all_goals exact K _ _ (y.st _) (am_u2_at _ _ _ _) (fy_U.st _) fy_UL.rfl
    · intro I L R h y Q K
      simp (disch := omega) only [wp_M_pour, wb_M_pour_28, wb_M_pour_54, wb_M_pour_109, wp_M_isTray, wp_M_is, zn_sublt, zn_lesub, hp, zc_e hp, zf_n hp, zc_t hp, zc_l hp, zc_m hp, zc_k hp, zi_0, zi_1, zi_2, zi_3, zi_4, zi_5, zi_6, zi_7, zi_8, zi_9, zi_10, zi_11, zi_12, zi_13, zi_14, zi_15, zi_16, zi_17, zi_18, zi_19, zi_20, zi_21, zi_22, zi_23, zi_24, zi_25, zi_26, zi_30, zi_31, zi_32, zi_34, zi_38, zi_59, zi_60, zi_61, zi_63, zi_64, zi_80, zi_96, zi_97, zi_99, zi_100, zi_122, zi_255, zi_256, zi_300, zi_398, zi_406, zi_900, zi_1000, zi_1024, zi_1624, zi_1662, zi_2030, zi_2031, zi_2068, zi_2258, zi_9999, zi_48, zi_57, zi_65536, zi_3257, zi_11483, zi_1000000, zi_729, zi_81, zi_m1, nI_add, pk_mul, nI_ltI, nI_leI, nI_eq, nI_clamp, zn_in, zn_sub1lt, zn_M, zn_Ml, zn_Mg, zn_Mle, zn_Mge, zn_sub, Nat.reduceAdd, Nat.reduceMul, forall_eq, true_imp_iff, false_imp_iff, and_true, true_and, not_true_eq_false, not_false_eq_true, reduceCtorEq, imp_self, eq_self, false_and, and_false, implies_true]
      repeat' (first | omega | with_reducible refine And.intro ?_ ?_ | with_reducible intro g)
      all_goals exact K _ _ (y.st _) (am_u2_at _ _ _ _) (fy_M.st _) fy_ML.rfl
  rcases zc p4 with hp | ⟨a, ha, rfl⟩
  · refine ⟨false, 1, tm, ts, tv, ok, ?_, ?_⟩
    · intro c d I L R hcd h hc hz y Q K
      simp (disch := omega) only [wp_U_pour, wb_U_pour_28, wb_U_pour_66, wb_U_pour_117, wp_Tray_isMissing, wp_U_isTray, wp_U_within, wp_U_settled, zn_sublt, zn_lesub, hp, zc_t hp, zc_l hp, zc_m hp, zc_k hp, zi_0, zi_1, zi_2, zi_3, zi_4, zi_5, zi_6, zi_7, zi_8, zi_9, zi_10, zi_11, zi_12, zi_13, zi_14, zi_15, zi_16, zi_17, zi_18, zi_19, zi_20, zi_21, zi_22, zi_23, zi_24, zi_25, zi_26, zi_30, zi_31, zi_32, zi_34, zi_38, zi_59, zi_60, zi_61, zi_63, zi_64, zi_80, zi_96, zi_97, zi_99, zi_100, zi_122, zi_255, zi_256, zi_300, zi_398, zi_406, zi_900, zi_1000, zi_1024, zi_1624, zi_1662, zi_2030, zi_2031, zi_2068, zi_2258, zi_9999, zi_48, zi_57, zi_65536, zi_3257, zi_11483, zi_1000000, zi_729, zi_81, zi_m1, nI_add, pk_mul, nI_ltI, nI_leI, nI_eq, nI_clamp, zn_in, zn_sub1lt, zn_M, zn_Ml, zn_Mg, zn_Mle, zn_Mge, zn_sub, Nat.reduceAdd, Nat.reduceMul, forall_eq, true_imp_iff, false_imp_iff, and_true, true_and, not_true_eq_false, not_false_eq_true, reduceCtorEq, imp_self, eq_self, false_and, and_false, implies_true]
      repeat' (first | omega | with_reducible refine And.intro ?_ ?_ | with_reducible intro g)
      all_goals exact K _ _ (y.st _) (am_u2_at _ _ _ _) (fy_U.st _) fy_UL.rfl
    · intro I L R h y Q K
      simp (disch := omega) only [wp_M_pour, wb_M_pour_28, wb_M_pour_54, wb_M_pour_109, wp_M_isTray, wp_M_is, zn_sublt, zn_lesub, hp, zc_e hp, zf_n hp, zc_t hp, zc_l hp, zc_m hp, zc_k hp, zi_0, zi_1, zi_2, zi_3, zi_4, zi_5, zi_6, zi_7, zi_8, zi_9, zi_10, zi_11, zi_12, zi_13, zi_14, zi_15, zi_16, zi_17, zi_18, zi_19, zi_20, zi_21, zi_22, zi_23, zi_24, zi_25, zi_26, zi_30, zi_31, zi_32, zi_34, zi_38, zi_59, zi_60, zi_61, zi_63, zi_64, zi_80, zi_96, zi_97, zi_99, zi_100, zi_122, zi_255, zi_256, zi_300, zi_398, zi_406, zi_900, zi_1000, zi_1024, zi_1624, zi_1662, zi_2030, zi_2031, zi_2068, zi_2258, zi_9999, zi_48, zi_57, zi_65536, zi_3257, zi_11483, zi_1000000, zi_729, zi_81, zi_m1, nI_add, pk_mul, nI_ltI, nI_leI, nI_eq, nI_clamp, zn_in, zn_sub1lt, zn_M, zn_Ml, zn_Mg, zn_Mle, zn_Mge, zn_sub, Nat.reduceAdd, Nat.reduceMul, forall_eq, true_imp_iff, false_imp_iff, and_true, true_and, not_true_eq_false, not_false_eq_true, reduceCtorEq, imp_self, eq_self, false_and, and_false, implies_true]
      repeat' (first | omega | with_reducible refine And.intro ?_ ?_ | with_reducible intro g)
      all_goals exact K _ _ (y.st _) (am_u2_at _ _ _ _) (fy_M.st _) fy_ML.rfl
  rcases zc p5 with hp | ⟨n, hn, rfl⟩
  · refine ⟨false, 1, tm, ts, tv, ok, ?_, ?_⟩
    · intro c d I L R hcd h hc hz y Q K
      simp (disch := omega) only [wp_U_pour, wb_U_pour_28, wb_U_pour_66, wb_U_pour_117, wp_Tray_isMissing, wp_U_isTray, wp_U_within, wp_U_settled, zn_sublt, zn_lesub, hp, zc_t hp, zc_l hp, zc_m hp, zc_k hp, zi_0, zi_1, zi_2, zi_3, zi_4, zi_5, zi_6, zi_7, zi_8, zi_9, zi_10, zi_11, zi_12, zi_13, zi_14, zi_15, zi_16, zi_17, zi_18, zi_19, zi_20, zi_21, zi_22, zi_23, zi_24, zi_25, zi_26, zi_30, zi_31, zi_32, zi_34, zi_38, zi_59, zi_60, zi_61, zi_63, zi_64, zi_80, zi_96, zi_97, zi_99, zi_100, zi_122, zi_255, zi_256, zi_300, zi_398, zi_406, zi_900, zi_1000, zi_1024, zi_1624, zi_1662, zi_2030, zi_2031, zi_2068, zi_2258, zi_9999, zi_48, zi_57, zi_65536, zi_3257, zi_11483, zi_1000000, zi_729, zi_81, zi_m1, nI_add, pk_mul, nI_ltI, nI_leI, nI_eq, nI_clamp, zn_in, zn_sub1lt, zn_M, zn_Ml, zn_Mg, zn_Mle, zn_Mge, zn_sub, Nat.reduceAdd, Nat.reduceMul, forall_eq, true_imp_iff, false_imp_iff, and_true, true_and, not_true_eq_false, not_false_eq_true, reduceCtorEq, imp_self, eq_self, false_and, and_false, implies_true]
      repeat' (first | omega | with_reducible refine And.intro ?_ ?_ | with_reducible intro g)
      all_goals exact K _ _ (y.st _) (am_u2_at _ _ _ _) (fy_U.st _) fy_UL.rfl
    · intro I L R h y Q K
      simp (disch := omega) only [wp_M_pour, wb_M_pour_28, wb_M_pour_54, wb_M_pour_109, wp_M_isTray, wp_M_is, zn_sublt, zn_lesub, hp, zc_e hp, zf_n hp, zc_t hp, zc_l hp, zc_m hp, zc_k hp, zi_0, zi_1, zi_2, zi_3, zi_4, zi_5, zi_6, zi_7, zi_8, zi_9, zi_10, zi_11, zi_12, zi_13, zi_14, zi_15, zi_16, zi_17, zi_18, zi_19, zi_20, zi_21, zi_22, zi_23, zi_24, zi_25, zi_26, zi_30, zi_31, zi_32, zi_34, zi_38, zi_59, zi_60, zi_61, zi_63, zi_64, zi_80, zi_96, zi_97, zi_99, zi_100, zi_122, zi_255, zi_256, zi_300, zi_398, zi_406, zi_900, zi_1000, zi_1024, zi_1624, zi_1662, zi_2030, zi_2031, zi_2068, zi_2258, zi_9999, zi_48, zi_57, zi_65536, zi_3257, zi_11483, zi_1000000, zi_729, zi_81, zi_m1, nI_add, pk_mul, nI_ltI, nI_leI, nI_eq, nI_clamp, zn_in, zn_sub1lt, zn_M, zn_Ml, zn_Mg, zn_Mle, zn_Mge, zn_sub, Nat.reduceAdd, Nat.reduceMul, forall_eq, true_imp_iff, false_imp_iff, and_true, true_and, not_true_eq_false, not_false_eq_true, reduceCtorEq, imp_self, eq_self, false_and, and_false, implies_true]
      repeat' (first | omega | with_reducible refine And.intro ?_ ?_ | with_reducible intro g)
      all_goals exact K _ _ (y.st _) (am_u2_at _ _ _ _) (fy_M.st _) fy_ML.rfl
  have hf4 : f < 4 := by omega
  have ht4 : t < 4 := by omega
  have okf := ok f hf4
  have okt := ok t ht4
  by_cases gf : tm f = 0
  · refine ⟨false, 2, tm, ts, tv, ok, ?_, ?_⟩
    · intro c d I L R hcd h hc hz y Q K
      simp (disch := omega) only [wp_U_pour, wb_U_pour_28, wb_U_pour_66, wb_U_pour_117, wp_Tray_isMissing, wp_U_isTray, wp_U_within, wp_U_settled, zn_sublt, zn_lesub, y.r hf4, y.r ht4, y.no hf4 gf, zi_0, zi_1, zi_2, zi_3, zi_4, zi_5, zi_6, zi_7, zi_8, zi_9, zi_10, zi_11, zi_12, zi_13, zi_14, zi_15, zi_16, zi_17, zi_18, zi_19, zi_20, zi_21, zi_22, zi_23, zi_24, zi_25, zi_26, zi_30, zi_31, zi_32, zi_34, zi_38, zi_59, zi_60, zi_61, zi_63, zi_64, zi_80, zi_96, zi_97, zi_99, zi_100, zi_122, zi_255, zi_256, zi_300, zi_398, zi_406, zi_900, zi_1000, zi_1024, zi_1624, zi_1662, zi_2030, zi_2031, zi_2068, zi_2258, zi_9999, zi_48, zi_57, zi_65536, zi_3257, zi_11483, zi_1000000, zi_729, zi_81, zi_m1, nI_add, pk_mul, nI_ltI, nI_leI, nI_eq, nI_clamp, zn_in, zn_sub1lt, zn_M, zn_Ml, zn_Mg, zn_Mle, zn_Mge, zn_sub, Nat.reduceAdd, Nat.reduceMul, forall_eq, true_imp_iff, false_imp_iff, and_true, true_and, not_true_eq_false, not_false_eq_true, reduceCtorEq, imp_self, eq_self, false_and, and_false, implies_true]
      repeat' (first | omega | with_reducible refine And.intro ?_ ?_ | with_reducible intro g)
      all_goals exact K _ _ (y.st _) (am_u2_at _ _ _ _) (fy_U.st _) fy_UL.rfl
    · intro I L R h y Q K
      simp (disch := omega) only [wp_M_pour, wb_M_pour_28, wb_M_pour_54, wb_M_pour_109, wp_M_isTray, wp_M_is, zn_sublt, zn_lesub, y.no hf4 gf, zi_0, zi_1, zi_2, zi_3, zi_4, zi_5, zi_6, zi_7, zi_8, zi_9, zi_10, zi_11, zi_12, zi_13, zi_14, zi_15, zi_16, zi_17, zi_18, zi_19, zi_20, zi_21, zi_22, zi_23, zi_24, zi_25, zi_26, zi_30, zi_31, zi_32, zi_34, zi_38, zi_59, zi_60, zi_61, zi_63, zi_64, zi_80, zi_96, zi_97, zi_99, zi_100, zi_122, zi_255, zi_256, zi_300, zi_398, zi_406, zi_900, zi_1000, zi_1024, zi_1624, zi_1662, zi_2030, zi_2031, zi_2068, zi_2258, zi_9999, zi_48, zi_57, zi_65536, zi_3257, zi_11483, zi_1000000, zi_729, zi_81, zi_m1, nI_add, pk_mul, nI_ltI, nI_leI, nI_eq, nI_clamp, zn_in, zn_sub1lt, zn_M, zn_Ml, zn_Mg, zn_Mle, zn_Mge, zn_sub, Nat.reduceAdd, Nat.reduceMul, forall_eq, true_imp_iff, false_imp_iff, and_true, true_and, not_true_eq_false, not_false_eq_true, reduceCtorEq, imp_self, eq_self, false_and, and_false, implies_true]
      repeat' (first | omega | with_reducible refine And.intro ?_ ?_ | with_reducible intro g)
      all_goals exact K _ _ (y.st _) (am_u2_at _ _ _ _) (fy_M.st _) fy_ML.rfl
  by_cases gt : tm t = 0
  · refine ⟨false, 2, tm, ts, tv, ok, ?_, ?_⟩
    · intro c d I L R hcd h hc hz y Q K
      simp (disch := omega) only [wp_U_pour, wb_U_pour_28, wb_U_pour_66, wb_U_pour_117, wp_Tray_isMissing, wp_U_isTray, wp_U_within, wp_U_settled, zn_sublt, zn_lesub, y.r hf4, y.r ht4, y.so hf4 gf, y.no ht4 gt, zi_0, zi_1, zi_2, zi_3, zi_4, zi_5, zi_6, zi_7, zi_8, zi_9, zi_10, zi_11, zi_12, zi_13, zi_14, zi_15, zi_16, zi_17, zi_18, zi_19, zi_20, zi_21, zi_22, zi_23, zi_24, zi_25, zi_26, zi_30, zi_31, zi_32, zi_34, zi_38, zi_59, zi_60, zi_61, zi_63, zi_64, zi_80, zi_96, zi_97, zi_99, zi_100, zi_122, zi_255, zi_256, zi_300, zi_398, zi_406, zi_900, zi_1000, zi_1024, zi_1624, zi_1662, zi_2030, zi_2031, zi_2068, zi_2258, zi_9999, zi_48, zi_57, zi_65536, zi_3257, zi_11483, zi_1000000, zi_729, zi_81, zi_m1, nI_add, pk_mul, nI_ltI, nI_leI, nI_eq, nI_clamp, zn_in, zn_sub1lt, zn_M, zn_Ml, zn_Mg, zn_Mle, zn_Mge, zn_sub, Nat.reduceAdd, Nat.reduceMul, forall_eq, true_imp_iff, false_imp_iff, and_true, true_and, not_true_eq_false, not_false_eq_true, reduceCtorEq, imp_self, eq_self, false_and, and_false, implies_true]
      repeat' (first | omega | with_reducible refine And.intro ?_ ?_ | with_reducible intro g)
      all_goals exact K _ _ (y.st _) (am_u2_at _ _ _ _) (fy_U.st _) fy_UL.rfl
    · intro I L R h y Q K
      simp (disch := omega) only [wp_M_pour, wb_M_pour_28, wb_M_pour_54, wb_M_pour_109, wp_M_isTray, wp_M_is, zn_sublt, zn_lesub, y.mn hf4 gf, y.no ht4 gt, zi_0, zi_1, zi_2, zi_3, zi_4, zi_5, zi_6, zi_7, zi_8, zi_9, zi_10, zi_11, zi_12, zi_13, zi_14, zi_15, zi_16, zi_17, zi_18, zi_19, zi_20, zi_21, zi_22, zi_23, zi_24, zi_25, zi_26, zi_30, zi_31, zi_32, zi_34, zi_38, zi_59, zi_60, zi_61, zi_63, zi_64, zi_80, zi_96, zi_97, zi_99, zi_100, zi_122, zi_255, zi_256, zi_300, zi_398, zi_406, zi_900, zi_1000, zi_1024, zi_1624, zi_1662, zi_2030, zi_2031, zi_2068, zi_2258, zi_9999, zi_48, zi_57, zi_65536, zi_3257, zi_11483, zi_1000000, zi_729, zi_81, zi_m1, nI_add, pk_mul, nI_ltI, nI_leI, nI_eq, nI_clamp, zn_in, zn_sub1lt, zn_M, zn_Ml, zn_Mg, zn_Mle, zn_Mge, zn_sub, Nat.reduceAdd, Nat.reduceMul, forall_eq, true_imp_iff, false_imp_iff, and_true, true_and, not_true_eq_false, not_false_eq_true, reduceCtorEq, imp_self, eq_self, false_and, and_false, implies_true]
      repeat' (first | omega | with_reducible refine And.intro ?_ ?_ | with_reducible intro g)
      all_goals exact K _ _ (y.st _) (am_u2_at _ _ _ _) (fy_M.st _) fy_ML.rfl
  by_cases gs : ¬ ts f = ts t
  · refine ⟨false, 8, tm, ts, tv, ok, ?_, ?_⟩
    · intro c d I L R hcd h hc hz y Q K
      simp (disch := omega) only [wp_U_pour, wb_U_pour_28, wb_U_pour_66, wb_U_pour_117, wp_Tray_isMissing, wp_U_isTray, wp_U_within, wp_U_settled, zn_sublt, zn_lesub, y.r hf4, y.r ht4, y.so hf4 gf, y.so ht4 gt, y.mn hf4 gf, y.mn ht4 gt, zi_0, zi_1, zi_2, zi_3, zi_4, zi_5, zi_6, zi_7, zi_8, zi_9, zi_10, zi_11, zi_12, zi_13, zi_14, zi_15, zi_16, zi_17, zi_18, zi_19, zi_20, zi_21, zi_22, zi_23, zi_24, zi_25, zi_26, zi_30, zi_31, zi_32, zi_34, zi_38, zi_59, zi_60, zi_61, zi_63, zi_64, zi_80, zi_96, zi_97, zi_99, zi_100, zi_122, zi_255, zi_256, zi_300, zi_398, zi_406, zi_900, zi_1000, zi_1024, zi_1624, zi_1662, zi_2030, zi_2031, zi_2068, zi_2258, zi_9999, zi_48, zi_57, zi_65536, zi_3257, zi_11483, zi_1000000, zi_729, zi_81, zi_m1, nI_add, pk_mul, nI_ltI, nI_leI, nI_eq, nI_clamp, zn_in, zn_sub1lt, zn_M, zn_Ml, zn_Mg, zn_Mle, zn_Mge, zn_sub, Nat.reduceAdd, Nat.reduceMul, forall_eq, true_imp_iff, false_imp_iff, and_true, true_and, not_true_eq_false, not_false_eq_true, reduceCtorEq, imp_self, eq_self, false_and, and_false, implies_true]
      repeat' (first | omega | with_reducible refine And.intro ?_ ?_ | with_reducible intro g)
      all_goals exact K _ _ (y.st _) (am_u2_at _ _ _ _) (fy_U.st _) fy_UL.rfl
    · intro I L R h y Q K
      simp (disch := omega) only [wp_M_pour, wb_M_pour_28, wb_M_pour_54, wb_M_pour_109, wp_M_isTray, wp_M_is, zn_sublt, zn_lesub, y.so hf4 gf, y.so ht4 gt, y.mn hf4 gf, y.mn ht4 gt, zi_0, zi_1, zi_2, zi_3, zi_4, zi_5, zi_6, zi_7, zi_8, zi_9, zi_10, zi_11, zi_12, zi_13, zi_14, zi_15, zi_16, zi_17, zi_18, zi_19, zi_20, zi_21, zi_22, zi_23, zi_24, zi_25, zi_26, zi_30, zi_31, zi_32, zi_34, zi_38, zi_59, zi_60, zi_61, zi_63, zi_64, zi_80, zi_96, zi_97, zi_99, zi_100, zi_122, zi_255, zi_256, zi_300, zi_398, zi_406, zi_900, zi_1000, zi_1024, zi_1624, zi_1662, zi_2030, zi_2031, zi_2068, zi_2258, zi_9999, zi_48, zi_57, zi_65536, zi_3257, zi_11483, zi_1000000, zi_729, zi_81, zi_m1, nI_add, pk_mul, nI_ltI, nI_leI, nI_eq, nI_clamp, zn_in, zn_sub1lt, zn_M, zn_Ml, zn_Mg, zn_Mle, zn_Mge, zn_sub, Nat.reduceAdd, Nat.reduceMul, forall_eq, true_imp_iff, false_imp_iff, and_true, true_and, not_true_eq_false, not_false_eq_true, reduceCtorEq, imp_self, eq_self, false_and, and_false, implies_true]
      repeat' (first | omega | with_reducible refine And.intro ?_ ?_ | with_reducible intro g)
      all_goals exact K _ _ (y.st _) (am_u2_at _ _ _ _) (fy_M.st _) fy_ML.rfl
  by_cases gn : tm f - 1 < p + n ∨ tm t - 1 < a + n
  · refine ⟨false, 3, tm, ts, tv, ok, ?_, ?_⟩
    · intro c d I L R hcd h hc hz y Q K
      simp (disch := omega) only [wp_U_pour, wb_U_pour_28, wb_U_pour_66, wb_U_pour_117, wp_Tray_isMissing, wp_U_isTray, wp_U_within, wp_U_settled, zn_sublt, zn_lesub, y.r hf4, y.r ht4, y.so hf4 gf, y.so ht4 gt, y.mn hf4 gf, y.mn ht4 gt, zi_0, zi_1, zi_2, zi_3, zi_4, zi_5, zi_6, zi_7, zi_8, zi_9, zi_10, zi_11, zi_12, zi_13, zi_14, zi_15, zi_16, zi_17, zi_18, zi_19, zi_20, zi_21, zi_22, zi_23, zi_24, zi_25, zi_26, zi_30, zi_31, zi_32, zi_34, zi_38, zi_59, zi_60, zi_61, zi_63, zi_64, zi_80, zi_96, zi_97, zi_99, zi_100, zi_122, zi_255, zi_256, zi_300, zi_398, zi_406, zi_900, zi_1000, zi_1024, zi_1624, zi_1662, zi_2030, zi_2031, zi_2068, zi_2258, zi_9999, zi_48, zi_57, zi_65536, zi_3257, zi_11483, zi_1000000, zi_729, zi_81, zi_m1, nI_add, pk_mul, nI_ltI, nI_leI, nI_eq, nI_clamp, zn_in, zn_sub1lt, zn_M, zn_Ml, zn_Mg, zn_Mle, zn_Mge, zn_sub, Nat.reduceAdd, Nat.reduceMul, forall_eq, true_imp_iff, false_imp_iff, and_true, true_and, not_true_eq_false, not_false_eq_true, reduceCtorEq, imp_self, eq_self, false_and, and_false, implies_true]
      repeat' (first | omega | with_reducible refine And.intro ?_ ?_ | with_reducible intro g)
      all_goals exact K _ _ (y.st _) (am_u2_at _ _ _ _) (fy_U.st _) fy_UL.rfl
    · intro I L R h y Q K
      simp (disch := omega) only [wp_M_pour, wb_M_pour_28, wb_M_pour_54, wb_M_pour_109, wp_M_isTray, wp_M_is, zn_sublt, zn_lesub, y.so hf4 gf, y.so ht4 gt, y.mn hf4 gf, y.mn ht4 gt, zi_0, zi_1, zi_2, zi_3, zi_4, zi_5, zi_6, zi_7, zi_8, zi_9, zi_10, zi_11, zi_12, zi_13, zi_14, zi_15, zi_16, zi_17, zi_18, zi_19, zi_20, zi_21, zi_22, zi_23, zi_24, zi_25, zi_26, zi_30, zi_31, zi_32, zi_34, zi_38, zi_59, zi_60, zi_61, zi_63, zi_64, zi_80, zi_96, zi_97, zi_99, zi_100, zi_122, zi_255, zi_256, zi_300, zi_398, zi_406, zi_900, zi_1000, zi_1024, zi_1624, zi_1662, zi_2030, zi_2031, zi_2068, zi_2258, zi_9999, zi_48, zi_57, zi_65536, zi_3257, zi_11483, zi_1000000, zi_729, zi_81, zi_m1, nI_add, pk_mul, nI_ltI, nI_leI, nI_eq, nI_clamp, zn_in, zn_sub1lt, zn_M, zn_Ml, zn_Mg, zn_Mle, zn_Mge, zn_sub, Nat.reduceAdd, Nat.reduceMul, forall_eq, true_imp_iff, false_imp_iff, and_true, true_and, not_true_eq_false, not_false_eq_true, reduceCtorEq, imp_self, eq_self, false_and, and_false, implies_true]
      repeat' (first | omega | with_reducible refine And.intro ?_ ?_ | with_reducible intro g)
      all_goals exact K _ _ (y.st _) (am_u2_at _ _ _ _) (fy_M.st _) fy_ML.rfl
  refine ⟨true, 0, tm, ts, tv_cpy tv f p t a n, ok, ?_, ?_⟩
  · intro c d I L R hcd h hc hz y Q K
    simp (disch := omega) only [wp_U_pour, wb_U_pour_28, wb_U_pour_66, wb_U_pour_117, wp_Tray_isMissing, wp_U_isTray, wp_U_within, wp_U_settled, zn_sublt, zn_lesub, y.r hf4, y.r ht4, y.so hf4 gf, y.so ht4 gt, y.mn hf4 gf, y.mn ht4 gt, zi_0, zi_1, zi_2, zi_3, zi_4, zi_5, zi_6, zi_7, zi_8, zi_9, zi_10, zi_11, zi_12, zi_13, zi_14, zi_15, zi_16, zi_17, zi_18, zi_19, zi_20, zi_21, zi_22, zi_23, zi_24, zi_25, zi_26, zi_30, zi_31, zi_32, zi_34, zi_38, zi_59, zi_60, zi_61, zi_63, zi_64, zi_80, zi_96, zi_97, zi_99, zi_100, zi_122, zi_255, zi_256, zi_300, zi_398, zi_406, zi_900, zi_1000, zi_1024, zi_1624, zi_1662, zi_2030, zi_2031, zi_2068, zi_2258, zi_9999, zi_48, zi_57, zi_65536, zi_3257, zi_11483, zi_1000000, zi_729, zi_81, zi_m1, nI_add, pk_mul, nI_ltI, nI_leI, nI_eq, nI_clamp, zn_in, zn_sub1lt, zn_M, zn_Ml, zn_Mg, zn_Mle, zn_Mge, zn_sub, Nat.reduceAdd, Nat.reduceMul, forall_eq, true_imp_iff, false_imp_iff, and_true, true_and, not_true_eq_false, not_false_eq_true, reduceCtorEq, imp_self, eq_self, false_and, and_false, implies_true]
    repeat' (first | omega | with_reducible refine And.intro ?_ ?_ | with_reducible intro g)
    refine K _ _ (tr_U.st (fun x hx => ?_) _) (am_u2_at _ _ _ _) (fy_U.st _) (fun r g => am_row_ne _ _ _ (by omega))
    obtain ⟨h1, h2, h3, h4⟩ := y x hx
    refine ⟨h1, h2, h3, fun j hj => ?_⟩
    unfold tv_cpy
    by_cases gx : x = t
    · subst gx
      rw [am_row_at]
      unfold va_cpy
      by_cases gj : a ≤ j ∧ j < a + n
      · rw [if_pos gj, if_pos ⟨rfl, gj⟩]; exact y.at hf4 (by omega)
      · rw [if_neg gj, if_neg (fun z => gj z.2)]; exact h4 j hj
    · rw [am_row_ne _ _ _ (by omega), if_neg (fun z => gx z.1)]; exact h4 j hj
  · intro I L R h y Q K
    simp (disch := omega) only [wp_M_pour, wb_M_pour_28, wb_M_pour_54, wb_M_pour_109, wp_M_isTray, wp_M_is, zn_sublt, zn_lesub, y.so hf4 gf, y.so ht4 gt, y.mn hf4 gf, y.mn ht4 gt, zi_0, zi_1, zi_2, zi_3, zi_4, zi_5, zi_6, zi_7, zi_8, zi_9, zi_10, zi_11, zi_12, zi_13, zi_14, zi_15, zi_16, zi_17, zi_18, zi_19, zi_20, zi_21, zi_22, zi_23, zi_24, zi_25, zi_26, zi_30, zi_31, zi_32, zi_34, zi_38, zi_59, zi_60, zi_61, zi_63, zi_64, zi_80, zi_96, zi_97, zi_99, zi_100, zi_122, zi_255, zi_256, zi_300, zi_398, zi_406, zi_900, zi_1000, zi_1024, zi_1624, zi_1662, zi_2030, zi_2031, zi_2068, zi_2258, zi_9999, zi_48, zi_57, zi_65536, zi_3257, zi_11483, zi_1000000, zi_729, zi_81, zi_m1, nI_add, pk_mul, nI_ltI, nI_leI, nI_eq, nI_clamp, zn_in, zn_sub1lt, zn_M, zn_Ml, zn_Mg, zn_Mle, zn_Mge, zn_sub, Nat.reduceAdd, Nat.reduceMul, forall_eq, true_imp_iff, false_imp_iff, and_true, true_and, not_true_eq_false, not_false_eq_true, reduceCtorEq, imp_self, eq_self, false_and, and_false, implies_true]
    repeat' (first | omega | with_reducible refine And.intro ?_ ?_ | with_reducible intro g)
    have fin : ∀ L1 : am_TL, (∀ j, L1 108 j = if 60 * t + a ≤ j ∧ j < 60 * t + a + n then L 108 (60 * f + p + (j - (60 * t + a))) else L 108 j) → (∀ r, r ≠ 108 → L1 r = L r) → Q true (am_u2 I 103 2 (nI 0)) L1 := fun L1 hA hB => by
      refine K _ _ (tr_M.st (fun x hx => ?_) _) (am_u2_at _ _ _ _) (fy_M.st _) hB
      obtain ⟨h1, h2, h3⟩ := y x hx
      have okx := ok x hx
      refine ⟨h1, h2, fun j hj => ?_⟩
      rw [hA]
      unfold tv_cpy
      by_cases gx : x = t ∧ a ≤ j ∧ j < a + n
      · obtain ⟨rfl, gj⟩ := gx
        rw [if_pos (by omega), if_pos ⟨rfl, gj⟩, show 60 * f + p + (60 * x + j - (60 * x + a)) = 60 * f + (p + (j - a)) by omega]
        exact y.at hf4 (by omega)
      · rw [if_neg (by omega), if_neg gx]; exact h3 j hj
    by_cases gd : a ≤ p
    · refine (zl_up (P := fun z m => ∀ L1, (∀ j, L1 108 j = if 60 * t + a ≤ j ∧ j < 60 * t + a + m then L 108 (60 * f + p + (j - (60 * t + a))) else L 108 j) → (∀ r, r ≠ 108 → L1 r = L r) → wl_M_pour_118 R 103 (nI f) (nI p) (nI t) (nI a) (nI n) Q z I L1 (nI m)) n (fun z L1 hA hB => ?_) (fun z m hm ih L1 hA hB => ?_) 0 (by omega)).elim fun z hz => ⟨z, hz L (fun j => by rw [if_neg (by omega)]) (fun _ _ => rfl)⟩
      · simp (disch := omega) only [wl_M_pour_118, wp_M_is, zi_0, zi_1, zi_2, zi_3, zi_4, zi_5, zi_6, zi_7, zi_8, zi_9, zi_10, zi_11, zi_12, zi_13, zi_14, zi_15, zi_16, zi_17, zi_18, zi_19, zi_20, zi_21, zi_22, zi_23, zi_24, zi_25, zi_26, zi_30, zi_31, zi_32, zi_34, zi_38, zi_59, zi_60, zi_61, zi_63, zi_64, zi_80, zi_96, zi_97, zi_99, zi_100, zi_122, zi_255, zi_256, zi_300, zi_398, zi_406, zi_900, zi_1000, zi_1024, zi_1624, zi_1662, zi_2030, zi_2031, zi_2068, zi_2258, zi_9999, zi_48, zi_57, zi_65536, zi_3257, zi_11483, zi_1000000, zi_729, zi_81, zi_m1, nI_add, pk_mul, nI_ltI, nI_leI, nI_eq, nI_clamp, zn_in, zn_sub1lt, zn_M, zn_Ml, zn_Mg, zn_Mle, zn_Mge, zn_sub, Nat.reduceAdd, Nat.reduceMul, forall_eq, true_imp_iff, false_imp_iff, and_true, true_and, not_true_eq_false, not_false_eq_true, reduceCtorEq, imp_self, eq_self, false_and, and_false, implies_true]
        exact ⟨fun _ => fin L1 hA hB, fun g => absurd (Nat.le_refl _) g⟩
      · simp (disch := omega) only [wl_M_pour_118, wb_M_pour_143, wp_M_is, zi_0, zi_1, zi_2, zi_3, zi_4, zi_5, zi_6, zi_7, zi_8, zi_9, zi_10, zi_11, zi_12, zi_13, zi_14, zi_15, zi_16, zi_17, zi_18, zi_19, zi_20, zi_21, zi_22, zi_23, zi_24, zi_25, zi_26, zi_30, zi_31, zi_32, zi_34, zi_38, zi_59, zi_60, zi_61, zi_63, zi_64, zi_80, zi_96, zi_97, zi_99, zi_100, zi_122, zi_255, zi_256, zi_300, zi_398, zi_406, zi_900, zi_1000, zi_1024, zi_1624, zi_1662, zi_2030, zi_2031, zi_2068, zi_2258, zi_9999, zi_48, zi_57, zi_65536, zi_3257, zi_11483, zi_1000000, zi_729, zi_81, zi_m1, nI_add, pk_mul, nI_ltI, nI_leI, nI_eq, nI_clamp, zn_in, zn_sub1lt, zn_M, zn_Ml, zn_Mg, zn_Mle, zn_Mge, zn_sub, Nat.reduceAdd, Nat.reduceMul, forall_eq, true_imp_iff, false_imp_iff, and_true, true_and, not_true_eq_false, not_false_eq_true, reduceCtorEq, imp_self, eq_self, false_and, and_false, implies_true]
        refine ⟨fun g => absurd g (by omega), fun _ => ⟨fun _ => ⟨by omega, by omega, ih _ (fun j => ?_) (fun r hr => by rw [am_u2_row _ _ _ _ hr]; exact hB r hr)⟩, fun g => absurd gd (by omega)⟩⟩
        by_cases gj : j = 60 * t + a + m
        · subst gj
          rw [am_u2_at, if_pos (by omega), hA, if_neg (by omega), show 60 * f + p + (60 * t + a + m - (60 * t + a)) = 60 * f + p + m by omega]
        · rw [am_u2_ne _ _ _ _ gj, hA]
          by_cases gg : 60 * t + a ≤ j ∧ j < 60 * t + a + m
          · rw [if_pos gg, if_pos (by omega)]
          · rw [if_neg gg, if_neg (by omega)]
    · refine (zl_up (P := fun z m => ∀ L1, (∀ j, L1 108 j = if 60 * t + a + (n - m) ≤ j ∧ j < 60 * t + a + n then L 108 (60 * f + p + (j - (60 * t + a))) else L 108 j) → (∀ r, r ≠ 108 → L1 r = L r) → wl_M_pour_118 R 103 (nI f) (nI p) (nI t) (nI a) (nI n) Q z I L1 (nI m)) n (fun z L1 hA hB => ?_) (fun z m hm ih L1 hA hB => ?_) 0 (by omega)).elim fun z hz => ⟨z, hz L (fun j => by rw [if_neg (by omega)]) (fun _ _ => rfl)⟩
      · simp (disch := omega) only [wl_M_pour_118, wp_M_is, zi_0, zi_1, zi_2, zi_3, zi_4, zi_5, zi_6, zi_7, zi_8, zi_9, zi_10, zi_11, zi_12, zi_13, zi_14, zi_15, zi_16, zi_17, zi_18, zi_19, zi_20, zi_21, zi_22, zi_23, zi_24, zi_25, zi_26, zi_30, zi_31, zi_32, zi_34, zi_38, zi_59, zi_60, zi_61, zi_63, zi_64, zi_80, zi_96, zi_97, zi_99, zi_100, zi_122, zi_255, zi_256, zi_300, zi_398, zi_406, zi_900, zi_1000, zi_1024, zi_1624, zi_1662, zi_2030, zi_2031, zi_2068, zi_2258, zi_9999, zi_48, zi_57, zi_65536, zi_3257, zi_11483, zi_1000000, zi_729, zi_81, zi_m1, nI_add, pk_mul, nI_ltI, nI_leI, nI_eq, nI_clamp, zn_in, zn_sub1lt, zn_M, zn_Ml, zn_Mg, zn_Mle, zn_Mge, zn_sub, Nat.reduceAdd, Nat.reduceMul, forall_eq, true_imp_iff, false_imp_iff, and_true, true_and, not_true_eq_false, not_false_eq_true, reduceCtorEq, imp_self, eq_self, false_and, and_false, implies_true]
        refine ⟨fun _ => fin L1 (fun j => ?_) hB, fun g => absurd (Nat.le_refl _) g⟩
        rw [hA, Nat.sub_self, Nat.add_zero]
      · simp (disch := omega) only [wl_M_pour_118, wb_M_pour_143, wp_M_is, zi_0, zi_1, zi_2, zi_3, zi_4, zi_5, zi_6, zi_7, zi_8, zi_9, zi_10, zi_11, zi_12, zi_13, zi_14, zi_15, zi_16, zi_17, zi_18, zi_19, zi_20, zi_21, zi_22, zi_23, zi_24, zi_25, zi_26, zi_30, zi_31, zi_32, zi_34, zi_38, zi_59, zi_60, zi_61, zi_63, zi_64, zi_80, zi_96, zi_97, zi_99, zi_100, zi_122, zi_255, zi_256, zi_300, zi_398, zi_406, zi_900, zi_1000, zi_1024, zi_1624, zi_1662, zi_2030, zi_2031, zi_2068, zi_2258, zi_9999, zi_48, zi_57, zi_65536, zi_3257, zi_11483, zi_1000000, zi_729, zi_81, zi_m1, nI_add, pk_mul, nI_ltI, nI_leI, nI_eq, nI_clamp, zn_in, zn_sub1lt, zn_M, zn_Ml, zn_Mg, zn_Mle, zn_Mge, zn_sub, Nat.reduceAdd, Nat.reduceMul, forall_eq, true_imp_iff, false_imp_iff, and_true, true_and, not_true_eq_false, not_false_eq_true, reduceCtorEq, imp_self, eq_self, false_and, and_false, implies_true]
        refine ⟨fun g => absurd g (by omega), fun _ => ⟨fun g => absurd g (by omega), fun _ => ⟨by omega, by omega, ih _ (fun j => ?_) (fun r hr => by rw [am_u2_row _ _ _ _ hr]; exact hB r hr)⟩⟩⟩
        by_cases gj : j = 60 * t + a + (n - 1 - m)
        · subst gj
          rw [am_u2_at, if_pos (by omega), hA, if_neg (by omega), show 60 * f + p + (60 * t + a + (n - 1 - m) - (60 * t + a)) = 60 * f + p + (n - 1 - m) by omega]
        · rw [am_u2_ne _ _ _ _ gj, hA]
          by_cases gg : 60 * t + a + (n - m) ≤ j ∧ j < 60 * t + a + n
          · rw [if_pos gg, if_pos (by omega)]
          · rw [if_neg gg, if_neg (by omega)]
/-- cells of the first m come to a tray -/
def tv_cells (q : Nat → Nat) (tv : Nat → Nat → Int64) (s t : Nat) : Nat → Nat → Nat → Int64
  | 0 => tv
  | m + 1 => tv_put (tv_cells q tv s t m) t m (tr_cut s (Int32.toInt64 (nI (q (10 + 4 * m)))))
theorem op_copyCells (okq : sq_Ok q) (ok : tr_Ok tm ts) (p1 : Int32) : si_Y q tm ts tv (fun I L R Q => wp_U_copyCells I L R 0 p1 Q) (fun I L R Q => wp_M_copyCells I L R 103 p1 Q) := by
  have o := okq.1.2.2.1
  rcases zc p1 with hp | ⟨t, ht, rfl⟩
  · refine ⟨nM, 1, tm, ts, tv, ok, ?_, ?_⟩
    · intro c d I L R hcd h hc hz y Q K
      simp (disch := omega) only [wp_U_copyCells, wp_U_trayStatus, wp_Tray_isMissing, wp_U_isTray, wp_U_within, wp_U_refused, hc, h.n3, hp, zc_t hp, zc_l hp, zc_m hp, zc_k hp, zi_0, zi_1, zi_2, zi_3, zi_4, zi_5, zi_6, zi_7, zi_8, zi_9, zi_10, zi_11, zi_12, zi_13, zi_14, zi_15, zi_16, zi_17, zi_18, zi_19, zi_20, zi_21, zi_22, zi_23, zi_24, zi_25, zi_26, zi_30, zi_31, zi_32, zi_34, zi_38, zi_59, zi_60, zi_61, zi_63, zi_64, zi_80, zi_96, zi_97, zi_99, zi_100, zi_122, zi_255, zi_256, zi_300, zi_398, zi_406, zi_900, zi_1000, zi_1024, zi_1624, zi_1662, zi_2030, zi_2031, zi_2068, zi_2258, zi_9999, zi_48, zi_57, zi_65536, zi_3257, zi_11483, zi_1000000, zi_729, zi_81, zi_m1, nI_add, pk_mul, nI_ltI, nI_leI, nI_eq, nI_clamp, zn_in, zn_sub1lt, zn_M, zn_Ml, zn_Mg, zn_Mle, zn_Mge, zn_sub, Nat.reduceAdd, Nat.reduceMul, forall_eq, true_imp_iff, false_imp_iff, and_true, true_and, not_true_eq_false, not_false_eq_true, reduceCtorEq, imp_self, eq_self, false_and, and_false, implies_true]
      repeat' (first | omega | with_reducible refine And.intro ?_ ?_ | with_reducible intro g)
      all_goals exact K _ _ (y.st _) (am_u2_at _ _ _ _) (fy_U.st _) fy_UL.rfl
    · intro I L R h y Q K
      simp (disch := omega) only [wp_M_copyCells, wp_M_isTray, wp_M_refuse, h.n3, hp, zc_e hp, zf_n hp, zc_t hp, zc_l hp, zc_m hp, zc_k hp, zi_0, zi_1, zi_2, zi_3, zi_4, zi_5, zi_6, zi_7, zi_8, zi_9, zi_10, zi_11, zi_12, zi_13, zi_14, zi_15, zi_16, zi_17, zi_18, zi_19, zi_20, zi_21, zi_22, zi_23, zi_24, zi_25, zi_26, zi_30, zi_31, zi_32, zi_34, zi_38, zi_59, zi_60, zi_61, zi_63, zi_64, zi_80, zi_96, zi_97, zi_99, zi_100, zi_122, zi_255, zi_256, zi_300, zi_398, zi_406, zi_900, zi_1000, zi_1024, zi_1624, zi_1662, zi_2030, zi_2031, zi_2068, zi_2258, zi_9999, zi_48, zi_57, zi_65536, zi_3257, zi_11483, zi_1000000, zi_729, zi_81, zi_m1, nI_add, pk_mul, nI_ltI, nI_leI, nI_eq, nI_clamp, zn_in, zn_sub1lt, zn_M, zn_Ml, zn_Mg, zn_Mle, zn_Mge, zn_sub, Nat.reduceAdd, Nat.reduceMul, forall_eq, true_imp_iff, false_imp_iff, and_true, true_and, not_true_eq_false, not_false_eq_true, reduceCtorEq, imp_self, eq_self, false_and, and_false, implies_true]
      repeat' (first | omega | with_reducible refine And.intro ?_ ?_ | with_reducible intro g)
      all_goals exact K _ _ (y.st _) (am_u2_at _ _ _ _) (fy_M.st _) fy_ML.rfl
  by_cases g : 3 < t
  · refine ⟨nM, 1, tm, ts, tv, ok, ?_, ?_⟩
    · intro c d I L R hcd h hc hz y Q K
      simp (disch := omega) only [wp_U_copyCells, wp_U_trayStatus, wp_Tray_isMissing, wp_U_isTray, wp_U_within, wp_U_refused, hc, h.n3, zi_0, zi_1, zi_2, zi_3, zi_4, zi_5, zi_6, zi_7, zi_8, zi_9, zi_10, zi_11, zi_12, zi_13, zi_14, zi_15, zi_16, zi_17, zi_18, zi_19, zi_20, zi_21, zi_22, zi_23, zi_24, zi_25, zi_26, zi_30, zi_31, zi_32, zi_34, zi_38, zi_59, zi_60, zi_61, zi_63, zi_64, zi_80, zi_96, zi_97, zi_99, zi_100, zi_122, zi_255, zi_256, zi_300, zi_398, zi_406, zi_900, zi_1000, zi_1024, zi_1624, zi_1662, zi_2030, zi_2031, zi_2068, zi_2258, zi_9999, zi_48, zi_57, zi_65536, zi_3257, zi_11483, zi_1000000, zi_729, zi_81, zi_m1, nI_add, pk_mul, nI_ltI, nI_leI, nI_eq, nI_clamp, zn_in, zn_sub1lt, zn_M, zn_Ml, zn_Mg, zn_Mle, zn_Mge, zn_sub, Nat.reduceAdd, Nat.reduceMul, forall_eq, true_imp_iff, false_imp_iff, and_true, true_and, not_true_eq_false, not_false_eq_true, reduceCtorEq, imp_self, eq_self, false_and, and_false, implies_true]
      repeat' (first | omega | with_reducible refine And.intro ?_ ?_ | with_reducible intro g)
      all_goals exact K _ _ (y.st _) (am_u2_at _ _ _ _) (fy_U.st _) fy_UL.rfl
    · intro I L R h y Q K
      simp (disch := omega) only [wp_M_copyCells, wp_M_isTray, wp_M_refuse, h.n3, zi_0, zi_1, zi_2, zi_3, zi_4, zi_5, zi_6, zi_7, zi_8, zi_9, zi_10, zi_11, zi_12, zi_13, zi_14, zi_15, zi_16, zi_17, zi_18, zi_19, zi_20, zi_21, zi_22, zi_23, zi_24, zi_25, zi_26, zi_30, zi_31, zi_32, zi_34, zi_38, zi_59, zi_60, zi_61, zi_63, zi_64, zi_80, zi_96, zi_97, zi_99, zi_100, zi_122, zi_255, zi_256, zi_300, zi_398, zi_406, zi_900, zi_1000, zi_1024, zi_1624, zi_1662, zi_2030, zi_2031, zi_2068, zi_2258, zi_9999, zi_48, zi_57, zi_65536, zi_3257, zi_11483, zi_1000000, zi_729, zi_81, zi_m1, nI_add, pk_mul, nI_ltI, nI_leI, nI_eq, nI_clamp, zn_in, zn_sub1lt, zn_M, zn_Ml, zn_Mg, zn_Mle, zn_Mge, zn_sub, Nat.reduceAdd, Nat.reduceMul, forall_eq, true_imp_iff, false_imp_iff, and_true, true_and, not_true_eq_false, not_false_eq_true, reduceCtorEq, imp_self, eq_self, false_and, and_false, implies_true]
      repeat' (first | omega | with_reducible refine And.intro ?_ ?_ | with_reducible intro g)
      all_goals exact K _ _ (y.st _) (am_u2_at _ _ _ _) (fy_M.st _) fy_ML.rfl
  have ht : t < 4 := by omega
  have ok1 := ok t ht
  by_cases g1 : tm t = 0
  · refine ⟨nM, 2, tm, ts, tv, ok, ?_, ?_⟩
    · intro c d I L R hcd h hc hz y Q K
      simp (disch := omega) only [wp_U_copyCells, wp_U_trayStatus, wp_Tray_isMissing, wp_U_isTray, wp_U_within, wp_U_refused, hc, h.n3, y.r ht, y.no ht g1, zi_0, zi_1, zi_2, zi_3, zi_4, zi_5, zi_6, zi_7, zi_8, zi_9, zi_10, zi_11, zi_12, zi_13, zi_14, zi_15, zi_16, zi_17, zi_18, zi_19, zi_20, zi_21, zi_22, zi_23, zi_24, zi_25, zi_26, zi_30, zi_31, zi_32, zi_34, zi_38, zi_59, zi_60, zi_61, zi_63, zi_64, zi_80, zi_96, zi_97, zi_99, zi_100, zi_122, zi_255, zi_256, zi_300, zi_398, zi_406, zi_900, zi_1000, zi_1024, zi_1624, zi_1662, zi_2030, zi_2031, zi_2068, zi_2258, zi_9999, zi_48, zi_57, zi_65536, zi_3257, zi_11483, zi_1000000, zi_729, zi_81, zi_m1, nI_add, pk_mul, nI_ltI, nI_leI, nI_eq, nI_clamp, zn_in, zn_sub1lt, zn_M, zn_Ml, zn_Mg, zn_Mle, zn_Mge, zn_sub, Nat.reduceAdd, Nat.reduceMul, forall_eq, true_imp_iff, false_imp_iff, and_true, true_and, not_true_eq_false, not_false_eq_true, reduceCtorEq, imp_self, eq_self, false_and, and_false, implies_true]
      repeat' (first | omega | with_reducible refine And.intro ?_ ?_ | with_reducible intro g)
      all_goals exact K _ _ (y.st _) (am_u2_at _ _ _ _) (fy_U.st _) fy_UL.rfl
    · intro I L R h y Q K
      simp (disch := omega) only [wp_M_copyCells, wp_M_isTray, wp_M_refuse, h.n3, y.no ht g1, zi_0, zi_1, zi_2, zi_3, zi_4, zi_5, zi_6, zi_7, zi_8, zi_9, zi_10, zi_11, zi_12, zi_13, zi_14, zi_15, zi_16, zi_17, zi_18, zi_19, zi_20, zi_21, zi_22, zi_23, zi_24, zi_25, zi_26, zi_30, zi_31, zi_32, zi_34, zi_38, zi_59, zi_60, zi_61, zi_63, zi_64, zi_80, zi_96, zi_97, zi_99, zi_100, zi_122, zi_255, zi_256, zi_300, zi_398, zi_406, zi_900, zi_1000, zi_1024, zi_1624, zi_1662, zi_2030, zi_2031, zi_2068, zi_2258, zi_9999, zi_48, zi_57, zi_65536, zi_3257, zi_11483, zi_1000000, zi_729, zi_81, zi_m1, nI_add, pk_mul, nI_ltI, nI_leI, nI_eq, nI_clamp, zn_in, zn_sub1lt, zn_M, zn_Ml, zn_Mg, zn_Mle, zn_Mge, zn_sub, Nat.reduceAdd, Nat.reduceMul, forall_eq, true_imp_iff, false_imp_iff, and_true, true_and, not_true_eq_false, not_false_eq_true, reduceCtorEq, imp_self, eq_self, false_and, and_false, implies_true]
      repeat' (first | omega | with_reducible refine And.intro ?_ ?_ | with_reducible intro g)
      all_goals exact K _ _ (y.st _) (am_u2_at _ _ _ _) (fy_M.st _) fy_ML.rfl
  by_cases g2 : tm t - 1 < q 3
  · refine ⟨nM, 3, tm, ts, tv, ok, ?_, ?_⟩
    · intro c d I L R hcd h hc hz y Q K
      simp (disch := omega) only [wp_U_copyCells, wp_U_trayStatus, wp_Tray_isMissing, wp_U_isTray, wp_U_within, wp_U_refused, hc, h.n3, y.r ht, y.so ht g1, y.mn ht g1, zi_0, zi_1, zi_2, zi_3, zi_4, zi_5, zi_6, zi_7, zi_8, zi_9, zi_10, zi_11, zi_12, zi_13, zi_14, zi_15, zi_16, zi_17, zi_18, zi_19, zi_20, zi_21, zi_22, zi_23, zi_24, zi_25, zi_26, zi_30, zi_31, zi_32, zi_34, zi_38, zi_59, zi_60, zi_61, zi_63, zi_64, zi_80, zi_96, zi_97, zi_99, zi_100, zi_122, zi_255, zi_256, zi_300, zi_398, zi_406, zi_900, zi_1000, zi_1024, zi_1624, zi_1662, zi_2030, zi_2031, zi_2068, zi_2258, zi_9999, zi_48, zi_57, zi_65536, zi_3257, zi_11483, zi_1000000, zi_729, zi_81, zi_m1, nI_add, pk_mul, nI_ltI, nI_leI, nI_eq, nI_clamp, zn_in, zn_sub1lt, zn_M, zn_Ml, zn_Mg, zn_Mle, zn_Mge, zn_sub, Nat.reduceAdd, Nat.reduceMul, forall_eq, true_imp_iff, false_imp_iff, and_true, true_and, not_true_eq_false, not_false_eq_true, reduceCtorEq, imp_self, eq_self, false_and, and_false, implies_true]
      repeat' (first | omega | with_reducible refine And.intro ?_ ?_ | with_reducible intro g)
      all_goals exact K _ _ (y.st _) (am_u2_at _ _ _ _) (fy_U.st _) fy_UL.rfl
    · intro I L R h y Q K
      simp (disch := omega) only [wp_M_copyCells, wp_M_isTray, wp_M_refuse, h.n3, y.mn ht g1, zi_0, zi_1, zi_2, zi_3, zi_4, zi_5, zi_6, zi_7, zi_8, zi_9, zi_10, zi_11, zi_12, zi_13, zi_14, zi_15, zi_16, zi_17, zi_18, zi_19, zi_20, zi_21, zi_22, zi_23, zi_24, zi_25, zi_26, zi_30, zi_31, zi_32, zi_34, zi_38, zi_59, zi_60, zi_61, zi_63, zi_64, zi_80, zi_96, zi_97, zi_99, zi_100, zi_122, zi_255, zi_256, zi_300, zi_398, zi_406, zi_900, zi_1000, zi_1024, zi_1624, zi_1662, zi_2030, zi_2031, zi_2068, zi_2258, zi_9999, zi_48, zi_57, zi_65536, zi_3257, zi_11483, zi_1000000, zi_729, zi_81, zi_m1, nI_add, pk_mul, nI_ltI, nI_leI, nI_eq, nI_clamp, zn_in, zn_sub1lt, zn_M, zn_Ml, zn_Mg, zn_Mle, zn_Mge, zn_sub, Nat.reduceAdd, Nat.reduceMul, forall_eq, true_imp_iff, false_imp_iff, and_true, true_and, not_true_eq_false, not_false_eq_true, reduceCtorEq, imp_self, eq_self, false_and, and_false, implies_true]
      repeat' (first | omega | with_reducible refine And.intro ?_ ?_ | with_reducible intro g)
      all_goals exact K _ _ (y.st _) (am_u2_at _ _ _ _) (fy_M.st _) fy_ML.rfl
  refine ⟨nI (q 3), 0, tm, ts, tv_cells q tv (ts t) t (q 3), ok, ?_, ?_⟩
  · intro c d I L R hcd h hc hz y Q K
    simp (disch := omega) only [wp_U_copyCells, wp_U_trayStatus, wp_Tray_isMissing, wp_U_isTray, wp_U_within, wp_U_refused, hc, h.n3, y.r ht, y.so ht g1, y.mn ht g1, zi_0, zi_1, zi_2, zi_3, zi_4, zi_5, zi_6, zi_7, zi_8, zi_9, zi_10, zi_11, zi_12, zi_13, zi_14, zi_15, zi_16, zi_17, zi_18, zi_19, zi_20, zi_21, zi_22, zi_23, zi_24, zi_25, zi_26, zi_30, zi_31, zi_32, zi_34, zi_38, zi_59, zi_60, zi_61, zi_63, zi_64, zi_80, zi_96, zi_97, zi_99, zi_100, zi_122, zi_255, zi_256, zi_300, zi_398, zi_406, zi_900, zi_1000, zi_1024, zi_1624, zi_1662, zi_2030, zi_2031, zi_2068, zi_2258, zi_9999, zi_48, zi_57, zi_65536, zi_3257, zi_11483, zi_1000000, zi_729, zi_81, zi_m1, nI_add, pk_mul, nI_ltI, nI_leI, nI_eq, nI_clamp, zn_in, zn_sub1lt, zn_M, zn_Ml, zn_Mg, zn_Mle, zn_Mge, zn_sub, Nat.reduceAdd, Nat.reduceMul, forall_eq, true_imp_iff, false_imp_iff, and_true, true_and, not_true_eq_false, not_false_eq_true, reduceCtorEq, imp_self, eq_self, false_and, and_false, implies_true]
    repeat' (first | omega | with_reducible refine And.intro ?_ ?_ | with_reducible intro g)
    refine (zl_up (P := fun f m => ∀ L1, tr_U tm ts (tv_cells q tv (ts t) t m) I L1 R → (∀ r, ¬ (59 ≤ r ∧ r ≤ 66) → L1 r = L r) → wl_U_copyCells_25 R 0 (nI t) Q f I L1 (nI m)) (q 3) (fun f L1 y1 f1 => ?_) (fun f m hm ih L1 y1 f1 => ?_) 0 (by omega)).elim fun z hz => ⟨z, hz L y (fun _ _ => rfl)⟩
    · simp (disch := omega) only [wl_U_copyCells_25, wp_U_answered, hc, h.n3, zi_0, zi_1, zi_2, zi_3, zi_4, zi_5, zi_6, zi_7, zi_8, zi_9, zi_10, zi_11, zi_12, zi_13, zi_14, zi_15, zi_16, zi_17, zi_18, zi_19, zi_20, zi_21, zi_22, zi_23, zi_24, zi_25, zi_26, zi_30, zi_31, zi_32, zi_34, zi_38, zi_59, zi_60, zi_61, zi_63, zi_64, zi_80, zi_96, zi_97, zi_99, zi_100, zi_122, zi_255, zi_256, zi_300, zi_398, zi_406, zi_900, zi_1000, zi_1024, zi_1624, zi_1662, zi_2030, zi_2031, zi_2068, zi_2258, zi_9999, zi_48, zi_57, zi_65536, zi_3257, zi_11483, zi_1000000, zi_729, zi_81, zi_m1, nI_add, pk_mul, nI_ltI, nI_leI, nI_eq, nI_clamp, zn_in, zn_sub1lt, zn_M, zn_Ml, zn_Mg, zn_Mle, zn_Mge, zn_sub, Nat.reduceAdd, Nat.reduceMul, forall_eq, true_imp_iff, false_imp_iff, and_true, true_and, not_true_eq_false, not_false_eq_true, reduceCtorEq, imp_self, eq_self, false_and, and_false, implies_true]
      refine ⟨fun _ => ?_, fun g => absurd (Nat.le_refl _) g⟩
      exact K _ _ (y1.st _) (am_u2_at _ _ _ _) (fy_U.st _) f1
    · simp (disch := omega) only [wl_U_copyCells_25, wp_Tray_put, wp_U_within, hc, h.n3, h.at hm, y1.r ht, zi_0, zi_1, zi_2, zi_3, zi_4, zi_5, zi_6, zi_7, zi_8, zi_9, zi_10, zi_11, zi_12, zi_13, zi_14, zi_15, zi_16, zi_17, zi_18, zi_19, zi_20, zi_21, zi_22, zi_23, zi_24, zi_25, zi_26, zi_30, zi_31, zi_32, zi_34, zi_38, zi_59, zi_60, zi_61, zi_63, zi_64, zi_80, zi_96, zi_97, zi_99, zi_100, zi_122, zi_255, zi_256, zi_300, zi_398, zi_406, zi_900, zi_1000, zi_1024, zi_1624, zi_1662, zi_2030, zi_2031, zi_2068, zi_2258, zi_9999, zi_48, zi_57, zi_65536, zi_3257, zi_11483, zi_1000000, zi_729, zi_81, zi_m1, nI_add, pk_mul, nI_ltI, nI_leI, nI_eq, nI_clamp, zn_in, zn_sub1lt, zn_M, zn_Ml, zn_Mg, zn_Mle, zn_Mge, zn_sub, Nat.reduceAdd, Nat.reduceMul, forall_eq, true_imp_iff, false_imp_iff, and_true, true_and, not_true_eq_false, not_false_eq_true, reduceCtorEq, imp_self, eq_self, false_and, and_false, implies_true]
      refine ⟨fun g => absurd g (by omega), fun _ => ⟨by omega, by omega, fun g => absurd g (by omega), fun _ => ⟨fun g => absurd g (by omega), fun _ => su_cut (s := ts t) (by omega) (y1.so ht g1) ?_⟩⟩⟩
      try simp (disch := omega) only [zi_0, zi_1, zi_2, zi_3, zi_4, zi_5, zi_6, zi_7, zi_8, zi_9, zi_10, zi_11, zi_12, zi_13, zi_14, zi_15, zi_16, zi_17, zi_18, zi_19, zi_20, zi_21, zi_22, zi_23, zi_24, zi_25, zi_26, zi_30, zi_31, zi_32, zi_34, zi_38, zi_59, zi_60, zi_61, zi_63, zi_64, zi_80, zi_96, zi_97, zi_99, zi_100, zi_122, zi_255, zi_256, zi_300, zi_398, zi_406, zi_900, zi_1000, zi_1024, zi_1624, zi_1662, zi_2030, zi_2031, zi_2068, zi_2258, zi_9999, zi_48, zi_57, zi_65536, zi_3257, zi_11483, zi_1000000, zi_729, zi_81, zi_m1, nI_add, pk_mul, nI_ltI, nI_leI, nI_eq, nI_clamp, zn_in, zn_sub1lt, zn_M, zn_Ml, zn_Mg, zn_Mle, zn_Mge, zn_sub, Nat.reduceAdd, Nat.reduceMul, forall_eq, true_imp_iff, false_imp_iff, and_true, true_and, not_true_eq_false, not_false_eq_true, reduceCtorEq, imp_self, eq_self, false_and, and_false, implies_true]
      refine ⟨by omega, ih _ (y1.put ht _) (fun r hr => ?_)⟩
      rw [am_u2_row _ _ _ _ (by omega)]; exact f1 r hr
  · intro I L R h y Q K
    simp (disch := omega) only [wp_M_copyCells, wp_M_isTray, wp_M_refuse, h.n3, y.mn ht g1, y.so ht g1, zi_0, zi_1, zi_2, zi_3, zi_4, zi_5, zi_6, zi_7, zi_8, zi_9, zi_10, zi_11, zi_12, zi_13, zi_14, zi_15, zi_16, zi_17, zi_18, zi_19, zi_20, zi_21, zi_22, zi_23, zi_24, zi_25, zi_26, zi_30, zi_31, zi_32, zi_34, zi_38, zi_59, zi_60, zi_61, zi_63, zi_64, zi_80, zi_96, zi_97, zi_99, zi_100, zi_122, zi_255, zi_256, zi_300, zi_398, zi_406, zi_900, zi_1000, zi_1024, zi_1624, zi_1662, zi_2030, zi_2031, zi_2068, zi_2258, zi_9999, zi_48, zi_57, zi_65536, zi_3257, zi_11483, zi_1000000, zi_729, zi_81, zi_m1, nI_add, pk_mul, nI_ltI, nI_leI, nI_eq, nI_clamp, zn_in, zn_sub1lt, zn_M, zn_Ml, zn_Mg, zn_Mle, zn_Mge, zn_sub, Nat.reduceAdd, Nat.reduceMul, forall_eq, true_imp_iff, false_imp_iff, and_true, true_and, not_true_eq_false, not_false_eq_true, reduceCtorEq, imp_self, eq_self, false_and, and_false, implies_true]
    repeat' (first | omega | with_reducible refine And.intro ?_ ?_ | with_reducible intro g)
    refine (zl_up (P := fun f m => ∀ L1, tr_M tm ts (tv_cells q tv (ts t) t m) I L1 → (∀ r, r ≠ 108 → L1 r = L r) → wl_M_copyCells_52 R 103 (nI t) Q f I L1 (nI m)) (q 3) (fun f L1 y1 f1 => ?_) (fun f m hm ih L1 y1 f1 => ?_) 0 (by omega)).elim fun z hz => ⟨z, hz L y (fun _ _ => rfl)⟩
    · simp (disch := omega) only [wl_M_copyCells_52, wp_M_gives, h.n3, zi_0, zi_1, zi_2, zi_3, zi_4, zi_5, zi_6, zi_7, zi_8, zi_9, zi_10, zi_11, zi_12, zi_13, zi_14, zi_15, zi_16, zi_17, zi_18, zi_19, zi_20, zi_21, zi_22, zi_23, zi_24, zi_25, zi_26, zi_30, zi_31, zi_32, zi_34, zi_38, zi_59, zi_60, zi_61, zi_63, zi_64, zi_80, zi_96, zi_97, zi_99, zi_100, zi_122, zi_255, zi_256, zi_300, zi_398, zi_406, zi_900, zi_1000, zi_1024, zi_1624, zi_1662, zi_2030, zi_2031, zi_2068, zi_2258, zi_9999, zi_48, zi_57, zi_65536, zi_3257, zi_11483, zi_1000000, zi_729, zi_81, zi_m1, nI_add, pk_mul, nI_ltI, nI_leI, nI_eq, nI_clamp, zn_in, zn_sub1lt, zn_M, zn_Ml, zn_Mg, zn_Mle, zn_Mge, zn_sub, Nat.reduceAdd, Nat.reduceMul, forall_eq, true_imp_iff, false_imp_iff, and_true, true_and, not_true_eq_false, not_false_eq_true, reduceCtorEq, imp_self, eq_self, false_and, and_false, implies_true]
      refine ⟨fun _ => ?_, fun g => absurd (Nat.le_refl _) g⟩
      exact K _ _ (y1.st _) (am_u2_at _ _ _ _) (fy_M.st _) f1
    · have h1 : sq_M q 0 I L1 := h.keep (fun _ _ _ => rfl) (f1 105 (by omega)) okq.2.2.2.2.1
      simp (disch := omega) only [wl_M_copyCells_52, h.n3, zi_0, zi_1, zi_2, zi_3, zi_4, zi_5, zi_6, zi_7, zi_8, zi_9, zi_10, zi_11, zi_12, zi_13, zi_14, zi_15, zi_16, zi_17, zi_18, zi_19, zi_20, zi_21, zi_22, zi_23, zi_24, zi_25, zi_26, zi_30, zi_31, zi_32, zi_34, zi_38, zi_59, zi_60, zi_61, zi_63, zi_64, zi_80, zi_96, zi_97, zi_99, zi_100, zi_122, zi_255, zi_256, zi_300, zi_398, zi_406, zi_900, zi_1000, zi_1024, zi_1624, zi_1662, zi_2030, zi_2031, zi_2068, zi_2258, zi_9999, zi_48, zi_57, zi_65536, zi_3257, zi_11483, zi_1000000, zi_729, zi_81, zi_m1, nI_add, pk_mul, nI_ltI, nI_leI, nI_eq, nI_clamp, zn_in, zn_sub1lt, zn_M, zn_Ml, zn_Mg, zn_Mle, zn_Mge, zn_sub, Nat.reduceAdd, Nat.reduceMul, forall_eq, true_imp_iff, false_imp_iff, and_true, true_and, not_true_eq_false, not_false_eq_true, reduceCtorEq, imp_self, eq_self, false_and, and_false, implies_true]
      refine ⟨fun g => absurd g (by omega), fun _ => sm_hearerOf h1 (by omega) (by omega) ?_⟩
      simp (disch := omega) only [y1.so ht g1, Nat.add_zero, zi_0, zi_1, zi_2, zi_3, zi_4, zi_5, zi_6, zi_7, zi_8, zi_9, zi_10, zi_11, zi_12, zi_13, zi_14, zi_15, zi_16, zi_17, zi_18, zi_19, zi_20, zi_21, zi_22, zi_23, zi_24, zi_25, zi_26, zi_30, zi_31, zi_32, zi_34, zi_38, zi_59, zi_60, zi_61, zi_63, zi_64, zi_80, zi_96, zi_97, zi_99, zi_100, zi_122, zi_255, zi_256, zi_300, zi_398, zi_406, zi_900, zi_1000, zi_1024, zi_1624, zi_1662, zi_2030, zi_2031, zi_2068, zi_2258, zi_9999, zi_48, zi_57, zi_65536, zi_3257, zi_11483, zi_1000000, zi_729, zi_81, zi_m1, nI_add, pk_mul, nI_ltI, nI_leI, nI_eq, nI_clamp, zn_in, zn_sub1lt, zn_M, zn_Ml, zn_Mg, zn_Mle, zn_Mge, zn_sub, Nat.reduceAdd, Nat.reduceMul, forall_eq, true_imp_iff, false_imp_iff, and_true, true_and, not_true_eq_false, not_false_eq_true, reduceCtorEq, imp_self, eq_self, false_and, and_false, implies_true]
      refine ⟨by omega, sm_cut (s := ts t) (by omega) ?_⟩
      try simp (disch := omega) only [zi_0, zi_1, zi_2, zi_3, zi_4, zi_5, zi_6, zi_7, zi_8, zi_9, zi_10, zi_11, zi_12, zi_13, zi_14, zi_15, zi_16, zi_17, zi_18, zi_19, zi_20, zi_21, zi_22, zi_23, zi_24, zi_25, zi_26, zi_30, zi_31, zi_32, zi_34, zi_38, zi_59, zi_60, zi_61, zi_63, zi_64, zi_80, zi_96, zi_97, zi_99, zi_100, zi_122, zi_255, zi_256, zi_300, zi_398, zi_406, zi_900, zi_1000, zi_1024, zi_1624, zi_1662, zi_2030, zi_2031, zi_2068, zi_2258, zi_9999, zi_48, zi_57, zi_65536, zi_3257, zi_11483, zi_1000000, zi_729, zi_81, zi_m1, nI_add, pk_mul, nI_ltI, nI_leI, nI_eq, nI_clamp, zn_in, zn_sub1lt, zn_M, zn_Ml, zn_Mg, zn_Mle, zn_Mge, zn_sub, Nat.reduceAdd, Nat.reduceMul, forall_eq, true_imp_iff, false_imp_iff, and_true, true_and, not_true_eq_false, not_false_eq_true, reduceCtorEq, imp_self, eq_self, false_and, and_false, implies_true]
      refine ⟨by omega, ih _ (y1.put ht (by omega) _ ok) (fun r hr => ?_)⟩
      rw [am_u2_row _ _ _ _ hr]; exact f1 r hr
/-! the tape -/
def tp_U (n : Nat) (b : Nat → Int32) (I : am_TI) : Prop := I 2 7 = nI n ∧ ∀ i, i < n → I 3 i = b i
def tp_M (n : Nat) (b : Nat → Int32) (I : am_TI) : Prop := I 103 10 = nI n ∧ ∀ i, i < n → I 109 i = b i
def tp_b (b : Nat → Int32) (n : Nat) (p : Int32) (j : Nat) : Nat → Int32 := fun i => if n ≤ i ∧ i < n + j then vp_nar .byte (Int8.toInt32 (Int32.toInt8 (p >>> (nI (24 - 8 * (i - n)) &&& nI 31)))) else b i
theorem zn_m8 : ∀ j, j < 4 → nI (24 - 8 * j) + -8 = if j = 3 then nI 8 * nM else nI (24 - 8 * (j + 1)) := by decide +kernel
theorem su_append {n : Nat} {b : Nat → Int32} (h : tp_U n b I) (hn : n + 4 ≤ 900) {p : Int32} {Q : am_TI → Prop} (k : ∀ I1, tp_U (n + 4) (tp_b b n p 4) I1 → (∀ r s, ¬ (r = 2 ∧ s = 7) → r ≠ 3 → I1 r s = I r s) → Q I1) : wp_Tokens_append I L R 2 p Q := by
  have go : ∀ j, j ≤ 4 → ∀ I1, tp_U (n + (4 - j)) (tp_b b n p (4 - j)) I1 → (∀ r s, ¬ (r = 2 ∧ s = 7) → r ≠ 3 → I1 r s = I r s) → wl_Tokens_append_3 L R 2 p Q (j + 1) I1 (if j = 0 then nI 8 * nM else nI (24 - 8 * (4 - j))) := by
    intro j
    induction j with
    | zero =>
      intro _ I1 t f
      rw [if_pos rfl, wl_Tokens_append_3]
      exact ⟨fun _ => k I1 t f, fun g => absurd (by decide) g⟩
    | succ j ih =>
      intro hj I1 t f
      have z8 := zn_m8 (4 - (j + 1)) (by omega)
      rw [if_neg (by omega), wl_Tokens_append_3]
      simp (disch := omega) only [t.1, am_u2_ne, am_u2o, zi_0, zi_1, zi_2, zi_3, zi_4, zi_5, zi_6, zi_7, zi_8, zi_9, zi_10, zi_11, zi_12, zi_13, zi_14, zi_15, zi_16, zi_17, zi_18, zi_19, zi_20, zi_21, zi_22, zi_23, zi_24, zi_25, zi_26, zi_30, zi_31, zi_32, zi_34, zi_38, zi_59, zi_60, zi_61, zi_63, zi_64, zi_80, zi_96, zi_97, zi_99, zi_100, zi_122, zi_255, zi_256, zi_300, zi_398, zi_406, zi_900, zi_1000, zi_1024, zi_1624, zi_1662, zi_2030, zi_2031, zi_2068, zi_2258, zi_9999, zi_48, zi_57, zi_65536, zi_3257, zi_11483, zi_1000000, zi_729, zi_81, zi_m1, nI_add, pk_mul, nI_ltI, nI_leI, nI_eq, nI_clamp, zn_in, zn_sub1lt, zn_M, zn_Ml, zn_Mg, zn_Mle, zn_Mge, zn_sub, Nat.reduceAdd, Nat.reduceMul, forall_eq, true_imp_iff, false_imp_iff, and_true, true_and, not_true_eq_false, not_false_eq_true, reduceCtorEq, imp_self, eq_self, false_and, and_false, implies_true]
      simp only [zi_8] at z8
      have z9 : (if 4 - (j + 1) = 3 then nI 8 * nM else nI (24 - 8 * (4 - (j + 1) + 1))) = if j = 0 then nI 8 * nM else nI (24 - 8 * (4 - j)) := by
        by_cases e : j = 0
        · rw [if_pos (by omega), if_pos e]
        · rw [if_neg (by omega), if_neg e, show 4 - (j + 1) + 1 = 4 - j by omega]
      rw [z8, z9]
      refine ⟨fun g => absurd g (by omega), fun _ => ⟨fun g => absurd g (by omega), fun _ => ⟨by omega, ?_⟩⟩⟩
      refine ih (by omega) _ ⟨?_, fun i hi => ?_⟩ (fun r s g1 g2 => ?_)
      · rw [am_u2_at]; congr 1; omega
      · rw [am_u2o (by omega)]
        unfold tp_b
        by_cases e : i = n + (4 - (j + 1))
        · rw [e, am_u2_at, if_pos (by omega), show n + (4 - (j + 1)) - n = 4 - (j + 1) by omega]
        · have := t.2 i (by omega)
          rw [am_u2_ne _ _ _ _ e, this]
          unfold tp_b
          by_cases g : n ≤ i ∧ i < n + (4 - (j + 1))
          · rw [if_pos g, if_pos (by omega)]
          · rw [if_neg g, if_neg (by omega)]
      · unfold am_u2
        rw [if_neg g1, if_neg (fun z => g2 z.1)]; exact f r s g1 g2
  refine ⟨5, go 4 (by omega) I ⟨by simpa using h.1, fun i hi => ?_⟩ (fun _ _ _ _ => rfl)⟩
  rw [h.2 i (by omega)]
  unfold tp_b
  rw [if_neg (by omega)]
theorem sm_four {n : Nat} {b : Nat → Int32} (h : tp_M n b I) (hn : n + 4 ≤ 900) {p : Int32} {Q : am_TI → Prop} (k : ∀ I1, tp_M (n + 4) (tp_b b n p 4) I1 → (∀ r s, ¬ (r = 103 ∧ s = 10) → r ≠ 109 → I1 r s = I r s) → Q I1) : wp_M_four I L R 103 p Q := by
  have go : ∀ j, j ≤ 4 → ∀ I1, tp_M (n + (4 - j)) (tp_b b n p (4 - j)) I1 → (∀ r s, ¬ (r = 103 ∧ s = 10) → r ≠ 109 → I1 r s = I r s) → wl_M_four_3 L R 103 p Q (j + 1) I1 (if j = 0 then nI 8 * nM else nI (24 - 8 * (4 - j))) := by
    intro j
    induction j with
    | zero =>
      intro _ I1 t f
      rw [if_pos rfl, wl_M_four_3]
      exact ⟨fun _ => k I1 t f, fun g => absurd (by decide) g⟩
    | succ j ih =>
      intro hj I1 t f
      have z8 := zn_m8 (4 - (j + 1)) (by omega)
      rw [if_neg (by omega), wl_M_four_3]
      simp (disch := omega) only [t.1, am_u2_ne, am_u2o, zi_0, zi_1, zi_2, zi_3, zi_4, zi_5, zi_6, zi_7, zi_8, zi_9, zi_10, zi_11, zi_12, zi_13, zi_14, zi_15, zi_16, zi_17, zi_18, zi_19, zi_20, zi_21, zi_22, zi_23, zi_24, zi_25, zi_26, zi_30, zi_31, zi_32, zi_34, zi_38, zi_59, zi_60, zi_61, zi_63, zi_64, zi_80, zi_96, zi_97, zi_99, zi_100, zi_122, zi_255, zi_256, zi_300, zi_398, zi_406, zi_900, zi_1000, zi_1024, zi_1624, zi_1662, zi_2030, zi_2031, zi_2068, zi_2258, zi_9999, zi_48, zi_57, zi_65536, zi_3257, zi_11483, zi_1000000, zi_729, zi_81, zi_m1, nI_add, pk_mul, nI_ltI, nI_leI, nI_eq, nI_clamp, zn_in, zn_sub1lt, zn_M, zn_Ml, zn_Mg, zn_Mle, zn_Mge, zn_sub, Nat.reduceAdd, Nat.reduceMul, forall_eq, true_imp_iff, false_imp_iff, and_true, true_and, not_true_eq_false, not_false_eq_true, reduceCtorEq, imp_self, eq_self, false_and, and_false, implies_true]
      simp only [zi_8] at z8
      have z9 : (if 4 - (j + 1) = 3 then nI 8 * nM else nI (24 - 8 * (4 - (j + 1) + 1))) = if j = 0 then nI 8 * nM else nI (24 - 8 * (4 - j)) := by
        by_cases e : j = 0
        · rw [if_pos (by omega), if_pos e]
        · rw [if_neg (by omega), if_neg e, show 4 - (j + 1) + 1 = 4 - j by omega]
      rw [z8, z9]
      refine ⟨fun g => absurd g (by omega), fun _ => ⟨by omega, ?_⟩⟩
      refine ih (by omega) _ ⟨?_, fun i hi => ?_⟩ (fun r s g1 g2 => ?_)
      · rw [am_u2_at]; congr 1; omega
      · rw [am_u2o (by omega)]
        unfold tp_b
        by_cases e : i = n + (4 - (j + 1))
        · rw [e, am_u2_at, if_pos (by omega), show n + (4 - (j + 1)) - n = 4 - (j + 1) by omega]
        · have := t.2 i (by omega)
          rw [am_u2_ne _ _ _ _ e, this]
          unfold tp_b
          by_cases g : n ≤ i ∧ i < n + (4 - (j + 1))
          · rw [if_pos g, if_pos (by omega)]
          · rw [if_neg g, if_neg (by omega)]
      · unfold am_u2
        rw [if_neg g1, if_neg (fun z => g2 z.1)]; exact f r s g1 g2
  refine ⟨5, go 4 (by omega) I ⟨by simpa using h.1, fun i hi => ?_⟩ (fun _ _ _ _ => rfl)⟩
  rw [h.2 i (by omega)]
  unfold tp_b
  rw [if_neg (by omega)]
/-- both answer alike: feed -/
theorem op_feed {n : Nat} {b : Nat → Int32} (hn : n ≤ 900) (p1 p2 p3 p4 p5 : Int32) : ∃ (ans : Int32) (n' : Nat) (b' : Nat → Int32), n' ≤ 900 ∧
    (∀ I L R, tp_U n b I → ∀ Q : Int32 → am_TI → Prop, (∀ I1, tp_U n' b' I1 → (∀ r s, ¬ (r = 2 ∧ s = 7) → r ≠ 3 → I1 r s = I r s) → Q ans I1) → wp_U_feed I L R 0 p1 p2 p3 p4 p5 Q) ∧
    (∀ I L R, tp_M n b I → ∀ Q : Int32 → am_TI → Prop, (∀ I1, tp_M n' b' I1 → (∀ r s, ¬ (r = 103 ∧ s = 10) → r ≠ 109 → I1 r s = I r s) → Q ans I1) → wp_M_feed I L R 103 p1 p2 p3 p4 p5 Q) := by
  by_cases g : 880 < n
  · refine ⟨nM, n, b, hn, ?_, ?_⟩
    · intro I L R h Q K
      have e880 : (880 : Int32) = nI 880 := rfl
      simp (disch := omega) only [wp_U_feed, wp_Tokens_hasRoom, h.1, e880, zi_0, zi_1, zi_2, zi_3, zi_4, zi_5, zi_6, zi_7, zi_8, zi_9, zi_10, zi_11, zi_12, zi_13, zi_14, zi_15, zi_16, zi_17, zi_18, zi_19, zi_20, zi_21, zi_22, zi_23, zi_24, zi_25, zi_26, zi_30, zi_31, zi_32, zi_34, zi_38, zi_59, zi_60, zi_61, zi_63, zi_64, zi_80, zi_96, zi_97, zi_99, zi_100, zi_122, zi_255, zi_256, zi_300, zi_398, zi_406, zi_900, zi_1000, zi_1024, zi_1624, zi_1662, zi_2030, zi_2031, zi_2068, zi_2258, zi_9999, zi_48, zi_57, zi_65536, zi_3257, zi_11483, zi_1000000, zi_729, zi_81, zi_m1, nI_add, pk_mul, nI_ltI, nI_leI, nI_eq, nI_clamp, zn_in, zn_sub1lt, zn_M, zn_Ml, zn_Mg, zn_Mle, zn_Mge, zn_sub, Nat.reduceAdd, Nat.reduceMul, forall_eq, true_imp_iff, false_imp_iff, and_true, true_and, not_true_eq_false, not_false_eq_true, reduceCtorEq, imp_self, eq_self, false_and, and_false, implies_true]
      refine ⟨fun _ => K I h (fun _ _ _ _ => rfl), fun g1 => absurd g g1⟩
    · intro I L R h Q K
      simp (disch := omega) only [wp_M_feed, h.1, zi_0, zi_1, zi_2, zi_3, zi_4, zi_5, zi_6, zi_7, zi_8, zi_9, zi_10, zi_11, zi_12, zi_13, zi_14, zi_15, zi_16, zi_17, zi_18, zi_19, zi_20, zi_21, zi_22, zi_23, zi_24, zi_25, zi_26, zi_30, zi_31, zi_32, zi_34, zi_38, zi_59, zi_60, zi_61, zi_63, zi_64, zi_80, zi_96, zi_97, zi_99, zi_100, zi_122, zi_255, zi_256, zi_300, zi_398, zi_406, zi_900, zi_1000, zi_1024, zi_1624, zi_1662, zi_2030, zi_2031, zi_2068, zi_2258, zi_9999, zi_48, zi_57, zi_65536, zi_3257, zi_11483, zi_1000000, zi_729, zi_81, zi_m1, nI_add, pk_mul, nI_ltI, nI_leI, nI_eq, nI_clamp, zn_in, zn_sub1lt, zn_M, zn_Ml, zn_Mg, zn_Mle, zn_Mge, zn_sub, Nat.reduceAdd, Nat.reduceMul, forall_eq, true_imp_iff, false_imp_iff, and_true, true_and, not_true_eq_false, not_false_eq_true, reduceCtorEq, imp_self, eq_self, false_and, and_false, implies_true]
      refine ⟨fun g1 => absurd g1 (by omega), fun _ => K I h (fun _ _ _ _ => rfl)⟩
  · refine ⟨nI (n + 20), n + 20, tp_b (tp_b (tp_b (tp_b (tp_b b n p1 4) (n + 4) p2 4) (n + 8) p3 4) (n + 12) p4 4) (n + 16) p5 4, by omega, ?_, ?_⟩
    · intro I L R h Q K
      have e880 : (880 : Int32) = nI 880 := rfl
      simp (disch := omega) only [wp_U_feed, wp_Tokens_hasRoom, h.1, e880, zi_0, zi_1, zi_2, zi_3, zi_4, zi_5, zi_6, zi_7, zi_8, zi_9, zi_10, zi_11, zi_12, zi_13, zi_14, zi_15, zi_16, zi_17, zi_18, zi_19, zi_20, zi_21, zi_22, zi_23, zi_24, zi_25, zi_26, zi_30, zi_31, zi_32, zi_34, zi_38, zi_59, zi_60, zi_61, zi_63, zi_64, zi_80, zi_96, zi_97, zi_99, zi_100, zi_122, zi_255, zi_256, zi_300, zi_398, zi_406, zi_900, zi_1000, zi_1024, zi_1624, zi_1662, zi_2030, zi_2031, zi_2068, zi_2258, zi_9999, zi_48, zi_57, zi_65536, zi_3257, zi_11483, zi_1000000, zi_729, zi_81, zi_m1, nI_add, pk_mul, nI_ltI, nI_leI, nI_eq, nI_clamp, zn_in, zn_sub1lt, zn_M, zn_Ml, zn_Mg, zn_Mle, zn_Mge, zn_sub, Nat.reduceAdd, Nat.reduceMul, forall_eq, true_imp_iff, false_imp_iff, and_true, true_and, not_true_eq_false, not_false_eq_true, reduceCtorEq, imp_self, eq_self, false_and, and_false, implies_true]
      refine ⟨fun g1 => absurd g1 g, fun _ => ?_⟩
      refine su_append h (by omega) (fun I1 h1 f1 => su_append h1 (by omega) (fun I2 h2 f2 => su_append h2 (by omega) (fun I3 h3 f3 => su_append h3 (by omega) (fun I4 h4 f4 => su_append h4 (by omega) (fun I5 h5 f5 => ?_)))))
      rw [h5.1]
      refine K I5 h5 (fun r s a b => ?_)
      rw [f5 r s a b, f4 r s a b, f3 r s a b, f2 r s a b, f1 r s a b]
    · intro I L R h Q K
      simp (disch := omega) only [wp_M_feed, h.1, zi_0, zi_1, zi_2, zi_3, zi_4, zi_5, zi_6, zi_7, zi_8, zi_9, zi_10, zi_11, zi_12, zi_13, zi_14, zi_15, zi_16, zi_17, zi_18, zi_19, zi_20, zi_21, zi_22, zi_23, zi_24, zi_25, zi_26, zi_30, zi_31, zi_32, zi_34, zi_38, zi_59, zi_60, zi_61, zi_63, zi_64, zi_80, zi_96, zi_97, zi_99, zi_100, zi_122, zi_255, zi_256, zi_300, zi_398, zi_406, zi_900, zi_1000, zi_1024, zi_1624, zi_1662, zi_2030, zi_2031, zi_2068, zi_2258, zi_9999, zi_48, zi_57, zi_65536, zi_3257, zi_11483, zi_1000000, zi_729, zi_81, zi_m1, nI_add, pk_mul, nI_ltI, nI_leI, nI_eq, nI_clamp, zn_in, zn_sub1lt, zn_M, zn_Ml, zn_Mg, zn_Mle, zn_Mge, zn_sub, Nat.reduceAdd, Nat.reduceMul, forall_eq, true_imp_iff, false_imp_iff, and_true, true_and, not_true_eq_false, not_false_eq_true, reduceCtorEq, imp_self, eq_self, false_and, and_false, implies_true]
      refine ⟨fun _ => ?_, fun g1 => absurd (by omega) g1⟩
      refine sm_four h (by omega) (fun I1 h1 f1 => sm_four h1 (by omega) (fun I2 h2 f2 => sm_four h2 (by omega) (fun I3 h3 f3 => sm_four h3 (by omega) (fun I4 h4 f4 => sm_four h4 (by omega) (fun I5 h5 f5 => ?_)))))
      rw [h5.1]
      refine K I5 h5 (fun r s a b => ?_)
      rw [f5 r s a b, f4 r s a b, f3 r s a b, f2 r s a b, f1 r s a b]
end
