/-! reads of the square, both sides -/
/-- hearers who are so near to a cell -/
def sq_near (q : Nat → Nat) (x r : Nat) : Nat := zs_bs (fun h => decide (sq_far (q 0) (q (10 + 4 * h)) x ≤ r)) (q 3)
def sq_likers (q : Nat → Nat) (t : Nat) : Nat := zs_bs (fun h => (q (11 + 4 * h)).testBit t) (q 3)
def sq_dogsBy (q : Nat → Nat) (x : Nat) : Nat := zs_bs (fun k => decide (sq_far (q 0) (q (34 + k)) x ≤ 1)) (q 4)
def sq_isUp (q : Nat → Nat) (k : Nat) : Bool := decide (sq_near q (q (34 + k)) 1 ≠ 0)
def sq_dogsUp (q : Nat → Nat) : Nat := zs_bs (sq_isUp q) (q 4)
section
variable {q : Nat → Nat} {c d : Nat} {I I1 : am_TI} {L : am_TL} {R : am_TR}
theorem sq_Ok.lk31 (ok : sq_Ok q) {h : Nat} (hh : h < q 3) : q (11 + 4 * h) < 64 := by
  have := (ok.2.1 h hh).2.1
  have h2 : (2 : Nat) ^ q 2 ≤ 2 ^ 6 := Nat.pow_le_pow_right (by decide) ok.1.2.2.1.1
  omega
theorem su_far (h : sq_U q c d I L) (ok : sq_Ok q) {x y : Nat} (hx : x < 25) (hy : y < 25) {Q : Int32 → Prop} (k : Q (nI (sq_far (q 0) x y))) : wp_Square_far I L R c (nI x) (nI y) Q := by
  have o := ok.1.1
  have e := (sq_farU (q 0) (by omega) x hx y hy).resolve_right (by omega)
  unfold wp_Square_far
  rw [h.n0]
  have n0 := nI_ne0 (n := q 0) (by omega) (by omega)
  refine ⟨fun _ => ⟨n0, n0, n0, n0, ?_⟩, fun g => absurd ((nI_ltI (a := 0) (by omega) (by omega)).mpr (by omega)) g⟩
  rw [e]; exact k
theorem sm_far (h : sq_M q 0 I L) (ok : sq_Ok q) {x y : Nat} (hx : x < 25) (hy : y < 25) {Q : Int32 → Prop} (k : Q (nI (sq_far (q 0) x y))) : wp_M_farBetween I L R 103 (nI x) (nI y) Q := by
  have o := ok.1.1
  have e := (sq_farM (q 0) (by omega) x hx y hy).resolve_right (by omega)
  unfold wp_M_farBetween
  simp only [Nat.reduceAdd]
  rw [h.n0]
  have n0 := nI_ne0 (n := q 0) (by omega) (by omega)
  refine ⟨n0, n0, n0, n0, ?_⟩
  rw [e]; exact k
theorem sq_Ok.at25 (ok : sq_Ok q) {h : Nat} (hh : h < q 3) : q (10 + 4 * h) < 25 := by
  have := (ok.2.1 h hh).1
  have := ok.cells
  omega
theorem sq_Ok.dg25 (ok : sq_Ok q) {h : Nat} (hh : h < q 4) : q (34 + h) < 25 := by
  have := ok.2.2.1 h hh
  have := ok.cells
  omega
theorem sq_Ok.or25 (ok : sq_Ok q) : q 6 < 25 := by
  have := ok.1.2.2.2.1
  have := ok.cells
  omega
theorem sq_Ok.far8 (ok : sq_Ok q) {x y : Nat} (hx : x < q 0 * q 1) (hy : y < q 0 * q 1) : sq_far (q 0) x y ≤ 8 := sq_far_le (q 0) (by have := ok.1.1; omega) (q 1) (by have := ok.1.2.1; omega) x hx y hy
theorem sq_Ok.far50 (ok : sq_Ok q) {x y : Nat} (hx : x < 25) (hy : y < 25) : sq_far (q 0) x y ≤ 50 := sq_far_le30 (q 0) (by have := ok.1.1; omega) x hx y hy
theorem su_near (h : sq_U q c d I L) (ok : sq_Ok q) {x r : Nat} (hx : x < 25) (hr : r < 1000) {Q : Int32 → Prop} (k : Q (nI (sq_near q x r))) : wp_Square_hearersNear I L R c (nI x) (nI r) Q := by
  have o := ok.1.2.2.1
  refine zl_up (P := fun f m => wl_Square_hearersNear_5 I L R c (nI x) (nI r) Q f (nI (zs_bs (fun h => decide (sq_far (q 0) (q (10 + 4 * h)) x ≤ r)) m)) (nI m)) (q 3) (fun f => ?_) (fun f m hm ih => ?_) 0 (by omega)
  · simp (disch := omega) only [wl_Square_hearersNear_5, h.n3, zi_0, zi_1, zi_2, zi_3, zi_4, zi_5, zi_6, zi_7, zi_8, zi_9, zi_10, zi_11, zi_12, zi_13, zi_14, zi_15, zi_16, zi_17, zi_18, zi_19, zi_20, zi_21, zi_22, zi_23, zi_24, zi_25, zi_26, zi_30, zi_31, zi_32, zi_34, zi_38, zi_59, zi_60, zi_61, zi_63, zi_64, zi_80, zi_96, zi_97, zi_99, zi_100, zi_122, zi_255, zi_256, zi_300, zi_398, zi_406, zi_900, zi_1000, zi_1024, zi_1624, zi_1662, zi_2030, zi_2031, zi_2068, zi_2258, zi_9999, zi_48, zi_57, zi_65536, zi_3257, zi_11483, zi_1000000, zi_729, zi_81, zi_m1, nI_add, pk_mul, nI_ltI, nI_leI, nI_eq, nI_clamp, zn_in, zn_sub1lt, zn_M, zn_Ml, zn_Mg, zn_Mle, zn_Mge, zn_sub, Nat.reduceAdd, Nat.reduceMul, forall_eq, true_imp_iff, false_imp_iff, and_true, true_and, not_true_eq_false, not_false_eq_true, reduceCtorEq, imp_self, eq_self, false_and, and_false, implies_true]
    exact ⟨fun _ => k, fun g => absurd (Nat.le_refl _) g⟩
  · simp (disch := omega) only [wl_Square_hearersNear_5, h.n3, zi_0, zi_1, zi_2, zi_3, zi_4, zi_5, zi_6, zi_7, zi_8, zi_9, zi_10, zi_11, zi_12, zi_13, zi_14, zi_15, zi_16, zi_17, zi_18, zi_19, zi_20, zi_21, zi_22, zi_23, zi_24, zi_25, zi_26, zi_30, zi_31, zi_32, zi_34, zi_38, zi_59, zi_60, zi_61, zi_63, zi_64, zi_80, zi_96, zi_97, zi_99, zi_100, zi_122, zi_255, zi_256, zi_300, zi_398, zi_406, zi_900, zi_1000, zi_1024, zi_1624, zi_1662, zi_2030, zi_2031, zi_2068, zi_2258, zi_9999, zi_48, zi_57, zi_65536, zi_3257, zi_11483, zi_1000000, zi_729, zi_81, zi_m1, nI_add, pk_mul, nI_ltI, nI_leI, nI_eq, nI_clamp, zn_in, zn_sub1lt, zn_M, zn_Ml, zn_Mg, zn_Mle, zn_Mge, zn_sub, Nat.reduceAdd, Nat.reduceMul, forall_eq, true_imp_iff, false_imp_iff, and_true, true_and, not_true_eq_false, not_false_eq_true, reduceCtorEq, imp_self, eq_self, false_and, and_false, implies_true]
    refine ⟨fun g => absurd g (by omega), fun _ => ⟨by omega, ?_⟩⟩
    rw [h.at hm]
    have f50 := ok.far50 (ok.at25 hm) hx
    refine su_far h ok (ok.at25 hm) hx ?_
    simp (disch := omega) only [zi_0, zi_1, zi_2, zi_3, zi_4, zi_5, zi_6, zi_7, zi_8, zi_9, zi_10, zi_11, zi_12, zi_13, zi_14, zi_15, zi_16, zi_17, zi_18, zi_19, zi_20, zi_21, zi_22, zi_23, zi_24, zi_25, zi_26, zi_30, zi_31, zi_32, zi_34, zi_38, zi_59, zi_60, zi_61, zi_63, zi_64, zi_80, zi_96, zi_97, zi_99, zi_100, zi_122, zi_255, zi_256, zi_300, zi_398, zi_406, zi_900, zi_1000, zi_1024, zi_1624, zi_1662, zi_2030, zi_2031, zi_2068, zi_2258, zi_9999, zi_48, zi_57, zi_65536, zi_3257, zi_11483, zi_1000000, zi_729, zi_81, zi_m1, nI_add, pk_mul, nI_ltI, nI_leI, nI_eq, nI_clamp, zn_in, zn_sub1lt, zn_M, zn_Ml, zn_Mg, zn_Mle, zn_Mge, zn_sub, Nat.reduceAdd, Nat.reduceMul, forall_eq, true_imp_iff, false_imp_iff, and_true, true_and, not_true_eq_false, not_false_eq_true, reduceCtorEq, imp_self, eq_self, false_and, and_false, implies_true]
    refine ⟨fun g => ?_, fun g => ?_⟩
    · rw [zs_no (by simpa using g)]; exact ih
    · rw [zn_yes (by simpa using g) (by omega)]; exact ih
theorem sm_hearerOf (h : sq_M q 0 I L) {m i : Nat} (hm : m < 6) (hi : i < 4) {Q : Int32 → Prop} (k : Q (nI (q (10 + 4 * m + i)))) : wp_M_hearerOf I L R 103 (nI m) (nI i) Q := by
  simp (disch := omega) only [wp_M_hearerOf, wp_M_hearerRow, zi_0, zi_1, zi_2, zi_3, zi_4, zi_5, zi_6, zi_7, zi_8, zi_9, zi_10, zi_11, zi_12, zi_13, zi_14, zi_15, zi_16, zi_17, zi_18, zi_19, zi_20, zi_21, zi_22, zi_23, zi_24, zi_25, zi_26, zi_30, zi_31, zi_32, zi_34, zi_38, zi_59, zi_60, zi_61, zi_63, zi_64, zi_80, zi_96, zi_97, zi_99, zi_100, zi_122, zi_255, zi_256, zi_300, zi_398, zi_406, zi_900, zi_1000, zi_1024, zi_1624, zi_1662, zi_2030, zi_2031, zi_2068, zi_2258, zi_9999, zi_48, zi_57, zi_65536, zi_3257, zi_11483, zi_1000000, zi_729, zi_81, zi_m1, nI_add, pk_mul, nI_ltI, nI_leI, nI_eq, nI_clamp, zn_in, zn_sub1lt, zn_M, zn_Ml, zn_Mg, zn_Mle, zn_Mge, zn_sub, Nat.reduceAdd, Nat.reduceMul, forall_eq, true_imp_iff, false_imp_iff, and_true, true_and, not_true_eq_false, not_false_eq_true, reduceCtorEq, imp_self, eq_self, false_and, and_false, implies_true]
  refine ⟨by omega, ?_⟩
  rw [h.nk (by omega) (by omega)]
  exact k
theorem sm_near (h : sq_M q 0 I L) (ok : sq_Ok q) {x r : Nat} (hx : x < 25) (hr : r < 1000) {Q : Int32 → Prop} (k : Q (nI (sq_near q x r))) : wp_M_hearersBy I L R 103 (nI x) (nI r) Q := by
  have o := ok.1.2.2.1
  refine zl_up (P := fun f m => wl_M_hearersBy_5 I L R 103 (nI x) (nI r) Q f (nI (zs_bs (fun h => decide (sq_far (q 0) (q (10 + 4 * h)) x ≤ r)) m)) (nI m)) (q 3) (fun f => ?_) (fun f m hm ih => ?_) 0 (by omega)
  · simp (disch := omega) only [wl_M_hearersBy_5, h.n3, zi_0, zi_1, zi_2, zi_3, zi_4, zi_5, zi_6, zi_7, zi_8, zi_9, zi_10, zi_11, zi_12, zi_13, zi_14, zi_15, zi_16, zi_17, zi_18, zi_19, zi_20, zi_21, zi_22, zi_23, zi_24, zi_25, zi_26, zi_30, zi_31, zi_32, zi_34, zi_38, zi_59, zi_60, zi_61, zi_63, zi_64, zi_80, zi_96, zi_97, zi_99, zi_100, zi_122, zi_255, zi_256, zi_300, zi_398, zi_406, zi_900, zi_1000, zi_1024, zi_1624, zi_1662, zi_2030, zi_2031, zi_2068, zi_2258, zi_9999, zi_48, zi_57, zi_65536, zi_3257, zi_11483, zi_1000000, zi_729, zi_81, zi_m1, nI_add, pk_mul, nI_ltI, nI_leI, nI_eq, nI_clamp, zn_in, zn_sub1lt, zn_M, zn_Ml, zn_Mg, zn_Mle, zn_Mge, zn_sub, Nat.reduceAdd, Nat.reduceMul, forall_eq, true_imp_iff, false_imp_iff, and_true, true_and, not_true_eq_false, not_false_eq_true, reduceCtorEq, imp_self, eq_self, false_and, and_false, implies_true]
    exact ⟨fun _ => k, fun g => absurd (Nat.le_refl _) g⟩
  · simp (disch := omega) only [wl_M_hearersBy_5, h.n3, zi_0, zi_1, zi_2, zi_3, zi_4, zi_5, zi_6, zi_7, zi_8, zi_9, zi_10, zi_11, zi_12, zi_13, zi_14, zi_15, zi_16, zi_17, zi_18, zi_19, zi_20, zi_21, zi_22, zi_23, zi_24, zi_25, zi_26, zi_30, zi_31, zi_32, zi_34, zi_38, zi_59, zi_60, zi_61, zi_63, zi_64, zi_80, zi_96, zi_97, zi_99, zi_100, zi_122, zi_255, zi_256, zi_300, zi_398, zi_406, zi_900, zi_1000, zi_1024, zi_1624, zi_1662, zi_2030, zi_2031, zi_2068, zi_2258, zi_9999, zi_48, zi_57, zi_65536, zi_3257, zi_11483, zi_1000000, zi_729, zi_81, zi_m1, nI_add, pk_mul, nI_ltI, nI_leI, nI_eq, nI_clamp, zn_in, zn_sub1lt, zn_M, zn_Ml, zn_Mg, zn_Mle, zn_Mge, zn_sub, Nat.reduceAdd, Nat.reduceMul, forall_eq, true_imp_iff, false_imp_iff, and_true, true_and, not_true_eq_false, not_false_eq_true, reduceCtorEq, imp_self, eq_self, false_and, and_false, implies_true]
    refine ⟨fun g => absurd g (by omega), fun _ => ?_⟩
    refine sm_hearerOf h (by omega) (by omega) ?_
    have f50 := ok.far50 (ok.at25 hm) hx
    refine sm_far h ok (ok.at25 hm) hx ?_
    simp (disch := omega) only [Nat.add_zero, zn_or0, zi_0, zi_1, zi_2, zi_3, zi_4, zi_5, zi_6, zi_7, zi_8, zi_9, zi_10, zi_11, zi_12, zi_13, zi_14, zi_15, zi_16, zi_17, zi_18, zi_19, zi_20, zi_21, zi_22, zi_23, zi_24, zi_25, zi_26, zi_30, zi_31, zi_32, zi_34, zi_38, zi_59, zi_60, zi_61, zi_63, zi_64, zi_80, zi_96, zi_97, zi_99, zi_100, zi_122, zi_255, zi_256, zi_300, zi_398, zi_406, zi_900, zi_1000, zi_1024, zi_1624, zi_1662, zi_2030, zi_2031, zi_2068, zi_2258, zi_9999, zi_48, zi_57, zi_65536, zi_3257, zi_11483, zi_1000000, zi_729, zi_81, zi_m1, nI_add, pk_mul, nI_ltI, nI_leI, nI_eq, nI_clamp, zn_in, zn_sub1lt, zn_M, zn_Ml, zn_Mg, zn_Mle, zn_Mge, zn_sub, Nat.reduceAdd, Nat.reduceMul, forall_eq, true_imp_iff, false_imp_iff, and_true, true_and, not_true_eq_false, not_false_eq_true, reduceCtorEq, imp_self, eq_self, false_and, and_false, implies_true]
    refine ⟨fun g => ?_, fun g => ?_⟩
    · rw [zs_no (by simpa using g)]; exact ih
    · rw [zn_yes (by simpa using g) (by omega)]; exact ih
end
