/-! days: tests, ends, a run -/
def dcmp (v sg x : Nat) : Bool := if sg = 60 then decide (v < x) else if sg = 62 then decide (x < v) else decide (v = x)
def dho (q : Nat → Nat) (j : Nat) : Bool := if q (38 + 6 * j) = 1721 then sq_isUp q (q (39 + 6 * j)) else if q (38 + 6 * j) = 1722 then q (13 + 4 * q (39 + 6 * j)) == 1 else if q (38 + 6 * j) = 1723 then dcmp (q 8) (q (43 + 6 * j)) (q (40 + 6 * j)) else dcmp (sq_far (q 0) (q (10 + 4 * q (39 + 6 * j))) (q 6)) (q (43 + 6 * j)) (q (40 + 6 * j))
theorem zi_62 : (62 : Int32) = nI 62 := rfl
theorem zi_1700 : (1700 : Int32) = nI 1700 := rfl
theorem zi_100000 : (100000 : Int32) = nI 100000 := rfl
section
variable {q : Nat → Nat} {c d : Nat} {I I0 I1 I2 : am_TI} {L L1 L2 : am_TL} {R : am_TR}
theorem su_cmp {v sg x : Nat} (hv : v < 2 ^ 31) (hx : x < 2 ^ 31) (hs : sg < 1000) {Q : Bool → Prop} (k : Q (dcmp v sg x)) : wp_Life_compares I L R (nI v) (nI sg) (nI x) Q := by
  unfold wp_Life_compares
  simp (disch := omega) only [zi_62, zi_0, zi_1, zi_2, zi_3, zi_4, zi_5, zi_6, zi_7, zi_8, zi_9, zi_10, zi_11, zi_12, zi_13, zi_14, zi_15, zi_16, zi_17, zi_18, zi_19, zi_20, zi_21, zi_22, zi_23, zi_24, zi_25, zi_26, zi_30, zi_31, zi_32, zi_34, zi_38, zi_59, zi_60, zi_61, zi_63, zi_64, zi_80, zi_96, zi_97, zi_99, zi_100, zi_122, zi_255, zi_256, zi_300, zi_398, zi_406, zi_900, zi_1000, zi_1024, zi_1624, zi_1662, zi_2030, zi_2031, zi_2068, zi_2258, zi_9999, zi_48, zi_57, zi_65536, zi_3257, zi_11483, zi_1000000, zi_729, zi_81, zi_m1, nI_add, pk_mul, nI_ltI, nI_leI, nI_eq, nI_clamp, zn_in, zn_sub1lt, zn_M, zn_Ml, zn_Mg, zn_Mle, zn_Mge, zn_sub, Nat.reduceAdd, Nat.reduceMul]
  unfold dcmp at k
  refine ⟨fun e => ⟨fun g => ?_, fun g => ?_⟩, fun e => ⟨fun e2 => ⟨fun g => ?_, fun g => ?_⟩, fun e2 => ⟨fun g => ?_, fun g => ?_⟩⟩⟩
  · rw [if_pos e, decide_eq_false (by omega)] at k; exact k
  · rw [if_pos e, decide_eq_true (by omega)] at k; exact k
  · rw [if_neg e, if_pos e2, decide_eq_false (by omega)] at k; exact k
  · rw [if_neg e, if_pos e2, decide_eq_true (by omega)] at k; exact k
  · rw [if_neg e, if_neg e2, decide_eq_true g] at k; exact k
  · rw [if_neg e, if_neg e2, decide_eq_false g] at k; exact k
theorem sm_cmp {j v : Nat} (h : sq_M q 0 I L) (hj : j + 1 < q 7) (h7 : q 7 ≤ 61) (hv : v < 2 ^ 31) (hx : q (40 + 6 * j) ≤ 9999) (hs : q (43 + 6 * j) < 1000) {Q : Bool → Prop} (k : Q (dcmp v (q (43 + 6 * j)) (q (40 + 6 * j)))) : wb_M_holds_79 I L R 103 (nI (38 + 6 * j)) Q (nI v) := by
  have e2 := h.r2 hj
  have e5 := h.r5 hj
  simp (disch := omega) only [wb_M_holds_79, e2, e5, zi_62, zi_0, zi_1, zi_2, zi_3, zi_4, zi_5, zi_6, zi_7, zi_8, zi_9, zi_10, zi_11, zi_12, zi_13, zi_14, zi_15, zi_16, zi_17, zi_18, zi_19, zi_20, zi_21, zi_22, zi_23, zi_24, zi_25, zi_26, zi_30, zi_31, zi_32, zi_34, zi_38, zi_59, zi_60, zi_61, zi_63, zi_64, zi_80, zi_96, zi_97, zi_99, zi_100, zi_122, zi_255, zi_256, zi_300, zi_398, zi_406, zi_900, zi_1000, zi_1024, zi_1624, zi_1662, zi_2030, zi_2031, zi_2068, zi_2258, zi_9999, zi_48, zi_57, zi_65536, zi_3257, zi_11483, zi_1000000, zi_729, zi_81, zi_m1, nI_add, pk_mul, nI_ltI, nI_leI, nI_eq, nI_clamp, zn_in, zn_sub1lt, zn_M, zn_Ml, zn_Mg, zn_Mle, zn_Mge, zn_sub, Nat.reduceAdd, Nat.reduceMul]
  unfold dcmp at k
  refine ⟨by omega, fun e => ⟨by omega, fun g => ?_, fun g => ?_⟩, fun e => ⟨by omega, fun e2 => ⟨by omega, fun g => ?_, fun g => ?_⟩, fun e2 => ⟨by omega, fun g => ?_, fun g => ?_⟩⟩⟩
  · rw [if_pos e, decide_eq_false (by omega)] at k; exact k
  · rw [if_pos e, decide_eq_true (by omega)] at k; exact k
  · rw [if_neg e, if_pos e2, decide_eq_false (by omega)] at k; exact k
  · rw [if_neg e, if_pos e2, decide_eq_true (by omega)] at k; exact k
  · rw [if_neg e, if_neg e2, decide_eq_true g] at k; exact k
  · rw [if_neg e, if_neg e2, decide_eq_false g] at k; exact k
/-- a test's row -/
theorem dy_when (ok : sq_Ok q) {j : Nat} (hj : j + 1 < q 7) (hw : 1700 ≤ q (38 + 6 * j)) : dy_open q j ∧ ((q (38 + 6 * j) = 1721 ∧ q (39 + 6 * j) < q 4) ∨ (q (38 + 6 * j) = 1722 ∧ q (39 + 6 * j) < q 3) ∨ (q (38 + 6 * j) = 1723 ∧ q (40 + 6 * j) ≤ 9999 ∧ q (43 + 6 * j) < 1000) ∨ (q (38 + 6 * j) = 1724 ∧ q (39 + 6 * j) < q 3 ∧ q (40 + 6 * j) ≤ 8 ∧ q (43 + 6 * j) < 1000)) := by
  have r := ok.2.2.2.2.2.1 j hj
  rcases r with ⟨e, a⟩ | ⟨e | e, a⟩ | e | ⟨e, a, b⟩ | e | e | ⟨e, a⟩ | ⟨e, a⟩ | e | ⟨e, a, b⟩ | ⟨e, a, b⟩ | ⟨e, a, f, b⟩ | ⟨e, a, f, g, b⟩
  all_goals first | (exfalso; omega) | skip
  · exact ⟨b, by omega⟩
  · exact ⟨b, by omega⟩
  · exact ⟨b, by omega⟩
  · exact ⟨b, by omega⟩
theorem su_holds (h : sq_U q c d I L) (ok : sq_Ok q) (hd : am_rd R c 5 = d) {j v : Nat} (hj : j + 1 < q 7) (hw : 1700 ≤ q (38 + 6 * j)) {Q : Bool → Prop} (k : Q (dho q j)) : wp_Life_holds I L R v c (nI j) Q := by
  have o := ok.1.2.2.1
  have o7 := ok.2.2.2.2.1
  have o8 := ok.1.2.2.2.2
  obtain ⟨dw1, dw2, dw3, dw4, dw5⟩ := h.dy.2.2 j hj
  unfold dho at k
  rcases (dy_when ok hj hw).2 with ⟨e, a⟩ | ⟨e, a⟩ | ⟨e, a, b⟩ | ⟨e, a, b, f⟩
  · rw [if_pos e] at k
    rw [e] at dw1
    have ew : I (d + 1) j = nI 18 := dw1
    have e1 := dw2 (by omega)
    simp (disch := omega) only [wp_Life_holds, hd, ew, e1, zi_0, zi_1, zi_2, zi_3, zi_4, zi_5, zi_6, zi_7, zi_8, zi_9, zi_10, zi_11, zi_12, zi_13, zi_14, zi_15, zi_16, zi_17, zi_18, zi_19, zi_20, zi_21, zi_22, zi_23, zi_24, zi_25, zi_26, zi_30, zi_31, zi_32, zi_34, zi_38, zi_59, zi_60, zi_61, zi_63, zi_64, zi_80, zi_96, zi_97, zi_99, zi_100, zi_122, zi_255, zi_256, zi_300, zi_398, zi_406, zi_900, zi_1000, zi_1024, zi_1624, zi_1662, zi_2030, zi_2031, zi_2068, zi_2258, zi_9999, zi_48, zi_57, zi_65536, zi_3257, zi_11483, zi_1000000, zi_729, zi_81, zi_m1, nI_add, pk_mul, nI_ltI, nI_leI, nI_eq, nI_clamp, zn_in, zn_sub1lt, zn_M, zn_Ml, zn_Mg, zn_Mle, zn_Mge, zn_sub, Nat.reduceAdd, Nat.reduceMul]
    refine ⟨by omega, by omega, fun _ => su_isUp h ok a k, fun x => absurd x (by omega), fun x => absurd x (by omega), fun x => absurd trivial x⟩
  · rw [if_neg (by omega), if_pos e] at k
    rw [e] at dw1
    have ew : I (d + 1) j = nI 19 := dw1
    have e1 := dw2 (by omega)
    have sl := sq_seen_lt ok
    have sb : (sq_seen q).testBit (q (39 + 6 * j)) = (q (13 + 4 * q (39 + 6 * j)) == 1) := by rw [sq_seen, zs_bit]; simp [a]
    rw [← sb] at k
    simp (disch := omega) only [wp_Life_holds, wp_Square_isSeen, hd, ew, e1, h.sn, zn_bit, zi_0, zi_1, zi_2, zi_3, zi_4, zi_5, zi_6, zi_7, zi_8, zi_9, zi_10, zi_11, zi_12, zi_13, zi_14, zi_15, zi_16, zi_17, zi_18, zi_19, zi_20, zi_21, zi_22, zi_23, zi_24, zi_25, zi_26, zi_30, zi_31, zi_32, zi_34, zi_38, zi_59, zi_60, zi_61, zi_63, zi_64, zi_80, zi_96, zi_97, zi_99, zi_100, zi_122, zi_255, zi_256, zi_300, zi_398, zi_406, zi_900, zi_1000, zi_1024, zi_1624, zi_1662, zi_2030, zi_2031, zi_2068, zi_2258, zi_9999, zi_48, zi_57, zi_65536, zi_3257, zi_11483, zi_1000000, zi_729, zi_81, zi_m1, nI_add, pk_mul, nI_ltI, nI_leI, nI_eq, nI_clamp, zn_in, zn_sub1lt, zn_M, zn_Ml, zn_Mg, zn_Mle, zn_Mge, zn_sub, Nat.reduceAdd, Nat.reduceMul]
    refine ⟨by omega, by omega, fun x => absurd x (by omega), fun _ => ⟨fun g => ?_, fun g => ?_⟩, fun x => absurd x (by omega), fun _ x => absurd trivial x⟩
    · rw [g] at k; exact k
    · rw [Bool.not_eq_true] at g; rw [g] at k; exact k
  · rw [if_neg (by omega), if_neg (by omega), if_pos e] at k
    rw [e] at dw1
    have ew : I (d + 1) j = nI 20 := dw1
    have e2 := dw3 (by omega)
    have e3 := dw4 (by omega)
    simp (disch := omega) only [wp_Life_holds, hd, ew, e2, e3, h.n8, zi_0, zi_1, zi_2, zi_3, zi_4, zi_5, zi_6, zi_7, zi_8, zi_9, zi_10, zi_11, zi_12, zi_13, zi_14, zi_15, zi_16, zi_17, zi_18, zi_19, zi_20, zi_21, zi_22, zi_23, zi_24, zi_25, zi_26, zi_30, zi_31, zi_32, zi_34, zi_38, zi_59, zi_60, zi_61, zi_63, zi_64, zi_80, zi_96, zi_97, zi_99, zi_100, zi_122, zi_255, zi_256, zi_300, zi_398, zi_406, zi_900, zi_1000, zi_1024, zi_1624, zi_1662, zi_2030, zi_2031, zi_2068, zi_2258, zi_9999, zi_48, zi_57, zi_65536, zi_3257, zi_11483, zi_1000000, zi_729, zi_81, zi_m1, nI_add, pk_mul, nI_ltI, nI_leI, nI_eq, nI_clamp, zn_in, zn_sub1lt, zn_M, zn_Ml, zn_Mg, zn_Mle, zn_Mge, zn_sub, Nat.reduceAdd, Nat.reduceMul]
    refine ⟨by omega, by omega, fun x => absurd x (by omega), fun x => absurd x (by omega), fun _ => ⟨by omega, by omega, su_cmp (by omega) (by omega) (by omega) k⟩, fun _ _ x => absurd trivial x⟩
  · rw [if_neg (by omega), if_neg (by omega), if_neg (by omega)] at k
    rw [e] at dw1
    have ew : I (d + 1) j = nI 21 := dw1
    have e1 := dw2 (by omega)
    have e2 := dw3 (by omega)
    have e3 := dw4 (by omega)
    have f50 := ok.far50 (ok.at25 a) ok.or25
    simp (disch := omega) only [wp_Life_holds, hd, ew, e1, e2, e3, zi_0, zi_1, zi_2, zi_3, zi_4, zi_5, zi_6, zi_7, zi_8, zi_9, zi_10, zi_11, zi_12, zi_13, zi_14, zi_15, zi_16, zi_17, zi_18, zi_19, zi_20, zi_21, zi_22, zi_23, zi_24, zi_25, zi_26, zi_30, zi_31, zi_32, zi_34, zi_38, zi_59, zi_60, zi_61, zi_63, zi_64, zi_80, zi_96, zi_97, zi_99, zi_100, zi_122, zi_255, zi_256, zi_300, zi_398, zi_406, zi_900, zi_1000, zi_1024, zi_1624, zi_1662, zi_2030, zi_2031, zi_2068, zi_2258, zi_9999, zi_48, zi_57, zi_65536, zi_3257, zi_11483, zi_1000000, zi_729, zi_81, zi_m1, nI_add, pk_mul, nI_ltI, nI_leI, nI_eq, nI_clamp, zn_in, zn_sub1lt, zn_M, zn_Ml, zn_Mg, zn_Mle, zn_Mge, zn_sub, Nat.reduceAdd, Nat.reduceMul]
    refine ⟨by omega, by omega, fun x => absurd x (by omega), fun x => absurd x (by omega), fun x => absurd x (by omega), fun _ _ _ => su_farO h ok a ⟨by omega, by omega, su_cmp (by omega) (by omega) (by omega) k⟩⟩
theorem sm_holds (h : sq_M q 0 I L) (ok : sq_Ok q) {j : Nat} (hj : j + 1 < q 7) (hw : 1700 ≤ q (38 + 6 * j)) {Q : Bool → Prop} (k : Q (dho q j)) : wp_M_holds I L R 103 (nI (38 + 6 * j)) Q := by
  have o := ok.1.2.2.1
  have o7 := ok.2.2.2.2.1
  have o8 := ok.1.2.2.2.2
  have e0 := h.r0 hj
  have e1 := h.r1 hj
  unfold dho at k
  rcases (dy_when ok hj hw).2 with ⟨e, a⟩ | ⟨e, a⟩ | ⟨e, a, b⟩ | ⟨e, a, b, f⟩
  · rw [if_pos e] at k
    rw [e] at e0
    have dl := sq_dogsUp_lt ok
    have sb : (sq_dogsUp q).testBit (q (39 + 6 * j)) = sq_isUp q (q (39 + 6 * j)) := by rw [sq_dogsUp, zs_bit]; simp [a]
    rw [← sb] at k
    simp (disch := omega) only [wp_M_holds, e0, e1, zi_1700, zi_0, zi_1, zi_2, zi_3, zi_4, zi_5, zi_6, zi_7, zi_8, zi_9, zi_10, zi_11, zi_12, zi_13, zi_14, zi_15, zi_16, zi_17, zi_18, zi_19, zi_20, zi_21, zi_22, zi_23, zi_24, zi_25, zi_26, zi_30, zi_31, zi_32, zi_34, zi_38, zi_59, zi_60, zi_61, zi_63, zi_64, zi_80, zi_96, zi_97, zi_99, zi_100, zi_122, zi_255, zi_256, zi_300, zi_398, zi_406, zi_900, zi_1000, zi_1024, zi_1624, zi_1662, zi_2030, zi_2031, zi_2068, zi_2258, zi_9999, zi_48, zi_57, zi_65536, zi_3257, zi_11483, zi_1000000, zi_729, zi_81, zi_m1, nI_add, pk_mul, nI_ltI, nI_leI, nI_eq, nI_clamp, zn_in, zn_sub1lt, zn_M, zn_Ml, zn_Mg, zn_Mle, zn_Mge, zn_sub, Nat.reduceAdd, Nat.reduceMul]
    refine ⟨by omega, by omega, fun _ => sm_dogsUp h ok ?_, fun x => absurd (by first | trivial | omega) x⟩
    simp (disch := omega) only [wp_M_isIn, zn_bit, zi_0, zi_1, zi_2, zi_3, zi_4, zi_5, zi_6, zi_7, zi_8, zi_9, zi_10, zi_11, zi_12, zi_13, zi_14, zi_15, zi_16, zi_17, zi_18, zi_19, zi_20, zi_21, zi_22, zi_23, zi_24, zi_25, zi_26, zi_30, zi_31, zi_32, zi_34, zi_38, zi_59, zi_60, zi_61, zi_63, zi_64, zi_80, zi_96, zi_97, zi_99, zi_100, zi_122, zi_255, zi_256, zi_300, zi_398, zi_406, zi_900, zi_1000, zi_1024, zi_1624, zi_1662, zi_2030, zi_2031, zi_2068, zi_2258, zi_9999, zi_48, zi_57, zi_65536, zi_3257, zi_11483, zi_1000000, zi_729, zi_81, zi_m1, nI_add, pk_mul, nI_ltI, nI_leI, nI_eq, nI_clamp, zn_in, zn_sub1lt, zn_M, zn_Ml, zn_Mg, zn_Mle, zn_Mge, zn_sub, Nat.reduceAdd, Nat.reduceMul]
    refine ⟨fun g => ?_, fun g => ?_⟩
    · rw [g] at k; exact k
    · rw [Bool.not_eq_true] at g; rw [g] at k; exact k
  · rw [if_neg (by omega), if_pos e] at k
    rw [e] at e0
    have s1 := (ok.2.1 _ a).2.2.2
    simp (disch := omega) only [wp_M_holds, e0, e1, zi_1700, zi_0, zi_1, zi_2, zi_3, zi_4, zi_5, zi_6, zi_7, zi_8, zi_9, zi_10, zi_11, zi_12, zi_13, zi_14, zi_15, zi_16, zi_17, zi_18, zi_19, zi_20, zi_21, zi_22, zi_23, zi_24, zi_25, zi_26, zi_30, zi_31, zi_32, zi_34, zi_38, zi_59, zi_60, zi_61, zi_63, zi_64, zi_80, zi_96, zi_97, zi_99, zi_100, zi_122, zi_255, zi_256, zi_300, zi_398, zi_406, zi_900, zi_1000, zi_1024, zi_1624, zi_1662, zi_2030, zi_2031, zi_2068, zi_2258, zi_9999, zi_48, zi_57, zi_65536, zi_3257, zi_11483, zi_1000000, zi_729, zi_81, zi_m1, nI_add, pk_mul, nI_ltI, nI_leI, nI_eq, nI_clamp, zn_in, zn_sub1lt, zn_M, zn_Ml, zn_Mg, zn_Mle, zn_Mge, zn_sub, Nat.reduceAdd, Nat.reduceMul]
    refine ⟨by omega, by omega, fun x => absurd x (by omega), fun _ => ⟨fun _ => sm_hearerOf h (by omega) (by omega) ?_, fun x => absurd (by first | trivial | omega) x⟩⟩
    rw [show 10 + 4 * q (39 + 6 * j) + 3 = 13 + 4 * q (39 + 6 * j) by omega, nI_eq (by omega) (by omega)]
    refine ⟨fun g => ?_, fun g => ?_⟩
    · rw [g] at k; exact k
    · rw [show (q (13 + 4 * q (39 + 6 * j)) == 1) = false by simpa using g] at k; exact k
  · rw [if_neg (by omega), if_neg (by omega), if_pos e] at k
    rw [e] at e0
    simp (disch := omega) only [wp_M_holds, e0, e1, zi_1700, h.n8, zi_0, zi_1, zi_2, zi_3, zi_4, zi_5, zi_6, zi_7, zi_8, zi_9, zi_10, zi_11, zi_12, zi_13, zi_14, zi_15, zi_16, zi_17, zi_18, zi_19, zi_20, zi_21, zi_22, zi_23, zi_24, zi_25, zi_26, zi_30, zi_31, zi_32, zi_34, zi_38, zi_59, zi_60, zi_61, zi_63, zi_64, zi_80, zi_96, zi_97, zi_99, zi_100, zi_122, zi_255, zi_256, zi_300, zi_398, zi_406, zi_900, zi_1000, zi_1024, zi_1624, zi_1662, zi_2030, zi_2031, zi_2068, zi_2258, zi_9999, zi_48, zi_57, zi_65536, zi_3257, zi_11483, zi_1000000, zi_729, zi_81, zi_m1, nI_add, pk_mul, nI_ltI, nI_leI, nI_eq, nI_clamp, zn_in, zn_sub1lt, zn_M, zn_Ml, zn_Mg, zn_Mle, zn_Mge, zn_sub, Nat.reduceAdd, Nat.reduceMul]
    exact ⟨by omega, by omega, fun x => absurd x (by omega), fun _ => ⟨fun x => absurd x (by omega), fun _ => ⟨fun _ => sm_cmp h hj o7 (by omega) (by omega) (by omega) k, fun x => absurd (by first | trivial | omega) x⟩⟩⟩
  · rw [if_neg (by omega), if_neg (by omega), if_neg (by omega)] at k
    rw [e] at e0
    have f50 := ok.far50 (ok.at25 a) ok.or25
    simp (disch := omega) only [wp_M_holds, e0, e1, zi_1700, zi_0, zi_1, zi_2, zi_3, zi_4, zi_5, zi_6, zi_7, zi_8, zi_9, zi_10, zi_11, zi_12, zi_13, zi_14, zi_15, zi_16, zi_17, zi_18, zi_19, zi_20, zi_21, zi_22, zi_23, zi_24, zi_25, zi_26, zi_30, zi_31, zi_32, zi_34, zi_38, zi_59, zi_60, zi_61, zi_63, zi_64, zi_80, zi_96, zi_97, zi_99, zi_100, zi_122, zi_255, zi_256, zi_300, zi_398, zi_406, zi_900, zi_1000, zi_1024, zi_1624, zi_1662, zi_2030, zi_2031, zi_2068, zi_2258, zi_9999, zi_48, zi_57, zi_65536, zi_3257, zi_11483, zi_1000000, zi_729, zi_81, zi_m1, nI_add, pk_mul, nI_ltI, nI_leI, nI_eq, nI_clamp, zn_in, zn_sub1lt, zn_M, zn_Ml, zn_Mg, zn_Mle, zn_Mge, zn_sub, Nat.reduceAdd, Nat.reduceMul]
    exact ⟨by omega, by omega, fun x => absurd x (by omega), fun _ => ⟨fun x => absurd x (by omega), fun _ => ⟨fun x => absurd x (by omega), fun _ => sm_farO h ok a (sm_cmp h hj o7 (by omega) (by omega) (by omega) k)⟩⟩⟩
/-- loops that one is in -/
def dl (q : Nat → Nat) (k o : Nat) : Prop := o + 1 < q 7 ∧ q (38 + 6 * o) = 18 ∧ o < k ∧ k ≤ q (42 + 6 * o)
/-- no end of a loop in which nothing is -/
def dpc (q : Nat → Nat) (k : Nat) : Prop := k + 1 < q 7 → q (38 + 6 * k) = 19 → q (38 + 6 * q (42 + 6 * k)) = 18 → q (42 + 6 * k) + 1 ≠ k
theorem dy_opn (ok : sq_Ok q) {j : Nat} (hj : j + 1 < q 7) (hw : q (38 + 6 * j) = 18) : dy_open q j ∧ 1 ≤ q (39 + 6 * j) ∧ q (39 + 6 * j) ≤ 99 := by
  have r := ok.2.2.2.2.2.1 j hj
  rcases r with ⟨e, a⟩ | ⟨e | e, a⟩ | e | ⟨e, a, b⟩ | e | e | ⟨e, a, b, f⟩ | ⟨e, a⟩ | e | ⟨e, a, b⟩ | ⟨e, a, b⟩ | ⟨e, a, f, b⟩ | ⟨e, a, f, g, b⟩
  all_goals first | (exfalso; omega) | skip
  exact ⟨f, a, b⟩
theorem dy_cls (ok : sq_Ok q) {j : Nat} (hj : j + 1 < q 7) (hw : q (38 + 6 * j) = 19) : dy_close q j := by
  have r := ok.2.2.2.2.2.1 j hj
  rcases r with ⟨e, a⟩ | ⟨e | e, a⟩ | e | ⟨e, a, b⟩ | e | e | ⟨e, a, b, f⟩ | ⟨e, a⟩ | e | ⟨e, a, b⟩ | ⟨e, a, b⟩ | ⟨e, a, f, b⟩ | ⟨e, a, f, g, b⟩
  all_goals first | (exfalso; omega) | skip
  exact a
theorem en_sim (ok : sq_Ok q) : ∀ n k (tl : Nat → Nat), k + n + 1 = q 7 → dpc q k → (∀ o, dl q k o → tl o ≤ 98) → ∃ (k2 : Nat) (tl2 : Nat → Nat) (nE : Nat), k2 < q 7 ∧ (k2 + 1 < q 7 → q (38 + 6 * k2) ≠ 19) ∧ nE ≤ n + 1 ∧ (∀ o, dl q k2 o → tl2 o ≤ 98) ∧
    (∀ c d v I L R p2 Q z i, sq_cd c d → (v = 12 ∨ v = 14) → sq_U q c d I L → I v 9 = nI 0 → (∀ o, dl q k o → I (v + 1) o = nI (tl o + 1)) → i + nE < 100000 → (∀ I1, sq_U q c d I1 L → (∀ o, dl q k2 o → I1 (v + 1) o = nI (tl2 o + 1)) → (∀ r, r ≠ v + 1 → I1 r = I r) → wl_Life_run_51 L R v c p2 Q z I1 d (nI k2) (nI (i + nE))) → wl_Life_run_51 L R v c p2 Q (z + nE) I d (nI k) (nI i)) ∧
    (∀ I L R p1 Q, sq_M q 0 I L → (∀ o, dl q k o → I 130 o = nI (tl o)) → (∀ I1, sq_M q 0 I1 L → (∀ o, dl q k2 o → I1 130 o = nI (tl2 o)) → (∀ r, r ≠ 130 → I1 r = I r) → Q (nI k2) I1) → ∃ z, wl_M_behindEnds_2 L R 103 p1 Q z I (nI k)) := by
  have o7 := ok.2.2.2.2.1
  -- where no end is
  have stop : ∀ n k (tl : Nat → Nat), k + n + 1 = q 7 → (∀ o, dl q k o → tl o ≤ 98) → (k + 1 < q 7 → q (38 + 6 * k) ≠ 19) → ∃ (k2 : Nat) (tl2 : Nat → Nat) (nE : Nat), k2 < q 7 ∧ (k2 + 1 < q 7 → q (38 + 6 * k2) ≠ 19) ∧ nE ≤ n + 1 ∧ (∀ o, dl q k2 o → tl2 o ≤ 98) ∧
    (∀ c d v I L R p2 Q z i, sq_cd c d → (v = 12 ∨ v = 14) → sq_U q c d I L → I v 9 = nI 0 → (∀ o, dl q k o → I (v + 1) o = nI (tl o + 1)) → i + nE < 100000 → (∀ I1, sq_U q c d I1 L → (∀ o, dl q k2 o → I1 (v + 1) o = nI (tl2 o + 1)) → (∀ r, r ≠ v + 1 → I1 r = I r) → wl_Life_run_51 L R v c p2 Q z I1 d (nI k2) (nI (i + nE))) → wl_Life_run_51 L R v c p2 Q (z + nE) I d (nI k) (nI i)) ∧
    (∀ I L R p1 Q, sq_M q 0 I L → (∀ o, dl q k o → I 130 o = nI (tl o)) → (∀ I1, sq_M q 0 I1 L → (∀ o, dl q k2 o → I1 130 o = nI (tl2 o)) → (∀ r, r ≠ 130 → I1 r = I r) → Q (nI k2) I1) → ∃ z, wl_M_behindEnds_2 L R 103 p1 Q z I (nI k)) := by
    intro n k tl hk ht h19
    refine ⟨k, tl, 0, by omega, h19, by omega, ht, ?_, ?_⟩
    · intro c d v I L R p2 Q z i hcd hv h e9 et hi K
      exact K I h et (fun _ _ => rfl)
    · intro I L R p1 Q h et K
      have e7 : I 104 7 = nI (q 7 - 1) := by rw [h.n7, zn_sub (by omega)]
      have k2 := K I h et (fun _ _ => rfl)
      refine ⟨1, ?_⟩
      rw [wl_M_behindEnds_2]
      by_cases g : k + 1 < q 7
      · have e0 := h.r0 g
        have w19 := h19 g
        have wl : q (38 + 6 * k) < 2 ^ 31 := by
          have r := ok.2.2.2.2.2.1 k g
          unfold dy_row at r
          omega
        simp (disch := omega) only [e7, e0, zi_0, zi_1, zi_2, zi_3, zi_4, zi_5, zi_6, zi_7, zi_8, zi_9, zi_10, zi_11, zi_12, zi_13, zi_14, zi_15, zi_16, zi_17, zi_18, zi_19, zi_20, zi_21, zi_22, zi_23, zi_24, zi_25, zi_26, zi_30, zi_31, zi_32, zi_34, zi_38, zi_59, zi_60, zi_61, zi_63, zi_64, zi_80, zi_96, zi_97, zi_99, zi_100, zi_122, zi_255, zi_256, zi_300, zi_398, zi_406, zi_900, zi_1000, zi_1024, zi_1624, zi_1662, zi_2030, zi_2031, zi_2068, zi_2258, zi_9999, zi_48, zi_57, zi_65536, zi_3257, zi_11483, zi_1000000, zi_729, zi_81, zi_m1, nI_add, pk_mul, nI_ltI, nI_leI, nI_eq, nI_clamp, zn_in, zn_sub1lt, zn_M, zn_Ml, zn_Mg, zn_Mle, zn_Mge, zn_sub, Nat.reduceAdd, Nat.reduceMul]
        exact ⟨fun x => absurd x (by omega), fun _ => ⟨by omega, fun x => absurd x w19, fun _ => k2⟩⟩
      · simp (disch := omega) only [e7, zi_0, zi_1, zi_2, zi_3, zi_4, zi_5, zi_6, zi_7, zi_8, zi_9, zi_10, zi_11, zi_12, zi_13, zi_14, zi_15, zi_16, zi_17, zi_18, zi_19, zi_20, zi_21, zi_22, zi_23, zi_24, zi_25, zi_26, zi_30, zi_31, zi_32, zi_34, zi_38, zi_59, zi_60, zi_61, zi_63, zi_64, zi_80, zi_96, zi_97, zi_99, zi_100, zi_122, zi_255, zi_256, zi_300, zi_398, zi_406, zi_900, zi_1000, zi_1024, zi_1624, zi_1662, zi_2030, zi_2031, zi_2068, zi_2258, zi_9999, zi_48, zi_57, zi_65536, zi_3257, zi_11483, zi_1000000, zi_729, zi_81, zi_m1, nI_add, pk_mul, nI_ltI, nI_leI, nI_eq, nI_clamp, zn_in, zn_sub1lt, zn_M, zn_Ml, zn_Mg, zn_Mle, zn_Mge, zn_sub, Nat.reduceAdd, Nat.reduceMul]
        exact ⟨fun _ => k2, fun x => absurd (by first | trivial | omega) x⟩
  intro n
  induction n with
  | zero => intro k tl hk _ ht; exact stop 0 k tl hk ht (fun x => absurd x (by omega))
  | succ n ih =>
    intro k tl hk hp ht
    by_cases w : q (38 + 6 * k) = 19
    rotate_left
    · exact stop (n + 1) k tl hk ht (fun _ => w)
    have hk7 : k + 1 < q 7 := by omega
    obtain ⟨c1, c2, c3, c4⟩ := dy_cls ok hk7 w
    generalize ho : q (42 + 6 * k) = o at *
    -- the class and the reference at this end
    have cont : ∀ k', dl q k' o → True := fun _ _ => trivial
    have sub1 : ∀ x, dl q (k + 1) x → dl q k x := fun x hx => by
      obtain ⟨a, b, e, f⟩ := hx
      refine ⟨a, b, ?_, by omega⟩
      rcases Nat.lt_or_ge x k with g | g
      · exact g
      · have : x = k := by omega
        subst this; omega
    have dpc1 : dpc q (k + 1) := fun a b e f => by
      have e1 : q (42 + 6 * (k + 1)) = k := by omega
      rw [e1] at e; omega
    by_cases lp : q (38 + 6 * o) = 18
    · have ol : dl q k o := ⟨by omega, lp, c1, by omega⟩
      by_cases t0 : tl o = 0
      · -- the last turn: on
        obtain ⟨k2, tl2, nE, r1, r2, r3, r4, hU, hM⟩ := ih (k + 1) tl (by omega) dpc1 (fun x hx => ht x (sub1 x hx))
        refine ⟨k2, tl2, nE + 1, r1, r2, by omega, r4, ?_, ?_⟩
        · intro c d v I L R p2 Q z i hcd hv h e9 et hi K
          have hcd' := hcd
          obtain ⟨hc, hd⟩ := hcd'
          obtain ⟨dw1, _, _, _, dw5⟩ := h.dy.2.2 k hk7
          have ew : I (d + 1) k = nI 23 := by rw [dw1, w]; rfl
          have e5 : I (d + 5) k = nI o := by rw [dw5 (by omega), ho]
          have ewo : I (d + 1) o = nI 22 := by rw [(h.dy.2.2 o (by omega)).1, lp]; rfl
          have e6 : I d 6 = nI (q 7 - 1) := h.dy.2.1 (by omega)
          have eo := et o ol
          rw [t0] at eo
          rw [← Nat.add_assoc, wl_Life_run_51]
          simp (disch := omega) only [zi_100000, e6, e9, ew, e5, ewo, eo, wp_Life_behindEnd, am_u2_at, zi_0, zi_1, zi_2, zi_3, zi_4, zi_5, zi_6, zi_7, zi_8, zi_9, zi_10, zi_11, zi_12, zi_13, zi_14, zi_15, zi_16, zi_17, zi_18, zi_19, zi_20, zi_21, zi_22, zi_23, zi_24, zi_25, zi_26, zi_30, zi_31, zi_32, zi_34, zi_38, zi_59, zi_60, zi_61, zi_63, zi_64, zi_80, zi_96, zi_97, zi_99, zi_100, zi_122, zi_255, zi_256, zi_300, zi_398, zi_406, zi_900, zi_1000, zi_1024, zi_1624, zi_1662, zi_2030, zi_2031, zi_2068, zi_2258, zi_9999, zi_48, zi_57, zi_65536, zi_3257, zi_11483, zi_1000000, zi_729, zi_81, zi_m1, nI_add, pk_mul, nI_ltI, nI_leI, nI_eq, nI_clamp, zn_in, zn_sub1lt, zn_M, zn_Ml, zn_Mg, zn_Mle, zn_Mge, zn_sub, Nat.reduceAdd, Nat.reduceMul]
          refine ⟨fun x => absurd x (by omega), fun _ => ⟨fun x => absurd x (by omega), fun _ => ⟨fun _ => ⟨by omega, fun _ => ⟨by omega, by omega, fun _ => ⟨by omega, by omega, fun I1 h1 => ⟨by omega, fun _ => ?_, fun x => absurd ?_ x⟩⟩, fun x => absurd trivial x⟩, fun x => absurd trivial x⟩, fun x => absurd trivial x⟩⟩⟩
          · have s1 : sq_U q c d I1 L := by rw [h1]; exact h.keep (fun r hr => am_u2_row _ _ _ _ (by omega)) rfl
            refine hU c d v I1 L R p2 Q z (i + 1) hcd hv s1 (by rw [h1, am_u2o (by omega)]; exact e9) (fun x hx => ?_) (by omega) (fun I2 s2 t2 f2 => ?_)
            · have xk := sub1 x hx
              have xo : x ≠ o := fun e => by subst e; have := hx.2.2.2; omega
              rw [h1, am_u2_ne _ _ _ _ xo]; exact et x xk
            · rw [show i + 1 + nE = i + (nE + 1) by omega]
              exact K I2 s2 t2 (fun r hr => by rw [f2 r hr, h1, am_u2_row _ _ _ _ hr])
          · rw [h1, am_u2_at]; decide
        · intro I L R p1 Q h et K
          have e7 : I 104 7 = nI (q 7 - 1) := by rw [h.n7, zn_sub (by omega)]
          have e0 := h.r0 hk7
          rw [w] at e0
          have e4 := h.r4 hk7
          rw [ho] at e4
          have ewo := h.r0 (j := o) (by omega)
          rw [lp] at ewo
          have eo := et o ol
          rw [t0] at eo
          have s1 : sq_M q 0 (am_u2 I 130 o (nI 0)) L := h.keep (fun k _ _ => by rw [am_u2o (by omega)]) rfl o7
          obtain ⟨z, hz⟩ := hM (am_u2 I 130 o (nI 0)) L R p1 Q s1 (fun x hx => by
            have xk := sub1 x hx
            have xo : x ≠ o := fun e => by subst e; have := hx.2.2.2; omega
            rw [am_u2_ne _ _ _ _ xo]; exact et x xk) (fun I1 s1 t1 f1 => K I1 s1 t1 (fun r hr => by rw [f1 r hr, am_u2_row _ _ _ _ hr]))
          refine ⟨z + 1, ?_⟩
          have eb : nI 0 - am_b false = nI 0 := by decide
          rw [wl_M_behindEnds_2]
          simp (disch := omega) only [e7, e0, e4, ewo, eo, wb_M_behindEnds_75, wb_M_behindEnds_76, wb_M_behindEnds_95, eb, zi_0, zi_1, zi_2, zi_3, zi_4, zi_5, zi_6, zi_7, zi_8, zi_9, zi_10, zi_11, zi_12, zi_13, zi_14, zi_15, zi_16, zi_17, zi_18, zi_19, zi_20, zi_21, zi_22, zi_23, zi_24, zi_25, zi_26, zi_30, zi_31, zi_32, zi_34, zi_38, zi_59, zi_60, zi_61, zi_63, zi_64, zi_80, zi_96, zi_97, zi_99, zi_100, zi_122, zi_255, zi_256, zi_300, zi_398, zi_406, zi_900, zi_1000, zi_1024, zi_1624, zi_1662, zi_2030, zi_2031, zi_2068, zi_2258, zi_9999, zi_48, zi_57, zi_65536, zi_3257, zi_11483, zi_1000000, zi_729, zi_81, zi_m1, nI_add, pk_mul, nI_ltI, nI_leI, nI_eq, nI_clamp, zn_in, zn_sub1lt, zn_M, zn_Ml, zn_Mg, zn_Mle, zn_Mge, zn_sub, Nat.reduceAdd, Nat.reduceMul, forall_eq, true_imp_iff, false_imp_iff, and_true, true_and, not_true_eq_false, not_false_eq_true, reduceCtorEq, imp_self, eq_self, false_and, and_false, implies_true]
          repeat' (first | omega | with_reducible refine And.intro ?_ ?_ | with_reducible intro g)
          all_goals exact hz
      · -- once more
        have lb := ht o ol
        have ob : o + 1 ≠ k := by
          have := hp hk7 w
          rw [ho] at this
          exact this lp
        have n19 : q (38 + 6 * (o + 1)) ≠ 19 := by omega
        have sub2 : ∀ x, dl q (o + 1) x → x ≠ o → dl q k x := fun x hx hne => by
          obtain ⟨a, b, e, f⟩ := hx
          refine ⟨a, b, by omega, ?_⟩
          have ob2 : o < q (42 + 6 * x) := by
            rcases Nat.lt_or_ge o (q (42 + 6 * x)) with g | g
            · exact g
            · have : o + 1 ≤ q (42 + 6 * x) := f
              omega
          have nn := ok.2.2.2.2.2.2 x o (by omega) ob2 (by omega) (Or.inl b) (Or.inl lp)
          omega
        have ol2 : dl q (o + 1) o := ⟨by omega, lp, by omega, by omega⟩
        refine ⟨o + 1, zu tl o (tl o - 1), 1, by omega, fun _ => n19, by omega, fun x hx => ?_, ?_, ?_⟩
        · by_cases e : x = o
          · subst e; rw [zu_s]; omega
          · rw [zu_n e]; exact ht x (sub2 x hx e)
        · intro c d v I L R p2 Q z i hcd hv h e9 et hi K
          have hcd' := hcd
          obtain ⟨hc, hd⟩ := hcd'
          obtain ⟨dw1, _, _, _, dw5⟩ := h.dy.2.2 k hk7
          have ew : I (d + 1) k = nI 23 := by rw [dw1, w]; rfl
          have e5 : I (d + 5) k = nI o := by rw [dw5 (by omega), ho]
          have ewo : I (d + 1) o = nI 22 := by rw [(h.dy.2.2 o (by omega)).1, lp]; rfl
          have e6 : I d 6 = nI (q 7 - 1) := h.dy.2.1 (by omega)
          have eo := et o ol
          rw [wl_Life_run_51]
          simp (disch := omega) only [zi_100000, e6, e9, ew, e5, ewo, eo, wp_Life_behindEnd, am_u2_at, zi_0, zi_1, zi_2, zi_3, zi_4, zi_5, zi_6, zi_7, zi_8, zi_9, zi_10, zi_11, zi_12, zi_13, zi_14, zi_15, zi_16, zi_17, zi_18, zi_19, zi_20, zi_21, zi_22, zi_23, zi_24, zi_25, zi_26, zi_30, zi_31, zi_32, zi_34, zi_38, zi_59, zi_60, zi_61, zi_63, zi_64, zi_80, zi_96, zi_97, zi_99, zi_100, zi_122, zi_255, zi_256, zi_300, zi_398, zi_406, zi_900, zi_1000, zi_1024, zi_1624, zi_1662, zi_2030, zi_2031, zi_2068, zi_2258, zi_9999, zi_48, zi_57, zi_65536, zi_3257, zi_11483, zi_1000000, zi_729, zi_81, zi_m1, nI_add, pk_mul, nI_ltI, nI_leI, nI_eq, nI_clamp, zn_in, zn_sub1lt, zn_M, zn_Ml, zn_Mg, zn_Mle, zn_Mge, zn_sub, Nat.reduceAdd, Nat.reduceMul]
          refine ⟨fun x => absurd x (by omega), fun _ => ⟨fun x => absurd x (by omega), fun _ => ⟨fun _ => ⟨by omega, fun _ => ⟨by omega, by omega, fun _ => ⟨by omega, by omega, fun I1 h1 => ⟨by omega, fun x => absurd x ?_, fun _ => ?_⟩⟩, fun x => absurd trivial x⟩, fun x => absurd trivial x⟩, fun x => absurd trivial x⟩⟩⟩
          · rw [h1, am_u2_at, nI_leI (by omega) (by omega)]; omega
          · have s1 : sq_U q c d I1 L := by rw [h1]; exact h.keep (fun r hr => am_u2_row _ _ _ _ (by omega)) rfl
            refine K I1 s1 (fun x hx => ?_) (fun r hr => by rw [h1, am_u2_row _ _ _ _ hr])
            by_cases e : x = o
            · subst e
              rw [h1, am_u2_at, zu_s]; congr 1; omega
            · rw [h1, am_u2_ne _ _ _ _ e, zu_n e]; exact et x (sub2 x hx e)
        · intro I L R p1 Q h et K
          have e7 : I 104 7 = nI (q 7 - 1) := by rw [h.n7, zn_sub (by omega)]
          have e0 := h.r0 hk7
          rw [w] at e0
          have e4 := h.r4 hk7
          rw [ho] at e4
          have ewo := h.r0 (j := o) (by omega)
          rw [lp] at ewo
          have eo := et o ol
          have eb : nI (tl o) - am_b true = nI (tl o - 1) := zn_sub (b := 1) (by omega)
          have s1 : sq_M q 0 (am_u2 I 130 o (nI (tl o - 1))) L := h.keep (fun k _ _ => by rw [am_u2o (by omega)]) rfl o7
          have k2 := K _ s1 (fun x hx => by
            by_cases e : x = o
            · subst e; rw [am_u2_at, zu_s]
            · rw [am_u2_ne _ _ _ _ e, zu_n e]; exact et x (sub2 x hx e)) (fun r hr => by rw [am_u2_row _ _ _ _ hr])
          have e71 : am_u2 I 130 o (nI (tl o - 1)) 104 7 = nI (q 7 - 1) := by rw [am_u2o (by omega)]; exact e7
          have e01 := s1.r0 (j := o + 1) (by omega)
          have wl : q (38 + 6 * (o + 1)) < 2 ^ 31 := by
            have r := ok.2.2.2.2.2.1 (o + 1) (by omega)
            unfold dy_row at r
            omega
          refine ⟨2, ?_⟩
          rw [wl_M_behindEnds_2]
          simp (disch := omega) only [e7, e0, e4, ewo, eo, wb_M_behindEnds_75, wb_M_behindEnds_76, wb_M_behindEnds_95, eb, zi_0, zi_1, zi_2, zi_3, zi_4, zi_5, zi_6, zi_7, zi_8, zi_9, zi_10, zi_11, zi_12, zi_13, zi_14, zi_15, zi_16, zi_17, zi_18, zi_19, zi_20, zi_21, zi_22, zi_23, zi_24, zi_25, zi_26, zi_30, zi_31, zi_32, zi_34, zi_38, zi_59, zi_60, zi_61, zi_63, zi_64, zi_80, zi_96, zi_97, zi_99, zi_100, zi_122, zi_255, zi_256, zi_300, zi_398, zi_406, zi_900, zi_1000, zi_1024, zi_1624, zi_1662, zi_2030, zi_2031, zi_2068, zi_2258, zi_9999, zi_48, zi_57, zi_65536, zi_3257, zi_11483, zi_1000000, zi_729, zi_81, zi_m1, nI_add, pk_mul, nI_ltI, nI_leI, nI_eq, nI_clamp, zn_in, zn_sub1lt, zn_M, zn_Ml, zn_Mg, zn_Mle, zn_Mge, zn_sub, Nat.reduceAdd, Nat.reduceMul, forall_eq, true_imp_iff, false_imp_iff, and_true, true_and, not_true_eq_false, not_false_eq_true, reduceCtorEq, imp_self, eq_self, false_and, and_false, implies_true]
          have fin : wl_M_behindEnds_2 L R 103 p1 Q 1 (am_u2 I 130 o (nI (tl o - 1))) (nI (o + 1)) := by
            rw [wl_M_behindEnds_2]
            simp (disch := omega) only [e71, e01, zi_0, zi_1, zi_2, zi_3, zi_4, zi_5, zi_6, zi_7, zi_8, zi_9, zi_10, zi_11, zi_12, zi_13, zi_14, zi_15, zi_16, zi_17, zi_18, zi_19, zi_20, zi_21, zi_22, zi_23, zi_24, zi_25, zi_26, zi_30, zi_31, zi_32, zi_34, zi_38, zi_59, zi_60, zi_61, zi_63, zi_64, zi_80, zi_96, zi_97, zi_99, zi_100, zi_122, zi_255, zi_256, zi_300, zi_398, zi_406, zi_900, zi_1000, zi_1024, zi_1624, zi_1662, zi_2030, zi_2031, zi_2068, zi_2258, zi_9999, zi_48, zi_57, zi_65536, zi_3257, zi_11483, zi_1000000, zi_729, zi_81, zi_m1, nI_add, pk_mul, nI_ltI, nI_leI, nI_eq, nI_clamp, zn_in, zn_sub1lt, zn_M, zn_Ml, zn_Mg, zn_Mle, zn_Mge, zn_sub, Nat.reduceAdd, Nat.reduceMul]
            exact ⟨fun x => absurd x (by omega), fun _ => ⟨by omega, fun x => absurd x n19, fun _ => k2⟩⟩
          repeat' (first | omega | with_reducible refine And.intro ?_ ?_ | with_reducible intro g)
          all_goals exact fin
    · -- the end of a when
      obtain ⟨k2, tl2, nE, r1, r2, r3, r4, hU, hM⟩ := ih (k + 1) tl (by omega) dpc1 (fun x hx => ht x (sub1 x hx))
      have wlo : 1700 ≤ q (38 + 6 * o) := c2.resolve_left lp
      have wo : q (38 + 6 * o) < 2 ^ 31 ∧ ¬ dy_w (q (38 + 6 * o)) = 22 ∧ dy_w (q (38 + 6 * o)) < 100 := by
        have r := (dy_when ok (show o + 1 < q 7 by omega) wlo).2
        rcases r with ⟨e, _⟩ | ⟨e, _⟩ | ⟨e, _⟩ | ⟨e, _⟩ <;> rw [e] <;> decide
      refine ⟨k2, tl2, nE + 1, r1, r2, by omega, r4, ?_, ?_⟩
      · intro c d v I L R p2 Q z i hcd hv h e9 et hi K
        obtain ⟨dw1, _, _, _, dw5⟩ := h.dy.2.2 k hk7
        have ew : I (d + 1) k = nI 23 := by rw [dw1, w]; rfl
        have e5 : I (d + 5) k = nI o := by rw [dw5 (by omega), ho]
        have ewo := (h.dy.2.2 o (by omega)).1
        have e6 : I d 6 = nI (q 7 - 1) := h.dy.2.1 (by omega)
        rw [← Nat.add_assoc, wl_Life_run_51]
        simp (disch := omega) only [zi_100000, e6, e9, ew, e5, ewo, wp_Life_behindEnd, zi_0, zi_1, zi_2, zi_3, zi_4, zi_5, zi_6, zi_7, zi_8, zi_9, zi_10, zi_11, zi_12, zi_13, zi_14, zi_15, zi_16, zi_17, zi_18, zi_19, zi_20, zi_21, zi_22, zi_23, zi_24, zi_25, zi_26, zi_30, zi_31, zi_32, zi_34, zi_38, zi_59, zi_60, zi_61, zi_63, zi_64, zi_80, zi_96, zi_97, zi_99, zi_100, zi_122, zi_255, zi_256, zi_300, zi_398, zi_406, zi_900, zi_1000, zi_1024, zi_1624, zi_1662, zi_2030, zi_2031, zi_2068, zi_2258, zi_9999, zi_48, zi_57, zi_65536, zi_3257, zi_11483, zi_1000000, zi_729, zi_81, zi_m1, nI_add, pk_mul, nI_ltI, nI_leI, nI_eq, nI_clamp, zn_in, zn_sub1lt, zn_M, zn_Ml, zn_Mg, zn_Mle, zn_Mge, zn_sub, Nat.reduceAdd, Nat.reduceMul]
        refine ⟨fun x => absurd x (by omega), fun _ => ⟨fun x => absurd x (by omega), fun _ => ⟨fun _ => ⟨by omega, fun _ => ⟨by omega, by omega, fun x => absurd x wo.2.1, fun _ => ?_⟩, fun x => absurd trivial x⟩, fun x => absurd trivial x⟩⟩⟩
        refine hU c d v I L R p2 Q z (i + 1) hcd hv h e9 (fun x hx => et x (sub1 x hx)) (by omega) (fun I2 s2 t2 f2 => ?_)
        rw [show i + 1 + nE = i + (nE + 1) by omega]
        exact K I2 s2 t2 f2
      · intro I L R p1 Q h et K
        have e7 : I 104 7 = nI (q 7 - 1) := by rw [h.n7, zn_sub (by omega)]
        have e0 := h.r0 hk7
        rw [w] at e0
        have e4 := h.r4 hk7
        rw [ho] at e4
        have ewo := h.r0 (j := o) (by omega)
        have eb : I 130 o - am_b false = I 130 o := Int32.sub_zero _
        have s1 : sq_M q 0 (am_u2 I 130 o (I 130 o)) L := h.keep (fun k _ _ => by rw [am_u2o (by omega)]) rfl o7
        have sid : ∀ x, am_u2 I 130 o (I 130 o) 130 x = I 130 x := fun x => by
          unfold am_u2
          by_cases e : x = o
          · rw [if_pos ⟨rfl, e⟩, e]
          · rw [if_neg (fun y => e y.2)]
        obtain ⟨z, hz⟩ := hM (am_u2 I 130 o (I 130 o)) L R p1 Q s1 (fun x hx => by rw [sid]; exact et x (sub1 x hx)) (fun I1 s1 t1 f1 => K I1 s1 t1 (fun r hr => by rw [f1 r hr, am_u2_row _ _ _ _ hr]))
        refine ⟨z + 1, ?_⟩
        rw [wl_M_behindEnds_2]
        simp (disch := omega) only [e7, e0, e4, ewo, wb_M_behindEnds_75, wb_M_behindEnds_76, wb_M_behindEnds_95, eb, zi_0, zi_1, zi_2, zi_3, zi_4, zi_5, zi_6, zi_7, zi_8, zi_9, zi_10, zi_11, zi_12, zi_13, zi_14, zi_15, zi_16, zi_17, zi_18, zi_19, zi_20, zi_21, zi_22, zi_23, zi_24, zi_25, zi_26, zi_30, zi_31, zi_32, zi_34, zi_38, zi_59, zi_60, zi_61, zi_63, zi_64, zi_80, zi_96, zi_97, zi_99, zi_100, zi_122, zi_255, zi_256, zi_300, zi_398, zi_406, zi_900, zi_1000, zi_1024, zi_1624, zi_1662, zi_2030, zi_2031, zi_2068, zi_2258, zi_9999, zi_48, zi_57, zi_65536, zi_3257, zi_11483, zi_1000000, zi_729, zi_81, zi_m1, nI_add, pk_mul, nI_ltI, nI_leI, nI_eq, nI_clamp, zn_in, zn_sub1lt, zn_M, zn_Ml, zn_Mg, zn_Mle, zn_Mge, zn_sub, Nat.reduceAdd, Nat.reduceMul, forall_eq, true_imp_iff, false_imp_iff, and_true, true_and, not_true_eq_false, not_false_eq_true, reduceCtorEq, imp_self, eq_self, false_and, and_false, implies_true]
        repeat' (first | omega | with_reducible refine And.intro ?_ ?_ | with_reducible intro g)
        all_goals exact hz
/-- a loop in which nothing is: the reference turns it -/
theorem en_empty (ok : sq_Ok q) {o : Nat} (ho : o + 2 < q 7) (lp : q (38 + 6 * o) = 18) (cl : q (42 + 6 * o) = o + 1) {p1 : Int32} {Q : Int32 → am_TI → Prop} : ∀ x I, x ≤ 98 → sq_M q 0 I L → I 130 o = nI x → (∀ I1, sq_M q 0 I1 L → (∀ r j, ¬ (r = 130 ∧ j = o) → I1 r j = I r j) → ∃ z, wl_M_behindEnds_2 L R 103 p1 Q z I1 (nI (o + 2))) → ∃ z, wl_M_behindEnds_2 L R 103 p1 Q z I (nI (o + 1)) := by
  have o7 := ok.2.2.2.2.1
  obtain ⟨⟨_, d2, d3, d4⟩, _, _⟩ := dy_opn ok (show o + 1 < q 7 by omega) lp
  rw [cl] at d2 d3 d4
  intro x
  induction x with
  | zero =>
    intro I _ h eo K
    have e7 : I 104 7 = nI (q 7 - 1) := by rw [h.n7, zn_sub (by omega)]
    have e0 := h.r0 (j := o + 1) (by omega)
    rw [d3] at e0
    have e4 := h.r4 (j := o + 1) (by omega)
    rw [d4] at e4
    have ewo := h.r0 (j := o) (by omega)
    rw [lp] at ewo
    have eb : nI 0 - am_b false = nI 0 := by decide
    obtain ⟨z, hz⟩ := K (am_u2 I 130 o (nI 0)) (h.keep (fun k _ _ => by rw [am_u2o (by omega)]) rfl o7) (fun r j g => by unfold am_u2; rw [if_neg g])
    refine ⟨z + 1, ?_⟩
    rw [wl_M_behindEnds_2]
    simp (disch := omega) only [e7, e0, e4, ewo, eo, wb_M_behindEnds_75, wb_M_behindEnds_76, wb_M_behindEnds_95, eb, zi_0, zi_1, zi_2, zi_3, zi_4, zi_5, zi_6, zi_7, zi_8, zi_9, zi_10, zi_11, zi_12, zi_13, zi_14, zi_15, zi_16, zi_17, zi_18, zi_19, zi_20, zi_21, zi_22, zi_23, zi_24, zi_25, zi_26, zi_30, zi_31, zi_32, zi_34, zi_38, zi_59, zi_60, zi_61, zi_63, zi_64, zi_80, zi_96, zi_97, zi_99, zi_100, zi_122, zi_255, zi_256, zi_300, zi_398, zi_406, zi_900, zi_1000, zi_1024, zi_1624, zi_1662, zi_2030, zi_2031, zi_2068, zi_2258, zi_9999, zi_48, zi_57, zi_65536, zi_3257, zi_11483, zi_1000000, zi_729, zi_81, zi_m1, nI_add, pk_mul, nI_ltI, nI_leI, nI_eq, nI_clamp, zn_in, zn_sub1lt, zn_M, zn_Ml, zn_Mg, zn_Mle, zn_Mge, zn_sub, Nat.reduceAdd, Nat.reduceMul, forall_eq, true_imp_iff, false_imp_iff, and_true, true_and, not_true_eq_false, not_false_eq_true, reduceCtorEq, imp_self, eq_self, false_and, and_false, implies_true]
    repeat' (first | omega | with_reducible refine And.intro ?_ ?_ | with_reducible intro g)
    all_goals exact hz
  | succ x ih =>
    intro I hx h eo K
    have e7 : I 104 7 = nI (q 7 - 1) := by rw [h.n7, zn_sub (by omega)]
    have e0 := h.r0 (j := o + 1) (by omega)
    rw [d3] at e0
    have e4 := h.r4 (j := o + 1) (by omega)
    rw [d4] at e4
    have ewo := h.r0 (j := o) (by omega)
    rw [lp] at ewo
    have eb : nI (x + 1) - am_b true = nI x := zn_sub (b := 1) (by omega)
    obtain ⟨z, hz⟩ := ih (am_u2 I 130 o (nI x)) (by omega) (h.keep (fun k _ _ => by rw [am_u2o (by omega)]) rfl o7) (am_u2_at _ _ _ _) (fun I1 s1 f1 => K I1 s1 (fun r j g => by rw [f1 r j g]; unfold am_u2; rw [if_neg g]))
    refine ⟨z + 1, ?_⟩
    rw [wl_M_behindEnds_2]
    simp (disch := omega) only [e7, e0, e4, ewo, eo, wb_M_behindEnds_75, wb_M_behindEnds_76, wb_M_behindEnds_95, eb, zi_0, zi_1, zi_2, zi_3, zi_4, zi_5, zi_6, zi_7, zi_8, zi_9, zi_10, zi_11, zi_12, zi_13, zi_14, zi_15, zi_16, zi_17, zi_18, zi_19, zi_20, zi_21, zi_22, zi_23, zi_24, zi_25, zi_26, zi_30, zi_31, zi_32, zi_34, zi_38, zi_59, zi_60, zi_61, zi_63, zi_64, zi_80, zi_96, zi_97, zi_99, zi_100, zi_122, zi_255, zi_256, zi_300, zi_398, zi_406, zi_900, zi_1000, zi_1024, zi_1624, zi_1662, zi_2030, zi_2031, zi_2068, zi_2258, zi_9999, zi_48, zi_57, zi_65536, zi_3257, zi_11483, zi_1000000, zi_729, zi_81, zi_m1, nI_add, pk_mul, nI_ltI, nI_leI, nI_eq, nI_clamp, zn_in, zn_sub1lt, zn_M, zn_Ml, zn_Mg, zn_Mle, zn_Mge, zn_sub, Nat.reduceAdd, Nat.reduceMul, forall_eq, true_imp_iff, false_imp_iff, and_true, true_and, not_true_eq_false, not_false_eq_true, reduceCtorEq, imp_self, eq_self, false_and, and_false, implies_true]
    repeat' (first | omega | with_reducible refine And.intro ?_ ?_ | with_reducible intro g)
    all_goals exact hz
end
