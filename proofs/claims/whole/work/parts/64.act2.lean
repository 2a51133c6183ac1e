/-! days: each kind of step -/
def dw (s : Nat) : Nat := (s * 3257 + 11483) % 65536
section
variable {q : Nat → Nat} {c d : Nat} {I I0 I1 I2 : am_TI} {L L1 L2 : am_TL} {R : am_TR}
theorem dw_i {s : Nat} (hs : s < 65536) : (nI s * nI 3257 + nI 11483) - (nI s * nI 3257 + nI 11483) / nI 65536 * nI 65536 = nI (dw s) := by
  rw [pk_mul, nI_add, pk_rem (by omega) (by omega) (by omega)]; rfl
theorem dw_lt (s : Nat) : dw s < 65536 := Nat.mod_lt _ (by decide)
theorem dw_q {s n : Nat} (hs : s < 65536) (h0 : 0 < n) (hn : n < 1000) : nI s / nI 8 - nI s / nI 8 / nI n * nI n = nI (s / 8 % n) := by
  rw [pk_div (by omega) (by omega) (by omega), pk_rem (by omega) h0 (by omega)]
theorem su_draw {v s n : Nat} (hs : s < 65536) (h0 : 0 < n) (hn : n < 1000) (e : I v 1 = nI s) {Q : Int32 → am_TI → Prop} (k : Q (nI (dw s / 8 % n)) (am_u2 I v 1 (nI (dw s)))) : wp_Life_draw I L R v (nI n) Q := by
  have dl := dw_lt s
  intro I1 h1
  have e1 : I1 = am_u2 I v 1 (nI (dw s)) := by
    rw [h1, e]
    exact congrArg (am_u2 I v 1) (dw_i hs)
  have e2 : I1 v 1 = nI (dw s) := by rw [e1, am_u2_at]
  rw [e2]
  have n0 : ¬ nI n = nI 0 := by rw [nI_eq (by omega) (by omega)]; omega
  refine ⟨fun x => ?_, fun _ => ⟨n0, ?_⟩⟩
  · have x2 : nI n ≤ nI 0 := x
    rw [nI_leI (by omega) (by omega)] at x2; omega
  · have e3 : (nI (dw s) / 8) - (nI (dw s) / 8) / nI n * nI n = nI (dw s / 8 % n) := dw_q dl h0 hn
    rw [e3, e1]; exact k
theorem sm_draw {s n : Nat} (hs : s < 65536) (h0 : 0 < n) (hn : n < 1000) (e : I 103 44 = nI s) {Q : Int32 → am_TI → Prop} (k : Q (nI (dw s / 8 % n)) (am_u2 I 103 44 (nI (dw s)))) : wp_M_draw I L R 103 (nI n) Q := by
  have dl := dw_lt s
  intro I1 h1
  have e1 : I1 = am_u2 I 103 44 (nI (dw s)) := by
    rw [h1, e]
    exact congrArg (am_u2 I 103 44) (dw_i hs)
  have e2 : I1 103 44 = nI (dw s) := by rw [e1, am_u2_at]
  rw [e2]
  have n0 : ¬ nI n = nI 0 := by rw [nI_eq (by omega) (by omega)]; omega
  refine ⟨n0, ?_⟩
  have e3 : (nI (dw s) / 8) - (nI (dw s) / 8) / nI n * nI n = nI (dw s / 8 % n) := dw_q dl h0 hn
  rw [e3, e1]; exact k
theorem lk_U.s {v s s' k : Nat} {x : Int32} (h : lk_U c v I0 I s 0 0 0 0) (hv : v = 12 ∨ v = 14) (hk : (k = 1 ∧ x = nI s') ∨ ((k = 2 ∨ k = 3 ∨ k = 4) ∧ s' = s)) : lk_U c v I0 (am_u2 I v k x) s' 0 0 0 0 := by
  obtain ⟨a1, a2, a3, a4, a5, a6, a7⟩ := h
  refine ⟨?_, by rw [am_u2_ne _ _ _ _ (by omega)]; exact a2, by rw [am_u2_ne _ _ _ _ (by omega)]; exact a3, by rw [am_u2_ne _ _ _ _ (by omega)]; exact a4, by rw [am_u2_ne _ _ _ _ (by omega)]; exact a5, fun k hk => by rw [am_u2_ne _ _ _ _ (by omega)]; exact a6 k hk, fun r h1 h2 => by rw [am_u2_row _ _ _ _ h2]; exact a7 r h1 h2⟩
  rcases hk with ⟨rfl, rfl⟩ | ⟨hk, rfl⟩
  · rw [am_u2_at]
  · rw [am_u2_ne _ _ _ _ (by omega)]; exact a1
theorem lk_M.s {s s' : Nat} (h : lk_M I0 I s 0 0 0) : lk_M I0 (am_u2 I 103 44 (nI s')) s' 0 0 0 := by
  obtain ⟨a1, a2, a3, a4, a5, a6, a7⟩ := h
  exact ⟨am_u2_at _ _ _ _, by rw [am_u2o (by omega)]; exact a2, by rw [am_u2o (by omega)]; exact a3, by rw [am_u2o (by omega)]; exact a4, by rw [am_u2o (by omega)]; exact a5, by rw [am_u2o (by omega)]; exact a6, fun r k x y w => by unfold am_u2; rw [if_neg y]; exact a7 r k x y w⟩
theorem ac_p10 (ok : sq_Ok q) {j s : Nat} (hs0 : s < 65536) (hj : j + 1 < q 7) (e : q (38 + 6 * j) = 10) (hx : q (39 + 6 * j) < q 2) : ac q j s := by
  have o := ok.1.2.2.1
  have o7 := ok.2.2.2.2.1
  have oc := ok.cells
  obtain ⟨q', dm, dp, dc, okq, eo, hm, hU, hM⟩ := ac_play (s := s) (t := q (39 + 6 * j)) ok (by omega)
  refine ⟨q', s, dm, dp, dc, 0, okq, eo, hs0, hm, ?_, ?_⟩
  · intro c d v I L R Q hcd hv hd h hs K
    have hc := hcd.1
    have z0 : lk_U c v I I s 0 0 0 0 := lk_U.z fr_S.rfl hc hv hs
    have ew := dy_word h hj e (show dy_w 10 = 10 from rfl)
    have e1 : I (d + 2) j = nI (q (39 + 6 * j)) := (h.dy.2.2 j hj).2.1 (by omega)
    simp (disch := omega) only [wp_Life_act, hd, ew, e1, zi_0, zi_1, zi_2, zi_3, zi_4, zi_5, zi_6, zi_7, zi_8, zi_9, zi_10, zi_11, zi_12, zi_13, zi_14, zi_15, zi_16, zi_17, zi_18, zi_19, zi_20, zi_21, zi_22, zi_23, zi_24, zi_25, zi_26, zi_30, zi_31, zi_32, zi_34, zi_38, zi_59, zi_60, zi_61, zi_63, zi_64, zi_80, zi_96, zi_97, zi_99, zi_100, zi_122, zi_255, zi_256, zi_300, zi_398, zi_406, zi_900, zi_1000, zi_1024, zi_1624, zi_1662, zi_2030, zi_2031, zi_2068, zi_2258, zi_9999, zi_48, zi_57, zi_65536, zi_3257, zi_11483, zi_1000000, zi_729, zi_81, zi_m1, nI_add, pk_mul, nI_ltI, nI_leI, nI_eq, nI_clamp, zn_in, zn_sub1lt, zn_M, zn_Ml, zn_Mg, zn_Mle, zn_Mge, zn_sub, Nat.reduceAdd, Nat.reduceMul, forall_eq, true_imp_iff, false_imp_iff, and_true, true_and, not_true_eq_false, not_false_eq_true, reduceCtorEq, imp_self, eq_self, false_and, and_false, implies_true]
    repeat' (first | omega | with_reducible refine And.intro ?_ ?_ | with_reducible intro g)
    exact hU c d v I I L R Q hcd hv h z0 K
  · intro I L R Q h hs K
    have z0 : lk_M I I s 0 0 0 := lk_M.z fr_P.rfl hs
    have ew := h.r0 hj
    rw [e] at ew
    have e1 := h.r1 hj
    have e2 := h.r2 hj
    simp (disch := omega) only [wp_M_does, ew, e1, e2, zi_0, zi_1, zi_2, zi_3, zi_4, zi_5, zi_6, zi_7, zi_8, zi_9, zi_10, zi_11, zi_12, zi_13, zi_14, zi_15, zi_16, zi_17, zi_18, zi_19, zi_20, zi_21, zi_22, zi_23, zi_24, zi_25, zi_26, zi_30, zi_31, zi_32, zi_34, zi_38, zi_59, zi_60, zi_61, zi_63, zi_64, zi_80, zi_96, zi_97, zi_99, zi_100, zi_122, zi_255, zi_256, zi_300, zi_398, zi_406, zi_900, zi_1000, zi_1024, zi_1624, zi_1662, zi_2030, zi_2031, zi_2068, zi_2258, zi_9999, zi_48, zi_57, zi_65536, zi_3257, zi_11483, zi_1000000, zi_729, zi_81, zi_m1, nI_add, pk_mul, nI_ltI, nI_leI, nI_eq, nI_clamp, zn_in, zn_sub1lt, zn_M, zn_Ml, zn_Mg, zn_Mle, zn_Mge, zn_sub, Nat.reduceAdd, Nat.reduceMul, forall_eq, true_imp_iff, false_imp_iff, and_true, true_and, not_true_eq_false, not_false_eq_true, reduceCtorEq, imp_self, eq_self, false_and, and_false, implies_true]
    repeat' (first | omega | with_reducible refine And.intro ?_ ?_ | with_reducible intro g)
    exact hM I I L R _ h z0 K
theorem ac_p12 (ok : sq_Ok q) {j s : Nat} (hs0 : s < 65536) (hj : j + 1 < q 7) (e : q (38 + 6 * j) = 12) (hx : q (39 + 6 * j) < q 0 * q 1) : ac q j s := by
  have o := ok.1.2.2.1
  have o7 := ok.2.2.2.2.1
  have oc := ok.cells
  obtain ⟨q', dm, dh, okq, eo, hm, hU, hM⟩ := ac_thr (s := s) (x := q (39 + 6 * j)) ok (by omega)
  refine ⟨q', s, dm, 0, 0, dh, okq, eo, hs0, hm, ?_, ?_⟩
  · intro c d v I L R Q hcd hv hd h hs K
    have hc := hcd.1
    have z0 : lk_U c v I I s 0 0 0 0 := lk_U.z fr_S.rfl hc hv hs
    have ew := dy_word h hj e (show dy_w 12 = 12 from rfl)
    have e1 : I (d + 2) j = nI (q (39 + 6 * j)) := (h.dy.2.2 j hj).2.1 (by omega)
    simp (disch := omega) only [wp_Life_act, hd, ew, e1, zi_0, zi_1, zi_2, zi_3, zi_4, zi_5, zi_6, zi_7, zi_8, zi_9, zi_10, zi_11, zi_12, zi_13, zi_14, zi_15, zi_16, zi_17, zi_18, zi_19, zi_20, zi_21, zi_22, zi_23, zi_24, zi_25, zi_26, zi_30, zi_31, zi_32, zi_34, zi_38, zi_59, zi_60, zi_61, zi_63, zi_64, zi_80, zi_96, zi_97, zi_99, zi_100, zi_122, zi_255, zi_256, zi_300, zi_398, zi_406, zi_900, zi_1000, zi_1024, zi_1624, zi_1662, zi_2030, zi_2031, zi_2068, zi_2258, zi_9999, zi_48, zi_57, zi_65536, zi_3257, zi_11483, zi_1000000, zi_729, zi_81, zi_m1, nI_add, pk_mul, nI_ltI, nI_leI, nI_eq, nI_clamp, zn_in, zn_sub1lt, zn_M, zn_Ml, zn_Mg, zn_Mle, zn_Mge, zn_sub, Nat.reduceAdd, Nat.reduceMul, forall_eq, true_imp_iff, false_imp_iff, and_true, true_and, not_true_eq_false, not_false_eq_true, reduceCtorEq, imp_self, eq_self, false_and, and_false, implies_true]
    repeat' (first | omega | with_reducible refine And.intro ?_ ?_ | with_reducible intro g)
    exact hU c d v I I L R Q hcd hv h z0 K
  · intro I L R Q h hs K
    have z0 : lk_M I I s 0 0 0 := lk_M.z fr_P.rfl hs
    have ew := h.r0 hj
    rw [e] at ew
    have e1 := h.r1 hj
    have e2 := h.r2 hj
    simp (disch := omega) only [wp_M_does, ew, e1, e2, zi_0, zi_1, zi_2, zi_3, zi_4, zi_5, zi_6, zi_7, zi_8, zi_9, zi_10, zi_11, zi_12, zi_13, zi_14, zi_15, zi_16, zi_17, zi_18, zi_19, zi_20, zi_21, zi_22, zi_23, zi_24, zi_25, zi_26, zi_30, zi_31, zi_32, zi_34, zi_38, zi_59, zi_60, zi_61, zi_63, zi_64, zi_80, zi_96, zi_97, zi_99, zi_100, zi_122, zi_255, zi_256, zi_300, zi_398, zi_406, zi_900, zi_1000, zi_1024, zi_1624, zi_1662, zi_2030, zi_2031, zi_2068, zi_2258, zi_9999, zi_48, zi_57, zi_65536, zi_3257, zi_11483, zi_1000000, zi_729, zi_81, zi_m1, nI_add, pk_mul, nI_ltI, nI_leI, nI_eq, nI_clamp, zn_in, zn_sub1lt, zn_M, zn_Ml, zn_Mg, zn_Mle, zn_Mge, zn_sub, Nat.reduceAdd, Nat.reduceMul, forall_eq, true_imp_iff, false_imp_iff, and_true, true_and, not_true_eq_false, not_false_eq_true, reduceCtorEq, imp_self, eq_self, false_and, and_false, implies_true]
    repeat' (first | omega | with_reducible refine And.intro ?_ ?_ | with_reducible intro g)
    exact hM I I L R _ h z0 K
theorem ac_p11 (ok : sq_Ok q) {j s : Nat} (hs0 : s < 65536) (hj : j + 1 < q 7) (e : q (38 + 6 * j) = 11) (hx : q (39 + 6 * j) < q 0 * q 1) : ac q j s := by
  have o := ok.1.2.2.1
  have o7 := ok.2.2.2.2.1
  have oc := ok.cells
  by_cases g6 : q 6 = q (39 + 6 * j)
  ·
    refine ⟨q, s, 1, 0, 0, 0, ok, fun _ _ => rfl, hs0, by omega, ?_, ?_⟩
    · intro c d v I L R Q hcd hv hd h hs K
      have hc := hcd.1
      have z0 : lk_U c v I I s 0 0 0 0 := lk_U.z fr_S.rfl hc hv hs
      have ew := dy_word h hj e (show dy_w 11 = 11 from rfl)
      have e1 : I (d + 2) j = nI (q (39 + 6 * j)) := (h.dy.2.2 j hj).2.1 (by omega)
      simp (disch := omega) only [wp_Life_act, hd, ew, e1, zi_0, zi_1, zi_2, zi_3, zi_4, zi_5, zi_6, zi_7, zi_8, zi_9, zi_10, zi_11, zi_12, zi_13, zi_14, zi_15, zi_16, zi_17, zi_18, zi_19, zi_20, zi_21, zi_22, zi_23, zi_24, zi_25, zi_26, zi_30, zi_31, zi_32, zi_34, zi_38, zi_59, zi_60, zi_61, zi_63, zi_64, zi_80, zi_96, zi_97, zi_99, zi_100, zi_122, zi_255, zi_256, zi_300, zi_398, zi_406, zi_900, zi_1000, zi_1024, zi_1624, zi_1662, zi_2030, zi_2031, zi_2068, zi_2258, zi_9999, zi_48, zi_57, zi_65536, zi_3257, zi_11483, zi_1000000, zi_729, zi_81, zi_m1, nI_add, pk_mul, nI_ltI, nI_leI, nI_eq, nI_clamp, zn_in, zn_sub1lt, zn_M, zn_Ml, zn_Mg, zn_Mle, zn_Mge, zn_sub, Nat.reduceAdd, Nat.reduceMul, forall_eq, true_imp_iff, false_imp_iff, and_true, true_and, not_true_eq_false, not_false_eq_true, reduceCtorEq, imp_self, eq_self, false_and, and_false, implies_true]
      repeat' (first | omega | with_reducible refine And.intro ?_ ?_ | with_reducible intro g)
      have e6 := h.n6
      simp (disch := omega) only [wp_Square_moveOrgan, e6, zi_0, zi_1, zi_2, zi_3, zi_4, zi_5, zi_6, zi_7, zi_8, zi_9, zi_10, zi_11, zi_12, zi_13, zi_14, zi_15, zi_16, zi_17, zi_18, zi_19, zi_20, zi_21, zi_22, zi_23, zi_24, zi_25, zi_26, zi_30, zi_31, zi_32, zi_34, zi_38, zi_59, zi_60, zi_61, zi_63, zi_64, zi_80, zi_96, zi_97, zi_99, zi_100, zi_122, zi_255, zi_256, zi_300, zi_398, zi_406, zi_900, zi_1000, zi_1024, zi_1624, zi_1662, zi_2030, zi_2031, zi_2068, zi_2258, zi_9999, zi_48, zi_57, zi_65536, zi_3257, zi_11483, zi_1000000, zi_729, zi_81, zi_m1, nI_add, pk_mul, nI_ltI, nI_leI, nI_eq, nI_clamp, zn_in, zn_sub1lt, zn_M, zn_Ml, zn_Mg, zn_Mle, zn_Mge, zn_sub, Nat.reduceAdd, Nat.reduceMul, forall_eq, true_imp_iff, false_imp_iff, and_true, true_and, not_true_eq_false, not_false_eq_true, reduceCtorEq, imp_self, eq_self, false_and, and_false, implies_true]
      refine ⟨fun _ => su_miss h hcd hv z0 (Or.inl ⟨rfl, rfl⟩) K, fun x => absurd g6 x⟩
    · intro I L R Q h hs K
      have z0 : lk_M I I s 0 0 0 := lk_M.z fr_P.rfl hs
      have ew := h.r0 hj
      rw [e] at ew
      have e1 := h.r1 hj
      have e2 := h.r2 hj
      simp (disch := omega) only [wp_M_does, ew, e1, e2, zi_0, zi_1, zi_2, zi_3, zi_4, zi_5, zi_6, zi_7, zi_8, zi_9, zi_10, zi_11, zi_12, zi_13, zi_14, zi_15, zi_16, zi_17, zi_18, zi_19, zi_20, zi_21, zi_22, zi_23, zi_24, zi_25, zi_26, zi_30, zi_31, zi_32, zi_34, zi_38, zi_59, zi_60, zi_61, zi_63, zi_64, zi_80, zi_96, zi_97, zi_99, zi_100, zi_122, zi_255, zi_256, zi_300, zi_398, zi_406, zi_900, zi_1000, zi_1024, zi_1624, zi_1662, zi_2030, zi_2031, zi_2068, zi_2258, zi_9999, zi_48, zi_57, zi_65536, zi_3257, zi_11483, zi_1000000, zi_729, zi_81, zi_m1, nI_add, pk_mul, nI_ltI, nI_leI, nI_eq, nI_clamp, zn_in, zn_sub1lt, zn_M, zn_Ml, zn_Mg, zn_Mle, zn_Mge, zn_sub, Nat.reduceAdd, Nat.reduceMul, forall_eq, true_imp_iff, false_imp_iff, and_true, true_and, not_true_eq_false, not_false_eq_true, reduceCtorEq, imp_self, eq_self, false_and, and_false, implies_true]
      repeat' (first | omega | with_reducible refine And.intro ?_ ?_ | with_reducible intro g)
      have e6 := h.n6
      simp (disch := omega) only [wp_M_grinds, wb_M_grinds_16, e6, zi_0, zi_1, zi_2, zi_3, zi_4, zi_5, zi_6, zi_7, zi_8, zi_9, zi_10, zi_11, zi_12, zi_13, zi_14, zi_15, zi_16, zi_17, zi_18, zi_19, zi_20, zi_21, zi_22, zi_23, zi_24, zi_25, zi_26, zi_30, zi_31, zi_32, zi_34, zi_38, zi_59, zi_60, zi_61, zi_63, zi_64, zi_80, zi_96, zi_97, zi_99, zi_100, zi_122, zi_255, zi_256, zi_300, zi_398, zi_406, zi_900, zi_1000, zi_1024, zi_1624, zi_1662, zi_2030, zi_2031, zi_2068, zi_2258, zi_9999, zi_48, zi_57, zi_65536, zi_3257, zi_11483, zi_1000000, zi_729, zi_81, zi_m1, nI_add, pk_mul, nI_ltI, nI_leI, nI_eq, nI_clamp, zn_in, zn_sub1lt, zn_M, zn_Ml, zn_Mg, zn_Mle, zn_Mge, zn_sub, Nat.reduceAdd, Nat.reduceMul, forall_eq, true_imp_iff, false_imp_iff, and_true, true_and, not_true_eq_false, not_false_eq_true, reduceCtorEq, imp_self, eq_self, false_and, and_false, implies_true]
      have h2 := h.put (k := 6) (by omega) (by omega) (by omega) (q (39 + 6 * j))
      rw [zu_same g6] at h2
      exact ⟨fun _ => K _ h2 (lk_M.z (fr_P.row (by omega) _) hs), fun x => absurd g6 x⟩
  ·
    refine ⟨zu q 6 (q (39 + 6 * j)), s, 0, 0, 0, 0, ok.put _ (by omega), fun k hk => zu_n (by omega), hs0, by omega, ?_, ?_⟩
    · intro c d v I L R Q hcd hv hd h hs K
      have hc := hcd.1
      have z0 : lk_U c v I I s 0 0 0 0 := lk_U.z fr_S.rfl hc hv hs
      have ew := dy_word h hj e (show dy_w 11 = 11 from rfl)
      have e1 : I (d + 2) j = nI (q (39 + 6 * j)) := (h.dy.2.2 j hj).2.1 (by omega)
      simp (disch := omega) only [wp_Life_act, hd, ew, e1, zi_0, zi_1, zi_2, zi_3, zi_4, zi_5, zi_6, zi_7, zi_8, zi_9, zi_10, zi_11, zi_12, zi_13, zi_14, zi_15, zi_16, zi_17, zi_18, zi_19, zi_20, zi_21, zi_22, zi_23, zi_24, zi_25, zi_26, zi_30, zi_31, zi_32, zi_34, zi_38, zi_59, zi_60, zi_61, zi_63, zi_64, zi_80, zi_96, zi_97, zi_99, zi_100, zi_122, zi_255, zi_256, zi_300, zi_398, zi_406, zi_900, zi_1000, zi_1024, zi_1624, zi_1662, zi_2030, zi_2031, zi_2068, zi_2258, zi_9999, zi_48, zi_57, zi_65536, zi_3257, zi_11483, zi_1000000, zi_729, zi_81, zi_m1, nI_add, pk_mul, nI_ltI, nI_leI, nI_eq, nI_clamp, zn_in, zn_sub1lt, zn_M, zn_Ml, zn_Mg, zn_Mle, zn_Mge, zn_sub, Nat.reduceAdd, Nat.reduceMul, forall_eq, true_imp_iff, false_imp_iff, and_true, true_and, not_true_eq_false, not_false_eq_true, reduceCtorEq, imp_self, eq_self, false_and, and_false, implies_true]
      repeat' (first | omega | with_reducible refine And.intro ?_ ?_ | with_reducible intro g)
      have e6 := h.n6
      have o6 := ok.or25
      simp (disch := omega) only [wp_Square_moveOrgan, e6, zi_0, zi_1, zi_2, zi_3, zi_4, zi_5, zi_6, zi_7, zi_8, zi_9, zi_10, zi_11, zi_12, zi_13, zi_14, zi_15, zi_16, zi_17, zi_18, zi_19, zi_20, zi_21, zi_22, zi_23, zi_24, zi_25, zi_26, zi_30, zi_31, zi_32, zi_34, zi_38, zi_59, zi_60, zi_61, zi_63, zi_64, zi_80, zi_96, zi_97, zi_99, zi_100, zi_122, zi_255, zi_256, zi_300, zi_398, zi_406, zi_900, zi_1000, zi_1024, zi_1624, zi_1662, zi_2030, zi_2031, zi_2068, zi_2258, zi_9999, zi_48, zi_57, zi_65536, zi_3257, zi_11483, zi_1000000, zi_729, zi_81, zi_m1, nI_add, pk_mul, nI_ltI, nI_leI, nI_eq, nI_clamp, zn_in, zn_sub1lt, zn_M, zn_Ml, zn_Mg, zn_Mle, zn_Mge, zn_sub, Nat.reduceAdd, Nat.reduceMul, forall_eq, true_imp_iff, false_imp_iff, and_true, true_and, not_true_eq_false, not_false_eq_true, reduceCtorEq, imp_self, eq_self, false_and, and_false, implies_true]
      refine ⟨fun x => absurd x g6, fun _ => su_far h ok o6 (by omega) ?_⟩
      have f50 := ok.far50 o6 (show q (39 + 6 * j) < 25 by omega)
      refine su_miss (h.putS hcd (by omega) (q (39 + 6 * j))) hcd hv (lk_U.z (fr_S.row (by omega) (by omega) _ _) hc hv hs) (Or.inr ⟨fun x => ze_nm1 (by omega) x, rfl⟩) K
    · intro I L R Q h hs K
      have z0 : lk_M I I s 0 0 0 := lk_M.z fr_P.rfl hs
      have ew := h.r0 hj
      rw [e] at ew
      have e1 := h.r1 hj
      have e2 := h.r2 hj
      simp (disch := omega) only [wp_M_does, ew, e1, e2, zi_0, zi_1, zi_2, zi_3, zi_4, zi_5, zi_6, zi_7, zi_8, zi_9, zi_10, zi_11, zi_12, zi_13, zi_14, zi_15, zi_16, zi_17, zi_18, zi_19, zi_20, zi_21, zi_22, zi_23, zi_24, zi_25, zi_26, zi_30, zi_31, zi_32, zi_34, zi_38, zi_59, zi_60, zi_61, zi_63, zi_64, zi_80, zi_96, zi_97, zi_99, zi_100, zi_122, zi_255, zi_256, zi_300, zi_398, zi_406, zi_900, zi_1000, zi_1024, zi_1624, zi_1662, zi_2030, zi_2031, zi_2068, zi_2258, zi_9999, zi_48, zi_57, zi_65536, zi_3257, zi_11483, zi_1000000, zi_729, zi_81, zi_m1, nI_add, pk_mul, nI_ltI, nI_leI, nI_eq, nI_clamp, zn_in, zn_sub1lt, zn_M, zn_Ml, zn_Mg, zn_Mle, zn_Mge, zn_sub, Nat.reduceAdd, Nat.reduceMul, forall_eq, true_imp_iff, false_imp_iff, and_true, true_and, not_true_eq_false, not_false_eq_true, reduceCtorEq, imp_self, eq_self, false_and, and_false, implies_true]
      repeat' (first | omega | with_reducible refine And.intro ?_ ?_ | with_reducible intro g)
      have e6 := h.n6
      have o6 := ok.or25
      simp (disch := omega) only [wp_M_grinds, wb_M_grinds_16, e6, zi_0, zi_1, zi_2, zi_3, zi_4, zi_5, zi_6, zi_7, zi_8, zi_9, zi_10, zi_11, zi_12, zi_13, zi_14, zi_15, zi_16, zi_17, zi_18, zi_19, zi_20, zi_21, zi_22, zi_23, zi_24, zi_25, zi_26, zi_30, zi_31, zi_32, zi_34, zi_38, zi_59, zi_60, zi_61, zi_63, zi_64, zi_80, zi_96, zi_97, zi_99, zi_100, zi_122, zi_255, zi_256, zi_300, zi_398, zi_406, zi_900, zi_1000, zi_1024, zi_1624, zi_1662, zi_2030, zi_2031, zi_2068, zi_2258, zi_9999, zi_48, zi_57, zi_65536, zi_3257, zi_11483, zi_1000000, zi_729, zi_81, zi_m1, nI_add, pk_mul, nI_ltI, nI_leI, nI_eq, nI_clamp, zn_in, zn_sub1lt, zn_M, zn_Ml, zn_Mg, zn_Mle, zn_Mge, zn_sub, Nat.reduceAdd, Nat.reduceMul, forall_eq, true_imp_iff, false_imp_iff, and_true, true_and, not_true_eq_false, not_false_eq_true, reduceCtorEq, imp_self, eq_self, false_and, and_false, implies_true]
      exact ⟨fun x => absurd x g6, fun _ => K _ (h.put (k := 6) (by omega) (by omega) (by omega) (q (39 + 6 * j))) (lk_M.z (fr_P.row (by omega) _) hs)⟩
theorem ac_p14 (ok : sq_Ok q) {j s : Nat} (hs0 : s < 65536) (hj : j + 1 < q 7) (e : q (38 + 6 * j) = 14) (hx : q (39 + 6 * j) < q 3) (hy : q (40 + 6 * j) < q 0 * q 1) : ac q j s := by
  have o := ok.1.2.2.1
  have o7 := ok.2.2.2.2.1
  have oc := ok.cells
  by_cases g6 : q (10 + 4 * q (39 + 6 * j)) = q (40 + 6 * j)
  ·
    refine ⟨q, s, 1, 0, 0, 0, ok, fun _ _ => rfl, hs0, by omega, ?_, ?_⟩
    · intro c d v I L R Q hcd hv hd h hs K
      have hc := hcd.1
      have z0 : lk_U c v I I s 0 0 0 0 := lk_U.z fr_S.rfl hc hv hs
      have ew := dy_word h hj e (show dy_w 14 = 14 from rfl)
      have e1 : I (d + 2) j = nI (q (39 + 6 * j)) := (h.dy.2.2 j hj).2.1 (by omega)
      have e2 : I (d + 3) j = nI (q (40 + 6 * j)) := (h.dy.2.2 j hj).2.2.1 (by omega)
      simp (disch := omega) only [wp_Life_act, hd, ew, e1, e2, zi_0, zi_1, zi_2, zi_3, zi_4, zi_5, zi_6, zi_7, zi_8, zi_9, zi_10, zi_11, zi_12, zi_13, zi_14, zi_15, zi_16, zi_17, zi_18, zi_19, zi_20, zi_21, zi_22, zi_23, zi_24, zi_25, zi_26, zi_30, zi_31, zi_32, zi_34, zi_38, zi_59, zi_60, zi_61, zi_63, zi_64, zi_80, zi_96, zi_97, zi_99, zi_100, zi_122, zi_255, zi_256, zi_300, zi_398, zi_406, zi_900, zi_1000, zi_1024, zi_1624, zi_1662, zi_2030, zi_2031, zi_2068, zi_2258, zi_9999, zi_48, zi_57, zi_65536, zi_3257, zi_11483, zi_1000000, zi_729, zi_81, zi_m1, nI_add, pk_mul, nI_ltI, nI_leI, nI_eq, nI_clamp, zn_in, zn_sub1lt, zn_M, zn_Ml, zn_Mg, zn_Mle, zn_Mge, zn_sub, Nat.reduceAdd, Nat.reduceMul, forall_eq, true_imp_iff, false_imp_iff, and_true, true_and, not_true_eq_false, not_false_eq_true, reduceCtorEq, imp_self, eq_self, false_and, and_false, implies_true]
      repeat' (first | omega | with_reducible refine And.intro ?_ ?_ | with_reducible intro g)
      have ea := h.at hx
      simp (disch := omega) only [wp_Square_moveHearer, ea, zi_0, zi_1, zi_2, zi_3, zi_4, zi_5, zi_6, zi_7, zi_8, zi_9, zi_10, zi_11, zi_12, zi_13, zi_14, zi_15, zi_16, zi_17, zi_18, zi_19, zi_20, zi_21, zi_22, zi_23, zi_24, zi_25, zi_26, zi_30, zi_31, zi_32, zi_34, zi_38, zi_59, zi_60, zi_61, zi_63, zi_64, zi_80, zi_96, zi_97, zi_99, zi_100, zi_122, zi_255, zi_256, zi_300, zi_398, zi_406, zi_900, zi_1000, zi_1024, zi_1624, zi_1662, zi_2030, zi_2031, zi_2068, zi_2258, zi_9999, zi_48, zi_57, zi_65536, zi_3257, zi_11483, zi_1000000, zi_729, zi_81, zi_m1, nI_add, pk_mul, nI_ltI, nI_leI, nI_eq, nI_clamp, zn_in, zn_sub1lt, zn_M, zn_Ml, zn_Mg, zn_Mle, zn_Mge, zn_sub, Nat.reduceAdd, Nat.reduceMul, forall_eq, true_imp_iff, false_imp_iff, and_true, true_and, not_true_eq_false, not_false_eq_true, reduceCtorEq, imp_self, eq_self, false_and, and_false, implies_true]
      refine ⟨by omega, fun _ => su_miss h hcd hv z0 (Or.inl ⟨rfl, rfl⟩) K, fun x => absurd g6 x⟩
    · intro I L R Q h hs K
      have z0 : lk_M I I s 0 0 0 := lk_M.z fr_P.rfl hs
      have ew := h.r0 hj
      rw [e] at ew
      have e1 := h.r1 hj
      have e2 := h.r2 hj
      simp (disch := omega) only [wp_M_does, ew, e1, e2, zi_0, zi_1, zi_2, zi_3, zi_4, zi_5, zi_6, zi_7, zi_8, zi_9, zi_10, zi_11, zi_12, zi_13, zi_14, zi_15, zi_16, zi_17, zi_18, zi_19, zi_20, zi_21, zi_22, zi_23, zi_24, zi_25, zi_26, zi_30, zi_31, zi_32, zi_34, zi_38, zi_59, zi_60, zi_61, zi_63, zi_64, zi_80, zi_96, zi_97, zi_99, zi_100, zi_122, zi_255, zi_256, zi_300, zi_398, zi_406, zi_900, zi_1000, zi_1024, zi_1624, zi_1662, zi_2030, zi_2031, zi_2068, zi_2258, zi_9999, zi_48, zi_57, zi_65536, zi_3257, zi_11483, zi_1000000, zi_729, zi_81, zi_m1, nI_add, pk_mul, nI_ltI, nI_leI, nI_eq, nI_clamp, zn_in, zn_sub1lt, zn_M, zn_Ml, zn_Mg, zn_Mle, zn_Mge, zn_sub, Nat.reduceAdd, Nat.reduceMul, forall_eq, true_imp_iff, false_imp_iff, and_true, true_and, not_true_eq_false, not_false_eq_true, reduceCtorEq, imp_self, eq_self, false_and, and_false, implies_true]
      repeat' (first | omega | with_reducible refine And.intro ?_ ?_ | with_reducible intro g)
      simp (disch := omega) only [wp_M_sends, zi_0, zi_1, zi_2, zi_3, zi_4, zi_5, zi_6, zi_7, zi_8, zi_9, zi_10, zi_11, zi_12, zi_13, zi_14, zi_15, zi_16, zi_17, zi_18, zi_19, zi_20, zi_21, zi_22, zi_23, zi_24, zi_25, zi_26, zi_30, zi_31, zi_32, zi_34, zi_38, zi_59, zi_60, zi_61, zi_63, zi_64, zi_80, zi_96, zi_97, zi_99, zi_100, zi_122, zi_255, zi_256, zi_300, zi_398, zi_406, zi_900, zi_1000, zi_1024, zi_1624, zi_1662, zi_2030, zi_2031, zi_2068, zi_2258, zi_9999, zi_48, zi_57, zi_65536, zi_3257, zi_11483, zi_1000000, zi_729, zi_81, zi_m1, nI_add, pk_mul, nI_ltI, nI_leI, nI_eq, nI_clamp, zn_in, zn_sub1lt, zn_M, zn_Ml, zn_Mg, zn_Mle, zn_Mge, zn_sub, Nat.reduceAdd, Nat.reduceMul, forall_eq, true_imp_iff, false_imp_iff, and_true, true_and, not_true_eq_false, not_false_eq_true, reduceCtorEq, imp_self, eq_self, false_and, and_false, implies_true]
      refine sm_hearerOf h (by omega) (by omega) ?_
      rw [Nat.add_zero]
      have a25 := ok.at25 hx
      simp (disch := omega) only [wb_M_sends_15, wp_M_hearerRow, zi_0, zi_1, zi_2, zi_3, zi_4, zi_5, zi_6, zi_7, zi_8, zi_9, zi_10, zi_11, zi_12, zi_13, zi_14, zi_15, zi_16, zi_17, zi_18, zi_19, zi_20, zi_21, zi_22, zi_23, zi_24, zi_25, zi_26, zi_30, zi_31, zi_32, zi_34, zi_38, zi_59, zi_60, zi_61, zi_63, zi_64, zi_80, zi_96, zi_97, zi_99, zi_100, zi_122, zi_255, zi_256, zi_300, zi_398, zi_406, zi_900, zi_1000, zi_1024, zi_1624, zi_1662, zi_2030, zi_2031, zi_2068, zi_2258, zi_9999, zi_48, zi_57, zi_65536, zi_3257, zi_11483, zi_1000000, zi_729, zi_81, zi_m1, nI_add, pk_mul, nI_ltI, nI_leI, nI_eq, nI_clamp, zn_in, zn_sub1lt, zn_M, zn_Ml, zn_Mg, zn_Mle, zn_Mge, zn_sub, Nat.reduceAdd, Nat.reduceMul, forall_eq, true_imp_iff, false_imp_iff, and_true, true_and, not_true_eq_false, not_false_eq_true, reduceCtorEq, imp_self, eq_self, false_and, and_false, implies_true]
      have h2 := h.put (k := 10 + 4 * q (39 + 6 * j)) (by omega) (by omega) (by omega) (q (40 + 6 * j))
      rw [zu_same g6] at h2
      exact ⟨fun _ => ⟨by omega, K _ h2 (lk_M.z (fr_P.row (by omega) _) hs)⟩, fun x => absurd g6 x⟩
  ·
    refine ⟨zu q (10 + 4 * q (39 + 6 * j)) (q (40 + 6 * j)), s, 0, 0, 0, 0, ok.put _ (Or.inr (Or.inr (Or.inr (Or.inr ⟨q (39 + 6 * j), by omega⟩)))), fun k hk => zu_n (by omega), hs0, by omega, ?_, ?_⟩
    · intro c d v I L R Q hcd hv hd h hs K
      have hc := hcd.1
      have z0 : lk_U c v I I s 0 0 0 0 := lk_U.z fr_S.rfl hc hv hs
      have ew := dy_word h hj e (show dy_w 14 = 14 from rfl)
      have e1 : I (d + 2) j = nI (q (39 + 6 * j)) := (h.dy.2.2 j hj).2.1 (by omega)
      have e2 : I (d + 3) j = nI (q (40 + 6 * j)) := (h.dy.2.2 j hj).2.2.1 (by omega)
      simp (disch := omega) only [wp_Life_act, hd, ew, e1, e2, zi_0, zi_1, zi_2, zi_3, zi_4, zi_5, zi_6, zi_7, zi_8, zi_9, zi_10, zi_11, zi_12, zi_13, zi_14, zi_15, zi_16, zi_17, zi_18, zi_19, zi_20, zi_21, zi_22, zi_23, zi_24, zi_25, zi_26, zi_30, zi_31, zi_32, zi_34, zi_38, zi_59, zi_60, zi_61, zi_63, zi_64, zi_80, zi_96, zi_97, zi_99, zi_100, zi_122, zi_255, zi_256, zi_300, zi_398, zi_406, zi_900, zi_1000, zi_1024, zi_1624, zi_1662, zi_2030, zi_2031, zi_2068, zi_2258, zi_9999, zi_48, zi_57, zi_65536, zi_3257, zi_11483, zi_1000000, zi_729, zi_81, zi_m1, nI_add, pk_mul, nI_ltI, nI_leI, nI_eq, nI_clamp, zn_in, zn_sub1lt, zn_M, zn_Ml, zn_Mg, zn_Mle, zn_Mge, zn_sub, Nat.reduceAdd, Nat.reduceMul, forall_eq, true_imp_iff, false_imp_iff, and_true, true_and, not_true_eq_false, not_false_eq_true, reduceCtorEq, imp_self, eq_self, false_and, and_false, implies_true]
      repeat' (first | omega | with_reducible refine And.intro ?_ ?_ | with_reducible intro g)
      have ea := h.at hx
      have a25 := ok.at25 hx
      simp (disch := omega) only [wp_Square_moveHearer, ea, zi_0, zi_1, zi_2, zi_3, zi_4, zi_5, zi_6, zi_7, zi_8, zi_9, zi_10, zi_11, zi_12, zi_13, zi_14, zi_15, zi_16, zi_17, zi_18, zi_19, zi_20, zi_21, zi_22, zi_23, zi_24, zi_25, zi_26, zi_30, zi_31, zi_32, zi_34, zi_38, zi_59, zi_60, zi_61, zi_63, zi_64, zi_80, zi_96, zi_97, zi_99, zi_100, zi_122, zi_255, zi_256, zi_300, zi_398, zi_406, zi_900, zi_1000, zi_1024, zi_1624, zi_1662, zi_2030, zi_2031, zi_2068, zi_2258, zi_9999, zi_48, zi_57, zi_65536, zi_3257, zi_11483, zi_1000000, zi_729, zi_81, zi_m1, nI_add, pk_mul, nI_ltI, nI_leI, nI_eq, nI_clamp, zn_in, zn_sub1lt, zn_M, zn_Ml, zn_Mg, zn_Mle, zn_Mge, zn_sub, Nat.reduceAdd, Nat.reduceMul, forall_eq, true_imp_iff, false_imp_iff, and_true, true_and, not_true_eq_false, not_false_eq_true, reduceCtorEq, imp_self, eq_self, false_and, and_false, implies_true]
      refine ⟨by omega, fun x => absurd x g6, fun _ => ⟨by omega, su_far h ok a25 (by omega) ?_⟩⟩
      have f50 := ok.far50 a25 (show q (40 + 6 * j) < 25 by omega)
      exact ⟨by omega, su_miss (h.putAt hcd (by omega) (q (40 + 6 * j))) hcd hv (lk_U.z (fr_S.row (by omega) (by omega) _ _) hc hv hs) (Or.inr ⟨fun x => ze_nm1 (by omega) x, rfl⟩) K⟩
    · intro I L R Q h hs K
      have z0 : lk_M I I s 0 0 0 := lk_M.z fr_P.rfl hs
      have ew := h.r0 hj
      rw [e] at ew
      have e1 := h.r1 hj
      have e2 := h.r2 hj
      simp (disch := omega) only [wp_M_does, ew, e1, e2, zi_0, zi_1, zi_2, zi_3, zi_4, zi_5, zi_6, zi_7, zi_8, zi_9, zi_10, zi_11, zi_12, zi_13, zi_14, zi_15, zi_16, zi_17, zi_18, zi_19, zi_20, zi_21, zi_22, zi_23, zi_24, zi_25, zi_26, zi_30, zi_31, zi_32, zi_34, zi_38, zi_59, zi_60, zi_61, zi_63, zi_64, zi_80, zi_96, zi_97, zi_99, zi_100, zi_122, zi_255, zi_256, zi_300, zi_398, zi_406, zi_900, zi_1000, zi_1024, zi_1624, zi_1662, zi_2030, zi_2031, zi_2068, zi_2258, zi_9999, zi_48, zi_57, zi_65536, zi_3257, zi_11483, zi_1000000, zi_729, zi_81, zi_m1, nI_add, pk_mul, nI_ltI, nI_leI, nI_eq, nI_clamp, zn_in, zn_sub1lt, zn_M, zn_Ml, zn_Mg, zn_Mle, zn_Mge, zn_sub, Nat.reduceAdd, Nat.reduceMul, forall_eq, true_imp_iff, false_imp_iff, and_true, true_and, not_true_eq_false, not_false_eq_true, reduceCtorEq, imp_self, eq_self, false_and, and_false, implies_true]
      repeat' (first | omega | with_reducible refine And.intro ?_ ?_ | with_reducible intro g)
      simp (disch := omega) only [wp_M_sends, zi_0, zi_1, zi_2, zi_3, zi_4, zi_5, zi_6, zi_7, zi_8, zi_9, zi_10, zi_11, zi_12, zi_13, zi_14, zi_15, zi_16, zi_17, zi_18, zi_19, zi_20, zi_21, zi_22, zi_23, zi_24, zi_25, zi_26, zi_30, zi_31, zi_32, zi_34, zi_38, zi_59, zi_60, zi_61, zi_63, zi_64, zi_80, zi_96, zi_97, zi_99, zi_100, zi_122, zi_255, zi_256, zi_300, zi_398, zi_406, zi_900, zi_1000, zi_1024, zi_1624, zi_1662, zi_2030, zi_2031, zi_2068, zi_2258, zi_9999, zi_48, zi_57, zi_65536, zi_3257, zi_11483, zi_1000000, zi_729, zi_81, zi_m1, nI_add, pk_mul, nI_ltI, nI_leI, nI_eq, nI_clamp, zn_in, zn_sub1lt, zn_M, zn_Ml, zn_Mg, zn_Mle, zn_Mge, zn_sub, Nat.reduceAdd, Nat.reduceMul, forall_eq, true_imp_iff, false_imp_iff, and_true, true_and, not_true_eq_false, not_false_eq_true, reduceCtorEq, imp_self, eq_self, false_and, and_false, implies_true]
      refine sm_hearerOf h (by omega) (by omega) ?_
      rw [Nat.add_zero]
      have a25 := ok.at25 hx
      simp (disch := omega) only [wb_M_sends_15, wp_M_hearerRow, zi_0, zi_1, zi_2, zi_3, zi_4, zi_5, zi_6, zi_7, zi_8, zi_9, zi_10, zi_11, zi_12, zi_13, zi_14, zi_15, zi_16, zi_17, zi_18, zi_19, zi_20, zi_21, zi_22, zi_23, zi_24, zi_25, zi_26, zi_30, zi_31, zi_32, zi_34, zi_38, zi_59, zi_60, zi_61, zi_63, zi_64, zi_80, zi_96, zi_97, zi_99, zi_100, zi_122, zi_255, zi_256, zi_300, zi_398, zi_406, zi_900, zi_1000, zi_1024, zi_1624, zi_1662, zi_2030, zi_2031, zi_2068, zi_2258, zi_9999, zi_48, zi_57, zi_65536, zi_3257, zi_11483, zi_1000000, zi_729, zi_81, zi_m1, nI_add, pk_mul, nI_ltI, nI_leI, nI_eq, nI_clamp, zn_in, zn_sub1lt, zn_M, zn_Ml, zn_Mg, zn_Mle, zn_Mge, zn_sub, Nat.reduceAdd, Nat.reduceMul, forall_eq, true_imp_iff, false_imp_iff, and_true, true_and, not_true_eq_false, not_false_eq_true, reduceCtorEq, imp_self, eq_self, false_and, and_false, implies_true]
      exact ⟨fun x => absurd x g6, fun _ => ⟨by omega, K _ (h.put (k := 10 + 4 * q (39 + 6 * j)) (by omega) (by omega) (by omega) (q (40 + 6 * j))) (lk_M.z (fr_P.row (by omega) _) hs)⟩⟩
theorem ac_p13 (ok : sq_Ok q) {j s : Nat} (hs0 : s < 65536) (hj : j + 1 < q 7) (e : q (38 + 6 * j) = 13) : ac q j s := by
  have o := ok.1.2.2.1
  have o7 := ok.2.2.2.2.1
  have oc := ok.cells
  have zl := zp_le _ (sq_seen_lt ok)
  refine ⟨sq_brs q (q 3), s, (if zp (sq_seen q) = 0 then 1 else 0), 0, 0, 0, sq_brs_ok ok (q 3) (by omega), fun k hk => sq_brs_o _ (by omega), hs0, by split <;> omega, ?_, ?_⟩
  · intro c d v I L R Q hcd hv hd h hs K
    have hc := hcd.1
    have z0 : lk_U c v I I s 0 0 0 0 := lk_U.z fr_S.rfl hc hv hs
    have ew := dy_word h hj e (show dy_w 13 = 13 from rfl)
    skip
    simp (disch := omega) only [wp_Life_act, hd, ew, zi_0, zi_1, zi_2, zi_3, zi_4, zi_5, zi_6, zi_7, zi_8, zi_9, zi_10, zi_11, zi_12, zi_13, zi_14, zi_15, zi_16, zi_17, zi_18, zi_19, zi_20, zi_21, zi_22, zi_23, zi_24, zi_25, zi_26, zi_30, zi_31, zi_32, zi_34, zi_38, zi_59, zi_60, zi_61, zi_63, zi_64, zi_80, zi_96, zi_97, zi_99, zi_100, zi_122, zi_255, zi_256, zi_300, zi_398, zi_406, zi_900, zi_1000, zi_1024, zi_1624, zi_1662, zi_2030, zi_2031, zi_2068, zi_2258, zi_9999, zi_48, zi_57, zi_65536, zi_3257, zi_11483, zi_1000000, zi_729, zi_81, zi_m1, nI_add, pk_mul, nI_ltI, nI_leI, nI_eq, nI_clamp, zn_in, zn_sub1lt, zn_M, zn_Ml, zn_Mg, zn_Mle, zn_Mge, zn_sub, Nat.reduceAdd, Nat.reduceMul, forall_eq, true_imp_iff, false_imp_iff, and_true, true_and, not_true_eq_false, not_false_eq_true, reduceCtorEq, imp_self, eq_self, false_and, and_false, implies_true]
    repeat' (first | omega | with_reducible refine And.intro ?_ ?_ | with_reducible intro g)
    refine su_brush h hcd ok (fun I1 h1 f1 => ?_)
    refine su_miss h1 hcd hv (lk_U.z f1 hc hv hs) ?_ K
    by_cases g6 : zp (sq_seen q) = 0
    · rw [if_pos g6, if_pos g6]; exact Or.inl ⟨rfl, rfl⟩
    · rw [if_neg g6, if_neg g6]; exact Or.inr ⟨fun x => ze_nm1 (by omega) x, rfl⟩
  · intro I L R Q h hs K
    have z0 : lk_M I I s 0 0 0 := lk_M.z fr_P.rfl hs
    have ew := h.r0 hj
    rw [e] at ew
    have e1 := h.r1 hj
    have e2 := h.r2 hj
    simp (disch := omega) only [wp_M_does, ew, e1, e2, zi_0, zi_1, zi_2, zi_3, zi_4, zi_5, zi_6, zi_7, zi_8, zi_9, zi_10, zi_11, zi_12, zi_13, zi_14, zi_15, zi_16, zi_17, zi_18, zi_19, zi_20, zi_21, zi_22, zi_23, zi_24, zi_25, zi_26, zi_30, zi_31, zi_32, zi_34, zi_38, zi_59, zi_60, zi_61, zi_63, zi_64, zi_80, zi_96, zi_97, zi_99, zi_100, zi_122, zi_255, zi_256, zi_300, zi_398, zi_406, zi_900, zi_1000, zi_1024, zi_1624, zi_1662, zi_2030, zi_2031, zi_2068, zi_2258, zi_9999, zi_48, zi_57, zi_65536, zi_3257, zi_11483, zi_1000000, zi_729, zi_81, zi_m1, nI_add, pk_mul, nI_ltI, nI_leI, nI_eq, nI_clamp, zn_in, zn_sub1lt, zn_M, zn_Ml, zn_Mg, zn_Mle, zn_Mge, zn_sub, Nat.reduceAdd, Nat.reduceMul, forall_eq, true_imp_iff, false_imp_iff, and_true, true_and, not_true_eq_false, not_false_eq_true, reduceCtorEq, imp_self, eq_self, false_and, and_false, implies_true]
    repeat' (first | omega | with_reducible refine And.intro ?_ ?_ | with_reducible intro g)
    refine sm_brush h ok (fun I1 h1 f1 => ?_)
    have k2 := K I1 h1 (lk_M.z f1 hs)
    simp (disch := omega) only [zi_0, zi_1, zi_2, zi_3, zi_4, zi_5, zi_6, zi_7, zi_8, zi_9, zi_10, zi_11, zi_12, zi_13, zi_14, zi_15, zi_16, zi_17, zi_18, zi_19, zi_20, zi_21, zi_22, zi_23, zi_24, zi_25, zi_26, zi_30, zi_31, zi_32, zi_34, zi_38, zi_59, zi_60, zi_61, zi_63, zi_64, zi_80, zi_96, zi_97, zi_99, zi_100, zi_122, zi_255, zi_256, zi_300, zi_398, zi_406, zi_900, zi_1000, zi_1024, zi_1624, zi_1662, zi_2030, zi_2031, zi_2068, zi_2258, zi_9999, zi_48, zi_57, zi_65536, zi_3257, zi_11483, zi_1000000, zi_729, zi_81, zi_m1, nI_add, pk_mul, nI_ltI, nI_leI, nI_eq, nI_clamp, zn_in, zn_sub1lt, zn_M, zn_Ml, zn_Mg, zn_Mle, zn_Mge, zn_sub, Nat.reduceAdd, Nat.reduceMul, forall_eq, true_imp_iff, false_imp_iff, and_true, true_and, not_true_eq_false, not_false_eq_true, reduceCtorEq, imp_self, eq_self, false_and, and_false, implies_true]
    by_cases g6 : zp (sq_seen q) = 0
    · rw [if_pos g6] at k2
      exact ⟨fun _ => k2, fun x => absurd (by omega) x⟩
    · rw [if_neg g6] at k2
      exact ⟨fun x => absurd x (by omega), fun _ => k2⟩
theorem ac_p15 (ok : sq_Ok q) {j s : Nat} (hs0 : s < 65536) (hj : j + 1 < q 7) (e : q (38 + 6 * j) = 15) : ac q j s := by
  have o := ok.1.2.2.1
  have o7 := ok.2.2.2.2.1
  have oc := ok.cells
  have o8 := ok.1.2.2.2.2
  refine ⟨zu q 8 0, s, (if q 8 = 0 then 1 else 0), 0, 0, 0, ok.put 0 (by omega), fun k hk => zu_n (by omega), hs0, by split <;> omega, ?_, ?_⟩
  · intro c d v I L R Q hcd hv hd h hs K
    have hc := hcd.1
    have z0 : lk_U c v I I s 0 0 0 0 := lk_U.z fr_S.rfl hc hv hs
    have ew := dy_word h hj e (show dy_w 15 = 15 from rfl)
    skip
    simp (disch := omega) only [wp_Life_act, hd, ew, zi_0, zi_1, zi_2, zi_3, zi_4, zi_5, zi_6, zi_7, zi_8, zi_9, zi_10, zi_11, zi_12, zi_13, zi_14, zi_15, zi_16, zi_17, zi_18, zi_19, zi_20, zi_21, zi_22, zi_23, zi_24, zi_25, zi_26, zi_30, zi_31, zi_32, zi_34, zi_38, zi_59, zi_60, zi_61, zi_63, zi_64, zi_80, zi_96, zi_97, zi_99, zi_100, zi_122, zi_255, zi_256, zi_300, zi_398, zi_406, zi_900, zi_1000, zi_1024, zi_1624, zi_1662, zi_2030, zi_2031, zi_2068, zi_2258, zi_9999, zi_48, zi_57, zi_65536, zi_3257, zi_11483, zi_1000000, zi_729, zi_81, zi_m1, nI_add, pk_mul, nI_ltI, nI_leI, nI_eq, nI_clamp, zn_in, zn_sub1lt, zn_M, zn_Ml, zn_Mg, zn_Mle, zn_Mge, zn_sub, Nat.reduceAdd, Nat.reduceMul, forall_eq, true_imp_iff, false_imp_iff, and_true, true_and, not_true_eq_false, not_false_eq_true, reduceCtorEq, imp_self, eq_self, false_and, and_false, implies_true]
    repeat' (first | omega | with_reducible refine And.intro ?_ ?_ | with_reducible intro g)
    have e8 := h.n8
    have h2 := h.putS hcd (k := 8) (s := 13) (by omega) 0
    have l2 : lk_U c v I (am_u2 I c 13 (nI 0)) s 0 0 0 0 := lk_U.z (fr_S.row (by omega) (by omega) _ _) hc hv hs
    simp (disch := omega) only [wp_Square_emptyCup, e8, zi_0, zi_1, zi_2, zi_3, zi_4, zi_5, zi_6, zi_7, zi_8, zi_9, zi_10, zi_11, zi_12, zi_13, zi_14, zi_15, zi_16, zi_17, zi_18, zi_19, zi_20, zi_21, zi_22, zi_23, zi_24, zi_25, zi_26, zi_30, zi_31, zi_32, zi_34, zi_38, zi_59, zi_60, zi_61, zi_63, zi_64, zi_80, zi_96, zi_97, zi_99, zi_100, zi_122, zi_255, zi_256, zi_300, zi_398, zi_406, zi_900, zi_1000, zi_1024, zi_1624, zi_1662, zi_2030, zi_2031, zi_2068, zi_2258, zi_9999, zi_48, zi_57, zi_65536, zi_3257, zi_11483, zi_1000000, zi_729, zi_81, zi_m1, nI_add, pk_mul, nI_ltI, nI_leI, nI_eq, nI_clamp, zn_in, zn_sub1lt, zn_M, zn_Ml, zn_Mg, zn_Mle, zn_Mge, zn_sub, Nat.reduceAdd, Nat.reduceMul, forall_eq, true_imp_iff, false_imp_iff, and_true, true_and, not_true_eq_false, not_false_eq_true, reduceCtorEq, imp_self, eq_self, false_and, and_false, implies_true]
    by_cases g6 : q 8 = 0
    · rw [if_pos g6] at K
      exact ⟨fun _ => su_miss h2 hcd hv l2 (Or.inl ⟨rfl, rfl⟩) K, fun x => absurd g6 x⟩
    · rw [if_neg g6] at K
      exact ⟨fun x => absurd x g6, fun _ => su_miss h2 hcd hv l2 (Or.inr ⟨fun x => ze_nm1 (by omega) x, rfl⟩) K⟩
  · intro I L R Q h hs K
    have z0 : lk_M I I s 0 0 0 := lk_M.z fr_P.rfl hs
    have ew := h.r0 hj
    rw [e] at ew
    have e1 := h.r1 hj
    have e2 := h.r2 hj
    simp (disch := omega) only [wp_M_does, ew, e1, e2, zi_0, zi_1, zi_2, zi_3, zi_4, zi_5, zi_6, zi_7, zi_8, zi_9, zi_10, zi_11, zi_12, zi_13, zi_14, zi_15, zi_16, zi_17, zi_18, zi_19, zi_20, zi_21, zi_22, zi_23, zi_24, zi_25, zi_26, zi_30, zi_31, zi_32, zi_34, zi_38, zi_59, zi_60, zi_61, zi_63, zi_64, zi_80, zi_96, zi_97, zi_99, zi_100, zi_122, zi_255, zi_256, zi_300, zi_398, zi_406, zi_900, zi_1000, zi_1024, zi_1624, zi_1662, zi_2030, zi_2031, zi_2068, zi_2258, zi_9999, zi_48, zi_57, zi_65536, zi_3257, zi_11483, zi_1000000, zi_729, zi_81, zi_m1, nI_add, pk_mul, nI_ltI, nI_leI, nI_eq, nI_clamp, zn_in, zn_sub1lt, zn_M, zn_Ml, zn_Mg, zn_Mle, zn_Mge, zn_sub, Nat.reduceAdd, Nat.reduceMul, forall_eq, true_imp_iff, false_imp_iff, and_true, true_and, not_true_eq_false, not_false_eq_true, reduceCtorEq, imp_self, eq_self, false_and, and_false, implies_true]
    repeat' (first | omega | with_reducible refine And.intro ?_ ?_ | with_reducible intro g)
    have e8 := h.n8
    have h2 := h.put (k := 8) (by omega) (by omega) (by omega) 0
    have k2 := K _ h2 (lk_M.z (fr_P.row (by omega) _) hs)
    simp (disch := omega) only [wp_M_empties, e8, zi_0, zi_1, zi_2, zi_3, zi_4, zi_5, zi_6, zi_7, zi_8, zi_9, zi_10, zi_11, zi_12, zi_13, zi_14, zi_15, zi_16, zi_17, zi_18, zi_19, zi_20, zi_21, zi_22, zi_23, zi_24, zi_25, zi_26, zi_30, zi_31, zi_32, zi_34, zi_38, zi_59, zi_60, zi_61, zi_63, zi_64, zi_80, zi_96, zi_97, zi_99, zi_100, zi_122, zi_255, zi_256, zi_300, zi_398, zi_406, zi_900, zi_1000, zi_1024, zi_1624, zi_1662, zi_2030, zi_2031, zi_2068, zi_2258, zi_9999, zi_48, zi_57, zi_65536, zi_3257, zi_11483, zi_1000000, zi_729, zi_81, zi_m1, nI_add, pk_mul, nI_ltI, nI_leI, nI_eq, nI_clamp, zn_in, zn_sub1lt, zn_M, zn_Ml, zn_Mg, zn_Mle, zn_Mge, zn_sub, Nat.reduceAdd, Nat.reduceMul, forall_eq, true_imp_iff, false_imp_iff, and_true, true_and, not_true_eq_false, not_false_eq_true, reduceCtorEq, imp_self, eq_self, false_and, and_false, implies_true]
    by_cases g6 : q 8 = 0
    · rw [if_pos g6] at k2
      exact ⟨fun _ => k2, fun x => absurd (by omega) x⟩
    · rw [if_neg g6] at k2
      exact ⟨fun x => absurd x (by omega), fun _ => k2⟩
theorem ac_p18 (ok : sq_Ok q) {j s : Nat} (hs0 : s < 65536) (hj : j + 1 < q 7) (e : q (38 + 6 * j) = 18) : ac q j s := by
  have o := ok.1.2.2.1
  have o7 := ok.2.2.2.2.1
  have oc := ok.cells
  refine ⟨q, s, 0, 0, 0, 0, ok, fun _ _ => rfl, hs0, by omega, ?_, ?_⟩
  · intro c d v I L R Q hcd hv hd h hs K
    have hc := hcd.1
    have z0 : lk_U c v I I s 0 0 0 0 := lk_U.z fr_S.rfl hc hv hs
    have ew := dy_word h hj e (show dy_w 18 = 22 from rfl)
    skip
    simp (disch := omega) only [wp_Life_act, hd, ew, zi_0, zi_1, zi_2, zi_3, zi_4, zi_5, zi_6, zi_7, zi_8, zi_9, zi_10, zi_11, zi_12, zi_13, zi_14, zi_15, zi_16, zi_17, zi_18, zi_19, zi_20, zi_21, zi_22, zi_23, zi_24, zi_25, zi_26, zi_30, zi_31, zi_32, zi_34, zi_38, zi_59, zi_60, zi_61, zi_63, zi_64, zi_80, zi_96, zi_97, zi_99, zi_100, zi_122, zi_255, zi_256, zi_300, zi_398, zi_406, zi_900, zi_1000, zi_1024, zi_1624, zi_1662, zi_2030, zi_2031, zi_2068, zi_2258, zi_9999, zi_48, zi_57, zi_65536, zi_3257, zi_11483, zi_1000000, zi_729, zi_81, zi_m1, nI_add, pk_mul, nI_ltI, nI_leI, nI_eq, nI_clamp, zn_in, zn_sub1lt, zn_M, zn_Ml, zn_Mg, zn_Mle, zn_Mge, zn_sub, Nat.reduceAdd, Nat.reduceMul, forall_eq, true_imp_iff, false_imp_iff, and_true, true_and, not_true_eq_false, not_false_eq_true, reduceCtorEq, imp_self, eq_self, false_and, and_false, implies_true]
    repeat' (first | omega | with_reducible refine And.intro ?_ ?_ | with_reducible intro g)
    exact K I h z0
  · intro I L R Q h hs K
    have z0 : lk_M I I s 0 0 0 := lk_M.z fr_P.rfl hs
    have ew := h.r0 hj
    rw [e] at ew
    have e1 := h.r1 hj
    have e2 := h.r2 hj
    simp (disch := omega) only [wp_M_does, ew, e1, e2, zi_0, zi_1, zi_2, zi_3, zi_4, zi_5, zi_6, zi_7, zi_8, zi_9, zi_10, zi_11, zi_12, zi_13, zi_14, zi_15, zi_16, zi_17, zi_18, zi_19, zi_20, zi_21, zi_22, zi_23, zi_24, zi_25, zi_26, zi_30, zi_31, zi_32, zi_34, zi_38, zi_59, zi_60, zi_61, zi_63, zi_64, zi_80, zi_96, zi_97, zi_99, zi_100, zi_122, zi_255, zi_256, zi_300, zi_398, zi_406, zi_900, zi_1000, zi_1024, zi_1624, zi_1662, zi_2030, zi_2031, zi_2068, zi_2258, zi_9999, zi_48, zi_57, zi_65536, zi_3257, zi_11483, zi_1000000, zi_729, zi_81, zi_m1, nI_add, pk_mul, nI_ltI, nI_leI, nI_eq, nI_clamp, zn_in, zn_sub1lt, zn_M, zn_Ml, zn_Mg, zn_Mle, zn_Mge, zn_sub, Nat.reduceAdd, Nat.reduceMul, forall_eq, true_imp_iff, false_imp_iff, and_true, true_and, not_true_eq_false, not_false_eq_true, reduceCtorEq, imp_self, eq_self, false_and, and_false, implies_true]
    repeat' (first | omega | with_reducible refine And.intro ?_ ?_ | with_reducible intro g)
    exact K I h z0
theorem ac_p1721 (ok : sq_Ok q) {j s : Nat} (hs0 : s < 65536) (hj : j + 1 < q 7) (e : q (38 + 6 * j) = 1721) : ac q j s := by
  have o := ok.1.2.2.1
  have o7 := ok.2.2.2.2.1
  have oc := ok.cells
  refine ⟨q, s, 0, 0, 0, 0, ok, fun _ _ => rfl, hs0, by omega, ?_, ?_⟩
  · intro c d v I L R Q hcd hv hd h hs K
    have hc := hcd.1
    have z0 : lk_U c v I I s 0 0 0 0 := lk_U.z fr_S.rfl hc hv hs
    have ew := dy_word h hj e (show dy_w 1721 = 18 from rfl)
    skip
    simp (disch := omega) only [wp_Life_act, hd, ew, zi_0, zi_1, zi_2, zi_3, zi_4, zi_5, zi_6, zi_7, zi_8, zi_9, zi_10, zi_11, zi_12, zi_13, zi_14, zi_15, zi_16, zi_17, zi_18, zi_19, zi_20, zi_21, zi_22, zi_23, zi_24, zi_25, zi_26, zi_30, zi_31, zi_32, zi_34, zi_38, zi_59, zi_60, zi_61, zi_63, zi_64, zi_80, zi_96, zi_97, zi_99, zi_100, zi_122, zi_255, zi_256, zi_300, zi_398, zi_406, zi_900, zi_1000, zi_1024, zi_1624, zi_1662, zi_2030, zi_2031, zi_2068, zi_2258, zi_9999, zi_48, zi_57, zi_65536, zi_3257, zi_11483, zi_1000000, zi_729, zi_81, zi_m1, nI_add, pk_mul, nI_ltI, nI_leI, nI_eq, nI_clamp, zn_in, zn_sub1lt, zn_M, zn_Ml, zn_Mg, zn_Mle, zn_Mge, zn_sub, Nat.reduceAdd, Nat.reduceMul, forall_eq, true_imp_iff, false_imp_iff, and_true, true_and, not_true_eq_false, not_false_eq_true, reduceCtorEq, imp_self, eq_self, false_and, and_false, implies_true]
    repeat' (first | omega | with_reducible refine And.intro ?_ ?_ | with_reducible intro g)
    exact K I h z0
  · intro I L R Q h hs K
    have z0 : lk_M I I s 0 0 0 := lk_M.z fr_P.rfl hs
    have ew := h.r0 hj
    rw [e] at ew
    have e1 := h.r1 hj
    have e2 := h.r2 hj
    simp (disch := omega) only [wp_M_does, ew, e1, e2, zi_0, zi_1, zi_2, zi_3, zi_4, zi_5, zi_6, zi_7, zi_8, zi_9, zi_10, zi_11, zi_12, zi_13, zi_14, zi_15, zi_16, zi_17, zi_18, zi_19, zi_20, zi_21, zi_22, zi_23, zi_24, zi_25, zi_26, zi_30, zi_31, zi_32, zi_34, zi_38, zi_59, zi_60, zi_61, zi_63, zi_64, zi_80, zi_96, zi_97, zi_99, zi_100, zi_122, zi_255, zi_256, zi_300, zi_398, zi_406, zi_900, zi_1000, zi_1024, zi_1624, zi_1662, zi_2030, zi_2031, zi_2068, zi_2258, zi_9999, zi_48, zi_57, zi_65536, zi_3257, zi_11483, zi_1000000, zi_729, zi_81, zi_m1, nI_add, pk_mul, nI_ltI, nI_leI, nI_eq, nI_clamp, zn_in, zn_sub1lt, zn_M, zn_Ml, zn_Mg, zn_Mle, zn_Mge, zn_sub, Nat.reduceAdd, Nat.reduceMul, forall_eq, true_imp_iff, false_imp_iff, and_true, true_and, not_true_eq_false, not_false_eq_true, reduceCtorEq, imp_self, eq_self, false_and, and_false, implies_true]
    repeat' (first | omega | with_reducible refine And.intro ?_ ?_ | with_reducible intro g)
    exact K I h z0
theorem ac_p1722 (ok : sq_Ok q) {j s : Nat} (hs0 : s < 65536) (hj : j + 1 < q 7) (e : q (38 + 6 * j) = 1722) : ac q j s := by
  have o := ok.1.2.2.1
  have o7 := ok.2.2.2.2.1
  have oc := ok.cells
  refine ⟨q, s, 0, 0, 0, 0, ok, fun _ _ => rfl, hs0, by omega, ?_, ?_⟩
  · intro c d v I L R Q hcd hv hd h hs K
    have hc := hcd.1
    have z0 : lk_U c v I I s 0 0 0 0 := lk_U.z fr_S.rfl hc hv hs
    have ew := dy_word h hj e (show dy_w 1722 = 19 from rfl)
    skip
    simp (disch := omega) only [wp_Life_act, hd, ew, zi_0, zi_1, zi_2, zi_3, zi_4, zi_5, zi_6, zi_7, zi_8, zi_9, zi_10, zi_11, zi_12, zi_13, zi_14, zi_15, zi_16, zi_17, zi_18, zi_19, zi_20, zi_21, zi_22, zi_23, zi_24, zi_25, zi_26, zi_30, zi_31, zi_32, zi_34, zi_38, zi_59, zi_60, zi_61, zi_63, zi_64, zi_80, zi_96, zi_97, zi_99, zi_100, zi_122, zi_255, zi_256, zi_300, zi_398, zi_406, zi_900, zi_1000, zi_1024, zi_1624, zi_1662, zi_2030, zi_2031, zi_2068, zi_2258, zi_9999, zi_48, zi_57, zi_65536, zi_3257, zi_11483, zi_1000000, zi_729, zi_81, zi_m1, nI_add, pk_mul, nI_ltI, nI_leI, nI_eq, nI_clamp, zn_in, zn_sub1lt, zn_M, zn_Ml, zn_Mg, zn_Mle, zn_Mge, zn_sub, Nat.reduceAdd, Nat.reduceMul, forall_eq, true_imp_iff, false_imp_iff, and_true, true_and, not_true_eq_false, not_false_eq_true, reduceCtorEq, imp_self, eq_self, false_and, and_false, implies_true]
    repeat' (first | omega | with_reducible refine And.intro ?_ ?_ | with_reducible intro g)
    exact K I h z0
  · intro I L R Q h hs K
    have z0 : lk_M I I s 0 0 0 := lk_M.z fr_P.rfl hs
    have ew := h.r0 hj
    rw [e] at ew
    have e1 := h.r1 hj
    have e2 := h.r2 hj
    simp (disch := omega) only [wp_M_does, ew, e1, e2, zi_0, zi_1, zi_2, zi_3, zi_4, zi_5, zi_6, zi_7, zi_8, zi_9, zi_10, zi_11, zi_12, zi_13, zi_14, zi_15, zi_16, zi_17, zi_18, zi_19, zi_20, zi_21, zi_22, zi_23, zi_24, zi_25, zi_26, zi_30, zi_31, zi_32, zi_34, zi_38, zi_59, zi_60, zi_61, zi_63, zi_64, zi_80, zi_96, zi_97, zi_99, zi_100, zi_122, zi_255, zi_256, zi_300, zi_398, zi_406, zi_900, zi_1000, zi_1024, zi_1624, zi_1662, zi_2030, zi_2031, zi_2068, zi_2258, zi_9999, zi_48, zi_57, zi_65536, zi_3257, zi_11483, zi_1000000, zi_729, zi_81, zi_m1, nI_add, pk_mul, nI_ltI, nI_leI, nI_eq, nI_clamp, zn_in, zn_sub1lt, zn_M, zn_Ml, zn_Mg, zn_Mle, zn_Mge, zn_sub, Nat.reduceAdd, Nat.reduceMul, forall_eq, true_imp_iff, false_imp_iff, and_true, true_and, not_true_eq_false, not_false_eq_true, reduceCtorEq, imp_self, eq_self, false_and, and_false, implies_true]
    repeat' (first | omega | with_reducible refine And.intro ?_ ?_ | with_reducible intro g)
    exact K I h z0
theorem ac_p1723 (ok : sq_Ok q) {j s : Nat} (hs0 : s < 65536) (hj : j + 1 < q 7) (e : q (38 + 6 * j) = 1723) : ac q j s := by
  have o := ok.1.2.2.1
  have o7 := ok.2.2.2.2.1
  have oc := ok.cells
  refine ⟨q, s, 0, 0, 0, 0, ok, fun _ _ => rfl, hs0, by omega, ?_, ?_⟩
  · intro c d v I L R Q hcd hv hd h hs K
    have hc := hcd.1
    have z0 : lk_U c v I I s 0 0 0 0 := lk_U.z fr_S.rfl hc hv hs
    have ew := dy_word h hj e (show dy_w 1723 = 20 from rfl)
    skip
    simp (disch := omega) only [wp_Life_act, hd, ew, zi_0, zi_1, zi_2, zi_3, zi_4, zi_5, zi_6, zi_7, zi_8, zi_9, zi_10, zi_11, zi_12, zi_13, zi_14, zi_15, zi_16, zi_17, zi_18, zi_19, zi_20, zi_21, zi_22, zi_23, zi_24, zi_25, zi_26, zi_30, zi_31, zi_32, zi_34, zi_38, zi_59, zi_60, zi_61, zi_63, zi_64, zi_80, zi_96, zi_97, zi_99, zi_100, zi_122, zi_255, zi_256, zi_300, zi_398, zi_406, zi_900, zi_1000, zi_1024, zi_1624, zi_1662, zi_2030, zi_2031, zi_2068, zi_2258, zi_9999, zi_48, zi_57, zi_65536, zi_3257, zi_11483, zi_1000000, zi_729, zi_81, zi_m1, nI_add, pk_mul, nI_ltI, nI_leI, nI_eq, nI_clamp, zn_in, zn_sub1lt, zn_M, zn_Ml, zn_Mg, zn_Mle, zn_Mge, zn_sub, Nat.reduceAdd, Nat.reduceMul, forall_eq, true_imp_iff, false_imp_iff, and_true, true_and, not_true_eq_false, not_false_eq_true, reduceCtorEq, imp_self, eq_self, false_and, and_false, implies_true]
    repeat' (first | omega | with_reducible refine And.intro ?_ ?_ | with_reducible intro g)
    exact K I h z0
  · intro I L R Q h hs K
    have z0 : lk_M I I s 0 0 0 := lk_M.z fr_P.rfl hs
    have ew := h.r0 hj
    rw [e] at ew
    have e1 := h.r1 hj
    have e2 := h.r2 hj
    simp (disch := omega) only [wp_M_does, ew, e1, e2, zi_0, zi_1, zi_2, zi_3, zi_4, zi_5, zi_6, zi_7, zi_8, zi_9, zi_10, zi_11, zi_12, zi_13, zi_14, zi_15, zi_16, zi_17, zi_18, zi_19, zi_20, zi_21, zi_22, zi_23, zi_24, zi_25, zi_26, zi_30, zi_31, zi_32, zi_34, zi_38, zi_59, zi_60, zi_61, zi_63, zi_64, zi_80, zi_96, zi_97, zi_99, zi_100, zi_122, zi_255, zi_256, zi_300, zi_398, zi_406, zi_900, zi_1000, zi_1024, zi_1624, zi_1662, zi_2030, zi_2031, zi_2068, zi_2258, zi_9999, zi_48, zi_57, zi_65536, zi_3257, zi_11483, zi_1000000, zi_729, zi_81, zi_m1, nI_add, pk_mul, nI_ltI, nI_leI, nI_eq, nI_clamp, zn_in, zn_sub1lt, zn_M, zn_Ml, zn_Mg, zn_Mle, zn_Mge, zn_sub, Nat.reduceAdd, Nat.reduceMul, forall_eq, true_imp_iff, false_imp_iff, and_true, true_and, not_true_eq_false, not_false_eq_true, reduceCtorEq, imp_self, eq_self, false_and, and_false, implies_true]
    repeat' (first | omega | with_reducible refine And.intro ?_ ?_ | with_reducible intro g)
    exact K I h z0
theorem ac_p1724 (ok : sq_Ok q) {j s : Nat} (hs0 : s < 65536) (hj : j + 1 < q 7) (e : q (38 + 6 * j) = 1724) : ac q j s := by
  have o := ok.1.2.2.1
  have o7 := ok.2.2.2.2.1
  have oc := ok.cells
  refine ⟨q, s, 0, 0, 0, 0, ok, fun _ _ => rfl, hs0, by omega, ?_, ?_⟩
  · intro c d v I L R Q hcd hv hd h hs K
    have hc := hcd.1
    have z0 : lk_U c v I I s 0 0 0 0 := lk_U.z fr_S.rfl hc hv hs
    have ew := dy_word h hj e (show dy_w 1724 = 21 from rfl)
    skip
    simp (disch := omega) only [wp_Life_act, hd, ew, zi_0, zi_1, zi_2, zi_3, zi_4, zi_5, zi_6, zi_7, zi_8, zi_9, zi_10, zi_11, zi_12, zi_13, zi_14, zi_15, zi_16, zi_17, zi_18, zi_19, zi_20, zi_21, zi_22, zi_23, zi_24, zi_25, zi_26, zi_30, zi_31, zi_32, zi_34, zi_38, zi_59, zi_60, zi_61, zi_63, zi_64, zi_80, zi_96, zi_97, zi_99, zi_100, zi_122, zi_255, zi_256, zi_300, zi_398, zi_406, zi_900, zi_1000, zi_1024, zi_1624, zi_1662, zi_2030, zi_2031, zi_2068, zi_2258, zi_9999, zi_48, zi_57, zi_65536, zi_3257, zi_11483, zi_1000000, zi_729, zi_81, zi_m1, nI_add, pk_mul, nI_ltI, nI_leI, nI_eq, nI_clamp, zn_in, zn_sub1lt, zn_M, zn_Ml, zn_Mg, zn_Mle, zn_Mge, zn_sub, Nat.reduceAdd, Nat.reduceMul, forall_eq, true_imp_iff, false_imp_iff, and_true, true_and, not_true_eq_false, not_false_eq_true, reduceCtorEq, imp_self, eq_self, false_and, and_false, implies_true]
    repeat' (first | omega | with_reducible refine And.intro ?_ ?_ | with_reducible intro g)
    exact K I h z0
  · intro I L R Q h hs K
    have z0 : lk_M I I s 0 0 0 := lk_M.z fr_P.rfl hs
    have ew := h.r0 hj
    rw [e] at ew
    have e1 := h.r1 hj
    have e2 := h.r2 hj
    simp (disch := omega) only [wp_M_does, ew, e1, e2, zi_0, zi_1, zi_2, zi_3, zi_4, zi_5, zi_6, zi_7, zi_8, zi_9, zi_10, zi_11, zi_12, zi_13, zi_14, zi_15, zi_16, zi_17, zi_18, zi_19, zi_20, zi_21, zi_22, zi_23, zi_24, zi_25, zi_26, zi_30, zi_31, zi_32, zi_34, zi_38, zi_59, zi_60, zi_61, zi_63, zi_64, zi_80, zi_96, zi_97, zi_99, zi_100, zi_122, zi_255, zi_256, zi_300, zi_398, zi_406, zi_900, zi_1000, zi_1024, zi_1624, zi_1662, zi_2030, zi_2031, zi_2068, zi_2258, zi_9999, zi_48, zi_57, zi_65536, zi_3257, zi_11483, zi_1000000, zi_729, zi_81, zi_m1, nI_add, pk_mul, nI_ltI, nI_leI, nI_eq, nI_clamp, zn_in, zn_sub1lt, zn_M, zn_Ml, zn_Mg, zn_Mle, zn_Mge, zn_sub, Nat.reduceAdd, Nat.reduceMul, forall_eq, true_imp_iff, false_imp_iff, and_true, true_and, not_true_eq_false, not_false_eq_true, reduceCtorEq, imp_self, eq_self, false_and, and_false, implies_true]
    repeat' (first | omega | with_reducible refine And.intro ?_ ?_ | with_reducible intro g)
    exact K I h z0
theorem ac_p16 (ok : sq_Ok q) {j s : Nat} (hs0 : s < 65536) (hj : j + 1 < q 7) (e : q (38 + 6 * j) = 16) : ac q j s := by
  have o := ok.1.2.2.1
  have o7 := ok.2.2.2.2.1
  have oc := ok.cells
  have d1 := dw_lt s
  have d2 := dw_lt (dw s)
  have d3 := dw_lt (dw (dw s))
  by_cases g2 : q 2 = 0
  · refine ⟨q, s, 1, 0, 0, 0, ok, fun _ _ => rfl, hs0, by omega, ?_, ?_⟩
    · intro c d v I L R Q hcd hv hd h hs K
      have hc := hcd.1
      have z0 : lk_U c v I I s 0 0 0 0 := lk_U.z fr_S.rfl hc hv hs
      have ew := dy_word h hj e (show dy_w 16 = 16 from rfl)
      have en : I c 10 = nI 0 := by rw [h.n2, g2]
      simp (disch := omega) only [wp_Life_act, hd, ew, wp_Life_drawAll, en, zi_0, zi_1, zi_2, zi_3, zi_4, zi_5, zi_6, zi_7, zi_8, zi_9, zi_10, zi_11, zi_12, zi_13, zi_14, zi_15, zi_16, zi_17, zi_18, zi_19, zi_20, zi_21, zi_22, zi_23, zi_24, zi_25, zi_26, zi_30, zi_31, zi_32, zi_34, zi_38, zi_59, zi_60, zi_61, zi_63, zi_64, zi_80, zi_96, zi_97, zi_99, zi_100, zi_122, zi_255, zi_256, zi_300, zi_398, zi_406, zi_900, zi_1000, zi_1024, zi_1624, zi_1662, zi_2030, zi_2031, zi_2068, zi_2258, zi_9999, zi_48, zi_57, zi_65536, zi_3257, zi_11483, zi_1000000, zi_729, zi_81, zi_m1, nI_add, pk_mul, nI_ltI, nI_leI, nI_eq, nI_clamp, zn_in, zn_sub1lt, zn_M, zn_Ml, zn_Mg, zn_Mle, zn_Mge, zn_sub, Nat.reduceAdd, Nat.reduceMul, forall_eq, true_imp_iff, false_imp_iff, and_true, true_and, not_true_eq_false, not_false_eq_true, reduceCtorEq, imp_self, eq_self, false_and, and_false, implies_true]
      repeat' (first | omega | with_reducible refine And.intro ?_ ?_ | with_reducible intro g)
      exact K _ (h.keepV hcd hv _ _) (z0.miss hc hv)
    · intro I L R Q h hs K
      have z0 : lk_M I I s 0 0 0 := lk_M.z fr_P.rfl hs
      have ew := h.r0 hj
      rw [e] at ew
      have en : I 104 2 = nI 0 := by rw [h.n2, g2]
      simp (disch := omega) only [wp_M_does, ew, wp_M_doesAny, en, zi_0, zi_1, zi_2, zi_3, zi_4, zi_5, zi_6, zi_7, zi_8, zi_9, zi_10, zi_11, zi_12, zi_13, zi_14, zi_15, zi_16, zi_17, zi_18, zi_19, zi_20, zi_21, zi_22, zi_23, zi_24, zi_25, zi_26, zi_30, zi_31, zi_32, zi_34, zi_38, zi_59, zi_60, zi_61, zi_63, zi_64, zi_80, zi_96, zi_97, zi_99, zi_100, zi_122, zi_255, zi_256, zi_300, zi_398, zi_406, zi_900, zi_1000, zi_1024, zi_1624, zi_1662, zi_2030, zi_2031, zi_2068, zi_2258, zi_9999, zi_48, zi_57, zi_65536, zi_3257, zi_11483, zi_1000000, zi_729, zi_81, zi_m1, nI_add, pk_mul, nI_ltI, nI_leI, nI_eq, nI_clamp, zn_in, zn_sub1lt, zn_M, zn_Ml, zn_Mg, zn_Mle, zn_Mge, zn_sub, Nat.reduceAdd, Nat.reduceMul, forall_eq, true_imp_iff, false_imp_iff, and_true, true_and, not_true_eq_false, not_false_eq_true, reduceCtorEq, imp_self, eq_self, false_and, and_false, implies_true]
      repeat' (first | omega | with_reducible refine And.intro ?_ ?_ | with_reducible intro g)
      exact K _ h z0
  · have t6 : dw s / 8 % q 2 < q 2 := Nat.mod_lt _ (by omega)
    have x6 : dw (dw s) / 8 % (q 0 * q 1) < q 0 * q 1 := Nat.mod_lt _ (by omega)
    have r6 : dw (dw (dw s)) / 8 % 16 < 16 := Nat.mod_lt _ (by omega)
    -- both sides up to the third draw
    have uu : ∀ (c d v : Nat) (I : am_TI) (L : am_TL) (R : am_TR) (Q : am_TI → Prop), sq_cd c d → (v = 12 ∨ v = 14) → am_rd R c 5 = d → sq_U q c d I L → I v 1 = nI s → (∀ I5, sq_U q c d I5 L → lk_U c v I I5 (dw (dw (dw s))) 0 0 0 0 → I5 v 2 = nI (dw s / 8 % q 2) → I5 v 3 = nI (dw (dw s) / 8 % (q 0 * q 1)) → (I5 v 4 = nI (if q 5 ≤ dw (dw (dw s)) / 8 % 16 then 0 else 1)) → ((I5 v 4 = nI 0 → wp_Life_throwOne I5 L R v c (I5 v 3) (fun I12 => Q I12)) ∧ (¬ I5 v 4 = nI 0 → wp_Life_playOne I5 L R v c (I5 v 2) (fun I13 => Q I13)))) → wp_Life_act I L R v c (nI j) Q := by
      intro c d v I L R Q hcd hv hd h hs K
      have hc := hcd.1
      have z0 : lk_U c v I I s 0 0 0 0 := lk_U.z fr_S.rfl hc hv hs
      have ew := dy_word h hj e (show dy_w 16 = 16 from rfl)
      have en := h.n2
      simp (disch := omega) only [wp_Life_act, hd, ew, zi_0, zi_1, zi_2, zi_3, zi_4, zi_5, zi_6, zi_7, zi_8, zi_9, zi_10, zi_11, zi_12, zi_13, zi_14, zi_15, zi_16, zi_17, zi_18, zi_19, zi_20, zi_21, zi_22, zi_23, zi_24, zi_25, zi_26, zi_30, zi_31, zi_32, zi_34, zi_38, zi_59, zi_60, zi_61, zi_63, zi_64, zi_80, zi_96, zi_97, zi_99, zi_100, zi_122, zi_255, zi_256, zi_300, zi_398, zi_406, zi_900, zi_1000, zi_1024, zi_1624, zi_1662, zi_2030, zi_2031, zi_2068, zi_2258, zi_9999, zi_48, zi_57, zi_65536, zi_3257, zi_11483, zi_1000000, zi_729, zi_81, zi_m1, nI_add, pk_mul, nI_ltI, nI_leI, nI_eq, nI_clamp, zn_in, zn_sub1lt, zn_M, zn_Ml, zn_Mg, zn_Mle, zn_Mge, zn_sub, Nat.reduceAdd, Nat.reduceMul]
      refine ⟨by omega, by omega, fun x => absurd x (by omega), fun x => absurd x (by omega), fun x => absurd x (by omega), fun x => absurd x (by omega), fun x => absurd x (by omega), fun x => absurd x (by omega), fun _ => ?_, fun _ _ _ _ _ _ x => absurd trivial x⟩
      unfold wp_Life_drawAll
      rw [en]
      refine ⟨fun x => ?_, fun _ => ?_⟩
      · have x2 : nI (q 2) ≤ nI 0 := x
        rw [nI_leI (by omega) (by omega)] at x2; omega
      · refine su_draw hs0 (by omega) (by omega) hs (fun I2 h2 => ?_)
        have l2 : lk_U c v I I2 (dw s) 0 0 0 0 := by
          rw [h2]
          exact (z0.s (s' := dw s) hv (Or.inl ⟨rfl, rfl⟩)).s hv (Or.inr ⟨by omega, rfl⟩)
        have s2 : sq_U q c d I2 L := by rw [h2]; exact (h.keepV hcd hv _ _).keepV hcd hv _ _
        have t2 : I2 v 2 = nI (dw s / 8 % q 2) := by rw [h2, am_u2_at]
        simp (disch := omega) only [wp_Square_cells, s2.n0, s2.n1, pk_mul]
        refine su_draw d1 (by omega) (by omega) l2.1 (fun I4 h4 => ?_)
        have l4 : lk_U c v I I4 (dw (dw s)) 0 0 0 0 := by
          rw [h4]
          exact (l2.s (s' := dw (dw s)) hv (Or.inl ⟨rfl, rfl⟩)).s hv (Or.inr ⟨by omega, rfl⟩)
        have s4 : sq_U q c d I4 L := by rw [h4]; exact (s2.keepV hcd hv _ _).keepV hcd hv _ _
        have t4 : I4 v 2 = nI (dw s / 8 % q 2) := by rw [h4, am_u2_ne _ _ _ _ (by omega), am_u2_ne _ _ _ _ (by omega)]; exact t2
        have x4 : I4 v 3 = nI (dw (dw s) / 8 % (q 0 * q 1)) := by rw [h4, am_u2_at]
        refine su_draw (n := 16) d2 (by omega) (by omega) l4.1 ?_
        have s5 : sq_U q c d (am_u2 I4 v 1 (nI (dw (dw (dw s))))) L := s4.keepV hcd hv _ _
        have l5 := l4.s (k := 1) (x := nI (dw (dw (dw s)))) (s' := dw (dw (dw s))) hv (Or.inl ⟨rfl, rfl⟩)
        rw [s5.n5, nI_leI (by omega) (by omega)]
        have fin : ∀ w, w = (if q 5 ≤ dw (dw (dw s)) / 8 % 16 then 0 else 1) → ∀ I6, I6 = am_u2 (am_u2 I4 v 1 (nI (dw (dw (dw s))))) v 4 (nI w) → ((I6 c 10 = nI 0 → ∀ I14, I14 = am_u2 I6 v 5 (I6 v 5 + nI 1) → Q I14) ∧ (¬ I6 c 10 = nI 0 → ((I6 v 4 = nI 0 → wp_Life_throwOne I6 L R v c (I6 v 3) (fun I12 => Q I12)) ∧ (¬ I6 v 4 = nI 0 → wp_Life_playOne I6 L R v c (I6 v 2) (fun I13 => Q I13))))) := by
          intro w hw I6 h6
          have s6 : sq_U q c d I6 L := by rw [h6]; exact s5.keepV hcd hv _ _
          have l6 : lk_U c v I I6 (dw (dw (dw s))) 0 0 0 0 := by rw [h6]; exact l5.s hv (Or.inr ⟨by omega, rfl⟩)
          refine ⟨fun x => ?_, fun _ => K I6 s6 l6 ?_ ?_ ?_⟩
          · rw [s6.n2, nI_eq (by omega) (by omega)] at x; omega
          · rw [h6, am_u2_ne _ _ _ _ (by omega), am_u2_ne _ _ _ _ (by omega)]; exact t4
          · rw [h6, am_u2_ne _ _ _ _ (by omega), am_u2_ne _ _ _ _ (by omega)]; exact x4
          · rw [h6, am_u2_at, hw]
        exact ⟨fun y I6 h6 => fin 0 (by rw [if_pos y]) I6 h6, fun y I6 h6 => fin 1 (by rw [if_neg y]) I6 h6⟩
    have mm : ∀ (I : am_TI) (L : am_TL) (R : am_TR) (Q : Bool → am_TI → Prop), sq_M q 0 I L → I 103 44 = nI s → (∀ I5, sq_M q 0 I5 L → lk_M I I5 (dw (dw (dw s))) 0 0 0 → ((q 5 ≤ dw (dw (dw s)) / 8 % 16 → wp_M_hitsBy I5 L R 103 (nI (dw (dw s) / 8 % (q 0 * q 1))) Q) ∧ (¬ q 5 ≤ dw (dw (dw s)) / 8 % 16 → wp_M_playsBy I5 L R 103 (nI (dw s / 8 % q 2)) Q))) → wp_M_does I L R 103 (nI (38 + 6 * j)) Q := by
      intro I L R Q h hs K
      have z0 : lk_M I I s 0 0 0 := lk_M.z fr_P.rfl hs
      have ew := h.r0 hj
      rw [e] at ew
      simp (disch := omega) only [wp_M_does, ew, zi_0, zi_1, zi_2, zi_3, zi_4, zi_5, zi_6, zi_7, zi_8, zi_9, zi_10, zi_11, zi_12, zi_13, zi_14, zi_15, zi_16, zi_17, zi_18, zi_19, zi_20, zi_21, zi_22, zi_23, zi_24, zi_25, zi_26, zi_30, zi_31, zi_32, zi_34, zi_38, zi_59, zi_60, zi_61, zi_63, zi_64, zi_80, zi_96, zi_97, zi_99, zi_100, zi_122, zi_255, zi_256, zi_300, zi_398, zi_406, zi_900, zi_1000, zi_1024, zi_1624, zi_1662, zi_2030, zi_2031, zi_2068, zi_2258, zi_9999, zi_48, zi_57, zi_65536, zi_3257, zi_11483, zi_1000000, zi_729, zi_81, zi_m1, nI_add, pk_mul, nI_ltI, nI_leI, nI_eq, nI_clamp, zn_in, zn_sub1lt, zn_M, zn_Ml, zn_Mg, zn_Mle, zn_Mge, zn_sub, Nat.reduceAdd, Nat.reduceMul]
      refine ⟨by omega, by omega, fun x => absurd x (by omega), fun x => absurd x (by omega), fun x => absurd x (by omega), fun x => absurd x (by omega), fun x => absurd x (by omega), fun x => absurd x (by omega), fun _ => ?_, fun _ _ _ _ _ _ x => absurd trivial x⟩
      unfold wp_M_doesAny
      have en : I (103 + 1) 2 = nI (q 2) := h.n2
      rw [en]
      refine ⟨fun x => ?_, fun _ => ?_⟩
      · have x2 : nI (q 2) = nI 0 := x
        rw [nI_eq (by omega) (by omega)] at x2; omega
      · refine sm_draw hs0 (by omega) (by omega) hs ?_
        have l1 := z0.s (s' := dw s)
        have h1 : sq_M q 0 (am_u2 I 103 44 (nI (dw s))) L := h.keepV ok (by omega) _ _
        refine sm_cells h1 (sm_draw d1 (by omega) (by omega) l1.1 ?_)
        have l2 := l1.s (s' := dw (dw s))
        have h2 := h1.keepV ok (r := 103) (by omega) 44 (nI (dw (dw s)))
        refine sm_draw (n := 16) d2 (by omega) (by omega) l2.1 ?_
        have l3 := l2.s (s' := dw (dw (dw s)))
        have h3 := h2.keepV ok (r := 103) (by omega) 44 (nI (dw (dw (dw s))))
        have k3 := K _ h3 l3
        have e5 := h3.n5
        have e5' : (am_u2 (am_u2 (am_u2 I 103 44 (nI (dw s))) 103 44 (nI (dw (dw s)))) 103 44 (nI (dw (dw (dw s))))) (103 + 1) 5 = nI (q 5) := e5
        rw [e5', nI_leI (by omega) (by omega)]
        exact k3
    by_cases g : q 5 ≤ dw (dw (dw s)) / 8 % 16
    · obtain ⟨q', dm, dh, okq, eo, hm, hU, hM⟩ := ac_thr (s := dw (dw (dw s))) (x := dw (dw s) / 8 % (q 0 * q 1)) ok (by omega)
      refine ⟨q', dw (dw (dw s)), dm, 0, 0, dh, okq, eo, d3, hm, ?_, ?_⟩
      · intro c d v I L R Q hcd hv hd h hs K
        refine uu c d v I L R Q hcd hv hd h hs (fun I5 s5 l5 t5 x5 p5 => ?_)
        rw [if_pos g] at p5
        rw [p5, x5]
        exact ⟨fun _ => hU c d v I5 I L R _ hcd hv s5 l5 K, fun x => absurd rfl x⟩
      · intro I L R Q h hs K
        refine mm I L R Q h hs (fun I5 s5 l5 => ⟨fun _ => hM I5 I L R Q s5 l5 K, fun x => absurd g x⟩)
    · obtain ⟨q', dm, dp, dc, okq, eo, hm, hU, hM⟩ := ac_play (s := dw (dw (dw s))) (t := dw s / 8 % q 2) ok (by omega)
      refine ⟨q', dw (dw (dw s)), dm, dp, dc, 0, okq, eo, d3, hm, ?_, ?_⟩
      · intro c d v I L R Q hcd hv hd h hs K
        refine uu c d v I L R Q hcd hv hd h hs (fun I5 s5 l5 t5 x5 p5 => ?_)
        rw [if_neg g] at p5
        rw [p5, t5]
        exact ⟨fun x => absurd x (by decide), fun _ => hU c d v I5 I L R _ hcd hv s5 l5 K⟩
      · intro I L R Q h hs K
        refine mm I L R Q h hs (fun I5 s5 l5 => ⟨fun x => absurd x g, fun _ => hM I5 I L R Q s5 l5 K⟩)
theorem ac_all (ok : sq_Ok q) {j s : Nat} (hs0 : s < 65536) (hj : j + 1 < q 7) (h19 : q (38 + 6 * j) ≠ 19) (h20 : q (38 + 6 * j) ≠ 20) : ac q j s := by
  have r := ok.2.2.2.2.2.1 j hj
  rcases r with ⟨e, a⟩ | ⟨e | e, a⟩ | e | ⟨e, a, b⟩ | e | e | ⟨e, a⟩ | ⟨e, a⟩ | e | ⟨e, a⟩ | ⟨e, a⟩ | ⟨e, a⟩ | ⟨e, a⟩
  · exact ac_p10 ok hs0 hj e a
  · exact ac_p11 ok hs0 hj e a
  · exact ac_p12 ok hs0 hj e a
  · exact ac_p13 ok hs0 hj e
  · exact ac_p14 ok hs0 hj e a b
  · exact ac_p15 ok hs0 hj e
  · exact ac_p16 ok hs0 hj e
  · exact ac_p18 ok hs0 hj e
  · exact absurd e h19
  · exact absurd e h20
  · exact ac_p1721 ok hs0 hj e
  · exact ac_p1722 ok hs0 hj e
  · exact ac_p1723 ok hs0 hj e
  · exact ac_p1724 ok hs0 hj e
end
