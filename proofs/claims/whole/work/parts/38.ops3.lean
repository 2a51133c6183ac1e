/-! come, throwAt, brush: both answer alike -/
section
variable {q q' : Nat → Nat} {c d : Nat} {I I1 I2 : am_TI} {L : am_TL} {R : am_TR}
/-- finer frames: the square's own rows alone; the reference's slot 0 alone -/
def fr_S (c : Nat) (I I1 : am_TI) : Prop := ∀ r, ¬ (c ≤ r ∧ r ≤ c + 5) → I1 r = I r
def fr_P (I I1 : am_TI) : Prop := ∀ r k, (r ≠ 104 ∨ 38 ≤ k) → I1 r k = I r k
theorem fr_S.rfl : fr_S c I I := fun _ _ => Eq.refl _
theorem fr_S.trans (h : fr_S c I I1) (h2 : fr_S c I1 I2) : fr_S c I I2 := fun r g => (h2 r g).trans (h r g)
theorem fr_P.rfl : fr_P I I := fun _ _ _ => Eq.refl _
theorem fr_P.trans (h : fr_P I I1) (h2 : fr_P I1 I2) : fr_P I I2 := fun r k g => (h2 r k g).trans (h r k g)
theorem fr_S.row {r : Nat} (h1 : c ≤ r) (h2 : r ≤ c + 5) (k : Nat) (v : Int32) : fr_S c I (am_u2 I r k v) := fun r' g => am_u2_row _ _ _ _ (by omega)
theorem fr_P.row {k : Nat} (hk : k < 38) (v : Int32) : fr_P I (am_u2 I 104 k v) := by
  intro r' k' g
  unfold am_u2
  rw [if_neg]
  omega
theorem fr_S.toU (h : fr_S c I I1) (hcd : sq_cd c d) : fr_U d I I1 := by
  obtain ⟨a, b⟩ := hcd
  intro r k g
  rw [h r (by omega)]
theorem fr_P.toM (h : fr_P I I1) : fr_M I I1 := fun r k g => h r k (by omega)
theorem dy_Ok.more (h : dy_Ok q) (e0 : ∀ k, k < 5 → k ≠ 3 → q' k = q k) (e3 : q 3 ≤ q' 3) (e7 : q' 7 = q 7) (e : ∀ k, 38 ≤ k → q' k = q k) : dy_Ok q' := by
  refine ⟨e7 ▸ h.1, fun j hj => ?_, ?_⟩
  rotate_left
  · have := h.2.2
    unfold dy_nest dy_beg at this ⊢
    simp (disch := omega) only [e, e7]
    exact this
  have := h.2.1 j (e7 ▸ hj)
  unfold dy_row dy_open dy_close at this ⊢
  simp (disch := omega) only [e, e0, e7]
  have lt {a : Nat} (t : a < q 3) : a < q' 3 := Nat.lt_of_lt_of_le t e3
  exact Or.imp id (Or.imp id (Or.imp id (Or.imp (fun t => ⟨t.1, lt t.2.1, t.2.2⟩) (Or.imp id (Or.imp id (Or.imp id (Or.imp id (Or.imp id (Or.imp id (Or.imp (fun t => ⟨t.1, lt t.2.1, t.2.2⟩) (Or.imp id (fun t => ⟨t.1, lt t.2.1, t.2.2⟩)))))))))))) this
/-- one more hearer -/
def sq_come (q : Nat → Nat) (j : Nat) : Nat → Nat := zu (zu (zu (zu (zu q 3 (q 3 + 1)) (10 + 4 * q 3) j) (11 + 4 * q 3) 0) (12 + 4 * q 3) 3) (13 + 4 * q 3) 0
theorem sq_come_3 (j : Nat) : sq_come q j 3 = q 3 + 1 := by
  unfold sq_come
  rw [zu_n (by omega), zu_n (by omega), zu_n (by omega), zu_n (by omega), zu_s]
theorem sq_come_o (j : Nat) {k : Nat} (h3 : k ≠ 3) (hk : k < 10 + 4 * q 3 ∨ 14 + 4 * q 3 ≤ k) : sq_come q j k = q k := by
  unfold sq_come
  rw [zu_n (by omega), zu_n (by omega), zu_n (by omega), zu_n (by omega), zu_n (by omega)]
theorem sq_come_r (j : Nat) : sq_come q j (10 + 4 * q 3) = j ∧ sq_come q j (11 + 4 * q 3) = 0 ∧ sq_come q j (12 + 4 * q 3) = 3 ∧ sq_come q j (13 + 4 * q 3) = 0 := by
  unfold sq_come
  refine ⟨?_, ?_, ?_, zu_s _ _ _⟩
  · rw [zu_n (by omega), zu_n (by omega), zu_n (by omega), zu_s]
  · rw [zu_n (by omega), zu_n (by omega), zu_s]
  · rw [zu_n (by omega), zu_s]
theorem sq_come_ok (ok : sq_Ok q) {j : Nat} (hj : j < q 0 * q 1) (h3 : q 3 < 6) : sq_Ok (sq_come q j) := by
  obtain ⟨⟨o0, o1, o2, o6, o8⟩, oh, od, on, oy⟩ := ok
  obtain ⟨r0, r1, r2, r3⟩ := sq_come_r (q := q) j
  refine ⟨?_, fun i hi => ?_, fun i hi => ?_, fun i hi => ?_, oy.more (fun k hk h3 => sq_come_o j h3 (by omega)) (by rw [sq_come_3]; omega) (sq_come_o j (by omega) (by omega)) (fun k hk => sq_come_o j (by omega) (by omega))⟩
  · rw [sq_come_3]
    simp (disch := omega) only [sq_come_o j]
    omega
  · rw [sq_come_3] at hi
    simp (disch := omega) only [sq_come_o j (k := 0), sq_come_o j (k := 1), sq_come_o j (k := 2)]
    rcases Nat.lt_or_ge i (q 3) with g | g
    · simp (disch := omega) only [sq_come_o j]
      exact oh i g
    · rw [show i = q 3 by omega, r0, r1, r2, r3]
      exact ⟨hj, Nat.two_pow_pos _, by omega, by omega⟩
  · simp (disch := omega) only [sq_come_o j] at hi ⊢
    exact od i hi
  · simp (disch := omega) only [sq_come_o j] at hi ⊢
    exact on i hi
theorem sq_U.come (h : sq_U q c d I L) (hcd : sq_cd c d) (h3 : q 3 < 6) (j : Nat) : sq_U (sq_come q j) c d (am_u2 (am_u2 (am_u2 (am_u2 I (c + 2) (q 3) (nI j)) (c + 3) (q 3) (nI 3)) (c + 4) (q 3) (nI 0)) c 11 (nI (q 3 + 1))) L := by
  obtain ⟨hc, hd⟩ := hcd
  obtain ⟨r0, r1, r2, r3⟩ := sq_come_r (q := q) j
  refine ⟨?_, fun i hi => ?_, fun i hi => ?_, fun i hi => ?_, (h.dy.keep (fun r _ _ => ?_)).cong (sq_come_o j (by omega) (by omega)) (fun k hk => sq_come_o j (by omega) (by omega))⟩
  · have es : sq_seen (sq_come q j) = sq_seen q := by
      unfold sq_seen
      rw [sq_come_3, zs_or, r3]
      simp only [Nat.reduceBEq, Bool.false_eq_true, if_false, Nat.or_zero]
      apply zs_cong
      intro i hi
      rw [sq_come_o j (by omega) (by omega)]
    rw [es, sq_come_3]
    simp (disch := omega) only [sq_come_o j]
    simp (disch := omega) only [am_u2o, am_u2_at, am_u2_ne]
    obtain ⟨a0, a1, a2, a3, a4, a5, a6, a7, a8, a9⟩ := h.1
    exact ⟨a0, a1, a2, trivial, a4, a5, a6, a7, a8, a9⟩
  · rw [sq_come_3] at hi
    rcases Nat.lt_or_ge i (q 3) with g | g
    · simp (disch := omega) only [sq_come_o j]
      simp (disch := omega) only [am_u2o, am_u2_ne]
      exact h.2.1 i g
    · rw [show i = q 3 by omega, r0, r1, r2]
      simp (disch := omega) only [am_u2o, am_u2_at, and_self]
  · simp (disch := omega) only [sq_come_o j] at hi ⊢
    simp (disch := omega) only [am_u2o]
    exact h.dg hi
  · simp (disch := omega) only [sq_come_o j] at hi ⊢
    exact h.nm hi
  · rw [am_u2_row _ _ _ _ (by omega), am_u2_row _ _ _ _ (by omega), am_u2_row _ _ _ _ (by omega), am_u2_row _ _ _ _ (by omega)]
theorem op_come (ok : sq_Ok q) (p1 : Int32) : si_I q (fun I L R Q => wp_U_come I L R 0 p1 Q) (fun I L R Q => wp_M_come I L R 103 p1 Q) := by
  have o := ok.cells
  have o3 := ok.1.2.2.1
  rcases zc p1 with hp | ⟨j, hj, rfl⟩
  · refine ⟨nM, 1, q, ok, ?_, ?_⟩
    · intro c d I L R hcd h hc hd hz Q K
      simp (disch := omega) only [wp_U_come, wp_Square_hasCell, wp_Square_cells, wp_Square_addHearer, wp_U_within, wp_U_refused, wp_U_answered, hc, h.n0, h.n1, h.n3, hp, zi_0, zi_1, zi_2, zi_3, zi_4, zi_5, zi_6, zi_7, zi_8, zi_9, zi_10, zi_11, zi_12, zi_13, zi_14, zi_15, zi_16, zi_17, zi_18, zi_19, zi_20, zi_21, zi_22, zi_23, zi_24, zi_25, zi_26, zi_30, zi_31, zi_32, zi_34, zi_38, zi_59, zi_60, zi_61, zi_63, zi_64, zi_80, zi_96, zi_97, zi_99, zi_100, zi_122, zi_255, zi_256, zi_300, zi_398, zi_406, zi_900, zi_1000, zi_1024, zi_1624, zi_1662, zi_2030, zi_2031, zi_2068, zi_2258, zi_9999, zi_48, zi_57, zi_65536, zi_3257, zi_11483, zi_1000000, zi_729, zi_81, zi_m1, nI_add, pk_mul, nI_ltI, nI_leI, nI_eq, nI_clamp, zn_in, zn_sub1lt, zn_M, zn_Ml, zn_Mg, zn_Mle, zn_Mge, zn_sub, Nat.reduceAdd, Nat.reduceMul, forall_eq, true_imp_iff, false_imp_iff, and_true, true_and, not_true_eq_false, not_false_eq_true, reduceCtorEq, imp_self, eq_self, false_and, and_false, implies_true]
      exact K _ (po_U.q0 h hcd _)
    · intro I L R h Q K
      simp (disch := omega) only [wp_M_come, wp_M_isCell, wp_M_cellsOf, wp_M_hearerRow, wp_M_gives, wp_M_refuse, h.n0, h.n1, h.n3, hp, zc_e hp, zi_0, zi_1, zi_2, zi_3, zi_4, zi_5, zi_6, zi_7, zi_8, zi_9, zi_10, zi_11, zi_12, zi_13, zi_14, zi_15, zi_16, zi_17, zi_18, zi_19, zi_20, zi_21, zi_22, zi_23, zi_24, zi_25, zi_26, zi_30, zi_31, zi_32, zi_34, zi_38, zi_59, zi_60, zi_61, zi_63, zi_64, zi_80, zi_96, zi_97, zi_99, zi_100, zi_122, zi_255, zi_256, zi_300, zi_398, zi_406, zi_900, zi_1000, zi_1024, zi_1624, zi_1662, zi_2030, zi_2031, zi_2068, zi_2258, zi_9999, zi_48, zi_57, zi_65536, zi_3257, zi_11483, zi_1000000, zi_729, zi_81, zi_m1, nI_add, pk_mul, nI_ltI, nI_leI, nI_eq, nI_clamp, zn_in, zn_sub1lt, zn_M, zn_Ml, zn_Mg, zn_Mle, zn_Mge, zn_sub, Nat.reduceAdd, Nat.reduceMul, forall_eq, true_imp_iff, false_imp_iff, and_true, true_and, not_true_eq_false, not_false_eq_true, reduceCtorEq, imp_self, eq_self, false_and, and_false, implies_true]
      exact K _ (po_M.q0 h ok _)
  by_cases g : q 0 * q 1 ≤ j
  · refine ⟨nM, 1, q, ok, ?_, ?_⟩
    · intro c d I L R hcd h hc hd hz Q K
      simp (disch := omega) only [wp_U_come, wp_Square_hasCell, wp_Square_cells, wp_Square_addHearer, wp_U_within, wp_U_refused, wp_U_answered, hc, h.n0, h.n1, h.n3, zi_0, zi_1, zi_2, zi_3, zi_4, zi_5, zi_6, zi_7, zi_8, zi_9, zi_10, zi_11, zi_12, zi_13, zi_14, zi_15, zi_16, zi_17, zi_18, zi_19, zi_20, zi_21, zi_22, zi_23, zi_24, zi_25, zi_26, zi_30, zi_31, zi_32, zi_34, zi_38, zi_59, zi_60, zi_61, zi_63, zi_64, zi_80, zi_96, zi_97, zi_99, zi_100, zi_122, zi_255, zi_256, zi_300, zi_398, zi_406, zi_900, zi_1000, zi_1024, zi_1624, zi_1662, zi_2030, zi_2031, zi_2068, zi_2258, zi_9999, zi_48, zi_57, zi_65536, zi_3257, zi_11483, zi_1000000, zi_729, zi_81, zi_m1, nI_add, pk_mul, nI_ltI, nI_leI, nI_eq, nI_clamp, zn_in, zn_sub1lt, zn_M, zn_Ml, zn_Mg, zn_Mle, zn_Mge, zn_sub, Nat.reduceAdd, Nat.reduceMul, forall_eq, true_imp_iff, false_imp_iff, and_true, true_and, not_true_eq_false, not_false_eq_true, reduceCtorEq, imp_self, eq_self, false_and, and_false, implies_true]
      repeat' (first | omega | with_reducible refine And.intro ?_ ?_ | with_reducible intro g)
      exact K _ (po_U.q0 h hcd _)
    · intro I L R h Q K
      simp (disch := omega) only [wp_M_come, wp_M_isCell, wp_M_cellsOf, wp_M_hearerRow, wp_M_gives, wp_M_refuse, h.n0, h.n1, h.n3, zi_0, zi_1, zi_2, zi_3, zi_4, zi_5, zi_6, zi_7, zi_8, zi_9, zi_10, zi_11, zi_12, zi_13, zi_14, zi_15, zi_16, zi_17, zi_18, zi_19, zi_20, zi_21, zi_22, zi_23, zi_24, zi_25, zi_26, zi_30, zi_31, zi_32, zi_34, zi_38, zi_59, zi_60, zi_61, zi_63, zi_64, zi_80, zi_96, zi_97, zi_99, zi_100, zi_122, zi_255, zi_256, zi_300, zi_398, zi_406, zi_900, zi_1000, zi_1024, zi_1624, zi_1662, zi_2030, zi_2031, zi_2068, zi_2258, zi_9999, zi_48, zi_57, zi_65536, zi_3257, zi_11483, zi_1000000, zi_729, zi_81, zi_m1, nI_add, pk_mul, nI_ltI, nI_leI, nI_eq, nI_clamp, zn_in, zn_sub1lt, zn_M, zn_Ml, zn_Mg, zn_Mle, zn_Mge, zn_sub, Nat.reduceAdd, Nat.reduceMul, forall_eq, true_imp_iff, false_imp_iff, and_true, true_and, not_true_eq_false, not_false_eq_true, reduceCtorEq, imp_self, eq_self, false_and, and_false, implies_true]
      repeat' (first | omega | with_reducible refine And.intro ?_ ?_ | with_reducible intro g)
      exact K _ (po_M.q0 h ok _)
  by_cases g1 : q 3 = 6
  · refine ⟨nM, 4, q, ok, ?_, ?_⟩
    · intro c d I L R hcd h hc hd hz Q K
      simp (disch := omega) only [wp_U_come, wp_Square_hasCell, wp_Square_cells, wp_Square_addHearer, wp_U_within, wp_U_refused, wp_U_answered, hc, h.n0, h.n1, h.n3, zi_0, zi_1, zi_2, zi_3, zi_4, zi_5, zi_6, zi_7, zi_8, zi_9, zi_10, zi_11, zi_12, zi_13, zi_14, zi_15, zi_16, zi_17, zi_18, zi_19, zi_20, zi_21, zi_22, zi_23, zi_24, zi_25, zi_26, zi_30, zi_31, zi_32, zi_34, zi_38, zi_59, zi_60, zi_61, zi_63, zi_64, zi_80, zi_96, zi_97, zi_99, zi_100, zi_122, zi_255, zi_256, zi_300, zi_398, zi_406, zi_900, zi_1000, zi_1024, zi_1624, zi_1662, zi_2030, zi_2031, zi_2068, zi_2258, zi_9999, zi_48, zi_57, zi_65536, zi_3257, zi_11483, zi_1000000, zi_729, zi_81, zi_m1, nI_add, pk_mul, nI_ltI, nI_leI, nI_eq, nI_clamp, zn_in, zn_sub1lt, zn_M, zn_Ml, zn_Mg, zn_Mle, zn_Mge, zn_sub, Nat.reduceAdd, Nat.reduceMul, forall_eq, true_imp_iff, false_imp_iff, and_true, true_and, not_true_eq_false, not_false_eq_true, reduceCtorEq, imp_self, eq_self, false_and, and_false, implies_true]
      repeat' (first | omega | with_reducible refine And.intro ?_ ?_ | with_reducible intro g)
      exact K _ (po_U.q0 h hcd _)
    · intro I L R h Q K
      simp (disch := omega) only [wp_M_come, wp_M_isCell, wp_M_cellsOf, wp_M_hearerRow, wp_M_gives, wp_M_refuse, h.n0, h.n1, h.n3, zi_0, zi_1, zi_2, zi_3, zi_4, zi_5, zi_6, zi_7, zi_8, zi_9, zi_10, zi_11, zi_12, zi_13, zi_14, zi_15, zi_16, zi_17, zi_18, zi_19, zi_20, zi_21, zi_22, zi_23, zi_24, zi_25, zi_26, zi_30, zi_31, zi_32, zi_34, zi_38, zi_59, zi_60, zi_61, zi_63, zi_64, zi_80, zi_96, zi_97, zi_99, zi_100, zi_122, zi_255, zi_256, zi_300, zi_398, zi_406, zi_900, zi_1000, zi_1024, zi_1624, zi_1662, zi_2030, zi_2031, zi_2068, zi_2258, zi_9999, zi_48, zi_57, zi_65536, zi_3257, zi_11483, zi_1000000, zi_729, zi_81, zi_m1, nI_add, pk_mul, nI_ltI, nI_leI, nI_eq, nI_clamp, zn_in, zn_sub1lt, zn_M, zn_Ml, zn_Mg, zn_Mle, zn_Mge, zn_sub, Nat.reduceAdd, Nat.reduceMul, forall_eq, true_imp_iff, false_imp_iff, and_true, true_and, not_true_eq_false, not_false_eq_true, reduceCtorEq, imp_self, eq_self, false_and, and_false, implies_true]
      repeat' (first | omega | with_reducible refine And.intro ?_ ?_ | with_reducible intro g)
      exact K _ (po_M.q0 h ok _)
  have ok2 := sq_come_ok ok (j := j) (by omega) (by omega)
  refine ⟨nI (q 3), 0, sq_come q j, ok2, ?_, ?_⟩
  · intro c d I L R hcd h hc hd hz Q K
    simp (disch := omega) only [wp_U_come, wp_Square_hasCell, wp_Square_cells, wp_Square_addHearer, wp_U_within, wp_U_refused, wp_U_answered, hc, h.n0, h.n1, h.n3, am_u2o, am_u2_ne, am_u2_at, zi_0, zi_1, zi_2, zi_3, zi_4, zi_5, zi_6, zi_7, zi_8, zi_9, zi_10, zi_11, zi_12, zi_13, zi_14, zi_15, zi_16, zi_17, zi_18, zi_19, zi_20, zi_21, zi_22, zi_23, zi_24, zi_25, zi_26, zi_30, zi_31, zi_32, zi_34, zi_38, zi_59, zi_60, zi_61, zi_63, zi_64, zi_80, zi_96, zi_97, zi_99, zi_100, zi_122, zi_255, zi_256, zi_300, zi_398, zi_406, zi_900, zi_1000, zi_1024, zi_1624, zi_1662, zi_2030, zi_2031, zi_2068, zi_2258, zi_9999, zi_48, zi_57, zi_65536, zi_3257, zi_11483, zi_1000000, zi_729, zi_81, zi_m1, nI_add, pk_mul, nI_ltI, nI_leI, nI_eq, nI_clamp, zn_in, zn_sub1lt, zn_M, zn_Ml, zn_Mg, zn_Mle, zn_Mge, zn_sub, Nat.reduceAdd, Nat.reduceMul, forall_eq, true_imp_iff, false_imp_iff, and_true, true_and, not_true_eq_false, not_false_eq_true, reduceCtorEq, imp_self, eq_self, false_and, and_false, implies_true]
    repeat' (first | omega | with_reducible refine And.intro ?_ ?_ | with_reducible intro g)
    have hh := h.come hcd (by omega) j
    refine K _ (po_U.of hh hcd ?_ _)
    refine fr_U.trans (fr_U.trans (fr_U.trans (fr_U.row hcd (r := c + 2) (by omega) (by omega) _ _) (fr_U.row hcd (r := c + 3) (by omega) (by omega) _ _)) (fr_U.row hcd (r := c + 4) (by omega) (by omega) _ _)) (fr_U.row hcd (by omega) (by omega) _ _)
  · intro I L R h Q K
    simp (disch := omega) only [wp_M_come, wp_M_isCell, wp_M_cellsOf, wp_M_hearerRow, wp_M_gives, wp_M_refuse, h.n0, h.n1, h.n3, am_u2_ne, zi_0, zi_1, zi_2, zi_3, zi_4, zi_5, zi_6, zi_7, zi_8, zi_9, zi_10, zi_11, zi_12, zi_13, zi_14, zi_15, zi_16, zi_17, zi_18, zi_19, zi_20, zi_21, zi_22, zi_23, zi_24, zi_25, zi_26, zi_30, zi_31, zi_32, zi_34, zi_38, zi_59, zi_60, zi_61, zi_63, zi_64, zi_80, zi_96, zi_97, zi_99, zi_100, zi_122, zi_255, zi_256, zi_300, zi_398, zi_406, zi_900, zi_1000, zi_1024, zi_1624, zi_1662, zi_2030, zi_2031, zi_2068, zi_2258, zi_9999, zi_48, zi_57, zi_65536, zi_3257, zi_11483, zi_1000000, zi_729, zi_81, zi_m1, nI_add, pk_mul, nI_ltI, nI_leI, nI_eq, nI_clamp, zn_in, zn_sub1lt, zn_M, zn_Ml, zn_Mg, zn_Mle, zn_Mge, zn_sub, Nat.reduceAdd, Nat.reduceMul, forall_eq, true_imp_iff, false_imp_iff, and_true, true_and, not_true_eq_false, not_false_eq_true, reduceCtorEq, imp_self, eq_self, false_and, and_false, implies_true]
    repeat' (first | omega | with_reducible refine And.intro ?_ ?_ | with_reducible intro g)
    have h1 := h.put (k := 3) (by omega) (by omega) (by omega) (q 3 + 1)
    have h2 := h1.put (k := 10 + 4 * q 3) (by omega) (by omega) (by omega) j
    have h3 := h2.put (k := 11 + 4 * q 3) (by omega) (by omega) (by omega) 0
    have h4 := h3.put (k := 12 + 4 * q 3) (by omega) (by omega) (by omega) 3
    have h5 := h4.put (k := 13 + 4 * q 3) (by omega) (by omega) (by omega) 0
    rw [show 10 + 4 * q 3 + 1 = 11 + 4 * q 3 by omega, show 10 + 4 * q 3 + 2 = 12 + 4 * q 3 by omega, show 10 + 4 * q 3 + 3 = 13 + 4 * q 3 by omega]
    refine K _ (po_M.of h5 ok2 ?_ _)
    refine fr_M.trans (fr_M.trans (fr_M.trans (fr_M.trans (fr_M.row (k := 3) (by omega) _) (fr_M.row (k := 10 + 4 * q 3) (by omega) _)) (fr_M.row (k := 11 + 4 * q 3) (by omega) _)) (fr_M.row (k := 12 + 4 * q 3) (by omega) _)) (fr_M.row (by omega) _)
/-- those of a set who stand among the first m are seen -/
def sq_thr (q : Nat → Nat) (s m : Nat) : Nat → Nat := fun i => if i % 4 = 1 ∧ 13 ≤ i ∧ i < 13 + 4 * m ∧ s.testBit ((i - 13) / 4) = true then 1 else q i
theorem sq_thr_0 (s : Nat) : sq_thr q s 0 = q := by
  funext i
  unfold sq_thr
  rw [if_neg (by omega)]
theorem sq_thr_o (s m : Nat) {i : Nat} (h : i < 13 ∨ 13 + 4 * m ≤ i ∨ i % 4 ≠ 1) : sq_thr q s m i = q i := by
  unfold sq_thr
  rw [if_neg (by omega)]
theorem sq_thr_i (s m : Nat) {h : Nat} (hh : h < m) : sq_thr q s m (13 + 4 * h) = if s.testBit h = true then 1 else q (13 + 4 * h) := by
  unfold sq_thr
  rw [show (13 + 4 * h - 13) / 4 = h by omega]
  by_cases e : s.testBit h = true
  · rw [if_pos ⟨by omega, by omega, by omega, e⟩, if_pos e]
  · rw [if_neg (fun g => e g.2.2.2), if_neg e]
theorem sq_thr_yes {s m : Nat} (h : s.testBit m = true) : zu (sq_thr q s m) (13 + 4 * m) 1 = sq_thr q s (m + 1) := by
  funext i
  by_cases e : i = 13 + 4 * m
  · subst e; rw [zu_s, sq_thr_i s (m + 1) (by omega), if_pos h]
  · rw [zu_n e]
    unfold sq_thr
    have : (i % 4 = 1 ∧ 13 ≤ i ∧ i < 13 + 4 * m ∧ s.testBit ((i - 13) / 4) = true) ↔ (i % 4 = 1 ∧ 13 ≤ i ∧ i < 13 + 4 * (m + 1) ∧ s.testBit ((i - 13) / 4) = true) := by
      constructor
      · rintro ⟨a, b, c, d⟩; exact ⟨a, b, by omega, d⟩
      · rintro ⟨a, b, c, d⟩; exact ⟨a, b, by omega, d⟩
    simp only [this]
theorem sq_thr_no {s m : Nat} (h : s.testBit m = false) : sq_thr q s m = sq_thr q s (m + 1) := by
  funext i
  by_cases e : i = 13 + 4 * m
  · subst e; rw [sq_thr_i s (m + 1) (by omega), h, if_neg (by decide), sq_thr_o s m (by omega)]
  · unfold sq_thr
    have : (i % 4 = 1 ∧ 13 ≤ i ∧ i < 13 + 4 * m ∧ s.testBit ((i - 13) / 4) = true) ↔ (i % 4 = 1 ∧ 13 ≤ i ∧ i < 13 + 4 * (m + 1) ∧ s.testBit ((i - 13) / 4) = true) := by
      constructor
      · rintro ⟨a, b, c, d⟩; exact ⟨a, b, by omega, d⟩
      · rintro ⟨a, b, c, d⟩; exact ⟨a, b, by omega, d⟩
    simp only [this]
theorem sq_thr_seen (s : Nat) (hs : s < 2 ^ q 3) (ok : sq_Ok q) : sq_seen (sq_thr q s (q 3)) = sq_seen q ||| s := by
  apply Nat.eq_of_testBit_eq
  intro i
  unfold sq_seen
  rw [sq_thr_o s _ (by omega), Nat.testBit_or, zs_bit, zs_bit]
  by_cases hi : i < q 3
  · simp only [hi, decide_true, Bool.true_and]
    rw [sq_thr_i s _ hi]
    by_cases e : s.testBit i = true
    · rw [if_pos e, e]; simp
    · rw [if_neg e]
      simp at e; simp [e]
  · simp only [hi, decide_false, Bool.false_and, Bool.false_or]
    rw [Nat.testBit_lt_two_pow]
    exact Nat.lt_of_lt_of_le hs (Nat.pow_le_pow_right (by decide) (by omega))
theorem sq_thr_ok (ok : sq_Ok q) (s m : Nat) (hm : m ≤ 6) : sq_Ok (sq_thr q s m) := by
  obtain ⟨⟨o0, o1, o2, o6, o8⟩, oh, od, on, oy⟩ := ok
  refine ⟨?_, fun i hi => ?_, fun i hi => ?_, fun i hi => ?_, oy.keep (fun k hk => sq_thr_o s m (by omega)) (sq_thr_o s m (by omega)) (fun k hk => sq_thr_o s m (by omega))⟩
  · simp (disch := omega) only [sq_thr_o s m]
    exact ⟨o0, o1, o2, o6, o8⟩
  · simp (disch := omega) only [sq_thr_o s m (i := 0), sq_thr_o s m (i := 1), sq_thr_o s m (i := 2), sq_thr_o s m (i := 3)] at hi ⊢
    obtain ⟨a, b, e, f⟩ := oh i hi
    rw [sq_thr_o s m (i := 10 + 4 * i) (by omega), sq_thr_o s m (i := 11 + 4 * i) (by omega), sq_thr_o s m (i := 12 + 4 * i) (by omega)]
    refine ⟨a, b, e, ?_⟩
    unfold sq_thr; split <;> omega
  · simp (disch := omega) only [sq_thr_o s m] at hi ⊢
    exact od i hi
  · simp (disch := omega) only [sq_thr_o s m] at hi ⊢
    exact on i hi
theorem sq_U.thr (h : sq_U q c d I L) (hcd : sq_cd c d) (ok : sq_Ok q) (s : Nat) (hs : s < 2 ^ q 3) : sq_U (sq_thr q s (q 3)) c d (am_u2 I c 15 (nI (sq_seen q ||| s))) L := by
  obtain ⟨hc, hd⟩ := hcd
  have o3 := ok.1.2.2.1
  refine ⟨?_, fun i hi => ?_, fun i hi => ?_, fun i hi => ?_, (h.dy.keep (fun r _ _ => am_u2_row _ _ _ _ (by omega))).cong (sq_thr_o _ _ (by omega)) (fun k hk => sq_thr_o _ _ (by omega))⟩
  · rw [sq_thr_seen s hs ok]
    simp (disch := omega) only [sq_thr_o s]
    simp (disch := omega) only [am_u2_at, am_u2_ne]
    obtain ⟨a0, a1, a2, a3, a4, a5, a6, a7, a8, a9⟩ := h.1
    exact ⟨a0, a1, a2, a3, a4, a5, a6, a7, a8, trivial⟩
  · simp (disch := omega) only [sq_thr_o s, am_u2o] at hi ⊢
    exact h.2.1 i hi
  · simp (disch := omega) only [sq_thr_o s, am_u2o] at hi ⊢
    exact h.dg hi
  · simp (disch := omega) only [sq_thr_o s] at hi ⊢
    exact h.nm hi
theorem sq_near_lt3 (x r : Nat) : sq_near q x r < 2 ^ q 3 := zs_lt _ _
/-- a throw, class -/
theorem su_flour (h : sq_U q c d I L) (hcd : sq_cd c d) (ok : sq_Ok q) {x : Nat} (hx : x < 25) {Q : Int32 → am_TI → Prop} (k : ∀ I1, sq_U (sq_thr q (sq_near q x 1) (q 3)) c d I1 L → fr_S c I I1 → Q (if sq_near q x 1 = 0 then nM else nI (sq_near q x 1)) I1) : wp_Square_flour I L R c (nI x) Q := by
  simp (disch := omega) only [wp_Square_flour, h.sn, zi_0, zi_1, zi_2, zi_3, zi_4, zi_5, zi_6, zi_7, zi_8, zi_9, zi_10, zi_11, zi_12, zi_13, zi_14, zi_15, zi_16, zi_17, zi_18, zi_19, zi_20, zi_21, zi_22, zi_23, zi_24, zi_25, zi_26, zi_30, zi_31, zi_32, zi_34, zi_38, zi_59, zi_60, zi_61, zi_63, zi_64, zi_80, zi_96, zi_97, zi_99, zi_100, zi_122, zi_255, zi_256, zi_300, zi_398, zi_406, zi_900, zi_1000, zi_1024, zi_1624, zi_1662, zi_2030, zi_2031, zi_2068, zi_2258, zi_9999, zi_48, zi_57, zi_65536, zi_3257, zi_11483, zi_1000000, zi_729, zi_81, zi_m1, nI_add, pk_mul, nI_ltI, nI_leI, nI_eq, nI_clamp, zn_in, zn_sub1lt, zn_M, zn_Ml, zn_Mg, zn_Mle, zn_Mge, zn_sub, Nat.reduceAdd, Nat.reduceMul, forall_eq, true_imp_iff, false_imp_iff, and_true, true_and, not_true_eq_false, not_false_eq_true, reduceCtorEq, imp_self, eq_self, false_and, and_false, implies_true]
  refine su_near h ok hx (by omega) ?_
  have l1 := sq_near_lt ok x 1
  simp (disch := omega) only [ze_or, zi_0, zi_1, zi_2, zi_3, zi_4, zi_5, zi_6, zi_7, zi_8, zi_9, zi_10, zi_11, zi_12, zi_13, zi_14, zi_15, zi_16, zi_17, zi_18, zi_19, zi_20, zi_21, zi_22, zi_23, zi_24, zi_25, zi_26, zi_30, zi_31, zi_32, zi_34, zi_38, zi_59, zi_60, zi_61, zi_63, zi_64, zi_80, zi_96, zi_97, zi_99, zi_100, zi_122, zi_255, zi_256, zi_300, zi_398, zi_406, zi_900, zi_1000, zi_1024, zi_1624, zi_1662, zi_2030, zi_2031, zi_2068, zi_2258, zi_9999, zi_48, zi_57, zi_65536, zi_3257, zi_11483, zi_1000000, zi_729, zi_81, zi_m1, nI_add, pk_mul, nI_ltI, nI_leI, nI_eq, nI_clamp, zn_in, zn_sub1lt, zn_M, zn_Ml, zn_Mg, zn_Mle, zn_Mge, zn_sub, Nat.reduceAdd, Nat.reduceMul, forall_eq, true_imp_iff, false_imp_iff, and_true, true_and, not_true_eq_false, not_false_eq_true, reduceCtorEq, imp_self, eq_self, false_and, and_false, implies_true]
  have k2 := k _ (h.thr hcd ok _ (sq_near_lt3 x 1)) (fr_S.row (by omega) (by omega) _ _)
  refine ⟨fun g => ?_, fun g => ?_⟩
  · rw [if_pos g] at k2; exact k2
  · rw [if_neg g] at k2; exact k2
theorem sm_hits (h : sq_M q 0 I L) (ok : sq_Ok q) {x : Nat} (hx : x < 25) {Q : Int32 → am_TI → Prop} (k : ∀ I1, sq_M (sq_thr q (sq_near q x 1) (q 3)) 0 I1 L → fr_P I I1 → Q (nI (sq_near q x 1)) I1) : wp_M_hits I L R 103 (nI x) Q := by
  have o := ok.1.2.2.1
  simp (disch := omega) only [wp_M_hits, zi_0, zi_1, zi_2, zi_3, zi_4, zi_5, zi_6, zi_7, zi_8, zi_9, zi_10, zi_11, zi_12, zi_13, zi_14, zi_15, zi_16, zi_17, zi_18, zi_19, zi_20, zi_21, zi_22, zi_23, zi_24, zi_25, zi_26, zi_30, zi_31, zi_32, zi_34, zi_38, zi_59, zi_60, zi_61, zi_63, zi_64, zi_80, zi_96, zi_97, zi_99, zi_100, zi_122, zi_255, zi_256, zi_300, zi_398, zi_406, zi_900, zi_1000, zi_1024, zi_1624, zi_1662, zi_2030, zi_2031, zi_2068, zi_2258, zi_9999, zi_48, zi_57, zi_65536, zi_3257, zi_11483, zi_1000000, zi_729, zi_81, zi_m1, nI_add, pk_mul, nI_ltI, nI_leI, nI_eq, nI_clamp, zn_in, zn_sub1lt, zn_M, zn_Ml, zn_Mg, zn_Mle, zn_Mge, zn_sub, Nat.reduceAdd, Nat.reduceMul, forall_eq, true_imp_iff, false_imp_iff, and_true, true_and, not_true_eq_false, not_false_eq_true, reduceCtorEq, imp_self, eq_self, false_and, and_false, implies_true]
  refine sm_near h ok hx (by omega) ?_
  have l1 := sq_near_lt ok x 1
  refine (zl_up (P := fun f m => ∀ I1, sq_M (sq_thr q (sq_near q x 1) m) 0 I1 L → fr_P I I1 → wl_M_hits_9 L R 103 (nI x) Q f I1 (nI (sq_near q x 1)) (nI m)) (q 3) (fun f I1 h1 f1 => ?_) (fun f m hm ih I1 h1 f1 => ?_) 0 (by omega)).elim fun z hz => ⟨z, hz I (by rw [sq_thr_0]; exact h) fr_P.rfl⟩
  · have e3 := h1.n3
    rw [sq_thr_o _ _ (by omega)] at e3
    simp (disch := omega) only [wl_M_hits_9, e3, zi_0, zi_1, zi_2, zi_3, zi_4, zi_5, zi_6, zi_7, zi_8, zi_9, zi_10, zi_11, zi_12, zi_13, zi_14, zi_15, zi_16, zi_17, zi_18, zi_19, zi_20, zi_21, zi_22, zi_23, zi_24, zi_25, zi_26, zi_30, zi_31, zi_32, zi_34, zi_38, zi_59, zi_60, zi_61, zi_63, zi_64, zi_80, zi_96, zi_97, zi_99, zi_100, zi_122, zi_255, zi_256, zi_300, zi_398, zi_406, zi_900, zi_1000, zi_1024, zi_1624, zi_1662, zi_2030, zi_2031, zi_2068, zi_2258, zi_9999, zi_48, zi_57, zi_65536, zi_3257, zi_11483, zi_1000000, zi_729, zi_81, zi_m1, nI_add, pk_mul, nI_ltI, nI_leI, nI_eq, nI_clamp, zn_in, zn_sub1lt, zn_M, zn_Ml, zn_Mg, zn_Mle, zn_Mge, zn_sub, Nat.reduceAdd, Nat.reduceMul, forall_eq, true_imp_iff, false_imp_iff, and_true, true_and, not_true_eq_false, not_false_eq_true, reduceCtorEq, imp_self, eq_self, false_and, and_false, implies_true]
    exact ⟨fun _ => k _ h1 f1, fun g => absurd (Nat.le_refl _) g⟩
  · have e3 := h1.n3
    rw [sq_thr_o _ _ (by omega)] at e3
    simp (disch := omega) only [wl_M_hits_9, wp_M_isIn, wp_M_hearerRow, zn_bit, e3, zi_0, zi_1, zi_2, zi_3, zi_4, zi_5, zi_6, zi_7, zi_8, zi_9, zi_10, zi_11, zi_12, zi_13, zi_14, zi_15, zi_16, zi_17, zi_18, zi_19, zi_20, zi_21, zi_22, zi_23, zi_24, zi_25, zi_26, zi_30, zi_31, zi_32, zi_34, zi_38, zi_59, zi_60, zi_61, zi_63, zi_64, zi_80, zi_96, zi_97, zi_99, zi_100, zi_122, zi_255, zi_256, zi_300, zi_398, zi_406, zi_900, zi_1000, zi_1024, zi_1624, zi_1662, zi_2030, zi_2031, zi_2068, zi_2258, zi_9999, zi_48, zi_57, zi_65536, zi_3257, zi_11483, zi_1000000, zi_729, zi_81, zi_m1, nI_add, pk_mul, nI_ltI, nI_leI, nI_eq, nI_clamp, zn_in, zn_sub1lt, zn_M, zn_Ml, zn_Mg, zn_Mle, zn_Mge, zn_sub, Nat.reduceAdd, Nat.reduceMul, forall_eq, true_imp_iff, false_imp_iff, and_true, true_and, not_true_eq_false, not_false_eq_true, reduceCtorEq, imp_self, eq_self, false_and, and_false, implies_true]
    refine ⟨fun g => absurd g (by omega), fun _ => ⟨fun g => ⟨by omega, ?_⟩, fun g => ?_⟩⟩
    · rw [show 10 + 4 * m + 3 = 13 + 4 * m by omega]
      have h2 := h1.put (k := 13 + 4 * m) (by omega) (by omega) (by omega) 1
      rw [sq_thr_yes g] at h2
      exact ih _ h2 (f1.trans (fr_P.row (by omega) _))
    · rw [sq_thr_no (by simpa using g)] at h1
      exact ih _ h1 f1
theorem op_throwAt (ok : sq_Ok q) (p1 : Int32) : si_I q (fun I L R Q => wp_U_throwAt I L R 0 p1 Q) (fun I L R Q => wp_M_throwAt I L R 103 p1 Q) := by
  have o := ok.cells
  have o3 := ok.1.2.2.1
  rcases zc p1 with hp | ⟨j, hj, rfl⟩
  · refine ⟨nM, 1, q, ok, ?_, ?_⟩
    · intro c d I L R hcd h hc hd hz Q K
      simp (disch := omega) only [wp_U_throwAt, wp_Square_hasCell, wp_Square_cells, wp_U_answeredIfItCanBe, wp_U_within, wp_U_refused, wp_U_answered, hc, h.n0, h.n1, hp, zi_0, zi_1, zi_2, zi_3, zi_4, zi_5, zi_6, zi_7, zi_8, zi_9, zi_10, zi_11, zi_12, zi_13, zi_14, zi_15, zi_16, zi_17, zi_18, zi_19, zi_20, zi_21, zi_22, zi_23, zi_24, zi_25, zi_26, zi_30, zi_31, zi_32, zi_34, zi_38, zi_59, zi_60, zi_61, zi_63, zi_64, zi_80, zi_96, zi_97, zi_99, zi_100, zi_122, zi_255, zi_256, zi_300, zi_398, zi_406, zi_900, zi_1000, zi_1024, zi_1624, zi_1662, zi_2030, zi_2031, zi_2068, zi_2258, zi_9999, zi_48, zi_57, zi_65536, zi_3257, zi_11483, zi_1000000, zi_729, zi_81, zi_m1, nI_add, pk_mul, nI_ltI, nI_leI, nI_eq, nI_clamp, zn_in, zn_sub1lt, zn_M, zn_Ml, zn_Mg, zn_Mle, zn_Mge, zn_sub, Nat.reduceAdd, Nat.reduceMul, forall_eq, true_imp_iff, false_imp_iff, and_true, true_and, not_true_eq_false, not_false_eq_true, reduceCtorEq, imp_self, eq_self, false_and, and_false, implies_true]
      exact K _ (po_U.q0 h hcd _)
    · intro I L R h Q K
      simp (disch := omega) only [wp_M_throwAt, wp_M_isCell, wp_M_cellsOf, wp_M_gives, wp_M_refuse, h.n0, h.n1, hp, zc_e hp, zi_0, zi_1, zi_2, zi_3, zi_4, zi_5, zi_6, zi_7, zi_8, zi_9, zi_10, zi_11, zi_12, zi_13, zi_14, zi_15, zi_16, zi_17, zi_18, zi_19, zi_20, zi_21, zi_22, zi_23, zi_24, zi_25, zi_26, zi_30, zi_31, zi_32, zi_34, zi_38, zi_59, zi_60, zi_61, zi_63, zi_64, zi_80, zi_96, zi_97, zi_99, zi_100, zi_122, zi_255, zi_256, zi_300, zi_398, zi_406, zi_900, zi_1000, zi_1024, zi_1624, zi_1662, zi_2030, zi_2031, zi_2068, zi_2258, zi_9999, zi_48, zi_57, zi_65536, zi_3257, zi_11483, zi_1000000, zi_729, zi_81, zi_m1, nI_add, pk_mul, nI_ltI, nI_leI, nI_eq, nI_clamp, zn_in, zn_sub1lt, zn_M, zn_Ml, zn_Mg, zn_Mle, zn_Mge, zn_sub, Nat.reduceAdd, Nat.reduceMul, forall_eq, true_imp_iff, false_imp_iff, and_true, true_and, not_true_eq_false, not_false_eq_true, reduceCtorEq, imp_self, eq_self, false_and, and_false, implies_true]
      exact K _ (po_M.q0 h ok _)
  by_cases g : q 0 * q 1 ≤ j
  · refine ⟨nM, 1, q, ok, ?_, ?_⟩
    · intro c d I L R hcd h hc hd hz Q K
      simp (disch := omega) only [wp_U_throwAt, wp_Square_hasCell, wp_Square_cells, wp_U_answeredIfItCanBe, wp_U_within, wp_U_refused, wp_U_answered, hc, h.n0, h.n1, zi_0, zi_1, zi_2, zi_3, zi_4, zi_5, zi_6, zi_7, zi_8, zi_9, zi_10, zi_11, zi_12, zi_13, zi_14, zi_15, zi_16, zi_17, zi_18, zi_19, zi_20, zi_21, zi_22, zi_23, zi_24, zi_25, zi_26, zi_30, zi_31, zi_32, zi_34, zi_38, zi_59, zi_60, zi_61, zi_63, zi_64, zi_80, zi_96, zi_97, zi_99, zi_100, zi_122, zi_255, zi_256, zi_300, zi_398, zi_406, zi_900, zi_1000, zi_1024, zi_1624, zi_1662, zi_2030, zi_2031, zi_2068, zi_2258, zi_9999, zi_48, zi_57, zi_65536, zi_3257, zi_11483, zi_1000000, zi_729, zi_81, zi_m1, nI_add, pk_mul, nI_ltI, nI_leI, nI_eq, nI_clamp, zn_in, zn_sub1lt, zn_M, zn_Ml, zn_Mg, zn_Mle, zn_Mge, zn_sub, Nat.reduceAdd, Nat.reduceMul, forall_eq, true_imp_iff, false_imp_iff, and_true, true_and, not_true_eq_false, not_false_eq_true, reduceCtorEq, imp_self, eq_self, false_and, and_false, implies_true]
      repeat' (first | omega | with_reducible refine And.intro ?_ ?_ | with_reducible intro g)
      exact K _ (po_U.q0 h hcd _)
    · intro I L R h Q K
      simp (disch := omega) only [wp_M_throwAt, wp_M_isCell, wp_M_cellsOf, wp_M_gives, wp_M_refuse, h.n0, h.n1, zi_0, zi_1, zi_2, zi_3, zi_4, zi_5, zi_6, zi_7, zi_8, zi_9, zi_10, zi_11, zi_12, zi_13, zi_14, zi_15, zi_16, zi_17, zi_18, zi_19, zi_20, zi_21, zi_22, zi_23, zi_24, zi_25, zi_26, zi_30, zi_31, zi_32, zi_34, zi_38, zi_59, zi_60, zi_61, zi_63, zi_64, zi_80, zi_96, zi_97, zi_99, zi_100, zi_122, zi_255, zi_256, zi_300, zi_398, zi_406, zi_900, zi_1000, zi_1024, zi_1624, zi_1662, zi_2030, zi_2031, zi_2068, zi_2258, zi_9999, zi_48, zi_57, zi_65536, zi_3257, zi_11483, zi_1000000, zi_729, zi_81, zi_m1, nI_add, pk_mul, nI_ltI, nI_leI, nI_eq, nI_clamp, zn_in, zn_sub1lt, zn_M, zn_Ml, zn_Mg, zn_Mle, zn_Mge, zn_sub, Nat.reduceAdd, Nat.reduceMul, forall_eq, true_imp_iff, false_imp_iff, and_true, true_and, not_true_eq_false, not_false_eq_true, reduceCtorEq, imp_self, eq_self, false_and, and_false, implies_true]
      repeat' (first | omega | with_reducible refine And.intro ?_ ?_ | with_reducible intro g)
      exact K _ (po_M.q0 h ok _)
  have hj3 : j < 25 := by omega
  have l1 := sq_near_lt ok j 1
  have ok2 := sq_thr_ok ok (sq_near q j 1) (q 3) (by omega)
  by_cases e : sq_near q j 1 = 0
  · refine ⟨nM, 7, sq_thr q (sq_near q j 1) (q 3), ok2, ?_, ?_⟩
    · intro c d I L R hcd h hc hd hz Q K
      simp (disch := omega) only [wp_U_throwAt, wp_Square_hasCell, wp_Square_cells, wp_U_answeredIfItCanBe, wp_U_within, wp_U_refused, wp_U_answered, hc, h.n0, h.n1, zi_0, zi_1, zi_2, zi_3, zi_4, zi_5, zi_6, zi_7, zi_8, zi_9, zi_10, zi_11, zi_12, zi_13, zi_14, zi_15, zi_16, zi_17, zi_18, zi_19, zi_20, zi_21, zi_22, zi_23, zi_24, zi_25, zi_26, zi_30, zi_31, zi_32, zi_34, zi_38, zi_59, zi_60, zi_61, zi_63, zi_64, zi_80, zi_96, zi_97, zi_99, zi_100, zi_122, zi_255, zi_256, zi_300, zi_398, zi_406, zi_900, zi_1000, zi_1024, zi_1624, zi_1662, zi_2030, zi_2031, zi_2068, zi_2258, zi_9999, zi_48, zi_57, zi_65536, zi_3257, zi_11483, zi_1000000, zi_729, zi_81, zi_m1, nI_add, pk_mul, nI_ltI, nI_leI, nI_eq, nI_clamp, zn_in, zn_sub1lt, zn_M, zn_Ml, zn_Mg, zn_Mle, zn_Mge, zn_sub, Nat.reduceAdd, Nat.reduceMul, forall_eq, true_imp_iff, false_imp_iff, and_true, true_and, not_true_eq_false, not_false_eq_true, reduceCtorEq, imp_self, eq_self, false_and, and_false, implies_true]
      repeat' (first | omega | with_reducible refine And.intro ?_ ?_ | with_reducible intro g)
      refine su_flour h hcd ok hj3 (fun I1 h1 f1 => ?_)
      rw [if_pos e]
      try simp (disch := omega) only [zi_0, zi_1, zi_2, zi_3, zi_4, zi_5, zi_6, zi_7, zi_8, zi_9, zi_10, zi_11, zi_12, zi_13, zi_14, zi_15, zi_16, zi_17, zi_18, zi_19, zi_20, zi_21, zi_22, zi_23, zi_24, zi_25, zi_26, zi_30, zi_31, zi_32, zi_34, zi_38, zi_59, zi_60, zi_61, zi_63, zi_64, zi_80, zi_96, zi_97, zi_99, zi_100, zi_122, zi_255, zi_256, zi_300, zi_398, zi_406, zi_900, zi_1000, zi_1024, zi_1624, zi_1662, zi_2030, zi_2031, zi_2068, zi_2258, zi_9999, zi_48, zi_57, zi_65536, zi_3257, zi_11483, zi_1000000, zi_729, zi_81, zi_m1, nI_add, pk_mul, nI_ltI, nI_leI, nI_eq, nI_clamp, zn_in, zn_sub1lt, zn_M, zn_Ml, zn_Mg, zn_Mle, zn_Mge, zn_sub, Nat.reduceAdd, Nat.reduceMul, forall_eq, true_imp_iff, false_imp_iff, and_true, true_and, not_true_eq_false, not_false_eq_true, reduceCtorEq, imp_self, eq_self, false_and, and_false, implies_true]
      repeat' (first | omega | with_reducible refine And.intro ?_ ?_ | with_reducible intro g)
      exact K _ (po_U.of h1 hcd (f1.toU hcd) _)
    · intro I L R h Q K
      simp (disch := omega) only [wp_M_throwAt, wp_M_isCell, wp_M_cellsOf, wp_M_gives, wp_M_refuse, h.n0, h.n1, zi_0, zi_1, zi_2, zi_3, zi_4, zi_5, zi_6, zi_7, zi_8, zi_9, zi_10, zi_11, zi_12, zi_13, zi_14, zi_15, zi_16, zi_17, zi_18, zi_19, zi_20, zi_21, zi_22, zi_23, zi_24, zi_25, zi_26, zi_30, zi_31, zi_32, zi_34, zi_38, zi_59, zi_60, zi_61, zi_63, zi_64, zi_80, zi_96, zi_97, zi_99, zi_100, zi_122, zi_255, zi_256, zi_300, zi_398, zi_406, zi_900, zi_1000, zi_1024, zi_1624, zi_1662, zi_2030, zi_2031, zi_2068, zi_2258, zi_9999, zi_48, zi_57, zi_65536, zi_3257, zi_11483, zi_1000000, zi_729, zi_81, zi_m1, nI_add, pk_mul, nI_ltI, nI_leI, nI_eq, nI_clamp, zn_in, zn_sub1lt, zn_M, zn_Ml, zn_Mg, zn_Mle, zn_Mge, zn_sub, Nat.reduceAdd, Nat.reduceMul, forall_eq, true_imp_iff, false_imp_iff, and_true, true_and, not_true_eq_false, not_false_eq_true, reduceCtorEq, imp_self, eq_self, false_and, and_false, implies_true]
      repeat' (first | omega | with_reducible refine And.intro ?_ ?_ | with_reducible intro g)
      refine sm_hits h ok hj3 (fun I1 h1 f1 => ?_)
      try simp (disch := omega) only [zi_0, zi_1, zi_2, zi_3, zi_4, zi_5, zi_6, zi_7, zi_8, zi_9, zi_10, zi_11, zi_12, zi_13, zi_14, zi_15, zi_16, zi_17, zi_18, zi_19, zi_20, zi_21, zi_22, zi_23, zi_24, zi_25, zi_26, zi_30, zi_31, zi_32, zi_34, zi_38, zi_59, zi_60, zi_61, zi_63, zi_64, zi_80, zi_96, zi_97, zi_99, zi_100, zi_122, zi_255, zi_256, zi_300, zi_398, zi_406, zi_900, zi_1000, zi_1024, zi_1624, zi_1662, zi_2030, zi_2031, zi_2068, zi_2258, zi_9999, zi_48, zi_57, zi_65536, zi_3257, zi_11483, zi_1000000, zi_729, zi_81, zi_m1, nI_add, pk_mul, nI_ltI, nI_leI, nI_eq, nI_clamp, zn_in, zn_sub1lt, zn_M, zn_Ml, zn_Mg, zn_Mle, zn_Mge, zn_sub, Nat.reduceAdd, Nat.reduceMul, forall_eq, true_imp_iff, false_imp_iff, and_true, true_and, not_true_eq_false, not_false_eq_true, reduceCtorEq, imp_self, eq_self, false_and, and_false, implies_true]
      repeat' (first | omega | with_reducible refine And.intro ?_ ?_ | with_reducible intro g)
      exact K _ (po_M.of h1 ok2 f1.toM _)
  · refine ⟨nI (sq_near q j 1), 0, sq_thr q (sq_near q j 1) (q 3), ok2, ?_, ?_⟩
    · intro c d I L R hcd h hc hd hz Q K
      simp (disch := omega) only [wp_U_throwAt, wp_Square_hasCell, wp_Square_cells, wp_U_answeredIfItCanBe, wp_U_within, wp_U_refused, wp_U_answered, hc, h.n0, h.n1, zi_0, zi_1, zi_2, zi_3, zi_4, zi_5, zi_6, zi_7, zi_8, zi_9, zi_10, zi_11, zi_12, zi_13, zi_14, zi_15, zi_16, zi_17, zi_18, zi_19, zi_20, zi_21, zi_22, zi_23, zi_24, zi_25, zi_26, zi_30, zi_31, zi_32, zi_34, zi_38, zi_59, zi_60, zi_61, zi_63, zi_64, zi_80, zi_96, zi_97, zi_99, zi_100, zi_122, zi_255, zi_256, zi_300, zi_398, zi_406, zi_900, zi_1000, zi_1024, zi_1624, zi_1662, zi_2030, zi_2031, zi_2068, zi_2258, zi_9999, zi_48, zi_57, zi_65536, zi_3257, zi_11483, zi_1000000, zi_729, zi_81, zi_m1, nI_add, pk_mul, nI_ltI, nI_leI, nI_eq, nI_clamp, zn_in, zn_sub1lt, zn_M, zn_Ml, zn_Mg, zn_Mle, zn_Mge, zn_sub, Nat.reduceAdd, Nat.reduceMul, forall_eq, true_imp_iff, false_imp_iff, and_true, true_and, not_true_eq_false, not_false_eq_true, reduceCtorEq, imp_self, eq_self, false_and, and_false, implies_true]
      repeat' (first | omega | with_reducible refine And.intro ?_ ?_ | with_reducible intro g)
      refine su_flour h hcd ok hj3 (fun I1 h1 f1 => ?_)
      rw [if_neg e]
      try simp (disch := omega) only [zi_0, zi_1, zi_2, zi_3, zi_4, zi_5, zi_6, zi_7, zi_8, zi_9, zi_10, zi_11, zi_12, zi_13, zi_14, zi_15, zi_16, zi_17, zi_18, zi_19, zi_20, zi_21, zi_22, zi_23, zi_24, zi_25, zi_26, zi_30, zi_31, zi_32, zi_34, zi_38, zi_59, zi_60, zi_61, zi_63, zi_64, zi_80, zi_96, zi_97, zi_99, zi_100, zi_122, zi_255, zi_256, zi_300, zi_398, zi_406, zi_900, zi_1000, zi_1024, zi_1624, zi_1662, zi_2030, zi_2031, zi_2068, zi_2258, zi_9999, zi_48, zi_57, zi_65536, zi_3257, zi_11483, zi_1000000, zi_729, zi_81, zi_m1, nI_add, pk_mul, nI_ltI, nI_leI, nI_eq, nI_clamp, zn_in, zn_sub1lt, zn_M, zn_Ml, zn_Mg, zn_Mle, zn_Mge, zn_sub, Nat.reduceAdd, Nat.reduceMul, forall_eq, true_imp_iff, false_imp_iff, and_true, true_and, not_true_eq_false, not_false_eq_true, reduceCtorEq, imp_self, eq_self, false_and, and_false, implies_true]
      repeat' (first | omega | with_reducible refine And.intro ?_ ?_ | with_reducible intro g)
      exact K _ (po_U.of h1 hcd (f1.toU hcd) _)
    · intro I L R h Q K
      simp (disch := omega) only [wp_M_throwAt, wp_M_isCell, wp_M_cellsOf, wp_M_gives, wp_M_refuse, h.n0, h.n1, zi_0, zi_1, zi_2, zi_3, zi_4, zi_5, zi_6, zi_7, zi_8, zi_9, zi_10, zi_11, zi_12, zi_13, zi_14, zi_15, zi_16, zi_17, zi_18, zi_19, zi_20, zi_21, zi_22, zi_23, zi_24, zi_25, zi_26, zi_30, zi_31, zi_32, zi_34, zi_38, zi_59, zi_60, zi_61, zi_63, zi_64, zi_80, zi_96, zi_97, zi_99, zi_100, zi_122, zi_255, zi_256, zi_300, zi_398, zi_406, zi_900, zi_1000, zi_1024, zi_1624, zi_1662, zi_2030, zi_2031, zi_2068, zi_2258, zi_9999, zi_48, zi_57, zi_65536, zi_3257, zi_11483, zi_1000000, zi_729, zi_81, zi_m1, nI_add, pk_mul, nI_ltI, nI_leI, nI_eq, nI_clamp, zn_in, zn_sub1lt, zn_M, zn_Ml, zn_Mg, zn_Mle, zn_Mge, zn_sub, Nat.reduceAdd, Nat.reduceMul, forall_eq, true_imp_iff, false_imp_iff, and_true, true_and, not_true_eq_false, not_false_eq_true, reduceCtorEq, imp_self, eq_self, false_and, and_false, implies_true]
      repeat' (first | omega | with_reducible refine And.intro ?_ ?_ | with_reducible intro g)
      refine sm_hits h ok hj3 (fun I1 h1 f1 => ?_)
      try simp (disch := omega) only [zi_0, zi_1, zi_2, zi_3, zi_4, zi_5, zi_6, zi_7, zi_8, zi_9, zi_10, zi_11, zi_12, zi_13, zi_14, zi_15, zi_16, zi_17, zi_18, zi_19, zi_20, zi_21, zi_22, zi_23, zi_24, zi_25, zi_26, zi_30, zi_31, zi_32, zi_34, zi_38, zi_59, zi_60, zi_61, zi_63, zi_64, zi_80, zi_96, zi_97, zi_99, zi_100, zi_122, zi_255, zi_256, zi_300, zi_398, zi_406, zi_900, zi_1000, zi_1024, zi_1624, zi_1662, zi_2030, zi_2031, zi_2068, zi_2258, zi_9999, zi_48, zi_57, zi_65536, zi_3257, zi_11483, zi_1000000, zi_729, zi_81, zi_m1, nI_add, pk_mul, nI_ltI, nI_leI, nI_eq, nI_clamp, zn_in, zn_sub1lt, zn_M, zn_Ml, zn_Mg, zn_Mle, zn_Mge, zn_sub, Nat.reduceAdd, Nat.reduceMul, forall_eq, true_imp_iff, false_imp_iff, and_true, true_and, not_true_eq_false, not_false_eq_true, reduceCtorEq, imp_self, eq_self, false_and, and_false, implies_true]
      repeat' (first | omega | with_reducible refine And.intro ?_ ?_ | with_reducible intro g)
      exact K _ (po_M.of h1 ok2 f1.toM _)
end
