/-! brush, play: both answer alike; what comes by plays -/
def zp (s : Nat) : Nat := s % 2 + s / 2 % 2 + s / 4 % 2 + s / 8 % 2 + s / 16 % 2 + s / 32 % 2
section
variable {q q' : Nat → Nat} {c d : Nat} {I I1 I2 : am_TI} {L : am_TL} {R : am_TR}
theorem zp_U : ∀ s, s < 64 → ∀ n, n < 7 → zp s = n → (∀ (I : am_TI) (L : am_TL) (R : am_TR) (Q : Int32 → Prop), Q (nI n) → wp_Integer_bitCount I L R (nI s) Q) := by
  intro s hs n hn e I L R Q k
  unfold wp_Integer_bitCount
  have : ∀ s, s < 64 → ((((((((nI s - (((Int32.toUInt32 (nI s) >>> (Int32.toUInt32 1 &&& Int32.toUInt32 31)).toInt32) &&& 1431655765)) &&& 858993459) + (((Int32.toUInt32 (nI s - (((Int32.toUInt32 (nI s) >>> (Int32.toUInt32 1 &&& Int32.toUInt32 31)).toInt32) &&& 1431655765)) >>> (Int32.toUInt32 2 &&& Int32.toUInt32 31)).toInt32) &&& 858993459)) + ((Int32.toUInt32 (((nI s - (((Int32.toUInt32 (nI s) >>> (Int32.toUInt32 1 &&& Int32.toUInt32 31)).toInt32) &&& 1431655765)) &&& 858993459) + (((Int32.toUInt32 (nI s - (((Int32.toUInt32 (nI s) >>> (Int32.toUInt32 1 &&& Int32.toUInt32 31)).toInt32) &&& 1431655765)) >>> (Int32.toUInt32 2 &&& Int32.toUInt32 31)).toInt32) &&& 858993459)) >>> (Int32.toUInt32 4 &&& Int32.toUInt32 31)).toInt32)) &&& 252645135) + ((Int32.toUInt32 (((((nI s - (((Int32.toUInt32 (nI s) >>> (Int32.toUInt32 1 &&& Int32.toUInt32 31)).toInt32) &&& 1431655765)) &&& 858993459) + (((Int32.toUInt32 (nI s - (((Int32.toUInt32 (nI s) >>> (Int32.toUInt32 1 &&& Int32.toUInt32 31)).toInt32) &&& 1431655765)) >>> (Int32.toUInt32 2 &&& Int32.toUInt32 31)).toInt32) &&& 858993459)) + ((Int32.toUInt32 (((nI s - (((Int32.toUInt32 (nI s) >>> (Int32.toUInt32 1 &&& Int32.toUInt32 31)).toInt32) &&& 1431655765)) &&& 858993459) + (((Int32.toUInt32 (nI s - (((Int32.toUInt32 (nI s) >>> (Int32.toUInt32 1 &&& Int32.toUInt32 31)).toInt32) &&& 1431655765)) >>> (Int32.toUInt32 2 &&& Int32.toUInt32 31)).toInt32) &&& 858993459)) >>> (Int32.toUInt32 4 &&& Int32.toUInt32 31)).toInt32)) &&& 252645135) >>> (Int32.toUInt32 8 &&& Int32.toUInt32 31)).toInt32)) + ((Int32.toUInt32 ((((((nI s - (((Int32.toUInt32 (nI s) >>> (Int32.toUInt32 1 &&& Int32.toUInt32 31)).toInt32) &&& 1431655765)) &&& 858993459) + (((Int32.toUInt32 (nI s - (((Int32.toUInt32 (nI s) >>> (Int32.toUInt32 1 &&& Int32.toUInt32 31)).toInt32) &&& 1431655765)) >>> (Int32.toUInt32 2 &&& Int32.toUInt32 31)).toInt32) &&& 858993459)) + ((Int32.toUInt32 (((nI s - (((Int32.toUInt32 (nI s) >>> (Int32.toUInt32 1 &&& Int32.toUInt32 31)).toInt32) &&& 1431655765)) &&& 858993459) + (((Int32.toUInt32 (nI s - (((Int32.toUInt32 (nI s) >>> (Int32.toUInt32 1 &&& Int32.toUInt32 31)).toInt32) &&& 1431655765)) >>> (Int32.toUInt32 2 &&& Int32.toUInt32 31)).toInt32) &&& 858993459)) >>> (Int32.toUInt32 4 &&& Int32.toUInt32 31)).toInt32)) &&& 252645135) + ((Int32.toUInt32 (((((nI s - (((Int32.toUInt32 (nI s) >>> (Int32.toUInt32 1 &&& Int32.toUInt32 31)).toInt32) &&& 1431655765)) &&& 858993459) + (((Int32.toUInt32 (nI s - (((Int32.toUInt32 (nI s) >>> (Int32.toUInt32 1 &&& Int32.toUInt32 31)).toInt32) &&& 1431655765)) >>> (Int32.toUInt32 2 &&& Int32.toUInt32 31)).toInt32) &&& 858993459)) + ((Int32.toUInt32 (((nI s - (((Int32.toUInt32 (nI s) >>> (Int32.toUInt32 1 &&& Int32.toUInt32 31)).toInt32) &&& 1431655765)) &&& 858993459) + (((Int32.toUInt32 (nI s - (((Int32.toUInt32 (nI s) >>> (Int32.toUInt32 1 &&& Int32.toUInt32 31)).toInt32) &&& 1431655765)) >>> (Int32.toUInt32 2 &&& Int32.toUInt32 31)).toInt32) &&& 858993459)) >>> (Int32.toUInt32 4 &&& Int32.toUInt32 31)).toInt32)) &&& 252645135) >>> (Int32.toUInt32 8 &&& Int32.toUInt32 31)).toInt32)) >>> (Int32.toUInt32 16 &&& Int32.toUInt32 31)).toInt32)) &&& 63) = nI (zp s) := by decide +kernel
  rw [this s hs, e]
  exact k
theorem zp_le : ∀ s, s < 64 → zp s < 7 := by decide +kernel
theorem zp_0 : ∀ s, s < 64 → (zp s = 0 ↔ s = 0) := by decide +kernel
theorem zp_step : ∀ s, s < 64 → s = 0 ∨ (s &&& (s - 1) < 64 ∧ zp (s &&& (s - 1)) + 1 = zp s) := by decide +kernel
theorem su_bits {s : Nat} (hs : s < 64) {Q : Int32 → Prop} (k : Q (nI (zp s))) : wp_Integer_bitCount I L R (nI s) Q := zp_U s hs (zp s) (zp_le s hs) rfl I L R Q k
theorem sm_bits {s : Nat} (hs : s < 64) {Q : Int32 → Prop} (k : Q (nI (zp s))) : wp_M_bits I L R (nI s) Q := by
  have go : ∀ f t v, t < 64 → zp t < f → v + zp t = zp s → wl_M_bits_4 I L R (nI s) Q f (nI v) (nI t) := by
    intro f
    induction f with
    | zero => intro t v _ h; omega
    | succ f ih =>
      intro t v ht hf e
      simp (disch := omega) only [wl_M_bits_4, zi_0, zi_1, zi_2, zi_3, zi_4, zi_5, zi_6, zi_7, zi_8, zi_9, zi_10, zi_11, zi_12, zi_13, zi_14, zi_15, zi_16, zi_17, zi_18, zi_19, zi_20, zi_21, zi_22, zi_23, zi_24, zi_25, zi_26, zi_30, zi_31, zi_32, zi_34, zi_38, zi_59, zi_60, zi_61, zi_63, zi_64, zi_80, zi_96, zi_97, zi_99, zi_100, zi_122, zi_255, zi_256, zi_300, zi_398, zi_406, zi_900, zi_1000, zi_1024, zi_1624, zi_1662, zi_2030, zi_2031, zi_2068, zi_2258, zi_9999, zi_48, zi_57, zi_65536, zi_3257, zi_11483, zi_1000000, zi_729, zi_81, zi_m1, nI_add, pk_mul, nI_ltI, nI_leI, nI_eq, nI_clamp, zn_in, zn_sub1lt, zn_M, zn_Ml, zn_Mg, zn_Mle, zn_Mge, zn_sub, Nat.reduceAdd, Nat.reduceMul, forall_eq, true_imp_iff, false_imp_iff, and_true, true_and, not_true_eq_false, not_false_eq_true, reduceCtorEq, imp_self, eq_self, false_and, and_false, implies_true]
      refine ⟨fun g => ?_, fun g => ?_⟩
      · subst g
        rw [show v = zp s by have : zp 0 = 0 := rfl; omega]; exact k
      · have z := (zp_step t ht).resolve_left g
        rw [zn_sub (by omega), ze_and]
        exact ih _ _ z.1 (by omega) (by omega)
  exact ⟨7, go 7 s 0 hs (zp_le s hs) (by omega)⟩
/-- the first m are brushed -/
def sq_brs (q : Nat → Nat) (m : Nat) : Nat → Nat := fun i => if i % 4 = 1 ∧ 13 ≤ i ∧ i < 13 + 4 * m then 0 else q i
theorem sq_brs_0 : sq_brs q 0 = q := by
  funext i
  unfold sq_brs
  rw [if_neg (by omega)]
theorem sq_brs_o (m : Nat) {i : Nat} (h : i < 13 ∨ 13 + 4 * m ≤ i ∨ i % 4 ≠ 1) : sq_brs q m i = q i := by
  unfold sq_brs
  rw [if_neg (by omega)]
theorem sq_brs_i {m h : Nat} (hh : h < m) : sq_brs q m (13 + 4 * h) = 0 := by
  unfold sq_brs
  rw [if_pos (by omega)]
theorem sq_brs_s (m : Nat) : zu (sq_brs q m) (13 + 4 * m) 0 = sq_brs q (m + 1) := by
  funext i
  by_cases e : i = 13 + 4 * m
  · subst e; rw [zu_s, sq_brs_i (by omega)]
  · rw [zu_n e]
    unfold sq_brs
    have : (i % 4 = 1 ∧ 13 ≤ i ∧ i < 13 + 4 * m) ↔ (i % 4 = 1 ∧ 13 ≤ i ∧ i < 13 + 4 * (m + 1)) := by omega
    simp only [this]
theorem sq_brs_seen : sq_seen (sq_brs q (q 3)) = 0 := by
  unfold sq_seen
  rw [sq_brs_o _ (by omega), zs_eq0]
  intro i hi
  rw [sq_brs_i hi]; rfl
theorem sq_brs_ok (ok : sq_Ok q) (m : Nat) (hm : m ≤ 6) : sq_Ok (sq_brs q m) := by
  obtain ⟨⟨o0, o1, o2, o6, o8⟩, oh, od, on, oy⟩ := ok
  refine ⟨?_, fun i hi => ?_, fun i hi => ?_, fun i hi => ?_, oy.keep (fun k hk => sq_brs_o m (by omega)) (sq_brs_o m (by omega)) (fun k hk => sq_brs_o m (by omega))⟩
  · simp (disch := omega) only [sq_brs_o m]
    exact ⟨o0, o1, o2, o6, o8⟩
  · simp (disch := omega) only [sq_brs_o m (i := 0), sq_brs_o m (i := 1), sq_brs_o m (i := 2), sq_brs_o m (i := 3)] at hi ⊢
    obtain ⟨a, b, e, f⟩ := oh i hi
    rw [sq_brs_o m (i := 10 + 4 * i) (by omega), sq_brs_o m (i := 11 + 4 * i) (by omega), sq_brs_o m (i := 12 + 4 * i) (by omega)]
    refine ⟨a, b, e, ?_⟩
    unfold sq_brs; split <;> omega
  · simp (disch := omega) only [sq_brs_o m] at hi ⊢
    exact od i hi
  · simp (disch := omega) only [sq_brs_o m] at hi ⊢
    exact on i hi
theorem sq_U.brs (h : sq_U q c d I L) (hcd : sq_cd c d) (ok : sq_Ok q) : sq_U (sq_brs q (q 3)) c d (am_u2 I c 15 (nI 0)) L := by
  obtain ⟨hc, hd⟩ := hcd
  have o3 := ok.1.2.2.1
  refine ⟨?_, fun i hi => ?_, fun i hi => ?_, fun i hi => ?_, (h.dy.keep (fun r _ _ => am_u2_row _ _ _ _ (by omega))).cong (sq_brs_o _ (by omega)) (fun k hk => sq_brs_o _ (by omega))⟩
  · rw [sq_brs_seen]
    simp (disch := omega) only [sq_brs_o]
    simp (disch := omega) only [am_u2_at, am_u2_ne]
    obtain ⟨a0, a1, a2, a3, a4, a5, a6, a7, a8, a9⟩ := h.1
    exact ⟨a0, a1, a2, a3, a4, a5, a6, a7, a8, trivial⟩
  · simp (disch := omega) only [sq_brs_o, am_u2o] at hi ⊢
    exact h.2.1 i hi
  · simp (disch := omega) only [sq_brs_o, am_u2o] at hi ⊢
    exact h.dg hi
  · simp (disch := omega) only [sq_brs_o] at hi ⊢
    exact h.nm hi
theorem su_brush (h : sq_U q c d I L) (hcd : sq_cd c d) (ok : sq_Ok q) {Q : Int32 → am_TI → Prop} (k : ∀ I1, sq_U (sq_brs q (q 3)) c d I1 L → fr_S c I I1 → Q (if zp (sq_seen q) = 0 then nM else nI (zp (sq_seen q))) I1) : wp_Square_brushOff I L R c Q := by
  have sl := sq_seen_lt ok
  have zl := zp_le _ sl
  simp (disch := omega) only [wp_Square_brushOff, h.sn, zi_0, zi_1, zi_2, zi_3, zi_4, zi_5, zi_6, zi_7, zi_8, zi_9, zi_10, zi_11, zi_12, zi_13, zi_14, zi_15, zi_16, zi_17, zi_18, zi_19, zi_20, zi_21, zi_22, zi_23, zi_24, zi_25, zi_26, zi_30, zi_31, zi_32, zi_34, zi_38, zi_59, zi_60, zi_61, zi_63, zi_64, zi_80, zi_96, zi_97, zi_99, zi_100, zi_122, zi_255, zi_256, zi_300, zi_398, zi_406, zi_900, zi_1000, zi_1024, zi_1624, zi_1662, zi_2030, zi_2031, zi_2068, zi_2258, zi_9999, zi_48, zi_57, zi_65536, zi_3257, zi_11483, zi_1000000, zi_729, zi_81, zi_m1, nI_add, pk_mul, nI_ltI, nI_leI, nI_eq, nI_clamp, zn_in, zn_sub1lt, zn_M, zn_Ml, zn_Mg, zn_Mle, zn_Mge, zn_sub, Nat.reduceAdd, Nat.reduceMul, forall_eq, true_imp_iff, false_imp_iff, and_true, true_and, not_true_eq_false, not_false_eq_true, reduceCtorEq, imp_self, eq_self, false_and, and_false, implies_true]
  refine su_bits sl ?_
  try simp (disch := omega) only [zi_0, zi_1, zi_2, zi_3, zi_4, zi_5, zi_6, zi_7, zi_8, zi_9, zi_10, zi_11, zi_12, zi_13, zi_14, zi_15, zi_16, zi_17, zi_18, zi_19, zi_20, zi_21, zi_22, zi_23, zi_24, zi_25, zi_26, zi_30, zi_31, zi_32, zi_34, zi_38, zi_59, zi_60, zi_61, zi_63, zi_64, zi_80, zi_96, zi_97, zi_99, zi_100, zi_122, zi_255, zi_256, zi_300, zi_398, zi_406, zi_900, zi_1000, zi_1024, zi_1624, zi_1662, zi_2030, zi_2031, zi_2068, zi_2258, zi_9999, zi_48, zi_57, zi_65536, zi_3257, zi_11483, zi_1000000, zi_729, zi_81, zi_m1, nI_add, pk_mul, nI_ltI, nI_leI, nI_eq, nI_clamp, zn_in, zn_sub1lt, zn_M, zn_Ml, zn_Mg, zn_Mle, zn_Mge, zn_sub, Nat.reduceAdd, Nat.reduceMul, forall_eq, true_imp_iff, false_imp_iff, and_true, true_and, not_true_eq_false, not_false_eq_true, reduceCtorEq, imp_self, eq_self, false_and, and_false, implies_true]
  have k2 := k _ (h.brs hcd ok) (fr_S.row (by omega) (by omega) _ _)
  refine ⟨fun g => ?_, fun g => ?_⟩
  · rw [if_pos g] at k2; exact k2
  · rw [if_neg g] at k2; exact k2
theorem sm_brush (h : sq_M q 0 I L) (ok : sq_Ok q) {Q : Int32 → am_TI → Prop} (k : ∀ I1, sq_M (sq_brs q (q 3)) 0 I1 L → fr_P I I1 → Q (nI (zp (sq_seen q))) I1) : wp_M_brushes I L R 103 Q := by
  have o := ok.1.2.2.1
  have sl := sq_seen_lt ok
  have zl := zp_le _ sl
  simp (disch := omega) only [wp_M_brushes, zi_0, zi_1, zi_2, zi_3, zi_4, zi_5, zi_6, zi_7, zi_8, zi_9, zi_10, zi_11, zi_12, zi_13, zi_14, zi_15, zi_16, zi_17, zi_18, zi_19, zi_20, zi_21, zi_22, zi_23, zi_24, zi_25, zi_26, zi_30, zi_31, zi_32, zi_34, zi_38, zi_59, zi_60, zi_61, zi_63, zi_64, zi_80, zi_96, zi_97, zi_99, zi_100, zi_122, zi_255, zi_256, zi_300, zi_398, zi_406, zi_900, zi_1000, zi_1024, zi_1624, zi_1662, zi_2030, zi_2031, zi_2068, zi_2258, zi_9999, zi_48, zi_57, zi_65536, zi_3257, zi_11483, zi_1000000, zi_729, zi_81, zi_m1, nI_add, pk_mul, nI_ltI, nI_leI, nI_eq, nI_clamp, zn_in, zn_sub1lt, zn_M, zn_Ml, zn_Mg, zn_Mle, zn_Mge, zn_sub, Nat.reduceAdd, Nat.reduceMul, forall_eq, true_imp_iff, false_imp_iff, and_true, true_and, not_true_eq_false, not_false_eq_true, reduceCtorEq, imp_self, eq_self, false_and, and_false, implies_true]
  refine sm_seen h ok ?_
  refine sm_bits sl ?_
  refine (zl_up (P := fun f m => ∀ I1, sq_M (sq_brs q m) 0 I1 L → fr_P I I1 → wl_M_brushes_10 L R 103 Q f I1 (nI (zp (sq_seen q))) (nI m)) (q 3) (fun f I1 h1 f1 => ?_) (fun f m hm ih I1 h1 f1 => ?_) 0 (by omega)).elim fun z hz => ⟨z, hz I (by rw [sq_brs_0]; exact h) fr_P.rfl⟩
  · have e3 := h1.n3
    rw [sq_brs_o _ (by omega)] at e3
    simp (disch := omega) only [wl_M_brushes_10, e3, zi_0, zi_1, zi_2, zi_3, zi_4, zi_5, zi_6, zi_7, zi_8, zi_9, zi_10, zi_11, zi_12, zi_13, zi_14, zi_15, zi_16, zi_17, zi_18, zi_19, zi_20, zi_21, zi_22, zi_23, zi_24, zi_25, zi_26, zi_30, zi_31, zi_32, zi_34, zi_38, zi_59, zi_60, zi_61, zi_63, zi_64, zi_80, zi_96, zi_97, zi_99, zi_100, zi_122, zi_255, zi_256, zi_300, zi_398, zi_406, zi_900, zi_1000, zi_1024, zi_1624, zi_1662, zi_2030, zi_2031, zi_2068, zi_2258, zi_9999, zi_48, zi_57, zi_65536, zi_3257, zi_11483, zi_1000000, zi_729, zi_81, zi_m1, nI_add, pk_mul, nI_ltI, nI_leI, nI_eq, nI_clamp, zn_in, zn_sub1lt, zn_M, zn_Ml, zn_Mg, zn_Mle, zn_Mge, zn_sub, Nat.reduceAdd, Nat.reduceMul, forall_eq, true_imp_iff, false_imp_iff, and_true, true_and, not_true_eq_false, not_false_eq_true, reduceCtorEq, imp_self, eq_self, false_and, and_false, implies_true]
    exact ⟨fun _ => k _ h1 f1, fun g => absurd (Nat.le_refl _) g⟩
  · have e3 := h1.n3
    rw [sq_brs_o _ (by omega)] at e3
    simp (disch := omega) only [wl_M_brushes_10, wp_M_hearerRow, e3, zi_0, zi_1, zi_2, zi_3, zi_4, zi_5, zi_6, zi_7, zi_8, zi_9, zi_10, zi_11, zi_12, zi_13, zi_14, zi_15, zi_16, zi_17, zi_18, zi_19, zi_20, zi_21, zi_22, zi_23, zi_24, zi_25, zi_26, zi_30, zi_31, zi_32, zi_34, zi_38, zi_59, zi_60, zi_61, zi_63, zi_64, zi_80, zi_96, zi_97, zi_99, zi_100, zi_122, zi_255, zi_256, zi_300, zi_398, zi_406, zi_900, zi_1000, zi_1024, zi_1624, zi_1662, zi_2030, zi_2031, zi_2068, zi_2258, zi_9999, zi_48, zi_57, zi_65536, zi_3257, zi_11483, zi_1000000, zi_729, zi_81, zi_m1, nI_add, pk_mul, nI_ltI, nI_leI, nI_eq, nI_clamp, zn_in, zn_sub1lt, zn_M, zn_Ml, zn_Mg, zn_Mle, zn_Mge, zn_sub, Nat.reduceAdd, Nat.reduceMul, forall_eq, true_imp_iff, false_imp_iff, and_true, true_and, not_true_eq_false, not_false_eq_true, reduceCtorEq, imp_self, eq_self, false_and, and_false, implies_true]
    refine ⟨fun g => absurd g (by omega), fun _ => ⟨by omega, ?_⟩⟩
    rw [show 10 + 4 * m + 3 = 13 + 4 * m by omega]
    have h2 := h1.put (k := 13 + 4 * m) (by omega) (by omega) (by omega) 0
    rw [sq_brs_s] at h2
    exact ih _ h2 (f1.trans (fr_P.row (by omega) _))
theorem op_brush (ok : sq_Ok q) : si_I q (fun I L R Q => wp_U_brush I L R 0 Q) (fun I L R Q => wp_M_brush I L R 103 Q) := by
  have o3 := ok.1.2.2.1
  have sl := sq_seen_lt ok
  have zl := zp_le _ sl
  have ok2 := sq_brs_ok ok (q 3) (by omega)
  by_cases e : zp (sq_seen q) = 0
  · refine ⟨nM, 7, sq_brs q (q 3), ok2, ?_, ?_⟩
    · intro c d I L R hcd h hc hd hz Q K
      simp (disch := omega) only [wp_U_brush, wp_U_answeredIfItCanBe, wp_U_refused, wp_U_answered, hc, zi_0, zi_1, zi_2, zi_3, zi_4, zi_5, zi_6, zi_7, zi_8, zi_9, zi_10, zi_11, zi_12, zi_13, zi_14, zi_15, zi_16, zi_17, zi_18, zi_19, zi_20, zi_21, zi_22, zi_23, zi_24, zi_25, zi_26, zi_30, zi_31, zi_32, zi_34, zi_38, zi_59, zi_60, zi_61, zi_63, zi_64, zi_80, zi_96, zi_97, zi_99, zi_100, zi_122, zi_255, zi_256, zi_300, zi_398, zi_406, zi_900, zi_1000, zi_1024, zi_1624, zi_1662, zi_2030, zi_2031, zi_2068, zi_2258, zi_9999, zi_48, zi_57, zi_65536, zi_3257, zi_11483, zi_1000000, zi_729, zi_81, zi_m1, nI_add, pk_mul, nI_ltI, nI_leI, nI_eq, nI_clamp, zn_in, zn_sub1lt, zn_M, zn_Ml, zn_Mg, zn_Mle, zn_Mge, zn_sub, Nat.reduceAdd, Nat.reduceMul, forall_eq, true_imp_iff, false_imp_iff, and_true, true_and, not_true_eq_false, not_false_eq_true, reduceCtorEq, imp_self, eq_self, false_and, and_false, implies_true]
      repeat' (first | omega | with_reducible refine And.intro ?_ ?_ | with_reducible intro g)
      refine su_brush h hcd ok (fun I1 h1 f1 => ?_)
      rw [if_pos e]
      try simp (disch := omega) only [zi_0, zi_1, zi_2, zi_3, zi_4, zi_5, zi_6, zi_7, zi_8, zi_9, zi_10, zi_11, zi_12, zi_13, zi_14, zi_15, zi_16, zi_17, zi_18, zi_19, zi_20, zi_21, zi_22, zi_23, zi_24, zi_25, zi_26, zi_30, zi_31, zi_32, zi_34, zi_38, zi_59, zi_60, zi_61, zi_63, zi_64, zi_80, zi_96, zi_97, zi_99, zi_100, zi_122, zi_255, zi_256, zi_300, zi_398, zi_406, zi_900, zi_1000, zi_1024, zi_1624, zi_1662, zi_2030, zi_2031, zi_2068, zi_2258, zi_9999, zi_48, zi_57, zi_65536, zi_3257, zi_11483, zi_1000000, zi_729, zi_81, zi_m1, nI_add, pk_mul, nI_ltI, nI_leI, nI_eq, nI_clamp, zn_in, zn_sub1lt, zn_M, zn_Ml, zn_Mg, zn_Mle, zn_Mge, zn_sub, Nat.reduceAdd, Nat.reduceMul, forall_eq, true_imp_iff, false_imp_iff, and_true, true_and, not_true_eq_false, not_false_eq_true, reduceCtorEq, imp_self, eq_self, false_and, and_false, implies_true]
      repeat' (first | omega | with_reducible refine And.intro ?_ ?_ | with_reducible intro g)
      exact K _ (po_U.of h1 hcd (f1.toU hcd) _)
    · intro I L R h Q K
      simp (disch := omega) only [wp_M_brush, wp_M_gives, wp_M_refuse, zi_0, zi_1, zi_2, zi_3, zi_4, zi_5, zi_6, zi_7, zi_8, zi_9, zi_10, zi_11, zi_12, zi_13, zi_14, zi_15, zi_16, zi_17, zi_18, zi_19, zi_20, zi_21, zi_22, zi_23, zi_24, zi_25, zi_26, zi_30, zi_31, zi_32, zi_34, zi_38, zi_59, zi_60, zi_61, zi_63, zi_64, zi_80, zi_96, zi_97, zi_99, zi_100, zi_122, zi_255, zi_256, zi_300, zi_398, zi_406, zi_900, zi_1000, zi_1024, zi_1624, zi_1662, zi_2030, zi_2031, zi_2068, zi_2258, zi_9999, zi_48, zi_57, zi_65536, zi_3257, zi_11483, zi_1000000, zi_729, zi_81, zi_m1, nI_add, pk_mul, nI_ltI, nI_leI, nI_eq, nI_clamp, zn_in, zn_sub1lt, zn_M, zn_Ml, zn_Mg, zn_Mle, zn_Mge, zn_sub, Nat.reduceAdd, Nat.reduceMul, forall_eq, true_imp_iff, false_imp_iff, and_true, true_and, not_true_eq_false, not_false_eq_true, reduceCtorEq, imp_self, eq_self, false_and, and_false, implies_true]
      repeat' (first | omega | with_reducible refine And.intro ?_ ?_ | with_reducible intro g)
      refine sm_brush h ok (fun I1 h1 f1 => ?_)
      try simp (disch := omega) only [zi_0, zi_1, zi_2, zi_3, zi_4, zi_5, zi_6, zi_7, zi_8, zi_9, zi_10, zi_11, zi_12, zi_13, zi_14, zi_15, zi_16, zi_17, zi_18, zi_19, zi_20, zi_21, zi_22, zi_23, zi_24, zi_25, zi_26, zi_30, zi_31, zi_32, zi_34, zi_38, zi_59, zi_60, zi_61, zi_63, zi_64, zi_80, zi_96, zi_97, zi_99, zi_100, zi_122, zi_255, zi_256, zi_300, zi_398, zi_406, zi_900, zi_1000, zi_1024, zi_1624, zi_1662, zi_2030, zi_2031, zi_2068, zi_2258, zi_9999, zi_48, zi_57, zi_65536, zi_3257, zi_11483, zi_1000000, zi_729, zi_81, zi_m1, nI_add, pk_mul, nI_ltI, nI_leI, nI_eq, nI_clamp, zn_in, zn_sub1lt, zn_M, zn_Ml, zn_Mg, zn_Mle, zn_Mge, zn_sub, Nat.reduceAdd, Nat.reduceMul, forall_eq, true_imp_iff, false_imp_iff, and_true, true_and, not_true_eq_false, not_false_eq_true, reduceCtorEq, imp_self, eq_self, false_and, and_false, implies_true]
      repeat' (first | omega | with_reducible refine And.intro ?_ ?_ | with_reducible intro g)
      exact K _ (po_M.of h1 ok2 f1.toM _)
  · refine ⟨nI (zp (sq_seen q)), 0, sq_brs q (q 3), ok2, ?_, ?_⟩
    · intro c d I L R hcd h hc hd hz Q K
      simp (disch := omega) only [wp_U_brush, wp_U_answeredIfItCanBe, wp_U_refused, wp_U_answered, hc, zi_0, zi_1, zi_2, zi_3, zi_4, zi_5, zi_6, zi_7, zi_8, zi_9, zi_10, zi_11, zi_12, zi_13, zi_14, zi_15, zi_16, zi_17, zi_18, zi_19, zi_20, zi_21, zi_22, zi_23, zi_24, zi_25, zi_26, zi_30, zi_31, zi_32, zi_34, zi_38, zi_59, zi_60, zi_61, zi_63, zi_64, zi_80, zi_96, zi_97, zi_99, zi_100, zi_122, zi_255, zi_256, zi_300, zi_398, zi_406, zi_900, zi_1000, zi_1024, zi_1624, zi_1662, zi_2030, zi_2031, zi_2068, zi_2258, zi_9999, zi_48, zi_57, zi_65536, zi_3257, zi_11483, zi_1000000, zi_729, zi_81, zi_m1, nI_add, pk_mul, nI_ltI, nI_leI, nI_eq, nI_clamp, zn_in, zn_sub1lt, zn_M, zn_Ml, zn_Mg, zn_Mle, zn_Mge, zn_sub, Nat.reduceAdd, Nat.reduceMul, forall_eq, true_imp_iff, false_imp_iff, and_true, true_and, not_true_eq_false, not_false_eq_true, reduceCtorEq, imp_self, eq_self, false_and, and_false, implies_true]
      repeat' (first | omega | with_reducible refine And.intro ?_ ?_ | with_reducible intro g)
      refine su_brush h hcd ok (fun I1 h1 f1 => ?_)
      rw [if_neg e]
      try simp (disch := omega) only [zi_0, zi_1, zi_2, zi_3, zi_4, zi_5, zi_6, zi_7, zi_8, zi_9, zi_10, zi_11, zi_12, zi_13, zi_14, zi_15, zi_16, zi_17, zi_18, zi_19, zi_20, zi_21, zi_22, zi_23, zi_24, zi_25, zi_26, zi_30, zi_31, zi_32, zi_34, zi_38, zi_59, zi_60, zi_61, zi_63, zi_64, zi_80, zi_96, zi_97, zi_99, zi_100, zi_122, zi_255, zi_256, zi_300, zi_398, zi_406, zi_900, zi_1000, zi_1024, zi_1624, zi_1662, zi_2030, zi_2031, zi_2068, zi_2258, zi_9999, zi_48, zi_57, zi_65536, zi_3257, zi_11483, zi_1000000, zi_729, zi_81, zi_m1, nI_add, pk_mul, nI_ltI, nI_leI, nI_eq, nI_clamp, zn_in, zn_sub1lt, zn_M, zn_Ml, zn_Mg, zn_Mle, zn_Mge, zn_sub, Nat.reduceAdd, Nat.reduceMul, forall_eq, true_imp_iff, false_imp_iff, and_true, true_and, not_true_eq_false, not_false_eq_true, reduceCtorEq, imp_self, eq_self, false_and, and_false, implies_true]
      repeat' (first | omega | with_reducible refine And.intro ?_ ?_ | with_reducible intro g)
      exact K _ (po_U.of h1 hcd (f1.toU hcd) _)
    · intro I L R h Q K
      simp (disch := omega) only [wp_M_brush, wp_M_gives, wp_M_refuse, zi_0, zi_1, zi_2, zi_3, zi_4, zi_5, zi_6, zi_7, zi_8, zi_9, zi_10, zi_11, zi_12, zi_13, zi_14, zi_15, zi_16, zi_17, zi_18, zi_19, zi_20, zi_21, zi_22, zi_23, zi_24, zi_25, zi_26, zi_30, zi_31, zi_32, zi_34, zi_38, zi_59, zi_60, zi_61, zi_63, zi_64, zi_80, zi_96, zi_97, zi_99, zi_100, zi_122, zi_255, zi_256, zi_300, zi_398, zi_406, zi_900, zi_1000, zi_1024, zi_1624, zi_1662, zi_2030, zi_2031, zi_2068, zi_2258, zi_9999, zi_48, zi_57, zi_65536, zi_3257, zi_11483, zi_1000000, zi_729, zi_81, zi_m1, nI_add, pk_mul, nI_ltI, nI_leI, nI_eq, nI_clamp, zn_in, zn_sub1lt, zn_M, zn_Ml, zn_Mg, zn_Mle, zn_Mge, zn_sub, Nat.reduceAdd, Nat.reduceMul, forall_eq, true_imp_iff, false_imp_iff, and_true, true_and, not_true_eq_false, not_false_eq_true, reduceCtorEq, imp_self, eq_self, false_and, and_false, implies_true]
      repeat' (first | omega | with_reducible refine And.intro ?_ ?_ | with_reducible intro g)
      refine sm_brush h ok (fun I1 h1 f1 => ?_)
      try simp (disch := omega) only [zi_0, zi_1, zi_2, zi_3, zi_4, zi_5, zi_6, zi_7, zi_8, zi_9, zi_10, zi_11, zi_12, zi_13, zi_14, zi_15, zi_16, zi_17, zi_18, zi_19, zi_20, zi_21, zi_22, zi_23, zi_24, zi_25, zi_26, zi_30, zi_31, zi_32, zi_34, zi_38, zi_59, zi_60, zi_61, zi_63, zi_64, zi_80, zi_96, zi_97, zi_99, zi_100, zi_122, zi_255, zi_256, zi_300, zi_398, zi_406, zi_900, zi_1000, zi_1024, zi_1624, zi_1662, zi_2030, zi_2031, zi_2068, zi_2258, zi_9999, zi_48, zi_57, zi_65536, zi_3257, zi_11483, zi_1000000, zi_729, zi_81, zi_m1, nI_add, pk_mul, nI_ltI, nI_leI, nI_eq, nI_clamp, zn_in, zn_sub1lt, zn_M, zn_Ml, zn_Mg, zn_Mle, zn_Mge, zn_sub, Nat.reduceAdd, Nat.reduceMul, forall_eq, true_imp_iff, false_imp_iff, and_true, true_and, not_true_eq_false, not_false_eq_true, reduceCtorEq, imp_self, eq_self, false_and, and_false, implies_true]
      repeat' (first | omega | with_reducible refine And.intro ?_ ?_ | with_reducible intro g)
      exact K _ (po_M.of h1 ok2 f1.toM _)
end
