/-! gather: the class's rows -/
section
variable {q : Nat → Nat} {c d : Nat} {I I1 I2 : am_TI} {L L1 L2 : am_TL} {R : am_TR}
theorem su_fillI {p0 w : Nat} (hw : w < 2 ^ 31) {v : Int32} {Q : am_TI → Prop} (k : ∀ I1, (∀ i, i < w → I1 p0 i = v) → (∀ r s, (r ≠ p0 ∨ w ≤ s) → I1 r s = I r s) → Q I1) : wp_Arrays_fillI I L R p0 w v Q := by
  unfold wp_Arrays_fillI
  refine (zl_up (P := fun f m => ∀ I1, (∀ i, i < m → I1 p0 i = v) → (∀ r s, (r ≠ p0 ∨ w ≤ s) → I1 r s = I r s) → wl_Arrays_fillI_5 L R p0 w v Q f I1 (nI m) (nI w)) w (fun f I1 a b => ?_) (fun f m hm ih I1 a b => ?_) 0 (by omega)).elim fun z hz => ⟨z, hz I (fun i hi => absurd hi (by omega)) (fun _ _ _ => rfl)⟩
  · simp (disch := omega) only [wl_Arrays_fillI_5, zi_0, zi_1, zi_2, zi_3, zi_4, zi_5, zi_6, zi_7, zi_8, zi_9, zi_10, zi_11, zi_12, zi_13, zi_14, zi_15, zi_16, zi_17, zi_18, zi_19, zi_20, zi_21, zi_22, zi_23, zi_24, zi_25, zi_26, zi_30, zi_31, zi_32, zi_34, zi_38, zi_59, zi_60, zi_61, zi_63, zi_64, zi_80, zi_96, zi_97, zi_99, zi_100, zi_122, zi_255, zi_256, zi_300, zi_398, zi_406, zi_900, zi_1000, zi_1024, zi_1624, zi_1662, zi_2030, zi_2031, zi_2068, zi_2258, zi_9999, zi_48, zi_57, zi_65536, zi_3257, zi_11483, zi_1000000, zi_729, zi_81, zi_m1, nI_add, pk_mul, nI_ltI, nI_leI, nI_eq, nI_clamp, zn_in, zn_sub1lt, zn_M, zn_Ml, zn_Mg, zn_Mle, zn_Mge, zn_sub, Nat.reduceAdd, Nat.reduceMul, forall_eq, true_imp_iff, false_imp_iff, and_true, true_and, not_true_eq_false, not_false_eq_true, reduceCtorEq, imp_self, eq_self, false_and, and_false, implies_true]
    exact ⟨fun _ => k I1 a b, fun g => absurd (Nat.le_refl _) g⟩
  · simp (disch := omega) only [wl_Arrays_fillI_5, zi_0, zi_1, zi_2, zi_3, zi_4, zi_5, zi_6, zi_7, zi_8, zi_9, zi_10, zi_11, zi_12, zi_13, zi_14, zi_15, zi_16, zi_17, zi_18, zi_19, zi_20, zi_21, zi_22, zi_23, zi_24, zi_25, zi_26, zi_30, zi_31, zi_32, zi_34, zi_38, zi_59, zi_60, zi_61, zi_63, zi_64, zi_80, zi_96, zi_97, zi_99, zi_100, zi_122, zi_255, zi_256, zi_300, zi_398, zi_406, zi_900, zi_1000, zi_1024, zi_1624, zi_1662, zi_2030, zi_2031, zi_2068, zi_2258, zi_9999, zi_48, zi_57, zi_65536, zi_3257, zi_11483, zi_1000000, zi_729, zi_81, zi_m1, nI_add, pk_mul, nI_ltI, nI_leI, nI_eq, nI_clamp, zn_in, zn_sub1lt, zn_M, zn_Ml, zn_Mg, zn_Mle, zn_Mge, zn_sub, Nat.reduceAdd, Nat.reduceMul, forall_eq, true_imp_iff, false_imp_iff, and_true, true_and, not_true_eq_false, not_false_eq_true, reduceCtorEq, imp_self, eq_self, false_and, and_false, implies_true]
    refine ⟨fun g => absurd g (by omega), fun _ => ⟨hm, ih _ (fun i hi => ?_) (fun r s g => ?_)⟩⟩
    · by_cases e : i = m
      · rw [e, am_u2_at]
      · rw [am_u2_ne _ _ _ _ e]; exact a i (by omega)
    · unfold am_u2
      rw [if_neg (by omega)]; exact b r s g
theorem su_left {l : Nat → Nat} {w x t : Nat} (hw : w < 6) (e : I 19 w = nI (l w)) (hl : l w < 64) (hx : x ≤ 8) (ht : t < 31) {Q : Int32 → Prop} (k : Q (nI (ga_lf (l w) t x))) : wp_Rows_left I L R 16 (nI w) (nI x) (nI t) Q := by
  simp (disch := omega) only [wp_Rows_left, e, zn_bit, zi_0, zi_1, zi_2, zi_3, zi_4, zi_5, zi_6, zi_7, zi_8, zi_9, zi_10, zi_11, zi_12, zi_13, zi_14, zi_15, zi_16, zi_17, zi_18, zi_19, zi_20, zi_21, zi_22, zi_23, zi_24, zi_25, zi_26, zi_30, zi_31, zi_32, zi_34, zi_38, zi_59, zi_60, zi_61, zi_63, zi_64, zi_80, zi_96, zi_97, zi_99, zi_100, zi_122, zi_255, zi_256, zi_300, zi_398, zi_406, zi_900, zi_1000, zi_1024, zi_1624, zi_1662, zi_2030, zi_2031, zi_2068, zi_2258, zi_9999, zi_48, zi_57, zi_65536, zi_3257, zi_11483, zi_1000000, zi_729, zi_81, zi_m1, nI_add, pk_mul, nI_ltI, nI_leI, nI_eq, nI_clamp, zn_in, zn_sub1lt, zn_M, zn_Ml, zn_Mg, zn_Mle, zn_Mge, zn_sub, Nat.reduceAdd, Nat.reduceMul, forall_eq, true_imp_iff, false_imp_iff, and_true, true_and, not_true_eq_false, not_false_eq_true, reduceCtorEq, imp_self, eq_self, false_and, and_false, implies_true]
  unfold ga_lf at k
  refine ⟨fun g => ?_, fun g => ⟨fun g1 => absurd g1 (by omega), fun _ => ⟨hw, fun g1 => ?_, fun g1 => ?_⟩⟩⟩
  · rw [if_neg (by omega)] at k; exact k
  · rw [if_pos ⟨by omega, g1⟩] at k; rw [zn_sub (by omega)]; exact k
  · rw [if_neg (fun z => g1 z.2)] at k; exact k
/-- what the class's rows hold while the fewest tunes are looked for -/
def gp_U (T : Nat) (f l : Nat → Nat) (I : am_TI) : Prop := I 16 5 = nI T ∧ (∀ i, i < 6 → I 18 i = nI (f i)) ∧ (∀ i, i < 6 → I 19 i = nI (l i))
theorem su_ff {T : Nat} {f l : Nat → Nat} (h : gp_U T f l I) (hT : T ≤ 6) (hl : ∀ i, l i < 64) {x y z : Nat} (hx : x ≤ 8) (hy : y ≤ 8) (hz : z ≤ 8) (tb : ∀ a b c, a ≤ x → b ≤ y → c ≤ z → a + b + c < x + y + z → I 17 ((a * 9 + b) * 9 + c) = nI (gG 1000 T (l 0) (l 1) (l 2) a b c)) {Q : Int32 → Prop} (k : Q (nI (gG 1000 T (l 0) (l 1) (l 2) x y z))) : wp_Rows_fewestFrom I L R 16 (nI x) (nI y) (nI z) Q := by
  obtain ⟨h1, h2, h3⟩ := h
  have key : ∃ w, wl_Rows_fewestFrom_25 I L R 16 (nI x) (nI y) (nI z) Q w (nI ((x * 9 + y) * 9 + z)) (nI (if x + y + z = 0 then 0 else 1000)) 0 := by
    refine (zl_up (P := fun w m => wl_Rows_fewestFrom_25 I L R 16 (nI x) (nI y) (nI z) Q w (nI ((x * 9 + y) * 9 + z)) (nI (if x + y + z = 0 then 0 else zmin (fun t => if ga_lf (l 0) t x + ga_lf (l 1) t y + ga_lf (l 2) t z = x + y + z then 1000 else gG 1000 T (l 0) (l 1) (l 2) (ga_lf (l 0) t x) (ga_lf (l 1) t y) (ga_lf (l 2) t z) + 1) 1000 m)) (nI m)) T (fun w => ?_) (fun w m hm ih => ?_) 0 (by omega))
    · simp (disch := omega) only [wl_Rows_fewestFrom_25, h1, zi_0, zi_1, zi_2, zi_3, zi_4, zi_5, zi_6, zi_7, zi_8, zi_9, zi_10, zi_11, zi_12, zi_13, zi_14, zi_15, zi_16, zi_17, zi_18, zi_19, zi_20, zi_21, zi_22, zi_23, zi_24, zi_25, zi_26, zi_30, zi_31, zi_32, zi_34, zi_38, zi_59, zi_60, zi_61, zi_63, zi_64, zi_80, zi_96, zi_97, zi_99, zi_100, zi_122, zi_255, zi_256, zi_300, zi_398, zi_406, zi_900, zi_1000, zi_1024, zi_1624, zi_1662, zi_2030, zi_2031, zi_2068, zi_2258, zi_9999, zi_48, zi_57, zi_65536, zi_3257, zi_11483, zi_1000000, zi_729, zi_81, zi_m1, nI_add, pk_mul, nI_ltI, nI_leI, nI_eq, nI_clamp, zn_in, zn_sub1lt, zn_M, zn_Ml, zn_Mg, zn_Mle, zn_Mge, zn_sub, Nat.reduceAdd, Nat.reduceMul, forall_eq, true_imp_iff, false_imp_iff, and_true, true_and, not_true_eq_false, not_false_eq_true, reduceCtorEq, imp_self, eq_self, false_and, and_false, implies_true]
      refine ⟨fun _ => ?_, fun g => absurd (Nat.le_refl _) g⟩
      rw [gG_rec] at k; exact k
    · rw [zmin] at ih
      have x0 := ga_lf_le (l 0) m x
      have x1 := ga_lf_le (l 1) m y
      have x2 := ga_lf_le (l 2) m z
      have zl := zmin_le (f := fun t => if ga_lf (l 0) t x + ga_lf (l 1) t y + ga_lf (l 2) t z = x + y + z then 1000 else gG 1000 T (l 0) (l 1) (l 2) (ga_lf (l 0) t x) (ga_lf (l 1) t y) (ga_lf (l 2) t z) + 1) (Z := 1000) m
      have gl := gG_le (Z := 1000) (T := T) (l0 := l 0) (l1 := l 1) (l2 := l 2) (ga_lf (l 0) m x) (ga_lf (l 1) m y) (ga_lf (l 2) m z)
      generalize zmin (fun t => if ga_lf (l 0) t x + ga_lf (l 1) t y + ga_lf (l 2) t z = x + y + z then 1000 else gG 1000 T (l 0) (l 1) (l 2) (ga_lf (l 0) t x) (ga_lf (l 1) t y) (ga_lf (l 2) t z) + 1) 1000 m = B at ih zl ⊢
      rw [wl_Rows_fewestFrom_25]
      simp (disch := omega) only [h1, zi_0, zi_1, zi_2, zi_3, zi_4, zi_5, zi_6, zi_7, zi_8, zi_9, zi_10, zi_11, zi_12, zi_13, zi_14, zi_15, zi_16, zi_17, zi_18, zi_19, zi_20, zi_21, zi_22, zi_23, zi_24, zi_25, zi_26, zi_30, zi_31, zi_32, zi_34, zi_38, zi_59, zi_60, zi_61, zi_63, zi_64, zi_80, zi_96, zi_97, zi_99, zi_100, zi_122, zi_255, zi_256, zi_300, zi_398, zi_406, zi_900, zi_1000, zi_1024, zi_1624, zi_1662, zi_2030, zi_2031, zi_2068, zi_2258, zi_9999, zi_48, zi_57, zi_65536, zi_3257, zi_11483, zi_1000000, zi_729, zi_81, zi_m1, nI_add, pk_mul, nI_ltI, nI_leI, nI_eq, nI_clamp, zn_in, zn_sub1lt, zn_M, zn_Ml, zn_Mg, zn_Mle, zn_Mge, zn_sub, Nat.reduceAdd, Nat.reduceMul]
      refine ⟨fun g => absurd g (by omega), fun _ => ?_⟩
      refine su_left (l := l) (by omega) (h3 0 (by omega)) (hl 0) hx (by omega) ?_
      refine su_left (l := l) (by omega) (h3 1 (by omega)) (hl 1) hy (by omega) ?_
      refine su_left (l := l) (by omega) (h3 2 (by omega)) (hl 2) hz (by omega) ?_
      have tb2 := tb (ga_lf (l 0) m x) (ga_lf (l 1) m y) (ga_lf (l 2) m z) x0 x1 x2
      generalize ga_lf (l 0) m x = a at *
      generalize ga_lf (l 1) m y = b at *
      generalize ga_lf (l 2) m z = e at *
      simp (disch := omega) only [wp_Rows_index, zi_0, zi_1, zi_2, zi_3, zi_4, zi_5, zi_6, zi_7, zi_8, zi_9, zi_10, zi_11, zi_12, zi_13, zi_14, zi_15, zi_16, zi_17, zi_18, zi_19, zi_20, zi_21, zi_22, zi_23, zi_24, zi_25, zi_26, zi_30, zi_31, zi_32, zi_34, zi_38, zi_59, zi_60, zi_61, zi_63, zi_64, zi_80, zi_96, zi_97, zi_99, zi_100, zi_122, zi_255, zi_256, zi_300, zi_398, zi_406, zi_900, zi_1000, zi_1024, zi_1624, zi_1662, zi_2030, zi_2031, zi_2068, zi_2258, zi_9999, zi_48, zi_57, zi_65536, zi_3257, zi_11483, zi_1000000, zi_729, zi_81, zi_m1, nI_add, pk_mul, nI_ltI, nI_leI, nI_eq, nI_clamp, zn_in, zn_sub1lt, zn_M, zn_Ml, zn_Mg, zn_Mle, zn_Mge, zn_sub, Nat.reduceAdd, Nat.reduceMul]
      refine ⟨fun g => ?_, fun g => ⟨by omega, ?_⟩⟩
      · rw [if_pos (by omega : a + b + e = x + y + z), Nat.min_eq_left zl] at ih
        exact ih
      · rw [tb2 (by omega)]
        rw [if_neg (by omega : ¬ a + b + e = x + y + z), if_neg (by omega : ¬ x + y + z = 0)] at ih
        rw [if_neg (by omega : ¬ x + y + z = 0)]
        simp (disch := omega) only [zn_min, zi_0, zi_1, zi_2, zi_3, zi_4, zi_5, zi_6, zi_7, zi_8, zi_9, zi_10, zi_11, zi_12, zi_13, zi_14, zi_15, zi_16, zi_17, zi_18, zi_19, zi_20, zi_21, zi_22, zi_23, zi_24, zi_25, zi_26, zi_30, zi_31, zi_32, zi_34, zi_38, zi_59, zi_60, zi_61, zi_63, zi_64, zi_80, zi_96, zi_97, zi_99, zi_100, zi_122, zi_255, zi_256, zi_300, zi_398, zi_406, zi_900, zi_1000, zi_1024, zi_1624, zi_1662, zi_2030, zi_2031, zi_2068, zi_2258, zi_9999, zi_48, zi_57, zi_65536, zi_3257, zi_11483, zi_1000000, zi_729, zi_81, zi_m1, nI_add, pk_mul, nI_ltI, nI_leI, nI_eq, nI_clamp, zn_in, zn_sub1lt, zn_M, zn_Ml, zn_Mg, zn_Mle, zn_Mge, zn_sub, Nat.reduceAdd, Nat.reduceMul]
        exact ih
  unfold wp_Rows_fewestFrom wp_Rows_index wb_Rows_fewestFrom_20
  simp (disch := omega) only [zi_0, zi_1, zi_2, zi_3, zi_4, zi_5, zi_6, zi_7, zi_8, zi_9, zi_10, zi_11, zi_12, zi_13, zi_14, zi_15, zi_16, zi_17, zi_18, zi_19, zi_20, zi_21, zi_22, zi_23, zi_24, zi_25, zi_26, zi_30, zi_31, zi_32, zi_34, zi_38, zi_59, zi_60, zi_61, zi_63, zi_64, zi_80, zi_96, zi_97, zi_99, zi_100, zi_122, zi_255, zi_256, zi_300, zi_398, zi_406, zi_900, zi_1000, zi_1024, zi_1624, zi_1662, zi_2030, zi_2031, zi_2068, zi_2258, zi_9999, zi_48, zi_57, zi_65536, zi_3257, zi_11483, zi_1000000, zi_729, zi_81, zi_m1, nI_add, pk_mul, nI_ltI, nI_leI, nI_eq, nI_clamp, zn_in, zn_sub1lt, zn_M, zn_Ml, zn_Mg, zn_Mle, zn_Mge, zn_sub, Nat.reduceAdd, Nat.reduceMul]
  refine ⟨fun g => ?_, fun g => ?_⟩
  · rw [if_pos (by omega)] at key; exact key
  · rw [if_neg (by omega)] at key; exact key
theorem su_table {T : Nat} {f l : Nat → Nat} {p2 : Int32} (h : gp_U T f l I) (hT : T ≤ 6) (hl : ∀ i, l i < 64) (hf : ∀ i, f i ≤ 8) {Q : Int32 → am_TI → Prop} (k : ∀ I1, gp_U T f l I1 → (∀ a b e, a ≤ f 0 → b ≤ f 1 → e ≤ f 2 → I1 17 ((a * 9 + b) * 9 + e) = nI (gG 1000 T (l 0) (l 1) (l 2) a b e)) → (∀ r, r ≠ 17 → I1 r = I r) → Q (if gG 1000 T (l 0) (l 1) (l 2) (f 0) (f 1) (f 2) < 1000 then nI (gG 1000 T (l 0) (l 1) (l 2) (f 0) (f 1) (f 2)) else nM) I1) : wb_Rows_fewestTunes_87 L R 16 c p2 Q I := by
  have f0 := hf 0
  have f1 := hf 1
  have f2 := hf 2
  have D : ∀ {m n o : Nat} {I1 : am_TI}, gp_U T f l I → (∀ r, r ≠ 17 → I1 r = I r) → gp_U T f l I1 := by
    intro m n o I1 h e
    unfold gp_U
    rw [e 16 (by omega), e 18 (by omega), e 19 (by omega)]; exact h
  unfold wb_Rows_fewestTunes_87
  refine (zl_up (P := fun w m => ∀ I1, (∀ a b e, a ≤ f 0 → b ≤ f 1 → e ≤ f 2 → a < m → I1 17 ((a * 9 + b) * 9 + e) = nI (gG 1000 T (l 0) (l 1) (l 2) a b e)) → (∀ r, r ≠ 17 → I1 r = I r) → wl_Rows_fewestTunes_90 L R 16 c p2 Q w I1 (nI m)) (f 0 + 1) (fun w I1 t1 e1 => ?_) (fun w m hm ih I1 t1 e1 => ?_) 0 (by omega)).elim fun z hz => ⟨z, hz I (fun _ _ _ _ _ _ g => absurd g (by omega)) (fun _ _ => rfl)⟩
  · have h1 := D (m := 0) (n := 0) (o := 0) h e1
    have gl := gG_le (Z := 1000) (T := T) (l0 := l 0) (l1 := l 1) (l2 := l 2) (f 0) (f 1) (f 2)
    simp (disch := omega) only [wl_Rows_fewestTunes_90, wp_Rows_index, h1.2.1, t1 (f 0) (f 1) (f 2) (by omega) (by omega) (by omega) (by omega), zi_0, zi_1, zi_2, zi_3, zi_4, zi_5, zi_6, zi_7, zi_8, zi_9, zi_10, zi_11, zi_12, zi_13, zi_14, zi_15, zi_16, zi_17, zi_18, zi_19, zi_20, zi_21, zi_22, zi_23, zi_24, zi_25, zi_26, zi_30, zi_31, zi_32, zi_34, zi_38, zi_59, zi_60, zi_61, zi_63, zi_64, zi_80, zi_96, zi_97, zi_99, zi_100, zi_122, zi_255, zi_256, zi_300, zi_398, zi_406, zi_900, zi_1000, zi_1024, zi_1624, zi_1662, zi_2030, zi_2031, zi_2068, zi_2258, zi_9999, zi_48, zi_57, zi_65536, zi_3257, zi_11483, zi_1000000, zi_729, zi_81, zi_m1, nI_add, pk_mul, nI_ltI, nI_leI, nI_eq, nI_clamp, zn_in, zn_sub1lt, zn_M, zn_Ml, zn_Mg, zn_Mle, zn_Mge, zn_sub, Nat.reduceAdd, Nat.reduceMul, forall_eq, true_imp_iff, false_imp_iff, and_true, true_and, not_true_eq_false, not_false_eq_true, reduceCtorEq, imp_self, eq_self, false_and, and_false, implies_true]
    have k2 := k I1 h1 (fun a b e a1 b1 c1 => t1 a b e a1 b1 c1 (by omega)) e1
    refine ⟨fun _ => ⟨by omega, fun g => ?_, fun g => ?_⟩, fun g => absurd (by omega) g⟩
    · rw [if_pos g] at k2; exact k2
    · rw [if_neg g] at k2; exact k2
  · have h1 := D (m := 0) (n := 0) (o := 0) h e1
    rw [wl_Rows_fewestTunes_90]
    simp (disch := omega) only [h1.2.1, zi_0, zi_1, zi_2, zi_3, zi_4, zi_5, zi_6, zi_7, zi_8, zi_9, zi_10, zi_11, zi_12, zi_13, zi_14, zi_15, zi_16, zi_17, zi_18, zi_19, zi_20, zi_21, zi_22, zi_23, zi_24, zi_25, zi_26, zi_30, zi_31, zi_32, zi_34, zi_38, zi_59, zi_60, zi_61, zi_63, zi_64, zi_80, zi_96, zi_97, zi_99, zi_100, zi_122, zi_255, zi_256, zi_300, zi_398, zi_406, zi_900, zi_1000, zi_1024, zi_1624, zi_1662, zi_2030, zi_2031, zi_2068, zi_2258, zi_9999, zi_48, zi_57, zi_65536, zi_3257, zi_11483, zi_1000000, zi_729, zi_81, zi_m1, nI_add, pk_mul, nI_ltI, nI_leI, nI_eq, nI_clamp, zn_in, zn_sub1lt, zn_M, zn_Ml, zn_Mg, zn_Mle, zn_Mge, zn_sub, Nat.reduceAdd, Nat.reduceMul]
    refine ⟨fun g => absurd g (by omega), fun _ => ?_⟩
    refine (zl_up (P := fun w' n => ∀ I1, (∀ a b e, a ≤ f 0 → b ≤ f 1 → e ≤ f 2 → (a < m ∨ a = m ∧ b < n) → I1 17 ((a * 9 + b) * 9 + e) = nI (gG 1000 T (l 0) (l 1) (l 2) a b e)) → (∀ r, r ≠ 17 → I1 r = I r) → wl_Rows_fewestTunes_104 L R 16 c p2 Q (wl_Rows_fewestTunes_90 L R 16 c p2 Q w) w' I1 (nI m) (nI n)) (f 1 + 1) (fun w' I1 t1 e1 => ?_) (fun w' n hn ih2 I1 t1 e1 => ?_) 0 (by omega)).elim fun z hz => ⟨z, hz I1 (fun a b e a1 b1 c1 g => t1 a b e a1 b1 c1 (by omega)) e1⟩
    · have h1 := D (m := 0) (n := 0) (o := 0) h e1
      rw [wl_Rows_fewestTunes_104]
      simp (disch := omega) only [h1.2.1, zi_0, zi_1, zi_2, zi_3, zi_4, zi_5, zi_6, zi_7, zi_8, zi_9, zi_10, zi_11, zi_12, zi_13, zi_14, zi_15, zi_16, zi_17, zi_18, zi_19, zi_20, zi_21, zi_22, zi_23, zi_24, zi_25, zi_26, zi_30, zi_31, zi_32, zi_34, zi_38, zi_59, zi_60, zi_61, zi_63, zi_64, zi_80, zi_96, zi_97, zi_99, zi_100, zi_122, zi_255, zi_256, zi_300, zi_398, zi_406, zi_900, zi_1000, zi_1024, zi_1624, zi_1662, zi_2030, zi_2031, zi_2068, zi_2258, zi_9999, zi_48, zi_57, zi_65536, zi_3257, zi_11483, zi_1000000, zi_729, zi_81, zi_m1, nI_add, pk_mul, nI_ltI, nI_leI, nI_eq, nI_clamp, zn_in, zn_sub1lt, zn_M, zn_Ml, zn_Mg, zn_Mle, zn_Mge, zn_sub, Nat.reduceAdd, Nat.reduceMul]
      exact ⟨fun _ => ih I1 (fun a b e a1 b1 c1 g => t1 a b e a1 b1 c1 (by omega)) e1, fun g => absurd (by omega) g⟩
    · have h1 := D (m := 0) (n := 0) (o := 0) h e1
      rw [wl_Rows_fewestTunes_104]
      simp (disch := omega) only [h1.2.1, zi_0, zi_1, zi_2, zi_3, zi_4, zi_5, zi_6, zi_7, zi_8, zi_9, zi_10, zi_11, zi_12, zi_13, zi_14, zi_15, zi_16, zi_17, zi_18, zi_19, zi_20, zi_21, zi_22, zi_23, zi_24, zi_25, zi_26, zi_30, zi_31, zi_32, zi_34, zi_38, zi_59, zi_60, zi_61, zi_63, zi_64, zi_80, zi_96, zi_97, zi_99, zi_100, zi_122, zi_255, zi_256, zi_300, zi_398, zi_406, zi_900, zi_1000, zi_1024, zi_1624, zi_1662, zi_2030, zi_2031, zi_2068, zi_2258, zi_9999, zi_48, zi_57, zi_65536, zi_3257, zi_11483, zi_1000000, zi_729, zi_81, zi_m1, nI_add, pk_mul, nI_ltI, nI_leI, nI_eq, nI_clamp, zn_in, zn_sub1lt, zn_M, zn_Ml, zn_Mg, zn_Mle, zn_Mge, zn_sub, Nat.reduceAdd, Nat.reduceMul]
      refine ⟨fun g => absurd g (by omega), fun _ => ?_⟩
      refine (zl_up (P := fun w'' o => ∀ I1, (∀ a b e, a ≤ f 0 → b ≤ f 1 → e ≤ f 2 → (a < m ∨ a = m ∧ (b < n ∨ b = n ∧ e < o)) → I1 17 ((a * 9 + b) * 9 + e) = nI (gG 1000 T (l 0) (l 1) (l 2) a b e)) → (∀ r, r ≠ 17 → I1 r = I r) → wl_Rows_fewestTunes_118 L R 16 c p2 Q (wl_Rows_fewestTunes_90 L R 16 c p2 Q w) (wl_Rows_fewestTunes_104 L R 16 c p2 Q (wl_Rows_fewestTunes_90 L R 16 c p2 Q w) w') w'' I1 (nI m) (nI n) (nI o)) (f 2 + 1) (fun w'' I1 t1 e1 => ?_) (fun w'' o ho ih3 I1 t1 e1 => ?_) 0 (by omega)).elim fun z hz => ⟨z, hz I1 (fun a b e a1 b1 c1 g => t1 a b e a1 b1 c1 (by omega)) e1⟩
      · have h1 := D (m := 0) (n := 0) (o := 0) h e1
        rw [wl_Rows_fewestTunes_118]
        simp (disch := omega) only [h1.2.1, zi_0, zi_1, zi_2, zi_3, zi_4, zi_5, zi_6, zi_7, zi_8, zi_9, zi_10, zi_11, zi_12, zi_13, zi_14, zi_15, zi_16, zi_17, zi_18, zi_19, zi_20, zi_21, zi_22, zi_23, zi_24, zi_25, zi_26, zi_30, zi_31, zi_32, zi_34, zi_38, zi_59, zi_60, zi_61, zi_63, zi_64, zi_80, zi_96, zi_97, zi_99, zi_100, zi_122, zi_255, zi_256, zi_300, zi_398, zi_406, zi_900, zi_1000, zi_1024, zi_1624, zi_1662, zi_2030, zi_2031, zi_2068, zi_2258, zi_9999, zi_48, zi_57, zi_65536, zi_3257, zi_11483, zi_1000000, zi_729, zi_81, zi_m1, nI_add, pk_mul, nI_ltI, nI_leI, nI_eq, nI_clamp, zn_in, zn_sub1lt, zn_M, zn_Ml, zn_Mg, zn_Mle, zn_Mge, zn_sub, Nat.reduceAdd, Nat.reduceMul]
        exact ⟨fun _ => ih2 I1 (fun a b e a1 b1 c1 g => t1 a b e a1 b1 c1 (by omega)) e1, fun g => absurd (by omega) g⟩
      · have h1 := D (m := 0) (n := 0) (o := 0) h e1
        rw [wl_Rows_fewestTunes_118]
        simp (disch := omega) only [h1.2.1, wp_Rows_index, zi_0, zi_1, zi_2, zi_3, zi_4, zi_5, zi_6, zi_7, zi_8, zi_9, zi_10, zi_11, zi_12, zi_13, zi_14, zi_15, zi_16, zi_17, zi_18, zi_19, zi_20, zi_21, zi_22, zi_23, zi_24, zi_25, zi_26, zi_30, zi_31, zi_32, zi_34, zi_38, zi_59, zi_60, zi_61, zi_63, zi_64, zi_80, zi_96, zi_97, zi_99, zi_100, zi_122, zi_255, zi_256, zi_300, zi_398, zi_406, zi_900, zi_1000, zi_1024, zi_1624, zi_1662, zi_2030, zi_2031, zi_2068, zi_2258, zi_9999, zi_48, zi_57, zi_65536, zi_3257, zi_11483, zi_1000000, zi_729, zi_81, zi_m1, nI_add, pk_mul, nI_ltI, nI_leI, nI_eq, nI_clamp, zn_in, zn_sub1lt, zn_M, zn_Ml, zn_Mg, zn_Mle, zn_Mge, zn_sub, Nat.reduceAdd, Nat.reduceMul]
        refine ⟨fun g => absurd g (by omega), fun _ => ?_⟩
        refine su_ff h1 hT hl (by omega) (by omega) (by omega) (fun a b e a1 b1 c1 g => t1 a b e (by omega) (by omega) (by omega) (by omega)) ?_
        simp (disch := omega) only [zi_0, zi_1, zi_2, zi_3, zi_4, zi_5, zi_6, zi_7, zi_8, zi_9, zi_10, zi_11, zi_12, zi_13, zi_14, zi_15, zi_16, zi_17, zi_18, zi_19, zi_20, zi_21, zi_22, zi_23, zi_24, zi_25, zi_26, zi_30, zi_31, zi_32, zi_34, zi_38, zi_59, zi_60, zi_61, zi_63, zi_64, zi_80, zi_96, zi_97, zi_99, zi_100, zi_122, zi_255, zi_256, zi_300, zi_398, zi_406, zi_900, zi_1000, zi_1024, zi_1624, zi_1662, zi_2030, zi_2031, zi_2068, zi_2258, zi_9999, zi_48, zi_57, zi_65536, zi_3257, zi_11483, zi_1000000, zi_729, zi_81, zi_m1, nI_add, pk_mul, nI_ltI, nI_leI, nI_eq, nI_clamp, zn_in, zn_sub1lt, zn_M, zn_Ml, zn_Mg, zn_Mle, zn_Mge, zn_sub, Nat.reduceAdd, Nat.reduceMul, forall_eq, true_imp_iff, false_imp_iff, and_true, true_and, not_true_eq_false, not_false_eq_true, reduceCtorEq, imp_self, eq_self, false_and, and_false, implies_true]
        refine ⟨by omega, ih3 _ (fun a b e a1 b1 c1 g => ?_) (fun r hr => ?_)⟩
        · by_cases g2 : a = m ∧ b = n ∧ e = o
          · obtain ⟨rfl, rfl, rfl⟩ := g2
            rw [am_u2_at]
          · rw [am_u2_ne _ _ _ _ (by omega)]
            exact t1 a b e a1 b1 c1 (by omega)
        · rw [am_u2_row _ _ _ _ hr]; exact e1 r hr
theorem su_fewest (h : sq_U q c d I L) (hcd : sq_cd c d) (ok : sq_Ok q) {s : Nat} (hs : s < 64) (hz : zp s ≤ 3) {Q : Int32 → am_TI → Prop} (k : ∀ I1, gp_U (q 2) (gw_f q s (q 3)) (gw_l q s (q 3)) I1 → (∀ a b e, a ≤ (gw_f q s (q 3)) 0 → b ≤ (gw_f q s (q 3)) 1 → e ≤ (gw_f q s (q 3)) 2 → I1 17 ((a * 9 + b) * 9 + e) = nI (gG 1000 (q 2) (gw_l q s (q 3) 0) (gw_l q s (q 3) 1) (gw_l q s (q 3) 2) a b e)) → (∀ r, (r < 16 ∨ 19 < r) → I1 r = I r) → Q (if gG 1000 (q 2) (gw_l q s (q 3) 0) (gw_l q s (q 3) 1) (gw_l q s (q 3) 2) ((gw_f q s (q 3)) 0) ((gw_f q s (q 3)) 1) ((gw_f q s (q 3)) 2) < 1000 then nI (gG 1000 (q 2) (gw_l q s (q 3) 0) (gw_l q s (q 3) 1) (gw_l q s (q 3) 2) ((gw_f q s (q 3)) 0) ((gw_f q s (q 3)) 1) ((gw_f q s (q 3)) 2)) else nM) I1) : wp_Rows_fewestTunes I L R 16 c (nI s) Q := by
  have o := ok.1.2.2.1
  have hcd' := hcd
  obtain ⟨hc, hd⟩ := hcd'
  simp (disch := omega) only [wp_Rows_fewestTunes, zi_0, zi_1, zi_2, zi_3, zi_4, zi_5, zi_6, zi_7, zi_8, zi_9, zi_10, zi_11, zi_12, zi_13, zi_14, zi_15, zi_16, zi_17, zi_18, zi_19, zi_20, zi_21, zi_22, zi_23, zi_24, zi_25, zi_26, zi_30, zi_31, zi_32, zi_34, zi_38, zi_59, zi_60, zi_61, zi_63, zi_64, zi_80, zi_96, zi_97, zi_99, zi_100, zi_122, zi_255, zi_256, zi_300, zi_398, zi_406, zi_900, zi_1000, zi_1024, zi_1624, zi_1662, zi_2030, zi_2031, zi_2068, zi_2258, zi_9999, zi_48, zi_57, zi_65536, zi_3257, zi_11483, zi_1000000, zi_729, zi_81, zi_m1, nI_add, pk_mul, nI_ltI, nI_leI, nI_eq, nI_clamp, zn_in, zn_sub1lt, zn_M, zn_Ml, zn_Mg, zn_Mle, zn_Mge, zn_sub, Nat.reduceAdd, Nat.reduceMul, forall_eq, true_imp_iff, false_imp_iff, and_true, true_and, not_true_eq_false, not_false_eq_true, reduceCtorEq, imp_self, eq_self, false_and, and_false, implies_true]
  refine su_fillI (by omega) (fun I1 a1 b1 => su_fillI (by omega) (fun I2 a2 b2 => ?_))
  have e10 : I2 c 10 = nI (q 2) := by rw [b2 c 10 (by omega), b1 c 10 (by omega)]; exact h.n2
  rw [e10]
  have fin : ∀ I3, gp_U (q 2) (gw_f q s (q 3)) (gw_l q s (q 3)) I3 → (∀ r, (r < 16 ∨ 19 < r) → I3 r = I r) → wb_Rows_fewestTunes_87 L R 16 c (nI s) Q I3 := fun I3 g e => su_table g (by omega) (fun i => (gw_f_le ok _ i (Nat.le_refl _)).2) (fun i => (gw_f_le ok _ i (Nat.le_refl _)).1) (fun I4 g4 t4 e4 => k I4 g4 t4 (fun r hr => (e4 r (by omega)).trans (e r hr)))
  refine (zl_up (P := fun f m => ∀ I3, gp_U (q 2) (gw_f q s m) (gw_l q s m) I3 → (∀ r, (r < 16 ∨ 19 < r) → I3 r = I r) → wl_Rows_fewestTunes_29 L R 16 c (nI s) Q f I3 (nI (gw_c s m)) (nI m)) (q 3) (fun f I3 g e => ?_) (fun f m hm ih I3 g e => ?_) 0 (by omega)).elim fun z hz => ⟨z, hz _ ⟨am_u2_at _ _ _ _, fun i hi => ?_, fun i hi => ?_⟩ (fun r hr => ?_)⟩
  · have e11 : I3 c 11 = nI (q 3) := by rw [e c (by omega)]; exact h.n3
    rw [wl_Rows_fewestTunes_29]
    simp (disch := omega) only [e11, zi_0, zi_1, zi_2, zi_3, zi_4, zi_5, zi_6, zi_7, zi_8, zi_9, zi_10, zi_11, zi_12, zi_13, zi_14, zi_15, zi_16, zi_17, zi_18, zi_19, zi_20, zi_21, zi_22, zi_23, zi_24, zi_25, zi_26, zi_30, zi_31, zi_32, zi_34, zi_38, zi_59, zi_60, zi_61, zi_63, zi_64, zi_80, zi_96, zi_97, zi_99, zi_100, zi_122, zi_255, zi_256, zi_300, zi_398, zi_406, zi_900, zi_1000, zi_1024, zi_1624, zi_1662, zi_2030, zi_2031, zi_2068, zi_2258, zi_9999, zi_48, zi_57, zi_65536, zi_3257, zi_11483, zi_1000000, zi_729, zi_81, zi_m1, nI_add, pk_mul, nI_ltI, nI_leI, nI_eq, nI_clamp, zn_in, zn_sub1lt, zn_M, zn_Ml, zn_Mg, zn_Mle, zn_Mge, zn_sub, Nat.reduceAdd, Nat.reduceMul]
    exact ⟨fun _ => fin I3 g e, fun g => absurd (Nat.le_refl _) g⟩
  · have h3 : sq_U q c d I3 L := h.keep (fun r hr => e r (by omega)) rfl
    have c3 := gw_3 s hs hz m (by omega)
    rw [wl_Rows_fewestTunes_29]
    simp (disch := omega) only [h3.n3, zn_bit, zi_0, zi_1, zi_2, zi_3, zi_4, zi_5, zi_6, zi_7, zi_8, zi_9, zi_10, zi_11, zi_12, zi_13, zi_14, zi_15, zi_16, zi_17, zi_18, zi_19, zi_20, zi_21, zi_22, zi_23, zi_24, zi_25, zi_26, zi_30, zi_31, zi_32, zi_34, zi_38, zi_59, zi_60, zi_61, zi_63, zi_64, zi_80, zi_96, zi_97, zi_99, zi_100, zi_122, zi_255, zi_256, zi_300, zi_398, zi_406, zi_900, zi_1000, zi_1024, zi_1624, zi_1662, zi_2030, zi_2031, zi_2068, zi_2258, zi_9999, zi_48, zi_57, zi_65536, zi_3257, zi_11483, zi_1000000, zi_729, zi_81, zi_m1, nI_add, pk_mul, nI_ltI, nI_leI, nI_eq, nI_clamp, zn_in, zn_sub1lt, zn_M, zn_Ml, zn_Mg, zn_Mle, zn_Mge, zn_sub, Nat.reduceAdd, Nat.reduceMul]
    refine ⟨fun g => absurd g (by omega), fun _ => ⟨fun g3 => ?_, fun g3 => ⟨fun gb => su_farO h3 ok hm ?_, fun gb => ?_⟩⟩⟩
    · obtain ⟨z1, z2, z3⟩ := gw_stop (q := q) hs hz (show gw_c s m = 3 by omega) (q 3) (by omega) (by omega)
      refine fin I3 ?_ e
      rw [z2, z3]; exact g
    · obtain ⟨y1, y2⟩ := gw_f_yes (q := q) gb
      have y3 := (gw_yes gb 0).1
      simp (disch := omega) only [zi_0, zi_1, zi_2, zi_3, zi_4, zi_5, zi_6, zi_7, zi_8, zi_9, zi_10, zi_11, zi_12, zi_13, zi_14, zi_15, zi_16, zi_17, zi_18, zi_19, zi_20, zi_21, zi_22, zi_23, zi_24, zi_25, zi_26, zi_30, zi_31, zi_32, zi_34, zi_38, zi_59, zi_60, zi_61, zi_63, zi_64, zi_80, zi_96, zi_97, zi_99, zi_100, zi_122, zi_255, zi_256, zi_300, zi_398, zi_406, zi_900, zi_1000, zi_1024, zi_1624, zi_1662, zi_2030, zi_2031, zi_2068, zi_2258, zi_9999, zi_48, zi_57, zi_65536, zi_3257, zi_11483, zi_1000000, zi_729, zi_81, zi_m1, nI_add, pk_mul, nI_ltI, nI_leI, nI_eq, nI_clamp, zn_in, zn_sub1lt, zn_M, zn_Ml, zn_Mg, zn_Mle, zn_Mge, zn_sub, Nat.reduceAdd, Nat.reduceMul, forall_eq, true_imp_iff, false_imp_iff, and_true, true_and, not_true_eq_false, not_false_eq_true, reduceCtorEq, imp_self, eq_self, false_and, and_false, implies_true]
      refine ⟨by omega, by omega, by omega, ?_⟩
      have lk : am_u2 I3 18 (gw_c s m) (nI (sq_far (q 0) (q (10 + 4 * m)) (q 6))) (c + 4) m = nI (q (11 + 4 * m)) := by
        rw [am_u2o (by omega)]; exact h3.lk hm
      rw [lk]
      rw [y3, y1, y2] at ih
      refine ih _ ⟨?_, fun i hi => ?_, fun i hi => ?_⟩ (fun r hr => ?_)
      · rw [am_u2o (by omega), am_u2o (by omega)]; exact g.1
      · rw [am_u2o (by omega)]
        unfold am_u2 zu
        by_cases e : i = gw_c s m
        · rw [if_pos ⟨rfl, e⟩, if_pos e]
        · rw [if_neg (fun z => e z.2), if_neg e]; exact g.2.1 i hi
      · unfold am_u2 zu
        by_cases e : i = gw_c s m
        · rw [if_pos ⟨rfl, e⟩, if_pos e]
        · rw [if_neg (fun z => e z.2), if_neg (by omega), if_neg e]; exact g.2.2 i hi
      · rw [am_u2_row _ _ _ _ (by omega), am_u2_row _ _ _ _ (by omega)]; exact e r hr
    · have gb' : s.testBit m = false := by simpa using gb
      obtain ⟨y1, y2⟩ := gw_f_no (q := q) gb'
      rw [y1, y2, (gw_no gb').1] at ih
      exact ih I3 g e
  · rw [am_u2o (by omega), b2 18 i (by omega), a1 i (by omega)]; rfl
  · rw [am_u2o (by omega), a2 i (by omega)]; rfl
  · rw [am_u2_row _ _ _ _ (by omega)]
    funext k
    rw [b2 r k (by omega), b1 r k (by omega)]
theorem su_good {T : Nat} {f l : Nat → Nat} (h : gp_U T f l I) (hT : T ≤ 6) (hl : ∀ i, l i < 64) {x y z : Nat} (hx : x ≤ 8) (hy : y ≤ 8) (hz : z ≤ 8) (tb : ∀ a b e, a ≤ x → b ≤ y → e ≤ z → I 17 ((a * 9 + b) * 9 + e) = nI (gG 1000 T (l 0) (l 1) (l 2) a b e)) (h0 : 0 < gG 1000 T (l 0) (l 1) (l 2) x y z) (h1 : gG 1000 T (l 0) (l 1) (l 2) x y z < 1000) {Q : Int32 → Prop} (k : Q (nI (zfind (gr_P T (l 0) (l 1) (l 2) x y z) T))) : wp_Rows_firstGoodTune I L R 16 (nI x) (nI y) (nI z) Q := by
  obtain ⟨p1, p2, p3⟩ := zfind_ex (gr_ex h0 h1)
  simp (disch := omega) only [wp_Rows_firstGoodTune, wp_Rows_index, tb x y z (by omega) (by omega) (by omega), zi_0, zi_1, zi_2, zi_3, zi_4, zi_5, zi_6, zi_7, zi_8, zi_9, zi_10, zi_11, zi_12, zi_13, zi_14, zi_15, zi_16, zi_17, zi_18, zi_19, zi_20, zi_21, zi_22, zi_23, zi_24, zi_25, zi_26, zi_30, zi_31, zi_32, zi_34, zi_38, zi_59, zi_60, zi_61, zi_63, zi_64, zi_80, zi_96, zi_97, zi_99, zi_100, zi_122, zi_255, zi_256, zi_300, zi_398, zi_406, zi_900, zi_1000, zi_1024, zi_1624, zi_1662, zi_2030, zi_2031, zi_2068, zi_2258, zi_9999, zi_48, zi_57, zi_65536, zi_3257, zi_11483, zi_1000000, zi_729, zi_81, zi_m1, nI_add, pk_mul, nI_ltI, nI_leI, nI_eq, nI_clamp, zn_in, zn_sub1lt, zn_M, zn_Ml, zn_Mg, zn_Mle, zn_Mge, zn_sub, Nat.reduceAdd, Nat.reduceMul, forall_eq, true_imp_iff, false_imp_iff, and_true, true_and, not_true_eq_false, not_false_eq_true, reduceCtorEq, imp_self, eq_self, false_and, and_false, implies_true]
  refine ⟨by omega, ?_⟩
  generalize zfind (gr_P T (l 0) (l 1) (l 2) x y z) T = F at *
  have step : ∀ m, m < T → ∀ A B : Prop, (gr_P T (l 0) (l 1) (l 2) x y z m = true → A) → (gr_P T (l 0) (l 1) (l 2) x y z m = false → B) → True := fun _ _ _ _ _ _ => trivial
  refine zl_up (P := fun w m => wl_Rows_firstGoodTune_18 I L R 16 (nI x) (nI y) (nI z) Q w (nI (gG 1000 T (l 0) (l 1) (l 2) x y z - 1)) (nI m)) F (fun w => ?_) (fun w m hm ih => ?_) 0 (by omega)
  all_goals rw [wl_Rows_firstGoodTune_18]
  all_goals simp (disch := omega) only [h.1, zi_0, zi_1, zi_2, zi_3, zi_4, zi_5, zi_6, zi_7, zi_8, zi_9, zi_10, zi_11, zi_12, zi_13, zi_14, zi_15, zi_16, zi_17, zi_18, zi_19, zi_20, zi_21, zi_22, zi_23, zi_24, zi_25, zi_26, zi_30, zi_31, zi_32, zi_34, zi_38, zi_59, zi_60, zi_61, zi_63, zi_64, zi_80, zi_96, zi_97, zi_99, zi_100, zi_122, zi_255, zi_256, zi_300, zi_398, zi_406, zi_900, zi_1000, zi_1024, zi_1624, zi_1662, zi_2030, zi_2031, zi_2068, zi_2258, zi_9999, zi_48, zi_57, zi_65536, zi_3257, zi_11483, zi_1000000, zi_729, zi_81, zi_m1, nI_add, pk_mul, nI_ltI, nI_leI, nI_eq, nI_clamp, zn_in, zn_sub1lt, zn_M, zn_Ml, zn_Mg, zn_Mle, zn_Mge, zn_sub, Nat.reduceAdd, Nat.reduceMul]
  · have x0 := ga_lf_le (l 0) F x
    have x1 := ga_lf_le (l 1) F y
    have x2 := ga_lf_le (l 2) F z
    have gl := gG_le (Z := 1000) (T := T) (l0 := l 0) (l1 := l 1) (l2 := l 2) (ga_lf (l 0) F x) (ga_lf (l 1) F y) (ga_lf (l 2) F z)
    refine ⟨fun g => absurd g (by omega), fun _ => ?_⟩
    refine su_left (l := l) (by omega) (h.2.2 0 (by omega)) (hl 0) hx (by omega) ?_
    refine su_left (l := l) (by omega) (h.2.2 1 (by omega)) (hl 1) hy (by omega) ?_
    refine su_left (l := l) (by omega) (h.2.2 2 (by omega)) (hl 2) hz (by omega) ?_
    simp (disch := omega) only [wp_Rows_index, tb _ _ _ x0 x1 x2, zi_0, zi_1, zi_2, zi_3, zi_4, zi_5, zi_6, zi_7, zi_8, zi_9, zi_10, zi_11, zi_12, zi_13, zi_14, zi_15, zi_16, zi_17, zi_18, zi_19, zi_20, zi_21, zi_22, zi_23, zi_24, zi_25, zi_26, zi_30, zi_31, zi_32, zi_34, zi_38, zi_59, zi_60, zi_61, zi_63, zi_64, zi_80, zi_96, zi_97, zi_99, zi_100, zi_122, zi_255, zi_256, zi_300, zi_398, zi_406, zi_900, zi_1000, zi_1024, zi_1624, zi_1662, zi_2030, zi_2031, zi_2068, zi_2258, zi_9999, zi_48, zi_57, zi_65536, zi_3257, zi_11483, zi_1000000, zi_729, zi_81, zi_m1, nI_add, pk_mul, nI_ltI, nI_leI, nI_eq, nI_clamp, zn_in, zn_sub1lt, zn_M, zn_Ml, zn_Mg, zn_Mle, zn_Mge, zn_sub, Nat.reduceAdd, Nat.reduceMul]
    unfold gr_P at p2
    rw [beq_iff_eq] at p2
    exact ⟨by omega, fun _ => k, fun g => absurd (by omega) g⟩
  · have x0 := ga_lf_le (l 0) m x
    have x1 := ga_lf_le (l 1) m y
    have x2 := ga_lf_le (l 2) m z
    have gl := gG_le (Z := 1000) (T := T) (l0 := l 0) (l1 := l 1) (l2 := l 2) (ga_lf (l 0) m x) (ga_lf (l 1) m y) (ga_lf (l 2) m z)
    refine ⟨fun g => absurd g (by omega), fun _ => ?_⟩
    refine su_left (l := l) (by omega) (h.2.2 0 (by omega)) (hl 0) hx (by omega) ?_
    refine su_left (l := l) (by omega) (h.2.2 1 (by omega)) (hl 1) hy (by omega) ?_
    refine su_left (l := l) (by omega) (h.2.2 2 (by omega)) (hl 2) hz (by omega) ?_
    simp (disch := omega) only [wp_Rows_index, tb _ _ _ x0 x1 x2, zi_0, zi_1, zi_2, zi_3, zi_4, zi_5, zi_6, zi_7, zi_8, zi_9, zi_10, zi_11, zi_12, zi_13, zi_14, zi_15, zi_16, zi_17, zi_18, zi_19, zi_20, zi_21, zi_22, zi_23, zi_24, zi_25, zi_26, zi_30, zi_31, zi_32, zi_34, zi_38, zi_59, zi_60, zi_61, zi_63, zi_64, zi_80, zi_96, zi_97, zi_99, zi_100, zi_122, zi_255, zi_256, zi_300, zi_398, zi_406, zi_900, zi_1000, zi_1024, zi_1624, zi_1662, zi_2030, zi_2031, zi_2068, zi_2258, zi_9999, zi_48, zi_57, zi_65536, zi_3257, zi_11483, zi_1000000, zi_729, zi_81, zi_m1, nI_add, pk_mul, nI_ltI, nI_leI, nI_eq, nI_clamp, zn_in, zn_sub1lt, zn_M, zn_Ml, zn_Mg, zn_Mle, zn_Mge, zn_sub, Nat.reduceAdd, Nat.reduceMul]
    have p4 := p3 m hm
    unfold gr_P at p4
    rw [beq_eq_false_iff_ne, Ne] at p4
    exact ⟨by omega, fun g => absurd (by omega) p4, fun _ => ih⟩
theorem su_row {T : Nat} {f l : Nat → Nat} (h : gp_U T f l I) (hT : T ≤ 6) (hl : ∀ i, l i < 64) {kk : Nat} (hk : kk < 1000) {Q : Int32 → Prop} : ∀ r x y z i v, r + i = kk → x ≤ 8 → y ≤ 8 → z ≤ 8 → (∀ a b e, a ≤ x → b ≤ y → e ≤ z → I 17 ((a * 9 + b) * 9 + e) = nI (gG 1000 T (l 0) (l 1) (l 2) a b e)) → r < gG 1000 T (l 0) (l 1) (l 2) x y z → gG 1000 T (l 0) (l 1) (l 2) x y z < 1000 → Q (nI (gr T (l 0) (l 1) (l 2) r x y z)) → wl_Rows_tuneOfRow_28 I L R 16 (nI kk) Q (r + 2) (nI x) (nI y) (nI z) v (nI i) := by
  intro r
  induction r with
  | zero =>
    intro x y z i v hi hx hy hz tb g0 g1 k
    obtain ⟨p1, p2, p3⟩ := zfind_ex (gr_ex (T := T) (l0 := l 0) (l1 := l 1) (l2 := l 2) (a := x) (b := y) (c := z) (by omega) g1)
    rw [wl_Rows_tuneOfRow_28]
    simp (disch := omega) only [zi_0, zi_1, zi_2, zi_3, zi_4, zi_5, zi_6, zi_7, zi_8, zi_9, zi_10, zi_11, zi_12, zi_13, zi_14, zi_15, zi_16, zi_17, zi_18, zi_19, zi_20, zi_21, zi_22, zi_23, zi_24, zi_25, zi_26, zi_30, zi_31, zi_32, zi_34, zi_38, zi_59, zi_60, zi_61, zi_63, zi_64, zi_80, zi_96, zi_97, zi_99, zi_100, zi_122, zi_255, zi_256, zi_300, zi_398, zi_406, zi_900, zi_1000, zi_1024, zi_1624, zi_1662, zi_2030, zi_2031, zi_2068, zi_2258, zi_9999, zi_48, zi_57, zi_65536, zi_3257, zi_11483, zi_1000000, zi_729, zi_81, zi_m1, nI_add, pk_mul, nI_ltI, nI_leI, nI_eq, nI_clamp, zn_in, zn_sub1lt, zn_M, zn_Ml, zn_Mg, zn_Mle, zn_Mge, zn_sub, Nat.reduceAdd, Nat.reduceMul]
    refine ⟨fun g => absurd g (by omega), fun _ => su_good h hT hl hx hy hz tb (by omega) g1 ?_⟩
    refine su_left (l := l) (by omega) (h.2.2 0 (by omega)) (hl 0) hx (by omega) ?_
    refine su_left (l := l) (by omega) (h.2.2 1 (by omega)) (hl 1) hy (by omega) ?_
    refine su_left (l := l) (by omega) (h.2.2 2 (by omega)) (hl 2) hz (by omega) ?_
    rw [wl_Rows_tuneOfRow_28]
    simp (disch := omega) only [zi_0, zi_1, zi_2, zi_3, zi_4, zi_5, zi_6, zi_7, zi_8, zi_9, zi_10, zi_11, zi_12, zi_13, zi_14, zi_15, zi_16, zi_17, zi_18, zi_19, zi_20, zi_21, zi_22, zi_23, zi_24, zi_25, zi_26, zi_30, zi_31, zi_32, zi_34, zi_38, zi_59, zi_60, zi_61, zi_63, zi_64, zi_80, zi_96, zi_97, zi_99, zi_100, zi_122, zi_255, zi_256, zi_300, zi_398, zi_406, zi_900, zi_1000, zi_1024, zi_1624, zi_1662, zi_2030, zi_2031, zi_2068, zi_2258, zi_9999, zi_48, zi_57, zi_65536, zi_3257, zi_11483, zi_1000000, zi_729, zi_81, zi_m1, nI_add, pk_mul, nI_ltI, nI_leI, nI_eq, nI_clamp, zn_in, zn_sub1lt, zn_M, zn_Ml, zn_Mg, zn_Mle, zn_Mge, zn_sub, Nat.reduceAdd, Nat.reduceMul]
    exact ⟨fun _ => k, fun g => absurd (by omega) g⟩
  | succ r ih =>
    intro x y z i v hi hx hy hz tb g0 g1 k
    obtain ⟨p1, p2, p3⟩ := zfind_ex (gr_ex (T := T) (l0 := l 0) (l1 := l 1) (l2 := l 2) (a := x) (b := y) (c := z) (by omega) g1)
    rw [wl_Rows_tuneOfRow_28]
    simp (disch := omega) only [zi_0, zi_1, zi_2, zi_3, zi_4, zi_5, zi_6, zi_7, zi_8, zi_9, zi_10, zi_11, zi_12, zi_13, zi_14, zi_15, zi_16, zi_17, zi_18, zi_19, zi_20, zi_21, zi_22, zi_23, zi_24, zi_25, zi_26, zi_30, zi_31, zi_32, zi_34, zi_38, zi_59, zi_60, zi_61, zi_63, zi_64, zi_80, zi_96, zi_97, zi_99, zi_100, zi_122, zi_255, zi_256, zi_300, zi_398, zi_406, zi_900, zi_1000, zi_1024, zi_1624, zi_1662, zi_2030, zi_2031, zi_2068, zi_2258, zi_9999, zi_48, zi_57, zi_65536, zi_3257, zi_11483, zi_1000000, zi_729, zi_81, zi_m1, nI_add, pk_mul, nI_ltI, nI_leI, nI_eq, nI_clamp, zn_in, zn_sub1lt, zn_M, zn_Ml, zn_Mg, zn_Mle, zn_Mge, zn_sub, Nat.reduceAdd, Nat.reduceMul]
    refine ⟨fun g => absurd g (by omega), fun _ => su_good h hT hl hx hy hz tb (by omega) g1 ?_⟩
    refine su_left (l := l) (by omega) (h.2.2 0 (by omega)) (hl 0) hx (by omega) ?_
    refine su_left (l := l) (by omega) (h.2.2 1 (by omega)) (hl 1) hy (by omega) ?_
    refine su_left (l := l) (by omega) (h.2.2 2 (by omega)) (hl 2) hz (by omega) ?_
    rw [gr] at k
    generalize zfind (gr_P T (l 0) (l 1) (l 2) x y z) T = F at *
    have x0 := ga_lf_le (l 0) F x
    have x1 := ga_lf_le (l 1) F y
    have x2 := ga_lf_le (l 2) F z
    unfold gr_P at p2
    rw [beq_iff_eq] at p2
    exact ih _ _ _ (i + 1) _ (by omega) (by omega) (by omega) (by omega) (fun a b e a1 b1 c1 => tb a b e (by omega) (by omega) (by omega)) (by omega) (by omega) k
end
