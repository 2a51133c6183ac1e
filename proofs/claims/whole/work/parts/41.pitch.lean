/-! takings, pitch, bestPitch: both answer alike -/
def zsum (f : Nat → Nat) : Nat → Nat
  | 0 => 0
  | n + 1 => zsum f n + f n
theorem zsum_cong {f g : Nat → Nat} : ∀ {n : Nat}, (∀ i, i < n → f i = g i) → zsum f n = zsum g n
  | 0, _ => rfl
  | n + 1, h => by rw [zsum, zsum, zsum_cong (fun i hi => h i (by omega)), h n (by omega)]
theorem zsum_0 {f : Nat → Nat} : ∀ {n : Nat}, (∀ i, i < n → f i = 0) → zsum f n = 0
  | 0, _ => rfl
  | n + 1, h => by rw [zsum, zsum_0 (fun i hi => h i (by omega)), h n (by omega)]
theorem zsum_le {f : Nat → Nat} {b : Nat} : ∀ {n : Nat}, (∀ i, i < n → f i ≤ b) → zsum f n ≤ n * b
  | 0, _ => by simp [zsum]
  | n + 1, h => by
    have := zsum_le (fun i hi => h i (Nat.lt_succ_of_lt hi))
    have h2 := h n (by omega)
    rw [zsum, Nat.succ_mul]; omega
/-- what comes, if each hears so often -/
def sq_tot (q : Nat → Nat) (hd : Nat → Nat) (n : Nat) : Nat := zsum (fun h => min (q (12 + 4 * h)) (hd h - sq_far (q 0) (q (10 + 4 * h)) (q 6))) n
theorem sq_tot_s (q hd : Nat → Nat) (n : Nat) : sq_tot q hd (n + 1) = sq_tot q hd n + min (q (12 + 4 * n)) (hd n - sq_far (q 0) (q (10 + 4 * n)) (q 6)) := rfl
section
variable {q q' : Nat → Nat} {c d : Nat} {I I1 I2 : am_TI} {L : am_TL} {R : am_TR}
theorem sq_play_o (t : Nat) {i : Nat} (h : i < 8 ∨ i % 4 = 3 ∨ 34 ≤ i ∨ (i % 4 = 1 ∧ 13 ≤ i)) (h3 : q 3 ≤ 6) : sq_play q t i = q i := by
  unfold sq_play
  rw [zu_n (by omega), zu_n (by omega)]
  exact pl_o t _ (by omega)
theorem sq_play_at (t : Nat) {h : Nat} (hh : h < q 3) : sq_play q t (10 + 4 * h) = ph_at q t h := by
  unfold sq_play
  rw [zu_n (by omega), zu_n (by omega)]
  exact pl_at t _ hh
theorem sq_play_cn (t : Nat) {h : Nat} (hh : h < q 3) : sq_play q t (12 + 4 * h) = q (12 + 4 * h) - pl_g q t h := by
  unfold sq_play
  rw [zu_n (by omega), zu_n (by omega)]
  exact pl_cn t _ hh
theorem sq_tot_step (ok : sq_Ok q) (t : Nat) (hd : Nat → Nat) : ∀ n, n ≤ q 3 → pl_c q t n + sq_tot (sq_play q t) hd n = sq_tot q (fun h => hd h + if (q (11 + 4 * h)).testBit t = true then 1 else 0) n
  | 0, _ => rfl
  | n + 1, hn => by
    have ih := sq_tot_step ok t hd n (by omega)
    have o3 := ok.1.2.2.1
    unfold sq_tot at ih ⊢
    rw [zsum, zsum, pl_c, ← ih]
    clear ih
    have key : pl_g q t n + min (sq_play q t (12 + 4 * n)) (hd n - sq_far (sq_play q t 0) (sq_play q t (10 + 4 * n)) (sq_play q t 6)) = min (q (12 + 4 * n)) ((hd n + if (q (11 + 4 * n)).testBit t = true then 1 else 0) - sq_far (q 0) (q (10 + 4 * n)) (q 6)) := by
      rw [sq_play_o (i := 0) t (by omega) (by omega), sq_play_o (i := 6) t (by omega) (by omega), sq_play_at t (by omega), sq_play_cn t (by omega)]
      unfold ph_at pl_g
      by_cases g1 : (q (11 + 4 * n)).testBit t = true
      · by_cases g2 : q (10 + 4 * n) = q 6
        · have f0 : sq_far (q 0) (q (10 + 4 * n)) (q 6) = 0 := (sq_far_0 (q 0) (by have := ok.1.1; omega) _ (ok.at25 (by omega)) _ ok.or25 (by have := ok.1.1; omega)).mpr g2
          by_cases g3 : q (12 + 4 * n) = 0
          · simp only [g1, g2, g3, true_and, ne_eq, not_true_eq_false, if_false, and_false]
            omega
          · simp only [g1, g2, g3, true_and, ne_eq, not_true_eq_false, not_false_eq_true, if_true, if_false, and_false, and_self]
            rw [g2] at f0
            omega
        · have st := (ok.stepc (ok.2.1 n (by omega)).1 g2).2
          simp only [g1, g2, true_and, false_and, if_true, if_false, ne_eq, not_false_eq_true, and_self]
          omega
      · simp only [g1, false_and, if_false, Bool.false_eq_true]
        omega
    generalize zsum (fun h => min (sq_play q t (12 + 4 * h)) (hd h - sq_far (sq_play q t 0) (sq_play q t (10 + 4 * h)) (sq_play q t 6))) n = S
    simp only [] at key ⊢
    omega
theorem sm_keeps {to : Nat} (h1 : 38 ≤ to) (h2 : to + 38 ≤ 2258) {Q : am_TI → Prop} (k : ∀ I1, (∀ i, i < 38 → I1 104 (to + i) = I 104 i) → (∀ r s, (r ≠ 104 ∨ s < to ∨ to + 38 ≤ s) → I1 r s = I r s) → Q I1) : wp_M_keeps I L R 103 (nI to) Q := by
  refine (zl_up (P := fun f m => ∀ I1, (∀ i, i < m → I1 104 (to + i) = I 104 i) → (∀ r s, (r ≠ 104 ∨ s < to ∨ to + m ≤ s) → I1 r s = I r s) → wl_M_keeps_2 L R 103 (nI to) Q f I1 (nI m)) 38 (fun f I1 e1 e2 => ?_) (fun f m hm ih I1 e1 e2 => ?_) 0 (by omega)).elim fun z hz => ⟨z, hz I (fun i hi => absurd hi (by omega)) (fun _ _ _ => rfl)⟩
  · simp (disch := omega) only [wl_M_keeps_2, zi_0, zi_1, zi_2, zi_3, zi_4, zi_5, zi_6, zi_7, zi_8, zi_9, zi_10, zi_11, zi_12, zi_13, zi_14, zi_15, zi_16, zi_17, zi_18, zi_19, zi_20, zi_21, zi_22, zi_23, zi_24, zi_25, zi_26, zi_30, zi_31, zi_32, zi_34, zi_38, zi_59, zi_60, zi_61, zi_63, zi_64, zi_80, zi_96, zi_97, zi_99, zi_100, zi_122, zi_255, zi_256, zi_300, zi_398, zi_406, zi_900, zi_1000, zi_1024, zi_1624, zi_1662, zi_2030, zi_2031, zi_2068, zi_2258, zi_9999, zi_48, zi_57, zi_65536, zi_3257, zi_11483, zi_1000000, zi_729, zi_81, zi_m1, nI_add, pk_mul, nI_ltI, nI_leI, nI_eq, nI_clamp, zn_in, zn_sub1lt, zn_M, zn_Ml, zn_Mg, zn_Mle, zn_Mge, zn_sub, Nat.reduceAdd, Nat.reduceMul, forall_eq, true_imp_iff, false_imp_iff, and_true, true_and, not_true_eq_false, not_false_eq_true, reduceCtorEq, imp_self, eq_self, false_and, and_false, implies_true]
    exact ⟨fun _ => k I1 e1 e2, fun g => absurd (Nat.le_refl _) g⟩
  · simp (disch := omega) only [wl_M_keeps_2, zi_0, zi_1, zi_2, zi_3, zi_4, zi_5, zi_6, zi_7, zi_8, zi_9, zi_10, zi_11, zi_12, zi_13, zi_14, zi_15, zi_16, zi_17, zi_18, zi_19, zi_20, zi_21, zi_22, zi_23, zi_24, zi_25, zi_26, zi_30, zi_31, zi_32, zi_34, zi_38, zi_59, zi_60, zi_61, zi_63, zi_64, zi_80, zi_96, zi_97, zi_99, zi_100, zi_122, zi_255, zi_256, zi_300, zi_398, zi_406, zi_900, zi_1000, zi_1024, zi_1624, zi_1662, zi_2030, zi_2031, zi_2068, zi_2258, zi_9999, zi_48, zi_57, zi_65536, zi_3257, zi_11483, zi_1000000, zi_729, zi_81, zi_m1, nI_add, pk_mul, nI_ltI, nI_leI, nI_eq, nI_clamp, zn_in, zn_sub1lt, zn_M, zn_Ml, zn_Mg, zn_Mle, zn_Mge, zn_sub, Nat.reduceAdd, Nat.reduceMul, forall_eq, true_imp_iff, false_imp_iff, and_true, true_and, not_true_eq_false, not_false_eq_true, reduceCtorEq, imp_self, eq_self, false_and, and_false, implies_true]
    refine ⟨fun g => absurd g (by omega), fun _ => ⟨by omega, by omega, ih _ (fun i hi => ?_) (fun r s g => ?_)⟩⟩
    · by_cases e : i = m
      · subst e; rw [am_u2_at]; exact e2 104 i (by omega)
      · rw [am_u2_ne _ _ _ _ (by omega)]; exact e1 i (by omega)
    · have : ¬ (r = 104 ∧ s = to + m) := by omega
      unfold am_u2
      rw [if_neg this]; exact e2 r s (by omega)
theorem sm_restores {fm : Nat} (h1 : 38 ≤ fm) (h2 : fm + 38 ≤ 2258) {Q : am_TI → Prop} (k : ∀ I1, (∀ i, i < 38 → I1 104 i = I 104 (fm + i)) → fr_P I I1 → Q I1) : wp_M_restores I L R 103 (nI fm) Q := by
  refine (zl_up (P := fun f m => ∀ I1, (∀ i, i < m → I1 104 i = I 104 (fm + i)) → (∀ r s, (r ≠ 104 ∨ m ≤ s) → I1 r s = I r s) → wl_M_restores_2 L R 103 (nI fm) Q f I1 (nI m)) 38 (fun f I1 e1 e2 => ?_) (fun f m hm ih I1 e1 e2 => ?_) 0 (by omega)).elim fun z hz => ⟨z, hz I (fun i hi => absurd hi (by omega)) (fun _ _ _ => rfl)⟩
  · simp (disch := omega) only [wl_M_restores_2, zi_0, zi_1, zi_2, zi_3, zi_4, zi_5, zi_6, zi_7, zi_8, zi_9, zi_10, zi_11, zi_12, zi_13, zi_14, zi_15, zi_16, zi_17, zi_18, zi_19, zi_20, zi_21, zi_22, zi_23, zi_24, zi_25, zi_26, zi_30, zi_31, zi_32, zi_34, zi_38, zi_59, zi_60, zi_61, zi_63, zi_64, zi_80, zi_96, zi_97, zi_99, zi_100, zi_122, zi_255, zi_256, zi_300, zi_398, zi_406, zi_900, zi_1000, zi_1024, zi_1624, zi_1662, zi_2030, zi_2031, zi_2068, zi_2258, zi_9999, zi_48, zi_57, zi_65536, zi_3257, zi_11483, zi_1000000, zi_729, zi_81, zi_m1, nI_add, pk_mul, nI_ltI, nI_leI, nI_eq, nI_clamp, zn_in, zn_sub1lt, zn_M, zn_Ml, zn_Mg, zn_Mle, zn_Mge, zn_sub, Nat.reduceAdd, Nat.reduceMul, forall_eq, true_imp_iff, false_imp_iff, and_true, true_and, not_true_eq_false, not_false_eq_true, reduceCtorEq, imp_self, eq_self, false_and, and_false, implies_true]
    exact ⟨fun _ => k I1 e1 e2, fun g => absurd (Nat.le_refl _) g⟩
  · simp (disch := omega) only [wl_M_restores_2, zi_0, zi_1, zi_2, zi_3, zi_4, zi_5, zi_6, zi_7, zi_8, zi_9, zi_10, zi_11, zi_12, zi_13, zi_14, zi_15, zi_16, zi_17, zi_18, zi_19, zi_20, zi_21, zi_22, zi_23, zi_24, zi_25, zi_26, zi_30, zi_31, zi_32, zi_34, zi_38, zi_59, zi_60, zi_61, zi_63, zi_64, zi_80, zi_96, zi_97, zi_99, zi_100, zi_122, zi_255, zi_256, zi_300, zi_398, zi_406, zi_900, zi_1000, zi_1024, zi_1624, zi_1662, zi_2030, zi_2031, zi_2068, zi_2258, zi_9999, zi_48, zi_57, zi_65536, zi_3257, zi_11483, zi_1000000, zi_729, zi_81, zi_m1, nI_add, pk_mul, nI_ltI, nI_leI, nI_eq, nI_clamp, zn_in, zn_sub1lt, zn_M, zn_Ml, zn_Mg, zn_Mle, zn_Mge, zn_sub, Nat.reduceAdd, Nat.reduceMul, forall_eq, true_imp_iff, false_imp_iff, and_true, true_and, not_true_eq_false, not_false_eq_true, reduceCtorEq, imp_self, eq_self, false_and, and_false, implies_true]
    refine ⟨fun g => absurd g (by omega), fun _ => ⟨by omega, by omega, ih _ (fun i hi => ?_) (fun r s g => ?_)⟩⟩
    · by_cases e : i = m
      · subst e; rw [am_u2_at]; exact e2 104 _ (by omega)
      · rw [am_u2_ne _ _ _ _ (by omega)]; exact e1 i (by omega)
    · have : ¬ (r = 104 ∧ s = m) := by omega
      unfold am_u2
      rw [if_neg this]; exact e2 r s (by omega)
/-- what comes by n plays of a tune from a cell -/
def sq_cf (q : Nat → Nat) (x t n : Nat) : Nat := sq_tot (zu q 6 x) (fun h => if (q (11 + 4 * h)).testBit t = true then n else 0) (q 3)
theorem zn_max0 {n f : Nat} (hn : n < 2 ^ 30) (hf : f < 2 ^ 30) : am_max (nI 0) (nI n - nI f) = nI (n - f) := by
  unfold am_max
  by_cases g : f ≤ n
  · simp only [zn_sub g, nI_ltI (show 0 < 2 ^ 31 by omega) (show n - f < 2 ^ 31 by omega)]
    split
    · rfl
    · rw [show n - f = 0 by omega]
  · rw [if_neg, show n - f = 0 by omega]
    rw [ze_lt, pk_sub_toInt hn hf]
    have : (nI 0).toInt = 0 := by decide
    omega
theorem sq_cf_le (ok : sq_Ok q) (x t n : Nat) : sq_cf q x t n ≤ 594 := by
  have o3 := ok.1.2.2.1
  unfold sq_cf sq_tot
  refine Nat.le_trans (zsum_le (n := q 3) (b := 99) (fun i hi => ?_)) (Nat.le_trans (Nat.mul_le_mul_right 99 (show q 3 ≤ 6 by omega)) (by omega))
  have := (ok.2.1 i hi).2.2.1
  refine Nat.le_trans (Nat.min_le_left _ _) ?_
  rw [zu_n (by omega)]
  exact this
theorem su_cf (h : sq_U q c d I L) (ok : sq_Ok q) {x t n : Nat} (hx : x < 25) (ht : t < 31) (hn : n < 1000) {Q : Int32 → Prop} (k : Q (nI (sq_cf q x t n))) : wp_Square_coinsFrom I L R c (nI x) (nI t) (nI n) Q := by
  have o := ok.1.2.2.1
  refine zl_up (P := fun f m => wl_Square_coinsFrom_6 I L R c (nI x) (nI t) (nI n) Q f (nI (sq_tot (zu q 6 x) (fun h => if (q (11 + 4 * h)).testBit t = true then n else 0) m)) (nI m)) (q 3) (fun f => ?_) (fun f m hm ih => ?_) 0 (by omega)
  · simp (disch := omega) only [wl_Square_coinsFrom_6, h.n3, zi_0, zi_1, zi_2, zi_3, zi_4, zi_5, zi_6, zi_7, zi_8, zi_9, zi_10, zi_11, zi_12, zi_13, zi_14, zi_15, zi_16, zi_17, zi_18, zi_19, zi_20, zi_21, zi_22, zi_23, zi_24, zi_25, zi_26, zi_30, zi_31, zi_32, zi_34, zi_38, zi_59, zi_60, zi_61, zi_63, zi_64, zi_80, zi_96, zi_97, zi_99, zi_100, zi_122, zi_255, zi_256, zi_300, zi_398, zi_406, zi_900, zi_1000, zi_1024, zi_1624, zi_1662, zi_2030, zi_2031, zi_2068, zi_2258, zi_9999, zi_48, zi_57, zi_65536, zi_3257, zi_11483, zi_1000000, zi_729, zi_81, zi_m1, nI_add, pk_mul, nI_ltI, nI_leI, nI_eq, nI_clamp, zn_in, zn_sub1lt, zn_M, zn_Ml, zn_Mg, zn_Mle, zn_Mge, zn_sub, Nat.reduceAdd, Nat.reduceMul, forall_eq, true_imp_iff, false_imp_iff, and_true, true_and, not_true_eq_false, not_false_eq_true, reduceCtorEq, imp_self, eq_self, false_and, and_false, implies_true]
    exact ⟨fun _ => k, fun g => absurd (Nat.le_refl _) g⟩
  · have lk := ok.lk31 hm
    have f50 := ok.far50 (ok.at25 hm) hx
    have c99 := (ok.2.1 m hm).2.2.1
    rw [show sq_tot (zu q 6 x) (fun h => if (q (11 + 4 * h)).testBit t = true then n else 0) (m + 1) = sq_tot (zu q 6 x) (fun h => if (q (11 + 4 * h)).testBit t = true then n else 0) m + min (q (12 + 4 * m)) ((if (q (11 + 4 * m)).testBit t = true then n else 0) - sq_far (q 0) (q (10 + 4 * m)) x) from by rw [sq_tot_s, zu_n (i := 12 + 4 * m) (by omega), zu_n (i := 0) (by omega), zu_n (i := 10 + 4 * m) (by omega), zu_s]] at ih
    simp (disch := omega) only [wl_Square_coinsFrom_6, wp_Square_doesLike, h.n3, h.lk hm, h.at hm, h.cn hm, zn_bit, zi_0, zi_1, zi_2, zi_3, zi_4, zi_5, zi_6, zi_7, zi_8, zi_9, zi_10, zi_11, zi_12, zi_13, zi_14, zi_15, zi_16, zi_17, zi_18, zi_19, zi_20, zi_21, zi_22, zi_23, zi_24, zi_25, zi_26, zi_30, zi_31, zi_32, zi_34, zi_38, zi_59, zi_60, zi_61, zi_63, zi_64, zi_80, zi_96, zi_97, zi_99, zi_100, zi_122, zi_255, zi_256, zi_300, zi_398, zi_406, zi_900, zi_1000, zi_1024, zi_1624, zi_1662, zi_2030, zi_2031, zi_2068, zi_2258, zi_9999, zi_48, zi_57, zi_65536, zi_3257, zi_11483, zi_1000000, zi_729, zi_81, zi_m1, nI_add, pk_mul, nI_ltI, nI_leI, nI_eq, nI_clamp, zn_in, zn_sub1lt, zn_M, zn_Ml, zn_Mg, zn_Mle, zn_Mge, zn_sub, Nat.reduceAdd, Nat.reduceMul, forall_eq, true_imp_iff, false_imp_iff, and_true, true_and, not_true_eq_false, not_false_eq_true, reduceCtorEq, imp_self, eq_self, false_and, and_false, implies_true]
    refine ⟨fun g => absurd g (by omega), fun _ => ⟨by omega, fun g => ⟨by omega, by omega, ?_⟩, fun g => ?_⟩⟩
    · refine su_far h ok (ok.at25 hm) hx ?_
      simp (disch := omega) only [zn_max0, zn_min, zi_0, zi_1, zi_2, zi_3, zi_4, zi_5, zi_6, zi_7, zi_8, zi_9, zi_10, zi_11, zi_12, zi_13, zi_14, zi_15, zi_16, zi_17, zi_18, zi_19, zi_20, zi_21, zi_22, zi_23, zi_24, zi_25, zi_26, zi_30, zi_31, zi_32, zi_34, zi_38, zi_59, zi_60, zi_61, zi_63, zi_64, zi_80, zi_96, zi_97, zi_99, zi_100, zi_122, zi_255, zi_256, zi_300, zi_398, zi_406, zi_900, zi_1000, zi_1024, zi_1624, zi_1662, zi_2030, zi_2031, zi_2068, zi_2258, zi_9999, zi_48, zi_57, zi_65536, zi_3257, zi_11483, zi_1000000, zi_729, zi_81, zi_m1, nI_add, pk_mul, nI_ltI, nI_leI, nI_eq, nI_clamp, zn_in, zn_sub1lt, zn_M, zn_Ml, zn_Mg, zn_Mle, zn_Mge, zn_sub, Nat.reduceAdd, Nat.reduceMul, forall_eq, true_imp_iff, false_imp_iff, and_true, true_and, not_true_eq_false, not_false_eq_true, reduceCtorEq, imp_self, eq_self, false_and, and_false, implies_true]
      rw [if_pos g] at ih
      exact ih
    · rw [if_neg g, Nat.zero_sub, Nat.min_zero, Nat.add_zero] at ih
      exact ih
theorem sm_cf (h : sq_M q 0 I L) (ok : sq_Ok q) {x t n : Nat} (hx : x < q 0 * q 1) (ht : t < 31) (hn : n < 1000) {Q : Int32 → am_TI → Prop} (k : ∀ I1, sq_M q 0 I1 L → fr_M I I1 → Q (nI (sq_cf q x t n)) I1) : wp_M_comesBy I L R 103 (nI x) (nI t) (nI n) Q := by
  have o3 := ok.1.2.2.1
  simp (disch := omega) only [wp_M_comesBy, zi_0, zi_1, zi_2, zi_3, zi_4, zi_5, zi_6, zi_7, zi_8, zi_9, zi_10, zi_11, zi_12, zi_13, zi_14, zi_15, zi_16, zi_17, zi_18, zi_19, zi_20, zi_21, zi_22, zi_23, zi_24, zi_25, zi_26, zi_30, zi_31, zi_32, zi_34, zi_38, zi_59, zi_60, zi_61, zi_63, zi_64, zi_80, zi_96, zi_97, zi_99, zi_100, zi_122, zi_255, zi_256, zi_300, zi_398, zi_406, zi_900, zi_1000, zi_1024, zi_1624, zi_1662, zi_2030, zi_2031, zi_2068, zi_2258, zi_9999, zi_48, zi_57, zi_65536, zi_3257, zi_11483, zi_1000000, zi_729, zi_81, zi_m1, nI_add, pk_mul, nI_ltI, nI_leI, nI_eq, nI_clamp, zn_in, zn_sub1lt, zn_M, zn_Ml, zn_Mg, zn_Mle, zn_Mge, zn_sub, Nat.reduceAdd, Nat.reduceMul, forall_eq, true_imp_iff, false_imp_iff, and_true, true_and, not_true_eq_false, not_false_eq_true, reduceCtorEq, imp_self, eq_self, false_and, and_false, implies_true]
  refine sm_keeps (by omega) (by omega) (fun I1 e1 e2 => ?_)
  have h1 : sq_M q 0 I1 L := h.keep (fun k _ hk => e2 104 k (by omega)) rfl ok.2.2.2.2.1
  have h2 := h1.put (k := 6) (by omega) (by omega) (by omega) x
  have ok2 : sq_Ok (zu q 6 x) := ok.put x (by omega)
  have e3 : zu q 6 x 3 = q 3 := zu_n (by omega)
  refine (zl_up (P := fun f m => ∀ I3 acc qm, sq_M qm 0 I3 L → sq_Ok qm → qm 3 = q 3 → (∀ h, h < q 3 → qm (11 + 4 * h) = q (11 + 4 * h)) → fr_P (am_u2 I1 104 6 (nI x)) I3 → acc + sq_tot qm (fun h => if (q (11 + 4 * h)).testBit t = true then n - m else 0) (q 3) = sq_cf q x t n → wl_M_comesBy_21 L R 103 (nI x) (nI t) (nI n) Q f I3 (nI acc) (nI m)) n (fun f I3 acc qm hq okq q3 ql f3 ea => ?_) (fun f m hm ih I3 acc qm hq okq q3 ql f3 ea => ?_) 0 (by omega)).elim fun z hz => ⟨z, hz _ 0 (zu q 6 x) h2 ok2 e3 (fun h hh => zu_n (by omega)) fr_P.rfl (by rw [Nat.zero_add, sq_cf, Nat.sub_zero])⟩
  · have e0 : sq_tot qm (fun h => if (q (11 + 4 * h)).testBit t = true then n - n else 0) (q 3) = 0 := by
      unfold sq_tot
      apply zsum_0
      intro i _
      dsimp only
      rw [Nat.sub_self, ite_self, Nat.zero_sub, Nat.min_zero]
    rw [e0, Nat.add_zero] at ea
    simp (disch := omega) only [wl_M_comesBy_21, zi_0, zi_1, zi_2, zi_3, zi_4, zi_5, zi_6, zi_7, zi_8, zi_9, zi_10, zi_11, zi_12, zi_13, zi_14, zi_15, zi_16, zi_17, zi_18, zi_19, zi_20, zi_21, zi_22, zi_23, zi_24, zi_25, zi_26, zi_30, zi_31, zi_32, zi_34, zi_38, zi_59, zi_60, zi_61, zi_63, zi_64, zi_80, zi_96, zi_97, zi_99, zi_100, zi_122, zi_255, zi_256, zi_300, zi_398, zi_406, zi_900, zi_1000, zi_1024, zi_1624, zi_1662, zi_2030, zi_2031, zi_2068, zi_2258, zi_9999, zi_48, zi_57, zi_65536, zi_3257, zi_11483, zi_1000000, zi_729, zi_81, zi_m1, nI_add, pk_mul, nI_ltI, nI_leI, nI_eq, nI_clamp, zn_in, zn_sub1lt, zn_M, zn_Ml, zn_Mg, zn_Mle, zn_Mge, zn_sub, Nat.reduceAdd, Nat.reduceMul, forall_eq, true_imp_iff, false_imp_iff, and_true, true_and, not_true_eq_false, not_false_eq_true, reduceCtorEq, imp_self, eq_self, false_and, and_false, implies_true]
    refine ⟨fun _ => ?_, fun g => absurd (Nat.le_refl _) g⟩
    refine sm_restores (by omega) (by omega) (fun I4 e4 e5 => ?_)
    rw [ea]
    have key : ∀ r s, (r ≠ 104 ∨ s < 2030 ∨ 2068 ≤ s) → I4 r s = I r s := by
      intro r s g
      by_cases hs : r = 104 ∧ s < 38
      · obtain ⟨rfl, hs⟩ := hs
        rw [e4 s hs, f3 104 (2030 + s) (by omega), am_u2_ne _ _ _ _ (by omega), e1 s hs]
      · rw [e5 r s (by omega), f3 r s (by omega)]
        unfold am_u2
        rw [if_neg (by omega)]; exact e2 r s (by omega)
    refine k I4 (h.keep (fun k _ hk => key 104 k (by omega)) rfl ok.2.2.2.2.1) (fun r s g => key r s (by omega))
  · simp (disch := omega) only [wl_M_comesBy_21, zi_0, zi_1, zi_2, zi_3, zi_4, zi_5, zi_6, zi_7, zi_8, zi_9, zi_10, zi_11, zi_12, zi_13, zi_14, zi_15, zi_16, zi_17, zi_18, zi_19, zi_20, zi_21, zi_22, zi_23, zi_24, zi_25, zi_26, zi_30, zi_31, zi_32, zi_34, zi_38, zi_59, zi_60, zi_61, zi_63, zi_64, zi_80, zi_96, zi_97, zi_99, zi_100, zi_122, zi_255, zi_256, zi_300, zi_398, zi_406, zi_900, zi_1000, zi_1024, zi_1624, zi_1662, zi_2030, zi_2031, zi_2068, zi_2258, zi_9999, zi_48, zi_57, zi_65536, zi_3257, zi_11483, zi_1000000, zi_729, zi_81, zi_m1, nI_add, pk_mul, nI_ltI, nI_leI, nI_eq, nI_clamp, zn_in, zn_sub1lt, zn_M, zn_Ml, zn_Mg, zn_Mle, zn_Mge, zn_sub, Nat.reduceAdd, Nat.reduceMul, forall_eq, true_imp_iff, false_imp_iff, and_true, true_and, not_true_eq_false, not_false_eq_true, reduceCtorEq, imp_self, eq_self, false_and, and_false, implies_true]
    refine ⟨fun g => absurd g (by omega), fun _ => ?_⟩
    refine sm_plays hq okq ht (fun I4 h4 f4 => ?_)
    rw [nI_add]
    refine ih I4 _ (sq_play qm t) h4 (sq_play_ok okq t) ?_ (fun h hh => ?_) (f3.trans f4) ?_
    · rw [sq_play_o t (by omega) (by omega), q3]
    · rw [sq_play_o t (by omega) (by omega), ql h hh]
    · have st := sq_tot_step okq t (fun h => if (q (11 + 4 * h)).testBit t = true then n - (m + 1) else 0) (q 3) (by omega)
      rw [q3, Nat.add_assoc, st, ← ea]
      congr 1
      unfold sq_tot
      apply zsum_cong
      intro i hi
      dsimp only
      rw [ql i hi]
      congr 2
      split <;> omega
theorem op_pitch (ok : sq_Ok q) (p1 p2 p3 : Int32) : si_I q (fun I L R Q => wp_U_pitch I L R 0 p1 p2 p3 Q) (fun I L R Q => wp_M_pitch I L R 103 p1 p2 p3 Q) := by
  have o := ok.cells
  have o3 := ok.1.2.2.1
  rcases zc p1 with hp | ⟨j, hj, rfl⟩
  · refine ⟨nM, 1, q, ok, ?_, ?_⟩
    · intro c d I L R hcd h hc hd hz Q K
      simp (disch := omega) only [wp_U_pitch, wb_U_pitch_32, wp_Square_hasCell, wp_Square_cells, wp_Square_hasTune, wp_U_within, wp_U_refused, wp_U_answered, hc, h.n0, h.n1, h.n2, hp, zi_0, zi_1, zi_2, zi_3, zi_4, zi_5, zi_6, zi_7, zi_8, zi_9, zi_10, zi_11, zi_12, zi_13, zi_14, zi_15, zi_16, zi_17, zi_18, zi_19, zi_20, zi_21, zi_22, zi_23, zi_24, zi_25, zi_26, zi_30, zi_31, zi_32, zi_34, zi_38, zi_59, zi_60, zi_61, zi_63, zi_64, zi_80, zi_96, zi_97, zi_99, zi_100, zi_122, zi_255, zi_256, zi_300, zi_398, zi_406, zi_900, zi_1000, zi_1024, zi_1624, zi_1662, zi_2030, zi_2031, zi_2068, zi_2258, zi_9999, zi_48, zi_57, zi_65536, zi_3257, zi_11483, zi_1000000, zi_729, zi_81, zi_m1, nI_add, pk_mul, nI_ltI, nI_leI, nI_eq, nI_clamp, zn_in, zn_sub1lt, zn_M, zn_Ml, zn_Mg, zn_Mle, zn_Mge, zn_sub, Nat.reduceAdd, Nat.reduceMul, forall_eq, true_imp_iff, false_imp_iff, and_true, true_and, not_true_eq_false, not_false_eq_true, reduceCtorEq, imp_self, eq_self, false_and, and_false, implies_true]
      exact K _ (po_U.q0 h hcd _)
    · intro I L R h Q K
      simp (disch := omega) only [wp_M_pitch, wb_M_pitch_17, wp_M_isPlay, wp_M_isCell, wp_M_cellsOf, wp_M_isTune, wp_M_isFrom, wp_M_gives, wp_M_refuse, h.n0, h.n1, h.n2, zj_0, zj_1, zj_2, zj_4, zj_6, zj_7, zj_8, zj_16, zj_20, zj_60, zj_63, zj_64, zj_99, zj_9999, nI_l, zk_lt, zk_le, zk_eq, zk_add, zk_in, hp, zc_e hp, zi_0, zi_1, zi_2, zi_3, zi_4, zi_5, zi_6, zi_7, zi_8, zi_9, zi_10, zi_11, zi_12, zi_13, zi_14, zi_15, zi_16, zi_17, zi_18, zi_19, zi_20, zi_21, zi_22, zi_23, zi_24, zi_25, zi_26, zi_30, zi_31, zi_32, zi_34, zi_38, zi_59, zi_60, zi_61, zi_63, zi_64, zi_80, zi_96, zi_97, zi_99, zi_100, zi_122, zi_255, zi_256, zi_300, zi_398, zi_406, zi_900, zi_1000, zi_1024, zi_1624, zi_1662, zi_2030, zi_2031, zi_2068, zi_2258, zi_9999, zi_48, zi_57, zi_65536, zi_3257, zi_11483, zi_1000000, zi_729, zi_81, zi_m1, nI_add, pk_mul, nI_ltI, nI_leI, nI_eq, nI_clamp, zn_in, zn_sub1lt, zn_M, zn_Ml, zn_Mg, zn_Mle, zn_Mge, zn_sub, Nat.reduceAdd, Nat.reduceMul, forall_eq, true_imp_iff, false_imp_iff, and_true, true_and, not_true_eq_false, not_false_eq_true, reduceCtorEq, imp_self, eq_self, false_and, and_false, implies_true]
      exact K _ (po_M.q0 h ok _)
  by_cases g : q 0 * q 1 ≤ j
  · refine ⟨nM, 1, q, ok, ?_, ?_⟩
    · intro c d I L R hcd h hc hd hz Q K
      simp (disch := omega) only [wp_U_pitch, wb_U_pitch_32, wp_Square_hasCell, wp_Square_cells, wp_Square_hasTune, wp_U_within, wp_U_refused, wp_U_answered, hc, h.n0, h.n1, h.n2, zi_0, zi_1, zi_2, zi_3, zi_4, zi_5, zi_6, zi_7, zi_8, zi_9, zi_10, zi_11, zi_12, zi_13, zi_14, zi_15, zi_16, zi_17, zi_18, zi_19, zi_20, zi_21, zi_22, zi_23, zi_24, zi_25, zi_26, zi_30, zi_31, zi_32, zi_34, zi_38, zi_59, zi_60, zi_61, zi_63, zi_64, zi_80, zi_96, zi_97, zi_99, zi_100, zi_122, zi_255, zi_256, zi_300, zi_398, zi_406, zi_900, zi_1000, zi_1024, zi_1624, zi_1662, zi_2030, zi_2031, zi_2068, zi_2258, zi_9999, zi_48, zi_57, zi_65536, zi_3257, zi_11483, zi_1000000, zi_729, zi_81, zi_m1, nI_add, pk_mul, nI_ltI, nI_leI, nI_eq, nI_clamp, zn_in, zn_sub1lt, zn_M, zn_Ml, zn_Mg, zn_Mle, zn_Mge, zn_sub, Nat.reduceAdd, Nat.reduceMul, forall_eq, true_imp_iff, false_imp_iff, and_true, true_and, not_true_eq_false, not_false_eq_true, reduceCtorEq, imp_self, eq_self, false_and, and_false, implies_true]
      repeat' (first | omega | with_reducible refine And.intro ?_ ?_ | with_reducible intro g)
      exact K _ (po_U.q0 h hcd _)
    · intro I L R h Q K
      simp (disch := omega) only [wp_M_pitch, wb_M_pitch_17, wp_M_isPlay, wp_M_isCell, wp_M_cellsOf, wp_M_isTune, wp_M_isFrom, wp_M_gives, wp_M_refuse, h.n0, h.n1, h.n2, zj_0, zj_1, zj_2, zj_4, zj_6, zj_7, zj_8, zj_16, zj_20, zj_60, zj_63, zj_64, zj_99, zj_9999, nI_l, zk_lt, zk_le, zk_eq, zk_add, zk_in, zi_0, zi_1, zi_2, zi_3, zi_4, zi_5, zi_6, zi_7, zi_8, zi_9, zi_10, zi_11, zi_12, zi_13, zi_14, zi_15, zi_16, zi_17, zi_18, zi_19, zi_20, zi_21, zi_22, zi_23, zi_24, zi_25, zi_26, zi_30, zi_31, zi_32, zi_34, zi_38, zi_59, zi_60, zi_61, zi_63, zi_64, zi_80, zi_96, zi_97, zi_99, zi_100, zi_122, zi_255, zi_256, zi_300, zi_398, zi_406, zi_900, zi_1000, zi_1024, zi_1624, zi_1662, zi_2030, zi_2031, zi_2068, zi_2258, zi_9999, zi_48, zi_57, zi_65536, zi_3257, zi_11483, zi_1000000, zi_729, zi_81, zi_m1, nI_add, pk_mul, nI_ltI, nI_leI, nI_eq, nI_clamp, zn_in, zn_sub1lt, zn_M, zn_Ml, zn_Mg, zn_Mle, zn_Mge, zn_sub, Nat.reduceAdd, Nat.reduceMul, forall_eq, true_imp_iff, false_imp_iff, and_true, true_and, not_true_eq_false, not_false_eq_true, reduceCtorEq, imp_self, eq_self, false_and, and_false, implies_true]
      repeat' (first | omega | with_reducible refine And.intro ?_ ?_ | with_reducible intro g)
      exact K _ (po_M.q0 h ok _)
  rcases zc p2 with hp | ⟨t, ht, rfl⟩
  · refine ⟨nM, 1, q, ok, ?_, ?_⟩
    · intro c d I L R hcd h hc hd hz Q K
      simp (disch := omega) only [wp_U_pitch, wb_U_pitch_32, wp_Square_hasCell, wp_Square_cells, wp_Square_hasTune, wp_U_within, wp_U_refused, wp_U_answered, hc, h.n0, h.n1, h.n2, hp, zi_0, zi_1, zi_2, zi_3, zi_4, zi_5, zi_6, zi_7, zi_8, zi_9, zi_10, zi_11, zi_12, zi_13, zi_14, zi_15, zi_16, zi_17, zi_18, zi_19, zi_20, zi_21, zi_22, zi_23, zi_24, zi_25, zi_26, zi_30, zi_31, zi_32, zi_34, zi_38, zi_59, zi_60, zi_61, zi_63, zi_64, zi_80, zi_96, zi_97, zi_99, zi_100, zi_122, zi_255, zi_256, zi_300, zi_398, zi_406, zi_900, zi_1000, zi_1024, zi_1624, zi_1662, zi_2030, zi_2031, zi_2068, zi_2258, zi_9999, zi_48, zi_57, zi_65536, zi_3257, zi_11483, zi_1000000, zi_729, zi_81, zi_m1, nI_add, pk_mul, nI_ltI, nI_leI, nI_eq, nI_clamp, zn_in, zn_sub1lt, zn_M, zn_Ml, zn_Mg, zn_Mle, zn_Mge, zn_sub, Nat.reduceAdd, Nat.reduceMul, forall_eq, true_imp_iff, false_imp_iff, and_true, true_and, not_true_eq_false, not_false_eq_true, reduceCtorEq, imp_self, eq_self, false_and, and_false, implies_true]
      repeat' (first | omega | with_reducible refine And.intro ?_ ?_ | with_reducible intro g)
      exact K _ (po_U.q0 h hcd _)
    · intro I L R h Q K
      simp (disch := omega) only [wp_M_pitch, wb_M_pitch_17, wp_M_isPlay, wp_M_isCell, wp_M_cellsOf, wp_M_isTune, wp_M_isFrom, wp_M_gives, wp_M_refuse, h.n0, h.n1, h.n2, zj_0, zj_1, zj_2, zj_4, zj_6, zj_7, zj_8, zj_16, zj_20, zj_60, zj_63, zj_64, zj_99, zj_9999, nI_l, zk_lt, zk_le, zk_eq, zk_add, zk_in, hp, zc_e hp, zi_0, zi_1, zi_2, zi_3, zi_4, zi_5, zi_6, zi_7, zi_8, zi_9, zi_10, zi_11, zi_12, zi_13, zi_14, zi_15, zi_16, zi_17, zi_18, zi_19, zi_20, zi_21, zi_22, zi_23, zi_24, zi_25, zi_26, zi_30, zi_31, zi_32, zi_34, zi_38, zi_59, zi_60, zi_61, zi_63, zi_64, zi_80, zi_96, zi_97, zi_99, zi_100, zi_122, zi_255, zi_256, zi_300, zi_398, zi_406, zi_900, zi_1000, zi_1024, zi_1624, zi_1662, zi_2030, zi_2031, zi_2068, zi_2258, zi_9999, zi_48, zi_57, zi_65536, zi_3257, zi_11483, zi_1000000, zi_729, zi_81, zi_m1, nI_add, pk_mul, nI_ltI, nI_leI, nI_eq, nI_clamp, zn_in, zn_sub1lt, zn_M, zn_Ml, zn_Mg, zn_Mle, zn_Mge, zn_sub, Nat.reduceAdd, Nat.reduceMul, forall_eq, true_imp_iff, false_imp_iff, and_true, true_and, not_true_eq_false, not_false_eq_true, reduceCtorEq, imp_self, eq_self, false_and, and_false, implies_true]
      repeat' (first | omega | with_reducible refine And.intro ?_ ?_ | with_reducible intro g)
      exact K _ (po_M.q0 h ok _)
  by_cases g1 : q 2 ≤ t
  · refine ⟨nM, 1, q, ok, ?_, ?_⟩
    · intro c d I L R hcd h hc hd hz Q K
      simp (disch := omega) only [wp_U_pitch, wb_U_pitch_32, wp_Square_hasCell, wp_Square_cells, wp_Square_hasTune, wp_U_within, wp_U_refused, wp_U_answered, hc, h.n0, h.n1, h.n2, zi_0, zi_1, zi_2, zi_3, zi_4, zi_5, zi_6, zi_7, zi_8, zi_9, zi_10, zi_11, zi_12, zi_13, zi_14, zi_15, zi_16, zi_17, zi_18, zi_19, zi_20, zi_21, zi_22, zi_23, zi_24, zi_25, zi_26, zi_30, zi_31, zi_32, zi_34, zi_38, zi_59, zi_60, zi_61, zi_63, zi_64, zi_80, zi_96, zi_97, zi_99, zi_100, zi_122, zi_255, zi_256, zi_300, zi_398, zi_406, zi_900, zi_1000, zi_1024, zi_1624, zi_1662, zi_2030, zi_2031, zi_2068, zi_2258, zi_9999, zi_48, zi_57, zi_65536, zi_3257, zi_11483, zi_1000000, zi_729, zi_81, zi_m1, nI_add, pk_mul, nI_ltI, nI_leI, nI_eq, nI_clamp, zn_in, zn_sub1lt, zn_M, zn_Ml, zn_Mg, zn_Mle, zn_Mge, zn_sub, Nat.reduceAdd, Nat.reduceMul, forall_eq, true_imp_iff, false_imp_iff, and_true, true_and, not_true_eq_false, not_false_eq_true, reduceCtorEq, imp_self, eq_self, false_and, and_false, implies_true]
      repeat' (first | omega | with_reducible refine And.intro ?_ ?_ | with_reducible intro g)
      exact K _ (po_U.q0 h hcd _)
    · intro I L R h Q K
      simp (disch := omega) only [wp_M_pitch, wb_M_pitch_17, wp_M_isPlay, wp_M_isCell, wp_M_cellsOf, wp_M_isTune, wp_M_isFrom, wp_M_gives, wp_M_refuse, h.n0, h.n1, h.n2, zj_0, zj_1, zj_2, zj_4, zj_6, zj_7, zj_8, zj_16, zj_20, zj_60, zj_63, zj_64, zj_99, zj_9999, nI_l, zk_lt, zk_le, zk_eq, zk_add, zk_in, zi_0, zi_1, zi_2, zi_3, zi_4, zi_5, zi_6, zi_7, zi_8, zi_9, zi_10, zi_11, zi_12, zi_13, zi_14, zi_15, zi_16, zi_17, zi_18, zi_19, zi_20, zi_21, zi_22, zi_23, zi_24, zi_25, zi_26, zi_30, zi_31, zi_32, zi_34, zi_38, zi_59, zi_60, zi_61, zi_63, zi_64, zi_80, zi_96, zi_97, zi_99, zi_100, zi_122, zi_255, zi_256, zi_300, zi_398, zi_406, zi_900, zi_1000, zi_1024, zi_1624, zi_1662, zi_2030, zi_2031, zi_2068, zi_2258, zi_9999, zi_48, zi_57, zi_65536, zi_3257, zi_11483, zi_1000000, zi_729, zi_81, zi_m1, nI_add, pk_mul, nI_ltI, nI_leI, nI_eq, nI_clamp, zn_in, zn_sub1lt, zn_M, zn_Ml, zn_Mg, zn_Mle, zn_Mge, zn_sub, Nat.reduceAdd, Nat.reduceMul, forall_eq, true_imp_iff, false_imp_iff, and_true, true_and, not_true_eq_false, not_false_eq_true, reduceCtorEq, imp_self, eq_self, false_and, and_false, implies_true]
      repeat' (first | omega | with_reducible refine And.intro ?_ ?_ | with_reducible intro g)
      exact K _ (po_M.q0 h ok _)
  rcases zc p3 with hp | ⟨n, hn, rfl⟩
  · refine ⟨nM, 1, q, ok, ?_, ?_⟩
    · intro c d I L R hcd h hc hd hz Q K
      simp (disch := omega) only [wp_U_pitch, wb_U_pitch_32, wp_Square_hasCell, wp_Square_cells, wp_Square_hasTune, wp_U_within, wp_U_refused, wp_U_answered, hc, h.n0, h.n1, h.n2, hp, zi_0, zi_1, zi_2, zi_3, zi_4, zi_5, zi_6, zi_7, zi_8, zi_9, zi_10, zi_11, zi_12, zi_13, zi_14, zi_15, zi_16, zi_17, zi_18, zi_19, zi_20, zi_21, zi_22, zi_23, zi_24, zi_25, zi_26, zi_30, zi_31, zi_32, zi_34, zi_38, zi_59, zi_60, zi_61, zi_63, zi_64, zi_80, zi_96, zi_97, zi_99, zi_100, zi_122, zi_255, zi_256, zi_300, zi_398, zi_406, zi_900, zi_1000, zi_1024, zi_1624, zi_1662, zi_2030, zi_2031, zi_2068, zi_2258, zi_9999, zi_48, zi_57, zi_65536, zi_3257, zi_11483, zi_1000000, zi_729, zi_81, zi_m1, nI_add, pk_mul, nI_ltI, nI_leI, nI_eq, nI_clamp, zn_in, zn_sub1lt, zn_M, zn_Ml, zn_Mg, zn_Mle, zn_Mge, zn_sub, Nat.reduceAdd, Nat.reduceMul, forall_eq, true_imp_iff, false_imp_iff, and_true, true_and, not_true_eq_false, not_false_eq_true, reduceCtorEq, imp_self, eq_self, false_and, and_false, implies_true]
      repeat' (first | omega | with_reducible refine And.intro ?_ ?_ | with_reducible intro g)
      exact K _ (po_U.q0 h hcd _)
    · intro I L R h Q K
      simp (disch := omega) only [wp_M_pitch, wb_M_pitch_17, wp_M_isPlay, wp_M_isCell, wp_M_cellsOf, wp_M_isTune, wp_M_isFrom, wp_M_gives, wp_M_refuse, h.n0, h.n1, h.n2, zj_0, zj_1, zj_2, zj_4, zj_6, zj_7, zj_8, zj_16, zj_20, zj_60, zj_63, zj_64, zj_99, zj_9999, nI_l, zk_lt, zk_le, zk_eq, zk_add, zk_in, hp, zf_n hp, zi_0, zi_1, zi_2, zi_3, zi_4, zi_5, zi_6, zi_7, zi_8, zi_9, zi_10, zi_11, zi_12, zi_13, zi_14, zi_15, zi_16, zi_17, zi_18, zi_19, zi_20, zi_21, zi_22, zi_23, zi_24, zi_25, zi_26, zi_30, zi_31, zi_32, zi_34, zi_38, zi_59, zi_60, zi_61, zi_63, zi_64, zi_80, zi_96, zi_97, zi_99, zi_100, zi_122, zi_255, zi_256, zi_300, zi_398, zi_406, zi_900, zi_1000, zi_1024, zi_1624, zi_1662, zi_2030, zi_2031, zi_2068, zi_2258, zi_9999, zi_48, zi_57, zi_65536, zi_3257, zi_11483, zi_1000000, zi_729, zi_81, zi_m1, nI_add, pk_mul, nI_ltI, nI_leI, nI_eq, nI_clamp, zn_in, zn_sub1lt, zn_M, zn_Ml, zn_Mg, zn_Mle, zn_Mge, zn_sub, Nat.reduceAdd, Nat.reduceMul, forall_eq, true_imp_iff, false_imp_iff, and_true, true_and, not_true_eq_false, not_false_eq_true, reduceCtorEq, imp_self, eq_self, false_and, and_false, implies_true]
      repeat' (first | omega | with_reducible refine And.intro ?_ ?_ | with_reducible intro g)
      exact K _ (po_M.q0 h ok _)
  by_cases g2 : 20 < n
  · refine ⟨nM, 1, q, ok, ?_, ?_⟩
    · intro c d I L R hcd h hc hd hz Q K
      simp (disch := omega) only [wp_U_pitch, wb_U_pitch_32, wp_Square_hasCell, wp_Square_cells, wp_Square_hasTune, wp_U_within, wp_U_refused, wp_U_answered, hc, h.n0, h.n1, h.n2, zi_0, zi_1, zi_2, zi_3, zi_4, zi_5, zi_6, zi_7, zi_8, zi_9, zi_10, zi_11, zi_12, zi_13, zi_14, zi_15, zi_16, zi_17, zi_18, zi_19, zi_20, zi_21, zi_22, zi_23, zi_24, zi_25, zi_26, zi_30, zi_31, zi_32, zi_34, zi_38, zi_59, zi_60, zi_61, zi_63, zi_64, zi_80, zi_96, zi_97, zi_99, zi_100, zi_122, zi_255, zi_256, zi_300, zi_398, zi_406, zi_900, zi_1000, zi_1024, zi_1624, zi_1662, zi_2030, zi_2031, zi_2068, zi_2258, zi_9999, zi_48, zi_57, zi_65536, zi_3257, zi_11483, zi_1000000, zi_729, zi_81, zi_m1, nI_add, pk_mul, nI_ltI, nI_leI, nI_eq, nI_clamp, zn_in, zn_sub1lt, zn_M, zn_Ml, zn_Mg, zn_Mle, zn_Mge, zn_sub, Nat.reduceAdd, Nat.reduceMul, forall_eq, true_imp_iff, false_imp_iff, and_true, true_and, not_true_eq_false, not_false_eq_true, reduceCtorEq, imp_self, eq_self, false_and, and_false, implies_true]
      repeat' (first | omega | with_reducible refine And.intro ?_ ?_ | with_reducible intro g)
      exact K _ (po_U.q0 h hcd _)
    · intro I L R h Q K
      simp (disch := omega) only [wp_M_pitch, wb_M_pitch_17, wp_M_isPlay, wp_M_isCell, wp_M_cellsOf, wp_M_isTune, wp_M_isFrom, wp_M_gives, wp_M_refuse, h.n0, h.n1, h.n2, zj_0, zj_1, zj_2, zj_4, zj_6, zj_7, zj_8, zj_16, zj_20, zj_60, zj_63, zj_64, zj_99, zj_9999, nI_l, zk_lt, zk_le, zk_eq, zk_add, zk_in, zi_0, zi_1, zi_2, zi_3, zi_4, zi_5, zi_6, zi_7, zi_8, zi_9, zi_10, zi_11, zi_12, zi_13, zi_14, zi_15, zi_16, zi_17, zi_18, zi_19, zi_20, zi_21, zi_22, zi_23, zi_24, zi_25, zi_26, zi_30, zi_31, zi_32, zi_34, zi_38, zi_59, zi_60, zi_61, zi_63, zi_64, zi_80, zi_96, zi_97, zi_99, zi_100, zi_122, zi_255, zi_256, zi_300, zi_398, zi_406, zi_900, zi_1000, zi_1024, zi_1624, zi_1662, zi_2030, zi_2031, zi_2068, zi_2258, zi_9999, zi_48, zi_57, zi_65536, zi_3257, zi_11483, zi_1000000, zi_729, zi_81, zi_m1, nI_add, pk_mul, nI_ltI, nI_leI, nI_eq, nI_clamp, zn_in, zn_sub1lt, zn_M, zn_Ml, zn_Mg, zn_Mle, zn_Mge, zn_sub, Nat.reduceAdd, Nat.reduceMul, forall_eq, true_imp_iff, false_imp_iff, and_true, true_and, not_true_eq_false, not_false_eq_true, reduceCtorEq, imp_self, eq_self, false_and, and_false, implies_true]
      repeat' (first | omega | with_reducible refine And.intro ?_ ?_ | with_reducible intro g)
      exact K _ (po_M.q0 h ok _)
  refine ⟨nI (sq_cf q j t n), 0, q, ok, ?_, ?_⟩
  · intro c d I L R hcd h hc hd hz Q K
    simp (disch := omega) only [wp_U_pitch, wb_U_pitch_32, wp_Square_hasCell, wp_Square_cells, wp_Square_hasTune, wp_U_within, wp_U_refused, wp_U_answered, hc, h.n0, h.n1, h.n2, zi_0, zi_1, zi_2, zi_3, zi_4, zi_5, zi_6, zi_7, zi_8, zi_9, zi_10, zi_11, zi_12, zi_13, zi_14, zi_15, zi_16, zi_17, zi_18, zi_19, zi_20, zi_21, zi_22, zi_23, zi_24, zi_25, zi_26, zi_30, zi_31, zi_32, zi_34, zi_38, zi_59, zi_60, zi_61, zi_63, zi_64, zi_80, zi_96, zi_97, zi_99, zi_100, zi_122, zi_255, zi_256, zi_300, zi_398, zi_406, zi_900, zi_1000, zi_1024, zi_1624, zi_1662, zi_2030, zi_2031, zi_2068, zi_2258, zi_9999, zi_48, zi_57, zi_65536, zi_3257, zi_11483, zi_1000000, zi_729, zi_81, zi_m1, nI_add, pk_mul, nI_ltI, nI_leI, nI_eq, nI_clamp, zn_in, zn_sub1lt, zn_M, zn_Ml, zn_Mg, zn_Mle, zn_Mge, zn_sub, Nat.reduceAdd, Nat.reduceMul, forall_eq, true_imp_iff, false_imp_iff, and_true, true_and, not_true_eq_false, not_false_eq_true, reduceCtorEq, imp_self, eq_self, false_and, and_false, implies_true]
    repeat' (first | omega | with_reducible refine And.intro ?_ ?_ | with_reducible intro g)
    refine su_cf h ok (by omega) (by omega) (by omega) ?_
    exact K _ (po_U.q0 h hcd _)
  · intro I L R h Q K
    simp (disch := omega) only [wp_M_pitch, wb_M_pitch_17, wp_M_isPlay, wp_M_isCell, wp_M_cellsOf, wp_M_isTune, wp_M_isFrom, wp_M_gives, wp_M_refuse, h.n0, h.n1, h.n2, zj_0, zj_1, zj_2, zj_4, zj_6, zj_7, zj_8, zj_16, zj_20, zj_60, zj_63, zj_64, zj_99, zj_9999, nI_l, zk_lt, zk_le, zk_eq, zk_add, zk_in, zi_0, zi_1, zi_2, zi_3, zi_4, zi_5, zi_6, zi_7, zi_8, zi_9, zi_10, zi_11, zi_12, zi_13, zi_14, zi_15, zi_16, zi_17, zi_18, zi_19, zi_20, zi_21, zi_22, zi_23, zi_24, zi_25, zi_26, zi_30, zi_31, zi_32, zi_34, zi_38, zi_59, zi_60, zi_61, zi_63, zi_64, zi_80, zi_96, zi_97, zi_99, zi_100, zi_122, zi_255, zi_256, zi_300, zi_398, zi_406, zi_900, zi_1000, zi_1024, zi_1624, zi_1662, zi_2030, zi_2031, zi_2068, zi_2258, zi_9999, zi_48, zi_57, zi_65536, zi_3257, zi_11483, zi_1000000, zi_729, zi_81, zi_m1, nI_add, pk_mul, nI_ltI, nI_leI, nI_eq, nI_clamp, zn_in, zn_sub1lt, zn_M, zn_Ml, zn_Mg, zn_Mle, zn_Mge, zn_sub, Nat.reduceAdd, Nat.reduceMul, forall_eq, true_imp_iff, false_imp_iff, and_true, true_and, not_true_eq_false, not_false_eq_true, reduceCtorEq, imp_self, eq_self, false_and, and_false, implies_true]
    repeat' (first | omega | with_reducible refine And.intro ?_ ?_ | with_reducible intro g)
    refine sm_cf h ok (by omega) (by omega) (by omega) (fun I1 h1 f1 => ?_)
    exact K _ (po_M.of h1 ok f1 _)
theorem op_takings (ok : sq_Ok q) (p2 p3 : Int32) : si_I q (fun I L R Q => wp_U_takings I L R 0 p2 p3 Q) (fun I L R Q => wp_M_takings I L R 103 p2 p3 Q) := by
  have o := ok.cells
  have o3 := ok.1.2.2.1
  have o6 := ok.1.2.2.2.1
  rcases zc p2 with hp | ⟨t, ht, rfl⟩
  · refine ⟨nM, 1, q, ok, ?_, ?_⟩
    · intro c d I L R hcd h hc hd hz Q K
      simp (disch := omega) only [wp_U_takings, wp_U_pitch, wb_U_pitch_32, wp_Square_hasCell, wp_Square_cells, wp_Square_hasTune, wp_U_within, wp_U_refused, wp_U_answered, hc, h.n0, h.n1, h.n2, h.n6, hp, zi_0, zi_1, zi_2, zi_3, zi_4, zi_5, zi_6, zi_7, zi_8, zi_9, zi_10, zi_11, zi_12, zi_13, zi_14, zi_15, zi_16, zi_17, zi_18, zi_19, zi_20, zi_21, zi_22, zi_23, zi_24, zi_25, zi_26, zi_30, zi_31, zi_32, zi_34, zi_38, zi_59, zi_60, zi_61, zi_63, zi_64, zi_80, zi_96, zi_97, zi_99, zi_100, zi_122, zi_255, zi_256, zi_300, zi_398, zi_406, zi_900, zi_1000, zi_1024, zi_1624, zi_1662, zi_2030, zi_2031, zi_2068, zi_2258, zi_9999, zi_48, zi_57, zi_65536, zi_3257, zi_11483, zi_1000000, zi_729, zi_81, zi_m1, nI_add, pk_mul, nI_ltI, nI_leI, nI_eq, nI_clamp, zn_in, zn_sub1lt, zn_M, zn_Ml, zn_Mg, zn_Mle, zn_Mge, zn_sub, Nat.reduceAdd, Nat.reduceMul, forall_eq, true_imp_iff, false_imp_iff, and_true, true_and, not_true_eq_false, not_false_eq_true, reduceCtorEq, imp_self, eq_self, false_and, and_false, implies_true]
      repeat' (first | omega | with_reducible refine And.intro ?_ ?_ | with_reducible intro g)
      exact K _ (po_U.q0 h hcd _)
    · intro I L R h Q K
      simp (disch := omega) only [wp_M_takings, wp_M_isPlay, wp_M_isCell, wp_M_cellsOf, wp_M_isTune, wp_M_isFrom, wp_M_gives, wp_M_refuse, h.n0, h.n1, h.n2, zj_0, zj_1, zj_2, zj_4, zj_6, zj_7, zj_8, zj_16, zj_20, zj_60, zj_63, zj_64, zj_99, zj_9999, nI_l, zk_lt, zk_le, zk_eq, zk_add, zk_in, h.n6, hp, zc_e hp, zi_0, zi_1, zi_2, zi_3, zi_4, zi_5, zi_6, zi_7, zi_8, zi_9, zi_10, zi_11, zi_12, zi_13, zi_14, zi_15, zi_16, zi_17, zi_18, zi_19, zi_20, zi_21, zi_22, zi_23, zi_24, zi_25, zi_26, zi_30, zi_31, zi_32, zi_34, zi_38, zi_59, zi_60, zi_61, zi_63, zi_64, zi_80, zi_96, zi_97, zi_99, zi_100, zi_122, zi_255, zi_256, zi_300, zi_398, zi_406, zi_900, zi_1000, zi_1024, zi_1624, zi_1662, zi_2030, zi_2031, zi_2068, zi_2258, zi_9999, zi_48, zi_57, zi_65536, zi_3257, zi_11483, zi_1000000, zi_729, zi_81, zi_m1, nI_add, pk_mul, nI_ltI, nI_leI, nI_eq, nI_clamp, zn_in, zn_sub1lt, zn_M, zn_Ml, zn_Mg, zn_Mle, zn_Mge, zn_sub, Nat.reduceAdd, Nat.reduceMul, forall_eq, true_imp_iff, false_imp_iff, and_true, true_and, not_true_eq_false, not_false_eq_true, reduceCtorEq, imp_self, eq_self, false_and, and_false, implies_true]
      repeat' (first | omega | with_reducible refine And.intro ?_ ?_ | with_reducible intro g)
      exact K _ (po_M.q0 h ok _)
  by_cases g1 : q 2 ≤ t
  · refine ⟨nM, 1, q, ok, ?_, ?_⟩
    · intro c d I L R hcd h hc hd hz Q K
      simp (disch := omega) only [wp_U_takings, wp_U_pitch, wb_U_pitch_32, wp_Square_hasCell, wp_Square_cells, wp_Square_hasTune, wp_U_within, wp_U_refused, wp_U_answered, hc, h.n0, h.n1, h.n2, h.n6, zi_0, zi_1, zi_2, zi_3, zi_4, zi_5, zi_6, zi_7, zi_8, zi_9, zi_10, zi_11, zi_12, zi_13, zi_14, zi_15, zi_16, zi_17, zi_18, zi_19, zi_20, zi_21, zi_22, zi_23, zi_24, zi_25, zi_26, zi_30, zi_31, zi_32, zi_34, zi_38, zi_59, zi_60, zi_61, zi_63, zi_64, zi_80, zi_96, zi_97, zi_99, zi_100, zi_122, zi_255, zi_256, zi_300, zi_398, zi_406, zi_900, zi_1000, zi_1024, zi_1624, zi_1662, zi_2030, zi_2031, zi_2068, zi_2258, zi_9999, zi_48, zi_57, zi_65536, zi_3257, zi_11483, zi_1000000, zi_729, zi_81, zi_m1, nI_add, pk_mul, nI_ltI, nI_leI, nI_eq, nI_clamp, zn_in, zn_sub1lt, zn_M, zn_Ml, zn_Mg, zn_Mle, zn_Mge, zn_sub, Nat.reduceAdd, Nat.reduceMul, forall_eq, true_imp_iff, false_imp_iff, and_true, true_and, not_true_eq_false, not_false_eq_true, reduceCtorEq, imp_self, eq_self, false_and, and_false, implies_true]
      repeat' (first | omega | with_reducible refine And.intro ?_ ?_ | with_reducible intro g)
      exact K _ (po_U.q0 h hcd _)
    · intro I L R h Q K
      simp (disch := omega) only [wp_M_takings, wp_M_isPlay, wp_M_isCell, wp_M_cellsOf, wp_M_isTune, wp_M_isFrom, wp_M_gives, wp_M_refuse, h.n0, h.n1, h.n2, zj_0, zj_1, zj_2, zj_4, zj_6, zj_7, zj_8, zj_16, zj_20, zj_60, zj_63, zj_64, zj_99, zj_9999, nI_l, zk_lt, zk_le, zk_eq, zk_add, zk_in, h.n6, zi_0, zi_1, zi_2, zi_3, zi_4, zi_5, zi_6, zi_7, zi_8, zi_9, zi_10, zi_11, zi_12, zi_13, zi_14, zi_15, zi_16, zi_17, zi_18, zi_19, zi_20, zi_21, zi_22, zi_23, zi_24, zi_25, zi_26, zi_30, zi_31, zi_32, zi_34, zi_38, zi_59, zi_60, zi_61, zi_63, zi_64, zi_80, zi_96, zi_97, zi_99, zi_100, zi_122, zi_255, zi_256, zi_300, zi_398, zi_406, zi_900, zi_1000, zi_1024, zi_1624, zi_1662, zi_2030, zi_2031, zi_2068, zi_2258, zi_9999, zi_48, zi_57, zi_65536, zi_3257, zi_11483, zi_1000000, zi_729, zi_81, zi_m1, nI_add, pk_mul, nI_ltI, nI_leI, nI_eq, nI_clamp, zn_in, zn_sub1lt, zn_M, zn_Ml, zn_Mg, zn_Mle, zn_Mge, zn_sub, Nat.reduceAdd, Nat.reduceMul, forall_eq, true_imp_iff, false_imp_iff, and_true, true_and, not_true_eq_false, not_false_eq_true, reduceCtorEq, imp_self, eq_self, false_and, and_false, implies_true]
      repeat' (first | omega | with_reducible refine And.intro ?_ ?_ | with_reducible intro g)
      exact K _ (po_M.q0 h ok _)
  rcases zc p3 with hp | ⟨n, hn, rfl⟩
  · refine ⟨nM, 1, q, ok, ?_, ?_⟩
    · intro c d I L R hcd h hc hd hz Q K
      simp (disch := omega) only [wp_U_takings, wp_U_pitch, wb_U_pitch_32, wp_Square_hasCell, wp_Square_cells, wp_Square_hasTune, wp_U_within, wp_U_refused, wp_U_answered, hc, h.n0, h.n1, h.n2, h.n6, hp, zi_0, zi_1, zi_2, zi_3, zi_4, zi_5, zi_6, zi_7, zi_8, zi_9, zi_10, zi_11, zi_12, zi_13, zi_14, zi_15, zi_16, zi_17, zi_18, zi_19, zi_20, zi_21, zi_22, zi_23, zi_24, zi_25, zi_26, zi_30, zi_31, zi_32, zi_34, zi_38, zi_59, zi_60, zi_61, zi_63, zi_64, zi_80, zi_96, zi_97, zi_99, zi_100, zi_122, zi_255, zi_256, zi_300, zi_398, zi_406, zi_900, zi_1000, zi_1024, zi_1624, zi_1662, zi_2030, zi_2031, zi_2068, zi_2258, zi_9999, zi_48, zi_57, zi_65536, zi_3257, zi_11483, zi_1000000, zi_729, zi_81, zi_m1, nI_add, pk_mul, nI_ltI, nI_leI, nI_eq, nI_clamp, zn_in, zn_sub1lt, zn_M, zn_Ml, zn_Mg, zn_Mle, zn_Mge, zn_sub, Nat.reduceAdd, Nat.reduceMul, forall_eq, true_imp_iff, false_imp_iff, and_true, true_and, not_true_eq_false, not_false_eq_true, reduceCtorEq, imp_self, eq_self, false_and, and_false, implies_true]
      repeat' (first | omega | with_reducible refine And.intro ?_ ?_ | with_reducible intro g)
      exact K _ (po_U.q0 h hcd _)
    · intro I L R h Q K
      simp (disch := omega) only [wp_M_takings, wp_M_isPlay, wp_M_isCell, wp_M_cellsOf, wp_M_isTune, wp_M_isFrom, wp_M_gives, wp_M_refuse, h.n0, h.n1, h.n2, zj_0, zj_1, zj_2, zj_4, zj_6, zj_7, zj_8, zj_16, zj_20, zj_60, zj_63, zj_64, zj_99, zj_9999, nI_l, zk_lt, zk_le, zk_eq, zk_add, zk_in, h.n6, hp, zf_n hp, zi_0, zi_1, zi_2, zi_3, zi_4, zi_5, zi_6, zi_7, zi_8, zi_9, zi_10, zi_11, zi_12, zi_13, zi_14, zi_15, zi_16, zi_17, zi_18, zi_19, zi_20, zi_21, zi_22, zi_23, zi_24, zi_25, zi_26, zi_30, zi_31, zi_32, zi_34, zi_38, zi_59, zi_60, zi_61, zi_63, zi_64, zi_80, zi_96, zi_97, zi_99, zi_100, zi_122, zi_255, zi_256, zi_300, zi_398, zi_406, zi_900, zi_1000, zi_1024, zi_1624, zi_1662, zi_2030, zi_2031, zi_2068, zi_2258, zi_9999, zi_48, zi_57, zi_65536, zi_3257, zi_11483, zi_1000000, zi_729, zi_81, zi_m1, nI_add, pk_mul, nI_ltI, nI_leI, nI_eq, nI_clamp, zn_in, zn_sub1lt, zn_M, zn_Ml, zn_Mg, zn_Mle, zn_Mge, zn_sub, Nat.reduceAdd, Nat.reduceMul, forall_eq, true_imp_iff, false_imp_iff, and_true, true_and, not_true_eq_false, not_false_eq_true, reduceCtorEq, imp_self, eq_self, false_and, and_false, implies_true]
      repeat' (first | omega | with_reducible refine And.intro ?_ ?_ | with_reducible intro g)
      exact K _ (po_M.q0 h ok _)
  by_cases g2 : 20 < n
  · refine ⟨nM, 1, q, ok, ?_, ?_⟩
    · intro c d I L R hcd h hc hd hz Q K
      simp (disch := omega) only [wp_U_takings, wp_U_pitch, wb_U_pitch_32, wp_Square_hasCell, wp_Square_cells, wp_Square_hasTune, wp_U_within, wp_U_refused, wp_U_answered, hc, h.n0, h.n1, h.n2, h.n6, zi_0, zi_1, zi_2, zi_3, zi_4, zi_5, zi_6, zi_7, zi_8, zi_9, zi_10, zi_11, zi_12, zi_13, zi_14, zi_15, zi_16, zi_17, zi_18, zi_19, zi_20, zi_21, zi_22, zi_23, zi_24, zi_25, zi_26, zi_30, zi_31, zi_32, zi_34, zi_38, zi_59, zi_60, zi_61, zi_63, zi_64, zi_80, zi_96, zi_97, zi_99, zi_100, zi_122, zi_255, zi_256, zi_300, zi_398, zi_406, zi_900, zi_1000, zi_1024, zi_1624, zi_1662, zi_2030, zi_2031, zi_2068, zi_2258, zi_9999, zi_48, zi_57, zi_65536, zi_3257, zi_11483, zi_1000000, zi_729, zi_81, zi_m1, nI_add, pk_mul, nI_ltI, nI_leI, nI_eq, nI_clamp, zn_in, zn_sub1lt, zn_M, zn_Ml, zn_Mg, zn_Mle, zn_Mge, zn_sub, Nat.reduceAdd, Nat.reduceMul, forall_eq, true_imp_iff, false_imp_iff, and_true, true_and, not_true_eq_false, not_false_eq_true, reduceCtorEq, imp_self, eq_self, false_and, and_false, implies_true]
      repeat' (first | omega | with_reducible refine And.intro ?_ ?_ | with_reducible intro g)
      exact K _ (po_U.q0 h hcd _)
    · intro I L R h Q K
      simp (disch := omega) only [wp_M_takings, wp_M_isPlay, wp_M_isCell, wp_M_cellsOf, wp_M_isTune, wp_M_isFrom, wp_M_gives, wp_M_refuse, h.n0, h.n1, h.n2, zj_0, zj_1, zj_2, zj_4, zj_6, zj_7, zj_8, zj_16, zj_20, zj_60, zj_63, zj_64, zj_99, zj_9999, nI_l, zk_lt, zk_le, zk_eq, zk_add, zk_in, h.n6, zi_0, zi_1, zi_2, zi_3, zi_4, zi_5, zi_6, zi_7, zi_8, zi_9, zi_10, zi_11, zi_12, zi_13, zi_14, zi_15, zi_16, zi_17, zi_18, zi_19, zi_20, zi_21, zi_22, zi_23, zi_24, zi_25, zi_26, zi_30, zi_31, zi_32, zi_34, zi_38, zi_59, zi_60, zi_61, zi_63, zi_64, zi_80, zi_96, zi_97, zi_99, zi_100, zi_122, zi_255, zi_256, zi_300, zi_398, zi_406, zi_900, zi_1000, zi_1024, zi_1624, zi_1662, zi_2030, zi_2031, zi_2068, zi_2258, zi_9999, zi_48, zi_57, zi_65536, zi_3257, zi_11483, zi_1000000, zi_729, zi_81, zi_m1, nI_add, pk_mul, nI_ltI, nI_leI, nI_eq, nI_clamp, zn_in, zn_sub1lt, zn_M, zn_Ml, zn_Mg, zn_Mle, zn_Mge, zn_sub, Nat.reduceAdd, Nat.reduceMul, forall_eq, true_imp_iff, false_imp_iff, and_true, true_and, not_true_eq_false, not_false_eq_true, reduceCtorEq, imp_self, eq_self, false_and, and_false, implies_true]
      repeat' (first | omega | with_reducible refine And.intro ?_ ?_ | with_reducible intro g)
      exact K _ (po_M.q0 h ok _)
  refine ⟨nI (sq_cf q (q 6) t n), 0, q, ok, ?_, ?_⟩
  · intro c d I L R hcd h hc hd hz Q K
    simp (disch := omega) only [wp_U_takings, wp_U_pitch, wb_U_pitch_32, wp_Square_hasCell, wp_Square_cells, wp_Square_hasTune, wp_U_within, wp_U_refused, wp_U_answered, hc, h.n0, h.n1, h.n2, h.n6, zi_0, zi_1, zi_2, zi_3, zi_4, zi_5, zi_6, zi_7, zi_8, zi_9, zi_10, zi_11, zi_12, zi_13, zi_14, zi_15, zi_16, zi_17, zi_18, zi_19, zi_20, zi_21, zi_22, zi_23, zi_24, zi_25, zi_26, zi_30, zi_31, zi_32, zi_34, zi_38, zi_59, zi_60, zi_61, zi_63, zi_64, zi_80, zi_96, zi_97, zi_99, zi_100, zi_122, zi_255, zi_256, zi_300, zi_398, zi_406, zi_900, zi_1000, zi_1024, zi_1624, zi_1662, zi_2030, zi_2031, zi_2068, zi_2258, zi_9999, zi_48, zi_57, zi_65536, zi_3257, zi_11483, zi_1000000, zi_729, zi_81, zi_m1, nI_add, pk_mul, nI_ltI, nI_leI, nI_eq, nI_clamp, zn_in, zn_sub1lt, zn_M, zn_Ml, zn_Mg, zn_Mle, zn_Mge, zn_sub, Nat.reduceAdd, Nat.reduceMul, forall_eq, true_imp_iff, false_imp_iff, and_true, true_and, not_true_eq_false, not_false_eq_true, reduceCtorEq, imp_self, eq_self, false_and, and_false, implies_true]
    repeat' (first | omega | with_reducible refine And.intro ?_ ?_ | with_reducible intro g)
    refine su_cf h ok (by omega) (by omega) (by omega) ?_
    exact K _ (po_U.q0 h hcd _)
  · intro I L R h Q K
    simp (disch := omega) only [wp_M_takings, wp_M_isPlay, wp_M_isCell, wp_M_cellsOf, wp_M_isTune, wp_M_isFrom, wp_M_gives, wp_M_refuse, h.n0, h.n1, h.n2, zj_0, zj_1, zj_2, zj_4, zj_6, zj_7, zj_8, zj_16, zj_20, zj_60, zj_63, zj_64, zj_99, zj_9999, nI_l, zk_lt, zk_le, zk_eq, zk_add, zk_in, h.n6, zi_0, zi_1, zi_2, zi_3, zi_4, zi_5, zi_6, zi_7, zi_8, zi_9, zi_10, zi_11, zi_12, zi_13, zi_14, zi_15, zi_16, zi_17, zi_18, zi_19, zi_20, zi_21, zi_22, zi_23, zi_24, zi_25, zi_26, zi_30, zi_31, zi_32, zi_34, zi_38, zi_59, zi_60, zi_61, zi_63, zi_64, zi_80, zi_96, zi_97, zi_99, zi_100, zi_122, zi_255, zi_256, zi_300, zi_398, zi_406, zi_900, zi_1000, zi_1024, zi_1624, zi_1662, zi_2030, zi_2031, zi_2068, zi_2258, zi_9999, zi_48, zi_57, zi_65536, zi_3257, zi_11483, zi_1000000, zi_729, zi_81, zi_m1, nI_add, pk_mul, nI_ltI, nI_leI, nI_eq, nI_clamp, zn_in, zn_sub1lt, zn_M, zn_Ml, zn_Mg, zn_Mle, zn_Mge, zn_sub, Nat.reduceAdd, Nat.reduceMul, forall_eq, true_imp_iff, false_imp_iff, and_true, true_and, not_true_eq_false, not_false_eq_true, reduceCtorEq, imp_self, eq_self, false_and, and_false, implies_true]
    repeat' (first | omega | with_reducible refine And.intro ?_ ?_ | with_reducible intro g)
    refine sm_cf h ok (by omega) (by omega) (by omega) (fun I1 h1 f1 => ?_)
    exact K _ (po_M.of h1 ok f1 _)
/-- the best of the first m cells -/
def sq_bp (q : Nat → Nat) (t n : Nat) : Nat → Nat
  | 0 => 0
  | m + 1 => if sq_cf q (sq_bp q t n m) t n < sq_cf q m t n then m else sq_bp q t n m
theorem sq_bp_lt (t n : Nat) : ∀ m, 0 < m → sq_bp q t n m < m
  | 0, h => by omega
  | m + 1, _ => by
    rw [sq_bp]
    split
    · omega
    · rcases Nat.eq_zero_or_pos m with rfl | g
      · exact Nat.one_pos
      · have := sq_bp_lt t n m g; omega
theorem op_bestPitch (ok : sq_Ok q) (p2 p3 : Int32) : si_I q (fun I L R Q => wp_U_bestPitch I L R 0 p2 p3 Q) (fun I L R Q => wp_M_bestPitch I L R 103 p2 p3 Q) := by
  have o := ok.cells
  have o3 := ok.1.2.2.1
  rcases zc p2 with hp | ⟨t, ht, rfl⟩
  · refine ⟨nM, 1, q, ok, ?_, ?_⟩
    · intro c d I L R hcd h hc hd hz Q K
      simp (disch := omega) only [wp_U_bestPitch, wb_U_bestPitch_21, wp_Square_hasTune, wp_U_within, wp_U_refused, wp_U_answered, hc, h.n2, hp, zi_0, zi_1, zi_2, zi_3, zi_4, zi_5, zi_6, zi_7, zi_8, zi_9, zi_10, zi_11, zi_12, zi_13, zi_14, zi_15, zi_16, zi_17, zi_18, zi_19, zi_20, zi_21, zi_22, zi_23, zi_24, zi_25, zi_26, zi_30, zi_31, zi_32, zi_34, zi_38, zi_59, zi_60, zi_61, zi_63, zi_64, zi_80, zi_96, zi_97, zi_99, zi_100, zi_122, zi_255, zi_256, zi_300, zi_398, zi_406, zi_900, zi_1000, zi_1024, zi_1624, zi_1662, zi_2030, zi_2031, zi_2068, zi_2258, zi_9999, zi_48, zi_57, zi_65536, zi_3257, zi_11483, zi_1000000, zi_729, zi_81, zi_m1, nI_add, pk_mul, nI_ltI, nI_leI, nI_eq, nI_clamp, zn_in, zn_sub1lt, zn_M, zn_Ml, zn_Mg, zn_Mle, zn_Mge, zn_sub, Nat.reduceAdd, Nat.reduceMul, forall_eq, true_imp_iff, false_imp_iff, and_true, true_and, not_true_eq_false, not_false_eq_true, reduceCtorEq, imp_self, eq_self, false_and, and_false, implies_true]
      repeat' (first | omega | with_reducible refine And.intro ?_ ?_ | with_reducible intro g)
      exact K _ (po_U.q0 h hcd _)
    · intro I L R h Q K
      simp (disch := omega) only [wp_M_bestPitch, wp_M_isPlay, wp_M_isTune, wp_M_isFrom, wp_M_gives, wp_M_refuse, h.n2, zj_0, zj_1, zj_2, zj_4, zj_6, zj_7, zj_8, zj_16, zj_20, zj_60, zj_63, zj_64, zj_99, zj_9999, nI_l, zk_lt, zk_le, zk_eq, zk_add, zk_in, hp, zc_e hp, zi_0, zi_1, zi_2, zi_3, zi_4, zi_5, zi_6, zi_7, zi_8, zi_9, zi_10, zi_11, zi_12, zi_13, zi_14, zi_15, zi_16, zi_17, zi_18, zi_19, zi_20, zi_21, zi_22, zi_23, zi_24, zi_25, zi_26, zi_30, zi_31, zi_32, zi_34, zi_38, zi_59, zi_60, zi_61, zi_63, zi_64, zi_80, zi_96, zi_97, zi_99, zi_100, zi_122, zi_255, zi_256, zi_300, zi_398, zi_406, zi_900, zi_1000, zi_1024, zi_1624, zi_1662, zi_2030, zi_2031, zi_2068, zi_2258, zi_9999, zi_48, zi_57, zi_65536, zi_3257, zi_11483, zi_1000000, zi_729, zi_81, zi_m1, nI_add, pk_mul, nI_ltI, nI_leI, nI_eq, nI_clamp, zn_in, zn_sub1lt, zn_M, zn_Ml, zn_Mg, zn_Mle, zn_Mge, zn_sub, Nat.reduceAdd, Nat.reduceMul, forall_eq, true_imp_iff, false_imp_iff, and_true, true_and, not_true_eq_false, not_false_eq_true, reduceCtorEq, imp_self, eq_self, false_and, and_false, implies_true]
      repeat' (first | omega | with_reducible refine And.intro ?_ ?_ | with_reducible intro g)
      exact K _ (po_M.q0 h ok _)
  by_cases g1 : q 2 ≤ t
  · refine ⟨nM, 1, q, ok, ?_, ?_⟩
    · intro c d I L R hcd h hc hd hz Q K
      simp (disch := omega) only [wp_U_bestPitch, wb_U_bestPitch_21, wp_Square_hasTune, wp_U_within, wp_U_refused, wp_U_answered, hc, h.n2, zi_0, zi_1, zi_2, zi_3, zi_4, zi_5, zi_6, zi_7, zi_8, zi_9, zi_10, zi_11, zi_12, zi_13, zi_14, zi_15, zi_16, zi_17, zi_18, zi_19, zi_20, zi_21, zi_22, zi_23, zi_24, zi_25, zi_26, zi_30, zi_31, zi_32, zi_34, zi_38, zi_59, zi_60, zi_61, zi_63, zi_64, zi_80, zi_96, zi_97, zi_99, zi_100, zi_122, zi_255, zi_256, zi_300, zi_398, zi_406, zi_900, zi_1000, zi_1024, zi_1624, zi_1662, zi_2030, zi_2031, zi_2068, zi_2258, zi_9999, zi_48, zi_57, zi_65536, zi_3257, zi_11483, zi_1000000, zi_729, zi_81, zi_m1, nI_add, pk_mul, nI_ltI, nI_leI, nI_eq, nI_clamp, zn_in, zn_sub1lt, zn_M, zn_Ml, zn_Mg, zn_Mle, zn_Mge, zn_sub, Nat.reduceAdd, Nat.reduceMul, forall_eq, true_imp_iff, false_imp_iff, and_true, true_and, not_true_eq_false, not_false_eq_true, reduceCtorEq, imp_self, eq_self, false_and, and_false, implies_true]
      repeat' (first | omega | with_reducible refine And.intro ?_ ?_ | with_reducible intro g)
      exact K _ (po_U.q0 h hcd _)
    · intro I L R h Q K
      simp (disch := omega) only [wp_M_bestPitch, wp_M_isPlay, wp_M_isTune, wp_M_isFrom, wp_M_gives, wp_M_refuse, h.n2, zj_0, zj_1, zj_2, zj_4, zj_6, zj_7, zj_8, zj_16, zj_20, zj_60, zj_63, zj_64, zj_99, zj_9999, nI_l, zk_lt, zk_le, zk_eq, zk_add, zk_in, zi_0, zi_1, zi_2, zi_3, zi_4, zi_5, zi_6, zi_7, zi_8, zi_9, zi_10, zi_11, zi_12, zi_13, zi_14, zi_15, zi_16, zi_17, zi_18, zi_19, zi_20, zi_21, zi_22, zi_23, zi_24, zi_25, zi_26, zi_30, zi_31, zi_32, zi_34, zi_38, zi_59, zi_60, zi_61, zi_63, zi_64, zi_80, zi_96, zi_97, zi_99, zi_100, zi_122, zi_255, zi_256, zi_300, zi_398, zi_406, zi_900, zi_1000, zi_1024, zi_1624, zi_1662, zi_2030, zi_2031, zi_2068, zi_2258, zi_9999, zi_48, zi_57, zi_65536, zi_3257, zi_11483, zi_1000000, zi_729, zi_81, zi_m1, nI_add, pk_mul, nI_ltI, nI_leI, nI_eq, nI_clamp, zn_in, zn_sub1lt, zn_M, zn_Ml, zn_Mg, zn_Mle, zn_Mge, zn_sub, Nat.reduceAdd, Nat.reduceMul, forall_eq, true_imp_iff, false_imp_iff, and_true, true_and, not_true_eq_false, not_false_eq_true, reduceCtorEq, imp_self, eq_self, false_and, and_false, implies_true]
      repeat' (first | omega | with_reducible refine And.intro ?_ ?_ | with_reducible intro g)
      exact K _ (po_M.q0 h ok _)
  rcases zc p3 with hp | ⟨n, hn, rfl⟩
  · refine ⟨nM, 1, q, ok, ?_, ?_⟩
    · intro c d I L R hcd h hc hd hz Q K
      simp (disch := omega) only [wp_U_bestPitch, wb_U_bestPitch_21, wp_Square_hasTune, wp_U_within, wp_U_refused, wp_U_answered, hc, h.n2, hp, zi_0, zi_1, zi_2, zi_3, zi_4, zi_5, zi_6, zi_7, zi_8, zi_9, zi_10, zi_11, zi_12, zi_13, zi_14, zi_15, zi_16, zi_17, zi_18, zi_19, zi_20, zi_21, zi_22, zi_23, zi_24, zi_25, zi_26, zi_30, zi_31, zi_32, zi_34, zi_38, zi_59, zi_60, zi_61, zi_63, zi_64, zi_80, zi_96, zi_97, zi_99, zi_100, zi_122, zi_255, zi_256, zi_300, zi_398, zi_406, zi_900, zi_1000, zi_1024, zi_1624, zi_1662, zi_2030, zi_2031, zi_2068, zi_2258, zi_9999, zi_48, zi_57, zi_65536, zi_3257, zi_11483, zi_1000000, zi_729, zi_81, zi_m1, nI_add, pk_mul, nI_ltI, nI_leI, nI_eq, nI_clamp, zn_in, zn_sub1lt, zn_M, zn_Ml, zn_Mg, zn_Mle, zn_Mge, zn_sub, Nat.reduceAdd, Nat.reduceMul, forall_eq, true_imp_iff, false_imp_iff, and_true, true_and, not_true_eq_false, not_false_eq_true, reduceCtorEq, imp_self, eq_self, false_and, and_false, implies_true]
      repeat' (first | omega | with_reducible refine And.intro ?_ ?_ | with_reducible intro g)
      exact K _ (po_U.q0 h hcd _)
    · intro I L R h Q K
      simp (disch := omega) only [wp_M_bestPitch, wp_M_isPlay, wp_M_isTune, wp_M_isFrom, wp_M_gives, wp_M_refuse, h.n2, zj_0, zj_1, zj_2, zj_4, zj_6, zj_7, zj_8, zj_16, zj_20, zj_60, zj_63, zj_64, zj_99, zj_9999, nI_l, zk_lt, zk_le, zk_eq, zk_add, zk_in, hp, zf_n hp, zi_0, zi_1, zi_2, zi_3, zi_4, zi_5, zi_6, zi_7, zi_8, zi_9, zi_10, zi_11, zi_12, zi_13, zi_14, zi_15, zi_16, zi_17, zi_18, zi_19, zi_20, zi_21, zi_22, zi_23, zi_24, zi_25, zi_26, zi_30, zi_31, zi_32, zi_34, zi_38, zi_59, zi_60, zi_61, zi_63, zi_64, zi_80, zi_96, zi_97, zi_99, zi_100, zi_122, zi_255, zi_256, zi_300, zi_398, zi_406, zi_900, zi_1000, zi_1024, zi_1624, zi_1662, zi_2030, zi_2031, zi_2068, zi_2258, zi_9999, zi_48, zi_57, zi_65536, zi_3257, zi_11483, zi_1000000, zi_729, zi_81, zi_m1, nI_add, pk_mul, nI_ltI, nI_leI, nI_eq, nI_clamp, zn_in, zn_sub1lt, zn_M, zn_Ml, zn_Mg, zn_Mle, zn_Mge, zn_sub, Nat.reduceAdd, Nat.reduceMul, forall_eq, true_imp_iff, false_imp_iff, and_true, true_and, not_true_eq_false, not_false_eq_true, reduceCtorEq, imp_self, eq_self, false_and, and_false, implies_true]
      repeat' (first | omega | with_reducible refine And.intro ?_ ?_ | with_reducible intro g)
      exact K _ (po_M.q0 h ok _)
  by_cases g2 : 20 < n
  · refine ⟨nM, 1, q, ok, ?_, ?_⟩
    · intro c d I L R hcd h hc hd hz Q K
      simp (disch := omega) only [wp_U_bestPitch, wb_U_bestPitch_21, wp_Square_hasTune, wp_U_within, wp_U_refused, wp_U_answered, hc, h.n2, zi_0, zi_1, zi_2, zi_3, zi_4, zi_5, zi_6, zi_7, zi_8, zi_9, zi_10, zi_11, zi_12, zi_13, zi_14, zi_15, zi_16, zi_17, zi_18, zi_19, zi_20, zi_21, zi_22, zi_23, zi_24, zi_25, zi_26, zi_30, zi_31, zi_32, zi_34, zi_38, zi_59, zi_60, zi_61, zi_63, zi_64, zi_80, zi_96, zi_97, zi_99, zi_100, zi_122, zi_255, zi_256, zi_300, zi_398, zi_406, zi_900, zi_1000, zi_1024, zi_1624, zi_1662, zi_2030, zi_2031, zi_2068, zi_2258, zi_9999, zi_48, zi_57, zi_65536, zi_3257, zi_11483, zi_1000000, zi_729, zi_81, zi_m1, nI_add, pk_mul, nI_ltI, nI_leI, nI_eq, nI_clamp, zn_in, zn_sub1lt, zn_M, zn_Ml, zn_Mg, zn_Mle, zn_Mge, zn_sub, Nat.reduceAdd, Nat.reduceMul, forall_eq, true_imp_iff, false_imp_iff, and_true, true_and, not_true_eq_false, not_false_eq_true, reduceCtorEq, imp_self, eq_self, false_and, and_false, implies_true]
      repeat' (first | omega | with_reducible refine And.intro ?_ ?_ | with_reducible intro g)
      exact K _ (po_U.q0 h hcd _)
    · intro I L R h Q K
      simp (disch := omega) only [wp_M_bestPitch, wp_M_isPlay, wp_M_isTune, wp_M_isFrom, wp_M_gives, wp_M_refuse, h.n2, zj_0, zj_1, zj_2, zj_4, zj_6, zj_7, zj_8, zj_16, zj_20, zj_60, zj_63, zj_64, zj_99, zj_9999, nI_l, zk_lt, zk_le, zk_eq, zk_add, zk_in, zi_0, zi_1, zi_2, zi_3, zi_4, zi_5, zi_6, zi_7, zi_8, zi_9, zi_10, zi_11, zi_12, zi_13, zi_14, zi_15, zi_16, zi_17, zi_18, zi_19, zi_20, zi_21, zi_22, zi_23, zi_24, zi_25, zi_26, zi_30, zi_31, zi_32, zi_34, zi_38, zi_59, zi_60, zi_61, zi_63, zi_64, zi_80, zi_96, zi_97, zi_99, zi_100, zi_122, zi_255, zi_256, zi_300, zi_398, zi_406, zi_900, zi_1000, zi_1024, zi_1624, zi_1662, zi_2030, zi_2031, zi_2068, zi_2258, zi_9999, zi_48, zi_57, zi_65536, zi_3257, zi_11483, zi_1000000, zi_729, zi_81, zi_m1, nI_add, pk_mul, nI_ltI, nI_leI, nI_eq, nI_clamp, zn_in, zn_sub1lt, zn_M, zn_Ml, zn_Mg, zn_Mle, zn_Mge, zn_sub, Nat.reduceAdd, Nat.reduceMul, forall_eq, true_imp_iff, false_imp_iff, and_true, true_and, not_true_eq_false, not_false_eq_true, reduceCtorEq, imp_self, eq_self, false_and, and_false, implies_true]
      repeat' (first | omega | with_reducible refine And.intro ?_ ?_ | with_reducible intro g)
      exact K _ (po_M.q0 h ok _)
  refine ⟨nI (sq_bp q t n (q 0 * q 1)), 0, q, ok, ?_, ?_⟩
  · intro c d I L R hcd h hc hd hz Q K
    simp (disch := omega) only [wp_U_bestPitch, wb_U_bestPitch_21, wp_Square_hasTune, wp_U_within, wp_U_refused, wp_U_answered, hc, h.n2, zi_0, zi_1, zi_2, zi_3, zi_4, zi_5, zi_6, zi_7, zi_8, zi_9, zi_10, zi_11, zi_12, zi_13, zi_14, zi_15, zi_16, zi_17, zi_18, zi_19, zi_20, zi_21, zi_22, zi_23, zi_24, zi_25, zi_26, zi_30, zi_31, zi_32, zi_34, zi_38, zi_59, zi_60, zi_61, zi_63, zi_64, zi_80, zi_96, zi_97, zi_99, zi_100, zi_122, zi_255, zi_256, zi_300, zi_398, zi_406, zi_900, zi_1000, zi_1024, zi_1624, zi_1662, zi_2030, zi_2031, zi_2068, zi_2258, zi_9999, zi_48, zi_57, zi_65536, zi_3257, zi_11483, zi_1000000, zi_729, zi_81, zi_m1, nI_add, pk_mul, nI_ltI, nI_leI, nI_eq, nI_clamp, zn_in, zn_sub1lt, zn_M, zn_Ml, zn_Mg, zn_Mle, zn_Mge, zn_sub, Nat.reduceAdd, Nat.reduceMul, forall_eq, true_imp_iff, false_imp_iff, and_true, true_and, not_true_eq_false, not_false_eq_true, reduceCtorEq, imp_self, eq_self, false_and, and_false, implies_true]
    repeat' (first | omega | with_reducible refine And.intro ?_ ?_ | with_reducible intro g)
    refine su_cf h ok (by omega) (by omega) (by omega) ?_
    have e1 : sq_bp q t n 1 = 0 := by rw [sq_bp, sq_bp]; exact ite_self _
    have st := zl_up (P := fun f m => 0 < m → wl_U_bestPitch_44 L R 0 (nI t) (nI n) Q f I (nI (sq_bp q t n m)) (nI (sq_cf q (sq_bp q t n m) t n)) (nI m)) (q 0 * q 1) (fun f _ => by
      simp (disch := omega) only [wl_U_bestPitch_44, wp_Square_cells, wp_U_answered, hc, h.n0, h.n1, zi_0, zi_1, zi_2, zi_3, zi_4, zi_5, zi_6, zi_7, zi_8, zi_9, zi_10, zi_11, zi_12, zi_13, zi_14, zi_15, zi_16, zi_17, zi_18, zi_19, zi_20, zi_21, zi_22, zi_23, zi_24, zi_25, zi_26, zi_30, zi_31, zi_32, zi_34, zi_38, zi_59, zi_60, zi_61, zi_63, zi_64, zi_80, zi_96, zi_97, zi_99, zi_100, zi_122, zi_255, zi_256, zi_300, zi_398, zi_406, zi_900, zi_1000, zi_1024, zi_1624, zi_1662, zi_2030, zi_2031, zi_2068, zi_2258, zi_9999, zi_48, zi_57, zi_65536, zi_3257, zi_11483, zi_1000000, zi_729, zi_81, zi_m1, nI_add, pk_mul, nI_ltI, nI_leI, nI_eq, nI_clamp, zn_in, zn_sub1lt, zn_M, zn_Ml, zn_Mg, zn_Mle, zn_Mge, zn_sub, Nat.reduceAdd, Nat.reduceMul, forall_eq, true_imp_iff, false_imp_iff, and_true, true_and, not_true_eq_false, not_false_eq_true, reduceCtorEq, imp_self, eq_self, false_and, and_false, implies_true]
      repeat' (first | omega | with_reducible refine And.intro ?_ ?_ | with_reducible intro g)
      exact K _ (po_U.q0 h hcd _)) (fun f m hm ih h0 => by
      have i2 := ih (by omega)
      have l1 := sq_cf_le ok m t n
      have l2 := sq_cf_le ok (sq_bp q t n m) t n
      rw [sq_bp] at i2
      simp (disch := omega) only [wl_U_bestPitch_44, wp_Square_cells, wp_U_answered, hc, h.n0, h.n1, zi_0, zi_1, zi_2, zi_3, zi_4, zi_5, zi_6, zi_7, zi_8, zi_9, zi_10, zi_11, zi_12, zi_13, zi_14, zi_15, zi_16, zi_17, zi_18, zi_19, zi_20, zi_21, zi_22, zi_23, zi_24, zi_25, zi_26, zi_30, zi_31, zi_32, zi_34, zi_38, zi_59, zi_60, zi_61, zi_63, zi_64, zi_80, zi_96, zi_97, zi_99, zi_100, zi_122, zi_255, zi_256, zi_300, zi_398, zi_406, zi_900, zi_1000, zi_1024, zi_1624, zi_1662, zi_2030, zi_2031, zi_2068, zi_2258, zi_9999, zi_48, zi_57, zi_65536, zi_3257, zi_11483, zi_1000000, zi_729, zi_81, zi_m1, nI_add, pk_mul, nI_ltI, nI_leI, nI_eq, nI_clamp, zn_in, zn_sub1lt, zn_M, zn_Ml, zn_Mg, zn_Mle, zn_Mge, zn_sub, Nat.reduceAdd, Nat.reduceMul, forall_eq, true_imp_iff, false_imp_iff, and_true, true_and, not_true_eq_false, not_false_eq_true, reduceCtorEq, imp_self, eq_self, false_and, and_false, implies_true]
      refine ⟨fun g => absurd g (by omega), fun _ => su_cf h ok (by omega) (by omega) (by omega) ?_⟩
      simp (disch := omega) only [zi_0, zi_1, zi_2, zi_3, zi_4, zi_5, zi_6, zi_7, zi_8, zi_9, zi_10, zi_11, zi_12, zi_13, zi_14, zi_15, zi_16, zi_17, zi_18, zi_19, zi_20, zi_21, zi_22, zi_23, zi_24, zi_25, zi_26, zi_30, zi_31, zi_32, zi_34, zi_38, zi_59, zi_60, zi_61, zi_63, zi_64, zi_80, zi_96, zi_97, zi_99, zi_100, zi_122, zi_255, zi_256, zi_300, zi_398, zi_406, zi_900, zi_1000, zi_1024, zi_1624, zi_1662, zi_2030, zi_2031, zi_2068, zi_2258, zi_9999, zi_48, zi_57, zi_65536, zi_3257, zi_11483, zi_1000000, zi_729, zi_81, zi_m1, nI_add, pk_mul, nI_ltI, nI_leI, nI_eq, nI_clamp, zn_in, zn_sub1lt, zn_M, zn_Ml, zn_Mg, zn_Mle, zn_Mge, zn_sub, Nat.reduceAdd, Nat.reduceMul, forall_eq, true_imp_iff, false_imp_iff, and_true, true_and, not_true_eq_false, not_false_eq_true, reduceCtorEq, imp_self, eq_self, false_and, and_false, implies_true]
      refine ⟨fun g => ?_, fun g => ?_⟩
      · rw [if_neg (by omega)] at i2; exact i2
      · rw [if_pos (by omega)] at i2; exact i2) 1 (by omega)
    rw [e1] at st
    exact st.elim fun z hz => ⟨z, hz (by omega)⟩
  · intro I L R h Q K
    simp (disch := omega) only [wp_M_bestPitch, wp_M_isPlay, wp_M_isTune, wp_M_isFrom, wp_M_gives, wp_M_refuse, h.n2, zj_0, zj_1, zj_2, zj_4, zj_6, zj_7, zj_8, zj_16, zj_20, zj_60, zj_63, zj_64, zj_99, zj_9999, nI_l, zk_lt, zk_le, zk_eq, zk_add, zk_in, zi_0, zi_1, zi_2, zi_3, zi_4, zi_5, zi_6, zi_7, zi_8, zi_9, zi_10, zi_11, zi_12, zi_13, zi_14, zi_15, zi_16, zi_17, zi_18, zi_19, zi_20, zi_21, zi_22, zi_23, zi_24, zi_25, zi_26, zi_30, zi_31, zi_32, zi_34, zi_38, zi_59, zi_60, zi_61, zi_63, zi_64, zi_80, zi_96, zi_97, zi_99, zi_100, zi_122, zi_255, zi_256, zi_300, zi_398, zi_406, zi_900, zi_1000, zi_1024, zi_1624, zi_1662, zi_2030, zi_2031, zi_2068, zi_2258, zi_9999, zi_48, zi_57, zi_65536, zi_3257, zi_11483, zi_1000000, zi_729, zi_81, zi_m1, nI_add, pk_mul, nI_ltI, nI_leI, nI_eq, nI_clamp, zn_in, zn_sub1lt, zn_M, zn_Ml, zn_Mg, zn_Mle, zn_Mge, zn_sub, Nat.reduceAdd, Nat.reduceMul, forall_eq, true_imp_iff, false_imp_iff, and_true, true_and, not_true_eq_false, not_false_eq_true, reduceCtorEq, imp_self, eq_self, false_and, and_false, implies_true]
    repeat' (first | omega | with_reducible refine And.intro ?_ ?_ | with_reducible intro g)
    have e1 : sq_bp q t n 1 = 0 := by rw [sq_bp, sq_bp]; exact ite_self _
    have st := zl_up (P := fun f m => 0 < m → ∀ I1, sq_M q 0 I1 L → fr_M I I1 → wl_M_bestPitch_20 L R 103 (nI t) (nI n) Q f I1 (nI (sq_bp q t n m)) (nI m)) (q 0 * q 1) (fun f _ I1 h1 f1 => by
      simp (disch := omega) only [wl_M_bestPitch_20, wp_M_cellsOf, wp_M_gives, h1.n0, h1.n1, zi_0, zi_1, zi_2, zi_3, zi_4, zi_5, zi_6, zi_7, zi_8, zi_9, zi_10, zi_11, zi_12, zi_13, zi_14, zi_15, zi_16, zi_17, zi_18, zi_19, zi_20, zi_21, zi_22, zi_23, zi_24, zi_25, zi_26, zi_30, zi_31, zi_32, zi_34, zi_38, zi_59, zi_60, zi_61, zi_63, zi_64, zi_80, zi_96, zi_97, zi_99, zi_100, zi_122, zi_255, zi_256, zi_300, zi_398, zi_406, zi_900, zi_1000, zi_1024, zi_1624, zi_1662, zi_2030, zi_2031, zi_2068, zi_2258, zi_9999, zi_48, zi_57, zi_65536, zi_3257, zi_11483, zi_1000000, zi_729, zi_81, zi_m1, nI_add, pk_mul, nI_ltI, nI_leI, nI_eq, nI_clamp, zn_in, zn_sub1lt, zn_M, zn_Ml, zn_Mg, zn_Mle, zn_Mge, zn_sub, Nat.reduceAdd, Nat.reduceMul, forall_eq, true_imp_iff, false_imp_iff, and_true, true_and, not_true_eq_false, not_false_eq_true, reduceCtorEq, imp_self, eq_self, false_and, and_false, implies_true]
      repeat' (first | omega | with_reducible refine And.intro ?_ ?_ | with_reducible intro g)
      exact K _ (po_M.of h1 ok f1 _)) (fun f m hm ih h0 I1 h1 f1 => by
      have i2 := ih (by omega)
      have l1 := sq_cf_le ok m t n
      have l2 := sq_cf_le ok (sq_bp q t n m) t n
      have bl := sq_bp_lt (q := q) t n m h0
      rw [sq_bp] at i2
      simp (disch := omega) only [wl_M_bestPitch_20, wp_M_cellsOf, wp_M_gives, h1.n0, h1.n1, zi_0, zi_1, zi_2, zi_3, zi_4, zi_5, zi_6, zi_7, zi_8, zi_9, zi_10, zi_11, zi_12, zi_13, zi_14, zi_15, zi_16, zi_17, zi_18, zi_19, zi_20, zi_21, zi_22, zi_23, zi_24, zi_25, zi_26, zi_30, zi_31, zi_32, zi_34, zi_38, zi_59, zi_60, zi_61, zi_63, zi_64, zi_80, zi_96, zi_97, zi_99, zi_100, zi_122, zi_255, zi_256, zi_300, zi_398, zi_406, zi_900, zi_1000, zi_1024, zi_1624, zi_1662, zi_2030, zi_2031, zi_2068, zi_2258, zi_9999, zi_48, zi_57, zi_65536, zi_3257, zi_11483, zi_1000000, zi_729, zi_81, zi_m1, nI_add, pk_mul, nI_ltI, nI_leI, nI_eq, nI_clamp, zn_in, zn_sub1lt, zn_M, zn_Ml, zn_Mg, zn_Mle, zn_Mge, zn_sub, Nat.reduceAdd, Nat.reduceMul, forall_eq, true_imp_iff, false_imp_iff, and_true, true_and, not_true_eq_false, not_false_eq_true, reduceCtorEq, imp_self, eq_self, false_and, and_false, implies_true]
      refine ⟨by omega, by omega, fun g => absurd g (by omega), fun _ => sm_cf h1 ok (by omega) (by omega) (by omega) (fun I2 h2 f2 => sm_cf h2 ok (by omega) (by omega) (by omega) (fun I3 h3 f3 => ?_))⟩
      simp (disch := omega) only [zi_0, zi_1, zi_2, zi_3, zi_4, zi_5, zi_6, zi_7, zi_8, zi_9, zi_10, zi_11, zi_12, zi_13, zi_14, zi_15, zi_16, zi_17, zi_18, zi_19, zi_20, zi_21, zi_22, zi_23, zi_24, zi_25, zi_26, zi_30, zi_31, zi_32, zi_34, zi_38, zi_59, zi_60, zi_61, zi_63, zi_64, zi_80, zi_96, zi_97, zi_99, zi_100, zi_122, zi_255, zi_256, zi_300, zi_398, zi_406, zi_900, zi_1000, zi_1024, zi_1624, zi_1662, zi_2030, zi_2031, zi_2068, zi_2258, zi_9999, zi_48, zi_57, zi_65536, zi_3257, zi_11483, zi_1000000, zi_729, zi_81, zi_m1, nI_add, pk_mul, nI_ltI, nI_leI, nI_eq, nI_clamp, zn_in, zn_sub1lt, zn_M, zn_Ml, zn_Mg, zn_Mle, zn_Mge, zn_sub, Nat.reduceAdd, Nat.reduceMul, forall_eq, true_imp_iff, false_imp_iff, and_true, true_and, not_true_eq_false, not_false_eq_true, reduceCtorEq, imp_self, eq_self, false_and, and_false, implies_true]
      refine ⟨fun g => ?_, fun g => ?_⟩
      · rw [if_neg (by omega)] at i2; exact i2 _ h3 (f1.trans (f2.trans f3))
      · rw [if_pos (by omega)] at i2; exact i2 _ h3 (f1.trans (f2.trans f3))) 1 (by omega)
    rw [e1] at st
    exact st.elim fun z hz => ⟨z, hz (by omega) I h fr_M.rfl⟩
end
