/-! cover, coverAt: both answer alike -/
section
variable {q : Nat → Nat} {c d : Nat} {I I1 I2 : am_TI} {L L1 L2 : am_TL} {R : am_TR} {tm ts : Nat → Nat} {tv : Nat → Nat → Int64}
/-- the wanted cells; whom a throw hits of the first i -/
def cw (tv : Nat → Nat → Int64) (t i : Nat) : Nat := (tv t i).toInt.toNat
def ch (q : Nat → Nat) (tv : Nat → Nat → Int64) (t x n : Nat) : Nat := zs_bs (fun i => decide (sq_far (q 0) (cw tv t i) x ≤ 1)) n
def cg (q : Nat → Nat) (tv : Nat → Nat → Int64) (t i : Nat) : Prop := tv t i = lN (cw tv t i) ∧ cw tv t i < (q 0 * q 1)
theorem cg_bad {t i : Nat} (h : ¬ cg q tv t i) : tv t i < lN 0 ∨ ∃ x, x < 2 ^ 63 ∧ tv t i = lN x ∧ (q 0 * q 1) ≤ x := by
  rcases zlv (tv t i) with g | ⟨g1, g2⟩
  · exact Or.inl g
  · refine Or.inr ⟨_, g2, g1, ?_⟩
    apply Classical.byContradiction
    intro e
    exact h ⟨g1, by unfold cw; omega⟩
theorem ch_lt {t : Nat} (x n : Nat) : ch q tv t x n < 2 ^ n := zs_lt _ _
/-- what the class's rows hold -/
def cq_U (q : Nat → Nat) (tv : Nat → Nat → Int64) (t n i : Nat) (I : am_TI) : Prop := I 24 2 = nI (q 0 * q 1) ∧ I 24 3 = nI (2 ^ n - 1) ∧ I 26 0 = nI 0 ∧ ∀ x, x < (q 0 * q 1) → I 25 x = nI (ch q tv t x i)
theorem ch_s {t : Nat} (x n : Nat) : ch q tv t x (n + 1) = ch q tv t x n ||| (if sq_far (q 0) (cw tv t n) x ≤ 1 then 2 ^ n else 0) := by
  unfold ch
  rw [zs_or]
  simp only [decide_eq_true_eq]
theorem su_for (ok : sq_Ok q) {t n : Nat} (hn : n ≤ 8) (p : cq_U q tv t n n I) {S : Nat} (hS : S < 2 ^ n) (h0 : S ≠ 0) (tb : ∀ X, X < S → I 26 X = nI (cF (fun x => ch q tv t x n) (q 0 * q 1) X)) {Q : Int32 → Prop} (k : Q (nI (cF (fun x => ch q tv t x n) (q 0 * q 1) S))) : wp_Covering_fewestFor I L R 24 (nI S) Q := by
  have o := ok.cells
  have p2 : 2 ^ n ≤ 256 := Nat.pow_le_pow_right (n := 2) (by decide) hn
  have zb := ((zlb_ok S (by omega)).resolve_left h0).2
  have z8 : zlb S ≤ 8 := zfind_le _ _
  have pz : 2 ^ zlb S ≤ 256 := Nat.pow_le_pow_right (n := 2) (by decide) z8
  rw [cF_rec (by omega) h0] at k
  unfold wp_Covering_fewestFor
  rw [zlow_i S (by omega), if_neg h0]
  refine zl_up (P := fun f m => wl_Covering_fewestFor_12 I L R 24 (nI S) Q f (nI (2 ^ zlb S)) (nI (zmin (fun c => if ((fun x => ch q tv t x n) c).testBit (zlb S) = false then 1000 else cF (fun x => ch q tv t x n) (q 0 * q 1) (zan S ((fun x => ch q tv t x n) c)) + 1) 1000 m)) (nI m)) (q 0 * q 1) (fun f => ?_) (fun f m hm ih => ?_) 0 (by omega)
  · simp (disch := omega) only [wl_Covering_fewestFor_12, p.1, zi_0, zi_1, zi_2, zi_3, zi_4, zi_5, zi_6, zi_7, zi_8, zi_9, zi_10, zi_11, zi_12, zi_13, zi_14, zi_15, zi_16, zi_17, zi_18, zi_19, zi_20, zi_21, zi_22, zi_23, zi_24, zi_25, zi_26, zi_30, zi_31, zi_32, zi_34, zi_38, zi_59, zi_60, zi_61, zi_63, zi_64, zi_80, zi_96, zi_97, zi_99, zi_100, zi_122, zi_255, zi_256, zi_300, zi_398, zi_406, zi_900, zi_1000, zi_1024, zi_1624, zi_1662, zi_2030, zi_2031, zi_2068, zi_2258, zi_9999, zi_48, zi_57, zi_65536, zi_3257, zi_11483, zi_1000000, zi_729, zi_81, zi_m1, nI_add, pk_mul, nI_ltI, nI_leI, nI_eq, nI_clamp, zn_in, zn_sub1lt, zn_M, zn_Ml, zn_Mg, zn_Mle, zn_Mge, zn_sub, Nat.reduceAdd, Nat.reduceMul]
    exact ⟨fun _ => k, fun g => absurd (Nat.le_refl _) g⟩
  · have cl := ch_lt (q := q) (tv := tv) (t := t) m n
    have al : ch q tv t m n &&& 2 ^ zlb S ≤ ch q tv t m n := Nat.and_le_left
    have zl := zan_le S (ch q tv t m n)
    have zm := zmin_le (f := fun c => if ((fun x => ch q tv t x n) c).testBit (zlb S) = false then 1000 else cF (fun x => ch q tv t x n) (q 0 * q 1) (zan S ((fun x => ch q tv t x n) c)) + 1) (Z := 1000) m
    rw [zmin] at ih
    try dsimp only at ih zm
    simp (disch := omega) only [wl_Covering_fewestFor_12, p.1, p.2.2.2 m hm, ze_and, zn_an, and_pow, zi_0, zi_1, zi_2, zi_3, zi_4, zi_5, zi_6, zi_7, zi_8, zi_9, zi_10, zi_11, zi_12, zi_13, zi_14, zi_15, zi_16, zi_17, zi_18, zi_19, zi_20, zi_21, zi_22, zi_23, zi_24, zi_25, zi_26, zi_30, zi_31, zi_32, zi_34, zi_38, zi_59, zi_60, zi_61, zi_63, zi_64, zi_80, zi_96, zi_97, zi_99, zi_100, zi_122, zi_255, zi_256, zi_300, zi_398, zi_406, zi_900, zi_1000, zi_1024, zi_1624, zi_1662, zi_2030, zi_2031, zi_2068, zi_2258, zi_9999, zi_48, zi_57, zi_65536, zi_3257, zi_11483, zi_1000000, zi_729, zi_81, zi_m1, nI_add, pk_mul, nI_ltI, nI_leI, nI_eq, nI_clamp, zn_in, zn_sub1lt, zn_M, zn_Ml, zn_Mg, zn_Mle, zn_Mge, zn_sub, Nat.reduceAdd, Nat.reduceMul]
    refine ⟨fun g => absurd g (by omega), fun _ => ⟨by omega, fun g => ?_, fun g => ⟨by omega, by omega, ?_⟩⟩⟩
    · rw [if_pos g, Nat.min_eq_left zm] at ih; exact ih
    · have g2 : (ch q tv t m n).testBit (zlb S) = true := by simpa using g
      have fl := cF_le (h := fun x => ch q tv t x n) (C := (q 0 * q 1)) (S := zan S (ch q tv t m n)) (by omega)
      rw [if_neg g] at ih
      rw [tb _ (zan_lt zb g2)]
      simp (disch := omega) only [zn_min, zi_0, zi_1, zi_2, zi_3, zi_4, zi_5, zi_6, zi_7, zi_8, zi_9, zi_10, zi_11, zi_12, zi_13, zi_14, zi_15, zi_16, zi_17, zi_18, zi_19, zi_20, zi_21, zi_22, zi_23, zi_24, zi_25, zi_26, zi_30, zi_31, zi_32, zi_34, zi_38, zi_59, zi_60, zi_61, zi_63, zi_64, zi_80, zi_96, zi_97, zi_99, zi_100, zi_122, zi_255, zi_256, zi_300, zi_398, zi_406, zi_900, zi_1000, zi_1024, zi_1624, zi_1662, zi_2030, zi_2031, zi_2068, zi_2258, zi_9999, zi_48, zi_57, zi_65536, zi_3257, zi_11483, zi_1000000, zi_729, zi_81, zi_m1, nI_add, pk_mul, nI_ltI, nI_leI, nI_eq, nI_clamp, zn_in, zn_sub1lt, zn_M, zn_Ml, zn_Mg, zn_Mle, zn_Mge, zn_sub, Nat.reduceAdd, Nat.reduceMul]
      exact ih
theorem su_cover (h : sq_U q c d I L) (hcd : sq_cd c d) (ok : sq_Ok q) (hz : I 26 0 = nI 0) (y : tr_U tm ts tv I L R) {t n : Nat} (ht : t < 4) (hn : n ≤ 8) (h2 : n < tm t) (okt : tm t ≤ 61) {Q : Bool → am_TI → Prop} (kF : ¬ (∀ i, i < n → cg q tv t i) → ∀ I1, (∀ r j, (r < 24 ∨ 26 < r ∨ (r = 26 ∧ j = 0)) → I1 r j = I r j) → Q false I1) (kT : (∀ i, i < n → cg q tv t i) → ∀ I1, cq_U q tv t n n I1 → (∀ X, X < 2 ^ n → I1 26 X = nI (cF (fun x => ch q tv t x n) (q 0 * q 1) X)) → (∀ r j, (r < 24 ∨ 26 < r ∨ (r = 26 ∧ j = 0)) → I1 r j = I r j) → Q true I1) : wp_Covering_solve I L R 24 c (59 + 2 * t) (nI n) Q := by
  have o := ok.cells
  have hcd' := hcd
  obtain ⟨hc, hd⟩ := hcd'
  have p2 : 2 ^ n ≤ 256 ∧ 1 ≤ 2 ^ n := ⟨Nat.pow_le_pow_right (n := 2) (by decide) hn, Nat.one_le_two_pow⟩
  simp (disch := omega) only [wp_Covering_solve, wp_Square_cells, h.n0, h.n1, zn_shl, zn_min, zi_0, zi_1, zi_2, zi_3, zi_4, zi_5, zi_6, zi_7, zi_8, zi_9, zi_10, zi_11, zi_12, zi_13, zi_14, zi_15, zi_16, zi_17, zi_18, zi_19, zi_20, zi_21, zi_22, zi_23, zi_24, zi_25, zi_26, zi_30, zi_31, zi_32, zi_34, zi_38, zi_59, zi_60, zi_61, zi_63, zi_64, zi_80, zi_96, zi_97, zi_99, zi_100, zi_122, zi_255, zi_256, zi_300, zi_398, zi_406, zi_900, zi_1000, zi_1024, zi_1624, zi_1662, zi_2030, zi_2031, zi_2068, zi_2258, zi_9999, zi_48, zi_57, zi_65536, zi_3257, zi_11483, zi_1000000, zi_729, zi_81, zi_m1, nI_add, pk_mul, nI_ltI, nI_leI, nI_eq, nI_clamp, zn_in, zn_sub1lt, zn_M, zn_Ml, zn_Mg, zn_Mle, zn_Mge, zn_sub, Nat.reduceAdd, Nat.reduceMul, forall_eq, true_imp_iff, false_imp_iff, and_true, true_and, not_true_eq_false, not_false_eq_true, reduceCtorEq, imp_self, eq_self, false_and, and_false, implies_true]
  rw [Nat.min_eq_left o.2]
  refine su_fillI (by omega) (fun I1 a1 b1 => ?_)
  have c1 : cq_U q tv t n 0 I1 := by
    refine ⟨?_, ?_, ?_, fun x hx => ?_⟩
    · rw [b1 24 2 (by omega), am_u2_ne _ _ _ _ (by omega), am_u2_at]
    · rw [b1 24 3 (by omega), am_u2_at]
    · rw [b1 26 0 (by omega), am_u2o (by omega), am_u2o (by omega)]; exact hz
    · rw [a1 x (by omega)]; rfl
  have e1 : ∀ r j, (r < 24 ∨ 26 < r ∨ (r = 26 ∧ j = 0)) → I1 r j = I r j := fun r j g => by
    rw [b1 r j (by omega), am_u2o (by omega), am_u2o (by omega)]
  have tail : ∀ I2, cq_U q tv t n n I2 → (∀ i, i < n → cg q tv t i) → (∀ r j, (r < 24 ∨ 26 < r ∨ (r = 26 ∧ j = 0)) → I2 r j = I r j) → ∃ z, wl_Covering_solve_120 L R 24 c (59 + 2 * t) (nI n) Q z I2 (nI 1) := by
    intro I2 c2 gv e2
    refine (zl_up (P := fun f m => 0 < m → ∀ I3, cq_U q tv t n n I3 → (∀ X, X < m → I3 26 X = nI (cF (fun x => ch q tv t x n) (q 0 * q 1) X)) → (∀ r j, (r < 24 ∨ 26 < r ∨ (r = 26 ∧ j = 0)) → I3 r j = I r j) → wl_Covering_solve_120 L R 24 c (59 + 2 * t) (nI n) Q f I3 (nI m)) (2 ^ n) (fun f h0 I3 c3 t3 e3 => ?_) (fun f m hm ih h0 I3 c3 t3 e3 => ?_) 1 (by omega)).elim fun z hz => ⟨z, hz (by omega) I2 c2 (fun X hX => ?_) e2⟩
    · simp (disch := omega) only [wl_Covering_solve_120, c3.2.1, zi_0, zi_1, zi_2, zi_3, zi_4, zi_5, zi_6, zi_7, zi_8, zi_9, zi_10, zi_11, zi_12, zi_13, zi_14, zi_15, zi_16, zi_17, zi_18, zi_19, zi_20, zi_21, zi_22, zi_23, zi_24, zi_25, zi_26, zi_30, zi_31, zi_32, zi_34, zi_38, zi_59, zi_60, zi_61, zi_63, zi_64, zi_80, zi_96, zi_97, zi_99, zi_100, zi_122, zi_255, zi_256, zi_300, zi_398, zi_406, zi_900, zi_1000, zi_1024, zi_1624, zi_1662, zi_2030, zi_2031, zi_2068, zi_2258, zi_9999, zi_48, zi_57, zi_65536, zi_3257, zi_11483, zi_1000000, zi_729, zi_81, zi_m1, nI_add, pk_mul, nI_ltI, nI_leI, nI_eq, nI_clamp, zn_in, zn_sub1lt, zn_M, zn_Ml, zn_Mg, zn_Mle, zn_Mge, zn_sub, Nat.reduceAdd, Nat.reduceMul]
      exact ⟨fun _ => kT gv I3 c3 t3 e3, fun g => absurd (by omega) g⟩
    · rw [wl_Covering_solve_120]
      simp (disch := omega) only [c3.2.1, zi_0, zi_1, zi_2, zi_3, zi_4, zi_5, zi_6, zi_7, zi_8, zi_9, zi_10, zi_11, zi_12, zi_13, zi_14, zi_15, zi_16, zi_17, zi_18, zi_19, zi_20, zi_21, zi_22, zi_23, zi_24, zi_25, zi_26, zi_30, zi_31, zi_32, zi_34, zi_38, zi_59, zi_60, zi_61, zi_63, zi_64, zi_80, zi_96, zi_97, zi_99, zi_100, zi_122, zi_255, zi_256, zi_300, zi_398, zi_406, zi_900, zi_1000, zi_1024, zi_1624, zi_1662, zi_2030, zi_2031, zi_2068, zi_2258, zi_9999, zi_48, zi_57, zi_65536, zi_3257, zi_11483, zi_1000000, zi_729, zi_81, zi_m1, nI_add, pk_mul, nI_ltI, nI_leI, nI_eq, nI_clamp, zn_in, zn_sub1lt, zn_M, zn_Ml, zn_Mg, zn_Mle, zn_Mge, zn_sub, Nat.reduceAdd, Nat.reduceMul]
      refine ⟨fun g => absurd g (by omega), fun _ => su_for ok hn c3 hm (by omega) t3 ⟨by omega, fun I4 h4 => ?_⟩⟩
      subst h4
      refine ih (by omega) _ ⟨?_, ?_, ?_, fun x hx => ?_⟩ (fun X hX => ?_) (fun r j g => ?_)
      · rw [am_u2o (by omega)]; exact c3.1
      · rw [am_u2o (by omega)]; exact c3.2.1
      · rw [am_u2_ne _ _ _ _ (by omega)]; exact c3.2.2.1
      · rw [am_u2o (by omega)]; exact c3.2.2.2 x hx
      · by_cases e : X = m
        · subst e; rw [am_u2_at]
        · rw [am_u2_ne _ _ _ _ e]; exact t3 X (by omega)
      · unfold am_u2
        rw [if_neg (by omega)]; exact e3 r j g
    · rw [show X = 0 by omega, cF_0]; exact c2.2.2.1
  have body : ∀ m, m < n → ∀ f I2, cq_U q tv t n m I2 → (∀ r j, (r < 24 ∨ 26 < r ∨ (r = 26 ∧ j = 0)) → I2 r j = I r j) → (cg q tv t m → ∀ I3, cq_U q tv t n (m + 1) I3 → (∀ r j, (r < 24 ∨ 26 < r ∨ (r = 26 ∧ j = 0)) → I3 r j = I r j) → wl_Covering_solve_33 L R 24 c (59 + 2 * t) (nI n) Q f I3 (nI (m + 1))) → (¬ cg q tv t m → Q false I2) → wl_Covering_solve_33 L R 24 c (59 + 2 * t) (nI n) Q (f + 1) I2 (nI m) := by
    intro m hm f I2 c2 e2 k1 k2
    have y2 := y.at ht (show m + 1 < tm t by omega)
    rw [wl_Covering_solve_33]
    simp (disch := omega) only [wp_Tray_numberAt, wp_U_within, c2.1, y2, zj_0, zj_1, zj_2, zj_4, zj_6, zj_7, zj_8, zj_16, zj_20, zj_60, zj_63, zj_64, zj_99, zj_9999, nI_l, zk_lt, zk_le, zk_eq, zk_add, zk_in, zi_0, zi_1, zi_2, zi_3, zi_4, zi_5, zi_6, zi_7, zi_8, zi_9, zi_10, zi_11, zi_12, zi_13, zi_14, zi_15, zi_16, zi_17, zi_18, zi_19, zi_20, zi_21, zi_22, zi_23, zi_24, zi_25, zi_26, zi_30, zi_31, zi_32, zi_34, zi_38, zi_59, zi_60, zi_61, zi_63, zi_64, zi_80, zi_96, zi_97, zi_99, zi_100, zi_122, zi_255, zi_256, zi_300, zi_398, zi_406, zi_900, zi_1000, zi_1024, zi_1624, zi_1662, zi_2030, zi_2031, zi_2068, zi_2258, zi_9999, zi_48, zi_57, zi_65536, zi_3257, zi_11483, zi_1000000, zi_729, zi_81, zi_m1, nI_add, pk_mul, nI_ltI, nI_leI, nI_eq, nI_clamp, zn_in, zn_sub1lt, zn_M, zn_Ml, zn_Mg, zn_Mle, zn_Mge, zn_sub, Nat.reduceAdd, Nat.reduceMul, forall_eq, true_imp_iff, false_imp_iff, and_true, true_and, not_true_eq_false, not_false_eq_true, reduceCtorEq, imp_self, eq_self, false_and, and_false, implies_true]
    refine ⟨fun g => absurd g (by omega), fun _ => ⟨fun g => absurd g (by omega), fun _ => ⟨fun g => absurd g (by omega), fun _ => ⟨by omega, ?_⟩⟩⟩⟩
    by_cases g : cg q tv t m
    · obtain ⟨g1, g2⟩ := id g
      have k1 := k1 g
      rw [g1]
      simp (disch := omega) only [zj_0, zj_1, zj_2, zj_4, zj_6, zj_7, zj_8, zj_16, zj_20, zj_60, zj_63, zj_64, zj_99, zj_9999, nI_l, zk_lt, zk_le, zk_eq, zk_add, zk_in]
      refine ⟨fun z => absurd z (by omega), fun _ => ⟨fun _ => ?_, fun z => absurd g2 z⟩⟩
      refine (zl_up (P := fun f' x => ∀ I3, I3 24 2 = nI (q 0 * q 1) → I3 24 3 = nI (2 ^ n - 1) → I3 26 0 = nI 0 → (∀ z, z < x → I3 25 z = nI (ch q tv t z (m + 1))) → (∀ z, x ≤ z → z < (q 0 * q 1) → I3 25 z = nI (ch q tv t z m)) → (∀ r j, (r < 24 ∨ 26 < r ∨ (r = 26 ∧ j = 0)) → I3 r j = I r j) → wl_Covering_solve_70 L R 24 c (59 + 2 * t) (nI n) Q (wl_Covering_solve_33 L R 24 c (59 + 2 * t) (nI n) Q f) f' I3 (nI m) (lN (cw tv t m)) (nI x)) (q 0 * q 1) (fun f' I3 b1 b2 b3 b4 b5 b6 => ?_) (fun f' x hx ih I3 b1 b2 b3 b4 b5 b6 => ?_) 0 (by omega)).elim fun z hz => ⟨z, hz I2 c2.1 c2.2.1 c2.2.2.1 (fun z hz => absurd hz (by omega)) (fun z _ hz => c2.2.2.2 z hz) e2⟩
      · rw [wl_Covering_solve_70]
        simp (disch := omega) only [b1, zi_0, zi_1, zi_2, zi_3, zi_4, zi_5, zi_6, zi_7, zi_8, zi_9, zi_10, zi_11, zi_12, zi_13, zi_14, zi_15, zi_16, zi_17, zi_18, zi_19, zi_20, zi_21, zi_22, zi_23, zi_24, zi_25, zi_26, zi_30, zi_31, zi_32, zi_34, zi_38, zi_59, zi_60, zi_61, zi_63, zi_64, zi_80, zi_96, zi_97, zi_99, zi_100, zi_122, zi_255, zi_256, zi_300, zi_398, zi_406, zi_900, zi_1000, zi_1024, zi_1624, zi_1662, zi_2030, zi_2031, zi_2068, zi_2258, zi_9999, zi_48, zi_57, zi_65536, zi_3257, zi_11483, zi_1000000, zi_729, zi_81, zi_m1, nI_add, pk_mul, nI_ltI, nI_leI, nI_eq, nI_clamp, zn_in, zn_sub1lt, zn_M, zn_Ml, zn_Mg, zn_Mle, zn_Mge, zn_sub, Nat.reduceAdd, Nat.reduceMul]
        exact ⟨fun _ => k1 I3 ⟨b1, b2, b3, b4⟩ b6, fun g => absurd (Nat.le_refl _) g⟩
      · have h3 : sq_U q c d I3 L := h.keep (fun r hr => by funext j; exact b6 r j (by omega)) rfl
        have f50 := ok.far50 (show cw tv t m < 25 by omega) (show x < 25 by omega)
        have cs := ch_s (q := q) (tv := tv) (t := t) x m
        rw [wl_Covering_solve_70]
        simp (disch := omega) only [b1, wp_Square_isNear, lN_i, zi_0, zi_1, zi_2, zi_3, zi_4, zi_5, zi_6, zi_7, zi_8, zi_9, zi_10, zi_11, zi_12, zi_13, zi_14, zi_15, zi_16, zi_17, zi_18, zi_19, zi_20, zi_21, zi_22, zi_23, zi_24, zi_25, zi_26, zi_30, zi_31, zi_32, zi_34, zi_38, zi_59, zi_60, zi_61, zi_63, zi_64, zi_80, zi_96, zi_97, zi_99, zi_100, zi_122, zi_255, zi_256, zi_300, zi_398, zi_406, zi_900, zi_1000, zi_1024, zi_1624, zi_1662, zi_2030, zi_2031, zi_2068, zi_2258, zi_9999, zi_48, zi_57, zi_65536, zi_3257, zi_11483, zi_1000000, zi_729, zi_81, zi_m1, nI_add, pk_mul, nI_ltI, nI_leI, nI_eq, nI_clamp, zn_in, zn_sub1lt, zn_M, zn_Ml, zn_Mg, zn_Mle, zn_Mge, zn_sub, Nat.reduceAdd, Nat.reduceMul]
        refine ⟨fun g => absurd g (by omega), fun _ => su_far h3 ok (by omega) (by omega) ?_⟩
        rw [sq_far_comm]
        simp (disch := omega) only [zi_0, zi_1, zi_2, zi_3, zi_4, zi_5, zi_6, zi_7, zi_8, zi_9, zi_10, zi_11, zi_12, zi_13, zi_14, zi_15, zi_16, zi_17, zi_18, zi_19, zi_20, zi_21, zi_22, zi_23, zi_24, zi_25, zi_26, zi_30, zi_31, zi_32, zi_34, zi_38, zi_59, zi_60, zi_61, zi_63, zi_64, zi_80, zi_96, zi_97, zi_99, zi_100, zi_122, zi_255, zi_256, zi_300, zi_398, zi_406, zi_900, zi_1000, zi_1024, zi_1624, zi_1662, zi_2030, zi_2031, zi_2068, zi_2258, zi_9999, zi_48, zi_57, zi_65536, zi_3257, zi_11483, zi_1000000, zi_729, zi_81, zi_m1, nI_add, pk_mul, nI_ltI, nI_leI, nI_eq, nI_clamp, zn_in, zn_sub1lt, zn_M, zn_Ml, zn_Mg, zn_Mle, zn_Mge, zn_sub, Nat.reduceAdd, Nat.reduceMul, forall_eq, true_imp_iff, false_imp_iff, and_true, true_and, not_true_eq_false, not_false_eq_true, reduceCtorEq, imp_self, eq_self, false_and, and_false, implies_true]
        refine ⟨fun g => ?_, fun g => ⟨by omega, by omega, ?_⟩⟩
        · refine ih I3 b1 b2 b3 (fun z hz => ?_) (fun z h1 h2 => b5 z (by omega) h2) b6
          by_cases e : z = x
          · rw [e, b5 x (Nat.le_refl _) hx, cs, if_neg (by omega), Nat.or_zero]
          · exact b4 z (by omega)
        · rw [b5 x (Nat.le_refl _) hx, zn_shl (by omega), ze_or]
          refine ih _ (by rw [am_u2o (by omega)]; exact b1) (by rw [am_u2o (by omega)]; exact b2) (by rw [am_u2o (by omega)]; exact b3) (fun z hz => ?_) (fun z h1 h2 => by rw [am_u2_ne _ _ _ _ (by omega)]; exact b5 z (by omega) h2) (fun r j g => by rw [am_u2o (by omega)]; exact b6 r j g)
          by_cases e : z = x
          · rw [e, am_u2_at, cs, if_pos (by omega)]
          · rw [am_u2_ne _ _ _ _ e]; exact b4 z (by omega)
    · have k5 := k2 g
      rcases cg_bad g with g1 | ⟨x, hx, g1, g2⟩
      · exact ⟨fun _ => k5, fun z => absurd g1 z⟩
      · rw [g1]
        simp (disch := omega) only [zj_0, zj_1, zj_2, zj_4, zj_6, zj_7, zj_8, zj_16, zj_20, zj_60, zj_63, zj_64, zj_99, zj_9999, nI_l, zk_lt, zk_le, zk_eq, zk_add, zk_in]
        exact ⟨fun _ => k5, fun _ => ⟨fun z => absurd z (by omega), fun _ => k5⟩⟩
  by_cases g : ∀ i, i < n → cg q tv t i
  · refine (zl_up (P := fun f m => ∀ I2, cq_U q tv t n m I2 → (∀ r j, (r < 24 ∨ 26 < r ∨ (r = 26 ∧ j = 0)) → I2 r j = I r j) → wl_Covering_solve_33 L R 24 c (59 + 2 * t) (nI n) Q f I2 (nI m)) n (fun f I2 c2 e2 => ?_) (fun f m hm ih I2 c2 e2 => ?_) 0 (by omega)).elim fun z hz => ⟨z, hz I1 c1 e1⟩
    · rw [wl_Covering_solve_33]
      simp (disch := omega) only [zi_0, zi_1, zi_2, zi_3, zi_4, zi_5, zi_6, zi_7, zi_8, zi_9, zi_10, zi_11, zi_12, zi_13, zi_14, zi_15, zi_16, zi_17, zi_18, zi_19, zi_20, zi_21, zi_22, zi_23, zi_24, zi_25, zi_26, zi_30, zi_31, zi_32, zi_34, zi_38, zi_59, zi_60, zi_61, zi_63, zi_64, zi_80, zi_96, zi_97, zi_99, zi_100, zi_122, zi_255, zi_256, zi_300, zi_398, zi_406, zi_900, zi_1000, zi_1024, zi_1624, zi_1662, zi_2030, zi_2031, zi_2068, zi_2258, zi_9999, zi_48, zi_57, zi_65536, zi_3257, zi_11483, zi_1000000, zi_729, zi_81, zi_m1, nI_add, pk_mul, nI_ltI, nI_leI, nI_eq, nI_clamp, zn_in, zn_sub1lt, zn_M, zn_Ml, zn_Mg, zn_Mle, zn_Mge, zn_sub, Nat.reduceAdd, Nat.reduceMul]
      exact ⟨fun _ => tail I2 c2 g e2, fun z => absurd (Nat.le_refl _) z⟩
    · exact body m hm f I2 c2 e2 (fun _ I3 c3 e3 => ih I3 c3 e3) (fun z => absurd (g m hm) z)
  · obtain ⟨m, hm, h0⟩ := pk_least (fun m => m < n ∧ ¬ cg q tv t m) (by
      apply Classical.byContradiction
      intro e
      exact g fun i hi => Classical.byContradiction fun z => e ⟨i, hi, z⟩)
    refine (zl_up (P := fun f m => ∀ I2, cq_U q tv t n m I2 → (∀ r j, (r < 24 ∨ 26 < r ∨ (r = 26 ∧ j = 0)) → I2 r j = I r j) → wl_Covering_solve_33 L R 24 c (59 + 2 * t) (nI n) Q f I2 (nI m)) m (fun f I2 c2 e2 => ?_) (fun f i hi ih I2 c2 e2 => ?_) 0 (by omega)).elim fun z hz => ⟨z, hz I1 c1 e1⟩
    · exact body m hm.1 f I2 c2 e2 (fun z => absurd z hm.2) (fun _ => kF g I2 e2)
    · exact body i (by omega) f I2 c2 e2 (fun _ I3 c3 e3 => ih I3 c3 e3) (fun z => absurd ⟨by omega, z⟩ (h0 i hi))
theorem sm_wrongC (h : sq_M q 0 I L) (ok : sq_Ok q) (y : tr_M tm ts tv I L) {t n : Nat} (ht : t < 4) (hn : n ≤ 8) (h2 : n < tm t) {Q : Int32 → Prop} (k0 : (∀ i, i < n → cg q tv t i) → Q (nI 0)) (k5 : ¬ (∀ i, i < n → cg q tv t i) → Q (nI 5)) : ∃ z, wl_M_wrongCells_47 I L R 103 (nI t) (nI n) Q z 0 := by
  have o := ok.cells
  have body : ∀ m, m < n → ∀ w, (cg q tv t m → wl_M_wrongCells_47 I L R 103 (nI t) (nI n) Q w (nI (m + 1))) → (¬ cg q tv t m → Q (nI 5)) → wl_M_wrongCells_47 I L R 103 (nI t) (nI n) Q (w + 1) (nI m) := by
    intro m hm w k1 k2
    have e1 := y.at ht (show m + 1 < tm t by omega)
    rw [wl_M_wrongCells_47]
    simp (disch := omega) only [wp_M_cellsOf, wp_M_isFrom, h.n0, h.n1, e1, zj_0, zj_1, zj_2, zj_4, zj_6, zj_7, zj_8, zj_16, zj_20, zj_60, zj_63, zj_64, zj_99, zj_9999, nI_l, zk_lt, zk_le, zk_eq, zk_add, zk_in, zi_0, zi_1, zi_2, zi_3, zi_4, zi_5, zi_6, zi_7, zi_8, zi_9, zi_10, zi_11, zi_12, zi_13, zi_14, zi_15, zi_16, zi_17, zi_18, zi_19, zi_20, zi_21, zi_22, zi_23, zi_24, zi_25, zi_26, zi_30, zi_31, zi_32, zi_34, zi_38, zi_59, zi_60, zi_61, zi_63, zi_64, zi_80, zi_96, zi_97, zi_99, zi_100, zi_122, zi_255, zi_256, zi_300, zi_398, zi_406, zi_900, zi_1000, zi_1024, zi_1624, zi_1662, zi_2030, zi_2031, zi_2068, zi_2258, zi_9999, zi_48, zi_57, zi_65536, zi_3257, zi_11483, zi_1000000, zi_729, zi_81, zi_m1, nI_add, pk_mul, nI_ltI, nI_leI, nI_eq, nI_clamp, zn_in, zn_sub1lt, zn_M, zn_Ml, zn_Mg, zn_Mle, zn_Mge, zn_sub, Nat.reduceAdd, Nat.reduceMul, forall_eq, true_imp_iff, false_imp_iff, and_true, true_and, not_true_eq_false, not_false_eq_true, reduceCtorEq, imp_self, eq_self, false_and, and_false, implies_true]
    refine ⟨fun g => absurd g (by omega), fun _ => ⟨by omega, by omega, by omega, ?_⟩⟩
    by_cases g : cg q tv t m
    · obtain ⟨g1, g2⟩ := id g
      rw [g1]
      simp (disch := omega) only [zk_sub1, zj_0, zj_1, zj_2, zj_4, zj_6, zj_7, zj_8, zj_16, zj_20, zj_60, zj_63, zj_64, zj_99, zj_9999, nI_l, zk_lt, zk_le, zk_eq, zk_add, zk_in]
      exact ⟨fun z => absurd z (by omega), fun _ => ⟨fun z => absurd z (by omega), fun _ => k1 g⟩⟩
    · have k5 := k2 g
      rcases cg_bad g with g1 | ⟨x, hx, g1, g2⟩
      · exact ⟨fun _ => k5, fun z => absurd g1 z⟩
      · rw [g1]
        simp (disch := omega) only [zk_sub1, zj_0, zj_1, zj_2, zj_4, zj_6, zj_7, zj_8, zj_16, zj_20, zj_60, zj_63, zj_64, zj_99, zj_9999, nI_l, zk_lt, zk_le, zk_eq, zk_add, zk_in]
        exact ⟨fun _ => k5, fun _ => ⟨fun _ => k5, fun z => absurd g2 z⟩⟩
  by_cases g : ∀ i, i < n → cg q tv t i
  · refine zl_up (P := fun w m => wl_M_wrongCells_47 I L R 103 (nI t) (nI n) Q w (nI m)) n (fun w => ?_) (fun w m hm ih => ?_) 0 (by omega)
    · rw [wl_M_wrongCells_47]
      simp (disch := omega) only [zi_0, zi_1, zi_2, zi_3, zi_4, zi_5, zi_6, zi_7, zi_8, zi_9, zi_10, zi_11, zi_12, zi_13, zi_14, zi_15, zi_16, zi_17, zi_18, zi_19, zi_20, zi_21, zi_22, zi_23, zi_24, zi_25, zi_26, zi_30, zi_31, zi_32, zi_34, zi_38, zi_59, zi_60, zi_61, zi_63, zi_64, zi_80, zi_96, zi_97, zi_99, zi_100, zi_122, zi_255, zi_256, zi_300, zi_398, zi_406, zi_900, zi_1000, zi_1024, zi_1624, zi_1662, zi_2030, zi_2031, zi_2068, zi_2258, zi_9999, zi_48, zi_57, zi_65536, zi_3257, zi_11483, zi_1000000, zi_729, zi_81, zi_m1, nI_add, pk_mul, nI_ltI, nI_leI, nI_eq, nI_clamp, zn_in, zn_sub1lt, zn_M, zn_Ml, zn_Mg, zn_Mle, zn_Mge, zn_sub, Nat.reduceAdd, Nat.reduceMul, forall_eq, true_imp_iff, false_imp_iff, and_true, true_and, not_true_eq_false, not_false_eq_true, reduceCtorEq, imp_self, eq_self, false_and, and_false, implies_true]
      exact ⟨fun _ => k0 g, fun z => absurd (Nat.le_refl _) z⟩
    · exact body m hm w (fun _ => ih) (fun z => absurd (g m hm) z)
  · obtain ⟨m, hm, h0⟩ := pk_least (fun m => m < n ∧ ¬ cg q tv t m) (by
      apply Classical.byContradiction
      intro e
      exact g fun i hi => Classical.byContradiction fun z => e ⟨i, hi, z⟩)
    refine zl_up (P := fun w m => wl_M_wrongCells_47 I L R 103 (nI t) (nI n) Q w (nI m)) m (fun w => ?_) (fun w i hi ih => ?_) 0 (by omega)
    · exact body m hm.1 w (fun z => absurd z hm.2) (fun _ => k5 g)
    · exact body i (by omega) w (fun _ => ih) (fun z => absurd ⟨by omega, z⟩ (h0 i hi))
theorem sm_hitF (h : sq_M q 0 I L) (ok : sq_Ok q) (y : tr_M tm ts tv I L) {t n x : Nat} (ht : t < 4) (hn : n ≤ 8) (h2 : n < tm t) (hx : x < 25) (gv : ∀ i, i < n → cg q tv t i) {Q : Int32 → Prop} (k : Q (nI (ch q tv t x n))) : wp_M_hitFrom I L R 103 (nI x) (nI t) (nI n) Q := by
  have o := ok.cells
  refine zl_up (P := fun f m => wl_M_hitFrom_6 I L R 103 (nI x) (nI t) (nI n) Q f (nI (ch q tv t x m)) (nI m)) n (fun f => ?_) (fun f m hm ih => ?_) 0 (by omega)
  · simp (disch := omega) only [wl_M_hitFrom_6, zi_0, zi_1, zi_2, zi_3, zi_4, zi_5, zi_6, zi_7, zi_8, zi_9, zi_10, zi_11, zi_12, zi_13, zi_14, zi_15, zi_16, zi_17, zi_18, zi_19, zi_20, zi_21, zi_22, zi_23, zi_24, zi_25, zi_26, zi_30, zi_31, zi_32, zi_34, zi_38, zi_59, zi_60, zi_61, zi_63, zi_64, zi_80, zi_96, zi_97, zi_99, zi_100, zi_122, zi_255, zi_256, zi_300, zi_398, zi_406, zi_900, zi_1000, zi_1024, zi_1624, zi_1662, zi_2030, zi_2031, zi_2068, zi_2258, zi_9999, zi_48, zi_57, zi_65536, zi_3257, zi_11483, zi_1000000, zi_729, zi_81, zi_m1, nI_add, pk_mul, nI_ltI, nI_leI, nI_eq, nI_clamp, zn_in, zn_sub1lt, zn_M, zn_Ml, zn_Mg, zn_Mle, zn_Mge, zn_sub, Nat.reduceAdd, Nat.reduceMul]
    exact ⟨fun _ => k, fun g => absurd (Nat.le_refl _) g⟩
  · obtain ⟨g1, g2⟩ := gv m hm
    have e1 := y.at ht (show m + 1 < tm t by omega)
    have cs := ch_s (q := q) (tv := tv) (t := t) x m
    have f50 := ok.far50 (show cw tv t m < 25 by omega) hx
    rw [wl_M_hitFrom_6]
    simp (disch := omega) only [e1, zi_0, zi_1, zi_2, zi_3, zi_4, zi_5, zi_6, zi_7, zi_8, zi_9, zi_10, zi_11, zi_12, zi_13, zi_14, zi_15, zi_16, zi_17, zi_18, zi_19, zi_20, zi_21, zi_22, zi_23, zi_24, zi_25, zi_26, zi_30, zi_31, zi_32, zi_34, zi_38, zi_59, zi_60, zi_61, zi_63, zi_64, zi_80, zi_96, zi_97, zi_99, zi_100, zi_122, zi_255, zi_256, zi_300, zi_398, zi_406, zi_900, zi_1000, zi_1024, zi_1624, zi_1662, zi_2030, zi_2031, zi_2068, zi_2258, zi_9999, zi_48, zi_57, zi_65536, zi_3257, zi_11483, zi_1000000, zi_729, zi_81, zi_m1, nI_add, pk_mul, nI_ltI, nI_leI, nI_eq, nI_clamp, zn_in, zn_sub1lt, zn_M, zn_Ml, zn_Mg, zn_Mle, zn_Mge, zn_sub, Nat.reduceAdd, Nat.reduceMul]
    refine ⟨fun g => absurd g (by omega), fun _ => ⟨by omega, ?_⟩⟩
    rw [g1, lN_i]
    refine sm_far h ok (by omega) hx ?_
    simp (disch := omega) only [zn_shl, ze_or, zi_0, zi_1, zi_2, zi_3, zi_4, zi_5, zi_6, zi_7, zi_8, zi_9, zi_10, zi_11, zi_12, zi_13, zi_14, zi_15, zi_16, zi_17, zi_18, zi_19, zi_20, zi_21, zi_22, zi_23, zi_24, zi_25, zi_26, zi_30, zi_31, zi_32, zi_34, zi_38, zi_59, zi_60, zi_61, zi_63, zi_64, zi_80, zi_96, zi_97, zi_99, zi_100, zi_122, zi_255, zi_256, zi_300, zi_398, zi_406, zi_900, zi_1000, zi_1024, zi_1624, zi_1662, zi_2030, zi_2031, zi_2068, zi_2258, zi_9999, zi_48, zi_57, zi_65536, zi_3257, zi_11483, zi_1000000, zi_729, zi_81, zi_m1, nI_add, pk_mul, nI_ltI, nI_leI, nI_eq, nI_clamp, zn_in, zn_sub1lt, zn_M, zn_Ml, zn_Mg, zn_Mle, zn_Mge, zn_sub, Nat.reduceAdd, Nat.reduceMul]
    refine ⟨fun g => ?_, fun g => ?_⟩
    · rw [cs, if_neg (by omega)] at ih; exact ih
    · rw [cs, if_pos (by omega)] at ih; exact ih
/-- the reference's table -/
def cq_M (q : Nat → Nat) (tv : Nat → Nat → Int64) (t n x : Nat) (I : am_TI) : Prop := ∀ z, x ≤ z → z ≤ (q 0 * q 1) → ∀ X, X < 2 ^ n → I 120 (256 * z + X) = nI (cG (fun x => ch q tv t x n) (q 0 * q 1) 1000000 ((q 0 * q 1) - z) (zan (2 ^ n - 1) X))
theorem zan_all {n X : Nat} (hX : X < 2 ^ n) : zan (2 ^ n - 1) X = 0 ↔ X = 2 ^ n - 1 := by
  constructor
  · intro h
    have := zan_0 h
    omega
  · intro h; rw [h]; unfold zan; rw [Nat.and_self, Nat.xor_self]
theorem sm_throws (h : sq_M q 0 I L) (ok : sq_Ok q) (y : tr_M tm ts tv I L) {t n : Nat} (ht : t < 4) (hn : n ≤ 8) (h2 : n < tm t) (gv : ∀ i, i < n → cg q tv t i) {Q : am_TI → Prop} (k : ∀ I1, cq_M q tv t n 0 I1 → (∀ r, r ≠ 120 → I1 r = I r) → Q I1) : wp_M_laysThrows I L R 103 (nI t) (nI n) Q := by
  have o := ok.cells
  have p2 : 2 ^ n ≤ 256 ∧ 1 ≤ 2 ^ n := ⟨Nat.pow_le_pow_right (n := 2) (by decide) hn, Nat.one_le_two_pow⟩
  unfold wp_M_laysThrows
  refine sm_cells h ?_
  simp (disch := omega) only [zn_shl, zi_0, zi_1, zi_2, zi_3, zi_4, zi_5, zi_6, zi_7, zi_8, zi_9, zi_10, zi_11, zi_12, zi_13, zi_14, zi_15, zi_16, zi_17, zi_18, zi_19, zi_20, zi_21, zi_22, zi_23, zi_24, zi_25, zi_26, zi_30, zi_31, zi_32, zi_34, zi_38, zi_59, zi_60, zi_61, zi_63, zi_64, zi_80, zi_96, zi_97, zi_99, zi_100, zi_122, zi_255, zi_256, zi_300, zi_398, zi_406, zi_900, zi_1000, zi_1024, zi_1624, zi_1662, zi_2030, zi_2031, zi_2068, zi_2258, zi_9999, zi_48, zi_57, zi_65536, zi_3257, zi_11483, zi_1000000, zi_729, zi_81, zi_m1, nI_add, pk_mul, nI_ltI, nI_leI, nI_eq, nI_clamp, zn_in, zn_sub1lt, zn_M, zn_Ml, zn_Mg, zn_Mle, zn_Mge, zn_sub, Nat.reduceAdd, Nat.reduceMul]
  have e1M : (1000000 : Int32) = nI 1000000 := rfl
  have keep : ∀ I1, (∀ r, r ≠ 120 → I1 r = I r) → sq_M q 0 I1 L ∧ tr_M tm ts tv I1 L := fun I1 e => ⟨h.keep (fun j _ _ => by rw [e 104 (by omega)]) rfl ok.2.2.2.2.1, y.keep (e 106 (by omega)) (e 107 (by omega)) rfl⟩
  -- a row of the table
  have row : ∀ x, x ≤ (q 0 * q 1) → ∀ hh, (x < (q 0 * q 1) → hh = ch q tv t x n) → hh < 2 ^ n → ∀ f I1, cq_M q tv t n (x + 1) I1 → (∀ r, r ≠ 120 → I1 r = I r) → (∀ I2, cq_M q tv t n x I2 → (∀ r, r ≠ 120 → I2 r = I r) → wl_M_laysThrows_13 L R 103 (nI t) (nI n) Q f I2 (nI (2 ^ n - 1)) (nI x + -1)) → wb_M_laysThrows_40 L R 103 (nI t) (nI n) Q (wl_M_laysThrows_13 L R 103 (nI t) (nI n) Q f) I1 (nI (2 ^ n - 1)) (nI x) (nI hh) := by
    intro x hx hh hhe hhl f I1 c1 e1 kk
    refine (zl_up (P := fun f' X => ∀ I2, cq_M q tv t n (x + 1) I2 → (∀ Y, Y < X → I2 120 (256 * x + Y) = nI (cG (fun x => ch q tv t x n) (q 0 * q 1) 1000000 ((q 0 * q 1) - x) (zan (2 ^ n - 1) Y))) → (∀ r, r ≠ 120 → I2 r = I r) → wl_M_laysThrows_45 L R 103 (nI t) (nI n) Q (wl_M_laysThrows_13 L R 103 (nI t) (nI n) Q f) f' I2 (nI (2 ^ n - 1)) (nI x) (nI hh) (nI X)) (2 ^ n) (fun f' I2 c2 t2 e2 => ?_) (fun f' X hX ih I2 c2 t2 e2 => ?_) 0 (by omega)).elim fun z hz => ⟨z, hz I1 c1 (fun Y hY => absurd hY (by omega)) e1⟩
    · rw [wl_M_laysThrows_45]
      simp (disch := omega) only [zi_0, zi_1, zi_2, zi_3, zi_4, zi_5, zi_6, zi_7, zi_8, zi_9, zi_10, zi_11, zi_12, zi_13, zi_14, zi_15, zi_16, zi_17, zi_18, zi_19, zi_20, zi_21, zi_22, zi_23, zi_24, zi_25, zi_26, zi_30, zi_31, zi_32, zi_34, zi_38, zi_59, zi_60, zi_61, zi_63, zi_64, zi_80, zi_96, zi_97, zi_99, zi_100, zi_122, zi_255, zi_256, zi_300, zi_398, zi_406, zi_900, zi_1000, zi_1024, zi_1624, zi_1662, zi_2030, zi_2031, zi_2068, zi_2258, zi_9999, zi_48, zi_57, zi_65536, zi_3257, zi_11483, zi_1000000, zi_729, zi_81, zi_m1, nI_add, pk_mul, nI_ltI, nI_leI, nI_eq, nI_clamp, zn_in, zn_sub1lt, zn_M, zn_Ml, zn_Mg, zn_Mle, zn_Mge, zn_sub, Nat.reduceAdd, Nat.reduceMul]
      refine ⟨fun _ => kk I2 (fun z h1 h2 X hX => ?_) e2, fun g => absurd (by omega) g⟩
      by_cases e : z = x
      · rw [e]; exact t2 X hX
      · exact c2 z (by omega) h2 X hX
    · obtain ⟨h2', y2'⟩ := keep I2 e2
      have nx : ∀ v, v = nI (cG (fun x => ch q tv t x n) (q 0 * q 1) 1000000 ((q 0 * q 1) - x) (zan (2 ^ n - 1) X)) → wl_M_laysThrows_45 L R 103 (nI t) (nI n) Q (wl_M_laysThrows_13 L R 103 (nI t) (nI n) Q f) f' (am_u2 I2 120 (256 * x + X) v) (nI (2 ^ n - 1)) (nI x) (nI hh) (nI (X + 1)) := by
        intro v hv
        refine ih _ (fun z h1 h2 Y hY => ?_) (fun Y hY => ?_) (fun r hr => by rw [am_u2_row _ _ _ _ hr]; exact e2 r hr)
        · rw [am_u2_ne _ _ _ _ (by omega)]; exact c2 z h1 h2 Y hY
        · by_cases e : Y = X
          · rw [e, am_u2_at, hv]
          · rw [am_u2_ne _ _ _ _ (by omega)]; exact t2 Y (by omega)
      have st : ∀ a b, (zan (2 ^ n - 1) X ≠ 0 → min a b = cG (fun x => ch q tv t x n) (q 0 * q 1) 1000000 ((q 0 * q 1) - x) (zan (2 ^ n - 1) X)) → a ≤ 1000000 → b ≤ 1000001 → wb_M_laysThrows_122 L R 103 (nI t) (nI n) Q (wl_M_laysThrows_13 L R 103 (nI t) (nI n) Q f) (wl_M_laysThrows_45 L R 103 (nI t) (nI n) Q (wl_M_laysThrows_13 L R 103 (nI t) (nI n) Q f) f') I2 (nI (2 ^ n - 1)) (nI x) (nI hh) (nI X) (nI a) (nI b) := by
        intro a b hab ha hb
        have za := zan_all hX
        simp (disch := omega) only [wb_M_laysThrows_122, zn_min, zi_0, zi_1, zi_2, zi_3, zi_4, zi_5, zi_6, zi_7, zi_8, zi_9, zi_10, zi_11, zi_12, zi_13, zi_14, zi_15, zi_16, zi_17, zi_18, zi_19, zi_20, zi_21, zi_22, zi_23, zi_24, zi_25, zi_26, zi_30, zi_31, zi_32, zi_34, zi_38, zi_59, zi_60, zi_61, zi_63, zi_64, zi_80, zi_96, zi_97, zi_99, zi_100, zi_122, zi_255, zi_256, zi_300, zi_398, zi_406, zi_900, zi_1000, zi_1024, zi_1624, zi_1662, zi_2030, zi_2031, zi_2068, zi_2258, zi_9999, zi_48, zi_57, zi_65536, zi_3257, zi_11483, zi_1000000, zi_729, zi_81, zi_m1, nI_add, pk_mul, nI_ltI, nI_leI, nI_eq, nI_clamp, zn_in, zn_sub1lt, zn_M, zn_Ml, zn_Mg, zn_Mle, zn_Mge, zn_sub, Nat.reduceAdd, Nat.reduceMul]
        refine ⟨fun g => ⟨by omega, fun I3 h3 => ?_⟩, fun g => ⟨by omega, fun I3 h3 => ?_⟩⟩
        · rw [h3]; exact nx _ (by rw [za.mpr g, cG_0])
        · rw [h3]; exact nx _ (by rw [hab (fun e => g (za.mp e))])
      rw [wl_M_laysThrows_45]
      simp (disch := omega) only [zi_0, zi_1, zi_2, zi_3, zi_4, zi_5, zi_6, zi_7, zi_8, zi_9, zi_10, zi_11, zi_12, zi_13, zi_14, zi_15, zi_16, zi_17, zi_18, zi_19, zi_20, zi_21, zi_22, zi_23, zi_24, zi_25, zi_26, zi_30, zi_31, zi_32, zi_34, zi_38, zi_59, zi_60, zi_61, zi_63, zi_64, zi_80, zi_96, zi_97, zi_99, zi_100, zi_122, zi_255, zi_256, zi_300, zi_398, zi_406, zi_900, zi_1000, zi_1024, zi_1624, zi_1662, zi_2030, zi_2031, zi_2068, zi_2258, zi_9999, zi_48, zi_57, zi_65536, zi_3257, zi_11483, zi_1000000, zi_729, zi_81, zi_m1, nI_add, pk_mul, nI_ltI, nI_leI, nI_eq, nI_clamp, zn_in, zn_sub1lt, zn_M, zn_Ml, zn_Mg, zn_Mle, zn_Mge, zn_sub, Nat.reduceAdd, Nat.reduceMul]
      refine ⟨fun g => absurd g (by omega), fun _ => sm_cells h2' ?_⟩
      simp (disch := omega) only [zi_0, zi_1, zi_2, zi_3, zi_4, zi_5, zi_6, zi_7, zi_8, zi_9, zi_10, zi_11, zi_12, zi_13, zi_14, zi_15, zi_16, zi_17, zi_18, zi_19, zi_20, zi_21, zi_22, zi_23, zi_24, zi_25, zi_26, zi_30, zi_31, zi_32, zi_34, zi_38, zi_59, zi_60, zi_61, zi_63, zi_64, zi_80, zi_96, zi_97, zi_99, zi_100, zi_122, zi_255, zi_256, zi_300, zi_398, zi_406, zi_900, zi_1000, zi_1024, zi_1624, zi_1662, zi_2030, zi_2031, zi_2068, zi_2258, zi_9999, zi_48, zi_57, zi_65536, zi_3257, zi_11483, zi_1000000, zi_729, zi_81, zi_m1, nI_add, pk_mul, nI_ltI, nI_leI, nI_eq, nI_clamp, zn_in, zn_sub1lt, zn_M, zn_Ml, zn_Mg, zn_Mle, zn_Mge, zn_sub, Nat.reduceAdd, Nat.reduceMul]
      refine ⟨fun g => ?_, fun g => ⟨by omega, ?_⟩⟩
      · unfold wb_M_laysThrows_83
        refine sm_cells h2' ?_
        simp (disch := omega) only [zi_0, zi_1, zi_2, zi_3, zi_4, zi_5, zi_6, zi_7, zi_8, zi_9, zi_10, zi_11, zi_12, zi_13, zi_14, zi_15, zi_16, zi_17, zi_18, zi_19, zi_20, zi_21, zi_22, zi_23, zi_24, zi_25, zi_26, zi_30, zi_31, zi_32, zi_34, zi_38, zi_59, zi_60, zi_61, zi_63, zi_64, zi_80, zi_96, zi_97, zi_99, zi_100, zi_122, zi_255, zi_256, zi_300, zi_398, zi_406, zi_900, zi_1000, zi_1024, zi_1624, zi_1662, zi_2030, zi_2031, zi_2068, zi_2258, zi_9999, zi_48, zi_57, zi_65536, zi_3257, zi_11483, zi_1000000, zi_729, zi_81, zi_m1, nI_add, pk_mul, nI_ltI, nI_leI, nI_eq, nI_clamp, zn_in, zn_sub1lt, zn_M, zn_Ml, zn_Mg, zn_Mle, zn_Mge, zn_sub, Nat.reduceAdd, Nat.reduceMul]
        refine ⟨fun _ => st 1000000 1000000 (fun e => ?_) (by omega) (by omega), fun g2 => absurd g g2⟩
        rw [g, Nat.sub_self, cG, if_neg e]; rfl
      · have gl := cG_le (h := (fun x => ch q tv t x n)) (C := (q 0 * q 1)) (Z := 1000000) ((q 0 * q 1) - (x + 1))
        have xl : X ||| hh < 2 ^ n := Nat.or_lt_two_pow hX hhl
        rw [c2 (x + 1) (Nat.le_refl _) (by omega) X hX]
        unfold wb_M_laysThrows_83
        refine sm_cells h2' ?_
        simp (disch := omega) only [ze_or, c2 (x + 1) (Nat.le_refl _) (by omega) (X ||| hh) xl, zi_0, zi_1, zi_2, zi_3, zi_4, zi_5, zi_6, zi_7, zi_8, zi_9, zi_10, zi_11, zi_12, zi_13, zi_14, zi_15, zi_16, zi_17, zi_18, zi_19, zi_20, zi_21, zi_22, zi_23, zi_24, zi_25, zi_26, zi_30, zi_31, zi_32, zi_34, zi_38, zi_59, zi_60, zi_61, zi_63, zi_64, zi_80, zi_96, zi_97, zi_99, zi_100, zi_122, zi_255, zi_256, zi_300, zi_398, zi_406, zi_900, zi_1000, zi_1024, zi_1624, zi_1662, zi_2030, zi_2031, zi_2068, zi_2258, zi_9999, zi_48, zi_57, zi_65536, zi_3257, zi_11483, zi_1000000, zi_729, zi_81, zi_m1, nI_add, pk_mul, nI_ltI, nI_leI, nI_eq, nI_clamp, zn_in, zn_sub1lt, zn_M, zn_Ml, zn_Mg, zn_Mle, zn_Mge, zn_sub, Nat.reduceAdd, Nat.reduceMul]
        refine ⟨fun g2 => absurd g2 g, fun _ => ⟨by omega, st _ _ (fun e => ?_) (gl _) (by have := gl (zan (2 ^ n - 1) (X ||| hh)); omega)⟩⟩
        rw [show (q 0 * q 1) - x = (q 0 * q 1) - (x + 1) + 1 by omega, cG, if_neg e, show (q 0 * q 1) - ((q 0 * q 1) - (x + 1) + 1) = x by omega, zan_or2, hhe (by omega)]
  have go : ∀ x, x ≤ (q 0 * q 1) → ∀ I1, cq_M q tv t n (x + 1) I1 → (∀ r, r ≠ 120 → I1 r = I r) → wl_M_laysThrows_13 L R 103 (nI t) (nI n) Q (x + 2) I1 (nI (2 ^ n - 1)) (nI x) := by
    intro x
    induction x with
    | zero =>
      intro hx I1 c1 e1
      obtain ⟨h1', y1'⟩ := keep I1 e1
      rw [wl_M_laysThrows_13]
      simp (disch := omega) only [zi_0, zi_1, zi_2, zi_3, zi_4, zi_5, zi_6, zi_7, zi_8, zi_9, zi_10, zi_11, zi_12, zi_13, zi_14, zi_15, zi_16, zi_17, zi_18, zi_19, zi_20, zi_21, zi_22, zi_23, zi_24, zi_25, zi_26, zi_30, zi_31, zi_32, zi_34, zi_38, zi_59, zi_60, zi_61, zi_63, zi_64, zi_80, zi_96, zi_97, zi_99, zi_100, zi_122, zi_255, zi_256, zi_300, zi_398, zi_406, zi_900, zi_1000, zi_1024, zi_1624, zi_1662, zi_2030, zi_2031, zi_2068, zi_2258, zi_9999, zi_48, zi_57, zi_65536, zi_3257, zi_11483, zi_1000000, zi_729, zi_81, zi_m1, nI_add, pk_mul, nI_ltI, nI_leI, nI_eq, nI_clamp, zn_in, zn_sub1lt, zn_M, zn_Ml, zn_Mg, zn_Mle, zn_Mge, zn_sub, Nat.reduceAdd, Nat.reduceMul]
      refine ⟨fun g => absurd g (by omega), fun _ => sm_cells h1' ?_⟩
      simp (disch := omega) only [zi_0, zi_1, zi_2, zi_3, zi_4, zi_5, zi_6, zi_7, zi_8, zi_9, zi_10, zi_11, zi_12, zi_13, zi_14, zi_15, zi_16, zi_17, zi_18, zi_19, zi_20, zi_21, zi_22, zi_23, zi_24, zi_25, zi_26, zi_30, zi_31, zi_32, zi_34, zi_38, zi_59, zi_60, zi_61, zi_63, zi_64, zi_80, zi_96, zi_97, zi_99, zi_100, zi_122, zi_255, zi_256, zi_300, zi_398, zi_406, zi_900, zi_1000, zi_1024, zi_1624, zi_1662, zi_2030, zi_2031, zi_2068, zi_2258, zi_9999, zi_48, zi_57, zi_65536, zi_3257, zi_11483, zi_1000000, zi_729, zi_81, zi_m1, nI_add, pk_mul, nI_ltI, nI_leI, nI_eq, nI_clamp, zn_in, zn_sub1lt, zn_M, zn_Ml, zn_Mg, zn_Mle, zn_Mge, zn_sub, Nat.reduceAdd, Nat.reduceMul]
      refine ⟨fun g => absurd g (by omega), fun _ => sm_hitF h1' ok y1' ht hn h2 (by omega) gv ?_⟩
      refine row 0 (by omega) (ch q tv t 0 n) (fun _ => rfl) (ch_lt 0 n) 1 I1 c1 e1 (fun I2 c2 e2 => ?_)
      rw [wl_M_laysThrows_13]
      exact ⟨fun _ => k I2 c2 e2, fun g => absurd (by decide) g⟩
    | succ x ih =>
      intro hx I1 c1 e1
      obtain ⟨h1', y1'⟩ := keep I1 e1
      rw [wl_M_laysThrows_13]
      simp (disch := omega) only [zi_0, zi_1, zi_2, zi_3, zi_4, zi_5, zi_6, zi_7, zi_8, zi_9, zi_10, zi_11, zi_12, zi_13, zi_14, zi_15, zi_16, zi_17, zi_18, zi_19, zi_20, zi_21, zi_22, zi_23, zi_24, zi_25, zi_26, zi_30, zi_31, zi_32, zi_34, zi_38, zi_59, zi_60, zi_61, zi_63, zi_64, zi_80, zi_96, zi_97, zi_99, zi_100, zi_122, zi_255, zi_256, zi_300, zi_398, zi_406, zi_900, zi_1000, zi_1024, zi_1624, zi_1662, zi_2030, zi_2031, zi_2068, zi_2258, zi_9999, zi_48, zi_57, zi_65536, zi_3257, zi_11483, zi_1000000, zi_729, zi_81, zi_m1, nI_add, pk_mul, nI_ltI, nI_leI, nI_eq, nI_clamp, zn_in, zn_sub1lt, zn_M, zn_Ml, zn_Mg, zn_Mle, zn_Mge, zn_sub, Nat.reduceAdd, Nat.reduceMul]
      have back : ∀ I2, cq_M q tv t n (x + 1) I2 → (∀ r, r ≠ 120 → I2 r = I r) → wl_M_laysThrows_13 L R 103 (nI t) (nI n) Q (x + 2) I2 (nI (2 ^ n - 1)) (nI (x + 1) + -1) := fun I2 c2 e2 => by
        rw [pk_m1]; exact ih (by omega) I2 c2 e2
      refine ⟨fun g => absurd g (by omega), fun _ => sm_cells h1' ?_⟩
      simp (disch := omega) only [zi_0, zi_1, zi_2, zi_3, zi_4, zi_5, zi_6, zi_7, zi_8, zi_9, zi_10, zi_11, zi_12, zi_13, zi_14, zi_15, zi_16, zi_17, zi_18, zi_19, zi_20, zi_21, zi_22, zi_23, zi_24, zi_25, zi_26, zi_30, zi_31, zi_32, zi_34, zi_38, zi_59, zi_60, zi_61, zi_63, zi_64, zi_80, zi_96, zi_97, zi_99, zi_100, zi_122, zi_255, zi_256, zi_300, zi_398, zi_406, zi_900, zi_1000, zi_1024, zi_1624, zi_1662, zi_2030, zi_2031, zi_2068, zi_2258, zi_9999, zi_48, zi_57, zi_65536, zi_3257, zi_11483, zi_1000000, zi_729, zi_81, zi_m1, nI_add, pk_mul, nI_ltI, nI_leI, nI_eq, nI_clamp, zn_in, zn_sub1lt, zn_M, zn_Ml, zn_Mg, zn_Mle, zn_Mge, zn_sub, Nat.reduceAdd, Nat.reduceMul]
      refine ⟨fun g => ?_, fun g => sm_hitF h1' ok y1' ht hn h2 (by omega) gv ?_⟩
      · exact row (x + 1) hx 0 (fun e => absurd e (by omega)) (by omega) (x + 2) I1 c1 e1 back
      · exact row (x + 1) hx (ch q tv t (x + 1) n) (fun _ => rfl) (ch_lt (x + 1) n) (x + 2) I1 c1 e1 back
  exact ⟨_, go (q 0 * q 1) (Nat.le_refl _) I (fun z h1 h2 => absurd h1 (by omega)) (fun _ _ => rfl)⟩
theorem ch_all {t n : Nat} (ok : sq_Ok q) (hn : n ≤ 8) (gv : ∀ i, i < n → cg q tv t i) {S : Nat} (hS : S < 2 ^ n) : cF (fun x => ch q tv t x n) (q 0 * q 1) S ≤ 8 := by
  have p2 : 2 ^ n ≤ 256 := Nat.pow_le_pow_right (n := 2) (by decide) hn
  have a := cv_cF (h := (fun x => ch q tv t x n)) (C := (q 0 * q 1)) n S (by omega) (cv_all (w := cw tv t) (fun i hi => ⟨(gv i hi).2, by
    show (ch q tv t (cw tv t i) n).testBit i = true
    rw [ch, zs_bit]
    have : sq_far (q 0) (cw tv t i) (cw tv t i) = 0 := by unfold sq_far; omega
    simp [hi, this]⟩) n S (Nat.le_refl _) hS)
  omega
theorem su_goodC (ok : sq_Ok q) {t n : Nat} (hn : n ≤ 8) (p : cq_U q tv t n n I) (tb : ∀ X, X < 2 ^ n → I 26 X = nI (cF (fun x => ch q tv t x n) (q 0 * q 1) X)) (gv : ∀ i, i < n → cg q tv t i) {S : Nat} (hS : S < 2 ^ n) (h0 : S ≠ 0) {Q : Int32 → Prop} (k : Q (nI (zfind (cr_P (fun x => ch q tv t x n) (q 0 * q 1) S) (q 0 * q 1)))) : wp_Covering_firstGoodCell I L R 24 (nI S) Q := by
  have o := ok.cells
  have p2 : 2 ^ n ≤ 256 := Nat.pow_le_pow_right (n := 2) (by decide) hn
  have fS := ch_all ok hn gv hS
  have fp := cF_pos (h := (fun x => ch q tv t x n)) (C := (q 0 * q 1)) (show S < 256 by omega) h0 (by omega)
  obtain ⟨p1, pt, p3⟩ := zfind_ex (cr_ex (h := (fun x => ch q tv t x n)) (C := (q 0 * q 1)) (show S < 256 by omega) h0 (by omega))
  generalize zfind (cr_P (fun x => ch q tv t x n) (q 0 * q 1) S) (q 0 * q 1) = F at *
  have body : ∀ m, m < (q 0 * q 1) → ∀ w, (cr_P (fun x => ch q tv t x n) (q 0 * q 1) S m = true → Q (nI m)) → (cr_P (fun x => ch q tv t x n) (q 0 * q 1) S m = false → wl_Covering_firstGoodCell_2 I L R 24 (nI S) Q w (nI (m + 1))) → wl_Covering_firstGoodCell_2 I L R 24 (nI S) Q (w + 1) (nI m) := by
    intro m hm w k1 k2
    have zl := zan_le S (ch q tv t m n)
    have fz := ch_all (q := q) (tv := tv) (t := t) ok hn gv (S := zan S (ch q tv t m n)) (by omega)
    unfold cr_P at k1 k2
    rw [beq_iff_eq] at k1
    try dsimp only at k1 k2
    have k2' : ¬ cF (fun x => ch q tv t x n) (q 0 * q 1) (zan S (ch q tv t m n)) + 1 = cF (fun x => ch q tv t x n) (q 0 * q 1) S → wl_Covering_firstGoodCell_2 I L R 24 (nI S) Q w (nI (m + 1)) := fun g => k2 (by simpa using g)
    rw [wl_Covering_firstGoodCell_2]
    simp (disch := omega) only [p.1, p.2.2.2 m hm, zn_an, tb (zan S (ch q tv t m n)) (by omega), tb S hS, zi_0, zi_1, zi_2, zi_3, zi_4, zi_5, zi_6, zi_7, zi_8, zi_9, zi_10, zi_11, zi_12, zi_13, zi_14, zi_15, zi_16, zi_17, zi_18, zi_19, zi_20, zi_21, zi_22, zi_23, zi_24, zi_25, zi_26, zi_30, zi_31, zi_32, zi_34, zi_38, zi_59, zi_60, zi_61, zi_63, zi_64, zi_80, zi_96, zi_97, zi_99, zi_100, zi_122, zi_255, zi_256, zi_300, zi_398, zi_406, zi_900, zi_1000, zi_1024, zi_1624, zi_1662, zi_2030, zi_2031, zi_2068, zi_2258, zi_9999, zi_48, zi_57, zi_65536, zi_3257, zi_11483, zi_1000000, zi_729, zi_81, zi_m1, nI_add, pk_mul, nI_ltI, nI_leI, nI_eq, nI_clamp, zn_in, zn_sub1lt, zn_M, zn_Ml, zn_Mg, zn_Mle, zn_Mge, zn_sub, Nat.reduceAdd, Nat.reduceMul]
    exact ⟨fun g => absurd g (by omega), fun _ => ⟨by omega, by omega, by omega, fun g => k1 (by omega), fun g => k2' (by omega)⟩⟩
  refine zl_up (P := fun w m => wl_Covering_firstGoodCell_2 I L R 24 (nI S) Q w (nI m)) F (fun w => ?_) (fun w m hm ih => ?_) 0 (by omega)
  · exact body F p1 w (fun _ => k) (fun g => by rw [pt] at g; cases g)
  · exact body m (by omega) w (fun g => by rw [p3 m hm] at g; cases g) (fun _ => ih)
theorem su_rowC (ok : sq_Ok q) {t n : Nat} (hn : n ≤ 8) (p : cq_U q tv t n n I) (tb : ∀ X, X < 2 ^ n → I 26 X = nI (cF (fun x => ch q tv t x n) (q 0 * q 1) X)) (gv : ∀ i, i < n → cg q tv t i) {kk : Nat} (hk : kk < 1000) {Q : Int32 → Prop} : ∀ r S i v, r + i = kk → S < 2 ^ n → r < cF (fun x => ch q tv t x n) (q 0 * q 1) S → Q (nI (cr (fun x => ch q tv t x n) (q 0 * q 1) r S)) → wl_Covering_cellOfRow_10 I L R 24 (nI kk) Q (r + 2) (nI S) v (nI i) := by
  have o := ok.cells
  have p2 : 2 ^ n ≤ 256 := Nat.pow_le_pow_right (n := 2) (by decide) hn
  intro r
  induction r with
  | zero =>
    intro S i v hi hS hr k
    have h0 : S ≠ 0 := fun e => by rw [e, cF_0] at hr; omega
    have fl := (zfind_ex (cr_ex (h := (fun x => ch q tv t x n)) (C := (q 0 * q 1)) (show S < 256 by omega) h0 (by have := ch_all ok hn gv hS; omega))).1
    rw [cr] at k
    rw [wl_Covering_cellOfRow_10]
    simp (disch := omega) only [zi_0, zi_1, zi_2, zi_3, zi_4, zi_5, zi_6, zi_7, zi_8, zi_9, zi_10, zi_11, zi_12, zi_13, zi_14, zi_15, zi_16, zi_17, zi_18, zi_19, zi_20, zi_21, zi_22, zi_23, zi_24, zi_25, zi_26, zi_30, zi_31, zi_32, zi_34, zi_38, zi_59, zi_60, zi_61, zi_63, zi_64, zi_80, zi_96, zi_97, zi_99, zi_100, zi_122, zi_255, zi_256, zi_300, zi_398, zi_406, zi_900, zi_1000, zi_1024, zi_1624, zi_1662, zi_2030, zi_2031, zi_2068, zi_2258, zi_9999, zi_48, zi_57, zi_65536, zi_3257, zi_11483, zi_1000000, zi_729, zi_81, zi_m1, nI_add, pk_mul, nI_ltI, nI_leI, nI_eq, nI_clamp, zn_in, zn_sub1lt, zn_M, zn_Ml, zn_Mg, zn_Mle, zn_Mge, zn_sub, Nat.reduceAdd, Nat.reduceMul]
    refine ⟨fun g => absurd g (by omega), fun _ => su_goodC ok hn p tb gv hS h0 ?_⟩
    generalize zfind (cr_P (fun x => ch q tv t x n) (q 0 * q 1) S) (q 0 * q 1) = F at *
    rw [wl_Covering_cellOfRow_10]
    simp (disch := omega) only [zi_0, zi_1, zi_2, zi_3, zi_4, zi_5, zi_6, zi_7, zi_8, zi_9, zi_10, zi_11, zi_12, zi_13, zi_14, zi_15, zi_16, zi_17, zi_18, zi_19, zi_20, zi_21, zi_22, zi_23, zi_24, zi_25, zi_26, zi_30, zi_31, zi_32, zi_34, zi_38, zi_59, zi_60, zi_61, zi_63, zi_64, zi_80, zi_96, zi_97, zi_99, zi_100, zi_122, zi_255, zi_256, zi_300, zi_398, zi_406, zi_900, zi_1000, zi_1024, zi_1624, zi_1662, zi_2030, zi_2031, zi_2068, zi_2258, zi_9999, zi_48, zi_57, zi_65536, zi_3257, zi_11483, zi_1000000, zi_729, zi_81, zi_m1, nI_add, pk_mul, nI_ltI, nI_leI, nI_eq, nI_clamp, zn_in, zn_sub1lt, zn_M, zn_Ml, zn_Mg, zn_Mle, zn_Mge, zn_sub, Nat.reduceAdd, Nat.reduceMul, forall_eq, true_imp_iff, false_imp_iff, and_true, true_and, not_true_eq_false, not_false_eq_true, reduceCtorEq, imp_self, eq_self, false_and, and_false, implies_true]
    exact ⟨by omega, fun _ => k, fun g => absurd (by omega) g⟩
  | succ r ih =>
    intro S i v hi hS hr k
    have h0 : S ≠ 0 := fun e => by rw [e, cF_0] at hr; omega
    obtain ⟨fl, ft, _⟩ := zfind_ex (cr_ex (h := (fun x => ch q tv t x n)) (C := (q 0 * q 1)) (show S < 256 by omega) h0 (by have := ch_all ok hn gv hS; omega))
    rw [cr] at k
    rw [wl_Covering_cellOfRow_10]
    simp (disch := omega) only [zi_0, zi_1, zi_2, zi_3, zi_4, zi_5, zi_6, zi_7, zi_8, zi_9, zi_10, zi_11, zi_12, zi_13, zi_14, zi_15, zi_16, zi_17, zi_18, zi_19, zi_20, zi_21, zi_22, zi_23, zi_24, zi_25, zi_26, zi_30, zi_31, zi_32, zi_34, zi_38, zi_59, zi_60, zi_61, zi_63, zi_64, zi_80, zi_96, zi_97, zi_99, zi_100, zi_122, zi_255, zi_256, zi_300, zi_398, zi_406, zi_900, zi_1000, zi_1024, zi_1624, zi_1662, zi_2030, zi_2031, zi_2068, zi_2258, zi_9999, zi_48, zi_57, zi_65536, zi_3257, zi_11483, zi_1000000, zi_729, zi_81, zi_m1, nI_add, pk_mul, nI_ltI, nI_leI, nI_eq, nI_clamp, zn_in, zn_sub1lt, zn_M, zn_Ml, zn_Mg, zn_Mle, zn_Mge, zn_sub, Nat.reduceAdd, Nat.reduceMul]
    refine ⟨fun g => absurd g (by omega), fun _ => su_goodC ok hn p tb gv hS h0 ?_⟩
    generalize zfind (cr_P (fun x => ch q tv t x n) (q 0 * q 1) S) (q 0 * q 1) = F at *
    unfold cr_P at ft
    rw [beq_iff_eq] at ft
    try dsimp only at ft
    have zl := zan_le S (ch q tv t F n)
    simp (disch := omega) only [p.2.2.2 F fl, zn_an, zi_0, zi_1, zi_2, zi_3, zi_4, zi_5, zi_6, zi_7, zi_8, zi_9, zi_10, zi_11, zi_12, zi_13, zi_14, zi_15, zi_16, zi_17, zi_18, zi_19, zi_20, zi_21, zi_22, zi_23, zi_24, zi_25, zi_26, zi_30, zi_31, zi_32, zi_34, zi_38, zi_59, zi_60, zi_61, zi_63, zi_64, zi_80, zi_96, zi_97, zi_99, zi_100, zi_122, zi_255, zi_256, zi_300, zi_398, zi_406, zi_900, zi_1000, zi_1024, zi_1624, zi_1662, zi_2030, zi_2031, zi_2068, zi_2258, zi_9999, zi_48, zi_57, zi_65536, zi_3257, zi_11483, zi_1000000, zi_729, zi_81, zi_m1, nI_add, pk_mul, nI_ltI, nI_leI, nI_eq, nI_clamp, zn_in, zn_sub1lt, zn_M, zn_Ml, zn_Mg, zn_Mle, zn_Mge, zn_sub, Nat.reduceAdd, Nat.reduceMul, forall_eq, true_imp_iff, false_imp_iff, and_true, true_and, not_true_eq_false, not_false_eq_true, reduceCtorEq, imp_self, eq_self, false_and, and_false, implies_true]
    exact ⟨by omega, ih _ (i + 1) _ (by omega) (by omega) (by omega) k⟩
theorem sm_rowC (h : sq_M q 0 I L) (ok : sq_Ok q) (y : tr_M tm ts tv I L) {t n : Nat} (ht : t < 4) (hn : n ≤ 8) (h2 : n < tm t) (gv : ∀ i, i < n → cg q tv t i) (c : cq_M q tv t n 0 I) {p3 : Int32} {Q : Int32 → am_TI → Prop} : ∀ r x X k, x + r = (q 0 * q 1) → X < 2 ^ n → cI (fun x => ch q tv t x n) (q 0 * q 1) 1000000 x (zan (2 ^ n - 1) X) → k < 2 ^ 31 → (k < cF (fun x => ch q tv t x n) (q 0 * q 1) (zan (2 ^ n - 1) X) → Q (nI (cr (fun x => ch q tv t x n) (q 0 * q 1) k (zan (2 ^ n - 1) X))) (am_u2 I 103 2 (nI 0))) → (¬ k < cF (fun x => ch q tv t x n) (q 0 * q 1) (zan (2 ^ n - 1) X) → Q nM (am_u2 I 103 2 (nI 6))) → wl_M_coverAt_43 L R 103 (nI t) (nI n) p3 Q (r + 1) I (nI X) (nI k) (nI x) := by
  have o := ok.cells
  have p2 : 2 ^ n ≤ 256 ∧ 1 ≤ 2 ^ n := ⟨Nat.pow_le_pow_right (n := 2) (by decide) hn, Nat.one_le_two_pow⟩
  intro r
  induction r with
  | zero =>
    intro x X k hx hX ci hk k1 k2
    rw [wl_M_coverAt_43]
    refine sm_cells h ?_
    simp (disch := omega) only [wb_M_coverAt_139, wp_M_refuse, zi_0, zi_1, zi_2, zi_3, zi_4, zi_5, zi_6, zi_7, zi_8, zi_9, zi_10, zi_11, zi_12, zi_13, zi_14, zi_15, zi_16, zi_17, zi_18, zi_19, zi_20, zi_21, zi_22, zi_23, zi_24, zi_25, zi_26, zi_30, zi_31, zi_32, zi_34, zi_38, zi_59, zi_60, zi_61, zi_63, zi_64, zi_80, zi_96, zi_97, zi_99, zi_100, zi_122, zi_255, zi_256, zi_300, zi_398, zi_406, zi_900, zi_1000, zi_1024, zi_1624, zi_1662, zi_2030, zi_2031, zi_2068, zi_2258, zi_9999, zi_48, zi_57, zi_65536, zi_3257, zi_11483, zi_1000000, zi_729, zi_81, zi_m1, nI_add, pk_mul, nI_ltI, nI_leI, nI_eq, nI_clamp, zn_in, zn_sub1lt, zn_M, zn_Ml, zn_Mg, zn_Mle, zn_Mge, zn_sub, Nat.reduceAdd, Nat.reduceMul, forall_eq, true_imp_iff, false_imp_iff, and_true, true_and, not_true_eq_false, not_false_eq_true, reduceCtorEq, imp_self, eq_self, false_and, and_false, implies_true]
    refine ⟨fun _ => k2 (fun g => ?_), fun g => absurd (by omega) g⟩
    have zl := zan_le (2 ^ n - 1) X
    have fl := ch_all (q := q) (tv := tv) (t := t) ok hn gv (S := zan (2 ^ n - 1) X) (by omega)
    have a := ci.1
    rw [show (q 0 * q 1) - x = 0 by omega, cG] at a
    split at a
    · rename_i e; rw [e, cF_0] at g; omega
    · omega
  | succ r ih =>
    intro x X k hx hX ci hk k1 k2
    have za := zan_all hX
    have zl := zan_le (2 ^ n - 1) X
    have cl := ch_lt (q := q) (tv := tv) (t := t) x n
    have xl : X ||| ch q tv t x n < 2 ^ n := Nat.or_lt_two_pow hX cl
    have gl := cG_le (h := (fun x => ch q tv t x n)) (C := (q 0 * q 1)) (Z := 1000000)
    have g1 := gl ((q 0 * q 1) - (x + 1)) (zan (2 ^ n - 1) (X ||| ch q tv t x n))
    have g2 := gl ((q 0 * q 1) - x) (zan (2 ^ n - 1) X)
    have f0 : ∀ S, S < 2 ^ n → cF (fun x => ch q tv t x n) (q 0 * q 1) S < 1000 := fun S hS => by have := ch_all (q := q) (tv := tv) (t := t) ok hn gv hS; omega
    rw [wl_M_coverAt_43]
    refine sm_cells h ?_
    simp (disch := omega) only [wb_M_coverAt_139, wp_M_refuse, zn_shl, zi_0, zi_1, zi_2, zi_3, zi_4, zi_5, zi_6, zi_7, zi_8, zi_9, zi_10, zi_11, zi_12, zi_13, zi_14, zi_15, zi_16, zi_17, zi_18, zi_19, zi_20, zi_21, zi_22, zi_23, zi_24, zi_25, zi_26, zi_30, zi_31, zi_32, zi_34, zi_38, zi_59, zi_60, zi_61, zi_63, zi_64, zi_80, zi_96, zi_97, zi_99, zi_100, zi_122, zi_255, zi_256, zi_300, zi_398, zi_406, zi_900, zi_1000, zi_1024, zi_1624, zi_1662, zi_2030, zi_2031, zi_2068, zi_2258, zi_9999, zi_48, zi_57, zi_65536, zi_3257, zi_11483, zi_1000000, zi_729, zi_81, zi_m1, nI_add, pk_mul, nI_ltI, nI_leI, nI_eq, nI_clamp, zn_in, zn_sub1lt, zn_M, zn_Ml, zn_Mg, zn_Mle, zn_Mge, zn_sub, Nat.reduceAdd, Nat.reduceMul, forall_eq, true_imp_iff, false_imp_iff, and_true, true_and, not_true_eq_false, not_false_eq_true, reduceCtorEq, imp_self, eq_self, false_and, and_false, implies_true]
    refine ⟨fun g => absurd g (by omega), fun _ => ⟨fun g => k2 (fun e => ?_), fun g => sm_hitF h ok y ht hn h2 (by omega) gv ?_⟩⟩
    · rw [za.mpr g, cF_0] at e; omega
    · have h0 : zan (2 ^ n - 1) X ≠ 0 := fun e => g (za.mp e)
      simp (disch := omega) only [ze_or, c (x + 1) (by omega) (by omega) _ xl, c x (by omega) (by omega) X hX, wp_M_gives, zi_0, zi_1, zi_2, zi_3, zi_4, zi_5, zi_6, zi_7, zi_8, zi_9, zi_10, zi_11, zi_12, zi_13, zi_14, zi_15, zi_16, zi_17, zi_18, zi_19, zi_20, zi_21, zi_22, zi_23, zi_24, zi_25, zi_26, zi_30, zi_31, zi_32, zi_34, zi_38, zi_59, zi_60, zi_61, zi_63, zi_64, zi_80, zi_96, zi_97, zi_99, zi_100, zi_122, zi_255, zi_256, zi_300, zi_398, zi_406, zi_900, zi_1000, zi_1024, zi_1624, zi_1662, zi_2030, zi_2031, zi_2068, zi_2258, zi_9999, zi_48, zi_57, zi_65536, zi_3257, zi_11483, zi_1000000, zi_729, zi_81, zi_m1, nI_add, pk_mul, nI_ltI, nI_leI, nI_eq, nI_clamp, zn_in, zn_sub1lt, zn_M, zn_Ml, zn_Mg, zn_Mle, zn_Mge, zn_sub, Nat.reduceAdd, Nat.reduceMul, forall_eq, true_imp_iff, false_imp_iff, and_true, true_and, not_true_eq_false, not_false_eq_true, reduceCtorEq, imp_self, eq_self, false_and, and_false, implies_true]
      rw [zan_or2]
      rw [zan_or2] at g1
      refine ⟨by omega, by omega, fun e => ?_, fun e => ?_⟩
      · obtain ⟨a1, a2, a3⟩ := cI_yes p2.1 (show zan (2 ^ n - 1) X < 2 ^ n by omega) (show x < (q 0 * q 1) by omega) (by omega) f0 ci h0 e
        refine ⟨fun e2 => ?_, fun e2 => ?_⟩
        · subst e2
          have k1 := k1 (by omega)
          rw [cr, a2] at k1; exact k1
        · rw [zn_addM (by omega)]
          obtain ⟨k', hk'⟩ : ∃ k', k = k' + 1 := ⟨k - 1, by omega⟩
          subst hk'
          rw [cr, a2] at k1
          rw [Nat.add_sub_cancel]
          refine ih (x + 1) _ k' (by omega) xl (by rw [zan_or2]; exact a1) (by omega) (fun g => ?_) (fun g => ?_)
          · rw [zan_or2] at g ⊢; exact k1 (by omega)
          · rw [zan_or2] at g; exact k2 (by omega)
      · obtain ⟨a1, a2⟩ := cI_no p2.1 (show zan (2 ^ n - 1) X < 2 ^ n by omega) (show x < (q 0 * q 1) by omega) (by omega) f0 ci h0 e
        exact ih (x + 1) X k (by omega) hX a1 hk k1 k2
theorem cv_frU (hcd : sq_cd c d) (h : sq_U q c d I L) (f : ∀ r j, (r < 24 ∨ 26 < r ∨ (r = 26 ∧ j = 0)) → I1 r j = I r j) : sq_U q c d I1 L ∧ fy_U I I1 := by
  obtain ⟨hc, hd⟩ := hcd
  exact ⟨h.keep (fun r hr => by funext j; exact f r j (by omega)) rfl, fun r k _ g2 _ => f r k (by omega)⟩
theorem op_cover (okq : sq_Ok q) (ok : tr_Ok tm ts) (p1 p2 : Int32) : si_Y q tm ts tv (fun I L R Q => wp_U_cover I L R 0 p1 p2 (fun a I1 => Q a I1 L)) (fun I L R Q => wp_M_cover I L R 103 p1 p2 (fun a I1 => Q a I1 L)) := by
  have o := okq.cells
  rcases zc p1 with hp | ⟨t, ht, rfl⟩
  · refine ⟨nM, 1, tm, ts, tv, ok, ?_, ?_⟩
    · intro c d I L R hcd h hc hz y Q K
      simp (disch := omega) only [wp_U_cover, wp_U_coverStatus, wp_U_trayStatus, wp_Tray_isMissing, wp_U_isTray, wp_U_within, wp_U_refused, hc, hp, zc_t hp, zc_l hp, zc_m hp, zc_k hp, zi_0, zi_1, zi_2, zi_3, zi_4, zi_5, zi_6, zi_7, zi_8, zi_9, zi_10, zi_11, zi_12, zi_13, zi_14, zi_15, zi_16, zi_17, zi_18, zi_19, zi_20, zi_21, zi_22, zi_23, zi_24, zi_25, zi_26, zi_30, zi_31, zi_32, zi_34, zi_38, zi_59, zi_60, zi_61, zi_63, zi_64, zi_80, zi_96, zi_97, zi_99, zi_100, zi_122, zi_255, zi_256, zi_300, zi_398, zi_406, zi_900, zi_1000, zi_1024, zi_1624, zi_1662, zi_2030, zi_2031, zi_2068, zi_2258, zi_9999, zi_48, zi_57, zi_65536, zi_3257, zi_11483, zi_1000000, zi_729, zi_81, zi_m1, nI_add, pk_mul, nI_ltI, nI_leI, nI_eq, nI_clamp, zn_in, zn_sub1lt, zn_M, zn_Ml, zn_Mg, zn_Mle, zn_Mge, zn_sub, Nat.reduceAdd, Nat.reduceMul, forall_eq, true_imp_iff, false_imp_iff, and_true, true_and, not_true_eq_false, not_false_eq_true, reduceCtorEq, imp_self, eq_self, false_and, and_false, implies_true]
      repeat' (first | omega | with_reducible refine And.intro ?_ ?_ | with_reducible intro g)
      all_goals exact K _ _ (y.st _) (am_u2_at _ _ _ _) (fy_U.st _) fy_UL.rfl
    · intro I L R h y Q K
      simp (disch := omega) only [wp_M_cover, wp_M_wrongCells, wp_M_isTray, wp_M_isFrom, wp_M_refuse, zj_0, zj_1, zj_2, zj_4, zj_6, zj_7, zj_8, zj_16, zj_20, zj_60, zj_63, zj_64, zj_99, zj_9999, nI_l, zk_lt, zk_le, zk_eq, zk_add, zk_in, hp, zc_e hp, zf_n hp, zc_t hp, zc_l hp, zc_m hp, zc_k hp, zi_0, zi_1, zi_2, zi_3, zi_4, zi_5, zi_6, zi_7, zi_8, zi_9, zi_10, zi_11, zi_12, zi_13, zi_14, zi_15, zi_16, zi_17, zi_18, zi_19, zi_20, zi_21, zi_22, zi_23, zi_24, zi_25, zi_26, zi_30, zi_31, zi_32, zi_34, zi_38, zi_59, zi_60, zi_61, zi_63, zi_64, zi_80, zi_96, zi_97, zi_99, zi_100, zi_122, zi_255, zi_256, zi_300, zi_398, zi_406, zi_900, zi_1000, zi_1024, zi_1624, zi_1662, zi_2030, zi_2031, zi_2068, zi_2258, zi_9999, zi_48, zi_57, zi_65536, zi_3257, zi_11483, zi_1000000, zi_729, zi_81, zi_m1, nI_add, pk_mul, nI_ltI, nI_leI, nI_eq, nI_clamp, zn_in, zn_sub1lt, zn_M, zn_Ml, zn_Mg, zn_Mle, zn_Mge, zn_sub, Nat.reduceAdd, Nat.reduceMul, forall_eq, true_imp_iff, false_imp_iff, and_true, true_and, not_true_eq_false, not_false_eq_true, reduceCtorEq, imp_self, eq_self, false_and, and_false, implies_true]
      repeat' (first | omega | with_reducible refine And.intro ?_ ?_ | with_reducible intro g)
      all_goals exact K _ _ (y.st _) (am_u2_at _ _ _ _) (fy_M.st _) fy_ML.rfl
  by_cases g1 : 3 < t
  · refine ⟨nM, 1, tm, ts, tv, ok, ?_, ?_⟩
    · intro c d I L R hcd h hc hz y Q K
      simp (disch := omega) only [wp_U_cover, wp_U_coverStatus, wp_U_trayStatus, wp_Tray_isMissing, wp_U_isTray, wp_U_within, wp_U_refused, hc, zi_0, zi_1, zi_2, zi_3, zi_4, zi_5, zi_6, zi_7, zi_8, zi_9, zi_10, zi_11, zi_12, zi_13, zi_14, zi_15, zi_16, zi_17, zi_18, zi_19, zi_20, zi_21, zi_22, zi_23, zi_24, zi_25, zi_26, zi_30, zi_31, zi_32, zi_34, zi_38, zi_59, zi_60, zi_61, zi_63, zi_64, zi_80, zi_96, zi_97, zi_99, zi_100, zi_122, zi_255, zi_256, zi_300, zi_398, zi_406, zi_900, zi_1000, zi_1024, zi_1624, zi_1662, zi_2030, zi_2031, zi_2068, zi_2258, zi_9999, zi_48, zi_57, zi_65536, zi_3257, zi_11483, zi_1000000, zi_729, zi_81, zi_m1, nI_add, pk_mul, nI_ltI, nI_leI, nI_eq, nI_clamp, zn_in, zn_sub1lt, zn_M, zn_Ml, zn_Mg, zn_Mle, zn_Mge, zn_sub, Nat.reduceAdd, Nat.reduceMul, forall_eq, true_imp_iff, false_imp_iff, and_true, true_and, not_true_eq_false, not_false_eq_true, reduceCtorEq, imp_self, eq_self, false_and, and_false, implies_true]
      repeat' (first | omega | with_reducible refine And.intro ?_ ?_ | with_reducible intro g)
      all_goals exact K _ _ (y.st _) (am_u2_at _ _ _ _) (fy_U.st _) fy_UL.rfl
    · intro I L R h y Q K
      simp (disch := omega) only [wp_M_cover, wp_M_wrongCells, wp_M_isTray, wp_M_isFrom, wp_M_refuse, zj_0, zj_1, zj_2, zj_4, zj_6, zj_7, zj_8, zj_16, zj_20, zj_60, zj_63, zj_64, zj_99, zj_9999, nI_l, zk_lt, zk_le, zk_eq, zk_add, zk_in, zi_0, zi_1, zi_2, zi_3, zi_4, zi_5, zi_6, zi_7, zi_8, zi_9, zi_10, zi_11, zi_12, zi_13, zi_14, zi_15, zi_16, zi_17, zi_18, zi_19, zi_20, zi_21, zi_22, zi_23, zi_24, zi_25, zi_26, zi_30, zi_31, zi_32, zi_34, zi_38, zi_59, zi_60, zi_61, zi_63, zi_64, zi_80, zi_96, zi_97, zi_99, zi_100, zi_122, zi_255, zi_256, zi_300, zi_398, zi_406, zi_900, zi_1000, zi_1024, zi_1624, zi_1662, zi_2030, zi_2031, zi_2068, zi_2258, zi_9999, zi_48, zi_57, zi_65536, zi_3257, zi_11483, zi_1000000, zi_729, zi_81, zi_m1, nI_add, pk_mul, nI_ltI, nI_leI, nI_eq, nI_clamp, zn_in, zn_sub1lt, zn_M, zn_Ml, zn_Mg, zn_Mle, zn_Mge, zn_sub, Nat.reduceAdd, Nat.reduceMul, forall_eq, true_imp_iff, false_imp_iff, and_true, true_and, not_true_eq_false, not_false_eq_true, reduceCtorEq, imp_self, eq_self, false_and, and_false, implies_true]
      repeat' (first | omega | with_reducible refine And.intro ?_ ?_ | with_reducible intro g)
      all_goals exact K _ _ (y.st _) (am_u2_at _ _ _ _) (fy_M.st _) fy_ML.rfl
  have ht4 : t < 4 := by omega
  have ok1 := ok t ht4
  rcases zc p2 with hp | ⟨n, hn, rfl⟩
  · refine ⟨nM, 1, tm, ts, tv, ok, ?_, ?_⟩
    · intro c d I L R hcd h hc hz y Q K
      simp (disch := omega) only [wp_U_cover, wp_U_coverStatus, wp_U_trayStatus, wp_Tray_isMissing, wp_U_isTray, wp_U_within, wp_U_refused, hc, hp, zc_e hp, zc_t hp, zc_l hp, zc_m hp, zc_k hp, zi_0, zi_1, zi_2, zi_3, zi_4, zi_5, zi_6, zi_7, zi_8, zi_9, zi_10, zi_11, zi_12, zi_13, zi_14, zi_15, zi_16, zi_17, zi_18, zi_19, zi_20, zi_21, zi_22, zi_23, zi_24, zi_25, zi_26, zi_30, zi_31, zi_32, zi_34, zi_38, zi_59, zi_60, zi_61, zi_63, zi_64, zi_80, zi_96, zi_97, zi_99, zi_100, zi_122, zi_255, zi_256, zi_300, zi_398, zi_406, zi_900, zi_1000, zi_1024, zi_1624, zi_1662, zi_2030, zi_2031, zi_2068, zi_2258, zi_9999, zi_48, zi_57, zi_65536, zi_3257, zi_11483, zi_1000000, zi_729, zi_81, zi_m1, nI_add, pk_mul, nI_ltI, nI_leI, nI_eq, nI_clamp, zn_in, zn_sub1lt, zn_M, zn_Ml, zn_Mg, zn_Mle, zn_Mge, zn_sub, Nat.reduceAdd, Nat.reduceMul, forall_eq, true_imp_iff, false_imp_iff, and_true, true_and, not_true_eq_false, not_false_eq_true, reduceCtorEq, imp_self, eq_self, false_and, and_false, implies_true]
      repeat' (first | omega | with_reducible refine And.intro ?_ ?_ | with_reducible intro g)
      all_goals exact K _ _ (y.st _) (am_u2_at _ _ _ _) (fy_U.st _) fy_UL.rfl
    · intro I L R h y Q K
      simp (disch := omega) only [wp_M_cover, wp_M_wrongCells, wp_M_isTray, wp_M_isFrom, wp_M_refuse, zj_0, zj_1, zj_2, zj_4, zj_6, zj_7, zj_8, zj_16, zj_20, zj_60, zj_63, zj_64, zj_99, zj_9999, nI_l, zk_lt, zk_le, zk_eq, zk_add, zk_in, hp, zc_e hp, zf_n hp, zc_t hp, zc_l hp, zc_m hp, zc_k hp, zi_0, zi_1, zi_2, zi_3, zi_4, zi_5, zi_6, zi_7, zi_8, zi_9, zi_10, zi_11, zi_12, zi_13, zi_14, zi_15, zi_16, zi_17, zi_18, zi_19, zi_20, zi_21, zi_22, zi_23, zi_24, zi_25, zi_26, zi_30, zi_31, zi_32, zi_34, zi_38, zi_59, zi_60, zi_61, zi_63, zi_64, zi_80, zi_96, zi_97, zi_99, zi_100, zi_122, zi_255, zi_256, zi_300, zi_398, zi_406, zi_900, zi_1000, zi_1024, zi_1624, zi_1662, zi_2030, zi_2031, zi_2068, zi_2258, zi_9999, zi_48, zi_57, zi_65536, zi_3257, zi_11483, zi_1000000, zi_729, zi_81, zi_m1, nI_add, pk_mul, nI_ltI, nI_leI, nI_eq, nI_clamp, zn_in, zn_sub1lt, zn_M, zn_Ml, zn_Mg, zn_Mle, zn_Mge, zn_sub, Nat.reduceAdd, Nat.reduceMul, forall_eq, true_imp_iff, false_imp_iff, and_true, true_and, not_true_eq_false, not_false_eq_true, reduceCtorEq, imp_self, eq_self, false_and, and_false, implies_true]
      repeat' (first | omega | with_reducible refine And.intro ?_ ?_ | with_reducible intro g)
      all_goals exact K _ _ (y.st _) (am_u2_at _ _ _ _) (fy_M.st _) fy_ML.rfl
  by_cases gn : 8 < n
  · refine ⟨nM, 1, tm, ts, tv, ok, ?_, ?_⟩
    · intro c d I L R hcd h hc hz y Q K
      simp (disch := omega) only [wp_U_cover, wp_U_coverStatus, wp_U_trayStatus, wp_Tray_isMissing, wp_U_isTray, wp_U_within, wp_U_refused, hc, zi_0, zi_1, zi_2, zi_3, zi_4, zi_5, zi_6, zi_7, zi_8, zi_9, zi_10, zi_11, zi_12, zi_13, zi_14, zi_15, zi_16, zi_17, zi_18, zi_19, zi_20, zi_21, zi_22, zi_23, zi_24, zi_25, zi_26, zi_30, zi_31, zi_32, zi_34, zi_38, zi_59, zi_60, zi_61, zi_63, zi_64, zi_80, zi_96, zi_97, zi_99, zi_100, zi_122, zi_255, zi_256, zi_300, zi_398, zi_406, zi_900, zi_1000, zi_1024, zi_1624, zi_1662, zi_2030, zi_2031, zi_2068, zi_2258, zi_9999, zi_48, zi_57, zi_65536, zi_3257, zi_11483, zi_1000000, zi_729, zi_81, zi_m1, nI_add, pk_mul, nI_ltI, nI_leI, nI_eq, nI_clamp, zn_in, zn_sub1lt, zn_M, zn_Ml, zn_Mg, zn_Mle, zn_Mge, zn_sub, Nat.reduceAdd, Nat.reduceMul, forall_eq, true_imp_iff, false_imp_iff, and_true, true_and, not_true_eq_false, not_false_eq_true, reduceCtorEq, imp_self, eq_self, false_and, and_false, implies_true]
      repeat' (first | omega | with_reducible refine And.intro ?_ ?_ | with_reducible intro g)
      all_goals exact K _ _ (y.st _) (am_u2_at _ _ _ _) (fy_U.st _) fy_UL.rfl
    · intro I L R h y Q K
      simp (disch := omega) only [wp_M_cover, wp_M_wrongCells, wp_M_isTray, wp_M_isFrom, wp_M_refuse, zj_0, zj_1, zj_2, zj_4, zj_6, zj_7, zj_8, zj_16, zj_20, zj_60, zj_63, zj_64, zj_99, zj_9999, nI_l, zk_lt, zk_le, zk_eq, zk_add, zk_in, zi_0, zi_1, zi_2, zi_3, zi_4, zi_5, zi_6, zi_7, zi_8, zi_9, zi_10, zi_11, zi_12, zi_13, zi_14, zi_15, zi_16, zi_17, zi_18, zi_19, zi_20, zi_21, zi_22, zi_23, zi_24, zi_25, zi_26, zi_30, zi_31, zi_32, zi_34, zi_38, zi_59, zi_60, zi_61, zi_63, zi_64, zi_80, zi_96, zi_97, zi_99, zi_100, zi_122, zi_255, zi_256, zi_300, zi_398, zi_406, zi_900, zi_1000, zi_1024, zi_1624, zi_1662, zi_2030, zi_2031, zi_2068, zi_2258, zi_9999, zi_48, zi_57, zi_65536, zi_3257, zi_11483, zi_1000000, zi_729, zi_81, zi_m1, nI_add, pk_mul, nI_ltI, nI_leI, nI_eq, nI_clamp, zn_in, zn_sub1lt, zn_M, zn_Ml, zn_Mg, zn_Mle, zn_Mge, zn_sub, Nat.reduceAdd, Nat.reduceMul, forall_eq, true_imp_iff, false_imp_iff, and_true, true_and, not_true_eq_false, not_false_eq_true, reduceCtorEq, imp_self, eq_self, false_and, and_false, implies_true]
      repeat' (first | omega | with_reducible refine And.intro ?_ ?_ | with_reducible intro g)
      all_goals exact K _ _ (y.st _) (am_u2_at _ _ _ _) (fy_M.st _) fy_ML.rfl
  by_cases g2 : tm t = 0
  · refine ⟨nM, 2, tm, ts, tv, ok, ?_, ?_⟩
    · intro c d I L R hcd h hc hz y Q K
      simp (disch := omega) only [wp_U_cover, wp_U_coverStatus, wp_U_trayStatus, wp_Tray_isMissing, wp_U_isTray, wp_U_within, wp_U_refused, hc, y.r ht4, y.no ht4 g2, zi_0, zi_1, zi_2, zi_3, zi_4, zi_5, zi_6, zi_7, zi_8, zi_9, zi_10, zi_11, zi_12, zi_13, zi_14, zi_15, zi_16, zi_17, zi_18, zi_19, zi_20, zi_21, zi_22, zi_23, zi_24, zi_25, zi_26, zi_30, zi_31, zi_32, zi_34, zi_38, zi_59, zi_60, zi_61, zi_63, zi_64, zi_80, zi_96, zi_97, zi_99, zi_100, zi_122, zi_255, zi_256, zi_300, zi_398, zi_406, zi_900, zi_1000, zi_1024, zi_1624, zi_1662, zi_2030, zi_2031, zi_2068, zi_2258, zi_9999, zi_48, zi_57, zi_65536, zi_3257, zi_11483, zi_1000000, zi_729, zi_81, zi_m1, nI_add, pk_mul, nI_ltI, nI_leI, nI_eq, nI_clamp, zn_in, zn_sub1lt, zn_M, zn_Ml, zn_Mg, zn_Mle, zn_Mge, zn_sub, Nat.reduceAdd, Nat.reduceMul, forall_eq, true_imp_iff, false_imp_iff, and_true, true_and, not_true_eq_false, not_false_eq_true, reduceCtorEq, imp_self, eq_self, false_and, and_false, implies_true]
      repeat' (first | omega | with_reducible refine And.intro ?_ ?_ | with_reducible intro g)
      all_goals exact K _ _ (y.st _) (am_u2_at _ _ _ _) (fy_U.st _) fy_UL.rfl
    · intro I L R h y Q K
      simp (disch := omega) only [wp_M_cover, wp_M_wrongCells, wp_M_isTray, wp_M_isFrom, wp_M_refuse, zj_0, zj_1, zj_2, zj_4, zj_6, zj_7, zj_8, zj_16, zj_20, zj_60, zj_63, zj_64, zj_99, zj_9999, nI_l, zk_lt, zk_le, zk_eq, zk_add, zk_in, y.no ht4 g2, zi_0, zi_1, zi_2, zi_3, zi_4, zi_5, zi_6, zi_7, zi_8, zi_9, zi_10, zi_11, zi_12, zi_13, zi_14, zi_15, zi_16, zi_17, zi_18, zi_19, zi_20, zi_21, zi_22, zi_23, zi_24, zi_25, zi_26, zi_30, zi_31, zi_32, zi_34, zi_38, zi_59, zi_60, zi_61, zi_63, zi_64, zi_80, zi_96, zi_97, zi_99, zi_100, zi_122, zi_255, zi_256, zi_300, zi_398, zi_406, zi_900, zi_1000, zi_1024, zi_1624, zi_1662, zi_2030, zi_2031, zi_2068, zi_2258, zi_9999, zi_48, zi_57, zi_65536, zi_3257, zi_11483, zi_1000000, zi_729, zi_81, zi_m1, nI_add, pk_mul, nI_ltI, nI_leI, nI_eq, nI_clamp, zn_in, zn_sub1lt, zn_M, zn_Ml, zn_Mg, zn_Mle, zn_Mge, zn_sub, Nat.reduceAdd, Nat.reduceMul, forall_eq, true_imp_iff, false_imp_iff, and_true, true_and, not_true_eq_false, not_false_eq_true, reduceCtorEq, imp_self, eq_self, false_and, and_false, implies_true]
      repeat' (first | omega | with_reducible refine And.intro ?_ ?_ | with_reducible intro g)
      all_goals exact K _ _ (y.st _) (am_u2_at _ _ _ _) (fy_M.st _) fy_ML.rfl
  by_cases g3 : tm t - 1 < n
  · refine ⟨nM, 3, tm, ts, tv, ok, ?_, ?_⟩
    · intro c d I L R hcd h hc hz y Q K
      simp (disch := omega) only [wp_U_cover, wp_U_coverStatus, wp_U_trayStatus, wp_Tray_isMissing, wp_U_isTray, wp_U_within, wp_U_refused, hc, y.r ht4, y.so ht4 g2, y.mn ht4 g2, zi_0, zi_1, zi_2, zi_3, zi_4, zi_5, zi_6, zi_7, zi_8, zi_9, zi_10, zi_11, zi_12, zi_13, zi_14, zi_15, zi_16, zi_17, zi_18, zi_19, zi_20, zi_21, zi_22, zi_23, zi_24, zi_25, zi_26, zi_30, zi_31, zi_32, zi_34, zi_38, zi_59, zi_60, zi_61, zi_63, zi_64, zi_80, zi_96, zi_97, zi_99, zi_100, zi_122, zi_255, zi_256, zi_300, zi_398, zi_406, zi_900, zi_1000, zi_1024, zi_1624, zi_1662, zi_2030, zi_2031, zi_2068, zi_2258, zi_9999, zi_48, zi_57, zi_65536, zi_3257, zi_11483, zi_1000000, zi_729, zi_81, zi_m1, nI_add, pk_mul, nI_ltI, nI_leI, nI_eq, nI_clamp, zn_in, zn_sub1lt, zn_M, zn_Ml, zn_Mg, zn_Mle, zn_Mge, zn_sub, Nat.reduceAdd, Nat.reduceMul, forall_eq, true_imp_iff, false_imp_iff, and_true, true_and, not_true_eq_false, not_false_eq_true, reduceCtorEq, imp_self, eq_self, false_and, and_false, implies_true]
      repeat' (first | omega | with_reducible refine And.intro ?_ ?_ | with_reducible intro g)
      all_goals exact K _ _ (y.st _) (am_u2_at _ _ _ _) (fy_U.st _) fy_UL.rfl
    · intro I L R h y Q K
      simp (disch := omega) only [wp_M_cover, wp_M_wrongCells, wp_M_isTray, wp_M_isFrom, wp_M_refuse, zj_0, zj_1, zj_2, zj_4, zj_6, zj_7, zj_8, zj_16, zj_20, zj_60, zj_63, zj_64, zj_99, zj_9999, nI_l, zk_lt, zk_le, zk_eq, zk_add, zk_in, y.mn ht4 g2, zi_0, zi_1, zi_2, zi_3, zi_4, zi_5, zi_6, zi_7, zi_8, zi_9, zi_10, zi_11, zi_12, zi_13, zi_14, zi_15, zi_16, zi_17, zi_18, zi_19, zi_20, zi_21, zi_22, zi_23, zi_24, zi_25, zi_26, zi_30, zi_31, zi_32, zi_34, zi_38, zi_59, zi_60, zi_61, zi_63, zi_64, zi_80, zi_96, zi_97, zi_99, zi_100, zi_122, zi_255, zi_256, zi_300, zi_398, zi_406, zi_900, zi_1000, zi_1024, zi_1624, zi_1662, zi_2030, zi_2031, zi_2068, zi_2258, zi_9999, zi_48, zi_57, zi_65536, zi_3257, zi_11483, zi_1000000, zi_729, zi_81, zi_m1, nI_add, pk_mul, nI_ltI, nI_leI, nI_eq, nI_clamp, zn_in, zn_sub1lt, zn_M, zn_Ml, zn_Mg, zn_Mle, zn_Mge, zn_sub, Nat.reduceAdd, Nat.reduceMul, forall_eq, true_imp_iff, false_imp_iff, and_true, true_and, not_true_eq_false, not_false_eq_true, reduceCtorEq, imp_self, eq_self, false_and, and_false, implies_true]
      repeat' (first | omega | with_reducible refine And.intro ?_ ?_ | with_reducible intro g)
      all_goals exact K _ _ (y.st _) (am_u2_at _ _ _ _) (fy_M.st _) fy_ML.rfl
  have p2 : 2 ^ n ≤ 256 ∧ 1 ≤ 2 ^ n := ⟨Nat.pow_le_pow_right (n := 2) (by decide) (show n ≤ 8 by omega), Nat.one_le_two_pow⟩
  by_cases gv : ∀ i, i < n → cg q tv t i
  rotate_left
  · refine ⟨nM, 5, tm, ts, tv, ok, ?_, ?_⟩
    · intro c d I L R hcd h hc hz y Q K
      simp (disch := omega) only [wp_U_cover, wp_U_coverStatus, wp_U_trayStatus, wp_Tray_isMissing, wp_U_isTray, wp_U_within, wp_U_refused, hc, y.r ht4, y.so ht4 g2, y.mn ht4 g2, zi_0, zi_1, zi_2, zi_3, zi_4, zi_5, zi_6, zi_7, zi_8, zi_9, zi_10, zi_11, zi_12, zi_13, zi_14, zi_15, zi_16, zi_17, zi_18, zi_19, zi_20, zi_21, zi_22, zi_23, zi_24, zi_25, zi_26, zi_30, zi_31, zi_32, zi_34, zi_38, zi_59, zi_60, zi_61, zi_63, zi_64, zi_80, zi_96, zi_97, zi_99, zi_100, zi_122, zi_255, zi_256, zi_300, zi_398, zi_406, zi_900, zi_1000, zi_1024, zi_1624, zi_1662, zi_2030, zi_2031, zi_2068, zi_2258, zi_9999, zi_48, zi_57, zi_65536, zi_3257, zi_11483, zi_1000000, zi_729, zi_81, zi_m1, nI_add, pk_mul, nI_ltI, nI_leI, nI_eq, nI_clamp, zn_in, zn_sub1lt, zn_M, zn_Ml, zn_Mg, zn_Mle, zn_Mge, zn_sub, Nat.reduceAdd, Nat.reduceMul, forall_eq, true_imp_iff, false_imp_iff, and_true, true_and, not_true_eq_false, not_false_eq_true, reduceCtorEq, imp_self, eq_self, false_and, and_false, implies_true]
      repeat' (first | omega | with_reducible refine And.intro ?_ ?_ | with_reducible intro g)
      refine su_cover h hcd okq hz y ht4 (by omega) (by omega) (by omega) (fun _ I1 f1 => ?_) (fun z => absurd z gv)
      obtain ⟨s1, s2⟩ := cv_frU hcd h f1
      have y1 : tr_U tm ts tv I1 L R := y.keep (fun r a b => by funext j; exact f1 r j (by omega)) (fun _ _ _ => rfl)
      simp (disch := omega) only [wp_U_refused, zi_0, zi_1, zi_2, zi_3, zi_4, zi_5, zi_6, zi_7, zi_8, zi_9, zi_10, zi_11, zi_12, zi_13, zi_14, zi_15, zi_16, zi_17, zi_18, zi_19, zi_20, zi_21, zi_22, zi_23, zi_24, zi_25, zi_26, zi_30, zi_31, zi_32, zi_34, zi_38, zi_59, zi_60, zi_61, zi_63, zi_64, zi_80, zi_96, zi_97, zi_99, zi_100, zi_122, zi_255, zi_256, zi_300, zi_398, zi_406, zi_900, zi_1000, zi_1024, zi_1624, zi_1662, zi_2030, zi_2031, zi_2068, zi_2258, zi_9999, zi_48, zi_57, zi_65536, zi_3257, zi_11483, zi_1000000, zi_729, zi_81, zi_m1, nI_add, pk_mul, nI_ltI, nI_leI, nI_eq, nI_clamp, zn_in, zn_sub1lt, zn_M, zn_Ml, zn_Mg, zn_Mle, zn_Mge, zn_sub, Nat.reduceAdd, Nat.reduceMul, forall_eq, true_imp_iff, false_imp_iff, and_true, true_and, not_true_eq_false, not_false_eq_true, reduceCtorEq, imp_self, eq_self, false_and, and_false, implies_true]
      exact K _ _ (y1.st _) (am_u2_at _ _ _ _) (s2.trans (fy_U.st _)) fy_UL.rfl
    · intro I L R h y Q K
      simp (disch := omega) only [wp_M_cover, wp_M_wrongCells, wp_M_isTray, wp_M_isFrom, wp_M_refuse, zj_0, zj_1, zj_2, zj_4, zj_6, zj_7, zj_8, zj_16, zj_20, zj_60, zj_63, zj_64, zj_99, zj_9999, nI_l, zk_lt, zk_le, zk_eq, zk_add, zk_in, y.mn ht4 g2, zi_0, zi_1, zi_2, zi_3, zi_4, zi_5, zi_6, zi_7, zi_8, zi_9, zi_10, zi_11, zi_12, zi_13, zi_14, zi_15, zi_16, zi_17, zi_18, zi_19, zi_20, zi_21, zi_22, zi_23, zi_24, zi_25, zi_26, zi_30, zi_31, zi_32, zi_34, zi_38, zi_59, zi_60, zi_61, zi_63, zi_64, zi_80, zi_96, zi_97, zi_99, zi_100, zi_122, zi_255, zi_256, zi_300, zi_398, zi_406, zi_900, zi_1000, zi_1024, zi_1624, zi_1662, zi_2030, zi_2031, zi_2068, zi_2258, zi_9999, zi_48, zi_57, zi_65536, zi_3257, zi_11483, zi_1000000, zi_729, zi_81, zi_m1, nI_add, pk_mul, nI_ltI, nI_leI, nI_eq, nI_clamp, zn_in, zn_sub1lt, zn_M, zn_Ml, zn_Mg, zn_Mle, zn_Mge, zn_sub, Nat.reduceAdd, Nat.reduceMul, forall_eq, true_imp_iff, false_imp_iff, and_true, true_and, not_true_eq_false, not_false_eq_true, reduceCtorEq, imp_self, eq_self, false_and, and_false, implies_true]
      repeat' (first | omega | with_reducible refine And.intro ?_ ?_ | with_reducible intro g)
      refine sm_wrongC h okq y ht4 (by omega) (by omega) (fun z => absurd z gv) (fun z => ?_)
      simp (disch := omega) only [wp_M_refuse, zi_0, zi_1, zi_2, zi_3, zi_4, zi_5, zi_6, zi_7, zi_8, zi_9, zi_10, zi_11, zi_12, zi_13, zi_14, zi_15, zi_16, zi_17, zi_18, zi_19, zi_20, zi_21, zi_22, zi_23, zi_24, zi_25, zi_26, zi_30, zi_31, zi_32, zi_34, zi_38, zi_59, zi_60, zi_61, zi_63, zi_64, zi_80, zi_96, zi_97, zi_99, zi_100, zi_122, zi_255, zi_256, zi_300, zi_398, zi_406, zi_900, zi_1000, zi_1024, zi_1624, zi_1662, zi_2030, zi_2031, zi_2068, zi_2258, zi_9999, zi_48, zi_57, zi_65536, zi_3257, zi_11483, zi_1000000, zi_729, zi_81, zi_m1, nI_add, pk_mul, nI_ltI, nI_leI, nI_eq, nI_clamp, zn_in, zn_sub1lt, zn_M, zn_Ml, zn_Mg, zn_Mle, zn_Mge, zn_sub, Nat.reduceAdd, Nat.reduceMul, forall_eq, true_imp_iff, false_imp_iff, and_true, true_and, not_true_eq_false, not_false_eq_true, reduceCtorEq, imp_self, eq_self, false_and, and_false, implies_true]
      exact ⟨fun g => absurd g (by omega), fun _ => K _ _ (y.st _) (am_u2_at _ _ _ _) (fy_M.st _) fy_ML.rfl⟩
  have fa := ch_all (q := q) (tv := tv) (t := t) okq (show n ≤ 8 by omega) gv (S := 2 ^ n - 1) (by omega)
  have eG := cF_cG (Z := 1000000) (show 2 ^ n - 1 < 256 by omega) (show cF (fun x => ch q tv t x n) (q 0 * q 1) (2 ^ n - 1) < 1000 by omega) (by omega)
  have z0 : zan (2 ^ n - 1) 0 = 2 ^ n - 1 := by unfold zan; rw [Nat.and_zero, Nat.xor_zero]
  refine ⟨nI (cF (fun x => ch q tv t x n) (q 0 * q 1) (2 ^ n - 1)), 0, tm, ts, tv, ok, ?_, ?_⟩
  · intro c d I L R hcd h hc hz y Q K
    simp (disch := omega) only [wp_U_cover, wp_U_coverStatus, wp_U_trayStatus, wp_Tray_isMissing, wp_U_isTray, wp_U_within, wp_U_refused, hc, y.r ht4, y.so ht4 g2, y.mn ht4 g2, zi_0, zi_1, zi_2, zi_3, zi_4, zi_5, zi_6, zi_7, zi_8, zi_9, zi_10, zi_11, zi_12, zi_13, zi_14, zi_15, zi_16, zi_17, zi_18, zi_19, zi_20, zi_21, zi_22, zi_23, zi_24, zi_25, zi_26, zi_30, zi_31, zi_32, zi_34, zi_38, zi_59, zi_60, zi_61, zi_63, zi_64, zi_80, zi_96, zi_97, zi_99, zi_100, zi_122, zi_255, zi_256, zi_300, zi_398, zi_406, zi_900, zi_1000, zi_1024, zi_1624, zi_1662, zi_2030, zi_2031, zi_2068, zi_2258, zi_9999, zi_48, zi_57, zi_65536, zi_3257, zi_11483, zi_1000000, zi_729, zi_81, zi_m1, nI_add, pk_mul, nI_ltI, nI_leI, nI_eq, nI_clamp, zn_in, zn_sub1lt, zn_M, zn_Ml, zn_Mg, zn_Mle, zn_Mge, zn_sub, Nat.reduceAdd, Nat.reduceMul, forall_eq, true_imp_iff, false_imp_iff, and_true, true_and, not_true_eq_false, not_false_eq_true, reduceCtorEq, imp_self, eq_self, false_and, and_false, implies_true]
    repeat' (first | omega | with_reducible refine And.intro ?_ ?_ | with_reducible intro g)
    refine su_cover h hcd okq hz y ht4 (by omega) (by omega) (by omega) (fun z => absurd gv z) (fun _ I1 c1 t1 f1 => ?_)
    obtain ⟨s1, s2⟩ := cv_frU hcd h f1
    have y1 : tr_U tm ts tv I1 L R := y.keep (fun r a b => by funext j; exact f1 r j (by omega)) (fun _ _ _ => rfl)
    simp (disch := omega) only [wp_Covering_fewestThrows, wp_U_answered, c1.2.1, t1 (2 ^ n - 1) (by omega), zi_0, zi_1, zi_2, zi_3, zi_4, zi_5, zi_6, zi_7, zi_8, zi_9, zi_10, zi_11, zi_12, zi_13, zi_14, zi_15, zi_16, zi_17, zi_18, zi_19, zi_20, zi_21, zi_22, zi_23, zi_24, zi_25, zi_26, zi_30, zi_31, zi_32, zi_34, zi_38, zi_59, zi_60, zi_61, zi_63, zi_64, zi_80, zi_96, zi_97, zi_99, zi_100, zi_122, zi_255, zi_256, zi_300, zi_398, zi_406, zi_900, zi_1000, zi_1024, zi_1624, zi_1662, zi_2030, zi_2031, zi_2068, zi_2258, zi_9999, zi_48, zi_57, zi_65536, zi_3257, zi_11483, zi_1000000, zi_729, zi_81, zi_m1, nI_add, pk_mul, nI_ltI, nI_leI, nI_eq, nI_clamp, zn_in, zn_sub1lt, zn_M, zn_Ml, zn_Mg, zn_Mle, zn_Mge, zn_sub, Nat.reduceAdd, Nat.reduceMul, forall_eq, true_imp_iff, false_imp_iff, and_true, true_and, not_true_eq_false, not_false_eq_true, reduceCtorEq, imp_self, eq_self, false_and, and_false, implies_true]
    refine ⟨by omega, ?_⟩
    exact K _ _ (y1.st _) (am_u2_at _ _ _ _) (s2.trans (fy_U.st _)) fy_UL.rfl
  · intro I L R h y Q K
    simp (disch := omega) only [wp_M_cover, wp_M_wrongCells, wp_M_isTray, wp_M_isFrom, wp_M_refuse, zj_0, zj_1, zj_2, zj_4, zj_6, zj_7, zj_8, zj_16, zj_20, zj_60, zj_63, zj_64, zj_99, zj_9999, nI_l, zk_lt, zk_le, zk_eq, zk_add, zk_in, y.mn ht4 g2, zi_0, zi_1, zi_2, zi_3, zi_4, zi_5, zi_6, zi_7, zi_8, zi_9, zi_10, zi_11, zi_12, zi_13, zi_14, zi_15, zi_16, zi_17, zi_18, zi_19, zi_20, zi_21, zi_22, zi_23, zi_24, zi_25, zi_26, zi_30, zi_31, zi_32, zi_34, zi_38, zi_59, zi_60, zi_61, zi_63, zi_64, zi_80, zi_96, zi_97, zi_99, zi_100, zi_122, zi_255, zi_256, zi_300, zi_398, zi_406, zi_900, zi_1000, zi_1024, zi_1624, zi_1662, zi_2030, zi_2031, zi_2068, zi_2258, zi_9999, zi_48, zi_57, zi_65536, zi_3257, zi_11483, zi_1000000, zi_729, zi_81, zi_m1, nI_add, pk_mul, nI_ltI, nI_leI, nI_eq, nI_clamp, zn_in, zn_sub1lt, zn_M, zn_Ml, zn_Mg, zn_Mle, zn_Mge, zn_sub, Nat.reduceAdd, Nat.reduceMul, forall_eq, true_imp_iff, false_imp_iff, and_true, true_and, not_true_eq_false, not_false_eq_true, reduceCtorEq, imp_self, eq_self, false_and, and_false, implies_true]
    repeat' (first | omega | with_reducible refine And.intro ?_ ?_ | with_reducible intro g)
    refine sm_wrongC h okq y ht4 (by omega) (by omega) (fun z => ?_) (fun z => absurd gv z)
    try simp (disch := omega) only [zi_0, zi_1, zi_2, zi_3, zi_4, zi_5, zi_6, zi_7, zi_8, zi_9, zi_10, zi_11, zi_12, zi_13, zi_14, zi_15, zi_16, zi_17, zi_18, zi_19, zi_20, zi_21, zi_22, zi_23, zi_24, zi_25, zi_26, zi_30, zi_31, zi_32, zi_34, zi_38, zi_59, zi_60, zi_61, zi_63, zi_64, zi_80, zi_96, zi_97, zi_99, zi_100, zi_122, zi_255, zi_256, zi_300, zi_398, zi_406, zi_900, zi_1000, zi_1024, zi_1624, zi_1662, zi_2030, zi_2031, zi_2068, zi_2258, zi_9999, zi_48, zi_57, zi_65536, zi_3257, zi_11483, zi_1000000, zi_729, zi_81, zi_m1, nI_add, pk_mul, nI_ltI, nI_leI, nI_eq, nI_clamp, zn_in, zn_sub1lt, zn_M, zn_Ml, zn_Mg, zn_Mle, zn_Mge, zn_sub, Nat.reduceAdd, Nat.reduceMul, forall_eq, true_imp_iff, false_imp_iff, and_true, true_and, not_true_eq_false, not_false_eq_true, reduceCtorEq, imp_self, eq_self, false_and, and_false, implies_true]
    refine ⟨fun _ => sm_throws h okq y ht4 (by omega) (by omega) gv (fun I1 c1 f1 => ?_), fun g => absurd (by omega) g⟩
    have y1 : tr_M tm ts tv I1 L := y.keep (f1 106 (by omega)) (f1 107 (by omega)) rfl
    have h1 : sq_M q 0 I1 L := h.keep (fun j _ _ => by rw [f1 104 (by omega)]) rfl okq.2.2.2.2.1
    have s2 : fy_M I I1 := fun r k _ _ _ g => by rw [f1 r g]
    have e0 := c1 0 (by omega) (by omega) 0 (by omega)
    rw [Nat.sub_zero, z0, eG] at e0
    have e0' : I1 120 0 = nI (cF (fun x => ch q tv t x n) (q 0 * q 1) (2 ^ n - 1)) := e0
    simp (disch := omega) only [wp_M_gives, e0', zi_0, zi_1, zi_2, zi_3, zi_4, zi_5, zi_6, zi_7, zi_8, zi_9, zi_10, zi_11, zi_12, zi_13, zi_14, zi_15, zi_16, zi_17, zi_18, zi_19, zi_20, zi_21, zi_22, zi_23, zi_24, zi_25, zi_26, zi_30, zi_31, zi_32, zi_34, zi_38, zi_59, zi_60, zi_61, zi_63, zi_64, zi_80, zi_96, zi_97, zi_99, zi_100, zi_122, zi_255, zi_256, zi_300, zi_398, zi_406, zi_900, zi_1000, zi_1024, zi_1624, zi_1662, zi_2030, zi_2031, zi_2068, zi_2258, zi_9999, zi_48, zi_57, zi_65536, zi_3257, zi_11483, zi_1000000, zi_729, zi_81, zi_m1, nI_add, pk_mul, nI_ltI, nI_leI, nI_eq, nI_clamp, zn_in, zn_sub1lt, zn_M, zn_Ml, zn_Mg, zn_Mle, zn_Mge, zn_sub, Nat.reduceAdd, Nat.reduceMul, forall_eq, true_imp_iff, false_imp_iff, and_true, true_and, not_true_eq_false, not_false_eq_true, reduceCtorEq, imp_self, eq_self, false_and, and_false, implies_true]
    exact K _ _ (y1.st _) (am_u2_at _ _ _ _) (s2.trans (fy_M.st _)) fy_ML.rfl
theorem op_coverAt (okq : sq_Ok q) (ok : tr_Ok tm ts) (p1 p2 p3 : Int32) : si_Y q tm ts tv (fun I L R Q => wp_U_coverAt I L R 0 p1 p2 p3 (fun a I1 => Q a I1 L)) (fun I L R Q => wp_M_coverAt I L R 103 p1 p2 p3 (fun a I1 => Q a I1 L)) := by
  have o := okq.cells
  rcases zc p3 with hp | ⟨k, hk, rfl⟩
  · refine ⟨nM, 1, tm, ts, tv, ok, ?_, ?_⟩
    · intro c d I L R hcd h hc hz y Q K
      simp (disch := omega) only [wp_U_coverAt, wb_U_coverAt_14, wp_U_coverStatus, wp_U_trayStatus, wp_Tray_isMissing, wp_U_isTray, wp_U_within, wp_U_refused, hc, zc_t hp, zi_0, zi_1, zi_2, zi_3, zi_4, zi_5, zi_6, zi_7, zi_8, zi_9, zi_10, zi_11, zi_12, zi_13, zi_14, zi_15, zi_16, zi_17, zi_18, zi_19, zi_20, zi_21, zi_22, zi_23, zi_24, zi_25, zi_26, zi_30, zi_31, zi_32, zi_34, zi_38, zi_59, zi_60, zi_61, zi_63, zi_64, zi_80, zi_96, zi_97, zi_99, zi_100, zi_122, zi_255, zi_256, zi_300, zi_398, zi_406, zi_900, zi_1000, zi_1024, zi_1624, zi_1662, zi_2030, zi_2031, zi_2068, zi_2258, zi_9999, zi_48, zi_57, zi_65536, zi_3257, zi_11483, zi_1000000, zi_729, zi_81, zi_m1, nI_add, pk_mul, nI_ltI, nI_leI, nI_eq, nI_clamp, zn_in, zn_sub1lt, zn_M, zn_Ml, zn_Mg, zn_Mle, zn_Mge, zn_sub, Nat.reduceAdd, Nat.reduceMul, forall_eq, true_imp_iff, false_imp_iff, and_true, true_and, not_true_eq_false, not_false_eq_true, reduceCtorEq, imp_self, eq_self, false_and, and_false, implies_true]
      repeat' (first | omega | with_reducible refine And.intro ?_ ?_ | with_reducible intro g)
      all_goals exact K _ _ (y.st _) (am_u2_at _ _ _ _) (fy_U.st _) fy_UL.rfl
    · intro I L R h y Q K
      simp (disch := omega) only [wp_M_coverAt, wb_M_coverAt_14, wp_M_wrongCells, wp_M_isTray, wp_M_isFrom, wp_M_refuse, zj_0, zj_1, zj_2, zj_4, zj_6, zj_7, zj_8, zj_16, zj_20, zj_60, zj_63, zj_64, zj_99, zj_9999, nI_l, zk_lt, zk_le, zk_eq, zk_add, zk_in, zc_t hp, zi_0, zi_1, zi_2, zi_3, zi_4, zi_5, zi_6, zi_7, zi_8, zi_9, zi_10, zi_11, zi_12, zi_13, zi_14, zi_15, zi_16, zi_17, zi_18, zi_19, zi_20, zi_21, zi_22, zi_23, zi_24, zi_25, zi_26, zi_30, zi_31, zi_32, zi_34, zi_38, zi_59, zi_60, zi_61, zi_63, zi_64, zi_80, zi_96, zi_97, zi_99, zi_100, zi_122, zi_255, zi_256, zi_300, zi_398, zi_406, zi_900, zi_1000, zi_1024, zi_1624, zi_1662, zi_2030, zi_2031, zi_2068, zi_2258, zi_9999, zi_48, zi_57, zi_65536, zi_3257, zi_11483, zi_1000000, zi_729, zi_81, zi_m1, nI_add, pk_mul, nI_ltI, nI_leI, nI_eq, nI_clamp, zn_in, zn_sub1lt, zn_M, zn_Ml, zn_Mg, zn_Mle, zn_Mge, zn_sub, Nat.reduceAdd, Nat.reduceMul, forall_eq, true_imp_iff, false_imp_iff, and_true, true_and, not_true_eq_false, not_false_eq_true, reduceCtorEq, imp_self, eq_self, false_and, and_false, implies_true]
      repeat' (first | omega | with_reducible refine And.intro ?_ ?_ | with_reducible intro g)
      all_goals exact K _ _ (y.st _) (am_u2_at _ _ _ _) (fy_M.st _) fy_ML.rfl
  rcases zc p1 with hp | ⟨t, ht, rfl⟩
  · refine ⟨nM, 1, tm, ts, tv, ok, ?_, ?_⟩
    · intro c d I L R hcd h hc hz y Q K
      simp (disch := omega) only [wp_U_coverAt, wb_U_coverAt_14, wp_U_coverStatus, wp_U_trayStatus, wp_Tray_isMissing, wp_U_isTray, wp_U_within, wp_U_refused, hc, hp, zc_t hp, zc_l hp, zc_m hp, zc_k hp, zi_0, zi_1, zi_2, zi_3, zi_4, zi_5, zi_6, zi_7, zi_8, zi_9, zi_10, zi_11, zi_12, zi_13, zi_14, zi_15, zi_16, zi_17, zi_18, zi_19, zi_20, zi_21, zi_22, zi_23, zi_24, zi_25, zi_26, zi_30, zi_31, zi_32, zi_34, zi_38, zi_59, zi_60, zi_61, zi_63, zi_64, zi_80, zi_96, zi_97, zi_99, zi_100, zi_122, zi_255, zi_256, zi_300, zi_398, zi_406, zi_900, zi_1000, zi_1024, zi_1624, zi_1662, zi_2030, zi_2031, zi_2068, zi_2258, zi_9999, zi_48, zi_57, zi_65536, zi_3257, zi_11483, zi_1000000, zi_729, zi_81, zi_m1, nI_add, pk_mul, nI_ltI, nI_leI, nI_eq, nI_clamp, zn_in, zn_sub1lt, zn_M, zn_Ml, zn_Mg, zn_Mle, zn_Mge, zn_sub, Nat.reduceAdd, Nat.reduceMul, forall_eq, true_imp_iff, false_imp_iff, and_true, true_and, not_true_eq_false, not_false_eq_true, reduceCtorEq, imp_self, eq_self, false_and, and_false, implies_true]
      repeat' (first | omega | with_reducible refine And.intro ?_ ?_ | with_reducible intro g)
      all_goals exact K _ _ (y.st _) (am_u2_at _ _ _ _) (fy_U.st _) fy_UL.rfl
    · intro I L R h y Q K
      simp (disch := omega) only [wp_M_coverAt, wb_M_coverAt_14, wp_M_wrongCells, wp_M_isTray, wp_M_isFrom, wp_M_refuse, zj_0, zj_1, zj_2, zj_4, zj_6, zj_7, zj_8, zj_16, zj_20, zj_60, zj_63, zj_64, zj_99, zj_9999, nI_l, zk_lt, zk_le, zk_eq, zk_add, zk_in, hp, zc_e hp, zf_n hp, zc_t hp, zc_l hp, zc_m hp, zc_k hp, zi_0, zi_1, zi_2, zi_3, zi_4, zi_5, zi_6, zi_7, zi_8, zi_9, zi_10, zi_11, zi_12, zi_13, zi_14, zi_15, zi_16, zi_17, zi_18, zi_19, zi_20, zi_21, zi_22, zi_23, zi_24, zi_25, zi_26, zi_30, zi_31, zi_32, zi_34, zi_38, zi_59, zi_60, zi_61, zi_63, zi_64, zi_80, zi_96, zi_97, zi_99, zi_100, zi_122, zi_255, zi_256, zi_300, zi_398, zi_406, zi_900, zi_1000, zi_1024, zi_1624, zi_1662, zi_2030, zi_2031, zi_2068, zi_2258, zi_9999, zi_48, zi_57, zi_65536, zi_3257, zi_11483, zi_1000000, zi_729, zi_81, zi_m1, nI_add, pk_mul, nI_ltI, nI_leI, nI_eq, nI_clamp, zn_in, zn_sub1lt, zn_M, zn_Ml, zn_Mg, zn_Mle, zn_Mge, zn_sub, Nat.reduceAdd, Nat.reduceMul, forall_eq, true_imp_iff, false_imp_iff, and_true, true_and, not_true_eq_false, not_false_eq_true, reduceCtorEq, imp_self, eq_self, false_and, and_false, implies_true]
      repeat' (first | omega | with_reducible refine And.intro ?_ ?_ | with_reducible intro g)
      all_goals exact K _ _ (y.st _) (am_u2_at _ _ _ _) (fy_M.st _) fy_ML.rfl
  by_cases g1 : 3 < t
  · refine ⟨nM, 1, tm, ts, tv, ok, ?_, ?_⟩
    · intro c d I L R hcd h hc hz y Q K
      simp (disch := omega) only [wp_U_coverAt, wb_U_coverAt_14, wp_U_coverStatus, wp_U_trayStatus, wp_Tray_isMissing, wp_U_isTray, wp_U_within, wp_U_refused, hc, zi_0, zi_1, zi_2, zi_3, zi_4, zi_5, zi_6, zi_7, zi_8, zi_9, zi_10, zi_11, zi_12, zi_13, zi_14, zi_15, zi_16, zi_17, zi_18, zi_19, zi_20, zi_21, zi_22, zi_23, zi_24, zi_25, zi_26, zi_30, zi_31, zi_32, zi_34, zi_38, zi_59, zi_60, zi_61, zi_63, zi_64, zi_80, zi_96, zi_97, zi_99, zi_100, zi_122, zi_255, zi_256, zi_300, zi_398, zi_406, zi_900, zi_1000, zi_1024, zi_1624, zi_1662, zi_2030, zi_2031, zi_2068, zi_2258, zi_9999, zi_48, zi_57, zi_65536, zi_3257, zi_11483, zi_1000000, zi_729, zi_81, zi_m1, nI_add, pk_mul, nI_ltI, nI_leI, nI_eq, nI_clamp, zn_in, zn_sub1lt, zn_M, zn_Ml, zn_Mg, zn_Mle, zn_Mge, zn_sub, Nat.reduceAdd, Nat.reduceMul, forall_eq, true_imp_iff, false_imp_iff, and_true, true_and, not_true_eq_false, not_false_eq_true, reduceCtorEq, imp_self, eq_self, false_and, and_false, implies_true]
      repeat' (first | omega | with_reducible refine And.intro ?_ ?_ | with_reducible intro g)
      all_goals exact K _ _ (y.st _) (am_u2_at _ _ _ _) (fy_U.st _) fy_UL.rfl
    · intro I L R h y Q K
      simp (disch := omega) only [wp_M_coverAt, wb_M_coverAt_14, wp_M_wrongCells, wp_M_isTray, wp_M_isFrom, wp_M_refuse, zj_0, zj_1, zj_2, zj_4, zj_6, zj_7, zj_8, zj_16, zj_20, zj_60, zj_63, zj_64, zj_99, zj_9999, nI_l, zk_lt, zk_le, zk_eq, zk_add, zk_in, zi_0, zi_1, zi_2, zi_3, zi_4, zi_5, zi_6, zi_7, zi_8, zi_9, zi_10, zi_11, zi_12, zi_13, zi_14, zi_15, zi_16, zi_17, zi_18, zi_19, zi_20, zi_21, zi_22, zi_23, zi_24, zi_25, zi_26, zi_30, zi_31, zi_32, zi_34, zi_38, zi_59, zi_60, zi_61, zi_63, zi_64, zi_80, zi_96, zi_97, zi_99, zi_100, zi_122, zi_255, zi_256, zi_300, zi_398, zi_406, zi_900, zi_1000, zi_1024, zi_1624, zi_1662, zi_2030, zi_2031, zi_2068, zi_2258, zi_9999, zi_48, zi_57, zi_65536, zi_3257, zi_11483, zi_1000000, zi_729, zi_81, zi_m1, nI_add, pk_mul, nI_ltI, nI_leI, nI_eq, nI_clamp, zn_in, zn_sub1lt, zn_M, zn_Ml, zn_Mg, zn_Mle, zn_Mge, zn_sub, Nat.reduceAdd, Nat.reduceMul, forall_eq, true_imp_iff, false_imp_iff, and_true, true_and, not_true_eq_false, not_false_eq_true, reduceCtorEq, imp_self, eq_self, false_and, and_false, implies_true]
      repeat' (first | omega | with_reducible refine And.intro ?_ ?_ | with_reducible intro g)
      all_goals exact K _ _ (y.st _) (am_u2_at _ _ _ _) (fy_M.st _) fy_ML.rfl
  have ht4 : t < 4 := by omega
  have ok1 := ok t ht4
  rcases zc p2 with hp | ⟨n, hn, rfl⟩
  · refine ⟨nM, 1, tm, ts, tv, ok, ?_, ?_⟩
    · intro c d I L R hcd h hc hz y Q K
      simp (disch := omega) only [wp_U_coverAt, wb_U_coverAt_14, wp_U_coverStatus, wp_U_trayStatus, wp_Tray_isMissing, wp_U_isTray, wp_U_within, wp_U_refused, hc, hp, zc_e hp, zc_t hp, zc_l hp, zc_m hp, zc_k hp, zi_0, zi_1, zi_2, zi_3, zi_4, zi_5, zi_6, zi_7, zi_8, zi_9, zi_10, zi_11, zi_12, zi_13, zi_14, zi_15, zi_16, zi_17, zi_18, zi_19, zi_20, zi_21, zi_22, zi_23, zi_24, zi_25, zi_26, zi_30, zi_31, zi_32, zi_34, zi_38, zi_59, zi_60, zi_61, zi_63, zi_64, zi_80, zi_96, zi_97, zi_99, zi_100, zi_122, zi_255, zi_256, zi_300, zi_398, zi_406, zi_900, zi_1000, zi_1024, zi_1624, zi_1662, zi_2030, zi_2031, zi_2068, zi_2258, zi_9999, zi_48, zi_57, zi_65536, zi_3257, zi_11483, zi_1000000, zi_729, zi_81, zi_m1, nI_add, pk_mul, nI_ltI, nI_leI, nI_eq, nI_clamp, zn_in, zn_sub1lt, zn_M, zn_Ml, zn_Mg, zn_Mle, zn_Mge, zn_sub, Nat.reduceAdd, Nat.reduceMul, forall_eq, true_imp_iff, false_imp_iff, and_true, true_and, not_true_eq_false, not_false_eq_true, reduceCtorEq, imp_self, eq_self, false_and, and_false, implies_true]
      repeat' (first | omega | with_reducible refine And.intro ?_ ?_ | with_reducible intro g)
      all_goals exact K _ _ (y.st _) (am_u2_at _ _ _ _) (fy_U.st _) fy_UL.rfl
    · intro I L R h y Q K
      simp (disch := omega) only [wp_M_coverAt, wb_M_coverAt_14, wp_M_wrongCells, wp_M_isTray, wp_M_isFrom, wp_M_refuse, zj_0, zj_1, zj_2, zj_4, zj_6, zj_7, zj_8, zj_16, zj_20, zj_60, zj_63, zj_64, zj_99, zj_9999, nI_l, zk_lt, zk_le, zk_eq, zk_add, zk_in, hp, zc_e hp, zf_n hp, zc_t hp, zc_l hp, zc_m hp, zc_k hp, zi_0, zi_1, zi_2, zi_3, zi_4, zi_5, zi_6, zi_7, zi_8, zi_9, zi_10, zi_11, zi_12, zi_13, zi_14, zi_15, zi_16, zi_17, zi_18, zi_19, zi_20, zi_21, zi_22, zi_23, zi_24, zi_25, zi_26, zi_30, zi_31, zi_32, zi_34, zi_38, zi_59, zi_60, zi_61, zi_63, zi_64, zi_80, zi_96, zi_97, zi_99, zi_100, zi_122, zi_255, zi_256, zi_300, zi_398, zi_406, zi_900, zi_1000, zi_1024, zi_1624, zi_1662, zi_2030, zi_2031, zi_2068, zi_2258, zi_9999, zi_48, zi_57, zi_65536, zi_3257, zi_11483, zi_1000000, zi_729, zi_81, zi_m1, nI_add, pk_mul, nI_ltI, nI_leI, nI_eq, nI_clamp, zn_in, zn_sub1lt, zn_M, zn_Ml, zn_Mg, zn_Mle, zn_Mge, zn_sub, Nat.reduceAdd, Nat.reduceMul, forall_eq, true_imp_iff, false_imp_iff, and_true, true_and, not_true_eq_false, not_false_eq_true, reduceCtorEq, imp_self, eq_self, false_and, and_false, implies_true]
      repeat' (first | omega | with_reducible refine And.intro ?_ ?_ | with_reducible intro g)
      all_goals exact K _ _ (y.st _) (am_u2_at _ _ _ _) (fy_M.st _) fy_ML.rfl
  by_cases gn : 8 < n
  · refine ⟨nM, 1, tm, ts, tv, ok, ?_, ?_⟩
    · intro c d I L R hcd h hc hz y Q K
      simp (disch := omega) only [wp_U_coverAt, wb_U_coverAt_14, wp_U_coverStatus, wp_U_trayStatus, wp_Tray_isMissing, wp_U_isTray, wp_U_within, wp_U_refused, hc, zi_0, zi_1, zi_2, zi_3, zi_4, zi_5, zi_6, zi_7, zi_8, zi_9, zi_10, zi_11, zi_12, zi_13, zi_14, zi_15, zi_16, zi_17, zi_18, zi_19, zi_20, zi_21, zi_22, zi_23, zi_24, zi_25, zi_26, zi_30, zi_31, zi_32, zi_34, zi_38, zi_59, zi_60, zi_61, zi_63, zi_64, zi_80, zi_96, zi_97, zi_99, zi_100, zi_122, zi_255, zi_256, zi_300, zi_398, zi_406, zi_900, zi_1000, zi_1024, zi_1624, zi_1662, zi_2030, zi_2031, zi_2068, zi_2258, zi_9999, zi_48, zi_57, zi_65536, zi_3257, zi_11483, zi_1000000, zi_729, zi_81, zi_m1, nI_add, pk_mul, nI_ltI, nI_leI, nI_eq, nI_clamp, zn_in, zn_sub1lt, zn_M, zn_Ml, zn_Mg, zn_Mle, zn_Mge, zn_sub, Nat.reduceAdd, Nat.reduceMul, forall_eq, true_imp_iff, false_imp_iff, and_true, true_and, not_true_eq_false, not_false_eq_true, reduceCtorEq, imp_self, eq_self, false_and, and_false, implies_true]
      repeat' (first | omega | with_reducible refine And.intro ?_ ?_ | with_reducible intro g)
      all_goals exact K _ _ (y.st _) (am_u2_at _ _ _ _) (fy_U.st _) fy_UL.rfl
    · intro I L R h y Q K
      simp (disch := omega) only [wp_M_coverAt, wb_M_coverAt_14, wp_M_wrongCells, wp_M_isTray, wp_M_isFrom, wp_M_refuse, zj_0, zj_1, zj_2, zj_4, zj_6, zj_7, zj_8, zj_16, zj_20, zj_60, zj_63, zj_64, zj_99, zj_9999, nI_l, zk_lt, zk_le, zk_eq, zk_add, zk_in, zi_0, zi_1, zi_2, zi_3, zi_4, zi_5, zi_6, zi_7, zi_8, zi_9, zi_10, zi_11, zi_12, zi_13, zi_14, zi_15, zi_16, zi_17, zi_18, zi_19, zi_20, zi_21, zi_22, zi_23, zi_24, zi_25, zi_26, zi_30, zi_31, zi_32, zi_34, zi_38, zi_59, zi_60, zi_61, zi_63, zi_64, zi_80, zi_96, zi_97, zi_99, zi_100, zi_122, zi_255, zi_256, zi_300, zi_398, zi_406, zi_900, zi_1000, zi_1024, zi_1624, zi_1662, zi_2030, zi_2031, zi_2068, zi_2258, zi_9999, zi_48, zi_57, zi_65536, zi_3257, zi_11483, zi_1000000, zi_729, zi_81, zi_m1, nI_add, pk_mul, nI_ltI, nI_leI, nI_eq, nI_clamp, zn_in, zn_sub1lt, zn_M, zn_Ml, zn_Mg, zn_Mle, zn_Mge, zn_sub, Nat.reduceAdd, Nat.reduceMul, forall_eq, true_imp_iff, false_imp_iff, and_true, true_and, not_true_eq_false, not_false_eq_true, reduceCtorEq, imp_self, eq_self, false_and, and_false, implies_true]
      repeat' (first | omega | with_reducible refine And.intro ?_ ?_ | with_reducible intro g)
      all_goals exact K _ _ (y.st _) (am_u2_at _ _ _ _) (fy_M.st _) fy_ML.rfl
  by_cases g2 : tm t = 0
  · refine ⟨nM, 2, tm, ts, tv, ok, ?_, ?_⟩
    · intro c d I L R hcd h hc hz y Q K
      simp (disch := omega) only [wp_U_coverAt, wb_U_coverAt_14, wp_U_coverStatus, wp_U_trayStatus, wp_Tray_isMissing, wp_U_isTray, wp_U_within, wp_U_refused, hc, y.r ht4, y.no ht4 g2, zi_0, zi_1, zi_2, zi_3, zi_4, zi_5, zi_6, zi_7, zi_8, zi_9, zi_10, zi_11, zi_12, zi_13, zi_14, zi_15, zi_16, zi_17, zi_18, zi_19, zi_20, zi_21, zi_22, zi_23, zi_24, zi_25, zi_26, zi_30, zi_31, zi_32, zi_34, zi_38, zi_59, zi_60, zi_61, zi_63, zi_64, zi_80, zi_96, zi_97, zi_99, zi_100, zi_122, zi_255, zi_256, zi_300, zi_398, zi_406, zi_900, zi_1000, zi_1024, zi_1624, zi_1662, zi_2030, zi_2031, zi_2068, zi_2258, zi_9999, zi_48, zi_57, zi_65536, zi_3257, zi_11483, zi_1000000, zi_729, zi_81, zi_m1, nI_add, pk_mul, nI_ltI, nI_leI, nI_eq, nI_clamp, zn_in, zn_sub1lt, zn_M, zn_Ml, zn_Mg, zn_Mle, zn_Mge, zn_sub, Nat.reduceAdd, Nat.reduceMul, forall_eq, true_imp_iff, false_imp_iff, and_true, true_and, not_true_eq_false, not_false_eq_true, reduceCtorEq, imp_self, eq_self, false_and, and_false, implies_true]
      repeat' (first | omega | with_reducible refine And.intro ?_ ?_ | with_reducible intro g)
      all_goals exact K _ _ (y.st _) (am_u2_at _ _ _ _) (fy_U.st _) fy_UL.rfl
    · intro I L R h y Q K
      simp (disch := omega) only [wp_M_coverAt, wb_M_coverAt_14, wp_M_wrongCells, wp_M_isTray, wp_M_isFrom, wp_M_refuse, zj_0, zj_1, zj_2, zj_4, zj_6, zj_7, zj_8, zj_16, zj_20, zj_60, zj_63, zj_64, zj_99, zj_9999, nI_l, zk_lt, zk_le, zk_eq, zk_add, zk_in, y.no ht4 g2, zi_0, zi_1, zi_2, zi_3, zi_4, zi_5, zi_6, zi_7, zi_8, zi_9, zi_10, zi_11, zi_12, zi_13, zi_14, zi_15, zi_16, zi_17, zi_18, zi_19, zi_20, zi_21, zi_22, zi_23, zi_24, zi_25, zi_26, zi_30, zi_31, zi_32, zi_34, zi_38, zi_59, zi_60, zi_61, zi_63, zi_64, zi_80, zi_96, zi_97, zi_99, zi_100, zi_122, zi_255, zi_256, zi_300, zi_398, zi_406, zi_900, zi_1000, zi_1024, zi_1624, zi_1662, zi_2030, zi_2031, zi_2068, zi_2258, zi_9999, zi_48, zi_57, zi_65536, zi_3257, zi_11483, zi_1000000, zi_729, zi_81, zi_m1, nI_add, pk_mul, nI_ltI, nI_leI, nI_eq, nI_clamp, zn_in, zn_sub1lt, zn_M, zn_Ml, zn_Mg, zn_Mle, zn_Mge, zn_sub, Nat.reduceAdd, Nat.reduceMul, forall_eq, true_imp_iff, false_imp_iff, and_true, true_and, not_true_eq_false, not_false_eq_true, reduceCtorEq, imp_self, eq_self, false_and, and_false, implies_true]
      repeat' (first | omega | with_reducible refine And.intro ?_ ?_ | with_reducible intro g)
      all_goals exact K _ _ (y.st _) (am_u2_at _ _ _ _) (fy_M.st _) fy_ML.rfl
  by_cases g3 : tm t - 1 < n
  · refine ⟨nM, 3, tm, ts, tv, ok, ?_, ?_⟩
    · intro c d I L R hcd h hc hz y Q K
      simp (disch := omega) only [wp_U_coverAt, wb_U_coverAt_14, wp_U_coverStatus, wp_U_trayStatus, wp_Tray_isMissing, wp_U_isTray, wp_U_within, wp_U_refused, hc, y.r ht4, y.so ht4 g2, y.mn ht4 g2, zi_0, zi_1, zi_2, zi_3, zi_4, zi_5, zi_6, zi_7, zi_8, zi_9, zi_10, zi_11, zi_12, zi_13, zi_14, zi_15, zi_16, zi_17, zi_18, zi_19, zi_20, zi_21, zi_22, zi_23, zi_24, zi_25, zi_26, zi_30, zi_31, zi_32, zi_34, zi_38, zi_59, zi_60, zi_61, zi_63, zi_64, zi_80, zi_96, zi_97, zi_99, zi_100, zi_122, zi_255, zi_256, zi_300, zi_398, zi_406, zi_900, zi_1000, zi_1024, zi_1624, zi_1662, zi_2030, zi_2031, zi_2068, zi_2258, zi_9999, zi_48, zi_57, zi_65536, zi_3257, zi_11483, zi_1000000, zi_729, zi_81, zi_m1, nI_add, pk_mul, nI_ltI, nI_leI, nI_eq, nI_clamp, zn_in, zn_sub1lt, zn_M, zn_Ml, zn_Mg, zn_Mle, zn_Mge, zn_sub, Nat.reduceAdd, Nat.reduceMul, forall_eq, true_imp_iff, false_imp_iff, and_true, true_and, not_true_eq_false, not_false_eq_true, reduceCtorEq, imp_self, eq_self, false_and, and_false, implies_true]
      repeat' (first | omega | with_reducible refine And.intro ?_ ?_ | with_reducible intro g)
      all_goals exact K _ _ (y.st _) (am_u2_at _ _ _ _) (fy_U.st _) fy_UL.rfl
    · intro I L R h y Q K
      simp (disch := omega) only [wp_M_coverAt, wb_M_coverAt_14, wp_M_wrongCells, wp_M_isTray, wp_M_isFrom, wp_M_refuse, zj_0, zj_1, zj_2, zj_4, zj_6, zj_7, zj_8, zj_16, zj_20, zj_60, zj_63, zj_64, zj_99, zj_9999, nI_l, zk_lt, zk_le, zk_eq, zk_add, zk_in, y.mn ht4 g2, zi_0, zi_1, zi_2, zi_3, zi_4, zi_5, zi_6, zi_7, zi_8, zi_9, zi_10, zi_11, zi_12, zi_13, zi_14, zi_15, zi_16, zi_17, zi_18, zi_19, zi_20, zi_21, zi_22, zi_23, zi_24, zi_25, zi_26, zi_30, zi_31, zi_32, zi_34, zi_38, zi_59, zi_60, zi_61, zi_63, zi_64, zi_80, zi_96, zi_97, zi_99, zi_100, zi_122, zi_255, zi_256, zi_300, zi_398, zi_406, zi_900, zi_1000, zi_1024, zi_1624, zi_1662, zi_2030, zi_2031, zi_2068, zi_2258, zi_9999, zi_48, zi_57, zi_65536, zi_3257, zi_11483, zi_1000000, zi_729, zi_81, zi_m1, nI_add, pk_mul, nI_ltI, nI_leI, nI_eq, nI_clamp, zn_in, zn_sub1lt, zn_M, zn_Ml, zn_Mg, zn_Mle, zn_Mge, zn_sub, Nat.reduceAdd, Nat.reduceMul, forall_eq, true_imp_iff, false_imp_iff, and_true, true_and, not_true_eq_false, not_false_eq_true, reduceCtorEq, imp_self, eq_self, false_and, and_false, implies_true]
      repeat' (first | omega | with_reducible refine And.intro ?_ ?_ | with_reducible intro g)
      all_goals exact K _ _ (y.st _) (am_u2_at _ _ _ _) (fy_M.st _) fy_ML.rfl
  have p2 : 2 ^ n ≤ 256 ∧ 1 ≤ 2 ^ n := ⟨Nat.pow_le_pow_right (n := 2) (by decide) (show n ≤ 8 by omega), Nat.one_le_two_pow⟩
  by_cases gv : ∀ i, i < n → cg q tv t i
  rotate_left
  · refine ⟨nM, 5, tm, ts, tv, ok, ?_, ?_⟩
    · intro c d I L R hcd h hc hz y Q K
      simp (disch := omega) only [wp_U_coverAt, wb_U_coverAt_14, wp_U_coverStatus, wp_U_trayStatus, wp_Tray_isMissing, wp_U_isTray, wp_U_within, wp_U_refused, hc, y.r ht4, y.so ht4 g2, y.mn ht4 g2, zi_0, zi_1, zi_2, zi_3, zi_4, zi_5, zi_6, zi_7, zi_8, zi_9, zi_10, zi_11, zi_12, zi_13, zi_14, zi_15, zi_16, zi_17, zi_18, zi_19, zi_20, zi_21, zi_22, zi_23, zi_24, zi_25, zi_26, zi_30, zi_31, zi_32, zi_34, zi_38, zi_59, zi_60, zi_61, zi_63, zi_64, zi_80, zi_96, zi_97, zi_99, zi_100, zi_122, zi_255, zi_256, zi_300, zi_398, zi_406, zi_900, zi_1000, zi_1024, zi_1624, zi_1662, zi_2030, zi_2031, zi_2068, zi_2258, zi_9999, zi_48, zi_57, zi_65536, zi_3257, zi_11483, zi_1000000, zi_729, zi_81, zi_m1, nI_add, pk_mul, nI_ltI, nI_leI, nI_eq, nI_clamp, zn_in, zn_sub1lt, zn_M, zn_Ml, zn_Mg, zn_Mle, zn_Mge, zn_sub, Nat.reduceAdd, Nat.reduceMul, forall_eq, true_imp_iff, false_imp_iff, and_true, true_and, not_true_eq_false, not_false_eq_true, reduceCtorEq, imp_self, eq_self, false_and, and_false, implies_true]
      repeat' (first | omega | with_reducible refine And.intro ?_ ?_ | with_reducible intro g)
      refine su_cover h hcd okq hz y ht4 (by omega) (by omega) (by omega) (fun _ I1 f1 => ?_) (fun z => absurd z gv)
      obtain ⟨s1, s2⟩ := cv_frU hcd h f1
      have y1 : tr_U tm ts tv I1 L R := y.keep (fun r a b => by funext j; exact f1 r j (by omega)) (fun _ _ _ => rfl)
      simp (disch := omega) only [wb_U_coverAt_14, wp_U_refused, zi_0, zi_1, zi_2, zi_3, zi_4, zi_5, zi_6, zi_7, zi_8, zi_9, zi_10, zi_11, zi_12, zi_13, zi_14, zi_15, zi_16, zi_17, zi_18, zi_19, zi_20, zi_21, zi_22, zi_23, zi_24, zi_25, zi_26, zi_30, zi_31, zi_32, zi_34, zi_38, zi_59, zi_60, zi_61, zi_63, zi_64, zi_80, zi_96, zi_97, zi_99, zi_100, zi_122, zi_255, zi_256, zi_300, zi_398, zi_406, zi_900, zi_1000, zi_1024, zi_1624, zi_1662, zi_2030, zi_2031, zi_2068, zi_2258, zi_9999, zi_48, zi_57, zi_65536, zi_3257, zi_11483, zi_1000000, zi_729, zi_81, zi_m1, nI_add, pk_mul, nI_ltI, nI_leI, nI_eq, nI_clamp, zn_in, zn_sub1lt, zn_M, zn_Ml, zn_Mg, zn_Mle, zn_Mge, zn_sub, Nat.reduceAdd, Nat.reduceMul, forall_eq, true_imp_iff, false_imp_iff, and_true, true_and, not_true_eq_false, not_false_eq_true, reduceCtorEq, imp_self, eq_self, false_and, and_false, implies_true]
      exact K _ _ (y1.st _) (am_u2_at _ _ _ _) (s2.trans (fy_U.st _)) fy_UL.rfl
    · intro I L R h y Q K
      simp (disch := omega) only [wp_M_coverAt, wb_M_coverAt_14, wp_M_wrongCells, wp_M_isTray, wp_M_isFrom, wp_M_refuse, zj_0, zj_1, zj_2, zj_4, zj_6, zj_7, zj_8, zj_16, zj_20, zj_60, zj_63, zj_64, zj_99, zj_9999, nI_l, zk_lt, zk_le, zk_eq, zk_add, zk_in, y.mn ht4 g2, zi_0, zi_1, zi_2, zi_3, zi_4, zi_5, zi_6, zi_7, zi_8, zi_9, zi_10, zi_11, zi_12, zi_13, zi_14, zi_15, zi_16, zi_17, zi_18, zi_19, zi_20, zi_21, zi_22, zi_23, zi_24, zi_25, zi_26, zi_30, zi_31, zi_32, zi_34, zi_38, zi_59, zi_60, zi_61, zi_63, zi_64, zi_80, zi_96, zi_97, zi_99, zi_100, zi_122, zi_255, zi_256, zi_300, zi_398, zi_406, zi_900, zi_1000, zi_1024, zi_1624, zi_1662, zi_2030, zi_2031, zi_2068, zi_2258, zi_9999, zi_48, zi_57, zi_65536, zi_3257, zi_11483, zi_1000000, zi_729, zi_81, zi_m1, nI_add, pk_mul, nI_ltI, nI_leI, nI_eq, nI_clamp, zn_in, zn_sub1lt, zn_M, zn_Ml, zn_Mg, zn_Mle, zn_Mge, zn_sub, Nat.reduceAdd, Nat.reduceMul, forall_eq, true_imp_iff, false_imp_iff, and_true, true_and, not_true_eq_false, not_false_eq_true, reduceCtorEq, imp_self, eq_self, false_and, and_false, implies_true]
      repeat' (first | omega | with_reducible refine And.intro ?_ ?_ | with_reducible intro g)
      refine sm_wrongC h okq y ht4 (by omega) (by omega) (fun z => absurd z gv) (fun z => ?_)
      simp (disch := omega) only [wb_M_coverAt_14, wp_M_refuse, zi_0, zi_1, zi_2, zi_3, zi_4, zi_5, zi_6, zi_7, zi_8, zi_9, zi_10, zi_11, zi_12, zi_13, zi_14, zi_15, zi_16, zi_17, zi_18, zi_19, zi_20, zi_21, zi_22, zi_23, zi_24, zi_25, zi_26, zi_30, zi_31, zi_32, zi_34, zi_38, zi_59, zi_60, zi_61, zi_63, zi_64, zi_80, zi_96, zi_97, zi_99, zi_100, zi_122, zi_255, zi_256, zi_300, zi_398, zi_406, zi_900, zi_1000, zi_1024, zi_1624, zi_1662, zi_2030, zi_2031, zi_2068, zi_2258, zi_9999, zi_48, zi_57, zi_65536, zi_3257, zi_11483, zi_1000000, zi_729, zi_81, zi_m1, nI_add, pk_mul, nI_ltI, nI_leI, nI_eq, nI_clamp, zn_in, zn_sub1lt, zn_M, zn_Ml, zn_Mg, zn_Mle, zn_Mge, zn_sub, Nat.reduceAdd, Nat.reduceMul, forall_eq, true_imp_iff, false_imp_iff, and_true, true_and, not_true_eq_false, not_false_eq_true, reduceCtorEq, imp_self, eq_self, false_and, and_false, implies_true]
      exact ⟨fun g => absurd g (by omega), fun _ => K _ _ (y.st _) (am_u2_at _ _ _ _) (fy_M.st _) fy_ML.rfl⟩
  have fa := ch_all (q := q) (tv := tv) (t := t) okq (show n ≤ 8 by omega) gv (S := 2 ^ n - 1) (by omega)
  have eG := cF_cG (Z := 1000000) (show 2 ^ n - 1 < 256 by omega) (show cF (fun x => ch q tv t x n) (q 0 * q 1) (2 ^ n - 1) < 1000 by omega) (by omega)
  have z0 : zan (2 ^ n - 1) 0 = 2 ^ n - 1 := by unfold zan; rw [Nat.and_zero, Nat.xor_zero]
  have cl : ∀ r S, r < cF (fun x => ch q tv t x n) (q 0 * q 1) S → S < 2 ^ n → cr (fun x => ch q tv t x n) (q 0 * q 1) r S < 25 := by
    intro r
    induction r with
    | zero =>
      intro S hr hS
      have h0 : S ≠ 0 := fun e => by rw [e, cF_0] at hr; omega
      have := (zfind_ex (cr_ex (h := (fun x => ch q tv t x n)) (C := q 0 * q 1) (show S < 256 by omega) h0 (by have := ch_all (q := q) (tv := tv) (t := t) okq (show n ≤ 8 by omega) gv hS; omega))).1
      rw [cr]; omega
    | succ r ih =>
      intro S hr hS
      have h0 : S ≠ 0 := fun e => by rw [e, cF_0] at hr; omega
      obtain ⟨_, ft, _⟩ := zfind_ex (cr_ex (h := (fun x => ch q tv t x n)) (C := q 0 * q 1) (show S < 256 by omega) h0 (by have := ch_all (q := q) (tv := tv) (t := t) okq (show n ≤ 8 by omega) gv hS; omega))
      rw [cr]
      generalize zfind (cr_P (fun x => ch q tv t x n) (q 0 * q 1) S) (q 0 * q 1) = F at *
      unfold cr_P at ft
      rw [beq_iff_eq] at ft
      try dsimp only at ft ⊢
      have := zan_le S (ch q tv t F n)
      exact ih (zan S (ch q tv t F n)) (by omega) (by omega)
  by_cases gk : k < cF (fun x => ch q tv t x n) (q 0 * q 1) (2 ^ n - 1)
  · have cl2 := cl k _ gk (by omega)
    refine ⟨nI (cr (fun x => ch q tv t x n) (q 0 * q 1) k (2 ^ n - 1)), 0, tm, ts, tv, ok, ?_, ?_⟩
    · intro c d I L R hcd h hc hz y Q K
      simp (disch := omega) only [wp_U_coverAt, wb_U_coverAt_14, wp_U_coverStatus, wp_U_trayStatus, wp_Tray_isMissing, wp_U_isTray, wp_U_within, wp_U_refused, hc, y.r ht4, y.so ht4 g2, y.mn ht4 g2, zi_0, zi_1, zi_2, zi_3, zi_4, zi_5, zi_6, zi_7, zi_8, zi_9, zi_10, zi_11, zi_12, zi_13, zi_14, zi_15, zi_16, zi_17, zi_18, zi_19, zi_20, zi_21, zi_22, zi_23, zi_24, zi_25, zi_26, zi_30, zi_31, zi_32, zi_34, zi_38, zi_59, zi_60, zi_61, zi_63, zi_64, zi_80, zi_96, zi_97, zi_99, zi_100, zi_122, zi_255, zi_256, zi_300, zi_398, zi_406, zi_900, zi_1000, zi_1024, zi_1624, zi_1662, zi_2030, zi_2031, zi_2068, zi_2258, zi_9999, zi_48, zi_57, zi_65536, zi_3257, zi_11483, zi_1000000, zi_729, zi_81, zi_m1, nI_add, pk_mul, nI_ltI, nI_leI, nI_eq, nI_clamp, zn_in, zn_sub1lt, zn_M, zn_Ml, zn_Mg, zn_Mle, zn_Mge, zn_sub, Nat.reduceAdd, Nat.reduceMul, forall_eq, true_imp_iff, false_imp_iff, and_true, true_and, not_true_eq_false, not_false_eq_true, reduceCtorEq, imp_self, eq_self, false_and, and_false, implies_true]
      repeat' (first | omega | with_reducible refine And.intro ?_ ?_ | with_reducible intro g)
      refine su_cover h hcd okq hz y ht4 (by omega) (by omega) (by omega) (fun z => absurd gv z) (fun _ I1 c1 t1 f1 => ?_)
      obtain ⟨s1, s2⟩ := cv_frU hcd h f1
      have y1 : tr_U tm ts tv I1 L R := y.keep (fun r a b => by funext j; exact f1 r j (by omega)) (fun _ _ _ => rfl)
      simp (disch := omega) only [wb_U_coverAt_14, wp_Covering_fewestThrows, wp_Covering_cellOfRow, c1.2.1, t1 (2 ^ n - 1) (by omega), zi_0, zi_1, zi_2, zi_3, zi_4, zi_5, zi_6, zi_7, zi_8, zi_9, zi_10, zi_11, zi_12, zi_13, zi_14, zi_15, zi_16, zi_17, zi_18, zi_19, zi_20, zi_21, zi_22, zi_23, zi_24, zi_25, zi_26, zi_30, zi_31, zi_32, zi_34, zi_38, zi_59, zi_60, zi_61, zi_63, zi_64, zi_80, zi_96, zi_97, zi_99, zi_100, zi_122, zi_255, zi_256, zi_300, zi_398, zi_406, zi_900, zi_1000, zi_1024, zi_1624, zi_1662, zi_2030, zi_2031, zi_2068, zi_2258, zi_9999, zi_48, zi_57, zi_65536, zi_3257, zi_11483, zi_1000000, zi_729, zi_81, zi_m1, nI_add, pk_mul, nI_ltI, nI_leI, nI_eq, nI_clamp, zn_in, zn_sub1lt, zn_M, zn_Ml, zn_Mg, zn_Mle, zn_Mge, zn_sub, Nat.reduceAdd, Nat.reduceMul, forall_eq, true_imp_iff, false_imp_iff, and_true, true_and, not_true_eq_false, not_false_eq_true, reduceCtorEq, imp_self, eq_self, false_and, and_false, implies_true]
      refine ⟨by omega, fun g => absurd g (by omega), fun _ => ⟨_, su_rowC okq (by omega) c1 t1 gv (by omega) k _ 0 _ (by omega) (by omega) gk ?_⟩⟩
      simp (disch := omega) only [wb_U_coverAt_52, wp_U_answeredIfThereIs, wp_U_answered, wp_U_refused, zi_0, zi_1, zi_2, zi_3, zi_4, zi_5, zi_6, zi_7, zi_8, zi_9, zi_10, zi_11, zi_12, zi_13, zi_14, zi_15, zi_16, zi_17, zi_18, zi_19, zi_20, zi_21, zi_22, zi_23, zi_24, zi_25, zi_26, zi_30, zi_31, zi_32, zi_34, zi_38, zi_59, zi_60, zi_61, zi_63, zi_64, zi_80, zi_96, zi_97, zi_99, zi_100, zi_122, zi_255, zi_256, zi_300, zi_398, zi_406, zi_900, zi_1000, zi_1024, zi_1624, zi_1662, zi_2030, zi_2031, zi_2068, zi_2258, zi_9999, zi_48, zi_57, zi_65536, zi_3257, zi_11483, zi_1000000, zi_729, zi_81, zi_m1, nI_add, pk_mul, nI_ltI, nI_leI, nI_eq, nI_clamp, zn_in, zn_sub1lt, zn_M, zn_Ml, zn_Mg, zn_Mle, zn_Mge, zn_sub, Nat.reduceAdd, Nat.reduceMul, forall_eq, true_imp_iff, false_imp_iff, and_true, true_and, not_true_eq_false, not_false_eq_true, reduceCtorEq, imp_self, eq_self, false_and, and_false, implies_true]
      exact K _ _ (y1.st _) (am_u2_at _ _ _ _) (s2.trans (fy_U.st _)) fy_UL.rfl
    · intro I L R h y Q K
      simp (disch := omega) only [wp_M_coverAt, wb_M_coverAt_14, wp_M_wrongCells, wp_M_isTray, wp_M_isFrom, wp_M_refuse, zj_0, zj_1, zj_2, zj_4, zj_6, zj_7, zj_8, zj_16, zj_20, zj_60, zj_63, zj_64, zj_99, zj_9999, nI_l, zk_lt, zk_le, zk_eq, zk_add, zk_in, y.mn ht4 g2, zi_0, zi_1, zi_2, zi_3, zi_4, zi_5, zi_6, zi_7, zi_8, zi_9, zi_10, zi_11, zi_12, zi_13, zi_14, zi_15, zi_16, zi_17, zi_18, zi_19, zi_20, zi_21, zi_22, zi_23, zi_24, zi_25, zi_26, zi_30, zi_31, zi_32, zi_34, zi_38, zi_59, zi_60, zi_61, zi_63, zi_64, zi_80, zi_96, zi_97, zi_99, zi_100, zi_122, zi_255, zi_256, zi_300, zi_398, zi_406, zi_900, zi_1000, zi_1024, zi_1624, zi_1662, zi_2030, zi_2031, zi_2068, zi_2258, zi_9999, zi_48, zi_57, zi_65536, zi_3257, zi_11483, zi_1000000, zi_729, zi_81, zi_m1, nI_add, pk_mul, nI_ltI, nI_leI, nI_eq, nI_clamp, zn_in, zn_sub1lt, zn_M, zn_Ml, zn_Mg, zn_Mle, zn_Mge, zn_sub, Nat.reduceAdd, Nat.reduceMul, forall_eq, true_imp_iff, false_imp_iff, and_true, true_and, not_true_eq_false, not_false_eq_true, reduceCtorEq, imp_self, eq_self, false_and, and_false, implies_true]
      repeat' (first | omega | with_reducible refine And.intro ?_ ?_ | with_reducible intro g)
      refine sm_wrongC h okq y ht4 (by omega) (by omega) (fun z => ?_) (fun z => absurd gv z)
      simp (disch := omega) only [wb_M_coverAt_14, zi_0, zi_1, zi_2, zi_3, zi_4, zi_5, zi_6, zi_7, zi_8, zi_9, zi_10, zi_11, zi_12, zi_13, zi_14, zi_15, zi_16, zi_17, zi_18, zi_19, zi_20, zi_21, zi_22, zi_23, zi_24, zi_25, zi_26, zi_30, zi_31, zi_32, zi_34, zi_38, zi_59, zi_60, zi_61, zi_63, zi_64, zi_80, zi_96, zi_97, zi_99, zi_100, zi_122, zi_255, zi_256, zi_300, zi_398, zi_406, zi_900, zi_1000, zi_1024, zi_1624, zi_1662, zi_2030, zi_2031, zi_2068, zi_2258, zi_9999, zi_48, zi_57, zi_65536, zi_3257, zi_11483, zi_1000000, zi_729, zi_81, zi_m1, nI_add, pk_mul, nI_ltI, nI_leI, nI_eq, nI_clamp, zn_in, zn_sub1lt, zn_M, zn_Ml, zn_Mg, zn_Mle, zn_Mge, zn_sub, Nat.reduceAdd, Nat.reduceMul, forall_eq, true_imp_iff, false_imp_iff, and_true, true_and, not_true_eq_false, not_false_eq_true, reduceCtorEq, imp_self, eq_self, false_and, and_false, implies_true]
      refine ⟨fun _ => sm_throws h okq y ht4 (by omega) (by omega) gv (fun I1 c1 f1 => ?_), fun g => absurd (by omega) g⟩
      have y1 : tr_M tm ts tv I1 L := y.keep (f1 106 (by omega)) (f1 107 (by omega)) rfl
      have h1 : sq_M q 0 I1 L := h.keep (fun j _ _ => by rw [f1 104 (by omega)]) rfl okq.2.2.2.2.1
      have s2 : fy_M I I1 := fun r k _ _ _ g => by rw [f1 r g]
      have e0 := c1 0 (by omega) (by omega) 0 (by omega)
      rw [Nat.sub_zero, z0, eG] at e0
      have ci : cI (fun x => ch q tv t x n) (q 0 * q 1) 1000000 0 (zan (2 ^ n - 1) 0) := by
        rw [z0]
        exact ⟨by rw [Nat.sub_zero]; exact eG, fun c' hc' => absurd hc' (by omega)⟩
      refine ⟨_, sm_rowC h1 okq y1 ht4 (by omega) (by omega) gv c1 (q 0 * q 1) 0 0 k (by omega) (by omega) ci (by omega) (fun g => ?_) (fun g => ?_)⟩
      · rw [z0]; exact K _ _ (y1.st _) (am_u2_at _ _ _ _) (s2.trans (fy_M.st _)) fy_ML.rfl
      · rw [z0] at g; exact absurd gk g
  · refine ⟨nM, 6, tm, ts, tv, ok, ?_, ?_⟩
    · intro c d I L R hcd h hc hz y Q K
      simp (disch := omega) only [wp_U_coverAt, wb_U_coverAt_14, wp_U_coverStatus, wp_U_trayStatus, wp_Tray_isMissing, wp_U_isTray, wp_U_within, wp_U_refused, hc, y.r ht4, y.so ht4 g2, y.mn ht4 g2, zi_0, zi_1, zi_2, zi_3, zi_4, zi_5, zi_6, zi_7, zi_8, zi_9, zi_10, zi_11, zi_12, zi_13, zi_14, zi_15, zi_16, zi_17, zi_18, zi_19, zi_20, zi_21, zi_22, zi_23, zi_24, zi_25, zi_26, zi_30, zi_31, zi_32, zi_34, zi_38, zi_59, zi_60, zi_61, zi_63, zi_64, zi_80, zi_96, zi_97, zi_99, zi_100, zi_122, zi_255, zi_256, zi_300, zi_398, zi_406, zi_900, zi_1000, zi_1024, zi_1624, zi_1662, zi_2030, zi_2031, zi_2068, zi_2258, zi_9999, zi_48, zi_57, zi_65536, zi_3257, zi_11483, zi_1000000, zi_729, zi_81, zi_m1, nI_add, pk_mul, nI_ltI, nI_leI, nI_eq, nI_clamp, zn_in, zn_sub1lt, zn_M, zn_Ml, zn_Mg, zn_Mle, zn_Mge, zn_sub, Nat.reduceAdd, Nat.reduceMul, forall_eq, true_imp_iff, false_imp_iff, and_true, true_and, not_true_eq_false, not_false_eq_true, reduceCtorEq, imp_self, eq_self, false_and, and_false, implies_true]
      repeat' (first | omega | with_reducible refine And.intro ?_ ?_ | with_reducible intro g)
      refine su_cover h hcd okq hz y ht4 (by omega) (by omega) (by omega) (fun z => absurd gv z) (fun _ I1 c1 t1 f1 => ?_)
      obtain ⟨s1, s2⟩ := cv_frU hcd h f1
      have y1 : tr_U tm ts tv I1 L R := y.keep (fun r a b => by funext j; exact f1 r j (by omega)) (fun _ _ _ => rfl)
      simp (disch := omega) only [wb_U_coverAt_14, wp_Covering_fewestThrows, wp_Covering_cellOfRow, wb_U_coverAt_52, wp_U_answeredIfThereIs, wp_U_answered, wp_U_refused, c1.2.1, t1 (2 ^ n - 1) (by omega), zi_0, zi_1, zi_2, zi_3, zi_4, zi_5, zi_6, zi_7, zi_8, zi_9, zi_10, zi_11, zi_12, zi_13, zi_14, zi_15, zi_16, zi_17, zi_18, zi_19, zi_20, zi_21, zi_22, zi_23, zi_24, zi_25, zi_26, zi_30, zi_31, zi_32, zi_34, zi_38, zi_59, zi_60, zi_61, zi_63, zi_64, zi_80, zi_96, zi_97, zi_99, zi_100, zi_122, zi_255, zi_256, zi_300, zi_398, zi_406, zi_900, zi_1000, zi_1024, zi_1624, zi_1662, zi_2030, zi_2031, zi_2068, zi_2258, zi_9999, zi_48, zi_57, zi_65536, zi_3257, zi_11483, zi_1000000, zi_729, zi_81, zi_m1, nI_add, pk_mul, nI_ltI, nI_leI, nI_eq, nI_clamp, zn_in, zn_sub1lt, zn_M, zn_Ml, zn_Mg, zn_Mle, zn_Mge, zn_sub, Nat.reduceAdd, Nat.reduceMul, forall_eq, true_imp_iff, false_imp_iff, and_true, true_and, not_true_eq_false, not_false_eq_true, reduceCtorEq, imp_self, eq_self, false_and, and_false, implies_true]
      refine ⟨by omega, fun _ => ?_, fun g => absurd (by omega) g⟩
      exact K _ _ (y1.st _) (am_u2_at _ _ _ _) (s2.trans (fy_U.st _)) fy_UL.rfl
    · intro I L R h y Q K
      simp (disch := omega) only [wp_M_coverAt, wb_M_coverAt_14, wp_M_wrongCells, wp_M_isTray, wp_M_isFrom, wp_M_refuse, zj_0, zj_1, zj_2, zj_4, zj_6, zj_7, zj_8, zj_16, zj_20, zj_60, zj_63, zj_64, zj_99, zj_9999, nI_l, zk_lt, zk_le, zk_eq, zk_add, zk_in, y.mn ht4 g2, zi_0, zi_1, zi_2, zi_3, zi_4, zi_5, zi_6, zi_7, zi_8, zi_9, zi_10, zi_11, zi_12, zi_13, zi_14, zi_15, zi_16, zi_17, zi_18, zi_19, zi_20, zi_21, zi_22, zi_23, zi_24, zi_25, zi_26, zi_30, zi_31, zi_32, zi_34, zi_38, zi_59, zi_60, zi_61, zi_63, zi_64, zi_80, zi_96, zi_97, zi_99, zi_100, zi_122, zi_255, zi_256, zi_300, zi_398, zi_406, zi_900, zi_1000, zi_1024, zi_1624, zi_1662, zi_2030, zi_2031, zi_2068, zi_2258, zi_9999, zi_48, zi_57, zi_65536, zi_3257, zi_11483, zi_1000000, zi_729, zi_81, zi_m1, nI_add, pk_mul, nI_ltI, nI_leI, nI_eq, nI_clamp, zn_in, zn_sub1lt, zn_M, zn_Ml, zn_Mg, zn_Mle, zn_Mge, zn_sub, Nat.reduceAdd, Nat.reduceMul, forall_eq, true_imp_iff, false_imp_iff, and_true, true_and, not_true_eq_false, not_false_eq_true, reduceCtorEq, imp_self, eq_self, false_and, and_false, implies_true]
      repeat' (first | omega | with_reducible refine And.intro ?_ ?_ | with_reducible intro g)
      refine sm_wrongC h okq y ht4 (by omega) (by omega) (fun z => ?_) (fun z => absurd gv z)
      simp (disch := omega) only [wb_M_coverAt_14, zi_0, zi_1, zi_2, zi_3, zi_4, zi_5, zi_6, zi_7, zi_8, zi_9, zi_10, zi_11, zi_12, zi_13, zi_14, zi_15, zi_16, zi_17, zi_18, zi_19, zi_20, zi_21, zi_22, zi_23, zi_24, zi_25, zi_26, zi_30, zi_31, zi_32, zi_34, zi_38, zi_59, zi_60, zi_61, zi_63, zi_64, zi_80, zi_96, zi_97, zi_99, zi_100, zi_122, zi_255, zi_256, zi_300, zi_398, zi_406, zi_900, zi_1000, zi_1024, zi_1624, zi_1662, zi_2030, zi_2031, zi_2068, zi_2258, zi_9999, zi_48, zi_57, zi_65536, zi_3257, zi_11483, zi_1000000, zi_729, zi_81, zi_m1, nI_add, pk_mul, nI_ltI, nI_leI, nI_eq, nI_clamp, zn_in, zn_sub1lt, zn_M, zn_Ml, zn_Mg, zn_Mle, zn_Mge, zn_sub, Nat.reduceAdd, Nat.reduceMul, forall_eq, true_imp_iff, false_imp_iff, and_true, true_and, not_true_eq_false, not_false_eq_true, reduceCtorEq, imp_self, eq_self, false_and, and_false, implies_true]
      refine ⟨fun _ => sm_throws h okq y ht4 (by omega) (by omega) gv (fun I1 c1 f1 => ?_), fun g => absurd (by omega) g⟩
      have y1 : tr_M tm ts tv I1 L := y.keep (f1 106 (by omega)) (f1 107 (by omega)) rfl
      have h1 : sq_M q 0 I1 L := h.keep (fun j _ _ => by rw [f1 104 (by omega)]) rfl okq.2.2.2.2.1
      have s2 : fy_M I I1 := fun r k _ _ _ g => by rw [f1 r g]
      have e0 := c1 0 (by omega) (by omega) 0 (by omega)
      rw [Nat.sub_zero, z0, eG] at e0
      have ci : cI (fun x => ch q tv t x n) (q 0 * q 1) 1000000 0 (zan (2 ^ n - 1) 0) := by
        rw [z0]
        exact ⟨by rw [Nat.sub_zero]; exact eG, fun c' hc' => absurd hc' (by omega)⟩
      refine ⟨_, sm_rowC h1 okq y1 ht4 (by omega) (by omega) gv c1 (q 0 * q 1) 0 0 k (by omega) (by omega) ci (by omega) (fun g => ?_) (fun g => ?_)⟩
      · rw [z0] at g; exact absurd g gk
      · exact K _ _ (y1.st _) (am_u2_at _ _ _ _) (s2.trans (fy_M.st _)) fy_ML.rfl
end
