/-! gather, gatherAt: the reference's rows; both answer alike -/
section
variable {q : Nat → Nat} {c d : Nat} {I I1 I2 : am_TI} {L L1 L2 : am_TL} {R : am_TR}
def ga_bt (l : Nat → Nat) (t : Nat) : Nat → Nat → Nat → Nat → Nat → Nat
  | 0, _, _, _, v => v
  | r + 1, k, p, x, v => ga_bt l t r (k + 1) (p * 9) (x / 9) (v + p * ga_lf (l k) t (x % 9))
theorem ga_bt3 (l : Nat → Nat) (t : Nat) {a b e W : Nat} (ha : a < 9) (hb : b < 9) (he : e < 9) (hW : W ≤ 3) (w0 : W ≤ 0 → a = 0) (w1 : W ≤ 1 → b = 0) (w2 : W ≤ 2 → e = 0) : ga_bt l t W 0 1 (a + 9 * b + 81 * e) 0 = ga_lf (l 0) t a + 9 * ga_lf (l 1) t b + 81 * ga_lf (l 2) t e := by
  have e1 : (a + 9 * b + 81 * e) % 9 = a := by omega
  have e2 : (a + 9 * b + 81 * e) / 9 % 9 = b := by omega
  have e3 : (a + 9 * b + 81 * e) / 9 / 9 % 9 = e := by omega
  have hW' : W = 0 ∨ W = 1 ∨ W = 2 ∨ W = 3 := by omega
  rcases hW' with rfl | rfl | rfl | rfl
  · rw [w0 (by omega), w1 (by omega), w2 (by omega)]
    simp only [ga_bt, ga_lf_0]
  · rw [ga_bt, ga_bt, e1, w1 (by omega), w2 (by omega)]
    simp only [ga_lf_0, Nat.zero_add, Nat.reduceAdd]
    omega
  · rw [ga_bt, ga_bt, ga_bt, e1, e2, w2 (by omega)]
    simp only [ga_lf_0, Nat.zero_add, Nat.reduceAdd]
    omega
  · rw [ga_bt, ga_bt, ga_bt, ga_bt, e1, e2, e3]
    simp only [Nat.zero_add, Nat.reduceAdd]
    omega
/-- the reference's rows of those who gather -/
def gp_M (q : Nat → Nat) (s : Nat) (I : am_TI) : Prop := I 103 26 = nI (gw_c s (q 3)) ∧ ∀ k, k < gw_c s (q 3) → I 113 k = nI (gw s (q 3) k)
theorem sm_bt (h : sq_M q 0 I L) (ok : sq_Ok q) {s : Nat} (hs : s < 64) (hz : zp s ≤ 3) (g : gp_M q s I) {t : Nat} (ht : t < 31) {p1 : Int32} {Q : Int32 → Prop} : ∀ r k p x v, k + r = gw_c s (q 3) → x < 2 ^ 31 → Q (nI (ga_bt (gw_l q s (q 3)) t r k p x v)) → wl_M_behindTune_11 I L R 103 p1 (nI t) Q (r + 1) (nI v) (nI p) (nI x) (nI k) := by
  have o := ok.1.2.2.1
  have w3 := gw_3 s hs hz (q 3) (by omega)
  intro r
  induction r with
  | zero =>
    intro k p x v hk hx K
    rw [wl_M_behindTune_11]
    simp (disch := omega) only [g.1, zi_0, zi_1, zi_2, zi_3, zi_4, zi_5, zi_6, zi_7, zi_8, zi_9, zi_10, zi_11, zi_12, zi_13, zi_14, zi_15, zi_16, zi_17, zi_18, zi_19, zi_20, zi_21, zi_22, zi_23, zi_24, zi_25, zi_26, zi_30, zi_31, zi_32, zi_34, zi_38, zi_59, zi_60, zi_61, zi_63, zi_64, zi_80, zi_96, zi_97, zi_99, zi_100, zi_122, zi_255, zi_256, zi_300, zi_398, zi_406, zi_900, zi_1000, zi_1024, zi_1624, zi_1662, zi_2030, zi_2031, zi_2068, zi_2258, zi_9999, zi_48, zi_57, zi_65536, zi_3257, zi_11483, zi_1000000, zi_729, zi_81, zi_m1, nI_add, pk_mul, nI_ltI, nI_leI, nI_eq, nI_clamp, zn_in, zn_sub1lt, zn_M, zn_Ml, zn_Mg, zn_Mle, zn_Mge, zn_sub, Nat.reduceAdd, Nat.reduceMul]
    exact ⟨fun _ => K, fun g => absurd (by omega) g⟩
  | succ r ih =>
    intro k p x v hk hx K
    rw [ga_bt] at K
    have st := ih (k + 1) (p * 9) (x / 9) (v + p * ga_lf (gw_l q s (q 3) k) t (x % 9)) (by omega) (by omega) K
    have gl := gw_lt s (q 3) (i := k) (by omega)
    have ll : gw_l q s (q 3) k = q (11 + 4 * gw s (q 3) k) := by unfold gw_l; rw [if_pos (by omega)]
    have lk := ok.lk31 gl
    rw [ll] at st
    rw [wl_M_behindTune_11]
    simp (disch := omega) only [wb_M_behindTune_56, wb_M_behindTune_57, wb_M_behindTune_76, g.1, g.2 k (by omega), pk_rem, zi_0, zi_1, zi_2, zi_3, zi_4, zi_5, zi_6, zi_7, zi_8, zi_9, zi_10, zi_11, zi_12, zi_13, zi_14, zi_15, zi_16, zi_17, zi_18, zi_19, zi_20, zi_21, zi_22, zi_23, zi_24, zi_25, zi_26, zi_30, zi_31, zi_32, zi_34, zi_38, zi_59, zi_60, zi_61, zi_63, zi_64, zi_80, zi_96, zi_97, zi_99, zi_100, zi_122, zi_255, zi_256, zi_300, zi_398, zi_406, zi_900, zi_1000, zi_1024, zi_1624, zi_1662, zi_2030, zi_2031, zi_2068, zi_2258, zi_9999, zi_48, zi_57, zi_65536, zi_3257, zi_11483, zi_1000000, zi_729, zi_81, zi_m1, nI_add, pk_mul, nI_ltI, nI_leI, nI_eq, nI_clamp, zn_in, zn_sub1lt, zn_M, zn_Ml, zn_Mg, zn_Mle, zn_Mge, zn_sub, Nat.reduceAdd, Nat.reduceMul, forall_eq, true_imp_iff, false_imp_iff, and_true, true_and, not_true_eq_false, not_false_eq_true, reduceCtorEq, imp_self, eq_self, false_and, and_false, implies_true]
    simp (disch := omega) only [pk_div, zi_0, zi_1, zi_2, zi_3, zi_4, zi_5, zi_6, zi_7, zi_8, zi_9, zi_10, zi_11, zi_12, zi_13, zi_14, zi_15, zi_16, zi_17, zi_18, zi_19, zi_20, zi_21, zi_22, zi_23, zi_24, zi_25, zi_26, zi_30, zi_31, zi_32, zi_34, zi_38, zi_59, zi_60, zi_61, zi_63, zi_64, zi_80, zi_96, zi_97, zi_99, zi_100, zi_122, zi_255, zi_256, zi_300, zi_398, zi_406, zi_900, zi_1000, zi_1024, zi_1624, zi_1662, zi_2030, zi_2031, zi_2068, zi_2258, zi_9999, zi_48, zi_57, zi_65536, zi_3257, zi_11483, zi_1000000, zi_729, zi_81, zi_m1, nI_add, pk_mul, nI_ltI, nI_leI, nI_eq, nI_clamp, zn_in, zn_sub1lt, zn_M, zn_Ml, zn_Mg, zn_Mle, zn_Mge, zn_sub, Nat.reduceAdd, Nat.reduceMul, forall_eq, true_imp_iff, false_imp_iff, and_true, true_and, not_true_eq_false, not_false_eq_true, reduceCtorEq, imp_self, eq_self, false_and, and_false, implies_true]
    unfold ga_lf at st
    refine ⟨fun e => absurd e (by omega), fun _ => ⟨fun e => ?_, fun e => ⟨by omega, sm_hearerOf h (by omega) (by omega) ?_⟩⟩⟩
    · rw [if_neg (by omega)] at st; exact st
    · rw [show 10 + 4 * gw s (q 3) k + 1 = 11 + 4 * gw s (q 3) k by omega]
      simp (disch := omega) only [wp_M_isIn, zn_bit, zi_0, zi_1, zi_2, zi_3, zi_4, zi_5, zi_6, zi_7, zi_8, zi_9, zi_10, zi_11, zi_12, zi_13, zi_14, zi_15, zi_16, zi_17, zi_18, zi_19, zi_20, zi_21, zi_22, zi_23, zi_24, zi_25, zi_26, zi_30, zi_31, zi_32, zi_34, zi_38, zi_59, zi_60, zi_61, zi_63, zi_64, zi_80, zi_96, zi_97, zi_99, zi_100, zi_122, zi_255, zi_256, zi_300, zi_398, zi_406, zi_900, zi_1000, zi_1024, zi_1624, zi_1662, zi_2030, zi_2031, zi_2068, zi_2258, zi_9999, zi_48, zi_57, zi_65536, zi_3257, zi_11483, zi_1000000, zi_729, zi_81, zi_m1, nI_add, pk_mul, nI_ltI, nI_leI, nI_eq, nI_clamp, zn_in, zn_sub1lt, zn_M, zn_Ml, zn_Mg, zn_Mle, zn_Mge, zn_sub, Nat.reduceAdd, Nat.reduceMul, forall_eq, true_imp_iff, false_imp_iff, and_true, true_and, not_true_eq_false, not_false_eq_true, reduceCtorEq, imp_self, eq_self, false_and, and_false, implies_true]
      refine ⟨fun e2 => ?_, fun e2 => ?_⟩
      · rw [if_pos ⟨by omega, e2⟩] at st; exact st
      · rw [if_neg (fun z => e2 z.2)] at st; exact st
theorem gw_l0 {s i : Nat} (h : gw_c s (q 3) ≤ i) : gw_l q s (q 3) i = 0 ∧ gw_f q s (q 3) i = 0 := by
  unfold gw_l gw_f; rw [if_neg (by omega), if_neg (by omega)]; exact ⟨rfl, rfl⟩
theorem sm_behind (h : sq_M q 0 I L) (ok : sq_Ok q) {s : Nat} (hs : s < 64) (hz : zp s ≤ 3) (g : gp_M q s I) {t : Nat} (ht : t < 31) {a b e : Nat} (ha : a < 9) (hb : b < 9) (he : e < 9) (w0 : gw_c s (q 3) ≤ 0 → a = 0) (w1 : gw_c s (q 3) ≤ 1 → b = 0) (w2 : gw_c s (q 3) ≤ 2 → e = 0) {Q : Int32 → Prop} (k : Q (nI (ga_lf (gw_l q s (q 3) 0) t a + 9 * ga_lf (gw_l q s (q 3) 1) t b + 81 * ga_lf (gw_l q s (q 3) 2) t e))) : wp_M_behindTune I L R 103 (nI (a + 9 * b + 81 * e)) (nI t) Q := by
  have o := ok.1.2.2.1
  have w3 := gw_3 s hs hz (q 3) (by omega)
  rw [← ga_bt3 (gw_l q s (q 3)) t ha hb he w3 w0 w1 w2] at k
  exact ⟨_, sm_bt h ok hs hz g ht _ 0 1 _ 0 (by omega) (by omega) k⟩
/-- 9 by how many -/
def ga_p (n : Nat) : Nat := if n = 0 then 1 else if n = 1 then 9 else if n = 2 then 81 else 729
theorem ga_p0 : ga_p 0 = 1 := rfl
theorem ga_p1 : ga_p 1 = 9 := rfl
theorem ga_p2 : ga_p 2 = 81 := rfl
theorem ga_p3 : ga_p 3 = 729 := rfl
theorem ga_p_s {n : Nat} (h : n < 3) : ga_p n * 9 = ga_p (n + 1) ∧ ga_p n ≤ 81 := by
  have : n = 0 ∨ n = 1 ∨ n = 2 := by omega
  rcases this with rfl | rfl | rfl <;> decide
theorem sm_laysG (h : sq_M q 0 I L) (ok : sq_Ok q) {s : Nat} (hs : s < 64) (hz : zp s ≤ 3) {Q : Int32 → am_TI → Prop} (k : ∀ I1, sq_M q 0 I1 L → gp_M q s I1 → (∀ i, i < ga_p (gw_c s (q 3)) → I1 112 i = nI (gG 1000000 (q 2) (gw_l q s (q 3) 0) (gw_l q s (q 3) 1) (gw_l q s (q 3) 2) (i % 9) (i / 9 % 9) (i / 81))) → (∀ r j, ¬ (r = 103 ∧ j = 26) → r ≠ 112 → r ≠ 113 → I1 r j = I r j) → Q (nI (gw_f q s (q 3) 0 + 9 * gw_f q s (q 3) 1 + 81 * gw_f q s (q 3) 2)) I1) : wp_M_laysGather I L R 103 (nI s) Q := by
  have o := ok.1.2.2.1
  have w3 := gw_3 s hs hz (q 3) (by omega)
  simp (disch := omega) only [wp_M_laysGather, zi_0, zi_1, zi_2, zi_3, zi_4, zi_5, zi_6, zi_7, zi_8, zi_9, zi_10, zi_11, zi_12, zi_13, zi_14, zi_15, zi_16, zi_17, zi_18, zi_19, zi_20, zi_21, zi_22, zi_23, zi_24, zi_25, zi_26, zi_30, zi_31, zi_32, zi_34, zi_38, zi_59, zi_60, zi_61, zi_63, zi_64, zi_80, zi_96, zi_97, zi_99, zi_100, zi_122, zi_255, zi_256, zi_300, zi_398, zi_406, zi_900, zi_1000, zi_1024, zi_1624, zi_1662, zi_2030, zi_2031, zi_2068, zi_2258, zi_9999, zi_48, zi_57, zi_65536, zi_3257, zi_11483, zi_1000000, zi_729, zi_81, zi_m1, nI_add, pk_mul, nI_ltI, nI_leI, nI_eq, nI_clamp, zn_in, zn_sub1lt, zn_M, zn_Ml, zn_Mg, zn_Mle, zn_Mge, zn_sub, Nat.reduceAdd, Nat.reduceMul, forall_eq, true_imp_iff, false_imp_iff, and_true, true_and, not_true_eq_false, not_false_eq_true, reduceCtorEq, imp_self, eq_self, false_and, and_false, implies_true]
  refine (zl_up (P := fun f m => ∀ I1, I1 103 26 = nI (gw_c s m) → (∀ k, k < gw_c s m → I1 113 k = nI (gw s m k)) → (∀ r j, ¬ (r = 103 ∧ j = 26) → r ≠ 112 → r ≠ 113 → I1 r j = I r j) → wl_M_laysGather_12 L R 103 (nI s) Q f I1 (nI (gw_f q s m 0 + 9 * gw_f q s m 1 + 81 * gw_f q s m 2)) (nI (ga_p (gw_c s m))) (nI m)) (q 3) (fun f I1 e1 e2 e3 => ?_) (fun f m hm ih I1 e1 e2 e3 => ?_) 0 (by omega)).elim fun z hz => ⟨z, hz _ (am_u2_at _ _ _ _) (fun k hk => absurd hk (Nat.not_lt_zero _)) (fun r j g _ _ => by unfold am_u2; rw [if_neg g])⟩
  · have h1 : sq_M q 0 I1 L := h.keep (fun j _ _ => e3 104 j (by omega) (by omega) (by omega)) rfl ok.2.2.2.2.1
    rw [wl_M_laysGather_12]
    simp (disch := omega) only [h1.n3, zi_0, zi_1, zi_2, zi_3, zi_4, zi_5, zi_6, zi_7, zi_8, zi_9, zi_10, zi_11, zi_12, zi_13, zi_14, zi_15, zi_16, zi_17, zi_18, zi_19, zi_20, zi_21, zi_22, zi_23, zi_24, zi_25, zi_26, zi_30, zi_31, zi_32, zi_34, zi_38, zi_59, zi_60, zi_61, zi_63, zi_64, zi_80, zi_96, zi_97, zi_99, zi_100, zi_122, zi_255, zi_256, zi_300, zi_398, zi_406, zi_900, zi_1000, zi_1024, zi_1624, zi_1662, zi_2030, zi_2031, zi_2068, zi_2258, zi_9999, zi_48, zi_57, zi_65536, zi_3257, zi_11483, zi_1000000, zi_729, zi_81, zi_m1, nI_add, pk_mul, nI_ltI, nI_leI, nI_eq, nI_clamp, zn_in, zn_sub1lt, zn_M, zn_Ml, zn_Mg, zn_Mle, zn_Mge, zn_sub, Nat.reduceAdd, Nat.reduceMul, forall_eq, true_imp_iff, false_imp_iff, and_true, true_and, not_true_eq_false, not_false_eq_true, reduceCtorEq, imp_self, eq_self, false_and, and_false, implies_true]
    refine ⟨fun _ => ?_, fun g => absurd (Nat.le_refl _) g⟩
    have pl : ga_p (gw_c s (q 3)) ≤ 729 ∧ 1 ≤ ga_p (gw_c s (q 3)) := by
      have : gw_c s (q 3) = 0 ∨ gw_c s (q 3) = 1 ∨ gw_c s (q 3) = 2 ∨ gw_c s (q 3) = 3 := by omega
      rcases this with e | e | e | e <;> (rw [e]; decide)
    refine (zl_up (P := fun f m => 1 ≤ m → ∀ I2, (∀ i, i < m → I2 112 i = nI (gG 1000000 (q 2) (gw_l q s (q 3) 0) (gw_l q s (q 3) 1) (gw_l q s (q 3) 2) (i % 9) (i / 9 % 9) (i / 81))) → (∀ r, r ≠ 112 → I2 r = I1 r) → wl_M_laysGather_89 L R 103 (nI s) Q f I2 (nI (gw_f q s (q 3) 0 + 9 * gw_f q s (q 3) 1 + 81 * gw_f q s (q 3) 2)) (nI (ga_p (gw_c s (q 3)))) (nI m)) (ga_p (gw_c s (q 3))) (fun f m1 I2 t2 e4 => ?_) (fun f m hm ih m1 I2 t2 e4 => ?_) 1 (by omega)).elim fun z hz => ⟨z, hz (by omega) _ (fun i hi => ?_) (fun r hr => am_u2_row _ _ _ _ hr)⟩
    · rw [wl_M_laysGather_89]
      simp (disch := omega) only [zi_0, zi_1, zi_2, zi_3, zi_4, zi_5, zi_6, zi_7, zi_8, zi_9, zi_10, zi_11, zi_12, zi_13, zi_14, zi_15, zi_16, zi_17, zi_18, zi_19, zi_20, zi_21, zi_22, zi_23, zi_24, zi_25, zi_26, zi_30, zi_31, zi_32, zi_34, zi_38, zi_59, zi_60, zi_61, zi_63, zi_64, zi_80, zi_96, zi_97, zi_99, zi_100, zi_122, zi_255, zi_256, zi_300, zi_398, zi_406, zi_900, zi_1000, zi_1024, zi_1624, zi_1662, zi_2030, zi_2031, zi_2068, zi_2258, zi_9999, zi_48, zi_57, zi_65536, zi_3257, zi_11483, zi_1000000, zi_729, zi_81, zi_m1, nI_add, pk_mul, nI_ltI, nI_leI, nI_eq, nI_clamp, zn_in, zn_sub1lt, zn_M, zn_Ml, zn_Mg, zn_Mle, zn_Mge, zn_sub, Nat.reduceAdd, Nat.reduceMul]
      refine ⟨fun _ => k I2 ?_ ⟨?_, fun j hj => ?_⟩ t2 (fun r j g1 g2 g3 => ?_), fun g => absurd (Nat.le_refl _) g⟩
      · exact h1.keep (fun j _ _ => by rw [e4 104 (by omega)]) rfl ok.2.2.2.2.1
      · rw [e4 103 (by omega)]; exact e1
      · rw [e4 113 (by omega)]; exact e2 j hj
      · rw [e4 r g2]; exact e3 r j g1 g2 g3
    · rw [wl_M_laysGather_89]
      simp (disch := omega) only [zi_0, zi_1, zi_2, zi_3, zi_4, zi_5, zi_6, zi_7, zi_8, zi_9, zi_10, zi_11, zi_12, zi_13, zi_14, zi_15, zi_16, zi_17, zi_18, zi_19, zi_20, zi_21, zi_22, zi_23, zi_24, zi_25, zi_26, zi_30, zi_31, zi_32, zi_34, zi_38, zi_59, zi_60, zi_61, zi_63, zi_64, zi_80, zi_96, zi_97, zi_99, zi_100, zi_122, zi_255, zi_256, zi_300, zi_398, zi_406, zi_900, zi_1000, zi_1024, zi_1624, zi_1662, zi_2030, zi_2031, zi_2068, zi_2258, zi_9999, zi_48, zi_57, zi_65536, zi_3257, zi_11483, zi_1000000, zi_729, zi_81, zi_m1, nI_add, pk_mul, nI_ltI, nI_leI, nI_eq, nI_clamp, zn_in, zn_sub1lt, zn_M, zn_Ml, zn_Mg, zn_Mle, zn_Mge, zn_sub, Nat.reduceAdd, Nat.reduceMul, forall_eq, true_imp_iff, false_imp_iff, and_true, true_and, not_true_eq_false, not_false_eq_true, reduceCtorEq, imp_self, eq_self, false_and, and_false, implies_true]
      refine ⟨fun g => absurd g (by omega), fun _ => ⟨by omega, ?_⟩⟩
      have dig : ∃ a b e, a < 9 ∧ b < 9 ∧ e < 9 ∧ m = a + 9 * b + 81 * e ∧ (gw_c s (q 3) ≤ 0 → a = 0) ∧ (gw_c s (q 3) ≤ 1 → b = 0) ∧ (gw_c s (q 3) ≤ 2 → e = 0) := by
        refine ⟨m % 9, m / 9 % 9, m / 81, by omega, by omega, by omega, by omega, fun g => ?_, fun g => ?_, fun g => ?_⟩
        · have : ga_p (gw_c s (q 3)) ≤ 1 := by rw [show gw_c s (q 3) = 0 by omega]; decide
          omega
        · have : gw_c s (q 3) = 0 ∨ gw_c s (q 3) = 1 := by omega
          have : ga_p (gw_c s (q 3)) ≤ 9 := by rcases this with e | e <;> (rw [e]; decide)
          omega
        · have : gw_c s (q 3) = 0 ∨ gw_c s (q 3) = 1 ∨ gw_c s (q 3) = 2 := by omega
          have : ga_p (gw_c s (q 3)) ≤ 81 := by rcases this with e | e | e <;> (rw [e]; decide)
          omega
      obtain ⟨a, b, e, ha, hb, he, hm2, w0, w1, w2⟩ := dig
      have da : m % 9 = a := by omega
      have db : m / 9 % 9 = b := by omega
      have de : m / 81 = e := by omega
      have m0 : ¬ a + b + e = 0 := by omega
      refine (zl_up (P := fun f' n => ∀ I3, (∀ i, i < m → I3 112 i = nI (gG 1000000 (q 2) (gw_l q s (q 3) 0) (gw_l q s (q 3) 1) (gw_l q s (q 3) 2) (i % 9) (i / 9 % 9) (i / 81))) → I3 112 m = nI (zmin (fun t => if ga_lf (gw_l q s (q 3) 0) t a + ga_lf (gw_l q s (q 3) 1) t b + ga_lf (gw_l q s (q 3) 2) t e = a + b + e then 1000000 else gG 1000000 (q 2) (gw_l q s (q 3) 0) (gw_l q s (q 3) 1) (gw_l q s (q 3) 2) (ga_lf (gw_l q s (q 3) 0) t a) (ga_lf (gw_l q s (q 3) 1) t b) (ga_lf (gw_l q s (q 3) 2) t e) + 1) 1000000 n) → (∀ r, r ≠ 112 → I3 r = I1 r) → wl_M_laysGather_108 L R 103 (nI s) Q (wl_M_laysGather_89 L R 103 (nI s) Q f) f' I3 (nI (gw_f q s (q 3) 0 + 9 * gw_f q s (q 3) 1 + 81 * gw_f q s (q 3) 2)) (nI (ga_p (gw_c s (q 3)))) (nI m) (nI n)) (q 2) (fun f' I3 t3 tm e5 => ?_) (fun f' n hn ih2 I3 t3 tm e5 => ?_) 0 (by omega)).elim fun z hz => ⟨z, hz _ (fun i hi => ?_) (am_u2_at _ _ _ _) (fun r hr => ?_)⟩
      · have e2' : I3 104 2 = nI (q 2) := by rw [e5 104 (by omega)]; exact h1.n2
        rw [wl_M_laysGather_108]
        simp (disch := omega) only [e2', zi_0, zi_1, zi_2, zi_3, zi_4, zi_5, zi_6, zi_7, zi_8, zi_9, zi_10, zi_11, zi_12, zi_13, zi_14, zi_15, zi_16, zi_17, zi_18, zi_19, zi_20, zi_21, zi_22, zi_23, zi_24, zi_25, zi_26, zi_30, zi_31, zi_32, zi_34, zi_38, zi_59, zi_60, zi_61, zi_63, zi_64, zi_80, zi_96, zi_97, zi_99, zi_100, zi_122, zi_255, zi_256, zi_300, zi_398, zi_406, zi_900, zi_1000, zi_1024, zi_1624, zi_1662, zi_2030, zi_2031, zi_2068, zi_2258, zi_9999, zi_48, zi_57, zi_65536, zi_3257, zi_11483, zi_1000000, zi_729, zi_81, zi_m1, nI_add, pk_mul, nI_ltI, nI_leI, nI_eq, nI_clamp, zn_in, zn_sub1lt, zn_M, zn_Ml, zn_Mg, zn_Mle, zn_Mge, zn_sub, Nat.reduceAdd, Nat.reduceMul]
        refine ⟨fun _ => ih (by omega) I3 (fun i hi => ?_) e5, fun g => absurd (Nat.le_refl _) g⟩
        rcases Nat.lt_or_ge i m with g | g
        · exact t3 i g
        · rw [show i = m by omega, tm, da, db, de, gG_rec, if_neg m0]
      · have h3 : sq_M q 0 I3 L := h1.keep (fun j _ _ => by rw [e5 104 (by omega)]) rfl ok.2.2.2.2.1
        have g3 : gp_M q s I3 := ⟨by rw [e5 103 (by omega)]; exact e1, fun j hj => by rw [e5 113 (by omega)]; exact e2 j hj⟩
        rw [wl_M_laysGather_108]
        simp (disch := omega) only [h3.n2, zi_0, zi_1, zi_2, zi_3, zi_4, zi_5, zi_6, zi_7, zi_8, zi_9, zi_10, zi_11, zi_12, zi_13, zi_14, zi_15, zi_16, zi_17, zi_18, zi_19, zi_20, zi_21, zi_22, zi_23, zi_24, zi_25, zi_26, zi_30, zi_31, zi_32, zi_34, zi_38, zi_59, zi_60, zi_61, zi_63, zi_64, zi_80, zi_96, zi_97, zi_99, zi_100, zi_122, zi_255, zi_256, zi_300, zi_398, zi_406, zi_900, zi_1000, zi_1024, zi_1624, zi_1662, zi_2030, zi_2031, zi_2068, zi_2258, zi_9999, zi_48, zi_57, zi_65536, zi_3257, zi_11483, zi_1000000, zi_729, zi_81, zi_m1, nI_add, pk_mul, nI_ltI, nI_leI, nI_eq, nI_clamp, zn_in, zn_sub1lt, zn_M, zn_Ml, zn_Mg, zn_Mle, zn_Mge, zn_sub, Nat.reduceAdd, Nat.reduceMul]
        refine ⟨fun g => absurd g (by omega), fun _ => ?_⟩
        have x0 := ga_lf_le (gw_l q s (q 3) 0) n a
        have x1 := ga_lf_le (gw_l q s (q 3) 1) n b
        have x2 := ga_lf_le (gw_l q s (q 3) 2) n e
        have zl := zmin_le (f := fun t => if ga_lf (gw_l q s (q 3) 0) t a + ga_lf (gw_l q s (q 3) 1) t b + ga_lf (gw_l q s (q 3) 2) t e = a + b + e then 1000000 else gG 1000000 (q 2) (gw_l q s (q 3) 0) (gw_l q s (q 3) 1) (gw_l q s (q 3) 2) (ga_lf (gw_l q s (q 3) 0) t a) (ga_lf (gw_l q s (q 3) 1) t b) (ga_lf (gw_l q s (q 3) 2) t e) + 1) (Z := 1000000) n
        have gl := gG_le (Z := 1000000) (T := q 2) (l0 := gw_l q s (q 3) 0) (l1 := gw_l q s (q 3) 1) (l2 := gw_l q s (q 3) 2) (ga_lf (gw_l q s (q 3) 0) n a) (ga_lf (gw_l q s (q 3) 1) n b) (ga_lf (gw_l q s (q 3) 2) n e)
        have beh : ∀ {Q' : Int32 → Prop}, Q' (nI (ga_lf (gw_l q s (q 3) 0) n a + 9 * ga_lf (gw_l q s (q 3) 1) n b + 81 * ga_lf (gw_l q s (q 3) 2) n e)) → wp_M_behindTune I3 L R 103 (nI m) (nI n) Q' := fun hq => by
          rw [hm2]; exact sm_behind h3 ok hs hz g3 (by omega) ha hb he w0 w1 w2 hq
        rw [zmin] at ih2
        generalize zmin (fun t => if ga_lf (gw_l q s (q 3) 0) t a + ga_lf (gw_l q s (q 3) 1) t b + ga_lf (gw_l q s (q 3) 2) t e = a + b + e then 1000000 else gG 1000000 (q 2) (gw_l q s (q 3) 0) (gw_l q s (q 3) 1) (gw_l q s (q 3) 2) (ga_lf (gw_l q s (q 3) 0) t a) (ga_lf (gw_l q s (q 3) 1) t b) (ga_lf (gw_l q s (q 3) 2) t e) + 1) 1000000 n = B at *
        generalize ga_lf (gw_l q s (q 3) 0) n a = a' at *
        generalize ga_lf (gw_l q s (q 3) 1) n b = b' at *
        generalize ga_lf (gw_l q s (q 3) 2) n e = e' at *
        refine beh ?_
        simp (disch := omega) only [zi_0, zi_1, zi_2, zi_3, zi_4, zi_5, zi_6, zi_7, zi_8, zi_9, zi_10, zi_11, zi_12, zi_13, zi_14, zi_15, zi_16, zi_17, zi_18, zi_19, zi_20, zi_21, zi_22, zi_23, zi_24, zi_25, zi_26, zi_30, zi_31, zi_32, zi_34, zi_38, zi_59, zi_60, zi_61, zi_63, zi_64, zi_80, zi_96, zi_97, zi_99, zi_100, zi_122, zi_255, zi_256, zi_300, zi_398, zi_406, zi_900, zi_1000, zi_1024, zi_1624, zi_1662, zi_2030, zi_2031, zi_2068, zi_2258, zi_9999, zi_48, zi_57, zi_65536, zi_3257, zi_11483, zi_1000000, zi_729, zi_81, zi_m1, nI_add, pk_mul, nI_ltI, nI_leI, nI_eq, nI_clamp, zn_in, zn_sub1lt, zn_M, zn_Ml, zn_Mg, zn_Mle, zn_Mge, zn_sub, Nat.reduceAdd, Nat.reduceMul, forall_eq, true_imp_iff, false_imp_iff, and_true, true_and, not_true_eq_false, not_false_eq_true, reduceCtorEq, imp_self, eq_self, false_and, and_false, implies_true]
        refine ⟨fun g => ?_, fun g => ⟨by omega, by omega, ?_⟩⟩
        · rw [if_pos (by omega : a' + b' + e' = a + b + e), Nat.min_eq_left zl] at ih2
          exact ih2 I3 t3 tm e5
        · rw [if_neg (by omega : ¬ a' + b' + e' = a + b + e)] at ih2
          have tv := t3 (a' + 9 * b' + 81 * e') (by omega)
          rw [show (a' + 9 * b' + 81 * e') % 9 = a' by omega, show (a' + 9 * b' + 81 * e') / 9 % 9 = b' by omega, show (a' + 9 * b' + 81 * e') / 81 = e' by omega] at tv
          rw [tm, tv]
          simp (disch := omega) only [zn_min, zi_0, zi_1, zi_2, zi_3, zi_4, zi_5, zi_6, zi_7, zi_8, zi_9, zi_10, zi_11, zi_12, zi_13, zi_14, zi_15, zi_16, zi_17, zi_18, zi_19, zi_20, zi_21, zi_22, zi_23, zi_24, zi_25, zi_26, zi_30, zi_31, zi_32, zi_34, zi_38, zi_59, zi_60, zi_61, zi_63, zi_64, zi_80, zi_96, zi_97, zi_99, zi_100, zi_122, zi_255, zi_256, zi_300, zi_398, zi_406, zi_900, zi_1000, zi_1024, zi_1624, zi_1662, zi_2030, zi_2031, zi_2068, zi_2258, zi_9999, zi_48, zi_57, zi_65536, zi_3257, zi_11483, zi_1000000, zi_729, zi_81, zi_m1, nI_add, pk_mul, nI_ltI, nI_leI, nI_eq, nI_clamp, zn_in, zn_sub1lt, zn_M, zn_Ml, zn_Mg, zn_Mle, zn_Mge, zn_sub, Nat.reduceAdd, Nat.reduceMul]
          rw [Nat.add_comm 1]
          refine ⟨by omega, ih2 _ (fun i hi => ?_) (am_u2_at _ _ _ _) (fun r hr => ?_)⟩
          · rw [am_u2_ne _ _ _ _ (by omega)]; exact t3 i hi
          · rw [am_u2_row _ _ _ _ hr]; exact e5 r hr
      · rw [am_u2_ne _ _ _ _ (by omega)]; exact t2 i hi
      · rw [am_u2_row _ _ _ _ hr]; exact e4 r hr
    · rw [show i = 0 by omega, am_u2_at, gG_rec, if_pos (by omega)]
  · have h1 : sq_M q 0 I1 L := h.keep (fun j _ _ => e3 104 j (by omega) (by omega) (by omega)) rfl ok.2.2.2.2.1
    have c3 := gw_3 s hs hz m (by omega)
    rw [wl_M_laysGather_12]
    simp (disch := omega) only [h1.n3, wp_M_isIn, zn_bit, zi_0, zi_1, zi_2, zi_3, zi_4, zi_5, zi_6, zi_7, zi_8, zi_9, zi_10, zi_11, zi_12, zi_13, zi_14, zi_15, zi_16, zi_17, zi_18, zi_19, zi_20, zi_21, zi_22, zi_23, zi_24, zi_25, zi_26, zi_30, zi_31, zi_32, zi_34, zi_38, zi_59, zi_60, zi_61, zi_63, zi_64, zi_80, zi_96, zi_97, zi_99, zi_100, zi_122, zi_255, zi_256, zi_300, zi_398, zi_406, zi_900, zi_1000, zi_1024, zi_1624, zi_1662, zi_2030, zi_2031, zi_2068, zi_2258, zi_9999, zi_48, zi_57, zi_65536, zi_3257, zi_11483, zi_1000000, zi_729, zi_81, zi_m1, nI_add, pk_mul, nI_ltI, nI_leI, nI_eq, nI_clamp, zn_in, zn_sub1lt, zn_M, zn_Ml, zn_Mg, zn_Mle, zn_Mge, zn_sub, Nat.reduceAdd, Nat.reduceMul, forall_eq, true_imp_iff, false_imp_iff, and_true, true_and, not_true_eq_false, not_false_eq_true, reduceCtorEq, imp_self, eq_self, false_and, and_false, implies_true]
    refine ⟨fun g => absurd g (by omega), fun _ => ⟨fun gb => sm_farO h1 ok hm ?_, fun gb => ?_⟩⟩
    · obtain ⟨y1, y2⟩ := gw_f_yes (q := q) gb
      have cb := gw_b s hs hz m (by omega) gb
      obtain ⟨p1, p2⟩ := ga_p_s cb
      have y3 := (gw_yes gb 0).1
      simp (disch := omega) only [e1, am_u2o, am_u2_ne, zi_0, zi_1, zi_2, zi_3, zi_4, zi_5, zi_6, zi_7, zi_8, zi_9, zi_10, zi_11, zi_12, zi_13, zi_14, zi_15, zi_16, zi_17, zi_18, zi_19, zi_20, zi_21, zi_22, zi_23, zi_24, zi_25, zi_26, zi_30, zi_31, zi_32, zi_34, zi_38, zi_59, zi_60, zi_61, zi_63, zi_64, zi_80, zi_96, zi_97, zi_99, zi_100, zi_122, zi_255, zi_256, zi_300, zi_398, zi_406, zi_900, zi_1000, zi_1024, zi_1624, zi_1662, zi_2030, zi_2031, zi_2068, zi_2258, zi_9999, zi_48, zi_57, zi_65536, zi_3257, zi_11483, zi_1000000, zi_729, zi_81, zi_m1, nI_add, pk_mul, nI_ltI, nI_leI, nI_eq, nI_clamp, zn_in, zn_sub1lt, zn_M, zn_Ml, zn_Mg, zn_Mle, zn_Mge, zn_sub, Nat.reduceAdd, Nat.reduceMul, forall_eq, true_imp_iff, false_imp_iff, and_true, true_and, not_true_eq_false, not_false_eq_true, reduceCtorEq, imp_self, eq_self, false_and, and_false, implies_true]
      rw [y3, y1, ← p1] at ih
      refine ⟨by omega, ?_⟩
      have ea : gw_f q s m 0 + 9 * gw_f q s m 1 + 81 * gw_f q s m 2 + ga_p (gw_c s m) * sq_far (q 0) (q (10 + 4 * m)) (q 6) = zu (gw_f q s m) (gw_c s m) (sq_far (q 0) (q (10 + 4 * m)) (q 6)) 0 + 9 * zu (gw_f q s m) (gw_c s m) (sq_far (q 0) (q (10 + 4 * m)) (q 6)) 1 + 81 * zu (gw_f q s m) (gw_c s m) (sq_far (q 0) (q (10 + 4 * m)) (q 6)) 2 := by
        have f0 : ∀ i, gw_c s m ≤ i → gw_f q s m i = 0 := fun i hi => by unfold gw_f; rw [if_neg (by omega)]
        have cc : gw_c s m = 0 ∨ gw_c s m = 1 ∨ gw_c s m = 2 := by omega
        generalize gw_c s m = C at *
        rcases cc with rfl | rfl | rfl
        · rw [zu_s, zu_n (by decide), zu_n (by decide), f0 0 (by omega)]; simp only [ga_p0, ga_p1, ga_p2, ga_p3]; omega
        · rw [zu_s, zu_n (by decide), zu_n (by decide), f0 1 (by omega)]; simp only [ga_p0, ga_p1, ga_p2, ga_p3]; omega
        · rw [zu_s, zu_n (by decide), zu_n (by decide), f0 2 (by omega)]; simp only [ga_p0, ga_p1, ga_p2, ga_p3]; omega
      rw [ea]
      refine ih _ (am_u2_at _ _ _ _) (fun j hj => ?_) (fun r j g1 g2 g3 => ?_)
      · rw [am_u2o (by omega)]
        obtain ⟨_, y4, y5⟩ := gw_yes gb j
        by_cases e : j = gw_c s m
        · rw [y4 e, e, am_u2_at]
        · rw [y5 e, am_u2_ne _ _ _ _ e]; exact e2 j (by omega)
      · unfold am_u2
        rw [if_neg g1, if_neg (by omega)]; exact e3 r j g1 g2 g3
    · have gb' : s.testBit m = false := by simpa using gb
      obtain ⟨y1, y2⟩ := gw_f_no (q := q) gb'
      rw [y1, (gw_no gb').1, (gw_no gb').2] at ih
      exact ih I1 e1 e2 e3
theorem sm_row (h : sq_M q 0 I L) (ok : sq_Ok q) {s : Nat} (hs : s < 64) (hz : zp s ≤ 3) (g : gp_M q s I) (tb : ∀ i, i < ga_p (gw_c s (q 3)) → I 112 i = nI (gG 1000000 (q 2) (gw_l q s (q 3) 0) (gw_l q s (q 3) 1) (gw_l q s (q 3) 2) (i % 9) (i / 9 % 9) (i / 81))) {kk : Nat} (hk : kk < 1000) {p1 : Int32} {Q : Int32 → am_TI → Prop} : ∀ r a b e i v, r + i = kk → a < 9 → b < 9 → e < 9 → (gw_c s (q 3) ≤ 0 → a = 0) → (gw_c s (q 3) ≤ 1 → b = 0) → (gw_c s (q 3) ≤ 2 → e = 0) → r < gG 1000 (q 2) (gw_l q s (q 3) 0) (gw_l q s (q 3) 1) (gw_l q s (q 3) 2) a b e → gG 1000 (q 2) (gw_l q s (q 3) 0) (gw_l q s (q 3) 1) (gw_l q s (q 3) 2) a b e < 1000 → Q (nI (gr (q 2) (gw_l q s (q 3) 0) (gw_l q s (q 3) 1) (gw_l q s (q 3) 2) r a b e)) (am_u2 I 103 2 (nI 0)) → wl_M_gatherAt_59 L R 103 p1 (nI kk) Q (r + 2) I (nI (a + 9 * b + 81 * e)) v (nI i) := by
  have o := ok.1.2.2.1
  have w3 := gw_3 s hs hz (q 3) (by omega)
  have ix : ∀ a b e, a < 9 → b < 9 → e < 9 → (gw_c s (q 3) ≤ 0 → a = 0) → (gw_c s (q 3) ≤ 1 → b = 0) → (gw_c s (q 3) ≤ 2 → e = 0) → a + 9 * b + 81 * e < ga_p (gw_c s (q 3)) := by
    intro a b e ha hb he w0 w1 w2
    have : gw_c s (q 3) = 0 ∨ gw_c s (q 3) = 1 ∨ gw_c s (q 3) = 2 ∨ gw_c s (q 3) = 3 := by omega
    rcases this with e | e | e | e
    · have a0 := w0 (by omega); have b0 := w1 (by omega); have e0 := w2 (by omega); rw [e]; simp only [ga_p0, ga_p1, ga_p2, ga_p3]; omega
    · have b0 := w1 (by omega); have e0 := w2 (by omega); rw [e]; simp only [ga_p0, ga_p1, ga_p2, ga_p3]; omega
    · have e0 := w2 (by omega); rw [e]; simp only [ga_p0, ga_p1, ga_p2, ga_p3]; omega
    · rw [e]; simp only [ga_p0, ga_p1, ga_p2, ga_p3]; omega
  have tbv : ∀ a b e, a < 9 → b < 9 → e < 9 → (gw_c s (q 3) ≤ 0 → a = 0) → (gw_c s (q 3) ≤ 1 → b = 0) → (gw_c s (q 3) ≤ 2 → e = 0) → I 112 (a + 9 * b + 81 * e) = nI (gG 1000000 (q 2) (gw_l q s (q 3) 0) (gw_l q s (q 3) 1) (gw_l q s (q 3) 2) a b e) := by
    intro a b e ha hb he w0 w1 w2
    rw [tb _ (ix a b e ha hb he w0 w1 w2), show (a + 9 * b + 81 * e) % 9 = a by omega, show (a + 9 * b + 81 * e) / 9 % 9 = b by omega, show (a + 9 * b + 81 * e) / 81 = e by omega]
  have inner : ∀ a b e i, a < 9 → b < 9 → e < 9 → (gw_c s (q 3) ≤ 0 → a = 0) → (gw_c s (q 3) ≤ 1 → b = 0) → (gw_c s (q 3) ≤ 2 → e = 0) → 0 < gG 1000 (q 2) (gw_l q s (q 3) 0) (gw_l q s (q 3) 1) (gw_l q s (q 3) 2) a b e → gG 1000 (q 2) (gw_l q s (q 3) 0) (gw_l q s (q 3) 1) (gw_l q s (q 3) 2) a b e < 1000 → ∀ K : am_TI → Int32 → Int32 → Int32 → Prop, K I (nI (ga_lf (gw_l q s (q 3) 0) (zfind (gr_P (q 2) (gw_l q s (q 3) 0) (gw_l q s (q 3) 1) (gw_l q s (q 3) 2) a b e) (q 2)) a + 9 * ga_lf (gw_l q s (q 3) 1) (zfind (gr_P (q 2) (gw_l q s (q 3) 0) (gw_l q s (q 3) 1) (gw_l q s (q 3) 2) a b e) (q 2)) b + 81 * ga_lf (gw_l q s (q 3) 2) (zfind (gr_P (q 2) (gw_l q s (q 3) 0) (gw_l q s (q 3) 1) (gw_l q s (q 3) 2) a b e) (q 2)) e)) (nI (zfind (gr_P (q 2) (gw_l q s (q 3) 0) (gw_l q s (q 3) 1) (gw_l q s (q 3) 2) a b e) (q 2))) (nI i + 1) → ∃ z, wl_M_gatherAt_68 L R 103 p1 (nI kk) Q K z I (nI (a + 9 * b + 81 * e)) 0 (nI i) := by
    intro a b e i ha hb he w0 w1 w2 g0 g1 K hK
    obtain ⟨p1', p2, p3⟩ := zfind_ex (gr_ex g0 g1)
    have two := gG_two (Z1 := 1000) (Z2 := 1000000) (T := q 2) (l0 := gw_l q s (q 3) 0) (l1 := gw_l q s (q 3) 1) (l2 := gw_l q s (q 3) 2) _ a b e (Nat.le_refl _) (by omega) (by omega)
    have pz := gr_P_Z (T := q 2) (l0 := gw_l q s (q 3) 0) (l1 := gw_l q s (q 3) 1) (l2 := gw_l q s (q 3) 2) (a := a) (b := b) (c := e) (by omega) g0 g1
    have i1 := ix a b e ha hb he w0 w1 w2
    have i9 : ga_p (gw_c s (q 3)) ≤ 729 := by
      have : gw_c s (q 3) = 0 ∨ gw_c s (q 3) = 1 ∨ gw_c s (q 3) = 2 ∨ gw_c s (q 3) = 3 := by omega
      rcases this with e | e | e | e <;> (rw [e]; decide)
    generalize zfind (gr_P (q 2) (gw_l q s (q 3) 0) (gw_l q s (q 3) 1) (gw_l q s (q 3) 2) a b e) (q 2) = F at *
    have body : ∀ m, m < q 2 → ∀ Q1 Q2 : Prop, (gr_P (q 2) (gw_l q s (q 3) 0) (gw_l q s (q 3) 1) (gw_l q s (q 3) 2) a b e m = true → Q1) → (gr_P (q 2) (gw_l q s (q 3) 0) (gw_l q s (q 3) 1) (gw_l q s (q 3) 2) a b e m = false → Q2) → wp_M_behindTune I L R 103 (nI (a + 9 * b + 81 * e)) (nI m) (fun (r6 : Int32) => (vp_in r6 729 ∧ (vp_in (nI (a + 9 * b + 81 * e)) 729 ∧ (((I (103 + 9) (Int32.toNatClampNeg r6)) = ((I (103 + 9) (Int32.toNatClampNeg (nI (a + 9 * b + 81 * e)))) - 1) → Q1) ∧ (¬ (I (103 + 9) (Int32.toNatClampNeg r6)) = ((I (103 + 9) (Int32.toNatClampNeg (nI (a + 9 * b + 81 * e)))) - 1) → Q2))))) := by
      intro m hm Q1 Q2 k1 k2
      have x0 := ga_lf_le (gw_l q s (q 3) 0) m a
      have x1 := ga_lf_le (gw_l q s (q 3) 1) m b
      have x2 := ga_lf_le (gw_l q s (q 3) 2) m e
      have gl := gG_le (Z := 1000000) (T := q 2) (l0 := gw_l q s (q 3) 0) (l1 := gw_l q s (q 3) 1) (l2 := gw_l q s (q 3) 2) (ga_lf (gw_l q s (q 3) 0) m a) (ga_lf (gw_l q s (q 3) 1) m b) (ga_lf (gw_l q s (q 3) 2) m e)
      refine sm_behind h ok hs hz g (by omega) ha hb he w0 w1 w2 ?_
      have t1 := tbv (ga_lf (gw_l q s (q 3) 0) m a) (ga_lf (gw_l q s (q 3) 1) m b) (ga_lf (gw_l q s (q 3) 2) m e) (by omega) (by omega) (by omega) (fun z => by have := w0 z; omega) (fun z => by have := w1 z; omega) (fun z => by have := w2 z; omega)
      have t2 := tbv a b e ha hb he w0 w1 w2
      have pm := pz m
      generalize ga_lf (gw_l q s (q 3) 0) m a = a' at *
      generalize ga_lf (gw_l q s (q 3) 1) m b = b' at *
      generalize ga_lf (gw_l q s (q 3) 2) m e = e' at *
      simp (disch := omega) only [t1, t2, zi_0, zi_1, zi_2, zi_3, zi_4, zi_5, zi_6, zi_7, zi_8, zi_9, zi_10, zi_11, zi_12, zi_13, zi_14, zi_15, zi_16, zi_17, zi_18, zi_19, zi_20, zi_21, zi_22, zi_23, zi_24, zi_25, zi_26, zi_30, zi_31, zi_32, zi_34, zi_38, zi_59, zi_60, zi_61, zi_63, zi_64, zi_80, zi_96, zi_97, zi_99, zi_100, zi_122, zi_255, zi_256, zi_300, zi_398, zi_406, zi_900, zi_1000, zi_1024, zi_1624, zi_1662, zi_2030, zi_2031, zi_2068, zi_2258, zi_9999, zi_48, zi_57, zi_65536, zi_3257, zi_11483, zi_1000000, zi_729, zi_81, zi_m1, nI_add, pk_mul, nI_ltI, nI_leI, nI_eq, nI_clamp, zn_in, zn_sub1lt, zn_M, zn_Ml, zn_Mg, zn_Mle, zn_Mge, zn_sub, Nat.reduceAdd, Nat.reduceMul]
      refine ⟨by omega, by omega, fun z => k1 (pm.mpr z), fun z => k2 ?_⟩
      rw [← pm] at z; simpa using z
    refine zl_up (P := fun w m => wl_M_gatherAt_68 L R 103 p1 (nI kk) Q K w I (nI (a + 9 * b + 81 * e)) (nI m) (nI i)) F (fun w => ?_) (fun w m hm ih => ?_) 0 (by omega)
    · rw [wl_M_gatherAt_68]
      refine body F p1' _ _ (fun _ => sm_behind h ok hs hz g (by omega) ha hb he w0 w1 w2 hK) (fun z => ?_)
      rw [p2] at z; cases z
    · rw [wl_M_gatherAt_68]
      refine body m (by omega) _ _ (fun z => ?_) (fun _ => ?_)
      · rw [p3 m hm] at z; cases z
      · rw [show nI m + 1 = nI (m + 1) from nI_add m 1]; exact ih
  intro r
  induction r with
  | zero =>
    intro a b e i v hi ha hb he w0 w1 w2 g0 g1 K
    rw [wl_M_gatherAt_59]
    refine ⟨fun z => ?_, fun _ => inner a b e i ha hb he w0 w1 w2 g0 g1 _ ?_⟩
    · rw [nI_ltI (by omega) (by omega)] at z; omega
    · rw [wl_M_gatherAt_59]
      simp (disch := omega) only [wp_M_gives, zi_0, zi_1, zi_2, zi_3, zi_4, zi_5, zi_6, zi_7, zi_8, zi_9, zi_10, zi_11, zi_12, zi_13, zi_14, zi_15, zi_16, zi_17, zi_18, zi_19, zi_20, zi_21, zi_22, zi_23, zi_24, zi_25, zi_26, zi_30, zi_31, zi_32, zi_34, zi_38, zi_59, zi_60, zi_61, zi_63, zi_64, zi_80, zi_96, zi_97, zi_99, zi_100, zi_122, zi_255, zi_256, zi_300, zi_398, zi_406, zi_900, zi_1000, zi_1024, zi_1624, zi_1662, zi_2030, zi_2031, zi_2068, zi_2258, zi_9999, zi_48, zi_57, zi_65536, zi_3257, zi_11483, zi_1000000, zi_729, zi_81, zi_m1, nI_add, pk_mul, nI_ltI, nI_leI, nI_eq, nI_clamp, zn_in, zn_sub1lt, zn_M, zn_Ml, zn_Mg, zn_Mle, zn_Mge, zn_sub, Nat.reduceAdd, Nat.reduceMul]
      exact ⟨fun _ => fun I4 h4 => by rw [h4]; exact K, fun g => absurd (by omega) g⟩
  | succ r ih =>
    intro a b e i v hi ha hb he w0 w1 w2 g0 g1 K
    obtain ⟨p1', p2, p3⟩ := zfind_ex (gr_ex (T := q 2) (l0 := gw_l q s (q 3) 0) (l1 := gw_l q s (q 3) 1) (l2 := gw_l q s (q 3) 2) (a := a) (b := b) (c := e) (by omega) g1)
    rw [wl_M_gatherAt_59]
    refine ⟨fun z => ?_, fun _ => inner a b e i ha hb he w0 w1 w2 (by omega) g1 _ ?_⟩
    · rw [nI_ltI (by omega) (by omega)] at z; omega
    · rw [gr] at K
      generalize zfind (gr_P (q 2) (gw_l q s (q 3) 0) (gw_l q s (q 3) 1) (gw_l q s (q 3) 2) a b e) (q 2) = F at *
      have x0 := ga_lf_le (gw_l q s (q 3) 0) F a
      have x1 := ga_lf_le (gw_l q s (q 3) 1) F b
      have x2 := ga_lf_le (gw_l q s (q 3) 2) F e
      unfold gr_P at p2
      rw [beq_iff_eq] at p2
      rw [show nI i + 1 = nI (i + 1) from nI_add i 1]
      exact ih _ _ _ (i + 1) _ (by omega) (by omega) (by omega) (by omega) (fun z => by have := w0 z; omega) (fun z => by have := w1 z; omega) (fun z => by have := w2 z; omega) (by omega) (by omega) K
end
