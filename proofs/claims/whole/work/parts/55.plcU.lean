/-! placings: the class's side; fractions -/
def iI (x : Int) : Int32 := Int32.ofInt x
theorem iI_add (a b : Int) : iI a + iI b = iI (a + b) := (Int32.ofInt_add a b).symm
theorem iI_sub (a b : Int) : iI a - iI b = iI (a - b) := (Int32.ofInt_sub a b).symm
theorem iI_neg (a : Int) : -iI a = iI (-a) := (Int32.ofInt_neg a).symm
theorem iI_n (n : Nat) : nI n = iI n := Int32.ofInt_eq_ofNat.symm
theorem zn_par : ∀ z, z < 7 → nI z - nI z / nI 2 * nI 2 = nI (z % 2) := by decide +kernel
theorem pc_ch1 : ∀ m, m < 26 → ∀ i, i < 4 → i < m → nI (pc_c m i) * (nI m - nI i) / (nI i + 1) = nI (pc_c m (i + 1)) := by decide +kernel
theorem pc_ch2 : ∀ m, m < 7 → ∀ i, i < 6 → i < m → nI (pc_c m i) * (nI m - nI i) / (nI i + 1) = nI (pc_c m (i + 1)) := by decide +kernel
section
variable {q : Nat → Nat} {c d : Nat} {I I1 I2 : am_TI} {L L1 L2 : am_TL} {R : am_TR}
theorem su_choose {m k : Nat} (h : (m < 26 ∧ k ≤ 4) ∨ (m < 7 ∧ k ≤ 6)) {Q : Int32 → Prop} (kk : Q (nI (pc_c m k))) : wp_U_choose I L R (nI m) (nI k) Q := by
  simp (disch := omega) only [wp_U_choose, zi_0, zi_1, zi_2, zi_3, zi_4, zi_5, zi_6, zi_7, zi_8, zi_9, zi_10, zi_11, zi_12, zi_13, zi_14, zi_15, zi_16, zi_17, zi_18, zi_19, zi_20, zi_21, zi_22, zi_23, zi_24, zi_25, zi_26, zi_30, zi_31, zi_32, zi_34, zi_38, zi_59, zi_60, zi_61, zi_63, zi_64, zi_80, zi_96, zi_97, zi_99, zi_100, zi_122, zi_255, zi_256, zi_300, zi_398, zi_406, zi_900, zi_1000, zi_1024, zi_1624, zi_1662, zi_2030, zi_2031, zi_2068, zi_2258, zi_9999, zi_48, zi_57, zi_65536, zi_3257, zi_11483, zi_1000000, zi_729, zi_81, zi_m1, nI_add, pk_mul, nI_ltI, nI_leI, nI_eq, nI_clamp, zn_in, zn_sub1lt, zn_M, zn_Ml, zn_Mg, zn_Mle, zn_Mge, zn_sub, Nat.reduceAdd, Nat.reduceMul]
  refine ⟨fun g => absurd g (by omega), fun _ => ⟨fun g => ?_, fun g => ?_⟩⟩
  · have st := zl_up (P := fun f i => wl_U_choose_15 I L R (nI m) (nI k) Q f (nI (pc_c m i)) (nI i)) k (fun f => by
      simp (disch := omega) only [wl_U_choose_15, zi_0, zi_1, zi_2, zi_3, zi_4, zi_5, zi_6, zi_7, zi_8, zi_9, zi_10, zi_11, zi_12, zi_13, zi_14, zi_15, zi_16, zi_17, zi_18, zi_19, zi_20, zi_21, zi_22, zi_23, zi_24, zi_25, zi_26, zi_30, zi_31, zi_32, zi_34, zi_38, zi_59, zi_60, zi_61, zi_63, zi_64, zi_80, zi_96, zi_97, zi_99, zi_100, zi_122, zi_255, zi_256, zi_300, zi_398, zi_406, zi_900, zi_1000, zi_1024, zi_1624, zi_1662, zi_2030, zi_2031, zi_2068, zi_2258, zi_9999, zi_48, zi_57, zi_65536, zi_3257, zi_11483, zi_1000000, zi_729, zi_81, zi_m1, nI_add, pk_mul, nI_ltI, nI_leI, nI_eq, nI_clamp, zn_in, zn_sub1lt, zn_M, zn_Ml, zn_Mg, zn_Mle, zn_Mge, zn_sub, Nat.reduceAdd, Nat.reduceMul]
      exact ⟨fun _ => kk, fun g => absurd (Nat.le_refl _) g⟩) (fun f i hi ih => by
      have e : nI (pc_c m i) * (nI m - nI i) / (nI i + 1) = nI (pc_c m (i + 1)) := by
        rcases h with h | h
        · exact pc_ch1 m h.1 i (by omega) (by omega)
        · exact pc_ch2 m h.1 i (by omega) (by omega)
      rw [wl_U_choose_15]
      dsimp only
      rw [e]
      simp (disch := omega) only [zi_0, zi_1, zi_2, zi_3, zi_4, zi_5, zi_6, zi_7, zi_8, zi_9, zi_10, zi_11, zi_12, zi_13, zi_14, zi_15, zi_16, zi_17, zi_18, zi_19, zi_20, zi_21, zi_22, zi_23, zi_24, zi_25, zi_26, zi_30, zi_31, zi_32, zi_34, zi_38, zi_59, zi_60, zi_61, zi_63, zi_64, zi_80, zi_96, zi_97, zi_99, zi_100, zi_122, zi_255, zi_256, zi_300, zi_398, zi_406, zi_900, zi_1000, zi_1024, zi_1624, zi_1662, zi_2030, zi_2031, zi_2068, zi_2258, zi_9999, zi_48, zi_57, zi_65536, zi_3257, zi_11483, zi_1000000, zi_729, zi_81, zi_m1, nI_add, pk_mul, nI_ltI, nI_leI, nI_eq, nI_clamp, zn_in, zn_sub1lt, zn_M, zn_Ml, zn_Mg, zn_Mle, zn_Mge, zn_sub, Nat.reduceAdd, Nat.reduceMul]
      exact ⟨fun g => absurd g (by omega), fun _ => ⟨by omega, ih⟩⟩) 0 (by omega)
    rw [pc_c0] at st
    exact st
  · rw [pc_lt m k (by omega)] at kk; exact kk
def pl_U (q : Nat → Nat) (I : am_TI) : Prop := I 21 2 = nI (q 0 * q 1) ∧ ∀ x, x < q 0 * q 1 → I 22 x = nI (sq_dogsBy q x)
theorem su_lookP (h : sq_U q c d I L) (hcd : sq_cd c d) (ok : sq_Ok q) {Q : am_TI → Prop} (k : ∀ I1, pl_U q I1 → (∀ r, r ≠ 21 → r ≠ 22 → I1 r = I r) → Q I1) : wp_Placings_look I L R 21 c Q := by
  have o := ok.cells
  have hcd' := hcd
  obtain ⟨hc, hd⟩ := hcd'
  simp (disch := omega) only [wp_Placings_look, wp_Square_cells, h.n0, h.n1, zi_25, pk_mul, zn_min, forall_eq, true_imp_iff, false_imp_iff, and_true, true_and, not_true_eq_false, not_false_eq_true, reduceCtorEq, imp_self, eq_self, false_and, and_false, implies_true]
  rw [Nat.min_eq_left o.2]
  refine (zl_up (P := fun f m => ∀ I1, I1 21 2 = nI (q 0 * q 1) → (∀ x, x < m → I1 22 x = nI (sq_dogsBy q x)) → (∀ r, r ≠ 21 → r ≠ 22 → I1 r = I r) → wl_Placings_look_15 L R 21 c Q f I1 (nI m)) (q 0 * q 1) (fun f I1 e1 e2 e3 => ?_) (fun f m hm ih I1 e1 e2 e3 => ?_) 0 (by omega)).elim fun z hz => ⟨z, hz _ (am_u2_at _ _ _ _) (fun x hx => absurd hx (by omega)) (fun r a b => am_u2_row _ _ _ _ a)⟩
  · simp (disch := omega) only [wl_Placings_look_15, e1, zi_0, zi_1, zi_2, zi_3, zi_4, zi_5, zi_6, zi_7, zi_8, zi_9, zi_10, zi_11, zi_12, zi_13, zi_14, zi_15, zi_16, zi_17, zi_18, zi_19, zi_20, zi_21, zi_22, zi_23, zi_24, zi_25, zi_26, zi_30, zi_31, zi_32, zi_34, zi_38, zi_59, zi_60, zi_61, zi_63, zi_64, zi_80, zi_96, zi_97, zi_99, zi_100, zi_122, zi_255, zi_256, zi_300, zi_398, zi_406, zi_900, zi_1000, zi_1024, zi_1624, zi_1662, zi_2030, zi_2031, zi_2068, zi_2258, zi_9999, zi_48, zi_57, zi_65536, zi_3257, zi_11483, zi_1000000, zi_729, zi_81, zi_m1, nI_add, pk_mul, nI_ltI, nI_leI, nI_eq, nI_clamp, zn_in, zn_sub1lt, zn_M, zn_Ml, zn_Mg, zn_Mle, zn_Mge, zn_sub, Nat.reduceAdd, Nat.reduceMul]
    exact ⟨fun _ => k I1 ⟨e1, e2⟩ e3, fun g => absurd (Nat.le_refl _) g⟩
  · have h1 : sq_U q c d I1 L := h.keep (fun r hr => e3 r (by omega) (by omega)) rfl
    simp (disch := omega) only [wl_Placings_look_15, e1, zi_0, zi_1, zi_2, zi_3, zi_4, zi_5, zi_6, zi_7, zi_8, zi_9, zi_10, zi_11, zi_12, zi_13, zi_14, zi_15, zi_16, zi_17, zi_18, zi_19, zi_20, zi_21, zi_22, zi_23, zi_24, zi_25, zi_26, zi_30, zi_31, zi_32, zi_34, zi_38, zi_59, zi_60, zi_61, zi_63, zi_64, zi_80, zi_96, zi_97, zi_99, zi_100, zi_122, zi_255, zi_256, zi_300, zi_398, zi_406, zi_900, zi_1000, zi_1024, zi_1624, zi_1662, zi_2030, zi_2031, zi_2068, zi_2258, zi_9999, zi_48, zi_57, zi_65536, zi_3257, zi_11483, zi_1000000, zi_729, zi_81, zi_m1, nI_add, pk_mul, nI_ltI, nI_leI, nI_eq, nI_clamp, zn_in, zn_sub1lt, zn_M, zn_Ml, zn_Mg, zn_Mle, zn_Mge, zn_sub, Nat.reduceAdd, Nat.reduceMul]
    refine ⟨fun g => absurd g (by omega), fun _ => su_dogsBy h1 ok (by omega) ⟨by omega, fun I2 hI2 => ?_⟩⟩
    subst hI2
    refine ih _ (by rw [am_u2o (by omega)]; exact e1) (fun x hx => ?_) (fun r a b => by rw [am_u2_row _ _ _ _ (by omega)]; exact e3 r a b)
    by_cases e : x = m
    · subst e; rw [am_u2_at]
    · rw [am_u2_ne _ _ _ _ e]; exact e2 x (by omega)
theorem su_within (h : pl_U q I) (o : q 0 * q 1 ≤ 25) (ok : sq_Ok q) {S lo : Nat} (hS : S < 16) (hl : lo < 2 ^ 31) {Q : Int32 → Prop} (k : Q (nI (zsum (pc_in (sq_dogsBy q) (fun x => lo.testBit x) S) (q 0 * q 1)))) : wp_Placings_cellsWithin I L R 21 (nI S) (nI lo) Q := by
  refine zl_up (P := fun f m => wl_Placings_cellsWithin_5 I L R 21 (nI S) (nI lo) Q f (nI (zsum (pc_in (sq_dogsBy q) (fun x => lo.testBit x) S) m)) (nI m)) (q 0 * q 1) (fun f => ?_) (fun f m hm ih => ?_) 0 (by omega)
  · simp (disch := omega) only [wl_Placings_cellsWithin_5, h.1, zi_0, zi_1, zi_2, zi_3, zi_4, zi_5, zi_6, zi_7, zi_8, zi_9, zi_10, zi_11, zi_12, zi_13, zi_14, zi_15, zi_16, zi_17, zi_18, zi_19, zi_20, zi_21, zi_22, zi_23, zi_24, zi_25, zi_26, zi_30, zi_31, zi_32, zi_34, zi_38, zi_59, zi_60, zi_61, zi_63, zi_64, zi_80, zi_96, zi_97, zi_99, zi_100, zi_122, zi_255, zi_256, zi_300, zi_398, zi_406, zi_900, zi_1000, zi_1024, zi_1624, zi_1662, zi_2030, zi_2031, zi_2068, zi_2258, zi_9999, zi_48, zi_57, zi_65536, zi_3257, zi_11483, zi_1000000, zi_729, zi_81, zi_m1, nI_add, pk_mul, nI_ltI, nI_leI, nI_eq, nI_clamp, zn_in, zn_sub1lt, zn_M, zn_Ml, zn_Mg, zn_Mle, zn_Mge, zn_sub, Nat.reduceAdd, Nat.reduceMul]
    exact ⟨fun _ => k, fun g => absurd (Nat.le_refl _) g⟩
  · have dl := sq_dogsBy_lt ok m
    have zl := zan_le (sq_dogsBy q m) S
    have b1 : (lo.testBit m).toNat < 2 := by cases lo.testBit m <;> decide
    rw [zsum, pc_in] at ih
    simp (disch := omega) only [wl_Placings_cellsWithin_5, h.1, h.2 m hm, zn_an, zn_bit1, zi_0, zi_1, zi_2, zi_3, zi_4, zi_5, zi_6, zi_7, zi_8, zi_9, zi_10, zi_11, zi_12, zi_13, zi_14, zi_15, zi_16, zi_17, zi_18, zi_19, zi_20, zi_21, zi_22, zi_23, zi_24, zi_25, zi_26, zi_30, zi_31, zi_32, zi_34, zi_38, zi_59, zi_60, zi_61, zi_63, zi_64, zi_80, zi_96, zi_97, zi_99, zi_100, zi_122, zi_255, zi_256, zi_300, zi_398, zi_406, zi_900, zi_1000, zi_1024, zi_1624, zi_1662, zi_2030, zi_2031, zi_2068, zi_2258, zi_9999, zi_48, zi_57, zi_65536, zi_3257, zi_11483, zi_1000000, zi_729, zi_81, zi_m1, nI_add, pk_mul, nI_ltI, nI_leI, nI_eq, nI_clamp, zn_in, zn_sub1lt, zn_M, zn_Ml, zn_Mg, zn_Mle, zn_Mge, zn_sub, Nat.reduceAdd, Nat.reduceMul]
    refine ⟨fun g => absurd g (by omega), fun _ => ⟨by omega, fun g => ⟨fun g2 => ?_, fun g2 => ?_⟩, fun g => ?_⟩⟩
    · rw [if_pos ⟨g, by cases e : lo.testBit m with
        | false => rfl
        | true => rw [e] at g2; cases g2⟩] at ih
      exact ih
    · rw [if_neg (fun z => g2 (by rw [z.2]; rfl)), Nat.add_zero] at ih; exact ih
    · rw [if_neg (fun z => g z.1), Nat.add_zero] at ih; exact ih
theorem zsI_stop {f : Nat → Int} {a : Nat} : ∀ {n}, a ≤ n → (∀ i, a ≤ i → i < n → f i = 0) → zsI f n = zsI f a
  | 0, h, _ => by rw [show a = 0 by omega]
  | n + 1, h, h0 => by
    rcases Nat.lt_or_ge n a with g | g
    · rw [show a = n + 1 by omega]
    · rw [zsI, h0 n g (by omega), Int.add_zero]
      exact zsI_stop g (fun i h1 h2 => h0 i h1 (by omega))
theorem zan_0 {a b : Nat} (h : zan a b = 0) : a ≤ b := by
  unfold zan at h
  rw [zx0] at h
  rw [h]; exact Nat.and_le_right
theorem zsum_le1 {f : Nat → Nat} (h : ∀ i, f i ≤ 1) : ∀ n, zsum f n ≤ n
  | 0 => Nat.le_refl _
  | n + 1 => by
    have := zsum_le1 h n
    have h2 := h n
    rw [zsum]; omega
theorem pc_in_le (u : Nat → Nat) (lo : Nat → Bool) (S x : Nat) : pc_in u lo S x ≤ 1 := by unfold pc_in; split <;> omega
theorem su_count (h : pl_U q I) (ok : sq_Ok q) {dg kk lo : Nat} (hd : dg < 16) (hk : kk ≤ 4) (hl : lo < 2 ^ 31) {Q : Int32 → Prop} (k : Q (nI (wd (sq_dogsBy q) (fun x => lo.testBit x) (q 0 * q 1) dg (q 0 * q 1) kk 0))) : wp_Placings_countWithout I L R 21 (nI dg) (nI kk) (nI lo) Q := by
  have o := ok.cells
  have e0 : zsI (fun S => pc_co dg S * (pc_c (zsum (pc_in (sq_dogsBy q) (fun x => lo.testBit x) S) (q 0 * q 1)) kk : Int)) (dg + 1) = (wd (sq_dogsBy q) (fun x => lo.testBit x) (q 0 * q 1) dg (q 0 * q 1) kk 0 : Int) := by
    rw [← pc_ie_eq hd (fun x => sq_dogsBy_lt ok x) kk, pc_ie]
    refine (zsI_stop (by omega) (fun S h1 h2 => ?_)).symm
    rw [pc_co, if_neg (fun z => by have := zan_0 z; omega), Int.zero_mul]
  rw [iI_n, ← e0] at k
  refine zl_up (P := fun f S => wl_Placings_countWithout_6 I L R 21 (nI dg) (nI kk) (nI lo) Q f (iI (zsI (fun S => pc_co dg S * (pc_c (zsum (pc_in (sq_dogsBy q) (fun x => lo.testBit x) S) (q 0 * q 1)) kk : Int)) S)) (nI S)) (dg + 1) (fun f => ?_) (fun f S hS ih => ?_) 0 (by omega)
  · simp (disch := omega) only [wl_Placings_countWithout_6, zi_0, zi_1, zi_2, zi_3, zi_4, zi_5, zi_6, zi_7, zi_8, zi_9, zi_10, zi_11, zi_12, zi_13, zi_14, zi_15, zi_16, zi_17, zi_18, zi_19, zi_20, zi_21, zi_22, zi_23, zi_24, zi_25, zi_26, zi_30, zi_31, zi_32, zi_34, zi_38, zi_59, zi_60, zi_61, zi_63, zi_64, zi_80, zi_96, zi_97, zi_99, zi_100, zi_122, zi_255, zi_256, zi_300, zi_398, zi_406, zi_900, zi_1000, zi_1024, zi_1624, zi_1662, zi_2030, zi_2031, zi_2068, zi_2258, zi_9999, zi_48, zi_57, zi_65536, zi_3257, zi_11483, zi_1000000, zi_729, zi_81, zi_m1, nI_add, pk_mul, nI_ltI, nI_leI, nI_eq, nI_clamp, zn_in, zn_sub1lt, zn_M, zn_Ml, zn_Mg, zn_Mle, zn_Mge, zn_sub, Nat.reduceAdd, Nat.reduceMul]
    exact ⟨fun _ => k, fun g => absurd (Nat.lt_succ_self _) g⟩
  · have zl := zan_le S dg
    have xl : dg ^^^ S < 64 := Nat.xor_lt_two_pow (n := 6) (by omega) (by omega)
    have z7 := zp_le _ xl
    have wl := zsum_le1 (pc_in_le (sq_dogsBy q) (fun x => lo.testBit x) S) (q 0 * q 1)
    rw [zsI] at ih
    try dsimp only at ih
    rw [← iI_add] at ih
    simp (disch := omega) only [wl_Placings_countWithout_6, zn_an, zi_0, zi_1, zi_2, zi_3, zi_4, zi_5, zi_6, zi_7, zi_8, zi_9, zi_10, zi_11, zi_12, zi_13, zi_14, zi_15, zi_16, zi_17, zi_18, zi_19, zi_20, zi_21, zi_22, zi_23, zi_24, zi_25, zi_26, zi_30, zi_31, zi_32, zi_34, zi_38, zi_59, zi_60, zi_61, zi_63, zi_64, zi_80, zi_96, zi_97, zi_99, zi_100, zi_122, zi_255, zi_256, zi_300, zi_398, zi_406, zi_900, zi_1000, zi_1024, zi_1624, zi_1662, zi_2030, zi_2031, zi_2068, zi_2258, zi_9999, zi_48, zi_57, zi_65536, zi_3257, zi_11483, zi_1000000, zi_729, zi_81, zi_m1, nI_add, pk_mul, nI_ltI, nI_leI, nI_eq, nI_clamp, zn_in, zn_sub1lt, zn_M, zn_Ml, zn_Mg, zn_Mle, zn_Mge, zn_sub, Nat.reduceAdd, Nat.reduceMul]
    refine ⟨fun g => absurd g (by omega), fun _ => ⟨fun g => ?_, fun g => ?_⟩⟩
    · refine su_within h o.2 ok (by omega) hl (su_choose (Or.inl ⟨by omega, hk⟩) ?_)
      rw [ze_xor]
      refine su_bits xl ?_
      rw [zn_par _ z7, nI_eq (by omega) (by omega)]
      rw [pc_co, if_pos g] at ih
      refine ⟨fun g2 => ?_, fun g2 => ?_⟩
      · rw [if_pos g2, Int.one_mul, ← iI_n] at ih; exact ih
      · rw [if_neg g2, Int.neg_mul, Int.one_mul, ← iI_neg, ← iI_n] at ih; exact ih
    · rw [pc_co, if_neg g, Int.zero_mul, show iI 0 = 0 from rfl, Int32.add_zero] at ih; exact ih
/-- whom a throw at a cell would hit, as a set of cells -/
def pl_hit (q : Nat → Nat) (x : Nat) : Nat := zs_bs (fun y => decide (sq_far (q 0) y x ≤ 1)) (q 0 * q 1)
theorem su_hitC (h : sq_U q c d I L) (p : pl_U q I) (ok : sq_Ok q) {x : Nat} (hx : x < 25) {Q : Int32 → Prop} (k : Q (nI (pl_hit q x))) : wp_Placings_hitCells I L R 21 c (nI x) Q := by
  have o := ok.cells
  refine zl_up (P := fun f m => wl_Placings_hitCells_5 I L R 21 c (nI x) Q f (nI (zs_bs (fun y => decide (sq_far (q 0) y x ≤ 1)) m)) (nI m)) (q 0 * q 1) (fun f => ?_) (fun f m hm ih => ?_) 0 (by omega)
  · simp (disch := omega) only [wl_Placings_hitCells_5, p.1, zi_0, zi_1, zi_2, zi_3, zi_4, zi_5, zi_6, zi_7, zi_8, zi_9, zi_10, zi_11, zi_12, zi_13, zi_14, zi_15, zi_16, zi_17, zi_18, zi_19, zi_20, zi_21, zi_22, zi_23, zi_24, zi_25, zi_26, zi_30, zi_31, zi_32, zi_34, zi_38, zi_59, zi_60, zi_61, zi_63, zi_64, zi_80, zi_96, zi_97, zi_99, zi_100, zi_122, zi_255, zi_256, zi_300, zi_398, zi_406, zi_900, zi_1000, zi_1024, zi_1624, zi_1662, zi_2030, zi_2031, zi_2068, zi_2258, zi_9999, zi_48, zi_57, zi_65536, zi_3257, zi_11483, zi_1000000, zi_729, zi_81, zi_m1, nI_add, pk_mul, nI_ltI, nI_leI, nI_eq, nI_clamp, zn_in, zn_sub1lt, zn_M, zn_Ml, zn_Mg, zn_Mle, zn_Mge, zn_sub, Nat.reduceAdd, Nat.reduceMul]
    exact ⟨fun _ => k, fun g => absurd (Nat.le_refl _) g⟩
  · simp (disch := omega) only [wl_Placings_hitCells_5, p.1, wp_Square_isNear, zi_0, zi_1, zi_2, zi_3, zi_4, zi_5, zi_6, zi_7, zi_8, zi_9, zi_10, zi_11, zi_12, zi_13, zi_14, zi_15, zi_16, zi_17, zi_18, zi_19, zi_20, zi_21, zi_22, zi_23, zi_24, zi_25, zi_26, zi_30, zi_31, zi_32, zi_34, zi_38, zi_59, zi_60, zi_61, zi_63, zi_64, zi_80, zi_96, zi_97, zi_99, zi_100, zi_122, zi_255, zi_256, zi_300, zi_398, zi_406, zi_900, zi_1000, zi_1024, zi_1624, zi_1662, zi_2030, zi_2031, zi_2068, zi_2258, zi_9999, zi_48, zi_57, zi_65536, zi_3257, zi_11483, zi_1000000, zi_729, zi_81, zi_m1, nI_add, pk_mul, nI_ltI, nI_leI, nI_eq, nI_clamp, zn_in, zn_sub1lt, zn_M, zn_Ml, zn_Mg, zn_Mle, zn_Mge, zn_sub, Nat.reduceAdd, Nat.reduceMul]
    refine ⟨fun g => absurd g (by omega), fun _ => ?_⟩
    have f50 := ok.far50 (show m < 25 by omega) hx
    refine su_far h ok (by omega) hx ?_
    simp (disch := omega) only [zi_0, zi_1, zi_2, zi_3, zi_4, zi_5, zi_6, zi_7, zi_8, zi_9, zi_10, zi_11, zi_12, zi_13, zi_14, zi_15, zi_16, zi_17, zi_18, zi_19, zi_20, zi_21, zi_22, zi_23, zi_24, zi_25, zi_26, zi_30, zi_31, zi_32, zi_34, zi_38, zi_59, zi_60, zi_61, zi_63, zi_64, zi_80, zi_96, zi_97, zi_99, zi_100, zi_122, zi_255, zi_256, zi_300, zi_398, zi_406, zi_900, zi_1000, zi_1024, zi_1624, zi_1662, zi_2030, zi_2031, zi_2068, zi_2258, zi_9999, zi_48, zi_57, zi_65536, zi_3257, zi_11483, zi_1000000, zi_729, zi_81, zi_m1, nI_add, pk_mul, nI_ltI, nI_leI, nI_eq, nI_clamp, zn_in, zn_sub1lt, zn_M, zn_Ml, zn_Mg, zn_Mle, zn_Mge, zn_sub, Nat.reduceAdd, Nat.reduceMul, forall_eq, true_imp_iff, false_imp_iff, and_true, true_and, not_true_eq_false, not_false_eq_true, reduceCtorEq, imp_self, eq_self, false_and, and_false, implies_true]
    refine ⟨fun g => ?_, fun g => ?_⟩
    · rw [zs_no (by simpa using g)]; exact ih
    · rw [zn_yes (by simpa using g) (by omega)]; exact ih
theorem wd_cong {u : Nat → Nat} {lo lo' : Nat → Bool} {n dg : Nat} (h : ∀ c, c < n → lo c = lo' c) : ∀ r k D, r ≤ n → wd u lo n dg r k D = wd u lo' n dg r k D
  | 0, k, D, _ => by rw [wd, wd]
  | r + 1, k, D, hr => by
    rw [wd, wd, wd_cong h r k D (by omega), wd_cong h r (k - 1) _ (by omega), h (n - (r + 1)) (by omega)]
theorem wd_le {u : Nat → Nat} {lo : Nat → Bool} {n dg : Nat} : ∀ r k D, wd u lo n dg r k D ≤ wd u (fun _ => false) n dg r k D
  | 0, k, D => by rw [wd, wd]; exact Nat.le_refl _
  | r + 1, k, D => by
    have a := wd_le (u := u) (lo := lo) (n := n) (dg := dg) r k D
    have b := wd_le (u := u) (lo := lo) (n := n) (dg := dg) r (k - 1) (D ||| u (n - (r + 1)))
    rw [wd, wd]
    split
    · exact Nat.le_refl _
    · rw [if_neg (show ¬ (false = true) by decide)]
      split <;> omega
def pw_all (q : Nat → Nat) (dg k : Nat) : Nat := wd (sq_dogsBy q) (fun _ => false) (q 0 * q 1) dg (q 0 * q 1) k 0
def pw_mis (q : Nat → Nat) (dg k x : Nat) : Nat := wd (sq_dogsBy q) (fun y => decide (sq_far (q 0) y x ≤ 1)) (q 0 * q 1) dg (q 0 * q 1) k 0
def pw_wo (q : Nat → Nat) (dg k x : Nat) : Nat := wd (sq_dogsBy q) (fun y => decide (y = x)) (q 0 * q 1) dg (q 0 * q 1) k 0
/-- bounds -/
def pc_b : Nat → Nat → Nat
  | 0, _ => 1
  | _ + 1, 0 => 1
  | r + 1, k + 1 => pc_b r (k + 1) + pc_b r k
theorem wd_b {u : Nat → Nat} {lo : Nat → Bool} {n dg : Nat} : ∀ r k D, wd u lo n dg r k D ≤ 2 ^ r
  | 0, k, D => by rw [wd]; split <;> omega
  | r + 1, k, D => by
    have a := wd_b (u := u) (lo := lo) (n := n) (dg := dg) r k D
    have b := wd_b (u := u) (lo := lo) (n := n) (dg := dg) r (k - 1) (D ||| u (n - (r + 1)))
    have e : 2 ^ (r + 1) = 2 ^ r + 2 ^ r := by rw [Nat.pow_succ]; omega
    have p : 0 < 2 ^ r := Nat.two_pow_pos r
    rw [wd]
    split
    · split <;> omega
    · split <;> omega
theorem pw_lt (ok : sq_Ok q) (lo : Nat → Bool) (dg k : Nat) : wd (sq_dogsBy q) lo (q 0 * q 1) dg (q 0 * q 1) k 0 < 2 ^ 26 := by
  have a := wd_b (u := sq_dogsBy q) (lo := lo) (n := q 0 * q 1) (dg := dg) (q 0 * q 1) k 0
  have b : 2 ^ (q 0 * q 1) ≤ 2 ^ 25 := Nat.pow_le_pow_right (by decide) ok.cells.2
  omega
theorem su_count0 (h : pl_U q I) (ok : sq_Ok q) {dg kk : Nat} (hd : dg < 16) (hk : kk ≤ 4) {Q : Int32 → Prop} (k : Q (nI (pw_all q dg kk))) : wp_Placings_countWithout I L R 21 (nI dg) (nI kk) (nI 0) Q := by
  refine su_count h ok hd hk (by omega) ?_
  rw [wd_cong (lo' := fun _ => false) (fun x _ => Nat.zero_testBit x) _ _ _ (Nat.le_refl _)]; exact k
theorem su_countM (h : pl_U q I) (ok : sq_Ok q) {dg kk x : Nat} (hd : dg < 16) (hk : kk ≤ 4) {Q : Int32 → Prop} (k : Q (nI (pw_mis q dg kk x))) : wp_Placings_countWithout I L R 21 (nI dg) (nI kk) (nI (pl_hit q x)) Q := by
  have o := ok.cells
  refine su_count h ok hd hk (zs_31 _ (by omega)) ?_
  have e := wd_cong (u := sq_dogsBy q) (n := q 0 * q 1) (dg := dg) (lo := fun z => (zs_bs (fun y => decide (sq_far (q 0) y x ≤ 1)) (q 0 * q 1)).testBit z) (lo' := fun y => decide (sq_far (q 0) y x ≤ 1)) (fun y hy => by
    rw [zs_bit]; simp [hy]) (q 0 * q 1) kk 0 (Nat.le_refl _)
  rw [e]; exact k
theorem su_countW (h : pl_U q I) (ok : sq_Ok q) {dg kk x : Nat} (hd : dg < 16) (hk : kk ≤ 4) (hx : x < 25) {Q : Int32 → Prop} (k : Q (nI (pw_wo q dg kk x))) : wp_Placings_countWithout I L R 21 (nI dg) (nI kk) (nI (2 ^ x)) Q := by
  have o := ok.cells
  refine su_count h ok hd hk (Nat.lt_of_lt_of_le (Nat.pow_lt_pow_right (by decide) hx) (by decide)) ?_
  rw [wd_cong (lo' := fun y => decide (y = x)) (fun y hy => by
    try dsimp only
    rw [Nat.testBit_two_pow, decide_eq_decide]; exact eq_comm) _ _ _ (Nat.le_refl _)]; exact k
/-- the first of the first m cells that misses the fewest -/
def pw_best (q : Nat → Nat) (dg k : Nat) : Nat → Nat
  | 0 => 0
  | m + 1 => if m = 0 then 0 else if pw_mis q dg k m < pw_mis q dg k (pw_best q dg k m) then m else pw_best q dg k m
theorem pw_best_lt (dg k : Nat) : ∀ m, 0 < m → pw_best q dg k m < m
  | 0, h => by omega
  | m + 1, _ => by
    rw [pw_best]
    split
    · omega
    · have := pw_best_lt dg k m (by omega)
      split <;> omega
theorem su_most (h : sq_U q c d I L) (p : pl_U q I) (ok : sq_Ok q) {dg kk : Nat} (hd : dg < 16) (hk : kk ≤ 4) {Q : Int32 → Prop} (k : Q (if pw_all q dg kk = 0 then nM else nI (pw_best q dg kk (q 0 * q 1)))) : wp_Placings_cellThatHitsMost I L R 21 c (nI dg) (nI kk) Q := by
  have o := ok.cells
  have al := pw_lt ok (fun _ => false) dg kk
  unfold wp_Placings_cellThatHitsMost
  refine su_count0 p ok hd hk ?_
  have al : pw_all q dg kk < 2 ^ 26 := al
  by_cases g0 : pw_all q dg kk = 0
  · rw [if_pos g0] at k
    refine ⟨1, ?_⟩
    simp (disch := omega) only [wl_Placings_cellThatHitsMost_19, p.1, g0, zi_0, zi_1, zi_2, zi_3, zi_4, zi_5, zi_6, zi_7, zi_8, zi_9, zi_10, zi_11, zi_12, zi_13, zi_14, zi_15, zi_16, zi_17, zi_18, zi_19, zi_20, zi_21, zi_22, zi_23, zi_24, zi_25, zi_26, zi_30, zi_31, zi_32, zi_34, zi_38, zi_59, zi_60, zi_61, zi_63, zi_64, zi_80, zi_96, zi_97, zi_99, zi_100, zi_122, zi_255, zi_256, zi_300, zi_398, zi_406, zi_900, zi_1000, zi_1024, zi_1624, zi_1662, zi_2030, zi_2031, zi_2068, zi_2258, zi_9999, zi_48, zi_57, zi_65536, zi_3257, zi_11483, zi_1000000, zi_729, zi_81, zi_m1, nI_add, pk_mul, nI_ltI, nI_leI, nI_eq, nI_clamp, zn_in, zn_sub1lt, zn_M, zn_Ml, zn_Mg, zn_Mle, zn_Mge, zn_sub, Nat.reduceAdd, Nat.reduceMul]
    exact ⟨fun g => absurd g (by omega), fun _ => ⟨fun _ => k, fun g => absurd (Nat.le_refl _) g⟩⟩
  · rw [if_neg g0] at k
    have st := zl_up (P := fun f m => 0 < m → wl_Placings_cellThatHitsMost_19 I L R 21 c (nI dg) (nI kk) Q f (nI (pw_all q dg kk)) (nI (pw_best q dg kk m)) (nI (pw_mis q dg kk (pw_best q dg kk m))) (nI m)) (q 0 * q 1) (fun f _ => by
      simp (disch := omega) only [wl_Placings_cellThatHitsMost_19, p.1, zi_0, zi_1, zi_2, zi_3, zi_4, zi_5, zi_6, zi_7, zi_8, zi_9, zi_10, zi_11, zi_12, zi_13, zi_14, zi_15, zi_16, zi_17, zi_18, zi_19, zi_20, zi_21, zi_22, zi_23, zi_24, zi_25, zi_26, zi_30, zi_31, zi_32, zi_34, zi_38, zi_59, zi_60, zi_61, zi_63, zi_64, zi_80, zi_96, zi_97, zi_99, zi_100, zi_122, zi_255, zi_256, zi_300, zi_398, zi_406, zi_900, zi_1000, zi_1024, zi_1624, zi_1662, zi_2030, zi_2031, zi_2068, zi_2258, zi_9999, zi_48, zi_57, zi_65536, zi_3257, zi_11483, zi_1000000, zi_729, zi_81, zi_m1, nI_add, pk_mul, nI_ltI, nI_leI, nI_eq, nI_clamp, zn_in, zn_sub1lt, zn_M, zn_Ml, zn_Mg, zn_Mle, zn_Mge, zn_sub, Nat.reduceAdd, Nat.reduceMul]
      exact ⟨fun _ => k, fun g => absurd (Nat.le_refl _) g⟩) (fun f m hm ih h0 => by
      have i2 := ih (by omega)
      have bl := pw_best_lt (q := q) dg kk m h0
      have m1 : pw_mis q dg kk m < 2 ^ 26 := pw_lt ok _ dg kk
      have m2 : pw_mis q dg kk (pw_best q dg kk m) < 2 ^ 26 := pw_lt ok _ dg kk
      rw [pw_best, if_neg (by omega)] at i2
      simp (disch := omega) only [wl_Placings_cellThatHitsMost_19, p.1, zi_0, zi_1, zi_2, zi_3, zi_4, zi_5, zi_6, zi_7, zi_8, zi_9, zi_10, zi_11, zi_12, zi_13, zi_14, zi_15, zi_16, zi_17, zi_18, zi_19, zi_20, zi_21, zi_22, zi_23, zi_24, zi_25, zi_26, zi_30, zi_31, zi_32, zi_34, zi_38, zi_59, zi_60, zi_61, zi_63, zi_64, zi_80, zi_96, zi_97, zi_99, zi_100, zi_122, zi_255, zi_256, zi_300, zi_398, zi_406, zi_900, zi_1000, zi_1024, zi_1624, zi_1662, zi_2030, zi_2031, zi_2068, zi_2258, zi_9999, zi_48, zi_57, zi_65536, zi_3257, zi_11483, zi_1000000, zi_729, zi_81, zi_m1, nI_add, pk_mul, nI_ltI, nI_leI, nI_eq, nI_clamp, zn_in, zn_sub1lt, zn_M, zn_Ml, zn_Mg, zn_Mle, zn_Mge, zn_sub, Nat.reduceAdd, Nat.reduceMul]
      refine ⟨fun g => absurd g (by omega), fun _ => ⟨fun g => absurd g (by omega), fun _ => su_hitC h p ok (by omega) (su_countM p ok hd hk ?_)⟩⟩
      simp (disch := omega) only [wb_Placings_cellThatHitsMost_61, zi_0, zi_1, zi_2, zi_3, zi_4, zi_5, zi_6, zi_7, zi_8, zi_9, zi_10, zi_11, zi_12, zi_13, zi_14, zi_15, zi_16, zi_17, zi_18, zi_19, zi_20, zi_21, zi_22, zi_23, zi_24, zi_25, zi_26, zi_30, zi_31, zi_32, zi_34, zi_38, zi_59, zi_60, zi_61, zi_63, zi_64, zi_80, zi_96, zi_97, zi_99, zi_100, zi_122, zi_255, zi_256, zi_300, zi_398, zi_406, zi_900, zi_1000, zi_1024, zi_1624, zi_1662, zi_2030, zi_2031, zi_2068, zi_2258, zi_9999, zi_48, zi_57, zi_65536, zi_3257, zi_11483, zi_1000000, zi_729, zi_81, zi_m1, nI_add, pk_mul, nI_ltI, nI_leI, nI_eq, nI_clamp, zn_in, zn_sub1lt, zn_M, zn_Ml, zn_Mg, zn_Mle, zn_Mge, zn_sub, Nat.reduceAdd, Nat.reduceMul, forall_eq, true_imp_iff, false_imp_iff, and_true, true_and, not_true_eq_false, not_false_eq_true, reduceCtorEq, imp_self, eq_self, false_and, and_false, implies_true]
      refine ⟨fun g => ?_, fun g => ?_⟩
      · rw [if_neg (by omega)] at i2; exact i2
      · rw [if_pos (by omega)] at i2; exact i2) 1 (by omega)
    obtain ⟨z, hz⟩ := st
    refine ⟨z + 1, ?_⟩
    have m1 : pw_mis q dg kk 0 < 2 ^ 26 := pw_lt ok _ dg kk
    simp (disch := omega) only [wl_Placings_cellThatHitsMost_19, p.1, zi_0, zi_1, zi_2, zi_3, zi_4, zi_5, zi_6, zi_7, zi_8, zi_9, zi_10, zi_11, zi_12, zi_13, zi_14, zi_15, zi_16, zi_17, zi_18, zi_19, zi_20, zi_21, zi_22, zi_23, zi_24, zi_25, zi_26, zi_30, zi_31, zi_32, zi_34, zi_38, zi_59, zi_60, zi_61, zi_63, zi_64, zi_80, zi_96, zi_97, zi_99, zi_100, zi_122, zi_255, zi_256, zi_300, zi_398, zi_406, zi_900, zi_1000, zi_1024, zi_1624, zi_1662, zi_2030, zi_2031, zi_2068, zi_2258, zi_9999, zi_48, zi_57, zi_65536, zi_3257, zi_11483, zi_1000000, zi_729, zi_81, zi_m1, nI_add, pk_mul, nI_ltI, nI_leI, nI_eq, nI_clamp, zn_in, zn_sub1lt, zn_M, zn_Ml, zn_Mg, zn_Mle, zn_Mge, zn_sub, Nat.reduceAdd, Nat.reduceMul]
    refine ⟨fun g => absurd g (by omega), fun _ => ⟨fun g => absurd g (by omega), fun _ => su_hitC h p ok (by omega) (su_countM p ok hd hk ?_)⟩⟩
    refine ⟨fun _ => ?_, fun g => absurd trivial g⟩
    exact hz (by omega)
theorem su_fewC (p : pl_U q I) (ok : sq_Ok q) {dg : Nat} (hd : dg < 16) {Q : Int32 → am_TI → Prop} (k : ∀ I1, (∀ r, r ≠ 23 → I1 r = I r) → Q (if ex_s (sq_dogsBy q) dg (q 0 * q 1) 16 dg < 1000 then nI (ex_s (sq_dogsBy q) dg (q 0 * q 1) 16 dg) else nM) I1) : wp_Placings_fewestCells I L R 21 (nI dg) Q := by
  have o := ok.cells
  have hu : ∀ x, sq_dogsBy q x < 16 := fun x => sq_dogsBy_lt ok x
  simp (disch := omega) only [wp_Placings_fewestCells, zi_0, zi_1, zi_2, zi_3, zi_4, zi_5, zi_6, zi_7, zi_8, zi_9, zi_10, zi_11, zi_12, zi_13, zi_14, zi_15, zi_16, zi_17, zi_18, zi_19, zi_20, zi_21, zi_22, zi_23, zi_24, zi_25, zi_26, zi_30, zi_31, zi_32, zi_34, zi_38, zi_59, zi_60, zi_61, zi_63, zi_64, zi_80, zi_96, zi_97, zi_99, zi_100, zi_122, zi_255, zi_256, zi_300, zi_398, zi_406, zi_900, zi_1000, zi_1024, zi_1624, zi_1662, zi_2030, zi_2031, zi_2068, zi_2258, zi_9999, zi_48, zi_57, zi_65536, zi_3257, zi_11483, zi_1000000, zi_729, zi_81, zi_m1, nI_add, pk_mul, nI_ltI, nI_leI, nI_eq, nI_clamp, zn_in, zn_sub1lt, zn_M, zn_Ml, zn_Mg, zn_Mle, zn_Mge, zn_sub, Nat.reduceAdd, Nat.reduceMul]
  refine su_fillI (by omega) (fun I1 a1 b1 I2 hI2 => ?_)
  subst hI2
  refine (zl_up (P := fun f s => ∀ I3, (∀ D, D < 16 → I3 23 D = nI (ex_s (sq_dogsBy q) dg (q 0 * q 1) s D)) → (∀ r, r ≠ 23 → I3 r = I r) → wl_Placings_fewestCells_19 L R 21 (nI dg) Q f I3 (nI s)) 16 (fun f I3 t e => ?_) (fun f s hs ih I3 t e => ?_) 0 (by omega)).elim fun z hz => ⟨z, hz _ (fun D hD => ?_) (fun r hr => ?_)⟩
  · have jl := (ex_s_J (dg := dg) (n := q 0 * q 1) hu 16 (Nat.le_refl _) dg hd).1
    have k2 := k I3 e
    simp (disch := omega) only [wl_Placings_fewestCells_19, t dg hd, zi_0, zi_1, zi_2, zi_3, zi_4, zi_5, zi_6, zi_7, zi_8, zi_9, zi_10, zi_11, zi_12, zi_13, zi_14, zi_15, zi_16, zi_17, zi_18, zi_19, zi_20, zi_21, zi_22, zi_23, zi_24, zi_25, zi_26, zi_30, zi_31, zi_32, zi_34, zi_38, zi_59, zi_60, zi_61, zi_63, zi_64, zi_80, zi_96, zi_97, zi_99, zi_100, zi_122, zi_255, zi_256, zi_300, zi_398, zi_406, zi_900, zi_1000, zi_1024, zi_1624, zi_1662, zi_2030, zi_2031, zi_2068, zi_2258, zi_9999, zi_48, zi_57, zi_65536, zi_3257, zi_11483, zi_1000000, zi_729, zi_81, zi_m1, nI_add, pk_mul, nI_ltI, nI_leI, nI_eq, nI_clamp, zn_in, zn_sub1lt, zn_M, zn_Ml, zn_Mg, zn_Mle, zn_Mge, zn_sub, Nat.reduceAdd, Nat.reduceMul]
    refine ⟨fun _ => ⟨hd, fun g => ⟨hd, ?_⟩, fun g => ?_⟩, fun g => absurd (Nat.le_refl _) g⟩
    · rw [if_pos g] at k2; exact k2
    · rw [if_neg g] at k2; exact k2
  · rw [wl_Placings_fewestCells_19]
    simp (disch := omega) only [zi_0, zi_1, zi_2, zi_3, zi_4, zi_5, zi_6, zi_7, zi_8, zi_9, zi_10, zi_11, zi_12, zi_13, zi_14, zi_15, zi_16, zi_17, zi_18, zi_19, zi_20, zi_21, zi_22, zi_23, zi_24, zi_25, zi_26, zi_30, zi_31, zi_32, zi_34, zi_38, zi_59, zi_60, zi_61, zi_63, zi_64, zi_80, zi_96, zi_97, zi_99, zi_100, zi_122, zi_255, zi_256, zi_300, zi_398, zi_406, zi_900, zi_1000, zi_1024, zi_1624, zi_1662, zi_2030, zi_2031, zi_2068, zi_2258, zi_9999, zi_48, zi_57, zi_65536, zi_3257, zi_11483, zi_1000000, zi_729, zi_81, zi_m1, nI_add, pk_mul, nI_ltI, nI_leI, nI_eq, nI_clamp, zn_in, zn_sub1lt, zn_M, zn_Ml, zn_Mg, zn_Mle, zn_Mge, zn_sub, Nat.reduceAdd, Nat.reduceMul]
    refine ⟨fun g => absurd g (by omega), fun _ => ?_⟩
    refine (zl_up (P := fun f2 x => ∀ I4, (∀ D, D < 16 → I4 23 D = nI (ex_c (sq_dogsBy q) dg (ex_s (sq_dogsBy q) dg (q 0 * q 1) s) s x D)) → (∀ r, r ≠ 23 → I4 r = I r) → wl_Placings_fewestCells_27 L R 21 (nI dg) Q (wl_Placings_fewestCells_19 L R 21 (nI dg) Q f) f2 I4 (nI s) (nI x)) (q 0 * q 1) (fun f2 I4 t4 e4 => ?_) (fun f2 x hx ih2 I4 t4 e4 => ?_) 0 (by omega)).elim fun z hz => ⟨z, hz I3 t e⟩
    · have p1 : I4 21 2 = nI (q 0 * q 1) := by rw [e4 21 (by omega)]; exact p.1
      simp (disch := omega) only [wl_Placings_fewestCells_27, p1, zi_0, zi_1, zi_2, zi_3, zi_4, zi_5, zi_6, zi_7, zi_8, zi_9, zi_10, zi_11, zi_12, zi_13, zi_14, zi_15, zi_16, zi_17, zi_18, zi_19, zi_20, zi_21, zi_22, zi_23, zi_24, zi_25, zi_26, zi_30, zi_31, zi_32, zi_34, zi_38, zi_59, zi_60, zi_61, zi_63, zi_64, zi_80, zi_96, zi_97, zi_99, zi_100, zi_122, zi_255, zi_256, zi_300, zi_398, zi_406, zi_900, zi_1000, zi_1024, zi_1624, zi_1662, zi_2030, zi_2031, zi_2068, zi_2258, zi_9999, zi_48, zi_57, zi_65536, zi_3257, zi_11483, zi_1000000, zi_729, zi_81, zi_m1, nI_add, pk_mul, nI_ltI, nI_leI, nI_eq, nI_clamp, zn_in, zn_sub1lt, zn_M, zn_Ml, zn_Mg, zn_Mle, zn_Mge, zn_sub, Nat.reduceAdd, Nat.reduceMul]
      exact ⟨fun _ => ih I4 t4 e4, fun g => absurd (Nat.le_refl _) g⟩
    · have p1 : I4 21 2 = nI (q 0 * q 1) := by rw [e4 21 (by omega)]; exact p.1
      have p2 : I4 22 x = nI (sq_dogsBy q x) := by rw [e4 22 (by omega)]; exact p.2 x hx
      have j := ex_c_J (dg := dg) hu (show s < 16 by omega) (ex_s_J (dg := dg) (n := q 0 * q 1) hu s (by omega)) x (by omega)
      have ol := or16 (show s < 16 by omega) (hu x)
      have j1 := (j s (by omega)).1
      have j2 := (j _ ol).1
      have zl := zan_le (sq_dogsBy q x) dg
      have ux := hu x
      rw [ex_c] at ih2
      simp (disch := omega) only [wl_Placings_fewestCells_27, p1, p2, zn_an, ze_or, t4 s (by omega), t4 _ ol, zn_min, zi_0, zi_1, zi_2, zi_3, zi_4, zi_5, zi_6, zi_7, zi_8, zi_9, zi_10, zi_11, zi_12, zi_13, zi_14, zi_15, zi_16, zi_17, zi_18, zi_19, zi_20, zi_21, zi_22, zi_23, zi_24, zi_25, zi_26, zi_30, zi_31, zi_32, zi_34, zi_38, zi_59, zi_60, zi_61, zi_63, zi_64, zi_80, zi_96, zi_97, zi_99, zi_100, zi_122, zi_255, zi_256, zi_300, zi_398, zi_406, zi_900, zi_1000, zi_1024, zi_1624, zi_1662, zi_2030, zi_2031, zi_2068, zi_2258, zi_9999, zi_48, zi_57, zi_65536, zi_3257, zi_11483, zi_1000000, zi_729, zi_81, zi_m1, nI_add, pk_mul, nI_ltI, nI_leI, nI_eq, nI_clamp, zn_in, zn_sub1lt, zn_M, zn_Ml, zn_Mg, zn_Mle, zn_Mge, zn_sub, Nat.reduceAdd, Nat.reduceMul]
      refine ⟨fun g => absurd g (by omega), fun _ => ⟨by omega, by omega, fun g => ⟨by omega, by omega, by omega, fun I5 h5 => ?_⟩, fun g => ?_⟩⟩
      · subst h5
        rw [if_pos g] at ih2
        refine ih2 _ (fun D hD => ?_) (fun r hr => by rw [am_u2_row _ _ _ _ hr]; exact e4 r hr)
        unfold am_u2 zu
        by_cases g2 : D = s ||| sq_dogsBy q x
        · rw [if_pos ⟨rfl, g2⟩, if_pos g2]
        · rw [if_neg (fun z => g2 z.2), if_neg g2]; exact t4 D hD
      · rw [if_neg g] at ih2; exact ih2 I4 t4 e4
  · rw [show ex_s (sq_dogsBy q) dg (q 0 * q 1) 0 D = if D = 0 then 0 else 1000 from rfl]
    unfold am_u2
    by_cases g : D = 0
    · rw [if_pos ⟨rfl, g⟩, if_pos g]
    · rw [if_neg (fun z => g z.2), if_neg g]; exact a1 D hD
  · rw [am_u2_row _ _ _ _ hr]
    funext k
    exact b1 r k (by omega)
/-! fractions -/
theorem zgcd (a b : Nat) : Nat.gcd a b = Nat.gcd b (a % b) := by rw [Nat.gcd_comm a b, Nat.gcd_rec b a, Nat.gcd_comm]
theorem su_gcd {Q : Int64 → Prop} : ∀ j a b i, b < 2 ^ j → j ≤ 60 → a < 2 ^ 62 → i + 2 * j + 2 ≤ 200 → Q (lN (Nat.gcd a b)) → ∃ z, wl_U_commonDivisor_3 I L R Q z (lN a) (lN b) (nI i) := by
  have e200 : (200 : Int32) = nI 200 := rfl
  have pw : ∀ j, j ≤ 60 → 2 ^ j ≤ 2 ^ 60 := fun j hj => Nat.pow_le_pow_right (by decide) hj
  have fin : ∀ a i, i < 200 → Q (lN a) → ∃ z, wl_U_commonDivisor_3 I L R Q z (lN a) (lN 0) (nI i) := by
    intro a i hi k
    refine ⟨1, ?_⟩
    rw [wl_U_commonDivisor_3]
    exact ⟨fun _ => k, fun _ => ⟨fun _ => k, fun g => absurd rfl g⟩⟩
  have step : ∀ a b i, 0 < b → b < 2 ^ 62 → a < 2 ^ 62 → i < 200 → (∃ z, wl_U_commonDivisor_3 I L R Q z (lN b) (lN (a % b)) (nI (i + 1))) → ∃ z, wl_U_commonDivisor_3 I L R Q z (lN a) (lN b) (nI i) := by
    intro a b i h0 hb ha hi ⟨z, hz⟩
    refine ⟨z + 1, ?_⟩
    rw [wl_U_commonDivisor_3]
    have nb : ¬ lN b = 0 := fun e => by
      have := (zk_eq (show b < 2 ^ 63 by omega) (show 0 < 2 ^ 63 by decide)).mp e
      omega
    dsimp only
    rw [e200, nI_leI (by omega) (by omega), pk_lRem (by omega) h0 (by omega)]
    refine ⟨fun g => absurd g (by omega), fun _ => ⟨fun g => absurd g nb, fun _ => ⟨nb, ?_⟩⟩⟩
    rw [show nI i + 1 = nI (i + 1) from nI_add i 1]
    exact hz
  intro j
  induction j with
  | zero =>
    intro a b i hb _ ha hi k
    have : b = 0 := by simpa using hb
    subst this
    rw [Nat.gcd_zero_right] at k
    exact fin a i (by omega) k
  | succ j ih =>
    intro a b i hb hj ha hi k
    have p1 := pw (j + 1) hj
    rcases Nat.eq_zero_or_pos b with rfl | h0
    · rw [Nat.gcd_zero_right] at k
      exact fin a i (by omega) k
    · refine step a b i h0 (by omega) ha (by omega) ?_
      rw [zgcd] at k
      have ml := Nat.mod_lt a h0
      rcases Nat.eq_zero_or_pos (a % b) with e | h1
      · rw [e, Nat.gcd_zero_right] at k
        rw [e]
        exact fin b (i + 1) (by omega) k
      · refine step b (a % b) (i + 1) h1 (by omega) (by omega) (by omega) ?_
        rw [zgcd] at k
        have m2 := Nat.mod_lt b h1
        have dm := Nat.div_add_mod b (a % b)
        have dq : 1 ≤ b / (a % b) := (Nat.one_le_div_iff h1).mpr (by omega)
        have m3 : a % b ≤ a % b * (b / (a % b)) := Nat.le_mul_of_pos_right _ dq
        rw [Nat.pow_succ] at hb
        exact ih (a % b) (b % (a % b)) (i + 1 + 1) (by omega) (by omega) (by omega) (by omega) k
theorem sm_gcd {x y : Int64} {Q : Bool → am_TI → am_TL → Prop} : ∀ n a b, b ≤ n → a < 2 ^ 62 → b < 2 ^ 62 → 0 < Nat.gcd a b → Nat.gcd a b < 2 ^ 62 → Q true (am_u2 I 103 2 (nI 0)) (am_u2 (am_u2 L 103 3 (x / lN (Nat.gcd a b))) 103 4 (y / lN (Nat.gcd a b))) → ∃ z, wl_M_tellsBy_6 R 103 x y Q z I L (lN a) (lN b) := by
  intro n
  induction n with
  | zero =>
    intro a b hb ha hb2 g0 g1 k
    have : b = 0 := Nat.le_zero.mp hb
    subst this
    rw [Nat.gcd_zero_right] at k g0
    refine ⟨1, ?_⟩
    rw [wl_M_tellsBy_6]
    have nb : ¬ lN a = 0 := fun e => by
      have := (zk_eq (show a < 2 ^ 63 by omega) (show 0 < 2 ^ 63 by decide)).mp e
      omega
    refine ⟨fun _ => ⟨nb, fun L1 h1 => ⟨nb, fun L2 h2 => ?_⟩⟩, fun g => absurd rfl g⟩
    subst h1 h2
    simp (disch := omega) only [wp_M_is, zi_0, zi_1, zi_2, zi_3, zi_4, zi_5, zi_6, zi_7, zi_8, zi_9, zi_10, zi_11, zi_12, zi_13, zi_14, zi_15, zi_16, zi_17, zi_18, zi_19, zi_20, zi_21, zi_22, zi_23, zi_24, zi_25, zi_26, zi_30, zi_31, zi_32, zi_34, zi_38, zi_59, zi_60, zi_61, zi_63, zi_64, zi_80, zi_96, zi_97, zi_99, zi_100, zi_122, zi_255, zi_256, zi_300, zi_398, zi_406, zi_900, zi_1000, zi_1024, zi_1624, zi_1662, zi_2030, zi_2031, zi_2068, zi_2258, zi_9999, zi_48, zi_57, zi_65536, zi_3257, zi_11483, zi_1000000, zi_729, zi_81, zi_m1, nI_add, pk_mul, nI_ltI, nI_leI, nI_eq, nI_clamp, zn_in, zn_sub1lt, zn_M, zn_Ml, zn_Mg, zn_Mle, zn_Mge, zn_sub, Nat.reduceAdd, Nat.reduceMul, forall_eq, true_imp_iff, false_imp_iff, and_true, true_and, not_true_eq_false, not_false_eq_true, reduceCtorEq, imp_self, eq_self, false_and, and_false, implies_true]
    exact k
  | succ n ih =>
    intro a b hb ha hb2 g0 g1 k
    rcases Nat.eq_zero_or_pos b with rfl | h0
    · rw [Nat.gcd_zero_right] at k g0
      refine ⟨1, ?_⟩
      rw [wl_M_tellsBy_6]
      have nb : ¬ lN a = 0 := fun e => by
        have := (zk_eq (show a < 2 ^ 63 by omega) (show 0 < 2 ^ 63 by decide)).mp e
        omega
      refine ⟨fun _ => ⟨nb, fun L1 h1 => ⟨nb, fun L2 h2 => ?_⟩⟩, fun g => absurd rfl g⟩
      subst h1 h2
      simp (disch := omega) only [wp_M_is, zi_0, zi_1, zi_2, zi_3, zi_4, zi_5, zi_6, zi_7, zi_8, zi_9, zi_10, zi_11, zi_12, zi_13, zi_14, zi_15, zi_16, zi_17, zi_18, zi_19, zi_20, zi_21, zi_22, zi_23, zi_24, zi_25, zi_26, zi_30, zi_31, zi_32, zi_34, zi_38, zi_59, zi_60, zi_61, zi_63, zi_64, zi_80, zi_96, zi_97, zi_99, zi_100, zi_122, zi_255, zi_256, zi_300, zi_398, zi_406, zi_900, zi_1000, zi_1024, zi_1624, zi_1662, zi_2030, zi_2031, zi_2068, zi_2258, zi_9999, zi_48, zi_57, zi_65536, zi_3257, zi_11483, zi_1000000, zi_729, zi_81, zi_m1, nI_add, pk_mul, nI_ltI, nI_leI, nI_eq, nI_clamp, zn_in, zn_sub1lt, zn_M, zn_Ml, zn_Mg, zn_Mle, zn_Mge, zn_sub, Nat.reduceAdd, Nat.reduceMul, forall_eq, true_imp_iff, false_imp_iff, and_true, true_and, not_true_eq_false, not_false_eq_true, reduceCtorEq, imp_self, eq_self, false_and, and_false, implies_true]
      exact k
    · have ml := Nat.mod_lt a h0
      rw [zgcd] at k g0 g1
      obtain ⟨z, hz⟩ := ih b (a % b) (by omega) hb2 (by omega) g0 g1 k
      refine ⟨z + 1, ?_⟩
      rw [wl_M_tellsBy_6]
      have nb : ¬ lN b = 0 := fun e => by
        have := (zk_eq (show b < 2 ^ 63 by omega) (show 0 < 2 ^ 63 by decide)).mp e
        omega
      dsimp only
      rw [pk_lRem (by omega) h0 (by omega)]
      exact ⟨fun g => absurd g nb, fun _ => ⟨nb, hz⟩⟩
theorem su_tellF {x y : Nat} (hx : x < 2 ^ 40) (hy : y < 2 ^ 40) (h0 : 0 < y) {Q : am_TL → Prop} (k : Q (am_u2 (am_u2 L 0 16 (lN x / lN (Nat.gcd x y))) 0 17 (lN y / lN (Nat.gcd x y)))) : wp_U_tellFraction I L R 0 (lN x) (lN y) Q := by
  unfold wp_U_tellFraction wp_U_commonDivisor
  have g0 : 0 < Nat.gcd x y := Nat.gcd_pos_of_pos_right _ h0
  have g1 : Nat.gcd x y ≤ y := Nat.gcd_le_right _ h0
  refine su_gcd 40 x y 0 (by omega) (by omega) (by omega) (by omega) ?_
  have nb : ¬ lN (Nat.gcd x y) = 0 := fun e => by
    have := (zk_eq (show Nat.gcd x y < 2 ^ 63 by omega) (show 0 < 2 ^ 63 by decide)).mp e
    omega
  have np : ¬ lN (Nat.gcd x y) ≤ 0 := fun e => by
    have := (zk_le (show Nat.gcd x y < 2 ^ 63 by omega) (show 0 < 2 ^ 63 by decide)).mp e
    omega
  refine ⟨fun g => absurd g np, fun _ => ⟨nb, fun L1 h1 => ⟨nb, fun L2 h2 => ?_⟩⟩⟩
  subst h1 h2
  exact k
theorem sm_tellF {x y : Nat} (hx : x < 2 ^ 40) (hy : y < 2 ^ 40) (h0 : 0 < y) {Q : Bool → am_TI → am_TL → Prop} (k : Q true (am_u2 I 103 2 (nI 0)) (am_u2 (am_u2 L 103 3 (lN x / lN (Nat.gcd x y))) 103 4 (lN y / lN (Nat.gcd x y)))) : wp_M_tellsBy I L R 103 (lN x) (lN y) Q := by
  have g0 : 0 < Nat.gcd x y := Nat.gcd_pos_of_pos_right _ h0
  have g1 : Nat.gcd x y ≤ y := Nat.gcd_le_right _ h0
  exact sm_gcd y x y (Nat.le_refl _) (by omega) (by omega) g0 (by omega) k
end
