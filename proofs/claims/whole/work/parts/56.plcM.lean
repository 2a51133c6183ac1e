/-! placings: the reference's side -/
theorem am_bt : am_b true = nI 1 := rfl
theorem am_bf : am_b false = nI 0 := rfl
section
variable {q : Nat → Nat} {c d : Nat} {I I1 I2 : am_TI} {L L1 L2 : am_TL} {R : am_TR}
def pk_at (x : Nat → Nat) (y i : Nat) : Nat := if x i = y then 1 else 0
def pk_nr (q x : Nat → Nat) (y i : Nat) : Nat := if sq_far (q 0) (x i) y ≤ 1 then 1 else 0
theorem sm_counts (h : sq_M q 0 I L) (ok : sq_Ok q) {k : Nat} (hk : k ≤ 4) {x : Nat → Nat} (hx : ∀ i, i < k → x i < 25) (ha : ∀ i, i < k → I 114 i = nI (x i)) {Q : am_TI → Prop} (kk : ∀ I1, I1 103 33 = I 103 33 + 1 → (∀ y, y < (q 0 * q 1) → I1 116 y = I 116 y + nI (zsum (pk_at x y) k) ∧ I1 117 y = I 117 y + nI (if zsum (pk_nr q x y) k = 0 then 0 else 1)) → (∀ r j, ¬ (r = 103 ∧ j = 33) → r ≠ 116 → r ≠ 117 → I1 r j = I r j) → Q I1) : wp_M_counts I L R 103 (nI k) Q := by
  have o := ok.cells
  intro I0 hI0
  have f0 : ∀ r j, ¬ (r = 103 ∧ j = 33) → I0 r j = I r j := fun r j g => by rw [hI0]; unfold am_u2; rw [if_neg g]
  have e0 : I0 103 33 = I 103 33 + 1 := by rw [hI0, am_u2_at]
  clear hI0
  refine (zl_up (P := fun f m => ∀ I1, I1 103 33 = I 103 33 + 1 → (∀ y, y < m → I1 116 y = I 116 y + nI (zsum (pk_at x y) k) ∧ I1 117 y = I 117 y + nI (if zsum (pk_nr q x y) k = 0 then 0 else 1)) → (∀ y, m ≤ y → I1 116 y = I 116 y ∧ I1 117 y = I 117 y) → (∀ r j, ¬ (r = 103 ∧ j = 33) → r ≠ 116 → r ≠ 117 → I1 r j = I r j) → wl_M_counts_12 L R 103 (nI k) Q f I1 (nI m)) (q 0 * q 1) (fun f I1 a b e g => ?_) (fun f m hm ih I1 a b e g => ?_) 0 (by omega)).elim fun z hz => ⟨z, hz I0 e0 (fun y hy => absurd hy (by omega)) (fun y _ => ⟨f0 116 y (by omega), f0 117 y (by omega)⟩) (fun r j g _ _ => f0 r j g)⟩
  · have h1 : sq_M q 0 I1 L := h.keep (fun k _ _ => g 104 k (by omega) (by omega) (by omega)) rfl ok.2.2.2.2.1
    rw [wl_M_counts_12]
    refine sm_cells h1 ?_
    simp (disch := omega) only [zi_0, zi_1, zi_2, zi_3, zi_4, zi_5, zi_6, zi_7, zi_8, zi_9, zi_10, zi_11, zi_12, zi_13, zi_14, zi_15, zi_16, zi_17, zi_18, zi_19, zi_20, zi_21, zi_22, zi_23, zi_24, zi_25, zi_26, zi_30, zi_31, zi_32, zi_34, zi_38, zi_59, zi_60, zi_61, zi_63, zi_64, zi_80, zi_96, zi_97, zi_99, zi_100, zi_122, zi_255, zi_256, zi_300, zi_398, zi_406, zi_900, zi_1000, zi_1024, zi_1624, zi_1662, zi_2030, zi_2031, zi_2068, zi_2258, zi_9999, zi_48, zi_57, zi_65536, zi_3257, zi_11483, zi_1000000, zi_729, zi_81, zi_m1, nI_add, pk_mul, nI_ltI, nI_leI, nI_eq, nI_clamp, zn_in, zn_sub1lt, zn_M, zn_Ml, zn_Mg, zn_Mle, zn_Mge, zn_sub, Nat.reduceAdd, Nat.reduceMul]
    exact ⟨fun _ => kk I1 a b g, fun g => absurd (Nat.le_refl _) g⟩
  · have h1 : sq_M q 0 I1 L := h.keep (fun k _ _ => g 104 k (by omega) (by omega) (by omega)) rfl ok.2.2.2.2.1
    rw [wl_M_counts_12]
    refine sm_cells h1 ?_
    simp (disch := omega) only [zi_0, zi_1, zi_2, zi_3, zi_4, zi_5, zi_6, zi_7, zi_8, zi_9, zi_10, zi_11, zi_12, zi_13, zi_14, zi_15, zi_16, zi_17, zi_18, zi_19, zi_20, zi_21, zi_22, zi_23, zi_24, zi_25, zi_26, zi_30, zi_31, zi_32, zi_34, zi_38, zi_59, zi_60, zi_61, zi_63, zi_64, zi_80, zi_96, zi_97, zi_99, zi_100, zi_122, zi_255, zi_256, zi_300, zi_398, zi_406, zi_900, zi_1000, zi_1024, zi_1624, zi_1662, zi_2030, zi_2031, zi_2068, zi_2258, zi_9999, zi_48, zi_57, zi_65536, zi_3257, zi_11483, zi_1000000, zi_729, zi_81, zi_m1, nI_add, pk_mul, nI_ltI, nI_leI, nI_eq, nI_clamp, zn_in, zn_sub1lt, zn_M, zn_Ml, zn_Mg, zn_Mle, zn_Mge, zn_sub, Nat.reduceAdd, Nat.reduceMul]
    refine ⟨fun g => absurd g (by omega), fun _ => ?_⟩
    refine (zl_up (P := fun f2 i => ∀ I2, I2 116 m = I 116 m + nI (zsum (pk_at x m) i) → (∀ r j, ¬ (r = 116 ∧ j = m) → I2 r j = I1 r j) → wl_M_counts_26 L R 103 (nI k) Q (wl_M_counts_12 L R 103 (nI k) Q f) f2 I2 (nI m) (nI (zsum (pk_nr q x m) i)) (nI i)) k (fun f2 I2 a2 b2 => ?_) (fun f2 i hi ih2 I2 a2 b2 => ?_) 0 (by omega)).elim fun z hz => ⟨z, hz I1 (by rw [(e m (by omega)).1, zsum]; exact (Int32.add_zero _).symm) (fun _ _ _ => rfl)⟩
    · have nl : zsum (pk_nr q x m) k ≤ k := zsum_le1 (fun i => by unfold pk_nr; split <;> omega) k
      have e7 : I2 117 m = I 117 m := by rw [b2 117 m (by omega)]; exact (e m (by omega)).2
      have fin : ∀ v, v = nI (if zsum (pk_nr q x m) k = 0 then 0 else 1) → wl_M_counts_12 L R 103 (nI k) Q f (am_u2 I2 117 m (I2 117 m + v)) (nI (m + 1)) := by
        intro v hv
        refine ih _ ?_ (fun y hy => ?_) (fun y hy => ?_) (fun r j g1 g2 g3 => ?_)
        · rw [am_u2o (by omega), b2 103 33 (by omega)]; exact a
        · rw [am_u2o (by omega)]
          by_cases ey : y = m
          · subst ey
            rw [am_u2_at, a2, e7, hv]; exact ⟨rfl, rfl⟩
          · rw [am_u2_ne _ _ _ _ ey, b2 116 y (by omega), b2 117 y (by omega)]; exact b y (by omega)
        · rw [am_u2o (by omega), am_u2_ne _ _ _ _ (by omega), b2 116 y (by omega), b2 117 y (by omega)]; exact e y (by omega)
        · rw [am_u2o g3, b2 r j (by omega)]; exact g r j g1 g2 g3
      rw [wl_M_counts_26]
      simp (disch := omega) only [zi_0, zi_1, zi_2, zi_3, zi_4, zi_5, zi_6, zi_7, zi_8, zi_9, zi_10, zi_11, zi_12, zi_13, zi_14, zi_15, zi_16, zi_17, zi_18, zi_19, zi_20, zi_21, zi_22, zi_23, zi_24, zi_25, zi_26, zi_30, zi_31, zi_32, zi_34, zi_38, zi_59, zi_60, zi_61, zi_63, zi_64, zi_80, zi_96, zi_97, zi_99, zi_100, zi_122, zi_255, zi_256, zi_300, zi_398, zi_406, zi_900, zi_1000, zi_1024, zi_1624, zi_1662, zi_2030, zi_2031, zi_2068, zi_2258, zi_9999, zi_48, zi_57, zi_65536, zi_3257, zi_11483, zi_1000000, zi_729, zi_81, zi_m1, nI_add, pk_mul, nI_ltI, nI_leI, nI_eq, nI_clamp, zn_in, zn_sub1lt, zn_M, zn_Ml, zn_Mg, zn_Mle, zn_Mge, zn_sub, Nat.reduceAdd, Nat.reduceMul]
      refine ⟨fun _ => ⟨by omega, fun g => ⟨by omega, fun I3 h3 => ?_⟩, fun g => ⟨by omega, fun I3 h3 => ?_⟩⟩, fun g => absurd (Nat.le_refl _) g⟩
      · rw [h3]; exact fin _ (by rw [if_pos (by omega)])
      · rw [h3]; exact fin _ (by rw [if_neg (by omega)])
    · have e4 : I2 114 i = nI (x i) := by rw [b2 114 i (by omega), g 114 i (by omega) (by omega) (by omega)]; exact ha i hi
      have x25 := hx i hi
      have f50 := ok.far50 x25 (show m < 25 by omega)
      rw [zsum, zsum] at ih2
      have fin : ∀ b : Bool, am_b b = nI (pk_at x m i) → wb_M_counts_55 L R 103 (nI k) Q (wl_M_counts_12 L R 103 (nI k) Q f) (wl_M_counts_26 L R 103 (nI k) Q (wl_M_counts_12 L R 103 (nI k) Q f) f2) I2 (nI m) (nI (zsum (pk_nr q x m) i)) (nI i) 116 (nI m) (I2 116 m) b := by
        intro bb hb
        simp (disch := omega) only [wb_M_counts_55, hb, am_u2o, e4, zi_0, zi_1, zi_2, zi_3, zi_4, zi_5, zi_6, zi_7, zi_8, zi_9, zi_10, zi_11, zi_12, zi_13, zi_14, zi_15, zi_16, zi_17, zi_18, zi_19, zi_20, zi_21, zi_22, zi_23, zi_24, zi_25, zi_26, zi_30, zi_31, zi_32, zi_34, zi_38, zi_59, zi_60, zi_61, zi_63, zi_64, zi_80, zi_96, zi_97, zi_99, zi_100, zi_122, zi_255, zi_256, zi_300, zi_398, zi_406, zi_900, zi_1000, zi_1024, zi_1624, zi_1662, zi_2030, zi_2031, zi_2068, zi_2258, zi_9999, zi_48, zi_57, zi_65536, zi_3257, zi_11483, zi_1000000, zi_729, zi_81, zi_m1, nI_add, pk_mul, nI_ltI, nI_leI, nI_eq, nI_clamp, zn_in, zn_sub1lt, zn_M, zn_Ml, zn_Mg, zn_Mle, zn_Mge, zn_sub, Nat.reduceAdd, Nat.reduceMul]
        refine ⟨by omega, fun I3 h3 => ?_⟩
        have h3' : sq_M q 0 I3 L := h1.keep (fun k _ _ => by rw [h3, am_u2o (by omega)]; exact b2 104 k (by omega)) rfl ok.2.2.2.2.1
        have e43 : I3 114 i = nI (x i) := by rw [h3, am_u2o (by omega)]; exact e4
        refine ⟨by omega, ?_⟩
        rw [e43]
        refine sm_far h3' ok x25 (by omega) ?_
        have next : ∀ w, w = pk_nr q x m i → wl_M_counts_26 L R 103 (nI k) Q (wl_M_counts_12 L R 103 (nI k) Q f) f2 I3 (nI m) (nI (zsum (pk_nr q x m) i + w)) (nI (i + 1)) := by
          intro w hw
          subst hw
          refine ih2 _ ?_ (fun r j g => ?_)
          · rw [h3, am_u2_at, a2, Int32.add_assoc, nI_add]
          · rw [h3]; unfold am_u2; rw [if_neg g]; exact b2 r j g
        simp (disch := omega) only [zi_0, zi_1, zi_2, zi_3, zi_4, zi_5, zi_6, zi_7, zi_8, zi_9, zi_10, zi_11, zi_12, zi_13, zi_14, zi_15, zi_16, zi_17, zi_18, zi_19, zi_20, zi_21, zi_22, zi_23, zi_24, zi_25, zi_26, zi_30, zi_31, zi_32, zi_34, zi_38, zi_59, zi_60, zi_61, zi_63, zi_64, zi_80, zi_96, zi_97, zi_99, zi_100, zi_122, zi_255, zi_256, zi_300, zi_398, zi_406, zi_900, zi_1000, zi_1024, zi_1624, zi_1662, zi_2030, zi_2031, zi_2068, zi_2258, zi_9999, zi_48, zi_57, zi_65536, zi_3257, zi_11483, zi_1000000, zi_729, zi_81, zi_m1, nI_add, pk_mul, nI_ltI, nI_leI, nI_eq, nI_clamp, zn_in, zn_sub1lt, zn_M, zn_Ml, zn_Mg, zn_Mle, zn_Mge, zn_sub, Nat.reduceAdd, Nat.reduceMul]
        refine ⟨fun g => next 0 ?_, fun g => next 1 ?_⟩
        · unfold pk_nr; rw [if_neg (by omega)]
        · unfold pk_nr; rw [if_pos (by omega)]
      rw [wl_M_counts_26]
      simp (disch := omega) only [e4, zi_0, zi_1, zi_2, zi_3, zi_4, zi_5, zi_6, zi_7, zi_8, zi_9, zi_10, zi_11, zi_12, zi_13, zi_14, zi_15, zi_16, zi_17, zi_18, zi_19, zi_20, zi_21, zi_22, zi_23, zi_24, zi_25, zi_26, zi_30, zi_31, zi_32, zi_34, zi_38, zi_59, zi_60, zi_61, zi_63, zi_64, zi_80, zi_96, zi_97, zi_99, zi_100, zi_122, zi_255, zi_256, zi_300, zi_398, zi_406, zi_900, zi_1000, zi_1024, zi_1624, zi_1662, zi_2030, zi_2031, zi_2068, zi_2258, zi_9999, zi_48, zi_57, zi_65536, zi_3257, zi_11483, zi_1000000, zi_729, zi_81, zi_m1, nI_add, pk_mul, nI_ltI, nI_leI, nI_eq, nI_clamp, zn_in, zn_sub1lt, zn_M, zn_Ml, zn_Mg, zn_Mle, zn_Mge, zn_sub, Nat.reduceAdd, Nat.reduceMul]
      refine ⟨fun g => absurd g (by omega), fun _ => ⟨by omega, by omega, fun g => fin true ?_, fun g => fin false ?_⟩⟩
      · unfold pk_at; rw [if_pos g]; rfl
      · unfold pk_at; rw [if_neg g]; rfl
/-- what was counted: all, without a cell, without a hit -/
def pe (q : Nat → Nat) (A : Nat) (V W : Nat → Nat) (I : am_TI) : Prop := I 103 33 = nI A ∧ ∀ y, y < (q 0 * q 1) → I 116 y = iI ((A : Int) - V y) ∧ I 117 y = iI ((A : Int) - W y)
def pa (lo : Nat → Bool) (x : Nat → Nat) : Nat → Nat
  | 0 => 1
  | l + 1 => if lo (x l) = true then 0 else pa lo x l
theorem pa_cong {lo : Nat → Bool} {x x' : Nat → Nat} : ∀ {l}, (∀ i, i < l → x i = x' i) → pa lo x l = pa lo x' l
  | 0, _ => rfl
  | l + 1, h => by rw [pa, pa, h l (by omega), pa_cong (fun i hi => h i (by omega))]
theorem pa_le (lo : Nat → Bool) (x : Nat → Nat) : ∀ l, pa lo x l ≤ 1
  | 0 => Nat.le_refl _
  | l + 1 => by
    have := pa_le lo x l
    rw [pa]; split <;> omega
theorem pa_at {x : Nat → Nat} {y : Nat} : ∀ k, (∀ i j, i < j → j < k → x i < x j) → zsum (pk_at x y) k + pa (fun z => decide (z = y)) x k = 1
  | 0, _ => rfl
  | k + 1, h => by
    have ih := pa_at (x := x) (y := y) k (fun i j a b => h i j a (by omega))
    rw [zsum, pa, pk_at]
    by_cases g : x k = y
    · rw [if_pos g, if_pos (by simpa using g)]
      have z : zsum (pk_at x y) k = 0 := zsum_0 (fun i hi => by
        unfold pk_at
        have := h i k hi (by omega)
        rw [if_neg (by omega)])
      omega
    · rw [if_neg g, if_neg (by simpa using g)]; omega
theorem pa_nr {q x : Nat → Nat} {y : Nat} : ∀ k, (if zsum (pk_nr q x y) k = 0 then 0 else 1) + pa (fun z => decide (sq_far (q 0) z y ≤ 1)) x k = 1
  | 0 => rfl
  | k + 1 => by
    have ih := pa_nr (q := q) (x := x) (y := y) k
    by_cases g : sq_far (q 0) (x k) y ≤ 1
    · have a : zsum (pk_nr q x y) (k + 1) ≠ 0 := by rw [zsum, pk_nr, if_pos g]; omega
      have b : pa (fun z => decide (sq_far (q 0) z y ≤ 1)) x (k + 1) = 0 := by rw [pa, if_pos (by simpa using g)]
      rw [if_neg a, b]
    · have a : zsum (pk_nr q x y) (k + 1) = zsum (pk_nr q x y) k := by rw [zsum, pk_nr, if_neg g]; rfl
      have b : pa (fun z => decide (sq_far (q 0) z y ≤ 1)) x (k + 1) = pa (fun z => decide (sq_far (q 0) z y ≤ 1)) x k := by rw [pa, if_neg (by simpa using g)]
      rw [a, b]; exact ih
def fz (I I1 : am_TI) : Prop := ∀ r j, ¬ (r = 103 ∧ j = 33) → r ≠ 114 → r ≠ 115 → r ≠ 116 → r ≠ 117 → I1 r j = I r j
theorem fz.trans (h : fz I I1) (h2 : fz I1 I2) : fz I I2 := fun r j a b e f g => (h2 r j a b e f g).trans (h r j a b e f g)
theorem fz.sq (h : fz I I1) (h1 : sq_M q 0 I L) (ok : sq_Ok q) : sq_M q 0 I1 L := h1.keep (fun k _ _ => h 104 k (by omega) (by omega) (by omega) (by omega) (by omega)) rfl ok.2.2.2.2.1
/-- how many turns of the loop -/
def ef : Nat → Nat → Nat
  | 0, _ => 1
  | r + 1, m => ef r m + (if m ≤ 1 then 0 else ef r (m - 1)) + 1
theorem sm_enum (ok : sq_Ok q) {dg k : Nat} (hd : dg < 16) (hk : k ≤ 4) {Q : am_TI → Prop} : ∀ m, 0 < m → m ≤ k → ∀ r I y0 D x A V W l, l + m = k → y0 + r = (q 0 * q 1) → D < 16 → sq_M q 0 I L → I 114 l = nI y0 - nI 1 → I 115 l = nI D → (∀ i, i < l → I 114 i = nI (x i) ∧ x i < y0) → (∀ i j, i < j → j < l → x i < x j) → pe q A V W I → ∀ z, (∀ I', (∀ i, i < l → I' 114 i = I 114 i ∧ I' 115 i = I 115 i) → pe q (A + wd (sq_dogsBy q) (fun _ => false) (q 0 * q 1) dg r m D) (fun y => V y + pa (fun z => decide (z = y)) x l * wd (sq_dogsBy q) (fun z => decide (z = y)) (q 0 * q 1) dg r m D) (fun y => W y + pa (fun z => decide (sq_far (q 0) z y ≤ 1)) x l * wd (sq_dogsBy q) (fun z => decide (sq_far (q 0) z y ≤ 1)) (q 0 * q 1) dg r m D) I' → fz I I' → wl_M_laysPlacings_66 L R 103 (nI dg) (nI k) Q z I' (nI l + -1)) → wl_M_laysPlacings_66 L R 103 (nI dg) (nI k) Q (z + ef r m) I (nI l) := by
  have o := ok.cells
  intro m
  induction m with
  | zero => intro h; omega
  | succ m ihm =>
    intro _ hmk r
    induction r with
    | zero =>
      intro I y0 D x A V W l hl hy hD h e1 e2 e3 e4 p z K
      have hz := K (am_u2 I 114 l (nI y0)) (fun i hi => ⟨by rw [am_u2_ne _ _ _ _ (by omega)], by rw [am_u2o (by omega)]⟩) (by
        have w0 : ∀ lo : Nat → Bool, wd (sq_dogsBy q) lo (q 0 * q 1) dg 0 (m + 1) D = 0 := fun lo => by rw [wd, if_neg (by omega)]
        simp only [w0, Nat.mul_zero, Nat.add_zero]
        unfold pe
        rw [am_u2o (by omega)]
        refine ⟨p.1, fun y hy => ?_⟩
        rw [am_u2o (by omega), am_u2o (by omega)]; exact p.2 y hy) (fun r j _ g _ _ _ => by rw [am_u2_row _ _ _ _ g])
      rw [ef, wl_M_laysPlacings_66]
      have ey : I 114 l + nI 1 = nI y0 := by rw [e1]; exact Int32.sub_add_cancel _ _
      simp (disch := omega) only [ey, zi_0, zi_1, zi_2, zi_3, zi_4, zi_5, zi_6, zi_7, zi_8, zi_9, zi_10, zi_11, zi_12, zi_13, zi_14, zi_15, zi_16, zi_17, zi_18, zi_19, zi_20, zi_21, zi_22, zi_23, zi_24, zi_25, zi_26, zi_30, zi_31, zi_32, zi_34, zi_38, zi_59, zi_60, zi_61, zi_63, zi_64, zi_80, zi_96, zi_97, zi_99, zi_100, zi_122, zi_255, zi_256, zi_300, zi_398, zi_406, zi_900, zi_1000, zi_1024, zi_1624, zi_1662, zi_2030, zi_2031, zi_2068, zi_2258, zi_9999, zi_48, zi_57, zi_65536, zi_3257, zi_11483, zi_1000000, zi_729, zi_81, zi_m1, nI_add, pk_mul, nI_ltI, nI_leI, nI_eq, nI_clamp, zn_in, zn_sub1lt, zn_M, zn_Ml, zn_Mg, zn_Mle, zn_Mge, zn_sub, Nat.reduceAdd, Nat.reduceMul]
      refine ⟨fun g => absurd g (by omega), fun _ => ⟨fun g => absurd g (by omega), fun _ => ⟨by omega, by omega, fun I4 h4 => ⟨by omega, ?_⟩⟩⟩⟩
      subst h4
      refine sm_cells (h.keep (fun k _ _ => by rw [am_u2o (by omega)]) rfl ok.2.2.2.2.1) ?_
      rw [am_u2_at, nI_eq (by omega) (by omega)]
      exact ⟨fun _ => hz, fun g => absurd (by omega) g⟩
    | succ r ihr =>
      intro I y0 D x A V W l hl hy hD h e1 e2 e3 e4 p z K
      have ey : I 114 l + nI 1 = nI y0 := by rw [e1]; exact Int32.sub_add_cancel _ _
      have ul := sq_dogsBy_lt ok y0
      have Dl : D ||| sq_dogsBy q y0 < 16 := or16 hD ul
      have cy : (q 0 * q 1) - (r + 1) = y0 := by omega
      have y1 : nI (y0 + 1) - nI 1 = nI y0 := by rw [zn_sub (by omega)]; rfl
      -- the state behind the cell that is tried
      have h4 : sq_M q 0 (am_u2 I 114 l (nI y0)) L := h.keep (fun k _ _ => by rw [am_u2o (by omega)]) rfl ok.2.2.2.2.1
      have p4 : pe q A V W (am_u2 I 114 l (nI y0)) := by
        unfold pe
        rw [am_u2o (by omega)]
        refine ⟨p.1, fun y hy => ?_⟩
        rw [am_u2o (by omega), am_u2o (by omega)]; exact p.2 y hy
      have wr : ∀ lo : Nat → Bool, wd (sq_dogsBy q) lo (q 0 * q 1) dg (r + 1) (m + 1) D = wd (sq_dogsBy q) lo (q 0 * q 1) dg r (m + 1) D + (if lo y0 = true then 0 else wd (sq_dogsBy q) lo (q 0 * q 1) dg r m (D ||| sq_dogsBy q y0)) := fun lo => by
        rw [wd, if_neg (by omega), cy, Nat.add_sub_cancel]
      have px : ∀ lo : Nat → Bool, pa lo (zu x l y0) (l + 1) = if lo y0 = true then 0 else pa lo x l := fun lo => by
        rw [pa, zu_s, pa_cong (x := zu x l y0) (x' := x) (fun i hi => zu_n (by omega))]
      have mulx : ∀ lo : Nat → Bool, pa lo (zu x l y0) (l + 1) * wd (sq_dogsBy q) lo (q 0 * q 1) dg r m (D ||| sq_dogsBy q y0) + pa lo x l * wd (sq_dogsBy q) lo (q 0 * q 1) dg r (m + 1) D = pa lo x l * wd (sq_dogsBy q) lo (q 0 * q 1) dg (r + 1) (m + 1) D := fun lo => by
        rw [px, wr, Nat.mul_add, Nat.add_comm]
        congr 1
        split
        · rw [Nat.zero_mul, Nat.mul_zero]
        · rfl
      have go : ∀ I7 A' V' W', sq_M q 0 I7 L → (∀ i, i < l → I7 114 i = I 114 i ∧ I7 115 i = I 115 i) → I7 114 l = nI y0 → I7 115 l = nI D → fz I I7 → pe q A' V' W' I7 → (A' = A + wd (sq_dogsBy q) (fun _ => false) (q 0 * q 1) dg r m (D ||| sq_dogsBy q y0)) → (V' = fun y => V y + pa (fun z => decide (z = y)) (zu x l y0) (l + 1) * wd (sq_dogsBy q) (fun z => decide (z = y)) (q 0 * q 1) dg r m (D ||| sq_dogsBy q y0)) → (W' = fun y => W y + pa (fun z => decide (sq_far (q 0) z y ≤ 1)) (zu x l y0) (l + 1) * wd (sq_dogsBy q) (fun z => decide (sq_far (q 0) z y ≤ 1)) (q 0 * q 1) dg r m (D ||| sq_dogsBy q y0)) → wl_M_laysPlacings_66 L R 103 (nI dg) (nI k) Q (z + ef r (m + 1)) I7 (nI l) := by
        intro I7 A' V' W' h7 s7 t7 u7 f7 p7 eA eV eW
        subst eA eV eW
        refine ihr I7 (y0 + 1) D x _ _ _ l hl (by omega) hD h7 (by rw [t7, y1]) u7 (fun i hi => ?_) e4 p7 z (fun I8 s8 p8 f8 => K I8 (fun i hi => ?_) ?_ (f7.trans f8))
        · rw [(s7 i hi).1]; exact ⟨(e3 i hi).1, by have := (e3 i hi).2; omega⟩
        · rw [(s8 i hi).1, (s8 i hi).2]; exact s7 i hi
        · have eA : A + wd (sq_dogsBy q) (fun _ => false) (q 0 * q 1) dg r m (D ||| sq_dogsBy q y0) + wd (sq_dogsBy q) (fun _ => false) (q 0 * q 1) dg r (m + 1) D = A + wd (sq_dogsBy q) (fun _ => false) (q 0 * q 1) dg (r + 1) (m + 1) D := by
            rw [wr, if_neg (by decide)]; omega
          rw [eA] at p8
          simp only [Nat.add_assoc, mulx] at p8
          exact p8
      have body : ∀ z, ((l + 1 = k → (D ||| sq_dogsBy q y0 = dg → wp_M_counts (am_u2 I 114 l (nI y0)) L R 103 (nI k) (fun I7 => wl_M_laysPlacings_66 L R 103 (nI dg) (nI k) Q z I7 (nI l))) ∧ (¬ D ||| sq_dogsBy q y0 = dg → wl_M_laysPlacings_66 L R 103 (nI dg) (nI k) Q z (am_u2 I 114 l (nI y0)) (nI l))) ∧ (¬ l + 1 = k → wl_M_laysPlacings_66 L R 103 (nI dg) (nI k) Q z (am_u2 (am_u2 (am_u2 I 114 l (nI y0)) 114 (l + 1) (nI y0)) 115 (l + 1) (nI (D ||| sq_dogsBy q y0))) (nI (l + 1)))) → wl_M_laysPlacings_66 L R 103 (nI dg) (nI k) Q (z + 1) I (nI l) := by
        rintro z ⟨b1, b2⟩
        rw [wl_M_laysPlacings_66]
        simp (disch := omega) only [ey, zi_0, zi_1, zi_2, zi_3, zi_4, zi_5, zi_6, zi_7, zi_8, zi_9, zi_10, zi_11, zi_12, zi_13, zi_14, zi_15, zi_16, zi_17, zi_18, zi_19, zi_20, zi_21, zi_22, zi_23, zi_24, zi_25, zi_26, zi_30, zi_31, zi_32, zi_34, zi_38, zi_59, zi_60, zi_61, zi_63, zi_64, zi_80, zi_96, zi_97, zi_99, zi_100, zi_122, zi_255, zi_256, zi_300, zi_398, zi_406, zi_900, zi_1000, zi_1024, zi_1624, zi_1662, zi_2030, zi_2031, zi_2068, zi_2258, zi_9999, zi_48, zi_57, zi_65536, zi_3257, zi_11483, zi_1000000, zi_729, zi_81, zi_m1, nI_add, pk_mul, nI_ltI, nI_leI, nI_eq, nI_clamp, zn_in, zn_sub1lt, zn_M, zn_Ml, zn_Mg, zn_Mle, zn_Mge, zn_sub, Nat.reduceAdd, Nat.reduceMul]
        refine ⟨fun g => absurd g (by omega), fun _ => ⟨fun g => absurd g (by omega), fun _ => ⟨by omega, by omega, fun I4 hI4 => ⟨by omega, ?_⟩⟩⟩⟩
        subst hI4
        refine sm_cells h4 ?_
        rw [am_u2_at, nI_eq (by omega) (by omega)]
        refine ⟨fun g => absurd g (by omega), fun _ => ⟨by omega, by omega, sm_dogsBy h4 ok (by omega) ?_⟩⟩
        have e25 : am_u2 I 114 l (nI y0) 115 l = nI D := by rw [am_u2o (by omega)]; exact e2
        rw [e25, ze_or, nI_eq (by omega) (by omega)]
        refine ⟨fun g => ⟨fun g2 => (b1 g).1 g2, fun g2 => (b1 g).2 g2⟩, fun g => ⟨by omega, by omega, fun I5 h5 => ⟨by omega, fun I6 h6 => ?_⟩⟩⟩
        subst h5 h6
        have e4l : am_u2 I 114 l (nI y0) 114 l = nI y0 := am_u2_at _ _ _ _
        rw [Nat.add_sub_cancel, e4l]
        exact b2 g
      rw [ef, ← Nat.add_assoc, ← Nat.add_assoc]
      apply body
      by_cases gm : m = 0
      · subst gm
        rw [if_pos (by omega), Nat.add_zero]
        by_cases gd : D ||| sq_dogsBy q y0 = dg
        · -- counted
          have cnt : ∀ I7, I7 103 33 = am_u2 I 114 l (nI y0) 103 33 + 1 → (∀ y, y < (q 0 * q 1) → I7 116 y = am_u2 I 114 l (nI y0) 116 y + nI (zsum (pk_at (zu x l y0) y) k) ∧ I7 117 y = am_u2 I 114 l (nI y0) 117 y + nI (if zsum (pk_nr q (zu x l y0) y) k = 0 then 0 else 1)) → (∀ r j, ¬ (r = 103 ∧ j = 33) → r ≠ 116 → r ≠ 117 → I7 r j = am_u2 I 114 l (nI y0) r j) → wl_M_laysPlacings_66 L R 103 (nI dg) (nI k) Q (z + ef r (0 + 1)) I7 (nI l) := by
            intro I7 c1 c2 c3
            have w1 : ∀ lo : Nat → Bool, wd (sq_dogsBy q) lo (q 0 * q 1) dg r 0 (D ||| sq_dogsBy q y0) = 1 := fun lo => by rw [wd_k0, if_pos gd]
            refine go I7 (A + 1) (fun y => V y + pa (fun z => decide (z = y)) (zu x l y0) k) (fun y => W y + pa (fun z => decide (sq_far (q 0) z y ≤ 1)) (zu x l y0) k) ?_ (fun i hi => ?_) ?_ ?_ (fun r j g1 g2 g3 g4 g5 => ?_) ?_ ?_ ?_ ?_
            · exact h4.keep (fun k _ _ => c3 104 k (by omega) (by omega) (by omega)) rfl ok.2.2.2.2.1
            · rw [c3 114 i (by omega) (by omega) (by omega), c3 115 i (by omega) (by omega) (by omega), am_u2_ne _ _ _ _ (by omega), am_u2o (by omega)]; exact ⟨rfl, rfl⟩
            · rw [c3 114 l (by omega) (by omega) (by omega), am_u2_at]
            · rw [c3 115 l (by omega) (by omega) (by omega), am_u2o (by omega)]; exact e2
            · rw [c3 r j g1 g4 g5, am_u2o g2]
            · have inc : ∀ i j, i < j → j < k → zu x l y0 i < zu x l y0 j := fun i j a b => by
                rw [zu_n (show i ≠ l by omega)]
                by_cases ej : j = l
                · rw [ej, zu_s]; exact (e3 i (by omega)).2
                · rw [zu_n ej]; exact e4 i j a (by omega)
              refine ⟨?_, fun y hy => ?_⟩
              · rw [c1, p4.1]; exact nI_add A 1
              · have q1 := pa_at (x := zu x l y0) (y := y) k inc
                have q2 := pa_nr (q := q) (x := zu x l y0) (y := y) k
                obtain ⟨d1, d2⟩ := c2 y hy
                rw [d1, d2, (p4.2 y hy).1, (p4.2 y hy).2, iI_n, iI_n, iI_add, iI_add]
                constructor
                · dsimp only; congr 1; omega
                · dsimp only; congr 1; omega
            · rw [w1]
            · funext y; rw [w1, Nat.mul_one, show l + 1 = k by omega]
            · funext y; rw [w1, Nat.mul_one, show l + 1 = k by omega]
          refine ⟨fun _ => ⟨fun _ => sm_counts h4 ok hk (x := zu x l y0) (fun i hi => ?_) (fun i hi => ?_) (fun I7 c1 c2 c3 => cnt I7 c1 c2 c3), fun g => absurd gd g⟩, fun g => absurd (by omega) g⟩
          · by_cases ei : i = l
            · rw [ei, zu_s]; omega
            · rw [zu_n ei]
              have := (e3 i (by omega)).2
              omega
          · by_cases ei : i = l
            · rw [ei, am_u2_at, zu_s]
            · rw [am_u2_ne _ _ _ _ ei, zu_n ei]; exact (e3 i (by omega)).1
        · have hz := go (am_u2 I 114 l (nI y0)) A V W h4 (fun i hi => ⟨by rw [am_u2_ne _ _ _ _ (by omega)], by rw [am_u2o (by omega)]⟩) (am_u2_at _ _ _ _) (by rw [am_u2o (by omega)]; exact e2) (fun r j _ g _ _ _ => by rw [am_u2_row _ _ _ _ g]) p4 (by rw [wd_k0, if_neg gd, Nat.add_zero]) (by funext y; rw [wd_k0, if_neg gd, Nat.mul_zero, Nat.add_zero]) (by funext y; rw [wd_k0, if_neg gd, Nat.mul_zero, Nat.add_zero])
          exact ⟨fun _ => ⟨fun g => absurd g gd, fun _ => hz⟩, fun g => absurd (by omega) g⟩
      · rw [if_neg (by omega), Nat.add_sub_cancel]
        have hz : wl_M_laysPlacings_66 L R 103 (nI dg) (nI k) Q (z + ef r (m + 1) + ef r m) (am_u2 (am_u2 (am_u2 I 114 l (nI y0)) 114 (l + 1) (nI y0)) 115 (l + 1) (nI (D ||| sq_dogsBy q y0))) (nI (l + 1)) := by
          refine ihm (by omega) (by omega) r _ (y0 + 1) (D ||| sq_dogsBy q y0) (zu x l y0) A V W (l + 1) (by omega) (by omega) Dl ?_ ?_ (am_u2_at _ _ _ _) (fun i hi => ?_) (fun i j a b => ?_) ?_ _ (fun I8 s8 p8 f8 => ?_)
          · exact h4.keep (fun k _ _ => by rw [am_u2o (by omega), am_u2o (by omega)]) rfl ok.2.2.2.2.1
          · rw [am_u2o (by omega), am_u2_at, y1]
          · rw [am_u2o (by omega), am_u2_ne _ _ _ _ (by omega)]
            by_cases ei : i = l
            · rw [ei, am_u2_at, zu_s]; exact ⟨rfl, by omega⟩
            · rw [am_u2_ne _ _ _ _ ei, zu_n ei]
              have := e3 i (by omega)
              exact ⟨this.1, by omega⟩
          · rw [zu_n (show i ≠ l by omega)]
            by_cases ej : j = l
            · rw [ej, zu_s]; exact (e3 i (by omega)).2
            · rw [zu_n ej]; exact e4 i j a (by omega)
          · unfold pe
            rw [am_u2o (by omega), am_u2o (by omega)]
            refine ⟨p4.1, fun y hy => ?_⟩
            rw [am_u2o (by omega), am_u2o (by omega), am_u2o (by omega), am_u2o (by omega)]; exact p4.2 y hy
          · have el : nI (l + 1) + -1 = nI l := pk_m1 l
            rw [el]
            refine go I8 _ _ _ (f8.sq (h4.keep (fun k _ _ => by rw [am_u2o (by omega), am_u2o (by omega)]) rfl ok.2.2.2.2.1) ok) (fun i hi => ?_) ?_ ?_ (fun r j g1 g2 g3 g4 g5 => ?_) p8 rfl rfl rfl
            · rw [(s8 i (by omega)).1, (s8 i (by omega)).2, am_u2o (by omega), am_u2_ne _ _ _ _ (by omega), am_u2_ne _ _ _ _ (by omega), am_u2_ne _ _ _ _ (by omega), am_u2o (by omega), am_u2o (by omega)]; exact ⟨rfl, rfl⟩
            · rw [(s8 l (by omega)).1, am_u2o (by omega), am_u2_ne _ _ _ _ (by omega), am_u2_at]
            · rw [(s8 l (by omega)).2, am_u2_ne _ _ _ _ (by omega), am_u2o (by omega), am_u2o (by omega)]; exact e2
            · rw [f8 r j g1 g2 g3 g4 g5, am_u2o g3, am_u2o g2, am_u2o g2]
        exact ⟨fun g => absurd g (by omega), fun _ => hz⟩
end
